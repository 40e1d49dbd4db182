/-! logic follows -/
theorem zz_ok : True := trivial
