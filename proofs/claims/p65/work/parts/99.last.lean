/-! the end -/
theorem zz_last : True := trivial
