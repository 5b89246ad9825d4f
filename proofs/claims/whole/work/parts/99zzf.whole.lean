/-! later -/
theorem ph_f : True := trivial
