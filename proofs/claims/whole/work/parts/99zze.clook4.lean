/-! later -/
theorem ph_e : True := trivial
