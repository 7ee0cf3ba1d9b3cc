/-! a name of the rest of the library: it is read from the first part on -/
section
theorem x_wide : True := by
  have h := @FP.Core.ddiv_mag
  trivial
end
