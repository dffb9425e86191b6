/-- a row of the library's whole: with it here a new machine reads the claim over the whole library at once, not after sixteen minutes -/
theorem lw_wide : True := (fun _ => trivial) @FP.Core.isNaN_bits
