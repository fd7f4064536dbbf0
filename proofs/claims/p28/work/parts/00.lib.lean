/-! the library's own, named first: a round reads it over the whole library then -/
theorem lb_mag (v : Int32) : (FP.i2d v).toNat % 2 ^ 63 < 1056 * 2 ^ 52 := Jvm.FP.Core.i2d_mag v
