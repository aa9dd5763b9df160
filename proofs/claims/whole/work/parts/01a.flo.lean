/-! the library's laws of floating numbers are wanted behind -/
theorem fl_good : FP.Core.Good FP.Core.b64 := FP.Core.good_b64
