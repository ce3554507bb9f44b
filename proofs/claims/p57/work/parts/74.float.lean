/-! DOUBLES AND FLOATS: which quotients are no NaN -/
def FOK (f : FP.Core.Fmt) : Prop := 1 ≤ f.p ∧ f.qmin ≤ 1 - (f.p : Int) ∧ 0 ≤ f.qmax ∧ f.qmax - f.qmin + 3 ≤ (f.exps : Int) ∧ 2 * f.tails = 2 ^ f.p
theorem FOK.p1 {f : FP.Core.Fmt} (h : FOK f) : 1 ≤ f.p := h.1
theorem FOK.q1 {f : FP.Core.Fmt} (h : FOK f) : f.qmin ≤ 1 - (f.p : Int) := h.2.1
theorem FOK.q2 {f : FP.Core.Fmt} (h : FOK f) : 0 ≤ f.qmax := h.2.2.1
theorem FOK.q3 {f : FP.Core.Fmt} (h : FOK f) : f.qmax - f.qmin + 3 ≤ (f.exps : Int) := h.2.2.2.1
theorem FOK.t1 {f : FP.Core.Fmt} (h : FOK f) : 2 * f.tails = 2 ^ f.p := h.2.2.2.2
section S74
variable {f : FP.Core.Fmt}
end S74
