/-! THROWS: what the tables say of the four exceptions, the ends of a method -/
def xNm : List String := ["java/lang/RuntimeException", "java/lang/Exception"]
def xIc (E : Nat) : Nat := match E with
  | 0 => 66
  | 1 => 245
  | 2 => 162
  | _ => 183
theorem lk8_x : ∀ x ∈ lk 8, x.2.1 = 4 → x.2.2.1 < 4 ∧ x.1 = xIc x.2.2.1 := by decide +kernel
theorem x_fit : ∀ E, E < 4 → Bundle.fit (zX E) = true := by decide +kernel
theorem x_fits : ∀ n ∈ xNm, Bundle.fit n = true := by decide +kernel
theorem x_ini : ∀ E, E < 4 → Cond.initialized (zX E) ∈ tables_1 := by decide +kernel
theorem x_good : ∀ E, E < 4 → ∀ w ∈ (vx_at0 "LineBalls" (xIc E) (zX E) xNm).filter goodWord, w ∈ tables_1 := by decide +kernel
theorem x_ng : ∀ E, E < 4 → ∀ w ∈ (vx_at0 "LineBalls" (xIc E) (zX E) xNm).filter (fun w => !goodWord w), w ∈ NGW := by decide +kernel
theorem x_ot : ∀ E, E < 4 → ∀ w ∈ vx_at0 "LineBalls" (xIc E) (zX E) xNm, vx_ot w = true := by decide +kernel
