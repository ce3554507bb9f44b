/-! CLASS AND REFERENCE AGREE: load, the whole -/
section S91
variable {xs : Nat → Int32} {N : NX} {d c t n : Nat} {I : Nat → Nat → Int32} {L : Nat → Nat → Int64} {D : Nat → Nat → UInt64} {f : Nat → Int}
theorem EX_dr {β : Nat → Int} {m : Nat} (h : DR β n m) : EX c β n := ⟨⟨by rw [h.1]; omega, by rw [h.1]; omega⟩, fun k _ h2 => by rw [h.2.1] at h2; omega, h.2.2.2⟩
end S91
