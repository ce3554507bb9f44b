/-! DECODING by one walk over a method's bytes -/
def DCc (code : ByteArray) (p : Nat) (i : Instr) : Prop := decode code p = .ok (i, ilen i)
theorem u1_at {code : ByteArray} {p : Nat} {b : UInt8} (h : code.data.toList[p]? = some b) : (Reader.u1 : Decoder Nat) code p = .ok (b.toNat, p + 1) := by
  have h0 := List.getElem?_eq_some_iff.mp h
  have hs : p < code.size := by
    have h1 := h0.1
    rw [Array.length_toList] at h1
    exact h1
  have h2 : code[p] = b := by
    have h1 := h0.2
    rw [Array.getElem_toList] at h1
    exact h1
  have e : (Reader.u1 : Decoder Nat) code p = (if h : p < code.size then (do set (p + 1); pure code[p].toNat : Decoder Nat) else throw (HasTruncated.truncated p)) code p := rfl
  rw [e, dif_pos hs, h2]
  rfl
/-- bytes at a place -/
def b3 (code : ByteArray) (p b0 b1 b2 : Nat) (k : Nat) : Prop :=
  (Reader.u1 : Decoder Nat) code p = .ok (b0, p + 1) ∧ (2 ≤ k → (Reader.u1 : Decoder Nat) code (p + 1) = .ok (b1, p + 2)) ∧ (3 ≤ k → (Reader.u1 : Decoder Nat) code (p + 2) = .ok (b2, p + 3))
theorem ex_bind {ε α β : Type} {x : Except ε α} {a : α} {f : α → Except ε β} (h : x = .ok a) : (x >>= f) = f a := by subst h; rfl
theorem rd_bind {α β : Type} {x : Decoder α} {f : α → Decoder β} {code : ByteArray} {p q : Nat} {a : α} (h : x code p = .ok (a, q)) : (x >>= f) code p = f a code q := by
  show (x code p >>= fun r => f r.1 code r.2) = _
  rw [h]
  rfl
theorem dec_of {code : ByteArray} {p q n : Nat} {i : Instr} (h : Decoder.instr p code p = .ok (i, q)) (hn : q - p = n) : decode code p = .ok (i, n) := by
  show (Decoder.instr p code p >>= fun r => pure (r.1, r.2 - p)) = _
  rw [h]
  subst hn
  rfl
theorem u2_at {code : ByteArray} {p b1 b2 : Nat} (h1 : (Reader.u1 : Decoder Nat) code p = .ok (b1, p + 1)) (h2 : (Reader.u1 : Decoder Nat) code (p + 1) = .ok (b2, p + 2)) : (Reader.u2 : Decoder Nat) code p = .ok (b1 * 256 + b2, p + 2) := by
  unfold Reader.u2
  rw [rd_bind h1, rd_bind h2]
  rfl
theorem s2_at {code : ByteArray} {p b1 b2 : Nat} (h1 : (Reader.u1 : Decoder Nat) code p = .ok (b1, p + 1)) (h2 : (Reader.u1 : Decoder Nat) code (p + 1) = .ok (b2, p + 2)) : (Reader.s2 : Decoder Int) code p = .ok (Reader.signed 16 (b1 * 256 + b2), p + 2) := by
  show (Reader.u2 code p >>= fun r => pure (Reader.signed 16 r.1, r.2)) = _
  rw [u2_at h1 h2]
  rfl
theorem s1_at {code : ByteArray} {p b1 : Nat} (h1 : (Reader.u1 : Decoder Nat) code p = .ok (b1, p + 1)) : (Reader.s1 : Decoder Int) code p = .ok (Reader.signed 8 b1, p + 1) := by
  show (Reader.u1 code p >>= fun r => pure (Reader.signed 8 r.1, r.2)) = _
  rw [h1]
  rfl
set_option maxRecDepth 4000 in
theorem dk1 {code : ByteArray} {p b1 b2 : Nat} (hb : b3 code p 1 b1 b2 1) : DCc code p (.aconst_null) := by
  obtain ⟨h0, h1, h2⟩ := hb
  refine dec_of (q := p + 1) ?_ (by rw [Nat.add_sub_cancel_left]; rfl)
  exact (rd_bind (x := Reader.u1) h0).trans rfl
set_option maxRecDepth 4000 in
theorem dk2 {code : ByteArray} {p b1 b2 : Nat} (hb : b3 code p 2 b1 b2 1) : DCc code p (.iconst (-1)) := by
  obtain ⟨h0, h1, h2⟩ := hb
  refine dec_of (q := p + 1) ?_ (by rw [Nat.add_sub_cancel_left]; rfl)
  exact (rd_bind (x := Reader.u1) h0).trans rfl
set_option maxRecDepth 4000 in
theorem dk3 {code : ByteArray} {p b1 b2 : Nat} (hb : b3 code p 3 b1 b2 1) : DCc code p (.iconst 0) := by
  obtain ⟨h0, h1, h2⟩ := hb
  refine dec_of (q := p + 1) ?_ (by rw [Nat.add_sub_cancel_left]; rfl)
  exact (rd_bind (x := Reader.u1) h0).trans rfl
set_option maxRecDepth 4000 in
theorem dk4 {code : ByteArray} {p b1 b2 : Nat} (hb : b3 code p 4 b1 b2 1) : DCc code p (.iconst 1) := by
  obtain ⟨h0, h1, h2⟩ := hb
  refine dec_of (q := p + 1) ?_ (by rw [Nat.add_sub_cancel_left]; rfl)
  exact (rd_bind (x := Reader.u1) h0).trans rfl
set_option maxRecDepth 4000 in
theorem dk5 {code : ByteArray} {p b1 b2 : Nat} (hb : b3 code p 5 b1 b2 1) : DCc code p (.iconst 2) := by
  obtain ⟨h0, h1, h2⟩ := hb
  refine dec_of (q := p + 1) ?_ (by rw [Nat.add_sub_cancel_left]; rfl)
  exact (rd_bind (x := Reader.u1) h0).trans rfl
set_option maxRecDepth 4000 in
theorem dk6 {code : ByteArray} {p b1 b2 : Nat} (hb : b3 code p 6 b1 b2 1) : DCc code p (.iconst 3) := by
  obtain ⟨h0, h1, h2⟩ := hb
  refine dec_of (q := p + 1) ?_ (by rw [Nat.add_sub_cancel_left]; rfl)
  exact (rd_bind (x := Reader.u1) h0).trans rfl
set_option maxRecDepth 4000 in
theorem dk7 {code : ByteArray} {p b1 b2 : Nat} (hb : b3 code p 7 b1 b2 1) : DCc code p (.iconst 4) := by
  obtain ⟨h0, h1, h2⟩ := hb
  refine dec_of (q := p + 1) ?_ (by rw [Nat.add_sub_cancel_left]; rfl)
  exact (rd_bind (x := Reader.u1) h0).trans rfl
set_option maxRecDepth 4000 in
theorem dk8 {code : ByteArray} {p b1 b2 : Nat} (hb : b3 code p 8 b1 b2 1) : DCc code p (.iconst 5) := by
  obtain ⟨h0, h1, h2⟩ := hb
  refine dec_of (q := p + 1) ?_ (by rw [Nat.add_sub_cancel_left]; rfl)
  exact (rd_bind (x := Reader.u1) h0).trans rfl
set_option maxRecDepth 4000 in
theorem dk9 {code : ByteArray} {p b1 b2 : Nat} (hb : b3 code p 9 b1 b2 1) : DCc code p (.lconst 0) := by
  obtain ⟨h0, h1, h2⟩ := hb
  refine dec_of (q := p + 1) ?_ (by rw [Nat.add_sub_cancel_left]; rfl)
  exact (rd_bind (x := Reader.u1) h0).trans rfl
set_option maxRecDepth 4000 in
theorem dk10 {code : ByteArray} {p b1 b2 : Nat} (hb : b3 code p 10 b1 b2 1) : DCc code p (.lconst 1) := by
  obtain ⟨h0, h1, h2⟩ := hb
  refine dec_of (q := p + 1) ?_ (by rw [Nat.add_sub_cancel_left]; rfl)
  exact (rd_bind (x := Reader.u1) h0).trans rfl
set_option maxRecDepth 4000 in
theorem dk11 {code : ByteArray} {p b1 b2 : Nat} (hb : b3 code p 11 b1 b2 1) : DCc code p (.fconst 0) := by
  obtain ⟨h0, h1, h2⟩ := hb
  refine dec_of (q := p + 1) ?_ (by rw [Nat.add_sub_cancel_left]; rfl)
  exact (rd_bind (x := Reader.u1) h0).trans rfl
set_option maxRecDepth 4000 in
theorem dk12 {code : ByteArray} {p b1 b2 : Nat} (hb : b3 code p 12 b1 b2 1) : DCc code p (.fconst 1) := by
  obtain ⟨h0, h1, h2⟩ := hb
  refine dec_of (q := p + 1) ?_ (by rw [Nat.add_sub_cancel_left]; rfl)
  exact (rd_bind (x := Reader.u1) h0).trans rfl
set_option maxRecDepth 4000 in
theorem dk13 {code : ByteArray} {p b1 b2 : Nat} (hb : b3 code p 13 b1 b2 1) : DCc code p (.fconst 2) := by
  obtain ⟨h0, h1, h2⟩ := hb
  refine dec_of (q := p + 1) ?_ (by rw [Nat.add_sub_cancel_left]; rfl)
  exact (rd_bind (x := Reader.u1) h0).trans rfl
set_option maxRecDepth 4000 in
theorem dk14 {code : ByteArray} {p b1 b2 : Nat} (hb : b3 code p 14 b1 b2 1) : DCc code p (.dconst 0) := by
  obtain ⟨h0, h1, h2⟩ := hb
  refine dec_of (q := p + 1) ?_ (by rw [Nat.add_sub_cancel_left]; rfl)
  exact (rd_bind (x := Reader.u1) h0).trans rfl
set_option maxRecDepth 4000 in
theorem dk15 {code : ByteArray} {p b1 b2 : Nat} (hb : b3 code p 15 b1 b2 1) : DCc code p (.dconst 1) := by
  obtain ⟨h0, h1, h2⟩ := hb
  refine dec_of (q := p + 1) ?_ (by rw [Nat.add_sub_cancel_left]; rfl)
  exact (rd_bind (x := Reader.u1) h0).trans rfl
set_option maxRecDepth 4000 in
theorem dk16 {code : ByteArray} {p b1 b2 : Nat} (hb : b3 code p 16 b1 b2 2) : DCc code p (.bipush (Reader.signed 8 b1)) := by
  obtain ⟨h0, h1, h2⟩ := hb
  refine dec_of (q := p + 2) ?_ (by rw [Nat.add_sub_cancel_left]; rfl)
  refine (rd_bind (x := Reader.u1) h0).trans ?_
  exact rd_bind (s1_at (h1 (by decide)))
set_option maxRecDepth 4000 in
theorem dk17 {code : ByteArray} {p b1 b2 : Nat} (hb : b3 code p 17 b1 b2 3) : DCc code p (.sipush (Reader.signed 16 (b1 * 256 + b2))) := by
  obtain ⟨h0, h1, h2⟩ := hb
  refine dec_of (q := p + 3) ?_ (by rw [Nat.add_sub_cancel_left]; rfl)
  refine (rd_bind (x := Reader.u1) h0).trans ?_
  exact rd_bind (s2_at (h1 (by decide)) (h2 (by decide)))
set_option maxRecDepth 4000 in
theorem dk18 {code : ByteArray} {p b1 b2 : Nat} (hb : b3 code p 18 b1 b2 2) : DCc code p (.ldc b1) := by
  obtain ⟨h0, h1, h2⟩ := hb
  refine dec_of (q := p + 2) ?_ (by rw [Nat.add_sub_cancel_left]; rfl)
  refine (rd_bind (x := Reader.u1) h0).trans ?_
  exact rd_bind (h1 (by decide))
set_option maxRecDepth 4000 in
theorem dk19 {code : ByteArray} {p b1 b2 : Nat} (hb : b3 code p 19 b1 b2 3) : DCc code p (.ldc_w (b1 * 256 + b2)) := by
  obtain ⟨h0, h1, h2⟩ := hb
  refine dec_of (q := p + 3) ?_ (by rw [Nat.add_sub_cancel_left]; rfl)
  refine (rd_bind (x := Reader.u1) h0).trans ?_
  exact rd_bind (u2_at (h1 (by decide)) (h2 (by decide)))
set_option maxRecDepth 4000 in
theorem dk20 {code : ByteArray} {p b1 b2 : Nat} (hb : b3 code p 20 b1 b2 3) : DCc code p (.ldc2_w (b1 * 256 + b2)) := by
  obtain ⟨h0, h1, h2⟩ := hb
  refine dec_of (q := p + 3) ?_ (by rw [Nat.add_sub_cancel_left]; rfl)
  refine (rd_bind (x := Reader.u1) h0).trans ?_
  exact rd_bind (u2_at (h1 (by decide)) (h2 (by decide)))
set_option maxRecDepth 4000 in
theorem dk21 {code : ByteArray} {p b1 b2 : Nat} (hb : b3 code p 21 b1 b2 2) : DCc code p (.iload b1) := by
  obtain ⟨h0, h1, h2⟩ := hb
  refine dec_of (q := p + 2) ?_ (by rw [Nat.add_sub_cancel_left]; rfl)
  refine (rd_bind (x := Reader.u1) h0).trans ?_
  exact rd_bind (h1 (by decide))
set_option maxRecDepth 4000 in
theorem dk22 {code : ByteArray} {p b1 b2 : Nat} (hb : b3 code p 22 b1 b2 2) : DCc code p (.lload b1) := by
  obtain ⟨h0, h1, h2⟩ := hb
  refine dec_of (q := p + 2) ?_ (by rw [Nat.add_sub_cancel_left]; rfl)
  refine (rd_bind (x := Reader.u1) h0).trans ?_
  exact rd_bind (h1 (by decide))
set_option maxRecDepth 4000 in
theorem dk23 {code : ByteArray} {p b1 b2 : Nat} (hb : b3 code p 23 b1 b2 2) : DCc code p (.fload b1) := by
  obtain ⟨h0, h1, h2⟩ := hb
  refine dec_of (q := p + 2) ?_ (by rw [Nat.add_sub_cancel_left]; rfl)
  refine (rd_bind (x := Reader.u1) h0).trans ?_
  exact rd_bind (h1 (by decide))
set_option maxRecDepth 4000 in
theorem dk24 {code : ByteArray} {p b1 b2 : Nat} (hb : b3 code p 24 b1 b2 2) : DCc code p (.dload b1) := by
  obtain ⟨h0, h1, h2⟩ := hb
  refine dec_of (q := p + 2) ?_ (by rw [Nat.add_sub_cancel_left]; rfl)
  refine (rd_bind (x := Reader.u1) h0).trans ?_
  exact rd_bind (h1 (by decide))
set_option maxRecDepth 4000 in
theorem dk25 {code : ByteArray} {p b1 b2 : Nat} (hb : b3 code p 25 b1 b2 2) : DCc code p (.aload b1) := by
  obtain ⟨h0, h1, h2⟩ := hb
  refine dec_of (q := p + 2) ?_ (by rw [Nat.add_sub_cancel_left]; rfl)
  refine (rd_bind (x := Reader.u1) h0).trans ?_
  exact rd_bind (h1 (by decide))
set_option maxRecDepth 4000 in
theorem dk26 {code : ByteArray} {p b1 b2 : Nat} (hb : b3 code p 26 b1 b2 1) : DCc code p (.iload_n 0) := by
  obtain ⟨h0, h1, h2⟩ := hb
  refine dec_of (q := p + 1) ?_ (by rw [Nat.add_sub_cancel_left]; rfl)
  exact (rd_bind (x := Reader.u1) h0).trans rfl
set_option maxRecDepth 4000 in
theorem dk27 {code : ByteArray} {p b1 b2 : Nat} (hb : b3 code p 27 b1 b2 1) : DCc code p (.iload_n 1) := by
  obtain ⟨h0, h1, h2⟩ := hb
  refine dec_of (q := p + 1) ?_ (by rw [Nat.add_sub_cancel_left]; rfl)
  exact (rd_bind (x := Reader.u1) h0).trans rfl
set_option maxRecDepth 4000 in
theorem dk28 {code : ByteArray} {p b1 b2 : Nat} (hb : b3 code p 28 b1 b2 1) : DCc code p (.iload_n 2) := by
  obtain ⟨h0, h1, h2⟩ := hb
  refine dec_of (q := p + 1) ?_ (by rw [Nat.add_sub_cancel_left]; rfl)
  exact (rd_bind (x := Reader.u1) h0).trans rfl
set_option maxRecDepth 4000 in
theorem dk29 {code : ByteArray} {p b1 b2 : Nat} (hb : b3 code p 29 b1 b2 1) : DCc code p (.iload_n 3) := by
  obtain ⟨h0, h1, h2⟩ := hb
  refine dec_of (q := p + 1) ?_ (by rw [Nat.add_sub_cancel_left]; rfl)
  exact (rd_bind (x := Reader.u1) h0).trans rfl
set_option maxRecDepth 4000 in
theorem dk30 {code : ByteArray} {p b1 b2 : Nat} (hb : b3 code p 30 b1 b2 1) : DCc code p (.lload_n 0) := by
  obtain ⟨h0, h1, h2⟩ := hb
  refine dec_of (q := p + 1) ?_ (by rw [Nat.add_sub_cancel_left]; rfl)
  exact (rd_bind (x := Reader.u1) h0).trans rfl
set_option maxRecDepth 4000 in
theorem dk31 {code : ByteArray} {p b1 b2 : Nat} (hb : b3 code p 31 b1 b2 1) : DCc code p (.lload_n 1) := by
  obtain ⟨h0, h1, h2⟩ := hb
  refine dec_of (q := p + 1) ?_ (by rw [Nat.add_sub_cancel_left]; rfl)
  exact (rd_bind (x := Reader.u1) h0).trans rfl
set_option maxRecDepth 4000 in
theorem dk32 {code : ByteArray} {p b1 b2 : Nat} (hb : b3 code p 32 b1 b2 1) : DCc code p (.lload_n 2) := by
  obtain ⟨h0, h1, h2⟩ := hb
  refine dec_of (q := p + 1) ?_ (by rw [Nat.add_sub_cancel_left]; rfl)
  exact (rd_bind (x := Reader.u1) h0).trans rfl
set_option maxRecDepth 4000 in
theorem dk33 {code : ByteArray} {p b1 b2 : Nat} (hb : b3 code p 33 b1 b2 1) : DCc code p (.lload_n 3) := by
  obtain ⟨h0, h1, h2⟩ := hb
  refine dec_of (q := p + 1) ?_ (by rw [Nat.add_sub_cancel_left]; rfl)
  exact (rd_bind (x := Reader.u1) h0).trans rfl
set_option maxRecDepth 4000 in
theorem dk42 {code : ByteArray} {p b1 b2 : Nat} (hb : b3 code p 42 b1 b2 1) : DCc code p (.aload_n 0) := by
  obtain ⟨h0, h1, h2⟩ := hb
  refine dec_of (q := p + 1) ?_ (by rw [Nat.add_sub_cancel_left]; rfl)
  exact (rd_bind (x := Reader.u1) h0).trans rfl
set_option maxRecDepth 4000 in
theorem dk43 {code : ByteArray} {p b1 b2 : Nat} (hb : b3 code p 43 b1 b2 1) : DCc code p (.aload_n 1) := by
  obtain ⟨h0, h1, h2⟩ := hb
  refine dec_of (q := p + 1) ?_ (by rw [Nat.add_sub_cancel_left]; rfl)
  exact (rd_bind (x := Reader.u1) h0).trans rfl
set_option maxRecDepth 4000 in
theorem dk44 {code : ByteArray} {p b1 b2 : Nat} (hb : b3 code p 44 b1 b2 1) : DCc code p (.aload_n 2) := by
  obtain ⟨h0, h1, h2⟩ := hb
  refine dec_of (q := p + 1) ?_ (by rw [Nat.add_sub_cancel_left]; rfl)
  exact (rd_bind (x := Reader.u1) h0).trans rfl
set_option maxRecDepth 4000 in
theorem dk45 {code : ByteArray} {p b1 b2 : Nat} (hb : b3 code p 45 b1 b2 1) : DCc code p (.aload_n 3) := by
  obtain ⟨h0, h1, h2⟩ := hb
  refine dec_of (q := p + 1) ?_ (by rw [Nat.add_sub_cancel_left]; rfl)
  exact (rd_bind (x := Reader.u1) h0).trans rfl
set_option maxRecDepth 4000 in
theorem dk46 {code : ByteArray} {p b1 b2 : Nat} (hb : b3 code p 46 b1 b2 1) : DCc code p (.iaload) := by
  obtain ⟨h0, h1, h2⟩ := hb
  refine dec_of (q := p + 1) ?_ (by rw [Nat.add_sub_cancel_left]; rfl)
  exact (rd_bind (x := Reader.u1) h0).trans rfl
set_option maxRecDepth 4000 in
theorem dk47 {code : ByteArray} {p b1 b2 : Nat} (hb : b3 code p 47 b1 b2 1) : DCc code p (.laload) := by
  obtain ⟨h0, h1, h2⟩ := hb
  refine dec_of (q := p + 1) ?_ (by rw [Nat.add_sub_cancel_left]; rfl)
  exact (rd_bind (x := Reader.u1) h0).trans rfl
set_option maxRecDepth 4000 in
theorem dk49 {code : ByteArray} {p b1 b2 : Nat} (hb : b3 code p 49 b1 b2 1) : DCc code p (.daload) := by
  obtain ⟨h0, h1, h2⟩ := hb
  refine dec_of (q := p + 1) ?_ (by rw [Nat.add_sub_cancel_left]; rfl)
  exact (rd_bind (x := Reader.u1) h0).trans rfl
set_option maxRecDepth 4000 in
theorem dk50 {code : ByteArray} {p b1 b2 : Nat} (hb : b3 code p 50 b1 b2 1) : DCc code p (.aaload) := by
  obtain ⟨h0, h1, h2⟩ := hb
  refine dec_of (q := p + 1) ?_ (by rw [Nat.add_sub_cancel_left]; rfl)
  exact (rd_bind (x := Reader.u1) h0).trans rfl
set_option maxRecDepth 4000 in
theorem dk51 {code : ByteArray} {p b1 b2 : Nat} (hb : b3 code p 51 b1 b2 1) : DCc code p (.baload) := by
  obtain ⟨h0, h1, h2⟩ := hb
  refine dec_of (q := p + 1) ?_ (by rw [Nat.add_sub_cancel_left]; rfl)
  exact (rd_bind (x := Reader.u1) h0).trans rfl
set_option maxRecDepth 4000 in
theorem dk54 {code : ByteArray} {p b1 b2 : Nat} (hb : b3 code p 54 b1 b2 2) : DCc code p (.istore b1) := by
  obtain ⟨h0, h1, h2⟩ := hb
  refine dec_of (q := p + 2) ?_ (by rw [Nat.add_sub_cancel_left]; rfl)
  refine (rd_bind (x := Reader.u1) h0).trans ?_
  exact rd_bind (h1 (by decide))
set_option maxRecDepth 4000 in
theorem dk55 {code : ByteArray} {p b1 b2 : Nat} (hb : b3 code p 55 b1 b2 2) : DCc code p (.lstore b1) := by
  obtain ⟨h0, h1, h2⟩ := hb
  refine dec_of (q := p + 2) ?_ (by rw [Nat.add_sub_cancel_left]; rfl)
  refine (rd_bind (x := Reader.u1) h0).trans ?_
  exact rd_bind (h1 (by decide))
set_option maxRecDepth 4000 in
theorem dk56 {code : ByteArray} {p b1 b2 : Nat} (hb : b3 code p 56 b1 b2 2) : DCc code p (.fstore b1) := by
  obtain ⟨h0, h1, h2⟩ := hb
  refine dec_of (q := p + 2) ?_ (by rw [Nat.add_sub_cancel_left]; rfl)
  refine (rd_bind (x := Reader.u1) h0).trans ?_
  exact rd_bind (h1 (by decide))
set_option maxRecDepth 4000 in
theorem dk57 {code : ByteArray} {p b1 b2 : Nat} (hb : b3 code p 57 b1 b2 2) : DCc code p (.dstore b1) := by
  obtain ⟨h0, h1, h2⟩ := hb
  refine dec_of (q := p + 2) ?_ (by rw [Nat.add_sub_cancel_left]; rfl)
  refine (rd_bind (x := Reader.u1) h0).trans ?_
  exact rd_bind (h1 (by decide))
set_option maxRecDepth 4000 in
theorem dk58 {code : ByteArray} {p b1 b2 : Nat} (hb : b3 code p 58 b1 b2 2) : DCc code p (.astore b1) := by
  obtain ⟨h0, h1, h2⟩ := hb
  refine dec_of (q := p + 2) ?_ (by rw [Nat.add_sub_cancel_left]; rfl)
  refine (rd_bind (x := Reader.u1) h0).trans ?_
  exact rd_bind (h1 (by decide))
set_option maxRecDepth 4000 in
theorem dk59 {code : ByteArray} {p b1 b2 : Nat} (hb : b3 code p 59 b1 b2 1) : DCc code p (.istore_n 0) := by
  obtain ⟨h0, h1, h2⟩ := hb
  refine dec_of (q := p + 1) ?_ (by rw [Nat.add_sub_cancel_left]; rfl)
  exact (rd_bind (x := Reader.u1) h0).trans rfl
set_option maxRecDepth 4000 in
theorem dk60 {code : ByteArray} {p b1 b2 : Nat} (hb : b3 code p 60 b1 b2 1) : DCc code p (.istore_n 1) := by
  obtain ⟨h0, h1, h2⟩ := hb
  refine dec_of (q := p + 1) ?_ (by rw [Nat.add_sub_cancel_left]; rfl)
  exact (rd_bind (x := Reader.u1) h0).trans rfl
set_option maxRecDepth 4000 in
theorem dk61 {code : ByteArray} {p b1 b2 : Nat} (hb : b3 code p 61 b1 b2 1) : DCc code p (.istore_n 2) := by
  obtain ⟨h0, h1, h2⟩ := hb
  refine dec_of (q := p + 1) ?_ (by rw [Nat.add_sub_cancel_left]; rfl)
  exact (rd_bind (x := Reader.u1) h0).trans rfl
set_option maxRecDepth 4000 in
theorem dk62 {code : ByteArray} {p b1 b2 : Nat} (hb : b3 code p 62 b1 b2 1) : DCc code p (.istore_n 3) := by
  obtain ⟨h0, h1, h2⟩ := hb
  refine dec_of (q := p + 1) ?_ (by rw [Nat.add_sub_cancel_left]; rfl)
  exact (rd_bind (x := Reader.u1) h0).trans rfl
set_option maxRecDepth 4000 in
theorem dk63 {code : ByteArray} {p b1 b2 : Nat} (hb : b3 code p 63 b1 b2 1) : DCc code p (.lstore_n 0) := by
  obtain ⟨h0, h1, h2⟩ := hb
  refine dec_of (q := p + 1) ?_ (by rw [Nat.add_sub_cancel_left]; rfl)
  exact (rd_bind (x := Reader.u1) h0).trans rfl
set_option maxRecDepth 4000 in
theorem dk64 {code : ByteArray} {p b1 b2 : Nat} (hb : b3 code p 64 b1 b2 1) : DCc code p (.lstore_n 1) := by
  obtain ⟨h0, h1, h2⟩ := hb
  refine dec_of (q := p + 1) ?_ (by rw [Nat.add_sub_cancel_left]; rfl)
  exact (rd_bind (x := Reader.u1) h0).trans rfl
set_option maxRecDepth 4000 in
theorem dk65 {code : ByteArray} {p b1 b2 : Nat} (hb : b3 code p 65 b1 b2 1) : DCc code p (.lstore_n 2) := by
  obtain ⟨h0, h1, h2⟩ := hb
  refine dec_of (q := p + 1) ?_ (by rw [Nat.add_sub_cancel_left]; rfl)
  exact (rd_bind (x := Reader.u1) h0).trans rfl
set_option maxRecDepth 4000 in
theorem dk66 {code : ByteArray} {p b1 b2 : Nat} (hb : b3 code p 66 b1 b2 1) : DCc code p (.lstore_n 3) := by
  obtain ⟨h0, h1, h2⟩ := hb
  refine dec_of (q := p + 1) ?_ (by rw [Nat.add_sub_cancel_left]; rfl)
  exact (rd_bind (x := Reader.u1) h0).trans rfl
set_option maxRecDepth 4000 in
theorem dk75 {code : ByteArray} {p b1 b2 : Nat} (hb : b3 code p 75 b1 b2 1) : DCc code p (.astore_n 0) := by
  obtain ⟨h0, h1, h2⟩ := hb
  refine dec_of (q := p + 1) ?_ (by rw [Nat.add_sub_cancel_left]; rfl)
  exact (rd_bind (x := Reader.u1) h0).trans rfl
set_option maxRecDepth 4000 in
theorem dk76 {code : ByteArray} {p b1 b2 : Nat} (hb : b3 code p 76 b1 b2 1) : DCc code p (.astore_n 1) := by
  obtain ⟨h0, h1, h2⟩ := hb
  refine dec_of (q := p + 1) ?_ (by rw [Nat.add_sub_cancel_left]; rfl)
  exact (rd_bind (x := Reader.u1) h0).trans rfl
set_option maxRecDepth 4000 in
theorem dk77 {code : ByteArray} {p b1 b2 : Nat} (hb : b3 code p 77 b1 b2 1) : DCc code p (.astore_n 2) := by
  obtain ⟨h0, h1, h2⟩ := hb
  refine dec_of (q := p + 1) ?_ (by rw [Nat.add_sub_cancel_left]; rfl)
  exact (rd_bind (x := Reader.u1) h0).trans rfl
set_option maxRecDepth 4000 in
theorem dk78 {code : ByteArray} {p b1 b2 : Nat} (hb : b3 code p 78 b1 b2 1) : DCc code p (.astore_n 3) := by
  obtain ⟨h0, h1, h2⟩ := hb
  refine dec_of (q := p + 1) ?_ (by rw [Nat.add_sub_cancel_left]; rfl)
  exact (rd_bind (x := Reader.u1) h0).trans rfl
set_option maxRecDepth 4000 in
theorem dk79 {code : ByteArray} {p b1 b2 : Nat} (hb : b3 code p 79 b1 b2 1) : DCc code p (.iastore) := by
  obtain ⟨h0, h1, h2⟩ := hb
  refine dec_of (q := p + 1) ?_ (by rw [Nat.add_sub_cancel_left]; rfl)
  exact (rd_bind (x := Reader.u1) h0).trans rfl
set_option maxRecDepth 4000 in
theorem dk80 {code : ByteArray} {p b1 b2 : Nat} (hb : b3 code p 80 b1 b2 1) : DCc code p (.lastore) := by
  obtain ⟨h0, h1, h2⟩ := hb
  refine dec_of (q := p + 1) ?_ (by rw [Nat.add_sub_cancel_left]; rfl)
  exact (rd_bind (x := Reader.u1) h0).trans rfl
set_option maxRecDepth 4000 in
theorem dk82 {code : ByteArray} {p b1 b2 : Nat} (hb : b3 code p 82 b1 b2 1) : DCc code p (.dastore) := by
  obtain ⟨h0, h1, h2⟩ := hb
  refine dec_of (q := p + 1) ?_ (by rw [Nat.add_sub_cancel_left]; rfl)
  exact (rd_bind (x := Reader.u1) h0).trans rfl
set_option maxRecDepth 4000 in
theorem dk83 {code : ByteArray} {p b1 b2 : Nat} (hb : b3 code p 83 b1 b2 1) : DCc code p (.aastore) := by
  obtain ⟨h0, h1, h2⟩ := hb
  refine dec_of (q := p + 1) ?_ (by rw [Nat.add_sub_cancel_left]; rfl)
  exact (rd_bind (x := Reader.u1) h0).trans rfl
set_option maxRecDepth 4000 in
theorem dk84 {code : ByteArray} {p b1 b2 : Nat} (hb : b3 code p 84 b1 b2 1) : DCc code p (.bastore) := by
  obtain ⟨h0, h1, h2⟩ := hb
  refine dec_of (q := p + 1) ?_ (by rw [Nat.add_sub_cancel_left]; rfl)
  exact (rd_bind (x := Reader.u1) h0).trans rfl
set_option maxRecDepth 4000 in
theorem dk87 {code : ByteArray} {p b1 b2 : Nat} (hb : b3 code p 87 b1 b2 1) : DCc code p (.pop) := by
  obtain ⟨h0, h1, h2⟩ := hb
  refine dec_of (q := p + 1) ?_ (by rw [Nat.add_sub_cancel_left]; rfl)
  exact (rd_bind (x := Reader.u1) h0).trans rfl
set_option maxRecDepth 4000 in
theorem dk89 {code : ByteArray} {p b1 b2 : Nat} (hb : b3 code p 89 b1 b2 1) : DCc code p (.dup) := by
  obtain ⟨h0, h1, h2⟩ := hb
  refine dec_of (q := p + 1) ?_ (by rw [Nat.add_sub_cancel_left]; rfl)
  exact (rd_bind (x := Reader.u1) h0).trans rfl
set_option maxRecDepth 4000 in
theorem dk92 {code : ByteArray} {p b1 b2 : Nat} (hb : b3 code p 92 b1 b2 1) : DCc code p (.dup2) := by
  obtain ⟨h0, h1, h2⟩ := hb
  refine dec_of (q := p + 1) ?_ (by rw [Nat.add_sub_cancel_left]; rfl)
  exact (rd_bind (x := Reader.u1) h0).trans rfl
set_option maxRecDepth 4000 in
theorem dk96 {code : ByteArray} {p b1 b2 : Nat} (hb : b3 code p 96 b1 b2 1) : DCc code p (.iadd) := by
  obtain ⟨h0, h1, h2⟩ := hb
  refine dec_of (q := p + 1) ?_ (by rw [Nat.add_sub_cancel_left]; rfl)
  exact (rd_bind (x := Reader.u1) h0).trans rfl
set_option maxRecDepth 4000 in
theorem dk97 {code : ByteArray} {p b1 b2 : Nat} (hb : b3 code p 97 b1 b2 1) : DCc code p (.ladd) := by
  obtain ⟨h0, h1, h2⟩ := hb
  refine dec_of (q := p + 1) ?_ (by rw [Nat.add_sub_cancel_left]; rfl)
  exact (rd_bind (x := Reader.u1) h0).trans rfl
set_option maxRecDepth 4000 in
theorem dk100 {code : ByteArray} {p b1 b2 : Nat} (hb : b3 code p 100 b1 b2 1) : DCc code p (.isub) := by
  obtain ⟨h0, h1, h2⟩ := hb
  refine dec_of (q := p + 1) ?_ (by rw [Nat.add_sub_cancel_left]; rfl)
  exact (rd_bind (x := Reader.u1) h0).trans rfl
set_option maxRecDepth 4000 in
theorem dk101 {code : ByteArray} {p b1 b2 : Nat} (hb : b3 code p 101 b1 b2 1) : DCc code p (.lsub) := by
  obtain ⟨h0, h1, h2⟩ := hb
  refine dec_of (q := p + 1) ?_ (by rw [Nat.add_sub_cancel_left]; rfl)
  exact (rd_bind (x := Reader.u1) h0).trans rfl
set_option maxRecDepth 4000 in
theorem dk104 {code : ByteArray} {p b1 b2 : Nat} (hb : b3 code p 104 b1 b2 1) : DCc code p (.imul) := by
  obtain ⟨h0, h1, h2⟩ := hb
  refine dec_of (q := p + 1) ?_ (by rw [Nat.add_sub_cancel_left]; rfl)
  exact (rd_bind (x := Reader.u1) h0).trans rfl
set_option maxRecDepth 4000 in
theorem dk108 {code : ByteArray} {p b1 b2 : Nat} (hb : b3 code p 108 b1 b2 1) : DCc code p (.idiv) := by
  obtain ⟨h0, h1, h2⟩ := hb
  refine dec_of (q := p + 1) ?_ (by rw [Nat.add_sub_cancel_left]; rfl)
  exact (rd_bind (x := Reader.u1) h0).trans rfl
set_option maxRecDepth 4000 in
theorem dk110 {code : ByteArray} {p b1 b2 : Nat} (hb : b3 code p 110 b1 b2 1) : DCc code p (.fdiv) := by
  obtain ⟨h0, h1, h2⟩ := hb
  refine dec_of (q := p + 1) ?_ (by rw [Nat.add_sub_cancel_left]; rfl)
  exact (rd_bind (x := Reader.u1) h0).trans rfl
set_option maxRecDepth 4000 in
theorem dk111 {code : ByteArray} {p b1 b2 : Nat} (hb : b3 code p 111 b1 b2 1) : DCc code p (.ddiv) := by
  obtain ⟨h0, h1, h2⟩ := hb
  refine dec_of (q := p + 1) ?_ (by rw [Nat.add_sub_cancel_left]; rfl)
  exact (rd_bind (x := Reader.u1) h0).trans rfl
set_option maxRecDepth 4000 in
theorem dk112 {code : ByteArray} {p b1 b2 : Nat} (hb : b3 code p 112 b1 b2 1) : DCc code p (.irem) := by
  obtain ⟨h0, h1, h2⟩ := hb
  refine dec_of (q := p + 1) ?_ (by rw [Nat.add_sub_cancel_left]; rfl)
  exact (rd_bind (x := Reader.u1) h0).trans rfl
set_option maxRecDepth 4000 in
theorem dk116 {code : ByteArray} {p b1 b2 : Nat} (hb : b3 code p 116 b1 b2 1) : DCc code p (.ineg) := by
  obtain ⟨h0, h1, h2⟩ := hb
  refine dec_of (q := p + 1) ?_ (by rw [Nat.add_sub_cancel_left]; rfl)
  exact (rd_bind (x := Reader.u1) h0).trans rfl
set_option maxRecDepth 4000 in
theorem dk120 {code : ByteArray} {p b1 b2 : Nat} (hb : b3 code p 120 b1 b2 1) : DCc code p (.ishl) := by
  obtain ⟨h0, h1, h2⟩ := hb
  refine dec_of (q := p + 1) ?_ (by rw [Nat.add_sub_cancel_left]; rfl)
  exact (rd_bind (x := Reader.u1) h0).trans rfl
set_option maxRecDepth 4000 in
theorem dk122 {code : ByteArray} {p b1 b2 : Nat} (hb : b3 code p 122 b1 b2 1) : DCc code p (.ishr) := by
  obtain ⟨h0, h1, h2⟩ := hb
  refine dec_of (q := p + 1) ?_ (by rw [Nat.add_sub_cancel_left]; rfl)
  exact (rd_bind (x := Reader.u1) h0).trans rfl
set_option maxRecDepth 4000 in
theorem dk126 {code : ByteArray} {p b1 b2 : Nat} (hb : b3 code p 126 b1 b2 1) : DCc code p (.iand) := by
  obtain ⟨h0, h1, h2⟩ := hb
  refine dec_of (q := p + 1) ?_ (by rw [Nat.add_sub_cancel_left]; rfl)
  exact (rd_bind (x := Reader.u1) h0).trans rfl
set_option maxRecDepth 4000 in
theorem dk128 {code : ByteArray} {p b1 b2 : Nat} (hb : b3 code p 128 b1 b2 1) : DCc code p (.ior) := by
  obtain ⟨h0, h1, h2⟩ := hb
  refine dec_of (q := p + 1) ?_ (by rw [Nat.add_sub_cancel_left]; rfl)
  exact (rd_bind (x := Reader.u1) h0).trans rfl
set_option maxRecDepth 4000 in
theorem dk130 {code : ByteArray} {p b1 b2 : Nat} (hb : b3 code p 130 b1 b2 1) : DCc code p (.ixor) := by
  obtain ⟨h0, h1, h2⟩ := hb
  refine dec_of (q := p + 1) ?_ (by rw [Nat.add_sub_cancel_left]; rfl)
  exact (rd_bind (x := Reader.u1) h0).trans rfl
set_option maxRecDepth 4000 in
theorem dk132 {code : ByteArray} {p b1 b2 : Nat} (hb : b3 code p 132 b1 b2 3) : DCc code p (.iinc b1 (Reader.signed 8 b2)) := by
  obtain ⟨h0, h1, h2⟩ := hb
  refine dec_of (q := p + 3) ?_ (by rw [Nat.add_sub_cancel_left]; rfl)
  refine (rd_bind (x := Reader.u1) h0).trans ?_
  exact (rd_bind (h1 (by decide))).trans (rd_bind (s1_at (h2 (by decide))))
set_option maxRecDepth 4000 in
theorem dk133 {code : ByteArray} {p b1 b2 : Nat} (hb : b3 code p 133 b1 b2 1) : DCc code p (.i2l) := by
  obtain ⟨h0, h1, h2⟩ := hb
  refine dec_of (q := p + 1) ?_ (by rw [Nat.add_sub_cancel_left]; rfl)
  exact (rd_bind (x := Reader.u1) h0).trans rfl
set_option maxRecDepth 4000 in
theorem dk134 {code : ByteArray} {p b1 b2 : Nat} (hb : b3 code p 134 b1 b2 1) : DCc code p (.i2f) := by
  obtain ⟨h0, h1, h2⟩ := hb
  refine dec_of (q := p + 1) ?_ (by rw [Nat.add_sub_cancel_left]; rfl)
  exact (rd_bind (x := Reader.u1) h0).trans rfl
set_option maxRecDepth 4000 in
theorem dk135 {code : ByteArray} {p b1 b2 : Nat} (hb : b3 code p 135 b1 b2 1) : DCc code p (.i2d) := by
  obtain ⟨h0, h1, h2⟩ := hb
  refine dec_of (q := p + 1) ?_ (by rw [Nat.add_sub_cancel_left]; rfl)
  exact (rd_bind (x := Reader.u1) h0).trans rfl
set_option maxRecDepth 4000 in
theorem dk136 {code : ByteArray} {p b1 b2 : Nat} (hb : b3 code p 136 b1 b2 1) : DCc code p (.l2i) := by
  obtain ⟨h0, h1, h2⟩ := hb
  refine dec_of (q := p + 1) ?_ (by rw [Nat.add_sub_cancel_left]; rfl)
  exact (rd_bind (x := Reader.u1) h0).trans rfl
set_option maxRecDepth 4000 in
theorem dk137 {code : ByteArray} {p b1 b2 : Nat} (hb : b3 code p 137 b1 b2 1) : DCc code p (.l2f) := by
  obtain ⟨h0, h1, h2⟩ := hb
  refine dec_of (q := p + 1) ?_ (by rw [Nat.add_sub_cancel_left]; rfl)
  exact (rd_bind (x := Reader.u1) h0).trans rfl
set_option maxRecDepth 4000 in
theorem dk141 {code : ByteArray} {p b1 b2 : Nat} (hb : b3 code p 141 b1 b2 1) : DCc code p (.f2d) := by
  obtain ⟨h0, h1, h2⟩ := hb
  refine dec_of (q := p + 1) ?_ (by rw [Nat.add_sub_cancel_left]; rfl)
  exact (rd_bind (x := Reader.u1) h0).trans rfl
set_option maxRecDepth 4000 in
theorem dk145 {code : ByteArray} {p b1 b2 : Nat} (hb : b3 code p 145 b1 b2 1) : DCc code p (.i2b) := by
  obtain ⟨h0, h1, h2⟩ := hb
  refine dec_of (q := p + 1) ?_ (by rw [Nat.add_sub_cancel_left]; rfl)
  exact (rd_bind (x := Reader.u1) h0).trans rfl
set_option maxRecDepth 4000 in
theorem dk146 {code : ByteArray} {p b1 b2 : Nat} (hb : b3 code p 146 b1 b2 1) : DCc code p (.i2c) := by
  obtain ⟨h0, h1, h2⟩ := hb
  refine dec_of (q := p + 1) ?_ (by rw [Nat.add_sub_cancel_left]; rfl)
  exact (rd_bind (x := Reader.u1) h0).trans rfl
set_option maxRecDepth 4000 in
theorem dk148 {code : ByteArray} {p b1 b2 : Nat} (hb : b3 code p 148 b1 b2 1) : DCc code p (.lcmp) := by
  obtain ⟨h0, h1, h2⟩ := hb
  refine dec_of (q := p + 1) ?_ (by rw [Nat.add_sub_cancel_left]; rfl)
  exact (rd_bind (x := Reader.u1) h0).trans rfl
set_option maxRecDepth 4000 in
theorem dk149 {code : ByteArray} {p b1 b2 : Nat} (hb : b3 code p 149 b1 b2 1) : DCc code p (.fcmp .l) := by
  obtain ⟨h0, h1, h2⟩ := hb
  refine dec_of (q := p + 1) ?_ (by rw [Nat.add_sub_cancel_left]; rfl)
  exact (rd_bind (x := Reader.u1) h0).trans rfl
set_option maxRecDepth 4000 in
theorem dk150 {code : ByteArray} {p b1 b2 : Nat} (hb : b3 code p 150 b1 b2 1) : DCc code p (.fcmp .g) := by
  obtain ⟨h0, h1, h2⟩ := hb
  refine dec_of (q := p + 1) ?_ (by rw [Nat.add_sub_cancel_left]; rfl)
  exact (rd_bind (x := Reader.u1) h0).trans rfl
set_option maxRecDepth 4000 in
theorem dk151 {code : ByteArray} {p b1 b2 : Nat} (hb : b3 code p 151 b1 b2 1) : DCc code p (.dcmp .l) := by
  obtain ⟨h0, h1, h2⟩ := hb
  refine dec_of (q := p + 1) ?_ (by rw [Nat.add_sub_cancel_left]; rfl)
  exact (rd_bind (x := Reader.u1) h0).trans rfl
set_option maxRecDepth 4000 in
theorem dk152 {code : ByteArray} {p b1 b2 : Nat} (hb : b3 code p 152 b1 b2 1) : DCc code p (.dcmp .g) := by
  obtain ⟨h0, h1, h2⟩ := hb
  refine dec_of (q := p + 1) ?_ (by rw [Nat.add_sub_cancel_left]; rfl)
  exact (rd_bind (x := Reader.u1) h0).trans rfl
set_option maxRecDepth 4000 in
theorem dk153 {code : ByteArray} {p b1 b2 : Nat} (hb : b3 code p 153 b1 b2 3) : DCc code p (.ifCond .eq (Reader.signed 16 (b1 * 256 + b2))) := by
  obtain ⟨h0, h1, h2⟩ := hb
  refine dec_of (q := p + 3) ?_ (by rw [Nat.add_sub_cancel_left]; rfl)
  refine (rd_bind (x := Reader.u1) h0).trans ?_
  exact rd_bind (s2_at (h1 (by decide)) (h2 (by decide)))
set_option maxRecDepth 4000 in
theorem dk154 {code : ByteArray} {p b1 b2 : Nat} (hb : b3 code p 154 b1 b2 3) : DCc code p (.ifCond .ne (Reader.signed 16 (b1 * 256 + b2))) := by
  obtain ⟨h0, h1, h2⟩ := hb
  refine dec_of (q := p + 3) ?_ (by rw [Nat.add_sub_cancel_left]; rfl)
  refine (rd_bind (x := Reader.u1) h0).trans ?_
  exact rd_bind (s2_at (h1 (by decide)) (h2 (by decide)))
set_option maxRecDepth 4000 in
theorem dk155 {code : ByteArray} {p b1 b2 : Nat} (hb : b3 code p 155 b1 b2 3) : DCc code p (.ifCond .lt (Reader.signed 16 (b1 * 256 + b2))) := by
  obtain ⟨h0, h1, h2⟩ := hb
  refine dec_of (q := p + 3) ?_ (by rw [Nat.add_sub_cancel_left]; rfl)
  refine (rd_bind (x := Reader.u1) h0).trans ?_
  exact rd_bind (s2_at (h1 (by decide)) (h2 (by decide)))
set_option maxRecDepth 4000 in
theorem dk156 {code : ByteArray} {p b1 b2 : Nat} (hb : b3 code p 156 b1 b2 3) : DCc code p (.ifCond .ge (Reader.signed 16 (b1 * 256 + b2))) := by
  obtain ⟨h0, h1, h2⟩ := hb
  refine dec_of (q := p + 3) ?_ (by rw [Nat.add_sub_cancel_left]; rfl)
  refine (rd_bind (x := Reader.u1) h0).trans ?_
  exact rd_bind (s2_at (h1 (by decide)) (h2 (by decide)))
set_option maxRecDepth 4000 in
theorem dk157 {code : ByteArray} {p b1 b2 : Nat} (hb : b3 code p 157 b1 b2 3) : DCc code p (.ifCond .gt (Reader.signed 16 (b1 * 256 + b2))) := by
  obtain ⟨h0, h1, h2⟩ := hb
  refine dec_of (q := p + 3) ?_ (by rw [Nat.add_sub_cancel_left]; rfl)
  refine (rd_bind (x := Reader.u1) h0).trans ?_
  exact rd_bind (s2_at (h1 (by decide)) (h2 (by decide)))
set_option maxRecDepth 4000 in
theorem dk158 {code : ByteArray} {p b1 b2 : Nat} (hb : b3 code p 158 b1 b2 3) : DCc code p (.ifCond .le (Reader.signed 16 (b1 * 256 + b2))) := by
  obtain ⟨h0, h1, h2⟩ := hb
  refine dec_of (q := p + 3) ?_ (by rw [Nat.add_sub_cancel_left]; rfl)
  refine (rd_bind (x := Reader.u1) h0).trans ?_
  exact rd_bind (s2_at (h1 (by decide)) (h2 (by decide)))
set_option maxRecDepth 4000 in
theorem dk159 {code : ByteArray} {p b1 b2 : Nat} (hb : b3 code p 159 b1 b2 3) : DCc code p (.if_icmp .eq (Reader.signed 16 (b1 * 256 + b2))) := by
  obtain ⟨h0, h1, h2⟩ := hb
  refine dec_of (q := p + 3) ?_ (by rw [Nat.add_sub_cancel_left]; rfl)
  refine (rd_bind (x := Reader.u1) h0).trans ?_
  exact rd_bind (s2_at (h1 (by decide)) (h2 (by decide)))
set_option maxRecDepth 4000 in
theorem dk160 {code : ByteArray} {p b1 b2 : Nat} (hb : b3 code p 160 b1 b2 3) : DCc code p (.if_icmp .ne (Reader.signed 16 (b1 * 256 + b2))) := by
  obtain ⟨h0, h1, h2⟩ := hb
  refine dec_of (q := p + 3) ?_ (by rw [Nat.add_sub_cancel_left]; rfl)
  refine (rd_bind (x := Reader.u1) h0).trans ?_
  exact rd_bind (s2_at (h1 (by decide)) (h2 (by decide)))
set_option maxRecDepth 4000 in
theorem dk161 {code : ByteArray} {p b1 b2 : Nat} (hb : b3 code p 161 b1 b2 3) : DCc code p (.if_icmp .lt (Reader.signed 16 (b1 * 256 + b2))) := by
  obtain ⟨h0, h1, h2⟩ := hb
  refine dec_of (q := p + 3) ?_ (by rw [Nat.add_sub_cancel_left]; rfl)
  refine (rd_bind (x := Reader.u1) h0).trans ?_
  exact rd_bind (s2_at (h1 (by decide)) (h2 (by decide)))
set_option maxRecDepth 4000 in
theorem dk162 {code : ByteArray} {p b1 b2 : Nat} (hb : b3 code p 162 b1 b2 3) : DCc code p (.if_icmp .ge (Reader.signed 16 (b1 * 256 + b2))) := by
  obtain ⟨h0, h1, h2⟩ := hb
  refine dec_of (q := p + 3) ?_ (by rw [Nat.add_sub_cancel_left]; rfl)
  refine (rd_bind (x := Reader.u1) h0).trans ?_
  exact rd_bind (s2_at (h1 (by decide)) (h2 (by decide)))
set_option maxRecDepth 4000 in
theorem dk163 {code : ByteArray} {p b1 b2 : Nat} (hb : b3 code p 163 b1 b2 3) : DCc code p (.if_icmp .gt (Reader.signed 16 (b1 * 256 + b2))) := by
  obtain ⟨h0, h1, h2⟩ := hb
  refine dec_of (q := p + 3) ?_ (by rw [Nat.add_sub_cancel_left]; rfl)
  refine (rd_bind (x := Reader.u1) h0).trans ?_
  exact rd_bind (s2_at (h1 (by decide)) (h2 (by decide)))
set_option maxRecDepth 4000 in
theorem dk164 {code : ByteArray} {p b1 b2 : Nat} (hb : b3 code p 164 b1 b2 3) : DCc code p (.if_icmp .le (Reader.signed 16 (b1 * 256 + b2))) := by
  obtain ⟨h0, h1, h2⟩ := hb
  refine dec_of (q := p + 3) ?_ (by rw [Nat.add_sub_cancel_left]; rfl)
  refine (rd_bind (x := Reader.u1) h0).trans ?_
  exact rd_bind (s2_at (h1 (by decide)) (h2 (by decide)))
set_option maxRecDepth 4000 in
theorem dk167 {code : ByteArray} {p b1 b2 : Nat} (hb : b3 code p 167 b1 b2 3) : DCc code p (.goto (Reader.signed 16 (b1 * 256 + b2))) := by
  obtain ⟨h0, h1, h2⟩ := hb
  refine dec_of (q := p + 3) ?_ (by rw [Nat.add_sub_cancel_left]; rfl)
  refine (rd_bind (x := Reader.u1) h0).trans ?_
  exact rd_bind (s2_at (h1 (by decide)) (h2 (by decide)))
set_option maxRecDepth 4000 in
theorem dk172 {code : ByteArray} {p b1 b2 : Nat} (hb : b3 code p 172 b1 b2 1) : DCc code p (.ireturn) := by
  obtain ⟨h0, h1, h2⟩ := hb
  refine dec_of (q := p + 1) ?_ (by rw [Nat.add_sub_cancel_left]; rfl)
  exact (rd_bind (x := Reader.u1) h0).trans rfl
set_option maxRecDepth 4000 in
theorem dk173 {code : ByteArray} {p b1 b2 : Nat} (hb : b3 code p 173 b1 b2 1) : DCc code p (.lreturn) := by
  obtain ⟨h0, h1, h2⟩ := hb
  refine dec_of (q := p + 1) ?_ (by rw [Nat.add_sub_cancel_left]; rfl)
  exact (rd_bind (x := Reader.u1) h0).trans rfl
set_option maxRecDepth 4000 in
theorem dk174 {code : ByteArray} {p b1 b2 : Nat} (hb : b3 code p 174 b1 b2 1) : DCc code p (.freturn) := by
  obtain ⟨h0, h1, h2⟩ := hb
  refine dec_of (q := p + 1) ?_ (by rw [Nat.add_sub_cancel_left]; rfl)
  exact (rd_bind (x := Reader.u1) h0).trans rfl
set_option maxRecDepth 4000 in
theorem dk175 {code : ByteArray} {p b1 b2 : Nat} (hb : b3 code p 175 b1 b2 1) : DCc code p (.dreturn) := by
  obtain ⟨h0, h1, h2⟩ := hb
  refine dec_of (q := p + 1) ?_ (by rw [Nat.add_sub_cancel_left]; rfl)
  exact (rd_bind (x := Reader.u1) h0).trans rfl
set_option maxRecDepth 4000 in
theorem dk176 {code : ByteArray} {p b1 b2 : Nat} (hb : b3 code p 176 b1 b2 1) : DCc code p (.areturn) := by
  obtain ⟨h0, h1, h2⟩ := hb
  refine dec_of (q := p + 1) ?_ (by rw [Nat.add_sub_cancel_left]; rfl)
  exact (rd_bind (x := Reader.u1) h0).trans rfl
set_option maxRecDepth 4000 in
theorem dk177 {code : ByteArray} {p b1 b2 : Nat} (hb : b3 code p 177 b1 b2 1) : DCc code p (.return_) := by
  obtain ⟨h0, h1, h2⟩ := hb
  refine dec_of (q := p + 1) ?_ (by rw [Nat.add_sub_cancel_left]; rfl)
  exact (rd_bind (x := Reader.u1) h0).trans rfl
set_option maxRecDepth 4000 in
theorem dk178 {code : ByteArray} {p b1 b2 : Nat} (hb : b3 code p 178 b1 b2 3) : DCc code p (.getstatic (b1 * 256 + b2)) := by
  obtain ⟨h0, h1, h2⟩ := hb
  refine dec_of (q := p + 3) ?_ (by rw [Nat.add_sub_cancel_left]; rfl)
  refine (rd_bind (x := Reader.u1) h0).trans ?_
  exact rd_bind (u2_at (h1 (by decide)) (h2 (by decide)))
set_option maxRecDepth 4000 in
theorem dk180 {code : ByteArray} {p b1 b2 : Nat} (hb : b3 code p 180 b1 b2 3) : DCc code p (.getfield (b1 * 256 + b2)) := by
  obtain ⟨h0, h1, h2⟩ := hb
  refine dec_of (q := p + 3) ?_ (by rw [Nat.add_sub_cancel_left]; rfl)
  refine (rd_bind (x := Reader.u1) h0).trans ?_
  exact rd_bind (u2_at (h1 (by decide)) (h2 (by decide)))
set_option maxRecDepth 4000 in
theorem dk181 {code : ByteArray} {p b1 b2 : Nat} (hb : b3 code p 181 b1 b2 3) : DCc code p (.putfield (b1 * 256 + b2)) := by
  obtain ⟨h0, h1, h2⟩ := hb
  refine dec_of (q := p + 3) ?_ (by rw [Nat.add_sub_cancel_left]; rfl)
  refine (rd_bind (x := Reader.u1) h0).trans ?_
  exact rd_bind (u2_at (h1 (by decide)) (h2 (by decide)))
set_option maxRecDepth 4000 in
theorem dk182 {code : ByteArray} {p b1 b2 : Nat} (hb : b3 code p 182 b1 b2 3) : DCc code p (.invokevirtual (b1 * 256 + b2)) := by
  obtain ⟨h0, h1, h2⟩ := hb
  refine dec_of (q := p + 3) ?_ (by rw [Nat.add_sub_cancel_left]; rfl)
  refine (rd_bind (x := Reader.u1) h0).trans ?_
  exact rd_bind (u2_at (h1 (by decide)) (h2 (by decide)))
set_option maxRecDepth 4000 in
theorem dk183 {code : ByteArray} {p b1 b2 : Nat} (hb : b3 code p 183 b1 b2 3) : DCc code p (.invokespecial (b1 * 256 + b2)) := by
  obtain ⟨h0, h1, h2⟩ := hb
  refine dec_of (q := p + 3) ?_ (by rw [Nat.add_sub_cancel_left]; rfl)
  refine (rd_bind (x := Reader.u1) h0).trans ?_
  exact rd_bind (u2_at (h1 (by decide)) (h2 (by decide)))
set_option maxRecDepth 4000 in
theorem dk184 {code : ByteArray} {p b1 b2 : Nat} (hb : b3 code p 184 b1 b2 3) : DCc code p (.invokestatic (b1 * 256 + b2)) := by
  obtain ⟨h0, h1, h2⟩ := hb
  refine dec_of (q := p + 3) ?_ (by rw [Nat.add_sub_cancel_left]; rfl)
  refine (rd_bind (x := Reader.u1) h0).trans ?_
  exact rd_bind (u2_at (h1 (by decide)) (h2 (by decide)))
set_option maxRecDepth 4000 in
theorem dk187 {code : ByteArray} {p b1 b2 : Nat} (hb : b3 code p 187 b1 b2 3) : DCc code p (.new (b1 * 256 + b2)) := by
  obtain ⟨h0, h1, h2⟩ := hb
  refine dec_of (q := p + 3) ?_ (by rw [Nat.add_sub_cancel_left]; rfl)
  refine (rd_bind (x := Reader.u1) h0).trans ?_
  exact rd_bind (u2_at (h1 (by decide)) (h2 (by decide)))
set_option maxRecDepth 4000 in
theorem dk189 {code : ByteArray} {p b1 b2 : Nat} (hb : b3 code p 189 b1 b2 3) : DCc code p (.anewarray (b1 * 256 + b2)) := by
  obtain ⟨h0, h1, h2⟩ := hb
  refine dec_of (q := p + 3) ?_ (by rw [Nat.add_sub_cancel_left]; rfl)
  refine (rd_bind (x := Reader.u1) h0).trans ?_
  exact rd_bind (u2_at (h1 (by decide)) (h2 (by decide)))
set_option maxRecDepth 4000 in
theorem dk190 {code : ByteArray} {p b1 b2 : Nat} (hb : b3 code p 190 b1 b2 1) : DCc code p (.arraylength) := by
  obtain ⟨h0, h1, h2⟩ := hb
  refine dec_of (q := p + 1) ?_ (by rw [Nat.add_sub_cancel_left]; rfl)
  exact (rd_bind (x := Reader.u1) h0).trans rfl
set_option maxRecDepth 4000 in
theorem dk191 {code : ByteArray} {p b1 b2 : Nat} (hb : b3 code p 191 b1 b2 1) : DCc code p (.athrow) := by
  obtain ⟨h0, h1, h2⟩ := hb
  refine dec_of (q := p + 1) ?_ (by rw [Nat.add_sub_cancel_left]; rfl)
  exact (rd_bind (x := Reader.u1) h0).trans rfl
set_option maxRecDepth 4000 in
theorem dk198 {code : ByteArray} {p b1 b2 : Nat} (hb : b3 code p 198 b1 b2 3) : DCc code p (.ifnull (Reader.signed 16 (b1 * 256 + b2))) := by
  obtain ⟨h0, h1, h2⟩ := hb
  refine dec_of (q := p + 3) ?_ (by rw [Nat.add_sub_cancel_left]; rfl)
  refine (rd_bind (x := Reader.u1) h0).trans ?_
  exact rd_bind (s2_at (h1 (by decide)) (h2 (by decide)))
set_option maxRecDepth 4000 in
theorem dk199 {code : ByteArray} {p b1 b2 : Nat} (hb : b3 code p 199 b1 b2 3) : DCc code p (.ifnonnull (Reader.signed 16 (b1 * 256 + b2))) := by
  obtain ⟨h0, h1, h2⟩ := hb
  refine dec_of (q := p + 3) ?_ (by rw [Nat.add_sub_cancel_left]; rfl)
  refine (rd_bind (x := Reader.u1) h0).trans ?_
  exact rd_bind (s2_at (h1 (by decide)) (h2 (by decide)))
set_option maxRecDepth 4000 in
theorem dk188_4 {code : ByteArray} {p b2 : Nat} (hb : b3 code p 188 4 b2 2) : DCc code p (.newarray .boolean) := by
  obtain ⟨h0, h1, h2⟩ := hb
  refine dec_of (q := p + 2) ?_ (by rw [Nat.add_sub_cancel_left]; rfl)
  refine (rd_bind (x := Reader.u1) h0).trans ?_
  exact rd_bind (h1 (by decide))
set_option maxRecDepth 4000 in
theorem dk188_7 {code : ByteArray} {p b2 : Nat} (hb : b3 code p 188 7 b2 2) : DCc code p (.newarray .double) := by
  obtain ⟨h0, h1, h2⟩ := hb
  refine dec_of (q := p + 2) ?_ (by rw [Nat.add_sub_cancel_left]; rfl)
  refine (rd_bind (x := Reader.u1) h0).trans ?_
  exact rd_bind (h1 (by decide))
set_option maxRecDepth 4000 in
theorem dk188_8 {code : ByteArray} {p b2 : Nat} (hb : b3 code p 188 8 b2 2) : DCc code p (.newarray .byte) := by
  obtain ⟨h0, h1, h2⟩ := hb
  refine dec_of (q := p + 2) ?_ (by rw [Nat.add_sub_cancel_left]; rfl)
  refine (rd_bind (x := Reader.u1) h0).trans ?_
  exact rd_bind (h1 (by decide))
set_option maxRecDepth 4000 in
theorem dk188_10 {code : ByteArray} {p b2 : Nat} (hb : b3 code p 188 10 b2 2) : DCc code p (.newarray .int) := by
  obtain ⟨h0, h1, h2⟩ := hb
  refine dec_of (q := p + 2) ?_ (by rw [Nat.add_sub_cancel_left]; rfl)
  refine (rd_bind (x := Reader.u1) h0).trans ?_
  exact rd_bind (h1 (by decide))
set_option maxRecDepth 4000 in
theorem dk188_11 {code : ByteArray} {p b2 : Nat} (hb : b3 code p 188 11 b2 2) : DCc code p (.newarray .long) := by
  obtain ⟨h0, h1, h2⟩ := hb
  refine dec_of (q := p + 2) ?_ (by rw [Nat.add_sub_cancel_left]; rfl)
  refine (rd_bind (x := Reader.u1) h0).trans ?_
  exact rd_bind (h1 (by decide))
set_option maxRecDepth 4000 in
theorem dk90 {code : ByteArray} {p b1 b2 : Nat} (hb : b3 code p 90 b1 b2 1) : DCc code p (.dup_x1) := by
  obtain ⟨h0, h1, h2⟩ := hb
  refine dec_of (q := p + 1) ?_ (by rw [Nat.add_sub_cancel_left]; rfl)
  exact (rd_bind (x := Reader.u1) h0).trans rfl
set_option maxRecDepth 4000 in
theorem dk192 {code : ByteArray} {p b1 b2 : Nat} (hb : b3 code p 192 b1 b2 3) : DCc code p (.checkcast (b1 * 256 + b2)) := by
  obtain ⟨h0, h1, h2⟩ := hb
  refine dec_of (q := p + 3) ?_ (by rw [Nat.add_sub_cancel_left]; rfl)
  refine (rd_bind (x := Reader.u1) h0).trans ?_
  exact rd_bind (u2_at (h1 (by decide)) (h2 (by decide)))
def dT : List (Nat × Nat × (Nat → Nat → Option Instr)) := [(90, 1, fun b1 b2 => some (.dup_x1)),
  (192, 3, fun b1 b2 => some (.checkcast (b1 * 256 + b2))),
  (1, 1, fun b1 b2 => some (.aconst_null)),
  (2, 1, fun b1 b2 => some (.iconst (-1))),
  (3, 1, fun b1 b2 => some (.iconst 0)),
  (4, 1, fun b1 b2 => some (.iconst 1)),
  (5, 1, fun b1 b2 => some (.iconst 2)),
  (6, 1, fun b1 b2 => some (.iconst 3)),
  (7, 1, fun b1 b2 => some (.iconst 4)),
  (8, 1, fun b1 b2 => some (.iconst 5)),
  (9, 1, fun b1 b2 => some (.lconst 0)),
  (10, 1, fun b1 b2 => some (.lconst 1)),
  (11, 1, fun b1 b2 => some (.fconst 0)),
  (12, 1, fun b1 b2 => some (.fconst 1)),
  (13, 1, fun b1 b2 => some (.fconst 2)),
  (14, 1, fun b1 b2 => some (.dconst 0)),
  (15, 1, fun b1 b2 => some (.dconst 1)),
  (16, 2, fun b1 b2 => some (.bipush (Reader.signed 8 b1))),
  (17, 3, fun b1 b2 => some (.sipush (Reader.signed 16 (b1 * 256 + b2)))),
  (18, 2, fun b1 b2 => some (.ldc b1)),
  (19, 3, fun b1 b2 => some (.ldc_w (b1 * 256 + b2))),
  (20, 3, fun b1 b2 => some (.ldc2_w (b1 * 256 + b2))),
  (21, 2, fun b1 b2 => some (.iload b1)),
  (22, 2, fun b1 b2 => some (.lload b1)),
  (23, 2, fun b1 b2 => some (.fload b1)),
  (24, 2, fun b1 b2 => some (.dload b1)),
  (25, 2, fun b1 b2 => some (.aload b1)),
  (26, 1, fun b1 b2 => some (.iload_n 0)),
  (27, 1, fun b1 b2 => some (.iload_n 1)),
  (28, 1, fun b1 b2 => some (.iload_n 2)),
  (29, 1, fun b1 b2 => some (.iload_n 3)),
  (30, 1, fun b1 b2 => some (.lload_n 0)),
  (31, 1, fun b1 b2 => some (.lload_n 1)),
  (32, 1, fun b1 b2 => some (.lload_n 2)),
  (33, 1, fun b1 b2 => some (.lload_n 3)),
  (42, 1, fun b1 b2 => some (.aload_n 0)),
  (43, 1, fun b1 b2 => some (.aload_n 1)),
  (44, 1, fun b1 b2 => some (.aload_n 2)),
  (45, 1, fun b1 b2 => some (.aload_n 3)),
  (46, 1, fun b1 b2 => some (.iaload)),
  (47, 1, fun b1 b2 => some (.laload)),
  (49, 1, fun b1 b2 => some (.daload)),
  (50, 1, fun b1 b2 => some (.aaload)),
  (51, 1, fun b1 b2 => some (.baload)),
  (54, 2, fun b1 b2 => some (.istore b1)),
  (55, 2, fun b1 b2 => some (.lstore b1)),
  (56, 2, fun b1 b2 => some (.fstore b1)),
  (57, 2, fun b1 b2 => some (.dstore b1)),
  (58, 2, fun b1 b2 => some (.astore b1)),
  (59, 1, fun b1 b2 => some (.istore_n 0)),
  (60, 1, fun b1 b2 => some (.istore_n 1)),
  (61, 1, fun b1 b2 => some (.istore_n 2)),
  (62, 1, fun b1 b2 => some (.istore_n 3)),
  (63, 1, fun b1 b2 => some (.lstore_n 0)),
  (64, 1, fun b1 b2 => some (.lstore_n 1)),
  (65, 1, fun b1 b2 => some (.lstore_n 2)),
  (66, 1, fun b1 b2 => some (.lstore_n 3)),
  (75, 1, fun b1 b2 => some (.astore_n 0)),
  (76, 1, fun b1 b2 => some (.astore_n 1)),
  (77, 1, fun b1 b2 => some (.astore_n 2)),
  (78, 1, fun b1 b2 => some (.astore_n 3)),
  (79, 1, fun b1 b2 => some (.iastore)),
  (80, 1, fun b1 b2 => some (.lastore)),
  (82, 1, fun b1 b2 => some (.dastore)),
  (83, 1, fun b1 b2 => some (.aastore)),
  (84, 1, fun b1 b2 => some (.bastore)),
  (87, 1, fun b1 b2 => some (.pop)),
  (89, 1, fun b1 b2 => some (.dup)),
  (92, 1, fun b1 b2 => some (.dup2)),
  (96, 1, fun b1 b2 => some (.iadd)),
  (97, 1, fun b1 b2 => some (.ladd)),
  (100, 1, fun b1 b2 => some (.isub)),
  (101, 1, fun b1 b2 => some (.lsub)),
  (104, 1, fun b1 b2 => some (.imul)),
  (108, 1, fun b1 b2 => some (.idiv)),
  (110, 1, fun b1 b2 => some (.fdiv)),
  (111, 1, fun b1 b2 => some (.ddiv)),
  (112, 1, fun b1 b2 => some (.irem)),
  (116, 1, fun b1 b2 => some (.ineg)),
  (120, 1, fun b1 b2 => some (.ishl)),
  (122, 1, fun b1 b2 => some (.ishr)),
  (126, 1, fun b1 b2 => some (.iand)),
  (128, 1, fun b1 b2 => some (.ior)),
  (130, 1, fun b1 b2 => some (.ixor)),
  (132, 3, fun b1 b2 => some (.iinc b1 (Reader.signed 8 b2))),
  (133, 1, fun b1 b2 => some (.i2l)),
  (134, 1, fun b1 b2 => some (.i2f)),
  (135, 1, fun b1 b2 => some (.i2d)),
  (136, 1, fun b1 b2 => some (.l2i)),
  (137, 1, fun b1 b2 => some (.l2f)),
  (141, 1, fun b1 b2 => some (.f2d)),
  (145, 1, fun b1 b2 => some (.i2b)),
  (146, 1, fun b1 b2 => some (.i2c)),
  (148, 1, fun b1 b2 => some (.lcmp)),
  (149, 1, fun b1 b2 => some (.fcmp .l)),
  (150, 1, fun b1 b2 => some (.fcmp .g)),
  (151, 1, fun b1 b2 => some (.dcmp .l)),
  (152, 1, fun b1 b2 => some (.dcmp .g)),
  (153, 3, fun b1 b2 => some (.ifCond .eq (Reader.signed 16 (b1 * 256 + b2)))),
  (154, 3, fun b1 b2 => some (.ifCond .ne (Reader.signed 16 (b1 * 256 + b2)))),
  (155, 3, fun b1 b2 => some (.ifCond .lt (Reader.signed 16 (b1 * 256 + b2)))),
  (156, 3, fun b1 b2 => some (.ifCond .ge (Reader.signed 16 (b1 * 256 + b2)))),
  (157, 3, fun b1 b2 => some (.ifCond .gt (Reader.signed 16 (b1 * 256 + b2)))),
  (158, 3, fun b1 b2 => some (.ifCond .le (Reader.signed 16 (b1 * 256 + b2)))),
  (159, 3, fun b1 b2 => some (.if_icmp .eq (Reader.signed 16 (b1 * 256 + b2)))),
  (160, 3, fun b1 b2 => some (.if_icmp .ne (Reader.signed 16 (b1 * 256 + b2)))),
  (161, 3, fun b1 b2 => some (.if_icmp .lt (Reader.signed 16 (b1 * 256 + b2)))),
  (162, 3, fun b1 b2 => some (.if_icmp .ge (Reader.signed 16 (b1 * 256 + b2)))),
  (163, 3, fun b1 b2 => some (.if_icmp .gt (Reader.signed 16 (b1 * 256 + b2)))),
  (164, 3, fun b1 b2 => some (.if_icmp .le (Reader.signed 16 (b1 * 256 + b2)))),
  (167, 3, fun b1 b2 => some (.goto (Reader.signed 16 (b1 * 256 + b2)))),
  (172, 1, fun b1 b2 => some (.ireturn)),
  (173, 1, fun b1 b2 => some (.lreturn)),
  (174, 1, fun b1 b2 => some (.freturn)),
  (175, 1, fun b1 b2 => some (.dreturn)),
  (176, 1, fun b1 b2 => some (.areturn)),
  (177, 1, fun b1 b2 => some (.return_)),
  (178, 3, fun b1 b2 => some (.getstatic (b1 * 256 + b2))),
  (180, 3, fun b1 b2 => some (.getfield (b1 * 256 + b2))),
  (181, 3, fun b1 b2 => some (.putfield (b1 * 256 + b2))),
  (182, 3, fun b1 b2 => some (.invokevirtual (b1 * 256 + b2))),
  (183, 3, fun b1 b2 => some (.invokespecial (b1 * 256 + b2))),
  (184, 3, fun b1 b2 => some (.invokestatic (b1 * 256 + b2))),
  (187, 3, fun b1 b2 => some (.new (b1 * 256 + b2))),
  (189, 3, fun b1 b2 => some (.anewarray (b1 * 256 + b2))),
  (190, 1, fun b1 b2 => some (.arraylength)),
  (191, 1, fun b1 b2 => some (.athrow)),
  (198, 3, fun b1 b2 => some (.ifnull (Reader.signed 16 (b1 * 256 + b2)))),
  (199, 3, fun b1 b2 => some (.ifnonnull (Reader.signed 16 (b1 * 256 + b2)))),
  (188, 2, fun b1 _ => match b1 with | 4 => some (.newarray .boolean) | 7 => some (.newarray .double) | 8 => some (.newarray .byte) | 10 => some (.newarray .int) | 11 => some (.newarray .long) | _ => none)]
def dG (e : Nat × Nat × (Nat → Nat → Option Instr)) : Prop := ∀ (code : ByteArray) (p b1 b2 : Nat) (i : Instr), e.2.2 b1 b2 = some i → b3 code p e.1 b1 b2 e.2.1 → DCc code p i
set_option maxRecDepth 4000 in
theorem dk188 : dG (188, 2, fun b1 _ => match b1 with | 4 => some (.newarray .boolean) | 7 => some (.newarray .double) | 8 => some (.newarray .byte) | 10 => some (.newarray .int) | 11 => some (.newarray .long) | _ => none) := by
  intro code p b1 b2 i h hb
  dsimp only at h hb
  split at h
  · cases h; exact dk188_4 hb
  · cases h; exact dk188_7 hb
  · cases h; exact dk188_8 hb
  · cases h; exact dk188_10 hb
  · cases h; exact dk188_11 hb
  · cases h
set_option maxRecDepth 10000 in
theorem dT_ok : ∀ e ∈ dT, dG e := (List.forall_mem_cons.mpr ⟨(fun _ _ _ _ _ h hb => by cases h; exact dk90 hb), (List.forall_mem_cons.mpr ⟨(fun _ _ _ _ _ h hb => by cases h; exact dk192 hb), (List.forall_mem_cons.mpr ⟨(fun _ _ _ _ _ h hb => by cases h; exact dk1 hb), (List.forall_mem_cons.mpr ⟨(fun _ _ _ _ _ h hb => by cases h; exact dk2 hb), (List.forall_mem_cons.mpr ⟨(fun _ _ _ _ _ h hb => by cases h; exact dk3 hb), (List.forall_mem_cons.mpr ⟨(fun _ _ _ _ _ h hb => by cases h; exact dk4 hb), (List.forall_mem_cons.mpr ⟨(fun _ _ _ _ _ h hb => by cases h; exact dk5 hb), (List.forall_mem_cons.mpr ⟨(fun _ _ _ _ _ h hb => by cases h; exact dk6 hb), (List.forall_mem_cons.mpr ⟨(fun _ _ _ _ _ h hb => by cases h; exact dk7 hb), (List.forall_mem_cons.mpr ⟨(fun _ _ _ _ _ h hb => by cases h; exact dk8 hb), (List.forall_mem_cons.mpr ⟨(fun _ _ _ _ _ h hb => by cases h; exact dk9 hb), (List.forall_mem_cons.mpr ⟨(fun _ _ _ _ _ h hb => by cases h; exact dk10 hb), (List.forall_mem_cons.mpr ⟨(fun _ _ _ _ _ h hb => by cases h; exact dk11 hb), (List.forall_mem_cons.mpr ⟨(fun _ _ _ _ _ h hb => by cases h; exact dk12 hb), (List.forall_mem_cons.mpr ⟨(fun _ _ _ _ _ h hb => by cases h; exact dk13 hb), (List.forall_mem_cons.mpr ⟨(fun _ _ _ _ _ h hb => by cases h; exact dk14 hb), (List.forall_mem_cons.mpr ⟨(fun _ _ _ _ _ h hb => by cases h; exact dk15 hb), (List.forall_mem_cons.mpr ⟨(fun _ _ _ _ _ h hb => by cases h; exact dk16 hb), (List.forall_mem_cons.mpr ⟨(fun _ _ _ _ _ h hb => by cases h; exact dk17 hb), (List.forall_mem_cons.mpr ⟨(fun _ _ _ _ _ h hb => by cases h; exact dk18 hb), (List.forall_mem_cons.mpr ⟨(fun _ _ _ _ _ h hb => by cases h; exact dk19 hb), (List.forall_mem_cons.mpr ⟨(fun _ _ _ _ _ h hb => by cases h; exact dk20 hb), (List.forall_mem_cons.mpr ⟨(fun _ _ _ _ _ h hb => by cases h; exact dk21 hb), (List.forall_mem_cons.mpr ⟨(fun _ _ _ _ _ h hb => by cases h; exact dk22 hb), (List.forall_mem_cons.mpr ⟨(fun _ _ _ _ _ h hb => by cases h; exact dk23 hb), (List.forall_mem_cons.mpr ⟨(fun _ _ _ _ _ h hb => by cases h; exact dk24 hb), (List.forall_mem_cons.mpr ⟨(fun _ _ _ _ _ h hb => by cases h; exact dk25 hb), (List.forall_mem_cons.mpr ⟨(fun _ _ _ _ _ h hb => by cases h; exact dk26 hb), (List.forall_mem_cons.mpr ⟨(fun _ _ _ _ _ h hb => by cases h; exact dk27 hb), (List.forall_mem_cons.mpr ⟨(fun _ _ _ _ _ h hb => by cases h; exact dk28 hb), (List.forall_mem_cons.mpr ⟨(fun _ _ _ _ _ h hb => by cases h; exact dk29 hb), (List.forall_mem_cons.mpr ⟨(fun _ _ _ _ _ h hb => by cases h; exact dk30 hb), (List.forall_mem_cons.mpr ⟨(fun _ _ _ _ _ h hb => by cases h; exact dk31 hb), (List.forall_mem_cons.mpr ⟨(fun _ _ _ _ _ h hb => by cases h; exact dk32 hb), (List.forall_mem_cons.mpr ⟨(fun _ _ _ _ _ h hb => by cases h; exact dk33 hb), (List.forall_mem_cons.mpr ⟨(fun _ _ _ _ _ h hb => by cases h; exact dk42 hb), (List.forall_mem_cons.mpr ⟨(fun _ _ _ _ _ h hb => by cases h; exact dk43 hb), (List.forall_mem_cons.mpr ⟨(fun _ _ _ _ _ h hb => by cases h; exact dk44 hb), (List.forall_mem_cons.mpr ⟨(fun _ _ _ _ _ h hb => by cases h; exact dk45 hb), (List.forall_mem_cons.mpr ⟨(fun _ _ _ _ _ h hb => by cases h; exact dk46 hb), (List.forall_mem_cons.mpr ⟨(fun _ _ _ _ _ h hb => by cases h; exact dk47 hb), (List.forall_mem_cons.mpr ⟨(fun _ _ _ _ _ h hb => by cases h; exact dk49 hb), (List.forall_mem_cons.mpr ⟨(fun _ _ _ _ _ h hb => by cases h; exact dk50 hb), (List.forall_mem_cons.mpr ⟨(fun _ _ _ _ _ h hb => by cases h; exact dk51 hb), (List.forall_mem_cons.mpr ⟨(fun _ _ _ _ _ h hb => by cases h; exact dk54 hb), (List.forall_mem_cons.mpr ⟨(fun _ _ _ _ _ h hb => by cases h; exact dk55 hb), (List.forall_mem_cons.mpr ⟨(fun _ _ _ _ _ h hb => by cases h; exact dk56 hb), (List.forall_mem_cons.mpr ⟨(fun _ _ _ _ _ h hb => by cases h; exact dk57 hb), (List.forall_mem_cons.mpr ⟨(fun _ _ _ _ _ h hb => by cases h; exact dk58 hb), (List.forall_mem_cons.mpr ⟨(fun _ _ _ _ _ h hb => by cases h; exact dk59 hb), (List.forall_mem_cons.mpr ⟨(fun _ _ _ _ _ h hb => by cases h; exact dk60 hb), (List.forall_mem_cons.mpr ⟨(fun _ _ _ _ _ h hb => by cases h; exact dk61 hb), (List.forall_mem_cons.mpr ⟨(fun _ _ _ _ _ h hb => by cases h; exact dk62 hb), (List.forall_mem_cons.mpr ⟨(fun _ _ _ _ _ h hb => by cases h; exact dk63 hb), (List.forall_mem_cons.mpr ⟨(fun _ _ _ _ _ h hb => by cases h; exact dk64 hb), (List.forall_mem_cons.mpr ⟨(fun _ _ _ _ _ h hb => by cases h; exact dk65 hb), (List.forall_mem_cons.mpr ⟨(fun _ _ _ _ _ h hb => by cases h; exact dk66 hb), (List.forall_mem_cons.mpr ⟨(fun _ _ _ _ _ h hb => by cases h; exact dk75 hb), (List.forall_mem_cons.mpr ⟨(fun _ _ _ _ _ h hb => by cases h; exact dk76 hb), (List.forall_mem_cons.mpr ⟨(fun _ _ _ _ _ h hb => by cases h; exact dk77 hb), (List.forall_mem_cons.mpr ⟨(fun _ _ _ _ _ h hb => by cases h; exact dk78 hb), (List.forall_mem_cons.mpr ⟨(fun _ _ _ _ _ h hb => by cases h; exact dk79 hb), (List.forall_mem_cons.mpr ⟨(fun _ _ _ _ _ h hb => by cases h; exact dk80 hb), (List.forall_mem_cons.mpr ⟨(fun _ _ _ _ _ h hb => by cases h; exact dk82 hb), (List.forall_mem_cons.mpr ⟨(fun _ _ _ _ _ h hb => by cases h; exact dk83 hb), (List.forall_mem_cons.mpr ⟨(fun _ _ _ _ _ h hb => by cases h; exact dk84 hb), (List.forall_mem_cons.mpr ⟨(fun _ _ _ _ _ h hb => by cases h; exact dk87 hb), (List.forall_mem_cons.mpr ⟨(fun _ _ _ _ _ h hb => by cases h; exact dk89 hb), (List.forall_mem_cons.mpr ⟨(fun _ _ _ _ _ h hb => by cases h; exact dk92 hb), (List.forall_mem_cons.mpr ⟨(fun _ _ _ _ _ h hb => by cases h; exact dk96 hb), (List.forall_mem_cons.mpr ⟨(fun _ _ _ _ _ h hb => by cases h; exact dk97 hb), (List.forall_mem_cons.mpr ⟨(fun _ _ _ _ _ h hb => by cases h; exact dk100 hb), (List.forall_mem_cons.mpr ⟨(fun _ _ _ _ _ h hb => by cases h; exact dk101 hb), (List.forall_mem_cons.mpr ⟨(fun _ _ _ _ _ h hb => by cases h; exact dk104 hb), (List.forall_mem_cons.mpr ⟨(fun _ _ _ _ _ h hb => by cases h; exact dk108 hb), (List.forall_mem_cons.mpr ⟨(fun _ _ _ _ _ h hb => by cases h; exact dk110 hb), (List.forall_mem_cons.mpr ⟨(fun _ _ _ _ _ h hb => by cases h; exact dk111 hb), (List.forall_mem_cons.mpr ⟨(fun _ _ _ _ _ h hb => by cases h; exact dk112 hb), (List.forall_mem_cons.mpr ⟨(fun _ _ _ _ _ h hb => by cases h; exact dk116 hb), (List.forall_mem_cons.mpr ⟨(fun _ _ _ _ _ h hb => by cases h; exact dk120 hb), (List.forall_mem_cons.mpr ⟨(fun _ _ _ _ _ h hb => by cases h; exact dk122 hb), (List.forall_mem_cons.mpr ⟨(fun _ _ _ _ _ h hb => by cases h; exact dk126 hb), (List.forall_mem_cons.mpr ⟨(fun _ _ _ _ _ h hb => by cases h; exact dk128 hb), (List.forall_mem_cons.mpr ⟨(fun _ _ _ _ _ h hb => by cases h; exact dk130 hb), (List.forall_mem_cons.mpr ⟨(fun _ _ _ _ _ h hb => by cases h; exact dk132 hb), (List.forall_mem_cons.mpr ⟨(fun _ _ _ _ _ h hb => by cases h; exact dk133 hb), (List.forall_mem_cons.mpr ⟨(fun _ _ _ _ _ h hb => by cases h; exact dk134 hb), (List.forall_mem_cons.mpr ⟨(fun _ _ _ _ _ h hb => by cases h; exact dk135 hb), (List.forall_mem_cons.mpr ⟨(fun _ _ _ _ _ h hb => by cases h; exact dk136 hb), (List.forall_mem_cons.mpr ⟨(fun _ _ _ _ _ h hb => by cases h; exact dk137 hb), (List.forall_mem_cons.mpr ⟨(fun _ _ _ _ _ h hb => by cases h; exact dk141 hb), (List.forall_mem_cons.mpr ⟨(fun _ _ _ _ _ h hb => by cases h; exact dk145 hb), (List.forall_mem_cons.mpr ⟨(fun _ _ _ _ _ h hb => by cases h; exact dk146 hb), (List.forall_mem_cons.mpr ⟨(fun _ _ _ _ _ h hb => by cases h; exact dk148 hb), (List.forall_mem_cons.mpr ⟨(fun _ _ _ _ _ h hb => by cases h; exact dk149 hb), (List.forall_mem_cons.mpr ⟨(fun _ _ _ _ _ h hb => by cases h; exact dk150 hb), (List.forall_mem_cons.mpr ⟨(fun _ _ _ _ _ h hb => by cases h; exact dk151 hb), (List.forall_mem_cons.mpr ⟨(fun _ _ _ _ _ h hb => by cases h; exact dk152 hb), (List.forall_mem_cons.mpr ⟨(fun _ _ _ _ _ h hb => by cases h; exact dk153 hb), (List.forall_mem_cons.mpr ⟨(fun _ _ _ _ _ h hb => by cases h; exact dk154 hb), (List.forall_mem_cons.mpr ⟨(fun _ _ _ _ _ h hb => by cases h; exact dk155 hb), (List.forall_mem_cons.mpr ⟨(fun _ _ _ _ _ h hb => by cases h; exact dk156 hb), (List.forall_mem_cons.mpr ⟨(fun _ _ _ _ _ h hb => by cases h; exact dk157 hb), (List.forall_mem_cons.mpr ⟨(fun _ _ _ _ _ h hb => by cases h; exact dk158 hb), (List.forall_mem_cons.mpr ⟨(fun _ _ _ _ _ h hb => by cases h; exact dk159 hb), (List.forall_mem_cons.mpr ⟨(fun _ _ _ _ _ h hb => by cases h; exact dk160 hb), (List.forall_mem_cons.mpr ⟨(fun _ _ _ _ _ h hb => by cases h; exact dk161 hb), (List.forall_mem_cons.mpr ⟨(fun _ _ _ _ _ h hb => by cases h; exact dk162 hb), (List.forall_mem_cons.mpr ⟨(fun _ _ _ _ _ h hb => by cases h; exact dk163 hb), (List.forall_mem_cons.mpr ⟨(fun _ _ _ _ _ h hb => by cases h; exact dk164 hb), (List.forall_mem_cons.mpr ⟨(fun _ _ _ _ _ h hb => by cases h; exact dk167 hb), (List.forall_mem_cons.mpr ⟨(fun _ _ _ _ _ h hb => by cases h; exact dk172 hb), (List.forall_mem_cons.mpr ⟨(fun _ _ _ _ _ h hb => by cases h; exact dk173 hb), (List.forall_mem_cons.mpr ⟨(fun _ _ _ _ _ h hb => by cases h; exact dk174 hb), (List.forall_mem_cons.mpr ⟨(fun _ _ _ _ _ h hb => by cases h; exact dk175 hb), (List.forall_mem_cons.mpr ⟨(fun _ _ _ _ _ h hb => by cases h; exact dk176 hb), (List.forall_mem_cons.mpr ⟨(fun _ _ _ _ _ h hb => by cases h; exact dk177 hb), (List.forall_mem_cons.mpr ⟨(fun _ _ _ _ _ h hb => by cases h; exact dk178 hb), (List.forall_mem_cons.mpr ⟨(fun _ _ _ _ _ h hb => by cases h; exact dk180 hb), (List.forall_mem_cons.mpr ⟨(fun _ _ _ _ _ h hb => by cases h; exact dk181 hb), (List.forall_mem_cons.mpr ⟨(fun _ _ _ _ _ h hb => by cases h; exact dk182 hb), (List.forall_mem_cons.mpr ⟨(fun _ _ _ _ _ h hb => by cases h; exact dk183 hb), (List.forall_mem_cons.mpr ⟨(fun _ _ _ _ _ h hb => by cases h; exact dk184 hb), (List.forall_mem_cons.mpr ⟨(fun _ _ _ _ _ h hb => by cases h; exact dk187 hb), (List.forall_mem_cons.mpr ⟨(fun _ _ _ _ _ h hb => by cases h; exact dk189 hb), (List.forall_mem_cons.mpr ⟨(fun _ _ _ _ _ h hb => by cases h; exact dk190 hb), (List.forall_mem_cons.mpr ⟨(fun _ _ _ _ _ h hb => by cases h; exact dk191 hb), (List.forall_mem_cons.mpr ⟨(fun _ _ _ _ _ h hb => by cases h; exact dk198 hb), (List.forall_mem_cons.mpr ⟨(fun _ _ _ _ _ h hb => by cases h; exact dk199 hb), (List.forall_mem_cons.mpr ⟨dk188, (fun _ h => by cases h)⟩)⟩)⟩)⟩)⟩)⟩)⟩)⟩)⟩)⟩)⟩)⟩)⟩)⟩)⟩)⟩)⟩)⟩)⟩)⟩)⟩)⟩)⟩)⟩)⟩)⟩)⟩)⟩)⟩)⟩)⟩)⟩)⟩)⟩)⟩)⟩)⟩)⟩)⟩)⟩)⟩)⟩)⟩)⟩)⟩)⟩)⟩)⟩)⟩)⟩)⟩)⟩)⟩)⟩)⟩)⟩)⟩)⟩)⟩)⟩)⟩)⟩)⟩)⟩)⟩)⟩)⟩)⟩)⟩)⟩)⟩)⟩)⟩)⟩)⟩)⟩)⟩)⟩)⟩)⟩)⟩)⟩)⟩)⟩)⟩)⟩)⟩)⟩)⟩)⟩)⟩)⟩)⟩)⟩)⟩)⟩)⟩)⟩)⟩)⟩)⟩)⟩)⟩)⟩)⟩)⟩)⟩)⟩)⟩)⟩)⟩)⟩)⟩)⟩)⟩)⟩)⟩)⟩)⟩)⟩)⟩)⟩)⟩)⟩)⟩)⟩)⟩)⟩)⟩)⟩)
def dfind (b0 : Nat) : Option (Nat × Nat × (Nat → Nat → Option Instr)) := dT.find? (fun e => e.1 == b0)
/-- one walk over the bytes: each row's instruction stands there -/
def scan : List UInt8 → Nat → List (Nat × Instr) → Bool
  | _, _, [] => true
  | bs, p, (pc, .tableswitch _ _ _ _) :: rest => (match rest with
    | [] => p == pc
    | (q, i) :: r => p == pc && decide (p ≤ q) && scan (bs.drop (q - p)) q ((q, i) :: r))
  | bs, p, (pc, i) :: rest => p == pc && (match bs with
    | [] => false
    | b0 :: t0 => (match dfind b0.toNat with
      | none => false
      | some e => (match e.2.1, t0 with
        | 1, t => decide (e.2.2 0 0 = some i) && scan t (p + 1) rest
        | 2, b1 :: t => decide (e.2.2 b1.toNat 0 = some i) && scan t (p + 2) rest
        | 3, b1 :: b2 :: t => decide (e.2.2 b1.toNat b2.toNat = some i) && scan t (p + 3) rest
        | _, _ => false)))
theorem drop_at {α : Type} {l bs : List α} {p : Nat} {b : α} (h : l.drop p = b :: bs) : l[p]? = some b ∧ l.drop (p + 1) = bs := by
  have h1 : (l.drop p)[0]? = some b := by rw [h]; rfl
  rw [List.getElem?_drop] at h1
  refine ⟨by simpa using h1, ?_⟩
  have h2 : (l.drop p).drop 1 = bs := by rw [h]; rfl
  rw [List.drop_drop] at h2
  exact h2
theorem dfind_ok {b0 : Nat} {e : Nat × Nat × (Nat → Nat → Option Instr)} (h : dfind b0 = some e) : e.1 = b0 ∧ dG e := by
  unfold dfind at h
  exact ⟨by simpa using List.find?_some h, dT_ok _ (List.mem_of_find?_eq_some h)⟩
def notSw (i : Instr) : Prop := match i with
  | .tableswitch _ _ _ _ => False
  | _ => True
theorem scan_ok {code : ByteArray} : ∀ (l : List (Nat × Instr)) (bs : List UInt8) (p : Nat), code.data.toList.drop p = bs → scan bs p l = true → ∀ q ∈ l, notSw q.2 → DCc code q.1 q.2 := by
  intro l
  induction l with
  | nil => intro bs p _ _ q hq; cases hq
  | cons x rest ih =>
    intro bs p hb h
    obtain ⟨pc, i⟩ := x
    have key : (notSw i → DCc code pc i) ∧ ∀ q ∈ rest, notSw q.2 → DCc code q.1 q.2 := by
      unfold scan at h
      split at h
      · rename_i e; cases e
      · rename_i e1 e2 e3
        cases e3
        refine ⟨fun z => z.elim, ?_⟩
        split at h
        · intro q hq; cases hq
        · rename_i q2 i2 r
          simp only [Bool.and_eq_true, decide_eq_true_eq] at h
          refine ih _ q2 ?_ h.2
          rw [← hb, List.drop_drop]
          congr 1
          omega
      · rename_i e1 e2 e3
        cases e3
        simp only [Bool.and_eq_true, beq_iff_eq] at h
        obtain ⟨rfl, h⟩ := h
        split at h
        · cases h
        · rename_i b0 t0
          obtain ⟨g0, hb1⟩ := drop_at hb
          split at h
          · cases h
          · rename_i e he
            obtain ⟨he1, hG⟩ := dfind_ok he
            split at h
            · rename_i hk
              simp only [Bool.and_eq_true, decide_eq_true_eq] at h
              refine ⟨fun _ => hG code _ 0 0 i h.1 ⟨by rw [he1]; exact u1_at g0, fun z => ?_, fun z => ?_⟩, ih _ _ hb1 h.2⟩
              · rw [hk] at z; omega
              · rw [hk] at z; omega
            · rename_i b1 t hk
              simp only [Bool.and_eq_true, decide_eq_true_eq] at h
              obtain ⟨g1, hb2⟩ := drop_at hb1
              refine ⟨fun _ => hG code _ _ 0 i h.1 ⟨by rw [he1]; exact u1_at g0, fun z => u1_at g1, fun z => ?_⟩, ih _ _ hb2 h.2⟩
              rw [hk] at z; omega
            · rename_i b1 b2 t hk
              simp only [Bool.and_eq_true, decide_eq_true_eq] at h
              obtain ⟨g1, hb2⟩ := drop_at hb1
              obtain ⟨g2, hb3⟩ := drop_at hb2
              exact ⟨fun _ => hG code _ _ _ i h.1 ⟨by rw [he1]; exact u1_at g0, fun z => u1_at g1, fun z => u1_at g2⟩, ih _ _ hb3 h.2⟩
            · cases h
    intro q hq hn
    rcases List.mem_cons.mp hq with h1 | hq
    · subst h1
      exact key.1 hn
    · exact key.2 q hq hn
theorem datc {code : ByteArray} {l : List (Nat × Instr)} (h : scan code.data.toList 0 l = true) {k pc : Nat} {i : Instr} (hk : l[k]? = some (pc, i)) (hi : notSw i) : decode code pc = .ok (i, ilen i) := by
  have h1 := scan_ok (code := code) l code.data.toList 0 List.drop_zero h (pc, i) (List.mem_of_getElem? hk) hi
  exact h1
theorem dat {mi : Nat} {l : List (Nat × Instr)} (h : scan (mCd mi).data.toList 0 l = true) {k pc : Nat} {i : Instr} (hk : l[k]? = some (pc, i)) (hi : notSw i) : DC mi pc i := by
  unfold DC
  exact datc h hk hi
