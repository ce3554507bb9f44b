/-! SOUNDNESS of a step, of its ends; the tables once more -/
def mTa : List zMT := mT_0 ++ (mT_1 ++ (mT_2 ++ (mT_3 ++ (mT_4 ++ mT_5))))
theorem mT_app : mT = mTa ++ [mLaw] := by
  simp only [mT, mTa, List.append_assoc]
theorem mTa_len : mTa.length = 195 := by decide +kernel
theorem mLn_in {y : Nat} (h : y < 195) : mLn y ∈ mTa := by
  unfold mLn
  rw [List.getD_eq_getElem?_getD, mT_app, List.getElem?_append_left (by rw [mTa_len]; exact h)]
  rw [List.getElem?_eq_getElem (by rw [mTa_len]; exact h)]
  exact List.getElem_mem _
theorem mLn_ok {y : Nat} (h : y < 195) : (∀ w ∈ mWs (mLn y), w ∈ ALLW) ∧ mSg (mLn y) = true := mT_ok _ (mLn_in h)
theorem mT_init : ∀ m ∈ mTa, m.2.2.2.2.2.1 = 2 → m.2.2.2.1 = none ∧ m.2.2.2.2.2.2.2 = [] := by decide +kernel
theorem mT_virt : ∀ m ∈ mTa, m.2.2.2.2.2.1 = 1 ∨ m.2.2.2.2.2.1 = 3 → m.2.2.2.2.2.2.2 = [] := by decide +kernel
theorem mT_up : ∀ m ∈ mTa, m.2.2.2.2.2.1 = 3 → m.1.cls = "java/lang/AbstractStringBuilder" ∨ m.1.cls = "java/lang/StringBuilder" := by decide +kernel
theorem mT_hnd : ∀ m ∈ mTa, ∀ q ∈ m.2.2.2.2.2.2.2, q.2.2.2 ≠ 0 ∧ lkq m.2.2.2.2.1 q.2.2.2 = some (6, 0, 0) := by decide +kernel
theorem lk_nest : ∀ own, own < 18 → ∀ x ∈ lk own, x.2.1 = 2 → Cond.methodLinkNest (zC own) x.1 (mLn x.2.2.1).1 "LineBalls" ∈ NGW := by decide +kernel
theorem NCP_in : ∀ a, a < 4 → a = 0 ∨ (zX a, zX 0) ∈ NCP := by decide +kernel
theorem cast_in : ∀ a, a < 4 → Cond.castable (zX a) (zX a) ∈ NGW := by decide +kernel
theorem pvl_1 {σ σ1 : St} {ci k a : Nat} {v : Value} (h : pvl σ ci k a v = some σ1) : σ1.1 = σ.1 := by
  unfold pvl at h
  split at h <;> cases h <;> rfl
theorem zcall_no {kd y : Nat} {st : List Value} {σ : St} {q : Cf} (h : zcall kd y st σ = some (.inl q)) : False := by
  unfold zcall at h
  split at h <;> (repeat' split at h) <;> cases h
theorem zthrow_no {mi pc E : Nat} {st : List Value} {σ : St} {q : Cf} (h : zthrow mi pc E st σ = some (.inl q)) : False := by
  unfold zthrow at h
  split at h <;> (repeat' split at h) <;> cases h
theorem zins_grows {mi pc pc1 : Nat} {lo lo1 : Lo} {st st1 : List Value} {σ σ1 : St} {i : Instr} (h : zins mi pc lo st σ i = some (.inl (pc1, lo1, st1, σ1))) : σ1.1 = σ.1 ∨ ∃ n, σ1.1 = (zn σ + 1, zs σ + n, zt σ) := by
  cases i
  case aload k => obtain ⟨_, _, _, _, _, _, rfl⟩ := zld_inv h; exact Or.inl rfl
  case aload_n k => obtain ⟨_, _, _, _, _, _, rfl⟩ := zld_inv h; exact Or.inl rfl
  case iload k => obtain ⟨_, _, _, _, _, _, rfl⟩ := zld_inv h; exact Or.inl rfl
  case iload_n k => obtain ⟨_, _, _, _, _, _, rfl⟩ := zld_inv h; exact Or.inl rfl
  case lload k => obtain ⟨_, _, _, _, _, _, rfl⟩ := zld_inv h; exact Or.inl rfl
  case lload_n k => obtain ⟨_, _, _, _, _, _, rfl⟩ := zld_inv h; exact Or.inl rfl
  case astore k => obtain ⟨_, _, _, _, _, _, rfl⟩ := zst_inv h; exact Or.inl rfl
  case astore_n k => obtain ⟨_, _, _, _, _, _, rfl⟩ := zst_inv h; exact Or.inl rfl
  case istore k => obtain ⟨_, _, _, _, _, _, rfl⟩ := zst_inv h; exact Or.inl rfl
  case istore_n k => obtain ⟨_, _, _, _, _, _, rfl⟩ := zst_inv h; exact Or.inl rfl
  case lstore k => obtain ⟨_, _, _, _, _, _, rfl⟩ := zst2_inv h; exact Or.inl rfl
  case lstore_n k => obtain ⟨_, _, _, _, _, _, rfl⟩ := zst2_inv h; exact Or.inl rfl
  case goto off => obtain ⟨_, _, _, rfl⟩ := tgo_inv h; exact Or.inl rfl
  case newarray t =>
    simp only [zins] at h
    (repeat' split at h) <;> cases h
    exact Or.inr ⟨_, rfl⟩
  case anewarray k =>
    simp only [zins] at h
    (repeat' split at h) <;> cases h
    all_goals exact Or.inr ⟨_, rfl⟩
  case new k =>
    simp only [zins] at h
    split at h
    · split at h
      · cases h; exact Or.inr ⟨_, rfl⟩
      · cases h
    · exact (zthrow_no h).elim
    · cases h
  case putfield k =>
    simp only [zins] at h
    split at h
    · split at h
      · split at h
        · split at h
          · rename_i h1
            cases h
            exact Or.inl (pvl_1 h1)
          · cases h
        · cases h
      · cases h
    · cases h
  case invokevirtual k =>
    simp only [zins] at h
    split at h
    · exact (zcall_no h).elim
    · exact (zcall_no h).elim
    · (repeat' split at h) <;> cases h
      exact Or.inr ⟨_, rfl⟩
    · cases h
  case invokespecial k =>
    simp only [zins] at h
    split at h
    · exact (zcall_no h).elim
    · exact (zcall_no h).elim
    · exact (zcall_no h).elim
    · (repeat' split at h) <;> cases h
      exact Or.inl rfl
    · cases h
  case invokestatic k =>
    simp only [zins] at h
    split at h
    · exact (zcall_no h).elim
    all_goals ((repeat' split at h) <;> first | (cases h; done) | (cases h; exact Or.inl rfl))
  all_goals (simp only [zins, reduceCtorEq] at h)
  all_goals (first | (cases h; done) | (cases h; exact Or.inl rfl; done) | ((repeat' split at h) <;> first | (cases h; done) | (cases h; exact Or.inl rfl) | (obtain ⟨_, _, _, rfl⟩ := tgo_inv h; exact Or.inl rfl) | (obtain ⟨_, _, _, _, _, _, rfl⟩ := tbr_inv h; exact Or.inl rfl)))
theorem stp_grows {mi pc pc1 : Nat} {lo lo1 : Lo} {st st1 : List Value} {σ σ1 : St} (h : stp mi pc lo st σ = some (.inl (pc1, lo1, st1, σ1))) : zn σ ≤ zn σ1 ∧ cu σ ≤ cu σ1 ∧ su σ ≤ su σ1 := by
  have key : σ1.1 = σ.1 ∨ ∃ n, σ1.1 = (zn σ + 1, zs σ + n, zt σ) := by
    unfold stp at h
    split at h
    · split at h
      · exact zins_grows h
      · split at h
        · exact zins_grows h
        · cases h
    · cases h
  rcases key with h1 | ⟨n, hN⟩
  · exact ⟨by unfold zn; rw [h1]; exact Nat.le_refl _, by unfold cu zn zt; rw [h1]; exact Nat.le_refl _, by unfold su zs zt; rw [h1]; exact Nat.le_refl _⟩
  · have e0 : zn σ1 = zn σ + 1 := congrArg (fun (q : Nat × Nat × Nat) => q.1) hN
    have e1 : cu σ1 = zn σ + 1 + zt σ := congrArg (fun (q : Nat × Nat × Nat) => q.1 + q.2.2) hN
    have e2 : su σ1 = zs σ + n + 6 * zt σ := congrArg (fun (q : Nat × Nat × Nat) => q.2.1 + 6 * q.2.2) hN
    exact ⟨by rw [e0]; exact Nat.le_succ _, by rw [e1]; show zn σ + zt σ ≤ _; omega, by rw [e2]; show zs σ + 6 * zt σ ≤ _; omega⟩
section S10
variable {p : Program} {l : Launch} {e : Env} {R : Room} {s : State} {m : MethodId} {args : Array Value} {below : List Frame} {meth : Method} {c : Code} {H : Heap} {locs : List Loc} {cells slots : Nat} {Q : State → Prop}
variable {mi pc : Nat} {dC : Nat → ClassId} {dI : Nat → Nat → Nat} {cid : Nat → ClassId} {base L : Nat} {xs : Nat → Int32} {ad : Nat → Nat} {lo lo1 : Lo} {ls : Array Slot} {st st1 cst : List Value} {σ σ1 : St} {pc1 : Nat}
theorem step_sound (X : Sx p l s m args meth c R H locs mi dC dI cid base L xs ad lo ls σ) (h : stp mi pc lo st σ = some (.inl (pc1, lo1, st1, σ1))) (hs : vrs (zn σ) ad st cst)
    (kn : Kn p l e R s m args below meth c cells slots Q mi dC dI cid base L xs ad σ pc1 lo1 st1 σ1) (hrc : cells + (cu σ1 - cu σ) ≤ R.cells) (hrs : slots + (su σ1 - su σ) ≤ R.slots) : W p l e R s m args below meth c H locs cells slots Q (F0 m pc ls cst) := by
  have hrc0 : cells ≤ R.cells := by omega
  have hrs0 : slots ≤ R.slots := by omega
  unfold stp at h
  split at h
  · rename_i i len hd
    split at h
    · exact s_tableswitch X hd h hs kn
    · split at h
      · rename_i hl
        subst hl
        cases i
        case aload a0 => exact s_aload X hd h hs kn
        case aload_n a0 => exact s_aload_n X hd h hs kn
        case iload a0 => exact s_iload X hd h hs kn
        case iload_n a0 => exact s_iload_n X hd h hs kn
        case lload a0 => exact s_lload X hd h hs kn
        case lload_n a0 => exact s_lload_n X hd h hs kn
        case astore a0 => exact s_astore X hd h hs kn
        case astore_n a0 => exact s_astore_n X hd h hs kn
        case istore a0 => exact s_istore X hd h hs kn
        case istore_n a0 => exact s_istore_n X hd h hs kn
        case lstore a0 => exact s_lstore X hd h hs kn
        case lstore_n a0 => exact s_lstore_n X hd h hs kn
        case iinc a0 a1 => exact s_iinc X hd h hs kn
        case iconst a0 => exact s_iconst X hd h hs kn
        case lconst a0 => exact s_lconst X hd h hs kn
        case bipush a0 => exact s_bipush X hd h hs kn
        case sipush a0 => exact s_sipush X hd h hs kn
        case aconst_null => exact s_aconst_null X hd h hs kn
        case iadd => exact s_iadd X hd h hs kn
        case isub => exact s_isub X hd h hs kn
        case imul => exact s_imul X hd h hs kn
        case iand => exact s_iand X hd h hs kn
        case ior => exact s_ior X hd h hs kn
        case ixor => exact s_ixor X hd h hs kn
        case ishl => exact s_ishl X hd h hs kn
        case ishr => exact s_ishr X hd h hs kn
        case ladd => exact s_ladd X hd h hs kn
        case lsub => exact s_lsub X hd h hs kn
        case lcmp => exact s_lcmp X hd h hs kn
        case ineg => exact s_ineg X hd h hs kn
        case i2l => exact s_i2l X hd h hs kn
        case i2b => exact s_i2b X hd h hs kn
        case i2c => exact s_i2c X hd h hs kn
        case idiv => exact s_idiv X hd h hs kn
        case irem => exact s_irem X hd h hs kn
        case dup => exact s_dup X hd h hs kn
        case pop => exact s_pop X hd h hs kn
        case dup2 => exact s_dup2 X hd h hs kn
        case dup_x1 => exact s_dup_x1 X hd h hs kn
        case checkcast a0 => exact s_checkcast X hd h hs kn
        case goto a0 => exact s_goto X hd h hs kn
        case ifCond a0 a1 => exact s_ifCond X hd h hs kn
        case if_icmp a0 a1 => exact s_if_icmp X hd h hs kn
        case ifnull a0 => exact s_ifnull X hd h hs kn
        case ifnonnull a0 => exact s_ifnonnull X hd h hs kn
        case getfield a0 => exact s_getfield X hd h hs kn
        case putfield a0 => exact s_putfield X hd h hs kn
        case iaload => exact s_iaload X hd h hs kn
        case baload => exact s_baload X hd h hs kn
        case aaload => exact s_aaload X hd h hs kn
        case iastore => exact s_iastore X hd h hs kn
        case bastore => exact s_bastore X hd h hs kn
        case aastore => exact s_aastore X hd h hs kn
        case arraylength => exact s_arraylength X hd h hs kn
        case ldc a0 => exact s_ldc X hd h hs kn
        case getstatic a0 => exact s_getstatic X hd h hs kn
        case newarray a0 => exact s_newarray X hd h hs kn hrc hrs
        case anewarray a0 => exact s_anewarray X hd h hs kn hrc hrs
        case new a0 => exact s_new X hd h hs kn hrc hrs
        case invokespecial a0 => exact s_objinit X hd h hs kn
        case invokestatic a0 => exact s_static X hd h hs kn hrc0 hrs0
        case tableswitch a0 a1 a2 a3 => exact s_tableswitch X hd h hs kn
        case invokevirtual a0 => exact s_clone X hd h hs kn hrc hrs
        all_goals (exfalso; simp only [zins, reduceCtorEq] at h)
        all_goals (first | (cases h; done) | ((repeat' split at h) <;> cases h))
      · cases h
  · cases h
end S10
