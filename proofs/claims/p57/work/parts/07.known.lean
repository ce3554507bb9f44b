/-! WHAT IS KNOWN of a state: the tables' facts that last, the things of the start that no method writes -/
def NGW : List Cond := [(Cond.methodLinkNest "LineBalls" (19 : Nat) ({ cls := "LineBalls$Output", name := "<init>", desc := "()V" } : Jvm.MethodName) "LineBalls" : Cond),
  (Cond.arrayOver (Jvm.ClassFile.FieldType.object "LineBalls$Ball") : Cond),
  (Cond.arrayOver (Jvm.ClassFile.FieldType.object "LineBalls$Barrier") : Cond),
  (Cond.methodLinkNest "LineBalls$Line" (27 : Nat) ({ cls := "LineBalls$Barrier", name := "<init>", desc := "()V" } : Jvm.MethodName) "LineBalls" : Cond),
  (Cond.methodLinkNest "LineBalls$Line" (37 : Nat) ({ cls := "LineBalls$Log", name := "<init>", desc := "()V" } : Jvm.MethodName) "LineBalls" : Cond),
  (Cond.methodLinkNest "LineBalls$Line" (44 : Nat) ({ cls := "LineBalls$Book", name := "<init>", desc := "()V" } : Jvm.MethodName) "LineBalls" : Cond),
  (Cond.methodLinkNest "LineBalls$Line" (49 : Nat) ({ cls := "LineBalls$Ball", name := "<init>", desc := "()V" } : Jvm.MethodName) "LineBalls" : Cond),
  (Cond.arrayOver (Jvm.ClassFile.FieldType.object "LineBalls$Line") : Cond),
  (Cond.castable "java/lang/IllegalStateException" "java/lang/IllegalStateException" : Cond),
  (Cond.declares ({ cls := "java/lang/RuntimeException", name := "<init>", desc := "()V" } : Jvm.MethodName) : Cond),
  (Cond.declares ({ cls := "java/lang/RuntimeException", name := "<init>", desc := "(Ljava/lang/String;)V" } : Jvm.MethodName) : Cond),
  (Cond.declares ({ cls := "java/lang/Exception", name := "<init>", desc := "()V" } : Jvm.MethodName) : Cond),
  (Cond.declares ({ cls := "java/lang/Exception", name := "<init>", desc := "(Ljava/lang/String;)V" } : Jvm.MethodName) : Cond),
  (Cond.declares ({ cls := "java/lang/Throwable", name := "<init>", desc := "()V" } : Jvm.MethodName) : Cond),
  (Cond.declares ({ cls := "java/lang/Throwable", name := "<init>", desc := "(Ljava/lang/String;)V" } : Jvm.MethodName) : Cond),
  (Cond.castable "java/lang/IllegalArgumentException" "java/lang/IllegalArgumentException" : Cond),
  (Cond.castable "java/lang/IndexOutOfBoundsException" "java/lang/IndexOutOfBoundsException" : Cond),
  (Cond.castable "java/util/NoSuchElementException" "java/util/NoSuchElementException" : Cond),
  (Cond.castable "[B" "java/lang/Cloneable" : Cond)]
/-- String constants of the parser: class, pool index, text, which -/
def strK : List (Nat × Nat × String × Nat) := [(7, 65, "box", 0), (7, 74, "steal", 1), (7, 44, "post", 2), (7, 53, "ball", 3), (7, 102, "at", 4), (7, 104, "speed", 5), (7, 109, "weight", 6)]
/-- String constants of the law -/
def strL : List (Nat × Nat × String × Nat) := [(11, 46, "box ", 0), (11, 54, " steal ", 1), (11, 59, " ", 2), (11, 61, ";", 3), (11, 63, "post ", 4), (11, 65, "ball b", 5), (11, 73, " at ", 6), (11, 75, " speed ", 7), (11, 77, " weight ", 8)]
def NCP : List (String × String) := [("java/lang/IllegalArgumentException", "java/lang/IllegalStateException"), ("java/lang/IndexOutOfBoundsException", "java/lang/IllegalStateException"), ("java/util/NoSuchElementException", "java/lang/IllegalStateException")]
def tysF (cid : Nat → ClassId) : List (ClassId × FieldType) := [(cid 11, .int), (cid 13, .byte), (cid 14, .boolean), (cid 16, .object "LineBalls$Ball"), (cid 17, .object "LineBalls$Barrier"), (cid 18, .object "LineBalls$Line")]
def ngOk (w : Cond) : Bool := match w with
  | .methodLinkNest _ _ _ _ => true
  | .castable _ _ => true
  | .declares _ => true
  | .arrayOver (.object _) => true
  | _ => false
theorem NGW_ok : ∀ w ∈ NGW, ngOk w = true := by decide +kernel
theorem ng_warm {w : Cond} (h : ngOk w = true) {s U : State} (hW : s.WarmedH U.vm) (hZ : va_Nw w s) : va_Nw w U := by
  match w, h, hZ with
  | .methodLinkNest _ _ _ _, _, hZ => exact va_Nw.warmM hW hZ
  | .castable _ _, _, hZ => exact va_Nw.warmC hW hZ
  | .declares _, _, hZ => exact va_Nw.warmD hW hZ
  | .arrayOver (.object _), _, hZ => exact va_AO.moved hW.alike hZ
def AA (base : Nat) : Nat → Prop := fun q => base ≤ q
def KU (dC : Nat → ClassId) (dI : Nat → Nat → Nat) (cid : Nat → ClassId) (ad : Nat → Nat) (U : State) : Prop :=
  va_K (dC, dI) vwCl (tysF cid) U ∧ (∀ w ∈ NGW, va_Nw w U) ∧ (∀ e ∈ strK, vk_R (zC e.1) e.2.1 e.2.2.1 (ad (1 + e.2.2.2)) U) ∧ (∀ q ∈ NCP, va_Nc q.1 q.2 U) ∧ (∀ e ∈ strL, vk_R (zC e.1) e.2.1 e.2.2.1 (ad (KB + e.2.2.2)) U) ∧ U.vm.findClass "[B" = some (cid 13)
def HF (base L : Nat) (xs : Nat → Int32) (ad : Nat → Nat) (U : State) (H : Heap) : Prop :=
  base ≤ H.size ∧ va_X (ad 0) L xs U H ∧ ad 0 < base ∧ vk_S 7 sln sby (fun i => ad (1 + i)) (fun i => ad (8 + i)) (AA base) U H ∧ va_Z "java/lang/String" "COMPACT_STRINGS" "Z" (.int 1) (AA base) U H ∧
  va_Zq "jdk/internal/util/Preconditions" "SIOOBE_FORMATTER" "Ljava/util/function/BiFunction;" (AA base) U H ∧ vx_Zq Bundle.tN "UNASSIGNED_STACK" Bundle.steD (AA base) U H ∧ vx_Zq Bundle.tN "SUPPRESSED_SENTINEL" Bundle.listD (AA base) U H ∧
  vk_S 9 kln kby (fun i => ad (KB + i)) (fun i => ad (KB + (9 + i))) (AA base) U H ∧ va_Z "java/lang/Integer" "DigitOnes" "[B" (.ref (ad (KB + 18))) (AA base) U H ∧ va_Z "java/lang/Integer" "DigitTens" "[B" (.ref (ad (KB + 19))) (AA base) U H ∧
  va_T .byte (ad (KB + 18)) 100 (fun j => .int (kdg 18 j)) (AA base) U H ∧ va_T .byte (ad (KB + 19)) 100 (fun j => .int (kdg 19 j)) (AA base) U H
theorem KU.warm {dC : Nat → ClassId} {dI : Nat → Nat → Nat} {cid : Nat → ClassId} {ad : Nat → Nat} {s U : State} (hW : s.WarmedH U.vm) (h : KU dC dI cid ad s) : KU dC dI cid ad U :=
  ⟨va_K.moved hW.alike h.1, fun w hw => ng_warm (NGW_ok w hw) hW (h.2.1 w hw), fun e he => vk_R.warm hW (h.2.2.1 e he), fun q hq => va_Nc.moved hW.alike (h.2.2.2.1 q hq), fun e he => vk_R.warm hW (h.2.2.2.2.1 e he), (hW.alike.findClass _ _).trans h.2.2.2.2.2⟩
theorem KU.adr {dC : Nat → ClassId} {dI : Nat → Nat → Nat} {cid : Nat → ClassId} {ad ad' : Nat → Nat} {s : State} (ha : ∀ k, k < 15 ∨ KB ≤ k → ad' k = ad k) (h : KU dC dI cid ad s) : KU dC dI cid ad' s :=
  ⟨h.1, h.2.1, fun e he => by
    have h1 := h.2.2.1 e he
    have h2 : e.2.2.2 < 7 := by
      have h3 : ∀ e ∈ strK, e.2.2.2 < 7 := by decide +kernel
      exact h3 e he
    rw [ha _ (by omega)]
    exact h1, h.2.2.2.1, fun e he => by
    have h1 := h.2.2.2.2.1 e he
    rw [ha _ (by omega)]
    exact h1, h.2.2.2.2.2⟩
theorem HF.adr {base L : Nat} {xs : Nat → Int32} {ad ad' : Nat → Nat} {U : State} {H : Heap} (ha : ∀ k, k < 15 ∨ KB ≤ k → ad' k = ad k) (h : HF base L xs ad U H) : HF base L xs ad' U H := by
  obtain ⟨h1, h2, h3, h4, h5, h6, h7, h8, h9, h10, h11, h12, h13⟩ := h
  refine ⟨h1, by rw [ha 0 (by omega)]; exact h2, by rw [ha 0 (by omega)]; exact h3, ⟨fun i hi => ?_, fun i j hi hj => ?_⟩, h5, h6, h7, h8, ⟨fun i hi => ?_, fun i j hi hj => ?_⟩, ?_, ?_, ?_, ?_⟩
  · dsimp only
    rw [ha (1 + i) (by omega), ha (8 + i) (by omega)]
    exact h4.1 i hi
  · dsimp only
    rw [ha (1 + i) (by omega), ha (1 + j) (by omega)]
    exact h4.2 i j hi hj
  · dsimp only
    rw [ha (KB + i) (by omega), ha (KB + (9 + i)) (by omega)]
    exact h9.1 i hi
  · dsimp only
    rw [ha (KB + i) (by omega), ha (KB + j) (by omega)]
    exact h9.2 i j hi hj
  · rw [ha (KB + 18) (by omega)]; exact h10
  · rw [ha (KB + 19) (by omega)]; exact h11
  · rw [ha (KB + 18) (by omega)]; exact h12
  · rw [ha (KB + 19) (by omega)]; exact h13
theorem HF.moved {base L : Nat} {xs : Nat → Int32} {ad : Nat → Nat} {u U : State} {H H1 : Heap} (hvm : u.vm.Alike U.vm) (hz : H.size ≤ H1.size) (hq : ∀ a : Nat, a < H.size → ¬ AA base a → H1[a]? = H[a]?) (h : HF base L xs ad u H) : HF base L xs ad U H1 := by
  obtain ⟨h1, h2, h3, h4, h5, h6, h7, h8, h9, h10, h11, h12, h13⟩ := h
  exact ⟨Nat.le_trans h1 hz, (va_X.moved hvm h2).kept (hq _ (Nat.lt_of_lt_of_le h3 h1) (Nat.not_le.mpr h3)), h3, (vk_S.moved hvm h4).kept hq, (va_Z.moved hvm h5).kept hq, (va_Zq.moved hvm h6).kept hq, (vx_Zq.moved hvm h7).kept hq, (vx_Zq.moved hvm h8).kept hq, (vk_S.moved hvm h9).kept hq, (va_Z.moved hvm h10).kept hq, (va_Z.moved hvm h11).kept hq, (va_T.moved hvm h12).kept hq, (va_T.moved hvm h13).kept hq⟩
