theorem nI_max {d : Nat} (h1 : 1 ≤ d) (h : d < 2 ^ 30) : (if nI 1 < nI d then nI d else nI 1) = nI d := by
  by_cases c : 1 < d
  · rw [if_pos (nI_lt c (by omega))]
  · have : d = 1 := by omega
    subst this
    rw [if_neg (nI_nlt (Nat.le_refl 1) (by decide))]
set_option maxHeartbeats 4000000 in
set_option maxRecDepth 100000 in
theorem lm_newLength (l : Launch) (KK : State → Prop) (hKK : ∀ u U : State, u.vm.Alike U.vm → KK u → KK U) (o d : Nat) (h1 : 1 ≤ d) (h2 : o + d < 2 ^ 30) : Met l yJ8_newLength_cabcc wsJ8_newLength_cabcc { frames := 2, cells := 0, slots := 0, locals := 60 } (va_Pc [.int (nI o), .int (nI 1), .int (nI d)] KK) (va_Qi (fun r (_ : Unit) => r = nI (o + d)) (fun _ t => KK t) (fun _ => False)) 0 0 (fun _ => False) := by
  refine Met.ofW (cc := cJ8_newLength_cabcc) (maxL := 4) (ret := some .int) (by decide) rfl ?_
  intro p e s mm args below meth c s₁ B hml hv
  obtain ⟨rfl, hkk⟩ := hv
  have hx := B.exec
  have hb := B.bytes
  have hr := B.returns
  have hts := atoms_spec (ws := wsJ8_newLength_cabcc) B.pre
  have hown : s.vm.findClass RJ8 = some mm.cls := findClass_of_methodNamed B.named
  have hlocks := B.notSynchronized
  have l0 := hts (.methodLink RJ8 194 Lib.Math.max.name) (List.mem_of_getElem? (i := 1) rfl)
  have l1 := hts (.static Lib.Math.max.name) (List.mem_of_getElem? (i := 2) rfl)
  have l2 := hts (.initialized "java/lang/Math") (List.mem_of_getElem? (i := 3) rfl)
  have l3 := hts (.code Lib.Math.max.name Lib.Math.max.code 2 (some .int)) (List.mem_of_getElem? (i := 4) rfl)
  have l4 := hts (.constant RJ8 200 (2147483639)) (List.mem_of_getElem? (i := 5) rfl)
  have hl := lv_entry ([.int (nI o), .int (nI 1), .int (nI d)]) (n := 4) (Nat.le_of_ble_eq_true rfl)
  rw [lg_entry_eq]
  generalize (lg_sl ([.int (nI o), .int (nI 1), .int (nI d)]) ++ List.replicate (4 - (lg_sl ([.int (nI o), .int (nI 1), .int (nI d)])).length) Slot.unset).toArray = ls at hl ⊢
  have hl : lv_has ls 4 [(0, .int (nI o)), (1, .int (nI 1)), (2, .int (nI d))] := hl
  refine lv_iload_n hx hb dJ8_newLength_cabcc_0 rfl (lv_at hl 0 rfl) ?_
  refine lv_iload_n hx hb dJ8_newLength_cabcc_1 rfl (lv_at hl 1 rfl) ?_
  refine lv_iload_n hx hb dJ8_newLength_cabcc_2 rfl (lv_at hl 2 rfl) ?_
  refine va_mmax hx hb (hml.trans hl.1.symm) hown l0 l1 l2 l3 (by decide) (Nat.le_of_ble_eq_true rfl) (Nat.le_of_ble_eq_true rfl) (Nat.le_of_ble_eq_true rfl) dJ8_newLength_cabcc_3 ?_
  rw [nI_max h1 (by omega)]
  refine lv_iadd hx hb dJ8_newLength_cabcc_6 ?_
  rw [nI_add]
  refine lv_istore_n (lv' := [(3, .int (nI (o + d))), (0, .int (nI o)), (1, .int (nI 1)), (2, .int (nI d))]) hx hb dJ8_newLength_cabcc_7 rfl hl (by decide) rfl (fun ls hl => ?_)
  refine lv_iconst (v := 0) hx hb dJ8_newLength_cabcc_8 (by decide) ?_
  refine lv_iload_n hx hb dJ8_newLength_cabcc_9 rfl (lv_at hl 0 rfl) ?_
  refine lv_icmp_ge (tgt := 21) hx hb dJ8_newLength_cabcc_10 (by decide) (fun hc => absurd hc (nI_nle (by omega) (by omega))) (fun _ => ?_)
  refine lv_iload_n hx hb dJ8_newLength_cabcc_13 rfl (lv_at hl 0 rfl) ?_
  refine lv_ldc hx hb hown l4 dJ8_newLength_cabcc_14 ?_
  refine lv_icmp_gt (tgt := 21) hx hb dJ8_newLength_cabcc_16 (by decide) (fun hc => absurd hc (nI_nlt (a := 2147483639) (b := o + d) (by omega) (by decide))) (fun _ => ?_)
  refine lv_iload_n hx hb dJ8_newLength_cabcc_19 rfl (lv_at hl 0 rfl) ?_
  exact W.iret hx hb hr (fun t ht hW => ⟨⟨_, (), rfl, rfl, hKK _ _ hW.alike hkk⟩, ⟨by rw [ht]; exact Nat.le_refl _, fun _ _ _ => by rw [ht]⟩⟩) (fun _ h => nomatch h) dJ8_newLength_cabcc_20
set_option maxHeartbeats 4000000 in
set_option maxRecDepth 100000 in
theorem lm_copyOf3 (l : Launch) (D : va_G) (C : String) (cO : ClassId) (ea mi sz k n : Nat) (f : Nat → Option Nat) (KK : State → Prop) (hKK : ∀ u U : State, u.vm.Alike U.vm → KK u → KK U) (hnk : n ≤ k) (hk : k < 2 ^ 20) : Met l yJ7_copyOf_6403c wsJ7_copyOf_6403c { frames := 2, cells := 1, slots := k, locals := 80 } (va_Pc [.ref ea, .int (nI k), .ref mi] (fun U => U.heap.size = sz ∧ va_P D vwCl [(ea, .inl (cO, n, .inr (.inr (.inr (.inr f)))))] U.heap ∧ va_K D vwCl [(cO, .object "java/lang/Object")] U ∧ va_D (fun _ => True) [(ea, .inl (cO, n, .inr (.inr (.inr (.inr f)))))] ∧ va_Mi "[Ljava/lang/Object;" mi U ∧ va_AO "java/lang/Object" U ∧ va_Dc U ∧ (va_Nw (.castable C "java/lang/Object") U ∧ ∀ j y, f j = some y → y ≠ ea ∧ ∃ cellV : Cell, U.heap[y]? = some cellV ∧ cellV.vm.isStatics = false ∧ U.vm.findClass C = some cellV.cls) ∧ KK U)) (va_Qr (fun _ : Unit => True) (fun _ q t => va_P D vwCl [(ea, .inl (cO, n, .inr (.inr (.inr (.inr f))))), (q, .inl (cO, k, .inr (.inr (.inr (.inr (va_cpy f (fun _ => none) 0 0 n))))))] t.heap ∧ va_D (fun x => x = ea ∨ sz ≤ x) [(ea, .inl (cO, n, .inr (.inr (.inr (.inr f))))), (q, .inl (cO, k, .inr (.inr (.inr (.inr (va_cpy f (fun _ => none) 0 0 n))))))] ∧ KK t) (fun x => x = ea ∨ sz ≤ x)) 1 k (fun x => x = ea ∨ sz ≤ x) := by
  refine Met.ofW (cc := cJ7_copyOf_6403c) (maxL := 4) (ret := some (.array (.object "java/lang/Object"))) (by decide) rfl ?_
  intro p e s mm args below meth c s₁ B hml hv
  obtain ⟨rfl, hsz, hP, hK, hD0, hM, hAO, hDc, hEl, hkk⟩ := hv
  subst hsz
  have hasg : ∀ comp c0 : ClassId, s.vm.findClass "java/lang/Object" = some comp → s.vm.findClass C = some c0 → s.vm.assignable c0 comp = true := lEl.asg (h := 0) (ea := 0) (f := fun _ => none) (H := s.heap) ⟨hEl.1, fun _ _ z => nomatch z⟩
  have hx := B.exec
  have hb := B.bytes
  have hr := B.returns
  have hts := atoms_spec (ws := wsJ7_copyOf_6403c) B.pre
  have hown : s.vm.findClass RJ7 = some mm.cls := findClass_of_methodNamed B.named
  have hlocks := B.notSynchronized
  have l0 := hts (.classLink RJ7 110 "[Ljava/lang/Object;") (List.mem_of_getElem? (i := 1) rfl)
  have l1 := hts (.classLink RJ7 2 "java/lang/Object") (List.mem_of_getElem? (i := 2) rfl)
  have l2 := hts (.methodLink RJ7 304 Lib.Math.min.name) (List.mem_of_getElem? (i := 3) rfl)
  have l3 := hts (.static Lib.Math.min.name) (List.mem_of_getElem? (i := 4) rfl)
  have l4 := hts (.initialized "java/lang/Math") (List.mem_of_getElem? (i := 5) rfl)
  have l5 := hts (.code Lib.Math.min.name Lib.Math.min.code 2 (some .int)) (List.mem_of_getElem? (i := 6) rfl)
  have l6 := hts (.methodLink RJ7 150 arraycopyName) (List.mem_of_getElem? (i := 7) rfl)
  have l7 := hts (.native arraycopyName) (List.mem_of_getElem? (i := 8) rfl)
  have l8 := hts (.static arraycopyName) (List.mem_of_getElem? (i := 9) rfl)
  have l9 := hts (.initialized "java/lang/System") (List.mem_of_getElem? (i := 10) rfl)
  have hD : va_D (fun x => x = ea ∨ s.heap.size ≤ x) [(ea, .inl (cO, n, .inr (.inr (.inr (.inr f)))))] := hD0.weaken (fun k9 q hk9 _ => by
    match k9, hk9 with
    | 0, hk9 => cases hk9; exact Or.inl rfl
    | k9 + 1, hk9 => simp at hk9)
  generalize hAe : (fun x : Nat => x = ea ∨ s.heap.size ≤ x) = A at hD ⊢
  have hA : ∀ q, s.heap.size ≤ q → A q := fun q h => by rw [← hAe]; exact Or.inr h
  have hAo : ∀ q : Nat, q < s.heap.size → q ≠ ea → ¬ A q := by
    intro q h1 h2
    rw [← hAe]
    rintro (z | z)
    · exact h2 z
    · omega
  have hS : va_S A s.heap s.heap [] := va_S.rf
  have hl := lv_entry ([.ref ea, .int (nI k), .ref mi]) (n := 4) (Nat.le_of_ble_eq_true rfl)
  rw [lg_entry_eq]
  generalize (lg_sl ([.ref ea, .int (nI k), .ref mi]) ++ List.replicate (4 - (lg_sl ([.ref ea, .int (nI k), .ref mi])).length) Slot.unset).toArray = ls at hl ⊢
  have hl : lv_has ls 4 [(0, .ref ea), (1, .int (nI k)), (2, .ref mi)] := hl
  refine lv_aload_n hx hb dJ7_copyOf_6403c_0 rfl (lv_at hl 2 rfl) ?_
  refine va_ldcM (C := "[Ljava/lang/Object;") hx hb hown l0 hM dJ7_copyOf_6403c_1 ?_
  refine lv_acmp_ne (rx := some mi) (ry := some mi) (tgt := 13) hx hb dJ7_copyOf_6403c_3 (by decide) (fun hc => absurd rfl hc) (fun _ => ?_)
  refine lv_iload_n hx hb dJ7_copyOf_6403c_6 rfl (lv_at hl 1 rfl) ?_
  refine va_newq (N' := k) hx hb hown l1 hAO hK hP hD hS hA (nI_pos (by omega)) (nI_clamp (by omega)) (by omega) (Nat.le_of_eq (Nat.zero_add 1)) (by show 0 + k ≤ k; omega) dJ7_copyOf_6403c_7 (fun q cA H hK2 hP hD hS => ?_)
  have hcc : cA = cO := by
    have r1 := (hK.2 0 _ rfl).2
    have r2 := (hK2.2 1 _ rfl).2
    exact Option.some.inj ((va_nmO r2 rfl).symm.trans (va_nmO r1 rfl))
  subst hcc
  have hP : va_P D vwCl [(ea, .inl (cA, n, .inr (.inr (.inr (.inr f))))), (q, .inl (cA, k, .inr (.inr (.inr (.inr (fun _ => none))))))] H := hP
  have hD : va_D A [(ea, .inl (cA, n, .inr (.inr (.inr (.inr f))))), (q, .inl (cA, k, .inr (.inr (.inr (.inr (fun _ => none))))))] := hD
  have hEl1 : ∀ j y, f j = some y → ∃ cellV : Cell, H[y]? = some cellV ∧ cellV.vm.isStatics = false ∧ s.vm.findClass C = some cellV.cls := by
    intro j y hy
    obtain ⟨y1, cv, y2, y3⟩ := hEl.2 j y hy
    exact ⟨cv, by rw [hS.2.1 y (Array.getElem?_eq_some_iff.mp y2).1 (hAo y (Array.getElem?_eq_some_iff.mp y2).1 y1)]; exact y2, y3⟩
  refine lv_goto (tgt := 24) hx hb dJ7_copyOf_6403c_10 (by decide) ?_
  refine lv_astore_n (lv' := [(3, .ref q), (0, .ref ea), (1, .int (nI k)), (2, .ref mi)]) hx hb dJ7_copyOf_6403c_24 rfl hl (by decide) rfl (fun ls hl => ?_)
  refine lv_aload_n hx hb dJ7_copyOf_6403c_25 rfl (lv_at hl 1 rfl) ?_
  refine lv_iconst (v := 0) hx hb dJ7_copyOf_6403c_26 (by decide) ?_
  refine lv_aload_n hx hb dJ7_copyOf_6403c_27 rfl (lv_at hl 0 rfl) ?_
  refine lv_iconst (v := 0) hx hb dJ7_copyOf_6403c_28 (by decide) ?_
  refine lv_aload_n hx hb dJ7_copyOf_6403c_29 rfl (lv_at hl 1 rfl) ?_
  refine va_alen hx hb hK2 hP 0 0 rfl rfl (v := nI n) rfl dJ7_copyOf_6403c_30 ?_
  refine lv_iload_n hx hb dJ7_copyOf_6403c_31 rfl (lv_at hl 2 rfl) ?_
  refine W.widen (k := 1) (n := k) (by omega) (by omega) ?_
  refine va_mmin hx hb (hml.trans hl.1.symm) hown l2 l3 l4 l5 (Nat.le_of_ble_eq_true rfl) (Nat.le_of_ble_eq_true rfl) (Nat.le_refl 1) (Nat.le_refl k) dJ7_copyOf_6403c_32 ?_
  rw [if_neg (nI_nlt hnk (by omega))]
  have c0 : (0 : Int32).toNatClampNeg = 0 := by decide
  have c1 : (nI n).toNatClampNeg = n := nI_clamp (by omega)
  refine va_copyq (C := C) (E0 := "java/lang/Object") (E1 := "java/lang/Object") hx hb (hml.trans hl.1.symm) hown l6 l7 l8 l9 hK2 hP hD hS 0 1 0 1 rfl rfl rfl rfl (by decide) (by decide) (nI_pos (by omega)) (by rw [c0, c1]; omega) (by rw [c0, c1]; omega) (fun i hi y hy => hEl1 _ y hy) hasg (Nat.le_of_ble_eq_true rfl) (by show 0 + (nativeFrameWords "java/lang/System" "arraycopy" 5 + 11) ≤ 80; decide +kernel) dJ7_copyOf_6403c_35 (fun H locs hP hD hS => ?_)
  rw [c0, c1] at hP hD
  refine lv_aload_n hx hb dJ7_copyOf_6403c_38 rfl (lv_at hl 0 rfl) ?_
  exact W.aret hx hb hr (Or.inr ⟨_, rfl⟩) (Or.inr ⟨_, rfl⟩) (fun t ht hW => ⟨⟨(), _, rfl, trivial, by show va_P D vwCl _ t.heap; rw [ht]; exact hP, hD, hKK _ _ hW.alike hkk⟩, hS.F ht⟩) hS.2.2 dJ7_copyOf_6403c_39
theorem lm_blind {as : List Value} {B : State → Prop} (h : ∀ (a : Array Value) (U : State) (g : JFrame) (mk : MethodId), B U → B (U.calling g mk a)) : FrameBlind (va_Pc as B) := fun a U g mk q => ⟨q.1, h a U g mk q.2⟩
set_option maxHeartbeats 4000000 in
set_option maxRecDepth 100000 in
theorem lm_copyOf2 (l : Launch) (D : va_G) (C : String) (cO : ClassId) (ea mi sz k n : Nat) (f : Nat → Option Nat) (KK : State → Prop) (hKK : ∀ u U : State, u.vm.Alike U.vm → KK u → KK U) (hnk : n ≤ k) (hk : k < 2 ^ 20) : Met l yJ7_copyOf_1904c wsJ7_copyOf_1904c { frames := 3, cells := 1, slots := k, locals := 110 } (va_Pc [.ref ea, .int (nI k)] (fun U => U.heap.size = sz ∧ va_P D vwCl [(ea, .inl (cO, n, .inr (.inr (.inr (.inr f)))))] U.heap ∧ va_K D vwCl [(cO, .object "java/lang/Object")] U ∧ va_D (fun _ => True) [(ea, .inl (cO, n, .inr (.inr (.inr (.inr f)))))] ∧ va_Mi "[Ljava/lang/Object;" mi U ∧ va_AO "java/lang/Object" U ∧ va_Dc U ∧ (va_Nw (.castable C "java/lang/Object") U ∧ ∀ j y, f j = some y → y ≠ ea ∧ ∃ cellV : Cell, U.heap[y]? = some cellV ∧ cellV.vm.isStatics = false ∧ U.vm.findClass C = some cellV.cls) ∧ KK U)) (va_Qr (fun _ : Unit => True) (fun _ q t => va_P D vwCl [(ea, .inl (cO, n, .inr (.inr (.inr (.inr f))))), (q, .inl (cO, k, .inr (.inr (.inr (.inr (va_cpy f (fun _ => none) 0 0 n))))))] t.heap ∧ va_D (fun x => x = ea ∨ sz ≤ x) [(ea, .inl (cO, n, .inr (.inr (.inr (.inr f))))), (q, .inl (cO, k, .inr (.inr (.inr (.inr (va_cpy f (fun _ => none) 0 0 n))))))] ∧ KK t) (fun x => x = ea ∨ sz ≤ x)) 1 k (fun x => x = ea ∨ sz ≤ x) := by
  refine Met.ofW (cc := cJ7_copyOf_1904c) (maxL := 2) (ret := some (.array (.object "java/lang/Object"))) (by decide) rfl ?_
  intro p e s mm args below meth c s₁ B hml hv
  obtain ⟨rfl, hsz, hP, hK, hD0, hM, hAO, hDc, hEl, hkk⟩ := hv
  subst hsz
  have hasg : ∀ comp c0 : ClassId, s.vm.findClass "java/lang/Object" = some comp → s.vm.findClass C = some c0 → s.vm.assignable c0 comp = true := lEl.asg (h := 0) (ea := 0) (f := fun _ => none) (H := s.heap) ⟨hEl.1, fun _ _ z => nomatch z⟩
  have hx := B.exec
  have hb := B.bytes
  have hr := B.returns
  have hts := atoms_spec (ws := wsJ7_copyOf_1904c) B.pre
  have hown : s.vm.findClass RJ7 = some mm.cls := findClass_of_methodNamed B.named
  have hlocks := B.notSynchronized
  have l0 := hts (.methodLink RJ7 86 ⟨"java/lang/Object", "getClass", "()Ljava/lang/Class;"⟩) (List.mem_of_getElem? (i := 1) rfl)
  have l1 := hts (.selects "[Ljava/lang/Object;" ⟨"java/lang/Object", "getClass", "()Ljava/lang/Class;"⟩ ⟨"java/lang/Object", "getClass", "()Ljava/lang/Class;"⟩) (List.mem_of_getElem? (i := 2) rfl)
  have l2 := hts (.instanceMethod ⟨"java/lang/Object", "getClass", "()Ljava/lang/Class;"⟩) (List.mem_of_getElem? (i := 3) rfl)
  have l3 := hts (.native ⟨"java/lang/Object", "getClass", "()Ljava/lang/Class;"⟩) (List.mem_of_getElem? (i := 4) rfl)
  have hD : va_D (fun x => x = ea ∨ s.heap.size ≤ x) [(ea, .inl (cO, n, .inr (.inr (.inr (.inr f)))))] := hD0.weaken (fun k9 q hk9 _ => by
    match k9, hk9 with
    | 0, hk9 => cases hk9; exact Or.inl rfl
    | k9 + 1, hk9 => simp at hk9)
  generalize hAe : (fun x : Nat => x = ea ∨ s.heap.size ≤ x) = A at hD ⊢
  have hA : ∀ q, s.heap.size ≤ q → A q := fun q h => by rw [← hAe]; exact Or.inr h
  have hAo : ∀ q : Nat, q < s.heap.size → q ≠ ea → ¬ A q := by
    intro q h1 h2
    rw [← hAe]
    rintro (z | z)
    · exact h2 z
    · omega
  have hS : va_S A s.heap s.heap [] := va_S.rf
  have hl := lv_entry ([.ref ea, .int (nI k)]) (n := 2) (Nat.le_of_ble_eq_true rfl)
  rw [lg_entry_eq]
  generalize (lg_sl ([.ref ea, .int (nI k)]) ++ List.replicate (2 - (lg_sl ([.ref ea, .int (nI k)])).length) Slot.unset).toArray = ls at hl ⊢
  have hl : lv_has ls 2 [(0, .ref ea), (1, .int (nI k))] := hl
  refine lv_aload_n hx hb dJ7_copyOf_1904c_0 rfl (lv_at hl 0 rfl) ?_
  refine lv_iload_n hx hb dJ7_copyOf_1904c_1 rfl (lv_at hl 1 rfl) ?_
  refine lv_aload_n hx hb dJ7_copyOf_1904c_2 rfl (lv_at hl 0 rfl) ?_
  refine va_getC (C := "[Ljava/lang/Object;") hx hb (hml.trans hl.1.symm) hown l0 hDc.use l1 l2 l3 hM ⟨_, hP 0 _ rfl, rfl, va_nmO (hK.2 0 _ rfl).2 rfl⟩ (Nat.le_of_ble_eq_true rfl) (Nat.le_of_ble_eq_true rfl) dJ7_copyOf_1904c_3 ?_
  refine va_callr (va_runS (As := [.ref ea, .int (nI k), .ref mi]) (rest := []) ⟨hx, hb, hml, hown, hts⟩ (lm_copyOf3 l D C cO ea mi s.heap.size k n f KK hKK hnk hk) (va_cwS 3 hts gJ7_copyOf_1904c_J7_copyOf_6403c rfl rfl rfl (by decide +kernel) ⟨Nat.le_of_ble_eq_true rfl, Nat.le_of_ble_eq_true rfl⟩) ⟨lm_blind (fun a U g mk q => ⟨q.1, q.2.1, va_K.moved (u := U) (U := U.calling g mk a) (Vm.Alike.refl U.vm) q.2.2.1, q.2.2.2.1, va_Mi.moved (u := U) (U := U.calling g mk a) (Vm.Alike.refl U.vm) q.2.2.2.2.1, va_AO.moved (u := U) (U := U.calling g mk a) (Vm.Alike.refl U.vm) q.2.2.2.2.2.1, va_Dc.moved (u := U) (U := U.calling g mk a) (Vm.Alike.refl U.vm) q.2.2.2.2.2.2.1, ⟨va_Nw.alikeC (s := U) (U := U.calling g mk a) (Vm.Alike.refl U.vm) q.2.2.2.2.2.2.2.1.1, q.2.2.2.2.2.2.2.1.2⟩, hKK U (U.calling g mk a) (Vm.Alike.refl U.vm) q.2.2.2.2.2.2.2.2⟩), fun U hU hW => ⟨rfl, by rw [hU], by rw [hU]; exact hP, hK.moved hW.alike, hD0, hM.moved hW.alike, hAO.moved hW.alike, hDc.moved hW.alike, ⟨hEl.1.alikeC hW.alike, fun j y hy => by obtain ⟨y1, cv, y2, y3, y4⟩ := hEl.2 j y hy; exact ⟨y1, cv, by rw [hU]; exact y2, y3, by rw [hW.alike.findClass]; exact y4⟩⟩, hKK _ _ hW.alike hkk⟩⟩ rfl rfl hl.1 rfl (lv_room (Nat.le_of_ble_eq_true rfl)) dJ7_copyOf_1904c_6 ⟨Nat.le_of_eq (Nat.zero_add 1), by show 0 + k ≤ k; omega⟩) hS (fun q _ h => by rw [← hAe]; exact h) (fun q h => by rw [← hAe]; exact h) (fun u ra t H1 locs1 ht hvm hw hB hz hk1 hS1 => ?_)
  obtain ⟨hB1, hB2, hB3⟩ := hB
  rw [ht] at hB1
  refine W.widen (k := 1) (n := k) (by omega) (by omega) ?_
  exact W.aret hx hb hr (Or.inr ⟨_, rfl⟩) (Or.inr ⟨_, rfl⟩) (fun t2 ht2 hW2 => ⟨⟨(), _, rfl, trivial, by show va_P D vwCl _ t2.heap; rw [ht2]; exact hB1, by rw [← hAe]; exact hB2, hKK _ _ (hvm.symm.trans hW2.alike) hB3⟩, hS1.F ht2⟩) hS1.2.2 dJ7_copyOf_1904c_9
set_option maxHeartbeats 4000000 in
set_option maxRecDepth 100000 in
theorem lm_grow1G (l : Launch) (D : va_G) (C : String) (cO : ClassId) (h ea mi sz : Nat) (m : Int32) (n : Nat) (f : Nat → Option Nat) (KK : State → Prop) (hKK : ∀ u U : State, u.vm.Alike U.vm → KK u → KK U) (h2 : 2 ≤ n) (hn : n ≤ 26) : Met l yJx4a65c_grow_92f84 wsJx4a65c_grow_92f84 { frames := 4, cells := 1, slots := (n + n / 2), locals := 150 } (va_Pc [.ref h, .int (nI (n + 1))] (fun U => U.heap.size = sz ∧ va_P D vwCl (lW h ea m (nI n) cO n f) U.heap ∧ va_D (fun _ => True) (lW h ea m (nI n) cO n f) ∧ va_K D vwCl [(cO, .object "java/lang/Object")] U ∧ va_Mi "[Ljava/lang/Object;" mi U ∧ va_AO "java/lang/Object" U ∧ va_Dc U ∧ (va_Nw (.castable C "java/lang/Object") U ∧ ∀ j y, f j = some y → y ≠ h ∧ y ≠ ea ∧ ∃ cellV : Cell, U.heap[y]? = some cellV ∧ cellV.vm.isStatics = false ∧ U.vm.findClass C = some cellV.cls) ∧ KK U)) (va_Qr (fun _ : Unit => True) (fun _ q t => va_P D vwCl (lW h q m (nI n) cO (n + n / 2) (va_cpy f (fun _ => none) 0 0 n)) t.heap ∧ va_D (fun x => x = h ∨ x = ea ∨ sz ≤ x) (lW h q m (nI n) cO (n + n / 2) (va_cpy f (fun _ => none) 0 0 n)) ∧ KK t) (fun x => x = h ∨ x = ea ∨ sz ≤ x)) 1 (n + n / 2) (fun x => x = h ∨ x = ea ∨ sz ≤ x) := by
  refine Met.ofW (cc := cJx4a65c_grow_92f84) (maxL := 4) (ret := some (.array (.object "java/lang/Object"))) (by decide) rfl ?_
  intro p e s mm args below meth c s₁ B hml hv
  obtain ⟨rfl, hsz, hP, hD0, hK, hM, hAO, hDc, hEl, hkk⟩ := hv
  subst hsz
  have hx := B.exec
  have hb := B.bytes
  have hr := B.returns
  have hts := atoms_spec (ws := wsJx4a65c_grow_92f84) B.pre
  have hown : s.vm.findClass RJx4a65c = some mm.cls := findClass_of_methodNamed B.named
  have hlocks := B.notSynchronized
  have iwsJx4a65c0 : ∀ w ∈ wsJx4a65c0, w ∈ wsJx4a65c_grow_92f84 := fun w h => List.mem_cons_of_mem _ (List.mem_append_right _ h)
  have l0 := hts (.fieldLink RJx4a65c 9 "java/util/ArrayList" "elementData" "[Ljava/lang/Object;") (List.mem_of_getElem? (i := 1) rfl)
  have hD : va_D (fun x => x = h ∨ x = ea ∨ s.heap.size ≤ x) (lW h ea m (nI n) cO n f) := hD0.weaken (fun k9 q hk9 _ => by
    match k9, hk9 with
    | 0, hk9 => cases hk9; exact Or.inl rfl
    | 1, hk9 => cases hk9; exact Or.inr (Or.inl rfl)
    | k9 + 2, hk9 => simp at hk9)
  generalize hAe : (fun x => x = h ∨ x = ea ∨ s.heap.size ≤ x) = A at hD ⊢
  have hA : ∀ q, s.heap.size ≤ q → A q := fun q h => by rw [← hAe]; exact Or.inr (Or.inr h)
  have hS : va_S A s.heap s.heap [] := va_S.rf
  have hAo : ∀ q : Nat, q < s.heap.size → q ≠ h → q ≠ ea → ¬ A q := by
    intro q h1 h2 h3
    rw [← hAe]
    rintro (z | z | z)
    · exact h2 z
    · exact h3 z
    · omega
  have hl := lv_entry ([.ref h, .int (nI (n + 1))]) (n := 4) (Nat.le_of_ble_eq_true rfl)
  rw [lg_entry_eq]
  generalize (lg_sl ([.ref h, .int (nI (n + 1))]) ++ List.replicate (4 - (lg_sl ([.ref h, .int (nI (n + 1))])).length) Slot.unset).toArray = ls at hl ⊢
  have hl : lv_has ls 4 [(0, .ref h), (1, .int (nI (n + 1)))] := hl
  refine lv_aload_n hx hb dJx4a65c_grow_92f84_0 rfl (lv_at hl 0 rfl) ?_
  refine va_get (C := RJx4a65c) (T := TJx4a65c) (N := 3) hx hb hts iwsJx4a65c0 hown hK hP 0 rfl rfl 1 (by decide) l0 (fun _ h => h) rfl dJx4a65c_grow_92f84_1 ?_
  refine va_alen hx hb hK hP 1 0 rfl rfl (v := nI n) rfl dJx4a65c_grow_92f84_4 ?_
  refine lv_istore_n (lv' := [(2, .int (nI n)), (0, .ref h), (1, .int (nI (n + 1)))]) hx hb dJx4a65c_grow_92f84_5 rfl hl (by decide) rfl (fun ls hl => ?_)
  refine lv_iload_n hx hb dJx4a65c_grow_92f84_6 rfl (lv_at hl 0 rfl) ?_
  refine lv_if_gt (tgt := 20) hx hb dJx4a65c_grow_92f84_7 (by decide) (fun _ => ?_) (fun hc => absurd (nI_lt (a := 0) (b := n) (by omega) (by omega)) hc)
  refine lv_iload_n hx hb dJx4a65c_grow_92f84_20 rfl (lv_at hl 0 rfl) ?_
  refine lv_iload_n hx hb dJx4a65c_grow_92f84_21 rfl (lv_at hl 2 rfl) ?_
  refine lv_iload_n hx hb dJx4a65c_grow_92f84_22 rfl (lv_at hl 0 rfl) ?_
  refine lv_isub hx hb dJx4a65c_grow_92f84_23 ?_
  refine lv_iload_n hx hb dJx4a65c_grow_92f84_24 rfl (lv_at hl 0 rfl) ?_
  refine lv_iconst (v := 1) hx hb dJx4a65c_grow_92f84_25 (by decide) ?_
  rw [pk_sub (a := n + 1) (b := n) (by omega), Nat.add_sub_cancel_left]
  refine lv_ishr hx hb dJx4a65c_grow_92f84_26 ?_
  have es : nI n >>> ((1 : Int32) &&& 31) = nI (n / 2) := by
    have k9 := pk_shrN (n := n) (by omega) ((1 : Int32) &&& 31) 1 (by decide)
    rw [Nat.pow_one] at k9
    exact k9
  rw [es]
  refine va_calli (va_runS (As := [.int (nI n), .int (nI 1), .int (nI (n / 2))]) (rest := []) ⟨hx, hb, hml, hown, hts⟩ (lm_newLength l KK hKK n (n / 2) (by omega) (by omega)) (va_cwS 3 hts gJx4a65c_grow_92f84_J8_newLength_cabcc rfl rfl rfl (by decide +kernel) ⟨Nat.le_of_ble_eq_true rfl, Nat.le_of_ble_eq_true rfl⟩) ⟨lm_blind (fun a U g mk q => hKK U (U.calling g mk a) (Vm.Alike.refl U.vm) q), fun U hU hW => ⟨rfl, hKK _ _ hW.alike hkk⟩⟩ rfl rfl hl.1 rfl (lv_room (Nat.le_of_ble_eq_true rfl)) dJx4a65c_grow_92f84_27 ⟨Nat.zero_le _, Nat.zero_le _⟩) hS (fun q _ h => h.elim) (fun q h => h.elim) (fun r9 u t H1 locs1 ht hvm hw hB hz hk1 hS1 => ?_)
  subst hw
  have hP := hP.kept (H1 := H1) (fun k9 q hk9 => hk1 q.1 (hP k9 q hk9).lt (fun z => z))
  generalize H1 = H at hP hS1 ⊢
  generalize locs1 = locs at hS1 ⊢
  have hS := hS1
  refine lv_istore_n (lv' := [(3, .int (nI (n + n / 2))), (2, .int (nI n)), (0, .ref h), (1, .int (nI (n + 1)))]) hx hb dJx4a65c_grow_92f84_30 rfl hl (by decide) rfl (fun ls hl => ?_)
  refine lv_aload_n hx hb dJx4a65c_grow_92f84_31 rfl (lv_at hl 2 rfl) ?_
  refine lv_aload_n hx hb dJx4a65c_grow_92f84_32 rfl (lv_at hl 2 rfl) ?_
  refine va_get (C := RJx4a65c) (T := TJx4a65c) (N := 3) hx hb hts iwsJx4a65c0 hown hK hP 0 rfl rfl 1 (by decide) l0 (fun _ h => h) rfl dJx4a65c_grow_92f84_33 ?_
  refine lv_iload_n hx hb dJx4a65c_grow_92f84_36 rfl (lv_at hl 0 rfl) ?_
  have hPc := hP.sub (ws' := [(ea, .inl (cO, n, .inr (.inr (.inr (.inr f)))))]) [1] rfl
  have hDc2 := hD.sub (ws' := [(ea, .inl (cO, n, .inr (.inr (.inr (.inr f)))))]) [1] (by decide) rfl
  refine va_callr (va_runS (As := [.ref ea, .int (nI (n + n / 2))]) (rest := [.ref h]) ⟨hx, hb, hml, hown, hts⟩ (lm_copyOf2 l D C cO ea mi H.size (n + n / 2) n f KK hKK (by omega) (by omega)) (va_cwS 2 hts gJx4a65c_grow_92f84_J7_copyOf_1904c rfl rfl rfl (by decide +kernel) ⟨Nat.le_of_ble_eq_true rfl, Nat.le_of_ble_eq_true rfl⟩) ⟨lm_blind (fun a U g mk q => ⟨q.1, q.2.1, va_K.moved (u := U) (U := U.calling g mk a) (Vm.Alike.refl U.vm) q.2.2.1, q.2.2.2.1, va_Mi.moved (u := U) (U := U.calling g mk a) (Vm.Alike.refl U.vm) q.2.2.2.2.1, va_AO.moved (u := U) (U := U.calling g mk a) (Vm.Alike.refl U.vm) q.2.2.2.2.2.1, va_Dc.moved (u := U) (U := U.calling g mk a) (Vm.Alike.refl U.vm) q.2.2.2.2.2.2.1, ⟨va_Nw.alikeC (s := U) (U := U.calling g mk a) (Vm.Alike.refl U.vm) q.2.2.2.2.2.2.2.1.1, q.2.2.2.2.2.2.2.1.2⟩, hKK U (U.calling g mk a) (Vm.Alike.refl U.vm) q.2.2.2.2.2.2.2.2⟩), fun U hU hW => ⟨rfl, by rw [hU], by rw [hU]; exact hPc, hK.moved hW.alike, hDc2.weaken (fun _ _ _ _ => trivial), hM.moved hW.alike, hAO.moved hW.alike, hDc.moved hW.alike, ⟨hEl.1.alikeC hW.alike, fun j y hy => by obtain ⟨y0, y1, cv, y2, y3, y4⟩ := hEl.2 j y hy; exact ⟨y1, cv, by rw [hU, hS.2.1 y (Array.getElem?_eq_some_iff.mp y2).1 (hAo y (Array.getElem?_eq_some_iff.mp y2).1 y0 y1)]; exact y2, y3, by rw [hW.alike.findClass]; exact y4⟩⟩, hKK _ _ hW.alike hkk⟩⟩ rfl rfl hl.1 rfl (lv_room (Nat.le_of_ble_eq_true rfl)) dJx4a65c_grow_92f84_37 ⟨Nat.le_of_eq (Nat.zero_add 1), by show 0 + (n + n / 2) ≤ (n + n / 2); omega⟩) hS (fun q _ h => by rw [← hAe]; exact h.elim (fun z => Or.inr (Or.inl z)) (fun z => Or.inr (Or.inr (Nat.le_trans hS.1 z)))) (fun q h => by rw [← hAe]; exact h.elim (fun z => Or.inr (Or.inl z)) (fun z => Or.inr (Or.inr (Nat.le_trans hS.1 z)))) (fun u q t H1 locs1 ht hvm hw hB hz hk1 hS1 => ?_)
  obtain ⟨hB1, hB2, hB3⟩ := hB
  rw [ht] at hB1
  have hFc : ∀ x, va_A [(ea, (.inl (cO, n, .inr (.inr (.inr (.inr f)))) : va_E))] H.size x → A x := va_free (wc := [(ea, .inl (cO, n, .inr (.inr (.inr (.inr f)))))]) hD hS hA [1] rfl
  have hcv : ∀ x, (x = ea ∨ H.size ≤ x) → va_A [(ea, (.inl (cO, n, .inr (.inr (.inr (.inr f)))) : va_E))] H.size x := fun x z => z.elim (fun e9 => by rw [e9]; exact va_A.in (k := 0) (q := (ea, _)) rfl) Or.inr
  obtain ⟨hP, hD⟩ := va_join (wr := [(h, .inr (0, [.int m, .ref ea, .int (nI n)]))]) (w1 := [(ea, .inl (cO, n, .inr (.inr (.inr (.inr f))))), (q, .inl (cO, n + n / 2, .inr (.inr (.inr (.inr (va_cpy f (fun _ => none) 0 0 n))))))]) hP hD [1] [0] rfl rfl (by decide) (by decide) (fun x h1 h2 => hk1 x h1 (fun z => h2 (hcv x z))) hFc hB1 (hB2.weaken (fun _ _ _ z => hcv _ z))
  have hP := hP.sub (ws' := [(h, .inr (0, [.int m, .ref ea, .int (nI n)])), (q, .inl (cO, n + n / 2, .inr (.inr (.inr (.inr (va_cpy f (fun _ => none) 0 0 n))))))]) [0, 2] rfl
  have hD := hD.sub (ws' := [(h, .inr (0, [.int m, .ref ea, .int (nI n)])), (q, .inl (cO, n + n / 2, .inr (.inr (.inr (.inr (va_cpy f (fun _ => none) 0 0 n))))))]) [0, 2] (by decide) rfl
  generalize H1 = H at hP hS1 ⊢
  generalize locs1 = locs at hS1 ⊢
  have hS := hS1
  refine W.widen (k := 1) (n := n + n / 2) (by omega) (by omega) ?_
  refine lv_dup_x1 hx hb dJx4a65c_grow_92f84_40 rfl rfl ?_
  refine va_put (C := RJx4a65c) (T := TJx4a65c) (N := 3) (ty := (.array (.object "java/lang/Object"))) hx hb hts iwsJx4a65c0 tyJx4a65c tyJx4a65c_ok nmJx4a65c hown hK hP hD hS 0 rfl rfl 1 (by decide) l0 (fun _ h => h) rfl (by decide +kernel) rfl rfl (Nat.le_of_ble_eq_true rfl) dJx4a65c_grow_92f84_41 (fun H locs hP hD hS => ?_)
  have hP : va_P D vwCl (lW h q m (nI n) cO (n + n / 2) (va_cpy f (fun _ => none) 0 0 n)) H := hP
  have hD : va_D A (lW h q m (nI n) cO (n + n / 2) (va_cpy f (fun _ => none) 0 0 n)) := hD
  exact W.aret hx hb hr (Or.inr ⟨_, rfl⟩) (Or.inr ⟨_, rfl⟩) (fun t2 ht2 hW2 => ⟨⟨(), _, rfl, trivial, by show va_P D vwCl _ t2.heap; rw [ht2]; exact hP, hD, hKK _ _ (hvm.symm.trans hW2.alike) hB3⟩, hS.F ht2⟩) hS.2.2 dJx4a65c_grow_92f84_44
set_option maxHeartbeats 4000000 in
set_option maxRecDepth 100000 in
theorem lm_grow0G (l : Launch) (D : va_G) (C : String) (cO : ClassId) (h ea mi sz : Nat) (m : Int32) (n : Nat) (f : Nat → Option Nat) (KK : State → Prop) (hKK : ∀ u U : State, u.vm.Alike U.vm → KK u → KK U) (h2 : 2 ≤ n) (hn : n ≤ 26) : Met l yJx4a65c_grow_d5877 wsJx4a65c_grow_d5877 { frames := 5, cells := 1, slots := (n + n / 2), locals := 180 } (va_Pc [.ref h] (fun U => U.heap.size = sz ∧ va_P D vwCl (lW h ea m (nI n) cO n f) U.heap ∧ va_D (fun _ => True) (lW h ea m (nI n) cO n f) ∧ va_K D vwCl [(cO, .object "java/lang/Object")] U ∧ va_Mi "[Ljava/lang/Object;" mi U ∧ va_AO "java/lang/Object" U ∧ va_Dc U ∧ (va_Nw (.castable C "java/lang/Object") U ∧ ∀ j y, f j = some y → y ≠ h ∧ y ≠ ea ∧ ∃ cellV : Cell, U.heap[y]? = some cellV ∧ cellV.vm.isStatics = false ∧ U.vm.findClass C = some cellV.cls) ∧ KK U)) (va_Qr (fun _ : Unit => True) (fun _ q t => va_P D vwCl (lW h q m (nI n) cO (n + n / 2) (va_cpy f (fun _ => none) 0 0 n)) t.heap ∧ va_D (fun x => x = h ∨ x = ea ∨ sz ≤ x) (lW h q m (nI n) cO (n + n / 2) (va_cpy f (fun _ => none) 0 0 n)) ∧ KK t) (fun x => x = h ∨ x = ea ∨ sz ≤ x)) 1 (n + n / 2) (fun x => x = h ∨ x = ea ∨ sz ≤ x) := by
  refine Met.ofW (cc := cJx4a65c_grow_d5877) (maxL := 1) (ret := some (.array (.object "java/lang/Object"))) (by decide) rfl ?_
  intro p e s mm args below meth c s₁ B hml hv
  obtain ⟨rfl, hsz, hP, hD0, hK, hM, hAO, hDc, hEl, hkk⟩ := hv
  subst hsz
  have hx := B.exec
  have hb := B.bytes
  have hr := B.returns
  have hts := atoms_spec (ws := wsJx4a65c_grow_d5877) B.pre
  have hown : s.vm.findClass RJx4a65c = some mm.cls := findClass_of_methodNamed B.named
  have hlocks := B.notSynchronized
  have iwsJx4a65c0 : ∀ w ∈ wsJx4a65c0, w ∈ wsJx4a65c_grow_d5877 := fun w h => List.mem_cons_of_mem _ (List.mem_append_right _ h)
  have l0 := hts (.fieldLink RJx4a65c 48 "java/util/ArrayList" "size" "I") (List.mem_of_getElem? (i := 1) rfl)
  have hD : va_D (fun x => x = h ∨ x = ea ∨ s.heap.size ≤ x) (lW h ea m (nI n) cO n f) := hD0.weaken (fun k9 q hk9 _ => by
    match k9, hk9 with
    | 0, hk9 => cases hk9; exact Or.inl rfl
    | 1, hk9 => cases hk9; exact Or.inr (Or.inl rfl)
    | k9 + 2, hk9 => simp at hk9)
  generalize hAe : (fun x => x = h ∨ x = ea ∨ s.heap.size ≤ x) = A at hD ⊢
  have hA : ∀ q, s.heap.size ≤ q → A q := fun q h => by rw [← hAe]; exact Or.inr (Or.inr h)
  have hS : va_S A s.heap s.heap [] := va_S.rf
  have hAo : ∀ q : Nat, q < s.heap.size → q ≠ h → q ≠ ea → ¬ A q := by
    intro q h1 h2 h3
    rw [← hAe]
    rintro (z | z | z)
    · exact h2 z
    · exact h3 z
    · omega
  have hl := lv_entry ([.ref h]) (n := 1) (Nat.le_of_ble_eq_true rfl)
  rw [lg_entry_eq]
  generalize (lg_sl ([.ref h]) ++ List.replicate (1 - (lg_sl ([.ref h])).length) Slot.unset).toArray = ls at hl ⊢
  have hl : lv_has ls 1 [(0, .ref h)] := hl
  refine lv_aload_n hx hb dJx4a65c_grow_d5877_0 rfl (lv_at hl 0 rfl) ?_
  refine lv_aload_n hx hb dJx4a65c_grow_d5877_1 rfl (lv_at hl 0 rfl) ?_
  refine va_get (C := RJx4a65c) (T := TJx4a65c) (N := 3) hx hb hts iwsJx4a65c0 hown hK hP 0 rfl rfl 2 (by decide) l0 (fun _ h => h) rfl dJx4a65c_grow_d5877_2 ?_
  refine lv_iconst (v := 1) hx hb dJx4a65c_grow_d5877_5 (by decide) ?_
  refine lv_iadd hx hb dJx4a65c_grow_d5877_6 ?_
  rw [nI_1]
  refine va_callr (va_runV (As := [.int (nI (n + 1))]) (rest := []) ⟨hx, hb, hml, hown, hts⟩ (lm_grow1G l D C cO h ea mi s.heap.size m n f KK hKK h2 hn) (cwV 1 hts gJx4a65c_grow_d5877_Jx4a65c_grow_92f84 rfl rfl rfl (by decide +kernel) ⟨Nat.le_of_ble_eq_true rfl, Nat.le_of_ble_eq_true rfl⟩) ⟨lm_blind (fun a U g mk q => ⟨q.1, q.2.1, q.2.2.1, va_K.moved (u := U) (U := U.calling g mk a) (Vm.Alike.refl U.vm) q.2.2.2.1, va_Mi.moved (u := U) (U := U.calling g mk a) (Vm.Alike.refl U.vm) q.2.2.2.2.1, va_AO.moved (u := U) (U := U.calling g mk a) (Vm.Alike.refl U.vm) q.2.2.2.2.2.1, va_Dc.moved (u := U) (U := U.calling g mk a) (Vm.Alike.refl U.vm) q.2.2.2.2.2.2.1, ⟨va_Nw.alikeC (s := U) (U := U.calling g mk a) (Vm.Alike.refl U.vm) q.2.2.2.2.2.2.2.1.1, q.2.2.2.2.2.2.2.1.2⟩, hKK U (U.calling g mk a) (Vm.Alike.refl U.vm) q.2.2.2.2.2.2.2.2⟩), va_recv (q := (RJx4a65c, TJx4a65c, 3)) hK hP (ci := 0) (q0 := 0) rfl rfl, fun U hU hW => ⟨rfl, by rw [hU], by rw [hU]; exact hP, hD.weaken (fun _ _ _ _ => trivial), hK.moved hW.alike, hM.moved hW.alike, hAO.moved hW.alike, hDc.moved hW.alike, ⟨hEl.1.alikeC hW.alike, fun j y hy => by obtain ⟨y0, y1, cv, y2, y3, y4⟩ := hEl.2 j y hy; exact ⟨y0, y1, cv, by rw [hU, hS.2.1 y (Array.getElem?_eq_some_iff.mp y2).1 (hAo y (Array.getElem?_eq_some_iff.mp y2).1 y0 y1)]; exact y2, y3, by rw [hW.alike.findClass]; exact y4⟩⟩, hKK _ _ hW.alike hkk⟩⟩ rfl rfl hl.1 rfl (lv_room (Nat.le_of_ble_eq_true rfl)) dJx4a65c_grow_d5877_7 ⟨Nat.le_of_eq (Nat.zero_add 1), by show 0 + (n + n / 2) ≤ (n + n / 2); omega⟩) hS (fun q _ h => by rw [← hAe]; exact h) (fun q h => by rw [← hAe]; exact h) (fun u q t H1 locs1 ht hvm hw hB hz hk1 hS1 => ?_)
  obtain ⟨hB1, hB2, hB3⟩ := hB
  rw [ht] at hB1
  refine W.widen (k := 1) (n := (n + n / 2)) (by omega) (by omega) ?_
  exact W.aret hx hb hr (Or.inr ⟨_, rfl⟩) (Or.inr ⟨_, rfl⟩) (fun t2 ht2 hW2 => ⟨⟨(), _, rfl, trivial, by show va_P D vwCl _ t2.heap; rw [ht2]; exact hB1, by rw [← hAe]; exact hB2, hKK _ _ (hvm.symm.trans hW2.alike) hB3⟩, hS1.F ht2⟩) hS1.2.2 dJx4a65c_grow_d5877_10
set_option maxHeartbeats 4000000 in
set_option maxRecDepth 100000 in
theorem lm_grow1E (l : Launch) (D : va_G) (cO : ClassId) (h eA sz : Nat) (m : Int32) (gE : Nat → Value) (KK : State → Prop) (hKK : ∀ u U : State, u.vm.Alike U.vm → KK u → KK U) : Met l yJx4a65c_grow_92f84 wsJx4a65c_grow_92f84 { frames := 4, cells := 1, slots := 10, locals := 150 } (va_Pc [.ref h, .int (nI (0 + 1))] (fun U => U.heap.size = sz ∧ va_P D vwCl [(h, .inr (0, [.int m, .ref eA, .int (nI 0)]))] U.heap ∧ va_D (fun _ => True) [(h, .inr (0, [.int m, .ref eA, .int (nI 0)]))] ∧ va_K D vwCl [(cO, .object "java/lang/Object")] U ∧ va_AO "java/lang/Object" U ∧ va_Z "java/util/ArrayList" "DEFAULTCAPACITY_EMPTY_ELEMENTDATA" "[Ljava/lang/Object;" (.ref eA) (fun x => x = h ∨ sz ≤ x) U U.heap ∧ va_T (.object "java/lang/Object") eA 0 gE (fun x => x = h ∨ sz ≤ x) U U.heap ∧ KK U)) (va_Qr (fun _ : Unit => True) (fun _ q t => va_P D vwCl (lW h q m (nI 0) cO 10 (fun _ => none)) t.heap ∧ va_D (fun x => x = h ∨ sz ≤ x) (lW h q m (nI 0) cO 10 (fun _ => none)) ∧ KK t) (fun x => x = h ∨ sz ≤ x)) 1 10 (fun x => x = h ∨ sz ≤ x) := by
  refine Met.ofW (cc := cJx4a65c_grow_92f84) (maxL := 4) (ret := some (.array (.object "java/lang/Object"))) (by decide) rfl ?_
  intro p e s mm args below meth c s₁ B hml hv
  obtain ⟨rfl, hsz, hP, hD0, hK, hAO, hZ, hT, hkk⟩ := hv
  subst hsz
  have hx := B.exec
  have hb := B.bytes
  have hr := B.returns
  have hts := atoms_spec (ws := wsJx4a65c_grow_92f84) B.pre
  have hown : s.vm.findClass RJx4a65c = some mm.cls := findClass_of_methodNamed B.named
  have hlocks := B.notSynchronized
  have iwsJx4a65c0 : ∀ w ∈ wsJx4a65c0, w ∈ wsJx4a65c_grow_92f84 := fun w h => List.mem_cons_of_mem _ (List.mem_append_right _ h)
  have l0 := hts (.fieldLink RJx4a65c 9 "java/util/ArrayList" "elementData" "[Ljava/lang/Object;") (List.mem_of_getElem? (i := 1) rfl)
  have l1 := hts (.fieldLink RJx4a65c 39 "java/util/ArrayList" "DEFAULTCAPACITY_EMPTY_ELEMENTDATA" "[Ljava/lang/Object;") (List.mem_of_getElem? (i := 2) rfl)
  have l2 := hts (.methodLink RJx4a65c 79 Lib.Math.max.name) (List.mem_of_getElem? (i := 3) rfl)
  have l3 := hts (.static Lib.Math.max.name) (List.mem_of_getElem? (i := 4) rfl)
  have l4 := hts (.initialized "java/lang/Math") (List.mem_of_getElem? (i := 5) rfl)
  have l5 := hts (.code Lib.Math.max.name Lib.Math.max.code 2 (some .int)) (List.mem_of_getElem? (i := 6) rfl)
  have l6 := hts (.classLink RJx4a65c 7 "java/lang/Object") (List.mem_of_getElem? (i := 7) rfl)
  have hD : va_D (fun x => x = h ∨ s.heap.size ≤ x) [(h, .inr (0, [.int m, .ref eA, .int (nI 0)]))] := hD0.weaken (fun k9 q hk9 _ => by
    match k9, hk9 with
    | 0, hk9 => cases hk9; exact Or.inl rfl
    | k9 + 1, hk9 => simp at hk9)
  generalize hAe : (fun x => x = h ∨ s.heap.size ≤ x) = A at hD hZ hT ⊢
  have hA : ∀ q, s.heap.size ≤ q → A q := fun q h => by rw [← hAe]; exact Or.inr h
  have hS : va_S A s.heap s.heap [] := va_S.rf
  have hl := lv_entry ([.ref h, .int (nI (0 + 1))]) (n := 4) (Nat.le_of_ble_eq_true rfl)
  rw [lg_entry_eq]
  generalize (lg_sl ([.ref h, .int (nI (0 + 1))]) ++ List.replicate (4 - (lg_sl ([.ref h, .int (nI (0 + 1))])).length) Slot.unset).toArray = ls at hl ⊢
  have hl : lv_has ls 4 [(0, .ref h), (1, .int (nI (0 + 1)))] := hl
  refine lv_aload_n hx hb dJx4a65c_grow_92f84_0 rfl (lv_at hl 0 rfl) ?_
  refine va_get (C := RJx4a65c) (T := TJx4a65c) (N := 3) hx hb hts iwsJx4a65c0 hown hK hP 0 rfl rfl 1 (by decide) l0 (fun _ h => h) rfl dJx4a65c_grow_92f84_1 ?_
  obtain ⟨scr, t1, t2, t3, t4, t5, t6, t7⟩ := id hT
  refine W.alen (n := (0 : Int32)) (ty := .object "java/lang/Object") hx hb t1 t2 t5 rfl rfl dJx4a65c_grow_92f84_4 ?_
  refine W.eq (g2 := F0 mm 5 ls [.int 0]) rfl ?_
  refine lv_istore_n (lv' := [(2, .int 0), (0, .ref h), (1, .int (nI (0 + 1)))]) hx hb dJx4a65c_grow_92f84_5 rfl hl (by decide) rfl (fun ls hl => ?_)
  refine lv_iload_n hx hb dJx4a65c_grow_92f84_6 rfl (lv_at hl 0 rfl) ?_
  refine lv_if_gt (tgt := 20) hx hb dJx4a65c_grow_92f84_7 (by decide) (fun hc => absurd hc (by decide)) (fun _ => ?_)
  refine lv_aload_n hx hb dJx4a65c_grow_92f84_10 rfl (lv_at hl 1 rfl) ?_
  refine va_get (C := RJx4a65c) (T := TJx4a65c) (N := 3) hx hb hts iwsJx4a65c0 hown hK hP 0 rfl rfl 1 (by decide) l0 (fun _ h => h) rfl dJx4a65c_grow_92f84_11 ?_
  refine va_gets hx hb hZ hS hown l1 (fun _ h => h) dJx4a65c_grow_92f84_14 ?_
  refine lv_acmp_eq (rx := some eA) (ry := some eA) (tgt := 45) hx hb dJx4a65c_grow_92f84_17 (by decide) (fun _ => ?_) (fun hc => absurd rfl hc)
  refine lv_aload_n hx hb dJx4a65c_grow_92f84_45 rfl (lv_at hl 1 rfl) ?_
  refine lv_bipush (v := 10) hx hb dJx4a65c_grow_92f84_46 (by decide) ?_
  refine lv_iload_n hx hb dJx4a65c_grow_92f84_48 rfl (lv_at hl 2 rfl) ?_
  refine va_mmax hx hb (hml.trans hl.1.symm) hown l2 l3 l4 l5 (Nat.le_of_ble_eq_true rfl) (Nat.le_of_ble_eq_true rfl) (Nat.le_of_ble_eq_true rfl) (Nat.le_of_ble_eq_true rfl) dJx4a65c_grow_92f84_49 ?_
  rw [if_neg (by decide)]
  refine va_newq (N' := 10) hx hb hown l6 hAO hK hP hD hS hA (by decide) (by decide) (by decide) (Nat.le_of_ble_eq_true rfl) (Nat.le_of_ble_eq_true rfl) dJx4a65c_grow_92f84_52 (fun q cA H hK2 hP hD hS => ?_)
  have hcc : cA = cO := by
    have r1 := (hK.2 0 _ rfl).2
    have r2 := (hK2.2 1 _ rfl).2
    exact Option.some.inj ((va_nmO r2 rfl).symm.trans (va_nmO r1 rfl))
  subst hcc
  have hP : va_P D vwCl [(h, .inr (0, [.int m, .ref eA, .int (nI 0)])), (q, .inl (cA, 10, .inr (.inr (.inr (.inr (fun _ => none))))))] H := hP
  have hD : va_D A [(h, .inr (0, [.int m, .ref eA, .int (nI 0)])), (q, .inl (cA, 10, .inr (.inr (.inr (.inr (fun _ => none))))))] := hD
  refine W.widen (k := 1) (n := 10) (by omega) (by omega) ?_
  refine lv_dup_x1 hx hb dJx4a65c_grow_92f84_55 rfl rfl ?_
  refine va_put (C := RJx4a65c) (T := TJx4a65c) (N := 3) (ty := (.array (.object "java/lang/Object"))) hx hb hts iwsJx4a65c0 tyJx4a65c tyJx4a65c_ok nmJx4a65c hown hK hP hD hS 0 rfl rfl 1 (by decide) l0 (fun _ h => h) rfl (by decide +kernel) rfl rfl (Nat.le_of_ble_eq_true rfl) dJx4a65c_grow_92f84_56 (fun H locs hP hD hS => ?_)
  have hP : va_P D vwCl (lW h q m (nI 0) cA 10 (fun _ => none)) H := hP
  have hD : va_D A (lW h q m (nI 0) cA 10 (fun _ => none)) := hD
  exact W.aret hx hb hr (Or.inr ⟨_, rfl⟩) (Or.inr ⟨_, rfl⟩) (fun t2 ht2 hW2 => ⟨⟨(), _, rfl, trivial, by show va_P D vwCl _ t2.heap; rw [ht2]; exact hP, hD, hKK _ _ hW2.alike hkk⟩, hS.F ht2⟩) hS.2.2 dJx4a65c_grow_92f84_59
set_option maxHeartbeats 4000000 in
set_option maxRecDepth 100000 in
theorem lm_grow0E (l : Launch) (D : va_G) (cO : ClassId) (h eA sz : Nat) (m : Int32) (gE : Nat → Value) (KK : State → Prop) (hKK : ∀ u U : State, u.vm.Alike U.vm → KK u → KK U) : Met l yJx4a65c_grow_d5877 wsJx4a65c_grow_d5877 { frames := 5, cells := 1, slots := 10, locals := 180 } (va_Pc [.ref h] (fun U => U.heap.size = sz ∧ va_P D vwCl [(h, .inr (0, [.int m, .ref eA, .int (nI 0)]))] U.heap ∧ va_D (fun _ => True) [(h, .inr (0, [.int m, .ref eA, .int (nI 0)]))] ∧ va_K D vwCl [(cO, .object "java/lang/Object")] U ∧ va_AO "java/lang/Object" U ∧ va_Z "java/util/ArrayList" "DEFAULTCAPACITY_EMPTY_ELEMENTDATA" "[Ljava/lang/Object;" (.ref eA) (fun x => x = h ∨ sz ≤ x) U U.heap ∧ va_T (.object "java/lang/Object") eA 0 gE (fun x => x = h ∨ sz ≤ x) U U.heap ∧ KK U)) (va_Qr (fun _ : Unit => True) (fun _ q t => va_P D vwCl (lW h q m (nI 0) cO 10 (fun _ => none)) t.heap ∧ va_D (fun x => x = h ∨ sz ≤ x) (lW h q m (nI 0) cO 10 (fun _ => none)) ∧ KK t) (fun x => x = h ∨ sz ≤ x)) 1 10 (fun x => x = h ∨ sz ≤ x) := by
  refine Met.ofW (cc := cJx4a65c_grow_d5877) (maxL := 1) (ret := some (.array (.object "java/lang/Object"))) (by decide) rfl ?_
  intro p e s mm args below meth c s₁ B hml hv
  obtain ⟨rfl, hsz, hP, hD0, hK, hAO, hZ, hT, hkk⟩ := hv
  subst hsz
  have hx := B.exec
  have hb := B.bytes
  have hr := B.returns
  have hts := atoms_spec (ws := wsJx4a65c_grow_d5877) B.pre
  have hown : s.vm.findClass RJx4a65c = some mm.cls := findClass_of_methodNamed B.named
  have hlocks := B.notSynchronized
  have iwsJx4a65c0 : ∀ w ∈ wsJx4a65c0, w ∈ wsJx4a65c_grow_d5877 := fun w h => List.mem_cons_of_mem _ (List.mem_append_right _ h)
  have l0 := hts (.fieldLink RJx4a65c 48 "java/util/ArrayList" "size" "I") (List.mem_of_getElem? (i := 1) rfl)
  have hD : va_D (fun x => x = h ∨ s.heap.size ≤ x) [(h, .inr (0, [.int m, .ref eA, .int (nI 0)]))] := hD0.weaken (fun k9 q hk9 _ => by
    match k9, hk9 with
    | 0, hk9 => cases hk9; exact Or.inl rfl
    | k9 + 1, hk9 => simp at hk9)
  generalize hAe : (fun x => x = h ∨ s.heap.size ≤ x) = A at hD hZ hT ⊢
  have hA : ∀ q, s.heap.size ≤ q → A q := fun q h => by rw [← hAe]; exact Or.inr h
  have hS : va_S A s.heap s.heap [] := va_S.rf
  have hl := lv_entry ([.ref h]) (n := 1) (Nat.le_of_ble_eq_true rfl)
  rw [lg_entry_eq]
  generalize (lg_sl ([.ref h]) ++ List.replicate (1 - (lg_sl ([.ref h])).length) Slot.unset).toArray = ls at hl ⊢
  have hl : lv_has ls 1 [(0, .ref h)] := hl
  refine lv_aload_n hx hb dJx4a65c_grow_d5877_0 rfl (lv_at hl 0 rfl) ?_
  refine lv_aload_n hx hb dJx4a65c_grow_d5877_1 rfl (lv_at hl 0 rfl) ?_
  refine va_get (C := RJx4a65c) (T := TJx4a65c) (N := 3) hx hb hts iwsJx4a65c0 hown hK hP 0 rfl rfl 2 (by decide) l0 (fun _ h => h) rfl dJx4a65c_grow_d5877_2 ?_
  refine lv_iconst (v := 1) hx hb dJx4a65c_grow_d5877_5 (by decide) ?_
  refine lv_iadd hx hb dJx4a65c_grow_d5877_6 ?_
  rw [nI_1]
  refine va_callr (va_runV (As := [.int (nI (0 + 1))]) (rest := []) ⟨hx, hb, hml, hown, hts⟩ (lm_grow1E l D cO h eA s.heap.size m gE KK hKK) (cwV 1 hts gJx4a65c_grow_d5877_Jx4a65c_grow_92f84 rfl rfl rfl (by decide +kernel) ⟨Nat.le_of_ble_eq_true rfl, Nat.le_of_ble_eq_true rfl⟩) ⟨lm_blind (fun a U g mk q => ⟨q.1, q.2.1, q.2.2.1, va_K.moved (u := U) (U := U.calling g mk a) (Vm.Alike.refl U.vm) q.2.2.2.1, va_AO.moved (u := U) (U := U.calling g mk a) (Vm.Alike.refl U.vm) q.2.2.2.2.1, va_Z.moved (u := U) (U := U.calling g mk a) (Vm.Alike.refl U.vm) q.2.2.2.2.2.1, va_T.moved (u := U) (U := U.calling g mk a) (Vm.Alike.refl U.vm) q.2.2.2.2.2.2.1, hKK U (U.calling g mk a) (Vm.Alike.refl U.vm) q.2.2.2.2.2.2.2⟩), va_recv (q := (RJx4a65c, TJx4a65c, 3)) hK hP (ci := 0) (q0 := 0) rfl rfl, fun U hU hW => ⟨rfl, by rw [hU], by rw [hU]; exact hP, hD.weaken (fun _ _ _ _ => trivial), hK.moved hW.alike, hAO.moved hW.alike, by rw [hU]; exact (va_Z.moved hW.alike (hZ.kept (fun a h1 h2 => hS.2.1 a h1 h2))).narrow (fun q hq => by rw [← hAe]; exact hq.elim Or.inl (fun z => Or.inr (Nat.le_trans hS.1 z))), by rw [hU]; exact (va_T.moved hW.alike (hT.kept (fun a h1 h2 => hS.2.1 a h1 h2))).narrow (fun q hq => by rw [← hAe]; exact hq.elim Or.inl (fun z => Or.inr (Nat.le_trans hS.1 z))), hKK _ _ hW.alike hkk⟩⟩ rfl rfl hl.1 rfl (lv_room (Nat.le_of_ble_eq_true rfl)) dJx4a65c_grow_d5877_7 ⟨Nat.le_of_eq (Nat.zero_add 1), by show 0 + 10 ≤ 10; omega⟩) hS (fun q _ h => by rw [← hAe]; exact h) (fun q h => by rw [← hAe]; exact h) (fun u q t H1 locs1 ht hvm hw hB hz hk1 hS1 => ?_)
  obtain ⟨hB1, hB2, hB3⟩ := hB
  rw [ht] at hB1
  refine W.widen (k := 1) (n := 10) (by omega) (by omega) ?_
  exact W.aret hx hb hr (Or.inr ⟨_, rfl⟩) (Or.inr ⟨_, rfl⟩) (fun t2 ht2 hW2 => ⟨⟨(), _, rfl, trivial, by show va_P D vwCl _ t2.heap; rw [ht2]; exact hB1, by rw [← hAe]; exact hB2, hKK _ _ (hvm.symm.trans hW2.alike) hB3⟩, hS1.F ht2⟩) hS1.2.2 dJx4a65c_grow_d5877_10
theorem lm_any {C : String} {s : State} {H : Heap} {v : Nat} {cv : Cell} (hc : va_Nw (.castable C "java/lang/Object") s) (h1 : H[v]? = some cv) (h2 : cv.vm.isStatics = false) (h3 : s.vm.findClass C = some cv.cls) : va_Any "java/lang/Object" s H v := by
  obtain ⟨kC, hkC, -⟩ := Vm.findClass_spec h3
  exact ⟨cv, h1, h2, ⟨kC, hkC⟩, fun comp hcomp => lEl.asg (h := 0) (ea := 0) (f := fun _ => none) (H := H) ⟨hc, fun _ _ z => nomatch z⟩ comp _ hcomp h3⟩
set_option maxHeartbeats 4000000 in
set_option maxRecDepth 100000 in
theorem lm_add3R (l : Launch) (D : va_G) (C : String) (cO : ClassId) (h ea sz : Nat) (m : Int32) (cap n : Nat) (f : Nat → Option Nat) (KK : State → Prop) (hKK : ∀ u U : State, u.vm.Alike U.vm → KK u → KK U) (v : Nat) (hnc : n < cap) (hn : cap < 2 ^ 30) : Met l yJx4a65c_add_72be8 wsJx4a65c_add_72be8 { frames := 6, cells := 1, slots := 40, locals := 220 } (va_Pc [.ref h, .ref v, .ref ea, .int (nI n)] (fun U => U.heap.size = sz ∧ va_P D vwCl (lW h ea m (nI n) cO cap f) U.heap ∧ va_D (fun _ => True) (lW h ea m (nI n) cO cap f) ∧ va_K D vwCl [(cO, .object "java/lang/Object")] U ∧ (va_Nw (.castable C "java/lang/Object") U ∧ v ≠ h ∧ v ≠ ea ∧ ∃ cellV : Cell, U.heap[v]? = some cellV ∧ cellV.vm.isStatics = false ∧ U.vm.findClass C = some cellV.cls) ∧ KK U)) (va_Qv (fun _ : Nat => True) (fun q t => va_P D vwCl (lW h q m (nI (n + 1)) cO cap (va_up f n (some v))) t.heap ∧ va_D (fun x => x = h ∨ x = ea ∨ sz ≤ x) (lW h q m (nI (n + 1)) cO cap (va_up f n (some v))) ∧ KK t) (fun x => x = h ∨ x = ea ∨ sz ≤ x)) 1 40 (fun x => x = h ∨ x = ea ∨ sz ≤ x) := by
  refine Met.ofW (cc := cJx4a65c_add_72be8) (maxL := 4) (ret := none) (by decide) rfl ?_
  intro p e s mm args below meth c s₁ B hml hv
  obtain ⟨rfl, hsz, hP, hD0, hK, hV, hkk⟩ := hv
  subst hsz
  have hx := B.exec
  have hb := B.bytes
  have hr := B.returns
  have hts := atoms_spec (ws := wsJx4a65c_add_72be8) B.pre
  have hown : s.vm.findClass RJx4a65c = some mm.cls := findClass_of_methodNamed B.named
  have hlocks := B.notSynchronized
  have iwsJx4a65c0 : ∀ w ∈ wsJx4a65c0, w ∈ wsJx4a65c_add_72be8 := fun w h => List.mem_cons_of_mem _ (List.mem_append_right _ h)
  have l0 := hts (.fieldLink RJx4a65c 48 "java/util/ArrayList" "size" "I") (List.mem_of_getElem? (i := 1) rfl)
  have hD : va_D (fun x => x = h ∨ x = ea ∨ s.heap.size ≤ x) (lW h ea m (nI n) cO cap f) := hD0.weaken (fun k9 q hk9 _ => by
    match k9, hk9 with
    | 0, hk9 => cases hk9; exact Or.inl rfl
    | 1, hk9 => cases hk9; exact Or.inr (Or.inl rfl)
    | k9 + 2, hk9 => simp at hk9)
  generalize hAe : (fun x => x = h ∨ x = ea ∨ s.heap.size ≤ x) = A at hD ⊢
  have hA : ∀ q, s.heap.size ≤ q → A q := fun q h => by rw [← hAe]; exact Or.inr (Or.inr h)
  have hS : va_S A s.heap s.heap [] := va_S.rf
  have hAo : ∀ q : Nat, q < s.heap.size → q ≠ h → q ≠ ea → ¬ A q := by
    intro q h1 h2 h3
    rw [← hAe]
    rintro (z | z | z)
    · exact h2 z
    · exact h3 z
    · omega
  have hl := lv_entry ([.ref h, .ref v, .ref ea, .int (nI n)]) (n := 4) (Nat.le_of_ble_eq_true rfl)
  rw [lg_entry_eq]
  generalize (lg_sl ([.ref h, .ref v, .ref ea, .int (nI n)]) ++ List.replicate (4 - (lg_sl ([.ref h, .ref v, .ref ea, .int (nI n)])).length) Slot.unset).toArray = ls at hl ⊢
  have hl : lv_has ls 4 [(0, .ref h), (1, .ref v), (2, .ref ea), (3, .int (nI n))] := hl
  refine lv_iload_n hx hb dJx4a65c_add_72be8_0 rfl (lv_at hl 3 rfl) ?_
  refine lv_aload_n hx hb dJx4a65c_add_72be8_1 rfl (lv_at hl 2 rfl) ?_
  refine va_alen hx hb hK hP 1 0 rfl rfl (v := nI cap) rfl dJx4a65c_add_72be8_2 ?_
  refine lv_icmp_ne (tgt := 11) hx hb dJx4a65c_add_72be8_3 (by decide) (fun _ => ?_) (fun hc => absurd ((nI_eq (by omega) (by omega)).mp hc) (by omega))
  refine W.widen (k := 1) (n := 40) (by omega) (by omega) ?_
  refine lv_aload_n hx hb dJx4a65c_add_72be8_11 rfl (lv_at hl 2 rfl) ?_
  refine lv_iload_n hx hb dJx4a65c_add_72be8_12 rfl (lv_at hl 3 rfl) ?_
  refine lv_aload_n hx hb dJx4a65c_add_72be8_13 rfl (lv_at hl 1 rfl) ?_
  have hany : va_Any "java/lang/Object" s s.heap v := by
    obtain ⟨y0, y1, cv, y2, y3, y4⟩ := hV.2
    exact lm_any hV.1 (cv := cv) (by exact y2) y3 y4
  refine va_astqM (E := "java/lang/Object") hx hb hK hP hD hS 1 0 rfl rfl hany (vp_in_nI (by omega) (by omega)) dJx4a65c_add_72be8_14 (fun H locs hP hD hS => ?_)
  rw [nI_clamp (by omega)] at hP hD
  have hP : va_P D vwCl (lW h ea m (nI n) cO cap (va_up f n (some v))) H := hP
  have hD : va_D A (lW h ea m (nI n) cO cap (va_up f n (some v))) := hD
  refine lv_aload_n hx hb dJx4a65c_add_72be8_15 rfl (lv_at hl 0 rfl) ?_
  refine lv_iload_n hx hb dJx4a65c_add_72be8_16 rfl (lv_at hl 3 rfl) ?_
  refine lv_iconst (v := 1) hx hb dJx4a65c_add_72be8_17 (by decide) ?_
  refine lv_iadd hx hb dJx4a65c_add_72be8_18 ?_
  rw [nI_1]
  refine va_put (C := RJx4a65c) (T := TJx4a65c) (N := 3) (ty := .int) hx hb hts iwsJx4a65c0 tyJx4a65c tyJx4a65c_ok nmJx4a65c hown hK hP hD hS 0 rfl rfl 2 (by decide) l0 (fun _ h => h) rfl (by decide +kernel) rfl rfl (Nat.le_of_ble_eq_true rfl) dJx4a65c_add_72be8_19 (fun H locs hP hD hS => ?_)
  have hP : va_P D vwCl (lW h ea m (nI (n + 1)) cO cap (va_up f n (some v))) H := hP
  have hD : va_D A (lW h ea m (nI (n + 1)) cO cap (va_up f n (some v))) := hD
  exact W.vret hx hb hr (fun t2 ht2 hW2 => ⟨⟨ea, rfl, trivial, by show va_P D vwCl _ t2.heap; rw [ht2]; exact hP, hD, hKK _ _ hW2.alike hkk⟩, hS.F ht2⟩) hS.2.2 dJx4a65c_add_72be8_22
set_option maxHeartbeats 4000000 in
set_option maxRecDepth 100000 in
theorem lm_add1R (l : Launch) (D : va_G) (C : String) (cO : ClassId) (h ea sz : Nat) (m : Int32) (cap n : Nat) (f : Nat → Option Nat) (KK : State → Prop) (hKK : ∀ u U : State, u.vm.Alike U.vm → KK u → KK U) (v : Nat) (hnc : n < cap) (hn : cap < 2 ^ 30) : Met l yJx4a65c_add_9ea2d wsJx4a65c_add_9ea2d { frames := 7, cells := 1, slots := 40, locals := 260 } (va_Pc [.ref h, .ref v] (fun U => U.heap.size = sz ∧ va_P D vwCl (lW h ea m (nI n) cO cap f) U.heap ∧ va_D (fun _ => True) (lW h ea m (nI n) cO cap f) ∧ va_K D vwCl [(cO, .object "java/lang/Object")] U ∧ (va_Nw (.castable C "java/lang/Object") U ∧ v ≠ h ∧ v ≠ ea ∧ ∃ cellV : Cell, U.heap[v]? = some cellV ∧ cellV.vm.isStatics = false ∧ U.vm.findClass C = some cellV.cls) ∧ KK U)) (va_Qi (fun (_ : Int32) (_ : Nat) => True) (fun q t => va_P D vwCl (lW h q (m + 1) (nI (n + 1)) cO cap (va_up f n (some v))) t.heap ∧ va_D (fun x => x = h ∨ x = ea ∨ sz ≤ x) (lW h q (m + 1) (nI (n + 1)) cO cap (va_up f n (some v))) ∧ KK t) (fun x => x = h ∨ x = ea ∨ sz ≤ x)) 1 40 (fun x => x = h ∨ x = ea ∨ sz ≤ x) := by
  refine Met.ofW (cc := cJx4a65c_add_9ea2d) (maxL := 2) (ret := some .boolean) (by decide) rfl ?_
  intro p e s mm args below meth c s₁ B hml hv
  obtain ⟨rfl, hsz, hP, hD0, hK, hV, hkk⟩ := hv
  subst hsz
  have hx := B.exec
  have hb := B.bytes
  have hr := B.returns
  have hts := atoms_spec (ws := wsJx4a65c_add_9ea2d) B.pre
  have hown : s.vm.findClass RJx4a65c = some mm.cls := findClass_of_methodNamed B.named
  have hlocks := B.notSynchronized
  have iwsJx4a65c0 : ∀ w ∈ wsJx4a65c0, w ∈ wsJx4a65c_add_9ea2d := fun w h => List.mem_cons_of_mem _ (List.mem_append_right _ h)
  have l0 := hts (.fieldLink RJx4a65c 63 "java/util/ArrayList" "modCount" "I") (List.mem_of_getElem? (i := 1) rfl)
  have l1 := hts (.sameField "java/util/ArrayList" "java/util/AbstractList" "modCount" "I") (List.mem_of_getElem? (i := 2) rfl)
  have l2 := hts (.fieldLink RJx4a65c 9 "java/util/ArrayList" "elementData" "[Ljava/lang/Object;") (List.mem_of_getElem? (i := 3) rfl)
  have l3 := hts (.fieldLink RJx4a65c 48 "java/util/ArrayList" "size" "I") (List.mem_of_getElem? (i := 4) rfl)
  have hD : va_D (fun x => x = h ∨ x = ea ∨ s.heap.size ≤ x) (lW h ea m (nI n) cO cap f) := hD0.weaken (fun k9 q hk9 _ => by
    match k9, hk9 with
    | 0, hk9 => cases hk9; exact Or.inl rfl
    | 1, hk9 => cases hk9; exact Or.inr (Or.inl rfl)
    | k9 + 2, hk9 => simp at hk9)
  generalize hAe : (fun x => x = h ∨ x = ea ∨ s.heap.size ≤ x) = A at hD ⊢
  have hA : ∀ q, s.heap.size ≤ q → A q := fun q h => by rw [← hAe]; exact Or.inr (Or.inr h)
  have hS : va_S A s.heap s.heap [] := va_S.rf
  have hAo : ∀ q : Nat, q < s.heap.size → q ≠ h → q ≠ ea → ¬ A q := by
    intro q h1 h2 h3
    rw [← hAe]
    rintro (z | z | z)
    · exact h2 z
    · exact h3 z
    · omega
  have hl := lv_entry ([.ref h, .ref v]) (n := 2) (Nat.le_of_ble_eq_true rfl)
  rw [lg_entry_eq]
  generalize (lg_sl ([.ref h, .ref v]) ++ List.replicate (2 - (lg_sl ([.ref h, .ref v])).length) Slot.unset).toArray = ls at hl ⊢
  have hl : lv_has ls 2 [(0, .ref h), (1, .ref v)] := hl
  refine lv_aload_n hx hb dJx4a65c_add_9ea2d_0 rfl (lv_at hl 0 rfl) ?_
  refine lv_dup hx hb dJx4a65c_add_9ea2d_1 rfl ?_
  refine va_get (C := RJx4a65c) (T := TJx4a65c) (N := 3) hx hb hts iwsJx4a65c0 hown hK hP 0 rfl rfl 0 (by decide) l0 (u_same l1) rfl dJx4a65c_add_9ea2d_2 ?_
  refine lv_iconst (v := 1) hx hb dJx4a65c_add_9ea2d_5 (by decide) ?_
  refine lv_iadd hx hb dJx4a65c_add_9ea2d_6 ?_
  refine va_put (C := RJx4a65c) (T := TJx4a65c) (N := 3) (ty := .int) hx hb hts iwsJx4a65c0 tyJx4a65c tyJx4a65c_ok nmJx4a65c hown hK hP hD hS 0 rfl rfl 0 (by decide) l0 (u_same l1) rfl (by decide +kernel) rfl rfl (Nat.le_of_ble_eq_true rfl) dJx4a65c_add_9ea2d_7 (fun H locs hP hD hS => ?_)
  have hP : va_P D vwCl (lW h ea (m + 1) (nI n) cO cap f) H := hP
  have hD : va_D A (lW h ea (m + 1) (nI n) cO cap f) := hD
  refine lv_aload_n hx hb dJx4a65c_add_9ea2d_10 rfl (lv_at hl 0 rfl) ?_
  refine lv_aload_n hx hb dJx4a65c_add_9ea2d_11 rfl (lv_at hl 1 rfl) ?_
  refine lv_aload_n hx hb dJx4a65c_add_9ea2d_12 rfl (lv_at hl 0 rfl) ?_
  refine va_get (C := RJx4a65c) (T := TJx4a65c) (N := 3) hx hb hts iwsJx4a65c0 hown hK hP 0 rfl rfl 1 (by decide) l2 (fun _ h => h) rfl dJx4a65c_add_9ea2d_13 ?_
  refine lv_aload_n hx hb dJx4a65c_add_9ea2d_16 rfl (lv_at hl 0 rfl) ?_
  refine va_get (C := RJx4a65c) (T := TJx4a65c) (N := 3) hx hb hts iwsJx4a65c0 hown hK hP 0 rfl rfl 2 (by decide) l3 (fun _ h => h) rfl dJx4a65c_add_9ea2d_17 ?_
  refine va_callv (va_runV (As := [.ref v, .ref ea, .int (nI n)]) (rest := []) ⟨hx, hb, hml, hown, hts⟩ (lm_add3R l D C cO h ea H.size (m + 1) cap n f KK hKK v hnc hn) (cwV 3 hts gJx4a65c_add_9ea2d_Jx4a65c_add_72be8 rfl rfl rfl (by decide +kernel) ⟨Nat.le_of_ble_eq_true rfl, Nat.le_of_ble_eq_true rfl⟩) ⟨lm_blind (fun a U g mk q => ⟨q.1, q.2.1, q.2.2.1, va_K.moved (u := U) (U := U.calling g mk a) (Vm.Alike.refl U.vm) q.2.2.2.1, ⟨va_Nw.alikeC (s := U) (U := U.calling g mk a) (Vm.Alike.refl U.vm) q.2.2.2.2.1.1, q.2.2.2.2.1.2⟩, hKK U (U.calling g mk a) (Vm.Alike.refl U.vm) q.2.2.2.2.2⟩), va_recv (q := (RJx4a65c, TJx4a65c, 3)) hK hP (ci := 0) (q0 := 0) rfl rfl, fun U hU hW => ⟨rfl, by rw [hU], by rw [hU]; exact hP, hD.weaken (fun _ _ _ _ => trivial), hK.moved hW.alike, ⟨hV.1.alikeC hW.alike, by obtain ⟨y0, y1, cv, y2, y3, y4⟩ := hV.2; exact ⟨y0, y1, cv, by rw [hU, hS.2.1 v (Array.getElem?_eq_some_iff.mp y2).1 (hAo v (Array.getElem?_eq_some_iff.mp y2).1 y0 y1)]; exact y2, y3, by rw [hW.alike.findClass]; exact y4⟩⟩, hKK _ _ hW.alike hkk⟩⟩ rfl rfl hl.1 rfl (lv_room (Nat.le_of_ble_eq_true rfl)) dJx4a65c_add_9ea2d_20 ⟨by show 0 + 1 ≤ 1; omega, by show 0 + 40 ≤ 40; omega⟩) hS (fun q _ h => by rw [← hAe]; exact h.elim Or.inl (fun z => z.elim (fun z => Or.inr (Or.inl z)) (fun z => Or.inr (Or.inr (Nat.le_trans hS.1 z))))) (fun q h => by rw [← hAe]; exact h.elim Or.inl (fun z => z.elim (fun z => Or.inr (Or.inl z)) (fun z => Or.inr (Or.inr (Nat.le_trans hS.1 z))))) (fun q t H1 locs1 ht hvm hw hB hz hk1 hS1 => ?_)
  obtain ⟨hB1, hB2, hB3⟩ := hB
  rw [ht] at hB1
  refine W.widen (k := 1) (n := 40) (by omega) (by omega) ?_
  refine lv_iconst (v := 1) hx hb dJx4a65c_add_9ea2d_23 (by decide) ?_
  exact W.zret hx hb hr rfl (fun t2 ht2 hW2 => ⟨⟨_, q, rfl, trivial, by show va_P D vwCl _ t2.heap; rw [ht2]; exact hB1, hB2.weaken (fun _ _ _ h => by rw [← hAe]; exact h.elim Or.inl (fun z => z.elim (fun z => Or.inr (Or.inl z)) (fun z => Or.inr (Or.inr (Nat.le_trans hS.1 z))))), hKK _ _ (hvm.symm.trans hW2.alike) hB3⟩, hS1.F ht2⟩) hS1.2.2 dJx4a65c_add_9ea2d_24
set_option maxHeartbeats 4000000 in
set_option maxRecDepth 100000 in
theorem lm_add3G (l : Launch) (D : va_G) (C : String) (cO : ClassId) (h ea mi sz : Nat) (m : Int32) (n : Nat) (f : Nat → Option Nat) (KK : State → Prop) (hKK : ∀ u U : State, u.vm.Alike U.vm → KK u → KK U) (v : Nat) (h2 : 2 ≤ n) (hn : n ≤ 26) : Met l yJx4a65c_add_72be8 wsJx4a65c_add_72be8 { frames := 6, cells := 1, slots := 40, locals := 220 } (va_Pc [.ref h, .ref v, .ref ea, .int (nI n)] (fun U => U.heap.size = sz ∧ va_P D vwCl (lW h ea m (nI n) cO n f) U.heap ∧ va_D (fun _ => True) (lW h ea m (nI n) cO n f) ∧ va_K D vwCl [(cO, .object "java/lang/Object")] U ∧ va_Mi "[Ljava/lang/Object;" mi U ∧ va_AO "java/lang/Object" U ∧ va_Dc U ∧ (va_Nw (.castable C "java/lang/Object") U ∧ ∀ j y, f j = some y → y ≠ h ∧ y ≠ ea ∧ ∃ cellV : Cell, U.heap[y]? = some cellV ∧ cellV.vm.isStatics = false ∧ U.vm.findClass C = some cellV.cls) ∧ (va_Nw (.castable C "java/lang/Object") U ∧ v ≠ h ∧ v ≠ ea ∧ ∃ cellV : Cell, U.heap[v]? = some cellV ∧ cellV.vm.isStatics = false ∧ U.vm.findClass C = some cellV.cls) ∧ KK U)) (va_Qv (fun _ : Nat => True) (fun q t => va_P D vwCl (lW h q m (nI (n + 1)) cO (n + n / 2) (va_up (va_cpy f (fun _ => none) 0 0 n) n (some v))) t.heap ∧ va_D (fun x => x = h ∨ x = ea ∨ sz ≤ x) (lW h q m (nI (n + 1)) cO (n + n / 2) (va_up (va_cpy f (fun _ => none) 0 0 n) n (some v))) ∧ KK t) (fun x => x = h ∨ x = ea ∨ sz ≤ x)) 1 40 (fun x => x = h ∨ x = ea ∨ sz ≤ x) := by
  refine Met.ofW (cc := cJx4a65c_add_72be8) (maxL := 4) (ret := none) (by decide) rfl ?_
  intro p e s mm args below meth c s₁ B hml hv
  obtain ⟨rfl, hsz, hP, hD0, hK, hM, hAO, hDc, hEl, hV, hkk⟩ := hv
  subst hsz
  have hx := B.exec
  have hb := B.bytes
  have hr := B.returns
  have hts := atoms_spec (ws := wsJx4a65c_add_72be8) B.pre
  have hown : s.vm.findClass RJx4a65c = some mm.cls := findClass_of_methodNamed B.named
  have hlocks := B.notSynchronized
  have iwsJx4a65c0 : ∀ w ∈ wsJx4a65c0, w ∈ wsJx4a65c_add_72be8 := fun w h => List.mem_cons_of_mem _ (List.mem_append_right _ h)
  have l0 := hts (.fieldLink RJx4a65c 48 "java/util/ArrayList" "size" "I") (List.mem_of_getElem? (i := 1) rfl)
  have hD : va_D (fun x => x = h ∨ x = ea ∨ s.heap.size ≤ x) (lW h ea m (nI n) cO n f) := hD0.weaken (fun k9 q hk9 _ => by
    match k9, hk9 with
    | 0, hk9 => cases hk9; exact Or.inl rfl
    | 1, hk9 => cases hk9; exact Or.inr (Or.inl rfl)
    | k9 + 2, hk9 => simp at hk9)
  generalize hAe : (fun x => x = h ∨ x = ea ∨ s.heap.size ≤ x) = A at hD ⊢
  have hA : ∀ q, s.heap.size ≤ q → A q := fun q h => by rw [← hAe]; exact Or.inr (Or.inr h)
  have hS : va_S A s.heap s.heap [] := va_S.rf
  have hAo : ∀ q : Nat, q < s.heap.size → q ≠ h → q ≠ ea → ¬ A q := by
    intro q h1 h2 h3
    rw [← hAe]
    rintro (z | z | z)
    · exact h2 z
    · exact h3 z
    · omega
  have hl := lv_entry ([.ref h, .ref v, .ref ea, .int (nI n)]) (n := 4) (Nat.le_of_ble_eq_true rfl)
  rw [lg_entry_eq]
  generalize (lg_sl ([.ref h, .ref v, .ref ea, .int (nI n)]) ++ List.replicate (4 - (lg_sl ([.ref h, .ref v, .ref ea, .int (nI n)])).length) Slot.unset).toArray = ls at hl ⊢
  have hl : lv_has ls 4 [(0, .ref h), (1, .ref v), (2, .ref ea), (3, .int (nI n))] := hl
  refine lv_iload_n hx hb dJx4a65c_add_72be8_0 rfl (lv_at hl 3 rfl) ?_
  refine lv_aload_n hx hb dJx4a65c_add_72be8_1 rfl (lv_at hl 2 rfl) ?_
  refine va_alen hx hb hK hP 1 0 rfl rfl (v := nI n) rfl dJx4a65c_add_72be8_2 ?_
  refine lv_icmp_ne (tgt := 11) hx hb dJx4a65c_add_72be8_3 (by decide) (fun hc => absurd rfl hc) (fun _ => ?_)
  refine lv_aload_n hx hb dJx4a65c_add_72be8_6 rfl (lv_at hl 0 rfl) ?_
  refine va_callr (va_runV (As := []) (rest := []) ⟨hx, hb, hml, hown, hts⟩ (lm_grow0G l D C cO h ea mi s.heap.size m n f KK hKK h2 hn) (cwV 0 hts gJx4a65c_add_72be8_Jx4a65c_grow_d5877 rfl rfl rfl (by decide +kernel) ⟨Nat.le_of_ble_eq_true rfl, Nat.le_of_ble_eq_true rfl⟩) ⟨lm_blind (fun a U g mk q => ⟨q.1, q.2.1, q.2.2.1, va_K.moved (u := U) (U := U.calling g mk a) (Vm.Alike.refl U.vm) q.2.2.2.1, va_Mi.moved (u := U) (U := U.calling g mk a) (Vm.Alike.refl U.vm) q.2.2.2.2.1, va_AO.moved (u := U) (U := U.calling g mk a) (Vm.Alike.refl U.vm) q.2.2.2.2.2.1, va_Dc.moved (u := U) (U := U.calling g mk a) (Vm.Alike.refl U.vm) q.2.2.2.2.2.2.1, ⟨va_Nw.alikeC (s := U) (U := U.calling g mk a) (Vm.Alike.refl U.vm) q.2.2.2.2.2.2.2.1.1, q.2.2.2.2.2.2.2.1.2⟩, hKK U (U.calling g mk a) (Vm.Alike.refl U.vm) q.2.2.2.2.2.2.2.2⟩), va_recv (q := (RJx4a65c, TJx4a65c, 3)) hK hP (ci := 0) (q0 := 0) rfl rfl, fun U hU hW => ⟨rfl, by rw [hU], by rw [hU]; exact hP, hD.weaken (fun _ _ _ _ => trivial), hK.moved hW.alike, hM.moved hW.alike, hAO.moved hW.alike, hDc.moved hW.alike, ⟨hEl.1.alikeC hW.alike, fun j y hy => by obtain ⟨y0, y1, cv, y2, y3, y4⟩ := hEl.2 j y hy; exact ⟨y0, y1, cv, by rw [hU, hS.2.1 y (Array.getElem?_eq_some_iff.mp y2).1 (hAo y (Array.getElem?_eq_some_iff.mp y2).1 y0 y1)]; exact y2, y3, by rw [hW.alike.findClass]; exact y4⟩⟩, hKK _ _ hW.alike hkk⟩⟩ rfl rfl hl.1 rfl (lv_room (Nat.le_of_ble_eq_true rfl)) dJx4a65c_add_72be8_7 ⟨Nat.le_of_eq (Nat.zero_add 1), by show 0 + (n + n / 2) ≤ 40; omega⟩) hS (fun q _ h => by rw [← hAe]; exact h) (fun q h => by rw [← hAe]; exact h) (fun u q t H1 locs1 ht hvm hw hB hz hk1 hS1 => ?_)
  obtain ⟨hP, hD, hkk⟩ := hB
  rw [ht] at hP
  have hkk := hKK _ _ hvm.symm hkk
  rw [hAe] at hD
  generalize H1 = H at hP hS1 ⊢
  generalize locs1 = locs at hS1 ⊢
  have hS := hS1
  refine W.widen (k := 1) (n := 40) (by omega) (by omega) ?_
  refine lv_astore_n (lv' := [(2, .ref q), (0, .ref h), (1, .ref v), (3, .int (nI n))]) hx hb dJx4a65c_add_72be8_10 rfl hl (by decide) rfl (fun ls hl => ?_)
  refine lv_aload_n hx hb dJx4a65c_add_72be8_11 rfl (lv_at hl 0 rfl) ?_
  refine lv_iload_n hx hb dJx4a65c_add_72be8_12 rfl (lv_at hl 3 rfl) ?_
  refine lv_aload_n hx hb dJx4a65c_add_72be8_13 rfl (lv_at hl 2 rfl) ?_
  have hany : va_Any "java/lang/Object" s H v := by
    obtain ⟨y0, y1, cv, y2, y3, y4⟩ := hV.2
    exact lm_any hV.1 (cv := cv) (by rw [hS.2.1 v (Array.getElem?_eq_some_iff.mp y2).1 (hAo v (Array.getElem?_eq_some_iff.mp y2).1 y0 y1)]; exact y2) y3 y4
  refine va_astqM (E := "java/lang/Object") hx hb hK hP hD hS 1 0 rfl rfl hany (vp_in_nI (by omega) (by omega)) dJx4a65c_add_72be8_14 (fun H locs hP hD hS => ?_)
  rw [nI_clamp (by omega)] at hP hD
  have hP : va_P D vwCl (lW h q m (nI n) cO (n + n / 2) (va_up (va_cpy f (fun _ => none) 0 0 n) n (some v))) H := hP
  have hD : va_D A (lW h q m (nI n) cO (n + n / 2) (va_up (va_cpy f (fun _ => none) 0 0 n) n (some v))) := hD
  refine lv_aload_n hx hb dJx4a65c_add_72be8_15 rfl (lv_at hl 1 rfl) ?_
  refine lv_iload_n hx hb dJx4a65c_add_72be8_16 rfl (lv_at hl 3 rfl) ?_
  refine lv_iconst (v := 1) hx hb dJx4a65c_add_72be8_17 (by decide) ?_
  refine lv_iadd hx hb dJx4a65c_add_72be8_18 ?_
  rw [nI_1]
  refine va_put (C := RJx4a65c) (T := TJx4a65c) (N := 3) (ty := .int) hx hb hts iwsJx4a65c0 tyJx4a65c tyJx4a65c_ok nmJx4a65c hown hK hP hD hS 0 rfl rfl 2 (by decide) l0 (fun _ h => h) rfl (by decide +kernel) rfl rfl (Nat.le_of_ble_eq_true rfl) dJx4a65c_add_72be8_19 (fun H locs hP hD hS => ?_)
  have hP : va_P D vwCl (lW h q m (nI (n + 1)) cO (n + n / 2) (va_up (va_cpy f (fun _ => none) 0 0 n) n (some v))) H := hP
  have hD : va_D A (lW h q m (nI (n + 1)) cO (n + n / 2) (va_up (va_cpy f (fun _ => none) 0 0 n) n (some v))) := hD
  exact W.vret hx hb hr (fun t2 ht2 hW2 => ⟨⟨q, rfl, trivial, by show va_P D vwCl _ t2.heap; rw [ht2]; exact hP, hD, hKK _ _ hW2.alike hkk⟩, hS.F ht2⟩) hS.2.2 dJx4a65c_add_72be8_22
set_option maxHeartbeats 4000000 in
set_option maxRecDepth 100000 in
theorem lm_add1G (l : Launch) (D : va_G) (C : String) (cO : ClassId) (h ea mi sz : Nat) (m : Int32) (n : Nat) (f : Nat → Option Nat) (KK : State → Prop) (hKK : ∀ u U : State, u.vm.Alike U.vm → KK u → KK U) (v : Nat) (h2 : 2 ≤ n) (hn : n ≤ 26) : Met l yJx4a65c_add_9ea2d wsJx4a65c_add_9ea2d { frames := 7, cells := 1, slots := 40, locals := 260 } (va_Pc [.ref h, .ref v] (fun U => U.heap.size = sz ∧ va_P D vwCl (lW h ea m (nI n) cO n f) U.heap ∧ va_D (fun _ => True) (lW h ea m (nI n) cO n f) ∧ va_K D vwCl [(cO, .object "java/lang/Object")] U ∧ va_Mi "[Ljava/lang/Object;" mi U ∧ va_AO "java/lang/Object" U ∧ va_Dc U ∧ (va_Nw (.castable C "java/lang/Object") U ∧ ∀ j y, f j = some y → y ≠ h ∧ y ≠ ea ∧ ∃ cellV : Cell, U.heap[y]? = some cellV ∧ cellV.vm.isStatics = false ∧ U.vm.findClass C = some cellV.cls) ∧ (va_Nw (.castable C "java/lang/Object") U ∧ v ≠ h ∧ v ≠ ea ∧ ∃ cellV : Cell, U.heap[v]? = some cellV ∧ cellV.vm.isStatics = false ∧ U.vm.findClass C = some cellV.cls) ∧ KK U)) (va_Qi (fun (_ : Int32) (_ : Nat) => True) (fun q t => va_P D vwCl (lW h q (m + 1) (nI (n + 1)) cO (n + n / 2) (va_up (va_cpy f (fun _ => none) 0 0 n) n (some v))) t.heap ∧ va_D (fun x => x = h ∨ x = ea ∨ sz ≤ x) (lW h q (m + 1) (nI (n + 1)) cO (n + n / 2) (va_up (va_cpy f (fun _ => none) 0 0 n) n (some v))) ∧ KK t) (fun x => x = h ∨ x = ea ∨ sz ≤ x)) 1 40 (fun x => x = h ∨ x = ea ∨ sz ≤ x) := by
  refine Met.ofW (cc := cJx4a65c_add_9ea2d) (maxL := 2) (ret := some .boolean) (by decide) rfl ?_
  intro p e s mm args below meth c s₁ B hml hv
  obtain ⟨rfl, hsz, hP, hD0, hK, hM, hAO, hDc, hEl, hV, hkk⟩ := hv
  subst hsz
  have hx := B.exec
  have hb := B.bytes
  have hr := B.returns
  have hts := atoms_spec (ws := wsJx4a65c_add_9ea2d) B.pre
  have hown : s.vm.findClass RJx4a65c = some mm.cls := findClass_of_methodNamed B.named
  have hlocks := B.notSynchronized
  have iwsJx4a65c0 : ∀ w ∈ wsJx4a65c0, w ∈ wsJx4a65c_add_9ea2d := fun w h => List.mem_cons_of_mem _ (List.mem_append_right _ h)
  have l0 := hts (.fieldLink RJx4a65c 63 "java/util/ArrayList" "modCount" "I") (List.mem_of_getElem? (i := 1) rfl)
  have l1 := hts (.sameField "java/util/ArrayList" "java/util/AbstractList" "modCount" "I") (List.mem_of_getElem? (i := 2) rfl)
  have l2 := hts (.fieldLink RJx4a65c 9 "java/util/ArrayList" "elementData" "[Ljava/lang/Object;") (List.mem_of_getElem? (i := 3) rfl)
  have l3 := hts (.fieldLink RJx4a65c 48 "java/util/ArrayList" "size" "I") (List.mem_of_getElem? (i := 4) rfl)
  have hD : va_D (fun x => x = h ∨ x = ea ∨ s.heap.size ≤ x) (lW h ea m (nI n) cO n f) := hD0.weaken (fun k9 q hk9 _ => by
    match k9, hk9 with
    | 0, hk9 => cases hk9; exact Or.inl rfl
    | 1, hk9 => cases hk9; exact Or.inr (Or.inl rfl)
    | k9 + 2, hk9 => simp at hk9)
  generalize hAe : (fun x => x = h ∨ x = ea ∨ s.heap.size ≤ x) = A at hD ⊢
  have hA : ∀ q, s.heap.size ≤ q → A q := fun q h => by rw [← hAe]; exact Or.inr (Or.inr h)
  have hS : va_S A s.heap s.heap [] := va_S.rf
  have hAo : ∀ q : Nat, q < s.heap.size → q ≠ h → q ≠ ea → ¬ A q := by
    intro q h1 h2 h3
    rw [← hAe]
    rintro (z | z | z)
    · exact h2 z
    · exact h3 z
    · omega
  have hl := lv_entry ([.ref h, .ref v]) (n := 2) (Nat.le_of_ble_eq_true rfl)
  rw [lg_entry_eq]
  generalize (lg_sl ([.ref h, .ref v]) ++ List.replicate (2 - (lg_sl ([.ref h, .ref v])).length) Slot.unset).toArray = ls at hl ⊢
  have hl : lv_has ls 2 [(0, .ref h), (1, .ref v)] := hl
  refine lv_aload_n hx hb dJx4a65c_add_9ea2d_0 rfl (lv_at hl 0 rfl) ?_
  refine lv_dup hx hb dJx4a65c_add_9ea2d_1 rfl ?_
  refine va_get (C := RJx4a65c) (T := TJx4a65c) (N := 3) hx hb hts iwsJx4a65c0 hown hK hP 0 rfl rfl 0 (by decide) l0 (u_same l1) rfl dJx4a65c_add_9ea2d_2 ?_
  refine lv_iconst (v := 1) hx hb dJx4a65c_add_9ea2d_5 (by decide) ?_
  refine lv_iadd hx hb dJx4a65c_add_9ea2d_6 ?_
  refine va_put (C := RJx4a65c) (T := TJx4a65c) (N := 3) (ty := .int) hx hb hts iwsJx4a65c0 tyJx4a65c tyJx4a65c_ok nmJx4a65c hown hK hP hD hS 0 rfl rfl 0 (by decide) l0 (u_same l1) rfl (by decide +kernel) rfl rfl (Nat.le_of_ble_eq_true rfl) dJx4a65c_add_9ea2d_7 (fun H locs hP hD hS => ?_)
  have hP : va_P D vwCl (lW h ea (m + 1) (nI n) cO n f) H := hP
  have hD : va_D A (lW h ea (m + 1) (nI n) cO n f) := hD
  refine lv_aload_n hx hb dJx4a65c_add_9ea2d_10 rfl (lv_at hl 0 rfl) ?_
  refine lv_aload_n hx hb dJx4a65c_add_9ea2d_11 rfl (lv_at hl 1 rfl) ?_
  refine lv_aload_n hx hb dJx4a65c_add_9ea2d_12 rfl (lv_at hl 0 rfl) ?_
  refine va_get (C := RJx4a65c) (T := TJx4a65c) (N := 3) hx hb hts iwsJx4a65c0 hown hK hP 0 rfl rfl 1 (by decide) l2 (fun _ h => h) rfl dJx4a65c_add_9ea2d_13 ?_
  refine lv_aload_n hx hb dJx4a65c_add_9ea2d_16 rfl (lv_at hl 0 rfl) ?_
  refine va_get (C := RJx4a65c) (T := TJx4a65c) (N := 3) hx hb hts iwsJx4a65c0 hown hK hP 0 rfl rfl 2 (by decide) l3 (fun _ h => h) rfl dJx4a65c_add_9ea2d_17 ?_
  refine va_callv (va_runV (As := [.ref v, .ref ea, .int (nI n)]) (rest := []) ⟨hx, hb, hml, hown, hts⟩ (lm_add3G l D C cO h ea mi H.size (m + 1) n f KK hKK v h2 hn) (cwV 3 hts gJx4a65c_add_9ea2d_Jx4a65c_add_72be8 rfl rfl rfl (by decide +kernel) ⟨Nat.le_of_ble_eq_true rfl, Nat.le_of_ble_eq_true rfl⟩) ⟨lm_blind (fun a U g mk q => ⟨q.1, q.2.1, q.2.2.1, va_K.moved (u := U) (U := U.calling g mk a) (Vm.Alike.refl U.vm) q.2.2.2.1, va_Mi.moved (u := U) (U := U.calling g mk a) (Vm.Alike.refl U.vm) q.2.2.2.2.1, va_AO.moved (u := U) (U := U.calling g mk a) (Vm.Alike.refl U.vm) q.2.2.2.2.2.1, va_Dc.moved (u := U) (U := U.calling g mk a) (Vm.Alike.refl U.vm) q.2.2.2.2.2.2.1, ⟨va_Nw.alikeC (s := U) (U := U.calling g mk a) (Vm.Alike.refl U.vm) q.2.2.2.2.2.2.2.1.1, q.2.2.2.2.2.2.2.1.2⟩, ⟨va_Nw.alikeC (s := U) (U := U.calling g mk a) (Vm.Alike.refl U.vm) q.2.2.2.2.2.2.2.2.1.1, q.2.2.2.2.2.2.2.2.1.2⟩, hKK U (U.calling g mk a) (Vm.Alike.refl U.vm) q.2.2.2.2.2.2.2.2.2⟩), va_recv (q := (RJx4a65c, TJx4a65c, 3)) hK hP (ci := 0) (q0 := 0) rfl rfl, fun U hU hW => ⟨rfl, by rw [hU], by rw [hU]; exact hP, hD.weaken (fun _ _ _ _ => trivial), hK.moved hW.alike, hM.moved hW.alike, hAO.moved hW.alike, hDc.moved hW.alike, ⟨hEl.1.alikeC hW.alike, fun j y hy => by obtain ⟨y0, y1, cv, y2, y3, y4⟩ := hEl.2 j y hy; exact ⟨y0, y1, cv, by rw [hU, hS.2.1 y (Array.getElem?_eq_some_iff.mp y2).1 (hAo y (Array.getElem?_eq_some_iff.mp y2).1 y0 y1)]; exact y2, y3, by rw [hW.alike.findClass]; exact y4⟩⟩, ⟨hV.1.alikeC hW.alike, by obtain ⟨y0, y1, cv, y2, y3, y4⟩ := hV.2; exact ⟨y0, y1, cv, by rw [hU, hS.2.1 v (Array.getElem?_eq_some_iff.mp y2).1 (hAo v (Array.getElem?_eq_some_iff.mp y2).1 y0 y1)]; exact y2, y3, by rw [hW.alike.findClass]; exact y4⟩⟩, hKK _ _ hW.alike hkk⟩⟩ rfl rfl hl.1 rfl (lv_room (Nat.le_of_ble_eq_true rfl)) dJx4a65c_add_9ea2d_20 ⟨by show 0 + 1 ≤ 1; omega, by show 0 + 40 ≤ 40; omega⟩) hS (fun q _ h => by rw [← hAe]; exact h.elim Or.inl (fun z => z.elim (fun z => Or.inr (Or.inl z)) (fun z => Or.inr (Or.inr (Nat.le_trans hS.1 z))))) (fun q h => by rw [← hAe]; exact h.elim Or.inl (fun z => z.elim (fun z => Or.inr (Or.inl z)) (fun z => Or.inr (Or.inr (Nat.le_trans hS.1 z))))) (fun q t H1 locs1 ht hvm hw hB hz hk1 hS1 => ?_)
  obtain ⟨hB1, hB2, hB3⟩ := hB
  rw [ht] at hB1
  refine W.widen (k := 1) (n := 40) (by omega) (by omega) ?_
  refine lv_iconst (v := 1) hx hb dJx4a65c_add_9ea2d_23 (by decide) ?_
  exact W.zret hx hb hr rfl (fun t2 ht2 hW2 => ⟨⟨_, q, rfl, trivial, by show va_P D vwCl _ t2.heap; rw [ht2]; exact hB1, hB2.weaken (fun _ _ _ h => by rw [← hAe]; exact h.elim Or.inl (fun z => z.elim (fun z => Or.inr (Or.inl z)) (fun z => Or.inr (Or.inr (Nat.le_trans hS.1 z))))), hKK _ _ (hvm.symm.trans hW2.alike) hB3⟩, hS1.F ht2⟩) hS1.2.2 dJx4a65c_add_9ea2d_24
set_option maxHeartbeats 4000000 in
set_option maxRecDepth 100000 in
theorem lm_add3E (l : Launch) (D : va_G) (C : String) (cO : ClassId) (h eA sz : Nat) (m : Int32) (gE : Nat → Value) (KK : State → Prop) (hKK : ∀ u U : State, u.vm.Alike U.vm → KK u → KK U) (v : Nat) : Met l yJx4a65c_add_72be8 wsJx4a65c_add_72be8 { frames := 6, cells := 1, slots := 40, locals := 220 } (va_Pc [.ref h, .ref v, .ref eA, .int (nI 0)] (fun U => U.heap.size = sz ∧ va_P D vwCl [(h, .inr (0, [.int m, .ref eA, .int (nI 0)]))] U.heap ∧ va_D (fun _ => True) [(h, .inr (0, [.int m, .ref eA, .int (nI 0)]))] ∧ va_K D vwCl [(cO, .object "java/lang/Object")] U ∧ va_AO "java/lang/Object" U ∧ va_Z "java/util/ArrayList" "DEFAULTCAPACITY_EMPTY_ELEMENTDATA" "[Ljava/lang/Object;" (.ref eA) (fun x => x = h ∨ sz ≤ x) U U.heap ∧ va_T (.object "java/lang/Object") eA 0 gE (fun x => x = h ∨ sz ≤ x) U U.heap ∧ (va_Nw (.castable C "java/lang/Object") U ∧ v ≠ h ∧ ∃ cellV : Cell, U.heap[v]? = some cellV ∧ cellV.vm.isStatics = false ∧ U.vm.findClass C = some cellV.cls) ∧ KK U)) (va_Qv (fun _ : Nat => True) (fun q t => va_P D vwCl (lW h q m (nI (0 + 1)) cO 10 (va_up (fun _ => none) 0 (some v))) t.heap ∧ va_D (fun x => x = h ∨ sz ≤ x) (lW h q m (nI (0 + 1)) cO 10 (va_up (fun _ => none) 0 (some v))) ∧ KK t) (fun x => x = h ∨ sz ≤ x)) 1 40 (fun x => x = h ∨ sz ≤ x) := by
  refine Met.ofW (cc := cJx4a65c_add_72be8) (maxL := 4) (ret := none) (by decide) rfl ?_
  intro p e s mm args below meth c s₁ B hml hv
  obtain ⟨rfl, hsz, hP, hD0, hK, hAO, hZ, hT, hV, hkk⟩ := hv
  subst hsz
  have hx := B.exec
  have hb := B.bytes
  have hr := B.returns
  have hts := atoms_spec (ws := wsJx4a65c_add_72be8) B.pre
  have hown : s.vm.findClass RJx4a65c = some mm.cls := findClass_of_methodNamed B.named
  have hlocks := B.notSynchronized
  have iwsJx4a65c0 : ∀ w ∈ wsJx4a65c0, w ∈ wsJx4a65c_add_72be8 := fun w h => List.mem_cons_of_mem _ (List.mem_append_right _ h)
  have l0 := hts (.fieldLink RJx4a65c 48 "java/util/ArrayList" "size" "I") (List.mem_of_getElem? (i := 1) rfl)
  have hD : va_D (fun x => x = h ∨ s.heap.size ≤ x) [(h, .inr (0, [.int m, .ref eA, .int (nI 0)]))] := hD0.weaken (fun k9 q hk9 _ => by
    match k9, hk9 with
    | 0, hk9 => cases hk9; exact Or.inl rfl
    | k9 + 1, hk9 => simp at hk9)
  generalize hAe : (fun x => x = h ∨ s.heap.size ≤ x) = A at hD hZ hT ⊢
  have hA : ∀ q, s.heap.size ≤ q → A q := fun q h => by rw [← hAe]; exact Or.inr h
  have hS : va_S A s.heap s.heap [] := va_S.rf
  have hAo : ∀ q : Nat, q < s.heap.size → q ≠ h → ¬ A q := by
    intro q h1 h2
    rw [← hAe]
    rintro (z | z)
    · exact h2 z
    · omega
  have hl := lv_entry ([.ref h, .ref v, .ref eA, .int (nI 0)]) (n := 4) (Nat.le_of_ble_eq_true rfl)
  rw [lg_entry_eq]
  generalize (lg_sl ([.ref h, .ref v, .ref eA, .int (nI 0)]) ++ List.replicate (4 - (lg_sl ([.ref h, .ref v, .ref eA, .int (nI 0)])).length) Slot.unset).toArray = ls at hl ⊢
  have hl : lv_has ls 4 [(0, .ref h), (1, .ref v), (2, .ref eA), (3, .int (nI 0))] := hl
  refine lv_iload_n hx hb dJx4a65c_add_72be8_0 rfl (lv_at hl 3 rfl) ?_
  refine lv_aload_n hx hb dJx4a65c_add_72be8_1 rfl (lv_at hl 2 rfl) ?_
  obtain ⟨scr, t1, t2, t3, t4, t5, t6, t7⟩ := id hT
  refine W.alen (n := (0 : Int32)) (ty := .object "java/lang/Object") hx hb t1 t2 t5 rfl rfl dJx4a65c_add_72be8_2 ?_
  refine W.eq (g2 := F0 mm 3 ls [.int 0, .int (nI 0)]) rfl ?_
  refine lv_icmp_ne (tgt := 11) hx hb dJx4a65c_add_72be8_3 (by decide) (fun hc => absurd nI_0 hc) (fun _ => ?_)
  refine lv_aload_n hx hb dJx4a65c_add_72be8_6 rfl (lv_at hl 0 rfl) ?_
  refine va_callr (va_runV (As := []) (rest := []) ⟨hx, hb, hml, hown, hts⟩ (lm_grow0E l D cO h eA s.heap.size m gE KK hKK) (cwV 0 hts gJx4a65c_add_72be8_Jx4a65c_grow_d5877 rfl rfl rfl (by decide +kernel) ⟨Nat.le_of_ble_eq_true rfl, Nat.le_of_ble_eq_true rfl⟩) ⟨lm_blind (fun a U g mk q => ⟨q.1, q.2.1, q.2.2.1, va_K.moved (u := U) (U := U.calling g mk a) (Vm.Alike.refl U.vm) q.2.2.2.1, va_AO.moved (u := U) (U := U.calling g mk a) (Vm.Alike.refl U.vm) q.2.2.2.2.1, va_Z.moved (u := U) (U := U.calling g mk a) (Vm.Alike.refl U.vm) q.2.2.2.2.2.1, va_T.moved (u := U) (U := U.calling g mk a) (Vm.Alike.refl U.vm) q.2.2.2.2.2.2.1, hKK U (U.calling g mk a) (Vm.Alike.refl U.vm) q.2.2.2.2.2.2.2⟩), va_recv (q := (RJx4a65c, TJx4a65c, 3)) hK hP (ci := 0) (q0 := 0) rfl rfl, fun U hU hW => ⟨rfl, by rw [hU], by rw [hU]; exact hP, hD.weaken (fun _ _ _ _ => trivial), hK.moved hW.alike, hAO.moved hW.alike, by rw [hU]; exact (va_Z.moved hW.alike (hZ.kept (fun a h1 h2 => hS.2.1 a h1 h2))).narrow (fun q hq => by rw [← hAe]; exact hq.elim Or.inl (fun z => Or.inr (Nat.le_trans hS.1 z))), by rw [hU]; exact (va_T.moved hW.alike (hT.kept (fun a h1 h2 => hS.2.1 a h1 h2))).narrow (fun q hq => by rw [← hAe]; exact hq.elim Or.inl (fun z => Or.inr (Nat.le_trans hS.1 z))), hKK _ _ hW.alike hkk⟩⟩ rfl rfl hl.1 rfl (lv_room (Nat.le_of_ble_eq_true rfl)) dJx4a65c_add_72be8_7 ⟨Nat.le_of_eq (Nat.zero_add 1), by show 0 + 10 ≤ 40; omega⟩) hS (fun q _ h => by rw [← hAe]; exact h) (fun q h => by rw [← hAe]; exact h) (fun u q t H1 locs1 ht hvm hw hB hz hk1 hS1 => ?_)
  obtain ⟨hP, hD, hkk⟩ := hB
  rw [ht] at hP
  have hkk := hKK _ _ hvm.symm hkk
  rw [hAe] at hD
  generalize H1 = H at hP hS1 ⊢
  generalize locs1 = locs at hS1 ⊢
  have hS := hS1
  refine W.widen (k := 1) (n := 40) (by omega) (by omega) ?_
  refine lv_astore_n (lv' := [(2, .ref q), (0, .ref h), (1, .ref v), (3, .int (nI 0))]) hx hb dJx4a65c_add_72be8_10 rfl hl (by decide) rfl (fun ls hl => ?_)
  refine lv_aload_n hx hb dJx4a65c_add_72be8_11 rfl (lv_at hl 0 rfl) ?_
  refine lv_iload_n hx hb dJx4a65c_add_72be8_12 rfl (lv_at hl 3 rfl) ?_
  refine lv_aload_n hx hb dJx4a65c_add_72be8_13 rfl (lv_at hl 2 rfl) ?_
  have hany : va_Any "java/lang/Object" s H v := by
    obtain ⟨y0, cv, y2, y3, y4⟩ := hV.2
    exact lm_any hV.1 (cv := cv) (by rw [hS.2.1 v (Array.getElem?_eq_some_iff.mp y2).1 (hAo v (Array.getElem?_eq_some_iff.mp y2).1 y0)]; exact y2) y3 y4
  refine va_astqM (E := "java/lang/Object") hx hb hK hP hD hS 1 0 rfl rfl hany (vp_in_nI (by omega) (by omega)) dJx4a65c_add_72be8_14 (fun H locs hP hD hS => ?_)
  rw [nI_clamp (by omega)] at hP hD
  have hP : va_P D vwCl (lW h q m (nI 0) cO 10 (va_up (fun _ => none) 0 (some v))) H := hP
  have hD : va_D A (lW h q m (nI 0) cO 10 (va_up (fun _ => none) 0 (some v))) := hD
  refine lv_aload_n hx hb dJx4a65c_add_72be8_15 rfl (lv_at hl 1 rfl) ?_
  refine lv_iload_n hx hb dJx4a65c_add_72be8_16 rfl (lv_at hl 3 rfl) ?_
  refine lv_iconst (v := 1) hx hb dJx4a65c_add_72be8_17 (by decide) ?_
  refine lv_iadd hx hb dJx4a65c_add_72be8_18 ?_
  rw [nI_1]
  refine va_put (C := RJx4a65c) (T := TJx4a65c) (N := 3) (ty := .int) hx hb hts iwsJx4a65c0 tyJx4a65c tyJx4a65c_ok nmJx4a65c hown hK hP hD hS 0 rfl rfl 2 (by decide) l0 (fun _ h => h) rfl (by decide +kernel) rfl rfl (Nat.le_of_ble_eq_true rfl) dJx4a65c_add_72be8_19 (fun H locs hP hD hS => ?_)
  have hP : va_P D vwCl (lW h q m (nI (0 + 1)) cO 10 (va_up (fun _ => none) 0 (some v))) H := hP
  have hD : va_D A (lW h q m (nI (0 + 1)) cO 10 (va_up (fun _ => none) 0 (some v))) := hD
  exact W.vret hx hb hr (fun t2 ht2 hW2 => ⟨⟨q, rfl, trivial, by show va_P D vwCl _ t2.heap; rw [ht2]; exact hP, hD, hKK _ _ hW2.alike hkk⟩, hS.F ht2⟩) hS.2.2 dJx4a65c_add_72be8_22
set_option maxHeartbeats 4000000 in
set_option maxRecDepth 100000 in
theorem lm_add1E (l : Launch) (D : va_G) (C : String) (cO : ClassId) (h eA sz : Nat) (m : Int32) (gE : Nat → Value) (KK : State → Prop) (hKK : ∀ u U : State, u.vm.Alike U.vm → KK u → KK U) (v : Nat) : Met l yJx4a65c_add_9ea2d wsJx4a65c_add_9ea2d { frames := 7, cells := 1, slots := 40, locals := 260 } (va_Pc [.ref h, .ref v] (fun U => U.heap.size = sz ∧ va_P D vwCl [(h, .inr (0, [.int m, .ref eA, .int (nI 0)]))] U.heap ∧ va_D (fun _ => True) [(h, .inr (0, [.int m, .ref eA, .int (nI 0)]))] ∧ va_K D vwCl [(cO, .object "java/lang/Object")] U ∧ va_AO "java/lang/Object" U ∧ va_Z "java/util/ArrayList" "DEFAULTCAPACITY_EMPTY_ELEMENTDATA" "[Ljava/lang/Object;" (.ref eA) (fun x => x = h ∨ sz ≤ x) U U.heap ∧ va_T (.object "java/lang/Object") eA 0 gE (fun x => x = h ∨ sz ≤ x) U U.heap ∧ (va_Nw (.castable C "java/lang/Object") U ∧ v ≠ h ∧ ∃ cellV : Cell, U.heap[v]? = some cellV ∧ cellV.vm.isStatics = false ∧ U.vm.findClass C = some cellV.cls) ∧ KK U)) (va_Qi (fun (_ : Int32) (_ : Nat) => True) (fun q t => va_P D vwCl (lW h q (m + 1) (nI (0 + 1)) cO 10 (va_up (fun _ => none) 0 (some v))) t.heap ∧ va_D (fun x => x = h ∨ sz ≤ x) (lW h q (m + 1) (nI (0 + 1)) cO 10 (va_up (fun _ => none) 0 (some v))) ∧ KK t) (fun x => x = h ∨ sz ≤ x)) 1 40 (fun x => x = h ∨ sz ≤ x) := by
  refine Met.ofW (cc := cJx4a65c_add_9ea2d) (maxL := 2) (ret := some .boolean) (by decide) rfl ?_
  intro p e s mm args below meth c s₁ B hml hv
  obtain ⟨rfl, hsz, hP, hD0, hK, hAO, hZ, hT, hV, hkk⟩ := hv
  subst hsz
  have hx := B.exec
  have hb := B.bytes
  have hr := B.returns
  have hts := atoms_spec (ws := wsJx4a65c_add_9ea2d) B.pre
  have hown : s.vm.findClass RJx4a65c = some mm.cls := findClass_of_methodNamed B.named
  have hlocks := B.notSynchronized
  have iwsJx4a65c0 : ∀ w ∈ wsJx4a65c0, w ∈ wsJx4a65c_add_9ea2d := fun w h => List.mem_cons_of_mem _ (List.mem_append_right _ h)
  have l0 := hts (.fieldLink RJx4a65c 63 "java/util/ArrayList" "modCount" "I") (List.mem_of_getElem? (i := 1) rfl)
  have l1 := hts (.sameField "java/util/ArrayList" "java/util/AbstractList" "modCount" "I") (List.mem_of_getElem? (i := 2) rfl)
  have l2 := hts (.fieldLink RJx4a65c 9 "java/util/ArrayList" "elementData" "[Ljava/lang/Object;") (List.mem_of_getElem? (i := 3) rfl)
  have l3 := hts (.fieldLink RJx4a65c 48 "java/util/ArrayList" "size" "I") (List.mem_of_getElem? (i := 4) rfl)
  have hD : va_D (fun x => x = h ∨ s.heap.size ≤ x) [(h, .inr (0, [.int m, .ref eA, .int (nI 0)]))] := hD0.weaken (fun k9 q hk9 _ => by
    match k9, hk9 with
    | 0, hk9 => cases hk9; exact Or.inl rfl
    | k9 + 1, hk9 => simp at hk9)
  generalize hAe : (fun x => x = h ∨ s.heap.size ≤ x) = A at hD hZ hT ⊢
  have hA : ∀ q, s.heap.size ≤ q → A q := fun q h => by rw [← hAe]; exact Or.inr h
  have hS : va_S A s.heap s.heap [] := va_S.rf
  have hAo : ∀ q : Nat, q < s.heap.size → q ≠ h → ¬ A q := by
    intro q h1 h2
    rw [← hAe]
    rintro (z | z)
    · exact h2 z
    · omega
  have hl := lv_entry ([.ref h, .ref v]) (n := 2) (Nat.le_of_ble_eq_true rfl)
  rw [lg_entry_eq]
  generalize (lg_sl ([.ref h, .ref v]) ++ List.replicate (2 - (lg_sl ([.ref h, .ref v])).length) Slot.unset).toArray = ls at hl ⊢
  have hl : lv_has ls 2 [(0, .ref h), (1, .ref v)] := hl
  refine lv_aload_n hx hb dJx4a65c_add_9ea2d_0 rfl (lv_at hl 0 rfl) ?_
  refine lv_dup hx hb dJx4a65c_add_9ea2d_1 rfl ?_
  refine va_get (C := RJx4a65c) (T := TJx4a65c) (N := 3) hx hb hts iwsJx4a65c0 hown hK hP 0 rfl rfl 0 (by decide) l0 (u_same l1) rfl dJx4a65c_add_9ea2d_2 ?_
  refine lv_iconst (v := 1) hx hb dJx4a65c_add_9ea2d_5 (by decide) ?_
  refine lv_iadd hx hb dJx4a65c_add_9ea2d_6 ?_
  refine va_put (C := RJx4a65c) (T := TJx4a65c) (N := 3) (ty := .int) hx hb hts iwsJx4a65c0 tyJx4a65c tyJx4a65c_ok nmJx4a65c hown hK hP hD hS 0 rfl rfl 0 (by decide) l0 (u_same l1) rfl (by decide +kernel) rfl rfl (Nat.le_of_ble_eq_true rfl) dJx4a65c_add_9ea2d_7 (fun H locs hP hD hS => ?_)
  have hP : va_P D vwCl [(h, .inr (0, [.int (m + 1), .ref eA, .int (nI 0)]))] H := hP
  have hD : va_D A [(h, .inr (0, [.int (m + 1), .ref eA, .int (nI 0)]))] := hD
  refine lv_aload_n hx hb dJx4a65c_add_9ea2d_10 rfl (lv_at hl 0 rfl) ?_
  refine lv_aload_n hx hb dJx4a65c_add_9ea2d_11 rfl (lv_at hl 1 rfl) ?_
  refine lv_aload_n hx hb dJx4a65c_add_9ea2d_12 rfl (lv_at hl 0 rfl) ?_
  refine va_get (C := RJx4a65c) (T := TJx4a65c) (N := 3) hx hb hts iwsJx4a65c0 hown hK hP 0 rfl rfl 1 (by decide) l2 (fun _ h => h) rfl dJx4a65c_add_9ea2d_13 ?_
  refine lv_aload_n hx hb dJx4a65c_add_9ea2d_16 rfl (lv_at hl 0 rfl) ?_
  refine va_get (C := RJx4a65c) (T := TJx4a65c) (N := 3) hx hb hts iwsJx4a65c0 hown hK hP 0 rfl rfl 2 (by decide) l3 (fun _ h => h) rfl dJx4a65c_add_9ea2d_17 ?_
  refine va_callv (va_runV (As := [.ref v, .ref eA, .int (nI 0)]) (rest := []) ⟨hx, hb, hml, hown, hts⟩ (lm_add3E l D C cO h eA H.size (m + 1) gE KK hKK v) (cwV 3 hts gJx4a65c_add_9ea2d_Jx4a65c_add_72be8 rfl rfl rfl (by decide +kernel) ⟨Nat.le_of_ble_eq_true rfl, Nat.le_of_ble_eq_true rfl⟩) ⟨lm_blind (fun a U g mk q => ⟨q.1, q.2.1, q.2.2.1, va_K.moved (u := U) (U := U.calling g mk a) (Vm.Alike.refl U.vm) q.2.2.2.1, va_AO.moved (u := U) (U := U.calling g mk a) (Vm.Alike.refl U.vm) q.2.2.2.2.1, va_Z.moved (u := U) (U := U.calling g mk a) (Vm.Alike.refl U.vm) q.2.2.2.2.2.1, va_T.moved (u := U) (U := U.calling g mk a) (Vm.Alike.refl U.vm) q.2.2.2.2.2.2.1, ⟨va_Nw.alikeC (s := U) (U := U.calling g mk a) (Vm.Alike.refl U.vm) q.2.2.2.2.2.2.2.1.1, q.2.2.2.2.2.2.2.1.2⟩, hKK U (U.calling g mk a) (Vm.Alike.refl U.vm) q.2.2.2.2.2.2.2.2⟩), va_recv (q := (RJx4a65c, TJx4a65c, 3)) hK hP (ci := 0) (q0 := 0) rfl rfl, fun U hU hW => ⟨rfl, by rw [hU], by rw [hU]; exact hP, hD.weaken (fun _ _ _ _ => trivial), hK.moved hW.alike, hAO.moved hW.alike, by rw [hU]; exact (va_Z.moved hW.alike (hZ.kept (fun a h1 h2 => hS.2.1 a h1 h2))).narrow (fun q hq => by rw [← hAe]; exact hq.elim Or.inl (fun z => Or.inr (Nat.le_trans hS.1 z))), by rw [hU]; exact (va_T.moved hW.alike (hT.kept (fun a h1 h2 => hS.2.1 a h1 h2))).narrow (fun q hq => by rw [← hAe]; exact hq.elim Or.inl (fun z => Or.inr (Nat.le_trans hS.1 z))), ⟨hV.1.alikeC hW.alike, by obtain ⟨y0, cv, y2, y3, y4⟩ := hV.2; exact ⟨y0, cv, by rw [hU, hS.2.1 v (Array.getElem?_eq_some_iff.mp y2).1 (hAo v (Array.getElem?_eq_some_iff.mp y2).1 y0)]; exact y2, y3, by rw [hW.alike.findClass]; exact y4⟩⟩, hKK _ _ hW.alike hkk⟩⟩ rfl rfl hl.1 rfl (lv_room (Nat.le_of_ble_eq_true rfl)) dJx4a65c_add_9ea2d_20 ⟨by show 0 + 1 ≤ 1; omega, by show 0 + 40 ≤ 40; omega⟩) hS (fun q _ h => by rw [← hAe]; exact h.elim Or.inl (fun z => Or.inr (Nat.le_trans hS.1 z))) (fun q h => by rw [← hAe]; exact h.elim Or.inl (fun z => Or.inr (Nat.le_trans hS.1 z))) (fun q t H1 locs1 ht hvm hw hB hz hk1 hS1 => ?_)
  obtain ⟨hB1, hB2, hB3⟩ := hB
  rw [ht] at hB1
  refine W.widen (k := 1) (n := 40) (by omega) (by omega) ?_
  refine lv_iconst (v := 1) hx hb dJx4a65c_add_9ea2d_23 (by decide) ?_
  exact W.zret hx hb hr rfl (fun t2 ht2 hW2 => ⟨⟨_, q, rfl, trivial, by show va_P D vwCl _ t2.heap; rw [ht2]; exact hB1, hB2.weaken (fun _ _ _ h => by rw [← hAe]; exact h.elim Or.inl (fun z => Or.inr (Nat.le_trans hS.1 z))), hKK _ _ (hvm.symm.trans hW2.alike) hB3⟩, hS1.F ht2⟩) hS1.2.2 dJx4a65c_add_9ea2d_24
