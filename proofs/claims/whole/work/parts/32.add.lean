theorem nI_max {d : Nat} (h1 : 1 ≤ d) (h : d < 2 ^ 30) : (if nI 1 < nI d then nI d else nI 1) = nI d := by
  by_cases c : 1 < d
  · rw [if_pos (nI_lt c (by omega))]
  · have : d = 1 := by omega
    subst this
    rw [if_neg (nI_nlt (Nat.le_refl 1) (by decide))]
set_option maxHeartbeats 4000000 in
set_option maxRecDepth 100000 in
theorem lm_newLength (l : Launch) (KK : State → Prop) (hKK : ∀ u U : State, u.vm.Alike U.vm → KK u → KK U) (o d : Nat) (h1 : 1 ≤ d) (h2 : o + d < 2 ^ 30) : Met l yJ8_newLength_cabcc wsJ8_newLength_cabcc { frames := 2, cells := 0, slots := 0, locals := 60 } (va_Pc [.int (nI o), .int (nI 1), .int (nI d)] KK) (va_Qi (fun r (_ : Unit) => r = nI (o + d)) (fun _ t => KK t) (fun _ => False)) 0 0 (fun _ => False) := by
  refine Met.ofW (cc := cJ8_newLength_cabcc) (maxL := 4) (ret := some .int) (by decide) rfl ?_
  intro p e s mm args below meth c s₁ B hml hv
  obtain ⟨rfl, hkk⟩ := hv
  have hx := B.exec
  have hb := B.bytes
  have hr := B.returns
  have hts := atoms_spec (ws := wsJ8_newLength_cabcc) B.pre
  have hown : s.vm.findClass RJ8 = some mm.cls := findClass_of_methodNamed B.named
  have hlocks := B.notSynchronized
  have l0 := hts (.methodLink RJ8 194 Lib.Math.max.name) (List.mem_of_getElem? (i := 1) rfl)
  have l1 := hts (.static Lib.Math.max.name) (List.mem_of_getElem? (i := 2) rfl)
  have l2 := hts (.initialized "java/lang/Math") (List.mem_of_getElem? (i := 3) rfl)
  have l3 := hts (.code Lib.Math.max.name Lib.Math.max.code 2 (some .int)) (List.mem_of_getElem? (i := 4) rfl)
  have l4 := hts (.constant RJ8 200 (2147483639)) (List.mem_of_getElem? (i := 5) rfl)
  have hl := lv_entry ([.int (nI o), .int (nI 1), .int (nI d)]) (n := 4) (Nat.le_of_ble_eq_true rfl)
  rw [lg_entry_eq]
  generalize (lg_sl ([.int (nI o), .int (nI 1), .int (nI d)]) ++ List.replicate (4 - (lg_sl ([.int (nI o), .int (nI 1), .int (nI d)])).length) Slot.unset).toArray = ls at hl ⊢
  have hl : lv_has ls 4 [(0, .int (nI o)), (1, .int (nI 1)), (2, .int (nI d))] := hl
  refine lv_iload_n hx hb dJ8_newLength_cabcc_0 rfl (lv_at hl 0 rfl) ?_
  refine lv_iload_n hx hb dJ8_newLength_cabcc_1 rfl (lv_at hl 1 rfl) ?_
  refine lv_iload_n hx hb dJ8_newLength_cabcc_2 rfl (lv_at hl 2 rfl) ?_
  refine va_mmax hx hb (hml.trans hl.1.symm) hown l0 l1 l2 l3 (by decide) (Nat.le_of_ble_eq_true rfl) (Nat.le_of_ble_eq_true rfl) (Nat.le_of_ble_eq_true rfl) dJ8_newLength_cabcc_3 ?_
  rw [nI_max h1 (by omega)]
  refine lv_iadd hx hb dJ8_newLength_cabcc_6 ?_
  rw [nI_add]
  refine lv_istore_n (lv' := [(3, .int (nI (o + d))), (0, .int (nI o)), (1, .int (nI 1)), (2, .int (nI d))]) hx hb dJ8_newLength_cabcc_7 rfl hl (by decide) rfl (fun ls hl => ?_)
  refine lv_iconst (v := 0) hx hb dJ8_newLength_cabcc_8 (by decide) ?_
  refine lv_iload_n hx hb dJ8_newLength_cabcc_9 rfl (lv_at hl 0 rfl) ?_
  refine lv_icmp_ge (tgt := 21) hx hb dJ8_newLength_cabcc_10 (by decide) (fun hc => absurd hc (nI_ge (by omega) (by omega))) (fun _ => ?_)
  refine lv_iload_n hx hb dJ8_newLength_cabcc_13 rfl (lv_at hl 0 rfl) ?_
  refine lv_ldc hx hb hown l4 dJ8_newLength_cabcc_14 ?_
  refine lv_icmp_gt (tgt := 21) hx hb dJ8_newLength_cabcc_16 (by decide) (fun hc => absurd hc (nI_nlt (a := 2147483639) (b := o + d) (by omega) (by decide))) (fun _ => ?_)
  refine lv_iload_n hx hb dJ8_newLength_cabcc_19 rfl (lv_at hl 0 rfl) ?_
  exact W.iret hx hb hr (fun t ht hW => ⟨⟨_, (), rfl, rfl, hKK _ _ hW.alike hkk⟩, by rw [ht]; exact ⟨Nat.le_refl _, fun _ _ _ => rfl⟩⟩) (fun _ h => nomatch h) dJ8_newLength_cabcc_20
set_option maxHeartbeats 4000000 in
set_option maxRecDepth 100000 in
theorem lm_copyOf3 (l : Launch) (D : va_G) (C : String) (cO : ClassId) (ea mi sz k n : Nat) (f : Nat → Option Nat) (KK : State → Prop) (hKK : ∀ u U : State, u.vm.Alike U.vm → KK u → KK U) (hnk : n ≤ k) (hk : k < 2 ^ 20) : Met l yJ7_copyOf_6403c wsJ7_copyOf_6403c { frames := 2, cells := 1, slots := k, locals := 80 } (va_Pc [.ref ea, .int (nI k), .ref mi] (fun U => U.heap.size = sz ∧ va_P D vwCl [(ea, .inl (cO, n, .inr (.inr (.inr (.inr f)))))] U.heap ∧ va_K D vwCl [(cO, .object "java/lang/Object")] U ∧ va_D (fun _ => True) [(ea, .inl (cO, n, .inr (.inr (.inr (.inr f)))))] ∧ va_Mi "[Ljava/lang/Object;" mi U ∧ va_AO "java/lang/Object" U ∧ va_Dc U ∧ (va_Nw (.castable C "java/lang/Object") U ∧ ∀ j y, f j = some y → y ≠ ea ∧ ∃ cellV : Cell, U.heap[y]? = some cellV ∧ cellV.vm.isStatics = false ∧ U.vm.findClass C = some cellV.cls) ∧ KK U)) (va_Qr (fun _ : Unit => True) (fun _ q t => va_P D vwCl [(ea, .inl (cO, n, .inr (.inr (.inr (.inr f))))), (q, .inl (cO, k, .inr (.inr (.inr (.inr (va_cpy f (fun _ => none) 0 0 n))))))] t.heap ∧ va_D (fun x => x = ea ∨ sz ≤ x) [(ea, .inl (cO, n, .inr (.inr (.inr (.inr f))))), (q, .inl (cO, k, .inr (.inr (.inr (.inr (va_cpy f (fun _ => none) 0 0 n))))))] ∧ KK t) (fun x => x = ea ∨ sz ≤ x)) 1 k (fun x => x = ea ∨ sz ≤ x) := by
  refine Met.ofW (cc := cJ7_copyOf_6403c) (maxL := 4) (ret := some (.array (.object "java/lang/Object"))) (by decide) rfl ?_
  intro p e s mm args below meth c s₁ B hml hv
  obtain ⟨rfl, hsz, hP, hK, hD0, hM, hAO, hDc, hEl, hkk⟩ := hv
  subst hsz
  have hasg : ∀ comp c0 : ClassId, s.vm.findClass "java/lang/Object" = some comp → s.vm.findClass C = some c0 → s.vm.assignable c0 comp = true := lEl.asg (h := 0) (ea := 0) (f := fun _ => none) (H := s.heap) ⟨hEl.1, fun _ _ z => nomatch z⟩
  have hx := B.exec
  have hb := B.bytes
  have hr := B.returns
  have hts := atoms_spec (ws := wsJ7_copyOf_6403c) B.pre
  have hown : s.vm.findClass RJ7 = some mm.cls := findClass_of_methodNamed B.named
  have hlocks := B.notSynchronized
  have l0 := hts (.classLink RJ7 110 "[Ljava/lang/Object;") (List.mem_of_getElem? (i := 1) rfl)
  have l1 := hts (.classLink RJ7 2 "java/lang/Object") (List.mem_of_getElem? (i := 2) rfl)
  have l2 := hts (.methodLink RJ7 304 Lib.Math.min.name) (List.mem_of_getElem? (i := 3) rfl)
  have l3 := hts (.static Lib.Math.min.name) (List.mem_of_getElem? (i := 4) rfl)
  have l4 := hts (.initialized "java/lang/Math") (List.mem_of_getElem? (i := 5) rfl)
  have l5 := hts (.code Lib.Math.min.name Lib.Math.min.code 2 (some .int)) (List.mem_of_getElem? (i := 6) rfl)
  have l6 := hts (.methodLink RJ7 150 arraycopyName) (List.mem_of_getElem? (i := 7) rfl)
  have l7 := hts (.native arraycopyName) (List.mem_of_getElem? (i := 8) rfl)
  have l8 := hts (.static arraycopyName) (List.mem_of_getElem? (i := 9) rfl)
  have l9 := hts (.initialized "java/lang/System") (List.mem_of_getElem? (i := 10) rfl)
  have hD : va_D (fun x => x = ea ∨ s.heap.size ≤ x) [(ea, .inl (cO, n, .inr (.inr (.inr (.inr f)))))] := hD0.weaken (fun k9 q hk9 _ => by
    match k9, hk9 with
    | 0, hk9 => cases hk9; exact Or.inl rfl
    | k9 + 1, hk9 => simp at hk9)
  generalize hAe : (fun x : Nat => x = ea ∨ s.heap.size ≤ x) = A at hD ⊢
  have hA : ∀ q, s.heap.size ≤ q → A q := fun q h => by rw [← hAe]; exact Or.inr h
  have hAo : ∀ q : Nat, q < s.heap.size → q ≠ ea → ¬ A q := by
    intro q h1 h2
    rw [← hAe]
    rintro (z | z)
    · exact h2 z
    · omega
  have hS : va_S A s.heap s.heap [] := va_S.rf
  have hl := lv_entry ([.ref ea, .int (nI k), .ref mi]) (n := 4) (Nat.le_of_ble_eq_true rfl)
  rw [lg_entry_eq]
  generalize (lg_sl ([.ref ea, .int (nI k), .ref mi]) ++ List.replicate (4 - (lg_sl ([.ref ea, .int (nI k), .ref mi])).length) Slot.unset).toArray = ls at hl ⊢
  have hl : lv_has ls 4 [(0, .ref ea), (1, .int (nI k)), (2, .ref mi)] := hl
  refine lv_aload_n hx hb dJ7_copyOf_6403c_0 rfl (lv_at hl 2 rfl) ?_
  refine va_ldcM (C := "[Ljava/lang/Object;") hx hb hown l0 hM dJ7_copyOf_6403c_1 ?_
  refine lv_acmp_ne (rx := some mi) (ry := some mi) (tgt := 13) hx hb dJ7_copyOf_6403c_3 (by decide) (fun hc => absurd rfl hc) (fun _ => ?_)
  refine lv_iload_n hx hb dJ7_copyOf_6403c_6 rfl (lv_at hl 1 rfl) ?_
  refine va_newq (N' := k) hx hb hown l1 hAO hK hP hD hS hA (nI_pos (by omega)) (nI_clamp (by omega)) (by omega) (Nat.le_of_eq (Nat.zero_add 1)) (by show 0 + k ≤ k; omega) dJ7_copyOf_6403c_7 (fun q cA H hK2 hP hD hS => ?_)
  have hcc : cA = cO := by
    have r1 := (hK.2 0 _ rfl).2
    have r2 := (hK2.2 1 _ rfl).2
    exact Option.some.inj ((va_nmO r2 rfl).symm.trans (va_nmO r1 rfl))
  subst hcc
  have hP : va_P D vwCl [(ea, .inl (cA, n, .inr (.inr (.inr (.inr f))))), (q, .inl (cA, k, .inr (.inr (.inr (.inr (fun _ => none))))))] H := hP
  have hD : va_D A [(ea, .inl (cA, n, .inr (.inr (.inr (.inr f))))), (q, .inl (cA, k, .inr (.inr (.inr (.inr (fun _ => none))))))] := hD
  have hEl1 : ∀ j y, f j = some y → ∃ cellV : Cell, H[y]? = some cellV ∧ cellV.vm.isStatics = false ∧ s.vm.findClass C = some cellV.cls := by
    intro j y hy
    obtain ⟨y1, cv, y2, y3⟩ := hEl.2 j y hy
    exact ⟨cv, by rw [hS.2.1 y (Array.getElem?_eq_some_iff.mp y2).1 (hAo y (Array.getElem?_eq_some_iff.mp y2).1 y1)]; exact y2, y3⟩
  refine lv_goto (tgt := 24) hx hb dJ7_copyOf_6403c_10 (by decide) ?_
  refine lv_astore_n (lv' := [(3, .ref q), (0, .ref ea), (1, .int (nI k)), (2, .ref mi)]) hx hb dJ7_copyOf_6403c_24 rfl hl (by decide) rfl (fun ls hl => ?_)
  refine lv_aload_n hx hb dJ7_copyOf_6403c_25 rfl (lv_at hl 1 rfl) ?_
  refine lv_iconst (v := 0) hx hb dJ7_copyOf_6403c_26 (by decide) ?_
  refine lv_aload_n hx hb dJ7_copyOf_6403c_27 rfl (lv_at hl 0 rfl) ?_
  refine lv_iconst (v := 0) hx hb dJ7_copyOf_6403c_28 (by decide) ?_
  refine lv_aload_n hx hb dJ7_copyOf_6403c_29 rfl (lv_at hl 1 rfl) ?_
  refine va_alen hx hb hK2 hP 0 0 rfl rfl (v := nI n) rfl dJ7_copyOf_6403c_30 ?_
  refine lv_iload_n hx hb dJ7_copyOf_6403c_31 rfl (lv_at hl 2 rfl) ?_
  refine W.widen (k := 1) (n := k) (by omega) (by omega) ?_
  refine va_mmin hx hb (hml.trans hl.1.symm) hown l2 l3 l4 l5 (by decide) (Nat.le_of_ble_eq_true rfl) (Nat.le_refl 1) (Nat.le_refl k) dJ7_copyOf_6403c_32 ?_
  rw [if_neg (nI_nlt hnk (by omega))]
  have c0 : (0 : Int32).toNatClampNeg = 0 := by decide
  have c1 : (nI n).toNatClampNeg = n := nI_clamp (by omega)
  refine va_copyq (C := C) (E0 := "java/lang/Object") (E1 := "java/lang/Object") hx hb (hml.trans hl.1.symm) hown l6 l7 l8 l9 hK2 hP hD hS 0 1 0 1 rfl rfl rfl rfl (by decide) (by decide) (nI_pos (by omega)) (by rw [c0, c1]; omega) (by rw [c0, c1]; omega) (fun i hi y hy => hEl1 _ y hy) hasg (by decide) (by decide +kernel) dJ7_copyOf_6403c_35 (fun H locs hP hD hS => ?_)
  rw [c0, c1] at hP hD
  refine lv_aload_n hx hb dJ7_copyOf_6403c_38 rfl (lv_at hl 0 rfl) ?_
  exact W.aret hx hb hr (Or.inr ⟨_, rfl⟩) (Or.inr ⟨_, rfl⟩) (fun t ht hW => ⟨⟨(), _, rfl, trivial, by show va_P D vwCl _ t.heap; rw [ht]; exact hP, hD, hKK _ _ hW.alike hkk⟩, hS.F ht⟩) hS.2.2 dJ7_copyOf_6403c_39
