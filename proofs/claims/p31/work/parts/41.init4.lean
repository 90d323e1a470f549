theorem castN {A B : String} {u U : State} (h : va_Nw (.castable A B) u) (hvm : u.vm.Alike U.vm) : va_Nw (.castable A B) U := h.alikeC hvm
set_option maxHeartbeats 8000000 in
set_option maxRecDepth 100000 in
theorem lm_Planner (l : Launch) (D : va_G) (cI cZ cO : ClassId) (o sz : Nat) (eA : Nat) (gE : Nat → Value) (KK : State → Prop) (hKK : ∀ u U : State, u.vm.Alike U.vm → KK u → KK U) : Met l yX3_init wsX3_init { frames := 9, cells := 17, slots := 177, locals := 810 } (va_Pc [.ref o] (fun U => U.heap.size = sz ∧ va_P D vwCl [(o, .inr (4, [.null, .null]))] U.heap ∧ va_K D vwCl [(cI, .int), (cZ, .boolean), (cO, .object "java/lang/Object")] U ∧ va_D (fun _ => True) [(o, .inr (4, [.null, .null]))] ∧ (va_Z "java/util/ArrayList" "DEFAULTCAPACITY_EMPTY_ELEMENTDATA" "[Ljava/lang/Object;" (.ref eA) (fun x => x = o ∨ sz ≤ x) U U.heap ∧ va_T (.object "java/lang/Object") eA 0 gE (fun x => x = o ∨ sz ≤ x) U U.heap ∧ va_AO "java/lang/Object" U ∧ va_Nw (.castable "Panyard$Pan" "java/lang/Object") U) ∧ KK U)) (va_Qv (fun _ : Nat × Nat × Nat × Nat × Nat × Nat × Nat × Nat × Nat × Nat × Nat × Nat × Nat × Nat × Nat => True) (fun u t => match u with | (q1, p0, p0t, p0b, p0s, p1, p1t, p1b, p1s, p2, p2t, p2b, p2s, q2, q2aaa) => va_P D vwCl [(o, .inr (4, [.ref q1, .ref q2])), (q1, .inl (cI, 3, .inl (fun _ => 0))), (p0, .inr (2, [.int 0, .ref p0t, .ref p0b, .ref p0s, .int 0])), (p0t, .inl (cI, 4, .inl (fun _ => 0))), (p0b, .inl (cI, 4, .inl (fun _ => 0))), (p0s, .inl (cZ, 4, .inl (fun _ => 0))), (p1, .inr (2, [.int 1, .ref p1t, .ref p1b, .ref p1s, .int 0])), (p1t, .inl (cI, 4, .inl (fun _ => 0))), (p1b, .inl (cI, 4, .inl (fun _ => 0))), (p1s, .inl (cZ, 4, .inl (fun _ => 0))), (p2, .inr (2, [.int 2, .ref p2t, .ref p2b, .ref p2s, .int 0])), (p2t, .inl (cI, 4, .inl (fun _ => 0))), (p2b, .inl (cI, 4, .inl (fun _ => 0))), (p2s, .inl (cZ, 4, .inl (fun _ => 0))), (q2, .inr (0, [.int (((0 + 1) + 1) + 1), .ref q2aaa, .int (nI (((0 + 1) + 1) + 1))])), (q2aaa, .inl (cO, 10, .inr (.inr (.inr (.inr (va_up (va_up (va_up (fun _ => none) 0 (some p0)) ((0 + 1)) (some p1)) (((0 + 1) + 1)) (some p2)))))))] t.heap ∧ va_D (fun x => x = o ∨ sz ≤ x) [(o, .inr (4, [.ref q1, .ref q2])), (q1, .inl (cI, 3, .inl (fun _ => 0))), (p0, .inr (2, [.int 0, .ref p0t, .ref p0b, .ref p0s, .int 0])), (p0t, .inl (cI, 4, .inl (fun _ => 0))), (p0b, .inl (cI, 4, .inl (fun _ => 0))), (p0s, .inl (cZ, 4, .inl (fun _ => 0))), (p1, .inr (2, [.int 1, .ref p1t, .ref p1b, .ref p1s, .int 0])), (p1t, .inl (cI, 4, .inl (fun _ => 0))), (p1b, .inl (cI, 4, .inl (fun _ => 0))), (p1s, .inl (cZ, 4, .inl (fun _ => 0))), (p2, .inr (2, [.int 2, .ref p2t, .ref p2b, .ref p2s, .int 0])), (p2t, .inl (cI, 4, .inl (fun _ => 0))), (p2b, .inl (cI, 4, .inl (fun _ => 0))), (p2s, .inl (cZ, 4, .inl (fun _ => 0))), (q2, .inr (0, [.int (((0 + 1) + 1) + 1), .ref q2aaa, .int (nI (((0 + 1) + 1) + 1))])), (q2aaa, .inl (cO, 10, .inr (.inr (.inr (.inr (va_up (va_up (va_up (fun _ => none) 0 (some p0)) ((0 + 1)) (some p1)) (((0 + 1) + 1)) (some p2)))))))] ∧ KK t) (fun x => x = o ∨ sz ≤ x)) 17 177 (fun x => x = o ∨ sz ≤ x) := by
  refine Met.ofW (cc := cX3_init) (maxL := 2) (ret := none) (by decide) rfl ?_
  intro p e s mm args below meth c s₁ B hml hv
  obtain ⟨rfl, hsz, hP, hK, hD0, ⟨hZ, hT, hAO, hcast⟩, hkk⟩ := hv
  have hin : meth.name = "<init>" := (name_of_methodNamed B.named B.method).1
  subst hsz
  have hx := B.exec
  have hb := B.bytes
  have hr := B.returns
  have hts := atoms_spec (ws := wsX3_init) B.pre
  have hown : s.vm.findClass RX3 = some mm.cls := findClass_of_methodNamed B.named
  have hlocks := B.notSynchronized
  have iwsX30 : ∀ w ∈ wsX30, w ∈ wsX3_init := fun w h => List.mem_cons_of_mem _ (List.mem_append_left _ (List.mem_append_left _ (List.mem_append_right _ h)))
  have iwsJx4a65c0 : ∀ w ∈ wsJx4a65c0, w ∈ wsX3_init := fun w h => List.mem_cons_of_mem _ (List.mem_append_left _ (List.mem_append_right _ h))
  have iwsX10 : ∀ w ∈ wsX10, w ∈ wsX3_init := fun w h => List.mem_cons_of_mem _ (List.mem_append_right _ h)
  have l0 := hts (.methodLink RX3 3 objectInit) (List.mem_of_getElem? (i := 1) rfl)
  have l1 := hts (.instanceMethod objectInit) (List.mem_of_getElem? (i := 2) rfl)
  have l2 := hts (.code objectInit ⟨#[0xb1]⟩ 1 none) (List.mem_of_getElem? (i := 3) rfl)
  have l3 := hts (.arrayClass .int) (List.mem_of_getElem? (i := 4) rfl)
  have l4 := hts (.fieldLink RX3 9 "Panyard$Planner" "row" "[I") (List.mem_of_getElem? (i := 5) rfl)
  have l5 := hts (.classLink RX3 15 RJx4a65c) (List.mem_of_getElem? (i := 6) rfl)
  have l6 := hts (.instantiable RJx4a65c 3) (List.mem_of_getElem? (i := 7) rfl)
  have l7 := hts (.initialized RJx4a65c) (List.mem_of_getElem? (i := 8) rfl)
  have l8 := hts (.methodLink RX3 17 yJx4a65c_init_da8c8) (List.mem_of_getElem? (i := 13) rfl)
  have l9 := hts (.instanceMethod yJx4a65c_init_da8c8) (List.mem_of_getElem? (i := 14) rfl)
  have l10 := hts (.fieldLink RX3 18 "Panyard$Planner" "trials" "Ljava/util/ArrayList;") (List.mem_of_getElem? (i := 9) rfl)
  have l11 := hts (.classLink RX3 22 RX1) (List.mem_of_getElem? (i := 10) rfl)
  have l12 := hts (.instantiable RX1 5) (List.mem_of_getElem? (i := 11) rfl)
  have l13 := hts (.initialized RX1) (List.mem_of_getElem? (i := 12) rfl)
  have l14 := hts (.methodLink RX3 24 yX1_init) (List.mem_of_getElem? (i := 28) rfl)
  have l15 := hts (.instanceMethod yX1_init) (List.mem_of_getElem? (i := 29) rfl)
  have hD : va_D (fun x => x = o ∨ s.heap.size ≤ x) [(o, .inr (4, [.null, .null]))] := hD0.weaken (fun k9 q hk9 _ => by
    match k9, hk9 with
    | 0, hk9 => cases hk9; exact Or.inl rfl
    | k9 + 1, hk9 => simp at hk9)
  have hA : ∀ q, s.heap.size ≤ q → (fun x : Nat => x = o ∨ s.heap.size ≤ x) q := fun q h => Or.inr h
  generalize hAe : (fun x : Nat => x = o ∨ s.heap.size ≤ x) = A at *
  have hS : va_S A s.heap s.heap [] := va_S.rf
  generalize eH0 : s.heap = H at hP hS
  have hS : va_S A s.heap H [] := by rw [eH0]; exact hS
  clear eH0
  have hl := lv_entry ([.ref o]) (n := 2) (Nat.le_of_ble_eq_true rfl)
  rw [lg_entry_eq]
  generalize (lg_sl ([.ref o]) ++ List.replicate (2 - (lg_sl ([.ref o])).length) Slot.unset).toArray = ls at hl ⊢
  have hl : lv_has ls 2 [(0, .ref o)] := hl
  refine lv_aload_n hx hb dX3_init_0 rfl (lv_at hl 0 rfl) ?_
  refine W.objInit hx hb hown l0 l1 l2 rfl (by rw [hml]; exact hl.1) rfl dX3_init_1 (Nat.le_of_ble_eq_true rfl) (Nat.le_of_ble_eq_true rfl) ?_
  refine W.eq (g2 := F0 mm 4 ls []) rfl ?_
  refine lv_aload_n hx hb dX3_init_4 rfl (lv_at hl 0 rfl) ?_
  refine lv_iconst (v := 3) hx hb dX3_init_5 (by decide) ?_
  refine va_newa (atype := .int) (N' := 3) (a0 := (3, .inl (fun _ => 0))) hx hb l3 rfl hK hP hD hS hA (fun _ => rfl) (by decide) (by decide) (by decide) (Nat.le_of_ble_eq_true rfl) (Nat.le_of_ble_eq_true rfl) dX3_init_6 (fun q1 cA H hK9 hP hD hS => ?_)
  have hcc : cA = cI := Option.some.inj ((hK9.2 3 _ rfl).2.symm.trans (hK.2 0 _ rfl).2)
  rw [hcc] at hP hD
  clear hcc hK9
  have hP : va_P D vwCl [(o, .inr (4, [.null, .null])), (q1, .inl (cI, 3, .inl (fun _ => 0)))] H := hP
  have hD : va_D A [(o, .inr (4, [.null, .null])), (q1, .inl (cI, 3, .inl (fun _ => 0)))] := hD
  refine W.widen (k := 1) (n := 3) (by decide) (by decide) ?_
  refine va_putF (D := D) (cl := vwCl) (ci := 4) (v := .ref q1) (ty := (.array .int)) (C := RX3) (T := TX3) (N := 2) hx hb hts iwsX30 tyX3 tyX3_ok nmX3 hown hK hP hD hS 0 rfl rfl 0 (by decide) l4 (fun _ h => h) rfl hin rfl (by decide +kernel) rfl rfl (Nat.le_of_ble_eq_true rfl) dX3_init_8 (fun H locs hP hD hS => ?_)
  have hP : va_P D vwCl [(o, .inr (4, [.ref q1, .null])), (q1, .inl (cI, 3, .inl (fun _ => 0)))] H := hP
  have hD : va_D A [(o, .inr (4, [.ref q1, .null])), (q1, .inl (cI, 3, .inl (fun _ => 0)))] := hD
  refine lv_aload_n hx hb dX3_init_11 rfl (lv_at hl 0 rfl) ?_
  refine va_new (D := D) (cl := vwCl) (ci := 0) (fs := [.int 0, .null, .int 0]) (C := RJx4a65c) (T := TJx4a65c) (N := 3) hx hb hts iwsJx4a65c0 tyJx4a65c tyJx4a65c_ok hown l5 l6 l7 hK hP hD hS hA rfl (fun j hj => by rcases (show j = 0 ∨ j = 1 ∨ j = 2 by omega) with rfl | rfl | rfl <;> rfl) (Nat.le_of_ble_eq_true rfl) (Nat.le_of_ble_eq_true rfl) dX3_init_12 (fun q2 H hP hD hS => ?_)
  have hP : va_P D vwCl [(o, .inr (4, [.ref q1, .null])), (q1, .inl (cI, 3, .inl (fun _ => 0))), (q2, .inr (0, [.int 0, .null, .int 0]))] H := hP
  have hD : va_D A [(o, .inr (4, [.ref q1, .null])), (q1, .inl (cI, 3, .inl (fun _ => 0))), (q2, .inr (0, [.int 0, .null, .int 0]))] := hD
  refine W.widen (k := 2) (n := 6) (by decide) (by decide) ?_
  refine lv_dup hx hb dX3_init_15 rfl ?_
  have hPc : va_P D vwCl [(q2, .inr (0, [.int 0, .null, .int 0]))] H := hP.sub [2] rfl
  have hFc := va_free (wc := [(q2, .inr (0, [.int 0, .null, .int 0]))]) hD hS hA [2] rfl
  have hAl : A q2 := hD.2 2 _ rfl
  refine va_callv (va_runI (As := []) (rest := [.ref q2, .ref o]) ⟨hx, hb, hml, hown, hts⟩ (lm_List l D q2 eA KK hKK) (cwI 0 hts gX3_init_Jx4a65c_init_da8c8 rfl rfl rfl l7 l8 l9 rfl (by decide +kernel) ⟨Nat.le_of_ble_eq_true rfl, Nat.le_of_ble_eq_true rfl⟩) ⟨fun a U g mk q => ⟨q.1, q.2.1, va_K.moved (u := U) (U := U.calling g mk a) (Vm.Alike.refl U.vm) q.2.2.1, va_Z.moved (u := U) (U := U.calling g mk a) (Vm.Alike.refl U.vm) q.2.2.2.1, hKK _ _ (Vm.Alike.refl U.vm) q.2.2.2.2⟩, fun U hU hW => ⟨rfl, by rw [hU]; exact hPc, va_K.moved hW.alike (hK.sub [] rfl), by rw [hU]; exact (va_Z.moved hW.alike (hZ.kept (fun a h1 h2 => hS.2.1 a h1 h2))).narrow (fun q h => by rw [h]; exact hAl), hKK _ _ hW.alike hkk⟩⟩ rfl rfl hl.1 rfl (lv_room (Nat.le_of_ble_eq_true rfl)) dX3_init_16 ⟨Nat.le_of_ble_eq_true rfl, Nat.le_of_ble_eq_true rfl⟩) hS (fun q _ h => by rw [h]; exact hAl) (fun q h => by rw [h]; exact hAl) (fun u t H1 locs ht hvm hw hB hz hk hS => ?_)
  obtain ⟨hP, hD⟩ := va_join (wr := [(o, .inr (4, [.ref q1, .null])), (q1, .inl (cI, 3, .inl (fun _ => 0)))]) (w1 := [(q2, .inr (0, [.int 0, .ref eA, .int 0]))]) hP hD [2] [0, 1] rfl rfl (by decide) (by decide) (fun q h1 h2 => hk q h1 (fun z => h2 (by rw [z]; exact Or.inl ⟨0, _, rfl⟩))) hFc (by rw [← ht]; exact hB.1) (iw_D1 (Or.inl ⟨0, _, rfl⟩))
  clear hPc hFc hk hz hB hw
  obtain ⟨H, eH⟩ : ∃ y, y = H1 := ⟨_, rfl⟩
  rw [← eH] at hP hS ⊢
  clear eH ht
  have hP : va_P D vwCl [(o, .inr (4, [.ref q1, .null])), (q1, .inl (cI, 3, .inl (fun _ => 0))), (q2, .inr (0, [.int 0, .ref eA, .int 0]))] H := hP
  have hD : va_D A [(o, .inr (4, [.ref q1, .null])), (q1, .inl (cI, 3, .inl (fun _ => 0))), (q2, .inr (0, [.int 0, .ref eA, .int 0]))] := hD
  refine va_putF (D := D) (cl := vwCl) (ci := 4) (v := .ref q2) (ty := (.object "java/util/ArrayList")) (C := RX3) (T := TX3) (N := 2) hx hb hts iwsX30 tyX3 tyX3_ok nmX3 hown hK hP hD hS 0 rfl rfl 1 (by decide) l10 (fun _ h => h) rfl hin rfl (by decide +kernel) rfl rfl (Nat.le_of_ble_eq_true rfl) dX3_init_19 (fun H locs hP hD hS => ?_)
  have hP : va_P D vwCl [(o, .inr (4, [.ref q1, .ref q2])), (q1, .inl (cI, 3, .inl (fun _ => 0))), (q2, .inr (0, [.int 0, .ref eA, .int 0]))] H := hP
  have hD : va_D A [(o, .inr (4, [.ref q1, .ref q2])), (q1, .inl (cI, 3, .inl (fun _ => 0))), (q2, .inr (0, [.int 0, .ref eA, .int 0]))] := hD
  refine lv_iconst (v := 0) hx hb dX3_init_22 (by decide) ?_
  refine lv_istore_n (lv' := [(1, .int 0), (0, .ref o)]) hx hb dX3_init_23 rfl hl (by decide) rfl (fun ls hl => ?_)
  refine lv_iload_n hx hb dX3_init_24 rfl (lv_at hl 0 rfl) ?_
  refine lv_iconst (v := 3) hx hb dX3_init_25 (by decide) ?_
  refine lv_icmp_ge (tgt := 51) hx hb dX3_init_26 (by decide) (fun hc => absurd hc (by decide)) (fun _ => ?_)
  refine lv_aload_n hx hb dX3_init_29 rfl (lv_at hl 1 rfl) ?_
  refine va_get (D := D) (cl := vwCl) (ci := 4) (v := .ref q2) (C := RX3) (T := TX3) (N := 2) hx hb hts iwsX30 hown hK hP 0 rfl rfl 1 (by decide) l10 (fun _ h => h) rfl dX3_init_30 ?_
  refine va_new (D := D) (cl := vwCl) (ci := 2) (fs := [.int 0, .null, .null, .null, .int 0]) (C := RX1) (T := TX1) (N := 5) hx hb hts iwsX10 tyX1 tyX1_ok hown l11 l12 l13 hK hP hD hS hA rfl (fun j hj => by rcases (show j = 0 ∨ j = 1 ∨ j = 2 ∨ j = 3 ∨ j = 4 by omega) with rfl | rfl | rfl | rfl | rfl <;> rfl) (Nat.le_of_ble_eq_true rfl) (Nat.le_of_ble_eq_true rfl) dX3_init_33 (fun p0 H hP hD hS => ?_)
  have hP : va_P D vwCl [(o, .inr (4, [.ref q1, .ref q2])), (q1, .inl (cI, 3, .inl (fun _ => 0))), (q2, .inr (0, [.int 0, .ref eA, .int 0])), (p0, .inr (2, [.int 0, .null, .null, .null, .int 0]))] H := hP
  have hD : va_D A [(o, .inr (4, [.ref q1, .ref q2])), (q1, .inl (cI, 3, .inl (fun _ => 0))), (q2, .inr (0, [.int 0, .ref eA, .int 0])), (p0, .inr (2, [.int 0, .null, .null, .null, .int 0]))] := hD
  refine W.widen (k := 3) (n := 11) (by decide) (by decide) ?_
  refine lv_dup hx hb dX3_init_36 rfl ?_
  refine lv_iload_n hx hb dX3_init_37 rfl (lv_at hl 0 rfl) ?_
  have hPc : va_P D vwCl [(p0, .inr (2, [.int 0, .null, .null, .null, .int 0]))] H := hP.sub [3] rfl
  have hFc := va_free (wc := [(p0, .inr (2, [.int 0, .null, .null, .null, .int 0]))]) hD hS hA [3] rfl
  have hFo : ∀ q, (q = p0 ∨ H.size ≤ q) → va_A [(p0, .inr (2, [.int 0, .null, .null, .null, .int 0]))] H.size q := fun q z => z.elim (fun z => by rw [z]; exact Or.inl ⟨0, _, rfl⟩) Or.inr
  refine va_callv (va_runI (As := [.int 0]) (rest := [.ref p0, .ref q2]) ⟨hx, hb, hml, hown, hts⟩ (lm_Pan l D cI cZ p0 H.size 0 KK hKK) (cwI 1 hts gX3_init_X1_init rfl rfl rfl l13 l14 l15 rfl (by decide +kernel) ⟨Nat.le_of_ble_eq_true rfl, Nat.le_of_ble_eq_true rfl⟩) (⟨(fun a U g mk q => ⟨q.1, q.2.1, q.2.2.1, va_K.moved (u := U) (U := U.calling g mk a) (Vm.Alike.refl U.vm) q.2.2.2.1, q.2.2.2.2.1, hKK _ _ (Vm.Alike.refl U.vm) q.2.2.2.2.2⟩), fun U hU hW => ⟨rfl, by rw [hU], by rw [hU]; exact hPc, va_K.moved hW.alike (hK.sub [0, 1] rfl), iw_D1 trivial, hKK _ _ hW.alike hkk⟩⟩) rfl rfl hl.1 rfl (lv_room (Nat.le_of_ble_eq_true rfl)) dX3_init_38 ⟨Nat.le_of_ble_eq_true rfl, Nat.le_of_ble_eq_true rfl⟩) hS (fun q _ h => hFc q (hFo q h)) (fun q h => hFc q (hFo q h)) (fun u t H1 locs ht hvm hw hB hz hk hS => ?_)
  obtain ⟨p0t, p0b, p0s⟩ := u
  obtain ⟨hP1, hD1, -⟩ := hB
  rw [ht] at hP1
  obtain ⟨hP, hD⟩ := va_join (wr := [(o, .inr (4, [.ref q1, .ref q2])), (q1, .inl (cI, 3, .inl (fun _ => 0))), (q2, .inr (0, [.int 0, .ref eA, .int 0]))]) (w1 := [(p0, .inr (2, [.int 0, .ref p0t, .ref p0b, .ref p0s, .int 0])), (p0t, .inl (cI, 4, .inl (fun _ => 0))), (p0b, .inl (cI, 4, .inl (fun _ => 0))), (p0s, .inl (cZ, 4, .inl (fun _ => 0)))]) hP hD [3] [0, 1, 2] rfl rfl (by decide) (by decide) (fun q h1 h2 => hk q h1 (fun z => h2 (hFo q z))) hFc hP1 (hD1.weaken (fun k q hk z => hFo q.1 z))
  clear hP1 hD1 hk hz hw hFc hFo
  obtain ⟨H, eH⟩ : ∃ y, y = H1 := ⟨_, rfl⟩
  rw [← eH] at hP hS ⊢
  clear eH ht
  have hP : va_P D vwCl [(o, .inr (4, [.ref q1, .ref q2])), (q1, .inl (cI, 3, .inl (fun _ => 0))), (q2, .inr (0, [.int 0, .ref eA, .int 0])), (p0, .inr (2, [.int 0, .ref p0t, .ref p0b, .ref p0s, .int 0])), (p0t, .inl (cI, 4, .inl (fun _ => 0))), (p0b, .inl (cI, 4, .inl (fun _ => 0))), (p0s, .inl (cZ, 4, .inl (fun _ => 0)))] H := hP
  have hD : va_D A [(o, .inr (4, [.ref q1, .ref q2])), (q1, .inl (cI, 3, .inl (fun _ => 0))), (q2, .inr (0, [.int 0, .ref eA, .int 0])), (p0, .inr (2, [.int 0, .ref p0t, .ref p0b, .ref p0s, .int 0])), (p0t, .inl (cI, 4, .inl (fun _ => 0))), (p0b, .inl (cI, 4, .inl (fun _ => 0))), (p0s, .inl (cZ, 4, .inl (fun _ => 0)))] := hD
  refine W.widen (k := 6) (n := 23) (by decide) (by decide) ?_
  have hPc : va_P D vwCl [(q2, .inr (0, [.int 0, .ref eA, .int (nI 0)]))] H := hP.sub [2] rfl
  have hAl : A q2 := hD.2 2 _ rfl
  have hne : p0 ≠ q2 := fun z => absurd (hD.1 3 2 _ _ rfl rfl z) (by decide)
  have hcv := va_recv hK hP (ci := 2) (q0 := 3) rfl rfl
  have hrv := va_recv hK hP (ci := 0) (q0 := 2) rfl rfl
  have hFc := va_free (wc := [(q2, .inr (0, [.int 0, .ref eA, .int 0]))]) hD hS hA [2] rfl
  have hFo : ∀ q, (q = q2 ∨ H.size ≤ q) → va_A [(q2, .inr (0, [.int 0, .ref eA, .int 0]))] H.size q := fun q z => z.elim (fun z => by rw [z]; exact Or.inl ⟨0, _, rfl⟩) Or.inr
  refine va_calli (va_runV (As := [.ref p0]) (rest := []) ⟨hx, hb, hml, hown, hts⟩ (lm_add1E l D "Panyard$Pan" cO q2 eA H.size 0 gE KK hKK p0) (cwV 1 hts gX3_init_Jx4a65c_add_9ea2d rfl rfl rfl (by decide +kernel) ⟨Nat.le_of_ble_eq_true rfl, Nat.le_of_ble_eq_true rfl⟩) (⟨(fun a U g mk q => ⟨q.1, q.2.1, q.2.2.1, q.2.2.2.1, va_K.moved (u := U) (U := U.calling g mk a) (Vm.Alike.refl U.vm) q.2.2.2.2.1, va_AO.moved (u := U) (U := U.calling g mk a) (Vm.Alike.refl U.vm) q.2.2.2.2.2.1, va_Z.moved (u := U) (U := U.calling g mk a) (Vm.Alike.refl U.vm) q.2.2.2.2.2.2.1, va_T.moved (u := U) (U := U.calling g mk a) (Vm.Alike.refl U.vm) q.2.2.2.2.2.2.2.1, ⟨castN (u := U) (U := U.calling g mk a) q.2.2.2.2.2.2.2.2.1.1 (Vm.Alike.refl U.vm), q.2.2.2.2.2.2.2.2.1.2⟩, hKK _ _ (Vm.Alike.refl U.vm) q.2.2.2.2.2.2.2.2.2⟩), hrv, fun U hU hW => ⟨rfl, by rw [hU], by rw [hU]; exact hPc, iw_D1 trivial, va_K.moved hW.alike (hK.sub [2] rfl), va_AO.moved hW.alike hAO, by rw [hU]; exact (va_Z.moved hW.alike (hZ.kept (fun a h1 h2 => hS.2.1 a h1 h2))).narrow (fun q h => h.elim (fun z => by rw [z]; exact hAl) (fun z => hA q (Nat.le_trans hS.1 z))), by rw [hU]; exact (va_T.moved hW.alike (hT.kept (fun a h1 h2 => hS.2.1 a h1 h2))).narrow (fun q h => h.elim (fun z => by rw [z]; exact hAl) (fun z => hA q (Nat.le_trans hS.1 z))), ⟨castN hcast hW.alike, hne, by rw [hU]; obtain ⟨cv, y1, y2, y3⟩ := hcv; exact ⟨cv, y1, y2, (Vm.Alike.findClass hW.alike _ _).trans y3⟩⟩, hKK _ _ hW.alike hkk⟩⟩) rfl rfl hl.1 rfl (lv_room (Nat.le_of_ble_eq_true rfl)) dX3_init_41 ⟨Nat.le_of_ble_eq_true rfl, Nat.le_of_ble_eq_true rfl⟩) hS (fun q _ h => hFc q (hFo q h)) (fun q h => hFc q (hFo q h)) (fun r9 u t H1 locs ht hvm hw hB hz hk hS => ?_)
  obtain ⟨q2a, eq9⟩ : ∃ y, y = u := ⟨_, rfl⟩
  rw [← eq9] at hB
  clear eq9
  obtain ⟨hP1, hD1, -⟩ := hB
  rw [ht] at hP1
  obtain ⟨hP, hD⟩ := va_join (wr := [(o, .inr (4, [.ref q1, .ref q2])), (q1, .inl (cI, 3, .inl (fun _ => 0))), (p0, .inr (2, [.int 0, .ref p0t, .ref p0b, .ref p0s, .int 0])), (p0t, .inl (cI, 4, .inl (fun _ => 0))), (p0b, .inl (cI, 4, .inl (fun _ => 0))), (p0s, .inl (cZ, 4, .inl (fun _ => 0)))]) (w1 := [(q2, .inr (0, [.int (0 + 1), .ref q2a, .int (nI (0 + 1))])), (q2a, .inl (cO, 10, .inr (.inr (.inr (.inr (va_up (fun _ => none) 0 (some p0)))))))]) hP hD [2] [0, 1, 3, 4, 5, 6] rfl rfl (by decide) (by decide) (fun q h1 h2 => hk q h1 (fun z => h2 (hFo q z))) hFc hP1 (hD1.weaken (fun k q hk z => hFo q.1 z))
  clear hP1 hD1 hk hz hw hFc hFo
  obtain ⟨H, eH⟩ : ∃ y, y = H1 := ⟨_, rfl⟩
  rw [← eH] at hP hS ⊢
  clear eH ht
  have hP : va_P D vwCl [(o, .inr (4, [.ref q1, .ref q2])), (q1, .inl (cI, 3, .inl (fun _ => 0))), (p0, .inr (2, [.int 0, .ref p0t, .ref p0b, .ref p0s, .int 0])), (p0t, .inl (cI, 4, .inl (fun _ => 0))), (p0b, .inl (cI, 4, .inl (fun _ => 0))), (p0s, .inl (cZ, 4, .inl (fun _ => 0))), (q2, .inr (0, [.int (0 + 1), .ref q2a, .int (nI (0 + 1))])), (q2a, .inl (cO, 10, .inr (.inr (.inr (.inr (va_up (fun _ => none) 0 (some p0)))))))] H := hP
  have hD : va_D A [(o, .inr (4, [.ref q1, .ref q2])), (q1, .inl (cI, 3, .inl (fun _ => 0))), (p0, .inr (2, [.int 0, .ref p0t, .ref p0b, .ref p0s, .int 0])), (p0t, .inl (cI, 4, .inl (fun _ => 0))), (p0b, .inl (cI, 4, .inl (fun _ => 0))), (p0s, .inl (cZ, 4, .inl (fun _ => 0))), (q2, .inr (0, [.int (0 + 1), .ref q2a, .int (nI (0 + 1))])), (q2a, .inl (cO, 10, .inr (.inr (.inr (.inr (va_up (fun _ => none) 0 (some p0)))))))] := hD
  refine W.widen (k := 7) (n := 63) (by decide) (by decide) ?_
  refine lv_pop hx hb dX3_init_44 rfl ?_
  refine lv_iinc (v := 1) (lv' := [(1, .int 1), (0, .ref o)]) hx hb dX3_init_45 hl (k := 0) rfl (by decide) (by decide) rfl (fun ls hl => ?_)
  refine lv_goto (tgt := 24) hx hb dX3_init_48 (by decide) ?_
  refine lv_iload_n hx hb dX3_init_24 rfl (lv_at hl 0 rfl) ?_
  refine lv_iconst (v := 3) hx hb dX3_init_25 (by decide) ?_
  refine lv_icmp_ge (tgt := 51) hx hb dX3_init_26 (by decide) (fun hc => absurd hc (by decide)) (fun _ => ?_)
  refine lv_aload_n hx hb dX3_init_29 rfl (lv_at hl 1 rfl) ?_
  refine va_get (D := D) (cl := vwCl) (ci := 4) (v := .ref q2) (C := RX3) (T := TX3) (N := 2) hx hb hts iwsX30 hown hK hP 0 rfl rfl 1 (by decide) l10 (fun _ h => h) rfl dX3_init_30 ?_
  refine va_new (D := D) (cl := vwCl) (ci := 2) (fs := [.int 0, .null, .null, .null, .int 0]) (C := RX1) (T := TX1) (N := 5) hx hb hts iwsX10 tyX1 tyX1_ok hown l11 l12 l13 hK hP hD hS hA rfl (fun j hj => by rcases (show j = 0 ∨ j = 1 ∨ j = 2 ∨ j = 3 ∨ j = 4 by omega) with rfl | rfl | rfl | rfl | rfl <;> rfl) (Nat.le_of_ble_eq_true rfl) (Nat.le_of_ble_eq_true rfl) dX3_init_33 (fun p1 H hP hD hS => ?_)
  have hP : va_P D vwCl [(o, .inr (4, [.ref q1, .ref q2])), (q1, .inl (cI, 3, .inl (fun _ => 0))), (p0, .inr (2, [.int 0, .ref p0t, .ref p0b, .ref p0s, .int 0])), (p0t, .inl (cI, 4, .inl (fun _ => 0))), (p0b, .inl (cI, 4, .inl (fun _ => 0))), (p0s, .inl (cZ, 4, .inl (fun _ => 0))), (q2, .inr (0, [.int (0 + 1), .ref q2a, .int (nI (0 + 1))])), (q2a, .inl (cO, 10, .inr (.inr (.inr (.inr (va_up (fun _ => none) 0 (some p0))))))), (p1, .inr (2, [.int 0, .null, .null, .null, .int 0]))] H := hP
  have hD : va_D A [(o, .inr (4, [.ref q1, .ref q2])), (q1, .inl (cI, 3, .inl (fun _ => 0))), (p0, .inr (2, [.int 0, .ref p0t, .ref p0b, .ref p0s, .int 0])), (p0t, .inl (cI, 4, .inl (fun _ => 0))), (p0b, .inl (cI, 4, .inl (fun _ => 0))), (p0s, .inl (cZ, 4, .inl (fun _ => 0))), (q2, .inr (0, [.int (0 + 1), .ref q2a, .int (nI (0 + 1))])), (q2a, .inl (cO, 10, .inr (.inr (.inr (.inr (va_up (fun _ => none) 0 (some p0))))))), (p1, .inr (2, [.int 0, .null, .null, .null, .int 0]))] := hD
  refine W.widen (k := 8) (n := 68) (by decide) (by decide) ?_
  refine lv_dup hx hb dX3_init_36 rfl ?_
  refine lv_iload_n hx hb dX3_init_37 rfl (lv_at hl 0 rfl) ?_
  have hPc : va_P D vwCl [(p1, .inr (2, [.int 0, .null, .null, .null, .int 0]))] H := hP.sub [8] rfl
  have hFc := va_free (wc := [(p1, .inr (2, [.int 0, .null, .null, .null, .int 0]))]) hD hS hA [8] rfl
  have hFo : ∀ q, (q = p1 ∨ H.size ≤ q) → va_A [(p1, .inr (2, [.int 0, .null, .null, .null, .int 0]))] H.size q := fun q z => z.elim (fun z => by rw [z]; exact Or.inl ⟨0, _, rfl⟩) Or.inr
  refine va_callv (va_runI (As := [.int 1]) (rest := [.ref p1, .ref q2]) ⟨hx, hb, hml, hown, hts⟩ (lm_Pan l D cI cZ p1 H.size 1 KK hKK) (cwI 1 hts gX3_init_X1_init rfl rfl rfl l13 l14 l15 rfl (by decide +kernel) ⟨Nat.le_of_ble_eq_true rfl, Nat.le_of_ble_eq_true rfl⟩) (⟨(fun a U g mk q => ⟨q.1, q.2.1, q.2.2.1, va_K.moved (u := U) (U := U.calling g mk a) (Vm.Alike.refl U.vm) q.2.2.2.1, q.2.2.2.2.1, hKK _ _ (Vm.Alike.refl U.vm) q.2.2.2.2.2⟩), fun U hU hW => ⟨rfl, by rw [hU], by rw [hU]; exact hPc, va_K.moved hW.alike (hK.sub [0, 1] rfl), iw_D1 trivial, hKK _ _ hW.alike hkk⟩⟩) rfl rfl hl.1 rfl (lv_room (Nat.le_of_ble_eq_true rfl)) dX3_init_38 ⟨Nat.le_of_ble_eq_true rfl, Nat.le_of_ble_eq_true rfl⟩) hS (fun q _ h => hFc q (hFo q h)) (fun q h => hFc q (hFo q h)) (fun u t H1 locs ht hvm hw hB hz hk hS => ?_)
  obtain ⟨p1t, p1b, p1s⟩ := u
  obtain ⟨hP1, hD1, -⟩ := hB
  rw [ht] at hP1
  obtain ⟨hP, hD⟩ := va_join (wr := [(o, .inr (4, [.ref q1, .ref q2])), (q1, .inl (cI, 3, .inl (fun _ => 0))), (p0, .inr (2, [.int 0, .ref p0t, .ref p0b, .ref p0s, .int 0])), (p0t, .inl (cI, 4, .inl (fun _ => 0))), (p0b, .inl (cI, 4, .inl (fun _ => 0))), (p0s, .inl (cZ, 4, .inl (fun _ => 0))), (q2, .inr (0, [.int (0 + 1), .ref q2a, .int (nI (0 + 1))])), (q2a, .inl (cO, 10, .inr (.inr (.inr (.inr (va_up (fun _ => none) 0 (some p0)))))))]) (w1 := [(p1, .inr (2, [.int 1, .ref p1t, .ref p1b, .ref p1s, .int 0])), (p1t, .inl (cI, 4, .inl (fun _ => 0))), (p1b, .inl (cI, 4, .inl (fun _ => 0))), (p1s, .inl (cZ, 4, .inl (fun _ => 0)))]) hP hD [8] [0, 1, 2, 3, 4, 5, 6, 7] rfl rfl (by decide) (by decide) (fun q h1 h2 => hk q h1 (fun z => h2 (hFo q z))) hFc hP1 (hD1.weaken (fun k q hk z => hFo q.1 z))
  clear hP1 hD1 hk hz hw hFc hFo
  obtain ⟨H, eH⟩ : ∃ y, y = H1 := ⟨_, rfl⟩
  rw [← eH] at hP hS ⊢
  clear eH ht
  have hP : va_P D vwCl [(o, .inr (4, [.ref q1, .ref q2])), (q1, .inl (cI, 3, .inl (fun _ => 0))), (p0, .inr (2, [.int 0, .ref p0t, .ref p0b, .ref p0s, .int 0])), (p0t, .inl (cI, 4, .inl (fun _ => 0))), (p0b, .inl (cI, 4, .inl (fun _ => 0))), (p0s, .inl (cZ, 4, .inl (fun _ => 0))), (q2, .inr (0, [.int (0 + 1), .ref q2a, .int (nI (0 + 1))])), (q2a, .inl (cO, 10, .inr (.inr (.inr (.inr (va_up (fun _ => none) 0 (some p0))))))), (p1, .inr (2, [.int 1, .ref p1t, .ref p1b, .ref p1s, .int 0])), (p1t, .inl (cI, 4, .inl (fun _ => 0))), (p1b, .inl (cI, 4, .inl (fun _ => 0))), (p1s, .inl (cZ, 4, .inl (fun _ => 0)))] H := hP
  have hD : va_D A [(o, .inr (4, [.ref q1, .ref q2])), (q1, .inl (cI, 3, .inl (fun _ => 0))), (p0, .inr (2, [.int 0, .ref p0t, .ref p0b, .ref p0s, .int 0])), (p0t, .inl (cI, 4, .inl (fun _ => 0))), (p0b, .inl (cI, 4, .inl (fun _ => 0))), (p0s, .inl (cZ, 4, .inl (fun _ => 0))), (q2, .inr (0, [.int (0 + 1), .ref q2a, .int (nI (0 + 1))])), (q2a, .inl (cO, 10, .inr (.inr (.inr (.inr (va_up (fun _ => none) 0 (some p0))))))), (p1, .inr (2, [.int 1, .ref p1t, .ref p1b, .ref p1s, .int 0])), (p1t, .inl (cI, 4, .inl (fun _ => 0))), (p1b, .inl (cI, 4, .inl (fun _ => 0))), (p1s, .inl (cZ, 4, .inl (fun _ => 0)))] := hD
  refine W.widen (k := 11) (n := 80) (by decide) (by decide) ?_
  have hPc : va_P D vwCl (lW q2 q2a ((0 + 1)) (nI ((0 + 1))) cO 10 (va_up (fun _ => none) 0 (some p0))) H := hP.sub [6, 7] rfl
  have hDc : va_D (fun _ => True) (lW q2 q2a ((0 + 1)) (nI ((0 + 1))) cO 10 (va_up (fun _ => none) 0 (some p0))) := ((hD.sub (ws' := (lW q2 q2a ((0 + 1)) (nI ((0 + 1))) cO 10 (va_up (fun _ => none) 0 (some p0)))) [6, 7] (by decide) rfl)).weaken (fun _ _ _ _ => trivial)
  have hne : p1 ≠ q2 := fun z => absurd (hD.1 8 6 _ _ rfl rfl z) (by decide)
  have hne2 : p1 ≠ q2a := fun z => absurd (hD.1 8 7 _ _ rfl rfl z) (by decide)
  have hcv := va_recv hK hP (ci := 2) (q0 := 8) rfl rfl
  have hrv := va_recv hK hP (ci := 0) (q0 := 6) rfl rfl
  have hFc := va_free (wc := [(q2, .inr (0, [.int (0 + 1), .ref q2a, .int (nI (0 + 1))])), (q2a, .inl (cO, 10, .inr (.inr (.inr (.inr (va_up (fun _ => none) 0 (some p0)))))))]) hD hS hA [6, 7] rfl
  have hFo : ∀ q, (q = q2 ∨ q = q2a ∨ H.size ≤ q) → va_A [(q2, .inr (0, [.int (0 + 1), .ref q2a, .int (nI (0 + 1))])), (q2a, .inl (cO, 10, .inr (.inr (.inr (.inr (va_up (fun _ => none) 0 (some p0)))))))] H.size q := fun q z => z.elim (fun z => by rw [z]; exact Or.inl ⟨0, _, rfl⟩) (fun z => z.elim (fun z => by rw [z]; exact Or.inl ⟨1, _, rfl⟩) Or.inr)
  refine va_calli (va_runV (As := [.ref p1]) (rest := []) ⟨hx, hb, hml, hown, hts⟩ (lm_add1R l D "Panyard$Pan" cO q2 q2a H.size ((0 + 1)) 10 ((0 + 1)) (va_up (fun _ => none) 0 (some p0)) KK hKK p1 (by decide) (by decide)) (cwV 1 hts gX3_init_Jx4a65c_add_9ea2d rfl rfl rfl (by decide +kernel) ⟨Nat.le_of_ble_eq_true rfl, Nat.le_of_ble_eq_true rfl⟩) (⟨(fun a U g mk q => ⟨q.1, q.2.1, q.2.2.1, q.2.2.2.1, va_K.moved (u := U) (U := U.calling g mk a) (Vm.Alike.refl U.vm) q.2.2.2.2.1, ⟨castN (u := U) (U := U.calling g mk a) q.2.2.2.2.2.1.1 (Vm.Alike.refl U.vm), q.2.2.2.2.2.1.2⟩, hKK _ _ (Vm.Alike.refl U.vm) q.2.2.2.2.2.2⟩), hrv, fun U hU hW => ⟨rfl, by rw [hU], by rw [hU]; exact hPc, hDc, va_K.moved hW.alike (hK.sub [2] rfl), ⟨castN hcast hW.alike, hne, hne2, by rw [hU]; obtain ⟨cv, y1, y2, y3⟩ := hcv; exact ⟨cv, y1, y2, (Vm.Alike.findClass hW.alike _ _).trans y3⟩⟩, hKK _ _ hW.alike hkk⟩⟩) rfl rfl hl.1 rfl (lv_room (Nat.le_of_ble_eq_true rfl)) dX3_init_41 ⟨Nat.le_of_ble_eq_true rfl, Nat.le_of_ble_eq_true rfl⟩) hS (fun q _ h => hFc q (hFo q h)) (fun q h => hFc q (hFo q h)) (fun r9 u t H1 locs ht hvm hw hB hz hk hS => ?_)
  obtain ⟨q2aa, eq9⟩ : ∃ y, y = u := ⟨_, rfl⟩
  rw [← eq9] at hB
  clear eq9
  obtain ⟨hP1, hD1, -⟩ := hB
  rw [ht] at hP1
  obtain ⟨hP, hD⟩ := va_join (wr := [(o, .inr (4, [.ref q1, .ref q2])), (q1, .inl (cI, 3, .inl (fun _ => 0))), (p0, .inr (2, [.int 0, .ref p0t, .ref p0b, .ref p0s, .int 0])), (p0t, .inl (cI, 4, .inl (fun _ => 0))), (p0b, .inl (cI, 4, .inl (fun _ => 0))), (p0s, .inl (cZ, 4, .inl (fun _ => 0))), (p1, .inr (2, [.int 1, .ref p1t, .ref p1b, .ref p1s, .int 0])), (p1t, .inl (cI, 4, .inl (fun _ => 0))), (p1b, .inl (cI, 4, .inl (fun _ => 0))), (p1s, .inl (cZ, 4, .inl (fun _ => 0)))]) (w1 := [(q2, .inr (0, [.int ((0 + 1) + 1), .ref q2aa, .int (nI ((0 + 1) + 1))])), (q2aa, .inl (cO, 10, .inr (.inr (.inr (.inr (va_up (va_up (fun _ => none) 0 (some p0)) ((0 + 1)) (some p1)))))))]) hP hD [6, 7] [0, 1, 2, 3, 4, 5, 8, 9, 10, 11] rfl rfl (by decide) (by decide) (fun q h1 h2 => hk q h1 (fun z => h2 (hFo q z))) hFc hP1 (hD1.weaken (fun k q hk z => hFo q.1 z))
  clear hP1 hD1 hk hz hw hFc hFo
  obtain ⟨H, eH⟩ : ∃ y, y = H1 := ⟨_, rfl⟩
  rw [← eH] at hP hS ⊢
  clear eH ht
  have hP : va_P D vwCl [(o, .inr (4, [.ref q1, .ref q2])), (q1, .inl (cI, 3, .inl (fun _ => 0))), (p0, .inr (2, [.int 0, .ref p0t, .ref p0b, .ref p0s, .int 0])), (p0t, .inl (cI, 4, .inl (fun _ => 0))), (p0b, .inl (cI, 4, .inl (fun _ => 0))), (p0s, .inl (cZ, 4, .inl (fun _ => 0))), (p1, .inr (2, [.int 1, .ref p1t, .ref p1b, .ref p1s, .int 0])), (p1t, .inl (cI, 4, .inl (fun _ => 0))), (p1b, .inl (cI, 4, .inl (fun _ => 0))), (p1s, .inl (cZ, 4, .inl (fun _ => 0))), (q2, .inr (0, [.int ((0 + 1) + 1), .ref q2aa, .int (nI ((0 + 1) + 1))])), (q2aa, .inl (cO, 10, .inr (.inr (.inr (.inr (va_up (va_up (fun _ => none) 0 (some p0)) ((0 + 1)) (some p1)))))))] H := hP
  have hD : va_D A [(o, .inr (4, [.ref q1, .ref q2])), (q1, .inl (cI, 3, .inl (fun _ => 0))), (p0, .inr (2, [.int 0, .ref p0t, .ref p0b, .ref p0s, .int 0])), (p0t, .inl (cI, 4, .inl (fun _ => 0))), (p0b, .inl (cI, 4, .inl (fun _ => 0))), (p0s, .inl (cZ, 4, .inl (fun _ => 0))), (p1, .inr (2, [.int 1, .ref p1t, .ref p1b, .ref p1s, .int 0])), (p1t, .inl (cI, 4, .inl (fun _ => 0))), (p1b, .inl (cI, 4, .inl (fun _ => 0))), (p1s, .inl (cZ, 4, .inl (fun _ => 0))), (q2, .inr (0, [.int ((0 + 1) + 1), .ref q2aa, .int (nI ((0 + 1) + 1))])), (q2aa, .inl (cO, 10, .inr (.inr (.inr (.inr (va_up (va_up (fun _ => none) 0 (some p0)) ((0 + 1)) (some p1)))))))] := hD
  refine W.widen (k := 12) (n := 120) (by decide) (by decide) ?_
  refine lv_pop hx hb dX3_init_44 rfl ?_
  refine lv_iinc (v := 2) (lv' := [(1, .int 2), (0, .ref o)]) hx hb dX3_init_45 hl (k := 0) rfl (by decide) (by decide) rfl (fun ls hl => ?_)
  refine lv_goto (tgt := 24) hx hb dX3_init_48 (by decide) ?_
  refine lv_iload_n hx hb dX3_init_24 rfl (lv_at hl 0 rfl) ?_
  refine lv_iconst (v := 3) hx hb dX3_init_25 (by decide) ?_
  refine lv_icmp_ge (tgt := 51) hx hb dX3_init_26 (by decide) (fun hc => absurd hc (by decide)) (fun _ => ?_)
  refine lv_aload_n hx hb dX3_init_29 rfl (lv_at hl 1 rfl) ?_
  refine va_get (D := D) (cl := vwCl) (ci := 4) (v := .ref q2) (C := RX3) (T := TX3) (N := 2) hx hb hts iwsX30 hown hK hP 0 rfl rfl 1 (by decide) l10 (fun _ h => h) rfl dX3_init_30 ?_
  refine va_new (D := D) (cl := vwCl) (ci := 2) (fs := [.int 0, .null, .null, .null, .int 0]) (C := RX1) (T := TX1) (N := 5) hx hb hts iwsX10 tyX1 tyX1_ok hown l11 l12 l13 hK hP hD hS hA rfl (fun j hj => by rcases (show j = 0 ∨ j = 1 ∨ j = 2 ∨ j = 3 ∨ j = 4 by omega) with rfl | rfl | rfl | rfl | rfl <;> rfl) (Nat.le_of_ble_eq_true rfl) (Nat.le_of_ble_eq_true rfl) dX3_init_33 (fun p2 H hP hD hS => ?_)
  have hP : va_P D vwCl [(o, .inr (4, [.ref q1, .ref q2])), (q1, .inl (cI, 3, .inl (fun _ => 0))), (p0, .inr (2, [.int 0, .ref p0t, .ref p0b, .ref p0s, .int 0])), (p0t, .inl (cI, 4, .inl (fun _ => 0))), (p0b, .inl (cI, 4, .inl (fun _ => 0))), (p0s, .inl (cZ, 4, .inl (fun _ => 0))), (p1, .inr (2, [.int 1, .ref p1t, .ref p1b, .ref p1s, .int 0])), (p1t, .inl (cI, 4, .inl (fun _ => 0))), (p1b, .inl (cI, 4, .inl (fun _ => 0))), (p1s, .inl (cZ, 4, .inl (fun _ => 0))), (q2, .inr (0, [.int ((0 + 1) + 1), .ref q2aa, .int (nI ((0 + 1) + 1))])), (q2aa, .inl (cO, 10, .inr (.inr (.inr (.inr (va_up (va_up (fun _ => none) 0 (some p0)) ((0 + 1)) (some p1))))))), (p2, .inr (2, [.int 0, .null, .null, .null, .int 0]))] H := hP
  have hD : va_D A [(o, .inr (4, [.ref q1, .ref q2])), (q1, .inl (cI, 3, .inl (fun _ => 0))), (p0, .inr (2, [.int 0, .ref p0t, .ref p0b, .ref p0s, .int 0])), (p0t, .inl (cI, 4, .inl (fun _ => 0))), (p0b, .inl (cI, 4, .inl (fun _ => 0))), (p0s, .inl (cZ, 4, .inl (fun _ => 0))), (p1, .inr (2, [.int 1, .ref p1t, .ref p1b, .ref p1s, .int 0])), (p1t, .inl (cI, 4, .inl (fun _ => 0))), (p1b, .inl (cI, 4, .inl (fun _ => 0))), (p1s, .inl (cZ, 4, .inl (fun _ => 0))), (q2, .inr (0, [.int ((0 + 1) + 1), .ref q2aa, .int (nI ((0 + 1) + 1))])), (q2aa, .inl (cO, 10, .inr (.inr (.inr (.inr (va_up (va_up (fun _ => none) 0 (some p0)) ((0 + 1)) (some p1))))))), (p2, .inr (2, [.int 0, .null, .null, .null, .int 0]))] := hD
  refine W.widen (k := 13) (n := 125) (by decide) (by decide) ?_
  refine lv_dup hx hb dX3_init_36 rfl ?_
  refine lv_iload_n hx hb dX3_init_37 rfl (lv_at hl 0 rfl) ?_
  have hPc : va_P D vwCl [(p2, .inr (2, [.int 0, .null, .null, .null, .int 0]))] H := hP.sub [12] rfl
  have hFc := va_free (wc := [(p2, .inr (2, [.int 0, .null, .null, .null, .int 0]))]) hD hS hA [12] rfl
  have hFo : ∀ q, (q = p2 ∨ H.size ≤ q) → va_A [(p2, .inr (2, [.int 0, .null, .null, .null, .int 0]))] H.size q := fun q z => z.elim (fun z => by rw [z]; exact Or.inl ⟨0, _, rfl⟩) Or.inr
  refine va_callv (va_runI (As := [.int 2]) (rest := [.ref p2, .ref q2]) ⟨hx, hb, hml, hown, hts⟩ (lm_Pan l D cI cZ p2 H.size 2 KK hKK) (cwI 1 hts gX3_init_X1_init rfl rfl rfl l13 l14 l15 rfl (by decide +kernel) ⟨Nat.le_of_ble_eq_true rfl, Nat.le_of_ble_eq_true rfl⟩) (⟨(fun a U g mk q => ⟨q.1, q.2.1, q.2.2.1, va_K.moved (u := U) (U := U.calling g mk a) (Vm.Alike.refl U.vm) q.2.2.2.1, q.2.2.2.2.1, hKK _ _ (Vm.Alike.refl U.vm) q.2.2.2.2.2⟩), fun U hU hW => ⟨rfl, by rw [hU], by rw [hU]; exact hPc, va_K.moved hW.alike (hK.sub [0, 1] rfl), iw_D1 trivial, hKK _ _ hW.alike hkk⟩⟩) rfl rfl hl.1 rfl (lv_room (Nat.le_of_ble_eq_true rfl)) dX3_init_38 ⟨Nat.le_of_ble_eq_true rfl, Nat.le_of_ble_eq_true rfl⟩) hS (fun q _ h => hFc q (hFo q h)) (fun q h => hFc q (hFo q h)) (fun u t H1 locs ht hvm hw hB hz hk hS => ?_)
  obtain ⟨p2t, p2b, p2s⟩ := u
  obtain ⟨hP1, hD1, -⟩ := hB
  rw [ht] at hP1
  obtain ⟨hP, hD⟩ := va_join (wr := [(o, .inr (4, [.ref q1, .ref q2])), (q1, .inl (cI, 3, .inl (fun _ => 0))), (p0, .inr (2, [.int 0, .ref p0t, .ref p0b, .ref p0s, .int 0])), (p0t, .inl (cI, 4, .inl (fun _ => 0))), (p0b, .inl (cI, 4, .inl (fun _ => 0))), (p0s, .inl (cZ, 4, .inl (fun _ => 0))), (p1, .inr (2, [.int 1, .ref p1t, .ref p1b, .ref p1s, .int 0])), (p1t, .inl (cI, 4, .inl (fun _ => 0))), (p1b, .inl (cI, 4, .inl (fun _ => 0))), (p1s, .inl (cZ, 4, .inl (fun _ => 0))), (q2, .inr (0, [.int ((0 + 1) + 1), .ref q2aa, .int (nI ((0 + 1) + 1))])), (q2aa, .inl (cO, 10, .inr (.inr (.inr (.inr (va_up (va_up (fun _ => none) 0 (some p0)) ((0 + 1)) (some p1)))))))]) (w1 := [(p2, .inr (2, [.int 2, .ref p2t, .ref p2b, .ref p2s, .int 0])), (p2t, .inl (cI, 4, .inl (fun _ => 0))), (p2b, .inl (cI, 4, .inl (fun _ => 0))), (p2s, .inl (cZ, 4, .inl (fun _ => 0)))]) hP hD [12] [0, 1, 2, 3, 4, 5, 6, 7, 8, 9, 10, 11] rfl rfl (by decide) (by decide) (fun q h1 h2 => hk q h1 (fun z => h2 (hFo q z))) hFc hP1 (hD1.weaken (fun k q hk z => hFo q.1 z))
  clear hP1 hD1 hk hz hw hFc hFo
  obtain ⟨H, eH⟩ : ∃ y, y = H1 := ⟨_, rfl⟩
  rw [← eH] at hP hS ⊢
  clear eH ht
  have hP : va_P D vwCl [(o, .inr (4, [.ref q1, .ref q2])), (q1, .inl (cI, 3, .inl (fun _ => 0))), (p0, .inr (2, [.int 0, .ref p0t, .ref p0b, .ref p0s, .int 0])), (p0t, .inl (cI, 4, .inl (fun _ => 0))), (p0b, .inl (cI, 4, .inl (fun _ => 0))), (p0s, .inl (cZ, 4, .inl (fun _ => 0))), (p1, .inr (2, [.int 1, .ref p1t, .ref p1b, .ref p1s, .int 0])), (p1t, .inl (cI, 4, .inl (fun _ => 0))), (p1b, .inl (cI, 4, .inl (fun _ => 0))), (p1s, .inl (cZ, 4, .inl (fun _ => 0))), (q2, .inr (0, [.int ((0 + 1) + 1), .ref q2aa, .int (nI ((0 + 1) + 1))])), (q2aa, .inl (cO, 10, .inr (.inr (.inr (.inr (va_up (va_up (fun _ => none) 0 (some p0)) ((0 + 1)) (some p1))))))), (p2, .inr (2, [.int 2, .ref p2t, .ref p2b, .ref p2s, .int 0])), (p2t, .inl (cI, 4, .inl (fun _ => 0))), (p2b, .inl (cI, 4, .inl (fun _ => 0))), (p2s, .inl (cZ, 4, .inl (fun _ => 0)))] H := hP
  have hD : va_D A [(o, .inr (4, [.ref q1, .ref q2])), (q1, .inl (cI, 3, .inl (fun _ => 0))), (p0, .inr (2, [.int 0, .ref p0t, .ref p0b, .ref p0s, .int 0])), (p0t, .inl (cI, 4, .inl (fun _ => 0))), (p0b, .inl (cI, 4, .inl (fun _ => 0))), (p0s, .inl (cZ, 4, .inl (fun _ => 0))), (p1, .inr (2, [.int 1, .ref p1t, .ref p1b, .ref p1s, .int 0])), (p1t, .inl (cI, 4, .inl (fun _ => 0))), (p1b, .inl (cI, 4, .inl (fun _ => 0))), (p1s, .inl (cZ, 4, .inl (fun _ => 0))), (q2, .inr (0, [.int ((0 + 1) + 1), .ref q2aa, .int (nI ((0 + 1) + 1))])), (q2aa, .inl (cO, 10, .inr (.inr (.inr (.inr (va_up (va_up (fun _ => none) 0 (some p0)) ((0 + 1)) (some p1))))))), (p2, .inr (2, [.int 2, .ref p2t, .ref p2b, .ref p2s, .int 0])), (p2t, .inl (cI, 4, .inl (fun _ => 0))), (p2b, .inl (cI, 4, .inl (fun _ => 0))), (p2s, .inl (cZ, 4, .inl (fun _ => 0)))] := hD
  refine W.widen (k := 16) (n := 137) (by decide) (by decide) ?_
  have hPc : va_P D vwCl (lW q2 q2aa (((0 + 1) + 1)) (nI (((0 + 1) + 1))) cO 10 (va_up (va_up (fun _ => none) 0 (some p0)) ((0 + 1)) (some p1))) H := hP.sub [10, 11] rfl
  have hDc : va_D (fun _ => True) (lW q2 q2aa (((0 + 1) + 1)) (nI (((0 + 1) + 1))) cO 10 (va_up (va_up (fun _ => none) 0 (some p0)) ((0 + 1)) (some p1))) := ((hD.sub (ws' := (lW q2 q2aa (((0 + 1) + 1)) (nI (((0 + 1) + 1))) cO 10 (va_up (va_up (fun _ => none) 0 (some p0)) ((0 + 1)) (some p1)))) [10, 11] (by decide) rfl)).weaken (fun _ _ _ _ => trivial)
  have hne : p2 ≠ q2 := fun z => absurd (hD.1 12 10 _ _ rfl rfl z) (by decide)
  have hne2 : p2 ≠ q2aa := fun z => absurd (hD.1 12 11 _ _ rfl rfl z) (by decide)
  have hcv := va_recv hK hP (ci := 2) (q0 := 12) rfl rfl
  have hrv := va_recv hK hP (ci := 0) (q0 := 10) rfl rfl
  have hFc := va_free (wc := [(q2, .inr (0, [.int ((0 + 1) + 1), .ref q2aa, .int (nI ((0 + 1) + 1))])), (q2aa, .inl (cO, 10, .inr (.inr (.inr (.inr (va_up (va_up (fun _ => none) 0 (some p0)) ((0 + 1)) (some p1)))))))]) hD hS hA [10, 11] rfl
  have hFo : ∀ q, (q = q2 ∨ q = q2aa ∨ H.size ≤ q) → va_A [(q2, .inr (0, [.int ((0 + 1) + 1), .ref q2aa, .int (nI ((0 + 1) + 1))])), (q2aa, .inl (cO, 10, .inr (.inr (.inr (.inr (va_up (va_up (fun _ => none) 0 (some p0)) ((0 + 1)) (some p1)))))))] H.size q := fun q z => z.elim (fun z => by rw [z]; exact Or.inl ⟨0, _, rfl⟩) (fun z => z.elim (fun z => by rw [z]; exact Or.inl ⟨1, _, rfl⟩) Or.inr)
  refine va_calli (va_runV (As := [.ref p2]) (rest := []) ⟨hx, hb, hml, hown, hts⟩ (lm_add1R l D "Panyard$Pan" cO q2 q2aa H.size (((0 + 1) + 1)) 10 (((0 + 1) + 1)) (va_up (va_up (fun _ => none) 0 (some p0)) ((0 + 1)) (some p1)) KK hKK p2 (by decide) (by decide)) (cwV 1 hts gX3_init_Jx4a65c_add_9ea2d rfl rfl rfl (by decide +kernel) ⟨Nat.le_of_ble_eq_true rfl, Nat.le_of_ble_eq_true rfl⟩) (⟨(fun a U g mk q => ⟨q.1, q.2.1, q.2.2.1, q.2.2.2.1, va_K.moved (u := U) (U := U.calling g mk a) (Vm.Alike.refl U.vm) q.2.2.2.2.1, ⟨castN (u := U) (U := U.calling g mk a) q.2.2.2.2.2.1.1 (Vm.Alike.refl U.vm), q.2.2.2.2.2.1.2⟩, hKK _ _ (Vm.Alike.refl U.vm) q.2.2.2.2.2.2⟩), hrv, fun U hU hW => ⟨rfl, by rw [hU], by rw [hU]; exact hPc, hDc, va_K.moved hW.alike (hK.sub [2] rfl), ⟨castN hcast hW.alike, hne, hne2, by rw [hU]; obtain ⟨cv, y1, y2, y3⟩ := hcv; exact ⟨cv, y1, y2, (Vm.Alike.findClass hW.alike _ _).trans y3⟩⟩, hKK _ _ hW.alike hkk⟩⟩) rfl rfl hl.1 rfl (lv_room (Nat.le_of_ble_eq_true rfl)) dX3_init_41 ⟨Nat.le_of_ble_eq_true rfl, Nat.le_of_ble_eq_true rfl⟩) hS (fun q _ h => hFc q (hFo q h)) (fun q h => hFc q (hFo q h)) (fun r9 u t H1 locs ht hvm hw hB hz hk hS => ?_)
  obtain ⟨q2aaa, eq9⟩ : ∃ y, y = u := ⟨_, rfl⟩
  rw [← eq9] at hB
  clear eq9
  obtain ⟨hP1, hD1, -⟩ := hB
  rw [ht] at hP1
  obtain ⟨hP, hD⟩ := va_join (wr := [(o, .inr (4, [.ref q1, .ref q2])), (q1, .inl (cI, 3, .inl (fun _ => 0))), (p0, .inr (2, [.int 0, .ref p0t, .ref p0b, .ref p0s, .int 0])), (p0t, .inl (cI, 4, .inl (fun _ => 0))), (p0b, .inl (cI, 4, .inl (fun _ => 0))), (p0s, .inl (cZ, 4, .inl (fun _ => 0))), (p1, .inr (2, [.int 1, .ref p1t, .ref p1b, .ref p1s, .int 0])), (p1t, .inl (cI, 4, .inl (fun _ => 0))), (p1b, .inl (cI, 4, .inl (fun _ => 0))), (p1s, .inl (cZ, 4, .inl (fun _ => 0))), (p2, .inr (2, [.int 2, .ref p2t, .ref p2b, .ref p2s, .int 0])), (p2t, .inl (cI, 4, .inl (fun _ => 0))), (p2b, .inl (cI, 4, .inl (fun _ => 0))), (p2s, .inl (cZ, 4, .inl (fun _ => 0)))]) (w1 := [(q2, .inr (0, [.int (((0 + 1) + 1) + 1), .ref q2aaa, .int (nI (((0 + 1) + 1) + 1))])), (q2aaa, .inl (cO, 10, .inr (.inr (.inr (.inr (va_up (va_up (va_up (fun _ => none) 0 (some p0)) ((0 + 1)) (some p1)) (((0 + 1) + 1)) (some p2)))))))]) hP hD [10, 11] [0, 1, 2, 3, 4, 5, 6, 7, 8, 9, 12, 13, 14, 15] rfl rfl (by decide) (by decide) (fun q h1 h2 => hk q h1 (fun z => h2 (hFo q z))) hFc hP1 (hD1.weaken (fun k q hk z => hFo q.1 z))
  clear hP1 hD1 hk hz hw hFc hFo
  obtain ⟨H, eH⟩ : ∃ y, y = H1 := ⟨_, rfl⟩
  rw [← eH] at hP hS ⊢
  clear eH ht
  have hP : va_P D vwCl [(o, .inr (4, [.ref q1, .ref q2])), (q1, .inl (cI, 3, .inl (fun _ => 0))), (p0, .inr (2, [.int 0, .ref p0t, .ref p0b, .ref p0s, .int 0])), (p0t, .inl (cI, 4, .inl (fun _ => 0))), (p0b, .inl (cI, 4, .inl (fun _ => 0))), (p0s, .inl (cZ, 4, .inl (fun _ => 0))), (p1, .inr (2, [.int 1, .ref p1t, .ref p1b, .ref p1s, .int 0])), (p1t, .inl (cI, 4, .inl (fun _ => 0))), (p1b, .inl (cI, 4, .inl (fun _ => 0))), (p1s, .inl (cZ, 4, .inl (fun _ => 0))), (p2, .inr (2, [.int 2, .ref p2t, .ref p2b, .ref p2s, .int 0])), (p2t, .inl (cI, 4, .inl (fun _ => 0))), (p2b, .inl (cI, 4, .inl (fun _ => 0))), (p2s, .inl (cZ, 4, .inl (fun _ => 0))), (q2, .inr (0, [.int (((0 + 1) + 1) + 1), .ref q2aaa, .int (nI (((0 + 1) + 1) + 1))])), (q2aaa, .inl (cO, 10, .inr (.inr (.inr (.inr (va_up (va_up (va_up (fun _ => none) 0 (some p0)) ((0 + 1)) (some p1)) (((0 + 1) + 1)) (some p2)))))))] H := hP
  have hD : va_D A [(o, .inr (4, [.ref q1, .ref q2])), (q1, .inl (cI, 3, .inl (fun _ => 0))), (p0, .inr (2, [.int 0, .ref p0t, .ref p0b, .ref p0s, .int 0])), (p0t, .inl (cI, 4, .inl (fun _ => 0))), (p0b, .inl (cI, 4, .inl (fun _ => 0))), (p0s, .inl (cZ, 4, .inl (fun _ => 0))), (p1, .inr (2, [.int 1, .ref p1t, .ref p1b, .ref p1s, .int 0])), (p1t, .inl (cI, 4, .inl (fun _ => 0))), (p1b, .inl (cI, 4, .inl (fun _ => 0))), (p1s, .inl (cZ, 4, .inl (fun _ => 0))), (p2, .inr (2, [.int 2, .ref p2t, .ref p2b, .ref p2s, .int 0])), (p2t, .inl (cI, 4, .inl (fun _ => 0))), (p2b, .inl (cI, 4, .inl (fun _ => 0))), (p2s, .inl (cZ, 4, .inl (fun _ => 0))), (q2, .inr (0, [.int (((0 + 1) + 1) + 1), .ref q2aaa, .int (nI (((0 + 1) + 1) + 1))])), (q2aaa, .inl (cO, 10, .inr (.inr (.inr (.inr (va_up (va_up (va_up (fun _ => none) 0 (some p0)) ((0 + 1)) (some p1)) (((0 + 1) + 1)) (some p2)))))))] := hD
  refine W.widen (k := 17) (n := 177) (by decide) (by decide) ?_
  refine lv_pop hx hb dX3_init_44 rfl ?_
  refine lv_iinc (v := 3) (lv' := [(1, .int 3), (0, .ref o)]) hx hb dX3_init_45 hl (k := 0) rfl (by decide) (by decide) rfl (fun ls hl => ?_)
  refine lv_goto (tgt := 24) hx hb dX3_init_48 (by decide) ?_
  refine lv_iload_n hx hb dX3_init_24 rfl (lv_at hl 0 rfl) ?_
  refine lv_iconst (v := 3) hx hb dX3_init_25 (by decide) ?_
  refine lv_icmp_ge (tgt := 51) hx hb dX3_init_26 (by decide) (fun _ => ?_) (fun hc => absurd (by decide) hc)
  exact W.vret hx hb hr (fun t ht hW => ⟨⟨(q1, p0, p0t, p0b, p0s, p1, p1t, p1b, p1s, p2, p2t, p2b, p2s, q2, q2aaa), rfl, trivial, by show va_P D vwCl _ t.heap; rw [ht]; exact hP, hD, hKK _ _ hW.alike hkk⟩, hS.F ht⟩) hS.2.2 dX3_init_51
