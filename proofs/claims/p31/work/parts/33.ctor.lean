set_option maxHeartbeats 4000000 in
set_option maxRecDepth 100000 in
theorem lm_Pan (l : Launch) (D : va_G) (cI cZ : ClassId) (o sz : Nat) (num : Int32) (KK : State → Prop) (hKK : ∀ u U : State, u.vm.Alike U.vm → KK u → KK U) : Met l yX1_init wsX1_init { frames := 2, cells := 3, slots := 12, locals := 60 } (va_Pc [.ref o, .int num] (fun U => U.heap.size = sz ∧ va_P D vwCl [(o, .inr (2, [.int 0, .null, .null, .null, .int 0]))] U.heap ∧ va_K D vwCl [(cI, .int), (cZ, .boolean)] U ∧ va_D (fun _ => True) [(o, .inr (2, [.int 0, .null, .null, .null, .int 0]))] ∧ KK U)) (va_Qv (fun _ : Nat × Nat × Nat => True) (fun u t => match u with | (q1, q2, q3) => va_P D vwCl [(o, .inr (2, [.int num, .ref q1, .ref q2, .ref q3, .int 0])), (q1, .inl (cI, 4, .inl (fun _ => 0))), (q2, .inl (cI, 4, .inl (fun _ => 0))), (q3, .inl (cZ, 4, .inl (fun _ => 0)))] t.heap ∧ va_D (fun x => x = o ∨ sz ≤ x) [(o, .inr (2, [.int num, .ref q1, .ref q2, .ref q3, .int 0])), (q1, .inl (cI, 4, .inl (fun _ => 0))), (q2, .inl (cI, 4, .inl (fun _ => 0))), (q3, .inl (cZ, 4, .inl (fun _ => 0)))] ∧ KK t) (fun x => x = o ∨ sz ≤ x)) 3 12 (fun x => x = o ∨ sz ≤ x) := by
  refine Met.ofW (cc := cX1_init) (maxL := 2) (ret := none) (by decide) rfl ?_
  intro p e s mm args below meth c s₁ B hml hv
  obtain ⟨rfl, hsz, hP, hK, hD0, hkk⟩ := hv
  have hin : meth.name = "<init>" := (name_of_methodNamed B.named B.method).1
  subst hsz
  have hx := B.exec
  have hb := B.bytes
  have hr := B.returns
  have hts := atoms_spec (ws := wsX1_init) B.pre
  have hown : s.vm.findClass RX1 = some mm.cls := findClass_of_methodNamed B.named
  have hlocks := B.notSynchronized
  have iwsX10 : ∀ w ∈ wsX10, w ∈ wsX1_init := fun w h => List.mem_cons_of_mem _ (List.mem_append_right _ h)
  have l0 := hts (.methodLink RX1 3 objectInit) (List.mem_of_getElem? (i := 1) rfl)
  have l1 := hts (.instanceMethod objectInit) (List.mem_of_getElem? (i := 2) rfl)
  have l2 := hts (.code objectInit ⟨#[0xb1]⟩ 1 none) (List.mem_of_getElem? (i := 3) rfl)
  have l3 := hts (.arrayClass .int) (List.mem_of_getElem? (i := 4) rfl)
  have l4 := hts (.fieldLink RX1 9 "Panyard$Pan" "tones" "[I") (List.mem_of_getElem? (i := 5) rfl)
  have l5 := hts (.fieldLink RX1 15 "Panyard$Pan" "blows" "[I") (List.mem_of_getElem? (i := 6) rfl)
  have l6 := hts (.arrayClass .boolean) (List.mem_of_getElem? (i := 7) rfl)
  have l7 := hts (.fieldLink RX1 18 "Panyard$Pan" "sunk" "[Z") (List.mem_of_getElem? (i := 8) rfl)
  have l8 := hts (.fieldLink RX1 22 "Panyard$Pan" "number" "I") (List.mem_of_getElem? (i := 9) rfl)
  have hD : va_D (fun x => x = o ∨ s.heap.size ≤ x) [(o, .inr (2, [.int 0, .null, .null, .null, .int 0]))] := hD0.weaken (fun k9 q hk9 _ => by
    match k9, hk9 with
    | 0, hk9 => cases hk9; exact Or.inl rfl
    | k9 + 1, hk9 => simp at hk9)
  generalize hAe : (fun x : Nat => x = o ∨ s.heap.size ≤ x) = A at hD ⊢
  have hA : ∀ q, s.heap.size ≤ q → A q := fun q h => by rw [← hAe]; exact Or.inr h
  have hS : va_S A s.heap s.heap [] := va_S.rf
  have hl := lv_entry ([.ref o, .int num]) (n := 2) (Nat.le_of_ble_eq_true rfl)
  rw [lg_entry_eq]
  generalize (lg_sl ([.ref o, .int num]) ++ List.replicate (2 - (lg_sl ([.ref o, .int num])).length) Slot.unset).toArray = ls at hl ⊢
  have hl : lv_has ls 2 [(0, .ref o), (1, .int num)] := hl
  refine lv_aload_n hx hb dX1_init_0 rfl (lv_at hl 0 rfl) ?_
  refine W.objInit hx hb hown l0 l1 l2 rfl (by rw [hml]; exact hl.1) rfl dX1_init_1 (Nat.le_of_ble_eq_true rfl) (Nat.le_of_ble_eq_true rfl) ?_
  refine W.eq (g2 := F0 mm 4 ls []) rfl ?_
  refine lv_aload_n hx hb dX1_init_4 rfl (lv_at hl 0 rfl) ?_
  refine lv_iconst (v := 4) hx hb dX1_init_5 (by decide) ?_
  refine va_newa (atype := .int) (N' := 4) (a0 := (4, .inl (fun _ => 0))) hx hb l3 rfl hK hP hD hS hA (fun _ => rfl) (by decide) (by decide) (by decide) (by show _ ≤ 3; omega) (by show _ ≤ 12; omega) dX1_init_6 (fun q1 cA H hK1 hP hD hS => ?_)
  have hcc : cA = cI := Option.some.inj ((hK1.2 2 _ rfl).2.symm.trans (hK.2 0 _ rfl).2)
  rw [hcc] at hP hD
  have hP : va_P D vwCl [(o, .inr (2, [.int 0, .null, .null, .null, .int 0])), (q1, .inl (cI, 4, .inl (fun _ => 0)))] H := hP
  have hD : va_D A [(o, .inr (2, [.int 0, .null, .null, .null, .int 0])), (q1, .inl (cI, 4, .inl (fun _ => 0)))] := hD
  refine va_putF (D := D) (cl := vwCl) (ci := 2) (v := .ref q1) (ty := (.array .int)) (C := RX1) (T := TX1) (N := 5) hx hb hts iwsX10 tyX1 tyX1_ok nmX1 hown hK hP hD hS 0 rfl rfl 1 (by decide) l4 (fun _ h => h) rfl hin rfl (by decide +kernel) rfl rfl (Nat.le_of_ble_eq_true rfl) dX1_init_8 (fun H locs hP hD hS => ?_)
  have hP : va_P D vwCl [(o, .inr (2, [.int 0, .ref q1, .null, .null, .int 0])), (q1, .inl (cI, 4, .inl (fun _ => 0)))] H := hP
  have hD : va_D A [(o, .inr (2, [.int 0, .ref q1, .null, .null, .int 0])), (q1, .inl (cI, 4, .inl (fun _ => 0)))] := hD
  refine lv_aload_n hx hb dX1_init_11 rfl (lv_at hl 0 rfl) ?_
  refine lv_iconst (v := 4) hx hb dX1_init_12 (by decide) ?_
  refine va_newa (atype := .int) (N' := 4) (a0 := (4, .inl (fun _ => 0))) hx hb l3 rfl hK hP hD hS hA (fun _ => rfl) (by decide) (by decide) (by decide) (by show _ ≤ 3; omega) (by show _ ≤ 12; omega) dX1_init_13 (fun q2 cA H hK2 hP hD hS => ?_)
  have hcc : cA = cI := Option.some.inj ((hK2.2 2 _ rfl).2.symm.trans (hK.2 0 _ rfl).2)
  rw [hcc] at hP hD
  have hP : va_P D vwCl [(o, .inr (2, [.int 0, .ref q1, .null, .null, .int 0])), (q1, .inl (cI, 4, .inl (fun _ => 0))), (q2, .inl (cI, 4, .inl (fun _ => 0)))] H := hP
  have hD : va_D A [(o, .inr (2, [.int 0, .ref q1, .null, .null, .int 0])), (q1, .inl (cI, 4, .inl (fun _ => 0))), (q2, .inl (cI, 4, .inl (fun _ => 0)))] := hD
  refine va_putF (D := D) (cl := vwCl) (ci := 2) (v := .ref q2) (ty := (.array .int)) (C := RX1) (T := TX1) (N := 5) hx hb hts iwsX10 tyX1 tyX1_ok nmX1 hown hK hP hD hS 0 rfl rfl 2 (by decide) l5 (fun _ h => h) rfl hin rfl (by decide +kernel) rfl rfl (Nat.le_of_ble_eq_true rfl) dX1_init_15 (fun H locs hP hD hS => ?_)
  have hP : va_P D vwCl [(o, .inr (2, [.int 0, .ref q1, .ref q2, .null, .int 0])), (q1, .inl (cI, 4, .inl (fun _ => 0))), (q2, .inl (cI, 4, .inl (fun _ => 0)))] H := hP
  have hD : va_D A [(o, .inr (2, [.int 0, .ref q1, .ref q2, .null, .int 0])), (q1, .inl (cI, 4, .inl (fun _ => 0))), (q2, .inl (cI, 4, .inl (fun _ => 0)))] := hD
  refine lv_aload_n hx hb dX1_init_18 rfl (lv_at hl 0 rfl) ?_
  refine lv_iconst (v := 4) hx hb dX1_init_19 (by decide) ?_
  refine va_newa (atype := .boolean) (N' := 4) (a0 := (4, .inl (fun _ => 0))) hx hb l6 rfl hK hP hD hS hA (fun _ => rfl) (by decide) (by decide) (by decide) (by show _ ≤ 3; omega) (by show _ ≤ 12; omega) dX1_init_20 (fun q3 cA H hK3 hP hD hS => ?_)
  have hcc : cA = cZ := Option.some.inj ((hK3.2 2 _ rfl).2.symm.trans (hK.2 1 _ rfl).2)
  rw [hcc] at hP hD
  have hP : va_P D vwCl [(o, .inr (2, [.int 0, .ref q1, .ref q2, .null, .int 0])), (q1, .inl (cI, 4, .inl (fun _ => 0))), (q2, .inl (cI, 4, .inl (fun _ => 0))), (q3, .inl (cZ, 4, .inl (fun _ => 0)))] H := hP
  have hD : va_D A [(o, .inr (2, [.int 0, .ref q1, .ref q2, .null, .int 0])), (q1, .inl (cI, 4, .inl (fun _ => 0))), (q2, .inl (cI, 4, .inl (fun _ => 0))), (q3, .inl (cZ, 4, .inl (fun _ => 0)))] := hD
  refine va_putF (D := D) (cl := vwCl) (ci := 2) (v := .ref q3) (ty := (.array .boolean)) (C := RX1) (T := TX1) (N := 5) hx hb hts iwsX10 tyX1 tyX1_ok nmX1 hown hK hP hD hS 0 rfl rfl 3 (by decide) l7 (fun _ h => h) rfl hin rfl (by decide +kernel) rfl rfl (Nat.le_of_ble_eq_true rfl) dX1_init_22 (fun H locs hP hD hS => ?_)
  have hP : va_P D vwCl [(o, .inr (2, [.int 0, .ref q1, .ref q2, .ref q3, .int 0])), (q1, .inl (cI, 4, .inl (fun _ => 0))), (q2, .inl (cI, 4, .inl (fun _ => 0))), (q3, .inl (cZ, 4, .inl (fun _ => 0)))] H := hP
  have hD : va_D A [(o, .inr (2, [.int 0, .ref q1, .ref q2, .ref q3, .int 0])), (q1, .inl (cI, 4, .inl (fun _ => 0))), (q2, .inl (cI, 4, .inl (fun _ => 0))), (q3, .inl (cZ, 4, .inl (fun _ => 0)))] := hD
  refine lv_aload_n hx hb dX1_init_25 rfl (lv_at hl 0 rfl) ?_
  refine lv_iload_n hx hb dX1_init_26 rfl (lv_at hl 1 rfl) ?_
  refine va_putF (D := D) (cl := vwCl) (ci := 2) (v := .int num) (ty := .int) (C := RX1) (T := TX1) (N := 5) hx hb hts iwsX10 tyX1 tyX1_ok nmX1 hown hK hP hD hS 0 rfl rfl 0 (by decide) l8 (fun _ h => h) rfl hin rfl (by decide +kernel) rfl rfl (Nat.le_of_ble_eq_true rfl) dX1_init_27 (fun H locs hP hD hS => ?_)
  have hP : va_P D vwCl [(o, .inr (2, [.int num, .ref q1, .ref q2, .ref q3, .int 0])), (q1, .inl (cI, 4, .inl (fun _ => 0))), (q2, .inl (cI, 4, .inl (fun _ => 0))), (q3, .inl (cZ, 4, .inl (fun _ => 0)))] H := hP
  have hD : va_D A [(o, .inr (2, [.int num, .ref q1, .ref q2, .ref q3, .int 0])), (q1, .inl (cI, 4, .inl (fun _ => 0))), (q2, .inl (cI, 4, .inl (fun _ => 0))), (q3, .inl (cZ, 4, .inl (fun _ => 0)))] := hD
  refine W.widen (k := 3) (n := 12) (by omega) (by omega) ?_
  exact W.vret hx hb hr (fun t ht hW => ⟨⟨(q1, q2, q3), rfl, trivial, by show va_P D vwCl _ t.heap; rw [ht]; exact hP, hD, hKK _ _ hW.alike hkk⟩, hS.F ht⟩) hS.2.2 dX1_init_30
set_option maxHeartbeats 4000000 in
set_option maxRecDepth 100000 in
theorem lm_Player (l : Launch) (D : va_G) (cI cZ : ClassId) (o sz : Nat) (num lay : Int32) (KK : State → Prop) (hKK : ∀ u U : State, u.vm.Alike U.vm → KK u → KK U) : Met l yX4_init wsX4_init { frames := 2, cells := 0, slots := 0, locals := 60 } (va_Pc [.ref o, .int num, .int lay] (fun U => U.heap.size = sz ∧ va_P D vwCl [(o, .inr (5, [.int 0, .int 0, .null, .int 0, .int 0, .int 0]))] U.heap ∧ va_K D vwCl [(cI, .int), (cZ, .boolean)] U ∧ va_D (fun _ => True) [(o, .inr (5, [.int 0, .int 0, .null, .int 0, .int 0, .int 0]))] ∧ KK U)) (va_Qv (fun _ : Unit => True) (fun u t => match u with | _ => va_P D vwCl [(o, .inr (5, [.int num, .int lay, .null, .int 0, .int (-1), .int 0]))] t.heap ∧ va_D (fun x => x = o ∨ sz ≤ x) [(o, .inr (5, [.int num, .int lay, .null, .int 0, .int (-1), .int 0]))] ∧ KK t) (fun x => x = o ∨ sz ≤ x)) 0 0 (fun x => x = o ∨ sz ≤ x) := by
  refine Met.ofW (cc := cX4_init) (maxL := 3) (ret := none) (by decide) rfl ?_
  intro p e s mm args below meth c s₁ B hml hv
  obtain ⟨rfl, hsz, hP, hK, hD0, hkk⟩ := hv
  have hin : meth.name = "<init>" := (name_of_methodNamed B.named B.method).1
  subst hsz
  have hx := B.exec
  have hb := B.bytes
  have hr := B.returns
  have hts := atoms_spec (ws := wsX4_init) B.pre
  have hown : s.vm.findClass RX4 = some mm.cls := findClass_of_methodNamed B.named
  have hlocks := B.notSynchronized
  have iwsX40 : ∀ w ∈ wsX40, w ∈ wsX4_init := fun w h => List.mem_cons_of_mem _ (List.mem_append_right _ h)
  have l0 := hts (.methodLink RX4 3 objectInit) (List.mem_of_getElem? (i := 1) rfl)
  have l1 := hts (.instanceMethod objectInit) (List.mem_of_getElem? (i := 2) rfl)
  have l2 := hts (.code objectInit ⟨#[0xb1]⟩ 1 none) (List.mem_of_getElem? (i := 3) rfl)
  have l3 := hts (.fieldLink RX4 9 "Panyard$Player" "leftBand" "I") (List.mem_of_getElem? (i := 4) rfl)
  have l4 := hts (.fieldLink RX4 15 "Panyard$Player" "number" "I") (List.mem_of_getElem? (i := 5) rfl)
  have l5 := hts (.fieldLink RX4 18 "Panyard$Player" "layout" "I") (List.mem_of_getElem? (i := 6) rfl)
  have hD : va_D (fun x => x = o ∨ s.heap.size ≤ x) [(o, .inr (5, [.int 0, .int 0, .null, .int 0, .int 0, .int 0]))] := hD0.weaken (fun k9 q hk9 _ => by
    match k9, hk9 with
    | 0, hk9 => cases hk9; exact Or.inl rfl
    | k9 + 1, hk9 => simp at hk9)
  generalize hAe : (fun x : Nat => x = o ∨ s.heap.size ≤ x) = A at hD ⊢
  have hA : ∀ q, s.heap.size ≤ q → A q := fun q h => by rw [← hAe]; exact Or.inr h
  have hS : va_S A s.heap s.heap [] := va_S.rf
  have hl := lv_entry ([.ref o, .int num, .int lay]) (n := 3) (Nat.le_of_ble_eq_true rfl)
  rw [lg_entry_eq]
  generalize (lg_sl ([.ref o, .int num, .int lay]) ++ List.replicate (3 - (lg_sl ([.ref o, .int num, .int lay])).length) Slot.unset).toArray = ls at hl ⊢
  have hl : lv_has ls 3 [(0, .ref o), (1, .int num), (2, .int lay)] := hl
  refine lv_aload_n hx hb dX4_init_0 rfl (lv_at hl 0 rfl) ?_
  refine W.objInit hx hb hown l0 l1 l2 rfl (by rw [hml]; exact hl.1) rfl dX4_init_1 (Nat.le_of_ble_eq_true rfl) (Nat.le_of_ble_eq_true rfl) ?_
  refine W.eq (g2 := F0 mm 4 ls []) rfl ?_
  refine lv_aload_n hx hb dX4_init_4 rfl (lv_at hl 0 rfl) ?_
  refine lv_iconst (v := (-1)) hx hb dX4_init_5 (by decide) ?_
  refine va_put (D := D) (cl := vwCl) (ci := 5) (v := .int (-1)) (ty := .int) (C := RX4) (T := TX4) (N := 6) hx hb hts iwsX40 tyX4 tyX4_ok nmX4 hown hK hP hD hS 0 rfl rfl 4 (by decide) l3 (fun _ h => h) rfl (by decide +kernel) rfl rfl (Nat.le_of_ble_eq_true rfl) dX4_init_6 (fun H locs hP hD hS => ?_)
  have hP : va_P D vwCl [(o, .inr (5, [.int 0, .int 0, .null, .int 0, .int (-1), .int 0]))] H := hP
  have hD : va_D A [(o, .inr (5, [.int 0, .int 0, .null, .int 0, .int (-1), .int 0]))] := hD
  refine lv_aload_n hx hb dX4_init_9 rfl (lv_at hl 0 rfl) ?_
  refine lv_iload_n hx hb dX4_init_10 rfl (lv_at hl 1 rfl) ?_
  refine va_putF (D := D) (cl := vwCl) (ci := 5) (v := .int num) (ty := .int) (C := RX4) (T := TX4) (N := 6) hx hb hts iwsX40 tyX4 tyX4_ok nmX4 hown hK hP hD hS 0 rfl rfl 0 (by decide) l4 (fun _ h => h) rfl hin rfl (by decide +kernel) rfl rfl (Nat.le_of_ble_eq_true rfl) dX4_init_11 (fun H locs hP hD hS => ?_)
  have hP : va_P D vwCl [(o, .inr (5, [.int num, .int 0, .null, .int 0, .int (-1), .int 0]))] H := hP
  have hD : va_D A [(o, .inr (5, [.int num, .int 0, .null, .int 0, .int (-1), .int 0]))] := hD
  refine lv_aload_n hx hb dX4_init_14 rfl (lv_at hl 0 rfl) ?_
  refine lv_iload_n hx hb dX4_init_15 rfl (lv_at hl 2 rfl) ?_
  refine va_putF (D := D) (cl := vwCl) (ci := 5) (v := .int lay) (ty := .int) (C := RX4) (T := TX4) (N := 6) hx hb hts iwsX40 tyX4 tyX4_ok nmX4 hown hK hP hD hS 0 rfl rfl 1 (by decide) l5 (fun _ h => h) rfl hin rfl (by decide +kernel) rfl rfl (Nat.le_of_ble_eq_true rfl) dX4_init_16 (fun H locs hP hD hS => ?_)
  have hP : va_P D vwCl [(o, .inr (5, [.int num, .int lay, .null, .int 0, .int (-1), .int 0]))] H := hP
  have hD : va_D A [(o, .inr (5, [.int num, .int lay, .null, .int 0, .int (-1), .int 0]))] := hD
  refine W.widen (k := 0) (n := 0) (by omega) (by omega) ?_
  exact W.vret hx hb hr (fun t ht hW => ⟨⟨(), rfl, trivial, by show va_P D vwCl _ t.heap; rw [ht]; exact hP, hD, hKK _ _ hW.alike hkk⟩, hS.F ht⟩) hS.2.2 dX4_init_19
set_option maxHeartbeats 4000000 in
set_option maxRecDepth 100000 in
theorem lm_Seat (l : Launch) (D : va_G) (cI cZ : ClassId) (o sz : Nat) (pl : Nat) (KK : State → Prop) (hKK : ∀ u U : State, u.vm.Alike U.vm → KK u → KK U) : Met l yX5_init wsX5_init { frames := 2, cells := 1, slots := 6, locals := 60 } (va_Pc [.ref o, .ref pl] (fun U => U.heap.size = sz ∧ va_P D vwCl [(o, .inr (6, [.null, .null]))] U.heap ∧ va_K D vwCl [(cI, .int), (cZ, .boolean)] U ∧ va_D (fun _ => True) [(o, .inr (6, [.null, .null]))] ∧ KK U)) (va_Qv (fun _ : Nat => True) (fun u t => match u with | q1 => va_P D vwCl [(o, .inr (6, [.ref pl, .ref q1])), (q1, .inl (cI, 6, .inl (fun _ => 0)))] t.heap ∧ va_D (fun x => x = o ∨ sz ≤ x) [(o, .inr (6, [.ref pl, .ref q1])), (q1, .inl (cI, 6, .inl (fun _ => 0)))] ∧ KK t) (fun x => x = o ∨ sz ≤ x)) 1 6 (fun x => x = o ∨ sz ≤ x) := by
  refine Met.ofW (cc := cX5_init) (maxL := 2) (ret := none) (by decide) rfl ?_
  intro p e s mm args below meth c s₁ B hml hv
  obtain ⟨rfl, hsz, hP, hK, hD0, hkk⟩ := hv
  have hin : meth.name = "<init>" := (name_of_methodNamed B.named B.method).1
  subst hsz
  have hx := B.exec
  have hb := B.bytes
  have hr := B.returns
  have hts := atoms_spec (ws := wsX5_init) B.pre
  have hown : s.vm.findClass RX5 = some mm.cls := findClass_of_methodNamed B.named
  have hlocks := B.notSynchronized
  have iwsX50 : ∀ w ∈ wsX50, w ∈ wsX5_init := fun w h => List.mem_cons_of_mem _ (List.mem_append_right _ h)
  have l0 := hts (.methodLink RX5 3 objectInit) (List.mem_of_getElem? (i := 1) rfl)
  have l1 := hts (.instanceMethod objectInit) (List.mem_of_getElem? (i := 2) rfl)
  have l2 := hts (.code objectInit ⟨#[0xb1]⟩ 1 none) (List.mem_of_getElem? (i := 3) rfl)
  have l3 := hts (.arrayClass .int) (List.mem_of_getElem? (i := 4) rfl)
  have l4 := hts (.fieldLink RX5 9 "Panyard$Seat" "known" "[I") (List.mem_of_getElem? (i := 5) rfl)
  have l5 := hts (.fieldLink RX5 15 "Panyard$Seat" "player" "LPanyard$Player;") (List.mem_of_getElem? (i := 6) rfl)
  have hD : va_D (fun x => x = o ∨ s.heap.size ≤ x) [(o, .inr (6, [.null, .null]))] := hD0.weaken (fun k9 q hk9 _ => by
    match k9, hk9 with
    | 0, hk9 => cases hk9; exact Or.inl rfl
    | k9 + 1, hk9 => simp at hk9)
  generalize hAe : (fun x : Nat => x = o ∨ s.heap.size ≤ x) = A at hD ⊢
  have hA : ∀ q, s.heap.size ≤ q → A q := fun q h => by rw [← hAe]; exact Or.inr h
  have hS : va_S A s.heap s.heap [] := va_S.rf
  have hl := lv_entry ([.ref o, .ref pl]) (n := 2) (Nat.le_of_ble_eq_true rfl)
  rw [lg_entry_eq]
  generalize (lg_sl ([.ref o, .ref pl]) ++ List.replicate (2 - (lg_sl ([.ref o, .ref pl])).length) Slot.unset).toArray = ls at hl ⊢
  have hl : lv_has ls 2 [(0, .ref o), (1, .ref pl)] := hl
  refine lv_aload_n hx hb dX5_init_0 rfl (lv_at hl 0 rfl) ?_
  refine W.objInit hx hb hown l0 l1 l2 rfl (by rw [hml]; exact hl.1) rfl dX5_init_1 (Nat.le_of_ble_eq_true rfl) (Nat.le_of_ble_eq_true rfl) ?_
  refine W.eq (g2 := F0 mm 4 ls []) rfl ?_
  refine lv_aload_n hx hb dX5_init_4 rfl (lv_at hl 0 rfl) ?_
  refine lv_bipush (v := 6) hx hb dX5_init_5 (by decide) ?_
  refine va_newa (atype := .int) (N' := 6) (a0 := (6, .inl (fun _ => 0))) hx hb l3 rfl hK hP hD hS hA (fun _ => rfl) (by decide) (by decide) (by decide) (by show _ ≤ 1; omega) (by show _ ≤ 6; omega) dX5_init_7 (fun q1 cA H hK1 hP hD hS => ?_)
  have hcc : cA = cI := Option.some.inj ((hK1.2 2 _ rfl).2.symm.trans (hK.2 0 _ rfl).2)
  rw [hcc] at hP hD
  have hP : va_P D vwCl [(o, .inr (6, [.null, .null])), (q1, .inl (cI, 6, .inl (fun _ => 0)))] H := hP
  have hD : va_D A [(o, .inr (6, [.null, .null])), (q1, .inl (cI, 6, .inl (fun _ => 0)))] := hD
  refine va_putF (D := D) (cl := vwCl) (ci := 6) (v := .ref q1) (ty := (.array .int)) (C := RX5) (T := TX5) (N := 2) hx hb hts iwsX50 tyX5 tyX5_ok nmX5 hown hK hP hD hS 0 rfl rfl 1 (by decide) l4 (fun _ h => h) rfl hin rfl (by decide +kernel) rfl rfl (Nat.le_of_ble_eq_true rfl) dX5_init_9 (fun H locs hP hD hS => ?_)
  have hP : va_P D vwCl [(o, .inr (6, [.null, .ref q1])), (q1, .inl (cI, 6, .inl (fun _ => 0)))] H := hP
  have hD : va_D A [(o, .inr (6, [.null, .ref q1])), (q1, .inl (cI, 6, .inl (fun _ => 0)))] := hD
  refine lv_aload_n hx hb dX5_init_12 rfl (lv_at hl 0 rfl) ?_
  refine lv_aload_n hx hb dX5_init_13 rfl (lv_at hl 1 rfl) ?_
  refine va_putF (D := D) (cl := vwCl) (ci := 6) (v := .ref pl) (ty := (.object "Panyard$Player")) (C := RX5) (T := TX5) (N := 2) hx hb hts iwsX50 tyX5 tyX5_ok nmX5 hown hK hP hD hS 0 rfl rfl 0 (by decide) l5 (fun _ h => h) rfl hin rfl (by decide +kernel) rfl rfl (Nat.le_of_ble_eq_true rfl) dX5_init_14 (fun H locs hP hD hS => ?_)
  have hP : va_P D vwCl [(o, .inr (6, [.ref pl, .ref q1])), (q1, .inl (cI, 6, .inl (fun _ => 0)))] H := hP
  have hD : va_D A [(o, .inr (6, [.ref pl, .ref q1])), (q1, .inl (cI, 6, .inl (fun _ => 0)))] := hD
  refine W.widen (k := 1) (n := 6) (by omega) (by omega) ?_
  exact W.vret hx hb hr (fun t ht hW => ⟨⟨q1, rfl, trivial, by show va_P D vwCl _ t.heap; rw [ht]; exact hP, hD, hKK _ _ hW.alike hkk⟩, hS.F ht⟩) hS.2.2 dX5_init_17
