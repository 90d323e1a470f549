theorem pl_rows {r : Nat → Nat} {f : Nat → va_E} {e : va_E} : va_pl ([] ++ (List.range 6).map r) (vr_up f ((List.range 6).map r) e) = [(r 0, e), (r 1, e), (r 2, e), (r 3, e), (r 4, e), (r 5, e)] := by
  have h : ∀ i, i < 6 → vr_up f ((List.range 6).map r) e (r i) = e := fun i hi => if_pos (List.mem_map.mpr ⟨i, List.mem_range.mpr hi, rfl⟩)
  show [(r 0, vr_up f ((List.range 6).map r) e (r 0)), (r 1, vr_up f ((List.range 6).map r) e (r 1)), (r 2, vr_up f ((List.range 6).map r) e (r 2)), (r 3, vr_up f ((List.range 6).map r) e (r 3)), (r 4, vr_up f ((List.range 6).map r) e (r 4)), (r 5, vr_up f ((List.range 6).map r) e (r 5))] = _
  rw [h 0 (by omega), h 1 (by omega), h 2 (by omega), h 3 (by omega), h 4 (by omega), h 5 (by omega)]
set_option maxHeartbeats 8000000 in
set_option maxRecDepth 100000 in
theorem lm_Parts (l : Launch) (D : va_G) (cI cA2 : ClassId) (o sz : Nat)  (KK : State → Prop) (hKK : ∀ u U : State, u.vm.Alike U.vm → KK u → KK U) : Met l yX2_init wsX2_init { frames := 2, cells := 8, slots := 60, locals := 180 } (va_Pc [.ref o] (fun U => U.heap.size = sz ∧ va_P D vwCl [(o, .inr (3, [.null, .null]))] U.heap ∧ va_K D vwCl [(cI, .int), (cA2, .array .int)] U ∧ va_D (fun _ => True) [(o, .inr (3, [.null, .null]))] ∧ va_AOA .int U ∧ KK U)) (va_Qv (fun _ : Nat × Nat × (Nat → Nat) => True) (fun u t => match u with | (q1, q2, r) => va_P D vwCl [(o, .inr (3, [.ref q1, .ref q2])), (q1, .inl (cI, 6, .inl (fun _ => 0))), (q2, .inl (cA2, 6, .inr (.inr (.inr (.inr (fun i => if i < 6 then some (r i) else none)))))), (r 0, .inl (cI, 8, .inl (fun _ => 0))), (r 1, .inl (cI, 8, .inl (fun _ => 0))), (r 2, .inl (cI, 8, .inl (fun _ => 0))), (r 3, .inl (cI, 8, .inl (fun _ => 0))), (r 4, .inl (cI, 8, .inl (fun _ => 0))), (r 5, .inl (cI, 8, .inl (fun _ => 0)))] t.heap ∧ va_D (fun x => x = o ∨ sz ≤ x) [(o, .inr (3, [.ref q1, .ref q2])), (q1, .inl (cI, 6, .inl (fun _ => 0))), (q2, .inl (cA2, 6, .inr (.inr (.inr (.inr (fun i => if i < 6 then some (r i) else none)))))), (r 0, .inl (cI, 8, .inl (fun _ => 0))), (r 1, .inl (cI, 8, .inl (fun _ => 0))), (r 2, .inl (cI, 8, .inl (fun _ => 0))), (r 3, .inl (cI, 8, .inl (fun _ => 0))), (r 4, .inl (cI, 8, .inl (fun _ => 0))), (r 5, .inl (cI, 8, .inl (fun _ => 0)))] ∧ KK t) (fun x => x = o ∨ sz ≤ x)) 8 60 (fun x => x = o ∨ sz ≤ x) := by
  refine Met.ofW (cc := cX2_init) (maxL := 1) (ret := none) (by decide) rfl ?_
  intro p e s mm args below meth c s₁ B hml hv
  obtain ⟨rfl, hsz, hP, hK, hD0, hAOA, hkk⟩ := hv
  have hin : meth.name = "<init>" := (name_of_methodNamed B.named B.method).1
  subst hsz
  have hx := B.exec
  have hb := B.bytes
  have hr := B.returns
  have hts := atoms_spec (ws := wsX2_init) B.pre
  have hown : s.vm.findClass RX2 = some mm.cls := findClass_of_methodNamed B.named
  have hlocks := B.notSynchronized
  have iwsX20 : ∀ w ∈ wsX20, w ∈ wsX2_init := fun w h => List.mem_cons_of_mem _ (List.mem_append_right _ h)
  have l0 := hts (.methodLink RX2 3 objectInit) (List.mem_of_getElem? (i := 1) rfl)
  have l1 := hts (.instanceMethod objectInit) (List.mem_of_getElem? (i := 2) rfl)
  have l2 := hts (.code objectInit ⟨#[0xb1]⟩ 1 none) (List.mem_of_getElem? (i := 3) rfl)
  have l3 := hts (.arrayClass .int) (List.mem_of_getElem? (i := 4) rfl)
  have l4 := hts (.fieldLink RX2 9 "Panyard$Parts" "playing" "[I") (List.mem_of_getElem? (i := 5) rfl)
  have l5 := hts (.classLink RX2 15 "[[I") (List.mem_of_getElem? (i := 6) rfl)
  have l6 := hts (.fieldLink RX2 17 "Panyard$Parts" "fewest" "[[I") (List.mem_of_getElem? (i := 7) rfl)
  have hD : va_D (fun x => x = o ∨ s.heap.size ≤ x) [(o, .inr (3, [.null, .null]))] := hD0.weaken (fun k9 q hk9 _ => by
    match k9, hk9 with
    | 0, hk9 => cases hk9; exact Or.inl rfl
    | k9 + 1, hk9 => simp at hk9)
  have hA : ∀ q, s.heap.size ≤ q → (fun x : Nat => x = o ∨ s.heap.size ≤ x) q := fun q h => Or.inr h
  generalize hAe : (fun x : Nat => x = o ∨ s.heap.size ≤ x) = A at *
  have hS : va_S A s.heap s.heap [] := va_S.rf
  generalize eH0 : s.heap = H at hP hS
  have hS : va_S A s.heap H [] := by rw [eH0]; exact hS
  clear eH0
  have hl := lv_entry ([.ref o]) (n := 1) (Nat.le_of_ble_eq_true rfl)
  rw [lg_entry_eq]
  generalize (lg_sl ([.ref o]) ++ List.replicate (1 - (lg_sl ([.ref o])).length) Slot.unset).toArray = ls at hl ⊢
  have hl : lv_has ls 1 [(0, .ref o)] := hl
  refine lv_aload_n hx hb dX2_init_0 rfl (lv_at hl 0 rfl) ?_
  refine W.objInit hx hb hown l0 l1 l2 rfl (by rw [hml]; exact hl.1) rfl dX2_init_1 (Nat.le_of_ble_eq_true rfl) (Nat.le_of_ble_eq_true rfl) ?_
  refine W.eq (g2 := F0 mm 4 ls []) rfl ?_
  refine lv_aload_n hx hb dX2_init_4 rfl (lv_at hl 0 rfl) ?_
  refine lv_bipush (v := 6) hx hb dX2_init_5 (by decide) ?_
  refine va_newa (atype := .int) (N' := 6) (a0 := (6, .inl (fun _ => 0))) hx hb l3 rfl hK hP hD hS hA (fun _ => rfl) (by decide) (by decide) (by decide) (Nat.le_of_ble_eq_true rfl) (Nat.le_of_ble_eq_true rfl) dX2_init_7 (fun q1 cA H hK9 hP hD hS => ?_)
  have hcc : cA = cI := Option.some.inj ((hK9.2 2 _ rfl).2.symm.trans (hK.2 0 _ rfl).2)
  rw [hcc] at hP hD
  clear hcc hK9
  have hP : va_P D vwCl [(o, .inr (3, [.null, .null])), (q1, .inl (cI, 6, .inl (fun _ => 0)))] H := hP
  have hD : va_D A [(o, .inr (3, [.null, .null])), (q1, .inl (cI, 6, .inl (fun _ => 0)))] := hD
  refine W.widen (k := 1) (n := 6) (by decide) (by decide) ?_
  refine va_putF (D := D) (cl := vwCl) (ci := 3) (v := .ref q1) (ty := (.array .int)) (C := RX2) (T := TX2) (N := 2) hx hb hts iwsX20 tyX2 tyX2_ok nmX2 hown hK hP hD hS 0 rfl rfl 0 (by decide) l4 (fun _ h => h) rfl hin rfl (by decide +kernel) rfl rfl (Nat.le_of_ble_eq_true rfl) dX2_init_9 (fun H locs hP hD hS => ?_)
  have hP : va_P D vwCl [(o, .inr (3, [.ref q1, .null])), (q1, .inl (cI, 6, .inl (fun _ => 0)))] H := hP
  have hD : va_D A [(o, .inr (3, [.ref q1, .null])), (q1, .inl (cI, 6, .inl (fun _ => 0)))] := hD
  refine lv_aload_n hx hb dX2_init_12 rfl (lv_at hl 0 rfl) ?_
  refine lv_bipush (v := 6) hx hb dX2_init_13 (by decide) ?_
  refine lv_bipush (v := 8) hx hb dX2_init_15 (by decide) ?_
  refine va_mna (X := [(o, .inr (3, [.ref q1, .null])), (q1, .inl (cI, 6, .inl (fun _ => 0)))]) (L := []) (f := fun _ => .inr (0, [])) (ty := .int) (N' := 6) (K' := 8) (z := (8, .inl (fun _ => 0))) hx hb hown l5 hAOA l3 (hK.2 0 _ rfl).2 hK (by exact hP) (by exact hD) hS hA (by decide) (by decide) (by decide) (by decide) (by decide) (by decide) (by decide) (by decide) (by decide) (Nat.le_of_ble_eq_true rfl) (Nat.le_of_ble_eq_true rfl) (fun _ => rfl) dX2_init_17 (fun q2 r cA H hr0 hr1 hK9 hP hD hS => ?_)
  have hcc : cA = cA2 := Option.some.inj ((hK9.2 2 _ rfl).2.symm.trans (hK.2 1 _ rfl).2)
  rw [hcc, pl_rows] at hP hD
  clear hcc hK9
  have hP : va_P D vwCl [(o, .inr (3, [.ref q1, .null])), (q1, .inl (cI, 6, .inl (fun _ => 0))), (q2, .inl (cA2, 6, .inr (.inr (.inr (.inr (fun i => if i < 6 then some (r i) else none)))))), (r 0, .inl (cI, 8, .inl (fun _ => 0))), (r 1, .inl (cI, 8, .inl (fun _ => 0))), (r 2, .inl (cI, 8, .inl (fun _ => 0))), (r 3, .inl (cI, 8, .inl (fun _ => 0))), (r 4, .inl (cI, 8, .inl (fun _ => 0))), (r 5, .inl (cI, 8, .inl (fun _ => 0)))] H := hP
  have hD : va_D A [(o, .inr (3, [.ref q1, .null])), (q1, .inl (cI, 6, .inl (fun _ => 0))), (q2, .inl (cA2, 6, .inr (.inr (.inr (.inr (fun i => if i < 6 then some (r i) else none)))))), (r 0, .inl (cI, 8, .inl (fun _ => 0))), (r 1, .inl (cI, 8, .inl (fun _ => 0))), (r 2, .inl (cI, 8, .inl (fun _ => 0))), (r 3, .inl (cI, 8, .inl (fun _ => 0))), (r 4, .inl (cI, 8, .inl (fun _ => 0))), (r 5, .inl (cI, 8, .inl (fun _ => 0)))] := hD
  refine W.widen (k := 8) (n := 60) (by decide) (by decide) ?_
  refine va_putF (D := D) (cl := vwCl) (ci := 3) (v := .ref q2) (ty := (.array (.array .int))) (C := RX2) (T := TX2) (N := 2) hx hb hts iwsX20 tyX2 tyX2_ok nmX2 hown hK hP hD hS 0 rfl rfl 1 (by decide) l6 (fun _ h => h) rfl hin rfl (by decide +kernel) rfl rfl (Nat.le_of_ble_eq_true rfl) dX2_init_21 (fun H locs hP hD hS => ?_)
  have hP : va_P D vwCl [(o, .inr (3, [.ref q1, .ref q2])), (q1, .inl (cI, 6, .inl (fun _ => 0))), (q2, .inl (cA2, 6, .inr (.inr (.inr (.inr (fun i => if i < 6 then some (r i) else none)))))), (r 0, .inl (cI, 8, .inl (fun _ => 0))), (r 1, .inl (cI, 8, .inl (fun _ => 0))), (r 2, .inl (cI, 8, .inl (fun _ => 0))), (r 3, .inl (cI, 8, .inl (fun _ => 0))), (r 4, .inl (cI, 8, .inl (fun _ => 0))), (r 5, .inl (cI, 8, .inl (fun _ => 0)))] H := hP
  have hD : va_D A [(o, .inr (3, [.ref q1, .ref q2])), (q1, .inl (cI, 6, .inl (fun _ => 0))), (q2, .inl (cA2, 6, .inr (.inr (.inr (.inr (fun i => if i < 6 then some (r i) else none)))))), (r 0, .inl (cI, 8, .inl (fun _ => 0))), (r 1, .inl (cI, 8, .inl (fun _ => 0))), (r 2, .inl (cI, 8, .inl (fun _ => 0))), (r 3, .inl (cI, 8, .inl (fun _ => 0))), (r 4, .inl (cI, 8, .inl (fun _ => 0))), (r 5, .inl (cI, 8, .inl (fun _ => 0)))] := hD
  exact W.vret hx hb hr (fun t ht hW => ⟨⟨(q1, q2, r), rfl, trivial, by show va_P D vwCl _ t.heap; rw [ht]; exact hP, hD, hKK _ _ hW.alike hkk⟩, hS.F ht⟩) hS.2.2 dX2_init_24
