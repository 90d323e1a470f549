theorem iw_D1 {A : Nat → Prop} {o : Nat} {x : va_E} (h : A o) : va_D A [(o, x)] := ⟨fun i j x y hi hj _ => by
    have h1 : i < 1 := (List.getElem?_eq_some_iff.mp hi).1
    have h2 : j < 1 := (List.getElem?_eq_some_iff.mp hj).1
    omega, fun k q hq => by
    have h1 : k < 1 := (List.getElem?_eq_some_iff.mp hq).1
    rw [show k = 0 by omega] at hq
    cases hq
    exact h⟩
def fill5 (f : Nat → Int32) : Nat → Int32 := (upd (upd (upd (upd (upd f (Int32.toNatClampNeg 0) (-1)) (Int32.toNatClampNeg 1) (-1)) (Int32.toNatClampNeg 2) (-1)) (Int32.toNatClampNeg 3) (-1)) (Int32.toNatClampNeg 4) (-1))
set_option maxHeartbeats 8000000 in
set_option maxRecDepth 100000 in
theorem lm_fill (l : Launch) (D : va_G) (cI : ClassId) (o : Nat) (f : Nat → Int32) (KK : State → Prop) (hKK : ∀ u U : State, u.vm.Alike U.vm → KK u → KK U) : Met l yJ7_fill_53178 wsJ7_fill_53178 { frames := 2, cells := 0, slots := 0, locals := 60 } (va_Pc [.ref o, .int (-1)] (fun U => va_P D vwCl [(o, .inl (cI, 5, .inl f))] U.heap ∧ va_K D vwCl [(cI, .int)] U ∧ KK U)) (va_Qv (fun _ : Unit => True) (fun _ t => va_P D vwCl [(o, .inl (cI, 5, .inl (fill5 f)))] t.heap ∧ KK t) (fun x => x = o)) 0 0 (fun x => x = o) := by
  refine Met.ofW (cc := cJ7_fill_53178) (maxL := 4) (ret := none) (by decide) rfl ?_
  intro p e s mm args below meth c s₁ B hml hv
  obtain ⟨rfl, hP, hK, hkk⟩ := hv
  have hS : va_S (fun x => x = o) s.heap s.heap [] := va_S.rf
  have hD : va_D (fun x => x = o) [(o, .inl (cI, 5, .inl f))] := iw_D1 rfl
  generalize hAe : (fun x : Nat => x = o) = A at *
  have hx := B.exec
  have hb := B.bytes
  have hr := B.returns
  have hts := atoms_spec (ws := wsJ7_fill_53178) B.pre
  have hown : s.vm.findClass RJ7 = some mm.cls := findClass_of_methodNamed B.named
  have hlocks := B.notSynchronized
  have hl := lv_entry ([.ref o, .int (-1)]) (n := 4) (Nat.le_of_ble_eq_true rfl)
  rw [lg_entry_eq]
  generalize (lg_sl ([.ref o, .int (-1)]) ++ List.replicate (4 - (lg_sl ([.ref o, .int (-1)])).length) Slot.unset).toArray = ls at hl ⊢
  have hl : lv_has ls 4 [(0, .ref o), (1, .int (-1))] := hl
  refine lv_iconst (v := 0) hx hb dJ7_fill_53178_0 (by decide) ?_
  refine lv_istore_n (lv' := [(2, .int 0), (0, .ref o), (1, .int (-1))]) hx hb dJ7_fill_53178_1 rfl hl (by decide) rfl (fun ls hl => ?_)
  refine lv_aload_n hx hb dJ7_fill_53178_2 rfl (lv_at hl 1 rfl) ?_
  refine va_alen hx hb hK hP 0 0 rfl rfl (v := 5) rfl dJ7_fill_53178_3 ?_
  refine lv_istore_n (lv' := [(3, .int 5), (2, .int 0), (0, .ref o), (1, .int (-1))]) hx hb dJ7_fill_53178_4 rfl hl (by decide) rfl (fun ls hl => ?_)
  refine lv_iload_n hx hb dJ7_fill_53178_5 rfl (lv_at hl 1 rfl) ?_
  refine lv_iload_n hx hb dJ7_fill_53178_6 rfl (lv_at hl 0 rfl) ?_
  refine lv_icmp_ge (tgt := 20) hx hb dJ7_fill_53178_7 (by decide) (fun hc => absurd hc (by decide)) (fun _ => ?_)
  refine lv_aload_n hx hb dJ7_fill_53178_10 rfl (lv_at hl 2 rfl) ?_
  refine lv_iload_n hx hb dJ7_fill_53178_11 rfl (lv_at hl 1 rfl) ?_
  refine lv_iload_n hx hb dJ7_fill_53178_12 rfl (lv_at hl 3 rfl) ?_
  refine va_iast hx hb hK hP hD hS 0 0 rfl rfl (show ¬ ((0 : Int32) < 0 ∨ 5 ≤ (0 : Int32).toNatClampNeg) from by decide) dJ7_fill_53178_13 (fun H locs hP hD hS => ?_)
  have hP : va_P D vwCl [(o, .inl (cI, 5, .inl (upd f (Int32.toNatClampNeg 0) (-1))))] H := hP
  have hD : va_D A [(o, .inl (cI, 5, .inl (upd f (Int32.toNatClampNeg 0) (-1))))] := hD
  refine lv_iinc (v := 1) (lv' := [(2, .int 1), (3, .int 5), (0, .ref o), (1, .int (-1))]) hx hb dJ7_fill_53178_14 hl (k := 1) rfl (by decide) (by decide) rfl (fun ls hl => ?_)
  refine lv_goto (tgt := 5) hx hb dJ7_fill_53178_17 (by decide) ?_
  refine lv_iload_n hx hb dJ7_fill_53178_5 rfl (lv_at hl 0 rfl) ?_
  refine lv_iload_n hx hb dJ7_fill_53178_6 rfl (lv_at hl 1 rfl) ?_
  refine lv_icmp_ge (tgt := 20) hx hb dJ7_fill_53178_7 (by decide) (fun hc => absurd hc (by decide)) (fun _ => ?_)
  refine lv_aload_n hx hb dJ7_fill_53178_10 rfl (lv_at hl 2 rfl) ?_
  refine lv_iload_n hx hb dJ7_fill_53178_11 rfl (lv_at hl 0 rfl) ?_
  refine lv_iload_n hx hb dJ7_fill_53178_12 rfl (lv_at hl 3 rfl) ?_
  refine va_iast hx hb hK hP hD hS 0 0 rfl rfl (show ¬ ((1 : Int32) < 0 ∨ 5 ≤ (1 : Int32).toNatClampNeg) from by decide) dJ7_fill_53178_13 (fun H locs hP hD hS => ?_)
  have hP : va_P D vwCl [(o, .inl (cI, 5, .inl (upd (upd f (Int32.toNatClampNeg 0) (-1)) (Int32.toNatClampNeg 1) (-1))))] H := hP
  have hD : va_D A [(o, .inl (cI, 5, .inl (upd (upd f (Int32.toNatClampNeg 0) (-1)) (Int32.toNatClampNeg 1) (-1))))] := hD
  refine lv_iinc (v := 2) (lv' := [(2, .int 2), (3, .int 5), (0, .ref o), (1, .int (-1))]) hx hb dJ7_fill_53178_14 hl (k := 0) rfl (by decide) (by decide) rfl (fun ls hl => ?_)
  refine lv_goto (tgt := 5) hx hb dJ7_fill_53178_17 (by decide) ?_
  refine lv_iload_n hx hb dJ7_fill_53178_5 rfl (lv_at hl 0 rfl) ?_
  refine lv_iload_n hx hb dJ7_fill_53178_6 rfl (lv_at hl 1 rfl) ?_
  refine lv_icmp_ge (tgt := 20) hx hb dJ7_fill_53178_7 (by decide) (fun hc => absurd hc (by decide)) (fun _ => ?_)
  refine lv_aload_n hx hb dJ7_fill_53178_10 rfl (lv_at hl 2 rfl) ?_
  refine lv_iload_n hx hb dJ7_fill_53178_11 rfl (lv_at hl 0 rfl) ?_
  refine lv_iload_n hx hb dJ7_fill_53178_12 rfl (lv_at hl 3 rfl) ?_
  refine va_iast hx hb hK hP hD hS 0 0 rfl rfl (show ¬ ((2 : Int32) < 0 ∨ 5 ≤ (2 : Int32).toNatClampNeg) from by decide) dJ7_fill_53178_13 (fun H locs hP hD hS => ?_)
  have hP : va_P D vwCl [(o, .inl (cI, 5, .inl (upd (upd (upd f (Int32.toNatClampNeg 0) (-1)) (Int32.toNatClampNeg 1) (-1)) (Int32.toNatClampNeg 2) (-1))))] H := hP
  have hD : va_D A [(o, .inl (cI, 5, .inl (upd (upd (upd f (Int32.toNatClampNeg 0) (-1)) (Int32.toNatClampNeg 1) (-1)) (Int32.toNatClampNeg 2) (-1))))] := hD
  refine lv_iinc (v := 3) (lv' := [(2, .int 3), (3, .int 5), (0, .ref o), (1, .int (-1))]) hx hb dJ7_fill_53178_14 hl (k := 0) rfl (by decide) (by decide) rfl (fun ls hl => ?_)
  refine lv_goto (tgt := 5) hx hb dJ7_fill_53178_17 (by decide) ?_
  refine lv_iload_n hx hb dJ7_fill_53178_5 rfl (lv_at hl 0 rfl) ?_
  refine lv_iload_n hx hb dJ7_fill_53178_6 rfl (lv_at hl 1 rfl) ?_
  refine lv_icmp_ge (tgt := 20) hx hb dJ7_fill_53178_7 (by decide) (fun hc => absurd hc (by decide)) (fun _ => ?_)
  refine lv_aload_n hx hb dJ7_fill_53178_10 rfl (lv_at hl 2 rfl) ?_
  refine lv_iload_n hx hb dJ7_fill_53178_11 rfl (lv_at hl 0 rfl) ?_
  refine lv_iload_n hx hb dJ7_fill_53178_12 rfl (lv_at hl 3 rfl) ?_
  refine va_iast hx hb hK hP hD hS 0 0 rfl rfl (show ¬ ((3 : Int32) < 0 ∨ 5 ≤ (3 : Int32).toNatClampNeg) from by decide) dJ7_fill_53178_13 (fun H locs hP hD hS => ?_)
  have hP : va_P D vwCl [(o, .inl (cI, 5, .inl (upd (upd (upd (upd f (Int32.toNatClampNeg 0) (-1)) (Int32.toNatClampNeg 1) (-1)) (Int32.toNatClampNeg 2) (-1)) (Int32.toNatClampNeg 3) (-1))))] H := hP
  have hD : va_D A [(o, .inl (cI, 5, .inl (upd (upd (upd (upd f (Int32.toNatClampNeg 0) (-1)) (Int32.toNatClampNeg 1) (-1)) (Int32.toNatClampNeg 2) (-1)) (Int32.toNatClampNeg 3) (-1))))] := hD
  refine lv_iinc (v := 4) (lv' := [(2, .int 4), (3, .int 5), (0, .ref o), (1, .int (-1))]) hx hb dJ7_fill_53178_14 hl (k := 0) rfl (by decide) (by decide) rfl (fun ls hl => ?_)
  refine lv_goto (tgt := 5) hx hb dJ7_fill_53178_17 (by decide) ?_
  refine lv_iload_n hx hb dJ7_fill_53178_5 rfl (lv_at hl 0 rfl) ?_
  refine lv_iload_n hx hb dJ7_fill_53178_6 rfl (lv_at hl 1 rfl) ?_
  refine lv_icmp_ge (tgt := 20) hx hb dJ7_fill_53178_7 (by decide) (fun hc => absurd hc (by decide)) (fun _ => ?_)
  refine lv_aload_n hx hb dJ7_fill_53178_10 rfl (lv_at hl 2 rfl) ?_
  refine lv_iload_n hx hb dJ7_fill_53178_11 rfl (lv_at hl 0 rfl) ?_
  refine lv_iload_n hx hb dJ7_fill_53178_12 rfl (lv_at hl 3 rfl) ?_
  refine va_iast hx hb hK hP hD hS 0 0 rfl rfl (show ¬ ((4 : Int32) < 0 ∨ 5 ≤ (4 : Int32).toNatClampNeg) from by decide) dJ7_fill_53178_13 (fun H locs hP hD hS => ?_)
  have hP : va_P D vwCl [(o, .inl (cI, 5, .inl (upd (upd (upd (upd (upd f (Int32.toNatClampNeg 0) (-1)) (Int32.toNatClampNeg 1) (-1)) (Int32.toNatClampNeg 2) (-1)) (Int32.toNatClampNeg 3) (-1)) (Int32.toNatClampNeg 4) (-1))))] H := hP
  have hD : va_D A [(o, .inl (cI, 5, .inl (upd (upd (upd (upd (upd f (Int32.toNatClampNeg 0) (-1)) (Int32.toNatClampNeg 1) (-1)) (Int32.toNatClampNeg 2) (-1)) (Int32.toNatClampNeg 3) (-1)) (Int32.toNatClampNeg 4) (-1))))] := hD
  refine lv_iinc (v := 5) (lv' := [(2, .int 5), (3, .int 5), (0, .ref o), (1, .int (-1))]) hx hb dJ7_fill_53178_14 hl (k := 0) rfl (by decide) (by decide) rfl (fun ls hl => ?_)
  refine lv_goto (tgt := 5) hx hb dJ7_fill_53178_17 (by decide) ?_
  refine lv_iload_n hx hb dJ7_fill_53178_5 rfl (lv_at hl 0 rfl) ?_
  refine lv_iload_n hx hb dJ7_fill_53178_6 rfl (lv_at hl 1 rfl) ?_
  refine lv_icmp_ge (tgt := 20) hx hb dJ7_fill_53178_7 (by decide) (fun _ => ?_) (fun hc => absurd (by decide) hc)
  exact W.vret hx hb hr (fun t ht hW => ⟨⟨(), rfl, trivial, by show va_P D vwCl _ t.heap; rw [ht]; exact hP, hKK _ _ hW.alike hkk⟩, hS.F ht⟩) hS.2.2 dJ7_fill_53178_20
set_option maxHeartbeats 8000000 in
set_option maxRecDepth 100000 in
theorem lm_Band (l : Launch) (D : va_G) (cI : ClassId) (o sz : Nat) (eA : Nat) (KK : State → Prop) (hKK : ∀ u U : State, u.vm.Alike U.vm → KK u → KK U) : Met l yX0_init wsX0_init { frames := 5, cells := 3, slots := 32, locals := 450 } (va_Pc [.ref o] (fun U => U.heap.size = sz ∧ va_P D vwCl [(o, .inr (1, [.null, .null, .null, .int 0, .int 0, .int 0, .int 0]))] U.heap ∧ va_K D vwCl [(cI, .int)] U ∧ va_D (fun _ => True) [(o, .inr (1, [.null, .null, .null, .int 0, .int 0, .int 0, .int 0]))] ∧ va_Z "java/util/ArrayList" "DEFAULTCAPACITY_EMPTY_ELEMENTDATA" "[Ljava/lang/Object;" (.ref eA) (fun x => x = o ∨ sz ≤ x) U U.heap ∧ KK U)) (va_Qv (fun _ : Nat × Nat × Nat => True) (fun u t => match u with | (q1, q2, q3) => va_P D vwCl [(o, .inr (1, [.ref q1, .ref q2, .ref q3, .int 0, .int (-1), .int (-1), .int 0])), (q1, .inr (0, [.int 0, .ref eA, .int 0])), (q2, .inl (cI, 24, .inl (fun _ => 0))), (q3, .inl (cI, 5, .inl (fill5 (fun _ => 0))))] t.heap ∧ va_D (fun x => x = o ∨ sz ≤ x) [(o, .inr (1, [.ref q1, .ref q2, .ref q3, .int 0, .int (-1), .int (-1), .int 0])), (q1, .inr (0, [.int 0, .ref eA, .int 0])), (q2, .inl (cI, 24, .inl (fun _ => 0))), (q3, .inl (cI, 5, .inl (fill5 (fun _ => 0))))] ∧ KK t) (fun x => x = o ∨ sz ≤ x)) 3 32 (fun x => x = o ∨ sz ≤ x) := by
  refine Met.ofW (cc := cX0_init) (maxL := 1) (ret := none) (by decide) rfl ?_
  intro p e s mm args below meth c s₁ B hml hv
  obtain ⟨rfl, hsz, hP, hK, hD0, hZ, hkk⟩ := hv
  have hin : meth.name = "<init>" := (name_of_methodNamed B.named B.method).1
  subst hsz
  have hx := B.exec
  have hb := B.bytes
  have hr := B.returns
  have hts := atoms_spec (ws := wsX0_init) B.pre
  have hown : s.vm.findClass RX0 = some mm.cls := findClass_of_methodNamed B.named
  have hlocks := B.notSynchronized
  have iwsJx4a65c0 : ∀ w ∈ wsJx4a65c0, w ∈ wsX0_init := fun w h => List.mem_cons_of_mem _ (List.mem_append_left _ (List.mem_append_right _ h))
  have iwsX00 : ∀ w ∈ wsX00, w ∈ wsX0_init := fun w h => List.mem_cons_of_mem _ (List.mem_append_right _ h)
  have l0 := hts (.methodLink RX0 3 objectInit) (List.mem_of_getElem? (i := 1) rfl)
  have l1 := hts (.instanceMethod objectInit) (List.mem_of_getElem? (i := 2) rfl)
  have l2 := hts (.code objectInit ⟨#[0xb1]⟩ 1 none) (List.mem_of_getElem? (i := 3) rfl)
  have l3 := hts (.classLink RX0 9 RJx4a65c) (List.mem_of_getElem? (i := 4) rfl)
  have l4 := hts (.instantiable RJx4a65c 3) (List.mem_of_getElem? (i := 5) rfl)
  have l5 := hts (.initialized RJx4a65c) (List.mem_of_getElem? (i := 6) rfl)
  have l6 := hts (.methodLink RX0 11 yJx4a65c_init_da8c8) (List.mem_of_getElem? (i := 13) rfl)
  have l7 := hts (.instanceMethod yJx4a65c_init_da8c8) (List.mem_of_getElem? (i := 14) rfl)
  have l8 := hts (.fieldLink RX0 12 "Panyard$Band" "seats" "Ljava/util/ArrayList;") (List.mem_of_getElem? (i := 7) rfl)
  have l9 := hts (.arrayClass .int) (List.mem_of_getElem? (i := 8) rfl)
  have l10 := hts (.fieldLink RX0 18 "Panyard$Band" "song" "[I") (List.mem_of_getElem? (i := 9) rfl)
  have l11 := hts (.fieldLink RX0 22 "Panyard$Band" "marks" "[I") (List.mem_of_getElem? (i := 10) rfl)
  have l12 := hts (.fieldLink RX0 25 "Panyard$Band" "drillNight" "I") (List.mem_of_getElem? (i := 11) rfl)
  have l13 := hts (.fieldLink RX0 29 "Panyard$Band" "heard" "I") (List.mem_of_getElem? (i := 12) rfl)
  have hD : va_D (fun x => x = o ∨ s.heap.size ≤ x) [(o, .inr (1, [.null, .null, .null, .int 0, .int 0, .int 0, .int 0]))] := hD0.weaken (fun k9 q hk9 _ => by
    match k9, hk9 with
    | 0, hk9 => cases hk9; exact Or.inl rfl
    | k9 + 1, hk9 => simp at hk9)
  have hA : ∀ q, s.heap.size ≤ q → (fun x : Nat => x = o ∨ s.heap.size ≤ x) q := fun q h => Or.inr h
  generalize hAe : (fun x : Nat => x = o ∨ s.heap.size ≤ x) = A at *
  have hS : va_S A s.heap s.heap [] := va_S.rf
  generalize eH0 : s.heap = H at hP hS
  have hS : va_S A s.heap H [] := by rw [eH0]; exact hS
  clear eH0
  have hl := lv_entry ([.ref o]) (n := 1) (Nat.le_of_ble_eq_true rfl)
  rw [lg_entry_eq]
  generalize (lg_sl ([.ref o]) ++ List.replicate (1 - (lg_sl ([.ref o])).length) Slot.unset).toArray = ls at hl ⊢
  have hl : lv_has ls 1 [(0, .ref o)] := hl
  refine lv_aload_n hx hb dX0_init_0 rfl (lv_at hl 0 rfl) ?_
  refine W.objInit hx hb hown l0 l1 l2 rfl (by rw [hml]; exact hl.1) rfl dX0_init_1 (Nat.le_of_ble_eq_true rfl) (Nat.le_of_ble_eq_true rfl) ?_
  refine W.eq (g2 := F0 mm 4 ls []) rfl ?_
  refine lv_aload_n hx hb dX0_init_4 rfl (lv_at hl 0 rfl) ?_
  refine va_new (D := D) (cl := vwCl) (ci := 0) (fs := [.int 0, .null, .int 0]) (C := RJx4a65c) (T := TJx4a65c) (N := 3) hx hb hts iwsJx4a65c0 tyJx4a65c tyJx4a65c_ok hown l3 l4 l5 hK hP hD hS hA rfl (fun j hj => by rcases (show j = 0 ∨ j = 1 ∨ j = 2 by omega) with rfl | rfl | rfl <;> rfl) (Nat.le_of_ble_eq_true rfl) (Nat.le_of_ble_eq_true rfl) dX0_init_5 (fun q1 H hP hD hS => ?_)
  have hP : va_P D vwCl [(o, .inr (1, [.null, .null, .null, .int 0, .int 0, .int 0, .int 0])), (q1, .inr (0, [.int 0, .null, .int 0]))] H := hP
  have hD : va_D A [(o, .inr (1, [.null, .null, .null, .int 0, .int 0, .int 0, .int 0])), (q1, .inr (0, [.int 0, .null, .int 0]))] := hD
  refine W.widen (k := 1) (n := 3) (by decide) (by decide) ?_
  refine lv_dup hx hb dX0_init_8 rfl ?_
  have hPc : va_P D vwCl [(q1, .inr (0, [.int 0, .null, .int 0]))] H := hP.sub [1] rfl
  have hFc := va_free (wc := [(q1, .inr (0, [.int 0, .null, .int 0]))]) hD hS hA [1] rfl
  have hAl : A q1 := hD.2 1 _ rfl
  refine va_callv (va_runI (As := []) (rest := [.ref q1, .ref o]) ⟨hx, hb, hml, hown, hts⟩ (lm_List l D q1 eA KK hKK) (cwI 0 hts gX0_init_Jx4a65c_init_da8c8 rfl rfl rfl l5 l6 l7 rfl (by decide +kernel) ⟨Nat.le_of_ble_eq_true rfl, Nat.le_of_ble_eq_true rfl⟩) ⟨fun a U g mk q => ⟨q.1, q.2.1, va_K.moved (u := U) (U := U.calling g mk a) (Vm.Alike.refl U.vm) q.2.2.1, va_Z.moved (u := U) (U := U.calling g mk a) (Vm.Alike.refl U.vm) q.2.2.2.1, hKK _ _ (Vm.Alike.refl U.vm) q.2.2.2.2⟩, fun U hU hW => ⟨rfl, by rw [hU]; exact hPc, va_K.moved hW.alike (hK.sub [] rfl), by rw [hU]; exact (va_Z.moved hW.alike (hZ.kept (fun a h1 h2 => hS.2.1 a h1 h2))).narrow (fun q h => by rw [h]; exact hAl), hKK _ _ hW.alike hkk⟩⟩ rfl rfl hl.1 rfl (lv_room (Nat.le_of_ble_eq_true rfl)) dX0_init_9 ⟨Nat.le_of_ble_eq_true rfl, Nat.le_of_ble_eq_true rfl⟩) hS (fun q _ h => by rw [h]; exact hAl) (fun q h => by rw [h]; exact hAl) (fun u t H1 locs ht hvm hw hB hz hk hS => ?_)
  obtain ⟨hP, hD⟩ := va_join (wr := [(o, .inr (1, [.null, .null, .null, .int 0, .int 0, .int 0, .int 0]))]) (w1 := [(q1, .inr (0, [.int 0, .ref eA, .int 0]))]) hP hD [1] [0] rfl rfl (by decide) (by decide) (fun q h1 h2 => hk q h1 (fun z => h2 (by rw [z]; exact Or.inl ⟨0, _, rfl⟩))) hFc (by rw [← ht]; exact hB.1) (iw_D1 (Or.inl ⟨0, _, rfl⟩))
  clear hPc hFc hk hz hB hw
  obtain ⟨H, eH⟩ : ∃ y, y = H1 := ⟨_, rfl⟩
  rw [← eH] at hP hS ⊢
  clear eH ht
  have hP : va_P D vwCl [(o, .inr (1, [.null, .null, .null, .int 0, .int 0, .int 0, .int 0])), (q1, .inr (0, [.int 0, .ref eA, .int 0]))] H := hP
  have hD : va_D A [(o, .inr (1, [.null, .null, .null, .int 0, .int 0, .int 0, .int 0])), (q1, .inr (0, [.int 0, .ref eA, .int 0]))] := hD
  refine va_putF (D := D) (cl := vwCl) (ci := 1) (v := .ref q1) (ty := (.object "java/util/ArrayList")) (C := RX0) (T := TX0) (N := 7) hx hb hts iwsX00 tyX0 tyX0_ok nmX0 hown hK hP hD hS 0 rfl rfl 0 (by decide) l8 (fun _ h => h) rfl hin rfl (by decide +kernel) rfl rfl (Nat.le_of_ble_eq_true rfl) dX0_init_12 (fun H locs hP hD hS => ?_)
  have hP : va_P D vwCl [(o, .inr (1, [.ref q1, .null, .null, .int 0, .int 0, .int 0, .int 0])), (q1, .inr (0, [.int 0, .ref eA, .int 0]))] H := hP
  have hD : va_D A [(o, .inr (1, [.ref q1, .null, .null, .int 0, .int 0, .int 0, .int 0])), (q1, .inr (0, [.int 0, .ref eA, .int 0]))] := hD
  refine lv_aload_n hx hb dX0_init_15 rfl (lv_at hl 0 rfl) ?_
  refine lv_bipush (v := 24) hx hb dX0_init_16 (by decide) ?_
  refine va_newa (atype := .int) (N' := 24) (a0 := (24, .inl (fun _ => 0))) hx hb l9 rfl hK hP hD hS hA (fun _ => rfl) (by decide) (by decide) (by decide) (Nat.le_of_ble_eq_true rfl) (Nat.le_of_ble_eq_true rfl) dX0_init_18 (fun q2 cA H hK9 hP hD hS => ?_)
  have hcc : cA = cI := Option.some.inj ((hK9.2 1 _ rfl).2.symm.trans (hK.2 0 _ rfl).2)
  rw [hcc] at hP hD
  clear hcc hK9
  have hP : va_P D vwCl [(o, .inr (1, [.ref q1, .null, .null, .int 0, .int 0, .int 0, .int 0])), (q1, .inr (0, [.int 0, .ref eA, .int 0])), (q2, .inl (cI, 24, .inl (fun _ => 0)))] H := hP
  have hD : va_D A [(o, .inr (1, [.ref q1, .null, .null, .int 0, .int 0, .int 0, .int 0])), (q1, .inr (0, [.int 0, .ref eA, .int 0])), (q2, .inl (cI, 24, .inl (fun _ => 0)))] := hD
  refine W.widen (k := 2) (n := 27) (by decide) (by decide) ?_
  refine va_putF (D := D) (cl := vwCl) (ci := 1) (v := .ref q2) (ty := (.array .int)) (C := RX0) (T := TX0) (N := 7) hx hb hts iwsX00 tyX0 tyX0_ok nmX0 hown hK hP hD hS 0 rfl rfl 1 (by decide) l10 (fun _ h => h) rfl hin rfl (by decide +kernel) rfl rfl (Nat.le_of_ble_eq_true rfl) dX0_init_20 (fun H locs hP hD hS => ?_)
  have hP : va_P D vwCl [(o, .inr (1, [.ref q1, .ref q2, .null, .int 0, .int 0, .int 0, .int 0])), (q1, .inr (0, [.int 0, .ref eA, .int 0])), (q2, .inl (cI, 24, .inl (fun _ => 0)))] H := hP
  have hD : va_D A [(o, .inr (1, [.ref q1, .ref q2, .null, .int 0, .int 0, .int 0, .int 0])), (q1, .inr (0, [.int 0, .ref eA, .int 0])), (q2, .inl (cI, 24, .inl (fun _ => 0)))] := hD
  refine lv_aload_n hx hb dX0_init_23 rfl (lv_at hl 0 rfl) ?_
  refine lv_iconst (v := 5) hx hb dX0_init_24 (by decide) ?_
  refine va_newa (atype := .int) (N' := 5) (a0 := (5, .inl (fun _ => 0))) hx hb l9 rfl hK hP hD hS hA (fun _ => rfl) (by decide) (by decide) (by decide) (Nat.le_of_ble_eq_true rfl) (Nat.le_of_ble_eq_true rfl) dX0_init_25 (fun q3 cA H hK9 hP hD hS => ?_)
  have hcc : cA = cI := Option.some.inj ((hK9.2 1 _ rfl).2.symm.trans (hK.2 0 _ rfl).2)
  rw [hcc] at hP hD
  clear hcc hK9
  have hP : va_P D vwCl [(o, .inr (1, [.ref q1, .ref q2, .null, .int 0, .int 0, .int 0, .int 0])), (q1, .inr (0, [.int 0, .ref eA, .int 0])), (q2, .inl (cI, 24, .inl (fun _ => 0))), (q3, .inl (cI, 5, .inl (fun _ => 0)))] H := hP
  have hD : va_D A [(o, .inr (1, [.ref q1, .ref q2, .null, .int 0, .int 0, .int 0, .int 0])), (q1, .inr (0, [.int 0, .ref eA, .int 0])), (q2, .inl (cI, 24, .inl (fun _ => 0))), (q3, .inl (cI, 5, .inl (fun _ => 0)))] := hD
  refine W.widen (k := 3) (n := 32) (by decide) (by decide) ?_
  refine va_putF (D := D) (cl := vwCl) (ci := 1) (v := .ref q3) (ty := (.array .int)) (C := RX0) (T := TX0) (N := 7) hx hb hts iwsX00 tyX0 tyX0_ok nmX0 hown hK hP hD hS 0 rfl rfl 2 (by decide) l11 (fun _ h => h) rfl hin rfl (by decide +kernel) rfl rfl (Nat.le_of_ble_eq_true rfl) dX0_init_27 (fun H locs hP hD hS => ?_)
  have hP : va_P D vwCl [(o, .inr (1, [.ref q1, .ref q2, .ref q3, .int 0, .int 0, .int 0, .int 0])), (q1, .inr (0, [.int 0, .ref eA, .int 0])), (q2, .inl (cI, 24, .inl (fun _ => 0))), (q3, .inl (cI, 5, .inl (fun _ => 0)))] H := hP
  have hD : va_D A [(o, .inr (1, [.ref q1, .ref q2, .ref q3, .int 0, .int 0, .int 0, .int 0])), (q1, .inr (0, [.int 0, .ref eA, .int 0])), (q2, .inl (cI, 24, .inl (fun _ => 0))), (q3, .inl (cI, 5, .inl (fun _ => 0)))] := hD
  refine lv_aload_n hx hb dX0_init_30 rfl (lv_at hl 0 rfl) ?_
  refine lv_iconst (v := (-1)) hx hb dX0_init_31 (by decide) ?_
  refine va_put (D := D) (cl := vwCl) (ci := 1) (v := .int (-1)) (ty := .int) (C := RX0) (T := TX0) (N := 7) hx hb hts iwsX00 tyX0 tyX0_ok nmX0 hown hK hP hD hS 0 rfl rfl 4 (by decide) l12 (fun _ h => h) rfl (by decide +kernel) rfl rfl (Nat.le_of_ble_eq_true rfl) dX0_init_32 (fun H locs hP hD hS => ?_)
  have hP : va_P D vwCl [(o, .inr (1, [.ref q1, .ref q2, .ref q3, .int 0, .int (-1), .int 0, .int 0])), (q1, .inr (0, [.int 0, .ref eA, .int 0])), (q2, .inl (cI, 24, .inl (fun _ => 0))), (q3, .inl (cI, 5, .inl (fun _ => 0)))] H := hP
  have hD : va_D A [(o, .inr (1, [.ref q1, .ref q2, .ref q3, .int 0, .int (-1), .int 0, .int 0])), (q1, .inr (0, [.int 0, .ref eA, .int 0])), (q2, .inl (cI, 24, .inl (fun _ => 0))), (q3, .inl (cI, 5, .inl (fun _ => 0)))] := hD
  refine lv_aload_n hx hb dX0_init_35 rfl (lv_at hl 0 rfl) ?_
  refine lv_iconst (v := (-1)) hx hb dX0_init_36 (by decide) ?_
  refine va_put (D := D) (cl := vwCl) (ci := 1) (v := .int (-1)) (ty := .int) (C := RX0) (T := TX0) (N := 7) hx hb hts iwsX00 tyX0 tyX0_ok nmX0 hown hK hP hD hS 0 rfl rfl 5 (by decide) l13 (fun _ h => h) rfl (by decide +kernel) rfl rfl (Nat.le_of_ble_eq_true rfl) dX0_init_37 (fun H locs hP hD hS => ?_)
  have hP : va_P D vwCl [(o, .inr (1, [.ref q1, .ref q2, .ref q3, .int 0, .int (-1), .int (-1), .int 0])), (q1, .inr (0, [.int 0, .ref eA, .int 0])), (q2, .inl (cI, 24, .inl (fun _ => 0))), (q3, .inl (cI, 5, .inl (fun _ => 0)))] H := hP
  have hD : va_D A [(o, .inr (1, [.ref q1, .ref q2, .ref q3, .int 0, .int (-1), .int (-1), .int 0])), (q1, .inr (0, [.int 0, .ref eA, .int 0])), (q2, .inl (cI, 24, .inl (fun _ => 0))), (q3, .inl (cI, 5, .inl (fun _ => 0)))] := hD
  refine lv_aload_n hx hb dX0_init_40 rfl (lv_at hl 0 rfl) ?_
  refine va_get (D := D) (cl := vwCl) (ci := 1) (v := .ref q3) (C := RX0) (T := TX0) (N := 7) hx hb hts iwsX00 hown hK hP 0 rfl rfl 2 (by decide) l11 (fun _ h => h) rfl dX0_init_41 ?_
  refine lv_iconst (v := (-1)) hx hb dX0_init_44 (by decide) ?_
  have hPc : va_P D vwCl [(q3, .inl (cI, 5, .inl (fun _ => 0)))] H := hP.sub [3] rfl
  have hFc := va_free (wc := [(q3, .inl (cI, 5, .inl (fun _ => 0)))]) hD hS hA [3] rfl
  have hAl : A q3 := hD.2 3 _ rfl
  refine va_callv (va_runS (As := [.ref q3, .int (-1)]) (rest := []) ⟨hx, hb, hml, hown, hts⟩ (lm_fill l D cI q3 (fun _ => 0) KK hKK) (va_cwS 2 hts gX0_init_J7_fill_53178 rfl rfl rfl (by decide +kernel) ⟨Nat.le_of_ble_eq_true rfl, Nat.le_of_ble_eq_true rfl⟩) ⟨fun a U g mk q => ⟨q.1, q.2.1, va_K.moved (u := U) (U := U.calling g mk a) (Vm.Alike.refl U.vm) q.2.2.1, hKK _ _ (Vm.Alike.refl U.vm) q.2.2.2⟩, fun U hU hW => ⟨rfl, by rw [hU]; exact hPc, va_K.moved hW.alike hK, hKK _ _ hW.alike hkk⟩⟩ rfl rfl hl.1 rfl (lv_room (Nat.le_of_ble_eq_true rfl)) dX0_init_45 ⟨Nat.le_of_ble_eq_true rfl, Nat.le_of_ble_eq_true rfl⟩) hS (fun q _ h => by rw [h]; exact hAl) (fun q h => by rw [h]; exact hAl) (fun u t H1 locs ht hvm hw hB hz hk hS => ?_)
  obtain ⟨hP, hD⟩ := va_join (wr := [(o, .inr (1, [.ref q1, .ref q2, .ref q3, .int 0, .int (-1), .int (-1), .int 0])), (q1, .inr (0, [.int 0, .ref eA, .int 0])), (q2, .inl (cI, 24, .inl (fun _ => 0)))]) (w1 := [(q3, .inl (cI, 5, .inl (fill5 (fun _ => 0))))]) hP hD [3] [0, 1, 2] rfl rfl (by decide) (by decide) (fun q h1 h2 => hk q h1 (fun z => h2 (by rw [z]; exact Or.inl ⟨0, _, rfl⟩))) hFc (by rw [← ht]; exact hB.1) (iw_D1 (Or.inl ⟨0, _, rfl⟩))
  clear hPc hFc hk hz hB hw
  obtain ⟨H, eH⟩ : ∃ y, y = H1 := ⟨_, rfl⟩
  rw [← eH] at hP hS ⊢
  clear eH ht
  have hP : va_P D vwCl [(o, .inr (1, [.ref q1, .ref q2, .ref q3, .int 0, .int (-1), .int (-1), .int 0])), (q1, .inr (0, [.int 0, .ref eA, .int 0])), (q2, .inl (cI, 24, .inl (fun _ => 0))), (q3, .inl (cI, 5, .inl (fill5 (fun _ => 0))))] H := hP
  have hD : va_D A [(o, .inr (1, [.ref q1, .ref q2, .ref q3, .int 0, .int (-1), .int (-1), .int 0])), (q1, .inr (0, [.int 0, .ref eA, .int 0])), (q2, .inl (cI, 24, .inl (fun _ => 0))), (q3, .inl (cI, 5, .inl (fill5 (fun _ => 0))))] := hD
  exact W.vret hx hb hr (fun t ht hW => ⟨⟨(q1, q2, q3), rfl, trivial, by show va_P D vwCl _ t.heap; rw [ht]; exact hP, hD, hKK _ _ hW.alike hkk⟩, hS.F ht⟩) hS.2.2 dX0_init_48
