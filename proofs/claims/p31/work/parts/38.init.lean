theorem va_in1 {o : Nat} {x : va_E} {H : Nat} {A : Nat → Prop} (h : A o) (h2 : ∀ q, H ≤ q → A q) : ∀ q, va_A [(o, x)] H q → A q := by
  rintro q (⟨k, e, h9⟩ | h9)
  · have h1 : k < 1 := (List.getElem?_eq_some_iff.mp h9).1
    rw [show k = 0 by omega] at h9
    cases h9
    exact h
  · exact h2 q h9
set_option maxHeartbeats 4000000 in
set_option maxRecDepth 100000 in
theorem lm_AC (l : Launch) (o : Nat) (KK : State → Prop) (hKK : ∀ u U : State, u.vm.Alike U.vm → KK u → KK U) : Met l yJxa1e45_init_da8c8 wsJxa1e45_init_da8c8 { frames := 2, cells := 0, slots := 0, locals := 60 } (va_Pc [.ref o] KK) (va_Qv (fun _ : Unit => True) (fun _ t => KK t) (fun _ => False)) 0 0 (fun _ => False) := by
  refine Met.ofW (cc := cJxa1e45_init_da8c8) (maxL := 1) (ret := none) (by decide) rfl ?_
  intro p e s mm args below meth c s₁ B hml hv
  obtain ⟨rfl, hkk⟩ := hv
  have hS : va_S (fun _ => False) s.heap s.heap [] := va_S.rf
  have hx := B.exec
  have hb := B.bytes
  have hr := B.returns
  have hts := atoms_spec (ws := wsJxa1e45_init_da8c8) B.pre
  have hown : s.vm.findClass RJxa1e45 = some mm.cls := findClass_of_methodNamed B.named
  have hlocks := B.notSynchronized
  have l0 := hts (.methodLink RJxa1e45 1 objectInit) (List.mem_of_getElem? (i := 1) rfl)
  have l1 := hts (.instanceMethod objectInit) (List.mem_of_getElem? (i := 2) rfl)
  have l2 := hts (.code objectInit ⟨#[0xb1]⟩ 1 none) (List.mem_of_getElem? (i := 3) rfl)
  have hl := lv_entry ([.ref o]) (n := 1) (Nat.le_of_ble_eq_true rfl)
  rw [lg_entry_eq]
  generalize (lg_sl ([.ref o]) ++ List.replicate (1 - (lg_sl ([.ref o])).length) Slot.unset).toArray = ls at hl ⊢
  have hl : lv_has ls 1 [(0, .ref o)] := hl
  refine lv_aload_n hx hb dJxa1e45_init_da8c8_0 rfl (lv_at hl 0 rfl) ?_
  refine W.objInit hx hb hown l0 l1 l2 rfl (by rw [hml]; exact hl.1) rfl dJxa1e45_init_da8c8_1 (Nat.le_of_ble_eq_true rfl) (Nat.le_of_ble_eq_true rfl) ?_
  refine W.eq (g2 := F0 mm 4 ls []) rfl ?_
  exact W.vret hx hb hr (fun t ht hW => ⟨⟨(), rfl, trivial, hKK _ _ hW.alike hkk⟩, hS.F ht⟩) hS.2.2 dJxa1e45_init_da8c8_4
set_option maxHeartbeats 4000000 in
set_option maxRecDepth 100000 in
theorem lm_AL (l : Launch) (D : va_G) (o : Nat)  (KK : State → Prop) (hKK : ∀ u U : State, u.vm.Alike U.vm → KK u → KK U) : Met l yJxc12de_init_da8c8 wsJxc12de_init_da8c8 { frames := 3, cells := 0, slots := 0, locals := 240 } (va_Pc [.ref o] (fun U => va_P D vwCl [(o, .inr (0, [.int 0, .null, .int 0]))] U.heap ∧ va_K D vwCl [] U ∧ KK U)) (va_Qv (fun _ : Unit => True) (fun _ t => va_P D vwCl [(o, .inr (0, [.int 0, .null, .int 0]))] t.heap ∧ KK t) (fun x => x = o)) 0 0 (fun x => x = o) := by
  refine Met.ofW (cc := cJxc12de_init_da8c8) (maxL := 1) (ret := none) (by decide) rfl ?_
  intro p e s mm args below meth c s₁ B hml hv
  obtain ⟨rfl, hP, hK, hkk⟩ := hv
  have hS : va_S (fun x => x = o) s.heap s.heap [] := va_S.rf
  have hD : va_D (fun x => x = o) [(o, .inr (0, [.int 0, .null, .int 0]))] := ⟨fun i j x y hi hj _ => by
    have h1 : i < 1 := (List.getElem?_eq_some_iff.mp hi).1
    have h2 : j < 1 := (List.getElem?_eq_some_iff.mp hj).1
    omega, fun k q hq => by
    have h1 : k < 1 := (List.getElem?_eq_some_iff.mp hq).1
    rw [show k = 0 by omega] at hq
    cases hq
    rfl⟩
  have hx := B.exec
  have hb := B.bytes
  have hr := B.returns
  have hts := atoms_spec (ws := wsJxc12de_init_da8c8) B.pre
  have hown : s.vm.findClass RJxc12de = some mm.cls := findClass_of_methodNamed B.named
  have hlocks := B.notSynchronized
  have iwsJx4a65c0 : ∀ w ∈ wsJx4a65c0, w ∈ wsJxc12de_init_da8c8 := fun w h => List.mem_cons_of_mem _ (List.mem_append_right _ h)
  have l0 := hts (.methodLink RJxc12de 1 yJxa1e45_init_da8c8) (List.mem_of_getElem? (i := 2) rfl)
  have l1 := hts (.instanceMethod yJxa1e45_init_da8c8) (List.mem_of_getElem? (i := 3) rfl)
  have l2 := hts (.initialized RJxa1e45) (List.mem_of_getElem? (i := 4) rfl)
  have l3 := hts (.fieldLink RJxc12de 7 "java/util/AbstractList" "modCount" "I") (List.mem_of_getElem? (i := 1) rfl)
  have hl := lv_entry ([.ref o]) (n := 1) (Nat.le_of_ble_eq_true rfl)
  rw [lg_entry_eq]
  generalize (lg_sl ([.ref o]) ++ List.replicate (1 - (lg_sl ([.ref o])).length) Slot.unset).toArray = ls at hl ⊢
  have hl : lv_has ls 1 [(0, .ref o)] := hl
  refine lv_aload_n hx hb dJxc12de_init_da8c8_0 rfl (lv_at hl 0 rfl) ?_
  have hKc := hK
  refine va_callv (va_runI (As := []) (rest := []) ⟨hx, hb, hml, hown, hts⟩ (lm_AC l o KK hKK) (cwI 0 hts gJxc12de_init_da8c8_Jxa1e45_init_da8c8 rfl rfl rfl l2 l0 l1 rfl (by decide +kernel) ⟨Nat.le_of_ble_eq_true rfl, Nat.le_of_ble_eq_true rfl⟩) ⟨fun a U g mk q => ⟨q.1, hKK _ _ (Vm.Alike.refl U.vm) q.2⟩, fun U hU hW => ⟨rfl, hKK _ _ hW.alike hkk⟩⟩ rfl rfl hl.1 rfl (lv_room (Nat.le_of_ble_eq_true rfl)) dJxc12de_init_da8c8_1 ⟨Nat.le_of_ble_eq_true rfl, Nat.le_of_ble_eq_true rfl⟩) hS (fun q _ h => h.elim) (fun q h => h.elim) (fun u t H locs ht hvm hw hB hz hk hS => ?_)
  have hP : va_P D vwCl [(o, .inr (0, [.int 0, .null, .int 0]))] H := hP.kept fun k x hx => hk _ (hP k x hx).lt (fun z => z)
  refine lv_aload_n hx hb dJxc12de_init_da8c8_4 rfl (lv_at hl 0 rfl) ?_
  refine lv_iconst (v := 0) hx hb dJxc12de_init_da8c8_5 (by decide) ?_
  refine va_put (D := D) (cl := vwCl) (ci := 0) (v := .int 0) (ty := .int) (C := RJx4a65c) (T := TJx4a65c) (N := 3) hx hb hts iwsJx4a65c0 tyJx4a65c tyJx4a65c_ok nmJx4a65c hown hK hP hD hS 0 rfl rfl 0 (by decide) l3 (fun _ h => h) rfl (by decide +kernel) rfl rfl (Nat.le_of_ble_eq_true rfl) dJxc12de_init_da8c8_6 (fun H locs hP hD hS => ?_)
  exact W.vret hx hb hr (fun t ht hW => ⟨⟨(), rfl, trivial, by show va_P D vwCl _ t.heap; rw [ht]; exact hP, hKK _ _ hW.alike hkk⟩, hS.F ht⟩) hS.2.2 dJxc12de_init_da8c8_9
set_option maxHeartbeats 4000000 in
set_option maxRecDepth 100000 in
theorem lm_List (l : Launch) (D : va_G) (o : Nat) (eA : Nat) (KK : State → Prop) (hKK : ∀ u U : State, u.vm.Alike U.vm → KK u → KK U) : Met l yJx4a65c_init_da8c8 wsJx4a65c_init_da8c8 { frames := 4, cells := 0, slots := 0, locals := 320 } (va_Pc [.ref o] (fun U => va_P D vwCl [(o, .inr (0, [.int 0, .null, .int 0]))] U.heap ∧ va_K D vwCl [] U ∧ va_Z "java/util/ArrayList" "DEFAULTCAPACITY_EMPTY_ELEMENTDATA" "[Ljava/lang/Object;" (.ref eA) (fun x => x = o) U U.heap ∧ KK U)) (va_Qv (fun _ : Unit => True) (fun _ t => va_P D vwCl [(o, .inr (0, [.int 0, .ref eA, .int 0]))] t.heap ∧ KK t) (fun x => x = o)) 0 0 (fun x => x = o) := by
  refine Met.ofW (cc := cJx4a65c_init_da8c8) (maxL := 1) (ret := none) (by decide) rfl ?_
  intro p e s mm args below meth c s₁ B hml hv
  obtain ⟨rfl, hP, hK, hZ, hkk⟩ := hv
  have hS : va_S (fun x => x = o) s.heap s.heap [] := va_S.rf
  have hD : va_D (fun x => x = o) [(o, .inr (0, [.int 0, .null, .int 0]))] := ⟨fun i j x y hi hj _ => by
    have h1 : i < 1 := (List.getElem?_eq_some_iff.mp hi).1
    have h2 : j < 1 := (List.getElem?_eq_some_iff.mp hj).1
    omega, fun k q hq => by
    have h1 : k < 1 := (List.getElem?_eq_some_iff.mp hq).1
    rw [show k = 0 by omega] at hq
    cases hq
    rfl⟩
  have hx := B.exec
  have hb := B.bytes
  have hr := B.returns
  have hts := atoms_spec (ws := wsJx4a65c_init_da8c8) B.pre
  have hown : s.vm.findClass RJx4a65c = some mm.cls := findClass_of_methodNamed B.named
  have hlocks := B.notSynchronized
  have iwsJx4a65c0 : ∀ w ∈ wsJx4a65c0, w ∈ wsJx4a65c_init_da8c8 := fun w h => List.mem_cons_of_mem _ (List.mem_append_right _ h)
  have l0 := hts (.methodLink RJx4a65c 1 yJxc12de_init_da8c8) (List.mem_of_getElem? (i := 3) rfl)
  have l1 := hts (.instanceMethod yJxc12de_init_da8c8) (List.mem_of_getElem? (i := 4) rfl)
  have l2 := hts (.initialized RJxc12de) (List.mem_of_getElem? (i := 5) rfl)
  have l3 := hts (.fieldLink RJx4a65c 39 "java/util/ArrayList" "DEFAULTCAPACITY_EMPTY_ELEMENTDATA" "[Ljava/lang/Object;") (List.mem_of_getElem? (i := 1) rfl)
  have l4 := hts (.fieldLink RJx4a65c 9 "java/util/ArrayList" "elementData" "[Ljava/lang/Object;") (List.mem_of_getElem? (i := 2) rfl)
  have hl := lv_entry ([.ref o]) (n := 1) (Nat.le_of_ble_eq_true rfl)
  rw [lg_entry_eq]
  generalize (lg_sl ([.ref o]) ++ List.replicate (1 - (lg_sl ([.ref o])).length) Slot.unset).toArray = ls at hl ⊢
  have hl : lv_has ls 1 [(0, .ref o)] := hl
  refine lv_aload_n hx hb dJx4a65c_init_da8c8_0 rfl (lv_at hl 0 rfl) ?_
  have hKc := hK
  refine va_callv (va_runI (As := []) (rest := []) ⟨hx, hb, hml, hown, hts⟩ (lm_AL l D o KK hKK) (cwI 0 hts gJx4a65c_init_da8c8_Jxc12de_init_da8c8 rfl rfl rfl l2 l0 l1 rfl (by decide +kernel) ⟨Nat.le_of_ble_eq_true rfl, Nat.le_of_ble_eq_true rfl⟩) ⟨fun a U g mk q => ⟨q.1, q.2.1, va_K.moved (u := U) (U := U.calling g mk a) (Vm.Alike.refl U.vm) q.2.2.1, hKK _ _ (Vm.Alike.refl U.vm) q.2.2.2⟩, fun U hU hW => ⟨rfl, by rw [hU]; exact hP, va_K.moved hW.alike hK, hKK _ _ hW.alike hkk⟩⟩ rfl rfl hl.1 rfl (lv_room (Nat.le_of_ble_eq_true rfl)) dJx4a65c_init_da8c8_1 ⟨Nat.le_of_ble_eq_true rfl, Nat.le_of_ble_eq_true rfl⟩) hS (fun q _ h => h) (fun q h => h) (fun u t H locs ht hvm hw hB hz hk hS => ?_)
  have hP := hB.1
  rw [ht] at hP
  refine lv_aload_n hx hb dJx4a65c_init_da8c8_4 rfl (lv_at hl 0 rfl) ?_
  refine va_gets hx hb hZ hS hown l3 (fun _ h => h) dJx4a65c_init_da8c8_5 ?_
  refine va_put (D := D) (cl := vwCl) (ci := 0) (v := .ref eA) (ty := .array (.object "java/lang/Object")) (C := RJx4a65c) (T := TJx4a65c) (N := 3) hx hb hts iwsJx4a65c0 tyJx4a65c tyJx4a65c_ok nmJx4a65c hown hK hP hD hS 0 rfl rfl 1 (by decide) l4 (fun _ h => h) rfl (by decide +kernel) rfl rfl (Nat.le_of_ble_eq_true rfl) dJx4a65c_init_da8c8_8 (fun H locs hP hD hS => ?_)
  exact W.vret hx hb hr (fun t ht hW => ⟨⟨(), rfl, trivial, by show va_P D vwCl _ t.heap; rw [ht]; exact hP, hKK _ _ hW.alike hkk⟩, hS.F ht⟩) hS.2.2 dJx4a65c_init_da8c8_11
