def fJ3_checkIndex_8e157_9 (Z : CZ) : Option (Int32) := none
def fJ3_checkIndex_8e157 (a1 : Int32) (a2 : Int32) (Z : CZ) : Option (Int32) := (if a1 < 0 then fJ3_checkIndex_8e157_9 Z else (if a1 < a2 then some a1 else fJ3_checkIndex_8e157_9 Z))
def rmJ3_checkIndex_8e157 : Room := { frames := 1, cells := 0, slots := 0, locals := 30 }
set_option maxHeartbeats 4000000 in
set_option maxRecDepth 100000 in
theorem mJ3_checkIndex_8e157 (l : Launch) (D : va_G) (G : CGT) (A : Nat → Prop) (ad : Nat → Nat → Nat) (Z : CZ) (a1 : Int32) (a2 : Int32) (rz : Int32) (h : fJ3_checkIndex_8e157 a1 a2 Z = some rz) : Met l yJ3_checkIndex_8e157 wsJ3_checkIndex_8e157 rmJ3_checkIndex_8e157 (va_Pc [.int a1, .int a2, .null] (cP D G A ad Z)) (cQi D G A ad rz Z) 0 0 A := by
  refine Met.ofW (cc := cJ3_checkIndex_8e157) (maxL := 3) (ret := some .int) (by decide) rfl ?_
  intro p e s m args below meth c s₁ B hml hv
  obtain ⟨rfl, hI, hN, hK⟩ := hv
  have hx := B.exec
  have hb := B.bytes
  have hr := B.returns
  have hts := atoms_spec (ws := wsJ3_checkIndex_8e157) B.pre
  have hown : s.vm.findClass RJ3 = some m.cls := findClass_of_methodNamed B.named
  have hlocks := B.notSynchronized
  have hS : va_S A s.heap s.heap [] := va_S.rf
  have hl := lv_entry ([.int a1, .int a2, .null]) (n := 3) (Nat.le_of_ble_eq_true rfl)
  rw [lg_entry_eq]
  generalize (lg_sl ([.int a1, .int a2, .null]) ++ List.replicate (3 - (lg_sl ([.int a1, .int a2, .null])).length) Slot.unset).toArray = ls at hl ⊢
  have hl : lv_has ls 3 [(0, .int a1), (1, .int a2), (2, .null)] := hl
  have w9 : fJ3_checkIndex_8e157_9 Z  = some rz → cG p l e (headSpec wsJ3_checkIndex_8e157 rmJ3_checkIndex_8e157).room s m (([.int a1, .int a2, .null] : List Value).toArray) below meth c (MQ below (cQi D G A ad rz Z) (([.int a1, .int a2, .null] : List Value).toArray) s 0 0 A) D G A ad 0 0 3 Z 9 [(2, .null)] [] := by
    intro   h H locs ls hI hN hS hl
    unfold fJ3_checkIndex_8e157_9 at h
    cases h
  unfold fJ3_checkIndex_8e157 at h
  refine lv_iload_n hx hb dJ3_checkIndex_8e157_0 rfl (lv_at hl 0 rfl) ?_
  refine lv_if_lt (tgt := 9) hx hb dJ3_checkIndex_8e157_1 (by decide) (fun hc => ?_) (fun hc => ?_)
  · have h := ite_t h hc
    exact w9   h _ _ _ hI hN hS (lv_sub hl [2] rfl)
  · have h := ite_f h hc
    refine lv_iload_n hx hb dJ3_checkIndex_8e157_4 rfl (lv_at hl 0 rfl) ?_
    refine lv_iload_n hx hb dJ3_checkIndex_8e157_5 rfl (lv_at hl 1 rfl) ?_
    refine lv_icmp_lt (tgt := 16) hx hb dJ3_checkIndex_8e157_6 (by decide) (fun hc => ?_) (fun hc => ?_)
    · have h := ite_t h hc
      refine lv_iload_n hx hb dJ3_checkIndex_8e157_16 rfl (lv_at hl 0 rfl) ?_
      exact W.iret hx hb hr (cg_endr h hI hK hN hS) hS.2.2 dJ3_checkIndex_8e157_17
    · have h := ite_f h hc
      exact w9   h _ _ _ hI hN hS (lv_sub hl [2] rfl)
def fJ15_checkIndex_7cf53 (a1 : Int32) (a2 : Int32) (Z : CZ) : Option (Int32) := cl1 (fJ3_checkIndex_8e157 a1 a2 Z) (fun v1 => some v1)
def rmJ15_checkIndex_7cf53 : Room := { frames := 2, cells := 0, slots := 0, locals := 52 }
set_option maxHeartbeats 4000000 in
set_option maxRecDepth 100000 in
theorem mJ15_checkIndex_7cf53 (l : Launch) (D : va_G) (G : CGT) (A : Nat → Prop) (ad : Nat → Nat → Nat) (Z : CZ) (a1 : Int32) (a2 : Int32) (rz : Int32) (h : fJ15_checkIndex_7cf53 a1 a2 Z = some rz) : Met l yJ15_checkIndex_7cf53 wsJ15_checkIndex_7cf53 rmJ15_checkIndex_7cf53 (va_Pc [.int a1, .int a2] (cP D G A ad Z)) (cQi D G A ad rz Z) 0 0 A := by
  refine Met.ofW (cc := cJ15_checkIndex_7cf53) (maxL := 2) (ret := some .int) (by decide) rfl ?_
  intro p e s m args below meth c s₁ B hml hv
  obtain ⟨rfl, hI, hN, hK⟩ := hv
  have hx := B.exec
  have hb := B.bytes
  have hr := B.returns
  have hts := atoms_spec (ws := wsJ15_checkIndex_7cf53) B.pre
  have hown : s.vm.findClass RJ15 = some m.cls := findClass_of_methodNamed B.named
  have hlocks := B.notSynchronized
  have hS : va_S A s.heap s.heap [] := va_S.rf
  have hl := lv_entry ([.int a1, .int a2]) (n := 2) (Nat.le_of_ble_eq_true rfl)
  rw [lg_entry_eq]
  generalize (lg_sl ([.int a1, .int a2]) ++ List.replicate (2 - (lg_sl ([.int a1, .int a2])).length) Slot.unset).toArray = ls at hl ⊢
  have hl : lv_has ls 2 [(0, .int a1), (1, .int a2)] := hl
  unfold fJ15_checkIndex_7cf53 at h
  refine lv_iload_n hx hb dJ15_checkIndex_7cf53_0 rfl (lv_at hl 0 rfl) ?_
  refine lv_iload_n hx hb dJ15_checkIndex_7cf53_1 rfl (lv_at hl 1 rfl) ?_
  refine lv_null hx hb dJ15_checkIndex_7cf53_2 ?_
  obtain ⟨v1, c2, h⟩ := cl1_ok h
  refine cg_calli (va_runS (As := [.int a1, .int a2, .null]) (rest := []) ⟨hx, hb, hml, hown, hts⟩ (mJ3_checkIndex_8e157 l D G A ad Z a1 a2 v1 c2) (va_cwS 3 hts gJ15_checkIndex_7cf53_J3_checkIndex_8e157 rfl rfl rfl (by decide +kernel) ⟨Nat.le_of_ble_eq_true rfl, Nat.le_of_ble_eq_true rfl⟩) (cg_preS hI hK hN) rfl rfl hl.1 rfl (lv_room (Nat.le_of_ble_eq_true rfl)) dJ15_checkIndex_7cf53_3 ⟨Nat.le_of_ble_eq_true rfl, Nat.le_of_ble_eq_true rfl⟩) hS (fun H locs hI hN hS => ?_)
  exact W.iret hx hb hr (cg_endr h hI hK hN hS) hS.2.2 dJ15_checkIndex_7cf53_6
def fJx4a65c_elementData_915e3 (a0 : Nat) (a1 : Int32) (Z : CZ) : Option (Nat) := gd (cLv Z.2.2 3 a0) (gd (cLv Z.2.2 4 a0) (gd (gin a1 (Z.2.2 (10 + a0))) (cl1 (Z.2.1 4 a0 (Int32.toNatClampNeg a1)) (fun q4 => some q4))))
def rmJx4a65c_elementData_915e3 : Room := { frames := 1, cells := 0, slots := 0, locals := 30 }
set_option maxHeartbeats 4000000 in
set_option maxRecDepth 100000 in
theorem mJx4a65c_elementData_915e3 (l : Launch) (D : va_G) (G : CGT) (A : Nat → Prop) (ad : Nat → Nat → Nat) (Z : CZ) (a0 : Nat) (a1 : Int32) (rz : Nat) (h : fJx4a65c_elementData_915e3 a0 a1 Z = some rz) : Met l yJx4a65c_elementData_915e3 wsJx4a65c_elementData_915e3 rmJx4a65c_elementData_915e3 (va_Pc [.ref (ad 3 a0), .int a1] (cP D G A ad Z)) (cQr D G A ad (cEk a0) rz Z) 0 0 A := by
  refine Met.ofW (cc := cJx4a65c_elementData_915e3) (maxL := 2) (ret := some (.object "java/lang/Object")) (by decide) rfl ?_
  intro p e s m args below meth c s₁ B hml hv
  obtain ⟨rfl, hI, hN, hK⟩ := hv
  have hx := B.exec
  have hb := B.bytes
  have hr := B.returns
  have hts := atoms_spec (ws := wsJx4a65c_elementData_915e3) B.pre
  have hown : s.vm.findClass RJx4a65c = some m.cls := findClass_of_methodNamed B.named
  have hlocks := B.notSynchronized
  have iwsJx4a65c0 : ∀ w ∈ wsJx4a65c0, w ∈ wsJx4a65c_elementData_915e3 := fun w h => List.mem_cons_of_mem _ (List.mem_append_right _ h)
  have l0 := hts (.fieldLink RJx4a65c 9 "java/util/ArrayList" "elementData" "[Ljava/lang/Object;") (List.mem_of_getElem? (i := 1) rfl)
  have hS : va_S A s.heap s.heap [] := va_S.rf
  have hl := lv_entry ([.ref (ad 3 a0), .int a1]) (n := 2) (Nat.le_of_ble_eq_true rfl)
  rw [lg_entry_eq]
  generalize (lg_sl ([.ref (ad 3 a0), .int a1]) ++ List.replicate (2 - (lg_sl ([.ref (ad 3 a0), .int a1])).length) Slot.unset).toArray = ls at hl ⊢
  have hl : lv_has ls 2 [(0, .ref (ad 3 a0)), (1, .int a1)] := hl
  unfold fJx4a65c_elementData_915e3 at h
  refine lv_aload_n hx hb dJx4a65c_elementData_915e3_0 rfl (lv_at hl 0 rfl) ?_
  obtain ⟨g1, h⟩ := gd_ok h
  obtain ⟨g2, h⟩ := gd_ok h
  refine cg_get (T := TJx4a65c) (N := 3) (ci := 0) hx hb hts iwsJx4a65c0 hown hK hN g1 rfl rfl 1 (by decide) l0 rfl (v := .ref (ad 4 a0)) (congrArg (fun q => some (Value.ref q)) (if_neg (cLv4 g2))) dJx4a65c_elementData_915e3_1 ?_
  refine lv_iload_n hx hb dJx4a65c_elementData_915e3_4 rfl (lv_at hl 1 rfl) ?_
  obtain ⟨g3, h⟩ := gd_ok h
  obtain ⟨q4, c5, h⟩ := cl1_ok h
  refine cg_aldl hx hb hK hN g2 (gin_ok g3) c5 dJx4a65c_elementData_915e3_5 ?_
  exact W.aret hx hb hr (Or.inl ⟨_, rfl⟩) (Or.inr ⟨_, rfl⟩) (cg_endq h hI hK hN hS) hS.2.2 dJx4a65c_elementData_915e3_6
def fJx4a65c_get_915e3 (a0 : Nat) (a1 : Int32) (Z : CZ) : Option (Nat) := gd (cLv Z.2.2 3 a0) (cl1 (fJ15_checkIndex_7cf53 a1 (Z.1 3 a0 2) Z) (fun v2 => cl1 (fJx4a65c_elementData_915e3 a0 a1 Z) (fun q4 => some q4)))
def rmJx4a65c_get_915e3 : Room := { frames := 3, cells := 0, slots := 0, locals := 73 }
set_option maxHeartbeats 4000000 in
set_option maxRecDepth 100000 in
theorem mJx4a65c_get_915e3 (l : Launch) (D : va_G) (G : CGT) (A : Nat → Prop) (ad : Nat → Nat → Nat) (Z : CZ) (a0 : Nat) (a1 : Int32) (rz : Nat) (h : fJx4a65c_get_915e3 a0 a1 Z = some rz) : Met l yJx4a65c_get_915e3 wsJx4a65c_get_915e3 rmJx4a65c_get_915e3 (va_Pc [.ref (ad 3 a0), .int a1] (cP D G A ad Z)) (cQr D G A ad (cEk a0) rz Z) 0 0 A := by
  refine Met.ofW (cc := cJx4a65c_get_915e3) (maxL := 2) (ret := some (.object "java/lang/Object")) (by decide) rfl ?_
  intro p e s m args below meth c s₁ B hml hv
  obtain ⟨rfl, hI, hN, hK⟩ := hv
  have hx := B.exec
  have hb := B.bytes
  have hr := B.returns
  have hts := atoms_spec (ws := wsJx4a65c_get_915e3) B.pre
  have hown : s.vm.findClass RJx4a65c = some m.cls := findClass_of_methodNamed B.named
  have hlocks := B.notSynchronized
  have iwsJx4a65c0 : ∀ w ∈ wsJx4a65c0, w ∈ wsJx4a65c_get_915e3 := fun w h => List.mem_cons_of_mem _ (List.mem_append_right _ h)
  have l0 := hts (.fieldLink RJx4a65c 48 "java/util/ArrayList" "size" "I") (List.mem_of_getElem? (i := 1) rfl)
  have hS : va_S A s.heap s.heap [] := va_S.rf
  have hl := lv_entry ([.ref (ad 3 a0), .int a1]) (n := 2) (Nat.le_of_ble_eq_true rfl)
  rw [lg_entry_eq]
  generalize (lg_sl ([.ref (ad 3 a0), .int a1]) ++ List.replicate (2 - (lg_sl ([.ref (ad 3 a0), .int a1])).length) Slot.unset).toArray = ls at hl ⊢
  have hl : lv_has ls 2 [(0, .ref (ad 3 a0)), (1, .int a1)] := hl
  unfold fJx4a65c_get_915e3 at h
  refine lv_iload_n hx hb dJx4a65c_get_915e3_0 rfl (lv_at hl 1 rfl) ?_
  refine lv_aload_n hx hb dJx4a65c_get_915e3_1 rfl (lv_at hl 0 rfl) ?_
  obtain ⟨g1, h⟩ := gd_ok h
  refine cg_get (T := TJx4a65c) (N := 3) (ci := 0) hx hb hts iwsJx4a65c0 hown hK hN g1 rfl rfl 2 (by decide) l0 rfl (v := .int (Z.1 3 a0 2)) rfl dJx4a65c_get_915e3_2 ?_
  obtain ⟨v2, c3, h⟩ := cl1_ok h
  refine cg_calli (va_runS (As := [.int a1, .int (Z.1 3 a0 2)]) (rest := []) ⟨hx, hb, hml, hown, hts⟩ (mJ15_checkIndex_7cf53 l D G A ad Z a1 (Z.1 3 a0 2) v2 c3) (va_cwS 2 hts gJx4a65c_get_915e3_J15_checkIndex_7cf53 rfl rfl rfl (by decide +kernel) ⟨Nat.le_of_ble_eq_true rfl, Nat.le_of_ble_eq_true rfl⟩) (cg_preS hI hK hN) rfl rfl hl.1 rfl (lv_room (Nat.le_of_ble_eq_true rfl)) dJx4a65c_get_915e3_5 ⟨Nat.le_of_ble_eq_true rfl, Nat.le_of_ble_eq_true rfl⟩) hS (fun H locs hI hN hS => ?_)
  refine lv_pop hx hb dJx4a65c_get_915e3_8 rfl ?_
  refine lv_aload_n hx hb dJx4a65c_get_915e3_9 rfl (lv_at hl 0 rfl) ?_
  refine lv_iload_n hx hb dJx4a65c_get_915e3_10 rfl (lv_at hl 1 rfl) ?_
  obtain ⟨q4, c5, h⟩ := cl1_ok h
  refine cg_callr (k := (cEk a0)) (q := q4) (va_runV (As := [.int a1]) (rest := []) ⟨hx, hb, hml, hown, hts⟩ (mJx4a65c_elementData_915e3 l D G A ad Z a0 a1 q4 c5) (cwV 1 hts gJx4a65c_get_915e3_Jx4a65c_elementData_915e3 rfl rfl rfl (by decide +kernel) ⟨Nat.le_of_ble_eq_true rfl, Nat.le_of_ble_eq_true rfl⟩) (cg_preV hI hK hN g1 rfl (ci := 0) rfl) rfl rfl hl.1 rfl (lv_room (Nat.le_of_ble_eq_true rfl)) dJx4a65c_get_915e3_11 ⟨Nat.le_of_ble_eq_true rfl, Nat.le_of_ble_eq_true rfl⟩) hS (fun H locs hI hN hS => ?_)
  exact W.aret hx hb hr (Or.inl ⟨_, rfl⟩) (Or.inr ⟨_, rfl⟩) (cg_endq h hI hK hN hS) hS.2.2 dJx4a65c_get_915e3_14
def fJx4a65c_size_8abf5 (a0 : Nat) (Z : CZ) : Option (Int32) := gd (cLv Z.2.2 3 a0) (some (Z.1 3 a0 2))
def rmJx4a65c_size_8abf5 : Room := { frames := 1, cells := 0, slots := 0, locals := 30 }
set_option maxHeartbeats 4000000 in
set_option maxRecDepth 100000 in
theorem mJx4a65c_size_8abf5 (l : Launch) (D : va_G) (G : CGT) (A : Nat → Prop) (ad : Nat → Nat → Nat) (Z : CZ) (a0 : Nat) (rz : Int32) (h : fJx4a65c_size_8abf5 a0 Z = some rz) : Met l yJx4a65c_size_8abf5 wsJx4a65c_size_8abf5 rmJx4a65c_size_8abf5 (va_Pc [.ref (ad 3 a0)] (cP D G A ad Z)) (cQi D G A ad rz Z) 0 0 A := by
  refine Met.ofW (cc := cJx4a65c_size_8abf5) (maxL := 1) (ret := some .int) (by decide) rfl ?_
  intro p e s m args below meth c s₁ B hml hv
  obtain ⟨rfl, hI, hN, hK⟩ := hv
  have hx := B.exec
  have hb := B.bytes
  have hr := B.returns
  have hts := atoms_spec (ws := wsJx4a65c_size_8abf5) B.pre
  have hown : s.vm.findClass RJx4a65c = some m.cls := findClass_of_methodNamed B.named
  have hlocks := B.notSynchronized
  have iwsJx4a65c0 : ∀ w ∈ wsJx4a65c0, w ∈ wsJx4a65c_size_8abf5 := fun w h => List.mem_cons_of_mem _ (List.mem_append_right _ h)
  have l0 := hts (.fieldLink RJx4a65c 48 "java/util/ArrayList" "size" "I") (List.mem_of_getElem? (i := 1) rfl)
  have hS : va_S A s.heap s.heap [] := va_S.rf
  have hl := lv_entry ([.ref (ad 3 a0)]) (n := 1) (Nat.le_of_ble_eq_true rfl)
  rw [lg_entry_eq]
  generalize (lg_sl ([.ref (ad 3 a0)]) ++ List.replicate (1 - (lg_sl ([.ref (ad 3 a0)])).length) Slot.unset).toArray = ls at hl ⊢
  have hl : lv_has ls 1 [(0, .ref (ad 3 a0))] := hl
  unfold fJx4a65c_size_8abf5 at h
  refine lv_aload_n hx hb dJx4a65c_size_8abf5_0 rfl (lv_at hl 0 rfl) ?_
  obtain ⟨g1, h⟩ := gd_ok h
  refine cg_get (T := TJx4a65c) (N := 3) (ci := 0) hx hb hts iwsJx4a65c0 hown hK hN g1 rfl rfl 2 (by decide) l0 rfl (v := .int (Z.1 3 a0 2)) rfl dJx4a65c_size_8abf5_1 ?_
  exact W.iret hx hb hr (cg_endr h hI hK hN hS) hS.2.2 dJx4a65c_size_8abf5_4
def fJx4a65c_isEmpty_aae02_12 (Z : CZ) (t0 : Int32) : Option (Int32) := gd (gbo t0) (some t0)
def fJx4a65c_isEmpty_aae02 (a0 : Nat) (Z : CZ) : Option (Int32) := gd (cLv Z.2.2 3 a0) ((if (Z.1 3 a0 2) = 0 then fJx4a65c_isEmpty_aae02_12 Z (1 : Int32) else fJx4a65c_isEmpty_aae02_12 Z (0 : Int32)))
def rmJx4a65c_isEmpty_aae02 : Room := { frames := 1, cells := 0, slots := 0, locals := 30 }
set_option maxHeartbeats 4000000 in
set_option maxRecDepth 100000 in
theorem mJx4a65c_isEmpty_aae02 (l : Launch) (D : va_G) (G : CGT) (A : Nat → Prop) (ad : Nat → Nat → Nat) (Z : CZ) (a0 : Nat) (rz : Int32) (h : fJx4a65c_isEmpty_aae02 a0 Z = some rz) : Met l yJx4a65c_isEmpty_aae02 wsJx4a65c_isEmpty_aae02 rmJx4a65c_isEmpty_aae02 (va_Pc [.ref (ad 3 a0)] (cP D G A ad Z)) (cQi D G A ad rz Z) 0 0 A := by
  refine Met.ofW (cc := cJx4a65c_isEmpty_aae02) (maxL := 1) (ret := some .boolean) (by decide) rfl ?_
  intro p e s m args below meth c s₁ B hml hv
  obtain ⟨rfl, hI, hN, hK⟩ := hv
  have hx := B.exec
  have hb := B.bytes
  have hr := B.returns
  have hts := atoms_spec (ws := wsJx4a65c_isEmpty_aae02) B.pre
  have hown : s.vm.findClass RJx4a65c = some m.cls := findClass_of_methodNamed B.named
  have hlocks := B.notSynchronized
  have iwsJx4a65c0 : ∀ w ∈ wsJx4a65c0, w ∈ wsJx4a65c_isEmpty_aae02 := fun w h => List.mem_cons_of_mem _ (List.mem_append_right _ h)
  have l0 := hts (.fieldLink RJx4a65c 48 "java/util/ArrayList" "size" "I") (List.mem_of_getElem? (i := 1) rfl)
  have hS : va_S A s.heap s.heap [] := va_S.rf
  have hl := lv_entry ([.ref (ad 3 a0)]) (n := 1) (Nat.le_of_ble_eq_true rfl)
  rw [lg_entry_eq]
  generalize (lg_sl ([.ref (ad 3 a0)]) ++ List.replicate (1 - (lg_sl ([.ref (ad 3 a0)])).length) Slot.unset).toArray = ls at hl ⊢
  have hl : lv_has ls 1 [(0, .ref (ad 3 a0))] := hl
  have w12 : ∀ (t0 : Int32), fJx4a65c_isEmpty_aae02_12 Z t0 = some rz → cG p l e (headSpec wsJx4a65c_isEmpty_aae02 rmJx4a65c_isEmpty_aae02).room s m (([.ref (ad 3 a0)] : List Value).toArray) below meth c (MQ below (cQi D G A ad rz Z) (([.ref (ad 3 a0)] : List Value).toArray) s 0 0 A) D G A ad 0 0 1 Z 12 [] [.int t0] := by
    intro  t0 h H locs ls hI hN hS hl
    unfold fJx4a65c_isEmpty_aae02_12 at h
    obtain ⟨g2, h⟩ := gd_ok h
    exact W.zret hx hb hr (gbo_ok g2) (cg_endr h hI hK hN hS) hS.2.2 dJx4a65c_isEmpty_aae02_12
  unfold fJx4a65c_isEmpty_aae02 at h
  refine lv_aload_n hx hb dJx4a65c_isEmpty_aae02_0 rfl (lv_at hl 0 rfl) ?_
  obtain ⟨g1, h⟩ := gd_ok h
  refine cg_get (T := TJx4a65c) (N := 3) (ci := 0) hx hb hts iwsJx4a65c0 hown hK hN g1 rfl rfl 2 (by decide) l0 rfl (v := .int (Z.1 3 a0 2)) rfl dJx4a65c_isEmpty_aae02_1 ?_
  refine lv_if_ne (tgt := 11) hx hb dJx4a65c_isEmpty_aae02_4 (by decide) (fun hc => ?_) (fun hc => ?_)
  · have h := ite_f h hc
    refine lv_iconst (v := (0 : Int32)) hx hb dJx4a65c_isEmpty_aae02_11 (by decide) ?_
    exact w12  (0 : Int32) h _ _ _ hI hN hS (lv_sub hl [] rfl)
  · have h := ite_t h hc
    refine lv_iconst (v := (1 : Int32)) hx hb dJx4a65c_isEmpty_aae02_7 (by decide) ?_
    refine lv_goto (tgt := 12) hx hb dJx4a65c_isEmpty_aae02_8 (by decide) ?_
    exact w12  (1 : Int32) h _ _ _ hI hN hS (lv_sub hl [] rfl)
def fX0_phraseCount (a0 : Nat) (Z : CZ) : Option (Int32) := gd (cLv Z.2.2 10 a0) (some ((Z.1 10 a0 3) / (4 : Int32)))
def rmX0_phraseCount : Room := { frames := 1, cells := 0, slots := 0, locals := 30 }
set_option maxHeartbeats 4000000 in
set_option maxRecDepth 100000 in
theorem mX0_phraseCount (l : Launch) (D : va_G) (G : CGT) (A : Nat → Prop) (ad : Nat → Nat → Nat) (Z : CZ) (a0 : Nat) (rz : Int32) (h : fX0_phraseCount a0 Z = some rz) : Met l yX0_phraseCount wsX0_phraseCount rmX0_phraseCount (va_Pc [.ref (ad 10 a0)] (cP D G A ad Z)) (cQi D G A ad rz Z) 0 0 A := by
  refine Met.ofW (cc := cX0_phraseCount) (maxL := 1) (ret := some .int) (by decide) rfl ?_
  intro p e s m args below meth c s₁ B hml hv
  obtain ⟨rfl, hI, hN, hK⟩ := hv
  have hx := B.exec
  have hb := B.bytes
  have hr := B.returns
  have hts := atoms_spec (ws := wsX0_phraseCount) B.pre
  have hown : s.vm.findClass RX0 = some m.cls := findClass_of_methodNamed B.named
  have hlocks := B.notSynchronized
  have iwsX00 : ∀ w ∈ wsX00, w ∈ wsX0_phraseCount := fun w h => List.mem_cons_of_mem _ (List.mem_append_right _ h)
  have l0 := hts (.fieldLink RX0 38 "Panyard$Band" "noteCount" "I") (List.mem_of_getElem? (i := 1) rfl)
  have hS : va_S A s.heap s.heap [] := va_S.rf
  have hl := lv_entry ([.ref (ad 10 a0)]) (n := 1) (Nat.le_of_ble_eq_true rfl)
  rw [lg_entry_eq]
  generalize (lg_sl ([.ref (ad 10 a0)]) ++ List.replicate (1 - (lg_sl ([.ref (ad 10 a0)])).length) Slot.unset).toArray = ls at hl ⊢
  have hl : lv_has ls 1 [(0, .ref (ad 10 a0))] := hl
  unfold fX0_phraseCount at h
  refine lv_aload_n hx hb dX0_phraseCount_0 rfl (lv_at hl 0 rfl) ?_
  obtain ⟨g1, h⟩ := gd_ok h
  refine cg_get (T := TX0) (N := 7) (ci := 1) hx hb hts iwsX00 hown hK hN g1 rfl rfl 3 (by decide) l0 rfl (v := .int (Z.1 10 a0 3)) rfl dX0_phraseCount_1 ?_
  refine lv_iconst (v := (4 : Int32)) hx hb dX0_phraseCount_4 (by decide) ?_
  refine lv_idiv hx hb dX0_phraseCount_5 (by decide) ?_
  exact W.iret hx hb hr (cg_endr h hI hK hN hS) hS.2.2 dX0_phraseCount_6
def fX0_seatOf_31 (Z : CZ) (x2 : Int32) : Option (Int32) := some x2
def fX0_seatOf_39 (Z : CZ) : Option (Int32) := some (-1 : Int32)
def fX0_seatOf_2 (Z : CZ) (k2 : Nat → Nat → Int32 → Option (Int32)) (x0 : Nat) (x1 : Nat) (x2 : Int32) : Option (Int32) := gd (cLv Z.2.2 10 x0) (gd (cLv Z.2.2 3 (x0 + 4)) (cl1 (fJx4a65c_size_8abf5 (x0 + 4) Z) (fun v3 => (if v3 ≤ x2 then fX0_seatOf_39 Z else cl1 (fJx4a65c_get_915e3 (x0 + 4) x2 Z) (fun q5 => gd (cLv Z.2.2 13 q5) (cl1 (Z.2.1 13 q5 0) (fun q8 => gd (cLv Z.2.2 9 q8) (gd (cLv Z.2.2 9 x1) ((if q8 = x1 then fX0_seatOf_31 Z x2 else bnd (x2 + (1 : Int32)) (fun v12 => k2 x0 x1 v12)))))))))))
def fX0_seatOf (a0 : Nat) (a1 : Nat) (Z : CZ) : Option (Int32) := lf3 (fX0_seatOf_2 Z) 100 a0 a1 (0 : Int32)
def rmX0_seatOf : Room := { frames := 4, cells := 0, slots := 0, locals := 94 }
set_option maxHeartbeats 4000000 in
set_option maxRecDepth 100000 in
theorem mX0_seatOf (l : Launch) (D : va_G) (G : CGT) (A : Nat → Prop) (ad : Nat → Nat → Nat) (Z : CZ) (a0 : Nat) (a1 : Nat) (rz : Int32) (h : fX0_seatOf a0 a1 Z = some rz) : Met l yX0_seatOf wsX0_seatOf rmX0_seatOf (va_Pc [.ref (ad 10 a0), .ref (ad 9 a1)] (cP D G A ad Z)) (cQi D G A ad rz Z) 0 0 A := by
  refine Met.ofW (cc := cX0_seatOf) (maxL := 3) (ret := some .int) (by decide) rfl ?_
  intro p e s m args below meth c s₁ B hml hv
  obtain ⟨rfl, hI, hN, hK⟩ := hv
  have hx := B.exec
  have hb := B.bytes
  have hr := B.returns
  have hts := atoms_spec (ws := wsX0_seatOf) B.pre
  have hown : s.vm.findClass RX0 = some m.cls := findClass_of_methodNamed B.named
  have hlocks := B.notSynchronized
  have iwsX00 : ∀ w ∈ wsX00, w ∈ wsX0_seatOf := fun w h => List.mem_cons_of_mem _ (List.mem_append_left _ (List.mem_append_left _ (List.mem_append_right _ h)))
  have iwsX50 : ∀ w ∈ wsX50, w ∈ wsX0_seatOf := fun w h => List.mem_cons_of_mem _ (List.mem_append_left _ (List.mem_append_right _ h))
  have l0 := hts (.fieldLink RX0 12 "Panyard$Band" "seats" "Ljava/util/ArrayList;") (List.mem_of_getElem? (i := 1) rfl)
  have l1 := hts (.classLink RX0 49 "Panyard$Seat") (List.mem_of_getElem? (i := 2) rfl)
  have l2 := hts (.fieldLink RX0 51 "Panyard$Seat" "player" "LPanyard$Player;") (List.mem_of_getElem? (i := 3) rfl)
  have hS : va_S A s.heap s.heap [] := va_S.rf
  have hl := lv_entry ([.ref (ad 10 a0), .ref (ad 9 a1)]) (n := 3) (Nat.le_of_ble_eq_true rfl)
  rw [lg_entry_eq]
  generalize (lg_sl ([.ref (ad 10 a0), .ref (ad 9 a1)]) ++ List.replicate (3 - (lg_sl ([.ref (ad 10 a0), .ref (ad 9 a1)])).length) Slot.unset).toArray = ls at hl ⊢
  have hl : lv_has ls 3 [(0, .ref (ad 10 a0)), (1, .ref (ad 9 a1))] := hl
  have w31 : ∀ (x2 : Int32), fX0_seatOf_31 Z x2 = some rz → cG p l e (headSpec wsX0_seatOf rmX0_seatOf).room s m (([.ref (ad 10 a0), .ref (ad 9 a1)] : List Value).toArray) below meth c (MQ below (cQi D G A ad rz Z) (([.ref (ad 10 a0), .ref (ad 9 a1)] : List Value).toArray) s 0 0 A) D G A ad 0 0 3 Z 31 [(2, .int x2)] [] := by
    intro  x2 h H locs ls hI hN hS hl
    unfold fX0_seatOf_31 at h
    refine lv_iload_n hx hb dX0_seatOf_31 rfl (lv_at hl 0 rfl) ?_
    exact W.iret hx hb hr (cg_endr h hI hK hN hS) hS.2.2 dX0_seatOf_32
  have w39 : fX0_seatOf_39 Z  = some rz → cG p l e (headSpec wsX0_seatOf rmX0_seatOf).room s m (([.ref (ad 10 a0), .ref (ad 9 a1)] : List Value).toArray) below meth c (MQ below (cQi D G A ad rz Z) (([.ref (ad 10 a0), .ref (ad 9 a1)] : List Value).toArray) s 0 0 A) D G A ad 0 0 3 Z 39 [] [] := by
    intro   h H locs ls hI hN hS hl
    unfold fX0_seatOf_39 at h
    refine lv_iconst (v := (-1 : Int32)) hx hb dX0_seatOf_39 (by decide) ?_
    exact W.iret hx hb hr (cg_endr h hI hK hN hS) hS.2.2 dX0_seatOf_40
  have w2 : ∀ (x0 : Nat) (x1 : Nat) (x2 : Int32), lf3 (fX0_seatOf_2 Z) 100 x0 x1 x2 = some rz → cG p l e (headSpec wsX0_seatOf rmX0_seatOf).room s m (([.ref (ad 10 a0), .ref (ad 9 a1)] : List Value).toArray) below meth c (MQ below (cQi D G A ad rz Z) (([.ref (ad 10 a0), .ref (ad 9 a1)] : List Value).toArray) s 0 0 A) D G A ad 0 0 3 Z 2 [(0, .ref (ad 10 x0)), (1, .ref (ad 9 x1)), (2, .int x2)] [] := by
    refine lf3_ok (P := (fun x0 x1 x2 => cG p l e (headSpec wsX0_seatOf rmX0_seatOf).room s m (([.ref (ad 10 a0), .ref (ad 9 a1)] : List Value).toArray) below meth c (MQ below (cQi D G A ad rz Z) (([.ref (ad 10 a0), .ref (ad 9 a1)] : List Value).toArray) s 0 0 A) D G A ad 0 0 3 Z 2 [(0, .ref (ad 10 x0)), (1, .ref (ad 9 x1)), (2, .int x2)] [])) (fun k2 hk2 x0 x1 x2 h H locs ls hI hN hS hl => ?_) 100
    unfold fX0_seatOf_2 at h
    refine lv_iload_n hx hb dX0_seatOf_2 rfl (lv_at hl 2 rfl) ?_
    refine lv_aload_n hx hb dX0_seatOf_3 rfl (lv_at hl 0 rfl) ?_
    obtain ⟨g1, h⟩ := gd_ok h
    refine cg_get (T := TX0) (N := 7) (ci := 1) hx hb hts iwsX00 hown hK hN g1 rfl rfl 0 (by decide) l0 rfl (v := .ref (ad 3 (x0 + 4))) rfl dX0_seatOf_4 ?_
    obtain ⟨g2, h⟩ := gd_ok h
    obtain ⟨v3, c4, h⟩ := cl1_ok h
    refine cg_calli (va_runV (As := []) (rest := [.int x2]) ⟨hx, hb, hml, hown, hts⟩ (mJx4a65c_size_8abf5 l D G A ad Z (x0 + 4) v3 c4) (cwV 0 hts gX0_seatOf_Jx4a65c_size_8abf5 rfl rfl rfl (by decide +kernel) ⟨Nat.le_of_ble_eq_true rfl, Nat.le_of_ble_eq_true rfl⟩) (cg_preV hI hK hN g2 rfl (ci := 0) rfl) rfl rfl hl.1 rfl (lv_room (Nat.le_of_ble_eq_true rfl)) dX0_seatOf_7 ⟨Nat.le_of_ble_eq_true rfl, Nat.le_of_ble_eq_true rfl⟩) hS (fun H locs hI hN hS => ?_)
    refine lv_icmp_ge (tgt := 39) hx hb dX0_seatOf_10 (by decide) (fun hc => ?_) (fun hc => ?_)
    · have h := ite_t h hc
      exact w39   h _ _ _ hI hN hS (lv_sub hl [] rfl)
    · have h := ite_f h hc
      refine lv_aload_n hx hb dX0_seatOf_13 rfl (lv_at hl 0 rfl) ?_
      refine cg_get (T := TX0) (N := 7) (ci := 1) hx hb hts iwsX00 hown hK hN g1 rfl rfl 0 (by decide) l0 rfl (v := .ref (ad 3 (x0 + 4))) rfl dX0_seatOf_14 ?_
      refine lv_iload_n hx hb dX0_seatOf_17 rfl (lv_at hl 2 rfl) ?_
      obtain ⟨q5, c6, h⟩ := cl1_ok h
      refine cg_callr (k := 13) (q := q5) (va_runV (As := [.int x2]) (rest := []) ⟨hx, hb, hml, hown, hts⟩ (mJx4a65c_get_915e3 l D G A ad Z (x0 + 4) x2 q5 c6) (cwV 1 hts gX0_seatOf_Jx4a65c_get_915e3 rfl rfl rfl (by decide +kernel) ⟨Nat.le_of_ble_eq_true rfl, Nat.le_of_ble_eq_true rfl⟩) (cg_preV hI hK hN g2 rfl (ci := 0) rfl) rfl rfl hl.1 rfl (lv_room (Nat.le_of_ble_eq_true rfl)) dX0_seatOf_18 ⟨Nat.le_of_ble_eq_true rfl, Nat.le_of_ble_eq_true rfl⟩) hS (fun H locs hI hN hS => ?_)
      obtain ⟨g7, h⟩ := gd_ok h
      refine va_castS hx hb hown l1 (hK.1.1 6 _ rfl).2 (cg_recv hK hN g7 rfl (ci := 6) rfl) dX0_seatOf_21 ?_
      obtain ⟨q8, c9, h⟩ := cl1_ok h
      refine cg_get (T := TX5) (N := 2) (ci := 6) hx hb hts iwsX50 hown hK hN g7 rfl rfl 0 (by decide) l2 rfl (v := .ref (ad 9 q8)) (congrArg (fun o => some (va_rf (Option.map (ad 9) o))) c9) dX0_seatOf_24 ?_
      refine lv_aload_n hx hb dX0_seatOf_27 rfl (lv_at hl 1 rfl) ?_
      obtain ⟨g10, h⟩ := gd_ok h
      obtain ⟨g11, h⟩ := gd_ok h
      refine lv_acmp_ne (rx := some (ad 9 q8)) (ry := some (ad 9 x1)) (tgt := 33) hx hb dX0_seatOf_28 (by decide) (fun hc => ?_) (fun hc => ?_)
      · have h := ite_f h (fun z => hc (by rw [z]))
        obtain ⟨v12, ev12⟩ : ∃ y : Int32, y = (x2 + (1 : Int32)) := ⟨_, rfl⟩
        have h := bnd_ok h ev12
        refine lv_iinc (v := v12) (lv' := [(2, .int v12), (0, .ref (ad 10 x0)), (1, .ref (ad 9 x1))]) hx hb dX0_seatOf_33 hl (k := 2) rfl (by rw [ev12]; rfl) (by decide) rfl (fun ls hl => ?_)
        refine lv_goto (tgt := 2) hx hb dX0_seatOf_36 (by decide) ?_
        exact hk2 x0 x1 v12 h _ _ _ hI hN hS (lv_sub hl [1, 2, 0] rfl)
      · have h := ite_t h (hI.1 _ _ _ _ g10 g11 (Option.some.inj hc)).2
        exact w31  x2 h _ _ _ hI hN hS (lv_sub hl [2] rfl)
  unfold fX0_seatOf at h
  refine lv_iconst (v := (0 : Int32)) hx hb dX0_seatOf_0 (by decide) ?_
  refine lv_istore_n (lv' := [(2, .int (0 : Int32)), (0, .ref (ad 10 a0)), (1, .ref (ad 9 a1))]) hx hb dX0_seatOf_1 rfl hl (by decide) rfl (fun ls hl => ?_)
  exact w2  a0 a1 (0 : Int32) h _ _ _ hI hN hS (lv_sub hl [1, 2, 0] rfl)
def fX0_spoilPhrase_42 (k2 : Nat → Int32 → Int32 → CZ → Option (CZ)) (x0 : Nat) (x1 : Int32) (x2 : Int32) (Z : CZ) : Option (CZ) := bnd (x2 + (1 : Int32)) (fun v11 => k2 x0 x1 v11 Z)
def fX0_spoilPhrase_48 (Z : CZ) : Option (CZ) := some Z
def fX0_spoilPhrase_2 (k2 : Nat → Int32 → Int32 → CZ → Option (CZ)) (x0 : Nat) (x1 : Int32) (x2 : Int32) (Z : CZ) : Option (CZ) := gd (cLv Z.2.2 10 x0) (gd (cLv Z.2.2 3 (x0 + 4)) (cl1 (fJx4a65c_size_8abf5 (x0 + 4) Z) (fun v3 => (if v3 ≤ x2 then fX0_spoilPhrase_48 Z else cl1 (fJx4a65c_get_915e3 (x0 + 4) x2 Z) (fun q5 => gd (cLv Z.2.2 13 q5) (gd (gin x1 6) ((if (Z.1 14 q5 (Int32.toNatClampNeg x1)) = (1 : Int32) then gd (gin x1 6) (bnd (cuI Z 14 q5 (upd (Z.1 14 q5) (Int32.toNatClampNeg x1) (2 : Int32))) (fun Z10 => fX0_spoilPhrase_42 k2 x0 x1 x2 Z10)) else fX0_spoilPhrase_42 k2 x0 x1 x2 Z))))))))
def fX0_spoilPhrase (a0 : Nat) (a1 : Int32) (Z : CZ) : Option (CZ) := lf4 fX0_spoilPhrase_2 100 a0 a1 (0 : Int32) Z
def rmX0_spoilPhrase : Room := { frames := 4, cells := 0, slots := 0, locals := 94 }
set_option maxHeartbeats 4000000 in
set_option maxRecDepth 100000 in
theorem mX0_spoilPhrase (l : Launch) (D : va_G) (G : CGT) (A : Nat → Prop) (ad : Nat → Nat → Nat) (Z : CZ) (a0 : Nat) (a1 : Int32) (Zz : CZ) (h : fX0_spoilPhrase a0 a1 Z = some Zz) : Met l yX0_spoilPhrase wsX0_spoilPhrase rmX0_spoilPhrase (va_Pc [.ref (ad 10 a0), .int a1] (cP D G A ad Z)) (cQv D G A ad Zz) 0 0 A := by
  refine Met.ofW (cc := cX0_spoilPhrase) (maxL := 4) (ret := none) (by decide) rfl ?_
  intro p e s m args below meth c s₁ B hml hv
  obtain ⟨rfl, hI, hN, hK⟩ := hv
  have hx := B.exec
  have hb := B.bytes
  have hr := B.returns
  have hts := atoms_spec (ws := wsX0_spoilPhrase) B.pre
  have hown : s.vm.findClass RX0 = some m.cls := findClass_of_methodNamed B.named
  have hlocks := B.notSynchronized
  have iwsX00 : ∀ w ∈ wsX00, w ∈ wsX0_spoilPhrase := fun w h => List.mem_cons_of_mem _ (List.mem_append_left _ (List.mem_append_left _ (List.mem_append_right _ h)))
  have iwsX50 : ∀ w ∈ wsX50, w ∈ wsX0_spoilPhrase := fun w h => List.mem_cons_of_mem _ (List.mem_append_left _ (List.mem_append_right _ h))
  have l0 := hts (.fieldLink RX0 12 "Panyard$Band" "seats" "Ljava/util/ArrayList;") (List.mem_of_getElem? (i := 1) rfl)
  have l1 := hts (.classLink RX0 49 "Panyard$Seat") (List.mem_of_getElem? (i := 2) rfl)
  have l2 := hts (.fieldLink RX0 55 "Panyard$Seat" "known" "[I") (List.mem_of_getElem? (i := 3) rfl)
  have hS : va_S A s.heap s.heap [] := va_S.rf
  have hl := lv_entry ([.ref (ad 10 a0), .int a1]) (n := 4) (Nat.le_of_ble_eq_true rfl)
  rw [lg_entry_eq]
  generalize (lg_sl ([.ref (ad 10 a0), .int a1]) ++ List.replicate (4 - (lg_sl ([.ref (ad 10 a0), .int a1])).length) Slot.unset).toArray = ls at hl ⊢
  have hl : lv_has ls 4 [(0, .ref (ad 10 a0)), (1, .int a1)] := hl
  have w42 : ∀ (k2 : Nat → Int32 → Int32 → CZ → Option (CZ)) (hk2 : (∀ (x0 : Nat) (x1 : Int32) (x2 : Int32) (Z : CZ), k2 x0 x1 x2 Z = some Zz → cG p l e (headSpec wsX0_spoilPhrase rmX0_spoilPhrase).room s m (([.ref (ad 10 a0), .int a1] : List Value).toArray) below meth c (MQ below (cQv D G A ad Zz) (([.ref (ad 10 a0), .int a1] : List Value).toArray) s 0 0 A) D G A ad 0 0 4 Z 2 [(0, .ref (ad 10 x0)), (1, .int x1), (2, .int x2)] [])) (x0 : Nat) (x1 : Int32) (x2 : Int32) (Z : CZ), fX0_spoilPhrase_42 k2 x0 x1 x2 Z = some Zz → cG p l e (headSpec wsX0_spoilPhrase rmX0_spoilPhrase).room s m (([.ref (ad 10 a0), .int a1] : List Value).toArray) below meth c (MQ below (cQv D G A ad Zz) (([.ref (ad 10 a0), .int a1] : List Value).toArray) s 0 0 A) D G A ad 0 0 4 Z 42 [(0, .ref (ad 10 x0)), (1, .int x1), (2, .int x2)] [] := by
    intro k2 hk2 x0 x1 x2 Z h H locs ls hI hN hS hl
    unfold fX0_spoilPhrase_42 at h
    obtain ⟨v11, ev11⟩ : ∃ y : Int32, y = (x2 + (1 : Int32)) := ⟨_, rfl⟩
    have h := bnd_ok h ev11
    refine lv_iinc (v := v11) (lv' := [(2, .int v11), (0, .ref (ad 10 x0)), (1, .int x1)]) hx hb dX0_spoilPhrase_42 hl (k := 2) rfl (by rw [ev11]; rfl) (by decide) rfl (fun ls hl => ?_)
    refine lv_goto (tgt := 2) hx hb dX0_spoilPhrase_45 (by decide) ?_
    exact hk2 x0 x1 v11 Z h _ _ _ hI hN hS (lv_sub hl [1, 2, 0] rfl)
  have w48 : ∀ (Z : CZ), fX0_spoilPhrase_48  Z = some Zz → cG p l e (headSpec wsX0_spoilPhrase rmX0_spoilPhrase).room s m (([.ref (ad 10 a0), .int a1] : List Value).toArray) below meth c (MQ below (cQv D G A ad Zz) (([.ref (ad 10 a0), .int a1] : List Value).toArray) s 0 0 A) D G A ad 0 0 4 Z 48 [] [] := by
    intro  Z h H locs ls hI hN hS hl
    unfold fX0_spoilPhrase_48 at h
    exact W.vret hx hb hr (cg_endv h hI hK hN hS) hS.2.2 dX0_spoilPhrase_48
  have w2 : ∀ (x0 : Nat) (x1 : Int32) (x2 : Int32) (Z : CZ), lf4 fX0_spoilPhrase_2 100 x0 x1 x2 Z = some Zz → cG p l e (headSpec wsX0_spoilPhrase rmX0_spoilPhrase).room s m (([.ref (ad 10 a0), .int a1] : List Value).toArray) below meth c (MQ below (cQv D G A ad Zz) (([.ref (ad 10 a0), .int a1] : List Value).toArray) s 0 0 A) D G A ad 0 0 4 Z 2 [(0, .ref (ad 10 x0)), (1, .int x1), (2, .int x2)] [] := by
    refine lf4_ok (P := (fun x0 x1 x2 Z => cG p l e (headSpec wsX0_spoilPhrase rmX0_spoilPhrase).room s m (([.ref (ad 10 a0), .int a1] : List Value).toArray) below meth c (MQ below (cQv D G A ad Zz) (([.ref (ad 10 a0), .int a1] : List Value).toArray) s 0 0 A) D G A ad 0 0 4 Z 2 [(0, .ref (ad 10 x0)), (1, .int x1), (2, .int x2)] [])) (fun k2 hk2 x0 x1 x2 Z h H locs ls hI hN hS hl => ?_) 100
    unfold fX0_spoilPhrase_2 at h
    refine lv_iload_n hx hb dX0_spoilPhrase_2 rfl (lv_at hl 2 rfl) ?_
    refine lv_aload_n hx hb dX0_spoilPhrase_3 rfl (lv_at hl 0 rfl) ?_
    obtain ⟨g1, h⟩ := gd_ok h
    refine cg_get (T := TX0) (N := 7) (ci := 1) hx hb hts iwsX00 hown hK hN g1 rfl rfl 0 (by decide) l0 rfl (v := .ref (ad 3 (x0 + 4))) rfl dX0_spoilPhrase_4 ?_
    obtain ⟨g2, h⟩ := gd_ok h
    obtain ⟨v3, c4, h⟩ := cl1_ok h
    refine cg_calli (va_runV (As := []) (rest := [.int x2]) ⟨hx, hb, hml, hown, hts⟩ (mJx4a65c_size_8abf5 l D G A ad Z (x0 + 4) v3 c4) (cwV 0 hts gX0_spoilPhrase_Jx4a65c_size_8abf5 rfl rfl rfl (by decide +kernel) ⟨Nat.le_of_ble_eq_true rfl, Nat.le_of_ble_eq_true rfl⟩) (cg_preV hI hK hN g2 rfl (ci := 0) rfl) rfl rfl hl.1 rfl (lv_room (Nat.le_of_ble_eq_true rfl)) dX0_spoilPhrase_7 ⟨Nat.le_of_ble_eq_true rfl, Nat.le_of_ble_eq_true rfl⟩) hS (fun H locs hI hN hS => ?_)
    refine lv_icmp_ge (tgt := 48) hx hb dX0_spoilPhrase_10 (by decide) (fun hc => ?_) (fun hc => ?_)
    · have h := ite_t h hc
      exact w48  Z h _ _ _ hI hN hS (lv_sub hl [] rfl)
    · have h := ite_f h hc
      refine lv_aload_n hx hb dX0_spoilPhrase_13 rfl (lv_at hl 0 rfl) ?_
      refine cg_get (T := TX0) (N := 7) (ci := 1) hx hb hts iwsX00 hown hK hN g1 rfl rfl 0 (by decide) l0 rfl (v := .ref (ad 3 (x0 + 4))) rfl dX0_spoilPhrase_14 ?_
      refine lv_iload_n hx hb dX0_spoilPhrase_17 rfl (lv_at hl 2 rfl) ?_
      obtain ⟨q5, c6, h⟩ := cl1_ok h
      refine cg_callr (k := 13) (q := q5) (va_runV (As := [.int x2]) (rest := []) ⟨hx, hb, hml, hown, hts⟩ (mJx4a65c_get_915e3 l D G A ad Z (x0 + 4) x2 q5 c6) (cwV 1 hts gX0_spoilPhrase_Jx4a65c_get_915e3 rfl rfl rfl (by decide +kernel) ⟨Nat.le_of_ble_eq_true rfl, Nat.le_of_ble_eq_true rfl⟩) (cg_preV hI hK hN g2 rfl (ci := 0) rfl) rfl rfl hl.1 rfl (lv_room (Nat.le_of_ble_eq_true rfl)) dX0_spoilPhrase_18 ⟨Nat.le_of_ble_eq_true rfl, Nat.le_of_ble_eq_true rfl⟩) hS (fun H locs hI hN hS => ?_)
      obtain ⟨g7, h⟩ := gd_ok h
      refine va_castS hx hb hown l1 (hK.1.1 6 _ rfl).2 (cg_recv hK hN g7 rfl (ci := 6) rfl) dX0_spoilPhrase_21 ?_
      refine lv_astore_n (lv' := [(3, .ref (ad 13 q5)), (0, .ref (ad 10 x0)), (1, .int x1), (2, .int x2)]) hx hb dX0_spoilPhrase_24 rfl hl (by decide) rfl (fun ls hl => ?_)
      refine lv_aload_n hx hb dX0_spoilPhrase_25 rfl (lv_at hl 0 rfl) ?_
      refine cg_get (T := TX5) (N := 2) (ci := 6) hx hb hts iwsX50 hown hK hN g7 rfl rfl 1 (by decide) l2 rfl (v := .ref (ad 14 q5)) rfl dX0_spoilPhrase_26 ?_
      refine lv_iload_n hx hb dX0_spoilPhrase_29 rfl (lv_at hl 2 rfl) ?_
      obtain ⟨g8, h⟩ := gd_ok h
      refine cg_ild hx hb hK hN g7 rfl (gin_ok g8) dX0_spoilPhrase_30 ?_
      refine lv_iconst (v := (1 : Int32)) hx hb dX0_spoilPhrase_31 (by decide) ?_
      refine lv_icmp_ne (tgt := 42) hx hb dX0_spoilPhrase_32 (by decide) (fun hc => ?_) (fun hc => ?_)
      · have h := ite_f h hc
        exact w42 k2 hk2 x0 x1 x2 Z h _ _ _ hI hN hS (lv_sub hl [1, 2, 3] rfl)
      · have h := ite_t h hc
        refine lv_aload_n hx hb dX0_spoilPhrase_35 rfl (lv_at hl 0 rfl) ?_
        refine cg_get (T := TX5) (N := 2) (ci := 6) hx hb hts iwsX50 hown hK hN g7 rfl rfl 1 (by decide) l2 rfl (v := .ref (ad 14 q5)) rfl dX0_spoilPhrase_36 ?_
        refine lv_iload_n hx hb dX0_spoilPhrase_39 rfl (lv_at hl 2 rfl) ?_
        refine lv_iconst (v := (2 : Int32)) hx hb dX0_spoilPhrase_40 (by decide) ?_
        obtain ⟨g9, h⟩ := gd_ok h
        obtain ⟨Z10, eZ10⟩ : ∃ y : CZ, y = (cuI Z 14 q5 (upd (Z.1 14 q5) (Int32.toNatClampNeg x1) (2 : Int32))) := ⟨_, rfl⟩
        have h := bnd_ok h eZ10
        refine cg_ist hx hb hI hK hN hS g7 rfl (gin_ok g9) rfl dX0_spoilPhrase_41 eZ10 (fun H locs hI hN hS => ?_)
        exact w42 k2 hk2 x0 x1 x2 Z10 h _ _ _ hI hN hS (lv_sub hl [1, 2, 3] rfl)
  unfold fX0_spoilPhrase at h
  refine lv_iconst (v := (0 : Int32)) hx hb dX0_spoilPhrase_0 (by decide) ?_
  refine lv_istore_n (lv' := [(2, .int (0 : Int32)), (0, .ref (ad 10 a0)), (1, .int a1)]) hx hb dX0_spoilPhrase_1 rfl hl (by decide) rfl (fun ls hl => ?_)
  exact w2  a0 a1 (0 : Int32) Z h _ _ _ hI hN hS (lv_sub hl [1, 2, 0] rfl)
def fX5_learn_29 (Z : CZ) (t0 : Int32) : Option (Int32) := some t0
def fX5_learn_28 (Z : CZ) : Option (Int32) := fX5_learn_29 Z (2 : Int32)
def fX5_learn_72 (Z : CZ) (t0 : Int32) : Option (Int32) := some t0
def fX5_learn_70 (Z : CZ) (x5 : Int32) : Option (Int32) := fX5_learn_72 Z x5
def fX5_learn_47 (Z : CZ) (x0 : Nat) (t0 : Int32) : Option (Int32) := (if t0 = (1 : Int32) then gd (cLv Z.2.2 13 x0) (cl1 (Z.2.1 13 x0 0) (fun q5 => gd (cLv Z.2.2 9 q5) ((if (Z.1 9 q5 3) < (2 : Int32) then fX5_learn_70 Z t0 else fX5_learn_72 Z (2 : Int32))))) else fX5_learn_70 Z t0)
def fX5_learn (a0 : Nat) (a1 : Int32) (a2 : Int32) (a3 : Int32) (Z : CZ) : Option (Int32) := gd (cLv Z.2.2 13 a0) (gd (gin a1 6) (bnd (Z.1 14 a0 (Int32.toNatClampNeg a1)) (fun v3 => (if v3 = (2 : Int32) then (if a2 = (1 : Int32) then (if a3 = (1 : Int32) then fX5_learn_29 Z (1 : Int32) else fX5_learn_28 Z) else fX5_learn_28 Z) else (if v3 = (1 : Int32) then some (1 : Int32) else (if a2 = 0 then fX5_learn_47 Z a0 a3 else fX5_learn_47 Z a0 a2))))))
def rmX5_learn : Room := { frames := 1, cells := 0, slots := 0, locals := 30 }
set_option maxHeartbeats 4000000 in
set_option maxRecDepth 100000 in
theorem mX5_learn (l : Launch) (D : va_G) (G : CGT) (A : Nat → Prop) (ad : Nat → Nat → Nat) (Z : CZ) (a0 : Nat) (a1 : Int32) (a2 : Int32) (a3 : Int32) (rz : Int32) (h : fX5_learn a0 a1 a2 a3 Z = some rz) : Met l yX5_learn wsX5_learn rmX5_learn (va_Pc [.ref (ad 13 a0), .int a1, .int a2, .int a3] (cP D G A ad Z)) (cQi D G A ad rz Z) 0 0 A := by
  refine Met.ofW (cc := cX5_learn) (maxL := 6) (ret := some .int) (by decide) rfl ?_
  intro p e s m args below meth c s₁ B hml hv
  obtain ⟨rfl, hI, hN, hK⟩ := hv
  have hx := B.exec
  have hb := B.bytes
  have hr := B.returns
  have hts := atoms_spec (ws := wsX5_learn) B.pre
  have hown : s.vm.findClass RX5 = some m.cls := findClass_of_methodNamed B.named
  have hlocks := B.notSynchronized
  have iwsX50 : ∀ w ∈ wsX50, w ∈ wsX5_learn := fun w h => List.mem_cons_of_mem _ (List.mem_append_left _ (List.mem_append_right _ h))
  have iwsX40 : ∀ w ∈ wsX40, w ∈ wsX5_learn := fun w h => List.mem_cons_of_mem _ (List.mem_append_right _ h)
  have l0 := hts (.fieldLink RX5 9 "Panyard$Seat" "known" "[I") (List.mem_of_getElem? (i := 1) rfl)
  have l1 := hts (.fieldLink RX5 15 "Panyard$Seat" "player" "LPanyard$Player;") (List.mem_of_getElem? (i := 2) rfl)
  have l2 := hts (.fieldLink RX5 19 "Panyard$Player" "bandCount" "I") (List.mem_of_getElem? (i := 3) rfl)
  have hS : va_S A s.heap s.heap [] := va_S.rf
  have hl := lv_entry ([.ref (ad 13 a0), .int a1, .int a2, .int a3]) (n := 6) (Nat.le_of_ble_eq_true rfl)
  rw [lg_entry_eq]
  generalize (lg_sl ([.ref (ad 13 a0), .int a1, .int a2, .int a3]) ++ List.replicate (6 - (lg_sl ([.ref (ad 13 a0), .int a1, .int a2, .int a3])).length) Slot.unset).toArray = ls at hl ⊢
  have hl : lv_has ls 6 [(0, .ref (ad 13 a0)), (1, .int a1), (2, .int a2), (3, .int a3)] := hl
  have w29 : ∀ (t0 : Int32), fX5_learn_29 Z t0 = some rz → cG p l e (headSpec wsX5_learn rmX5_learn).room s m (([.ref (ad 13 a0), .int a1, .int a2, .int a3] : List Value).toArray) below meth c (MQ below (cQi D G A ad rz Z) (([.ref (ad 13 a0), .int a1, .int a2, .int a3] : List Value).toArray) s 0 0 A) D G A ad 0 0 6 Z 29 [] [.int t0] := by
    intro  t0 h H locs ls hI hN hS hl
    unfold fX5_learn_29 at h
    exact W.iret hx hb hr (cg_endr h hI hK hN hS) hS.2.2 dX5_learn_29
  have w28 : fX5_learn_28 Z  = some rz → cG p l e (headSpec wsX5_learn rmX5_learn).room s m (([.ref (ad 13 a0), .int a1, .int a2, .int a3] : List Value).toArray) below meth c (MQ below (cQi D G A ad rz Z) (([.ref (ad 13 a0), .int a1, .int a2, .int a3] : List Value).toArray) s 0 0 A) D G A ad 0 0 6 Z 28 [] [] := by
    intro   h H locs ls hI hN hS hl
    unfold fX5_learn_28 at h
    refine lv_iconst (v := (2 : Int32)) hx hb dX5_learn_28 (by decide) ?_
    exact w29  (2 : Int32) h _ _ _ hI hN hS (lv_sub hl [] rfl)
  have w72 : ∀ (t0 : Int32), fX5_learn_72 Z t0 = some rz → cG p l e (headSpec wsX5_learn rmX5_learn).room s m (([.ref (ad 13 a0), .int a1, .int a2, .int a3] : List Value).toArray) below meth c (MQ below (cQi D G A ad rz Z) (([.ref (ad 13 a0), .int a1, .int a2, .int a3] : List Value).toArray) s 0 0 A) D G A ad 0 0 6 Z 72 [] [.int t0] := by
    intro  t0 h H locs ls hI hN hS hl
    unfold fX5_learn_72 at h
    exact W.iret hx hb hr (cg_endr h hI hK hN hS) hS.2.2 dX5_learn_72
  have w70 : ∀ (x5 : Int32), fX5_learn_70 Z x5 = some rz → cG p l e (headSpec wsX5_learn rmX5_learn).room s m (([.ref (ad 13 a0), .int a1, .int a2, .int a3] : List Value).toArray) below meth c (MQ below (cQi D G A ad rz Z) (([.ref (ad 13 a0), .int a1, .int a2, .int a3] : List Value).toArray) s 0 0 A) D G A ad 0 0 6 Z 70 [(5, .int x5)] [] := by
    intro  x5 h H locs ls hI hN hS hl
    unfold fX5_learn_70 at h
    refine lv_iload hx hb dX5_learn_70 (lv_at hl 0 rfl) ?_
    exact w72  x5 h _ _ _ hI hN hS (lv_sub hl [] rfl)
  have w47 : ∀ (x0 : Nat) (t0 : Int32), fX5_learn_47 Z x0 t0 = some rz → cG p l e (headSpec wsX5_learn rmX5_learn).room s m (([.ref (ad 13 a0), .int a1, .int a2, .int a3] : List Value).toArray) below meth c (MQ below (cQi D G A ad rz Z) (([.ref (ad 13 a0), .int a1, .int a2, .int a3] : List Value).toArray) s 0 0 A) D G A ad 0 0 6 Z 47 [(0, .ref (ad 13 x0))] [.int t0] := by
    intro  x0 t0 h H locs ls hI hN hS hl
    unfold fX5_learn_47 at h
    refine lv_istore (lv' := [(5, .int t0), (0, .ref (ad 13 x0))]) hx hb dX5_learn_47 hl (by decide) rfl (fun ls hl => ?_)
    refine lv_iload hx hb dX5_learn_49 (lv_at hl 0 rfl) ?_
    refine lv_iconst (v := (1 : Int32)) hx hb dX5_learn_51 (by decide) ?_
    refine lv_icmp_ne (tgt := 70) hx hb dX5_learn_52 (by decide) (fun hc => ?_) (fun hc => ?_)
    · have h := ite_f h hc
      exact w70  t0 h _ _ _ hI hN hS (lv_sub hl [0] rfl)
    · have h := ite_t h hc
      refine lv_aload_n hx hb dX5_learn_55 rfl (lv_at hl 1 rfl) ?_
      obtain ⟨g4, h⟩ := gd_ok h
      obtain ⟨q5, c6, h⟩ := cl1_ok h
      refine cg_get (T := TX5) (N := 2) (ci := 6) hx hb hts iwsX50 hown hK hN g4 rfl rfl 0 (by decide) l1 rfl (v := .ref (ad 9 q5)) (congrArg (fun o => some (va_rf (Option.map (ad 9) o))) c6) dX5_learn_56 ?_
      obtain ⟨g7, h⟩ := gd_ok h
      refine cg_get (T := TX4) (N := 6) (ci := 5) hx hb hts iwsX40 hown hK hN g7 rfl rfl 3 (by decide) l2 rfl (v := .int (Z.1 9 q5 3)) rfl dX5_learn_59 ?_
      refine lv_iconst (v := (2 : Int32)) hx hb dX5_learn_62 (by decide) ?_
      refine lv_icmp_lt (tgt := 70) hx hb dX5_learn_63 (by decide) (fun hc => ?_) (fun hc => ?_)
      · have h := ite_t h hc
        exact w70  t0 h _ _ _ hI hN hS (lv_sub hl [0] rfl)
      · have h := ite_f h hc
        refine lv_iconst (v := (2 : Int32)) hx hb dX5_learn_66 (by decide) ?_
        refine lv_goto (tgt := 72) hx hb dX5_learn_67 (by decide) ?_
        exact w72  (2 : Int32) h _ _ _ hI hN hS (lv_sub hl [] rfl)
  unfold fX5_learn at h
  refine lv_aload_n hx hb dX5_learn_0 rfl (lv_at hl 0 rfl) ?_
  obtain ⟨g1, h⟩ := gd_ok h
  refine cg_get (T := TX5) (N := 2) (ci := 6) hx hb hts iwsX50 hown hK hN g1 rfl rfl 1 (by decide) l0 rfl (v := .ref (ad 14 a0)) rfl dX5_learn_1 ?_
  refine lv_iload_n hx hb dX5_learn_4 rfl (lv_at hl 1 rfl) ?_
  obtain ⟨g2, h⟩ := gd_ok h
  refine cg_ild hx hb hK hN g1 rfl (gin_ok g2) dX5_learn_5 ?_
  refine lv_topi (fun v3 ev3 => ?_)
  have h := bnd_ok h ev3
  refine lv_istore (lv' := [(4, .int v3), (0, .ref (ad 13 a0)), (1, .int a1), (2, .int a2), (3, .int a3)]) hx hb dX5_learn_6 hl (by decide) rfl (fun ls hl => ?_)
  refine lv_iload hx hb dX5_learn_8 (lv_at hl 0 rfl) ?_
  refine lv_iconst (v := (2 : Int32)) hx hb dX5_learn_10 (by decide) ?_
  refine lv_icmp_ne (tgt := 30) hx hb dX5_learn_11 (by decide) (fun hc => ?_) (fun hc => ?_)
  · have h := ite_f h hc
    refine lv_iload hx hb dX5_learn_30 (lv_at hl 0 rfl) ?_
    refine lv_iconst (v := (1 : Int32)) hx hb dX5_learn_32 (by decide) ?_
    refine lv_icmp_ne (tgt := 38) hx hb dX5_learn_33 (by decide) (fun hc => ?_) (fun hc => ?_)
    · have h := ite_f h hc
      refine lv_iload_n hx hb dX5_learn_38 rfl (lv_at hl 3 rfl) ?_
      refine lv_if_eq (tgt := 46) hx hb dX5_learn_39 (by decide) (fun hc => ?_) (fun hc => ?_)
      · have h := ite_t h hc
        refine lv_iload_n hx hb dX5_learn_46 rfl (lv_at hl 4 rfl) ?_
        exact w47  a0 a3 h _ _ _ hI hN hS (lv_sub hl [1] rfl)
      · have h := ite_f h hc
        refine lv_iload_n hx hb dX5_learn_42 rfl (lv_at hl 3 rfl) ?_
        refine lv_goto (tgt := 47) hx hb dX5_learn_43 (by decide) ?_
        exact w47  a0 a2 h _ _ _ hI hN hS (lv_sub hl [1] rfl)
    · have h := ite_t h hc
      refine lv_iconst (v := (1 : Int32)) hx hb dX5_learn_36 (by decide) ?_
      exact W.iret hx hb hr (cg_endr h hI hK hN hS) hS.2.2 dX5_learn_37
  · have h := ite_t h hc
    refine lv_iload_n hx hb dX5_learn_14 rfl (lv_at hl 3 rfl) ?_
    refine lv_iconst (v := (1 : Int32)) hx hb dX5_learn_15 (by decide) ?_
    refine lv_icmp_ne (tgt := 28) hx hb dX5_learn_16 (by decide) (fun hc => ?_) (fun hc => ?_)
    · have h := ite_f h hc
      exact w28   h _ _ _ hI hN hS (lv_sub hl [] rfl)
    · have h := ite_t h hc
      refine lv_iload_n hx hb dX5_learn_19 rfl (lv_at hl 4 rfl) ?_
      refine lv_iconst (v := (1 : Int32)) hx hb dX5_learn_20 (by decide) ?_
      refine lv_icmp_ne (tgt := 28) hx hb dX5_learn_21 (by decide) (fun hc => ?_) (fun hc => ?_)
      · have h := ite_f h hc
        exact w28   h _ _ _ hI hN hS (lv_sub hl [] rfl)
      · have h := ite_t h hc
        refine lv_iconst (v := (1 : Int32)) hx hb dX5_learn_24 (by decide) ?_
        refine lv_goto (tgt := 29) hx hb dX5_learn_25 (by decide) ?_
        exact w29  (1 : Int32) h _ _ _ hI hN hS (lv_sub hl [] rfl)
def fX0_learnPhrase_63 (k4 : Nat → Int32 → Int32 → Int32 → CZ → Option (CZ)) (x0 : Nat) (x1 : Int32) (x2 : Int32) (x3 : Int32) (x4 : Nat) (t0 : Int32) (Z : CZ) : Option (CZ) := gd (cLv Z.2.2 13 x4) (gd (gin x1 6) (bnd (Z.1 14 x4 (Int32.toNatClampNeg x1)) (fun v16 => cl1 (fX5_learn x4 x1 x2 t0 Z) (fun v17 => gd (gin x1 6) (bnd (cuI Z 14 x4 (upd (Z.1 14 x4) (Int32.toNatClampNeg x1) v17)) (fun Z20 => bnd (x3 + (1 : Int32)) (fun v21 => k4 x0 x1 v16 v21 Z20)))))))
def fX0_learnPhrase_99 (Z : CZ) : Option (CZ) := some Z
def fX0_learnPhrase_4 (k4 : Nat → Int32 → Int32 → Int32 → CZ → Option (CZ)) (x0 : Nat) (x1 : Int32) (x2 : Int32) (x3 : Int32) (Z : CZ) : Option (CZ) := gd (cLv Z.2.2 10 x0) (gd (cLv Z.2.2 3 (x0 + 4)) (cl1 (fJx4a65c_size_8abf5 (x0 + 4) Z) (fun v3 => (if v3 ≤ x3 then fX0_learnPhrase_99 Z else cl1 (fJx4a65c_get_915e3 (x0 + 4) x3 Z) (fun q5 => gd (cLv Z.2.2 13 q5) (cl1 (fJx4a65c_size_8abf5 (x0 + 4) Z) (fun v8 => (if v8 ≤ (x3 + (1 : Int32)) then fX0_learnPhrase_63 k4 x0 x1 x2 x3 q5 (0 : Int32) Z else cl1 (fJx4a65c_get_915e3 (x0 + 4) (x3 + (1 : Int32)) Z) (fun q10 => gd (cLv Z.2.2 13 q10) (gd (gin x1 6) (fX0_learnPhrase_63 k4 x0 x1 x2 x3 q5 (Z.1 14 q10 (Int32.toNatClampNeg x1)) Z)))))))))))
def fX0_learnPhrase (a0 : Nat) (a1 : Int32) (Z : CZ) : Option (CZ) := lf5 fX0_learnPhrase_4 100 a0 a1 (0 : Int32) (0 : Int32) Z
def rmX0_learnPhrase : Room := { frames := 4, cells := 0, slots := 0, locals := 94 }
set_option maxHeartbeats 4000000 in
set_option maxRecDepth 100000 in
theorem mX0_learnPhrase (l : Launch) (D : va_G) (G : CGT) (A : Nat → Prop) (ad : Nat → Nat → Nat) (Z : CZ) (a0 : Nat) (a1 : Int32) (Zz : CZ) (h : fX0_learnPhrase a0 a1 Z = some Zz) : Met l yX0_learnPhrase wsX0_learnPhrase rmX0_learnPhrase (va_Pc [.ref (ad 10 a0), .int a1] (cP D G A ad Z)) (cQv D G A ad Zz) 0 0 A := by
  refine Met.ofW (cc := cX0_learnPhrase) (maxL := 7) (ret := none) (by decide) rfl ?_
  intro p e s m args below meth c s₁ B hml hv
  obtain ⟨rfl, hI, hN, hK⟩ := hv
  have hx := B.exec
  have hb := B.bytes
  have hr := B.returns
  have hts := atoms_spec (ws := wsX0_learnPhrase) B.pre
  have hown : s.vm.findClass RX0 = some m.cls := findClass_of_methodNamed B.named
  have hlocks := B.notSynchronized
  have iwsX00 : ∀ w ∈ wsX00, w ∈ wsX0_learnPhrase := fun w h => List.mem_cons_of_mem _ (List.mem_append_left _ (List.mem_append_left _ (List.mem_append_left _ (List.mem_append_right _ h))))
  have iwsX50 : ∀ w ∈ wsX50, w ∈ wsX0_learnPhrase := fun w h => List.mem_cons_of_mem _ (List.mem_append_left _ (List.mem_append_left _ (List.mem_append_right _ h)))
  have l0 := hts (.fieldLink RX0 12 "Panyard$Band" "seats" "Ljava/util/ArrayList;") (List.mem_of_getElem? (i := 1) rfl)
  have l1 := hts (.classLink RX0 49 "Panyard$Seat") (List.mem_of_getElem? (i := 2) rfl)
  have l2 := hts (.fieldLink RX0 55 "Panyard$Seat" "known" "[I") (List.mem_of_getElem? (i := 3) rfl)
  have hS : va_S A s.heap s.heap [] := va_S.rf
  have hl := lv_entry ([.ref (ad 10 a0), .int a1]) (n := 7) (Nat.le_of_ble_eq_true rfl)
  rw [lg_entry_eq]
  generalize (lg_sl ([.ref (ad 10 a0), .int a1]) ++ List.replicate (7 - (lg_sl ([.ref (ad 10 a0), .int a1])).length) Slot.unset).toArray = ls at hl ⊢
  have hl : lv_has ls 7 [(0, .ref (ad 10 a0)), (1, .int a1)] := hl
  have w63 : ∀ (k4 : Nat → Int32 → Int32 → Int32 → CZ → Option (CZ)) (hk4 : (∀ (x0 : Nat) (x1 : Int32) (x2 : Int32) (x3 : Int32) (Z : CZ), k4 x0 x1 x2 x3 Z = some Zz → cG p l e (headSpec wsX0_learnPhrase rmX0_learnPhrase).room s m (([.ref (ad 10 a0), .int a1] : List Value).toArray) below meth c (MQ below (cQv D G A ad Zz) (([.ref (ad 10 a0), .int a1] : List Value).toArray) s 0 0 A) D G A ad 0 0 7 Z 4 [(0, .ref (ad 10 x0)), (1, .int x1), (2, .int x2), (3, .int x3)] [])) (x0 : Nat) (x1 : Int32) (x2 : Int32) (x3 : Int32) (x4 : Nat) (t0 : Int32) (Z : CZ), fX0_learnPhrase_63 k4 x0 x1 x2 x3 x4 t0 Z = some Zz → cG p l e (headSpec wsX0_learnPhrase rmX0_learnPhrase).room s m (([.ref (ad 10 a0), .int a1] : List Value).toArray) below meth c (MQ below (cQv D G A ad Zz) (([.ref (ad 10 a0), .int a1] : List Value).toArray) s 0 0 A) D G A ad 0 0 7 Z 63 [(0, .ref (ad 10 x0)), (1, .int x1), (2, .int x2), (3, .int x3), (4, .ref (ad 13 x4))] [.int t0] := by
    intro k4 hk4 x0 x1 x2 x3 x4 t0 Z h H locs ls hI hN hS hl
    unfold fX0_learnPhrase_63 at h
    refine lv_istore (lv' := [(5, .int t0), (0, .ref (ad 10 x0)), (1, .int x1), (2, .int x2), (3, .int x3), (4, .ref (ad 13 x4))]) hx hb dX0_learnPhrase_63 hl (by decide) rfl (fun ls hl => ?_)
    refine lv_aload hx hb dX0_learnPhrase_65 (lv_at hl 5 rfl) ?_
    obtain ⟨g14, h⟩ := gd_ok h
    refine cg_get (T := TX5) (N := 2) (ci := 6) hx hb hts iwsX50 hown hK hN g14 rfl rfl 1 (by decide) l2 rfl (v := .ref (ad 14 x4)) rfl dX0_learnPhrase_67 ?_
    refine lv_iload_n hx hb dX0_learnPhrase_70 rfl (lv_at hl 2 rfl) ?_
    obtain ⟨g15, h⟩ := gd_ok h
    refine cg_ild hx hb hK hN g14 rfl (gin_ok g15) dX0_learnPhrase_71 ?_
    refine lv_topi (fun v16 ev16 => ?_)
    have h := bnd_ok h ev16
    refine lv_istore (lv' := [(6, .int v16), (5, .int t0), (0, .ref (ad 10 x0)), (1, .int x1), (2, .int x2), (3, .int x3), (4, .ref (ad 13 x4))]) hx hb dX0_learnPhrase_72 hl (by decide) rfl (fun ls hl => ?_)
    refine lv_aload hx hb dX0_learnPhrase_74 (lv_at hl 6 rfl) ?_
    refine cg_get (T := TX5) (N := 2) (ci := 6) hx hb hts iwsX50 hown hK hN g14 rfl rfl 1 (by decide) l2 rfl (v := .ref (ad 14 x4)) rfl dX0_learnPhrase_76 ?_
    refine lv_iload_n hx hb dX0_learnPhrase_79 rfl (lv_at hl 3 rfl) ?_
    refine lv_aload hx hb dX0_learnPhrase_80 (lv_at hl 6 rfl) ?_
    refine lv_iload_n hx hb dX0_learnPhrase_82 rfl (lv_at hl 3 rfl) ?_
    refine lv_iload_n hx hb dX0_learnPhrase_83 rfl (lv_at hl 4 rfl) ?_
    refine lv_iload hx hb dX0_learnPhrase_84 (lv_at hl 1 rfl) ?_
    obtain ⟨v17, c18, h⟩ := cl1_ok h
    refine cg_calli (va_runV (As := [.int x1, .int x2, .int t0]) (rest := [.int x1, .ref (ad 14 x4)]) ⟨hx, hb, hml, hown, hts⟩ (mX5_learn l D G A ad Z x4 x1 x2 t0 v17 c18) (cwV 3 hts gX0_learnPhrase_X5_learn rfl rfl rfl (by decide +kernel) ⟨Nat.le_of_ble_eq_true rfl, Nat.le_of_ble_eq_true rfl⟩) (cg_preV hI hK hN g14 rfl (ci := 6) rfl) rfl rfl hl.1 rfl (lv_room (Nat.le_of_ble_eq_true rfl)) dX0_learnPhrase_86 ⟨Nat.le_of_ble_eq_true rfl, Nat.le_of_ble_eq_true rfl⟩) hS (fun H locs hI hN hS => ?_)
    obtain ⟨g19, h⟩ := gd_ok h
    obtain ⟨Z20, eZ20⟩ : ∃ y : CZ, y = (cuI Z 14 x4 (upd (Z.1 14 x4) (Int32.toNatClampNeg x1) v17)) := ⟨_, rfl⟩
    have h := bnd_ok h eZ20
    refine cg_ist hx hb hI hK hN hS g14 rfl (gin_ok g19) rfl dX0_learnPhrase_89 eZ20 (fun H locs hI hN hS => ?_)
    refine lv_iload hx hb dX0_learnPhrase_90 (lv_at hl 0 rfl) ?_
    refine lv_istore_n (lv' := [(2, .int v16), (6, .int v16), (5, .int t0), (0, .ref (ad 10 x0)), (1, .int x1), (3, .int x3), (4, .ref (ad 13 x4))]) hx hb dX0_learnPhrase_92 rfl hl (by decide) rfl (fun ls hl => ?_)
    obtain ⟨v21, ev21⟩ : ∃ y : Int32, y = (x3 + (1 : Int32)) := ⟨_, rfl⟩
    have h := bnd_ok h ev21
    refine lv_iinc (v := v21) (lv' := [(3, .int v21), (2, .int v16), (6, .int v16), (5, .int t0), (0, .ref (ad 10 x0)), (1, .int x1), (4, .ref (ad 13 x4))]) hx hb dX0_learnPhrase_93 hl (k := 5) rfl (by rw [ev21]; rfl) (by decide) rfl (fun ls hl => ?_)
    refine lv_goto (tgt := 4) hx hb dX0_learnPhrase_96 (by decide) ?_
    exact hk4 x0 x1 v16 v21 Z20 h _ _ _ hI hN hS (lv_sub hl [4, 5, 1, 0] rfl)
  have w99 : ∀ (Z : CZ), fX0_learnPhrase_99  Z = some Zz → cG p l e (headSpec wsX0_learnPhrase rmX0_learnPhrase).room s m (([.ref (ad 10 a0), .int a1] : List Value).toArray) below meth c (MQ below (cQv D G A ad Zz) (([.ref (ad 10 a0), .int a1] : List Value).toArray) s 0 0 A) D G A ad 0 0 7 Z 99 [] [] := by
    intro  Z h H locs ls hI hN hS hl
    unfold fX0_learnPhrase_99 at h
    exact W.vret hx hb hr (cg_endv h hI hK hN hS) hS.2.2 dX0_learnPhrase_99
  have w4 : ∀ (x0 : Nat) (x1 : Int32) (x2 : Int32) (x3 : Int32) (Z : CZ), lf5 fX0_learnPhrase_4 100 x0 x1 x2 x3 Z = some Zz → cG p l e (headSpec wsX0_learnPhrase rmX0_learnPhrase).room s m (([.ref (ad 10 a0), .int a1] : List Value).toArray) below meth c (MQ below (cQv D G A ad Zz) (([.ref (ad 10 a0), .int a1] : List Value).toArray) s 0 0 A) D G A ad 0 0 7 Z 4 [(0, .ref (ad 10 x0)), (1, .int x1), (2, .int x2), (3, .int x3)] [] := by
    refine lf5_ok (P := (fun x0 x1 x2 x3 Z => cG p l e (headSpec wsX0_learnPhrase rmX0_learnPhrase).room s m (([.ref (ad 10 a0), .int a1] : List Value).toArray) below meth c (MQ below (cQv D G A ad Zz) (([.ref (ad 10 a0), .int a1] : List Value).toArray) s 0 0 A) D G A ad 0 0 7 Z 4 [(0, .ref (ad 10 x0)), (1, .int x1), (2, .int x2), (3, .int x3)] [])) (fun k4 hk4 x0 x1 x2 x3 Z h H locs ls hI hN hS hl => ?_) 100
    unfold fX0_learnPhrase_4 at h
    refine lv_iload_n hx hb dX0_learnPhrase_4 rfl (lv_at hl 3 rfl) ?_
    refine lv_aload_n hx hb dX0_learnPhrase_5 rfl (lv_at hl 0 rfl) ?_
    obtain ⟨g1, h⟩ := gd_ok h
    refine cg_get (T := TX0) (N := 7) (ci := 1) hx hb hts iwsX00 hown hK hN g1 rfl rfl 0 (by decide) l0 rfl (v := .ref (ad 3 (x0 + 4))) rfl dX0_learnPhrase_6 ?_
    obtain ⟨g2, h⟩ := gd_ok h
    obtain ⟨v3, c4, h⟩ := cl1_ok h
    refine cg_calli (va_runV (As := []) (rest := [.int x3]) ⟨hx, hb, hml, hown, hts⟩ (mJx4a65c_size_8abf5 l D G A ad Z (x0 + 4) v3 c4) (cwV 0 hts gX0_learnPhrase_Jx4a65c_size_8abf5 rfl rfl rfl (by decide +kernel) ⟨Nat.le_of_ble_eq_true rfl, Nat.le_of_ble_eq_true rfl⟩) (cg_preV hI hK hN g2 rfl (ci := 0) rfl) rfl rfl hl.1 rfl (lv_room (Nat.le_of_ble_eq_true rfl)) dX0_learnPhrase_9 ⟨Nat.le_of_ble_eq_true rfl, Nat.le_of_ble_eq_true rfl⟩) hS (fun H locs hI hN hS => ?_)
    refine lv_icmp_ge (tgt := 99) hx hb dX0_learnPhrase_12 (by decide) (fun hc => ?_) (fun hc => ?_)
    · have h := ite_t h hc
      exact w99  Z h _ _ _ hI hN hS (lv_sub hl [] rfl)
    · have h := ite_f h hc
      refine lv_aload_n hx hb dX0_learnPhrase_15 rfl (lv_at hl 0 rfl) ?_
      refine cg_get (T := TX0) (N := 7) (ci := 1) hx hb hts iwsX00 hown hK hN g1 rfl rfl 0 (by decide) l0 rfl (v := .ref (ad 3 (x0 + 4))) rfl dX0_learnPhrase_16 ?_
      refine lv_iload_n hx hb dX0_learnPhrase_19 rfl (lv_at hl 3 rfl) ?_
      obtain ⟨q5, c6, h⟩ := cl1_ok h
      refine cg_callr (k := 13) (q := q5) (va_runV (As := [.int x3]) (rest := []) ⟨hx, hb, hml, hown, hts⟩ (mJx4a65c_get_915e3 l D G A ad Z (x0 + 4) x3 q5 c6) (cwV 1 hts gX0_learnPhrase_Jx4a65c_get_915e3 rfl rfl rfl (by decide +kernel) ⟨Nat.le_of_ble_eq_true rfl, Nat.le_of_ble_eq_true rfl⟩) (cg_preV hI hK hN g2 rfl (ci := 0) rfl) rfl rfl hl.1 rfl (lv_room (Nat.le_of_ble_eq_true rfl)) dX0_learnPhrase_20 ⟨Nat.le_of_ble_eq_true rfl, Nat.le_of_ble_eq_true rfl⟩) hS (fun H locs hI hN hS => ?_)
      obtain ⟨g7, h⟩ := gd_ok h
      refine va_castS hx hb hown l1 (hK.1.1 6 _ rfl).2 (cg_recv hK hN g7 rfl (ci := 6) rfl) dX0_learnPhrase_23 ?_
      refine lv_astore (lv' := [(4, .ref (ad 13 q5)), (0, .ref (ad 10 x0)), (1, .int x1), (2, .int x2), (3, .int x3)]) hx hb dX0_learnPhrase_26 hl (by decide) rfl (fun ls hl => ?_)
      refine lv_iload_n hx hb dX0_learnPhrase_28 rfl (lv_at hl 4 rfl) ?_
      refine lv_iconst (v := (1 : Int32)) hx hb dX0_learnPhrase_29 (by decide) ?_
      refine lv_iadd hx hb dX0_learnPhrase_30 ?_
      refine lv_aload_n hx hb dX0_learnPhrase_31 rfl (lv_at hl 1 rfl) ?_
      refine cg_get (T := TX0) (N := 7) (ci := 1) hx hb hts iwsX00 hown hK hN g1 rfl rfl 0 (by decide) l0 rfl (v := .ref (ad 3 (x0 + 4))) rfl dX0_learnPhrase_32 ?_
      obtain ⟨v8, c9, h⟩ := cl1_ok h
      refine cg_calli (va_runV (As := []) (rest := [.int (x3 + (1 : Int32))]) ⟨hx, hb, hml, hown, hts⟩ (mJx4a65c_size_8abf5 l D G A ad Z (x0 + 4) v8 c9) (cwV 0 hts gX0_learnPhrase_Jx4a65c_size_8abf5 rfl rfl rfl (by decide +kernel) ⟨Nat.le_of_ble_eq_true rfl, Nat.le_of_ble_eq_true rfl⟩) (cg_preV hI hK hN g2 rfl (ci := 0) rfl) rfl rfl hl.1 rfl (lv_room (Nat.le_of_ble_eq_true rfl)) dX0_learnPhrase_35 ⟨Nat.le_of_ble_eq_true rfl, Nat.le_of_ble_eq_true rfl⟩) hS (fun H locs hI hN hS => ?_)
      refine lv_icmp_ge (tgt := 62) hx hb dX0_learnPhrase_38 (by decide) (fun hc => ?_) (fun hc => ?_)
      · have h := ite_t h hc
        refine lv_iconst (v := (0 : Int32)) hx hb dX0_learnPhrase_62 (by decide) ?_
        exact w63 k4 hk4 x0 x1 x2 x3 q5 (0 : Int32) Z h _ _ _ hI hN hS (lv_sub hl [1, 2, 3, 4, 0] rfl)
      · have h := ite_f h hc
        refine lv_aload_n hx hb dX0_learnPhrase_41 rfl (lv_at hl 1 rfl) ?_
        refine cg_get (T := TX0) (N := 7) (ci := 1) hx hb hts iwsX00 hown hK hN g1 rfl rfl 0 (by decide) l0 rfl (v := .ref (ad 3 (x0 + 4))) rfl dX0_learnPhrase_42 ?_
        refine lv_iload_n hx hb dX0_learnPhrase_45 rfl (lv_at hl 4 rfl) ?_
        refine lv_iconst (v := (1 : Int32)) hx hb dX0_learnPhrase_46 (by decide) ?_
        refine lv_iadd hx hb dX0_learnPhrase_47 ?_
        obtain ⟨q10, c11, h⟩ := cl1_ok h
        refine cg_callr (k := 13) (q := q10) (va_runV (As := [.int (x3 + (1 : Int32))]) (rest := []) ⟨hx, hb, hml, hown, hts⟩ (mJx4a65c_get_915e3 l D G A ad Z (x0 + 4) (x3 + (1 : Int32)) q10 c11) (cwV 1 hts gX0_learnPhrase_Jx4a65c_get_915e3 rfl rfl rfl (by decide +kernel) ⟨Nat.le_of_ble_eq_true rfl, Nat.le_of_ble_eq_true rfl⟩) (cg_preV hI hK hN g2 rfl (ci := 0) rfl) rfl rfl hl.1 rfl (lv_room (Nat.le_of_ble_eq_true rfl)) dX0_learnPhrase_48 ⟨Nat.le_of_ble_eq_true rfl, Nat.le_of_ble_eq_true rfl⟩) hS (fun H locs hI hN hS => ?_)
        obtain ⟨g12, h⟩ := gd_ok h
        refine va_castS hx hb hown l1 (hK.1.1 6 _ rfl).2 (cg_recv hK hN g12 rfl (ci := 6) rfl) dX0_learnPhrase_51 ?_
        refine cg_get (T := TX5) (N := 2) (ci := 6) hx hb hts iwsX50 hown hK hN g12 rfl rfl 1 (by decide) l2 rfl (v := .ref (ad 14 q10)) rfl dX0_learnPhrase_54 ?_
        refine lv_iload_n hx hb dX0_learnPhrase_57 rfl (lv_at hl 2 rfl) ?_
        obtain ⟨g13, h⟩ := gd_ok h
        refine cg_ild hx hb hK hN g12 rfl (gin_ok g13) dX0_learnPhrase_58 ?_
        refine lv_goto (tgt := 63) hx hb dX0_learnPhrase_59 (by decide) ?_
        exact w63 k4 hk4 x0 x1 x2 x3 q5 (Z.1 14 q10 (Int32.toNatClampNeg x1)) Z h _ _ _ hI hN hS (lv_sub hl [1, 2, 3, 4, 0] rfl)
  unfold fX0_learnPhrase at h
  refine lv_iconst (v := (0 : Int32)) hx hb dX0_learnPhrase_0 (by decide) ?_
  refine lv_istore_n (lv' := [(2, .int (0 : Int32)), (0, .ref (ad 10 a0)), (1, .int a1)]) hx hb dX0_learnPhrase_1 rfl hl (by decide) rfl (fun ls hl => ?_)
  refine lv_iconst (v := (0 : Int32)) hx hb dX0_learnPhrase_2 (by decide) ?_
  refine lv_istore_n (lv' := [(3, .int (0 : Int32)), (2, .int (0 : Int32)), (0, .ref (ad 10 a0)), (1, .int a1)]) hx hb dX0_learnPhrase_3 rfl hl (by decide) rfl (fun ls hl => ?_)
  exact w4  a0 a1 (0 : Int32) (0 : Int32) Z h _ _ _ hI hN hS (lv_sub hl [2, 3, 1, 0] rfl)
def fX1_lowerTones_23 (Z : CZ) : Option (CZ) := some Z
def fX1_lowerTones_2 (k2 : Nat → Int32 → CZ → Option (CZ)) (x0 : Nat) (x1 : Int32) (Z : CZ) : Option (CZ) := (if (4 : Int32) ≤ x1 then fX1_lowerTones_23 Z else gd (cLv Z.2.2 5 x0) (gd (gin x1 4) (gd (gin x1 4) (bnd (cuI Z 6 x0 (upd (Z.1 6 x0) (Int32.toNatClampNeg x1) ((Z.1 6 x0 (Int32.toNatClampNeg x1)) - (1 : Int32)))) (fun Z4 => bnd (x1 + (1 : Int32)) (fun v5 => k2 x0 v5 Z4))))))
def fX1_lowerTones (a0 : Nat) (Z : CZ) : Option (CZ) := lf3 fX1_lowerTones_2 100 a0 (0 : Int32) Z
def rmX1_lowerTones : Room := { frames := 1, cells := 0, slots := 0, locals := 30 }
set_option maxHeartbeats 4000000 in
set_option maxRecDepth 100000 in
theorem mX1_lowerTones (l : Launch) (D : va_G) (G : CGT) (A : Nat → Prop) (ad : Nat → Nat → Nat) (Z : CZ) (a0 : Nat) (Zz : CZ) (h : fX1_lowerTones a0 Z = some Zz) : Met l yX1_lowerTones wsX1_lowerTones rmX1_lowerTones (va_Pc [.ref (ad 5 a0)] (cP D G A ad Z)) (cQv D G A ad Zz) 0 0 A := by
  refine Met.ofW (cc := cX1_lowerTones) (maxL := 2) (ret := none) (by decide) rfl ?_
  intro p e s m args below meth c s₁ B hml hv
  obtain ⟨rfl, hI, hN, hK⟩ := hv
  have hx := B.exec
  have hb := B.bytes
  have hr := B.returns
  have hts := atoms_spec (ws := wsX1_lowerTones) B.pre
  have hown : s.vm.findClass RX1 = some m.cls := findClass_of_methodNamed B.named
  have hlocks := B.notSynchronized
  have iwsX10 : ∀ w ∈ wsX10, w ∈ wsX1_lowerTones := fun w h => List.mem_cons_of_mem _ (List.mem_append_right _ h)
  have l0 := hts (.fieldLink RX1 9 "Panyard$Pan" "tones" "[I") (List.mem_of_getElem? (i := 1) rfl)
  have hS : va_S A s.heap s.heap [] := va_S.rf
  have hl := lv_entry ([.ref (ad 5 a0)]) (n := 2) (Nat.le_of_ble_eq_true rfl)
  rw [lg_entry_eq]
  generalize (lg_sl ([.ref (ad 5 a0)]) ++ List.replicate (2 - (lg_sl ([.ref (ad 5 a0)])).length) Slot.unset).toArray = ls at hl ⊢
  have hl : lv_has ls 2 [(0, .ref (ad 5 a0))] := hl
  have w23 : ∀ (Z : CZ), fX1_lowerTones_23  Z = some Zz → cG p l e (headSpec wsX1_lowerTones rmX1_lowerTones).room s m (([.ref (ad 5 a0)] : List Value).toArray) below meth c (MQ below (cQv D G A ad Zz) (([.ref (ad 5 a0)] : List Value).toArray) s 0 0 A) D G A ad 0 0 2 Z 23 [] [] := by
    intro  Z h H locs ls hI hN hS hl
    unfold fX1_lowerTones_23 at h
    exact W.vret hx hb hr (cg_endv h hI hK hN hS) hS.2.2 dX1_lowerTones_23
  have w2 : ∀ (x0 : Nat) (x1 : Int32) (Z : CZ), lf3 fX1_lowerTones_2 100 x0 x1 Z = some Zz → cG p l e (headSpec wsX1_lowerTones rmX1_lowerTones).room s m (([.ref (ad 5 a0)] : List Value).toArray) below meth c (MQ below (cQv D G A ad Zz) (([.ref (ad 5 a0)] : List Value).toArray) s 0 0 A) D G A ad 0 0 2 Z 2 [(0, .ref (ad 5 x0)), (1, .int x1)] [] := by
    refine lf3_ok (P := (fun x0 x1 Z => cG p l e (headSpec wsX1_lowerTones rmX1_lowerTones).room s m (([.ref (ad 5 a0)] : List Value).toArray) below meth c (MQ below (cQv D G A ad Zz) (([.ref (ad 5 a0)] : List Value).toArray) s 0 0 A) D G A ad 0 0 2 Z 2 [(0, .ref (ad 5 x0)), (1, .int x1)] [])) (fun k2 hk2 x0 x1 Z h H locs ls hI hN hS hl => ?_) 100
    unfold fX1_lowerTones_2 at h
    refine lv_iload_n hx hb dX1_lowerTones_2 rfl (lv_at hl 1 rfl) ?_
    refine lv_iconst (v := (4 : Int32)) hx hb dX1_lowerTones_3 (by decide) ?_
    refine lv_icmp_ge (tgt := 23) hx hb dX1_lowerTones_4 (by decide) (fun hc => ?_) (fun hc => ?_)
    · have h := ite_t h hc
      exact w23  Z h _ _ _ hI hN hS (lv_sub hl [] rfl)
    · have h := ite_f h hc
      refine lv_aload_n hx hb dX1_lowerTones_7 rfl (lv_at hl 0 rfl) ?_
      obtain ⟨g1, h⟩ := gd_ok h
      refine cg_get (T := TX1) (N := 5) (ci := 2) hx hb hts iwsX10 hown hK hN g1 rfl rfl 1 (by decide) l0 rfl (v := .ref (ad 6 x0)) rfl dX1_lowerTones_8 ?_
      refine lv_iload_n hx hb dX1_lowerTones_11 rfl (lv_at hl 1 rfl) ?_
      refine lv_dup2_11 hx hb dX1_lowerTones_12 rfl rfl ?_
      obtain ⟨g2, h⟩ := gd_ok h
      refine cg_ild hx hb hK hN g1 rfl (gin_ok g2) dX1_lowerTones_13 ?_
      refine lv_iconst (v := (1 : Int32)) hx hb dX1_lowerTones_14 (by decide) ?_
      refine lv_isub hx hb dX1_lowerTones_15 ?_
      obtain ⟨g3, h⟩ := gd_ok h
      obtain ⟨Z4, eZ4⟩ : ∃ y : CZ, y = (cuI Z 6 x0 (upd (Z.1 6 x0) (Int32.toNatClampNeg x1) ((Z.1 6 x0 (Int32.toNatClampNeg x1)) - (1 : Int32)))) := ⟨_, rfl⟩
      have h := bnd_ok h eZ4
      refine cg_ist hx hb hI hK hN hS g1 rfl (gin_ok g3) rfl dX1_lowerTones_16 eZ4 (fun H locs hI hN hS => ?_)
      obtain ⟨v5, ev5⟩ : ∃ y : Int32, y = (x1 + (1 : Int32)) := ⟨_, rfl⟩
      have h := bnd_ok h ev5
      refine lv_iinc (v := v5) (lv' := [(1, .int v5), (0, .ref (ad 5 x0))]) hx hb dX1_lowerTones_17 hl (k := 1) rfl (by rw [ev5]; rfl) (by decide) rfl (fun ls hl => ?_)
      refine lv_goto (tgt := 2) hx hb dX1_lowerTones_20 (by decide) ?_
      exact hk2 x0 v5 Z4 h _ _ _ hI hN hS (lv_sub hl [1, 0] rfl)
  unfold fX1_lowerTones at h
  refine lv_iconst (v := (0 : Int32)) hx hb dX1_lowerTones_0 (by decide) ?_
  refine lv_istore_n (lv' := [(1, .int (0 : Int32)), (0, .ref (ad 5 a0))]) hx hb dX1_lowerTones_1 rfl hl (by decide) rfl (fun ls hl => ?_)
  exact w2  a0 (0 : Int32) Z h _ _ _ hI hN hS (lv_sub hl [1, 0] rfl)
def fX0_wearPans_39 (k2 : Nat → Int32 → CZ → Option (CZ)) (x0 : Nat) (x1 : Int32) (Z : CZ) : Option (CZ) := bnd (x1 + (1 : Int32)) (fun v16 => k2 x0 v16 Z)
def fX0_wearPans_45 (Z : CZ) : Option (CZ) := some Z
def fX0_wearPans_2 (k2 : Nat → Int32 → CZ → Option (CZ)) (x0 : Nat) (x1 : Int32) (Z : CZ) : Option (CZ) := gd (cLv Z.2.2 10 x0) (gd (cLv Z.2.2 3 (x0 + 4)) (cl1 (fJx4a65c_size_8abf5 (x0 + 4) Z) (fun v3 => (if v3 ≤ x1 then fX0_wearPans_45 Z else cl1 (fJx4a65c_get_915e3 (x0 + 4) x1 Z) (fun q5 => gd (cLv Z.2.2 13 q5) (cl1 (Z.2.1 13 q5 0) (fun q8 => gd (cLv Z.2.2 9 q8) (op2 (Z.2.1 9 q8 2) (fX0_wearPans_39 k2 x0 x1 Z) (fun q11 => gd (cLv Z.2.2 5 q11) (cl1 (fX1_lowerTones q11 Z) (fun Z14 => fX0_wearPans_39 k2 x0 x1 Z14)))))))))))
def fX0_wearPans (a0 : Nat) (Z : CZ) : Option (CZ) := lf3 fX0_wearPans_2 100 a0 (0 : Int32) Z
def rmX0_wearPans : Room := { frames := 4, cells := 0, slots := 0, locals := 94 }
set_option maxHeartbeats 4000000 in
set_option maxRecDepth 100000 in
theorem mX0_wearPans (l : Launch) (D : va_G) (G : CGT) (A : Nat → Prop) (ad : Nat → Nat → Nat) (Z : CZ) (a0 : Nat) (Zz : CZ) (h : fX0_wearPans a0 Z = some Zz) : Met l yX0_wearPans wsX0_wearPans rmX0_wearPans (va_Pc [.ref (ad 10 a0)] (cP D G A ad Z)) (cQv D G A ad Zz) 0 0 A := by
  refine Met.ofW (cc := cX0_wearPans) (maxL := 3) (ret := none) (by decide) rfl ?_
  intro p e s m args below meth c s₁ B hml hv
  obtain ⟨rfl, hI, hN, hK⟩ := hv
  have hx := B.exec
  have hb := B.bytes
  have hr := B.returns
  have hts := atoms_spec (ws := wsX0_wearPans) B.pre
  have hown : s.vm.findClass RX0 = some m.cls := findClass_of_methodNamed B.named
  have hlocks := B.notSynchronized
  have iwsX00 : ∀ w ∈ wsX00, w ∈ wsX0_wearPans := fun w h => List.mem_cons_of_mem _ (List.mem_append_left _ (List.mem_append_left _ (List.mem_append_left _ (List.mem_append_left _ (List.mem_append_right _ h)))))
  have iwsX50 : ∀ w ∈ wsX50, w ∈ wsX0_wearPans := fun w h => List.mem_cons_of_mem _ (List.mem_append_left _ (List.mem_append_left _ (List.mem_append_left _ (List.mem_append_right _ h))))
  have iwsX40 : ∀ w ∈ wsX40, w ∈ wsX0_wearPans := fun w h => List.mem_cons_of_mem _ (List.mem_append_left _ (List.mem_append_left _ (List.mem_append_right _ h)))
  have l0 := hts (.fieldLink RX0 12 "Panyard$Band" "seats" "Ljava/util/ArrayList;") (List.mem_of_getElem? (i := 1) rfl)
  have l1 := hts (.classLink RX0 49 "Panyard$Seat") (List.mem_of_getElem? (i := 2) rfl)
  have l2 := hts (.fieldLink RX0 51 "Panyard$Seat" "player" "LPanyard$Player;") (List.mem_of_getElem? (i := 3) rfl)
  have l3 := hts (.fieldLink RX0 62 "Panyard$Player" "pan" "LPanyard$Pan;") (List.mem_of_getElem? (i := 4) rfl)
  have hS : va_S A s.heap s.heap [] := va_S.rf
  have hl := lv_entry ([.ref (ad 10 a0)]) (n := 3) (Nat.le_of_ble_eq_true rfl)
  rw [lg_entry_eq]
  generalize (lg_sl ([.ref (ad 10 a0)]) ++ List.replicate (3 - (lg_sl ([.ref (ad 10 a0)])).length) Slot.unset).toArray = ls at hl ⊢
  have hl : lv_has ls 3 [(0, .ref (ad 10 a0))] := hl
  have w39 : ∀ (k2 : Nat → Int32 → CZ → Option (CZ)) (hk2 : (∀ (x0 : Nat) (x1 : Int32) (Z : CZ), k2 x0 x1 Z = some Zz → cG p l e (headSpec wsX0_wearPans rmX0_wearPans).room s m (([.ref (ad 10 a0)] : List Value).toArray) below meth c (MQ below (cQv D G A ad Zz) (([.ref (ad 10 a0)] : List Value).toArray) s 0 0 A) D G A ad 0 0 3 Z 2 [(0, .ref (ad 10 x0)), (1, .int x1)] [])) (x0 : Nat) (x1 : Int32) (Z : CZ), fX0_wearPans_39 k2 x0 x1 Z = some Zz → cG p l e (headSpec wsX0_wearPans rmX0_wearPans).room s m (([.ref (ad 10 a0)] : List Value).toArray) below meth c (MQ below (cQv D G A ad Zz) (([.ref (ad 10 a0)] : List Value).toArray) s 0 0 A) D G A ad 0 0 3 Z 39 [(0, .ref (ad 10 x0)), (1, .int x1)] [] := by
    intro k2 hk2 x0 x1 Z h H locs ls hI hN hS hl
    unfold fX0_wearPans_39 at h
    obtain ⟨v16, ev16⟩ : ∃ y : Int32, y = (x1 + (1 : Int32)) := ⟨_, rfl⟩
    have h := bnd_ok h ev16
    refine lv_iinc (v := v16) (lv' := [(1, .int v16), (0, .ref (ad 10 x0))]) hx hb dX0_wearPans_39 hl (k := 1) rfl (by rw [ev16]; rfl) (by decide) rfl (fun ls hl => ?_)
    refine lv_goto (tgt := 2) hx hb dX0_wearPans_42 (by decide) ?_
    exact hk2 x0 v16 Z h _ _ _ hI hN hS (lv_sub hl [1, 0] rfl)
  have w45 : ∀ (Z : CZ), fX0_wearPans_45  Z = some Zz → cG p l e (headSpec wsX0_wearPans rmX0_wearPans).room s m (([.ref (ad 10 a0)] : List Value).toArray) below meth c (MQ below (cQv D G A ad Zz) (([.ref (ad 10 a0)] : List Value).toArray) s 0 0 A) D G A ad 0 0 3 Z 45 [] [] := by
    intro  Z h H locs ls hI hN hS hl
    unfold fX0_wearPans_45 at h
    exact W.vret hx hb hr (cg_endv h hI hK hN hS) hS.2.2 dX0_wearPans_45
  have w2 : ∀ (x0 : Nat) (x1 : Int32) (Z : CZ), lf3 fX0_wearPans_2 100 x0 x1 Z = some Zz → cG p l e (headSpec wsX0_wearPans rmX0_wearPans).room s m (([.ref (ad 10 a0)] : List Value).toArray) below meth c (MQ below (cQv D G A ad Zz) (([.ref (ad 10 a0)] : List Value).toArray) s 0 0 A) D G A ad 0 0 3 Z 2 [(0, .ref (ad 10 x0)), (1, .int x1)] [] := by
    refine lf3_ok (P := (fun x0 x1 Z => cG p l e (headSpec wsX0_wearPans rmX0_wearPans).room s m (([.ref (ad 10 a0)] : List Value).toArray) below meth c (MQ below (cQv D G A ad Zz) (([.ref (ad 10 a0)] : List Value).toArray) s 0 0 A) D G A ad 0 0 3 Z 2 [(0, .ref (ad 10 x0)), (1, .int x1)] [])) (fun k2 hk2 x0 x1 Z h H locs ls hI hN hS hl => ?_) 100
    unfold fX0_wearPans_2 at h
    refine lv_iload_n hx hb dX0_wearPans_2 rfl (lv_at hl 1 rfl) ?_
    refine lv_aload_n hx hb dX0_wearPans_3 rfl (lv_at hl 0 rfl) ?_
    obtain ⟨g1, h⟩ := gd_ok h
    refine cg_get (T := TX0) (N := 7) (ci := 1) hx hb hts iwsX00 hown hK hN g1 rfl rfl 0 (by decide) l0 rfl (v := .ref (ad 3 (x0 + 4))) rfl dX0_wearPans_4 ?_
    obtain ⟨g2, h⟩ := gd_ok h
    obtain ⟨v3, c4, h⟩ := cl1_ok h
    refine cg_calli (va_runV (As := []) (rest := [.int x1]) ⟨hx, hb, hml, hown, hts⟩ (mJx4a65c_size_8abf5 l D G A ad Z (x0 + 4) v3 c4) (cwV 0 hts gX0_wearPans_Jx4a65c_size_8abf5 rfl rfl rfl (by decide +kernel) ⟨Nat.le_of_ble_eq_true rfl, Nat.le_of_ble_eq_true rfl⟩) (cg_preV hI hK hN g2 rfl (ci := 0) rfl) rfl rfl hl.1 rfl (lv_room (Nat.le_of_ble_eq_true rfl)) dX0_wearPans_7 ⟨Nat.le_of_ble_eq_true rfl, Nat.le_of_ble_eq_true rfl⟩) hS (fun H locs hI hN hS => ?_)
    refine lv_icmp_ge (tgt := 45) hx hb dX0_wearPans_10 (by decide) (fun hc => ?_) (fun hc => ?_)
    · have h := ite_t h hc
      exact w45  Z h _ _ _ hI hN hS (lv_sub hl [] rfl)
    · have h := ite_f h hc
      refine lv_aload_n hx hb dX0_wearPans_13 rfl (lv_at hl 0 rfl) ?_
      refine cg_get (T := TX0) (N := 7) (ci := 1) hx hb hts iwsX00 hown hK hN g1 rfl rfl 0 (by decide) l0 rfl (v := .ref (ad 3 (x0 + 4))) rfl dX0_wearPans_14 ?_
      refine lv_iload_n hx hb dX0_wearPans_17 rfl (lv_at hl 1 rfl) ?_
      obtain ⟨q5, c6, h⟩ := cl1_ok h
      refine cg_callr (k := 13) (q := q5) (va_runV (As := [.int x1]) (rest := []) ⟨hx, hb, hml, hown, hts⟩ (mJx4a65c_get_915e3 l D G A ad Z (x0 + 4) x1 q5 c6) (cwV 1 hts gX0_wearPans_Jx4a65c_get_915e3 rfl rfl rfl (by decide +kernel) ⟨Nat.le_of_ble_eq_true rfl, Nat.le_of_ble_eq_true rfl⟩) (cg_preV hI hK hN g2 rfl (ci := 0) rfl) rfl rfl hl.1 rfl (lv_room (Nat.le_of_ble_eq_true rfl)) dX0_wearPans_18 ⟨Nat.le_of_ble_eq_true rfl, Nat.le_of_ble_eq_true rfl⟩) hS (fun H locs hI hN hS => ?_)
      obtain ⟨g7, h⟩ := gd_ok h
      refine va_castS hx hb hown l1 (hK.1.1 6 _ rfl).2 (cg_recv hK hN g7 rfl (ci := 6) rfl) dX0_wearPans_21 ?_
      obtain ⟨q8, c9, h⟩ := cl1_ok h
      refine cg_get (T := TX5) (N := 2) (ci := 6) hx hb hts iwsX50 hown hK hN g7 rfl rfl 0 (by decide) l2 rfl (v := .ref (ad 9 q8)) (congrArg (fun o => some (va_rf (Option.map (ad 9) o))) c9) dX0_wearPans_24 ?_
      obtain ⟨g10, h⟩ := gd_ok h
      rcases op2_ok h with ⟨c12, h⟩ | ⟨q11, c12, h⟩
      · refine cg_get (T := TX4) (N := 6) (ci := 5) hx hb hts iwsX40 hown hK hN g10 rfl rfl 2 (by decide) l3 rfl (v := .null) (congrArg (fun o => some (va_rf (Option.map (ad 5) o))) c12) dX0_wearPans_27 ?_
        refine lv_astore_nN (lv' := [(2, .null), (0, .ref (ad 10 x0)), (1, .int x1)]) hx hb dX0_wearPans_30 rfl hl (by decide) rfl (fun ls hl => ?_)
        refine lv_aload_nN hx hb dX0_wearPans_31 rfl (lv_at hl 0 rfl) ?_
        refine lv_ifnullN (tgt := 39) hx hb dX0_wearPans_32 (by decide) ?_
        exact w39 k2 hk2 x0 x1 Z h _ _ _ hI hN hS (lv_sub hl [1, 2] rfl)
      · refine cg_get (T := TX4) (N := 6) (ci := 5) hx hb hts iwsX40 hown hK hN g10 rfl rfl 2 (by decide) l3 rfl (v := .ref (ad 5 q11)) (congrArg (fun o => some (va_rf (Option.map (ad 5) o))) c12) dX0_wearPans_27 ?_
        refine lv_astore_n (lv' := [(2, .ref (ad 5 q11)), (0, .ref (ad 10 x0)), (1, .int x1)]) hx hb dX0_wearPans_30 rfl hl (by decide) rfl (fun ls hl => ?_)
        refine lv_aload_n hx hb dX0_wearPans_31 rfl (lv_at hl 0 rfl) ?_
        refine lv_ifnull hx hb dX0_wearPans_32 ?_
        refine lv_aload_n hx hb dX0_wearPans_35 rfl (lv_at hl 0 rfl) ?_
        obtain ⟨g13, h⟩ := gd_ok h
        obtain ⟨Z14, c15, h⟩ := cl1_ok h
        refine cg_callv (va_runV (As := []) (rest := []) ⟨hx, hb, hml, hown, hts⟩ (mX1_lowerTones l D G A ad Z q11 Z14 c15) (cwV 0 hts gX0_wearPans_X1_lowerTones rfl rfl rfl (by decide +kernel) ⟨Nat.le_of_ble_eq_true rfl, Nat.le_of_ble_eq_true rfl⟩) (cg_preV hI hK hN g13 rfl (ci := 2) rfl) rfl rfl hl.1 rfl (lv_room (Nat.le_of_ble_eq_true rfl)) dX0_wearPans_36 ⟨Nat.le_of_ble_eq_true rfl, Nat.le_of_ble_eq_true rfl⟩) hS (fun H locs hI hN hS => ?_)
        exact w39 k2 hk2 x0 x1 Z14 h _ _ _ hI hN hS (lv_sub hl [1, 2] rfl)
  unfold fX0_wearPans at h
  refine lv_iconst (v := (0 : Int32)) hx hb dX0_wearPans_0 (by decide) ?_
  refine lv_istore_n (lv' := [(1, .int (0 : Int32)), (0, .ref (ad 10 a0))]) hx hb dX0_wearPans_1 rfl hl (by decide) rfl (fun ls hl => ?_)
  exact w2  a0 (0 : Int32) Z h _ _ _ hI hN hS (lv_sub hl [1, 0] rfl)
def fX0_countRight_38 (Z : CZ) (k4 : Nat → Int32 → Int32 → Int32 → Option (Int32)) (x0 : Nat) (x1 : Int32) (x2 : Int32) (x3 : Int32) : Option (Int32) := bnd (x3 + (1 : Int32)) (fun v10 => k4 x0 x1 x2 v10)
def fX0_countRight_44 (Z : CZ) (x2 : Int32) : Option (Int32) := some x2
def fX0_countRight_4 (Z : CZ) (k4 : Nat → Int32 → Int32 → Int32 → Option (Int32)) (x0 : Nat) (x1 : Int32) (x2 : Int32) (x3 : Int32) : Option (Int32) := gd (cLv Z.2.2 10 x0) (gd (cLv Z.2.2 3 (x0 + 4)) (cl1 (fJx4a65c_size_8abf5 (x0 + 4) Z) (fun v3 => (if v3 ≤ x3 then fX0_countRight_44 Z x2 else cl1 (fJx4a65c_get_915e3 (x0 + 4) x3 Z) (fun q5 => gd (cLv Z.2.2 13 q5) (gd (gin x1 6) ((if (Z.1 14 q5 (Int32.toNatClampNeg x1)) = (1 : Int32) then bnd (x2 + (1 : Int32)) (fun v9 => fX0_countRight_38 Z k4 x0 x1 v9 x3) else fX0_countRight_38 Z k4 x0 x1 x2 x3))))))))
def fX0_countRight (a0 : Nat) (a1 : Int32) (Z : CZ) : Option (Int32) := lf4 (fX0_countRight_4 Z) 100 a0 a1 (0 : Int32) (0 : Int32)
def rmX0_countRight : Room := { frames := 4, cells := 0, slots := 0, locals := 94 }
set_option maxHeartbeats 4000000 in
set_option maxRecDepth 100000 in
theorem mX0_countRight (l : Launch) (D : va_G) (G : CGT) (A : Nat → Prop) (ad : Nat → Nat → Nat) (Z : CZ) (a0 : Nat) (a1 : Int32) (rz : Int32) (h : fX0_countRight a0 a1 Z = some rz) : Met l yX0_countRight wsX0_countRight rmX0_countRight (va_Pc [.ref (ad 10 a0), .int a1] (cP D G A ad Z)) (cQi D G A ad rz Z) 0 0 A := by
  refine Met.ofW (cc := cX0_countRight) (maxL := 4) (ret := some .int) (by decide) rfl ?_
  intro p e s m args below meth c s₁ B hml hv
  obtain ⟨rfl, hI, hN, hK⟩ := hv
  have hx := B.exec
  have hb := B.bytes
  have hr := B.returns
  have hts := atoms_spec (ws := wsX0_countRight) B.pre
  have hown : s.vm.findClass RX0 = some m.cls := findClass_of_methodNamed B.named
  have hlocks := B.notSynchronized
  have iwsX00 : ∀ w ∈ wsX00, w ∈ wsX0_countRight := fun w h => List.mem_cons_of_mem _ (List.mem_append_left _ (List.mem_append_left _ (List.mem_append_right _ h)))
  have iwsX50 : ∀ w ∈ wsX50, w ∈ wsX0_countRight := fun w h => List.mem_cons_of_mem _ (List.mem_append_left _ (List.mem_append_right _ h))
  have l0 := hts (.fieldLink RX0 12 "Panyard$Band" "seats" "Ljava/util/ArrayList;") (List.mem_of_getElem? (i := 1) rfl)
  have l1 := hts (.classLink RX0 49 "Panyard$Seat") (List.mem_of_getElem? (i := 2) rfl)
  have l2 := hts (.fieldLink RX0 55 "Panyard$Seat" "known" "[I") (List.mem_of_getElem? (i := 3) rfl)
  have hS : va_S A s.heap s.heap [] := va_S.rf
  have hl := lv_entry ([.ref (ad 10 a0), .int a1]) (n := 4) (Nat.le_of_ble_eq_true rfl)
  rw [lg_entry_eq]
  generalize (lg_sl ([.ref (ad 10 a0), .int a1]) ++ List.replicate (4 - (lg_sl ([.ref (ad 10 a0), .int a1])).length) Slot.unset).toArray = ls at hl ⊢
  have hl : lv_has ls 4 [(0, .ref (ad 10 a0)), (1, .int a1)] := hl
  have w38 : ∀ (k4 : Nat → Int32 → Int32 → Int32 → Option (Int32)) (hk4 : (∀ (x0 : Nat) (x1 : Int32) (x2 : Int32) (x3 : Int32), k4 x0 x1 x2 x3 = some rz → cG p l e (headSpec wsX0_countRight rmX0_countRight).room s m (([.ref (ad 10 a0), .int a1] : List Value).toArray) below meth c (MQ below (cQi D G A ad rz Z) (([.ref (ad 10 a0), .int a1] : List Value).toArray) s 0 0 A) D G A ad 0 0 4 Z 4 [(0, .ref (ad 10 x0)), (1, .int x1), (2, .int x2), (3, .int x3)] [])) (x0 : Nat) (x1 : Int32) (x2 : Int32) (x3 : Int32), fX0_countRight_38 Z k4 x0 x1 x2 x3 = some rz → cG p l e (headSpec wsX0_countRight rmX0_countRight).room s m (([.ref (ad 10 a0), .int a1] : List Value).toArray) below meth c (MQ below (cQi D G A ad rz Z) (([.ref (ad 10 a0), .int a1] : List Value).toArray) s 0 0 A) D G A ad 0 0 4 Z 38 [(0, .ref (ad 10 x0)), (1, .int x1), (2, .int x2), (3, .int x3)] [] := by
    intro k4 hk4 x0 x1 x2 x3 h H locs ls hI hN hS hl
    unfold fX0_countRight_38 at h
    obtain ⟨v10, ev10⟩ : ∃ y : Int32, y = (x3 + (1 : Int32)) := ⟨_, rfl⟩
    have h := bnd_ok h ev10
    refine lv_iinc (v := v10) (lv' := [(3, .int v10), (0, .ref (ad 10 x0)), (1, .int x1), (2, .int x2)]) hx hb dX0_countRight_38 hl (k := 3) rfl (by rw [ev10]; rfl) (by decide) rfl (fun ls hl => ?_)
    refine lv_goto (tgt := 4) hx hb dX0_countRight_41 (by decide) ?_
    exact hk4 x0 x1 x2 v10 h _ _ _ hI hN hS (lv_sub hl [1, 2, 3, 0] rfl)
  have w44 : ∀ (x2 : Int32), fX0_countRight_44 Z x2 = some rz → cG p l e (headSpec wsX0_countRight rmX0_countRight).room s m (([.ref (ad 10 a0), .int a1] : List Value).toArray) below meth c (MQ below (cQi D G A ad rz Z) (([.ref (ad 10 a0), .int a1] : List Value).toArray) s 0 0 A) D G A ad 0 0 4 Z 44 [(2, .int x2)] [] := by
    intro  x2 h H locs ls hI hN hS hl
    unfold fX0_countRight_44 at h
    refine lv_iload_n hx hb dX0_countRight_44 rfl (lv_at hl 0 rfl) ?_
    exact W.iret hx hb hr (cg_endr h hI hK hN hS) hS.2.2 dX0_countRight_45
  have w4 : ∀ (x0 : Nat) (x1 : Int32) (x2 : Int32) (x3 : Int32), lf4 (fX0_countRight_4 Z) 100 x0 x1 x2 x3 = some rz → cG p l e (headSpec wsX0_countRight rmX0_countRight).room s m (([.ref (ad 10 a0), .int a1] : List Value).toArray) below meth c (MQ below (cQi D G A ad rz Z) (([.ref (ad 10 a0), .int a1] : List Value).toArray) s 0 0 A) D G A ad 0 0 4 Z 4 [(0, .ref (ad 10 x0)), (1, .int x1), (2, .int x2), (3, .int x3)] [] := by
    refine lf4_ok (P := (fun x0 x1 x2 x3 => cG p l e (headSpec wsX0_countRight rmX0_countRight).room s m (([.ref (ad 10 a0), .int a1] : List Value).toArray) below meth c (MQ below (cQi D G A ad rz Z) (([.ref (ad 10 a0), .int a1] : List Value).toArray) s 0 0 A) D G A ad 0 0 4 Z 4 [(0, .ref (ad 10 x0)), (1, .int x1), (2, .int x2), (3, .int x3)] [])) (fun k4 hk4 x0 x1 x2 x3 h H locs ls hI hN hS hl => ?_) 100
    unfold fX0_countRight_4 at h
    refine lv_iload_n hx hb dX0_countRight_4 rfl (lv_at hl 3 rfl) ?_
    refine lv_aload_n hx hb dX0_countRight_5 rfl (lv_at hl 0 rfl) ?_
    obtain ⟨g1, h⟩ := gd_ok h
    refine cg_get (T := TX0) (N := 7) (ci := 1) hx hb hts iwsX00 hown hK hN g1 rfl rfl 0 (by decide) l0 rfl (v := .ref (ad 3 (x0 + 4))) rfl dX0_countRight_6 ?_
    obtain ⟨g2, h⟩ := gd_ok h
    obtain ⟨v3, c4, h⟩ := cl1_ok h
    refine cg_calli (va_runV (As := []) (rest := [.int x3]) ⟨hx, hb, hml, hown, hts⟩ (mJx4a65c_size_8abf5 l D G A ad Z (x0 + 4) v3 c4) (cwV 0 hts gX0_countRight_Jx4a65c_size_8abf5 rfl rfl rfl (by decide +kernel) ⟨Nat.le_of_ble_eq_true rfl, Nat.le_of_ble_eq_true rfl⟩) (cg_preV hI hK hN g2 rfl (ci := 0) rfl) rfl rfl hl.1 rfl (lv_room (Nat.le_of_ble_eq_true rfl)) dX0_countRight_9 ⟨Nat.le_of_ble_eq_true rfl, Nat.le_of_ble_eq_true rfl⟩) hS (fun H locs hI hN hS => ?_)
    refine lv_icmp_ge (tgt := 44) hx hb dX0_countRight_12 (by decide) (fun hc => ?_) (fun hc => ?_)
    · have h := ite_t h hc
      exact w44  x2 h _ _ _ hI hN hS (lv_sub hl [2] rfl)
    · have h := ite_f h hc
      refine lv_aload_n hx hb dX0_countRight_15 rfl (lv_at hl 0 rfl) ?_
      refine cg_get (T := TX0) (N := 7) (ci := 1) hx hb hts iwsX00 hown hK hN g1 rfl rfl 0 (by decide) l0 rfl (v := .ref (ad 3 (x0 + 4))) rfl dX0_countRight_16 ?_
      refine lv_iload_n hx hb dX0_countRight_19 rfl (lv_at hl 3 rfl) ?_
      obtain ⟨q5, c6, h⟩ := cl1_ok h
      refine cg_callr (k := 13) (q := q5) (va_runV (As := [.int x3]) (rest := []) ⟨hx, hb, hml, hown, hts⟩ (mJx4a65c_get_915e3 l D G A ad Z (x0 + 4) x3 q5 c6) (cwV 1 hts gX0_countRight_Jx4a65c_get_915e3 rfl rfl rfl (by decide +kernel) ⟨Nat.le_of_ble_eq_true rfl, Nat.le_of_ble_eq_true rfl⟩) (cg_preV hI hK hN g2 rfl (ci := 0) rfl) rfl rfl hl.1 rfl (lv_room (Nat.le_of_ble_eq_true rfl)) dX0_countRight_20 ⟨Nat.le_of_ble_eq_true rfl, Nat.le_of_ble_eq_true rfl⟩) hS (fun H locs hI hN hS => ?_)
      obtain ⟨g7, h⟩ := gd_ok h
      refine va_castS hx hb hown l1 (hK.1.1 6 _ rfl).2 (cg_recv hK hN g7 rfl (ci := 6) rfl) dX0_countRight_23 ?_
      refine cg_get (T := TX5) (N := 2) (ci := 6) hx hb hts iwsX50 hown hK hN g7 rfl rfl 1 (by decide) l2 rfl (v := .ref (ad 14 q5)) rfl dX0_countRight_26 ?_
      refine lv_iload_n hx hb dX0_countRight_29 rfl (lv_at hl 1 rfl) ?_
      obtain ⟨g8, h⟩ := gd_ok h
      refine cg_ild hx hb hK hN g7 rfl (gin_ok g8) dX0_countRight_30 ?_
      refine lv_iconst (v := (1 : Int32)) hx hb dX0_countRight_31 (by decide) ?_
      refine lv_icmp_ne (tgt := 38) hx hb dX0_countRight_32 (by decide) (fun hc => ?_) (fun hc => ?_)
      · have h := ite_f h hc
        exact w38 k4 hk4 x0 x1 x2 x3 h _ _ _ hI hN hS (lv_sub hl [0, 1, 2, 3] rfl)
      · have h := ite_t h hc
        obtain ⟨v9, ev9⟩ : ∃ y : Int32, y = (x2 + (1 : Int32)) := ⟨_, rfl⟩
        have h := bnd_ok h ev9
        refine lv_iinc (v := v9) (lv' := [(2, .int v9), (0, .ref (ad 10 x0)), (1, .int x1), (3, .int x3)]) hx hb dX0_countRight_35 hl (k := 2) rfl (by rw [ev9]; rfl) (by decide) rfl (fun ls hl => ?_)
        exact w38 k4 hk4 x0 x1 v9 x3 h _ _ _ hI hN hS (lv_sub hl [1, 2, 0, 3] rfl)
  unfold fX0_countRight at h
  refine lv_iconst (v := (0 : Int32)) hx hb dX0_countRight_0 (by decide) ?_
  refine lv_istore_n (lv' := [(2, .int (0 : Int32)), (0, .ref (ad 10 a0)), (1, .int a1)]) hx hb dX0_countRight_1 rfl hl (by decide) rfl (fun ls hl => ?_)
  refine lv_iconst (v := (0 : Int32)) hx hb dX0_countRight_2 (by decide) ?_
  refine lv_istore_n (lv' := [(3, .int (0 : Int32)), (2, .int (0 : Int32)), (0, .ref (ad 10 a0)), (1, .int a1)]) hx hb dX0_countRight_3 rfl hl (by decide) rfl (fun ls hl => ?_)
  exact w4  a0 a1 (0 : Int32) (0 : Int32) h _ _ _ hI hN hS (lv_sub hl [2, 3, 1, 0] rfl)
def fX0_countMarks_22 (Z : CZ) (k4 : Nat → Int32 → Int32 → Option (Int32)) (x0 : Nat) (x1 : Int32) (x2 : Int32) : Option (Int32) := bnd (x2 + (1 : Int32)) (fun v4 => k4 x0 x1 v4)
def fX0_countMarks_28 (Z : CZ) (x1 : Int32) : Option (Int32) := some x1
def fX0_countMarks_4 (Z : CZ) (k4 : Nat → Int32 → Int32 → Option (Int32)) (x0 : Nat) (x1 : Int32) (x2 : Int32) : Option (Int32) := (if (5 : Int32) ≤ x2 then fX0_countMarks_28 Z x1 else gd (cLv Z.2.2 10 x0) (gd (gin x2 5) ((if (Z.1 12 x0 (Int32.toNatClampNeg x2)) = (-1 : Int32) then fX0_countMarks_22 Z k4 x0 x1 x2 else bnd (x1 + (1 : Int32)) (fun v3 => fX0_countMarks_22 Z k4 x0 v3 x2)))))
def fX0_countMarks (a0 : Nat) (Z : CZ) : Option (Int32) := lf3 (fX0_countMarks_4 Z) 100 a0 (0 : Int32) (0 : Int32)
def rmX0_countMarks : Room := { frames := 1, cells := 0, slots := 0, locals := 30 }
set_option maxHeartbeats 4000000 in
set_option maxRecDepth 100000 in
theorem mX0_countMarks (l : Launch) (D : va_G) (G : CGT) (A : Nat → Prop) (ad : Nat → Nat → Nat) (Z : CZ) (a0 : Nat) (rz : Int32) (h : fX0_countMarks a0 Z = some rz) : Met l yX0_countMarks wsX0_countMarks rmX0_countMarks (va_Pc [.ref (ad 10 a0)] (cP D G A ad Z)) (cQi D G A ad rz Z) 0 0 A := by
  refine Met.ofW (cc := cX0_countMarks) (maxL := 3) (ret := some .int) (by decide) rfl ?_
  intro p e s m args below meth c s₁ B hml hv
  obtain ⟨rfl, hI, hN, hK⟩ := hv
  have hx := B.exec
  have hb := B.bytes
  have hr := B.returns
  have hts := atoms_spec (ws := wsX0_countMarks) B.pre
  have hown : s.vm.findClass RX0 = some m.cls := findClass_of_methodNamed B.named
  have hlocks := B.notSynchronized
  have iwsX00 : ∀ w ∈ wsX00, w ∈ wsX0_countMarks := fun w h => List.mem_cons_of_mem _ (List.mem_append_right _ h)
  have l0 := hts (.fieldLink RX0 22 "Panyard$Band" "marks" "[I") (List.mem_of_getElem? (i := 1) rfl)
  have hS : va_S A s.heap s.heap [] := va_S.rf
  have hl := lv_entry ([.ref (ad 10 a0)]) (n := 3) (Nat.le_of_ble_eq_true rfl)
  rw [lg_entry_eq]
  generalize (lg_sl ([.ref (ad 10 a0)]) ++ List.replicate (3 - (lg_sl ([.ref (ad 10 a0)])).length) Slot.unset).toArray = ls at hl ⊢
  have hl : lv_has ls 3 [(0, .ref (ad 10 a0))] := hl
  have w22 : ∀ (k4 : Nat → Int32 → Int32 → Option (Int32)) (hk4 : (∀ (x0 : Nat) (x1 : Int32) (x2 : Int32), k4 x0 x1 x2 = some rz → cG p l e (headSpec wsX0_countMarks rmX0_countMarks).room s m (([.ref (ad 10 a0)] : List Value).toArray) below meth c (MQ below (cQi D G A ad rz Z) (([.ref (ad 10 a0)] : List Value).toArray) s 0 0 A) D G A ad 0 0 3 Z 4 [(0, .ref (ad 10 x0)), (1, .int x1), (2, .int x2)] [])) (x0 : Nat) (x1 : Int32) (x2 : Int32), fX0_countMarks_22 Z k4 x0 x1 x2 = some rz → cG p l e (headSpec wsX0_countMarks rmX0_countMarks).room s m (([.ref (ad 10 a0)] : List Value).toArray) below meth c (MQ below (cQi D G A ad rz Z) (([.ref (ad 10 a0)] : List Value).toArray) s 0 0 A) D G A ad 0 0 3 Z 22 [(0, .ref (ad 10 x0)), (1, .int x1), (2, .int x2)] [] := by
    intro k4 hk4 x0 x1 x2 h H locs ls hI hN hS hl
    unfold fX0_countMarks_22 at h
    obtain ⟨v4, ev4⟩ : ∃ y : Int32, y = (x2 + (1 : Int32)) := ⟨_, rfl⟩
    have h := bnd_ok h ev4
    refine lv_iinc (v := v4) (lv' := [(2, .int v4), (0, .ref (ad 10 x0)), (1, .int x1)]) hx hb dX0_countMarks_22 hl (k := 2) rfl (by rw [ev4]; rfl) (by decide) rfl (fun ls hl => ?_)
    refine lv_goto (tgt := 4) hx hb dX0_countMarks_25 (by decide) ?_
    exact hk4 x0 x1 v4 h _ _ _ hI hN hS (lv_sub hl [1, 2, 0] rfl)
  have w28 : ∀ (x1 : Int32), fX0_countMarks_28 Z x1 = some rz → cG p l e (headSpec wsX0_countMarks rmX0_countMarks).room s m (([.ref (ad 10 a0)] : List Value).toArray) below meth c (MQ below (cQi D G A ad rz Z) (([.ref (ad 10 a0)] : List Value).toArray) s 0 0 A) D G A ad 0 0 3 Z 28 [(1, .int x1)] [] := by
    intro  x1 h H locs ls hI hN hS hl
    unfold fX0_countMarks_28 at h
    refine lv_iload_n hx hb dX0_countMarks_28 rfl (lv_at hl 0 rfl) ?_
    exact W.iret hx hb hr (cg_endr h hI hK hN hS) hS.2.2 dX0_countMarks_29
  have w4 : ∀ (x0 : Nat) (x1 : Int32) (x2 : Int32), lf3 (fX0_countMarks_4 Z) 100 x0 x1 x2 = some rz → cG p l e (headSpec wsX0_countMarks rmX0_countMarks).room s m (([.ref (ad 10 a0)] : List Value).toArray) below meth c (MQ below (cQi D G A ad rz Z) (([.ref (ad 10 a0)] : List Value).toArray) s 0 0 A) D G A ad 0 0 3 Z 4 [(0, .ref (ad 10 x0)), (1, .int x1), (2, .int x2)] [] := by
    refine lf3_ok (P := (fun x0 x1 x2 => cG p l e (headSpec wsX0_countMarks rmX0_countMarks).room s m (([.ref (ad 10 a0)] : List Value).toArray) below meth c (MQ below (cQi D G A ad rz Z) (([.ref (ad 10 a0)] : List Value).toArray) s 0 0 A) D G A ad 0 0 3 Z 4 [(0, .ref (ad 10 x0)), (1, .int x1), (2, .int x2)] [])) (fun k4 hk4 x0 x1 x2 h H locs ls hI hN hS hl => ?_) 100
    unfold fX0_countMarks_4 at h
    refine lv_iload_n hx hb dX0_countMarks_4 rfl (lv_at hl 2 rfl) ?_
    refine lv_iconst (v := (5 : Int32)) hx hb dX0_countMarks_5 (by decide) ?_
    refine lv_icmp_ge (tgt := 28) hx hb dX0_countMarks_6 (by decide) (fun hc => ?_) (fun hc => ?_)
    · have h := ite_t h hc
      exact w28  x1 h _ _ _ hI hN hS (lv_sub hl [1] rfl)
    · have h := ite_f h hc
      refine lv_aload_n hx hb dX0_countMarks_9 rfl (lv_at hl 0 rfl) ?_
      obtain ⟨g1, h⟩ := gd_ok h
      refine cg_get (T := TX0) (N := 7) (ci := 1) hx hb hts iwsX00 hown hK hN g1 rfl rfl 2 (by decide) l0 rfl (v := .ref (ad 12 x0)) rfl dX0_countMarks_10 ?_
      refine lv_iload_n hx hb dX0_countMarks_13 rfl (lv_at hl 2 rfl) ?_
      obtain ⟨g2, h⟩ := gd_ok h
      refine cg_ild hx hb hK hN g1 rfl (gin_ok g2) dX0_countMarks_14 ?_
      refine lv_iconst (v := (-1 : Int32)) hx hb dX0_countMarks_15 (by decide) ?_
      refine lv_icmp_eq (tgt := 22) hx hb dX0_countMarks_16 (by decide) (fun hc => ?_) (fun hc => ?_)
      · have h := ite_t h hc
        exact w22 k4 hk4 x0 x1 x2 h _ _ _ hI hN hS (lv_sub hl [0, 1, 2] rfl)
      · have h := ite_f h hc
        obtain ⟨v3, ev3⟩ : ∃ y : Int32, y = (x1 + (1 : Int32)) := ⟨_, rfl⟩
        have h := bnd_ok h ev3
        refine lv_iinc (v := v3) (lv' := [(1, .int v3), (0, .ref (ad 10 x0)), (2, .int x2)]) hx hb dX0_countMarks_19 hl (k := 1) rfl (by rw [ev3]; rfl) (by decide) rfl (fun ls hl => ?_)
        exact w22 k4 hk4 x0 v3 x2 h _ _ _ hI hN hS (lv_sub hl [1, 0, 2] rfl)
  unfold fX0_countMarks at h
  refine lv_iconst (v := (0 : Int32)) hx hb dX0_countMarks_0 (by decide) ?_
  refine lv_istore_n (lv' := [(1, .int (0 : Int32)), (0, .ref (ad 10 a0))]) hx hb dX0_countMarks_1 rfl hl (by decide) rfl (fun ls hl => ?_)
  refine lv_iconst (v := (0 : Int32)) hx hb dX0_countMarks_2 (by decide) ?_
  refine lv_istore_n (lv' := [(2, .int (0 : Int32)), (1, .int (0 : Int32)), (0, .ref (ad 10 a0))]) hx hb dX0_countMarks_3 rfl hl (by decide) rfl (fun ls hl => ?_)
  exact w4  a0 (0 : Int32) (0 : Int32) h _ _ _ hI hN hS (lv_sub hl [2, 1, 0] rfl)
def fX0_isRanked_13 (Z : CZ) (t0 : Int32) : Option (Int32) := gd (gbo t0) (some t0)
def fX0_isRanked (a0 : Nat) (Z : CZ) : Option (Int32) := gd (cLv Z.2.2 10 a0) (cl1 (fX0_countMarks a0 Z) (fun v2 => (if v2 = (5 : Int32) then fX0_isRanked_13 Z (1 : Int32) else fX0_isRanked_13 Z (0 : Int32))))
def rmX0_isRanked : Room := { frames := 2, cells := 0, slots := 0, locals := 52 }
set_option maxHeartbeats 4000000 in
set_option maxRecDepth 100000 in
theorem mX0_isRanked (l : Launch) (D : va_G) (G : CGT) (A : Nat → Prop) (ad : Nat → Nat → Nat) (Z : CZ) (a0 : Nat) (rz : Int32) (h : fX0_isRanked a0 Z = some rz) : Met l yX0_isRanked wsX0_isRanked rmX0_isRanked (va_Pc [.ref (ad 10 a0)] (cP D G A ad Z)) (cQi D G A ad rz Z) 0 0 A := by
  refine Met.ofW (cc := cX0_isRanked) (maxL := 1) (ret := some .boolean) (by decide) rfl ?_
  intro p e s m args below meth c s₁ B hml hv
  obtain ⟨rfl, hI, hN, hK⟩ := hv
  have hx := B.exec
  have hb := B.bytes
  have hr := B.returns
  have hts := atoms_spec (ws := wsX0_isRanked) B.pre
  have hown : s.vm.findClass RX0 = some m.cls := findClass_of_methodNamed B.named
  have hlocks := B.notSynchronized
  have hS : va_S A s.heap s.heap [] := va_S.rf
  have hl := lv_entry ([.ref (ad 10 a0)]) (n := 1) (Nat.le_of_ble_eq_true rfl)
  rw [lg_entry_eq]
  generalize (lg_sl ([.ref (ad 10 a0)]) ++ List.replicate (1 - (lg_sl ([.ref (ad 10 a0)])).length) Slot.unset).toArray = ls at hl ⊢
  have hl : lv_has ls 1 [(0, .ref (ad 10 a0))] := hl
  have w13 : ∀ (t0 : Int32), fX0_isRanked_13 Z t0 = some rz → cG p l e (headSpec wsX0_isRanked rmX0_isRanked).room s m (([.ref (ad 10 a0)] : List Value).toArray) below meth c (MQ below (cQi D G A ad rz Z) (([.ref (ad 10 a0)] : List Value).toArray) s 0 0 A) D G A ad 0 0 1 Z 13 [] [.int t0] := by
    intro  t0 h H locs ls hI hN hS hl
    unfold fX0_isRanked_13 at h
    obtain ⟨g4, h⟩ := gd_ok h
    exact W.zret hx hb hr (gbo_ok g4) (cg_endr h hI hK hN hS) hS.2.2 dX0_isRanked_13
  unfold fX0_isRanked at h
  refine lv_aload_n hx hb dX0_isRanked_0 rfl (lv_at hl 0 rfl) ?_
  obtain ⟨g1, h⟩ := gd_ok h
  obtain ⟨v2, c3, h⟩ := cl1_ok h
  refine cg_calli (va_runV (As := []) (rest := []) ⟨hx, hb, hml, hown, hts⟩ (mX0_countMarks l D G A ad Z a0 v2 c3) (cwV 0 hts gX0_isRanked_X0_countMarks rfl rfl rfl (by decide +kernel) ⟨Nat.le_of_ble_eq_true rfl, Nat.le_of_ble_eq_true rfl⟩) (cg_preV hI hK hN g1 rfl (ci := 1) rfl) rfl rfl hl.1 rfl (lv_room (Nat.le_of_ble_eq_true rfl)) dX0_isRanked_1 ⟨Nat.le_of_ble_eq_true rfl, Nat.le_of_ble_eq_true rfl⟩) hS (fun H locs hI hN hS => ?_)
  refine lv_iconst (v := (5 : Int32)) hx hb dX0_isRanked_4 (by decide) ?_
  refine lv_icmp_ne (tgt := 12) hx hb dX0_isRanked_5 (by decide) (fun hc => ?_) (fun hc => ?_)
  · have h := ite_f h hc
    refine lv_iconst (v := (0 : Int32)) hx hb dX0_isRanked_12 (by decide) ?_
    exact w13  (0 : Int32) h _ _ _ hI hN hS (lv_sub hl [] rfl)
  · have h := ite_t h hc
    refine lv_iconst (v := (1 : Int32)) hx hb dX0_isRanked_8 (by decide) ?_
    refine lv_goto (tgt := 13) hx hb dX0_isRanked_9 (by decide) ?_
    exact w13  (1 : Int32) h _ _ _ hI hN hS (lv_sub hl [] rfl)
def fX0_countScore_56 (Z : CZ) (x0 : Nat) (x1 : Int32) (x2 : Int32) (x3 : Int32) : Option (Int32) := gd (cLv Z.2.2 10 x0) (some (((x1 - x2) - x3) - (Z.1 10 x0 6)))
def fX0_countScore_10 (Z : CZ) (k10 : Nat → Int32 → Int32 → Int32 → Int32 → Option (Int32)) (x0 : Nat) (x1 : Int32) (x2 : Int32) (x3 : Int32) (x4 : Int32) : Option (Int32) := (if (5 : Int32) ≤ x4 then fX0_countScore_56 Z x0 x1 x2 x3 else gd (cLv Z.2.2 10 x0) (gd (gin x4 5) (bnd (x1 + (Z.1 12 x0 (Int32.toNatClampNeg x4))) (fun v3 => gd (gin x4 5) (bnd (if (Z.1 12 x0 (Int32.toNatClampNeg x4)) < x2 then (Z.1 12 x0 (Int32.toNatClampNeg x4)) else x2) (fun v5 => gd (gin x4 5) (bnd (if x3 < (Z.1 12 x0 (Int32.toNatClampNeg x4)) then (Z.1 12 x0 (Int32.toNatClampNeg x4)) else x3) (fun v7 => bnd (x4 + (1 : Int32)) (fun v8 => k10 x0 v3 v5 v7 v8)))))))))
def fX0_countScore (a0 : Nat) (Z : CZ) : Option (Int32) := lf5 (fX0_countScore_10 Z) 100 a0 (0 : Int32) (100 : Int32) (0 : Int32) (0 : Int32)
def rmX0_countScore : Room := { frames := 1, cells := 0, slots := 0, locals := 30 }
set_option maxHeartbeats 4000000 in
set_option maxRecDepth 100000 in
theorem mX0_countScore (l : Launch) (D : va_G) (G : CGT) (A : Nat → Prop) (ad : Nat → Nat → Nat) (Z : CZ) (a0 : Nat) (rz : Int32) (h : fX0_countScore a0 Z = some rz) : Met l yX0_countScore wsX0_countScore rmX0_countScore (va_Pc [.ref (ad 10 a0)] (cP D G A ad Z)) (cQi D G A ad rz Z) 0 0 A := by
  refine Met.ofW (cc := cX0_countScore) (maxL := 5) (ret := some .int) (by decide) rfl ?_
  intro p e s m args below meth c s₁ B hml hv
  obtain ⟨rfl, hI, hN, hK⟩ := hv
  have hx := B.exec
  have hb := B.bytes
  have hr := B.returns
  have hts := atoms_spec (ws := wsX0_countScore) B.pre
  have hown : s.vm.findClass RX0 = some m.cls := findClass_of_methodNamed B.named
  have hlocks := B.notSynchronized
  have iwsX00 : ∀ w ∈ wsX00, w ∈ wsX0_countScore := fun w h => List.mem_cons_of_mem _ (List.mem_append_right _ h)
  have l0 := hts (.fieldLink RX0 22 "Panyard$Band" "marks" "[I") (List.mem_of_getElem? (i := 1) rfl)
  have l1 := hts (.methodLink RX0 76 Lib.Math.min.name) (List.mem_of_getElem? (i := 2) rfl)
  have l2 := hts (.static Lib.Math.min.name) (List.mem_of_getElem? (i := 3) rfl)
  have l3 := hts (.initialized "java/lang/Math") (List.mem_of_getElem? (i := 4) rfl)
  have l4 := hts (.code Lib.Math.min.name Lib.Math.min.code 2 (some .int)) (List.mem_of_getElem? (i := 5) rfl)
  have l5 := hts (.methodLink RX0 82 Lib.Math.max.name) (List.mem_of_getElem? (i := 6) rfl)
  have l6 := hts (.static Lib.Math.max.name) (List.mem_of_getElem? (i := 7) rfl)
  have l7 := hts (.code Lib.Math.max.name Lib.Math.max.code 2 (some .int)) (List.mem_of_getElem? (i := 8) rfl)
  have l8 := hts (.fieldLink RX0 85 "Panyard$Band" "over" "I") (List.mem_of_getElem? (i := 9) rfl)
  have hS : va_S A s.heap s.heap [] := va_S.rf
  have hl := lv_entry ([.ref (ad 10 a0)]) (n := 5) (Nat.le_of_ble_eq_true rfl)
  rw [lg_entry_eq]
  generalize (lg_sl ([.ref (ad 10 a0)]) ++ List.replicate (5 - (lg_sl ([.ref (ad 10 a0)])).length) Slot.unset).toArray = ls at hl ⊢
  have hl : lv_has ls 5 [(0, .ref (ad 10 a0))] := hl
  have w56 : ∀ (x0 : Nat) (x1 : Int32) (x2 : Int32) (x3 : Int32), fX0_countScore_56 Z x0 x1 x2 x3 = some rz → cG p l e (headSpec wsX0_countScore rmX0_countScore).room s m (([.ref (ad 10 a0)] : List Value).toArray) below meth c (MQ below (cQi D G A ad rz Z) (([.ref (ad 10 a0)] : List Value).toArray) s 0 0 A) D G A ad 0 0 5 Z 56 [(0, .ref (ad 10 x0)), (1, .int x1), (2, .int x2), (3, .int x3)] [] := by
    intro  x0 x1 x2 x3 h H locs ls hI hN hS hl
    unfold fX0_countScore_56 at h
    refine lv_iload_n hx hb dX0_countScore_56 rfl (lv_at hl 1 rfl) ?_
    refine lv_iload_n hx hb dX0_countScore_57 rfl (lv_at hl 2 rfl) ?_
    refine lv_isub hx hb dX0_countScore_58 ?_
    refine lv_iload_n hx hb dX0_countScore_59 rfl (lv_at hl 3 rfl) ?_
    refine lv_isub hx hb dX0_countScore_60 ?_
    refine lv_aload_n hx hb dX0_countScore_61 rfl (lv_at hl 0 rfl) ?_
    obtain ⟨g9, h⟩ := gd_ok h
    refine cg_get (T := TX0) (N := 7) (ci := 1) hx hb hts iwsX00 hown hK hN g9 rfl rfl 6 (by decide) l8 rfl (v := .int (Z.1 10 x0 6)) rfl dX0_countScore_62 ?_
    refine lv_isub hx hb dX0_countScore_65 ?_
    exact W.iret hx hb hr (cg_endr h hI hK hN hS) hS.2.2 dX0_countScore_66
  have w10 : ∀ (x0 : Nat) (x1 : Int32) (x2 : Int32) (x3 : Int32) (x4 : Int32), lf5 (fX0_countScore_10 Z) 100 x0 x1 x2 x3 x4 = some rz → cG p l e (headSpec wsX0_countScore rmX0_countScore).room s m (([.ref (ad 10 a0)] : List Value).toArray) below meth c (MQ below (cQi D G A ad rz Z) (([.ref (ad 10 a0)] : List Value).toArray) s 0 0 A) D G A ad 0 0 5 Z 10 [(0, .ref (ad 10 x0)), (1, .int x1), (2, .int x2), (3, .int x3), (4, .int x4)] [] := by
    refine lf5_ok (P := (fun x0 x1 x2 x3 x4 => cG p l e (headSpec wsX0_countScore rmX0_countScore).room s m (([.ref (ad 10 a0)] : List Value).toArray) below meth c (MQ below (cQi D G A ad rz Z) (([.ref (ad 10 a0)] : List Value).toArray) s 0 0 A) D G A ad 0 0 5 Z 10 [(0, .ref (ad 10 x0)), (1, .int x1), (2, .int x2), (3, .int x3), (4, .int x4)] [])) (fun k10 hk10 x0 x1 x2 x3 x4 h H locs ls hI hN hS hl => ?_) 100
    unfold fX0_countScore_10 at h
    refine lv_iload hx hb dX0_countScore_10 (lv_at hl 4 rfl) ?_
    refine lv_iconst (v := (5 : Int32)) hx hb dX0_countScore_12 (by decide) ?_
    refine lv_icmp_ge (tgt := 56) hx hb dX0_countScore_13 (by decide) (fun hc => ?_) (fun hc => ?_)
    · have h := ite_t h hc
      exact w56  x0 x1 x2 x3 h _ _ _ hI hN hS (lv_sub hl [0, 1, 2, 3] rfl)
    · have h := ite_f h hc
      refine lv_iload_n hx hb dX0_countScore_16 rfl (lv_at hl 1 rfl) ?_
      refine lv_aload_n hx hb dX0_countScore_17 rfl (lv_at hl 0 rfl) ?_
      obtain ⟨g1, h⟩ := gd_ok h
      refine cg_get (T := TX0) (N := 7) (ci := 1) hx hb hts iwsX00 hown hK hN g1 rfl rfl 2 (by decide) l0 rfl (v := .ref (ad 12 x0)) rfl dX0_countScore_18 ?_
      refine lv_iload hx hb dX0_countScore_21 (lv_at hl 4 rfl) ?_
      obtain ⟨g2, h⟩ := gd_ok h
      refine cg_ild hx hb hK hN g1 rfl (gin_ok g2) dX0_countScore_23 ?_
      refine lv_iadd hx hb dX0_countScore_24 ?_
      refine lv_topi (fun v3 ev3 => ?_)
      have h := bnd_ok h ev3
      refine lv_istore_n (lv' := [(1, .int v3), (0, .ref (ad 10 x0)), (2, .int x2), (3, .int x3), (4, .int x4)]) hx hb dX0_countScore_25 rfl hl (by decide) rfl (fun ls hl => ?_)
      refine lv_iload_n hx hb dX0_countScore_26 rfl (lv_at hl 2 rfl) ?_
      refine lv_aload_n hx hb dX0_countScore_27 rfl (lv_at hl 1 rfl) ?_
      refine cg_get (T := TX0) (N := 7) (ci := 1) hx hb hts iwsX00 hown hK hN g1 rfl rfl 2 (by decide) l0 rfl (v := .ref (ad 12 x0)) rfl dX0_countScore_28 ?_
      refine lv_iload hx hb dX0_countScore_31 (lv_at hl 4 rfl) ?_
      obtain ⟨g4, h⟩ := gd_ok h
      refine cg_ild hx hb hK hN g1 rfl (gin_ok g4) dX0_countScore_33 ?_
      refine va_mmin hx hb (hml.trans hl.1.symm) hown l1 l2 l3 l4 (by decide) (Nat.le_of_ble_eq_true rfl) (Nat.le_of_ble_eq_true rfl) (Nat.le_of_ble_eq_true rfl) dX0_countScore_34 ?_
      refine lv_topi (fun v5 ev5 => ?_)
      have h := bnd_ok h ev5
      refine lv_istore_n (lv' := [(2, .int v5), (1, .int v3), (0, .ref (ad 10 x0)), (3, .int x3), (4, .int x4)]) hx hb dX0_countScore_37 rfl hl (by decide) rfl (fun ls hl => ?_)
      refine lv_iload_n hx hb dX0_countScore_38 rfl (lv_at hl 3 rfl) ?_
      refine lv_aload_n hx hb dX0_countScore_39 rfl (lv_at hl 2 rfl) ?_
      refine cg_get (T := TX0) (N := 7) (ci := 1) hx hb hts iwsX00 hown hK hN g1 rfl rfl 2 (by decide) l0 rfl (v := .ref (ad 12 x0)) rfl dX0_countScore_40 ?_
      refine lv_iload hx hb dX0_countScore_43 (lv_at hl 4 rfl) ?_
      obtain ⟨g6, h⟩ := gd_ok h
      refine cg_ild hx hb hK hN g1 rfl (gin_ok g6) dX0_countScore_45 ?_
      refine va_mmax hx hb (hml.trans hl.1.symm) hown l5 l6 l3 l7 (by decide) (Nat.le_of_ble_eq_true rfl) (Nat.le_of_ble_eq_true rfl) (Nat.le_of_ble_eq_true rfl) dX0_countScore_46 ?_
      refine lv_topi (fun v7 ev7 => ?_)
      have h := bnd_ok h ev7
      refine lv_istore_n (lv' := [(3, .int v7), (2, .int v5), (1, .int v3), (0, .ref (ad 10 x0)), (4, .int x4)]) hx hb dX0_countScore_49 rfl hl (by decide) rfl (fun ls hl => ?_)
      obtain ⟨v8, ev8⟩ : ∃ y : Int32, y = (x4 + (1 : Int32)) := ⟨_, rfl⟩
      have h := bnd_ok h ev8
      refine lv_iinc (v := v8) (lv' := [(4, .int v8), (3, .int v7), (2, .int v5), (1, .int v3), (0, .ref (ad 10 x0))]) hx hb dX0_countScore_50 hl (k := 4) rfl (by rw [ev8]; rfl) (by decide) rfl (fun ls hl => ?_)
      refine lv_goto (tgt := 10) hx hb dX0_countScore_53 (by decide) ?_
      exact hk10 x0 v3 v5 v7 v8 h _ _ _ hI hN hS (lv_sub hl [4, 3, 2, 1, 0] rfl)
  unfold fX0_countScore at h
  refine lv_iconst (v := (0 : Int32)) hx hb dX0_countScore_0 (by decide) ?_
  refine lv_istore_n (lv' := [(1, .int (0 : Int32)), (0, .ref (ad 10 a0))]) hx hb dX0_countScore_1 rfl hl (by decide) rfl (fun ls hl => ?_)
  refine lv_bipush (v := (100 : Int32)) hx hb dX0_countScore_2 (by decide) ?_
  refine lv_istore_n (lv' := [(2, .int (100 : Int32)), (1, .int (0 : Int32)), (0, .ref (ad 10 a0))]) hx hb dX0_countScore_4 rfl hl (by decide) rfl (fun ls hl => ?_)
  refine lv_iconst (v := (0 : Int32)) hx hb dX0_countScore_5 (by decide) ?_
  refine lv_istore_n (lv' := [(3, .int (0 : Int32)), (2, .int (100 : Int32)), (1, .int (0 : Int32)), (0, .ref (ad 10 a0))]) hx hb dX0_countScore_6 rfl hl (by decide) rfl (fun ls hl => ?_)
  refine lv_iconst (v := (0 : Int32)) hx hb dX0_countScore_7 (by decide) ?_
  refine lv_istore (lv' := [(4, .int (0 : Int32)), (3, .int (0 : Int32)), (2, .int (100 : Int32)), (1, .int (0 : Int32)), (0, .ref (ad 10 a0))]) hx hb dX0_countScore_8 hl (by decide) rfl (fun ls hl => ?_)
  exact w10  a0 (0 : Int32) (100 : Int32) (0 : Int32) (0 : Int32) h _ _ _ hI hN hS (lv_sub hl [4, 3, 2, 1, 0] rfl)
def fX1_isCracked_16 (Z : CZ) (t0 : Int32) : Option (Int32) := gd (gbo t0) (some t0)
def fX1_isCracked (a0 : Nat) (a1 : Int32) (Z : CZ) : Option (Int32) := gd (cLv Z.2.2 5 a0) (gd (gin a1 4) ((if (Z.1 7 a0 (Int32.toNatClampNeg a1)) ≤ (6 : Int32) then fX1_isCracked_16 Z (0 : Int32) else fX1_isCracked_16 Z (1 : Int32))))
def rmX1_isCracked : Room := { frames := 1, cells := 0, slots := 0, locals := 30 }
set_option maxHeartbeats 4000000 in
set_option maxRecDepth 100000 in
theorem mX1_isCracked (l : Launch) (D : va_G) (G : CGT) (A : Nat → Prop) (ad : Nat → Nat → Nat) (Z : CZ) (a0 : Nat) (a1 : Int32) (rz : Int32) (h : fX1_isCracked a0 a1 Z = some rz) : Met l yX1_isCracked wsX1_isCracked rmX1_isCracked (va_Pc [.ref (ad 5 a0), .int a1] (cP D G A ad Z)) (cQi D G A ad rz Z) 0 0 A := by
  refine Met.ofW (cc := cX1_isCracked) (maxL := 2) (ret := some .boolean) (by decide) rfl ?_
  intro p e s m args below meth c s₁ B hml hv
  obtain ⟨rfl, hI, hN, hK⟩ := hv
  have hx := B.exec
  have hb := B.bytes
  have hr := B.returns
  have hts := atoms_spec (ws := wsX1_isCracked) B.pre
  have hown : s.vm.findClass RX1 = some m.cls := findClass_of_methodNamed B.named
  have hlocks := B.notSynchronized
  have iwsX10 : ∀ w ∈ wsX10, w ∈ wsX1_isCracked := fun w h => List.mem_cons_of_mem _ (List.mem_append_right _ h)
  have l0 := hts (.fieldLink RX1 15 "Panyard$Pan" "blows" "[I") (List.mem_of_getElem? (i := 1) rfl)
  have hS : va_S A s.heap s.heap [] := va_S.rf
  have hl := lv_entry ([.ref (ad 5 a0), .int a1]) (n := 2) (Nat.le_of_ble_eq_true rfl)
  rw [lg_entry_eq]
  generalize (lg_sl ([.ref (ad 5 a0), .int a1]) ++ List.replicate (2 - (lg_sl ([.ref (ad 5 a0), .int a1])).length) Slot.unset).toArray = ls at hl ⊢
  have hl : lv_has ls 2 [(0, .ref (ad 5 a0)), (1, .int a1)] := hl
  have w16 : ∀ (t0 : Int32), fX1_isCracked_16 Z t0 = some rz → cG p l e (headSpec wsX1_isCracked rmX1_isCracked).room s m (([.ref (ad 5 a0), .int a1] : List Value).toArray) below meth c (MQ below (cQi D G A ad rz Z) (([.ref (ad 5 a0), .int a1] : List Value).toArray) s 0 0 A) D G A ad 0 0 2 Z 16 [] [.int t0] := by
    intro  t0 h H locs ls hI hN hS hl
    unfold fX1_isCracked_16 at h
    obtain ⟨g3, h⟩ := gd_ok h
    exact W.zret hx hb hr (gbo_ok g3) (cg_endr h hI hK hN hS) hS.2.2 dX1_isCracked_16
  unfold fX1_isCracked at h
  refine lv_aload_n hx hb dX1_isCracked_0 rfl (lv_at hl 0 rfl) ?_
  obtain ⟨g1, h⟩ := gd_ok h
  refine cg_get (T := TX1) (N := 5) (ci := 2) hx hb hts iwsX10 hown hK hN g1 rfl rfl 2 (by decide) l0 rfl (v := .ref (ad 7 a0)) rfl dX1_isCracked_1 ?_
  refine lv_iload_n hx hb dX1_isCracked_4 rfl (lv_at hl 1 rfl) ?_
  obtain ⟨g2, h⟩ := gd_ok h
  refine cg_ild hx hb hK hN g1 rfl (gin_ok g2) dX1_isCracked_5 ?_
  refine lv_bipush (v := (6 : Int32)) hx hb dX1_isCracked_6 (by decide) ?_
  refine lv_icmp_le (tgt := 15) hx hb dX1_isCracked_8 (by decide) (fun hc => ?_) (fun hc => ?_)
  · have h := ite_t h hc
    refine lv_iconst (v := (0 : Int32)) hx hb dX1_isCracked_15 (by decide) ?_
    exact w16  (0 : Int32) h _ _ _ hI hN hS (lv_sub hl [] rfl)
  · have h := ite_f h hc
    refine lv_iconst (v := (1 : Int32)) hx hb dX1_isCracked_11 (by decide) ?_
    refine lv_goto (tgt := 16) hx hb dX1_isCracked_12 (by decide) ?_
    exact w16  (1 : Int32) h _ _ _ hI hN hS (lv_sub hl [] rfl)
def fX1_bears_26 (Z : CZ) (t0 : Int32) : Option (Int32) := gd (gbo t0) (some t0)
def fX1_bears_21 (Z : CZ) : Option (Int32) := fX1_bears_26 Z (1 : Int32)
def fX1_bears_25 (Z : CZ) : Option (Int32) := fX1_bears_26 Z (0 : Int32)
def fX1_bears (a0 : Nat) (a1 : Int32) (a2 : Int32) (Z : CZ) : Option (Int32) := gd (cLv Z.2.2 5 a0) (cl1 (fX1_isCracked a0 a1 Z) (fun v2 => (if v2 = 0 then (if a2 = 0 then gd (gin a1 4) ((if (Z.1 8 a0 (Int32.toNatClampNeg a1)) = 0 then fX1_bears_21 Z else fX1_bears_25 Z)) else fX1_bears_21 Z) else fX1_bears_25 Z)))
def rmX1_bears : Room := { frames := 2, cells := 0, slots := 0, locals := 51 }
set_option maxHeartbeats 4000000 in
set_option maxRecDepth 100000 in
theorem mX1_bears (l : Launch) (D : va_G) (G : CGT) (A : Nat → Prop) (ad : Nat → Nat → Nat) (Z : CZ) (a0 : Nat) (a1 : Int32) (a2 : Int32) (rz : Int32) (h : fX1_bears a0 a1 a2 Z = some rz) : Met l yX1_bears wsX1_bears rmX1_bears (va_Pc [.ref (ad 5 a0), .int a1, .int a2] (cP D G A ad Z)) (cQi D G A ad rz Z) 0 0 A := by
  refine Met.ofW (cc := cX1_bears) (maxL := 3) (ret := some .boolean) (by decide) rfl ?_
  intro p e s m args below meth c s₁ B hml hv
  obtain ⟨rfl, hI, hN, hK⟩ := hv
  have hx := B.exec
  have hb := B.bytes
  have hr := B.returns
  have hts := atoms_spec (ws := wsX1_bears) B.pre
  have hown : s.vm.findClass RX1 = some m.cls := findClass_of_methodNamed B.named
  have hlocks := B.notSynchronized
  have iwsX10 : ∀ w ∈ wsX10, w ∈ wsX1_bears := fun w h => List.mem_cons_of_mem _ (List.mem_append_right _ h)
  have l0 := hts (.fieldLink RX1 18 "Panyard$Pan" "sunk" "[Z") (List.mem_of_getElem? (i := 1) rfl)
  have hS : va_S A s.heap s.heap [] := va_S.rf
  have hl := lv_entry ([.ref (ad 5 a0), .int a1, .int a2]) (n := 3) (Nat.le_of_ble_eq_true rfl)
  rw [lg_entry_eq]
  generalize (lg_sl ([.ref (ad 5 a0), .int a1, .int a2]) ++ List.replicate (3 - (lg_sl ([.ref (ad 5 a0), .int a1, .int a2])).length) Slot.unset).toArray = ls at hl ⊢
  have hl : lv_has ls 3 [(0, .ref (ad 5 a0)), (1, .int a1), (2, .int a2)] := hl
  have w26 : ∀ (t0 : Int32), fX1_bears_26 Z t0 = some rz → cG p l e (headSpec wsX1_bears rmX1_bears).room s m (([.ref (ad 5 a0), .int a1, .int a2] : List Value).toArray) below meth c (MQ below (cQi D G A ad rz Z) (([.ref (ad 5 a0), .int a1, .int a2] : List Value).toArray) s 0 0 A) D G A ad 0 0 3 Z 26 [] [.int t0] := by
    intro  t0 h H locs ls hI hN hS hl
    unfold fX1_bears_26 at h
    obtain ⟨g5, h⟩ := gd_ok h
    exact W.zret hx hb hr (gbo_ok g5) (cg_endr h hI hK hN hS) hS.2.2 dX1_bears_26
  have w21 : fX1_bears_21 Z  = some rz → cG p l e (headSpec wsX1_bears rmX1_bears).room s m (([.ref (ad 5 a0), .int a1, .int a2] : List Value).toArray) below meth c (MQ below (cQi D G A ad rz Z) (([.ref (ad 5 a0), .int a1, .int a2] : List Value).toArray) s 0 0 A) D G A ad 0 0 3 Z 21 [] [] := by
    intro   h H locs ls hI hN hS hl
    unfold fX1_bears_21 at h
    refine lv_iconst (v := (1 : Int32)) hx hb dX1_bears_21 (by decide) ?_
    refine lv_goto (tgt := 26) hx hb dX1_bears_22 (by decide) ?_
    exact w26  (1 : Int32) h _ _ _ hI hN hS (lv_sub hl [] rfl)
  have w25 : fX1_bears_25 Z  = some rz → cG p l e (headSpec wsX1_bears rmX1_bears).room s m (([.ref (ad 5 a0), .int a1, .int a2] : List Value).toArray) below meth c (MQ below (cQi D G A ad rz Z) (([.ref (ad 5 a0), .int a1, .int a2] : List Value).toArray) s 0 0 A) D G A ad 0 0 3 Z 25 [] [] := by
    intro   h H locs ls hI hN hS hl
    unfold fX1_bears_25 at h
    refine lv_iconst (v := (0 : Int32)) hx hb dX1_bears_25 (by decide) ?_
    exact w26  (0 : Int32) h _ _ _ hI hN hS (lv_sub hl [] rfl)
  unfold fX1_bears at h
  refine lv_aload_n hx hb dX1_bears_0 rfl (lv_at hl 0 rfl) ?_
  refine lv_iload_n hx hb dX1_bears_1 rfl (lv_at hl 1 rfl) ?_
  obtain ⟨g1, h⟩ := gd_ok h
  obtain ⟨v2, c3, h⟩ := cl1_ok h
  refine cg_calli (va_runV (As := [.int a1]) (rest := []) ⟨hx, hb, hml, hown, hts⟩ (mX1_isCracked l D G A ad Z a0 a1 v2 c3) (cwV 1 hts gX1_bears_X1_isCracked rfl rfl rfl (by decide +kernel) ⟨Nat.le_of_ble_eq_true rfl, Nat.le_of_ble_eq_true rfl⟩) (cg_preV hI hK hN g1 rfl (ci := 2) rfl) rfl rfl hl.1 rfl (lv_room (Nat.le_of_ble_eq_true rfl)) dX1_bears_2 ⟨Nat.le_of_ble_eq_true rfl, Nat.le_of_ble_eq_true rfl⟩) hS (fun H locs hI hN hS => ?_)
  refine lv_if_ne (tgt := 25) hx hb dX1_bears_5 (by decide) (fun hc => ?_) (fun hc => ?_)
  · have h := ite_f h hc
    exact w25   h _ _ _ hI hN hS (lv_sub hl [] rfl)
  · have h := ite_t h hc
    refine lv_iload_n hx hb dX1_bears_8 rfl (lv_at hl 2 rfl) ?_
    refine lv_if_ne (tgt := 21) hx hb dX1_bears_9 (by decide) (fun hc => ?_) (fun hc => ?_)
    · have h := ite_f h hc
      exact w21   h _ _ _ hI hN hS (lv_sub hl [] rfl)
    · have h := ite_t h hc
      refine lv_aload_n hx hb dX1_bears_12 rfl (lv_at hl 0 rfl) ?_
      refine cg_get (T := TX1) (N := 5) (ci := 2) hx hb hts iwsX10 hown hK hN g1 rfl rfl 3 (by decide) l0 rfl (v := .ref (ad 8 a0)) rfl dX1_bears_13 ?_
      refine lv_iload_n hx hb dX1_bears_16 rfl (lv_at hl 1 rfl) ?_
      obtain ⟨g4, h⟩ := gd_ok h
      refine cg_zld hx hb hK hN g1 rfl (gin_ok g4) dX1_bears_17 ?_
      refine lv_if_ne (tgt := 25) hx hb dX1_bears_18 (by decide) (fun hc => ?_) (fun hc => ?_)
      · have h := ite_f h hc
        exact w25   h _ _ _ hI hN hS (lv_sub hl [] rfl)
      · have h := ite_t h hc
        exact w21   h _ _ _ hI hN hS (lv_sub hl [] rfl)
def fX1_beat_33 (x0 : Nat) (x1 : Int32) (x3 : Int32) (x4 : Int32) (t0 : Int32) (t1 : Int32) (t2 : Int32) (t3 : Nat) (Z : CZ) : Option (CZ) := gd (cLv Z.2.2 6 t3) (gd (gin t2 4) (bnd (cuI Z 6 t3 (upd (Z.1 6 t3) (Int32.toNatClampNeg t2) (t1 + t0))) (fun Z5 => gd (cLv Z5.2.2 5 x0) (gd (gin (irm (x1 + (1 : Int32)) (4 : Int32)) 4) (gd (gin (irm (x1 + (1 : Int32)) (4 : Int32)) 4) (bnd (cuI Z5 6 x0 (upd (Z5.1 6 x0) (Int32.toNatClampNeg (irm (x1 + (1 : Int32)) (4 : Int32))) ((Z5.1 6 x0 (Int32.toNatClampNeg (irm (x1 + (1 : Int32)) (4 : Int32)))) + x4))) (fun Z9 => gd (gin (irm ((x1 + (4 : Int32)) - (1 : Int32)) (4 : Int32)) 4) (gd (gin (irm ((x1 + (4 : Int32)) - (1 : Int32)) (4 : Int32)) 4) (bnd (cuI Z9 6 x0 (upd (Z9.1 6 x0) (Int32.toNatClampNeg (irm ((x1 + (4 : Int32)) - (1 : Int32)) (4 : Int32))) ((Z9.1 6 x0 (Int32.toNatClampNeg (irm ((x1 + (4 : Int32)) - (1 : Int32)) (4 : Int32)))) + x4))) (fun Z12 => gd (gin x1 4) (gd (gin x1 4) (bnd (cuI Z12 7 x0 (upd (Z12.1 7 x0) (Int32.toNatClampNeg x1) ((Z12.1 7 x0 (Int32.toNatClampNeg x1)) + (1 : Int32)))) (fun Z15 => gd (gin x1 4) (gd (gin x1 4) (bnd (cuI Z15 8 x0 (upd (Z15.1 8 x0) (Int32.toNatClampNeg x1) (vp_nar .boolean ((Z15.1 8 x0 (Int32.toNatClampNeg x1)) ||| x3)))) (fun Z18 => some Z18))))))))))))))))
def fX1_beat_10 (x0 : Nat) (x1 : Int32) (x2 : Int32) (x3 : Int32) (t0 : Int32) (Z : CZ) : Option (CZ) := gd (cLv Z.2.2 5 x0) (gd (gin x1 4) ((if x3 = 0 then fX1_beat_33 x0 x1 x3 t0 ((4 : Int32) * x2) (Z.1 6 x0 (Int32.toNatClampNeg x1)) x1 x0 Z else fX1_beat_33 x0 x1 x3 t0 ((-6 : Int32) * x2) (Z.1 6 x0 (Int32.toNatClampNeg x1)) x1 x0 Z)))
def fX1_beat (a0 : Nat) (a1 : Int32) (a2 : Int32) (a3 : Int32) (Z : CZ) : Option (CZ) := (if a3 = 0 then fX1_beat_10 a0 a1 a2 a3 (-a2) Z else fX1_beat_10 a0 a1 a2 a3 a2 Z)
def rmX1_beat : Room := { frames := 1, cells := 0, slots := 0, locals := 30 }
set_option maxHeartbeats 4000000 in
set_option maxRecDepth 100000 in
theorem mX1_beat (l : Launch) (D : va_G) (G : CGT) (A : Nat → Prop) (ad : Nat → Nat → Nat) (Z : CZ) (a0 : Nat) (a1 : Int32) (a2 : Int32) (a3 : Int32) (Zz : CZ) (h : fX1_beat a0 a1 a2 a3 Z = some Zz) : Met l yX1_beat wsX1_beat rmX1_beat (va_Pc [.ref (ad 5 a0), .int a1, .int a2, .int a3] (cP D G A ad Z)) (cQv D G A ad Zz) 0 0 A := by
  refine Met.ofW (cc := cX1_beat) (maxL := 5) (ret := none) (by decide) rfl ?_
  intro p e s m args below meth c s₁ B hml hv
  obtain ⟨rfl, hI, hN, hK⟩ := hv
  have hx := B.exec
  have hb := B.bytes
  have hr := B.returns
  have hts := atoms_spec (ws := wsX1_beat) B.pre
  have hown : s.vm.findClass RX1 = some m.cls := findClass_of_methodNamed B.named
  have hlocks := B.notSynchronized
  have iwsX10 : ∀ w ∈ wsX10, w ∈ wsX1_beat := fun w h => List.mem_cons_of_mem _ (List.mem_append_right _ h)
  have l0 := hts (.fieldLink RX1 9 "Panyard$Pan" "tones" "[I") (List.mem_of_getElem? (i := 1) rfl)
  have l1 := hts (.fieldLink RX1 15 "Panyard$Pan" "blows" "[I") (List.mem_of_getElem? (i := 2) rfl)
  have l2 := hts (.fieldLink RX1 18 "Panyard$Pan" "sunk" "[Z") (List.mem_of_getElem? (i := 3) rfl)
  have hS : va_S A s.heap s.heap [] := va_S.rf
  have hl := lv_entry ([.ref (ad 5 a0), .int a1, .int a2, .int a3]) (n := 5) (Nat.le_of_ble_eq_true rfl)
  rw [lg_entry_eq]
  generalize (lg_sl ([.ref (ad 5 a0), .int a1, .int a2, .int a3]) ++ List.replicate (5 - (lg_sl ([.ref (ad 5 a0), .int a1, .int a2, .int a3])).length) Slot.unset).toArray = ls at hl ⊢
  have hl : lv_has ls 5 [(0, .ref (ad 5 a0)), (1, .int a1), (2, .int a2), (3, .int a3)] := hl
  have w33 : ∀ (x0 : Nat) (x1 : Int32) (x3 : Int32) (x4 : Int32) (t0 : Int32) (t1 : Int32) (t2 : Int32) (t3 : Nat) (Z : CZ), fX1_beat_33  x0 x1 x3 x4 t0 t1 t2 t3 Z = some Zz → cG p l e (headSpec wsX1_beat rmX1_beat).room s m (([.ref (ad 5 a0), .int a1, .int a2, .int a3] : List Value).toArray) below meth c (MQ below (cQv D G A ad Zz) (([.ref (ad 5 a0), .int a1, .int a2, .int a3] : List Value).toArray) s 0 0 A) D G A ad 0 0 5 Z 33 [(0, .ref (ad 5 x0)), (1, .int x1), (3, .int x3), (4, .int x4)] [.int t0, .int t1, .int t2, .ref (ad 6 t3)] := by
    intro  x0 x1 x3 x4 t0 t1 t2 t3 Z h H locs ls hI hN hS hl
    unfold fX1_beat_33 at h
    refine lv_iadd hx hb dX1_beat_33 ?_
    obtain ⟨g3, h⟩ := gd_ok h
    obtain ⟨g4, h⟩ := gd_ok h
    obtain ⟨Z5, eZ5⟩ : ∃ y : CZ, y = (cuI Z 6 t3 (upd (Z.1 6 t3) (Int32.toNatClampNeg t2) (t1 + t0))) := ⟨_, rfl⟩
    have h := bnd_ok h eZ5
    refine cg_ist hx hb hI hK hN hS g3 rfl (gin_ok g4) rfl dX1_beat_34 eZ5 (fun H locs hI hN hS => ?_)
    refine lv_aload_n hx hb dX1_beat_35 rfl (lv_at hl 0 rfl) ?_
    obtain ⟨g6, h⟩ := gd_ok h
    refine cg_get (T := TX1) (N := 5) (ci := 2) hx hb hts iwsX10 hown hK hN g6 rfl rfl 1 (by decide) l0 rfl (v := .ref (ad 6 x0)) rfl dX1_beat_36 ?_
    refine lv_iload_n hx hb dX1_beat_39 rfl (lv_at hl 1 rfl) ?_
    refine lv_iconst (v := (1 : Int32)) hx hb dX1_beat_40 (by decide) ?_
    refine lv_iadd hx hb dX1_beat_41 ?_
    refine lv_iconst (v := (4 : Int32)) hx hb dX1_beat_42 (by decide) ?_
    refine lv_irm hx hb dX1_beat_43 (by decide) ?_
    refine lv_dup2_11 hx hb dX1_beat_44 rfl rfl ?_
    obtain ⟨g7, h⟩ := gd_ok h
    refine cg_ild hx hb hK hN g6 rfl (gin_ok g7) dX1_beat_45 ?_
    refine lv_iload hx hb dX1_beat_46 (lv_at hl 3 rfl) ?_
    refine lv_iadd hx hb dX1_beat_48 ?_
    obtain ⟨g8, h⟩ := gd_ok h
    obtain ⟨Z9, eZ9⟩ : ∃ y : CZ, y = (cuI Z5 6 x0 (upd (Z5.1 6 x0) (Int32.toNatClampNeg (irm (x1 + (1 : Int32)) (4 : Int32))) ((Z5.1 6 x0 (Int32.toNatClampNeg (irm (x1 + (1 : Int32)) (4 : Int32)))) + x4))) := ⟨_, rfl⟩
    have h := bnd_ok h eZ9
    refine cg_ist hx hb hI hK hN hS g6 rfl (gin_ok g8) rfl dX1_beat_49 eZ9 (fun H locs hI hN hS => ?_)
    refine lv_aload_n hx hb dX1_beat_50 rfl (lv_at hl 0 rfl) ?_
    refine cg_get (T := TX1) (N := 5) (ci := 2) hx hb hts iwsX10 hown hK hN (by rw [eZ9]; exact g6) rfl rfl 1 (by decide) l0 rfl (v := .ref (ad 6 x0)) rfl dX1_beat_51 ?_
    refine lv_iload_n hx hb dX1_beat_54 rfl (lv_at hl 1 rfl) ?_
    refine lv_iconst (v := (4 : Int32)) hx hb dX1_beat_55 (by decide) ?_
    refine lv_iadd hx hb dX1_beat_56 ?_
    refine lv_iconst (v := (1 : Int32)) hx hb dX1_beat_57 (by decide) ?_
    refine lv_isub hx hb dX1_beat_58 ?_
    refine lv_iconst (v := (4 : Int32)) hx hb dX1_beat_59 (by decide) ?_
    refine lv_irm hx hb dX1_beat_60 (by decide) ?_
    refine lv_dup2_11 hx hb dX1_beat_61 rfl rfl ?_
    obtain ⟨g10, h⟩ := gd_ok h
    refine cg_ild hx hb hK hN (by rw [eZ9]; exact g6) rfl (gin_ok g10) dX1_beat_62 ?_
    refine lv_iload hx hb dX1_beat_63 (lv_at hl 3 rfl) ?_
    refine lv_iadd hx hb dX1_beat_65 ?_
    obtain ⟨g11, h⟩ := gd_ok h
    obtain ⟨Z12, eZ12⟩ : ∃ y : CZ, y = (cuI Z9 6 x0 (upd (Z9.1 6 x0) (Int32.toNatClampNeg (irm ((x1 + (4 : Int32)) - (1 : Int32)) (4 : Int32))) ((Z9.1 6 x0 (Int32.toNatClampNeg (irm ((x1 + (4 : Int32)) - (1 : Int32)) (4 : Int32)))) + x4))) := ⟨_, rfl⟩
    have h := bnd_ok h eZ12
    refine cg_ist hx hb hI hK hN hS (by rw [eZ9]; exact g6) rfl (gin_ok g11) rfl dX1_beat_66 eZ12 (fun H locs hI hN hS => ?_)
    refine lv_aload_n hx hb dX1_beat_67 rfl (lv_at hl 0 rfl) ?_
    refine cg_get (T := TX1) (N := 5) (ci := 2) hx hb hts iwsX10 hown hK hN (by rw [eZ12]; exact (by rw [eZ9]; exact g6)) rfl rfl 2 (by decide) l1 rfl (v := .ref (ad 7 x0)) rfl dX1_beat_68 ?_
    refine lv_iload_n hx hb dX1_beat_71 rfl (lv_at hl 1 rfl) ?_
    refine lv_dup2_11 hx hb dX1_beat_72 rfl rfl ?_
    obtain ⟨g13, h⟩ := gd_ok h
    refine cg_ild hx hb hK hN (by rw [eZ12]; exact (by rw [eZ9]; exact g6)) rfl (gin_ok g13) dX1_beat_73 ?_
    refine lv_iconst (v := (1 : Int32)) hx hb dX1_beat_74 (by decide) ?_
    refine lv_iadd hx hb dX1_beat_75 ?_
    obtain ⟨g14, h⟩ := gd_ok h
    obtain ⟨Z15, eZ15⟩ : ∃ y : CZ, y = (cuI Z12 7 x0 (upd (Z12.1 7 x0) (Int32.toNatClampNeg x1) ((Z12.1 7 x0 (Int32.toNatClampNeg x1)) + (1 : Int32)))) := ⟨_, rfl⟩
    have h := bnd_ok h eZ15
    refine cg_ist hx hb hI hK hN hS (by rw [eZ12]; exact (by rw [eZ9]; exact g6)) rfl (gin_ok g14) rfl dX1_beat_76 eZ15 (fun H locs hI hN hS => ?_)
    refine lv_aload_n hx hb dX1_beat_77 rfl (lv_at hl 0 rfl) ?_
    refine cg_get (T := TX1) (N := 5) (ci := 2) hx hb hts iwsX10 hown hK hN (by rw [eZ15]; exact (by rw [eZ12]; exact (by rw [eZ9]; exact g6))) rfl rfl 3 (by decide) l2 rfl (v := .ref (ad 8 x0)) rfl dX1_beat_78 ?_
    refine lv_iload_n hx hb dX1_beat_81 rfl (lv_at hl 1 rfl) ?_
    refine lv_dup2_11 hx hb dX1_beat_82 rfl rfl ?_
    obtain ⟨g16, h⟩ := gd_ok h
    refine cg_zld hx hb hK hN (by rw [eZ15]; exact (by rw [eZ12]; exact (by rw [eZ9]; exact g6))) rfl (gin_ok g16) dX1_beat_83 ?_
    refine lv_iload_n hx hb dX1_beat_84 rfl (lv_at hl 2 rfl) ?_
    refine lv_ior hx hb dX1_beat_85 ?_
    obtain ⟨g17, h⟩ := gd_ok h
    obtain ⟨Z18, eZ18⟩ : ∃ y : CZ, y = (cuI Z15 8 x0 (upd (Z15.1 8 x0) (Int32.toNatClampNeg x1) (vp_nar .boolean ((Z15.1 8 x0 (Int32.toNatClampNeg x1)) ||| x3)))) := ⟨_, rfl⟩
    have h := bnd_ok h eZ18
    refine cg_zst hx hb hI hK hN hS (by rw [eZ15]; exact (by rw [eZ12]; exact (by rw [eZ9]; exact g6))) rfl (gin_ok g17) rfl dX1_beat_86 eZ18 (fun H locs hI hN hS => ?_)
    exact W.vret hx hb hr (cg_endv h hI hK hN hS) hS.2.2 dX1_beat_87
  have w10 : ∀ (x0 : Nat) (x1 : Int32) (x2 : Int32) (x3 : Int32) (t0 : Int32) (Z : CZ), fX1_beat_10  x0 x1 x2 x3 t0 Z = some Zz → cG p l e (headSpec wsX1_beat rmX1_beat).room s m (([.ref (ad 5 a0), .int a1, .int a2, .int a3] : List Value).toArray) below meth c (MQ below (cQv D G A ad Zz) (([.ref (ad 5 a0), .int a1, .int a2, .int a3] : List Value).toArray) s 0 0 A) D G A ad 0 0 5 Z 10 [(0, .ref (ad 5 x0)), (1, .int x1), (2, .int x2), (3, .int x3)] [.int t0] := by
    intro  x0 x1 x2 x3 t0 Z h H locs ls hI hN hS hl
    unfold fX1_beat_10 at h
    refine lv_istore (lv' := [(4, .int t0), (0, .ref (ad 5 x0)), (1, .int x1), (2, .int x2), (3, .int x3)]) hx hb dX1_beat_10 hl (by decide) rfl (fun ls hl => ?_)
    refine lv_aload_n hx hb dX1_beat_12 rfl (lv_at hl 1 rfl) ?_
    obtain ⟨g1, h⟩ := gd_ok h
    refine cg_get (T := TX1) (N := 5) (ci := 2) hx hb hts iwsX10 hown hK hN g1 rfl rfl 1 (by decide) l0 rfl (v := .ref (ad 6 x0)) rfl dX1_beat_13 ?_
    refine lv_iload_n hx hb dX1_beat_16 rfl (lv_at hl 2 rfl) ?_
    refine lv_dup2_11 hx hb dX1_beat_17 rfl rfl ?_
    obtain ⟨g2, h⟩ := gd_ok h
    refine cg_ild hx hb hK hN g1 rfl (gin_ok g2) dX1_beat_18 ?_
    refine lv_iload_n hx hb dX1_beat_19 rfl (lv_at hl 4 rfl) ?_
    refine lv_if_eq (tgt := 30) hx hb dX1_beat_20 (by decide) (fun hc => ?_) (fun hc => ?_)
    · have h := ite_t h hc
      refine lv_iconst (v := (4 : Int32)) hx hb dX1_beat_30 (by decide) ?_
      refine lv_iload_n hx hb dX1_beat_31 rfl (lv_at hl 3 rfl) ?_
      refine lv_imul hx hb dX1_beat_32 ?_
      exact w33  x0 x1 x3 t0 ((4 : Int32) * x2) (Z.1 6 x0 (Int32.toNatClampNeg x1)) x1 x0 Z h _ _ _ hI hN hS (lv_sub hl [1, 2, 4, 0] rfl)
    · have h := ite_f h hc
      refine lv_bipush (v := (-6 : Int32)) hx hb dX1_beat_23 (by decide) ?_
      refine lv_iload_n hx hb dX1_beat_25 rfl (lv_at hl 3 rfl) ?_
      refine lv_imul hx hb dX1_beat_26 ?_
      refine lv_goto (tgt := 33) hx hb dX1_beat_27 (by decide) ?_
      exact w33  x0 x1 x3 t0 ((-6 : Int32) * x2) (Z.1 6 x0 (Int32.toNatClampNeg x1)) x1 x0 Z h _ _ _ hI hN hS (lv_sub hl [1, 2, 4, 0] rfl)
  unfold fX1_beat at h
  refine lv_iload_n hx hb dX1_beat_0 rfl (lv_at hl 3 rfl) ?_
  refine lv_if_eq (tgt := 8) hx hb dX1_beat_1 (by decide) (fun hc => ?_) (fun hc => ?_)
  · have h := ite_t h hc
    refine lv_iload_n hx hb dX1_beat_8 rfl (lv_at hl 2 rfl) ?_
    refine lv_ineg hx hb dX1_beat_9 ?_
    exact w10  a0 a1 a2 a3 (-a2) Z h _ _ _ hI hN hS (lv_sub hl [0, 1, 2, 3] rfl)
  · have h := ite_f h hc
    refine lv_iload_n hx hb dX1_beat_4 rfl (lv_at hl 2 rfl) ?_
    refine lv_goto (tgt := 10) hx hb dX1_beat_5 (by decide) ?_
    exact w10  a0 a1 a2 a3 a2 Z h _ _ _ hI hN hS (lv_sub hl [0, 1, 2, 3] rfl)
def fX1_copyFrom_49 (Z : CZ) : Option (CZ) := some Z
def fX1_copyFrom_2 (k2 : Nat → Nat → Int32 → CZ → Option (CZ)) (x0 : Nat) (x1 : Nat) (x2 : Int32) (Z : CZ) : Option (CZ) := (if (4 : Int32) ≤ x2 then fX1_copyFrom_49 Z else gd (cLv Z.2.2 5 x0) (gd (cLv Z.2.2 5 x1) (gd (gin x2 4) (gd (gin x2 4) (bnd (cuI Z 6 x0 (upd (Z.1 6 x0) (Int32.toNatClampNeg x2) (Z.1 6 x1 (Int32.toNatClampNeg x2)))) (fun Z5 => gd (gin x2 4) (gd (gin x2 4) (bnd (cuI Z5 7 x0 (upd (Z5.1 7 x0) (Int32.toNatClampNeg x2) (Z5.1 7 x1 (Int32.toNatClampNeg x2)))) (fun Z8 => gd (gin x2 4) (gd (gin x2 4) (bnd (cuI Z8 8 x0 (upd (Z8.1 8 x0) (Int32.toNatClampNeg x2) (vp_nar .boolean (Z8.1 8 x1 (Int32.toNatClampNeg x2))))) (fun Z11 => bnd (x2 + (1 : Int32)) (fun v12 => k2 x0 x1 v12 Z11)))))))))))))
def fX1_copyFrom (a0 : Nat) (a1 : Nat) (Z : CZ) : Option (CZ) := lf4 fX1_copyFrom_2 100 a0 a1 (0 : Int32) Z
def rmX1_copyFrom : Room := { frames := 1, cells := 0, slots := 0, locals := 30 }
set_option maxHeartbeats 4000000 in
set_option maxRecDepth 100000 in
theorem mX1_copyFrom (l : Launch) (D : va_G) (G : CGT) (A : Nat → Prop) (ad : Nat → Nat → Nat) (Z : CZ) (a0 : Nat) (a1 : Nat) (Zz : CZ) (h : fX1_copyFrom a0 a1 Z = some Zz) : Met l yX1_copyFrom wsX1_copyFrom rmX1_copyFrom (va_Pc [.ref (ad 5 a0), .ref (ad 5 a1)] (cP D G A ad Z)) (cQv D G A ad Zz) 0 0 A := by
  refine Met.ofW (cc := cX1_copyFrom) (maxL := 3) (ret := none) (by decide) rfl ?_
  intro p e s m args below meth c s₁ B hml hv
  obtain ⟨rfl, hI, hN, hK⟩ := hv
  have hx := B.exec
  have hb := B.bytes
  have hr := B.returns
  have hts := atoms_spec (ws := wsX1_copyFrom) B.pre
  have hown : s.vm.findClass RX1 = some m.cls := findClass_of_methodNamed B.named
  have hlocks := B.notSynchronized
  have iwsX10 : ∀ w ∈ wsX10, w ∈ wsX1_copyFrom := fun w h => List.mem_cons_of_mem _ (List.mem_append_right _ h)
  have l0 := hts (.fieldLink RX1 9 "Panyard$Pan" "tones" "[I") (List.mem_of_getElem? (i := 1) rfl)
  have l1 := hts (.fieldLink RX1 15 "Panyard$Pan" "blows" "[I") (List.mem_of_getElem? (i := 2) rfl)
  have l2 := hts (.fieldLink RX1 18 "Panyard$Pan" "sunk" "[Z") (List.mem_of_getElem? (i := 3) rfl)
  have hS : va_S A s.heap s.heap [] := va_S.rf
  have hl := lv_entry ([.ref (ad 5 a0), .ref (ad 5 a1)]) (n := 3) (Nat.le_of_ble_eq_true rfl)
  rw [lg_entry_eq]
  generalize (lg_sl ([.ref (ad 5 a0), .ref (ad 5 a1)]) ++ List.replicate (3 - (lg_sl ([.ref (ad 5 a0), .ref (ad 5 a1)])).length) Slot.unset).toArray = ls at hl ⊢
  have hl : lv_has ls 3 [(0, .ref (ad 5 a0)), (1, .ref (ad 5 a1))] := hl
  have w49 : ∀ (Z : CZ), fX1_copyFrom_49  Z = some Zz → cG p l e (headSpec wsX1_copyFrom rmX1_copyFrom).room s m (([.ref (ad 5 a0), .ref (ad 5 a1)] : List Value).toArray) below meth c (MQ below (cQv D G A ad Zz) (([.ref (ad 5 a0), .ref (ad 5 a1)] : List Value).toArray) s 0 0 A) D G A ad 0 0 3 Z 49 [] [] := by
    intro  Z h H locs ls hI hN hS hl
    unfold fX1_copyFrom_49 at h
    exact W.vret hx hb hr (cg_endv h hI hK hN hS) hS.2.2 dX1_copyFrom_49
  have w2 : ∀ (x0 : Nat) (x1 : Nat) (x2 : Int32) (Z : CZ), lf4 fX1_copyFrom_2 100 x0 x1 x2 Z = some Zz → cG p l e (headSpec wsX1_copyFrom rmX1_copyFrom).room s m (([.ref (ad 5 a0), .ref (ad 5 a1)] : List Value).toArray) below meth c (MQ below (cQv D G A ad Zz) (([.ref (ad 5 a0), .ref (ad 5 a1)] : List Value).toArray) s 0 0 A) D G A ad 0 0 3 Z 2 [(0, .ref (ad 5 x0)), (1, .ref (ad 5 x1)), (2, .int x2)] [] := by
    refine lf4_ok (P := (fun x0 x1 x2 Z => cG p l e (headSpec wsX1_copyFrom rmX1_copyFrom).room s m (([.ref (ad 5 a0), .ref (ad 5 a1)] : List Value).toArray) below meth c (MQ below (cQv D G A ad Zz) (([.ref (ad 5 a0), .ref (ad 5 a1)] : List Value).toArray) s 0 0 A) D G A ad 0 0 3 Z 2 [(0, .ref (ad 5 x0)), (1, .ref (ad 5 x1)), (2, .int x2)] [])) (fun k2 hk2 x0 x1 x2 Z h H locs ls hI hN hS hl => ?_) 100
    unfold fX1_copyFrom_2 at h
    refine lv_iload_n hx hb dX1_copyFrom_2 rfl (lv_at hl 2 rfl) ?_
    refine lv_iconst (v := (4 : Int32)) hx hb dX1_copyFrom_3 (by decide) ?_
    refine lv_icmp_ge (tgt := 49) hx hb dX1_copyFrom_4 (by decide) (fun hc => ?_) (fun hc => ?_)
    · have h := ite_t h hc
      exact w49  Z h _ _ _ hI hN hS (lv_sub hl [] rfl)
    · have h := ite_f h hc
      refine lv_aload_n hx hb dX1_copyFrom_7 rfl (lv_at hl 0 rfl) ?_
      obtain ⟨g1, h⟩ := gd_ok h
      refine cg_get (T := TX1) (N := 5) (ci := 2) hx hb hts iwsX10 hown hK hN g1 rfl rfl 1 (by decide) l0 rfl (v := .ref (ad 6 x0)) rfl dX1_copyFrom_8 ?_
      refine lv_iload_n hx hb dX1_copyFrom_11 rfl (lv_at hl 2 rfl) ?_
      refine lv_aload_n hx hb dX1_copyFrom_12 rfl (lv_at hl 1 rfl) ?_
      obtain ⟨g2, h⟩ := gd_ok h
      refine cg_get (T := TX1) (N := 5) (ci := 2) hx hb hts iwsX10 hown hK hN g2 rfl rfl 1 (by decide) l0 rfl (v := .ref (ad 6 x1)) rfl dX1_copyFrom_13 ?_
      refine lv_iload_n hx hb dX1_copyFrom_16 rfl (lv_at hl 2 rfl) ?_
      obtain ⟨g3, h⟩ := gd_ok h
      refine cg_ild hx hb hK hN g2 rfl (gin_ok g3) dX1_copyFrom_17 ?_
      obtain ⟨g4, h⟩ := gd_ok h
      obtain ⟨Z5, eZ5⟩ : ∃ y : CZ, y = (cuI Z 6 x0 (upd (Z.1 6 x0) (Int32.toNatClampNeg x2) (Z.1 6 x1 (Int32.toNatClampNeg x2)))) := ⟨_, rfl⟩
      have h := bnd_ok h eZ5
      refine cg_ist hx hb hI hK hN hS g1 rfl (gin_ok g4) rfl dX1_copyFrom_18 eZ5 (fun H locs hI hN hS => ?_)
      refine lv_aload_n hx hb dX1_copyFrom_19 rfl (lv_at hl 0 rfl) ?_
      refine cg_get (T := TX1) (N := 5) (ci := 2) hx hb hts iwsX10 hown hK hN (by rw [eZ5]; exact g1) rfl rfl 2 (by decide) l1 rfl (v := .ref (ad 7 x0)) rfl dX1_copyFrom_20 ?_
      refine lv_iload_n hx hb dX1_copyFrom_23 rfl (lv_at hl 2 rfl) ?_
      refine lv_aload_n hx hb dX1_copyFrom_24 rfl (lv_at hl 1 rfl) ?_
      refine cg_get (T := TX1) (N := 5) (ci := 2) hx hb hts iwsX10 hown hK hN (by rw [eZ5]; exact g2) rfl rfl 2 (by decide) l1 rfl (v := .ref (ad 7 x1)) rfl dX1_copyFrom_25 ?_
      refine lv_iload_n hx hb dX1_copyFrom_28 rfl (lv_at hl 2 rfl) ?_
      obtain ⟨g6, h⟩ := gd_ok h
      refine cg_ild hx hb hK hN (by rw [eZ5]; exact g2) rfl (gin_ok g6) dX1_copyFrom_29 ?_
      obtain ⟨g7, h⟩ := gd_ok h
      obtain ⟨Z8, eZ8⟩ : ∃ y : CZ, y = (cuI Z5 7 x0 (upd (Z5.1 7 x0) (Int32.toNatClampNeg x2) (Z5.1 7 x1 (Int32.toNatClampNeg x2)))) := ⟨_, rfl⟩
      have h := bnd_ok h eZ8
      refine cg_ist hx hb hI hK hN hS (by rw [eZ5]; exact g1) rfl (gin_ok g7) rfl dX1_copyFrom_30 eZ8 (fun H locs hI hN hS => ?_)
      refine lv_aload_n hx hb dX1_copyFrom_31 rfl (lv_at hl 0 rfl) ?_
      refine cg_get (T := TX1) (N := 5) (ci := 2) hx hb hts iwsX10 hown hK hN (by rw [eZ8]; exact (by rw [eZ5]; exact g1)) rfl rfl 3 (by decide) l2 rfl (v := .ref (ad 8 x0)) rfl dX1_copyFrom_32 ?_
      refine lv_iload_n hx hb dX1_copyFrom_35 rfl (lv_at hl 2 rfl) ?_
      refine lv_aload_n hx hb dX1_copyFrom_36 rfl (lv_at hl 1 rfl) ?_
      refine cg_get (T := TX1) (N := 5) (ci := 2) hx hb hts iwsX10 hown hK hN (by rw [eZ8]; exact (by rw [eZ5]; exact g2)) rfl rfl 3 (by decide) l2 rfl (v := .ref (ad 8 x1)) rfl dX1_copyFrom_37 ?_
      refine lv_iload_n hx hb dX1_copyFrom_40 rfl (lv_at hl 2 rfl) ?_
      obtain ⟨g9, h⟩ := gd_ok h
      refine cg_zld hx hb hK hN (by rw [eZ8]; exact (by rw [eZ5]; exact g2)) rfl (gin_ok g9) dX1_copyFrom_41 ?_
      obtain ⟨g10, h⟩ := gd_ok h
      obtain ⟨Z11, eZ11⟩ : ∃ y : CZ, y = (cuI Z8 8 x0 (upd (Z8.1 8 x0) (Int32.toNatClampNeg x2) (vp_nar .boolean (Z8.1 8 x1 (Int32.toNatClampNeg x2))))) := ⟨_, rfl⟩
      have h := bnd_ok h eZ11
      refine cg_zst hx hb hI hK hN hS (by rw [eZ8]; exact (by rw [eZ5]; exact g1)) rfl (gin_ok g10) rfl dX1_copyFrom_42 eZ11 (fun H locs hI hN hS => ?_)
      obtain ⟨v12, ev12⟩ : ∃ y : Int32, y = (x2 + (1 : Int32)) := ⟨_, rfl⟩
      have h := bnd_ok h ev12
      refine lv_iinc (v := v12) (lv' := [(2, .int v12), (0, .ref (ad 5 x0)), (1, .ref (ad 5 x1))]) hx hb dX1_copyFrom_43 hl (k := 2) rfl (by rw [ev12]; rfl) (by decide) rfl (fun ls hl => ?_)
      refine lv_goto (tgt := 2) hx hb dX1_copyFrom_46 (by decide) ?_
      exact hk2 x0 x1 v12 Z11 h _ _ _ hI hN hS (lv_sub hl [1, 2, 0] rfl)
  unfold fX1_copyFrom at h
  refine lv_iconst (v := (0 : Int32)) hx hb dX1_copyFrom_0 (by decide) ?_
  refine lv_istore_n (lv' := [(2, .int (0 : Int32)), (0, .ref (ad 5 a0)), (1, .ref (ad 5 a1))]) hx hb dX1_copyFrom_1 rfl hl (by decide) rfl (fun ls hl => ?_)
  exact w2  a0 a1 (0 : Int32) Z h _ _ _ hI hN hS (lv_sub hl [1, 2, 0] rfl)
def fX1_isTunable_45 (Z : CZ) : Option (Int32) := some (0 : Int32)
def fX1_isTunable_58 (Z : CZ) (k5 : Nat → Int32 → Int32 → Int32 → Int32 → Option (Int32)) (x0 : Nat) (x1 : Int32) (x2 : Int32) (x3 : Int32) (x4 : Int32) : Option (Int32) := bnd (x4 + (1 : Int32)) (fun v7 => k5 x0 x1 x2 x3 v7)
def fX1_isTunable_74 (Z : CZ) (t0 : Int32) : Option (Int32) := gd (gbo t0) (some t0)
def fX1_isTunable_64 (Z : CZ) (x2 : Int32) (x3 : Int32) : Option (Int32) := (if x2 < x3 then fX1_isTunable_74 Z (0 : Int32) else fX1_isTunable_74 Z (1 : Int32))
def fX1_isTunable_5 (Z : CZ) (k5 : Nat → Int32 → Int32 → Int32 → Int32 → Option (Int32)) (x0 : Nat) (x1 : Int32) (x2 : Int32) (x3 : Int32) (x4 : Int32) : Option (Int32) := (if (4 : Int32) ≤ x4 then fX1_isTunable_64 Z x2 x3 else gd (cLv Z.2.2 5 x0) (gd (gin x4 4) (bnd ((if 0 ≤ ((Z.1 6 x0 (Int32.toNatClampNeg x4)) - x1) then ((Z.1 6 x0 (Int32.toNatClampNeg x4)) - x1) else 0 - ((Z.1 6 x0 (Int32.toNatClampNeg x4)) - x1)) - (5 : Int32)) (fun v3 => cl1 (fX1_isCracked x0 x4 Z) (fun v4 => (if v4 = 0 then (if v3 ≤ ((24 : Int32) * x2) then (if v3 ≤ ((4 : Int32) * x2) then fX1_isTunable_58 Z k5 x0 x1 x2 x3 x4 else bnd (x3 + (1 : Int32)) (fun v6 => fX1_isTunable_58 Z k5 x0 x1 x2 v6 x4)) else fX1_isTunable_45 Z) else fX1_isTunable_45 Z))))))
def fX1_isTunable (a0 : Nat) (a1 : Int32) (a2 : Int32) (Z : CZ) : Option (Int32) := lf5 (fX1_isTunable_5 Z) 100 a0 a1 a2 (0 : Int32) (0 : Int32)
def rmX1_isTunable : Room := { frames := 2, cells := 0, slots := 0, locals := 51 }
set_option maxHeartbeats 4000000 in
set_option maxRecDepth 100000 in
theorem mX1_isTunable (l : Launch) (D : va_G) (G : CGT) (A : Nat → Prop) (ad : Nat → Nat → Nat) (Z : CZ) (a0 : Nat) (a1 : Int32) (a2 : Int32) (rz : Int32) (h : fX1_isTunable a0 a1 a2 Z = some rz) : Met l yX1_isTunable wsX1_isTunable rmX1_isTunable (va_Pc [.ref (ad 5 a0), .int a1, .int a2] (cP D G A ad Z)) (cQi D G A ad rz Z) 0 0 A := by
  refine Met.ofW (cc := cX1_isTunable) (maxL := 6) (ret := some .boolean) (by decide) rfl ?_
  intro p e s m args below meth c s₁ B hml hv
  obtain ⟨rfl, hI, hN, hK⟩ := hv
  have hx := B.exec
  have hb := B.bytes
  have hr := B.returns
  have hts := atoms_spec (ws := wsX1_isTunable) B.pre
  have hown : s.vm.findClass RX1 = some m.cls := findClass_of_methodNamed B.named
  have hlocks := B.notSynchronized
  have iwsX10 : ∀ w ∈ wsX10, w ∈ wsX1_isTunable := fun w h => List.mem_cons_of_mem _ (List.mem_append_right _ h)
  have l0 := hts (.fieldLink RX1 9 "Panyard$Pan" "tones" "[I") (List.mem_of_getElem? (i := 1) rfl)
  have l1 := hts (.methodLink RX1 30 Lib.Math.abs.name) (List.mem_of_getElem? (i := 2) rfl)
  have l2 := hts (.static Lib.Math.abs.name) (List.mem_of_getElem? (i := 3) rfl)
  have l3 := hts (.initialized "java/lang/Math") (List.mem_of_getElem? (i := 4) rfl)
  have l4 := hts (.code Lib.Math.abs.name Lib.Math.abs.code 1 (some .int)) (List.mem_of_getElem? (i := 5) rfl)
  have hS : va_S A s.heap s.heap [] := va_S.rf
  have hl := lv_entry ([.ref (ad 5 a0), .int a1, .int a2]) (n := 6) (Nat.le_of_ble_eq_true rfl)
  rw [lg_entry_eq]
  generalize (lg_sl ([.ref (ad 5 a0), .int a1, .int a2]) ++ List.replicate (6 - (lg_sl ([.ref (ad 5 a0), .int a1, .int a2])).length) Slot.unset).toArray = ls at hl ⊢
  have hl : lv_has ls 6 [(0, .ref (ad 5 a0)), (1, .int a1), (2, .int a2)] := hl
  have w45 : fX1_isTunable_45 Z  = some rz → cG p l e (headSpec wsX1_isTunable rmX1_isTunable).room s m (([.ref (ad 5 a0), .int a1, .int a2] : List Value).toArray) below meth c (MQ below (cQi D G A ad rz Z) (([.ref (ad 5 a0), .int a1, .int a2] : List Value).toArray) s 0 0 A) D G A ad 0 0 6 Z 45 [] [] := by
    intro   h H locs ls hI hN hS hl
    unfold fX1_isTunable_45 at h
    refine lv_iconst (v := (0 : Int32)) hx hb dX1_isTunable_45 (by decide) ?_
    exact W.zret hx hb hr rfl (cg_endr h hI hK hN hS) hS.2.2 dX1_isTunable_46
  have w58 : ∀ (k5 : Nat → Int32 → Int32 → Int32 → Int32 → Option (Int32)) (hk5 : (∀ (x0 : Nat) (x1 : Int32) (x2 : Int32) (x3 : Int32) (x4 : Int32), k5 x0 x1 x2 x3 x4 = some rz → cG p l e (headSpec wsX1_isTunable rmX1_isTunable).room s m (([.ref (ad 5 a0), .int a1, .int a2] : List Value).toArray) below meth c (MQ below (cQi D G A ad rz Z) (([.ref (ad 5 a0), .int a1, .int a2] : List Value).toArray) s 0 0 A) D G A ad 0 0 6 Z 5 [(0, .ref (ad 5 x0)), (1, .int x1), (2, .int x2), (3, .int x3), (4, .int x4)] [])) (x0 : Nat) (x1 : Int32) (x2 : Int32) (x3 : Int32) (x4 : Int32), fX1_isTunable_58 Z k5 x0 x1 x2 x3 x4 = some rz → cG p l e (headSpec wsX1_isTunable rmX1_isTunable).room s m (([.ref (ad 5 a0), .int a1, .int a2] : List Value).toArray) below meth c (MQ below (cQi D G A ad rz Z) (([.ref (ad 5 a0), .int a1, .int a2] : List Value).toArray) s 0 0 A) D G A ad 0 0 6 Z 58 [(0, .ref (ad 5 x0)), (1, .int x1), (2, .int x2), (3, .int x3), (4, .int x4)] [] := by
    intro k5 hk5 x0 x1 x2 x3 x4 h H locs ls hI hN hS hl
    unfold fX1_isTunable_58 at h
    obtain ⟨v7, ev7⟩ : ∃ y : Int32, y = (x4 + (1 : Int32)) := ⟨_, rfl⟩
    have h := bnd_ok h ev7
    refine lv_iinc (v := v7) (lv' := [(4, .int v7), (0, .ref (ad 5 x0)), (1, .int x1), (2, .int x2), (3, .int x3)]) hx hb dX1_isTunable_58 hl (k := 4) rfl (by rw [ev7]; rfl) (by decide) rfl (fun ls hl => ?_)
    refine lv_goto (tgt := 5) hx hb dX1_isTunable_61 (by decide) ?_
    exact hk5 x0 x1 x2 x3 v7 h _ _ _ hI hN hS (lv_sub hl [1, 2, 3, 4, 0] rfl)
  have w74 : ∀ (t0 : Int32), fX1_isTunable_74 Z t0 = some rz → cG p l e (headSpec wsX1_isTunable rmX1_isTunable).room s m (([.ref (ad 5 a0), .int a1, .int a2] : List Value).toArray) below meth c (MQ below (cQi D G A ad rz Z) (([.ref (ad 5 a0), .int a1, .int a2] : List Value).toArray) s 0 0 A) D G A ad 0 0 6 Z 74 [] [.int t0] := by
    intro  t0 h H locs ls hI hN hS hl
    unfold fX1_isTunable_74 at h
    obtain ⟨g8, h⟩ := gd_ok h
    exact W.zret hx hb hr (gbo_ok g8) (cg_endr h hI hK hN hS) hS.2.2 dX1_isTunable_74
  have w64 : ∀ (x2 : Int32) (x3 : Int32), fX1_isTunable_64 Z x2 x3 = some rz → cG p l e (headSpec wsX1_isTunable rmX1_isTunable).room s m (([.ref (ad 5 a0), .int a1, .int a2] : List Value).toArray) below meth c (MQ below (cQi D G A ad rz Z) (([.ref (ad 5 a0), .int a1, .int a2] : List Value).toArray) s 0 0 A) D G A ad 0 0 6 Z 64 [(2, .int x2), (3, .int x3)] [] := by
    intro  x2 x3 h H locs ls hI hN hS hl
    unfold fX1_isTunable_64 at h
    refine lv_iload_n hx hb dX1_isTunable_64 rfl (lv_at hl 1 rfl) ?_
    refine lv_iload_n hx hb dX1_isTunable_65 rfl (lv_at hl 0 rfl) ?_
    refine lv_icmp_gt (tgt := 73) hx hb dX1_isTunable_66 (by decide) (fun hc => ?_) (fun hc => ?_)
    · have h := ite_t h hc
      refine lv_iconst (v := (0 : Int32)) hx hb dX1_isTunable_73 (by decide) ?_
      exact w74  (0 : Int32) h _ _ _ hI hN hS (lv_sub hl [] rfl)
    · have h := ite_f h hc
      refine lv_iconst (v := (1 : Int32)) hx hb dX1_isTunable_69 (by decide) ?_
      refine lv_goto (tgt := 74) hx hb dX1_isTunable_70 (by decide) ?_
      exact w74  (1 : Int32) h _ _ _ hI hN hS (lv_sub hl [] rfl)
  have w5 : ∀ (x0 : Nat) (x1 : Int32) (x2 : Int32) (x3 : Int32) (x4 : Int32), lf5 (fX1_isTunable_5 Z) 100 x0 x1 x2 x3 x4 = some rz → cG p l e (headSpec wsX1_isTunable rmX1_isTunable).room s m (([.ref (ad 5 a0), .int a1, .int a2] : List Value).toArray) below meth c (MQ below (cQi D G A ad rz Z) (([.ref (ad 5 a0), .int a1, .int a2] : List Value).toArray) s 0 0 A) D G A ad 0 0 6 Z 5 [(0, .ref (ad 5 x0)), (1, .int x1), (2, .int x2), (3, .int x3), (4, .int x4)] [] := by
    refine lf5_ok (P := (fun x0 x1 x2 x3 x4 => cG p l e (headSpec wsX1_isTunable rmX1_isTunable).room s m (([.ref (ad 5 a0), .int a1, .int a2] : List Value).toArray) below meth c (MQ below (cQi D G A ad rz Z) (([.ref (ad 5 a0), .int a1, .int a2] : List Value).toArray) s 0 0 A) D G A ad 0 0 6 Z 5 [(0, .ref (ad 5 x0)), (1, .int x1), (2, .int x2), (3, .int x3), (4, .int x4)] [])) (fun k5 hk5 x0 x1 x2 x3 x4 h H locs ls hI hN hS hl => ?_) 100
    unfold fX1_isTunable_5 at h
    refine lv_iload hx hb dX1_isTunable_5 (lv_at hl 4 rfl) ?_
    refine lv_iconst (v := (4 : Int32)) hx hb dX1_isTunable_7 (by decide) ?_
    refine lv_icmp_ge (tgt := 64) hx hb dX1_isTunable_8 (by decide) (fun hc => ?_) (fun hc => ?_)
    · have h := ite_t h hc
      exact w64  x2 x3 h _ _ _ hI hN hS (lv_sub hl [2, 3] rfl)
    · have h := ite_f h hc
      refine lv_aload_n hx hb dX1_isTunable_11 rfl (lv_at hl 0 rfl) ?_
      obtain ⟨g1, h⟩ := gd_ok h
      refine cg_get (T := TX1) (N := 5) (ci := 2) hx hb hts iwsX10 hown hK hN g1 rfl rfl 1 (by decide) l0 rfl (v := .ref (ad 6 x0)) rfl dX1_isTunable_12 ?_
      refine lv_iload hx hb dX1_isTunable_15 (lv_at hl 4 rfl) ?_
      obtain ⟨g2, h⟩ := gd_ok h
      refine cg_ild hx hb hK hN g1 rfl (gin_ok g2) dX1_isTunable_17 ?_
      refine lv_iload_n hx hb dX1_isTunable_18 rfl (lv_at hl 1 rfl) ?_
      refine lv_isub hx hb dX1_isTunable_19 ?_
      refine va_mabs hx hb (hml.trans hl.1.symm) hown l1 l2 l3 l4 (by decide) (Nat.le_of_ble_eq_true rfl) (Nat.le_of_ble_eq_true rfl) (Nat.le_of_ble_eq_true rfl) dX1_isTunable_20 ?_
      refine lv_iconst (v := (5 : Int32)) hx hb dX1_isTunable_23 (by decide) ?_
      refine lv_isub hx hb dX1_isTunable_24 ?_
      refine lv_topi (fun v3 ev3 => ?_)
      have h := bnd_ok h ev3
      refine lv_istore (lv' := [(5, .int v3), (0, .ref (ad 5 x0)), (1, .int x1), (2, .int x2), (3, .int x3), (4, .int x4)]) hx hb dX1_isTunable_25 hl (by decide) rfl (fun ls hl => ?_)
      refine lv_aload_n hx hb dX1_isTunable_27 rfl (lv_at hl 1 rfl) ?_
      refine lv_iload hx hb dX1_isTunable_28 (lv_at hl 5 rfl) ?_
      obtain ⟨v4, c5, h⟩ := cl1_ok h
      refine cg_calli (va_runV (As := [.int x4]) (rest := []) ⟨hx, hb, hml, hown, hts⟩ (mX1_isCracked l D G A ad Z x0 x4 v4 c5) (cwV 1 hts gX1_isTunable_X1_isCracked rfl rfl rfl (by decide +kernel) ⟨Nat.le_of_ble_eq_true rfl, Nat.le_of_ble_eq_true rfl⟩) (cg_preV hI hK hN g1 rfl (ci := 2) rfl) rfl rfl hl.1 rfl (lv_room (Nat.le_of_ble_eq_true rfl)) dX1_isTunable_30 ⟨Nat.le_of_ble_eq_true rfl, Nat.le_of_ble_eq_true rfl⟩) hS (fun H locs hI hN hS => ?_)
      refine lv_if_ne (tgt := 45) hx hb dX1_isTunable_33 (by decide) (fun hc => ?_) (fun hc => ?_)
      · have h := ite_f h hc
        exact w45   h _ _ _ hI hN hS (lv_sub hl [] rfl)
      · have h := ite_t h hc
        refine lv_iload hx hb dX1_isTunable_36 (lv_at hl 0 rfl) ?_
        refine lv_bipush (v := (24 : Int32)) hx hb dX1_isTunable_38 (by decide) ?_
        refine lv_iload_n hx hb dX1_isTunable_40 rfl (lv_at hl 3 rfl) ?_
        refine lv_imul hx hb dX1_isTunable_41 ?_
        refine lv_icmp_le (tgt := 47) hx hb dX1_isTunable_42 (by decide) (fun hc => ?_) (fun hc => ?_)
        · have h := ite_t h hc
          refine lv_iload hx hb dX1_isTunable_47 (lv_at hl 0 rfl) ?_
          refine lv_iconst (v := (4 : Int32)) hx hb dX1_isTunable_49 (by decide) ?_
          refine lv_iload_n hx hb dX1_isTunable_50 rfl (lv_at hl 3 rfl) ?_
          refine lv_imul hx hb dX1_isTunable_51 ?_
          refine lv_icmp_le (tgt := 58) hx hb dX1_isTunable_52 (by decide) (fun hc => ?_) (fun hc => ?_)
          · have h := ite_t h hc
            exact w58 k5 hk5 x0 x1 x2 x3 x4 h _ _ _ hI hN hS (lv_sub hl [1, 2, 3, 4, 5] rfl)
          · have h := ite_f h hc
            obtain ⟨v6, ev6⟩ : ∃ y : Int32, y = (x3 + (1 : Int32)) := ⟨_, rfl⟩
            have h := bnd_ok h ev6
            refine lv_iinc (v := v6) (lv' := [(3, .int v6), (5, .int v3), (0, .ref (ad 5 x0)), (1, .int x1), (2, .int x2), (4, .int x4)]) hx hb dX1_isTunable_55 hl (k := 4) rfl (by rw [ev6]; rfl) (by decide) rfl (fun ls hl => ?_)
            exact w58 k5 hk5 x0 x1 x2 v6 x4 h _ _ _ hI hN hS (lv_sub hl [2, 3, 4, 0, 5] rfl)
        · have h := ite_f h hc
          exact w45   h _ _ _ hI hN hS (lv_sub hl [] rfl)
  unfold fX1_isTunable at h
  refine lv_iconst (v := (0 : Int32)) hx hb dX1_isTunable_0 (by decide) ?_
  refine lv_istore_n (lv' := [(3, .int (0 : Int32)), (0, .ref (ad 5 a0)), (1, .int a1), (2, .int a2)]) hx hb dX1_isTunable_1 rfl hl (by decide) rfl (fun ls hl => ?_)
  refine lv_iconst (v := (0 : Int32)) hx hb dX1_isTunable_2 (by decide) ?_
  refine lv_istore (lv' := [(4, .int (0 : Int32)), (3, .int (0 : Int32)), (0, .ref (ad 5 a0)), (1, .int a1), (2, .int a2)]) hx hb dX1_isTunable_3 hl (by decide) rfl (fun ls hl => ?_)
  exact w5  a0 a1 a2 (0 : Int32) (0 : Int32) h _ _ _ hI hN hS (lv_sub hl [2, 3, 4, 1, 0] rfl)
def fX2_spotOf_23 (Z : CZ) (t0 : Int32) : Option (Int32) := some t0
def fX2_spotOf (a1 : Int32) (a2 : Int32) (Z : CZ) : Option (Int32) := (if a1 = 0 then fX2_spotOf_23 Z (irm ((7 : Int32) * a2) (12 : Int32)) else fX2_spotOf_23 Z (((4 : Int32) * (irm a2 (3 : Int32))) + (a2 / (3 : Int32))))
def rmX2_spotOf : Room := { frames := 1, cells := 0, slots := 0, locals := 30 }
set_option maxHeartbeats 4000000 in
set_option maxRecDepth 100000 in
theorem mX2_spotOf (l : Launch) (D : va_G) (G : CGT) (A : Nat → Prop) (ad : Nat → Nat → Nat) (Z : CZ) (a1 : Int32) (a2 : Int32) (rz : Int32) (h : fX2_spotOf a1 a2 Z = some rz) : Met l yX2_spotOf wsX2_spotOf rmX2_spotOf (va_Pc [.int a1, .int a2] (cP D G A ad Z)) (cQi D G A ad rz Z) 0 0 A := by
  refine Met.ofW (cc := cX2_spotOf) (maxL := 2) (ret := some .int) (by decide) rfl ?_
  intro p e s m args below meth c s₁ B hml hv
  obtain ⟨rfl, hI, hN, hK⟩ := hv
  have hx := B.exec
  have hb := B.bytes
  have hr := B.returns
  have hts := atoms_spec (ws := wsX2_spotOf) B.pre
  have hown : s.vm.findClass RX2 = some m.cls := findClass_of_methodNamed B.named
  have hlocks := B.notSynchronized
  have hS : va_S A s.heap s.heap [] := va_S.rf
  have hl := lv_entry ([.int a1, .int a2]) (n := 2) (Nat.le_of_ble_eq_true rfl)
  rw [lg_entry_eq]
  generalize (lg_sl ([.int a1, .int a2]) ++ List.replicate (2 - (lg_sl ([.int a1, .int a2])).length) Slot.unset).toArray = ls at hl ⊢
  have hl : lv_has ls 2 [(0, .int a1), (1, .int a2)] := hl
  have w23 : ∀ (t0 : Int32), fX2_spotOf_23 Z t0 = some rz → cG p l e (headSpec wsX2_spotOf rmX2_spotOf).room s m (([.int a1, .int a2] : List Value).toArray) below meth c (MQ below (cQi D G A ad rz Z) (([.int a1, .int a2] : List Value).toArray) s 0 0 A) D G A ad 0 0 2 Z 23 [] [.int t0] := by
    intro  t0 h H locs ls hI hN hS hl
    unfold fX2_spotOf_23 at h
    exact W.iret hx hb hr (cg_endr h hI hK hN hS) hS.2.2 dX2_spotOf_23
  unfold fX2_spotOf at h
  refine lv_iload_n hx hb dX2_spotOf_0 rfl (lv_at hl 0 rfl) ?_
  refine lv_if_ne (tgt := 14) hx hb dX2_spotOf_1 (by decide) (fun hc => ?_) (fun hc => ?_)
  · have h := ite_f h hc
    refine lv_iconst (v := (4 : Int32)) hx hb dX2_spotOf_14 (by decide) ?_
    refine lv_iload_n hx hb dX2_spotOf_15 rfl (lv_at hl 1 rfl) ?_
    refine lv_iconst (v := (3 : Int32)) hx hb dX2_spotOf_16 (by decide) ?_
    refine lv_irm hx hb dX2_spotOf_17 (by decide) ?_
    refine lv_imul hx hb dX2_spotOf_18 ?_
    refine lv_iload_n hx hb dX2_spotOf_19 rfl (lv_at hl 1 rfl) ?_
    refine lv_iconst (v := (3 : Int32)) hx hb dX2_spotOf_20 (by decide) ?_
    refine lv_idiv hx hb dX2_spotOf_21 (by decide) ?_
    refine lv_iadd hx hb dX2_spotOf_22 ?_
    exact w23  (((4 : Int32) * (irm a2 (3 : Int32))) + (a2 / (3 : Int32))) h _ _ _ hI hN hS (lv_sub hl [] rfl)
  · have h := ite_t h hc
    refine lv_bipush (v := (7 : Int32)) hx hb dX2_spotOf_4 (by decide) ?_
    refine lv_iload_n hx hb dX2_spotOf_6 rfl (lv_at hl 1 rfl) ?_
    refine lv_imul hx hb dX2_spotOf_7 ?_
    refine lv_bipush (v := (12 : Int32)) hx hb dX2_spotOf_8 (by decide) ?_
    refine lv_irm hx hb dX2_spotOf_10 (by decide) ?_
    refine lv_goto (tgt := 23) hx hb dX2_spotOf_11 (by decide) ?_
    exact w23  (irm ((7 : Int32) * a2) (12 : Int32)) h _ _ _ hI hN hS (lv_sub hl [] rfl)
