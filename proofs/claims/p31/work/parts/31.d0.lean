noncomputable def fJx4a65c_remove_915e3 (a0 : Nat) (a1 : Int32) (Z : CZ) : Option (Nat × CZ) := gd (cLv Z.2.2 3 a0) (cl1 (fJ15_checkIndex_7cf53 a1 (Z.1 3 a0 2) Z) (fun v2 => gd (cLv Z.2.2 4 a0) (gd (gin a1 (Z.2.2 (10 + a0))) (cl1 (Z.2.1 4 a0 (Int32.toNatClampNeg a1)) (fun q6 => cl1 (fJx4a65c_fastRemove_b59b0 a0 a1 Z) (fun Z8 => some (q6, Z8)))))))
def rmJx4a65c_remove_915e3 : Room := { frames := 3, cells := 0, slots := 0, locals := 83 }
set_option maxHeartbeats 4000000 in
set_option maxRecDepth 100000 in
theorem mJx4a65c_remove_915e3 (l : Launch) (D : va_G) (G : CGT) (A : Nat → Prop) (ad : Nat → Nat → Nat) (Z : CZ) (a0 : Nat) (a1 : Int32) (rz : Nat) (Zz : CZ) (h : fJx4a65c_remove_915e3 a0 a1 Z = some (rz, Zz)) : Met l yJx4a65c_remove_915e3 wsJx4a65c_remove_915e3 rmJx4a65c_remove_915e3 (va_Pc [.ref (ad 3 a0), .int a1] (cP D G A ad Z)) (cQr D G A ad (cEk a0) rz Zz) 0 0 A := by
  refine Met.ofW (cc := cJx4a65c_remove_915e3) (maxL := 4) (ret := some (.object "java/lang/Object")) (by decide) rfl ?_
  intro p e s m args below meth c s₁ B hml hv
  obtain ⟨rfl, hI, hN, hK⟩ := hv
  have hx := B.exec
  have hb := B.bytes
  have hr := B.returns
  have hts := atoms_spec (ws := wsJx4a65c_remove_915e3) B.pre
  have hown : s.vm.findClass RJx4a65c = some m.cls := findClass_of_methodNamed B.named
  have hlocks := B.notSynchronized
  have iwsJx4a65c0 : ∀ w ∈ wsJx4a65c0, w ∈ wsJx4a65c_remove_915e3 := fun w h => List.mem_cons_of_mem _ (List.mem_append_right _ h)
  have l0 := hts (.fieldLink RJx4a65c 48 "java/util/ArrayList" "size" "I") (List.mem_of_getElem? (i := 1) rfl)
  have l1 := hts (.fieldLink RJx4a65c 9 "java/util/ArrayList" "elementData" "[Ljava/lang/Object;") (List.mem_of_getElem? (i := 2) rfl)
  have hS : va_S A s.heap s.heap [] := va_S.rf
  have hl := lv_entry ([.ref (ad 3 a0), .int a1]) (n := 4) (Nat.le_of_ble_eq_true rfl)
  rw [lg_entry_eq]
  generalize (lg_sl ([.ref (ad 3 a0), .int a1]) ++ List.replicate (4 - (lg_sl ([.ref (ad 3 a0), .int a1])).length) Slot.unset).toArray = ls at hl ⊢
  have hl : lv_has ls 4 [(0, .ref (ad 3 a0)), (1, .int a1)] := hl
  unfold fJx4a65c_remove_915e3 at h
  refine lv_iload_n hx hb dJx4a65c_remove_915e3_0 rfl (lv_at hl 1 rfl) ?_
  refine lv_aload_n hx hb dJx4a65c_remove_915e3_1 rfl (lv_at hl 0 rfl) ?_
  obtain ⟨g1, h⟩ := gd_ok h
  refine cg_get (T := TJx4a65c) (N := 3) (ci := 0) hx hb hts iwsJx4a65c0 hown hK hN g1 rfl rfl 2 (by decide) l0 rfl (v := .int (Z.1 3 a0 2)) rfl dJx4a65c_remove_915e3_2 ?_
  obtain ⟨v2, c3, h⟩ := cl1_ok h
  refine cg_calli (va_runS (As := [.int a1, .int (Z.1 3 a0 2)]) (rest := []) ⟨hx, hb, hml, hown, hts⟩ (mJ15_checkIndex_7cf53 l D G A ad Z a1 (Z.1 3 a0 2) v2 c3) (va_cwS 2 hts gJx4a65c_remove_915e3_J15_checkIndex_7cf53 rfl rfl rfl (by decide +kernel) ⟨Nat.le_of_ble_eq_true rfl, Nat.le_of_ble_eq_true rfl⟩) (cg_preS hI hK hN) rfl rfl hl.1 rfl (lv_room (Nat.le_of_ble_eq_true rfl)) dJx4a65c_remove_915e3_5 ⟨Nat.le_of_ble_eq_true rfl, Nat.le_of_ble_eq_true rfl⟩) hS (fun H locs hI hN hS => ?_)
  refine lv_pop hx hb dJx4a65c_remove_915e3_8 rfl ?_
  refine lv_aload_n hx hb dJx4a65c_remove_915e3_9 rfl (lv_at hl 0 rfl) ?_
  obtain ⟨g4, h⟩ := gd_ok h
  refine cg_get (T := TJx4a65c) (N := 3) (ci := 0) hx hb hts iwsJx4a65c0 hown hK hN g1 rfl rfl 1 (by decide) l1 rfl (v := .ref (ad 4 a0)) (congrArg (fun q => some (Value.ref q)) (if_neg (cLv4 g4))) dJx4a65c_remove_915e3_10 ?_
  refine lv_astore_n (lv' := [(2, .ref (ad 4 a0)), (0, .ref (ad 3 a0)), (1, .int a1)]) hx hb dJx4a65c_remove_915e3_13 rfl hl (by decide) rfl (fun ls hl => ?_)
  refine lv_aload_n hx hb dJx4a65c_remove_915e3_14 rfl (lv_at hl 0 rfl) ?_
  refine lv_iload_n hx hb dJx4a65c_remove_915e3_15 rfl (lv_at hl 2 rfl) ?_
  obtain ⟨g5, h⟩ := gd_ok h
  obtain ⟨q6, c7, h⟩ := cl1_ok h
  refine cg_aldl hx hb hK hN g4 (gin_ok g5) c7 dJx4a65c_remove_915e3_16 ?_
  refine lv_astore_n (lv' := [(3, .ref (ad (cEk a0) q6)), (2, .ref (ad 4 a0)), (0, .ref (ad 3 a0)), (1, .int a1)]) hx hb dJx4a65c_remove_915e3_17 rfl hl (by decide) rfl (fun ls hl => ?_)
  refine lv_aload_n hx hb dJx4a65c_remove_915e3_18 rfl (lv_at hl 2 rfl) ?_
  refine lv_aload_n hx hb dJx4a65c_remove_915e3_19 rfl (lv_at hl 1 rfl) ?_
  refine lv_iload_n hx hb dJx4a65c_remove_915e3_20 rfl (lv_at hl 3 rfl) ?_
  obtain ⟨Z8, c9, h⟩ := cl1_ok h
  refine cg_callv (va_runV (As := [.ref (ad 4 a0), .int a1]) (rest := []) ⟨hx, hb, hml, hown, hts⟩ (mJx4a65c_fastRemove_b59b0 l D G A ad Z a0 a1 Z8 c9) (cwV 2 hts gJx4a65c_remove_915e3_Jx4a65c_fastRemove_b59b0 rfl rfl rfl (by decide +kernel) ⟨Nat.le_of_ble_eq_true rfl, Nat.le_of_ble_eq_true rfl⟩) (cg_preV hI hK hN g1 rfl (ci := 0) rfl) rfl rfl hl.1 rfl (lv_room (Nat.le_of_ble_eq_true rfl)) dJx4a65c_remove_915e3_21 ⟨Nat.le_of_ble_eq_true rfl, Nat.le_of_ble_eq_true rfl⟩) hS (fun H locs hI hN hS => ?_)
  refine lv_aload_n hx hb dJx4a65c_remove_915e3_24 rfl (lv_at hl 0 rfl) ?_
  exact W.aret hx hb hr (Or.inl ⟨_, rfl⟩) (Or.inr ⟨_, rfl⟩) (cg_endqw h hI hK hN hS) hS.2.2 dJx4a65c_remove_915e3_25
noncomputable def fX6_leave_44 (x2 : Int32) (x3 : Nat) (x4 : Nat) (x5 : Int32) (t0 : Int32) (Z : CZ) : Option ((Int32 ⊕ Int32) × CZ) := cx1 (fX6_requireState t0 Z) (fun x14 => some (.inr x14, Z)) (fun _ => gd (cLv Z.2.2 10 x4) (gd (cLv Z.2.2 3 (x4 + 4)) (cl2 (fJx4a65c_remove_915e3 (x4 + 4) x5 Z) (fun v18 Z19 => gd (cLv Z19.2.2 9 x3) (bnd (cuI Z19 9 x3 (upd (Z19.1 9 x3) 3 ((Z19.1 9 x3 3) - (1 : Int32)))) (fun Z22 => bnd (cuI Z22 9 x3 (upd (Z22.1 9 x3) 4 x2)) (fun Z23 => cl1 (fX6_seasonNow  Z23) (fun v24 => bnd (cuI Z23 9 x3 (upd (Z23.1 9 x3) 5 v24)) (fun Z26 => gd (cLv Z26.2.2 10 x4) (gd (cLv Z26.2.2 3 (x4 + 4)) (cl1 (fJx4a65c_size_8abf5 (x4 + 4) Z26) (fun v29 => some (.inl v29, Z26)))))))))))))
noncomputable def fX6_leave_43 (x2 : Int32) (x3 : Nat) (x4 : Nat) (x5 : Int32) (Z : CZ) : Option ((Int32 ⊕ Int32) × CZ) := fX6_leave_44 x2 x3 x4 x5 (0 : Int32) Z
noncomputable def fX6_leave (a1 : Int32) (a2 : Int32) (Z : CZ) : Option ((Int32 ⊕ Int32) × CZ) := cx1 (fX6_playerAt a1 Z) (fun x2 => some (.inr x2, Z)) (fun q3 => cx1 (fX6_bandAt a2 Z) (fun x5 => some (.inr x5, Z)) (fun q6 => gd (cLv Z.2.2 10 q6) (cl1 (fX0_seatOf q6 q3 Z) (fun v8 => (if v8 < 0 then fX6_leave_43 a2 q3 q6 v8 Z else gd (cLv Z.2.2 3 (q6 + 4)) (cl1 (fJx4a65c_size_8abf5 (q6 + 4) Z) (fun v11 => (if v11 ≤ v8 then fX6_leave_43 a2 q3 q6 v8 Z else fX6_leave_44 a2 q3 q6 v8 (1 : Int32) Z))))))))
def rmX6_leave : Room := { frames := 8, cells := 3, slots := 18, locals := 142 }
set_option maxHeartbeats 4000000 in
set_option maxRecDepth 100000 in
theorem mX6_leave (l : Launch) (hfl : l.stackTraces = false) (D : va_G) (G : CGT) (A : Nat → Prop) (ad : Nat → Nat → Nat) (Z : CZ) (a1 : Int32) (a2 : Int32) (rz : (Int32 ⊕ Int32)) (Zz : CZ) (h : fX6_leave a1 a2 Z = some (rz, Zz)) : vx_Met l yX6_leave wsX6_leave rmX6_leave (va_Pc [.ref (ad 0 0), .int a1, .int a2] (xP D G A ad Z)) (xQi D G A ad rz Zz) (xX D G A ad rz Zz) 3 18 A := by
  refine vx_ofW (cc := cX6_leave) (maxL := 6) (ret := some .int) (by decide) rfl ?_
  intro p e s m args below meth c s₁ B hml hexc hv
  obtain ⟨rfl, ⟨hI, hN, hK⟩, hE⟩ := hv
  have hx := B.exec
  have hb := B.bytes
  have hr := B.returns
  have hts := atoms_spec (ws := wsX6_leave) B.pre
  have hown : s.vm.findClass RX6 = some m.cls := findClass_of_methodNamed B.named
  have hlocks := B.notSynchronized
  have iwsX00 : ∀ w ∈ wsX00, w ∈ wsX6_leave := fun w h => List.mem_cons_of_mem _ (List.mem_append_left _ (List.mem_append_left _ (List.mem_append_left _ (List.mem_append_left _ (List.mem_append_left _ (List.mem_append_left _ (List.mem_append_right _ h)))))))
  have iwsX40 : ∀ w ∈ wsX40, w ∈ wsX6_leave := fun w h => List.mem_cons_of_mem _ (List.mem_append_left _ (List.mem_append_left _ (List.mem_append_left _ (List.mem_append_left _ (List.mem_append_left _ (List.mem_append_right _ h))))))
  have l0 := hts (.fieldLink RX6 129 "Panyard$Band" "seats" "Ljava/util/ArrayList;") (List.mem_of_getElem? (i := 1) rfl)
  have l1 := hts (.fieldLink RX6 126 "Panyard$Player" "bandCount" "I") (List.mem_of_getElem? (i := 2) rfl)
  have l2 := hts (.fieldLink RX6 147 "Panyard$Player" "leftBand" "I") (List.mem_of_getElem? (i := 3) rfl)
  have l3 := hts (.fieldLink RX6 150 "Panyard$Player" "leftSeason" "I") (List.mem_of_getElem? (i := 4) rfl)
  have hS : va_S A s.heap s.heap [] := va_S.rf
  have hl := lv_entry ([.ref (ad 0 0), .int a1, .int a2]) (n := 6) (Nat.le_of_ble_eq_true rfl)
  rw [lg_entry_eq]
  generalize (lg_sl ([.ref (ad 0 0), .int a1, .int a2]) ++ List.replicate (6 - (lg_sl ([.ref (ad 0 0), .int a1, .int a2])).length) Slot.unset).toArray = ls at hl ⊢
  have hl : lv_has ls 6 [(0, .ref (ad 0 0)), (1, .int a1), (2, .int a2)] := hl
  have w44 : ∀ (x2 : Int32) (x3 : Nat) (x4 : Nat) (x5 : Int32) (t0 : Int32) (Z : CZ), fX6_leave_44  x2 x3 x4 x5 t0 Z = some (rz, Zz) → cG p l e (headSpec wsX6_leave rmX6_leave).room s m (([.ref (ad 0 0), .int a1, .int a2] : List Value).toArray) below meth c (vx_MQ below (xQi D G A ad rz Zz) (xX D G A ad rz Zz) (([.ref (ad 0 0), .int a1, .int a2] : List Value).toArray) s 3 18 A) D G A ad 2 12 6 Z 44 [(0, .ref (ad 0 0)), (2, .int x2), (3, .ref (ad 9 x3)), (4, .ref (ad 10 x4)), (5, .int x5)] [.int t0] := by
    intro  x2 x3 x4 x5 t0 Z h H locs ls hI hN hS hl
    unfold fX6_leave_44 at h
    rcases cx1_ok h with ⟨v15, c13, h⟩ | ⟨x14, c13, h⟩
    · refine xg_callv (vx_runS (As := [.int t0]) (rest := []) ⟨hx, hb, hml, hown, hts⟩ (mX6_requireState l hfl D G A ad Z t0 (.inl ()) c13) (va_cwS 1 hts gX6_leave_X6_requireState rfl rfl rfl (by decide +kernel) ⟨Nat.le_of_ble_eq_true rfl, Nat.le_of_ble_eq_true rfl⟩) (xg_preS hI hK hN hE hS) rfl rfl hl.1 rfl (lv_room (Nat.le_of_ble_eq_true rfl)) dX6_leave_44 ⟨Nat.le_of_ble_eq_true rfl, Nat.le_of_ble_eq_true rfl⟩) hS (fun H locs hI hN hS => ?_)
      refine W.widen (k := 3) (n := 18) (by decide) (by decide) ?_
      refine lv_aload hx hb dX6_leave_47 (lv_at hl 3 rfl) ?_
      obtain ⟨g16, h⟩ := gd_ok h
      refine cg_get (T := TX0) (N := 7) (ci := 1) hx hb hts iwsX00 hown hK hN g16 rfl rfl 0 (by decide) l0 rfl (v := .ref (ad 3 (x4 + 4))) rfl dX6_leave_49 ?_
      refine lv_iload hx hb dX6_leave_52 (lv_at hl 4 rfl) ?_
      obtain ⟨g17, h⟩ := gd_ok h
      obtain ⟨v18, Z19, c20, h⟩ := cl2_ok h
      refine cg_callr (k := 13) (q := v18) (va_runV (As := [.int x5]) (rest := []) ⟨hx, hb, hml, hown, hts⟩ (mJx4a65c_remove_915e3 l D G A ad Z (x4 + 4) x5 v18 Z19 c20) (cwV 1 hts gX6_leave_Jx4a65c_remove_915e3 rfl rfl rfl (by decide +kernel) ⟨Nat.le_of_ble_eq_true rfl, Nat.le_of_ble_eq_true rfl⟩) (cg_preV hI hK hN g17 rfl (ci := 0) rfl) rfl rfl hl.1 rfl (lv_room (Nat.le_of_ble_eq_true rfl)) dX6_leave_54 ⟨Nat.le_of_ble_eq_true rfl, Nat.le_of_ble_eq_true rfl⟩) hS (fun H locs hI hN hS => ?_)
      refine lv_pop hx hb dX6_leave_57 rfl ?_
      refine lv_aload_n hx hb dX6_leave_58 rfl (lv_at hl 2 rfl) ?_
      refine lv_dup hx hb dX6_leave_59 rfl ?_
      obtain ⟨g21, h⟩ := gd_ok h
      refine cg_get (T := TX4) (N := 6) (ci := 5) hx hb hts iwsX40 hown hK hN g21 rfl rfl 3 (by decide) l1 rfl (v := .int (Z19.1 9 x3 3)) rfl dX6_leave_60 ?_
      refine lv_iconst (v := (1 : Int32)) hx hb dX6_leave_63 (by decide) ?_
      refine lv_isub hx hb dX6_leave_64 ?_
      obtain ⟨Z22, eZ22⟩ : ∃ y : CZ, y = (cuI Z19 9 x3 (upd (Z19.1 9 x3) 3 ((Z19.1 9 x3 3) - (1 : Int32)))) := ⟨_, rfl⟩
      have h := bnd_ok h eZ22
      refine cg_put (ty := .int) (T := TX4) (N := 6) (ci := 5) hx hb hts iwsX40 tyX4_ok nmX4 hown hI hK hN hS g21 rfl rfl 3 (by decide) (Nat.le_of_ble_eq_true rfl) l1 rfl rfl (by decide +kernel) rfl rfl rfl dX6_leave_65 eZ22 (fun H locs hI hN hS => ?_)
      refine lv_aload_n hx hb dX6_leave_68 rfl (lv_at hl 2 rfl) ?_
      refine lv_iload_n hx hb dX6_leave_69 rfl (lv_at hl 1 rfl) ?_
      obtain ⟨Z23, eZ23⟩ : ∃ y : CZ, y = (cuI Z22 9 x3 (upd (Z22.1 9 x3) 4 x2)) := ⟨_, rfl⟩
      have h := bnd_ok h eZ23
      refine cg_put (ty := .int) (T := TX4) (N := 6) (ci := 5) hx hb hts iwsX40 tyX4_ok nmX4 hown hI hK hN hS (by rw [eZ22]; exact g21) rfl rfl 4 (by decide) (Nat.le_of_ble_eq_true rfl) l2 rfl rfl (by decide +kernel) rfl rfl rfl dX6_leave_70 eZ23 (fun H locs hI hN hS => ?_)
      refine lv_aload_n hx hb dX6_leave_73 rfl (lv_at hl 2 rfl) ?_
      refine lv_aload_n hx hb dX6_leave_74 rfl (lv_at hl 0 rfl) ?_
      obtain ⟨v24, c25, h⟩ := cl1_ok h
      refine cg_calli (va_runV (As := []) (rest := [.ref (ad 9 x3)]) ⟨hx, hb, hml, hown, hts⟩ (mX6_seasonNow l D G A ad Z23 v24 c25) (cwV 0 hts gX6_leave_X6_seasonNow rfl rfl rfl (by decide +kernel) ⟨Nat.le_of_ble_eq_true rfl, Nat.le_of_ble_eq_true rfl⟩) (cg_preV hI hK hN rfl rfl (ci := 7) rfl) rfl rfl hl.1 rfl (lv_room (Nat.le_of_ble_eq_true rfl)) dX6_leave_75 ⟨Nat.le_of_ble_eq_true rfl, Nat.le_of_ble_eq_true rfl⟩) hS (fun H locs hI hN hS => ?_)
      obtain ⟨Z26, eZ26⟩ : ∃ y : CZ, y = (cuI Z23 9 x3 (upd (Z23.1 9 x3) 5 v24)) := ⟨_, rfl⟩
      have h := bnd_ok h eZ26
      refine cg_put (ty := .int) (T := TX4) (N := 6) (ci := 5) hx hb hts iwsX40 tyX4_ok nmX4 hown hI hK hN hS (by rw [eZ23]; exact (by rw [eZ22]; exact g21)) rfl rfl 5 (by decide) (Nat.le_of_ble_eq_true rfl) l3 rfl rfl (by decide +kernel) rfl rfl rfl dX6_leave_78 eZ26 (fun H locs hI hN hS => ?_)
      refine lv_aload hx hb dX6_leave_81 (lv_at hl 3 rfl) ?_
      obtain ⟨g27, h⟩ := gd_ok h
      refine cg_get (T := TX0) (N := 7) (ci := 1) hx hb hts iwsX00 hown hK hN g27 rfl rfl 0 (by decide) l0 rfl (v := .ref (ad 3 (x4 + 4))) rfl dX6_leave_83 ?_
      obtain ⟨g28, h⟩ := gd_ok h
      obtain ⟨v29, c30, h⟩ := cl1_ok h
      refine cg_calli (va_runV (As := []) (rest := []) ⟨hx, hb, hml, hown, hts⟩ (mJx4a65c_size_8abf5 l D G A ad Z26 (x4 + 4) v29 c30) (cwV 0 hts gX6_leave_Jx4a65c_size_8abf5 rfl rfl rfl (by decide +kernel) ⟨Nat.le_of_ble_eq_true rfl, Nat.le_of_ble_eq_true rfl⟩) (cg_preV hI hK hN g28 rfl (ci := 0) rfl) rfl rfl hl.1 rfl (lv_room (Nat.le_of_ble_eq_true rfl)) dX6_leave_86 ⟨Nat.le_of_ble_eq_true rfl, Nat.le_of_ble_eq_true rfl⟩) hS (fun H locs hI hN hS => ?_)
      exact vx_ret (W.widen (k := 3) (n := 18) (by decide) (by decide) (W.iret hx hb hr (xg_endi h hI hK hN hS) hS.2.2 dX6_leave_89))
    · exact xg_thrv (vx_runS (As := [.int t0]) (rest := []) ⟨hx, hb, hml, hown, hts⟩ (mX6_requireState l hfl D G A ad Z t0 (.inr x14) c13) (va_cwS 1 hts gX6_leave_X6_requireState rfl rfl rfl (by decide +kernel) ⟨Nat.le_of_ble_eq_true rfl, Nat.le_of_ble_eq_true rfl⟩) (xg_preS hI hK hN hE hS) rfl rfl hl.1 rfl (lv_room (Nat.le_of_ble_eq_true rfl)) dX6_leave_44 ⟨Nat.le_of_ble_eq_true rfl, Nat.le_of_ble_eq_true rfl⟩) (congrArg Prod.fst (Option.some.inj h)).symm (congrArg Prod.snd (Option.some.inj h)).symm hexc hlocks hS (by decide) (by decide)
  have w43 : ∀ (x2 : Int32) (x3 : Nat) (x4 : Nat) (x5 : Int32) (Z : CZ), fX6_leave_43  x2 x3 x4 x5 Z = some (rz, Zz) → cG p l e (headSpec wsX6_leave rmX6_leave).room s m (([.ref (ad 0 0), .int a1, .int a2] : List Value).toArray) below meth c (vx_MQ below (xQi D G A ad rz Zz) (xX D G A ad rz Zz) (([.ref (ad 0 0), .int a1, .int a2] : List Value).toArray) s 3 18 A) D G A ad 2 12 6 Z 43 [(0, .ref (ad 0 0)), (2, .int x2), (3, .ref (ad 9 x3)), (4, .ref (ad 10 x4)), (5, .int x5)] [] := by
    intro  x2 x3 x4 x5 Z h H locs ls hI hN hS hl
    unfold fX6_leave_43 at h
    refine lv_iconst (v := (0 : Int32)) hx hb dX6_leave_43 (by decide) ?_
    exact w44  x2 x3 x4 x5 (0 : Int32) Z h _ _ _ hI hN hS (lv_sub hl [0, 1, 2, 3, 4] rfl)
  unfold fX6_leave at h
  refine lv_aload_n hx hb dX6_leave_0 rfl (lv_at hl 0 rfl) ?_
  refine lv_iload_n hx hb dX6_leave_1 rfl (lv_at hl 1 rfl) ?_
  rcases cx1_ok h with ⟨q3, c1, h⟩ | ⟨x2, c1, h⟩
  · refine xg_callr (k := 9) (q := q3) (vx_runV (As := [.int a1]) (rest := []) ⟨hx, hb, hml, hown, hts⟩ (mX6_playerAt l hfl D G A ad Z a1 (.inl q3) c1) (cwV 1 hts gX6_leave_X6_playerAt rfl rfl rfl (by decide +kernel) ⟨Nat.le_of_ble_eq_true rfl, Nat.le_of_ble_eq_true rfl⟩) (xg_preV hI hK hN hE hS rfl rfl (ci := 7) rfl) rfl rfl hl.1 rfl (lv_room (Nat.le_of_ble_eq_true rfl)) dX6_leave_2 ⟨Nat.le_of_ble_eq_true rfl, Nat.le_of_ble_eq_true rfl⟩) hS (fun H locs hI hN hS => ?_)
    refine W.widen (k := 1) (n := 6) (by decide) (by decide) ?_
    refine lv_astore_n (lv' := [(3, .ref (ad 9 q3)), (0, .ref (ad 0 0)), (1, .int a1), (2, .int a2)]) hx hb dX6_leave_5 rfl hl (by decide) rfl (fun ls hl => ?_)
    refine lv_aload_n hx hb dX6_leave_6 rfl (lv_at hl 1 rfl) ?_
    refine lv_iload_n hx hb dX6_leave_7 rfl (lv_at hl 3 rfl) ?_
    rcases cx1_ok h with ⟨q6, c4, h⟩ | ⟨x5, c4, h⟩
    · refine xg_callr (k := 10) (q := q6) (vx_runV (As := [.int a2]) (rest := []) ⟨hx, hb, hml, hown, hts⟩ (mX6_bandAt l hfl D G A ad Z a2 (.inl q6) c4) (cwV 1 hts gX6_leave_X6_bandAt rfl rfl rfl (by decide +kernel) ⟨Nat.le_of_ble_eq_true rfl, Nat.le_of_ble_eq_true rfl⟩) (xg_preV hI hK hN hE hS rfl rfl (ci := 7) rfl) rfl rfl hl.1 rfl (lv_room (Nat.le_of_ble_eq_true rfl)) dX6_leave_8 ⟨Nat.le_of_ble_eq_true rfl, Nat.le_of_ble_eq_true rfl⟩) hS (fun H locs hI hN hS => ?_)
      refine W.widen (k := 2) (n := 12) (by decide) (by decide) ?_
      refine lv_astore (lv' := [(4, .ref (ad 10 q6)), (3, .ref (ad 9 q3)), (0, .ref (ad 0 0)), (1, .int a1), (2, .int a2)]) hx hb dX6_leave_11 hl (by decide) rfl (fun ls hl => ?_)
      refine lv_aload hx hb dX6_leave_13 (lv_at hl 0 rfl) ?_
      refine lv_aload_n hx hb dX6_leave_15 rfl (lv_at hl 1 rfl) ?_
      obtain ⟨g7, h⟩ := gd_ok h
      obtain ⟨v8, c9, h⟩ := cl1_ok h
      refine cg_calli (va_runV (As := [.ref (ad 9 q3)]) (rest := []) ⟨hx, hb, hml, hown, hts⟩ (mX0_seatOf l D G A ad Z q6 q3 v8 c9) (cwV 1 hts gX6_leave_X0_seatOf rfl rfl rfl (by decide +kernel) ⟨Nat.le_of_ble_eq_true rfl, Nat.le_of_ble_eq_true rfl⟩) (cg_preV hI hK hN g7 rfl (ci := 1) rfl) rfl rfl hl.1 rfl (lv_room (Nat.le_of_ble_eq_true rfl)) dX6_leave_16 ⟨Nat.le_of_ble_eq_true rfl, Nat.le_of_ble_eq_true rfl⟩) hS (fun H locs hI hN hS => ?_)
      refine lv_istore (lv' := [(5, .int v8), (4, .ref (ad 10 q6)), (3, .ref (ad 9 q3)), (0, .ref (ad 0 0)), (1, .int a1), (2, .int a2)]) hx hb dX6_leave_19 hl (by decide) rfl (fun ls hl => ?_)
      refine lv_iload hx hb dX6_leave_21 (lv_at hl 0 rfl) ?_
      refine lv_if_lt (tgt := 43) hx hb dX6_leave_23 (by decide) (fun hc => ?_) (fun hc => ?_)
      · have h := ite_t h hc
        exact w43  a2 q3 q6 v8 Z h _ _ _ hI hN hS (lv_sub hl [3, 5, 2, 1, 0] rfl)
      · have h := ite_f h hc
        refine lv_iload hx hb dX6_leave_26 (lv_at hl 0 rfl) ?_
        refine lv_aload hx hb dX6_leave_28 (lv_at hl 1 rfl) ?_
        refine cg_get (T := TX0) (N := 7) (ci := 1) hx hb hts iwsX00 hown hK hN g7 rfl rfl 0 (by decide) l0 rfl (v := .ref (ad 3 (q6 + 4))) rfl dX6_leave_30 ?_
        obtain ⟨g10, h⟩ := gd_ok h
        obtain ⟨v11, c12, h⟩ := cl1_ok h
        refine cg_calli (va_runV (As := []) (rest := [.int v8]) ⟨hx, hb, hml, hown, hts⟩ (mJx4a65c_size_8abf5 l D G A ad Z (q6 + 4) v11 c12) (cwV 0 hts gX6_leave_Jx4a65c_size_8abf5 rfl rfl rfl (by decide +kernel) ⟨Nat.le_of_ble_eq_true rfl, Nat.le_of_ble_eq_true rfl⟩) (cg_preV hI hK hN g10 rfl (ci := 0) rfl) rfl rfl hl.1 rfl (lv_room (Nat.le_of_ble_eq_true rfl)) dX6_leave_33 ⟨Nat.le_of_ble_eq_true rfl, Nat.le_of_ble_eq_true rfl⟩) hS (fun H locs hI hN hS => ?_)
        refine lv_icmp_ge (tgt := 43) hx hb dX6_leave_36 (by decide) (fun hc => ?_) (fun hc => ?_)
        · have h := ite_t h hc
          exact w43  a2 q3 q6 v8 Z h _ _ _ hI hN hS (lv_sub hl [3, 5, 2, 1, 0] rfl)
        · have h := ite_f h hc
          refine lv_iconst (v := (1 : Int32)) hx hb dX6_leave_39 (by decide) ?_
          refine lv_goto (tgt := 44) hx hb dX6_leave_40 (by decide) ?_
          exact w44  a2 q3 q6 v8 (1 : Int32) Z h _ _ _ hI hN hS (lv_sub hl [3, 5, 2, 1, 0] rfl)
    · exact xg_thrr (k := 10) (vx_runV (As := [.int a2]) (rest := []) ⟨hx, hb, hml, hown, hts⟩ (mX6_bandAt l hfl D G A ad Z a2 (.inr x5) c4) (cwV 1 hts gX6_leave_X6_bandAt rfl rfl rfl (by decide +kernel) ⟨Nat.le_of_ble_eq_true rfl, Nat.le_of_ble_eq_true rfl⟩) (xg_preV hI hK hN hE hS rfl rfl (ci := 7) rfl) rfl rfl hl.1 rfl (lv_room (Nat.le_of_ble_eq_true rfl)) dX6_leave_8 ⟨Nat.le_of_ble_eq_true rfl, Nat.le_of_ble_eq_true rfl⟩) (congrArg Prod.fst (Option.some.inj h)).symm (congrArg Prod.snd (Option.some.inj h)).symm hexc hlocks hS (by decide) (by decide)
  · exact xg_thrr (k := 9) (vx_runV (As := [.int a1]) (rest := []) ⟨hx, hb, hml, hown, hts⟩ (mX6_playerAt l hfl D G A ad Z a1 (.inr x2) c1) (cwV 1 hts gX6_leave_X6_playerAt rfl rfl rfl (by decide +kernel) ⟨Nat.le_of_ble_eq_true rfl, Nat.le_of_ble_eq_true rfl⟩) (xg_preV hI hK hN hE hS rfl rfl (ci := 7) rfl) rfl rfl hl.1 rfl (lv_room (Nat.le_of_ble_eq_true rfl)) dX6_leave_2 ⟨Nat.le_of_ble_eq_true rfl, Nat.le_of_ble_eq_true rfl⟩) (congrArg Prod.fst (Option.some.inj h)).symm (congrArg Prod.snd (Option.some.inj h)).symm hexc hlocks hS (by decide) (by decide)
