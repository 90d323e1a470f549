def fX6_panAt_n (a1 : Int32) (Z : CZ) : Option (Nat) := cl1 (fJx4a65c_size_8abf5 0 Z) (fun v1 => cl1 (fX6_requireIndex_n a1 v1 Z) (fun _ => cl1 (fJx4a65c_get_915e3 0 a1 Z) (fun q4 => gd (cLv Z.2.2 5 q4) (some q4))))
def rmX6_panAt_n : Room := { frames := 4, cells := 0, slots := 0, locals := 94 }
set_option maxHeartbeats 4000000 in
set_option maxRecDepth 100000 in
theorem mX6_panAt_n (l : Launch) (D : va_G) (G : CGT) (A : Nat → Prop) (ad : Nat → Nat → Nat) (Z : CZ) (a1 : Int32) (rz : Nat) (h : fX6_panAt_n a1 Z = some rz) : Met l yX6_panAt wsX6_panAt rmX6_panAt_n (va_Pc [.ref (ad 0 0), .int a1] (cP D G A ad Z)) (cQr D G A ad 5 rz Z) 0 0 A := by
  refine Met.ofW (cc := cX6_panAt) (maxL := 2) (ret := some (.object "Panyard$Pan")) (by decide) rfl ?_
  intro p e s m args below meth c s₁ B hml hv
  obtain ⟨rfl, hI, hN, hK⟩ := hv
  have hx := B.exec
  have hb := B.bytes
  have hr := B.returns
  have hts := atoms_spec (ws := wsX6_panAt) B.pre
  have hown : s.vm.findClass RX6 = some m.cls := findClass_of_methodNamed B.named
  have hlocks := B.notSynchronized
  have iwsX60 : ∀ w ∈ wsX60, w ∈ wsX6_panAt := fun w h => List.mem_cons_of_mem _ (List.mem_append_left _ (List.mem_append_left _ (List.mem_append_right _ h)))
  have l0 := hts (.fieldLink RX6 10 "Panyard" "pans" "Ljava/util/ArrayList;") (List.mem_of_getElem? (i := 1) rfl)
  have l1 := hts (.classLink RX6 55 "Panyard$Pan") (List.mem_of_getElem? (i := 2) rfl)
  have hS : va_S A s.heap s.heap [] := va_S.rf
  have hl := lv_entry ([.ref (ad 0 0), .int a1]) (n := 2) (Nat.le_of_ble_eq_true rfl)
  rw [lg_entry_eq]
  generalize (lg_sl ([.ref (ad 0 0), .int a1]) ++ List.replicate (2 - (lg_sl ([.ref (ad 0 0), .int a1])).length) Slot.unset).toArray = ls at hl ⊢
  have hl : lv_has ls 2 [(0, .ref (ad 0 0)), (1, .int a1)] := hl
  unfold fX6_panAt_n at h
  refine lv_iload_n hx hb dX6_panAt_0 rfl (lv_at hl 1 rfl) ?_
  refine lv_aload_n hx hb dX6_panAt_1 rfl (lv_at hl 0 rfl) ?_
  refine cg_get (T := TX6) (N := 7) (ci := 7) hx hb hts iwsX60 hown hK hN rfl rfl rfl 0 (by decide) l0 rfl (v := .ref (ad 3 0)) rfl dX6_panAt_2 ?_
  obtain ⟨v1, c2, h⟩ := cl1_ok h
  refine cg_calli (va_runV (As := []) (rest := [.int a1]) ⟨hx, hb, hml, hown, hts⟩ (mJx4a65c_size_8abf5 l D G A ad Z 0 v1 c2) (cwV 0 hts gX6_panAt_Jx4a65c_size_8abf5 rfl rfl rfl (by decide +kernel) ⟨Nat.le_of_ble_eq_true rfl, Nat.le_of_ble_eq_true rfl⟩) (cg_preV hI hK hN rfl rfl (ci := 0) rfl) rfl rfl hl.1 rfl (lv_room (Nat.le_of_ble_eq_true rfl)) dX6_panAt_5 ⟨Nat.le_of_ble_eq_true rfl, Nat.le_of_ble_eq_true rfl⟩) hS (fun H locs hI hN hS => ?_)
  obtain ⟨_, c3, h⟩ := cl1_ok h
  refine cg_callv (va_runS (As := [.int a1, .int v1]) (rest := []) ⟨hx, hb, hml, hown, hts⟩ (mX6_requireIndex_n l D G A ad Z a1 v1 c3) (va_cwS 2 hts gX6_panAt_X6_requireIndex rfl rfl rfl (by decide +kernel) ⟨Nat.le_of_ble_eq_true rfl, Nat.le_of_ble_eq_true rfl⟩) (cg_preS hI hK hN) rfl rfl hl.1 rfl (lv_room (Nat.le_of_ble_eq_true rfl)) dX6_panAt_8 ⟨Nat.le_of_ble_eq_true rfl, Nat.le_of_ble_eq_true rfl⟩) hS (fun H locs hI hN hS => ?_)
  refine lv_aload_n hx hb dX6_panAt_11 rfl (lv_at hl 0 rfl) ?_
  refine cg_get (T := TX6) (N := 7) (ci := 7) hx hb hts iwsX60 hown hK hN rfl rfl rfl 0 (by decide) l0 rfl (v := .ref (ad 3 0)) rfl dX6_panAt_12 ?_
  refine lv_iload_n hx hb dX6_panAt_15 rfl (lv_at hl 1 rfl) ?_
  obtain ⟨q4, c5, h⟩ := cl1_ok h
  refine cg_callr (k := 5) (q := q4) (va_runV (As := [.int a1]) (rest := []) ⟨hx, hb, hml, hown, hts⟩ (mJx4a65c_get_915e3 l D G A ad Z 0 a1 q4 c5) (cwV 1 hts gX6_panAt_Jx4a65c_get_915e3 rfl rfl rfl (by decide +kernel) ⟨Nat.le_of_ble_eq_true rfl, Nat.le_of_ble_eq_true rfl⟩) (cg_preV hI hK hN rfl rfl (ci := 0) rfl) rfl rfl hl.1 rfl (lv_room (Nat.le_of_ble_eq_true rfl)) dX6_panAt_16 ⟨Nat.le_of_ble_eq_true rfl, Nat.le_of_ble_eq_true rfl⟩) hS (fun H locs hI hN hS => ?_)
  obtain ⟨g6, h⟩ := gd_ok h
  refine va_castS hx hb hown l1 (hK.1.1 2 _ rfl).2 (cg_recv hK hN g6 rfl (ci := 2) rfl) dX6_panAt_19 ?_
  exact W.aret hx hb hr (Or.inl ⟨_, rfl⟩) (Or.inr ⟨_, rfl⟩) (cg_endq h hI hK hN hS) hS.2.2 dX6_panAt_22
def fX6_requireRange_n_10 (Z : CZ) : Option (Unit) := none
def fX6_requireRange_n (a1 : Int32) (a2 : Int32) (a3 : Int32) (Z : CZ) : Option (Unit) := (if a1 < a2 then fX6_requireRange_n_10 Z else (if a1 ≤ a3 then some () else fX6_requireRange_n_10 Z))
def rmX6_requireRange_n : Room := { frames := 1, cells := 0, slots := 0, locals := 30 }
set_option maxHeartbeats 4000000 in
set_option maxRecDepth 100000 in
theorem mX6_requireRange_n (l : Launch) (D : va_G) (G : CGT) (A : Nat → Prop) (ad : Nat → Nat → Nat) (Z : CZ) (a1 : Int32) (a2 : Int32) (a3 : Int32) (h : fX6_requireRange_n a1 a2 a3 Z = some ()) : Met l yX6_requireRange wsX6_requireRange rmX6_requireRange_n (va_Pc [.int a1, .int a2, .int a3] (cP D G A ad Z)) (cQv D G A ad Z) 0 0 A := by
  refine Met.ofW (cc := cX6_requireRange) (maxL := 3) (ret := none) (by decide) rfl ?_
  intro p e s m args below meth c s₁ B hml hv
  obtain ⟨rfl, hI, hN, hK⟩ := hv
  have hx := B.exec
  have hb := B.bytes
  have hr := B.returns
  have hts := atoms_spec (ws := wsX6_requireRange) B.pre
  have hown : s.vm.findClass RX6 = some m.cls := findClass_of_methodNamed B.named
  have hlocks := B.notSynchronized
  have hS : va_S A s.heap s.heap [] := va_S.rf
  have hl := lv_entry ([.int a1, .int a2, .int a3]) (n := 3) (Nat.le_of_ble_eq_true rfl)
  rw [lg_entry_eq]
  generalize (lg_sl ([.int a1, .int a2, .int a3]) ++ List.replicate (3 - (lg_sl ([.int a1, .int a2, .int a3])).length) Slot.unset).toArray = ls at hl ⊢
  have hl : lv_has ls 3 [(0, .int a1), (1, .int a2), (2, .int a3)] := hl
  have w10 : fX6_requireRange_n_10 Z  = some () → cG p l e (headSpec wsX6_requireRange rmX6_requireRange_n).room s m (([.int a1, .int a2, .int a3] : List Value).toArray) below meth c (MQ below (cQv D G A ad Z) (([.int a1, .int a2, .int a3] : List Value).toArray) s 0 0 A) D G A ad 0 0 3 Z 10 [] [] := by
    intro   h H locs ls hI hN hS hl
    unfold fX6_requireRange_n_10 at h
    cases h
  unfold fX6_requireRange_n at h
  refine lv_iload_n hx hb dX6_requireRange_0 rfl (lv_at hl 0 rfl) ?_
  refine lv_iload_n hx hb dX6_requireRange_1 rfl (lv_at hl 1 rfl) ?_
  refine lv_icmp_lt (tgt := 10) hx hb dX6_requireRange_2 (by decide) (fun hc => ?_) (fun hc => ?_)
  · have h := ite_t h hc
    exact w10   h _ _ _ hI hN hS (lv_sub hl [] rfl)
  · have h := ite_f h hc
    refine lv_iload_n hx hb dX6_requireRange_5 rfl (lv_at hl 0 rfl) ?_
    refine lv_iload_n hx hb dX6_requireRange_6 rfl (lv_at hl 2 rfl) ?_
    refine lv_icmp_le (tgt := 21) hx hb dX6_requireRange_7 (by decide) (fun hc => ?_) (fun hc => ?_)
    · have h := ite_t h hc
      exact W.vret hx hb hr (cg_endvr hI hK hN hS) hS.2.2 dX6_requireRange_21
    · have h := ite_f h hc
      exact w10   h _ _ _ hI hN hS (lv_sub hl [] rfl)
def fX6_requireState_n (a1 : Int32) (Z : CZ) : Option (Unit) := (if a1 = 0 then none else some ())
def rmX6_requireState_n : Room := { frames := 1, cells := 0, slots := 0, locals := 30 }
set_option maxHeartbeats 4000000 in
set_option maxRecDepth 100000 in
theorem mX6_requireState_n (l : Launch) (D : va_G) (G : CGT) (A : Nat → Prop) (ad : Nat → Nat → Nat) (Z : CZ) (a1 : Int32) (h : fX6_requireState_n a1 Z = some ()) : Met l yX6_requireState wsX6_requireState rmX6_requireState_n (va_Pc [.int a1] (cP D G A ad Z)) (cQv D G A ad Z) 0 0 A := by
  refine Met.ofW (cc := cX6_requireState) (maxL := 1) (ret := none) (by decide) rfl ?_
  intro p e s m args below meth c s₁ B hml hv
  obtain ⟨rfl, hI, hN, hK⟩ := hv
  have hx := B.exec
  have hb := B.bytes
  have hr := B.returns
  have hts := atoms_spec (ws := wsX6_requireState) B.pre
  have hown : s.vm.findClass RX6 = some m.cls := findClass_of_methodNamed B.named
  have hlocks := B.notSynchronized
  have hS : va_S A s.heap s.heap [] := va_S.rf
  have hl := lv_entry ([.int a1]) (n := 1) (Nat.le_of_ble_eq_true rfl)
  rw [lg_entry_eq]
  generalize (lg_sl ([.int a1]) ++ List.replicate (1 - (lg_sl ([.int a1])).length) Slot.unset).toArray = ls at hl ⊢
  have hl : lv_has ls 1 [(0, .int a1)] := hl
  unfold fX6_requireState_n at h
  refine lv_iload_n hx hb dX6_requireState_0 rfl (lv_at hl 0 rfl) ?_
  refine lv_if_ne (tgt := 15) hx hb dX6_requireState_1 (by decide) (fun hc => ?_) (fun hc => ?_)
  · have h := ite_f h hc
    exact W.vret hx hb hr (cg_endvr hI hK hN hS) hS.2.2 dX6_requireState_15
  · have h := ite_t h hc
    cases h
def fX6_blow_n (a1 : Int32) (a2 : Int32) (a3 : Int32) (a4 : Int32) (Z : CZ) : Option (Int32 × CZ) := cl1 (fX6_panAt_n a1 Z) (fun q1 => cl1 (fX6_requireIndex_n a2 (4 : Int32) Z) (fun _ => cl1 (fX6_requireRange_n a3 (1 : Int32) (4 : Int32) Z) (fun _ => gd (cLv Z.2.2 5 q1) (cl1 (fX1_bears q1 a2 a4 Z) (fun v6 => cl1 (fX6_requireState_n v6 Z) (fun _ => cl1 (fX1_beat q1 a2 a3 a4 Z) (fun Z9 => gd (cLv Z9.2.2 5 q1) (gd (gin a2 4) (some ((Z9.1 6 q1 (Int32.toNatClampNeg a2)), Z9))))))))))
def rmX6_blow_n : Room := { frames := 5, cells := 0, slots := 0, locals := 115 }
set_option maxHeartbeats 4000000 in
set_option maxRecDepth 100000 in
theorem mX6_blow_n (l : Launch) (D : va_G) (G : CGT) (A : Nat → Prop) (ad : Nat → Nat → Nat) (Z : CZ) (a1 : Int32) (a2 : Int32) (a3 : Int32) (a4 : Int32) (rz : Int32) (Zz : CZ) (h : fX6_blow_n a1 a2 a3 a4 Z = some (rz, Zz)) : Met l yX6_blow wsX6_blow rmX6_blow_n (va_Pc [.ref (ad 0 0), .int a1, .int a2, .int a3, .int a4] (cP D G A ad Z)) (cQi D G A ad rz Zz) 0 0 A := by
  refine Met.ofW (cc := cX6_blow) (maxL := 6) (ret := some .int) (by decide) rfl ?_
  intro p e s m args below meth c s₁ B hml hv
  obtain ⟨rfl, hI, hN, hK⟩ := hv
  have hx := B.exec
  have hb := B.bytes
  have hr := B.returns
  have hts := atoms_spec (ws := wsX6_blow) B.pre
  have hown : s.vm.findClass RX6 = some m.cls := findClass_of_methodNamed B.named
  have hlocks := B.notSynchronized
  have iwsX10 : ∀ w ∈ wsX10, w ∈ wsX6_blow := fun w h => List.mem_cons_of_mem _ (List.mem_append_left _ (List.mem_append_left _ (List.mem_append_left _ (List.mem_append_left _ (List.mem_append_left _ (List.mem_append_right _ h))))))
  have l0 := hts (.fieldLink RX6 60 "Panyard$Pan" "tones" "[I") (List.mem_of_getElem? (i := 1) rfl)
  have hS : va_S A s.heap s.heap [] := va_S.rf
  have hl := lv_entry ([.ref (ad 0 0), .int a1, .int a2, .int a3, .int a4]) (n := 6) (Nat.le_of_ble_eq_true rfl)
  rw [lg_entry_eq]
  generalize (lg_sl ([.ref (ad 0 0), .int a1, .int a2, .int a3, .int a4]) ++ List.replicate (6 - (lg_sl ([.ref (ad 0 0), .int a1, .int a2, .int a3, .int a4])).length) Slot.unset).toArray = ls at hl ⊢
  have hl : lv_has ls 6 [(0, .ref (ad 0 0)), (1, .int a1), (2, .int a2), (3, .int a3), (4, .int a4)] := hl
  unfold fX6_blow_n at h
  refine lv_aload_n hx hb dX6_blow_0 rfl (lv_at hl 0 rfl) ?_
  refine lv_iload_n hx hb dX6_blow_1 rfl (lv_at hl 1 rfl) ?_
  obtain ⟨q1, c2, h⟩ := cl1_ok h
  refine cg_callr (k := 5) (q := q1) (va_runV (As := [.int a1]) (rest := []) ⟨hx, hb, hml, hown, hts⟩ (mX6_panAt_n l D G A ad Z a1 q1 c2) (cwV 1 hts gX6_blow_X6_panAt rfl rfl rfl (by decide +kernel) ⟨Nat.le_of_ble_eq_true rfl, Nat.le_of_ble_eq_true rfl⟩) (cg_preV hI hK hN rfl rfl (ci := 7) rfl) rfl rfl hl.1 rfl (lv_room (Nat.le_of_ble_eq_true rfl)) dX6_blow_2 ⟨Nat.le_of_ble_eq_true rfl, Nat.le_of_ble_eq_true rfl⟩) hS (fun H locs hI hN hS => ?_)
  refine lv_astore (lv' := [(5, .ref (ad 5 q1)), (0, .ref (ad 0 0)), (1, .int a1), (2, .int a2), (3, .int a3), (4, .int a4)]) hx hb dX6_blow_5 hl (by decide) rfl (fun ls hl => ?_)
  refine lv_iload_n hx hb dX6_blow_7 rfl (lv_at hl 3 rfl) ?_
  refine lv_iconst (v := (4 : Int32)) hx hb dX6_blow_8 (by decide) ?_
  obtain ⟨_, c3, h⟩ := cl1_ok h
  refine cg_callv (va_runS (As := [.int a2, .int (4 : Int32)]) (rest := []) ⟨hx, hb, hml, hown, hts⟩ (mX6_requireIndex_n l D G A ad Z a2 (4 : Int32) c3) (va_cwS 2 hts gX6_blow_X6_requireIndex rfl rfl rfl (by decide +kernel) ⟨Nat.le_of_ble_eq_true rfl, Nat.le_of_ble_eq_true rfl⟩) (cg_preS hI hK hN) rfl rfl hl.1 rfl (lv_room (Nat.le_of_ble_eq_true rfl)) dX6_blow_9 ⟨Nat.le_of_ble_eq_true rfl, Nat.le_of_ble_eq_true rfl⟩) hS (fun H locs hI hN hS => ?_)
  refine lv_iload_n hx hb dX6_blow_12 rfl (lv_at hl 4 rfl) ?_
  refine lv_iconst (v := (1 : Int32)) hx hb dX6_blow_13 (by decide) ?_
  refine lv_iconst (v := (4 : Int32)) hx hb dX6_blow_14 (by decide) ?_
  obtain ⟨_, c4, h⟩ := cl1_ok h
  refine cg_callv (va_runS (As := [.int a3, .int (1 : Int32), .int (4 : Int32)]) (rest := []) ⟨hx, hb, hml, hown, hts⟩ (mX6_requireRange_n l D G A ad Z a3 (1 : Int32) (4 : Int32) c4) (va_cwS 3 hts gX6_blow_X6_requireRange rfl rfl rfl (by decide +kernel) ⟨Nat.le_of_ble_eq_true rfl, Nat.le_of_ble_eq_true rfl⟩) (cg_preS hI hK hN) rfl rfl hl.1 rfl (lv_room (Nat.le_of_ble_eq_true rfl)) dX6_blow_15 ⟨Nat.le_of_ble_eq_true rfl, Nat.le_of_ble_eq_true rfl⟩) hS (fun H locs hI hN hS => ?_)
  refine lv_aload hx hb dX6_blow_18 (lv_at hl 0 rfl) ?_
  refine lv_iload_n hx hb dX6_blow_20 rfl (lv_at hl 3 rfl) ?_
  refine lv_iload hx hb dX6_blow_21 (lv_at hl 5 rfl) ?_
  obtain ⟨g5, h⟩ := gd_ok h
  obtain ⟨v6, c7, h⟩ := cl1_ok h
  refine cg_calli (va_runV (As := [.int a2, .int a4]) (rest := []) ⟨hx, hb, hml, hown, hts⟩ (mX1_bears l D G A ad Z q1 a2 a4 v6 c7) (cwV 2 hts gX6_blow_X1_bears rfl rfl rfl (by decide +kernel) ⟨Nat.le_of_ble_eq_true rfl, Nat.le_of_ble_eq_true rfl⟩) (cg_preV hI hK hN g5 rfl (ci := 2) rfl) rfl rfl hl.1 rfl (lv_room (Nat.le_of_ble_eq_true rfl)) dX6_blow_23 ⟨Nat.le_of_ble_eq_true rfl, Nat.le_of_ble_eq_true rfl⟩) hS (fun H locs hI hN hS => ?_)
  obtain ⟨_, c8, h⟩ := cl1_ok h
  refine cg_callv (va_runS (As := [.int v6]) (rest := []) ⟨hx, hb, hml, hown, hts⟩ (mX6_requireState_n l D G A ad Z v6 c8) (va_cwS 1 hts gX6_blow_X6_requireState rfl rfl rfl (by decide +kernel) ⟨Nat.le_of_ble_eq_true rfl, Nat.le_of_ble_eq_true rfl⟩) (cg_preS hI hK hN) rfl rfl hl.1 rfl (lv_room (Nat.le_of_ble_eq_true rfl)) dX6_blow_26 ⟨Nat.le_of_ble_eq_true rfl, Nat.le_of_ble_eq_true rfl⟩) hS (fun H locs hI hN hS => ?_)
  refine lv_aload hx hb dX6_blow_29 (lv_at hl 0 rfl) ?_
  refine lv_iload_n hx hb dX6_blow_31 rfl (lv_at hl 3 rfl) ?_
  refine lv_iload_n hx hb dX6_blow_32 rfl (lv_at hl 4 rfl) ?_
  refine lv_iload hx hb dX6_blow_33 (lv_at hl 5 rfl) ?_
  obtain ⟨Z9, c10, h⟩ := cl1_ok h
  refine cg_callv (va_runV (As := [.int a2, .int a3, .int a4]) (rest := []) ⟨hx, hb, hml, hown, hts⟩ (mX1_beat l D G A ad Z q1 a2 a3 a4 Z9 c10) (cwV 3 hts gX6_blow_X1_beat rfl rfl rfl (by decide +kernel) ⟨Nat.le_of_ble_eq_true rfl, Nat.le_of_ble_eq_true rfl⟩) (cg_preV hI hK hN g5 rfl (ci := 2) rfl) rfl rfl hl.1 rfl (lv_room (Nat.le_of_ble_eq_true rfl)) dX6_blow_35 ⟨Nat.le_of_ble_eq_true rfl, Nat.le_of_ble_eq_true rfl⟩) hS (fun H locs hI hN hS => ?_)
  refine lv_aload hx hb dX6_blow_38 (lv_at hl 0 rfl) ?_
  obtain ⟨g11, h⟩ := gd_ok h
  refine cg_get (T := TX1) (N := 5) (ci := 2) hx hb hts iwsX10 hown hK hN g11 rfl rfl 1 (by decide) l0 rfl (v := .ref (ad 6 q1)) rfl dX6_blow_40 ?_
  refine lv_iload_n hx hb dX6_blow_43 rfl (lv_at hl 3 rfl) ?_
  obtain ⟨g12, h⟩ := gd_ok h
  refine cg_ild hx hb hK hN g11 rfl (gin_ok g12) dX6_blow_44 ?_
  exact W.iret hx hb hr (cg_endi h hI hK hN hS) hS.2.2 dX6_blow_45
def fX6_heat_n (a1 : Int32) (Z : CZ) : Option (Int32 × CZ) := cl1 (fX6_requireRange_n a1 (0 : Int32) (15 : Int32) Z) (fun _ => bnd (Z.1 0 0 5) (fun v2 => bnd (cuI Z 0 0 (upd (Z.1 0 0) 5 a1)) (fun Z3 => some (v2, Z3))))
def rmX6_heat_n : Room := { frames := 2, cells := 0, slots := 0, locals := 52 }
set_option maxHeartbeats 4000000 in
set_option maxRecDepth 100000 in
theorem mX6_heat_n (l : Launch) (D : va_G) (G : CGT) (A : Nat → Prop) (ad : Nat → Nat → Nat) (Z : CZ) (a1 : Int32) (rz : Int32) (Zz : CZ) (h : fX6_heat_n a1 Z = some (rz, Zz)) : Met l yX6_heat wsX6_heat rmX6_heat_n (va_Pc [.ref (ad 0 0), .int a1] (cP D G A ad Z)) (cQi D G A ad rz Zz) 0 0 A := by
  refine Met.ofW (cc := cX6_heat) (maxL := 3) (ret := some .int) (by decide) rfl ?_
  intro p e s m args below meth c s₁ B hml hv
  obtain ⟨rfl, hI, hN, hK⟩ := hv
  have hx := B.exec
  have hb := B.bytes
  have hr := B.returns
  have hts := atoms_spec (ws := wsX6_heat) B.pre
  have hown : s.vm.findClass RX6 = some m.cls := findClass_of_methodNamed B.named
  have hlocks := B.notSynchronized
  have iwsX60 : ∀ w ∈ wsX60, w ∈ wsX6_heat := fun w h => List.mem_cons_of_mem _ (List.mem_append_left _ (List.mem_append_right _ h))
  have l0 := hts (.fieldLink RX6 84 "Panyard" "degreesNow" "I") (List.mem_of_getElem? (i := 1) rfl)
  have hS : va_S A s.heap s.heap [] := va_S.rf
  have hl := lv_entry ([.ref (ad 0 0), .int a1]) (n := 3) (Nat.le_of_ble_eq_true rfl)
  rw [lg_entry_eq]
  generalize (lg_sl ([.ref (ad 0 0), .int a1]) ++ List.replicate (3 - (lg_sl ([.ref (ad 0 0), .int a1])).length) Slot.unset).toArray = ls at hl ⊢
  have hl : lv_has ls 3 [(0, .ref (ad 0 0)), (1, .int a1)] := hl
  unfold fX6_heat_n at h
  refine lv_iload_n hx hb dX6_heat_0 rfl (lv_at hl 1 rfl) ?_
  refine lv_iconst (v := (0 : Int32)) hx hb dX6_heat_1 (by decide) ?_
  refine lv_bipush (v := (15 : Int32)) hx hb dX6_heat_2 (by decide) ?_
  obtain ⟨_, c1, h⟩ := cl1_ok h
  refine cg_callv (va_runS (As := [.int a1, .int (0 : Int32), .int (15 : Int32)]) (rest := []) ⟨hx, hb, hml, hown, hts⟩ (mX6_requireRange_n l D G A ad Z a1 (0 : Int32) (15 : Int32) c1) (va_cwS 3 hts gX6_heat_X6_requireRange rfl rfl rfl (by decide +kernel) ⟨Nat.le_of_ble_eq_true rfl, Nat.le_of_ble_eq_true rfl⟩) (cg_preS hI hK hN) rfl rfl hl.1 rfl (lv_room (Nat.le_of_ble_eq_true rfl)) dX6_heat_4 ⟨Nat.le_of_ble_eq_true rfl, Nat.le_of_ble_eq_true rfl⟩) hS (fun H locs hI hN hS => ?_)
  refine lv_aload_n hx hb dX6_heat_7 rfl (lv_at hl 0 rfl) ?_
  refine cg_get (T := TX6) (N := 7) (ci := 7) hx hb hts iwsX60 hown hK hN rfl rfl rfl 5 (by decide) l0 rfl (v := .int (Z.1 0 0 5)) rfl dX6_heat_8 ?_
  refine lv_topi (fun v2 ev2 => ?_)
  have h := bnd_ok h ev2
  refine lv_istore_n (lv' := [(2, .int v2), (0, .ref (ad 0 0)), (1, .int a1)]) hx hb dX6_heat_11 rfl hl (by decide) rfl (fun ls hl => ?_)
  refine lv_aload_n hx hb dX6_heat_12 rfl (lv_at hl 1 rfl) ?_
  refine lv_iload_n hx hb dX6_heat_13 rfl (lv_at hl 2 rfl) ?_
  obtain ⟨Z3, eZ3⟩ : ∃ y : CZ, y = (cuI Z 0 0 (upd (Z.1 0 0) 5 a1)) := ⟨_, rfl⟩
  have h := bnd_ok h eZ3
  refine cg_put (ty := .int) (T := TX6) (N := 7) (ci := 7) hx hb hts iwsX60 tyX6_ok nmX6 hown hI hK hN hS rfl rfl rfl 5 (by decide) (Nat.le_of_ble_eq_true rfl) l0 rfl rfl (by decide +kernel) rfl rfl rfl dX6_heat_14 eZ3 (fun H locs hI hN hS => ?_)
  refine lv_iload_n hx hb dX6_heat_17 rfl (lv_at hl 0 rfl) ?_
  exact W.iret hx hb hr (cg_endi h hI hK hN hS) hS.2.2 dX6_heat_18
def fX6_field_n_92 (Z : CZ) (t0 : Int32) : Option (Int32) := some t0
def fX6_field_n_107 (Z : CZ) (t0 : Int32) : Option (Int32) := some t0
def fX6_field_n (a1 : Int32) (a2 : Int32) (a3 : Int32) (Z : CZ) : Option (Int32) := cl1 (fX6_panAt_n a1 Z) (fun q1 => cl1 (fX6_requireIndex_n a2 (4 : Int32) Z) (fun _ => cl1 (fX6_requireRange_n a3 (0 : Int32) (4 : Int32) Z) (fun _ => (if a3 = (0 : Int32) then gd (cLv Z.2.2 5 q1) (gd (gin a2 4) (some (Z.1 6 q1 (Int32.toNatClampNeg a2)))) else (if a3 = (1 : Int32) then gd (cLv Z.2.2 5 q1) (gd (gin a2 4) (some ((Z.1 6 q1 (Int32.toNatClampNeg a2)) - (Z.1 0 0 5)))) else (if a3 = (2 : Int32) then gd (cLv Z.2.2 5 q1) (gd (gin a2 4) (some (Z.1 7 q1 (Int32.toNatClampNeg a2)))) else (if a3 = (3 : Int32) then gd (cLv Z.2.2 5 q1) (gd (gin a2 4) ((if (Z.1 8 q1 (Int32.toNatClampNeg a2)) = 0 then fX6_field_n_92 Z (0 : Int32) else fX6_field_n_92 Z (1 : Int32)))) else gd (cLv Z.2.2 5 q1) (cl1 (fX1_isCracked q1 a2 Z) (fun v14 => (if v14 = 0 then fX6_field_n_107 Z (0 : Int32) else fX6_field_n_107 Z (1 : Int32)))))))))))
def rmX6_field_n : Room := { frames := 5, cells := 0, slots := 0, locals := 115 }
set_option maxHeartbeats 4000000 in
set_option maxRecDepth 100000 in
theorem mX6_field_n (l : Launch) (D : va_G) (G : CGT) (A : Nat → Prop) (ad : Nat → Nat → Nat) (Z : CZ) (a1 : Int32) (a2 : Int32) (a3 : Int32) (rz : Int32) (h : fX6_field_n a1 a2 a3 Z = some rz) : Met l yX6_field wsX6_field rmX6_field_n (va_Pc [.ref (ad 0 0), .int a1, .int a2, .int a3] (cP D G A ad Z)) (cQi D G A ad rz Z) 0 0 A := by
  refine Met.ofW (cc := cX6_field) (maxL := 5) (ret := some .int) (by decide) rfl ?_
  intro p e s m args below meth c s₁ B hml hv
  obtain ⟨rfl, hI, hN, hK⟩ := hv
  have hx := B.exec
  have hb := B.bytes
  have hr := B.returns
  have hts := atoms_spec (ws := wsX6_field) B.pre
  have hown : s.vm.findClass RX6 = some m.cls := findClass_of_methodNamed B.named
  have hlocks := B.notSynchronized
  have iwsX10 : ∀ w ∈ wsX10, w ∈ wsX6_field := fun w h => List.mem_cons_of_mem _ (List.mem_append_left _ (List.mem_append_left _ (List.mem_append_left _ (List.mem_append_left _ (List.mem_append_right _ h)))))
  have iwsX60 : ∀ w ∈ wsX60, w ∈ wsX6_field := fun w h => List.mem_cons_of_mem _ (List.mem_append_left _ (List.mem_append_left _ (List.mem_append_left _ (List.mem_append_right _ h))))
  have l0 := hts (.fieldLink RX6 60 "Panyard$Pan" "tones" "[I") (List.mem_of_getElem? (i := 1) rfl)
  have l1 := hts (.fieldLink RX6 84 "Panyard" "degreesNow" "I") (List.mem_of_getElem? (i := 2) rfl)
  have l2 := hts (.fieldLink RX6 87 "Panyard$Pan" "blows" "[I") (List.mem_of_getElem? (i := 3) rfl)
  have l3 := hts (.fieldLink RX6 90 "Panyard$Pan" "sunk" "[Z") (List.mem_of_getElem? (i := 4) rfl)
  have hS : va_S A s.heap s.heap [] := va_S.rf
  have hl := lv_entry ([.ref (ad 0 0), .int a1, .int a2, .int a3]) (n := 5) (Nat.le_of_ble_eq_true rfl)
  rw [lg_entry_eq]
  generalize (lg_sl ([.ref (ad 0 0), .int a1, .int a2, .int a3]) ++ List.replicate (5 - (lg_sl ([.ref (ad 0 0), .int a1, .int a2, .int a3])).length) Slot.unset).toArray = ls at hl ⊢
  have hl : lv_has ls 5 [(0, .ref (ad 0 0)), (1, .int a1), (2, .int a2), (3, .int a3)] := hl
  have w92 : ∀ (t0 : Int32), fX6_field_n_92 Z t0 = some rz → cG p l e (headSpec wsX6_field rmX6_field_n).room s m (([.ref (ad 0 0), .int a1, .int a2, .int a3] : List Value).toArray) below meth c (MQ below (cQi D G A ad rz Z) (([.ref (ad 0 0), .int a1, .int a2, .int a3] : List Value).toArray) s 0 0 A) D G A ad 0 0 5 Z 92 [] [.int t0] := by
    intro  t0 h H locs ls hI hN hS hl
    unfold fX6_field_n_92 at h
    exact W.iret hx hb hr (cg_endr h hI hK hN hS) hS.2.2 dX6_field_92
  have w107 : ∀ (t0 : Int32), fX6_field_n_107 Z t0 = some rz → cG p l e (headSpec wsX6_field rmX6_field_n).room s m (([.ref (ad 0 0), .int a1, .int a2, .int a3] : List Value).toArray) below meth c (MQ below (cQi D G A ad rz Z) (([.ref (ad 0 0), .int a1, .int a2, .int a3] : List Value).toArray) s 0 0 A) D G A ad 0 0 5 Z 107 [] [.int t0] := by
    intro  t0 h H locs ls hI hN hS hl
    unfold fX6_field_n_107 at h
    exact W.iret hx hb hr (cg_endr h hI hK hN hS) hS.2.2 dX6_field_107
  unfold fX6_field_n at h
  refine lv_aload_n hx hb dX6_field_0 rfl (lv_at hl 0 rfl) ?_
  refine lv_iload_n hx hb dX6_field_1 rfl (lv_at hl 1 rfl) ?_
  obtain ⟨q1, c2, h⟩ := cl1_ok h
  refine cg_callr (k := 5) (q := q1) (va_runV (As := [.int a1]) (rest := []) ⟨hx, hb, hml, hown, hts⟩ (mX6_panAt_n l D G A ad Z a1 q1 c2) (cwV 1 hts gX6_field_X6_panAt rfl rfl rfl (by decide +kernel) ⟨Nat.le_of_ble_eq_true rfl, Nat.le_of_ble_eq_true rfl⟩) (cg_preV hI hK hN rfl rfl (ci := 7) rfl) rfl rfl hl.1 rfl (lv_room (Nat.le_of_ble_eq_true rfl)) dX6_field_2 ⟨Nat.le_of_ble_eq_true rfl, Nat.le_of_ble_eq_true rfl⟩) hS (fun H locs hI hN hS => ?_)
  refine lv_astore (lv' := [(4, .ref (ad 5 q1)), (0, .ref (ad 0 0)), (1, .int a1), (2, .int a2), (3, .int a3)]) hx hb dX6_field_5 hl (by decide) rfl (fun ls hl => ?_)
  refine lv_iload_n hx hb dX6_field_7 rfl (lv_at hl 3 rfl) ?_
  refine lv_iconst (v := (4 : Int32)) hx hb dX6_field_8 (by decide) ?_
  obtain ⟨_, c3, h⟩ := cl1_ok h
  refine cg_callv (va_runS (As := [.int a2, .int (4 : Int32)]) (rest := []) ⟨hx, hb, hml, hown, hts⟩ (mX6_requireIndex_n l D G A ad Z a2 (4 : Int32) c3) (va_cwS 2 hts gX6_field_X6_requireIndex rfl rfl rfl (by decide +kernel) ⟨Nat.le_of_ble_eq_true rfl, Nat.le_of_ble_eq_true rfl⟩) (cg_preS hI hK hN) rfl rfl hl.1 rfl (lv_room (Nat.le_of_ble_eq_true rfl)) dX6_field_9 ⟨Nat.le_of_ble_eq_true rfl, Nat.le_of_ble_eq_true rfl⟩) hS (fun H locs hI hN hS => ?_)
  refine lv_iload_n hx hb dX6_field_12 rfl (lv_at hl 4 rfl) ?_
  refine lv_iconst (v := (0 : Int32)) hx hb dX6_field_13 (by decide) ?_
  refine lv_iconst (v := (4 : Int32)) hx hb dX6_field_14 (by decide) ?_
  obtain ⟨_, c4, h⟩ := cl1_ok h
  refine cg_callv (va_runS (As := [.int a3, .int (0 : Int32), .int (4 : Int32)]) (rest := []) ⟨hx, hb, hml, hown, hts⟩ (mX6_requireRange_n l D G A ad Z a3 (0 : Int32) (4 : Int32) c4) (va_cwS 3 hts gX6_field_X6_requireRange rfl rfl rfl (by decide +kernel) ⟨Nat.le_of_ble_eq_true rfl, Nat.le_of_ble_eq_true rfl⟩) (cg_preS hI hK hN) rfl rfl hl.1 rfl (lv_room (Nat.le_of_ble_eq_true rfl)) dX6_field_15 ⟨Nat.le_of_ble_eq_true rfl, Nat.le_of_ble_eq_true rfl⟩) hS (fun H locs hI hN hS => ?_)
  refine lv_iload_n hx hb dX6_field_18 rfl (lv_at hl 4 rfl) ?_
  by_cases hs0 : a3 = (0 : Int32)
  · have h := ite_t h hs0
    refine lv_tableIn (tgt := 48) hx hb dX6_field_19 (by rw [hs0]; decide) (by rw [hs0]; decide) (by rw [hs0]; rfl) (by decide) ?_
    refine lv_aload hx hb dX6_field_48 (lv_at hl 0 rfl) ?_
    obtain ⟨g5, h⟩ := gd_ok h
    refine cg_get (T := TX1) (N := 5) (ci := 2) hx hb hts iwsX10 hown hK hN g5 rfl rfl 1 (by decide) l0 rfl (v := .ref (ad 6 q1)) rfl dX6_field_50 ?_
    refine lv_iload_n hx hb dX6_field_53 rfl (lv_at hl 3 rfl) ?_
    obtain ⟨g6, h⟩ := gd_ok h
    refine cg_ild hx hb hK hN g5 rfl (gin_ok g6) dX6_field_54 ?_
    exact W.iret hx hb hr (cg_endr h hI hK hN hS) hS.2.2 dX6_field_55
  · have h := ite_f h hs0
    by_cases hs1 : a3 = (1 : Int32)
    · have h := ite_t h hs1
      refine lv_tableIn (tgt := 56) hx hb dX6_field_19 (by rw [hs1]; decide) (by rw [hs1]; decide) (by rw [hs1]; rfl) (by decide) ?_
      refine lv_aload hx hb dX6_field_56 (lv_at hl 0 rfl) ?_
      obtain ⟨g7, h⟩ := gd_ok h
      refine cg_get (T := TX1) (N := 5) (ci := 2) hx hb hts iwsX10 hown hK hN g7 rfl rfl 1 (by decide) l0 rfl (v := .ref (ad 6 q1)) rfl dX6_field_58 ?_
      refine lv_iload_n hx hb dX6_field_61 rfl (lv_at hl 3 rfl) ?_
      obtain ⟨g8, h⟩ := gd_ok h
      refine cg_ild hx hb hK hN g7 rfl (gin_ok g8) dX6_field_62 ?_
      refine lv_aload_n hx hb dX6_field_63 rfl (lv_at hl 1 rfl) ?_
      refine cg_get (T := TX6) (N := 7) (ci := 7) hx hb hts iwsX60 hown hK hN rfl rfl rfl 5 (by decide) l1 rfl (v := .int (Z.1 0 0 5)) rfl dX6_field_64 ?_
      refine lv_isub hx hb dX6_field_67 ?_
      exact W.iret hx hb hr (cg_endr h hI hK hN hS) hS.2.2 dX6_field_68
    · have h := ite_f h hs1
      by_cases hs2 : a3 = (2 : Int32)
      · have h := ite_t h hs2
        refine lv_tableIn (tgt := 69) hx hb dX6_field_19 (by rw [hs2]; decide) (by rw [hs2]; decide) (by rw [hs2]; rfl) (by decide) ?_
        refine lv_aload hx hb dX6_field_69 (lv_at hl 0 rfl) ?_
        obtain ⟨g9, h⟩ := gd_ok h
        refine cg_get (T := TX1) (N := 5) (ci := 2) hx hb hts iwsX10 hown hK hN g9 rfl rfl 2 (by decide) l2 rfl (v := .ref (ad 7 q1)) rfl dX6_field_71 ?_
        refine lv_iload_n hx hb dX6_field_74 rfl (lv_at hl 3 rfl) ?_
        obtain ⟨g10, h⟩ := gd_ok h
        refine cg_ild hx hb hK hN g9 rfl (gin_ok g10) dX6_field_75 ?_
        exact W.iret hx hb hr (cg_endr h hI hK hN hS) hS.2.2 dX6_field_76
      · have h := ite_f h hs2
        by_cases hs3 : a3 = (3 : Int32)
        · have h := ite_t h hs3
          refine lv_tableIn (tgt := 77) hx hb dX6_field_19 (by rw [hs3]; decide) (by rw [hs3]; decide) (by rw [hs3]; rfl) (by decide) ?_
          refine lv_aload hx hb dX6_field_77 (lv_at hl 0 rfl) ?_
          obtain ⟨g11, h⟩ := gd_ok h
          refine cg_get (T := TX1) (N := 5) (ci := 2) hx hb hts iwsX10 hown hK hN g11 rfl rfl 3 (by decide) l3 rfl (v := .ref (ad 8 q1)) rfl dX6_field_79 ?_
          refine lv_iload_n hx hb dX6_field_82 rfl (lv_at hl 3 rfl) ?_
          obtain ⟨g12, h⟩ := gd_ok h
          refine cg_zld hx hb hK hN g11 rfl (gin_ok g12) dX6_field_83 ?_
          refine lv_if_eq (tgt := 91) hx hb dX6_field_84 (by decide) (fun hc => ?_) (fun hc => ?_)
          · have h := ite_t h hc
            refine lv_iconst (v := (0 : Int32)) hx hb dX6_field_91 (by decide) ?_
            exact w92  (0 : Int32) h _ _ _ hI hN hS (lv_sub hl [] rfl)
          · have h := ite_f h hc
            refine lv_iconst (v := (1 : Int32)) hx hb dX6_field_87 (by decide) ?_
            refine lv_goto (tgt := 92) hx hb dX6_field_88 (by decide) ?_
            exact w92  (1 : Int32) h _ _ _ hI hN hS (lv_sub hl [] rfl)
        · have h := ite_f h hs3
          have ht0 := ne_toInt (0 : Int32) (n := 0) (by decide) hs0
          have ht1 := ne_toInt (1 : Int32) (n := 1) (by decide) hs1
          have ht2 := ne_toInt (2 : Int32) (n := 2) (by decide) hs2
          have ht3 := ne_toInt (3 : Int32) (n := 3) (by decide) hs3
          refine lv_tableOut (tgt := 93) hx hb dX6_field_19 (by omega) (by decide) ?_
          refine lv_aload hx hb dX6_field_93 (lv_at hl 0 rfl) ?_
          refine lv_iload_n hx hb dX6_field_95 rfl (lv_at hl 3 rfl) ?_
          obtain ⟨g13, h⟩ := gd_ok h
          obtain ⟨v14, c15, h⟩ := cl1_ok h
          refine cg_calli (va_runV (As := [.int a2]) (rest := []) ⟨hx, hb, hml, hown, hts⟩ (mX1_isCracked l D G A ad Z q1 a2 v14 c15) (cwV 1 hts gX6_field_X1_isCracked rfl rfl rfl (by decide +kernel) ⟨Nat.le_of_ble_eq_true rfl, Nat.le_of_ble_eq_true rfl⟩) (cg_preV hI hK hN g13 rfl (ci := 2) rfl) rfl rfl hl.1 rfl (lv_room (Nat.le_of_ble_eq_true rfl)) dX6_field_96 ⟨Nat.le_of_ble_eq_true rfl, Nat.le_of_ble_eq_true rfl⟩) hS (fun H locs hI hN hS => ?_)
          refine lv_if_eq (tgt := 106) hx hb dX6_field_99 (by decide) (fun hc => ?_) (fun hc => ?_)
          · have h := ite_t h hc
            refine lv_iconst (v := (0 : Int32)) hx hb dX6_field_106 (by decide) ?_
            exact w107  (0 : Int32) h _ _ _ hI hN hS (lv_sub hl [] rfl)
          · have h := ite_f h hc
            refine lv_iconst (v := (1 : Int32)) hx hb dX6_field_102 (by decide) ?_
            refine lv_goto (tgt := 107) hx hb dX6_field_103 (by decide) ?_
            exact w107  (1 : Int32) h _ _ _ hI hN hS (lv_sub hl [] rfl)
def fX6_isInTune_n (a1 : Int32) (Z : CZ) : Option (Int32) := cl1 (fX6_panAt_n a1 Z) (fun q1 => gd (cLv Z.2.2 5 q1) (cl1 (fX1_isTunable q1 (Z.1 0 0 5) (0 : Int32) Z) (fun v4 => gd (gbo v4) (some v4))))
def rmX6_isInTune_n : Room := { frames := 5, cells := 0, slots := 0, locals := 115 }
set_option maxHeartbeats 4000000 in
set_option maxRecDepth 100000 in
theorem mX6_isInTune_n (l : Launch) (D : va_G) (G : CGT) (A : Nat → Prop) (ad : Nat → Nat → Nat) (Z : CZ) (a1 : Int32) (rz : Int32) (h : fX6_isInTune_n a1 Z = some rz) : Met l yX6_isInTune wsX6_isInTune rmX6_isInTune_n (va_Pc [.ref (ad 0 0), .int a1] (cP D G A ad Z)) (cQi D G A ad rz Z) 0 0 A := by
  refine Met.ofW (cc := cX6_isInTune) (maxL := 2) (ret := some .boolean) (by decide) rfl ?_
  intro p e s m args below meth c s₁ B hml hv
  obtain ⟨rfl, hI, hN, hK⟩ := hv
  have hx := B.exec
  have hb := B.bytes
  have hr := B.returns
  have hts := atoms_spec (ws := wsX6_isInTune) B.pre
  have hown : s.vm.findClass RX6 = some m.cls := findClass_of_methodNamed B.named
  have hlocks := B.notSynchronized
  have iwsX60 : ∀ w ∈ wsX60, w ∈ wsX6_isInTune := fun w h => List.mem_cons_of_mem _ (List.mem_append_left _ (List.mem_append_left _ (List.mem_append_left _ (List.mem_append_right _ h))))
  have l0 := hts (.fieldLink RX6 84 "Panyard" "degreesNow" "I") (List.mem_of_getElem? (i := 1) rfl)
  have hS : va_S A s.heap s.heap [] := va_S.rf
  have hl := lv_entry ([.ref (ad 0 0), .int a1]) (n := 2) (Nat.le_of_ble_eq_true rfl)
  rw [lg_entry_eq]
  generalize (lg_sl ([.ref (ad 0 0), .int a1]) ++ List.replicate (2 - (lg_sl ([.ref (ad 0 0), .int a1])).length) Slot.unset).toArray = ls at hl ⊢
  have hl : lv_has ls 2 [(0, .ref (ad 0 0)), (1, .int a1)] := hl
  unfold fX6_isInTune_n at h
  refine lv_aload_n hx hb dX6_isInTune_0 rfl (lv_at hl 0 rfl) ?_
  refine lv_iload_n hx hb dX6_isInTune_1 rfl (lv_at hl 1 rfl) ?_
  obtain ⟨q1, c2, h⟩ := cl1_ok h
  refine cg_callr (k := 5) (q := q1) (va_runV (As := [.int a1]) (rest := []) ⟨hx, hb, hml, hown, hts⟩ (mX6_panAt_n l D G A ad Z a1 q1 c2) (cwV 1 hts gX6_isInTune_X6_panAt rfl rfl rfl (by decide +kernel) ⟨Nat.le_of_ble_eq_true rfl, Nat.le_of_ble_eq_true rfl⟩) (cg_preV hI hK hN rfl rfl (ci := 7) rfl) rfl rfl hl.1 rfl (lv_room (Nat.le_of_ble_eq_true rfl)) dX6_isInTune_2 ⟨Nat.le_of_ble_eq_true rfl, Nat.le_of_ble_eq_true rfl⟩) hS (fun H locs hI hN hS => ?_)
  refine lv_aload_n hx hb dX6_isInTune_5 rfl (lv_at hl 0 rfl) ?_
  refine cg_get (T := TX6) (N := 7) (ci := 7) hx hb hts iwsX60 hown hK hN rfl rfl rfl 5 (by decide) l0 rfl (v := .int (Z.1 0 0 5)) rfl dX6_isInTune_6 ?_
  refine lv_iconst (v := (0 : Int32)) hx hb dX6_isInTune_9 (by decide) ?_
  obtain ⟨g3, h⟩ := gd_ok h
  obtain ⟨v4, c5, h⟩ := cl1_ok h
  refine cg_calli (va_runV (As := [.int (Z.1 0 0 5), .int (0 : Int32)]) (rest := []) ⟨hx, hb, hml, hown, hts⟩ (mX1_isTunable l D G A ad Z q1 (Z.1 0 0 5) (0 : Int32) v4 c5) (cwV 2 hts gX6_isInTune_X1_isTunable rfl rfl rfl (by decide +kernel) ⟨Nat.le_of_ble_eq_true rfl, Nat.le_of_ble_eq_true rfl⟩) (cg_preV hI hK hN g3 rfl (ci := 2) rfl) rfl rfl hl.1 rfl (lv_room (Nat.le_of_ble_eq_true rfl)) dX6_isInTune_10 ⟨Nat.le_of_ble_eq_true rfl, Nat.le_of_ble_eq_true rfl⟩) hS (fun H locs hI hN hS => ?_)
  obtain ⟨g6, h⟩ := gd_ok h
  exact W.zret hx hb hr (gbo_ok g6) (cg_endr h hI hK hN hS) hS.2.2 dX6_isInTune_13
def fX6_plan_n_54 (t0 : Int32) (Z : CZ) : Option (Int32 × CZ) := some (t0, Z)
def fX6_plan_n (a1 : Int32) (a2 : Int32) (Z : CZ) : Option (Int32 × CZ) := cl1 (fX6_panAt_n a1 Z) (fun q1 => cl1 (fX6_requireRange_n a2 (0 : Int32) (3 : Int32) Z) (fun _ => cl2 (fX3_findRow q1 (Z.1 0 0 5) Z) (fun v4 Z5 => (if a2 = 0 then some (v4, Z5) else (if v4 < a2 then fX6_plan_n_54 (-1 : Int32) Z5 else gd (gin (a2 - (1 : Int32)) 3) (fX6_plan_n_54 (Z5.1 15 0 (Int32.toNatClampNeg (a2 - (1 : Int32)))) Z5))))))
def rmX6_plan_n : Room := { frames := 15, cells := 0, slots := 0, locals := 552 }
set_option maxHeartbeats 4000000 in
set_option maxRecDepth 100000 in
theorem mX6_plan_n (l : Launch) (D : va_G) (G : CGT) (A : Nat → Prop) (ad : Nat → Nat → Nat) (Z : CZ) (a1 : Int32) (a2 : Int32) (rz : Int32) (Zz : CZ) (h : fX6_plan_n a1 a2 Z = some (rz, Zz)) : Met l yX6_plan wsX6_plan rmX6_plan_n (va_Pc [.ref (ad 0 0), .int a1, .int a2] (cP D G A ad Z)) (cQi D G A ad rz Zz) 0 0 A := by
  refine Met.ofW (cc := cX6_plan) (maxL := 5) (ret := some .int) (by decide) rfl ?_
  intro p e s m args below meth c s₁ B hml hv
  obtain ⟨rfl, hI, hN, hK⟩ := hv
  have hx := B.exec
  have hb := B.bytes
  have hr := B.returns
  have hts := atoms_spec (ws := wsX6_plan) B.pre
  have hown : s.vm.findClass RX6 = some m.cls := findClass_of_methodNamed B.named
  have hlocks := B.notSynchronized
  have iwsX60 : ∀ w ∈ wsX60, w ∈ wsX6_plan := fun w h => List.mem_cons_of_mem _ (List.mem_append_left _ (List.mem_append_left _ (List.mem_append_left _ (List.mem_append_left _ (List.mem_append_left _ (List.mem_append_right _ h))))))
  have iwsX30 : ∀ w ∈ wsX30, w ∈ wsX6_plan := fun w h => List.mem_cons_of_mem _ (List.mem_append_left _ (List.mem_append_left _ (List.mem_append_left _ (List.mem_append_left _ (List.mem_append_right _ h)))))
  have l0 := hts (.fieldLink RX6 25 "Panyard" "planner" "LPanyard$Planner;") (List.mem_of_getElem? (i := 1) rfl)
  have l1 := hts (.fieldLink RX6 84 "Panyard" "degreesNow" "I") (List.mem_of_getElem? (i := 2) rfl)
  have l2 := hts (.fieldLink RX6 106 "Panyard$Planner" "row" "[I") (List.mem_of_getElem? (i := 3) rfl)
  have hS : va_S A s.heap s.heap [] := va_S.rf
  have hl := lv_entry ([.ref (ad 0 0), .int a1, .int a2]) (n := 5) (Nat.le_of_ble_eq_true rfl)
  rw [lg_entry_eq]
  generalize (lg_sl ([.ref (ad 0 0), .int a1, .int a2]) ++ List.replicate (5 - (lg_sl ([.ref (ad 0 0), .int a1, .int a2])).length) Slot.unset).toArray = ls at hl ⊢
  have hl : lv_has ls 5 [(0, .ref (ad 0 0)), (1, .int a1), (2, .int a2)] := hl
  have w54 : ∀ (t0 : Int32) (Z : CZ), fX6_plan_n_54  t0 Z = some (rz, Zz) → cG p l e (headSpec wsX6_plan rmX6_plan_n).room s m (([.ref (ad 0 0), .int a1, .int a2] : List Value).toArray) below meth c (MQ below (cQi D G A ad rz Zz) (([.ref (ad 0 0), .int a1, .int a2] : List Value).toArray) s 0 0 A) D G A ad 0 0 5 Z 54 [] [.int t0] := by
    intro  t0 Z h H locs ls hI hN hS hl
    unfold fX6_plan_n_54 at h
    exact W.iret hx hb hr (cg_endi h hI hK hN hS) hS.2.2 dX6_plan_54
  unfold fX6_plan_n at h
  refine lv_aload_n hx hb dX6_plan_0 rfl (lv_at hl 0 rfl) ?_
  refine lv_iload_n hx hb dX6_plan_1 rfl (lv_at hl 1 rfl) ?_
  obtain ⟨q1, c2, h⟩ := cl1_ok h
  refine cg_callr (k := 5) (q := q1) (va_runV (As := [.int a1]) (rest := []) ⟨hx, hb, hml, hown, hts⟩ (mX6_panAt_n l D G A ad Z a1 q1 c2) (cwV 1 hts gX6_plan_X6_panAt rfl rfl rfl (by decide +kernel) ⟨Nat.le_of_ble_eq_true rfl, Nat.le_of_ble_eq_true rfl⟩) (cg_preV hI hK hN rfl rfl (ci := 7) rfl) rfl rfl hl.1 rfl (lv_room (Nat.le_of_ble_eq_true rfl)) dX6_plan_2 ⟨Nat.le_of_ble_eq_true rfl, Nat.le_of_ble_eq_true rfl⟩) hS (fun H locs hI hN hS => ?_)
  refine lv_astore_n (lv' := [(3, .ref (ad 5 q1)), (0, .ref (ad 0 0)), (1, .int a1), (2, .int a2)]) hx hb dX6_plan_5 rfl hl (by decide) rfl (fun ls hl => ?_)
  refine lv_iload_n hx hb dX6_plan_6 rfl (lv_at hl 3 rfl) ?_
  refine lv_iconst (v := (0 : Int32)) hx hb dX6_plan_7 (by decide) ?_
  refine lv_iconst (v := (3 : Int32)) hx hb dX6_plan_8 (by decide) ?_
  obtain ⟨_, c3, h⟩ := cl1_ok h
  refine cg_callv (va_runS (As := [.int a2, .int (0 : Int32), .int (3 : Int32)]) (rest := []) ⟨hx, hb, hml, hown, hts⟩ (mX6_requireRange_n l D G A ad Z a2 (0 : Int32) (3 : Int32) c3) (va_cwS 3 hts gX6_plan_X6_requireRange rfl rfl rfl (by decide +kernel) ⟨Nat.le_of_ble_eq_true rfl, Nat.le_of_ble_eq_true rfl⟩) (cg_preS hI hK hN) rfl rfl hl.1 rfl (lv_room (Nat.le_of_ble_eq_true rfl)) dX6_plan_9 ⟨Nat.le_of_ble_eq_true rfl, Nat.le_of_ble_eq_true rfl⟩) hS (fun H locs hI hN hS => ?_)
  refine lv_aload_n hx hb dX6_plan_12 rfl (lv_at hl 1 rfl) ?_
  refine cg_get (T := TX6) (N := 7) (ci := 7) hx hb hts iwsX60 hown hK hN rfl rfl rfl 3 (by decide) l0 rfl (v := .ref (ad 1 0)) rfl dX6_plan_13 ?_
  refine lv_aload_n hx hb dX6_plan_16 rfl (lv_at hl 0 rfl) ?_
  refine lv_aload_n hx hb dX6_plan_17 rfl (lv_at hl 1 rfl) ?_
  refine cg_get (T := TX6) (N := 7) (ci := 7) hx hb hts iwsX60 hown hK hN rfl rfl rfl 5 (by decide) l1 rfl (v := .int (Z.1 0 0 5)) rfl dX6_plan_18 ?_
  obtain ⟨v4, Z5, c6, h⟩ := cl2_ok h
  refine cg_calli (va_runV (As := [.ref (ad 5 q1), .int (Z.1 0 0 5)]) (rest := []) ⟨hx, hb, hml, hown, hts⟩ (mX3_findRow l D G A ad Z q1 (Z.1 0 0 5) v4 Z5 c6) (cwV 2 hts gX6_plan_X3_findRow rfl rfl rfl (by decide +kernel) ⟨Nat.le_of_ble_eq_true rfl, Nat.le_of_ble_eq_true rfl⟩) (cg_preV hI hK hN rfl rfl (ci := 4) rfl) rfl rfl hl.1 rfl (lv_room (Nat.le_of_ble_eq_true rfl)) dX6_plan_21 ⟨Nat.le_of_ble_eq_true rfl, Nat.le_of_ble_eq_true rfl⟩) hS (fun H locs hI hN hS => ?_)
  refine lv_istore (lv' := [(4, .int v4), (3, .ref (ad 5 q1)), (0, .ref (ad 0 0)), (1, .int a1), (2, .int a2)]) hx hb dX6_plan_24 hl (by decide) rfl (fun ls hl => ?_)
  refine lv_iload_n hx hb dX6_plan_26 rfl (lv_at hl 4 rfl) ?_
  refine lv_if_ne (tgt := 33) hx hb dX6_plan_27 (by decide) (fun hc => ?_) (fun hc => ?_)
  · have h := ite_f h hc
    refine lv_iload_n hx hb dX6_plan_33 rfl (lv_at hl 4 rfl) ?_
    refine lv_iload hx hb dX6_plan_34 (lv_at hl 0 rfl) ?_
    refine lv_icmp_gt (tgt := 53) hx hb dX6_plan_36 (by decide) (fun hc => ?_) (fun hc => ?_)
    · have h := ite_t h hc
      refine lv_iconst (v := (-1 : Int32)) hx hb dX6_plan_53 (by decide) ?_
      exact w54  (-1 : Int32) Z5 h _ _ _ hI hN hS (lv_sub hl [] rfl)
    · have h := ite_f h hc
      refine lv_aload_n hx hb dX6_plan_39 rfl (lv_at hl 2 rfl) ?_
      refine cg_get (T := TX6) (N := 7) (ci := 7) hx hb hts iwsX60 hown hK hN rfl rfl rfl 3 (by decide) l0 rfl (v := .ref (ad 1 0)) rfl dX6_plan_40 ?_
      refine cg_get (T := TX3) (N := 2) (ci := 4) hx hb hts iwsX30 hown hK hN rfl rfl rfl 0 (by decide) l2 rfl (v := .ref (ad 15 0)) rfl dX6_plan_43 ?_
      refine lv_iload_n hx hb dX6_plan_46 rfl (lv_at hl 4 rfl) ?_
      refine lv_iconst (v := (1 : Int32)) hx hb dX6_plan_47 (by decide) ?_
      refine lv_isub hx hb dX6_plan_48 ?_
      obtain ⟨g7, h⟩ := gd_ok h
      refine cg_ild hx hb hK hN rfl rfl (gin_ok g7) dX6_plan_49 ?_
      refine lv_goto (tgt := 54) hx hb dX6_plan_50 (by decide) ?_
      exact w54  (Z5.1 15 0 (Int32.toNatClampNeg (a2 - (1 : Int32)))) Z5 h _ _ _ hI hN hS (lv_sub hl [] rfl)
  · have h := ite_t h hc
    refine lv_iload hx hb dX6_plan_30 (lv_at hl 0 rfl) ?_
    exact W.iret hx hb hr (cg_endi h hI hK hN hS) hS.2.2 dX6_plan_32
def fX6_playerAt_n (a1 : Int32) (Z : CZ) : Option (Nat) := cl1 (fJx4a65c_size_8abf5 1 Z) (fun v1 => cl1 (fX6_requireIndex_n a1 v1 Z) (fun _ => cl1 (fJx4a65c_get_915e3 1 a1 Z) (fun q4 => gd (cLv Z.2.2 9 q4) (some q4))))
def rmX6_playerAt_n : Room := { frames := 4, cells := 0, slots := 0, locals := 94 }
set_option maxHeartbeats 4000000 in
set_option maxRecDepth 100000 in
theorem mX6_playerAt_n (l : Launch) (D : va_G) (G : CGT) (A : Nat → Prop) (ad : Nat → Nat → Nat) (Z : CZ) (a1 : Int32) (rz : Nat) (h : fX6_playerAt_n a1 Z = some rz) : Met l yX6_playerAt wsX6_playerAt rmX6_playerAt_n (va_Pc [.ref (ad 0 0), .int a1] (cP D G A ad Z)) (cQr D G A ad 9 rz Z) 0 0 A := by
  refine Met.ofW (cc := cX6_playerAt) (maxL := 2) (ret := some (.object "Panyard$Player")) (by decide) rfl ?_
  intro p e s m args below meth c s₁ B hml hv
  obtain ⟨rfl, hI, hN, hK⟩ := hv
  have hx := B.exec
  have hb := B.bytes
  have hr := B.returns
  have hts := atoms_spec (ws := wsX6_playerAt) B.pre
  have hown : s.vm.findClass RX6 = some m.cls := findClass_of_methodNamed B.named
  have hlocks := B.notSynchronized
  have iwsX60 : ∀ w ∈ wsX60, w ∈ wsX6_playerAt := fun w h => List.mem_cons_of_mem _ (List.mem_append_left _ (List.mem_append_left _ (List.mem_append_right _ h)))
  have l0 := hts (.fieldLink RX6 16 "Panyard" "players" "Ljava/util/ArrayList;") (List.mem_of_getElem? (i := 1) rfl)
  have l1 := hts (.classLink RX6 109 "Panyard$Player") (List.mem_of_getElem? (i := 2) rfl)
  have hS : va_S A s.heap s.heap [] := va_S.rf
  have hl := lv_entry ([.ref (ad 0 0), .int a1]) (n := 2) (Nat.le_of_ble_eq_true rfl)
  rw [lg_entry_eq]
  generalize (lg_sl ([.ref (ad 0 0), .int a1]) ++ List.replicate (2 - (lg_sl ([.ref (ad 0 0), .int a1])).length) Slot.unset).toArray = ls at hl ⊢
  have hl : lv_has ls 2 [(0, .ref (ad 0 0)), (1, .int a1)] := hl
  unfold fX6_playerAt_n at h
  refine lv_iload_n hx hb dX6_playerAt_0 rfl (lv_at hl 1 rfl) ?_
  refine lv_aload_n hx hb dX6_playerAt_1 rfl (lv_at hl 0 rfl) ?_
  refine cg_get (T := TX6) (N := 7) (ci := 7) hx hb hts iwsX60 hown hK hN rfl rfl rfl 1 (by decide) l0 rfl (v := .ref (ad 3 1)) rfl dX6_playerAt_2 ?_
  obtain ⟨v1, c2, h⟩ := cl1_ok h
  refine cg_calli (va_runV (As := []) (rest := [.int a1]) ⟨hx, hb, hml, hown, hts⟩ (mJx4a65c_size_8abf5 l D G A ad Z 1 v1 c2) (cwV 0 hts gX6_playerAt_Jx4a65c_size_8abf5 rfl rfl rfl (by decide +kernel) ⟨Nat.le_of_ble_eq_true rfl, Nat.le_of_ble_eq_true rfl⟩) (cg_preV hI hK hN rfl rfl (ci := 0) rfl) rfl rfl hl.1 rfl (lv_room (Nat.le_of_ble_eq_true rfl)) dX6_playerAt_5 ⟨Nat.le_of_ble_eq_true rfl, Nat.le_of_ble_eq_true rfl⟩) hS (fun H locs hI hN hS => ?_)
  obtain ⟨_, c3, h⟩ := cl1_ok h
  refine cg_callv (va_runS (As := [.int a1, .int v1]) (rest := []) ⟨hx, hb, hml, hown, hts⟩ (mX6_requireIndex_n l D G A ad Z a1 v1 c3) (va_cwS 2 hts gX6_playerAt_X6_requireIndex rfl rfl rfl (by decide +kernel) ⟨Nat.le_of_ble_eq_true rfl, Nat.le_of_ble_eq_true rfl⟩) (cg_preS hI hK hN) rfl rfl hl.1 rfl (lv_room (Nat.le_of_ble_eq_true rfl)) dX6_playerAt_8 ⟨Nat.le_of_ble_eq_true rfl, Nat.le_of_ble_eq_true rfl⟩) hS (fun H locs hI hN hS => ?_)
  refine lv_aload_n hx hb dX6_playerAt_11 rfl (lv_at hl 0 rfl) ?_
  refine cg_get (T := TX6) (N := 7) (ci := 7) hx hb hts iwsX60 hown hK hN rfl rfl rfl 1 (by decide) l0 rfl (v := .ref (ad 3 1)) rfl dX6_playerAt_12 ?_
  refine lv_iload_n hx hb dX6_playerAt_15 rfl (lv_at hl 1 rfl) ?_
  obtain ⟨q4, c5, h⟩ := cl1_ok h
  refine cg_callr (k := 9) (q := q4) (va_runV (As := [.int a1]) (rest := []) ⟨hx, hb, hml, hown, hts⟩ (mJx4a65c_get_915e3 l D G A ad Z 1 a1 q4 c5) (cwV 1 hts gX6_playerAt_Jx4a65c_get_915e3 rfl rfl rfl (by decide +kernel) ⟨Nat.le_of_ble_eq_true rfl, Nat.le_of_ble_eq_true rfl⟩) (cg_preV hI hK hN rfl rfl (ci := 0) rfl) rfl rfl hl.1 rfl (lv_room (Nat.le_of_ble_eq_true rfl)) dX6_playerAt_16 ⟨Nat.le_of_ble_eq_true rfl, Nat.le_of_ble_eq_true rfl⟩) hS (fun H locs hI hN hS => ?_)
  obtain ⟨g6, h⟩ := gd_ok h
  refine va_castS hx hb hown l1 (hK.1.1 5 _ rfl).2 (cg_recv hK hN g6 rfl (ci := 5) rfl) dX6_playerAt_19 ?_
  exact W.aret hx hb hr (Or.inl ⟨_, rfl⟩) (Or.inr ⟨_, rfl⟩) (cg_endq h hI hK hN hS) hS.2.2 dX6_playerAt_22
def fX6_ofPlayer_n_49 (Z : CZ) (t0 : Int32) : Option (Int32) := some t0
def fX6_ofPlayer_n (a1 : Int32) (a2 : Int32) (Z : CZ) : Option (Int32) := cl1 (fX6_playerAt_n a1 Z) (fun q1 => cl1 (fX6_requireRange_n a2 (0 : Int32) (2 : Int32) Z) (fun _ => (if a2 = 0 then gd (cLv Z.2.2 9 q1) (some (Z.1 9 q1 1)) else (if a2 = (1 : Int32) then gd (cLv Z.2.2 9 q1) (some (Z.1 9 q1 3)) else gd (cLv Z.2.2 9 q1) (op2 (Z.2.1 9 q1 2) (fX6_ofPlayer_n_49 Z (-1 : Int32)) (fun q5 => gd (cLv Z.2.2 5 q5) (fX6_ofPlayer_n_49 Z (Z.1 5 q5 0))))))))
def rmX6_ofPlayer_n : Room := { frames := 5, cells := 0, slots := 0, locals := 115 }
set_option maxHeartbeats 4000000 in
set_option maxRecDepth 100000 in
theorem mX6_ofPlayer_n (l : Launch) (D : va_G) (G : CGT) (A : Nat → Prop) (ad : Nat → Nat → Nat) (Z : CZ) (a1 : Int32) (a2 : Int32) (rz : Int32) (h : fX6_ofPlayer_n a1 a2 Z = some rz) : Met l yX6_ofPlayer wsX6_ofPlayer rmX6_ofPlayer_n (va_Pc [.ref (ad 0 0), .int a1, .int a2] (cP D G A ad Z)) (cQi D G A ad rz Z) 0 0 A := by
  refine Met.ofW (cc := cX6_ofPlayer) (maxL := 4) (ret := some .int) (by decide) rfl ?_
  intro p e s m args below meth c s₁ B hml hv
  obtain ⟨rfl, hI, hN, hK⟩ := hv
  have hx := B.exec
  have hb := B.bytes
  have hr := B.returns
  have hts := atoms_spec (ws := wsX6_ofPlayer) B.pre
  have hown : s.vm.findClass RX6 = some m.cls := findClass_of_methodNamed B.named
  have hlocks := B.notSynchronized
  have iwsX40 : ∀ w ∈ wsX40, w ∈ wsX6_ofPlayer := fun w h => List.mem_cons_of_mem _ (List.mem_append_left _ (List.mem_append_left _ (List.mem_append_left _ (List.mem_append_left _ (List.mem_append_left _ (List.mem_append_right _ h))))))
  have iwsX10 : ∀ w ∈ wsX10, w ∈ wsX6_ofPlayer := fun w h => List.mem_cons_of_mem _ (List.mem_append_left _ (List.mem_append_left _ (List.mem_append_left _ (List.mem_append_left _ (List.mem_append_right _ h)))))
  have l0 := hts (.fieldLink RX6 153 "Panyard$Player" "pan" "LPanyard$Pan;") (List.mem_of_getElem? (i := 3) rfl)
  have l1 := hts (.fieldLink RX6 64 "Panyard$Pan" "number" "I") (List.mem_of_getElem? (i := 4) rfl)
  have l2 := hts (.fieldLink RX6 126 "Panyard$Player" "bandCount" "I") (List.mem_of_getElem? (i := 2) rfl)
  have l3 := hts (.fieldLink RX6 168 "Panyard$Player" "layout" "I") (List.mem_of_getElem? (i := 1) rfl)
  have hS : va_S A s.heap s.heap [] := va_S.rf
  have hl := lv_entry ([.ref (ad 0 0), .int a1, .int a2]) (n := 4) (Nat.le_of_ble_eq_true rfl)
  rw [lg_entry_eq]
  generalize (lg_sl ([.ref (ad 0 0), .int a1, .int a2]) ++ List.replicate (4 - (lg_sl ([.ref (ad 0 0), .int a1, .int a2])).length) Slot.unset).toArray = ls at hl ⊢
  have hl : lv_has ls 4 [(0, .ref (ad 0 0)), (1, .int a1), (2, .int a2)] := hl
  have w49 : ∀ (t0 : Int32), fX6_ofPlayer_n_49 Z t0 = some rz → cG p l e (headSpec wsX6_ofPlayer rmX6_ofPlayer_n).room s m (([.ref (ad 0 0), .int a1, .int a2] : List Value).toArray) below meth c (MQ below (cQi D G A ad rz Z) (([.ref (ad 0 0), .int a1, .int a2] : List Value).toArray) s 0 0 A) D G A ad 0 0 4 Z 49 [] [.int t0] := by
    intro  t0 h H locs ls hI hN hS hl
    unfold fX6_ofPlayer_n_49 at h
    exact W.iret hx hb hr (cg_endr h hI hK hN hS) hS.2.2 dX6_ofPlayer_49
  unfold fX6_ofPlayer_n at h
  refine lv_aload_n hx hb dX6_ofPlayer_0 rfl (lv_at hl 0 rfl) ?_
  refine lv_iload_n hx hb dX6_ofPlayer_1 rfl (lv_at hl 1 rfl) ?_
  obtain ⟨q1, c2, h⟩ := cl1_ok h
  refine cg_callr (k := 9) (q := q1) (va_runV (As := [.int a1]) (rest := []) ⟨hx, hb, hml, hown, hts⟩ (mX6_playerAt_n l D G A ad Z a1 q1 c2) (cwV 1 hts gX6_ofPlayer_X6_playerAt rfl rfl rfl (by decide +kernel) ⟨Nat.le_of_ble_eq_true rfl, Nat.le_of_ble_eq_true rfl⟩) (cg_preV hI hK hN rfl rfl (ci := 7) rfl) rfl rfl hl.1 rfl (lv_room (Nat.le_of_ble_eq_true rfl)) dX6_ofPlayer_2 ⟨Nat.le_of_ble_eq_true rfl, Nat.le_of_ble_eq_true rfl⟩) hS (fun H locs hI hN hS => ?_)
  refine lv_astore_n (lv' := [(3, .ref (ad 9 q1)), (0, .ref (ad 0 0)), (1, .int a1), (2, .int a2)]) hx hb dX6_ofPlayer_5 rfl hl (by decide) rfl (fun ls hl => ?_)
  refine lv_iload_n hx hb dX6_ofPlayer_6 rfl (lv_at hl 3 rfl) ?_
  refine lv_iconst (v := (0 : Int32)) hx hb dX6_ofPlayer_7 (by decide) ?_
  refine lv_iconst (v := (2 : Int32)) hx hb dX6_ofPlayer_8 (by decide) ?_
  obtain ⟨_, c3, h⟩ := cl1_ok h
  refine cg_callv (va_runS (As := [.int a2, .int (0 : Int32), .int (2 : Int32)]) (rest := []) ⟨hx, hb, hml, hown, hts⟩ (mX6_requireRange_n l D G A ad Z a2 (0 : Int32) (2 : Int32) c3) (va_cwS 3 hts gX6_ofPlayer_X6_requireRange rfl rfl rfl (by decide +kernel) ⟨Nat.le_of_ble_eq_true rfl, Nat.le_of_ble_eq_true rfl⟩) (cg_preS hI hK hN) rfl rfl hl.1 rfl (lv_room (Nat.le_of_ble_eq_true rfl)) dX6_ofPlayer_9 ⟨Nat.le_of_ble_eq_true rfl, Nat.le_of_ble_eq_true rfl⟩) hS (fun H locs hI hN hS => ?_)
  refine lv_iload_n hx hb dX6_ofPlayer_12 rfl (lv_at hl 3 rfl) ?_
  refine lv_if_ne (tgt := 21) hx hb dX6_ofPlayer_13 (by decide) (fun hc => ?_) (fun hc => ?_)
  · have h := ite_f h hc
    refine lv_iload_n hx hb dX6_ofPlayer_21 rfl (lv_at hl 3 rfl) ?_
    refine lv_iconst (v := (1 : Int32)) hx hb dX6_ofPlayer_22 (by decide) ?_
    refine lv_icmp_ne (tgt := 31) hx hb dX6_ofPlayer_23 (by decide) (fun hc => ?_) (fun hc => ?_)
    · have h := ite_f h hc
      refine lv_aload_n hx hb dX6_ofPlayer_31 rfl (lv_at hl 0 rfl) ?_
      obtain ⟨g4, h⟩ := gd_ok h
      rcases op2_ok h with ⟨c6, h⟩ | ⟨q5, c6, h⟩
      · refine cg_get (T := TX4) (N := 6) (ci := 5) hx hb hts iwsX40 hown hK hN g4 rfl rfl 2 (by decide) l0 rfl (v := .null) (congrArg (fun o => some (va_rf (Option.map (ad 5) o))) c6) dX6_ofPlayer_32 ?_
        refine lv_ifnonnullN hx hb dX6_ofPlayer_35 ?_
        refine lv_iconst (v := (-1 : Int32)) hx hb dX6_ofPlayer_38 (by decide) ?_
        refine lv_goto (tgt := 49) hx hb dX6_ofPlayer_39 (by decide) ?_
        exact w49  (-1 : Int32) h _ _ _ hI hN hS (lv_sub hl [] rfl)
      · refine cg_get (T := TX4) (N := 6) (ci := 5) hx hb hts iwsX40 hown hK hN g4 rfl rfl 2 (by decide) l0 rfl (v := .ref (ad 5 q5)) (congrArg (fun o => some (va_rf (Option.map (ad 5) o))) c6) dX6_ofPlayer_32 ?_
        refine lv_ifnonnull (tgt := 42) hx hb dX6_ofPlayer_35 (by decide) ?_
        refine lv_aload_n hx hb dX6_ofPlayer_42 rfl (lv_at hl 0 rfl) ?_
        refine cg_get (T := TX4) (N := 6) (ci := 5) hx hb hts iwsX40 hown hK hN g4 rfl rfl 2 (by decide) l0 rfl (v := .ref (ad 5 q5)) (congrArg (fun o => some (va_rf (Option.map (ad 5) o))) c6) dX6_ofPlayer_43 ?_
        obtain ⟨g7, h⟩ := gd_ok h
        refine cg_get (T := TX1) (N := 5) (ci := 2) hx hb hts iwsX10 hown hK hN g7 rfl rfl 0 (by decide) l1 rfl (v := .int (Z.1 5 q5 0)) rfl dX6_ofPlayer_46 ?_
        exact w49  (Z.1 5 q5 0) h _ _ _ hI hN hS (lv_sub hl [] rfl)
    · have h := ite_t h hc
      refine lv_aload_n hx hb dX6_ofPlayer_26 rfl (lv_at hl 0 rfl) ?_
      obtain ⟨g8, h⟩ := gd_ok h
      refine cg_get (T := TX4) (N := 6) (ci := 5) hx hb hts iwsX40 hown hK hN g8 rfl rfl 3 (by decide) l2 rfl (v := .int (Z.1 9 q1 3)) rfl dX6_ofPlayer_27 ?_
      exact W.iret hx hb hr (cg_endr h hI hK hN hS) hS.2.2 dX6_ofPlayer_30
  · have h := ite_t h hc
    refine lv_aload_n hx hb dX6_ofPlayer_16 rfl (lv_at hl 0 rfl) ?_
    obtain ⟨g9, h⟩ := gd_ok h
    refine cg_get (T := TX4) (N := 6) (ci := 5) hx hb hts iwsX40 hown hK hN g9 rfl rfl 1 (by decide) l3 rfl (v := .int (Z.1 9 q1 1)) rfl dX6_ofPlayer_17 ?_
    exact W.iret hx hb hr (cg_endr h hI hK hN hS) hS.2.2 dX6_ofPlayer_20
def fX6_change_n_54 (x5 : Int32) (Z : CZ) : Option (Int32 × CZ) := some (x5, Z)
def fX6_change_n (a1 : Int32) (a2 : Int32) (a3 : Int32) (Z : CZ) : Option (Int32 × CZ) := cl1 (fX6_bandAt_n a1 Z) (fun q1 => gd (cLv Z.2.2 10 q1) (cl1 (fX6_requireIndex_n a2 (Z.1 10 q1 3) Z) (fun _ => cl1 (fX6_requireRange_n a3 (0 : Int32) (11 : Int32) Z) (fun _ => gd (gin a2 24) (bnd (Z.1 11 q1 (Int32.toNatClampNeg a2)) (fun v7 => (if a3 = v7 then fX6_change_n_54 v7 Z else gd (gin a2 24) (bnd (cuI Z 11 q1 (upd (Z.1 11 q1) (Int32.toNatClampNeg a2) a3)) (fun Z9 => cl1 (fX0_spoilPhrase q1 (a2 / (4 : Int32)) Z9) (fun Z10 => fX6_change_n_54 v7 Z10))))))))))
def rmX6_change_n : Room := { frames := 5, cells := 0, slots := 0, locals := 117 }
set_option maxHeartbeats 4000000 in
set_option maxRecDepth 100000 in
theorem mX6_change_n (l : Launch) (D : va_G) (G : CGT) (A : Nat → Prop) (ad : Nat → Nat → Nat) (Z : CZ) (a1 : Int32) (a2 : Int32) (a3 : Int32) (rz : Int32) (Zz : CZ) (h : fX6_change_n a1 a2 a3 Z = some (rz, Zz)) : Met l yX6_change wsX6_change rmX6_change_n (va_Pc [.ref (ad 0 0), .int a1, .int a2, .int a3] (cP D G A ad Z)) (cQi D G A ad rz Zz) 0 0 A := by
  refine Met.ofW (cc := cX6_change) (maxL := 6) (ret := some .int) (by decide) rfl ?_
  intro p e s m args below meth c s₁ B hml hv
  obtain ⟨rfl, hI, hN, hK⟩ := hv
  have hx := B.exec
  have hb := B.bytes
  have hr := B.returns
  have hts := atoms_spec (ws := wsX6_change) B.pre
  have hown : s.vm.findClass RX6 = some m.cls := findClass_of_methodNamed B.named
  have hlocks := B.notSynchronized
  have iwsX00 : ∀ w ∈ wsX00, w ∈ wsX6_change := fun w h => List.mem_cons_of_mem _ (List.mem_append_left _ (List.mem_append_left _ (List.mem_append_left _ (List.mem_append_left _ (List.mem_append_left _ (List.mem_append_right _ h))))))
  have l0 := hts (.fieldLink RX6 171 "Panyard$Band" "noteCount" "I") (List.mem_of_getElem? (i := 1) rfl)
  have l1 := hts (.fieldLink RX6 174 "Panyard$Band" "song" "[I") (List.mem_of_getElem? (i := 2) rfl)
  have hS : va_S A s.heap s.heap [] := va_S.rf
  have hl := lv_entry ([.ref (ad 0 0), .int a1, .int a2, .int a3]) (n := 6) (Nat.le_of_ble_eq_true rfl)
  rw [lg_entry_eq]
  generalize (lg_sl ([.ref (ad 0 0), .int a1, .int a2, .int a3]) ++ List.replicate (6 - (lg_sl ([.ref (ad 0 0), .int a1, .int a2, .int a3])).length) Slot.unset).toArray = ls at hl ⊢
  have hl : lv_has ls 6 [(0, .ref (ad 0 0)), (1, .int a1), (2, .int a2), (3, .int a3)] := hl
  have w54 : ∀ (x5 : Int32) (Z : CZ), fX6_change_n_54  x5 Z = some (rz, Zz) → cG p l e (headSpec wsX6_change rmX6_change_n).room s m (([.ref (ad 0 0), .int a1, .int a2, .int a3] : List Value).toArray) below meth c (MQ below (cQi D G A ad rz Zz) (([.ref (ad 0 0), .int a1, .int a2, .int a3] : List Value).toArray) s 0 0 A) D G A ad 0 0 6 Z 54 [(5, .int x5)] [] := by
    intro  x5 Z h H locs ls hI hN hS hl
    unfold fX6_change_n_54 at h
    refine lv_iload hx hb dX6_change_54 (lv_at hl 0 rfl) ?_
    exact W.iret hx hb hr (cg_endi h hI hK hN hS) hS.2.2 dX6_change_56
  unfold fX6_change_n at h
  refine lv_aload_n hx hb dX6_change_0 rfl (lv_at hl 0 rfl) ?_
  refine lv_iload_n hx hb dX6_change_1 rfl (lv_at hl 1 rfl) ?_
  obtain ⟨q1, c2, h⟩ := cl1_ok h
  refine cg_callr (k := 10) (q := q1) (va_runV (As := [.int a1]) (rest := []) ⟨hx, hb, hml, hown, hts⟩ (mX6_bandAt_n l D G A ad Z a1 q1 c2) (cwV 1 hts gX6_change_X6_bandAt rfl rfl rfl (by decide +kernel) ⟨Nat.le_of_ble_eq_true rfl, Nat.le_of_ble_eq_true rfl⟩) (cg_preV hI hK hN rfl rfl (ci := 7) rfl) rfl rfl hl.1 rfl (lv_room (Nat.le_of_ble_eq_true rfl)) dX6_change_2 ⟨Nat.le_of_ble_eq_true rfl, Nat.le_of_ble_eq_true rfl⟩) hS (fun H locs hI hN hS => ?_)
  refine lv_astore (lv' := [(4, .ref (ad 10 q1)), (0, .ref (ad 0 0)), (1, .int a1), (2, .int a2), (3, .int a3)]) hx hb dX6_change_5 hl (by decide) rfl (fun ls hl => ?_)
  refine lv_iload_n hx hb dX6_change_7 rfl (lv_at hl 3 rfl) ?_
  refine lv_aload hx hb dX6_change_8 (lv_at hl 0 rfl) ?_
  obtain ⟨g3, h⟩ := gd_ok h
  refine cg_get (T := TX0) (N := 7) (ci := 1) hx hb hts iwsX00 hown hK hN g3 rfl rfl 3 (by decide) l0 rfl (v := .int (Z.1 10 q1 3)) rfl dX6_change_10 ?_
  obtain ⟨_, c4, h⟩ := cl1_ok h
  refine cg_callv (va_runS (As := [.int a2, .int (Z.1 10 q1 3)]) (rest := []) ⟨hx, hb, hml, hown, hts⟩ (mX6_requireIndex_n l D G A ad Z a2 (Z.1 10 q1 3) c4) (va_cwS 2 hts gX6_change_X6_requireIndex rfl rfl rfl (by decide +kernel) ⟨Nat.le_of_ble_eq_true rfl, Nat.le_of_ble_eq_true rfl⟩) (cg_preS hI hK hN) rfl rfl hl.1 rfl (lv_room (Nat.le_of_ble_eq_true rfl)) dX6_change_13 ⟨Nat.le_of_ble_eq_true rfl, Nat.le_of_ble_eq_true rfl⟩) hS (fun H locs hI hN hS => ?_)
  refine lv_iload_n hx hb dX6_change_16 rfl (lv_at hl 4 rfl) ?_
  refine lv_iconst (v := (0 : Int32)) hx hb dX6_change_17 (by decide) ?_
  refine lv_bipush (v := (11 : Int32)) hx hb dX6_change_18 (by decide) ?_
  obtain ⟨_, c5, h⟩ := cl1_ok h
  refine cg_callv (va_runS (As := [.int a3, .int (0 : Int32), .int (11 : Int32)]) (rest := []) ⟨hx, hb, hml, hown, hts⟩ (mX6_requireRange_n l D G A ad Z a3 (0 : Int32) (11 : Int32) c5) (va_cwS 3 hts gX6_change_X6_requireRange rfl rfl rfl (by decide +kernel) ⟨Nat.le_of_ble_eq_true rfl, Nat.le_of_ble_eq_true rfl⟩) (cg_preS hI hK hN) rfl rfl hl.1 rfl (lv_room (Nat.le_of_ble_eq_true rfl)) dX6_change_20 ⟨Nat.le_of_ble_eq_true rfl, Nat.le_of_ble_eq_true rfl⟩) hS (fun H locs hI hN hS => ?_)
  refine lv_aload hx hb dX6_change_23 (lv_at hl 0 rfl) ?_
  refine cg_get (T := TX0) (N := 7) (ci := 1) hx hb hts iwsX00 hown hK hN g3 rfl rfl 1 (by decide) l1 rfl (v := .ref (ad 11 q1)) rfl dX6_change_25 ?_
  refine lv_iload_n hx hb dX6_change_28 rfl (lv_at hl 3 rfl) ?_
  obtain ⟨g6, h⟩ := gd_ok h
  refine cg_ild hx hb hK hN g3 rfl (gin_ok g6) dX6_change_29 ?_
  refine lv_topi (fun v7 ev7 => ?_)
  have h := bnd_ok h ev7
  refine lv_istore (lv' := [(5, .int v7), (4, .ref (ad 10 q1)), (0, .ref (ad 0 0)), (1, .int a1), (2, .int a2), (3, .int a3)]) hx hb dX6_change_30 hl (by decide) rfl (fun ls hl => ?_)
  refine lv_iload_n hx hb dX6_change_32 rfl (lv_at hl 5 rfl) ?_
  refine lv_iload hx hb dX6_change_33 (lv_at hl 0 rfl) ?_
  refine lv_icmp_eq (tgt := 54) hx hb dX6_change_35 (by decide) (fun hc => ?_) (fun hc => ?_)
  · have h := ite_t h hc
    exact w54  v7 Z h _ _ _ hI hN hS (lv_sub hl [0] rfl)
  · have h := ite_f h hc
    refine lv_aload hx hb dX6_change_38 (lv_at hl 1 rfl) ?_
    refine cg_get (T := TX0) (N := 7) (ci := 1) hx hb hts iwsX00 hown hK hN g3 rfl rfl 1 (by decide) l1 rfl (v := .ref (ad 11 q1)) rfl dX6_change_40 ?_
    refine lv_iload_n hx hb dX6_change_43 rfl (lv_at hl 4 rfl) ?_
    refine lv_iload_n hx hb dX6_change_44 rfl (lv_at hl 5 rfl) ?_
    obtain ⟨g8, h⟩ := gd_ok h
    obtain ⟨Z9, eZ9⟩ : ∃ y : CZ, y = (cuI Z 11 q1 (upd (Z.1 11 q1) (Int32.toNatClampNeg a2) a3)) := ⟨_, rfl⟩
    have h := bnd_ok h eZ9
    refine cg_ist hx hb hI hK hN hS g3 rfl (gin_ok g8) rfl dX6_change_45 eZ9 (fun H locs hI hN hS => ?_)
    refine lv_aload hx hb dX6_change_46 (lv_at hl 1 rfl) ?_
    refine lv_iload_n hx hb dX6_change_48 rfl (lv_at hl 4 rfl) ?_
    refine lv_iconst (v := (4 : Int32)) hx hb dX6_change_49 (by decide) ?_
    refine lv_idiv hx hb dX6_change_50 (by decide) ?_
    obtain ⟨Z10, c11, h⟩ := cl1_ok h
    refine cg_callv (va_runV (As := [.int (a2 / (4 : Int32))]) (rest := []) ⟨hx, hb, hml, hown, hts⟩ (mX0_spoilPhrase l D G A ad Z9 q1 (a2 / (4 : Int32)) Z10 c11) (cwV 1 hts gX6_change_X0_spoilPhrase rfl rfl rfl (by decide +kernel) ⟨Nat.le_of_ble_eq_true rfl, Nat.le_of_ble_eq_true rfl⟩) (cg_preV hI hK hN (by rw [eZ9]; exact g3) rfl (ci := 1) rfl) rfl rfl hl.1 rfl (lv_room (Nat.le_of_ble_eq_true rfl)) dX6_change_51 ⟨Nat.le_of_ble_eq_true rfl, Nat.le_of_ble_eq_true rfl⟩) hS (fun H locs hI hN hS => ?_)
    exact w54  v7 Z10 h _ _ _ hI hN hS (lv_sub hl [0] rfl)
def fX6_seatAt_n (a1 : Nat) (a2 : Int32) (Z : CZ) : Option (Nat) := gd (cLv Z.2.2 10 a1) (gd (cLv Z.2.2 3 (a1 + 4)) (cl1 (fJx4a65c_size_8abf5 (a1 + 4) Z) (fun v3 => cl1 (fX6_requireIndex_n a2 v3 Z) (fun _ => cl1 (fJx4a65c_get_915e3 (a1 + 4) a2 Z) (fun q6 => gd (cLv Z.2.2 13 q6) (some q6))))))
def rmX6_seatAt_n : Room := { frames := 4, cells := 0, slots := 0, locals := 94 }
set_option maxHeartbeats 4000000 in
set_option maxRecDepth 100000 in
theorem mX6_seatAt_n (l : Launch) (D : va_G) (G : CGT) (A : Nat → Prop) (ad : Nat → Nat → Nat) (Z : CZ) (a1 : Nat) (a2 : Int32) (rz : Nat) (h : fX6_seatAt_n a1 a2 Z = some rz) : Met l yX6_seatAt wsX6_seatAt rmX6_seatAt_n (va_Pc [.ref (ad 10 a1), .int a2] (cP D G A ad Z)) (cQr D G A ad 13 rz Z) 0 0 A := by
  refine Met.ofW (cc := cX6_seatAt) (maxL := 2) (ret := some (.object "Panyard$Seat")) (by decide) rfl ?_
  intro p e s m args below meth c s₁ B hml hv
  obtain ⟨rfl, hI, hN, hK⟩ := hv
  have hx := B.exec
  have hb := B.bytes
  have hr := B.returns
  have hts := atoms_spec (ws := wsX6_seatAt) B.pre
  have hown : s.vm.findClass RX6 = some m.cls := findClass_of_methodNamed B.named
  have hlocks := B.notSynchronized
  have iwsX00 : ∀ w ∈ wsX00, w ∈ wsX6_seatAt := fun w h => List.mem_cons_of_mem _ (List.mem_append_left _ (List.mem_append_left _ (List.mem_append_right _ h)))
  have l0 := hts (.fieldLink RX6 129 "Panyard$Band" "seats" "Ljava/util/ArrayList;") (List.mem_of_getElem? (i := 1) rfl)
  have l1 := hts (.classLink RX6 138 "Panyard$Seat") (List.mem_of_getElem? (i := 2) rfl)
  have hS : va_S A s.heap s.heap [] := va_S.rf
  have hl := lv_entry ([.ref (ad 10 a1), .int a2]) (n := 2) (Nat.le_of_ble_eq_true rfl)
  rw [lg_entry_eq]
  generalize (lg_sl ([.ref (ad 10 a1), .int a2]) ++ List.replicate (2 - (lg_sl ([.ref (ad 10 a1), .int a2])).length) Slot.unset).toArray = ls at hl ⊢
  have hl : lv_has ls 2 [(0, .ref (ad 10 a1)), (1, .int a2)] := hl
  unfold fX6_seatAt_n at h
  refine lv_iload_n hx hb dX6_seatAt_0 rfl (lv_at hl 1 rfl) ?_
  refine lv_aload_n hx hb dX6_seatAt_1 rfl (lv_at hl 0 rfl) ?_
  obtain ⟨g1, h⟩ := gd_ok h
  refine cg_get (T := TX0) (N := 7) (ci := 1) hx hb hts iwsX00 hown hK hN g1 rfl rfl 0 (by decide) l0 rfl (v := .ref (ad 3 (a1 + 4))) rfl dX6_seatAt_2 ?_
  obtain ⟨g2, h⟩ := gd_ok h
  obtain ⟨v3, c4, h⟩ := cl1_ok h
  refine cg_calli (va_runV (As := []) (rest := [.int a2]) ⟨hx, hb, hml, hown, hts⟩ (mJx4a65c_size_8abf5 l D G A ad Z (a1 + 4) v3 c4) (cwV 0 hts gX6_seatAt_Jx4a65c_size_8abf5 rfl rfl rfl (by decide +kernel) ⟨Nat.le_of_ble_eq_true rfl, Nat.le_of_ble_eq_true rfl⟩) (cg_preV hI hK hN g2 rfl (ci := 0) rfl) rfl rfl hl.1 rfl (lv_room (Nat.le_of_ble_eq_true rfl)) dX6_seatAt_5 ⟨Nat.le_of_ble_eq_true rfl, Nat.le_of_ble_eq_true rfl⟩) hS (fun H locs hI hN hS => ?_)
  obtain ⟨_, c5, h⟩ := cl1_ok h
  refine cg_callv (va_runS (As := [.int a2, .int v3]) (rest := []) ⟨hx, hb, hml, hown, hts⟩ (mX6_requireIndex_n l D G A ad Z a2 v3 c5) (va_cwS 2 hts gX6_seatAt_X6_requireIndex rfl rfl rfl (by decide +kernel) ⟨Nat.le_of_ble_eq_true rfl, Nat.le_of_ble_eq_true rfl⟩) (cg_preS hI hK hN) rfl rfl hl.1 rfl (lv_room (Nat.le_of_ble_eq_true rfl)) dX6_seatAt_8 ⟨Nat.le_of_ble_eq_true rfl, Nat.le_of_ble_eq_true rfl⟩) hS (fun H locs hI hN hS => ?_)
  refine lv_aload_n hx hb dX6_seatAt_11 rfl (lv_at hl 0 rfl) ?_
  refine cg_get (T := TX0) (N := 7) (ci := 1) hx hb hts iwsX00 hown hK hN g1 rfl rfl 0 (by decide) l0 rfl (v := .ref (ad 3 (a1 + 4))) rfl dX6_seatAt_12 ?_
  refine lv_iload_n hx hb dX6_seatAt_15 rfl (lv_at hl 1 rfl) ?_
  obtain ⟨q6, c7, h⟩ := cl1_ok h
  refine cg_callr (k := 13) (q := q6) (va_runV (As := [.int a2]) (rest := []) ⟨hx, hb, hml, hown, hts⟩ (mJx4a65c_get_915e3 l D G A ad Z (a1 + 4) a2 q6 c7) (cwV 1 hts gX6_seatAt_Jx4a65c_get_915e3 rfl rfl rfl (by decide +kernel) ⟨Nat.le_of_ble_eq_true rfl, Nat.le_of_ble_eq_true rfl⟩) (cg_preV hI hK hN g2 rfl (ci := 0) rfl) rfl rfl hl.1 rfl (lv_room (Nat.le_of_ble_eq_true rfl)) dX6_seatAt_16 ⟨Nat.le_of_ble_eq_true rfl, Nat.le_of_ble_eq_true rfl⟩) hS (fun H locs hI hN hS => ?_)
  obtain ⟨g8, h⟩ := gd_ok h
  refine va_castS hx hb hown l1 (hK.1.1 6 _ rfl).2 (cg_recv hK hN g8 rfl (ci := 6) rfl) dX6_seatAt_19 ?_
  exact W.aret hx hb hr (Or.inl ⟨_, rfl⟩) (Or.inr ⟨_, rfl⟩) (cg_endq h hI hK hN hS) hS.2.2 dX6_seatAt_22
def fX6_requirePhrase_n (a1 : Nat) (a2 : Int32) (Z : CZ) : Option (Unit) := gd (cLv Z.2.2 10 a1) (cl1 (fX0_phraseCount a1 Z) (fun v2 => cl1 (fX6_requireIndex_n a2 v2 Z) (fun _ => some ())))
def rmX6_requirePhrase_n : Room := { frames := 2, cells := 0, slots := 0, locals := 51 }
set_option maxHeartbeats 4000000 in
set_option maxRecDepth 100000 in
theorem mX6_requirePhrase_n (l : Launch) (D : va_G) (G : CGT) (A : Nat → Prop) (ad : Nat → Nat → Nat) (Z : CZ) (a1 : Nat) (a2 : Int32) (h : fX6_requirePhrase_n a1 a2 Z = some ()) : Met l yX6_requirePhrase wsX6_requirePhrase rmX6_requirePhrase_n (va_Pc [.ref (ad 10 a1), .int a2] (cP D G A ad Z)) (cQv D G A ad Z) 0 0 A := by
  refine Met.ofW (cc := cX6_requirePhrase) (maxL := 2) (ret := none) (by decide) rfl ?_
  intro p e s m args below meth c s₁ B hml hv
  obtain ⟨rfl, hI, hN, hK⟩ := hv
  have hx := B.exec
  have hb := B.bytes
  have hr := B.returns
  have hts := atoms_spec (ws := wsX6_requirePhrase) B.pre
  have hown : s.vm.findClass RX6 = some m.cls := findClass_of_methodNamed B.named
  have hlocks := B.notSynchronized
  have hS : va_S A s.heap s.heap [] := va_S.rf
  have hl := lv_entry ([.ref (ad 10 a1), .int a2]) (n := 2) (Nat.le_of_ble_eq_true rfl)
  rw [lg_entry_eq]
  generalize (lg_sl ([.ref (ad 10 a1), .int a2]) ++ List.replicate (2 - (lg_sl ([.ref (ad 10 a1), .int a2])).length) Slot.unset).toArray = ls at hl ⊢
  have hl : lv_has ls 2 [(0, .ref (ad 10 a1)), (1, .int a2)] := hl
  unfold fX6_requirePhrase_n at h
  refine lv_iload_n hx hb dX6_requirePhrase_0 rfl (lv_at hl 1 rfl) ?_
  refine lv_aload_n hx hb dX6_requirePhrase_1 rfl (lv_at hl 0 rfl) ?_
  obtain ⟨g1, h⟩ := gd_ok h
  obtain ⟨v2, c3, h⟩ := cl1_ok h
  refine cg_calli (va_runV (As := []) (rest := [.int a2]) ⟨hx, hb, hml, hown, hts⟩ (mX0_phraseCount l D G A ad Z a1 v2 c3) (cwV 0 hts gX6_requirePhrase_X0_phraseCount rfl rfl rfl (by decide +kernel) ⟨Nat.le_of_ble_eq_true rfl, Nat.le_of_ble_eq_true rfl⟩) (cg_preV hI hK hN g1 rfl (ci := 1) rfl) rfl rfl hl.1 rfl (lv_room (Nat.le_of_ble_eq_true rfl)) dX6_requirePhrase_2 ⟨Nat.le_of_ble_eq_true rfl, Nat.le_of_ble_eq_true rfl⟩) hS (fun H locs hI hN hS => ?_)
  obtain ⟨_, c4, h⟩ := cl1_ok h
  refine cg_callv (va_runS (As := [.int a2, .int v2]) (rest := []) ⟨hx, hb, hml, hown, hts⟩ (mX6_requireIndex_n l D G A ad Z a2 v2 c4) (va_cwS 2 hts gX6_requirePhrase_X6_requireIndex rfl rfl rfl (by decide +kernel) ⟨Nat.le_of_ble_eq_true rfl, Nat.le_of_ble_eq_true rfl⟩) (cg_preS hI hK hN) rfl rfl hl.1 rfl (lv_room (Nat.le_of_ble_eq_true rfl)) dX6_requirePhrase_5 ⟨Nat.le_of_ble_eq_true rfl, Nat.le_of_ble_eq_true rfl⟩) hS (fun H locs hI hN hS => ?_)
  exact W.vret hx hb hr (cg_endvr hI hK hN hS) hS.2.2 dX6_requirePhrase_8
def fX6_tell_n (a1 : Int32) (a2 : Int32) (a3 : Int32) (Z : CZ) : Option (Int32 × CZ) := cl1 (fX6_bandAt_n a1 Z) (fun q1 => cl1 (fX6_seatAt_n q1 a2 Z) (fun q3 => cl1 (fX6_bandAt_n a1 Z) (fun q5 => cl1 (fX6_requirePhrase_n q5 a3 Z) (fun _ => gd (cLv Z.2.2 13 q3) (gd (gin a3 6) (bnd (Z.1 14 q3 (Int32.toNatClampNeg a3)) (fun v10 => gd (gin a3 6) (bnd (cuI Z 14 q3 (upd (Z.1 14 q3) (Int32.toNatClampNeg a3) (1 : Int32))) (fun Z12 => some (v10, Z12))))))))))
def rmX6_tell_n : Room := { frames := 5, cells := 0, slots := 0, locals := 115 }
set_option maxHeartbeats 4000000 in
set_option maxRecDepth 100000 in
theorem mX6_tell_n (l : Launch) (D : va_G) (G : CGT) (A : Nat → Prop) (ad : Nat → Nat → Nat) (Z : CZ) (a1 : Int32) (a2 : Int32) (a3 : Int32) (rz : Int32) (Zz : CZ) (h : fX6_tell_n a1 a2 a3 Z = some (rz, Zz)) : Met l yX6_tell wsX6_tell rmX6_tell_n (va_Pc [.ref (ad 0 0), .int a1, .int a2, .int a3] (cP D G A ad Z)) (cQi D G A ad rz Zz) 0 0 A := by
  refine Met.ofW (cc := cX6_tell) (maxL := 6) (ret := some .int) (by decide) rfl ?_
  intro p e s m args below meth c s₁ B hml hv
  obtain ⟨rfl, hI, hN, hK⟩ := hv
  have hx := B.exec
  have hb := B.bytes
  have hr := B.returns
  have hts := atoms_spec (ws := wsX6_tell) B.pre
  have hown : s.vm.findClass RX6 = some m.cls := findClass_of_methodNamed B.named
  have hlocks := B.notSynchronized
  have iwsX50 : ∀ w ∈ wsX50, w ∈ wsX6_tell := fun w h => List.mem_cons_of_mem _ (List.mem_append_left _ (List.mem_append_left _ (List.mem_append_left _ (List.mem_append_left _ (List.mem_append_right _ h)))))
  have l0 := hts (.fieldLink RX6 188 "Panyard$Seat" "known" "[I") (List.mem_of_getElem? (i := 1) rfl)
  have hS : va_S A s.heap s.heap [] := va_S.rf
  have hl := lv_entry ([.ref (ad 0 0), .int a1, .int a2, .int a3]) (n := 6) (Nat.le_of_ble_eq_true rfl)
  rw [lg_entry_eq]
  generalize (lg_sl ([.ref (ad 0 0), .int a1, .int a2, .int a3]) ++ List.replicate (6 - (lg_sl ([.ref (ad 0 0), .int a1, .int a2, .int a3])).length) Slot.unset).toArray = ls at hl ⊢
  have hl : lv_has ls 6 [(0, .ref (ad 0 0)), (1, .int a1), (2, .int a2), (3, .int a3)] := hl
  unfold fX6_tell_n at h
  refine lv_aload_n hx hb dX6_tell_0 rfl (lv_at hl 0 rfl) ?_
  refine lv_iload_n hx hb dX6_tell_1 rfl (lv_at hl 1 rfl) ?_
  obtain ⟨q1, c2, h⟩ := cl1_ok h
  refine cg_callr (k := 10) (q := q1) (va_runV (As := [.int a1]) (rest := []) ⟨hx, hb, hml, hown, hts⟩ (mX6_bandAt_n l D G A ad Z a1 q1 c2) (cwV 1 hts gX6_tell_X6_bandAt rfl rfl rfl (by decide +kernel) ⟨Nat.le_of_ble_eq_true rfl, Nat.le_of_ble_eq_true rfl⟩) (cg_preV hI hK hN rfl rfl (ci := 7) rfl) rfl rfl hl.1 rfl (lv_room (Nat.le_of_ble_eq_true rfl)) dX6_tell_2 ⟨Nat.le_of_ble_eq_true rfl, Nat.le_of_ble_eq_true rfl⟩) hS (fun H locs hI hN hS => ?_)
  refine lv_iload_n hx hb dX6_tell_5 rfl (lv_at hl 2 rfl) ?_
  obtain ⟨q3, c4, h⟩ := cl1_ok h
  refine cg_callr (k := 13) (q := q3) (va_runS (As := [.ref (ad 10 q1), .int a2]) (rest := []) ⟨hx, hb, hml, hown, hts⟩ (mX6_seatAt_n l D G A ad Z q1 a2 q3 c4) (va_cwS 2 hts gX6_tell_X6_seatAt rfl rfl rfl (by decide +kernel) ⟨Nat.le_of_ble_eq_true rfl, Nat.le_of_ble_eq_true rfl⟩) (cg_preS hI hK hN) rfl rfl hl.1 rfl (lv_room (Nat.le_of_ble_eq_true rfl)) dX6_tell_6 ⟨Nat.le_of_ble_eq_true rfl, Nat.le_of_ble_eq_true rfl⟩) hS (fun H locs hI hN hS => ?_)
  refine lv_astore (lv' := [(4, .ref (ad 13 q3)), (0, .ref (ad 0 0)), (1, .int a1), (2, .int a2), (3, .int a3)]) hx hb dX6_tell_9 hl (by decide) rfl (fun ls hl => ?_)
  refine lv_aload_n hx hb dX6_tell_11 rfl (lv_at hl 1 rfl) ?_
  refine lv_iload_n hx hb dX6_tell_12 rfl (lv_at hl 2 rfl) ?_
  obtain ⟨q5, c6, h⟩ := cl1_ok h
  refine cg_callr (k := 10) (q := q5) (va_runV (As := [.int a1]) (rest := []) ⟨hx, hb, hml, hown, hts⟩ (mX6_bandAt_n l D G A ad Z a1 q5 c6) (cwV 1 hts gX6_tell_X6_bandAt rfl rfl rfl (by decide +kernel) ⟨Nat.le_of_ble_eq_true rfl, Nat.le_of_ble_eq_true rfl⟩) (cg_preV hI hK hN rfl rfl (ci := 7) rfl) rfl rfl hl.1 rfl (lv_room (Nat.le_of_ble_eq_true rfl)) dX6_tell_13 ⟨Nat.le_of_ble_eq_true rfl, Nat.le_of_ble_eq_true rfl⟩) hS (fun H locs hI hN hS => ?_)
  refine lv_iload_n hx hb dX6_tell_16 rfl (lv_at hl 4 rfl) ?_
  obtain ⟨_, c7, h⟩ := cl1_ok h
  refine cg_callv (va_runS (As := [.ref (ad 10 q5), .int a3]) (rest := []) ⟨hx, hb, hml, hown, hts⟩ (mX6_requirePhrase_n l D G A ad Z q5 a3 c7) (va_cwS 2 hts gX6_tell_X6_requirePhrase rfl rfl rfl (by decide +kernel) ⟨Nat.le_of_ble_eq_true rfl, Nat.le_of_ble_eq_true rfl⟩) (cg_preS hI hK hN) rfl rfl hl.1 rfl (lv_room (Nat.le_of_ble_eq_true rfl)) dX6_tell_17 ⟨Nat.le_of_ble_eq_true rfl, Nat.le_of_ble_eq_true rfl⟩) hS (fun H locs hI hN hS => ?_)
  refine lv_aload hx hb dX6_tell_20 (lv_at hl 0 rfl) ?_
  obtain ⟨g8, h⟩ := gd_ok h
  refine cg_get (T := TX5) (N := 2) (ci := 6) hx hb hts iwsX50 hown hK hN g8 rfl rfl 1 (by decide) l0 rfl (v := .ref (ad 14 q3)) rfl dX6_tell_22 ?_
  refine lv_iload_n hx hb dX6_tell_25 rfl (lv_at hl 4 rfl) ?_
  obtain ⟨g9, h⟩ := gd_ok h
  refine cg_ild hx hb hK hN g8 rfl (gin_ok g9) dX6_tell_26 ?_
  refine lv_topi (fun v10 ev10 => ?_)
  have h := bnd_ok h ev10
  refine lv_istore (lv' := [(5, .int v10), (4, .ref (ad 13 q3)), (0, .ref (ad 0 0)), (1, .int a1), (2, .int a2), (3, .int a3)]) hx hb dX6_tell_27 hl (by decide) rfl (fun ls hl => ?_)
  refine lv_aload hx hb dX6_tell_29 (lv_at hl 1 rfl) ?_
  refine cg_get (T := TX5) (N := 2) (ci := 6) hx hb hts iwsX50 hown hK hN g8 rfl rfl 1 (by decide) l0 rfl (v := .ref (ad 14 q3)) rfl dX6_tell_31 ?_
  refine lv_iload_n hx hb dX6_tell_34 rfl (lv_at hl 5 rfl) ?_
  refine lv_iconst (v := (1 : Int32)) hx hb dX6_tell_35 (by decide) ?_
  obtain ⟨g11, h⟩ := gd_ok h
  obtain ⟨Z12, eZ12⟩ : ∃ y : CZ, y = (cuI Z 14 q3 (upd (Z.1 14 q3) (Int32.toNatClampNeg a3) (1 : Int32))) := ⟨_, rfl⟩
  have h := bnd_ok h eZ12
  refine cg_ist hx hb hI hK hN hS g8 rfl (gin_ok g11) rfl dX6_tell_36 eZ12 (fun H locs hI hN hS => ?_)
  refine lv_iload hx hb dX6_tell_37 (lv_at hl 0 rfl) ?_
  exact W.iret hx hb hr (cg_endi h hI hK hN hS) hS.2.2 dX6_tell_39
def fX6_pass_n_24 (x1 : Int32) (t0 : Int32) (Z : CZ) : Option (Int32 × CZ) := cl1 (fX6_requireState_n t0 Z) (fun _ => bnd (cuI Z 0 0 (upd (Z.1 0 0) 6 ((Z.1 0 0 6) + x1))) (fun Z3 => some ((Z3.1 0 0 6), Z3)))
def fX6_pass_n (a1 : Int32) (Z : CZ) : Option (Int32 × CZ) := cl1 (fX6_requireRange_n a1 (1 : Int32) (30 : Int32) Z) (fun _ => (if (1000 : Int32) < ((Z.1 0 0 6) + a1) then fX6_pass_n_24 a1 (0 : Int32) Z else fX6_pass_n_24 a1 (1 : Int32) Z))
def rmX6_pass_n : Room := { frames := 2, cells := 0, slots := 0, locals := 52 }
set_option maxHeartbeats 4000000 in
set_option maxRecDepth 100000 in
theorem mX6_pass_n (l : Launch) (D : va_G) (G : CGT) (A : Nat → Prop) (ad : Nat → Nat → Nat) (Z : CZ) (a1 : Int32) (rz : Int32) (Zz : CZ) (h : fX6_pass_n a1 Z = some (rz, Zz)) : Met l yX6_pass wsX6_pass rmX6_pass_n (va_Pc [.ref (ad 0 0), .int a1] (cP D G A ad Z)) (cQi D G A ad rz Zz) 0 0 A := by
  refine Met.ofW (cc := cX6_pass) (maxL := 2) (ret := some .int) (by decide) rfl ?_
  intro p e s m args below meth c s₁ B hml hv
  obtain ⟨rfl, hI, hN, hK⟩ := hv
  have hx := B.exec
  have hb := B.bytes
  have hr := B.returns
  have hts := atoms_spec (ws := wsX6_pass) B.pre
  have hown : s.vm.findClass RX6 = some m.cls := findClass_of_methodNamed B.named
  have hlocks := B.notSynchronized
  have iwsX60 : ∀ w ∈ wsX60, w ∈ wsX6_pass := fun w h => List.mem_cons_of_mem _ (List.mem_append_left _ (List.mem_append_left _ (List.mem_append_right _ h)))
  have l0 := hts (.fieldLink RX6 198 "Panyard" "nightNow" "I") (List.mem_of_getElem? (i := 1) rfl)
  have hS : va_S A s.heap s.heap [] := va_S.rf
  have hl := lv_entry ([.ref (ad 0 0), .int a1]) (n := 2) (Nat.le_of_ble_eq_true rfl)
  rw [lg_entry_eq]
  generalize (lg_sl ([.ref (ad 0 0), .int a1]) ++ List.replicate (2 - (lg_sl ([.ref (ad 0 0), .int a1])).length) Slot.unset).toArray = ls at hl ⊢
  have hl : lv_has ls 2 [(0, .ref (ad 0 0)), (1, .int a1)] := hl
  have w24 : ∀ (x1 : Int32) (t0 : Int32) (Z : CZ), fX6_pass_n_24  x1 t0 Z = some (rz, Zz) → cG p l e (headSpec wsX6_pass rmX6_pass_n).room s m (([.ref (ad 0 0), .int a1] : List Value).toArray) below meth c (MQ below (cQi D G A ad rz Zz) (([.ref (ad 0 0), .int a1] : List Value).toArray) s 0 0 A) D G A ad 0 0 2 Z 24 [(0, .ref (ad 0 0)), (1, .int x1)] [.int t0] := by
    intro  x1 t0 Z h H locs ls hI hN hS hl
    unfold fX6_pass_n_24 at h
    obtain ⟨_, c2, h⟩ := cl1_ok h
    refine cg_callv (va_runS (As := [.int t0]) (rest := []) ⟨hx, hb, hml, hown, hts⟩ (mX6_requireState_n l D G A ad Z t0 c2) (va_cwS 1 hts gX6_pass_X6_requireState rfl rfl rfl (by decide +kernel) ⟨Nat.le_of_ble_eq_true rfl, Nat.le_of_ble_eq_true rfl⟩) (cg_preS hI hK hN) rfl rfl hl.1 rfl (lv_room (Nat.le_of_ble_eq_true rfl)) dX6_pass_24 ⟨Nat.le_of_ble_eq_true rfl, Nat.le_of_ble_eq_true rfl⟩) hS (fun H locs hI hN hS => ?_)
    refine lv_aload_n hx hb dX6_pass_27 rfl (lv_at hl 0 rfl) ?_
    refine lv_dup hx hb dX6_pass_28 rfl ?_
    refine cg_get (T := TX6) (N := 7) (ci := 7) hx hb hts iwsX60 hown hK hN rfl rfl rfl 6 (by decide) l0 rfl (v := .int (Z.1 0 0 6)) rfl dX6_pass_29 ?_
    refine lv_iload_n hx hb dX6_pass_32 rfl (lv_at hl 1 rfl) ?_
    refine lv_iadd hx hb dX6_pass_33 ?_
    obtain ⟨Z3, eZ3⟩ : ∃ y : CZ, y = (cuI Z 0 0 (upd (Z.1 0 0) 6 ((Z.1 0 0 6) + x1))) := ⟨_, rfl⟩
    have h := bnd_ok h eZ3
    refine cg_put (ty := .int) (T := TX6) (N := 7) (ci := 7) hx hb hts iwsX60 tyX6_ok nmX6 hown hI hK hN hS rfl rfl rfl 6 (by decide) (Nat.le_of_ble_eq_true rfl) l0 rfl rfl (by decide +kernel) rfl rfl rfl dX6_pass_34 eZ3 (fun H locs hI hN hS => ?_)
    refine lv_aload_n hx hb dX6_pass_37 rfl (lv_at hl 0 rfl) ?_
    refine cg_get (T := TX6) (N := 7) (ci := 7) hx hb hts iwsX60 hown hK hN rfl rfl rfl 6 (by decide) l0 rfl (v := .int (Z3.1 0 0 6)) rfl dX6_pass_38 ?_
    exact W.iret hx hb hr (cg_endi h hI hK hN hS) hS.2.2 dX6_pass_41
  unfold fX6_pass_n at h
  refine lv_iload_n hx hb dX6_pass_0 rfl (lv_at hl 1 rfl) ?_
  refine lv_iconst (v := (1 : Int32)) hx hb dX6_pass_1 (by decide) ?_
  refine lv_bipush (v := (30 : Int32)) hx hb dX6_pass_2 (by decide) ?_
  obtain ⟨_, c1, h⟩ := cl1_ok h
  refine cg_callv (va_runS (As := [.int a1, .int (1 : Int32), .int (30 : Int32)]) (rest := []) ⟨hx, hb, hml, hown, hts⟩ (mX6_requireRange_n l D G A ad Z a1 (1 : Int32) (30 : Int32) c1) (va_cwS 3 hts gX6_pass_X6_requireRange rfl rfl rfl (by decide +kernel) ⟨Nat.le_of_ble_eq_true rfl, Nat.le_of_ble_eq_true rfl⟩) (cg_preS hI hK hN) rfl rfl hl.1 rfl (lv_room (Nat.le_of_ble_eq_true rfl)) dX6_pass_4 ⟨Nat.le_of_ble_eq_true rfl, Nat.le_of_ble_eq_true rfl⟩) hS (fun H locs hI hN hS => ?_)
  refine lv_aload_n hx hb dX6_pass_7 rfl (lv_at hl 0 rfl) ?_
  refine cg_get (T := TX6) (N := 7) (ci := 7) hx hb hts iwsX60 hown hK hN rfl rfl rfl 6 (by decide) l0 rfl (v := .int (Z.1 0 0 6)) rfl dX6_pass_8 ?_
  refine lv_iload_n hx hb dX6_pass_11 rfl (lv_at hl 1 rfl) ?_
  refine lv_iadd hx hb dX6_pass_12 ?_
  refine lv_sipush (v := (1000 : Int32)) hx hb dX6_pass_13 (by decide) ?_
  refine lv_icmp_gt (tgt := 23) hx hb dX6_pass_16 (by decide) (fun hc => ?_) (fun hc => ?_)
  · have h := ite_t h hc
    refine lv_iconst (v := (0 : Int32)) hx hb dX6_pass_23 (by decide) ?_
    exact w24  a1 (0 : Int32) Z h _ _ _ hI hN hS (lv_sub hl [0, 1] rfl)
  · have h := ite_f h hc
    refine lv_iconst (v := (1 : Int32)) hx hb dX6_pass_19 (by decide) ?_
    refine lv_goto (tgt := 24) hx hb dX6_pass_20 (by decide) ?_
    exact w24  a1 (1 : Int32) Z h _ _ _ hI hN hS (lv_sub hl [0, 1] rfl)
def fX6_seat_n (a1 : Int32) (a2 : Int32) (Z : CZ) : Option (Int32) := cl1 (fX6_bandAt_n a1 Z) (fun q1 => cl1 (fX6_seatAt_n q1 a2 Z) (fun q3 => gd (cLv Z.2.2 13 q3) (cl1 (Z.2.1 13 q3 0) (fun q6 => gd (cLv Z.2.2 9 q6) (some (Z.1 9 q6 0))))))
def rmX6_seat_n : Room := { frames := 5, cells := 0, slots := 0, locals := 115 }
set_option maxHeartbeats 4000000 in
set_option maxRecDepth 100000 in
theorem mX6_seat_n (l : Launch) (D : va_G) (G : CGT) (A : Nat → Prop) (ad : Nat → Nat → Nat) (Z : CZ) (a1 : Int32) (a2 : Int32) (rz : Int32) (h : fX6_seat_n a1 a2 Z = some rz) : Met l yX6_seat wsX6_seat rmX6_seat_n (va_Pc [.ref (ad 0 0), .int a1, .int a2] (cP D G A ad Z)) (cQi D G A ad rz Z) 0 0 A := by
  refine Met.ofW (cc := cX6_seat) (maxL := 3) (ret := some .int) (by decide) rfl ?_
  intro p e s m args below meth c s₁ B hml hv
  obtain ⟨rfl, hI, hN, hK⟩ := hv
  have hx := B.exec
  have hb := B.bytes
  have hr := B.returns
  have hts := atoms_spec (ws := wsX6_seat) B.pre
  have hown : s.vm.findClass RX6 = some m.cls := findClass_of_methodNamed B.named
  have hlocks := B.notSynchronized
  have iwsX50 : ∀ w ∈ wsX50, w ∈ wsX6_seat := fun w h => List.mem_cons_of_mem _ (List.mem_append_left _ (List.mem_append_left _ (List.mem_append_left _ (List.mem_append_left _ (List.mem_append_left _ (List.mem_append_right _ h))))))
  have iwsX40 : ∀ w ∈ wsX40, w ∈ wsX6_seat := fun w h => List.mem_cons_of_mem _ (List.mem_append_left _ (List.mem_append_left _ (List.mem_append_left _ (List.mem_append_left _ (List.mem_append_right _ h)))))
  have l0 := hts (.fieldLink RX6 211 "Panyard$Seat" "player" "LPanyard$Player;") (List.mem_of_getElem? (i := 1) rfl)
  have l1 := hts (.fieldLink RX6 113 "Panyard$Player" "number" "I") (List.mem_of_getElem? (i := 2) rfl)
  have hS : va_S A s.heap s.heap [] := va_S.rf
  have hl := lv_entry ([.ref (ad 0 0), .int a1, .int a2]) (n := 3) (Nat.le_of_ble_eq_true rfl)
  rw [lg_entry_eq]
  generalize (lg_sl ([.ref (ad 0 0), .int a1, .int a2]) ++ List.replicate (3 - (lg_sl ([.ref (ad 0 0), .int a1, .int a2])).length) Slot.unset).toArray = ls at hl ⊢
  have hl : lv_has ls 3 [(0, .ref (ad 0 0)), (1, .int a1), (2, .int a2)] := hl
  unfold fX6_seat_n at h
  refine lv_aload_n hx hb dX6_seat_0 rfl (lv_at hl 0 rfl) ?_
  refine lv_iload_n hx hb dX6_seat_1 rfl (lv_at hl 1 rfl) ?_
  obtain ⟨q1, c2, h⟩ := cl1_ok h
  refine cg_callr (k := 10) (q := q1) (va_runV (As := [.int a1]) (rest := []) ⟨hx, hb, hml, hown, hts⟩ (mX6_bandAt_n l D G A ad Z a1 q1 c2) (cwV 1 hts gX6_seat_X6_bandAt rfl rfl rfl (by decide +kernel) ⟨Nat.le_of_ble_eq_true rfl, Nat.le_of_ble_eq_true rfl⟩) (cg_preV hI hK hN rfl rfl (ci := 7) rfl) rfl rfl hl.1 rfl (lv_room (Nat.le_of_ble_eq_true rfl)) dX6_seat_2 ⟨Nat.le_of_ble_eq_true rfl, Nat.le_of_ble_eq_true rfl⟩) hS (fun H locs hI hN hS => ?_)
  refine lv_iload_n hx hb dX6_seat_5 rfl (lv_at hl 2 rfl) ?_
  obtain ⟨q3, c4, h⟩ := cl1_ok h
  refine cg_callr (k := 13) (q := q3) (va_runS (As := [.ref (ad 10 q1), .int a2]) (rest := []) ⟨hx, hb, hml, hown, hts⟩ (mX6_seatAt_n l D G A ad Z q1 a2 q3 c4) (va_cwS 2 hts gX6_seat_X6_seatAt rfl rfl rfl (by decide +kernel) ⟨Nat.le_of_ble_eq_true rfl, Nat.le_of_ble_eq_true rfl⟩) (cg_preS hI hK hN) rfl rfl hl.1 rfl (lv_room (Nat.le_of_ble_eq_true rfl)) dX6_seat_6 ⟨Nat.le_of_ble_eq_true rfl, Nat.le_of_ble_eq_true rfl⟩) hS (fun H locs hI hN hS => ?_)
  obtain ⟨g5, h⟩ := gd_ok h
  obtain ⟨q6, c7, h⟩ := cl1_ok h
  refine cg_get (T := TX5) (N := 2) (ci := 6) hx hb hts iwsX50 hown hK hN g5 rfl rfl 0 (by decide) l0 rfl (v := .ref (ad 9 q6)) (congrArg (fun o => some (va_rf (Option.map (ad 9) o))) c7) dX6_seat_9 ?_
  obtain ⟨g8, h⟩ := gd_ok h
  refine cg_get (T := TX4) (N := 6) (ci := 5) hx hb hts iwsX40 hown hK hN g8 rfl rfl 0 (by decide) l1 rfl (v := .int (Z.1 9 q6 0)) rfl dX6_seat_12 ?_
  exact W.iret hx hb hr (cg_endr h hI hK hN hS) hS.2.2 dX6_seat_15
def fX6_knows_n (a1 : Int32) (a2 : Int32) (a3 : Int32) (Z : CZ) : Option (Int32) := cl1 (fX6_bandAt_n a1 Z) (fun q1 => cl1 (fX6_seatAt_n q1 a2 Z) (fun q3 => cl1 (fX6_bandAt_n a1 Z) (fun q5 => cl1 (fX6_requirePhrase_n q5 a3 Z) (fun _ => gd (cLv Z.2.2 13 q3) (gd (gin a3 6) (some (Z.1 14 q3 (Int32.toNatClampNeg a3))))))))
def rmX6_knows_n : Room := { frames := 5, cells := 0, slots := 0, locals := 115 }
set_option maxHeartbeats 4000000 in
set_option maxRecDepth 100000 in
theorem mX6_knows_n (l : Launch) (D : va_G) (G : CGT) (A : Nat → Prop) (ad : Nat → Nat → Nat) (Z : CZ) (a1 : Int32) (a2 : Int32) (a3 : Int32) (rz : Int32) (h : fX6_knows_n a1 a2 a3 Z = some rz) : Met l yX6_knows wsX6_knows rmX6_knows_n (va_Pc [.ref (ad 0 0), .int a1, .int a2, .int a3] (cP D G A ad Z)) (cQi D G A ad rz Z) 0 0 A := by
  refine Met.ofW (cc := cX6_knows) (maxL := 5) (ret := some .int) (by decide) rfl ?_
  intro p e s m args below meth c s₁ B hml hv
  obtain ⟨rfl, hI, hN, hK⟩ := hv
  have hx := B.exec
  have hb := B.bytes
  have hr := B.returns
  have hts := atoms_spec (ws := wsX6_knows) B.pre
  have hown : s.vm.findClass RX6 = some m.cls := findClass_of_methodNamed B.named
  have hlocks := B.notSynchronized
  have iwsX50 : ∀ w ∈ wsX50, w ∈ wsX6_knows := fun w h => List.mem_cons_of_mem _ (List.mem_append_left _ (List.mem_append_left _ (List.mem_append_left _ (List.mem_append_left _ (List.mem_append_right _ h)))))
  have l0 := hts (.fieldLink RX6 188 "Panyard$Seat" "known" "[I") (List.mem_of_getElem? (i := 1) rfl)
  have hS : va_S A s.heap s.heap [] := va_S.rf
  have hl := lv_entry ([.ref (ad 0 0), .int a1, .int a2, .int a3]) (n := 5) (Nat.le_of_ble_eq_true rfl)
  rw [lg_entry_eq]
  generalize (lg_sl ([.ref (ad 0 0), .int a1, .int a2, .int a3]) ++ List.replicate (5 - (lg_sl ([.ref (ad 0 0), .int a1, .int a2, .int a3])).length) Slot.unset).toArray = ls at hl ⊢
  have hl : lv_has ls 5 [(0, .ref (ad 0 0)), (1, .int a1), (2, .int a2), (3, .int a3)] := hl
  unfold fX6_knows_n at h
  refine lv_aload_n hx hb dX6_knows_0 rfl (lv_at hl 0 rfl) ?_
  refine lv_iload_n hx hb dX6_knows_1 rfl (lv_at hl 1 rfl) ?_
  obtain ⟨q1, c2, h⟩ := cl1_ok h
  refine cg_callr (k := 10) (q := q1) (va_runV (As := [.int a1]) (rest := []) ⟨hx, hb, hml, hown, hts⟩ (mX6_bandAt_n l D G A ad Z a1 q1 c2) (cwV 1 hts gX6_knows_X6_bandAt rfl rfl rfl (by decide +kernel) ⟨Nat.le_of_ble_eq_true rfl, Nat.le_of_ble_eq_true rfl⟩) (cg_preV hI hK hN rfl rfl (ci := 7) rfl) rfl rfl hl.1 rfl (lv_room (Nat.le_of_ble_eq_true rfl)) dX6_knows_2 ⟨Nat.le_of_ble_eq_true rfl, Nat.le_of_ble_eq_true rfl⟩) hS (fun H locs hI hN hS => ?_)
  refine lv_iload_n hx hb dX6_knows_5 rfl (lv_at hl 2 rfl) ?_
  obtain ⟨q3, c4, h⟩ := cl1_ok h
  refine cg_callr (k := 13) (q := q3) (va_runS (As := [.ref (ad 10 q1), .int a2]) (rest := []) ⟨hx, hb, hml, hown, hts⟩ (mX6_seatAt_n l D G A ad Z q1 a2 q3 c4) (va_cwS 2 hts gX6_knows_X6_seatAt rfl rfl rfl (by decide +kernel) ⟨Nat.le_of_ble_eq_true rfl, Nat.le_of_ble_eq_true rfl⟩) (cg_preS hI hK hN) rfl rfl hl.1 rfl (lv_room (Nat.le_of_ble_eq_true rfl)) dX6_knows_6 ⟨Nat.le_of_ble_eq_true rfl, Nat.le_of_ble_eq_true rfl⟩) hS (fun H locs hI hN hS => ?_)
  refine lv_astore (lv' := [(4, .ref (ad 13 q3)), (0, .ref (ad 0 0)), (1, .int a1), (2, .int a2), (3, .int a3)]) hx hb dX6_knows_9 hl (by decide) rfl (fun ls hl => ?_)
  refine lv_aload_n hx hb dX6_knows_11 rfl (lv_at hl 1 rfl) ?_
  refine lv_iload_n hx hb dX6_knows_12 rfl (lv_at hl 2 rfl) ?_
  obtain ⟨q5, c6, h⟩ := cl1_ok h
  refine cg_callr (k := 10) (q := q5) (va_runV (As := [.int a1]) (rest := []) ⟨hx, hb, hml, hown, hts⟩ (mX6_bandAt_n l D G A ad Z a1 q5 c6) (cwV 1 hts gX6_knows_X6_bandAt rfl rfl rfl (by decide +kernel) ⟨Nat.le_of_ble_eq_true rfl, Nat.le_of_ble_eq_true rfl⟩) (cg_preV hI hK hN rfl rfl (ci := 7) rfl) rfl rfl hl.1 rfl (lv_room (Nat.le_of_ble_eq_true rfl)) dX6_knows_13 ⟨Nat.le_of_ble_eq_true rfl, Nat.le_of_ble_eq_true rfl⟩) hS (fun H locs hI hN hS => ?_)
  refine lv_iload_n hx hb dX6_knows_16 rfl (lv_at hl 4 rfl) ?_
  obtain ⟨_, c7, h⟩ := cl1_ok h
  refine cg_callv (va_runS (As := [.ref (ad 10 q5), .int a3]) (rest := []) ⟨hx, hb, hml, hown, hts⟩ (mX6_requirePhrase_n l D G A ad Z q5 a3 c7) (va_cwS 2 hts gX6_knows_X6_requirePhrase rfl rfl rfl (by decide +kernel) ⟨Nat.le_of_ble_eq_true rfl, Nat.le_of_ble_eq_true rfl⟩) (cg_preS hI hK hN) rfl rfl hl.1 rfl (lv_room (Nat.le_of_ble_eq_true rfl)) dX6_knows_17 ⟨Nat.le_of_ble_eq_true rfl, Nat.le_of_ble_eq_true rfl⟩) hS (fun H locs hI hN hS => ?_)
  refine lv_aload hx hb dX6_knows_20 (lv_at hl 0 rfl) ?_
  obtain ⟨g8, h⟩ := gd_ok h
  refine cg_get (T := TX5) (N := 2) (ci := 6) hx hb hts iwsX50 hown hK hN g8 rfl rfl 1 (by decide) l0 rfl (v := .ref (ad 14 q3)) rfl dX6_knows_22 ?_
  refine lv_iload_n hx hb dX6_knows_25 rfl (lv_at hl 4 rfl) ?_
  obtain ⟨g9, h⟩ := gd_ok h
  refine cg_ild hx hb hK hN g8 rfl (gin_ok g9) dX6_knows_26 ?_
  exact W.iret hx hb hr (cg_endr h hI hK hN hS) hS.2.2 dX6_knows_27
def fX6_ofBand_n_83 (Z : CZ) (t0 : Int32) : Option (Int32) := some t0
def fX6_ofBand_n (a1 : Int32) (a2 : Int32) (Z : CZ) : Option (Int32) := cl1 (fX6_bandAt_n a1 Z) (fun q1 => cl1 (fX6_requireRange_n a2 (0 : Int32) (4 : Int32) Z) (fun _ => (if a2 = (0 : Int32) then gd (cLv Z.2.2 10 q1) (gd (cLv Z.2.2 3 (q1 + 4)) (cl1 (fJx4a65c_size_8abf5 (q1 + 4) Z) (fun v6 => some v6))) else (if a2 = (1 : Int32) then gd (cLv Z.2.2 10 q1) (some (Z.1 10 q1 3)) else (if a2 = (2 : Int32) then gd (cLv Z.2.2 10 q1) (cl1 (fX0_phraseCount q1 Z) (fun v10 => some v10)) else (if a2 = (3 : Int32) then gd (cLv Z.2.2 10 q1) (some (Z.1 10 q1 5)) else gd (cLv Z.2.2 10 q1) ((if (Z.1 10 q1 4) = (Z.1 0 0 6) then fX6_ofBand_n_83 Z (1 : Int32) else fX6_ofBand_n_83 Z (0 : Int32)))))))))
def rmX6_ofBand_n : Room := { frames := 5, cells := 0, slots := 0, locals := 115 }
set_option maxHeartbeats 4000000 in
set_option maxRecDepth 100000 in
theorem mX6_ofBand_n (l : Launch) (D : va_G) (G : CGT) (A : Nat → Prop) (ad : Nat → Nat → Nat) (Z : CZ) (a1 : Int32) (a2 : Int32) (rz : Int32) (h : fX6_ofBand_n a1 a2 Z = some rz) : Met l yX6_ofBand wsX6_ofBand rmX6_ofBand_n (va_Pc [.ref (ad 0 0), .int a1, .int a2] (cP D G A ad Z)) (cQi D G A ad rz Z) 0 0 A := by
  refine Met.ofW (cc := cX6_ofBand) (maxL := 4) (ret := some .int) (by decide) rfl ?_
  intro p e s m args below meth c s₁ B hml hv
  obtain ⟨rfl, hI, hN, hK⟩ := hv
  have hx := B.exec
  have hb := B.bytes
  have hr := B.returns
  have hts := atoms_spec (ws := wsX6_ofBand) B.pre
  have hown : s.vm.findClass RX6 = some m.cls := findClass_of_methodNamed B.named
  have hlocks := B.notSynchronized
  have iwsX00 : ∀ w ∈ wsX00, w ∈ wsX6_ofBand := fun w h => List.mem_cons_of_mem _ (List.mem_append_left _ (List.mem_append_left _ (List.mem_append_left _ (List.mem_append_left _ (List.mem_append_right _ h)))))
  have iwsX60 : ∀ w ∈ wsX60, w ∈ wsX6_ofBand := fun w h => List.mem_cons_of_mem _ (List.mem_append_left _ (List.mem_append_left _ (List.mem_append_left _ (List.mem_append_right _ h))))
  have l0 := hts (.fieldLink RX6 129 "Panyard$Band" "seats" "Ljava/util/ArrayList;") (List.mem_of_getElem? (i := 1) rfl)
  have l1 := hts (.fieldLink RX6 171 "Panyard$Band" "noteCount" "I") (List.mem_of_getElem? (i := 2) rfl)
  have l2 := hts (.fieldLink RX6 218 "Panyard$Band" "heard" "I") (List.mem_of_getElem? (i := 3) rfl)
  have l3 := hts (.fieldLink RX6 195 "Panyard$Band" "drillNight" "I") (List.mem_of_getElem? (i := 4) rfl)
  have l4 := hts (.fieldLink RX6 198 "Panyard" "nightNow" "I") (List.mem_of_getElem? (i := 5) rfl)
  have hS : va_S A s.heap s.heap [] := va_S.rf
  have hl := lv_entry ([.ref (ad 0 0), .int a1, .int a2]) (n := 4) (Nat.le_of_ble_eq_true rfl)
  rw [lg_entry_eq]
  generalize (lg_sl ([.ref (ad 0 0), .int a1, .int a2]) ++ List.replicate (4 - (lg_sl ([.ref (ad 0 0), .int a1, .int a2])).length) Slot.unset).toArray = ls at hl ⊢
  have hl : lv_has ls 4 [(0, .ref (ad 0 0)), (1, .int a1), (2, .int a2)] := hl
  have w83 : ∀ (t0 : Int32), fX6_ofBand_n_83 Z t0 = some rz → cG p l e (headSpec wsX6_ofBand rmX6_ofBand_n).room s m (([.ref (ad 0 0), .int a1, .int a2] : List Value).toArray) below meth c (MQ below (cQi D G A ad rz Z) (([.ref (ad 0 0), .int a1, .int a2] : List Value).toArray) s 0 0 A) D G A ad 0 0 4 Z 83 [] [.int t0] := by
    intro  t0 h H locs ls hI hN hS hl
    unfold fX6_ofBand_n_83 at h
    exact W.iret hx hb hr (cg_endr h hI hK hN hS) hS.2.2 dX6_ofBand_83
  unfold fX6_ofBand_n at h
  refine lv_aload_n hx hb dX6_ofBand_0 rfl (lv_at hl 0 rfl) ?_
  refine lv_iload_n hx hb dX6_ofBand_1 rfl (lv_at hl 1 rfl) ?_
  obtain ⟨q1, c2, h⟩ := cl1_ok h
  refine cg_callr (k := 10) (q := q1) (va_runV (As := [.int a1]) (rest := []) ⟨hx, hb, hml, hown, hts⟩ (mX6_bandAt_n l D G A ad Z a1 q1 c2) (cwV 1 hts gX6_ofBand_X6_bandAt rfl rfl rfl (by decide +kernel) ⟨Nat.le_of_ble_eq_true rfl, Nat.le_of_ble_eq_true rfl⟩) (cg_preV hI hK hN rfl rfl (ci := 7) rfl) rfl rfl hl.1 rfl (lv_room (Nat.le_of_ble_eq_true rfl)) dX6_ofBand_2 ⟨Nat.le_of_ble_eq_true rfl, Nat.le_of_ble_eq_true rfl⟩) hS (fun H locs hI hN hS => ?_)
  refine lv_astore_n (lv' := [(3, .ref (ad 10 q1)), (0, .ref (ad 0 0)), (1, .int a1), (2, .int a2)]) hx hb dX6_ofBand_5 rfl hl (by decide) rfl (fun ls hl => ?_)
  refine lv_iload_n hx hb dX6_ofBand_6 rfl (lv_at hl 3 rfl) ?_
  refine lv_iconst (v := (0 : Int32)) hx hb dX6_ofBand_7 (by decide) ?_
  refine lv_iconst (v := (4 : Int32)) hx hb dX6_ofBand_8 (by decide) ?_
  obtain ⟨_, c3, h⟩ := cl1_ok h
  refine cg_callv (va_runS (As := [.int a2, .int (0 : Int32), .int (4 : Int32)]) (rest := []) ⟨hx, hb, hml, hown, hts⟩ (mX6_requireRange_n l D G A ad Z a2 (0 : Int32) (4 : Int32) c3) (va_cwS 3 hts gX6_ofBand_X6_requireRange rfl rfl rfl (by decide +kernel) ⟨Nat.le_of_ble_eq_true rfl, Nat.le_of_ble_eq_true rfl⟩) (cg_preS hI hK hN) rfl rfl hl.1 rfl (lv_room (Nat.le_of_ble_eq_true rfl)) dX6_ofBand_9 ⟨Nat.le_of_ble_eq_true rfl, Nat.le_of_ble_eq_true rfl⟩) hS (fun H locs hI hN hS => ?_)
  refine lv_iload_n hx hb dX6_ofBand_12 rfl (lv_at hl 3 rfl) ?_
  by_cases hs0 : a2 = (0 : Int32)
  · have h := ite_t h hs0
    refine lv_tableIn (tgt := 44) hx hb dX6_ofBand_13 (by rw [hs0]; decide) (by rw [hs0]; decide) (by rw [hs0]; rfl) (by decide) ?_
    refine lv_aload_n hx hb dX6_ofBand_44 rfl (lv_at hl 0 rfl) ?_
    obtain ⟨g4, h⟩ := gd_ok h
    refine cg_get (T := TX0) (N := 7) (ci := 1) hx hb hts iwsX00 hown hK hN g4 rfl rfl 0 (by decide) l0 rfl (v := .ref (ad 3 (q1 + 4))) rfl dX6_ofBand_45 ?_
    obtain ⟨g5, h⟩ := gd_ok h
    obtain ⟨v6, c7, h⟩ := cl1_ok h
    refine cg_calli (va_runV (As := []) (rest := []) ⟨hx, hb, hml, hown, hts⟩ (mJx4a65c_size_8abf5 l D G A ad Z (q1 + 4) v6 c7) (cwV 0 hts gX6_ofBand_Jx4a65c_size_8abf5 rfl rfl rfl (by decide +kernel) ⟨Nat.le_of_ble_eq_true rfl, Nat.le_of_ble_eq_true rfl⟩) (cg_preV hI hK hN g5 rfl (ci := 0) rfl) rfl rfl hl.1 rfl (lv_room (Nat.le_of_ble_eq_true rfl)) dX6_ofBand_48 ⟨Nat.le_of_ble_eq_true rfl, Nat.le_of_ble_eq_true rfl⟩) hS (fun H locs hI hN hS => ?_)
    exact W.iret hx hb hr (cg_endr h hI hK hN hS) hS.2.2 dX6_ofBand_51
  · have h := ite_f h hs0
    by_cases hs1 : a2 = (1 : Int32)
    · have h := ite_t h hs1
      refine lv_tableIn (tgt := 52) hx hb dX6_ofBand_13 (by rw [hs1]; decide) (by rw [hs1]; decide) (by rw [hs1]; rfl) (by decide) ?_
      refine lv_aload_n hx hb dX6_ofBand_52 rfl (lv_at hl 0 rfl) ?_
      obtain ⟨g8, h⟩ := gd_ok h
      refine cg_get (T := TX0) (N := 7) (ci := 1) hx hb hts iwsX00 hown hK hN g8 rfl rfl 3 (by decide) l1 rfl (v := .int (Z.1 10 q1 3)) rfl dX6_ofBand_53 ?_
      exact W.iret hx hb hr (cg_endr h hI hK hN hS) hS.2.2 dX6_ofBand_56
    · have h := ite_f h hs1
      by_cases hs2 : a2 = (2 : Int32)
      · have h := ite_t h hs2
        refine lv_tableIn (tgt := 57) hx hb dX6_ofBand_13 (by rw [hs2]; decide) (by rw [hs2]; decide) (by rw [hs2]; rfl) (by decide) ?_
        refine lv_aload_n hx hb dX6_ofBand_57 rfl (lv_at hl 0 rfl) ?_
        obtain ⟨g9, h⟩ := gd_ok h
        obtain ⟨v10, c11, h⟩ := cl1_ok h
        refine cg_calli (va_runV (As := []) (rest := []) ⟨hx, hb, hml, hown, hts⟩ (mX0_phraseCount l D G A ad Z q1 v10 c11) (cwV 0 hts gX6_ofBand_X0_phraseCount rfl rfl rfl (by decide +kernel) ⟨Nat.le_of_ble_eq_true rfl, Nat.le_of_ble_eq_true rfl⟩) (cg_preV hI hK hN g9 rfl (ci := 1) rfl) rfl rfl hl.1 rfl (lv_room (Nat.le_of_ble_eq_true rfl)) dX6_ofBand_58 ⟨Nat.le_of_ble_eq_true rfl, Nat.le_of_ble_eq_true rfl⟩) hS (fun H locs hI hN hS => ?_)
        exact W.iret hx hb hr (cg_endr h hI hK hN hS) hS.2.2 dX6_ofBand_61
      · have h := ite_f h hs2
        by_cases hs3 : a2 = (3 : Int32)
        · have h := ite_t h hs3
          refine lv_tableIn (tgt := 62) hx hb dX6_ofBand_13 (by rw [hs3]; decide) (by rw [hs3]; decide) (by rw [hs3]; rfl) (by decide) ?_
          refine lv_aload_n hx hb dX6_ofBand_62 rfl (lv_at hl 0 rfl) ?_
          obtain ⟨g12, h⟩ := gd_ok h
          refine cg_get (T := TX0) (N := 7) (ci := 1) hx hb hts iwsX00 hown hK hN g12 rfl rfl 5 (by decide) l2 rfl (v := .int (Z.1 10 q1 5)) rfl dX6_ofBand_63 ?_
          exact W.iret hx hb hr (cg_endr h hI hK hN hS) hS.2.2 dX6_ofBand_66
        · have h := ite_f h hs3
          have ht0 := ne_toInt (0 : Int32) (n := 0) (by decide) hs0
          have ht1 := ne_toInt (1 : Int32) (n := 1) (by decide) hs1
          have ht2 := ne_toInt (2 : Int32) (n := 2) (by decide) hs2
          have ht3 := ne_toInt (3 : Int32) (n := 3) (by decide) hs3
          refine lv_tableOut (tgt := 67) hx hb dX6_ofBand_13 (by omega) (by decide) ?_
          refine lv_aload_n hx hb dX6_ofBand_67 rfl (lv_at hl 0 rfl) ?_
          obtain ⟨g13, h⟩ := gd_ok h
          refine cg_get (T := TX0) (N := 7) (ci := 1) hx hb hts iwsX00 hown hK hN g13 rfl rfl 4 (by decide) l3 rfl (v := .int (Z.1 10 q1 4)) rfl dX6_ofBand_68 ?_
          refine lv_aload_n hx hb dX6_ofBand_71 rfl (lv_at hl 1 rfl) ?_
          refine cg_get (T := TX6) (N := 7) (ci := 7) hx hb hts iwsX60 hown hK hN rfl rfl rfl 6 (by decide) l4 rfl (v := .int (Z.1 0 0 6)) rfl dX6_ofBand_72 ?_
          refine lv_icmp_ne (tgt := 82) hx hb dX6_ofBand_75 (by decide) (fun hc => ?_) (fun hc => ?_)
          · have h := ite_f h hc
            refine lv_iconst (v := (0 : Int32)) hx hb dX6_ofBand_82 (by decide) ?_
            exact w83  (0 : Int32) h _ _ _ hI hN hS (lv_sub hl [] rfl)
          · have h := ite_t h hc
            refine lv_iconst (v := (1 : Int32)) hx hb dX6_ofBand_78 (by decide) ?_
            refine lv_goto (tgt := 83) hx hb dX6_ofBand_79 (by decide) ?_
            exact w83  (1 : Int32) h _ _ _ hI hN hS (lv_sub hl [] rfl)
def fX6_leaps_n (a1 : Int32) (Z : CZ) : Option (Int32 × CZ) := cl1 (fX6_bandAt_n a1 Z) (fun q1 => cl2 (fX2_findBest q1 (-1 : Int32) Z) (fun v3 Z4 => some (v3, Z4)))
def rmX6_leaps_n : Room := { frames := 7, cells := 0, slots := 0, locals := 180 }
set_option maxHeartbeats 4000000 in
set_option maxRecDepth 100000 in
theorem mX6_leaps_n (l : Launch) (D : va_G) (G : CGT) (A : Nat → Prop) (ad : Nat → Nat → Nat) (Z : CZ) (a1 : Int32) (rz : Int32) (Zz : CZ) (h : fX6_leaps_n a1 Z = some (rz, Zz)) : Met l yX6_leaps wsX6_leaps rmX6_leaps_n (va_Pc [.ref (ad 0 0), .int a1] (cP D G A ad Z)) (cQi D G A ad rz Zz) 0 0 A := by
  refine Met.ofW (cc := cX6_leaps) (maxL := 2) (ret := some .int) (by decide) rfl ?_
  intro p e s m args below meth c s₁ B hml hv
  obtain ⟨rfl, hI, hN, hK⟩ := hv
  have hx := B.exec
  have hb := B.bytes
  have hr := B.returns
  have hts := atoms_spec (ws := wsX6_leaps) B.pre
  have hown : s.vm.findClass RX6 = some m.cls := findClass_of_methodNamed B.named
  have hlocks := B.notSynchronized
  have iwsX60 : ∀ w ∈ wsX60, w ∈ wsX6_leaps := fun w h => List.mem_cons_of_mem _ (List.mem_append_left _ (List.mem_append_left _ (List.mem_append_left _ (List.mem_append_left _ (List.mem_append_left _ (List.mem_append_left _ (List.mem_append_right _ h)))))))
  have l0 := hts (.fieldLink RX6 32 "Panyard" "parts" "LPanyard$Parts;") (List.mem_of_getElem? (i := 1) rfl)
  have hS : va_S A s.heap s.heap [] := va_S.rf
  have hl := lv_entry ([.ref (ad 0 0), .int a1]) (n := 2) (Nat.le_of_ble_eq_true rfl)
  rw [lg_entry_eq]
  generalize (lg_sl ([.ref (ad 0 0), .int a1]) ++ List.replicate (2 - (lg_sl ([.ref (ad 0 0), .int a1])).length) Slot.unset).toArray = ls at hl ⊢
  have hl : lv_has ls 2 [(0, .ref (ad 0 0)), (1, .int a1)] := hl
  unfold fX6_leaps_n at h
  refine lv_aload_n hx hb dX6_leaps_0 rfl (lv_at hl 0 rfl) ?_
  refine cg_get (T := TX6) (N := 7) (ci := 7) hx hb hts iwsX60 hown hK hN rfl rfl rfl 4 (by decide) l0 rfl (v := .ref (ad 2 0)) rfl dX6_leaps_1 ?_
  refine lv_aload_n hx hb dX6_leaps_4 rfl (lv_at hl 0 rfl) ?_
  refine lv_iload_n hx hb dX6_leaps_5 rfl (lv_at hl 1 rfl) ?_
  obtain ⟨q1, c2, h⟩ := cl1_ok h
  refine cg_callr (k := 10) (q := q1) (va_runV (As := [.int a1]) (rest := [.ref (ad 2 0)]) ⟨hx, hb, hml, hown, hts⟩ (mX6_bandAt_n l D G A ad Z a1 q1 c2) (cwV 1 hts gX6_leaps_X6_bandAt rfl rfl rfl (by decide +kernel) ⟨Nat.le_of_ble_eq_true rfl, Nat.le_of_ble_eq_true rfl⟩) (cg_preV hI hK hN rfl rfl (ci := 7) rfl) rfl rfl hl.1 rfl (lv_room (Nat.le_of_ble_eq_true rfl)) dX6_leaps_6 ⟨Nat.le_of_ble_eq_true rfl, Nat.le_of_ble_eq_true rfl⟩) hS (fun H locs hI hN hS => ?_)
  refine lv_iconst (v := (-1 : Int32)) hx hb dX6_leaps_9 (by decide) ?_
  obtain ⟨v3, Z4, c5, h⟩ := cl2_ok h
  refine cg_calli (va_runV (As := [.ref (ad 10 q1), .int (-1 : Int32)]) (rest := []) ⟨hx, hb, hml, hown, hts⟩ (mX2_findBest l D G A ad Z q1 (-1 : Int32) v3 Z4 c5) (cwV 2 hts gX6_leaps_X2_findBest rfl rfl rfl (by decide +kernel) ⟨Nat.le_of_ble_eq_true rfl, Nat.le_of_ble_eq_true rfl⟩) (cg_preV hI hK hN rfl rfl (ci := 3) rfl) rfl rfl hl.1 rfl (lv_room (Nat.le_of_ble_eq_true rfl)) dX6_leaps_10 ⟨Nat.le_of_ble_eq_true rfl, Nat.le_of_ble_eq_true rfl⟩) hS (fun H locs hI hN hS => ?_)
  exact W.iret hx hb hr (cg_endi h hI hK hN hS) hS.2.2 dX6_leaps_13
def fX6_part_n_37 (t0 : Int32) (Z : CZ) : Option (Int32 × CZ) := some (t0, Z)
def fX6_part_n (a1 : Int32) (a2 : Int32) (Z : CZ) : Option (Int32 × CZ) := cl1 (fX6_bandAt_n a1 Z) (fun q1 => cl1 (fX6_requirePhrase_n q1 a2 Z) (fun _ => cl2 (fX2_findBest q1 (-1 : Int32) Z) (fun v4 Z5 => (if v4 = (-1 : Int32) then fX6_part_n_37 (-1 : Int32) Z5 else gd (gin a2 6) (fX6_part_n_37 (Z5.1 16 0 (Int32.toNatClampNeg a2)) Z5)))))
def rmX6_part_n : Room := { frames := 7, cells := 0, slots := 0, locals := 180 }
set_option maxHeartbeats 4000000 in
set_option maxRecDepth 100000 in
theorem mX6_part_n (l : Launch) (D : va_G) (G : CGT) (A : Nat → Prop) (ad : Nat → Nat → Nat) (Z : CZ) (a1 : Int32) (a2 : Int32) (rz : Int32) (Zz : CZ) (h : fX6_part_n a1 a2 Z = some (rz, Zz)) : Met l yX6_part wsX6_part rmX6_part_n (va_Pc [.ref (ad 0 0), .int a1, .int a2] (cP D G A ad Z)) (cQi D G A ad rz Zz) 0 0 A := by
  refine Met.ofW (cc := cX6_part) (maxL := 4) (ret := some .int) (by decide) rfl ?_
  intro p e s m args below meth c s₁ B hml hv
  obtain ⟨rfl, hI, hN, hK⟩ := hv
  have hx := B.exec
  have hb := B.bytes
  have hr := B.returns
  have hts := atoms_spec (ws := wsX6_part) B.pre
  have hown : s.vm.findClass RX6 = some m.cls := findClass_of_methodNamed B.named
  have hlocks := B.notSynchronized
  have iwsX60 : ∀ w ∈ wsX60, w ∈ wsX6_part := fun w h => List.mem_cons_of_mem _ (List.mem_append_left _ (List.mem_append_left _ (List.mem_append_left _ (List.mem_append_left _ (List.mem_append_left _ (List.mem_append_left _ (List.mem_append_right _ h)))))))
  have iwsX20 : ∀ w ∈ wsX20, w ∈ wsX6_part := fun w h => List.mem_cons_of_mem _ (List.mem_append_left _ (List.mem_append_left _ (List.mem_append_left _ (List.mem_append_left _ (List.mem_append_left _ (List.mem_append_right _ h))))))
  have l0 := hts (.fieldLink RX6 32 "Panyard" "parts" "LPanyard$Parts;") (List.mem_of_getElem? (i := 1) rfl)
  have l1 := hts (.fieldLink RX6 225 "Panyard$Parts" "playing" "[I") (List.mem_of_getElem? (i := 2) rfl)
  have hS : va_S A s.heap s.heap [] := va_S.rf
  have hl := lv_entry ([.ref (ad 0 0), .int a1, .int a2]) (n := 4) (Nat.le_of_ble_eq_true rfl)
  rw [lg_entry_eq]
  generalize (lg_sl ([.ref (ad 0 0), .int a1, .int a2]) ++ List.replicate (4 - (lg_sl ([.ref (ad 0 0), .int a1, .int a2])).length) Slot.unset).toArray = ls at hl ⊢
  have hl : lv_has ls 4 [(0, .ref (ad 0 0)), (1, .int a1), (2, .int a2)] := hl
  have w37 : ∀ (t0 : Int32) (Z : CZ), fX6_part_n_37  t0 Z = some (rz, Zz) → cG p l e (headSpec wsX6_part rmX6_part_n).room s m (([.ref (ad 0 0), .int a1, .int a2] : List Value).toArray) below meth c (MQ below (cQi D G A ad rz Zz) (([.ref (ad 0 0), .int a1, .int a2] : List Value).toArray) s 0 0 A) D G A ad 0 0 4 Z 37 [] [.int t0] := by
    intro  t0 Z h H locs ls hI hN hS hl
    unfold fX6_part_n_37 at h
    exact W.iret hx hb hr (cg_endi h hI hK hN hS) hS.2.2 dX6_part_37
  unfold fX6_part_n at h
  refine lv_aload_n hx hb dX6_part_0 rfl (lv_at hl 0 rfl) ?_
  refine lv_iload_n hx hb dX6_part_1 rfl (lv_at hl 1 rfl) ?_
  obtain ⟨q1, c2, h⟩ := cl1_ok h
  refine cg_callr (k := 10) (q := q1) (va_runV (As := [.int a1]) (rest := []) ⟨hx, hb, hml, hown, hts⟩ (mX6_bandAt_n l D G A ad Z a1 q1 c2) (cwV 1 hts gX6_part_X6_bandAt rfl rfl rfl (by decide +kernel) ⟨Nat.le_of_ble_eq_true rfl, Nat.le_of_ble_eq_true rfl⟩) (cg_preV hI hK hN rfl rfl (ci := 7) rfl) rfl rfl hl.1 rfl (lv_room (Nat.le_of_ble_eq_true rfl)) dX6_part_2 ⟨Nat.le_of_ble_eq_true rfl, Nat.le_of_ble_eq_true rfl⟩) hS (fun H locs hI hN hS => ?_)
  refine lv_astore_n (lv' := [(3, .ref (ad 10 q1)), (0, .ref (ad 0 0)), (1, .int a1), (2, .int a2)]) hx hb dX6_part_5 rfl hl (by decide) rfl (fun ls hl => ?_)
  refine lv_aload_n hx hb dX6_part_6 rfl (lv_at hl 0 rfl) ?_
  refine lv_iload_n hx hb dX6_part_7 rfl (lv_at hl 3 rfl) ?_
  obtain ⟨_, c3, h⟩ := cl1_ok h
  refine cg_callv (va_runS (As := [.ref (ad 10 q1), .int a2]) (rest := []) ⟨hx, hb, hml, hown, hts⟩ (mX6_requirePhrase_n l D G A ad Z q1 a2 c3) (va_cwS 2 hts gX6_part_X6_requirePhrase rfl rfl rfl (by decide +kernel) ⟨Nat.le_of_ble_eq_true rfl, Nat.le_of_ble_eq_true rfl⟩) (cg_preS hI hK hN) rfl rfl hl.1 rfl (lv_room (Nat.le_of_ble_eq_true rfl)) dX6_part_8 ⟨Nat.le_of_ble_eq_true rfl, Nat.le_of_ble_eq_true rfl⟩) hS (fun H locs hI hN hS => ?_)
  refine lv_aload_n hx hb dX6_part_11 rfl (lv_at hl 1 rfl) ?_
  refine cg_get (T := TX6) (N := 7) (ci := 7) hx hb hts iwsX60 hown hK hN rfl rfl rfl 4 (by decide) l0 rfl (v := .ref (ad 2 0)) rfl dX6_part_12 ?_
  refine lv_aload_n hx hb dX6_part_15 rfl (lv_at hl 0 rfl) ?_
  refine lv_iconst (v := (-1 : Int32)) hx hb dX6_part_16 (by decide) ?_
  obtain ⟨v4, Z5, c6, h⟩ := cl2_ok h
  refine cg_calli (va_runV (As := [.ref (ad 10 q1), .int (-1 : Int32)]) (rest := []) ⟨hx, hb, hml, hown, hts⟩ (mX2_findBest l D G A ad Z q1 (-1 : Int32) v4 Z5 c6) (cwV 2 hts gX6_part_X2_findBest rfl rfl rfl (by decide +kernel) ⟨Nat.le_of_ble_eq_true rfl, Nat.le_of_ble_eq_true rfl⟩) (cg_preV hI hK hN rfl rfl (ci := 3) rfl) rfl rfl hl.1 rfl (lv_room (Nat.le_of_ble_eq_true rfl)) dX6_part_17 ⟨Nat.le_of_ble_eq_true rfl, Nat.le_of_ble_eq_true rfl⟩) hS (fun H locs hI hN hS => ?_)
  refine lv_iconst (v := (-1 : Int32)) hx hb dX6_part_20 (by decide) ?_
  refine lv_icmp_ne (tgt := 28) hx hb dX6_part_21 (by decide) (fun hc => ?_) (fun hc => ?_)
  · have h := ite_f h hc
    refine lv_aload_n hx hb dX6_part_28 rfl (lv_at hl 1 rfl) ?_
    refine cg_get (T := TX6) (N := 7) (ci := 7) hx hb hts iwsX60 hown hK hN rfl rfl rfl 4 (by decide) l0 rfl (v := .ref (ad 2 0)) rfl dX6_part_29 ?_
    refine cg_get (T := TX2) (N := 2) (ci := 3) hx hb hts iwsX20 hown hK hN rfl rfl rfl 0 (by decide) l1 rfl (v := .ref (ad 16 0)) rfl dX6_part_32 ?_
    refine lv_iload_n hx hb dX6_part_35 rfl (lv_at hl 3 rfl) ?_
    obtain ⟨g7, h⟩ := gd_ok h
    refine cg_ild hx hb hK hN rfl rfl (gin_ok g7) dX6_part_36 ?_
    exact w37  (Z5.1 16 0 (Int32.toNatClampNeg a2)) Z5 h _ _ _ hI hN hS (lv_sub hl [] rfl)
  · have h := ite_t h hc
    refine lv_iconst (v := (-1 : Int32)) hx hb dX6_part_24 (by decide) ?_
    refine lv_goto (tgt := 37) hx hb dX6_part_25 (by decide) ?_
    exact w37  (-1 : Int32) Z5 h _ _ _ hI hN hS (lv_sub hl [] rfl)
def fX6_without_n (a1 : Int32) (a2 : Int32) (Z : CZ) : Option (Int32 × CZ) := cl1 (fX6_bandAt_n a1 Z) (fun q1 => gd (cLv Z.2.2 10 q1) (gd (cLv Z.2.2 3 (q1 + 4)) (cl1 (fJx4a65c_size_8abf5 (q1 + 4) Z) (fun v5 => cl1 (fX6_requireIndex_n a2 v5 Z) (fun _ => cl2 (fX2_findBest q1 a2 Z) (fun v8 Z9 => some (v8, Z9)))))))
def rmX6_without_n : Room := { frames := 7, cells := 0, slots := 0, locals := 180 }
set_option maxHeartbeats 4000000 in
set_option maxRecDepth 100000 in
theorem mX6_without_n (l : Launch) (D : va_G) (G : CGT) (A : Nat → Prop) (ad : Nat → Nat → Nat) (Z : CZ) (a1 : Int32) (a2 : Int32) (rz : Int32) (Zz : CZ) (h : fX6_without_n a1 a2 Z = some (rz, Zz)) : Met l yX6_without wsX6_without rmX6_without_n (va_Pc [.ref (ad 0 0), .int a1, .int a2] (cP D G A ad Z)) (cQi D G A ad rz Zz) 0 0 A := by
  refine Met.ofW (cc := cX6_without) (maxL := 4) (ret := some .int) (by decide) rfl ?_
  intro p e s m args below meth c s₁ B hml hv
  obtain ⟨rfl, hI, hN, hK⟩ := hv
  have hx := B.exec
  have hb := B.bytes
  have hr := B.returns
  have hts := atoms_spec (ws := wsX6_without) B.pre
  have hown : s.vm.findClass RX6 = some m.cls := findClass_of_methodNamed B.named
  have hlocks := B.notSynchronized
  have iwsX00 : ∀ w ∈ wsX00, w ∈ wsX6_without := fun w h => List.mem_cons_of_mem _ (List.mem_append_left _ (List.mem_append_left _ (List.mem_append_left _ (List.mem_append_left _ (List.mem_append_left _ (List.mem_append_left _ (List.mem_append_right _ h)))))))
  have iwsX60 : ∀ w ∈ wsX60, w ∈ wsX6_without := fun w h => List.mem_cons_of_mem _ (List.mem_append_left _ (List.mem_append_left _ (List.mem_append_left _ (List.mem_append_left _ (List.mem_append_left _ (List.mem_append_right _ h))))))
  have l0 := hts (.fieldLink RX6 129 "Panyard$Band" "seats" "Ljava/util/ArrayList;") (List.mem_of_getElem? (i := 1) rfl)
  have l1 := hts (.fieldLink RX6 32 "Panyard" "parts" "LPanyard$Parts;") (List.mem_of_getElem? (i := 2) rfl)
  have hS : va_S A s.heap s.heap [] := va_S.rf
  have hl := lv_entry ([.ref (ad 0 0), .int a1, .int a2]) (n := 4) (Nat.le_of_ble_eq_true rfl)
  rw [lg_entry_eq]
  generalize (lg_sl ([.ref (ad 0 0), .int a1, .int a2]) ++ List.replicate (4 - (lg_sl ([.ref (ad 0 0), .int a1, .int a2])).length) Slot.unset).toArray = ls at hl ⊢
  have hl : lv_has ls 4 [(0, .ref (ad 0 0)), (1, .int a1), (2, .int a2)] := hl
  unfold fX6_without_n at h
  refine lv_aload_n hx hb dX6_without_0 rfl (lv_at hl 0 rfl) ?_
  refine lv_iload_n hx hb dX6_without_1 rfl (lv_at hl 1 rfl) ?_
  obtain ⟨q1, c2, h⟩ := cl1_ok h
  refine cg_callr (k := 10) (q := q1) (va_runV (As := [.int a1]) (rest := []) ⟨hx, hb, hml, hown, hts⟩ (mX6_bandAt_n l D G A ad Z a1 q1 c2) (cwV 1 hts gX6_without_X6_bandAt rfl rfl rfl (by decide +kernel) ⟨Nat.le_of_ble_eq_true rfl, Nat.le_of_ble_eq_true rfl⟩) (cg_preV hI hK hN rfl rfl (ci := 7) rfl) rfl rfl hl.1 rfl (lv_room (Nat.le_of_ble_eq_true rfl)) dX6_without_2 ⟨Nat.le_of_ble_eq_true rfl, Nat.le_of_ble_eq_true rfl⟩) hS (fun H locs hI hN hS => ?_)
  refine lv_astore_n (lv' := [(3, .ref (ad 10 q1)), (0, .ref (ad 0 0)), (1, .int a1), (2, .int a2)]) hx hb dX6_without_5 rfl hl (by decide) rfl (fun ls hl => ?_)
  refine lv_iload_n hx hb dX6_without_6 rfl (lv_at hl 3 rfl) ?_
  refine lv_aload_n hx hb dX6_without_7 rfl (lv_at hl 0 rfl) ?_
  obtain ⟨g3, h⟩ := gd_ok h
  refine cg_get (T := TX0) (N := 7) (ci := 1) hx hb hts iwsX00 hown hK hN g3 rfl rfl 0 (by decide) l0 rfl (v := .ref (ad 3 (q1 + 4))) rfl dX6_without_8 ?_
  obtain ⟨g4, h⟩ := gd_ok h
  obtain ⟨v5, c6, h⟩ := cl1_ok h
  refine cg_calli (va_runV (As := []) (rest := [.int a2]) ⟨hx, hb, hml, hown, hts⟩ (mJx4a65c_size_8abf5 l D G A ad Z (q1 + 4) v5 c6) (cwV 0 hts gX6_without_Jx4a65c_size_8abf5 rfl rfl rfl (by decide +kernel) ⟨Nat.le_of_ble_eq_true rfl, Nat.le_of_ble_eq_true rfl⟩) (cg_preV hI hK hN g4 rfl (ci := 0) rfl) rfl rfl hl.1 rfl (lv_room (Nat.le_of_ble_eq_true rfl)) dX6_without_11 ⟨Nat.le_of_ble_eq_true rfl, Nat.le_of_ble_eq_true rfl⟩) hS (fun H locs hI hN hS => ?_)
  obtain ⟨_, c7, h⟩ := cl1_ok h
  refine cg_callv (va_runS (As := [.int a2, .int v5]) (rest := []) ⟨hx, hb, hml, hown, hts⟩ (mX6_requireIndex_n l D G A ad Z a2 v5 c7) (va_cwS 2 hts gX6_without_X6_requireIndex rfl rfl rfl (by decide +kernel) ⟨Nat.le_of_ble_eq_true rfl, Nat.le_of_ble_eq_true rfl⟩) (cg_preS hI hK hN) rfl rfl hl.1 rfl (lv_room (Nat.le_of_ble_eq_true rfl)) dX6_without_14 ⟨Nat.le_of_ble_eq_true rfl, Nat.le_of_ble_eq_true rfl⟩) hS (fun H locs hI hN hS => ?_)
  refine lv_aload_n hx hb dX6_without_17 rfl (lv_at hl 1 rfl) ?_
  refine cg_get (T := TX6) (N := 7) (ci := 7) hx hb hts iwsX60 hown hK hN rfl rfl rfl 4 (by decide) l1 rfl (v := .ref (ad 2 0)) rfl dX6_without_18 ?_
  refine lv_aload_n hx hb dX6_without_21 rfl (lv_at hl 0 rfl) ?_
  refine lv_iload_n hx hb dX6_without_22 rfl (lv_at hl 3 rfl) ?_
  obtain ⟨v8, Z9, c10, h⟩ := cl2_ok h
  refine cg_calli (va_runV (As := [.ref (ad 10 q1), .int a2]) (rest := []) ⟨hx, hb, hml, hown, hts⟩ (mX2_findBest l D G A ad Z q1 a2 v8 Z9 c10) (cwV 2 hts gX6_without_X2_findBest rfl rfl rfl (by decide +kernel) ⟨Nat.le_of_ble_eq_true rfl, Nat.le_of_ble_eq_true rfl⟩) (cg_preV hI hK hN rfl rfl (ci := 3) rfl) rfl rfl hl.1 rfl (lv_room (Nat.le_of_ble_eq_true rfl)) dX6_without_23 ⟨Nat.le_of_ble_eq_true rfl, Nat.le_of_ble_eq_true rfl⟩) hS (fun H locs hI hN hS => ?_)
  exact W.iret hx hb hr (cg_endi h hI hK hN hS) hS.2.2 dX6_without_26
def fX6_score_n (a1 : Int32) (Z : CZ) : Option (Int32) := cl1 (fX6_bandAt_n a1 Z) (fun q1 => gd (cLv Z.2.2 10 q1) (cl1 (fX0_isRanked q1 Z) (fun v4 => cl1 (fX6_requireState_n v4 Z) (fun _ => cl1 (fX0_countScore q1 Z) (fun v7 => some v7)))))
def rmX6_score_n : Room := { frames := 5, cells := 0, slots := 0, locals := 115 }
set_option maxHeartbeats 4000000 in
set_option maxRecDepth 100000 in
theorem mX6_score_n (l : Launch) (D : va_G) (G : CGT) (A : Nat → Prop) (ad : Nat → Nat → Nat) (Z : CZ) (a1 : Int32) (rz : Int32) (h : fX6_score_n a1 Z = some rz) : Met l yX6_score wsX6_score rmX6_score_n (va_Pc [.ref (ad 0 0), .int a1] (cP D G A ad Z)) (cQi D G A ad rz Z) 0 0 A := by
  refine Met.ofW (cc := cX6_score) (maxL := 3) (ret := some .int) (by decide) rfl ?_
  intro p e s m args below meth c s₁ B hml hv
  obtain ⟨rfl, hI, hN, hK⟩ := hv
  have hx := B.exec
  have hb := B.bytes
  have hr := B.returns
  have hts := atoms_spec (ws := wsX6_score) B.pre
  have hown : s.vm.findClass RX6 = some m.cls := findClass_of_methodNamed B.named
  have hlocks := B.notSynchronized
  have hS : va_S A s.heap s.heap [] := va_S.rf
  have hl := lv_entry ([.ref (ad 0 0), .int a1]) (n := 3) (Nat.le_of_ble_eq_true rfl)
  rw [lg_entry_eq]
  generalize (lg_sl ([.ref (ad 0 0), .int a1]) ++ List.replicate (3 - (lg_sl ([.ref (ad 0 0), .int a1])).length) Slot.unset).toArray = ls at hl ⊢
  have hl : lv_has ls 3 [(0, .ref (ad 0 0)), (1, .int a1)] := hl
  unfold fX6_score_n at h
  refine lv_aload_n hx hb dX6_score_0 rfl (lv_at hl 0 rfl) ?_
  refine lv_iload_n hx hb dX6_score_1 rfl (lv_at hl 1 rfl) ?_
  obtain ⟨q1, c2, h⟩ := cl1_ok h
  refine cg_callr (k := 10) (q := q1) (va_runV (As := [.int a1]) (rest := []) ⟨hx, hb, hml, hown, hts⟩ (mX6_bandAt_n l D G A ad Z a1 q1 c2) (cwV 1 hts gX6_score_X6_bandAt rfl rfl rfl (by decide +kernel) ⟨Nat.le_of_ble_eq_true rfl, Nat.le_of_ble_eq_true rfl⟩) (cg_preV hI hK hN rfl rfl (ci := 7) rfl) rfl rfl hl.1 rfl (lv_room (Nat.le_of_ble_eq_true rfl)) dX6_score_2 ⟨Nat.le_of_ble_eq_true rfl, Nat.le_of_ble_eq_true rfl⟩) hS (fun H locs hI hN hS => ?_)
  refine lv_astore_n (lv' := [(2, .ref (ad 10 q1)), (0, .ref (ad 0 0)), (1, .int a1)]) hx hb dX6_score_5 rfl hl (by decide) rfl (fun ls hl => ?_)
  refine lv_aload_n hx hb dX6_score_6 rfl (lv_at hl 0 rfl) ?_
  obtain ⟨g3, h⟩ := gd_ok h
  obtain ⟨v4, c5, h⟩ := cl1_ok h
  refine cg_calli (va_runV (As := []) (rest := []) ⟨hx, hb, hml, hown, hts⟩ (mX0_isRanked l D G A ad Z q1 v4 c5) (cwV 0 hts gX6_score_X0_isRanked rfl rfl rfl (by decide +kernel) ⟨Nat.le_of_ble_eq_true rfl, Nat.le_of_ble_eq_true rfl⟩) (cg_preV hI hK hN g3 rfl (ci := 1) rfl) rfl rfl hl.1 rfl (lv_room (Nat.le_of_ble_eq_true rfl)) dX6_score_7 ⟨Nat.le_of_ble_eq_true rfl, Nat.le_of_ble_eq_true rfl⟩) hS (fun H locs hI hN hS => ?_)
  obtain ⟨_, c6, h⟩ := cl1_ok h
  refine cg_callv (va_runS (As := [.int v4]) (rest := []) ⟨hx, hb, hml, hown, hts⟩ (mX6_requireState_n l D G A ad Z v4 c6) (va_cwS 1 hts gX6_score_X6_requireState rfl rfl rfl (by decide +kernel) ⟨Nat.le_of_ble_eq_true rfl, Nat.le_of_ble_eq_true rfl⟩) (cg_preS hI hK hN) rfl rfl hl.1 rfl (lv_room (Nat.le_of_ble_eq_true rfl)) dX6_score_10 ⟨Nat.le_of_ble_eq_true rfl, Nat.le_of_ble_eq_true rfl⟩) hS (fun H locs hI hN hS => ?_)
  refine lv_aload_n hx hb dX6_score_13 rfl (lv_at hl 0 rfl) ?_
  obtain ⟨v7, c8, h⟩ := cl1_ok h
  refine cg_calli (va_runV (As := []) (rest := []) ⟨hx, hb, hml, hown, hts⟩ (mX0_countScore l D G A ad Z q1 v7 c8) (cwV 0 hts gX6_score_X0_countScore rfl rfl rfl (by decide +kernel) ⟨Nat.le_of_ble_eq_true rfl, Nat.le_of_ble_eq_true rfl⟩) (cg_preV hI hK hN g3 rfl (ci := 1) rfl) rfl rfl hl.1 rfl (lv_room (Nat.le_of_ble_eq_true rfl)) dX6_score_14 ⟨Nat.le_of_ble_eq_true rfl, Nat.le_of_ble_eq_true rfl⟩) hS (fun H locs hI hN hS => ?_)
  exact W.iret hx hb hr (cg_endr h hI hK hN hS) hS.2.2 dX6_score_17
def fX6_rank_n_44 (Z : CZ) (x2 : Int32) : Option (Int32) := some x2
def fX6_rank_n_46 (Z : CZ) (k7 : Int32 → Int32 → Option (Int32)) (x1 : Int32) (x2 : Int32) : Option (Int32) := bnd (x2 + (1 : Int32)) (fun v11 => k7 x1 v11)
def fX6_rank_n_52 (Z : CZ) : Option (Int32) := some (-1 : Int32)
def fX6_rank_n_7 (Z : CZ) (k7 : Int32 → Int32 → Option (Int32)) (x1 : Int32) (x2 : Int32) : Option (Int32) := cl1 (fJx4a65c_size_8abf5 2 Z) (fun v2 => (if v2 ≤ x2 then fX6_rank_n_52 Z else cl1 (fJx4a65c_get_915e3 2 x2 Z) (fun q4 => gd (cLv Z.2.2 10 q4) (cl1 (fX0_isRanked q4 Z) (fun v7 => (if v7 = 0 then fX6_rank_n_46 Z k7 x1 x2 else cl1 (fX6_countAhead_n x2 Z) (fun v9 => (if v9 = x1 then fX6_rank_n_44 Z x2 else fX6_rank_n_46 Z k7 x1 x2))))))))
def fX6_rank_n (a1 : Int32) (Z : CZ) : Option (Int32) := cl1 (fX6_requireIndex_n a1 (4 : Int32) Z) (fun _ => lf2 (fX6_rank_n_7 Z) 100 a1 (0 : Int32))
def rmX6_rank_n : Room := { frames := 7, cells := 0, slots := 0, locals := 164 }
set_option maxHeartbeats 4000000 in
set_option maxRecDepth 100000 in
theorem mX6_rank_n (l : Launch) (D : va_G) (G : CGT) (A : Nat → Prop) (ad : Nat → Nat → Nat) (Z : CZ) (a1 : Int32) (rz : Int32) (h : fX6_rank_n a1 Z = some rz) : Met l yX6_rank wsX6_rank rmX6_rank_n (va_Pc [.ref (ad 0 0), .int a1] (cP D G A ad Z)) (cQi D G A ad rz Z) 0 0 A := by
  refine Met.ofW (cc := cX6_rank) (maxL := 3) (ret := some .int) (by decide) rfl ?_
  intro p e s m args below meth c s₁ B hml hv
  obtain ⟨rfl, hI, hN, hK⟩ := hv
  have hx := B.exec
  have hb := B.bytes
  have hr := B.returns
  have hts := atoms_spec (ws := wsX6_rank) B.pre
  have hown : s.vm.findClass RX6 = some m.cls := findClass_of_methodNamed B.named
  have hlocks := B.notSynchronized
  have iwsX60 : ∀ w ∈ wsX60, w ∈ wsX6_rank := fun w h => List.mem_cons_of_mem _ (List.mem_append_left _ (List.mem_append_left _ (List.mem_append_left _ (List.mem_append_right _ h))))
  have l0 := hts (.fieldLink RX6 19 "Panyard" "bands" "Ljava/util/ArrayList;") (List.mem_of_getElem? (i := 1) rfl)
  have l1 := hts (.classLink RX6 36 "Panyard$Band") (List.mem_of_getElem? (i := 2) rfl)
  have hS : va_S A s.heap s.heap [] := va_S.rf
  have hl := lv_entry ([.ref (ad 0 0), .int a1]) (n := 3) (Nat.le_of_ble_eq_true rfl)
  rw [lg_entry_eq]
  generalize (lg_sl ([.ref (ad 0 0), .int a1]) ++ List.replicate (3 - (lg_sl ([.ref (ad 0 0), .int a1])).length) Slot.unset).toArray = ls at hl ⊢
  have hl : lv_has ls 3 [(0, .ref (ad 0 0)), (1, .int a1)] := hl
  have w44 : ∀ (x2 : Int32), fX6_rank_n_44 Z x2 = some rz → cG p l e (headSpec wsX6_rank rmX6_rank_n).room s m (([.ref (ad 0 0), .int a1] : List Value).toArray) below meth c (MQ below (cQi D G A ad rz Z) (([.ref (ad 0 0), .int a1] : List Value).toArray) s 0 0 A) D G A ad 0 0 3 Z 44 [(2, .int x2)] [] := by
    intro  x2 h H locs ls hI hN hS hl
    unfold fX6_rank_n_44 at h
    refine lv_iload_n hx hb dX6_rank_44 rfl (lv_at hl 0 rfl) ?_
    exact W.iret hx hb hr (cg_endr h hI hK hN hS) hS.2.2 dX6_rank_45
  have w46 : ∀ (k7 : Int32 → Int32 → Option (Int32)) (hk7 : (∀ (x1 : Int32) (x2 : Int32), k7 x1 x2 = some rz → cG p l e (headSpec wsX6_rank rmX6_rank_n).room s m (([.ref (ad 0 0), .int a1] : List Value).toArray) below meth c (MQ below (cQi D G A ad rz Z) (([.ref (ad 0 0), .int a1] : List Value).toArray) s 0 0 A) D G A ad 0 0 3 Z 7 [(0, .ref (ad 0 0)), (1, .int x1), (2, .int x2)] [])) (x1 : Int32) (x2 : Int32), fX6_rank_n_46 Z k7 x1 x2 = some rz → cG p l e (headSpec wsX6_rank rmX6_rank_n).room s m (([.ref (ad 0 0), .int a1] : List Value).toArray) below meth c (MQ below (cQi D G A ad rz Z) (([.ref (ad 0 0), .int a1] : List Value).toArray) s 0 0 A) D G A ad 0 0 3 Z 46 [(0, .ref (ad 0 0)), (1, .int x1), (2, .int x2)] [] := by
    intro k7 hk7 x1 x2 h H locs ls hI hN hS hl
    unfold fX6_rank_n_46 at h
    obtain ⟨v11, ev11⟩ : ∃ y : Int32, y = (x2 + (1 : Int32)) := ⟨_, rfl⟩
    have h := bnd_ok h ev11
    refine lv_iinc (v := v11) (lv' := [(2, .int v11), (0, .ref (ad 0 0)), (1, .int x1)]) hx hb dX6_rank_46 hl (k := 2) rfl (by rw [ev11]; rfl) (by decide) rfl (fun ls hl => ?_)
    refine lv_goto (tgt := 7) hx hb dX6_rank_49 (by decide) ?_
    exact hk7 x1 v11 h _ _ _ hI hN hS (lv_sub hl [1, 2, 0] rfl)
  have w52 : fX6_rank_n_52 Z  = some rz → cG p l e (headSpec wsX6_rank rmX6_rank_n).room s m (([.ref (ad 0 0), .int a1] : List Value).toArray) below meth c (MQ below (cQi D G A ad rz Z) (([.ref (ad 0 0), .int a1] : List Value).toArray) s 0 0 A) D G A ad 0 0 3 Z 52 [] [] := by
    intro   h H locs ls hI hN hS hl
    unfold fX6_rank_n_52 at h
    refine lv_iconst (v := (-1 : Int32)) hx hb dX6_rank_52 (by decide) ?_
    exact W.iret hx hb hr (cg_endr h hI hK hN hS) hS.2.2 dX6_rank_53
  have w7 : ∀ (x1 : Int32) (x2 : Int32), lf2 (fX6_rank_n_7 Z) 100 x1 x2 = some rz → cG p l e (headSpec wsX6_rank rmX6_rank_n).room s m (([.ref (ad 0 0), .int a1] : List Value).toArray) below meth c (MQ below (cQi D G A ad rz Z) (([.ref (ad 0 0), .int a1] : List Value).toArray) s 0 0 A) D G A ad 0 0 3 Z 7 [(0, .ref (ad 0 0)), (1, .int x1), (2, .int x2)] [] := by
    refine lf2_ok (P := (fun x1 x2 => cG p l e (headSpec wsX6_rank rmX6_rank_n).room s m (([.ref (ad 0 0), .int a1] : List Value).toArray) below meth c (MQ below (cQi D G A ad rz Z) (([.ref (ad 0 0), .int a1] : List Value).toArray) s 0 0 A) D G A ad 0 0 3 Z 7 [(0, .ref (ad 0 0)), (1, .int x1), (2, .int x2)] [])) (fun k7 hk7 x1 x2 h H locs ls hI hN hS hl => ?_) 100
    unfold fX6_rank_n_7 at h
    refine lv_iload_n hx hb dX6_rank_7 rfl (lv_at hl 2 rfl) ?_
    refine lv_aload_n hx hb dX6_rank_8 rfl (lv_at hl 0 rfl) ?_
    refine cg_get (T := TX6) (N := 7) (ci := 7) hx hb hts iwsX60 hown hK hN rfl rfl rfl 2 (by decide) l0 rfl (v := .ref (ad 3 2)) rfl dX6_rank_9 ?_
    obtain ⟨v2, c3, h⟩ := cl1_ok h
    refine cg_calli (va_runV (As := []) (rest := [.int x2]) ⟨hx, hb, hml, hown, hts⟩ (mJx4a65c_size_8abf5 l D G A ad Z 2 v2 c3) (cwV 0 hts gX6_rank_Jx4a65c_size_8abf5 rfl rfl rfl (by decide +kernel) ⟨Nat.le_of_ble_eq_true rfl, Nat.le_of_ble_eq_true rfl⟩) (cg_preV hI hK hN rfl rfl (ci := 0) rfl) rfl rfl hl.1 rfl (lv_room (Nat.le_of_ble_eq_true rfl)) dX6_rank_12 ⟨Nat.le_of_ble_eq_true rfl, Nat.le_of_ble_eq_true rfl⟩) hS (fun H locs hI hN hS => ?_)
    refine lv_icmp_ge (tgt := 52) hx hb dX6_rank_15 (by decide) (fun hc => ?_) (fun hc => ?_)
    · have h := ite_t h hc
      exact w52   h _ _ _ hI hN hS (lv_sub hl [] rfl)
    · have h := ite_f h hc
      refine lv_aload_n hx hb dX6_rank_18 rfl (lv_at hl 0 rfl) ?_
      refine cg_get (T := TX6) (N := 7) (ci := 7) hx hb hts iwsX60 hown hK hN rfl rfl rfl 2 (by decide) l0 rfl (v := .ref (ad 3 2)) rfl dX6_rank_19 ?_
      refine lv_iload_n hx hb dX6_rank_22 rfl (lv_at hl 2 rfl) ?_
      obtain ⟨q4, c5, h⟩ := cl1_ok h
      refine cg_callr (k := 10) (q := q4) (va_runV (As := [.int x2]) (rest := []) ⟨hx, hb, hml, hown, hts⟩ (mJx4a65c_get_915e3 l D G A ad Z 2 x2 q4 c5) (cwV 1 hts gX6_rank_Jx4a65c_get_915e3 rfl rfl rfl (by decide +kernel) ⟨Nat.le_of_ble_eq_true rfl, Nat.le_of_ble_eq_true rfl⟩) (cg_preV hI hK hN rfl rfl (ci := 0) rfl) rfl rfl hl.1 rfl (lv_room (Nat.le_of_ble_eq_true rfl)) dX6_rank_23 ⟨Nat.le_of_ble_eq_true rfl, Nat.le_of_ble_eq_true rfl⟩) hS (fun H locs hI hN hS => ?_)
      obtain ⟨g6, h⟩ := gd_ok h
      refine va_castS hx hb hown l1 (hK.1.1 1 _ rfl).2 (cg_recv hK hN g6 rfl (ci := 1) rfl) dX6_rank_26 ?_
      obtain ⟨v7, c8, h⟩ := cl1_ok h
      refine cg_calli (va_runV (As := []) (rest := []) ⟨hx, hb, hml, hown, hts⟩ (mX0_isRanked l D G A ad Z q4 v7 c8) (cwV 0 hts gX6_rank_X0_isRanked rfl rfl rfl (by decide +kernel) ⟨Nat.le_of_ble_eq_true rfl, Nat.le_of_ble_eq_true rfl⟩) (cg_preV hI hK hN g6 rfl (ci := 1) rfl) rfl rfl hl.1 rfl (lv_room (Nat.le_of_ble_eq_true rfl)) dX6_rank_29 ⟨Nat.le_of_ble_eq_true rfl, Nat.le_of_ble_eq_true rfl⟩) hS (fun H locs hI hN hS => ?_)
      refine lv_if_eq (tgt := 46) hx hb dX6_rank_32 (by decide) (fun hc => ?_) (fun hc => ?_)
      · have h := ite_t h hc
        exact w46 k7 hk7 x1 x2 h _ _ _ hI hN hS (lv_sub hl [0, 1, 2] rfl)
      · have h := ite_f h hc
        refine lv_aload_n hx hb dX6_rank_35 rfl (lv_at hl 0 rfl) ?_
        refine lv_iload_n hx hb dX6_rank_36 rfl (lv_at hl 2 rfl) ?_
        obtain ⟨v9, c10, h⟩ := cl1_ok h
        refine cg_calli (va_runV (As := [.int x2]) (rest := []) ⟨hx, hb, hml, hown, hts⟩ (mX6_countAhead_n l D G A ad Z x2 v9 c10) (cwV 1 hts gX6_rank_X6_countAhead rfl rfl rfl (by decide +kernel) ⟨Nat.le_of_ble_eq_true rfl, Nat.le_of_ble_eq_true rfl⟩) (cg_preV hI hK hN rfl rfl (ci := 7) rfl) rfl rfl hl.1 rfl (lv_room (Nat.le_of_ble_eq_true rfl)) dX6_rank_37 ⟨Nat.le_of_ble_eq_true rfl, Nat.le_of_ble_eq_true rfl⟩) hS (fun H locs hI hN hS => ?_)
        refine lv_iload_n hx hb dX6_rank_40 rfl (lv_at hl 1 rfl) ?_
        refine lv_icmp_ne (tgt := 46) hx hb dX6_rank_41 (by decide) (fun hc => ?_) (fun hc => ?_)
        · have h := ite_f h hc
          exact w46 k7 hk7 x1 x2 h _ _ _ hI hN hS (lv_sub hl [0, 1, 2] rfl)
        · have h := ite_t h hc
          exact w44  x2 h _ _ _ hI hN hS (lv_sub hl [2] rfl)
  unfold fX6_rank_n at h
  refine lv_iload_n hx hb dX6_rank_0 rfl (lv_at hl 1 rfl) ?_
  refine lv_iconst (v := (4 : Int32)) hx hb dX6_rank_1 (by decide) ?_
  obtain ⟨_, c1, h⟩ := cl1_ok h
  refine cg_callv (va_runS (As := [.int a1, .int (4 : Int32)]) (rest := []) ⟨hx, hb, hml, hown, hts⟩ (mX6_requireIndex_n l D G A ad Z a1 (4 : Int32) c1) (va_cwS 2 hts gX6_rank_X6_requireIndex rfl rfl rfl (by decide +kernel) ⟨Nat.le_of_ble_eq_true rfl, Nat.le_of_ble_eq_true rfl⟩) (cg_preS hI hK hN) rfl rfl hl.1 rfl (lv_room (Nat.le_of_ble_eq_true rfl)) dX6_rank_2 ⟨Nat.le_of_ble_eq_true rfl, Nat.le_of_ble_eq_true rfl⟩) hS (fun H locs hI hN hS => ?_)
  refine lv_iconst (v := (0 : Int32)) hx hb dX6_rank_5 (by decide) ?_
  refine lv_istore_n (lv' := [(2, .int (0 : Int32)), (0, .ref (ad 0 0)), (1, .int a1)]) hx hb dX6_rank_6 rfl hl (by decide) rfl (fun ls hl => ?_)
  exact w7  a1 (0 : Int32) h _ _ _ hI hN hS (lv_sub hl [1, 2, 0] rfl)
