def fX6_bandAt_n (a1 : Int32) (Z : CZ) : Option (Nat) := cl1 (fJx4a65c_size_8abf5 2 Z) (fun v1 => cl1 (fX6_requireIndex_n a1 v1 Z) (fun _ => cl1 (fJx4a65c_get_915e3 2 a1 Z) (fun q4 => gd (cLv Z.2.2 10 q4) (some q4))))
def rmX6_bandAt_n : Room := { frames := 4, cells := 0, slots := 0, locals := 94 }
set_option maxHeartbeats 4000000 in
set_option maxRecDepth 100000 in
theorem mX6_bandAt_n (l : Launch) (D : va_G) (G : CGT) (A : Nat → Prop) (ad : Nat → Nat → Nat) (Z : CZ) (a1 : Int32) (rz : Nat) (h : fX6_bandAt_n a1 Z = some rz) : Met l yX6_bandAt wsX6_bandAt rmX6_bandAt_n (va_Pc [.ref (ad 0 0), .int a1] (cP D G A ad Z)) (cQr D G A ad 10 rz Z) 0 0 A := by
  refine Met.ofW (cc := cX6_bandAt) (maxL := 2) (ret := some (.object "Panyard$Band")) (by decide) rfl ?_
  intro p e s m args below meth c s₁ B hml hv
  obtain ⟨rfl, hI, hN, hK⟩ := hv
  have hx := B.exec
  have hb := B.bytes
  have hr := B.returns
  have hts := atoms_spec (ws := wsX6_bandAt) B.pre
  have hown : s.vm.findClass RX6 = some m.cls := findClass_of_methodNamed B.named
  have hlocks := B.notSynchronized
  have iwsX60 : ∀ w ∈ wsX60, w ∈ wsX6_bandAt := fun w h => List.mem_cons_of_mem _ (List.mem_append_left _ (List.mem_append_left _ (List.mem_append_right _ h)))
  have l0 := hts (.fieldLink RX6 19 "Panyard" "bands" "Ljava/util/ArrayList;") (List.mem_of_getElem? (i := 1) rfl)
  have l1 := hts (.classLink RX6 36 "Panyard$Band") (List.mem_of_getElem? (i := 2) rfl)
  have hS : va_S A s.heap s.heap [] := va_S.rf
  have hl := lv_entry ([.ref (ad 0 0), .int a1]) (n := 2) (Nat.le_of_ble_eq_true rfl)
  rw [lg_entry_eq]
  generalize (lg_sl ([.ref (ad 0 0), .int a1]) ++ List.replicate (2 - (lg_sl ([.ref (ad 0 0), .int a1])).length) Slot.unset).toArray = ls at hl ⊢
  have hl : lv_has ls 2 [(0, .ref (ad 0 0)), (1, .int a1)] := hl
  unfold fX6_bandAt_n at h
  refine lv_iload_n hx hb dX6_bandAt_0 rfl (lv_at hl 1 rfl) ?_
  refine lv_aload_n hx hb dX6_bandAt_1 rfl (lv_at hl 0 rfl) ?_
  refine cg_get (T := TX6) (N := 7) (ci := 7) hx hb hts iwsX60 hown hK hN rfl rfl rfl 2 (by decide) l0 rfl (v := .ref (ad 3 2)) rfl dX6_bandAt_2 ?_
  obtain ⟨v1, c2, h⟩ := cl1_ok h
  refine cg_calli (va_runV (As := []) (rest := [.int a1]) ⟨hx, hb, hml, hown, hts⟩ (mJx4a65c_size_8abf5 l D G A ad Z 2 v1 c2) (cwV 0 hts gX6_bandAt_Jx4a65c_size_8abf5 rfl rfl rfl (by decide +kernel) ⟨Nat.le_of_ble_eq_true rfl, Nat.le_of_ble_eq_true rfl⟩) (cg_preV hI hK hN rfl rfl (ci := 0) rfl) rfl rfl hl.1 rfl (lv_room (Nat.le_of_ble_eq_true rfl)) dX6_bandAt_5 ⟨Nat.le_of_ble_eq_true rfl, Nat.le_of_ble_eq_true rfl⟩) hS (fun H locs hI hN hS => ?_)
  obtain ⟨_, c3, h⟩ := cl1_ok h
  refine cg_callv (va_runS (As := [.int a1, .int v1]) (rest := []) ⟨hx, hb, hml, hown, hts⟩ (mX6_requireIndex_n l D G A ad Z a1 v1 c3) (va_cwS 2 hts gX6_bandAt_X6_requireIndex rfl rfl rfl (by decide +kernel) ⟨Nat.le_of_ble_eq_true rfl, Nat.le_of_ble_eq_true rfl⟩) (cg_preS hI hK hN) rfl rfl hl.1 rfl (lv_room (Nat.le_of_ble_eq_true rfl)) dX6_bandAt_8 ⟨Nat.le_of_ble_eq_true rfl, Nat.le_of_ble_eq_true rfl⟩) hS (fun H locs hI hN hS => ?_)
  refine lv_aload_n hx hb dX6_bandAt_11 rfl (lv_at hl 0 rfl) ?_
  refine cg_get (T := TX6) (N := 7) (ci := 7) hx hb hts iwsX60 hown hK hN rfl rfl rfl 2 (by decide) l0 rfl (v := .ref (ad 3 2)) rfl dX6_bandAt_12 ?_
  refine lv_iload_n hx hb dX6_bandAt_15 rfl (lv_at hl 1 rfl) ?_
  obtain ⟨q4, c5, h⟩ := cl1_ok h
  refine cg_callr (k := 10) (q := q4) (va_runV (As := [.int a1]) (rest := []) ⟨hx, hb, hml, hown, hts⟩ (mJx4a65c_get_915e3 l D G A ad Z 2 a1 q4 c5) (cwV 1 hts gX6_bandAt_Jx4a65c_get_915e3 rfl rfl rfl (by decide +kernel) ⟨Nat.le_of_ble_eq_true rfl, Nat.le_of_ble_eq_true rfl⟩) (cg_preV hI hK hN rfl rfl (ci := 0) rfl) rfl rfl hl.1 rfl (lv_room (Nat.le_of_ble_eq_true rfl)) dX6_bandAt_16 ⟨Nat.le_of_ble_eq_true rfl, Nat.le_of_ble_eq_true rfl⟩) hS (fun H locs hI hN hS => ?_)
  obtain ⟨g6, h⟩ := gd_ok h
  refine va_castS hx hb hown l1 (hK.1.1 1 _ rfl).2 (cg_recv hK hN g6 rfl (ci := 1) rfl) dX6_bandAt_19 ?_
  exact W.aret hx hb hr (Or.inl ⟨_, rfl⟩) (Or.inr ⟨_, rfl⟩) (cg_endq h hI hK hN hS) hS.2.2 dX6_bandAt_22
def fX6_isAhead_n_54 (Z : CZ) (t0 : Int32) : Option (Int32) := gd (gbo t0) (some t0)
def fX6_isAhead_n_97 (Z : CZ) (t0 : Int32) : Option (Int32) := gd (gbo t0) (some t0)
def fX6_isAhead_n (a1 : Int32) (a2 : Int32) (Z : CZ) : Option (Int32) := cl1 (fX6_bandAt_n a1 Z) (fun q1 => cl1 (fX6_bandAt_n a2 Z) (fun q3 => gd (cLv Z.2.2 10 q1) (cl1 (fX0_isRanked q1 Z) (fun v6 => (if v6 = 0 then some (0 : Int32) else cl1 (fX0_countScore q1 Z) (fun v8 => gd (cLv Z.2.2 10 q3) (cl1 (fX0_countScore q3 Z) (fun v11 => (if v8 = v11 then (if (Z.1 10 q1 5) = (Z.1 10 q3 5) then (if a2 ≤ a1 then fX6_isAhead_n_97 Z (0 : Int32) else fX6_isAhead_n_97 Z (1 : Int32)) else (if (Z.1 10 q3 5) ≤ (Z.1 10 q1 5) then fX6_isAhead_n_97 Z (0 : Int32) else fX6_isAhead_n_97 Z (1 : Int32))) else (if v8 ≤ v11 then fX6_isAhead_n_54 Z (0 : Int32) else fX6_isAhead_n_54 Z (1 : Int32)))))))))))
def rmX6_isAhead_n : Room := { frames := 5, cells := 0, slots := 0, locals := 115 }
set_option maxHeartbeats 4000000 in
set_option maxRecDepth 100000 in
theorem mX6_isAhead_n (l : Launch) (D : va_G) (G : CGT) (A : Nat → Prop) (ad : Nat → Nat → Nat) (Z : CZ) (a1 : Int32) (a2 : Int32) (rz : Int32) (h : fX6_isAhead_n a1 a2 Z = some rz) : Met l yX6_isAhead wsX6_isAhead rmX6_isAhead_n (va_Pc [.ref (ad 0 0), .int a1, .int a2] (cP D G A ad Z)) (cQi D G A ad rz Z) 0 0 A := by
  refine Met.ofW (cc := cX6_isAhead) (maxL := 7) (ret := some .boolean) (by decide) rfl ?_
  intro p e s m args below meth c s₁ B hml hv
  obtain ⟨rfl, hI, hN, hK⟩ := hv
  have hx := B.exec
  have hb := B.bytes
  have hr := B.returns
  have hts := atoms_spec (ws := wsX6_isAhead) B.pre
  have hown : s.vm.findClass RX6 = some m.cls := findClass_of_methodNamed B.named
  have hlocks := B.notSynchronized
  have iwsX00 : ∀ w ∈ wsX00, w ∈ wsX6_isAhead := fun w h => List.mem_cons_of_mem _ (List.mem_append_left _ (List.mem_append_left _ (List.mem_append_left _ (List.mem_append_right _ h))))
  have l0 := hts (.fieldLink RX6 218 "Panyard$Band" "heard" "I") (List.mem_of_getElem? (i := 1) rfl)
  have hS : va_S A s.heap s.heap [] := va_S.rf
  have hl := lv_entry ([.ref (ad 0 0), .int a1, .int a2]) (n := 7) (Nat.le_of_ble_eq_true rfl)
  rw [lg_entry_eq]
  generalize (lg_sl ([.ref (ad 0 0), .int a1, .int a2]) ++ List.replicate (7 - (lg_sl ([.ref (ad 0 0), .int a1, .int a2])).length) Slot.unset).toArray = ls at hl ⊢
  have hl : lv_has ls 7 [(0, .ref (ad 0 0)), (1, .int a1), (2, .int a2)] := hl
  have w54 : ∀ (t0 : Int32), fX6_isAhead_n_54 Z t0 = some rz → cG p l e (headSpec wsX6_isAhead rmX6_isAhead_n).room s m (([.ref (ad 0 0), .int a1, .int a2] : List Value).toArray) below meth c (MQ below (cQi D G A ad rz Z) (([.ref (ad 0 0), .int a1, .int a2] : List Value).toArray) s 0 0 A) D G A ad 0 0 7 Z 54 [] [.int t0] := by
    intro  t0 h H locs ls hI hN hS hl
    unfold fX6_isAhead_n_54 at h
    obtain ⟨g14, h⟩ := gd_ok h
    exact W.zret hx hb hr (gbo_ok g14) (cg_endr h hI hK hN hS) hS.2.2 dX6_isAhead_54
  have w97 : ∀ (t0 : Int32), fX6_isAhead_n_97 Z t0 = some rz → cG p l e (headSpec wsX6_isAhead rmX6_isAhead_n).room s m (([.ref (ad 0 0), .int a1, .int a2] : List Value).toArray) below meth c (MQ below (cQi D G A ad rz Z) (([.ref (ad 0 0), .int a1, .int a2] : List Value).toArray) s 0 0 A) D G A ad 0 0 7 Z 97 [] [.int t0] := by
    intro  t0 h H locs ls hI hN hS hl
    unfold fX6_isAhead_n_97 at h
    obtain ⟨g13, h⟩ := gd_ok h
    exact W.zret hx hb hr (gbo_ok g13) (cg_endr h hI hK hN hS) hS.2.2 dX6_isAhead_97
  unfold fX6_isAhead_n at h
  refine lv_aload_n hx hb dX6_isAhead_0 rfl (lv_at hl 0 rfl) ?_
  refine lv_iload_n hx hb dX6_isAhead_1 rfl (lv_at hl 1 rfl) ?_
  obtain ⟨q1, c2, h⟩ := cl1_ok h
  refine cg_callr (k := 10) (q := q1) (va_runV (As := [.int a1]) (rest := []) ⟨hx, hb, hml, hown, hts⟩ (mX6_bandAt_n l D G A ad Z a1 q1 c2) (cwV 1 hts gX6_isAhead_X6_bandAt rfl rfl rfl (by decide +kernel) ⟨Nat.le_of_ble_eq_true rfl, Nat.le_of_ble_eq_true rfl⟩) (cg_preV hI hK hN rfl rfl (ci := 7) rfl) rfl rfl hl.1 rfl (lv_room (Nat.le_of_ble_eq_true rfl)) dX6_isAhead_2 ⟨Nat.le_of_ble_eq_true rfl, Nat.le_of_ble_eq_true rfl⟩) hS (fun H locs hI hN hS => ?_)
  refine lv_astore_n (lv' := [(3, .ref (ad 10 q1)), (0, .ref (ad 0 0)), (1, .int a1), (2, .int a2)]) hx hb dX6_isAhead_5 rfl hl (by decide) rfl (fun ls hl => ?_)
  refine lv_aload_n hx hb dX6_isAhead_6 rfl (lv_at hl 1 rfl) ?_
  refine lv_iload_n hx hb dX6_isAhead_7 rfl (lv_at hl 3 rfl) ?_
  obtain ⟨q3, c4, h⟩ := cl1_ok h
  refine cg_callr (k := 10) (q := q3) (va_runV (As := [.int a2]) (rest := []) ⟨hx, hb, hml, hown, hts⟩ (mX6_bandAt_n l D G A ad Z a2 q3 c4) (cwV 1 hts gX6_isAhead_X6_bandAt rfl rfl rfl (by decide +kernel) ⟨Nat.le_of_ble_eq_true rfl, Nat.le_of_ble_eq_true rfl⟩) (cg_preV hI hK hN rfl rfl (ci := 7) rfl) rfl rfl hl.1 rfl (lv_room (Nat.le_of_ble_eq_true rfl)) dX6_isAhead_8 ⟨Nat.le_of_ble_eq_true rfl, Nat.le_of_ble_eq_true rfl⟩) hS (fun H locs hI hN hS => ?_)
  refine lv_astore (lv' := [(4, .ref (ad 10 q3)), (3, .ref (ad 10 q1)), (0, .ref (ad 0 0)), (1, .int a1), (2, .int a2)]) hx hb dX6_isAhead_11 hl (by decide) rfl (fun ls hl => ?_)
  refine lv_aload_n hx hb dX6_isAhead_13 rfl (lv_at hl 1 rfl) ?_
  obtain ⟨g5, h⟩ := gd_ok h
  obtain ⟨v6, c7, h⟩ := cl1_ok h
  refine cg_calli (va_runV (As := []) (rest := []) ⟨hx, hb, hml, hown, hts⟩ (mX0_isRanked l D G A ad Z q1 v6 c7) (cwV 0 hts gX6_isAhead_X0_isRanked rfl rfl rfl (by decide +kernel) ⟨Nat.le_of_ble_eq_true rfl, Nat.le_of_ble_eq_true rfl⟩) (cg_preV hI hK hN g5 rfl (ci := 1) rfl) rfl rfl hl.1 rfl (lv_room (Nat.le_of_ble_eq_true rfl)) dX6_isAhead_14 ⟨Nat.le_of_ble_eq_true rfl, Nat.le_of_ble_eq_true rfl⟩) hS (fun H locs hI hN hS => ?_)
  refine lv_if_ne (tgt := 22) hx hb dX6_isAhead_17 (by decide) (fun hc => ?_) (fun hc => ?_)
  · have h := ite_f h hc
    refine lv_aload_n hx hb dX6_isAhead_22 rfl (lv_at hl 1 rfl) ?_
    obtain ⟨v8, c9, h⟩ := cl1_ok h
    refine cg_calli (va_runV (As := []) (rest := []) ⟨hx, hb, hml, hown, hts⟩ (mX0_countScore l D G A ad Z q1 v8 c9) (cwV 0 hts gX6_isAhead_X0_countScore rfl rfl rfl (by decide +kernel) ⟨Nat.le_of_ble_eq_true rfl, Nat.le_of_ble_eq_true rfl⟩) (cg_preV hI hK hN g5 rfl (ci := 1) rfl) rfl rfl hl.1 rfl (lv_room (Nat.le_of_ble_eq_true rfl)) dX6_isAhead_23 ⟨Nat.le_of_ble_eq_true rfl, Nat.le_of_ble_eq_true rfl⟩) hS (fun H locs hI hN hS => ?_)
    refine lv_istore (lv' := [(5, .int v8), (4, .ref (ad 10 q3)), (3, .ref (ad 10 q1)), (0, .ref (ad 0 0)), (1, .int a1), (2, .int a2)]) hx hb dX6_isAhead_26 hl (by decide) rfl (fun ls hl => ?_)
    refine lv_aload hx hb dX6_isAhead_28 (lv_at hl 1 rfl) ?_
    obtain ⟨g10, h⟩ := gd_ok h
    obtain ⟨v11, c12, h⟩ := cl1_ok h
    refine cg_calli (va_runV (As := []) (rest := []) ⟨hx, hb, hml, hown, hts⟩ (mX0_countScore l D G A ad Z q3 v11 c12) (cwV 0 hts gX6_isAhead_X0_countScore rfl rfl rfl (by decide +kernel) ⟨Nat.le_of_ble_eq_true rfl, Nat.le_of_ble_eq_true rfl⟩) (cg_preV hI hK hN g10 rfl (ci := 1) rfl) rfl rfl hl.1 rfl (lv_room (Nat.le_of_ble_eq_true rfl)) dX6_isAhead_30 ⟨Nat.le_of_ble_eq_true rfl, Nat.le_of_ble_eq_true rfl⟩) hS (fun H locs hI hN hS => ?_)
    refine lv_istore (lv' := [(6, .int v11), (5, .int v8), (4, .ref (ad 10 q3)), (3, .ref (ad 10 q1)), (0, .ref (ad 0 0)), (1, .int a1), (2, .int a2)]) hx hb dX6_isAhead_33 hl (by decide) rfl (fun ls hl => ?_)
    refine lv_iload hx hb dX6_isAhead_35 (lv_at hl 1 rfl) ?_
    refine lv_iload hx hb dX6_isAhead_37 (lv_at hl 0 rfl) ?_
    refine lv_icmp_eq (tgt := 55) hx hb dX6_isAhead_39 (by decide) (fun hc => ?_) (fun hc => ?_)
    · have h := ite_t h hc
      refine lv_aload_n hx hb dX6_isAhead_55 rfl (lv_at hl 3 rfl) ?_
      refine cg_get (T := TX0) (N := 7) (ci := 1) hx hb hts iwsX00 hown hK hN g5 rfl rfl 5 (by decide) l0 rfl (v := .int (Z.1 10 q1 5)) rfl dX6_isAhead_56 ?_
      refine lv_aload hx hb dX6_isAhead_59 (lv_at hl 2 rfl) ?_
      refine cg_get (T := TX0) (N := 7) (ci := 1) hx hb hts iwsX00 hown hK hN g10 rfl rfl 5 (by decide) l0 rfl (v := .int (Z.1 10 q3 5)) rfl dX6_isAhead_61 ?_
      refine lv_icmp_eq (tgt := 87) hx hb dX6_isAhead_64 (by decide) (fun hc => ?_) (fun hc => ?_)
      · have h := ite_t h hc
        refine lv_iload_n hx hb dX6_isAhead_87 rfl (lv_at hl 5 rfl) ?_
        refine lv_iload_n hx hb dX6_isAhead_88 rfl (lv_at hl 6 rfl) ?_
        refine lv_icmp_ge (tgt := 96) hx hb dX6_isAhead_89 (by decide) (fun hc => ?_) (fun hc => ?_)
        · have h := ite_t h hc
          refine lv_iconst (v := (0 : Int32)) hx hb dX6_isAhead_96 (by decide) ?_
          exact w97  (0 : Int32) h _ _ _ hI hN hS (lv_sub hl [] rfl)
        · have h := ite_f h hc
          refine lv_iconst (v := (1 : Int32)) hx hb dX6_isAhead_92 (by decide) ?_
          refine lv_goto (tgt := 97) hx hb dX6_isAhead_93 (by decide) ?_
          exact w97  (1 : Int32) h _ _ _ hI hN hS (lv_sub hl [] rfl)
      · have h := ite_f h hc
        refine lv_aload_n hx hb dX6_isAhead_67 rfl (lv_at hl 3 rfl) ?_
        refine cg_get (T := TX0) (N := 7) (ci := 1) hx hb hts iwsX00 hown hK hN g5 rfl rfl 5 (by decide) l0 rfl (v := .int (Z.1 10 q1 5)) rfl dX6_isAhead_68 ?_
        refine lv_aload hx hb dX6_isAhead_71 (lv_at hl 2 rfl) ?_
        refine cg_get (T := TX0) (N := 7) (ci := 1) hx hb hts iwsX00 hown hK hN g10 rfl rfl 5 (by decide) l0 rfl (v := .int (Z.1 10 q3 5)) rfl dX6_isAhead_73 ?_
        refine lv_icmp_ge (tgt := 83) hx hb dX6_isAhead_76 (by decide) (fun hc => ?_) (fun hc => ?_)
        · have h := ite_t h hc
          refine lv_iconst (v := (0 : Int32)) hx hb dX6_isAhead_83 (by decide) ?_
          refine lv_goto (tgt := 97) hx hb dX6_isAhead_84 (by decide) ?_
          exact w97  (0 : Int32) h _ _ _ hI hN hS (lv_sub hl [] rfl)
        · have h := ite_f h hc
          refine lv_iconst (v := (1 : Int32)) hx hb dX6_isAhead_79 (by decide) ?_
          refine lv_goto (tgt := 97) hx hb dX6_isAhead_80 (by decide) ?_
          exact w97  (1 : Int32) h _ _ _ hI hN hS (lv_sub hl [] rfl)
    · have h := ite_f h hc
      refine lv_iload hx hb dX6_isAhead_42 (lv_at hl 1 rfl) ?_
      refine lv_iload hx hb dX6_isAhead_44 (lv_at hl 0 rfl) ?_
      refine lv_icmp_le (tgt := 53) hx hb dX6_isAhead_46 (by decide) (fun hc => ?_) (fun hc => ?_)
      · have h := ite_t h hc
        refine lv_iconst (v := (0 : Int32)) hx hb dX6_isAhead_53 (by decide) ?_
        exact w54  (0 : Int32) h _ _ _ hI hN hS (lv_sub hl [] rfl)
      · have h := ite_f h hc
        refine lv_iconst (v := (1 : Int32)) hx hb dX6_isAhead_49 (by decide) ?_
        refine lv_goto (tgt := 54) hx hb dX6_isAhead_50 (by decide) ?_
        exact w54  (1 : Int32) h _ _ _ hI hN hS (lv_sub hl [] rfl)
  · have h := ite_t h hc
    refine lv_iconst (v := (0 : Int32)) hx hb dX6_isAhead_20 (by decide) ?_
    exact W.zret hx hb hr rfl (cg_endr h hI hK hN hS) hS.2.2 dX6_isAhead_21
def fX6_countAhead_n_32 (Z : CZ) (k4 : Int32 → Int32 → Int32 → Option (Int32)) (x1 : Int32) (x2 : Int32) (x3 : Int32) : Option (Int32) := bnd (x3 + (1 : Int32)) (fun v6 => k4 x1 x2 v6)
def fX6_countAhead_n_38 (Z : CZ) (x2 : Int32) : Option (Int32) := some x2
def fX6_countAhead_n_4 (Z : CZ) (k4 : Int32 → Int32 → Int32 → Option (Int32)) (x1 : Int32) (x2 : Int32) (x3 : Int32) : Option (Int32) := cl1 (fJx4a65c_size_8abf5 2 Z) (fun v1 => (if v1 ≤ x3 then fX6_countAhead_n_38 Z x2 else (if x3 = x1 then fX6_countAhead_n_32 Z k4 x1 x2 x3 else cl1 (fX6_isAhead_n x3 x1 Z) (fun v3 => (if v3 = 0 then fX6_countAhead_n_32 Z k4 x1 x2 x3 else bnd (x2 + (1 : Int32)) (fun v5 => fX6_countAhead_n_32 Z k4 x1 v5 x3))))))
def fX6_countAhead_n (a1 : Int32) (Z : CZ) : Option (Int32) := lf3 (fX6_countAhead_n_4 Z) 100 a1 (0 : Int32) (0 : Int32)
def rmX6_countAhead_n : Room := { frames := 6, cells := 0, slots := 0, locals := 141 }
set_option maxHeartbeats 4000000 in
set_option maxRecDepth 100000 in
theorem mX6_countAhead_n (l : Launch) (D : va_G) (G : CGT) (A : Nat → Prop) (ad : Nat → Nat → Nat) (Z : CZ) (a1 : Int32) (rz : Int32) (h : fX6_countAhead_n a1 Z = some rz) : Met l yX6_countAhead wsX6_countAhead rmX6_countAhead_n (va_Pc [.ref (ad 0 0), .int a1] (cP D G A ad Z)) (cQi D G A ad rz Z) 0 0 A := by
  refine Met.ofW (cc := cX6_countAhead) (maxL := 4) (ret := some .int) (by decide) rfl ?_
  intro p e s m args below meth c s₁ B hml hv
  obtain ⟨rfl, hI, hN, hK⟩ := hv
  have hx := B.exec
  have hb := B.bytes
  have hr := B.returns
  have hts := atoms_spec (ws := wsX6_countAhead) B.pre
  have hown : s.vm.findClass RX6 = some m.cls := findClass_of_methodNamed B.named
  have hlocks := B.notSynchronized
  have iwsX60 : ∀ w ∈ wsX60, w ∈ wsX6_countAhead := fun w h => List.mem_cons_of_mem _ (List.mem_append_left _ (List.mem_append_left _ (List.mem_append_left _ (List.mem_append_right _ h))))
  have l0 := hts (.fieldLink RX6 19 "Panyard" "bands" "Ljava/util/ArrayList;") (List.mem_of_getElem? (i := 1) rfl)
  have hS : va_S A s.heap s.heap [] := va_S.rf
  have hl := lv_entry ([.ref (ad 0 0), .int a1]) (n := 4) (Nat.le_of_ble_eq_true rfl)
  rw [lg_entry_eq]
  generalize (lg_sl ([.ref (ad 0 0), .int a1]) ++ List.replicate (4 - (lg_sl ([.ref (ad 0 0), .int a1])).length) Slot.unset).toArray = ls at hl ⊢
  have hl : lv_has ls 4 [(0, .ref (ad 0 0)), (1, .int a1)] := hl
  have w32 : ∀ (k4 : Int32 → Int32 → Int32 → Option (Int32)) (hk4 : (∀ (x1 : Int32) (x2 : Int32) (x3 : Int32), k4 x1 x2 x3 = some rz → cG p l e (headSpec wsX6_countAhead rmX6_countAhead_n).room s m (([.ref (ad 0 0), .int a1] : List Value).toArray) below meth c (MQ below (cQi D G A ad rz Z) (([.ref (ad 0 0), .int a1] : List Value).toArray) s 0 0 A) D G A ad 0 0 4 Z 4 [(0, .ref (ad 0 0)), (1, .int x1), (2, .int x2), (3, .int x3)] [])) (x1 : Int32) (x2 : Int32) (x3 : Int32), fX6_countAhead_n_32 Z k4 x1 x2 x3 = some rz → cG p l e (headSpec wsX6_countAhead rmX6_countAhead_n).room s m (([.ref (ad 0 0), .int a1] : List Value).toArray) below meth c (MQ below (cQi D G A ad rz Z) (([.ref (ad 0 0), .int a1] : List Value).toArray) s 0 0 A) D G A ad 0 0 4 Z 32 [(0, .ref (ad 0 0)), (1, .int x1), (2, .int x2), (3, .int x3)] [] := by
    intro k4 hk4 x1 x2 x3 h H locs ls hI hN hS hl
    unfold fX6_countAhead_n_32 at h
    obtain ⟨v6, ev6⟩ : ∃ y : Int32, y = (x3 + (1 : Int32)) := ⟨_, rfl⟩
    have h := bnd_ok h ev6
    refine lv_iinc (v := v6) (lv' := [(3, .int v6), (0, .ref (ad 0 0)), (1, .int x1), (2, .int x2)]) hx hb dX6_countAhead_32 hl (k := 3) rfl (by rw [ev6]; rfl) (by decide) rfl (fun ls hl => ?_)
    refine lv_goto (tgt := 4) hx hb dX6_countAhead_35 (by decide) ?_
    exact hk4 x1 x2 v6 h _ _ _ hI hN hS (lv_sub hl [1, 2, 3, 0] rfl)
  have w38 : ∀ (x2 : Int32), fX6_countAhead_n_38 Z x2 = some rz → cG p l e (headSpec wsX6_countAhead rmX6_countAhead_n).room s m (([.ref (ad 0 0), .int a1] : List Value).toArray) below meth c (MQ below (cQi D G A ad rz Z) (([.ref (ad 0 0), .int a1] : List Value).toArray) s 0 0 A) D G A ad 0 0 4 Z 38 [(2, .int x2)] [] := by
    intro  x2 h H locs ls hI hN hS hl
    unfold fX6_countAhead_n_38 at h
    refine lv_iload_n hx hb dX6_countAhead_38 rfl (lv_at hl 0 rfl) ?_
    exact W.iret hx hb hr (cg_endr h hI hK hN hS) hS.2.2 dX6_countAhead_39
  have w4 : ∀ (x1 : Int32) (x2 : Int32) (x3 : Int32), lf3 (fX6_countAhead_n_4 Z) 100 x1 x2 x3 = some rz → cG p l e (headSpec wsX6_countAhead rmX6_countAhead_n).room s m (([.ref (ad 0 0), .int a1] : List Value).toArray) below meth c (MQ below (cQi D G A ad rz Z) (([.ref (ad 0 0), .int a1] : List Value).toArray) s 0 0 A) D G A ad 0 0 4 Z 4 [(0, .ref (ad 0 0)), (1, .int x1), (2, .int x2), (3, .int x3)] [] := by
    refine lf3_ok (P := (fun x1 x2 x3 => cG p l e (headSpec wsX6_countAhead rmX6_countAhead_n).room s m (([.ref (ad 0 0), .int a1] : List Value).toArray) below meth c (MQ below (cQi D G A ad rz Z) (([.ref (ad 0 0), .int a1] : List Value).toArray) s 0 0 A) D G A ad 0 0 4 Z 4 [(0, .ref (ad 0 0)), (1, .int x1), (2, .int x2), (3, .int x3)] [])) (fun k4 hk4 x1 x2 x3 h H locs ls hI hN hS hl => ?_) 100
    unfold fX6_countAhead_n_4 at h
    refine lv_iload_n hx hb dX6_countAhead_4 rfl (lv_at hl 3 rfl) ?_
    refine lv_aload_n hx hb dX6_countAhead_5 rfl (lv_at hl 0 rfl) ?_
    refine cg_get (T := TX6) (N := 7) (ci := 7) hx hb hts iwsX60 hown hK hN rfl rfl rfl 2 (by decide) l0 rfl (v := .ref (ad 3 2)) rfl dX6_countAhead_6 ?_
    obtain ⟨v1, c2, h⟩ := cl1_ok h
    refine cg_calli (va_runV (As := []) (rest := [.int x3]) ⟨hx, hb, hml, hown, hts⟩ (mJx4a65c_size_8abf5 l D G A ad Z 2 v1 c2) (cwV 0 hts gX6_countAhead_Jx4a65c_size_8abf5 rfl rfl rfl (by decide +kernel) ⟨Nat.le_of_ble_eq_true rfl, Nat.le_of_ble_eq_true rfl⟩) (cg_preV hI hK hN rfl rfl (ci := 0) rfl) rfl rfl hl.1 rfl (lv_room (Nat.le_of_ble_eq_true rfl)) dX6_countAhead_9 ⟨Nat.le_of_ble_eq_true rfl, Nat.le_of_ble_eq_true rfl⟩) hS (fun H locs hI hN hS => ?_)
    refine lv_icmp_ge (tgt := 38) hx hb dX6_countAhead_12 (by decide) (fun hc => ?_) (fun hc => ?_)
    · have h := ite_t h hc
      exact w38  x2 h _ _ _ hI hN hS (lv_sub hl [2] rfl)
    · have h := ite_f h hc
      refine lv_iload_n hx hb dX6_countAhead_15 rfl (lv_at hl 3 rfl) ?_
      refine lv_iload_n hx hb dX6_countAhead_16 rfl (lv_at hl 1 rfl) ?_
      refine lv_icmp_eq (tgt := 32) hx hb dX6_countAhead_17 (by decide) (fun hc => ?_) (fun hc => ?_)
      · have h := ite_t h hc
        exact w32 k4 hk4 x1 x2 x3 h _ _ _ hI hN hS (lv_sub hl [0, 1, 2, 3] rfl)
      · have h := ite_f h hc
        refine lv_aload_n hx hb dX6_countAhead_20 rfl (lv_at hl 0 rfl) ?_
        refine lv_iload_n hx hb dX6_countAhead_21 rfl (lv_at hl 3 rfl) ?_
        refine lv_iload_n hx hb dX6_countAhead_22 rfl (lv_at hl 1 rfl) ?_
        obtain ⟨v3, c4, h⟩ := cl1_ok h
        refine cg_calli (va_runV (As := [.int x3, .int x1]) (rest := []) ⟨hx, hb, hml, hown, hts⟩ (mX6_isAhead_n l D G A ad Z x3 x1 v3 c4) (cwV 2 hts gX6_countAhead_X6_isAhead rfl rfl rfl (by decide +kernel) ⟨Nat.le_of_ble_eq_true rfl, Nat.le_of_ble_eq_true rfl⟩) (cg_preV hI hK hN rfl rfl (ci := 7) rfl) rfl rfl hl.1 rfl (lv_room (Nat.le_of_ble_eq_true rfl)) dX6_countAhead_23 ⟨Nat.le_of_ble_eq_true rfl, Nat.le_of_ble_eq_true rfl⟩) hS (fun H locs hI hN hS => ?_)
        refine lv_if_eq (tgt := 32) hx hb dX6_countAhead_26 (by decide) (fun hc => ?_) (fun hc => ?_)
        · have h := ite_t h hc
          exact w32 k4 hk4 x1 x2 x3 h _ _ _ hI hN hS (lv_sub hl [0, 1, 2, 3] rfl)
        · have h := ite_f h hc
          obtain ⟨v5, ev5⟩ : ∃ y : Int32, y = (x2 + (1 : Int32)) := ⟨_, rfl⟩
          have h := bnd_ok h ev5
          refine lv_iinc (v := v5) (lv' := [(2, .int v5), (0, .ref (ad 0 0)), (1, .int x1), (3, .int x3)]) hx hb dX6_countAhead_29 hl (k := 2) rfl (by rw [ev5]; rfl) (by decide) rfl (fun ls hl => ?_)
          exact w32 k4 hk4 x1 v5 x3 h _ _ _ hI hN hS (lv_sub hl [1, 2, 0, 3] rfl)
  unfold fX6_countAhead_n at h
  refine lv_iconst (v := (0 : Int32)) hx hb dX6_countAhead_0 (by decide) ?_
  refine lv_istore_n (lv' := [(2, .int (0 : Int32)), (0, .ref (ad 0 0)), (1, .int a1)]) hx hb dX6_countAhead_1 rfl hl (by decide) rfl (fun ls hl => ?_)
  refine lv_iconst (v := (0 : Int32)) hx hb dX6_countAhead_2 (by decide) ?_
  refine lv_istore_n (lv' := [(3, .int (0 : Int32)), (2, .int (0 : Int32)), (0, .ref (ad 0 0)), (1, .int a1)]) hx hb dX6_countAhead_3 rfl hl (by decide) rfl (fun ls hl => ?_)
  exact w4  a1 (0 : Int32) (0 : Int32) h _ _ _ hI hN hS (lv_sub hl [2, 3, 1, 0] rfl)
def fX6_rank_44 (Z : CZ) (x2 : Int32) : Option ((Int32 ⊕ Int32)) := some (.inl x2)
def fX6_rank_46 (Z : CZ) (k7 : Int32 → Int32 → Option ((Int32 ⊕ Int32))) (x1 : Int32) (x2 : Int32) : Option ((Int32 ⊕ Int32)) := bnd (x2 + (1 : Int32)) (fun v13 => k7 x1 v13)
def fX6_rank_52 (Z : CZ) : Option ((Int32 ⊕ Int32)) := some (.inl (-1 : Int32))
def fX6_rank_7 (Z : CZ) (k7 : Int32 → Int32 → Option ((Int32 ⊕ Int32))) (x1 : Int32) (x2 : Int32) : Option ((Int32 ⊕ Int32)) := cl1 (fJx4a65c_size_8abf5 2 Z) (fun v4 => (if v4 ≤ x2 then fX6_rank_52 Z else cl1 (fJx4a65c_get_915e3 2 x2 Z) (fun q6 => gd (cLv Z.2.2 10 q6) (cl1 (fX0_isRanked q6 Z) (fun v9 => (if v9 = 0 then fX6_rank_46 Z k7 x1 x2 else cl1 (fX6_countAhead_n x2 Z) (fun v11 => (if v11 = x1 then fX6_rank_44 Z x2 else fX6_rank_46 Z k7 x1 x2))))))))
def fX6_rank (a1 : Int32) (Z : CZ) : Option ((Int32 ⊕ Int32)) := cx1 (fX6_requireIndex a1 (4 : Int32) Z) (fun x2 => some (.inr x2)) (fun _ => lf2 (fX6_rank_7 Z) 100 a1 (0 : Int32))
def rmX6_rank : Room := { frames := 7, cells := 1, slots := 6, locals := 164 }
set_option maxHeartbeats 4000000 in
set_option maxRecDepth 100000 in
theorem mX6_rank (l : Launch) (hfl : l.stackTraces = false) (D : va_G) (G : CGT) (A : Nat → Prop) (ad : Nat → Nat → Nat) (Z : CZ) (a1 : Int32) (rz : (Int32 ⊕ Int32)) (h : fX6_rank a1 Z = some rz) : vx_Met l yX6_rank wsX6_rank rmX6_rank (va_Pc [.ref (ad 0 0), .int a1] (xP D G A ad Z)) (xQi D G A ad rz Z) (xX D G A ad rz Z) 1 6 A := by
  refine vx_ofW (cc := cX6_rank) (maxL := 3) (ret := some .int) (by decide) rfl ?_
  intro p e s m args below meth c s₁ B hml hexc hv
  obtain ⟨rfl, ⟨hI, hN, hK⟩, hE⟩ := hv
  have hx := B.exec
  have hb := B.bytes
  have hr := B.returns
  have hts := atoms_spec (ws := wsX6_rank) B.pre
  have hown : s.vm.findClass RX6 = some m.cls := findClass_of_methodNamed B.named
  have hlocks := B.notSynchronized
  have iwsX60 : ∀ w ∈ wsX60, w ∈ wsX6_rank := fun w h => List.mem_cons_of_mem _ (List.mem_append_left _ (List.mem_append_left _ (List.mem_append_left _ (List.mem_append_right _ h))))
  have l0 := hts (.fieldLink RX6 19 "Panyard" "bands" "Ljava/util/ArrayList;") (List.mem_of_getElem? (i := 1) rfl)
  have l1 := hts (.classLink RX6 36 "Panyard$Band") (List.mem_of_getElem? (i := 2) rfl)
  have hS : va_S A s.heap s.heap [] := va_S.rf
  have hl := lv_entry ([.ref (ad 0 0), .int a1]) (n := 3) (Nat.le_of_ble_eq_true rfl)
  rw [lg_entry_eq]
  generalize (lg_sl ([.ref (ad 0 0), .int a1]) ++ List.replicate (3 - (lg_sl ([.ref (ad 0 0), .int a1])).length) Slot.unset).toArray = ls at hl ⊢
  have hl : lv_has ls 3 [(0, .ref (ad 0 0)), (1, .int a1)] := hl
  have w44 : ∀ (x2 : Int32), fX6_rank_44 Z x2 = some rz → cG p l e (headSpec wsX6_rank rmX6_rank).room s m (([.ref (ad 0 0), .int a1] : List Value).toArray) below meth c (vx_MQ below (xQi D G A ad rz Z) (xX D G A ad rz Z) (([.ref (ad 0 0), .int a1] : List Value).toArray) s 1 6 A) D G A ad 1 6 3 Z 44 [(2, .int x2)] [] := by
    intro  x2 h H locs ls hI hN hS hl
    unfold fX6_rank_44 at h
    refine lv_iload_n hx hb dX6_rank_44 rfl (lv_at hl 0 rfl) ?_
    exact vx_ret (W.widen (k := 1) (n := 6) (by decide) (by decide) (W.iret hx hb hr (xg_endr h hI hK hN hS) hS.2.2 dX6_rank_45))
  have w46 : ∀ (k7 : Int32 → Int32 → Option ((Int32 ⊕ Int32))) (hk7 : (∀ (x1 : Int32) (x2 : Int32), k7 x1 x2 = some rz → cG p l e (headSpec wsX6_rank rmX6_rank).room s m (([.ref (ad 0 0), .int a1] : List Value).toArray) below meth c (vx_MQ below (xQi D G A ad rz Z) (xX D G A ad rz Z) (([.ref (ad 0 0), .int a1] : List Value).toArray) s 1 6 A) D G A ad 1 6 3 Z 7 [(0, .ref (ad 0 0)), (1, .int x1), (2, .int x2)] [])) (x1 : Int32) (x2 : Int32), fX6_rank_46 Z k7 x1 x2 = some rz → cG p l e (headSpec wsX6_rank rmX6_rank).room s m (([.ref (ad 0 0), .int a1] : List Value).toArray) below meth c (vx_MQ below (xQi D G A ad rz Z) (xX D G A ad rz Z) (([.ref (ad 0 0), .int a1] : List Value).toArray) s 1 6 A) D G A ad 1 6 3 Z 46 [(0, .ref (ad 0 0)), (1, .int x1), (2, .int x2)] [] := by
    intro k7 hk7 x1 x2 h H locs ls hI hN hS hl
    unfold fX6_rank_46 at h
    obtain ⟨v13, ev13⟩ : ∃ y : Int32, y = (x2 + (1 : Int32)) := ⟨_, rfl⟩
    have h := bnd_ok h ev13
    refine lv_iinc (v := v13) (lv' := [(2, .int v13), (0, .ref (ad 0 0)), (1, .int x1)]) hx hb dX6_rank_46 hl (k := 2) rfl (by rw [ev13]; rfl) (by decide) rfl (fun ls hl => ?_)
    refine lv_goto (tgt := 7) hx hb dX6_rank_49 (by decide) ?_
    exact hk7 x1 v13 h _ _ _ hI hN hS (lv_sub hl [1, 2, 0] rfl)
  have w52 : fX6_rank_52 Z  = some rz → cG p l e (headSpec wsX6_rank rmX6_rank).room s m (([.ref (ad 0 0), .int a1] : List Value).toArray) below meth c (vx_MQ below (xQi D G A ad rz Z) (xX D G A ad rz Z) (([.ref (ad 0 0), .int a1] : List Value).toArray) s 1 6 A) D G A ad 1 6 3 Z 52 [] [] := by
    intro   h H locs ls hI hN hS hl
    unfold fX6_rank_52 at h
    refine lv_iconst (v := (-1 : Int32)) hx hb dX6_rank_52 (by decide) ?_
    exact vx_ret (W.widen (k := 1) (n := 6) (by decide) (by decide) (W.iret hx hb hr (xg_endr h hI hK hN hS) hS.2.2 dX6_rank_53))
  have w7 : ∀ (x1 : Int32) (x2 : Int32), lf2 (fX6_rank_7 Z) 100 x1 x2 = some rz → cG p l e (headSpec wsX6_rank rmX6_rank).room s m (([.ref (ad 0 0), .int a1] : List Value).toArray) below meth c (vx_MQ below (xQi D G A ad rz Z) (xX D G A ad rz Z) (([.ref (ad 0 0), .int a1] : List Value).toArray) s 1 6 A) D G A ad 1 6 3 Z 7 [(0, .ref (ad 0 0)), (1, .int x1), (2, .int x2)] [] := by
    refine lf2_ok (P := (fun x1 x2 => cG p l e (headSpec wsX6_rank rmX6_rank).room s m (([.ref (ad 0 0), .int a1] : List Value).toArray) below meth c (vx_MQ below (xQi D G A ad rz Z) (xX D G A ad rz Z) (([.ref (ad 0 0), .int a1] : List Value).toArray) s 1 6 A) D G A ad 1 6 3 Z 7 [(0, .ref (ad 0 0)), (1, .int x1), (2, .int x2)] [])) (fun k7 hk7 x1 x2 h H locs ls hI hN hS hl => ?_) 100
    unfold fX6_rank_7 at h
    refine lv_iload_n hx hb dX6_rank_7 rfl (lv_at hl 2 rfl) ?_
    refine lv_aload_n hx hb dX6_rank_8 rfl (lv_at hl 0 rfl) ?_
    refine cg_get (T := TX6) (N := 7) (ci := 7) hx hb hts iwsX60 hown hK hN rfl rfl rfl 2 (by decide) l0 rfl (v := .ref (ad 3 2)) rfl dX6_rank_9 ?_
    obtain ⟨v4, c5, h⟩ := cl1_ok h
    refine cg_calli (va_runV (As := []) (rest := [.int x2]) ⟨hx, hb, hml, hown, hts⟩ (mJx4a65c_size_8abf5 l D G A ad Z 2 v4 c5) (cwV 0 hts gX6_rank_Jx4a65c_size_8abf5 rfl rfl rfl (by decide +kernel) ⟨Nat.le_of_ble_eq_true rfl, Nat.le_of_ble_eq_true rfl⟩) (cg_preV hI hK hN rfl rfl (ci := 0) rfl) rfl rfl hl.1 rfl (lv_room (Nat.le_of_ble_eq_true rfl)) dX6_rank_12 ⟨Nat.le_of_ble_eq_true rfl, Nat.le_of_ble_eq_true rfl⟩) hS (fun H locs hI hN hS => ?_)
    refine lv_icmp_ge (tgt := 52) hx hb dX6_rank_15 (by decide) (fun hc => ?_) (fun hc => ?_)
    · have h := ite_t h hc
      exact w52   h _ _ _ hI hN hS (lv_sub hl [] rfl)
    · have h := ite_f h hc
      refine lv_aload_n hx hb dX6_rank_18 rfl (lv_at hl 0 rfl) ?_
      refine cg_get (T := TX6) (N := 7) (ci := 7) hx hb hts iwsX60 hown hK hN rfl rfl rfl 2 (by decide) l0 rfl (v := .ref (ad 3 2)) rfl dX6_rank_19 ?_
      refine lv_iload_n hx hb dX6_rank_22 rfl (lv_at hl 2 rfl) ?_
      obtain ⟨q6, c7, h⟩ := cl1_ok h
      refine cg_callr (k := 10) (q := q6) (va_runV (As := [.int x2]) (rest := []) ⟨hx, hb, hml, hown, hts⟩ (mJx4a65c_get_915e3 l D G A ad Z 2 x2 q6 c7) (cwV 1 hts gX6_rank_Jx4a65c_get_915e3 rfl rfl rfl (by decide +kernel) ⟨Nat.le_of_ble_eq_true rfl, Nat.le_of_ble_eq_true rfl⟩) (cg_preV hI hK hN rfl rfl (ci := 0) rfl) rfl rfl hl.1 rfl (lv_room (Nat.le_of_ble_eq_true rfl)) dX6_rank_23 ⟨Nat.le_of_ble_eq_true rfl, Nat.le_of_ble_eq_true rfl⟩) hS (fun H locs hI hN hS => ?_)
      obtain ⟨g8, h⟩ := gd_ok h
      refine va_castS hx hb hown l1 (hK.1.1 1 _ rfl).2 (cg_recv hK hN g8 rfl (ci := 1) rfl) dX6_rank_26 ?_
      obtain ⟨v9, c10, h⟩ := cl1_ok h
      refine cg_calli (va_runV (As := []) (rest := []) ⟨hx, hb, hml, hown, hts⟩ (mX0_isRanked l D G A ad Z q6 v9 c10) (cwV 0 hts gX6_rank_X0_isRanked rfl rfl rfl (by decide +kernel) ⟨Nat.le_of_ble_eq_true rfl, Nat.le_of_ble_eq_true rfl⟩) (cg_preV hI hK hN g8 rfl (ci := 1) rfl) rfl rfl hl.1 rfl (lv_room (Nat.le_of_ble_eq_true rfl)) dX6_rank_29 ⟨Nat.le_of_ble_eq_true rfl, Nat.le_of_ble_eq_true rfl⟩) hS (fun H locs hI hN hS => ?_)
      refine lv_if_eq (tgt := 46) hx hb dX6_rank_32 (by decide) (fun hc => ?_) (fun hc => ?_)
      · have h := ite_t h hc
        exact w46 k7 hk7 x1 x2 h _ _ _ hI hN hS (lv_sub hl [0, 1, 2] rfl)
      · have h := ite_f h hc
        refine lv_aload_n hx hb dX6_rank_35 rfl (lv_at hl 0 rfl) ?_
        refine lv_iload_n hx hb dX6_rank_36 rfl (lv_at hl 2 rfl) ?_
        obtain ⟨v11, c12, h⟩ := cl1_ok h
        refine cg_calli (va_runV (As := [.int x2]) (rest := []) ⟨hx, hb, hml, hown, hts⟩ (mX6_countAhead_n l D G A ad Z x2 v11 c12) (cwV 1 hts gX6_rank_X6_countAhead rfl rfl rfl (by decide +kernel) ⟨Nat.le_of_ble_eq_true rfl, Nat.le_of_ble_eq_true rfl⟩) (cg_preV hI hK hN rfl rfl (ci := 7) rfl) rfl rfl hl.1 rfl (lv_room (Nat.le_of_ble_eq_true rfl)) dX6_rank_37 ⟨Nat.le_of_ble_eq_true rfl, Nat.le_of_ble_eq_true rfl⟩) hS (fun H locs hI hN hS => ?_)
        refine lv_iload_n hx hb dX6_rank_40 rfl (lv_at hl 1 rfl) ?_
        refine lv_icmp_ne (tgt := 46) hx hb dX6_rank_41 (by decide) (fun hc => ?_) (fun hc => ?_)
        · have h := ite_f h hc
          exact w46 k7 hk7 x1 x2 h _ _ _ hI hN hS (lv_sub hl [0, 1, 2] rfl)
        · have h := ite_t h hc
          exact w44  x2 h _ _ _ hI hN hS (lv_sub hl [2] rfl)
  unfold fX6_rank at h
  refine lv_iload_n hx hb dX6_rank_0 rfl (lv_at hl 1 rfl) ?_
  refine lv_iconst (v := (4 : Int32)) hx hb dX6_rank_1 (by decide) ?_
  rcases cx1_ok h with ⟨v3, c1, h⟩ | ⟨x2, c1, h⟩
  · refine xg_callv (vx_runS (As := [.int a1, .int (4 : Int32)]) (rest := []) ⟨hx, hb, hml, hown, hts⟩ (mX6_requireIndex l hfl D G A ad Z a1 (4 : Int32) (.inl ()) c1) (va_cwS 2 hts gX6_rank_X6_requireIndex rfl rfl rfl (by decide +kernel) ⟨Nat.le_of_ble_eq_true rfl, Nat.le_of_ble_eq_true rfl⟩) (xg_preS hI hK hN hE hS) rfl rfl hl.1 rfl (lv_room (Nat.le_of_ble_eq_true rfl)) dX6_rank_2 ⟨Nat.le_of_ble_eq_true rfl, Nat.le_of_ble_eq_true rfl⟩) hS (fun H locs hI hN hS => ?_)
    refine W.widen (k := 1) (n := 6) (by decide) (by decide) ?_
    refine lv_iconst (v := (0 : Int32)) hx hb dX6_rank_5 (by decide) ?_
    refine lv_istore_n (lv' := [(2, .int (0 : Int32)), (0, .ref (ad 0 0)), (1, .int a1)]) hx hb dX6_rank_6 rfl hl (by decide) rfl (fun ls hl => ?_)
    exact w7  a1 (0 : Int32) h _ _ _ hI hN hS (lv_sub hl [1, 2, 0] rfl)
  · exact xg_thrv (vx_runS (As := [.int a1, .int (4 : Int32)]) (rest := []) ⟨hx, hb, hml, hown, hts⟩ (mX6_requireIndex l hfl D G A ad Z a1 (4 : Int32) (.inr x2) c1) (va_cwS 2 hts gX6_rank_X6_requireIndex rfl rfl rfl (by decide +kernel) ⟨Nat.le_of_ble_eq_true rfl, Nat.le_of_ble_eq_true rfl⟩) (xg_preS hI hK hN hE hS) rfl rfl hl.1 rfl (lv_room (Nat.le_of_ble_eq_true rfl)) dX6_rank_2 ⟨Nat.le_of_ble_eq_true rfl, Nat.le_of_ble_eq_true rfl⟩) (Option.some.inj h).symm rfl hexc hlocks hS (by decide) (by decide)
def fX6_night (Z : CZ) : Option (Int32) := some (Z.1 0 0 6)
def rmX6_night : Room := { frames := 1, cells := 0, slots := 0, locals := 30 }
set_option maxHeartbeats 4000000 in
set_option maxRecDepth 100000 in
theorem mX6_night (l : Launch) (D : va_G) (G : CGT) (A : Nat → Prop) (ad : Nat → Nat → Nat) (Z : CZ) (rz : Int32) (h : fX6_night Z = some rz) : Met l yX6_night wsX6_night rmX6_night (va_Pc [.ref (ad 0 0)] (cP D G A ad Z)) (cQi D G A ad rz Z) 0 0 A := by
  refine Met.ofW (cc := cX6_night) (maxL := 1) (ret := some .int) (by decide) rfl ?_
  intro p e s m args below meth c s₁ B hml hv
  obtain ⟨rfl, hI, hN, hK⟩ := hv
  have hx := B.exec
  have hb := B.bytes
  have hr := B.returns
  have hts := atoms_spec (ws := wsX6_night) B.pre
  have hown : s.vm.findClass RX6 = some m.cls := findClass_of_methodNamed B.named
  have hlocks := B.notSynchronized
  have iwsX60 : ∀ w ∈ wsX60, w ∈ wsX6_night := fun w h => List.mem_cons_of_mem _ (List.mem_append_right _ h)
  have l0 := hts (.fieldLink RX6 198 "Panyard" "nightNow" "I") (List.mem_of_getElem? (i := 1) rfl)
  have hS : va_S A s.heap s.heap [] := va_S.rf
  have hl := lv_entry ([.ref (ad 0 0)]) (n := 1) (Nat.le_of_ble_eq_true rfl)
  rw [lg_entry_eq]
  generalize (lg_sl ([.ref (ad 0 0)]) ++ List.replicate (1 - (lg_sl ([.ref (ad 0 0)])).length) Slot.unset).toArray = ls at hl ⊢
  have hl : lv_has ls 1 [(0, .ref (ad 0 0))] := hl
  unfold fX6_night at h
  refine lv_aload_n hx hb dX6_night_0 rfl (lv_at hl 0 rfl) ?_
  refine cg_get (T := TX6) (N := 7) (ci := 7) hx hb hts iwsX60 hown hK hN rfl rfl rfl 6 (by decide) l0 rfl (v := .int (Z.1 0 0 6)) rfl dX6_night_1 ?_
  exact W.iret hx hb hr (cg_endr h hI hK hN hS) hS.2.2 dX6_night_4
