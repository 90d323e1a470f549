def fX6_isInTune (a1 : Int32) (Z : CZ) : Option ((Int32 ⊕ Int32)) := cx1 (fX6_panAt a1 Z) (fun x2 => some (.inr x2)) (fun q3 => gd (cLv Z.2.2 5 q3) (cl1 (fX1_isTunable q3 (Z.1 0 0 5) (0 : Int32) Z) (fun v5 => gd (gbo v5) (some (.inl v5)))))
def rmX6_isInTune : Room := { frames := 8, cells := 1, slots := 6, locals := 142 }
set_option maxHeartbeats 4000000 in
set_option maxRecDepth 100000 in
theorem mX6_isInTune (l : Launch) (hfl : l.stackTraces = false) (D : va_G) (G : CGT) (A : Nat → Prop) (ad : Nat → Nat → Nat) (Z : CZ) (a1 : Int32) (rz : (Int32 ⊕ Int32)) (h : fX6_isInTune a1 Z = some rz) : vx_Met l yX6_isInTune wsX6_isInTune rmX6_isInTune (va_Pc [.ref (ad 0 0), .int a1] (xP D G A ad Z)) (xQi D G A ad rz Z) (xX D G A ad rz Z) 1 6 A := by
  refine vx_ofW (cc := cX6_isInTune) (maxL := 2) (ret := some .boolean) (by decide) rfl ?_
  intro p e s m args below meth c s₁ B hml hexc hv
  obtain ⟨rfl, ⟨hI, hN, hK⟩, hE⟩ := hv
  have hx := B.exec
  have hb := B.bytes
  have hr := B.returns
  have hts := atoms_spec (ws := wsX6_isInTune) B.pre
  have hown : s.vm.findClass RX6 = some m.cls := findClass_of_methodNamed B.named
  have hlocks := B.notSynchronized
  have iwsX60 : ∀ w ∈ wsX60, w ∈ wsX6_isInTune := fun w h => List.mem_cons_of_mem _ (List.mem_append_left _ (List.mem_append_left _ (List.mem_append_left _ (List.mem_append_right _ h))))
  have l0 := hts (.fieldLink RX6 84 "Panyard" "degreesNow" "I") (List.mem_of_getElem? (i := 1) rfl)
  have hS : va_S A s.heap s.heap [] := va_S.rf
  have hl := lv_entry ([.ref (ad 0 0), .int a1]) (n := 2) (Nat.le_of_ble_eq_true rfl)
  rw [lg_entry_eq]
  generalize (lg_sl ([.ref (ad 0 0), .int a1]) ++ List.replicate (2 - (lg_sl ([.ref (ad 0 0), .int a1])).length) Slot.unset).toArray = ls at hl ⊢
  have hl : lv_has ls 2 [(0, .ref (ad 0 0)), (1, .int a1)] := hl
  unfold fX6_isInTune at h
  refine lv_aload_n hx hb dX6_isInTune_0 rfl (lv_at hl 0 rfl) ?_
  refine lv_iload_n hx hb dX6_isInTune_1 rfl (lv_at hl 1 rfl) ?_
  rcases cx1_ok h with ⟨q3, c1, h⟩ | ⟨x2, c1, h⟩
  · refine xg_callr (k := 5) (q := q3) (vx_runV (As := [.int a1]) (rest := []) ⟨hx, hb, hml, hown, hts⟩ (mX6_panAt l hfl D G A ad Z a1 (.inl q3) c1) (cwV 1 hts gX6_isInTune_X6_panAt rfl rfl rfl (by decide +kernel) ⟨Nat.le_of_ble_eq_true rfl, Nat.le_of_ble_eq_true rfl⟩) (xg_preV hI hK hN hE hS rfl rfl (ci := 7) rfl) rfl rfl hl.1 rfl (lv_room (Nat.le_of_ble_eq_true rfl)) dX6_isInTune_2 ⟨Nat.le_of_ble_eq_true rfl, Nat.le_of_ble_eq_true rfl⟩) hS (fun H locs hI hN hS => ?_)
    refine W.widen (k := 1) (n := 6) (by decide) (by decide) ?_
    refine lv_aload_n hx hb dX6_isInTune_5 rfl (lv_at hl 0 rfl) ?_
    refine cg_get (T := TX6) (N := 7) (ci := 7) hx hb hts iwsX60 hown hK hN rfl rfl rfl 5 (by decide) l0 rfl (v := .int (Z.1 0 0 5)) rfl dX6_isInTune_6 ?_
    refine lv_iconst (v := (0 : Int32)) hx hb dX6_isInTune_9 (by decide) ?_
    obtain ⟨g4, h⟩ := gd_ok h
    obtain ⟨v5, c6, h⟩ := cl1_ok h
    refine cg_calli (va_runV (As := [.int (Z.1 0 0 5), .int (0 : Int32)]) (rest := []) ⟨hx, hb, hml, hown, hts⟩ (mX1_isTunable l D G A ad Z q3 (Z.1 0 0 5) (0 : Int32) v5 c6) (cwV 2 hts gX6_isInTune_X1_isTunable rfl rfl rfl (by decide +kernel) ⟨Nat.le_of_ble_eq_true rfl, Nat.le_of_ble_eq_true rfl⟩) (cg_preV hI hK hN g4 rfl (ci := 2) rfl) rfl rfl hl.1 rfl (lv_room (Nat.le_of_ble_eq_true rfl)) dX6_isInTune_10 ⟨Nat.le_of_ble_eq_true rfl, Nat.le_of_ble_eq_true rfl⟩) hS (fun H locs hI hN hS => ?_)
    obtain ⟨g7, h⟩ := gd_ok h
    exact vx_ret (W.widen (k := 1) (n := 6) (by decide) (by decide) (W.zret hx hb hr (gbo_ok g7) (xg_endr h hI hK hN hS) hS.2.2 dX6_isInTune_13))
  · exact xg_thrr (k := 5) (vx_runV (As := [.int a1]) (rest := []) ⟨hx, hb, hml, hown, hts⟩ (mX6_panAt l hfl D G A ad Z a1 (.inr x2) c1) (cwV 1 hts gX6_isInTune_X6_panAt rfl rfl rfl (by decide +kernel) ⟨Nat.le_of_ble_eq_true rfl, Nat.le_of_ble_eq_true rfl⟩) (xg_preV hI hK hN hE hS rfl rfl (ci := 7) rfl) rfl rfl hl.1 rfl (lv_room (Nat.le_of_ble_eq_true rfl)) dX6_isInTune_2 ⟨Nat.le_of_ble_eq_true rfl, Nat.le_of_ble_eq_true rfl⟩) (Option.some.inj h).symm rfl hexc hlocks hS (by decide) (by decide)
def fX6_plan_54 (t0 : Int32) (Z : CZ) : Option ((Int32 ⊕ Int32) × CZ) := some (.inl t0, Z)
def fX6_plan (a1 : Int32) (a2 : Int32) (Z : CZ) : Option ((Int32 ⊕ Int32) × CZ) := cx1 (fX6_panAt a1 Z) (fun x2 => some (.inr x2, Z)) (fun q3 => cx1 (fX6_requireRange a2 (0 : Int32) (3 : Int32) Z) (fun x5 => some (.inr x5, Z)) (fun _ => cl2 (fX3_findRow q3 (Z.1 0 0 5) Z) (fun v7 Z8 => (if a2 = 0 then some (.inl v7, Z8) else (if v7 < a2 then fX6_plan_54 (-1 : Int32) Z8 else gd (gin (a2 - (1 : Int32)) 3) (fX6_plan_54 (Z8.1 15 0 (Int32.toNatClampNeg (a2 - (1 : Int32)))) Z8))))))
def rmX6_plan : Room := { frames := 15, cells := 2, slots := 12, locals := 552 }
set_option maxHeartbeats 4000000 in
set_option maxRecDepth 100000 in
theorem mX6_plan (l : Launch) (hfl : l.stackTraces = false) (D : va_G) (G : CGT) (A : Nat → Prop) (ad : Nat → Nat → Nat) (Z : CZ) (a1 : Int32) (a2 : Int32) (rz : (Int32 ⊕ Int32)) (Zz : CZ) (h : fX6_plan a1 a2 Z = some (rz, Zz)) : vx_Met l yX6_plan wsX6_plan rmX6_plan (va_Pc [.ref (ad 0 0), .int a1, .int a2] (xP D G A ad Z)) (xQi D G A ad rz Zz) (xX D G A ad rz Zz) 2 12 A := by
  refine vx_ofW (cc := cX6_plan) (maxL := 5) (ret := some .int) (by decide) rfl ?_
  intro p e s m args below meth c s₁ B hml hexc hv
  obtain ⟨rfl, ⟨hI, hN, hK⟩, hE⟩ := hv
  have hx := B.exec
  have hb := B.bytes
  have hr := B.returns
  have hts := atoms_spec (ws := wsX6_plan) B.pre
  have hown : s.vm.findClass RX6 = some m.cls := findClass_of_methodNamed B.named
  have hlocks := B.notSynchronized
  have iwsX60 : ∀ w ∈ wsX60, w ∈ wsX6_plan := fun w h => List.mem_cons_of_mem _ (List.mem_append_left _ (List.mem_append_left _ (List.mem_append_left _ (List.mem_append_left _ (List.mem_append_left _ (List.mem_append_right _ h))))))
  have iwsX30 : ∀ w ∈ wsX30, w ∈ wsX6_plan := fun w h => List.mem_cons_of_mem _ (List.mem_append_left _ (List.mem_append_left _ (List.mem_append_left _ (List.mem_append_left _ (List.mem_append_right _ h)))))
  have l0 := hts (.fieldLink RX6 25 "Panyard" "planner" "LPanyard$Planner;") (List.mem_of_getElem? (i := 1) rfl)
  have l1 := hts (.fieldLink RX6 84 "Panyard" "degreesNow" "I") (List.mem_of_getElem? (i := 2) rfl)
  have l2 := hts (.fieldLink RX6 106 "Panyard$Planner" "row" "[I") (List.mem_of_getElem? (i := 3) rfl)
  have hS : va_S A s.heap s.heap [] := va_S.rf
  have hl := lv_entry ([.ref (ad 0 0), .int a1, .int a2]) (n := 5) (Nat.le_of_ble_eq_true rfl)
  rw [lg_entry_eq]
  generalize (lg_sl ([.ref (ad 0 0), .int a1, .int a2]) ++ List.replicate (5 - (lg_sl ([.ref (ad 0 0), .int a1, .int a2])).length) Slot.unset).toArray = ls at hl ⊢
  have hl : lv_has ls 5 [(0, .ref (ad 0 0)), (1, .int a1), (2, .int a2)] := hl
  have w54 : ∀ (t0 : Int32) (Z : CZ), fX6_plan_54  t0 Z = some (rz, Zz) → cG p l e (headSpec wsX6_plan rmX6_plan).room s m (([.ref (ad 0 0), .int a1, .int a2] : List Value).toArray) below meth c (vx_MQ below (xQi D G A ad rz Zz) (xX D G A ad rz Zz) (([.ref (ad 0 0), .int a1, .int a2] : List Value).toArray) s 2 12 A) D G A ad 2 12 5 Z 54 [] [.int t0] := by
    intro  t0 Z h H locs ls hI hN hS hl
    unfold fX6_plan_54 at h
    exact vx_ret (W.widen (k := 2) (n := 12) (by decide) (by decide) (W.iret hx hb hr (xg_endi h hI hK hN hS) hS.2.2 dX6_plan_54))
  unfold fX6_plan at h
  refine lv_aload_n hx hb dX6_plan_0 rfl (lv_at hl 0 rfl) ?_
  refine lv_iload_n hx hb dX6_plan_1 rfl (lv_at hl 1 rfl) ?_
  rcases cx1_ok h with ⟨q3, c1, h⟩ | ⟨x2, c1, h⟩
  · refine xg_callr (k := 5) (q := q3) (vx_runV (As := [.int a1]) (rest := []) ⟨hx, hb, hml, hown, hts⟩ (mX6_panAt l hfl D G A ad Z a1 (.inl q3) c1) (cwV 1 hts gX6_plan_X6_panAt rfl rfl rfl (by decide +kernel) ⟨Nat.le_of_ble_eq_true rfl, Nat.le_of_ble_eq_true rfl⟩) (xg_preV hI hK hN hE hS rfl rfl (ci := 7) rfl) rfl rfl hl.1 rfl (lv_room (Nat.le_of_ble_eq_true rfl)) dX6_plan_2 ⟨Nat.le_of_ble_eq_true rfl, Nat.le_of_ble_eq_true rfl⟩) hS (fun H locs hI hN hS => ?_)
    refine W.widen (k := 1) (n := 6) (by decide) (by decide) ?_
    refine lv_astore_n (lv' := [(3, .ref (ad 5 q3)), (0, .ref (ad 0 0)), (1, .int a1), (2, .int a2)]) hx hb dX6_plan_5 rfl hl (by decide) rfl (fun ls hl => ?_)
    refine lv_iload_n hx hb dX6_plan_6 rfl (lv_at hl 3 rfl) ?_
    refine lv_iconst (v := (0 : Int32)) hx hb dX6_plan_7 (by decide) ?_
    refine lv_iconst (v := (3 : Int32)) hx hb dX6_plan_8 (by decide) ?_
    rcases cx1_ok h with ⟨v6, c4, h⟩ | ⟨x5, c4, h⟩
    · refine xg_callv (vx_runS (As := [.int a2, .int (0 : Int32), .int (3 : Int32)]) (rest := []) ⟨hx, hb, hml, hown, hts⟩ (mX6_requireRange l hfl D G A ad Z a2 (0 : Int32) (3 : Int32) (.inl ()) c4) (va_cwS 3 hts gX6_plan_X6_requireRange rfl rfl rfl (by decide +kernel) ⟨Nat.le_of_ble_eq_true rfl, Nat.le_of_ble_eq_true rfl⟩) (xg_preS hI hK hN hE hS) rfl rfl hl.1 rfl (lv_room (Nat.le_of_ble_eq_true rfl)) dX6_plan_9 ⟨Nat.le_of_ble_eq_true rfl, Nat.le_of_ble_eq_true rfl⟩) hS (fun H locs hI hN hS => ?_)
      refine W.widen (k := 2) (n := 12) (by decide) (by decide) ?_
      refine lv_aload_n hx hb dX6_plan_12 rfl (lv_at hl 1 rfl) ?_
      refine cg_get (T := TX6) (N := 7) (ci := 7) hx hb hts iwsX60 hown hK hN rfl rfl rfl 3 (by decide) l0 rfl (v := .ref (ad 1 0)) rfl dX6_plan_13 ?_
      refine lv_aload_n hx hb dX6_plan_16 rfl (lv_at hl 0 rfl) ?_
      refine lv_aload_n hx hb dX6_plan_17 rfl (lv_at hl 1 rfl) ?_
      refine cg_get (T := TX6) (N := 7) (ci := 7) hx hb hts iwsX60 hown hK hN rfl rfl rfl 5 (by decide) l1 rfl (v := .int (Z.1 0 0 5)) rfl dX6_plan_18 ?_
      obtain ⟨v7, Z8, c9, h⟩ := cl2_ok h
      refine cg_calli (va_runV (As := [.ref (ad 5 q3), .int (Z.1 0 0 5)]) (rest := []) ⟨hx, hb, hml, hown, hts⟩ (mX3_findRow l D G A ad Z q3 (Z.1 0 0 5) v7 Z8 c9) (cwV 2 hts gX6_plan_X3_findRow rfl rfl rfl (by decide +kernel) ⟨Nat.le_of_ble_eq_true rfl, Nat.le_of_ble_eq_true rfl⟩) (cg_preV hI hK hN rfl rfl (ci := 4) rfl) rfl rfl hl.1 rfl (lv_room (Nat.le_of_ble_eq_true rfl)) dX6_plan_21 ⟨Nat.le_of_ble_eq_true rfl, Nat.le_of_ble_eq_true rfl⟩) hS (fun H locs hI hN hS => ?_)
      refine lv_istore (lv' := [(4, .int v7), (3, .ref (ad 5 q3)), (0, .ref (ad 0 0)), (1, .int a1), (2, .int a2)]) hx hb dX6_plan_24 hl (by decide) rfl (fun ls hl => ?_)
      refine lv_iload_n hx hb dX6_plan_26 rfl (lv_at hl 4 rfl) ?_
      refine lv_if_ne (tgt := 33) hx hb dX6_plan_27 (by decide) (fun hc => ?_) (fun hc => ?_)
      · have h := ite_f h hc
        refine lv_iload_n hx hb dX6_plan_33 rfl (lv_at hl 4 rfl) ?_
        refine lv_iload hx hb dX6_plan_34 (lv_at hl 0 rfl) ?_
        refine lv_icmp_gt (tgt := 53) hx hb dX6_plan_36 (by decide) (fun hc => ?_) (fun hc => ?_)
        · have h := ite_t h hc
          refine lv_iconst (v := (-1 : Int32)) hx hb dX6_plan_53 (by decide) ?_
          exact w54  (-1 : Int32) Z8 h _ _ _ hI hN hS (lv_sub hl [] rfl)
        · have h := ite_f h hc
          refine lv_aload_n hx hb dX6_plan_39 rfl (lv_at hl 2 rfl) ?_
          refine cg_get (T := TX6) (N := 7) (ci := 7) hx hb hts iwsX60 hown hK hN rfl rfl rfl 3 (by decide) l0 rfl (v := .ref (ad 1 0)) rfl dX6_plan_40 ?_
          refine cg_get (T := TX3) (N := 2) (ci := 4) hx hb hts iwsX30 hown hK hN rfl rfl rfl 0 (by decide) l2 rfl (v := .ref (ad 15 0)) rfl dX6_plan_43 ?_
          refine lv_iload_n hx hb dX6_plan_46 rfl (lv_at hl 4 rfl) ?_
          refine lv_iconst (v := (1 : Int32)) hx hb dX6_plan_47 (by decide) ?_
          refine lv_isub hx hb dX6_plan_48 ?_
          obtain ⟨g10, h⟩ := gd_ok h
          refine cg_ild hx hb hK hN rfl rfl (gin_ok g10) dX6_plan_49 ?_
          refine lv_goto (tgt := 54) hx hb dX6_plan_50 (by decide) ?_
          exact w54  (Z8.1 15 0 (Int32.toNatClampNeg (a2 - (1 : Int32)))) Z8 h _ _ _ hI hN hS (lv_sub hl [] rfl)
      · have h := ite_t h hc
        refine lv_iload hx hb dX6_plan_30 (lv_at hl 0 rfl) ?_
        exact vx_ret (W.widen (k := 2) (n := 12) (by decide) (by decide) (W.iret hx hb hr (xg_endi h hI hK hN hS) hS.2.2 dX6_plan_32))
    · exact xg_thrv (vx_runS (As := [.int a2, .int (0 : Int32), .int (3 : Int32)]) (rest := []) ⟨hx, hb, hml, hown, hts⟩ (mX6_requireRange l hfl D G A ad Z a2 (0 : Int32) (3 : Int32) (.inr x5) c4) (va_cwS 3 hts gX6_plan_X6_requireRange rfl rfl rfl (by decide +kernel) ⟨Nat.le_of_ble_eq_true rfl, Nat.le_of_ble_eq_true rfl⟩) (xg_preS hI hK hN hE hS) rfl rfl hl.1 rfl (lv_room (Nat.le_of_ble_eq_true rfl)) dX6_plan_9 ⟨Nat.le_of_ble_eq_true rfl, Nat.le_of_ble_eq_true rfl⟩) (congrArg Prod.fst (Option.some.inj h)).symm (congrArg Prod.snd (Option.some.inj h)).symm hexc hlocks hS (by decide) (by decide)
  · exact xg_thrr (k := 5) (vx_runV (As := [.int a1]) (rest := []) ⟨hx, hb, hml, hown, hts⟩ (mX6_panAt l hfl D G A ad Z a1 (.inr x2) c1) (cwV 1 hts gX6_plan_X6_panAt rfl rfl rfl (by decide +kernel) ⟨Nat.le_of_ble_eq_true rfl, Nat.le_of_ble_eq_true rfl⟩) (xg_preV hI hK hN hE hS rfl rfl (ci := 7) rfl) rfl rfl hl.1 rfl (lv_room (Nat.le_of_ble_eq_true rfl)) dX6_plan_2 ⟨Nat.le_of_ble_eq_true rfl, Nat.le_of_ble_eq_true rfl⟩) (congrArg Prod.fst (Option.some.inj h)).symm (congrArg Prod.snd (Option.some.inj h)).symm hexc hlocks hS (by decide) (by decide)
def fX6_playerAt (a1 : Int32) (Z : CZ) : Option ((Nat ⊕ Int32)) := cl1 (fJx4a65c_size_8abf5 1 Z) (fun v1 => cx1 (fX6_requireIndex a1 v1 Z) (fun x4 => some (.inr x4)) (fun _ => cl1 (fJx4a65c_get_915e3 1 a1 Z) (fun q6 => gd (cLv Z.2.2 9 q6) (some (.inl q6)))))
def rmX6_playerAt : Room := { frames := 7, cells := 1, slots := 6, locals := 121 }
set_option maxHeartbeats 4000000 in
set_option maxRecDepth 100000 in
theorem mX6_playerAt (l : Launch) (hfl : l.stackTraces = false) (D : va_G) (G : CGT) (A : Nat → Prop) (ad : Nat → Nat → Nat) (Z : CZ) (a1 : Int32) (rz : (Nat ⊕ Int32)) (h : fX6_playerAt a1 Z = some rz) : vx_Met l yX6_playerAt wsX6_playerAt rmX6_playerAt (va_Pc [.ref (ad 0 0), .int a1] (xP D G A ad Z)) (xQr D G A ad 9 rz Z) (xX D G A ad rz Z) 1 6 A := by
  refine vx_ofW (cc := cX6_playerAt) (maxL := 2) (ret := some (.object "Panyard$Player")) (by decide) rfl ?_
  intro p e s m args below meth c s₁ B hml hexc hv
  obtain ⟨rfl, ⟨hI, hN, hK⟩, hE⟩ := hv
  have hx := B.exec
  have hb := B.bytes
  have hr := B.returns
  have hts := atoms_spec (ws := wsX6_playerAt) B.pre
  have hown : s.vm.findClass RX6 = some m.cls := findClass_of_methodNamed B.named
  have hlocks := B.notSynchronized
  have iwsX60 : ∀ w ∈ wsX60, w ∈ wsX6_playerAt := fun w h => List.mem_cons_of_mem _ (List.mem_append_left _ (List.mem_append_left _ (List.mem_append_right _ h)))
  have l0 := hts (.fieldLink RX6 16 "Panyard" "players" "Ljava/util/ArrayList;") (List.mem_of_getElem? (i := 1) rfl)
  have l1 := hts (.classLink RX6 109 "Panyard$Player") (List.mem_of_getElem? (i := 2) rfl)
  have hS : va_S A s.heap s.heap [] := va_S.rf
  have hl := lv_entry ([.ref (ad 0 0), .int a1]) (n := 2) (Nat.le_of_ble_eq_true rfl)
  rw [lg_entry_eq]
  generalize (lg_sl ([.ref (ad 0 0), .int a1]) ++ List.replicate (2 - (lg_sl ([.ref (ad 0 0), .int a1])).length) Slot.unset).toArray = ls at hl ⊢
  have hl : lv_has ls 2 [(0, .ref (ad 0 0)), (1, .int a1)] := hl
  unfold fX6_playerAt at h
  refine lv_iload_n hx hb dX6_playerAt_0 rfl (lv_at hl 1 rfl) ?_
  refine lv_aload_n hx hb dX6_playerAt_1 rfl (lv_at hl 0 rfl) ?_
  refine cg_get (T := TX6) (N := 7) (ci := 7) hx hb hts iwsX60 hown hK hN rfl rfl rfl 1 (by decide) l0 rfl (v := .ref (ad 3 1)) rfl dX6_playerAt_2 ?_
  obtain ⟨v1, c2, h⟩ := cl1_ok h
  refine cg_calli (va_runV (As := []) (rest := [.int a1]) ⟨hx, hb, hml, hown, hts⟩ (mJx4a65c_size_8abf5 l D G A ad Z 1 v1 c2) (cwV 0 hts gX6_playerAt_Jx4a65c_size_8abf5 rfl rfl rfl (by decide +kernel) ⟨Nat.le_of_ble_eq_true rfl, Nat.le_of_ble_eq_true rfl⟩) (cg_preV hI hK hN rfl rfl (ci := 0) rfl) rfl rfl hl.1 rfl (lv_room (Nat.le_of_ble_eq_true rfl)) dX6_playerAt_5 ⟨Nat.le_of_ble_eq_true rfl, Nat.le_of_ble_eq_true rfl⟩) hS (fun H locs hI hN hS => ?_)
  rcases cx1_ok h with ⟨v5, c3, h⟩ | ⟨x4, c3, h⟩
  · refine xg_callv (vx_runS (As := [.int a1, .int v1]) (rest := []) ⟨hx, hb, hml, hown, hts⟩ (mX6_requireIndex l hfl D G A ad Z a1 v1 (.inl ()) c3) (va_cwS 2 hts gX6_playerAt_X6_requireIndex rfl rfl rfl (by decide +kernel) ⟨Nat.le_of_ble_eq_true rfl, Nat.le_of_ble_eq_true rfl⟩) (xg_preS hI hK hN hE hS) rfl rfl hl.1 rfl (lv_room (Nat.le_of_ble_eq_true rfl)) dX6_playerAt_8 ⟨Nat.le_of_ble_eq_true rfl, Nat.le_of_ble_eq_true rfl⟩) hS (fun H locs hI hN hS => ?_)
    refine W.widen (k := 1) (n := 6) (by decide) (by decide) ?_
    refine lv_aload_n hx hb dX6_playerAt_11 rfl (lv_at hl 0 rfl) ?_
    refine cg_get (T := TX6) (N := 7) (ci := 7) hx hb hts iwsX60 hown hK hN rfl rfl rfl 1 (by decide) l0 rfl (v := .ref (ad 3 1)) rfl dX6_playerAt_12 ?_
    refine lv_iload_n hx hb dX6_playerAt_15 rfl (lv_at hl 1 rfl) ?_
    obtain ⟨q6, c7, h⟩ := cl1_ok h
    refine cg_callr (k := 9) (q := q6) (va_runV (As := [.int a1]) (rest := []) ⟨hx, hb, hml, hown, hts⟩ (mJx4a65c_get_915e3 l D G A ad Z 1 a1 q6 c7) (cwV 1 hts gX6_playerAt_Jx4a65c_get_915e3 rfl rfl rfl (by decide +kernel) ⟨Nat.le_of_ble_eq_true rfl, Nat.le_of_ble_eq_true rfl⟩) (cg_preV hI hK hN rfl rfl (ci := 0) rfl) rfl rfl hl.1 rfl (lv_room (Nat.le_of_ble_eq_true rfl)) dX6_playerAt_16 ⟨Nat.le_of_ble_eq_true rfl, Nat.le_of_ble_eq_true rfl⟩) hS (fun H locs hI hN hS => ?_)
    obtain ⟨g8, h⟩ := gd_ok h
    refine va_castS hx hb hown l1 (hK.1.1 5 _ rfl).2 (cg_recv hK hN g8 rfl (ci := 5) rfl) dX6_playerAt_19 ?_
    exact vx_ret (W.widen (k := 1) (n := 6) (by decide) (by decide) (W.aret hx hb hr (Or.inl ⟨_, rfl⟩) (Or.inr ⟨_, rfl⟩) (xg_endq h hI hK hN hS) hS.2.2 dX6_playerAt_22))
  · exact xg_thrv (vx_runS (As := [.int a1, .int v1]) (rest := []) ⟨hx, hb, hml, hown, hts⟩ (mX6_requireIndex l hfl D G A ad Z a1 v1 (.inr x4) c3) (va_cwS 2 hts gX6_playerAt_X6_requireIndex rfl rfl rfl (by decide +kernel) ⟨Nat.le_of_ble_eq_true rfl, Nat.le_of_ble_eq_true rfl⟩) (xg_preS hI hK hN hE hS) rfl rfl hl.1 rfl (lv_room (Nat.le_of_ble_eq_true rfl)) dX6_playerAt_8 ⟨Nat.le_of_ble_eq_true rfl, Nat.le_of_ble_eq_true rfl⟩) (Option.some.inj h).symm rfl hexc hlocks hS (by decide) (by decide)
def fX6_bandAt (a1 : Int32) (Z : CZ) : Option ((Nat ⊕ Int32)) := cl1 (fJx4a65c_size_8abf5 2 Z) (fun v1 => cx1 (fX6_requireIndex a1 v1 Z) (fun x4 => some (.inr x4)) (fun _ => cl1 (fJx4a65c_get_915e3 2 a1 Z) (fun q6 => gd (cLv Z.2.2 10 q6) (some (.inl q6)))))
def rmX6_bandAt : Room := { frames := 7, cells := 1, slots := 6, locals := 121 }
set_option maxHeartbeats 4000000 in
set_option maxRecDepth 100000 in
theorem mX6_bandAt (l : Launch) (hfl : l.stackTraces = false) (D : va_G) (G : CGT) (A : Nat → Prop) (ad : Nat → Nat → Nat) (Z : CZ) (a1 : Int32) (rz : (Nat ⊕ Int32)) (h : fX6_bandAt a1 Z = some rz) : vx_Met l yX6_bandAt wsX6_bandAt rmX6_bandAt (va_Pc [.ref (ad 0 0), .int a1] (xP D G A ad Z)) (xQr D G A ad 10 rz Z) (xX D G A ad rz Z) 1 6 A := by
  refine vx_ofW (cc := cX6_bandAt) (maxL := 2) (ret := some (.object "Panyard$Band")) (by decide) rfl ?_
  intro p e s m args below meth c s₁ B hml hexc hv
  obtain ⟨rfl, ⟨hI, hN, hK⟩, hE⟩ := hv
  have hx := B.exec
  have hb := B.bytes
  have hr := B.returns
  have hts := atoms_spec (ws := wsX6_bandAt) B.pre
  have hown : s.vm.findClass RX6 = some m.cls := findClass_of_methodNamed B.named
  have hlocks := B.notSynchronized
  have iwsX60 : ∀ w ∈ wsX60, w ∈ wsX6_bandAt := fun w h => List.mem_cons_of_mem _ (List.mem_append_left _ (List.mem_append_left _ (List.mem_append_right _ h)))
  have l0 := hts (.fieldLink RX6 19 "Panyard" "bands" "Ljava/util/ArrayList;") (List.mem_of_getElem? (i := 1) rfl)
  have l1 := hts (.classLink RX6 36 "Panyard$Band") (List.mem_of_getElem? (i := 2) rfl)
  have hS : va_S A s.heap s.heap [] := va_S.rf
  have hl := lv_entry ([.ref (ad 0 0), .int a1]) (n := 2) (Nat.le_of_ble_eq_true rfl)
  rw [lg_entry_eq]
  generalize (lg_sl ([.ref (ad 0 0), .int a1]) ++ List.replicate (2 - (lg_sl ([.ref (ad 0 0), .int a1])).length) Slot.unset).toArray = ls at hl ⊢
  have hl : lv_has ls 2 [(0, .ref (ad 0 0)), (1, .int a1)] := hl
  unfold fX6_bandAt at h
  refine lv_iload_n hx hb dX6_bandAt_0 rfl (lv_at hl 1 rfl) ?_
  refine lv_aload_n hx hb dX6_bandAt_1 rfl (lv_at hl 0 rfl) ?_
  refine cg_get (T := TX6) (N := 7) (ci := 7) hx hb hts iwsX60 hown hK hN rfl rfl rfl 2 (by decide) l0 rfl (v := .ref (ad 3 2)) rfl dX6_bandAt_2 ?_
  obtain ⟨v1, c2, h⟩ := cl1_ok h
  refine cg_calli (va_runV (As := []) (rest := [.int a1]) ⟨hx, hb, hml, hown, hts⟩ (mJx4a65c_size_8abf5 l D G A ad Z 2 v1 c2) (cwV 0 hts gX6_bandAt_Jx4a65c_size_8abf5 rfl rfl rfl (by decide +kernel) ⟨Nat.le_of_ble_eq_true rfl, Nat.le_of_ble_eq_true rfl⟩) (cg_preV hI hK hN rfl rfl (ci := 0) rfl) rfl rfl hl.1 rfl (lv_room (Nat.le_of_ble_eq_true rfl)) dX6_bandAt_5 ⟨Nat.le_of_ble_eq_true rfl, Nat.le_of_ble_eq_true rfl⟩) hS (fun H locs hI hN hS => ?_)
  rcases cx1_ok h with ⟨v5, c3, h⟩ | ⟨x4, c3, h⟩
  · refine xg_callv (vx_runS (As := [.int a1, .int v1]) (rest := []) ⟨hx, hb, hml, hown, hts⟩ (mX6_requireIndex l hfl D G A ad Z a1 v1 (.inl ()) c3) (va_cwS 2 hts gX6_bandAt_X6_requireIndex rfl rfl rfl (by decide +kernel) ⟨Nat.le_of_ble_eq_true rfl, Nat.le_of_ble_eq_true rfl⟩) (xg_preS hI hK hN hE hS) rfl rfl hl.1 rfl (lv_room (Nat.le_of_ble_eq_true rfl)) dX6_bandAt_8 ⟨Nat.le_of_ble_eq_true rfl, Nat.le_of_ble_eq_true rfl⟩) hS (fun H locs hI hN hS => ?_)
    refine W.widen (k := 1) (n := 6) (by decide) (by decide) ?_
    refine lv_aload_n hx hb dX6_bandAt_11 rfl (lv_at hl 0 rfl) ?_
    refine cg_get (T := TX6) (N := 7) (ci := 7) hx hb hts iwsX60 hown hK hN rfl rfl rfl 2 (by decide) l0 rfl (v := .ref (ad 3 2)) rfl dX6_bandAt_12 ?_
    refine lv_iload_n hx hb dX6_bandAt_15 rfl (lv_at hl 1 rfl) ?_
    obtain ⟨q6, c7, h⟩ := cl1_ok h
    refine cg_callr (k := 10) (q := q6) (va_runV (As := [.int a1]) (rest := []) ⟨hx, hb, hml, hown, hts⟩ (mJx4a65c_get_915e3 l D G A ad Z 2 a1 q6 c7) (cwV 1 hts gX6_bandAt_Jx4a65c_get_915e3 rfl rfl rfl (by decide +kernel) ⟨Nat.le_of_ble_eq_true rfl, Nat.le_of_ble_eq_true rfl⟩) (cg_preV hI hK hN rfl rfl (ci := 0) rfl) rfl rfl hl.1 rfl (lv_room (Nat.le_of_ble_eq_true rfl)) dX6_bandAt_16 ⟨Nat.le_of_ble_eq_true rfl, Nat.le_of_ble_eq_true rfl⟩) hS (fun H locs hI hN hS => ?_)
    obtain ⟨g8, h⟩ := gd_ok h
    refine va_castS hx hb hown l1 (hK.1.1 1 _ rfl).2 (cg_recv hK hN g8 rfl (ci := 1) rfl) dX6_bandAt_19 ?_
    exact vx_ret (W.widen (k := 1) (n := 6) (by decide) (by decide) (W.aret hx hb hr (Or.inl ⟨_, rfl⟩) (Or.inr ⟨_, rfl⟩) (xg_endq h hI hK hN hS) hS.2.2 dX6_bandAt_22))
  · exact xg_thrv (vx_runS (As := [.int a1, .int v1]) (rest := []) ⟨hx, hb, hml, hown, hts⟩ (mX6_requireIndex l hfl D G A ad Z a1 v1 (.inr x4) c3) (va_cwS 2 hts gX6_bandAt_X6_requireIndex rfl rfl rfl (by decide +kernel) ⟨Nat.le_of_ble_eq_true rfl, Nat.le_of_ble_eq_true rfl⟩) (xg_preS hI hK hN hE hS) rfl rfl hl.1 rfl (lv_room (Nat.le_of_ble_eq_true rfl)) dX6_bandAt_8 ⟨Nat.le_of_ble_eq_true rfl, Nat.le_of_ble_eq_true rfl⟩) (Option.some.inj h).symm rfl hexc hlocks hS (by decide) (by decide)
def fX6_seasonNow (Z : CZ) : Option (Int32) := some ((Z.1 0 0 6) / (30 : Int32))
def rmX6_seasonNow : Room := { frames := 1, cells := 0, slots := 0, locals := 30 }
set_option maxHeartbeats 4000000 in
set_option maxRecDepth 100000 in
theorem mX6_seasonNow (l : Launch) (D : va_G) (G : CGT) (A : Nat → Prop) (ad : Nat → Nat → Nat) (Z : CZ) (rz : Int32) (h : fX6_seasonNow Z = some rz) : Met l yX6_seasonNow wsX6_seasonNow rmX6_seasonNow (va_Pc [.ref (ad 0 0)] (cP D G A ad Z)) (cQi D G A ad rz Z) 0 0 A := by
  refine Met.ofW (cc := cX6_seasonNow) (maxL := 1) (ret := some .int) (by decide) rfl ?_
  intro p e s m args below meth c s₁ B hml hv
  obtain ⟨rfl, hI, hN, hK⟩ := hv
  have hx := B.exec
  have hb := B.bytes
  have hr := B.returns
  have hts := atoms_spec (ws := wsX6_seasonNow) B.pre
  have hown : s.vm.findClass RX6 = some m.cls := findClass_of_methodNamed B.named
  have hlocks := B.notSynchronized
  have iwsX60 : ∀ w ∈ wsX60, w ∈ wsX6_seasonNow := fun w h => List.mem_cons_of_mem _ (List.mem_append_right _ h)
  have l0 := hts (.fieldLink RX6 198 "Panyard" "nightNow" "I") (List.mem_of_getElem? (i := 1) rfl)
  have hS : va_S A s.heap s.heap [] := va_S.rf
  have hl := lv_entry ([.ref (ad 0 0)]) (n := 1) (Nat.le_of_ble_eq_true rfl)
  rw [lg_entry_eq]
  generalize (lg_sl ([.ref (ad 0 0)]) ++ List.replicate (1 - (lg_sl ([.ref (ad 0 0)])).length) Slot.unset).toArray = ls at hl ⊢
  have hl : lv_has ls 1 [(0, .ref (ad 0 0))] := hl
  unfold fX6_seasonNow at h
  refine lv_aload_n hx hb dX6_seasonNow_0 rfl (lv_at hl 0 rfl) ?_
  refine cg_get (T := TX6) (N := 7) (ci := 7) hx hb hts iwsX60 hown hK hN rfl rfl rfl 6 (by decide) l0 rfl (v := .int (Z.1 0 0 6)) rfl dX6_seasonNow_1 ?_
  refine lv_bipush (v := (30 : Int32)) hx hb dX6_seasonNow_4 (by decide) ?_
  refine lv_idiv hx hb dX6_seasonNow_6 (by decide) ?_
  exact W.iret hx hb hr (cg_endr h hI hK hN hS) hS.2.2 dX6_seasonNow_7
def fX6_give_33 (x3 : Nat) (x4 : Nat) (t0 : Int32) (Z : CZ) : Option ((Unit ⊕ Int32) × CZ) := cx1 (fX6_requireState t0 Z) (fun x12 => some (.inr x12, Z)) (fun _ => gd (cLv Z.2.2 9 x3) (bnd (cuR Z 9 x3 (va_up (Z.2.1 9 x3) 2 (some x4))) (fun Z15 => gd (cLv Z15.2.2 5 x4) (bnd (cuI Z15 5 x4 (upd (Z15.1 5 x4) 4 (1 : Int32))) (fun Z17 => some (.inl (), Z17))))))
def fX6_give_32 (x3 : Nat) (x4 : Nat) (Z : CZ) : Option ((Unit ⊕ Int32) × CZ) := fX6_give_33 x3 x4 (0 : Int32) Z
def fX6_give (a1 : Int32) (a2 : Int32) (Z : CZ) : Option ((Unit ⊕ Int32) × CZ) := cx1 (fX6_playerAt a1 Z) (fun x2 => some (.inr x2, Z)) (fun q3 => cx1 (fX6_panAt a2 Z) (fun x5 => some (.inr x5, Z)) (fun q6 => gd (cLv Z.2.2 9 q3) (op2 (Z.2.1 9 q3 2) (gd (cLv Z.2.2 5 q6) ((if (Z.1 5 q6 4) = 0 then fX6_give_33 q3 q6 (1 : Int32) Z else fX6_give_32 q3 q6 Z))) (fun q8 => fX6_give_32 q3 q6 Z))))
def rmX6_give : Room := { frames := 8, cells := 3, slots := 18, locals := 142 }
set_option maxHeartbeats 4000000 in
set_option maxRecDepth 100000 in
theorem mX6_give (l : Launch) (hfl : l.stackTraces = false) (D : va_G) (G : CGT) (A : Nat → Prop) (ad : Nat → Nat → Nat) (Z : CZ) (a1 : Int32) (a2 : Int32) (rz : (Unit ⊕ Int32)) (Zz : CZ) (h : fX6_give a1 a2 Z = some (rz, Zz)) : vx_Met l yX6_give wsX6_give rmX6_give (va_Pc [.ref (ad 0 0), .int a1, .int a2] (xP D G A ad Z)) (xQv D G A ad rz Zz) (xX D G A ad rz Zz) 3 18 A := by
  refine vx_ofW (cc := cX6_give) (maxL := 5) (ret := none) (by decide) rfl ?_
  intro p e s m args below meth c s₁ B hml hexc hv
  obtain ⟨rfl, ⟨hI, hN, hK⟩, hE⟩ := hv
  have hx := B.exec
  have hb := B.bytes
  have hr := B.returns
  have hts := atoms_spec (ws := wsX6_give) B.pre
  have hown : s.vm.findClass RX6 = some m.cls := findClass_of_methodNamed B.named
  have hlocks := B.notSynchronized
  have iwsX40 : ∀ w ∈ wsX40, w ∈ wsX6_give := fun w h => List.mem_cons_of_mem _ (List.mem_append_left _ (List.mem_append_left _ (List.mem_append_left _ (List.mem_append_left _ (List.mem_append_left _ (List.mem_append_right _ h))))))
  have iwsX10 : ∀ w ∈ wsX10, w ∈ wsX6_give := fun w h => List.mem_cons_of_mem _ (List.mem_append_left _ (List.mem_append_left _ (List.mem_append_left _ (List.mem_append_left _ (List.mem_append_right _ h)))))
  have l0 := hts (.fieldLink RX6 153 "Panyard$Player" "pan" "LPanyard$Pan;") (List.mem_of_getElem? (i := 1) rfl)
  have l1 := hts (.fieldLink RX6 157 "Panyard$Pan" "isGiven" "Z") (List.mem_of_getElem? (i := 2) rfl)
  have hS : va_S A s.heap s.heap [] := va_S.rf
  have hl := lv_entry ([.ref (ad 0 0), .int a1, .int a2]) (n := 5) (Nat.le_of_ble_eq_true rfl)
  rw [lg_entry_eq]
  generalize (lg_sl ([.ref (ad 0 0), .int a1, .int a2]) ++ List.replicate (5 - (lg_sl ([.ref (ad 0 0), .int a1, .int a2])).length) Slot.unset).toArray = ls at hl ⊢
  have hl : lv_has ls 5 [(0, .ref (ad 0 0)), (1, .int a1), (2, .int a2)] := hl
  have w33 : ∀ (x3 : Nat) (x4 : Nat) (t0 : Int32) (Z : CZ), fX6_give_33  x3 x4 t0 Z = some (rz, Zz) → cG p l e (headSpec wsX6_give rmX6_give).room s m (([.ref (ad 0 0), .int a1, .int a2] : List Value).toArray) below meth c (vx_MQ below (xQv D G A ad rz Zz) (xX D G A ad rz Zz) (([.ref (ad 0 0), .int a1, .int a2] : List Value).toArray) s 3 18 A) D G A ad 2 12 5 Z 33 [(3, .ref (ad 9 x3)), (4, .ref (ad 5 x4))] [.int t0] := by
    intro  x3 x4 t0 Z h H locs ls hI hN hS hl
    unfold fX6_give_33 at h
    rcases cx1_ok h with ⟨v13, c11, h⟩ | ⟨x12, c11, h⟩
    · refine xg_callv (vx_runS (As := [.int t0]) (rest := []) ⟨hx, hb, hml, hown, hts⟩ (mX6_requireState l hfl D G A ad Z t0 (.inl ()) c11) (va_cwS 1 hts gX6_give_X6_requireState rfl rfl rfl (by decide +kernel) ⟨Nat.le_of_ble_eq_true rfl, Nat.le_of_ble_eq_true rfl⟩) (xg_preS hI hK hN hE hS) rfl rfl hl.1 rfl (lv_room (Nat.le_of_ble_eq_true rfl)) dX6_give_33 ⟨Nat.le_of_ble_eq_true rfl, Nat.le_of_ble_eq_true rfl⟩) hS (fun H locs hI hN hS => ?_)
      refine W.widen (k := 3) (n := 18) (by decide) (by decide) ?_
      refine lv_aload_n hx hb dX6_give_36 rfl (lv_at hl 0 rfl) ?_
      refine lv_aload hx hb dX6_give_37 (lv_at hl 1 rfl) ?_
      obtain ⟨g14, h⟩ := gd_ok h
      obtain ⟨Z15, eZ15⟩ : ∃ y : CZ, y = (cuR Z 9 x3 (va_up (Z.2.1 9 x3) 2 (some x4))) := ⟨_, rfl⟩
      have h := bnd_ok h eZ15
      refine cg_putq (v := .ref (ad 5 x4)) (ty := (.object "Panyard$Pan")) (T := TX4) (N := 6) (ci := 5) hx hb hts iwsX40 tyX4_ok nmX4 hown hI hK hN hS g14 rfl rfl 2 (by decide) (Nat.le_of_ble_eq_true rfl) l0 rfl rfl (by decide +kernel) rfl rfl rfl dX6_give_39 eZ15 (fun H locs hI hN hS => ?_)
      refine lv_aload hx hb dX6_give_42 (lv_at hl 1 rfl) ?_
      refine lv_iconst (v := (1 : Int32)) hx hb dX6_give_44 (by decide) ?_
      obtain ⟨g16, h⟩ := gd_ok h
      obtain ⟨Z17, eZ17⟩ : ∃ y : CZ, y = (cuI Z15 5 x4 (upd (Z15.1 5 x4) 4 (1 : Int32))) := ⟨_, rfl⟩
      have h := bnd_ok h eZ17
      refine cg_put (ty := .boolean) (T := TX1) (N := 5) (ci := 2) hx hb hts iwsX10 tyX1_ok nmX1 hown hI hK hN hS g16 rfl rfl 4 (by decide) (Nat.le_of_ble_eq_true rfl) l1 rfl rfl (by decide +kernel) rfl rfl rfl dX6_give_45 eZ17 (fun H locs hI hN hS => ?_)
      exact vx_ret (W.widen (k := 3) (n := 18) (by decide) (by decide) (W.vret hx hb hr (xg_endv h hI hK hN hS) hS.2.2 dX6_give_48))
    · exact xg_thrv (vx_runS (As := [.int t0]) (rest := []) ⟨hx, hb, hml, hown, hts⟩ (mX6_requireState l hfl D G A ad Z t0 (.inr x12) c11) (va_cwS 1 hts gX6_give_X6_requireState rfl rfl rfl (by decide +kernel) ⟨Nat.le_of_ble_eq_true rfl, Nat.le_of_ble_eq_true rfl⟩) (xg_preS hI hK hN hE hS) rfl rfl hl.1 rfl (lv_room (Nat.le_of_ble_eq_true rfl)) dX6_give_33 ⟨Nat.le_of_ble_eq_true rfl, Nat.le_of_ble_eq_true rfl⟩) (congrArg Prod.fst (Option.some.inj h)).symm (congrArg Prod.snd (Option.some.inj h)).symm hexc hlocks hS (by decide) (by decide)
  have w32 : ∀ (x3 : Nat) (x4 : Nat) (Z : CZ), fX6_give_32  x3 x4 Z = some (rz, Zz) → cG p l e (headSpec wsX6_give rmX6_give).room s m (([.ref (ad 0 0), .int a1, .int a2] : List Value).toArray) below meth c (vx_MQ below (xQv D G A ad rz Zz) (xX D G A ad rz Zz) (([.ref (ad 0 0), .int a1, .int a2] : List Value).toArray) s 3 18 A) D G A ad 2 12 5 Z 32 [(3, .ref (ad 9 x3)), (4, .ref (ad 5 x4))] [] := by
    intro  x3 x4 Z h H locs ls hI hN hS hl
    unfold fX6_give_32 at h
    refine lv_iconst (v := (0 : Int32)) hx hb dX6_give_32 (by decide) ?_
    exact w33  x3 x4 (0 : Int32) Z h _ _ _ hI hN hS (lv_sub hl [0, 1] rfl)
  unfold fX6_give at h
  refine lv_aload_n hx hb dX6_give_0 rfl (lv_at hl 0 rfl) ?_
  refine lv_iload_n hx hb dX6_give_1 rfl (lv_at hl 1 rfl) ?_
  rcases cx1_ok h with ⟨q3, c1, h⟩ | ⟨x2, c1, h⟩
  · refine xg_callr (k := 9) (q := q3) (vx_runV (As := [.int a1]) (rest := []) ⟨hx, hb, hml, hown, hts⟩ (mX6_playerAt l hfl D G A ad Z a1 (.inl q3) c1) (cwV 1 hts gX6_give_X6_playerAt rfl rfl rfl (by decide +kernel) ⟨Nat.le_of_ble_eq_true rfl, Nat.le_of_ble_eq_true rfl⟩) (xg_preV hI hK hN hE hS rfl rfl (ci := 7) rfl) rfl rfl hl.1 rfl (lv_room (Nat.le_of_ble_eq_true rfl)) dX6_give_2 ⟨Nat.le_of_ble_eq_true rfl, Nat.le_of_ble_eq_true rfl⟩) hS (fun H locs hI hN hS => ?_)
    refine W.widen (k := 1) (n := 6) (by decide) (by decide) ?_
    refine lv_astore_n (lv' := [(3, .ref (ad 9 q3)), (0, .ref (ad 0 0)), (1, .int a1), (2, .int a2)]) hx hb dX6_give_5 rfl hl (by decide) rfl (fun ls hl => ?_)
    refine lv_aload_n hx hb dX6_give_6 rfl (lv_at hl 1 rfl) ?_
    refine lv_iload_n hx hb dX6_give_7 rfl (lv_at hl 3 rfl) ?_
    rcases cx1_ok h with ⟨q6, c4, h⟩ | ⟨x5, c4, h⟩
    · refine xg_callr (k := 5) (q := q6) (vx_runV (As := [.int a2]) (rest := []) ⟨hx, hb, hml, hown, hts⟩ (mX6_panAt l hfl D G A ad Z a2 (.inl q6) c4) (cwV 1 hts gX6_give_X6_panAt rfl rfl rfl (by decide +kernel) ⟨Nat.le_of_ble_eq_true rfl, Nat.le_of_ble_eq_true rfl⟩) (xg_preV hI hK hN hE hS rfl rfl (ci := 7) rfl) rfl rfl hl.1 rfl (lv_room (Nat.le_of_ble_eq_true rfl)) dX6_give_8 ⟨Nat.le_of_ble_eq_true rfl, Nat.le_of_ble_eq_true rfl⟩) hS (fun H locs hI hN hS => ?_)
      refine W.widen (k := 2) (n := 12) (by decide) (by decide) ?_
      refine lv_astore (lv' := [(4, .ref (ad 5 q6)), (3, .ref (ad 9 q3)), (0, .ref (ad 0 0)), (1, .int a1), (2, .int a2)]) hx hb dX6_give_11 hl (by decide) rfl (fun ls hl => ?_)
      refine lv_aload_n hx hb dX6_give_13 rfl (lv_at hl 1 rfl) ?_
      obtain ⟨g7, h⟩ := gd_ok h
      rcases op2_ok h with ⟨c9, h⟩ | ⟨q8, c9, h⟩
      · refine cg_get (T := TX4) (N := 6) (ci := 5) hx hb hts iwsX40 hown hK hN g7 rfl rfl 2 (by decide) l0 rfl (v := .null) (congrArg (fun o => some (va_rf (Option.map (ad 5) o))) c9) dX6_give_14 ?_
        refine lv_ifnonnullN hx hb dX6_give_17 ?_
        refine lv_aload hx hb dX6_give_20 (lv_at hl 0 rfl) ?_
        obtain ⟨g10, h⟩ := gd_ok h
        refine cg_get (T := TX1) (N := 5) (ci := 2) hx hb hts iwsX10 hown hK hN g10 rfl rfl 4 (by decide) l1 rfl (v := .int (Z.1 5 q6 4)) rfl dX6_give_22 ?_
        refine lv_if_ne (tgt := 32) hx hb dX6_give_25 (by decide) (fun hc => ?_) (fun hc => ?_)
        · have h := ite_f h hc
          exact w32  q3 q6 Z h _ _ _ hI hN hS (lv_sub hl [1, 0] rfl)
        · have h := ite_t h hc
          refine lv_iconst (v := (1 : Int32)) hx hb dX6_give_28 (by decide) ?_
          refine lv_goto (tgt := 33) hx hb dX6_give_29 (by decide) ?_
          exact w33  q3 q6 (1 : Int32) Z h _ _ _ hI hN hS (lv_sub hl [1, 0] rfl)
      · refine cg_get (T := TX4) (N := 6) (ci := 5) hx hb hts iwsX40 hown hK hN g7 rfl rfl 2 (by decide) l0 rfl (v := .ref (ad 5 q8)) (congrArg (fun o => some (va_rf (Option.map (ad 5) o))) c9) dX6_give_14 ?_
        refine lv_ifnonnull (tgt := 32) hx hb dX6_give_17 (by decide) ?_
        exact w32  q3 q6 Z h _ _ _ hI hN hS (lv_sub hl [1, 0] rfl)
    · exact xg_thrr (k := 5) (vx_runV (As := [.int a2]) (rest := []) ⟨hx, hb, hml, hown, hts⟩ (mX6_panAt l hfl D G A ad Z a2 (.inr x5) c4) (cwV 1 hts gX6_give_X6_panAt rfl rfl rfl (by decide +kernel) ⟨Nat.le_of_ble_eq_true rfl, Nat.le_of_ble_eq_true rfl⟩) (xg_preV hI hK hN hE hS rfl rfl (ci := 7) rfl) rfl rfl hl.1 rfl (lv_room (Nat.le_of_ble_eq_true rfl)) dX6_give_8 ⟨Nat.le_of_ble_eq_true rfl, Nat.le_of_ble_eq_true rfl⟩) (congrArg Prod.fst (Option.some.inj h)).symm (congrArg Prod.snd (Option.some.inj h)).symm hexc hlocks hS (by decide) (by decide)
  · exact xg_thrr (k := 9) (vx_runV (As := [.int a1]) (rest := []) ⟨hx, hb, hml, hown, hts⟩ (mX6_playerAt l hfl D G A ad Z a1 (.inr x2) c1) (cwV 1 hts gX6_give_X6_playerAt rfl rfl rfl (by decide +kernel) ⟨Nat.le_of_ble_eq_true rfl, Nat.le_of_ble_eq_true rfl⟩) (xg_preV hI hK hN hE hS rfl rfl (ci := 7) rfl) rfl rfl hl.1 rfl (lv_room (Nat.le_of_ble_eq_true rfl)) dX6_give_2 ⟨Nat.le_of_ble_eq_true rfl, Nat.le_of_ble_eq_true rfl⟩) (congrArg Prod.fst (Option.some.inj h)).symm (congrArg Prod.snd (Option.some.inj h)).symm hexc hlocks hS (by decide) (by decide)
def fX6_takeBack (a1 : Int32) (Z : CZ) : Option ((Int32 ⊕ Int32) × CZ) := cx1 (fX6_playerAt a1 Z) (fun x2 => some (.inr x2, Z)) (fun q3 => gd (cLv Z.2.2 9 q3) (op2 (Z.2.1 9 q3 2) (some (.inr 3, Z)) (fun q5 => bnd (cuR Z 9 q3 (va_up (Z.2.1 9 q3) 2 none)) (fun Z7 => gd (cLv Z7.2.2 5 q5) (bnd (cuI Z7 5 q5 (upd (Z7.1 5 q5) 4 (0 : Int32))) (fun Z9 => some (.inl (Z9.1 5 q5 0), Z9)))))))
def rmX6_takeBack : Room := { frames := 8, cells := 2, slots := 12, locals := 142 }
set_option maxHeartbeats 4000000 in
set_option maxRecDepth 100000 in
theorem mX6_takeBack (l : Launch) (hfl : l.stackTraces = false) (D : va_G) (G : CGT) (A : Nat → Prop) (ad : Nat → Nat → Nat) (Z : CZ) (a1 : Int32) (rz : (Int32 ⊕ Int32)) (Zz : CZ) (h : fX6_takeBack a1 Z = some (rz, Zz)) : vx_Met l yX6_takeBack wsX6_takeBack rmX6_takeBack (va_Pc [.ref (ad 0 0), .int a1] (xP D G A ad Z)) (xQi D G A ad rz Zz) (xX D G A ad rz Zz) 2 12 A := by
  refine vx_ofW (cc := cX6_takeBack) (maxL := 4) (ret := some .int) (by decide) rfl ?_
  intro p e s m args below meth c s₁ B hml hexc hv
  obtain ⟨rfl, ⟨hI, hN, hK⟩, hE⟩ := hv
  have hx := B.exec
  have hb := B.bytes
  have hr := B.returns
  have hts := atoms_spec (ws := wsX6_takeBack) B.pre
  have hown : s.vm.findClass RX6 = some m.cls := findClass_of_methodNamed B.named
  have hlocks := B.notSynchronized
  have iwsX40 : ∀ w ∈ wsX40, w ∈ wsX6_takeBack := fun w h => List.mem_cons_of_mem _ (List.mem_append_left _ (List.mem_append_left _ (List.mem_append_left _ (List.mem_append_left _ (List.mem_append_left _ (List.mem_append_right _ h))))))
  have iwsX10 : ∀ w ∈ wsX10, w ∈ wsX6_takeBack := fun w h => List.mem_cons_of_mem _ (List.mem_append_left _ (List.mem_append_left _ (List.mem_append_left _ (List.mem_append_left _ (List.mem_append_right _ h)))))
  have l0 := hts (.fieldLink RX6 153 "Panyard$Player" "pan" "LPanyard$Pan;") (List.mem_of_getElem? (i := 3) rfl)
  have l1 := hts (.classLink RX6 161 "java/lang/IllegalStateException") (List.mem_of_getElem? (i := 1) rfl)
  have l2 := hts (.initialized "java/lang/IllegalStateException") (List.mem_of_getElem? (i := 2) rfl)
  have l3 := hts (.fieldLink RX6 157 "Panyard$Pan" "isGiven" "Z") (List.mem_of_getElem? (i := 4) rfl)
  have l4 := hts (.fieldLink RX6 64 "Panyard$Pan" "number" "I") (List.mem_of_getElem? (i := 5) rfl)
  have hS : va_S A s.heap s.heap [] := va_S.rf
  have hl := lv_entry ([.ref (ad 0 0), .int a1]) (n := 4) (Nat.le_of_ble_eq_true rfl)
  rw [lg_entry_eq]
  generalize (lg_sl ([.ref (ad 0 0), .int a1]) ++ List.replicate (4 - (lg_sl ([.ref (ad 0 0), .int a1])).length) Slot.unset).toArray = ls at hl ⊢
  have hl : lv_has ls 4 [(0, .ref (ad 0 0)), (1, .int a1)] := hl
  unfold fX6_takeBack at h
  refine lv_aload_n hx hb dX6_takeBack_0 rfl (lv_at hl 0 rfl) ?_
  refine lv_iload_n hx hb dX6_takeBack_1 rfl (lv_at hl 1 rfl) ?_
  rcases cx1_ok h with ⟨q3, c1, h⟩ | ⟨x2, c1, h⟩
  · refine xg_callr (k := 9) (q := q3) (vx_runV (As := [.int a1]) (rest := []) ⟨hx, hb, hml, hown, hts⟩ (mX6_playerAt l hfl D G A ad Z a1 (.inl q3) c1) (cwV 1 hts gX6_takeBack_X6_playerAt rfl rfl rfl (by decide +kernel) ⟨Nat.le_of_ble_eq_true rfl, Nat.le_of_ble_eq_true rfl⟩) (xg_preV hI hK hN hE hS rfl rfl (ci := 7) rfl) rfl rfl hl.1 rfl (lv_room (Nat.le_of_ble_eq_true rfl)) dX6_takeBack_2 ⟨Nat.le_of_ble_eq_true rfl, Nat.le_of_ble_eq_true rfl⟩) hS (fun H locs hI hN hS => ?_)
    refine W.widen (k := 1) (n := 6) (by decide) (by decide) ?_
    refine lv_astore_n (lv' := [(2, .ref (ad 9 q3)), (0, .ref (ad 0 0)), (1, .int a1)]) hx hb dX6_takeBack_5 rfl hl (by decide) rfl (fun ls hl => ?_)
    refine lv_aload_n hx hb dX6_takeBack_6 rfl (lv_at hl 0 rfl) ?_
    obtain ⟨g4, h⟩ := gd_ok h
    rcases op2_ok h with ⟨c6, h⟩ | ⟨q5, c6, h⟩
    · refine cg_get (T := TX4) (N := 6) (ci := 5) hx hb hts iwsX40 hown hK hN g4 rfl rfl 2 (by decide) l0 rfl (v := .null) (congrArg (fun o => some (va_rf (Option.map (ad 5) o))) c6) dX6_takeBack_7 ?_
      refine lv_astore_nN (lv' := [(3, .null), (2, .ref (ad 9 q3)), (0, .ref (ad 0 0)), (1, .int a1)]) hx hb dX6_takeBack_10 rfl hl (by decide) rfl (fun ls hl => ?_)
      refine lv_aload_nN hx hb dX6_takeBack_11 rfl (lv_at hl 0 rfl) ?_
      refine lv_ifnonnullN hx hb dX6_takeBack_12 ?_
      exact xg_throw (cd := 3) (text := "the player has no pan") hx hb hfl hown (by decide +kernel) l1 l2 (by decide +kernel) (fun w hw => hts w (List.mem_cons_of_mem _ (List.mem_append_left _ (List.mem_append_right _ hw)))) (by decide +kernel) (by decide +kernel) (by decide +kernel) hE hI hK hN hS (hl.1.trans hml.symm) dX6_takeBack_15 dX6_takeBack_18 dX6_takeBack_19 dX6_takeBack_21 dX6_takeBack_24 hexc hlocks (Nat.le_of_ble_eq_true rfl) (Nat.le_of_ble_eq_true rfl) (Nat.le_of_ble_eq_true rfl) (Nat.le_of_ble_eq_true rfl) (Nat.le_of_ble_eq_true rfl) (Nat.le_of_ble_eq_true rfl) (congrArg Prod.fst (Option.some.inj h)).symm (congrArg Prod.snd (Option.some.inj h)).symm
    · refine cg_get (T := TX4) (N := 6) (ci := 5) hx hb hts iwsX40 hown hK hN g4 rfl rfl 2 (by decide) l0 rfl (v := .ref (ad 5 q5)) (congrArg (fun o => some (va_rf (Option.map (ad 5) o))) c6) dX6_takeBack_7 ?_
      refine lv_astore_n (lv' := [(3, .ref (ad 5 q5)), (2, .ref (ad 9 q3)), (0, .ref (ad 0 0)), (1, .int a1)]) hx hb dX6_takeBack_10 rfl hl (by decide) rfl (fun ls hl => ?_)
      refine lv_aload_n hx hb dX6_takeBack_11 rfl (lv_at hl 0 rfl) ?_
      refine lv_ifnonnull (tgt := 25) hx hb dX6_takeBack_12 (by decide) ?_
      refine lv_aload_n hx hb dX6_takeBack_25 rfl (lv_at hl 1 rfl) ?_
      refine lv_null hx hb dX6_takeBack_26 ?_
      obtain ⟨Z7, eZ7⟩ : ∃ y : CZ, y = (cuR Z 9 q3 (va_up (Z.2.1 9 q3) 2 none)) := ⟨_, rfl⟩
      have h := bnd_ok h eZ7
      refine cg_putq (v := .null) (ty := (.object "Panyard$Pan")) (T := TX4) (N := 6) (ci := 5) hx hb hts iwsX40 tyX4_ok nmX4 hown hI hK hN hS g4 rfl rfl 2 (by decide) (Nat.le_of_ble_eq_true rfl) l0 rfl rfl (by decide +kernel) rfl rfl rfl dX6_takeBack_27 eZ7 (fun H locs hI hN hS => ?_)
      refine lv_aload_n hx hb dX6_takeBack_30 rfl (lv_at hl 0 rfl) ?_
      refine lv_iconst (v := (0 : Int32)) hx hb dX6_takeBack_31 (by decide) ?_
      obtain ⟨g8, h⟩ := gd_ok h
      obtain ⟨Z9, eZ9⟩ : ∃ y : CZ, y = (cuI Z7 5 q5 (upd (Z7.1 5 q5) 4 (0 : Int32))) := ⟨_, rfl⟩
      have h := bnd_ok h eZ9
      refine cg_put (ty := .boolean) (T := TX1) (N := 5) (ci := 2) hx hb hts iwsX10 tyX1_ok nmX1 hown hI hK hN hS g8 rfl rfl 4 (by decide) (Nat.le_of_ble_eq_true rfl) l3 rfl rfl (by decide +kernel) rfl rfl rfl dX6_takeBack_32 eZ9 (fun H locs hI hN hS => ?_)
      refine lv_aload_n hx hb dX6_takeBack_35 rfl (lv_at hl 0 rfl) ?_
      refine cg_get (T := TX1) (N := 5) (ci := 2) hx hb hts iwsX10 hown hK hN (by rw [eZ9]; exact g8) rfl rfl 0 (by decide) l4 rfl (v := .int (Z9.1 5 q5 0)) rfl dX6_takeBack_36 ?_
      exact vx_ret (W.widen (k := 2) (n := 12) (by decide) (by decide) (W.iret hx hb hr (xg_endi h hI hK hN hS) hS.2.2 dX6_takeBack_39))
  · exact xg_thrr (k := 9) (vx_runV (As := [.int a1]) (rest := []) ⟨hx, hb, hml, hown, hts⟩ (mX6_playerAt l hfl D G A ad Z a1 (.inr x2) c1) (cwV 1 hts gX6_takeBack_X6_playerAt rfl rfl rfl (by decide +kernel) ⟨Nat.le_of_ble_eq_true rfl, Nat.le_of_ble_eq_true rfl⟩) (xg_preV hI hK hN hE hS rfl rfl (ci := 7) rfl) rfl rfl hl.1 rfl (lv_room (Nat.le_of_ble_eq_true rfl)) dX6_takeBack_2 ⟨Nat.le_of_ble_eq_true rfl, Nat.le_of_ble_eq_true rfl⟩) (congrArg Prod.fst (Option.some.inj h)).symm (congrArg Prod.snd (Option.some.inj h)).symm hexc hlocks hS (by decide) (by decide)
def fX6_ofPlayer_49 (Z : CZ) (t0 : Int32) : Option ((Int32 ⊕ Int32)) := some (.inl t0)
def fX6_ofPlayer (a1 : Int32) (a2 : Int32) (Z : CZ) : Option ((Int32 ⊕ Int32)) := cx1 (fX6_playerAt a1 Z) (fun x2 => some (.inr x2)) (fun q3 => cx1 (fX6_requireRange a2 (0 : Int32) (2 : Int32) Z) (fun x5 => some (.inr x5)) (fun _ => (if a2 = 0 then gd (cLv Z.2.2 9 q3) (some (.inl (Z.1 9 q3 1))) else (if a2 = (1 : Int32) then gd (cLv Z.2.2 9 q3) (some (.inl (Z.1 9 q3 3))) else gd (cLv Z.2.2 9 q3) (op2 (Z.2.1 9 q3 2) (fX6_ofPlayer_49 Z (-1 : Int32)) (fun q8 => gd (cLv Z.2.2 5 q8) (fX6_ofPlayer_49 Z (Z.1 5 q8 0))))))))
def rmX6_ofPlayer : Room := { frames := 8, cells := 2, slots := 12, locals := 142 }
set_option maxHeartbeats 4000000 in
set_option maxRecDepth 100000 in
theorem mX6_ofPlayer (l : Launch) (hfl : l.stackTraces = false) (D : va_G) (G : CGT) (A : Nat → Prop) (ad : Nat → Nat → Nat) (Z : CZ) (a1 : Int32) (a2 : Int32) (rz : (Int32 ⊕ Int32)) (h : fX6_ofPlayer a1 a2 Z = some rz) : vx_Met l yX6_ofPlayer wsX6_ofPlayer rmX6_ofPlayer (va_Pc [.ref (ad 0 0), .int a1, .int a2] (xP D G A ad Z)) (xQi D G A ad rz Z) (xX D G A ad rz Z) 2 12 A := by
  refine vx_ofW (cc := cX6_ofPlayer) (maxL := 4) (ret := some .int) (by decide) rfl ?_
  intro p e s m args below meth c s₁ B hml hexc hv
  obtain ⟨rfl, ⟨hI, hN, hK⟩, hE⟩ := hv
  have hx := B.exec
  have hb := B.bytes
  have hr := B.returns
  have hts := atoms_spec (ws := wsX6_ofPlayer) B.pre
  have hown : s.vm.findClass RX6 = some m.cls := findClass_of_methodNamed B.named
  have hlocks := B.notSynchronized
  have iwsX40 : ∀ w ∈ wsX40, w ∈ wsX6_ofPlayer := fun w h => List.mem_cons_of_mem _ (List.mem_append_left _ (List.mem_append_left _ (List.mem_append_left _ (List.mem_append_left _ (List.mem_append_left _ (List.mem_append_right _ h))))))
  have iwsX10 : ∀ w ∈ wsX10, w ∈ wsX6_ofPlayer := fun w h => List.mem_cons_of_mem _ (List.mem_append_left _ (List.mem_append_left _ (List.mem_append_left _ (List.mem_append_left _ (List.mem_append_right _ h)))))
  have l0 := hts (.fieldLink RX6 153 "Panyard$Player" "pan" "LPanyard$Pan;") (List.mem_of_getElem? (i := 3) rfl)
  have l1 := hts (.fieldLink RX6 64 "Panyard$Pan" "number" "I") (List.mem_of_getElem? (i := 4) rfl)
  have l2 := hts (.fieldLink RX6 126 "Panyard$Player" "bandCount" "I") (List.mem_of_getElem? (i := 2) rfl)
  have l3 := hts (.fieldLink RX6 168 "Panyard$Player" "layout" "I") (List.mem_of_getElem? (i := 1) rfl)
  have hS : va_S A s.heap s.heap [] := va_S.rf
  have hl := lv_entry ([.ref (ad 0 0), .int a1, .int a2]) (n := 4) (Nat.le_of_ble_eq_true rfl)
  rw [lg_entry_eq]
  generalize (lg_sl ([.ref (ad 0 0), .int a1, .int a2]) ++ List.replicate (4 - (lg_sl ([.ref (ad 0 0), .int a1, .int a2])).length) Slot.unset).toArray = ls at hl ⊢
  have hl : lv_has ls 4 [(0, .ref (ad 0 0)), (1, .int a1), (2, .int a2)] := hl
  have w49 : ∀ (t0 : Int32), fX6_ofPlayer_49 Z t0 = some rz → cG p l e (headSpec wsX6_ofPlayer rmX6_ofPlayer).room s m (([.ref (ad 0 0), .int a1, .int a2] : List Value).toArray) below meth c (vx_MQ below (xQi D G A ad rz Z) (xX D G A ad rz Z) (([.ref (ad 0 0), .int a1, .int a2] : List Value).toArray) s 2 12 A) D G A ad 2 12 4 Z 49 [] [.int t0] := by
    intro  t0 h H locs ls hI hN hS hl
    unfold fX6_ofPlayer_49 at h
    exact vx_ret (W.widen (k := 2) (n := 12) (by decide) (by decide) (W.iret hx hb hr (xg_endr h hI hK hN hS) hS.2.2 dX6_ofPlayer_49))
  unfold fX6_ofPlayer at h
  refine lv_aload_n hx hb dX6_ofPlayer_0 rfl (lv_at hl 0 rfl) ?_
  refine lv_iload_n hx hb dX6_ofPlayer_1 rfl (lv_at hl 1 rfl) ?_
  rcases cx1_ok h with ⟨q3, c1, h⟩ | ⟨x2, c1, h⟩
  · refine xg_callr (k := 9) (q := q3) (vx_runV (As := [.int a1]) (rest := []) ⟨hx, hb, hml, hown, hts⟩ (mX6_playerAt l hfl D G A ad Z a1 (.inl q3) c1) (cwV 1 hts gX6_ofPlayer_X6_playerAt rfl rfl rfl (by decide +kernel) ⟨Nat.le_of_ble_eq_true rfl, Nat.le_of_ble_eq_true rfl⟩) (xg_preV hI hK hN hE hS rfl rfl (ci := 7) rfl) rfl rfl hl.1 rfl (lv_room (Nat.le_of_ble_eq_true rfl)) dX6_ofPlayer_2 ⟨Nat.le_of_ble_eq_true rfl, Nat.le_of_ble_eq_true rfl⟩) hS (fun H locs hI hN hS => ?_)
    refine W.widen (k := 1) (n := 6) (by decide) (by decide) ?_
    refine lv_astore_n (lv' := [(3, .ref (ad 9 q3)), (0, .ref (ad 0 0)), (1, .int a1), (2, .int a2)]) hx hb dX6_ofPlayer_5 rfl hl (by decide) rfl (fun ls hl => ?_)
    refine lv_iload_n hx hb dX6_ofPlayer_6 rfl (lv_at hl 3 rfl) ?_
    refine lv_iconst (v := (0 : Int32)) hx hb dX6_ofPlayer_7 (by decide) ?_
    refine lv_iconst (v := (2 : Int32)) hx hb dX6_ofPlayer_8 (by decide) ?_
    rcases cx1_ok h with ⟨v6, c4, h⟩ | ⟨x5, c4, h⟩
    · refine xg_callv (vx_runS (As := [.int a2, .int (0 : Int32), .int (2 : Int32)]) (rest := []) ⟨hx, hb, hml, hown, hts⟩ (mX6_requireRange l hfl D G A ad Z a2 (0 : Int32) (2 : Int32) (.inl ()) c4) (va_cwS 3 hts gX6_ofPlayer_X6_requireRange rfl rfl rfl (by decide +kernel) ⟨Nat.le_of_ble_eq_true rfl, Nat.le_of_ble_eq_true rfl⟩) (xg_preS hI hK hN hE hS) rfl rfl hl.1 rfl (lv_room (Nat.le_of_ble_eq_true rfl)) dX6_ofPlayer_9 ⟨Nat.le_of_ble_eq_true rfl, Nat.le_of_ble_eq_true rfl⟩) hS (fun H locs hI hN hS => ?_)
      refine W.widen (k := 2) (n := 12) (by decide) (by decide) ?_
      refine lv_iload_n hx hb dX6_ofPlayer_12 rfl (lv_at hl 3 rfl) ?_
      refine lv_if_ne (tgt := 21) hx hb dX6_ofPlayer_13 (by decide) (fun hc => ?_) (fun hc => ?_)
      · have h := ite_f h hc
        refine lv_iload_n hx hb dX6_ofPlayer_21 rfl (lv_at hl 3 rfl) ?_
        refine lv_iconst (v := (1 : Int32)) hx hb dX6_ofPlayer_22 (by decide) ?_
        refine lv_icmp_ne (tgt := 31) hx hb dX6_ofPlayer_23 (by decide) (fun hc => ?_) (fun hc => ?_)
        · have h := ite_f h hc
          refine lv_aload_n hx hb dX6_ofPlayer_31 rfl (lv_at hl 0 rfl) ?_
          obtain ⟨g7, h⟩ := gd_ok h
          rcases op2_ok h with ⟨c9, h⟩ | ⟨q8, c9, h⟩
          · refine cg_get (T := TX4) (N := 6) (ci := 5) hx hb hts iwsX40 hown hK hN g7 rfl rfl 2 (by decide) l0 rfl (v := .null) (congrArg (fun o => some (va_rf (Option.map (ad 5) o))) c9) dX6_ofPlayer_32 ?_
            refine lv_ifnonnullN hx hb dX6_ofPlayer_35 ?_
            refine lv_iconst (v := (-1 : Int32)) hx hb dX6_ofPlayer_38 (by decide) ?_
            refine lv_goto (tgt := 49) hx hb dX6_ofPlayer_39 (by decide) ?_
            exact w49  (-1 : Int32) h _ _ _ hI hN hS (lv_sub hl [] rfl)
          · refine cg_get (T := TX4) (N := 6) (ci := 5) hx hb hts iwsX40 hown hK hN g7 rfl rfl 2 (by decide) l0 rfl (v := .ref (ad 5 q8)) (congrArg (fun o => some (va_rf (Option.map (ad 5) o))) c9) dX6_ofPlayer_32 ?_
            refine lv_ifnonnull (tgt := 42) hx hb dX6_ofPlayer_35 (by decide) ?_
            refine lv_aload_n hx hb dX6_ofPlayer_42 rfl (lv_at hl 0 rfl) ?_
            refine cg_get (T := TX4) (N := 6) (ci := 5) hx hb hts iwsX40 hown hK hN g7 rfl rfl 2 (by decide) l0 rfl (v := .ref (ad 5 q8)) (congrArg (fun o => some (va_rf (Option.map (ad 5) o))) c9) dX6_ofPlayer_43 ?_
            obtain ⟨g10, h⟩ := gd_ok h
            refine cg_get (T := TX1) (N := 5) (ci := 2) hx hb hts iwsX10 hown hK hN g10 rfl rfl 0 (by decide) l1 rfl (v := .int (Z.1 5 q8 0)) rfl dX6_ofPlayer_46 ?_
            exact w49  (Z.1 5 q8 0) h _ _ _ hI hN hS (lv_sub hl [] rfl)
        · have h := ite_t h hc
          refine lv_aload_n hx hb dX6_ofPlayer_26 rfl (lv_at hl 0 rfl) ?_
          obtain ⟨g11, h⟩ := gd_ok h
          refine cg_get (T := TX4) (N := 6) (ci := 5) hx hb hts iwsX40 hown hK hN g11 rfl rfl 3 (by decide) l2 rfl (v := .int (Z.1 9 q3 3)) rfl dX6_ofPlayer_27 ?_
          exact vx_ret (W.widen (k := 2) (n := 12) (by decide) (by decide) (W.iret hx hb hr (xg_endr h hI hK hN hS) hS.2.2 dX6_ofPlayer_30))
      · have h := ite_t h hc
        refine lv_aload_n hx hb dX6_ofPlayer_16 rfl (lv_at hl 0 rfl) ?_
        obtain ⟨g12, h⟩ := gd_ok h
        refine cg_get (T := TX4) (N := 6) (ci := 5) hx hb hts iwsX40 hown hK hN g12 rfl rfl 1 (by decide) l3 rfl (v := .int (Z.1 9 q3 1)) rfl dX6_ofPlayer_17 ?_
        exact vx_ret (W.widen (k := 2) (n := 12) (by decide) (by decide) (W.iret hx hb hr (xg_endr h hI hK hN hS) hS.2.2 dX6_ofPlayer_20))
    · exact xg_thrv (vx_runS (As := [.int a2, .int (0 : Int32), .int (2 : Int32)]) (rest := []) ⟨hx, hb, hml, hown, hts⟩ (mX6_requireRange l hfl D G A ad Z a2 (0 : Int32) (2 : Int32) (.inr x5) c4) (va_cwS 3 hts gX6_ofPlayer_X6_requireRange rfl rfl rfl (by decide +kernel) ⟨Nat.le_of_ble_eq_true rfl, Nat.le_of_ble_eq_true rfl⟩) (xg_preS hI hK hN hE hS) rfl rfl hl.1 rfl (lv_room (Nat.le_of_ble_eq_true rfl)) dX6_ofPlayer_9 ⟨Nat.le_of_ble_eq_true rfl, Nat.le_of_ble_eq_true rfl⟩) (Option.some.inj h).symm rfl hexc hlocks hS (by decide) (by decide)
  · exact xg_thrr (k := 9) (vx_runV (As := [.int a1]) (rest := []) ⟨hx, hb, hml, hown, hts⟩ (mX6_playerAt l hfl D G A ad Z a1 (.inr x2) c1) (cwV 1 hts gX6_ofPlayer_X6_playerAt rfl rfl rfl (by decide +kernel) ⟨Nat.le_of_ble_eq_true rfl, Nat.le_of_ble_eq_true rfl⟩) (xg_preV hI hK hN hE hS rfl rfl (ci := 7) rfl) rfl rfl hl.1 rfl (lv_room (Nat.le_of_ble_eq_true rfl)) dX6_ofPlayer_2 ⟨Nat.le_of_ble_eq_true rfl, Nat.le_of_ble_eq_true rfl⟩) (Option.some.inj h).symm rfl hexc hlocks hS (by decide) (by decide)
def fX6_note_27 (x2 : Int32) (x3 : Nat) (t0 : Int32) (Z : CZ) : Option ((Int32 ⊕ Int32) × CZ) := cx1 (fX6_requireState t0 Z) (fun x9 => some (.inr x9, Z)) (fun _ => gd (cLv Z.2.2 10 x3) (gd (gin (Z.1 10 x3 3) 24) (bnd (cuI Z 11 x3 (upd (Z.1 11 x3) (Int32.toNatClampNeg (Z.1 10 x3 3)) x2)) (fun Z13 => bnd (cuI Z13 10 x3 (upd (Z13.1 10 x3) 3 ((Z13.1 10 x3 3) + (1 : Int32)))) (fun Z14 => some (.inl (Z14.1 10 x3 3), Z14))))))
def fX6_note (a1 : Int32) (a2 : Int32) (Z : CZ) : Option ((Int32 ⊕ Int32) × CZ) := cx1 (fX6_bandAt a1 Z) (fun x2 => some (.inr x2, Z)) (fun q3 => cx1 (fX6_requireRange a2 (0 : Int32) (11 : Int32) Z) (fun x5 => some (.inr x5, Z)) (fun _ => gd (cLv Z.2.2 10 q3) ((if (24 : Int32) ≤ (Z.1 10 q3 3) then fX6_note_27 a2 q3 (0 : Int32) Z else fX6_note_27 a2 q3 (1 : Int32) Z))))
def rmX6_note : Room := { frames := 8, cells := 3, slots := 18, locals := 142 }
set_option maxHeartbeats 4000000 in
set_option maxRecDepth 100000 in
theorem mX6_note (l : Launch) (hfl : l.stackTraces = false) (D : va_G) (G : CGT) (A : Nat → Prop) (ad : Nat → Nat → Nat) (Z : CZ) (a1 : Int32) (a2 : Int32) (rz : (Int32 ⊕ Int32)) (Zz : CZ) (h : fX6_note a1 a2 Z = some (rz, Zz)) : vx_Met l yX6_note wsX6_note rmX6_note (va_Pc [.ref (ad 0 0), .int a1, .int a2] (xP D G A ad Z)) (xQi D G A ad rz Zz) (xX D G A ad rz Zz) 3 18 A := by
  refine vx_ofW (cc := cX6_note) (maxL := 4) (ret := some .int) (by decide) rfl ?_
  intro p e s m args below meth c s₁ B hml hexc hv
  obtain ⟨rfl, ⟨hI, hN, hK⟩, hE⟩ := hv
  have hx := B.exec
  have hb := B.bytes
  have hr := B.returns
  have hts := atoms_spec (ws := wsX6_note) B.pre
  have hown : s.vm.findClass RX6 = some m.cls := findClass_of_methodNamed B.named
  have hlocks := B.notSynchronized
  have iwsX00 : ∀ w ∈ wsX00, w ∈ wsX6_note := fun w h => List.mem_cons_of_mem _ (List.mem_append_left _ (List.mem_append_left _ (List.mem_append_left _ (List.mem_append_left _ (List.mem_append_left _ (List.mem_append_right _ h))))))
  have l0 := hts (.fieldLink RX6 171 "Panyard$Band" "noteCount" "I") (List.mem_of_getElem? (i := 1) rfl)
  have l1 := hts (.fieldLink RX6 174 "Panyard$Band" "song" "[I") (List.mem_of_getElem? (i := 2) rfl)
  have hS : va_S A s.heap s.heap [] := va_S.rf
  have hl := lv_entry ([.ref (ad 0 0), .int a1, .int a2]) (n := 4) (Nat.le_of_ble_eq_true rfl)
  rw [lg_entry_eq]
  generalize (lg_sl ([.ref (ad 0 0), .int a1, .int a2]) ++ List.replicate (4 - (lg_sl ([.ref (ad 0 0), .int a1, .int a2])).length) Slot.unset).toArray = ls at hl ⊢
  have hl : lv_has ls 4 [(0, .ref (ad 0 0)), (1, .int a1), (2, .int a2)] := hl
  have w27 : ∀ (x2 : Int32) (x3 : Nat) (t0 : Int32) (Z : CZ), fX6_note_27  x2 x3 t0 Z = some (rz, Zz) → cG p l e (headSpec wsX6_note rmX6_note).room s m (([.ref (ad 0 0), .int a1, .int a2] : List Value).toArray) below meth c (vx_MQ below (xQi D G A ad rz Zz) (xX D G A ad rz Zz) (([.ref (ad 0 0), .int a1, .int a2] : List Value).toArray) s 3 18 A) D G A ad 2 12 4 Z 27 [(2, .int x2), (3, .ref (ad 10 x3))] [.int t0] := by
    intro  x2 x3 t0 Z h H locs ls hI hN hS hl
    unfold fX6_note_27 at h
    rcases cx1_ok h with ⟨v10, c8, h⟩ | ⟨x9, c8, h⟩
    · refine xg_callv (vx_runS (As := [.int t0]) (rest := []) ⟨hx, hb, hml, hown, hts⟩ (mX6_requireState l hfl D G A ad Z t0 (.inl ()) c8) (va_cwS 1 hts gX6_note_X6_requireState rfl rfl rfl (by decide +kernel) ⟨Nat.le_of_ble_eq_true rfl, Nat.le_of_ble_eq_true rfl⟩) (xg_preS hI hK hN hE hS) rfl rfl hl.1 rfl (lv_room (Nat.le_of_ble_eq_true rfl)) dX6_note_27 ⟨Nat.le_of_ble_eq_true rfl, Nat.le_of_ble_eq_true rfl⟩) hS (fun H locs hI hN hS => ?_)
      refine W.widen (k := 3) (n := 18) (by decide) (by decide) ?_
      refine lv_aload_n hx hb dX6_note_30 rfl (lv_at hl 1 rfl) ?_
      obtain ⟨g11, h⟩ := gd_ok h
      refine cg_get (T := TX0) (N := 7) (ci := 1) hx hb hts iwsX00 hown hK hN g11 rfl rfl 1 (by decide) l1 rfl (v := .ref (ad 11 x3)) rfl dX6_note_31 ?_
      refine lv_aload_n hx hb dX6_note_34 rfl (lv_at hl 1 rfl) ?_
      refine cg_get (T := TX0) (N := 7) (ci := 1) hx hb hts iwsX00 hown hK hN g11 rfl rfl 3 (by decide) l0 rfl (v := .int (Z.1 10 x3 3)) rfl dX6_note_35 ?_
      refine lv_iload_n hx hb dX6_note_38 rfl (lv_at hl 0 rfl) ?_
      obtain ⟨g12, h⟩ := gd_ok h
      obtain ⟨Z13, eZ13⟩ : ∃ y : CZ, y = (cuI Z 11 x3 (upd (Z.1 11 x3) (Int32.toNatClampNeg (Z.1 10 x3 3)) x2)) := ⟨_, rfl⟩
      have h := bnd_ok h eZ13
      refine cg_ist hx hb hI hK hN hS g11 rfl (gin_ok g12) rfl dX6_note_39 eZ13 (fun H locs hI hN hS => ?_)
      refine lv_aload_n hx hb dX6_note_40 rfl (lv_at hl 1 rfl) ?_
      refine lv_dup hx hb dX6_note_41 rfl ?_
      refine cg_get (T := TX0) (N := 7) (ci := 1) hx hb hts iwsX00 hown hK hN (by rw [eZ13]; exact g11) rfl rfl 3 (by decide) l0 rfl (v := .int (Z13.1 10 x3 3)) rfl dX6_note_42 ?_
      refine lv_iconst (v := (1 : Int32)) hx hb dX6_note_45 (by decide) ?_
      refine lv_iadd hx hb dX6_note_46 ?_
      obtain ⟨Z14, eZ14⟩ : ∃ y : CZ, y = (cuI Z13 10 x3 (upd (Z13.1 10 x3) 3 ((Z13.1 10 x3 3) + (1 : Int32)))) := ⟨_, rfl⟩
      have h := bnd_ok h eZ14
      refine cg_put (ty := .int) (T := TX0) (N := 7) (ci := 1) hx hb hts iwsX00 tyX0_ok nmX0 hown hI hK hN hS (by rw [eZ13]; exact g11) rfl rfl 3 (by decide) (Nat.le_of_ble_eq_true rfl) l0 rfl rfl (by decide +kernel) rfl rfl rfl dX6_note_47 eZ14 (fun H locs hI hN hS => ?_)
      refine lv_aload_n hx hb dX6_note_50 rfl (lv_at hl 1 rfl) ?_
      refine cg_get (T := TX0) (N := 7) (ci := 1) hx hb hts iwsX00 hown hK hN (by rw [eZ14]; exact (by rw [eZ13]; exact g11)) rfl rfl 3 (by decide) l0 rfl (v := .int (Z14.1 10 x3 3)) rfl dX6_note_51 ?_
      exact vx_ret (W.widen (k := 3) (n := 18) (by decide) (by decide) (W.iret hx hb hr (xg_endi h hI hK hN hS) hS.2.2 dX6_note_54))
    · exact xg_thrv (vx_runS (As := [.int t0]) (rest := []) ⟨hx, hb, hml, hown, hts⟩ (mX6_requireState l hfl D G A ad Z t0 (.inr x9) c8) (va_cwS 1 hts gX6_note_X6_requireState rfl rfl rfl (by decide +kernel) ⟨Nat.le_of_ble_eq_true rfl, Nat.le_of_ble_eq_true rfl⟩) (xg_preS hI hK hN hE hS) rfl rfl hl.1 rfl (lv_room (Nat.le_of_ble_eq_true rfl)) dX6_note_27 ⟨Nat.le_of_ble_eq_true rfl, Nat.le_of_ble_eq_true rfl⟩) (congrArg Prod.fst (Option.some.inj h)).symm (congrArg Prod.snd (Option.some.inj h)).symm hexc hlocks hS (by decide) (by decide)
  unfold fX6_note at h
  refine lv_aload_n hx hb dX6_note_0 rfl (lv_at hl 0 rfl) ?_
  refine lv_iload_n hx hb dX6_note_1 rfl (lv_at hl 1 rfl) ?_
  rcases cx1_ok h with ⟨q3, c1, h⟩ | ⟨x2, c1, h⟩
  · refine xg_callr (k := 10) (q := q3) (vx_runV (As := [.int a1]) (rest := []) ⟨hx, hb, hml, hown, hts⟩ (mX6_bandAt l hfl D G A ad Z a1 (.inl q3) c1) (cwV 1 hts gX6_note_X6_bandAt rfl rfl rfl (by decide +kernel) ⟨Nat.le_of_ble_eq_true rfl, Nat.le_of_ble_eq_true rfl⟩) (xg_preV hI hK hN hE hS rfl rfl (ci := 7) rfl) rfl rfl hl.1 rfl (lv_room (Nat.le_of_ble_eq_true rfl)) dX6_note_2 ⟨Nat.le_of_ble_eq_true rfl, Nat.le_of_ble_eq_true rfl⟩) hS (fun H locs hI hN hS => ?_)
    refine W.widen (k := 1) (n := 6) (by decide) (by decide) ?_
    refine lv_astore_n (lv' := [(3, .ref (ad 10 q3)), (0, .ref (ad 0 0)), (1, .int a1), (2, .int a2)]) hx hb dX6_note_5 rfl hl (by decide) rfl (fun ls hl => ?_)
    refine lv_iload_n hx hb dX6_note_6 rfl (lv_at hl 3 rfl) ?_
    refine lv_iconst (v := (0 : Int32)) hx hb dX6_note_7 (by decide) ?_
    refine lv_bipush (v := (11 : Int32)) hx hb dX6_note_8 (by decide) ?_
    rcases cx1_ok h with ⟨v6, c4, h⟩ | ⟨x5, c4, h⟩
    · refine xg_callv (vx_runS (As := [.int a2, .int (0 : Int32), .int (11 : Int32)]) (rest := []) ⟨hx, hb, hml, hown, hts⟩ (mX6_requireRange l hfl D G A ad Z a2 (0 : Int32) (11 : Int32) (.inl ()) c4) (va_cwS 3 hts gX6_note_X6_requireRange rfl rfl rfl (by decide +kernel) ⟨Nat.le_of_ble_eq_true rfl, Nat.le_of_ble_eq_true rfl⟩) (xg_preS hI hK hN hE hS) rfl rfl hl.1 rfl (lv_room (Nat.le_of_ble_eq_true rfl)) dX6_note_10 ⟨Nat.le_of_ble_eq_true rfl, Nat.le_of_ble_eq_true rfl⟩) hS (fun H locs hI hN hS => ?_)
      refine W.widen (k := 2) (n := 12) (by decide) (by decide) ?_
      refine lv_aload_n hx hb dX6_note_13 rfl (lv_at hl 0 rfl) ?_
      obtain ⟨g7, h⟩ := gd_ok h
      refine cg_get (T := TX0) (N := 7) (ci := 1) hx hb hts iwsX00 hown hK hN g7 rfl rfl 3 (by decide) l0 rfl (v := .int (Z.1 10 q3 3)) rfl dX6_note_14 ?_
      refine lv_bipush (v := (24 : Int32)) hx hb dX6_note_17 (by decide) ?_
      refine lv_icmp_ge (tgt := 26) hx hb dX6_note_19 (by decide) (fun hc => ?_) (fun hc => ?_)
      · have h := ite_t h hc
        refine lv_iconst (v := (0 : Int32)) hx hb dX6_note_26 (by decide) ?_
        exact w27  a2 q3 (0 : Int32) Z h _ _ _ hI hN hS (lv_sub hl [3, 0] rfl)
      · have h := ite_f h hc
        refine lv_iconst (v := (1 : Int32)) hx hb dX6_note_22 (by decide) ?_
        refine lv_goto (tgt := 27) hx hb dX6_note_23 (by decide) ?_
        exact w27  a2 q3 (1 : Int32) Z h _ _ _ hI hN hS (lv_sub hl [3, 0] rfl)
    · exact xg_thrv (vx_runS (As := [.int a2, .int (0 : Int32), .int (11 : Int32)]) (rest := []) ⟨hx, hb, hml, hown, hts⟩ (mX6_requireRange l hfl D G A ad Z a2 (0 : Int32) (11 : Int32) (.inr x5) c4) (va_cwS 3 hts gX6_note_X6_requireRange rfl rfl rfl (by decide +kernel) ⟨Nat.le_of_ble_eq_true rfl, Nat.le_of_ble_eq_true rfl⟩) (xg_preS hI hK hN hE hS) rfl rfl hl.1 rfl (lv_room (Nat.le_of_ble_eq_true rfl)) dX6_note_10 ⟨Nat.le_of_ble_eq_true rfl, Nat.le_of_ble_eq_true rfl⟩) (congrArg Prod.fst (Option.some.inj h)).symm (congrArg Prod.snd (Option.some.inj h)).symm hexc hlocks hS (by decide) (by decide)
  · exact xg_thrr (k := 10) (vx_runV (As := [.int a1]) (rest := []) ⟨hx, hb, hml, hown, hts⟩ (mX6_bandAt l hfl D G A ad Z a1 (.inr x2) c1) (cwV 1 hts gX6_note_X6_bandAt rfl rfl rfl (by decide +kernel) ⟨Nat.le_of_ble_eq_true rfl, Nat.le_of_ble_eq_true rfl⟩) (xg_preV hI hK hN hE hS rfl rfl (ci := 7) rfl) rfl rfl hl.1 rfl (lv_room (Nat.le_of_ble_eq_true rfl)) dX6_note_2 ⟨Nat.le_of_ble_eq_true rfl, Nat.le_of_ble_eq_true rfl⟩) (congrArg Prod.fst (Option.some.inj h)).symm (congrArg Prod.snd (Option.some.inj h)).symm hexc hlocks hS (by decide) (by decide)
def fX6_change_54 (x5 : Int32) (Z : CZ) : Option ((Int32 ⊕ Int32) × CZ) := some (.inl x5, Z)
def fX6_change (a1 : Int32) (a2 : Int32) (a3 : Int32) (Z : CZ) : Option ((Int32 ⊕ Int32) × CZ) := cx1 (fX6_bandAt a1 Z) (fun x2 => some (.inr x2, Z)) (fun q3 => gd (cLv Z.2.2 10 q3) (cx1 (fX6_requireIndex a2 (Z.1 10 q3 3) Z) (fun x6 => some (.inr x6, Z)) (fun _ => cx1 (fX6_requireRange a3 (0 : Int32) (11 : Int32) Z) (fun x9 => some (.inr x9, Z)) (fun _ => gd (gin a2 24) (bnd (Z.1 11 q3 (Int32.toNatClampNeg a2)) (fun v12 => (if a3 = v12 then fX6_change_54 v12 Z else gd (gin a2 24) (bnd (cuI Z 11 q3 (upd (Z.1 11 q3) (Int32.toNatClampNeg a2) a3)) (fun Z14 => cl1 (fX0_spoilPhrase q3 (a2 / (4 : Int32)) Z14) (fun Z15 => fX6_change_54 v12 Z15))))))))))
def rmX6_change : Room := { frames := 8, cells := 3, slots := 18, locals := 142 }
set_option maxHeartbeats 4000000 in
set_option maxRecDepth 100000 in
theorem mX6_change (l : Launch) (hfl : l.stackTraces = false) (D : va_G) (G : CGT) (A : Nat → Prop) (ad : Nat → Nat → Nat) (Z : CZ) (a1 : Int32) (a2 : Int32) (a3 : Int32) (rz : (Int32 ⊕ Int32)) (Zz : CZ) (h : fX6_change a1 a2 a3 Z = some (rz, Zz)) : vx_Met l yX6_change wsX6_change rmX6_change (va_Pc [.ref (ad 0 0), .int a1, .int a2, .int a3] (xP D G A ad Z)) (xQi D G A ad rz Zz) (xX D G A ad rz Zz) 3 18 A := by
  refine vx_ofW (cc := cX6_change) (maxL := 6) (ret := some .int) (by decide) rfl ?_
  intro p e s m args below meth c s₁ B hml hexc hv
  obtain ⟨rfl, ⟨hI, hN, hK⟩, hE⟩ := hv
  have hx := B.exec
  have hb := B.bytes
  have hr := B.returns
  have hts := atoms_spec (ws := wsX6_change) B.pre
  have hown : s.vm.findClass RX6 = some m.cls := findClass_of_methodNamed B.named
  have hlocks := B.notSynchronized
  have iwsX00 : ∀ w ∈ wsX00, w ∈ wsX6_change := fun w h => List.mem_cons_of_mem _ (List.mem_append_left _ (List.mem_append_left _ (List.mem_append_left _ (List.mem_append_left _ (List.mem_append_left _ (List.mem_append_right _ h))))))
  have l0 := hts (.fieldLink RX6 171 "Panyard$Band" "noteCount" "I") (List.mem_of_getElem? (i := 1) rfl)
  have l1 := hts (.fieldLink RX6 174 "Panyard$Band" "song" "[I") (List.mem_of_getElem? (i := 2) rfl)
  have hS : va_S A s.heap s.heap [] := va_S.rf
  have hl := lv_entry ([.ref (ad 0 0), .int a1, .int a2, .int a3]) (n := 6) (Nat.le_of_ble_eq_true rfl)
  rw [lg_entry_eq]
  generalize (lg_sl ([.ref (ad 0 0), .int a1, .int a2, .int a3]) ++ List.replicate (6 - (lg_sl ([.ref (ad 0 0), .int a1, .int a2, .int a3])).length) Slot.unset).toArray = ls at hl ⊢
  have hl : lv_has ls 6 [(0, .ref (ad 0 0)), (1, .int a1), (2, .int a2), (3, .int a3)] := hl
  have w54 : ∀ (x5 : Int32) (Z : CZ), fX6_change_54  x5 Z = some (rz, Zz) → cG p l e (headSpec wsX6_change rmX6_change).room s m (([.ref (ad 0 0), .int a1, .int a2, .int a3] : List Value).toArray) below meth c (vx_MQ below (xQi D G A ad rz Zz) (xX D G A ad rz Zz) (([.ref (ad 0 0), .int a1, .int a2, .int a3] : List Value).toArray) s 3 18 A) D G A ad 3 18 6 Z 54 [(5, .int x5)] [] := by
    intro  x5 Z h H locs ls hI hN hS hl
    unfold fX6_change_54 at h
    refine lv_iload hx hb dX6_change_54 (lv_at hl 0 rfl) ?_
    exact vx_ret (W.widen (k := 3) (n := 18) (by decide) (by decide) (W.iret hx hb hr (xg_endi h hI hK hN hS) hS.2.2 dX6_change_56))
  unfold fX6_change at h
  refine lv_aload_n hx hb dX6_change_0 rfl (lv_at hl 0 rfl) ?_
  refine lv_iload_n hx hb dX6_change_1 rfl (lv_at hl 1 rfl) ?_
  rcases cx1_ok h with ⟨q3, c1, h⟩ | ⟨x2, c1, h⟩
  · refine xg_callr (k := 10) (q := q3) (vx_runV (As := [.int a1]) (rest := []) ⟨hx, hb, hml, hown, hts⟩ (mX6_bandAt l hfl D G A ad Z a1 (.inl q3) c1) (cwV 1 hts gX6_change_X6_bandAt rfl rfl rfl (by decide +kernel) ⟨Nat.le_of_ble_eq_true rfl, Nat.le_of_ble_eq_true rfl⟩) (xg_preV hI hK hN hE hS rfl rfl (ci := 7) rfl) rfl rfl hl.1 rfl (lv_room (Nat.le_of_ble_eq_true rfl)) dX6_change_2 ⟨Nat.le_of_ble_eq_true rfl, Nat.le_of_ble_eq_true rfl⟩) hS (fun H locs hI hN hS => ?_)
    refine W.widen (k := 1) (n := 6) (by decide) (by decide) ?_
    refine lv_astore (lv' := [(4, .ref (ad 10 q3)), (0, .ref (ad 0 0)), (1, .int a1), (2, .int a2), (3, .int a3)]) hx hb dX6_change_5 hl (by decide) rfl (fun ls hl => ?_)
    refine lv_iload_n hx hb dX6_change_7 rfl (lv_at hl 3 rfl) ?_
    refine lv_aload hx hb dX6_change_8 (lv_at hl 0 rfl) ?_
    obtain ⟨g4, h⟩ := gd_ok h
    refine cg_get (T := TX0) (N := 7) (ci := 1) hx hb hts iwsX00 hown hK hN g4 rfl rfl 3 (by decide) l0 rfl (v := .int (Z.1 10 q3 3)) rfl dX6_change_10 ?_
    rcases cx1_ok h with ⟨v7, c5, h⟩ | ⟨x6, c5, h⟩
    · refine xg_callv (vx_runS (As := [.int a2, .int (Z.1 10 q3 3)]) (rest := []) ⟨hx, hb, hml, hown, hts⟩ (mX6_requireIndex l hfl D G A ad Z a2 (Z.1 10 q3 3) (.inl ()) c5) (va_cwS 2 hts gX6_change_X6_requireIndex rfl rfl rfl (by decide +kernel) ⟨Nat.le_of_ble_eq_true rfl, Nat.le_of_ble_eq_true rfl⟩) (xg_preS hI hK hN hE hS) rfl rfl hl.1 rfl (lv_room (Nat.le_of_ble_eq_true rfl)) dX6_change_13 ⟨Nat.le_of_ble_eq_true rfl, Nat.le_of_ble_eq_true rfl⟩) hS (fun H locs hI hN hS => ?_)
      refine W.widen (k := 2) (n := 12) (by decide) (by decide) ?_
      refine lv_iload_n hx hb dX6_change_16 rfl (lv_at hl 4 rfl) ?_
      refine lv_iconst (v := (0 : Int32)) hx hb dX6_change_17 (by decide) ?_
      refine lv_bipush (v := (11 : Int32)) hx hb dX6_change_18 (by decide) ?_
      rcases cx1_ok h with ⟨v10, c8, h⟩ | ⟨x9, c8, h⟩
      · refine xg_callv (vx_runS (As := [.int a3, .int (0 : Int32), .int (11 : Int32)]) (rest := []) ⟨hx, hb, hml, hown, hts⟩ (mX6_requireRange l hfl D G A ad Z a3 (0 : Int32) (11 : Int32) (.inl ()) c8) (va_cwS 3 hts gX6_change_X6_requireRange rfl rfl rfl (by decide +kernel) ⟨Nat.le_of_ble_eq_true rfl, Nat.le_of_ble_eq_true rfl⟩) (xg_preS hI hK hN hE hS) rfl rfl hl.1 rfl (lv_room (Nat.le_of_ble_eq_true rfl)) dX6_change_20 ⟨Nat.le_of_ble_eq_true rfl, Nat.le_of_ble_eq_true rfl⟩) hS (fun H locs hI hN hS => ?_)
        refine W.widen (k := 3) (n := 18) (by decide) (by decide) ?_
        refine lv_aload hx hb dX6_change_23 (lv_at hl 0 rfl) ?_
        refine cg_get (T := TX0) (N := 7) (ci := 1) hx hb hts iwsX00 hown hK hN g4 rfl rfl 1 (by decide) l1 rfl (v := .ref (ad 11 q3)) rfl dX6_change_25 ?_
        refine lv_iload_n hx hb dX6_change_28 rfl (lv_at hl 3 rfl) ?_
        obtain ⟨g11, h⟩ := gd_ok h
        refine cg_ild hx hb hK hN g4 rfl (gin_ok g11) dX6_change_29 ?_
        refine lv_topi (fun v12 ev12 => ?_)
        have h := bnd_ok h ev12
        refine lv_istore (lv' := [(5, .int v12), (4, .ref (ad 10 q3)), (0, .ref (ad 0 0)), (1, .int a1), (2, .int a2), (3, .int a3)]) hx hb dX6_change_30 hl (by decide) rfl (fun ls hl => ?_)
        refine lv_iload_n hx hb dX6_change_32 rfl (lv_at hl 5 rfl) ?_
        refine lv_iload hx hb dX6_change_33 (lv_at hl 0 rfl) ?_
        refine lv_icmp_eq (tgt := 54) hx hb dX6_change_35 (by decide) (fun hc => ?_) (fun hc => ?_)
        · have h := ite_t h hc
          exact w54  v12 Z h _ _ _ hI hN hS (lv_sub hl [0] rfl)
        · have h := ite_f h hc
          refine lv_aload hx hb dX6_change_38 (lv_at hl 1 rfl) ?_
          refine cg_get (T := TX0) (N := 7) (ci := 1) hx hb hts iwsX00 hown hK hN g4 rfl rfl 1 (by decide) l1 rfl (v := .ref (ad 11 q3)) rfl dX6_change_40 ?_
          refine lv_iload_n hx hb dX6_change_43 rfl (lv_at hl 4 rfl) ?_
          refine lv_iload_n hx hb dX6_change_44 rfl (lv_at hl 5 rfl) ?_
          obtain ⟨g13, h⟩ := gd_ok h
          obtain ⟨Z14, eZ14⟩ : ∃ y : CZ, y = (cuI Z 11 q3 (upd (Z.1 11 q3) (Int32.toNatClampNeg a2) a3)) := ⟨_, rfl⟩
          have h := bnd_ok h eZ14
          refine cg_ist hx hb hI hK hN hS g4 rfl (gin_ok g13) rfl dX6_change_45 eZ14 (fun H locs hI hN hS => ?_)
          refine lv_aload hx hb dX6_change_46 (lv_at hl 1 rfl) ?_
          refine lv_iload_n hx hb dX6_change_48 rfl (lv_at hl 4 rfl) ?_
          refine lv_iconst (v := (4 : Int32)) hx hb dX6_change_49 (by decide) ?_
          refine lv_idiv hx hb dX6_change_50 (by decide) ?_
          obtain ⟨Z15, c16, h⟩ := cl1_ok h
          refine cg_callv (va_runV (As := [.int (a2 / (4 : Int32))]) (rest := []) ⟨hx, hb, hml, hown, hts⟩ (mX0_spoilPhrase l D G A ad Z14 q3 (a2 / (4 : Int32)) Z15 c16) (cwV 1 hts gX6_change_X0_spoilPhrase rfl rfl rfl (by decide +kernel) ⟨Nat.le_of_ble_eq_true rfl, Nat.le_of_ble_eq_true rfl⟩) (cg_preV hI hK hN (by rw [eZ14]; exact g4) rfl (ci := 1) rfl) rfl rfl hl.1 rfl (lv_room (Nat.le_of_ble_eq_true rfl)) dX6_change_51 ⟨Nat.le_of_ble_eq_true rfl, Nat.le_of_ble_eq_true rfl⟩) hS (fun H locs hI hN hS => ?_)
          exact w54  v12 Z15 h _ _ _ hI hN hS (lv_sub hl [0] rfl)
      · exact xg_thrv (vx_runS (As := [.int a3, .int (0 : Int32), .int (11 : Int32)]) (rest := []) ⟨hx, hb, hml, hown, hts⟩ (mX6_requireRange l hfl D G A ad Z a3 (0 : Int32) (11 : Int32) (.inr x9) c8) (va_cwS 3 hts gX6_change_X6_requireRange rfl rfl rfl (by decide +kernel) ⟨Nat.le_of_ble_eq_true rfl, Nat.le_of_ble_eq_true rfl⟩) (xg_preS hI hK hN hE hS) rfl rfl hl.1 rfl (lv_room (Nat.le_of_ble_eq_true rfl)) dX6_change_20 ⟨Nat.le_of_ble_eq_true rfl, Nat.le_of_ble_eq_true rfl⟩) (congrArg Prod.fst (Option.some.inj h)).symm (congrArg Prod.snd (Option.some.inj h)).symm hexc hlocks hS (by decide) (by decide)
    · exact xg_thrv (vx_runS (As := [.int a2, .int (Z.1 10 q3 3)]) (rest := []) ⟨hx, hb, hml, hown, hts⟩ (mX6_requireIndex l hfl D G A ad Z a2 (Z.1 10 q3 3) (.inr x6) c5) (va_cwS 2 hts gX6_change_X6_requireIndex rfl rfl rfl (by decide +kernel) ⟨Nat.le_of_ble_eq_true rfl, Nat.le_of_ble_eq_true rfl⟩) (xg_preS hI hK hN hE hS) rfl rfl hl.1 rfl (lv_room (Nat.le_of_ble_eq_true rfl)) dX6_change_13 ⟨Nat.le_of_ble_eq_true rfl, Nat.le_of_ble_eq_true rfl⟩) (congrArg Prod.fst (Option.some.inj h)).symm (congrArg Prod.snd (Option.some.inj h)).symm hexc hlocks hS (by decide) (by decide)
  · exact xg_thrr (k := 10) (vx_runV (As := [.int a1]) (rest := []) ⟨hx, hb, hml, hown, hts⟩ (mX6_bandAt l hfl D G A ad Z a1 (.inr x2) c1) (cwV 1 hts gX6_change_X6_bandAt rfl rfl rfl (by decide +kernel) ⟨Nat.le_of_ble_eq_true rfl, Nat.le_of_ble_eq_true rfl⟩) (xg_preV hI hK hN hE hS rfl rfl (ci := 7) rfl) rfl rfl hl.1 rfl (lv_room (Nat.le_of_ble_eq_true rfl)) dX6_change_2 ⟨Nat.le_of_ble_eq_true rfl, Nat.le_of_ble_eq_true rfl⟩) (congrArg Prod.fst (Option.some.inj h)).symm (congrArg Prod.snd (Option.some.inj h)).symm hexc hlocks hS (by decide) (by decide)
def fX6_seatAt (a1 : Nat) (a2 : Int32) (Z : CZ) : Option ((Nat ⊕ Int32)) := gd (cLv Z.2.2 10 a1) (gd (cLv Z.2.2 3 (a1 + 4)) (cl1 (fJx4a65c_size_8abf5 (a1 + 4) Z) (fun v3 => cx1 (fX6_requireIndex a2 v3 Z) (fun x6 => some (.inr x6)) (fun _ => cl1 (fJx4a65c_get_915e3 (a1 + 4) a2 Z) (fun q8 => gd (cLv Z.2.2 13 q8) (some (.inl q8)))))))
def rmX6_seatAt : Room := { frames := 7, cells := 1, slots := 6, locals := 121 }
set_option maxHeartbeats 4000000 in
set_option maxRecDepth 100000 in
theorem mX6_seatAt (l : Launch) (hfl : l.stackTraces = false) (D : va_G) (G : CGT) (A : Nat → Prop) (ad : Nat → Nat → Nat) (Z : CZ) (a1 : Nat) (a2 : Int32) (rz : (Nat ⊕ Int32)) (h : fX6_seatAt a1 a2 Z = some rz) : vx_Met l yX6_seatAt wsX6_seatAt rmX6_seatAt (va_Pc [.ref (ad 10 a1), .int a2] (xP D G A ad Z)) (xQr D G A ad 13 rz Z) (xX D G A ad rz Z) 1 6 A := by
  refine vx_ofW (cc := cX6_seatAt) (maxL := 2) (ret := some (.object "Panyard$Seat")) (by decide) rfl ?_
  intro p e s m args below meth c s₁ B hml hexc hv
  obtain ⟨rfl, ⟨hI, hN, hK⟩, hE⟩ := hv
  have hx := B.exec
  have hb := B.bytes
  have hr := B.returns
  have hts := atoms_spec (ws := wsX6_seatAt) B.pre
  have hown : s.vm.findClass RX6 = some m.cls := findClass_of_methodNamed B.named
  have hlocks := B.notSynchronized
  have iwsX00 : ∀ w ∈ wsX00, w ∈ wsX6_seatAt := fun w h => List.mem_cons_of_mem _ (List.mem_append_left _ (List.mem_append_left _ (List.mem_append_right _ h)))
  have l0 := hts (.fieldLink RX6 129 "Panyard$Band" "seats" "Ljava/util/ArrayList;") (List.mem_of_getElem? (i := 1) rfl)
  have l1 := hts (.classLink RX6 138 "Panyard$Seat") (List.mem_of_getElem? (i := 2) rfl)
  have hS : va_S A s.heap s.heap [] := va_S.rf
  have hl := lv_entry ([.ref (ad 10 a1), .int a2]) (n := 2) (Nat.le_of_ble_eq_true rfl)
  rw [lg_entry_eq]
  generalize (lg_sl ([.ref (ad 10 a1), .int a2]) ++ List.replicate (2 - (lg_sl ([.ref (ad 10 a1), .int a2])).length) Slot.unset).toArray = ls at hl ⊢
  have hl : lv_has ls 2 [(0, .ref (ad 10 a1)), (1, .int a2)] := hl
  unfold fX6_seatAt at h
  refine lv_iload_n hx hb dX6_seatAt_0 rfl (lv_at hl 1 rfl) ?_
  refine lv_aload_n hx hb dX6_seatAt_1 rfl (lv_at hl 0 rfl) ?_
  obtain ⟨g1, h⟩ := gd_ok h
  refine cg_get (T := TX0) (N := 7) (ci := 1) hx hb hts iwsX00 hown hK hN g1 rfl rfl 0 (by decide) l0 rfl (v := .ref (ad 3 (a1 + 4))) rfl dX6_seatAt_2 ?_
  obtain ⟨g2, h⟩ := gd_ok h
  obtain ⟨v3, c4, h⟩ := cl1_ok h
  refine cg_calli (va_runV (As := []) (rest := [.int a2]) ⟨hx, hb, hml, hown, hts⟩ (mJx4a65c_size_8abf5 l D G A ad Z (a1 + 4) v3 c4) (cwV 0 hts gX6_seatAt_Jx4a65c_size_8abf5 rfl rfl rfl (by decide +kernel) ⟨Nat.le_of_ble_eq_true rfl, Nat.le_of_ble_eq_true rfl⟩) (cg_preV hI hK hN g2 rfl (ci := 0) rfl) rfl rfl hl.1 rfl (lv_room (Nat.le_of_ble_eq_true rfl)) dX6_seatAt_5 ⟨Nat.le_of_ble_eq_true rfl, Nat.le_of_ble_eq_true rfl⟩) hS (fun H locs hI hN hS => ?_)
  rcases cx1_ok h with ⟨v7, c5, h⟩ | ⟨x6, c5, h⟩
  · refine xg_callv (vx_runS (As := [.int a2, .int v3]) (rest := []) ⟨hx, hb, hml, hown, hts⟩ (mX6_requireIndex l hfl D G A ad Z a2 v3 (.inl ()) c5) (va_cwS 2 hts gX6_seatAt_X6_requireIndex rfl rfl rfl (by decide +kernel) ⟨Nat.le_of_ble_eq_true rfl, Nat.le_of_ble_eq_true rfl⟩) (xg_preS hI hK hN hE hS) rfl rfl hl.1 rfl (lv_room (Nat.le_of_ble_eq_true rfl)) dX6_seatAt_8 ⟨Nat.le_of_ble_eq_true rfl, Nat.le_of_ble_eq_true rfl⟩) hS (fun H locs hI hN hS => ?_)
    refine W.widen (k := 1) (n := 6) (by decide) (by decide) ?_
    refine lv_aload_n hx hb dX6_seatAt_11 rfl (lv_at hl 0 rfl) ?_
    refine cg_get (T := TX0) (N := 7) (ci := 1) hx hb hts iwsX00 hown hK hN g1 rfl rfl 0 (by decide) l0 rfl (v := .ref (ad 3 (a1 + 4))) rfl dX6_seatAt_12 ?_
    refine lv_iload_n hx hb dX6_seatAt_15 rfl (lv_at hl 1 rfl) ?_
    obtain ⟨q8, c9, h⟩ := cl1_ok h
    refine cg_callr (k := 13) (q := q8) (va_runV (As := [.int a2]) (rest := []) ⟨hx, hb, hml, hown, hts⟩ (mJx4a65c_get_915e3 l D G A ad Z (a1 + 4) a2 q8 c9) (cwV 1 hts gX6_seatAt_Jx4a65c_get_915e3 rfl rfl rfl (by decide +kernel) ⟨Nat.le_of_ble_eq_true rfl, Nat.le_of_ble_eq_true rfl⟩) (cg_preV hI hK hN g2 rfl (ci := 0) rfl) rfl rfl hl.1 rfl (lv_room (Nat.le_of_ble_eq_true rfl)) dX6_seatAt_16 ⟨Nat.le_of_ble_eq_true rfl, Nat.le_of_ble_eq_true rfl⟩) hS (fun H locs hI hN hS => ?_)
    obtain ⟨g10, h⟩ := gd_ok h
    refine va_castS hx hb hown l1 (hK.1.1 6 _ rfl).2 (cg_recv hK hN g10 rfl (ci := 6) rfl) dX6_seatAt_19 ?_
    exact vx_ret (W.widen (k := 1) (n := 6) (by decide) (by decide) (W.aret hx hb hr (Or.inl ⟨_, rfl⟩) (Or.inr ⟨_, rfl⟩) (xg_endq h hI hK hN hS) hS.2.2 dX6_seatAt_22))
  · exact xg_thrv (vx_runS (As := [.int a2, .int v3]) (rest := []) ⟨hx, hb, hml, hown, hts⟩ (mX6_requireIndex l hfl D G A ad Z a2 v3 (.inr x6) c5) (va_cwS 2 hts gX6_seatAt_X6_requireIndex rfl rfl rfl (by decide +kernel) ⟨Nat.le_of_ble_eq_true rfl, Nat.le_of_ble_eq_true rfl⟩) (xg_preS hI hK hN hE hS) rfl rfl hl.1 rfl (lv_room (Nat.le_of_ble_eq_true rfl)) dX6_seatAt_8 ⟨Nat.le_of_ble_eq_true rfl, Nat.le_of_ble_eq_true rfl⟩) (Option.some.inj h).symm rfl hexc hlocks hS (by decide) (by decide)
def fX6_requirePhrase (a1 : Nat) (a2 : Int32) (Z : CZ) : Option ((Unit ⊕ Int32)) := gd (cLv Z.2.2 10 a1) (cl1 (fX0_phraseCount a1 Z) (fun v2 => cx1 (fX6_requireIndex a2 v2 Z) (fun x5 => some (.inr x5)) (fun _ => some (.inl ()))))
def rmX6_requirePhrase : Room := { frames := 7, cells := 1, slots := 6, locals := 121 }
set_option maxHeartbeats 4000000 in
set_option maxRecDepth 100000 in
theorem mX6_requirePhrase (l : Launch) (hfl : l.stackTraces = false) (D : va_G) (G : CGT) (A : Nat → Prop) (ad : Nat → Nat → Nat) (Z : CZ) (a1 : Nat) (a2 : Int32) (rz : (Unit ⊕ Int32)) (h : fX6_requirePhrase a1 a2 Z = some rz) : vx_Met l yX6_requirePhrase wsX6_requirePhrase rmX6_requirePhrase (va_Pc [.ref (ad 10 a1), .int a2] (xP D G A ad Z)) (xQv D G A ad rz Z) (xX D G A ad rz Z) 1 6 A := by
  refine vx_ofW (cc := cX6_requirePhrase) (maxL := 2) (ret := none) (by decide) rfl ?_
  intro p e s m args below meth c s₁ B hml hexc hv
  obtain ⟨rfl, ⟨hI, hN, hK⟩, hE⟩ := hv
  have hx := B.exec
  have hb := B.bytes
  have hr := B.returns
  have hts := atoms_spec (ws := wsX6_requirePhrase) B.pre
  have hown : s.vm.findClass RX6 = some m.cls := findClass_of_methodNamed B.named
  have hlocks := B.notSynchronized
  have hS : va_S A s.heap s.heap [] := va_S.rf
  have hl := lv_entry ([.ref (ad 10 a1), .int a2]) (n := 2) (Nat.le_of_ble_eq_true rfl)
  rw [lg_entry_eq]
  generalize (lg_sl ([.ref (ad 10 a1), .int a2]) ++ List.replicate (2 - (lg_sl ([.ref (ad 10 a1), .int a2])).length) Slot.unset).toArray = ls at hl ⊢
  have hl : lv_has ls 2 [(0, .ref (ad 10 a1)), (1, .int a2)] := hl
  unfold fX6_requirePhrase at h
  refine lv_iload_n hx hb dX6_requirePhrase_0 rfl (lv_at hl 1 rfl) ?_
  refine lv_aload_n hx hb dX6_requirePhrase_1 rfl (lv_at hl 0 rfl) ?_
  obtain ⟨g1, h⟩ := gd_ok h
  obtain ⟨v2, c3, h⟩ := cl1_ok h
  refine cg_calli (va_runV (As := []) (rest := [.int a2]) ⟨hx, hb, hml, hown, hts⟩ (mX0_phraseCount l D G A ad Z a1 v2 c3) (cwV 0 hts gX6_requirePhrase_X0_phraseCount rfl rfl rfl (by decide +kernel) ⟨Nat.le_of_ble_eq_true rfl, Nat.le_of_ble_eq_true rfl⟩) (cg_preV hI hK hN g1 rfl (ci := 1) rfl) rfl rfl hl.1 rfl (lv_room (Nat.le_of_ble_eq_true rfl)) dX6_requirePhrase_2 ⟨Nat.le_of_ble_eq_true rfl, Nat.le_of_ble_eq_true rfl⟩) hS (fun H locs hI hN hS => ?_)
  rcases cx1_ok h with ⟨v6, c4, h⟩ | ⟨x5, c4, h⟩
  · refine xg_callv (vx_runS (As := [.int a2, .int v2]) (rest := []) ⟨hx, hb, hml, hown, hts⟩ (mX6_requireIndex l hfl D G A ad Z a2 v2 (.inl ()) c4) (va_cwS 2 hts gX6_requirePhrase_X6_requireIndex rfl rfl rfl (by decide +kernel) ⟨Nat.le_of_ble_eq_true rfl, Nat.le_of_ble_eq_true rfl⟩) (xg_preS hI hK hN hE hS) rfl rfl hl.1 rfl (lv_room (Nat.le_of_ble_eq_true rfl)) dX6_requirePhrase_5 ⟨Nat.le_of_ble_eq_true rfl, Nat.le_of_ble_eq_true rfl⟩) hS (fun H locs hI hN hS => ?_)
    refine W.widen (k := 1) (n := 6) (by decide) (by decide) ?_
    exact vx_ret (W.widen (k := 1) (n := 6) (by decide) (by decide) (W.vret hx hb hr (xg_endvr h hI hK hN hS) hS.2.2 dX6_requirePhrase_8))
  · exact xg_thrv (vx_runS (As := [.int a2, .int v2]) (rest := []) ⟨hx, hb, hml, hown, hts⟩ (mX6_requireIndex l hfl D G A ad Z a2 v2 (.inr x5) c4) (va_cwS 2 hts gX6_requirePhrase_X6_requireIndex rfl rfl rfl (by decide +kernel) ⟨Nat.le_of_ble_eq_true rfl, Nat.le_of_ble_eq_true rfl⟩) (xg_preS hI hK hN hE hS) rfl rfl hl.1 rfl (lv_room (Nat.le_of_ble_eq_true rfl)) dX6_requirePhrase_5 ⟨Nat.le_of_ble_eq_true rfl, Nat.le_of_ble_eq_true rfl⟩) (Option.some.inj h).symm rfl hexc hlocks hS (by decide) (by decide)
def fX6_tell (a1 : Int32) (a2 : Int32) (a3 : Int32) (Z : CZ) : Option ((Int32 ⊕ Int32) × CZ) := cx1 (fX6_bandAt a1 Z) (fun x2 => some (.inr x2, Z)) (fun q3 => cx1 (fX6_seatAt q3 a2 Z) (fun x5 => some (.inr x5, Z)) (fun q6 => cx1 (fX6_bandAt a1 Z) (fun x8 => some (.inr x8, Z)) (fun q9 => cx1 (fX6_requirePhrase q9 a3 Z) (fun x11 => some (.inr x11, Z)) (fun _ => gd (cLv Z.2.2 13 q6) (gd (gin a3 6) (bnd (Z.1 14 q6 (Int32.toNatClampNeg a3)) (fun v15 => gd (gin a3 6) (bnd (cuI Z 14 q6 (upd (Z.1 14 q6) (Int32.toNatClampNeg a3) (1 : Int32))) (fun Z17 => some (.inl v15, Z17))))))))))
def rmX6_tell : Room := { frames := 8, cells := 4, slots := 24, locals := 142 }
set_option maxHeartbeats 4000000 in
set_option maxRecDepth 100000 in
theorem mX6_tell (l : Launch) (hfl : l.stackTraces = false) (D : va_G) (G : CGT) (A : Nat → Prop) (ad : Nat → Nat → Nat) (Z : CZ) (a1 : Int32) (a2 : Int32) (a3 : Int32) (rz : (Int32 ⊕ Int32)) (Zz : CZ) (h : fX6_tell a1 a2 a3 Z = some (rz, Zz)) : vx_Met l yX6_tell wsX6_tell rmX6_tell (va_Pc [.ref (ad 0 0), .int a1, .int a2, .int a3] (xP D G A ad Z)) (xQi D G A ad rz Zz) (xX D G A ad rz Zz) 4 24 A := by
  refine vx_ofW (cc := cX6_tell) (maxL := 6) (ret := some .int) (by decide) rfl ?_
  intro p e s m args below meth c s₁ B hml hexc hv
  obtain ⟨rfl, ⟨hI, hN, hK⟩, hE⟩ := hv
  have hx := B.exec
  have hb := B.bytes
  have hr := B.returns
  have hts := atoms_spec (ws := wsX6_tell) B.pre
  have hown : s.vm.findClass RX6 = some m.cls := findClass_of_methodNamed B.named
  have hlocks := B.notSynchronized
  have iwsX50 : ∀ w ∈ wsX50, w ∈ wsX6_tell := fun w h => List.mem_cons_of_mem _ (List.mem_append_left _ (List.mem_append_left _ (List.mem_append_left _ (List.mem_append_left _ (List.mem_append_right _ h)))))
  have l0 := hts (.fieldLink RX6 188 "Panyard$Seat" "known" "[I") (List.mem_of_getElem? (i := 1) rfl)
  have hS : va_S A s.heap s.heap [] := va_S.rf
  have hl := lv_entry ([.ref (ad 0 0), .int a1, .int a2, .int a3]) (n := 6) (Nat.le_of_ble_eq_true rfl)
  rw [lg_entry_eq]
  generalize (lg_sl ([.ref (ad 0 0), .int a1, .int a2, .int a3]) ++ List.replicate (6 - (lg_sl ([.ref (ad 0 0), .int a1, .int a2, .int a3])).length) Slot.unset).toArray = ls at hl ⊢
  have hl : lv_has ls 6 [(0, .ref (ad 0 0)), (1, .int a1), (2, .int a2), (3, .int a3)] := hl
  unfold fX6_tell at h
  refine lv_aload_n hx hb dX6_tell_0 rfl (lv_at hl 0 rfl) ?_
  refine lv_iload_n hx hb dX6_tell_1 rfl (lv_at hl 1 rfl) ?_
  rcases cx1_ok h with ⟨q3, c1, h⟩ | ⟨x2, c1, h⟩
  · refine xg_callr (k := 10) (q := q3) (vx_runV (As := [.int a1]) (rest := []) ⟨hx, hb, hml, hown, hts⟩ (mX6_bandAt l hfl D G A ad Z a1 (.inl q3) c1) (cwV 1 hts gX6_tell_X6_bandAt rfl rfl rfl (by decide +kernel) ⟨Nat.le_of_ble_eq_true rfl, Nat.le_of_ble_eq_true rfl⟩) (xg_preV hI hK hN hE hS rfl rfl (ci := 7) rfl) rfl rfl hl.1 rfl (lv_room (Nat.le_of_ble_eq_true rfl)) dX6_tell_2 ⟨Nat.le_of_ble_eq_true rfl, Nat.le_of_ble_eq_true rfl⟩) hS (fun H locs hI hN hS => ?_)
    refine W.widen (k := 1) (n := 6) (by decide) (by decide) ?_
    refine lv_iload_n hx hb dX6_tell_5 rfl (lv_at hl 2 rfl) ?_
    rcases cx1_ok h with ⟨q6, c4, h⟩ | ⟨x5, c4, h⟩
    · refine xg_callr (k := 13) (q := q6) (vx_runS (As := [.ref (ad 10 q3), .int a2]) (rest := []) ⟨hx, hb, hml, hown, hts⟩ (mX6_seatAt l hfl D G A ad Z q3 a2 (.inl q6) c4) (va_cwS 2 hts gX6_tell_X6_seatAt rfl rfl rfl (by decide +kernel) ⟨Nat.le_of_ble_eq_true rfl, Nat.le_of_ble_eq_true rfl⟩) (xg_preS hI hK hN hE hS) rfl rfl hl.1 rfl (lv_room (Nat.le_of_ble_eq_true rfl)) dX6_tell_6 ⟨Nat.le_of_ble_eq_true rfl, Nat.le_of_ble_eq_true rfl⟩) hS (fun H locs hI hN hS => ?_)
      refine W.widen (k := 2) (n := 12) (by decide) (by decide) ?_
      refine lv_astore (lv' := [(4, .ref (ad 13 q6)), (0, .ref (ad 0 0)), (1, .int a1), (2, .int a2), (3, .int a3)]) hx hb dX6_tell_9 hl (by decide) rfl (fun ls hl => ?_)
      refine lv_aload_n hx hb dX6_tell_11 rfl (lv_at hl 1 rfl) ?_
      refine lv_iload_n hx hb dX6_tell_12 rfl (lv_at hl 2 rfl) ?_
      rcases cx1_ok h with ⟨q9, c7, h⟩ | ⟨x8, c7, h⟩
      · refine xg_callr (k := 10) (q := q9) (vx_runV (As := [.int a1]) (rest := []) ⟨hx, hb, hml, hown, hts⟩ (mX6_bandAt l hfl D G A ad Z a1 (.inl q9) c7) (cwV 1 hts gX6_tell_X6_bandAt rfl rfl rfl (by decide +kernel) ⟨Nat.le_of_ble_eq_true rfl, Nat.le_of_ble_eq_true rfl⟩) (xg_preV hI hK hN hE hS rfl rfl (ci := 7) rfl) rfl rfl hl.1 rfl (lv_room (Nat.le_of_ble_eq_true rfl)) dX6_tell_13 ⟨Nat.le_of_ble_eq_true rfl, Nat.le_of_ble_eq_true rfl⟩) hS (fun H locs hI hN hS => ?_)
        refine W.widen (k := 3) (n := 18) (by decide) (by decide) ?_
        refine lv_iload_n hx hb dX6_tell_16 rfl (lv_at hl 4 rfl) ?_
        rcases cx1_ok h with ⟨v12, c10, h⟩ | ⟨x11, c10, h⟩
        · refine xg_callv (vx_runS (As := [.ref (ad 10 q9), .int a3]) (rest := []) ⟨hx, hb, hml, hown, hts⟩ (mX6_requirePhrase l hfl D G A ad Z q9 a3 (.inl ()) c10) (va_cwS 2 hts gX6_tell_X6_requirePhrase rfl rfl rfl (by decide +kernel) ⟨Nat.le_of_ble_eq_true rfl, Nat.le_of_ble_eq_true rfl⟩) (xg_preS hI hK hN hE hS) rfl rfl hl.1 rfl (lv_room (Nat.le_of_ble_eq_true rfl)) dX6_tell_17 ⟨Nat.le_of_ble_eq_true rfl, Nat.le_of_ble_eq_true rfl⟩) hS (fun H locs hI hN hS => ?_)
          refine W.widen (k := 4) (n := 24) (by decide) (by decide) ?_
          refine lv_aload hx hb dX6_tell_20 (lv_at hl 0 rfl) ?_
          obtain ⟨g13, h⟩ := gd_ok h
          refine cg_get (T := TX5) (N := 2) (ci := 6) hx hb hts iwsX50 hown hK hN g13 rfl rfl 1 (by decide) l0 rfl (v := .ref (ad 14 q6)) rfl dX6_tell_22 ?_
          refine lv_iload_n hx hb dX6_tell_25 rfl (lv_at hl 4 rfl) ?_
          obtain ⟨g14, h⟩ := gd_ok h
          refine cg_ild hx hb hK hN g13 rfl (gin_ok g14) dX6_tell_26 ?_
          refine lv_topi (fun v15 ev15 => ?_)
          have h := bnd_ok h ev15
          refine lv_istore (lv' := [(5, .int v15), (4, .ref (ad 13 q6)), (0, .ref (ad 0 0)), (1, .int a1), (2, .int a2), (3, .int a3)]) hx hb dX6_tell_27 hl (by decide) rfl (fun ls hl => ?_)
          refine lv_aload hx hb dX6_tell_29 (lv_at hl 1 rfl) ?_
          refine cg_get (T := TX5) (N := 2) (ci := 6) hx hb hts iwsX50 hown hK hN g13 rfl rfl 1 (by decide) l0 rfl (v := .ref (ad 14 q6)) rfl dX6_tell_31 ?_
          refine lv_iload_n hx hb dX6_tell_34 rfl (lv_at hl 5 rfl) ?_
          refine lv_iconst (v := (1 : Int32)) hx hb dX6_tell_35 (by decide) ?_
          obtain ⟨g16, h⟩ := gd_ok h
          obtain ⟨Z17, eZ17⟩ : ∃ y : CZ, y = (cuI Z 14 q6 (upd (Z.1 14 q6) (Int32.toNatClampNeg a3) (1 : Int32))) := ⟨_, rfl⟩
          have h := bnd_ok h eZ17
          refine cg_ist hx hb hI hK hN hS g13 rfl (gin_ok g16) rfl dX6_tell_36 eZ17 (fun H locs hI hN hS => ?_)
          refine lv_iload hx hb dX6_tell_37 (lv_at hl 0 rfl) ?_
          exact vx_ret (W.widen (k := 4) (n := 24) (by decide) (by decide) (W.iret hx hb hr (xg_endi h hI hK hN hS) hS.2.2 dX6_tell_39))
        · exact xg_thrv (vx_runS (As := [.ref (ad 10 q9), .int a3]) (rest := []) ⟨hx, hb, hml, hown, hts⟩ (mX6_requirePhrase l hfl D G A ad Z q9 a3 (.inr x11) c10) (va_cwS 2 hts gX6_tell_X6_requirePhrase rfl rfl rfl (by decide +kernel) ⟨Nat.le_of_ble_eq_true rfl, Nat.le_of_ble_eq_true rfl⟩) (xg_preS hI hK hN hE hS) rfl rfl hl.1 rfl (lv_room (Nat.le_of_ble_eq_true rfl)) dX6_tell_17 ⟨Nat.le_of_ble_eq_true rfl, Nat.le_of_ble_eq_true rfl⟩) (congrArg Prod.fst (Option.some.inj h)).symm (congrArg Prod.snd (Option.some.inj h)).symm hexc hlocks hS (by decide) (by decide)
      · exact xg_thrr (k := 10) (vx_runV (As := [.int a1]) (rest := []) ⟨hx, hb, hml, hown, hts⟩ (mX6_bandAt l hfl D G A ad Z a1 (.inr x8) c7) (cwV 1 hts gX6_tell_X6_bandAt rfl rfl rfl (by decide +kernel) ⟨Nat.le_of_ble_eq_true rfl, Nat.le_of_ble_eq_true rfl⟩) (xg_preV hI hK hN hE hS rfl rfl (ci := 7) rfl) rfl rfl hl.1 rfl (lv_room (Nat.le_of_ble_eq_true rfl)) dX6_tell_13 ⟨Nat.le_of_ble_eq_true rfl, Nat.le_of_ble_eq_true rfl⟩) (congrArg Prod.fst (Option.some.inj h)).symm (congrArg Prod.snd (Option.some.inj h)).symm hexc hlocks hS (by decide) (by decide)
    · exact xg_thrr (k := 13) (vx_runS (As := [.ref (ad 10 q3), .int a2]) (rest := []) ⟨hx, hb, hml, hown, hts⟩ (mX6_seatAt l hfl D G A ad Z q3 a2 (.inr x5) c4) (va_cwS 2 hts gX6_tell_X6_seatAt rfl rfl rfl (by decide +kernel) ⟨Nat.le_of_ble_eq_true rfl, Nat.le_of_ble_eq_true rfl⟩) (xg_preS hI hK hN hE hS) rfl rfl hl.1 rfl (lv_room (Nat.le_of_ble_eq_true rfl)) dX6_tell_6 ⟨Nat.le_of_ble_eq_true rfl, Nat.le_of_ble_eq_true rfl⟩) (congrArg Prod.fst (Option.some.inj h)).symm (congrArg Prod.snd (Option.some.inj h)).symm hexc hlocks hS (by decide) (by decide)
  · exact xg_thrr (k := 10) (vx_runV (As := [.int a1]) (rest := []) ⟨hx, hb, hml, hown, hts⟩ (mX6_bandAt l hfl D G A ad Z a1 (.inr x2) c1) (cwV 1 hts gX6_tell_X6_bandAt rfl rfl rfl (by decide +kernel) ⟨Nat.le_of_ble_eq_true rfl, Nat.le_of_ble_eq_true rfl⟩) (xg_preV hI hK hN hE hS rfl rfl (ci := 7) rfl) rfl rfl hl.1 rfl (lv_room (Nat.le_of_ble_eq_true rfl)) dX6_tell_2 ⟨Nat.le_of_ble_eq_true rfl, Nat.le_of_ble_eq_true rfl⟩) (congrArg Prod.fst (Option.some.inj h)).symm (congrArg Prod.snd (Option.some.inj h)).symm hexc hlocks hS (by decide) (by decide)
def fX6_drill_37 (x2 : Int32) (x3 : Nat) (t0 : Int32) (Z : CZ) : Option ((Int32 ⊕ Int32) × CZ) := cx1 (fX6_requireState t0 Z) (fun x12 => some (.inr x12, Z)) (fun _ => gd (cLv Z.2.2 10 x3) (cl1 (fX0_learnPhrase x3 x2 Z) (fun Z15 => gd (cLv Z15.2.2 10 x3) (cl1 (fX0_wearPans x3 Z15) (fun Z18 => gd (cLv Z18.2.2 10 x3) (bnd (cuI Z18 10 x3 (upd (Z18.1 10 x3) 4 (Z18.1 0 0 6))) (fun Z21 => cl1 (fX0_countRight x3 x2 Z21) (fun v22 => some (.inl v22, Z21)))))))))
def fX6_drill_36 (x2 : Int32) (x3 : Nat) (Z : CZ) : Option ((Int32 ⊕ Int32) × CZ) := fX6_drill_37 x2 x3 (0 : Int32) Z
def fX6_drill (a1 : Int32) (a2 : Int32) (Z : CZ) : Option ((Int32 ⊕ Int32) × CZ) := cx1 (fX6_bandAt a1 Z) (fun x2 => some (.inr x2, Z)) (fun q3 => cx1 (fX6_requirePhrase q3 a2 Z) (fun x5 => some (.inr x5, Z)) (fun _ => gd (cLv Z.2.2 10 q3) (gd (cLv Z.2.2 3 (q3 + 4)) (cl1 (fJx4a65c_isEmpty_aae02 (q3 + 4) Z) (fun v9 => (if v9 = 0 then (if (Z.1 10 q3 4) = (Z.1 0 0 6) then fX6_drill_36 a2 q3 Z else fX6_drill_37 a2 q3 (1 : Int32) Z) else fX6_drill_36 a2 q3 Z))))))
def rmX6_drill : Room := { frames := 8, cells := 3, slots := 18, locals := 142 }
set_option maxHeartbeats 4000000 in
set_option maxRecDepth 100000 in
theorem mX6_drill (l : Launch) (hfl : l.stackTraces = false) (D : va_G) (G : CGT) (A : Nat → Prop) (ad : Nat → Nat → Nat) (Z : CZ) (a1 : Int32) (a2 : Int32) (rz : (Int32 ⊕ Int32)) (Zz : CZ) (h : fX6_drill a1 a2 Z = some (rz, Zz)) : vx_Met l yX6_drill wsX6_drill rmX6_drill (va_Pc [.ref (ad 0 0), .int a1, .int a2] (xP D G A ad Z)) (xQi D G A ad rz Zz) (xX D G A ad rz Zz) 3 18 A := by
  refine vx_ofW (cc := cX6_drill) (maxL := 4) (ret := some .int) (by decide) rfl ?_
  intro p e s m args below meth c s₁ B hml hexc hv
  obtain ⟨rfl, ⟨hI, hN, hK⟩, hE⟩ := hv
  have hx := B.exec
  have hb := B.bytes
  have hr := B.returns
  have hts := atoms_spec (ws := wsX6_drill) B.pre
  have hown : s.vm.findClass RX6 = some m.cls := findClass_of_methodNamed B.named
  have hlocks := B.notSynchronized
  have iwsX00 : ∀ w ∈ wsX00, w ∈ wsX6_drill := fun w h => List.mem_cons_of_mem _ (List.mem_append_left _ (List.mem_append_left _ (List.mem_append_left _ (List.mem_append_left _ (List.mem_append_left _ (List.mem_append_left _ (List.mem_append_left _ (List.mem_append_right _ h))))))))
  have iwsX60 : ∀ w ∈ wsX60, w ∈ wsX6_drill := fun w h => List.mem_cons_of_mem _ (List.mem_append_left _ (List.mem_append_left _ (List.mem_append_left _ (List.mem_append_left _ (List.mem_append_left _ (List.mem_append_left _ (List.mem_append_right _ h)))))))
  have l0 := hts (.fieldLink RX6 129 "Panyard$Band" "seats" "Ljava/util/ArrayList;") (List.mem_of_getElem? (i := 1) rfl)
  have l1 := hts (.fieldLink RX6 195 "Panyard$Band" "drillNight" "I") (List.mem_of_getElem? (i := 2) rfl)
  have l2 := hts (.fieldLink RX6 198 "Panyard" "nightNow" "I") (List.mem_of_getElem? (i := 3) rfl)
  have hS : va_S A s.heap s.heap [] := va_S.rf
  have hl := lv_entry ([.ref (ad 0 0), .int a1, .int a2]) (n := 4) (Nat.le_of_ble_eq_true rfl)
  rw [lg_entry_eq]
  generalize (lg_sl ([.ref (ad 0 0), .int a1, .int a2]) ++ List.replicate (4 - (lg_sl ([.ref (ad 0 0), .int a1, .int a2])).length) Slot.unset).toArray = ls at hl ⊢
  have hl : lv_has ls 4 [(0, .ref (ad 0 0)), (1, .int a1), (2, .int a2)] := hl
  have w37 : ∀ (x2 : Int32) (x3 : Nat) (t0 : Int32) (Z : CZ), fX6_drill_37  x2 x3 t0 Z = some (rz, Zz) → cG p l e (headSpec wsX6_drill rmX6_drill).room s m (([.ref (ad 0 0), .int a1, .int a2] : List Value).toArray) below meth c (vx_MQ below (xQi D G A ad rz Zz) (xX D G A ad rz Zz) (([.ref (ad 0 0), .int a1, .int a2] : List Value).toArray) s 3 18 A) D G A ad 2 12 4 Z 37 [(0, .ref (ad 0 0)), (2, .int x2), (3, .ref (ad 10 x3))] [.int t0] := by
    intro  x2 x3 t0 Z h H locs ls hI hN hS hl
    unfold fX6_drill_37 at h
    rcases cx1_ok h with ⟨v13, c11, h⟩ | ⟨x12, c11, h⟩
    · refine xg_callv (vx_runS (As := [.int t0]) (rest := []) ⟨hx, hb, hml, hown, hts⟩ (mX6_requireState l hfl D G A ad Z t0 (.inl ()) c11) (va_cwS 1 hts gX6_drill_X6_requireState rfl rfl rfl (by decide +kernel) ⟨Nat.le_of_ble_eq_true rfl, Nat.le_of_ble_eq_true rfl⟩) (xg_preS hI hK hN hE hS) rfl rfl hl.1 rfl (lv_room (Nat.le_of_ble_eq_true rfl)) dX6_drill_37 ⟨Nat.le_of_ble_eq_true rfl, Nat.le_of_ble_eq_true rfl⟩) hS (fun H locs hI hN hS => ?_)
      refine W.widen (k := 3) (n := 18) (by decide) (by decide) ?_
      refine lv_aload_n hx hb dX6_drill_40 rfl (lv_at hl 2 rfl) ?_
      refine lv_iload_n hx hb dX6_drill_41 rfl (lv_at hl 1 rfl) ?_
      obtain ⟨g14, h⟩ := gd_ok h
      obtain ⟨Z15, c16, h⟩ := cl1_ok h
      refine cg_callv (va_runV (As := [.int x2]) (rest := []) ⟨hx, hb, hml, hown, hts⟩ (mX0_learnPhrase l D G A ad Z x3 x2 Z15 c16) (cwV 1 hts gX6_drill_X0_learnPhrase rfl rfl rfl (by decide +kernel) ⟨Nat.le_of_ble_eq_true rfl, Nat.le_of_ble_eq_true rfl⟩) (cg_preV hI hK hN g14 rfl (ci := 1) rfl) rfl rfl hl.1 rfl (lv_room (Nat.le_of_ble_eq_true rfl)) dX6_drill_42 ⟨Nat.le_of_ble_eq_true rfl, Nat.le_of_ble_eq_true rfl⟩) hS (fun H locs hI hN hS => ?_)
      refine lv_aload_n hx hb dX6_drill_45 rfl (lv_at hl 2 rfl) ?_
      obtain ⟨g17, h⟩ := gd_ok h
      obtain ⟨Z18, c19, h⟩ := cl1_ok h
      refine cg_callv (va_runV (As := []) (rest := []) ⟨hx, hb, hml, hown, hts⟩ (mX0_wearPans l D G A ad Z15 x3 Z18 c19) (cwV 0 hts gX6_drill_X0_wearPans rfl rfl rfl (by decide +kernel) ⟨Nat.le_of_ble_eq_true rfl, Nat.le_of_ble_eq_true rfl⟩) (cg_preV hI hK hN g17 rfl (ci := 1) rfl) rfl rfl hl.1 rfl (lv_room (Nat.le_of_ble_eq_true rfl)) dX6_drill_46 ⟨Nat.le_of_ble_eq_true rfl, Nat.le_of_ble_eq_true rfl⟩) hS (fun H locs hI hN hS => ?_)
      refine lv_aload_n hx hb dX6_drill_49 rfl (lv_at hl 2 rfl) ?_
      refine lv_aload_n hx hb dX6_drill_50 rfl (lv_at hl 0 rfl) ?_
      refine cg_get (T := TX6) (N := 7) (ci := 7) hx hb hts iwsX60 hown hK hN rfl rfl rfl 6 (by decide) l2 rfl (v := .int (Z18.1 0 0 6)) rfl dX6_drill_51 ?_
      obtain ⟨g20, h⟩ := gd_ok h
      obtain ⟨Z21, eZ21⟩ : ∃ y : CZ, y = (cuI Z18 10 x3 (upd (Z18.1 10 x3) 4 (Z18.1 0 0 6))) := ⟨_, rfl⟩
      have h := bnd_ok h eZ21
      refine cg_put (ty := .int) (T := TX0) (N := 7) (ci := 1) hx hb hts iwsX00 tyX0_ok nmX0 hown hI hK hN hS g20 rfl rfl 4 (by decide) (Nat.le_of_ble_eq_true rfl) l1 rfl rfl (by decide +kernel) rfl rfl rfl dX6_drill_54 eZ21 (fun H locs hI hN hS => ?_)
      refine lv_aload_n hx hb dX6_drill_57 rfl (lv_at hl 2 rfl) ?_
      refine lv_iload_n hx hb dX6_drill_58 rfl (lv_at hl 1 rfl) ?_
      obtain ⟨v22, c23, h⟩ := cl1_ok h
      refine cg_calli (va_runV (As := [.int x2]) (rest := []) ⟨hx, hb, hml, hown, hts⟩ (mX0_countRight l D G A ad Z21 x3 x2 v22 c23) (cwV 1 hts gX6_drill_X0_countRight rfl rfl rfl (by decide +kernel) ⟨Nat.le_of_ble_eq_true rfl, Nat.le_of_ble_eq_true rfl⟩) (cg_preV hI hK hN (by rw [eZ21]; exact g20) rfl (ci := 1) rfl) rfl rfl hl.1 rfl (lv_room (Nat.le_of_ble_eq_true rfl)) dX6_drill_59 ⟨Nat.le_of_ble_eq_true rfl, Nat.le_of_ble_eq_true rfl⟩) hS (fun H locs hI hN hS => ?_)
      exact vx_ret (W.widen (k := 3) (n := 18) (by decide) (by decide) (W.iret hx hb hr (xg_endi h hI hK hN hS) hS.2.2 dX6_drill_62))
    · exact xg_thrv (vx_runS (As := [.int t0]) (rest := []) ⟨hx, hb, hml, hown, hts⟩ (mX6_requireState l hfl D G A ad Z t0 (.inr x12) c11) (va_cwS 1 hts gX6_drill_X6_requireState rfl rfl rfl (by decide +kernel) ⟨Nat.le_of_ble_eq_true rfl, Nat.le_of_ble_eq_true rfl⟩) (xg_preS hI hK hN hE hS) rfl rfl hl.1 rfl (lv_room (Nat.le_of_ble_eq_true rfl)) dX6_drill_37 ⟨Nat.le_of_ble_eq_true rfl, Nat.le_of_ble_eq_true rfl⟩) (congrArg Prod.fst (Option.some.inj h)).symm (congrArg Prod.snd (Option.some.inj h)).symm hexc hlocks hS (by decide) (by decide)
  have w36 : ∀ (x2 : Int32) (x3 : Nat) (Z : CZ), fX6_drill_36  x2 x3 Z = some (rz, Zz) → cG p l e (headSpec wsX6_drill rmX6_drill).room s m (([.ref (ad 0 0), .int a1, .int a2] : List Value).toArray) below meth c (vx_MQ below (xQi D G A ad rz Zz) (xX D G A ad rz Zz) (([.ref (ad 0 0), .int a1, .int a2] : List Value).toArray) s 3 18 A) D G A ad 2 12 4 Z 36 [(0, .ref (ad 0 0)), (2, .int x2), (3, .ref (ad 10 x3))] [] := by
    intro  x2 x3 Z h H locs ls hI hN hS hl
    unfold fX6_drill_36 at h
    refine lv_iconst (v := (0 : Int32)) hx hb dX6_drill_36 (by decide) ?_
    exact w37  x2 x3 (0 : Int32) Z h _ _ _ hI hN hS (lv_sub hl [0, 1, 2] rfl)
  unfold fX6_drill at h
  refine lv_aload_n hx hb dX6_drill_0 rfl (lv_at hl 0 rfl) ?_
  refine lv_iload_n hx hb dX6_drill_1 rfl (lv_at hl 1 rfl) ?_
  rcases cx1_ok h with ⟨q3, c1, h⟩ | ⟨x2, c1, h⟩
  · refine xg_callr (k := 10) (q := q3) (vx_runV (As := [.int a1]) (rest := []) ⟨hx, hb, hml, hown, hts⟩ (mX6_bandAt l hfl D G A ad Z a1 (.inl q3) c1) (cwV 1 hts gX6_drill_X6_bandAt rfl rfl rfl (by decide +kernel) ⟨Nat.le_of_ble_eq_true rfl, Nat.le_of_ble_eq_true rfl⟩) (xg_preV hI hK hN hE hS rfl rfl (ci := 7) rfl) rfl rfl hl.1 rfl (lv_room (Nat.le_of_ble_eq_true rfl)) dX6_drill_2 ⟨Nat.le_of_ble_eq_true rfl, Nat.le_of_ble_eq_true rfl⟩) hS (fun H locs hI hN hS => ?_)
    refine W.widen (k := 1) (n := 6) (by decide) (by decide) ?_
    refine lv_astore_n (lv' := [(3, .ref (ad 10 q3)), (0, .ref (ad 0 0)), (1, .int a1), (2, .int a2)]) hx hb dX6_drill_5 rfl hl (by decide) rfl (fun ls hl => ?_)
    refine lv_aload_n hx hb dX6_drill_6 rfl (lv_at hl 0 rfl) ?_
    refine lv_iload_n hx hb dX6_drill_7 rfl (lv_at hl 3 rfl) ?_
    rcases cx1_ok h with ⟨v6, c4, h⟩ | ⟨x5, c4, h⟩
    · refine xg_callv (vx_runS (As := [.ref (ad 10 q3), .int a2]) (rest := []) ⟨hx, hb, hml, hown, hts⟩ (mX6_requirePhrase l hfl D G A ad Z q3 a2 (.inl ()) c4) (va_cwS 2 hts gX6_drill_X6_requirePhrase rfl rfl rfl (by decide +kernel) ⟨Nat.le_of_ble_eq_true rfl, Nat.le_of_ble_eq_true rfl⟩) (xg_preS hI hK hN hE hS) rfl rfl hl.1 rfl (lv_room (Nat.le_of_ble_eq_true rfl)) dX6_drill_8 ⟨Nat.le_of_ble_eq_true rfl, Nat.le_of_ble_eq_true rfl⟩) hS (fun H locs hI hN hS => ?_)
      refine W.widen (k := 2) (n := 12) (by decide) (by decide) ?_
      refine lv_aload_n hx hb dX6_drill_11 rfl (lv_at hl 0 rfl) ?_
      obtain ⟨g7, h⟩ := gd_ok h
      refine cg_get (T := TX0) (N := 7) (ci := 1) hx hb hts iwsX00 hown hK hN g7 rfl rfl 0 (by decide) l0 rfl (v := .ref (ad 3 (q3 + 4))) rfl dX6_drill_12 ?_
      obtain ⟨g8, h⟩ := gd_ok h
      obtain ⟨v9, c10, h⟩ := cl1_ok h
      refine cg_calli (va_runV (As := []) (rest := []) ⟨hx, hb, hml, hown, hts⟩ (mJx4a65c_isEmpty_aae02 l D G A ad Z (q3 + 4) v9 c10) (cwV 0 hts gX6_drill_Jx4a65c_isEmpty_aae02 rfl rfl rfl (by decide +kernel) ⟨Nat.le_of_ble_eq_true rfl, Nat.le_of_ble_eq_true rfl⟩) (cg_preV hI hK hN g8 rfl (ci := 0) rfl) rfl rfl hl.1 rfl (lv_room (Nat.le_of_ble_eq_true rfl)) dX6_drill_15 ⟨Nat.le_of_ble_eq_true rfl, Nat.le_of_ble_eq_true rfl⟩) hS (fun H locs hI hN hS => ?_)
      refine lv_if_ne (tgt := 36) hx hb dX6_drill_18 (by decide) (fun hc => ?_) (fun hc => ?_)
      · have h := ite_f h hc
        exact w36  a2 q3 Z h _ _ _ hI hN hS (lv_sub hl [1, 3, 0] rfl)
      · have h := ite_t h hc
        refine lv_aload_n hx hb dX6_drill_21 rfl (lv_at hl 0 rfl) ?_
        refine cg_get (T := TX0) (N := 7) (ci := 1) hx hb hts iwsX00 hown hK hN g7 rfl rfl 4 (by decide) l1 rfl (v := .int (Z.1 10 q3 4)) rfl dX6_drill_22 ?_
        refine lv_aload_n hx hb dX6_drill_25 rfl (lv_at hl 1 rfl) ?_
        refine cg_get (T := TX6) (N := 7) (ci := 7) hx hb hts iwsX60 hown hK hN rfl rfl rfl 6 (by decide) l2 rfl (v := .int (Z.1 0 0 6)) rfl dX6_drill_26 ?_
        refine lv_icmp_eq (tgt := 36) hx hb dX6_drill_29 (by decide) (fun hc => ?_) (fun hc => ?_)
        · have h := ite_t h hc
          exact w36  a2 q3 Z h _ _ _ hI hN hS (lv_sub hl [1, 3, 0] rfl)
        · have h := ite_f h hc
          refine lv_iconst (v := (1 : Int32)) hx hb dX6_drill_32 (by decide) ?_
          refine lv_goto (tgt := 37) hx hb dX6_drill_33 (by decide) ?_
          exact w37  a2 q3 (1 : Int32) Z h _ _ _ hI hN hS (lv_sub hl [1, 3, 0] rfl)
    · exact xg_thrv (vx_runS (As := [.ref (ad 10 q3), .int a2]) (rest := []) ⟨hx, hb, hml, hown, hts⟩ (mX6_requirePhrase l hfl D G A ad Z q3 a2 (.inr x5) c4) (va_cwS 2 hts gX6_drill_X6_requirePhrase rfl rfl rfl (by decide +kernel) ⟨Nat.le_of_ble_eq_true rfl, Nat.le_of_ble_eq_true rfl⟩) (xg_preS hI hK hN hE hS) rfl rfl hl.1 rfl (lv_room (Nat.le_of_ble_eq_true rfl)) dX6_drill_8 ⟨Nat.le_of_ble_eq_true rfl, Nat.le_of_ble_eq_true rfl⟩) (congrArg Prod.fst (Option.some.inj h)).symm (congrArg Prod.snd (Option.some.inj h)).symm hexc hlocks hS (by decide) (by decide)
  · exact xg_thrr (k := 10) (vx_runV (As := [.int a1]) (rest := []) ⟨hx, hb, hml, hown, hts⟩ (mX6_bandAt l hfl D G A ad Z a1 (.inr x2) c1) (cwV 1 hts gX6_drill_X6_bandAt rfl rfl rfl (by decide +kernel) ⟨Nat.le_of_ble_eq_true rfl, Nat.le_of_ble_eq_true rfl⟩) (xg_preV hI hK hN hE hS rfl rfl (ci := 7) rfl) rfl rfl hl.1 rfl (lv_room (Nat.le_of_ble_eq_true rfl)) dX6_drill_2 ⟨Nat.le_of_ble_eq_true rfl, Nat.le_of_ble_eq_true rfl⟩) (congrArg Prod.fst (Option.some.inj h)).symm (congrArg Prod.snd (Option.some.inj h)).symm hexc hlocks hS (by decide) (by decide)
def fX6_pass_24 (x1 : Int32) (t0 : Int32) (Z : CZ) : Option ((Int32 ⊕ Int32) × CZ) := cx1 (fX6_requireState t0 Z) (fun x5 => some (.inr x5, Z)) (fun _ => bnd (cuI Z 0 0 (upd (Z.1 0 0) 6 ((Z.1 0 0 6) + x1))) (fun Z7 => some (.inl (Z7.1 0 0 6), Z7)))
def fX6_pass (a1 : Int32) (Z : CZ) : Option ((Int32 ⊕ Int32) × CZ) := cx1 (fX6_requireRange a1 (1 : Int32) (30 : Int32) Z) (fun x2 => some (.inr x2, Z)) (fun _ => (if (1000 : Int32) < ((Z.1 0 0 6) + a1) then fX6_pass_24 a1 (0 : Int32) Z else fX6_pass_24 a1 (1 : Int32) Z))
def rmX6_pass : Room := { frames := 7, cells := 2, slots := 12, locals := 122 }
set_option maxHeartbeats 4000000 in
set_option maxRecDepth 100000 in
theorem mX6_pass (l : Launch) (hfl : l.stackTraces = false) (D : va_G) (G : CGT) (A : Nat → Prop) (ad : Nat → Nat → Nat) (Z : CZ) (a1 : Int32) (rz : (Int32 ⊕ Int32)) (Zz : CZ) (h : fX6_pass a1 Z = some (rz, Zz)) : vx_Met l yX6_pass wsX6_pass rmX6_pass (va_Pc [.ref (ad 0 0), .int a1] (xP D G A ad Z)) (xQi D G A ad rz Zz) (xX D G A ad rz Zz) 2 12 A := by
  refine vx_ofW (cc := cX6_pass) (maxL := 2) (ret := some .int) (by decide) rfl ?_
  intro p e s m args below meth c s₁ B hml hexc hv
  obtain ⟨rfl, ⟨hI, hN, hK⟩, hE⟩ := hv
  have hx := B.exec
  have hb := B.bytes
  have hr := B.returns
  have hts := atoms_spec (ws := wsX6_pass) B.pre
  have hown : s.vm.findClass RX6 = some m.cls := findClass_of_methodNamed B.named
  have hlocks := B.notSynchronized
  have iwsX60 : ∀ w ∈ wsX60, w ∈ wsX6_pass := fun w h => List.mem_cons_of_mem _ (List.mem_append_left _ (List.mem_append_left _ (List.mem_append_right _ h)))
  have l0 := hts (.fieldLink RX6 198 "Panyard" "nightNow" "I") (List.mem_of_getElem? (i := 1) rfl)
  have hS : va_S A s.heap s.heap [] := va_S.rf
  have hl := lv_entry ([.ref (ad 0 0), .int a1]) (n := 2) (Nat.le_of_ble_eq_true rfl)
  rw [lg_entry_eq]
  generalize (lg_sl ([.ref (ad 0 0), .int a1]) ++ List.replicate (2 - (lg_sl ([.ref (ad 0 0), .int a1])).length) Slot.unset).toArray = ls at hl ⊢
  have hl : lv_has ls 2 [(0, .ref (ad 0 0)), (1, .int a1)] := hl
  have w24 : ∀ (x1 : Int32) (t0 : Int32) (Z : CZ), fX6_pass_24  x1 t0 Z = some (rz, Zz) → cG p l e (headSpec wsX6_pass rmX6_pass).room s m (([.ref (ad 0 0), .int a1] : List Value).toArray) below meth c (vx_MQ below (xQi D G A ad rz Zz) (xX D G A ad rz Zz) (([.ref (ad 0 0), .int a1] : List Value).toArray) s 2 12 A) D G A ad 1 6 2 Z 24 [(0, .ref (ad 0 0)), (1, .int x1)] [.int t0] := by
    intro  x1 t0 Z h H locs ls hI hN hS hl
    unfold fX6_pass_24 at h
    rcases cx1_ok h with ⟨v6, c4, h⟩ | ⟨x5, c4, h⟩
    · refine xg_callv (vx_runS (As := [.int t0]) (rest := []) ⟨hx, hb, hml, hown, hts⟩ (mX6_requireState l hfl D G A ad Z t0 (.inl ()) c4) (va_cwS 1 hts gX6_pass_X6_requireState rfl rfl rfl (by decide +kernel) ⟨Nat.le_of_ble_eq_true rfl, Nat.le_of_ble_eq_true rfl⟩) (xg_preS hI hK hN hE hS) rfl rfl hl.1 rfl (lv_room (Nat.le_of_ble_eq_true rfl)) dX6_pass_24 ⟨Nat.le_of_ble_eq_true rfl, Nat.le_of_ble_eq_true rfl⟩) hS (fun H locs hI hN hS => ?_)
      refine W.widen (k := 2) (n := 12) (by decide) (by decide) ?_
      refine lv_aload_n hx hb dX6_pass_27 rfl (lv_at hl 0 rfl) ?_
      refine lv_dup hx hb dX6_pass_28 rfl ?_
      refine cg_get (T := TX6) (N := 7) (ci := 7) hx hb hts iwsX60 hown hK hN rfl rfl rfl 6 (by decide) l0 rfl (v := .int (Z.1 0 0 6)) rfl dX6_pass_29 ?_
      refine lv_iload_n hx hb dX6_pass_32 rfl (lv_at hl 1 rfl) ?_
      refine lv_iadd hx hb dX6_pass_33 ?_
      obtain ⟨Z7, eZ7⟩ : ∃ y : CZ, y = (cuI Z 0 0 (upd (Z.1 0 0) 6 ((Z.1 0 0 6) + x1))) := ⟨_, rfl⟩
      have h := bnd_ok h eZ7
      refine cg_put (ty := .int) (T := TX6) (N := 7) (ci := 7) hx hb hts iwsX60 tyX6_ok nmX6 hown hI hK hN hS rfl rfl rfl 6 (by decide) (Nat.le_of_ble_eq_true rfl) l0 rfl rfl (by decide +kernel) rfl rfl rfl dX6_pass_34 eZ7 (fun H locs hI hN hS => ?_)
      refine lv_aload_n hx hb dX6_pass_37 rfl (lv_at hl 0 rfl) ?_
      refine cg_get (T := TX6) (N := 7) (ci := 7) hx hb hts iwsX60 hown hK hN rfl rfl rfl 6 (by decide) l0 rfl (v := .int (Z7.1 0 0 6)) rfl dX6_pass_38 ?_
      exact vx_ret (W.widen (k := 2) (n := 12) (by decide) (by decide) (W.iret hx hb hr (xg_endi h hI hK hN hS) hS.2.2 dX6_pass_41))
    · exact xg_thrv (vx_runS (As := [.int t0]) (rest := []) ⟨hx, hb, hml, hown, hts⟩ (mX6_requireState l hfl D G A ad Z t0 (.inr x5) c4) (va_cwS 1 hts gX6_pass_X6_requireState rfl rfl rfl (by decide +kernel) ⟨Nat.le_of_ble_eq_true rfl, Nat.le_of_ble_eq_true rfl⟩) (xg_preS hI hK hN hE hS) rfl rfl hl.1 rfl (lv_room (Nat.le_of_ble_eq_true rfl)) dX6_pass_24 ⟨Nat.le_of_ble_eq_true rfl, Nat.le_of_ble_eq_true rfl⟩) (congrArg Prod.fst (Option.some.inj h)).symm (congrArg Prod.snd (Option.some.inj h)).symm hexc hlocks hS (by decide) (by decide)
  unfold fX6_pass at h
  refine lv_iload_n hx hb dX6_pass_0 rfl (lv_at hl 1 rfl) ?_
  refine lv_iconst (v := (1 : Int32)) hx hb dX6_pass_1 (by decide) ?_
  refine lv_bipush (v := (30 : Int32)) hx hb dX6_pass_2 (by decide) ?_
  rcases cx1_ok h with ⟨v3, c1, h⟩ | ⟨x2, c1, h⟩
  · refine xg_callv (vx_runS (As := [.int a1, .int (1 : Int32), .int (30 : Int32)]) (rest := []) ⟨hx, hb, hml, hown, hts⟩ (mX6_requireRange l hfl D G A ad Z a1 (1 : Int32) (30 : Int32) (.inl ()) c1) (va_cwS 3 hts gX6_pass_X6_requireRange rfl rfl rfl (by decide +kernel) ⟨Nat.le_of_ble_eq_true rfl, Nat.le_of_ble_eq_true rfl⟩) (xg_preS hI hK hN hE hS) rfl rfl hl.1 rfl (lv_room (Nat.le_of_ble_eq_true rfl)) dX6_pass_4 ⟨Nat.le_of_ble_eq_true rfl, Nat.le_of_ble_eq_true rfl⟩) hS (fun H locs hI hN hS => ?_)
    refine W.widen (k := 1) (n := 6) (by decide) (by decide) ?_
    refine lv_aload_n hx hb dX6_pass_7 rfl (lv_at hl 0 rfl) ?_
    refine cg_get (T := TX6) (N := 7) (ci := 7) hx hb hts iwsX60 hown hK hN rfl rfl rfl 6 (by decide) l0 rfl (v := .int (Z.1 0 0 6)) rfl dX6_pass_8 ?_
    refine lv_iload_n hx hb dX6_pass_11 rfl (lv_at hl 1 rfl) ?_
    refine lv_iadd hx hb dX6_pass_12 ?_
    refine lv_sipush (v := (1000 : Int32)) hx hb dX6_pass_13 (by decide) ?_
    refine lv_icmp_gt (tgt := 23) hx hb dX6_pass_16 (by decide) (fun hc => ?_) (fun hc => ?_)
    · have h := ite_t h hc
      refine lv_iconst (v := (0 : Int32)) hx hb dX6_pass_23 (by decide) ?_
      exact w24  a1 (0 : Int32) Z h _ _ _ hI hN hS (lv_sub hl [0, 1] rfl)
    · have h := ite_f h hc
      refine lv_iconst (v := (1 : Int32)) hx hb dX6_pass_19 (by decide) ?_
      refine lv_goto (tgt := 24) hx hb dX6_pass_20 (by decide) ?_
      exact w24  a1 (1 : Int32) Z h _ _ _ hI hN hS (lv_sub hl [0, 1] rfl)
  · exact xg_thrv (vx_runS (As := [.int a1, .int (1 : Int32), .int (30 : Int32)]) (rest := []) ⟨hx, hb, hml, hown, hts⟩ (mX6_requireRange l hfl D G A ad Z a1 (1 : Int32) (30 : Int32) (.inr x2) c1) (va_cwS 3 hts gX6_pass_X6_requireRange rfl rfl rfl (by decide +kernel) ⟨Nat.le_of_ble_eq_true rfl, Nat.le_of_ble_eq_true rfl⟩) (xg_preS hI hK hN hE hS) rfl rfl hl.1 rfl (lv_room (Nat.le_of_ble_eq_true rfl)) dX6_pass_4 ⟨Nat.le_of_ble_eq_true rfl, Nat.le_of_ble_eq_true rfl⟩) (congrArg Prod.fst (Option.some.inj h)).symm (congrArg Prod.snd (Option.some.inj h)).symm hexc hlocks hS (by decide) (by decide)
def fX6_seat (a1 : Int32) (a2 : Int32) (Z : CZ) : Option ((Int32 ⊕ Int32)) := cx1 (fX6_bandAt a1 Z) (fun x2 => some (.inr x2)) (fun q3 => cx1 (fX6_seatAt q3 a2 Z) (fun x5 => some (.inr x5)) (fun q6 => gd (cLv Z.2.2 13 q6) (cl1 (Z.2.1 13 q6 0) (fun q8 => gd (cLv Z.2.2 9 q8) (some (.inl (Z.1 9 q8 0)))))))
def rmX6_seat : Room := { frames := 8, cells := 2, slots := 12, locals := 142 }
set_option maxHeartbeats 4000000 in
set_option maxRecDepth 100000 in
theorem mX6_seat (l : Launch) (hfl : l.stackTraces = false) (D : va_G) (G : CGT) (A : Nat → Prop) (ad : Nat → Nat → Nat) (Z : CZ) (a1 : Int32) (a2 : Int32) (rz : (Int32 ⊕ Int32)) (h : fX6_seat a1 a2 Z = some rz) : vx_Met l yX6_seat wsX6_seat rmX6_seat (va_Pc [.ref (ad 0 0), .int a1, .int a2] (xP D G A ad Z)) (xQi D G A ad rz Z) (xX D G A ad rz Z) 2 12 A := by
  refine vx_ofW (cc := cX6_seat) (maxL := 3) (ret := some .int) (by decide) rfl ?_
  intro p e s m args below meth c s₁ B hml hexc hv
  obtain ⟨rfl, ⟨hI, hN, hK⟩, hE⟩ := hv
  have hx := B.exec
  have hb := B.bytes
  have hr := B.returns
  have hts := atoms_spec (ws := wsX6_seat) B.pre
  have hown : s.vm.findClass RX6 = some m.cls := findClass_of_methodNamed B.named
  have hlocks := B.notSynchronized
  have iwsX50 : ∀ w ∈ wsX50, w ∈ wsX6_seat := fun w h => List.mem_cons_of_mem _ (List.mem_append_left _ (List.mem_append_left _ (List.mem_append_left _ (List.mem_append_left _ (List.mem_append_left _ (List.mem_append_right _ h))))))
  have iwsX40 : ∀ w ∈ wsX40, w ∈ wsX6_seat := fun w h => List.mem_cons_of_mem _ (List.mem_append_left _ (List.mem_append_left _ (List.mem_append_left _ (List.mem_append_left _ (List.mem_append_right _ h)))))
  have l0 := hts (.fieldLink RX6 211 "Panyard$Seat" "player" "LPanyard$Player;") (List.mem_of_getElem? (i := 1) rfl)
  have l1 := hts (.fieldLink RX6 113 "Panyard$Player" "number" "I") (List.mem_of_getElem? (i := 2) rfl)
  have hS : va_S A s.heap s.heap [] := va_S.rf
  have hl := lv_entry ([.ref (ad 0 0), .int a1, .int a2]) (n := 3) (Nat.le_of_ble_eq_true rfl)
  rw [lg_entry_eq]
  generalize (lg_sl ([.ref (ad 0 0), .int a1, .int a2]) ++ List.replicate (3 - (lg_sl ([.ref (ad 0 0), .int a1, .int a2])).length) Slot.unset).toArray = ls at hl ⊢
  have hl : lv_has ls 3 [(0, .ref (ad 0 0)), (1, .int a1), (2, .int a2)] := hl
  unfold fX6_seat at h
  refine lv_aload_n hx hb dX6_seat_0 rfl (lv_at hl 0 rfl) ?_
  refine lv_iload_n hx hb dX6_seat_1 rfl (lv_at hl 1 rfl) ?_
  rcases cx1_ok h with ⟨q3, c1, h⟩ | ⟨x2, c1, h⟩
  · refine xg_callr (k := 10) (q := q3) (vx_runV (As := [.int a1]) (rest := []) ⟨hx, hb, hml, hown, hts⟩ (mX6_bandAt l hfl D G A ad Z a1 (.inl q3) c1) (cwV 1 hts gX6_seat_X6_bandAt rfl rfl rfl (by decide +kernel) ⟨Nat.le_of_ble_eq_true rfl, Nat.le_of_ble_eq_true rfl⟩) (xg_preV hI hK hN hE hS rfl rfl (ci := 7) rfl) rfl rfl hl.1 rfl (lv_room (Nat.le_of_ble_eq_true rfl)) dX6_seat_2 ⟨Nat.le_of_ble_eq_true rfl, Nat.le_of_ble_eq_true rfl⟩) hS (fun H locs hI hN hS => ?_)
    refine W.widen (k := 1) (n := 6) (by decide) (by decide) ?_
    refine lv_iload_n hx hb dX6_seat_5 rfl (lv_at hl 2 rfl) ?_
    rcases cx1_ok h with ⟨q6, c4, h⟩ | ⟨x5, c4, h⟩
    · refine xg_callr (k := 13) (q := q6) (vx_runS (As := [.ref (ad 10 q3), .int a2]) (rest := []) ⟨hx, hb, hml, hown, hts⟩ (mX6_seatAt l hfl D G A ad Z q3 a2 (.inl q6) c4) (va_cwS 2 hts gX6_seat_X6_seatAt rfl rfl rfl (by decide +kernel) ⟨Nat.le_of_ble_eq_true rfl, Nat.le_of_ble_eq_true rfl⟩) (xg_preS hI hK hN hE hS) rfl rfl hl.1 rfl (lv_room (Nat.le_of_ble_eq_true rfl)) dX6_seat_6 ⟨Nat.le_of_ble_eq_true rfl, Nat.le_of_ble_eq_true rfl⟩) hS (fun H locs hI hN hS => ?_)
      refine W.widen (k := 2) (n := 12) (by decide) (by decide) ?_
      obtain ⟨g7, h⟩ := gd_ok h
      obtain ⟨q8, c9, h⟩ := cl1_ok h
      refine cg_get (T := TX5) (N := 2) (ci := 6) hx hb hts iwsX50 hown hK hN g7 rfl rfl 0 (by decide) l0 rfl (v := .ref (ad 9 q8)) (congrArg (fun o => some (va_rf (Option.map (ad 9) o))) c9) dX6_seat_9 ?_
      obtain ⟨g10, h⟩ := gd_ok h
      refine cg_get (T := TX4) (N := 6) (ci := 5) hx hb hts iwsX40 hown hK hN g10 rfl rfl 0 (by decide) l1 rfl (v := .int (Z.1 9 q8 0)) rfl dX6_seat_12 ?_
      exact vx_ret (W.widen (k := 2) (n := 12) (by decide) (by decide) (W.iret hx hb hr (xg_endr h hI hK hN hS) hS.2.2 dX6_seat_15))
    · exact xg_thrr (k := 13) (vx_runS (As := [.ref (ad 10 q3), .int a2]) (rest := []) ⟨hx, hb, hml, hown, hts⟩ (mX6_seatAt l hfl D G A ad Z q3 a2 (.inr x5) c4) (va_cwS 2 hts gX6_seat_X6_seatAt rfl rfl rfl (by decide +kernel) ⟨Nat.le_of_ble_eq_true rfl, Nat.le_of_ble_eq_true rfl⟩) (xg_preS hI hK hN hE hS) rfl rfl hl.1 rfl (lv_room (Nat.le_of_ble_eq_true rfl)) dX6_seat_6 ⟨Nat.le_of_ble_eq_true rfl, Nat.le_of_ble_eq_true rfl⟩) (Option.some.inj h).symm rfl hexc hlocks hS (by decide) (by decide)
  · exact xg_thrr (k := 10) (vx_runV (As := [.int a1]) (rest := []) ⟨hx, hb, hml, hown, hts⟩ (mX6_bandAt l hfl D G A ad Z a1 (.inr x2) c1) (cwV 1 hts gX6_seat_X6_bandAt rfl rfl rfl (by decide +kernel) ⟨Nat.le_of_ble_eq_true rfl, Nat.le_of_ble_eq_true rfl⟩) (xg_preV hI hK hN hE hS rfl rfl (ci := 7) rfl) rfl rfl hl.1 rfl (lv_room (Nat.le_of_ble_eq_true rfl)) dX6_seat_2 ⟨Nat.le_of_ble_eq_true rfl, Nat.le_of_ble_eq_true rfl⟩) (Option.some.inj h).symm rfl hexc hlocks hS (by decide) (by decide)
def fX6_knows (a1 : Int32) (a2 : Int32) (a3 : Int32) (Z : CZ) : Option ((Int32 ⊕ Int32)) := cx1 (fX6_bandAt a1 Z) (fun x2 => some (.inr x2)) (fun q3 => cx1 (fX6_seatAt q3 a2 Z) (fun x5 => some (.inr x5)) (fun q6 => cx1 (fX6_bandAt a1 Z) (fun x8 => some (.inr x8)) (fun q9 => cx1 (fX6_requirePhrase q9 a3 Z) (fun x11 => some (.inr x11)) (fun _ => gd (cLv Z.2.2 13 q6) (gd (gin a3 6) (some (.inl (Z.1 14 q6 (Int32.toNatClampNeg a3)))))))))
def rmX6_knows : Room := { frames := 8, cells := 4, slots := 24, locals := 142 }
set_option maxHeartbeats 4000000 in
set_option maxRecDepth 100000 in
theorem mX6_knows (l : Launch) (hfl : l.stackTraces = false) (D : va_G) (G : CGT) (A : Nat → Prop) (ad : Nat → Nat → Nat) (Z : CZ) (a1 : Int32) (a2 : Int32) (a3 : Int32) (rz : (Int32 ⊕ Int32)) (h : fX6_knows a1 a2 a3 Z = some rz) : vx_Met l yX6_knows wsX6_knows rmX6_knows (va_Pc [.ref (ad 0 0), .int a1, .int a2, .int a3] (xP D G A ad Z)) (xQi D G A ad rz Z) (xX D G A ad rz Z) 4 24 A := by
  refine vx_ofW (cc := cX6_knows) (maxL := 5) (ret := some .int) (by decide) rfl ?_
  intro p e s m args below meth c s₁ B hml hexc hv
  obtain ⟨rfl, ⟨hI, hN, hK⟩, hE⟩ := hv
  have hx := B.exec
  have hb := B.bytes
  have hr := B.returns
  have hts := atoms_spec (ws := wsX6_knows) B.pre
  have hown : s.vm.findClass RX6 = some m.cls := findClass_of_methodNamed B.named
  have hlocks := B.notSynchronized
  have iwsX50 : ∀ w ∈ wsX50, w ∈ wsX6_knows := fun w h => List.mem_cons_of_mem _ (List.mem_append_left _ (List.mem_append_left _ (List.mem_append_left _ (List.mem_append_left _ (List.mem_append_right _ h)))))
  have l0 := hts (.fieldLink RX6 188 "Panyard$Seat" "known" "[I") (List.mem_of_getElem? (i := 1) rfl)
  have hS : va_S A s.heap s.heap [] := va_S.rf
  have hl := lv_entry ([.ref (ad 0 0), .int a1, .int a2, .int a3]) (n := 5) (Nat.le_of_ble_eq_true rfl)
  rw [lg_entry_eq]
  generalize (lg_sl ([.ref (ad 0 0), .int a1, .int a2, .int a3]) ++ List.replicate (5 - (lg_sl ([.ref (ad 0 0), .int a1, .int a2, .int a3])).length) Slot.unset).toArray = ls at hl ⊢
  have hl : lv_has ls 5 [(0, .ref (ad 0 0)), (1, .int a1), (2, .int a2), (3, .int a3)] := hl
  unfold fX6_knows at h
  refine lv_aload_n hx hb dX6_knows_0 rfl (lv_at hl 0 rfl) ?_
  refine lv_iload_n hx hb dX6_knows_1 rfl (lv_at hl 1 rfl) ?_
  rcases cx1_ok h with ⟨q3, c1, h⟩ | ⟨x2, c1, h⟩
  · refine xg_callr (k := 10) (q := q3) (vx_runV (As := [.int a1]) (rest := []) ⟨hx, hb, hml, hown, hts⟩ (mX6_bandAt l hfl D G A ad Z a1 (.inl q3) c1) (cwV 1 hts gX6_knows_X6_bandAt rfl rfl rfl (by decide +kernel) ⟨Nat.le_of_ble_eq_true rfl, Nat.le_of_ble_eq_true rfl⟩) (xg_preV hI hK hN hE hS rfl rfl (ci := 7) rfl) rfl rfl hl.1 rfl (lv_room (Nat.le_of_ble_eq_true rfl)) dX6_knows_2 ⟨Nat.le_of_ble_eq_true rfl, Nat.le_of_ble_eq_true rfl⟩) hS (fun H locs hI hN hS => ?_)
    refine W.widen (k := 1) (n := 6) (by decide) (by decide) ?_
    refine lv_iload_n hx hb dX6_knows_5 rfl (lv_at hl 2 rfl) ?_
    rcases cx1_ok h with ⟨q6, c4, h⟩ | ⟨x5, c4, h⟩
    · refine xg_callr (k := 13) (q := q6) (vx_runS (As := [.ref (ad 10 q3), .int a2]) (rest := []) ⟨hx, hb, hml, hown, hts⟩ (mX6_seatAt l hfl D G A ad Z q3 a2 (.inl q6) c4) (va_cwS 2 hts gX6_knows_X6_seatAt rfl rfl rfl (by decide +kernel) ⟨Nat.le_of_ble_eq_true rfl, Nat.le_of_ble_eq_true rfl⟩) (xg_preS hI hK hN hE hS) rfl rfl hl.1 rfl (lv_room (Nat.le_of_ble_eq_true rfl)) dX6_knows_6 ⟨Nat.le_of_ble_eq_true rfl, Nat.le_of_ble_eq_true rfl⟩) hS (fun H locs hI hN hS => ?_)
      refine W.widen (k := 2) (n := 12) (by decide) (by decide) ?_
      refine lv_astore (lv' := [(4, .ref (ad 13 q6)), (0, .ref (ad 0 0)), (1, .int a1), (2, .int a2), (3, .int a3)]) hx hb dX6_knows_9 hl (by decide) rfl (fun ls hl => ?_)
      refine lv_aload_n hx hb dX6_knows_11 rfl (lv_at hl 1 rfl) ?_
      refine lv_iload_n hx hb dX6_knows_12 rfl (lv_at hl 2 rfl) ?_
      rcases cx1_ok h with ⟨q9, c7, h⟩ | ⟨x8, c7, h⟩
      · refine xg_callr (k := 10) (q := q9) (vx_runV (As := [.int a1]) (rest := []) ⟨hx, hb, hml, hown, hts⟩ (mX6_bandAt l hfl D G A ad Z a1 (.inl q9) c7) (cwV 1 hts gX6_knows_X6_bandAt rfl rfl rfl (by decide +kernel) ⟨Nat.le_of_ble_eq_true rfl, Nat.le_of_ble_eq_true rfl⟩) (xg_preV hI hK hN hE hS rfl rfl (ci := 7) rfl) rfl rfl hl.1 rfl (lv_room (Nat.le_of_ble_eq_true rfl)) dX6_knows_13 ⟨Nat.le_of_ble_eq_true rfl, Nat.le_of_ble_eq_true rfl⟩) hS (fun H locs hI hN hS => ?_)
        refine W.widen (k := 3) (n := 18) (by decide) (by decide) ?_
        refine lv_iload_n hx hb dX6_knows_16 rfl (lv_at hl 4 rfl) ?_
        rcases cx1_ok h with ⟨v12, c10, h⟩ | ⟨x11, c10, h⟩
        · refine xg_callv (vx_runS (As := [.ref (ad 10 q9), .int a3]) (rest := []) ⟨hx, hb, hml, hown, hts⟩ (mX6_requirePhrase l hfl D G A ad Z q9 a3 (.inl ()) c10) (va_cwS 2 hts gX6_knows_X6_requirePhrase rfl rfl rfl (by decide +kernel) ⟨Nat.le_of_ble_eq_true rfl, Nat.le_of_ble_eq_true rfl⟩) (xg_preS hI hK hN hE hS) rfl rfl hl.1 rfl (lv_room (Nat.le_of_ble_eq_true rfl)) dX6_knows_17 ⟨Nat.le_of_ble_eq_true rfl, Nat.le_of_ble_eq_true rfl⟩) hS (fun H locs hI hN hS => ?_)
          refine W.widen (k := 4) (n := 24) (by decide) (by decide) ?_
          refine lv_aload hx hb dX6_knows_20 (lv_at hl 0 rfl) ?_
          obtain ⟨g13, h⟩ := gd_ok h
          refine cg_get (T := TX5) (N := 2) (ci := 6) hx hb hts iwsX50 hown hK hN g13 rfl rfl 1 (by decide) l0 rfl (v := .ref (ad 14 q6)) rfl dX6_knows_22 ?_
          refine lv_iload_n hx hb dX6_knows_25 rfl (lv_at hl 4 rfl) ?_
          obtain ⟨g14, h⟩ := gd_ok h
          refine cg_ild hx hb hK hN g13 rfl (gin_ok g14) dX6_knows_26 ?_
          exact vx_ret (W.widen (k := 4) (n := 24) (by decide) (by decide) (W.iret hx hb hr (xg_endr h hI hK hN hS) hS.2.2 dX6_knows_27))
        · exact xg_thrv (vx_runS (As := [.ref (ad 10 q9), .int a3]) (rest := []) ⟨hx, hb, hml, hown, hts⟩ (mX6_requirePhrase l hfl D G A ad Z q9 a3 (.inr x11) c10) (va_cwS 2 hts gX6_knows_X6_requirePhrase rfl rfl rfl (by decide +kernel) ⟨Nat.le_of_ble_eq_true rfl, Nat.le_of_ble_eq_true rfl⟩) (xg_preS hI hK hN hE hS) rfl rfl hl.1 rfl (lv_room (Nat.le_of_ble_eq_true rfl)) dX6_knows_17 ⟨Nat.le_of_ble_eq_true rfl, Nat.le_of_ble_eq_true rfl⟩) (Option.some.inj h).symm rfl hexc hlocks hS (by decide) (by decide)
      · exact xg_thrr (k := 10) (vx_runV (As := [.int a1]) (rest := []) ⟨hx, hb, hml, hown, hts⟩ (mX6_bandAt l hfl D G A ad Z a1 (.inr x8) c7) (cwV 1 hts gX6_knows_X6_bandAt rfl rfl rfl (by decide +kernel) ⟨Nat.le_of_ble_eq_true rfl, Nat.le_of_ble_eq_true rfl⟩) (xg_preV hI hK hN hE hS rfl rfl (ci := 7) rfl) rfl rfl hl.1 rfl (lv_room (Nat.le_of_ble_eq_true rfl)) dX6_knows_13 ⟨Nat.le_of_ble_eq_true rfl, Nat.le_of_ble_eq_true rfl⟩) (Option.some.inj h).symm rfl hexc hlocks hS (by decide) (by decide)
    · exact xg_thrr (k := 13) (vx_runS (As := [.ref (ad 10 q3), .int a2]) (rest := []) ⟨hx, hb, hml, hown, hts⟩ (mX6_seatAt l hfl D G A ad Z q3 a2 (.inr x5) c4) (va_cwS 2 hts gX6_knows_X6_seatAt rfl rfl rfl (by decide +kernel) ⟨Nat.le_of_ble_eq_true rfl, Nat.le_of_ble_eq_true rfl⟩) (xg_preS hI hK hN hE hS) rfl rfl hl.1 rfl (lv_room (Nat.le_of_ble_eq_true rfl)) dX6_knows_6 ⟨Nat.le_of_ble_eq_true rfl, Nat.le_of_ble_eq_true rfl⟩) (Option.some.inj h).symm rfl hexc hlocks hS (by decide) (by decide)
  · exact xg_thrr (k := 10) (vx_runV (As := [.int a1]) (rest := []) ⟨hx, hb, hml, hown, hts⟩ (mX6_bandAt l hfl D G A ad Z a1 (.inr x2) c1) (cwV 1 hts gX6_knows_X6_bandAt rfl rfl rfl (by decide +kernel) ⟨Nat.le_of_ble_eq_true rfl, Nat.le_of_ble_eq_true rfl⟩) (xg_preV hI hK hN hE hS rfl rfl (ci := 7) rfl) rfl rfl hl.1 rfl (lv_room (Nat.le_of_ble_eq_true rfl)) dX6_knows_2 ⟨Nat.le_of_ble_eq_true rfl, Nat.le_of_ble_eq_true rfl⟩) (Option.some.inj h).symm rfl hexc hlocks hS (by decide) (by decide)
def fX6_ofBand_83 (Z : CZ) (t0 : Int32) : Option ((Int32 ⊕ Int32)) := some (.inl t0)
def fX6_ofBand (a1 : Int32) (a2 : Int32) (Z : CZ) : Option ((Int32 ⊕ Int32)) := cx1 (fX6_bandAt a1 Z) (fun x2 => some (.inr x2)) (fun q3 => cx1 (fX6_requireRange a2 (0 : Int32) (4 : Int32) Z) (fun x5 => some (.inr x5)) (fun _ => (if a2 = (0 : Int32) then gd (cLv Z.2.2 10 q3) (gd (cLv Z.2.2 3 (q3 + 4)) (cl1 (fJx4a65c_size_8abf5 (q3 + 4) Z) (fun v9 => some (.inl v9)))) else (if a2 = (1 : Int32) then gd (cLv Z.2.2 10 q3) (some (.inl (Z.1 10 q3 3))) else (if a2 = (2 : Int32) then gd (cLv Z.2.2 10 q3) (cl1 (fX0_phraseCount q3 Z) (fun v13 => some (.inl v13))) else (if a2 = (3 : Int32) then gd (cLv Z.2.2 10 q3) (some (.inl (Z.1 10 q3 5))) else gd (cLv Z.2.2 10 q3) ((if (Z.1 10 q3 4) = (Z.1 0 0 6) then fX6_ofBand_83 Z (1 : Int32) else fX6_ofBand_83 Z (0 : Int32)))))))))
def rmX6_ofBand : Room := { frames := 8, cells := 2, slots := 12, locals := 142 }
set_option maxHeartbeats 4000000 in
set_option maxRecDepth 100000 in
theorem mX6_ofBand (l : Launch) (hfl : l.stackTraces = false) (D : va_G) (G : CGT) (A : Nat → Prop) (ad : Nat → Nat → Nat) (Z : CZ) (a1 : Int32) (a2 : Int32) (rz : (Int32 ⊕ Int32)) (h : fX6_ofBand a1 a2 Z = some rz) : vx_Met l yX6_ofBand wsX6_ofBand rmX6_ofBand (va_Pc [.ref (ad 0 0), .int a1, .int a2] (xP D G A ad Z)) (xQi D G A ad rz Z) (xX D G A ad rz Z) 2 12 A := by
  refine vx_ofW (cc := cX6_ofBand) (maxL := 4) (ret := some .int) (by decide) rfl ?_
  intro p e s m args below meth c s₁ B hml hexc hv
  obtain ⟨rfl, ⟨hI, hN, hK⟩, hE⟩ := hv
  have hx := B.exec
  have hb := B.bytes
  have hr := B.returns
  have hts := atoms_spec (ws := wsX6_ofBand) B.pre
  have hown : s.vm.findClass RX6 = some m.cls := findClass_of_methodNamed B.named
  have hlocks := B.notSynchronized
  have iwsX00 : ∀ w ∈ wsX00, w ∈ wsX6_ofBand := fun w h => List.mem_cons_of_mem _ (List.mem_append_left _ (List.mem_append_left _ (List.mem_append_left _ (List.mem_append_left _ (List.mem_append_right _ h)))))
  have iwsX60 : ∀ w ∈ wsX60, w ∈ wsX6_ofBand := fun w h => List.mem_cons_of_mem _ (List.mem_append_left _ (List.mem_append_left _ (List.mem_append_left _ (List.mem_append_right _ h))))
  have l0 := hts (.fieldLink RX6 129 "Panyard$Band" "seats" "Ljava/util/ArrayList;") (List.mem_of_getElem? (i := 1) rfl)
  have l1 := hts (.fieldLink RX6 171 "Panyard$Band" "noteCount" "I") (List.mem_of_getElem? (i := 2) rfl)
  have l2 := hts (.fieldLink RX6 218 "Panyard$Band" "heard" "I") (List.mem_of_getElem? (i := 3) rfl)
  have l3 := hts (.fieldLink RX6 195 "Panyard$Band" "drillNight" "I") (List.mem_of_getElem? (i := 4) rfl)
  have l4 := hts (.fieldLink RX6 198 "Panyard" "nightNow" "I") (List.mem_of_getElem? (i := 5) rfl)
  have hS : va_S A s.heap s.heap [] := va_S.rf
  have hl := lv_entry ([.ref (ad 0 0), .int a1, .int a2]) (n := 4) (Nat.le_of_ble_eq_true rfl)
  rw [lg_entry_eq]
  generalize (lg_sl ([.ref (ad 0 0), .int a1, .int a2]) ++ List.replicate (4 - (lg_sl ([.ref (ad 0 0), .int a1, .int a2])).length) Slot.unset).toArray = ls at hl ⊢
  have hl : lv_has ls 4 [(0, .ref (ad 0 0)), (1, .int a1), (2, .int a2)] := hl
  have w83 : ∀ (t0 : Int32), fX6_ofBand_83 Z t0 = some rz → cG p l e (headSpec wsX6_ofBand rmX6_ofBand).room s m (([.ref (ad 0 0), .int a1, .int a2] : List Value).toArray) below meth c (vx_MQ below (xQi D G A ad rz Z) (xX D G A ad rz Z) (([.ref (ad 0 0), .int a1, .int a2] : List Value).toArray) s 2 12 A) D G A ad 2 12 4 Z 83 [] [.int t0] := by
    intro  t0 h H locs ls hI hN hS hl
    unfold fX6_ofBand_83 at h
    exact vx_ret (W.widen (k := 2) (n := 12) (by decide) (by decide) (W.iret hx hb hr (xg_endr h hI hK hN hS) hS.2.2 dX6_ofBand_83))
  unfold fX6_ofBand at h
  refine lv_aload_n hx hb dX6_ofBand_0 rfl (lv_at hl 0 rfl) ?_
  refine lv_iload_n hx hb dX6_ofBand_1 rfl (lv_at hl 1 rfl) ?_
  rcases cx1_ok h with ⟨q3, c1, h⟩ | ⟨x2, c1, h⟩
  · refine xg_callr (k := 10) (q := q3) (vx_runV (As := [.int a1]) (rest := []) ⟨hx, hb, hml, hown, hts⟩ (mX6_bandAt l hfl D G A ad Z a1 (.inl q3) c1) (cwV 1 hts gX6_ofBand_X6_bandAt rfl rfl rfl (by decide +kernel) ⟨Nat.le_of_ble_eq_true rfl, Nat.le_of_ble_eq_true rfl⟩) (xg_preV hI hK hN hE hS rfl rfl (ci := 7) rfl) rfl rfl hl.1 rfl (lv_room (Nat.le_of_ble_eq_true rfl)) dX6_ofBand_2 ⟨Nat.le_of_ble_eq_true rfl, Nat.le_of_ble_eq_true rfl⟩) hS (fun H locs hI hN hS => ?_)
    refine W.widen (k := 1) (n := 6) (by decide) (by decide) ?_
    refine lv_astore_n (lv' := [(3, .ref (ad 10 q3)), (0, .ref (ad 0 0)), (1, .int a1), (2, .int a2)]) hx hb dX6_ofBand_5 rfl hl (by decide) rfl (fun ls hl => ?_)
    refine lv_iload_n hx hb dX6_ofBand_6 rfl (lv_at hl 3 rfl) ?_
    refine lv_iconst (v := (0 : Int32)) hx hb dX6_ofBand_7 (by decide) ?_
    refine lv_iconst (v := (4 : Int32)) hx hb dX6_ofBand_8 (by decide) ?_
    rcases cx1_ok h with ⟨v6, c4, h⟩ | ⟨x5, c4, h⟩
    · refine xg_callv (vx_runS (As := [.int a2, .int (0 : Int32), .int (4 : Int32)]) (rest := []) ⟨hx, hb, hml, hown, hts⟩ (mX6_requireRange l hfl D G A ad Z a2 (0 : Int32) (4 : Int32) (.inl ()) c4) (va_cwS 3 hts gX6_ofBand_X6_requireRange rfl rfl rfl (by decide +kernel) ⟨Nat.le_of_ble_eq_true rfl, Nat.le_of_ble_eq_true rfl⟩) (xg_preS hI hK hN hE hS) rfl rfl hl.1 rfl (lv_room (Nat.le_of_ble_eq_true rfl)) dX6_ofBand_9 ⟨Nat.le_of_ble_eq_true rfl, Nat.le_of_ble_eq_true rfl⟩) hS (fun H locs hI hN hS => ?_)
      refine W.widen (k := 2) (n := 12) (by decide) (by decide) ?_
      refine lv_iload_n hx hb dX6_ofBand_12 rfl (lv_at hl 3 rfl) ?_
      by_cases hs0 : a2 = (0 : Int32)
      · have h := ite_t h hs0
        refine lv_tableIn (tgt := 44) hx hb dX6_ofBand_13 (by rw [hs0]; decide) (by rw [hs0]; decide) (by rw [hs0]; rfl) (by decide) ?_
        refine lv_aload_n hx hb dX6_ofBand_44 rfl (lv_at hl 0 rfl) ?_
        obtain ⟨g7, h⟩ := gd_ok h
        refine cg_get (T := TX0) (N := 7) (ci := 1) hx hb hts iwsX00 hown hK hN g7 rfl rfl 0 (by decide) l0 rfl (v := .ref (ad 3 (q3 + 4))) rfl dX6_ofBand_45 ?_
        obtain ⟨g8, h⟩ := gd_ok h
        obtain ⟨v9, c10, h⟩ := cl1_ok h
        refine cg_calli (va_runV (As := []) (rest := []) ⟨hx, hb, hml, hown, hts⟩ (mJx4a65c_size_8abf5 l D G A ad Z (q3 + 4) v9 c10) (cwV 0 hts gX6_ofBand_Jx4a65c_size_8abf5 rfl rfl rfl (by decide +kernel) ⟨Nat.le_of_ble_eq_true rfl, Nat.le_of_ble_eq_true rfl⟩) (cg_preV hI hK hN g8 rfl (ci := 0) rfl) rfl rfl hl.1 rfl (lv_room (Nat.le_of_ble_eq_true rfl)) dX6_ofBand_48 ⟨Nat.le_of_ble_eq_true rfl, Nat.le_of_ble_eq_true rfl⟩) hS (fun H locs hI hN hS => ?_)
        exact vx_ret (W.widen (k := 2) (n := 12) (by decide) (by decide) (W.iret hx hb hr (xg_endr h hI hK hN hS) hS.2.2 dX6_ofBand_51))
      · have h := ite_f h hs0
        by_cases hs1 : a2 = (1 : Int32)
        · have h := ite_t h hs1
          refine lv_tableIn (tgt := 52) hx hb dX6_ofBand_13 (by rw [hs1]; decide) (by rw [hs1]; decide) (by rw [hs1]; rfl) (by decide) ?_
          refine lv_aload_n hx hb dX6_ofBand_52 rfl (lv_at hl 0 rfl) ?_
          obtain ⟨g11, h⟩ := gd_ok h
          refine cg_get (T := TX0) (N := 7) (ci := 1) hx hb hts iwsX00 hown hK hN g11 rfl rfl 3 (by decide) l1 rfl (v := .int (Z.1 10 q3 3)) rfl dX6_ofBand_53 ?_
          exact vx_ret (W.widen (k := 2) (n := 12) (by decide) (by decide) (W.iret hx hb hr (xg_endr h hI hK hN hS) hS.2.2 dX6_ofBand_56))
        · have h := ite_f h hs1
          by_cases hs2 : a2 = (2 : Int32)
          · have h := ite_t h hs2
            refine lv_tableIn (tgt := 57) hx hb dX6_ofBand_13 (by rw [hs2]; decide) (by rw [hs2]; decide) (by rw [hs2]; rfl) (by decide) ?_
            refine lv_aload_n hx hb dX6_ofBand_57 rfl (lv_at hl 0 rfl) ?_
            obtain ⟨g12, h⟩ := gd_ok h
            obtain ⟨v13, c14, h⟩ := cl1_ok h
            refine cg_calli (va_runV (As := []) (rest := []) ⟨hx, hb, hml, hown, hts⟩ (mX0_phraseCount l D G A ad Z q3 v13 c14) (cwV 0 hts gX6_ofBand_X0_phraseCount rfl rfl rfl (by decide +kernel) ⟨Nat.le_of_ble_eq_true rfl, Nat.le_of_ble_eq_true rfl⟩) (cg_preV hI hK hN g12 rfl (ci := 1) rfl) rfl rfl hl.1 rfl (lv_room (Nat.le_of_ble_eq_true rfl)) dX6_ofBand_58 ⟨Nat.le_of_ble_eq_true rfl, Nat.le_of_ble_eq_true rfl⟩) hS (fun H locs hI hN hS => ?_)
            exact vx_ret (W.widen (k := 2) (n := 12) (by decide) (by decide) (W.iret hx hb hr (xg_endr h hI hK hN hS) hS.2.2 dX6_ofBand_61))
          · have h := ite_f h hs2
            by_cases hs3 : a2 = (3 : Int32)
            · have h := ite_t h hs3
              refine lv_tableIn (tgt := 62) hx hb dX6_ofBand_13 (by rw [hs3]; decide) (by rw [hs3]; decide) (by rw [hs3]; rfl) (by decide) ?_
              refine lv_aload_n hx hb dX6_ofBand_62 rfl (lv_at hl 0 rfl) ?_
              obtain ⟨g15, h⟩ := gd_ok h
              refine cg_get (T := TX0) (N := 7) (ci := 1) hx hb hts iwsX00 hown hK hN g15 rfl rfl 5 (by decide) l2 rfl (v := .int (Z.1 10 q3 5)) rfl dX6_ofBand_63 ?_
              exact vx_ret (W.widen (k := 2) (n := 12) (by decide) (by decide) (W.iret hx hb hr (xg_endr h hI hK hN hS) hS.2.2 dX6_ofBand_66))
            · have h := ite_f h hs3
              have ht0 := ne_toInt (0 : Int32) (n := 0) (by decide) hs0
              have ht1 := ne_toInt (1 : Int32) (n := 1) (by decide) hs1
              have ht2 := ne_toInt (2 : Int32) (n := 2) (by decide) hs2
              have ht3 := ne_toInt (3 : Int32) (n := 3) (by decide) hs3
              refine lv_tableOut (tgt := 67) hx hb dX6_ofBand_13 (by omega) (by decide) ?_
              refine lv_aload_n hx hb dX6_ofBand_67 rfl (lv_at hl 0 rfl) ?_
              obtain ⟨g16, h⟩ := gd_ok h
              refine cg_get (T := TX0) (N := 7) (ci := 1) hx hb hts iwsX00 hown hK hN g16 rfl rfl 4 (by decide) l3 rfl (v := .int (Z.1 10 q3 4)) rfl dX6_ofBand_68 ?_
              refine lv_aload_n hx hb dX6_ofBand_71 rfl (lv_at hl 1 rfl) ?_
              refine cg_get (T := TX6) (N := 7) (ci := 7) hx hb hts iwsX60 hown hK hN rfl rfl rfl 6 (by decide) l4 rfl (v := .int (Z.1 0 0 6)) rfl dX6_ofBand_72 ?_
              refine lv_icmp_ne (tgt := 82) hx hb dX6_ofBand_75 (by decide) (fun hc => ?_) (fun hc => ?_)
              · have h := ite_f h hc
                refine lv_iconst (v := (0 : Int32)) hx hb dX6_ofBand_82 (by decide) ?_
                exact w83  (0 : Int32) h _ _ _ hI hN hS (lv_sub hl [] rfl)
              · have h := ite_t h hc
                refine lv_iconst (v := (1 : Int32)) hx hb dX6_ofBand_78 (by decide) ?_
                refine lv_goto (tgt := 83) hx hb dX6_ofBand_79 (by decide) ?_
                exact w83  (1 : Int32) h _ _ _ hI hN hS (lv_sub hl [] rfl)
    · exact xg_thrv (vx_runS (As := [.int a2, .int (0 : Int32), .int (4 : Int32)]) (rest := []) ⟨hx, hb, hml, hown, hts⟩ (mX6_requireRange l hfl D G A ad Z a2 (0 : Int32) (4 : Int32) (.inr x5) c4) (va_cwS 3 hts gX6_ofBand_X6_requireRange rfl rfl rfl (by decide +kernel) ⟨Nat.le_of_ble_eq_true rfl, Nat.le_of_ble_eq_true rfl⟩) (xg_preS hI hK hN hE hS) rfl rfl hl.1 rfl (lv_room (Nat.le_of_ble_eq_true rfl)) dX6_ofBand_9 ⟨Nat.le_of_ble_eq_true rfl, Nat.le_of_ble_eq_true rfl⟩) (Option.some.inj h).symm rfl hexc hlocks hS (by decide) (by decide)
  · exact xg_thrr (k := 10) (vx_runV (As := [.int a1]) (rest := []) ⟨hx, hb, hml, hown, hts⟩ (mX6_bandAt l hfl D G A ad Z a1 (.inr x2) c1) (cwV 1 hts gX6_ofBand_X6_bandAt rfl rfl rfl (by decide +kernel) ⟨Nat.le_of_ble_eq_true rfl, Nat.le_of_ble_eq_true rfl⟩) (xg_preV hI hK hN hE hS rfl rfl (ci := 7) rfl) rfl rfl hl.1 rfl (lv_room (Nat.le_of_ble_eq_true rfl)) dX6_ofBand_2 ⟨Nat.le_of_ble_eq_true rfl, Nat.le_of_ble_eq_true rfl⟩) (Option.some.inj h).symm rfl hexc hlocks hS (by decide) (by decide)
def fX6_leaps (a1 : Int32) (Z : CZ) : Option ((Int32 ⊕ Int32) × CZ) := cx1 (fX6_bandAt a1 Z) (fun x2 => some (.inr x2, Z)) (fun q3 => cl2 (fX2_findBest q3 (-1 : Int32) Z) (fun v4 Z5 => some (.inl v4, Z5)))
def rmX6_leaps : Room := { frames := 8, cells := 1, slots := 6, locals := 180 }
set_option maxHeartbeats 4000000 in
set_option maxRecDepth 100000 in
theorem mX6_leaps (l : Launch) (hfl : l.stackTraces = false) (D : va_G) (G : CGT) (A : Nat → Prop) (ad : Nat → Nat → Nat) (Z : CZ) (a1 : Int32) (rz : (Int32 ⊕ Int32)) (Zz : CZ) (h : fX6_leaps a1 Z = some (rz, Zz)) : vx_Met l yX6_leaps wsX6_leaps rmX6_leaps (va_Pc [.ref (ad 0 0), .int a1] (xP D G A ad Z)) (xQi D G A ad rz Zz) (xX D G A ad rz Zz) 1 6 A := by
  refine vx_ofW (cc := cX6_leaps) (maxL := 2) (ret := some .int) (by decide) rfl ?_
  intro p e s m args below meth c s₁ B hml hexc hv
  obtain ⟨rfl, ⟨hI, hN, hK⟩, hE⟩ := hv
  have hx := B.exec
  have hb := B.bytes
  have hr := B.returns
  have hts := atoms_spec (ws := wsX6_leaps) B.pre
  have hown : s.vm.findClass RX6 = some m.cls := findClass_of_methodNamed B.named
  have hlocks := B.notSynchronized
  have iwsX60 : ∀ w ∈ wsX60, w ∈ wsX6_leaps := fun w h => List.mem_cons_of_mem _ (List.mem_append_left _ (List.mem_append_left _ (List.mem_append_left _ (List.mem_append_left _ (List.mem_append_left _ (List.mem_append_left _ (List.mem_append_right _ h)))))))
  have l0 := hts (.fieldLink RX6 32 "Panyard" "parts" "LPanyard$Parts;") (List.mem_of_getElem? (i := 1) rfl)
  have hS : va_S A s.heap s.heap [] := va_S.rf
  have hl := lv_entry ([.ref (ad 0 0), .int a1]) (n := 2) (Nat.le_of_ble_eq_true rfl)
  rw [lg_entry_eq]
  generalize (lg_sl ([.ref (ad 0 0), .int a1]) ++ List.replicate (2 - (lg_sl ([.ref (ad 0 0), .int a1])).length) Slot.unset).toArray = ls at hl ⊢
  have hl : lv_has ls 2 [(0, .ref (ad 0 0)), (1, .int a1)] := hl
  unfold fX6_leaps at h
  refine lv_aload_n hx hb dX6_leaps_0 rfl (lv_at hl 0 rfl) ?_
  refine cg_get (T := TX6) (N := 7) (ci := 7) hx hb hts iwsX60 hown hK hN rfl rfl rfl 4 (by decide) l0 rfl (v := .ref (ad 2 0)) rfl dX6_leaps_1 ?_
  refine lv_aload_n hx hb dX6_leaps_4 rfl (lv_at hl 0 rfl) ?_
  refine lv_iload_n hx hb dX6_leaps_5 rfl (lv_at hl 1 rfl) ?_
  rcases cx1_ok h with ⟨q3, c1, h⟩ | ⟨x2, c1, h⟩
  · refine xg_callr (k := 10) (q := q3) (vx_runV (As := [.int a1]) (rest := [.ref (ad 2 0)]) ⟨hx, hb, hml, hown, hts⟩ (mX6_bandAt l hfl D G A ad Z a1 (.inl q3) c1) (cwV 1 hts gX6_leaps_X6_bandAt rfl rfl rfl (by decide +kernel) ⟨Nat.le_of_ble_eq_true rfl, Nat.le_of_ble_eq_true rfl⟩) (xg_preV hI hK hN hE hS rfl rfl (ci := 7) rfl) rfl rfl hl.1 rfl (lv_room (Nat.le_of_ble_eq_true rfl)) dX6_leaps_6 ⟨Nat.le_of_ble_eq_true rfl, Nat.le_of_ble_eq_true rfl⟩) hS (fun H locs hI hN hS => ?_)
    refine W.widen (k := 1) (n := 6) (by decide) (by decide) ?_
    refine lv_iconst (v := (-1 : Int32)) hx hb dX6_leaps_9 (by decide) ?_
    obtain ⟨v4, Z5, c6, h⟩ := cl2_ok h
    refine cg_calli (va_runV (As := [.ref (ad 10 q3), .int (-1 : Int32)]) (rest := []) ⟨hx, hb, hml, hown, hts⟩ (mX2_findBest l D G A ad Z q3 (-1 : Int32) v4 Z5 c6) (cwV 2 hts gX6_leaps_X2_findBest rfl rfl rfl (by decide +kernel) ⟨Nat.le_of_ble_eq_true rfl, Nat.le_of_ble_eq_true rfl⟩) (cg_preV hI hK hN rfl rfl (ci := 3) rfl) rfl rfl hl.1 rfl (lv_room (Nat.le_of_ble_eq_true rfl)) dX6_leaps_10 ⟨Nat.le_of_ble_eq_true rfl, Nat.le_of_ble_eq_true rfl⟩) hS (fun H locs hI hN hS => ?_)
    exact vx_ret (W.widen (k := 1) (n := 6) (by decide) (by decide) (W.iret hx hb hr (xg_endi h hI hK hN hS) hS.2.2 dX6_leaps_13))
  · exact xg_thrr (k := 10) (vx_runV (As := [.int a1]) (rest := [.ref (ad 2 0)]) ⟨hx, hb, hml, hown, hts⟩ (mX6_bandAt l hfl D G A ad Z a1 (.inr x2) c1) (cwV 1 hts gX6_leaps_X6_bandAt rfl rfl rfl (by decide +kernel) ⟨Nat.le_of_ble_eq_true rfl, Nat.le_of_ble_eq_true rfl⟩) (xg_preV hI hK hN hE hS rfl rfl (ci := 7) rfl) rfl rfl hl.1 rfl (lv_room (Nat.le_of_ble_eq_true rfl)) dX6_leaps_6 ⟨Nat.le_of_ble_eq_true rfl, Nat.le_of_ble_eq_true rfl⟩) (congrArg Prod.fst (Option.some.inj h)).symm (congrArg Prod.snd (Option.some.inj h)).symm hexc hlocks hS (by decide) (by decide)
def fX6_part_37 (t0 : Int32) (Z : CZ) : Option ((Int32 ⊕ Int32) × CZ) := some (.inl t0, Z)
def fX6_part (a1 : Int32) (a2 : Int32) (Z : CZ) : Option ((Int32 ⊕ Int32) × CZ) := cx1 (fX6_bandAt a1 Z) (fun x2 => some (.inr x2, Z)) (fun q3 => cx1 (fX6_requirePhrase q3 a2 Z) (fun x5 => some (.inr x5, Z)) (fun _ => cl2 (fX2_findBest q3 (-1 : Int32) Z) (fun v7 Z8 => (if v7 = (-1 : Int32) then fX6_part_37 (-1 : Int32) Z8 else gd (gin a2 6) (fX6_part_37 (Z8.1 16 0 (Int32.toNatClampNeg a2)) Z8)))))
def rmX6_part : Room := { frames := 8, cells := 2, slots := 12, locals := 180 }
set_option maxHeartbeats 4000000 in
set_option maxRecDepth 100000 in
theorem mX6_part (l : Launch) (hfl : l.stackTraces = false) (D : va_G) (G : CGT) (A : Nat → Prop) (ad : Nat → Nat → Nat) (Z : CZ) (a1 : Int32) (a2 : Int32) (rz : (Int32 ⊕ Int32)) (Zz : CZ) (h : fX6_part a1 a2 Z = some (rz, Zz)) : vx_Met l yX6_part wsX6_part rmX6_part (va_Pc [.ref (ad 0 0), .int a1, .int a2] (xP D G A ad Z)) (xQi D G A ad rz Zz) (xX D G A ad rz Zz) 2 12 A := by
  refine vx_ofW (cc := cX6_part) (maxL := 4) (ret := some .int) (by decide) rfl ?_
  intro p e s m args below meth c s₁ B hml hexc hv
  obtain ⟨rfl, ⟨hI, hN, hK⟩, hE⟩ := hv
  have hx := B.exec
  have hb := B.bytes
  have hr := B.returns
  have hts := atoms_spec (ws := wsX6_part) B.pre
  have hown : s.vm.findClass RX6 = some m.cls := findClass_of_methodNamed B.named
  have hlocks := B.notSynchronized
  have iwsX60 : ∀ w ∈ wsX60, w ∈ wsX6_part := fun w h => List.mem_cons_of_mem _ (List.mem_append_left _ (List.mem_append_left _ (List.mem_append_left _ (List.mem_append_left _ (List.mem_append_left _ (List.mem_append_left _ (List.mem_append_right _ h)))))))
  have iwsX20 : ∀ w ∈ wsX20, w ∈ wsX6_part := fun w h => List.mem_cons_of_mem _ (List.mem_append_left _ (List.mem_append_left _ (List.mem_append_left _ (List.mem_append_left _ (List.mem_append_left _ (List.mem_append_right _ h))))))
  have l0 := hts (.fieldLink RX6 32 "Panyard" "parts" "LPanyard$Parts;") (List.mem_of_getElem? (i := 1) rfl)
  have l1 := hts (.fieldLink RX6 225 "Panyard$Parts" "playing" "[I") (List.mem_of_getElem? (i := 2) rfl)
  have hS : va_S A s.heap s.heap [] := va_S.rf
  have hl := lv_entry ([.ref (ad 0 0), .int a1, .int a2]) (n := 4) (Nat.le_of_ble_eq_true rfl)
  rw [lg_entry_eq]
  generalize (lg_sl ([.ref (ad 0 0), .int a1, .int a2]) ++ List.replicate (4 - (lg_sl ([.ref (ad 0 0), .int a1, .int a2])).length) Slot.unset).toArray = ls at hl ⊢
  have hl : lv_has ls 4 [(0, .ref (ad 0 0)), (1, .int a1), (2, .int a2)] := hl
  have w37 : ∀ (t0 : Int32) (Z : CZ), fX6_part_37  t0 Z = some (rz, Zz) → cG p l e (headSpec wsX6_part rmX6_part).room s m (([.ref (ad 0 0), .int a1, .int a2] : List Value).toArray) below meth c (vx_MQ below (xQi D G A ad rz Zz) (xX D G A ad rz Zz) (([.ref (ad 0 0), .int a1, .int a2] : List Value).toArray) s 2 12 A) D G A ad 2 12 4 Z 37 [] [.int t0] := by
    intro  t0 Z h H locs ls hI hN hS hl
    unfold fX6_part_37 at h
    exact vx_ret (W.widen (k := 2) (n := 12) (by decide) (by decide) (W.iret hx hb hr (xg_endi h hI hK hN hS) hS.2.2 dX6_part_37))
  unfold fX6_part at h
  refine lv_aload_n hx hb dX6_part_0 rfl (lv_at hl 0 rfl) ?_
  refine lv_iload_n hx hb dX6_part_1 rfl (lv_at hl 1 rfl) ?_
  rcases cx1_ok h with ⟨q3, c1, h⟩ | ⟨x2, c1, h⟩
  · refine xg_callr (k := 10) (q := q3) (vx_runV (As := [.int a1]) (rest := []) ⟨hx, hb, hml, hown, hts⟩ (mX6_bandAt l hfl D G A ad Z a1 (.inl q3) c1) (cwV 1 hts gX6_part_X6_bandAt rfl rfl rfl (by decide +kernel) ⟨Nat.le_of_ble_eq_true rfl, Nat.le_of_ble_eq_true rfl⟩) (xg_preV hI hK hN hE hS rfl rfl (ci := 7) rfl) rfl rfl hl.1 rfl (lv_room (Nat.le_of_ble_eq_true rfl)) dX6_part_2 ⟨Nat.le_of_ble_eq_true rfl, Nat.le_of_ble_eq_true rfl⟩) hS (fun H locs hI hN hS => ?_)
    refine W.widen (k := 1) (n := 6) (by decide) (by decide) ?_
    refine lv_astore_n (lv' := [(3, .ref (ad 10 q3)), (0, .ref (ad 0 0)), (1, .int a1), (2, .int a2)]) hx hb dX6_part_5 rfl hl (by decide) rfl (fun ls hl => ?_)
    refine lv_aload_n hx hb dX6_part_6 rfl (lv_at hl 0 rfl) ?_
    refine lv_iload_n hx hb dX6_part_7 rfl (lv_at hl 3 rfl) ?_
    rcases cx1_ok h with ⟨v6, c4, h⟩ | ⟨x5, c4, h⟩
    · refine xg_callv (vx_runS (As := [.ref (ad 10 q3), .int a2]) (rest := []) ⟨hx, hb, hml, hown, hts⟩ (mX6_requirePhrase l hfl D G A ad Z q3 a2 (.inl ()) c4) (va_cwS 2 hts gX6_part_X6_requirePhrase rfl rfl rfl (by decide +kernel) ⟨Nat.le_of_ble_eq_true rfl, Nat.le_of_ble_eq_true rfl⟩) (xg_preS hI hK hN hE hS) rfl rfl hl.1 rfl (lv_room (Nat.le_of_ble_eq_true rfl)) dX6_part_8 ⟨Nat.le_of_ble_eq_true rfl, Nat.le_of_ble_eq_true rfl⟩) hS (fun H locs hI hN hS => ?_)
      refine W.widen (k := 2) (n := 12) (by decide) (by decide) ?_
      refine lv_aload_n hx hb dX6_part_11 rfl (lv_at hl 1 rfl) ?_
      refine cg_get (T := TX6) (N := 7) (ci := 7) hx hb hts iwsX60 hown hK hN rfl rfl rfl 4 (by decide) l0 rfl (v := .ref (ad 2 0)) rfl dX6_part_12 ?_
      refine lv_aload_n hx hb dX6_part_15 rfl (lv_at hl 0 rfl) ?_
      refine lv_iconst (v := (-1 : Int32)) hx hb dX6_part_16 (by decide) ?_
      obtain ⟨v7, Z8, c9, h⟩ := cl2_ok h
      refine cg_calli (va_runV (As := [.ref (ad 10 q3), .int (-1 : Int32)]) (rest := []) ⟨hx, hb, hml, hown, hts⟩ (mX2_findBest l D G A ad Z q3 (-1 : Int32) v7 Z8 c9) (cwV 2 hts gX6_part_X2_findBest rfl rfl rfl (by decide +kernel) ⟨Nat.le_of_ble_eq_true rfl, Nat.le_of_ble_eq_true rfl⟩) (cg_preV hI hK hN rfl rfl (ci := 3) rfl) rfl rfl hl.1 rfl (lv_room (Nat.le_of_ble_eq_true rfl)) dX6_part_17 ⟨Nat.le_of_ble_eq_true rfl, Nat.le_of_ble_eq_true rfl⟩) hS (fun H locs hI hN hS => ?_)
      refine lv_iconst (v := (-1 : Int32)) hx hb dX6_part_20 (by decide) ?_
      refine lv_icmp_ne (tgt := 28) hx hb dX6_part_21 (by decide) (fun hc => ?_) (fun hc => ?_)
      · have h := ite_f h hc
        refine lv_aload_n hx hb dX6_part_28 rfl (lv_at hl 1 rfl) ?_
        refine cg_get (T := TX6) (N := 7) (ci := 7) hx hb hts iwsX60 hown hK hN rfl rfl rfl 4 (by decide) l0 rfl (v := .ref (ad 2 0)) rfl dX6_part_29 ?_
        refine cg_get (T := TX2) (N := 2) (ci := 3) hx hb hts iwsX20 hown hK hN rfl rfl rfl 0 (by decide) l1 rfl (v := .ref (ad 16 0)) rfl dX6_part_32 ?_
        refine lv_iload_n hx hb dX6_part_35 rfl (lv_at hl 3 rfl) ?_
        obtain ⟨g10, h⟩ := gd_ok h
        refine cg_ild hx hb hK hN rfl rfl (gin_ok g10) dX6_part_36 ?_
        exact w37  (Z8.1 16 0 (Int32.toNatClampNeg a2)) Z8 h _ _ _ hI hN hS (lv_sub hl [] rfl)
      · have h := ite_t h hc
        refine lv_iconst (v := (-1 : Int32)) hx hb dX6_part_24 (by decide) ?_
        refine lv_goto (tgt := 37) hx hb dX6_part_25 (by decide) ?_
        exact w37  (-1 : Int32) Z8 h _ _ _ hI hN hS (lv_sub hl [] rfl)
    · exact xg_thrv (vx_runS (As := [.ref (ad 10 q3), .int a2]) (rest := []) ⟨hx, hb, hml, hown, hts⟩ (mX6_requirePhrase l hfl D G A ad Z q3 a2 (.inr x5) c4) (va_cwS 2 hts gX6_part_X6_requirePhrase rfl rfl rfl (by decide +kernel) ⟨Nat.le_of_ble_eq_true rfl, Nat.le_of_ble_eq_true rfl⟩) (xg_preS hI hK hN hE hS) rfl rfl hl.1 rfl (lv_room (Nat.le_of_ble_eq_true rfl)) dX6_part_8 ⟨Nat.le_of_ble_eq_true rfl, Nat.le_of_ble_eq_true rfl⟩) (congrArg Prod.fst (Option.some.inj h)).symm (congrArg Prod.snd (Option.some.inj h)).symm hexc hlocks hS (by decide) (by decide)
  · exact xg_thrr (k := 10) (vx_runV (As := [.int a1]) (rest := []) ⟨hx, hb, hml, hown, hts⟩ (mX6_bandAt l hfl D G A ad Z a1 (.inr x2) c1) (cwV 1 hts gX6_part_X6_bandAt rfl rfl rfl (by decide +kernel) ⟨Nat.le_of_ble_eq_true rfl, Nat.le_of_ble_eq_true rfl⟩) (xg_preV hI hK hN hE hS rfl rfl (ci := 7) rfl) rfl rfl hl.1 rfl (lv_room (Nat.le_of_ble_eq_true rfl)) dX6_part_2 ⟨Nat.le_of_ble_eq_true rfl, Nat.le_of_ble_eq_true rfl⟩) (congrArg Prod.fst (Option.some.inj h)).symm (congrArg Prod.snd (Option.some.inj h)).symm hexc hlocks hS (by decide) (by decide)
def fX6_without (a1 : Int32) (a2 : Int32) (Z : CZ) : Option ((Int32 ⊕ Int32) × CZ) := cx1 (fX6_bandAt a1 Z) (fun x2 => some (.inr x2, Z)) (fun q3 => gd (cLv Z.2.2 10 q3) (gd (cLv Z.2.2 3 (q3 + 4)) (cl1 (fJx4a65c_size_8abf5 (q3 + 4) Z) (fun v6 => cx1 (fX6_requireIndex a2 v6 Z) (fun x9 => some (.inr x9, Z)) (fun _ => cl2 (fX2_findBest q3 a2 Z) (fun v11 Z12 => some (.inl v11, Z12)))))))
def rmX6_without : Room := { frames := 8, cells := 2, slots := 12, locals := 180 }
set_option maxHeartbeats 4000000 in
set_option maxRecDepth 100000 in
theorem mX6_without (l : Launch) (hfl : l.stackTraces = false) (D : va_G) (G : CGT) (A : Nat → Prop) (ad : Nat → Nat → Nat) (Z : CZ) (a1 : Int32) (a2 : Int32) (rz : (Int32 ⊕ Int32)) (Zz : CZ) (h : fX6_without a1 a2 Z = some (rz, Zz)) : vx_Met l yX6_without wsX6_without rmX6_without (va_Pc [.ref (ad 0 0), .int a1, .int a2] (xP D G A ad Z)) (xQi D G A ad rz Zz) (xX D G A ad rz Zz) 2 12 A := by
  refine vx_ofW (cc := cX6_without) (maxL := 4) (ret := some .int) (by decide) rfl ?_
  intro p e s m args below meth c s₁ B hml hexc hv
  obtain ⟨rfl, ⟨hI, hN, hK⟩, hE⟩ := hv
  have hx := B.exec
  have hb := B.bytes
  have hr := B.returns
  have hts := atoms_spec (ws := wsX6_without) B.pre
  have hown : s.vm.findClass RX6 = some m.cls := findClass_of_methodNamed B.named
  have hlocks := B.notSynchronized
  have iwsX00 : ∀ w ∈ wsX00, w ∈ wsX6_without := fun w h => List.mem_cons_of_mem _ (List.mem_append_left _ (List.mem_append_left _ (List.mem_append_left _ (List.mem_append_left _ (List.mem_append_left _ (List.mem_append_left _ (List.mem_append_right _ h)))))))
  have iwsX60 : ∀ w ∈ wsX60, w ∈ wsX6_without := fun w h => List.mem_cons_of_mem _ (List.mem_append_left _ (List.mem_append_left _ (List.mem_append_left _ (List.mem_append_left _ (List.mem_append_left _ (List.mem_append_right _ h))))))
  have l0 := hts (.fieldLink RX6 129 "Panyard$Band" "seats" "Ljava/util/ArrayList;") (List.mem_of_getElem? (i := 1) rfl)
  have l1 := hts (.fieldLink RX6 32 "Panyard" "parts" "LPanyard$Parts;") (List.mem_of_getElem? (i := 2) rfl)
  have hS : va_S A s.heap s.heap [] := va_S.rf
  have hl := lv_entry ([.ref (ad 0 0), .int a1, .int a2]) (n := 4) (Nat.le_of_ble_eq_true rfl)
  rw [lg_entry_eq]
  generalize (lg_sl ([.ref (ad 0 0), .int a1, .int a2]) ++ List.replicate (4 - (lg_sl ([.ref (ad 0 0), .int a1, .int a2])).length) Slot.unset).toArray = ls at hl ⊢
  have hl : lv_has ls 4 [(0, .ref (ad 0 0)), (1, .int a1), (2, .int a2)] := hl
  unfold fX6_without at h
  refine lv_aload_n hx hb dX6_without_0 rfl (lv_at hl 0 rfl) ?_
  refine lv_iload_n hx hb dX6_without_1 rfl (lv_at hl 1 rfl) ?_
  rcases cx1_ok h with ⟨q3, c1, h⟩ | ⟨x2, c1, h⟩
  · refine xg_callr (k := 10) (q := q3) (vx_runV (As := [.int a1]) (rest := []) ⟨hx, hb, hml, hown, hts⟩ (mX6_bandAt l hfl D G A ad Z a1 (.inl q3) c1) (cwV 1 hts gX6_without_X6_bandAt rfl rfl rfl (by decide +kernel) ⟨Nat.le_of_ble_eq_true rfl, Nat.le_of_ble_eq_true rfl⟩) (xg_preV hI hK hN hE hS rfl rfl (ci := 7) rfl) rfl rfl hl.1 rfl (lv_room (Nat.le_of_ble_eq_true rfl)) dX6_without_2 ⟨Nat.le_of_ble_eq_true rfl, Nat.le_of_ble_eq_true rfl⟩) hS (fun H locs hI hN hS => ?_)
    refine W.widen (k := 1) (n := 6) (by decide) (by decide) ?_
    refine lv_astore_n (lv' := [(3, .ref (ad 10 q3)), (0, .ref (ad 0 0)), (1, .int a1), (2, .int a2)]) hx hb dX6_without_5 rfl hl (by decide) rfl (fun ls hl => ?_)
    refine lv_iload_n hx hb dX6_without_6 rfl (lv_at hl 3 rfl) ?_
    refine lv_aload_n hx hb dX6_without_7 rfl (lv_at hl 0 rfl) ?_
    obtain ⟨g4, h⟩ := gd_ok h
    refine cg_get (T := TX0) (N := 7) (ci := 1) hx hb hts iwsX00 hown hK hN g4 rfl rfl 0 (by decide) l0 rfl (v := .ref (ad 3 (q3 + 4))) rfl dX6_without_8 ?_
    obtain ⟨g5, h⟩ := gd_ok h
    obtain ⟨v6, c7, h⟩ := cl1_ok h
    refine cg_calli (va_runV (As := []) (rest := [.int a2]) ⟨hx, hb, hml, hown, hts⟩ (mJx4a65c_size_8abf5 l D G A ad Z (q3 + 4) v6 c7) (cwV 0 hts gX6_without_Jx4a65c_size_8abf5 rfl rfl rfl (by decide +kernel) ⟨Nat.le_of_ble_eq_true rfl, Nat.le_of_ble_eq_true rfl⟩) (cg_preV hI hK hN g5 rfl (ci := 0) rfl) rfl rfl hl.1 rfl (lv_room (Nat.le_of_ble_eq_true rfl)) dX6_without_11 ⟨Nat.le_of_ble_eq_true rfl, Nat.le_of_ble_eq_true rfl⟩) hS (fun H locs hI hN hS => ?_)
    rcases cx1_ok h with ⟨v10, c8, h⟩ | ⟨x9, c8, h⟩
    · refine xg_callv (vx_runS (As := [.int a2, .int v6]) (rest := []) ⟨hx, hb, hml, hown, hts⟩ (mX6_requireIndex l hfl D G A ad Z a2 v6 (.inl ()) c8) (va_cwS 2 hts gX6_without_X6_requireIndex rfl rfl rfl (by decide +kernel) ⟨Nat.le_of_ble_eq_true rfl, Nat.le_of_ble_eq_true rfl⟩) (xg_preS hI hK hN hE hS) rfl rfl hl.1 rfl (lv_room (Nat.le_of_ble_eq_true rfl)) dX6_without_14 ⟨Nat.le_of_ble_eq_true rfl, Nat.le_of_ble_eq_true rfl⟩) hS (fun H locs hI hN hS => ?_)
      refine W.widen (k := 2) (n := 12) (by decide) (by decide) ?_
      refine lv_aload_n hx hb dX6_without_17 rfl (lv_at hl 1 rfl) ?_
      refine cg_get (T := TX6) (N := 7) (ci := 7) hx hb hts iwsX60 hown hK hN rfl rfl rfl 4 (by decide) l1 rfl (v := .ref (ad 2 0)) rfl dX6_without_18 ?_
      refine lv_aload_n hx hb dX6_without_21 rfl (lv_at hl 0 rfl) ?_
      refine lv_iload_n hx hb dX6_without_22 rfl (lv_at hl 3 rfl) ?_
      obtain ⟨v11, Z12, c13, h⟩ := cl2_ok h
      refine cg_calli (va_runV (As := [.ref (ad 10 q3), .int a2]) (rest := []) ⟨hx, hb, hml, hown, hts⟩ (mX2_findBest l D G A ad Z q3 a2 v11 Z12 c13) (cwV 2 hts gX6_without_X2_findBest rfl rfl rfl (by decide +kernel) ⟨Nat.le_of_ble_eq_true rfl, Nat.le_of_ble_eq_true rfl⟩) (cg_preV hI hK hN rfl rfl (ci := 3) rfl) rfl rfl hl.1 rfl (lv_room (Nat.le_of_ble_eq_true rfl)) dX6_without_23 ⟨Nat.le_of_ble_eq_true rfl, Nat.le_of_ble_eq_true rfl⟩) hS (fun H locs hI hN hS => ?_)
      exact vx_ret (W.widen (k := 2) (n := 12) (by decide) (by decide) (W.iret hx hb hr (xg_endi h hI hK hN hS) hS.2.2 dX6_without_26))
    · exact xg_thrv (vx_runS (As := [.int a2, .int v6]) (rest := []) ⟨hx, hb, hml, hown, hts⟩ (mX6_requireIndex l hfl D G A ad Z a2 v6 (.inr x9) c8) (va_cwS 2 hts gX6_without_X6_requireIndex rfl rfl rfl (by decide +kernel) ⟨Nat.le_of_ble_eq_true rfl, Nat.le_of_ble_eq_true rfl⟩) (xg_preS hI hK hN hE hS) rfl rfl hl.1 rfl (lv_room (Nat.le_of_ble_eq_true rfl)) dX6_without_14 ⟨Nat.le_of_ble_eq_true rfl, Nat.le_of_ble_eq_true rfl⟩) (congrArg Prod.fst (Option.some.inj h)).symm (congrArg Prod.snd (Option.some.inj h)).symm hexc hlocks hS (by decide) (by decide)
  · exact xg_thrr (k := 10) (vx_runV (As := [.int a1]) (rest := []) ⟨hx, hb, hml, hown, hts⟩ (mX6_bandAt l hfl D G A ad Z a1 (.inr x2) c1) (cwV 1 hts gX6_without_X6_bandAt rfl rfl rfl (by decide +kernel) ⟨Nat.le_of_ble_eq_true rfl, Nat.le_of_ble_eq_true rfl⟩) (xg_preV hI hK hN hE hS rfl rfl (ci := 7) rfl) rfl rfl hl.1 rfl (lv_room (Nat.le_of_ble_eq_true rfl)) dX6_without_2 ⟨Nat.le_of_ble_eq_true rfl, Nat.le_of_ble_eq_true rfl⟩) (congrArg Prod.fst (Option.some.inj h)).symm (congrArg Prod.snd (Option.some.inj h)).symm hexc hlocks hS (by decide) (by decide)
def fX6_perform_51 (x2 : Int32) (x3 : Nat) (x4 : Int32) (t0 : Int32) (Z : CZ) : Option ((Int32 ⊕ Int32) × CZ) := cx1 (fX6_requireState t0 Z) (fun x15 => some (.inr x15, Z)) (fun _ => cl1 (fX2_countUntuned x3 (Z.1 0 0 5) Z) (fun v17 => gd (cLv Z.2.2 10 x3) (bnd (cuI Z 10 x3 (upd (Z.1 10 x3) 5 (x4 + ((10 : Int32) * v17)))) (fun Z20 => bnd (cuI Z20 10 x3 (upd (Z20.1 10 x3) 6 ((2 : Int32) * (if (0 : Int32) < (x2 - (10 : Int32)) then (x2 - (10 : Int32)) else (0 : Int32))))) (fun Z21 => some (.inl (Z21.1 10 x3 5), Z21))))))
def fX6_perform_26 (x2 : Int32) (x3 : Nat) (t0 : Int32) (Z : CZ) : Option ((Int32 ⊕ Int32) × CZ) := cx1 (fX6_requireState t0 Z) (fun x9 => some (.inr x9, Z)) (fun _ => cl2 (fX2_findBest x3 (-1 : Int32) Z) (fun v11 Z12 => (if v11 = (-1 : Int32) then fX6_perform_51 x2 x3 v11 (0 : Int32) Z12 else fX6_perform_51 x2 x3 v11 (1 : Int32) Z12)))
def fX6_perform (a1 : Int32) (a2 : Int32) (Z : CZ) : Option ((Int32 ⊕ Int32) × CZ) := cx1 (fX6_bandAt a1 Z) (fun x2 => some (.inr x2, Z)) (fun q3 => cx1 (fX6_requireRange a2 (1 : Int32) (30 : Int32) Z) (fun x5 => some (.inr x5, Z)) (fun _ => gd (cLv Z.2.2 10 q3) ((if (Z.1 10 q3 5) = (-1 : Int32) then fX6_perform_26 a2 q3 (1 : Int32) Z else fX6_perform_26 a2 q3 (0 : Int32) Z))))
def rmX6_perform : Room := { frames := 8, cells := 4, slots := 24, locals := 180 }
set_option maxHeartbeats 4000000 in
set_option maxRecDepth 100000 in
theorem mX6_perform (l : Launch) (hfl : l.stackTraces = false) (D : va_G) (G : CGT) (A : Nat → Prop) (ad : Nat → Nat → Nat) (Z : CZ) (a1 : Int32) (a2 : Int32) (rz : (Int32 ⊕ Int32)) (Zz : CZ) (h : fX6_perform a1 a2 Z = some (rz, Zz)) : vx_Met l yX6_perform wsX6_perform rmX6_perform (va_Pc [.ref (ad 0 0), .int a1, .int a2] (xP D G A ad Z)) (xQi D G A ad rz Zz) (xX D G A ad rz Zz) 4 24 A := by
  refine vx_ofW (cc := cX6_perform) (maxL := 5) (ret := some .int) (by decide) rfl ?_
  intro p e s m args below meth c s₁ B hml hexc hv
  obtain ⟨rfl, ⟨hI, hN, hK⟩, hE⟩ := hv
  have hx := B.exec
  have hb := B.bytes
  have hr := B.returns
  have hts := atoms_spec (ws := wsX6_perform) B.pre
  have hown : s.vm.findClass RX6 = some m.cls := findClass_of_methodNamed B.named
  have hlocks := B.notSynchronized
  have iwsX00 : ∀ w ∈ wsX00, w ∈ wsX6_perform := fun w h => List.mem_cons_of_mem _ (List.mem_append_left _ (List.mem_append_left _ (List.mem_append_left _ (List.mem_append_left _ (List.mem_append_left _ (List.mem_append_left _ (List.mem_append_left _ (List.mem_append_left _ (List.mem_append_left _ (List.mem_append_right _ h))))))))))
  have iwsX60 : ∀ w ∈ wsX60, w ∈ wsX6_perform := fun w h => List.mem_cons_of_mem _ (List.mem_append_left _ (List.mem_append_left _ (List.mem_append_left _ (List.mem_append_left _ (List.mem_append_left _ (List.mem_append_left _ (List.mem_append_left _ (List.mem_append_left _ (List.mem_append_right _ h)))))))))
  have l0 := hts (.fieldLink RX6 218 "Panyard$Band" "heard" "I") (List.mem_of_getElem? (i := 1) rfl)
  have l1 := hts (.fieldLink RX6 32 "Panyard" "parts" "LPanyard$Parts;") (List.mem_of_getElem? (i := 2) rfl)
  have l2 := hts (.fieldLink RX6 84 "Panyard" "degreesNow" "I") (List.mem_of_getElem? (i := 3) rfl)
  have l3 := hts (.methodLink RX6 231 Lib.Math.max.name) (List.mem_of_getElem? (i := 4) rfl)
  have l4 := hts (.static Lib.Math.max.name) (List.mem_of_getElem? (i := 5) rfl)
  have l5 := hts (.initialized "java/lang/Math") (List.mem_of_getElem? (i := 6) rfl)
  have l6 := hts (.code Lib.Math.max.name Lib.Math.max.code 2 (some .int)) (List.mem_of_getElem? (i := 7) rfl)
  have l7 := hts (.fieldLink RX6 237 "Panyard$Band" "over" "I") (List.mem_of_getElem? (i := 8) rfl)
  have hS : va_S A s.heap s.heap [] := va_S.rf
  have hl := lv_entry ([.ref (ad 0 0), .int a1, .int a2]) (n := 5) (Nat.le_of_ble_eq_true rfl)
  rw [lg_entry_eq]
  generalize (lg_sl ([.ref (ad 0 0), .int a1, .int a2]) ++ List.replicate (5 - (lg_sl ([.ref (ad 0 0), .int a1, .int a2])).length) Slot.unset).toArray = ls at hl ⊢
  have hl : lv_has ls 5 [(0, .ref (ad 0 0)), (1, .int a1), (2, .int a2)] := hl
  have w51 : ∀ (x2 : Int32) (x3 : Nat) (x4 : Int32) (t0 : Int32) (Z : CZ), fX6_perform_51  x2 x3 x4 t0 Z = some (rz, Zz) → cG p l e (headSpec wsX6_perform rmX6_perform).room s m (([.ref (ad 0 0), .int a1, .int a2] : List Value).toArray) below meth c (vx_MQ below (xQi D G A ad rz Zz) (xX D G A ad rz Zz) (([.ref (ad 0 0), .int a1, .int a2] : List Value).toArray) s 4 24 A) D G A ad 3 18 5 Z 51 [(0, .ref (ad 0 0)), (2, .int x2), (3, .ref (ad 10 x3)), (4, .int x4)] [.int t0] := by
    intro  x2 x3 x4 t0 Z h H locs ls hI hN hS hl
    unfold fX6_perform_51 at h
    rcases cx1_ok h with ⟨v16, c14, h⟩ | ⟨x15, c14, h⟩
    · refine xg_callv (vx_runS (As := [.int t0]) (rest := []) ⟨hx, hb, hml, hown, hts⟩ (mX6_requireState l hfl D G A ad Z t0 (.inl ()) c14) (va_cwS 1 hts gX6_perform_X6_requireState rfl rfl rfl (by decide +kernel) ⟨Nat.le_of_ble_eq_true rfl, Nat.le_of_ble_eq_true rfl⟩) (xg_preS hI hK hN hE hS) rfl rfl hl.1 rfl (lv_room (Nat.le_of_ble_eq_true rfl)) dX6_perform_51 ⟨Nat.le_of_ble_eq_true rfl, Nat.le_of_ble_eq_true rfl⟩) hS (fun H locs hI hN hS => ?_)
      refine W.widen (k := 4) (n := 24) (by decide) (by decide) ?_
      refine lv_aload_n hx hb dX6_perform_54 rfl (lv_at hl 2 rfl) ?_
      refine lv_iload hx hb dX6_perform_55 (lv_at hl 3 rfl) ?_
      refine lv_bipush (v := (10 : Int32)) hx hb dX6_perform_57 (by decide) ?_
      refine lv_aload_n hx hb dX6_perform_59 rfl (lv_at hl 0 rfl) ?_
      refine cg_get (T := TX6) (N := 7) (ci := 7) hx hb hts iwsX60 hown hK hN rfl rfl rfl 4 (by decide) l1 rfl (v := .ref (ad 2 0)) rfl dX6_perform_60 ?_
      refine lv_aload_n hx hb dX6_perform_63 rfl (lv_at hl 2 rfl) ?_
      refine lv_aload_n hx hb dX6_perform_64 rfl (lv_at hl 0 rfl) ?_
      refine cg_get (T := TX6) (N := 7) (ci := 7) hx hb hts iwsX60 hown hK hN rfl rfl rfl 5 (by decide) l2 rfl (v := .int (Z.1 0 0 5)) rfl dX6_perform_65 ?_
      obtain ⟨v17, c18, h⟩ := cl1_ok h
      refine cg_calli (va_runV (As := [.ref (ad 10 x3), .int (Z.1 0 0 5)]) (rest := [.int (10 : Int32), .int x4, .ref (ad 10 x3)]) ⟨hx, hb, hml, hown, hts⟩ (mX2_countUntuned l D G A ad Z x3 (Z.1 0 0 5) v17 c18) (cwV 2 hts gX6_perform_X2_countUntuned rfl rfl rfl (by decide +kernel) ⟨Nat.le_of_ble_eq_true rfl, Nat.le_of_ble_eq_true rfl⟩) (cg_preV hI hK hN rfl rfl (ci := 3) rfl) rfl rfl hl.1 rfl (lv_room (Nat.le_of_ble_eq_true rfl)) dX6_perform_68 ⟨Nat.le_of_ble_eq_true rfl, Nat.le_of_ble_eq_true rfl⟩) hS (fun H locs hI hN hS => ?_)
      refine lv_imul hx hb dX6_perform_71 ?_
      refine lv_iadd hx hb dX6_perform_72 ?_
      obtain ⟨g19, h⟩ := gd_ok h
      obtain ⟨Z20, eZ20⟩ : ∃ y : CZ, y = (cuI Z 10 x3 (upd (Z.1 10 x3) 5 (x4 + ((10 : Int32) * v17)))) := ⟨_, rfl⟩
      have h := bnd_ok h eZ20
      refine cg_put (ty := .int) (T := TX0) (N := 7) (ci := 1) hx hb hts iwsX00 tyX0_ok nmX0 hown hI hK hN hS g19 rfl rfl 5 (by decide) (Nat.le_of_ble_eq_true rfl) l0 rfl rfl (by decide +kernel) rfl rfl rfl dX6_perform_73 eZ20 (fun H locs hI hN hS => ?_)
      refine lv_aload_n hx hb dX6_perform_76 rfl (lv_at hl 2 rfl) ?_
      refine lv_iconst (v := (2 : Int32)) hx hb dX6_perform_77 (by decide) ?_
      refine lv_iconst (v := (0 : Int32)) hx hb dX6_perform_78 (by decide) ?_
      refine lv_iload_n hx hb dX6_perform_79 rfl (lv_at hl 1 rfl) ?_
      refine lv_bipush (v := (10 : Int32)) hx hb dX6_perform_80 (by decide) ?_
      refine lv_isub hx hb dX6_perform_82 ?_
      refine va_mmax hx hb (hml.trans hl.1.symm) hown l3 l4 l5 l6 (by decide) (Nat.le_of_ble_eq_true rfl) (Nat.le_of_ble_eq_true rfl) (Nat.le_of_ble_eq_true rfl) dX6_perform_83 ?_
      refine lv_imul hx hb dX6_perform_86 ?_
      obtain ⟨Z21, eZ21⟩ : ∃ y : CZ, y = (cuI Z20 10 x3 (upd (Z20.1 10 x3) 6 ((2 : Int32) * (if (0 : Int32) < (x2 - (10 : Int32)) then (x2 - (10 : Int32)) else (0 : Int32))))) := ⟨_, rfl⟩
      have h := bnd_ok h eZ21
      refine cg_put (ty := .int) (T := TX0) (N := 7) (ci := 1) hx hb hts iwsX00 tyX0_ok nmX0 hown hI hK hN hS (by rw [eZ20]; exact g19) rfl rfl 6 (by decide) (Nat.le_of_ble_eq_true rfl) l7 rfl rfl (by decide +kernel) rfl rfl rfl dX6_perform_87 eZ21 (fun H locs hI hN hS => ?_)
      refine lv_aload_n hx hb dX6_perform_90 rfl (lv_at hl 2 rfl) ?_
      refine cg_get (T := TX0) (N := 7) (ci := 1) hx hb hts iwsX00 hown hK hN (by rw [eZ21]; exact (by rw [eZ20]; exact g19)) rfl rfl 5 (by decide) l0 rfl (v := .int (Z21.1 10 x3 5)) rfl dX6_perform_91 ?_
      exact vx_ret (W.widen (k := 4) (n := 24) (by decide) (by decide) (W.iret hx hb hr (xg_endi h hI hK hN hS) hS.2.2 dX6_perform_94))
    · exact xg_thrv (vx_runS (As := [.int t0]) (rest := []) ⟨hx, hb, hml, hown, hts⟩ (mX6_requireState l hfl D G A ad Z t0 (.inr x15) c14) (va_cwS 1 hts gX6_perform_X6_requireState rfl rfl rfl (by decide +kernel) ⟨Nat.le_of_ble_eq_true rfl, Nat.le_of_ble_eq_true rfl⟩) (xg_preS hI hK hN hE hS) rfl rfl hl.1 rfl (lv_room (Nat.le_of_ble_eq_true rfl)) dX6_perform_51 ⟨Nat.le_of_ble_eq_true rfl, Nat.le_of_ble_eq_true rfl⟩) (congrArg Prod.fst (Option.some.inj h)).symm (congrArg Prod.snd (Option.some.inj h)).symm hexc hlocks hS (by decide) (by decide)
  have w26 : ∀ (x2 : Int32) (x3 : Nat) (t0 : Int32) (Z : CZ), fX6_perform_26  x2 x3 t0 Z = some (rz, Zz) → cG p l e (headSpec wsX6_perform rmX6_perform).room s m (([.ref (ad 0 0), .int a1, .int a2] : List Value).toArray) below meth c (vx_MQ below (xQi D G A ad rz Zz) (xX D G A ad rz Zz) (([.ref (ad 0 0), .int a1, .int a2] : List Value).toArray) s 4 24 A) D G A ad 2 12 5 Z 26 [(0, .ref (ad 0 0)), (2, .int x2), (3, .ref (ad 10 x3))] [.int t0] := by
    intro  x2 x3 t0 Z h H locs ls hI hN hS hl
    unfold fX6_perform_26 at h
    rcases cx1_ok h with ⟨v10, c8, h⟩ | ⟨x9, c8, h⟩
    · refine xg_callv (vx_runS (As := [.int t0]) (rest := []) ⟨hx, hb, hml, hown, hts⟩ (mX6_requireState l hfl D G A ad Z t0 (.inl ()) c8) (va_cwS 1 hts gX6_perform_X6_requireState rfl rfl rfl (by decide +kernel) ⟨Nat.le_of_ble_eq_true rfl, Nat.le_of_ble_eq_true rfl⟩) (xg_preS hI hK hN hE hS) rfl rfl hl.1 rfl (lv_room (Nat.le_of_ble_eq_true rfl)) dX6_perform_26 ⟨Nat.le_of_ble_eq_true rfl, Nat.le_of_ble_eq_true rfl⟩) hS (fun H locs hI hN hS => ?_)
      refine W.widen (k := 3) (n := 18) (by decide) (by decide) ?_
      refine lv_aload_n hx hb dX6_perform_29 rfl (lv_at hl 0 rfl) ?_
      refine cg_get (T := TX6) (N := 7) (ci := 7) hx hb hts iwsX60 hown hK hN rfl rfl rfl 4 (by decide) l1 rfl (v := .ref (ad 2 0)) rfl dX6_perform_30 ?_
      refine lv_aload_n hx hb dX6_perform_33 rfl (lv_at hl 2 rfl) ?_
      refine lv_iconst (v := (-1 : Int32)) hx hb dX6_perform_34 (by decide) ?_
      obtain ⟨v11, Z12, c13, h⟩ := cl2_ok h
      refine cg_calli (va_runV (As := [.ref (ad 10 x3), .int (-1 : Int32)]) (rest := []) ⟨hx, hb, hml, hown, hts⟩ (mX2_findBest l D G A ad Z x3 (-1 : Int32) v11 Z12 c13) (cwV 2 hts gX6_perform_X2_findBest rfl rfl rfl (by decide +kernel) ⟨Nat.le_of_ble_eq_true rfl, Nat.le_of_ble_eq_true rfl⟩) (cg_preV hI hK hN rfl rfl (ci := 3) rfl) rfl rfl hl.1 rfl (lv_room (Nat.le_of_ble_eq_true rfl)) dX6_perform_35 ⟨Nat.le_of_ble_eq_true rfl, Nat.le_of_ble_eq_true rfl⟩) hS (fun H locs hI hN hS => ?_)
      refine lv_istore (lv' := [(4, .int v11), (0, .ref (ad 0 0)), (2, .int x2), (3, .ref (ad 10 x3))]) hx hb dX6_perform_38 hl (by decide) rfl (fun ls hl => ?_)
      refine lv_iload hx hb dX6_perform_40 (lv_at hl 0 rfl) ?_
      refine lv_iconst (v := (-1 : Int32)) hx hb dX6_perform_42 (by decide) ?_
      refine lv_icmp_eq (tgt := 50) hx hb dX6_perform_43 (by decide) (fun hc => ?_) (fun hc => ?_)
      · have h := ite_t h hc
        refine lv_iconst (v := (0 : Int32)) hx hb dX6_perform_50 (by decide) ?_
        exact w51  x2 x3 v11 (0 : Int32) Z12 h _ _ _ hI hN hS (lv_sub hl [1, 2, 3, 0] rfl)
      · have h := ite_f h hc
        refine lv_iconst (v := (1 : Int32)) hx hb dX6_perform_46 (by decide) ?_
        refine lv_goto (tgt := 51) hx hb dX6_perform_47 (by decide) ?_
        exact w51  x2 x3 v11 (1 : Int32) Z12 h _ _ _ hI hN hS (lv_sub hl [1, 2, 3, 0] rfl)
    · exact xg_thrv (vx_runS (As := [.int t0]) (rest := []) ⟨hx, hb, hml, hown, hts⟩ (mX6_requireState l hfl D G A ad Z t0 (.inr x9) c8) (va_cwS 1 hts gX6_perform_X6_requireState rfl rfl rfl (by decide +kernel) ⟨Nat.le_of_ble_eq_true rfl, Nat.le_of_ble_eq_true rfl⟩) (xg_preS hI hK hN hE hS) rfl rfl hl.1 rfl (lv_room (Nat.le_of_ble_eq_true rfl)) dX6_perform_26 ⟨Nat.le_of_ble_eq_true rfl, Nat.le_of_ble_eq_true rfl⟩) (congrArg Prod.fst (Option.some.inj h)).symm (congrArg Prod.snd (Option.some.inj h)).symm hexc hlocks hS (by decide) (by decide)
  unfold fX6_perform at h
  refine lv_aload_n hx hb dX6_perform_0 rfl (lv_at hl 0 rfl) ?_
  refine lv_iload_n hx hb dX6_perform_1 rfl (lv_at hl 1 rfl) ?_
  rcases cx1_ok h with ⟨q3, c1, h⟩ | ⟨x2, c1, h⟩
  · refine xg_callr (k := 10) (q := q3) (vx_runV (As := [.int a1]) (rest := []) ⟨hx, hb, hml, hown, hts⟩ (mX6_bandAt l hfl D G A ad Z a1 (.inl q3) c1) (cwV 1 hts gX6_perform_X6_bandAt rfl rfl rfl (by decide +kernel) ⟨Nat.le_of_ble_eq_true rfl, Nat.le_of_ble_eq_true rfl⟩) (xg_preV hI hK hN hE hS rfl rfl (ci := 7) rfl) rfl rfl hl.1 rfl (lv_room (Nat.le_of_ble_eq_true rfl)) dX6_perform_2 ⟨Nat.le_of_ble_eq_true rfl, Nat.le_of_ble_eq_true rfl⟩) hS (fun H locs hI hN hS => ?_)
    refine W.widen (k := 1) (n := 6) (by decide) (by decide) ?_
    refine lv_astore_n (lv' := [(3, .ref (ad 10 q3)), (0, .ref (ad 0 0)), (1, .int a1), (2, .int a2)]) hx hb dX6_perform_5 rfl hl (by decide) rfl (fun ls hl => ?_)
    refine lv_iload_n hx hb dX6_perform_6 rfl (lv_at hl 3 rfl) ?_
    refine lv_iconst (v := (1 : Int32)) hx hb dX6_perform_7 (by decide) ?_
    refine lv_bipush (v := (30 : Int32)) hx hb dX6_perform_8 (by decide) ?_
    rcases cx1_ok h with ⟨v6, c4, h⟩ | ⟨x5, c4, h⟩
    · refine xg_callv (vx_runS (As := [.int a2, .int (1 : Int32), .int (30 : Int32)]) (rest := []) ⟨hx, hb, hml, hown, hts⟩ (mX6_requireRange l hfl D G A ad Z a2 (1 : Int32) (30 : Int32) (.inl ()) c4) (va_cwS 3 hts gX6_perform_X6_requireRange rfl rfl rfl (by decide +kernel) ⟨Nat.le_of_ble_eq_true rfl, Nat.le_of_ble_eq_true rfl⟩) (xg_preS hI hK hN hE hS) rfl rfl hl.1 rfl (lv_room (Nat.le_of_ble_eq_true rfl)) dX6_perform_10 ⟨Nat.le_of_ble_eq_true rfl, Nat.le_of_ble_eq_true rfl⟩) hS (fun H locs hI hN hS => ?_)
      refine W.widen (k := 2) (n := 12) (by decide) (by decide) ?_
      refine lv_aload_n hx hb dX6_perform_13 rfl (lv_at hl 0 rfl) ?_
      obtain ⟨g7, h⟩ := gd_ok h
      refine cg_get (T := TX0) (N := 7) (ci := 1) hx hb hts iwsX00 hown hK hN g7 rfl rfl 5 (by decide) l0 rfl (v := .int (Z.1 10 q3 5)) rfl dX6_perform_14 ?_
      refine lv_iconst (v := (-1 : Int32)) hx hb dX6_perform_17 (by decide) ?_
      refine lv_icmp_ne (tgt := 25) hx hb dX6_perform_18 (by decide) (fun hc => ?_) (fun hc => ?_)
      · have h := ite_f h hc
        refine lv_iconst (v := (0 : Int32)) hx hb dX6_perform_25 (by decide) ?_
        exact w26  a2 q3 (0 : Int32) Z h _ _ _ hI hN hS (lv_sub hl [1, 3, 0] rfl)
      · have h := ite_t h hc
        refine lv_iconst (v := (1 : Int32)) hx hb dX6_perform_21 (by decide) ?_
        refine lv_goto (tgt := 26) hx hb dX6_perform_22 (by decide) ?_
        exact w26  a2 q3 (1 : Int32) Z h _ _ _ hI hN hS (lv_sub hl [1, 3, 0] rfl)
    · exact xg_thrv (vx_runS (As := [.int a2, .int (1 : Int32), .int (30 : Int32)]) (rest := []) ⟨hx, hb, hml, hown, hts⟩ (mX6_requireRange l hfl D G A ad Z a2 (1 : Int32) (30 : Int32) (.inr x5) c4) (va_cwS 3 hts gX6_perform_X6_requireRange rfl rfl rfl (by decide +kernel) ⟨Nat.le_of_ble_eq_true rfl, Nat.le_of_ble_eq_true rfl⟩) (xg_preS hI hK hN hE hS) rfl rfl hl.1 rfl (lv_room (Nat.le_of_ble_eq_true rfl)) dX6_perform_10 ⟨Nat.le_of_ble_eq_true rfl, Nat.le_of_ble_eq_true rfl⟩) (congrArg Prod.fst (Option.some.inj h)).symm (congrArg Prod.snd (Option.some.inj h)).symm hexc hlocks hS (by decide) (by decide)
  · exact xg_thrr (k := 10) (vx_runV (As := [.int a1]) (rest := []) ⟨hx, hb, hml, hown, hts⟩ (mX6_bandAt l hfl D G A ad Z a1 (.inr x2) c1) (cwV 1 hts gX6_perform_X6_bandAt rfl rfl rfl (by decide +kernel) ⟨Nat.le_of_ble_eq_true rfl, Nat.le_of_ble_eq_true rfl⟩) (xg_preV hI hK hN hE hS rfl rfl (ci := 7) rfl) rfl rfl hl.1 rfl (lv_room (Nat.le_of_ble_eq_true rfl)) dX6_perform_2 ⟨Nat.le_of_ble_eq_true rfl, Nat.le_of_ble_eq_true rfl⟩) (congrArg Prod.fst (Option.some.inj h)).symm (congrArg Prod.snd (Option.some.inj h)).symm hexc hlocks hS (by decide) (by decide)
def fX6_mark_44 (x2 : Int32) (x3 : Int32) (x4 : Nat) (t0 : Int32) (Z : CZ) : Option ((Int32 ⊕ Int32) × CZ) := cx1 (fX6_requireState t0 Z) (fun x13 => some (.inr x13, Z)) (fun _ => gd (cLv Z.2.2 10 x4) (gd (gin x2 5) (bnd (cuI Z 12 x4 (upd (Z.1 12 x4) (Int32.toNatClampNeg x2) x3)) (fun Z17 => cl1 (fX0_countMarks x4 Z17) (fun v18 => some (.inl v18, Z17))))))
def fX6_mark_43 (x2 : Int32) (x3 : Int32) (x4 : Nat) (Z : CZ) : Option ((Int32 ⊕ Int32) × CZ) := fX6_mark_44 x2 x3 x4 (0 : Int32) Z
def fX6_mark (a1 : Int32) (a2 : Int32) (a3 : Int32) (Z : CZ) : Option ((Int32 ⊕ Int32) × CZ) := cx1 (fX6_bandAt a1 Z) (fun x2 => some (.inr x2, Z)) (fun q3 => cx1 (fX6_requireIndex a2 (5 : Int32) Z) (fun x5 => some (.inr x5, Z)) (fun _ => cx1 (fX6_requireRange a3 (0 : Int32) (100 : Int32) Z) (fun x8 => some (.inr x8, Z)) (fun _ => gd (cLv Z.2.2 10 q3) ((if (Z.1 10 q3 5) = (-1 : Int32) then fX6_mark_43 a2 a3 q3 Z else gd (gin a2 5) ((if (Z.1 12 q3 (Int32.toNatClampNeg a2)) = (-1 : Int32) then fX6_mark_44 a2 a3 q3 (1 : Int32) Z else fX6_mark_43 a2 a3 q3 Z)))))))
def rmX6_mark : Room := { frames := 8, cells := 4, slots := 24, locals := 142 }
set_option maxHeartbeats 4000000 in
set_option maxRecDepth 100000 in
theorem mX6_mark (l : Launch) (hfl : l.stackTraces = false) (D : va_G) (G : CGT) (A : Nat → Prop) (ad : Nat → Nat → Nat) (Z : CZ) (a1 : Int32) (a2 : Int32) (a3 : Int32) (rz : (Int32 ⊕ Int32)) (Zz : CZ) (h : fX6_mark a1 a2 a3 Z = some (rz, Zz)) : vx_Met l yX6_mark wsX6_mark rmX6_mark (va_Pc [.ref (ad 0 0), .int a1, .int a2, .int a3] (xP D G A ad Z)) (xQi D G A ad rz Zz) (xX D G A ad rz Zz) 4 24 A := by
  refine vx_ofW (cc := cX6_mark) (maxL := 5) (ret := some .int) (by decide) rfl ?_
  intro p e s m args below meth c s₁ B hml hexc hv
  obtain ⟨rfl, ⟨hI, hN, hK⟩, hE⟩ := hv
  have hx := B.exec
  have hb := B.bytes
  have hr := B.returns
  have hts := atoms_spec (ws := wsX6_mark) B.pre
  have hown : s.vm.findClass RX6 = some m.cls := findClass_of_methodNamed B.named
  have hlocks := B.notSynchronized
  have iwsX00 : ∀ w ∈ wsX00, w ∈ wsX6_mark := fun w h => List.mem_cons_of_mem _ (List.mem_append_left _ (List.mem_append_left _ (List.mem_append_left _ (List.mem_append_left _ (List.mem_append_left _ (List.mem_append_right _ h))))))
  have l0 := hts (.fieldLink RX6 218 "Panyard$Band" "heard" "I") (List.mem_of_getElem? (i := 1) rfl)
  have l1 := hts (.fieldLink RX6 240 "Panyard$Band" "marks" "[I") (List.mem_of_getElem? (i := 2) rfl)
  have hS : va_S A s.heap s.heap [] := va_S.rf
  have hl := lv_entry ([.ref (ad 0 0), .int a1, .int a2, .int a3]) (n := 5) (Nat.le_of_ble_eq_true rfl)
  rw [lg_entry_eq]
  generalize (lg_sl ([.ref (ad 0 0), .int a1, .int a2, .int a3]) ++ List.replicate (5 - (lg_sl ([.ref (ad 0 0), .int a1, .int a2, .int a3])).length) Slot.unset).toArray = ls at hl ⊢
  have hl : lv_has ls 5 [(0, .ref (ad 0 0)), (1, .int a1), (2, .int a2), (3, .int a3)] := hl
  have w44 : ∀ (x2 : Int32) (x3 : Int32) (x4 : Nat) (t0 : Int32) (Z : CZ), fX6_mark_44  x2 x3 x4 t0 Z = some (rz, Zz) → cG p l e (headSpec wsX6_mark rmX6_mark).room s m (([.ref (ad 0 0), .int a1, .int a2, .int a3] : List Value).toArray) below meth c (vx_MQ below (xQi D G A ad rz Zz) (xX D G A ad rz Zz) (([.ref (ad 0 0), .int a1, .int a2, .int a3] : List Value).toArray) s 4 24 A) D G A ad 3 18 5 Z 44 [(2, .int x2), (3, .int x3), (4, .ref (ad 10 x4))] [.int t0] := by
    intro  x2 x3 x4 t0 Z h H locs ls hI hN hS hl
    unfold fX6_mark_44 at h
    rcases cx1_ok h with ⟨v14, c12, h⟩ | ⟨x13, c12, h⟩
    · refine xg_callv (vx_runS (As := [.int t0]) (rest := []) ⟨hx, hb, hml, hown, hts⟩ (mX6_requireState l hfl D G A ad Z t0 (.inl ()) c12) (va_cwS 1 hts gX6_mark_X6_requireState rfl rfl rfl (by decide +kernel) ⟨Nat.le_of_ble_eq_true rfl, Nat.le_of_ble_eq_true rfl⟩) (xg_preS hI hK hN hE hS) rfl rfl hl.1 rfl (lv_room (Nat.le_of_ble_eq_true rfl)) dX6_mark_44 ⟨Nat.le_of_ble_eq_true rfl, Nat.le_of_ble_eq_true rfl⟩) hS (fun H locs hI hN hS => ?_)
      refine W.widen (k := 4) (n := 24) (by decide) (by decide) ?_
      refine lv_aload hx hb dX6_mark_47 (lv_at hl 2 rfl) ?_
      obtain ⟨g15, h⟩ := gd_ok h
      refine cg_get (T := TX0) (N := 7) (ci := 1) hx hb hts iwsX00 hown hK hN g15 rfl rfl 2 (by decide) l1 rfl (v := .ref (ad 12 x4)) rfl dX6_mark_49 ?_
      refine lv_iload_n hx hb dX6_mark_52 rfl (lv_at hl 0 rfl) ?_
      refine lv_iload_n hx hb dX6_mark_53 rfl (lv_at hl 1 rfl) ?_
      obtain ⟨g16, h⟩ := gd_ok h
      obtain ⟨Z17, eZ17⟩ : ∃ y : CZ, y = (cuI Z 12 x4 (upd (Z.1 12 x4) (Int32.toNatClampNeg x2) x3)) := ⟨_, rfl⟩
      have h := bnd_ok h eZ17
      refine cg_ist hx hb hI hK hN hS g15 rfl (gin_ok g16) rfl dX6_mark_54 eZ17 (fun H locs hI hN hS => ?_)
      refine lv_aload hx hb dX6_mark_55 (lv_at hl 2 rfl) ?_
      obtain ⟨v18, c19, h⟩ := cl1_ok h
      refine cg_calli (va_runV (As := []) (rest := []) ⟨hx, hb, hml, hown, hts⟩ (mX0_countMarks l D G A ad Z17 x4 v18 c19) (cwV 0 hts gX6_mark_X0_countMarks rfl rfl rfl (by decide +kernel) ⟨Nat.le_of_ble_eq_true rfl, Nat.le_of_ble_eq_true rfl⟩) (cg_preV hI hK hN (by rw [eZ17]; exact g15) rfl (ci := 1) rfl) rfl rfl hl.1 rfl (lv_room (Nat.le_of_ble_eq_true rfl)) dX6_mark_57 ⟨Nat.le_of_ble_eq_true rfl, Nat.le_of_ble_eq_true rfl⟩) hS (fun H locs hI hN hS => ?_)
      exact vx_ret (W.widen (k := 4) (n := 24) (by decide) (by decide) (W.iret hx hb hr (xg_endi h hI hK hN hS) hS.2.2 dX6_mark_60))
    · exact xg_thrv (vx_runS (As := [.int t0]) (rest := []) ⟨hx, hb, hml, hown, hts⟩ (mX6_requireState l hfl D G A ad Z t0 (.inr x13) c12) (va_cwS 1 hts gX6_mark_X6_requireState rfl rfl rfl (by decide +kernel) ⟨Nat.le_of_ble_eq_true rfl, Nat.le_of_ble_eq_true rfl⟩) (xg_preS hI hK hN hE hS) rfl rfl hl.1 rfl (lv_room (Nat.le_of_ble_eq_true rfl)) dX6_mark_44 ⟨Nat.le_of_ble_eq_true rfl, Nat.le_of_ble_eq_true rfl⟩) (congrArg Prod.fst (Option.some.inj h)).symm (congrArg Prod.snd (Option.some.inj h)).symm hexc hlocks hS (by decide) (by decide)
  have w43 : ∀ (x2 : Int32) (x3 : Int32) (x4 : Nat) (Z : CZ), fX6_mark_43  x2 x3 x4 Z = some (rz, Zz) → cG p l e (headSpec wsX6_mark rmX6_mark).room s m (([.ref (ad 0 0), .int a1, .int a2, .int a3] : List Value).toArray) below meth c (vx_MQ below (xQi D G A ad rz Zz) (xX D G A ad rz Zz) (([.ref (ad 0 0), .int a1, .int a2, .int a3] : List Value).toArray) s 4 24 A) D G A ad 3 18 5 Z 43 [(2, .int x2), (3, .int x3), (4, .ref (ad 10 x4))] [] := by
    intro  x2 x3 x4 Z h H locs ls hI hN hS hl
    unfold fX6_mark_43 at h
    refine lv_iconst (v := (0 : Int32)) hx hb dX6_mark_43 (by decide) ?_
    exact w44  x2 x3 x4 (0 : Int32) Z h _ _ _ hI hN hS (lv_sub hl [0, 1, 2] rfl)
  unfold fX6_mark at h
  refine lv_aload_n hx hb dX6_mark_0 rfl (lv_at hl 0 rfl) ?_
  refine lv_iload_n hx hb dX6_mark_1 rfl (lv_at hl 1 rfl) ?_
  rcases cx1_ok h with ⟨q3, c1, h⟩ | ⟨x2, c1, h⟩
  · refine xg_callr (k := 10) (q := q3) (vx_runV (As := [.int a1]) (rest := []) ⟨hx, hb, hml, hown, hts⟩ (mX6_bandAt l hfl D G A ad Z a1 (.inl q3) c1) (cwV 1 hts gX6_mark_X6_bandAt rfl rfl rfl (by decide +kernel) ⟨Nat.le_of_ble_eq_true rfl, Nat.le_of_ble_eq_true rfl⟩) (xg_preV hI hK hN hE hS rfl rfl (ci := 7) rfl) rfl rfl hl.1 rfl (lv_room (Nat.le_of_ble_eq_true rfl)) dX6_mark_2 ⟨Nat.le_of_ble_eq_true rfl, Nat.le_of_ble_eq_true rfl⟩) hS (fun H locs hI hN hS => ?_)
    refine W.widen (k := 1) (n := 6) (by decide) (by decide) ?_
    refine lv_astore (lv' := [(4, .ref (ad 10 q3)), (0, .ref (ad 0 0)), (1, .int a1), (2, .int a2), (3, .int a3)]) hx hb dX6_mark_5 hl (by decide) rfl (fun ls hl => ?_)
    refine lv_iload_n hx hb dX6_mark_7 rfl (lv_at hl 3 rfl) ?_
    refine lv_iconst (v := (5 : Int32)) hx hb dX6_mark_8 (by decide) ?_
    rcases cx1_ok h with ⟨v6, c4, h⟩ | ⟨x5, c4, h⟩
    · refine xg_callv (vx_runS (As := [.int a2, .int (5 : Int32)]) (rest := []) ⟨hx, hb, hml, hown, hts⟩ (mX6_requireIndex l hfl D G A ad Z a2 (5 : Int32) (.inl ()) c4) (va_cwS 2 hts gX6_mark_X6_requireIndex rfl rfl rfl (by decide +kernel) ⟨Nat.le_of_ble_eq_true rfl, Nat.le_of_ble_eq_true rfl⟩) (xg_preS hI hK hN hE hS) rfl rfl hl.1 rfl (lv_room (Nat.le_of_ble_eq_true rfl)) dX6_mark_9 ⟨Nat.le_of_ble_eq_true rfl, Nat.le_of_ble_eq_true rfl⟩) hS (fun H locs hI hN hS => ?_)
      refine W.widen (k := 2) (n := 12) (by decide) (by decide) ?_
      refine lv_iload_n hx hb dX6_mark_12 rfl (lv_at hl 4 rfl) ?_
      refine lv_iconst (v := (0 : Int32)) hx hb dX6_mark_13 (by decide) ?_
      refine lv_bipush (v := (100 : Int32)) hx hb dX6_mark_14 (by decide) ?_
      rcases cx1_ok h with ⟨v9, c7, h⟩ | ⟨x8, c7, h⟩
      · refine xg_callv (vx_runS (As := [.int a3, .int (0 : Int32), .int (100 : Int32)]) (rest := []) ⟨hx, hb, hml, hown, hts⟩ (mX6_requireRange l hfl D G A ad Z a3 (0 : Int32) (100 : Int32) (.inl ()) c7) (va_cwS 3 hts gX6_mark_X6_requireRange rfl rfl rfl (by decide +kernel) ⟨Nat.le_of_ble_eq_true rfl, Nat.le_of_ble_eq_true rfl⟩) (xg_preS hI hK hN hE hS) rfl rfl hl.1 rfl (lv_room (Nat.le_of_ble_eq_true rfl)) dX6_mark_16 ⟨Nat.le_of_ble_eq_true rfl, Nat.le_of_ble_eq_true rfl⟩) hS (fun H locs hI hN hS => ?_)
        refine W.widen (k := 3) (n := 18) (by decide) (by decide) ?_
        refine lv_aload hx hb dX6_mark_19 (lv_at hl 0 rfl) ?_
        obtain ⟨g10, h⟩ := gd_ok h
        refine cg_get (T := TX0) (N := 7) (ci := 1) hx hb hts iwsX00 hown hK hN g10 rfl rfl 5 (by decide) l0 rfl (v := .int (Z.1 10 q3 5)) rfl dX6_mark_21 ?_
        refine lv_iconst (v := (-1 : Int32)) hx hb dX6_mark_24 (by decide) ?_
        refine lv_icmp_eq (tgt := 43) hx hb dX6_mark_25 (by decide) (fun hc => ?_) (fun hc => ?_)
        · have h := ite_t h hc
          exact w43  a2 a3 q3 Z h _ _ _ hI hN hS (lv_sub hl [3, 4, 0] rfl)
        · have h := ite_f h hc
          refine lv_aload hx hb dX6_mark_28 (lv_at hl 0 rfl) ?_
          refine cg_get (T := TX0) (N := 7) (ci := 1) hx hb hts iwsX00 hown hK hN g10 rfl rfl 2 (by decide) l1 rfl (v := .ref (ad 12 q3)) rfl dX6_mark_30 ?_
          refine lv_iload_n hx hb dX6_mark_33 rfl (lv_at hl 3 rfl) ?_
          obtain ⟨g11, h⟩ := gd_ok h
          refine cg_ild hx hb hK hN g10 rfl (gin_ok g11) dX6_mark_34 ?_
          refine lv_iconst (v := (-1 : Int32)) hx hb dX6_mark_35 (by decide) ?_
          refine lv_icmp_ne (tgt := 43) hx hb dX6_mark_36 (by decide) (fun hc => ?_) (fun hc => ?_)
          · have h := ite_f h hc
            exact w43  a2 a3 q3 Z h _ _ _ hI hN hS (lv_sub hl [3, 4, 0] rfl)
          · have h := ite_t h hc
            refine lv_iconst (v := (1 : Int32)) hx hb dX6_mark_39 (by decide) ?_
            refine lv_goto (tgt := 44) hx hb dX6_mark_40 (by decide) ?_
            exact w44  a2 a3 q3 (1 : Int32) Z h _ _ _ hI hN hS (lv_sub hl [3, 4, 0] rfl)
      · exact xg_thrv (vx_runS (As := [.int a3, .int (0 : Int32), .int (100 : Int32)]) (rest := []) ⟨hx, hb, hml, hown, hts⟩ (mX6_requireRange l hfl D G A ad Z a3 (0 : Int32) (100 : Int32) (.inr x8) c7) (va_cwS 3 hts gX6_mark_X6_requireRange rfl rfl rfl (by decide +kernel) ⟨Nat.le_of_ble_eq_true rfl, Nat.le_of_ble_eq_true rfl⟩) (xg_preS hI hK hN hE hS) rfl rfl hl.1 rfl (lv_room (Nat.le_of_ble_eq_true rfl)) dX6_mark_16 ⟨Nat.le_of_ble_eq_true rfl, Nat.le_of_ble_eq_true rfl⟩) (congrArg Prod.fst (Option.some.inj h)).symm (congrArg Prod.snd (Option.some.inj h)).symm hexc hlocks hS (by decide) (by decide)
    · exact xg_thrv (vx_runS (As := [.int a2, .int (5 : Int32)]) (rest := []) ⟨hx, hb, hml, hown, hts⟩ (mX6_requireIndex l hfl D G A ad Z a2 (5 : Int32) (.inr x5) c4) (va_cwS 2 hts gX6_mark_X6_requireIndex rfl rfl rfl (by decide +kernel) ⟨Nat.le_of_ble_eq_true rfl, Nat.le_of_ble_eq_true rfl⟩) (xg_preS hI hK hN hE hS) rfl rfl hl.1 rfl (lv_room (Nat.le_of_ble_eq_true rfl)) dX6_mark_9 ⟨Nat.le_of_ble_eq_true rfl, Nat.le_of_ble_eq_true rfl⟩) (congrArg Prod.fst (Option.some.inj h)).symm (congrArg Prod.snd (Option.some.inj h)).symm hexc hlocks hS (by decide) (by decide)
  · exact xg_thrr (k := 10) (vx_runV (As := [.int a1]) (rest := []) ⟨hx, hb, hml, hown, hts⟩ (mX6_bandAt l hfl D G A ad Z a1 (.inr x2) c1) (cwV 1 hts gX6_mark_X6_bandAt rfl rfl rfl (by decide +kernel) ⟨Nat.le_of_ble_eq_true rfl, Nat.le_of_ble_eq_true rfl⟩) (xg_preV hI hK hN hE hS rfl rfl (ci := 7) rfl) rfl rfl hl.1 rfl (lv_room (Nat.le_of_ble_eq_true rfl)) dX6_mark_2 ⟨Nat.le_of_ble_eq_true rfl, Nat.le_of_ble_eq_true rfl⟩) (congrArg Prod.fst (Option.some.inj h)).symm (congrArg Prod.snd (Option.some.inj h)).symm hexc hlocks hS (by decide) (by decide)
def fX6_score (a1 : Int32) (Z : CZ) : Option ((Int32 ⊕ Int32)) := cx1 (fX6_bandAt a1 Z) (fun x2 => some (.inr x2)) (fun q3 => gd (cLv Z.2.2 10 q3) (cl1 (fX0_isRanked q3 Z) (fun v5 => cx1 (fX6_requireState v5 Z) (fun x8 => some (.inr x8)) (fun _ => cl1 (fX0_countScore q3 Z) (fun v10 => some (.inl v10))))))
def rmX6_score : Room := { frames := 8, cells := 2, slots := 12, locals := 142 }
set_option maxHeartbeats 4000000 in
set_option maxRecDepth 100000 in
theorem mX6_score (l : Launch) (hfl : l.stackTraces = false) (D : va_G) (G : CGT) (A : Nat → Prop) (ad : Nat → Nat → Nat) (Z : CZ) (a1 : Int32) (rz : (Int32 ⊕ Int32)) (h : fX6_score a1 Z = some rz) : vx_Met l yX6_score wsX6_score rmX6_score (va_Pc [.ref (ad 0 0), .int a1] (xP D G A ad Z)) (xQi D G A ad rz Z) (xX D G A ad rz Z) 2 12 A := by
  refine vx_ofW (cc := cX6_score) (maxL := 3) (ret := some .int) (by decide) rfl ?_
  intro p e s m args below meth c s₁ B hml hexc hv
  obtain ⟨rfl, ⟨hI, hN, hK⟩, hE⟩ := hv
  have hx := B.exec
  have hb := B.bytes
  have hr := B.returns
  have hts := atoms_spec (ws := wsX6_score) B.pre
  have hown : s.vm.findClass RX6 = some m.cls := findClass_of_methodNamed B.named
  have hlocks := B.notSynchronized
  have hS : va_S A s.heap s.heap [] := va_S.rf
  have hl := lv_entry ([.ref (ad 0 0), .int a1]) (n := 3) (Nat.le_of_ble_eq_true rfl)
  rw [lg_entry_eq]
  generalize (lg_sl ([.ref (ad 0 0), .int a1]) ++ List.replicate (3 - (lg_sl ([.ref (ad 0 0), .int a1])).length) Slot.unset).toArray = ls at hl ⊢
  have hl : lv_has ls 3 [(0, .ref (ad 0 0)), (1, .int a1)] := hl
  unfold fX6_score at h
  refine lv_aload_n hx hb dX6_score_0 rfl (lv_at hl 0 rfl) ?_
  refine lv_iload_n hx hb dX6_score_1 rfl (lv_at hl 1 rfl) ?_
  rcases cx1_ok h with ⟨q3, c1, h⟩ | ⟨x2, c1, h⟩
  · refine xg_callr (k := 10) (q := q3) (vx_runV (As := [.int a1]) (rest := []) ⟨hx, hb, hml, hown, hts⟩ (mX6_bandAt l hfl D G A ad Z a1 (.inl q3) c1) (cwV 1 hts gX6_score_X6_bandAt rfl rfl rfl (by decide +kernel) ⟨Nat.le_of_ble_eq_true rfl, Nat.le_of_ble_eq_true rfl⟩) (xg_preV hI hK hN hE hS rfl rfl (ci := 7) rfl) rfl rfl hl.1 rfl (lv_room (Nat.le_of_ble_eq_true rfl)) dX6_score_2 ⟨Nat.le_of_ble_eq_true rfl, Nat.le_of_ble_eq_true rfl⟩) hS (fun H locs hI hN hS => ?_)
    refine W.widen (k := 1) (n := 6) (by decide) (by decide) ?_
    refine lv_astore_n (lv' := [(2, .ref (ad 10 q3)), (0, .ref (ad 0 0)), (1, .int a1)]) hx hb dX6_score_5 rfl hl (by decide) rfl (fun ls hl => ?_)
    refine lv_aload_n hx hb dX6_score_6 rfl (lv_at hl 0 rfl) ?_
    obtain ⟨g4, h⟩ := gd_ok h
    obtain ⟨v5, c6, h⟩ := cl1_ok h
    refine cg_calli (va_runV (As := []) (rest := []) ⟨hx, hb, hml, hown, hts⟩ (mX0_isRanked l D G A ad Z q3 v5 c6) (cwV 0 hts gX6_score_X0_isRanked rfl rfl rfl (by decide +kernel) ⟨Nat.le_of_ble_eq_true rfl, Nat.le_of_ble_eq_true rfl⟩) (cg_preV hI hK hN g4 rfl (ci := 1) rfl) rfl rfl hl.1 rfl (lv_room (Nat.le_of_ble_eq_true rfl)) dX6_score_7 ⟨Nat.le_of_ble_eq_true rfl, Nat.le_of_ble_eq_true rfl⟩) hS (fun H locs hI hN hS => ?_)
    rcases cx1_ok h with ⟨v9, c7, h⟩ | ⟨x8, c7, h⟩
    · refine xg_callv (vx_runS (As := [.int v5]) (rest := []) ⟨hx, hb, hml, hown, hts⟩ (mX6_requireState l hfl D G A ad Z v5 (.inl ()) c7) (va_cwS 1 hts gX6_score_X6_requireState rfl rfl rfl (by decide +kernel) ⟨Nat.le_of_ble_eq_true rfl, Nat.le_of_ble_eq_true rfl⟩) (xg_preS hI hK hN hE hS) rfl rfl hl.1 rfl (lv_room (Nat.le_of_ble_eq_true rfl)) dX6_score_10 ⟨Nat.le_of_ble_eq_true rfl, Nat.le_of_ble_eq_true rfl⟩) hS (fun H locs hI hN hS => ?_)
      refine W.widen (k := 2) (n := 12) (by decide) (by decide) ?_
      refine lv_aload_n hx hb dX6_score_13 rfl (lv_at hl 0 rfl) ?_
      obtain ⟨v10, c11, h⟩ := cl1_ok h
      refine cg_calli (va_runV (As := []) (rest := []) ⟨hx, hb, hml, hown, hts⟩ (mX0_countScore l D G A ad Z q3 v10 c11) (cwV 0 hts gX6_score_X0_countScore rfl rfl rfl (by decide +kernel) ⟨Nat.le_of_ble_eq_true rfl, Nat.le_of_ble_eq_true rfl⟩) (cg_preV hI hK hN g4 rfl (ci := 1) rfl) rfl rfl hl.1 rfl (lv_room (Nat.le_of_ble_eq_true rfl)) dX6_score_14 ⟨Nat.le_of_ble_eq_true rfl, Nat.le_of_ble_eq_true rfl⟩) hS (fun H locs hI hN hS => ?_)
      exact vx_ret (W.widen (k := 2) (n := 12) (by decide) (by decide) (W.iret hx hb hr (xg_endr h hI hK hN hS) hS.2.2 dX6_score_17))
    · exact xg_thrv (vx_runS (As := [.int v5]) (rest := []) ⟨hx, hb, hml, hown, hts⟩ (mX6_requireState l hfl D G A ad Z v5 (.inr x8) c7) (va_cwS 1 hts gX6_score_X6_requireState rfl rfl rfl (by decide +kernel) ⟨Nat.le_of_ble_eq_true rfl, Nat.le_of_ble_eq_true rfl⟩) (xg_preS hI hK hN hE hS) rfl rfl hl.1 rfl (lv_room (Nat.le_of_ble_eq_true rfl)) dX6_score_10 ⟨Nat.le_of_ble_eq_true rfl, Nat.le_of_ble_eq_true rfl⟩) (Option.some.inj h).symm rfl hexc hlocks hS (by decide) (by decide)
  · exact xg_thrr (k := 10) (vx_runV (As := [.int a1]) (rest := []) ⟨hx, hb, hml, hown, hts⟩ (mX6_bandAt l hfl D G A ad Z a1 (.inr x2) c1) (cwV 1 hts gX6_score_X6_bandAt rfl rfl rfl (by decide +kernel) ⟨Nat.le_of_ble_eq_true rfl, Nat.le_of_ble_eq_true rfl⟩) (xg_preV hI hK hN hE hS rfl rfl (ci := 7) rfl) rfl rfl hl.1 rfl (lv_room (Nat.le_of_ble_eq_true rfl)) dX6_score_2 ⟨Nat.le_of_ble_eq_true rfl, Nat.le_of_ble_eq_true rfl⟩) (Option.some.inj h).symm rfl hexc hlocks hS (by decide) (by decide)
def fX6_requireIndex_n_9 (Z : CZ) : Option (Unit) := none
def fX6_requireIndex_n (a1 : Int32) (a2 : Int32) (Z : CZ) : Option (Unit) := (if a1 < 0 then fX6_requireIndex_n_9 Z else (if a1 < a2 then some () else fX6_requireIndex_n_9 Z))
def rmX6_requireIndex_n : Room := { frames := 1, cells := 0, slots := 0, locals := 30 }
set_option maxHeartbeats 4000000 in
set_option maxRecDepth 100000 in
theorem mX6_requireIndex_n (l : Launch) (D : va_G) (G : CGT) (A : Nat → Prop) (ad : Nat → Nat → Nat) (Z : CZ) (a1 : Int32) (a2 : Int32) (h : fX6_requireIndex_n a1 a2 Z = some ()) : Met l yX6_requireIndex wsX6_requireIndex rmX6_requireIndex_n (va_Pc [.int a1, .int a2] (cP D G A ad Z)) (cQv D G A ad Z) 0 0 A := by
  refine Met.ofW (cc := cX6_requireIndex) (maxL := 2) (ret := none) (by decide) rfl ?_
  intro p e s m args below meth c s₁ B hml hv
  obtain ⟨rfl, hI, hN, hK⟩ := hv
  have hx := B.exec
  have hb := B.bytes
  have hr := B.returns
  have hts := atoms_spec (ws := wsX6_requireIndex) B.pre
  have hown : s.vm.findClass RX6 = some m.cls := findClass_of_methodNamed B.named
  have hlocks := B.notSynchronized
  have hS : va_S A s.heap s.heap [] := va_S.rf
  have hl := lv_entry ([.int a1, .int a2]) (n := 2) (Nat.le_of_ble_eq_true rfl)
  rw [lg_entry_eq]
  generalize (lg_sl ([.int a1, .int a2]) ++ List.replicate (2 - (lg_sl ([.int a1, .int a2])).length) Slot.unset).toArray = ls at hl ⊢
  have hl : lv_has ls 2 [(0, .int a1), (1, .int a2)] := hl
  have w9 : fX6_requireIndex_n_9 Z  = some () → cG p l e (headSpec wsX6_requireIndex rmX6_requireIndex_n).room s m (([.int a1, .int a2] : List Value).toArray) below meth c (MQ below (cQv D G A ad Z) (([.int a1, .int a2] : List Value).toArray) s 0 0 A) D G A ad 0 0 2 Z 9 [] [] := by
    intro   h H locs ls hI hN hS hl
    unfold fX6_requireIndex_n_9 at h
    cases h
  unfold fX6_requireIndex_n at h
  refine lv_iload_n hx hb dX6_requireIndex_0 rfl (lv_at hl 0 rfl) ?_
  refine lv_if_lt (tgt := 9) hx hb dX6_requireIndex_1 (by decide) (fun hc => ?_) (fun hc => ?_)
  · have h := ite_t h hc
    exact w9   h _ _ _ hI hN hS (lv_sub hl [] rfl)
  · have h := ite_f h hc
    refine lv_iload_n hx hb dX6_requireIndex_4 rfl (lv_at hl 0 rfl) ?_
    refine lv_iload_n hx hb dX6_requireIndex_5 rfl (lv_at hl 1 rfl) ?_
    refine lv_icmp_lt (tgt := 20) hx hb dX6_requireIndex_6 (by decide) (fun hc => ?_) (fun hc => ?_)
    · have h := ite_t h hc
      exact W.vret hx hb hr (cg_endvr hI hK hN hS) hS.2.2 dX6_requireIndex_20
    · have h := ite_f h hc
      exact w9   h _ _ _ hI hN hS (lv_sub hl [] rfl)
