def fX2_leapBetween (a1 : Int32) (a2 : Int32) (a3 : Int32) (Z : CZ) : Option (Int32) := cl1 (fX2_spotOf a1 a3 Z) (fun v1 => cl1 (fX2_spotOf a1 a2 Z) (fun v3 => bnd (if 0 ≤ (v1 - v3) then (v1 - v3) else 0 - (v1 - v3)) (fun v5 => some (if ((12 : Int32) - v5) < v5 then ((12 : Int32) - v5) else v5))))
def rmX2_leapBetween : Room := { frames := 2, cells := 0, slots := 0, locals := 51 }
set_option maxHeartbeats 4000000 in
set_option maxRecDepth 100000 in
theorem mX2_leapBetween (l : Launch) (D : va_G) (G : CGT) (A : Nat → Prop) (ad : Nat → Nat → Nat) (Z : CZ) (a1 : Int32) (a2 : Int32) (a3 : Int32) (rz : Int32) (h : fX2_leapBetween a1 a2 a3 Z = some rz) : Met l yX2_leapBetween wsX2_leapBetween rmX2_leapBetween (va_Pc [.int a1, .int a2, .int a3] (cP D G A ad Z)) (cQi D G A ad rz Z) 0 0 A := by
  refine Met.ofW (cc := cX2_leapBetween) (maxL := 4) (ret := some .int) (by decide) rfl ?_
  intro p e s m args below meth c s₁ B hml hv
  obtain ⟨rfl, hI, hN, hK⟩ := hv
  have hx := B.exec
  have hb := B.bytes
  have hr := B.returns
  have hts := atoms_spec (ws := wsX2_leapBetween) B.pre
  have hown : s.vm.findClass RX2 = some m.cls := findClass_of_methodNamed B.named
  have hlocks := B.notSynchronized
  have l0 := hts (.methodLink RX2 88 Lib.Math.abs.name) (List.mem_of_getElem? (i := 1) rfl)
  have l1 := hts (.static Lib.Math.abs.name) (List.mem_of_getElem? (i := 2) rfl)
  have l2 := hts (.initialized "java/lang/Math") (List.mem_of_getElem? (i := 3) rfl)
  have l3 := hts (.code Lib.Math.abs.name Lib.Math.abs.code 1 (some .int)) (List.mem_of_getElem? (i := 4) rfl)
  have l4 := hts (.methodLink RX2 94 Lib.Math.min.name) (List.mem_of_getElem? (i := 5) rfl)
  have l5 := hts (.static Lib.Math.min.name) (List.mem_of_getElem? (i := 6) rfl)
  have l6 := hts (.code Lib.Math.min.name Lib.Math.min.code 2 (some .int)) (List.mem_of_getElem? (i := 7) rfl)
  have hS : va_S A s.heap s.heap [] := va_S.rf
  have hl := lv_entry ([.int a1, .int a2, .int a3]) (n := 4) (Nat.le_of_ble_eq_true rfl)
  rw [lg_entry_eq]
  generalize (lg_sl ([.int a1, .int a2, .int a3]) ++ List.replicate (4 - (lg_sl ([.int a1, .int a2, .int a3])).length) Slot.unset).toArray = ls at hl ⊢
  have hl : lv_has ls 4 [(0, .int a1), (1, .int a2), (2, .int a3)] := hl
  unfold fX2_leapBetween at h
  refine lv_iload_n hx hb dX2_leapBetween_0 rfl (lv_at hl 0 rfl) ?_
  refine lv_iload_n hx hb dX2_leapBetween_1 rfl (lv_at hl 2 rfl) ?_
  obtain ⟨v1, c2, h⟩ := cl1_ok h
  refine cg_calli (va_runS (As := [.int a1, .int a3]) (rest := []) ⟨hx, hb, hml, hown, hts⟩ (mX2_spotOf l D G A ad Z a1 a3 v1 c2) (va_cwS 2 hts gX2_leapBetween_X2_spotOf rfl rfl rfl (by decide +kernel) ⟨Nat.le_of_ble_eq_true rfl, Nat.le_of_ble_eq_true rfl⟩) (cg_preS hI hK hN) rfl rfl hl.1 rfl (lv_room (Nat.le_of_ble_eq_true rfl)) dX2_leapBetween_2 ⟨Nat.le_of_ble_eq_true rfl, Nat.le_of_ble_eq_true rfl⟩) hS (fun H locs hI hN hS => ?_)
  refine lv_iload_n hx hb dX2_leapBetween_5 rfl (lv_at hl 0 rfl) ?_
  refine lv_iload_n hx hb dX2_leapBetween_6 rfl (lv_at hl 1 rfl) ?_
  obtain ⟨v3, c4, h⟩ := cl1_ok h
  refine cg_calli (va_runS (As := [.int a1, .int a2]) (rest := [.int v1]) ⟨hx, hb, hml, hown, hts⟩ (mX2_spotOf l D G A ad Z a1 a2 v3 c4) (va_cwS 2 hts gX2_leapBetween_X2_spotOf rfl rfl rfl (by decide +kernel) ⟨Nat.le_of_ble_eq_true rfl, Nat.le_of_ble_eq_true rfl⟩) (cg_preS hI hK hN) rfl rfl hl.1 rfl (lv_room (Nat.le_of_ble_eq_true rfl)) dX2_leapBetween_7 ⟨Nat.le_of_ble_eq_true rfl, Nat.le_of_ble_eq_true rfl⟩) hS (fun H locs hI hN hS => ?_)
  refine lv_isub hx hb dX2_leapBetween_10 ?_
  refine va_mabs hx hb (hml.trans hl.1.symm) hown l0 l1 l2 l3 (by decide) (Nat.le_of_ble_eq_true rfl) (Nat.le_of_ble_eq_true rfl) (Nat.le_of_ble_eq_true rfl) dX2_leapBetween_11 ?_
  refine lv_topi (fun v5 ev5 => ?_)
  have h := bnd_ok h ev5
  refine lv_istore_n (lv' := [(3, .int v5), (0, .int a1), (1, .int a2), (2, .int a3)]) hx hb dX2_leapBetween_14 rfl hl (by decide) rfl (fun ls hl => ?_)
  refine lv_iload_n hx hb dX2_leapBetween_15 rfl (lv_at hl 0 rfl) ?_
  refine lv_bipush (v := (12 : Int32)) hx hb dX2_leapBetween_16 (by decide) ?_
  refine lv_iload_n hx hb dX2_leapBetween_18 rfl (lv_at hl 0 rfl) ?_
  refine lv_isub hx hb dX2_leapBetween_19 ?_
  refine va_mmin hx hb (hml.trans hl.1.symm) hown l4 l5 l2 l6 (by decide) (Nat.le_of_ble_eq_true rfl) (Nat.le_of_ble_eq_true rfl) (Nat.le_of_ble_eq_true rfl) dX2_leapBetween_20 ?_
  exact W.iret hx hb hr (cg_endr h hI hK hN hS) hS.2.2 dX2_leapBetween_23
def fX2_leapsInto_39 (Z : CZ) (t0 : Int32) : Option (Int32) := some t0
def fX2_leapsInto (a1 : Nat) (a2 : Int32) (a3 : Int32) (a4 : Int32) (Z : CZ) : Option (Int32) := (if 0 < a2 then bnd (a2 * (4 : Int32)) (fun v1 => (if a3 = 0 then fX2_leapsInto_39 Z (2 : Int32) else gd (cLv Z.2.2 10 a1) (gd (gin (v1 - (1 : Int32)) 24) (gd (gin v1 24) (cl1 (fX2_leapBetween a4 (Z.1 11 a1 (Int32.toNatClampNeg (v1 - (1 : Int32)))) (Z.1 11 a1 (Int32.toNatClampNeg v1)) Z) (fun v5 => fX2_leapsInto_39 Z v5)))))) else some (0 : Int32))
def rmX2_leapsInto : Room := { frames := 3, cells := 0, slots := 0, locals := 74 }
set_option maxHeartbeats 4000000 in
set_option maxRecDepth 100000 in
theorem mX2_leapsInto (l : Launch) (D : va_G) (G : CGT) (A : Nat → Prop) (ad : Nat → Nat → Nat) (Z : CZ) (a1 : Nat) (a2 : Int32) (a3 : Int32) (a4 : Int32) (rz : Int32) (h : fX2_leapsInto a1 a2 a3 a4 Z = some rz) : Met l yX2_leapsInto wsX2_leapsInto rmX2_leapsInto (va_Pc [.ref (ad 10 a1), .int a2, .int a3, .int a4] (cP D G A ad Z)) (cQi D G A ad rz Z) 0 0 A := by
  refine Met.ofW (cc := cX2_leapsInto) (maxL := 5) (ret := some .int) (by decide) rfl ?_
  intro p e s m args below meth c s₁ B hml hv
  obtain ⟨rfl, hI, hN, hK⟩ := hv
  have hx := B.exec
  have hb := B.bytes
  have hr := B.returns
  have hts := atoms_spec (ws := wsX2_leapsInto) B.pre
  have hown : s.vm.findClass RX2 = some m.cls := findClass_of_methodNamed B.named
  have hlocks := B.notSynchronized
  have iwsX00 : ∀ w ∈ wsX00, w ∈ wsX2_leapsInto := fun w h => List.mem_cons_of_mem _ (List.mem_append_right _ h)
  have l0 := hts (.fieldLink RX2 77 "Panyard$Band" "song" "[I") (List.mem_of_getElem? (i := 1) rfl)
  have hS : va_S A s.heap s.heap [] := va_S.rf
  have hl := lv_entry ([.ref (ad 10 a1), .int a2, .int a3, .int a4]) (n := 5) (Nat.le_of_ble_eq_true rfl)
  rw [lg_entry_eq]
  generalize (lg_sl ([.ref (ad 10 a1), .int a2, .int a3, .int a4]) ++ List.replicate (5 - (lg_sl ([.ref (ad 10 a1), .int a2, .int a3, .int a4])).length) Slot.unset).toArray = ls at hl ⊢
  have hl : lv_has ls 5 [(0, .ref (ad 10 a1)), (1, .int a2), (2, .int a3), (3, .int a4)] := hl
  have w39 : ∀ (t0 : Int32), fX2_leapsInto_39 Z t0 = some rz → cG p l e (headSpec wsX2_leapsInto rmX2_leapsInto).room s m (([.ref (ad 10 a1), .int a2, .int a3, .int a4] : List Value).toArray) below meth c (MQ below (cQi D G A ad rz Z) (([.ref (ad 10 a1), .int a2, .int a3, .int a4] : List Value).toArray) s 0 0 A) D G A ad 0 0 5 Z 39 [] [.int t0] := by
    intro  t0 h H locs ls hI hN hS hl
    unfold fX2_leapsInto_39 at h
    exact W.iret hx hb hr (cg_endr h hI hK hN hS) hS.2.2 dX2_leapsInto_39
  unfold fX2_leapsInto at h
  refine lv_iload_n hx hb dX2_leapsInto_0 rfl (lv_at hl 1 rfl) ?_
  refine lv_if_gt (tgt := 6) hx hb dX2_leapsInto_1 (by decide) (fun hc => ?_) (fun hc => ?_)
  · have h := ite_t h hc
    refine lv_iload_n hx hb dX2_leapsInto_6 rfl (lv_at hl 1 rfl) ?_
    refine lv_iconst (v := (4 : Int32)) hx hb dX2_leapsInto_7 (by decide) ?_
    refine lv_imul hx hb dX2_leapsInto_8 ?_
    refine lv_topi (fun v1 ev1 => ?_)
    have h := bnd_ok h ev1
    refine lv_istore (lv' := [(4, .int v1), (0, .ref (ad 10 a1)), (1, .int a2), (2, .int a3), (3, .int a4)]) hx hb dX2_leapsInto_9 hl (by decide) rfl (fun ls hl => ?_)
    refine lv_iload_n hx hb dX2_leapsInto_11 rfl (lv_at hl 3 rfl) ?_
    refine lv_if_eq (tgt := 38) hx hb dX2_leapsInto_12 (by decide) (fun hc => ?_) (fun hc => ?_)
    · have h := ite_t h hc
      refine lv_iconst (v := (2 : Int32)) hx hb dX2_leapsInto_38 (by decide) ?_
      exact w39  (2 : Int32) h _ _ _ hI hN hS (lv_sub hl [] rfl)
    · have h := ite_f h hc
      refine lv_iload_n hx hb dX2_leapsInto_15 rfl (lv_at hl 4 rfl) ?_
      refine lv_aload_n hx hb dX2_leapsInto_16 rfl (lv_at hl 1 rfl) ?_
      obtain ⟨g2, h⟩ := gd_ok h
      refine cg_get (T := TX0) (N := 7) (ci := 1) hx hb hts iwsX00 hown hK hN g2 rfl rfl 1 (by decide) l0 rfl (v := .ref (ad 11 a1)) rfl dX2_leapsInto_17 ?_
      refine lv_iload hx hb dX2_leapsInto_20 (lv_at hl 0 rfl) ?_
      refine lv_iconst (v := (1 : Int32)) hx hb dX2_leapsInto_22 (by decide) ?_
      refine lv_isub hx hb dX2_leapsInto_23 ?_
      obtain ⟨g3, h⟩ := gd_ok h
      refine cg_ild hx hb hK hN g2 rfl (gin_ok g3) dX2_leapsInto_24 ?_
      refine lv_aload_n hx hb dX2_leapsInto_25 rfl (lv_at hl 1 rfl) ?_
      refine cg_get (T := TX0) (N := 7) (ci := 1) hx hb hts iwsX00 hown hK hN g2 rfl rfl 1 (by decide) l0 rfl (v := .ref (ad 11 a1)) rfl dX2_leapsInto_26 ?_
      refine lv_iload hx hb dX2_leapsInto_29 (lv_at hl 0 rfl) ?_
      obtain ⟨g4, h⟩ := gd_ok h
      refine cg_ild hx hb hK hN g2 rfl (gin_ok g4) dX2_leapsInto_31 ?_
      obtain ⟨v5, c6, h⟩ := cl1_ok h
      refine cg_calli (va_runS (As := [.int a4, .int (Z.1 11 a1 (Int32.toNatClampNeg (v1 - (1 : Int32)))), .int (Z.1 11 a1 (Int32.toNatClampNeg v1))]) (rest := []) ⟨hx, hb, hml, hown, hts⟩ (mX2_leapBetween l D G A ad Z a4 (Z.1 11 a1 (Int32.toNatClampNeg (v1 - (1 : Int32)))) (Z.1 11 a1 (Int32.toNatClampNeg v1)) v5 c6) (va_cwS 3 hts gX2_leapsInto_X2_leapBetween rfl rfl rfl (by decide +kernel) ⟨Nat.le_of_ble_eq_true rfl, Nat.le_of_ble_eq_true rfl⟩) (cg_preS hI hK hN) rfl rfl hl.1 rfl (lv_room (Nat.le_of_ble_eq_true rfl)) dX2_leapsInto_32 ⟨Nat.le_of_ble_eq_true rfl, Nat.le_of_ble_eq_true rfl⟩) hS (fun H locs hI hN hS => ?_)
      refine lv_goto (tgt := 39) hx hb dX2_leapsInto_35 (by decide) ?_
      exact w39  v5 h _ _ _ hI hN hS (lv_sub hl [] rfl)
  · have h := ite_f h hc
    refine lv_iconst (v := (0 : Int32)) hx hb dX2_leapsInto_4 (by decide) ?_
    exact W.iret hx hb hr (cg_endr h hI hK hN hS) hS.2.2 dX2_leapsInto_5
def fX2_bestSeat_115 (Z : CZ) (k19 : Nat → Int32 → Int32 → Int32 → Int32 → Int32 → Option (Int32)) (x1 : Nat) (x2 : Int32) (x3 : Int32) (x4 : Int32) (x5 : Int32) (x6 : Int32) : Option (Int32) := bnd (x6 + (1 : Int32)) (fun v22 => k19 x1 x2 x3 x4 x5 v22)
def fX2_bestSeat_107 (Z : CZ) (k19 : Nat → Int32 → Int32 → Int32 → Int32 → Int32 → Option (Int32)) (x1 : Nat) (x2 : Int32) (x3 : Int32) (x6 : Int32) (x8 : Int32) : Option (Int32) := fX2_bestSeat_115 Z k19 x1 x2 x3 x6 x8 x6
def fX2_bestSeat_73 (Z : CZ) (k19 : Nat → Int32 → Int32 → Int32 → Int32 → Int32 → Option (Int32)) (x1 : Nat) (x2 : Int32) (x3 : Int32) (x4 : Int32) (x5 : Int32) (x6 : Int32) (x7 : Int32) (t0 : Int32) (t1 : Int32) (t2 : Nat) (t3 : Int32) : Option (Int32) := cl1 (fX2_leapsInto t2 t1 t0 x7 Z) (fun v17 => bnd (t3 + v17) (fun v19 => gd (gin x2 6) (gd (gin x6 8) ((if (Z.1 18 (Int32.toNatClampNeg x2) (Int32.toNatClampNeg x6)) = (-1 : Int32) then fX2_bestSeat_115 Z k19 x1 x2 x3 x4 x5 x6 else (if x4 = (-1 : Int32) then fX2_bestSeat_107 Z k19 x1 x2 x3 x6 v19 else (if x5 ≤ v19 then fX2_bestSeat_115 Z k19 x1 x2 x3 x4 x5 x6 else fX2_bestSeat_107 Z k19 x1 x2 x3 x6 v19)))))))
def fX2_bestSeat_121 (Z : CZ) (x4 : Int32) : Option (Int32) := some x4
def fX2_bestSeat_19 (Z : CZ) (k19 : Nat → Int32 → Int32 → Int32 → Int32 → Int32 → Option (Int32)) (x1 : Nat) (x2 : Int32) (x3 : Int32) (x4 : Int32) (x5 : Int32) (x6 : Int32) : Option (Int32) := gd (cLv Z.2.2 10 x1) (gd (cLv Z.2.2 3 (x1 + 4)) (cl1 (fJx4a65c_size_8abf5 (x1 + 4) Z) (fun v6 => (if v6 ≤ x6 then fX2_bestSeat_121 Z x4 else cl1 (fJx4a65c_get_915e3 (x1 + 4) x6 Z) (fun q8 => gd (cLv Z.2.2 13 q8) (cl1 (Z.2.1 13 q8 0) (fun q11 => gd (cLv Z.2.2 9 q11) (bnd (Z.1 9 q11 1) (fun v14 => gd (gin x2 6) (gd (gin x6 8) ((if x6 = x3 then fX2_bestSeat_73 Z k19 x1 x2 x3 x4 x5 x6 v14 (1 : Int32) x2 x1 (Z.1 18 (Int32.toNatClampNeg x2) (Int32.toNatClampNeg x6)) else fX2_bestSeat_73 Z k19 x1 x2 x3 x4 x5 x6 v14 (0 : Int32) x2 x1 (Z.1 18 (Int32.toNatClampNeg x2) (Int32.toNatClampNeg x6))))))))))))))
def fX2_bestSeat (a1 : Nat) (a2 : Int32) (a3 : Int32) (Z : CZ) : Option (Int32) := gd (cLv Z.2.2 10 a1) (cl1 (fX0_phraseCount a1 Z) (fun v2 => (if a2 < v2 then lf6 (fX2_bestSeat_19 Z) 100 a1 a2 a3 (-1 : Int32) (0 : Int32) (0 : Int32) else some (-1 : Int32))))
def rmX2_bestSeat : Room := { frames := 4, cells := 0, slots := 0, locals := 98 }
set_option maxHeartbeats 4000000 in
set_option maxRecDepth 100000 in
theorem mX2_bestSeat (l : Launch) (D : va_G) (G : CGT) (A : Nat → Prop) (ad : Nat → Nat → Nat) (Z : CZ) (a1 : Nat) (a2 : Int32) (a3 : Int32) (rz : Int32) (h : fX2_bestSeat a1 a2 a3 Z = some rz) : Met l yX2_bestSeat wsX2_bestSeat rmX2_bestSeat (va_Pc [.ref (ad 2 0), .ref (ad 10 a1), .int a2, .int a3] (cP D G A ad Z)) (cQi D G A ad rz Z) 0 0 A := by
  refine Met.ofW (cc := cX2_bestSeat) (maxL := 9) (ret := some .int) (by decide) rfl ?_
  intro p e s m args below meth c s₁ B hml hv
  obtain ⟨rfl, hI, hN, hK⟩ := hv
  have hx := B.exec
  have hb := B.bytes
  have hr := B.returns
  have hts := atoms_spec (ws := wsX2_bestSeat) B.pre
  have hown : s.vm.findClass RX2 = some m.cls := findClass_of_methodNamed B.named
  have hlocks := B.notSynchronized
  have iwsX00 : ∀ w ∈ wsX00, w ∈ wsX2_bestSeat := fun w h => List.mem_cons_of_mem _ (List.mem_append_left _ (List.mem_append_left _ (List.mem_append_left _ (List.mem_append_left _ (List.mem_append_right _ h)))))
  have iwsX50 : ∀ w ∈ wsX50, w ∈ wsX2_bestSeat := fun w h => List.mem_cons_of_mem _ (List.mem_append_left _ (List.mem_append_left _ (List.mem_append_left _ (List.mem_append_right _ h))))
  have iwsX40 : ∀ w ∈ wsX40, w ∈ wsX2_bestSeat := fun w h => List.mem_cons_of_mem _ (List.mem_append_left _ (List.mem_append_left _ (List.mem_append_right _ h)))
  have iwsX20 : ∀ w ∈ wsX20, w ∈ wsX2_bestSeat := fun w h => List.mem_cons_of_mem _ (List.mem_append_left _ (List.mem_append_right _ h))
  have l0 := hts (.fieldLink RX2 34 "Panyard$Band" "seats" "Ljava/util/ArrayList;") (List.mem_of_getElem? (i := 1) rfl)
  have l1 := hts (.classLink RX2 51 "Panyard$Seat") (List.mem_of_getElem? (i := 2) rfl)
  have l2 := hts (.fieldLink RX2 53 "Panyard$Seat" "player" "LPanyard$Player;") (List.mem_of_getElem? (i := 3) rfl)
  have l3 := hts (.fieldLink RX2 66 "Panyard$Player" "layout" "I") (List.mem_of_getElem? (i := 4) rfl)
  have l4 := hts (.fieldLink RX2 17 "Panyard$Parts" "fewest" "[[I") (List.mem_of_getElem? (i := 5) rfl)
  have hS : va_S A s.heap s.heap [] := va_S.rf
  have hl := lv_entry ([.ref (ad 2 0), .ref (ad 10 a1), .int a2, .int a3]) (n := 9) (Nat.le_of_ble_eq_true rfl)
  rw [lg_entry_eq]
  generalize (lg_sl ([.ref (ad 2 0), .ref (ad 10 a1), .int a2, .int a3]) ++ List.replicate (9 - (lg_sl ([.ref (ad 2 0), .ref (ad 10 a1), .int a2, .int a3])).length) Slot.unset).toArray = ls at hl ⊢
  have hl : lv_has ls 9 [(0, .ref (ad 2 0)), (1, .ref (ad 10 a1)), (2, .int a2), (3, .int a3)] := hl
  have w115 : ∀ (k19 : Nat → Int32 → Int32 → Int32 → Int32 → Int32 → Option (Int32)) (hk19 : (∀ (x1 : Nat) (x2 : Int32) (x3 : Int32) (x4 : Int32) (x5 : Int32) (x6 : Int32), k19 x1 x2 x3 x4 x5 x6 = some rz → cG p l e (headSpec wsX2_bestSeat rmX2_bestSeat).room s m (([.ref (ad 2 0), .ref (ad 10 a1), .int a2, .int a3] : List Value).toArray) below meth c (MQ below (cQi D G A ad rz Z) (([.ref (ad 2 0), .ref (ad 10 a1), .int a2, .int a3] : List Value).toArray) s 0 0 A) D G A ad 0 0 9 Z 19 [(0, .ref (ad 2 0)), (1, .ref (ad 10 x1)), (2, .int x2), (3, .int x3), (4, .int x4), (5, .int x5), (6, .int x6)] [])) (x1 : Nat) (x2 : Int32) (x3 : Int32) (x4 : Int32) (x5 : Int32) (x6 : Int32), fX2_bestSeat_115 Z k19 x1 x2 x3 x4 x5 x6 = some rz → cG p l e (headSpec wsX2_bestSeat rmX2_bestSeat).room s m (([.ref (ad 2 0), .ref (ad 10 a1), .int a2, .int a3] : List Value).toArray) below meth c (MQ below (cQi D G A ad rz Z) (([.ref (ad 2 0), .ref (ad 10 a1), .int a2, .int a3] : List Value).toArray) s 0 0 A) D G A ad 0 0 9 Z 115 [(0, .ref (ad 2 0)), (1, .ref (ad 10 x1)), (2, .int x2), (3, .int x3), (4, .int x4), (5, .int x5), (6, .int x6)] [] := by
    intro k19 hk19 x1 x2 x3 x4 x5 x6 h H locs ls hI hN hS hl
    unfold fX2_bestSeat_115 at h
    obtain ⟨v22, ev22⟩ : ∃ y : Int32, y = (x6 + (1 : Int32)) := ⟨_, rfl⟩
    have h := bnd_ok h ev22
    refine lv_iinc (v := v22) (lv' := [(6, .int v22), (0, .ref (ad 2 0)), (1, .ref (ad 10 x1)), (2, .int x2), (3, .int x3), (4, .int x4), (5, .int x5)]) hx hb dX2_bestSeat_115 hl (k := 6) rfl (by rw [ev22]; rfl) (by decide) rfl (fun ls hl => ?_)
    refine lv_goto (tgt := 19) hx hb dX2_bestSeat_118 (by decide) ?_
    exact hk19 x1 x2 x3 x4 x5 v22 h _ _ _ hI hN hS (lv_sub hl [1, 2, 3, 4, 5, 6, 0] rfl)
  have w107 : ∀ (k19 : Nat → Int32 → Int32 → Int32 → Int32 → Int32 → Option (Int32)) (hk19 : (∀ (x1 : Nat) (x2 : Int32) (x3 : Int32) (x4 : Int32) (x5 : Int32) (x6 : Int32), k19 x1 x2 x3 x4 x5 x6 = some rz → cG p l e (headSpec wsX2_bestSeat rmX2_bestSeat).room s m (([.ref (ad 2 0), .ref (ad 10 a1), .int a2, .int a3] : List Value).toArray) below meth c (MQ below (cQi D G A ad rz Z) (([.ref (ad 2 0), .ref (ad 10 a1), .int a2, .int a3] : List Value).toArray) s 0 0 A) D G A ad 0 0 9 Z 19 [(0, .ref (ad 2 0)), (1, .ref (ad 10 x1)), (2, .int x2), (3, .int x3), (4, .int x4), (5, .int x5), (6, .int x6)] [])) (x1 : Nat) (x2 : Int32) (x3 : Int32) (x6 : Int32) (x8 : Int32), fX2_bestSeat_107 Z k19 x1 x2 x3 x6 x8 = some rz → cG p l e (headSpec wsX2_bestSeat rmX2_bestSeat).room s m (([.ref (ad 2 0), .ref (ad 10 a1), .int a2, .int a3] : List Value).toArray) below meth c (MQ below (cQi D G A ad rz Z) (([.ref (ad 2 0), .ref (ad 10 a1), .int a2, .int a3] : List Value).toArray) s 0 0 A) D G A ad 0 0 9 Z 107 [(0, .ref (ad 2 0)), (1, .ref (ad 10 x1)), (2, .int x2), (3, .int x3), (6, .int x6), (8, .int x8)] [] := by
    intro k19 hk19 x1 x2 x3 x6 x8 h H locs ls hI hN hS hl
    unfold fX2_bestSeat_107 at h
    refine lv_iload hx hb dX2_bestSeat_107 (lv_at hl 4 rfl) ?_
    refine lv_istore (lv' := [(4, .int x6), (0, .ref (ad 2 0)), (1, .ref (ad 10 x1)), (2, .int x2), (3, .int x3), (6, .int x6), (8, .int x8)]) hx hb dX2_bestSeat_109 hl (by decide) rfl (fun ls hl => ?_)
    refine lv_iload hx hb dX2_bestSeat_111 (lv_at hl 6 rfl) ?_
    refine lv_istore (lv' := [(5, .int x8), (4, .int x6), (0, .ref (ad 2 0)), (1, .ref (ad 10 x1)), (2, .int x2), (3, .int x3), (6, .int x6), (8, .int x8)]) hx hb dX2_bestSeat_113 hl (by decide) rfl (fun ls hl => ?_)
    exact w115 k19 hk19 x1 x2 x3 x6 x8 x6 h _ _ _ hI hN hS (lv_sub hl [2, 3, 4, 5, 1, 0, 6] rfl)
  have w73 : ∀ (k19 : Nat → Int32 → Int32 → Int32 → Int32 → Int32 → Option (Int32)) (hk19 : (∀ (x1 : Nat) (x2 : Int32) (x3 : Int32) (x4 : Int32) (x5 : Int32) (x6 : Int32), k19 x1 x2 x3 x4 x5 x6 = some rz → cG p l e (headSpec wsX2_bestSeat rmX2_bestSeat).room s m (([.ref (ad 2 0), .ref (ad 10 a1), .int a2, .int a3] : List Value).toArray) below meth c (MQ below (cQi D G A ad rz Z) (([.ref (ad 2 0), .ref (ad 10 a1), .int a2, .int a3] : List Value).toArray) s 0 0 A) D G A ad 0 0 9 Z 19 [(0, .ref (ad 2 0)), (1, .ref (ad 10 x1)), (2, .int x2), (3, .int x3), (4, .int x4), (5, .int x5), (6, .int x6)] [])) (x1 : Nat) (x2 : Int32) (x3 : Int32) (x4 : Int32) (x5 : Int32) (x6 : Int32) (x7 : Int32) (t0 : Int32) (t1 : Int32) (t2 : Nat) (t3 : Int32), fX2_bestSeat_73 Z k19 x1 x2 x3 x4 x5 x6 x7 t0 t1 t2 t3 = some rz → cG p l e (headSpec wsX2_bestSeat rmX2_bestSeat).room s m (([.ref (ad 2 0), .ref (ad 10 a1), .int a2, .int a3] : List Value).toArray) below meth c (MQ below (cQi D G A ad rz Z) (([.ref (ad 2 0), .ref (ad 10 a1), .int a2, .int a3] : List Value).toArray) s 0 0 A) D G A ad 0 0 9 Z 73 [(0, .ref (ad 2 0)), (1, .ref (ad 10 x1)), (2, .int x2), (3, .int x3), (4, .int x4), (5, .int x5), (6, .int x6), (7, .int x7)] [.int t0, .int t1, .ref (ad 10 t2), .int t3] := by
    intro k19 hk19 x1 x2 x3 x4 x5 x6 x7 t0 t1 t2 t3 h H locs ls hI hN hS hl
    unfold fX2_bestSeat_73 at h
    refine lv_iload hx hb dX2_bestSeat_73 (lv_at hl 7 rfl) ?_
    obtain ⟨v17, c18, h⟩ := cl1_ok h
    refine cg_calli (va_runS (As := [.ref (ad 10 t2), .int t1, .int t0, .int x7]) (rest := [.int t3]) ⟨hx, hb, hml, hown, hts⟩ (mX2_leapsInto l D G A ad Z t2 t1 t0 x7 v17 c18) (va_cwS 4 hts gX2_bestSeat_X2_leapsInto rfl rfl rfl (by decide +kernel) ⟨Nat.le_of_ble_eq_true rfl, Nat.le_of_ble_eq_true rfl⟩) (cg_preS hI hK hN) rfl rfl hl.1 rfl (lv_room (Nat.le_of_ble_eq_true rfl)) dX2_bestSeat_75 ⟨Nat.le_of_ble_eq_true rfl, Nat.le_of_ble_eq_true rfl⟩) hS (fun H locs hI hN hS => ?_)
    refine lv_iadd hx hb dX2_bestSeat_78 ?_
    refine lv_topi (fun v19 ev19 => ?_)
    have h := bnd_ok h ev19
    refine lv_istore (lv' := [(8, .int v19), (0, .ref (ad 2 0)), (1, .ref (ad 10 x1)), (2, .int x2), (3, .int x3), (4, .int x4), (5, .int x5), (6, .int x6), (7, .int x7)]) hx hb dX2_bestSeat_79 hl (by decide) rfl (fun ls hl => ?_)
    refine lv_aload_n hx hb dX2_bestSeat_81 rfl (lv_at hl 1 rfl) ?_
    refine cg_get (T := TX2) (N := 2) (ci := 3) hx hb hts iwsX20 hown hK hN rfl rfl rfl 1 (by decide) l4 rfl (v := .ref (ad 17 0)) rfl dX2_bestSeat_82 ?_
    refine lv_iload_n hx hb dX2_bestSeat_85 rfl (lv_at hl 3 rfl) ?_
    obtain ⟨g20, h⟩ := gd_ok h
    have ng20 : Int32.toNatClampNeg x2 < 6 := Nat.not_le.mp fun q => gin_ok g20 (Or.inr q)
    refine cg_ald hx hb hK hN rfl rfl (gin_ok g20) (if_pos ng20) dX2_bestSeat_86 ?_
    refine lv_iload hx hb dX2_bestSeat_87 (lv_at hl 7 rfl) ?_
    obtain ⟨g21, h⟩ := gd_ok h
    refine cg_ild hx hb hK hN (decide_eq_true ng20) rfl (gin_ok g21) dX2_bestSeat_89 ?_
    refine lv_iconst (v := (-1 : Int32)) hx hb dX2_bestSeat_90 (by decide) ?_
    refine lv_icmp_eq (tgt := 115) hx hb dX2_bestSeat_91 (by decide) (fun hc => ?_) (fun hc => ?_)
    · have h := ite_t h hc
      exact w115 k19 hk19 x1 x2 x3 x4 x5 x6 h _ _ _ hI hN hS (lv_sub hl [1, 2, 3, 4, 5, 6, 7] rfl)
    · have h := ite_f h hc
      refine lv_iload hx hb dX2_bestSeat_94 (lv_at hl 5 rfl) ?_
      refine lv_iconst (v := (-1 : Int32)) hx hb dX2_bestSeat_96 (by decide) ?_
      refine lv_icmp_eq (tgt := 107) hx hb dX2_bestSeat_97 (by decide) (fun hc => ?_) (fun hc => ?_)
      · have h := ite_t h hc
        exact w107 k19 hk19 x1 x2 x3 x6 v19 h _ _ _ hI hN hS (lv_sub hl [1, 2, 3, 4, 7, 0] rfl)
      · have h := ite_f h hc
        refine lv_iload hx hb dX2_bestSeat_100 (lv_at hl 0 rfl) ?_
        refine lv_iload hx hb dX2_bestSeat_102 (lv_at hl 6 rfl) ?_
        refine lv_icmp_ge (tgt := 115) hx hb dX2_bestSeat_104 (by decide) (fun hc => ?_) (fun hc => ?_)
        · have h := ite_t h hc
          exact w115 k19 hk19 x1 x2 x3 x4 x5 x6 h _ _ _ hI hN hS (lv_sub hl [1, 2, 3, 4, 5, 6, 7] rfl)
        · have h := ite_f h hc
          exact w107 k19 hk19 x1 x2 x3 x6 v19 h _ _ _ hI hN hS (lv_sub hl [1, 2, 3, 4, 7, 0] rfl)
  have w121 : ∀ (x4 : Int32), fX2_bestSeat_121 Z x4 = some rz → cG p l e (headSpec wsX2_bestSeat rmX2_bestSeat).room s m (([.ref (ad 2 0), .ref (ad 10 a1), .int a2, .int a3] : List Value).toArray) below meth c (MQ below (cQi D G A ad rz Z) (([.ref (ad 2 0), .ref (ad 10 a1), .int a2, .int a3] : List Value).toArray) s 0 0 A) D G A ad 0 0 9 Z 121 [(4, .int x4)] [] := by
    intro  x4 h H locs ls hI hN hS hl
    unfold fX2_bestSeat_121 at h
    refine lv_iload hx hb dX2_bestSeat_121 (lv_at hl 0 rfl) ?_
    exact W.iret hx hb hr (cg_endr h hI hK hN hS) hS.2.2 dX2_bestSeat_123
  have w19 : ∀ (x1 : Nat) (x2 : Int32) (x3 : Int32) (x4 : Int32) (x5 : Int32) (x6 : Int32), lf6 (fX2_bestSeat_19 Z) 100 x1 x2 x3 x4 x5 x6 = some rz → cG p l e (headSpec wsX2_bestSeat rmX2_bestSeat).room s m (([.ref (ad 2 0), .ref (ad 10 a1), .int a2, .int a3] : List Value).toArray) below meth c (MQ below (cQi D G A ad rz Z) (([.ref (ad 2 0), .ref (ad 10 a1), .int a2, .int a3] : List Value).toArray) s 0 0 A) D G A ad 0 0 9 Z 19 [(0, .ref (ad 2 0)), (1, .ref (ad 10 x1)), (2, .int x2), (3, .int x3), (4, .int x4), (5, .int x5), (6, .int x6)] [] := by
    refine lf6_ok (P := (fun x1 x2 x3 x4 x5 x6 => cG p l e (headSpec wsX2_bestSeat rmX2_bestSeat).room s m (([.ref (ad 2 0), .ref (ad 10 a1), .int a2, .int a3] : List Value).toArray) below meth c (MQ below (cQi D G A ad rz Z) (([.ref (ad 2 0), .ref (ad 10 a1), .int a2, .int a3] : List Value).toArray) s 0 0 A) D G A ad 0 0 9 Z 19 [(0, .ref (ad 2 0)), (1, .ref (ad 10 x1)), (2, .int x2), (3, .int x3), (4, .int x4), (5, .int x5), (6, .int x6)] [])) (fun k19 hk19 x1 x2 x3 x4 x5 x6 h H locs ls hI hN hS hl => ?_) 100
    unfold fX2_bestSeat_19 at h
    refine lv_iload hx hb dX2_bestSeat_19 (lv_at hl 6 rfl) ?_
    refine lv_aload_n hx hb dX2_bestSeat_21 rfl (lv_at hl 1 rfl) ?_
    obtain ⟨g4, h⟩ := gd_ok h
    refine cg_get (T := TX0) (N := 7) (ci := 1) hx hb hts iwsX00 hown hK hN g4 rfl rfl 0 (by decide) l0 rfl (v := .ref (ad 3 (x1 + 4))) rfl dX2_bestSeat_22 ?_
    obtain ⟨g5, h⟩ := gd_ok h
    obtain ⟨v6, c7, h⟩ := cl1_ok h
    refine cg_calli (va_runV (As := []) (rest := [.int x6]) ⟨hx, hb, hml, hown, hts⟩ (mJx4a65c_size_8abf5 l D G A ad Z (x1 + 4) v6 c7) (cwV 0 hts gX2_bestSeat_Jx4a65c_size_8abf5 rfl rfl rfl (by decide +kernel) ⟨Nat.le_of_ble_eq_true rfl, Nat.le_of_ble_eq_true rfl⟩) (cg_preV hI hK hN g5 rfl (ci := 0) rfl) rfl rfl hl.1 rfl (lv_room (Nat.le_of_ble_eq_true rfl)) dX2_bestSeat_25 ⟨Nat.le_of_ble_eq_true rfl, Nat.le_of_ble_eq_true rfl⟩) hS (fun H locs hI hN hS => ?_)
    refine lv_icmp_ge (tgt := 121) hx hb dX2_bestSeat_28 (by decide) (fun hc => ?_) (fun hc => ?_)
    · have h := ite_t h hc
      exact w121  x4 h _ _ _ hI hN hS (lv_sub hl [4] rfl)
    · have h := ite_f h hc
      refine lv_aload_n hx hb dX2_bestSeat_31 rfl (lv_at hl 1 rfl) ?_
      refine cg_get (T := TX0) (N := 7) (ci := 1) hx hb hts iwsX00 hown hK hN g4 rfl rfl 0 (by decide) l0 rfl (v := .ref (ad 3 (x1 + 4))) rfl dX2_bestSeat_32 ?_
      refine lv_iload hx hb dX2_bestSeat_35 (lv_at hl 6 rfl) ?_
      obtain ⟨q8, c9, h⟩ := cl1_ok h
      refine cg_callr (k := 13) (q := q8) (va_runV (As := [.int x6]) (rest := []) ⟨hx, hb, hml, hown, hts⟩ (mJx4a65c_get_915e3 l D G A ad Z (x1 + 4) x6 q8 c9) (cwV 1 hts gX2_bestSeat_Jx4a65c_get_915e3 rfl rfl rfl (by decide +kernel) ⟨Nat.le_of_ble_eq_true rfl, Nat.le_of_ble_eq_true rfl⟩) (cg_preV hI hK hN g5 rfl (ci := 0) rfl) rfl rfl hl.1 rfl (lv_room (Nat.le_of_ble_eq_true rfl)) dX2_bestSeat_37 ⟨Nat.le_of_ble_eq_true rfl, Nat.le_of_ble_eq_true rfl⟩) hS (fun H locs hI hN hS => ?_)
      obtain ⟨g10, h⟩ := gd_ok h
      refine va_castS hx hb hown l1 (hK.1.1 6 _ rfl).2 (cg_recv hK hN g10 rfl (ci := 6) rfl) dX2_bestSeat_40 ?_
      obtain ⟨q11, c12, h⟩ := cl1_ok h
      refine cg_get (T := TX5) (N := 2) (ci := 6) hx hb hts iwsX50 hown hK hN g10 rfl rfl 0 (by decide) l2 rfl (v := .ref (ad 9 q11)) (congrArg (fun o => some (va_rf (Option.map (ad 9) o))) c12) dX2_bestSeat_43 ?_
      obtain ⟨g13, h⟩ := gd_ok h
      refine cg_get (T := TX4) (N := 6) (ci := 5) hx hb hts iwsX40 hown hK hN g13 rfl rfl 1 (by decide) l3 rfl (v := .int (Z.1 9 q11 1)) rfl dX2_bestSeat_46 ?_
      refine lv_topi (fun v14 ev14 => ?_)
      have h := bnd_ok h ev14
      refine lv_istore (lv' := [(7, .int v14), (0, .ref (ad 2 0)), (1, .ref (ad 10 x1)), (2, .int x2), (3, .int x3), (4, .int x4), (5, .int x5), (6, .int x6)]) hx hb dX2_bestSeat_49 hl (by decide) rfl (fun ls hl => ?_)
      refine lv_aload_n hx hb dX2_bestSeat_51 rfl (lv_at hl 1 rfl) ?_
      refine cg_get (T := TX2) (N := 2) (ci := 3) hx hb hts iwsX20 hown hK hN rfl rfl rfl 1 (by decide) l4 rfl (v := .ref (ad 17 0)) rfl dX2_bestSeat_52 ?_
      refine lv_iload_n hx hb dX2_bestSeat_55 rfl (lv_at hl 3 rfl) ?_
      obtain ⟨g15, h⟩ := gd_ok h
      have ng15 : Int32.toNatClampNeg x2 < 6 := Nat.not_le.mp fun q => gin_ok g15 (Or.inr q)
      refine cg_ald hx hb hK hN rfl rfl (gin_ok g15) (if_pos ng15) dX2_bestSeat_56 ?_
      refine lv_iload hx hb dX2_bestSeat_57 (lv_at hl 7 rfl) ?_
      obtain ⟨g16, h⟩ := gd_ok h
      refine cg_ild hx hb hK hN (decide_eq_true ng15) rfl (gin_ok g16) dX2_bestSeat_59 ?_
      refine lv_aload_n hx hb dX2_bestSeat_60 rfl (lv_at hl 2 rfl) ?_
      refine lv_iload_n hx hb dX2_bestSeat_61 rfl (lv_at hl 3 rfl) ?_
      refine lv_iload hx hb dX2_bestSeat_62 (lv_at hl 7 rfl) ?_
      refine lv_iload_n hx hb dX2_bestSeat_64 rfl (lv_at hl 4 rfl) ?_
      refine lv_icmp_ne (tgt := 72) hx hb dX2_bestSeat_65 (by decide) (fun hc => ?_) (fun hc => ?_)
      · have h := ite_f h hc
        refine lv_iconst (v := (0 : Int32)) hx hb dX2_bestSeat_72 (by decide) ?_
        exact w73 k19 hk19 x1 x2 x3 x4 x5 x6 v14 (0 : Int32) x2 x1 (Z.1 18 (Int32.toNatClampNeg x2) (Int32.toNatClampNeg x6)) h _ _ _ hI hN hS (lv_sub hl [1, 2, 3, 4, 5, 6, 7, 0] rfl)
      · have h := ite_t h hc
        refine lv_iconst (v := (1 : Int32)) hx hb dX2_bestSeat_68 (by decide) ?_
        refine lv_goto (tgt := 73) hx hb dX2_bestSeat_69 (by decide) ?_
        exact w73 k19 hk19 x1 x2 x3 x4 x5 x6 v14 (1 : Int32) x2 x1 (Z.1 18 (Int32.toNatClampNeg x2) (Int32.toNatClampNeg x6)) h _ _ _ hI hN hS (lv_sub hl [1, 2, 3, 4, 5, 6, 7, 0] rfl)
  unfold fX2_bestSeat at h
  refine lv_iconst (v := (-1 : Int32)) hx hb dX2_bestSeat_0 (by decide) ?_
  refine lv_istore (lv' := [(4, .int (-1 : Int32)), (0, .ref (ad 2 0)), (1, .ref (ad 10 a1)), (2, .int a2), (3, .int a3)]) hx hb dX2_bestSeat_1 hl (by decide) rfl (fun ls hl => ?_)
  refine lv_iconst (v := (0 : Int32)) hx hb dX2_bestSeat_3 (by decide) ?_
  refine lv_istore (lv' := [(5, .int (0 : Int32)), (4, .int (-1 : Int32)), (0, .ref (ad 2 0)), (1, .ref (ad 10 a1)), (2, .int a2), (3, .int a3)]) hx hb dX2_bestSeat_4 hl (by decide) rfl (fun ls hl => ?_)
  refine lv_iload_n hx hb dX2_bestSeat_6 rfl (lv_at hl 4 rfl) ?_
  refine lv_aload_n hx hb dX2_bestSeat_7 rfl (lv_at hl 3 rfl) ?_
  obtain ⟨g1, h⟩ := gd_ok h
  obtain ⟨v2, c3, h⟩ := cl1_ok h
  refine cg_calli (va_runV (As := []) (rest := [.int a2]) ⟨hx, hb, hml, hown, hts⟩ (mX0_phraseCount l D G A ad Z a1 v2 c3) (cwV 0 hts gX2_bestSeat_X0_phraseCount rfl rfl rfl (by decide +kernel) ⟨Nat.le_of_ble_eq_true rfl, Nat.le_of_ble_eq_true rfl⟩) (cg_preV hI hK hN g1 rfl (ci := 1) rfl) rfl rfl hl.1 rfl (lv_room (Nat.le_of_ble_eq_true rfl)) dX2_bestSeat_8 ⟨Nat.le_of_ble_eq_true rfl, Nat.le_of_ble_eq_true rfl⟩) hS (fun H locs hI hN hS => ?_)
  refine lv_icmp_lt (tgt := 16) hx hb dX2_bestSeat_11 (by decide) (fun hc => ?_) (fun hc => ?_)
  · have h := ite_t h hc
    refine lv_iconst (v := (0 : Int32)) hx hb dX2_bestSeat_16 (by decide) ?_
    refine lv_istore (lv' := [(6, .int (0 : Int32)), (5, .int (0 : Int32)), (4, .int (-1 : Int32)), (0, .ref (ad 2 0)), (1, .ref (ad 10 a1)), (2, .int a2), (3, .int a3)]) hx hb dX2_bestSeat_17 hl (by decide) rfl (fun ls hl => ?_)
    exact w19  a1 a2 a3 (-1 : Int32) (0 : Int32) (0 : Int32) h _ _ _ hI hN hS (lv_sub hl [3, 4, 5, 6, 2, 1, 0] rfl)
  · have h := ite_f h hc
    refine lv_iconst (v := (-1 : Int32)) hx hb dX2_bestSeat_14 (by decide) ?_
    exact W.iret hx hb hr (cg_endr h hI hK hN hS) hS.2.2 dX2_bestSeat_15
def fX2_leapsInside_48 (Z : CZ) (x3 : Int32) : Option (Int32) := some x3
def fX2_leapsInside_7 (Z : CZ) (k7 : Nat → Int32 → Int32 → Int32 → Int32 → Option (Int32)) (x0 : Nat) (x1 : Int32) (x2 : Int32) (x3 : Int32) (x4 : Int32) : Option (Int32) := (if (((x1 * (4 : Int32)) + (4 : Int32)) - (1 : Int32)) ≤ x4 then fX2_leapsInside_48 Z x3 else gd (cLv Z.2.2 10 x0) (gd (gin x4 24) (gd (gin (x4 + (1 : Int32)) 24) (cl1 (fX2_leapBetween x2 (Z.1 11 x0 (Int32.toNatClampNeg x4)) (Z.1 11 x0 (Int32.toNatClampNeg (x4 + (1 : Int32)))) Z) (fun v5 => bnd (x3 + v5) (fun v7 => bnd (x4 + (1 : Int32)) (fun v8 => k7 x0 x1 x2 v7 v8)))))))
def fX2_leapsInside (a1 : Nat) (a2 : Int32) (a3 : Int32) (Z : CZ) : Option (Int32) := bnd (a2 * (4 : Int32)) (fun v1 => lf5 (fX2_leapsInside_7 Z) 100 a1 a2 a3 (0 : Int32) v1)
def rmX2_leapsInside : Room := { frames := 3, cells := 0, slots := 0, locals := 74 }
set_option maxHeartbeats 4000000 in
set_option maxRecDepth 100000 in
theorem mX2_leapsInside (l : Launch) (D : va_G) (G : CGT) (A : Nat → Prop) (ad : Nat → Nat → Nat) (Z : CZ) (a1 : Nat) (a2 : Int32) (a3 : Int32) (rz : Int32) (h : fX2_leapsInside a1 a2 a3 Z = some rz) : Met l yX2_leapsInside wsX2_leapsInside rmX2_leapsInside (va_Pc [.ref (ad 10 a1), .int a2, .int a3] (cP D G A ad Z)) (cQi D G A ad rz Z) 0 0 A := by
  refine Met.ofW (cc := cX2_leapsInside) (maxL := 5) (ret := some .int) (by decide) rfl ?_
  intro p e s m args below meth c s₁ B hml hv
  obtain ⟨rfl, hI, hN, hK⟩ := hv
  have hx := B.exec
  have hb := B.bytes
  have hr := B.returns
  have hts := atoms_spec (ws := wsX2_leapsInside) B.pre
  have hown : s.vm.findClass RX2 = some m.cls := findClass_of_methodNamed B.named
  have hlocks := B.notSynchronized
  have iwsX00 : ∀ w ∈ wsX00, w ∈ wsX2_leapsInside := fun w h => List.mem_cons_of_mem _ (List.mem_append_right _ h)
  have l0 := hts (.fieldLink RX2 77 "Panyard$Band" "song" "[I") (List.mem_of_getElem? (i := 1) rfl)
  have hS : va_S A s.heap s.heap [] := va_S.rf
  have hl := lv_entry ([.ref (ad 10 a1), .int a2, .int a3]) (n := 5) (Nat.le_of_ble_eq_true rfl)
  rw [lg_entry_eq]
  generalize (lg_sl ([.ref (ad 10 a1), .int a2, .int a3]) ++ List.replicate (5 - (lg_sl ([.ref (ad 10 a1), .int a2, .int a3])).length) Slot.unset).toArray = ls at hl ⊢
  have hl : lv_has ls 5 [(0, .ref (ad 10 a1)), (1, .int a2), (2, .int a3)] := hl
  have w48 : ∀ (x3 : Int32), fX2_leapsInside_48 Z x3 = some rz → cG p l e (headSpec wsX2_leapsInside rmX2_leapsInside).room s m (([.ref (ad 10 a1), .int a2, .int a3] : List Value).toArray) below meth c (MQ below (cQi D G A ad rz Z) (([.ref (ad 10 a1), .int a2, .int a3] : List Value).toArray) s 0 0 A) D G A ad 0 0 5 Z 48 [(3, .int x3)] [] := by
    intro  x3 h H locs ls hI hN hS hl
    unfold fX2_leapsInside_48 at h
    refine lv_iload_n hx hb dX2_leapsInside_48 rfl (lv_at hl 0 rfl) ?_
    exact W.iret hx hb hr (cg_endr h hI hK hN hS) hS.2.2 dX2_leapsInside_49
  have w7 : ∀ (x0 : Nat) (x1 : Int32) (x2 : Int32) (x3 : Int32) (x4 : Int32), lf5 (fX2_leapsInside_7 Z) 100 x0 x1 x2 x3 x4 = some rz → cG p l e (headSpec wsX2_leapsInside rmX2_leapsInside).room s m (([.ref (ad 10 a1), .int a2, .int a3] : List Value).toArray) below meth c (MQ below (cQi D G A ad rz Z) (([.ref (ad 10 a1), .int a2, .int a3] : List Value).toArray) s 0 0 A) D G A ad 0 0 5 Z 7 [(0, .ref (ad 10 x0)), (1, .int x1), (2, .int x2), (3, .int x3), (4, .int x4)] [] := by
    refine lf5_ok (P := (fun x0 x1 x2 x3 x4 => cG p l e (headSpec wsX2_leapsInside rmX2_leapsInside).room s m (([.ref (ad 10 a1), .int a2, .int a3] : List Value).toArray) below meth c (MQ below (cQi D G A ad rz Z) (([.ref (ad 10 a1), .int a2, .int a3] : List Value).toArray) s 0 0 A) D G A ad 0 0 5 Z 7 [(0, .ref (ad 10 x0)), (1, .int x1), (2, .int x2), (3, .int x3), (4, .int x4)] [])) (fun k7 hk7 x0 x1 x2 x3 x4 h H locs ls hI hN hS hl => ?_) 100
    unfold fX2_leapsInside_7 at h
    refine lv_iload hx hb dX2_leapsInside_7 (lv_at hl 4 rfl) ?_
    refine lv_iload_n hx hb dX2_leapsInside_9 rfl (lv_at hl 1 rfl) ?_
    refine lv_iconst (v := (4 : Int32)) hx hb dX2_leapsInside_10 (by decide) ?_
    refine lv_imul hx hb dX2_leapsInside_11 ?_
    refine lv_iconst (v := (4 : Int32)) hx hb dX2_leapsInside_12 (by decide) ?_
    refine lv_iadd hx hb dX2_leapsInside_13 ?_
    refine lv_iconst (v := (1 : Int32)) hx hb dX2_leapsInside_14 (by decide) ?_
    refine lv_isub hx hb dX2_leapsInside_15 ?_
    refine lv_icmp_ge (tgt := 48) hx hb dX2_leapsInside_16 (by decide) (fun hc => ?_) (fun hc => ?_)
    · have h := ite_t h hc
      exact w48  x3 h _ _ _ hI hN hS (lv_sub hl [3] rfl)
    · have h := ite_f h hc
      refine lv_iload_n hx hb dX2_leapsInside_19 rfl (lv_at hl 3 rfl) ?_
      refine lv_iload_n hx hb dX2_leapsInside_20 rfl (lv_at hl 2 rfl) ?_
      refine lv_aload_n hx hb dX2_leapsInside_21 rfl (lv_at hl 0 rfl) ?_
      obtain ⟨g2, h⟩ := gd_ok h
      refine cg_get (T := TX0) (N := 7) (ci := 1) hx hb hts iwsX00 hown hK hN g2 rfl rfl 1 (by decide) l0 rfl (v := .ref (ad 11 x0)) rfl dX2_leapsInside_22 ?_
      refine lv_iload hx hb dX2_leapsInside_25 (lv_at hl 4 rfl) ?_
      obtain ⟨g3, h⟩ := gd_ok h
      refine cg_ild hx hb hK hN g2 rfl (gin_ok g3) dX2_leapsInside_27 ?_
      refine lv_aload_n hx hb dX2_leapsInside_28 rfl (lv_at hl 0 rfl) ?_
      refine cg_get (T := TX0) (N := 7) (ci := 1) hx hb hts iwsX00 hown hK hN g2 rfl rfl 1 (by decide) l0 rfl (v := .ref (ad 11 x0)) rfl dX2_leapsInside_29 ?_
      refine lv_iload hx hb dX2_leapsInside_32 (lv_at hl 4 rfl) ?_
      refine lv_iconst (v := (1 : Int32)) hx hb dX2_leapsInside_34 (by decide) ?_
      refine lv_iadd hx hb dX2_leapsInside_35 ?_
      obtain ⟨g4, h⟩ := gd_ok h
      refine cg_ild hx hb hK hN g2 rfl (gin_ok g4) dX2_leapsInside_36 ?_
      obtain ⟨v5, c6, h⟩ := cl1_ok h
      refine cg_calli (va_runS (As := [.int x2, .int (Z.1 11 x0 (Int32.toNatClampNeg x4)), .int (Z.1 11 x0 (Int32.toNatClampNeg (x4 + (1 : Int32))))]) (rest := [.int x3]) ⟨hx, hb, hml, hown, hts⟩ (mX2_leapBetween l D G A ad Z x2 (Z.1 11 x0 (Int32.toNatClampNeg x4)) (Z.1 11 x0 (Int32.toNatClampNeg (x4 + (1 : Int32)))) v5 c6) (va_cwS 3 hts gX2_leapsInside_X2_leapBetween rfl rfl rfl (by decide +kernel) ⟨Nat.le_of_ble_eq_true rfl, Nat.le_of_ble_eq_true rfl⟩) (cg_preS hI hK hN) rfl rfl hl.1 rfl (lv_room (Nat.le_of_ble_eq_true rfl)) dX2_leapsInside_37 ⟨Nat.le_of_ble_eq_true rfl, Nat.le_of_ble_eq_true rfl⟩) hS (fun H locs hI hN hS => ?_)
      refine lv_iadd hx hb dX2_leapsInside_40 ?_
      refine lv_topi (fun v7 ev7 => ?_)
      have h := bnd_ok h ev7
      refine lv_istore_n (lv' := [(3, .int v7), (0, .ref (ad 10 x0)), (1, .int x1), (2, .int x2), (4, .int x4)]) hx hb dX2_leapsInside_41 rfl hl (by decide) rfl (fun ls hl => ?_)
      obtain ⟨v8, ev8⟩ : ∃ y : Int32, y = (x4 + (1 : Int32)) := ⟨_, rfl⟩
      have h := bnd_ok h ev8
      refine lv_iinc (v := v8) (lv' := [(4, .int v8), (3, .int v7), (0, .ref (ad 10 x0)), (1, .int x1), (2, .int x2)]) hx hb dX2_leapsInside_42 hl (k := 4) rfl (by rw [ev8]; rfl) (by decide) rfl (fun ls hl => ?_)
      refine lv_goto (tgt := 7) hx hb dX2_leapsInside_45 (by decide) ?_
      exact hk7 x0 x1 x2 v7 v8 h _ _ _ hI hN hS (lv_sub hl [2, 3, 4, 1, 0] rfl)
  unfold fX2_leapsInside at h
  refine lv_iconst (v := (0 : Int32)) hx hb dX2_leapsInside_0 (by decide) ?_
  refine lv_istore_n (lv' := [(3, .int (0 : Int32)), (0, .ref (ad 10 a1)), (1, .int a2), (2, .int a3)]) hx hb dX2_leapsInside_1 rfl hl (by decide) rfl (fun ls hl => ?_)
  refine lv_iload_n hx hb dX2_leapsInside_2 rfl (lv_at hl 2 rfl) ?_
  refine lv_iconst (v := (4 : Int32)) hx hb dX2_leapsInside_3 (by decide) ?_
  refine lv_imul hx hb dX2_leapsInside_4 ?_
  refine lv_topi (fun v1 ev1 => ?_)
  have h := bnd_ok h ev1
  refine lv_istore (lv' := [(4, .int v1), (3, .int (0 : Int32)), (0, .ref (ad 10 a1)), (1, .int a2), (2, .int a3)]) hx hb dX2_leapsInside_5 hl (by decide) rfl (fun ls hl => ?_)
  exact w7  a1 a2 a3 (0 : Int32) v1 h _ _ _ hI hN hS (lv_sub hl [2, 3, 4, 1, 0] rfl)
def fX2_countFewest_148 (k6 : Nat → Int32 → Int32 → Int32 → Int32 → CZ → Option (Int32 × CZ)) (x1 : Nat) (x2 : Int32) (x3 : Int32) (x4 : Int32) (x5 : Int32) (Z : CZ) : Option (Int32 × CZ) := bnd (x5 + (1 : Int32)) (fun v20 => k6 x1 x2 x3 x4 v20 Z)
def fX2_countFewest_124 (k6 : Nat → Int32 → Int32 → Int32 → Int32 → CZ → Option (Int32 × CZ)) (x1 : Nat) (x2 : Int32) (x3 : Int32) (x5 : Int32) (x7 : Int32) (t0 : Int32) (Z : CZ) : Option (Int32 × CZ) := gd (gin x2 6) (cl1 (fX2_leapsInside x1 x2 x7 Z) (fun v25 => gd (gin x5 8) (bnd (cuI Z 18 (Int32.toNatClampNeg x2) (upd (Z.1 18 (Int32.toNatClampNeg x2)) (Int32.toNatClampNeg x5) (v25 + t0))) (fun Z28 => fX2_countFewest_148 k6 x1 x2 x3 (1 : Int32) x5 Z28))))
def fX2_countFewest_118 (k6 : Nat → Int32 → Int32 → Int32 → Int32 → CZ → Option (Int32 × CZ)) (x1 : Nat) (x2 : Int32) (x3 : Int32) (x5 : Int32) (x7 : Int32) (t0 : Int32) (t1 : Int32) (t2 : Nat) (t3 : Int32) (Z : CZ) : Option (Int32 × CZ) := cl1 (fX2_leapsInto t2 t1 t0 x7 Z) (fun v21 => fX2_countFewest_124 k6 x1 x2 x3 x5 x7 (t3 + v21) Z)
def fX2_countFewest_154 (x4 : Int32) (Z : CZ) : Option (Int32 × CZ) := gd (gbo x4) (some (x4, Z))
def fX2_countFewest_6 (k6 : Nat → Int32 → Int32 → Int32 → Int32 → CZ → Option (Int32 × CZ)) (x1 : Nat) (x2 : Int32) (x3 : Int32) (x4 : Int32) (x5 : Int32) (Z : CZ) : Option (Int32 × CZ) := gd (cLv Z.2.2 10 x1) (gd (cLv Z.2.2 3 (x1 + 4)) (cl1 (fJx4a65c_size_8abf5 (x1 + 4) Z) (fun v3 => (if v3 ≤ x5 then fX2_countFewest_154 x4 Z else cl1 (fJx4a65c_get_915e3 (x1 + 4) x5 Z) (fun q5 => gd (cLv Z.2.2 13 q5) (gd (gin x2 6) (gd (gin x5 8) (bnd (cuI Z 18 (Int32.toNatClampNeg x2) (upd (Z.1 18 (Int32.toNatClampNeg x2)) (Int32.toNatClampNeg x5) (-1 : Int32))) (fun Z10 => (if x5 = x3 then fX2_countFewest_148 k6 x1 x2 x3 x4 x5 Z10 else gd (gin x2 6) ((if (Z10.1 14 q5 (Int32.toNatClampNeg x2)) = (1 : Int32) then cl1 (Z10.2.1 13 q5 0) (fun q12 => gd (cLv Z10.2.2 9 q12) (bnd (Z10.1 9 q12 1) (fun v15 => cl1 (fX2_bestSeat x1 (x2 + (1 : Int32)) x5 Z10) (fun v16 => (if v16 = (-1 : Int32) then fX2_countFewest_124 k6 x1 x2 x3 x5 v15 (0 : Int32) Z10 else gd (gin (x2 + (1 : Int32)) 6) (gd (gin v16 8) ((if v16 = x5 then fX2_countFewest_118 k6 x1 x2 x3 x5 v15 (1 : Int32) (x2 + (1 : Int32)) x1 (Z10.1 18 (Int32.toNatClampNeg (x2 + (1 : Int32))) (Int32.toNatClampNeg v16)) Z10 else fX2_countFewest_118 k6 x1 x2 x3 x5 v15 (0 : Int32) (x2 + (1 : Int32)) x1 (Z10.1 18 (Int32.toNatClampNeg (x2 + (1 : Int32))) (Int32.toNatClampNeg v16)) Z10)))))))) else fX2_countFewest_148 k6 x1 x2 x3 x4 x5 Z10))))))))))))
def fX2_countFewest (a1 : Nat) (a2 : Int32) (a3 : Int32) (Z : CZ) : Option (Int32 × CZ) := lf6 fX2_countFewest_6 100 a1 a2 a3 (0 : Int32) (0 : Int32) Z
def rmX2_countFewest : Room := { frames := 5, cells := 0, slots := 0, locals := 126 }
set_option maxHeartbeats 4000000 in
set_option maxRecDepth 100000 in
theorem mX2_countFewest (l : Launch) (D : va_G) (G : CGT) (A : Nat → Prop) (ad : Nat → Nat → Nat) (Z : CZ) (a1 : Nat) (a2 : Int32) (a3 : Int32) (rz : Int32) (Zz : CZ) (h : fX2_countFewest a1 a2 a3 Z = some (rz, Zz)) : Met l yX2_countFewest wsX2_countFewest rmX2_countFewest (va_Pc [.ref (ad 2 0), .ref (ad 10 a1), .int a2, .int a3] (cP D G A ad Z)) (cQi D G A ad rz Zz) 0 0 A := by
  refine Met.ofW (cc := cX2_countFewest) (maxL := 10) (ret := some .boolean) (by decide) rfl ?_
  intro p e s m args below meth c s₁ B hml hv
  obtain ⟨rfl, hI, hN, hK⟩ := hv
  have hx := B.exec
  have hb := B.bytes
  have hr := B.returns
  have hts := atoms_spec (ws := wsX2_countFewest) B.pre
  have hown : s.vm.findClass RX2 = some m.cls := findClass_of_methodNamed B.named
  have hlocks := B.notSynchronized
  have iwsX00 : ∀ w ∈ wsX00, w ∈ wsX2_countFewest := fun w h => List.mem_cons_of_mem _ (List.mem_append_left _ (List.mem_append_left _ (List.mem_append_left _ (List.mem_append_left _ (List.mem_append_right _ h)))))
  have iwsX20 : ∀ w ∈ wsX20, w ∈ wsX2_countFewest := fun w h => List.mem_cons_of_mem _ (List.mem_append_left _ (List.mem_append_left _ (List.mem_append_left _ (List.mem_append_right _ h))))
  have iwsX50 : ∀ w ∈ wsX50, w ∈ wsX2_countFewest := fun w h => List.mem_cons_of_mem _ (List.mem_append_left _ (List.mem_append_left _ (List.mem_append_right _ h)))
  have iwsX40 : ∀ w ∈ wsX40, w ∈ wsX2_countFewest := fun w h => List.mem_cons_of_mem _ (List.mem_append_left _ (List.mem_append_right _ h))
  have l0 := hts (.fieldLink RX2 34 "Panyard$Band" "seats" "Ljava/util/ArrayList;") (List.mem_of_getElem? (i := 1) rfl)
  have l1 := hts (.classLink RX2 51 "Panyard$Seat") (List.mem_of_getElem? (i := 2) rfl)
  have l2 := hts (.fieldLink RX2 17 "Panyard$Parts" "fewest" "[[I") (List.mem_of_getElem? (i := 3) rfl)
  have l3 := hts (.fieldLink RX2 63 "Panyard$Seat" "known" "[I") (List.mem_of_getElem? (i := 4) rfl)
  have l4 := hts (.fieldLink RX2 53 "Panyard$Seat" "player" "LPanyard$Player;") (List.mem_of_getElem? (i := 5) rfl)
  have l5 := hts (.fieldLink RX2 66 "Panyard$Player" "layout" "I") (List.mem_of_getElem? (i := 6) rfl)
  have hS : va_S A s.heap s.heap [] := va_S.rf
  have hl := lv_entry ([.ref (ad 2 0), .ref (ad 10 a1), .int a2, .int a3]) (n := 10) (Nat.le_of_ble_eq_true rfl)
  rw [lg_entry_eq]
  generalize (lg_sl ([.ref (ad 2 0), .ref (ad 10 a1), .int a2, .int a3]) ++ List.replicate (10 - (lg_sl ([.ref (ad 2 0), .ref (ad 10 a1), .int a2, .int a3])).length) Slot.unset).toArray = ls at hl ⊢
  have hl : lv_has ls 10 [(0, .ref (ad 2 0)), (1, .ref (ad 10 a1)), (2, .int a2), (3, .int a3)] := hl
  have w148 : ∀ (k6 : Nat → Int32 → Int32 → Int32 → Int32 → CZ → Option (Int32 × CZ)) (hk6 : (∀ (x1 : Nat) (x2 : Int32) (x3 : Int32) (x4 : Int32) (x5 : Int32) (Z : CZ), k6 x1 x2 x3 x4 x5 Z = some (rz, Zz) → cG p l e (headSpec wsX2_countFewest rmX2_countFewest).room s m (([.ref (ad 2 0), .ref (ad 10 a1), .int a2, .int a3] : List Value).toArray) below meth c (MQ below (cQi D G A ad rz Zz) (([.ref (ad 2 0), .ref (ad 10 a1), .int a2, .int a3] : List Value).toArray) s 0 0 A) D G A ad 0 0 10 Z 6 [(0, .ref (ad 2 0)), (1, .ref (ad 10 x1)), (2, .int x2), (3, .int x3), (4, .int x4), (5, .int x5)] [])) (x1 : Nat) (x2 : Int32) (x3 : Int32) (x4 : Int32) (x5 : Int32) (Z : CZ), fX2_countFewest_148 k6 x1 x2 x3 x4 x5 Z = some (rz, Zz) → cG p l e (headSpec wsX2_countFewest rmX2_countFewest).room s m (([.ref (ad 2 0), .ref (ad 10 a1), .int a2, .int a3] : List Value).toArray) below meth c (MQ below (cQi D G A ad rz Zz) (([.ref (ad 2 0), .ref (ad 10 a1), .int a2, .int a3] : List Value).toArray) s 0 0 A) D G A ad 0 0 10 Z 148 [(0, .ref (ad 2 0)), (1, .ref (ad 10 x1)), (2, .int x2), (3, .int x3), (4, .int x4), (5, .int x5)] [] := by
    intro k6 hk6 x1 x2 x3 x4 x5 Z h H locs ls hI hN hS hl
    unfold fX2_countFewest_148 at h
    obtain ⟨v20, ev20⟩ : ∃ y : Int32, y = (x5 + (1 : Int32)) := ⟨_, rfl⟩
    have h := bnd_ok h ev20
    refine lv_iinc (v := v20) (lv' := [(5, .int v20), (0, .ref (ad 2 0)), (1, .ref (ad 10 x1)), (2, .int x2), (3, .int x3), (4, .int x4)]) hx hb dX2_countFewest_148 hl (k := 5) rfl (by rw [ev20]; rfl) (by decide) rfl (fun ls hl => ?_)
    refine lv_goto (tgt := 6) hx hb dX2_countFewest_151 (by decide) ?_
    exact hk6 x1 x2 x3 x4 v20 Z h _ _ _ hI hN hS (lv_sub hl [1, 2, 3, 4, 5, 0] rfl)
  have w124 : ∀ (k6 : Nat → Int32 → Int32 → Int32 → Int32 → CZ → Option (Int32 × CZ)) (hk6 : (∀ (x1 : Nat) (x2 : Int32) (x3 : Int32) (x4 : Int32) (x5 : Int32) (Z : CZ), k6 x1 x2 x3 x4 x5 Z = some (rz, Zz) → cG p l e (headSpec wsX2_countFewest rmX2_countFewest).room s m (([.ref (ad 2 0), .ref (ad 10 a1), .int a2, .int a3] : List Value).toArray) below meth c (MQ below (cQi D G A ad rz Zz) (([.ref (ad 2 0), .ref (ad 10 a1), .int a2, .int a3] : List Value).toArray) s 0 0 A) D G A ad 0 0 10 Z 6 [(0, .ref (ad 2 0)), (1, .ref (ad 10 x1)), (2, .int x2), (3, .int x3), (4, .int x4), (5, .int x5)] [])) (x1 : Nat) (x2 : Int32) (x3 : Int32) (x5 : Int32) (x7 : Int32) (t0 : Int32) (Z : CZ), fX2_countFewest_124 k6 x1 x2 x3 x5 x7 t0 Z = some (rz, Zz) → cG p l e (headSpec wsX2_countFewest rmX2_countFewest).room s m (([.ref (ad 2 0), .ref (ad 10 a1), .int a2, .int a3] : List Value).toArray) below meth c (MQ below (cQi D G A ad rz Zz) (([.ref (ad 2 0), .ref (ad 10 a1), .int a2, .int a3] : List Value).toArray) s 0 0 A) D G A ad 0 0 10 Z 124 [(0, .ref (ad 2 0)), (1, .ref (ad 10 x1)), (2, .int x2), (3, .int x3), (5, .int x5), (7, .int x7)] [.int t0] := by
    intro k6 hk6 x1 x2 x3 x5 x7 t0 Z h H locs ls hI hN hS hl
    unfold fX2_countFewest_124 at h
    refine lv_istore (lv' := [(9, .int t0), (0, .ref (ad 2 0)), (1, .ref (ad 10 x1)), (2, .int x2), (3, .int x3), (5, .int x5), (7, .int x7)]) hx hb dX2_countFewest_124 hl (by decide) rfl (fun ls hl => ?_)
    refine lv_aload_n hx hb dX2_countFewest_126 rfl (lv_at hl 1 rfl) ?_
    refine cg_get (T := TX2) (N := 2) (ci := 3) hx hb hts iwsX20 hown hK hN rfl rfl rfl 1 (by decide) l2 rfl (v := .ref (ad 17 0)) rfl dX2_countFewest_127 ?_
    refine lv_iload_n hx hb dX2_countFewest_130 rfl (lv_at hl 3 rfl) ?_
    obtain ⟨g24, h⟩ := gd_ok h
    have ng24 : Int32.toNatClampNeg x2 < 6 := Nat.not_le.mp fun q => gin_ok g24 (Or.inr q)
    refine cg_ald hx hb hK hN rfl rfl (gin_ok g24) (if_pos ng24) dX2_countFewest_131 ?_
    refine lv_iload hx hb dX2_countFewest_132 (lv_at hl 5 rfl) ?_
    refine lv_aload_n hx hb dX2_countFewest_134 rfl (lv_at hl 2 rfl) ?_
    refine lv_iload_n hx hb dX2_countFewest_135 rfl (lv_at hl 3 rfl) ?_
    refine lv_iload hx hb dX2_countFewest_136 (lv_at hl 6 rfl) ?_
    obtain ⟨v25, c26, h⟩ := cl1_ok h
    refine cg_calli (va_runS (As := [.ref (ad 10 x1), .int x2, .int x7]) (rest := [.int x5, .ref (ad 18 (Int32.toNatClampNeg x2))]) ⟨hx, hb, hml, hown, hts⟩ (mX2_leapsInside l D G A ad Z x1 x2 x7 v25 c26) (va_cwS 3 hts gX2_countFewest_X2_leapsInside rfl rfl rfl (by decide +kernel) ⟨Nat.le_of_ble_eq_true rfl, Nat.le_of_ble_eq_true rfl⟩) (cg_preS hI hK hN) rfl rfl hl.1 rfl (lv_room (Nat.le_of_ble_eq_true rfl)) dX2_countFewest_138 ⟨Nat.le_of_ble_eq_true rfl, Nat.le_of_ble_eq_true rfl⟩) hS (fun H locs hI hN hS => ?_)
    refine lv_iload hx hb dX2_countFewest_141 (lv_at hl 0 rfl) ?_
    refine lv_iadd hx hb dX2_countFewest_143 ?_
    obtain ⟨g27, h⟩ := gd_ok h
    obtain ⟨Z28, eZ28⟩ : ∃ y : CZ, y = (cuI Z 18 (Int32.toNatClampNeg x2) (upd (Z.1 18 (Int32.toNatClampNeg x2)) (Int32.toNatClampNeg x5) (v25 + t0))) := ⟨_, rfl⟩
    have h := bnd_ok h eZ28
    refine cg_ist hx hb hI hK hN hS (decide_eq_true ng24) rfl (gin_ok g27) rfl dX2_countFewest_144 eZ28 (fun H locs hI hN hS => ?_)
    refine lv_iconst (v := (1 : Int32)) hx hb dX2_countFewest_145 (by decide) ?_
    refine lv_istore (lv' := [(4, .int (1 : Int32)), (9, .int t0), (0, .ref (ad 2 0)), (1, .ref (ad 10 x1)), (2, .int x2), (3, .int x3), (5, .int x5), (7, .int x7)]) hx hb dX2_countFewest_146 hl (by decide) rfl (fun ls hl => ?_)
    exact w148 k6 hk6 x1 x2 x3 (1 : Int32) x5 Z28 h _ _ _ hI hN hS (lv_sub hl [2, 3, 4, 5, 0, 6] rfl)
  have w118 : ∀ (k6 : Nat → Int32 → Int32 → Int32 → Int32 → CZ → Option (Int32 × CZ)) (hk6 : (∀ (x1 : Nat) (x2 : Int32) (x3 : Int32) (x4 : Int32) (x5 : Int32) (Z : CZ), k6 x1 x2 x3 x4 x5 Z = some (rz, Zz) → cG p l e (headSpec wsX2_countFewest rmX2_countFewest).room s m (([.ref (ad 2 0), .ref (ad 10 a1), .int a2, .int a3] : List Value).toArray) below meth c (MQ below (cQi D G A ad rz Zz) (([.ref (ad 2 0), .ref (ad 10 a1), .int a2, .int a3] : List Value).toArray) s 0 0 A) D G A ad 0 0 10 Z 6 [(0, .ref (ad 2 0)), (1, .ref (ad 10 x1)), (2, .int x2), (3, .int x3), (4, .int x4), (5, .int x5)] [])) (x1 : Nat) (x2 : Int32) (x3 : Int32) (x5 : Int32) (x7 : Int32) (t0 : Int32) (t1 : Int32) (t2 : Nat) (t3 : Int32) (Z : CZ), fX2_countFewest_118 k6 x1 x2 x3 x5 x7 t0 t1 t2 t3 Z = some (rz, Zz) → cG p l e (headSpec wsX2_countFewest rmX2_countFewest).room s m (([.ref (ad 2 0), .ref (ad 10 a1), .int a2, .int a3] : List Value).toArray) below meth c (MQ below (cQi D G A ad rz Zz) (([.ref (ad 2 0), .ref (ad 10 a1), .int a2, .int a3] : List Value).toArray) s 0 0 A) D G A ad 0 0 10 Z 118 [(0, .ref (ad 2 0)), (1, .ref (ad 10 x1)), (2, .int x2), (3, .int x3), (5, .int x5), (7, .int x7)] [.int t0, .int t1, .ref (ad 10 t2), .int t3] := by
    intro k6 hk6 x1 x2 x3 x5 x7 t0 t1 t2 t3 Z h H locs ls hI hN hS hl
    unfold fX2_countFewest_118 at h
    refine lv_iload hx hb dX2_countFewest_118 (lv_at hl 5 rfl) ?_
    obtain ⟨v21, c22, h⟩ := cl1_ok h
    refine cg_calli (va_runS (As := [.ref (ad 10 t2), .int t1, .int t0, .int x7]) (rest := [.int t3]) ⟨hx, hb, hml, hown, hts⟩ (mX2_leapsInto l D G A ad Z t2 t1 t0 x7 v21 c22) (va_cwS 4 hts gX2_countFewest_X2_leapsInto rfl rfl rfl (by decide +kernel) ⟨Nat.le_of_ble_eq_true rfl, Nat.le_of_ble_eq_true rfl⟩) (cg_preS hI hK hN) rfl rfl hl.1 rfl (lv_room (Nat.le_of_ble_eq_true rfl)) dX2_countFewest_120 ⟨Nat.le_of_ble_eq_true rfl, Nat.le_of_ble_eq_true rfl⟩) hS (fun H locs hI hN hS => ?_)
    refine lv_iadd hx hb dX2_countFewest_123 ?_
    exact w124 k6 hk6 x1 x2 x3 x5 x7 (t3 + v21) Z h _ _ _ hI hN hS (lv_sub hl [0, 1, 2, 3, 4, 5] rfl)
  have w154 : ∀ (x4 : Int32) (Z : CZ), fX2_countFewest_154  x4 Z = some (rz, Zz) → cG p l e (headSpec wsX2_countFewest rmX2_countFewest).room s m (([.ref (ad 2 0), .ref (ad 10 a1), .int a2, .int a3] : List Value).toArray) below meth c (MQ below (cQi D G A ad rz Zz) (([.ref (ad 2 0), .ref (ad 10 a1), .int a2, .int a3] : List Value).toArray) s 0 0 A) D G A ad 0 0 10 Z 154 [(4, .int x4)] [] := by
    intro  x4 Z h H locs ls hI hN hS hl
    unfold fX2_countFewest_154 at h
    refine lv_iload hx hb dX2_countFewest_154 (lv_at hl 0 rfl) ?_
    obtain ⟨g23, h⟩ := gd_ok h
    exact W.zret hx hb hr (gbo_ok g23) (cg_endi h hI hK hN hS) hS.2.2 dX2_countFewest_156
  have w6 : ∀ (x1 : Nat) (x2 : Int32) (x3 : Int32) (x4 : Int32) (x5 : Int32) (Z : CZ), lf6 fX2_countFewest_6 100 x1 x2 x3 x4 x5 Z = some (rz, Zz) → cG p l e (headSpec wsX2_countFewest rmX2_countFewest).room s m (([.ref (ad 2 0), .ref (ad 10 a1), .int a2, .int a3] : List Value).toArray) below meth c (MQ below (cQi D G A ad rz Zz) (([.ref (ad 2 0), .ref (ad 10 a1), .int a2, .int a3] : List Value).toArray) s 0 0 A) D G A ad 0 0 10 Z 6 [(0, .ref (ad 2 0)), (1, .ref (ad 10 x1)), (2, .int x2), (3, .int x3), (4, .int x4), (5, .int x5)] [] := by
    refine lf6_ok (P := (fun x1 x2 x3 x4 x5 Z => cG p l e (headSpec wsX2_countFewest rmX2_countFewest).room s m (([.ref (ad 2 0), .ref (ad 10 a1), .int a2, .int a3] : List Value).toArray) below meth c (MQ below (cQi D G A ad rz Zz) (([.ref (ad 2 0), .ref (ad 10 a1), .int a2, .int a3] : List Value).toArray) s 0 0 A) D G A ad 0 0 10 Z 6 [(0, .ref (ad 2 0)), (1, .ref (ad 10 x1)), (2, .int x2), (3, .int x3), (4, .int x4), (5, .int x5)] [])) (fun k6 hk6 x1 x2 x3 x4 x5 Z h H locs ls hI hN hS hl => ?_) 100
    unfold fX2_countFewest_6 at h
    refine lv_iload hx hb dX2_countFewest_6 (lv_at hl 5 rfl) ?_
    refine lv_aload_n hx hb dX2_countFewest_8 rfl (lv_at hl 1 rfl) ?_
    obtain ⟨g1, h⟩ := gd_ok h
    refine cg_get (T := TX0) (N := 7) (ci := 1) hx hb hts iwsX00 hown hK hN g1 rfl rfl 0 (by decide) l0 rfl (v := .ref (ad 3 (x1 + 4))) rfl dX2_countFewest_9 ?_
    obtain ⟨g2, h⟩ := gd_ok h
    obtain ⟨v3, c4, h⟩ := cl1_ok h
    refine cg_calli (va_runV (As := []) (rest := [.int x5]) ⟨hx, hb, hml, hown, hts⟩ (mJx4a65c_size_8abf5 l D G A ad Z (x1 + 4) v3 c4) (cwV 0 hts gX2_countFewest_Jx4a65c_size_8abf5 rfl rfl rfl (by decide +kernel) ⟨Nat.le_of_ble_eq_true rfl, Nat.le_of_ble_eq_true rfl⟩) (cg_preV hI hK hN g2 rfl (ci := 0) rfl) rfl rfl hl.1 rfl (lv_room (Nat.le_of_ble_eq_true rfl)) dX2_countFewest_12 ⟨Nat.le_of_ble_eq_true rfl, Nat.le_of_ble_eq_true rfl⟩) hS (fun H locs hI hN hS => ?_)
    refine lv_icmp_ge (tgt := 154) hx hb dX2_countFewest_15 (by decide) (fun hc => ?_) (fun hc => ?_)
    · have h := ite_t h hc
      exact w154  x4 Z h _ _ _ hI hN hS (lv_sub hl [4] rfl)
    · have h := ite_f h hc
      refine lv_aload_n hx hb dX2_countFewest_18 rfl (lv_at hl 1 rfl) ?_
      refine cg_get (T := TX0) (N := 7) (ci := 1) hx hb hts iwsX00 hown hK hN g1 rfl rfl 0 (by decide) l0 rfl (v := .ref (ad 3 (x1 + 4))) rfl dX2_countFewest_19 ?_
      refine lv_iload hx hb dX2_countFewest_22 (lv_at hl 5 rfl) ?_
      obtain ⟨q5, c6, h⟩ := cl1_ok h
      refine cg_callr (k := 13) (q := q5) (va_runV (As := [.int x5]) (rest := []) ⟨hx, hb, hml, hown, hts⟩ (mJx4a65c_get_915e3 l D G A ad Z (x1 + 4) x5 q5 c6) (cwV 1 hts gX2_countFewest_Jx4a65c_get_915e3 rfl rfl rfl (by decide +kernel) ⟨Nat.le_of_ble_eq_true rfl, Nat.le_of_ble_eq_true rfl⟩) (cg_preV hI hK hN g2 rfl (ci := 0) rfl) rfl rfl hl.1 rfl (lv_room (Nat.le_of_ble_eq_true rfl)) dX2_countFewest_24 ⟨Nat.le_of_ble_eq_true rfl, Nat.le_of_ble_eq_true rfl⟩) hS (fun H locs hI hN hS => ?_)
      obtain ⟨g7, h⟩ := gd_ok h
      refine va_castS hx hb hown l1 (hK.1.1 6 _ rfl).2 (cg_recv hK hN g7 rfl (ci := 6) rfl) dX2_countFewest_27 ?_
      refine lv_astore (lv' := [(6, .ref (ad 13 q5)), (0, .ref (ad 2 0)), (1, .ref (ad 10 x1)), (2, .int x2), (3, .int x3), (4, .int x4), (5, .int x5)]) hx hb dX2_countFewest_30 hl (by decide) rfl (fun ls hl => ?_)
      refine lv_aload_n hx hb dX2_countFewest_32 rfl (lv_at hl 1 rfl) ?_
      refine cg_get (T := TX2) (N := 2) (ci := 3) hx hb hts iwsX20 hown hK hN rfl rfl rfl 1 (by decide) l2 rfl (v := .ref (ad 17 0)) rfl dX2_countFewest_33 ?_
      refine lv_iload_n hx hb dX2_countFewest_36 rfl (lv_at hl 3 rfl) ?_
      obtain ⟨g8, h⟩ := gd_ok h
      have ng8 : Int32.toNatClampNeg x2 < 6 := Nat.not_le.mp fun q => gin_ok g8 (Or.inr q)
      refine cg_ald hx hb hK hN rfl rfl (gin_ok g8) (if_pos ng8) dX2_countFewest_37 ?_
      refine lv_iload hx hb dX2_countFewest_38 (lv_at hl 6 rfl) ?_
      refine lv_iconst (v := (-1 : Int32)) hx hb dX2_countFewest_40 (by decide) ?_
      obtain ⟨g9, h⟩ := gd_ok h
      obtain ⟨Z10, eZ10⟩ : ∃ y : CZ, y = (cuI Z 18 (Int32.toNatClampNeg x2) (upd (Z.1 18 (Int32.toNatClampNeg x2)) (Int32.toNatClampNeg x5) (-1 : Int32))) := ⟨_, rfl⟩
      have h := bnd_ok h eZ10
      refine cg_ist hx hb hI hK hN hS (decide_eq_true ng8) rfl (gin_ok g9) rfl dX2_countFewest_41 eZ10 (fun H locs hI hN hS => ?_)
      refine lv_iload hx hb dX2_countFewest_42 (lv_at hl 6 rfl) ?_
      refine lv_iload_n hx hb dX2_countFewest_44 rfl (lv_at hl 4 rfl) ?_
      refine lv_icmp_eq (tgt := 148) hx hb dX2_countFewest_45 (by decide) (fun hc => ?_) (fun hc => ?_)
      · have h := ite_t h hc
        exact w148 k6 hk6 x1 x2 x3 x4 x5 Z10 h _ _ _ hI hN hS (lv_sub hl [1, 2, 3, 4, 5, 6] rfl)
      · have h := ite_f h hc
        refine lv_aload hx hb dX2_countFewest_48 (lv_at hl 0 rfl) ?_
        refine cg_get (T := TX5) (N := 2) (ci := 6) hx hb hts iwsX50 hown hK hN (by rw [eZ10]; exact g7) rfl rfl 1 (by decide) l3 rfl (v := .ref (ad 14 q5)) rfl dX2_countFewest_50 ?_
        refine lv_iload_n hx hb dX2_countFewest_53 rfl (lv_at hl 3 rfl) ?_
        obtain ⟨g11, h⟩ := gd_ok h
        refine cg_ild hx hb hK hN (by rw [eZ10]; exact g7) rfl (gin_ok g11) dX2_countFewest_54 ?_
        refine lv_iconst (v := (1 : Int32)) hx hb dX2_countFewest_55 (by decide) ?_
        refine lv_icmp_ne (tgt := 148) hx hb dX2_countFewest_56 (by decide) (fun hc => ?_) (fun hc => ?_)
        · have h := ite_f h hc
          exact w148 k6 hk6 x1 x2 x3 x4 x5 Z10 h _ _ _ hI hN hS (lv_sub hl [1, 2, 3, 4, 5, 6] rfl)
        · have h := ite_t h hc
          refine lv_aload hx hb dX2_countFewest_59 (lv_at hl 0 rfl) ?_
          obtain ⟨q12, c13, h⟩ := cl1_ok h
          refine cg_get (T := TX5) (N := 2) (ci := 6) hx hb hts iwsX50 hown hK hN (by rw [eZ10]; exact g7) rfl rfl 0 (by decide) l4 rfl (v := .ref (ad 9 q12)) (congrArg (fun o => some (va_rf (Option.map (ad 9) o))) c13) dX2_countFewest_61 ?_
          obtain ⟨g14, h⟩ := gd_ok h
          refine cg_get (T := TX4) (N := 6) (ci := 5) hx hb hts iwsX40 hown hK hN g14 rfl rfl 1 (by decide) l5 rfl (v := .int (Z10.1 9 q12 1)) rfl dX2_countFewest_64 ?_
          refine lv_topi (fun v15 ev15 => ?_)
          have h := bnd_ok h ev15
          refine lv_istore (lv' := [(7, .int v15), (6, .ref (ad 13 q5)), (0, .ref (ad 2 0)), (1, .ref (ad 10 x1)), (2, .int x2), (3, .int x3), (4, .int x4), (5, .int x5)]) hx hb dX2_countFewest_67 hl (by decide) rfl (fun ls hl => ?_)
          refine lv_aload_n hx hb dX2_countFewest_69 rfl (lv_at hl 2 rfl) ?_
          refine lv_aload_n hx hb dX2_countFewest_70 rfl (lv_at hl 3 rfl) ?_
          refine lv_iload_n hx hb dX2_countFewest_71 rfl (lv_at hl 4 rfl) ?_
          refine lv_iconst (v := (1 : Int32)) hx hb dX2_countFewest_72 (by decide) ?_
          refine lv_iadd hx hb dX2_countFewest_73 ?_
          refine lv_iload hx hb dX2_countFewest_74 (lv_at hl 7 rfl) ?_
          obtain ⟨v16, c17, h⟩ := cl1_ok h
          refine cg_calli (va_runV (As := [.ref (ad 10 x1), .int (x2 + (1 : Int32)), .int x5]) (rest := []) ⟨hx, hb, hml, hown, hts⟩ (mX2_bestSeat l D G A ad Z10 x1 (x2 + (1 : Int32)) x5 v16 c17) (cwV 3 hts gX2_countFewest_X2_bestSeat rfl rfl rfl (by decide +kernel) ⟨Nat.le_of_ble_eq_true rfl, Nat.le_of_ble_eq_true rfl⟩) (cg_preV hI hK hN rfl rfl (ci := 3) rfl) rfl rfl hl.1 rfl (lv_room (Nat.le_of_ble_eq_true rfl)) dX2_countFewest_76 ⟨Nat.le_of_ble_eq_true rfl, Nat.le_of_ble_eq_true rfl⟩) hS (fun H locs hI hN hS => ?_)
          refine lv_istore (lv' := [(8, .int v16), (7, .int v15), (6, .ref (ad 13 q5)), (0, .ref (ad 2 0)), (1, .ref (ad 10 x1)), (2, .int x2), (3, .int x3), (4, .int x4), (5, .int x5)]) hx hb dX2_countFewest_79 hl (by decide) rfl (fun ls hl => ?_)
          refine lv_iload hx hb dX2_countFewest_81 (lv_at hl 0 rfl) ?_
          refine lv_iconst (v := (-1 : Int32)) hx hb dX2_countFewest_83 (by decide) ?_
          refine lv_icmp_ne (tgt := 91) hx hb dX2_countFewest_84 (by decide) (fun hc => ?_) (fun hc => ?_)
          · have h := ite_f h hc
            refine lv_aload_n hx hb dX2_countFewest_91 rfl (lv_at hl 3 rfl) ?_
            refine cg_get (T := TX2) (N := 2) (ci := 3) hx hb hts iwsX20 hown hK hN rfl rfl rfl 1 (by decide) l2 rfl (v := .ref (ad 17 0)) rfl dX2_countFewest_92 ?_
            refine lv_iload_n hx hb dX2_countFewest_95 rfl (lv_at hl 5 rfl) ?_
            refine lv_iconst (v := (1 : Int32)) hx hb dX2_countFewest_96 (by decide) ?_
            refine lv_iadd hx hb dX2_countFewest_97 ?_
            obtain ⟨g18, h⟩ := gd_ok h
            have ng18 : Int32.toNatClampNeg (x2 + (1 : Int32)) < 6 := Nat.not_le.mp fun q => gin_ok g18 (Or.inr q)
            refine cg_ald hx hb hK hN rfl rfl (gin_ok g18) (if_pos ng18) dX2_countFewest_98 ?_
            refine lv_iload hx hb dX2_countFewest_99 (lv_at hl 0 rfl) ?_
            obtain ⟨g19, h⟩ := gd_ok h
            refine cg_ild hx hb hK hN (decide_eq_true ng18) rfl (gin_ok g19) dX2_countFewest_101 ?_
            refine lv_aload_n hx hb dX2_countFewest_102 rfl (lv_at hl 4 rfl) ?_
            refine lv_iload_n hx hb dX2_countFewest_103 rfl (lv_at hl 5 rfl) ?_
            refine lv_iconst (v := (1 : Int32)) hx hb dX2_countFewest_104 (by decide) ?_
            refine lv_iadd hx hb dX2_countFewest_105 ?_
            refine lv_iload hx hb dX2_countFewest_106 (lv_at hl 0 rfl) ?_
            refine lv_iload hx hb dX2_countFewest_108 (lv_at hl 8 rfl) ?_
            refine lv_icmp_ne (tgt := 117) hx hb dX2_countFewest_110 (by decide) (fun hc => ?_) (fun hc => ?_)
            · have h := ite_f h hc
              refine lv_iconst (v := (0 : Int32)) hx hb dX2_countFewest_117 (by decide) ?_
              exact w118 k6 hk6 x1 x2 x3 x5 v15 (0 : Int32) (x2 + (1 : Int32)) x1 (Z10.1 18 (Int32.toNatClampNeg (x2 + (1 : Int32))) (Int32.toNatClampNeg v16)) Z10 h _ _ _ hI hN hS (lv_sub hl [3, 4, 5, 6, 8, 1] rfl)
            · have h := ite_t h hc
              refine lv_iconst (v := (1 : Int32)) hx hb dX2_countFewest_113 (by decide) ?_
              refine lv_goto (tgt := 118) hx hb dX2_countFewest_114 (by decide) ?_
              exact w118 k6 hk6 x1 x2 x3 x5 v15 (1 : Int32) (x2 + (1 : Int32)) x1 (Z10.1 18 (Int32.toNatClampNeg (x2 + (1 : Int32))) (Int32.toNatClampNeg v16)) Z10 h _ _ _ hI hN hS (lv_sub hl [3, 4, 5, 6, 8, 1] rfl)
          · have h := ite_t h hc
            refine lv_iconst (v := (0 : Int32)) hx hb dX2_countFewest_87 (by decide) ?_
            refine lv_goto (tgt := 124) hx hb dX2_countFewest_88 (by decide) ?_
            exact w124 k6 hk6 x1 x2 x3 x5 v15 (0 : Int32) Z10 h _ _ _ hI hN hS (lv_sub hl [3, 4, 5, 6, 8, 1] rfl)
  unfold fX2_countFewest at h
  refine lv_iconst (v := (0 : Int32)) hx hb dX2_countFewest_0 (by decide) ?_
  refine lv_istore (lv' := [(4, .int (0 : Int32)), (0, .ref (ad 2 0)), (1, .ref (ad 10 a1)), (2, .int a2), (3, .int a3)]) hx hb dX2_countFewest_1 hl (by decide) rfl (fun ls hl => ?_)
  refine lv_iconst (v := (0 : Int32)) hx hb dX2_countFewest_3 (by decide) ?_
  refine lv_istore (lv' := [(5, .int (0 : Int32)), (4, .int (0 : Int32)), (0, .ref (ad 2 0)), (1, .ref (ad 10 a1)), (2, .int a2), (3, .int a3)]) hx hb dX2_countFewest_4 hl (by decide) rfl (fun ls hl => ?_)
  exact w6  a1 a2 a3 (0 : Int32) (0 : Int32) Z h _ _ _ hI hN hS (lv_sub hl [2, 3, 4, 5, 1, 0] rfl)
def fX2_findBest_26 (Z : CZ) : Option (Int32 × CZ) := some ((-1 : Int32), Z)
def fX2_findBest_103 (t0 : Int32) (Z : CZ) : Option (Int32 × CZ) := some (t0, Z)
def fX2_findBest_102 (Z : CZ) : Option (Int32 × CZ) := fX2_findBest_103 (-1 : Int32) Z
def fX2_findBest_72 (x3 : Int32) (Z : CZ) : Option (Int32 × CZ) := (if x3 ≤ 0 then fX2_findBest_102 Z else gd (gin (0 : Int32) 6) ((if (Z.1 16 0 (Int32.toNatClampNeg (0 : Int32))) = (-1 : Int32) then fX2_findBest_102 Z else gd (gin (0 : Int32) 6) (gd (gin (0 : Int32) 6) (gd (gin (Z.1 16 0 (Int32.toNatClampNeg (0 : Int32))) 8) (fX2_findBest_103 (Z.1 18 (Int32.toNatClampNeg (0 : Int32)) (Int32.toNatClampNeg (Z.1 16 0 (Int32.toNatClampNeg (0 : Int32))))) Z))))))
def fX2_findBest_40 (k40 : Nat → Int32 → Int32 → Int32 → CZ → Option (Int32 × CZ)) (x1 : Nat) (x3 : Int32) (x4 : Int32) (x5 : Int32) (Z : CZ) : Option (Int32 × CZ) := (if x3 ≤ x5 then fX2_findBest_72 x3 Z else cl1 (fX2_bestSeat x1 x5 x4 Z) (fun v9 => gd (gin x5 6) (bnd (cuI Z 16 0 (upd (Z.1 16 0) (Int32.toNatClampNeg x5) v9)) (fun Z12 => bnd (x5 + (1 : Int32)) (fun v13 => k40 x1 x3 v9 v13 Z12)))))
def fX2_findBest_34 (x1 : Nat) (x3 : Int32) (Z : CZ) : Option (Int32 × CZ) := lf5 fX2_findBest_40 100 x1 x3 (-1 : Int32) (0 : Int32) Z
def fX2_findBest_10 (k10 : Nat → Int32 → Int32 → Int32 → CZ → Option (Int32 × CZ)) (x1 : Nat) (x2 : Int32) (x3 : Int32) (x4 : Int32) (Z : CZ) : Option (Int32 × CZ) := (if x4 < 0 then fX2_findBest_34 x1 x3 Z else cl2 (fX2_countFewest x1 x4 x2 Z) (fun v5 Z6 => (if v5 = 0 then fX2_findBest_26 Z6 else bnd (x4 + (-1 : Int32)) (fun v8 => k10 x1 x2 x3 v8 Z6))))
def fX2_findBest (a1 : Nat) (a2 : Int32) (Z : CZ) : Option (Int32 × CZ) := gd (cLv Z.2.2 10 a1) (cl1 (fX0_phraseCount a1 Z) (fun v2 => bnd (v2 - (1 : Int32)) (fun v4 => lf5 fX2_findBest_10 100 a1 a2 v2 v4 Z)))
def rmX2_findBest : Room := { frames := 6, cells := 0, slots := 0, locals := 155 }
set_option maxHeartbeats 4000000 in
set_option maxRecDepth 100000 in
theorem mX2_findBest (l : Launch) (D : va_G) (G : CGT) (A : Nat → Prop) (ad : Nat → Nat → Nat) (Z : CZ) (a1 : Nat) (a2 : Int32) (rz : Int32) (Zz : CZ) (h : fX2_findBest a1 a2 Z = some (rz, Zz)) : Met l yX2_findBest wsX2_findBest rmX2_findBest (va_Pc [.ref (ad 2 0), .ref (ad 10 a1), .int a2] (cP D G A ad Z)) (cQi D G A ad rz Zz) 0 0 A := by
  refine Met.ofW (cc := cX2_findBest) (maxL := 6) (ret := some .int) (by decide) rfl ?_
  intro p e s m args below meth c s₁ B hml hv
  obtain ⟨rfl, hI, hN, hK⟩ := hv
  have hx := B.exec
  have hb := B.bytes
  have hr := B.returns
  have hts := atoms_spec (ws := wsX2_findBest) B.pre
  have hown : s.vm.findClass RX2 = some m.cls := findClass_of_methodNamed B.named
  have hlocks := B.notSynchronized
  have iwsX20 : ∀ w ∈ wsX20, w ∈ wsX2_findBest := fun w h => List.mem_cons_of_mem _ (List.mem_append_left _ (List.mem_append_left _ (List.mem_append_left _ (List.mem_append_left _ (List.mem_append_right _ h)))))
  have l0 := hts (.fieldLink RX2 9 "Panyard$Parts" "playing" "[I") (List.mem_of_getElem? (i := 1) rfl)
  have l1 := hts (.fieldLink RX2 17 "Panyard$Parts" "fewest" "[[I") (List.mem_of_getElem? (i := 2) rfl)
  have hS : va_S A s.heap s.heap [] := va_S.rf
  have hl := lv_entry ([.ref (ad 2 0), .ref (ad 10 a1), .int a2]) (n := 6) (Nat.le_of_ble_eq_true rfl)
  rw [lg_entry_eq]
  generalize (lg_sl ([.ref (ad 2 0), .ref (ad 10 a1), .int a2]) ++ List.replicate (6 - (lg_sl ([.ref (ad 2 0), .ref (ad 10 a1), .int a2])).length) Slot.unset).toArray = ls at hl ⊢
  have hl : lv_has ls 6 [(0, .ref (ad 2 0)), (1, .ref (ad 10 a1)), (2, .int a2)] := hl
  have w26 : ∀ (Z : CZ), fX2_findBest_26  Z = some (rz, Zz) → cG p l e (headSpec wsX2_findBest rmX2_findBest).room s m (([.ref (ad 2 0), .ref (ad 10 a1), .int a2] : List Value).toArray) below meth c (MQ below (cQi D G A ad rz Zz) (([.ref (ad 2 0), .ref (ad 10 a1), .int a2] : List Value).toArray) s 0 0 A) D G A ad 0 0 6 Z 26 [] [] := by
    intro  Z h H locs ls hI hN hS hl
    unfold fX2_findBest_26 at h
    refine lv_iconst (v := (-1 : Int32)) hx hb dX2_findBest_26 (by decide) ?_
    exact W.iret hx hb hr (cg_endi h hI hK hN hS) hS.2.2 dX2_findBest_27
  have w103 : ∀ (t0 : Int32) (Z : CZ), fX2_findBest_103  t0 Z = some (rz, Zz) → cG p l e (headSpec wsX2_findBest rmX2_findBest).room s m (([.ref (ad 2 0), .ref (ad 10 a1), .int a2] : List Value).toArray) below meth c (MQ below (cQi D G A ad rz Zz) (([.ref (ad 2 0), .ref (ad 10 a1), .int a2] : List Value).toArray) s 0 0 A) D G A ad 0 0 6 Z 103 [] [.int t0] := by
    intro  t0 Z h H locs ls hI hN hS hl
    unfold fX2_findBest_103 at h
    exact W.iret hx hb hr (cg_endi h hI hK hN hS) hS.2.2 dX2_findBest_103
  have w102 : ∀ (Z : CZ), fX2_findBest_102  Z = some (rz, Zz) → cG p l e (headSpec wsX2_findBest rmX2_findBest).room s m (([.ref (ad 2 0), .ref (ad 10 a1), .int a2] : List Value).toArray) below meth c (MQ below (cQi D G A ad rz Zz) (([.ref (ad 2 0), .ref (ad 10 a1), .int a2] : List Value).toArray) s 0 0 A) D G A ad 0 0 6 Z 102 [] [] := by
    intro  Z h H locs ls hI hN hS hl
    unfold fX2_findBest_102 at h
    refine lv_iconst (v := (-1 : Int32)) hx hb dX2_findBest_102 (by decide) ?_
    exact w103  (-1 : Int32) Z h _ _ _ hI hN hS (lv_sub hl [] rfl)
  have w72 : ∀ (x3 : Int32) (Z : CZ), fX2_findBest_72  x3 Z = some (rz, Zz) → cG p l e (headSpec wsX2_findBest rmX2_findBest).room s m (([.ref (ad 2 0), .ref (ad 10 a1), .int a2] : List Value).toArray) below meth c (MQ below (cQi D G A ad rz Zz) (([.ref (ad 2 0), .ref (ad 10 a1), .int a2] : List Value).toArray) s 0 0 A) D G A ad 0 0 6 Z 72 [(0, .ref (ad 2 0)), (3, .int x3)] [] := by
    intro  x3 Z h H locs ls hI hN hS hl
    unfold fX2_findBest_72 at h
    refine lv_iload_n hx hb dX2_findBest_72 rfl (lv_at hl 1 rfl) ?_
    refine lv_if_le (tgt := 102) hx hb dX2_findBest_73 (by decide) (fun hc => ?_) (fun hc => ?_)
    · have h := ite_t h hc
      exact w102  Z h _ _ _ hI hN hS (lv_sub hl [] rfl)
    · have h := ite_f h hc
      refine lv_aload_n hx hb dX2_findBest_76 rfl (lv_at hl 0 rfl) ?_
      refine cg_get (T := TX2) (N := 2) (ci := 3) hx hb hts iwsX20 hown hK hN rfl rfl rfl 0 (by decide) l0 rfl (v := .ref (ad 16 0)) rfl dX2_findBest_77 ?_
      refine lv_iconst (v := (0 : Int32)) hx hb dX2_findBest_80 (by decide) ?_
      obtain ⟨g14, h⟩ := gd_ok h
      refine cg_ild hx hb hK hN rfl rfl (gin_ok g14) dX2_findBest_81 ?_
      refine lv_iconst (v := (-1 : Int32)) hx hb dX2_findBest_82 (by decide) ?_
      refine lv_icmp_eq (tgt := 102) hx hb dX2_findBest_83 (by decide) (fun hc => ?_) (fun hc => ?_)
      · have h := ite_t h hc
        exact w102  Z h _ _ _ hI hN hS (lv_sub hl [] rfl)
      · have h := ite_f h hc
        refine lv_aload_n hx hb dX2_findBest_86 rfl (lv_at hl 0 rfl) ?_
        refine cg_get (T := TX2) (N := 2) (ci := 3) hx hb hts iwsX20 hown hK hN rfl rfl rfl 1 (by decide) l1 rfl (v := .ref (ad 17 0)) rfl dX2_findBest_87 ?_
        refine lv_iconst (v := (0 : Int32)) hx hb dX2_findBest_90 (by decide) ?_
        obtain ⟨g15, h⟩ := gd_ok h
        have ng15 : Int32.toNatClampNeg (0 : Int32) < 6 := Nat.not_le.mp fun q => gin_ok g15 (Or.inr q)
        refine cg_ald hx hb hK hN rfl rfl (gin_ok g15) (if_pos ng15) dX2_findBest_91 ?_
        refine lv_aload_n hx hb dX2_findBest_92 rfl (lv_at hl 0 rfl) ?_
        refine cg_get (T := TX2) (N := 2) (ci := 3) hx hb hts iwsX20 hown hK hN rfl rfl rfl 0 (by decide) l0 rfl (v := .ref (ad 16 0)) rfl dX2_findBest_93 ?_
        refine lv_iconst (v := (0 : Int32)) hx hb dX2_findBest_96 (by decide) ?_
        obtain ⟨g16, h⟩ := gd_ok h
        refine cg_ild hx hb hK hN rfl rfl (gin_ok g16) dX2_findBest_97 ?_
        obtain ⟨g17, h⟩ := gd_ok h
        refine cg_ild hx hb hK hN (decide_eq_true ng15) rfl (gin_ok g17) dX2_findBest_98 ?_
        refine lv_goto (tgt := 103) hx hb dX2_findBest_99 (by decide) ?_
        exact w103  (Z.1 18 (Int32.toNatClampNeg (0 : Int32)) (Int32.toNatClampNeg (Z.1 16 0 (Int32.toNatClampNeg (0 : Int32))))) Z h _ _ _ hI hN hS (lv_sub hl [] rfl)
  have w40 : ∀ (x1 : Nat) (x3 : Int32) (x4 : Int32) (x5 : Int32) (Z : CZ), lf5 fX2_findBest_40 100 x1 x3 x4 x5 Z = some (rz, Zz) → cG p l e (headSpec wsX2_findBest rmX2_findBest).room s m (([.ref (ad 2 0), .ref (ad 10 a1), .int a2] : List Value).toArray) below meth c (MQ below (cQi D G A ad rz Zz) (([.ref (ad 2 0), .ref (ad 10 a1), .int a2] : List Value).toArray) s 0 0 A) D G A ad 0 0 6 Z 40 [(0, .ref (ad 2 0)), (1, .ref (ad 10 x1)), (3, .int x3), (4, .int x4), (5, .int x5)] [] := by
    refine lf5_ok (P := (fun x1 x3 x4 x5 Z => cG p l e (headSpec wsX2_findBest rmX2_findBest).room s m (([.ref (ad 2 0), .ref (ad 10 a1), .int a2] : List Value).toArray) below meth c (MQ below (cQi D G A ad rz Zz) (([.ref (ad 2 0), .ref (ad 10 a1), .int a2] : List Value).toArray) s 0 0 A) D G A ad 0 0 6 Z 40 [(0, .ref (ad 2 0)), (1, .ref (ad 10 x1)), (3, .int x3), (4, .int x4), (5, .int x5)] [])) (fun k40 hk40 x1 x3 x4 x5 Z h H locs ls hI hN hS hl => ?_) 100
    unfold fX2_findBest_40 at h
    refine lv_iload hx hb dX2_findBest_40 (lv_at hl 4 rfl) ?_
    refine lv_iload_n hx hb dX2_findBest_42 rfl (lv_at hl 2 rfl) ?_
    refine lv_icmp_ge (tgt := 72) hx hb dX2_findBest_43 (by decide) (fun hc => ?_) (fun hc => ?_)
    · have h := ite_t h hc
      exact w72  x3 Z h _ _ _ hI hN hS (lv_sub hl [0, 2] rfl)
    · have h := ite_f h hc
      refine lv_aload_n hx hb dX2_findBest_46 rfl (lv_at hl 0 rfl) ?_
      refine lv_aload_n hx hb dX2_findBest_47 rfl (lv_at hl 1 rfl) ?_
      refine lv_iload hx hb dX2_findBest_48 (lv_at hl 4 rfl) ?_
      refine lv_iload hx hb dX2_findBest_50 (lv_at hl 3 rfl) ?_
      obtain ⟨v9, c10, h⟩ := cl1_ok h
      refine cg_calli (va_runV (As := [.ref (ad 10 x1), .int x5, .int x4]) (rest := []) ⟨hx, hb, hml, hown, hts⟩ (mX2_bestSeat l D G A ad Z x1 x5 x4 v9 c10) (cwV 3 hts gX2_findBest_X2_bestSeat rfl rfl rfl (by decide +kernel) ⟨Nat.le_of_ble_eq_true rfl, Nat.le_of_ble_eq_true rfl⟩) (cg_preV hI hK hN rfl rfl (ci := 3) rfl) rfl rfl hl.1 rfl (lv_room (Nat.le_of_ble_eq_true rfl)) dX2_findBest_52 ⟨Nat.le_of_ble_eq_true rfl, Nat.le_of_ble_eq_true rfl⟩) hS (fun H locs hI hN hS => ?_)
      refine lv_istore (lv' := [(4, .int v9), (0, .ref (ad 2 0)), (1, .ref (ad 10 x1)), (3, .int x3), (5, .int x5)]) hx hb dX2_findBest_55 hl (by decide) rfl (fun ls hl => ?_)
      refine lv_aload_n hx hb dX2_findBest_57 rfl (lv_at hl 1 rfl) ?_
      refine cg_get (T := TX2) (N := 2) (ci := 3) hx hb hts iwsX20 hown hK hN rfl rfl rfl 0 (by decide) l0 rfl (v := .ref (ad 16 0)) rfl dX2_findBest_58 ?_
      refine lv_iload hx hb dX2_findBest_61 (lv_at hl 4 rfl) ?_
      refine lv_iload hx hb dX2_findBest_63 (lv_at hl 0 rfl) ?_
      obtain ⟨g11, h⟩ := gd_ok h
      obtain ⟨Z12, eZ12⟩ : ∃ y : CZ, y = (cuI Z 16 0 (upd (Z.1 16 0) (Int32.toNatClampNeg x5) v9)) := ⟨_, rfl⟩
      have h := bnd_ok h eZ12
      refine cg_ist hx hb hI hK hN hS rfl rfl (gin_ok g11) rfl dX2_findBest_65 eZ12 (fun H locs hI hN hS => ?_)
      obtain ⟨v13, ev13⟩ : ∃ y : Int32, y = (x5 + (1 : Int32)) := ⟨_, rfl⟩
      have h := bnd_ok h ev13
      refine lv_iinc (v := v13) (lv' := [(5, .int v13), (4, .int v9), (0, .ref (ad 2 0)), (1, .ref (ad 10 x1)), (3, .int x3)]) hx hb dX2_findBest_66 hl (k := 4) rfl (by rw [ev13]; rfl) (by decide) rfl (fun ls hl => ?_)
      refine lv_goto (tgt := 40) hx hb dX2_findBest_69 (by decide) ?_
      exact hk40 x1 x3 v9 v13 Z12 h _ _ _ hI hN hS (lv_sub hl [2, 3, 4, 1, 0] rfl)
  have w34 : ∀ (x1 : Nat) (x3 : Int32) (Z : CZ), fX2_findBest_34  x1 x3 Z = some (rz, Zz) → cG p l e (headSpec wsX2_findBest rmX2_findBest).room s m (([.ref (ad 2 0), .ref (ad 10 a1), .int a2] : List Value).toArray) below meth c (MQ below (cQi D G A ad rz Zz) (([.ref (ad 2 0), .ref (ad 10 a1), .int a2] : List Value).toArray) s 0 0 A) D G A ad 0 0 6 Z 34 [(0, .ref (ad 2 0)), (1, .ref (ad 10 x1)), (3, .int x3)] [] := by
    intro  x1 x3 Z h H locs ls hI hN hS hl
    unfold fX2_findBest_34 at h
    refine lv_iconst (v := (-1 : Int32)) hx hb dX2_findBest_34 (by decide) ?_
    refine lv_istore (lv' := [(4, .int (-1 : Int32)), (0, .ref (ad 2 0)), (1, .ref (ad 10 x1)), (3, .int x3)]) hx hb dX2_findBest_35 hl (by decide) rfl (fun ls hl => ?_)
    refine lv_iconst (v := (0 : Int32)) hx hb dX2_findBest_37 (by decide) ?_
    refine lv_istore (lv' := [(5, .int (0 : Int32)), (4, .int (-1 : Int32)), (0, .ref (ad 2 0)), (1, .ref (ad 10 x1)), (3, .int x3)]) hx hb dX2_findBest_38 hl (by decide) rfl (fun ls hl => ?_)
    exact w40  x1 x3 (-1 : Int32) (0 : Int32) Z h _ _ _ hI hN hS (lv_sub hl [2, 3, 4, 1, 0] rfl)
  have w10 : ∀ (x1 : Nat) (x2 : Int32) (x3 : Int32) (x4 : Int32) (Z : CZ), lf5 fX2_findBest_10 100 x1 x2 x3 x4 Z = some (rz, Zz) → cG p l e (headSpec wsX2_findBest rmX2_findBest).room s m (([.ref (ad 2 0), .ref (ad 10 a1), .int a2] : List Value).toArray) below meth c (MQ below (cQi D G A ad rz Zz) (([.ref (ad 2 0), .ref (ad 10 a1), .int a2] : List Value).toArray) s 0 0 A) D G A ad 0 0 6 Z 10 [(0, .ref (ad 2 0)), (1, .ref (ad 10 x1)), (2, .int x2), (3, .int x3), (4, .int x4)] [] := by
    refine lf5_ok (P := (fun x1 x2 x3 x4 Z => cG p l e (headSpec wsX2_findBest rmX2_findBest).room s m (([.ref (ad 2 0), .ref (ad 10 a1), .int a2] : List Value).toArray) below meth c (MQ below (cQi D G A ad rz Zz) (([.ref (ad 2 0), .ref (ad 10 a1), .int a2] : List Value).toArray) s 0 0 A) D G A ad 0 0 6 Z 10 [(0, .ref (ad 2 0)), (1, .ref (ad 10 x1)), (2, .int x2), (3, .int x3), (4, .int x4)] [])) (fun k10 hk10 x1 x2 x3 x4 Z h H locs ls hI hN hS hl => ?_) 100
    unfold fX2_findBest_10 at h
    refine lv_iload hx hb dX2_findBest_10 (lv_at hl 4 rfl) ?_
    refine lv_if_lt (tgt := 34) hx hb dX2_findBest_12 (by decide) (fun hc => ?_) (fun hc => ?_)
    · have h := ite_t h hc
      exact w34  x1 x3 Z h _ _ _ hI hN hS (lv_sub hl [0, 1, 3] rfl)
    · have h := ite_f h hc
      refine lv_aload_n hx hb dX2_findBest_15 rfl (lv_at hl 0 rfl) ?_
      refine lv_aload_n hx hb dX2_findBest_16 rfl (lv_at hl 1 rfl) ?_
      refine lv_iload hx hb dX2_findBest_17 (lv_at hl 4 rfl) ?_
      refine lv_iload_n hx hb dX2_findBest_19 rfl (lv_at hl 2 rfl) ?_
      obtain ⟨v5, Z6, c7, h⟩ := cl2_ok h
      refine cg_calli (va_runV (As := [.ref (ad 10 x1), .int x4, .int x2]) (rest := []) ⟨hx, hb, hml, hown, hts⟩ (mX2_countFewest l D G A ad Z x1 x4 x2 v5 Z6 c7) (cwV 3 hts gX2_findBest_X2_countFewest rfl rfl rfl (by decide +kernel) ⟨Nat.le_of_ble_eq_true rfl, Nat.le_of_ble_eq_true rfl⟩) (cg_preV hI hK hN rfl rfl (ci := 3) rfl) rfl rfl hl.1 rfl (lv_room (Nat.le_of_ble_eq_true rfl)) dX2_findBest_20 ⟨Nat.le_of_ble_eq_true rfl, Nat.le_of_ble_eq_true rfl⟩) hS (fun H locs hI hN hS => ?_)
      refine lv_if_ne (tgt := 28) hx hb dX2_findBest_23 (by decide) (fun hc => ?_) (fun hc => ?_)
      · have h := ite_f h hc
        obtain ⟨v8, ev8⟩ : ∃ y : Int32, y = (x4 + (-1 : Int32)) := ⟨_, rfl⟩
        have h := bnd_ok h ev8
        refine lv_iinc (v := v8) (lv' := [(4, .int v8), (0, .ref (ad 2 0)), (1, .ref (ad 10 x1)), (2, .int x2), (3, .int x3)]) hx hb dX2_findBest_28 hl (k := 4) rfl (by rw [ev8]; rfl) (by decide) rfl (fun ls hl => ?_)
        refine lv_goto (tgt := 10) hx hb dX2_findBest_31 (by decide) ?_
        exact hk10 x1 x2 x3 v8 Z6 h _ _ _ hI hN hS (lv_sub hl [1, 2, 3, 4, 0] rfl)
      · have h := ite_t h hc
        exact w26  Z6 h _ _ _ hI hN hS (lv_sub hl [] rfl)
  unfold fX2_findBest at h
  refine lv_aload_n hx hb dX2_findBest_0 rfl (lv_at hl 1 rfl) ?_
  obtain ⟨g1, h⟩ := gd_ok h
  obtain ⟨v2, c3, h⟩ := cl1_ok h
  refine cg_calli (va_runV (As := []) (rest := []) ⟨hx, hb, hml, hown, hts⟩ (mX0_phraseCount l D G A ad Z a1 v2 c3) (cwV 0 hts gX2_findBest_X0_phraseCount rfl rfl rfl (by decide +kernel) ⟨Nat.le_of_ble_eq_true rfl, Nat.le_of_ble_eq_true rfl⟩) (cg_preV hI hK hN g1 rfl (ci := 1) rfl) rfl rfl hl.1 rfl (lv_room (Nat.le_of_ble_eq_true rfl)) dX2_findBest_1 ⟨Nat.le_of_ble_eq_true rfl, Nat.le_of_ble_eq_true rfl⟩) hS (fun H locs hI hN hS => ?_)
  refine lv_istore_n (lv' := [(3, .int v2), (0, .ref (ad 2 0)), (1, .ref (ad 10 a1)), (2, .int a2)]) hx hb dX2_findBest_4 rfl hl (by decide) rfl (fun ls hl => ?_)
  refine lv_iload_n hx hb dX2_findBest_5 rfl (lv_at hl 0 rfl) ?_
  refine lv_iconst (v := (1 : Int32)) hx hb dX2_findBest_6 (by decide) ?_
  refine lv_isub hx hb dX2_findBest_7 ?_
  refine lv_topi (fun v4 ev4 => ?_)
  have h := bnd_ok h ev4
  refine lv_istore (lv' := [(4, .int v4), (3, .int v2), (0, .ref (ad 2 0)), (1, .ref (ad 10 a1)), (2, .int a2)]) hx hb dX2_findBest_8 hl (by decide) rfl (fun ls hl => ?_)
  exact w10  a1 a2 v2 v4 Z h _ _ _ hI hN hS (lv_sub hl [2, 3, 4, 1, 0] rfl)
def fX2_isPlaying_17 (Z : CZ) : Option (Int32) := some (1 : Int32)
def fX2_isPlaying_25 (Z : CZ) : Option (Int32) := some (0 : Int32)
def fX2_isPlaying_2 (Z : CZ) (k2 : Int32 → Int32 → Int32 → Option (Int32)) (x1 : Int32) (x2 : Int32) (x3 : Int32) : Option (Int32) := (if x2 ≤ x3 then fX2_isPlaying_25 Z else gd (gin x3 6) ((if (Z.1 16 0 (Int32.toNatClampNeg x3)) = x1 then fX2_isPlaying_17 Z else bnd (x3 + (1 : Int32)) (fun v2 => k2 x1 x2 v2))))
def fX2_isPlaying (a1 : Int32) (a2 : Int32) (Z : CZ) : Option (Int32) := lf3 (fX2_isPlaying_2 Z) 100 a1 a2 (0 : Int32)
def rmX2_isPlaying : Room := { frames := 1, cells := 0, slots := 0, locals := 30 }
set_option maxHeartbeats 4000000 in
set_option maxRecDepth 100000 in
theorem mX2_isPlaying (l : Launch) (D : va_G) (G : CGT) (A : Nat → Prop) (ad : Nat → Nat → Nat) (Z : CZ) (a1 : Int32) (a2 : Int32) (rz : Int32) (h : fX2_isPlaying a1 a2 Z = some rz) : Met l yX2_isPlaying wsX2_isPlaying rmX2_isPlaying (va_Pc [.ref (ad 2 0), .int a1, .int a2] (cP D G A ad Z)) (cQi D G A ad rz Z) 0 0 A := by
  refine Met.ofW (cc := cX2_isPlaying) (maxL := 4) (ret := some .boolean) (by decide) rfl ?_
  intro p e s m args below meth c s₁ B hml hv
  obtain ⟨rfl, hI, hN, hK⟩ := hv
  have hx := B.exec
  have hb := B.bytes
  have hr := B.returns
  have hts := atoms_spec (ws := wsX2_isPlaying) B.pre
  have hown : s.vm.findClass RX2 = some m.cls := findClass_of_methodNamed B.named
  have hlocks := B.notSynchronized
  have iwsX20 : ∀ w ∈ wsX20, w ∈ wsX2_isPlaying := fun w h => List.mem_cons_of_mem _ (List.mem_append_right _ h)
  have l0 := hts (.fieldLink RX2 9 "Panyard$Parts" "playing" "[I") (List.mem_of_getElem? (i := 1) rfl)
  have hS : va_S A s.heap s.heap [] := va_S.rf
  have hl := lv_entry ([.ref (ad 2 0), .int a1, .int a2]) (n := 4) (Nat.le_of_ble_eq_true rfl)
  rw [lg_entry_eq]
  generalize (lg_sl ([.ref (ad 2 0), .int a1, .int a2]) ++ List.replicate (4 - (lg_sl ([.ref (ad 2 0), .int a1, .int a2])).length) Slot.unset).toArray = ls at hl ⊢
  have hl : lv_has ls 4 [(0, .ref (ad 2 0)), (1, .int a1), (2, .int a2)] := hl
  have w17 : fX2_isPlaying_17 Z  = some rz → cG p l e (headSpec wsX2_isPlaying rmX2_isPlaying).room s m (([.ref (ad 2 0), .int a1, .int a2] : List Value).toArray) below meth c (MQ below (cQi D G A ad rz Z) (([.ref (ad 2 0), .int a1, .int a2] : List Value).toArray) s 0 0 A) D G A ad 0 0 4 Z 17 [] [] := by
    intro   h H locs ls hI hN hS hl
    unfold fX2_isPlaying_17 at h
    refine lv_iconst (v := (1 : Int32)) hx hb dX2_isPlaying_17 (by decide) ?_
    exact W.zret hx hb hr rfl (cg_endr h hI hK hN hS) hS.2.2 dX2_isPlaying_18
  have w25 : fX2_isPlaying_25 Z  = some rz → cG p l e (headSpec wsX2_isPlaying rmX2_isPlaying).room s m (([.ref (ad 2 0), .int a1, .int a2] : List Value).toArray) below meth c (MQ below (cQi D G A ad rz Z) (([.ref (ad 2 0), .int a1, .int a2] : List Value).toArray) s 0 0 A) D G A ad 0 0 4 Z 25 [] [] := by
    intro   h H locs ls hI hN hS hl
    unfold fX2_isPlaying_25 at h
    refine lv_iconst (v := (0 : Int32)) hx hb dX2_isPlaying_25 (by decide) ?_
    exact W.zret hx hb hr rfl (cg_endr h hI hK hN hS) hS.2.2 dX2_isPlaying_26
  have w2 : ∀ (x1 : Int32) (x2 : Int32) (x3 : Int32), lf3 (fX2_isPlaying_2 Z) 100 x1 x2 x3 = some rz → cG p l e (headSpec wsX2_isPlaying rmX2_isPlaying).room s m (([.ref (ad 2 0), .int a1, .int a2] : List Value).toArray) below meth c (MQ below (cQi D G A ad rz Z) (([.ref (ad 2 0), .int a1, .int a2] : List Value).toArray) s 0 0 A) D G A ad 0 0 4 Z 2 [(0, .ref (ad 2 0)), (1, .int x1), (2, .int x2), (3, .int x3)] [] := by
    refine lf3_ok (P := (fun x1 x2 x3 => cG p l e (headSpec wsX2_isPlaying rmX2_isPlaying).room s m (([.ref (ad 2 0), .int a1, .int a2] : List Value).toArray) below meth c (MQ below (cQi D G A ad rz Z) (([.ref (ad 2 0), .int a1, .int a2] : List Value).toArray) s 0 0 A) D G A ad 0 0 4 Z 2 [(0, .ref (ad 2 0)), (1, .int x1), (2, .int x2), (3, .int x3)] [])) (fun k2 hk2 x1 x2 x3 h H locs ls hI hN hS hl => ?_) 100
    unfold fX2_isPlaying_2 at h
    refine lv_iload_n hx hb dX2_isPlaying_2 rfl (lv_at hl 3 rfl) ?_
    refine lv_iload_n hx hb dX2_isPlaying_3 rfl (lv_at hl 2 rfl) ?_
    refine lv_icmp_ge (tgt := 25) hx hb dX2_isPlaying_4 (by decide) (fun hc => ?_) (fun hc => ?_)
    · have h := ite_t h hc
      exact w25   h _ _ _ hI hN hS (lv_sub hl [] rfl)
    · have h := ite_f h hc
      refine lv_aload_n hx hb dX2_isPlaying_7 rfl (lv_at hl 0 rfl) ?_
      refine cg_get (T := TX2) (N := 2) (ci := 3) hx hb hts iwsX20 hown hK hN rfl rfl rfl 0 (by decide) l0 rfl (v := .ref (ad 16 0)) rfl dX2_isPlaying_8 ?_
      refine lv_iload_n hx hb dX2_isPlaying_11 rfl (lv_at hl 3 rfl) ?_
      obtain ⟨g1, h⟩ := gd_ok h
      refine cg_ild hx hb hK hN rfl rfl (gin_ok g1) dX2_isPlaying_12 ?_
      refine lv_iload_n hx hb dX2_isPlaying_13 rfl (lv_at hl 1 rfl) ?_
      refine lv_icmp_ne (tgt := 19) hx hb dX2_isPlaying_14 (by decide) (fun hc => ?_) (fun hc => ?_)
      · have h := ite_f h hc
        obtain ⟨v2, ev2⟩ : ∃ y : Int32, y = (x3 + (1 : Int32)) := ⟨_, rfl⟩
        have h := bnd_ok h ev2
        refine lv_iinc (v := v2) (lv' := [(3, .int v2), (0, .ref (ad 2 0)), (1, .int x1), (2, .int x2)]) hx hb dX2_isPlaying_19 hl (k := 3) rfl (by rw [ev2]; rfl) (by decide) rfl (fun ls hl => ?_)
        refine lv_goto (tgt := 2) hx hb dX2_isPlaying_22 (by decide) ?_
        exact hk2 x1 x2 v2 h _ _ _ hI hN hS (lv_sub hl [1, 2, 3, 0] rfl)
      · have h := ite_t h hc
        exact w17   h _ _ _ hI hN hS (lv_sub hl [] rfl)
  unfold fX2_isPlaying at h
  refine lv_iconst (v := (0 : Int32)) hx hb dX2_isPlaying_0 (by decide) ?_
  refine lv_istore_n (lv' := [(3, .int (0 : Int32)), (0, .ref (ad 2 0)), (1, .int a1), (2, .int a2)]) hx hb dX2_isPlaying_1 rfl hl (by decide) rfl (fun ls hl => ?_)
  exact w2  a1 a2 (0 : Int32) h _ _ _ hI hN hS (lv_sub hl [1, 2, 3, 0] rfl)
def fX4_hasTunedPan_24 (Z : CZ) (t0 : Int32) : Option (Int32) := gd (gbo t0) (some t0)
def fX4_hasTunedPan_23 (Z : CZ) : Option (Int32) := fX4_hasTunedPan_24 Z (0 : Int32)
def fX4_hasTunedPan (a0 : Nat) (a1 : Int32) (Z : CZ) : Option (Int32) := gd (cLv Z.2.2 9 a0) (op2 (Z.2.1 9 a0 2) (fX4_hasTunedPan_23 Z) (fun q2 => gd (cLv Z.2.2 5 q2) (cl1 (fX1_isTunable q2 a1 (0 : Int32) Z) (fun v5 => (if v5 = 0 then fX4_hasTunedPan_23 Z else fX4_hasTunedPan_24 Z (1 : Int32))))))
def rmX4_hasTunedPan : Room := { frames := 3, cells := 0, slots := 0, locals := 76 }
set_option maxHeartbeats 4000000 in
set_option maxRecDepth 100000 in
theorem mX4_hasTunedPan (l : Launch) (D : va_G) (G : CGT) (A : Nat → Prop) (ad : Nat → Nat → Nat) (Z : CZ) (a0 : Nat) (a1 : Int32) (rz : Int32) (h : fX4_hasTunedPan a0 a1 Z = some rz) : Met l yX4_hasTunedPan wsX4_hasTunedPan rmX4_hasTunedPan (va_Pc [.ref (ad 9 a0), .int a1] (cP D G A ad Z)) (cQi D G A ad rz Z) 0 0 A := by
  refine Met.ofW (cc := cX4_hasTunedPan) (maxL := 2) (ret := some .boolean) (by decide) rfl ?_
  intro p e s m args below meth c s₁ B hml hv
  obtain ⟨rfl, hI, hN, hK⟩ := hv
  have hx := B.exec
  have hb := B.bytes
  have hr := B.returns
  have hts := atoms_spec (ws := wsX4_hasTunedPan) B.pre
  have hown : s.vm.findClass RX4 = some m.cls := findClass_of_methodNamed B.named
  have hlocks := B.notSynchronized
  have iwsX40 : ∀ w ∈ wsX40, w ∈ wsX4_hasTunedPan := fun w h => List.mem_cons_of_mem _ (List.mem_append_left _ (List.mem_append_right _ h))
  have l0 := hts (.fieldLink RX4 24 "Panyard$Player" "pan" "LPanyard$Pan;") (List.mem_of_getElem? (i := 1) rfl)
  have hS : va_S A s.heap s.heap [] := va_S.rf
  have hl := lv_entry ([.ref (ad 9 a0), .int a1]) (n := 2) (Nat.le_of_ble_eq_true rfl)
  rw [lg_entry_eq]
  generalize (lg_sl ([.ref (ad 9 a0), .int a1]) ++ List.replicate (2 - (lg_sl ([.ref (ad 9 a0), .int a1])).length) Slot.unset).toArray = ls at hl ⊢
  have hl : lv_has ls 2 [(0, .ref (ad 9 a0)), (1, .int a1)] := hl
  have w24 : ∀ (t0 : Int32), fX4_hasTunedPan_24 Z t0 = some rz → cG p l e (headSpec wsX4_hasTunedPan rmX4_hasTunedPan).room s m (([.ref (ad 9 a0), .int a1] : List Value).toArray) below meth c (MQ below (cQi D G A ad rz Z) (([.ref (ad 9 a0), .int a1] : List Value).toArray) s 0 0 A) D G A ad 0 0 2 Z 24 [] [.int t0] := by
    intro  t0 h H locs ls hI hN hS hl
    unfold fX4_hasTunedPan_24 at h
    obtain ⟨g7, h⟩ := gd_ok h
    exact W.zret hx hb hr (gbo_ok g7) (cg_endr h hI hK hN hS) hS.2.2 dX4_hasTunedPan_24
  have w23 : fX4_hasTunedPan_23 Z  = some rz → cG p l e (headSpec wsX4_hasTunedPan rmX4_hasTunedPan).room s m (([.ref (ad 9 a0), .int a1] : List Value).toArray) below meth c (MQ below (cQi D G A ad rz Z) (([.ref (ad 9 a0), .int a1] : List Value).toArray) s 0 0 A) D G A ad 0 0 2 Z 23 [] [] := by
    intro   h H locs ls hI hN hS hl
    unfold fX4_hasTunedPan_23 at h
    refine lv_iconst (v := (0 : Int32)) hx hb dX4_hasTunedPan_23 (by decide) ?_
    exact w24  (0 : Int32) h _ _ _ hI hN hS (lv_sub hl [] rfl)
  unfold fX4_hasTunedPan at h
  refine lv_aload_n hx hb dX4_hasTunedPan_0 rfl (lv_at hl 0 rfl) ?_
  obtain ⟨g1, h⟩ := gd_ok h
  rcases op2_ok h with ⟨c3, h⟩ | ⟨q2, c3, h⟩
  · refine cg_get (T := TX4) (N := 6) (ci := 5) hx hb hts iwsX40 hown hK hN g1 rfl rfl 2 (by decide) l0 rfl (v := .null) (congrArg (fun o => some (va_rf (Option.map (ad 5) o))) c3) dX4_hasTunedPan_1 ?_
    refine lv_ifnullN (tgt := 23) hx hb dX4_hasTunedPan_4 (by decide) ?_
    exact w23   h _ _ _ hI hN hS (lv_sub hl [] rfl)
  · refine cg_get (T := TX4) (N := 6) (ci := 5) hx hb hts iwsX40 hown hK hN g1 rfl rfl 2 (by decide) l0 rfl (v := .ref (ad 5 q2)) (congrArg (fun o => some (va_rf (Option.map (ad 5) o))) c3) dX4_hasTunedPan_1 ?_
    refine lv_ifnull hx hb dX4_hasTunedPan_4 ?_
    refine lv_aload_n hx hb dX4_hasTunedPan_7 rfl (lv_at hl 0 rfl) ?_
    refine cg_get (T := TX4) (N := 6) (ci := 5) hx hb hts iwsX40 hown hK hN g1 rfl rfl 2 (by decide) l0 rfl (v := .ref (ad 5 q2)) (congrArg (fun o => some (va_rf (Option.map (ad 5) o))) c3) dX4_hasTunedPan_8 ?_
    refine lv_iload_n hx hb dX4_hasTunedPan_11 rfl (lv_at hl 1 rfl) ?_
    refine lv_iconst (v := (0 : Int32)) hx hb dX4_hasTunedPan_12 (by decide) ?_
    obtain ⟨g4, h⟩ := gd_ok h
    obtain ⟨v5, c6, h⟩ := cl1_ok h
    refine cg_calli (va_runV (As := [.int a1, .int (0 : Int32)]) (rest := []) ⟨hx, hb, hml, hown, hts⟩ (mX1_isTunable l D G A ad Z q2 a1 (0 : Int32) v5 c6) (cwV 2 hts gX4_hasTunedPan_X1_isTunable rfl rfl rfl (by decide +kernel) ⟨Nat.le_of_ble_eq_true rfl, Nat.le_of_ble_eq_true rfl⟩) (cg_preV hI hK hN g4 rfl (ci := 2) rfl) rfl rfl hl.1 rfl (lv_room (Nat.le_of_ble_eq_true rfl)) dX4_hasTunedPan_13 ⟨Nat.le_of_ble_eq_true rfl, Nat.le_of_ble_eq_true rfl⟩) hS (fun H locs hI hN hS => ?_)
    refine lv_if_eq (tgt := 23) hx hb dX4_hasTunedPan_16 (by decide) (fun hc => ?_) (fun hc => ?_)
    · have h := ite_t h hc
      exact w23   h _ _ _ hI hN hS (lv_sub hl [] rfl)
    · have h := ite_f h hc
      refine lv_iconst (v := (1 : Int32)) hx hb dX4_hasTunedPan_19 (by decide) ?_
      refine lv_goto (tgt := 24) hx hb dX4_hasTunedPan_20 (by decide) ?_
      exact w24  (1 : Int32) h _ _ _ hI hN hS (lv_sub hl [] rfl)
def fX2_countUntuned_55 (Z : CZ) (k5 : Nat → Int32 → Int32 → Int32 → Option (Int32)) (x1 : Nat) (x2 : Int32) (x3 : Int32) (x4 : Int32) : Option (Int32) := bnd (x4 + (1 : Int32)) (fun v18 => k5 x1 x2 x3 v18)
def fX2_countUntuned_61 (Z : CZ) (x3 : Int32) : Option (Int32) := some x3
def fX2_countUntuned_5 (Z : CZ) (k5 : Nat → Int32 → Int32 → Int32 → Option (Int32)) (x1 : Nat) (x2 : Int32) (x3 : Int32) (x4 : Int32) : Option (Int32) := gd (cLv Z.2.2 10 x1) (gd (cLv Z.2.2 3 (x1 + 4)) (cl1 (fJx4a65c_size_8abf5 (x1 + 4) Z) (fun v3 => (if v3 ≤ x4 then fX2_countUntuned_61 Z x3 else cl1 (fX0_phraseCount x1 Z) (fun v5 => cl1 (fX2_isPlaying x4 v5 Z) (fun v7 => (if v7 = 0 then fX2_countUntuned_55 Z k5 x1 x2 x3 x4 else cl1 (fJx4a65c_get_915e3 (x1 + 4) x4 Z) (fun q9 => gd (cLv Z.2.2 13 q9) (cl1 (Z.2.1 13 q9 0) (fun q12 => gd (cLv Z.2.2 9 q12) (cl1 (fX4_hasTunedPan q12 x2 Z) (fun v15 => (if v15 = 0 then bnd (x3 + (1 : Int32)) (fun v17 => fX2_countUntuned_55 Z k5 x1 x2 v17 x4) else fX2_countUntuned_55 Z k5 x1 x2 x3 x4)))))))))))))
def fX2_countUntuned (a1 : Nat) (a2 : Int32) (Z : CZ) : Option (Int32) := lf4 (fX2_countUntuned_5 Z) 100 a1 a2 (0 : Int32) (0 : Int32)
def rmX2_countUntuned : Room := { frames := 4, cells := 0, slots := 0, locals := 97 }
set_option maxHeartbeats 4000000 in
set_option maxRecDepth 100000 in
theorem mX2_countUntuned (l : Launch) (D : va_G) (G : CGT) (A : Nat → Prop) (ad : Nat → Nat → Nat) (Z : CZ) (a1 : Nat) (a2 : Int32) (rz : Int32) (h : fX2_countUntuned a1 a2 Z = some rz) : Met l yX2_countUntuned wsX2_countUntuned rmX2_countUntuned (va_Pc [.ref (ad 2 0), .ref (ad 10 a1), .int a2] (cP D G A ad Z)) (cQi D G A ad rz Z) 0 0 A := by
  refine Met.ofW (cc := cX2_countUntuned) (maxL := 5) (ret := some .int) (by decide) rfl ?_
  intro p e s m args below meth c s₁ B hml hv
  obtain ⟨rfl, hI, hN, hK⟩ := hv
  have hx := B.exec
  have hb := B.bytes
  have hr := B.returns
  have hts := atoms_spec (ws := wsX2_countUntuned) B.pre
  have hown : s.vm.findClass RX2 = some m.cls := findClass_of_methodNamed B.named
  have hlocks := B.notSynchronized
  have iwsX00 : ∀ w ∈ wsX00, w ∈ wsX2_countUntuned := fun w h => List.mem_cons_of_mem _ (List.mem_append_left _ (List.mem_append_left _ (List.mem_append_left _ (List.mem_append_left _ (List.mem_append_left _ (List.mem_append_right _ h))))))
  have iwsX50 : ∀ w ∈ wsX50, w ∈ wsX2_countUntuned := fun w h => List.mem_cons_of_mem _ (List.mem_append_left _ (List.mem_append_left _ (List.mem_append_left _ (List.mem_append_left _ (List.mem_append_right _ h)))))
  have l0 := hts (.fieldLink RX2 34 "Panyard$Band" "seats" "Ljava/util/ArrayList;") (List.mem_of_getElem? (i := 1) rfl)
  have l1 := hts (.classLink RX2 51 "Panyard$Seat") (List.mem_of_getElem? (i := 2) rfl)
  have l2 := hts (.fieldLink RX2 53 "Panyard$Seat" "player" "LPanyard$Player;") (List.mem_of_getElem? (i := 3) rfl)
  have hS : va_S A s.heap s.heap [] := va_S.rf
  have hl := lv_entry ([.ref (ad 2 0), .ref (ad 10 a1), .int a2]) (n := 5) (Nat.le_of_ble_eq_true rfl)
  rw [lg_entry_eq]
  generalize (lg_sl ([.ref (ad 2 0), .ref (ad 10 a1), .int a2]) ++ List.replicate (5 - (lg_sl ([.ref (ad 2 0), .ref (ad 10 a1), .int a2])).length) Slot.unset).toArray = ls at hl ⊢
  have hl : lv_has ls 5 [(0, .ref (ad 2 0)), (1, .ref (ad 10 a1)), (2, .int a2)] := hl
  have w55 : ∀ (k5 : Nat → Int32 → Int32 → Int32 → Option (Int32)) (hk5 : (∀ (x1 : Nat) (x2 : Int32) (x3 : Int32) (x4 : Int32), k5 x1 x2 x3 x4 = some rz → cG p l e (headSpec wsX2_countUntuned rmX2_countUntuned).room s m (([.ref (ad 2 0), .ref (ad 10 a1), .int a2] : List Value).toArray) below meth c (MQ below (cQi D G A ad rz Z) (([.ref (ad 2 0), .ref (ad 10 a1), .int a2] : List Value).toArray) s 0 0 A) D G A ad 0 0 5 Z 5 [(0, .ref (ad 2 0)), (1, .ref (ad 10 x1)), (2, .int x2), (3, .int x3), (4, .int x4)] [])) (x1 : Nat) (x2 : Int32) (x3 : Int32) (x4 : Int32), fX2_countUntuned_55 Z k5 x1 x2 x3 x4 = some rz → cG p l e (headSpec wsX2_countUntuned rmX2_countUntuned).room s m (([.ref (ad 2 0), .ref (ad 10 a1), .int a2] : List Value).toArray) below meth c (MQ below (cQi D G A ad rz Z) (([.ref (ad 2 0), .ref (ad 10 a1), .int a2] : List Value).toArray) s 0 0 A) D G A ad 0 0 5 Z 55 [(0, .ref (ad 2 0)), (1, .ref (ad 10 x1)), (2, .int x2), (3, .int x3), (4, .int x4)] [] := by
    intro k5 hk5 x1 x2 x3 x4 h H locs ls hI hN hS hl
    unfold fX2_countUntuned_55 at h
    obtain ⟨v18, ev18⟩ : ∃ y : Int32, y = (x4 + (1 : Int32)) := ⟨_, rfl⟩
    have h := bnd_ok h ev18
    refine lv_iinc (v := v18) (lv' := [(4, .int v18), (0, .ref (ad 2 0)), (1, .ref (ad 10 x1)), (2, .int x2), (3, .int x3)]) hx hb dX2_countUntuned_55 hl (k := 4) rfl (by rw [ev18]; rfl) (by decide) rfl (fun ls hl => ?_)
    refine lv_goto (tgt := 5) hx hb dX2_countUntuned_58 (by decide) ?_
    exact hk5 x1 x2 x3 v18 h _ _ _ hI hN hS (lv_sub hl [1, 2, 3, 4, 0] rfl)
  have w61 : ∀ (x3 : Int32), fX2_countUntuned_61 Z x3 = some rz → cG p l e (headSpec wsX2_countUntuned rmX2_countUntuned).room s m (([.ref (ad 2 0), .ref (ad 10 a1), .int a2] : List Value).toArray) below meth c (MQ below (cQi D G A ad rz Z) (([.ref (ad 2 0), .ref (ad 10 a1), .int a2] : List Value).toArray) s 0 0 A) D G A ad 0 0 5 Z 61 [(3, .int x3)] [] := by
    intro  x3 h H locs ls hI hN hS hl
    unfold fX2_countUntuned_61 at h
    refine lv_iload_n hx hb dX2_countUntuned_61 rfl (lv_at hl 0 rfl) ?_
    exact W.iret hx hb hr (cg_endr h hI hK hN hS) hS.2.2 dX2_countUntuned_62
  have w5 : ∀ (x1 : Nat) (x2 : Int32) (x3 : Int32) (x4 : Int32), lf4 (fX2_countUntuned_5 Z) 100 x1 x2 x3 x4 = some rz → cG p l e (headSpec wsX2_countUntuned rmX2_countUntuned).room s m (([.ref (ad 2 0), .ref (ad 10 a1), .int a2] : List Value).toArray) below meth c (MQ below (cQi D G A ad rz Z) (([.ref (ad 2 0), .ref (ad 10 a1), .int a2] : List Value).toArray) s 0 0 A) D G A ad 0 0 5 Z 5 [(0, .ref (ad 2 0)), (1, .ref (ad 10 x1)), (2, .int x2), (3, .int x3), (4, .int x4)] [] := by
    refine lf4_ok (P := (fun x1 x2 x3 x4 => cG p l e (headSpec wsX2_countUntuned rmX2_countUntuned).room s m (([.ref (ad 2 0), .ref (ad 10 a1), .int a2] : List Value).toArray) below meth c (MQ below (cQi D G A ad rz Z) (([.ref (ad 2 0), .ref (ad 10 a1), .int a2] : List Value).toArray) s 0 0 A) D G A ad 0 0 5 Z 5 [(0, .ref (ad 2 0)), (1, .ref (ad 10 x1)), (2, .int x2), (3, .int x3), (4, .int x4)] [])) (fun k5 hk5 x1 x2 x3 x4 h H locs ls hI hN hS hl => ?_) 100
    unfold fX2_countUntuned_5 at h
    refine lv_iload hx hb dX2_countUntuned_5 (lv_at hl 4 rfl) ?_
    refine lv_aload_n hx hb dX2_countUntuned_7 rfl (lv_at hl 1 rfl) ?_
    obtain ⟨g1, h⟩ := gd_ok h
    refine cg_get (T := TX0) (N := 7) (ci := 1) hx hb hts iwsX00 hown hK hN g1 rfl rfl 0 (by decide) l0 rfl (v := .ref (ad 3 (x1 + 4))) rfl dX2_countUntuned_8 ?_
    obtain ⟨g2, h⟩ := gd_ok h
    obtain ⟨v3, c4, h⟩ := cl1_ok h
    refine cg_calli (va_runV (As := []) (rest := [.int x4]) ⟨hx, hb, hml, hown, hts⟩ (mJx4a65c_size_8abf5 l D G A ad Z (x1 + 4) v3 c4) (cwV 0 hts gX2_countUntuned_Jx4a65c_size_8abf5 rfl rfl rfl (by decide +kernel) ⟨Nat.le_of_ble_eq_true rfl, Nat.le_of_ble_eq_true rfl⟩) (cg_preV hI hK hN g2 rfl (ci := 0) rfl) rfl rfl hl.1 rfl (lv_room (Nat.le_of_ble_eq_true rfl)) dX2_countUntuned_11 ⟨Nat.le_of_ble_eq_true rfl, Nat.le_of_ble_eq_true rfl⟩) hS (fun H locs hI hN hS => ?_)
    refine lv_icmp_ge (tgt := 61) hx hb dX2_countUntuned_14 (by decide) (fun hc => ?_) (fun hc => ?_)
    · have h := ite_t h hc
      exact w61  x3 h _ _ _ hI hN hS (lv_sub hl [3] rfl)
    · have h := ite_f h hc
      refine lv_aload_n hx hb dX2_countUntuned_17 rfl (lv_at hl 0 rfl) ?_
      refine lv_iload hx hb dX2_countUntuned_18 (lv_at hl 4 rfl) ?_
      refine lv_aload_n hx hb dX2_countUntuned_20 rfl (lv_at hl 1 rfl) ?_
      obtain ⟨v5, c6, h⟩ := cl1_ok h
      refine cg_calli (va_runV (As := []) (rest := [.int x4, .ref (ad 2 0)]) ⟨hx, hb, hml, hown, hts⟩ (mX0_phraseCount l D G A ad Z x1 v5 c6) (cwV 0 hts gX2_countUntuned_X0_phraseCount rfl rfl rfl (by decide +kernel) ⟨Nat.le_of_ble_eq_true rfl, Nat.le_of_ble_eq_true rfl⟩) (cg_preV hI hK hN g1 rfl (ci := 1) rfl) rfl rfl hl.1 rfl (lv_room (Nat.le_of_ble_eq_true rfl)) dX2_countUntuned_21 ⟨Nat.le_of_ble_eq_true rfl, Nat.le_of_ble_eq_true rfl⟩) hS (fun H locs hI hN hS => ?_)
      obtain ⟨v7, c8, h⟩ := cl1_ok h
      refine cg_calli (va_runV (As := [.int x4, .int v5]) (rest := []) ⟨hx, hb, hml, hown, hts⟩ (mX2_isPlaying l D G A ad Z x4 v5 v7 c8) (cwV 2 hts gX2_countUntuned_X2_isPlaying rfl rfl rfl (by decide +kernel) ⟨Nat.le_of_ble_eq_true rfl, Nat.le_of_ble_eq_true rfl⟩) (cg_preV hI hK hN rfl rfl (ci := 3) rfl) rfl rfl hl.1 rfl (lv_room (Nat.le_of_ble_eq_true rfl)) dX2_countUntuned_24 ⟨Nat.le_of_ble_eq_true rfl, Nat.le_of_ble_eq_true rfl⟩) hS (fun H locs hI hN hS => ?_)
      refine lv_if_eq (tgt := 55) hx hb dX2_countUntuned_27 (by decide) (fun hc => ?_) (fun hc => ?_)
      · have h := ite_t h hc
        exact w55 k5 hk5 x1 x2 x3 x4 h _ _ _ hI hN hS (lv_sub hl [0, 1, 2, 3, 4] rfl)
      · have h := ite_f h hc
        refine lv_aload_n hx hb dX2_countUntuned_30 rfl (lv_at hl 1 rfl) ?_
        refine cg_get (T := TX0) (N := 7) (ci := 1) hx hb hts iwsX00 hown hK hN g1 rfl rfl 0 (by decide) l0 rfl (v := .ref (ad 3 (x1 + 4))) rfl dX2_countUntuned_31 ?_
        refine lv_iload hx hb dX2_countUntuned_34 (lv_at hl 4 rfl) ?_
        obtain ⟨q9, c10, h⟩ := cl1_ok h
        refine cg_callr (k := 13) (q := q9) (va_runV (As := [.int x4]) (rest := []) ⟨hx, hb, hml, hown, hts⟩ (mJx4a65c_get_915e3 l D G A ad Z (x1 + 4) x4 q9 c10) (cwV 1 hts gX2_countUntuned_Jx4a65c_get_915e3 rfl rfl rfl (by decide +kernel) ⟨Nat.le_of_ble_eq_true rfl, Nat.le_of_ble_eq_true rfl⟩) (cg_preV hI hK hN g2 rfl (ci := 0) rfl) rfl rfl hl.1 rfl (lv_room (Nat.le_of_ble_eq_true rfl)) dX2_countUntuned_36 ⟨Nat.le_of_ble_eq_true rfl, Nat.le_of_ble_eq_true rfl⟩) hS (fun H locs hI hN hS => ?_)
        obtain ⟨g11, h⟩ := gd_ok h
        refine va_castS hx hb hown l1 (hK.1.1 6 _ rfl).2 (cg_recv hK hN g11 rfl (ci := 6) rfl) dX2_countUntuned_39 ?_
        obtain ⟨q12, c13, h⟩ := cl1_ok h
        refine cg_get (T := TX5) (N := 2) (ci := 6) hx hb hts iwsX50 hown hK hN g11 rfl rfl 0 (by decide) l2 rfl (v := .ref (ad 9 q12)) (congrArg (fun o => some (va_rf (Option.map (ad 9) o))) c13) dX2_countUntuned_42 ?_
        refine lv_iload_n hx hb dX2_countUntuned_45 rfl (lv_at hl 2 rfl) ?_
        obtain ⟨g14, h⟩ := gd_ok h
        obtain ⟨v15, c16, h⟩ := cl1_ok h
        refine cg_calli (va_runV (As := [.int x2]) (rest := []) ⟨hx, hb, hml, hown, hts⟩ (mX4_hasTunedPan l D G A ad Z q12 x2 v15 c16) (cwV 1 hts gX2_countUntuned_X4_hasTunedPan rfl rfl rfl (by decide +kernel) ⟨Nat.le_of_ble_eq_true rfl, Nat.le_of_ble_eq_true rfl⟩) (cg_preV hI hK hN g14 rfl (ci := 5) rfl) rfl rfl hl.1 rfl (lv_room (Nat.le_of_ble_eq_true rfl)) dX2_countUntuned_46 ⟨Nat.le_of_ble_eq_true rfl, Nat.le_of_ble_eq_true rfl⟩) hS (fun H locs hI hN hS => ?_)
        refine lv_if_ne (tgt := 55) hx hb dX2_countUntuned_49 (by decide) (fun hc => ?_) (fun hc => ?_)
        · have h := ite_f h hc
          exact w55 k5 hk5 x1 x2 x3 x4 h _ _ _ hI hN hS (lv_sub hl [0, 1, 2, 3, 4] rfl)
        · have h := ite_t h hc
          obtain ⟨v17, ev17⟩ : ∃ y : Int32, y = (x3 + (1 : Int32)) := ⟨_, rfl⟩
          have h := bnd_ok h ev17
          refine lv_iinc (v := v17) (lv' := [(3, .int v17), (0, .ref (ad 2 0)), (1, .ref (ad 10 x1)), (2, .int x2), (4, .int x4)]) hx hb dX2_countUntuned_52 hl (k := 3) rfl (by rw [ev17]; rfl) (by decide) rfl (fun ls hl => ?_)
          exact w55 k5 hk5 x1 x2 v17 x4 h _ _ _ hI hN hS (lv_sub hl [1, 2, 3, 0, 4] rfl)
  unfold fX2_countUntuned at h
  refine lv_iconst (v := (0 : Int32)) hx hb dX2_countUntuned_0 (by decide) ?_
  refine lv_istore_n (lv' := [(3, .int (0 : Int32)), (0, .ref (ad 2 0)), (1, .ref (ad 10 a1)), (2, .int a2)]) hx hb dX2_countUntuned_1 rfl hl (by decide) rfl (fun ls hl => ?_)
  refine lv_iconst (v := (0 : Int32)) hx hb dX2_countUntuned_2 (by decide) ?_
  refine lv_istore (lv' := [(4, .int (0 : Int32)), (3, .int (0 : Int32)), (0, .ref (ad 2 0)), (1, .ref (ad 10 a1)), (2, .int a2)]) hx hb dX2_countUntuned_3 hl (by decide) rfl (fun ls hl => ?_)
  exact w5  a1 a2 (0 : Int32) (0 : Int32) h _ _ _ hI hN hS (lv_sub hl [2, 3, 4, 1, 0] rfl)
def fX3_fillRow_38 (kf : Nat → Int32 → Int32 → Int32 → CZ → Option (Int32 × CZ)) (Z : CZ) : Option (Int32 × CZ) := some ((0 : Int32), Z)
def fX3_fillRow_141 (kf : Nat → Int32 → Int32 → Int32 → CZ → Option (Int32 × CZ)) (Z : CZ) : Option (Int32 × CZ) := some ((1 : Int32), Z)
def fX3_fillRow_143 (kf : Nat → Int32 → Int32 → Int32 → CZ → Option (Int32 × CZ)) (k53 : Nat → Int32 → Int32 → Int32 → Nat → Int32 → CZ → Option (Int32 × CZ)) (x0 : Nat) (x3 : Int32) (x4 : Int32) (x5 : Int32) (x6 : Nat) (x7 : Int32) (Z : CZ) : Option (Int32 × CZ) := bnd (x7 + (1 : Int32)) (fun v24 => k53 x0 x3 x4 x5 x6 v24 Z)
def fX3_fillRow_80 (kf : Nat → Int32 → Int32 → Int32 → CZ → Option (Int32 × CZ)) (k53 : Nat → Int32 → Int32 → Int32 → Nat → Int32 → CZ → Option (Int32 × CZ)) (x0 : Nat) (x3 : Int32) (x4 : Int32) (x5 : Int32) (x6 : Nat) (x7 : Int32) (x8 : Int32) (t0 : Int32) (Z : CZ) : Option (Int32 × CZ) := gd (cLv Z.2.2 5 x0) (cl1 (fX1_bears x0 x8 t0 Z) (fun v11 => (if v11 = 0 then fX3_fillRow_143 kf k53 x0 x3 x4 x5 x6 x7 Z else gd (cLv Z.2.2 5 x6) (cl1 (fX1_copyFrom x6 x0 Z) (fun Z14 => gd (cLv Z14.2.2 5 x6) (cl1 (fX1_beat x6 x8 (((irm x7 (8 : Int32)) / (2 : Int32)) + (1 : Int32)) t0 Z14) (fun Z17 => gd (gin x3 3) (bnd (cuI Z17 15 0 (upd (Z17.1 15 0) (Int32.toNatClampNeg x3) x7)) (fun Z20 => cl2 (kf x6 (x3 + (1 : Int32)) (x4 - (1 : Int32)) x5 Z20) (fun v21 Z22 => (if v21 = 0 then fX3_fillRow_143 kf k53 x0 x3 x4 x5 x6 x7 Z22 else fX3_fillRow_141 kf Z22)))))))))))
def fX3_fillRow_149 (kf : Nat → Int32 → Int32 → Int32 → CZ → Option (Int32 × CZ)) (Z : CZ) : Option (Int32 × CZ) := some ((0 : Int32), Z)
def fX3_fillRow_53 (kf : Nat → Int32 → Int32 → Int32 → CZ → Option (Int32 × CZ)) (k53 : Nat → Int32 → Int32 → Int32 → Nat → Int32 → CZ → Option (Int32 × CZ)) (x0 : Nat) (x3 : Int32) (x4 : Int32) (x5 : Int32) (x6 : Nat) (x7 : Int32) (Z : CZ) : Option (Int32 × CZ) := (if (32 : Int32) ≤ x7 then fX3_fillRow_149 kf Z else bnd (x7 / (8 : Int32)) (fun v9 => (if (irm x7 (2 : Int32)) = (1 : Int32) then fX3_fillRow_80 kf k53 x0 x3 x4 x5 x6 x7 v9 (1 : Int32) Z else fX3_fillRow_80 kf k53 x0 x3 x4 x5 x6 x7 v9 (0 : Int32) Z)))
def fX3_fillRow_step (kf : Nat → Int32 → Int32 → Int32 → CZ → Option (Int32 × CZ)) (a1 : Nat) (a4 : Int32) (a5 : Int32) (a6 : Int32) (Z : CZ) : Option (Int32 × CZ) := gd (cLv Z.2.2 5 a1) (cl1 (fX1_isTunable a1 a6 a5 Z) (fun v2 => (if v2 = 0 then some ((0 : Int32), Z) else (if 0 < a5 then (if a4 < 0 then fX3_fillRow_38 kf Z else (if (3 : Int32) ≤ a4 then fX3_fillRow_38 kf Z else cl1 (fJx4a65c_size_8abf5 3 Z) (fun v4 => (if a4 < v4 then cl1 (fJx4a65c_get_915e3 3 a4 Z) (fun q6 => gd (cLv Z.2.2 5 q6) (lf7 (fX3_fillRow_53 kf) 100 a1 a4 a5 a6 q6 (0 : Int32) Z)) else fX3_fillRow_38 kf Z)))) else some ((1 : Int32), Z)))))
def fX3_fillRow (dp : Nat) : Nat → Int32 → Int32 → Int32 → CZ → Option (Int32 × CZ) := lf5 fX3_fillRow_step dp
def rmX3_fillRow (dp : Nat) : Room := { frames := dp + 8, cells := 0, slots := 0, locals := dp * 60 + 200 }
set_option maxHeartbeats 4000000 in
set_option maxRecDepth 100000 in
theorem mX3_fillRow_step (l : Launch) (D : va_G) (G : CGT) (A : Nat → Prop) (ad : Nat → Nat → Nat) (dp : Nat) (kf : Nat → Int32 → Int32 → Int32 → CZ → Option (Int32 × CZ)) (hkf : ∀ (Z : CZ) (a1 : Nat) (a4 : Int32) (a5 : Int32) (a6 : Int32) (rz : Int32) (Zz : CZ), kf a1 a4 a5 a6 Z = some (rz, Zz) → Met l yX3_fillRow wsX3_fillRow (rmX3_fillRow dp) (va_Pc [.ref (ad 5 a1), .ref (ad 3 3), .ref (ad 15 0), .int a4, .int a5, .int a6] (cP D G A ad Z)) (cQi D G A ad rz Zz) 0 0 A) (Z : CZ) (a1 : Nat) (a4 : Int32) (a5 : Int32) (a6 : Int32) (rz : Int32) (Zz : CZ) (h : fX3_fillRow_step kf a1 a4 a5 a6 Z = some (rz, Zz)) : Met l yX3_fillRow wsX3_fillRow (rmX3_fillRow (dp + 1)) (va_Pc [.ref (ad 5 a1), .ref (ad 3 3), .ref (ad 15 0), .int a4, .int a5, .int a6] (cP D G A ad Z)) (cQi D G A ad rz Zz) 0 0 A := by
  refine Met.ofW (cc := cX3_fillRow) (maxL := 10) (ret := some .boolean) (by decide) rfl ?_
  intro p e s m args below meth c s₁ B hml hv
  obtain ⟨rfl, hI, hN, hK⟩ := hv
  have hx := B.exec
  have hb := B.bytes
  have hr := B.returns
  have hts := atoms_spec (ws := wsX3_fillRow) B.pre
  have hown : s.vm.findClass RX3 = some m.cls := findClass_of_methodNamed B.named
  have hlocks := B.notSynchronized
  have l0 := hts (.classLink RX3 22 "Panyard$Pan") (List.mem_of_getElem? (i := 1) rfl)
  have hS : va_S A s.heap s.heap [] := va_S.rf
  have hl := lv_entry ([.ref (ad 5 a1), .ref (ad 3 3), .ref (ad 15 0), .int a4, .int a5, .int a6]) (n := 10) (Nat.le_of_ble_eq_true rfl)
  rw [lg_entry_eq]
  generalize (lg_sl ([.ref (ad 5 a1), .ref (ad 3 3), .ref (ad 15 0), .int a4, .int a5, .int a6]) ++ List.replicate (10 - (lg_sl ([.ref (ad 5 a1), .ref (ad 3 3), .ref (ad 15 0), .int a4, .int a5, .int a6])).length) Slot.unset).toArray = ls at hl ⊢
  have hl : lv_has ls 10 [(0, .ref (ad 5 a1)), (1, .ref (ad 3 3)), (2, .ref (ad 15 0)), (3, .int a4), (4, .int a5), (5, .int a6)] := hl
  have w38 : ∀ (Z : CZ), fX3_fillRow_38 kf Z = some (rz, Zz) → cG p l e (headSpec wsX3_fillRow (rmX3_fillRow (dp + 1))).room s m (([.ref (ad 5 a1), .ref (ad 3 3), .ref (ad 15 0), .int a4, .int a5, .int a6] : List Value).toArray) below meth c (MQ below (cQi D G A ad rz Zz) (([.ref (ad 5 a1), .ref (ad 3 3), .ref (ad 15 0), .int a4, .int a5, .int a6] : List Value).toArray) s 0 0 A) D G A ad 0 0 10 Z 38 [] [] := by
    intro  Z h H locs ls hI hN hS hl
    unfold fX3_fillRow_38 at h
    refine lv_iconst (v := (0 : Int32)) hx hb dX3_fillRow_38 (by decide) ?_
    exact W.zret hx hb hr rfl (cg_endi h hI hK hN hS) hS.2.2 dX3_fillRow_39
  have w141 : ∀ (Z : CZ), fX3_fillRow_141 kf Z = some (rz, Zz) → cG p l e (headSpec wsX3_fillRow (rmX3_fillRow (dp + 1))).room s m (([.ref (ad 5 a1), .ref (ad 3 3), .ref (ad 15 0), .int a4, .int a5, .int a6] : List Value).toArray) below meth c (MQ below (cQi D G A ad rz Zz) (([.ref (ad 5 a1), .ref (ad 3 3), .ref (ad 15 0), .int a4, .int a5, .int a6] : List Value).toArray) s 0 0 A) D G A ad 0 0 10 Z 141 [] [] := by
    intro  Z h H locs ls hI hN hS hl
    unfold fX3_fillRow_141 at h
    refine lv_iconst (v := (1 : Int32)) hx hb dX3_fillRow_141 (by decide) ?_
    exact W.zret hx hb hr rfl (cg_endi h hI hK hN hS) hS.2.2 dX3_fillRow_142
  have w143 : ∀ (k53 : Nat → Int32 → Int32 → Int32 → Nat → Int32 → CZ → Option (Int32 × CZ)) (hk53 : (∀ (x0 : Nat) (x3 : Int32) (x4 : Int32) (x5 : Int32) (x6 : Nat) (x7 : Int32) (Z : CZ), k53 x0 x3 x4 x5 x6 x7 Z = some (rz, Zz) → cG p l e (headSpec wsX3_fillRow (rmX3_fillRow (dp + 1))).room s m (([.ref (ad 5 a1), .ref (ad 3 3), .ref (ad 15 0), .int a4, .int a5, .int a6] : List Value).toArray) below meth c (MQ below (cQi D G A ad rz Zz) (([.ref (ad 5 a1), .ref (ad 3 3), .ref (ad 15 0), .int a4, .int a5, .int a6] : List Value).toArray) s 0 0 A) D G A ad 0 0 10 Z 53 [(0, .ref (ad 5 x0)), (1, .ref (ad 3 3)), (2, .ref (ad 15 0)), (3, .int x3), (4, .int x4), (5, .int x5), (6, .ref (ad 5 x6)), (7, .int x7)] [])) (x0 : Nat) (x3 : Int32) (x4 : Int32) (x5 : Int32) (x6 : Nat) (x7 : Int32) (Z : CZ), fX3_fillRow_143 kf k53 x0 x3 x4 x5 x6 x7 Z = some (rz, Zz) → cG p l e (headSpec wsX3_fillRow (rmX3_fillRow (dp + 1))).room s m (([.ref (ad 5 a1), .ref (ad 3 3), .ref (ad 15 0), .int a4, .int a5, .int a6] : List Value).toArray) below meth c (MQ below (cQi D G A ad rz Zz) (([.ref (ad 5 a1), .ref (ad 3 3), .ref (ad 15 0), .int a4, .int a5, .int a6] : List Value).toArray) s 0 0 A) D G A ad 0 0 10 Z 143 [(0, .ref (ad 5 x0)), (1, .ref (ad 3 3)), (2, .ref (ad 15 0)), (3, .int x3), (4, .int x4), (5, .int x5), (6, .ref (ad 5 x6)), (7, .int x7)] [] := by
    intro k53 hk53 x0 x3 x4 x5 x6 x7 Z h H locs ls hI hN hS hl
    unfold fX3_fillRow_143 at h
    obtain ⟨v24, ev24⟩ : ∃ y : Int32, y = (x7 + (1 : Int32)) := ⟨_, rfl⟩
    have h := bnd_ok h ev24
    refine lv_iinc (v := v24) (lv' := [(7, .int v24), (0, .ref (ad 5 x0)), (1, .ref (ad 3 3)), (2, .ref (ad 15 0)), (3, .int x3), (4, .int x4), (5, .int x5), (6, .ref (ad 5 x6))]) hx hb dX3_fillRow_143 hl (k := 7) rfl (by rw [ev24]; rfl) (by decide) rfl (fun ls hl => ?_)
    refine lv_goto (tgt := 53) hx hb dX3_fillRow_146 (by decide) ?_
    exact hk53 x0 x3 x4 x5 x6 v24 Z h _ _ _ hI hN hS (lv_sub hl [1, 2, 3, 4, 5, 6, 7, 0] rfl)
  have w80 : ∀ (k53 : Nat → Int32 → Int32 → Int32 → Nat → Int32 → CZ → Option (Int32 × CZ)) (hk53 : (∀ (x0 : Nat) (x3 : Int32) (x4 : Int32) (x5 : Int32) (x6 : Nat) (x7 : Int32) (Z : CZ), k53 x0 x3 x4 x5 x6 x7 Z = some (rz, Zz) → cG p l e (headSpec wsX3_fillRow (rmX3_fillRow (dp + 1))).room s m (([.ref (ad 5 a1), .ref (ad 3 3), .ref (ad 15 0), .int a4, .int a5, .int a6] : List Value).toArray) below meth c (MQ below (cQi D G A ad rz Zz) (([.ref (ad 5 a1), .ref (ad 3 3), .ref (ad 15 0), .int a4, .int a5, .int a6] : List Value).toArray) s 0 0 A) D G A ad 0 0 10 Z 53 [(0, .ref (ad 5 x0)), (1, .ref (ad 3 3)), (2, .ref (ad 15 0)), (3, .int x3), (4, .int x4), (5, .int x5), (6, .ref (ad 5 x6)), (7, .int x7)] [])) (x0 : Nat) (x3 : Int32) (x4 : Int32) (x5 : Int32) (x6 : Nat) (x7 : Int32) (x8 : Int32) (t0 : Int32) (Z : CZ), fX3_fillRow_80 kf k53 x0 x3 x4 x5 x6 x7 x8 t0 Z = some (rz, Zz) → cG p l e (headSpec wsX3_fillRow (rmX3_fillRow (dp + 1))).room s m (([.ref (ad 5 a1), .ref (ad 3 3), .ref (ad 15 0), .int a4, .int a5, .int a6] : List Value).toArray) below meth c (MQ below (cQi D G A ad rz Zz) (([.ref (ad 5 a1), .ref (ad 3 3), .ref (ad 15 0), .int a4, .int a5, .int a6] : List Value).toArray) s 0 0 A) D G A ad 0 0 10 Z 80 [(0, .ref (ad 5 x0)), (1, .ref (ad 3 3)), (2, .ref (ad 15 0)), (3, .int x3), (4, .int x4), (5, .int x5), (6, .ref (ad 5 x6)), (7, .int x7), (8, .int x8)] [.int t0] := by
    intro k53 hk53 x0 x3 x4 x5 x6 x7 x8 t0 Z h H locs ls hI hN hS hl
    unfold fX3_fillRow_80 at h
    refine lv_istore (lv' := [(9, .int t0), (0, .ref (ad 5 x0)), (1, .ref (ad 3 3)), (2, .ref (ad 15 0)), (3, .int x3), (4, .int x4), (5, .int x5), (6, .ref (ad 5 x6)), (7, .int x7), (8, .int x8)]) hx hb dX3_fillRow_80 hl (by decide) rfl (fun ls hl => ?_)
    refine lv_aload_n hx hb dX3_fillRow_82 rfl (lv_at hl 1 rfl) ?_
    refine lv_iload hx hb dX3_fillRow_83 (lv_at hl 9 rfl) ?_
    refine lv_iload hx hb dX3_fillRow_85 (lv_at hl 0 rfl) ?_
    obtain ⟨g10, h⟩ := gd_ok h
    obtain ⟨v11, c12, h⟩ := cl1_ok h
    refine cg_calli (va_runV (As := [.int x8, .int t0]) (rest := []) ⟨hx, hb, hml, hown, hts⟩ (mX1_bears l D G A ad Z x0 x8 t0 v11 c12) (cwV 2 hts gX3_fillRow_X1_bears rfl rfl rfl (by decide +kernel) ⟨(by show 2 + 1 ≤ (dp + 1) + 8; omega), (by show 8 + (3 + 11) + 51 ≤ (dp + 1) * 60 + 200; omega)⟩) (cg_preV hI hK hN g10 rfl (ci := 2) rfl) rfl rfl hl.1 rfl (lv_room (Nat.le_of_ble_eq_true rfl)) dX3_fillRow_87 ⟨Nat.le_of_ble_eq_true rfl, Nat.le_of_ble_eq_true rfl⟩) hS (fun H locs hI hN hS => ?_)
    refine lv_if_eq (tgt := 143) hx hb dX3_fillRow_90 (by decide) (fun hc => ?_) (fun hc => ?_)
    · have h := ite_t h hc
      exact w143 k53 hk53 x0 x3 x4 x5 x6 x7 Z h _ _ _ hI hN hS (lv_sub hl [1, 2, 3, 4, 5, 6, 7, 8] rfl)
    · have h := ite_f h hc
      refine lv_aload hx hb dX3_fillRow_93 (lv_at hl 7 rfl) ?_
      refine lv_aload_n hx hb dX3_fillRow_95 rfl (lv_at hl 1 rfl) ?_
      obtain ⟨g13, h⟩ := gd_ok h
      obtain ⟨Z14, c15, h⟩ := cl1_ok h
      refine cg_callv (va_runV (As := [.ref (ad 5 x0)]) (rest := []) ⟨hx, hb, hml, hown, hts⟩ (mX1_copyFrom l D G A ad Z x6 x0 Z14 c15) (cwV 1 hts gX3_fillRow_X1_copyFrom rfl rfl rfl (by decide +kernel) ⟨(by show 1 + 1 ≤ (dp + 1) + 8; omega), (by show 8 + (3 + 11) + 30 ≤ (dp + 1) * 60 + 200; omega)⟩) (cg_preV hI hK hN g13 rfl (ci := 2) rfl) rfl rfl hl.1 rfl (lv_room (Nat.le_of_ble_eq_true rfl)) dX3_fillRow_96 ⟨Nat.le_of_ble_eq_true rfl, Nat.le_of_ble_eq_true rfl⟩) hS (fun H locs hI hN hS => ?_)
      refine lv_aload hx hb dX3_fillRow_99 (lv_at hl 7 rfl) ?_
      refine lv_iload hx hb dX3_fillRow_101 (lv_at hl 9 rfl) ?_
      refine lv_iload hx hb dX3_fillRow_103 (lv_at hl 8 rfl) ?_
      refine lv_bipush (v := (8 : Int32)) hx hb dX3_fillRow_105 (by decide) ?_
      refine lv_irm hx hb dX3_fillRow_107 (by decide) ?_
      refine lv_iconst (v := (2 : Int32)) hx hb dX3_fillRow_108 (by decide) ?_
      refine lv_idiv hx hb dX3_fillRow_109 (by decide) ?_
      refine lv_iconst (v := (1 : Int32)) hx hb dX3_fillRow_110 (by decide) ?_
      refine lv_iadd hx hb dX3_fillRow_111 ?_
      refine lv_iload hx hb dX3_fillRow_112 (lv_at hl 0 rfl) ?_
      obtain ⟨g16, h⟩ := gd_ok h
      obtain ⟨Z17, c18, h⟩ := cl1_ok h
      refine cg_callv (va_runV (As := [.int x8, .int (((irm x7 (8 : Int32)) / (2 : Int32)) + (1 : Int32)), .int t0]) (rest := []) ⟨hx, hb, hml, hown, hts⟩ (mX1_beat l D G A ad Z14 x6 x8 (((irm x7 (8 : Int32)) / (2 : Int32)) + (1 : Int32)) t0 Z17 c18) (cwV 3 hts gX3_fillRow_X1_beat rfl rfl rfl (by decide +kernel) ⟨(by show 1 + 1 ≤ (dp + 1) + 8; omega), (by show 8 + (5 + 11) + 30 ≤ (dp + 1) * 60 + 200; omega)⟩) (cg_preV hI hK hN g16 rfl (ci := 2) rfl) rfl rfl hl.1 rfl (lv_room (Nat.le_of_ble_eq_true rfl)) dX3_fillRow_114 ⟨Nat.le_of_ble_eq_true rfl, Nat.le_of_ble_eq_true rfl⟩) hS (fun H locs hI hN hS => ?_)
      refine lv_aload_n hx hb dX3_fillRow_117 rfl (lv_at hl 3 rfl) ?_
      refine lv_iload_n hx hb dX3_fillRow_118 rfl (lv_at hl 4 rfl) ?_
      refine lv_iload hx hb dX3_fillRow_119 (lv_at hl 8 rfl) ?_
      obtain ⟨g19, h⟩ := gd_ok h
      obtain ⟨Z20, eZ20⟩ : ∃ y : CZ, y = (cuI Z17 15 0 (upd (Z17.1 15 0) (Int32.toNatClampNeg x3) x7)) := ⟨_, rfl⟩
      have h := bnd_ok h eZ20
      refine cg_ist hx hb hI hK hN hS rfl rfl (gin_ok g19) rfl dX3_fillRow_121 eZ20 (fun H locs hI hN hS => ?_)
      refine lv_aload hx hb dX3_fillRow_122 (lv_at hl 7 rfl) ?_
      refine lv_aload_n hx hb dX3_fillRow_124 rfl (lv_at hl 2 rfl) ?_
      refine lv_aload_n hx hb dX3_fillRow_125 rfl (lv_at hl 3 rfl) ?_
      refine lv_iload_n hx hb dX3_fillRow_126 rfl (lv_at hl 4 rfl) ?_
      refine lv_iconst (v := (1 : Int32)) hx hb dX3_fillRow_127 (by decide) ?_
      refine lv_iadd hx hb dX3_fillRow_128 ?_
      refine lv_iload hx hb dX3_fillRow_129 (lv_at hl 5 rfl) ?_
      refine lv_iconst (v := (1 : Int32)) hx hb dX3_fillRow_131 (by decide) ?_
      refine lv_isub hx hb dX3_fillRow_132 ?_
      refine lv_iload hx hb dX3_fillRow_133 (lv_at hl 6 rfl) ?_
      obtain ⟨v21, Z22, c23, h⟩ := cl2_ok h
      refine cg_calli (va_runS (As := [.ref (ad 5 x6), .ref (ad 3 3), .ref (ad 15 0), .int (x3 + (1 : Int32)), .int (x4 - (1 : Int32)), .int x5]) (rest := []) ⟨hx, hb, hml, hown, hts⟩ (hkf Z20 x6 (x3 + (1 : Int32)) (x4 - (1 : Int32)) x5 v21 Z22 c23) (va_cwS 6 hts gX3_fillRow_X3_fillRow rfl rfl rfl (by decide +kernel) ⟨(by show (dp + 8) + 1 ≤ (dp + 1) + 8; omega), (by show 8 + (10 + 11) + (dp * 60 + 200) ≤ (dp + 1) * 60 + 200; omega)⟩) (cg_preS hI hK hN) rfl rfl hl.1 rfl (lv_room (Nat.le_of_ble_eq_true rfl)) dX3_fillRow_135 ⟨Nat.le_of_ble_eq_true rfl, Nat.le_of_ble_eq_true rfl⟩) hS (fun H locs hI hN hS => ?_)
      refine lv_if_eq (tgt := 143) hx hb dX3_fillRow_138 (by decide) (fun hc => ?_) (fun hc => ?_)
      · have h := ite_t h hc
        exact w143 k53 hk53 x0 x3 x4 x5 x6 x7 Z22 h _ _ _ hI hN hS (lv_sub hl [1, 2, 3, 4, 5, 6, 7, 8] rfl)
      · have h := ite_f h hc
        exact w141  Z22 h _ _ _ hI hN hS (lv_sub hl [] rfl)
  have w149 : ∀ (Z : CZ), fX3_fillRow_149 kf Z = some (rz, Zz) → cG p l e (headSpec wsX3_fillRow (rmX3_fillRow (dp + 1))).room s m (([.ref (ad 5 a1), .ref (ad 3 3), .ref (ad 15 0), .int a4, .int a5, .int a6] : List Value).toArray) below meth c (MQ below (cQi D G A ad rz Zz) (([.ref (ad 5 a1), .ref (ad 3 3), .ref (ad 15 0), .int a4, .int a5, .int a6] : List Value).toArray) s 0 0 A) D G A ad 0 0 10 Z 149 [] [] := by
    intro  Z h H locs ls hI hN hS hl
    unfold fX3_fillRow_149 at h
    refine lv_iconst (v := (0 : Int32)) hx hb dX3_fillRow_149 (by decide) ?_
    exact W.zret hx hb hr rfl (cg_endi h hI hK hN hS) hS.2.2 dX3_fillRow_150
  have w53 : ∀ (x0 : Nat) (x3 : Int32) (x4 : Int32) (x5 : Int32) (x6 : Nat) (x7 : Int32) (Z : CZ), lf7 (fX3_fillRow_53 kf) 100 x0 x3 x4 x5 x6 x7 Z = some (rz, Zz) → cG p l e (headSpec wsX3_fillRow (rmX3_fillRow (dp + 1))).room s m (([.ref (ad 5 a1), .ref (ad 3 3), .ref (ad 15 0), .int a4, .int a5, .int a6] : List Value).toArray) below meth c (MQ below (cQi D G A ad rz Zz) (([.ref (ad 5 a1), .ref (ad 3 3), .ref (ad 15 0), .int a4, .int a5, .int a6] : List Value).toArray) s 0 0 A) D G A ad 0 0 10 Z 53 [(0, .ref (ad 5 x0)), (1, .ref (ad 3 3)), (2, .ref (ad 15 0)), (3, .int x3), (4, .int x4), (5, .int x5), (6, .ref (ad 5 x6)), (7, .int x7)] [] := by
    refine lf7_ok (P := (fun x0 x3 x4 x5 x6 x7 Z => cG p l e (headSpec wsX3_fillRow (rmX3_fillRow (dp + 1))).room s m (([.ref (ad 5 a1), .ref (ad 3 3), .ref (ad 15 0), .int a4, .int a5, .int a6] : List Value).toArray) below meth c (MQ below (cQi D G A ad rz Zz) (([.ref (ad 5 a1), .ref (ad 3 3), .ref (ad 15 0), .int a4, .int a5, .int a6] : List Value).toArray) s 0 0 A) D G A ad 0 0 10 Z 53 [(0, .ref (ad 5 x0)), (1, .ref (ad 3 3)), (2, .ref (ad 15 0)), (3, .int x3), (4, .int x4), (5, .int x5), (6, .ref (ad 5 x6)), (7, .int x7)] [])) (fun k53 hk53 x0 x3 x4 x5 x6 x7 Z h H locs ls hI hN hS hl => ?_) 100
    unfold fX3_fillRow_53 at h
    refine lv_iload hx hb dX3_fillRow_53 (lv_at hl 7 rfl) ?_
    refine lv_bipush (v := (32 : Int32)) hx hb dX3_fillRow_55 (by decide) ?_
    refine lv_icmp_ge (tgt := 149) hx hb dX3_fillRow_57 (by decide) (fun hc => ?_) (fun hc => ?_)
    · have h := ite_t h hc
      exact w149  Z h _ _ _ hI hN hS (lv_sub hl [] rfl)
    · have h := ite_f h hc
      refine lv_iload hx hb dX3_fillRow_60 (lv_at hl 7 rfl) ?_
      refine lv_bipush (v := (8 : Int32)) hx hb dX3_fillRow_62 (by decide) ?_
      refine lv_idiv hx hb dX3_fillRow_64 (by decide) ?_
      refine lv_topi (fun v9 ev9 => ?_)
      have h := bnd_ok h ev9
      refine lv_istore (lv' := [(8, .int v9), (0, .ref (ad 5 x0)), (1, .ref (ad 3 3)), (2, .ref (ad 15 0)), (3, .int x3), (4, .int x4), (5, .int x5), (6, .ref (ad 5 x6)), (7, .int x7)]) hx hb dX3_fillRow_65 hl (by decide) rfl (fun ls hl => ?_)
      refine lv_iload hx hb dX3_fillRow_67 (lv_at hl 8 rfl) ?_
      refine lv_iconst (v := (2 : Int32)) hx hb dX3_fillRow_69 (by decide) ?_
      refine lv_irm hx hb dX3_fillRow_70 (by decide) ?_
      refine lv_iconst (v := (1 : Int32)) hx hb dX3_fillRow_71 (by decide) ?_
      refine lv_icmp_ne (tgt := 79) hx hb dX3_fillRow_72 (by decide) (fun hc => ?_) (fun hc => ?_)
      · have h := ite_f h hc
        refine lv_iconst (v := (0 : Int32)) hx hb dX3_fillRow_79 (by decide) ?_
        exact w80 k53 hk53 x0 x3 x4 x5 x6 x7 v9 (0 : Int32) Z h _ _ _ hI hN hS (lv_sub hl [1, 2, 3, 4, 5, 6, 7, 8, 0] rfl)
      · have h := ite_t h hc
        refine lv_iconst (v := (1 : Int32)) hx hb dX3_fillRow_75 (by decide) ?_
        refine lv_goto (tgt := 80) hx hb dX3_fillRow_76 (by decide) ?_
        exact w80 k53 hk53 x0 x3 x4 x5 x6 x7 v9 (1 : Int32) Z h _ _ _ hI hN hS (lv_sub hl [1, 2, 3, 4, 5, 6, 7, 8, 0] rfl)
  unfold fX3_fillRow_step at h
  refine lv_aload_n hx hb dX3_fillRow_0 rfl (lv_at hl 0 rfl) ?_
  refine lv_iload hx hb dX3_fillRow_1 (lv_at hl 5 rfl) ?_
  refine lv_iload hx hb dX3_fillRow_3 (lv_at hl 4 rfl) ?_
  obtain ⟨g1, h⟩ := gd_ok h
  obtain ⟨v2, c3, h⟩ := cl1_ok h
  refine cg_calli (va_runV (As := [.int a6, .int a5]) (rest := []) ⟨hx, hb, hml, hown, hts⟩ (mX1_isTunable l D G A ad Z a1 a6 a5 v2 c3) (cwV 2 hts gX3_fillRow_X1_isTunable rfl rfl rfl (by decide +kernel) ⟨(by show 2 + 1 ≤ (dp + 1) + 8; omega), (by show 8 + (6 + 11) + 51 ≤ (dp + 1) * 60 + 200; omega)⟩) (cg_preV hI hK hN g1 rfl (ci := 2) rfl) rfl rfl hl.1 rfl (lv_room (Nat.le_of_ble_eq_true rfl)) dX3_fillRow_5 ⟨Nat.le_of_ble_eq_true rfl, Nat.le_of_ble_eq_true rfl⟩) hS (fun H locs hI hN hS => ?_)
  refine lv_if_ne (tgt := 13) hx hb dX3_fillRow_8 (by decide) (fun hc => ?_) (fun hc => ?_)
  · have h := ite_f h hc
    refine lv_iload hx hb dX3_fillRow_13 (lv_at hl 4 rfl) ?_
    refine lv_if_gt (tgt := 20) hx hb dX3_fillRow_15 (by decide) (fun hc => ?_) (fun hc => ?_)
    · have h := ite_t h hc
      refine lv_iload_n hx hb dX3_fillRow_20 rfl (lv_at hl 3 rfl) ?_
      refine lv_if_lt (tgt := 38) hx hb dX3_fillRow_21 (by decide) (fun hc => ?_) (fun hc => ?_)
      · have h := ite_t h hc
        exact w38  Z h _ _ _ hI hN hS (lv_sub hl [] rfl)
      · have h := ite_f h hc
        refine lv_iload_n hx hb dX3_fillRow_24 rfl (lv_at hl 3 rfl) ?_
        refine lv_aload_n hx hb dX3_fillRow_25 rfl (lv_at hl 2 rfl) ?_
        refine cg_alen (v := (3 : Int32)) hx hb hK hN rfl rfl rfl dX3_fillRow_26 ?_
        refine lv_icmp_ge (tgt := 38) hx hb dX3_fillRow_27 (by decide) (fun hc => ?_) (fun hc => ?_)
        · have h := ite_t h hc
          exact w38  Z h _ _ _ hI hN hS (lv_sub hl [] rfl)
        · have h := ite_f h hc
          refine lv_iload_n hx hb dX3_fillRow_30 rfl (lv_at hl 3 rfl) ?_
          refine lv_aload_n hx hb dX3_fillRow_31 rfl (lv_at hl 1 rfl) ?_
          obtain ⟨v4, c5, h⟩ := cl1_ok h
          refine cg_calli (va_runV (As := []) (rest := [.int a4]) ⟨hx, hb, hml, hown, hts⟩ (mJx4a65c_size_8abf5 l D G A ad Z 3 v4 c5) (cwV 0 hts gX3_fillRow_Jx4a65c_size_8abf5 rfl rfl rfl (by decide +kernel) ⟨(by show 1 + 1 ≤ (dp + 1) + 8; omega), (by show 8 + (1 + 11) + 30 ≤ (dp + 1) * 60 + 200; omega)⟩) (cg_preV hI hK hN rfl rfl (ci := 0) rfl) rfl rfl hl.1 rfl (lv_room (Nat.le_of_ble_eq_true rfl)) dX3_fillRow_32 ⟨Nat.le_of_ble_eq_true rfl, Nat.le_of_ble_eq_true rfl⟩) hS (fun H locs hI hN hS => ?_)
          refine lv_icmp_lt (tgt := 40) hx hb dX3_fillRow_35 (by decide) (fun hc => ?_) (fun hc => ?_)
          · have h := ite_t h hc
            refine lv_aload_n hx hb dX3_fillRow_40 rfl (lv_at hl 1 rfl) ?_
            refine lv_iload_n hx hb dX3_fillRow_41 rfl (lv_at hl 3 rfl) ?_
            obtain ⟨q6, c7, h⟩ := cl1_ok h
            refine cg_callr (k := 5) (q := q6) (va_runV (As := [.int a4]) (rest := []) ⟨hx, hb, hml, hown, hts⟩ (mJx4a65c_get_915e3 l D G A ad Z 3 a4 q6 c7) (cwV 1 hts gX3_fillRow_Jx4a65c_get_915e3 rfl rfl rfl (by decide +kernel) ⟨(by show 3 + 1 ≤ (dp + 1) + 8; omega), (by show 8 + (2 + 11) + 73 ≤ (dp + 1) * 60 + 200; omega)⟩) (cg_preV hI hK hN rfl rfl (ci := 0) rfl) rfl rfl hl.1 rfl (lv_room (Nat.le_of_ble_eq_true rfl)) dX3_fillRow_42 ⟨Nat.le_of_ble_eq_true rfl, Nat.le_of_ble_eq_true rfl⟩) hS (fun H locs hI hN hS => ?_)
            obtain ⟨g8, h⟩ := gd_ok h
            refine va_castS hx hb hown l0 (hK.1.1 2 _ rfl).2 (cg_recv hK hN g8 rfl (ci := 2) rfl) dX3_fillRow_45 ?_
            refine lv_astore (lv' := [(6, .ref (ad 5 q6)), (0, .ref (ad 5 a1)), (1, .ref (ad 3 3)), (2, .ref (ad 15 0)), (3, .int a4), (4, .int a5), (5, .int a6)]) hx hb dX3_fillRow_48 hl (by decide) rfl (fun ls hl => ?_)
            refine lv_iconst (v := (0 : Int32)) hx hb dX3_fillRow_50 (by decide) ?_
            refine lv_istore (lv' := [(7, .int (0 : Int32)), (6, .ref (ad 5 q6)), (0, .ref (ad 5 a1)), (1, .ref (ad 3 3)), (2, .ref (ad 15 0)), (3, .int a4), (4, .int a5), (5, .int a6)]) hx hb dX3_fillRow_51 hl (by decide) rfl (fun ls hl => ?_)
            exact w53  a1 a4 a5 a6 q6 (0 : Int32) Z h _ _ _ hI hN hS (lv_sub hl [2, 3, 4, 5, 6, 7, 1, 0] rfl)
          · have h := ite_f h hc
            exact w38  Z h _ _ _ hI hN hS (lv_sub hl [] rfl)
    · have h := ite_f h hc
      refine lv_iconst (v := (1 : Int32)) hx hb dX3_fillRow_18 (by decide) ?_
      exact W.zret hx hb hr rfl (cg_endi h hI hK hN hS) hS.2.2 dX3_fillRow_19
  · have h := ite_t h hc
    refine lv_iconst (v := (0 : Int32)) hx hb dX3_fillRow_11 (by decide) ?_
    exact W.zret hx hb hr rfl (cg_endi h hI hK hN hS) hS.2.2 dX3_fillRow_12
theorem mX3_fillRow (l : Launch) (D : va_G) (G : CGT) (A : Nat → Prop) (ad : Nat → Nat → Nat) : ∀ (dp : Nat) (Z : CZ) (a1 : Nat) (a4 : Int32) (a5 : Int32) (a6 : Int32) (rz : Int32) (Zz : CZ) (h : fX3_fillRow dp a1 a4 a5 a6 Z = some (rz, Zz)), Met l yX3_fillRow wsX3_fillRow (rmX3_fillRow dp) (va_Pc [.ref (ad 5 a1), .ref (ad 3 3), .ref (ad 15 0), .int a4, .int a5, .int a6] (cP D G A ad Z)) (cQi D G A ad rz Zz) 0 0 A
  | 0, _, _, _, _, _, _, _, h => by cases h
  | dp + 1, Z, a1, a4, a5, a6, rz, Zz, h => mX3_fillRow_step l D G A ad dp (fX3_fillRow dp) (mX3_fillRow l D G A ad dp) Z a1 a4 a5 a6 rz Zz h
def fX3_findRow_25 (x3 : Int32) (Z : CZ) : Option (Int32 × CZ) := some (x3, Z)
def fX3_findRow_33 (Z : CZ) : Option (Int32 × CZ) := some ((-1 : Int32), Z)
def fX3_findRow_2 (k2 : Nat → Int32 → Int32 → CZ → Option (Int32 × CZ)) (x1 : Nat) (x2 : Int32) (x3 : Int32) (Z : CZ) : Option (Int32 × CZ) := (if (3 : Int32) < x3 then fX3_findRow_33 Z else cl2 (fX3_fillRow 5 x1 (0 : Int32) x3 x2 Z) (fun v1 Z2 => (if v1 = 0 then bnd (x3 + (1 : Int32)) (fun v4 => k2 x1 x2 v4 Z2) else fX3_findRow_25 x3 Z2)))
def fX3_findRow (a1 : Nat) (a2 : Int32) (Z : CZ) : Option (Int32 × CZ) := lf4 fX3_findRow_2 100 a1 a2 (0 : Int32) Z
def rmX3_findRow : Room := { frames := 14, cells := 0, slots := 0, locals := 529 }
set_option maxHeartbeats 4000000 in
set_option maxRecDepth 100000 in
theorem mX3_findRow (l : Launch) (D : va_G) (G : CGT) (A : Nat → Prop) (ad : Nat → Nat → Nat) (Z : CZ) (a1 : Nat) (a2 : Int32) (rz : Int32) (Zz : CZ) (h : fX3_findRow a1 a2 Z = some (rz, Zz)) : Met l yX3_findRow wsX3_findRow rmX3_findRow (va_Pc [.ref (ad 1 0), .ref (ad 5 a1), .int a2] (cP D G A ad Z)) (cQi D G A ad rz Zz) 0 0 A := by
  refine Met.ofW (cc := cX3_findRow) (maxL := 4) (ret := some .int) (by decide) rfl ?_
  intro p e s m args below meth c s₁ B hml hv
  obtain ⟨rfl, hI, hN, hK⟩ := hv
  have hx := B.exec
  have hb := B.bytes
  have hr := B.returns
  have hts := atoms_spec (ws := wsX3_findRow) B.pre
  have hown : s.vm.findClass RX3 = some m.cls := findClass_of_methodNamed B.named
  have hlocks := B.notSynchronized
  have iwsX30 : ∀ w ∈ wsX30, w ∈ wsX3_findRow := fun w h => List.mem_cons_of_mem _ (List.mem_append_left _ (List.mem_append_left _ (List.mem_append_right _ h)))
  have l0 := hts (.fieldLink RX3 18 "Panyard$Planner" "trials" "Ljava/util/ArrayList;") (List.mem_of_getElem? (i := 1) rfl)
  have l1 := hts (.fieldLink RX3 9 "Panyard$Planner" "row" "[I") (List.mem_of_getElem? (i := 2) rfl)
  have hS : va_S A s.heap s.heap [] := va_S.rf
  have hl := lv_entry ([.ref (ad 1 0), .ref (ad 5 a1), .int a2]) (n := 4) (Nat.le_of_ble_eq_true rfl)
  rw [lg_entry_eq]
  generalize (lg_sl ([.ref (ad 1 0), .ref (ad 5 a1), .int a2]) ++ List.replicate (4 - (lg_sl ([.ref (ad 1 0), .ref (ad 5 a1), .int a2])).length) Slot.unset).toArray = ls at hl ⊢
  have hl : lv_has ls 4 [(0, .ref (ad 1 0)), (1, .ref (ad 5 a1)), (2, .int a2)] := hl
  have w25 : ∀ (x3 : Int32) (Z : CZ), fX3_findRow_25  x3 Z = some (rz, Zz) → cG p l e (headSpec wsX3_findRow rmX3_findRow).room s m (([.ref (ad 1 0), .ref (ad 5 a1), .int a2] : List Value).toArray) below meth c (MQ below (cQi D G A ad rz Zz) (([.ref (ad 1 0), .ref (ad 5 a1), .int a2] : List Value).toArray) s 0 0 A) D G A ad 0 0 4 Z 25 [(3, .int x3)] [] := by
    intro  x3 Z h H locs ls hI hN hS hl
    unfold fX3_findRow_25 at h
    refine lv_iload_n hx hb dX3_findRow_25 rfl (lv_at hl 0 rfl) ?_
    exact W.iret hx hb hr (cg_endi h hI hK hN hS) hS.2.2 dX3_findRow_26
  have w33 : ∀ (Z : CZ), fX3_findRow_33  Z = some (rz, Zz) → cG p l e (headSpec wsX3_findRow rmX3_findRow).room s m (([.ref (ad 1 0), .ref (ad 5 a1), .int a2] : List Value).toArray) below meth c (MQ below (cQi D G A ad rz Zz) (([.ref (ad 1 0), .ref (ad 5 a1), .int a2] : List Value).toArray) s 0 0 A) D G A ad 0 0 4 Z 33 [] [] := by
    intro  Z h H locs ls hI hN hS hl
    unfold fX3_findRow_33 at h
    refine lv_iconst (v := (-1 : Int32)) hx hb dX3_findRow_33 (by decide) ?_
    exact W.iret hx hb hr (cg_endi h hI hK hN hS) hS.2.2 dX3_findRow_34
  have w2 : ∀ (x1 : Nat) (x2 : Int32) (x3 : Int32) (Z : CZ), lf4 fX3_findRow_2 100 x1 x2 x3 Z = some (rz, Zz) → cG p l e (headSpec wsX3_findRow rmX3_findRow).room s m (([.ref (ad 1 0), .ref (ad 5 a1), .int a2] : List Value).toArray) below meth c (MQ below (cQi D G A ad rz Zz) (([.ref (ad 1 0), .ref (ad 5 a1), .int a2] : List Value).toArray) s 0 0 A) D G A ad 0 0 4 Z 2 [(0, .ref (ad 1 0)), (1, .ref (ad 5 x1)), (2, .int x2), (3, .int x3)] [] := by
    refine lf4_ok (P := (fun x1 x2 x3 Z => cG p l e (headSpec wsX3_findRow rmX3_findRow).room s m (([.ref (ad 1 0), .ref (ad 5 a1), .int a2] : List Value).toArray) below meth c (MQ below (cQi D G A ad rz Zz) (([.ref (ad 1 0), .ref (ad 5 a1), .int a2] : List Value).toArray) s 0 0 A) D G A ad 0 0 4 Z 2 [(0, .ref (ad 1 0)), (1, .ref (ad 5 x1)), (2, .int x2), (3, .int x3)] [])) (fun k2 hk2 x1 x2 x3 Z h H locs ls hI hN hS hl => ?_) 100
    unfold fX3_findRow_2 at h
    refine lv_iload_n hx hb dX3_findRow_2 rfl (lv_at hl 3 rfl) ?_
    refine lv_iconst (v := (3 : Int32)) hx hb dX3_findRow_3 (by decide) ?_
    refine lv_icmp_gt (tgt := 33) hx hb dX3_findRow_4 (by decide) (fun hc => ?_) (fun hc => ?_)
    · have h := ite_t h hc
      exact w33  Z h _ _ _ hI hN hS (lv_sub hl [] rfl)
    · have h := ite_f h hc
      refine lv_aload_n hx hb dX3_findRow_7 rfl (lv_at hl 1 rfl) ?_
      refine lv_aload_n hx hb dX3_findRow_8 rfl (lv_at hl 0 rfl) ?_
      refine cg_get (T := TX3) (N := 2) (ci := 4) hx hb hts iwsX30 hown hK hN rfl rfl rfl 1 (by decide) l0 rfl (v := .ref (ad 3 3)) rfl dX3_findRow_9 ?_
      refine lv_aload_n hx hb dX3_findRow_12 rfl (lv_at hl 0 rfl) ?_
      refine cg_get (T := TX3) (N := 2) (ci := 4) hx hb hts iwsX30 hown hK hN rfl rfl rfl 0 (by decide) l1 rfl (v := .ref (ad 15 0)) rfl dX3_findRow_13 ?_
      refine lv_iconst (v := (0 : Int32)) hx hb dX3_findRow_16 (by decide) ?_
      refine lv_iload_n hx hb dX3_findRow_17 rfl (lv_at hl 3 rfl) ?_
      refine lv_iload_n hx hb dX3_findRow_18 rfl (lv_at hl 2 rfl) ?_
      obtain ⟨v1, Z2, c3, h⟩ := cl2_ok h
      refine cg_calli (va_runS (As := [.ref (ad 5 x1), .ref (ad 3 3), .ref (ad 15 0), .int (0 : Int32), .int x3, .int x2]) (rest := []) ⟨hx, hb, hml, hown, hts⟩ (mX3_fillRow l D G A ad 5 Z x1 (0 : Int32) x3 x2 v1 Z2 c3) (va_cwS 6 hts gX3_findRow_X3_fillRow rfl rfl rfl (by decide +kernel) ⟨Nat.le_of_ble_eq_true rfl, Nat.le_of_ble_eq_true rfl⟩) (cg_preS hI hK hN) rfl rfl hl.1 rfl (lv_room (Nat.le_of_ble_eq_true rfl)) dX3_findRow_19 ⟨Nat.le_of_ble_eq_true rfl, Nat.le_of_ble_eq_true rfl⟩) hS (fun H locs hI hN hS => ?_)
      refine lv_if_eq (tgt := 27) hx hb dX3_findRow_22 (by decide) (fun hc => ?_) (fun hc => ?_)
      · have h := ite_t h hc
        obtain ⟨v4, ev4⟩ : ∃ y : Int32, y = (x3 + (1 : Int32)) := ⟨_, rfl⟩
        have h := bnd_ok h ev4
        refine lv_iinc (v := v4) (lv' := [(3, .int v4), (0, .ref (ad 1 0)), (1, .ref (ad 5 x1)), (2, .int x2)]) hx hb dX3_findRow_27 hl (k := 3) rfl (by rw [ev4]; rfl) (by decide) rfl (fun ls hl => ?_)
        refine lv_goto (tgt := 2) hx hb dX3_findRow_30 (by decide) ?_
        exact hk2 x1 x2 v4 Z2 h _ _ _ hI hN hS (lv_sub hl [1, 2, 3, 0] rfl)
      · have h := ite_f h hc
        exact w25  x3 Z2 h _ _ _ hI hN hS (lv_sub hl [3] rfl)
  unfold fX3_findRow at h
  refine lv_iconst (v := (0 : Int32)) hx hb dX3_findRow_0 (by decide) ?_
  refine lv_istore_n (lv' := [(3, .int (0 : Int32)), (0, .ref (ad 1 0)), (1, .ref (ad 5 a1)), (2, .int a2)]) hx hb dX3_findRow_1 rfl hl (by decide) rfl (fun ls hl => ?_)
  exact w2  a1 a2 (0 : Int32) Z h _ _ _ hI hN hS (lv_sub hl [1, 2, 3, 0] rfl)
def fX4_mayJoin_29 (Z : CZ) (t0 : Int32) : Option (Int32) := gd (gbo t0) (some t0)
def fX4_mayJoin_24 (Z : CZ) : Option (Int32) := fX4_mayJoin_29 Z (1 : Int32)
def fX4_mayJoin (a0 : Nat) (a1 : Int32) (a2 : Int32) (Z : CZ) : Option (Int32) := gd (cLv Z.2.2 9 a0) ((if (Z.1 9 a0 4) = (-1 : Int32) then fX4_mayJoin_24 Z else (if (Z.1 9 a0 4) = a1 then fX4_mayJoin_24 Z else (if (Z.1 9 a0 5) = a2 then fX4_mayJoin_29 Z (0 : Int32) else fX4_mayJoin_24 Z))))
def rmX4_mayJoin : Room := { frames := 1, cells := 0, slots := 0, locals := 30 }
set_option maxHeartbeats 4000000 in
set_option maxRecDepth 100000 in
theorem mX4_mayJoin (l : Launch) (D : va_G) (G : CGT) (A : Nat → Prop) (ad : Nat → Nat → Nat) (Z : CZ) (a0 : Nat) (a1 : Int32) (a2 : Int32) (rz : Int32) (h : fX4_mayJoin a0 a1 a2 Z = some rz) : Met l yX4_mayJoin wsX4_mayJoin rmX4_mayJoin (va_Pc [.ref (ad 9 a0), .int a1, .int a2] (cP D G A ad Z)) (cQi D G A ad rz Z) 0 0 A := by
  refine Met.ofW (cc := cX4_mayJoin) (maxL := 3) (ret := some .boolean) (by decide) rfl ?_
  intro p e s m args below meth c s₁ B hml hv
  obtain ⟨rfl, hI, hN, hK⟩ := hv
  have hx := B.exec
  have hb := B.bytes
  have hr := B.returns
  have hts := atoms_spec (ws := wsX4_mayJoin) B.pre
  have hown : s.vm.findClass RX4 = some m.cls := findClass_of_methodNamed B.named
  have hlocks := B.notSynchronized
  have iwsX40 : ∀ w ∈ wsX40, w ∈ wsX4_mayJoin := fun w h => List.mem_cons_of_mem _ (List.mem_append_right _ h)
  have l0 := hts (.fieldLink RX4 9 "Panyard$Player" "leftBand" "I") (List.mem_of_getElem? (i := 1) rfl)
  have l1 := hts (.fieldLink RX4 21 "Panyard$Player" "leftSeason" "I") (List.mem_of_getElem? (i := 2) rfl)
  have hS : va_S A s.heap s.heap [] := va_S.rf
  have hl := lv_entry ([.ref (ad 9 a0), .int a1, .int a2]) (n := 3) (Nat.le_of_ble_eq_true rfl)
  rw [lg_entry_eq]
  generalize (lg_sl ([.ref (ad 9 a0), .int a1, .int a2]) ++ List.replicate (3 - (lg_sl ([.ref (ad 9 a0), .int a1, .int a2])).length) Slot.unset).toArray = ls at hl ⊢
  have hl : lv_has ls 3 [(0, .ref (ad 9 a0)), (1, .int a1), (2, .int a2)] := hl
  have w29 : ∀ (t0 : Int32), fX4_mayJoin_29 Z t0 = some rz → cG p l e (headSpec wsX4_mayJoin rmX4_mayJoin).room s m (([.ref (ad 9 a0), .int a1, .int a2] : List Value).toArray) below meth c (MQ below (cQi D G A ad rz Z) (([.ref (ad 9 a0), .int a1, .int a2] : List Value).toArray) s 0 0 A) D G A ad 0 0 3 Z 29 [] [.int t0] := by
    intro  t0 h H locs ls hI hN hS hl
    unfold fX4_mayJoin_29 at h
    obtain ⟨g2, h⟩ := gd_ok h
    exact W.zret hx hb hr (gbo_ok g2) (cg_endr h hI hK hN hS) hS.2.2 dX4_mayJoin_29
  have w24 : fX4_mayJoin_24 Z  = some rz → cG p l e (headSpec wsX4_mayJoin rmX4_mayJoin).room s m (([.ref (ad 9 a0), .int a1, .int a2] : List Value).toArray) below meth c (MQ below (cQi D G A ad rz Z) (([.ref (ad 9 a0), .int a1, .int a2] : List Value).toArray) s 0 0 A) D G A ad 0 0 3 Z 24 [] [] := by
    intro   h H locs ls hI hN hS hl
    unfold fX4_mayJoin_24 at h
    refine lv_iconst (v := (1 : Int32)) hx hb dX4_mayJoin_24 (by decide) ?_
    refine lv_goto (tgt := 29) hx hb dX4_mayJoin_25 (by decide) ?_
    exact w29  (1 : Int32) h _ _ _ hI hN hS (lv_sub hl [] rfl)
  unfold fX4_mayJoin at h
  refine lv_aload_n hx hb dX4_mayJoin_0 rfl (lv_at hl 0 rfl) ?_
  obtain ⟨g1, h⟩ := gd_ok h
  refine cg_get (T := TX4) (N := 6) (ci := 5) hx hb hts iwsX40 hown hK hN g1 rfl rfl 4 (by decide) l0 rfl (v := .int (Z.1 9 a0 4)) rfl dX4_mayJoin_1 ?_
  refine lv_iconst (v := (-1 : Int32)) hx hb dX4_mayJoin_4 (by decide) ?_
  refine lv_icmp_eq (tgt := 24) hx hb dX4_mayJoin_5 (by decide) (fun hc => ?_) (fun hc => ?_)
  · have h := ite_t h hc
    exact w24   h _ _ _ hI hN hS (lv_sub hl [] rfl)
  · have h := ite_f h hc
    refine lv_aload_n hx hb dX4_mayJoin_8 rfl (lv_at hl 0 rfl) ?_
    refine cg_get (T := TX4) (N := 6) (ci := 5) hx hb hts iwsX40 hown hK hN g1 rfl rfl 4 (by decide) l0 rfl (v := .int (Z.1 9 a0 4)) rfl dX4_mayJoin_9 ?_
    refine lv_iload_n hx hb dX4_mayJoin_12 rfl (lv_at hl 1 rfl) ?_
    refine lv_icmp_eq (tgt := 24) hx hb dX4_mayJoin_13 (by decide) (fun hc => ?_) (fun hc => ?_)
    · have h := ite_t h hc
      exact w24   h _ _ _ hI hN hS (lv_sub hl [] rfl)
    · have h := ite_f h hc
      refine lv_aload_n hx hb dX4_mayJoin_16 rfl (lv_at hl 0 rfl) ?_
      refine cg_get (T := TX4) (N := 6) (ci := 5) hx hb hts iwsX40 hown hK hN g1 rfl rfl 5 (by decide) l1 rfl (v := .int (Z.1 9 a0 5)) rfl dX4_mayJoin_17 ?_
      refine lv_iload_n hx hb dX4_mayJoin_20 rfl (lv_at hl 2 rfl) ?_
      refine lv_icmp_eq (tgt := 28) hx hb dX4_mayJoin_21 (by decide) (fun hc => ?_) (fun hc => ?_)
      · have h := ite_t h hc
        refine lv_iconst (v := (0 : Int32)) hx hb dX4_mayJoin_28 (by decide) ?_
        exact w29  (0 : Int32) h _ _ _ hI hN hS (lv_sub hl [] rfl)
      · have h := ite_f h hc
        exact w24   h _ _ _ hI hN hS (lv_sub hl [] rfl)
def fX6_requireIndex_9 (Z : CZ) : Option ((Unit ⊕ Int32)) := some (.inr 1)
def fX6_requireIndex (a1 : Int32) (a2 : Int32) (Z : CZ) : Option ((Unit ⊕ Int32)) := (if a1 < 0 then fX6_requireIndex_9 Z else (if a1 < a2 then some (.inl ()) else fX6_requireIndex_9 Z))
def rmX6_requireIndex : Room := { frames := 6, cells := 1, slots := 6, locals := 100 }
set_option maxHeartbeats 4000000 in
set_option maxRecDepth 100000 in
theorem mX6_requireIndex (l : Launch) (hfl : l.stackTraces = false) (D : va_G) (G : CGT) (A : Nat → Prop) (ad : Nat → Nat → Nat) (Z : CZ) (a1 : Int32) (a2 : Int32) (rz : (Unit ⊕ Int32)) (h : fX6_requireIndex a1 a2 Z = some rz) : vx_Met l yX6_requireIndex wsX6_requireIndex rmX6_requireIndex (va_Pc [.int a1, .int a2] (xP D G A ad Z)) (xQv D G A ad rz Z) (xX D G A ad rz Z) 1 6 A := by
  refine vx_ofW (cc := cX6_requireIndex) (maxL := 2) (ret := none) (by decide) rfl ?_
  intro p e s m args below meth c s₁ B hml hexc hv
  obtain ⟨rfl, ⟨hI, hN, hK⟩, hE⟩ := hv
  have hx := B.exec
  have hb := B.bytes
  have hr := B.returns
  have hts := atoms_spec (ws := wsX6_requireIndex) B.pre
  have hown : s.vm.findClass RX6 = some m.cls := findClass_of_methodNamed B.named
  have hlocks := B.notSynchronized
  have l0 := hts (.classLink RX6 258 "java/lang/IndexOutOfBoundsException") (List.mem_of_getElem? (i := 1) rfl)
  have l1 := hts (.initialized "java/lang/IndexOutOfBoundsException") (List.mem_of_getElem? (i := 2) rfl)
  have hS : va_S A s.heap s.heap [] := va_S.rf
  have hl := lv_entry ([.int a1, .int a2]) (n := 2) (Nat.le_of_ble_eq_true rfl)
  rw [lg_entry_eq]
  generalize (lg_sl ([.int a1, .int a2]) ++ List.replicate (2 - (lg_sl ([.int a1, .int a2])).length) Slot.unset).toArray = ls at hl ⊢
  have hl : lv_has ls 2 [(0, .int a1), (1, .int a2)] := hl
  have w9 : fX6_requireIndex_9 Z  = some rz → cG p l e (headSpec wsX6_requireIndex rmX6_requireIndex).room s m (([.int a1, .int a2] : List Value).toArray) below meth c (vx_MQ below (xQv D G A ad rz Z) (xX D G A ad rz Z) (([.int a1, .int a2] : List Value).toArray) s 1 6 A) D G A ad 0 0 2 Z 9 [] [] := by
    intro   h H locs ls hI hN hS hl
    unfold fX6_requireIndex_9 at h
    exact xg_throwW (cd := 1) (text := "there is no such thing") hx hb hfl hown (by decide +kernel) l0 l1 (by decide +kernel) (fun w hw => hts w (List.mem_cons_of_mem _ (List.mem_append_right _ hw))) (by decide +kernel) (by decide +kernel) (by decide +kernel) hE hI hK hN hS (hl.1.trans hml.symm) dX6_requireIndex_9 dX6_requireIndex_12 dX6_requireIndex_13 dX6_requireIndex_16 dX6_requireIndex_19 hexc hlocks (Nat.le_of_ble_eq_true rfl) (Nat.le_of_ble_eq_true rfl) (Nat.le_of_ble_eq_true rfl) (Nat.le_of_ble_eq_true rfl) (Nat.le_of_ble_eq_true rfl) (Nat.le_of_ble_eq_true rfl) (Option.some.inj h).symm rfl
  unfold fX6_requireIndex at h
  refine lv_iload_n hx hb dX6_requireIndex_0 rfl (lv_at hl 0 rfl) ?_
  refine lv_if_lt (tgt := 9) hx hb dX6_requireIndex_1 (by decide) (fun hc => ?_) (fun hc => ?_)
  · have h := ite_t h hc
    exact w9   h _ _ _ hI hN hS (lv_sub hl [] rfl)
  · have h := ite_f h hc
    refine lv_iload_n hx hb dX6_requireIndex_4 rfl (lv_at hl 0 rfl) ?_
    refine lv_iload_n hx hb dX6_requireIndex_5 rfl (lv_at hl 1 rfl) ?_
    refine lv_icmp_lt (tgt := 20) hx hb dX6_requireIndex_6 (by decide) (fun hc => ?_) (fun hc => ?_)
    · have h := ite_t h hc
      exact vx_ret (W.widen (k := 1) (n := 6) (by decide) (by decide) (W.vret hx hb hr (xg_endvr h hI hK hN hS) hS.2.2 dX6_requireIndex_20))
    · have h := ite_f h hc
      exact w9   h _ _ _ hI hN hS (lv_sub hl [] rfl)
def fX6_panAt (a1 : Int32) (Z : CZ) : Option ((Nat ⊕ Int32)) := cl1 (fJx4a65c_size_8abf5 0 Z) (fun v1 => cx1 (fX6_requireIndex a1 v1 Z) (fun x4 => some (.inr x4)) (fun _ => cl1 (fJx4a65c_get_915e3 0 a1 Z) (fun q6 => gd (cLv Z.2.2 5 q6) (some (.inl q6)))))
def rmX6_panAt : Room := { frames := 7, cells := 1, slots := 6, locals := 121 }
set_option maxHeartbeats 4000000 in
set_option maxRecDepth 100000 in
theorem mX6_panAt (l : Launch) (hfl : l.stackTraces = false) (D : va_G) (G : CGT) (A : Nat → Prop) (ad : Nat → Nat → Nat) (Z : CZ) (a1 : Int32) (rz : (Nat ⊕ Int32)) (h : fX6_panAt a1 Z = some rz) : vx_Met l yX6_panAt wsX6_panAt rmX6_panAt (va_Pc [.ref (ad 0 0), .int a1] (xP D G A ad Z)) (xQr D G A ad 5 rz Z) (xX D G A ad rz Z) 1 6 A := by
  refine vx_ofW (cc := cX6_panAt) (maxL := 2) (ret := some (.object "Panyard$Pan")) (by decide) rfl ?_
  intro p e s m args below meth c s₁ B hml hexc hv
  obtain ⟨rfl, ⟨hI, hN, hK⟩, hE⟩ := hv
  have hx := B.exec
  have hb := B.bytes
  have hr := B.returns
  have hts := atoms_spec (ws := wsX6_panAt) B.pre
  have hown : s.vm.findClass RX6 = some m.cls := findClass_of_methodNamed B.named
  have hlocks := B.notSynchronized
  have iwsX60 : ∀ w ∈ wsX60, w ∈ wsX6_panAt := fun w h => List.mem_cons_of_mem _ (List.mem_append_left _ (List.mem_append_left _ (List.mem_append_right _ h)))
  have l0 := hts (.fieldLink RX6 10 "Panyard" "pans" "Ljava/util/ArrayList;") (List.mem_of_getElem? (i := 1) rfl)
  have l1 := hts (.classLink RX6 55 "Panyard$Pan") (List.mem_of_getElem? (i := 2) rfl)
  have hS : va_S A s.heap s.heap [] := va_S.rf
  have hl := lv_entry ([.ref (ad 0 0), .int a1]) (n := 2) (Nat.le_of_ble_eq_true rfl)
  rw [lg_entry_eq]
  generalize (lg_sl ([.ref (ad 0 0), .int a1]) ++ List.replicate (2 - (lg_sl ([.ref (ad 0 0), .int a1])).length) Slot.unset).toArray = ls at hl ⊢
  have hl : lv_has ls 2 [(0, .ref (ad 0 0)), (1, .int a1)] := hl
  unfold fX6_panAt at h
  refine lv_iload_n hx hb dX6_panAt_0 rfl (lv_at hl 1 rfl) ?_
  refine lv_aload_n hx hb dX6_panAt_1 rfl (lv_at hl 0 rfl) ?_
  refine cg_get (T := TX6) (N := 7) (ci := 7) hx hb hts iwsX60 hown hK hN rfl rfl rfl 0 (by decide) l0 rfl (v := .ref (ad 3 0)) rfl dX6_panAt_2 ?_
  obtain ⟨v1, c2, h⟩ := cl1_ok h
  refine cg_calli (va_runV (As := []) (rest := [.int a1]) ⟨hx, hb, hml, hown, hts⟩ (mJx4a65c_size_8abf5 l D G A ad Z 0 v1 c2) (cwV 0 hts gX6_panAt_Jx4a65c_size_8abf5 rfl rfl rfl (by decide +kernel) ⟨Nat.le_of_ble_eq_true rfl, Nat.le_of_ble_eq_true rfl⟩) (cg_preV hI hK hN rfl rfl (ci := 0) rfl) rfl rfl hl.1 rfl (lv_room (Nat.le_of_ble_eq_true rfl)) dX6_panAt_5 ⟨Nat.le_of_ble_eq_true rfl, Nat.le_of_ble_eq_true rfl⟩) hS (fun H locs hI hN hS => ?_)
  rcases cx1_ok h with ⟨v5, c3, h⟩ | ⟨x4, c3, h⟩
  · refine xg_callv (vx_runS (As := [.int a1, .int v1]) (rest := []) ⟨hx, hb, hml, hown, hts⟩ (mX6_requireIndex l hfl D G A ad Z a1 v1 (.inl ()) c3) (va_cwS 2 hts gX6_panAt_X6_requireIndex rfl rfl rfl (by decide +kernel) ⟨Nat.le_of_ble_eq_true rfl, Nat.le_of_ble_eq_true rfl⟩) (xg_preS hI hK hN hE hS) rfl rfl hl.1 rfl (lv_room (Nat.le_of_ble_eq_true rfl)) dX6_panAt_8 ⟨Nat.le_of_ble_eq_true rfl, Nat.le_of_ble_eq_true rfl⟩) hS (fun H locs hI hN hS => ?_)
    refine W.widen (k := 1) (n := 6) (by decide) (by decide) ?_
    refine lv_aload_n hx hb dX6_panAt_11 rfl (lv_at hl 0 rfl) ?_
    refine cg_get (T := TX6) (N := 7) (ci := 7) hx hb hts iwsX60 hown hK hN rfl rfl rfl 0 (by decide) l0 rfl (v := .ref (ad 3 0)) rfl dX6_panAt_12 ?_
    refine lv_iload_n hx hb dX6_panAt_15 rfl (lv_at hl 1 rfl) ?_
    obtain ⟨q6, c7, h⟩ := cl1_ok h
    refine cg_callr (k := 5) (q := q6) (va_runV (As := [.int a1]) (rest := []) ⟨hx, hb, hml, hown, hts⟩ (mJx4a65c_get_915e3 l D G A ad Z 0 a1 q6 c7) (cwV 1 hts gX6_panAt_Jx4a65c_get_915e3 rfl rfl rfl (by decide +kernel) ⟨Nat.le_of_ble_eq_true rfl, Nat.le_of_ble_eq_true rfl⟩) (cg_preV hI hK hN rfl rfl (ci := 0) rfl) rfl rfl hl.1 rfl (lv_room (Nat.le_of_ble_eq_true rfl)) dX6_panAt_16 ⟨Nat.le_of_ble_eq_true rfl, Nat.le_of_ble_eq_true rfl⟩) hS (fun H locs hI hN hS => ?_)
    obtain ⟨g8, h⟩ := gd_ok h
    refine va_castS hx hb hown l1 (hK.1.1 2 _ rfl).2 (cg_recv hK hN g8 rfl (ci := 2) rfl) dX6_panAt_19 ?_
    exact vx_ret (W.widen (k := 1) (n := 6) (by decide) (by decide) (W.aret hx hb hr (Or.inl ⟨_, rfl⟩) (Or.inr ⟨_, rfl⟩) (xg_endq h hI hK hN hS) hS.2.2 dX6_panAt_22))
  · exact xg_thrv (vx_runS (As := [.int a1, .int v1]) (rest := []) ⟨hx, hb, hml, hown, hts⟩ (mX6_requireIndex l hfl D G A ad Z a1 v1 (.inr x4) c3) (va_cwS 2 hts gX6_panAt_X6_requireIndex rfl rfl rfl (by decide +kernel) ⟨Nat.le_of_ble_eq_true rfl, Nat.le_of_ble_eq_true rfl⟩) (xg_preS hI hK hN hE hS) rfl rfl hl.1 rfl (lv_room (Nat.le_of_ble_eq_true rfl)) dX6_panAt_8 ⟨Nat.le_of_ble_eq_true rfl, Nat.le_of_ble_eq_true rfl⟩) (Option.some.inj h).symm rfl hexc hlocks hS (by decide) (by decide)
def fX6_requireRange_10 (Z : CZ) : Option ((Unit ⊕ Int32)) := some (.inr 2)
def fX6_requireRange (a1 : Int32) (a2 : Int32) (a3 : Int32) (Z : CZ) : Option ((Unit ⊕ Int32)) := (if a1 < a2 then fX6_requireRange_10 Z else (if a1 ≤ a3 then some (.inl ()) else fX6_requireRange_10 Z))
def rmX6_requireRange : Room := { frames := 6, cells := 1, slots := 6, locals := 100 }
set_option maxHeartbeats 4000000 in
set_option maxRecDepth 100000 in
theorem mX6_requireRange (l : Launch) (hfl : l.stackTraces = false) (D : va_G) (G : CGT) (A : Nat → Prop) (ad : Nat → Nat → Nat) (Z : CZ) (a1 : Int32) (a2 : Int32) (a3 : Int32) (rz : (Unit ⊕ Int32)) (h : fX6_requireRange a1 a2 a3 Z = some rz) : vx_Met l yX6_requireRange wsX6_requireRange rmX6_requireRange (va_Pc [.int a1, .int a2, .int a3] (xP D G A ad Z)) (xQv D G A ad rz Z) (xX D G A ad rz Z) 1 6 A := by
  refine vx_ofW (cc := cX6_requireRange) (maxL := 3) (ret := none) (by decide) rfl ?_
  intro p e s m args below meth c s₁ B hml hexc hv
  obtain ⟨rfl, ⟨hI, hN, hK⟩, hE⟩ := hv
  have hx := B.exec
  have hb := B.bytes
  have hr := B.returns
  have hts := atoms_spec (ws := wsX6_requireRange) B.pre
  have hown : s.vm.findClass RX6 = some m.cls := findClass_of_methodNamed B.named
  have hlocks := B.notSynchronized
  have l0 := hts (.classLink RX6 263 "java/lang/IllegalArgumentException") (List.mem_of_getElem? (i := 1) rfl)
  have l1 := hts (.initialized "java/lang/IllegalArgumentException") (List.mem_of_getElem? (i := 2) rfl)
  have hS : va_S A s.heap s.heap [] := va_S.rf
  have hl := lv_entry ([.int a1, .int a2, .int a3]) (n := 3) (Nat.le_of_ble_eq_true rfl)
  rw [lg_entry_eq]
  generalize (lg_sl ([.int a1, .int a2, .int a3]) ++ List.replicate (3 - (lg_sl ([.int a1, .int a2, .int a3])).length) Slot.unset).toArray = ls at hl ⊢
  have hl : lv_has ls 3 [(0, .int a1), (1, .int a2), (2, .int a3)] := hl
  have w10 : fX6_requireRange_10 Z  = some rz → cG p l e (headSpec wsX6_requireRange rmX6_requireRange).room s m (([.int a1, .int a2, .int a3] : List Value).toArray) below meth c (vx_MQ below (xQv D G A ad rz Z) (xX D G A ad rz Z) (([.int a1, .int a2, .int a3] : List Value).toArray) s 1 6 A) D G A ad 0 0 3 Z 10 [] [] := by
    intro   h H locs ls hI hN hS hl
    unfold fX6_requireRange_10 at h
    exact xg_throwW (cd := 2) (text := "out of its range") hx hb hfl hown (by decide +kernel) l0 l1 (by decide +kernel) (fun w hw => hts w (List.mem_cons_of_mem _ (List.mem_append_right _ hw))) (by decide +kernel) (by decide +kernel) (by decide +kernel) hE hI hK hN hS (hl.1.trans hml.symm) dX6_requireRange_10 dX6_requireRange_13 dX6_requireRange_14 dX6_requireRange_17 dX6_requireRange_20 hexc hlocks (Nat.le_of_ble_eq_true rfl) (Nat.le_of_ble_eq_true rfl) (Nat.le_of_ble_eq_true rfl) (Nat.le_of_ble_eq_true rfl) (Nat.le_of_ble_eq_true rfl) (Nat.le_of_ble_eq_true rfl) (Option.some.inj h).symm rfl
  unfold fX6_requireRange at h
  refine lv_iload_n hx hb dX6_requireRange_0 rfl (lv_at hl 0 rfl) ?_
  refine lv_iload_n hx hb dX6_requireRange_1 rfl (lv_at hl 1 rfl) ?_
  refine lv_icmp_lt (tgt := 10) hx hb dX6_requireRange_2 (by decide) (fun hc => ?_) (fun hc => ?_)
  · have h := ite_t h hc
    exact w10   h _ _ _ hI hN hS (lv_sub hl [] rfl)
  · have h := ite_f h hc
    refine lv_iload_n hx hb dX6_requireRange_5 rfl (lv_at hl 0 rfl) ?_
    refine lv_iload_n hx hb dX6_requireRange_6 rfl (lv_at hl 2 rfl) ?_
    refine lv_icmp_le (tgt := 21) hx hb dX6_requireRange_7 (by decide) (fun hc => ?_) (fun hc => ?_)
    · have h := ite_t h hc
      exact vx_ret (W.widen (k := 1) (n := 6) (by decide) (by decide) (W.vret hx hb hr (xg_endvr h hI hK hN hS) hS.2.2 dX6_requireRange_21))
    · have h := ite_f h hc
      exact w10   h _ _ _ hI hN hS (lv_sub hl [] rfl)
def fX6_requireState (a1 : Int32) (Z : CZ) : Option ((Unit ⊕ Int32)) := (if a1 = 0 then some (.inr 3) else some (.inl ()))
def rmX6_requireState : Room := { frames := 6, cells := 1, slots := 6, locals := 100 }
set_option maxHeartbeats 4000000 in
set_option maxRecDepth 100000 in
theorem mX6_requireState (l : Launch) (hfl : l.stackTraces = false) (D : va_G) (G : CGT) (A : Nat → Prop) (ad : Nat → Nat → Nat) (Z : CZ) (a1 : Int32) (rz : (Unit ⊕ Int32)) (h : fX6_requireState a1 Z = some rz) : vx_Met l yX6_requireState wsX6_requireState rmX6_requireState (va_Pc [.int a1] (xP D G A ad Z)) (xQv D G A ad rz Z) (xX D G A ad rz Z) 1 6 A := by
  refine vx_ofW (cc := cX6_requireState) (maxL := 1) (ret := none) (by decide) rfl ?_
  intro p e s m args below meth c s₁ B hml hexc hv
  obtain ⟨rfl, ⟨hI, hN, hK⟩, hE⟩ := hv
  have hx := B.exec
  have hb := B.bytes
  have hr := B.returns
  have hts := atoms_spec (ws := wsX6_requireState) B.pre
  have hown : s.vm.findClass RX6 = some m.cls := findClass_of_methodNamed B.named
  have hlocks := B.notSynchronized
  have l0 := hts (.classLink RX6 161 "java/lang/IllegalStateException") (List.mem_of_getElem? (i := 1) rfl)
  have l1 := hts (.initialized "java/lang/IllegalStateException") (List.mem_of_getElem? (i := 2) rfl)
  have hS : va_S A s.heap s.heap [] := va_S.rf
  have hl := lv_entry ([.int a1]) (n := 1) (Nat.le_of_ble_eq_true rfl)
  rw [lg_entry_eq]
  generalize (lg_sl ([.int a1]) ++ List.replicate (1 - (lg_sl ([.int a1])).length) Slot.unset).toArray = ls at hl ⊢
  have hl : lv_has ls 1 [(0, .int a1)] := hl
  unfold fX6_requireState at h
  refine lv_iload_n hx hb dX6_requireState_0 rfl (lv_at hl 0 rfl) ?_
  refine lv_if_ne (tgt := 15) hx hb dX6_requireState_1 (by decide) (fun hc => ?_) (fun hc => ?_)
  · have h := ite_f h hc
    exact vx_ret (W.widen (k := 1) (n := 6) (by decide) (by decide) (W.vret hx hb hr (xg_endvr h hI hK hN hS) hS.2.2 dX6_requireState_15))
  · have h := ite_t h hc
    exact xg_throwW (cd := 3) (text := "not as things stand") hx hb hfl hown (by decide +kernel) l0 l1 (by decide +kernel) (fun w hw => hts w (List.mem_cons_of_mem _ (List.mem_append_right _ hw))) (by decide +kernel) (by decide +kernel) (by decide +kernel) hE hI hK hN hS (hl.1.trans hml.symm) dX6_requireState_4 dX6_requireState_7 dX6_requireState_8 dX6_requireState_11 dX6_requireState_14 hexc hlocks (Nat.le_of_ble_eq_true rfl) (Nat.le_of_ble_eq_true rfl) (Nat.le_of_ble_eq_true rfl) (Nat.le_of_ble_eq_true rfl) (Nat.le_of_ble_eq_true rfl) (Nat.le_of_ble_eq_true rfl) (Option.some.inj h).symm rfl
def fX6_blow (a1 : Int32) (a2 : Int32) (a3 : Int32) (a4 : Int32) (Z : CZ) : Option ((Int32 ⊕ Int32) × CZ) := cx1 (fX6_panAt a1 Z) (fun x2 => some (.inr x2, Z)) (fun q3 => cx1 (fX6_requireIndex a2 (4 : Int32) Z) (fun x5 => some (.inr x5, Z)) (fun _ => cx1 (fX6_requireRange a3 (1 : Int32) (4 : Int32) Z) (fun x8 => some (.inr x8, Z)) (fun _ => gd (cLv Z.2.2 5 q3) (cl1 (fX1_bears q3 a2 a4 Z) (fun v11 => cx1 (fX6_requireState v11 Z) (fun x14 => some (.inr x14, Z)) (fun _ => cl1 (fX1_beat q3 a2 a3 a4 Z) (fun Z16 => gd (cLv Z16.2.2 5 q3) (gd (gin a2 4) (some (.inl (Z16.1 6 q3 (Int32.toNatClampNeg a2)), Z16))))))))))
def rmX6_blow : Room := { frames := 8, cells := 4, slots := 24, locals := 142 }
set_option maxHeartbeats 4000000 in
set_option maxRecDepth 100000 in
theorem mX6_blow (l : Launch) (hfl : l.stackTraces = false) (D : va_G) (G : CGT) (A : Nat → Prop) (ad : Nat → Nat → Nat) (Z : CZ) (a1 : Int32) (a2 : Int32) (a3 : Int32) (a4 : Int32) (rz : (Int32 ⊕ Int32)) (Zz : CZ) (h : fX6_blow a1 a2 a3 a4 Z = some (rz, Zz)) : vx_Met l yX6_blow wsX6_blow rmX6_blow (va_Pc [.ref (ad 0 0), .int a1, .int a2, .int a3, .int a4] (xP D G A ad Z)) (xQi D G A ad rz Zz) (xX D G A ad rz Zz) 4 24 A := by
  refine vx_ofW (cc := cX6_blow) (maxL := 6) (ret := some .int) (by decide) rfl ?_
  intro p e s m args below meth c s₁ B hml hexc hv
  obtain ⟨rfl, ⟨hI, hN, hK⟩, hE⟩ := hv
  have hx := B.exec
  have hb := B.bytes
  have hr := B.returns
  have hts := atoms_spec (ws := wsX6_blow) B.pre
  have hown : s.vm.findClass RX6 = some m.cls := findClass_of_methodNamed B.named
  have hlocks := B.notSynchronized
  have iwsX10 : ∀ w ∈ wsX10, w ∈ wsX6_blow := fun w h => List.mem_cons_of_mem _ (List.mem_append_left _ (List.mem_append_left _ (List.mem_append_left _ (List.mem_append_left _ (List.mem_append_left _ (List.mem_append_right _ h))))))
  have l0 := hts (.fieldLink RX6 60 "Panyard$Pan" "tones" "[I") (List.mem_of_getElem? (i := 1) rfl)
  have hS : va_S A s.heap s.heap [] := va_S.rf
  have hl := lv_entry ([.ref (ad 0 0), .int a1, .int a2, .int a3, .int a4]) (n := 6) (Nat.le_of_ble_eq_true rfl)
  rw [lg_entry_eq]
  generalize (lg_sl ([.ref (ad 0 0), .int a1, .int a2, .int a3, .int a4]) ++ List.replicate (6 - (lg_sl ([.ref (ad 0 0), .int a1, .int a2, .int a3, .int a4])).length) Slot.unset).toArray = ls at hl ⊢
  have hl : lv_has ls 6 [(0, .ref (ad 0 0)), (1, .int a1), (2, .int a2), (3, .int a3), (4, .int a4)] := hl
  unfold fX6_blow at h
  refine lv_aload_n hx hb dX6_blow_0 rfl (lv_at hl 0 rfl) ?_
  refine lv_iload_n hx hb dX6_blow_1 rfl (lv_at hl 1 rfl) ?_
  rcases cx1_ok h with ⟨q3, c1, h⟩ | ⟨x2, c1, h⟩
  · refine xg_callr (k := 5) (q := q3) (vx_runV (As := [.int a1]) (rest := []) ⟨hx, hb, hml, hown, hts⟩ (mX6_panAt l hfl D G A ad Z a1 (.inl q3) c1) (cwV 1 hts gX6_blow_X6_panAt rfl rfl rfl (by decide +kernel) ⟨Nat.le_of_ble_eq_true rfl, Nat.le_of_ble_eq_true rfl⟩) (xg_preV hI hK hN hE hS rfl rfl (ci := 7) rfl) rfl rfl hl.1 rfl (lv_room (Nat.le_of_ble_eq_true rfl)) dX6_blow_2 ⟨Nat.le_of_ble_eq_true rfl, Nat.le_of_ble_eq_true rfl⟩) hS (fun H locs hI hN hS => ?_)
    refine W.widen (k := 1) (n := 6) (by decide) (by decide) ?_
    refine lv_astore (lv' := [(5, .ref (ad 5 q3)), (0, .ref (ad 0 0)), (1, .int a1), (2, .int a2), (3, .int a3), (4, .int a4)]) hx hb dX6_blow_5 hl (by decide) rfl (fun ls hl => ?_)
    refine lv_iload_n hx hb dX6_blow_7 rfl (lv_at hl 3 rfl) ?_
    refine lv_iconst (v := (4 : Int32)) hx hb dX6_blow_8 (by decide) ?_
    rcases cx1_ok h with ⟨v6, c4, h⟩ | ⟨x5, c4, h⟩
    · refine xg_callv (vx_runS (As := [.int a2, .int (4 : Int32)]) (rest := []) ⟨hx, hb, hml, hown, hts⟩ (mX6_requireIndex l hfl D G A ad Z a2 (4 : Int32) (.inl ()) c4) (va_cwS 2 hts gX6_blow_X6_requireIndex rfl rfl rfl (by decide +kernel) ⟨Nat.le_of_ble_eq_true rfl, Nat.le_of_ble_eq_true rfl⟩) (xg_preS hI hK hN hE hS) rfl rfl hl.1 rfl (lv_room (Nat.le_of_ble_eq_true rfl)) dX6_blow_9 ⟨Nat.le_of_ble_eq_true rfl, Nat.le_of_ble_eq_true rfl⟩) hS (fun H locs hI hN hS => ?_)
      refine W.widen (k := 2) (n := 12) (by decide) (by decide) ?_
      refine lv_iload_n hx hb dX6_blow_12 rfl (lv_at hl 4 rfl) ?_
      refine lv_iconst (v := (1 : Int32)) hx hb dX6_blow_13 (by decide) ?_
      refine lv_iconst (v := (4 : Int32)) hx hb dX6_blow_14 (by decide) ?_
      rcases cx1_ok h with ⟨v9, c7, h⟩ | ⟨x8, c7, h⟩
      · refine xg_callv (vx_runS (As := [.int a3, .int (1 : Int32), .int (4 : Int32)]) (rest := []) ⟨hx, hb, hml, hown, hts⟩ (mX6_requireRange l hfl D G A ad Z a3 (1 : Int32) (4 : Int32) (.inl ()) c7) (va_cwS 3 hts gX6_blow_X6_requireRange rfl rfl rfl (by decide +kernel) ⟨Nat.le_of_ble_eq_true rfl, Nat.le_of_ble_eq_true rfl⟩) (xg_preS hI hK hN hE hS) rfl rfl hl.1 rfl (lv_room (Nat.le_of_ble_eq_true rfl)) dX6_blow_15 ⟨Nat.le_of_ble_eq_true rfl, Nat.le_of_ble_eq_true rfl⟩) hS (fun H locs hI hN hS => ?_)
        refine W.widen (k := 3) (n := 18) (by decide) (by decide) ?_
        refine lv_aload hx hb dX6_blow_18 (lv_at hl 0 rfl) ?_
        refine lv_iload_n hx hb dX6_blow_20 rfl (lv_at hl 3 rfl) ?_
        refine lv_iload hx hb dX6_blow_21 (lv_at hl 5 rfl) ?_
        obtain ⟨g10, h⟩ := gd_ok h
        obtain ⟨v11, c12, h⟩ := cl1_ok h
        refine cg_calli (va_runV (As := [.int a2, .int a4]) (rest := []) ⟨hx, hb, hml, hown, hts⟩ (mX1_bears l D G A ad Z q3 a2 a4 v11 c12) (cwV 2 hts gX6_blow_X1_bears rfl rfl rfl (by decide +kernel) ⟨Nat.le_of_ble_eq_true rfl, Nat.le_of_ble_eq_true rfl⟩) (cg_preV hI hK hN g10 rfl (ci := 2) rfl) rfl rfl hl.1 rfl (lv_room (Nat.le_of_ble_eq_true rfl)) dX6_blow_23 ⟨Nat.le_of_ble_eq_true rfl, Nat.le_of_ble_eq_true rfl⟩) hS (fun H locs hI hN hS => ?_)
        rcases cx1_ok h with ⟨v15, c13, h⟩ | ⟨x14, c13, h⟩
        · refine xg_callv (vx_runS (As := [.int v11]) (rest := []) ⟨hx, hb, hml, hown, hts⟩ (mX6_requireState l hfl D G A ad Z v11 (.inl ()) c13) (va_cwS 1 hts gX6_blow_X6_requireState rfl rfl rfl (by decide +kernel) ⟨Nat.le_of_ble_eq_true rfl, Nat.le_of_ble_eq_true rfl⟩) (xg_preS hI hK hN hE hS) rfl rfl hl.1 rfl (lv_room (Nat.le_of_ble_eq_true rfl)) dX6_blow_26 ⟨Nat.le_of_ble_eq_true rfl, Nat.le_of_ble_eq_true rfl⟩) hS (fun H locs hI hN hS => ?_)
          refine W.widen (k := 4) (n := 24) (by decide) (by decide) ?_
          refine lv_aload hx hb dX6_blow_29 (lv_at hl 0 rfl) ?_
          refine lv_iload_n hx hb dX6_blow_31 rfl (lv_at hl 3 rfl) ?_
          refine lv_iload_n hx hb dX6_blow_32 rfl (lv_at hl 4 rfl) ?_
          refine lv_iload hx hb dX6_blow_33 (lv_at hl 5 rfl) ?_
          obtain ⟨Z16, c17, h⟩ := cl1_ok h
          refine cg_callv (va_runV (As := [.int a2, .int a3, .int a4]) (rest := []) ⟨hx, hb, hml, hown, hts⟩ (mX1_beat l D G A ad Z q3 a2 a3 a4 Z16 c17) (cwV 3 hts gX6_blow_X1_beat rfl rfl rfl (by decide +kernel) ⟨Nat.le_of_ble_eq_true rfl, Nat.le_of_ble_eq_true rfl⟩) (cg_preV hI hK hN g10 rfl (ci := 2) rfl) rfl rfl hl.1 rfl (lv_room (Nat.le_of_ble_eq_true rfl)) dX6_blow_35 ⟨Nat.le_of_ble_eq_true rfl, Nat.le_of_ble_eq_true rfl⟩) hS (fun H locs hI hN hS => ?_)
          refine lv_aload hx hb dX6_blow_38 (lv_at hl 0 rfl) ?_
          obtain ⟨g18, h⟩ := gd_ok h
          refine cg_get (T := TX1) (N := 5) (ci := 2) hx hb hts iwsX10 hown hK hN g18 rfl rfl 1 (by decide) l0 rfl (v := .ref (ad 6 q3)) rfl dX6_blow_40 ?_
          refine lv_iload_n hx hb dX6_blow_43 rfl (lv_at hl 3 rfl) ?_
          obtain ⟨g19, h⟩ := gd_ok h
          refine cg_ild hx hb hK hN g18 rfl (gin_ok g19) dX6_blow_44 ?_
          exact vx_ret (W.widen (k := 4) (n := 24) (by decide) (by decide) (W.iret hx hb hr (xg_endi h hI hK hN hS) hS.2.2 dX6_blow_45))
        · exact xg_thrv (vx_runS (As := [.int v11]) (rest := []) ⟨hx, hb, hml, hown, hts⟩ (mX6_requireState l hfl D G A ad Z v11 (.inr x14) c13) (va_cwS 1 hts gX6_blow_X6_requireState rfl rfl rfl (by decide +kernel) ⟨Nat.le_of_ble_eq_true rfl, Nat.le_of_ble_eq_true rfl⟩) (xg_preS hI hK hN hE hS) rfl rfl hl.1 rfl (lv_room (Nat.le_of_ble_eq_true rfl)) dX6_blow_26 ⟨Nat.le_of_ble_eq_true rfl, Nat.le_of_ble_eq_true rfl⟩) (congrArg Prod.fst (Option.some.inj h)).symm (congrArg Prod.snd (Option.some.inj h)).symm hexc hlocks hS (by decide) (by decide)
      · exact xg_thrv (vx_runS (As := [.int a3, .int (1 : Int32), .int (4 : Int32)]) (rest := []) ⟨hx, hb, hml, hown, hts⟩ (mX6_requireRange l hfl D G A ad Z a3 (1 : Int32) (4 : Int32) (.inr x8) c7) (va_cwS 3 hts gX6_blow_X6_requireRange rfl rfl rfl (by decide +kernel) ⟨Nat.le_of_ble_eq_true rfl, Nat.le_of_ble_eq_true rfl⟩) (xg_preS hI hK hN hE hS) rfl rfl hl.1 rfl (lv_room (Nat.le_of_ble_eq_true rfl)) dX6_blow_15 ⟨Nat.le_of_ble_eq_true rfl, Nat.le_of_ble_eq_true rfl⟩) (congrArg Prod.fst (Option.some.inj h)).symm (congrArg Prod.snd (Option.some.inj h)).symm hexc hlocks hS (by decide) (by decide)
    · exact xg_thrv (vx_runS (As := [.int a2, .int (4 : Int32)]) (rest := []) ⟨hx, hb, hml, hown, hts⟩ (mX6_requireIndex l hfl D G A ad Z a2 (4 : Int32) (.inr x5) c4) (va_cwS 2 hts gX6_blow_X6_requireIndex rfl rfl rfl (by decide +kernel) ⟨Nat.le_of_ble_eq_true rfl, Nat.le_of_ble_eq_true rfl⟩) (xg_preS hI hK hN hE hS) rfl rfl hl.1 rfl (lv_room (Nat.le_of_ble_eq_true rfl)) dX6_blow_9 ⟨Nat.le_of_ble_eq_true rfl, Nat.le_of_ble_eq_true rfl⟩) (congrArg Prod.fst (Option.some.inj h)).symm (congrArg Prod.snd (Option.some.inj h)).symm hexc hlocks hS (by decide) (by decide)
  · exact xg_thrr (k := 5) (vx_runV (As := [.int a1]) (rest := []) ⟨hx, hb, hml, hown, hts⟩ (mX6_panAt l hfl D G A ad Z a1 (.inr x2) c1) (cwV 1 hts gX6_blow_X6_panAt rfl rfl rfl (by decide +kernel) ⟨Nat.le_of_ble_eq_true rfl, Nat.le_of_ble_eq_true rfl⟩) (xg_preV hI hK hN hE hS rfl rfl (ci := 7) rfl) rfl rfl hl.1 rfl (lv_room (Nat.le_of_ble_eq_true rfl)) dX6_blow_2 ⟨Nat.le_of_ble_eq_true rfl, Nat.le_of_ble_eq_true rfl⟩) (congrArg Prod.fst (Option.some.inj h)).symm (congrArg Prod.snd (Option.some.inj h)).symm hexc hlocks hS (by decide) (by decide)
def fX6_heat (a1 : Int32) (Z : CZ) : Option ((Int32 ⊕ Int32) × CZ) := cx1 (fX6_requireRange a1 (0 : Int32) (15 : Int32) Z) (fun x2 => some (.inr x2, Z)) (fun _ => bnd (Z.1 0 0 5) (fun v4 => bnd (cuI Z 0 0 (upd (Z.1 0 0) 5 a1)) (fun Z5 => some (.inl v4, Z5))))
def rmX6_heat : Room := { frames := 7, cells := 1, slots := 6, locals := 122 }
set_option maxHeartbeats 4000000 in
set_option maxRecDepth 100000 in
theorem mX6_heat (l : Launch) (hfl : l.stackTraces = false) (D : va_G) (G : CGT) (A : Nat → Prop) (ad : Nat → Nat → Nat) (Z : CZ) (a1 : Int32) (rz : (Int32 ⊕ Int32)) (Zz : CZ) (h : fX6_heat a1 Z = some (rz, Zz)) : vx_Met l yX6_heat wsX6_heat rmX6_heat (va_Pc [.ref (ad 0 0), .int a1] (xP D G A ad Z)) (xQi D G A ad rz Zz) (xX D G A ad rz Zz) 1 6 A := by
  refine vx_ofW (cc := cX6_heat) (maxL := 3) (ret := some .int) (by decide) rfl ?_
  intro p e s m args below meth c s₁ B hml hexc hv
  obtain ⟨rfl, ⟨hI, hN, hK⟩, hE⟩ := hv
  have hx := B.exec
  have hb := B.bytes
  have hr := B.returns
  have hts := atoms_spec (ws := wsX6_heat) B.pre
  have hown : s.vm.findClass RX6 = some m.cls := findClass_of_methodNamed B.named
  have hlocks := B.notSynchronized
  have iwsX60 : ∀ w ∈ wsX60, w ∈ wsX6_heat := fun w h => List.mem_cons_of_mem _ (List.mem_append_left _ (List.mem_append_right _ h))
  have l0 := hts (.fieldLink RX6 84 "Panyard" "degreesNow" "I") (List.mem_of_getElem? (i := 1) rfl)
  have hS : va_S A s.heap s.heap [] := va_S.rf
  have hl := lv_entry ([.ref (ad 0 0), .int a1]) (n := 3) (Nat.le_of_ble_eq_true rfl)
  rw [lg_entry_eq]
  generalize (lg_sl ([.ref (ad 0 0), .int a1]) ++ List.replicate (3 - (lg_sl ([.ref (ad 0 0), .int a1])).length) Slot.unset).toArray = ls at hl ⊢
  have hl : lv_has ls 3 [(0, .ref (ad 0 0)), (1, .int a1)] := hl
  unfold fX6_heat at h
  refine lv_iload_n hx hb dX6_heat_0 rfl (lv_at hl 1 rfl) ?_
  refine lv_iconst (v := (0 : Int32)) hx hb dX6_heat_1 (by decide) ?_
  refine lv_bipush (v := (15 : Int32)) hx hb dX6_heat_2 (by decide) ?_
  rcases cx1_ok h with ⟨v3, c1, h⟩ | ⟨x2, c1, h⟩
  · refine xg_callv (vx_runS (As := [.int a1, .int (0 : Int32), .int (15 : Int32)]) (rest := []) ⟨hx, hb, hml, hown, hts⟩ (mX6_requireRange l hfl D G A ad Z a1 (0 : Int32) (15 : Int32) (.inl ()) c1) (va_cwS 3 hts gX6_heat_X6_requireRange rfl rfl rfl (by decide +kernel) ⟨Nat.le_of_ble_eq_true rfl, Nat.le_of_ble_eq_true rfl⟩) (xg_preS hI hK hN hE hS) rfl rfl hl.1 rfl (lv_room (Nat.le_of_ble_eq_true rfl)) dX6_heat_4 ⟨Nat.le_of_ble_eq_true rfl, Nat.le_of_ble_eq_true rfl⟩) hS (fun H locs hI hN hS => ?_)
    refine W.widen (k := 1) (n := 6) (by decide) (by decide) ?_
    refine lv_aload_n hx hb dX6_heat_7 rfl (lv_at hl 0 rfl) ?_
    refine cg_get (T := TX6) (N := 7) (ci := 7) hx hb hts iwsX60 hown hK hN rfl rfl rfl 5 (by decide) l0 rfl (v := .int (Z.1 0 0 5)) rfl dX6_heat_8 ?_
    refine lv_topi (fun v4 ev4 => ?_)
    have h := bnd_ok h ev4
    refine lv_istore_n (lv' := [(2, .int v4), (0, .ref (ad 0 0)), (1, .int a1)]) hx hb dX6_heat_11 rfl hl (by decide) rfl (fun ls hl => ?_)
    refine lv_aload_n hx hb dX6_heat_12 rfl (lv_at hl 1 rfl) ?_
    refine lv_iload_n hx hb dX6_heat_13 rfl (lv_at hl 2 rfl) ?_
    obtain ⟨Z5, eZ5⟩ : ∃ y : CZ, y = (cuI Z 0 0 (upd (Z.1 0 0) 5 a1)) := ⟨_, rfl⟩
    have h := bnd_ok h eZ5
    refine cg_put (ty := .int) (T := TX6) (N := 7) (ci := 7) hx hb hts iwsX60 tyX6_ok nmX6 hown hI hK hN hS rfl rfl rfl 5 (by decide) (Nat.le_of_ble_eq_true rfl) l0 rfl rfl (by decide +kernel) rfl rfl rfl dX6_heat_14 eZ5 (fun H locs hI hN hS => ?_)
    refine lv_iload_n hx hb dX6_heat_17 rfl (lv_at hl 0 rfl) ?_
    exact vx_ret (W.widen (k := 1) (n := 6) (by decide) (by decide) (W.iret hx hb hr (xg_endi h hI hK hN hS) hS.2.2 dX6_heat_18))
  · exact xg_thrv (vx_runS (As := [.int a1, .int (0 : Int32), .int (15 : Int32)]) (rest := []) ⟨hx, hb, hml, hown, hts⟩ (mX6_requireRange l hfl D G A ad Z a1 (0 : Int32) (15 : Int32) (.inr x2) c1) (va_cwS 3 hts gX6_heat_X6_requireRange rfl rfl rfl (by decide +kernel) ⟨Nat.le_of_ble_eq_true rfl, Nat.le_of_ble_eq_true rfl⟩) (xg_preS hI hK hN hE hS) rfl rfl hl.1 rfl (lv_room (Nat.le_of_ble_eq_true rfl)) dX6_heat_4 ⟨Nat.le_of_ble_eq_true rfl, Nat.le_of_ble_eq_true rfl⟩) (congrArg Prod.fst (Option.some.inj h)).symm (congrArg Prod.snd (Option.some.inj h)).symm hexc hlocks hS (by decide) (by decide)
def fX6_field_92 (Z : CZ) (t0 : Int32) : Option ((Int32 ⊕ Int32)) := some (.inl t0)
def fX6_field_107 (Z : CZ) (t0 : Int32) : Option ((Int32 ⊕ Int32)) := some (.inl t0)
def fX6_field (a1 : Int32) (a2 : Int32) (a3 : Int32) (Z : CZ) : Option ((Int32 ⊕ Int32)) := cx1 (fX6_panAt a1 Z) (fun x2 => some (.inr x2)) (fun q3 => cx1 (fX6_requireIndex a2 (4 : Int32) Z) (fun x5 => some (.inr x5)) (fun _ => cx1 (fX6_requireRange a3 (0 : Int32) (4 : Int32) Z) (fun x8 => some (.inr x8)) (fun _ => (if a3 = (0 : Int32) then gd (cLv Z.2.2 5 q3) (gd (gin a2 4) (some (.inl (Z.1 6 q3 (Int32.toNatClampNeg a2))))) else (if a3 = (1 : Int32) then gd (cLv Z.2.2 5 q3) (gd (gin a2 4) (some (.inl ((Z.1 6 q3 (Int32.toNatClampNeg a2)) - (Z.1 0 0 5))))) else (if a3 = (2 : Int32) then gd (cLv Z.2.2 5 q3) (gd (gin a2 4) (some (.inl (Z.1 7 q3 (Int32.toNatClampNeg a2))))) else (if a3 = (3 : Int32) then gd (cLv Z.2.2 5 q3) (gd (gin a2 4) ((if (Z.1 8 q3 (Int32.toNatClampNeg a2)) = 0 then fX6_field_92 Z (0 : Int32) else fX6_field_92 Z (1 : Int32)))) else gd (cLv Z.2.2 5 q3) (cl1 (fX1_isCracked q3 a2 Z) (fun v19 => (if v19 = 0 then fX6_field_107 Z (0 : Int32) else fX6_field_107 Z (1 : Int32)))))))))))
def rmX6_field : Room := { frames := 8, cells := 3, slots := 18, locals := 142 }
set_option maxHeartbeats 4000000 in
set_option maxRecDepth 100000 in
theorem mX6_field (l : Launch) (hfl : l.stackTraces = false) (D : va_G) (G : CGT) (A : Nat → Prop) (ad : Nat → Nat → Nat) (Z : CZ) (a1 : Int32) (a2 : Int32) (a3 : Int32) (rz : (Int32 ⊕ Int32)) (h : fX6_field a1 a2 a3 Z = some rz) : vx_Met l yX6_field wsX6_field rmX6_field (va_Pc [.ref (ad 0 0), .int a1, .int a2, .int a3] (xP D G A ad Z)) (xQi D G A ad rz Z) (xX D G A ad rz Z) 3 18 A := by
  refine vx_ofW (cc := cX6_field) (maxL := 5) (ret := some .int) (by decide) rfl ?_
  intro p e s m args below meth c s₁ B hml hexc hv
  obtain ⟨rfl, ⟨hI, hN, hK⟩, hE⟩ := hv
  have hx := B.exec
  have hb := B.bytes
  have hr := B.returns
  have hts := atoms_spec (ws := wsX6_field) B.pre
  have hown : s.vm.findClass RX6 = some m.cls := findClass_of_methodNamed B.named
  have hlocks := B.notSynchronized
  have iwsX10 : ∀ w ∈ wsX10, w ∈ wsX6_field := fun w h => List.mem_cons_of_mem _ (List.mem_append_left _ (List.mem_append_left _ (List.mem_append_left _ (List.mem_append_left _ (List.mem_append_right _ h)))))
  have iwsX60 : ∀ w ∈ wsX60, w ∈ wsX6_field := fun w h => List.mem_cons_of_mem _ (List.mem_append_left _ (List.mem_append_left _ (List.mem_append_left _ (List.mem_append_right _ h))))
  have l0 := hts (.fieldLink RX6 60 "Panyard$Pan" "tones" "[I") (List.mem_of_getElem? (i := 1) rfl)
  have l1 := hts (.fieldLink RX6 84 "Panyard" "degreesNow" "I") (List.mem_of_getElem? (i := 2) rfl)
  have l2 := hts (.fieldLink RX6 87 "Panyard$Pan" "blows" "[I") (List.mem_of_getElem? (i := 3) rfl)
  have l3 := hts (.fieldLink RX6 90 "Panyard$Pan" "sunk" "[Z") (List.mem_of_getElem? (i := 4) rfl)
  have hS : va_S A s.heap s.heap [] := va_S.rf
  have hl := lv_entry ([.ref (ad 0 0), .int a1, .int a2, .int a3]) (n := 5) (Nat.le_of_ble_eq_true rfl)
  rw [lg_entry_eq]
  generalize (lg_sl ([.ref (ad 0 0), .int a1, .int a2, .int a3]) ++ List.replicate (5 - (lg_sl ([.ref (ad 0 0), .int a1, .int a2, .int a3])).length) Slot.unset).toArray = ls at hl ⊢
  have hl : lv_has ls 5 [(0, .ref (ad 0 0)), (1, .int a1), (2, .int a2), (3, .int a3)] := hl
  have w92 : ∀ (t0 : Int32), fX6_field_92 Z t0 = some rz → cG p l e (headSpec wsX6_field rmX6_field).room s m (([.ref (ad 0 0), .int a1, .int a2, .int a3] : List Value).toArray) below meth c (vx_MQ below (xQi D G A ad rz Z) (xX D G A ad rz Z) (([.ref (ad 0 0), .int a1, .int a2, .int a3] : List Value).toArray) s 3 18 A) D G A ad 3 18 5 Z 92 [] [.int t0] := by
    intro  t0 h H locs ls hI hN hS hl
    unfold fX6_field_92 at h
    exact vx_ret (W.widen (k := 3) (n := 18) (by decide) (by decide) (W.iret hx hb hr (xg_endr h hI hK hN hS) hS.2.2 dX6_field_92))
  have w107 : ∀ (t0 : Int32), fX6_field_107 Z t0 = some rz → cG p l e (headSpec wsX6_field rmX6_field).room s m (([.ref (ad 0 0), .int a1, .int a2, .int a3] : List Value).toArray) below meth c (vx_MQ below (xQi D G A ad rz Z) (xX D G A ad rz Z) (([.ref (ad 0 0), .int a1, .int a2, .int a3] : List Value).toArray) s 3 18 A) D G A ad 3 18 5 Z 107 [] [.int t0] := by
    intro  t0 h H locs ls hI hN hS hl
    unfold fX6_field_107 at h
    exact vx_ret (W.widen (k := 3) (n := 18) (by decide) (by decide) (W.iret hx hb hr (xg_endr h hI hK hN hS) hS.2.2 dX6_field_107))
  unfold fX6_field at h
  refine lv_aload_n hx hb dX6_field_0 rfl (lv_at hl 0 rfl) ?_
  refine lv_iload_n hx hb dX6_field_1 rfl (lv_at hl 1 rfl) ?_
  rcases cx1_ok h with ⟨q3, c1, h⟩ | ⟨x2, c1, h⟩
  · refine xg_callr (k := 5) (q := q3) (vx_runV (As := [.int a1]) (rest := []) ⟨hx, hb, hml, hown, hts⟩ (mX6_panAt l hfl D G A ad Z a1 (.inl q3) c1) (cwV 1 hts gX6_field_X6_panAt rfl rfl rfl (by decide +kernel) ⟨Nat.le_of_ble_eq_true rfl, Nat.le_of_ble_eq_true rfl⟩) (xg_preV hI hK hN hE hS rfl rfl (ci := 7) rfl) rfl rfl hl.1 rfl (lv_room (Nat.le_of_ble_eq_true rfl)) dX6_field_2 ⟨Nat.le_of_ble_eq_true rfl, Nat.le_of_ble_eq_true rfl⟩) hS (fun H locs hI hN hS => ?_)
    refine W.widen (k := 1) (n := 6) (by decide) (by decide) ?_
    refine lv_astore (lv' := [(4, .ref (ad 5 q3)), (0, .ref (ad 0 0)), (1, .int a1), (2, .int a2), (3, .int a3)]) hx hb dX6_field_5 hl (by decide) rfl (fun ls hl => ?_)
    refine lv_iload_n hx hb dX6_field_7 rfl (lv_at hl 3 rfl) ?_
    refine lv_iconst (v := (4 : Int32)) hx hb dX6_field_8 (by decide) ?_
    rcases cx1_ok h with ⟨v6, c4, h⟩ | ⟨x5, c4, h⟩
    · refine xg_callv (vx_runS (As := [.int a2, .int (4 : Int32)]) (rest := []) ⟨hx, hb, hml, hown, hts⟩ (mX6_requireIndex l hfl D G A ad Z a2 (4 : Int32) (.inl ()) c4) (va_cwS 2 hts gX6_field_X6_requireIndex rfl rfl rfl (by decide +kernel) ⟨Nat.le_of_ble_eq_true rfl, Nat.le_of_ble_eq_true rfl⟩) (xg_preS hI hK hN hE hS) rfl rfl hl.1 rfl (lv_room (Nat.le_of_ble_eq_true rfl)) dX6_field_9 ⟨Nat.le_of_ble_eq_true rfl, Nat.le_of_ble_eq_true rfl⟩) hS (fun H locs hI hN hS => ?_)
      refine W.widen (k := 2) (n := 12) (by decide) (by decide) ?_
      refine lv_iload_n hx hb dX6_field_12 rfl (lv_at hl 4 rfl) ?_
      refine lv_iconst (v := (0 : Int32)) hx hb dX6_field_13 (by decide) ?_
      refine lv_iconst (v := (4 : Int32)) hx hb dX6_field_14 (by decide) ?_
      rcases cx1_ok h with ⟨v9, c7, h⟩ | ⟨x8, c7, h⟩
      · refine xg_callv (vx_runS (As := [.int a3, .int (0 : Int32), .int (4 : Int32)]) (rest := []) ⟨hx, hb, hml, hown, hts⟩ (mX6_requireRange l hfl D G A ad Z a3 (0 : Int32) (4 : Int32) (.inl ()) c7) (va_cwS 3 hts gX6_field_X6_requireRange rfl rfl rfl (by decide +kernel) ⟨Nat.le_of_ble_eq_true rfl, Nat.le_of_ble_eq_true rfl⟩) (xg_preS hI hK hN hE hS) rfl rfl hl.1 rfl (lv_room (Nat.le_of_ble_eq_true rfl)) dX6_field_15 ⟨Nat.le_of_ble_eq_true rfl, Nat.le_of_ble_eq_true rfl⟩) hS (fun H locs hI hN hS => ?_)
        refine W.widen (k := 3) (n := 18) (by decide) (by decide) ?_
        refine lv_iload_n hx hb dX6_field_18 rfl (lv_at hl 4 rfl) ?_
        by_cases hs0 : a3 = (0 : Int32)
        · have h := ite_t h hs0
          refine lv_tableIn (tgt := 48) hx hb dX6_field_19 (by rw [hs0]; decide) (by rw [hs0]; decide) (by rw [hs0]; rfl) (by decide) ?_
          refine lv_aload hx hb dX6_field_48 (lv_at hl 0 rfl) ?_
          obtain ⟨g10, h⟩ := gd_ok h
          refine cg_get (T := TX1) (N := 5) (ci := 2) hx hb hts iwsX10 hown hK hN g10 rfl rfl 1 (by decide) l0 rfl (v := .ref (ad 6 q3)) rfl dX6_field_50 ?_
          refine lv_iload_n hx hb dX6_field_53 rfl (lv_at hl 3 rfl) ?_
          obtain ⟨g11, h⟩ := gd_ok h
          refine cg_ild hx hb hK hN g10 rfl (gin_ok g11) dX6_field_54 ?_
          exact vx_ret (W.widen (k := 3) (n := 18) (by decide) (by decide) (W.iret hx hb hr (xg_endr h hI hK hN hS) hS.2.2 dX6_field_55))
        · have h := ite_f h hs0
          by_cases hs1 : a3 = (1 : Int32)
          · have h := ite_t h hs1
            refine lv_tableIn (tgt := 56) hx hb dX6_field_19 (by rw [hs1]; decide) (by rw [hs1]; decide) (by rw [hs1]; rfl) (by decide) ?_
            refine lv_aload hx hb dX6_field_56 (lv_at hl 0 rfl) ?_
            obtain ⟨g12, h⟩ := gd_ok h
            refine cg_get (T := TX1) (N := 5) (ci := 2) hx hb hts iwsX10 hown hK hN g12 rfl rfl 1 (by decide) l0 rfl (v := .ref (ad 6 q3)) rfl dX6_field_58 ?_
            refine lv_iload_n hx hb dX6_field_61 rfl (lv_at hl 3 rfl) ?_
            obtain ⟨g13, h⟩ := gd_ok h
            refine cg_ild hx hb hK hN g12 rfl (gin_ok g13) dX6_field_62 ?_
            refine lv_aload_n hx hb dX6_field_63 rfl (lv_at hl 1 rfl) ?_
            refine cg_get (T := TX6) (N := 7) (ci := 7) hx hb hts iwsX60 hown hK hN rfl rfl rfl 5 (by decide) l1 rfl (v := .int (Z.1 0 0 5)) rfl dX6_field_64 ?_
            refine lv_isub hx hb dX6_field_67 ?_
            exact vx_ret (W.widen (k := 3) (n := 18) (by decide) (by decide) (W.iret hx hb hr (xg_endr h hI hK hN hS) hS.2.2 dX6_field_68))
          · have h := ite_f h hs1
            by_cases hs2 : a3 = (2 : Int32)
            · have h := ite_t h hs2
              refine lv_tableIn (tgt := 69) hx hb dX6_field_19 (by rw [hs2]; decide) (by rw [hs2]; decide) (by rw [hs2]; rfl) (by decide) ?_
              refine lv_aload hx hb dX6_field_69 (lv_at hl 0 rfl) ?_
              obtain ⟨g14, h⟩ := gd_ok h
              refine cg_get (T := TX1) (N := 5) (ci := 2) hx hb hts iwsX10 hown hK hN g14 rfl rfl 2 (by decide) l2 rfl (v := .ref (ad 7 q3)) rfl dX6_field_71 ?_
              refine lv_iload_n hx hb dX6_field_74 rfl (lv_at hl 3 rfl) ?_
              obtain ⟨g15, h⟩ := gd_ok h
              refine cg_ild hx hb hK hN g14 rfl (gin_ok g15) dX6_field_75 ?_
              exact vx_ret (W.widen (k := 3) (n := 18) (by decide) (by decide) (W.iret hx hb hr (xg_endr h hI hK hN hS) hS.2.2 dX6_field_76))
            · have h := ite_f h hs2
              by_cases hs3 : a3 = (3 : Int32)
              · have h := ite_t h hs3
                refine lv_tableIn (tgt := 77) hx hb dX6_field_19 (by rw [hs3]; decide) (by rw [hs3]; decide) (by rw [hs3]; rfl) (by decide) ?_
                refine lv_aload hx hb dX6_field_77 (lv_at hl 0 rfl) ?_
                obtain ⟨g16, h⟩ := gd_ok h
                refine cg_get (T := TX1) (N := 5) (ci := 2) hx hb hts iwsX10 hown hK hN g16 rfl rfl 3 (by decide) l3 rfl (v := .ref (ad 8 q3)) rfl dX6_field_79 ?_
                refine lv_iload_n hx hb dX6_field_82 rfl (lv_at hl 3 rfl) ?_
                obtain ⟨g17, h⟩ := gd_ok h
                refine cg_zld hx hb hK hN g16 rfl (gin_ok g17) dX6_field_83 ?_
                refine lv_if_eq (tgt := 91) hx hb dX6_field_84 (by decide) (fun hc => ?_) (fun hc => ?_)
                · have h := ite_t h hc
                  refine lv_iconst (v := (0 : Int32)) hx hb dX6_field_91 (by decide) ?_
                  exact w92  (0 : Int32) h _ _ _ hI hN hS (lv_sub hl [] rfl)
                · have h := ite_f h hc
                  refine lv_iconst (v := (1 : Int32)) hx hb dX6_field_87 (by decide) ?_
                  refine lv_goto (tgt := 92) hx hb dX6_field_88 (by decide) ?_
                  exact w92  (1 : Int32) h _ _ _ hI hN hS (lv_sub hl [] rfl)
              · have h := ite_f h hs3
                have ht0 := ne_toInt (0 : Int32) (n := 0) (by decide) hs0
                have ht1 := ne_toInt (1 : Int32) (n := 1) (by decide) hs1
                have ht2 := ne_toInt (2 : Int32) (n := 2) (by decide) hs2
                have ht3 := ne_toInt (3 : Int32) (n := 3) (by decide) hs3
                refine lv_tableOut (tgt := 93) hx hb dX6_field_19 (by omega) (by decide) ?_
                refine lv_aload hx hb dX6_field_93 (lv_at hl 0 rfl) ?_
                refine lv_iload_n hx hb dX6_field_95 rfl (lv_at hl 3 rfl) ?_
                obtain ⟨g18, h⟩ := gd_ok h
                obtain ⟨v19, c20, h⟩ := cl1_ok h
                refine cg_calli (va_runV (As := [.int a2]) (rest := []) ⟨hx, hb, hml, hown, hts⟩ (mX1_isCracked l D G A ad Z q3 a2 v19 c20) (cwV 1 hts gX6_field_X1_isCracked rfl rfl rfl (by decide +kernel) ⟨Nat.le_of_ble_eq_true rfl, Nat.le_of_ble_eq_true rfl⟩) (cg_preV hI hK hN g18 rfl (ci := 2) rfl) rfl rfl hl.1 rfl (lv_room (Nat.le_of_ble_eq_true rfl)) dX6_field_96 ⟨Nat.le_of_ble_eq_true rfl, Nat.le_of_ble_eq_true rfl⟩) hS (fun H locs hI hN hS => ?_)
                refine lv_if_eq (tgt := 106) hx hb dX6_field_99 (by decide) (fun hc => ?_) (fun hc => ?_)
                · have h := ite_t h hc
                  refine lv_iconst (v := (0 : Int32)) hx hb dX6_field_106 (by decide) ?_
                  exact w107  (0 : Int32) h _ _ _ hI hN hS (lv_sub hl [] rfl)
                · have h := ite_f h hc
                  refine lv_iconst (v := (1 : Int32)) hx hb dX6_field_102 (by decide) ?_
                  refine lv_goto (tgt := 107) hx hb dX6_field_103 (by decide) ?_
                  exact w107  (1 : Int32) h _ _ _ hI hN hS (lv_sub hl [] rfl)
      · exact xg_thrv (vx_runS (As := [.int a3, .int (0 : Int32), .int (4 : Int32)]) (rest := []) ⟨hx, hb, hml, hown, hts⟩ (mX6_requireRange l hfl D G A ad Z a3 (0 : Int32) (4 : Int32) (.inr x8) c7) (va_cwS 3 hts gX6_field_X6_requireRange rfl rfl rfl (by decide +kernel) ⟨Nat.le_of_ble_eq_true rfl, Nat.le_of_ble_eq_true rfl⟩) (xg_preS hI hK hN hE hS) rfl rfl hl.1 rfl (lv_room (Nat.le_of_ble_eq_true rfl)) dX6_field_15 ⟨Nat.le_of_ble_eq_true rfl, Nat.le_of_ble_eq_true rfl⟩) (Option.some.inj h).symm rfl hexc hlocks hS (by decide) (by decide)
    · exact xg_thrv (vx_runS (As := [.int a2, .int (4 : Int32)]) (rest := []) ⟨hx, hb, hml, hown, hts⟩ (mX6_requireIndex l hfl D G A ad Z a2 (4 : Int32) (.inr x5) c4) (va_cwS 2 hts gX6_field_X6_requireIndex rfl rfl rfl (by decide +kernel) ⟨Nat.le_of_ble_eq_true rfl, Nat.le_of_ble_eq_true rfl⟩) (xg_preS hI hK hN hE hS) rfl rfl hl.1 rfl (lv_room (Nat.le_of_ble_eq_true rfl)) dX6_field_9 ⟨Nat.le_of_ble_eq_true rfl, Nat.le_of_ble_eq_true rfl⟩) (Option.some.inj h).symm rfl hexc hlocks hS (by decide) (by decide)
  · exact xg_thrr (k := 5) (vx_runV (As := [.int a1]) (rest := []) ⟨hx, hb, hml, hown, hts⟩ (mX6_panAt l hfl D G A ad Z a1 (.inr x2) c1) (cwV 1 hts gX6_field_X6_panAt rfl rfl rfl (by decide +kernel) ⟨Nat.le_of_ble_eq_true rfl, Nat.le_of_ble_eq_true rfl⟩) (xg_preV hI hK hN hE hS rfl rfl (ci := 7) rfl) rfl rfl hl.1 rfl (lv_room (Nat.le_of_ble_eq_true rfl)) dX6_field_2 ⟨Nat.le_of_ble_eq_true rfl, Nat.le_of_ble_eq_true rfl⟩) (Option.some.inj h).symm rfl hexc hlocks hS (by decide) (by decide)
