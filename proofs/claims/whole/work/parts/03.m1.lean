def fX7_holds_14 (t0 : Int32) (M : MT) : Option (Int32 × MT) := gd (gbo t0) (some (t0, M))
def fX7_holds (a1 : Int32) (M : MT) : Option (Int32 × MT) := bnd (va_up M 0 (fun _ => a1)) (fun M1 => (if a1 = 0 then fX7_holds_14 (1 : Int32) M1 else fX7_holds_14 (0 : Int32) M1))
def rmX7_holds : Room := { frames := 1, cells := 0, slots := 0, locals := 13 }
set_option maxHeartbeats 4000000 in
set_option maxRecDepth 100000 in
theorem mX7_holds (l : Launch) (D : va_G) (ad : Nat → Nat) (cI cZ : ClassId) (M : MT) (a1 : Int32) (r : Int32) (Mz : MT) (h : fX7_holds a1 M = some (r, Mz)) : Met l yX7_holds wsX7_holds rmX7_holds (va_Pc [.ref (ad 0), .int a1] (mP D ad cI cZ M)) (mQi D ad cI cZ r Mz) 0 0 (mA ad) := by
  refine Met.ofW (cc := cX7_holds) (maxL := 2) (ret := some .boolean) (by decide) rfl ?_
  intro p e s m args below meth c s₁ B hml hv
  obtain ⟨rfl, hI, hN, hK⟩ := hv
  have hx := B.exec
  have hb := B.bytes
  have hr := B.returns
  have hts := atoms_spec (ws := wsX7_holds) B.pre
  have hown : s.vm.findClass RX7 = some m.cls := findClass_of_methodNamed B.named
  have hlocks := B.notSynchronized
  have hin : ∀ w ∈ wsX70, w ∈ wsX7_holds := fun w h => List.mem_cons_of_mem _ (List.mem_append_right _ h)
  have l0 := hts (.fieldLink RX7 83 "PanyardModel" "thrown" "I") (List.mem_of_getElem? (i := 1) rfl)
  have hS : va_S (mA ad) s.heap s.heap [] := va_S.rf
  have hl := lv_entry ([.ref (ad 0), .int a1]) (n := 2) (Nat.le_of_ble_eq_true rfl)
  rw [lg_entry_eq]
  generalize (lg_sl ([.ref (ad 0), .int a1]) ++ List.replicate (2 - (lg_sl ([.ref (ad 0), .int a1])).length) Slot.unset).toArray = ls at hl ⊢
  have hl : lv_has ls 2 [(0, .ref (ad 0)), (1, .int a1)] := hl
  have w14 : ∀ (t0 : Int32) (M : MT), fX7_holds_14  t0 M = some (r, Mz) → mG p l e (headSpec wsX7_holds rmX7_holds).room s m args below meth c (MQ below (mQi D ad cI cZ r Mz) args s 0 0 (mA ad)) D ad cI cZ 2 M 14 [(0, .ref (ad 0))] [.int t0] := by
    intro  t0 M h H locs ls hN hS hl
    unfold fX7_holds_14 at h
    obtain ⟨g2, h⟩ := gd_ok h
    exact W.zret hx hb hr (gbo_ok g2) (mg_endi h hI hK hN hS) hS.2.2 dX7_holds_14
  unfold fX7_holds at h
  refine lv_aload_n hx hb dX7_holds_0 rfl (lv_at hl 0 rfl) ?_
  refine lv_iload_n hx hb dX7_holds_1 rfl (lv_at hl 1 rfl) ?_
  obtain ⟨M1, eM1⟩ : ∃ y : MT, y = (va_up M 0 (fun _ => a1)) := ⟨_, rfl⟩
  have h := bnd_ok h eM1
  refine mg_put hx hb hts hin hown hI hK hN hS 0 (by decide) rfl l0 rfl rfl (by decide +kernel) rfl dX7_holds_2 eM1 (fun H locs hN hS => ?_)
  refine lv_iload_n hx hb dX7_holds_5 rfl (lv_at hl 1 rfl) ?_
  refine lv_if_ne (tgt := 13) hx hb dX7_holds_6 (by decide) (fun hc => ?_) (fun hc => ?_)
  · have h := ite_f h hc
    refine lv_iconst (v := (0 : Int32)) hx hb dX7_holds_13 (by decide) ?_
    exact w14  (0 : Int32) M1 h H locs ls hN hS (lv_sub hl [0] rfl)
  · have h := ite_t h hc
    refine lv_iconst (v := (1 : Int32)) hx hb dX7_holds_9 (by decide) ?_
    refine lv_goto (tgt := 14) hx hb dX7_holds_10 (by decide) ?_
    exact w14  (1 : Int32) M1 h H locs ls hN hS (lv_sub hl [0] rfl)
def fX7_isIn_15 (t0 : Int32) : Option (Int32) := gd (gbo t0) (some t0)
def fX7_isIn_14 : Option (Int32) := fX7_isIn_15 (0 : Int32)
def fX7_isIn (a1 : Int32) (a2 : Int32) (a3 : Int32) : Option (Int32) := (if a1 < a2 then fX7_isIn_14 else (if a3 < a1 then fX7_isIn_14 else fX7_isIn_15 (1 : Int32)))
def rmX7_isIn : Room := { frames := 1, cells := 0, slots := 0, locals := 14 }
set_option maxHeartbeats 4000000 in
set_option maxRecDepth 100000 in
theorem mX7_isIn (l : Launch) (D : va_G) (ad : Nat → Nat) (cI cZ : ClassId) (M : MT) (a1 : Int32) (a2 : Int32) (a3 : Int32) (r : Int32) (h : fX7_isIn a1 a2 a3 = some r) : Met l yX7_isIn wsX7_isIn rmX7_isIn (va_Pc [.int a1, .int a2, .int a3] (mP D ad cI cZ M)) (mQi D ad cI cZ r M) 0 0 (mA ad) := by
  refine Met.ofW (cc := cX7_isIn) (maxL := 3) (ret := some .boolean) (by decide) rfl ?_
  intro p e s m args below meth c s₁ B hml hv
  obtain ⟨rfl, hI, hN, hK⟩ := hv
  have hx := B.exec
  have hb := B.bytes
  have hr := B.returns
  have hts := atoms_spec (ws := wsX7_isIn) B.pre
  have hown : s.vm.findClass RX7 = some m.cls := findClass_of_methodNamed B.named
  have hlocks := B.notSynchronized
  have hS : va_S (mA ad) s.heap s.heap [] := va_S.rf
  have hl := lv_entry ([.int a1, .int a2, .int a3]) (n := 3) (Nat.le_of_ble_eq_true rfl)
  rw [lg_entry_eq]
  generalize (lg_sl ([.int a1, .int a2, .int a3]) ++ List.replicate (3 - (lg_sl ([.int a1, .int a2, .int a3])).length) Slot.unset).toArray = ls at hl ⊢
  have hl : lv_has ls 3 [(0, .int a1), (1, .int a2), (2, .int a3)] := hl
  have w15 : ∀ (t0 : Int32), fX7_isIn_15  t0 = some r → mG p l e (headSpec wsX7_isIn rmX7_isIn).room s m args below meth c (MQ below (mQi D ad cI cZ r M) args s 0 0 (mA ad)) D ad cI cZ 3 M 15 [] [.int t0] := by
    intro  t0 h H locs ls hN hS hl
    unfold fX7_isIn_15 at h
    obtain ⟨g1, h⟩ := gd_ok h
    exact W.zret hx hb hr (gbo_ok g1) (mg_endr h hI hK hN hS) hS.2.2 dX7_isIn_15
  have w14 : fX7_isIn_14   = some r → mG p l e (headSpec wsX7_isIn rmX7_isIn).room s m args below meth c (MQ below (mQi D ad cI cZ r M) args s 0 0 (mA ad)) D ad cI cZ 3 M 14 [] [] := by
    intro   h H locs ls hN hS hl
    unfold fX7_isIn_14 at h
    refine lv_iconst (v := (0 : Int32)) hx hb dX7_isIn_14 (by decide) ?_
    exact w15  (0 : Int32) h H locs ls hN hS (lv_sub hl [] rfl)
  unfold fX7_isIn at h
  refine lv_iload_n hx hb dX7_isIn_0 rfl (lv_at hl 0 rfl) ?_
  refine lv_iload_n hx hb dX7_isIn_1 rfl (lv_at hl 1 rfl) ?_
  refine lv_icmp_lt (tgt := 14) hx hb dX7_isIn_2 (by decide) (fun hc => ?_) (fun hc => ?_)
  · have h := ite_t h hc
    exact w14   h H locs ls hN hS (lv_sub hl [] rfl)
  · have h := ite_f h hc
    refine lv_iload_n hx hb dX7_isIn_5 rfl (lv_at hl 0 rfl) ?_
    refine lv_iload_n hx hb dX7_isIn_6 rfl (lv_at hl 2 rfl) ?_
    refine lv_icmp_gt (tgt := 14) hx hb dX7_isIn_7 (by decide) (fun hc => ?_) (fun hc => ?_)
    · have h := ite_t h hc
      exact w14   h H locs ls hN hS (lv_sub hl [] rfl)
    · have h := ite_f h hc
      refine lv_iconst (v := (1 : Int32)) hx hb dX7_isIn_10 (by decide) ?_
      refine lv_goto (tgt := 15) hx hb dX7_isIn_11 (by decide) ?_
      exact w15  (1 : Int32) h H locs ls hN hS (lv_sub hl [] rfl)
def fX7_isPan (a1 : Int32) (M : MT) : Option (Int32) := cl1 (fX7_isIn a1 (0 : Int32) ((M 3 0) - (1 : Int32))) (fun v1 => gd (gbo v1) (some v1))
def rmX7_isPan : Room := { frames := 2, cells := 0, slots := 0, locals := 36 }
set_option maxHeartbeats 4000000 in
set_option maxRecDepth 100000 in
theorem mX7_isPan (l : Launch) (D : va_G) (ad : Nat → Nat) (cI cZ : ClassId) (M : MT) (a1 : Int32) (r : Int32) (h : fX7_isPan a1 M = some r) : Met l yX7_isPan wsX7_isPan rmX7_isPan (va_Pc [.ref (ad 0), .int a1] (mP D ad cI cZ M)) (mQi D ad cI cZ r M) 0 0 (mA ad) := by
  refine Met.ofW (cc := cX7_isPan) (maxL := 2) (ret := some .boolean) (by decide) rfl ?_
  intro p e s m args below meth c s₁ B hml hv
  obtain ⟨rfl, hI, hN, hK⟩ := hv
  have hx := B.exec
  have hb := B.bytes
  have hr := B.returns
  have hts := atoms_spec (ws := wsX7_isPan) B.pre
  have hown : s.vm.findClass RX7 = some m.cls := findClass_of_methodNamed B.named
  have hlocks := B.notSynchronized
  have hin : ∀ w ∈ wsX70, w ∈ wsX7_isPan := fun w h => List.mem_cons_of_mem _ (List.mem_append_right _ h)
  have l0 := hts (.fieldLink RX7 87 "PanyardModel" "pans" "I") (List.mem_of_getElem? (i := 1) rfl)
  have hS : va_S (mA ad) s.heap s.heap [] := va_S.rf
  have hl := lv_entry ([.ref (ad 0), .int a1]) (n := 2) (Nat.le_of_ble_eq_true rfl)
  rw [lg_entry_eq]
  generalize (lg_sl ([.ref (ad 0), .int a1]) ++ List.replicate (2 - (lg_sl ([.ref (ad 0), .int a1])).length) Slot.unset).toArray = ls at hl ⊢
  have hl : lv_has ls 2 [(0, .ref (ad 0)), (1, .int a1)] := hl
  unfold fX7_isPan at h
  refine lv_iload_n hx hb dX7_isPan_0 rfl (lv_at hl 1 rfl) ?_
  refine lv_iconst (v := (0 : Int32)) hx hb dX7_isPan_1 (by decide) ?_
  refine lv_aload_n hx hb dX7_isPan_2 rfl (lv_at hl 0 rfl) ?_
  refine mg_get hx hb hts hin hown hK hN 3 (by decide) l0 rfl (v := .int (M 3 0)) rfl dX7_isPan_3 ?_
  refine lv_iconst (v := (1 : Int32)) hx hb dX7_isPan_6 (by decide) ?_
  refine lv_isub hx hb dX7_isPan_7 ?_
  obtain ⟨v1, c2, h⟩ := cl1_ok h
  refine mg_calli (va_runS (As := [.int a1, .int (0 : Int32), .int ((M 3 0) - (1 : Int32))]) (rest := []) ⟨hx, hb, hml, hown, hts⟩ (mX7_isIn l D ad cI cZ M a1 (0 : Int32) ((M 3 0) - (1 : Int32)) v1 c2) (va_cwS 3 hts gX7_isPan_X7_isIn rfl rfl rfl (by decide +kernel) ⟨Nat.le_of_ble_eq_true rfl, Nat.le_of_ble_eq_true rfl⟩) (mg_preS hI hK hN) rfl rfl hl.1 rfl (lv_room (Nat.le_of_ble_eq_true rfl)) dX7_isPan_8 ⟨Nat.zero_le _, Nat.zero_le _⟩) hS (fun H locs hN hS => ?_)
  obtain ⟨g3, h⟩ := gd_ok h
  exact W.zret hx hb hr (gbo_ok g3) (mg_endr h hI hK hN hS) hS.2.2 dX7_isPan_11
def fX7_takes_61 (M : MT) : Option (MT) := some M
def fX7_takes_2 (k2 : Int32 → Int32 → MT → Option (MT)) (x1 : Int32) (x2 : Int32) (M : MT) : Option (MT) := (if (4 : Int32) ≤ x2 then fX7_takes_61 M else gd (gin (((4 : Int32) * x1) + x2) 24) (gd (gin x2 4) (bnd (va_up M 7 (upd (M 7) (Int32.toNatClampNeg x2) (M 4 (Int32.toNatClampNeg (((4 : Int32) * x1) + x2))))) (fun M3 => gd (gin (((4 : Int32) * x1) + x2) 24) (gd (gin x2 4) (bnd (va_up M3 8 (upd (M3 8) (Int32.toNatClampNeg x2) (M3 5 (Int32.toNatClampNeg (((4 : Int32) * x1) + x2))))) (fun M6 => gd (gin (((4 : Int32) * x1) + x2) 24) (gd (gin x2 4) (bnd (va_up M6 9 (upd (M6 9) (Int32.toNatClampNeg x2) (vp_nar .boolean (M6 6 (Int32.toNatClampNeg (((4 : Int32) * x1) + x2)))))) (fun M9 => bnd (x2 + (1 : Int32)) (fun v10 => k2 x1 v10 M9)))))))))))
def fX7_takes (a1 : Int32) (M : MT) : Option (MT) := lf3 fX7_takes_2 100 a1 (0 : Int32) M
def rmX7_takes : Room := { frames := 1, cells := 0, slots := 0, locals := 14 }
set_option maxHeartbeats 4000000 in
set_option maxRecDepth 100000 in
theorem mX7_takes (l : Launch) (D : va_G) (ad : Nat → Nat) (cI cZ : ClassId) (M : MT) (a1 : Int32) (Mz : MT) (h : fX7_takes a1 M = some Mz) : Met l yX7_takes wsX7_takes rmX7_takes (va_Pc [.ref (ad 0), .int a1] (mP D ad cI cZ M)) (mQv D ad cI cZ Mz) 0 0 (mA ad) := by
  refine Met.ofW (cc := cX7_takes) (maxL := 3) (ret := none) (by decide) rfl ?_
  intro p e s m args below meth c s₁ B hml hv
  obtain ⟨rfl, hI, hN, hK⟩ := hv
  have hx := B.exec
  have hb := B.bytes
  have hr := B.returns
  have hts := atoms_spec (ws := wsX7_takes) B.pre
  have hown : s.vm.findClass RX7 = some m.cls := findClass_of_methodNamed B.named
  have hlocks := B.notSynchronized
  have hin : ∀ w ∈ wsX70, w ∈ wsX7_takes := fun w h => List.mem_cons_of_mem _ (List.mem_append_right _ h)
  have l0 := hts (.fieldLink RX7 20 "PanyardModel" "tried" "[I") (List.mem_of_getElem? (i := 1) rfl)
  have l1 := hts (.fieldLink RX7 7 "PanyardModel" "tone" "[I") (List.mem_of_getElem? (i := 2) rfl)
  have l2 := hts (.fieldLink RX7 23 "PanyardModel" "many" "[I") (List.mem_of_getElem? (i := 3) rfl)
  have l3 := hts (.fieldLink RX7 13 "PanyardModel" "blows" "[I") (List.mem_of_getElem? (i := 4) rfl)
  have l4 := hts (.fieldLink RX7 26 "PanyardModel" "isSunk" "[Z") (List.mem_of_getElem? (i := 5) rfl)
  have l5 := hts (.fieldLink RX7 16 "PanyardModel" "wasSunk" "[Z") (List.mem_of_getElem? (i := 6) rfl)
  have hS : va_S (mA ad) s.heap s.heap [] := va_S.rf
  have hl := lv_entry ([.ref (ad 0), .int a1]) (n := 3) (Nat.le_of_ble_eq_true rfl)
  rw [lg_entry_eq]
  generalize (lg_sl ([.ref (ad 0), .int a1]) ++ List.replicate (3 - (lg_sl ([.ref (ad 0), .int a1])).length) Slot.unset).toArray = ls at hl ⊢
  have hl : lv_has ls 3 [(0, .ref (ad 0)), (1, .int a1)] := hl
  have w61 : ∀ (M : MT), fX7_takes_61  M = some Mz → mG p l e (headSpec wsX7_takes rmX7_takes).room s m args below meth c (MQ below (mQv D ad cI cZ Mz) args s 0 0 (mA ad)) D ad cI cZ 3 M 61 [(0, .ref (ad 0))] [] := by
    intro  M h H locs ls hN hS hl
    unfold fX7_takes_61 at h
    exact W.vret hx hb hr (mg_endv h hI hK hN hS) hS.2.2 dX7_takes_61
  have w2 : ∀ (x1 : Int32) (x2 : Int32) (M : MT), lf3 fX7_takes_2 100 x1 x2 M = some Mz → mG p l e (headSpec wsX7_takes rmX7_takes).room s m args below meth c (MQ below (mQv D ad cI cZ Mz) args s 0 0 (mA ad)) D ad cI cZ 3 M 2 [(0, .ref (ad 0)), (1, .int x1), (2, .int x2)] [] := by
    skip
    refine lf3_ok (P := (fun x1 x2 M => mG p l e (headSpec wsX7_takes rmX7_takes).room s m args below meth c (MQ below (mQv D ad cI cZ Mz) args s 0 0 (mA ad)) D ad cI cZ 3 M 2 [(0, .ref (ad 0)), (1, .int x1), (2, .int x2)] [])) (fun k2 hk2 x1 x2 M h H locs ls hN hS hl => ?_) 100
    unfold fX7_takes_2 at h
    refine lv_iload_n hx hb dX7_takes_2 rfl (lv_at hl 2 rfl) ?_
    refine lv_iconst (v := (4 : Int32)) hx hb dX7_takes_3 (by decide) ?_
    refine lv_icmp_ge (tgt := 61) hx hb dX7_takes_4 (by decide) (fun hc => ?_) (fun hc => ?_)
    · have h := ite_t h hc
      exact w61  M h H locs ls hN hS (lv_sub hl [0] rfl)
    · have h := ite_f h hc
      refine lv_aload_n hx hb dX7_takes_7 rfl (lv_at hl 0 rfl) ?_
      refine mg_get hx hb hts hin hown hK hN 7 (by decide) l0 rfl (v := .ref (ad 7)) rfl dX7_takes_8 ?_
      refine lv_iload_n hx hb dX7_takes_11 rfl (lv_at hl 2 rfl) ?_
      refine lv_aload_n hx hb dX7_takes_12 rfl (lv_at hl 0 rfl) ?_
      refine mg_get hx hb hts hin hown hK hN 4 (by decide) l1 rfl (v := .ref (ad 4)) rfl dX7_takes_13 ?_
      refine lv_iconst (v := (4 : Int32)) hx hb dX7_takes_16 (by decide) ?_
      refine lv_iload_n hx hb dX7_takes_17 rfl (lv_at hl 1 rfl) ?_
      refine lv_imul hx hb dX7_takes_18 ?_
      refine lv_iload_n hx hb dX7_takes_19 rfl (lv_at hl 2 rfl) ?_
      refine lv_iadd hx hb dX7_takes_20 ?_
      obtain ⟨g1, h⟩ := gd_ok h
      refine mg_ild hx hb hK hN 4 rfl (if_neg (by decide)) (gin_ok g1) dX7_takes_21 ?_
      obtain ⟨g2, h⟩ := gd_ok h
      obtain ⟨M3, eM3⟩ : ∃ y : MT, y = (va_up M 7 (upd (M 7) (Int32.toNatClampNeg x2) (M 4 (Int32.toNatClampNeg (((4 : Int32) * x1) + x2))))) := ⟨_, rfl⟩
      have h := bnd_ok h eM3
      refine mg_ist hx hb hI hK hN hS 7 rfl (if_neg (by decide)) (gin_ok g2) dX7_takes_22 eM3 (fun H locs hN hS => ?_)
      refine lv_aload_n hx hb dX7_takes_23 rfl (lv_at hl 0 rfl) ?_
      refine mg_get hx hb hts hin hown hK hN 8 (by decide) l2 rfl (v := .ref (ad 8)) rfl dX7_takes_24 ?_
      refine lv_iload_n hx hb dX7_takes_27 rfl (lv_at hl 2 rfl) ?_
      refine lv_aload_n hx hb dX7_takes_28 rfl (lv_at hl 0 rfl) ?_
      refine mg_get hx hb hts hin hown hK hN 5 (by decide) l3 rfl (v := .ref (ad 5)) rfl dX7_takes_29 ?_
      refine lv_iconst (v := (4 : Int32)) hx hb dX7_takes_32 (by decide) ?_
      refine lv_iload_n hx hb dX7_takes_33 rfl (lv_at hl 1 rfl) ?_
      refine lv_imul hx hb dX7_takes_34 ?_
      refine lv_iload_n hx hb dX7_takes_35 rfl (lv_at hl 2 rfl) ?_
      refine lv_iadd hx hb dX7_takes_36 ?_
      obtain ⟨g4, h⟩ := gd_ok h
      refine mg_ild hx hb hK hN 5 rfl (if_neg (by decide)) (gin_ok g4) dX7_takes_37 ?_
      obtain ⟨g5, h⟩ := gd_ok h
      obtain ⟨M6, eM6⟩ : ∃ y : MT, y = (va_up M3 8 (upd (M3 8) (Int32.toNatClampNeg x2) (M3 5 (Int32.toNatClampNeg (((4 : Int32) * x1) + x2))))) := ⟨_, rfl⟩
      have h := bnd_ok h eM6
      refine mg_ist hx hb hI hK hN hS 8 rfl (if_neg (by decide)) (gin_ok g5) dX7_takes_38 eM6 (fun H locs hN hS => ?_)
      refine lv_aload_n hx hb dX7_takes_39 rfl (lv_at hl 0 rfl) ?_
      refine mg_get hx hb hts hin hown hK hN 9 (by decide) l4 rfl (v := .ref (ad 9)) rfl dX7_takes_40 ?_
      refine lv_iload_n hx hb dX7_takes_43 rfl (lv_at hl 2 rfl) ?_
      refine lv_aload_n hx hb dX7_takes_44 rfl (lv_at hl 0 rfl) ?_
      refine mg_get hx hb hts hin hown hK hN 6 (by decide) l5 rfl (v := .ref (ad 6)) rfl dX7_takes_45 ?_
      refine lv_iconst (v := (4 : Int32)) hx hb dX7_takes_48 (by decide) ?_
      refine lv_iload_n hx hb dX7_takes_49 rfl (lv_at hl 1 rfl) ?_
      refine lv_imul hx hb dX7_takes_50 ?_
      refine lv_iload_n hx hb dX7_takes_51 rfl (lv_at hl 2 rfl) ?_
      refine lv_iadd hx hb dX7_takes_52 ?_
      obtain ⟨g7, h⟩ := gd_ok h
      refine mg_zld hx hb hK hN 6 rfl (if_pos (by decide)) (gin_ok g7) dX7_takes_53 ?_
      obtain ⟨g8, h⟩ := gd_ok h
      obtain ⟨M9, eM9⟩ : ∃ y : MT, y = (va_up M6 9 (upd (M6 9) (Int32.toNatClampNeg x2) (vp_nar .boolean (M6 6 (Int32.toNatClampNeg (((4 : Int32) * x1) + x2)))))) := ⟨_, rfl⟩
      have h := bnd_ok h eM9
      refine mg_zst hx hb hI hK hN hS 9 rfl (if_pos (by decide)) (gin_ok g8) dX7_takes_54 eM9 (fun H locs hN hS => ?_)
      obtain ⟨v10, ev10⟩ : ∃ y : Int32, y = (x2 + (1 : Int32)) := ⟨_, rfl⟩
      have h := bnd_ok h ev10
      refine lv_iinc (v := v10) (lv' := [(2, .int v10), (0, .ref (ad 0)), (1, .int x1)]) hx hb dX7_takes_55 hl (k := 2) rfl (by rw [ev10]; rfl) (by decide) rfl (fun ls hl => ?_)
      refine lv_goto (tgt := 2) hx hb dX7_takes_58 (by decide) ?_
      exact hk2 x1 v10 M9 h H locs ls hN hS (lv_sub hl [1, 2, 0] rfl)
  unfold fX7_takes at h
  refine lv_iconst (v := (0 : Int32)) hx hb dX7_takes_0 (by decide) ?_
  refine lv_istore_n (lv' := [(2, .int (0 : Int32)), (0, .ref (ad 0)), (1, .int a1)]) hx hb dX7_takes_1 rfl hl (by decide) rfl (fun ls hl => ?_)
  exact w2  a1 (0 : Int32) M h H locs ls hN hS (lv_sub hl [1, 2, 0] rfl)
def fX7_isTuned_49 (M : MT) (k4 : Int32 → Int32 → Option (Int32)) (x2 : Int32) (t0 : Int32) : Option (Int32) := bnd (x2 + (1 : Int32)) (fun v6 => k4 t0 v6)
def fX7_isTuned_48 (M : MT) (k4 : Int32 → Int32 → Option (Int32)) (x2 : Int32) : Option (Int32) := fX7_isTuned_49 M k4 x2 (0 : Int32)
def fX7_isTuned_56 (M : MT) (x1 : Int32) : Option (Int32) := gd (gbo x1) (some x1)
def fX7_isTuned_4 (M : MT) (k4 : Int32 → Int32 → Option (Int32)) (x1 : Int32) (x2 : Int32) : Option (Int32) := (if (4 : Int32) ≤ x2 then fX7_isTuned_56 M x1 else (if x1 = 0 then fX7_isTuned_48 M k4 x2 else gd (gin x2 4) ((if (6 : Int32) < (M 8 (Int32.toNatClampNeg x2)) then fX7_isTuned_48 M k4 x2 else gd (gin x2 4) (cl1 (fX7_isIn ((M 7 (Int32.toNatClampNeg x2)) - (M 2 0)) (-5 : Int32) (5 : Int32)) (fun v3 => (if v3 = 0 then fX7_isTuned_48 M k4 x2 else fX7_isTuned_49 M k4 x2 (1 : Int32))))))))
def fX7_isTuned (M : MT) : Option (Int32) := lf2 (fX7_isTuned_4 M) 100 (1 : Int32) (0 : Int32)
def rmX7_isTuned : Room := { frames := 2, cells := 0, slots := 0, locals := 36 }
set_option maxHeartbeats 4000000 in
set_option maxRecDepth 100000 in
theorem mX7_isTuned (l : Launch) (D : va_G) (ad : Nat → Nat) (cI cZ : ClassId) (M : MT) (r : Int32) (h : fX7_isTuned M = some r) : Met l yX7_isTuned wsX7_isTuned rmX7_isTuned (va_Pc [.ref (ad 0)] (mP D ad cI cZ M)) (mQi D ad cI cZ r M) 0 0 (mA ad) := by
  refine Met.ofW (cc := cX7_isTuned) (maxL := 3) (ret := some .boolean) (by decide) rfl ?_
  intro p e s m args below meth c s₁ B hml hv
  obtain ⟨rfl, hI, hN, hK⟩ := hv
  have hx := B.exec
  have hb := B.bytes
  have hr := B.returns
  have hts := atoms_spec (ws := wsX7_isTuned) B.pre
  have hown : s.vm.findClass RX7 = some m.cls := findClass_of_methodNamed B.named
  have hlocks := B.notSynchronized
  have hin : ∀ w ∈ wsX70, w ∈ wsX7_isTuned := fun w h => List.mem_cons_of_mem _ (List.mem_append_right _ h)
  have l0 := hts (.fieldLink RX7 23 "PanyardModel" "many" "[I") (List.mem_of_getElem? (i := 1) rfl)
  have l1 := hts (.fieldLink RX7 20 "PanyardModel" "tried" "[I") (List.mem_of_getElem? (i := 2) rfl)
  have l2 := hts (.fieldLink RX7 107 "PanyardModel" "heat" "I") (List.mem_of_getElem? (i := 3) rfl)
  have hS : va_S (mA ad) s.heap s.heap [] := va_S.rf
  have hl := lv_entry ([.ref (ad 0)]) (n := 3) (Nat.le_of_ble_eq_true rfl)
  rw [lg_entry_eq]
  generalize (lg_sl ([.ref (ad 0)]) ++ List.replicate (3 - (lg_sl ([.ref (ad 0)])).length) Slot.unset).toArray = ls at hl ⊢
  have hl : lv_has ls 3 [(0, .ref (ad 0))] := hl
  have w49 : ∀ (k4 : Int32 → Int32 → Option (Int32)) (hk4 : (∀ (x1 : Int32) (x2 : Int32), k4 x1 x2 = some r → mG p l e (headSpec wsX7_isTuned rmX7_isTuned).room s m args below meth c (MQ below (mQi D ad cI cZ r M) args s 0 0 (mA ad)) D ad cI cZ 3 M 4 [(0, .ref (ad 0)), (1, .int x1), (2, .int x2)] [])) (x2 : Int32) (t0 : Int32), fX7_isTuned_49 M k4 x2 t0 = some r → mG p l e (headSpec wsX7_isTuned rmX7_isTuned).room s m args below meth c (MQ below (mQi D ad cI cZ r M) args s 0 0 (mA ad)) D ad cI cZ 3 M 49 [(0, .ref (ad 0)), (2, .int x2)] [.int t0] := by
    intro k4 hk4 x2 t0 h H locs ls hN hS hl
    unfold fX7_isTuned_49 at h
    refine lv_istore_n (lv' := [(1, .int t0), (0, .ref (ad 0)), (2, .int x2)]) hx hb dX7_isTuned_49 rfl hl (by decide) rfl (fun ls hl => ?_)
    obtain ⟨v6, ev6⟩ : ∃ y : Int32, y = (x2 + (1 : Int32)) := ⟨_, rfl⟩
    have h := bnd_ok h ev6
    refine lv_iinc (v := v6) (lv' := [(2, .int v6), (1, .int t0), (0, .ref (ad 0))]) hx hb dX7_isTuned_50 hl (k := 2) rfl (by rw [ev6]; rfl) (by decide) rfl (fun ls hl => ?_)
    refine lv_goto (tgt := 4) hx hb dX7_isTuned_53 (by decide) ?_
    exact hk4 t0 v6 h H locs ls hN hS (lv_sub hl [2, 1, 0] rfl)
  have w48 : ∀ (k4 : Int32 → Int32 → Option (Int32)) (hk4 : (∀ (x1 : Int32) (x2 : Int32), k4 x1 x2 = some r → mG p l e (headSpec wsX7_isTuned rmX7_isTuned).room s m args below meth c (MQ below (mQi D ad cI cZ r M) args s 0 0 (mA ad)) D ad cI cZ 3 M 4 [(0, .ref (ad 0)), (1, .int x1), (2, .int x2)] [])) (x2 : Int32), fX7_isTuned_48 M k4 x2 = some r → mG p l e (headSpec wsX7_isTuned rmX7_isTuned).room s m args below meth c (MQ below (mQi D ad cI cZ r M) args s 0 0 (mA ad)) D ad cI cZ 3 M 48 [(0, .ref (ad 0)), (2, .int x2)] [] := by
    intro k4 hk4 x2 h H locs ls hN hS hl
    unfold fX7_isTuned_48 at h
    refine lv_iconst (v := (0 : Int32)) hx hb dX7_isTuned_48 (by decide) ?_
    exact w49 k4 hk4 x2 (0 : Int32) h H locs ls hN hS (lv_sub hl [0, 1] rfl)
  have w56 : ∀ (x1 : Int32), fX7_isTuned_56 M x1 = some r → mG p l e (headSpec wsX7_isTuned rmX7_isTuned).room s m args below meth c (MQ below (mQi D ad cI cZ r M) args s 0 0 (mA ad)) D ad cI cZ 3 M 56 [(0, .ref (ad 0)), (1, .int x1)] [] := by
    intro  x1 h H locs ls hN hS hl
    unfold fX7_isTuned_56 at h
    refine lv_iload_n hx hb dX7_isTuned_56 rfl (lv_at hl 1 rfl) ?_
    obtain ⟨g5, h⟩ := gd_ok h
    exact W.zret hx hb hr (gbo_ok g5) (mg_endr h hI hK hN hS) hS.2.2 dX7_isTuned_57
  have w4 : ∀ (x1 : Int32) (x2 : Int32), lf2 (fX7_isTuned_4 M) 100 x1 x2 = some r → mG p l e (headSpec wsX7_isTuned rmX7_isTuned).room s m args below meth c (MQ below (mQi D ad cI cZ r M) args s 0 0 (mA ad)) D ad cI cZ 3 M 4 [(0, .ref (ad 0)), (1, .int x1), (2, .int x2)] [] := by
    skip
    refine lf2_ok (P := (fun x1 x2 => mG p l e (headSpec wsX7_isTuned rmX7_isTuned).room s m args below meth c (MQ below (mQi D ad cI cZ r M) args s 0 0 (mA ad)) D ad cI cZ 3 M 4 [(0, .ref (ad 0)), (1, .int x1), (2, .int x2)] [])) (fun k4 hk4 x1 x2 h H locs ls hN hS hl => ?_) 100
    unfold fX7_isTuned_4 at h
    refine lv_iload_n hx hb dX7_isTuned_4 rfl (lv_at hl 2 rfl) ?_
    refine lv_iconst (v := (4 : Int32)) hx hb dX7_isTuned_5 (by decide) ?_
    refine lv_icmp_ge (tgt := 56) hx hb dX7_isTuned_6 (by decide) (fun hc => ?_) (fun hc => ?_)
    · have h := ite_t h hc
      exact w56  x1 h H locs ls hN hS (lv_sub hl [0, 1] rfl)
    · have h := ite_f h hc
      refine lv_iload_n hx hb dX7_isTuned_9 rfl (lv_at hl 1 rfl) ?_
      refine lv_if_eq (tgt := 48) hx hb dX7_isTuned_10 (by decide) (fun hc => ?_) (fun hc => ?_)
      · have h := ite_t h hc
        exact w48 k4 hk4 x2 h H locs ls hN hS (lv_sub hl [0, 2] rfl)
      · have h := ite_f h hc
        refine lv_aload_n hx hb dX7_isTuned_13 rfl (lv_at hl 0 rfl) ?_
        refine mg_get hx hb hts hin hown hK hN 8 (by decide) l0 rfl (v := .ref (ad 8)) rfl dX7_isTuned_14 ?_
        refine lv_iload_n hx hb dX7_isTuned_17 rfl (lv_at hl 2 rfl) ?_
        obtain ⟨g1, h⟩ := gd_ok h
        refine mg_ild hx hb hK hN 8 rfl (if_neg (by decide)) (gin_ok g1) dX7_isTuned_18 ?_
        refine lv_bipush (v := (6 : Int32)) hx hb dX7_isTuned_19 (by decide) ?_
        refine lv_icmp_gt (tgt := 48) hx hb dX7_isTuned_21 (by decide) (fun hc => ?_) (fun hc => ?_)
        · have h := ite_t h hc
          exact w48 k4 hk4 x2 h H locs ls hN hS (lv_sub hl [0, 2] rfl)
        · have h := ite_f h hc
          refine lv_aload_n hx hb dX7_isTuned_24 rfl (lv_at hl 0 rfl) ?_
          refine mg_get hx hb hts hin hown hK hN 7 (by decide) l1 rfl (v := .ref (ad 7)) rfl dX7_isTuned_25 ?_
          refine lv_iload_n hx hb dX7_isTuned_28 rfl (lv_at hl 2 rfl) ?_
          obtain ⟨g2, h⟩ := gd_ok h
          refine mg_ild hx hb hK hN 7 rfl (if_neg (by decide)) (gin_ok g2) dX7_isTuned_29 ?_
          refine lv_aload_n hx hb dX7_isTuned_30 rfl (lv_at hl 0 rfl) ?_
          refine mg_get hx hb hts hin hown hK hN 2 (by decide) l2 rfl (v := .int (M 2 0)) rfl dX7_isTuned_31 ?_
          refine lv_isub hx hb dX7_isTuned_34 ?_
          refine lv_bipush (v := (-5 : Int32)) hx hb dX7_isTuned_35 (by decide) ?_
          refine lv_iconst (v := (5 : Int32)) hx hb dX7_isTuned_37 (by decide) ?_
          obtain ⟨v3, c4, h⟩ := cl1_ok h
          refine mg_calli (va_runS (As := [.int ((M 7 (Int32.toNatClampNeg x2)) - (M 2 0)), .int (-5 : Int32), .int (5 : Int32)]) (rest := []) ⟨hx, hb, hml, hown, hts⟩ (mX7_isIn l D ad cI cZ M ((M 7 (Int32.toNatClampNeg x2)) - (M 2 0)) (-5 : Int32) (5 : Int32) v3 c4) (va_cwS 3 hts gX7_isTuned_X7_isIn rfl rfl rfl (by decide +kernel) ⟨Nat.le_of_ble_eq_true rfl, Nat.le_of_ble_eq_true rfl⟩) (mg_preS hI hK hN) rfl rfl hl.1 rfl (lv_room (Nat.le_of_ble_eq_true rfl)) dX7_isTuned_38 ⟨Nat.zero_le _, Nat.zero_le _⟩) hS (fun H locs hN hS => ?_)
          refine lv_if_eq (tgt := 48) hx hb dX7_isTuned_41 (by decide) (fun hc => ?_) (fun hc => ?_)
          · have h := ite_t h hc
            exact w48 k4 hk4 x2 h H locs ls hN hS (lv_sub hl [0, 2] rfl)
          · have h := ite_f h hc
            refine lv_iconst (v := (1 : Int32)) hx hb dX7_isTuned_44 (by decide) ?_
            refine lv_goto (tgt := 49) hx hb dX7_isTuned_45 (by decide) ?_
            exact w49 k4 hk4 x2 (1 : Int32) h H locs ls hN hS (lv_sub hl [0, 2] rfl)
  unfold fX7_isTuned at h
  refine lv_iconst (v := (1 : Int32)) hx hb dX7_isTuned_0 (by decide) ?_
  refine lv_istore_n (lv' := [(1, .int (1 : Int32)), (0, .ref (ad 0))]) hx hb dX7_isTuned_1 rfl hl (by decide) rfl (fun ls hl => ?_)
  refine lv_iconst (v := (0 : Int32)) hx hb dX7_isTuned_2 (by decide) ?_
  refine lv_istore_n (lv' := [(2, .int (0 : Int32)), (1, .int (1 : Int32)), (0, .ref (ad 0))]) hx hb dX7_isTuned_3 rfl hl (by decide) rfl (fun ls hl => ?_)
  exact w4  (1 : Int32) (0 : Int32) h H locs ls hN hS (lv_sub hl [2, 1, 0] rfl)
