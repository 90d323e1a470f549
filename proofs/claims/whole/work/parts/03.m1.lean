def fX7_player_28 (x1 : Int32) (t0 : Int32) (M : MT) : Option (Int32 × MT) := cl2 (fX7_holds t0 M) (fun v3 M4 => (if v3 = 0 then some ((0 : Int32), M4) else gd (gin (M4 10 0) 16) (bnd (va_up M4 11 (upd (M4 11) (Int32.toNatClampNeg (M4 10 0)) x1)) (fun M7 => gd (gin (M7 10 0) 16) (bnd (va_up M7 12 (upd (M7 12) (Int32.toNatClampNeg (M7 10 0)) (-1 : Int32))) (fun M9 => gd (gin (M9 10 0) 16) (bnd (va_up M9 13 (upd (M9 13) (Int32.toNatClampNeg (M9 10 0)) (-1 : Int32))) (fun M11 => gd (gin (M11 10 0) 16) (bnd (va_up M11 14 (upd (M11 14) (Int32.toNatClampNeg (M11 10 0)) (-1 : Int32))) (fun M13 => bnd (va_up M13 10 (fun _ => ((M13 10 0) + (1 : Int32)))) (fun M14 => some (((M14 10 0) - (1 : Int32)), M14))))))))))))
def fX7_player (a1 : Int32) (M : MT) : Option (Int32 × MT) := cl1 (fX7_isIn a1 (0 : Int32) (1 : Int32)) (fun v1 => (if v1 = 0 then fX7_player_28 a1 (1 : Int32) M else (if (M 10 0) = (16 : Int32) then fX7_player_28 a1 (2 : Int32) M else fX7_player_28 a1 (0 : Int32) M)))
def rmX7_player : Room := { frames := 2, cells := 0, slots := 0, locals := 36 }
set_option maxHeartbeats 4000000 in
set_option maxRecDepth 100000 in
theorem mX7_player (l : Launch) (D : va_G) (ad : Nat → Nat) (cI cZ : ClassId) (M : MT) (a1 : Int32) (r : Int32) (Mz : MT) (h : fX7_player a1 M = some (r, Mz)) : Met l yX7_player wsX7_player rmX7_player (va_Pc [.ref (ad 0), .int a1] (mP D ad cI cZ M)) (mQi D ad cI cZ r Mz) 0 0 (mA ad) := by
  refine Met.ofW (cc := cX7_player) (maxL := 2) (ret := some .int) (by decide) rfl ?_
  intro p e s m args below meth c s₁ B hml hv
  obtain ⟨rfl, hI, hN, hK⟩ := hv
  have hx := B.exec
  have hb := B.bytes
  have hr := B.returns
  have hts := atoms_spec (ws := wsX7_player) B.pre
  have hown : s.vm.findClass RX7 = some m.cls := findClass_of_methodNamed B.named
  have hlocks := B.notSynchronized
  have hin : ∀ w ∈ wsX70, w ∈ wsX7_player := fun w h => List.mem_cons_of_mem _ (List.mem_append_right _ h)
  have l0 := hts (.fieldLink RX7 98 "PanyardModel" "players" "I") (List.mem_of_getElem? (i := 1) rfl)
  have l1 := hts (.fieldLink RX7 29 "PanyardModel" "layout" "[I") (List.mem_of_getElem? (i := 2) rfl)
  have l2 := hts (.fieldLink RX7 32 "PanyardModel" "pan" "[I") (List.mem_of_getElem? (i := 3) rfl)
  have l3 := hts (.fieldLink RX7 35 "PanyardModel" "left" "[I") (List.mem_of_getElem? (i := 4) rfl)
  have l4 := hts (.fieldLink RX7 38 "PanyardModel" "leftOn" "[I") (List.mem_of_getElem? (i := 5) rfl)
  have hS : va_S (mA ad) s.heap s.heap [] := va_S.rf
  have hl := lv_entry ([.ref (ad 0), .int a1]) (n := 2) (Nat.le_of_ble_eq_true rfl)
  rw [lg_entry_eq]
  generalize (lg_sl ([.ref (ad 0), .int a1]) ++ List.replicate (2 - (lg_sl ([.ref (ad 0), .int a1])).length) Slot.unset).toArray = ls at hl ⊢
  have hl : lv_has ls 2 [(0, .ref (ad 0)), (1, .int a1)] := hl
  have w28 : ∀ (x1 : Int32) (t0 : Int32) (M : MT), fX7_player_28  x1 t0 M = some (r, Mz) → mG p l e (headSpec wsX7_player rmX7_player).room s m (([.ref (ad 0), .int a1] : List Value).toArray) below meth c (MQ below (mQi D ad cI cZ r Mz) (([.ref (ad 0), .int a1] : List Value).toArray) s 0 0 (mA ad)) D ad cI cZ 2 M 28 [(0, .ref (ad 0)), (1, .int x1)] [.int t0, .ref (ad 0)] := by
    intro  x1 t0 M h H locs ls hN hS hl
    unfold fX7_player_28 at h
    obtain ⟨v3, M4, c5, h⟩ := cl2_ok h
    refine mg_calli (va_runV (As := [.int t0]) (rest := []) ⟨hx, hb, hml, hown, hts⟩ (mX7_holds l D ad cI cZ M t0 v3 M4 c5) (cwV 1 hts gX7_player_X7_holds rfl rfl rfl (by decide +kernel) ⟨Nat.le_of_ble_eq_true rfl, Nat.le_of_ble_eq_true rfl⟩) (mg_preV hI hK hN) rfl rfl hl.1 rfl (lv_room (Nat.le_of_ble_eq_true rfl)) dX7_player_28 ⟨Nat.zero_le _, Nat.zero_le _⟩) hS (fun H locs hN hS => ?_)
    refine lv_if_ne (tgt := 36) hx hb dX7_player_31 (by decide) (fun hc => ?_) (fun hc => ?_)
    · have h := ite_f h hc
      refine lv_aload_n hx hb dX7_player_36 rfl (lv_at hl 0 rfl) ?_
      refine mg_get hx hb hts hin hown hK hN 11 (by decide) l1 rfl (v := .ref (ad 11)) rfl dX7_player_37 ?_
      refine lv_aload_n hx hb dX7_player_40 rfl (lv_at hl 0 rfl) ?_
      refine mg_get hx hb hts hin hown hK hN 10 (by decide) l0 rfl (v := .int (M4 10 0)) rfl dX7_player_41 ?_
      refine lv_iload_n hx hb dX7_player_44 rfl (lv_at hl 1 rfl) ?_
      obtain ⟨g6, h⟩ := gd_ok h
      obtain ⟨M7, eM7⟩ : ∃ y : MT, y = (va_up M4 11 (upd (M4 11) (Int32.toNatClampNeg (M4 10 0)) x1)) := ⟨_, rfl⟩
      have h := bnd_ok h eM7
      refine mg_ist hx hb hI hK hN hS 11 rfl (if_neg (by decide)) (gin_ok g6) dX7_player_45 eM7 (fun H locs hN hS => ?_)
      refine lv_aload_n hx hb dX7_player_46 rfl (lv_at hl 0 rfl) ?_
      refine mg_get hx hb hts hin hown hK hN 12 (by decide) l2 rfl (v := .ref (ad 12)) rfl dX7_player_47 ?_
      refine lv_aload_n hx hb dX7_player_50 rfl (lv_at hl 0 rfl) ?_
      refine mg_get hx hb hts hin hown hK hN 10 (by decide) l0 rfl (v := .int (M7 10 0)) rfl dX7_player_51 ?_
      refine lv_iconst (v := (-1 : Int32)) hx hb dX7_player_54 (by decide) ?_
      obtain ⟨g8, h⟩ := gd_ok h
      obtain ⟨M9, eM9⟩ : ∃ y : MT, y = (va_up M7 12 (upd (M7 12) (Int32.toNatClampNeg (M7 10 0)) (-1 : Int32))) := ⟨_, rfl⟩
      have h := bnd_ok h eM9
      refine mg_ist hx hb hI hK hN hS 12 rfl (if_neg (by decide)) (gin_ok g8) dX7_player_55 eM9 (fun H locs hN hS => ?_)
      refine lv_aload_n hx hb dX7_player_56 rfl (lv_at hl 0 rfl) ?_
      refine mg_get hx hb hts hin hown hK hN 13 (by decide) l3 rfl (v := .ref (ad 13)) rfl dX7_player_57 ?_
      refine lv_aload_n hx hb dX7_player_60 rfl (lv_at hl 0 rfl) ?_
      refine mg_get hx hb hts hin hown hK hN 10 (by decide) l0 rfl (v := .int (M9 10 0)) rfl dX7_player_61 ?_
      refine lv_iconst (v := (-1 : Int32)) hx hb dX7_player_64 (by decide) ?_
      obtain ⟨g10, h⟩ := gd_ok h
      obtain ⟨M11, eM11⟩ : ∃ y : MT, y = (va_up M9 13 (upd (M9 13) (Int32.toNatClampNeg (M9 10 0)) (-1 : Int32))) := ⟨_, rfl⟩
      have h := bnd_ok h eM11
      refine mg_ist hx hb hI hK hN hS 13 rfl (if_neg (by decide)) (gin_ok g10) dX7_player_65 eM11 (fun H locs hN hS => ?_)
      refine lv_aload_n hx hb dX7_player_66 rfl (lv_at hl 0 rfl) ?_
      refine mg_get hx hb hts hin hown hK hN 14 (by decide) l4 rfl (v := .ref (ad 14)) rfl dX7_player_67 ?_
      refine lv_aload_n hx hb dX7_player_70 rfl (lv_at hl 0 rfl) ?_
      refine mg_get hx hb hts hin hown hK hN 10 (by decide) l0 rfl (v := .int (M11 10 0)) rfl dX7_player_71 ?_
      refine lv_iconst (v := (-1 : Int32)) hx hb dX7_player_74 (by decide) ?_
      obtain ⟨g12, h⟩ := gd_ok h
      obtain ⟨M13, eM13⟩ : ∃ y : MT, y = (va_up M11 14 (upd (M11 14) (Int32.toNatClampNeg (M11 10 0)) (-1 : Int32))) := ⟨_, rfl⟩
      have h := bnd_ok h eM13
      refine mg_ist hx hb hI hK hN hS 14 rfl (if_neg (by decide)) (gin_ok g12) dX7_player_75 eM13 (fun H locs hN hS => ?_)
      refine lv_aload_n hx hb dX7_player_76 rfl (lv_at hl 0 rfl) ?_
      refine lv_dup hx hb dX7_player_77 rfl ?_
      refine mg_get hx hb hts hin hown hK hN 10 (by decide) l0 rfl (v := .int (M13 10 0)) rfl dX7_player_78 ?_
      refine lv_iconst (v := (1 : Int32)) hx hb dX7_player_81 (by decide) ?_
      refine lv_iadd hx hb dX7_player_82 ?_
      obtain ⟨M14, eM14⟩ : ∃ y : MT, y = (va_up M13 10 (fun _ => ((M13 10 0) + (1 : Int32)))) := ⟨_, rfl⟩
      have h := bnd_ok h eM14
      refine mg_put hx hb hts hin hown hI hK hN hS 10 (by decide) rfl l0 rfl rfl (by decide +kernel) rfl dX7_player_83 eM14 (fun H locs hN hS => ?_)
      refine lv_aload_n hx hb dX7_player_86 rfl (lv_at hl 0 rfl) ?_
      refine mg_get hx hb hts hin hown hK hN 10 (by decide) l0 rfl (v := .int (M14 10 0)) rfl dX7_player_87 ?_
      refine lv_iconst (v := (1 : Int32)) hx hb dX7_player_90 (by decide) ?_
      refine lv_isub hx hb dX7_player_91 ?_
      exact W.iret hx hb hr (mg_endi h hI hK hN hS) hS.2.2 dX7_player_92
    · have h := ite_t h hc
      refine lv_iconst (v := (0 : Int32)) hx hb dX7_player_34 (by decide) ?_
      exact W.iret hx hb hr (mg_endi h hI hK hN hS) hS.2.2 dX7_player_35
  unfold fX7_player at h
  refine lv_aload_n hx hb dX7_player_0 rfl (lv_at hl 0 rfl) ?_
  refine lv_iload_n hx hb dX7_player_1 rfl (lv_at hl 1 rfl) ?_
  refine lv_iconst (v := (0 : Int32)) hx hb dX7_player_2 (by decide) ?_
  refine lv_iconst (v := (1 : Int32)) hx hb dX7_player_3 (by decide) ?_
  obtain ⟨v1, c2, h⟩ := cl1_ok h
  refine mg_calli (va_runS (As := [.int a1, .int (0 : Int32), .int (1 : Int32)]) (rest := [.ref (ad 0)]) ⟨hx, hb, hml, hown, hts⟩ (mX7_isIn l D ad cI cZ M a1 (0 : Int32) (1 : Int32) v1 c2) (va_cwS 3 hts gX7_player_X7_isIn rfl rfl rfl (by decide +kernel) ⟨Nat.le_of_ble_eq_true rfl, Nat.le_of_ble_eq_true rfl⟩) (mg_preS hI hK hN) rfl rfl hl.1 rfl (lv_room (Nat.le_of_ble_eq_true rfl)) dX7_player_4 ⟨Nat.zero_le _, Nat.zero_le _⟩) hS (fun H locs hN hS => ?_)
  refine lv_if_ne (tgt := 14) hx hb dX7_player_7 (by decide) (fun hc => ?_) (fun hc => ?_)
  · have h := ite_f h hc
    refine lv_aload_n hx hb dX7_player_14 rfl (lv_at hl 0 rfl) ?_
    refine mg_get hx hb hts hin hown hK hN 10 (by decide) l0 rfl (v := .int (M 10 0)) rfl dX7_player_15 ?_
    refine lv_bipush (v := (16 : Int32)) hx hb dX7_player_18 (by decide) ?_
    refine lv_icmp_ne (tgt := 27) hx hb dX7_player_20 (by decide) (fun hc => ?_) (fun hc => ?_)
    · have h := ite_f h hc
      refine lv_iconst (v := (0 : Int32)) hx hb dX7_player_27 (by decide) ?_
      exact w28  a1 (0 : Int32) M h _ _ _ hN hS (lv_sub hl [0, 1] rfl)
    · have h := ite_t h hc
      refine lv_iconst (v := (2 : Int32)) hx hb dX7_player_23 (by decide) ?_
      refine lv_goto (tgt := 28) hx hb dX7_player_24 (by decide) ?_
      exact w28  a1 (2 : Int32) M h _ _ _ hN hS (lv_sub hl [0, 1] rfl)
  · have h := ite_t h hc
    refine lv_iconst (v := (1 : Int32)) hx hb dX7_player_10 (by decide) ?_
    refine lv_goto (tgt := 28) hx hb dX7_player_11 (by decide) ?_
    exact w28  a1 (1 : Int32) M h _ _ _ hN hS (lv_sub hl [0, 1] rfl)
def fX7_seatOf_38 (M : MT) (k5 : Int32 → Int32 → Int32 → Int32 → Option (Int32)) (x1 : Int32) (x2 : Int32) (x4 : Int32) (t0 : Int32) : Option (Int32) := bnd (x4 + (1 : Int32)) (fun v3 => k5 x1 x2 t0 v3)
def fX7_seatOf_45 (M : MT) (x3 : Int32) : Option (Int32) := some x3
def fX7_seatOf_5 (M : MT) (k5 : Int32 → Int32 → Int32 → Int32 → Option (Int32)) (x1 : Int32) (x2 : Int32) (x3 : Int32) (x4 : Int32) : Option (Int32) := gd (gin x2 4) ((if (M 15 (Int32.toNatClampNeg x2)) ≤ x4 then fX7_seatOf_45 M x3 else gd (gin (((8 : Int32) * x2) + x4) 32) ((if (M 16 (Int32.toNatClampNeg (((8 : Int32) * x2) + x4))) = x1 then fX7_seatOf_38 M k5 x1 x2 x4 x4 else fX7_seatOf_38 M k5 x1 x2 x4 x3))))
def fX7_seatOf (a1 : Int32) (a2 : Int32) (M : MT) : Option (Int32) := lf4 (fX7_seatOf_5 M) 100 a1 a2 (-1 : Int32) (0 : Int32)
def rmX7_seatOf : Room := { frames := 1, cells := 0, slots := 0, locals := 16 }
set_option maxHeartbeats 4000000 in
set_option maxRecDepth 100000 in
theorem mX7_seatOf (l : Launch) (D : va_G) (ad : Nat → Nat) (cI cZ : ClassId) (M : MT) (a1 : Int32) (a2 : Int32) (r : Int32) (h : fX7_seatOf a1 a2 M = some r) : Met l yX7_seatOf wsX7_seatOf rmX7_seatOf (va_Pc [.ref (ad 0), .int a1, .int a2] (mP D ad cI cZ M)) (mQi D ad cI cZ r M) 0 0 (mA ad) := by
  refine Met.ofW (cc := cX7_seatOf) (maxL := 5) (ret := some .int) (by decide) rfl ?_
  intro p e s m args below meth c s₁ B hml hv
  obtain ⟨rfl, hI, hN, hK⟩ := hv
  have hx := B.exec
  have hb := B.bytes
  have hr := B.returns
  have hts := atoms_spec (ws := wsX7_seatOf) B.pre
  have hown : s.vm.findClass RX7 = some m.cls := findClass_of_methodNamed B.named
  have hlocks := B.notSynchronized
  have hin : ∀ w ∈ wsX70, w ∈ wsX7_seatOf := fun w h => List.mem_cons_of_mem _ (List.mem_append_right _ h)
  have l0 := hts (.fieldLink RX7 41 "PanyardModel" "seats" "[I") (List.mem_of_getElem? (i := 1) rfl)
  have l1 := hts (.fieldLink RX7 44 "PanyardModel" "seat" "[I") (List.mem_of_getElem? (i := 2) rfl)
  have hS : va_S (mA ad) s.heap s.heap [] := va_S.rf
  have hl := lv_entry ([.ref (ad 0), .int a1, .int a2]) (n := 5) (Nat.le_of_ble_eq_true rfl)
  rw [lg_entry_eq]
  generalize (lg_sl ([.ref (ad 0), .int a1, .int a2]) ++ List.replicate (5 - (lg_sl ([.ref (ad 0), .int a1, .int a2])).length) Slot.unset).toArray = ls at hl ⊢
  have hl : lv_has ls 5 [(0, .ref (ad 0)), (1, .int a1), (2, .int a2)] := hl
  have w38 : ∀ (k5 : Int32 → Int32 → Int32 → Int32 → Option (Int32)) (hk5 : (∀ (x1 : Int32) (x2 : Int32) (x3 : Int32) (x4 : Int32), k5 x1 x2 x3 x4 = some r → mG p l e (headSpec wsX7_seatOf rmX7_seatOf).room s m (([.ref (ad 0), .int a1, .int a2] : List Value).toArray) below meth c (MQ below (mQi D ad cI cZ r M) (([.ref (ad 0), .int a1, .int a2] : List Value).toArray) s 0 0 (mA ad)) D ad cI cZ 5 M 5 [(0, .ref (ad 0)), (1, .int x1), (2, .int x2), (3, .int x3), (4, .int x4)] [])) (x1 : Int32) (x2 : Int32) (x4 : Int32) (t0 : Int32), fX7_seatOf_38 M k5 x1 x2 x4 t0 = some r → mG p l e (headSpec wsX7_seatOf rmX7_seatOf).room s m (([.ref (ad 0), .int a1, .int a2] : List Value).toArray) below meth c (MQ below (mQi D ad cI cZ r M) (([.ref (ad 0), .int a1, .int a2] : List Value).toArray) s 0 0 (mA ad)) D ad cI cZ 5 M 38 [(0, .ref (ad 0)), (1, .int x1), (2, .int x2), (4, .int x4)] [.int t0] := by
    intro k5 hk5 x1 x2 x4 t0 h H locs ls hN hS hl
    unfold fX7_seatOf_38 at h
    refine lv_istore_n (lv' := [(3, .int t0), (0, .ref (ad 0)), (1, .int x1), (2, .int x2), (4, .int x4)]) hx hb dX7_seatOf_38 rfl hl (by decide) rfl (fun ls hl => ?_)
    obtain ⟨v3, ev3⟩ : ∃ y : Int32, y = (x4 + (1 : Int32)) := ⟨_, rfl⟩
    have h := bnd_ok h ev3
    refine lv_iinc (v := v3) (lv' := [(4, .int v3), (3, .int t0), (0, .ref (ad 0)), (1, .int x1), (2, .int x2)]) hx hb dX7_seatOf_39 hl (k := 4) rfl (by rw [ev3]; rfl) (by decide) rfl (fun ls hl => ?_)
    refine lv_goto (tgt := 5) hx hb dX7_seatOf_42 (by decide) ?_
    exact hk5 x1 x2 t0 v3 h _ _ _ hN hS (lv_sub hl [2, 3, 4, 1, 0] rfl)
  have w45 : ∀ (x3 : Int32), fX7_seatOf_45 M x3 = some r → mG p l e (headSpec wsX7_seatOf rmX7_seatOf).room s m (([.ref (ad 0), .int a1, .int a2] : List Value).toArray) below meth c (MQ below (mQi D ad cI cZ r M) (([.ref (ad 0), .int a1, .int a2] : List Value).toArray) s 0 0 (mA ad)) D ad cI cZ 5 M 45 [(0, .ref (ad 0)), (3, .int x3)] [] := by
    intro  x3 h H locs ls hN hS hl
    unfold fX7_seatOf_45 at h
    refine lv_iload_n hx hb dX7_seatOf_45 rfl (lv_at hl 1 rfl) ?_
    exact W.iret hx hb hr (mg_endr h hI hK hN hS) hS.2.2 dX7_seatOf_46
  have w5 : ∀ (x1 : Int32) (x2 : Int32) (x3 : Int32) (x4 : Int32), lf4 (fX7_seatOf_5 M) 100 x1 x2 x3 x4 = some r → mG p l e (headSpec wsX7_seatOf rmX7_seatOf).room s m (([.ref (ad 0), .int a1, .int a2] : List Value).toArray) below meth c (MQ below (mQi D ad cI cZ r M) (([.ref (ad 0), .int a1, .int a2] : List Value).toArray) s 0 0 (mA ad)) D ad cI cZ 5 M 5 [(0, .ref (ad 0)), (1, .int x1), (2, .int x2), (3, .int x3), (4, .int x4)] [] := by
    skip
    refine lf4_ok (P := (fun x1 x2 x3 x4 => mG p l e (headSpec wsX7_seatOf rmX7_seatOf).room s m (([.ref (ad 0), .int a1, .int a2] : List Value).toArray) below meth c (MQ below (mQi D ad cI cZ r M) (([.ref (ad 0), .int a1, .int a2] : List Value).toArray) s 0 0 (mA ad)) D ad cI cZ 5 M 5 [(0, .ref (ad 0)), (1, .int x1), (2, .int x2), (3, .int x3), (4, .int x4)] [])) (fun k5 hk5 x1 x2 x3 x4 h H locs ls hN hS hl => ?_) 100
    unfold fX7_seatOf_5 at h
    refine lv_iload hx hb dX7_seatOf_5 (lv_at hl 4 rfl) ?_
    refine lv_aload_n hx hb dX7_seatOf_7 rfl (lv_at hl 0 rfl) ?_
    refine mg_get hx hb hts hin hown hK hN 15 (by decide) l0 rfl (v := .ref (ad 15)) rfl dX7_seatOf_8 ?_
    refine lv_iload_n hx hb dX7_seatOf_11 rfl (lv_at hl 2 rfl) ?_
    obtain ⟨g1, h⟩ := gd_ok h
    refine mg_ild hx hb hK hN 15 rfl (if_neg (by decide)) (gin_ok g1) dX7_seatOf_12 ?_
    refine lv_icmp_ge (tgt := 45) hx hb dX7_seatOf_13 (by decide) (fun hc => ?_) (fun hc => ?_)
    · have h := ite_t h hc
      exact w45  x3 h _ _ _ hN hS (lv_sub hl [0, 3] rfl)
    · have h := ite_f h hc
      refine lv_aload_n hx hb dX7_seatOf_16 rfl (lv_at hl 0 rfl) ?_
      refine mg_get hx hb hts hin hown hK hN 16 (by decide) l1 rfl (v := .ref (ad 16)) rfl dX7_seatOf_17 ?_
      refine lv_bipush (v := (8 : Int32)) hx hb dX7_seatOf_20 (by decide) ?_
      refine lv_iload_n hx hb dX7_seatOf_22 rfl (lv_at hl 2 rfl) ?_
      refine lv_imul hx hb dX7_seatOf_23 ?_
      refine lv_iload hx hb dX7_seatOf_24 (lv_at hl 4 rfl) ?_
      refine lv_iadd hx hb dX7_seatOf_26 ?_
      obtain ⟨g2, h⟩ := gd_ok h
      refine mg_ild hx hb hK hN 16 rfl (if_neg (by decide)) (gin_ok g2) dX7_seatOf_27 ?_
      refine lv_iload_n hx hb dX7_seatOf_28 rfl (lv_at hl 1 rfl) ?_
      refine lv_icmp_ne (tgt := 37) hx hb dX7_seatOf_29 (by decide) (fun hc => ?_) (fun hc => ?_)
      · have h := ite_f h hc
        refine lv_iload_n hx hb dX7_seatOf_37 rfl (lv_at hl 3 rfl) ?_
        exact w38 k5 hk5 x1 x2 x4 x3 h _ _ _ hN hS (lv_sub hl [0, 1, 2, 4] rfl)
      · have h := ite_t h hc
        refine lv_iload hx hb dX7_seatOf_32 (lv_at hl 4 rfl) ?_
        refine lv_goto (tgt := 38) hx hb dX7_seatOf_34 (by decide) ?_
        exact w38 k5 hk5 x1 x2 x4 x4 h _ _ _ hN hS (lv_sub hl [0, 1, 2, 4] rfl)
  unfold fX7_seatOf at h
  refine lv_iconst (v := (-1 : Int32)) hx hb dX7_seatOf_0 (by decide) ?_
  refine lv_istore_n (lv' := [(3, .int (-1 : Int32)), (0, .ref (ad 0)), (1, .int a1), (2, .int a2)]) hx hb dX7_seatOf_1 rfl hl (by decide) rfl (fun ls hl => ?_)
  refine lv_iconst (v := (0 : Int32)) hx hb dX7_seatOf_2 (by decide) ?_
  refine lv_istore (lv' := [(4, .int (0 : Int32)), (3, .int (-1 : Int32)), (0, .ref (ad 0)), (1, .int a1), (2, .int a2)]) hx hb dX7_seatOf_3 hl (by decide) rfl (fun ls hl => ?_)
  exact w5  a1 a2 (-1 : Int32) (0 : Int32) h _ _ _ hN hS (lv_sub hl [2, 3, 4, 1, 0] rfl)
def fX7_bandsOf_25 (M : MT) (k4 : Int32 → Int32 → Int32 → Option (Int32)) (x1 : Int32) (x3 : Int32) (t0 : Int32) (t1 : Int32) : Option (Int32) := bnd (t1 + t0) (fun v3 => bnd (x3 + (1 : Int32)) (fun v4 => k4 x1 v3 v4))
def fX7_bandsOf_33 (M : MT) (x2 : Int32) : Option (Int32) := some x2
def fX7_bandsOf_4 (M : MT) (k4 : Int32 → Int32 → Int32 → Option (Int32)) (x1 : Int32) (x2 : Int32) (x3 : Int32) : Option (Int32) := (if (4 : Int32) ≤ x3 then fX7_bandsOf_33 M x2 else cl1 (fX7_seatOf x1 x3 M) (fun v1 => (if v1 = (-1 : Int32) then fX7_bandsOf_25 M k4 x1 x3 (0 : Int32) x2 else fX7_bandsOf_25 M k4 x1 x3 (1 : Int32) x2)))
def fX7_bandsOf (a1 : Int32) (M : MT) : Option (Int32) := lf3 (fX7_bandsOf_4 M) 100 a1 (0 : Int32) (0 : Int32)
def rmX7_bandsOf : Room := { frames := 2, cells := 0, slots := 0, locals := 40 }
set_option maxHeartbeats 4000000 in
set_option maxRecDepth 100000 in
theorem mX7_bandsOf (l : Launch) (D : va_G) (ad : Nat → Nat) (cI cZ : ClassId) (M : MT) (a1 : Int32) (r : Int32) (h : fX7_bandsOf a1 M = some r) : Met l yX7_bandsOf wsX7_bandsOf rmX7_bandsOf (va_Pc [.ref (ad 0), .int a1] (mP D ad cI cZ M)) (mQi D ad cI cZ r M) 0 0 (mA ad) := by
  refine Met.ofW (cc := cX7_bandsOf) (maxL := 4) (ret := some .int) (by decide) rfl ?_
  intro p e s m args below meth c s₁ B hml hv
  obtain ⟨rfl, hI, hN, hK⟩ := hv
  have hx := B.exec
  have hb := B.bytes
  have hr := B.returns
  have hts := atoms_spec (ws := wsX7_bandsOf) B.pre
  have hown : s.vm.findClass RX7 = some m.cls := findClass_of_methodNamed B.named
  have hlocks := B.notSynchronized
  have hin : ∀ w ∈ wsX70, w ∈ wsX7_bandsOf := fun w h => List.mem_cons_of_mem _ (List.mem_append_right _ h)
  have hS : va_S (mA ad) s.heap s.heap [] := va_S.rf
  have hl := lv_entry ([.ref (ad 0), .int a1]) (n := 4) (Nat.le_of_ble_eq_true rfl)
  rw [lg_entry_eq]
  generalize (lg_sl ([.ref (ad 0), .int a1]) ++ List.replicate (4 - (lg_sl ([.ref (ad 0), .int a1])).length) Slot.unset).toArray = ls at hl ⊢
  have hl : lv_has ls 4 [(0, .ref (ad 0)), (1, .int a1)] := hl
  have w25 : ∀ (k4 : Int32 → Int32 → Int32 → Option (Int32)) (hk4 : (∀ (x1 : Int32) (x2 : Int32) (x3 : Int32), k4 x1 x2 x3 = some r → mG p l e (headSpec wsX7_bandsOf rmX7_bandsOf).room s m (([.ref (ad 0), .int a1] : List Value).toArray) below meth c (MQ below (mQi D ad cI cZ r M) (([.ref (ad 0), .int a1] : List Value).toArray) s 0 0 (mA ad)) D ad cI cZ 4 M 4 [(0, .ref (ad 0)), (1, .int x1), (2, .int x2), (3, .int x3)] [])) (x1 : Int32) (x3 : Int32) (t0 : Int32) (t1 : Int32), fX7_bandsOf_25 M k4 x1 x3 t0 t1 = some r → mG p l e (headSpec wsX7_bandsOf rmX7_bandsOf).room s m (([.ref (ad 0), .int a1] : List Value).toArray) below meth c (MQ below (mQi D ad cI cZ r M) (([.ref (ad 0), .int a1] : List Value).toArray) s 0 0 (mA ad)) D ad cI cZ 4 M 25 [(0, .ref (ad 0)), (1, .int x1), (3, .int x3)] [.int t0, .int t1] := by
    intro k4 hk4 x1 x3 t0 t1 h H locs ls hN hS hl
    unfold fX7_bandsOf_25 at h
    refine lv_iadd hx hb dX7_bandsOf_25 ?_
    refine lv_topi (fun v3 ev3 => ?_)
    have h := bnd_ok h ev3
    refine lv_istore_n (lv' := [(2, .int v3), (0, .ref (ad 0)), (1, .int x1), (3, .int x3)]) hx hb dX7_bandsOf_26 rfl hl (by decide) rfl (fun ls hl => ?_)
    obtain ⟨v4, ev4⟩ : ∃ y : Int32, y = (x3 + (1 : Int32)) := ⟨_, rfl⟩
    have h := bnd_ok h ev4
    refine lv_iinc (v := v4) (lv' := [(3, .int v4), (2, .int v3), (0, .ref (ad 0)), (1, .int x1)]) hx hb dX7_bandsOf_27 hl (k := 3) rfl (by rw [ev4]; rfl) (by decide) rfl (fun ls hl => ?_)
    refine lv_goto (tgt := 4) hx hb dX7_bandsOf_30 (by decide) ?_
    exact hk4 x1 v3 v4 h _ _ _ hN hS (lv_sub hl [2, 3, 1, 0] rfl)
  have w33 : ∀ (x2 : Int32), fX7_bandsOf_33 M x2 = some r → mG p l e (headSpec wsX7_bandsOf rmX7_bandsOf).room s m (([.ref (ad 0), .int a1] : List Value).toArray) below meth c (MQ below (mQi D ad cI cZ r M) (([.ref (ad 0), .int a1] : List Value).toArray) s 0 0 (mA ad)) D ad cI cZ 4 M 33 [(0, .ref (ad 0)), (2, .int x2)] [] := by
    intro  x2 h H locs ls hN hS hl
    unfold fX7_bandsOf_33 at h
    refine lv_iload_n hx hb dX7_bandsOf_33 rfl (lv_at hl 1 rfl) ?_
    exact W.iret hx hb hr (mg_endr h hI hK hN hS) hS.2.2 dX7_bandsOf_34
  have w4 : ∀ (x1 : Int32) (x2 : Int32) (x3 : Int32), lf3 (fX7_bandsOf_4 M) 100 x1 x2 x3 = some r → mG p l e (headSpec wsX7_bandsOf rmX7_bandsOf).room s m (([.ref (ad 0), .int a1] : List Value).toArray) below meth c (MQ below (mQi D ad cI cZ r M) (([.ref (ad 0), .int a1] : List Value).toArray) s 0 0 (mA ad)) D ad cI cZ 4 M 4 [(0, .ref (ad 0)), (1, .int x1), (2, .int x2), (3, .int x3)] [] := by
    skip
    refine lf3_ok (P := (fun x1 x2 x3 => mG p l e (headSpec wsX7_bandsOf rmX7_bandsOf).room s m (([.ref (ad 0), .int a1] : List Value).toArray) below meth c (MQ below (mQi D ad cI cZ r M) (([.ref (ad 0), .int a1] : List Value).toArray) s 0 0 (mA ad)) D ad cI cZ 4 M 4 [(0, .ref (ad 0)), (1, .int x1), (2, .int x2), (3, .int x3)] [])) (fun k4 hk4 x1 x2 x3 h H locs ls hN hS hl => ?_) 100
    unfold fX7_bandsOf_4 at h
    refine lv_iload_n hx hb dX7_bandsOf_4 rfl (lv_at hl 3 rfl) ?_
    refine lv_iconst (v := (4 : Int32)) hx hb dX7_bandsOf_5 (by decide) ?_
    refine lv_icmp_ge (tgt := 33) hx hb dX7_bandsOf_6 (by decide) (fun hc => ?_) (fun hc => ?_)
    · have h := ite_t h hc
      exact w33  x2 h _ _ _ hN hS (lv_sub hl [0, 2] rfl)
    · have h := ite_f h hc
      refine lv_iload_n hx hb dX7_bandsOf_9 rfl (lv_at hl 2 rfl) ?_
      refine lv_aload_n hx hb dX7_bandsOf_10 rfl (lv_at hl 0 rfl) ?_
      refine lv_iload_n hx hb dX7_bandsOf_11 rfl (lv_at hl 1 rfl) ?_
      refine lv_iload_n hx hb dX7_bandsOf_12 rfl (lv_at hl 3 rfl) ?_
      obtain ⟨v1, c2, h⟩ := cl1_ok h
      refine mg_calli (va_runV (As := [.int x1, .int x3]) (rest := [.int x2]) ⟨hx, hb, hml, hown, hts⟩ (mX7_seatOf l D ad cI cZ M x1 x3 v1 c2) (cwV 2 hts gX7_bandsOf_X7_seatOf rfl rfl rfl (by decide +kernel) ⟨Nat.le_of_ble_eq_true rfl, Nat.le_of_ble_eq_true rfl⟩) (mg_preV hI hK hN) rfl rfl hl.1 rfl (lv_room (Nat.le_of_ble_eq_true rfl)) dX7_bandsOf_13 ⟨Nat.zero_le _, Nat.zero_le _⟩) hS (fun H locs hN hS => ?_)
      refine lv_iconst (v := (-1 : Int32)) hx hb dX7_bandsOf_16 (by decide) ?_
      refine lv_icmp_ne (tgt := 24) hx hb dX7_bandsOf_17 (by decide) (fun hc => ?_) (fun hc => ?_)
      · have h := ite_f h hc
        refine lv_iconst (v := (1 : Int32)) hx hb dX7_bandsOf_24 (by decide) ?_
        exact w25 k4 hk4 x1 x3 (1 : Int32) x2 h _ _ _ hN hS (lv_sub hl [0, 1, 3] rfl)
      · have h := ite_t h hc
        refine lv_iconst (v := (0 : Int32)) hx hb dX7_bandsOf_20 (by decide) ?_
        refine lv_goto (tgt := 25) hx hb dX7_bandsOf_21 (by decide) ?_
        exact w25 k4 hk4 x1 x3 (0 : Int32) x2 h _ _ _ hN hS (lv_sub hl [0, 1, 3] rfl)
  unfold fX7_bandsOf at h
  refine lv_iconst (v := (0 : Int32)) hx hb dX7_bandsOf_0 (by decide) ?_
  refine lv_istore_n (lv' := [(2, .int (0 : Int32)), (0, .ref (ad 0)), (1, .int a1)]) hx hb dX7_bandsOf_1 rfl hl (by decide) rfl (fun ls hl => ?_)
  refine lv_iconst (v := (0 : Int32)) hx hb dX7_bandsOf_2 (by decide) ?_
  refine lv_istore_n (lv' := [(3, .int (0 : Int32)), (2, .int (0 : Int32)), (0, .ref (ad 0)), (1, .int a1)]) hx hb dX7_bandsOf_3 rfl hl (by decide) rfl (fun ls hl => ?_)
  exact w4  a1 (0 : Int32) (0 : Int32) h _ _ _ hN hS (lv_sub hl [2, 3, 1, 0] rfl)
def fX7_join_195 (x2 : Int32) (M : MT) : Option (Int32 × MT) := gd (gin x2 4) (gd (gin x2 4) (bnd (va_up M 15 (upd (M 15) (Int32.toNatClampNeg x2) ((M 15 (Int32.toNatClampNeg x2)) + (1 : Int32)))) (fun M25 => gd (gin x2 4) (some (((M25 15 (Int32.toNatClampNeg x2)) - (1 : Int32)), M25)))))
def fX7_join_168 (k168 : Int32 → Int32 → Int32 → MT → Option (Int32 × MT)) (x2 : Int32) (x6 : Int32) (x7 : Int32) (M : MT) : Option (Int32 × MT) := (if (6 : Int32) ≤ x7 then fX7_join_195 x2 M else gd (gin (((6 : Int32) * x6) + x7) 192) (bnd (va_up M 19 (upd (M 19) (Int32.toNatClampNeg (((6 : Int32) * x6) + x7)) (0 : Int32))) (fun M21 => bnd (x7 + (1 : Int32)) (fun v22 => k168 x2 x6 v22 M21))))
def fX7_join_136 (x1 : Int32) (x2 : Int32) (t0 : Int32) (M : MT) : Option (Int32 × MT) := cl2 (fX7_holds t0 M) (fun v13 M14 => (if v13 = 0 then some ((0 : Int32), M14) else gd (gin x2 4) (bnd (((8 : Int32) * x2) + (M14 15 (Int32.toNatClampNeg x2))) (fun v17 => gd (gin v17 32) (bnd (va_up M14 16 (upd (M14 16) (Int32.toNatClampNeg v17) x1)) (fun M19 => lf4 fX7_join_168 100 x2 v17 (0 : Int32) M19))))))
def fX7_join_115 (x1 : Int32) (x2 : Int32) (x3 : Int32) (t0 : Int32) (M : MT) : Option (Int32 × MT) := (if x3 = 0 then fX7_join_136 x1 x2 (1 : Int32) M else (if t0 = 0 then fX7_join_136 x1 x2 (2 : Int32) M else fX7_join_136 x1 x2 (0 : Int32) M))
def fX7_join_114 (x1 : Int32) (x2 : Int32) (x3 : Int32) (M : MT) : Option (Int32 × MT) := fX7_join_115 x1 x2 x3 (0 : Int32) M
def fX7_join_69 (x1 : Int32) (x2 : Int32) (x3 : Int32) (t0 : Int32) (M : MT) : Option (Int32 × MT) := (if x3 = 0 then fX7_join_114 x1 x2 x3 M else cl1 (fX7_seatOf x1 x2 M) (fun v8 => (if v8 = (-1 : Int32) then cl1 (fX7_bandsOf x1 M) (fun v10 => (if (2 : Int32) ≤ v10 then fX7_join_114 x1 x2 x3 M else gd (gin x2 4) ((if (8 : Int32) ≤ (M 15 (Int32.toNatClampNeg x2)) then fX7_join_114 x1 x2 x3 M else (if t0 = 0 then fX7_join_115 x1 x2 x3 (1 : Int32) M else fX7_join_114 x1 x2 x3 M))))) else fX7_join_114 x1 x2 x3 M)))
def fX7_join_68 (x1 : Int32) (x2 : Int32) (x3 : Int32) (M : MT) : Option (Int32 × MT) := fX7_join_69 x1 x2 x3 (0 : Int32) M
def fX7_join_20 (x1 : Int32) (x2 : Int32) (t0 : Int32) (M : MT) : Option (Int32 × MT) := (if t0 = 0 then fX7_join_68 x1 x2 t0 M else gd (gin x1 16) ((if (M 13 (Int32.toNatClampNeg x1)) = (-1 : Int32) then fX7_join_68 x1 x2 t0 M else gd (gin x1 16) ((if (M 13 (Int32.toNatClampNeg x1)) = x2 then fX7_join_68 x1 x2 t0 M else gd (gin x1 16) ((if ((M 14 (Int32.toNatClampNeg x1)) / (30 : Int32)) = ((M 1 0) / (30 : Int32)) then fX7_join_69 x1 x2 t0 (1 : Int32) M else fX7_join_68 x1 x2 t0 M)))))))
def fX7_join_19 (x1 : Int32) (x2 : Int32) (M : MT) : Option (Int32 × MT) := fX7_join_20 x1 x2 (0 : Int32) M
def fX7_join (a1 : Int32) (a2 : Int32) (M : MT) : Option (Int32 × MT) := cl1 (fX7_isPlayer a1 M) (fun v1 => (if v1 = 0 then fX7_join_19 a1 a2 M else cl1 (fX7_isBand a2) (fun v3 => (if v3 = 0 then fX7_join_19 a1 a2 M else fX7_join_20 a1 a2 (1 : Int32) M))))
def rmX7_join : Room := { frames := 3, cells := 0, slots := 0, locals := 63 }
set_option maxHeartbeats 4000000 in
set_option maxRecDepth 100000 in
theorem mX7_join (l : Launch) (D : va_G) (ad : Nat → Nat) (cI cZ : ClassId) (M : MT) (a1 : Int32) (a2 : Int32) (r : Int32) (Mz : MT) (h : fX7_join a1 a2 M = some (r, Mz)) : Met l yX7_join wsX7_join rmX7_join (va_Pc [.ref (ad 0), .int a1, .int a2] (mP D ad cI cZ M)) (mQi D ad cI cZ r Mz) 0 0 (mA ad) := by
  refine Met.ofW (cc := cX7_join) (maxL := 8) (ret := some .int) (by decide) rfl ?_
  intro p e s m args below meth c s₁ B hml hv
  obtain ⟨rfl, hI, hN, hK⟩ := hv
  have hx := B.exec
  have hb := B.bytes
  have hr := B.returns
  have hts := atoms_spec (ws := wsX7_join) B.pre
  have hown : s.vm.findClass RX7 = some m.cls := findClass_of_methodNamed B.named
  have hlocks := B.notSynchronized
  have hin : ∀ w ∈ wsX70, w ∈ wsX7_join := fun w h => List.mem_cons_of_mem _ (List.mem_append_right _ h)
  have l0 := hts (.fieldLink RX7 35 "PanyardModel" "left" "[I") (List.mem_of_getElem? (i := 1) rfl)
  have l1 := hts (.fieldLink RX7 38 "PanyardModel" "leftOn" "[I") (List.mem_of_getElem? (i := 2) rfl)
  have l2 := hts (.fieldLink RX7 143 "PanyardModel" "night" "I") (List.mem_of_getElem? (i := 3) rfl)
  have l3 := hts (.fieldLink RX7 41 "PanyardModel" "seats" "[I") (List.mem_of_getElem? (i := 4) rfl)
  have l4 := hts (.fieldLink RX7 44 "PanyardModel" "seat" "[I") (List.mem_of_getElem? (i := 5) rfl)
  have l5 := hts (.fieldLink RX7 53 "PanyardModel" "known" "[I") (List.mem_of_getElem? (i := 6) rfl)
  have hS : va_S (mA ad) s.heap s.heap [] := va_S.rf
  have hl := lv_entry ([.ref (ad 0), .int a1, .int a2]) (n := 8) (Nat.le_of_ble_eq_true rfl)
  rw [lg_entry_eq]
  generalize (lg_sl ([.ref (ad 0), .int a1, .int a2]) ++ List.replicate (8 - (lg_sl ([.ref (ad 0), .int a1, .int a2])).length) Slot.unset).toArray = ls at hl ⊢
  have hl : lv_has ls 8 [(0, .ref (ad 0)), (1, .int a1), (2, .int a2)] := hl
  have w195 : ∀ (x2 : Int32) (M : MT), fX7_join_195  x2 M = some (r, Mz) → mG p l e (headSpec wsX7_join rmX7_join).room s m (([.ref (ad 0), .int a1, .int a2] : List Value).toArray) below meth c (MQ below (mQi D ad cI cZ r Mz) (([.ref (ad 0), .int a1, .int a2] : List Value).toArray) s 0 0 (mA ad)) D ad cI cZ 8 M 195 [(0, .ref (ad 0)), (2, .int x2)] [] := by
    intro  x2 M h H locs ls hN hS hl
    unfold fX7_join_195 at h
    refine lv_aload_n hx hb dX7_join_195 rfl (lv_at hl 0 rfl) ?_
    refine mg_get hx hb hts hin hown hK hN 15 (by decide) l3 rfl (v := .ref (ad 15)) rfl dX7_join_196 ?_
    refine lv_iload_n hx hb dX7_join_199 rfl (lv_at hl 1 rfl) ?_
    refine lv_dup2_11 hx hb dX7_join_200 rfl rfl ?_
    obtain ⟨g23, h⟩ := gd_ok h
    refine mg_ild hx hb hK hN 15 rfl (if_neg (by decide)) (gin_ok g23) dX7_join_201 ?_
    refine lv_iconst (v := (1 : Int32)) hx hb dX7_join_202 (by decide) ?_
    refine lv_iadd hx hb dX7_join_203 ?_
    obtain ⟨g24, h⟩ := gd_ok h
    obtain ⟨M25, eM25⟩ : ∃ y : MT, y = (va_up M 15 (upd (M 15) (Int32.toNatClampNeg x2) ((M 15 (Int32.toNatClampNeg x2)) + (1 : Int32)))) := ⟨_, rfl⟩
    have h := bnd_ok h eM25
    refine mg_ist hx hb hI hK hN hS 15 rfl (if_neg (by decide)) (gin_ok g24) dX7_join_204 eM25 (fun H locs hN hS => ?_)
    refine lv_aload_n hx hb dX7_join_205 rfl (lv_at hl 0 rfl) ?_
    refine mg_get hx hb hts hin hown hK hN 15 (by decide) l3 rfl (v := .ref (ad 15)) rfl dX7_join_206 ?_
    refine lv_iload_n hx hb dX7_join_209 rfl (lv_at hl 1 rfl) ?_
    obtain ⟨g26, h⟩ := gd_ok h
    refine mg_ild hx hb hK hN 15 rfl (if_neg (by decide)) (gin_ok g26) dX7_join_210 ?_
    refine lv_iconst (v := (1 : Int32)) hx hb dX7_join_211 (by decide) ?_
    refine lv_isub hx hb dX7_join_212 ?_
    exact W.iret hx hb hr (mg_endi h hI hK hN hS) hS.2.2 dX7_join_213
  have w168 : ∀ (x2 : Int32) (x6 : Int32) (x7 : Int32) (M : MT), lf4 fX7_join_168 100 x2 x6 x7 M = some (r, Mz) → mG p l e (headSpec wsX7_join rmX7_join).room s m (([.ref (ad 0), .int a1, .int a2] : List Value).toArray) below meth c (MQ below (mQi D ad cI cZ r Mz) (([.ref (ad 0), .int a1, .int a2] : List Value).toArray) s 0 0 (mA ad)) D ad cI cZ 8 M 168 [(0, .ref (ad 0)), (2, .int x2), (6, .int x6), (7, .int x7)] [] := by
    skip
    refine lf4_ok (P := (fun x2 x6 x7 M => mG p l e (headSpec wsX7_join rmX7_join).room s m (([.ref (ad 0), .int a1, .int a2] : List Value).toArray) below meth c (MQ below (mQi D ad cI cZ r Mz) (([.ref (ad 0), .int a1, .int a2] : List Value).toArray) s 0 0 (mA ad)) D ad cI cZ 8 M 168 [(0, .ref (ad 0)), (2, .int x2), (6, .int x6), (7, .int x7)] [])) (fun k168 hk168 x2 x6 x7 M h H locs ls hN hS hl => ?_) 100
    unfold fX7_join_168 at h
    refine lv_iload hx hb dX7_join_168 (lv_at hl 3 rfl) ?_
    refine lv_bipush (v := (6 : Int32)) hx hb dX7_join_170 (by decide) ?_
    refine lv_icmp_ge (tgt := 195) hx hb dX7_join_172 (by decide) (fun hc => ?_) (fun hc => ?_)
    · have h := ite_t h hc
      exact w195  x2 M h _ _ _ hN hS (lv_sub hl [0, 1] rfl)
    · have h := ite_f h hc
      refine lv_aload_n hx hb dX7_join_175 rfl (lv_at hl 0 rfl) ?_
      refine mg_get hx hb hts hin hown hK hN 19 (by decide) l5 rfl (v := .ref (ad 19)) rfl dX7_join_176 ?_
      refine lv_bipush (v := (6 : Int32)) hx hb dX7_join_179 (by decide) ?_
      refine lv_iload hx hb dX7_join_181 (lv_at hl 2 rfl) ?_
      refine lv_imul hx hb dX7_join_183 ?_
      refine lv_iload hx hb dX7_join_184 (lv_at hl 3 rfl) ?_
      refine lv_iadd hx hb dX7_join_186 ?_
      refine lv_iconst (v := (0 : Int32)) hx hb dX7_join_187 (by decide) ?_
      obtain ⟨g20, h⟩ := gd_ok h
      obtain ⟨M21, eM21⟩ : ∃ y : MT, y = (va_up M 19 (upd (M 19) (Int32.toNatClampNeg (((6 : Int32) * x6) + x7)) (0 : Int32))) := ⟨_, rfl⟩
      have h := bnd_ok h eM21
      refine mg_ist hx hb hI hK hN hS 19 rfl (if_neg (by decide)) (gin_ok g20) dX7_join_188 eM21 (fun H locs hN hS => ?_)
      obtain ⟨v22, ev22⟩ : ∃ y : Int32, y = (x7 + (1 : Int32)) := ⟨_, rfl⟩
      have h := bnd_ok h ev22
      refine lv_iinc (v := v22) (lv' := [(7, .int v22), (0, .ref (ad 0)), (2, .int x2), (6, .int x6)]) hx hb dX7_join_189 hl (k := 3) rfl (by rw [ev22]; rfl) (by decide) rfl (fun ls hl => ?_)
      refine lv_goto (tgt := 168) hx hb dX7_join_192 (by decide) ?_
      exact hk168 x2 x6 v22 M21 h _ _ _ hN hS (lv_sub hl [1, 2, 3, 0] rfl)
  have w136 : ∀ (x1 : Int32) (x2 : Int32) (t0 : Int32) (M : MT), fX7_join_136  x1 x2 t0 M = some (r, Mz) → mG p l e (headSpec wsX7_join rmX7_join).room s m (([.ref (ad 0), .int a1, .int a2] : List Value).toArray) below meth c (MQ below (mQi D ad cI cZ r Mz) (([.ref (ad 0), .int a1, .int a2] : List Value).toArray) s 0 0 (mA ad)) D ad cI cZ 8 M 136 [(0, .ref (ad 0)), (1, .int x1), (2, .int x2)] [.int t0, .ref (ad 0)] := by
    intro  x1 x2 t0 M h H locs ls hN hS hl
    unfold fX7_join_136 at h
    obtain ⟨v13, M14, c15, h⟩ := cl2_ok h
    refine mg_calli (va_runV (As := [.int t0]) (rest := []) ⟨hx, hb, hml, hown, hts⟩ (mX7_holds l D ad cI cZ M t0 v13 M14 c15) (cwV 1 hts gX7_join_X7_holds rfl rfl rfl (by decide +kernel) ⟨Nat.le_of_ble_eq_true rfl, Nat.le_of_ble_eq_true rfl⟩) (mg_preV hI hK hN) rfl rfl hl.1 rfl (lv_room (Nat.le_of_ble_eq_true rfl)) dX7_join_136 ⟨Nat.zero_le _, Nat.zero_le _⟩) hS (fun H locs hN hS => ?_)
    refine lv_if_ne (tgt := 144) hx hb dX7_join_139 (by decide) (fun hc => ?_) (fun hc => ?_)
    · have h := ite_f h hc
      refine lv_bipush (v := (8 : Int32)) hx hb dX7_join_144 (by decide) ?_
      refine lv_iload_n hx hb dX7_join_146 rfl (lv_at hl 2 rfl) ?_
      refine lv_imul hx hb dX7_join_147 ?_
      refine lv_aload_n hx hb dX7_join_148 rfl (lv_at hl 0 rfl) ?_
      refine mg_get hx hb hts hin hown hK hN 15 (by decide) l3 rfl (v := .ref (ad 15)) rfl dX7_join_149 ?_
      refine lv_iload_n hx hb dX7_join_152 rfl (lv_at hl 2 rfl) ?_
      obtain ⟨g16, h⟩ := gd_ok h
      refine mg_ild hx hb hK hN 15 rfl (if_neg (by decide)) (gin_ok g16) dX7_join_153 ?_
      refine lv_iadd hx hb dX7_join_154 ?_
      refine lv_topi (fun v17 ev17 => ?_)
      have h := bnd_ok h ev17
      refine lv_istore (lv' := [(6, .int v17), (0, .ref (ad 0)), (1, .int x1), (2, .int x2)]) hx hb dX7_join_155 hl (by decide) rfl (fun ls hl => ?_)
      refine lv_aload_n hx hb dX7_join_157 rfl (lv_at hl 1 rfl) ?_
      refine mg_get hx hb hts hin hown hK hN 16 (by decide) l4 rfl (v := .ref (ad 16)) rfl dX7_join_158 ?_
      refine lv_iload hx hb dX7_join_161 (lv_at hl 0 rfl) ?_
      refine lv_iload_n hx hb dX7_join_163 rfl (lv_at hl 2 rfl) ?_
      obtain ⟨g18, h⟩ := gd_ok h
      obtain ⟨M19, eM19⟩ : ∃ y : MT, y = (va_up M14 16 (upd (M14 16) (Int32.toNatClampNeg v17) x1)) := ⟨_, rfl⟩
      have h := bnd_ok h eM19
      refine mg_ist hx hb hI hK hN hS 16 rfl (if_neg (by decide)) (gin_ok g18) dX7_join_164 eM19 (fun H locs hN hS => ?_)
      refine lv_iconst (v := (0 : Int32)) hx hb dX7_join_165 (by decide) ?_
      refine lv_istore (lv' := [(7, .int (0 : Int32)), (6, .int v17), (0, .ref (ad 0)), (1, .int x1), (2, .int x2)]) hx hb dX7_join_166 hl (by decide) rfl (fun ls hl => ?_)
      exact w168  x2 v17 (0 : Int32) M19 h _ _ _ hN hS (lv_sub hl [2, 4, 1, 0] rfl)
    · have h := ite_t h hc
      refine lv_iconst (v := (0 : Int32)) hx hb dX7_join_142 (by decide) ?_
      exact W.iret hx hb hr (mg_endi h hI hK hN hS) hS.2.2 dX7_join_143
  have w115 : ∀ (x1 : Int32) (x2 : Int32) (x3 : Int32) (t0 : Int32) (M : MT), fX7_join_115  x1 x2 x3 t0 M = some (r, Mz) → mG p l e (headSpec wsX7_join rmX7_join).room s m (([.ref (ad 0), .int a1, .int a2] : List Value).toArray) below meth c (MQ below (mQi D ad cI cZ r Mz) (([.ref (ad 0), .int a1, .int a2] : List Value).toArray) s 0 0 (mA ad)) D ad cI cZ 8 M 115 [(0, .ref (ad 0)), (1, .int x1), (2, .int x2), (3, .int x3)] [.int t0] := by
    intro  x1 x2 x3 t0 M h H locs ls hN hS hl
    unfold fX7_join_115 at h
    refine lv_istore (lv' := [(5, .int t0), (0, .ref (ad 0)), (1, .int x1), (2, .int x2), (3, .int x3)]) hx hb dX7_join_115 hl (by decide) rfl (fun ls hl => ?_)
    refine lv_aload_n hx hb dX7_join_117 rfl (lv_at hl 1 rfl) ?_
    refine lv_iload_n hx hb dX7_join_118 rfl (lv_at hl 4 rfl) ?_
    refine lv_if_ne (tgt := 126) hx hb dX7_join_119 (by decide) (fun hc => ?_) (fun hc => ?_)
    · have h := ite_f h hc
      refine lv_iload hx hb dX7_join_126 (lv_at hl 0 rfl) ?_
      refine lv_if_eq (tgt := 135) hx hb dX7_join_128 (by decide) (fun hc => ?_) (fun hc => ?_)
      · have h := ite_t h hc
        refine lv_iconst (v := (2 : Int32)) hx hb dX7_join_135 (by decide) ?_
        exact w136  x1 x2 (2 : Int32) M h _ _ _ hN hS (lv_sub hl [1, 2, 3] rfl)
      · have h := ite_f h hc
        refine lv_iconst (v := (0 : Int32)) hx hb dX7_join_131 (by decide) ?_
        refine lv_goto (tgt := 136) hx hb dX7_join_132 (by decide) ?_
        exact w136  x1 x2 (0 : Int32) M h _ _ _ hN hS (lv_sub hl [1, 2, 3] rfl)
    · have h := ite_t h hc
      refine lv_iconst (v := (1 : Int32)) hx hb dX7_join_122 (by decide) ?_
      refine lv_goto (tgt := 136) hx hb dX7_join_123 (by decide) ?_
      exact w136  x1 x2 (1 : Int32) M h _ _ _ hN hS (lv_sub hl [1, 2, 3] rfl)
  have w114 : ∀ (x1 : Int32) (x2 : Int32) (x3 : Int32) (M : MT), fX7_join_114  x1 x2 x3 M = some (r, Mz) → mG p l e (headSpec wsX7_join rmX7_join).room s m (([.ref (ad 0), .int a1, .int a2] : List Value).toArray) below meth c (MQ below (mQi D ad cI cZ r Mz) (([.ref (ad 0), .int a1, .int a2] : List Value).toArray) s 0 0 (mA ad)) D ad cI cZ 8 M 114 [(0, .ref (ad 0)), (1, .int x1), (2, .int x2), (3, .int x3)] [] := by
    intro  x1 x2 x3 M h H locs ls hN hS hl
    unfold fX7_join_114 at h
    refine lv_iconst (v := (0 : Int32)) hx hb dX7_join_114 (by decide) ?_
    exact w115  x1 x2 x3 (0 : Int32) M h _ _ _ hN hS (lv_sub hl [0, 1, 2, 3] rfl)
  have w69 : ∀ (x1 : Int32) (x2 : Int32) (x3 : Int32) (t0 : Int32) (M : MT), fX7_join_69  x1 x2 x3 t0 M = some (r, Mz) → mG p l e (headSpec wsX7_join rmX7_join).room s m (([.ref (ad 0), .int a1, .int a2] : List Value).toArray) below meth c (MQ below (mQi D ad cI cZ r Mz) (([.ref (ad 0), .int a1, .int a2] : List Value).toArray) s 0 0 (mA ad)) D ad cI cZ 8 M 69 [(0, .ref (ad 0)), (1, .int x1), (2, .int x2), (3, .int x3)] [.int t0] := by
    intro  x1 x2 x3 t0 M h H locs ls hN hS hl
    unfold fX7_join_69 at h
    refine lv_istore (lv' := [(4, .int t0), (0, .ref (ad 0)), (1, .int x1), (2, .int x2), (3, .int x3)]) hx hb dX7_join_69 hl (by decide) rfl (fun ls hl => ?_)
    refine lv_iload_n hx hb dX7_join_71 rfl (lv_at hl 4 rfl) ?_
    refine lv_if_eq (tgt := 114) hx hb dX7_join_72 (by decide) (fun hc => ?_) (fun hc => ?_)
    · have h := ite_t h hc
      exact w114  x1 x2 x3 M h _ _ _ hN hS (lv_sub hl [1, 2, 3, 4] rfl)
    · have h := ite_f h hc
      refine lv_aload_n hx hb dX7_join_75 rfl (lv_at hl 1 rfl) ?_
      refine lv_iload_n hx hb dX7_join_76 rfl (lv_at hl 2 rfl) ?_
      refine lv_iload_n hx hb dX7_join_77 rfl (lv_at hl 3 rfl) ?_
      obtain ⟨v8, c9, h⟩ := cl1_ok h
      refine mg_calli (va_runV (As := [.int x1, .int x2]) (rest := []) ⟨hx, hb, hml, hown, hts⟩ (mX7_seatOf l D ad cI cZ M x1 x2 v8 c9) (cwV 2 hts gX7_join_X7_seatOf rfl rfl rfl (by decide +kernel) ⟨Nat.le_of_ble_eq_true rfl, Nat.le_of_ble_eq_true rfl⟩) (mg_preV hI hK hN) rfl rfl hl.1 rfl (lv_room (Nat.le_of_ble_eq_true rfl)) dX7_join_78 ⟨Nat.zero_le _, Nat.zero_le _⟩) hS (fun H locs hN hS => ?_)
      refine lv_iconst (v := (-1 : Int32)) hx hb dX7_join_81 (by decide) ?_
      refine lv_icmp_ne (tgt := 114) hx hb dX7_join_82 (by decide) (fun hc => ?_) (fun hc => ?_)
      · have h := ite_f h hc
        exact w114  x1 x2 x3 M h _ _ _ hN hS (lv_sub hl [1, 2, 3, 4] rfl)
      · have h := ite_t h hc
        refine lv_aload_n hx hb dX7_join_85 rfl (lv_at hl 1 rfl) ?_
        refine lv_iload_n hx hb dX7_join_86 rfl (lv_at hl 2 rfl) ?_
        obtain ⟨v10, c11, h⟩ := cl1_ok h
        refine mg_calli (va_runV (As := [.int x1]) (rest := []) ⟨hx, hb, hml, hown, hts⟩ (mX7_bandsOf l D ad cI cZ M x1 v10 c11) (cwV 1 hts gX7_join_X7_bandsOf rfl rfl rfl (by decide +kernel) ⟨Nat.le_of_ble_eq_true rfl, Nat.le_of_ble_eq_true rfl⟩) (mg_preV hI hK hN) rfl rfl hl.1 rfl (lv_room (Nat.le_of_ble_eq_true rfl)) dX7_join_87 ⟨Nat.zero_le _, Nat.zero_le _⟩) hS (fun H locs hN hS => ?_)
        refine lv_iconst (v := (2 : Int32)) hx hb dX7_join_90 (by decide) ?_
        refine lv_icmp_ge (tgt := 114) hx hb dX7_join_91 (by decide) (fun hc => ?_) (fun hc => ?_)
        · have h := ite_t h hc
          exact w114  x1 x2 x3 M h _ _ _ hN hS (lv_sub hl [1, 2, 3, 4] rfl)
        · have h := ite_f h hc
          refine lv_aload_n hx hb dX7_join_94 rfl (lv_at hl 1 rfl) ?_
          refine mg_get hx hb hts hin hown hK hN 15 (by decide) l3 rfl (v := .ref (ad 15)) rfl dX7_join_95 ?_
          refine lv_iload_n hx hb dX7_join_98 rfl (lv_at hl 3 rfl) ?_
          obtain ⟨g12, h⟩ := gd_ok h
          refine mg_ild hx hb hK hN 15 rfl (if_neg (by decide)) (gin_ok g12) dX7_join_99 ?_
          refine lv_bipush (v := (8 : Int32)) hx hb dX7_join_100 (by decide) ?_
          refine lv_icmp_ge (tgt := 114) hx hb dX7_join_102 (by decide) (fun hc => ?_) (fun hc => ?_)
          · have h := ite_t h hc
            exact w114  x1 x2 x3 M h _ _ _ hN hS (lv_sub hl [1, 2, 3, 4] rfl)
          · have h := ite_f h hc
            refine lv_iload hx hb dX7_join_105 (lv_at hl 0 rfl) ?_
            refine lv_if_ne (tgt := 114) hx hb dX7_join_107 (by decide) (fun hc => ?_) (fun hc => ?_)
            · have h := ite_f h hc
              exact w114  x1 x2 x3 M h _ _ _ hN hS (lv_sub hl [1, 2, 3, 4] rfl)
            · have h := ite_t h hc
              refine lv_iconst (v := (1 : Int32)) hx hb dX7_join_110 (by decide) ?_
              refine lv_goto (tgt := 115) hx hb dX7_join_111 (by decide) ?_
              exact w115  x1 x2 x3 (1 : Int32) M h _ _ _ hN hS (lv_sub hl [1, 2, 3, 4] rfl)
  have w68 : ∀ (x1 : Int32) (x2 : Int32) (x3 : Int32) (M : MT), fX7_join_68  x1 x2 x3 M = some (r, Mz) → mG p l e (headSpec wsX7_join rmX7_join).room s m (([.ref (ad 0), .int a1, .int a2] : List Value).toArray) below meth c (MQ below (mQi D ad cI cZ r Mz) (([.ref (ad 0), .int a1, .int a2] : List Value).toArray) s 0 0 (mA ad)) D ad cI cZ 8 M 68 [(0, .ref (ad 0)), (1, .int x1), (2, .int x2), (3, .int x3)] [] := by
    intro  x1 x2 x3 M h H locs ls hN hS hl
    unfold fX7_join_68 at h
    refine lv_iconst (v := (0 : Int32)) hx hb dX7_join_68 (by decide) ?_
    exact w69  x1 x2 x3 (0 : Int32) M h _ _ _ hN hS (lv_sub hl [0, 1, 2, 3] rfl)
  have w20 : ∀ (x1 : Int32) (x2 : Int32) (t0 : Int32) (M : MT), fX7_join_20  x1 x2 t0 M = some (r, Mz) → mG p l e (headSpec wsX7_join rmX7_join).room s m (([.ref (ad 0), .int a1, .int a2] : List Value).toArray) below meth c (MQ below (mQi D ad cI cZ r Mz) (([.ref (ad 0), .int a1, .int a2] : List Value).toArray) s 0 0 (mA ad)) D ad cI cZ 8 M 20 [(0, .ref (ad 0)), (1, .int x1), (2, .int x2)] [.int t0] := by
    intro  x1 x2 t0 M h H locs ls hN hS hl
    unfold fX7_join_20 at h
    refine lv_istore_n (lv' := [(3, .int t0), (0, .ref (ad 0)), (1, .int x1), (2, .int x2)]) hx hb dX7_join_20 rfl hl (by decide) rfl (fun ls hl => ?_)
    refine lv_iload_n hx hb dX7_join_21 rfl (lv_at hl 0 rfl) ?_
    refine lv_if_eq (tgt := 68) hx hb dX7_join_22 (by decide) (fun hc => ?_) (fun hc => ?_)
    · have h := ite_t h hc
      exact w68  x1 x2 t0 M h _ _ _ hN hS (lv_sub hl [1, 2, 3, 0] rfl)
    · have h := ite_f h hc
      refine lv_aload_n hx hb dX7_join_25 rfl (lv_at hl 1 rfl) ?_
      refine mg_get hx hb hts hin hown hK hN 13 (by decide) l0 rfl (v := .ref (ad 13)) rfl dX7_join_26 ?_
      refine lv_iload_n hx hb dX7_join_29 rfl (lv_at hl 2 rfl) ?_
      obtain ⟨g5, h⟩ := gd_ok h
      refine mg_ild hx hb hK hN 13 rfl (if_neg (by decide)) (gin_ok g5) dX7_join_30 ?_
      refine lv_iconst (v := (-1 : Int32)) hx hb dX7_join_31 (by decide) ?_
      refine lv_icmp_eq (tgt := 68) hx hb dX7_join_32 (by decide) (fun hc => ?_) (fun hc => ?_)
      · have h := ite_t h hc
        exact w68  x1 x2 t0 M h _ _ _ hN hS (lv_sub hl [1, 2, 3, 0] rfl)
      · have h := ite_f h hc
        refine lv_aload_n hx hb dX7_join_35 rfl (lv_at hl 1 rfl) ?_
        refine mg_get hx hb hts hin hown hK hN 13 (by decide) l0 rfl (v := .ref (ad 13)) rfl dX7_join_36 ?_
        refine lv_iload_n hx hb dX7_join_39 rfl (lv_at hl 2 rfl) ?_
        obtain ⟨g6, h⟩ := gd_ok h
        refine mg_ild hx hb hK hN 13 rfl (if_neg (by decide)) (gin_ok g6) dX7_join_40 ?_
        refine lv_iload_n hx hb dX7_join_41 rfl (lv_at hl 3 rfl) ?_
        refine lv_icmp_eq (tgt := 68) hx hb dX7_join_42 (by decide) (fun hc => ?_) (fun hc => ?_)
        · have h := ite_t h hc
          exact w68  x1 x2 t0 M h _ _ _ hN hS (lv_sub hl [1, 2, 3, 0] rfl)
        · have h := ite_f h hc
          refine lv_aload_n hx hb dX7_join_45 rfl (lv_at hl 1 rfl) ?_
          refine mg_get hx hb hts hin hown hK hN 14 (by decide) l1 rfl (v := .ref (ad 14)) rfl dX7_join_46 ?_
          refine lv_iload_n hx hb dX7_join_49 rfl (lv_at hl 2 rfl) ?_
          obtain ⟨g7, h⟩ := gd_ok h
          refine mg_ild hx hb hK hN 14 rfl (if_neg (by decide)) (gin_ok g7) dX7_join_50 ?_
          refine lv_bipush (v := (30 : Int32)) hx hb dX7_join_51 (by decide) ?_
          refine lv_idiv hx hb dX7_join_53 (by decide) ?_
          refine lv_aload_n hx hb dX7_join_54 rfl (lv_at hl 1 rfl) ?_
          refine mg_get hx hb hts hin hown hK hN 1 (by decide) l2 rfl (v := .int (M 1 0)) rfl dX7_join_55 ?_
          refine lv_bipush (v := (30 : Int32)) hx hb dX7_join_58 (by decide) ?_
          refine lv_idiv hx hb dX7_join_60 (by decide) ?_
          refine lv_icmp_ne (tgt := 68) hx hb dX7_join_61 (by decide) (fun hc => ?_) (fun hc => ?_)
          · have h := ite_f h hc
            exact w68  x1 x2 t0 M h _ _ _ hN hS (lv_sub hl [1, 2, 3, 0] rfl)
          · have h := ite_t h hc
            refine lv_iconst (v := (1 : Int32)) hx hb dX7_join_64 (by decide) ?_
            refine lv_goto (tgt := 69) hx hb dX7_join_65 (by decide) ?_
            exact w69  x1 x2 t0 (1 : Int32) M h _ _ _ hN hS (lv_sub hl [1, 2, 3, 0] rfl)
  have w19 : ∀ (x1 : Int32) (x2 : Int32) (M : MT), fX7_join_19  x1 x2 M = some (r, Mz) → mG p l e (headSpec wsX7_join rmX7_join).room s m (([.ref (ad 0), .int a1, .int a2] : List Value).toArray) below meth c (MQ below (mQi D ad cI cZ r Mz) (([.ref (ad 0), .int a1, .int a2] : List Value).toArray) s 0 0 (mA ad)) D ad cI cZ 8 M 19 [(0, .ref (ad 0)), (1, .int x1), (2, .int x2)] [] := by
    intro  x1 x2 M h H locs ls hN hS hl
    unfold fX7_join_19 at h
    refine lv_iconst (v := (0 : Int32)) hx hb dX7_join_19 (by decide) ?_
    exact w20  x1 x2 (0 : Int32) M h _ _ _ hN hS (lv_sub hl [0, 1, 2] rfl)
  unfold fX7_join at h
  refine lv_aload_n hx hb dX7_join_0 rfl (lv_at hl 0 rfl) ?_
  refine lv_iload_n hx hb dX7_join_1 rfl (lv_at hl 1 rfl) ?_
  obtain ⟨v1, c2, h⟩ := cl1_ok h
  refine mg_calli (va_runV (As := [.int a1]) (rest := []) ⟨hx, hb, hml, hown, hts⟩ (mX7_isPlayer l D ad cI cZ M a1 v1 c2) (cwV 1 hts gX7_join_X7_isPlayer rfl rfl rfl (by decide +kernel) ⟨Nat.le_of_ble_eq_true rfl, Nat.le_of_ble_eq_true rfl⟩) (mg_preV hI hK hN) rfl rfl hl.1 rfl (lv_room (Nat.le_of_ble_eq_true rfl)) dX7_join_2 ⟨Nat.zero_le _, Nat.zero_le _⟩) hS (fun H locs hN hS => ?_)
  refine lv_if_eq (tgt := 19) hx hb dX7_join_5 (by decide) (fun hc => ?_) (fun hc => ?_)
  · have h := ite_t h hc
    exact w19  a1 a2 M h _ _ _ hN hS (lv_sub hl [0, 1, 2] rfl)
  · have h := ite_f h hc
    refine lv_iload_n hx hb dX7_join_8 rfl (lv_at hl 2 rfl) ?_
    obtain ⟨v3, c4, h⟩ := cl1_ok h
    refine mg_calli (va_runS (As := [.int a2]) (rest := []) ⟨hx, hb, hml, hown, hts⟩ (mX7_isBand l D ad cI cZ M a2 v3 c4) (va_cwS 1 hts gX7_join_X7_isBand rfl rfl rfl (by decide +kernel) ⟨Nat.le_of_ble_eq_true rfl, Nat.le_of_ble_eq_true rfl⟩) (mg_preS hI hK hN) rfl rfl hl.1 rfl (lv_room (Nat.le_of_ble_eq_true rfl)) dX7_join_9 ⟨Nat.zero_le _, Nat.zero_le _⟩) hS (fun H locs hN hS => ?_)
    refine lv_if_eq (tgt := 19) hx hb dX7_join_12 (by decide) (fun hc => ?_) (fun hc => ?_)
    · have h := ite_t h hc
      exact w19  a1 a2 M h _ _ _ hN hS (lv_sub hl [0, 1, 2] rfl)
    · have h := ite_f h hc
      refine lv_iconst (v := (1 : Int32)) hx hb dX7_join_15 (by decide) ?_
      refine lv_goto (tgt := 20) hx hb dX7_join_16 (by decide) ?_
      exact w20  a1 a2 (1 : Int32) M h _ _ _ hN hS (lv_sub hl [0, 1, 2] rfl)
def fX7_leave_161 (k84 : Int32 → Int32 → Int32 → MT → Option (Int32 × MT)) (x1 : Int32) (x2 : Int32) (x5 : Int32) (M : MT) : Option (Int32 × MT) := bnd (x5 + (1 : Int32)) (fun v27 => k84 x1 x2 v27 M)
def fX7_leave_119 (k84 : Int32 → Int32 → Int32 → MT → Option (Int32 × MT)) (k119 : Int32 → Int32 → Int32 → Int32 → MT → Option (Int32 × MT)) (x1 : Int32) (x2 : Int32) (x5 : Int32) (x6 : Int32) (M : MT) : Option (Int32 × MT) := (if (6 : Int32) ≤ x6 then fX7_leave_161 k84 x1 x2 x5 M else gd (gin ((((6 : Int32) * x5) + (6 : Int32)) + x6) 192) (gd (gin (((6 : Int32) * x5) + x6) 192) (bnd (va_up M 19 (upd (M 19) (Int32.toNatClampNeg (((6 : Int32) * x5) + x6)) (M 19 (Int32.toNatClampNeg ((((6 : Int32) * x5) + (6 : Int32)) + x6))))) (fun M25 => bnd (x6 + (1 : Int32)) (fun v26 => k119 x1 x2 x5 v26 M25)))))
def fX7_leave_167 (x1 : Int32) (x2 : Int32) (M : MT) : Option (Int32 × MT) := gd (gin x1 16) (bnd (va_up M 13 (upd (M 13) (Int32.toNatClampNeg x1) x2)) (fun M19 => gd (gin x1 16) (bnd (va_up M19 14 (upd (M19 14) (Int32.toNatClampNeg x1) (M19 1 0))) (fun M21 => gd (gin x2 4) (some ((M21 15 (Int32.toNatClampNeg x2)), M21))))))
def fX7_leave_84 (k84 : Int32 → Int32 → Int32 → MT → Option (Int32 × MT)) (x1 : Int32) (x2 : Int32) (x5 : Int32) (M : MT) : Option (Int32 × MT) := gd (gin x2 4) ((if (((8 : Int32) * x2) + (M 15 (Int32.toNatClampNeg x2))) ≤ x5 then fX7_leave_167 x1 x2 M else gd (gin (x5 + (1 : Int32)) 32) (gd (gin x5 32) (bnd (va_up M 16 (upd (M 16) (Int32.toNatClampNeg x5) (M 16 (Int32.toNatClampNeg (x5 + (1 : Int32)))))) (fun M17 => lf5 (fX7_leave_119 k84) 100 x1 x2 x5 (0 : Int32) M17)))))
def fX7_leave_57 (x1 : Int32) (x2 : Int32) (x4 : Int32) (t0 : Int32) (M : MT) : Option (Int32 × MT) := cl2 (fX7_holds t0 M) (fun v7 M8 => (if v7 = 0 then some ((0 : Int32), M8) else gd (gin x2 4) (gd (gin x2 4) (bnd (va_up M8 15 (upd (M8 15) (Int32.toNatClampNeg x2) ((M8 15 (Int32.toNatClampNeg x2)) - (1 : Int32)))) (fun M12 => bnd (((8 : Int32) * x2) + x4) (fun v13 => lf4 fX7_leave_84 100 x1 x2 v13 M12))))))
def fX7_leave_35 (x1 : Int32) (x2 : Int32) (x3 : Int32) (t0 : Int32) (M : MT) : Option (Int32 × MT) := (if x3 = 0 then fX7_leave_57 x1 x2 t0 (1 : Int32) M else (if t0 = (-1 : Int32) then fX7_leave_57 x1 x2 t0 (2 : Int32) M else fX7_leave_57 x1 x2 t0 (0 : Int32) M))
def fX7_leave_20 (x1 : Int32) (x2 : Int32) (t0 : Int32) (M : MT) : Option (Int32 × MT) := (if t0 = 0 then fX7_leave_35 x1 x2 t0 (-1 : Int32) M else cl1 (fX7_seatOf x1 x2 M) (fun v5 => fX7_leave_35 x1 x2 t0 v5 M))
def fX7_leave_19 (x1 : Int32) (x2 : Int32) (M : MT) : Option (Int32 × MT) := fX7_leave_20 x1 x2 (0 : Int32) M
def fX7_leave (a1 : Int32) (a2 : Int32) (M : MT) : Option (Int32 × MT) := cl1 (fX7_isPlayer a1 M) (fun v1 => (if v1 = 0 then fX7_leave_19 a1 a2 M else cl1 (fX7_isBand a2) (fun v3 => (if v3 = 0 then fX7_leave_19 a1 a2 M else fX7_leave_20 a1 a2 (1 : Int32) M))))
def rmX7_leave : Room := { frames := 3, cells := 0, slots := 0, locals := 57 }
set_option maxHeartbeats 4000000 in
set_option maxRecDepth 100000 in
theorem mX7_leave (l : Launch) (D : va_G) (ad : Nat → Nat) (cI cZ : ClassId) (M : MT) (a1 : Int32) (a2 : Int32) (r : Int32) (Mz : MT) (h : fX7_leave a1 a2 M = some (r, Mz)) : Met l yX7_leave wsX7_leave rmX7_leave (va_Pc [.ref (ad 0), .int a1, .int a2] (mP D ad cI cZ M)) (mQi D ad cI cZ r Mz) 0 0 (mA ad) := by
  refine Met.ofW (cc := cX7_leave) (maxL := 7) (ret := some .int) (by decide) rfl ?_
  intro p e s m args below meth c s₁ B hml hv
  obtain ⟨rfl, hI, hN, hK⟩ := hv
  have hx := B.exec
  have hb := B.bytes
  have hr := B.returns
  have hts := atoms_spec (ws := wsX7_leave) B.pre
  have hown : s.vm.findClass RX7 = some m.cls := findClass_of_methodNamed B.named
  have hlocks := B.notSynchronized
  have hin : ∀ w ∈ wsX70, w ∈ wsX7_leave := fun w h => List.mem_cons_of_mem _ (List.mem_append_right _ h)
  have l0 := hts (.fieldLink RX7 41 "PanyardModel" "seats" "[I") (List.mem_of_getElem? (i := 1) rfl)
  have l1 := hts (.fieldLink RX7 44 "PanyardModel" "seat" "[I") (List.mem_of_getElem? (i := 2) rfl)
  have l2 := hts (.fieldLink RX7 35 "PanyardModel" "left" "[I") (List.mem_of_getElem? (i := 4) rfl)
  have l3 := hts (.fieldLink RX7 38 "PanyardModel" "leftOn" "[I") (List.mem_of_getElem? (i := 5) rfl)
  have l4 := hts (.fieldLink RX7 143 "PanyardModel" "night" "I") (List.mem_of_getElem? (i := 6) rfl)
  have l5 := hts (.fieldLink RX7 53 "PanyardModel" "known" "[I") (List.mem_of_getElem? (i := 3) rfl)
  have hS : va_S (mA ad) s.heap s.heap [] := va_S.rf
  have hl := lv_entry ([.ref (ad 0), .int a1, .int a2]) (n := 7) (Nat.le_of_ble_eq_true rfl)
  rw [lg_entry_eq]
  generalize (lg_sl ([.ref (ad 0), .int a1, .int a2]) ++ List.replicate (7 - (lg_sl ([.ref (ad 0), .int a1, .int a2])).length) Slot.unset).toArray = ls at hl ⊢
  have hl : lv_has ls 7 [(0, .ref (ad 0)), (1, .int a1), (2, .int a2)] := hl
  have w161 : ∀ (k84 : Int32 → Int32 → Int32 → MT → Option (Int32 × MT)) (hk84 : (∀ (x1 : Int32) (x2 : Int32) (x5 : Int32) (M : MT), k84 x1 x2 x5 M = some (r, Mz) → mG p l e (headSpec wsX7_leave rmX7_leave).room s m (([.ref (ad 0), .int a1, .int a2] : List Value).toArray) below meth c (MQ below (mQi D ad cI cZ r Mz) (([.ref (ad 0), .int a1, .int a2] : List Value).toArray) s 0 0 (mA ad)) D ad cI cZ 7 M 84 [(0, .ref (ad 0)), (1, .int x1), (2, .int x2), (5, .int x5)] [])) (x1 : Int32) (x2 : Int32) (x5 : Int32) (M : MT), fX7_leave_161 k84 x1 x2 x5 M = some (r, Mz) → mG p l e (headSpec wsX7_leave rmX7_leave).room s m (([.ref (ad 0), .int a1, .int a2] : List Value).toArray) below meth c (MQ below (mQi D ad cI cZ r Mz) (([.ref (ad 0), .int a1, .int a2] : List Value).toArray) s 0 0 (mA ad)) D ad cI cZ 7 M 161 [(0, .ref (ad 0)), (1, .int x1), (2, .int x2), (5, .int x5)] [] := by
    intro k84 hk84 x1 x2 x5 M h H locs ls hN hS hl
    unfold fX7_leave_161 at h
    obtain ⟨v27, ev27⟩ : ∃ y : Int32, y = (x5 + (1 : Int32)) := ⟨_, rfl⟩
    have h := bnd_ok h ev27
    refine lv_iinc (v := v27) (lv' := [(5, .int v27), (0, .ref (ad 0)), (1, .int x1), (2, .int x2)]) hx hb dX7_leave_161 hl (k := 3) rfl (by rw [ev27]; rfl) (by decide) rfl (fun ls hl => ?_)
    refine lv_goto (tgt := 84) hx hb dX7_leave_164 (by decide) ?_
    exact hk84 x1 x2 v27 M h _ _ _ hN hS (lv_sub hl [1, 2, 3, 0] rfl)
  have w119 : ∀ (k84 : Int32 → Int32 → Int32 → MT → Option (Int32 × MT)) (hk84 : (∀ (x1 : Int32) (x2 : Int32) (x5 : Int32) (M : MT), k84 x1 x2 x5 M = some (r, Mz) → mG p l e (headSpec wsX7_leave rmX7_leave).room s m (([.ref (ad 0), .int a1, .int a2] : List Value).toArray) below meth c (MQ below (mQi D ad cI cZ r Mz) (([.ref (ad 0), .int a1, .int a2] : List Value).toArray) s 0 0 (mA ad)) D ad cI cZ 7 M 84 [(0, .ref (ad 0)), (1, .int x1), (2, .int x2), (5, .int x5)] [])) (x1 : Int32) (x2 : Int32) (x5 : Int32) (x6 : Int32) (M : MT), lf5 (fX7_leave_119 k84) 100 x1 x2 x5 x6 M = some (r, Mz) → mG p l e (headSpec wsX7_leave rmX7_leave).room s m (([.ref (ad 0), .int a1, .int a2] : List Value).toArray) below meth c (MQ below (mQi D ad cI cZ r Mz) (([.ref (ad 0), .int a1, .int a2] : List Value).toArray) s 0 0 (mA ad)) D ad cI cZ 7 M 119 [(0, .ref (ad 0)), (1, .int x1), (2, .int x2), (5, .int x5), (6, .int x6)] [] := by
    intro k84 hk84
    refine lf5_ok (P := (fun x1 x2 x5 x6 M => mG p l e (headSpec wsX7_leave rmX7_leave).room s m (([.ref (ad 0), .int a1, .int a2] : List Value).toArray) below meth c (MQ below (mQi D ad cI cZ r Mz) (([.ref (ad 0), .int a1, .int a2] : List Value).toArray) s 0 0 (mA ad)) D ad cI cZ 7 M 119 [(0, .ref (ad 0)), (1, .int x1), (2, .int x2), (5, .int x5), (6, .int x6)] [])) (fun k119 hk119 x1 x2 x5 x6 M h H locs ls hN hS hl => ?_) 100
    unfold fX7_leave_119 at h
    refine lv_iload hx hb dX7_leave_119 (lv_at hl 4 rfl) ?_
    refine lv_bipush (v := (6 : Int32)) hx hb dX7_leave_121 (by decide) ?_
    refine lv_icmp_ge (tgt := 161) hx hb dX7_leave_123 (by decide) (fun hc => ?_) (fun hc => ?_)
    · have h := ite_t h hc
      exact w161 k84 hk84 x1 x2 x5 M h _ _ _ hN hS (lv_sub hl [0, 1, 2, 3] rfl)
    · have h := ite_f h hc
      refine lv_aload_n hx hb dX7_leave_126 rfl (lv_at hl 0 rfl) ?_
      refine mg_get hx hb hts hin hown hK hN 19 (by decide) l5 rfl (v := .ref (ad 19)) rfl dX7_leave_127 ?_
      refine lv_bipush (v := (6 : Int32)) hx hb dX7_leave_130 (by decide) ?_
      refine lv_iload hx hb dX7_leave_132 (lv_at hl 3 rfl) ?_
      refine lv_imul hx hb dX7_leave_134 ?_
      refine lv_iload hx hb dX7_leave_135 (lv_at hl 4 rfl) ?_
      refine lv_iadd hx hb dX7_leave_137 ?_
      refine lv_aload_n hx hb dX7_leave_138 rfl (lv_at hl 0 rfl) ?_
      refine mg_get hx hb hts hin hown hK hN 19 (by decide) l5 rfl (v := .ref (ad 19)) rfl dX7_leave_139 ?_
      refine lv_bipush (v := (6 : Int32)) hx hb dX7_leave_142 (by decide) ?_
      refine lv_iload hx hb dX7_leave_144 (lv_at hl 3 rfl) ?_
      refine lv_imul hx hb dX7_leave_146 ?_
      refine lv_bipush (v := (6 : Int32)) hx hb dX7_leave_147 (by decide) ?_
      refine lv_iadd hx hb dX7_leave_149 ?_
      refine lv_iload hx hb dX7_leave_150 (lv_at hl 4 rfl) ?_
      refine lv_iadd hx hb dX7_leave_152 ?_
      obtain ⟨g23, h⟩ := gd_ok h
      refine mg_ild hx hb hK hN 19 rfl (if_neg (by decide)) (gin_ok g23) dX7_leave_153 ?_
      obtain ⟨g24, h⟩ := gd_ok h
      obtain ⟨M25, eM25⟩ : ∃ y : MT, y = (va_up M 19 (upd (M 19) (Int32.toNatClampNeg (((6 : Int32) * x5) + x6)) (M 19 (Int32.toNatClampNeg ((((6 : Int32) * x5) + (6 : Int32)) + x6))))) := ⟨_, rfl⟩
      have h := bnd_ok h eM25
      refine mg_ist hx hb hI hK hN hS 19 rfl (if_neg (by decide)) (gin_ok g24) dX7_leave_154 eM25 (fun H locs hN hS => ?_)
      obtain ⟨v26, ev26⟩ : ∃ y : Int32, y = (x6 + (1 : Int32)) := ⟨_, rfl⟩
      have h := bnd_ok h ev26
      refine lv_iinc (v := v26) (lv' := [(6, .int v26), (0, .ref (ad 0)), (1, .int x1), (2, .int x2), (5, .int x5)]) hx hb dX7_leave_155 hl (k := 4) rfl (by rw [ev26]; rfl) (by decide) rfl (fun ls hl => ?_)
      refine lv_goto (tgt := 119) hx hb dX7_leave_158 (by decide) ?_
      exact hk119 x1 x2 x5 v26 M25 h _ _ _ hN hS (lv_sub hl [1, 2, 3, 4, 0] rfl)
  have w167 : ∀ (x1 : Int32) (x2 : Int32) (M : MT), fX7_leave_167  x1 x2 M = some (r, Mz) → mG p l e (headSpec wsX7_leave rmX7_leave).room s m (([.ref (ad 0), .int a1, .int a2] : List Value).toArray) below meth c (MQ below (mQi D ad cI cZ r Mz) (([.ref (ad 0), .int a1, .int a2] : List Value).toArray) s 0 0 (mA ad)) D ad cI cZ 7 M 167 [(0, .ref (ad 0)), (1, .int x1), (2, .int x2)] [] := by
    intro  x1 x2 M h H locs ls hN hS hl
    unfold fX7_leave_167 at h
    refine lv_aload_n hx hb dX7_leave_167 rfl (lv_at hl 0 rfl) ?_
    refine mg_get hx hb hts hin hown hK hN 13 (by decide) l2 rfl (v := .ref (ad 13)) rfl dX7_leave_168 ?_
    refine lv_iload_n hx hb dX7_leave_171 rfl (lv_at hl 1 rfl) ?_
    refine lv_iload_n hx hb dX7_leave_172 rfl (lv_at hl 2 rfl) ?_
    obtain ⟨g18, h⟩ := gd_ok h
    obtain ⟨M19, eM19⟩ : ∃ y : MT, y = (va_up M 13 (upd (M 13) (Int32.toNatClampNeg x1) x2)) := ⟨_, rfl⟩
    have h := bnd_ok h eM19
    refine mg_ist hx hb hI hK hN hS 13 rfl (if_neg (by decide)) (gin_ok g18) dX7_leave_173 eM19 (fun H locs hN hS => ?_)
    refine lv_aload_n hx hb dX7_leave_174 rfl (lv_at hl 0 rfl) ?_
    refine mg_get hx hb hts hin hown hK hN 14 (by decide) l3 rfl (v := .ref (ad 14)) rfl dX7_leave_175 ?_
    refine lv_iload_n hx hb dX7_leave_178 rfl (lv_at hl 1 rfl) ?_
    refine lv_aload_n hx hb dX7_leave_179 rfl (lv_at hl 0 rfl) ?_
    refine mg_get hx hb hts hin hown hK hN 1 (by decide) l4 rfl (v := .int (M19 1 0)) rfl dX7_leave_180 ?_
    obtain ⟨g20, h⟩ := gd_ok h
    obtain ⟨M21, eM21⟩ : ∃ y : MT, y = (va_up M19 14 (upd (M19 14) (Int32.toNatClampNeg x1) (M19 1 0))) := ⟨_, rfl⟩
    have h := bnd_ok h eM21
    refine mg_ist hx hb hI hK hN hS 14 rfl (if_neg (by decide)) (gin_ok g20) dX7_leave_183 eM21 (fun H locs hN hS => ?_)
    refine lv_aload_n hx hb dX7_leave_184 rfl (lv_at hl 0 rfl) ?_
    refine mg_get hx hb hts hin hown hK hN 15 (by decide) l0 rfl (v := .ref (ad 15)) rfl dX7_leave_185 ?_
    refine lv_iload_n hx hb dX7_leave_188 rfl (lv_at hl 2 rfl) ?_
    obtain ⟨g22, h⟩ := gd_ok h
    refine mg_ild hx hb hK hN 15 rfl (if_neg (by decide)) (gin_ok g22) dX7_leave_189 ?_
    exact W.iret hx hb hr (mg_endi h hI hK hN hS) hS.2.2 dX7_leave_190
  have w84 : ∀ (x1 : Int32) (x2 : Int32) (x5 : Int32) (M : MT), lf4 fX7_leave_84 100 x1 x2 x5 M = some (r, Mz) → mG p l e (headSpec wsX7_leave rmX7_leave).room s m (([.ref (ad 0), .int a1, .int a2] : List Value).toArray) below meth c (MQ below (mQi D ad cI cZ r Mz) (([.ref (ad 0), .int a1, .int a2] : List Value).toArray) s 0 0 (mA ad)) D ad cI cZ 7 M 84 [(0, .ref (ad 0)), (1, .int x1), (2, .int x2), (5, .int x5)] [] := by
    skip
    refine lf4_ok (P := (fun x1 x2 x5 M => mG p l e (headSpec wsX7_leave rmX7_leave).room s m (([.ref (ad 0), .int a1, .int a2] : List Value).toArray) below meth c (MQ below (mQi D ad cI cZ r Mz) (([.ref (ad 0), .int a1, .int a2] : List Value).toArray) s 0 0 (mA ad)) D ad cI cZ 7 M 84 [(0, .ref (ad 0)), (1, .int x1), (2, .int x2), (5, .int x5)] [])) (fun k84 hk84 x1 x2 x5 M h H locs ls hN hS hl => ?_) 100
    unfold fX7_leave_84 at h
    refine lv_iload hx hb dX7_leave_84 (lv_at hl 3 rfl) ?_
    refine lv_bipush (v := (8 : Int32)) hx hb dX7_leave_86 (by decide) ?_
    refine lv_iload_n hx hb dX7_leave_88 rfl (lv_at hl 2 rfl) ?_
    refine lv_imul hx hb dX7_leave_89 ?_
    refine lv_aload_n hx hb dX7_leave_90 rfl (lv_at hl 0 rfl) ?_
    refine mg_get hx hb hts hin hown hK hN 15 (by decide) l0 rfl (v := .ref (ad 15)) rfl dX7_leave_91 ?_
    refine lv_iload_n hx hb dX7_leave_94 rfl (lv_at hl 2 rfl) ?_
    obtain ⟨g14, h⟩ := gd_ok h
    refine mg_ild hx hb hK hN 15 rfl (if_neg (by decide)) (gin_ok g14) dX7_leave_95 ?_
    refine lv_iadd hx hb dX7_leave_96 ?_
    refine lv_icmp_ge (tgt := 167) hx hb dX7_leave_97 (by decide) (fun hc => ?_) (fun hc => ?_)
    · have h := ite_t h hc
      exact w167  x1 x2 M h _ _ _ hN hS (lv_sub hl [0, 1, 2] rfl)
    · have h := ite_f h hc
      refine lv_aload_n hx hb dX7_leave_100 rfl (lv_at hl 0 rfl) ?_
      refine mg_get hx hb hts hin hown hK hN 16 (by decide) l1 rfl (v := .ref (ad 16)) rfl dX7_leave_101 ?_
      refine lv_iload hx hb dX7_leave_104 (lv_at hl 3 rfl) ?_
      refine lv_aload_n hx hb dX7_leave_106 rfl (lv_at hl 0 rfl) ?_
      refine mg_get hx hb hts hin hown hK hN 16 (by decide) l1 rfl (v := .ref (ad 16)) rfl dX7_leave_107 ?_
      refine lv_iload hx hb dX7_leave_110 (lv_at hl 3 rfl) ?_
      refine lv_iconst (v := (1 : Int32)) hx hb dX7_leave_112 (by decide) ?_
      refine lv_iadd hx hb dX7_leave_113 ?_
      obtain ⟨g15, h⟩ := gd_ok h
      refine mg_ild hx hb hK hN 16 rfl (if_neg (by decide)) (gin_ok g15) dX7_leave_114 ?_
      obtain ⟨g16, h⟩ := gd_ok h
      obtain ⟨M17, eM17⟩ : ∃ y : MT, y = (va_up M 16 (upd (M 16) (Int32.toNatClampNeg x5) (M 16 (Int32.toNatClampNeg (x5 + (1 : Int32)))))) := ⟨_, rfl⟩
      have h := bnd_ok h eM17
      refine mg_ist hx hb hI hK hN hS 16 rfl (if_neg (by decide)) (gin_ok g16) dX7_leave_115 eM17 (fun H locs hN hS => ?_)
      refine lv_iconst (v := (0 : Int32)) hx hb dX7_leave_116 (by decide) ?_
      refine lv_istore (lv' := [(6, .int (0 : Int32)), (0, .ref (ad 0)), (1, .int x1), (2, .int x2), (5, .int x5)]) hx hb dX7_leave_117 hl (by decide) rfl (fun ls hl => ?_)
      exact w119 k84 hk84 x1 x2 x5 (0 : Int32) M17 h _ _ _ hN hS (lv_sub hl [1, 2, 3, 4, 0] rfl)
  have w57 : ∀ (x1 : Int32) (x2 : Int32) (x4 : Int32) (t0 : Int32) (M : MT), fX7_leave_57  x1 x2 x4 t0 M = some (r, Mz) → mG p l e (headSpec wsX7_leave rmX7_leave).room s m (([.ref (ad 0), .int a1, .int a2] : List Value).toArray) below meth c (MQ below (mQi D ad cI cZ r Mz) (([.ref (ad 0), .int a1, .int a2] : List Value).toArray) s 0 0 (mA ad)) D ad cI cZ 7 M 57 [(0, .ref (ad 0)), (1, .int x1), (2, .int x2), (4, .int x4)] [.int t0, .ref (ad 0)] := by
    intro  x1 x2 x4 t0 M h H locs ls hN hS hl
    unfold fX7_leave_57 at h
    obtain ⟨v7, M8, c9, h⟩ := cl2_ok h
    refine mg_calli (va_runV (As := [.int t0]) (rest := []) ⟨hx, hb, hml, hown, hts⟩ (mX7_holds l D ad cI cZ M t0 v7 M8 c9) (cwV 1 hts gX7_leave_X7_holds rfl rfl rfl (by decide +kernel) ⟨Nat.le_of_ble_eq_true rfl, Nat.le_of_ble_eq_true rfl⟩) (mg_preV hI hK hN) rfl rfl hl.1 rfl (lv_room (Nat.le_of_ble_eq_true rfl)) dX7_leave_57 ⟨Nat.zero_le _, Nat.zero_le _⟩) hS (fun H locs hN hS => ?_)
    refine lv_if_ne (tgt := 65) hx hb dX7_leave_60 (by decide) (fun hc => ?_) (fun hc => ?_)
    · have h := ite_f h hc
      refine lv_aload_n hx hb dX7_leave_65 rfl (lv_at hl 0 rfl) ?_
      refine mg_get hx hb hts hin hown hK hN 15 (by decide) l0 rfl (v := .ref (ad 15)) rfl dX7_leave_66 ?_
      refine lv_iload_n hx hb dX7_leave_69 rfl (lv_at hl 2 rfl) ?_
      refine lv_dup2_11 hx hb dX7_leave_70 rfl rfl ?_
      obtain ⟨g10, h⟩ := gd_ok h
      refine mg_ild hx hb hK hN 15 rfl (if_neg (by decide)) (gin_ok g10) dX7_leave_71 ?_
      refine lv_iconst (v := (1 : Int32)) hx hb dX7_leave_72 (by decide) ?_
      refine lv_isub hx hb dX7_leave_73 ?_
      obtain ⟨g11, h⟩ := gd_ok h
      obtain ⟨M12, eM12⟩ : ∃ y : MT, y = (va_up M8 15 (upd (M8 15) (Int32.toNatClampNeg x2) ((M8 15 (Int32.toNatClampNeg x2)) - (1 : Int32)))) := ⟨_, rfl⟩
      have h := bnd_ok h eM12
      refine mg_ist hx hb hI hK hN hS 15 rfl (if_neg (by decide)) (gin_ok g11) dX7_leave_74 eM12 (fun H locs hN hS => ?_)
      refine lv_bipush (v := (8 : Int32)) hx hb dX7_leave_75 (by decide) ?_
      refine lv_iload_n hx hb dX7_leave_77 rfl (lv_at hl 2 rfl) ?_
      refine lv_imul hx hb dX7_leave_78 ?_
      refine lv_iload hx hb dX7_leave_79 (lv_at hl 3 rfl) ?_
      refine lv_iadd hx hb dX7_leave_81 ?_
      refine lv_topi (fun v13 ev13 => ?_)
      have h := bnd_ok h ev13
      refine lv_istore (lv' := [(5, .int v13), (0, .ref (ad 0)), (1, .int x1), (2, .int x2), (4, .int x4)]) hx hb dX7_leave_82 hl (by decide) rfl (fun ls hl => ?_)
      exact w84  x1 x2 v13 M12 h _ _ _ hN hS (lv_sub hl [1, 2, 3, 0] rfl)
    · have h := ite_t h hc
      refine lv_iconst (v := (0 : Int32)) hx hb dX7_leave_63 (by decide) ?_
      exact W.iret hx hb hr (mg_endi h hI hK hN hS) hS.2.2 dX7_leave_64
  have w35 : ∀ (x1 : Int32) (x2 : Int32) (x3 : Int32) (t0 : Int32) (M : MT), fX7_leave_35  x1 x2 x3 t0 M = some (r, Mz) → mG p l e (headSpec wsX7_leave rmX7_leave).room s m (([.ref (ad 0), .int a1, .int a2] : List Value).toArray) below meth c (MQ below (mQi D ad cI cZ r Mz) (([.ref (ad 0), .int a1, .int a2] : List Value).toArray) s 0 0 (mA ad)) D ad cI cZ 7 M 35 [(0, .ref (ad 0)), (1, .int x1), (2, .int x2), (3, .int x3)] [.int t0] := by
    intro  x1 x2 x3 t0 M h H locs ls hN hS hl
    unfold fX7_leave_35 at h
    refine lv_istore (lv' := [(4, .int t0), (0, .ref (ad 0)), (1, .int x1), (2, .int x2), (3, .int x3)]) hx hb dX7_leave_35 hl (by decide) rfl (fun ls hl => ?_)
    refine lv_aload_n hx hb dX7_leave_37 rfl (lv_at hl 1 rfl) ?_
    refine lv_iload_n hx hb dX7_leave_38 rfl (lv_at hl 4 rfl) ?_
    refine lv_if_ne (tgt := 46) hx hb dX7_leave_39 (by decide) (fun hc => ?_) (fun hc => ?_)
    · have h := ite_f h hc
      refine lv_iload hx hb dX7_leave_46 (lv_at hl 0 rfl) ?_
      refine lv_iconst (v := (-1 : Int32)) hx hb dX7_leave_48 (by decide) ?_
      refine lv_icmp_ne (tgt := 56) hx hb dX7_leave_49 (by decide) (fun hc => ?_) (fun hc => ?_)
      · have h := ite_f h hc
        refine lv_iconst (v := (0 : Int32)) hx hb dX7_leave_56 (by decide) ?_
        exact w57  x1 x2 t0 (0 : Int32) M h _ _ _ hN hS (lv_sub hl [1, 2, 3, 0] rfl)
      · have h := ite_t h hc
        refine lv_iconst (v := (2 : Int32)) hx hb dX7_leave_52 (by decide) ?_
        refine lv_goto (tgt := 57) hx hb dX7_leave_53 (by decide) ?_
        exact w57  x1 x2 t0 (2 : Int32) M h _ _ _ hN hS (lv_sub hl [1, 2, 3, 0] rfl)
    · have h := ite_t h hc
      refine lv_iconst (v := (1 : Int32)) hx hb dX7_leave_42 (by decide) ?_
      refine lv_goto (tgt := 57) hx hb dX7_leave_43 (by decide) ?_
      exact w57  x1 x2 t0 (1 : Int32) M h _ _ _ hN hS (lv_sub hl [1, 2, 3, 0] rfl)
  have w20 : ∀ (x1 : Int32) (x2 : Int32) (t0 : Int32) (M : MT), fX7_leave_20  x1 x2 t0 M = some (r, Mz) → mG p l e (headSpec wsX7_leave rmX7_leave).room s m (([.ref (ad 0), .int a1, .int a2] : List Value).toArray) below meth c (MQ below (mQi D ad cI cZ r Mz) (([.ref (ad 0), .int a1, .int a2] : List Value).toArray) s 0 0 (mA ad)) D ad cI cZ 7 M 20 [(0, .ref (ad 0)), (1, .int x1), (2, .int x2)] [.int t0] := by
    intro  x1 x2 t0 M h H locs ls hN hS hl
    unfold fX7_leave_20 at h
    refine lv_istore_n (lv' := [(3, .int t0), (0, .ref (ad 0)), (1, .int x1), (2, .int x2)]) hx hb dX7_leave_20 rfl hl (by decide) rfl (fun ls hl => ?_)
    refine lv_iload_n hx hb dX7_leave_21 rfl (lv_at hl 0 rfl) ?_
    refine lv_if_eq (tgt := 34) hx hb dX7_leave_22 (by decide) (fun hc => ?_) (fun hc => ?_)
    · have h := ite_t h hc
      refine lv_iconst (v := (-1 : Int32)) hx hb dX7_leave_34 (by decide) ?_
      exact w35  x1 x2 t0 (-1 : Int32) M h _ _ _ hN hS (lv_sub hl [1, 2, 3, 0] rfl)
    · have h := ite_f h hc
      refine lv_aload_n hx hb dX7_leave_25 rfl (lv_at hl 1 rfl) ?_
      refine lv_iload_n hx hb dX7_leave_26 rfl (lv_at hl 2 rfl) ?_
      refine lv_iload_n hx hb dX7_leave_27 rfl (lv_at hl 3 rfl) ?_
      obtain ⟨v5, c6, h⟩ := cl1_ok h
      refine mg_calli (va_runV (As := [.int x1, .int x2]) (rest := []) ⟨hx, hb, hml, hown, hts⟩ (mX7_seatOf l D ad cI cZ M x1 x2 v5 c6) (cwV 2 hts gX7_leave_X7_seatOf rfl rfl rfl (by decide +kernel) ⟨Nat.le_of_ble_eq_true rfl, Nat.le_of_ble_eq_true rfl⟩) (mg_preV hI hK hN) rfl rfl hl.1 rfl (lv_room (Nat.le_of_ble_eq_true rfl)) dX7_leave_28 ⟨Nat.zero_le _, Nat.zero_le _⟩) hS (fun H locs hN hS => ?_)
      refine lv_goto (tgt := 35) hx hb dX7_leave_31 (by decide) ?_
      exact w35  x1 x2 t0 v5 M h _ _ _ hN hS (lv_sub hl [1, 2, 3, 0] rfl)
  have w19 : ∀ (x1 : Int32) (x2 : Int32) (M : MT), fX7_leave_19  x1 x2 M = some (r, Mz) → mG p l e (headSpec wsX7_leave rmX7_leave).room s m (([.ref (ad 0), .int a1, .int a2] : List Value).toArray) below meth c (MQ below (mQi D ad cI cZ r Mz) (([.ref (ad 0), .int a1, .int a2] : List Value).toArray) s 0 0 (mA ad)) D ad cI cZ 7 M 19 [(0, .ref (ad 0)), (1, .int x1), (2, .int x2)] [] := by
    intro  x1 x2 M h H locs ls hN hS hl
    unfold fX7_leave_19 at h
    refine lv_iconst (v := (0 : Int32)) hx hb dX7_leave_19 (by decide) ?_
    exact w20  x1 x2 (0 : Int32) M h _ _ _ hN hS (lv_sub hl [0, 1, 2] rfl)
  unfold fX7_leave at h
  refine lv_aload_n hx hb dX7_leave_0 rfl (lv_at hl 0 rfl) ?_
  refine lv_iload_n hx hb dX7_leave_1 rfl (lv_at hl 1 rfl) ?_
  obtain ⟨v1, c2, h⟩ := cl1_ok h
  refine mg_calli (va_runV (As := [.int a1]) (rest := []) ⟨hx, hb, hml, hown, hts⟩ (mX7_isPlayer l D ad cI cZ M a1 v1 c2) (cwV 1 hts gX7_leave_X7_isPlayer rfl rfl rfl (by decide +kernel) ⟨Nat.le_of_ble_eq_true rfl, Nat.le_of_ble_eq_true rfl⟩) (mg_preV hI hK hN) rfl rfl hl.1 rfl (lv_room (Nat.le_of_ble_eq_true rfl)) dX7_leave_2 ⟨Nat.zero_le _, Nat.zero_le _⟩) hS (fun H locs hN hS => ?_)
  refine lv_if_eq (tgt := 19) hx hb dX7_leave_5 (by decide) (fun hc => ?_) (fun hc => ?_)
  · have h := ite_t h hc
    exact w19  a1 a2 M h _ _ _ hN hS (lv_sub hl [0, 1, 2] rfl)
  · have h := ite_f h hc
    refine lv_iload_n hx hb dX7_leave_8 rfl (lv_at hl 2 rfl) ?_
    obtain ⟨v3, c4, h⟩ := cl1_ok h
    refine mg_calli (va_runS (As := [.int a2]) (rest := []) ⟨hx, hb, hml, hown, hts⟩ (mX7_isBand l D ad cI cZ M a2 v3 c4) (va_cwS 1 hts gX7_leave_X7_isBand rfl rfl rfl (by decide +kernel) ⟨Nat.le_of_ble_eq_true rfl, Nat.le_of_ble_eq_true rfl⟩) (mg_preS hI hK hN) rfl rfl hl.1 rfl (lv_room (Nat.le_of_ble_eq_true rfl)) dX7_leave_9 ⟨Nat.zero_le _, Nat.zero_le _⟩) hS (fun H locs hN hS => ?_)
    refine lv_if_eq (tgt := 19) hx hb dX7_leave_12 (by decide) (fun hc => ?_) (fun hc => ?_)
    · have h := ite_t h hc
      exact w19  a1 a2 M h _ _ _ hN hS (lv_sub hl [0, 1, 2] rfl)
    · have h := ite_f h hc
      refine lv_iconst (v := (1 : Int32)) hx hb dX7_leave_15 (by decide) ?_
      refine lv_goto (tgt := 20) hx hb dX7_leave_16 (by decide) ?_
      exact w20  a1 a2 (1 : Int32) M h _ _ _ hN hS (lv_sub hl [0, 1, 2] rfl)
def fX7_isGiven_31 (M : MT) (k4 : Int32 → Int32 → Int32 → Option (Int32)) (x1 : Int32) (x3 : Int32) (t0 : Int32) : Option (Int32) := bnd (x3 + (1 : Int32)) (fun v3 => k4 x1 t0 v3)
def fX7_isGiven_26 (M : MT) (k4 : Int32 → Int32 → Int32 → Option (Int32)) (x1 : Int32) (x3 : Int32) : Option (Int32) := fX7_isGiven_31 M k4 x1 x3 (1 : Int32)
def fX7_isGiven_38 (M : MT) (x2 : Int32) : Option (Int32) := gd (gbo x2) (some x2)
def fX7_isGiven_4 (M : MT) (k4 : Int32 → Int32 → Int32 → Option (Int32)) (x1 : Int32) (x2 : Int32) (x3 : Int32) : Option (Int32) := (if (M 10 0) ≤ x3 then fX7_isGiven_38 M x2 else (if x2 = 0 then gd (gin x3 16) ((if (M 12 (Int32.toNatClampNeg x3)) = x1 then fX7_isGiven_26 M k4 x1 x3 else fX7_isGiven_31 M k4 x1 x3 (0 : Int32))) else fX7_isGiven_26 M k4 x1 x3))
def fX7_isGiven (a1 : Int32) (M : MT) : Option (Int32) := lf3 (fX7_isGiven_4 M) 100 a1 (0 : Int32) (0 : Int32)
def rmX7_isGiven : Room := { frames := 1, cells := 0, slots := 0, locals := 15 }
set_option maxHeartbeats 4000000 in
set_option maxRecDepth 100000 in
theorem mX7_isGiven (l : Launch) (D : va_G) (ad : Nat → Nat) (cI cZ : ClassId) (M : MT) (a1 : Int32) (r : Int32) (h : fX7_isGiven a1 M = some r) : Met l yX7_isGiven wsX7_isGiven rmX7_isGiven (va_Pc [.ref (ad 0), .int a1] (mP D ad cI cZ M)) (mQi D ad cI cZ r M) 0 0 (mA ad) := by
  refine Met.ofW (cc := cX7_isGiven) (maxL := 4) (ret := some .boolean) (by decide) rfl ?_
  intro p e s m args below meth c s₁ B hml hv
  obtain ⟨rfl, hI, hN, hK⟩ := hv
  have hx := B.exec
  have hb := B.bytes
  have hr := B.returns
  have hts := atoms_spec (ws := wsX7_isGiven) B.pre
  have hown : s.vm.findClass RX7 = some m.cls := findClass_of_methodNamed B.named
  have hlocks := B.notSynchronized
  have hin : ∀ w ∈ wsX70, w ∈ wsX7_isGiven := fun w h => List.mem_cons_of_mem _ (List.mem_append_right _ h)
  have l0 := hts (.fieldLink RX7 98 "PanyardModel" "players" "I") (List.mem_of_getElem? (i := 1) rfl)
  have l1 := hts (.fieldLink RX7 32 "PanyardModel" "pan" "[I") (List.mem_of_getElem? (i := 2) rfl)
  have hS : va_S (mA ad) s.heap s.heap [] := va_S.rf
  have hl := lv_entry ([.ref (ad 0), .int a1]) (n := 4) (Nat.le_of_ble_eq_true rfl)
  rw [lg_entry_eq]
  generalize (lg_sl ([.ref (ad 0), .int a1]) ++ List.replicate (4 - (lg_sl ([.ref (ad 0), .int a1])).length) Slot.unset).toArray = ls at hl ⊢
  have hl : lv_has ls 4 [(0, .ref (ad 0)), (1, .int a1)] := hl
  have w31 : ∀ (k4 : Int32 → Int32 → Int32 → Option (Int32)) (hk4 : (∀ (x1 : Int32) (x2 : Int32) (x3 : Int32), k4 x1 x2 x3 = some r → mG p l e (headSpec wsX7_isGiven rmX7_isGiven).room s m (([.ref (ad 0), .int a1] : List Value).toArray) below meth c (MQ below (mQi D ad cI cZ r M) (([.ref (ad 0), .int a1] : List Value).toArray) s 0 0 (mA ad)) D ad cI cZ 4 M 4 [(0, .ref (ad 0)), (1, .int x1), (2, .int x2), (3, .int x3)] [])) (x1 : Int32) (x3 : Int32) (t0 : Int32), fX7_isGiven_31 M k4 x1 x3 t0 = some r → mG p l e (headSpec wsX7_isGiven rmX7_isGiven).room s m (([.ref (ad 0), .int a1] : List Value).toArray) below meth c (MQ below (mQi D ad cI cZ r M) (([.ref (ad 0), .int a1] : List Value).toArray) s 0 0 (mA ad)) D ad cI cZ 4 M 31 [(0, .ref (ad 0)), (1, .int x1), (3, .int x3)] [.int t0] := by
    intro k4 hk4 x1 x3 t0 h H locs ls hN hS hl
    unfold fX7_isGiven_31 at h
    refine lv_istore_n (lv' := [(2, .int t0), (0, .ref (ad 0)), (1, .int x1), (3, .int x3)]) hx hb dX7_isGiven_31 rfl hl (by decide) rfl (fun ls hl => ?_)
    obtain ⟨v3, ev3⟩ : ∃ y : Int32, y = (x3 + (1 : Int32)) := ⟨_, rfl⟩
    have h := bnd_ok h ev3
    refine lv_iinc (v := v3) (lv' := [(3, .int v3), (2, .int t0), (0, .ref (ad 0)), (1, .int x1)]) hx hb dX7_isGiven_32 hl (k := 3) rfl (by rw [ev3]; rfl) (by decide) rfl (fun ls hl => ?_)
    refine lv_goto (tgt := 4) hx hb dX7_isGiven_35 (by decide) ?_
    exact hk4 x1 t0 v3 h _ _ _ hN hS (lv_sub hl [2, 3, 1, 0] rfl)
  have w26 : ∀ (k4 : Int32 → Int32 → Int32 → Option (Int32)) (hk4 : (∀ (x1 : Int32) (x2 : Int32) (x3 : Int32), k4 x1 x2 x3 = some r → mG p l e (headSpec wsX7_isGiven rmX7_isGiven).room s m (([.ref (ad 0), .int a1] : List Value).toArray) below meth c (MQ below (mQi D ad cI cZ r M) (([.ref (ad 0), .int a1] : List Value).toArray) s 0 0 (mA ad)) D ad cI cZ 4 M 4 [(0, .ref (ad 0)), (1, .int x1), (2, .int x2), (3, .int x3)] [])) (x1 : Int32) (x3 : Int32), fX7_isGiven_26 M k4 x1 x3 = some r → mG p l e (headSpec wsX7_isGiven rmX7_isGiven).room s m (([.ref (ad 0), .int a1] : List Value).toArray) below meth c (MQ below (mQi D ad cI cZ r M) (([.ref (ad 0), .int a1] : List Value).toArray) s 0 0 (mA ad)) D ad cI cZ 4 M 26 [(0, .ref (ad 0)), (1, .int x1), (3, .int x3)] [] := by
    intro k4 hk4 x1 x3 h H locs ls hN hS hl
    unfold fX7_isGiven_26 at h
    refine lv_iconst (v := (1 : Int32)) hx hb dX7_isGiven_26 (by decide) ?_
    refine lv_goto (tgt := 31) hx hb dX7_isGiven_27 (by decide) ?_
    exact w31 k4 hk4 x1 x3 (1 : Int32) h _ _ _ hN hS (lv_sub hl [0, 1, 2] rfl)
  have w38 : ∀ (x2 : Int32), fX7_isGiven_38 M x2 = some r → mG p l e (headSpec wsX7_isGiven rmX7_isGiven).room s m (([.ref (ad 0), .int a1] : List Value).toArray) below meth c (MQ below (mQi D ad cI cZ r M) (([.ref (ad 0), .int a1] : List Value).toArray) s 0 0 (mA ad)) D ad cI cZ 4 M 38 [(0, .ref (ad 0)), (2, .int x2)] [] := by
    intro  x2 h H locs ls hN hS hl
    unfold fX7_isGiven_38 at h
    refine lv_iload_n hx hb dX7_isGiven_38 rfl (lv_at hl 1 rfl) ?_
    obtain ⟨g2, h⟩ := gd_ok h
    exact W.zret hx hb hr (gbo_ok g2) (mg_endr h hI hK hN hS) hS.2.2 dX7_isGiven_39
  have w4 : ∀ (x1 : Int32) (x2 : Int32) (x3 : Int32), lf3 (fX7_isGiven_4 M) 100 x1 x2 x3 = some r → mG p l e (headSpec wsX7_isGiven rmX7_isGiven).room s m (([.ref (ad 0), .int a1] : List Value).toArray) below meth c (MQ below (mQi D ad cI cZ r M) (([.ref (ad 0), .int a1] : List Value).toArray) s 0 0 (mA ad)) D ad cI cZ 4 M 4 [(0, .ref (ad 0)), (1, .int x1), (2, .int x2), (3, .int x3)] [] := by
    skip
    refine lf3_ok (P := (fun x1 x2 x3 => mG p l e (headSpec wsX7_isGiven rmX7_isGiven).room s m (([.ref (ad 0), .int a1] : List Value).toArray) below meth c (MQ below (mQi D ad cI cZ r M) (([.ref (ad 0), .int a1] : List Value).toArray) s 0 0 (mA ad)) D ad cI cZ 4 M 4 [(0, .ref (ad 0)), (1, .int x1), (2, .int x2), (3, .int x3)] [])) (fun k4 hk4 x1 x2 x3 h H locs ls hN hS hl => ?_) 100
    unfold fX7_isGiven_4 at h
    refine lv_iload_n hx hb dX7_isGiven_4 rfl (lv_at hl 3 rfl) ?_
    refine lv_aload_n hx hb dX7_isGiven_5 rfl (lv_at hl 0 rfl) ?_
    refine mg_get hx hb hts hin hown hK hN 10 (by decide) l0 rfl (v := .int (M 10 0)) rfl dX7_isGiven_6 ?_
    refine lv_icmp_ge (tgt := 38) hx hb dX7_isGiven_9 (by decide) (fun hc => ?_) (fun hc => ?_)
    · have h := ite_t h hc
      exact w38  x2 h _ _ _ hN hS (lv_sub hl [0, 2] rfl)
    · have h := ite_f h hc
      refine lv_iload_n hx hb dX7_isGiven_12 rfl (lv_at hl 2 rfl) ?_
      refine lv_if_ne (tgt := 26) hx hb dX7_isGiven_13 (by decide) (fun hc => ?_) (fun hc => ?_)
      · have h := ite_f h hc
        exact w26 k4 hk4 x1 x3 h _ _ _ hN hS (lv_sub hl [0, 1, 3] rfl)
      · have h := ite_t h hc
        refine lv_aload_n hx hb dX7_isGiven_16 rfl (lv_at hl 0 rfl) ?_
        refine mg_get hx hb hts hin hown hK hN 12 (by decide) l1 rfl (v := .ref (ad 12)) rfl dX7_isGiven_17 ?_
        refine lv_iload_n hx hb dX7_isGiven_20 rfl (lv_at hl 3 rfl) ?_
        obtain ⟨g1, h⟩ := gd_ok h
        refine mg_ild hx hb hK hN 12 rfl (if_neg (by decide)) (gin_ok g1) dX7_isGiven_21 ?_
        refine lv_iload_n hx hb dX7_isGiven_22 rfl (lv_at hl 1 rfl) ?_
        refine lv_icmp_ne (tgt := 30) hx hb dX7_isGiven_23 (by decide) (fun hc => ?_) (fun hc => ?_)
        · have h := ite_f h hc
          refine lv_iconst (v := (0 : Int32)) hx hb dX7_isGiven_30 (by decide) ?_
          exact w31 k4 hk4 x1 x3 (0 : Int32) h _ _ _ hN hS (lv_sub hl [0, 1, 3] rfl)
        · have h := ite_t h hc
          exact w26 k4 hk4 x1 x3 h _ _ _ hN hS (lv_sub hl [0, 1, 3] rfl)
  unfold fX7_isGiven at h
  refine lv_iconst (v := (0 : Int32)) hx hb dX7_isGiven_0 (by decide) ?_
  refine lv_istore_n (lv' := [(2, .int (0 : Int32)), (0, .ref (ad 0)), (1, .int a1)]) hx hb dX7_isGiven_1 rfl hl (by decide) rfl (fun ls hl => ?_)
  refine lv_iconst (v := (0 : Int32)) hx hb dX7_isGiven_2 (by decide) ?_
  refine lv_istore_n (lv' := [(3, .int (0 : Int32)), (2, .int (0 : Int32)), (0, .ref (ad 0)), (1, .int a1)]) hx hb dX7_isGiven_3 rfl hl (by decide) rfl (fun ls hl => ?_)
  exact w4  a1 (0 : Int32) (0 : Int32) h _ _ _ hN hS (lv_sub hl [2, 3, 1, 0] rfl)
def fX7_give_67 (M : MT) : Option (MT) := some M
def fX7_give_54 (x1 : Int32) (x2 : Int32) (t0 : Int32) (M : MT) : Option (MT) := cl2 (fX7_holds t0 M) (fun v8 M9 => (if v8 = 0 then fX7_give_67 M9 else gd (gin x1 16) (bnd (va_up M9 12 (upd (M9 12) (Int32.toNatClampNeg x1) x2)) (fun M12 => fX7_give_67 M12))))
def fX7_give_53 (x1 : Int32) (x2 : Int32) (M : MT) : Option (MT) := fX7_give_54 x1 x2 (2 : Int32) M
def fX7_give_21 (x1 : Int32) (x2 : Int32) (t0 : Int32) (M : MT) : Option (MT) := (if t0 = 0 then fX7_give_54 x1 x2 (1 : Int32) M else gd (gin x1 16) ((if (M 12 (Int32.toNatClampNeg x1)) = (-1 : Int32) then cl1 (fX7_isGiven x2 M) (fun v6 => (if v6 = 0 then fX7_give_54 x1 x2 (0 : Int32) M else fX7_give_53 x1 x2 M)) else fX7_give_53 x1 x2 M)))
def fX7_give_20 (x1 : Int32) (x2 : Int32) (M : MT) : Option (MT) := fX7_give_21 x1 x2 (0 : Int32) M
def fX7_give (a1 : Int32) (a2 : Int32) (M : MT) : Option (MT) := cl1 (fX7_isPlayer a1 M) (fun v1 => (if v1 = 0 then fX7_give_20 a1 a2 M else cl1 (fX7_isPan a2 M) (fun v3 => (if v3 = 0 then fX7_give_20 a1 a2 M else fX7_give_21 a1 a2 (1 : Int32) M))))
def rmX7_give : Room := { frames := 3, cells := 0, slots := 0, locals := 57 }
set_option maxHeartbeats 4000000 in
set_option maxRecDepth 100000 in
theorem mX7_give (l : Launch) (D : va_G) (ad : Nat → Nat) (cI cZ : ClassId) (M : MT) (a1 : Int32) (a2 : Int32) (Mz : MT) (h : fX7_give a1 a2 M = some Mz) : Met l yX7_give wsX7_give rmX7_give (va_Pc [.ref (ad 0), .int a1, .int a2] (mP D ad cI cZ M)) (mQv D ad cI cZ Mz) 0 0 (mA ad) := by
  refine Met.ofW (cc := cX7_give) (maxL := 4) (ret := none) (by decide) rfl ?_
  intro p e s m args below meth c s₁ B hml hv
  obtain ⟨rfl, hI, hN, hK⟩ := hv
  have hx := B.exec
  have hb := B.bytes
  have hr := B.returns
  have hts := atoms_spec (ws := wsX7_give) B.pre
  have hown : s.vm.findClass RX7 = some m.cls := findClass_of_methodNamed B.named
  have hlocks := B.notSynchronized
  have hin : ∀ w ∈ wsX70, w ∈ wsX7_give := fun w h => List.mem_cons_of_mem _ (List.mem_append_right _ h)
  have l0 := hts (.fieldLink RX7 32 "PanyardModel" "pan" "[I") (List.mem_of_getElem? (i := 1) rfl)
  have hS : va_S (mA ad) s.heap s.heap [] := va_S.rf
  have hl := lv_entry ([.ref (ad 0), .int a1, .int a2]) (n := 4) (Nat.le_of_ble_eq_true rfl)
  rw [lg_entry_eq]
  generalize (lg_sl ([.ref (ad 0), .int a1, .int a2]) ++ List.replicate (4 - (lg_sl ([.ref (ad 0), .int a1, .int a2])).length) Slot.unset).toArray = ls at hl ⊢
  have hl : lv_has ls 4 [(0, .ref (ad 0)), (1, .int a1), (2, .int a2)] := hl
  have w67 : ∀ (M : MT), fX7_give_67  M = some Mz → mG p l e (headSpec wsX7_give rmX7_give).room s m (([.ref (ad 0), .int a1, .int a2] : List Value).toArray) below meth c (MQ below (mQv D ad cI cZ Mz) (([.ref (ad 0), .int a1, .int a2] : List Value).toArray) s 0 0 (mA ad)) D ad cI cZ 4 M 67 [(0, .ref (ad 0))] [] := by
    intro  M h H locs ls hN hS hl
    unfold fX7_give_67 at h
    exact W.vret hx hb hr (mg_endv h hI hK hN hS) hS.2.2 dX7_give_67
  have w54 : ∀ (x1 : Int32) (x2 : Int32) (t0 : Int32) (M : MT), fX7_give_54  x1 x2 t0 M = some Mz → mG p l e (headSpec wsX7_give rmX7_give).room s m (([.ref (ad 0), .int a1, .int a2] : List Value).toArray) below meth c (MQ below (mQv D ad cI cZ Mz) (([.ref (ad 0), .int a1, .int a2] : List Value).toArray) s 0 0 (mA ad)) D ad cI cZ 4 M 54 [(0, .ref (ad 0)), (1, .int x1), (2, .int x2)] [.int t0, .ref (ad 0)] := by
    intro  x1 x2 t0 M h H locs ls hN hS hl
    unfold fX7_give_54 at h
    obtain ⟨v8, M9, c10, h⟩ := cl2_ok h
    refine mg_calli (va_runV (As := [.int t0]) (rest := []) ⟨hx, hb, hml, hown, hts⟩ (mX7_holds l D ad cI cZ M t0 v8 M9 c10) (cwV 1 hts gX7_give_X7_holds rfl rfl rfl (by decide +kernel) ⟨Nat.le_of_ble_eq_true rfl, Nat.le_of_ble_eq_true rfl⟩) (mg_preV hI hK hN) rfl rfl hl.1 rfl (lv_room (Nat.le_of_ble_eq_true rfl)) dX7_give_54 ⟨Nat.zero_le _, Nat.zero_le _⟩) hS (fun H locs hN hS => ?_)
    refine lv_if_eq (tgt := 67) hx hb dX7_give_57 (by decide) (fun hc => ?_) (fun hc => ?_)
    · have h := ite_t h hc
      exact w67  M9 h _ _ _ hN hS (lv_sub hl [0] rfl)
    · have h := ite_f h hc
      refine lv_aload_n hx hb dX7_give_60 rfl (lv_at hl 0 rfl) ?_
      refine mg_get hx hb hts hin hown hK hN 12 (by decide) l0 rfl (v := .ref (ad 12)) rfl dX7_give_61 ?_
      refine lv_iload_n hx hb dX7_give_64 rfl (lv_at hl 1 rfl) ?_
      refine lv_iload_n hx hb dX7_give_65 rfl (lv_at hl 2 rfl) ?_
      obtain ⟨g11, h⟩ := gd_ok h
      obtain ⟨M12, eM12⟩ : ∃ y : MT, y = (va_up M9 12 (upd (M9 12) (Int32.toNatClampNeg x1) x2)) := ⟨_, rfl⟩
      have h := bnd_ok h eM12
      refine mg_ist hx hb hI hK hN hS 12 rfl (if_neg (by decide)) (gin_ok g11) dX7_give_66 eM12 (fun H locs hN hS => ?_)
      exact w67  M12 h _ _ _ hN hS (lv_sub hl [0] rfl)
  have w53 : ∀ (x1 : Int32) (x2 : Int32) (M : MT), fX7_give_53  x1 x2 M = some Mz → mG p l e (headSpec wsX7_give rmX7_give).room s m (([.ref (ad 0), .int a1, .int a2] : List Value).toArray) below meth c (MQ below (mQv D ad cI cZ Mz) (([.ref (ad 0), .int a1, .int a2] : List Value).toArray) s 0 0 (mA ad)) D ad cI cZ 4 M 53 [(0, .ref (ad 0)), (1, .int x1), (2, .int x2)] [.ref (ad 0)] := by
    intro  x1 x2 M h H locs ls hN hS hl
    unfold fX7_give_53 at h
    refine lv_iconst (v := (2 : Int32)) hx hb dX7_give_53 (by decide) ?_
    exact w54  x1 x2 (2 : Int32) M h _ _ _ hN hS (lv_sub hl [0, 1, 2] rfl)
  have w21 : ∀ (x1 : Int32) (x2 : Int32) (t0 : Int32) (M : MT), fX7_give_21  x1 x2 t0 M = some Mz → mG p l e (headSpec wsX7_give rmX7_give).room s m (([.ref (ad 0), .int a1, .int a2] : List Value).toArray) below meth c (MQ below (mQv D ad cI cZ Mz) (([.ref (ad 0), .int a1, .int a2] : List Value).toArray) s 0 0 (mA ad)) D ad cI cZ 4 M 21 [(0, .ref (ad 0)), (1, .int x1), (2, .int x2)] [.int t0] := by
    intro  x1 x2 t0 M h H locs ls hN hS hl
    unfold fX7_give_21 at h
    refine lv_istore_n (lv' := [(3, .int t0), (0, .ref (ad 0)), (1, .int x1), (2, .int x2)]) hx hb dX7_give_21 rfl hl (by decide) rfl (fun ls hl => ?_)
    refine lv_aload_n hx hb dX7_give_22 rfl (lv_at hl 1 rfl) ?_
    refine lv_iload_n hx hb dX7_give_23 rfl (lv_at hl 0 rfl) ?_
    refine lv_if_ne (tgt := 31) hx hb dX7_give_24 (by decide) (fun hc => ?_) (fun hc => ?_)
    · have h := ite_f h hc
      refine lv_aload_n hx hb dX7_give_31 rfl (lv_at hl 1 rfl) ?_
      refine mg_get hx hb hts hin hown hK hN 12 (by decide) l0 rfl (v := .ref (ad 12)) rfl dX7_give_32 ?_
      refine lv_iload_n hx hb dX7_give_35 rfl (lv_at hl 2 rfl) ?_
      obtain ⟨g5, h⟩ := gd_ok h
      refine mg_ild hx hb hK hN 12 rfl (if_neg (by decide)) (gin_ok g5) dX7_give_36 ?_
      refine lv_iconst (v := (-1 : Int32)) hx hb dX7_give_37 (by decide) ?_
      refine lv_icmp_ne (tgt := 53) hx hb dX7_give_38 (by decide) (fun hc => ?_) (fun hc => ?_)
      · have h := ite_f h hc
        exact w53  x1 x2 M h _ _ _ hN hS (lv_sub hl [1, 2, 3] rfl)
      · have h := ite_t h hc
        refine lv_aload_n hx hb dX7_give_41 rfl (lv_at hl 1 rfl) ?_
        refine lv_iload_n hx hb dX7_give_42 rfl (lv_at hl 3 rfl) ?_
        obtain ⟨v6, c7, h⟩ := cl1_ok h
        refine mg_calli (va_runV (As := [.int x2]) (rest := [.ref (ad 0)]) ⟨hx, hb, hml, hown, hts⟩ (mX7_isGiven l D ad cI cZ M x2 v6 c7) (cwV 1 hts gX7_give_X7_isGiven rfl rfl rfl (by decide +kernel) ⟨Nat.le_of_ble_eq_true rfl, Nat.le_of_ble_eq_true rfl⟩) (mg_preV hI hK hN) rfl rfl hl.1 rfl (lv_room (Nat.le_of_ble_eq_true rfl)) dX7_give_43 ⟨Nat.zero_le _, Nat.zero_le _⟩) hS (fun H locs hN hS => ?_)
        refine lv_if_ne (tgt := 53) hx hb dX7_give_46 (by decide) (fun hc => ?_) (fun hc => ?_)
        · have h := ite_f h hc
          exact w53  x1 x2 M h _ _ _ hN hS (lv_sub hl [1, 2, 3] rfl)
        · have h := ite_t h hc
          refine lv_iconst (v := (0 : Int32)) hx hb dX7_give_49 (by decide) ?_
          refine lv_goto (tgt := 54) hx hb dX7_give_50 (by decide) ?_
          exact w54  x1 x2 (0 : Int32) M h _ _ _ hN hS (lv_sub hl [1, 2, 3] rfl)
    · have h := ite_t h hc
      refine lv_iconst (v := (1 : Int32)) hx hb dX7_give_27 (by decide) ?_
      refine lv_goto (tgt := 54) hx hb dX7_give_28 (by decide) ?_
      exact w54  x1 x2 (1 : Int32) M h _ _ _ hN hS (lv_sub hl [1, 2, 3] rfl)
  have w20 : ∀ (x1 : Int32) (x2 : Int32) (M : MT), fX7_give_20  x1 x2 M = some Mz → mG p l e (headSpec wsX7_give rmX7_give).room s m (([.ref (ad 0), .int a1, .int a2] : List Value).toArray) below meth c (MQ below (mQv D ad cI cZ Mz) (([.ref (ad 0), .int a1, .int a2] : List Value).toArray) s 0 0 (mA ad)) D ad cI cZ 4 M 20 [(0, .ref (ad 0)), (1, .int x1), (2, .int x2)] [] := by
    intro  x1 x2 M h H locs ls hN hS hl
    unfold fX7_give_20 at h
    refine lv_iconst (v := (0 : Int32)) hx hb dX7_give_20 (by decide) ?_
    exact w21  x1 x2 (0 : Int32) M h _ _ _ hN hS (lv_sub hl [0, 1, 2] rfl)
  unfold fX7_give at h
  refine lv_aload_n hx hb dX7_give_0 rfl (lv_at hl 0 rfl) ?_
  refine lv_iload_n hx hb dX7_give_1 rfl (lv_at hl 1 rfl) ?_
  obtain ⟨v1, c2, h⟩ := cl1_ok h
  refine mg_calli (va_runV (As := [.int a1]) (rest := []) ⟨hx, hb, hml, hown, hts⟩ (mX7_isPlayer l D ad cI cZ M a1 v1 c2) (cwV 1 hts gX7_give_X7_isPlayer rfl rfl rfl (by decide +kernel) ⟨Nat.le_of_ble_eq_true rfl, Nat.le_of_ble_eq_true rfl⟩) (mg_preV hI hK hN) rfl rfl hl.1 rfl (lv_room (Nat.le_of_ble_eq_true rfl)) dX7_give_2 ⟨Nat.zero_le _, Nat.zero_le _⟩) hS (fun H locs hN hS => ?_)
  refine lv_if_eq (tgt := 20) hx hb dX7_give_5 (by decide) (fun hc => ?_) (fun hc => ?_)
  · have h := ite_t h hc
    exact w20  a1 a2 M h _ _ _ hN hS (lv_sub hl [0, 1, 2] rfl)
  · have h := ite_f h hc
    refine lv_aload_n hx hb dX7_give_8 rfl (lv_at hl 0 rfl) ?_
    refine lv_iload_n hx hb dX7_give_9 rfl (lv_at hl 2 rfl) ?_
    obtain ⟨v3, c4, h⟩ := cl1_ok h
    refine mg_calli (va_runV (As := [.int a2]) (rest := []) ⟨hx, hb, hml, hown, hts⟩ (mX7_isPan l D ad cI cZ M a2 v3 c4) (cwV 1 hts gX7_give_X7_isPan rfl rfl rfl (by decide +kernel) ⟨Nat.le_of_ble_eq_true rfl, Nat.le_of_ble_eq_true rfl⟩) (mg_preV hI hK hN) rfl rfl hl.1 rfl (lv_room (Nat.le_of_ble_eq_true rfl)) dX7_give_10 ⟨Nat.zero_le _, Nat.zero_le _⟩) hS (fun H locs hN hS => ?_)
    refine lv_if_eq (tgt := 20) hx hb dX7_give_13 (by decide) (fun hc => ?_) (fun hc => ?_)
    · have h := ite_t h hc
      exact w20  a1 a2 M h _ _ _ hN hS (lv_sub hl [0, 1, 2] rfl)
    · have h := ite_f h hc
      refine lv_iconst (v := (1 : Int32)) hx hb dX7_give_16 (by decide) ?_
      refine lv_goto (tgt := 21) hx hb dX7_give_17 (by decide) ?_
      exact w21  a1 a2 (1 : Int32) M h _ _ _ hN hS (lv_sub hl [0, 1, 2] rfl)
def fX7_takeBack_30 (x1 : Int32) (t0 : Int32) (M : MT) : Option (Int32 × MT) := cl2 (fX7_holds t0 M) (fun v4 M5 => (if v4 = 0 then some ((0 : Int32), M5) else gd (gin x1 16) (bnd (M5 12 (Int32.toNatClampNeg x1)) (fun v8 => gd (gin x1 16) (bnd (va_up M5 12 (upd (M5 12) (Int32.toNatClampNeg x1) (-1 : Int32))) (fun M10 => some (v8, M10)))))))
def fX7_takeBack (a1 : Int32) (M : MT) : Option (Int32 × MT) := cl1 (fX7_isPlayer a1 M) (fun v1 => (if v1 = 0 then fX7_takeBack_30 a1 (1 : Int32) M else gd (gin a1 16) ((if (M 12 (Int32.toNatClampNeg a1)) = (-1 : Int32) then fX7_takeBack_30 a1 (2 : Int32) M else fX7_takeBack_30 a1 (0 : Int32) M))))
def rmX7_takeBack : Room := { frames := 3, cells := 0, slots := 0, locals := 57 }
set_option maxHeartbeats 4000000 in
set_option maxRecDepth 100000 in
theorem mX7_takeBack (l : Launch) (D : va_G) (ad : Nat → Nat) (cI cZ : ClassId) (M : MT) (a1 : Int32) (r : Int32) (Mz : MT) (h : fX7_takeBack a1 M = some (r, Mz)) : Met l yX7_takeBack wsX7_takeBack rmX7_takeBack (va_Pc [.ref (ad 0), .int a1] (mP D ad cI cZ M)) (mQi D ad cI cZ r Mz) 0 0 (mA ad) := by
  refine Met.ofW (cc := cX7_takeBack) (maxL := 4) (ret := some .int) (by decide) rfl ?_
  intro p e s m args below meth c s₁ B hml hv
  obtain ⟨rfl, hI, hN, hK⟩ := hv
  have hx := B.exec
  have hb := B.bytes
  have hr := B.returns
  have hts := atoms_spec (ws := wsX7_takeBack) B.pre
  have hown : s.vm.findClass RX7 = some m.cls := findClass_of_methodNamed B.named
  have hlocks := B.notSynchronized
  have hin : ∀ w ∈ wsX70, w ∈ wsX7_takeBack := fun w h => List.mem_cons_of_mem _ (List.mem_append_right _ h)
  have l0 := hts (.fieldLink RX7 32 "PanyardModel" "pan" "[I") (List.mem_of_getElem? (i := 1) rfl)
  have hS : va_S (mA ad) s.heap s.heap [] := va_S.rf
  have hl := lv_entry ([.ref (ad 0), .int a1]) (n := 4) (Nat.le_of_ble_eq_true rfl)
  rw [lg_entry_eq]
  generalize (lg_sl ([.ref (ad 0), .int a1]) ++ List.replicate (4 - (lg_sl ([.ref (ad 0), .int a1])).length) Slot.unset).toArray = ls at hl ⊢
  have hl : lv_has ls 4 [(0, .ref (ad 0)), (1, .int a1)] := hl
  have w30 : ∀ (x1 : Int32) (t0 : Int32) (M : MT), fX7_takeBack_30  x1 t0 M = some (r, Mz) → mG p l e (headSpec wsX7_takeBack rmX7_takeBack).room s m (([.ref (ad 0), .int a1] : List Value).toArray) below meth c (MQ below (mQi D ad cI cZ r Mz) (([.ref (ad 0), .int a1] : List Value).toArray) s 0 0 (mA ad)) D ad cI cZ 4 M 30 [(0, .ref (ad 0)), (1, .int x1)] [.int t0, .ref (ad 0)] := by
    intro  x1 t0 M h H locs ls hN hS hl
    unfold fX7_takeBack_30 at h
    obtain ⟨v4, M5, c6, h⟩ := cl2_ok h
    refine mg_calli (va_runV (As := [.int t0]) (rest := []) ⟨hx, hb, hml, hown, hts⟩ (mX7_holds l D ad cI cZ M t0 v4 M5 c6) (cwV 1 hts gX7_takeBack_X7_holds rfl rfl rfl (by decide +kernel) ⟨Nat.le_of_ble_eq_true rfl, Nat.le_of_ble_eq_true rfl⟩) (mg_preV hI hK hN) rfl rfl hl.1 rfl (lv_room (Nat.le_of_ble_eq_true rfl)) dX7_takeBack_30 ⟨Nat.zero_le _, Nat.zero_le _⟩) hS (fun H locs hN hS => ?_)
    refine lv_if_ne (tgt := 38) hx hb dX7_takeBack_33 (by decide) (fun hc => ?_) (fun hc => ?_)
    · have h := ite_f h hc
      refine lv_aload_n hx hb dX7_takeBack_38 rfl (lv_at hl 0 rfl) ?_
      refine mg_get hx hb hts hin hown hK hN 12 (by decide) l0 rfl (v := .ref (ad 12)) rfl dX7_takeBack_39 ?_
      refine lv_iload_n hx hb dX7_takeBack_42 rfl (lv_at hl 1 rfl) ?_
      obtain ⟨g7, h⟩ := gd_ok h
      refine mg_ild hx hb hK hN 12 rfl (if_neg (by decide)) (gin_ok g7) dX7_takeBack_43 ?_
      refine lv_topi (fun v8 ev8 => ?_)
      have h := bnd_ok h ev8
      refine lv_istore_n (lv' := [(3, .int v8), (0, .ref (ad 0)), (1, .int x1)]) hx hb dX7_takeBack_44 rfl hl (by decide) rfl (fun ls hl => ?_)
      refine lv_aload_n hx hb dX7_takeBack_45 rfl (lv_at hl 1 rfl) ?_
      refine mg_get hx hb hts hin hown hK hN 12 (by decide) l0 rfl (v := .ref (ad 12)) rfl dX7_takeBack_46 ?_
      refine lv_iload_n hx hb dX7_takeBack_49 rfl (lv_at hl 2 rfl) ?_
      refine lv_iconst (v := (-1 : Int32)) hx hb dX7_takeBack_50 (by decide) ?_
      obtain ⟨g9, h⟩ := gd_ok h
      obtain ⟨M10, eM10⟩ : ∃ y : MT, y = (va_up M5 12 (upd (M5 12) (Int32.toNatClampNeg x1) (-1 : Int32))) := ⟨_, rfl⟩
      have h := bnd_ok h eM10
      refine mg_ist hx hb hI hK hN hS 12 rfl (if_neg (by decide)) (gin_ok g9) dX7_takeBack_51 eM10 (fun H locs hN hS => ?_)
      refine lv_iload_n hx hb dX7_takeBack_52 rfl (lv_at hl 0 rfl) ?_
      exact W.iret hx hb hr (mg_endi h hI hK hN hS) hS.2.2 dX7_takeBack_53
    · have h := ite_t h hc
      refine lv_iconst (v := (0 : Int32)) hx hb dX7_takeBack_36 (by decide) ?_
      exact W.iret hx hb hr (mg_endi h hI hK hN hS) hS.2.2 dX7_takeBack_37
  unfold fX7_takeBack at h
  refine lv_aload_n hx hb dX7_takeBack_0 rfl (lv_at hl 0 rfl) ?_
  refine lv_iload_n hx hb dX7_takeBack_1 rfl (lv_at hl 1 rfl) ?_
  obtain ⟨v1, c2, h⟩ := cl1_ok h
  refine mg_calli (va_runV (As := [.int a1]) (rest := []) ⟨hx, hb, hml, hown, hts⟩ (mX7_isPlayer l D ad cI cZ M a1 v1 c2) (cwV 1 hts gX7_takeBack_X7_isPlayer rfl rfl rfl (by decide +kernel) ⟨Nat.le_of_ble_eq_true rfl, Nat.le_of_ble_eq_true rfl⟩) (mg_preV hI hK hN) rfl rfl hl.1 rfl (lv_room (Nat.le_of_ble_eq_true rfl)) dX7_takeBack_2 ⟨Nat.zero_le _, Nat.zero_le _⟩) hS (fun H locs hN hS => ?_)
  refine lv_istore_n (lv' := [(2, .int v1), (0, .ref (ad 0)), (1, .int a1)]) hx hb dX7_takeBack_5 rfl hl (by decide) rfl (fun ls hl => ?_)
  refine lv_aload_n hx hb dX7_takeBack_6 rfl (lv_at hl 1 rfl) ?_
  refine lv_iload_n hx hb dX7_takeBack_7 rfl (lv_at hl 0 rfl) ?_
  refine lv_if_ne (tgt := 15) hx hb dX7_takeBack_8 (by decide) (fun hc => ?_) (fun hc => ?_)
  · have h := ite_f h hc
    refine lv_aload_n hx hb dX7_takeBack_15 rfl (lv_at hl 1 rfl) ?_
    refine mg_get hx hb hts hin hown hK hN 12 (by decide) l0 rfl (v := .ref (ad 12)) rfl dX7_takeBack_16 ?_
    refine lv_iload_n hx hb dX7_takeBack_19 rfl (lv_at hl 2 rfl) ?_
    obtain ⟨g3, h⟩ := gd_ok h
    refine mg_ild hx hb hK hN 12 rfl (if_neg (by decide)) (gin_ok g3) dX7_takeBack_20 ?_
    refine lv_iconst (v := (-1 : Int32)) hx hb dX7_takeBack_21 (by decide) ?_
    refine lv_icmp_ne (tgt := 29) hx hb dX7_takeBack_22 (by decide) (fun hc => ?_) (fun hc => ?_)
    · have h := ite_f h hc
      refine lv_iconst (v := (0 : Int32)) hx hb dX7_takeBack_29 (by decide) ?_
      exact w30  a1 (0 : Int32) M h _ _ _ hN hS (lv_sub hl [1, 2] rfl)
    · have h := ite_t h hc
      refine lv_iconst (v := (2 : Int32)) hx hb dX7_takeBack_25 (by decide) ?_
      refine lv_goto (tgt := 30) hx hb dX7_takeBack_26 (by decide) ?_
      exact w30  a1 (2 : Int32) M h _ _ _ hN hS (lv_sub hl [1, 2] rfl)
  · have h := ite_t h hc
    refine lv_iconst (v := (1 : Int32)) hx hb dX7_takeBack_11 (by decide) ?_
    refine lv_goto (tgt := 30) hx hb dX7_takeBack_12 (by decide) ?_
    exact w30  a1 (1 : Int32) M h _ _ _ hN hS (lv_sub hl [1, 2] rfl)
def fX7_ofPlayer_67 (t0 : Int32) (M : MT) : Option (Int32 × MT) := some (t0, M)
def fX7_ofPlayer_27 (x1 : Int32) (x2 : Int32) (t0 : Int32) (M : MT) : Option (Int32 × MT) := cl2 (fX7_holds t0 M) (fun v5 M6 => (if v5 = 0 then some ((0 : Int32), M6) else (if x2 = 0 then gd (gin x1 16) (fX7_ofPlayer_67 (M6 11 (Int32.toNatClampNeg x1)) M6) else (if x2 = (1 : Int32) then cl1 (fX7_bandsOf x1 M6) (fun v9 => fX7_ofPlayer_67 v9 M6) else gd (gin x1 16) (fX7_ofPlayer_67 (M6 12 (Int32.toNatClampNeg x1)) M6)))))
def fX7_ofPlayer (a1 : Int32) (a2 : Int32) (M : MT) : Option (Int32 × MT) := cl1 (fX7_isPlayer a1 M) (fun v1 => (if v1 = 0 then fX7_ofPlayer_27 a1 a2 (1 : Int32) M else cl1 (fX7_isIn a2 (0 : Int32) (2 : Int32)) (fun v3 => (if v3 = 0 then fX7_ofPlayer_27 a1 a2 (2 : Int32) M else fX7_ofPlayer_27 a1 a2 (0 : Int32) M))))
def rmX7_ofPlayer : Room := { frames := 3, cells := 0, slots := 0, locals := 63 }
set_option maxHeartbeats 4000000 in
set_option maxRecDepth 100000 in
theorem mX7_ofPlayer (l : Launch) (D : va_G) (ad : Nat → Nat) (cI cZ : ClassId) (M : MT) (a1 : Int32) (a2 : Int32) (r : Int32) (Mz : MT) (h : fX7_ofPlayer a1 a2 M = some (r, Mz)) : Met l yX7_ofPlayer wsX7_ofPlayer rmX7_ofPlayer (va_Pc [.ref (ad 0), .int a1, .int a2] (mP D ad cI cZ M)) (mQi D ad cI cZ r Mz) 0 0 (mA ad) := by
  refine Met.ofW (cc := cX7_ofPlayer) (maxL := 3) (ret := some .int) (by decide) rfl ?_
  intro p e s m args below meth c s₁ B hml hv
  obtain ⟨rfl, hI, hN, hK⟩ := hv
  have hx := B.exec
  have hb := B.bytes
  have hr := B.returns
  have hts := atoms_spec (ws := wsX7_ofPlayer) B.pre
  have hown : s.vm.findClass RX7 = some m.cls := findClass_of_methodNamed B.named
  have hlocks := B.notSynchronized
  have hin : ∀ w ∈ wsX70, w ∈ wsX7_ofPlayer := fun w h => List.mem_cons_of_mem _ (List.mem_append_right _ h)
  have l0 := hts (.fieldLink RX7 32 "PanyardModel" "pan" "[I") (List.mem_of_getElem? (i := 2) rfl)
  have l1 := hts (.fieldLink RX7 29 "PanyardModel" "layout" "[I") (List.mem_of_getElem? (i := 1) rfl)
  have hS : va_S (mA ad) s.heap s.heap [] := va_S.rf
  have hl := lv_entry ([.ref (ad 0), .int a1, .int a2]) (n := 3) (Nat.le_of_ble_eq_true rfl)
  rw [lg_entry_eq]
  generalize (lg_sl ([.ref (ad 0), .int a1, .int a2]) ++ List.replicate (3 - (lg_sl ([.ref (ad 0), .int a1, .int a2])).length) Slot.unset).toArray = ls at hl ⊢
  have hl : lv_has ls 3 [(0, .ref (ad 0)), (1, .int a1), (2, .int a2)] := hl
  have w67 : ∀ (t0 : Int32) (M : MT), fX7_ofPlayer_67  t0 M = some (r, Mz) → mG p l e (headSpec wsX7_ofPlayer rmX7_ofPlayer).room s m (([.ref (ad 0), .int a1, .int a2] : List Value).toArray) below meth c (MQ below (mQi D ad cI cZ r Mz) (([.ref (ad 0), .int a1, .int a2] : List Value).toArray) s 0 0 (mA ad)) D ad cI cZ 3 M 67 [(0, .ref (ad 0))] [.int t0] := by
    intro  t0 M h H locs ls hN hS hl
    unfold fX7_ofPlayer_67 at h
    exact W.iret hx hb hr (mg_endi h hI hK hN hS) hS.2.2 dX7_ofPlayer_67
  have w27 : ∀ (x1 : Int32) (x2 : Int32) (t0 : Int32) (M : MT), fX7_ofPlayer_27  x1 x2 t0 M = some (r, Mz) → mG p l e (headSpec wsX7_ofPlayer rmX7_ofPlayer).room s m (([.ref (ad 0), .int a1, .int a2] : List Value).toArray) below meth c (MQ below (mQi D ad cI cZ r Mz) (([.ref (ad 0), .int a1, .int a2] : List Value).toArray) s 0 0 (mA ad)) D ad cI cZ 3 M 27 [(0, .ref (ad 0)), (1, .int x1), (2, .int x2)] [.int t0, .ref (ad 0)] := by
    intro  x1 x2 t0 M h H locs ls hN hS hl
    unfold fX7_ofPlayer_27 at h
    obtain ⟨v5, M6, c7, h⟩ := cl2_ok h
    refine mg_calli (va_runV (As := [.int t0]) (rest := []) ⟨hx, hb, hml, hown, hts⟩ (mX7_holds l D ad cI cZ M t0 v5 M6 c7) (cwV 1 hts gX7_ofPlayer_X7_holds rfl rfl rfl (by decide +kernel) ⟨Nat.le_of_ble_eq_true rfl, Nat.le_of_ble_eq_true rfl⟩) (mg_preV hI hK hN) rfl rfl hl.1 rfl (lv_room (Nat.le_of_ble_eq_true rfl)) dX7_ofPlayer_27 ⟨Nat.zero_le _, Nat.zero_le _⟩) hS (fun H locs hN hS => ?_)
    refine lv_if_ne (tgt := 35) hx hb dX7_ofPlayer_30 (by decide) (fun hc => ?_) (fun hc => ?_)
    · have h := ite_f h hc
      refine lv_iload_n hx hb dX7_ofPlayer_35 rfl (lv_at hl 2 rfl) ?_
      refine lv_if_ne (tgt := 48) hx hb dX7_ofPlayer_36 (by decide) (fun hc => ?_) (fun hc => ?_)
      · have h := ite_f h hc
        refine lv_iload_n hx hb dX7_ofPlayer_48 rfl (lv_at hl 2 rfl) ?_
        refine lv_iconst (v := (1 : Int32)) hx hb dX7_ofPlayer_49 (by decide) ?_
        refine lv_icmp_ne (tgt := 61) hx hb dX7_ofPlayer_50 (by decide) (fun hc => ?_) (fun hc => ?_)
        · have h := ite_f h hc
          refine lv_aload_n hx hb dX7_ofPlayer_61 rfl (lv_at hl 0 rfl) ?_
          refine mg_get hx hb hts hin hown hK hN 12 (by decide) l0 rfl (v := .ref (ad 12)) rfl dX7_ofPlayer_62 ?_
          refine lv_iload_n hx hb dX7_ofPlayer_65 rfl (lv_at hl 1 rfl) ?_
          obtain ⟨g8, h⟩ := gd_ok h
          refine mg_ild hx hb hK hN 12 rfl (if_neg (by decide)) (gin_ok g8) dX7_ofPlayer_66 ?_
          exact w67  (M6 12 (Int32.toNatClampNeg x1)) M6 h _ _ _ hN hS (lv_sub hl [0] rfl)
        · have h := ite_t h hc
          refine lv_aload_n hx hb dX7_ofPlayer_53 rfl (lv_at hl 0 rfl) ?_
          refine lv_iload_n hx hb dX7_ofPlayer_54 rfl (lv_at hl 1 rfl) ?_
          obtain ⟨v9, c10, h⟩ := cl1_ok h
          refine mg_calli (va_runV (As := [.int x1]) (rest := []) ⟨hx, hb, hml, hown, hts⟩ (mX7_bandsOf l D ad cI cZ M6 x1 v9 c10) (cwV 1 hts gX7_ofPlayer_X7_bandsOf rfl rfl rfl (by decide +kernel) ⟨Nat.le_of_ble_eq_true rfl, Nat.le_of_ble_eq_true rfl⟩) (mg_preV hI hK hN) rfl rfl hl.1 rfl (lv_room (Nat.le_of_ble_eq_true rfl)) dX7_ofPlayer_55 ⟨Nat.zero_le _, Nat.zero_le _⟩) hS (fun H locs hN hS => ?_)
          refine lv_goto (tgt := 67) hx hb dX7_ofPlayer_58 (by decide) ?_
          exact w67  v9 M6 h _ _ _ hN hS (lv_sub hl [0] rfl)
      · have h := ite_t h hc
        refine lv_aload_n hx hb dX7_ofPlayer_39 rfl (lv_at hl 0 rfl) ?_
        refine mg_get hx hb hts hin hown hK hN 11 (by decide) l1 rfl (v := .ref (ad 11)) rfl dX7_ofPlayer_40 ?_
        refine lv_iload_n hx hb dX7_ofPlayer_43 rfl (lv_at hl 1 rfl) ?_
        obtain ⟨g11, h⟩ := gd_ok h
        refine mg_ild hx hb hK hN 11 rfl (if_neg (by decide)) (gin_ok g11) dX7_ofPlayer_44 ?_
        refine lv_goto (tgt := 67) hx hb dX7_ofPlayer_45 (by decide) ?_
        exact w67  (M6 11 (Int32.toNatClampNeg x1)) M6 h _ _ _ hN hS (lv_sub hl [0] rfl)
    · have h := ite_t h hc
      refine lv_iconst (v := (0 : Int32)) hx hb dX7_ofPlayer_33 (by decide) ?_
      exact W.iret hx hb hr (mg_endi h hI hK hN hS) hS.2.2 dX7_ofPlayer_34
  unfold fX7_ofPlayer at h
  refine lv_aload_n hx hb dX7_ofPlayer_0 rfl (lv_at hl 0 rfl) ?_
  refine lv_aload_n hx hb dX7_ofPlayer_1 rfl (lv_at hl 0 rfl) ?_
  refine lv_iload_n hx hb dX7_ofPlayer_2 rfl (lv_at hl 1 rfl) ?_
  obtain ⟨v1, c2, h⟩ := cl1_ok h
  refine mg_calli (va_runV (As := [.int a1]) (rest := [.ref (ad 0)]) ⟨hx, hb, hml, hown, hts⟩ (mX7_isPlayer l D ad cI cZ M a1 v1 c2) (cwV 1 hts gX7_ofPlayer_X7_isPlayer rfl rfl rfl (by decide +kernel) ⟨Nat.le_of_ble_eq_true rfl, Nat.le_of_ble_eq_true rfl⟩) (mg_preV hI hK hN) rfl rfl hl.1 rfl (lv_room (Nat.le_of_ble_eq_true rfl)) dX7_ofPlayer_3 ⟨Nat.zero_le _, Nat.zero_le _⟩) hS (fun H locs hN hS => ?_)
  refine lv_if_ne (tgt := 13) hx hb dX7_ofPlayer_6 (by decide) (fun hc => ?_) (fun hc => ?_)
  · have h := ite_f h hc
    refine lv_iload_n hx hb dX7_ofPlayer_13 rfl (lv_at hl 2 rfl) ?_
    refine lv_iconst (v := (0 : Int32)) hx hb dX7_ofPlayer_14 (by decide) ?_
    refine lv_iconst (v := (2 : Int32)) hx hb dX7_ofPlayer_15 (by decide) ?_
    obtain ⟨v3, c4, h⟩ := cl1_ok h
    refine mg_calli (va_runS (As := [.int a2, .int (0 : Int32), .int (2 : Int32)]) (rest := [.ref (ad 0)]) ⟨hx, hb, hml, hown, hts⟩ (mX7_isIn l D ad cI cZ M a2 (0 : Int32) (2 : Int32) v3 c4) (va_cwS 3 hts gX7_ofPlayer_X7_isIn rfl rfl rfl (by decide +kernel) ⟨Nat.le_of_ble_eq_true rfl, Nat.le_of_ble_eq_true rfl⟩) (mg_preS hI hK hN) rfl rfl hl.1 rfl (lv_room (Nat.le_of_ble_eq_true rfl)) dX7_ofPlayer_16 ⟨Nat.zero_le _, Nat.zero_le _⟩) hS (fun H locs hN hS => ?_)
    refine lv_if_eq (tgt := 26) hx hb dX7_ofPlayer_19 (by decide) (fun hc => ?_) (fun hc => ?_)
    · have h := ite_t h hc
      refine lv_iconst (v := (2 : Int32)) hx hb dX7_ofPlayer_26 (by decide) ?_
      exact w27  a1 a2 (2 : Int32) M h _ _ _ hN hS (lv_sub hl [0, 1, 2] rfl)
    · have h := ite_f h hc
      refine lv_iconst (v := (0 : Int32)) hx hb dX7_ofPlayer_22 (by decide) ?_
      refine lv_goto (tgt := 27) hx hb dX7_ofPlayer_23 (by decide) ?_
      exact w27  a1 a2 (0 : Int32) M h _ _ _ hN hS (lv_sub hl [0, 1, 2] rfl)
  · have h := ite_t h hc
    refine lv_iconst (v := (1 : Int32)) hx hb dX7_ofPlayer_9 (by decide) ?_
    refine lv_goto (tgt := 27) hx hb dX7_ofPlayer_10 (by decide) ?_
    exact w27  a1 a2 (1 : Int32) M h _ _ _ hN hS (lv_sub hl [0, 1, 2] rfl)
def fX7_note_42 (x1 : Int32) (x2 : Int32) (t0 : Int32) (M : MT) : Option (Int32 × MT) := cl2 (fX7_holds t0 M) (fun v6 M7 => (if v6 = 0 then some ((0 : Int32), M7) else gd (gin x1 4) (gd (gin (((24 : Int32) * x1) + (M7 17 (Int32.toNatClampNeg x1))) 96) (bnd (va_up M7 18 (upd (M7 18) (Int32.toNatClampNeg (((24 : Int32) * x1) + (M7 17 (Int32.toNatClampNeg x1)))) x2)) (fun M11 => gd (gin x1 4) (gd (gin x1 4) (bnd (va_up M11 17 (upd (M11 17) (Int32.toNatClampNeg x1) ((M11 17 (Int32.toNatClampNeg x1)) + (1 : Int32)))) (fun M14 => gd (gin x1 4) (some ((M14 17 (Int32.toNatClampNeg x1)), M14))))))))))
def fX7_note (a1 : Int32) (a2 : Int32) (M : MT) : Option (Int32 × MT) := cl1 (fX7_isBand a1) (fun v1 => (if v1 = 0 then fX7_note_42 a1 a2 (1 : Int32) M else cl1 (fX7_isIn a2 (0 : Int32) (11 : Int32)) (fun v3 => (if v3 = 0 then fX7_note_42 a1 a2 (2 : Int32) M else gd (gin a1 4) ((if (M 17 (Int32.toNatClampNeg a1)) = (24 : Int32) then fX7_note_42 a1 a2 (3 : Int32) M else fX7_note_42 a1 a2 (0 : Int32) M))))))
def rmX7_note : Room := { frames := 3, cells := 0, slots := 0, locals := 56 }
set_option maxHeartbeats 4000000 in
set_option maxRecDepth 100000 in
theorem mX7_note (l : Launch) (D : va_G) (ad : Nat → Nat) (cI cZ : ClassId) (M : MT) (a1 : Int32) (a2 : Int32) (r : Int32) (Mz : MT) (h : fX7_note a1 a2 M = some (r, Mz)) : Met l yX7_note wsX7_note rmX7_note (va_Pc [.ref (ad 0), .int a1, .int a2] (mP D ad cI cZ M)) (mQi D ad cI cZ r Mz) 0 0 (mA ad) := by
  refine Met.ofW (cc := cX7_note) (maxL := 3) (ret := some .int) (by decide) rfl ?_
  intro p e s m args below meth c s₁ B hml hv
  obtain ⟨rfl, hI, hN, hK⟩ := hv
  have hx := B.exec
  have hb := B.bytes
  have hr := B.returns
  have hts := atoms_spec (ws := wsX7_note) B.pre
  have hown : s.vm.findClass RX7 = some m.cls := findClass_of_methodNamed B.named
  have hlocks := B.notSynchronized
  have hin : ∀ w ∈ wsX70, w ∈ wsX7_note := fun w h => List.mem_cons_of_mem _ (List.mem_append_right _ h)
  have l0 := hts (.fieldLink RX7 47 "PanyardModel" "notes" "[I") (List.mem_of_getElem? (i := 1) rfl)
  have l1 := hts (.fieldLink RX7 50 "PanyardModel" "note" "[I") (List.mem_of_getElem? (i := 2) rfl)
  have hS : va_S (mA ad) s.heap s.heap [] := va_S.rf
  have hl := lv_entry ([.ref (ad 0), .int a1, .int a2]) (n := 3) (Nat.le_of_ble_eq_true rfl)
  rw [lg_entry_eq]
  generalize (lg_sl ([.ref (ad 0), .int a1, .int a2]) ++ List.replicate (3 - (lg_sl ([.ref (ad 0), .int a1, .int a2])).length) Slot.unset).toArray = ls at hl ⊢
  have hl : lv_has ls 3 [(0, .ref (ad 0)), (1, .int a1), (2, .int a2)] := hl
  have w42 : ∀ (x1 : Int32) (x2 : Int32) (t0 : Int32) (M : MT), fX7_note_42  x1 x2 t0 M = some (r, Mz) → mG p l e (headSpec wsX7_note rmX7_note).room s m (([.ref (ad 0), .int a1, .int a2] : List Value).toArray) below meth c (MQ below (mQi D ad cI cZ r Mz) (([.ref (ad 0), .int a1, .int a2] : List Value).toArray) s 0 0 (mA ad)) D ad cI cZ 3 M 42 [(0, .ref (ad 0)), (1, .int x1), (2, .int x2)] [.int t0, .ref (ad 0)] := by
    intro  x1 x2 t0 M h H locs ls hN hS hl
    unfold fX7_note_42 at h
    obtain ⟨v6, M7, c8, h⟩ := cl2_ok h
    refine mg_calli (va_runV (As := [.int t0]) (rest := []) ⟨hx, hb, hml, hown, hts⟩ (mX7_holds l D ad cI cZ M t0 v6 M7 c8) (cwV 1 hts gX7_note_X7_holds rfl rfl rfl (by decide +kernel) ⟨Nat.le_of_ble_eq_true rfl, Nat.le_of_ble_eq_true rfl⟩) (mg_preV hI hK hN) rfl rfl hl.1 rfl (lv_room (Nat.le_of_ble_eq_true rfl)) dX7_note_42 ⟨Nat.zero_le _, Nat.zero_le _⟩) hS (fun H locs hN hS => ?_)
    refine lv_if_ne (tgt := 50) hx hb dX7_note_45 (by decide) (fun hc => ?_) (fun hc => ?_)
    · have h := ite_f h hc
      refine lv_aload_n hx hb dX7_note_50 rfl (lv_at hl 0 rfl) ?_
      refine mg_get hx hb hts hin hown hK hN 18 (by decide) l1 rfl (v := .ref (ad 18)) rfl dX7_note_51 ?_
      refine lv_bipush (v := (24 : Int32)) hx hb dX7_note_54 (by decide) ?_
      refine lv_iload_n hx hb dX7_note_56 rfl (lv_at hl 1 rfl) ?_
      refine lv_imul hx hb dX7_note_57 ?_
      refine lv_aload_n hx hb dX7_note_58 rfl (lv_at hl 0 rfl) ?_
      refine mg_get hx hb hts hin hown hK hN 17 (by decide) l0 rfl (v := .ref (ad 17)) rfl dX7_note_59 ?_
      refine lv_iload_n hx hb dX7_note_62 rfl (lv_at hl 1 rfl) ?_
      obtain ⟨g9, h⟩ := gd_ok h
      refine mg_ild hx hb hK hN 17 rfl (if_neg (by decide)) (gin_ok g9) dX7_note_63 ?_
      refine lv_iadd hx hb dX7_note_64 ?_
      refine lv_iload_n hx hb dX7_note_65 rfl (lv_at hl 2 rfl) ?_
      obtain ⟨g10, h⟩ := gd_ok h
      obtain ⟨M11, eM11⟩ : ∃ y : MT, y = (va_up M7 18 (upd (M7 18) (Int32.toNatClampNeg (((24 : Int32) * x1) + (M7 17 (Int32.toNatClampNeg x1)))) x2)) := ⟨_, rfl⟩
      have h := bnd_ok h eM11
      refine mg_ist hx hb hI hK hN hS 18 rfl (if_neg (by decide)) (gin_ok g10) dX7_note_66 eM11 (fun H locs hN hS => ?_)
      refine lv_aload_n hx hb dX7_note_67 rfl (lv_at hl 0 rfl) ?_
      refine mg_get hx hb hts hin hown hK hN 17 (by decide) l0 rfl (v := .ref (ad 17)) rfl dX7_note_68 ?_
      refine lv_iload_n hx hb dX7_note_71 rfl (lv_at hl 1 rfl) ?_
      refine lv_dup2_11 hx hb dX7_note_72 rfl rfl ?_
      obtain ⟨g12, h⟩ := gd_ok h
      refine mg_ild hx hb hK hN 17 rfl (if_neg (by decide)) (gin_ok g12) dX7_note_73 ?_
      refine lv_iconst (v := (1 : Int32)) hx hb dX7_note_74 (by decide) ?_
      refine lv_iadd hx hb dX7_note_75 ?_
      obtain ⟨g13, h⟩ := gd_ok h
      obtain ⟨M14, eM14⟩ : ∃ y : MT, y = (va_up M11 17 (upd (M11 17) (Int32.toNatClampNeg x1) ((M11 17 (Int32.toNatClampNeg x1)) + (1 : Int32)))) := ⟨_, rfl⟩
      have h := bnd_ok h eM14
      refine mg_ist hx hb hI hK hN hS 17 rfl (if_neg (by decide)) (gin_ok g13) dX7_note_76 eM14 (fun H locs hN hS => ?_)
      refine lv_aload_n hx hb dX7_note_77 rfl (lv_at hl 0 rfl) ?_
      refine mg_get hx hb hts hin hown hK hN 17 (by decide) l0 rfl (v := .ref (ad 17)) rfl dX7_note_78 ?_
      refine lv_iload_n hx hb dX7_note_81 rfl (lv_at hl 1 rfl) ?_
      obtain ⟨g15, h⟩ := gd_ok h
      refine mg_ild hx hb hK hN 17 rfl (if_neg (by decide)) (gin_ok g15) dX7_note_82 ?_
      exact W.iret hx hb hr (mg_endi h hI hK hN hS) hS.2.2 dX7_note_83
    · have h := ite_t h hc
      refine lv_iconst (v := (0 : Int32)) hx hb dX7_note_48 (by decide) ?_
      exact W.iret hx hb hr (mg_endi h hI hK hN hS) hS.2.2 dX7_note_49
  unfold fX7_note at h
  refine lv_aload_n hx hb dX7_note_0 rfl (lv_at hl 0 rfl) ?_
  refine lv_iload_n hx hb dX7_note_1 rfl (lv_at hl 1 rfl) ?_
  obtain ⟨v1, c2, h⟩ := cl1_ok h
  refine mg_calli (va_runS (As := [.int a1]) (rest := [.ref (ad 0)]) ⟨hx, hb, hml, hown, hts⟩ (mX7_isBand l D ad cI cZ M a1 v1 c2) (va_cwS 1 hts gX7_note_X7_isBand rfl rfl rfl (by decide +kernel) ⟨Nat.le_of_ble_eq_true rfl, Nat.le_of_ble_eq_true rfl⟩) (mg_preS hI hK hN) rfl rfl hl.1 rfl (lv_room (Nat.le_of_ble_eq_true rfl)) dX7_note_2 ⟨Nat.zero_le _, Nat.zero_le _⟩) hS (fun H locs hN hS => ?_)
  refine lv_if_ne (tgt := 12) hx hb dX7_note_5 (by decide) (fun hc => ?_) (fun hc => ?_)
  · have h := ite_f h hc
    refine lv_iload_n hx hb dX7_note_12 rfl (lv_at hl 2 rfl) ?_
    refine lv_iconst (v := (0 : Int32)) hx hb dX7_note_13 (by decide) ?_
    refine lv_bipush (v := (11 : Int32)) hx hb dX7_note_14 (by decide) ?_
    obtain ⟨v3, c4, h⟩ := cl1_ok h
    refine mg_calli (va_runS (As := [.int a2, .int (0 : Int32), .int (11 : Int32)]) (rest := [.ref (ad 0)]) ⟨hx, hb, hml, hown, hts⟩ (mX7_isIn l D ad cI cZ M a2 (0 : Int32) (11 : Int32) v3 c4) (va_cwS 3 hts gX7_note_X7_isIn rfl rfl rfl (by decide +kernel) ⟨Nat.le_of_ble_eq_true rfl, Nat.le_of_ble_eq_true rfl⟩) (mg_preS hI hK hN) rfl rfl hl.1 rfl (lv_room (Nat.le_of_ble_eq_true rfl)) dX7_note_16 ⟨Nat.zero_le _, Nat.zero_le _⟩) hS (fun H locs hN hS => ?_)
    refine lv_if_ne (tgt := 26) hx hb dX7_note_19 (by decide) (fun hc => ?_) (fun hc => ?_)
    · have h := ite_f h hc
      refine lv_aload_n hx hb dX7_note_26 rfl (lv_at hl 0 rfl) ?_
      refine mg_get hx hb hts hin hown hK hN 17 (by decide) l0 rfl (v := .ref (ad 17)) rfl dX7_note_27 ?_
      refine lv_iload_n hx hb dX7_note_30 rfl (lv_at hl 1 rfl) ?_
      obtain ⟨g5, h⟩ := gd_ok h
      refine mg_ild hx hb hK hN 17 rfl (if_neg (by decide)) (gin_ok g5) dX7_note_31 ?_
      refine lv_bipush (v := (24 : Int32)) hx hb dX7_note_32 (by decide) ?_
      refine lv_icmp_ne (tgt := 41) hx hb dX7_note_34 (by decide) (fun hc => ?_) (fun hc => ?_)
      · have h := ite_f h hc
        refine lv_iconst (v := (0 : Int32)) hx hb dX7_note_41 (by decide) ?_
        exact w42  a1 a2 (0 : Int32) M h _ _ _ hN hS (lv_sub hl [0, 1, 2] rfl)
      · have h := ite_t h hc
        refine lv_iconst (v := (3 : Int32)) hx hb dX7_note_37 (by decide) ?_
        refine lv_goto (tgt := 42) hx hb dX7_note_38 (by decide) ?_
        exact w42  a1 a2 (3 : Int32) M h _ _ _ hN hS (lv_sub hl [0, 1, 2] rfl)
    · have h := ite_t h hc
      refine lv_iconst (v := (2 : Int32)) hx hb dX7_note_22 (by decide) ?_
      refine lv_goto (tgt := 42) hx hb dX7_note_23 (by decide) ?_
      exact w42  a1 a2 (2 : Int32) M h _ _ _ hN hS (lv_sub hl [0, 1, 2] rfl)
  · have h := ite_t h hc
    refine lv_iconst (v := (1 : Int32)) hx hb dX7_note_8 (by decide) ?_
    refine lv_goto (tgt := 42) hx hb dX7_note_9 (by decide) ?_
    exact w42  a1 a2 (1 : Int32) M h _ _ _ hN hS (lv_sub hl [0, 1, 2] rfl)
def fX7_at (a1 : Int32) (a2 : Int32) (a3 : Int32) (M : MT) : Option (Int32) := some (((6 : Int32) * (((8 : Int32) * a1) + a2)) + a3)
def rmX7_at : Room := { frames := 1, cells := 0, slots := 0, locals := 15 }
set_option maxHeartbeats 4000000 in
set_option maxRecDepth 100000 in
theorem mX7_at (l : Launch) (D : va_G) (ad : Nat → Nat) (cI cZ : ClassId) (M : MT) (a1 : Int32) (a2 : Int32) (a3 : Int32) (r : Int32) (h : fX7_at a1 a2 a3 M = some r) : Met l yX7_at wsX7_at rmX7_at (va_Pc [.ref (ad 0), .int a1, .int a2, .int a3] (mP D ad cI cZ M)) (mQi D ad cI cZ r M) 0 0 (mA ad) := by
  refine Met.ofW (cc := cX7_at) (maxL := 4) (ret := some .int) (by decide) rfl ?_
  intro p e s m args below meth c s₁ B hml hv
  obtain ⟨rfl, hI, hN, hK⟩ := hv
  have hx := B.exec
  have hb := B.bytes
  have hr := B.returns
  have hts := atoms_spec (ws := wsX7_at) B.pre
  have hown : s.vm.findClass RX7 = some m.cls := findClass_of_methodNamed B.named
  have hlocks := B.notSynchronized
  have hS : va_S (mA ad) s.heap s.heap [] := va_S.rf
  have hl := lv_entry ([.ref (ad 0), .int a1, .int a2, .int a3]) (n := 4) (Nat.le_of_ble_eq_true rfl)
  rw [lg_entry_eq]
  generalize (lg_sl ([.ref (ad 0), .int a1, .int a2, .int a3]) ++ List.replicate (4 - (lg_sl ([.ref (ad 0), .int a1, .int a2, .int a3])).length) Slot.unset).toArray = ls at hl ⊢
  have hl : lv_has ls 4 [(0, .ref (ad 0)), (1, .int a1), (2, .int a2), (3, .int a3)] := hl
  unfold fX7_at at h
  refine lv_bipush (v := (6 : Int32)) hx hb dX7_at_0 (by decide) ?_
  refine lv_bipush (v := (8 : Int32)) hx hb dX7_at_2 (by decide) ?_
  refine lv_iload_n hx hb dX7_at_4 rfl (lv_at hl 1 rfl) ?_
  refine lv_imul hx hb dX7_at_5 ?_
  refine lv_iload_n hx hb dX7_at_6 rfl (lv_at hl 2 rfl) ?_
  refine lv_iadd hx hb dX7_at_7 ?_
  refine lv_imul hx hb dX7_at_8 ?_
  refine lv_iload_n hx hb dX7_at_9 rfl (lv_at hl 3 rfl) ?_
  refine lv_iadd hx hb dX7_at_10 ?_
  exact W.iret hx hb hr (mg_endr h hI hK hN hS) hS.2.2 dX7_at_11
def fX7_change_148 (k91 : Int32 → Int32 → Int32 → Int32 → Int32 → MT → Option (Int32 × MT)) (x1 : Int32) (x2 : Int32) (x3 : Int32) (x5 : Int32) (x6 : Int32) (t0 : Int32) (t1 : Int32) (M : MT) : Option (Int32 × MT) := gd (gin t1 192) (bnd (va_up M 19 (upd (M 19) (Int32.toNatClampNeg t1) t0)) (fun M21 => bnd (x6 + (1 : Int32)) (fun v22 => k91 x1 x2 x3 x5 v22 M21)))
def fX7_change_155 (x5 : Int32) (M : MT) : Option (Int32 × MT) := some (x5, M)
def fX7_change_91 (k91 : Int32 → Int32 → Int32 → Int32 → Int32 → MT → Option (Int32 × MT)) (x1 : Int32) (x2 : Int32) (x3 : Int32) (x5 : Int32) (x6 : Int32) (M : MT) : Option (Int32 × MT) := gd (gin x1 4) ((if (M 15 (Int32.toNatClampNeg x1)) ≤ x6 then fX7_change_155 x5 M else (if x5 = x3 then fX7_change_155 x5 M else cl1 (fX7_at x1 x6 (x2 / (4 : Int32)) M) (fun v16 => gd (gin v16 192) ((if (M 19 (Int32.toNatClampNeg v16)) = (1 : Int32) then fX7_change_148 k91 x1 x2 x3 x5 x6 (2 : Int32) v16 M else gd (gin v16 192) (fX7_change_148 k91 x1 x2 x3 x5 x6 (M 19 (Int32.toNatClampNeg v16)) v16 M)))))))
def fX7_change_55 (x1 : Int32) (x2 : Int32) (x3 : Int32) (t0 : Int32) (M : MT) : Option (Int32 × MT) := cl2 (fX7_holds t0 M) (fun v8 M9 => (if v8 = 0 then some ((0 : Int32), M9) else gd (gin (((24 : Int32) * x1) + x2) 96) (bnd (M9 18 (Int32.toNatClampNeg (((24 : Int32) * x1) + x2))) (fun v12 => gd (gin (((24 : Int32) * x1) + x2) 96) (bnd (va_up M9 18 (upd (M9 18) (Int32.toNatClampNeg (((24 : Int32) * x1) + x2)) x3)) (fun M14 => lf6 fX7_change_91 100 x1 x2 x3 v12 (0 : Int32) M14))))))
def fX7_change_28 (x1 : Int32) (x2 : Int32) (x3 : Int32) (t0 : Int32) (M : MT) : Option (Int32 × MT) := (if t0 = 0 then fX7_change_55 x1 x2 x3 (1 : Int32) M else cl1 (fX7_isIn x3 (0 : Int32) (11 : Int32)) (fun v6 => (if v6 = 0 then fX7_change_55 x1 x2 x3 (2 : Int32) M else fX7_change_55 x1 x2 x3 (0 : Int32) M)))
def fX7_change_27 (x1 : Int32) (x2 : Int32) (x3 : Int32) (M : MT) : Option (Int32 × MT) := fX7_change_28 x1 x2 x3 (0 : Int32) M
def fX7_change (a1 : Int32) (a2 : Int32) (a3 : Int32) (M : MT) : Option (Int32 × MT) := cl1 (fX7_isBand a1) (fun v1 => (if v1 = 0 then fX7_change_27 a1 a2 a3 M else gd (gin a1 4) (cl1 (fX7_isIn a2 (0 : Int32) ((M 17 (Int32.toNatClampNeg a1)) - (1 : Int32))) (fun v4 => (if v4 = 0 then fX7_change_27 a1 a2 a3 M else fX7_change_28 a1 a2 a3 (1 : Int32) M)))))
def rmX7_change : Room := { frames := 3, cells := 0, slots := 0, locals := 56 }
set_option maxHeartbeats 4000000 in
set_option maxRecDepth 100000 in
theorem mX7_change (l : Launch) (D : va_G) (ad : Nat → Nat) (cI cZ : ClassId) (M : MT) (a1 : Int32) (a2 : Int32) (a3 : Int32) (r : Int32) (Mz : MT) (h : fX7_change a1 a2 a3 M = some (r, Mz)) : Met l yX7_change wsX7_change rmX7_change (va_Pc [.ref (ad 0), .int a1, .int a2, .int a3] (mP D ad cI cZ M)) (mQi D ad cI cZ r Mz) 0 0 (mA ad) := by
  refine Met.ofW (cc := cX7_change) (maxL := 8) (ret := some .int) (by decide) rfl ?_
  intro p e s m args below meth c s₁ B hml hv
  obtain ⟨rfl, hI, hN, hK⟩ := hv
  have hx := B.exec
  have hb := B.bytes
  have hr := B.returns
  have hts := atoms_spec (ws := wsX7_change) B.pre
  have hown : s.vm.findClass RX7 = some m.cls := findClass_of_methodNamed B.named
  have hlocks := B.notSynchronized
  have hin : ∀ w ∈ wsX70, w ∈ wsX7_change := fun w h => List.mem_cons_of_mem _ (List.mem_append_right _ h)
  have l0 := hts (.fieldLink RX7 47 "PanyardModel" "notes" "[I") (List.mem_of_getElem? (i := 1) rfl)
  have l1 := hts (.fieldLink RX7 50 "PanyardModel" "note" "[I") (List.mem_of_getElem? (i := 2) rfl)
  have l2 := hts (.fieldLink RX7 41 "PanyardModel" "seats" "[I") (List.mem_of_getElem? (i := 3) rfl)
  have l3 := hts (.fieldLink RX7 53 "PanyardModel" "known" "[I") (List.mem_of_getElem? (i := 4) rfl)
  have hS : va_S (mA ad) s.heap s.heap [] := va_S.rf
  have hl := lv_entry ([.ref (ad 0), .int a1, .int a2, .int a3]) (n := 8) (Nat.le_of_ble_eq_true rfl)
  rw [lg_entry_eq]
  generalize (lg_sl ([.ref (ad 0), .int a1, .int a2, .int a3]) ++ List.replicate (8 - (lg_sl ([.ref (ad 0), .int a1, .int a2, .int a3])).length) Slot.unset).toArray = ls at hl ⊢
  have hl : lv_has ls 8 [(0, .ref (ad 0)), (1, .int a1), (2, .int a2), (3, .int a3)] := hl
  have w148 : ∀ (k91 : Int32 → Int32 → Int32 → Int32 → Int32 → MT → Option (Int32 × MT)) (hk91 : (∀ (x1 : Int32) (x2 : Int32) (x3 : Int32) (x5 : Int32) (x6 : Int32) (M : MT), k91 x1 x2 x3 x5 x6 M = some (r, Mz) → mG p l e (headSpec wsX7_change rmX7_change).room s m (([.ref (ad 0), .int a1, .int a2, .int a3] : List Value).toArray) below meth c (MQ below (mQi D ad cI cZ r Mz) (([.ref (ad 0), .int a1, .int a2, .int a3] : List Value).toArray) s 0 0 (mA ad)) D ad cI cZ 8 M 91 [(0, .ref (ad 0)), (1, .int x1), (2, .int x2), (3, .int x3), (5, .int x5), (6, .int x6)] [])) (x1 : Int32) (x2 : Int32) (x3 : Int32) (x5 : Int32) (x6 : Int32) (t0 : Int32) (t1 : Int32) (M : MT), fX7_change_148 k91 x1 x2 x3 x5 x6 t0 t1 M = some (r, Mz) → mG p l e (headSpec wsX7_change rmX7_change).room s m (([.ref (ad 0), .int a1, .int a2, .int a3] : List Value).toArray) below meth c (MQ below (mQi D ad cI cZ r Mz) (([.ref (ad 0), .int a1, .int a2, .int a3] : List Value).toArray) s 0 0 (mA ad)) D ad cI cZ 8 M 148 [(0, .ref (ad 0)), (1, .int x1), (2, .int x2), (3, .int x3), (5, .int x5), (6, .int x6)] [.int t0, .int t1, .ref (ad 19)] := by
    intro k91 hk91 x1 x2 x3 x5 x6 t0 t1 M h H locs ls hN hS hl
    unfold fX7_change_148 at h
    obtain ⟨g20, h⟩ := gd_ok h
    obtain ⟨M21, eM21⟩ : ∃ y : MT, y = (va_up M 19 (upd (M 19) (Int32.toNatClampNeg t1) t0)) := ⟨_, rfl⟩
    have h := bnd_ok h eM21
    refine mg_ist hx hb hI hK hN hS 19 rfl (if_neg (by decide)) (gin_ok g20) dX7_change_148 eM21 (fun H locs hN hS => ?_)
    obtain ⟨v22, ev22⟩ : ∃ y : Int32, y = (x6 + (1 : Int32)) := ⟨_, rfl⟩
    have h := bnd_ok h ev22
    refine lv_iinc (v := v22) (lv' := [(6, .int v22), (0, .ref (ad 0)), (1, .int x1), (2, .int x2), (3, .int x3), (5, .int x5)]) hx hb dX7_change_149 hl (k := 5) rfl (by rw [ev22]; rfl) (by decide) rfl (fun ls hl => ?_)
    refine lv_goto (tgt := 91) hx hb dX7_change_152 (by decide) ?_
    exact hk91 x1 x2 x3 x5 v22 M21 h _ _ _ hN hS (lv_sub hl [1, 2, 3, 4, 5, 0] rfl)
  have w155 : ∀ (x5 : Int32) (M : MT), fX7_change_155  x5 M = some (r, Mz) → mG p l e (headSpec wsX7_change rmX7_change).room s m (([.ref (ad 0), .int a1, .int a2, .int a3] : List Value).toArray) below meth c (MQ below (mQi D ad cI cZ r Mz) (([.ref (ad 0), .int a1, .int a2, .int a3] : List Value).toArray) s 0 0 (mA ad)) D ad cI cZ 8 M 155 [(0, .ref (ad 0)), (5, .int x5)] [] := by
    intro  x5 M h H locs ls hN hS hl
    unfold fX7_change_155 at h
    refine lv_iload hx hb dX7_change_155 (lv_at hl 1 rfl) ?_
    exact W.iret hx hb hr (mg_endi h hI hK hN hS) hS.2.2 dX7_change_157
  have w91 : ∀ (x1 : Int32) (x2 : Int32) (x3 : Int32) (x5 : Int32) (x6 : Int32) (M : MT), lf6 fX7_change_91 100 x1 x2 x3 x5 x6 M = some (r, Mz) → mG p l e (headSpec wsX7_change rmX7_change).room s m (([.ref (ad 0), .int a1, .int a2, .int a3] : List Value).toArray) below meth c (MQ below (mQi D ad cI cZ r Mz) (([.ref (ad 0), .int a1, .int a2, .int a3] : List Value).toArray) s 0 0 (mA ad)) D ad cI cZ 8 M 91 [(0, .ref (ad 0)), (1, .int x1), (2, .int x2), (3, .int x3), (5, .int x5), (6, .int x6)] [] := by
    skip
    refine lf6_ok (P := (fun x1 x2 x3 x5 x6 M => mG p l e (headSpec wsX7_change rmX7_change).room s m (([.ref (ad 0), .int a1, .int a2, .int a3] : List Value).toArray) below meth c (MQ below (mQi D ad cI cZ r Mz) (([.ref (ad 0), .int a1, .int a2, .int a3] : List Value).toArray) s 0 0 (mA ad)) D ad cI cZ 8 M 91 [(0, .ref (ad 0)), (1, .int x1), (2, .int x2), (3, .int x3), (5, .int x5), (6, .int x6)] [])) (fun k91 hk91 x1 x2 x3 x5 x6 M h H locs ls hN hS hl => ?_) 100
    unfold fX7_change_91 at h
    refine lv_iload hx hb dX7_change_91 (lv_at hl 5 rfl) ?_
    refine lv_aload_n hx hb dX7_change_93 rfl (lv_at hl 0 rfl) ?_
    refine mg_get hx hb hts hin hown hK hN 15 (by decide) l2 rfl (v := .ref (ad 15)) rfl dX7_change_94 ?_
    refine lv_iload_n hx hb dX7_change_97 rfl (lv_at hl 1 rfl) ?_
    obtain ⟨g15, h⟩ := gd_ok h
    refine mg_ild hx hb hK hN 15 rfl (if_neg (by decide)) (gin_ok g15) dX7_change_98 ?_
    refine lv_icmp_ge (tgt := 155) hx hb dX7_change_99 (by decide) (fun hc => ?_) (fun hc => ?_)
    · have h := ite_t h hc
      exact w155  x5 M h _ _ _ hN hS (lv_sub hl [0, 4] rfl)
    · have h := ite_f h hc
      refine lv_iload hx hb dX7_change_102 (lv_at hl 4 rfl) ?_
      refine lv_iload_n hx hb dX7_change_104 rfl (lv_at hl 3 rfl) ?_
      refine lv_icmp_eq (tgt := 155) hx hb dX7_change_105 (by decide) (fun hc => ?_) (fun hc => ?_)
      · have h := ite_t h hc
        exact w155  x5 M h _ _ _ hN hS (lv_sub hl [0, 4] rfl)
      · have h := ite_f h hc
        refine lv_aload_n hx hb dX7_change_108 rfl (lv_at hl 0 rfl) ?_
        refine lv_iload_n hx hb dX7_change_109 rfl (lv_at hl 1 rfl) ?_
        refine lv_iload hx hb dX7_change_110 (lv_at hl 5 rfl) ?_
        refine lv_iload_n hx hb dX7_change_112 rfl (lv_at hl 2 rfl) ?_
        refine lv_iconst (v := (4 : Int32)) hx hb dX7_change_113 (by decide) ?_
        refine lv_idiv hx hb dX7_change_114 (by decide) ?_
        obtain ⟨v16, c17, h⟩ := cl1_ok h
        refine mg_calli (va_runV (As := [.int x1, .int x6, .int (x2 / (4 : Int32))]) (rest := []) ⟨hx, hb, hml, hown, hts⟩ (mX7_at l D ad cI cZ M x1 x6 (x2 / (4 : Int32)) v16 c17) (cwV 3 hts gX7_change_X7_at rfl rfl rfl (by decide +kernel) ⟨Nat.le_of_ble_eq_true rfl, Nat.le_of_ble_eq_true rfl⟩) (mg_preV hI hK hN) rfl rfl hl.1 rfl (lv_room (Nat.le_of_ble_eq_true rfl)) dX7_change_115 ⟨Nat.zero_le _, Nat.zero_le _⟩) hS (fun H locs hN hS => ?_)
        refine lv_istore (lv' := [(7, .int v16), (0, .ref (ad 0)), (1, .int x1), (2, .int x2), (3, .int x3), (5, .int x5), (6, .int x6)]) hx hb dX7_change_118 hl (by decide) rfl (fun ls hl => ?_)
        refine lv_aload_n hx hb dX7_change_120 rfl (lv_at hl 1 rfl) ?_
        refine mg_get hx hb hts hin hown hK hN 19 (by decide) l3 rfl (v := .ref (ad 19)) rfl dX7_change_121 ?_
        refine lv_iload hx hb dX7_change_124 (lv_at hl 0 rfl) ?_
        refine lv_aload_n hx hb dX7_change_126 rfl (lv_at hl 1 rfl) ?_
        refine mg_get hx hb hts hin hown hK hN 19 (by decide) l3 rfl (v := .ref (ad 19)) rfl dX7_change_127 ?_
        refine lv_iload hx hb dX7_change_130 (lv_at hl 0 rfl) ?_
        obtain ⟨g18, h⟩ := gd_ok h
        refine mg_ild hx hb hK hN 19 rfl (if_neg (by decide)) (gin_ok g18) dX7_change_132 ?_
        refine lv_iconst (v := (1 : Int32)) hx hb dX7_change_133 (by decide) ?_
        refine lv_icmp_ne (tgt := 141) hx hb dX7_change_134 (by decide) (fun hc => ?_) (fun hc => ?_)
        · have h := ite_f h hc
          refine lv_aload_n hx hb dX7_change_141 rfl (lv_at hl 1 rfl) ?_
          refine mg_get hx hb hts hin hown hK hN 19 (by decide) l3 rfl (v := .ref (ad 19)) rfl dX7_change_142 ?_
          refine lv_iload hx hb dX7_change_145 (lv_at hl 0 rfl) ?_
          obtain ⟨g19, h⟩ := gd_ok h
          refine mg_ild hx hb hK hN 19 rfl (if_neg (by decide)) (gin_ok g19) dX7_change_147 ?_
          exact w148 k91 hk91 x1 x2 x3 x5 x6 (M 19 (Int32.toNatClampNeg v16)) v16 M h _ _ _ hN hS (lv_sub hl [1, 2, 3, 4, 5, 6] rfl)
        · have h := ite_t h hc
          refine lv_iconst (v := (2 : Int32)) hx hb dX7_change_137 (by decide) ?_
          refine lv_goto (tgt := 148) hx hb dX7_change_138 (by decide) ?_
          exact w148 k91 hk91 x1 x2 x3 x5 x6 (2 : Int32) v16 M h _ _ _ hN hS (lv_sub hl [1, 2, 3, 4, 5, 6] rfl)
  have w55 : ∀ (x1 : Int32) (x2 : Int32) (x3 : Int32) (t0 : Int32) (M : MT), fX7_change_55  x1 x2 x3 t0 M = some (r, Mz) → mG p l e (headSpec wsX7_change rmX7_change).room s m (([.ref (ad 0), .int a1, .int a2, .int a3] : List Value).toArray) below meth c (MQ below (mQi D ad cI cZ r Mz) (([.ref (ad 0), .int a1, .int a2, .int a3] : List Value).toArray) s 0 0 (mA ad)) D ad cI cZ 8 M 55 [(0, .ref (ad 0)), (1, .int x1), (2, .int x2), (3, .int x3)] [.int t0, .ref (ad 0)] := by
    intro  x1 x2 x3 t0 M h H locs ls hN hS hl
    unfold fX7_change_55 at h
    obtain ⟨v8, M9, c10, h⟩ := cl2_ok h
    refine mg_calli (va_runV (As := [.int t0]) (rest := []) ⟨hx, hb, hml, hown, hts⟩ (mX7_holds l D ad cI cZ M t0 v8 M9 c10) (cwV 1 hts gX7_change_X7_holds rfl rfl rfl (by decide +kernel) ⟨Nat.le_of_ble_eq_true rfl, Nat.le_of_ble_eq_true rfl⟩) (mg_preV hI hK hN) rfl rfl hl.1 rfl (lv_room (Nat.le_of_ble_eq_true rfl)) dX7_change_55 ⟨Nat.zero_le _, Nat.zero_le _⟩) hS (fun H locs hN hS => ?_)
    refine lv_if_ne (tgt := 63) hx hb dX7_change_58 (by decide) (fun hc => ?_) (fun hc => ?_)
    · have h := ite_f h hc
      refine lv_aload_n hx hb dX7_change_63 rfl (lv_at hl 0 rfl) ?_
      refine mg_get hx hb hts hin hown hK hN 18 (by decide) l1 rfl (v := .ref (ad 18)) rfl dX7_change_64 ?_
      refine lv_bipush (v := (24 : Int32)) hx hb dX7_change_67 (by decide) ?_
      refine lv_iload_n hx hb dX7_change_69 rfl (lv_at hl 1 rfl) ?_
      refine lv_imul hx hb dX7_change_70 ?_
      refine lv_iload_n hx hb dX7_change_71 rfl (lv_at hl 2 rfl) ?_
      refine lv_iadd hx hb dX7_change_72 ?_
      obtain ⟨g11, h⟩ := gd_ok h
      refine mg_ild hx hb hK hN 18 rfl (if_neg (by decide)) (gin_ok g11) dX7_change_73 ?_
      refine lv_topi (fun v12 ev12 => ?_)
      have h := bnd_ok h ev12
      refine lv_istore (lv' := [(5, .int v12), (0, .ref (ad 0)), (1, .int x1), (2, .int x2), (3, .int x3)]) hx hb dX7_change_74 hl (by decide) rfl (fun ls hl => ?_)
      refine lv_aload_n hx hb dX7_change_76 rfl (lv_at hl 1 rfl) ?_
      refine mg_get hx hb hts hin hown hK hN 18 (by decide) l1 rfl (v := .ref (ad 18)) rfl dX7_change_77 ?_
      refine lv_bipush (v := (24 : Int32)) hx hb dX7_change_80 (by decide) ?_
      refine lv_iload_n hx hb dX7_change_82 rfl (lv_at hl 2 rfl) ?_
      refine lv_imul hx hb dX7_change_83 ?_
      refine lv_iload_n hx hb dX7_change_84 rfl (lv_at hl 3 rfl) ?_
      refine lv_iadd hx hb dX7_change_85 ?_
      refine lv_iload_n hx hb dX7_change_86 rfl (lv_at hl 4 rfl) ?_
      obtain ⟨g13, h⟩ := gd_ok h
      obtain ⟨M14, eM14⟩ : ∃ y : MT, y = (va_up M9 18 (upd (M9 18) (Int32.toNatClampNeg (((24 : Int32) * x1) + x2)) x3)) := ⟨_, rfl⟩
      have h := bnd_ok h eM14
      refine mg_ist hx hb hI hK hN hS 18 rfl (if_neg (by decide)) (gin_ok g13) dX7_change_87 eM14 (fun H locs hN hS => ?_)
      refine lv_iconst (v := (0 : Int32)) hx hb dX7_change_88 (by decide) ?_
      refine lv_istore (lv' := [(6, .int (0 : Int32)), (5, .int v12), (0, .ref (ad 0)), (1, .int x1), (2, .int x2), (3, .int x3)]) hx hb dX7_change_89 hl (by decide) rfl (fun ls hl => ?_)
      exact w91  x1 x2 x3 v12 (0 : Int32) M14 h _ _ _ hN hS (lv_sub hl [2, 3, 4, 5, 1, 0] rfl)
    · have h := ite_t h hc
      refine lv_iconst (v := (0 : Int32)) hx hb dX7_change_61 (by decide) ?_
      exact W.iret hx hb hr (mg_endi h hI hK hN hS) hS.2.2 dX7_change_62
  have w28 : ∀ (x1 : Int32) (x2 : Int32) (x3 : Int32) (t0 : Int32) (M : MT), fX7_change_28  x1 x2 x3 t0 M = some (r, Mz) → mG p l e (headSpec wsX7_change rmX7_change).room s m (([.ref (ad 0), .int a1, .int a2, .int a3] : List Value).toArray) below meth c (MQ below (mQi D ad cI cZ r Mz) (([.ref (ad 0), .int a1, .int a2, .int a3] : List Value).toArray) s 0 0 (mA ad)) D ad cI cZ 8 M 28 [(0, .ref (ad 0)), (1, .int x1), (2, .int x2), (3, .int x3)] [.int t0] := by
    intro  x1 x2 x3 t0 M h H locs ls hN hS hl
    unfold fX7_change_28 at h
    refine lv_istore (lv' := [(4, .int t0), (0, .ref (ad 0)), (1, .int x1), (2, .int x2), (3, .int x3)]) hx hb dX7_change_28 hl (by decide) rfl (fun ls hl => ?_)
    refine lv_aload_n hx hb dX7_change_30 rfl (lv_at hl 1 rfl) ?_
    refine lv_iload hx hb dX7_change_31 (lv_at hl 0 rfl) ?_
    refine lv_if_ne (tgt := 40) hx hb dX7_change_33 (by decide) (fun hc => ?_) (fun hc => ?_)
    · have h := ite_f h hc
      refine lv_iload_n hx hb dX7_change_40 rfl (lv_at hl 4 rfl) ?_
      refine lv_iconst (v := (0 : Int32)) hx hb dX7_change_41 (by decide) ?_
      refine lv_bipush (v := (11 : Int32)) hx hb dX7_change_42 (by decide) ?_
      obtain ⟨v6, c7, h⟩ := cl1_ok h
      refine mg_calli (va_runS (As := [.int x3, .int (0 : Int32), .int (11 : Int32)]) (rest := [.ref (ad 0)]) ⟨hx, hb, hml, hown, hts⟩ (mX7_isIn l D ad cI cZ M x3 (0 : Int32) (11 : Int32) v6 c7) (va_cwS 3 hts gX7_change_X7_isIn rfl rfl rfl (by decide +kernel) ⟨Nat.le_of_ble_eq_true rfl, Nat.le_of_ble_eq_true rfl⟩) (mg_preS hI hK hN) rfl rfl hl.1 rfl (lv_room (Nat.le_of_ble_eq_true rfl)) dX7_change_44 ⟨Nat.zero_le _, Nat.zero_le _⟩) hS (fun H locs hN hS => ?_)
      refine lv_if_eq (tgt := 54) hx hb dX7_change_47 (by decide) (fun hc => ?_) (fun hc => ?_)
      · have h := ite_t h hc
        refine lv_iconst (v := (2 : Int32)) hx hb dX7_change_54 (by decide) ?_
        exact w55  x1 x2 x3 (2 : Int32) M h _ _ _ hN hS (lv_sub hl [1, 2, 3, 4] rfl)
      · have h := ite_f h hc
        refine lv_iconst (v := (0 : Int32)) hx hb dX7_change_50 (by decide) ?_
        refine lv_goto (tgt := 55) hx hb dX7_change_51 (by decide) ?_
        exact w55  x1 x2 x3 (0 : Int32) M h _ _ _ hN hS (lv_sub hl [1, 2, 3, 4] rfl)
    · have h := ite_t h hc
      refine lv_iconst (v := (1 : Int32)) hx hb dX7_change_36 (by decide) ?_
      refine lv_goto (tgt := 55) hx hb dX7_change_37 (by decide) ?_
      exact w55  x1 x2 x3 (1 : Int32) M h _ _ _ hN hS (lv_sub hl [1, 2, 3, 4] rfl)
  have w27 : ∀ (x1 : Int32) (x2 : Int32) (x3 : Int32) (M : MT), fX7_change_27  x1 x2 x3 M = some (r, Mz) → mG p l e (headSpec wsX7_change rmX7_change).room s m (([.ref (ad 0), .int a1, .int a2, .int a3] : List Value).toArray) below meth c (MQ below (mQi D ad cI cZ r Mz) (([.ref (ad 0), .int a1, .int a2, .int a3] : List Value).toArray) s 0 0 (mA ad)) D ad cI cZ 8 M 27 [(0, .ref (ad 0)), (1, .int x1), (2, .int x2), (3, .int x3)] [] := by
    intro  x1 x2 x3 M h H locs ls hN hS hl
    unfold fX7_change_27 at h
    refine lv_iconst (v := (0 : Int32)) hx hb dX7_change_27 (by decide) ?_
    exact w28  x1 x2 x3 (0 : Int32) M h _ _ _ hN hS (lv_sub hl [0, 1, 2, 3] rfl)
  unfold fX7_change at h
  refine lv_iload_n hx hb dX7_change_0 rfl (lv_at hl 1 rfl) ?_
  obtain ⟨v1, c2, h⟩ := cl1_ok h
  refine mg_calli (va_runS (As := [.int a1]) (rest := []) ⟨hx, hb, hml, hown, hts⟩ (mX7_isBand l D ad cI cZ M a1 v1 c2) (va_cwS 1 hts gX7_change_X7_isBand rfl rfl rfl (by decide +kernel) ⟨Nat.le_of_ble_eq_true rfl, Nat.le_of_ble_eq_true rfl⟩) (mg_preS hI hK hN) rfl rfl hl.1 rfl (lv_room (Nat.le_of_ble_eq_true rfl)) dX7_change_1 ⟨Nat.zero_le _, Nat.zero_le _⟩) hS (fun H locs hN hS => ?_)
  refine lv_if_eq (tgt := 27) hx hb dX7_change_4 (by decide) (fun hc => ?_) (fun hc => ?_)
  · have h := ite_t h hc
    exact w27  a1 a2 a3 M h _ _ _ hN hS (lv_sub hl [0, 1, 2, 3] rfl)
  · have h := ite_f h hc
    refine lv_iload_n hx hb dX7_change_7 rfl (lv_at hl 2 rfl) ?_
    refine lv_iconst (v := (0 : Int32)) hx hb dX7_change_8 (by decide) ?_
    refine lv_aload_n hx hb dX7_change_9 rfl (lv_at hl 0 rfl) ?_
    refine mg_get hx hb hts hin hown hK hN 17 (by decide) l0 rfl (v := .ref (ad 17)) rfl dX7_change_10 ?_
    refine lv_iload_n hx hb dX7_change_13 rfl (lv_at hl 1 rfl) ?_
    obtain ⟨g3, h⟩ := gd_ok h
    refine mg_ild hx hb hK hN 17 rfl (if_neg (by decide)) (gin_ok g3) dX7_change_14 ?_
    refine lv_iconst (v := (1 : Int32)) hx hb dX7_change_15 (by decide) ?_
    refine lv_isub hx hb dX7_change_16 ?_
    obtain ⟨v4, c5, h⟩ := cl1_ok h
    refine mg_calli (va_runS (As := [.int a2, .int (0 : Int32), .int ((M 17 (Int32.toNatClampNeg a1)) - (1 : Int32))]) (rest := []) ⟨hx, hb, hml, hown, hts⟩ (mX7_isIn l D ad cI cZ M a2 (0 : Int32) ((M 17 (Int32.toNatClampNeg a1)) - (1 : Int32)) v4 c5) (va_cwS 3 hts gX7_change_X7_isIn rfl rfl rfl (by decide +kernel) ⟨Nat.le_of_ble_eq_true rfl, Nat.le_of_ble_eq_true rfl⟩) (mg_preS hI hK hN) rfl rfl hl.1 rfl (lv_room (Nat.le_of_ble_eq_true rfl)) dX7_change_17 ⟨Nat.zero_le _, Nat.zero_le _⟩) hS (fun H locs hN hS => ?_)
    refine lv_if_eq (tgt := 27) hx hb dX7_change_20 (by decide) (fun hc => ?_) (fun hc => ?_)
    · have h := ite_t h hc
      exact w27  a1 a2 a3 M h _ _ _ hN hS (lv_sub hl [0, 1, 2, 3] rfl)
    · have h := ite_f h hc
      refine lv_iconst (v := (1 : Int32)) hx hb dX7_change_23 (by decide) ?_
      refine lv_goto (tgt := 28) hx hb dX7_change_24 (by decide) ?_
      exact w28  a1 a2 a3 (1 : Int32) M h _ _ _ hN hS (lv_sub hl [0, 1, 2, 3] rfl)
def fX7_tell_24 (x1 : Int32) (x2 : Int32) (x3 : Int32) (t0 : Int32) (M : MT) : Option (Int32 × MT) := cl2 (fX7_holds t0 M) (fun v5 M6 => (if v5 = 0 then some ((0 : Int32), M6) else cl1 (fX7_at x1 x2 x3 M6) (fun v8 => gd (gin v8 192) (bnd (M6 19 (Int32.toNatClampNeg v8)) (fun v11 => cl1 (fX7_at x1 x2 x3 M6) (fun v12 => gd (gin v12 192) (bnd (va_up M6 19 (upd (M6 19) (Int32.toNatClampNeg v12) (1 : Int32))) (fun M15 => some (v11, M15)))))))))
def fX7_tell_23 (x1 : Int32) (x2 : Int32) (x3 : Int32) (M : MT) : Option (Int32 × MT) := fX7_tell_24 x1 x2 x3 (1 : Int32) M
def fX7_tell (a1 : Int32) (a2 : Int32) (a3 : Int32) (M : MT) : Option (Int32 × MT) := cl1 (fX7_isSeat a1 a2 M) (fun v1 => (if v1 = 0 then fX7_tell_23 a1 a2 a3 M else cl1 (fX7_isPhrase a1 a3 M) (fun v3 => (if v3 = 0 then fX7_tell_23 a1 a2 a3 M else fX7_tell_24 a1 a2 a3 (0 : Int32) M))))
def rmX7_tell : Room := { frames := 4, cells := 0, slots := 0, locals := 78 }
set_option maxHeartbeats 4000000 in
set_option maxRecDepth 100000 in
theorem mX7_tell (l : Launch) (D : va_G) (ad : Nat → Nat) (cI cZ : ClassId) (M : MT) (a1 : Int32) (a2 : Int32) (a3 : Int32) (r : Int32) (Mz : MT) (h : fX7_tell a1 a2 a3 M = some (r, Mz)) : Met l yX7_tell wsX7_tell rmX7_tell (va_Pc [.ref (ad 0), .int a1, .int a2, .int a3] (mP D ad cI cZ M)) (mQi D ad cI cZ r Mz) 0 0 (mA ad) := by
  refine Met.ofW (cc := cX7_tell) (maxL := 5) (ret := some .int) (by decide) rfl ?_
  intro p e s m args below meth c s₁ B hml hv
  obtain ⟨rfl, hI, hN, hK⟩ := hv
  have hx := B.exec
  have hb := B.bytes
  have hr := B.returns
  have hts := atoms_spec (ws := wsX7_tell) B.pre
  have hown : s.vm.findClass RX7 = some m.cls := findClass_of_methodNamed B.named
  have hlocks := B.notSynchronized
  have hin : ∀ w ∈ wsX70, w ∈ wsX7_tell := fun w h => List.mem_cons_of_mem _ (List.mem_append_right _ h)
  have l0 := hts (.fieldLink RX7 53 "PanyardModel" "known" "[I") (List.mem_of_getElem? (i := 1) rfl)
  have hS : va_S (mA ad) s.heap s.heap [] := va_S.rf
  have hl := lv_entry ([.ref (ad 0), .int a1, .int a2, .int a3]) (n := 5) (Nat.le_of_ble_eq_true rfl)
  rw [lg_entry_eq]
  generalize (lg_sl ([.ref (ad 0), .int a1, .int a2, .int a3]) ++ List.replicate (5 - (lg_sl ([.ref (ad 0), .int a1, .int a2, .int a3])).length) Slot.unset).toArray = ls at hl ⊢
  have hl : lv_has ls 5 [(0, .ref (ad 0)), (1, .int a1), (2, .int a2), (3, .int a3)] := hl
  have w24 : ∀ (x1 : Int32) (x2 : Int32) (x3 : Int32) (t0 : Int32) (M : MT), fX7_tell_24  x1 x2 x3 t0 M = some (r, Mz) → mG p l e (headSpec wsX7_tell rmX7_tell).room s m (([.ref (ad 0), .int a1, .int a2, .int a3] : List Value).toArray) below meth c (MQ below (mQi D ad cI cZ r Mz) (([.ref (ad 0), .int a1, .int a2, .int a3] : List Value).toArray) s 0 0 (mA ad)) D ad cI cZ 5 M 24 [(0, .ref (ad 0)), (1, .int x1), (2, .int x2), (3, .int x3)] [.int t0, .ref (ad 0)] := by
    intro  x1 x2 x3 t0 M h H locs ls hN hS hl
    unfold fX7_tell_24 at h
    obtain ⟨v5, M6, c7, h⟩ := cl2_ok h
    refine mg_calli (va_runV (As := [.int t0]) (rest := []) ⟨hx, hb, hml, hown, hts⟩ (mX7_holds l D ad cI cZ M t0 v5 M6 c7) (cwV 1 hts gX7_tell_X7_holds rfl rfl rfl (by decide +kernel) ⟨Nat.le_of_ble_eq_true rfl, Nat.le_of_ble_eq_true rfl⟩) (mg_preV hI hK hN) rfl rfl hl.1 rfl (lv_room (Nat.le_of_ble_eq_true rfl)) dX7_tell_24 ⟨Nat.zero_le _, Nat.zero_le _⟩) hS (fun H locs hN hS => ?_)
    refine lv_if_ne (tgt := 32) hx hb dX7_tell_27 (by decide) (fun hc => ?_) (fun hc => ?_)
    · have h := ite_f h hc
      refine lv_aload_n hx hb dX7_tell_32 rfl (lv_at hl 0 rfl) ?_
      refine mg_get hx hb hts hin hown hK hN 19 (by decide) l0 rfl (v := .ref (ad 19)) rfl dX7_tell_33 ?_
      refine lv_aload_n hx hb dX7_tell_36 rfl (lv_at hl 0 rfl) ?_
      refine lv_iload_n hx hb dX7_tell_37 rfl (lv_at hl 1 rfl) ?_
      refine lv_iload_n hx hb dX7_tell_38 rfl (lv_at hl 2 rfl) ?_
      refine lv_iload_n hx hb dX7_tell_39 rfl (lv_at hl 3 rfl) ?_
      obtain ⟨v8, c9, h⟩ := cl1_ok h
      refine mg_calli (va_runV (As := [.int x1, .int x2, .int x3]) (rest := [.ref (ad 19)]) ⟨hx, hb, hml, hown, hts⟩ (mX7_at l D ad cI cZ M6 x1 x2 x3 v8 c9) (cwV 3 hts gX7_tell_X7_at rfl rfl rfl (by decide +kernel) ⟨Nat.le_of_ble_eq_true rfl, Nat.le_of_ble_eq_true rfl⟩) (mg_preV hI hK hN) rfl rfl hl.1 rfl (lv_room (Nat.le_of_ble_eq_true rfl)) dX7_tell_40 ⟨Nat.zero_le _, Nat.zero_le _⟩) hS (fun H locs hN hS => ?_)
      obtain ⟨g10, h⟩ := gd_ok h
      refine mg_ild hx hb hK hN 19 rfl (if_neg (by decide)) (gin_ok g10) dX7_tell_43 ?_
      refine lv_topi (fun v11 ev11 => ?_)
      have h := bnd_ok h ev11
      refine lv_istore (lv' := [(4, .int v11), (0, .ref (ad 0)), (1, .int x1), (2, .int x2), (3, .int x3)]) hx hb dX7_tell_44 hl (by decide) rfl (fun ls hl => ?_)
      refine lv_aload_n hx hb dX7_tell_46 rfl (lv_at hl 1 rfl) ?_
      refine mg_get hx hb hts hin hown hK hN 19 (by decide) l0 rfl (v := .ref (ad 19)) rfl dX7_tell_47 ?_
      refine lv_aload_n hx hb dX7_tell_50 rfl (lv_at hl 1 rfl) ?_
      refine lv_iload_n hx hb dX7_tell_51 rfl (lv_at hl 2 rfl) ?_
      refine lv_iload_n hx hb dX7_tell_52 rfl (lv_at hl 3 rfl) ?_
      refine lv_iload_n hx hb dX7_tell_53 rfl (lv_at hl 4 rfl) ?_
      obtain ⟨v12, c13, h⟩ := cl1_ok h
      refine mg_calli (va_runV (As := [.int x1, .int x2, .int x3]) (rest := [.ref (ad 19)]) ⟨hx, hb, hml, hown, hts⟩ (mX7_at l D ad cI cZ M6 x1 x2 x3 v12 c13) (cwV 3 hts gX7_tell_X7_at rfl rfl rfl (by decide +kernel) ⟨Nat.le_of_ble_eq_true rfl, Nat.le_of_ble_eq_true rfl⟩) (mg_preV hI hK hN) rfl rfl hl.1 rfl (lv_room (Nat.le_of_ble_eq_true rfl)) dX7_tell_54 ⟨Nat.zero_le _, Nat.zero_le _⟩) hS (fun H locs hN hS => ?_)
      refine lv_iconst (v := (1 : Int32)) hx hb dX7_tell_57 (by decide) ?_
      obtain ⟨g14, h⟩ := gd_ok h
      obtain ⟨M15, eM15⟩ : ∃ y : MT, y = (va_up M6 19 (upd (M6 19) (Int32.toNatClampNeg v12) (1 : Int32))) := ⟨_, rfl⟩
      have h := bnd_ok h eM15
      refine mg_ist hx hb hI hK hN hS 19 rfl (if_neg (by decide)) (gin_ok g14) dX7_tell_58 eM15 (fun H locs hN hS => ?_)
      refine lv_iload hx hb dX7_tell_59 (lv_at hl 0 rfl) ?_
      exact W.iret hx hb hr (mg_endi h hI hK hN hS) hS.2.2 dX7_tell_61
    · have h := ite_t h hc
      refine lv_iconst (v := (0 : Int32)) hx hb dX7_tell_30 (by decide) ?_
      exact W.iret hx hb hr (mg_endi h hI hK hN hS) hS.2.2 dX7_tell_31
  have w23 : ∀ (x1 : Int32) (x2 : Int32) (x3 : Int32) (M : MT), fX7_tell_23  x1 x2 x3 M = some (r, Mz) → mG p l e (headSpec wsX7_tell rmX7_tell).room s m (([.ref (ad 0), .int a1, .int a2, .int a3] : List Value).toArray) below meth c (MQ below (mQi D ad cI cZ r Mz) (([.ref (ad 0), .int a1, .int a2, .int a3] : List Value).toArray) s 0 0 (mA ad)) D ad cI cZ 5 M 23 [(0, .ref (ad 0)), (1, .int x1), (2, .int x2), (3, .int x3)] [.ref (ad 0)] := by
    intro  x1 x2 x3 M h H locs ls hN hS hl
    unfold fX7_tell_23 at h
    refine lv_iconst (v := (1 : Int32)) hx hb dX7_tell_23 (by decide) ?_
    exact w24  x1 x2 x3 (1 : Int32) M h _ _ _ hN hS (lv_sub hl [0, 1, 2, 3] rfl)
  unfold fX7_tell at h
  refine lv_aload_n hx hb dX7_tell_0 rfl (lv_at hl 0 rfl) ?_
  refine lv_aload_n hx hb dX7_tell_1 rfl (lv_at hl 0 rfl) ?_
  refine lv_iload_n hx hb dX7_tell_2 rfl (lv_at hl 1 rfl) ?_
  refine lv_iload_n hx hb dX7_tell_3 rfl (lv_at hl 2 rfl) ?_
  obtain ⟨v1, c2, h⟩ := cl1_ok h
  refine mg_calli (va_runV (As := [.int a1, .int a2]) (rest := [.ref (ad 0)]) ⟨hx, hb, hml, hown, hts⟩ (mX7_isSeat l D ad cI cZ M a1 a2 v1 c2) (cwV 2 hts gX7_tell_X7_isSeat rfl rfl rfl (by decide +kernel) ⟨Nat.le_of_ble_eq_true rfl, Nat.le_of_ble_eq_true rfl⟩) (mg_preV hI hK hN) rfl rfl hl.1 rfl (lv_room (Nat.le_of_ble_eq_true rfl)) dX7_tell_4 ⟨Nat.zero_le _, Nat.zero_le _⟩) hS (fun H locs hN hS => ?_)
  refine lv_if_eq (tgt := 23) hx hb dX7_tell_7 (by decide) (fun hc => ?_) (fun hc => ?_)
  · have h := ite_t h hc
    exact w23  a1 a2 a3 M h _ _ _ hN hS (lv_sub hl [0, 1, 2, 3] rfl)
  · have h := ite_f h hc
    refine lv_aload_n hx hb dX7_tell_10 rfl (lv_at hl 0 rfl) ?_
    refine lv_iload_n hx hb dX7_tell_11 rfl (lv_at hl 1 rfl) ?_
    refine lv_iload_n hx hb dX7_tell_12 rfl (lv_at hl 3 rfl) ?_
    obtain ⟨v3, c4, h⟩ := cl1_ok h
    refine mg_calli (va_runV (As := [.int a1, .int a3]) (rest := [.ref (ad 0)]) ⟨hx, hb, hml, hown, hts⟩ (mX7_isPhrase l D ad cI cZ M a1 a3 v3 c4) (cwV 2 hts gX7_tell_X7_isPhrase rfl rfl rfl (by decide +kernel) ⟨Nat.le_of_ble_eq_true rfl, Nat.le_of_ble_eq_true rfl⟩) (mg_preV hI hK hN) rfl rfl hl.1 rfl (lv_room (Nat.le_of_ble_eq_true rfl)) dX7_tell_13 ⟨Nat.zero_le _, Nat.zero_le _⟩) hS (fun H locs hN hS => ?_)
    refine lv_if_eq (tgt := 23) hx hb dX7_tell_16 (by decide) (fun hc => ?_) (fun hc => ?_)
    · have h := ite_t h hc
      exact w23  a1 a2 a3 M h _ _ _ hN hS (lv_sub hl [0, 1, 2, 3] rfl)
    · have h := ite_f h hc
      refine lv_iconst (v := (0 : Int32)) hx hb dX7_tell_19 (by decide) ?_
      refine lv_goto (tgt := 24) hx hb dX7_tell_20 (by decide) ?_
      exact w24  a1 a2 a3 (0 : Int32) M h _ _ _ hN hS (lv_sub hl [0, 1, 2, 3] rfl)
def fX7_knownBy_25 (M : MT) (t0 : Int32) : Option (Int32) := some t0
def fX7_knownBy (a1 : Int32) (a2 : Int32) (a3 : Int32) (M : MT) : Option (Int32) := cl1 (fX7_isSeat a1 a2 M) (fun v1 => (if v1 = 0 then fX7_knownBy_25 M (0 : Int32) else cl1 (fX7_at a1 a2 a3 M) (fun v3 => gd (gin v3 192) (fX7_knownBy_25 M (M 19 (Int32.toNatClampNeg v3))))))
def rmX7_knownBy : Room := { frames := 4, cells := 0, slots := 0, locals := 78 }
set_option maxHeartbeats 4000000 in
set_option maxRecDepth 100000 in
theorem mX7_knownBy (l : Launch) (D : va_G) (ad : Nat → Nat) (cI cZ : ClassId) (M : MT) (a1 : Int32) (a2 : Int32) (a3 : Int32) (r : Int32) (h : fX7_knownBy a1 a2 a3 M = some r) : Met l yX7_knownBy wsX7_knownBy rmX7_knownBy (va_Pc [.ref (ad 0), .int a1, .int a2, .int a3] (mP D ad cI cZ M)) (mQi D ad cI cZ r M) 0 0 (mA ad) := by
  refine Met.ofW (cc := cX7_knownBy) (maxL := 4) (ret := some .int) (by decide) rfl ?_
  intro p e s m args below meth c s₁ B hml hv
  obtain ⟨rfl, hI, hN, hK⟩ := hv
  have hx := B.exec
  have hb := B.bytes
  have hr := B.returns
  have hts := atoms_spec (ws := wsX7_knownBy) B.pre
  have hown : s.vm.findClass RX7 = some m.cls := findClass_of_methodNamed B.named
  have hlocks := B.notSynchronized
  have hin : ∀ w ∈ wsX70, w ∈ wsX7_knownBy := fun w h => List.mem_cons_of_mem _ (List.mem_append_right _ h)
  have l0 := hts (.fieldLink RX7 53 "PanyardModel" "known" "[I") (List.mem_of_getElem? (i := 1) rfl)
  have hS : va_S (mA ad) s.heap s.heap [] := va_S.rf
  have hl := lv_entry ([.ref (ad 0), .int a1, .int a2, .int a3]) (n := 4) (Nat.le_of_ble_eq_true rfl)
  rw [lg_entry_eq]
  generalize (lg_sl ([.ref (ad 0), .int a1, .int a2, .int a3]) ++ List.replicate (4 - (lg_sl ([.ref (ad 0), .int a1, .int a2, .int a3])).length) Slot.unset).toArray = ls at hl ⊢
  have hl : lv_has ls 4 [(0, .ref (ad 0)), (1, .int a1), (2, .int a2), (3, .int a3)] := hl
  have w25 : ∀ (t0 : Int32), fX7_knownBy_25 M t0 = some r → mG p l e (headSpec wsX7_knownBy rmX7_knownBy).room s m (([.ref (ad 0), .int a1, .int a2, .int a3] : List Value).toArray) below meth c (MQ below (mQi D ad cI cZ r M) (([.ref (ad 0), .int a1, .int a2, .int a3] : List Value).toArray) s 0 0 (mA ad)) D ad cI cZ 4 M 25 [(0, .ref (ad 0))] [.int t0] := by
    intro  t0 h H locs ls hN hS hl
    unfold fX7_knownBy_25 at h
    exact W.iret hx hb hr (mg_endr h hI hK hN hS) hS.2.2 dX7_knownBy_25
  unfold fX7_knownBy at h
  refine lv_aload_n hx hb dX7_knownBy_0 rfl (lv_at hl 0 rfl) ?_
  refine lv_iload_n hx hb dX7_knownBy_1 rfl (lv_at hl 1 rfl) ?_
  refine lv_iload_n hx hb dX7_knownBy_2 rfl (lv_at hl 2 rfl) ?_
  obtain ⟨v1, c2, h⟩ := cl1_ok h
  refine mg_calli (va_runV (As := [.int a1, .int a2]) (rest := []) ⟨hx, hb, hml, hown, hts⟩ (mX7_isSeat l D ad cI cZ M a1 a2 v1 c2) (cwV 2 hts gX7_knownBy_X7_isSeat rfl rfl rfl (by decide +kernel) ⟨Nat.le_of_ble_eq_true rfl, Nat.le_of_ble_eq_true rfl⟩) (mg_preV hI hK hN) rfl rfl hl.1 rfl (lv_room (Nat.le_of_ble_eq_true rfl)) dX7_knownBy_3 ⟨Nat.zero_le _, Nat.zero_le _⟩) hS (fun H locs hN hS => ?_)
  refine lv_if_eq (tgt := 24) hx hb dX7_knownBy_6 (by decide) (fun hc => ?_) (fun hc => ?_)
  · have h := ite_t h hc
    refine lv_iconst (v := (0 : Int32)) hx hb dX7_knownBy_24 (by decide) ?_
    exact w25  (0 : Int32) h _ _ _ hN hS (lv_sub hl [0] rfl)
  · have h := ite_f h hc
    refine lv_aload_n hx hb dX7_knownBy_9 rfl (lv_at hl 0 rfl) ?_
    refine mg_get hx hb hts hin hown hK hN 19 (by decide) l0 rfl (v := .ref (ad 19)) rfl dX7_knownBy_10 ?_
    refine lv_aload_n hx hb dX7_knownBy_13 rfl (lv_at hl 0 rfl) ?_
    refine lv_iload_n hx hb dX7_knownBy_14 rfl (lv_at hl 1 rfl) ?_
    refine lv_iload_n hx hb dX7_knownBy_15 rfl (lv_at hl 2 rfl) ?_
    refine lv_iload_n hx hb dX7_knownBy_16 rfl (lv_at hl 3 rfl) ?_
    obtain ⟨v3, c4, h⟩ := cl1_ok h
    refine mg_calli (va_runV (As := [.int a1, .int a2, .int a3]) (rest := [.ref (ad 19)]) ⟨hx, hb, hml, hown, hts⟩ (mX7_at l D ad cI cZ M a1 a2 a3 v3 c4) (cwV 3 hts gX7_knownBy_X7_at rfl rfl rfl (by decide +kernel) ⟨Nat.le_of_ble_eq_true rfl, Nat.le_of_ble_eq_true rfl⟩) (mg_preV hI hK hN) rfl rfl hl.1 rfl (lv_room (Nat.le_of_ble_eq_true rfl)) dX7_knownBy_17 ⟨Nat.zero_le _, Nat.zero_le _⟩) hS (fun H locs hN hS => ?_)
    obtain ⟨g5, h⟩ := gd_ok h
    refine mg_ild hx hb hK hN 19 rfl (if_neg (by decide)) (gin_ok g5) dX7_knownBy_20 ?_
    refine lv_goto (tgt := 25) hx hb dX7_knownBy_21 (by decide) ?_
    exact w25  (M 19 (Int32.toNatClampNeg v3)) h _ _ _ hN hS (lv_sub hl [0] rfl)
def fX7_learns_59 (M : MT) (t0 : Int32) : Option (Int32) := some t0
def fX7_learns_54 (M : MT) : Option (Int32) := fX7_learns_59 M (1 : Int32)
def fX7_learns_58 (M : MT) : Option (Int32) := fX7_learns_59 M (2 : Int32)
def fX7_learns_105 (M : MT) (t0 : Int32) : Option (Int32) := some t0
def fX7_learns_103 (M : MT) (x7 : Int32) : Option (Int32) := fX7_learns_105 M x7
def fX7_learns_72 (M : MT) (x1 : Int32) (x2 : Int32) (t0 : Int32) : Option (Int32) := (if t0 = (1 : Int32) then gd (gin (((8 : Int32) * x1) + x2) 32) (cl1 (fX7_bandsOf (M 16 (Int32.toNatClampNeg (((8 : Int32) * x1) + x2))) M) (fun v8 => (if v8 = (2 : Int32) then fX7_learns_105 M (2 : Int32) else fX7_learns_103 M t0))) else fX7_learns_103 M t0)
def fX7_learns (a1 : Int32) (a2 : Int32) (a3 : Int32) (M : MT) : Option (Int32) := cl1 (fX7_knownBy a1 a2 a3 M) (fun v1 => cl1 (fX7_knownBy a1 (a2 - (1 : Int32)) a3 M) (fun v3 => cl1 (fX7_knownBy a1 (a2 + (1 : Int32)) a3 M) (fun v5 => (if v1 = 0 then (if v3 = 0 then fX7_learns_72 M a1 a2 v5 else fX7_learns_72 M a1 a2 v3) else (if v1 = (1 : Int32) then fX7_learns_54 M else (if v3 = (1 : Int32) then (if v5 = (1 : Int32) then fX7_learns_54 M else fX7_learns_58 M) else fX7_learns_58 M))))))
def rmX7_learns : Room := { frames := 5, cells := 0, slots := 0, locals := 101 }
set_option maxHeartbeats 4000000 in
set_option maxRecDepth 100000 in
theorem mX7_learns (l : Launch) (D : va_G) (ad : Nat → Nat) (cI cZ : ClassId) (M : MT) (a1 : Int32) (a2 : Int32) (a3 : Int32) (r : Int32) (h : fX7_learns a1 a2 a3 M = some r) : Met l yX7_learns wsX7_learns rmX7_learns (va_Pc [.ref (ad 0), .int a1, .int a2, .int a3] (mP D ad cI cZ M)) (mQi D ad cI cZ r M) 0 0 (mA ad) := by
  refine Met.ofW (cc := cX7_learns) (maxL := 8) (ret := some .int) (by decide) rfl ?_
  intro p e s m args below meth c s₁ B hml hv
  obtain ⟨rfl, hI, hN, hK⟩ := hv
  have hx := B.exec
  have hb := B.bytes
  have hr := B.returns
  have hts := atoms_spec (ws := wsX7_learns) B.pre
  have hown : s.vm.findClass RX7 = some m.cls := findClass_of_methodNamed B.named
  have hlocks := B.notSynchronized
  have hin : ∀ w ∈ wsX70, w ∈ wsX7_learns := fun w h => List.mem_cons_of_mem _ (List.mem_append_right _ h)
  have l0 := hts (.fieldLink RX7 44 "PanyardModel" "seat" "[I") (List.mem_of_getElem? (i := 1) rfl)
  have hS : va_S (mA ad) s.heap s.heap [] := va_S.rf
  have hl := lv_entry ([.ref (ad 0), .int a1, .int a2, .int a3]) (n := 8) (Nat.le_of_ble_eq_true rfl)
  rw [lg_entry_eq]
  generalize (lg_sl ([.ref (ad 0), .int a1, .int a2, .int a3]) ++ List.replicate (8 - (lg_sl ([.ref (ad 0), .int a1, .int a2, .int a3])).length) Slot.unset).toArray = ls at hl ⊢
  have hl : lv_has ls 8 [(0, .ref (ad 0)), (1, .int a1), (2, .int a2), (3, .int a3)] := hl
  have w59 : ∀ (t0 : Int32), fX7_learns_59 M t0 = some r → mG p l e (headSpec wsX7_learns rmX7_learns).room s m (([.ref (ad 0), .int a1, .int a2, .int a3] : List Value).toArray) below meth c (MQ below (mQi D ad cI cZ r M) (([.ref (ad 0), .int a1, .int a2, .int a3] : List Value).toArray) s 0 0 (mA ad)) D ad cI cZ 8 M 59 [(0, .ref (ad 0))] [.int t0] := by
    intro  t0 h H locs ls hN hS hl
    unfold fX7_learns_59 at h
    exact W.iret hx hb hr (mg_endr h hI hK hN hS) hS.2.2 dX7_learns_59
  have w54 : fX7_learns_54 M  = some r → mG p l e (headSpec wsX7_learns rmX7_learns).room s m (([.ref (ad 0), .int a1, .int a2, .int a3] : List Value).toArray) below meth c (MQ below (mQi D ad cI cZ r M) (([.ref (ad 0), .int a1, .int a2, .int a3] : List Value).toArray) s 0 0 (mA ad)) D ad cI cZ 8 M 54 [(0, .ref (ad 0))] [] := by
    intro   h H locs ls hN hS hl
    unfold fX7_learns_54 at h
    refine lv_iconst (v := (1 : Int32)) hx hb dX7_learns_54 (by decide) ?_
    refine lv_goto (tgt := 59) hx hb dX7_learns_55 (by decide) ?_
    exact w59  (1 : Int32) h _ _ _ hN hS (lv_sub hl [0] rfl)
  have w58 : fX7_learns_58 M  = some r → mG p l e (headSpec wsX7_learns rmX7_learns).room s m (([.ref (ad 0), .int a1, .int a2, .int a3] : List Value).toArray) below meth c (MQ below (mQi D ad cI cZ r M) (([.ref (ad 0), .int a1, .int a2, .int a3] : List Value).toArray) s 0 0 (mA ad)) D ad cI cZ 8 M 58 [(0, .ref (ad 0))] [] := by
    intro   h H locs ls hN hS hl
    unfold fX7_learns_58 at h
    refine lv_iconst (v := (2 : Int32)) hx hb dX7_learns_58 (by decide) ?_
    exact w59  (2 : Int32) h _ _ _ hN hS (lv_sub hl [0] rfl)
  have w105 : ∀ (t0 : Int32), fX7_learns_105 M t0 = some r → mG p l e (headSpec wsX7_learns rmX7_learns).room s m (([.ref (ad 0), .int a1, .int a2, .int a3] : List Value).toArray) below meth c (MQ below (mQi D ad cI cZ r M) (([.ref (ad 0), .int a1, .int a2, .int a3] : List Value).toArray) s 0 0 (mA ad)) D ad cI cZ 8 M 105 [(0, .ref (ad 0))] [.int t0] := by
    intro  t0 h H locs ls hN hS hl
    unfold fX7_learns_105 at h
    exact W.iret hx hb hr (mg_endr h hI hK hN hS) hS.2.2 dX7_learns_105
  have w103 : ∀ (x7 : Int32), fX7_learns_103 M x7 = some r → mG p l e (headSpec wsX7_learns rmX7_learns).room s m (([.ref (ad 0), .int a1, .int a2, .int a3] : List Value).toArray) below meth c (MQ below (mQi D ad cI cZ r M) (([.ref (ad 0), .int a1, .int a2, .int a3] : List Value).toArray) s 0 0 (mA ad)) D ad cI cZ 8 M 103 [(0, .ref (ad 0)), (7, .int x7)] [] := by
    intro  x7 h H locs ls hN hS hl
    unfold fX7_learns_103 at h
    refine lv_iload hx hb dX7_learns_103 (lv_at hl 1 rfl) ?_
    exact w105  x7 h _ _ _ hN hS (lv_sub hl [0] rfl)
  have w72 : ∀ (x1 : Int32) (x2 : Int32) (t0 : Int32), fX7_learns_72 M x1 x2 t0 = some r → mG p l e (headSpec wsX7_learns rmX7_learns).room s m (([.ref (ad 0), .int a1, .int a2, .int a3] : List Value).toArray) below meth c (MQ below (mQi D ad cI cZ r M) (([.ref (ad 0), .int a1, .int a2, .int a3] : List Value).toArray) s 0 0 (mA ad)) D ad cI cZ 8 M 72 [(0, .ref (ad 0)), (1, .int x1), (2, .int x2)] [.int t0] := by
    intro  x1 x2 t0 h H locs ls hN hS hl
    unfold fX7_learns_72 at h
    refine lv_istore (lv' := [(7, .int t0), (0, .ref (ad 0)), (1, .int x1), (2, .int x2)]) hx hb dX7_learns_72 hl (by decide) rfl (fun ls hl => ?_)
    refine lv_iload hx hb dX7_learns_74 (lv_at hl 0 rfl) ?_
    refine lv_iconst (v := (1 : Int32)) hx hb dX7_learns_76 (by decide) ?_
    refine lv_icmp_ne (tgt := 103) hx hb dX7_learns_77 (by decide) (fun hc => ?_) (fun hc => ?_)
    · have h := ite_f h hc
      exact w103  t0 h _ _ _ hN hS (lv_sub hl [1, 0] rfl)
    · have h := ite_t h hc
      refine lv_aload_n hx hb dX7_learns_80 rfl (lv_at hl 1 rfl) ?_
      refine lv_aload_n hx hb dX7_learns_81 rfl (lv_at hl 1 rfl) ?_
      refine mg_get hx hb hts hin hown hK hN 16 (by decide) l0 rfl (v := .ref (ad 16)) rfl dX7_learns_82 ?_
      refine lv_bipush (v := (8 : Int32)) hx hb dX7_learns_85 (by decide) ?_
      refine lv_iload_n hx hb dX7_learns_87 rfl (lv_at hl 2 rfl) ?_
      refine lv_imul hx hb dX7_learns_88 ?_
      refine lv_iload_n hx hb dX7_learns_89 rfl (lv_at hl 3 rfl) ?_
      refine lv_iadd hx hb dX7_learns_90 ?_
      obtain ⟨g7, h⟩ := gd_ok h
      refine mg_ild hx hb hK hN 16 rfl (if_neg (by decide)) (gin_ok g7) dX7_learns_91 ?_
      obtain ⟨v8, c9, h⟩ := cl1_ok h
      refine mg_calli (va_runV (As := [.int (M 16 (Int32.toNatClampNeg (((8 : Int32) * x1) + x2)))]) (rest := []) ⟨hx, hb, hml, hown, hts⟩ (mX7_bandsOf l D ad cI cZ M (M 16 (Int32.toNatClampNeg (((8 : Int32) * x1) + x2))) v8 c9) (cwV 1 hts gX7_learns_X7_bandsOf rfl rfl rfl (by decide +kernel) ⟨Nat.le_of_ble_eq_true rfl, Nat.le_of_ble_eq_true rfl⟩) (mg_preV hI hK hN) rfl rfl hl.1 rfl (lv_room (Nat.le_of_ble_eq_true rfl)) dX7_learns_92 ⟨Nat.zero_le _, Nat.zero_le _⟩) hS (fun H locs hN hS => ?_)
      refine lv_iconst (v := (2 : Int32)) hx hb dX7_learns_95 (by decide) ?_
      refine lv_icmp_ne (tgt := 103) hx hb dX7_learns_96 (by decide) (fun hc => ?_) (fun hc => ?_)
      · have h := ite_f h hc
        exact w103  t0 h _ _ _ hN hS (lv_sub hl [1, 0] rfl)
      · have h := ite_t h hc
        refine lv_iconst (v := (2 : Int32)) hx hb dX7_learns_99 (by decide) ?_
        refine lv_goto (tgt := 105) hx hb dX7_learns_100 (by decide) ?_
        exact w105  (2 : Int32) h _ _ _ hN hS (lv_sub hl [1] rfl)
  unfold fX7_learns at h
  refine lv_aload_n hx hb dX7_learns_0 rfl (lv_at hl 0 rfl) ?_
  refine lv_iload_n hx hb dX7_learns_1 rfl (lv_at hl 1 rfl) ?_
  refine lv_iload_n hx hb dX7_learns_2 rfl (lv_at hl 2 rfl) ?_
  refine lv_iload_n hx hb dX7_learns_3 rfl (lv_at hl 3 rfl) ?_
  obtain ⟨v1, c2, h⟩ := cl1_ok h
  refine mg_calli (va_runV (As := [.int a1, .int a2, .int a3]) (rest := []) ⟨hx, hb, hml, hown, hts⟩ (mX7_knownBy l D ad cI cZ M a1 a2 a3 v1 c2) (cwV 3 hts gX7_learns_X7_knownBy rfl rfl rfl (by decide +kernel) ⟨Nat.le_of_ble_eq_true rfl, Nat.le_of_ble_eq_true rfl⟩) (mg_preV hI hK hN) rfl rfl hl.1 rfl (lv_room (Nat.le_of_ble_eq_true rfl)) dX7_learns_4 ⟨Nat.zero_le _, Nat.zero_le _⟩) hS (fun H locs hN hS => ?_)
  refine lv_istore (lv' := [(4, .int v1), (0, .ref (ad 0)), (1, .int a1), (2, .int a2), (3, .int a3)]) hx hb dX7_learns_7 hl (by decide) rfl (fun ls hl => ?_)
  refine lv_aload_n hx hb dX7_learns_9 rfl (lv_at hl 1 rfl) ?_
  refine lv_iload_n hx hb dX7_learns_10 rfl (lv_at hl 2 rfl) ?_
  refine lv_iload_n hx hb dX7_learns_11 rfl (lv_at hl 3 rfl) ?_
  refine lv_iconst (v := (1 : Int32)) hx hb dX7_learns_12 (by decide) ?_
  refine lv_isub hx hb dX7_learns_13 ?_
  refine lv_iload_n hx hb dX7_learns_14 rfl (lv_at hl 4 rfl) ?_
  obtain ⟨v3, c4, h⟩ := cl1_ok h
  refine mg_calli (va_runV (As := [.int a1, .int (a2 - (1 : Int32)), .int a3]) (rest := []) ⟨hx, hb, hml, hown, hts⟩ (mX7_knownBy l D ad cI cZ M a1 (a2 - (1 : Int32)) a3 v3 c4) (cwV 3 hts gX7_learns_X7_knownBy rfl rfl rfl (by decide +kernel) ⟨Nat.le_of_ble_eq_true rfl, Nat.le_of_ble_eq_true rfl⟩) (mg_preV hI hK hN) rfl rfl hl.1 rfl (lv_room (Nat.le_of_ble_eq_true rfl)) dX7_learns_15 ⟨Nat.zero_le _, Nat.zero_le _⟩) hS (fun H locs hN hS => ?_)
  refine lv_istore (lv' := [(5, .int v3), (4, .int v1), (0, .ref (ad 0)), (1, .int a1), (2, .int a2), (3, .int a3)]) hx hb dX7_learns_18 hl (by decide) rfl (fun ls hl => ?_)
  refine lv_aload_n hx hb dX7_learns_20 rfl (lv_at hl 2 rfl) ?_
  refine lv_iload_n hx hb dX7_learns_21 rfl (lv_at hl 3 rfl) ?_
  refine lv_iload_n hx hb dX7_learns_22 rfl (lv_at hl 4 rfl) ?_
  refine lv_iconst (v := (1 : Int32)) hx hb dX7_learns_23 (by decide) ?_
  refine lv_iadd hx hb dX7_learns_24 ?_
  refine lv_iload_n hx hb dX7_learns_25 rfl (lv_at hl 5 rfl) ?_
  obtain ⟨v5, c6, h⟩ := cl1_ok h
  refine mg_calli (va_runV (As := [.int a1, .int (a2 + (1 : Int32)), .int a3]) (rest := []) ⟨hx, hb, hml, hown, hts⟩ (mX7_knownBy l D ad cI cZ M a1 (a2 + (1 : Int32)) a3 v5 c6) (cwV 3 hts gX7_learns_X7_knownBy rfl rfl rfl (by decide +kernel) ⟨Nat.le_of_ble_eq_true rfl, Nat.le_of_ble_eq_true rfl⟩) (mg_preV hI hK hN) rfl rfl hl.1 rfl (lv_room (Nat.le_of_ble_eq_true rfl)) dX7_learns_26 ⟨Nat.zero_le _, Nat.zero_le _⟩) hS (fun H locs hN hS => ?_)
  refine lv_istore (lv' := [(6, .int v5), (5, .int v3), (4, .int v1), (0, .ref (ad 0)), (1, .int a1), (2, .int a2), (3, .int a3)]) hx hb dX7_learns_29 hl (by decide) rfl (fun ls hl => ?_)
  refine lv_iload hx hb dX7_learns_31 (lv_at hl 2 rfl) ?_
  refine lv_if_eq (tgt := 60) hx hb dX7_learns_33 (by decide) (fun hc => ?_) (fun hc => ?_)
  · have h := ite_t h hc
    refine lv_iload hx hb dX7_learns_60 (lv_at hl 1 rfl) ?_
    refine lv_if_eq (tgt := 70) hx hb dX7_learns_62 (by decide) (fun hc => ?_) (fun hc => ?_)
    · have h := ite_t h hc
      refine lv_iload hx hb dX7_learns_70 (lv_at hl 0 rfl) ?_
      exact w72  a1 a2 v5 h _ _ _ hN hS (lv_sub hl [3, 4, 5] rfl)
    · have h := ite_f h hc
      refine lv_iload hx hb dX7_learns_65 (lv_at hl 1 rfl) ?_
      refine lv_goto (tgt := 72) hx hb dX7_learns_67 (by decide) ?_
      exact w72  a1 a2 v3 h _ _ _ hN hS (lv_sub hl [3, 4, 5] rfl)
  · have h := ite_f h hc
    refine lv_iload hx hb dX7_learns_36 (lv_at hl 2 rfl) ?_
    refine lv_iconst (v := (1 : Int32)) hx hb dX7_learns_38 (by decide) ?_
    refine lv_icmp_eq (tgt := 54) hx hb dX7_learns_39 (by decide) (fun hc => ?_) (fun hc => ?_)
    · have h := ite_t h hc
      exact w54   h _ _ _ hN hS (lv_sub hl [3] rfl)
    · have h := ite_f h hc
      refine lv_iload hx hb dX7_learns_42 (lv_at hl 1 rfl) ?_
      refine lv_iconst (v := (1 : Int32)) hx hb dX7_learns_44 (by decide) ?_
      refine lv_icmp_ne (tgt := 58) hx hb dX7_learns_45 (by decide) (fun hc => ?_) (fun hc => ?_)
      · have h := ite_f h hc
        exact w58   h _ _ _ hN hS (lv_sub hl [3] rfl)
      · have h := ite_t h hc
        refine lv_iload hx hb dX7_learns_48 (lv_at hl 0 rfl) ?_
        refine lv_iconst (v := (1 : Int32)) hx hb dX7_learns_50 (by decide) ?_
        refine lv_icmp_ne (tgt := 58) hx hb dX7_learns_51 (by decide) (fun hc => ?_) (fun hc => ?_)
        · have h := ite_f h hc
          exact w58   h _ _ _ hN hS (lv_sub hl [3] rfl)
        · have h := ite_t h hc
          exact w54   h _ _ _ hN hS (lv_sub hl [3] rfl)
