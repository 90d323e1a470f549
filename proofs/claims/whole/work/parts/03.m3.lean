def fX7_mark_92 (x1 : Int32) (x2 : Int32) (x3 : Int32) (t0 : Int32) (M : MT) : Option (Int32 × MT) := cl2 (fX7_holds t0 M) (fun v9 M10 => (if v9 = 0 then some ((0 : Int32), M10) else gd (gin (((5 : Int32) * x1) + x2) 20) (bnd (va_up M10 26 (upd (M10 26) (Int32.toNatClampNeg (((5 : Int32) * x1) + x2)) x3)) (fun M13 => gd (gin x1 4) (gd (gin x1 4) (bnd (va_up M13 25 (upd (M13 25) (Int32.toNatClampNeg x1) ((M13 25 (Int32.toNatClampNeg x1)) + (1 : Int32)))) (fun M16 => gd (gin x1 4) (some ((M16 25 (Int32.toNatClampNeg x1)), M16)))))))))
def fX7_mark_56 (x1 : Int32) (x2 : Int32) (x3 : Int32) (x4 : Int32) (t0 : Int32) (M : MT) : Option (Int32 × MT) := (if x4 = 0 then fX7_mark_92 x1 x2 x3 (1 : Int32) M else cl1 (fX7_isIn x3 (0 : Int32) (100 : Int32)) (fun v7 => (if v7 = 0 then fX7_mark_92 x1 x2 x3 (2 : Int32) M else (if t0 = 0 then fX7_mark_92 x1 x2 x3 (3 : Int32) M else fX7_mark_92 x1 x2 x3 (0 : Int32) M))))
def fX7_mark_55 (x1 : Int32) (x2 : Int32) (x3 : Int32) (x4 : Int32) (M : MT) : Option (Int32 × MT) := fX7_mark_56 x1 x2 x3 x4 (0 : Int32) M
def fX7_mark_21 (x1 : Int32) (x2 : Int32) (x3 : Int32) (t0 : Int32) (M : MT) : Option (Int32 × MT) := (if t0 = 0 then fX7_mark_55 x1 x2 x3 t0 M else gd (gin x1 4) ((if (M 22 (Int32.toNatClampNeg x1)) = 0 then fX7_mark_55 x1 x2 x3 t0 M else gd (gin (((5 : Int32) * x1) + x2) 20) ((if (M 26 (Int32.toNatClampNeg (((5 : Int32) * x1) + x2))) = (-1 : Int32) then fX7_mark_56 x1 x2 x3 t0 (1 : Int32) M else fX7_mark_55 x1 x2 x3 t0 M)))))
def fX7_mark_20 (x1 : Int32) (x2 : Int32) (x3 : Int32) (M : MT) : Option (Int32 × MT) := fX7_mark_21 x1 x2 x3 (0 : Int32) M
def fX7_mark (a1 : Int32) (a2 : Int32) (a3 : Int32) (M : MT) : Option (Int32 × MT) := cl1 (fX7_isBand a1) (fun v1 => (if v1 = 0 then fX7_mark_20 a1 a2 a3 M else cl1 (fX7_isIn a2 (0 : Int32) (4 : Int32)) (fun v3 => (if v3 = 0 then fX7_mark_20 a1 a2 a3 M else fX7_mark_21 a1 a2 a3 (1 : Int32) M))))
def rmX7_mark : Room := { frames := 3, cells := 0, slots := 0, locals := 56 }
set_option maxHeartbeats 4000000 in
set_option maxRecDepth 100000 in
theorem mX7_mark (l : Launch) (D : va_G) (ad : Nat → Nat) (cI cZ : ClassId) (M : MT) (a1 : Int32) (a2 : Int32) (a3 : Int32) (r : Int32) (Mz : MT) (h : fX7_mark a1 a2 a3 M = some (r, Mz)) : Met l yX7_mark wsX7_mark rmX7_mark (va_Pc [.ref (ad 0), .int a1, .int a2, .int a3] (mP D ad cI cZ M)) (mQi D ad cI cZ r Mz) 0 0 (mA ad) := by
  refine Met.ofW (cc := cX7_mark) (maxL := 6) (ret := some .int) (by decide) rfl ?_
  intro p e s m args below meth c s₁ B hml hv
  obtain ⟨rfl, hI, hN, hK⟩ := hv
  have hx := B.exec
  have hb := B.bytes
  have hr := B.returns
  have hts := atoms_spec (ws := wsX7_mark) B.pre
  have hown : s.vm.findClass RX7 = some m.cls := findClass_of_methodNamed B.named
  have hlocks := B.notSynchronized
  have hin : ∀ w ∈ wsX70, w ∈ wsX7_mark := fun w h => List.mem_cons_of_mem _ (List.mem_append_right _ h)
  have l0 := hts (.fieldLink RX7 62 "PanyardModel" "hasPlayed" "[Z") (List.mem_of_getElem? (i := 1) rfl)
  have l1 := hts (.fieldLink RX7 74 "PanyardModel" "mark" "[I") (List.mem_of_getElem? (i := 2) rfl)
  have l2 := hts (.fieldLink RX7 71 "PanyardModel" "marks" "[I") (List.mem_of_getElem? (i := 3) rfl)
  have hS : va_S (mA ad) s.heap s.heap [] := va_S.rf
  have hl := lv_entry ([.ref (ad 0), .int a1, .int a2, .int a3]) (n := 6) (Nat.le_of_ble_eq_true rfl)
  rw [lg_entry_eq]
  generalize (lg_sl ([.ref (ad 0), .int a1, .int a2, .int a3]) ++ List.replicate (6 - (lg_sl ([.ref (ad 0), .int a1, .int a2, .int a3])).length) Slot.unset).toArray = ls at hl ⊢
  have hl : lv_has ls 6 [(0, .ref (ad 0)), (1, .int a1), (2, .int a2), (3, .int a3)] := hl
  have w92 : ∀ (x1 : Int32) (x2 : Int32) (x3 : Int32) (t0 : Int32) (M : MT), fX7_mark_92  x1 x2 x3 t0 M = some (r, Mz) → mG p l e (headSpec wsX7_mark rmX7_mark).room s m (([.ref (ad 0), .int a1, .int a2, .int a3] : List Value).toArray) below meth c (MQ below (mQi D ad cI cZ r Mz) (([.ref (ad 0), .int a1, .int a2, .int a3] : List Value).toArray) s 0 0 (mA ad)) D ad cI cZ 6 M 92 [(0, .ref (ad 0)), (1, .int x1), (2, .int x2), (3, .int x3)] [.int t0, .ref (ad 0)] := by
    intro  x1 x2 x3 t0 M h H locs ls hN hS hl
    unfold fX7_mark_92 at h
    obtain ⟨v9, M10, c11, h⟩ := cl2_ok h
    refine mg_calli (va_runV (As := [.int t0]) (rest := []) ⟨hx, hb, hml, hown, hts⟩ (mX7_holds l D ad cI cZ M t0 v9 M10 c11) (cwV 1 hts gX7_mark_X7_holds rfl rfl rfl (by decide +kernel) ⟨Nat.le_of_ble_eq_true rfl, Nat.le_of_ble_eq_true rfl⟩) (mg_preV hI hK hN) rfl rfl hl.1 rfl (lv_room (Nat.le_of_ble_eq_true rfl)) dX7_mark_92 ⟨Nat.zero_le _, Nat.zero_le _⟩) hS (fun H locs hN hS => ?_)
    refine lv_if_ne (tgt := 100) hx hb dX7_mark_95 (by decide) (fun hc => ?_) (fun hc => ?_)
    · have h := ite_f h hc
      refine lv_aload_n hx hb dX7_mark_100 rfl (lv_at hl 0 rfl) ?_
      refine mg_get hx hb hts hin hown hK hN 26 (by decide) l1 rfl (v := .ref (ad 26)) rfl dX7_mark_101 ?_
      refine lv_iconst (v := (5 : Int32)) hx hb dX7_mark_104 (by decide) ?_
      refine lv_iload_n hx hb dX7_mark_105 rfl (lv_at hl 1 rfl) ?_
      refine lv_imul hx hb dX7_mark_106 ?_
      refine lv_iload_n hx hb dX7_mark_107 rfl (lv_at hl 2 rfl) ?_
      refine lv_iadd hx hb dX7_mark_108 ?_
      refine lv_iload_n hx hb dX7_mark_109 rfl (lv_at hl 3 rfl) ?_
      obtain ⟨g12, h⟩ := gd_ok h
      obtain ⟨M13, eM13⟩ : ∃ y : MT, y = (va_up M10 26 (upd (M10 26) (Int32.toNatClampNeg (((5 : Int32) * x1) + x2)) x3)) := ⟨_, rfl⟩
      have h := bnd_ok h eM13
      refine mg_ist hx hb hI hK hN hS 26 rfl (if_neg (by decide)) (gin_ok g12) dX7_mark_110 eM13 (fun H locs hN hS => ?_)
      refine lv_aload_n hx hb dX7_mark_111 rfl (lv_at hl 0 rfl) ?_
      refine mg_get hx hb hts hin hown hK hN 25 (by decide) l2 rfl (v := .ref (ad 25)) rfl dX7_mark_112 ?_
      refine lv_iload_n hx hb dX7_mark_115 rfl (lv_at hl 1 rfl) ?_
      refine lv_dup2_11 hx hb dX7_mark_116 rfl rfl ?_
      obtain ⟨g14, h⟩ := gd_ok h
      refine mg_ild hx hb hK hN 25 rfl (if_neg (by decide)) (gin_ok g14) dX7_mark_117 ?_
      refine lv_iconst (v := (1 : Int32)) hx hb dX7_mark_118 (by decide) ?_
      refine lv_iadd hx hb dX7_mark_119 ?_
      obtain ⟨g15, h⟩ := gd_ok h
      obtain ⟨M16, eM16⟩ : ∃ y : MT, y = (va_up M13 25 (upd (M13 25) (Int32.toNatClampNeg x1) ((M13 25 (Int32.toNatClampNeg x1)) + (1 : Int32)))) := ⟨_, rfl⟩
      have h := bnd_ok h eM16
      refine mg_ist hx hb hI hK hN hS 25 rfl (if_neg (by decide)) (gin_ok g15) dX7_mark_120 eM16 (fun H locs hN hS => ?_)
      refine lv_aload_n hx hb dX7_mark_121 rfl (lv_at hl 0 rfl) ?_
      refine mg_get hx hb hts hin hown hK hN 25 (by decide) l2 rfl (v := .ref (ad 25)) rfl dX7_mark_122 ?_
      refine lv_iload_n hx hb dX7_mark_125 rfl (lv_at hl 1 rfl) ?_
      obtain ⟨g17, h⟩ := gd_ok h
      refine mg_ild hx hb hK hN 25 rfl (if_neg (by decide)) (gin_ok g17) dX7_mark_126 ?_
      exact W.iret hx hb hr (mg_endi h hI hK hN hS) hS.2.2 dX7_mark_127
    · have h := ite_t h hc
      refine lv_iconst (v := (0 : Int32)) hx hb dX7_mark_98 (by decide) ?_
      exact W.iret hx hb hr (mg_endi h hI hK hN hS) hS.2.2 dX7_mark_99
  have w56 : ∀ (x1 : Int32) (x2 : Int32) (x3 : Int32) (x4 : Int32) (t0 : Int32) (M : MT), fX7_mark_56  x1 x2 x3 x4 t0 M = some (r, Mz) → mG p l e (headSpec wsX7_mark rmX7_mark).room s m (([.ref (ad 0), .int a1, .int a2, .int a3] : List Value).toArray) below meth c (MQ below (mQi D ad cI cZ r Mz) (([.ref (ad 0), .int a1, .int a2, .int a3] : List Value).toArray) s 0 0 (mA ad)) D ad cI cZ 6 M 56 [(0, .ref (ad 0)), (1, .int x1), (2, .int x2), (3, .int x3), (4, .int x4)] [.int t0] := by
    intro  x1 x2 x3 x4 t0 M h H locs ls hN hS hl
    unfold fX7_mark_56 at h
    refine lv_istore (lv' := [(5, .int t0), (0, .ref (ad 0)), (1, .int x1), (2, .int x2), (3, .int x3), (4, .int x4)]) hx hb dX7_mark_56 hl (by decide) rfl (fun ls hl => ?_)
    refine lv_aload_n hx hb dX7_mark_58 rfl (lv_at hl 1 rfl) ?_
    refine lv_iload hx hb dX7_mark_59 (lv_at hl 5 rfl) ?_
    refine lv_if_ne (tgt := 68) hx hb dX7_mark_61 (by decide) (fun hc => ?_) (fun hc => ?_)
    · have h := ite_f h hc
      refine lv_iload_n hx hb dX7_mark_68 rfl (lv_at hl 4 rfl) ?_
      refine lv_iconst (v := (0 : Int32)) hx hb dX7_mark_69 (by decide) ?_
      refine lv_bipush (v := (100 : Int32)) hx hb dX7_mark_70 (by decide) ?_
      obtain ⟨v7, c8, h⟩ := cl1_ok h
      refine mg_calli (va_runS (As := [.int x3, .int (0 : Int32), .int (100 : Int32)]) (rest := [.ref (ad 0)]) ⟨hx, hb, hml, hown, hts⟩ (mX7_isIn l D ad cI cZ M x3 (0 : Int32) (100 : Int32) v7 c8) (va_cwS 3 hts gX7_mark_X7_isIn rfl rfl rfl (by decide +kernel) ⟨Nat.le_of_ble_eq_true rfl, Nat.le_of_ble_eq_true rfl⟩) (mg_preS hI hK hN) rfl rfl hl.1 rfl (lv_room (Nat.le_of_ble_eq_true rfl)) dX7_mark_72 ⟨Nat.zero_le _, Nat.zero_le _⟩) hS (fun H locs hN hS => ?_)
      refine lv_if_ne (tgt := 82) hx hb dX7_mark_75 (by decide) (fun hc => ?_) (fun hc => ?_)
      · have h := ite_f h hc
        refine lv_iload hx hb dX7_mark_82 (lv_at hl 0 rfl) ?_
        refine lv_if_eq (tgt := 91) hx hb dX7_mark_84 (by decide) (fun hc => ?_) (fun hc => ?_)
        · have h := ite_t h hc
          refine lv_iconst (v := (3 : Int32)) hx hb dX7_mark_91 (by decide) ?_
          exact w92  x1 x2 x3 (3 : Int32) M h _ _ _ hN hS (lv_sub hl [1, 2, 3, 4] rfl)
        · have h := ite_f h hc
          refine lv_iconst (v := (0 : Int32)) hx hb dX7_mark_87 (by decide) ?_
          refine lv_goto (tgt := 92) hx hb dX7_mark_88 (by decide) ?_
          exact w92  x1 x2 x3 (0 : Int32) M h _ _ _ hN hS (lv_sub hl [1, 2, 3, 4] rfl)
      · have h := ite_t h hc
        refine lv_iconst (v := (2 : Int32)) hx hb dX7_mark_78 (by decide) ?_
        refine lv_goto (tgt := 92) hx hb dX7_mark_79 (by decide) ?_
        exact w92  x1 x2 x3 (2 : Int32) M h _ _ _ hN hS (lv_sub hl [1, 2, 3, 4] rfl)
    · have h := ite_t h hc
      refine lv_iconst (v := (1 : Int32)) hx hb dX7_mark_64 (by decide) ?_
      refine lv_goto (tgt := 92) hx hb dX7_mark_65 (by decide) ?_
      exact w92  x1 x2 x3 (1 : Int32) M h _ _ _ hN hS (lv_sub hl [1, 2, 3, 4] rfl)
  have w55 : ∀ (x1 : Int32) (x2 : Int32) (x3 : Int32) (x4 : Int32) (M : MT), fX7_mark_55  x1 x2 x3 x4 M = some (r, Mz) → mG p l e (headSpec wsX7_mark rmX7_mark).room s m (([.ref (ad 0), .int a1, .int a2, .int a3] : List Value).toArray) below meth c (MQ below (mQi D ad cI cZ r Mz) (([.ref (ad 0), .int a1, .int a2, .int a3] : List Value).toArray) s 0 0 (mA ad)) D ad cI cZ 6 M 55 [(0, .ref (ad 0)), (1, .int x1), (2, .int x2), (3, .int x3), (4, .int x4)] [] := by
    intro  x1 x2 x3 x4 M h H locs ls hN hS hl
    unfold fX7_mark_55 at h
    refine lv_iconst (v := (0 : Int32)) hx hb dX7_mark_55 (by decide) ?_
    exact w56  x1 x2 x3 x4 (0 : Int32) M h _ _ _ hN hS (lv_sub hl [0, 1, 2, 3, 4] rfl)
  have w21 : ∀ (x1 : Int32) (x2 : Int32) (x3 : Int32) (t0 : Int32) (M : MT), fX7_mark_21  x1 x2 x3 t0 M = some (r, Mz) → mG p l e (headSpec wsX7_mark rmX7_mark).room s m (([.ref (ad 0), .int a1, .int a2, .int a3] : List Value).toArray) below meth c (MQ below (mQi D ad cI cZ r Mz) (([.ref (ad 0), .int a1, .int a2, .int a3] : List Value).toArray) s 0 0 (mA ad)) D ad cI cZ 6 M 21 [(0, .ref (ad 0)), (1, .int x1), (2, .int x2), (3, .int x3)] [.int t0] := by
    intro  x1 x2 x3 t0 M h H locs ls hN hS hl
    unfold fX7_mark_21 at h
    refine lv_istore (lv' := [(4, .int t0), (0, .ref (ad 0)), (1, .int x1), (2, .int x2), (3, .int x3)]) hx hb dX7_mark_21 hl (by decide) rfl (fun ls hl => ?_)
    refine lv_iload hx hb dX7_mark_23 (lv_at hl 0 rfl) ?_
    refine lv_if_eq (tgt := 55) hx hb dX7_mark_25 (by decide) (fun hc => ?_) (fun hc => ?_)
    · have h := ite_t h hc
      exact w55  x1 x2 x3 t0 M h _ _ _ hN hS (lv_sub hl [1, 2, 3, 4, 0] rfl)
    · have h := ite_f h hc
      refine lv_aload_n hx hb dX7_mark_28 rfl (lv_at hl 1 rfl) ?_
      refine mg_get hx hb hts hin hown hK hN 22 (by decide) l0 rfl (v := .ref (ad 22)) rfl dX7_mark_29 ?_
      refine lv_iload_n hx hb dX7_mark_32 rfl (lv_at hl 2 rfl) ?_
      obtain ⟨g5, h⟩ := gd_ok h
      refine mg_zld hx hb hK hN 22 rfl (if_pos (by decide)) (gin_ok g5) dX7_mark_33 ?_
      refine lv_if_eq (tgt := 55) hx hb dX7_mark_34 (by decide) (fun hc => ?_) (fun hc => ?_)
      · have h := ite_t h hc
        exact w55  x1 x2 x3 t0 M h _ _ _ hN hS (lv_sub hl [1, 2, 3, 4, 0] rfl)
      · have h := ite_f h hc
        refine lv_aload_n hx hb dX7_mark_37 rfl (lv_at hl 1 rfl) ?_
        refine mg_get hx hb hts hin hown hK hN 26 (by decide) l1 rfl (v := .ref (ad 26)) rfl dX7_mark_38 ?_
        refine lv_iconst (v := (5 : Int32)) hx hb dX7_mark_41 (by decide) ?_
        refine lv_iload_n hx hb dX7_mark_42 rfl (lv_at hl 2 rfl) ?_
        refine lv_imul hx hb dX7_mark_43 ?_
        refine lv_iload_n hx hb dX7_mark_44 rfl (lv_at hl 3 rfl) ?_
        refine lv_iadd hx hb dX7_mark_45 ?_
        obtain ⟨g6, h⟩ := gd_ok h
        refine mg_ild hx hb hK hN 26 rfl (if_neg (by decide)) (gin_ok g6) dX7_mark_46 ?_
        refine lv_iconst (v := (-1 : Int32)) hx hb dX7_mark_47 (by decide) ?_
        refine lv_icmp_ne (tgt := 55) hx hb dX7_mark_48 (by decide) (fun hc => ?_) (fun hc => ?_)
        · have h := ite_f h hc
          exact w55  x1 x2 x3 t0 M h _ _ _ hN hS (lv_sub hl [1, 2, 3, 4, 0] rfl)
        · have h := ite_t h hc
          refine lv_iconst (v := (1 : Int32)) hx hb dX7_mark_51 (by decide) ?_
          refine lv_goto (tgt := 56) hx hb dX7_mark_52 (by decide) ?_
          exact w56  x1 x2 x3 t0 (1 : Int32) M h _ _ _ hN hS (lv_sub hl [1, 2, 3, 4, 0] rfl)
  have w20 : ∀ (x1 : Int32) (x2 : Int32) (x3 : Int32) (M : MT), fX7_mark_20  x1 x2 x3 M = some (r, Mz) → mG p l e (headSpec wsX7_mark rmX7_mark).room s m (([.ref (ad 0), .int a1, .int a2, .int a3] : List Value).toArray) below meth c (MQ below (mQi D ad cI cZ r Mz) (([.ref (ad 0), .int a1, .int a2, .int a3] : List Value).toArray) s 0 0 (mA ad)) D ad cI cZ 6 M 20 [(0, .ref (ad 0)), (1, .int x1), (2, .int x2), (3, .int x3)] [] := by
    intro  x1 x2 x3 M h H locs ls hN hS hl
    unfold fX7_mark_20 at h
    refine lv_iconst (v := (0 : Int32)) hx hb dX7_mark_20 (by decide) ?_
    exact w21  x1 x2 x3 (0 : Int32) M h _ _ _ hN hS (lv_sub hl [0, 1, 2, 3] rfl)
  unfold fX7_mark at h
  refine lv_iload_n hx hb dX7_mark_0 rfl (lv_at hl 1 rfl) ?_
  obtain ⟨v1, c2, h⟩ := cl1_ok h
  refine mg_calli (va_runS (As := [.int a1]) (rest := []) ⟨hx, hb, hml, hown, hts⟩ (mX7_isBand l D ad cI cZ M a1 v1 c2) (va_cwS 1 hts gX7_mark_X7_isBand rfl rfl rfl (by decide +kernel) ⟨Nat.le_of_ble_eq_true rfl, Nat.le_of_ble_eq_true rfl⟩) (mg_preS hI hK hN) rfl rfl hl.1 rfl (lv_room (Nat.le_of_ble_eq_true rfl)) dX7_mark_1 ⟨Nat.zero_le _, Nat.zero_le _⟩) hS (fun H locs hN hS => ?_)
  refine lv_if_eq (tgt := 20) hx hb dX7_mark_4 (by decide) (fun hc => ?_) (fun hc => ?_)
  · have h := ite_t h hc
    exact w20  a1 a2 a3 M h _ _ _ hN hS (lv_sub hl [0, 1, 2, 3] rfl)
  · have h := ite_f h hc
    refine lv_iload_n hx hb dX7_mark_7 rfl (lv_at hl 2 rfl) ?_
    refine lv_iconst (v := (0 : Int32)) hx hb dX7_mark_8 (by decide) ?_
    refine lv_iconst (v := (4 : Int32)) hx hb dX7_mark_9 (by decide) ?_
    obtain ⟨v3, c4, h⟩ := cl1_ok h
    refine mg_calli (va_runS (As := [.int a2, .int (0 : Int32), .int (4 : Int32)]) (rest := []) ⟨hx, hb, hml, hown, hts⟩ (mX7_isIn l D ad cI cZ M a2 (0 : Int32) (4 : Int32) v3 c4) (va_cwS 3 hts gX7_mark_X7_isIn rfl rfl rfl (by decide +kernel) ⟨Nat.le_of_ble_eq_true rfl, Nat.le_of_ble_eq_true rfl⟩) (mg_preS hI hK hN) rfl rfl hl.1 rfl (lv_room (Nat.le_of_ble_eq_true rfl)) dX7_mark_10 ⟨Nat.zero_le _, Nat.zero_le _⟩) hS (fun H locs hN hS => ?_)
    refine lv_if_eq (tgt := 20) hx hb dX7_mark_13 (by decide) (fun hc => ?_) (fun hc => ?_)
    · have h := ite_t h hc
      exact w20  a1 a2 a3 M h _ _ _ hN hS (lv_sub hl [0, 1, 2, 3] rfl)
    · have h := ite_f h hc
      refine lv_iconst (v := (1 : Int32)) hx hb dX7_mark_16 (by decide) ?_
      refine lv_goto (tgt := 21) hx hb dX7_mark_17 (by decide) ?_
      exact w21  a1 a2 a3 (1 : Int32) M h _ _ _ hN hS (lv_sub hl [0, 1, 2, 3] rfl)
def fX7_scoreOf_80 (M : MT) (k13 : Int32 → Int32 → Int32 → Int32 → Int32 → Option (Int32)) (x1 : Int32) (x2 : Int32) (x3 : Int32) (x5 : Int32) (t0 : Int32) : Option (Int32) := bnd (x5 + (1 : Int32)) (fun v9 => k13 x1 x2 x3 t0 v9)
def fX7_scoreOf_55 (M : MT) (k13 : Int32 → Int32 → Int32 → Int32 → Int32 → Option (Int32)) (x1 : Int32) (x2 : Int32) (x4 : Int32) (x5 : Int32) (t0 : Int32) : Option (Int32) := gd (gin x5 20) ((if (M 26 (Int32.toNatClampNeg x5)) ≤ x4 then fX7_scoreOf_80 M k13 x1 x2 t0 x5 x4 else gd (gin x5 20) (fX7_scoreOf_80 M k13 x1 x2 t0 x5 (M 26 (Int32.toNatClampNeg x5)))))
def fX7_scoreOf_88 (M : MT) (x1 : Int32) (x2 : Int32) (x3 : Int32) (x4 : Int32) : Option (Int32) := gd (gin x1 4) (some (((x2 - x3) - x4) - (M 24 (Int32.toNatClampNeg x1))))
def fX7_scoreOf_13 (M : MT) (k13 : Int32 → Int32 → Int32 → Int32 → Int32 → Option (Int32)) (x1 : Int32) (x2 : Int32) (x3 : Int32) (x4 : Int32) (x5 : Int32) : Option (Int32) := (if (((5 : Int32) * x1) + (5 : Int32)) ≤ x5 then fX7_scoreOf_88 M x1 x2 x3 x4 else gd (gin x5 20) (bnd (x2 + (M 26 (Int32.toNatClampNeg x5))) (fun v3 => gd (gin x5 20) ((if x3 ≤ (M 26 (Int32.toNatClampNeg x5)) then fX7_scoreOf_55 M k13 x1 v3 x4 x5 x3 else gd (gin x5 20) (fX7_scoreOf_55 M k13 x1 v3 x4 x5 (M 26 (Int32.toNatClampNeg x5))))))))
def fX7_scoreOf (a1 : Int32) (M : MT) : Option (Int32) := bnd ((5 : Int32) * a1) (fun v1 => lf5 (fX7_scoreOf_13 M) 100 a1 (0 : Int32) (100 : Int32) (0 : Int32) v1)
def rmX7_scoreOf : Room := { frames := 1, cells := 0, slots := 0, locals := 17 }
set_option maxHeartbeats 4000000 in
set_option maxRecDepth 100000 in
theorem mX7_scoreOf (l : Launch) (D : va_G) (ad : Nat → Nat) (cI cZ : ClassId) (M : MT) (a1 : Int32) (r : Int32) (h : fX7_scoreOf a1 M = some r) : Met l yX7_scoreOf wsX7_scoreOf rmX7_scoreOf (va_Pc [.ref (ad 0), .int a1] (mP D ad cI cZ M)) (mQi D ad cI cZ r M) 0 0 (mA ad) := by
  refine Met.ofW (cc := cX7_scoreOf) (maxL := 6) (ret := some .int) (by decide) rfl ?_
  intro p e s m args below meth c s₁ B hml hv
  obtain ⟨rfl, hI, hN, hK⟩ := hv
  have hx := B.exec
  have hb := B.bytes
  have hr := B.returns
  have hts := atoms_spec (ws := wsX7_scoreOf) B.pre
  have hown : s.vm.findClass RX7 = some m.cls := findClass_of_methodNamed B.named
  have hlocks := B.notSynchronized
  have hin : ∀ w ∈ wsX70, w ∈ wsX7_scoreOf := fun w h => List.mem_cons_of_mem _ (List.mem_append_right _ h)
  have l0 := hts (.fieldLink RX7 74 "PanyardModel" "mark" "[I") (List.mem_of_getElem? (i := 1) rfl)
  have l1 := hts (.fieldLink RX7 68 "PanyardModel" "over" "[I") (List.mem_of_getElem? (i := 2) rfl)
  have hS : va_S (mA ad) s.heap s.heap [] := va_S.rf
  have hl := lv_entry ([.ref (ad 0), .int a1]) (n := 6) (Nat.le_of_ble_eq_true rfl)
  rw [lg_entry_eq]
  generalize (lg_sl ([.ref (ad 0), .int a1]) ++ List.replicate (6 - (lg_sl ([.ref (ad 0), .int a1])).length) Slot.unset).toArray = ls at hl ⊢
  have hl : lv_has ls 6 [(0, .ref (ad 0)), (1, .int a1)] := hl
  have w80 : ∀ (k13 : Int32 → Int32 → Int32 → Int32 → Int32 → Option (Int32)) (hk13 : (∀ (x1 : Int32) (x2 : Int32) (x3 : Int32) (x4 : Int32) (x5 : Int32), k13 x1 x2 x3 x4 x5 = some r → mG p l e (headSpec wsX7_scoreOf rmX7_scoreOf).room s m (([.ref (ad 0), .int a1] : List Value).toArray) below meth c (MQ below (mQi D ad cI cZ r M) (([.ref (ad 0), .int a1] : List Value).toArray) s 0 0 (mA ad)) D ad cI cZ 6 M 13 [(0, .ref (ad 0)), (1, .int x1), (2, .int x2), (3, .int x3), (4, .int x4), (5, .int x5)] [])) (x1 : Int32) (x2 : Int32) (x3 : Int32) (x5 : Int32) (t0 : Int32), fX7_scoreOf_80 M k13 x1 x2 x3 x5 t0 = some r → mG p l e (headSpec wsX7_scoreOf rmX7_scoreOf).room s m (([.ref (ad 0), .int a1] : List Value).toArray) below meth c (MQ below (mQi D ad cI cZ r M) (([.ref (ad 0), .int a1] : List Value).toArray) s 0 0 (mA ad)) D ad cI cZ 6 M 80 [(0, .ref (ad 0)), (1, .int x1), (2, .int x2), (3, .int x3), (5, .int x5)] [.int t0] := by
    intro k13 hk13 x1 x2 x3 x5 t0 h H locs ls hN hS hl
    unfold fX7_scoreOf_80 at h
    refine lv_istore (lv' := [(4, .int t0), (0, .ref (ad 0)), (1, .int x1), (2, .int x2), (3, .int x3), (5, .int x5)]) hx hb dX7_scoreOf_80 hl (by decide) rfl (fun ls hl => ?_)
    obtain ⟨v9, ev9⟩ : ∃ y : Int32, y = (x5 + (1 : Int32)) := ⟨_, rfl⟩
    have h := bnd_ok h ev9
    refine lv_iinc (v := v9) (lv' := [(5, .int v9), (4, .int t0), (0, .ref (ad 0)), (1, .int x1), (2, .int x2), (3, .int x3)]) hx hb dX7_scoreOf_82 hl (k := 5) rfl (by rw [ev9]; rfl) (by decide) rfl (fun ls hl => ?_)
    refine lv_goto (tgt := 13) hx hb dX7_scoreOf_85 (by decide) ?_
    exact hk13 x1 x2 x3 t0 v9 h _ _ _ hN hS (lv_sub hl [2, 3, 4, 5, 1, 0] rfl)
  have w55 : ∀ (k13 : Int32 → Int32 → Int32 → Int32 → Int32 → Option (Int32)) (hk13 : (∀ (x1 : Int32) (x2 : Int32) (x3 : Int32) (x4 : Int32) (x5 : Int32), k13 x1 x2 x3 x4 x5 = some r → mG p l e (headSpec wsX7_scoreOf rmX7_scoreOf).room s m (([.ref (ad 0), .int a1] : List Value).toArray) below meth c (MQ below (mQi D ad cI cZ r M) (([.ref (ad 0), .int a1] : List Value).toArray) s 0 0 (mA ad)) D ad cI cZ 6 M 13 [(0, .ref (ad 0)), (1, .int x1), (2, .int x2), (3, .int x3), (4, .int x4), (5, .int x5)] [])) (x1 : Int32) (x2 : Int32) (x4 : Int32) (x5 : Int32) (t0 : Int32), fX7_scoreOf_55 M k13 x1 x2 x4 x5 t0 = some r → mG p l e (headSpec wsX7_scoreOf rmX7_scoreOf).room s m (([.ref (ad 0), .int a1] : List Value).toArray) below meth c (MQ below (mQi D ad cI cZ r M) (([.ref (ad 0), .int a1] : List Value).toArray) s 0 0 (mA ad)) D ad cI cZ 6 M 55 [(0, .ref (ad 0)), (1, .int x1), (2, .int x2), (4, .int x4), (5, .int x5)] [.int t0] := by
    intro k13 hk13 x1 x2 x4 x5 t0 h H locs ls hN hS hl
    unfold fX7_scoreOf_55 at h
    refine lv_istore_n (lv' := [(3, .int t0), (0, .ref (ad 0)), (1, .int x1), (2, .int x2), (4, .int x4), (5, .int x5)]) hx hb dX7_scoreOf_55 rfl hl (by decide) rfl (fun ls hl => ?_)
    refine lv_aload_n hx hb dX7_scoreOf_56 rfl (lv_at hl 1 rfl) ?_
    refine mg_get hx hb hts hin hown hK hN 26 (by decide) l0 rfl (v := .ref (ad 26)) rfl dX7_scoreOf_57 ?_
    refine lv_iload hx hb dX7_scoreOf_60 (lv_at hl 5 rfl) ?_
    obtain ⟨g7, h⟩ := gd_ok h
    refine mg_ild hx hb hK hN 26 rfl (if_neg (by decide)) (gin_ok g7) dX7_scoreOf_62 ?_
    refine lv_iload hx hb dX7_scoreOf_63 (lv_at hl 4 rfl) ?_
    refine lv_icmp_le (tgt := 78) hx hb dX7_scoreOf_65 (by decide) (fun hc => ?_) (fun hc => ?_)
    · have h := ite_t h hc
      refine lv_iload hx hb dX7_scoreOf_78 (lv_at hl 4 rfl) ?_
      exact w80 k13 hk13 x1 x2 t0 x5 x4 h _ _ _ hN hS (lv_sub hl [1, 2, 3, 0, 5] rfl)
    · have h := ite_f h hc
      refine lv_aload_n hx hb dX7_scoreOf_68 rfl (lv_at hl 1 rfl) ?_
      refine mg_get hx hb hts hin hown hK hN 26 (by decide) l0 rfl (v := .ref (ad 26)) rfl dX7_scoreOf_69 ?_
      refine lv_iload hx hb dX7_scoreOf_72 (lv_at hl 5 rfl) ?_
      obtain ⟨g8, h⟩ := gd_ok h
      refine mg_ild hx hb hK hN 26 rfl (if_neg (by decide)) (gin_ok g8) dX7_scoreOf_74 ?_
      refine lv_goto (tgt := 80) hx hb dX7_scoreOf_75 (by decide) ?_
      exact w80 k13 hk13 x1 x2 t0 x5 (M 26 (Int32.toNatClampNeg x5)) h _ _ _ hN hS (lv_sub hl [1, 2, 3, 0, 5] rfl)
  have w88 : ∀ (x1 : Int32) (x2 : Int32) (x3 : Int32) (x4 : Int32), fX7_scoreOf_88 M x1 x2 x3 x4 = some r → mG p l e (headSpec wsX7_scoreOf rmX7_scoreOf).room s m (([.ref (ad 0), .int a1] : List Value).toArray) below meth c (MQ below (mQi D ad cI cZ r M) (([.ref (ad 0), .int a1] : List Value).toArray) s 0 0 (mA ad)) D ad cI cZ 6 M 88 [(0, .ref (ad 0)), (1, .int x1), (2, .int x2), (3, .int x3), (4, .int x4)] [] := by
    intro  x1 x2 x3 x4 h H locs ls hN hS hl
    unfold fX7_scoreOf_88 at h
    refine lv_iload_n hx hb dX7_scoreOf_88 rfl (lv_at hl 2 rfl) ?_
    refine lv_iload_n hx hb dX7_scoreOf_89 rfl (lv_at hl 3 rfl) ?_
    refine lv_isub hx hb dX7_scoreOf_90 ?_
    refine lv_iload hx hb dX7_scoreOf_91 (lv_at hl 4 rfl) ?_
    refine lv_isub hx hb dX7_scoreOf_93 ?_
    refine lv_aload_n hx hb dX7_scoreOf_94 rfl (lv_at hl 0 rfl) ?_
    refine mg_get hx hb hts hin hown hK hN 24 (by decide) l1 rfl (v := .ref (ad 24)) rfl dX7_scoreOf_95 ?_
    refine lv_iload_n hx hb dX7_scoreOf_98 rfl (lv_at hl 1 rfl) ?_
    obtain ⟨g6, h⟩ := gd_ok h
    refine mg_ild hx hb hK hN 24 rfl (if_neg (by decide)) (gin_ok g6) dX7_scoreOf_99 ?_
    refine lv_isub hx hb dX7_scoreOf_100 ?_
    exact W.iret hx hb hr (mg_endr h hI hK hN hS) hS.2.2 dX7_scoreOf_101
  have w13 : ∀ (x1 : Int32) (x2 : Int32) (x3 : Int32) (x4 : Int32) (x5 : Int32), lf5 (fX7_scoreOf_13 M) 100 x1 x2 x3 x4 x5 = some r → mG p l e (headSpec wsX7_scoreOf rmX7_scoreOf).room s m (([.ref (ad 0), .int a1] : List Value).toArray) below meth c (MQ below (mQi D ad cI cZ r M) (([.ref (ad 0), .int a1] : List Value).toArray) s 0 0 (mA ad)) D ad cI cZ 6 M 13 [(0, .ref (ad 0)), (1, .int x1), (2, .int x2), (3, .int x3), (4, .int x4), (5, .int x5)] [] := by
    skip
    refine lf5_ok (P := (fun x1 x2 x3 x4 x5 => mG p l e (headSpec wsX7_scoreOf rmX7_scoreOf).room s m (([.ref (ad 0), .int a1] : List Value).toArray) below meth c (MQ below (mQi D ad cI cZ r M) (([.ref (ad 0), .int a1] : List Value).toArray) s 0 0 (mA ad)) D ad cI cZ 6 M 13 [(0, .ref (ad 0)), (1, .int x1), (2, .int x2), (3, .int x3), (4, .int x4), (5, .int x5)] [])) (fun k13 hk13 x1 x2 x3 x4 x5 h H locs ls hN hS hl => ?_) 100
    unfold fX7_scoreOf_13 at h
    refine lv_iload hx hb dX7_scoreOf_13 (lv_at hl 5 rfl) ?_
    refine lv_iconst (v := (5 : Int32)) hx hb dX7_scoreOf_15 (by decide) ?_
    refine lv_iload_n hx hb dX7_scoreOf_16 rfl (lv_at hl 1 rfl) ?_
    refine lv_imul hx hb dX7_scoreOf_17 ?_
    refine lv_iconst (v := (5 : Int32)) hx hb dX7_scoreOf_18 (by decide) ?_
    refine lv_iadd hx hb dX7_scoreOf_19 ?_
    refine lv_icmp_ge (tgt := 88) hx hb dX7_scoreOf_20 (by decide) (fun hc => ?_) (fun hc => ?_)
    · have h := ite_t h hc
      exact w88  x1 x2 x3 x4 h _ _ _ hN hS (lv_sub hl [0, 1, 2, 3, 4] rfl)
    · have h := ite_f h hc
      refine lv_iload_n hx hb dX7_scoreOf_23 rfl (lv_at hl 2 rfl) ?_
      refine lv_aload_n hx hb dX7_scoreOf_24 rfl (lv_at hl 0 rfl) ?_
      refine mg_get hx hb hts hin hown hK hN 26 (by decide) l0 rfl (v := .ref (ad 26)) rfl dX7_scoreOf_25 ?_
      refine lv_iload hx hb dX7_scoreOf_28 (lv_at hl 5 rfl) ?_
      obtain ⟨g2, h⟩ := gd_ok h
      refine mg_ild hx hb hK hN 26 rfl (if_neg (by decide)) (gin_ok g2) dX7_scoreOf_30 ?_
      refine lv_iadd hx hb dX7_scoreOf_31 ?_
      refine lv_topi (fun v3 ev3 => ?_)
      have h := bnd_ok h ev3
      refine lv_istore_n (lv' := [(2, .int v3), (0, .ref (ad 0)), (1, .int x1), (3, .int x3), (4, .int x4), (5, .int x5)]) hx hb dX7_scoreOf_32 rfl hl (by decide) rfl (fun ls hl => ?_)
      refine lv_aload_n hx hb dX7_scoreOf_33 rfl (lv_at hl 1 rfl) ?_
      refine mg_get hx hb hts hin hown hK hN 26 (by decide) l0 rfl (v := .ref (ad 26)) rfl dX7_scoreOf_34 ?_
      refine lv_iload hx hb dX7_scoreOf_37 (lv_at hl 5 rfl) ?_
      obtain ⟨g4, h⟩ := gd_ok h
      refine mg_ild hx hb hK hN 26 rfl (if_neg (by decide)) (gin_ok g4) dX7_scoreOf_39 ?_
      refine lv_iload_n hx hb dX7_scoreOf_40 rfl (lv_at hl 3 rfl) ?_
      refine lv_icmp_ge (tgt := 54) hx hb dX7_scoreOf_41 (by decide) (fun hc => ?_) (fun hc => ?_)
      · have h := ite_t h hc
        refine lv_iload_n hx hb dX7_scoreOf_54 rfl (lv_at hl 3 rfl) ?_
        exact w55 k13 hk13 x1 v3 x4 x5 x3 h _ _ _ hN hS (lv_sub hl [1, 2, 0, 4, 5] rfl)
      · have h := ite_f h hc
        refine lv_aload_n hx hb dX7_scoreOf_44 rfl (lv_at hl 1 rfl) ?_
        refine mg_get hx hb hts hin hown hK hN 26 (by decide) l0 rfl (v := .ref (ad 26)) rfl dX7_scoreOf_45 ?_
        refine lv_iload hx hb dX7_scoreOf_48 (lv_at hl 5 rfl) ?_
        obtain ⟨g5, h⟩ := gd_ok h
        refine mg_ild hx hb hK hN 26 rfl (if_neg (by decide)) (gin_ok g5) dX7_scoreOf_50 ?_
        refine lv_goto (tgt := 55) hx hb dX7_scoreOf_51 (by decide) ?_
        exact w55 k13 hk13 x1 v3 x4 x5 (M 26 (Int32.toNatClampNeg x5)) h _ _ _ hN hS (lv_sub hl [1, 2, 0, 4, 5] rfl)
  unfold fX7_scoreOf at h
  refine lv_iconst (v := (0 : Int32)) hx hb dX7_scoreOf_0 (by decide) ?_
  refine lv_istore_n (lv' := [(2, .int (0 : Int32)), (0, .ref (ad 0)), (1, .int a1)]) hx hb dX7_scoreOf_1 rfl hl (by decide) rfl (fun ls hl => ?_)
  refine lv_bipush (v := (100 : Int32)) hx hb dX7_scoreOf_2 (by decide) ?_
  refine lv_istore_n (lv' := [(3, .int (100 : Int32)), (2, .int (0 : Int32)), (0, .ref (ad 0)), (1, .int a1)]) hx hb dX7_scoreOf_4 rfl hl (by decide) rfl (fun ls hl => ?_)
  refine lv_iconst (v := (0 : Int32)) hx hb dX7_scoreOf_5 (by decide) ?_
  refine lv_istore (lv' := [(4, .int (0 : Int32)), (3, .int (100 : Int32)), (2, .int (0 : Int32)), (0, .ref (ad 0)), (1, .int a1)]) hx hb dX7_scoreOf_6 hl (by decide) rfl (fun ls hl => ?_)
  refine lv_iconst (v := (5 : Int32)) hx hb dX7_scoreOf_8 (by decide) ?_
  refine lv_iload_n hx hb dX7_scoreOf_9 rfl (lv_at hl 4 rfl) ?_
  refine lv_imul hx hb dX7_scoreOf_10 ?_
  refine lv_topi (fun v1 ev1 => ?_)
  have h := bnd_ok h ev1
  refine lv_istore (lv' := [(5, .int v1), (4, .int (0 : Int32)), (3, .int (100 : Int32)), (2, .int (0 : Int32)), (0, .ref (ad 0)), (1, .int a1)]) hx hb dX7_scoreOf_11 hl (by decide) rfl (fun ls hl => ?_)
  exact w13  a1 (0 : Int32) (100 : Int32) (0 : Int32) v1 h _ _ _ hN hS (lv_sub hl [4, 5, 3, 2, 1, 0] rfl)
def fX7_score_42 (t0 : Int32) (M : MT) : Option (Int32 × MT) := some (t0, M)
def fX7_score_27 (x1 : Int32) (t0 : Int32) (M : MT) : Option (Int32 × MT) := cl2 (fX7_holds t0 M) (fun v4 M5 => (if v4 = 0 then fX7_score_42 (0 : Int32) M5 else cl1 (fX7_scoreOf x1 M5) (fun v7 => fX7_score_42 v7 M5)))
def fX7_score (a1 : Int32) (M : MT) : Option (Int32 × MT) := cl1 (fX7_isBand a1) (fun v1 => (if v1 = 0 then fX7_score_27 a1 (1 : Int32) M else gd (gin a1 4) ((if (M 25 (Int32.toNatClampNeg a1)) = (5 : Int32) then fX7_score_27 a1 (0 : Int32) M else fX7_score_27 a1 (2 : Int32) M))))
def rmX7_score : Room := { frames := 3, cells := 0, slots := 0, locals := 56 }
set_option maxHeartbeats 4000000 in
set_option maxRecDepth 100000 in
theorem mX7_score (l : Launch) (D : va_G) (ad : Nat → Nat) (cI cZ : ClassId) (M : MT) (a1 : Int32) (r : Int32) (Mz : MT) (h : fX7_score a1 M = some (r, Mz)) : Met l yX7_score wsX7_score rmX7_score (va_Pc [.ref (ad 0), .int a1] (mP D ad cI cZ M)) (mQi D ad cI cZ r Mz) 0 0 (mA ad) := by
  refine Met.ofW (cc := cX7_score) (maxL := 2) (ret := some .int) (by decide) rfl ?_
  intro p e s m args below meth c s₁ B hml hv
  obtain ⟨rfl, hI, hN, hK⟩ := hv
  have hx := B.exec
  have hb := B.bytes
  have hr := B.returns
  have hts := atoms_spec (ws := wsX7_score) B.pre
  have hown : s.vm.findClass RX7 = some m.cls := findClass_of_methodNamed B.named
  have hlocks := B.notSynchronized
  have hin : ∀ w ∈ wsX70, w ∈ wsX7_score := fun w h => List.mem_cons_of_mem _ (List.mem_append_right _ h)
  have l0 := hts (.fieldLink RX7 71 "PanyardModel" "marks" "[I") (List.mem_of_getElem? (i := 1) rfl)
  have hS : va_S (mA ad) s.heap s.heap [] := va_S.rf
  have hl := lv_entry ([.ref (ad 0), .int a1]) (n := 2) (Nat.le_of_ble_eq_true rfl)
  rw [lg_entry_eq]
  generalize (lg_sl ([.ref (ad 0), .int a1]) ++ List.replicate (2 - (lg_sl ([.ref (ad 0), .int a1])).length) Slot.unset).toArray = ls at hl ⊢
  have hl : lv_has ls 2 [(0, .ref (ad 0)), (1, .int a1)] := hl
  have w42 : ∀ (t0 : Int32) (M : MT), fX7_score_42  t0 M = some (r, Mz) → mG p l e (headSpec wsX7_score rmX7_score).room s m (([.ref (ad 0), .int a1] : List Value).toArray) below meth c (MQ below (mQi D ad cI cZ r Mz) (([.ref (ad 0), .int a1] : List Value).toArray) s 0 0 (mA ad)) D ad cI cZ 2 M 42 [(0, .ref (ad 0))] [.int t0] := by
    intro  t0 M h H locs ls hN hS hl
    unfold fX7_score_42 at h
    exact W.iret hx hb hr (mg_endi h hI hK hN hS) hS.2.2 dX7_score_42
  have w27 : ∀ (x1 : Int32) (t0 : Int32) (M : MT), fX7_score_27  x1 t0 M = some (r, Mz) → mG p l e (headSpec wsX7_score rmX7_score).room s m (([.ref (ad 0), .int a1] : List Value).toArray) below meth c (MQ below (mQi D ad cI cZ r Mz) (([.ref (ad 0), .int a1] : List Value).toArray) s 0 0 (mA ad)) D ad cI cZ 2 M 27 [(0, .ref (ad 0)), (1, .int x1)] [.int t0, .ref (ad 0)] := by
    intro  x1 t0 M h H locs ls hN hS hl
    unfold fX7_score_27 at h
    obtain ⟨v4, M5, c6, h⟩ := cl2_ok h
    refine mg_calli (va_runV (As := [.int t0]) (rest := []) ⟨hx, hb, hml, hown, hts⟩ (mX7_holds l D ad cI cZ M t0 v4 M5 c6) (cwV 1 hts gX7_score_X7_holds rfl rfl rfl (by decide +kernel) ⟨Nat.le_of_ble_eq_true rfl, Nat.le_of_ble_eq_true rfl⟩) (mg_preV hI hK hN) rfl rfl hl.1 rfl (lv_room (Nat.le_of_ble_eq_true rfl)) dX7_score_27 ⟨Nat.zero_le _, Nat.zero_le _⟩) hS (fun H locs hN hS => ?_)
    refine lv_if_eq (tgt := 41) hx hb dX7_score_30 (by decide) (fun hc => ?_) (fun hc => ?_)
    · have h := ite_t h hc
      refine lv_iconst (v := (0 : Int32)) hx hb dX7_score_41 (by decide) ?_
      exact w42  (0 : Int32) M5 h _ _ _ hN hS (lv_sub hl [0] rfl)
    · have h := ite_f h hc
      refine lv_aload_n hx hb dX7_score_33 rfl (lv_at hl 0 rfl) ?_
      refine lv_iload_n hx hb dX7_score_34 rfl (lv_at hl 1 rfl) ?_
      obtain ⟨v7, c8, h⟩ := cl1_ok h
      refine mg_calli (va_runV (As := [.int x1]) (rest := []) ⟨hx, hb, hml, hown, hts⟩ (mX7_scoreOf l D ad cI cZ M5 x1 v7 c8) (cwV 1 hts gX7_score_X7_scoreOf rfl rfl rfl (by decide +kernel) ⟨Nat.le_of_ble_eq_true rfl, Nat.le_of_ble_eq_true rfl⟩) (mg_preV hI hK hN) rfl rfl hl.1 rfl (lv_room (Nat.le_of_ble_eq_true rfl)) dX7_score_35 ⟨Nat.zero_le _, Nat.zero_le _⟩) hS (fun H locs hN hS => ?_)
      refine lv_goto (tgt := 42) hx hb dX7_score_38 (by decide) ?_
      exact w42  v7 M5 h _ _ _ hN hS (lv_sub hl [0] rfl)
  unfold fX7_score at h
  refine lv_aload_n hx hb dX7_score_0 rfl (lv_at hl 0 rfl) ?_
  refine lv_iload_n hx hb dX7_score_1 rfl (lv_at hl 1 rfl) ?_
  obtain ⟨v1, c2, h⟩ := cl1_ok h
  refine mg_calli (va_runS (As := [.int a1]) (rest := [.ref (ad 0)]) ⟨hx, hb, hml, hown, hts⟩ (mX7_isBand l D ad cI cZ M a1 v1 c2) (va_cwS 1 hts gX7_score_X7_isBand rfl rfl rfl (by decide +kernel) ⟨Nat.le_of_ble_eq_true rfl, Nat.le_of_ble_eq_true rfl⟩) (mg_preS hI hK hN) rfl rfl hl.1 rfl (lv_room (Nat.le_of_ble_eq_true rfl)) dX7_score_2 ⟨Nat.zero_le _, Nat.zero_le _⟩) hS (fun H locs hN hS => ?_)
  refine lv_if_ne (tgt := 12) hx hb dX7_score_5 (by decide) (fun hc => ?_) (fun hc => ?_)
  · have h := ite_f h hc
    refine lv_aload_n hx hb dX7_score_12 rfl (lv_at hl 0 rfl) ?_
    refine mg_get hx hb hts hin hown hK hN 25 (by decide) l0 rfl (v := .ref (ad 25)) rfl dX7_score_13 ?_
    refine lv_iload_n hx hb dX7_score_16 rfl (lv_at hl 1 rfl) ?_
    obtain ⟨g3, h⟩ := gd_ok h
    refine mg_ild hx hb hK hN 25 rfl (if_neg (by decide)) (gin_ok g3) dX7_score_17 ?_
    refine lv_iconst (v := (5 : Int32)) hx hb dX7_score_18 (by decide) ?_
    refine lv_icmp_ne (tgt := 26) hx hb dX7_score_19 (by decide) (fun hc => ?_) (fun hc => ?_)
    · have h := ite_f h hc
      refine lv_iconst (v := (2 : Int32)) hx hb dX7_score_26 (by decide) ?_
      exact w27  a1 (2 : Int32) M h _ _ _ hN hS (lv_sub hl [0, 1] rfl)
    · have h := ite_t h hc
      refine lv_iconst (v := (0 : Int32)) hx hb dX7_score_22 (by decide) ?_
      refine lv_goto (tgt := 27) hx hb dX7_score_23 (by decide) ?_
      exact w27  a1 (0 : Int32) M h _ _ _ hN hS (lv_sub hl [0, 1] rfl)
  · have h := ite_t h hc
    refine lv_iconst (v := (1 : Int32)) hx hb dX7_score_8 (by decide) ?_
    refine lv_goto (tgt := 27) hx hb dX7_score_9 (by decide) ?_
    exact w27  a1 (1 : Int32) M h _ _ _ hN hS (lv_sub hl [0, 1] rfl)
def fX7_isAhead_31 (M : MT) (t0 : Int32) : Option (Int32) := gd (gbo t0) (some t0)
def fX7_isAhead_72 (M : MT) (t0 : Int32) : Option (Int32) := gd (gbo t0) (some t0)
def fX7_isAhead_67 (M : MT) : Option (Int32) := fX7_isAhead_72 M (1 : Int32)
def fX7_isAhead_71 (M : MT) : Option (Int32) := fX7_isAhead_72 M (0 : Int32)
def fX7_isAhead (a1 : Int32) (a2 : Int32) (M : MT) : Option (Int32) := cl1 (fX7_scoreOf a1 M) (fun v1 => cl1 (fX7_scoreOf a2 M) (fun v3 => (if v1 = v3 then gd (gin a1 4) (gd (gin a2 4) ((if (M 23 (Int32.toNatClampNeg a1)) < (M 23 (Int32.toNatClampNeg a2)) then fX7_isAhead_67 M else gd (gin a1 4) (gd (gin a2 4) ((if (M 23 (Int32.toNatClampNeg a1)) = (M 23 (Int32.toNatClampNeg a2)) then (if a2 ≤ a1 then fX7_isAhead_71 M else fX7_isAhead_67 M) else fX7_isAhead_71 M)))))) else cl1 (fX7_scoreOf a1 M) (fun v9 => cl1 (fX7_scoreOf a2 M) (fun v11 => (if v9 ≤ v11 then fX7_isAhead_31 M (0 : Int32) else fX7_isAhead_31 M (1 : Int32)))))))
def rmX7_isAhead : Room := { frames := 2, cells := 0, slots := 0, locals := 42 }
set_option maxHeartbeats 4000000 in
set_option maxRecDepth 100000 in
theorem mX7_isAhead (l : Launch) (D : va_G) (ad : Nat → Nat) (cI cZ : ClassId) (M : MT) (a1 : Int32) (a2 : Int32) (r : Int32) (h : fX7_isAhead a1 a2 M = some r) : Met l yX7_isAhead wsX7_isAhead rmX7_isAhead (va_Pc [.ref (ad 0), .int a1, .int a2] (mP D ad cI cZ M)) (mQi D ad cI cZ r M) 0 0 (mA ad) := by
  refine Met.ofW (cc := cX7_isAhead) (maxL := 3) (ret := some .boolean) (by decide) rfl ?_
  intro p e s m args below meth c s₁ B hml hv
  obtain ⟨rfl, hI, hN, hK⟩ := hv
  have hx := B.exec
  have hb := B.bytes
  have hr := B.returns
  have hts := atoms_spec (ws := wsX7_isAhead) B.pre
  have hown : s.vm.findClass RX7 = some m.cls := findClass_of_methodNamed B.named
  have hlocks := B.notSynchronized
  have hin : ∀ w ∈ wsX70, w ∈ wsX7_isAhead := fun w h => List.mem_cons_of_mem _ (List.mem_append_right _ h)
  have l0 := hts (.fieldLink RX7 65 "PanyardModel" "heard" "[I") (List.mem_of_getElem? (i := 1) rfl)
  have hS : va_S (mA ad) s.heap s.heap [] := va_S.rf
  have hl := lv_entry ([.ref (ad 0), .int a1, .int a2]) (n := 3) (Nat.le_of_ble_eq_true rfl)
  rw [lg_entry_eq]
  generalize (lg_sl ([.ref (ad 0), .int a1, .int a2]) ++ List.replicate (3 - (lg_sl ([.ref (ad 0), .int a1, .int a2])).length) Slot.unset).toArray = ls at hl ⊢
  have hl : lv_has ls 3 [(0, .ref (ad 0)), (1, .int a1), (2, .int a2)] := hl
  have w31 : ∀ (t0 : Int32), fX7_isAhead_31 M t0 = some r → mG p l e (headSpec wsX7_isAhead rmX7_isAhead).room s m (([.ref (ad 0), .int a1, .int a2] : List Value).toArray) below meth c (MQ below (mQi D ad cI cZ r M) (([.ref (ad 0), .int a1, .int a2] : List Value).toArray) s 0 0 (mA ad)) D ad cI cZ 3 M 31 [(0, .ref (ad 0))] [.int t0] := by
    intro  t0 h H locs ls hN hS hl
    unfold fX7_isAhead_31 at h
    obtain ⟨g13, h⟩ := gd_ok h
    exact W.zret hx hb hr (gbo_ok g13) (mg_endr h hI hK hN hS) hS.2.2 dX7_isAhead_31
  have w72 : ∀ (t0 : Int32), fX7_isAhead_72 M t0 = some r → mG p l e (headSpec wsX7_isAhead rmX7_isAhead).room s m (([.ref (ad 0), .int a1, .int a2] : List Value).toArray) below meth c (MQ below (mQi D ad cI cZ r M) (([.ref (ad 0), .int a1, .int a2] : List Value).toArray) s 0 0 (mA ad)) D ad cI cZ 3 M 72 [(0, .ref (ad 0))] [.int t0] := by
    intro  t0 h H locs ls hN hS hl
    unfold fX7_isAhead_72 at h
    obtain ⟨g14, h⟩ := gd_ok h
    exact W.zret hx hb hr (gbo_ok g14) (mg_endr h hI hK hN hS) hS.2.2 dX7_isAhead_72
  have w67 : fX7_isAhead_67 M  = some r → mG p l e (headSpec wsX7_isAhead rmX7_isAhead).room s m (([.ref (ad 0), .int a1, .int a2] : List Value).toArray) below meth c (MQ below (mQi D ad cI cZ r M) (([.ref (ad 0), .int a1, .int a2] : List Value).toArray) s 0 0 (mA ad)) D ad cI cZ 3 M 67 [(0, .ref (ad 0))] [] := by
    intro   h H locs ls hN hS hl
    unfold fX7_isAhead_67 at h
    refine lv_iconst (v := (1 : Int32)) hx hb dX7_isAhead_67 (by decide) ?_
    refine lv_goto (tgt := 72) hx hb dX7_isAhead_68 (by decide) ?_
    exact w72  (1 : Int32) h _ _ _ hN hS (lv_sub hl [0] rfl)
  have w71 : fX7_isAhead_71 M  = some r → mG p l e (headSpec wsX7_isAhead rmX7_isAhead).room s m (([.ref (ad 0), .int a1, .int a2] : List Value).toArray) below meth c (MQ below (mQi D ad cI cZ r M) (([.ref (ad 0), .int a1, .int a2] : List Value).toArray) s 0 0 (mA ad)) D ad cI cZ 3 M 71 [(0, .ref (ad 0))] [] := by
    intro   h H locs ls hN hS hl
    unfold fX7_isAhead_71 at h
    refine lv_iconst (v := (0 : Int32)) hx hb dX7_isAhead_71 (by decide) ?_
    exact w72  (0 : Int32) h _ _ _ hN hS (lv_sub hl [0] rfl)
  unfold fX7_isAhead at h
  refine lv_aload_n hx hb dX7_isAhead_0 rfl (lv_at hl 0 rfl) ?_
  refine lv_iload_n hx hb dX7_isAhead_1 rfl (lv_at hl 1 rfl) ?_
  obtain ⟨v1, c2, h⟩ := cl1_ok h
  refine mg_calli (va_runV (As := [.int a1]) (rest := []) ⟨hx, hb, hml, hown, hts⟩ (mX7_scoreOf l D ad cI cZ M a1 v1 c2) (cwV 1 hts gX7_isAhead_X7_scoreOf rfl rfl rfl (by decide +kernel) ⟨Nat.le_of_ble_eq_true rfl, Nat.le_of_ble_eq_true rfl⟩) (mg_preV hI hK hN) rfl rfl hl.1 rfl (lv_room (Nat.le_of_ble_eq_true rfl)) dX7_isAhead_2 ⟨Nat.zero_le _, Nat.zero_le _⟩) hS (fun H locs hN hS => ?_)
  refine lv_aload_n hx hb dX7_isAhead_5 rfl (lv_at hl 0 rfl) ?_
  refine lv_iload_n hx hb dX7_isAhead_6 rfl (lv_at hl 2 rfl) ?_
  obtain ⟨v3, c4, h⟩ := cl1_ok h
  refine mg_calli (va_runV (As := [.int a2]) (rest := [.int v1]) ⟨hx, hb, hml, hown, hts⟩ (mX7_scoreOf l D ad cI cZ M a2 v3 c4) (cwV 1 hts gX7_isAhead_X7_scoreOf rfl rfl rfl (by decide +kernel) ⟨Nat.le_of_ble_eq_true rfl, Nat.le_of_ble_eq_true rfl⟩) (mg_preV hI hK hN) rfl rfl hl.1 rfl (lv_room (Nat.le_of_ble_eq_true rfl)) dX7_isAhead_7 ⟨Nat.zero_le _, Nat.zero_le _⟩) hS (fun H locs hN hS => ?_)
  refine lv_icmp_eq (tgt := 32) hx hb dX7_isAhead_10 (by decide) (fun hc => ?_) (fun hc => ?_)
  · have h := ite_t h hc
    refine lv_aload_n hx hb dX7_isAhead_32 rfl (lv_at hl 0 rfl) ?_
    refine mg_get hx hb hts hin hown hK hN 23 (by decide) l0 rfl (v := .ref (ad 23)) rfl dX7_isAhead_33 ?_
    refine lv_iload_n hx hb dX7_isAhead_36 rfl (lv_at hl 1 rfl) ?_
    obtain ⟨g5, h⟩ := gd_ok h
    refine mg_ild hx hb hK hN 23 rfl (if_neg (by decide)) (gin_ok g5) dX7_isAhead_37 ?_
    refine lv_aload_n hx hb dX7_isAhead_38 rfl (lv_at hl 0 rfl) ?_
    refine mg_get hx hb hts hin hown hK hN 23 (by decide) l0 rfl (v := .ref (ad 23)) rfl dX7_isAhead_39 ?_
    refine lv_iload_n hx hb dX7_isAhead_42 rfl (lv_at hl 2 rfl) ?_
    obtain ⟨g6, h⟩ := gd_ok h
    refine mg_ild hx hb hK hN 23 rfl (if_neg (by decide)) (gin_ok g6) dX7_isAhead_43 ?_
    refine lv_icmp_lt (tgt := 67) hx hb dX7_isAhead_44 (by decide) (fun hc => ?_) (fun hc => ?_)
    · have h := ite_t h hc
      exact w67   h _ _ _ hN hS (lv_sub hl [0] rfl)
    · have h := ite_f h hc
      refine lv_aload_n hx hb dX7_isAhead_47 rfl (lv_at hl 0 rfl) ?_
      refine mg_get hx hb hts hin hown hK hN 23 (by decide) l0 rfl (v := .ref (ad 23)) rfl dX7_isAhead_48 ?_
      refine lv_iload_n hx hb dX7_isAhead_51 rfl (lv_at hl 1 rfl) ?_
      obtain ⟨g7, h⟩ := gd_ok h
      refine mg_ild hx hb hK hN 23 rfl (if_neg (by decide)) (gin_ok g7) dX7_isAhead_52 ?_
      refine lv_aload_n hx hb dX7_isAhead_53 rfl (lv_at hl 0 rfl) ?_
      refine mg_get hx hb hts hin hown hK hN 23 (by decide) l0 rfl (v := .ref (ad 23)) rfl dX7_isAhead_54 ?_
      refine lv_iload_n hx hb dX7_isAhead_57 rfl (lv_at hl 2 rfl) ?_
      obtain ⟨g8, h⟩ := gd_ok h
      refine mg_ild hx hb hK hN 23 rfl (if_neg (by decide)) (gin_ok g8) dX7_isAhead_58 ?_
      refine lv_icmp_ne (tgt := 71) hx hb dX7_isAhead_59 (by decide) (fun hc => ?_) (fun hc => ?_)
      · have h := ite_f h hc
        exact w71   h _ _ _ hN hS (lv_sub hl [0] rfl)
      · have h := ite_t h hc
        refine lv_iload_n hx hb dX7_isAhead_62 rfl (lv_at hl 1 rfl) ?_
        refine lv_iload_n hx hb dX7_isAhead_63 rfl (lv_at hl 2 rfl) ?_
        refine lv_icmp_ge (tgt := 71) hx hb dX7_isAhead_64 (by decide) (fun hc => ?_) (fun hc => ?_)
        · have h := ite_t h hc
          exact w71   h _ _ _ hN hS (lv_sub hl [0] rfl)
        · have h := ite_f h hc
          exact w67   h _ _ _ hN hS (lv_sub hl [0] rfl)
  · have h := ite_f h hc
    refine lv_aload_n hx hb dX7_isAhead_13 rfl (lv_at hl 0 rfl) ?_
    refine lv_iload_n hx hb dX7_isAhead_14 rfl (lv_at hl 1 rfl) ?_
    obtain ⟨v9, c10, h⟩ := cl1_ok h
    refine mg_calli (va_runV (As := [.int a1]) (rest := []) ⟨hx, hb, hml, hown, hts⟩ (mX7_scoreOf l D ad cI cZ M a1 v9 c10) (cwV 1 hts gX7_isAhead_X7_scoreOf rfl rfl rfl (by decide +kernel) ⟨Nat.le_of_ble_eq_true rfl, Nat.le_of_ble_eq_true rfl⟩) (mg_preV hI hK hN) rfl rfl hl.1 rfl (lv_room (Nat.le_of_ble_eq_true rfl)) dX7_isAhead_15 ⟨Nat.zero_le _, Nat.zero_le _⟩) hS (fun H locs hN hS => ?_)
    refine lv_aload_n hx hb dX7_isAhead_18 rfl (lv_at hl 0 rfl) ?_
    refine lv_iload_n hx hb dX7_isAhead_19 rfl (lv_at hl 2 rfl) ?_
    obtain ⟨v11, c12, h⟩ := cl1_ok h
    refine mg_calli (va_runV (As := [.int a2]) (rest := [.int v9]) ⟨hx, hb, hml, hown, hts⟩ (mX7_scoreOf l D ad cI cZ M a2 v11 c12) (cwV 1 hts gX7_isAhead_X7_scoreOf rfl rfl rfl (by decide +kernel) ⟨Nat.le_of_ble_eq_true rfl, Nat.le_of_ble_eq_true rfl⟩) (mg_preV hI hK hN) rfl rfl hl.1 rfl (lv_room (Nat.le_of_ble_eq_true rfl)) dX7_isAhead_20 ⟨Nat.zero_le _, Nat.zero_le _⟩) hS (fun H locs hN hS => ?_)
    refine lv_icmp_le (tgt := 30) hx hb dX7_isAhead_23 (by decide) (fun hc => ?_) (fun hc => ?_)
    · have h := ite_t h hc
      refine lv_iconst (v := (0 : Int32)) hx hb dX7_isAhead_30 (by decide) ?_
      exact w31  (0 : Int32) h _ _ _ hN hS (lv_sub hl [0] rfl)
    · have h := ite_f h hc
      refine lv_iconst (v := (1 : Int32)) hx hb dX7_isAhead_26 (by decide) ?_
      refine lv_goto (tgt := 31) hx hb dX7_isAhead_27 (by decide) ?_
      exact w31  (1 : Int32) h _ _ _ hN hS (lv_sub hl [0] rfl)
def fX7_rank_88 (k27 : Int32 → Int32 → Int32 → MT → Option (Int32 × MT)) (k38 : Int32 → Int32 → Int32 → Int32 → Int32 → MT → Option (Int32 × MT)) (x1 : Int32) (x2 : Int32) (x3 : Int32) (x5 : Int32) (t0 : Int32) (t1 : Int32) (M : MT) : Option (Int32 × MT) := bnd (t1 + t0) (fun v11 => bnd (x5 + (1 : Int32)) (fun v12 => k38 x1 x2 x3 v11 v12 M))
def fX7_rank_87 (k27 : Int32 → Int32 → Int32 → MT → Option (Int32 × MT)) (k38 : Int32 → Int32 → Int32 → Int32 → Int32 → MT → Option (Int32 × MT)) (x1 : Int32) (x2 : Int32) (x3 : Int32) (x5 : Int32) (t0 : Int32) (M : MT) : Option (Int32 × MT) := fX7_rank_88 k27 k38 x1 x2 x3 x5 (0 : Int32) t0 M
def fX7_rank_118 (k27 : Int32 → Int32 → Int32 → MT → Option (Int32 × MT)) (x1 : Int32) (x3 : Int32) (t0 : Int32) (M : MT) : Option (Int32 × MT) := bnd (x3 + (1 : Int32)) (fun v13 => k27 x1 t0 v13 M)
def fX7_rank_117 (k27 : Int32 → Int32 → Int32 → MT → Option (Int32 × MT)) (x1 : Int32) (x2 : Int32) (x3 : Int32) (M : MT) : Option (Int32 × MT) := fX7_rank_118 k27 x1 x3 x2 M
def fX7_rank_97 (k27 : Int32 → Int32 → Int32 → MT → Option (Int32 × MT)) (x1 : Int32) (x2 : Int32) (x3 : Int32) (x4 : Int32) (M : MT) : Option (Int32 × MT) := gd (gin x3 4) ((if (M 25 (Int32.toNatClampNeg x3)) = (5 : Int32) then (if x4 = x1 then fX7_rank_118 k27 x1 x3 x3 M else fX7_rank_117 k27 x1 x2 x3 M) else fX7_rank_117 k27 x1 x2 x3 M))
def fX7_rank_38 (k27 : Int32 → Int32 → Int32 → MT → Option (Int32 × MT)) (k38 : Int32 → Int32 → Int32 → Int32 → Int32 → MT → Option (Int32 × MT)) (x1 : Int32) (x2 : Int32) (x3 : Int32) (x4 : Int32) (x5 : Int32) (M : MT) : Option (Int32 × MT) := (if (4 : Int32) ≤ x5 then fX7_rank_97 k27 x1 x2 x3 x4 M else gd (gin x5 4) ((if (M 25 (Int32.toNatClampNeg x5)) = (5 : Int32) then gd (gin x3 4) ((if (M 25 (Int32.toNatClampNeg x3)) = (5 : Int32) then (if x5 = x3 then fX7_rank_87 k27 k38 x1 x2 x3 x5 x4 M else cl1 (fX7_isAhead x5 x3 M) (fun v8 => (if v8 = 0 then fX7_rank_87 k27 k38 x1 x2 x3 x5 x4 M else fX7_rank_88 k27 k38 x1 x2 x3 x5 (1 : Int32) x4 M))) else fX7_rank_87 k27 k38 x1 x2 x3 x5 x4 M)) else fX7_rank_87 k27 k38 x1 x2 x3 x5 x4 M)))
def fX7_rank_125 (x2 : Int32) (M : MT) : Option (Int32 × MT) := some (x2, M)
def fX7_rank_27 (k27 : Int32 → Int32 → Int32 → MT → Option (Int32 × MT)) (x1 : Int32) (x2 : Int32) (x3 : Int32) (M : MT) : Option (Int32 × MT) := (if (4 : Int32) ≤ x3 then fX7_rank_125 x2 M else lf6 (fX7_rank_38 k27) 100 x1 x2 x3 (0 : Int32) (0 : Int32) M)
def fX7_rank_15 (x1 : Int32) (t0 : Int32) (M : MT) : Option (Int32 × MT) := cl2 (fX7_holds t0 M) (fun v3 M4 => (if v3 = 0 then some ((0 : Int32), M4) else lf4 fX7_rank_27 100 x1 (-1 : Int32) (0 : Int32) M4))
def fX7_rank (a1 : Int32) (M : MT) : Option (Int32 × MT) := cl1 (fX7_isIn a1 (0 : Int32) (3 : Int32)) (fun v1 => (if v1 = 0 then fX7_rank_15 a1 (1 : Int32) M else fX7_rank_15 a1 (0 : Int32) M))
def rmX7_rank : Room := { frames := 3, cells := 0, slots := 0, locals := 64 }
set_option maxHeartbeats 4000000 in
set_option maxRecDepth 100000 in
theorem mX7_rank (l : Launch) (D : va_G) (ad : Nat → Nat) (cI cZ : ClassId) (M : MT) (a1 : Int32) (r : Int32) (Mz : MT) (h : fX7_rank a1 M = some (r, Mz)) : Met l yX7_rank wsX7_rank rmX7_rank (va_Pc [.ref (ad 0), .int a1] (mP D ad cI cZ M)) (mQi D ad cI cZ r Mz) 0 0 (mA ad) := by
  refine Met.ofW (cc := cX7_rank) (maxL := 6) (ret := some .int) (by decide) rfl ?_
  intro p e s m args below meth c s₁ B hml hv
  obtain ⟨rfl, hI, hN, hK⟩ := hv
  have hx := B.exec
  have hb := B.bytes
  have hr := B.returns
  have hts := atoms_spec (ws := wsX7_rank) B.pre
  have hown : s.vm.findClass RX7 = some m.cls := findClass_of_methodNamed B.named
  have hlocks := B.notSynchronized
  have hin : ∀ w ∈ wsX70, w ∈ wsX7_rank := fun w h => List.mem_cons_of_mem _ (List.mem_append_right _ h)
  have l0 := hts (.fieldLink RX7 71 "PanyardModel" "marks" "[I") (List.mem_of_getElem? (i := 1) rfl)
  have hS : va_S (mA ad) s.heap s.heap [] := va_S.rf
  have hl := lv_entry ([.ref (ad 0), .int a1]) (n := 6) (Nat.le_of_ble_eq_true rfl)
  rw [lg_entry_eq]
  generalize (lg_sl ([.ref (ad 0), .int a1]) ++ List.replicate (6 - (lg_sl ([.ref (ad 0), .int a1])).length) Slot.unset).toArray = ls at hl ⊢
  have hl : lv_has ls 6 [(0, .ref (ad 0)), (1, .int a1)] := hl
  have w88 : ∀ (k27 : Int32 → Int32 → Int32 → MT → Option (Int32 × MT)) (hk27 : (∀ (x1 : Int32) (x2 : Int32) (x3 : Int32) (M : MT), k27 x1 x2 x3 M = some (r, Mz) → mG p l e (headSpec wsX7_rank rmX7_rank).room s m (([.ref (ad 0), .int a1] : List Value).toArray) below meth c (MQ below (mQi D ad cI cZ r Mz) (([.ref (ad 0), .int a1] : List Value).toArray) s 0 0 (mA ad)) D ad cI cZ 6 M 27 [(0, .ref (ad 0)), (1, .int x1), (2, .int x2), (3, .int x3)] [])) (k38 : Int32 → Int32 → Int32 → Int32 → Int32 → MT → Option (Int32 × MT)) (hk38 : (∀ (x1 : Int32) (x2 : Int32) (x3 : Int32) (x4 : Int32) (x5 : Int32) (M : MT), k38 x1 x2 x3 x4 x5 M = some (r, Mz) → mG p l e (headSpec wsX7_rank rmX7_rank).room s m (([.ref (ad 0), .int a1] : List Value).toArray) below meth c (MQ below (mQi D ad cI cZ r Mz) (([.ref (ad 0), .int a1] : List Value).toArray) s 0 0 (mA ad)) D ad cI cZ 6 M 38 [(0, .ref (ad 0)), (1, .int x1), (2, .int x2), (3, .int x3), (4, .int x4), (5, .int x5)] [])) (x1 : Int32) (x2 : Int32) (x3 : Int32) (x5 : Int32) (t0 : Int32) (t1 : Int32) (M : MT), fX7_rank_88 k27 k38 x1 x2 x3 x5 t0 t1 M = some (r, Mz) → mG p l e (headSpec wsX7_rank rmX7_rank).room s m (([.ref (ad 0), .int a1] : List Value).toArray) below meth c (MQ below (mQi D ad cI cZ r Mz) (([.ref (ad 0), .int a1] : List Value).toArray) s 0 0 (mA ad)) D ad cI cZ 6 M 88 [(0, .ref (ad 0)), (1, .int x1), (2, .int x2), (3, .int x3), (5, .int x5)] [.int t0, .int t1] := by
    intro k27 hk27 k38 hk38 x1 x2 x3 x5 t0 t1 M h H locs ls hN hS hl
    unfold fX7_rank_88 at h
    refine lv_iadd hx hb dX7_rank_88 ?_
    refine lv_topi (fun v11 ev11 => ?_)
    have h := bnd_ok h ev11
    refine lv_istore (lv' := [(4, .int v11), (0, .ref (ad 0)), (1, .int x1), (2, .int x2), (3, .int x3), (5, .int x5)]) hx hb dX7_rank_89 hl (by decide) rfl (fun ls hl => ?_)
    obtain ⟨v12, ev12⟩ : ∃ y : Int32, y = (x5 + (1 : Int32)) := ⟨_, rfl⟩
    have h := bnd_ok h ev12
    refine lv_iinc (v := v12) (lv' := [(5, .int v12), (4, .int v11), (0, .ref (ad 0)), (1, .int x1), (2, .int x2), (3, .int x3)]) hx hb dX7_rank_91 hl (k := 5) rfl (by rw [ev12]; rfl) (by decide) rfl (fun ls hl => ?_)
    refine lv_goto (tgt := 38) hx hb dX7_rank_94 (by decide) ?_
    exact hk38 x1 x2 x3 v11 v12 M h _ _ _ hN hS (lv_sub hl [2, 3, 4, 5, 1, 0] rfl)
  have w87 : ∀ (k27 : Int32 → Int32 → Int32 → MT → Option (Int32 × MT)) (hk27 : (∀ (x1 : Int32) (x2 : Int32) (x3 : Int32) (M : MT), k27 x1 x2 x3 M = some (r, Mz) → mG p l e (headSpec wsX7_rank rmX7_rank).room s m (([.ref (ad 0), .int a1] : List Value).toArray) below meth c (MQ below (mQi D ad cI cZ r Mz) (([.ref (ad 0), .int a1] : List Value).toArray) s 0 0 (mA ad)) D ad cI cZ 6 M 27 [(0, .ref (ad 0)), (1, .int x1), (2, .int x2), (3, .int x3)] [])) (k38 : Int32 → Int32 → Int32 → Int32 → Int32 → MT → Option (Int32 × MT)) (hk38 : (∀ (x1 : Int32) (x2 : Int32) (x3 : Int32) (x4 : Int32) (x5 : Int32) (M : MT), k38 x1 x2 x3 x4 x5 M = some (r, Mz) → mG p l e (headSpec wsX7_rank rmX7_rank).room s m (([.ref (ad 0), .int a1] : List Value).toArray) below meth c (MQ below (mQi D ad cI cZ r Mz) (([.ref (ad 0), .int a1] : List Value).toArray) s 0 0 (mA ad)) D ad cI cZ 6 M 38 [(0, .ref (ad 0)), (1, .int x1), (2, .int x2), (3, .int x3), (4, .int x4), (5, .int x5)] [])) (x1 : Int32) (x2 : Int32) (x3 : Int32) (x5 : Int32) (t0 : Int32) (M : MT), fX7_rank_87 k27 k38 x1 x2 x3 x5 t0 M = some (r, Mz) → mG p l e (headSpec wsX7_rank rmX7_rank).room s m (([.ref (ad 0), .int a1] : List Value).toArray) below meth c (MQ below (mQi D ad cI cZ r Mz) (([.ref (ad 0), .int a1] : List Value).toArray) s 0 0 (mA ad)) D ad cI cZ 6 M 87 [(0, .ref (ad 0)), (1, .int x1), (2, .int x2), (3, .int x3), (5, .int x5)] [.int t0] := by
    intro k27 hk27 k38 hk38 x1 x2 x3 x5 t0 M h H locs ls hN hS hl
    unfold fX7_rank_87 at h
    refine lv_iconst (v := (0 : Int32)) hx hb dX7_rank_87 (by decide) ?_
    exact w88 k27 hk27 k38 hk38 x1 x2 x3 x5 (0 : Int32) t0 M h _ _ _ hN hS (lv_sub hl [0, 1, 2, 3, 4] rfl)
  have w118 : ∀ (k27 : Int32 → Int32 → Int32 → MT → Option (Int32 × MT)) (hk27 : (∀ (x1 : Int32) (x2 : Int32) (x3 : Int32) (M : MT), k27 x1 x2 x3 M = some (r, Mz) → mG p l e (headSpec wsX7_rank rmX7_rank).room s m (([.ref (ad 0), .int a1] : List Value).toArray) below meth c (MQ below (mQi D ad cI cZ r Mz) (([.ref (ad 0), .int a1] : List Value).toArray) s 0 0 (mA ad)) D ad cI cZ 6 M 27 [(0, .ref (ad 0)), (1, .int x1), (2, .int x2), (3, .int x3)] [])) (x1 : Int32) (x3 : Int32) (t0 : Int32) (M : MT), fX7_rank_118 k27 x1 x3 t0 M = some (r, Mz) → mG p l e (headSpec wsX7_rank rmX7_rank).room s m (([.ref (ad 0), .int a1] : List Value).toArray) below meth c (MQ below (mQi D ad cI cZ r Mz) (([.ref (ad 0), .int a1] : List Value).toArray) s 0 0 (mA ad)) D ad cI cZ 6 M 118 [(0, .ref (ad 0)), (1, .int x1), (3, .int x3)] [.int t0] := by
    intro k27 hk27 x1 x3 t0 M h H locs ls hN hS hl
    unfold fX7_rank_118 at h
    refine lv_istore_n (lv' := [(2, .int t0), (0, .ref (ad 0)), (1, .int x1), (3, .int x3)]) hx hb dX7_rank_118 rfl hl (by decide) rfl (fun ls hl => ?_)
    obtain ⟨v13, ev13⟩ : ∃ y : Int32, y = (x3 + (1 : Int32)) := ⟨_, rfl⟩
    have h := bnd_ok h ev13
    refine lv_iinc (v := v13) (lv' := [(3, .int v13), (2, .int t0), (0, .ref (ad 0)), (1, .int x1)]) hx hb dX7_rank_119 hl (k := 3) rfl (by rw [ev13]; rfl) (by decide) rfl (fun ls hl => ?_)
    refine lv_goto (tgt := 27) hx hb dX7_rank_122 (by decide) ?_
    exact hk27 x1 t0 v13 M h _ _ _ hN hS (lv_sub hl [2, 3, 1, 0] rfl)
  have w117 : ∀ (k27 : Int32 → Int32 → Int32 → MT → Option (Int32 × MT)) (hk27 : (∀ (x1 : Int32) (x2 : Int32) (x3 : Int32) (M : MT), k27 x1 x2 x3 M = some (r, Mz) → mG p l e (headSpec wsX7_rank rmX7_rank).room s m (([.ref (ad 0), .int a1] : List Value).toArray) below meth c (MQ below (mQi D ad cI cZ r Mz) (([.ref (ad 0), .int a1] : List Value).toArray) s 0 0 (mA ad)) D ad cI cZ 6 M 27 [(0, .ref (ad 0)), (1, .int x1), (2, .int x2), (3, .int x3)] [])) (x1 : Int32) (x2 : Int32) (x3 : Int32) (M : MT), fX7_rank_117 k27 x1 x2 x3 M = some (r, Mz) → mG p l e (headSpec wsX7_rank rmX7_rank).room s m (([.ref (ad 0), .int a1] : List Value).toArray) below meth c (MQ below (mQi D ad cI cZ r Mz) (([.ref (ad 0), .int a1] : List Value).toArray) s 0 0 (mA ad)) D ad cI cZ 6 M 117 [(0, .ref (ad 0)), (1, .int x1), (2, .int x2), (3, .int x3)] [] := by
    intro k27 hk27 x1 x2 x3 M h H locs ls hN hS hl
    unfold fX7_rank_117 at h
    refine lv_iload_n hx hb dX7_rank_117 rfl (lv_at hl 2 rfl) ?_
    exact w118 k27 hk27 x1 x3 x2 M h _ _ _ hN hS (lv_sub hl [0, 1, 3] rfl)
  have w97 : ∀ (k27 : Int32 → Int32 → Int32 → MT → Option (Int32 × MT)) (hk27 : (∀ (x1 : Int32) (x2 : Int32) (x3 : Int32) (M : MT), k27 x1 x2 x3 M = some (r, Mz) → mG p l e (headSpec wsX7_rank rmX7_rank).room s m (([.ref (ad 0), .int a1] : List Value).toArray) below meth c (MQ below (mQi D ad cI cZ r Mz) (([.ref (ad 0), .int a1] : List Value).toArray) s 0 0 (mA ad)) D ad cI cZ 6 M 27 [(0, .ref (ad 0)), (1, .int x1), (2, .int x2), (3, .int x3)] [])) (x1 : Int32) (x2 : Int32) (x3 : Int32) (x4 : Int32) (M : MT), fX7_rank_97 k27 x1 x2 x3 x4 M = some (r, Mz) → mG p l e (headSpec wsX7_rank rmX7_rank).room s m (([.ref (ad 0), .int a1] : List Value).toArray) below meth c (MQ below (mQi D ad cI cZ r Mz) (([.ref (ad 0), .int a1] : List Value).toArray) s 0 0 (mA ad)) D ad cI cZ 6 M 97 [(0, .ref (ad 0)), (1, .int x1), (2, .int x2), (3, .int x3), (4, .int x4)] [] := by
    intro k27 hk27 x1 x2 x3 x4 M h H locs ls hN hS hl
    unfold fX7_rank_97 at h
    refine lv_aload_n hx hb dX7_rank_97 rfl (lv_at hl 0 rfl) ?_
    refine mg_get hx hb hts hin hown hK hN 25 (by decide) l0 rfl (v := .ref (ad 25)) rfl dX7_rank_98 ?_
    refine lv_iload_n hx hb dX7_rank_101 rfl (lv_at hl 3 rfl) ?_
    obtain ⟨g10, h⟩ := gd_ok h
    refine mg_ild hx hb hK hN 25 rfl (if_neg (by decide)) (gin_ok g10) dX7_rank_102 ?_
    refine lv_iconst (v := (5 : Int32)) hx hb dX7_rank_103 (by decide) ?_
    refine lv_icmp_ne (tgt := 117) hx hb dX7_rank_104 (by decide) (fun hc => ?_) (fun hc => ?_)
    · have h := ite_f h hc
      exact w117 k27 hk27 x1 x2 x3 M h _ _ _ hN hS (lv_sub hl [0, 1, 2, 3] rfl)
    · have h := ite_t h hc
      refine lv_iload hx hb dX7_rank_107 (lv_at hl 4 rfl) ?_
      refine lv_iload_n hx hb dX7_rank_109 rfl (lv_at hl 1 rfl) ?_
      refine lv_icmp_ne (tgt := 117) hx hb dX7_rank_110 (by decide) (fun hc => ?_) (fun hc => ?_)
      · have h := ite_f h hc
        exact w117 k27 hk27 x1 x2 x3 M h _ _ _ hN hS (lv_sub hl [0, 1, 2, 3] rfl)
      · have h := ite_t h hc
        refine lv_iload_n hx hb dX7_rank_113 rfl (lv_at hl 3 rfl) ?_
        refine lv_goto (tgt := 118) hx hb dX7_rank_114 (by decide) ?_
        exact w118 k27 hk27 x1 x3 x3 M h _ _ _ hN hS (lv_sub hl [0, 1, 3] rfl)
  have w38 : ∀ (k27 : Int32 → Int32 → Int32 → MT → Option (Int32 × MT)) (hk27 : (∀ (x1 : Int32) (x2 : Int32) (x3 : Int32) (M : MT), k27 x1 x2 x3 M = some (r, Mz) → mG p l e (headSpec wsX7_rank rmX7_rank).room s m (([.ref (ad 0), .int a1] : List Value).toArray) below meth c (MQ below (mQi D ad cI cZ r Mz) (([.ref (ad 0), .int a1] : List Value).toArray) s 0 0 (mA ad)) D ad cI cZ 6 M 27 [(0, .ref (ad 0)), (1, .int x1), (2, .int x2), (3, .int x3)] [])) (x1 : Int32) (x2 : Int32) (x3 : Int32) (x4 : Int32) (x5 : Int32) (M : MT), lf6 (fX7_rank_38 k27) 100 x1 x2 x3 x4 x5 M = some (r, Mz) → mG p l e (headSpec wsX7_rank rmX7_rank).room s m (([.ref (ad 0), .int a1] : List Value).toArray) below meth c (MQ below (mQi D ad cI cZ r Mz) (([.ref (ad 0), .int a1] : List Value).toArray) s 0 0 (mA ad)) D ad cI cZ 6 M 38 [(0, .ref (ad 0)), (1, .int x1), (2, .int x2), (3, .int x3), (4, .int x4), (5, .int x5)] [] := by
    intro k27 hk27
    refine lf6_ok (P := (fun x1 x2 x3 x4 x5 M => mG p l e (headSpec wsX7_rank rmX7_rank).room s m (([.ref (ad 0), .int a1] : List Value).toArray) below meth c (MQ below (mQi D ad cI cZ r Mz) (([.ref (ad 0), .int a1] : List Value).toArray) s 0 0 (mA ad)) D ad cI cZ 6 M 38 [(0, .ref (ad 0)), (1, .int x1), (2, .int x2), (3, .int x3), (4, .int x4), (5, .int x5)] [])) (fun k38 hk38 x1 x2 x3 x4 x5 M h H locs ls hN hS hl => ?_) 100
    unfold fX7_rank_38 at h
    refine lv_iload hx hb dX7_rank_38 (lv_at hl 5 rfl) ?_
    refine lv_iconst (v := (4 : Int32)) hx hb dX7_rank_40 (by decide) ?_
    refine lv_icmp_ge (tgt := 97) hx hb dX7_rank_41 (by decide) (fun hc => ?_) (fun hc => ?_)
    · have h := ite_t h hc
      exact w97 k27 hk27 x1 x2 x3 x4 M h _ _ _ hN hS (lv_sub hl [0, 1, 2, 3, 4] rfl)
    · have h := ite_f h hc
      refine lv_iload hx hb dX7_rank_44 (lv_at hl 4 rfl) ?_
      refine lv_aload_n hx hb dX7_rank_46 rfl (lv_at hl 0 rfl) ?_
      refine mg_get hx hb hts hin hown hK hN 25 (by decide) l0 rfl (v := .ref (ad 25)) rfl dX7_rank_47 ?_
      refine lv_iload hx hb dX7_rank_50 (lv_at hl 5 rfl) ?_
      obtain ⟨g6, h⟩ := gd_ok h
      refine mg_ild hx hb hK hN 25 rfl (if_neg (by decide)) (gin_ok g6) dX7_rank_52 ?_
      refine lv_iconst (v := (5 : Int32)) hx hb dX7_rank_53 (by decide) ?_
      refine lv_icmp_ne (tgt := 87) hx hb dX7_rank_54 (by decide) (fun hc => ?_) (fun hc => ?_)
      · have h := ite_f h hc
        exact w87 k27 hk27 k38 hk38 x1 x2 x3 x5 x4 M h _ _ _ hN hS (lv_sub hl [0, 1, 2, 3, 5] rfl)
      · have h := ite_t h hc
        refine lv_aload_n hx hb dX7_rank_57 rfl (lv_at hl 0 rfl) ?_
        refine mg_get hx hb hts hin hown hK hN 25 (by decide) l0 rfl (v := .ref (ad 25)) rfl dX7_rank_58 ?_
        refine lv_iload_n hx hb dX7_rank_61 rfl (lv_at hl 3 rfl) ?_
        obtain ⟨g7, h⟩ := gd_ok h
        refine mg_ild hx hb hK hN 25 rfl (if_neg (by decide)) (gin_ok g7) dX7_rank_62 ?_
        refine lv_iconst (v := (5 : Int32)) hx hb dX7_rank_63 (by decide) ?_
        refine lv_icmp_ne (tgt := 87) hx hb dX7_rank_64 (by decide) (fun hc => ?_) (fun hc => ?_)
        · have h := ite_f h hc
          exact w87 k27 hk27 k38 hk38 x1 x2 x3 x5 x4 M h _ _ _ hN hS (lv_sub hl [0, 1, 2, 3, 5] rfl)
        · have h := ite_t h hc
          refine lv_iload hx hb dX7_rank_67 (lv_at hl 5 rfl) ?_
          refine lv_iload_n hx hb dX7_rank_69 rfl (lv_at hl 3 rfl) ?_
          refine lv_icmp_eq (tgt := 87) hx hb dX7_rank_70 (by decide) (fun hc => ?_) (fun hc => ?_)
          · have h := ite_t h hc
            exact w87 k27 hk27 k38 hk38 x1 x2 x3 x5 x4 M h _ _ _ hN hS (lv_sub hl [0, 1, 2, 3, 5] rfl)
          · have h := ite_f h hc
            refine lv_aload_n hx hb dX7_rank_73 rfl (lv_at hl 0 rfl) ?_
            refine lv_iload hx hb dX7_rank_74 (lv_at hl 5 rfl) ?_
            refine lv_iload_n hx hb dX7_rank_76 rfl (lv_at hl 3 rfl) ?_
            obtain ⟨v8, c9, h⟩ := cl1_ok h
            refine mg_calli (va_runV (As := [.int x5, .int x3]) (rest := [.int x4]) ⟨hx, hb, hml, hown, hts⟩ (mX7_isAhead l D ad cI cZ M x5 x3 v8 c9) (cwV 2 hts gX7_rank_X7_isAhead rfl rfl rfl (by decide +kernel) ⟨Nat.le_of_ble_eq_true rfl, Nat.le_of_ble_eq_true rfl⟩) (mg_preV hI hK hN) rfl rfl hl.1 rfl (lv_room (Nat.le_of_ble_eq_true rfl)) dX7_rank_77 ⟨Nat.zero_le _, Nat.zero_le _⟩) hS (fun H locs hN hS => ?_)
            refine lv_if_eq (tgt := 87) hx hb dX7_rank_80 (by decide) (fun hc => ?_) (fun hc => ?_)
            · have h := ite_t h hc
              exact w87 k27 hk27 k38 hk38 x1 x2 x3 x5 x4 M h _ _ _ hN hS (lv_sub hl [0, 1, 2, 3, 5] rfl)
            · have h := ite_f h hc
              refine lv_iconst (v := (1 : Int32)) hx hb dX7_rank_83 (by decide) ?_
              refine lv_goto (tgt := 88) hx hb dX7_rank_84 (by decide) ?_
              exact w88 k27 hk27 k38 hk38 x1 x2 x3 x5 (1 : Int32) x4 M h _ _ _ hN hS (lv_sub hl [0, 1, 2, 3, 5] rfl)
  have w125 : ∀ (x2 : Int32) (M : MT), fX7_rank_125  x2 M = some (r, Mz) → mG p l e (headSpec wsX7_rank rmX7_rank).room s m (([.ref (ad 0), .int a1] : List Value).toArray) below meth c (MQ below (mQi D ad cI cZ r Mz) (([.ref (ad 0), .int a1] : List Value).toArray) s 0 0 (mA ad)) D ad cI cZ 6 M 125 [(0, .ref (ad 0)), (2, .int x2)] [] := by
    intro  x2 M h H locs ls hN hS hl
    unfold fX7_rank_125 at h
    refine lv_iload_n hx hb dX7_rank_125 rfl (lv_at hl 1 rfl) ?_
    exact W.iret hx hb hr (mg_endi h hI hK hN hS) hS.2.2 dX7_rank_126
  have w27 : ∀ (x1 : Int32) (x2 : Int32) (x3 : Int32) (M : MT), lf4 fX7_rank_27 100 x1 x2 x3 M = some (r, Mz) → mG p l e (headSpec wsX7_rank rmX7_rank).room s m (([.ref (ad 0), .int a1] : List Value).toArray) below meth c (MQ below (mQi D ad cI cZ r Mz) (([.ref (ad 0), .int a1] : List Value).toArray) s 0 0 (mA ad)) D ad cI cZ 6 M 27 [(0, .ref (ad 0)), (1, .int x1), (2, .int x2), (3, .int x3)] [] := by
    skip
    refine lf4_ok (P := (fun x1 x2 x3 M => mG p l e (headSpec wsX7_rank rmX7_rank).room s m (([.ref (ad 0), .int a1] : List Value).toArray) below meth c (MQ below (mQi D ad cI cZ r Mz) (([.ref (ad 0), .int a1] : List Value).toArray) s 0 0 (mA ad)) D ad cI cZ 6 M 27 [(0, .ref (ad 0)), (1, .int x1), (2, .int x2), (3, .int x3)] [])) (fun k27 hk27 x1 x2 x3 M h H locs ls hN hS hl => ?_) 100
    unfold fX7_rank_27 at h
    refine lv_iload_n hx hb dX7_rank_27 rfl (lv_at hl 3 rfl) ?_
    refine lv_iconst (v := (4 : Int32)) hx hb dX7_rank_28 (by decide) ?_
    refine lv_icmp_ge (tgt := 125) hx hb dX7_rank_29 (by decide) (fun hc => ?_) (fun hc => ?_)
    · have h := ite_t h hc
      exact w125  x2 M h _ _ _ hN hS (lv_sub hl [0, 2] rfl)
    · have h := ite_f h hc
      refine lv_iconst (v := (0 : Int32)) hx hb dX7_rank_32 (by decide) ?_
      refine lv_istore (lv' := [(4, .int (0 : Int32)), (0, .ref (ad 0)), (1, .int x1), (2, .int x2), (3, .int x3)]) hx hb dX7_rank_33 hl (by decide) rfl (fun ls hl => ?_)
      refine lv_iconst (v := (0 : Int32)) hx hb dX7_rank_35 (by decide) ?_
      refine lv_istore (lv' := [(5, .int (0 : Int32)), (4, .int (0 : Int32)), (0, .ref (ad 0)), (1, .int x1), (2, .int x2), (3, .int x3)]) hx hb dX7_rank_36 hl (by decide) rfl (fun ls hl => ?_)
      exact w38 k27 hk27 x1 x2 x3 (0 : Int32) (0 : Int32) M h _ _ _ hN hS (lv_sub hl [2, 3, 4, 5, 1, 0] rfl)
  have w15 : ∀ (x1 : Int32) (t0 : Int32) (M : MT), fX7_rank_15  x1 t0 M = some (r, Mz) → mG p l e (headSpec wsX7_rank rmX7_rank).room s m (([.ref (ad 0), .int a1] : List Value).toArray) below meth c (MQ below (mQi D ad cI cZ r Mz) (([.ref (ad 0), .int a1] : List Value).toArray) s 0 0 (mA ad)) D ad cI cZ 6 M 15 [(0, .ref (ad 0)), (1, .int x1)] [.int t0, .ref (ad 0)] := by
    intro  x1 t0 M h H locs ls hN hS hl
    unfold fX7_rank_15 at h
    obtain ⟨v3, M4, c5, h⟩ := cl2_ok h
    refine mg_calli (va_runV (As := [.int t0]) (rest := []) ⟨hx, hb, hml, hown, hts⟩ (mX7_holds l D ad cI cZ M t0 v3 M4 c5) (cwV 1 hts gX7_rank_X7_holds rfl rfl rfl (by decide +kernel) ⟨Nat.le_of_ble_eq_true rfl, Nat.le_of_ble_eq_true rfl⟩) (mg_preV hI hK hN) rfl rfl hl.1 rfl (lv_room (Nat.le_of_ble_eq_true rfl)) dX7_rank_15 ⟨Nat.zero_le _, Nat.zero_le _⟩) hS (fun H locs hN hS => ?_)
    refine lv_if_ne (tgt := 23) hx hb dX7_rank_18 (by decide) (fun hc => ?_) (fun hc => ?_)
    · have h := ite_f h hc
      refine lv_iconst (v := (-1 : Int32)) hx hb dX7_rank_23 (by decide) ?_
      refine lv_istore_n (lv' := [(2, .int (-1 : Int32)), (0, .ref (ad 0)), (1, .int x1)]) hx hb dX7_rank_24 rfl hl (by decide) rfl (fun ls hl => ?_)
      refine lv_iconst (v := (0 : Int32)) hx hb dX7_rank_25 (by decide) ?_
      refine lv_istore_n (lv' := [(3, .int (0 : Int32)), (2, .int (-1 : Int32)), (0, .ref (ad 0)), (1, .int x1)]) hx hb dX7_rank_26 rfl hl (by decide) rfl (fun ls hl => ?_)
      exact w27  x1 (-1 : Int32) (0 : Int32) M4 h _ _ _ hN hS (lv_sub hl [2, 3, 1, 0] rfl)
    · have h := ite_t h hc
      refine lv_iconst (v := (0 : Int32)) hx hb dX7_rank_21 (by decide) ?_
      exact W.iret hx hb hr (mg_endi h hI hK hN hS) hS.2.2 dX7_rank_22
  unfold fX7_rank at h
  refine lv_aload_n hx hb dX7_rank_0 rfl (lv_at hl 0 rfl) ?_
  refine lv_iload_n hx hb dX7_rank_1 rfl (lv_at hl 1 rfl) ?_
  refine lv_iconst (v := (0 : Int32)) hx hb dX7_rank_2 (by decide) ?_
  refine lv_iconst (v := (3 : Int32)) hx hb dX7_rank_3 (by decide) ?_
  obtain ⟨v1, c2, h⟩ := cl1_ok h
  refine mg_calli (va_runS (As := [.int a1, .int (0 : Int32), .int (3 : Int32)]) (rest := [.ref (ad 0)]) ⟨hx, hb, hml, hown, hts⟩ (mX7_isIn l D ad cI cZ M a1 (0 : Int32) (3 : Int32) v1 c2) (va_cwS 3 hts gX7_rank_X7_isIn rfl rfl rfl (by decide +kernel) ⟨Nat.le_of_ble_eq_true rfl, Nat.le_of_ble_eq_true rfl⟩) (mg_preS hI hK hN) rfl rfl hl.1 rfl (lv_room (Nat.le_of_ble_eq_true rfl)) dX7_rank_4 ⟨Nat.zero_le _, Nat.zero_le _⟩) hS (fun H locs hN hS => ?_)
  refine lv_if_eq (tgt := 14) hx hb dX7_rank_7 (by decide) (fun hc => ?_) (fun hc => ?_)
  · have h := ite_t h hc
    refine lv_iconst (v := (1 : Int32)) hx hb dX7_rank_14 (by decide) ?_
    exact w15  a1 (1 : Int32) M h _ _ _ hN hS (lv_sub hl [0, 1] rfl)
  · have h := ite_f h hc
    refine lv_iconst (v := (0 : Int32)) hx hb dX7_rank_10 (by decide) ?_
    refine lv_goto (tgt := 15) hx hb dX7_rank_11 (by decide) ?_
    exact w15  a1 (0 : Int32) M h _ _ _ hN hS (lv_sub hl [0, 1] rfl)
def fX7_night (M : MT) : Option (Int32 × MT) := bnd (va_up M 0 (fun _ => (0 : Int32))) (fun M1 => some ((M1 1 0), M1))
def rmX7_night : Room := { frames := 1, cells := 0, slots := 0, locals := 12 }
set_option maxHeartbeats 4000000 in
set_option maxRecDepth 100000 in
theorem mX7_night (l : Launch) (D : va_G) (ad : Nat → Nat) (cI cZ : ClassId) (M : MT) (r : Int32) (Mz : MT) (h : fX7_night M = some (r, Mz)) : Met l yX7_night wsX7_night rmX7_night (va_Pc [.ref (ad 0)] (mP D ad cI cZ M)) (mQi D ad cI cZ r Mz) 0 0 (mA ad) := by
  refine Met.ofW (cc := cX7_night) (maxL := 1) (ret := some .int) (by decide) rfl ?_
  intro p e s m args below meth c s₁ B hml hv
  obtain ⟨rfl, hI, hN, hK⟩ := hv
  have hx := B.exec
  have hb := B.bytes
  have hr := B.returns
  have hts := atoms_spec (ws := wsX7_night) B.pre
  have hown : s.vm.findClass RX7 = some m.cls := findClass_of_methodNamed B.named
  have hlocks := B.notSynchronized
  have hin : ∀ w ∈ wsX70, w ∈ wsX7_night := fun w h => List.mem_cons_of_mem _ (List.mem_append_right _ h)
  have l0 := hts (.fieldLink RX7 83 "PanyardModel" "thrown" "I") (List.mem_of_getElem? (i := 1) rfl)
  have l1 := hts (.fieldLink RX7 143 "PanyardModel" "night" "I") (List.mem_of_getElem? (i := 2) rfl)
  have hS : va_S (mA ad) s.heap s.heap [] := va_S.rf
  have hl := lv_entry ([.ref (ad 0)]) (n := 1) (Nat.le_of_ble_eq_true rfl)
  rw [lg_entry_eq]
  generalize (lg_sl ([.ref (ad 0)]) ++ List.replicate (1 - (lg_sl ([.ref (ad 0)])).length) Slot.unset).toArray = ls at hl ⊢
  have hl : lv_has ls 1 [(0, .ref (ad 0))] := hl
  unfold fX7_night at h
  refine lv_aload_n hx hb dX7_night_0 rfl (lv_at hl 0 rfl) ?_
  refine lv_iconst (v := (0 : Int32)) hx hb dX7_night_1 (by decide) ?_
  obtain ⟨M1, eM1⟩ : ∃ y : MT, y = (va_up M 0 (fun _ => (0 : Int32))) := ⟨_, rfl⟩
  have h := bnd_ok h eM1
  refine mg_put hx hb hts hin hown hI hK hN hS 0 (by decide) rfl l0 rfl rfl (by decide +kernel) rfl dX7_night_2 eM1 (fun H locs hN hS => ?_)
  refine lv_aload_n hx hb dX7_night_5 rfl (lv_at hl 0 rfl) ?_
  refine mg_get hx hb hts hin hown hK hN 1 (by decide) l1 rfl (v := .int (M1 1 0)) rfl dX7_night_6 ?_
  exact W.iret hx hb hr (mg_endi h hI hK hN hS) hS.2.2 dX7_night_9
