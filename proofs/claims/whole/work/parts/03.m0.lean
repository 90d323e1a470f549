def fX7_thrown (M : MT) : Option (Int32) := some (M 0 0)
def rmX7_thrown : Room := { frames := 1, cells := 0, slots := 0, locals := 12 }
set_option maxHeartbeats 4000000 in
set_option maxRecDepth 100000 in
theorem mX7_thrown (l : Launch) (D : va_G) (ad : Nat → Nat) (cI cZ : ClassId) (M : MT) (r : Int32) (h : fX7_thrown M = some r) : Met l yX7_thrown wsX7_thrown rmX7_thrown (va_Pc [.ref (ad 0)] (mP D ad cI cZ M)) (mQi D ad cI cZ r M) 0 0 (mA ad) := by
  refine Met.ofW (cc := cX7_thrown) (maxL := 1) (ret := some .int) (by decide) rfl ?_
  intro p e s m args below meth c s₁ B hml hv
  obtain ⟨rfl, hI, hN, hK⟩ := hv
  have hx := B.exec
  have hb := B.bytes
  have hr := B.returns
  have hts := atoms_spec (ws := wsX7_thrown) B.pre
  have hown : s.vm.findClass RX7 = some m.cls := findClass_of_methodNamed B.named
  have hlocks := B.notSynchronized
  have hin : ∀ w ∈ wsX70, w ∈ wsX7_thrown := fun w h => List.mem_cons_of_mem _ (List.mem_append_right _ h)
  have l0 := hts (.fieldLink RX7 83 "PanyardModel" "thrown" "I") (List.mem_of_getElem? (i := 1) rfl)
  have hS : va_S (mA ad) s.heap s.heap [] := va_S.rf
  have hl := lv_entry ([.ref (ad 0)]) (n := 1) (Nat.le_of_ble_eq_true rfl)
  rw [lg_entry_eq]
  generalize (lg_sl ([.ref (ad 0)]) ++ List.replicate (1 - (lg_sl ([.ref (ad 0)])).length) Slot.unset).toArray = ls at hl ⊢
  have hl : lv_has ls 1 [(0, .ref (ad 0))] := hl
  unfold fX7_thrown at h
  refine lv_aload_n hx hb dX7_thrown_0 rfl (lv_at hl 0 rfl) ?_
  refine mg_get hx hb hts hin hown hK hN 0 (by decide) l0 rfl (v := .int (M 0 0)) rfl dX7_thrown_1 ?_
  exact W.iret hx hb hr (mg_endr h hI hK hN hS) hS.2.2 dX7_thrown_4
def fX7_holds_14 (t0 : Int32) (M : MT) : Option (Int32 × MT) := gd (gbo t0) (some (t0, M))
def fX7_holds (a1 : Int32) (M : MT) : Option (Int32 × MT) := bnd (va_up M 0 (fun _ => a1)) (fun M1 => (if a1 = 0 then fX7_holds_14 (1 : Int32) M1 else fX7_holds_14 (0 : Int32) M1))
def rmX7_holds : Room := { frames := 1, cells := 0, slots := 0, locals := 13 }
set_option maxHeartbeats 4000000 in
set_option maxRecDepth 100000 in
theorem mX7_holds (l : Launch) (D : va_G) (ad : Nat → Nat) (cI cZ : ClassId) (M : MT) (a1 : Int32) (r : Int32) (Mz : MT) (h : fX7_holds a1 M = some (r, Mz)) : Met l yX7_holds wsX7_holds rmX7_holds (va_Pc [.ref (ad 0), .int a1] (mP D ad cI cZ M)) (mQi D ad cI cZ r Mz) 0 0 (mA ad) := by
  refine Met.ofW (cc := cX7_holds) (maxL := 2) (ret := some .boolean) (by decide) rfl ?_
  intro p e s m args below meth c s₁ B hml hv
  obtain ⟨rfl, hI, hN, hK⟩ := hv
  have hx := B.exec
  have hb := B.bytes
  have hr := B.returns
  have hts := atoms_spec (ws := wsX7_holds) B.pre
  have hown : s.vm.findClass RX7 = some m.cls := findClass_of_methodNamed B.named
  have hlocks := B.notSynchronized
  have hin : ∀ w ∈ wsX70, w ∈ wsX7_holds := fun w h => List.mem_cons_of_mem _ (List.mem_append_right _ h)
  have l0 := hts (.fieldLink RX7 83 "PanyardModel" "thrown" "I") (List.mem_of_getElem? (i := 1) rfl)
  have hS : va_S (mA ad) s.heap s.heap [] := va_S.rf
  have hl := lv_entry ([.ref (ad 0), .int a1]) (n := 2) (Nat.le_of_ble_eq_true rfl)
  rw [lg_entry_eq]
  generalize (lg_sl ([.ref (ad 0), .int a1]) ++ List.replicate (2 - (lg_sl ([.ref (ad 0), .int a1])).length) Slot.unset).toArray = ls at hl ⊢
  have hl : lv_has ls 2 [(0, .ref (ad 0)), (1, .int a1)] := hl
  have w14 : ∀ (t0 : Int32) (M : MT), fX7_holds_14  t0 M = some (r, Mz) → mG p l e (headSpec wsX7_holds rmX7_holds).room s m (([.ref (ad 0), .int a1] : List Value).toArray) below meth c (MQ below (mQi D ad cI cZ r Mz) (([.ref (ad 0), .int a1] : List Value).toArray) s 0 0 (mA ad)) D ad cI cZ 2 M 14 [(0, .ref (ad 0))] [.int t0] := by
    intro  t0 M h H locs ls hN hS hl
    unfold fX7_holds_14 at h
    obtain ⟨g2, h⟩ := gd_ok h
    exact W.zret hx hb hr (gbo_ok g2) (mg_endi h hI hK hN hS) hS.2.2 dX7_holds_14
  unfold fX7_holds at h
  refine lv_aload_n hx hb dX7_holds_0 rfl (lv_at hl 0 rfl) ?_
  refine lv_iload_n hx hb dX7_holds_1 rfl (lv_at hl 1 rfl) ?_
  obtain ⟨M1, eM1⟩ : ∃ y : MT, y = (va_up M 0 (fun _ => a1)) := ⟨_, rfl⟩
  have h := bnd_ok h eM1
  refine mg_put hx hb hts hin hown hI hK hN hS 0 (by decide) rfl l0 rfl rfl (by decide +kernel) rfl dX7_holds_2 eM1 (fun H locs hN hS => ?_)
  refine lv_iload_n hx hb dX7_holds_5 rfl (lv_at hl 1 rfl) ?_
  refine lv_if_ne (tgt := 13) hx hb dX7_holds_6 (by decide) (fun hc => ?_) (fun hc => ?_)
  · have h := ite_f h hc
    refine lv_iconst (v := (0 : Int32)) hx hb dX7_holds_13 (by decide) ?_
    exact w14  (0 : Int32) M1 h _ _ _ hN hS (lv_sub hl [0] rfl)
  · have h := ite_t h hc
    refine lv_iconst (v := (1 : Int32)) hx hb dX7_holds_9 (by decide) ?_
    refine lv_goto (tgt := 14) hx hb dX7_holds_10 (by decide) ?_
    exact w14  (1 : Int32) M1 h _ _ _ hN hS (lv_sub hl [0] rfl)
def fX7_isIn_15 (t0 : Int32) : Option (Int32) := gd (gbo t0) (some t0)
def fX7_isIn_14 : Option (Int32) := fX7_isIn_15 (0 : Int32)
def fX7_isIn (a1 : Int32) (a2 : Int32) (a3 : Int32) : Option (Int32) := (if a1 < a2 then fX7_isIn_14 else (if a3 < a1 then fX7_isIn_14 else fX7_isIn_15 (1 : Int32)))
def rmX7_isIn : Room := { frames := 1, cells := 0, slots := 0, locals := 14 }
set_option maxHeartbeats 4000000 in
set_option maxRecDepth 100000 in
theorem mX7_isIn (l : Launch) (D : va_G) (ad : Nat → Nat) (cI cZ : ClassId) (M : MT) (a1 : Int32) (a2 : Int32) (a3 : Int32) (r : Int32) (h : fX7_isIn a1 a2 a3 = some r) : Met l yX7_isIn wsX7_isIn rmX7_isIn (va_Pc [.int a1, .int a2, .int a3] (mP D ad cI cZ M)) (mQi D ad cI cZ r M) 0 0 (mA ad) := by
  refine Met.ofW (cc := cX7_isIn) (maxL := 3) (ret := some .boolean) (by decide) rfl ?_
  intro p e s m args below meth c s₁ B hml hv
  obtain ⟨rfl, hI, hN, hK⟩ := hv
  have hx := B.exec
  have hb := B.bytes
  have hr := B.returns
  have hts := atoms_spec (ws := wsX7_isIn) B.pre
  have hown : s.vm.findClass RX7 = some m.cls := findClass_of_methodNamed B.named
  have hlocks := B.notSynchronized
  have hS : va_S (mA ad) s.heap s.heap [] := va_S.rf
  have hl := lv_entry ([.int a1, .int a2, .int a3]) (n := 3) (Nat.le_of_ble_eq_true rfl)
  rw [lg_entry_eq]
  generalize (lg_sl ([.int a1, .int a2, .int a3]) ++ List.replicate (3 - (lg_sl ([.int a1, .int a2, .int a3])).length) Slot.unset).toArray = ls at hl ⊢
  have hl : lv_has ls 3 [(0, .int a1), (1, .int a2), (2, .int a3)] := hl
  have w15 : ∀ (t0 : Int32), fX7_isIn_15  t0 = some r → mG p l e (headSpec wsX7_isIn rmX7_isIn).room s m (([.int a1, .int a2, .int a3] : List Value).toArray) below meth c (MQ below (mQi D ad cI cZ r M) (([.int a1, .int a2, .int a3] : List Value).toArray) s 0 0 (mA ad)) D ad cI cZ 3 M 15 [] [.int t0] := by
    intro  t0 h H locs ls hN hS hl
    unfold fX7_isIn_15 at h
    obtain ⟨g1, h⟩ := gd_ok h
    exact W.zret hx hb hr (gbo_ok g1) (mg_endr h hI hK hN hS) hS.2.2 dX7_isIn_15
  have w14 : fX7_isIn_14   = some r → mG p l e (headSpec wsX7_isIn rmX7_isIn).room s m (([.int a1, .int a2, .int a3] : List Value).toArray) below meth c (MQ below (mQi D ad cI cZ r M) (([.int a1, .int a2, .int a3] : List Value).toArray) s 0 0 (mA ad)) D ad cI cZ 3 M 14 [] [] := by
    intro   h H locs ls hN hS hl
    unfold fX7_isIn_14 at h
    refine lv_iconst (v := (0 : Int32)) hx hb dX7_isIn_14 (by decide) ?_
    exact w15  (0 : Int32) h _ _ _ hN hS (lv_sub hl [] rfl)
  unfold fX7_isIn at h
  refine lv_iload_n hx hb dX7_isIn_0 rfl (lv_at hl 0 rfl) ?_
  refine lv_iload_n hx hb dX7_isIn_1 rfl (lv_at hl 1 rfl) ?_
  refine lv_icmp_lt (tgt := 14) hx hb dX7_isIn_2 (by decide) (fun hc => ?_) (fun hc => ?_)
  · have h := ite_t h hc
    exact w14   h _ _ _ hN hS (lv_sub hl [] rfl)
  · have h := ite_f h hc
    refine lv_iload_n hx hb dX7_isIn_5 rfl (lv_at hl 0 rfl) ?_
    refine lv_iload_n hx hb dX7_isIn_6 rfl (lv_at hl 2 rfl) ?_
    refine lv_icmp_gt (tgt := 14) hx hb dX7_isIn_7 (by decide) (fun hc => ?_) (fun hc => ?_)
    · have h := ite_t h hc
      exact w14   h _ _ _ hN hS (lv_sub hl [] rfl)
    · have h := ite_f h hc
      refine lv_iconst (v := (1 : Int32)) hx hb dX7_isIn_10 (by decide) ?_
      refine lv_goto (tgt := 15) hx hb dX7_isIn_11 (by decide) ?_
      exact w15  (1 : Int32) h _ _ _ hN hS (lv_sub hl [] rfl)
def fX7_isPan (a1 : Int32) (M : MT) : Option (Int32) := cl1 (fX7_isIn a1 (0 : Int32) ((M 3 0) - (1 : Int32))) (fun v1 => gd (gbo v1) (some v1))
def rmX7_isPan : Room := { frames := 2, cells := 0, slots := 0, locals := 36 }
set_option maxHeartbeats 4000000 in
set_option maxRecDepth 100000 in
theorem mX7_isPan (l : Launch) (D : va_G) (ad : Nat → Nat) (cI cZ : ClassId) (M : MT) (a1 : Int32) (r : Int32) (h : fX7_isPan a1 M = some r) : Met l yX7_isPan wsX7_isPan rmX7_isPan (va_Pc [.ref (ad 0), .int a1] (mP D ad cI cZ M)) (mQi D ad cI cZ r M) 0 0 (mA ad) := by
  refine Met.ofW (cc := cX7_isPan) (maxL := 2) (ret := some .boolean) (by decide) rfl ?_
  intro p e s m args below meth c s₁ B hml hv
  obtain ⟨rfl, hI, hN, hK⟩ := hv
  have hx := B.exec
  have hb := B.bytes
  have hr := B.returns
  have hts := atoms_spec (ws := wsX7_isPan) B.pre
  have hown : s.vm.findClass RX7 = some m.cls := findClass_of_methodNamed B.named
  have hlocks := B.notSynchronized
  have hin : ∀ w ∈ wsX70, w ∈ wsX7_isPan := fun w h => List.mem_cons_of_mem _ (List.mem_append_right _ h)
  have l0 := hts (.fieldLink RX7 87 "PanyardModel" "pans" "I") (List.mem_of_getElem? (i := 1) rfl)
  have hS : va_S (mA ad) s.heap s.heap [] := va_S.rf
  have hl := lv_entry ([.ref (ad 0), .int a1]) (n := 2) (Nat.le_of_ble_eq_true rfl)
  rw [lg_entry_eq]
  generalize (lg_sl ([.ref (ad 0), .int a1]) ++ List.replicate (2 - (lg_sl ([.ref (ad 0), .int a1])).length) Slot.unset).toArray = ls at hl ⊢
  have hl : lv_has ls 2 [(0, .ref (ad 0)), (1, .int a1)] := hl
  unfold fX7_isPan at h
  refine lv_iload_n hx hb dX7_isPan_0 rfl (lv_at hl 1 rfl) ?_
  refine lv_iconst (v := (0 : Int32)) hx hb dX7_isPan_1 (by decide) ?_
  refine lv_aload_n hx hb dX7_isPan_2 rfl (lv_at hl 0 rfl) ?_
  refine mg_get hx hb hts hin hown hK hN 3 (by decide) l0 rfl (v := .int (M 3 0)) rfl dX7_isPan_3 ?_
  refine lv_iconst (v := (1 : Int32)) hx hb dX7_isPan_6 (by decide) ?_
  refine lv_isub hx hb dX7_isPan_7 ?_
  obtain ⟨v1, c2, h⟩ := cl1_ok h
  refine mg_calli (va_runS (As := [.int a1, .int (0 : Int32), .int ((M 3 0) - (1 : Int32))]) (rest := []) ⟨hx, hb, hml, hown, hts⟩ (mX7_isIn l D ad cI cZ M a1 (0 : Int32) ((M 3 0) - (1 : Int32)) v1 c2) (va_cwS 3 hts gX7_isPan_X7_isIn rfl rfl rfl (by decide +kernel) ⟨Nat.le_of_ble_eq_true rfl, Nat.le_of_ble_eq_true rfl⟩) (mg_preS hI hK hN) rfl rfl hl.1 rfl (lv_room (Nat.le_of_ble_eq_true rfl)) dX7_isPan_8 ⟨Nat.zero_le _, Nat.zero_le _⟩) hS (fun H locs hN hS => ?_)
  obtain ⟨g3, h⟩ := gd_ok h
  exact W.zret hx hb hr (gbo_ok g3) (mg_endr h hI hK hN hS) hS.2.2 dX7_isPan_11
def fX7_isField_22 (M : MT) (t0 : Int32) : Option (Int32) := gd (gbo t0) (some t0)
def fX7_isField_21 (M : MT) : Option (Int32) := fX7_isField_22 M (0 : Int32)
def fX7_isField (a1 : Int32) (a2 : Int32) (M : MT) : Option (Int32) := cl1 (fX7_isPan a1 M) (fun v1 => (if v1 = 0 then fX7_isField_21 M else cl1 (fX7_isIn a2 (0 : Int32) (3 : Int32)) (fun v3 => (if v3 = 0 then fX7_isField_21 M else fX7_isField_22 M (1 : Int32)))))
def rmX7_isField : Room := { frames := 3, cells := 0, slots := 0, locals := 57 }
set_option maxHeartbeats 4000000 in
set_option maxRecDepth 100000 in
theorem mX7_isField (l : Launch) (D : va_G) (ad : Nat → Nat) (cI cZ : ClassId) (M : MT) (a1 : Int32) (a2 : Int32) (r : Int32) (h : fX7_isField a1 a2 M = some r) : Met l yX7_isField wsX7_isField rmX7_isField (va_Pc [.ref (ad 0), .int a1, .int a2] (mP D ad cI cZ M)) (mQi D ad cI cZ r M) 0 0 (mA ad) := by
  refine Met.ofW (cc := cX7_isField) (maxL := 3) (ret := some .boolean) (by decide) rfl ?_
  intro p e s m args below meth c s₁ B hml hv
  obtain ⟨rfl, hI, hN, hK⟩ := hv
  have hx := B.exec
  have hb := B.bytes
  have hr := B.returns
  have hts := atoms_spec (ws := wsX7_isField) B.pre
  have hown : s.vm.findClass RX7 = some m.cls := findClass_of_methodNamed B.named
  have hlocks := B.notSynchronized
  have hin : ∀ w ∈ wsX70, w ∈ wsX7_isField := fun w h => List.mem_cons_of_mem _ (List.mem_append_right _ h)
  have hS : va_S (mA ad) s.heap s.heap [] := va_S.rf
  have hl := lv_entry ([.ref (ad 0), .int a1, .int a2]) (n := 3) (Nat.le_of_ble_eq_true rfl)
  rw [lg_entry_eq]
  generalize (lg_sl ([.ref (ad 0), .int a1, .int a2]) ++ List.replicate (3 - (lg_sl ([.ref (ad 0), .int a1, .int a2])).length) Slot.unset).toArray = ls at hl ⊢
  have hl : lv_has ls 3 [(0, .ref (ad 0)), (1, .int a1), (2, .int a2)] := hl
  have w22 : ∀ (t0 : Int32), fX7_isField_22 M t0 = some r → mG p l e (headSpec wsX7_isField rmX7_isField).room s m (([.ref (ad 0), .int a1, .int a2] : List Value).toArray) below meth c (MQ below (mQi D ad cI cZ r M) (([.ref (ad 0), .int a1, .int a2] : List Value).toArray) s 0 0 (mA ad)) D ad cI cZ 3 M 22 [(0, .ref (ad 0))] [.int t0] := by
    intro  t0 h H locs ls hN hS hl
    unfold fX7_isField_22 at h
    obtain ⟨g5, h⟩ := gd_ok h
    exact W.zret hx hb hr (gbo_ok g5) (mg_endr h hI hK hN hS) hS.2.2 dX7_isField_22
  have w21 : fX7_isField_21 M  = some r → mG p l e (headSpec wsX7_isField rmX7_isField).room s m (([.ref (ad 0), .int a1, .int a2] : List Value).toArray) below meth c (MQ below (mQi D ad cI cZ r M) (([.ref (ad 0), .int a1, .int a2] : List Value).toArray) s 0 0 (mA ad)) D ad cI cZ 3 M 21 [(0, .ref (ad 0))] [] := by
    intro   h H locs ls hN hS hl
    unfold fX7_isField_21 at h
    refine lv_iconst (v := (0 : Int32)) hx hb dX7_isField_21 (by decide) ?_
    exact w22  (0 : Int32) h _ _ _ hN hS (lv_sub hl [0] rfl)
  unfold fX7_isField at h
  refine lv_aload_n hx hb dX7_isField_0 rfl (lv_at hl 0 rfl) ?_
  refine lv_iload_n hx hb dX7_isField_1 rfl (lv_at hl 1 rfl) ?_
  obtain ⟨v1, c2, h⟩ := cl1_ok h
  refine mg_calli (va_runV (As := [.int a1]) (rest := []) ⟨hx, hb, hml, hown, hts⟩ (mX7_isPan l D ad cI cZ M a1 v1 c2) (cwV 1 hts gX7_isField_X7_isPan rfl rfl rfl (by decide +kernel) ⟨Nat.le_of_ble_eq_true rfl, Nat.le_of_ble_eq_true rfl⟩) (mg_preV hI hK hN) rfl rfl hl.1 rfl (lv_room (Nat.le_of_ble_eq_true rfl)) dX7_isField_2 ⟨Nat.zero_le _, Nat.zero_le _⟩) hS (fun H locs hN hS => ?_)
  refine lv_if_eq (tgt := 21) hx hb dX7_isField_5 (by decide) (fun hc => ?_) (fun hc => ?_)
  · have h := ite_t h hc
    exact w21   h _ _ _ hN hS (lv_sub hl [0] rfl)
  · have h := ite_f h hc
    refine lv_iload_n hx hb dX7_isField_8 rfl (lv_at hl 2 rfl) ?_
    refine lv_iconst (v := (0 : Int32)) hx hb dX7_isField_9 (by decide) ?_
    refine lv_iconst (v := (3 : Int32)) hx hb dX7_isField_10 (by decide) ?_
    obtain ⟨v3, c4, h⟩ := cl1_ok h
    refine mg_calli (va_runS (As := [.int a2, .int (0 : Int32), .int (3 : Int32)]) (rest := []) ⟨hx, hb, hml, hown, hts⟩ (mX7_isIn l D ad cI cZ M a2 (0 : Int32) (3 : Int32) v3 c4) (va_cwS 3 hts gX7_isField_X7_isIn rfl rfl rfl (by decide +kernel) ⟨Nat.le_of_ble_eq_true rfl, Nat.le_of_ble_eq_true rfl⟩) (mg_preS hI hK hN) rfl rfl hl.1 rfl (lv_room (Nat.le_of_ble_eq_true rfl)) dX7_isField_11 ⟨Nat.zero_le _, Nat.zero_le _⟩) hS (fun H locs hN hS => ?_)
    refine lv_if_eq (tgt := 21) hx hb dX7_isField_14 (by decide) (fun hc => ?_) (fun hc => ?_)
    · have h := ite_t h hc
      exact w21   h _ _ _ hN hS (lv_sub hl [0] rfl)
    · have h := ite_f h hc
      refine lv_iconst (v := (1 : Int32)) hx hb dX7_isField_17 (by decide) ?_
      refine lv_goto (tgt := 22) hx hb dX7_isField_18 (by decide) ?_
      exact w22  (1 : Int32) h _ _ _ hN hS (lv_sub hl [0] rfl)
def fX7_isPlayer (a1 : Int32) (M : MT) : Option (Int32) := cl1 (fX7_isIn a1 (0 : Int32) ((M 10 0) - (1 : Int32))) (fun v1 => gd (gbo v1) (some v1))
def rmX7_isPlayer : Room := { frames := 2, cells := 0, slots := 0, locals := 36 }
set_option maxHeartbeats 4000000 in
set_option maxRecDepth 100000 in
theorem mX7_isPlayer (l : Launch) (D : va_G) (ad : Nat → Nat) (cI cZ : ClassId) (M : MT) (a1 : Int32) (r : Int32) (h : fX7_isPlayer a1 M = some r) : Met l yX7_isPlayer wsX7_isPlayer rmX7_isPlayer (va_Pc [.ref (ad 0), .int a1] (mP D ad cI cZ M)) (mQi D ad cI cZ r M) 0 0 (mA ad) := by
  refine Met.ofW (cc := cX7_isPlayer) (maxL := 2) (ret := some .boolean) (by decide) rfl ?_
  intro p e s m args below meth c s₁ B hml hv
  obtain ⟨rfl, hI, hN, hK⟩ := hv
  have hx := B.exec
  have hb := B.bytes
  have hr := B.returns
  have hts := atoms_spec (ws := wsX7_isPlayer) B.pre
  have hown : s.vm.findClass RX7 = some m.cls := findClass_of_methodNamed B.named
  have hlocks := B.notSynchronized
  have hin : ∀ w ∈ wsX70, w ∈ wsX7_isPlayer := fun w h => List.mem_cons_of_mem _ (List.mem_append_right _ h)
  have l0 := hts (.fieldLink RX7 98 "PanyardModel" "players" "I") (List.mem_of_getElem? (i := 1) rfl)
  have hS : va_S (mA ad) s.heap s.heap [] := va_S.rf
  have hl := lv_entry ([.ref (ad 0), .int a1]) (n := 2) (Nat.le_of_ble_eq_true rfl)
  rw [lg_entry_eq]
  generalize (lg_sl ([.ref (ad 0), .int a1]) ++ List.replicate (2 - (lg_sl ([.ref (ad 0), .int a1])).length) Slot.unset).toArray = ls at hl ⊢
  have hl : lv_has ls 2 [(0, .ref (ad 0)), (1, .int a1)] := hl
  unfold fX7_isPlayer at h
  refine lv_iload_n hx hb dX7_isPlayer_0 rfl (lv_at hl 1 rfl) ?_
  refine lv_iconst (v := (0 : Int32)) hx hb dX7_isPlayer_1 (by decide) ?_
  refine lv_aload_n hx hb dX7_isPlayer_2 rfl (lv_at hl 0 rfl) ?_
  refine mg_get hx hb hts hin hown hK hN 10 (by decide) l0 rfl (v := .int (M 10 0)) rfl dX7_isPlayer_3 ?_
  refine lv_iconst (v := (1 : Int32)) hx hb dX7_isPlayer_6 (by decide) ?_
  refine lv_isub hx hb dX7_isPlayer_7 ?_
  obtain ⟨v1, c2, h⟩ := cl1_ok h
  refine mg_calli (va_runS (As := [.int a1, .int (0 : Int32), .int ((M 10 0) - (1 : Int32))]) (rest := []) ⟨hx, hb, hml, hown, hts⟩ (mX7_isIn l D ad cI cZ M a1 (0 : Int32) ((M 10 0) - (1 : Int32)) v1 c2) (va_cwS 3 hts gX7_isPlayer_X7_isIn rfl rfl rfl (by decide +kernel) ⟨Nat.le_of_ble_eq_true rfl, Nat.le_of_ble_eq_true rfl⟩) (mg_preS hI hK hN) rfl rfl hl.1 rfl (lv_room (Nat.le_of_ble_eq_true rfl)) dX7_isPlayer_8 ⟨Nat.zero_le _, Nat.zero_le _⟩) hS (fun H locs hN hS => ?_)
  obtain ⟨g3, h⟩ := gd_ok h
  exact W.zret hx hb hr (gbo_ok g3) (mg_endr h hI hK hN hS) hS.2.2 dX7_isPlayer_11
def fX7_isBand (a1 : Int32) : Option (Int32) := cl1 (fX7_isIn a1 (0 : Int32) (3 : Int32)) (fun v1 => gd (gbo v1) (some v1))
def rmX7_isBand : Room := { frames := 2, cells := 0, slots := 0, locals := 36 }
set_option maxHeartbeats 4000000 in
set_option maxRecDepth 100000 in
theorem mX7_isBand (l : Launch) (D : va_G) (ad : Nat → Nat) (cI cZ : ClassId) (M : MT) (a1 : Int32) (r : Int32) (h : fX7_isBand a1 = some r) : Met l yX7_isBand wsX7_isBand rmX7_isBand (va_Pc [.int a1] (mP D ad cI cZ M)) (mQi D ad cI cZ r M) 0 0 (mA ad) := by
  refine Met.ofW (cc := cX7_isBand) (maxL := 1) (ret := some .boolean) (by decide) rfl ?_
  intro p e s m args below meth c s₁ B hml hv
  obtain ⟨rfl, hI, hN, hK⟩ := hv
  have hx := B.exec
  have hb := B.bytes
  have hr := B.returns
  have hts := atoms_spec (ws := wsX7_isBand) B.pre
  have hown : s.vm.findClass RX7 = some m.cls := findClass_of_methodNamed B.named
  have hlocks := B.notSynchronized
  have hS : va_S (mA ad) s.heap s.heap [] := va_S.rf
  have hl := lv_entry ([.int a1]) (n := 1) (Nat.le_of_ble_eq_true rfl)
  rw [lg_entry_eq]
  generalize (lg_sl ([.int a1]) ++ List.replicate (1 - (lg_sl ([.int a1])).length) Slot.unset).toArray = ls at hl ⊢
  have hl : lv_has ls 1 [(0, .int a1)] := hl
  unfold fX7_isBand at h
  refine lv_iload_n hx hb dX7_isBand_0 rfl (lv_at hl 0 rfl) ?_
  refine lv_iconst (v := (0 : Int32)) hx hb dX7_isBand_1 (by decide) ?_
  refine lv_iconst (v := (3 : Int32)) hx hb dX7_isBand_2 (by decide) ?_
  obtain ⟨v1, c2, h⟩ := cl1_ok h
  refine mg_calli (va_runS (As := [.int a1, .int (0 : Int32), .int (3 : Int32)]) (rest := []) ⟨hx, hb, hml, hown, hts⟩ (mX7_isIn l D ad cI cZ M a1 (0 : Int32) (3 : Int32) v1 c2) (va_cwS 3 hts gX7_isBand_X7_isIn rfl rfl rfl (by decide +kernel) ⟨Nat.le_of_ble_eq_true rfl, Nat.le_of_ble_eq_true rfl⟩) (mg_preS hI hK hN) rfl rfl hl.1 rfl (lv_room (Nat.le_of_ble_eq_true rfl)) dX7_isBand_3 ⟨Nat.zero_le _, Nat.zero_le _⟩) hS (fun H locs hN hS => ?_)
  obtain ⟨g3, h⟩ := gd_ok h
  exact W.zret hx hb hr (gbo_ok g3) (mg_endr h hI hK hN hS) hS.2.2 dX7_isBand_6
def fX7_isSeat_28 (M : MT) (t0 : Int32) : Option (Int32) := gd (gbo t0) (some t0)
def fX7_isSeat_27 (M : MT) : Option (Int32) := fX7_isSeat_28 M (0 : Int32)
def fX7_isSeat (a1 : Int32) (a2 : Int32) (M : MT) : Option (Int32) := cl1 (fX7_isBand a1) (fun v1 => (if v1 = 0 then fX7_isSeat_27 M else gd (gin a1 4) (cl1 (fX7_isIn a2 (0 : Int32) ((M 15 (Int32.toNatClampNeg a1)) - (1 : Int32))) (fun v4 => (if v4 = 0 then fX7_isSeat_27 M else fX7_isSeat_28 M (1 : Int32))))))
def rmX7_isSeat : Room := { frames := 3, cells := 0, slots := 0, locals := 56 }
set_option maxHeartbeats 4000000 in
set_option maxRecDepth 100000 in
theorem mX7_isSeat (l : Launch) (D : va_G) (ad : Nat → Nat) (cI cZ : ClassId) (M : MT) (a1 : Int32) (a2 : Int32) (r : Int32) (h : fX7_isSeat a1 a2 M = some r) : Met l yX7_isSeat wsX7_isSeat rmX7_isSeat (va_Pc [.ref (ad 0), .int a1, .int a2] (mP D ad cI cZ M)) (mQi D ad cI cZ r M) 0 0 (mA ad) := by
  refine Met.ofW (cc := cX7_isSeat) (maxL := 3) (ret := some .boolean) (by decide) rfl ?_
  intro p e s m args below meth c s₁ B hml hv
  obtain ⟨rfl, hI, hN, hK⟩ := hv
  have hx := B.exec
  have hb := B.bytes
  have hr := B.returns
  have hts := atoms_spec (ws := wsX7_isSeat) B.pre
  have hown : s.vm.findClass RX7 = some m.cls := findClass_of_methodNamed B.named
  have hlocks := B.notSynchronized
  have hin : ∀ w ∈ wsX70, w ∈ wsX7_isSeat := fun w h => List.mem_cons_of_mem _ (List.mem_append_right _ h)
  have l0 := hts (.fieldLink RX7 41 "PanyardModel" "seats" "[I") (List.mem_of_getElem? (i := 1) rfl)
  have hS : va_S (mA ad) s.heap s.heap [] := va_S.rf
  have hl := lv_entry ([.ref (ad 0), .int a1, .int a2]) (n := 3) (Nat.le_of_ble_eq_true rfl)
  rw [lg_entry_eq]
  generalize (lg_sl ([.ref (ad 0), .int a1, .int a2]) ++ List.replicate (3 - (lg_sl ([.ref (ad 0), .int a1, .int a2])).length) Slot.unset).toArray = ls at hl ⊢
  have hl : lv_has ls 3 [(0, .ref (ad 0)), (1, .int a1), (2, .int a2)] := hl
  have w28 : ∀ (t0 : Int32), fX7_isSeat_28 M t0 = some r → mG p l e (headSpec wsX7_isSeat rmX7_isSeat).room s m (([.ref (ad 0), .int a1, .int a2] : List Value).toArray) below meth c (MQ below (mQi D ad cI cZ r M) (([.ref (ad 0), .int a1, .int a2] : List Value).toArray) s 0 0 (mA ad)) D ad cI cZ 3 M 28 [(0, .ref (ad 0))] [.int t0] := by
    intro  t0 h H locs ls hN hS hl
    unfold fX7_isSeat_28 at h
    obtain ⟨g6, h⟩ := gd_ok h
    exact W.zret hx hb hr (gbo_ok g6) (mg_endr h hI hK hN hS) hS.2.2 dX7_isSeat_28
  have w27 : fX7_isSeat_27 M  = some r → mG p l e (headSpec wsX7_isSeat rmX7_isSeat).room s m (([.ref (ad 0), .int a1, .int a2] : List Value).toArray) below meth c (MQ below (mQi D ad cI cZ r M) (([.ref (ad 0), .int a1, .int a2] : List Value).toArray) s 0 0 (mA ad)) D ad cI cZ 3 M 27 [(0, .ref (ad 0))] [] := by
    intro   h H locs ls hN hS hl
    unfold fX7_isSeat_27 at h
    refine lv_iconst (v := (0 : Int32)) hx hb dX7_isSeat_27 (by decide) ?_
    exact w28  (0 : Int32) h _ _ _ hN hS (lv_sub hl [0] rfl)
  unfold fX7_isSeat at h
  refine lv_iload_n hx hb dX7_isSeat_0 rfl (lv_at hl 1 rfl) ?_
  obtain ⟨v1, c2, h⟩ := cl1_ok h
  refine mg_calli (va_runS (As := [.int a1]) (rest := []) ⟨hx, hb, hml, hown, hts⟩ (mX7_isBand l D ad cI cZ M a1 v1 c2) (va_cwS 1 hts gX7_isSeat_X7_isBand rfl rfl rfl (by decide +kernel) ⟨Nat.le_of_ble_eq_true rfl, Nat.le_of_ble_eq_true rfl⟩) (mg_preS hI hK hN) rfl rfl hl.1 rfl (lv_room (Nat.le_of_ble_eq_true rfl)) dX7_isSeat_1 ⟨Nat.zero_le _, Nat.zero_le _⟩) hS (fun H locs hN hS => ?_)
  refine lv_if_eq (tgt := 27) hx hb dX7_isSeat_4 (by decide) (fun hc => ?_) (fun hc => ?_)
  · have h := ite_t h hc
    exact w27   h _ _ _ hN hS (lv_sub hl [0] rfl)
  · have h := ite_f h hc
    refine lv_iload_n hx hb dX7_isSeat_7 rfl (lv_at hl 2 rfl) ?_
    refine lv_iconst (v := (0 : Int32)) hx hb dX7_isSeat_8 (by decide) ?_
    refine lv_aload_n hx hb dX7_isSeat_9 rfl (lv_at hl 0 rfl) ?_
    refine mg_get hx hb hts hin hown hK hN 15 (by decide) l0 rfl (v := .ref (ad 15)) rfl dX7_isSeat_10 ?_
    refine lv_iload_n hx hb dX7_isSeat_13 rfl (lv_at hl 1 rfl) ?_
    obtain ⟨g3, h⟩ := gd_ok h
    refine mg_ild hx hb hK hN 15 rfl (if_neg (by decide)) (gin_ok g3) dX7_isSeat_14 ?_
    refine lv_iconst (v := (1 : Int32)) hx hb dX7_isSeat_15 (by decide) ?_
    refine lv_isub hx hb dX7_isSeat_16 ?_
    obtain ⟨v4, c5, h⟩ := cl1_ok h
    refine mg_calli (va_runS (As := [.int a2, .int (0 : Int32), .int ((M 15 (Int32.toNatClampNeg a1)) - (1 : Int32))]) (rest := []) ⟨hx, hb, hml, hown, hts⟩ (mX7_isIn l D ad cI cZ M a2 (0 : Int32) ((M 15 (Int32.toNatClampNeg a1)) - (1 : Int32)) v4 c5) (va_cwS 3 hts gX7_isSeat_X7_isIn rfl rfl rfl (by decide +kernel) ⟨Nat.le_of_ble_eq_true rfl, Nat.le_of_ble_eq_true rfl⟩) (mg_preS hI hK hN) rfl rfl hl.1 rfl (lv_room (Nat.le_of_ble_eq_true rfl)) dX7_isSeat_17 ⟨Nat.zero_le _, Nat.zero_le _⟩) hS (fun H locs hN hS => ?_)
    refine lv_if_eq (tgt := 27) hx hb dX7_isSeat_20 (by decide) (fun hc => ?_) (fun hc => ?_)
    · have h := ite_t h hc
      exact w27   h _ _ _ hN hS (lv_sub hl [0] rfl)
    · have h := ite_f h hc
      refine lv_iconst (v := (1 : Int32)) hx hb dX7_isSeat_23 (by decide) ?_
      refine lv_goto (tgt := 28) hx hb dX7_isSeat_24 (by decide) ?_
      exact w28  (1 : Int32) h _ _ _ hN hS (lv_sub hl [0] rfl)
def fX7_isPhrase_30 (M : MT) (t0 : Int32) : Option (Int32) := gd (gbo t0) (some t0)
def fX7_isPhrase_29 (M : MT) : Option (Int32) := fX7_isPhrase_30 M (0 : Int32)
def fX7_isPhrase (a1 : Int32) (a2 : Int32) (M : MT) : Option (Int32) := cl1 (fX7_isBand a1) (fun v1 => (if v1 = 0 then fX7_isPhrase_29 M else gd (gin a1 4) (cl1 (fX7_isIn a2 (0 : Int32) (((M 17 (Int32.toNatClampNeg a1)) / (4 : Int32)) - (1 : Int32))) (fun v4 => (if v4 = 0 then fX7_isPhrase_29 M else fX7_isPhrase_30 M (1 : Int32))))))
def rmX7_isPhrase : Room := { frames := 3, cells := 0, slots := 0, locals := 56 }
set_option maxHeartbeats 4000000 in
set_option maxRecDepth 100000 in
theorem mX7_isPhrase (l : Launch) (D : va_G) (ad : Nat → Nat) (cI cZ : ClassId) (M : MT) (a1 : Int32) (a2 : Int32) (r : Int32) (h : fX7_isPhrase a1 a2 M = some r) : Met l yX7_isPhrase wsX7_isPhrase rmX7_isPhrase (va_Pc [.ref (ad 0), .int a1, .int a2] (mP D ad cI cZ M)) (mQi D ad cI cZ r M) 0 0 (mA ad) := by
  refine Met.ofW (cc := cX7_isPhrase) (maxL := 3) (ret := some .boolean) (by decide) rfl ?_
  intro p e s m args below meth c s₁ B hml hv
  obtain ⟨rfl, hI, hN, hK⟩ := hv
  have hx := B.exec
  have hb := B.bytes
  have hr := B.returns
  have hts := atoms_spec (ws := wsX7_isPhrase) B.pre
  have hown : s.vm.findClass RX7 = some m.cls := findClass_of_methodNamed B.named
  have hlocks := B.notSynchronized
  have hin : ∀ w ∈ wsX70, w ∈ wsX7_isPhrase := fun w h => List.mem_cons_of_mem _ (List.mem_append_right _ h)
  have l0 := hts (.fieldLink RX7 47 "PanyardModel" "notes" "[I") (List.mem_of_getElem? (i := 1) rfl)
  have hS : va_S (mA ad) s.heap s.heap [] := va_S.rf
  have hl := lv_entry ([.ref (ad 0), .int a1, .int a2]) (n := 3) (Nat.le_of_ble_eq_true rfl)
  rw [lg_entry_eq]
  generalize (lg_sl ([.ref (ad 0), .int a1, .int a2]) ++ List.replicate (3 - (lg_sl ([.ref (ad 0), .int a1, .int a2])).length) Slot.unset).toArray = ls at hl ⊢
  have hl : lv_has ls 3 [(0, .ref (ad 0)), (1, .int a1), (2, .int a2)] := hl
  have w30 : ∀ (t0 : Int32), fX7_isPhrase_30 M t0 = some r → mG p l e (headSpec wsX7_isPhrase rmX7_isPhrase).room s m (([.ref (ad 0), .int a1, .int a2] : List Value).toArray) below meth c (MQ below (mQi D ad cI cZ r M) (([.ref (ad 0), .int a1, .int a2] : List Value).toArray) s 0 0 (mA ad)) D ad cI cZ 3 M 30 [(0, .ref (ad 0))] [.int t0] := by
    intro  t0 h H locs ls hN hS hl
    unfold fX7_isPhrase_30 at h
    obtain ⟨g6, h⟩ := gd_ok h
    exact W.zret hx hb hr (gbo_ok g6) (mg_endr h hI hK hN hS) hS.2.2 dX7_isPhrase_30
  have w29 : fX7_isPhrase_29 M  = some r → mG p l e (headSpec wsX7_isPhrase rmX7_isPhrase).room s m (([.ref (ad 0), .int a1, .int a2] : List Value).toArray) below meth c (MQ below (mQi D ad cI cZ r M) (([.ref (ad 0), .int a1, .int a2] : List Value).toArray) s 0 0 (mA ad)) D ad cI cZ 3 M 29 [(0, .ref (ad 0))] [] := by
    intro   h H locs ls hN hS hl
    unfold fX7_isPhrase_29 at h
    refine lv_iconst (v := (0 : Int32)) hx hb dX7_isPhrase_29 (by decide) ?_
    exact w30  (0 : Int32) h _ _ _ hN hS (lv_sub hl [0] rfl)
  unfold fX7_isPhrase at h
  refine lv_iload_n hx hb dX7_isPhrase_0 rfl (lv_at hl 1 rfl) ?_
  obtain ⟨v1, c2, h⟩ := cl1_ok h
  refine mg_calli (va_runS (As := [.int a1]) (rest := []) ⟨hx, hb, hml, hown, hts⟩ (mX7_isBand l D ad cI cZ M a1 v1 c2) (va_cwS 1 hts gX7_isPhrase_X7_isBand rfl rfl rfl (by decide +kernel) ⟨Nat.le_of_ble_eq_true rfl, Nat.le_of_ble_eq_true rfl⟩) (mg_preS hI hK hN) rfl rfl hl.1 rfl (lv_room (Nat.le_of_ble_eq_true rfl)) dX7_isPhrase_1 ⟨Nat.zero_le _, Nat.zero_le _⟩) hS (fun H locs hN hS => ?_)
  refine lv_if_eq (tgt := 29) hx hb dX7_isPhrase_4 (by decide) (fun hc => ?_) (fun hc => ?_)
  · have h := ite_t h hc
    exact w29   h _ _ _ hN hS (lv_sub hl [0] rfl)
  · have h := ite_f h hc
    refine lv_iload_n hx hb dX7_isPhrase_7 rfl (lv_at hl 2 rfl) ?_
    refine lv_iconst (v := (0 : Int32)) hx hb dX7_isPhrase_8 (by decide) ?_
    refine lv_aload_n hx hb dX7_isPhrase_9 rfl (lv_at hl 0 rfl) ?_
    refine mg_get hx hb hts hin hown hK hN 17 (by decide) l0 rfl (v := .ref (ad 17)) rfl dX7_isPhrase_10 ?_
    refine lv_iload_n hx hb dX7_isPhrase_13 rfl (lv_at hl 1 rfl) ?_
    obtain ⟨g3, h⟩ := gd_ok h
    refine mg_ild hx hb hK hN 17 rfl (if_neg (by decide)) (gin_ok g3) dX7_isPhrase_14 ?_
    refine lv_iconst (v := (4 : Int32)) hx hb dX7_isPhrase_15 (by decide) ?_
    refine lv_idiv hx hb dX7_isPhrase_16 (by decide) ?_
    refine lv_iconst (v := (1 : Int32)) hx hb dX7_isPhrase_17 (by decide) ?_
    refine lv_isub hx hb dX7_isPhrase_18 ?_
    obtain ⟨v4, c5, h⟩ := cl1_ok h
    refine mg_calli (va_runS (As := [.int a2, .int (0 : Int32), .int (((M 17 (Int32.toNatClampNeg a1)) / (4 : Int32)) - (1 : Int32))]) (rest := []) ⟨hx, hb, hml, hown, hts⟩ (mX7_isIn l D ad cI cZ M a2 (0 : Int32) (((M 17 (Int32.toNatClampNeg a1)) / (4 : Int32)) - (1 : Int32)) v4 c5) (va_cwS 3 hts gX7_isPhrase_X7_isIn rfl rfl rfl (by decide +kernel) ⟨Nat.le_of_ble_eq_true rfl, Nat.le_of_ble_eq_true rfl⟩) (mg_preS hI hK hN) rfl rfl hl.1 rfl (lv_room (Nat.le_of_ble_eq_true rfl)) dX7_isPhrase_19 ⟨Nat.zero_le _, Nat.zero_le _⟩) hS (fun H locs hN hS => ?_)
    refine lv_if_eq (tgt := 29) hx hb dX7_isPhrase_22 (by decide) (fun hc => ?_) (fun hc => ?_)
    · have h := ite_t h hc
      exact w29   h _ _ _ hN hS (lv_sub hl [0] rfl)
    · have h := ite_f h hc
      refine lv_iconst (v := (1 : Int32)) hx hb dX7_isPhrase_25 (by decide) ?_
      refine lv_goto (tgt := 30) hx hb dX7_isPhrase_26 (by decide) ?_
      exact w30  (1 : Int32) h _ _ _ hN hS (lv_sub hl [0] rfl)
def fX7_pan_76 (x1 : Int32) (x2 : Int32) (x3 : Int32) (x4 : Int32) (t0 : Int32) (M : MT) : Option (Int32 × MT) := cl2 (fX7_holds t0 M) (fun v9 M10 => (if v9 = 0 then some ((0 : Int32), M10) else gd (gin ((4 : Int32) * (M10 3 0)) 24) (bnd (va_up M10 4 (upd (M10 4) (Int32.toNatClampNeg ((4 : Int32) * (M10 3 0))) x1)) (fun M13 => gd (gin (((4 : Int32) * (M13 3 0)) + (1 : Int32)) 24) (bnd (va_up M13 4 (upd (M13 4) (Int32.toNatClampNeg (((4 : Int32) * (M13 3 0)) + (1 : Int32))) x2)) (fun M15 => gd (gin (((4 : Int32) * (M15 3 0)) + (2 : Int32)) 24) (bnd (va_up M15 4 (upd (M15 4) (Int32.toNatClampNeg (((4 : Int32) * (M15 3 0)) + (2 : Int32))) x3)) (fun M17 => gd (gin (((4 : Int32) * (M17 3 0)) + (3 : Int32)) 24) (bnd (va_up M17 4 (upd (M17 4) (Int32.toNatClampNeg (((4 : Int32) * (M17 3 0)) + (3 : Int32))) x4)) (fun M19 => bnd (va_up M19 3 (fun _ => ((M19 3 0) + (1 : Int32)))) (fun M20 => some (((M20 3 0) - (1 : Int32)), M20))))))))))))
def fX7_pan_50 (x1 : Int32) (x2 : Int32) (x3 : Int32) (x4 : Int32) (t0 : Int32) (M : MT) : Option (Int32 × MT) := (if t0 = 0 then fX7_pan_76 x1 x2 x3 x4 (1 : Int32) M else (if (M 3 0) = (6 : Int32) then fX7_pan_76 x1 x2 x3 x4 (2 : Int32) M else fX7_pan_76 x1 x2 x3 x4 (0 : Int32) M))
def fX7_pan_49 (x1 : Int32) (x2 : Int32) (x3 : Int32) (x4 : Int32) (M : MT) : Option (Int32 × MT) := fX7_pan_50 x1 x2 x3 x4 (0 : Int32) M
def fX7_pan (a1 : Int32) (a2 : Int32) (a3 : Int32) (a4 : Int32) (M : MT) : Option (Int32 × MT) := cl1 (fX7_isIn a1 (-60 : Int32) (60 : Int32)) (fun v1 => (if v1 = 0 then fX7_pan_49 a1 a2 a3 a4 M else cl1 (fX7_isIn a2 (-60 : Int32) (60 : Int32)) (fun v3 => (if v3 = 0 then fX7_pan_49 a1 a2 a3 a4 M else cl1 (fX7_isIn a3 (-60 : Int32) (60 : Int32)) (fun v5 => (if v5 = 0 then fX7_pan_49 a1 a2 a3 a4 M else cl1 (fX7_isIn a4 (-60 : Int32) (60 : Int32)) (fun v7 => (if v7 = 0 then fX7_pan_49 a1 a2 a3 a4 M else fX7_pan_50 a1 a2 a3 a4 (1 : Int32) M))))))))
def rmX7_pan : Room := { frames := 2, cells := 0, slots := 0, locals := 36 }
set_option maxHeartbeats 4000000 in
set_option maxRecDepth 100000 in
theorem mX7_pan (l : Launch) (D : va_G) (ad : Nat → Nat) (cI cZ : ClassId) (M : MT) (a1 : Int32) (a2 : Int32) (a3 : Int32) (a4 : Int32) (r : Int32) (Mz : MT) (h : fX7_pan a1 a2 a3 a4 M = some (r, Mz)) : Met l yX7_pan wsX7_pan rmX7_pan (va_Pc [.ref (ad 0), .int a1, .int a2, .int a3, .int a4] (mP D ad cI cZ M)) (mQi D ad cI cZ r Mz) 0 0 (mA ad) := by
  refine Met.ofW (cc := cX7_pan) (maxL := 6) (ret := some .int) (by decide) rfl ?_
  intro p e s m args below meth c s₁ B hml hv
  obtain ⟨rfl, hI, hN, hK⟩ := hv
  have hx := B.exec
  have hb := B.bytes
  have hr := B.returns
  have hts := atoms_spec (ws := wsX7_pan) B.pre
  have hown : s.vm.findClass RX7 = some m.cls := findClass_of_methodNamed B.named
  have hlocks := B.notSynchronized
  have hin : ∀ w ∈ wsX70, w ∈ wsX7_pan := fun w h => List.mem_cons_of_mem _ (List.mem_append_right _ h)
  have l0 := hts (.fieldLink RX7 87 "PanyardModel" "pans" "I") (List.mem_of_getElem? (i := 1) rfl)
  have l1 := hts (.fieldLink RX7 7 "PanyardModel" "tone" "[I") (List.mem_of_getElem? (i := 2) rfl)
  have hS : va_S (mA ad) s.heap s.heap [] := va_S.rf
  have hl := lv_entry ([.ref (ad 0), .int a1, .int a2, .int a3, .int a4]) (n := 6) (Nat.le_of_ble_eq_true rfl)
  rw [lg_entry_eq]
  generalize (lg_sl ([.ref (ad 0), .int a1, .int a2, .int a3, .int a4]) ++ List.replicate (6 - (lg_sl ([.ref (ad 0), .int a1, .int a2, .int a3, .int a4])).length) Slot.unset).toArray = ls at hl ⊢
  have hl : lv_has ls 6 [(0, .ref (ad 0)), (1, .int a1), (2, .int a2), (3, .int a3), (4, .int a4)] := hl
  have w76 : ∀ (x1 : Int32) (x2 : Int32) (x3 : Int32) (x4 : Int32) (t0 : Int32) (M : MT), fX7_pan_76  x1 x2 x3 x4 t0 M = some (r, Mz) → mG p l e (headSpec wsX7_pan rmX7_pan).room s m (([.ref (ad 0), .int a1, .int a2, .int a3, .int a4] : List Value).toArray) below meth c (MQ below (mQi D ad cI cZ r Mz) (([.ref (ad 0), .int a1, .int a2, .int a3, .int a4] : List Value).toArray) s 0 0 (mA ad)) D ad cI cZ 6 M 76 [(0, .ref (ad 0)), (1, .int x1), (2, .int x2), (3, .int x3), (4, .int x4)] [.int t0, .ref (ad 0)] := by
    intro  x1 x2 x3 x4 t0 M h H locs ls hN hS hl
    unfold fX7_pan_76 at h
    obtain ⟨v9, M10, c11, h⟩ := cl2_ok h
    refine mg_calli (va_runV (As := [.int t0]) (rest := []) ⟨hx, hb, hml, hown, hts⟩ (mX7_holds l D ad cI cZ M t0 v9 M10 c11) (cwV 1 hts gX7_pan_X7_holds rfl rfl rfl (by decide +kernel) ⟨Nat.le_of_ble_eq_true rfl, Nat.le_of_ble_eq_true rfl⟩) (mg_preV hI hK hN) rfl rfl hl.1 rfl (lv_room (Nat.le_of_ble_eq_true rfl)) dX7_pan_76 ⟨Nat.zero_le _, Nat.zero_le _⟩) hS (fun H locs hN hS => ?_)
    refine lv_if_ne (tgt := 84) hx hb dX7_pan_79 (by decide) (fun hc => ?_) (fun hc => ?_)
    · have h := ite_f h hc
      refine lv_aload_n hx hb dX7_pan_84 rfl (lv_at hl 0 rfl) ?_
      refine mg_get hx hb hts hin hown hK hN 4 (by decide) l1 rfl (v := .ref (ad 4)) rfl dX7_pan_85 ?_
      refine lv_iconst (v := (4 : Int32)) hx hb dX7_pan_88 (by decide) ?_
      refine lv_aload_n hx hb dX7_pan_89 rfl (lv_at hl 0 rfl) ?_
      refine mg_get hx hb hts hin hown hK hN 3 (by decide) l0 rfl (v := .int (M10 3 0)) rfl dX7_pan_90 ?_
      refine lv_imul hx hb dX7_pan_93 ?_
      refine lv_iload_n hx hb dX7_pan_94 rfl (lv_at hl 1 rfl) ?_
      obtain ⟨g12, h⟩ := gd_ok h
      obtain ⟨M13, eM13⟩ : ∃ y : MT, y = (va_up M10 4 (upd (M10 4) (Int32.toNatClampNeg ((4 : Int32) * (M10 3 0))) x1)) := ⟨_, rfl⟩
      have h := bnd_ok h eM13
      refine mg_ist hx hb hI hK hN hS 4 rfl (if_neg (by decide)) (gin_ok g12) dX7_pan_95 eM13 (fun H locs hN hS => ?_)
      refine lv_aload_n hx hb dX7_pan_96 rfl (lv_at hl 0 rfl) ?_
      refine mg_get hx hb hts hin hown hK hN 4 (by decide) l1 rfl (v := .ref (ad 4)) rfl dX7_pan_97 ?_
      refine lv_iconst (v := (4 : Int32)) hx hb dX7_pan_100 (by decide) ?_
      refine lv_aload_n hx hb dX7_pan_101 rfl (lv_at hl 0 rfl) ?_
      refine mg_get hx hb hts hin hown hK hN 3 (by decide) l0 rfl (v := .int (M13 3 0)) rfl dX7_pan_102 ?_
      refine lv_imul hx hb dX7_pan_105 ?_
      refine lv_iconst (v := (1 : Int32)) hx hb dX7_pan_106 (by decide) ?_
      refine lv_iadd hx hb dX7_pan_107 ?_
      refine lv_iload_n hx hb dX7_pan_108 rfl (lv_at hl 2 rfl) ?_
      obtain ⟨g14, h⟩ := gd_ok h
      obtain ⟨M15, eM15⟩ : ∃ y : MT, y = (va_up M13 4 (upd (M13 4) (Int32.toNatClampNeg (((4 : Int32) * (M13 3 0)) + (1 : Int32))) x2)) := ⟨_, rfl⟩
      have h := bnd_ok h eM15
      refine mg_ist hx hb hI hK hN hS 4 rfl (if_neg (by decide)) (gin_ok g14) dX7_pan_109 eM15 (fun H locs hN hS => ?_)
      refine lv_aload_n hx hb dX7_pan_110 rfl (lv_at hl 0 rfl) ?_
      refine mg_get hx hb hts hin hown hK hN 4 (by decide) l1 rfl (v := .ref (ad 4)) rfl dX7_pan_111 ?_
      refine lv_iconst (v := (4 : Int32)) hx hb dX7_pan_114 (by decide) ?_
      refine lv_aload_n hx hb dX7_pan_115 rfl (lv_at hl 0 rfl) ?_
      refine mg_get hx hb hts hin hown hK hN 3 (by decide) l0 rfl (v := .int (M15 3 0)) rfl dX7_pan_116 ?_
      refine lv_imul hx hb dX7_pan_119 ?_
      refine lv_iconst (v := (2 : Int32)) hx hb dX7_pan_120 (by decide) ?_
      refine lv_iadd hx hb dX7_pan_121 ?_
      refine lv_iload_n hx hb dX7_pan_122 rfl (lv_at hl 3 rfl) ?_
      obtain ⟨g16, h⟩ := gd_ok h
      obtain ⟨M17, eM17⟩ : ∃ y : MT, y = (va_up M15 4 (upd (M15 4) (Int32.toNatClampNeg (((4 : Int32) * (M15 3 0)) + (2 : Int32))) x3)) := ⟨_, rfl⟩
      have h := bnd_ok h eM17
      refine mg_ist hx hb hI hK hN hS 4 rfl (if_neg (by decide)) (gin_ok g16) dX7_pan_123 eM17 (fun H locs hN hS => ?_)
      refine lv_aload_n hx hb dX7_pan_124 rfl (lv_at hl 0 rfl) ?_
      refine mg_get hx hb hts hin hown hK hN 4 (by decide) l1 rfl (v := .ref (ad 4)) rfl dX7_pan_125 ?_
      refine lv_iconst (v := (4 : Int32)) hx hb dX7_pan_128 (by decide) ?_
      refine lv_aload_n hx hb dX7_pan_129 rfl (lv_at hl 0 rfl) ?_
      refine mg_get hx hb hts hin hown hK hN 3 (by decide) l0 rfl (v := .int (M17 3 0)) rfl dX7_pan_130 ?_
      refine lv_imul hx hb dX7_pan_133 ?_
      refine lv_iconst (v := (3 : Int32)) hx hb dX7_pan_134 (by decide) ?_
      refine lv_iadd hx hb dX7_pan_135 ?_
      refine lv_iload hx hb dX7_pan_136 (lv_at hl 4 rfl) ?_
      obtain ⟨g18, h⟩ := gd_ok h
      obtain ⟨M19, eM19⟩ : ∃ y : MT, y = (va_up M17 4 (upd (M17 4) (Int32.toNatClampNeg (((4 : Int32) * (M17 3 0)) + (3 : Int32))) x4)) := ⟨_, rfl⟩
      have h := bnd_ok h eM19
      refine mg_ist hx hb hI hK hN hS 4 rfl (if_neg (by decide)) (gin_ok g18) dX7_pan_138 eM19 (fun H locs hN hS => ?_)
      refine lv_aload_n hx hb dX7_pan_139 rfl (lv_at hl 0 rfl) ?_
      refine lv_dup hx hb dX7_pan_140 rfl ?_
      refine mg_get hx hb hts hin hown hK hN 3 (by decide) l0 rfl (v := .int (M19 3 0)) rfl dX7_pan_141 ?_
      refine lv_iconst (v := (1 : Int32)) hx hb dX7_pan_144 (by decide) ?_
      refine lv_iadd hx hb dX7_pan_145 ?_
      obtain ⟨M20, eM20⟩ : ∃ y : MT, y = (va_up M19 3 (fun _ => ((M19 3 0) + (1 : Int32)))) := ⟨_, rfl⟩
      have h := bnd_ok h eM20
      refine mg_put hx hb hts hin hown hI hK hN hS 3 (by decide) rfl l0 rfl rfl (by decide +kernel) rfl dX7_pan_146 eM20 (fun H locs hN hS => ?_)
      refine lv_aload_n hx hb dX7_pan_149 rfl (lv_at hl 0 rfl) ?_
      refine mg_get hx hb hts hin hown hK hN 3 (by decide) l0 rfl (v := .int (M20 3 0)) rfl dX7_pan_150 ?_
      refine lv_iconst (v := (1 : Int32)) hx hb dX7_pan_153 (by decide) ?_
      refine lv_isub hx hb dX7_pan_154 ?_
      exact W.iret hx hb hr (mg_endi h hI hK hN hS) hS.2.2 dX7_pan_155
    · have h := ite_t h hc
      refine lv_iconst (v := (0 : Int32)) hx hb dX7_pan_82 (by decide) ?_
      exact W.iret hx hb hr (mg_endi h hI hK hN hS) hS.2.2 dX7_pan_83
  have w50 : ∀ (x1 : Int32) (x2 : Int32) (x3 : Int32) (x4 : Int32) (t0 : Int32) (M : MT), fX7_pan_50  x1 x2 x3 x4 t0 M = some (r, Mz) → mG p l e (headSpec wsX7_pan rmX7_pan).room s m (([.ref (ad 0), .int a1, .int a2, .int a3, .int a4] : List Value).toArray) below meth c (MQ below (mQi D ad cI cZ r Mz) (([.ref (ad 0), .int a1, .int a2, .int a3, .int a4] : List Value).toArray) s 0 0 (mA ad)) D ad cI cZ 6 M 50 [(0, .ref (ad 0)), (1, .int x1), (2, .int x2), (3, .int x3), (4, .int x4)] [.int t0] := by
    intro  x1 x2 x3 x4 t0 M h H locs ls hN hS hl
    unfold fX7_pan_50 at h
    refine lv_istore (lv' := [(5, .int t0), (0, .ref (ad 0)), (1, .int x1), (2, .int x2), (3, .int x3), (4, .int x4)]) hx hb dX7_pan_50 hl (by decide) rfl (fun ls hl => ?_)
    refine lv_aload_n hx hb dX7_pan_52 rfl (lv_at hl 1 rfl) ?_
    refine lv_iload hx hb dX7_pan_53 (lv_at hl 0 rfl) ?_
    refine lv_if_ne (tgt := 62) hx hb dX7_pan_55 (by decide) (fun hc => ?_) (fun hc => ?_)
    · have h := ite_f h hc
      refine lv_aload_n hx hb dX7_pan_62 rfl (lv_at hl 1 rfl) ?_
      refine mg_get hx hb hts hin hown hK hN 3 (by decide) l0 rfl (v := .int (M 3 0)) rfl dX7_pan_63 ?_
      refine lv_bipush (v := (6 : Int32)) hx hb dX7_pan_66 (by decide) ?_
      refine lv_icmp_ne (tgt := 75) hx hb dX7_pan_68 (by decide) (fun hc => ?_) (fun hc => ?_)
      · have h := ite_f h hc
        refine lv_iconst (v := (0 : Int32)) hx hb dX7_pan_75 (by decide) ?_
        exact w76  x1 x2 x3 x4 (0 : Int32) M h _ _ _ hN hS (lv_sub hl [1, 2, 3, 4, 5] rfl)
      · have h := ite_t h hc
        refine lv_iconst (v := (2 : Int32)) hx hb dX7_pan_71 (by decide) ?_
        refine lv_goto (tgt := 76) hx hb dX7_pan_72 (by decide) ?_
        exact w76  x1 x2 x3 x4 (2 : Int32) M h _ _ _ hN hS (lv_sub hl [1, 2, 3, 4, 5] rfl)
    · have h := ite_t h hc
      refine lv_iconst (v := (1 : Int32)) hx hb dX7_pan_58 (by decide) ?_
      refine lv_goto (tgt := 76) hx hb dX7_pan_59 (by decide) ?_
      exact w76  x1 x2 x3 x4 (1 : Int32) M h _ _ _ hN hS (lv_sub hl [1, 2, 3, 4, 5] rfl)
  have w49 : ∀ (x1 : Int32) (x2 : Int32) (x3 : Int32) (x4 : Int32) (M : MT), fX7_pan_49  x1 x2 x3 x4 M = some (r, Mz) → mG p l e (headSpec wsX7_pan rmX7_pan).room s m (([.ref (ad 0), .int a1, .int a2, .int a3, .int a4] : List Value).toArray) below meth c (MQ below (mQi D ad cI cZ r Mz) (([.ref (ad 0), .int a1, .int a2, .int a3, .int a4] : List Value).toArray) s 0 0 (mA ad)) D ad cI cZ 6 M 49 [(0, .ref (ad 0)), (1, .int x1), (2, .int x2), (3, .int x3), (4, .int x4)] [] := by
    intro  x1 x2 x3 x4 M h H locs ls hN hS hl
    unfold fX7_pan_49 at h
    refine lv_iconst (v := (0 : Int32)) hx hb dX7_pan_49 (by decide) ?_
    exact w50  x1 x2 x3 x4 (0 : Int32) M h _ _ _ hN hS (lv_sub hl [0, 1, 2, 3, 4] rfl)
  unfold fX7_pan at h
  refine lv_iload_n hx hb dX7_pan_0 rfl (lv_at hl 1 rfl) ?_
  refine lv_bipush (v := (-60 : Int32)) hx hb dX7_pan_1 (by decide) ?_
  refine lv_bipush (v := (60 : Int32)) hx hb dX7_pan_3 (by decide) ?_
  obtain ⟨v1, c2, h⟩ := cl1_ok h
  refine mg_calli (va_runS (As := [.int a1, .int (-60 : Int32), .int (60 : Int32)]) (rest := []) ⟨hx, hb, hml, hown, hts⟩ (mX7_isIn l D ad cI cZ M a1 (-60 : Int32) (60 : Int32) v1 c2) (va_cwS 3 hts gX7_pan_X7_isIn rfl rfl rfl (by decide +kernel) ⟨Nat.le_of_ble_eq_true rfl, Nat.le_of_ble_eq_true rfl⟩) (mg_preS hI hK hN) rfl rfl hl.1 rfl (lv_room (Nat.le_of_ble_eq_true rfl)) dX7_pan_5 ⟨Nat.zero_le _, Nat.zero_le _⟩) hS (fun H locs hN hS => ?_)
  refine lv_if_eq (tgt := 49) hx hb dX7_pan_8 (by decide) (fun hc => ?_) (fun hc => ?_)
  · have h := ite_t h hc
    exact w49  a1 a2 a3 a4 M h _ _ _ hN hS (lv_sub hl [0, 1, 2, 3, 4] rfl)
  · have h := ite_f h hc
    refine lv_iload_n hx hb dX7_pan_11 rfl (lv_at hl 2 rfl) ?_
    refine lv_bipush (v := (-60 : Int32)) hx hb dX7_pan_12 (by decide) ?_
    refine lv_bipush (v := (60 : Int32)) hx hb dX7_pan_14 (by decide) ?_
    obtain ⟨v3, c4, h⟩ := cl1_ok h
    refine mg_calli (va_runS (As := [.int a2, .int (-60 : Int32), .int (60 : Int32)]) (rest := []) ⟨hx, hb, hml, hown, hts⟩ (mX7_isIn l D ad cI cZ M a2 (-60 : Int32) (60 : Int32) v3 c4) (va_cwS 3 hts gX7_pan_X7_isIn rfl rfl rfl (by decide +kernel) ⟨Nat.le_of_ble_eq_true rfl, Nat.le_of_ble_eq_true rfl⟩) (mg_preS hI hK hN) rfl rfl hl.1 rfl (lv_room (Nat.le_of_ble_eq_true rfl)) dX7_pan_16 ⟨Nat.zero_le _, Nat.zero_le _⟩) hS (fun H locs hN hS => ?_)
    refine lv_if_eq (tgt := 49) hx hb dX7_pan_19 (by decide) (fun hc => ?_) (fun hc => ?_)
    · have h := ite_t h hc
      exact w49  a1 a2 a3 a4 M h _ _ _ hN hS (lv_sub hl [0, 1, 2, 3, 4] rfl)
    · have h := ite_f h hc
      refine lv_iload_n hx hb dX7_pan_22 rfl (lv_at hl 3 rfl) ?_
      refine lv_bipush (v := (-60 : Int32)) hx hb dX7_pan_23 (by decide) ?_
      refine lv_bipush (v := (60 : Int32)) hx hb dX7_pan_25 (by decide) ?_
      obtain ⟨v5, c6, h⟩ := cl1_ok h
      refine mg_calli (va_runS (As := [.int a3, .int (-60 : Int32), .int (60 : Int32)]) (rest := []) ⟨hx, hb, hml, hown, hts⟩ (mX7_isIn l D ad cI cZ M a3 (-60 : Int32) (60 : Int32) v5 c6) (va_cwS 3 hts gX7_pan_X7_isIn rfl rfl rfl (by decide +kernel) ⟨Nat.le_of_ble_eq_true rfl, Nat.le_of_ble_eq_true rfl⟩) (mg_preS hI hK hN) rfl rfl hl.1 rfl (lv_room (Nat.le_of_ble_eq_true rfl)) dX7_pan_27 ⟨Nat.zero_le _, Nat.zero_le _⟩) hS (fun H locs hN hS => ?_)
      refine lv_if_eq (tgt := 49) hx hb dX7_pan_30 (by decide) (fun hc => ?_) (fun hc => ?_)
      · have h := ite_t h hc
        exact w49  a1 a2 a3 a4 M h _ _ _ hN hS (lv_sub hl [0, 1, 2, 3, 4] rfl)
      · have h := ite_f h hc
        refine lv_iload hx hb dX7_pan_33 (lv_at hl 4 rfl) ?_
        refine lv_bipush (v := (-60 : Int32)) hx hb dX7_pan_35 (by decide) ?_
        refine lv_bipush (v := (60 : Int32)) hx hb dX7_pan_37 (by decide) ?_
        obtain ⟨v7, c8, h⟩ := cl1_ok h
        refine mg_calli (va_runS (As := [.int a4, .int (-60 : Int32), .int (60 : Int32)]) (rest := []) ⟨hx, hb, hml, hown, hts⟩ (mX7_isIn l D ad cI cZ M a4 (-60 : Int32) (60 : Int32) v7 c8) (va_cwS 3 hts gX7_pan_X7_isIn rfl rfl rfl (by decide +kernel) ⟨Nat.le_of_ble_eq_true rfl, Nat.le_of_ble_eq_true rfl⟩) (mg_preS hI hK hN) rfl rfl hl.1 rfl (lv_room (Nat.le_of_ble_eq_true rfl)) dX7_pan_39 ⟨Nat.zero_le _, Nat.zero_le _⟩) hS (fun H locs hN hS => ?_)
        refine lv_if_eq (tgt := 49) hx hb dX7_pan_42 (by decide) (fun hc => ?_) (fun hc => ?_)
        · have h := ite_t h hc
          exact w49  a1 a2 a3 a4 M h _ _ _ hN hS (lv_sub hl [0, 1, 2, 3, 4] rfl)
        · have h := ite_f h hc
          refine lv_iconst (v := (1 : Int32)) hx hb dX7_pan_45 (by decide) ?_
          refine lv_goto (tgt := 50) hx hb dX7_pan_46 (by decide) ?_
          exact w50  a1 a2 a3 a4 (1 : Int32) M h _ _ _ hN hS (lv_sub hl [0, 1, 2, 3, 4] rfl)
def fX7_takes_61 (M : MT) : Option (MT) := some M
def fX7_takes_2 (k2 : Int32 → Int32 → MT → Option (MT)) (x1 : Int32) (x2 : Int32) (M : MT) : Option (MT) := (if (4 : Int32) ≤ x2 then fX7_takes_61 M else gd (gin (((4 : Int32) * x1) + x2) 24) (gd (gin x2 4) (bnd (va_up M 7 (upd (M 7) (Int32.toNatClampNeg x2) (M 4 (Int32.toNatClampNeg (((4 : Int32) * x1) + x2))))) (fun M3 => gd (gin (((4 : Int32) * x1) + x2) 24) (gd (gin x2 4) (bnd (va_up M3 8 (upd (M3 8) (Int32.toNatClampNeg x2) (M3 5 (Int32.toNatClampNeg (((4 : Int32) * x1) + x2))))) (fun M6 => gd (gin (((4 : Int32) * x1) + x2) 24) (gd (gin x2 4) (bnd (va_up M6 9 (upd (M6 9) (Int32.toNatClampNeg x2) (vp_nar .boolean (M6 6 (Int32.toNatClampNeg (((4 : Int32) * x1) + x2)))))) (fun M9 => bnd (x2 + (1 : Int32)) (fun v10 => k2 x1 v10 M9)))))))))))
def fX7_takes (a1 : Int32) (M : MT) : Option (MT) := lf3 fX7_takes_2 100 a1 (0 : Int32) M
def rmX7_takes : Room := { frames := 1, cells := 0, slots := 0, locals := 14 }
set_option maxHeartbeats 4000000 in
set_option maxRecDepth 100000 in
theorem mX7_takes (l : Launch) (D : va_G) (ad : Nat → Nat) (cI cZ : ClassId) (M : MT) (a1 : Int32) (Mz : MT) (h : fX7_takes a1 M = some Mz) : Met l yX7_takes wsX7_takes rmX7_takes (va_Pc [.ref (ad 0), .int a1] (mP D ad cI cZ M)) (mQv D ad cI cZ Mz) 0 0 (mA ad) := by
  refine Met.ofW (cc := cX7_takes) (maxL := 3) (ret := none) (by decide) rfl ?_
  intro p e s m args below meth c s₁ B hml hv
  obtain ⟨rfl, hI, hN, hK⟩ := hv
  have hx := B.exec
  have hb := B.bytes
  have hr := B.returns
  have hts := atoms_spec (ws := wsX7_takes) B.pre
  have hown : s.vm.findClass RX7 = some m.cls := findClass_of_methodNamed B.named
  have hlocks := B.notSynchronized
  have hin : ∀ w ∈ wsX70, w ∈ wsX7_takes := fun w h => List.mem_cons_of_mem _ (List.mem_append_right _ h)
  have l0 := hts (.fieldLink RX7 20 "PanyardModel" "tried" "[I") (List.mem_of_getElem? (i := 1) rfl)
  have l1 := hts (.fieldLink RX7 7 "PanyardModel" "tone" "[I") (List.mem_of_getElem? (i := 2) rfl)
  have l2 := hts (.fieldLink RX7 23 "PanyardModel" "many" "[I") (List.mem_of_getElem? (i := 3) rfl)
  have l3 := hts (.fieldLink RX7 13 "PanyardModel" "blows" "[I") (List.mem_of_getElem? (i := 4) rfl)
  have l4 := hts (.fieldLink RX7 26 "PanyardModel" "isSunk" "[Z") (List.mem_of_getElem? (i := 5) rfl)
  have l5 := hts (.fieldLink RX7 16 "PanyardModel" "wasSunk" "[Z") (List.mem_of_getElem? (i := 6) rfl)
  have hS : va_S (mA ad) s.heap s.heap [] := va_S.rf
  have hl := lv_entry ([.ref (ad 0), .int a1]) (n := 3) (Nat.le_of_ble_eq_true rfl)
  rw [lg_entry_eq]
  generalize (lg_sl ([.ref (ad 0), .int a1]) ++ List.replicate (3 - (lg_sl ([.ref (ad 0), .int a1])).length) Slot.unset).toArray = ls at hl ⊢
  have hl : lv_has ls 3 [(0, .ref (ad 0)), (1, .int a1)] := hl
  have w61 : ∀ (M : MT), fX7_takes_61  M = some Mz → mG p l e (headSpec wsX7_takes rmX7_takes).room s m (([.ref (ad 0), .int a1] : List Value).toArray) below meth c (MQ below (mQv D ad cI cZ Mz) (([.ref (ad 0), .int a1] : List Value).toArray) s 0 0 (mA ad)) D ad cI cZ 3 M 61 [(0, .ref (ad 0))] [] := by
    intro  M h H locs ls hN hS hl
    unfold fX7_takes_61 at h
    exact W.vret hx hb hr (mg_endv h hI hK hN hS) hS.2.2 dX7_takes_61
  have w2 : ∀ (x1 : Int32) (x2 : Int32) (M : MT), lf3 fX7_takes_2 100 x1 x2 M = some Mz → mG p l e (headSpec wsX7_takes rmX7_takes).room s m (([.ref (ad 0), .int a1] : List Value).toArray) below meth c (MQ below (mQv D ad cI cZ Mz) (([.ref (ad 0), .int a1] : List Value).toArray) s 0 0 (mA ad)) D ad cI cZ 3 M 2 [(0, .ref (ad 0)), (1, .int x1), (2, .int x2)] [] := by
    skip
    refine lf3_ok (P := (fun x1 x2 M => mG p l e (headSpec wsX7_takes rmX7_takes).room s m (([.ref (ad 0), .int a1] : List Value).toArray) below meth c (MQ below (mQv D ad cI cZ Mz) (([.ref (ad 0), .int a1] : List Value).toArray) s 0 0 (mA ad)) D ad cI cZ 3 M 2 [(0, .ref (ad 0)), (1, .int x1), (2, .int x2)] [])) (fun k2 hk2 x1 x2 M h H locs ls hN hS hl => ?_) 100
    unfold fX7_takes_2 at h
    refine lv_iload_n hx hb dX7_takes_2 rfl (lv_at hl 2 rfl) ?_
    refine lv_iconst (v := (4 : Int32)) hx hb dX7_takes_3 (by decide) ?_
    refine lv_icmp_ge (tgt := 61) hx hb dX7_takes_4 (by decide) (fun hc => ?_) (fun hc => ?_)
    · have h := ite_t h hc
      exact w61  M h _ _ _ hN hS (lv_sub hl [0] rfl)
    · have h := ite_f h hc
      refine lv_aload_n hx hb dX7_takes_7 rfl (lv_at hl 0 rfl) ?_
      refine mg_get hx hb hts hin hown hK hN 7 (by decide) l0 rfl (v := .ref (ad 7)) rfl dX7_takes_8 ?_
      refine lv_iload_n hx hb dX7_takes_11 rfl (lv_at hl 2 rfl) ?_
      refine lv_aload_n hx hb dX7_takes_12 rfl (lv_at hl 0 rfl) ?_
      refine mg_get hx hb hts hin hown hK hN 4 (by decide) l1 rfl (v := .ref (ad 4)) rfl dX7_takes_13 ?_
      refine lv_iconst (v := (4 : Int32)) hx hb dX7_takes_16 (by decide) ?_
      refine lv_iload_n hx hb dX7_takes_17 rfl (lv_at hl 1 rfl) ?_
      refine lv_imul hx hb dX7_takes_18 ?_
      refine lv_iload_n hx hb dX7_takes_19 rfl (lv_at hl 2 rfl) ?_
      refine lv_iadd hx hb dX7_takes_20 ?_
      obtain ⟨g1, h⟩ := gd_ok h
      refine mg_ild hx hb hK hN 4 rfl (if_neg (by decide)) (gin_ok g1) dX7_takes_21 ?_
      obtain ⟨g2, h⟩ := gd_ok h
      obtain ⟨M3, eM3⟩ : ∃ y : MT, y = (va_up M 7 (upd (M 7) (Int32.toNatClampNeg x2) (M 4 (Int32.toNatClampNeg (((4 : Int32) * x1) + x2))))) := ⟨_, rfl⟩
      have h := bnd_ok h eM3
      refine mg_ist hx hb hI hK hN hS 7 rfl (if_neg (by decide)) (gin_ok g2) dX7_takes_22 eM3 (fun H locs hN hS => ?_)
      refine lv_aload_n hx hb dX7_takes_23 rfl (lv_at hl 0 rfl) ?_
      refine mg_get hx hb hts hin hown hK hN 8 (by decide) l2 rfl (v := .ref (ad 8)) rfl dX7_takes_24 ?_
      refine lv_iload_n hx hb dX7_takes_27 rfl (lv_at hl 2 rfl) ?_
      refine lv_aload_n hx hb dX7_takes_28 rfl (lv_at hl 0 rfl) ?_
      refine mg_get hx hb hts hin hown hK hN 5 (by decide) l3 rfl (v := .ref (ad 5)) rfl dX7_takes_29 ?_
      refine lv_iconst (v := (4 : Int32)) hx hb dX7_takes_32 (by decide) ?_
      refine lv_iload_n hx hb dX7_takes_33 rfl (lv_at hl 1 rfl) ?_
      refine lv_imul hx hb dX7_takes_34 ?_
      refine lv_iload_n hx hb dX7_takes_35 rfl (lv_at hl 2 rfl) ?_
      refine lv_iadd hx hb dX7_takes_36 ?_
      obtain ⟨g4, h⟩ := gd_ok h
      refine mg_ild hx hb hK hN 5 rfl (if_neg (by decide)) (gin_ok g4) dX7_takes_37 ?_
      obtain ⟨g5, h⟩ := gd_ok h
      obtain ⟨M6, eM6⟩ : ∃ y : MT, y = (va_up M3 8 (upd (M3 8) (Int32.toNatClampNeg x2) (M3 5 (Int32.toNatClampNeg (((4 : Int32) * x1) + x2))))) := ⟨_, rfl⟩
      have h := bnd_ok h eM6
      refine mg_ist hx hb hI hK hN hS 8 rfl (if_neg (by decide)) (gin_ok g5) dX7_takes_38 eM6 (fun H locs hN hS => ?_)
      refine lv_aload_n hx hb dX7_takes_39 rfl (lv_at hl 0 rfl) ?_
      refine mg_get hx hb hts hin hown hK hN 9 (by decide) l4 rfl (v := .ref (ad 9)) rfl dX7_takes_40 ?_
      refine lv_iload_n hx hb dX7_takes_43 rfl (lv_at hl 2 rfl) ?_
      refine lv_aload_n hx hb dX7_takes_44 rfl (lv_at hl 0 rfl) ?_
      refine mg_get hx hb hts hin hown hK hN 6 (by decide) l5 rfl (v := .ref (ad 6)) rfl dX7_takes_45 ?_
      refine lv_iconst (v := (4 : Int32)) hx hb dX7_takes_48 (by decide) ?_
      refine lv_iload_n hx hb dX7_takes_49 rfl (lv_at hl 1 rfl) ?_
      refine lv_imul hx hb dX7_takes_50 ?_
      refine lv_iload_n hx hb dX7_takes_51 rfl (lv_at hl 2 rfl) ?_
      refine lv_iadd hx hb dX7_takes_52 ?_
      obtain ⟨g7, h⟩ := gd_ok h
      refine mg_zld hx hb hK hN 6 rfl (if_pos (by decide)) (gin_ok g7) dX7_takes_53 ?_
      obtain ⟨g8, h⟩ := gd_ok h
      obtain ⟨M9, eM9⟩ : ∃ y : MT, y = (va_up M6 9 (upd (M6 9) (Int32.toNatClampNeg x2) (vp_nar .boolean (M6 6 (Int32.toNatClampNeg (((4 : Int32) * x1) + x2)))))) := ⟨_, rfl⟩
      have h := bnd_ok h eM9
      refine mg_zst hx hb hI hK hN hS 9 rfl (if_pos (by decide)) (gin_ok g8) dX7_takes_54 eM9 (fun H locs hN hS => ?_)
      obtain ⟨v10, ev10⟩ : ∃ y : Int32, y = (x2 + (1 : Int32)) := ⟨_, rfl⟩
      have h := bnd_ok h ev10
      refine lv_iinc (v := v10) (lv' := [(2, .int v10), (0, .ref (ad 0)), (1, .int x1)]) hx hb dX7_takes_55 hl (k := 2) rfl (by rw [ev10]; rfl) (by decide) rfl (fun ls hl => ?_)
      refine lv_goto (tgt := 2) hx hb dX7_takes_58 (by decide) ?_
      exact hk2 x1 v10 M9 h _ _ _ hN hS (lv_sub hl [1, 2, 0] rfl)
  unfold fX7_takes at h
  refine lv_iconst (v := (0 : Int32)) hx hb dX7_takes_0 (by decide) ?_
  refine lv_istore_n (lv' := [(2, .int (0 : Int32)), (0, .ref (ad 0)), (1, .int a1)]) hx hb dX7_takes_1 rfl hl (by decide) rfl (fun ls hl => ?_)
  exact w2  a1 (0 : Int32) M h _ _ _ hN hS (lv_sub hl [1, 2, 0] rfl)
def fX7_bears_29 (M : MT) (t0 : Int32) : Option (Int32) := gd (gbo t0) (some t0)
def fX7_bears_24 (M : MT) : Option (Int32) := fX7_bears_29 M (1 : Int32)
def fX7_bears_28 (M : MT) : Option (Int32) := fX7_bears_29 M (0 : Int32)
def fX7_bears (a1 : Int32) (a2 : Int32) (M : MT) : Option (Int32) := gd (gin a1 4) ((if (6 : Int32) < (M 8 (Int32.toNatClampNeg a1)) then fX7_bears_28 M else (if a2 = 0 then gd (gin a1 4) ((if (M 9 (Int32.toNatClampNeg a1)) = 0 then fX7_bears_24 M else fX7_bears_28 M)) else fX7_bears_24 M)))
def rmX7_bears : Room := { frames := 1, cells := 0, slots := 0, locals := 14 }
set_option maxHeartbeats 4000000 in
set_option maxRecDepth 100000 in
theorem mX7_bears (l : Launch) (D : va_G) (ad : Nat → Nat) (cI cZ : ClassId) (M : MT) (a1 : Int32) (a2 : Int32) (r : Int32) (h : fX7_bears a1 a2 M = some r) : Met l yX7_bears wsX7_bears rmX7_bears (va_Pc [.ref (ad 0), .int a1, .int a2] (mP D ad cI cZ M)) (mQi D ad cI cZ r M) 0 0 (mA ad) := by
  refine Met.ofW (cc := cX7_bears) (maxL := 3) (ret := some .boolean) (by decide) rfl ?_
  intro p e s m args below meth c s₁ B hml hv
  obtain ⟨rfl, hI, hN, hK⟩ := hv
  have hx := B.exec
  have hb := B.bytes
  have hr := B.returns
  have hts := atoms_spec (ws := wsX7_bears) B.pre
  have hown : s.vm.findClass RX7 = some m.cls := findClass_of_methodNamed B.named
  have hlocks := B.notSynchronized
  have hin : ∀ w ∈ wsX70, w ∈ wsX7_bears := fun w h => List.mem_cons_of_mem _ (List.mem_append_right _ h)
  have l0 := hts (.fieldLink RX7 23 "PanyardModel" "many" "[I") (List.mem_of_getElem? (i := 1) rfl)
  have l1 := hts (.fieldLink RX7 26 "PanyardModel" "isSunk" "[Z") (List.mem_of_getElem? (i := 2) rfl)
  have hS : va_S (mA ad) s.heap s.heap [] := va_S.rf
  have hl := lv_entry ([.ref (ad 0), .int a1, .int a2]) (n := 3) (Nat.le_of_ble_eq_true rfl)
  rw [lg_entry_eq]
  generalize (lg_sl ([.ref (ad 0), .int a1, .int a2]) ++ List.replicate (3 - (lg_sl ([.ref (ad 0), .int a1, .int a2])).length) Slot.unset).toArray = ls at hl ⊢
  have hl : lv_has ls 3 [(0, .ref (ad 0)), (1, .int a1), (2, .int a2)] := hl
  have w29 : ∀ (t0 : Int32), fX7_bears_29 M t0 = some r → mG p l e (headSpec wsX7_bears rmX7_bears).room s m (([.ref (ad 0), .int a1, .int a2] : List Value).toArray) below meth c (MQ below (mQi D ad cI cZ r M) (([.ref (ad 0), .int a1, .int a2] : List Value).toArray) s 0 0 (mA ad)) D ad cI cZ 3 M 29 [(0, .ref (ad 0))] [.int t0] := by
    intro  t0 h H locs ls hN hS hl
    unfold fX7_bears_29 at h
    obtain ⟨g3, h⟩ := gd_ok h
    exact W.zret hx hb hr (gbo_ok g3) (mg_endr h hI hK hN hS) hS.2.2 dX7_bears_29
  have w24 : fX7_bears_24 M  = some r → mG p l e (headSpec wsX7_bears rmX7_bears).room s m (([.ref (ad 0), .int a1, .int a2] : List Value).toArray) below meth c (MQ below (mQi D ad cI cZ r M) (([.ref (ad 0), .int a1, .int a2] : List Value).toArray) s 0 0 (mA ad)) D ad cI cZ 3 M 24 [(0, .ref (ad 0))] [] := by
    intro   h H locs ls hN hS hl
    unfold fX7_bears_24 at h
    refine lv_iconst (v := (1 : Int32)) hx hb dX7_bears_24 (by decide) ?_
    refine lv_goto (tgt := 29) hx hb dX7_bears_25 (by decide) ?_
    exact w29  (1 : Int32) h _ _ _ hN hS (lv_sub hl [0] rfl)
  have w28 : fX7_bears_28 M  = some r → mG p l e (headSpec wsX7_bears rmX7_bears).room s m (([.ref (ad 0), .int a1, .int a2] : List Value).toArray) below meth c (MQ below (mQi D ad cI cZ r M) (([.ref (ad 0), .int a1, .int a2] : List Value).toArray) s 0 0 (mA ad)) D ad cI cZ 3 M 28 [(0, .ref (ad 0))] [] := by
    intro   h H locs ls hN hS hl
    unfold fX7_bears_28 at h
    refine lv_iconst (v := (0 : Int32)) hx hb dX7_bears_28 (by decide) ?_
    exact w29  (0 : Int32) h _ _ _ hN hS (lv_sub hl [0] rfl)
  unfold fX7_bears at h
  refine lv_aload_n hx hb dX7_bears_0 rfl (lv_at hl 0 rfl) ?_
  refine mg_get hx hb hts hin hown hK hN 8 (by decide) l0 rfl (v := .ref (ad 8)) rfl dX7_bears_1 ?_
  refine lv_iload_n hx hb dX7_bears_4 rfl (lv_at hl 1 rfl) ?_
  obtain ⟨g1, h⟩ := gd_ok h
  refine mg_ild hx hb hK hN 8 rfl (if_neg (by decide)) (gin_ok g1) dX7_bears_5 ?_
  refine lv_bipush (v := (6 : Int32)) hx hb dX7_bears_6 (by decide) ?_
  refine lv_icmp_gt (tgt := 28) hx hb dX7_bears_8 (by decide) (fun hc => ?_) (fun hc => ?_)
  · have h := ite_t h hc
    exact w28   h _ _ _ hN hS (lv_sub hl [0] rfl)
  · have h := ite_f h hc
    refine lv_iload_n hx hb dX7_bears_11 rfl (lv_at hl 2 rfl) ?_
    refine lv_if_ne (tgt := 24) hx hb dX7_bears_12 (by decide) (fun hc => ?_) (fun hc => ?_)
    · have h := ite_f h hc
      exact w24   h _ _ _ hN hS (lv_sub hl [0] rfl)
    · have h := ite_t h hc
      refine lv_aload_n hx hb dX7_bears_15 rfl (lv_at hl 0 rfl) ?_
      refine mg_get hx hb hts hin hown hK hN 9 (by decide) l1 rfl (v := .ref (ad 9)) rfl dX7_bears_16 ?_
      refine lv_iload_n hx hb dX7_bears_19 rfl (lv_at hl 1 rfl) ?_
      obtain ⟨g2, h⟩ := gd_ok h
      refine mg_zld hx hb hK hN 9 rfl (if_pos (by decide)) (gin_ok g2) dX7_bears_20 ?_
      refine lv_if_ne (tgt := 28) hx hb dX7_bears_21 (by decide) (fun hc => ?_) (fun hc => ?_)
      · have h := ite_f h hc
        exact w28   h _ _ _ hN hS (lv_sub hl [0] rfl)
      · have h := ite_t h hc
        exact w24   h _ _ _ hN hS (lv_sub hl [0] rfl)
def fX7_beats_102 (t0 : Int32) (t1 : Int32) (M : MT) : Option (MT) := gd (gin t1 4) (bnd (va_up M 9 (upd (M 9) (Int32.toNatClampNeg t1) (vp_nar .boolean t0))) (fun M15 => some M15))
def fX7_beats_97 (t0 : Int32) (M : MT) : Option (MT) := fX7_beats_102 (1 : Int32) t0 M
def fX7_beats_67 (x1 : Int32) (x3 : Int32) (t0 : Int32) (t1 : Int32) (t2 : Int32) (M : MT) : Option (MT) := gd (gin t2 4) (bnd (va_up M 7 (upd (M 7) (Int32.toNatClampNeg t2) (t1 + t0))) (fun M9 => gd (gin x1 4) (gd (gin x1 4) (bnd (va_up M9 8 (upd (M9 8) (Int32.toNatClampNeg x1) ((M9 8 (Int32.toNatClampNeg x1)) + (1 : Int32)))) (fun M12 => gd (gin x1 4) ((if (M12 9 (Int32.toNatClampNeg x1)) = 0 then (if x3 = 0 then fX7_beats_102 (0 : Int32) x1 M12 else fX7_beats_97 x1 M12) else fX7_beats_97 x1 M12)))))))
def fX7_beats_44 (x1 : Int32) (x2 : Int32) (x3 : Int32) (t0 : Int32) (t1 : Int32) (t2 : Int32) (M : MT) : Option (MT) := gd (gin t2 4) (bnd (va_up M 7 (upd (M 7) (Int32.toNatClampNeg t2) (t1 + t0))) (fun M6 => gd (gin (irm (x1 + (3 : Int32)) (4 : Int32)) 4) ((if x3 = 0 then fX7_beats_67 x1 x3 (-x2) (M6 7 (Int32.toNatClampNeg (irm (x1 + (3 : Int32)) (4 : Int32)))) (irm (x1 + (3 : Int32)) (4 : Int32)) M6 else fX7_beats_67 x1 x3 x2 (M6 7 (Int32.toNatClampNeg (irm (x1 + (3 : Int32)) (4 : Int32)))) (irm (x1 + (3 : Int32)) (4 : Int32)) M6))))
def fX7_beats_21 (x1 : Int32) (x2 : Int32) (x3 : Int32) (t0 : Int32) (t1 : Int32) (t2 : Int32) (M : MT) : Option (MT) := gd (gin t2 4) (bnd (va_up M 7 (upd (M 7) (Int32.toNatClampNeg t2) (t1 + t0))) (fun M3 => gd (gin (irm (x1 + (1 : Int32)) (4 : Int32)) 4) ((if x3 = 0 then fX7_beats_44 x1 x2 x3 (-x2) (M3 7 (Int32.toNatClampNeg (irm (x1 + (1 : Int32)) (4 : Int32)))) (irm (x1 + (1 : Int32)) (4 : Int32)) M3 else fX7_beats_44 x1 x2 x3 x2 (M3 7 (Int32.toNatClampNeg (irm (x1 + (1 : Int32)) (4 : Int32)))) (irm (x1 + (1 : Int32)) (4 : Int32)) M3))))
def fX7_beats (a1 : Int32) (a2 : Int32) (a3 : Int32) (M : MT) : Option (MT) := gd (gin a1 4) ((if a3 = 0 then fX7_beats_21 a1 a2 a3 ((4 : Int32) * a2) (M 7 (Int32.toNatClampNeg a1)) a1 M else fX7_beats_21 a1 a2 a3 ((-6 : Int32) * a2) (M 7 (Int32.toNatClampNeg a1)) a1 M))
def rmX7_beats : Room := { frames := 1, cells := 0, slots := 0, locals := 15 }
set_option maxHeartbeats 4000000 in
set_option maxRecDepth 100000 in
theorem mX7_beats (l : Launch) (D : va_G) (ad : Nat → Nat) (cI cZ : ClassId) (M : MT) (a1 : Int32) (a2 : Int32) (a3 : Int32) (Mz : MT) (h : fX7_beats a1 a2 a3 M = some Mz) : Met l yX7_beats wsX7_beats rmX7_beats (va_Pc [.ref (ad 0), .int a1, .int a2, .int a3] (mP D ad cI cZ M)) (mQv D ad cI cZ Mz) 0 0 (mA ad) := by
  refine Met.ofW (cc := cX7_beats) (maxL := 4) (ret := none) (by decide) rfl ?_
  intro p e s m args below meth c s₁ B hml hv
  obtain ⟨rfl, hI, hN, hK⟩ := hv
  have hx := B.exec
  have hb := B.bytes
  have hr := B.returns
  have hts := atoms_spec (ws := wsX7_beats) B.pre
  have hown : s.vm.findClass RX7 = some m.cls := findClass_of_methodNamed B.named
  have hlocks := B.notSynchronized
  have hin : ∀ w ∈ wsX70, w ∈ wsX7_beats := fun w h => List.mem_cons_of_mem _ (List.mem_append_right _ h)
  have l0 := hts (.fieldLink RX7 20 "PanyardModel" "tried" "[I") (List.mem_of_getElem? (i := 1) rfl)
  have l1 := hts (.fieldLink RX7 23 "PanyardModel" "many" "[I") (List.mem_of_getElem? (i := 2) rfl)
  have l2 := hts (.fieldLink RX7 26 "PanyardModel" "isSunk" "[Z") (List.mem_of_getElem? (i := 3) rfl)
  have hS : va_S (mA ad) s.heap s.heap [] := va_S.rf
  have hl := lv_entry ([.ref (ad 0), .int a1, .int a2, .int a3]) (n := 4) (Nat.le_of_ble_eq_true rfl)
  rw [lg_entry_eq]
  generalize (lg_sl ([.ref (ad 0), .int a1, .int a2, .int a3]) ++ List.replicate (4 - (lg_sl ([.ref (ad 0), .int a1, .int a2, .int a3])).length) Slot.unset).toArray = ls at hl ⊢
  have hl : lv_has ls 4 [(0, .ref (ad 0)), (1, .int a1), (2, .int a2), (3, .int a3)] := hl
  have w102 : ∀ (t0 : Int32) (t1 : Int32) (M : MT), fX7_beats_102  t0 t1 M = some Mz → mG p l e (headSpec wsX7_beats rmX7_beats).room s m (([.ref (ad 0), .int a1, .int a2, .int a3] : List Value).toArray) below meth c (MQ below (mQv D ad cI cZ Mz) (([.ref (ad 0), .int a1, .int a2, .int a3] : List Value).toArray) s 0 0 (mA ad)) D ad cI cZ 4 M 102 [(0, .ref (ad 0))] [.int t0, .int t1, .ref (ad 9)] := by
    intro  t0 t1 M h H locs ls hN hS hl
    unfold fX7_beats_102 at h
    obtain ⟨g14, h⟩ := gd_ok h
    obtain ⟨M15, eM15⟩ : ∃ y : MT, y = (va_up M 9 (upd (M 9) (Int32.toNatClampNeg t1) (vp_nar .boolean t0))) := ⟨_, rfl⟩
    have h := bnd_ok h eM15
    refine mg_zst hx hb hI hK hN hS 9 rfl (if_pos (by decide)) (gin_ok g14) dX7_beats_102 eM15 (fun H locs hN hS => ?_)
    exact W.vret hx hb hr (mg_endv h hI hK hN hS) hS.2.2 dX7_beats_103
  have w97 : ∀ (t0 : Int32) (M : MT), fX7_beats_97  t0 M = some Mz → mG p l e (headSpec wsX7_beats rmX7_beats).room s m (([.ref (ad 0), .int a1, .int a2, .int a3] : List Value).toArray) below meth c (MQ below (mQv D ad cI cZ Mz) (([.ref (ad 0), .int a1, .int a2, .int a3] : List Value).toArray) s 0 0 (mA ad)) D ad cI cZ 4 M 97 [(0, .ref (ad 0))] [.int t0, .ref (ad 9)] := by
    intro  t0 M h H locs ls hN hS hl
    unfold fX7_beats_97 at h
    refine lv_iconst (v := (1 : Int32)) hx hb dX7_beats_97 (by decide) ?_
    refine lv_goto (tgt := 102) hx hb dX7_beats_98 (by decide) ?_
    exact w102  (1 : Int32) t0 M h _ _ _ hN hS (lv_sub hl [0] rfl)
  have w67 : ∀ (x1 : Int32) (x3 : Int32) (t0 : Int32) (t1 : Int32) (t2 : Int32) (M : MT), fX7_beats_67  x1 x3 t0 t1 t2 M = some Mz → mG p l e (headSpec wsX7_beats rmX7_beats).room s m (([.ref (ad 0), .int a1, .int a2, .int a3] : List Value).toArray) below meth c (MQ below (mQv D ad cI cZ Mz) (([.ref (ad 0), .int a1, .int a2, .int a3] : List Value).toArray) s 0 0 (mA ad)) D ad cI cZ 4 M 67 [(0, .ref (ad 0)), (1, .int x1), (3, .int x3)] [.int t0, .int t1, .int t2, .ref (ad 7)] := by
    intro  x1 x3 t0 t1 t2 M h H locs ls hN hS hl
    unfold fX7_beats_67 at h
    refine lv_iadd hx hb dX7_beats_67 ?_
    obtain ⟨g8, h⟩ := gd_ok h
    obtain ⟨M9, eM9⟩ : ∃ y : MT, y = (va_up M 7 (upd (M 7) (Int32.toNatClampNeg t2) (t1 + t0))) := ⟨_, rfl⟩
    have h := bnd_ok h eM9
    refine mg_ist hx hb hI hK hN hS 7 rfl (if_neg (by decide)) (gin_ok g8) dX7_beats_68 eM9 (fun H locs hN hS => ?_)
    refine lv_aload_n hx hb dX7_beats_69 rfl (lv_at hl 0 rfl) ?_
    refine mg_get hx hb hts hin hown hK hN 8 (by decide) l1 rfl (v := .ref (ad 8)) rfl dX7_beats_70 ?_
    refine lv_iload_n hx hb dX7_beats_73 rfl (lv_at hl 1 rfl) ?_
    refine lv_dup2_11 hx hb dX7_beats_74 rfl rfl ?_
    obtain ⟨g10, h⟩ := gd_ok h
    refine mg_ild hx hb hK hN 8 rfl (if_neg (by decide)) (gin_ok g10) dX7_beats_75 ?_
    refine lv_iconst (v := (1 : Int32)) hx hb dX7_beats_76 (by decide) ?_
    refine lv_iadd hx hb dX7_beats_77 ?_
    obtain ⟨g11, h⟩ := gd_ok h
    obtain ⟨M12, eM12⟩ : ∃ y : MT, y = (va_up M9 8 (upd (M9 8) (Int32.toNatClampNeg x1) ((M9 8 (Int32.toNatClampNeg x1)) + (1 : Int32)))) := ⟨_, rfl⟩
    have h := bnd_ok h eM12
    refine mg_ist hx hb hI hK hN hS 8 rfl (if_neg (by decide)) (gin_ok g11) dX7_beats_78 eM12 (fun H locs hN hS => ?_)
    refine lv_aload_n hx hb dX7_beats_79 rfl (lv_at hl 0 rfl) ?_
    refine mg_get hx hb hts hin hown hK hN 9 (by decide) l2 rfl (v := .ref (ad 9)) rfl dX7_beats_80 ?_
    refine lv_iload_n hx hb dX7_beats_83 rfl (lv_at hl 1 rfl) ?_
    refine lv_aload_n hx hb dX7_beats_84 rfl (lv_at hl 0 rfl) ?_
    refine mg_get hx hb hts hin hown hK hN 9 (by decide) l2 rfl (v := .ref (ad 9)) rfl dX7_beats_85 ?_
    refine lv_iload_n hx hb dX7_beats_88 rfl (lv_at hl 1 rfl) ?_
    obtain ⟨g13, h⟩ := gd_ok h
    refine mg_zld hx hb hK hN 9 rfl (if_pos (by decide)) (gin_ok g13) dX7_beats_89 ?_
    refine lv_if_ne (tgt := 97) hx hb dX7_beats_90 (by decide) (fun hc => ?_) (fun hc => ?_)
    · have h := ite_f h hc
      exact w97  x1 M12 h _ _ _ hN hS (lv_sub hl [0] rfl)
    · have h := ite_t h hc
      refine lv_iload_n hx hb dX7_beats_93 rfl (lv_at hl 2 rfl) ?_
      refine lv_if_eq (tgt := 101) hx hb dX7_beats_94 (by decide) (fun hc => ?_) (fun hc => ?_)
      · have h := ite_t h hc
        refine lv_iconst (v := (0 : Int32)) hx hb dX7_beats_101 (by decide) ?_
        exact w102  (0 : Int32) x1 M12 h _ _ _ hN hS (lv_sub hl [0] rfl)
      · have h := ite_f h hc
        exact w97  x1 M12 h _ _ _ hN hS (lv_sub hl [0] rfl)
  have w44 : ∀ (x1 : Int32) (x2 : Int32) (x3 : Int32) (t0 : Int32) (t1 : Int32) (t2 : Int32) (M : MT), fX7_beats_44  x1 x2 x3 t0 t1 t2 M = some Mz → mG p l e (headSpec wsX7_beats rmX7_beats).room s m (([.ref (ad 0), .int a1, .int a2, .int a3] : List Value).toArray) below meth c (MQ below (mQv D ad cI cZ Mz) (([.ref (ad 0), .int a1, .int a2, .int a3] : List Value).toArray) s 0 0 (mA ad)) D ad cI cZ 4 M 44 [(0, .ref (ad 0)), (1, .int x1), (2, .int x2), (3, .int x3)] [.int t0, .int t1, .int t2, .ref (ad 7)] := by
    intro  x1 x2 x3 t0 t1 t2 M h H locs ls hN hS hl
    unfold fX7_beats_44 at h
    refine lv_iadd hx hb dX7_beats_44 ?_
    obtain ⟨g5, h⟩ := gd_ok h
    obtain ⟨M6, eM6⟩ : ∃ y : MT, y = (va_up M 7 (upd (M 7) (Int32.toNatClampNeg t2) (t1 + t0))) := ⟨_, rfl⟩
    have h := bnd_ok h eM6
    refine mg_ist hx hb hI hK hN hS 7 rfl (if_neg (by decide)) (gin_ok g5) dX7_beats_45 eM6 (fun H locs hN hS => ?_)
    refine lv_aload_n hx hb dX7_beats_46 rfl (lv_at hl 0 rfl) ?_
    refine mg_get hx hb hts hin hown hK hN 7 (by decide) l0 rfl (v := .ref (ad 7)) rfl dX7_beats_47 ?_
    refine lv_iload_n hx hb dX7_beats_50 rfl (lv_at hl 1 rfl) ?_
    refine lv_iconst (v := (3 : Int32)) hx hb dX7_beats_51 (by decide) ?_
    refine lv_iadd hx hb dX7_beats_52 ?_
    refine lv_iconst (v := (4 : Int32)) hx hb dX7_beats_53 (by decide) ?_
    refine lv_irm hx hb dX7_beats_54 (by decide) ?_
    refine lv_dup2_11 hx hb dX7_beats_55 rfl rfl ?_
    obtain ⟨g7, h⟩ := gd_ok h
    refine mg_ild hx hb hK hN 7 rfl (if_neg (by decide)) (gin_ok g7) dX7_beats_56 ?_
    refine lv_iload_n hx hb dX7_beats_57 rfl (lv_at hl 3 rfl) ?_
    refine lv_if_eq (tgt := 65) hx hb dX7_beats_58 (by decide) (fun hc => ?_) (fun hc => ?_)
    · have h := ite_t h hc
      refine lv_iload_n hx hb dX7_beats_65 rfl (lv_at hl 2 rfl) ?_
      refine lv_ineg hx hb dX7_beats_66 ?_
      exact w67  x1 x3 (-x2) (M6 7 (Int32.toNatClampNeg (irm (x1 + (3 : Int32)) (4 : Int32)))) (irm (x1 + (3 : Int32)) (4 : Int32)) M6 h _ _ _ hN hS (lv_sub hl [0, 1, 3] rfl)
    · have h := ite_f h hc
      refine lv_iload_n hx hb dX7_beats_61 rfl (lv_at hl 2 rfl) ?_
      refine lv_goto (tgt := 67) hx hb dX7_beats_62 (by decide) ?_
      exact w67  x1 x3 x2 (M6 7 (Int32.toNatClampNeg (irm (x1 + (3 : Int32)) (4 : Int32)))) (irm (x1 + (3 : Int32)) (4 : Int32)) M6 h _ _ _ hN hS (lv_sub hl [0, 1, 3] rfl)
  have w21 : ∀ (x1 : Int32) (x2 : Int32) (x3 : Int32) (t0 : Int32) (t1 : Int32) (t2 : Int32) (M : MT), fX7_beats_21  x1 x2 x3 t0 t1 t2 M = some Mz → mG p l e (headSpec wsX7_beats rmX7_beats).room s m (([.ref (ad 0), .int a1, .int a2, .int a3] : List Value).toArray) below meth c (MQ below (mQv D ad cI cZ Mz) (([.ref (ad 0), .int a1, .int a2, .int a3] : List Value).toArray) s 0 0 (mA ad)) D ad cI cZ 4 M 21 [(0, .ref (ad 0)), (1, .int x1), (2, .int x2), (3, .int x3)] [.int t0, .int t1, .int t2, .ref (ad 7)] := by
    intro  x1 x2 x3 t0 t1 t2 M h H locs ls hN hS hl
    unfold fX7_beats_21 at h
    refine lv_iadd hx hb dX7_beats_21 ?_
    obtain ⟨g2, h⟩ := gd_ok h
    obtain ⟨M3, eM3⟩ : ∃ y : MT, y = (va_up M 7 (upd (M 7) (Int32.toNatClampNeg t2) (t1 + t0))) := ⟨_, rfl⟩
    have h := bnd_ok h eM3
    refine mg_ist hx hb hI hK hN hS 7 rfl (if_neg (by decide)) (gin_ok g2) dX7_beats_22 eM3 (fun H locs hN hS => ?_)
    refine lv_aload_n hx hb dX7_beats_23 rfl (lv_at hl 0 rfl) ?_
    refine mg_get hx hb hts hin hown hK hN 7 (by decide) l0 rfl (v := .ref (ad 7)) rfl dX7_beats_24 ?_
    refine lv_iload_n hx hb dX7_beats_27 rfl (lv_at hl 1 rfl) ?_
    refine lv_iconst (v := (1 : Int32)) hx hb dX7_beats_28 (by decide) ?_
    refine lv_iadd hx hb dX7_beats_29 ?_
    refine lv_iconst (v := (4 : Int32)) hx hb dX7_beats_30 (by decide) ?_
    refine lv_irm hx hb dX7_beats_31 (by decide) ?_
    refine lv_dup2_11 hx hb dX7_beats_32 rfl rfl ?_
    obtain ⟨g4, h⟩ := gd_ok h
    refine mg_ild hx hb hK hN 7 rfl (if_neg (by decide)) (gin_ok g4) dX7_beats_33 ?_
    refine lv_iload_n hx hb dX7_beats_34 rfl (lv_at hl 3 rfl) ?_
    refine lv_if_eq (tgt := 42) hx hb dX7_beats_35 (by decide) (fun hc => ?_) (fun hc => ?_)
    · have h := ite_t h hc
      refine lv_iload_n hx hb dX7_beats_42 rfl (lv_at hl 2 rfl) ?_
      refine lv_ineg hx hb dX7_beats_43 ?_
      exact w44  x1 x2 x3 (-x2) (M3 7 (Int32.toNatClampNeg (irm (x1 + (1 : Int32)) (4 : Int32)))) (irm (x1 + (1 : Int32)) (4 : Int32)) M3 h _ _ _ hN hS (lv_sub hl [0, 1, 2, 3] rfl)
    · have h := ite_f h hc
      refine lv_iload_n hx hb dX7_beats_38 rfl (lv_at hl 2 rfl) ?_
      refine lv_goto (tgt := 44) hx hb dX7_beats_39 (by decide) ?_
      exact w44  x1 x2 x3 x2 (M3 7 (Int32.toNatClampNeg (irm (x1 + (1 : Int32)) (4 : Int32)))) (irm (x1 + (1 : Int32)) (4 : Int32)) M3 h _ _ _ hN hS (lv_sub hl [0, 1, 2, 3] rfl)
  unfold fX7_beats at h
  refine lv_aload_n hx hb dX7_beats_0 rfl (lv_at hl 0 rfl) ?_
  refine mg_get hx hb hts hin hown hK hN 7 (by decide) l0 rfl (v := .ref (ad 7)) rfl dX7_beats_1 ?_
  refine lv_iload_n hx hb dX7_beats_4 rfl (lv_at hl 1 rfl) ?_
  refine lv_dup2_11 hx hb dX7_beats_5 rfl rfl ?_
  obtain ⟨g1, h⟩ := gd_ok h
  refine mg_ild hx hb hK hN 7 rfl (if_neg (by decide)) (gin_ok g1) dX7_beats_6 ?_
  refine lv_iload_n hx hb dX7_beats_7 rfl (lv_at hl 3 rfl) ?_
  refine lv_if_eq (tgt := 18) hx hb dX7_beats_8 (by decide) (fun hc => ?_) (fun hc => ?_)
  · have h := ite_t h hc
    refine lv_iconst (v := (4 : Int32)) hx hb dX7_beats_18 (by decide) ?_
    refine lv_iload_n hx hb dX7_beats_19 rfl (lv_at hl 2 rfl) ?_
    refine lv_imul hx hb dX7_beats_20 ?_
    exact w21  a1 a2 a3 ((4 : Int32) * a2) (M 7 (Int32.toNatClampNeg a1)) a1 M h _ _ _ hN hS (lv_sub hl [0, 1, 2, 3] rfl)
  · have h := ite_f h hc
    refine lv_bipush (v := (-6 : Int32)) hx hb dX7_beats_11 (by decide) ?_
    refine lv_iload_n hx hb dX7_beats_13 rfl (lv_at hl 2 rfl) ?_
    refine lv_imul hx hb dX7_beats_14 ?_
    refine lv_goto (tgt := 21) hx hb dX7_beats_15 (by decide) ?_
    exact w21  a1 a2 a3 ((-6 : Int32) * a2) (M 7 (Int32.toNatClampNeg a1)) a1 M h _ _ _ hN hS (lv_sub hl [0, 1, 2, 3] rfl)
def fX7_isTuned_49 (M : MT) (k4 : Int32 → Int32 → Option (Int32)) (x2 : Int32) (t0 : Int32) : Option (Int32) := bnd (x2 + (1 : Int32)) (fun v6 => k4 t0 v6)
def fX7_isTuned_48 (M : MT) (k4 : Int32 → Int32 → Option (Int32)) (x2 : Int32) : Option (Int32) := fX7_isTuned_49 M k4 x2 (0 : Int32)
def fX7_isTuned_56 (M : MT) (x1 : Int32) : Option (Int32) := gd (gbo x1) (some x1)
def fX7_isTuned_4 (M : MT) (k4 : Int32 → Int32 → Option (Int32)) (x1 : Int32) (x2 : Int32) : Option (Int32) := (if (4 : Int32) ≤ x2 then fX7_isTuned_56 M x1 else (if x1 = 0 then fX7_isTuned_48 M k4 x2 else gd (gin x2 4) ((if (6 : Int32) < (M 8 (Int32.toNatClampNeg x2)) then fX7_isTuned_48 M k4 x2 else gd (gin x2 4) (cl1 (fX7_isIn ((M 7 (Int32.toNatClampNeg x2)) - (M 2 0)) (-5 : Int32) (5 : Int32)) (fun v3 => (if v3 = 0 then fX7_isTuned_48 M k4 x2 else fX7_isTuned_49 M k4 x2 (1 : Int32))))))))
def fX7_isTuned (M : MT) : Option (Int32) := lf2 (fX7_isTuned_4 M) 100 (1 : Int32) (0 : Int32)
def rmX7_isTuned : Room := { frames := 2, cells := 0, slots := 0, locals := 36 }
set_option maxHeartbeats 4000000 in
set_option maxRecDepth 100000 in
theorem mX7_isTuned (l : Launch) (D : va_G) (ad : Nat → Nat) (cI cZ : ClassId) (M : MT) (r : Int32) (h : fX7_isTuned M = some r) : Met l yX7_isTuned wsX7_isTuned rmX7_isTuned (va_Pc [.ref (ad 0)] (mP D ad cI cZ M)) (mQi D ad cI cZ r M) 0 0 (mA ad) := by
  refine Met.ofW (cc := cX7_isTuned) (maxL := 3) (ret := some .boolean) (by decide) rfl ?_
  intro p e s m args below meth c s₁ B hml hv
  obtain ⟨rfl, hI, hN, hK⟩ := hv
  have hx := B.exec
  have hb := B.bytes
  have hr := B.returns
  have hts := atoms_spec (ws := wsX7_isTuned) B.pre
  have hown : s.vm.findClass RX7 = some m.cls := findClass_of_methodNamed B.named
  have hlocks := B.notSynchronized
  have hin : ∀ w ∈ wsX70, w ∈ wsX7_isTuned := fun w h => List.mem_cons_of_mem _ (List.mem_append_right _ h)
  have l0 := hts (.fieldLink RX7 23 "PanyardModel" "many" "[I") (List.mem_of_getElem? (i := 1) rfl)
  have l1 := hts (.fieldLink RX7 20 "PanyardModel" "tried" "[I") (List.mem_of_getElem? (i := 2) rfl)
  have l2 := hts (.fieldLink RX7 107 "PanyardModel" "heat" "I") (List.mem_of_getElem? (i := 3) rfl)
  have hS : va_S (mA ad) s.heap s.heap [] := va_S.rf
  have hl := lv_entry ([.ref (ad 0)]) (n := 3) (Nat.le_of_ble_eq_true rfl)
  rw [lg_entry_eq]
  generalize (lg_sl ([.ref (ad 0)]) ++ List.replicate (3 - (lg_sl ([.ref (ad 0)])).length) Slot.unset).toArray = ls at hl ⊢
  have hl : lv_has ls 3 [(0, .ref (ad 0))] := hl
  have w49 : ∀ (k4 : Int32 → Int32 → Option (Int32)) (hk4 : (∀ (x1 : Int32) (x2 : Int32), k4 x1 x2 = some r → mG p l e (headSpec wsX7_isTuned rmX7_isTuned).room s m (([.ref (ad 0)] : List Value).toArray) below meth c (MQ below (mQi D ad cI cZ r M) (([.ref (ad 0)] : List Value).toArray) s 0 0 (mA ad)) D ad cI cZ 3 M 4 [(0, .ref (ad 0)), (1, .int x1), (2, .int x2)] [])) (x2 : Int32) (t0 : Int32), fX7_isTuned_49 M k4 x2 t0 = some r → mG p l e (headSpec wsX7_isTuned rmX7_isTuned).room s m (([.ref (ad 0)] : List Value).toArray) below meth c (MQ below (mQi D ad cI cZ r M) (([.ref (ad 0)] : List Value).toArray) s 0 0 (mA ad)) D ad cI cZ 3 M 49 [(0, .ref (ad 0)), (2, .int x2)] [.int t0] := by
    intro k4 hk4 x2 t0 h H locs ls hN hS hl
    unfold fX7_isTuned_49 at h
    refine lv_istore_n (lv' := [(1, .int t0), (0, .ref (ad 0)), (2, .int x2)]) hx hb dX7_isTuned_49 rfl hl (by decide) rfl (fun ls hl => ?_)
    obtain ⟨v6, ev6⟩ : ∃ y : Int32, y = (x2 + (1 : Int32)) := ⟨_, rfl⟩
    have h := bnd_ok h ev6
    refine lv_iinc (v := v6) (lv' := [(2, .int v6), (1, .int t0), (0, .ref (ad 0))]) hx hb dX7_isTuned_50 hl (k := 2) rfl (by rw [ev6]; rfl) (by decide) rfl (fun ls hl => ?_)
    refine lv_goto (tgt := 4) hx hb dX7_isTuned_53 (by decide) ?_
    exact hk4 t0 v6 h _ _ _ hN hS (lv_sub hl [2, 1, 0] rfl)
  have w48 : ∀ (k4 : Int32 → Int32 → Option (Int32)) (hk4 : (∀ (x1 : Int32) (x2 : Int32), k4 x1 x2 = some r → mG p l e (headSpec wsX7_isTuned rmX7_isTuned).room s m (([.ref (ad 0)] : List Value).toArray) below meth c (MQ below (mQi D ad cI cZ r M) (([.ref (ad 0)] : List Value).toArray) s 0 0 (mA ad)) D ad cI cZ 3 M 4 [(0, .ref (ad 0)), (1, .int x1), (2, .int x2)] [])) (x2 : Int32), fX7_isTuned_48 M k4 x2 = some r → mG p l e (headSpec wsX7_isTuned rmX7_isTuned).room s m (([.ref (ad 0)] : List Value).toArray) below meth c (MQ below (mQi D ad cI cZ r M) (([.ref (ad 0)] : List Value).toArray) s 0 0 (mA ad)) D ad cI cZ 3 M 48 [(0, .ref (ad 0)), (2, .int x2)] [] := by
    intro k4 hk4 x2 h H locs ls hN hS hl
    unfold fX7_isTuned_48 at h
    refine lv_iconst (v := (0 : Int32)) hx hb dX7_isTuned_48 (by decide) ?_
    exact w49 k4 hk4 x2 (0 : Int32) h _ _ _ hN hS (lv_sub hl [0, 1] rfl)
  have w56 : ∀ (x1 : Int32), fX7_isTuned_56 M x1 = some r → mG p l e (headSpec wsX7_isTuned rmX7_isTuned).room s m (([.ref (ad 0)] : List Value).toArray) below meth c (MQ below (mQi D ad cI cZ r M) (([.ref (ad 0)] : List Value).toArray) s 0 0 (mA ad)) D ad cI cZ 3 M 56 [(0, .ref (ad 0)), (1, .int x1)] [] := by
    intro  x1 h H locs ls hN hS hl
    unfold fX7_isTuned_56 at h
    refine lv_iload_n hx hb dX7_isTuned_56 rfl (lv_at hl 1 rfl) ?_
    obtain ⟨g5, h⟩ := gd_ok h
    exact W.zret hx hb hr (gbo_ok g5) (mg_endr h hI hK hN hS) hS.2.2 dX7_isTuned_57
  have w4 : ∀ (x1 : Int32) (x2 : Int32), lf2 (fX7_isTuned_4 M) 100 x1 x2 = some r → mG p l e (headSpec wsX7_isTuned rmX7_isTuned).room s m (([.ref (ad 0)] : List Value).toArray) below meth c (MQ below (mQi D ad cI cZ r M) (([.ref (ad 0)] : List Value).toArray) s 0 0 (mA ad)) D ad cI cZ 3 M 4 [(0, .ref (ad 0)), (1, .int x1), (2, .int x2)] [] := by
    skip
    refine lf2_ok (P := (fun x1 x2 => mG p l e (headSpec wsX7_isTuned rmX7_isTuned).room s m (([.ref (ad 0)] : List Value).toArray) below meth c (MQ below (mQi D ad cI cZ r M) (([.ref (ad 0)] : List Value).toArray) s 0 0 (mA ad)) D ad cI cZ 3 M 4 [(0, .ref (ad 0)), (1, .int x1), (2, .int x2)] [])) (fun k4 hk4 x1 x2 h H locs ls hN hS hl => ?_) 100
    unfold fX7_isTuned_4 at h
    refine lv_iload_n hx hb dX7_isTuned_4 rfl (lv_at hl 2 rfl) ?_
    refine lv_iconst (v := (4 : Int32)) hx hb dX7_isTuned_5 (by decide) ?_
    refine lv_icmp_ge (tgt := 56) hx hb dX7_isTuned_6 (by decide) (fun hc => ?_) (fun hc => ?_)
    · have h := ite_t h hc
      exact w56  x1 h _ _ _ hN hS (lv_sub hl [0, 1] rfl)
    · have h := ite_f h hc
      refine lv_iload_n hx hb dX7_isTuned_9 rfl (lv_at hl 1 rfl) ?_
      refine lv_if_eq (tgt := 48) hx hb dX7_isTuned_10 (by decide) (fun hc => ?_) (fun hc => ?_)
      · have h := ite_t h hc
        exact w48 k4 hk4 x2 h _ _ _ hN hS (lv_sub hl [0, 2] rfl)
      · have h := ite_f h hc
        refine lv_aload_n hx hb dX7_isTuned_13 rfl (lv_at hl 0 rfl) ?_
        refine mg_get hx hb hts hin hown hK hN 8 (by decide) l0 rfl (v := .ref (ad 8)) rfl dX7_isTuned_14 ?_
        refine lv_iload_n hx hb dX7_isTuned_17 rfl (lv_at hl 2 rfl) ?_
        obtain ⟨g1, h⟩ := gd_ok h
        refine mg_ild hx hb hK hN 8 rfl (if_neg (by decide)) (gin_ok g1) dX7_isTuned_18 ?_
        refine lv_bipush (v := (6 : Int32)) hx hb dX7_isTuned_19 (by decide) ?_
        refine lv_icmp_gt (tgt := 48) hx hb dX7_isTuned_21 (by decide) (fun hc => ?_) (fun hc => ?_)
        · have h := ite_t h hc
          exact w48 k4 hk4 x2 h _ _ _ hN hS (lv_sub hl [0, 2] rfl)
        · have h := ite_f h hc
          refine lv_aload_n hx hb dX7_isTuned_24 rfl (lv_at hl 0 rfl) ?_
          refine mg_get hx hb hts hin hown hK hN 7 (by decide) l1 rfl (v := .ref (ad 7)) rfl dX7_isTuned_25 ?_
          refine lv_iload_n hx hb dX7_isTuned_28 rfl (lv_at hl 2 rfl) ?_
          obtain ⟨g2, h⟩ := gd_ok h
          refine mg_ild hx hb hK hN 7 rfl (if_neg (by decide)) (gin_ok g2) dX7_isTuned_29 ?_
          refine lv_aload_n hx hb dX7_isTuned_30 rfl (lv_at hl 0 rfl) ?_
          refine mg_get hx hb hts hin hown hK hN 2 (by decide) l2 rfl (v := .int (M 2 0)) rfl dX7_isTuned_31 ?_
          refine lv_isub hx hb dX7_isTuned_34 ?_
          refine lv_bipush (v := (-5 : Int32)) hx hb dX7_isTuned_35 (by decide) ?_
          refine lv_iconst (v := (5 : Int32)) hx hb dX7_isTuned_37 (by decide) ?_
          obtain ⟨v3, c4, h⟩ := cl1_ok h
          refine mg_calli (va_runS (As := [.int ((M 7 (Int32.toNatClampNeg x2)) - (M 2 0)), .int (-5 : Int32), .int (5 : Int32)]) (rest := []) ⟨hx, hb, hml, hown, hts⟩ (mX7_isIn l D ad cI cZ M ((M 7 (Int32.toNatClampNeg x2)) - (M 2 0)) (-5 : Int32) (5 : Int32) v3 c4) (va_cwS 3 hts gX7_isTuned_X7_isIn rfl rfl rfl (by decide +kernel) ⟨Nat.le_of_ble_eq_true rfl, Nat.le_of_ble_eq_true rfl⟩) (mg_preS hI hK hN) rfl rfl hl.1 rfl (lv_room (Nat.le_of_ble_eq_true rfl)) dX7_isTuned_38 ⟨Nat.zero_le _, Nat.zero_le _⟩) hS (fun H locs hN hS => ?_)
          refine lv_if_eq (tgt := 48) hx hb dX7_isTuned_41 (by decide) (fun hc => ?_) (fun hc => ?_)
          · have h := ite_t h hc
            exact w48 k4 hk4 x2 h _ _ _ hN hS (lv_sub hl [0, 2] rfl)
          · have h := ite_f h hc
            refine lv_iconst (v := (1 : Int32)) hx hb dX7_isTuned_44 (by decide) ?_
            refine lv_goto (tgt := 49) hx hb dX7_isTuned_45 (by decide) ?_
            exact w49 k4 hk4 x2 (1 : Int32) h _ _ _ hN hS (lv_sub hl [0, 2] rfl)
  unfold fX7_isTuned at h
  refine lv_iconst (v := (1 : Int32)) hx hb dX7_isTuned_0 (by decide) ?_
  refine lv_istore_n (lv' := [(1, .int (1 : Int32)), (0, .ref (ad 0))]) hx hb dX7_isTuned_1 rfl hl (by decide) rfl (fun ls hl => ?_)
  refine lv_iconst (v := (0 : Int32)) hx hb dX7_isTuned_2 (by decide) ?_
  refine lv_istore_n (lv' := [(2, .int (0 : Int32)), (1, .int (1 : Int32)), (0, .ref (ad 0))]) hx hb dX7_isTuned_3 rfl hl (by decide) rfl (fun ls hl => ?_)
  exact w4  (1 : Int32) (0 : Int32) h _ _ _ hN hS (lv_sub hl [2, 1, 0] rfl)
def fX7_blow_105 (x1 : Int32) (x2 : Int32) (M : MT) : Option (Int32 × MT) := gd (gin x2 4) (gd (gin (((4 : Int32) * x1) + x2) 24) (bnd (va_up M 5 (upd (M 5) (Int32.toNatClampNeg (((4 : Int32) * x1) + x2)) (M 8 (Int32.toNatClampNeg x2)))) (fun M20 => gd (gin x2 4) (gd (gin (((4 : Int32) * x1) + x2) 24) (bnd (va_up M20 6 (upd (M20 6) (Int32.toNatClampNeg (((4 : Int32) * x1) + x2)) (vp_nar .boolean (M20 9 (Int32.toNatClampNeg x2))))) (fun M23 => gd (gin x2 4) (some ((M23 7 (Int32.toNatClampNeg x2)), M23))))))))
def fX7_blow_75 (k75 : Int32 → Int32 → Int32 → MT → Option (Int32 × MT)) (x1 : Int32) (x2 : Int32) (x6 : Int32) (M : MT) : Option (Int32 × MT) := (if (4 : Int32) ≤ x6 then fX7_blow_105 x1 x2 M else gd (gin x6 4) (gd (gin (((4 : Int32) * x1) + x6) 24) (bnd (va_up M 4 (upd (M 4) (Int32.toNatClampNeg (((4 : Int32) * x1) + x6)) (M 7 (Int32.toNatClampNeg x6)))) (fun M16 => bnd (x6 + (1 : Int32)) (fun v17 => k75 x1 x2 v17 M16)))))
def fX7_blow_56 (x1 : Int32) (x2 : Int32) (x3 : Int32) (x4 : Int32) (t0 : Int32) (M : MT) : Option (Int32 × MT) := cl2 (fX7_holds t0 M) (fun v9 M10 => (if v9 = 0 then some ((0 : Int32), M10) else cl1 (fX7_beats x2 x3 x4 M10) (fun M12 => lf4 fX7_blow_75 100 x1 x2 (0 : Int32) M12)))
def fX7_blow_18 (x1 : Int32) (x2 : Int32) (x3 : Int32) (x4 : Int32) (x5 : Int32) (M : MT) : Option (Int32 × MT) := (if x5 = 0 then fX7_blow_56 x1 x2 x3 x4 (1 : Int32) M else cl1 (fX7_isIn x3 (1 : Int32) (4 : Int32)) (fun v5 => (if v5 = 0 then fX7_blow_56 x1 x2 x3 x4 (2 : Int32) M else cl1 (fX7_bears x2 x4 M) (fun v7 => (if v7 = 0 then fX7_blow_56 x1 x2 x3 x4 (3 : Int32) M else fX7_blow_56 x1 x2 x3 x4 (0 : Int32) M)))))
def fX7_blow (a1 : Int32) (a2 : Int32) (a3 : Int32) (a4 : Int32) (M : MT) : Option (Int32 × MT) := cl1 (fX7_isField a1 a2 M) (fun v1 => (if v1 = 0 then fX7_blow_18 a1 a2 a3 a4 v1 M else cl1 (fX7_takes a1 M) (fun M3 => fX7_blow_18 a1 a2 a3 a4 v1 M3)))
def rmX7_blow : Room := { frames := 4, cells := 0, slots := 0, locals := 79 }
set_option maxHeartbeats 4000000 in
set_option maxRecDepth 100000 in
theorem mX7_blow (l : Launch) (D : va_G) (ad : Nat → Nat) (cI cZ : ClassId) (M : MT) (a1 : Int32) (a2 : Int32) (a3 : Int32) (a4 : Int32) (r : Int32) (Mz : MT) (h : fX7_blow a1 a2 a3 a4 M = some (r, Mz)) : Met l yX7_blow wsX7_blow rmX7_blow (va_Pc [.ref (ad 0), .int a1, .int a2, .int a3, .int a4] (mP D ad cI cZ M)) (mQi D ad cI cZ r Mz) 0 0 (mA ad) := by
  refine Met.ofW (cc := cX7_blow) (maxL := 7) (ret := some .int) (by decide) rfl ?_
  intro p e s m args below meth c s₁ B hml hv
  obtain ⟨rfl, hI, hN, hK⟩ := hv
  have hx := B.exec
  have hb := B.bytes
  have hr := B.returns
  have hts := atoms_spec (ws := wsX7_blow) B.pre
  have hown : s.vm.findClass RX7 = some m.cls := findClass_of_methodNamed B.named
  have hlocks := B.notSynchronized
  have hin : ∀ w ∈ wsX70, w ∈ wsX7_blow := fun w h => List.mem_cons_of_mem _ (List.mem_append_right _ h)
  have l0 := hts (.fieldLink RX7 7 "PanyardModel" "tone" "[I") (List.mem_of_getElem? (i := 1) rfl)
  have l1 := hts (.fieldLink RX7 20 "PanyardModel" "tried" "[I") (List.mem_of_getElem? (i := 2) rfl)
  have l2 := hts (.fieldLink RX7 13 "PanyardModel" "blows" "[I") (List.mem_of_getElem? (i := 3) rfl)
  have l3 := hts (.fieldLink RX7 23 "PanyardModel" "many" "[I") (List.mem_of_getElem? (i := 4) rfl)
  have l4 := hts (.fieldLink RX7 16 "PanyardModel" "wasSunk" "[Z") (List.mem_of_getElem? (i := 5) rfl)
  have l5 := hts (.fieldLink RX7 26 "PanyardModel" "isSunk" "[Z") (List.mem_of_getElem? (i := 6) rfl)
  have hS : va_S (mA ad) s.heap s.heap [] := va_S.rf
  have hl := lv_entry ([.ref (ad 0), .int a1, .int a2, .int a3, .int a4]) (n := 7) (Nat.le_of_ble_eq_true rfl)
  rw [lg_entry_eq]
  generalize (lg_sl ([.ref (ad 0), .int a1, .int a2, .int a3, .int a4]) ++ List.replicate (7 - (lg_sl ([.ref (ad 0), .int a1, .int a2, .int a3, .int a4])).length) Slot.unset).toArray = ls at hl ⊢
  have hl : lv_has ls 7 [(0, .ref (ad 0)), (1, .int a1), (2, .int a2), (3, .int a3), (4, .int a4)] := hl
  have w105 : ∀ (x1 : Int32) (x2 : Int32) (M : MT), fX7_blow_105  x1 x2 M = some (r, Mz) → mG p l e (headSpec wsX7_blow rmX7_blow).room s m (([.ref (ad 0), .int a1, .int a2, .int a3, .int a4] : List Value).toArray) below meth c (MQ below (mQi D ad cI cZ r Mz) (([.ref (ad 0), .int a1, .int a2, .int a3, .int a4] : List Value).toArray) s 0 0 (mA ad)) D ad cI cZ 7 M 105 [(0, .ref (ad 0)), (1, .int x1), (2, .int x2)] [] := by
    intro  x1 x2 M h H locs ls hN hS hl
    unfold fX7_blow_105 at h
    refine lv_aload_n hx hb dX7_blow_105 rfl (lv_at hl 0 rfl) ?_
    refine mg_get hx hb hts hin hown hK hN 5 (by decide) l2 rfl (v := .ref (ad 5)) rfl dX7_blow_106 ?_
    refine lv_iconst (v := (4 : Int32)) hx hb dX7_blow_109 (by decide) ?_
    refine lv_iload_n hx hb dX7_blow_110 rfl (lv_at hl 1 rfl) ?_
    refine lv_imul hx hb dX7_blow_111 ?_
    refine lv_iload_n hx hb dX7_blow_112 rfl (lv_at hl 2 rfl) ?_
    refine lv_iadd hx hb dX7_blow_113 ?_
    refine lv_aload_n hx hb dX7_blow_114 rfl (lv_at hl 0 rfl) ?_
    refine mg_get hx hb hts hin hown hK hN 8 (by decide) l3 rfl (v := .ref (ad 8)) rfl dX7_blow_115 ?_
    refine lv_iload_n hx hb dX7_blow_118 rfl (lv_at hl 2 rfl) ?_
    obtain ⟨g18, h⟩ := gd_ok h
    refine mg_ild hx hb hK hN 8 rfl (if_neg (by decide)) (gin_ok g18) dX7_blow_119 ?_
    obtain ⟨g19, h⟩ := gd_ok h
    obtain ⟨M20, eM20⟩ : ∃ y : MT, y = (va_up M 5 (upd (M 5) (Int32.toNatClampNeg (((4 : Int32) * x1) + x2)) (M 8 (Int32.toNatClampNeg x2)))) := ⟨_, rfl⟩
    have h := bnd_ok h eM20
    refine mg_ist hx hb hI hK hN hS 5 rfl (if_neg (by decide)) (gin_ok g19) dX7_blow_120 eM20 (fun H locs hN hS => ?_)
    refine lv_aload_n hx hb dX7_blow_121 rfl (lv_at hl 0 rfl) ?_
    refine mg_get hx hb hts hin hown hK hN 6 (by decide) l4 rfl (v := .ref (ad 6)) rfl dX7_blow_122 ?_
    refine lv_iconst (v := (4 : Int32)) hx hb dX7_blow_125 (by decide) ?_
    refine lv_iload_n hx hb dX7_blow_126 rfl (lv_at hl 1 rfl) ?_
    refine lv_imul hx hb dX7_blow_127 ?_
    refine lv_iload_n hx hb dX7_blow_128 rfl (lv_at hl 2 rfl) ?_
    refine lv_iadd hx hb dX7_blow_129 ?_
    refine lv_aload_n hx hb dX7_blow_130 rfl (lv_at hl 0 rfl) ?_
    refine mg_get hx hb hts hin hown hK hN 9 (by decide) l5 rfl (v := .ref (ad 9)) rfl dX7_blow_131 ?_
    refine lv_iload_n hx hb dX7_blow_134 rfl (lv_at hl 2 rfl) ?_
    obtain ⟨g21, h⟩ := gd_ok h
    refine mg_zld hx hb hK hN 9 rfl (if_pos (by decide)) (gin_ok g21) dX7_blow_135 ?_
    obtain ⟨g22, h⟩ := gd_ok h
    obtain ⟨M23, eM23⟩ : ∃ y : MT, y = (va_up M20 6 (upd (M20 6) (Int32.toNatClampNeg (((4 : Int32) * x1) + x2)) (vp_nar .boolean (M20 9 (Int32.toNatClampNeg x2))))) := ⟨_, rfl⟩
    have h := bnd_ok h eM23
    refine mg_zst hx hb hI hK hN hS 6 rfl (if_pos (by decide)) (gin_ok g22) dX7_blow_136 eM23 (fun H locs hN hS => ?_)
    refine lv_aload_n hx hb dX7_blow_137 rfl (lv_at hl 0 rfl) ?_
    refine mg_get hx hb hts hin hown hK hN 7 (by decide) l1 rfl (v := .ref (ad 7)) rfl dX7_blow_138 ?_
    refine lv_iload_n hx hb dX7_blow_141 rfl (lv_at hl 2 rfl) ?_
    obtain ⟨g24, h⟩ := gd_ok h
    refine mg_ild hx hb hK hN 7 rfl (if_neg (by decide)) (gin_ok g24) dX7_blow_142 ?_
    exact W.iret hx hb hr (mg_endi h hI hK hN hS) hS.2.2 dX7_blow_143
  have w75 : ∀ (x1 : Int32) (x2 : Int32) (x6 : Int32) (M : MT), lf4 fX7_blow_75 100 x1 x2 x6 M = some (r, Mz) → mG p l e (headSpec wsX7_blow rmX7_blow).room s m (([.ref (ad 0), .int a1, .int a2, .int a3, .int a4] : List Value).toArray) below meth c (MQ below (mQi D ad cI cZ r Mz) (([.ref (ad 0), .int a1, .int a2, .int a3, .int a4] : List Value).toArray) s 0 0 (mA ad)) D ad cI cZ 7 M 75 [(0, .ref (ad 0)), (1, .int x1), (2, .int x2), (6, .int x6)] [] := by
    skip
    refine lf4_ok (P := (fun x1 x2 x6 M => mG p l e (headSpec wsX7_blow rmX7_blow).room s m (([.ref (ad 0), .int a1, .int a2, .int a3, .int a4] : List Value).toArray) below meth c (MQ below (mQi D ad cI cZ r Mz) (([.ref (ad 0), .int a1, .int a2, .int a3, .int a4] : List Value).toArray) s 0 0 (mA ad)) D ad cI cZ 7 M 75 [(0, .ref (ad 0)), (1, .int x1), (2, .int x2), (6, .int x6)] [])) (fun k75 hk75 x1 x2 x6 M h H locs ls hN hS hl => ?_) 100
    unfold fX7_blow_75 at h
    refine lv_iload hx hb dX7_blow_75 (lv_at hl 3 rfl) ?_
    refine lv_iconst (v := (4 : Int32)) hx hb dX7_blow_77 (by decide) ?_
    refine lv_icmp_ge (tgt := 105) hx hb dX7_blow_78 (by decide) (fun hc => ?_) (fun hc => ?_)
    · have h := ite_t h hc
      exact w105  x1 x2 M h _ _ _ hN hS (lv_sub hl [0, 1, 2] rfl)
    · have h := ite_f h hc
      refine lv_aload_n hx hb dX7_blow_81 rfl (lv_at hl 0 rfl) ?_
      refine mg_get hx hb hts hin hown hK hN 4 (by decide) l0 rfl (v := .ref (ad 4)) rfl dX7_blow_82 ?_
      refine lv_iconst (v := (4 : Int32)) hx hb dX7_blow_85 (by decide) ?_
      refine lv_iload_n hx hb dX7_blow_86 rfl (lv_at hl 1 rfl) ?_
      refine lv_imul hx hb dX7_blow_87 ?_
      refine lv_iload hx hb dX7_blow_88 (lv_at hl 3 rfl) ?_
      refine lv_iadd hx hb dX7_blow_90 ?_
      refine lv_aload_n hx hb dX7_blow_91 rfl (lv_at hl 0 rfl) ?_
      refine mg_get hx hb hts hin hown hK hN 7 (by decide) l1 rfl (v := .ref (ad 7)) rfl dX7_blow_92 ?_
      refine lv_iload hx hb dX7_blow_95 (lv_at hl 3 rfl) ?_
      obtain ⟨g14, h⟩ := gd_ok h
      refine mg_ild hx hb hK hN 7 rfl (if_neg (by decide)) (gin_ok g14) dX7_blow_97 ?_
      obtain ⟨g15, h⟩ := gd_ok h
      obtain ⟨M16, eM16⟩ : ∃ y : MT, y = (va_up M 4 (upd (M 4) (Int32.toNatClampNeg (((4 : Int32) * x1) + x6)) (M 7 (Int32.toNatClampNeg x6)))) := ⟨_, rfl⟩
      have h := bnd_ok h eM16
      refine mg_ist hx hb hI hK hN hS 4 rfl (if_neg (by decide)) (gin_ok g15) dX7_blow_98 eM16 (fun H locs hN hS => ?_)
      obtain ⟨v17, ev17⟩ : ∃ y : Int32, y = (x6 + (1 : Int32)) := ⟨_, rfl⟩
      have h := bnd_ok h ev17
      refine lv_iinc (v := v17) (lv' := [(6, .int v17), (0, .ref (ad 0)), (1, .int x1), (2, .int x2)]) hx hb dX7_blow_99 hl (k := 3) rfl (by rw [ev17]; rfl) (by decide) rfl (fun ls hl => ?_)
      refine lv_goto (tgt := 75) hx hb dX7_blow_102 (by decide) ?_
      exact hk75 x1 x2 v17 M16 h _ _ _ hN hS (lv_sub hl [1, 2, 3, 0] rfl)
  have w56 : ∀ (x1 : Int32) (x2 : Int32) (x3 : Int32) (x4 : Int32) (t0 : Int32) (M : MT), fX7_blow_56  x1 x2 x3 x4 t0 M = some (r, Mz) → mG p l e (headSpec wsX7_blow rmX7_blow).room s m (([.ref (ad 0), .int a1, .int a2, .int a3, .int a4] : List Value).toArray) below meth c (MQ below (mQi D ad cI cZ r Mz) (([.ref (ad 0), .int a1, .int a2, .int a3, .int a4] : List Value).toArray) s 0 0 (mA ad)) D ad cI cZ 7 M 56 [(0, .ref (ad 0)), (1, .int x1), (2, .int x2), (3, .int x3), (4, .int x4)] [.int t0, .ref (ad 0)] := by
    intro  x1 x2 x3 x4 t0 M h H locs ls hN hS hl
    unfold fX7_blow_56 at h
    obtain ⟨v9, M10, c11, h⟩ := cl2_ok h
    refine mg_calli (va_runV (As := [.int t0]) (rest := []) ⟨hx, hb, hml, hown, hts⟩ (mX7_holds l D ad cI cZ M t0 v9 M10 c11) (cwV 1 hts gX7_blow_X7_holds rfl rfl rfl (by decide +kernel) ⟨Nat.le_of_ble_eq_true rfl, Nat.le_of_ble_eq_true rfl⟩) (mg_preV hI hK hN) rfl rfl hl.1 rfl (lv_room (Nat.le_of_ble_eq_true rfl)) dX7_blow_56 ⟨Nat.zero_le _, Nat.zero_le _⟩) hS (fun H locs hN hS => ?_)
    refine lv_if_ne (tgt := 64) hx hb dX7_blow_59 (by decide) (fun hc => ?_) (fun hc => ?_)
    · have h := ite_f h hc
      refine lv_aload_n hx hb dX7_blow_64 rfl (lv_at hl 0 rfl) ?_
      refine lv_iload_n hx hb dX7_blow_65 rfl (lv_at hl 2 rfl) ?_
      refine lv_iload_n hx hb dX7_blow_66 rfl (lv_at hl 3 rfl) ?_
      refine lv_iload hx hb dX7_blow_67 (lv_at hl 4 rfl) ?_
      obtain ⟨M12, c13, h⟩ := cl1_ok h
      refine mg_callv (va_runV (As := [.int x2, .int x3, .int x4]) (rest := []) ⟨hx, hb, hml, hown, hts⟩ (mX7_beats l D ad cI cZ M10 x2 x3 x4 M12 c13) (cwV 3 hts gX7_blow_X7_beats rfl rfl rfl (by decide +kernel) ⟨Nat.le_of_ble_eq_true rfl, Nat.le_of_ble_eq_true rfl⟩) (mg_preV hI hK hN) rfl rfl hl.1 rfl (lv_room (Nat.le_of_ble_eq_true rfl)) dX7_blow_69 ⟨Nat.zero_le _, Nat.zero_le _⟩) hS (fun H locs hN hS => ?_)
      refine lv_iconst (v := (0 : Int32)) hx hb dX7_blow_72 (by decide) ?_
      refine lv_istore (lv' := [(6, .int (0 : Int32)), (0, .ref (ad 0)), (1, .int x1), (2, .int x2), (3, .int x3), (4, .int x4)]) hx hb dX7_blow_73 hl (by decide) rfl (fun ls hl => ?_)
      exact w75  x1 x2 (0 : Int32) M12 h _ _ _ hN hS (lv_sub hl [1, 2, 3, 0] rfl)
    · have h := ite_t h hc
      refine lv_iconst (v := (0 : Int32)) hx hb dX7_blow_62 (by decide) ?_
      exact W.iret hx hb hr (mg_endi h hI hK hN hS) hS.2.2 dX7_blow_63
  have w18 : ∀ (x1 : Int32) (x2 : Int32) (x3 : Int32) (x4 : Int32) (x5 : Int32) (M : MT), fX7_blow_18  x1 x2 x3 x4 x5 M = some (r, Mz) → mG p l e (headSpec wsX7_blow rmX7_blow).room s m (([.ref (ad 0), .int a1, .int a2, .int a3, .int a4] : List Value).toArray) below meth c (MQ below (mQi D ad cI cZ r Mz) (([.ref (ad 0), .int a1, .int a2, .int a3, .int a4] : List Value).toArray) s 0 0 (mA ad)) D ad cI cZ 7 M 18 [(0, .ref (ad 0)), (1, .int x1), (2, .int x2), (3, .int x3), (4, .int x4), (5, .int x5)] [] := by
    intro  x1 x2 x3 x4 x5 M h H locs ls hN hS hl
    unfold fX7_blow_18 at h
    refine lv_aload_n hx hb dX7_blow_18 rfl (lv_at hl 0 rfl) ?_
    refine lv_iload hx hb dX7_blow_19 (lv_at hl 5 rfl) ?_
    refine lv_if_ne (tgt := 28) hx hb dX7_blow_21 (by decide) (fun hc => ?_) (fun hc => ?_)
    · have h := ite_f h hc
      refine lv_iload_n hx hb dX7_blow_28 rfl (lv_at hl 3 rfl) ?_
      refine lv_iconst (v := (1 : Int32)) hx hb dX7_blow_29 (by decide) ?_
      refine lv_iconst (v := (4 : Int32)) hx hb dX7_blow_30 (by decide) ?_
      obtain ⟨v5, c6, h⟩ := cl1_ok h
      refine mg_calli (va_runS (As := [.int x3, .int (1 : Int32), .int (4 : Int32)]) (rest := [.ref (ad 0)]) ⟨hx, hb, hml, hown, hts⟩ (mX7_isIn l D ad cI cZ M x3 (1 : Int32) (4 : Int32) v5 c6) (va_cwS 3 hts gX7_blow_X7_isIn rfl rfl rfl (by decide +kernel) ⟨Nat.le_of_ble_eq_true rfl, Nat.le_of_ble_eq_true rfl⟩) (mg_preS hI hK hN) rfl rfl hl.1 rfl (lv_room (Nat.le_of_ble_eq_true rfl)) dX7_blow_31 ⟨Nat.zero_le _, Nat.zero_le _⟩) hS (fun H locs hN hS => ?_)
      refine lv_if_ne (tgt := 41) hx hb dX7_blow_34 (by decide) (fun hc => ?_) (fun hc => ?_)
      · have h := ite_f h hc
        refine lv_aload_n hx hb dX7_blow_41 rfl (lv_at hl 0 rfl) ?_
        refine lv_iload_n hx hb dX7_blow_42 rfl (lv_at hl 2 rfl) ?_
        refine lv_iload hx hb dX7_blow_43 (lv_at hl 4 rfl) ?_
        obtain ⟨v7, c8, h⟩ := cl1_ok h
        refine mg_calli (va_runV (As := [.int x2, .int x4]) (rest := [.ref (ad 0)]) ⟨hx, hb, hml, hown, hts⟩ (mX7_bears l D ad cI cZ M x2 x4 v7 c8) (cwV 2 hts gX7_blow_X7_bears rfl rfl rfl (by decide +kernel) ⟨Nat.le_of_ble_eq_true rfl, Nat.le_of_ble_eq_true rfl⟩) (mg_preV hI hK hN) rfl rfl hl.1 rfl (lv_room (Nat.le_of_ble_eq_true rfl)) dX7_blow_45 ⟨Nat.zero_le _, Nat.zero_le _⟩) hS (fun H locs hN hS => ?_)
        refine lv_if_eq (tgt := 55) hx hb dX7_blow_48 (by decide) (fun hc => ?_) (fun hc => ?_)
        · have h := ite_t h hc
          refine lv_iconst (v := (3 : Int32)) hx hb dX7_blow_55 (by decide) ?_
          exact w56  x1 x2 x3 x4 (3 : Int32) M h _ _ _ hN hS (lv_sub hl [0, 1, 2, 3, 4] rfl)
        · have h := ite_f h hc
          refine lv_iconst (v := (0 : Int32)) hx hb dX7_blow_51 (by decide) ?_
          refine lv_goto (tgt := 56) hx hb dX7_blow_52 (by decide) ?_
          exact w56  x1 x2 x3 x4 (0 : Int32) M h _ _ _ hN hS (lv_sub hl [0, 1, 2, 3, 4] rfl)
      · have h := ite_t h hc
        refine lv_iconst (v := (2 : Int32)) hx hb dX7_blow_37 (by decide) ?_
        refine lv_goto (tgt := 56) hx hb dX7_blow_38 (by decide) ?_
        exact w56  x1 x2 x3 x4 (2 : Int32) M h _ _ _ hN hS (lv_sub hl [0, 1, 2, 3, 4] rfl)
    · have h := ite_t h hc
      refine lv_iconst (v := (1 : Int32)) hx hb dX7_blow_24 (by decide) ?_
      refine lv_goto (tgt := 56) hx hb dX7_blow_25 (by decide) ?_
      exact w56  x1 x2 x3 x4 (1 : Int32) M h _ _ _ hN hS (lv_sub hl [0, 1, 2, 3, 4] rfl)
  unfold fX7_blow at h
  refine lv_aload_n hx hb dX7_blow_0 rfl (lv_at hl 0 rfl) ?_
  refine lv_iload_n hx hb dX7_blow_1 rfl (lv_at hl 1 rfl) ?_
  refine lv_iload_n hx hb dX7_blow_2 rfl (lv_at hl 2 rfl) ?_
  obtain ⟨v1, c2, h⟩ := cl1_ok h
  refine mg_calli (va_runV (As := [.int a1, .int a2]) (rest := []) ⟨hx, hb, hml, hown, hts⟩ (mX7_isField l D ad cI cZ M a1 a2 v1 c2) (cwV 2 hts gX7_blow_X7_isField rfl rfl rfl (by decide +kernel) ⟨Nat.le_of_ble_eq_true rfl, Nat.le_of_ble_eq_true rfl⟩) (mg_preV hI hK hN) rfl rfl hl.1 rfl (lv_room (Nat.le_of_ble_eq_true rfl)) dX7_blow_3 ⟨Nat.zero_le _, Nat.zero_le _⟩) hS (fun H locs hN hS => ?_)
  refine lv_istore (lv' := [(5, .int v1), (0, .ref (ad 0)), (1, .int a1), (2, .int a2), (3, .int a3), (4, .int a4)]) hx hb dX7_blow_6 hl (by decide) rfl (fun ls hl => ?_)
  refine lv_iload hx hb dX7_blow_8 (lv_at hl 0 rfl) ?_
  refine lv_if_eq (tgt := 18) hx hb dX7_blow_10 (by decide) (fun hc => ?_) (fun hc => ?_)
  · have h := ite_t h hc
    exact w18  a1 a2 a3 a4 v1 M h _ _ _ hN hS (lv_sub hl [1, 2, 3, 4, 5, 0] rfl)
  · have h := ite_f h hc
    refine lv_aload_n hx hb dX7_blow_13 rfl (lv_at hl 1 rfl) ?_
    refine lv_iload_n hx hb dX7_blow_14 rfl (lv_at hl 2 rfl) ?_
    obtain ⟨M3, c4, h⟩ := cl1_ok h
    refine mg_callv (va_runV (As := [.int a1]) (rest := []) ⟨hx, hb, hml, hown, hts⟩ (mX7_takes l D ad cI cZ M a1 M3 c4) (cwV 1 hts gX7_blow_X7_takes rfl rfl rfl (by decide +kernel) ⟨Nat.le_of_ble_eq_true rfl, Nat.le_of_ble_eq_true rfl⟩) (mg_preV hI hK hN) rfl rfl hl.1 rfl (lv_room (Nat.le_of_ble_eq_true rfl)) dX7_blow_15 ⟨Nat.zero_le _, Nat.zero_le _⟩) hS (fun H locs hN hS => ?_)
    exact w18  a1 a2 a3 a4 v1 M3 h _ _ _ hN hS (lv_sub hl [1, 2, 3, 4, 5, 0] rfl)
def fX7_heat_16 (x1 : Int32) (t0 : Int32) (M : MT) : Option (Int32 × MT) := cl2 (fX7_holds t0 M) (fun v3 M4 => (if v3 = 0 then some ((0 : Int32), M4) else bnd (M4 2 0) (fun v6 => bnd (va_up M4 2 (fun _ => x1)) (fun M7 => some (v6, M7)))))
def fX7_heat (a1 : Int32) (M : MT) : Option (Int32 × MT) := cl1 (fX7_isIn a1 (0 : Int32) (15 : Int32)) (fun v1 => (if v1 = 0 then fX7_heat_16 a1 (1 : Int32) M else fX7_heat_16 a1 (0 : Int32) M))
def rmX7_heat : Room := { frames := 2, cells := 0, slots := 0, locals := 36 }
set_option maxHeartbeats 4000000 in
set_option maxRecDepth 100000 in
theorem mX7_heat (l : Launch) (D : va_G) (ad : Nat → Nat) (cI cZ : ClassId) (M : MT) (a1 : Int32) (r : Int32) (Mz : MT) (h : fX7_heat a1 M = some (r, Mz)) : Met l yX7_heat wsX7_heat rmX7_heat (va_Pc [.ref (ad 0), .int a1] (mP D ad cI cZ M)) (mQi D ad cI cZ r Mz) 0 0 (mA ad) := by
  refine Met.ofW (cc := cX7_heat) (maxL := 3) (ret := some .int) (by decide) rfl ?_
  intro p e s m args below meth c s₁ B hml hv
  obtain ⟨rfl, hI, hN, hK⟩ := hv
  have hx := B.exec
  have hb := B.bytes
  have hr := B.returns
  have hts := atoms_spec (ws := wsX7_heat) B.pre
  have hown : s.vm.findClass RX7 = some m.cls := findClass_of_methodNamed B.named
  have hlocks := B.notSynchronized
  have hin : ∀ w ∈ wsX70, w ∈ wsX7_heat := fun w h => List.mem_cons_of_mem _ (List.mem_append_right _ h)
  have l0 := hts (.fieldLink RX7 107 "PanyardModel" "heat" "I") (List.mem_of_getElem? (i := 1) rfl)
  have hS : va_S (mA ad) s.heap s.heap [] := va_S.rf
  have hl := lv_entry ([.ref (ad 0), .int a1]) (n := 3) (Nat.le_of_ble_eq_true rfl)
  rw [lg_entry_eq]
  generalize (lg_sl ([.ref (ad 0), .int a1]) ++ List.replicate (3 - (lg_sl ([.ref (ad 0), .int a1])).length) Slot.unset).toArray = ls at hl ⊢
  have hl : lv_has ls 3 [(0, .ref (ad 0)), (1, .int a1)] := hl
  have w16 : ∀ (x1 : Int32) (t0 : Int32) (M : MT), fX7_heat_16  x1 t0 M = some (r, Mz) → mG p l e (headSpec wsX7_heat rmX7_heat).room s m (([.ref (ad 0), .int a1] : List Value).toArray) below meth c (MQ below (mQi D ad cI cZ r Mz) (([.ref (ad 0), .int a1] : List Value).toArray) s 0 0 (mA ad)) D ad cI cZ 3 M 16 [(0, .ref (ad 0)), (1, .int x1)] [.int t0, .ref (ad 0)] := by
    intro  x1 t0 M h H locs ls hN hS hl
    unfold fX7_heat_16 at h
    obtain ⟨v3, M4, c5, h⟩ := cl2_ok h
    refine mg_calli (va_runV (As := [.int t0]) (rest := []) ⟨hx, hb, hml, hown, hts⟩ (mX7_holds l D ad cI cZ M t0 v3 M4 c5) (cwV 1 hts gX7_heat_X7_holds rfl rfl rfl (by decide +kernel) ⟨Nat.le_of_ble_eq_true rfl, Nat.le_of_ble_eq_true rfl⟩) (mg_preV hI hK hN) rfl rfl hl.1 rfl (lv_room (Nat.le_of_ble_eq_true rfl)) dX7_heat_16 ⟨Nat.zero_le _, Nat.zero_le _⟩) hS (fun H locs hN hS => ?_)
    refine lv_if_ne (tgt := 24) hx hb dX7_heat_19 (by decide) (fun hc => ?_) (fun hc => ?_)
    · have h := ite_f h hc
      refine lv_aload_n hx hb dX7_heat_24 rfl (lv_at hl 0 rfl) ?_
      refine mg_get hx hb hts hin hown hK hN 2 (by decide) l0 rfl (v := .int (M4 2 0)) rfl dX7_heat_25 ?_
      refine lv_topi (fun v6 ev6 => ?_)
      have h := bnd_ok h ev6
      refine lv_istore_n (lv' := [(2, .int v6), (0, .ref (ad 0)), (1, .int x1)]) hx hb dX7_heat_28 rfl hl (by decide) rfl (fun ls hl => ?_)
      refine lv_aload_n hx hb dX7_heat_29 rfl (lv_at hl 1 rfl) ?_
      refine lv_iload_n hx hb dX7_heat_30 rfl (lv_at hl 2 rfl) ?_
      obtain ⟨M7, eM7⟩ : ∃ y : MT, y = (va_up M4 2 (fun _ => x1)) := ⟨_, rfl⟩
      have h := bnd_ok h eM7
      refine mg_put hx hb hts hin hown hI hK hN hS 2 (by decide) rfl l0 rfl rfl (by decide +kernel) rfl dX7_heat_31 eM7 (fun H locs hN hS => ?_)
      refine lv_iload_n hx hb dX7_heat_34 rfl (lv_at hl 0 rfl) ?_
      exact W.iret hx hb hr (mg_endi h hI hK hN hS) hS.2.2 dX7_heat_35
    · have h := ite_t h hc
      refine lv_iconst (v := (0 : Int32)) hx hb dX7_heat_22 (by decide) ?_
      exact W.iret hx hb hr (mg_endi h hI hK hN hS) hS.2.2 dX7_heat_23
  unfold fX7_heat at h
  refine lv_aload_n hx hb dX7_heat_0 rfl (lv_at hl 0 rfl) ?_
  refine lv_iload_n hx hb dX7_heat_1 rfl (lv_at hl 1 rfl) ?_
  refine lv_iconst (v := (0 : Int32)) hx hb dX7_heat_2 (by decide) ?_
  refine lv_bipush (v := (15 : Int32)) hx hb dX7_heat_3 (by decide) ?_
  obtain ⟨v1, c2, h⟩ := cl1_ok h
  refine mg_calli (va_runS (As := [.int a1, .int (0 : Int32), .int (15 : Int32)]) (rest := [.ref (ad 0)]) ⟨hx, hb, hml, hown, hts⟩ (mX7_isIn l D ad cI cZ M a1 (0 : Int32) (15 : Int32) v1 c2) (va_cwS 3 hts gX7_heat_X7_isIn rfl rfl rfl (by decide +kernel) ⟨Nat.le_of_ble_eq_true rfl, Nat.le_of_ble_eq_true rfl⟩) (mg_preS hI hK hN) rfl rfl hl.1 rfl (lv_room (Nat.le_of_ble_eq_true rfl)) dX7_heat_5 ⟨Nat.zero_le _, Nat.zero_le _⟩) hS (fun H locs hN hS => ?_)
  refine lv_if_eq (tgt := 15) hx hb dX7_heat_8 (by decide) (fun hc => ?_) (fun hc => ?_)
  · have h := ite_t h hc
    refine lv_iconst (v := (1 : Int32)) hx hb dX7_heat_15 (by decide) ?_
    exact w16  a1 (1 : Int32) M h _ _ _ hN hS (lv_sub hl [0, 1] rfl)
  · have h := ite_f h hc
    refine lv_iconst (v := (0 : Int32)) hx hb dX7_heat_11 (by decide) ?_
    refine lv_goto (tgt := 16) hx hb dX7_heat_12 (by decide) ?_
    exact w16  a1 (0 : Int32) M h _ _ _ hN hS (lv_sub hl [0, 1] rfl)
def fX7_field_74 (t0 : Int32) (M : MT) : Option (Int32 × MT) := some (t0, M)
def fX7_field_125 (t0 : Int32) (M : MT) : Option (Int32 × MT) := some (t0, M)
def fX7_field_120 (M : MT) : Option (Int32 × MT) := fX7_field_125 (1 : Int32) M
def fX7_field_124 (M : MT) : Option (Int32 × MT) := fX7_field_125 (0 : Int32) M
def fX7_field_28 (x1 : Int32) (x2 : Int32) (x3 : Int32) (t0 : Int32) (M : MT) : Option (Int32 × MT) := cl2 (fX7_holds t0 M) (fun v5 M6 => (if v5 = 0 then some ((0 : Int32), M6) else bnd (((4 : Int32) * x1) + x2) (fun v8 => (if (2 : Int32) ≤ x3 then (if x3 = (2 : Int32) then gd (gin v8 24) (fX7_field_125 (M6 5 (Int32.toNatClampNeg v8)) M6) else (if x3 = (3 : Int32) then gd (gin v8 24) ((if (M6 6 (Int32.toNatClampNeg v8)) = 0 then fX7_field_124 M6 else fX7_field_120 M6)) else gd (gin v8 24) ((if (M6 5 (Int32.toNatClampNeg v8)) ≤ (6 : Int32) then fX7_field_124 M6 else fX7_field_120 M6)))) else (if x3 = 0 then gd (gin v8 24) (fX7_field_74 (M6 4 (Int32.toNatClampNeg v8)) M6) else gd (gin v8 24) (fX7_field_74 ((M6 4 (Int32.toNatClampNeg v8)) - (M6 2 0)) M6))))))
def fX7_field (a1 : Int32) (a2 : Int32) (a3 : Int32) (M : MT) : Option (Int32 × MT) := cl1 (fX7_isField a1 a2 M) (fun v1 => (if v1 = 0 then fX7_field_28 a1 a2 a3 (1 : Int32) M else cl1 (fX7_isIn a3 (0 : Int32) (4 : Int32)) (fun v3 => (if v3 = 0 then fX7_field_28 a1 a2 a3 (2 : Int32) M else fX7_field_28 a1 a2 a3 (0 : Int32) M))))
def rmX7_field : Room := { frames := 4, cells := 0, slots := 0, locals := 79 }
set_option maxHeartbeats 4000000 in
set_option maxRecDepth 100000 in
theorem mX7_field (l : Launch) (D : va_G) (ad : Nat → Nat) (cI cZ : ClassId) (M : MT) (a1 : Int32) (a2 : Int32) (a3 : Int32) (r : Int32) (Mz : MT) (h : fX7_field a1 a2 a3 M = some (r, Mz)) : Met l yX7_field wsX7_field rmX7_field (va_Pc [.ref (ad 0), .int a1, .int a2, .int a3] (mP D ad cI cZ M)) (mQi D ad cI cZ r Mz) 0 0 (mA ad) := by
  refine Met.ofW (cc := cX7_field) (maxL := 5) (ret := some .int) (by decide) rfl ?_
  intro p e s m args below meth c s₁ B hml hv
  obtain ⟨rfl, hI, hN, hK⟩ := hv
  have hx := B.exec
  have hb := B.bytes
  have hr := B.returns
  have hts := atoms_spec (ws := wsX7_field) B.pre
  have hown : s.vm.findClass RX7 = some m.cls := findClass_of_methodNamed B.named
  have hlocks := B.notSynchronized
  have hin : ∀ w ∈ wsX70, w ∈ wsX7_field := fun w h => List.mem_cons_of_mem _ (List.mem_append_right _ h)
  have l0 := hts (.fieldLink RX7 13 "PanyardModel" "blows" "[I") (List.mem_of_getElem? (i := 3) rfl)
  have l1 := hts (.fieldLink RX7 16 "PanyardModel" "wasSunk" "[Z") (List.mem_of_getElem? (i := 4) rfl)
  have l2 := hts (.fieldLink RX7 7 "PanyardModel" "tone" "[I") (List.mem_of_getElem? (i := 1) rfl)
  have l3 := hts (.fieldLink RX7 107 "PanyardModel" "heat" "I") (List.mem_of_getElem? (i := 2) rfl)
  have hS : va_S (mA ad) s.heap s.heap [] := va_S.rf
  have hl := lv_entry ([.ref (ad 0), .int a1, .int a2, .int a3]) (n := 5) (Nat.le_of_ble_eq_true rfl)
  rw [lg_entry_eq]
  generalize (lg_sl ([.ref (ad 0), .int a1, .int a2, .int a3]) ++ List.replicate (5 - (lg_sl ([.ref (ad 0), .int a1, .int a2, .int a3])).length) Slot.unset).toArray = ls at hl ⊢
  have hl : lv_has ls 5 [(0, .ref (ad 0)), (1, .int a1), (2, .int a2), (3, .int a3)] := hl
  have w74 : ∀ (t0 : Int32) (M : MT), fX7_field_74  t0 M = some (r, Mz) → mG p l e (headSpec wsX7_field rmX7_field).room s m (([.ref (ad 0), .int a1, .int a2, .int a3] : List Value).toArray) below meth c (MQ below (mQi D ad cI cZ r Mz) (([.ref (ad 0), .int a1, .int a2, .int a3] : List Value).toArray) s 0 0 (mA ad)) D ad cI cZ 5 M 74 [(0, .ref (ad 0))] [.int t0] := by
    intro  t0 M h H locs ls hN hS hl
    unfold fX7_field_74 at h
    exact W.iret hx hb hr (mg_endi h hI hK hN hS) hS.2.2 dX7_field_74
  have w125 : ∀ (t0 : Int32) (M : MT), fX7_field_125  t0 M = some (r, Mz) → mG p l e (headSpec wsX7_field rmX7_field).room s m (([.ref (ad 0), .int a1, .int a2, .int a3] : List Value).toArray) below meth c (MQ below (mQi D ad cI cZ r Mz) (([.ref (ad 0), .int a1, .int a2, .int a3] : List Value).toArray) s 0 0 (mA ad)) D ad cI cZ 5 M 125 [(0, .ref (ad 0))] [.int t0] := by
    intro  t0 M h H locs ls hN hS hl
    unfold fX7_field_125 at h
    exact W.iret hx hb hr (mg_endi h hI hK hN hS) hS.2.2 dX7_field_125
  have w120 : ∀ (M : MT), fX7_field_120  M = some (r, Mz) → mG p l e (headSpec wsX7_field rmX7_field).room s m (([.ref (ad 0), .int a1, .int a2, .int a3] : List Value).toArray) below meth c (MQ below (mQi D ad cI cZ r Mz) (([.ref (ad 0), .int a1, .int a2, .int a3] : List Value).toArray) s 0 0 (mA ad)) D ad cI cZ 5 M 120 [(0, .ref (ad 0))] [] := by
    intro  M h H locs ls hN hS hl
    unfold fX7_field_120 at h
    refine lv_iconst (v := (1 : Int32)) hx hb dX7_field_120 (by decide) ?_
    refine lv_goto (tgt := 125) hx hb dX7_field_121 (by decide) ?_
    exact w125  (1 : Int32) M h _ _ _ hN hS (lv_sub hl [0] rfl)
  have w124 : ∀ (M : MT), fX7_field_124  M = some (r, Mz) → mG p l e (headSpec wsX7_field rmX7_field).room s m (([.ref (ad 0), .int a1, .int a2, .int a3] : List Value).toArray) below meth c (MQ below (mQi D ad cI cZ r Mz) (([.ref (ad 0), .int a1, .int a2, .int a3] : List Value).toArray) s 0 0 (mA ad)) D ad cI cZ 5 M 124 [(0, .ref (ad 0))] [] := by
    intro  M h H locs ls hN hS hl
    unfold fX7_field_124 at h
    refine lv_iconst (v := (0 : Int32)) hx hb dX7_field_124 (by decide) ?_
    exact w125  (0 : Int32) M h _ _ _ hN hS (lv_sub hl [0] rfl)
  have w28 : ∀ (x1 : Int32) (x2 : Int32) (x3 : Int32) (t0 : Int32) (M : MT), fX7_field_28  x1 x2 x3 t0 M = some (r, Mz) → mG p l e (headSpec wsX7_field rmX7_field).room s m (([.ref (ad 0), .int a1, .int a2, .int a3] : List Value).toArray) below meth c (MQ below (mQi D ad cI cZ r Mz) (([.ref (ad 0), .int a1, .int a2, .int a3] : List Value).toArray) s 0 0 (mA ad)) D ad cI cZ 5 M 28 [(0, .ref (ad 0)), (1, .int x1), (2, .int x2), (3, .int x3)] [.int t0, .ref (ad 0)] := by
    intro  x1 x2 x3 t0 M h H locs ls hN hS hl
    unfold fX7_field_28 at h
    obtain ⟨v5, M6, c7, h⟩ := cl2_ok h
    refine mg_calli (va_runV (As := [.int t0]) (rest := []) ⟨hx, hb, hml, hown, hts⟩ (mX7_holds l D ad cI cZ M t0 v5 M6 c7) (cwV 1 hts gX7_field_X7_holds rfl rfl rfl (by decide +kernel) ⟨Nat.le_of_ble_eq_true rfl, Nat.le_of_ble_eq_true rfl⟩) (mg_preV hI hK hN) rfl rfl hl.1 rfl (lv_room (Nat.le_of_ble_eq_true rfl)) dX7_field_28 ⟨Nat.zero_le _, Nat.zero_le _⟩) hS (fun H locs hN hS => ?_)
    refine lv_if_ne (tgt := 36) hx hb dX7_field_31 (by decide) (fun hc => ?_) (fun hc => ?_)
    · have h := ite_f h hc
      refine lv_iconst (v := (4 : Int32)) hx hb dX7_field_36 (by decide) ?_
      refine lv_iload_n hx hb dX7_field_37 rfl (lv_at hl 1 rfl) ?_
      refine lv_imul hx hb dX7_field_38 ?_
      refine lv_iload_n hx hb dX7_field_39 rfl (lv_at hl 2 rfl) ?_
      refine lv_iadd hx hb dX7_field_40 ?_
      refine lv_topi (fun v8 ev8 => ?_)
      have h := bnd_ok h ev8
      refine lv_istore (lv' := [(4, .int v8), (0, .ref (ad 0)), (1, .int x1), (2, .int x2), (3, .int x3)]) hx hb dX7_field_41 hl (by decide) rfl (fun ls hl => ?_)
      refine lv_iload_n hx hb dX7_field_43 rfl (lv_at hl 4 rfl) ?_
      refine lv_iconst (v := (2 : Int32)) hx hb dX7_field_44 (by decide) ?_
      refine lv_icmp_ge (tgt := 75) hx hb dX7_field_45 (by decide) (fun hc => ?_) (fun hc => ?_)
      · have h := ite_t h hc
        refine lv_iload_n hx hb dX7_field_75 rfl (lv_at hl 4 rfl) ?_
        refine lv_iconst (v := (2 : Int32)) hx hb dX7_field_76 (by decide) ?_
        refine lv_icmp_ne (tgt := 90) hx hb dX7_field_77 (by decide) (fun hc => ?_) (fun hc => ?_)
        · have h := ite_f h hc
          refine lv_iload_n hx hb dX7_field_90 rfl (lv_at hl 4 rfl) ?_
          refine lv_iconst (v := (3 : Int32)) hx hb dX7_field_91 (by decide) ?_
          refine lv_icmp_ne (tgt := 108) hx hb dX7_field_92 (by decide) (fun hc => ?_) (fun hc => ?_)
          · have h := ite_f h hc
            refine lv_aload_n hx hb dX7_field_108 rfl (lv_at hl 1 rfl) ?_
            refine mg_get hx hb hts hin hown hK hN 5 (by decide) l0 rfl (v := .ref (ad 5)) rfl dX7_field_109 ?_
            refine lv_iload hx hb dX7_field_112 (lv_at hl 0 rfl) ?_
            obtain ⟨g9, h⟩ := gd_ok h
            refine mg_ild hx hb hK hN 5 rfl (if_neg (by decide)) (gin_ok g9) dX7_field_114 ?_
            refine lv_bipush (v := (6 : Int32)) hx hb dX7_field_115 (by decide) ?_
            refine lv_icmp_le (tgt := 124) hx hb dX7_field_117 (by decide) (fun hc => ?_) (fun hc => ?_)
            · have h := ite_t h hc
              exact w124  M6 h _ _ _ hN hS (lv_sub hl [1] rfl)
            · have h := ite_f h hc
              exact w120  M6 h _ _ _ hN hS (lv_sub hl [1] rfl)
          · have h := ite_t h hc
            refine lv_aload_n hx hb dX7_field_95 rfl (lv_at hl 1 rfl) ?_
            refine mg_get hx hb hts hin hown hK hN 6 (by decide) l1 rfl (v := .ref (ad 6)) rfl dX7_field_96 ?_
            refine lv_iload hx hb dX7_field_99 (lv_at hl 0 rfl) ?_
            obtain ⟨g10, h⟩ := gd_ok h
            refine mg_zld hx hb hK hN 6 rfl (if_pos (by decide)) (gin_ok g10) dX7_field_101 ?_
            refine lv_if_eq (tgt := 124) hx hb dX7_field_102 (by decide) (fun hc => ?_) (fun hc => ?_)
            · have h := ite_t h hc
              exact w124  M6 h _ _ _ hN hS (lv_sub hl [1] rfl)
            · have h := ite_f h hc
              refine lv_goto (tgt := 120) hx hb dX7_field_105 (by decide) ?_
              exact w120  M6 h _ _ _ hN hS (lv_sub hl [1] rfl)
        · have h := ite_t h hc
          refine lv_aload_n hx hb dX7_field_80 rfl (lv_at hl 1 rfl) ?_
          refine mg_get hx hb hts hin hown hK hN 5 (by decide) l0 rfl (v := .ref (ad 5)) rfl dX7_field_81 ?_
          refine lv_iload hx hb dX7_field_84 (lv_at hl 0 rfl) ?_
          obtain ⟨g11, h⟩ := gd_ok h
          refine mg_ild hx hb hK hN 5 rfl (if_neg (by decide)) (gin_ok g11) dX7_field_86 ?_
          refine lv_goto (tgt := 125) hx hb dX7_field_87 (by decide) ?_
          exact w125  (M6 5 (Int32.toNatClampNeg v8)) M6 h _ _ _ hN hS (lv_sub hl [1] rfl)
      · have h := ite_f h hc
        refine lv_iload_n hx hb dX7_field_48 rfl (lv_at hl 4 rfl) ?_
        refine lv_if_ne (tgt := 62) hx hb dX7_field_49 (by decide) (fun hc => ?_) (fun hc => ?_)
        · have h := ite_f h hc
          refine lv_aload_n hx hb dX7_field_62 rfl (lv_at hl 1 rfl) ?_
          refine mg_get hx hb hts hin hown hK hN 4 (by decide) l2 rfl (v := .ref (ad 4)) rfl dX7_field_63 ?_
          refine lv_iload hx hb dX7_field_66 (lv_at hl 0 rfl) ?_
          obtain ⟨g12, h⟩ := gd_ok h
          refine mg_ild hx hb hK hN 4 rfl (if_neg (by decide)) (gin_ok g12) dX7_field_68 ?_
          refine lv_aload_n hx hb dX7_field_69 rfl (lv_at hl 1 rfl) ?_
          refine mg_get hx hb hts hin hown hK hN 2 (by decide) l3 rfl (v := .int (M6 2 0)) rfl dX7_field_70 ?_
          refine lv_isub hx hb dX7_field_73 ?_
          exact w74  ((M6 4 (Int32.toNatClampNeg v8)) - (M6 2 0)) M6 h _ _ _ hN hS (lv_sub hl [1] rfl)
        · have h := ite_t h hc
          refine lv_aload_n hx hb dX7_field_52 rfl (lv_at hl 1 rfl) ?_
          refine mg_get hx hb hts hin hown hK hN 4 (by decide) l2 rfl (v := .ref (ad 4)) rfl dX7_field_53 ?_
          refine lv_iload hx hb dX7_field_56 (lv_at hl 0 rfl) ?_
          obtain ⟨g13, h⟩ := gd_ok h
          refine mg_ild hx hb hK hN 4 rfl (if_neg (by decide)) (gin_ok g13) dX7_field_58 ?_
          refine lv_goto (tgt := 74) hx hb dX7_field_59 (by decide) ?_
          exact w74  (M6 4 (Int32.toNatClampNeg v8)) M6 h _ _ _ hN hS (lv_sub hl [1] rfl)
    · have h := ite_t h hc
      refine lv_iconst (v := (0 : Int32)) hx hb dX7_field_34 (by decide) ?_
      exact W.iret hx hb hr (mg_endi h hI hK hN hS) hS.2.2 dX7_field_35
  unfold fX7_field at h
  refine lv_aload_n hx hb dX7_field_0 rfl (lv_at hl 0 rfl) ?_
  refine lv_aload_n hx hb dX7_field_1 rfl (lv_at hl 0 rfl) ?_
  refine lv_iload_n hx hb dX7_field_2 rfl (lv_at hl 1 rfl) ?_
  refine lv_iload_n hx hb dX7_field_3 rfl (lv_at hl 2 rfl) ?_
  obtain ⟨v1, c2, h⟩ := cl1_ok h
  refine mg_calli (va_runV (As := [.int a1, .int a2]) (rest := [.ref (ad 0)]) ⟨hx, hb, hml, hown, hts⟩ (mX7_isField l D ad cI cZ M a1 a2 v1 c2) (cwV 2 hts gX7_field_X7_isField rfl rfl rfl (by decide +kernel) ⟨Nat.le_of_ble_eq_true rfl, Nat.le_of_ble_eq_true rfl⟩) (mg_preV hI hK hN) rfl rfl hl.1 rfl (lv_room (Nat.le_of_ble_eq_true rfl)) dX7_field_4 ⟨Nat.zero_le _, Nat.zero_le _⟩) hS (fun H locs hN hS => ?_)
  refine lv_if_ne (tgt := 14) hx hb dX7_field_7 (by decide) (fun hc => ?_) (fun hc => ?_)
  · have h := ite_f h hc
    refine lv_iload_n hx hb dX7_field_14 rfl (lv_at hl 3 rfl) ?_
    refine lv_iconst (v := (0 : Int32)) hx hb dX7_field_15 (by decide) ?_
    refine lv_iconst (v := (4 : Int32)) hx hb dX7_field_16 (by decide) ?_
    obtain ⟨v3, c4, h⟩ := cl1_ok h
    refine mg_calli (va_runS (As := [.int a3, .int (0 : Int32), .int (4 : Int32)]) (rest := [.ref (ad 0)]) ⟨hx, hb, hml, hown, hts⟩ (mX7_isIn l D ad cI cZ M a3 (0 : Int32) (4 : Int32) v3 c4) (va_cwS 3 hts gX7_field_X7_isIn rfl rfl rfl (by decide +kernel) ⟨Nat.le_of_ble_eq_true rfl, Nat.le_of_ble_eq_true rfl⟩) (mg_preS hI hK hN) rfl rfl hl.1 rfl (lv_room (Nat.le_of_ble_eq_true rfl)) dX7_field_17 ⟨Nat.zero_le _, Nat.zero_le _⟩) hS (fun H locs hN hS => ?_)
    refine lv_if_eq (tgt := 27) hx hb dX7_field_20 (by decide) (fun hc => ?_) (fun hc => ?_)
    · have h := ite_t h hc
      refine lv_iconst (v := (2 : Int32)) hx hb dX7_field_27 (by decide) ?_
      exact w28  a1 a2 a3 (2 : Int32) M h _ _ _ hN hS (lv_sub hl [0, 1, 2, 3] rfl)
    · have h := ite_f h hc
      refine lv_iconst (v := (0 : Int32)) hx hb dX7_field_23 (by decide) ?_
      refine lv_goto (tgt := 28) hx hb dX7_field_24 (by decide) ?_
      exact w28  a1 a2 a3 (0 : Int32) M h _ _ _ hN hS (lv_sub hl [0, 1, 2, 3] rfl)
  · have h := ite_t h hc
    refine lv_iconst (v := (1 : Int32)) hx hb dX7_field_10 (by decide) ?_
    refine lv_goto (tgt := 28) hx hb dX7_field_11 (by decide) ?_
    exact w28  a1 a2 a3 (1 : Int32) M h _ _ _ hN hS (lv_sub hl [0, 1, 2, 3] rfl)
def fX7_isInTuneNow (a1 : Int32) (M : MT) : Option (Int32 × MT) := cl1 (fX7_takes a1 M) (fun M1 => cl1 (fX7_isTuned M1) (fun v3 => gd (gbo v3) (some (v3, M1))))
def rmX7_isInTuneNow : Room := { frames := 3, cells := 0, slots := 0, locals := 58 }
set_option maxHeartbeats 4000000 in
set_option maxRecDepth 100000 in
theorem mX7_isInTuneNow (l : Launch) (D : va_G) (ad : Nat → Nat) (cI cZ : ClassId) (M : MT) (a1 : Int32) (r : Int32) (Mz : MT) (h : fX7_isInTuneNow a1 M = some (r, Mz)) : Met l yX7_isInTuneNow wsX7_isInTuneNow rmX7_isInTuneNow (va_Pc [.ref (ad 0), .int a1] (mP D ad cI cZ M)) (mQi D ad cI cZ r Mz) 0 0 (mA ad) := by
  refine Met.ofW (cc := cX7_isInTuneNow) (maxL := 2) (ret := some .boolean) (by decide) rfl ?_
  intro p e s m args below meth c s₁ B hml hv
  obtain ⟨rfl, hI, hN, hK⟩ := hv
  have hx := B.exec
  have hb := B.bytes
  have hr := B.returns
  have hts := atoms_spec (ws := wsX7_isInTuneNow) B.pre
  have hown : s.vm.findClass RX7 = some m.cls := findClass_of_methodNamed B.named
  have hlocks := B.notSynchronized
  have hin : ∀ w ∈ wsX70, w ∈ wsX7_isInTuneNow := fun w h => List.mem_cons_of_mem _ (List.mem_append_right _ h)
  have hS : va_S (mA ad) s.heap s.heap [] := va_S.rf
  have hl := lv_entry ([.ref (ad 0), .int a1]) (n := 2) (Nat.le_of_ble_eq_true rfl)
  rw [lg_entry_eq]
  generalize (lg_sl ([.ref (ad 0), .int a1]) ++ List.replicate (2 - (lg_sl ([.ref (ad 0), .int a1])).length) Slot.unset).toArray = ls at hl ⊢
  have hl : lv_has ls 2 [(0, .ref (ad 0)), (1, .int a1)] := hl
  unfold fX7_isInTuneNow at h
  refine lv_aload_n hx hb dX7_isInTuneNow_0 rfl (lv_at hl 0 rfl) ?_
  refine lv_iload_n hx hb dX7_isInTuneNow_1 rfl (lv_at hl 1 rfl) ?_
  obtain ⟨M1, c2, h⟩ := cl1_ok h
  refine mg_callv (va_runV (As := [.int a1]) (rest := []) ⟨hx, hb, hml, hown, hts⟩ (mX7_takes l D ad cI cZ M a1 M1 c2) (cwV 1 hts gX7_isInTuneNow_X7_takes rfl rfl rfl (by decide +kernel) ⟨Nat.le_of_ble_eq_true rfl, Nat.le_of_ble_eq_true rfl⟩) (mg_preV hI hK hN) rfl rfl hl.1 rfl (lv_room (Nat.le_of_ble_eq_true rfl)) dX7_isInTuneNow_2 ⟨Nat.zero_le _, Nat.zero_le _⟩) hS (fun H locs hN hS => ?_)
  refine lv_aload_n hx hb dX7_isInTuneNow_5 rfl (lv_at hl 0 rfl) ?_
  obtain ⟨v3, c4, h⟩ := cl1_ok h
  refine mg_calli (va_runV (As := []) (rest := []) ⟨hx, hb, hml, hown, hts⟩ (mX7_isTuned l D ad cI cZ M1  v3 c4) (cwV 0 hts gX7_isInTuneNow_X7_isTuned rfl rfl rfl (by decide +kernel) ⟨Nat.le_of_ble_eq_true rfl, Nat.le_of_ble_eq_true rfl⟩) (mg_preV hI hK hN) rfl rfl hl.1 rfl (lv_room (Nat.le_of_ble_eq_true rfl)) dX7_isInTuneNow_6 ⟨Nat.zero_le _, Nat.zero_le _⟩) hS (fun H locs hN hS => ?_)
  obtain ⟨g5, h⟩ := gd_ok h
  exact W.zret hx hb hr (gbo_ok g5) (mg_endi h hI hK hN hS) hS.2.2 dX7_isInTuneNow_9
def fX7_isInTune_33 (t0 : Int32) (M : MT) : Option (Int32 × MT) := gd (gbo t0) (some (t0, M))
def fX7_isInTune_32 (M : MT) : Option (Int32 × MT) := fX7_isInTune_33 (0 : Int32) M
def fX7_isInTune_14 (x1 : Int32) (t0 : Int32) (M : MT) : Option (Int32 × MT) := cl2 (fX7_holds t0 M) (fun v3 M4 => (if v3 = 0 then fX7_isInTune_32 M4 else cl2 (fX7_isInTuneNow x1 M4) (fun v6 M7 => (if v6 = 0 then fX7_isInTune_32 M7 else fX7_isInTune_33 (1 : Int32) M7))))
def fX7_isInTune (a1 : Int32) (M : MT) : Option (Int32 × MT) := cl1 (fX7_isPan a1 M) (fun v1 => (if v1 = 0 then fX7_isInTune_14 a1 (1 : Int32) M else fX7_isInTune_14 a1 (0 : Int32) M))
def rmX7_isInTune : Room := { frames := 4, cells := 0, slots := 0, locals := 79 }
set_option maxHeartbeats 4000000 in
set_option maxRecDepth 100000 in
theorem mX7_isInTune (l : Launch) (D : va_G) (ad : Nat → Nat) (cI cZ : ClassId) (M : MT) (a1 : Int32) (r : Int32) (Mz : MT) (h : fX7_isInTune a1 M = some (r, Mz)) : Met l yX7_isInTune wsX7_isInTune rmX7_isInTune (va_Pc [.ref (ad 0), .int a1] (mP D ad cI cZ M)) (mQi D ad cI cZ r Mz) 0 0 (mA ad) := by
  refine Met.ofW (cc := cX7_isInTune) (maxL := 2) (ret := some .boolean) (by decide) rfl ?_
  intro p e s m args below meth c s₁ B hml hv
  obtain ⟨rfl, hI, hN, hK⟩ := hv
  have hx := B.exec
  have hb := B.bytes
  have hr := B.returns
  have hts := atoms_spec (ws := wsX7_isInTune) B.pre
  have hown : s.vm.findClass RX7 = some m.cls := findClass_of_methodNamed B.named
  have hlocks := B.notSynchronized
  have hin : ∀ w ∈ wsX70, w ∈ wsX7_isInTune := fun w h => List.mem_cons_of_mem _ (List.mem_append_right _ h)
  have hS : va_S (mA ad) s.heap s.heap [] := va_S.rf
  have hl := lv_entry ([.ref (ad 0), .int a1]) (n := 2) (Nat.le_of_ble_eq_true rfl)
  rw [lg_entry_eq]
  generalize (lg_sl ([.ref (ad 0), .int a1]) ++ List.replicate (2 - (lg_sl ([.ref (ad 0), .int a1])).length) Slot.unset).toArray = ls at hl ⊢
  have hl : lv_has ls 2 [(0, .ref (ad 0)), (1, .int a1)] := hl
  have w33 : ∀ (t0 : Int32) (M : MT), fX7_isInTune_33  t0 M = some (r, Mz) → mG p l e (headSpec wsX7_isInTune rmX7_isInTune).room s m (([.ref (ad 0), .int a1] : List Value).toArray) below meth c (MQ below (mQi D ad cI cZ r Mz) (([.ref (ad 0), .int a1] : List Value).toArray) s 0 0 (mA ad)) D ad cI cZ 2 M 33 [(0, .ref (ad 0))] [.int t0] := by
    intro  t0 M h H locs ls hN hS hl
    unfold fX7_isInTune_33 at h
    obtain ⟨g9, h⟩ := gd_ok h
    exact W.zret hx hb hr (gbo_ok g9) (mg_endi h hI hK hN hS) hS.2.2 dX7_isInTune_33
  have w32 : ∀ (M : MT), fX7_isInTune_32  M = some (r, Mz) → mG p l e (headSpec wsX7_isInTune rmX7_isInTune).room s m (([.ref (ad 0), .int a1] : List Value).toArray) below meth c (MQ below (mQi D ad cI cZ r Mz) (([.ref (ad 0), .int a1] : List Value).toArray) s 0 0 (mA ad)) D ad cI cZ 2 M 32 [(0, .ref (ad 0))] [] := by
    intro  M h H locs ls hN hS hl
    unfold fX7_isInTune_32 at h
    refine lv_iconst (v := (0 : Int32)) hx hb dX7_isInTune_32 (by decide) ?_
    exact w33  (0 : Int32) M h _ _ _ hN hS (lv_sub hl [0] rfl)
  have w14 : ∀ (x1 : Int32) (t0 : Int32) (M : MT), fX7_isInTune_14  x1 t0 M = some (r, Mz) → mG p l e (headSpec wsX7_isInTune rmX7_isInTune).room s m (([.ref (ad 0), .int a1] : List Value).toArray) below meth c (MQ below (mQi D ad cI cZ r Mz) (([.ref (ad 0), .int a1] : List Value).toArray) s 0 0 (mA ad)) D ad cI cZ 2 M 14 [(0, .ref (ad 0)), (1, .int x1)] [.int t0, .ref (ad 0)] := by
    intro  x1 t0 M h H locs ls hN hS hl
    unfold fX7_isInTune_14 at h
    obtain ⟨v3, M4, c5, h⟩ := cl2_ok h
    refine mg_calli (va_runV (As := [.int t0]) (rest := []) ⟨hx, hb, hml, hown, hts⟩ (mX7_holds l D ad cI cZ M t0 v3 M4 c5) (cwV 1 hts gX7_isInTune_X7_holds rfl rfl rfl (by decide +kernel) ⟨Nat.le_of_ble_eq_true rfl, Nat.le_of_ble_eq_true rfl⟩) (mg_preV hI hK hN) rfl rfl hl.1 rfl (lv_room (Nat.le_of_ble_eq_true rfl)) dX7_isInTune_14 ⟨Nat.zero_le _, Nat.zero_le _⟩) hS (fun H locs hN hS => ?_)
    refine lv_if_eq (tgt := 32) hx hb dX7_isInTune_17 (by decide) (fun hc => ?_) (fun hc => ?_)
    · have h := ite_t h hc
      exact w32  M4 h _ _ _ hN hS (lv_sub hl [0] rfl)
    · have h := ite_f h hc
      refine lv_aload_n hx hb dX7_isInTune_20 rfl (lv_at hl 0 rfl) ?_
      refine lv_iload_n hx hb dX7_isInTune_21 rfl (lv_at hl 1 rfl) ?_
      obtain ⟨v6, M7, c8, h⟩ := cl2_ok h
      refine mg_calli (va_runV (As := [.int x1]) (rest := []) ⟨hx, hb, hml, hown, hts⟩ (mX7_isInTuneNow l D ad cI cZ M4 x1 v6 M7 c8) (cwV 1 hts gX7_isInTune_X7_isInTuneNow rfl rfl rfl (by decide +kernel) ⟨Nat.le_of_ble_eq_true rfl, Nat.le_of_ble_eq_true rfl⟩) (mg_preV hI hK hN) rfl rfl hl.1 rfl (lv_room (Nat.le_of_ble_eq_true rfl)) dX7_isInTune_22 ⟨Nat.zero_le _, Nat.zero_le _⟩) hS (fun H locs hN hS => ?_)
      refine lv_if_eq (tgt := 32) hx hb dX7_isInTune_25 (by decide) (fun hc => ?_) (fun hc => ?_)
      · have h := ite_t h hc
        exact w32  M7 h _ _ _ hN hS (lv_sub hl [0] rfl)
      · have h := ite_f h hc
        refine lv_iconst (v := (1 : Int32)) hx hb dX7_isInTune_28 (by decide) ?_
        refine lv_goto (tgt := 33) hx hb dX7_isInTune_29 (by decide) ?_
        exact w33  (1 : Int32) M7 h _ _ _ hN hS (lv_sub hl [0] rfl)
  unfold fX7_isInTune at h
  refine lv_aload_n hx hb dX7_isInTune_0 rfl (lv_at hl 0 rfl) ?_
  refine lv_aload_n hx hb dX7_isInTune_1 rfl (lv_at hl 0 rfl) ?_
  refine lv_iload_n hx hb dX7_isInTune_2 rfl (lv_at hl 1 rfl) ?_
  obtain ⟨v1, c2, h⟩ := cl1_ok h
  refine mg_calli (va_runV (As := [.int a1]) (rest := [.ref (ad 0)]) ⟨hx, hb, hml, hown, hts⟩ (mX7_isPan l D ad cI cZ M a1 v1 c2) (cwV 1 hts gX7_isInTune_X7_isPan rfl rfl rfl (by decide +kernel) ⟨Nat.le_of_ble_eq_true rfl, Nat.le_of_ble_eq_true rfl⟩) (mg_preV hI hK hN) rfl rfl hl.1 rfl (lv_room (Nat.le_of_ble_eq_true rfl)) dX7_isInTune_3 ⟨Nat.zero_le _, Nat.zero_le _⟩) hS (fun H locs hN hS => ?_)
  refine lv_if_eq (tgt := 13) hx hb dX7_isInTune_6 (by decide) (fun hc => ?_) (fun hc => ?_)
  · have h := ite_t h hc
    refine lv_iconst (v := (1 : Int32)) hx hb dX7_isInTune_13 (by decide) ?_
    exact w14  a1 (1 : Int32) M h _ _ _ hN hS (lv_sub hl [0, 1] rfl)
  · have h := ite_f h hc
    refine lv_iconst (v := (0 : Int32)) hx hb dX7_isInTune_9 (by decide) ?_
    refine lv_goto (tgt := 14) hx hb dX7_isInTune_10 (by decide) ?_
    exact w14  a1 (0 : Int32) M h _ _ _ hN hS (lv_sub hl [0, 1] rfl)
def fX7_does_87 (k13 : Int32 → Int32 → Int32 → MT → Option (Int32 × MT)) (x2 : Int32) (x4 : Int32) (x5 : Int32) (M : MT) : Option (Int32 × MT) := bnd (x5 + (-1 : Int32)) (fun v13 => k13 x2 x4 v13 M)
def fX7_does_54 (k13 : Int32 → Int32 → Int32 → MT → Option (Int32 × MT)) (x2 : Int32) (x5 : Int32) (x6 : Int32) (x7 : Int32) (t0 : Int32) (M : MT) : Option (Int32 × MT) := cl1 (fX7_bears x7 t0 M) (fun v8 => (if v8 = 0 then fX7_does_87 k13 x2 v8 x5 M else cl1 (fX7_beats x7 ((irm (x6 / (2 : Int32)) (4 : Int32)) + (1 : Int32)) t0 M) (fun M10 => fX7_does_87 k13 x2 v8 x5 M10)))
def fX7_does_110 (t0 : Int32) (M : MT) : Option (Int32 × MT) := gd (gbo t0) (some (t0, M))
def fX7_does_109 (M : MT) : Option (Int32 × MT) := fX7_does_110 (0 : Int32) M
def fX7_does_93 (x4 : Int32) (M : MT) : Option (Int32 × MT) := (if x4 = 0 then fX7_does_109 M else cl1 (fX7_isTuned M) (fun v6 => (if v6 = 0 then fX7_does_109 M else fX7_does_110 (1 : Int32) M)))
def fX7_does_13 (k13 : Int32 → Int32 → Int32 → MT → Option (Int32 × MT)) (x2 : Int32) (x4 : Int32) (x5 : Int32) (M : MT) : Option (Int32 × MT) := (if x5 < 0 then fX7_does_93 x4 M else (if x4 = 0 then fX7_does_93 x4 M else bnd ((x2 >>> (((5 : Int32) * x5) &&& 31)) &&& (31 : Int32)) (fun v4 => bnd (v4 / (8 : Int32)) (fun v5 => (if (irm v4 (2 : Int32)) = (1 : Int32) then fX7_does_54 k13 x2 x5 v4 v5 (1 : Int32) M else fX7_does_54 k13 x2 x5 v4 v5 (0 : Int32) M)))))
def fX7_does (a1 : Int32) (a2 : Int32) (a3 : Int32) (M : MT) : Option (Int32 × MT) := cl1 (fX7_takes a1 M) (fun M1 => bnd (a3 - (1 : Int32)) (fun v3 => lf4 fX7_does_13 100 a2 (1 : Int32) v3 M1))
def rmX7_does : Room := { frames := 3, cells := 0, slots := 0, locals := 58 }
set_option maxHeartbeats 4000000 in
set_option maxRecDepth 100000 in
theorem mX7_does (l : Launch) (D : va_G) (ad : Nat → Nat) (cI cZ : ClassId) (M : MT) (a1 : Int32) (a2 : Int32) (a3 : Int32) (r : Int32) (Mz : MT) (h : fX7_does a1 a2 a3 M = some (r, Mz)) : Met l yX7_does wsX7_does rmX7_does (va_Pc [.ref (ad 0), .int a1, .int a2, .int a3] (mP D ad cI cZ M)) (mQi D ad cI cZ r Mz) 0 0 (mA ad) := by
  refine Met.ofW (cc := cX7_does) (maxL := 9) (ret := some .boolean) (by decide) rfl ?_
  intro p e s m args below meth c s₁ B hml hv
  obtain ⟨rfl, hI, hN, hK⟩ := hv
  have hx := B.exec
  have hb := B.bytes
  have hr := B.returns
  have hts := atoms_spec (ws := wsX7_does) B.pre
  have hown : s.vm.findClass RX7 = some m.cls := findClass_of_methodNamed B.named
  have hlocks := B.notSynchronized
  have hin : ∀ w ∈ wsX70, w ∈ wsX7_does := fun w h => List.mem_cons_of_mem _ (List.mem_append_right _ h)
  have hS : va_S (mA ad) s.heap s.heap [] := va_S.rf
  have hl := lv_entry ([.ref (ad 0), .int a1, .int a2, .int a3]) (n := 9) (Nat.le_of_ble_eq_true rfl)
  rw [lg_entry_eq]
  generalize (lg_sl ([.ref (ad 0), .int a1, .int a2, .int a3]) ++ List.replicate (9 - (lg_sl ([.ref (ad 0), .int a1, .int a2, .int a3])).length) Slot.unset).toArray = ls at hl ⊢
  have hl : lv_has ls 9 [(0, .ref (ad 0)), (1, .int a1), (2, .int a2), (3, .int a3)] := hl
  have w87 : ∀ (k13 : Int32 → Int32 → Int32 → MT → Option (Int32 × MT)) (hk13 : (∀ (x2 : Int32) (x4 : Int32) (x5 : Int32) (M : MT), k13 x2 x4 x5 M = some (r, Mz) → mG p l e (headSpec wsX7_does rmX7_does).room s m (([.ref (ad 0), .int a1, .int a2, .int a3] : List Value).toArray) below meth c (MQ below (mQi D ad cI cZ r Mz) (([.ref (ad 0), .int a1, .int a2, .int a3] : List Value).toArray) s 0 0 (mA ad)) D ad cI cZ 9 M 13 [(0, .ref (ad 0)), (2, .int x2), (4, .int x4), (5, .int x5)] [])) (x2 : Int32) (x4 : Int32) (x5 : Int32) (M : MT), fX7_does_87 k13 x2 x4 x5 M = some (r, Mz) → mG p l e (headSpec wsX7_does rmX7_does).room s m (([.ref (ad 0), .int a1, .int a2, .int a3] : List Value).toArray) below meth c (MQ below (mQi D ad cI cZ r Mz) (([.ref (ad 0), .int a1, .int a2, .int a3] : List Value).toArray) s 0 0 (mA ad)) D ad cI cZ 9 M 87 [(0, .ref (ad 0)), (2, .int x2), (4, .int x4), (5, .int x5)] [] := by
    intro k13 hk13 x2 x4 x5 M h H locs ls hN hS hl
    unfold fX7_does_87 at h
    obtain ⟨v13, ev13⟩ : ∃ y : Int32, y = (x5 + (-1 : Int32)) := ⟨_, rfl⟩
    have h := bnd_ok h ev13
    refine lv_iinc (v := v13) (lv' := [(5, .int v13), (0, .ref (ad 0)), (2, .int x2), (4, .int x4)]) hx hb dX7_does_87 hl (k := 3) rfl (by rw [ev13]; rfl) (by decide) rfl (fun ls hl => ?_)
    refine lv_goto (tgt := 13) hx hb dX7_does_90 (by decide) ?_
    exact hk13 x2 x4 v13 M h _ _ _ hN hS (lv_sub hl [1, 2, 3, 0] rfl)
  have w54 : ∀ (k13 : Int32 → Int32 → Int32 → MT → Option (Int32 × MT)) (hk13 : (∀ (x2 : Int32) (x4 : Int32) (x5 : Int32) (M : MT), k13 x2 x4 x5 M = some (r, Mz) → mG p l e (headSpec wsX7_does rmX7_does).room s m (([.ref (ad 0), .int a1, .int a2, .int a3] : List Value).toArray) below meth c (MQ below (mQi D ad cI cZ r Mz) (([.ref (ad 0), .int a1, .int a2, .int a3] : List Value).toArray) s 0 0 (mA ad)) D ad cI cZ 9 M 13 [(0, .ref (ad 0)), (2, .int x2), (4, .int x4), (5, .int x5)] [])) (x2 : Int32) (x5 : Int32) (x6 : Int32) (x7 : Int32) (t0 : Int32) (M : MT), fX7_does_54 k13 x2 x5 x6 x7 t0 M = some (r, Mz) → mG p l e (headSpec wsX7_does rmX7_does).room s m (([.ref (ad 0), .int a1, .int a2, .int a3] : List Value).toArray) below meth c (MQ below (mQi D ad cI cZ r Mz) (([.ref (ad 0), .int a1, .int a2, .int a3] : List Value).toArray) s 0 0 (mA ad)) D ad cI cZ 9 M 54 [(0, .ref (ad 0)), (2, .int x2), (5, .int x5), (6, .int x6), (7, .int x7)] [.int t0] := by
    intro k13 hk13 x2 x5 x6 x7 t0 M h H locs ls hN hS hl
    unfold fX7_does_54 at h
    refine lv_istore (lv' := [(8, .int t0), (0, .ref (ad 0)), (2, .int x2), (5, .int x5), (6, .int x6), (7, .int x7)]) hx hb dX7_does_54 hl (by decide) rfl (fun ls hl => ?_)
    refine lv_aload_n hx hb dX7_does_56 rfl (lv_at hl 1 rfl) ?_
    refine lv_iload hx hb dX7_does_57 (lv_at hl 5 rfl) ?_
    refine lv_iload hx hb dX7_does_59 (lv_at hl 0 rfl) ?_
    obtain ⟨v8, c9, h⟩ := cl1_ok h
    refine mg_calli (va_runV (As := [.int x7, .int t0]) (rest := []) ⟨hx, hb, hml, hown, hts⟩ (mX7_bears l D ad cI cZ M x7 t0 v8 c9) (cwV 2 hts gX7_does_X7_bears rfl rfl rfl (by decide +kernel) ⟨Nat.le_of_ble_eq_true rfl, Nat.le_of_ble_eq_true rfl⟩) (mg_preV hI hK hN) rfl rfl hl.1 rfl (lv_room (Nat.le_of_ble_eq_true rfl)) dX7_does_61 ⟨Nat.zero_le _, Nat.zero_le _⟩) hS (fun H locs hN hS => ?_)
    refine lv_istore (lv' := [(4, .int v8), (8, .int t0), (0, .ref (ad 0)), (2, .int x2), (5, .int x5), (6, .int x6), (7, .int x7)]) hx hb dX7_does_64 hl (by decide) rfl (fun ls hl => ?_)
    refine lv_iload hx hb dX7_does_66 (lv_at hl 0 rfl) ?_
    refine lv_if_eq (tgt := 87) hx hb dX7_does_68 (by decide) (fun hc => ?_) (fun hc => ?_)
    · have h := ite_t h hc
      exact w87 k13 hk13 x2 v8 x5 M h _ _ _ hN hS (lv_sub hl [2, 3, 0, 4] rfl)
    · have h := ite_f h hc
      refine lv_aload_n hx hb dX7_does_71 rfl (lv_at hl 2 rfl) ?_
      refine lv_iload hx hb dX7_does_72 (lv_at hl 6 rfl) ?_
      refine lv_iload hx hb dX7_does_74 (lv_at hl 5 rfl) ?_
      refine lv_iconst (v := (2 : Int32)) hx hb dX7_does_76 (by decide) ?_
      refine lv_idiv hx hb dX7_does_77 (by decide) ?_
      refine lv_iconst (v := (4 : Int32)) hx hb dX7_does_78 (by decide) ?_
      refine lv_irm hx hb dX7_does_79 (by decide) ?_
      refine lv_iconst (v := (1 : Int32)) hx hb dX7_does_80 (by decide) ?_
      refine lv_iadd hx hb dX7_does_81 ?_
      refine lv_iload hx hb dX7_does_82 (lv_at hl 1 rfl) ?_
      obtain ⟨M10, c11, h⟩ := cl1_ok h
      refine mg_callv (va_runV (As := [.int x7, .int ((irm (x6 / (2 : Int32)) (4 : Int32)) + (1 : Int32)), .int t0]) (rest := []) ⟨hx, hb, hml, hown, hts⟩ (mX7_beats l D ad cI cZ M x7 ((irm (x6 / (2 : Int32)) (4 : Int32)) + (1 : Int32)) t0 M10 c11) (cwV 3 hts gX7_does_X7_beats rfl rfl rfl (by decide +kernel) ⟨Nat.le_of_ble_eq_true rfl, Nat.le_of_ble_eq_true rfl⟩) (mg_preV hI hK hN) rfl rfl hl.1 rfl (lv_room (Nat.le_of_ble_eq_true rfl)) dX7_does_84 ⟨Nat.zero_le _, Nat.zero_le _⟩) hS (fun H locs hN hS => ?_)
      exact w87 k13 hk13 x2 v8 x5 M10 h _ _ _ hN hS (lv_sub hl [2, 3, 0, 4] rfl)
  have w110 : ∀ (t0 : Int32) (M : MT), fX7_does_110  t0 M = some (r, Mz) → mG p l e (headSpec wsX7_does rmX7_does).room s m (([.ref (ad 0), .int a1, .int a2, .int a3] : List Value).toArray) below meth c (MQ below (mQi D ad cI cZ r Mz) (([.ref (ad 0), .int a1, .int a2, .int a3] : List Value).toArray) s 0 0 (mA ad)) D ad cI cZ 9 M 110 [(0, .ref (ad 0))] [.int t0] := by
    intro  t0 M h H locs ls hN hS hl
    unfold fX7_does_110 at h
    obtain ⟨g12, h⟩ := gd_ok h
    exact W.zret hx hb hr (gbo_ok g12) (mg_endi h hI hK hN hS) hS.2.2 dX7_does_110
  have w109 : ∀ (M : MT), fX7_does_109  M = some (r, Mz) → mG p l e (headSpec wsX7_does rmX7_does).room s m (([.ref (ad 0), .int a1, .int a2, .int a3] : List Value).toArray) below meth c (MQ below (mQi D ad cI cZ r Mz) (([.ref (ad 0), .int a1, .int a2, .int a3] : List Value).toArray) s 0 0 (mA ad)) D ad cI cZ 9 M 109 [(0, .ref (ad 0))] [] := by
    intro  M h H locs ls hN hS hl
    unfold fX7_does_109 at h
    refine lv_iconst (v := (0 : Int32)) hx hb dX7_does_109 (by decide) ?_
    exact w110  (0 : Int32) M h _ _ _ hN hS (lv_sub hl [0] rfl)
  have w93 : ∀ (x4 : Int32) (M : MT), fX7_does_93  x4 M = some (r, Mz) → mG p l e (headSpec wsX7_does rmX7_does).room s m (([.ref (ad 0), .int a1, .int a2, .int a3] : List Value).toArray) below meth c (MQ below (mQi D ad cI cZ r Mz) (([.ref (ad 0), .int a1, .int a2, .int a3] : List Value).toArray) s 0 0 (mA ad)) D ad cI cZ 9 M 93 [(0, .ref (ad 0)), (4, .int x4)] [] := by
    intro  x4 M h H locs ls hN hS hl
    unfold fX7_does_93 at h
    refine lv_iload hx hb dX7_does_93 (lv_at hl 1 rfl) ?_
    refine lv_if_eq (tgt := 109) hx hb dX7_does_95 (by decide) (fun hc => ?_) (fun hc => ?_)
    · have h := ite_t h hc
      exact w109  M h _ _ _ hN hS (lv_sub hl [0] rfl)
    · have h := ite_f h hc
      refine lv_aload_n hx hb dX7_does_98 rfl (lv_at hl 0 rfl) ?_
      obtain ⟨v6, c7, h⟩ := cl1_ok h
      refine mg_calli (va_runV (As := []) (rest := []) ⟨hx, hb, hml, hown, hts⟩ (mX7_isTuned l D ad cI cZ M  v6 c7) (cwV 0 hts gX7_does_X7_isTuned rfl rfl rfl (by decide +kernel) ⟨Nat.le_of_ble_eq_true rfl, Nat.le_of_ble_eq_true rfl⟩) (mg_preV hI hK hN) rfl rfl hl.1 rfl (lv_room (Nat.le_of_ble_eq_true rfl)) dX7_does_99 ⟨Nat.zero_le _, Nat.zero_le _⟩) hS (fun H locs hN hS => ?_)
      refine lv_if_eq (tgt := 109) hx hb dX7_does_102 (by decide) (fun hc => ?_) (fun hc => ?_)
      · have h := ite_t h hc
        exact w109  M h _ _ _ hN hS (lv_sub hl [0] rfl)
      · have h := ite_f h hc
        refine lv_iconst (v := (1 : Int32)) hx hb dX7_does_105 (by decide) ?_
        refine lv_goto (tgt := 110) hx hb dX7_does_106 (by decide) ?_
        exact w110  (1 : Int32) M h _ _ _ hN hS (lv_sub hl [0] rfl)
  have w13 : ∀ (x2 : Int32) (x4 : Int32) (x5 : Int32) (M : MT), lf4 fX7_does_13 100 x2 x4 x5 M = some (r, Mz) → mG p l e (headSpec wsX7_does rmX7_does).room s m (([.ref (ad 0), .int a1, .int a2, .int a3] : List Value).toArray) below meth c (MQ below (mQi D ad cI cZ r Mz) (([.ref (ad 0), .int a1, .int a2, .int a3] : List Value).toArray) s 0 0 (mA ad)) D ad cI cZ 9 M 13 [(0, .ref (ad 0)), (2, .int x2), (4, .int x4), (5, .int x5)] [] := by
    skip
    refine lf4_ok (P := (fun x2 x4 x5 M => mG p l e (headSpec wsX7_does rmX7_does).room s m (([.ref (ad 0), .int a1, .int a2, .int a3] : List Value).toArray) below meth c (MQ below (mQi D ad cI cZ r Mz) (([.ref (ad 0), .int a1, .int a2, .int a3] : List Value).toArray) s 0 0 (mA ad)) D ad cI cZ 9 M 13 [(0, .ref (ad 0)), (2, .int x2), (4, .int x4), (5, .int x5)] [])) (fun k13 hk13 x2 x4 x5 M h H locs ls hN hS hl => ?_) 100
    unfold fX7_does_13 at h
    refine lv_iload hx hb dX7_does_13 (lv_at hl 3 rfl) ?_
    refine lv_if_lt (tgt := 93) hx hb dX7_does_15 (by decide) (fun hc => ?_) (fun hc => ?_)
    · have h := ite_t h hc
      exact w93  x4 M h _ _ _ hN hS (lv_sub hl [0, 2] rfl)
    · have h := ite_f h hc
      refine lv_iload hx hb dX7_does_18 (lv_at hl 2 rfl) ?_
      refine lv_if_eq (tgt := 93) hx hb dX7_does_20 (by decide) (fun hc => ?_) (fun hc => ?_)
      · have h := ite_t h hc
        exact w93  x4 M h _ _ _ hN hS (lv_sub hl [0, 2] rfl)
      · have h := ite_f h hc
        refine lv_iload_n hx hb dX7_does_23 rfl (lv_at hl 1 rfl) ?_
        refine lv_iconst (v := (5 : Int32)) hx hb dX7_does_24 (by decide) ?_
        refine lv_iload hx hb dX7_does_25 (lv_at hl 3 rfl) ?_
        refine lv_imul hx hb dX7_does_27 ?_
        refine lv_ishr hx hb dX7_does_28 ?_
        refine lv_bipush (v := (31 : Int32)) hx hb dX7_does_29 (by decide) ?_
        refine lv_iand hx hb dX7_does_31 ?_
        refine lv_topi (fun v4 ev4 => ?_)
        have h := bnd_ok h ev4
        refine lv_istore (lv' := [(6, .int v4), (0, .ref (ad 0)), (2, .int x2), (4, .int x4), (5, .int x5)]) hx hb dX7_does_32 hl (by decide) rfl (fun ls hl => ?_)
        refine lv_iload hx hb dX7_does_34 (lv_at hl 0 rfl) ?_
        refine lv_bipush (v := (8 : Int32)) hx hb dX7_does_36 (by decide) ?_
        refine lv_idiv hx hb dX7_does_38 (by decide) ?_
        refine lv_topi (fun v5 ev5 => ?_)
        have h := bnd_ok h ev5
        refine lv_istore (lv' := [(7, .int v5), (6, .int v4), (0, .ref (ad 0)), (2, .int x2), (4, .int x4), (5, .int x5)]) hx hb dX7_does_39 hl (by decide) rfl (fun ls hl => ?_)
        refine lv_iload hx hb dX7_does_41 (lv_at hl 1 rfl) ?_
        refine lv_iconst (v := (2 : Int32)) hx hb dX7_does_43 (by decide) ?_
        refine lv_irm hx hb dX7_does_44 (by decide) ?_
        refine lv_iconst (v := (1 : Int32)) hx hb dX7_does_45 (by decide) ?_
        refine lv_icmp_ne (tgt := 53) hx hb dX7_does_46 (by decide) (fun hc => ?_) (fun hc => ?_)
        · have h := ite_f h hc
          refine lv_iconst (v := (0 : Int32)) hx hb dX7_does_53 (by decide) ?_
          exact w54 k13 hk13 x2 x5 v4 v5 (0 : Int32) M h _ _ _ hN hS (lv_sub hl [2, 3, 5, 1, 0] rfl)
        · have h := ite_t h hc
          refine lv_iconst (v := (1 : Int32)) hx hb dX7_does_49 (by decide) ?_
          refine lv_goto (tgt := 54) hx hb dX7_does_50 (by decide) ?_
          exact w54 k13 hk13 x2 x5 v4 v5 (1 : Int32) M h _ _ _ hN hS (lv_sub hl [2, 3, 5, 1, 0] rfl)
  unfold fX7_does at h
  refine lv_aload_n hx hb dX7_does_0 rfl (lv_at hl 0 rfl) ?_
  refine lv_iload_n hx hb dX7_does_1 rfl (lv_at hl 1 rfl) ?_
  obtain ⟨M1, c2, h⟩ := cl1_ok h
  refine mg_callv (va_runV (As := [.int a1]) (rest := []) ⟨hx, hb, hml, hown, hts⟩ (mX7_takes l D ad cI cZ M a1 M1 c2) (cwV 1 hts gX7_does_X7_takes rfl rfl rfl (by decide +kernel) ⟨Nat.le_of_ble_eq_true rfl, Nat.le_of_ble_eq_true rfl⟩) (mg_preV hI hK hN) rfl rfl hl.1 rfl (lv_room (Nat.le_of_ble_eq_true rfl)) dX7_does_2 ⟨Nat.zero_le _, Nat.zero_le _⟩) hS (fun H locs hN hS => ?_)
  refine lv_iconst (v := (1 : Int32)) hx hb dX7_does_5 (by decide) ?_
  refine lv_istore (lv' := [(4, .int (1 : Int32)), (0, .ref (ad 0)), (1, .int a1), (2, .int a2), (3, .int a3)]) hx hb dX7_does_6 hl (by decide) rfl (fun ls hl => ?_)
  refine lv_iload_n hx hb dX7_does_8 rfl (lv_at hl 4 rfl) ?_
  refine lv_iconst (v := (1 : Int32)) hx hb dX7_does_9 (by decide) ?_
  refine lv_isub hx hb dX7_does_10 ?_
  refine lv_topi (fun v3 ev3 => ?_)
  have h := bnd_ok h ev3
  refine lv_istore (lv' := [(5, .int v3), (4, .int (1 : Int32)), (0, .ref (ad 0)), (1, .int a1), (2, .int a2), (3, .int a3)]) hx hb dX7_does_11 hl (by decide) rfl (fun ls hl => ?_)
  exact w13  a2 (1 : Int32) v3 M1 h _ _ _ hN hS (lv_sub hl [2, 4, 1, 0] rfl)
def fX7_plan_94 (t0 : Int32) (M : MT) : Option (Int32 × MT) := some (t0, M)
def fX7_plan_66 (x2 : Int32) (x3 : Int32) (x4 : Int32) (M : MT) : Option (Int32 × MT) := (if x2 = 0 then fX7_plan_94 x3 M else (if x2 ≤ x3 then fX7_plan_94 ((x4 >>> (((5 : Int32) * (x3 - x2)) &&& 31)) &&& (31 : Int32)) M else fX7_plan_94 (-1 : Int32) M))
def fX7_plan_101 (k37 : Int32 → Int32 → Int32 → MT → Option (Int32 × MT)) (x1 : Int32) (x2 : Int32) (x3 : Int32) (M : MT) : Option (Int32 × MT) := bnd (x3 + (1 : Int32)) (fun v12 => k37 x1 x2 v12 M)
def fX7_plan_45 (k37 : Int32 → Int32 → Int32 → MT → Option (Int32 × MT)) (k45 : Int32 → Int32 → Int32 → Int32 → MT → Option (Int32 × MT)) (x1 : Int32) (x2 : Int32) (x3 : Int32) (x4 : Int32) (M : MT) : Option (Int32 × MT) := (if ((1 : Int32) <<< (((5 : Int32) * x3) &&& 31)) ≤ x4 then fX7_plan_101 k37 x1 x2 x3 M else cl2 (fX7_does x1 x4 x3 M) (fun v8 M9 => (if v8 = 0 then bnd (x4 + (1 : Int32)) (fun v11 => k45 x1 x2 x3 v11 M9) else fX7_plan_66 x2 x3 x4 M9)))
def fX7_plan_107 (M : MT) : Option (Int32 × MT) := some ((-1 : Int32), M)
def fX7_plan_37 (k37 : Int32 → Int32 → Int32 → MT → Option (Int32 × MT)) (x1 : Int32) (x2 : Int32) (x3 : Int32) (M : MT) : Option (Int32 × MT) := (if (4 : Int32) ≤ x3 then fX7_plan_107 M else lf5 (fX7_plan_45 k37) 40000 x1 x2 x3 (0 : Int32) M)
def fX7_plan_27 (x1 : Int32) (x2 : Int32) (t0 : Int32) (M : MT) : Option (Int32 × MT) := cl2 (fX7_holds t0 M) (fun v5 M6 => (if v5 = 0 then some ((0 : Int32), M6) else lf4 fX7_plan_37 40000 x1 x2 (0 : Int32) M6))
def fX7_plan (a1 : Int32) (a2 : Int32) (M : MT) : Option (Int32 × MT) := cl1 (fX7_isPan a1 M) (fun v1 => (if v1 = 0 then fX7_plan_27 a1 a2 (1 : Int32) M else cl1 (fX7_isIn a2 (0 : Int32) (3 : Int32)) (fun v3 => (if v3 = 0 then fX7_plan_27 a1 a2 (2 : Int32) M else fX7_plan_27 a1 a2 (0 : Int32) M))))
def rmX7_plan : Room := { frames := 4, cells := 0, slots := 0, locals := 86 }
set_option maxHeartbeats 4000000 in
set_option maxRecDepth 100000 in
theorem mX7_plan (l : Launch) (D : va_G) (ad : Nat → Nat) (cI cZ : ClassId) (M : MT) (a1 : Int32) (a2 : Int32) (r : Int32) (Mz : MT) (h : fX7_plan a1 a2 M = some (r, Mz)) : Met l yX7_plan wsX7_plan rmX7_plan (va_Pc [.ref (ad 0), .int a1, .int a2] (mP D ad cI cZ M)) (mQi D ad cI cZ r Mz) 0 0 (mA ad) := by
  refine Met.ofW (cc := cX7_plan) (maxL := 5) (ret := some .int) (by decide) rfl ?_
  intro p e s m args below meth c s₁ B hml hv
  obtain ⟨rfl, hI, hN, hK⟩ := hv
  have hx := B.exec
  have hb := B.bytes
  have hr := B.returns
  have hts := atoms_spec (ws := wsX7_plan) B.pre
  have hown : s.vm.findClass RX7 = some m.cls := findClass_of_methodNamed B.named
  have hlocks := B.notSynchronized
  have hin : ∀ w ∈ wsX70, w ∈ wsX7_plan := fun w h => List.mem_cons_of_mem _ (List.mem_append_right _ h)
  have hS : va_S (mA ad) s.heap s.heap [] := va_S.rf
  have hl := lv_entry ([.ref (ad 0), .int a1, .int a2]) (n := 5) (Nat.le_of_ble_eq_true rfl)
  rw [lg_entry_eq]
  generalize (lg_sl ([.ref (ad 0), .int a1, .int a2]) ++ List.replicate (5 - (lg_sl ([.ref (ad 0), .int a1, .int a2])).length) Slot.unset).toArray = ls at hl ⊢
  have hl : lv_has ls 5 [(0, .ref (ad 0)), (1, .int a1), (2, .int a2)] := hl
  have w94 : ∀ (t0 : Int32) (M : MT), fX7_plan_94  t0 M = some (r, Mz) → mG p l e (headSpec wsX7_plan rmX7_plan).room s m (([.ref (ad 0), .int a1, .int a2] : List Value).toArray) below meth c (MQ below (mQi D ad cI cZ r Mz) (([.ref (ad 0), .int a1, .int a2] : List Value).toArray) s 0 0 (mA ad)) D ad cI cZ 5 M 94 [(0, .ref (ad 0))] [.int t0] := by
    intro  t0 M h H locs ls hN hS hl
    unfold fX7_plan_94 at h
    exact W.iret hx hb hr (mg_endi h hI hK hN hS) hS.2.2 dX7_plan_94
  have w66 : ∀ (x2 : Int32) (x3 : Int32) (x4 : Int32) (M : MT), fX7_plan_66  x2 x3 x4 M = some (r, Mz) → mG p l e (headSpec wsX7_plan rmX7_plan).room s m (([.ref (ad 0), .int a1, .int a2] : List Value).toArray) below meth c (MQ below (mQi D ad cI cZ r Mz) (([.ref (ad 0), .int a1, .int a2] : List Value).toArray) s 0 0 (mA ad)) D ad cI cZ 5 M 66 [(0, .ref (ad 0)), (2, .int x2), (3, .int x3), (4, .int x4)] [] := by
    intro  x2 x3 x4 M h H locs ls hN hS hl
    unfold fX7_plan_66 at h
    refine lv_iload_n hx hb dX7_plan_66 rfl (lv_at hl 1 rfl) ?_
    refine lv_if_ne (tgt := 74) hx hb dX7_plan_67 (by decide) (fun hc => ?_) (fun hc => ?_)
    · have h := ite_f h hc
      refine lv_iload_n hx hb dX7_plan_74 rfl (lv_at hl 1 rfl) ?_
      refine lv_iload_n hx hb dX7_plan_75 rfl (lv_at hl 2 rfl) ?_
      refine lv_icmp_le (tgt := 83) hx hb dX7_plan_76 (by decide) (fun hc => ?_) (fun hc => ?_)
      · have h := ite_t h hc
        refine lv_iload hx hb dX7_plan_83 (lv_at hl 3 rfl) ?_
        refine lv_iconst (v := (5 : Int32)) hx hb dX7_plan_85 (by decide) ?_
        refine lv_iload_n hx hb dX7_plan_86 rfl (lv_at hl 2 rfl) ?_
        refine lv_iload_n hx hb dX7_plan_87 rfl (lv_at hl 1 rfl) ?_
        refine lv_isub hx hb dX7_plan_88 ?_
        refine lv_imul hx hb dX7_plan_89 ?_
        refine lv_ishr hx hb dX7_plan_90 ?_
        refine lv_bipush (v := (31 : Int32)) hx hb dX7_plan_91 (by decide) ?_
        refine lv_iand hx hb dX7_plan_93 ?_
        exact w94  ((x4 >>> (((5 : Int32) * (x3 - x2)) &&& 31)) &&& (31 : Int32)) M h _ _ _ hN hS (lv_sub hl [0] rfl)
      · have h := ite_f h hc
        refine lv_iconst (v := (-1 : Int32)) hx hb dX7_plan_79 (by decide) ?_
        refine lv_goto (tgt := 94) hx hb dX7_plan_80 (by decide) ?_
        exact w94  (-1 : Int32) M h _ _ _ hN hS (lv_sub hl [0] rfl)
    · have h := ite_t h hc
      refine lv_iload_n hx hb dX7_plan_70 rfl (lv_at hl 2 rfl) ?_
      refine lv_goto (tgt := 94) hx hb dX7_plan_71 (by decide) ?_
      exact w94  x3 M h _ _ _ hN hS (lv_sub hl [0] rfl)
  have w101 : ∀ (k37 : Int32 → Int32 → Int32 → MT → Option (Int32 × MT)) (hk37 : (∀ (x1 : Int32) (x2 : Int32) (x3 : Int32) (M : MT), k37 x1 x2 x3 M = some (r, Mz) → mG p l e (headSpec wsX7_plan rmX7_plan).room s m (([.ref (ad 0), .int a1, .int a2] : List Value).toArray) below meth c (MQ below (mQi D ad cI cZ r Mz) (([.ref (ad 0), .int a1, .int a2] : List Value).toArray) s 0 0 (mA ad)) D ad cI cZ 5 M 37 [(0, .ref (ad 0)), (1, .int x1), (2, .int x2), (3, .int x3)] [])) (x1 : Int32) (x2 : Int32) (x3 : Int32) (M : MT), fX7_plan_101 k37 x1 x2 x3 M = some (r, Mz) → mG p l e (headSpec wsX7_plan rmX7_plan).room s m (([.ref (ad 0), .int a1, .int a2] : List Value).toArray) below meth c (MQ below (mQi D ad cI cZ r Mz) (([.ref (ad 0), .int a1, .int a2] : List Value).toArray) s 0 0 (mA ad)) D ad cI cZ 5 M 101 [(0, .ref (ad 0)), (1, .int x1), (2, .int x2), (3, .int x3)] [] := by
    intro k37 hk37 x1 x2 x3 M h H locs ls hN hS hl
    unfold fX7_plan_101 at h
    obtain ⟨v12, ev12⟩ : ∃ y : Int32, y = (x3 + (1 : Int32)) := ⟨_, rfl⟩
    have h := bnd_ok h ev12
    refine lv_iinc (v := v12) (lv' := [(3, .int v12), (0, .ref (ad 0)), (1, .int x1), (2, .int x2)]) hx hb dX7_plan_101 hl (k := 3) rfl (by rw [ev12]; rfl) (by decide) rfl (fun ls hl => ?_)
    refine lv_goto (tgt := 37) hx hb dX7_plan_104 (by decide) ?_
    exact hk37 x1 x2 v12 M h _ _ _ hN hS (lv_sub hl [1, 2, 3, 0] rfl)
  have w45 : ∀ (k37 : Int32 → Int32 → Int32 → MT → Option (Int32 × MT)) (hk37 : (∀ (x1 : Int32) (x2 : Int32) (x3 : Int32) (M : MT), k37 x1 x2 x3 M = some (r, Mz) → mG p l e (headSpec wsX7_plan rmX7_plan).room s m (([.ref (ad 0), .int a1, .int a2] : List Value).toArray) below meth c (MQ below (mQi D ad cI cZ r Mz) (([.ref (ad 0), .int a1, .int a2] : List Value).toArray) s 0 0 (mA ad)) D ad cI cZ 5 M 37 [(0, .ref (ad 0)), (1, .int x1), (2, .int x2), (3, .int x3)] [])) (x1 : Int32) (x2 : Int32) (x3 : Int32) (x4 : Int32) (M : MT), lf5 (fX7_plan_45 k37) 40000 x1 x2 x3 x4 M = some (r, Mz) → mG p l e (headSpec wsX7_plan rmX7_plan).room s m (([.ref (ad 0), .int a1, .int a2] : List Value).toArray) below meth c (MQ below (mQi D ad cI cZ r Mz) (([.ref (ad 0), .int a1, .int a2] : List Value).toArray) s 0 0 (mA ad)) D ad cI cZ 5 M 45 [(0, .ref (ad 0)), (1, .int x1), (2, .int x2), (3, .int x3), (4, .int x4)] [] := by
    intro k37 hk37
    refine lf5_ok (P := (fun x1 x2 x3 x4 M => mG p l e (headSpec wsX7_plan rmX7_plan).room s m (([.ref (ad 0), .int a1, .int a2] : List Value).toArray) below meth c (MQ below (mQi D ad cI cZ r Mz) (([.ref (ad 0), .int a1, .int a2] : List Value).toArray) s 0 0 (mA ad)) D ad cI cZ 5 M 45 [(0, .ref (ad 0)), (1, .int x1), (2, .int x2), (3, .int x3), (4, .int x4)] [])) (fun k45 hk45 x1 x2 x3 x4 M h H locs ls hN hS hl => ?_) 40000
    unfold fX7_plan_45 at h
    refine lv_iload hx hb dX7_plan_45 (lv_at hl 4 rfl) ?_
    refine lv_iconst (v := (1 : Int32)) hx hb dX7_plan_47 (by decide) ?_
    refine lv_iconst (v := (5 : Int32)) hx hb dX7_plan_48 (by decide) ?_
    refine lv_iload_n hx hb dX7_plan_49 rfl (lv_at hl 3 rfl) ?_
    refine lv_imul hx hb dX7_plan_50 ?_
    refine lv_ishl hx hb dX7_plan_51 ?_
    refine lv_icmp_ge (tgt := 101) hx hb dX7_plan_52 (by decide) (fun hc => ?_) (fun hc => ?_)
    · have h := ite_t h hc
      exact w101 k37 hk37 x1 x2 x3 M h _ _ _ hN hS (lv_sub hl [0, 1, 2, 3] rfl)
    · have h := ite_f h hc
      refine lv_aload_n hx hb dX7_plan_55 rfl (lv_at hl 0 rfl) ?_
      refine lv_iload_n hx hb dX7_plan_56 rfl (lv_at hl 1 rfl) ?_
      refine lv_iload hx hb dX7_plan_57 (lv_at hl 4 rfl) ?_
      refine lv_iload_n hx hb dX7_plan_59 rfl (lv_at hl 3 rfl) ?_
      obtain ⟨v8, M9, c10, h⟩ := cl2_ok h
      refine mg_calli (va_runV (As := [.int x1, .int x4, .int x3]) (rest := []) ⟨hx, hb, hml, hown, hts⟩ (mX7_does l D ad cI cZ M x1 x4 x3 v8 M9 c10) (cwV 3 hts gX7_plan_X7_does rfl rfl rfl (by decide +kernel) ⟨Nat.le_of_ble_eq_true rfl, Nat.le_of_ble_eq_true rfl⟩) (mg_preV hI hK hN) rfl rfl hl.1 rfl (lv_room (Nat.le_of_ble_eq_true rfl)) dX7_plan_60 ⟨Nat.zero_le _, Nat.zero_le _⟩) hS (fun H locs hN hS => ?_)
      refine lv_if_eq (tgt := 95) hx hb dX7_plan_63 (by decide) (fun hc => ?_) (fun hc => ?_)
      · have h := ite_t h hc
        obtain ⟨v11, ev11⟩ : ∃ y : Int32, y = (x4 + (1 : Int32)) := ⟨_, rfl⟩
        have h := bnd_ok h ev11
        refine lv_iinc (v := v11) (lv' := [(4, .int v11), (0, .ref (ad 0)), (1, .int x1), (2, .int x2), (3, .int x3)]) hx hb dX7_plan_95 hl (k := 4) rfl (by rw [ev11]; rfl) (by decide) rfl (fun ls hl => ?_)
        refine lv_goto (tgt := 45) hx hb dX7_plan_98 (by decide) ?_
        exact hk45 x1 x2 x3 v11 M9 h _ _ _ hN hS (lv_sub hl [1, 2, 3, 4, 0] rfl)
      · have h := ite_f h hc
        exact w66  x2 x3 x4 M9 h _ _ _ hN hS (lv_sub hl [0, 2, 3, 4] rfl)
  have w107 : ∀ (M : MT), fX7_plan_107  M = some (r, Mz) → mG p l e (headSpec wsX7_plan rmX7_plan).room s m (([.ref (ad 0), .int a1, .int a2] : List Value).toArray) below meth c (MQ below (mQi D ad cI cZ r Mz) (([.ref (ad 0), .int a1, .int a2] : List Value).toArray) s 0 0 (mA ad)) D ad cI cZ 5 M 107 [(0, .ref (ad 0))] [] := by
    intro  M h H locs ls hN hS hl
    unfold fX7_plan_107 at h
    refine lv_iconst (v := (-1 : Int32)) hx hb dX7_plan_107 (by decide) ?_
    exact W.iret hx hb hr (mg_endi h hI hK hN hS) hS.2.2 dX7_plan_108
  have w37 : ∀ (x1 : Int32) (x2 : Int32) (x3 : Int32) (M : MT), lf4 fX7_plan_37 40000 x1 x2 x3 M = some (r, Mz) → mG p l e (headSpec wsX7_plan rmX7_plan).room s m (([.ref (ad 0), .int a1, .int a2] : List Value).toArray) below meth c (MQ below (mQi D ad cI cZ r Mz) (([.ref (ad 0), .int a1, .int a2] : List Value).toArray) s 0 0 (mA ad)) D ad cI cZ 5 M 37 [(0, .ref (ad 0)), (1, .int x1), (2, .int x2), (3, .int x3)] [] := by
    skip
    refine lf4_ok (P := (fun x1 x2 x3 M => mG p l e (headSpec wsX7_plan rmX7_plan).room s m (([.ref (ad 0), .int a1, .int a2] : List Value).toArray) below meth c (MQ below (mQi D ad cI cZ r Mz) (([.ref (ad 0), .int a1, .int a2] : List Value).toArray) s 0 0 (mA ad)) D ad cI cZ 5 M 37 [(0, .ref (ad 0)), (1, .int x1), (2, .int x2), (3, .int x3)] [])) (fun k37 hk37 x1 x2 x3 M h H locs ls hN hS hl => ?_) 40000
    unfold fX7_plan_37 at h
    refine lv_iload_n hx hb dX7_plan_37 rfl (lv_at hl 3 rfl) ?_
    refine lv_iconst (v := (4 : Int32)) hx hb dX7_plan_38 (by decide) ?_
    refine lv_icmp_ge (tgt := 107) hx hb dX7_plan_39 (by decide) (fun hc => ?_) (fun hc => ?_)
    · have h := ite_t h hc
      exact w107  M h _ _ _ hN hS (lv_sub hl [0] rfl)
    · have h := ite_f h hc
      refine lv_iconst (v := (0 : Int32)) hx hb dX7_plan_42 (by decide) ?_
      refine lv_istore (lv' := [(4, .int (0 : Int32)), (0, .ref (ad 0)), (1, .int x1), (2, .int x2), (3, .int x3)]) hx hb dX7_plan_43 hl (by decide) rfl (fun ls hl => ?_)
      exact w45 k37 hk37 x1 x2 x3 (0 : Int32) M h _ _ _ hN hS (lv_sub hl [1, 2, 3, 4, 0] rfl)
  have w27 : ∀ (x1 : Int32) (x2 : Int32) (t0 : Int32) (M : MT), fX7_plan_27  x1 x2 t0 M = some (r, Mz) → mG p l e (headSpec wsX7_plan rmX7_plan).room s m (([.ref (ad 0), .int a1, .int a2] : List Value).toArray) below meth c (MQ below (mQi D ad cI cZ r Mz) (([.ref (ad 0), .int a1, .int a2] : List Value).toArray) s 0 0 (mA ad)) D ad cI cZ 5 M 27 [(0, .ref (ad 0)), (1, .int x1), (2, .int x2)] [.int t0, .ref (ad 0)] := by
    intro  x1 x2 t0 M h H locs ls hN hS hl
    unfold fX7_plan_27 at h
    obtain ⟨v5, M6, c7, h⟩ := cl2_ok h
    refine mg_calli (va_runV (As := [.int t0]) (rest := []) ⟨hx, hb, hml, hown, hts⟩ (mX7_holds l D ad cI cZ M t0 v5 M6 c7) (cwV 1 hts gX7_plan_X7_holds rfl rfl rfl (by decide +kernel) ⟨Nat.le_of_ble_eq_true rfl, Nat.le_of_ble_eq_true rfl⟩) (mg_preV hI hK hN) rfl rfl hl.1 rfl (lv_room (Nat.le_of_ble_eq_true rfl)) dX7_plan_27 ⟨Nat.zero_le _, Nat.zero_le _⟩) hS (fun H locs hN hS => ?_)
    refine lv_if_ne (tgt := 35) hx hb dX7_plan_30 (by decide) (fun hc => ?_) (fun hc => ?_)
    · have h := ite_f h hc
      refine lv_iconst (v := (0 : Int32)) hx hb dX7_plan_35 (by decide) ?_
      refine lv_istore_n (lv' := [(3, .int (0 : Int32)), (0, .ref (ad 0)), (1, .int x1), (2, .int x2)]) hx hb dX7_plan_36 rfl hl (by decide) rfl (fun ls hl => ?_)
      exact w37  x1 x2 (0 : Int32) M6 h _ _ _ hN hS (lv_sub hl [1, 2, 3, 0] rfl)
    · have h := ite_t h hc
      refine lv_iconst (v := (0 : Int32)) hx hb dX7_plan_33 (by decide) ?_
      exact W.iret hx hb hr (mg_endi h hI hK hN hS) hS.2.2 dX7_plan_34
  unfold fX7_plan at h
  refine lv_aload_n hx hb dX7_plan_0 rfl (lv_at hl 0 rfl) ?_
  refine lv_aload_n hx hb dX7_plan_1 rfl (lv_at hl 0 rfl) ?_
  refine lv_iload_n hx hb dX7_plan_2 rfl (lv_at hl 1 rfl) ?_
  obtain ⟨v1, c2, h⟩ := cl1_ok h
  refine mg_calli (va_runV (As := [.int a1]) (rest := [.ref (ad 0)]) ⟨hx, hb, hml, hown, hts⟩ (mX7_isPan l D ad cI cZ M a1 v1 c2) (cwV 1 hts gX7_plan_X7_isPan rfl rfl rfl (by decide +kernel) ⟨Nat.le_of_ble_eq_true rfl, Nat.le_of_ble_eq_true rfl⟩) (mg_preV hI hK hN) rfl rfl hl.1 rfl (lv_room (Nat.le_of_ble_eq_true rfl)) dX7_plan_3 ⟨Nat.zero_le _, Nat.zero_le _⟩) hS (fun H locs hN hS => ?_)
  refine lv_if_ne (tgt := 13) hx hb dX7_plan_6 (by decide) (fun hc => ?_) (fun hc => ?_)
  · have h := ite_f h hc
    refine lv_iload_n hx hb dX7_plan_13 rfl (lv_at hl 2 rfl) ?_
    refine lv_iconst (v := (0 : Int32)) hx hb dX7_plan_14 (by decide) ?_
    refine lv_iconst (v := (3 : Int32)) hx hb dX7_plan_15 (by decide) ?_
    obtain ⟨v3, c4, h⟩ := cl1_ok h
    refine mg_calli (va_runS (As := [.int a2, .int (0 : Int32), .int (3 : Int32)]) (rest := [.ref (ad 0)]) ⟨hx, hb, hml, hown, hts⟩ (mX7_isIn l D ad cI cZ M a2 (0 : Int32) (3 : Int32) v3 c4) (va_cwS 3 hts gX7_plan_X7_isIn rfl rfl rfl (by decide +kernel) ⟨Nat.le_of_ble_eq_true rfl, Nat.le_of_ble_eq_true rfl⟩) (mg_preS hI hK hN) rfl rfl hl.1 rfl (lv_room (Nat.le_of_ble_eq_true rfl)) dX7_plan_16 ⟨Nat.zero_le _, Nat.zero_le _⟩) hS (fun H locs hN hS => ?_)
    refine lv_if_eq (tgt := 26) hx hb dX7_plan_19 (by decide) (fun hc => ?_) (fun hc => ?_)
    · have h := ite_t h hc
      refine lv_iconst (v := (2 : Int32)) hx hb dX7_plan_26 (by decide) ?_
      exact w27  a1 a2 (2 : Int32) M h _ _ _ hN hS (lv_sub hl [0, 1, 2] rfl)
    · have h := ite_f h hc
      refine lv_iconst (v := (0 : Int32)) hx hb dX7_plan_22 (by decide) ?_
      refine lv_goto (tgt := 27) hx hb dX7_plan_23 (by decide) ?_
      exact w27  a1 a2 (0 : Int32) M h _ _ _ hN hS (lv_sub hl [0, 1, 2] rfl)
  · have h := ite_t h hc
    refine lv_iconst (v := (1 : Int32)) hx hb dX7_plan_9 (by decide) ?_
    refine lv_goto (tgt := 27) hx hb dX7_plan_10 (by decide) ?_
    exact w27  a1 a2 (1 : Int32) M h _ _ _ hN hS (lv_sub hl [0, 1, 2] rfl)
