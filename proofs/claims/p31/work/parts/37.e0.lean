noncomputable def fX6_pan_50 (x1 : Int32) (x2 : Int32) (x3 : Int32) (x4 : Int32) (t0 : Int32) (Z : CZ) : Option ((Int32 ⊕ Int32) × CZ) := cx1 (fX6_requireState t0 Z) (fun x16 => some (.inr x16, Z)) (fun _ => gp (cRL Z) (bnd (Z.2.2 0) (fun i9 => gp (i9 < 6) (cl1 (fJx4a65c_size_8abf5 0 Z) (fun v9 => bnd (zPan Z i9 v9) (fun Z91 => gd (cLv Z91.2.2 5 i9) (gd (gin (0 : Int32) 4) (bnd (cuI Z91 6 i9 (upd (Z91.1 6 i9) (Int32.toNatClampNeg (0 : Int32)) x1)) (fun Z20 => gd (gin (1 : Int32) 4) (bnd (cuI Z20 6 i9 (upd (Z20.1 6 i9) (Int32.toNatClampNeg (1 : Int32)) x2)) (fun Z22 => gd (gin (2 : Int32) 4) (bnd (cuI Z22 6 i9 (upd (Z22.1 6 i9) (Int32.toNatClampNeg (2 : Int32)) x3)) (fun Z24 => gd (gin (3 : Int32) 4) (bnd (cuI Z24 6 i9 (upd (Z24.1 6 i9) (Int32.toNatClampNeg (3 : Int32)) x4)) (fun Z26 => gp (okAdd Z26 0 i9) (bnd (zAdd Z26 0 i9) (fun Z92 => gd (cLv Z92.2.2 5 i9) (some (.inl (Z92.1 5 i9 0), Z92)))))))))))))))))))
noncomputable def fX6_pan (a1 : Int32) (a2 : Int32) (a3 : Int32) (a4 : Int32) (Z : CZ) : Option ((Int32 ⊕ Int32) × CZ) := cx1 (fX6_requireRange a1 (-60 : Int32) (60 : Int32) Z) (fun x2 => some (.inr x2, Z)) (fun _ => cx1 (fX6_requireRange a2 (-60 : Int32) (60 : Int32) Z) (fun x5 => some (.inr x5, Z)) (fun _ => cx1 (fX6_requireRange a3 (-60 : Int32) (60 : Int32) Z) (fun x8 => some (.inr x8, Z)) (fun _ => cx1 (fX6_requireRange a4 (-60 : Int32) (60 : Int32) Z) (fun x11 => some (.inr x11, Z)) (fun _ => cl1 (fJx4a65c_size_8abf5 0 Z) (fun v13 => (if (6 : Int32) ≤ v13 then fX6_pan_50 a1 a2 a3 a4 (0 : Int32) Z else fX6_pan_50 a1 a2 a3 a4 (1 : Int32) Z))))))
def rmX6_pan : Room := { frames := 8, cells := 16, slots := 96, locals := 281 }
set_option maxHeartbeats 4000000 in
set_option maxRecDepth 100000 in
theorem mX6_pan (l : Launch) (hfl : l.stackTraces = false) (D : va_G) (G : CGT) (A : Nat → Prop) (ad : Nat → Nat → Nat) (Z : CZ) (a1 : Int32) (a2 : Int32) (a3 : Int32) (a4 : Int32) (rz : (Int32 ⊕ Int32)) (Zz : CZ) (h : fX6_pan a1 a2 a3 a4 Z = some (rz, Zz)) : vx_Met l yX6_pan wsX6_pan rmX6_pan (va_Pc [.ref (ad 0 0), .int a1, .int a2, .int a3, .int a4] (aP D G A ad Z)) (aQi D G A ad rz Zz) (xX D G A ad rz Zz) 16 96 A := by
  refine vx_ofW (cc := cX6_pan) (maxL := 6) (ret := some .int) (by decide) rfl ?_
  intro p e s m args below meth c s₁ B hml hexc hv
  obtain ⟨rfl, ⟨⟨hI, hN, hK⟩, hE⟩, hF, hA⟩ := hv
  have hx := B.exec
  have hb := B.bytes
  have hr := B.returns
  have hts := atoms_spec (ws := wsX6_pan) B.pre
  have hown : s.vm.findClass RX6 = some m.cls := findClass_of_methodNamed B.named
  have hlocks := B.notSynchronized
  have iwsX60 : ∀ w ∈ wsX60, w ∈ wsX6_pan := fun w h => List.mem_cons_of_mem _ (List.mem_append_left _ (List.mem_append_left _ (List.mem_append_left _ (List.mem_append_left _ (List.mem_append_right _ h)))))
  have iwsX10 : ∀ w ∈ wsX10, w ∈ wsX6_pan := fun w h => List.mem_cons_of_mem _ (List.mem_append_left _ (List.mem_append_left _ (List.mem_append_left _ (List.mem_append_right _ h))))
  have l0 := hts (.fieldLink RX6 10 "Panyard" "pans" "Ljava/util/ArrayList;") (List.mem_of_getElem? (i := 1) rfl)
  have l1 := hts (.classLink RX6 55 RX1) (List.mem_of_getElem? (i := 2) rfl)
  have l2 := hts (.instantiable RX1 5) (List.mem_of_getElem? (i := 3) rfl)
  have l3 := hts (.initialized RX1) (List.mem_of_getElem? (i := 4) rfl)
  have l4 := hts (.methodLink RX6 57 yX1_init) (List.mem_of_getElem? (i := 24) rfl)
  have l5 := hts (.instanceMethod yX1_init) (List.mem_of_getElem? (i := 25) rfl)
  have l6 := hts (.fieldLink RX6 60 "Panyard$Pan" "tones" "[I") (List.mem_of_getElem? (i := 5) rfl)
  have l7 := hts (.fieldLink RX6 64 "Panyard$Pan" "number" "I") (List.mem_of_getElem? (i := 6) rfl)
  have hS : va_S A s.heap s.heap [] := va_S.rf
  have hl := lv_entry ([.ref (ad 0 0), .int a1, .int a2, .int a3, .int a4]) (n := 6) (Nat.le_of_ble_eq_true rfl)
  rw [lg_entry_eq]
  generalize (lg_sl ([.ref (ad 0 0), .int a1, .int a2, .int a3, .int a4]) ++ List.replicate (6 - (lg_sl ([.ref (ad 0 0), .int a1, .int a2, .int a3, .int a4])).length) Slot.unset).toArray = ls at hl ⊢
  have hl : lv_has ls 6 [(0, .ref (ad 0 0)), (1, .int a1), (2, .int a2), (3, .int a3), (4, .int a4)] := hl
  have w50 : ∀ (x1 : Int32) (x2 : Int32) (x3 : Int32) (x4 : Int32) (t0 : Int32) (Z : CZ), fX6_pan_50  x1 x2 x3 x4 t0 Z = some (rz, Zz) → cG p l e (headSpec wsX6_pan rmX6_pan).room s m (([.ref (ad 0 0), .int a1, .int a2, .int a3, .int a4] : List Value).toArray) below meth c (vx_MQ below (aQi D G A ad rz Zz) (xX D G A ad rz Zz) (([.ref (ad 0 0), .int a1, .int a2, .int a3, .int a4] : List Value).toArray) s 16 96 A) D G A ad 4 24 6 Z 50 [(0, .ref (ad 0 0)), (1, .int x1), (2, .int x2), (3, .int x3), (4, .int x4)] [.int t0] := by
    intro  x1 x2 x3 x4 t0 Z h H locs ls hI hN hS hl
    unfold fX6_pan_50 at h
    rcases cx1_ok h with ⟨v17, c15, h⟩ | ⟨x16, c15, h⟩
    · refine xg_callv (vx_runS (As := [.int t0]) (rest := []) ⟨hx, hb, hml, hown, hts⟩ (mX6_requireState l hfl D G A ad Z t0 (.inl ()) c15) (va_cwS 1 hts gX6_pan_X6_requireState rfl rfl rfl (by decide +kernel) ⟨Nat.le_of_ble_eq_true rfl, Nat.le_of_ble_eq_true rfl⟩) (xg_preS hI hK hN hE hS) rfl rfl hl.1 rfl (lv_room (Nat.le_of_ble_eq_true rfl)) dX6_pan_50 ⟨Nat.le_of_ble_eq_true rfl, Nat.le_of_ble_eq_true rfl⟩) hS (fun H locs hI hN hS => ?_)
      refine W.widen (k := 5) (n := 30) (by decide) (by decide) ?_
      obtain ⟨gR, h⟩ := gp_ok h
      obtain ⟨i9, ei9⟩ : ∃ y : Nat, y = Z.2.2 0 := ⟨_, rfl⟩
      have h := bnd_ok h ei9
      obtain ⟨g6, h⟩ := gp_ok h
      refine cg_new (fs := [.int 0, .null, .null, .null, .int 0]) (C := RX1) (T := TX1) (N := 5) (ci := 2) hx hb hts iwsX10 tyX1 tyX1_ok hown l1 l2 l3 hK hN hS hA rfl (fun j hj => by rcases (show j = 0 ∨ j = 1 ∨ j = 2 ∨ j = 3 ∨ j = 4 by omega) with rfl | rfl | rfl | rfl | rfl <;> rfl) (Nat.le_of_ble_eq_true rfl) (Nat.le_of_ble_eq_true rfl) dX6_pan_53 (fun o H hP hN hlt hAo hS => ?_)
      refine W.widen (k := 6) (n := 36) (by decide) (by decide) ?_
      refine lv_dup hx hb dX6_pan_56 rfl ?_
      refine lv_aload_n hx hb dX6_pan_57 rfl (lv_at hl 0 rfl) ?_
      refine cg_get (T := TX6) (N := 7) (ci := 7) hx hb hts iwsX60 hown hK hN (ki := 0) (ii := 0) rfl rfl rfl 0 (by decide) l0 rfl (v := .ref (ad 3 0)) rfl dX6_pan_58 ?_
      obtain ⟨v9, c9, h⟩ := cl1_ok h
      refine cg_calliK hP hlt hI (va_runV (As := []) (rest := [.ref o, .ref o]) ⟨hx, hb, hml, hown, hts⟩ (mJx4a65c_size_8abf5 l D G (cNm ad Z) ad Z 0 v9 c9) (cwV 0 hts gX6_pan_Jx4a65c_size_8abf5 rfl rfl rfl (by decide +kernel) ⟨Nat.le_of_ble_eq_true rfl, Nat.le_of_ble_eq_true rfl⟩) (cg_preV (cNm_I hI) hK hN rfl rfl (ci := 0) rfl) rfl rfl hl.1 rfl (lv_room (Nat.le_of_ble_eq_true rfl)) dX6_pan_61 ⟨Nat.le_of_ble_eq_true rfl, Nat.le_of_ble_eq_true rfl⟩) hS (fun H locs hN hP hS => ?_)
      refine ca_callPan (i := i9) (va_runI (As := [.int v9]) (rest := [.ref o]) ⟨hx, hb, hml, hown, hts⟩ (lm_Pan l D G.1 G.2.1 o H.size v9 (cK D G) (fun _ _ hv hk => hk.moved hv)) (cwI 1 hts gX6_pan_X1_init rfl rfl rfl l3 l4 l5 rfl (by decide +kernel) ⟨Nat.le_of_ble_eq_true rfl, Nat.le_of_ble_eq_true rfl⟩) (ca_prePan hK hN hP) rfl rfl hl.1 rfl (lv_room (Nat.le_of_ble_eq_true rfl)) dX6_pan_64 ⟨Nat.le_of_ble_eq_true rfl, Nat.le_of_ble_eq_true rfl⟩) hS hA hI hN gR ei9.symm g6 hlt hAo hP (fun H locs ad1 hk1 h51 hI hN hS => ?_)
      refine W.widen (k := 9) (n := 54) (by decide) (by decide) ?_
      obtain ⟨Z91, eZ91⟩ : ∃ y : CZ, y = (zPan Z i9 v9) := ⟨_, rfl⟩
      have h := bnd_ok h eZ91
      rw [← eZ91] at hI hN
      have hl : lv_has ls 6 [(0, .ref (ad1 0 0)), (1, .int x1), (2, .int x2), (3, .int x3), (4, .int x4)] := by
        rw [hk1 0 0 (by omega)]
        exact hl
      refine W_stk (st' := [.ref (ad1 5 i9)]) (by rw [h51]) ?_
      have ha : ad1 0 0 = ad 0 0 := hk1 0 0 (by omega)
      clear hk1 h51 ei9
      refine lv_astore (lv' := [(5, .ref (ad1 5 i9)), (0, .ref (ad1 0 0)), (1, .int x1), (2, .int x2), (3, .int x3), (4, .int x4)]) hx hb dX6_pan_67 hl (by decide) rfl (fun ls hl => ?_)
      refine lv_aload hx hb dX6_pan_69 (lv_at hl 0 rfl) ?_
      obtain ⟨g18, h⟩ := gd_ok h
      refine cg_get (T := TX1) (N := 5) (ci := 2) hx hb hts iwsX10 hown hK hN g18 rfl rfl 1 (by decide) l6 rfl (v := .ref (ad1 6 i9)) rfl dX6_pan_71 ?_
      refine lv_iconst (v := (0 : Int32)) hx hb dX6_pan_74 (by decide) ?_
      refine lv_iload_n hx hb dX6_pan_75 rfl (lv_at hl 2 rfl) ?_
      obtain ⟨g19, h⟩ := gd_ok h
      obtain ⟨Z20, eZ20⟩ : ∃ y : CZ, y = (cuI Z91 6 i9 (upd (Z91.1 6 i9) (Int32.toNatClampNeg (0 : Int32)) x1)) := ⟨_, rfl⟩
      have h := bnd_ok h eZ20
      refine cg_ist hx hb hI hK hN hS g18 rfl (gin_ok g19) rfl dX6_pan_76 eZ20 (fun H locs hI hN hS => ?_)
      refine lv_aload hx hb dX6_pan_77 (lv_at hl 0 rfl) ?_
      refine cg_get (T := TX1) (N := 5) (ci := 2) hx hb hts iwsX10 hown hK hN (by rw [eZ20]; exact g18) rfl rfl 1 (by decide) l6 rfl (v := .ref (ad1 6 i9)) rfl dX6_pan_79 ?_
      refine lv_iconst (v := (1 : Int32)) hx hb dX6_pan_82 (by decide) ?_
      refine lv_iload_n hx hb dX6_pan_83 rfl (lv_at hl 3 rfl) ?_
      obtain ⟨g21, h⟩ := gd_ok h
      obtain ⟨Z22, eZ22⟩ : ∃ y : CZ, y = (cuI Z20 6 i9 (upd (Z20.1 6 i9) (Int32.toNatClampNeg (1 : Int32)) x2)) := ⟨_, rfl⟩
      have h := bnd_ok h eZ22
      refine cg_ist hx hb hI hK hN hS (by rw [eZ20]; exact g18) rfl (gin_ok g21) rfl dX6_pan_84 eZ22 (fun H locs hI hN hS => ?_)
      refine lv_aload hx hb dX6_pan_85 (lv_at hl 0 rfl) ?_
      refine cg_get (T := TX1) (N := 5) (ci := 2) hx hb hts iwsX10 hown hK hN (by rw [eZ22]; exact (by rw [eZ20]; exact g18)) rfl rfl 1 (by decide) l6 rfl (v := .ref (ad1 6 i9)) rfl dX6_pan_87 ?_
      refine lv_iconst (v := (2 : Int32)) hx hb dX6_pan_90 (by decide) ?_
      refine lv_iload_n hx hb dX6_pan_91 rfl (lv_at hl 4 rfl) ?_
      obtain ⟨g23, h⟩ := gd_ok h
      obtain ⟨Z24, eZ24⟩ : ∃ y : CZ, y = (cuI Z22 6 i9 (upd (Z22.1 6 i9) (Int32.toNatClampNeg (2 : Int32)) x3)) := ⟨_, rfl⟩
      have h := bnd_ok h eZ24
      refine cg_ist hx hb hI hK hN hS (by rw [eZ22]; exact (by rw [eZ20]; exact g18)) rfl (gin_ok g23) rfl dX6_pan_92 eZ24 (fun H locs hI hN hS => ?_)
      refine lv_aload hx hb dX6_pan_93 (lv_at hl 0 rfl) ?_
      refine cg_get (T := TX1) (N := 5) (ci := 2) hx hb hts iwsX10 hown hK hN (by rw [eZ24]; exact (by rw [eZ22]; exact (by rw [eZ20]; exact g18))) rfl rfl 1 (by decide) l6 rfl (v := .ref (ad1 6 i9)) rfl dX6_pan_95 ?_
      refine lv_iconst (v := (3 : Int32)) hx hb dX6_pan_98 (by decide) ?_
      refine lv_iload hx hb dX6_pan_99 (lv_at hl 5 rfl) ?_
      obtain ⟨g25, h⟩ := gd_ok h
      obtain ⟨Z26, eZ26⟩ : ∃ y : CZ, y = (cuI Z24 6 i9 (upd (Z24.1 6 i9) (Int32.toNatClampNeg (3 : Int32)) x4)) := ⟨_, rfl⟩
      have h := bnd_ok h eZ26
      refine cg_ist hx hb hI hK hN hS (by rw [eZ24]; exact (by rw [eZ22]; exact (by rw [eZ20]; exact g18))) rfl (gin_ok g25) rfl dX6_pan_101 eZ26 (fun H locs hI hN hS => ?_)
      refine lv_aload_n hx hb dX6_pan_102 rfl (lv_at hl 1 rfl) ?_
      refine cg_get (T := TX6) (N := 7) (ci := 7) hx hb hts iwsX60 hown hK hN rfl rfl rfl 0 (by decide) l0 rfl (v := .ref (ad1 3 0)) rfl dX6_pan_103 ?_
      refine lv_aload hx hb dX6_pan_106 (lv_at hl 0 rfl) ?_
      obtain ⟨gA, h⟩ := gp_ok h
      refine cg_add (lx := 0) (v := i9) (va_runV (As := [.ref (ad1 (cEk 0) i9)]) (rest := []) ⟨hx, hb, hml, hown, hts⟩ (mLadd l D G A ad1 Z26 0 i9 gA) (cwV 1 hts gX6_pan_Jx4a65c_add_9ea2d rfl rfl rfl (by decide +kernel) ⟨Nat.le_of_ble_eq_true rfl, Nat.le_of_ble_eq_true rfl⟩) (ca_preV hI hK hN hF hA hS (decide_eq_true gA.1)) rfl rfl hl.1 rfl (lv_room (Nat.le_of_ble_eq_true rfl)) dX6_pan_108 ⟨Nat.le_of_ble_eq_true rfl, Nat.le_of_ble_eq_true rfl⟩) hS (fun H locs r9 ad2 hk2 hI hN hS => ?_)
      refine W.widen (k := 16) (n := 96) (by decide) (by decide) ?_
      obtain ⟨Z92, eZ92⟩ : ∃ y : CZ, y = (zAdd Z26 0 i9) := ⟨_, rfl⟩
      have h := bnd_ok h eZ92
      rw [← eZ92] at hI hN
      have hl : lv_has ls 6 [(5, .ref (ad2 5 i9)), (0, .ref (ad2 0 0)), (1, .int x1), (2, .int x2), (3, .int x3), (4, .int x4)] := by
        rw [hk2 0 0 (by omega), hk2 5 i9 (by omega)]
        exact hl
      have ha := (hk2 0 0 (by omega)).trans ha
      clear hk2
      refine lv_pop hx hb dX6_pan_111 rfl ?_
      refine lv_aload hx hb dX6_pan_112 (lv_at hl 0 rfl) ?_
      obtain ⟨g27, h⟩ := gd_ok h
      refine cg_get (T := TX1) (N := 5) (ci := 2) hx hb hts iwsX10 hown hK hN g27 rfl rfl 0 (by decide) l7 rfl (v := .int (Z92.1 5 i9 0)) rfl dX6_pan_114 ?_
      exact vx_ret (W.widen (k := 16) (n := 96) (by decide) (by decide) (W.iret hx hb hr (ag_end h ha hI hK hN hS) hS.2.2 dX6_pan_117))
    · exact xg_thrv (vx_runS (As := [.int t0]) (rest := []) ⟨hx, hb, hml, hown, hts⟩ (mX6_requireState l hfl D G A ad Z t0 (.inr x16) c15) (va_cwS 1 hts gX6_pan_X6_requireState rfl rfl rfl (by decide +kernel) ⟨Nat.le_of_ble_eq_true rfl, Nat.le_of_ble_eq_true rfl⟩) (xg_preS hI hK hN hE hS) rfl rfl hl.1 rfl (lv_room (Nat.le_of_ble_eq_true rfl)) dX6_pan_50 ⟨Nat.le_of_ble_eq_true rfl, Nat.le_of_ble_eq_true rfl⟩) (congrArg Prod.fst (Option.some.inj h)).symm (congrArg Prod.snd (Option.some.inj h)).symm hexc hlocks hS (by decide) (by decide)
  unfold fX6_pan at h
  refine lv_iload_n hx hb dX6_pan_0 rfl (lv_at hl 1 rfl) ?_
  refine lv_bipush (v := (-60 : Int32)) hx hb dX6_pan_1 (by decide) ?_
  refine lv_bipush (v := (60 : Int32)) hx hb dX6_pan_3 (by decide) ?_
  rcases cx1_ok h with ⟨v3, c1, h⟩ | ⟨x2, c1, h⟩
  · refine xg_callv (vx_runS (As := [.int a1, .int (-60 : Int32), .int (60 : Int32)]) (rest := []) ⟨hx, hb, hml, hown, hts⟩ (mX6_requireRange l hfl D G A ad Z a1 (-60 : Int32) (60 : Int32) (.inl ()) c1) (va_cwS 3 hts gX6_pan_X6_requireRange rfl rfl rfl (by decide +kernel) ⟨Nat.le_of_ble_eq_true rfl, Nat.le_of_ble_eq_true rfl⟩) (xg_preS hI hK hN hE hS) rfl rfl hl.1 rfl (lv_room (Nat.le_of_ble_eq_true rfl)) dX6_pan_5 ⟨Nat.le_of_ble_eq_true rfl, Nat.le_of_ble_eq_true rfl⟩) hS (fun H locs hI hN hS => ?_)
    refine W.widen (k := 1) (n := 6) (by decide) (by decide) ?_
    refine lv_iload_n hx hb dX6_pan_8 rfl (lv_at hl 2 rfl) ?_
    refine lv_bipush (v := (-60 : Int32)) hx hb dX6_pan_9 (by decide) ?_
    refine lv_bipush (v := (60 : Int32)) hx hb dX6_pan_11 (by decide) ?_
    rcases cx1_ok h with ⟨v6, c4, h⟩ | ⟨x5, c4, h⟩
    · refine xg_callv (vx_runS (As := [.int a2, .int (-60 : Int32), .int (60 : Int32)]) (rest := []) ⟨hx, hb, hml, hown, hts⟩ (mX6_requireRange l hfl D G A ad Z a2 (-60 : Int32) (60 : Int32) (.inl ()) c4) (va_cwS 3 hts gX6_pan_X6_requireRange rfl rfl rfl (by decide +kernel) ⟨Nat.le_of_ble_eq_true rfl, Nat.le_of_ble_eq_true rfl⟩) (xg_preS hI hK hN hE hS) rfl rfl hl.1 rfl (lv_room (Nat.le_of_ble_eq_true rfl)) dX6_pan_13 ⟨Nat.le_of_ble_eq_true rfl, Nat.le_of_ble_eq_true rfl⟩) hS (fun H locs hI hN hS => ?_)
      refine W.widen (k := 2) (n := 12) (by decide) (by decide) ?_
      refine lv_iload_n hx hb dX6_pan_16 rfl (lv_at hl 3 rfl) ?_
      refine lv_bipush (v := (-60 : Int32)) hx hb dX6_pan_17 (by decide) ?_
      refine lv_bipush (v := (60 : Int32)) hx hb dX6_pan_19 (by decide) ?_
      rcases cx1_ok h with ⟨v9, c7, h⟩ | ⟨x8, c7, h⟩
      · refine xg_callv (vx_runS (As := [.int a3, .int (-60 : Int32), .int (60 : Int32)]) (rest := []) ⟨hx, hb, hml, hown, hts⟩ (mX6_requireRange l hfl D G A ad Z a3 (-60 : Int32) (60 : Int32) (.inl ()) c7) (va_cwS 3 hts gX6_pan_X6_requireRange rfl rfl rfl (by decide +kernel) ⟨Nat.le_of_ble_eq_true rfl, Nat.le_of_ble_eq_true rfl⟩) (xg_preS hI hK hN hE hS) rfl rfl hl.1 rfl (lv_room (Nat.le_of_ble_eq_true rfl)) dX6_pan_21 ⟨Nat.le_of_ble_eq_true rfl, Nat.le_of_ble_eq_true rfl⟩) hS (fun H locs hI hN hS => ?_)
        refine W.widen (k := 3) (n := 18) (by decide) (by decide) ?_
        refine lv_iload hx hb dX6_pan_24 (lv_at hl 4 rfl) ?_
        refine lv_bipush (v := (-60 : Int32)) hx hb dX6_pan_26 (by decide) ?_
        refine lv_bipush (v := (60 : Int32)) hx hb dX6_pan_28 (by decide) ?_
        rcases cx1_ok h with ⟨v12, c10, h⟩ | ⟨x11, c10, h⟩
        · refine xg_callv (vx_runS (As := [.int a4, .int (-60 : Int32), .int (60 : Int32)]) (rest := []) ⟨hx, hb, hml, hown, hts⟩ (mX6_requireRange l hfl D G A ad Z a4 (-60 : Int32) (60 : Int32) (.inl ()) c10) (va_cwS 3 hts gX6_pan_X6_requireRange rfl rfl rfl (by decide +kernel) ⟨Nat.le_of_ble_eq_true rfl, Nat.le_of_ble_eq_true rfl⟩) (xg_preS hI hK hN hE hS) rfl rfl hl.1 rfl (lv_room (Nat.le_of_ble_eq_true rfl)) dX6_pan_30 ⟨Nat.le_of_ble_eq_true rfl, Nat.le_of_ble_eq_true rfl⟩) hS (fun H locs hI hN hS => ?_)
          refine W.widen (k := 4) (n := 24) (by decide) (by decide) ?_
          refine lv_aload_n hx hb dX6_pan_33 rfl (lv_at hl 0 rfl) ?_
          refine cg_get (T := TX6) (N := 7) (ci := 7) hx hb hts iwsX60 hown hK hN rfl rfl rfl 0 (by decide) l0 rfl (v := .ref (ad 3 0)) rfl dX6_pan_34 ?_
          obtain ⟨v13, c14, h⟩ := cl1_ok h
          refine cg_calli (va_runV (As := []) (rest := []) ⟨hx, hb, hml, hown, hts⟩ (mJx4a65c_size_8abf5 l D G A ad Z 0 v13 c14) (cwV 0 hts gX6_pan_Jx4a65c_size_8abf5 rfl rfl rfl (by decide +kernel) ⟨Nat.le_of_ble_eq_true rfl, Nat.le_of_ble_eq_true rfl⟩) (cg_preV hI hK hN rfl rfl (ci := 0) rfl) rfl rfl hl.1 rfl (lv_room (Nat.le_of_ble_eq_true rfl)) dX6_pan_37 ⟨Nat.le_of_ble_eq_true rfl, Nat.le_of_ble_eq_true rfl⟩) hS (fun H locs hI hN hS => ?_)
          refine lv_bipush (v := (6 : Int32)) hx hb dX6_pan_40 (by decide) ?_
          refine lv_icmp_ge (tgt := 49) hx hb dX6_pan_42 (by decide) (fun hc => ?_) (fun hc => ?_)
          · have h := ite_t h hc
            refine lv_iconst (v := (0 : Int32)) hx hb dX6_pan_49 (by decide) ?_
            exact w50  a1 a2 a3 a4 (0 : Int32) Z h _ _ _ hI hN hS (lv_sub hl [0, 1, 2, 3, 4] rfl)
          · have h := ite_f h hc
            refine lv_iconst (v := (1 : Int32)) hx hb dX6_pan_45 (by decide) ?_
            refine lv_goto (tgt := 50) hx hb dX6_pan_46 (by decide) ?_
            exact w50  a1 a2 a3 a4 (1 : Int32) Z h _ _ _ hI hN hS (lv_sub hl [0, 1, 2, 3, 4] rfl)
        · exact xg_thrv (vx_runS (As := [.int a4, .int (-60 : Int32), .int (60 : Int32)]) (rest := []) ⟨hx, hb, hml, hown, hts⟩ (mX6_requireRange l hfl D G A ad Z a4 (-60 : Int32) (60 : Int32) (.inr x11) c10) (va_cwS 3 hts gX6_pan_X6_requireRange rfl rfl rfl (by decide +kernel) ⟨Nat.le_of_ble_eq_true rfl, Nat.le_of_ble_eq_true rfl⟩) (xg_preS hI hK hN hE hS) rfl rfl hl.1 rfl (lv_room (Nat.le_of_ble_eq_true rfl)) dX6_pan_30 ⟨Nat.le_of_ble_eq_true rfl, Nat.le_of_ble_eq_true rfl⟩) (congrArg Prod.fst (Option.some.inj h)).symm (congrArg Prod.snd (Option.some.inj h)).symm hexc hlocks hS (by decide) (by decide)
      · exact xg_thrv (vx_runS (As := [.int a3, .int (-60 : Int32), .int (60 : Int32)]) (rest := []) ⟨hx, hb, hml, hown, hts⟩ (mX6_requireRange l hfl D G A ad Z a3 (-60 : Int32) (60 : Int32) (.inr x8) c7) (va_cwS 3 hts gX6_pan_X6_requireRange rfl rfl rfl (by decide +kernel) ⟨Nat.le_of_ble_eq_true rfl, Nat.le_of_ble_eq_true rfl⟩) (xg_preS hI hK hN hE hS) rfl rfl hl.1 rfl (lv_room (Nat.le_of_ble_eq_true rfl)) dX6_pan_21 ⟨Nat.le_of_ble_eq_true rfl, Nat.le_of_ble_eq_true rfl⟩) (congrArg Prod.fst (Option.some.inj h)).symm (congrArg Prod.snd (Option.some.inj h)).symm hexc hlocks hS (by decide) (by decide)
    · exact xg_thrv (vx_runS (As := [.int a2, .int (-60 : Int32), .int (60 : Int32)]) (rest := []) ⟨hx, hb, hml, hown, hts⟩ (mX6_requireRange l hfl D G A ad Z a2 (-60 : Int32) (60 : Int32) (.inr x5) c4) (va_cwS 3 hts gX6_pan_X6_requireRange rfl rfl rfl (by decide +kernel) ⟨Nat.le_of_ble_eq_true rfl, Nat.le_of_ble_eq_true rfl⟩) (xg_preS hI hK hN hE hS) rfl rfl hl.1 rfl (lv_room (Nat.le_of_ble_eq_true rfl)) dX6_pan_13 ⟨Nat.le_of_ble_eq_true rfl, Nat.le_of_ble_eq_true rfl⟩) (congrArg Prod.fst (Option.some.inj h)).symm (congrArg Prod.snd (Option.some.inj h)).symm hexc hlocks hS (by decide) (by decide)
  · exact xg_thrv (vx_runS (As := [.int a1, .int (-60 : Int32), .int (60 : Int32)]) (rest := []) ⟨hx, hb, hml, hown, hts⟩ (mX6_requireRange l hfl D G A ad Z a1 (-60 : Int32) (60 : Int32) (.inr x2) c1) (va_cwS 3 hts gX6_pan_X6_requireRange rfl rfl rfl (by decide +kernel) ⟨Nat.le_of_ble_eq_true rfl, Nat.le_of_ble_eq_true rfl⟩) (xg_preS hI hK hN hE hS) rfl rfl hl.1 rfl (lv_room (Nat.le_of_ble_eq_true rfl)) dX6_pan_5 ⟨Nat.le_of_ble_eq_true rfl, Nat.le_of_ble_eq_true rfl⟩) (congrArg Prod.fst (Option.some.inj h)).symm (congrArg Prod.snd (Option.some.inj h)).symm hexc hlocks hS (by decide) (by decide)
noncomputable def fX6_player_23 (x1 : Int32) (t0 : Int32) (Z : CZ) : Option ((Int32 ⊕ Int32) × CZ) := cx1 (fX6_requireState t0 Z) (fun x7 => some (.inr x7, Z)) (fun _ => gp (cRL Z) (bnd (Z.2.2 1) (fun i9 => cl1 (fJx4a65c_size_8abf5 1 Z) (fun v9 => bnd (zPlayer Z i9 v9 x1) (fun Z91 => gp (okAdd Z91 1 i9) (bnd (zAdd Z91 1 i9) (fun Z92 => gd (cLv Z92.2.2 9 i9) (some (.inl (Z92.1 9 i9 0), Z92)))))))))
noncomputable def fX6_player (a1 : Int32) (Z : CZ) : Option ((Int32 ⊕ Int32) × CZ) := cx1 (fX6_requireRange a1 (0 : Int32) (1 : Int32) Z) (fun x2 => some (.inr x2, Z)) (fun _ => cl1 (fJx4a65c_size_8abf5 1 Z) (fun v4 => (if (16 : Int32) ≤ v4 then fX6_player_23 a1 (0 : Int32) Z else fX6_player_23 a1 (1 : Int32) Z)))
def rmX6_player : Room := { frames := 8, cells := 10, slots := 60, locals := 281 }
set_option maxHeartbeats 4000000 in
set_option maxRecDepth 100000 in
theorem mX6_player (l : Launch) (hfl : l.stackTraces = false) (D : va_G) (G : CGT) (A : Nat → Prop) (ad : Nat → Nat → Nat) (Z : CZ) (a1 : Int32) (rz : (Int32 ⊕ Int32)) (Zz : CZ) (h : fX6_player a1 Z = some (rz, Zz)) : vx_Met l yX6_player wsX6_player rmX6_player (va_Pc [.ref (ad 0 0), .int a1] (aP D G A ad Z)) (aQi D G A ad rz Zz) (xX D G A ad rz Zz) 10 60 A := by
  refine vx_ofW (cc := cX6_player) (maxL := 3) (ret := some .int) (by decide) rfl ?_
  intro p e s m args below meth c s₁ B hml hexc hv
  obtain ⟨rfl, ⟨⟨hI, hN, hK⟩, hE⟩, hF, hA⟩ := hv
  have hx := B.exec
  have hb := B.bytes
  have hr := B.returns
  have hts := atoms_spec (ws := wsX6_player) B.pre
  have hown : s.vm.findClass RX6 = some m.cls := findClass_of_methodNamed B.named
  have hlocks := B.notSynchronized
  have iwsX60 : ∀ w ∈ wsX60, w ∈ wsX6_player := fun w h => List.mem_cons_of_mem _ (List.mem_append_left _ (List.mem_append_left _ (List.mem_append_left _ (List.mem_append_left _ (List.mem_append_right _ h)))))
  have iwsX40 : ∀ w ∈ wsX40, w ∈ wsX6_player := fun w h => List.mem_cons_of_mem _ (List.mem_append_left _ (List.mem_append_left _ (List.mem_append_left _ (List.mem_append_right _ h))))
  have l0 := hts (.fieldLink RX6 16 "Panyard" "players" "Ljava/util/ArrayList;") (List.mem_of_getElem? (i := 1) rfl)
  have l1 := hts (.classLink RX6 109 RX4) (List.mem_of_getElem? (i := 2) rfl)
  have l2 := hts (.instantiable RX4 6) (List.mem_of_getElem? (i := 3) rfl)
  have l3 := hts (.initialized RX4) (List.mem_of_getElem? (i := 4) rfl)
  have l4 := hts (.methodLink RX6 111 yX4_init) (List.mem_of_getElem? (i := 23) rfl)
  have l5 := hts (.instanceMethod yX4_init) (List.mem_of_getElem? (i := 24) rfl)
  have l6 := hts (.fieldLink RX6 113 "Panyard$Player" "number" "I") (List.mem_of_getElem? (i := 5) rfl)
  have hS : va_S A s.heap s.heap [] := va_S.rf
  have hl := lv_entry ([.ref (ad 0 0), .int a1]) (n := 3) (Nat.le_of_ble_eq_true rfl)
  rw [lg_entry_eq]
  generalize (lg_sl ([.ref (ad 0 0), .int a1]) ++ List.replicate (3 - (lg_sl ([.ref (ad 0 0), .int a1])).length) Slot.unset).toArray = ls at hl ⊢
  have hl : lv_has ls 3 [(0, .ref (ad 0 0)), (1, .int a1)] := hl
  have w23 : ∀ (x1 : Int32) (t0 : Int32) (Z : CZ), fX6_player_23  x1 t0 Z = some (rz, Zz) → cG p l e (headSpec wsX6_player rmX6_player).room s m (([.ref (ad 0 0), .int a1] : List Value).toArray) below meth c (vx_MQ below (aQi D G A ad rz Zz) (xX D G A ad rz Zz) (([.ref (ad 0 0), .int a1] : List Value).toArray) s 10 60 A) D G A ad 1 6 3 Z 23 [(0, .ref (ad 0 0)), (1, .int x1)] [.int t0] := by
    intro  x1 t0 Z h H locs ls hI hN hS hl
    unfold fX6_player_23 at h
    rcases cx1_ok h with ⟨v8, c6, h⟩ | ⟨x7, c6, h⟩
    · refine xg_callv (vx_runS (As := [.int t0]) (rest := []) ⟨hx, hb, hml, hown, hts⟩ (mX6_requireState l hfl D G A ad Z t0 (.inl ()) c6) (va_cwS 1 hts gX6_player_X6_requireState rfl rfl rfl (by decide +kernel) ⟨Nat.le_of_ble_eq_true rfl, Nat.le_of_ble_eq_true rfl⟩) (xg_preS hI hK hN hE hS) rfl rfl hl.1 rfl (lv_room (Nat.le_of_ble_eq_true rfl)) dX6_player_23 ⟨Nat.le_of_ble_eq_true rfl, Nat.le_of_ble_eq_true rfl⟩) hS (fun H locs hI hN hS => ?_)
      refine W.widen (k := 2) (n := 12) (by decide) (by decide) ?_
      obtain ⟨gR, h⟩ := gp_ok h
      obtain ⟨i9, ei9⟩ : ∃ y : Nat, y = Z.2.2 1 := ⟨_, rfl⟩
      have h := bnd_ok h ei9
      refine cg_new (fs := [.int 0, .int 0, .null, .int 0, .int 0, .int 0]) (C := RX4) (T := TX4) (N := 6) (ci := 5) hx hb hts iwsX40 tyX4 tyX4_ok hown l1 l2 l3 hK hN hS hA rfl (fun j hj => by rcases (show j = 0 ∨ j = 1 ∨ j = 2 ∨ j = 3 ∨ j = 4 ∨ j = 5 by omega) with rfl | rfl | rfl | rfl | rfl | rfl <;> rfl) (Nat.le_of_ble_eq_true rfl) (Nat.le_of_ble_eq_true rfl) dX6_player_26 (fun o H hP hN hlt hAo hS => ?_)
      refine W.widen (k := 3) (n := 18) (by decide) (by decide) ?_
      refine lv_dup hx hb dX6_player_29 rfl ?_
      refine lv_aload_n hx hb dX6_player_30 rfl (lv_at hl 0 rfl) ?_
      refine cg_get (T := TX6) (N := 7) (ci := 7) hx hb hts iwsX60 hown hK hN (ki := 0) (ii := 0) rfl rfl rfl 1 (by decide) l0 rfl (v := .ref (ad 3 1)) rfl dX6_player_31 ?_
      obtain ⟨v9, c9, h⟩ := cl1_ok h
      refine cg_calliK hP hlt hI (va_runV (As := []) (rest := [.ref o, .ref o]) ⟨hx, hb, hml, hown, hts⟩ (mJx4a65c_size_8abf5 l D G (cNm ad Z) ad Z 1 v9 c9) (cwV 0 hts gX6_player_Jx4a65c_size_8abf5 rfl rfl rfl (by decide +kernel) ⟨Nat.le_of_ble_eq_true rfl, Nat.le_of_ble_eq_true rfl⟩) (cg_preV (cNm_I hI) hK hN rfl rfl (ci := 0) rfl) rfl rfl hl.1 rfl (lv_room (Nat.le_of_ble_eq_true rfl)) dX6_player_34 ⟨Nat.le_of_ble_eq_true rfl, Nat.le_of_ble_eq_true rfl⟩) hS (fun H locs hN hP hS => ?_)
      refine lv_iload_n hx hb dX6_player_37 rfl (lv_at hl 1 rfl) ?_
      refine ca_callPlayer (i := i9) (va_runI (As := [.int v9, .int x1]) (rest := [.ref o]) ⟨hx, hb, hml, hown, hts⟩ (lm_Player l D G.1 G.2.1 o H.size v9 x1 (cK D G) (fun _ _ hv hk => hk.moved hv)) (cwI 2 hts gX6_player_X4_init rfl rfl rfl l3 l4 l5 rfl (by decide +kernel) ⟨Nat.le_of_ble_eq_true rfl, Nat.le_of_ble_eq_true rfl⟩) (ca_prePlayer hK hN hP) rfl rfl hl.1 rfl (lv_room (Nat.le_of_ble_eq_true rfl)) dX6_player_38 ⟨Nat.le_of_ble_eq_true rfl, Nat.le_of_ble_eq_true rfl⟩) hS hA hI hN gR ei9.symm hlt hAo hP (fun H locs ad1 hk1 h51 hI hN hS => ?_)
      refine W.widen (k := 3) (n := 18) (by decide) (by decide) ?_
      obtain ⟨Z91, eZ91⟩ : ∃ y : CZ, y = (zPlayer Z i9 v9 x1) := ⟨_, rfl⟩
      have h := bnd_ok h eZ91
      rw [← eZ91] at hI hN
      have hl : lv_has ls 3 [(0, .ref (ad1 0 0)), (1, .int x1)] := by
        rw [hk1 0 0 (by omega)]
        exact hl
      refine W_stk (st' := [.ref (ad1 9 i9)]) (by rw [h51]) ?_
      have ha : ad1 0 0 = ad 0 0 := hk1 0 0 (by omega)
      clear hk1 h51 ei9
      refine lv_astore_n (lv' := [(2, .ref (ad1 9 i9)), (0, .ref (ad1 0 0)), (1, .int x1)]) hx hb dX6_player_41 rfl hl (by decide) rfl (fun ls hl => ?_)
      refine lv_aload_n hx hb dX6_player_42 rfl (lv_at hl 1 rfl) ?_
      refine cg_get (T := TX6) (N := 7) (ci := 7) hx hb hts iwsX60 hown hK hN rfl rfl rfl 1 (by decide) l0 rfl (v := .ref (ad1 3 1)) rfl dX6_player_43 ?_
      refine lv_aload_n hx hb dX6_player_46 rfl (lv_at hl 0 rfl) ?_
      obtain ⟨gA, h⟩ := gp_ok h
      refine cg_add (lx := 1) (v := i9) (va_runV (As := [.ref (ad1 (cEk 1) i9)]) (rest := []) ⟨hx, hb, hml, hown, hts⟩ (mLadd l D G A ad1 Z91 1 i9 gA) (cwV 1 hts gX6_player_Jx4a65c_add_9ea2d rfl rfl rfl (by decide +kernel) ⟨Nat.le_of_ble_eq_true rfl, Nat.le_of_ble_eq_true rfl⟩) (ca_preV hI hK hN hF hA hS (decide_eq_true gA.1)) rfl rfl hl.1 rfl (lv_room (Nat.le_of_ble_eq_true rfl)) dX6_player_47 ⟨Nat.le_of_ble_eq_true rfl, Nat.le_of_ble_eq_true rfl⟩) hS (fun H locs r9 ad2 hk2 hI hN hS => ?_)
      refine W.widen (k := 10) (n := 60) (by decide) (by decide) ?_
      obtain ⟨Z92, eZ92⟩ : ∃ y : CZ, y = (zAdd Z91 1 i9) := ⟨_, rfl⟩
      have h := bnd_ok h eZ92
      rw [← eZ92] at hI hN
      have hl : lv_has ls 3 [(2, .ref (ad2 9 i9)), (0, .ref (ad2 0 0)), (1, .int x1)] := by
        rw [hk2 0 0 (by omega), hk2 9 i9 (by omega)]
        exact hl
      have ha := (hk2 0 0 (by omega)).trans ha
      clear hk2
      refine lv_pop hx hb dX6_player_50 rfl ?_
      refine lv_aload_n hx hb dX6_player_51 rfl (lv_at hl 0 rfl) ?_
      obtain ⟨g9, h⟩ := gd_ok h
      refine cg_get (T := TX4) (N := 6) (ci := 5) hx hb hts iwsX40 hown hK hN g9 rfl rfl 0 (by decide) l6 rfl (v := .int (Z92.1 9 i9 0)) rfl dX6_player_52 ?_
      exact vx_ret (W.widen (k := 10) (n := 60) (by decide) (by decide) (W.iret hx hb hr (ag_end h ha hI hK hN hS) hS.2.2 dX6_player_55))
    · exact xg_thrv (vx_runS (As := [.int t0]) (rest := []) ⟨hx, hb, hml, hown, hts⟩ (mX6_requireState l hfl D G A ad Z t0 (.inr x7) c6) (va_cwS 1 hts gX6_player_X6_requireState rfl rfl rfl (by decide +kernel) ⟨Nat.le_of_ble_eq_true rfl, Nat.le_of_ble_eq_true rfl⟩) (xg_preS hI hK hN hE hS) rfl rfl hl.1 rfl (lv_room (Nat.le_of_ble_eq_true rfl)) dX6_player_23 ⟨Nat.le_of_ble_eq_true rfl, Nat.le_of_ble_eq_true rfl⟩) (congrArg Prod.fst (Option.some.inj h)).symm (congrArg Prod.snd (Option.some.inj h)).symm hexc hlocks hS (by decide) (by decide)
  unfold fX6_player at h
  refine lv_iload_n hx hb dX6_player_0 rfl (lv_at hl 1 rfl) ?_
  refine lv_iconst (v := (0 : Int32)) hx hb dX6_player_1 (by decide) ?_
  refine lv_iconst (v := (1 : Int32)) hx hb dX6_player_2 (by decide) ?_
  rcases cx1_ok h with ⟨v3, c1, h⟩ | ⟨x2, c1, h⟩
  · refine xg_callv (vx_runS (As := [.int a1, .int (0 : Int32), .int (1 : Int32)]) (rest := []) ⟨hx, hb, hml, hown, hts⟩ (mX6_requireRange l hfl D G A ad Z a1 (0 : Int32) (1 : Int32) (.inl ()) c1) (va_cwS 3 hts gX6_player_X6_requireRange rfl rfl rfl (by decide +kernel) ⟨Nat.le_of_ble_eq_true rfl, Nat.le_of_ble_eq_true rfl⟩) (xg_preS hI hK hN hE hS) rfl rfl hl.1 rfl (lv_room (Nat.le_of_ble_eq_true rfl)) dX6_player_3 ⟨Nat.le_of_ble_eq_true rfl, Nat.le_of_ble_eq_true rfl⟩) hS (fun H locs hI hN hS => ?_)
    refine W.widen (k := 1) (n := 6) (by decide) (by decide) ?_
    refine lv_aload_n hx hb dX6_player_6 rfl (lv_at hl 0 rfl) ?_
    refine cg_get (T := TX6) (N := 7) (ci := 7) hx hb hts iwsX60 hown hK hN rfl rfl rfl 1 (by decide) l0 rfl (v := .ref (ad 3 1)) rfl dX6_player_7 ?_
    obtain ⟨v4, c5, h⟩ := cl1_ok h
    refine cg_calli (va_runV (As := []) (rest := []) ⟨hx, hb, hml, hown, hts⟩ (mJx4a65c_size_8abf5 l D G A ad Z 1 v4 c5) (cwV 0 hts gX6_player_Jx4a65c_size_8abf5 rfl rfl rfl (by decide +kernel) ⟨Nat.le_of_ble_eq_true rfl, Nat.le_of_ble_eq_true rfl⟩) (cg_preV hI hK hN rfl rfl (ci := 0) rfl) rfl rfl hl.1 rfl (lv_room (Nat.le_of_ble_eq_true rfl)) dX6_player_10 ⟨Nat.le_of_ble_eq_true rfl, Nat.le_of_ble_eq_true rfl⟩) hS (fun H locs hI hN hS => ?_)
    refine lv_bipush (v := (16 : Int32)) hx hb dX6_player_13 (by decide) ?_
    refine lv_icmp_ge (tgt := 22) hx hb dX6_player_15 (by decide) (fun hc => ?_) (fun hc => ?_)
    · have h := ite_t h hc
      refine lv_iconst (v := (0 : Int32)) hx hb dX6_player_22 (by decide) ?_
      exact w23  a1 (0 : Int32) Z h _ _ _ hI hN hS (lv_sub hl [0, 1] rfl)
    · have h := ite_f h hc
      refine lv_iconst (v := (1 : Int32)) hx hb dX6_player_18 (by decide) ?_
      refine lv_goto (tgt := 23) hx hb dX6_player_19 (by decide) ?_
      exact w23  a1 (1 : Int32) Z h _ _ _ hI hN hS (lv_sub hl [0, 1] rfl)
  · exact xg_thrv (vx_runS (As := [.int a1, .int (0 : Int32), .int (1 : Int32)]) (rest := []) ⟨hx, hb, hml, hown, hts⟩ (mX6_requireRange l hfl D G A ad Z a1 (0 : Int32) (1 : Int32) (.inr x2) c1) (va_cwS 3 hts gX6_player_X6_requireRange rfl rfl rfl (by decide +kernel) ⟨Nat.le_of_ble_eq_true rfl, Nat.le_of_ble_eq_true rfl⟩) (xg_preS hI hK hN hE hS) rfl rfl hl.1 rfl (lv_room (Nat.le_of_ble_eq_true rfl)) dX6_player_3 ⟨Nat.le_of_ble_eq_true rfl, Nat.le_of_ble_eq_true rfl⟩) (congrArg Prod.fst (Option.some.inj h)).symm (congrArg Prod.snd (Option.some.inj h)).symm hexc hlocks hS (by decide) (by decide)
noncomputable def fX6_join_57 (x2 : Int32) (x3 : Nat) (x4 : Nat) (t0 : Int32) (Z : CZ) : Option ((Int32 ⊕ Int32) × CZ) := cx1 (fX6_requireState t0 Z) (fun x19 => some (.inr x19, Z)) (fun _ => cl1 (fX6_seasonNow  Z) (fun v21 => gd (cLv Z.2.2 9 x3) (cl1 (fX4_mayJoin x3 x2 v21 Z) (fun v24 => cx1 (fX6_requireState v24 Z) (fun x27 => some (.inr x27, Z)) (fun _ => gd (cLv Z.2.2 10 x4) (gp (cRL Z) (bnd (Z.2.2 2) (fun i9 => bnd (zSeat Z i9 x3) (fun Z91 => gp (okAdd Z91 (x4 + 4) i9) (bnd (zAdd Z91 (x4 + 4) i9) (fun Z92 => gd (cLv Z92.2.2 9 x3) (bnd (cuI Z92 9 x3 (upd (Z92.1 9 x3) 3 ((Z92.1 9 x3 3) + (1 : Int32)))) (fun Z31 => gd (cLv Z31.2.2 10 x4) (gd (cLv Z31.2.2 3 (x4 + 4)) (cl1 (fJx4a65c_size_8abf5 (x4 + 4) Z31) (fun v34 => some (.inl (v34 - (1 : Int32)), Z31)))))))))))))))))
noncomputable def fX6_join_36 (x2 : Int32) (x3 : Nat) (x4 : Nat) (t0 : Int32) (Z : CZ) : Option ((Int32 ⊕ Int32) × CZ) := cx1 (fX6_requireState t0 Z) (fun x12 => some (.inr x12, Z)) (fun _ => gd (cLv Z.2.2 10 x4) (gd (cLv Z.2.2 3 (x4 + 4)) (cl1 (fJx4a65c_size_8abf5 (x4 + 4) Z) (fun v16 => (if (8 : Int32) ≤ v16 then fX6_join_57 x2 x3 x4 (0 : Int32) Z else fX6_join_57 x2 x3 x4 (1 : Int32) Z)))))
noncomputable def fX6_join_35 (x2 : Int32) (x3 : Nat) (x4 : Nat) (Z : CZ) : Option ((Int32 ⊕ Int32) × CZ) := fX6_join_36 x2 x3 x4 (0 : Int32) Z
noncomputable def fX6_join (a1 : Int32) (a2 : Int32) (Z : CZ) : Option ((Int32 ⊕ Int32) × CZ) := cx1 (fX6_playerAt a1 Z) (fun x2 => some (.inr x2, Z)) (fun q3 => cx1 (fX6_bandAt a2 Z) (fun x5 => some (.inr x5, Z)) (fun q6 => gd (cLv Z.2.2 10 q6) (cl1 (fX0_seatOf q6 q3 Z) (fun v8 => (if v8 = (-1 : Int32) then gd (cLv Z.2.2 9 q3) ((if (2 : Int32) ≤ (Z.1 9 q3 3) then fX6_join_35 a2 q3 q6 Z else fX6_join_36 a2 q3 q6 (1 : Int32) Z)) else fX6_join_35 a2 q3 q6 Z)))))
def rmX6_join : Room := { frames := 8, cells := 14, slots := 84, locals := 281 }
set_option maxHeartbeats 4000000 in
set_option maxRecDepth 100000 in
theorem mX6_join (l : Launch) (hfl : l.stackTraces = false) (D : va_G) (G : CGT) (A : Nat → Prop) (ad : Nat → Nat → Nat) (Z : CZ) (a1 : Int32) (a2 : Int32) (rz : (Int32 ⊕ Int32)) (Zz : CZ) (h : fX6_join a1 a2 Z = some (rz, Zz)) : vx_Met l yX6_join wsX6_join rmX6_join (va_Pc [.ref (ad 0 0), .int a1, .int a2] (aP D G A ad Z)) (aQi D G A ad rz Zz) (xX D G A ad rz Zz) 14 84 A := by
  refine vx_ofW (cc := cX6_join) (maxL := 5) (ret := some .int) (by decide) rfl ?_
  intro p e s m args below meth c s₁ B hml hexc hv
  obtain ⟨rfl, ⟨⟨hI, hN, hK⟩, hE⟩, hF, hA⟩ := hv
  have hx := B.exec
  have hb := B.bytes
  have hr := B.returns
  have hts := atoms_spec (ws := wsX6_join) B.pre
  have hown : s.vm.findClass RX6 = some m.cls := findClass_of_methodNamed B.named
  have hlocks := B.notSynchronized
  have iwsX40 : ∀ w ∈ wsX40, w ∈ wsX6_join := fun w h => List.mem_cons_of_mem _ (List.mem_append_left _ (List.mem_append_left _ (List.mem_append_left _ (List.mem_append_left _ (List.mem_append_left _ (List.mem_append_left _ (List.mem_append_right _ h)))))))
  have iwsX00 : ∀ w ∈ wsX00, w ∈ wsX6_join := fun w h => List.mem_cons_of_mem _ (List.mem_append_left _ (List.mem_append_left _ (List.mem_append_left _ (List.mem_append_left _ (List.mem_append_left _ (List.mem_append_right _ h))))))
  have iwsX50 : ∀ w ∈ wsX50, w ∈ wsX6_join := fun w h => List.mem_cons_of_mem _ (List.mem_append_left _ (List.mem_append_left _ (List.mem_append_left _ (List.mem_append_left _ (List.mem_append_right _ h)))))
  have l0 := hts (.fieldLink RX6 126 "Panyard$Player" "bandCount" "I") (List.mem_of_getElem? (i := 1) rfl)
  have l1 := hts (.fieldLink RX6 129 "Panyard$Band" "seats" "Ljava/util/ArrayList;") (List.mem_of_getElem? (i := 2) rfl)
  have l2 := hts (.classLink RX6 138 RX5) (List.mem_of_getElem? (i := 3) rfl)
  have l3 := hts (.instantiable RX5 2) (List.mem_of_getElem? (i := 4) rfl)
  have l4 := hts (.initialized RX5) (List.mem_of_getElem? (i := 5) rfl)
  have l5 := hts (.methodLink RX6 140 yX5_init) (List.mem_of_getElem? (i := 74) rfl)
  have l6 := hts (.instanceMethod yX5_init) (List.mem_of_getElem? (i := 75) rfl)
  have hS : va_S A s.heap s.heap [] := va_S.rf
  have hl := lv_entry ([.ref (ad 0 0), .int a1, .int a2]) (n := 5) (Nat.le_of_ble_eq_true rfl)
  rw [lg_entry_eq]
  generalize (lg_sl ([.ref (ad 0 0), .int a1, .int a2]) ++ List.replicate (5 - (lg_sl ([.ref (ad 0 0), .int a1, .int a2])).length) Slot.unset).toArray = ls at hl ⊢
  have hl : lv_has ls 5 [(0, .ref (ad 0 0)), (1, .int a1), (2, .int a2)] := hl
  have w57 : ∀ (x2 : Int32) (x3 : Nat) (x4 : Nat) (t0 : Int32) (Z : CZ), fX6_join_57  x2 x3 x4 t0 Z = some (rz, Zz) → cG p l e (headSpec wsX6_join rmX6_join).room s m (([.ref (ad 0 0), .int a1, .int a2] : List Value).toArray) below meth c (vx_MQ below (aQi D G A ad rz Zz) (xX D G A ad rz Zz) (([.ref (ad 0 0), .int a1, .int a2] : List Value).toArray) s 14 84 A) D G A ad 3 18 5 Z 57 [(0, .ref (ad 0 0)), (2, .int x2), (3, .ref (ad 9 x3)), (4, .ref (ad 10 x4))] [.int t0] := by
    intro  x2 x3 x4 t0 Z h H locs ls hI hN hS hl
    unfold fX6_join_57 at h
    rcases cx1_ok h with ⟨v20, c18, h⟩ | ⟨x19, c18, h⟩
    · refine xg_callv (vx_runS (As := [.int t0]) (rest := []) ⟨hx, hb, hml, hown, hts⟩ (mX6_requireState l hfl D G A ad Z t0 (.inl ()) c18) (va_cwS 1 hts gX6_join_X6_requireState rfl rfl rfl (by decide +kernel) ⟨Nat.le_of_ble_eq_true rfl, Nat.le_of_ble_eq_true rfl⟩) (xg_preS hI hK hN hE hS) rfl rfl hl.1 rfl (lv_room (Nat.le_of_ble_eq_true rfl)) dX6_join_57 ⟨Nat.le_of_ble_eq_true rfl, Nat.le_of_ble_eq_true rfl⟩) hS (fun H locs hI hN hS => ?_)
      refine W.widen (k := 4) (n := 24) (by decide) (by decide) ?_
      refine lv_aload_n hx hb dX6_join_60 rfl (lv_at hl 2 rfl) ?_
      refine lv_iload_n hx hb dX6_join_61 rfl (lv_at hl 1 rfl) ?_
      refine lv_aload_n hx hb dX6_join_62 rfl (lv_at hl 0 rfl) ?_
      obtain ⟨v21, c22, h⟩ := cl1_ok h
      refine cg_calli (va_runV (As := []) (rest := [.int x2, .ref (ad 9 x3)]) ⟨hx, hb, hml, hown, hts⟩ (mX6_seasonNow l D G A ad Z v21 c22) (cwV 0 hts gX6_join_X6_seasonNow rfl rfl rfl (by decide +kernel) ⟨Nat.le_of_ble_eq_true rfl, Nat.le_of_ble_eq_true rfl⟩) (cg_preV hI hK hN rfl rfl (ci := 7) rfl) rfl rfl hl.1 rfl (lv_room (Nat.le_of_ble_eq_true rfl)) dX6_join_63 ⟨Nat.le_of_ble_eq_true rfl, Nat.le_of_ble_eq_true rfl⟩) hS (fun H locs hI hN hS => ?_)
      obtain ⟨g23, h⟩ := gd_ok h
      obtain ⟨v24, c25, h⟩ := cl1_ok h
      refine cg_calli (va_runV (As := [.int x2, .int v21]) (rest := []) ⟨hx, hb, hml, hown, hts⟩ (mX4_mayJoin l D G A ad Z x3 x2 v21 v24 c25) (cwV 2 hts gX6_join_X4_mayJoin rfl rfl rfl (by decide +kernel) ⟨Nat.le_of_ble_eq_true rfl, Nat.le_of_ble_eq_true rfl⟩) (cg_preV hI hK hN g23 rfl (ci := 5) rfl) rfl rfl hl.1 rfl (lv_room (Nat.le_of_ble_eq_true rfl)) dX6_join_66 ⟨Nat.le_of_ble_eq_true rfl, Nat.le_of_ble_eq_true rfl⟩) hS (fun H locs hI hN hS => ?_)
      rcases cx1_ok h with ⟨v28, c26, h⟩ | ⟨x27, c26, h⟩
      · refine xg_callv (vx_runS (As := [.int v24]) (rest := []) ⟨hx, hb, hml, hown, hts⟩ (mX6_requireState l hfl D G A ad Z v24 (.inl ()) c26) (va_cwS 1 hts gX6_join_X6_requireState rfl rfl rfl (by decide +kernel) ⟨Nat.le_of_ble_eq_true rfl, Nat.le_of_ble_eq_true rfl⟩) (xg_preS hI hK hN hE hS) rfl rfl hl.1 rfl (lv_room (Nat.le_of_ble_eq_true rfl)) dX6_join_69 ⟨Nat.le_of_ble_eq_true rfl, Nat.le_of_ble_eq_true rfl⟩) hS (fun H locs hI hN hS => ?_)
        refine W.widen (k := 5) (n := 30) (by decide) (by decide) ?_
        refine lv_aload hx hb dX6_join_72 (lv_at hl 3 rfl) ?_
        obtain ⟨g29, h⟩ := gd_ok h
        refine cg_get (T := TX0) (N := 7) (ci := 1) hx hb hts iwsX00 hown hK hN g29 rfl rfl 0 (by decide) l1 rfl (v := .ref (ad 3 (x4 + 4))) rfl dX6_join_74 ?_
        obtain ⟨gR, h⟩ := gp_ok h
        obtain ⟨i9, ei9⟩ : ∃ y : Nat, y = Z.2.2 2 := ⟨_, rfl⟩
        have h := bnd_ok h ei9
        refine cg_new (fs := [.null, .null]) (C := RX5) (T := TX5) (N := 2) (ci := 6) hx hb hts iwsX50 tyX5 tyX5_ok hown l2 l3 l4 hK hN hS hA rfl (fun j hj => by rcases (show j = 0 ∨ j = 1 by omega) with rfl | rfl <;> rfl) (Nat.le_of_ble_eq_true rfl) (Nat.le_of_ble_eq_true rfl) dX6_join_77 (fun o H hP hN hlt hAo hS => ?_)
        refine W.widen (k := 6) (n := 36) (by decide) (by decide) ?_
        refine lv_dup hx hb dX6_join_80 rfl ?_
        refine lv_aload_n hx hb dX6_join_81 rfl (lv_at hl 2 rfl) ?_
        refine ca_callSeat (i := i9) (va_runI (As := [.ref (ad 9 x3)]) (rest := [.ref o, .ref (ad 3 (x4 + 4))]) ⟨hx, hb, hml, hown, hts⟩ (lm_Seat l D G.1 G.2.1 o H.size (ad 9 x3) (cK D G) (fun _ _ hv hk => hk.moved hv)) (cwI 1 hts gX6_join_X5_init rfl rfl rfl l4 l5 l6 rfl (by decide +kernel) ⟨Nat.le_of_ble_eq_true rfl, Nat.le_of_ble_eq_true rfl⟩) (ca_preSeat hK hN hP) rfl rfl hl.1 rfl (lv_room (Nat.le_of_ble_eq_true rfl)) dX6_join_82 ⟨Nat.le_of_ble_eq_true rfl, Nat.le_of_ble_eq_true rfl⟩) hS hA hI hN gR ei9.symm g23 hlt hAo hP (fun H locs ad1 hk1 h51 hI hN hS => ?_)
        refine W.widen (k := 7) (n := 42) (by decide) (by decide) ?_
        obtain ⟨Z91, eZ91⟩ : ∃ y : CZ, y = (zSeat Z i9 x3) := ⟨_, rfl⟩
        have h := bnd_ok h eZ91
        rw [← eZ91] at hI hN
        have hl : lv_has ls 5 [(0, .ref (ad1 0 0)), (2, .int x2), (3, .ref (ad1 9 x3)), (4, .ref (ad1 10 x4))] := by
          rw [hk1 0 0 (by omega), hk1 10 x4 (by omega), hk1 9 x3 (by omega)]
          exact hl
        refine W_stk (st' := [.ref (ad1 13 i9), .ref (ad1 3 (x4 + 4))]) (by rw [h51, hk1 3 (x4 + 4) (by omega)]) ?_
        have ha : ad1 0 0 = ad 0 0 := hk1 0 0 (by omega)
        clear hk1 h51 ei9
        obtain ⟨gA, h⟩ := gp_ok h
        refine cg_add (lx := (x4 + 4)) (v := i9) (va_runV (As := [.ref (ad1 (cEk (x4 + 4)) i9)]) (rest := []) ⟨hx, hb, hml, hown, hts⟩ (mLadd l D G A ad1 Z91 (x4 + 4) i9 gA) (cwV 1 hts gX6_join_Jx4a65c_add_9ea2d rfl rfl rfl (by decide +kernel) ⟨Nat.le_of_ble_eq_true rfl, Nat.le_of_ble_eq_true rfl⟩) (ca_preV hI hK hN hF hA hS (decide_eq_true gA.1)) rfl rfl hl.1 rfl (lv_room (Nat.le_of_ble_eq_true rfl)) dX6_join_85 ⟨Nat.le_of_ble_eq_true rfl, Nat.le_of_ble_eq_true rfl⟩) hS (fun H locs r9 ad2 hk2 hI hN hS => ?_)
        refine W.widen (k := 14) (n := 84) (by decide) (by decide) ?_
        obtain ⟨Z92, eZ92⟩ : ∃ y : CZ, y = (zAdd Z91 (x4 + 4) i9) := ⟨_, rfl⟩
        have h := bnd_ok h eZ92
        rw [← eZ92] at hI hN
        have hl : lv_has ls 5 [(0, .ref (ad2 0 0)), (2, .int x2), (3, .ref (ad2 9 x3)), (4, .ref (ad2 10 x4))] := by
          rw [hk2 0 0 (by omega), hk2 10 x4 (by omega), hk2 9 x3 (by omega)]
          exact hl
        have ha := (hk2 0 0 (by omega)).trans ha
        clear hk2
        refine lv_pop hx hb dX6_join_88 rfl ?_
        refine lv_aload_n hx hb dX6_join_89 rfl (lv_at hl 2 rfl) ?_
        refine lv_dup hx hb dX6_join_90 rfl ?_
        obtain ⟨g30, h⟩ := gd_ok h
        refine cg_get (T := TX4) (N := 6) (ci := 5) hx hb hts iwsX40 hown hK hN g30 rfl rfl 3 (by decide) l0 rfl (v := .int (Z92.1 9 x3 3)) rfl dX6_join_91 ?_
        refine lv_iconst (v := (1 : Int32)) hx hb dX6_join_94 (by decide) ?_
        refine lv_iadd hx hb dX6_join_95 ?_
        obtain ⟨Z31, eZ31⟩ : ∃ y : CZ, y = (cuI Z92 9 x3 (upd (Z92.1 9 x3) 3 ((Z92.1 9 x3 3) + (1 : Int32)))) := ⟨_, rfl⟩
        have h := bnd_ok h eZ31
        refine cg_put (ty := .int) (T := TX4) (N := 6) (ci := 5) hx hb hts iwsX40 tyX4_ok nmX4 hown hI hK hN hS g30 rfl rfl 3 (by decide) (Nat.le_of_ble_eq_true rfl) l0 rfl rfl (by decide +kernel) rfl rfl rfl dX6_join_96 eZ31 (fun H locs hI hN hS => ?_)
        refine lv_aload hx hb dX6_join_99 (lv_at hl 3 rfl) ?_
        obtain ⟨g32, h⟩ := gd_ok h
        refine cg_get (T := TX0) (N := 7) (ci := 1) hx hb hts iwsX00 hown hK hN g32 rfl rfl 0 (by decide) l1 rfl (v := .ref (ad2 3 (x4 + 4))) rfl dX6_join_101 ?_
        obtain ⟨g33, h⟩ := gd_ok h
        obtain ⟨v34, c35, h⟩ := cl1_ok h
        refine cg_calli (va_runV (As := []) (rest := []) ⟨hx, hb, hml, hown, hts⟩ (mJx4a65c_size_8abf5 l D G A ad2 Z31 (x4 + 4) v34 c35) (cwV 0 hts gX6_join_Jx4a65c_size_8abf5 rfl rfl rfl (by decide +kernel) ⟨Nat.le_of_ble_eq_true rfl, Nat.le_of_ble_eq_true rfl⟩) (cg_preV hI hK hN g33 rfl (ci := 0) rfl) rfl rfl hl.1 rfl (lv_room (Nat.le_of_ble_eq_true rfl)) dX6_join_104 ⟨Nat.le_of_ble_eq_true rfl, Nat.le_of_ble_eq_true rfl⟩) hS (fun H locs hI hN hS => ?_)
        refine lv_iconst (v := (1 : Int32)) hx hb dX6_join_107 (by decide) ?_
        refine lv_isub hx hb dX6_join_108 ?_
        exact vx_ret (W.widen (k := 14) (n := 84) (by decide) (by decide) (W.iret hx hb hr (ag_end h ha hI hK hN hS) hS.2.2 dX6_join_109))
      · exact xg_thrv (vx_runS (As := [.int v24]) (rest := []) ⟨hx, hb, hml, hown, hts⟩ (mX6_requireState l hfl D G A ad Z v24 (.inr x27) c26) (va_cwS 1 hts gX6_join_X6_requireState rfl rfl rfl (by decide +kernel) ⟨Nat.le_of_ble_eq_true rfl, Nat.le_of_ble_eq_true rfl⟩) (xg_preS hI hK hN hE hS) rfl rfl hl.1 rfl (lv_room (Nat.le_of_ble_eq_true rfl)) dX6_join_69 ⟨Nat.le_of_ble_eq_true rfl, Nat.le_of_ble_eq_true rfl⟩) (congrArg Prod.fst (Option.some.inj h)).symm (congrArg Prod.snd (Option.some.inj h)).symm hexc hlocks hS (by decide) (by decide)
    · exact xg_thrv (vx_runS (As := [.int t0]) (rest := []) ⟨hx, hb, hml, hown, hts⟩ (mX6_requireState l hfl D G A ad Z t0 (.inr x19) c18) (va_cwS 1 hts gX6_join_X6_requireState rfl rfl rfl (by decide +kernel) ⟨Nat.le_of_ble_eq_true rfl, Nat.le_of_ble_eq_true rfl⟩) (xg_preS hI hK hN hE hS) rfl rfl hl.1 rfl (lv_room (Nat.le_of_ble_eq_true rfl)) dX6_join_57 ⟨Nat.le_of_ble_eq_true rfl, Nat.le_of_ble_eq_true rfl⟩) (congrArg Prod.fst (Option.some.inj h)).symm (congrArg Prod.snd (Option.some.inj h)).symm hexc hlocks hS (by decide) (by decide)
  have w36 : ∀ (x2 : Int32) (x3 : Nat) (x4 : Nat) (t0 : Int32) (Z : CZ), fX6_join_36  x2 x3 x4 t0 Z = some (rz, Zz) → cG p l e (headSpec wsX6_join rmX6_join).room s m (([.ref (ad 0 0), .int a1, .int a2] : List Value).toArray) below meth c (vx_MQ below (aQi D G A ad rz Zz) (xX D G A ad rz Zz) (([.ref (ad 0 0), .int a1, .int a2] : List Value).toArray) s 14 84 A) D G A ad 2 12 5 Z 36 [(0, .ref (ad 0 0)), (2, .int x2), (3, .ref (ad 9 x3)), (4, .ref (ad 10 x4))] [.int t0] := by
    intro  x2 x3 x4 t0 Z h H locs ls hI hN hS hl
    unfold fX6_join_36 at h
    rcases cx1_ok h with ⟨v13, c11, h⟩ | ⟨x12, c11, h⟩
    · refine xg_callv (vx_runS (As := [.int t0]) (rest := []) ⟨hx, hb, hml, hown, hts⟩ (mX6_requireState l hfl D G A ad Z t0 (.inl ()) c11) (va_cwS 1 hts gX6_join_X6_requireState rfl rfl rfl (by decide +kernel) ⟨Nat.le_of_ble_eq_true rfl, Nat.le_of_ble_eq_true rfl⟩) (xg_preS hI hK hN hE hS) rfl rfl hl.1 rfl (lv_room (Nat.le_of_ble_eq_true rfl)) dX6_join_36 ⟨Nat.le_of_ble_eq_true rfl, Nat.le_of_ble_eq_true rfl⟩) hS (fun H locs hI hN hS => ?_)
      refine W.widen (k := 3) (n := 18) (by decide) (by decide) ?_
      refine lv_aload hx hb dX6_join_39 (lv_at hl 3 rfl) ?_
      obtain ⟨g14, h⟩ := gd_ok h
      refine cg_get (T := TX0) (N := 7) (ci := 1) hx hb hts iwsX00 hown hK hN g14 rfl rfl 0 (by decide) l1 rfl (v := .ref (ad 3 (x4 + 4))) rfl dX6_join_41 ?_
      obtain ⟨g15, h⟩ := gd_ok h
      obtain ⟨v16, c17, h⟩ := cl1_ok h
      refine cg_calli (va_runV (As := []) (rest := []) ⟨hx, hb, hml, hown, hts⟩ (mJx4a65c_size_8abf5 l D G A ad Z (x4 + 4) v16 c17) (cwV 0 hts gX6_join_Jx4a65c_size_8abf5 rfl rfl rfl (by decide +kernel) ⟨Nat.le_of_ble_eq_true rfl, Nat.le_of_ble_eq_true rfl⟩) (cg_preV hI hK hN g15 rfl (ci := 0) rfl) rfl rfl hl.1 rfl (lv_room (Nat.le_of_ble_eq_true rfl)) dX6_join_44 ⟨Nat.le_of_ble_eq_true rfl, Nat.le_of_ble_eq_true rfl⟩) hS (fun H locs hI hN hS => ?_)
      refine lv_bipush (v := (8 : Int32)) hx hb dX6_join_47 (by decide) ?_
      refine lv_icmp_ge (tgt := 56) hx hb dX6_join_49 (by decide) (fun hc => ?_) (fun hc => ?_)
      · have h := ite_t h hc
        refine lv_iconst (v := (0 : Int32)) hx hb dX6_join_56 (by decide) ?_
        exact w57  x2 x3 x4 (0 : Int32) Z h _ _ _ hI hN hS (lv_sub hl [0, 1, 2, 3] rfl)
      · have h := ite_f h hc
        refine lv_iconst (v := (1 : Int32)) hx hb dX6_join_52 (by decide) ?_
        refine lv_goto (tgt := 57) hx hb dX6_join_53 (by decide) ?_
        exact w57  x2 x3 x4 (1 : Int32) Z h _ _ _ hI hN hS (lv_sub hl [0, 1, 2, 3] rfl)
    · exact xg_thrv (vx_runS (As := [.int t0]) (rest := []) ⟨hx, hb, hml, hown, hts⟩ (mX6_requireState l hfl D G A ad Z t0 (.inr x12) c11) (va_cwS 1 hts gX6_join_X6_requireState rfl rfl rfl (by decide +kernel) ⟨Nat.le_of_ble_eq_true rfl, Nat.le_of_ble_eq_true rfl⟩) (xg_preS hI hK hN hE hS) rfl rfl hl.1 rfl (lv_room (Nat.le_of_ble_eq_true rfl)) dX6_join_36 ⟨Nat.le_of_ble_eq_true rfl, Nat.le_of_ble_eq_true rfl⟩) (congrArg Prod.fst (Option.some.inj h)).symm (congrArg Prod.snd (Option.some.inj h)).symm hexc hlocks hS (by decide) (by decide)
  have w35 : ∀ (x2 : Int32) (x3 : Nat) (x4 : Nat) (Z : CZ), fX6_join_35  x2 x3 x4 Z = some (rz, Zz) → cG p l e (headSpec wsX6_join rmX6_join).room s m (([.ref (ad 0 0), .int a1, .int a2] : List Value).toArray) below meth c (vx_MQ below (aQi D G A ad rz Zz) (xX D G A ad rz Zz) (([.ref (ad 0 0), .int a1, .int a2] : List Value).toArray) s 14 84 A) D G A ad 2 12 5 Z 35 [(0, .ref (ad 0 0)), (2, .int x2), (3, .ref (ad 9 x3)), (4, .ref (ad 10 x4))] [] := by
    intro  x2 x3 x4 Z h H locs ls hI hN hS hl
    unfold fX6_join_35 at h
    refine lv_iconst (v := (0 : Int32)) hx hb dX6_join_35 (by decide) ?_
    exact w36  x2 x3 x4 (0 : Int32) Z h _ _ _ hI hN hS (lv_sub hl [0, 1, 2, 3] rfl)
  unfold fX6_join at h
  refine lv_aload_n hx hb dX6_join_0 rfl (lv_at hl 0 rfl) ?_
  refine lv_iload_n hx hb dX6_join_1 rfl (lv_at hl 1 rfl) ?_
  rcases cx1_ok h with ⟨q3, c1, h⟩ | ⟨x2, c1, h⟩
  · refine xg_callr (k := 9) (q := q3) (vx_runV (As := [.int a1]) (rest := []) ⟨hx, hb, hml, hown, hts⟩ (mX6_playerAt l hfl D G A ad Z a1 (.inl q3) c1) (cwV 1 hts gX6_join_X6_playerAt rfl rfl rfl (by decide +kernel) ⟨Nat.le_of_ble_eq_true rfl, Nat.le_of_ble_eq_true rfl⟩) (xg_preV hI hK hN hE hS rfl rfl (ci := 7) rfl) rfl rfl hl.1 rfl (lv_room (Nat.le_of_ble_eq_true rfl)) dX6_join_2 ⟨Nat.le_of_ble_eq_true rfl, Nat.le_of_ble_eq_true rfl⟩) hS (fun H locs hI hN hS => ?_)
    refine W.widen (k := 1) (n := 6) (by decide) (by decide) ?_
    refine lv_astore_n (lv' := [(3, .ref (ad 9 q3)), (0, .ref (ad 0 0)), (1, .int a1), (2, .int a2)]) hx hb dX6_join_5 rfl hl (by decide) rfl (fun ls hl => ?_)
    refine lv_aload_n hx hb dX6_join_6 rfl (lv_at hl 1 rfl) ?_
    refine lv_iload_n hx hb dX6_join_7 rfl (lv_at hl 3 rfl) ?_
    rcases cx1_ok h with ⟨q6, c4, h⟩ | ⟨x5, c4, h⟩
    · refine xg_callr (k := 10) (q := q6) (vx_runV (As := [.int a2]) (rest := []) ⟨hx, hb, hml, hown, hts⟩ (mX6_bandAt l hfl D G A ad Z a2 (.inl q6) c4) (cwV 1 hts gX6_join_X6_bandAt rfl rfl rfl (by decide +kernel) ⟨Nat.le_of_ble_eq_true rfl, Nat.le_of_ble_eq_true rfl⟩) (xg_preV hI hK hN hE hS rfl rfl (ci := 7) rfl) rfl rfl hl.1 rfl (lv_room (Nat.le_of_ble_eq_true rfl)) dX6_join_8 ⟨Nat.le_of_ble_eq_true rfl, Nat.le_of_ble_eq_true rfl⟩) hS (fun H locs hI hN hS => ?_)
      refine W.widen (k := 2) (n := 12) (by decide) (by decide) ?_
      refine lv_astore (lv' := [(4, .ref (ad 10 q6)), (3, .ref (ad 9 q3)), (0, .ref (ad 0 0)), (1, .int a1), (2, .int a2)]) hx hb dX6_join_11 hl (by decide) rfl (fun ls hl => ?_)
      refine lv_aload hx hb dX6_join_13 (lv_at hl 0 rfl) ?_
      refine lv_aload_n hx hb dX6_join_15 rfl (lv_at hl 1 rfl) ?_
      obtain ⟨g7, h⟩ := gd_ok h
      obtain ⟨v8, c9, h⟩ := cl1_ok h
      refine cg_calli (va_runV (As := [.ref (ad 9 q3)]) (rest := []) ⟨hx, hb, hml, hown, hts⟩ (mX0_seatOf l D G A ad Z q6 q3 v8 c9) (cwV 1 hts gX6_join_X0_seatOf rfl rfl rfl (by decide +kernel) ⟨Nat.le_of_ble_eq_true rfl, Nat.le_of_ble_eq_true rfl⟩) (cg_preV hI hK hN g7 rfl (ci := 1) rfl) rfl rfl hl.1 rfl (lv_room (Nat.le_of_ble_eq_true rfl)) dX6_join_16 ⟨Nat.le_of_ble_eq_true rfl, Nat.le_of_ble_eq_true rfl⟩) hS (fun H locs hI hN hS => ?_)
      refine lv_iconst (v := (-1 : Int32)) hx hb dX6_join_19 (by decide) ?_
      refine lv_icmp_ne (tgt := 35) hx hb dX6_join_20 (by decide) (fun hc => ?_) (fun hc => ?_)
      · have h := ite_f h hc
        exact w35  a2 q3 q6 Z h _ _ _ hI hN hS (lv_sub hl [2, 4, 1, 0] rfl)
      · have h := ite_t h hc
        refine lv_aload_n hx hb dX6_join_23 rfl (lv_at hl 1 rfl) ?_
        obtain ⟨g10, h⟩ := gd_ok h
        refine cg_get (T := TX4) (N := 6) (ci := 5) hx hb hts iwsX40 hown hK hN g10 rfl rfl 3 (by decide) l0 rfl (v := .int (Z.1 9 q3 3)) rfl dX6_join_24 ?_
        refine lv_iconst (v := (2 : Int32)) hx hb dX6_join_27 (by decide) ?_
        refine lv_icmp_ge (tgt := 35) hx hb dX6_join_28 (by decide) (fun hc => ?_) (fun hc => ?_)
        · have h := ite_t h hc
          exact w35  a2 q3 q6 Z h _ _ _ hI hN hS (lv_sub hl [2, 4, 1, 0] rfl)
        · have h := ite_f h hc
          refine lv_iconst (v := (1 : Int32)) hx hb dX6_join_31 (by decide) ?_
          refine lv_goto (tgt := 36) hx hb dX6_join_32 (by decide) ?_
          exact w36  a2 q3 q6 (1 : Int32) Z h _ _ _ hI hN hS (lv_sub hl [2, 4, 1, 0] rfl)
    · exact xg_thrr (k := 10) (vx_runV (As := [.int a2]) (rest := []) ⟨hx, hb, hml, hown, hts⟩ (mX6_bandAt l hfl D G A ad Z a2 (.inr x5) c4) (cwV 1 hts gX6_join_X6_bandAt rfl rfl rfl (by decide +kernel) ⟨Nat.le_of_ble_eq_true rfl, Nat.le_of_ble_eq_true rfl⟩) (xg_preV hI hK hN hE hS rfl rfl (ci := 7) rfl) rfl rfl hl.1 rfl (lv_room (Nat.le_of_ble_eq_true rfl)) dX6_join_8 ⟨Nat.le_of_ble_eq_true rfl, Nat.le_of_ble_eq_true rfl⟩) (congrArg Prod.fst (Option.some.inj h)).symm (congrArg Prod.snd (Option.some.inj h)).symm hexc hlocks hS (by decide) (by decide)
  · exact xg_thrr (k := 9) (vx_runV (As := [.int a1]) (rest := []) ⟨hx, hb, hml, hown, hts⟩ (mX6_playerAt l hfl D G A ad Z a1 (.inr x2) c1) (cwV 1 hts gX6_join_X6_playerAt rfl rfl rfl (by decide +kernel) ⟨Nat.le_of_ble_eq_true rfl, Nat.le_of_ble_eq_true rfl⟩) (xg_preV hI hK hN hE hS rfl rfl (ci := 7) rfl) rfl rfl hl.1 rfl (lv_room (Nat.le_of_ble_eq_true rfl)) dX6_join_2 ⟨Nat.le_of_ble_eq_true rfl, Nat.le_of_ble_eq_true rfl⟩) (congrArg Prod.fst (Option.some.inj h)).symm (congrArg Prod.snd (Option.some.inj h)).symm hexc hlocks hS (by decide) (by decide)
