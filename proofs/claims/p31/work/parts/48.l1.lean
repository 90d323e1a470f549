def fL_isLearnt_80 (t0 : Int32) (Z : CZ) (F : Nat → Int32) : Option (Int32 × CZ) := gd (gbo t0) (some (t0, Z))
def fL_isLearnt_75 (Z : CZ) (F : Nat → Int32) : Option (Int32 × CZ) := fL_isLearnt_80 (1 : Int32) Z F
def fL_isLearnt_79 (Z : CZ) (F : Nat → Int32) : Option (Int32 × CZ) := fL_isLearnt_80 (0 : Int32) Z F
def fL_isLearnt_46 (x1 : Int32) (x2 : Int32) (t0 : Int32) (Z : CZ) (F : Nat → Int32) : Option (Int32 × CZ) := (if t0 = (2 : Int32) then fL_isLearnt_75 Z F else (if t0 = (1 : Int32) then cl1 (fX6_seat_n x1 x2 Z) (fun v3 => cl1 (fX6_ofPlayer_n v3 (1 : Int32) Z) (fun v5 => (if v5 = (2 : Int32) then fL_isLearnt_75 Z F else fL_isLearnt_79 Z F))) else fL_isLearnt_79 Z F))
def fL_isLearnt_32 (x1 : Int32) (x2 : Int32) (x5 : Int32) (t0 : Int32) (Z : CZ) (F : Nat → Int32) : Option (Int32 × CZ) := (if x5 = 0 then fL_isLearnt_46 x1 x2 t0 Z F else fL_isLearnt_46 x1 x2 x5 Z F)
def fL_isLearnt_13 (x1 : Int32) (x2 : Int32) (x4 : Int32) (t0 : Int32) (Z : CZ) (F : Nat → Int32) : Option (Int32 × CZ) := (if (x2 + (1 : Int32)) = x4 then fL_isLearnt_32 x1 x2 t0 (0 : Int32) Z F else gd (gin (x2 + (1 : Int32)) 8) (fL_isLearnt_32 x1 x2 t0 (F (Int32.toNatClampNeg (x2 + (1 : Int32)))) Z F))
def fL_isLearnt (a2 : Int32) (a3 : Int32) (a5 : Int32) (Z : CZ) (F : Nat → Int32) : Option (Int32 × CZ) := (if a3 = 0 then fL_isLearnt_13 a2 a3 a5 (0 : Int32) Z F else gd (gin (a3 - (1 : Int32)) 8) (fL_isLearnt_13 a2 a3 a5 (F (Int32.toNatClampNeg (a3 - (1 : Int32)))) Z F))
def rmL_isLearnt : Room := { frames := 6, cells := 0, slots := 0, locals := 138 }
set_option maxHeartbeats 8000000 in
set_option maxRecDepth 100000 in
theorem mL_isLearnt (l : Launch) (hfl : l.stackTraces = false) (D : va_G) (G : CGT) (A : Nat → Prop) (ad : Nat → Nat → Nat) (Z : CZ) (q : Nat) (F : Nat → Int32) (a2 : Int32) (a3 : Int32) (a5 : Int32) (rz : Int32) (Zz : CZ) (h : fL_isLearnt a2 a3 a5 Z F = some (rz, Zz)) : Met l yL_isLearnt wsL_isLearnt rmL_isLearnt (va_Pc [.ref (ad 0 0), .int a2, .int a3, .ref q, .int a5] (eP D G A ad Z q 8 F)) (cQi D G A ad rz Zz) 0 0 A := by
  refine Met.ofW (cc := cL_isLearnt) (maxL := 8) (ret := some .boolean) (by decide) rfl ?_
  intro p e s m args below meth c s₁ B hml hv
  obtain ⟨rfl, ⟨⟨hI, hN, hK⟩, hE⟩, hq, hnq⟩ := hv
  have hx := B.exec
  have hb := B.bytes
  have hr := B.returns
  have hts := atoms_spec (ws := wsL_isLearnt) B.pre
  have hown : s.vm.findClass RL = some m.cls := findClass_of_methodNamed B.named
  have hlocks := B.notSynchronized
  have hS : va_S A s.heap s.heap [] := va_S.rf
  have hl := lv_entry ([.ref (ad 0 0), .int a2, .int a3, .ref q, .int a5]) (n := 8) (Nat.le_of_ble_eq_true rfl)
  rw [lg_entry_eq]
  generalize (lg_sl ([.ref (ad 0 0), .int a2, .int a3, .ref q, .int a5]) ++ List.replicate (8 - (lg_sl ([.ref (ad 0 0), .int a2, .int a3, .ref q, .int a5])).length) Slot.unset).toArray = ls at hl ⊢
  have hl : lv_has ls 8 [(0, .ref (ad 0 0)), (1, .int a2), (2, .int a3), (3, .ref q), (4, .int a5)] := hl
  have w80 : ∀ (t0 : Int32) (Z : CZ) (F : Nat → Int32), fL_isLearnt_80  t0 Z F = some (rz, Zz) → tG p l e (headSpec wsL_isLearnt rmL_isLearnt).room s m (([.ref (ad 0 0), .int a2, .int a3, .ref q, .int a5] : List Value).toArray) below meth c (MQ below (cQi D G A ad rz Zz) (([.ref (ad 0 0), .int a2, .int a3, .ref q, .int a5] : List Value).toArray) s 0 0 A) D G A A ad q 8 0 0 8 Z F 80 [] [.int t0] := by
    intro  t0 Z F h H locs ls hI hN hq hS hl
    unfold fL_isLearnt_80 at h
    obtain ⟨g7, h⟩ := gd_ok h
    refine W.widen (k := 0) (n := 0) (by decide) (by decide) ?_
    exact W.zret hx hb hr (gbo_ok g7) (cg_endi h hI hK hN hS) (fun z hz => hS.2.2 z hz) dL_isLearnt_80
  have w75 : ∀ (Z : CZ) (F : Nat → Int32), fL_isLearnt_75  Z F = some (rz, Zz) → tG p l e (headSpec wsL_isLearnt rmL_isLearnt).room s m (([.ref (ad 0 0), .int a2, .int a3, .ref q, .int a5] : List Value).toArray) below meth c (MQ below (cQi D G A ad rz Zz) (([.ref (ad 0 0), .int a2, .int a3, .ref q, .int a5] : List Value).toArray) s 0 0 A) D G A A ad q 8 0 0 8 Z F 75 [] [] := by
    intro  Z F h H locs ls hI hN hq hS hl
    unfold fL_isLearnt_75 at h
    refine lv_iconst (v := (1 : Int32)) hx hb dL_isLearnt_75 (by decide) ?_
    refine lv_goto (tgt := 80) hx hb dL_isLearnt_76 (by decide) ?_
    exact w80  (1 : Int32) Z F h _ _ _ hI hN hq hS (lv_sub hl [] rfl)
  have w79 : ∀ (Z : CZ) (F : Nat → Int32), fL_isLearnt_79  Z F = some (rz, Zz) → tG p l e (headSpec wsL_isLearnt rmL_isLearnt).room s m (([.ref (ad 0 0), .int a2, .int a3, .ref q, .int a5] : List Value).toArray) below meth c (MQ below (cQi D G A ad rz Zz) (([.ref (ad 0 0), .int a2, .int a3, .ref q, .int a5] : List Value).toArray) s 0 0 A) D G A A ad q 8 0 0 8 Z F 79 [] [] := by
    intro  Z F h H locs ls hI hN hq hS hl
    unfold fL_isLearnt_79 at h
    refine lv_iconst (v := (0 : Int32)) hx hb dL_isLearnt_79 (by decide) ?_
    exact w80  (0 : Int32) Z F h _ _ _ hI hN hq hS (lv_sub hl [] rfl)
  have w46 : ∀ (x1 : Int32) (x2 : Int32) (t0 : Int32) (Z : CZ) (F : Nat → Int32), fL_isLearnt_46  x1 x2 t0 Z F = some (rz, Zz) → tG p l e (headSpec wsL_isLearnt rmL_isLearnt).room s m (([.ref (ad 0 0), .int a2, .int a3, .ref q, .int a5] : List Value).toArray) below meth c (MQ below (cQi D G A ad rz Zz) (([.ref (ad 0 0), .int a2, .int a3, .ref q, .int a5] : List Value).toArray) s 0 0 A) D G A A ad q 8 0 0 8 Z F 46 [(0, .ref (ad 0 0)), (1, .int x1), (2, .int x2)] [.int t0] := by
    intro  x1 x2 t0 Z F h H locs ls hI hN hq hS hl
    unfold fL_isLearnt_46 at h
    refine lv_istore (lv' := [(7, .int t0), (0, .ref (ad 0 0)), (1, .int x1), (2, .int x2)]) hx hb dL_isLearnt_46 hl (by decide) rfl (fun ls hl => ?_)
    refine lv_iload hx hb dL_isLearnt_48 (lv_at hl 0 rfl) ?_
    refine lv_iconst (v := (2 : Int32)) hx hb dL_isLearnt_50 (by decide) ?_
    refine lv_icmp_eq (tgt := 75) hx hb dL_isLearnt_51 (by decide) (fun hc => ?_) (fun hc => ?_)
    · have h := ite_t h hc
      exact w75  Z F h _ _ _ hI hN hq hS (lv_sub hl [] rfl)
    · have h := ite_f h hc
      refine lv_iload hx hb dL_isLearnt_54 (lv_at hl 0 rfl) ?_
      refine lv_iconst (v := (1 : Int32)) hx hb dL_isLearnt_56 (by decide) ?_
      refine lv_icmp_ne (tgt := 79) hx hb dL_isLearnt_57 (by decide) (fun hc => ?_) (fun hc => ?_)
      · have h := ite_f h hc
        exact w79  Z F h _ _ _ hI hN hq hS (lv_sub hl [] rfl)
      · have h := ite_t h hc
        refine lv_aload_n hx hb dL_isLearnt_60 rfl (lv_at hl 1 rfl) ?_
        refine lv_aload_n hx hb dL_isLearnt_61 rfl (lv_at hl 1 rfl) ?_
        refine lv_iload_n hx hb dL_isLearnt_62 rfl (lv_at hl 2 rfl) ?_
        refine lv_iload_n hx hb dL_isLearnt_63 rfl (lv_at hl 3 rfl) ?_
        obtain ⟨v3, c4, h⟩ := cl1_ok h
        refine sg_calli (va_runV (As := [.int x1, .int x2]) (rest := [.ref (ad 0 0)]) ⟨hx, hb, hml, hown, hts⟩ (mX6_seat_n l D G A ad Z x1 x2 v3  c4) (cwV 2 hts gL_isLearnt_X6_seat rfl rfl rfl (by decide +kernel) ⟨Nat.le_of_ble_eq_true rfl, Nat.le_of_ble_eq_true rfl⟩) (cg_preV hI hK hN rfl rfl (ci := 7) rfl) rfl rfl hl.1 rfl (lv_room (Nat.le_of_ble_eq_true rfl)) dL_isLearnt_64 ⟨Nat.le_of_ble_eq_true rfl, Nat.le_of_ble_eq_true rfl⟩) hS (fun _ h => h) hq hnq ⟨_, rfl⟩ (fun H locs hI hN hq hS => ?_)
        refine W.widen (k := 0) (n := 0) (by decide) (by decide) ?_
        refine lv_iconst (v := (1 : Int32)) hx hb dL_isLearnt_67 (by decide) ?_
        obtain ⟨v5, c6, h⟩ := cl1_ok h
        refine sg_calli (va_runV (As := [.int v3, .int (1 : Int32)]) (rest := []) ⟨hx, hb, hml, hown, hts⟩ (mX6_ofPlayer_n l D G A ad Z v3 (1 : Int32) v5  c6) (cwV 2 hts gL_isLearnt_X6_ofPlayer rfl rfl rfl (by decide +kernel) ⟨Nat.le_of_ble_eq_true rfl, Nat.le_of_ble_eq_true rfl⟩) (cg_preV hI hK hN rfl rfl (ci := 7) rfl) rfl rfl hl.1 rfl (lv_room (Nat.le_of_ble_eq_true rfl)) dL_isLearnt_68 ⟨Nat.le_of_ble_eq_true rfl, Nat.le_of_ble_eq_true rfl⟩) hS (fun _ h => h) hq hnq ⟨_, rfl⟩ (fun H locs hI hN hq hS => ?_)
        refine W.widen (k := 0) (n := 0) (by decide) (by decide) ?_
        refine lv_iconst (v := (2 : Int32)) hx hb dL_isLearnt_71 (by decide) ?_
        refine lv_icmp_ne (tgt := 79) hx hb dL_isLearnt_72 (by decide) (fun hc => ?_) (fun hc => ?_)
        · have h := ite_f h hc
          exact w79  Z F h _ _ _ hI hN hq hS (lv_sub hl [] rfl)
        · have h := ite_t h hc
          exact w75  Z F h _ _ _ hI hN hq hS (lv_sub hl [] rfl)
  have w32 : ∀ (x1 : Int32) (x2 : Int32) (x5 : Int32) (t0 : Int32) (Z : CZ) (F : Nat → Int32), fL_isLearnt_32  x1 x2 x5 t0 Z F = some (rz, Zz) → tG p l e (headSpec wsL_isLearnt rmL_isLearnt).room s m (([.ref (ad 0 0), .int a2, .int a3, .ref q, .int a5] : List Value).toArray) below meth c (MQ below (cQi D G A ad rz Zz) (([.ref (ad 0 0), .int a2, .int a3, .ref q, .int a5] : List Value).toArray) s 0 0 A) D G A A ad q 8 0 0 8 Z F 32 [(0, .ref (ad 0 0)), (1, .int x1), (2, .int x2), (5, .int x5)] [.int t0] := by
    intro  x1 x2 x5 t0 Z F h H locs ls hI hN hq hS hl
    unfold fL_isLearnt_32 at h
    refine lv_istore (lv' := [(6, .int t0), (0, .ref (ad 0 0)), (1, .int x1), (2, .int x2), (5, .int x5)]) hx hb dL_isLearnt_32 hl (by decide) rfl (fun ls hl => ?_)
    refine lv_iload hx hb dL_isLearnt_34 (lv_at hl 4 rfl) ?_
    refine lv_if_ne (tgt := 44) hx hb dL_isLearnt_36 (by decide) (fun hc => ?_) (fun hc => ?_)
    · have h := ite_f h hc
      refine lv_iload hx hb dL_isLearnt_44 (lv_at hl 4 rfl) ?_
      exact w46  x1 x2 x5 Z F h _ _ _ hI hN hq hS (lv_sub hl [1, 2, 3] rfl)
    · have h := ite_t h hc
      refine lv_iload hx hb dL_isLearnt_39 (lv_at hl 0 rfl) ?_
      refine lv_goto (tgt := 46) hx hb dL_isLearnt_41 (by decide) ?_
      exact w46  x1 x2 t0 Z F h _ _ _ hI hN hq hS (lv_sub hl [1, 2, 3] rfl)
  have w13 : ∀ (x1 : Int32) (x2 : Int32) (x4 : Int32) (t0 : Int32) (Z : CZ) (F : Nat → Int32), fL_isLearnt_13  x1 x2 x4 t0 Z F = some (rz, Zz) → tG p l e (headSpec wsL_isLearnt rmL_isLearnt).room s m (([.ref (ad 0 0), .int a2, .int a3, .ref q, .int a5] : List Value).toArray) below meth c (MQ below (cQi D G A ad rz Zz) (([.ref (ad 0 0), .int a2, .int a3, .ref q, .int a5] : List Value).toArray) s 0 0 A) D G A A ad q 8 0 0 8 Z F 13 [(0, .ref (ad 0 0)), (1, .int x1), (2, .int x2), (3, .ref q), (4, .int x4)] [.int t0] := by
    intro  x1 x2 x4 t0 Z F h H locs ls hI hN hq hS hl
    unfold fL_isLearnt_13 at h
    refine lv_istore (lv' := [(5, .int t0), (0, .ref (ad 0 0)), (1, .int x1), (2, .int x2), (3, .ref q), (4, .int x4)]) hx hb dL_isLearnt_13 hl (by decide) rfl (fun ls hl => ?_)
    refine lv_iload_n hx hb dL_isLearnt_15 rfl (lv_at hl 3 rfl) ?_
    refine lv_iconst (v := (1 : Int32)) hx hb dL_isLearnt_16 (by decide) ?_
    refine lv_iadd hx hb dL_isLearnt_17 ?_
    refine lv_iload hx hb dL_isLearnt_18 (lv_at hl 5 rfl) ?_
    refine lv_icmp_ne (tgt := 27) hx hb dL_isLearnt_20 (by decide) (fun hc => ?_) (fun hc => ?_)
    · have h := ite_f h hc
      refine lv_aload_n hx hb dL_isLearnt_27 rfl (lv_at hl 4 rfl) ?_
      refine lv_iload_n hx hb dL_isLearnt_28 rfl (lv_at hl 3 rfl) ?_
      refine lv_iconst (v := (1 : Int32)) hx hb dL_isLearnt_29 (by decide) ?_
      refine lv_iadd hx hb dL_isLearnt_30 ?_
      obtain ⟨g2, h⟩ := gd_ok h
      refine sg_ild hx hb hK hq (gin_ok g2) dL_isLearnt_31 ?_
      exact w32  x1 x2 t0 (F (Int32.toNatClampNeg (x2 + (1 : Int32)))) Z F h _ _ _ hI hN hq hS (lv_sub hl [1, 2, 3, 0] rfl)
    · have h := ite_t h hc
      refine lv_iconst (v := (0 : Int32)) hx hb dL_isLearnt_23 (by decide) ?_
      refine lv_goto (tgt := 32) hx hb dL_isLearnt_24 (by decide) ?_
      exact w32  x1 x2 t0 (0 : Int32) Z F h _ _ _ hI hN hq hS (lv_sub hl [1, 2, 3, 0] rfl)
  unfold fL_isLearnt at h
  refine lv_iload_n hx hb dL_isLearnt_0 rfl (lv_at hl 2 rfl) ?_
  refine lv_if_ne (tgt := 8) hx hb dL_isLearnt_1 (by decide) (fun hc => ?_) (fun hc => ?_)
  · have h := ite_f h hc
    refine lv_aload_n hx hb dL_isLearnt_8 rfl (lv_at hl 3 rfl) ?_
    refine lv_iload_n hx hb dL_isLearnt_9 rfl (lv_at hl 2 rfl) ?_
    refine lv_iconst (v := (1 : Int32)) hx hb dL_isLearnt_10 (by decide) ?_
    refine lv_isub hx hb dL_isLearnt_11 ?_
    obtain ⟨g1, h⟩ := gd_ok h
    refine sg_ild hx hb hK hq (gin_ok g1) dL_isLearnt_12 ?_
    exact w13  a2 a3 a5 (F (Int32.toNatClampNeg (a3 - (1 : Int32)))) Z F h _ _ _ hI hN hq hS (lv_sub hl [0, 1, 2, 3, 4] rfl)
  · have h := ite_t h hc
    refine lv_iconst (v := (0 : Int32)) hx hb dL_isLearnt_4 (by decide) ?_
    refine lv_goto (tgt := 13) hx hb dL_isLearnt_5 (by decide) ?_
    exact w13  a2 a3 a5 (0 : Int32) Z F h _ _ _ hI hN hq hS (lv_sub hl [0, 1, 2, 3, 4] rfl)
def fL_isDrilled_71 (k19 : Int32 → Int32 → Int32 → Int32 → Int32 → CZ → (Nat → Int32) → Option (Int32 × CZ)) (x1 : Int32) (x2 : Int32) (x3 : Int32) (x6 : Int32) (t0 : Int32) (Z : CZ) (F : Nat → Int32) : Option (Int32 × CZ) := bnd (x6 + (1 : Int32)) (fun v16 => k19 x1 x2 x3 t0 v16 Z F)
def fL_isDrilled_135 (t0 : Int32) (Z : CZ) (F : Nat → Int32) : Option (Int32 × CZ) := gd (gbo t0) (some (t0, Z))
def fL_isDrilled_130 (Z : CZ) (F : Nat → Int32) : Option (Int32 × CZ) := fL_isDrilled_135 (1 : Int32) Z F
def fL_isDrilled_351 (k193 : Int32 → Int32 → Int32 → Int32 → Int32 → Int32 → Int32 → CZ → (Nat → Int32) → Option (Int32 × CZ)) (x1 : Int32) (x2 : Int32) (x3 : Int32) (x7 : Int32) (x8 : Int32) (x10 : Int32) (t0 : Int32) (Z : CZ) (F : Nat → Int32) : Option (Int32 × CZ) := bnd (x10 + (1 : Int32)) (fun v43 => k193 x1 x2 x3 x7 x8 t0 v43 Z F)
def fL_isDrilled_316 (k193 : Int32 → Int32 → Int32 → Int32 → Int32 → Int32 → Int32 → CZ → (Nat → Int32) → Option (Int32 × CZ)) (x1 : Int32) (x2 : Int32) (x3 : Int32) (x7 : Int32) (x8 : Int32) (x10 : Int32) (t0 : Int32) (t1 : Int32) (Z : CZ) (F : Nat → Int32) : Option (Int32 × CZ) := (if t1 = t0 then fL_isDrilled_351 k193 x1 x2 x3 x7 x8 x10 (1 : Int32) Z F else fL_isDrilled_351 k193 x1 x2 x3 x7 x8 x10 (0 : Int32) Z F)
def fL_isDrilled_346 (k193 : Int32 → Int32 → Int32 → Int32 → Int32 → Int32 → Int32 → CZ → (Nat → Int32) → Option (Int32 × CZ)) (x1 : Int32) (x2 : Int32) (x3 : Int32) (x7 : Int32) (x8 : Int32) (x10 : Int32) (Z : CZ) (F : Nat → Int32) : Option (Int32 × CZ) := fL_isDrilled_351 k193 x1 x2 x3 x7 x8 x10 (1 : Int32) Z F
def fL_isDrilled_269 (k193 : Int32 → Int32 → Int32 → Int32 → Int32 → Int32 → Int32 → CZ → (Nat → Int32) → Option (Int32 × CZ)) (x1 : Int32) (x2 : Int32) (x3 : Int32) (x7 : Int32) (x10 : Int32) (x11 : Int32) (x12 : Int32) (t0 : Int32) (t1 : Int32) (Z : CZ) (F : Nat → Int32) : Option (Int32 × CZ) := bnd (t1 + t0) (fun v36 => gd (gin x10 8) ((if (F (Int32.toNatClampNeg x10)) = (1 : Int32) then (if x11 = (1 : Int32) then fL_isDrilled_351 k193 x1 x2 x3 x7 v36 x10 (1 : Int32) Z F else fL_isDrilled_351 k193 x1 x2 x3 x7 v36 x10 (0 : Int32) Z F) else gd (gin x10 8) ((if (F (Int32.toNatClampNeg x10)) = (2 : Int32) then (if x12 = 0 then fL_isDrilled_316 k193 x1 x2 x3 x7 v36 x10 (2 : Int32) x11 Z F else fL_isDrilled_316 k193 x1 x2 x3 x7 v36 x10 (1 : Int32) x11 Z F) else (if x11 < (2 : Int32) then fL_isDrilled_346 k193 x1 x2 x3 x7 v36 x10 Z F else cl2 (fL_isLearnt x1 x10 x3 Z F) (fun v39 Z41 => (if v39 = 0 then fL_isDrilled_351 k193 x1 x2 x3 x7 v36 x10 (0 : Int32) Z41 F else fL_isDrilled_346 k193 x1 x2 x3 x7 v36 x10 Z41 F))))))))
def fL_isDrilled_254 (k193 : Int32 → Int32 → Int32 → Int32 → Int32 → Int32 → Int32 → CZ → (Nat → Int32) → Option (Int32 × CZ)) (x1 : Int32) (x2 : Int32) (x3 : Int32) (x7 : Int32) (x8 : Int32) (x10 : Int32) (x11 : Int32) (t0 : Int32) (Z : CZ) (F : Nat → Int32) : Option (Int32 × CZ) := (if x11 = (1 : Int32) then fL_isDrilled_269 k193 x1 x2 x3 x7 x10 x11 t0 (1 : Int32) x8 Z F else fL_isDrilled_269 k193 x1 x2 x3 x7 x10 x11 t0 (0 : Int32) x8 Z F)
def fL_isDrilled_253 (k193 : Int32 → Int32 → Int32 → Int32 → Int32 → Int32 → Int32 → CZ → (Nat → Int32) → Option (Int32 × CZ)) (x1 : Int32) (x2 : Int32) (x3 : Int32) (x7 : Int32) (x8 : Int32) (x10 : Int32) (x11 : Int32) (Z : CZ) (F : Nat → Int32) : Option (Int32 × CZ) := fL_isDrilled_254 k193 x1 x2 x3 x7 x8 x10 x11 (0 : Int32) Z F
def fL_isDrilled_376 (t0 : Int32) (Z : CZ) (F : Nat → Int32) : Option (Int32 × CZ) := gd (gbo t0) (some (t0, Z))
def fL_isDrilled_375 (Z : CZ) (F : Nat → Int32) : Option (Int32 × CZ) := fL_isDrilled_376 (0 : Int32) Z F
def fL_isDrilled_359 (x7 : Int32) (x8 : Int32) (x9 : Int32) (Z : CZ) (F : Nat → Int32) : Option (Int32 × CZ) := (if x9 = 0 then fL_isDrilled_375 Z F else (if x7 = x8 then fL_isDrilled_376 (1 : Int32) Z F else fL_isDrilled_375 Z F))
def fL_isDrilled_193 (k193 : Int32 → Int32 → Int32 → Int32 → Int32 → Int32 → Int32 → CZ → (Nat → Int32) → Option (Int32 × CZ)) (x1 : Int32) (x2 : Int32) (x3 : Int32) (x7 : Int32) (x8 : Int32) (x9 : Int32) (x10 : Int32) (Z : CZ) (F : Nat → Int32) : Option (Int32 × CZ) := (if x3 ≤ x10 then fL_isDrilled_359 x7 x8 x9 Z F else (if x9 = 0 then fL_isDrilled_359 x7 x8 x9 Z F else cl1 (fX6_knows_n x1 x10 x2 Z) (fun v32 => (if x10 ≤ 0 then fL_isDrilled_253 k193 x1 x2 x3 x7 x8 x10 v32 Z F else (if x3 ≤ (x10 + (1 : Int32)) then fL_isDrilled_253 k193 x1 x2 x3 x7 x8 x10 v32 Z F else gd (gin (x10 - (1 : Int32)) 8) ((if (F (Int32.toNatClampNeg (x10 - (1 : Int32)))) = (1 : Int32) then gd (gin (x10 + (1 : Int32)) 8) ((if (F (Int32.toNatClampNeg (x10 + (1 : Int32)))) = (1 : Int32) then fL_isDrilled_254 k193 x1 x2 x3 x7 x8 x10 v32 (1 : Int32) Z F else fL_isDrilled_253 k193 x1 x2 x3 x7 x8 x10 v32 Z F)) else fL_isDrilled_253 k193 x1 x2 x3 x7 x8 x10 v32 Z F)))))))
def fL_isDrilled_188 (x1 : Int32) (x2 : Int32) (x3 : Int32) (x7 : Int32) (x8 : Int32) (t0 : Int32) (Z : CZ) (F : Nat → Int32) : Option (Int32 × CZ) := lf9 fL_isDrilled_193 100 x1 x2 x3 x7 x8 t0 (0 : Int32) Z F
def fL_isDrilled_183 (x1 : Int32) (x2 : Int32) (x3 : Int32) (x7 : Int32) (x8 : Int32) (Z : CZ) (F : Nat → Int32) : Option (Int32 × CZ) := fL_isDrilled_188 x1 x2 x3 x7 x8 (1 : Int32) Z F
def fL_isDrilled_187 (x1 : Int32) (x2 : Int32) (x3 : Int32) (x7 : Int32) (x8 : Int32) (Z : CZ) (F : Nat → Int32) : Option (Int32 × CZ) := fL_isDrilled_188 x1 x2 x3 x7 x8 (0 : Int32) Z F
def fL_isDrilled_97 (x1 : Int32) (x2 : Int32) (x3 : Int32) (x5 : Int32) (t0 : Int32) (Z : CZ) (F : Nat → Int32) : Option (Int32 × CZ) := cl2 (fL_acts3 x1 x2 Z) (fun v19 Z21 => (if v19 = (-200 : Int32) then (if x3 = 0 then fL_isDrilled_130 Z21 F else cl1 (fX6_ofBand_n x1 (4 : Int32) Z21) (fun v29 => (if v29 = (1 : Int32) then fL_isDrilled_130 Z21 F else fL_isDrilled_135 (0 : Int32) Z21 F))) else cl1 (fX6_ofBand_n x1 (4 : Int32) Z21) (fun v22 => (if v22 = (1 : Int32) then cl2 (fL_acts3 x1 x2 Z21) (fun v24 Z26 => (if v24 = (-200 : Int32) then (if x5 = (-1 : Int32) then fL_isDrilled_183 x1 x2 x3 v19 (0 : Int32) Z26 F else cl1 (fX6_field_n x5 (2 : Int32) (0 : Int32) Z26) (fun v27 => (if v27 = (t0 - (1 : Int32)) then fL_isDrilled_183 x1 x2 x3 v19 (0 : Int32) Z26 F else fL_isDrilled_187 x1 x2 x3 v19 (0 : Int32) Z26 F))) else fL_isDrilled_187 x1 x2 x3 v19 (0 : Int32) Z26 F)) else fL_isDrilled_187 x1 x2 x3 v19 (0 : Int32) Z21 F))))
def fL_isDrilled_79 (x1 : Int32) (x2 : Int32) (x3 : Int32) (x5 : Int32) (Z : CZ) (F : Nat → Int32) : Option (Int32 × CZ) := (if x5 = (-1 : Int32) then fL_isDrilled_97 x1 x2 x3 x5 (0 : Int32) Z F else cl1 (fX6_field_n x5 (2 : Int32) (0 : Int32) Z) (fun v17 => fL_isDrilled_97 x1 x2 x3 x5 v17 Z F))
def fL_isDrilled_19 (k19 : Int32 → Int32 → Int32 → Int32 → Int32 → CZ → (Nat → Int32) → Option (Int32 × CZ)) (x1 : Int32) (x2 : Int32) (x3 : Int32) (x5 : Int32) (x6 : Int32) (Z : CZ) (F : Nat → Int32) : Option (Int32 × CZ) := (if x3 ≤ x6 then fL_isDrilled_79 x1 x2 x3 x5 Z F else cl1 (fX6_knows_n x1 x6 x2 Z) (fun v4 => gd (gin x6 8) (bnd (upd F (Int32.toNatClampNeg x6) v4) (fun F7 => cl1 (fX6_seat_n x1 x6 Z) (fun v8 => cl1 (fX6_ofPlayer_n v8 (2 : Int32) Z) (fun v10 => (if v10 = (-1 : Int32) then fL_isDrilled_71 k19 x1 x2 x3 x6 x5 Z F7 else cl1 (fX6_seat_n x1 x6 Z) (fun v12 => cl1 (fX6_ofPlayer_n v12 (2 : Int32) Z) (fun v14 => fL_isDrilled_71 k19 x1 x2 x3 x6 v14 Z F7)))))))))
def fL_isDrilled (a2 : Int32) (a3 : Int32) (Z : CZ) : Option (Int32 × CZ) := cl1 (fX6_ofBand_n a2 (0 : Int32) Z) (fun v1 => bnd (fun _ => 0) (fun F3 => lf7 fL_isDrilled_19 100 a2 a3 v1 (-1 : Int32) (0 : Int32) Z F3))
def rmL_isDrilled : Room := { frames := 10, cells := 8, slots := 48, locals := 189 }
set_option maxHeartbeats 8000000 in
set_option maxRecDepth 100000 in
theorem mL_isDrilled (l : Launch) (hfl : l.stackTraces = false) (D : va_G) (G : CGT) (A : Nat → Prop) (ad : Nat → Nat → Nat) (Z : CZ) (a2 : Int32) (a3 : Int32) (rz : Int32) (Zz : CZ) (h : fL_isDrilled a2 a3 Z = some (rz, Zz)) : Met l yL_isDrilled wsL_isDrilled rmL_isDrilled (va_Pc [.ref (ad 0 0), .int a2, .int a3] (dP D G A ad Z)) (cQi D G A ad rz Zz) 8 48 A := by
  refine Met.ofW (cc := cL_isDrilled) (maxL := 13) (ret := some .boolean) (by decide) rfl ?_
  intro p e s m args below meth c s₁ B hml hv
  obtain ⟨rfl, ⟨⟨hI, hN, hK⟩, hE⟩, hA⟩ := hv
  have hx := B.exec
  have hb := B.bytes
  have hr := B.returns
  have hts := atoms_spec (ws := wsL_isDrilled) B.pre
  have hown : s.vm.findClass RL = some m.cls := findClass_of_methodNamed B.named
  have hlocks := B.notSynchronized
  have l0 := hts (.arrayClass .int) (List.mem_of_getElem? (i := 1) rfl)
  have hS : va_S A s.heap s.heap [] := va_S.rf
  have hl := lv_entry ([.ref (ad 0 0), .int a2, .int a3]) (n := 13) (Nat.le_of_ble_eq_true rfl)
  rw [lg_entry_eq]
  generalize (lg_sl ([.ref (ad 0 0), .int a2, .int a3]) ++ List.replicate (13 - (lg_sl ([.ref (ad 0 0), .int a2, .int a3])).length) Slot.unset).toArray = ls at hl ⊢
  have hl : lv_has ls 13 [(0, .ref (ad 0 0)), (1, .int a2), (2, .int a3)] := hl
  have w71 : ∀ (k19 : Int32 → Int32 → Int32 → Int32 → Int32 → CZ → (Nat → Int32) → Option (Int32 × CZ)) (hk19 : (∀ (x1 : Int32) (x2 : Int32) (x3 : Int32) (x5 : Int32) (x6 : Int32) (Z : CZ) (F : Nat → Int32), k19 x1 x2 x3 x5 x6 Z F = some (rz, Zz) → (∀ q : Nat, A q → tG p l e (headSpec wsL_isDrilled rmL_isDrilled).room s m (([.ref (ad 0 0), .int a2, .int a3] : List Value).toArray) below meth c (MQ below (cQi D G A ad rz Zz) (([.ref (ad 0 0), .int a2, .int a3] : List Value).toArray) s 8 48 A) D G A (fun y => A y ∧ y ≠ q) ad q 8 2 12 13 Z F 19 [(0, .ref (ad 0 0)), (1, .int x1), (2, .int x2), (3, .int x3), (4, .ref q), (5, .int x5), (6, .int x6)] []))) (x1 : Int32) (x2 : Int32) (x3 : Int32) (x6 : Int32) (t0 : Int32) (Z : CZ) (F : Nat → Int32), fL_isDrilled_71 k19 x1 x2 x3 x6 t0 Z F = some (rz, Zz) → (∀ q : Nat, A q → tG p l e (headSpec wsL_isDrilled rmL_isDrilled).room s m (([.ref (ad 0 0), .int a2, .int a3] : List Value).toArray) below meth c (MQ below (cQi D G A ad rz Zz) (([.ref (ad 0 0), .int a2, .int a3] : List Value).toArray) s 8 48 A) D G A (fun y => A y ∧ y ≠ q) ad q 8 2 12 13 Z F 71 [(0, .ref (ad 0 0)), (1, .int x1), (2, .int x2), (3, .int x3), (4, .ref q), (6, .int x6)] [.int t0]) := by
    intro k19 hk19 x1 x2 x3 x6 t0 Z F h q hqA H locs ls hI hN hq hS hl
    unfold fL_isDrilled_71 at h
    refine lv_istore (lv' := [(5, .int t0), (0, .ref (ad 0 0)), (1, .int x1), (2, .int x2), (3, .int x3), (4, .ref q), (6, .int x6)]) hx hb dL_isDrilled_71 hl (by decide) rfl (fun ls hl => ?_)
    obtain ⟨v16, ev16⟩ : ∃ y : Int32, y = (x6 + (1 : Int32)) := ⟨_, rfl⟩
    have h := bnd_ok h ev16
    refine lv_iinc (v := v16) (lv' := [(6, .int v16), (5, .int t0), (0, .ref (ad 0 0)), (1, .int x1), (2, .int x2), (3, .int x3), (4, .ref q)]) hx hb dL_isDrilled_73 hl (k := 6) rfl (by rw [ev16]; rfl) (by decide) rfl (fun ls hl => ?_)
    refine lv_goto (tgt := 19) hx hb dL_isDrilled_76 (by decide) ?_
    exact hk19 x1 x2 x3 t0 v16 Z F h q hqA _ _ _ hI hN hq hS (lv_sub hl [2, 3, 4, 5, 6, 1, 0] rfl)
  have w135 : ∀ (t0 : Int32) (Z : CZ) (F : Nat → Int32), fL_isDrilled_135  t0 Z F = some (rz, Zz) → (∀ q : Nat, A q → tG p l e (headSpec wsL_isDrilled rmL_isDrilled).room s m (([.ref (ad 0 0), .int a2, .int a3] : List Value).toArray) below meth c (MQ below (cQi D G A ad rz Zz) (([.ref (ad 0 0), .int a2, .int a3] : List Value).toArray) s 8 48 A) D G A (fun y => A y ∧ y ≠ q) ad q 8 5 30 13 Z F 135 [] [.int t0]) := by
    intro  t0 Z F h q hqA H locs ls hI hN hq hS hl
    unfold fL_isDrilled_135 at h
    obtain ⟨g31, h⟩ := gd_ok h
    refine W.widen (k := 8) (n := 48) (by decide) (by decide) ?_
    exact W.zret hx hb hr (gbo_ok g31) (cg_endi h (cI_wide hI (fun _ z => z.1)) hK hN hS) (fun z hz => hS.2.2 z hz) dL_isDrilled_135
  have w130 : ∀ (Z : CZ) (F : Nat → Int32), fL_isDrilled_130  Z F = some (rz, Zz) → (∀ q : Nat, A q → tG p l e (headSpec wsL_isDrilled rmL_isDrilled).room s m (([.ref (ad 0 0), .int a2, .int a3] : List Value).toArray) below meth c (MQ below (cQi D G A ad rz Zz) (([.ref (ad 0 0), .int a2, .int a3] : List Value).toArray) s 8 48 A) D G A (fun y => A y ∧ y ≠ q) ad q 8 5 30 13 Z F 130 [] []) := by
    intro  Z F h q hqA H locs ls hI hN hq hS hl
    unfold fL_isDrilled_130 at h
    refine lv_iconst (v := (1 : Int32)) hx hb dL_isDrilled_130 (by decide) ?_
    refine lv_goto (tgt := 135) hx hb dL_isDrilled_131 (by decide) ?_
    exact w135  (1 : Int32) Z F h q hqA _ _ _ hI hN hq hS (lv_sub hl [] rfl)
  have w351 : ∀ (k193 : Int32 → Int32 → Int32 → Int32 → Int32 → Int32 → Int32 → CZ → (Nat → Int32) → Option (Int32 × CZ)) (hk193 : (∀ (x1 : Int32) (x2 : Int32) (x3 : Int32) (x7 : Int32) (x8 : Int32) (x9 : Int32) (x10 : Int32) (Z : CZ) (F : Nat → Int32), k193 x1 x2 x3 x7 x8 x9 x10 Z F = some (rz, Zz) → (∀ q : Nat, A q → tG p l e (headSpec wsL_isDrilled rmL_isDrilled).room s m (([.ref (ad 0 0), .int a2, .int a3] : List Value).toArray) below meth c (MQ below (cQi D G A ad rz Zz) (([.ref (ad 0 0), .int a2, .int a3] : List Value).toArray) s 8 48 A) D G A (fun y => A y ∧ y ≠ q) ad q 8 8 48 13 Z F 193 [(0, .ref (ad 0 0)), (1, .int x1), (2, .int x2), (3, .int x3), (4, .ref q), (7, .int x7), (8, .int x8), (9, .int x9), (10, .int x10)] []))) (x1 : Int32) (x2 : Int32) (x3 : Int32) (x7 : Int32) (x8 : Int32) (x10 : Int32) (t0 : Int32) (Z : CZ) (F : Nat → Int32), fL_isDrilled_351 k193 x1 x2 x3 x7 x8 x10 t0 Z F = some (rz, Zz) → (∀ q : Nat, A q → tG p l e (headSpec wsL_isDrilled rmL_isDrilled).room s m (([.ref (ad 0 0), .int a2, .int a3] : List Value).toArray) below meth c (MQ below (cQi D G A ad rz Zz) (([.ref (ad 0 0), .int a2, .int a3] : List Value).toArray) s 8 48 A) D G A (fun y => A y ∧ y ≠ q) ad q 8 8 48 13 Z F 351 [(0, .ref (ad 0 0)), (1, .int x1), (2, .int x2), (3, .int x3), (4, .ref q), (7, .int x7), (8, .int x8), (10, .int x10)] [.int t0]) := by
    intro k193 hk193 x1 x2 x3 x7 x8 x10 t0 Z F h q hqA H locs ls hI hN hq hS hl
    unfold fL_isDrilled_351 at h
    refine lv_istore (lv' := [(9, .int t0), (0, .ref (ad 0 0)), (1, .int x1), (2, .int x2), (3, .int x3), (4, .ref q), (7, .int x7), (8, .int x8), (10, .int x10)]) hx hb dL_isDrilled_351 hl (by decide) rfl (fun ls hl => ?_)
    obtain ⟨v43, ev43⟩ : ∃ y : Int32, y = (x10 + (1 : Int32)) := ⟨_, rfl⟩
    have h := bnd_ok h ev43
    refine lv_iinc (v := v43) (lv' := [(10, .int v43), (9, .int t0), (0, .ref (ad 0 0)), (1, .int x1), (2, .int x2), (3, .int x3), (4, .ref q), (7, .int x7), (8, .int x8)]) hx hb dL_isDrilled_353 hl (k := 8) rfl (by rw [ev43]; rfl) (by decide) rfl (fun ls hl => ?_)
    refine lv_goto (tgt := 193) hx hb dL_isDrilled_356 (by decide) ?_
    exact hk193 x1 x2 x3 x7 x8 t0 v43 Z F h q hqA _ _ _ hI hN hq hS (lv_sub hl [2, 3, 4, 5, 6, 7, 8, 1, 0] rfl)
  have w316 : ∀ (k193 : Int32 → Int32 → Int32 → Int32 → Int32 → Int32 → Int32 → CZ → (Nat → Int32) → Option (Int32 × CZ)) (hk193 : (∀ (x1 : Int32) (x2 : Int32) (x3 : Int32) (x7 : Int32) (x8 : Int32) (x9 : Int32) (x10 : Int32) (Z : CZ) (F : Nat → Int32), k193 x1 x2 x3 x7 x8 x9 x10 Z F = some (rz, Zz) → (∀ q : Nat, A q → tG p l e (headSpec wsL_isDrilled rmL_isDrilled).room s m (([.ref (ad 0 0), .int a2, .int a3] : List Value).toArray) below meth c (MQ below (cQi D G A ad rz Zz) (([.ref (ad 0 0), .int a2, .int a3] : List Value).toArray) s 8 48 A) D G A (fun y => A y ∧ y ≠ q) ad q 8 8 48 13 Z F 193 [(0, .ref (ad 0 0)), (1, .int x1), (2, .int x2), (3, .int x3), (4, .ref q), (7, .int x7), (8, .int x8), (9, .int x9), (10, .int x10)] []))) (x1 : Int32) (x2 : Int32) (x3 : Int32) (x7 : Int32) (x8 : Int32) (x10 : Int32) (t0 : Int32) (t1 : Int32) (Z : CZ) (F : Nat → Int32), fL_isDrilled_316 k193 x1 x2 x3 x7 x8 x10 t0 t1 Z F = some (rz, Zz) → (∀ q : Nat, A q → tG p l e (headSpec wsL_isDrilled rmL_isDrilled).room s m (([.ref (ad 0 0), .int a2, .int a3] : List Value).toArray) below meth c (MQ below (cQi D G A ad rz Zz) (([.ref (ad 0 0), .int a2, .int a3] : List Value).toArray) s 8 48 A) D G A (fun y => A y ∧ y ≠ q) ad q 8 8 48 13 Z F 316 [(0, .ref (ad 0 0)), (1, .int x1), (2, .int x2), (3, .int x3), (4, .ref q), (7, .int x7), (8, .int x8), (10, .int x10)] [.int t0, .int t1]) := by
    intro k193 hk193 x1 x2 x3 x7 x8 x10 t0 t1 Z F h q hqA H locs ls hI hN hq hS hl
    unfold fL_isDrilled_316 at h
    refine lv_icmp_ne (tgt := 323) hx hb dL_isDrilled_316 (by decide) (fun hc => ?_) (fun hc => ?_)
    · have h := ite_f h hc
      refine lv_iconst (v := (0 : Int32)) hx hb dL_isDrilled_323 (by decide) ?_
      refine lv_goto (tgt := 351) hx hb dL_isDrilled_324 (by decide) ?_
      exact w351 k193 hk193 x1 x2 x3 x7 x8 x10 (0 : Int32) Z F h q hqA _ _ _ hI hN hq hS (lv_sub hl [0, 1, 2, 3, 4, 5, 6, 7] rfl)
    · have h := ite_t h hc
      refine lv_iconst (v := (1 : Int32)) hx hb dL_isDrilled_319 (by decide) ?_
      refine lv_goto (tgt := 351) hx hb dL_isDrilled_320 (by decide) ?_
      exact w351 k193 hk193 x1 x2 x3 x7 x8 x10 (1 : Int32) Z F h q hqA _ _ _ hI hN hq hS (lv_sub hl [0, 1, 2, 3, 4, 5, 6, 7] rfl)
  have w346 : ∀ (k193 : Int32 → Int32 → Int32 → Int32 → Int32 → Int32 → Int32 → CZ → (Nat → Int32) → Option (Int32 × CZ)) (hk193 : (∀ (x1 : Int32) (x2 : Int32) (x3 : Int32) (x7 : Int32) (x8 : Int32) (x9 : Int32) (x10 : Int32) (Z : CZ) (F : Nat → Int32), k193 x1 x2 x3 x7 x8 x9 x10 Z F = some (rz, Zz) → (∀ q : Nat, A q → tG p l e (headSpec wsL_isDrilled rmL_isDrilled).room s m (([.ref (ad 0 0), .int a2, .int a3] : List Value).toArray) below meth c (MQ below (cQi D G A ad rz Zz) (([.ref (ad 0 0), .int a2, .int a3] : List Value).toArray) s 8 48 A) D G A (fun y => A y ∧ y ≠ q) ad q 8 8 48 13 Z F 193 [(0, .ref (ad 0 0)), (1, .int x1), (2, .int x2), (3, .int x3), (4, .ref q), (7, .int x7), (8, .int x8), (9, .int x9), (10, .int x10)] []))) (x1 : Int32) (x2 : Int32) (x3 : Int32) (x7 : Int32) (x8 : Int32) (x10 : Int32) (Z : CZ) (F : Nat → Int32), fL_isDrilled_346 k193 x1 x2 x3 x7 x8 x10 Z F = some (rz, Zz) → (∀ q : Nat, A q → tG p l e (headSpec wsL_isDrilled rmL_isDrilled).room s m (([.ref (ad 0 0), .int a2, .int a3] : List Value).toArray) below meth c (MQ below (cQi D G A ad rz Zz) (([.ref (ad 0 0), .int a2, .int a3] : List Value).toArray) s 8 48 A) D G A (fun y => A y ∧ y ≠ q) ad q 8 8 48 13 Z F 346 [(0, .ref (ad 0 0)), (1, .int x1), (2, .int x2), (3, .int x3), (4, .ref q), (7, .int x7), (8, .int x8), (10, .int x10)] []) := by
    intro k193 hk193 x1 x2 x3 x7 x8 x10 Z F h q hqA H locs ls hI hN hq hS hl
    unfold fL_isDrilled_346 at h
    refine lv_iconst (v := (1 : Int32)) hx hb dL_isDrilled_346 (by decide) ?_
    refine lv_goto (tgt := 351) hx hb dL_isDrilled_347 (by decide) ?_
    exact w351 k193 hk193 x1 x2 x3 x7 x8 x10 (1 : Int32) Z F h q hqA _ _ _ hI hN hq hS (lv_sub hl [0, 1, 2, 3, 4, 5, 6, 7] rfl)
  have w269 : ∀ (k193 : Int32 → Int32 → Int32 → Int32 → Int32 → Int32 → Int32 → CZ → (Nat → Int32) → Option (Int32 × CZ)) (hk193 : (∀ (x1 : Int32) (x2 : Int32) (x3 : Int32) (x7 : Int32) (x8 : Int32) (x9 : Int32) (x10 : Int32) (Z : CZ) (F : Nat → Int32), k193 x1 x2 x3 x7 x8 x9 x10 Z F = some (rz, Zz) → (∀ q : Nat, A q → tG p l e (headSpec wsL_isDrilled rmL_isDrilled).room s m (([.ref (ad 0 0), .int a2, .int a3] : List Value).toArray) below meth c (MQ below (cQi D G A ad rz Zz) (([.ref (ad 0 0), .int a2, .int a3] : List Value).toArray) s 8 48 A) D G A (fun y => A y ∧ y ≠ q) ad q 8 8 48 13 Z F 193 [(0, .ref (ad 0 0)), (1, .int x1), (2, .int x2), (3, .int x3), (4, .ref q), (7, .int x7), (8, .int x8), (9, .int x9), (10, .int x10)] []))) (x1 : Int32) (x2 : Int32) (x3 : Int32) (x7 : Int32) (x10 : Int32) (x11 : Int32) (x12 : Int32) (t0 : Int32) (t1 : Int32) (Z : CZ) (F : Nat → Int32), fL_isDrilled_269 k193 x1 x2 x3 x7 x10 x11 x12 t0 t1 Z F = some (rz, Zz) → (∀ q : Nat, A q → tG p l e (headSpec wsL_isDrilled rmL_isDrilled).room s m (([.ref (ad 0 0), .int a2, .int a3] : List Value).toArray) below meth c (MQ below (cQi D G A ad rz Zz) (([.ref (ad 0 0), .int a2, .int a3] : List Value).toArray) s 8 48 A) D G A (fun y => A y ∧ y ≠ q) ad q 8 8 48 13 Z F 269 [(0, .ref (ad 0 0)), (1, .int x1), (2, .int x2), (3, .int x3), (4, .ref q), (7, .int x7), (10, .int x10), (11, .int x11), (12, .int x12)] [.int t0, .int t1]) := by
    intro k193 hk193 x1 x2 x3 x7 x10 x11 x12 t0 t1 Z F h q hqA H locs ls hI hN hq hS hl
    unfold fL_isDrilled_269 at h
    refine lv_iadd hx hb dL_isDrilled_269 ?_
    refine lv_topi (fun v36 ev36 => ?_)
    have h := bnd_ok h ev36
    refine lv_istore (lv' := [(8, .int v36), (0, .ref (ad 0 0)), (1, .int x1), (2, .int x2), (3, .int x3), (4, .ref q), (7, .int x7), (10, .int x10), (11, .int x11), (12, .int x12)]) hx hb dL_isDrilled_270 hl (by decide) rfl (fun ls hl => ?_)
    refine lv_aload hx hb dL_isDrilled_272 (lv_at hl 5 rfl) ?_
    refine lv_iload hx hb dL_isDrilled_274 (lv_at hl 7 rfl) ?_
    obtain ⟨g37, h⟩ := gd_ok h
    refine sg_ild hx hb hK hq (gin_ok g37) dL_isDrilled_276 ?_
    refine lv_iconst (v := (1 : Int32)) hx hb dL_isDrilled_277 (by decide) ?_
    refine lv_icmp_ne (tgt := 295) hx hb dL_isDrilled_278 (by decide) (fun hc => ?_) (fun hc => ?_)
    · have h := ite_f h hc
      refine lv_aload hx hb dL_isDrilled_295 (lv_at hl 5 rfl) ?_
      refine lv_iload hx hb dL_isDrilled_297 (lv_at hl 7 rfl) ?_
      obtain ⟨g38, h⟩ := gd_ok h
      refine sg_ild hx hb hK hq (gin_ok g38) dL_isDrilled_299 ?_
      refine lv_iconst (v := (2 : Int32)) hx hb dL_isDrilled_300 (by decide) ?_
      refine lv_icmp_ne (tgt := 327) hx hb dL_isDrilled_301 (by decide) (fun hc => ?_) (fun hc => ?_)
      · have h := ite_f h hc
        refine lv_iload hx hb dL_isDrilled_327 (lv_at hl 8 rfl) ?_
        refine lv_iconst (v := (2 : Int32)) hx hb dL_isDrilled_329 (by decide) ?_
        refine lv_icmp_lt (tgt := 346) hx hb dL_isDrilled_330 (by decide) (fun hc => ?_) (fun hc => ?_)
        · have h := ite_t h hc
          exact w346 k193 hk193 x1 x2 x3 x7 v36 x10 Z F h q hqA _ _ _ hI hN hq hS (lv_sub hl [1, 2, 3, 4, 5, 6, 0, 7] rfl)
        · have h := ite_f h hc
          refine lv_aload_n hx hb dL_isDrilled_333 rfl (lv_at hl 1 rfl) ?_
          refine lv_iload_n hx hb dL_isDrilled_334 rfl (lv_at hl 2 rfl) ?_
          refine lv_iload hx hb dL_isDrilled_335 (lv_at hl 7 rfl) ?_
          refine lv_aload hx hb dL_isDrilled_337 (lv_at hl 5 rfl) ?_
          refine lv_iload_n hx hb dL_isDrilled_339 rfl (lv_at hl 4 rfl) ?_
          obtain ⟨v39, Z41, c40, h⟩ := cl2_ok h
          refine sg_calli (va_runS (As := [.ref (ad 0 0), .int x1, .int x10, .ref q, .int x3]) (rest := []) ⟨hx, hb, hml, hown, hts⟩ (mL_isLearnt l hfl D G (fun y => A y ∧ y ≠ q) ad Z q F x1 x10 x3 v39 Z41 c40) (va_cwS 5 hts gL_isDrilled_L_isLearnt rfl rfl rfl (by decide +kernel) ⟨Nat.le_of_ble_eq_true rfl, Nat.le_of_ble_eq_true rfl⟩) (eg_preS hI hK hN hE hS (fun _ h => h.1) hq (fun z => z.2 rfl)) rfl rfl hl.1 rfl (lv_room (Nat.le_of_ble_eq_true rfl)) dL_isDrilled_340 ⟨Nat.le_of_ble_eq_true rfl, Nat.le_of_ble_eq_true rfl⟩) hS (fun _ h => h.1) hq (fun z => z.2 rfl) ⟨_, rfl⟩ (fun H locs hI hN hq hS => ?_)
          refine W.widen (k := 8) (n := 48) (by decide) (by decide) ?_
          refine lv_if_eq (tgt := 350) hx hb dL_isDrilled_343 (by decide) (fun hc => ?_) (fun hc => ?_)
          · have h := ite_t h hc
            refine lv_iconst (v := (0 : Int32)) hx hb dL_isDrilled_350 (by decide) ?_
            exact w351 k193 hk193 x1 x2 x3 x7 v36 x10 (0 : Int32) Z41 F h q hqA _ _ _ hI hN hq hS (lv_sub hl [1, 2, 3, 4, 5, 6, 0, 7] rfl)
          · have h := ite_f h hc
            exact w346 k193 hk193 x1 x2 x3 x7 v36 x10 Z41 F h q hqA _ _ _ hI hN hq hS (lv_sub hl [1, 2, 3, 4, 5, 6, 0, 7] rfl)
      · have h := ite_t h hc
        refine lv_iload hx hb dL_isDrilled_304 (lv_at hl 8 rfl) ?_
        refine lv_iload hx hb dL_isDrilled_306 (lv_at hl 9 rfl) ?_
        refine lv_if_eq (tgt := 315) hx hb dL_isDrilled_308 (by decide) (fun hc => ?_) (fun hc => ?_)
        · have h := ite_t h hc
          refine lv_iconst (v := (2 : Int32)) hx hb dL_isDrilled_315 (by decide) ?_
          exact w316 k193 hk193 x1 x2 x3 x7 v36 x10 (2 : Int32) x11 Z F h q hqA _ _ _ hI hN hq hS (lv_sub hl [1, 2, 3, 4, 5, 6, 0, 7] rfl)
        · have h := ite_f h hc
          refine lv_iconst (v := (1 : Int32)) hx hb dL_isDrilled_311 (by decide) ?_
          refine lv_goto (tgt := 316) hx hb dL_isDrilled_312 (by decide) ?_
          exact w316 k193 hk193 x1 x2 x3 x7 v36 x10 (1 : Int32) x11 Z F h q hqA _ _ _ hI hN hq hS (lv_sub hl [1, 2, 3, 4, 5, 6, 0, 7] rfl)
    · have h := ite_t h hc
      refine lv_iload hx hb dL_isDrilled_281 (lv_at hl 8 rfl) ?_
      refine lv_iconst (v := (1 : Int32)) hx hb dL_isDrilled_283 (by decide) ?_
      refine lv_icmp_ne (tgt := 291) hx hb dL_isDrilled_284 (by decide) (fun hc => ?_) (fun hc => ?_)
      · have h := ite_f h hc
        refine lv_iconst (v := (0 : Int32)) hx hb dL_isDrilled_291 (by decide) ?_
        refine lv_goto (tgt := 351) hx hb dL_isDrilled_292 (by decide) ?_
        exact w351 k193 hk193 x1 x2 x3 x7 v36 x10 (0 : Int32) Z F h q hqA _ _ _ hI hN hq hS (lv_sub hl [1, 2, 3, 4, 5, 6, 0, 7] rfl)
      · have h := ite_t h hc
        refine lv_iconst (v := (1 : Int32)) hx hb dL_isDrilled_287 (by decide) ?_
        refine lv_goto (tgt := 351) hx hb dL_isDrilled_288 (by decide) ?_
        exact w351 k193 hk193 x1 x2 x3 x7 v36 x10 (1 : Int32) Z F h q hqA _ _ _ hI hN hq hS (lv_sub hl [1, 2, 3, 4, 5, 6, 0, 7] rfl)
  have w254 : ∀ (k193 : Int32 → Int32 → Int32 → Int32 → Int32 → Int32 → Int32 → CZ → (Nat → Int32) → Option (Int32 × CZ)) (hk193 : (∀ (x1 : Int32) (x2 : Int32) (x3 : Int32) (x7 : Int32) (x8 : Int32) (x9 : Int32) (x10 : Int32) (Z : CZ) (F : Nat → Int32), k193 x1 x2 x3 x7 x8 x9 x10 Z F = some (rz, Zz) → (∀ q : Nat, A q → tG p l e (headSpec wsL_isDrilled rmL_isDrilled).room s m (([.ref (ad 0 0), .int a2, .int a3] : List Value).toArray) below meth c (MQ below (cQi D G A ad rz Zz) (([.ref (ad 0 0), .int a2, .int a3] : List Value).toArray) s 8 48 A) D G A (fun y => A y ∧ y ≠ q) ad q 8 8 48 13 Z F 193 [(0, .ref (ad 0 0)), (1, .int x1), (2, .int x2), (3, .int x3), (4, .ref q), (7, .int x7), (8, .int x8), (9, .int x9), (10, .int x10)] []))) (x1 : Int32) (x2 : Int32) (x3 : Int32) (x7 : Int32) (x8 : Int32) (x10 : Int32) (x11 : Int32) (t0 : Int32) (Z : CZ) (F : Nat → Int32), fL_isDrilled_254 k193 x1 x2 x3 x7 x8 x10 x11 t0 Z F = some (rz, Zz) → (∀ q : Nat, A q → tG p l e (headSpec wsL_isDrilled rmL_isDrilled).room s m (([.ref (ad 0 0), .int a2, .int a3] : List Value).toArray) below meth c (MQ below (cQi D G A ad rz Zz) (([.ref (ad 0 0), .int a2, .int a3] : List Value).toArray) s 8 48 A) D G A (fun y => A y ∧ y ≠ q) ad q 8 8 48 13 Z F 254 [(0, .ref (ad 0 0)), (1, .int x1), (2, .int x2), (3, .int x3), (4, .ref q), (7, .int x7), (8, .int x8), (10, .int x10), (11, .int x11)] [.int t0]) := by
    intro k193 hk193 x1 x2 x3 x7 x8 x10 x11 t0 Z F h q hqA H locs ls hI hN hq hS hl
    unfold fL_isDrilled_254 at h
    refine lv_istore (lv' := [(12, .int t0), (0, .ref (ad 0 0)), (1, .int x1), (2, .int x2), (3, .int x3), (4, .ref q), (7, .int x7), (8, .int x8), (10, .int x10), (11, .int x11)]) hx hb dL_isDrilled_254 hl (by decide) rfl (fun ls hl => ?_)
    refine lv_iload hx hb dL_isDrilled_256 (lv_at hl 7 rfl) ?_
    refine lv_iload hx hb dL_isDrilled_258 (lv_at hl 9 rfl) ?_
    refine lv_iconst (v := (1 : Int32)) hx hb dL_isDrilled_260 (by decide) ?_
    refine lv_icmp_ne (tgt := 268) hx hb dL_isDrilled_261 (by decide) (fun hc => ?_) (fun hc => ?_)
    · have h := ite_f h hc
      refine lv_iconst (v := (0 : Int32)) hx hb dL_isDrilled_268 (by decide) ?_
      exact w269 k193 hk193 x1 x2 x3 x7 x10 x11 t0 (0 : Int32) x8 Z F h q hqA _ _ _ hI hN hq hS (lv_sub hl [1, 2, 3, 4, 5, 6, 8, 9, 0] rfl)
    · have h := ite_t h hc
      refine lv_iconst (v := (1 : Int32)) hx hb dL_isDrilled_264 (by decide) ?_
      refine lv_goto (tgt := 269) hx hb dL_isDrilled_265 (by decide) ?_
      exact w269 k193 hk193 x1 x2 x3 x7 x10 x11 t0 (1 : Int32) x8 Z F h q hqA _ _ _ hI hN hq hS (lv_sub hl [1, 2, 3, 4, 5, 6, 8, 9, 0] rfl)
  have w253 : ∀ (k193 : Int32 → Int32 → Int32 → Int32 → Int32 → Int32 → Int32 → CZ → (Nat → Int32) → Option (Int32 × CZ)) (hk193 : (∀ (x1 : Int32) (x2 : Int32) (x3 : Int32) (x7 : Int32) (x8 : Int32) (x9 : Int32) (x10 : Int32) (Z : CZ) (F : Nat → Int32), k193 x1 x2 x3 x7 x8 x9 x10 Z F = some (rz, Zz) → (∀ q : Nat, A q → tG p l e (headSpec wsL_isDrilled rmL_isDrilled).room s m (([.ref (ad 0 0), .int a2, .int a3] : List Value).toArray) below meth c (MQ below (cQi D G A ad rz Zz) (([.ref (ad 0 0), .int a2, .int a3] : List Value).toArray) s 8 48 A) D G A (fun y => A y ∧ y ≠ q) ad q 8 8 48 13 Z F 193 [(0, .ref (ad 0 0)), (1, .int x1), (2, .int x2), (3, .int x3), (4, .ref q), (7, .int x7), (8, .int x8), (9, .int x9), (10, .int x10)] []))) (x1 : Int32) (x2 : Int32) (x3 : Int32) (x7 : Int32) (x8 : Int32) (x10 : Int32) (x11 : Int32) (Z : CZ) (F : Nat → Int32), fL_isDrilled_253 k193 x1 x2 x3 x7 x8 x10 x11 Z F = some (rz, Zz) → (∀ q : Nat, A q → tG p l e (headSpec wsL_isDrilled rmL_isDrilled).room s m (([.ref (ad 0 0), .int a2, .int a3] : List Value).toArray) below meth c (MQ below (cQi D G A ad rz Zz) (([.ref (ad 0 0), .int a2, .int a3] : List Value).toArray) s 8 48 A) D G A (fun y => A y ∧ y ≠ q) ad q 8 8 48 13 Z F 253 [(0, .ref (ad 0 0)), (1, .int x1), (2, .int x2), (3, .int x3), (4, .ref q), (7, .int x7), (8, .int x8), (10, .int x10), (11, .int x11)] []) := by
    intro k193 hk193 x1 x2 x3 x7 x8 x10 x11 Z F h q hqA H locs ls hI hN hq hS hl
    unfold fL_isDrilled_253 at h
    refine lv_iconst (v := (0 : Int32)) hx hb dL_isDrilled_253 (by decide) ?_
    exact w254 k193 hk193 x1 x2 x3 x7 x8 x10 x11 (0 : Int32) Z F h q hqA _ _ _ hI hN hq hS (lv_sub hl [0, 1, 2, 3, 4, 5, 6, 7, 8] rfl)
  have w376 : ∀ (t0 : Int32) (Z : CZ) (F : Nat → Int32), fL_isDrilled_376  t0 Z F = some (rz, Zz) → (∀ q : Nat, A q → tG p l e (headSpec wsL_isDrilled rmL_isDrilled).room s m (([.ref (ad 0 0), .int a2, .int a3] : List Value).toArray) below meth c (MQ below (cQi D G A ad rz Zz) (([.ref (ad 0 0), .int a2, .int a3] : List Value).toArray) s 8 48 A) D G A (fun y => A y ∧ y ≠ q) ad q 8 8 48 13 Z F 376 [] [.int t0]) := by
    intro  t0 Z F h q hqA H locs ls hI hN hq hS hl
    unfold fL_isDrilled_376 at h
    obtain ⟨g42, h⟩ := gd_ok h
    refine W.widen (k := 8) (n := 48) (by decide) (by decide) ?_
    exact W.zret hx hb hr (gbo_ok g42) (cg_endi h (cI_wide hI (fun _ z => z.1)) hK hN hS) (fun z hz => hS.2.2 z hz) dL_isDrilled_376
  have w375 : ∀ (Z : CZ) (F : Nat → Int32), fL_isDrilled_375  Z F = some (rz, Zz) → (∀ q : Nat, A q → tG p l e (headSpec wsL_isDrilled rmL_isDrilled).room s m (([.ref (ad 0 0), .int a2, .int a3] : List Value).toArray) below meth c (MQ below (cQi D G A ad rz Zz) (([.ref (ad 0 0), .int a2, .int a3] : List Value).toArray) s 8 48 A) D G A (fun y => A y ∧ y ≠ q) ad q 8 8 48 13 Z F 375 [] []) := by
    intro  Z F h q hqA H locs ls hI hN hq hS hl
    unfold fL_isDrilled_375 at h
    refine lv_iconst (v := (0 : Int32)) hx hb dL_isDrilled_375 (by decide) ?_
    exact w376  (0 : Int32) Z F h q hqA _ _ _ hI hN hq hS (lv_sub hl [] rfl)
  have w359 : ∀ (x7 : Int32) (x8 : Int32) (x9 : Int32) (Z : CZ) (F : Nat → Int32), fL_isDrilled_359  x7 x8 x9 Z F = some (rz, Zz) → (∀ q : Nat, A q → tG p l e (headSpec wsL_isDrilled rmL_isDrilled).room s m (([.ref (ad 0 0), .int a2, .int a3] : List Value).toArray) below meth c (MQ below (cQi D G A ad rz Zz) (([.ref (ad 0 0), .int a2, .int a3] : List Value).toArray) s 8 48 A) D G A (fun y => A y ∧ y ≠ q) ad q 8 8 48 13 Z F 359 [(7, .int x7), (8, .int x8), (9, .int x9)] []) := by
    intro  x7 x8 x9 Z F h q hqA H locs ls hI hN hq hS hl
    unfold fL_isDrilled_359 at h
    refine lv_iload hx hb dL_isDrilled_359 (lv_at hl 2 rfl) ?_
    refine lv_if_eq (tgt := 375) hx hb dL_isDrilled_361 (by decide) (fun hc => ?_) (fun hc => ?_)
    · have h := ite_t h hc
      exact w375  Z F h q hqA _ _ _ hI hN hq hS (lv_sub hl [] rfl)
    · have h := ite_f h hc
      refine lv_iload hx hb dL_isDrilled_364 (lv_at hl 0 rfl) ?_
      refine lv_iload hx hb dL_isDrilled_366 (lv_at hl 1 rfl) ?_
      refine lv_icmp_ne (tgt := 375) hx hb dL_isDrilled_368 (by decide) (fun hc => ?_) (fun hc => ?_)
      · have h := ite_f h hc
        exact w375  Z F h q hqA _ _ _ hI hN hq hS (lv_sub hl [] rfl)
      · have h := ite_t h hc
        refine lv_iconst (v := (1 : Int32)) hx hb dL_isDrilled_371 (by decide) ?_
        refine lv_goto (tgt := 376) hx hb dL_isDrilled_372 (by decide) ?_
        exact w376  (1 : Int32) Z F h q hqA _ _ _ hI hN hq hS (lv_sub hl [] rfl)
  have w193 : ∀ (x1 : Int32) (x2 : Int32) (x3 : Int32) (x7 : Int32) (x8 : Int32) (x9 : Int32) (x10 : Int32) (Z : CZ) (F : Nat → Int32), lf9 fL_isDrilled_193 100 x1 x2 x3 x7 x8 x9 x10 Z F = some (rz, Zz) → (∀ q : Nat, A q → tG p l e (headSpec wsL_isDrilled rmL_isDrilled).room s m (([.ref (ad 0 0), .int a2, .int a3] : List Value).toArray) below meth c (MQ below (cQi D G A ad rz Zz) (([.ref (ad 0 0), .int a2, .int a3] : List Value).toArray) s 8 48 A) D G A (fun y => A y ∧ y ≠ q) ad q 8 8 48 13 Z F 193 [(0, .ref (ad 0 0)), (1, .int x1), (2, .int x2), (3, .int x3), (4, .ref q), (7, .int x7), (8, .int x8), (9, .int x9), (10, .int x10)] []) := by
    refine lf9_ok (P := (fun x1 x2 x3 x7 x8 x9 x10 Z F => (∀ q : Nat, A q → tG p l e (headSpec wsL_isDrilled rmL_isDrilled).room s m (([.ref (ad 0 0), .int a2, .int a3] : List Value).toArray) below meth c (MQ below (cQi D G A ad rz Zz) (([.ref (ad 0 0), .int a2, .int a3] : List Value).toArray) s 8 48 A) D G A (fun y => A y ∧ y ≠ q) ad q 8 8 48 13 Z F 193 [(0, .ref (ad 0 0)), (1, .int x1), (2, .int x2), (3, .int x3), (4, .ref q), (7, .int x7), (8, .int x8), (9, .int x9), (10, .int x10)] []))) (fun k193 hk193 x1 x2 x3 x7 x8 x9 x10 Z F h q hqA H locs ls hI hN hq hS hl => ?_) 100
    unfold fL_isDrilled_193 at h
    refine lv_iload hx hb dL_isDrilled_193 (lv_at hl 8 rfl) ?_
    refine lv_iload_n hx hb dL_isDrilled_195 rfl (lv_at hl 3 rfl) ?_
    refine lv_icmp_ge (tgt := 359) hx hb dL_isDrilled_196 (by decide) (fun hc => ?_) (fun hc => ?_)
    · have h := ite_t h hc
      exact w359  x7 x8 x9 Z F h q hqA _ _ _ hI hN hq hS (lv_sub hl [5, 6, 7] rfl)
    · have h := ite_f h hc
      refine lv_iload hx hb dL_isDrilled_199 (lv_at hl 7 rfl) ?_
      refine lv_if_eq (tgt := 359) hx hb dL_isDrilled_201 (by decide) (fun hc => ?_) (fun hc => ?_)
      · have h := ite_t h hc
        exact w359  x7 x8 x9 Z F h q hqA _ _ _ hI hN hq hS (lv_sub hl [5, 6, 7] rfl)
      · have h := ite_f h hc
        refine lv_aload_n hx hb dL_isDrilled_204 rfl (lv_at hl 0 rfl) ?_
        refine lv_iload_n hx hb dL_isDrilled_205 rfl (lv_at hl 1 rfl) ?_
        refine lv_iload hx hb dL_isDrilled_206 (lv_at hl 8 rfl) ?_
        refine lv_iload_n hx hb dL_isDrilled_208 rfl (lv_at hl 2 rfl) ?_
        obtain ⟨v32, c33, h⟩ := cl1_ok h
        refine sg_calli (va_runV (As := [.int x1, .int x10, .int x2]) (rest := []) ⟨hx, hb, hml, hown, hts⟩ (mX6_knows_n l D G (fun y => A y ∧ y ≠ q) ad Z x1 x10 x2 v32  c33) (cwV 3 hts gL_isDrilled_X6_knows rfl rfl rfl (by decide +kernel) ⟨Nat.le_of_ble_eq_true rfl, Nat.le_of_ble_eq_true rfl⟩) (cg_preV hI hK hN rfl rfl (ci := 7) rfl) rfl rfl hl.1 rfl (lv_room (Nat.le_of_ble_eq_true rfl)) dL_isDrilled_209 ⟨Nat.le_of_ble_eq_true rfl, Nat.le_of_ble_eq_true rfl⟩) hS (fun _ h => h.1) hq (fun z => z.2 rfl) ⟨_, rfl⟩ (fun H locs hI hN hq hS => ?_)
        refine W.widen (k := 8) (n := 48) (by decide) (by decide) ?_
        refine lv_istore (lv' := [(11, .int v32), (0, .ref (ad 0 0)), (1, .int x1), (2, .int x2), (3, .int x3), (4, .ref q), (7, .int x7), (8, .int x8), (9, .int x9), (10, .int x10)]) hx hb dL_isDrilled_212 hl (by decide) rfl (fun ls hl => ?_)
        refine lv_iload hx hb dL_isDrilled_214 (lv_at hl 9 rfl) ?_
        refine lv_if_le (tgt := 253) hx hb dL_isDrilled_216 (by decide) (fun hc => ?_) (fun hc => ?_)
        · have h := ite_t h hc
          exact w253 k193 hk193 x1 x2 x3 x7 x8 x10 v32 Z F h q hqA _ _ _ hI hN hq hS (lv_sub hl [1, 2, 3, 4, 5, 6, 7, 9, 0] rfl)
        · have h := ite_f h hc
          refine lv_iload hx hb dL_isDrilled_219 (lv_at hl 9 rfl) ?_
          refine lv_iconst (v := (1 : Int32)) hx hb dL_isDrilled_221 (by decide) ?_
          refine lv_iadd hx hb dL_isDrilled_222 ?_
          refine lv_iload_n hx hb dL_isDrilled_223 rfl (lv_at hl 4 rfl) ?_
          refine lv_icmp_ge (tgt := 253) hx hb dL_isDrilled_224 (by decide) (fun hc => ?_) (fun hc => ?_)
          · have h := ite_t h hc
            exact w253 k193 hk193 x1 x2 x3 x7 x8 x10 v32 Z F h q hqA _ _ _ hI hN hq hS (lv_sub hl [1, 2, 3, 4, 5, 6, 7, 9, 0] rfl)
          · have h := ite_f h hc
            refine lv_aload hx hb dL_isDrilled_227 (lv_at hl 5 rfl) ?_
            refine lv_iload hx hb dL_isDrilled_229 (lv_at hl 9 rfl) ?_
            refine lv_iconst (v := (1 : Int32)) hx hb dL_isDrilled_231 (by decide) ?_
            refine lv_isub hx hb dL_isDrilled_232 ?_
            obtain ⟨g34, h⟩ := gd_ok h
            refine sg_ild hx hb hK hq (gin_ok g34) dL_isDrilled_233 ?_
            refine lv_iconst (v := (1 : Int32)) hx hb dL_isDrilled_234 (by decide) ?_
            refine lv_icmp_ne (tgt := 253) hx hb dL_isDrilled_235 (by decide) (fun hc => ?_) (fun hc => ?_)
            · have h := ite_f h hc
              exact w253 k193 hk193 x1 x2 x3 x7 x8 x10 v32 Z F h q hqA _ _ _ hI hN hq hS (lv_sub hl [1, 2, 3, 4, 5, 6, 7, 9, 0] rfl)
            · have h := ite_t h hc
              refine lv_aload hx hb dL_isDrilled_238 (lv_at hl 5 rfl) ?_
              refine lv_iload hx hb dL_isDrilled_240 (lv_at hl 9 rfl) ?_
              refine lv_iconst (v := (1 : Int32)) hx hb dL_isDrilled_242 (by decide) ?_
              refine lv_iadd hx hb dL_isDrilled_243 ?_
              obtain ⟨g35, h⟩ := gd_ok h
              refine sg_ild hx hb hK hq (gin_ok g35) dL_isDrilled_244 ?_
              refine lv_iconst (v := (1 : Int32)) hx hb dL_isDrilled_245 (by decide) ?_
              refine lv_icmp_ne (tgt := 253) hx hb dL_isDrilled_246 (by decide) (fun hc => ?_) (fun hc => ?_)
              · have h := ite_f h hc
                exact w253 k193 hk193 x1 x2 x3 x7 x8 x10 v32 Z F h q hqA _ _ _ hI hN hq hS (lv_sub hl [1, 2, 3, 4, 5, 6, 7, 9, 0] rfl)
              · have h := ite_t h hc
                refine lv_iconst (v := (1 : Int32)) hx hb dL_isDrilled_249 (by decide) ?_
                refine lv_goto (tgt := 254) hx hb dL_isDrilled_250 (by decide) ?_
                exact w254 k193 hk193 x1 x2 x3 x7 x8 x10 v32 (1 : Int32) Z F h q hqA _ _ _ hI hN hq hS (lv_sub hl [1, 2, 3, 4, 5, 6, 7, 9, 0] rfl)
  have w188 : ∀ (x1 : Int32) (x2 : Int32) (x3 : Int32) (x7 : Int32) (x8 : Int32) (t0 : Int32) (Z : CZ) (F : Nat → Int32), fL_isDrilled_188  x1 x2 x3 x7 x8 t0 Z F = some (rz, Zz) → (∀ q : Nat, A q → tG p l e (headSpec wsL_isDrilled rmL_isDrilled).room s m (([.ref (ad 0 0), .int a2, .int a3] : List Value).toArray) below meth c (MQ below (cQi D G A ad rz Zz) (([.ref (ad 0 0), .int a2, .int a3] : List Value).toArray) s 8 48 A) D G A (fun y => A y ∧ y ≠ q) ad q 8 8 48 13 Z F 188 [(0, .ref (ad 0 0)), (1, .int x1), (2, .int x2), (3, .int x3), (4, .ref q), (7, .int x7), (8, .int x8)] [.int t0]) := by
    intro  x1 x2 x3 x7 x8 t0 Z F h q hqA H locs ls hI hN hq hS hl
    unfold fL_isDrilled_188 at h
    refine lv_istore (lv' := [(9, .int t0), (0, .ref (ad 0 0)), (1, .int x1), (2, .int x2), (3, .int x3), (4, .ref q), (7, .int x7), (8, .int x8)]) hx hb dL_isDrilled_188 hl (by decide) rfl (fun ls hl => ?_)
    refine lv_iconst (v := (0 : Int32)) hx hb dL_isDrilled_190 (by decide) ?_
    refine lv_istore (lv' := [(10, .int (0 : Int32)), (9, .int t0), (0, .ref (ad 0 0)), (1, .int x1), (2, .int x2), (3, .int x3), (4, .ref q), (7, .int x7), (8, .int x8)]) hx hb dL_isDrilled_191 hl (by decide) rfl (fun ls hl => ?_)
    exact w193  x1 x2 x3 x7 x8 t0 (0 : Int32) Z F h q hqA _ _ _ hI hN hq hS (lv_sub hl [2, 3, 4, 5, 6, 7, 8, 1, 0] rfl)
  have w183 : ∀ (x1 : Int32) (x2 : Int32) (x3 : Int32) (x7 : Int32) (x8 : Int32) (Z : CZ) (F : Nat → Int32), fL_isDrilled_183  x1 x2 x3 x7 x8 Z F = some (rz, Zz) → (∀ q : Nat, A q → tG p l e (headSpec wsL_isDrilled rmL_isDrilled).room s m (([.ref (ad 0 0), .int a2, .int a3] : List Value).toArray) below meth c (MQ below (cQi D G A ad rz Zz) (([.ref (ad 0 0), .int a2, .int a3] : List Value).toArray) s 8 48 A) D G A (fun y => A y ∧ y ≠ q) ad q 8 8 48 13 Z F 183 [(0, .ref (ad 0 0)), (1, .int x1), (2, .int x2), (3, .int x3), (4, .ref q), (7, .int x7), (8, .int x8)] []) := by
    intro  x1 x2 x3 x7 x8 Z F h q hqA H locs ls hI hN hq hS hl
    unfold fL_isDrilled_183 at h
    refine lv_iconst (v := (1 : Int32)) hx hb dL_isDrilled_183 (by decide) ?_
    refine lv_goto (tgt := 188) hx hb dL_isDrilled_184 (by decide) ?_
    exact w188  x1 x2 x3 x7 x8 (1 : Int32) Z F h q hqA _ _ _ hI hN hq hS (lv_sub hl [0, 1, 2, 3, 4, 5, 6] rfl)
  have w187 : ∀ (x1 : Int32) (x2 : Int32) (x3 : Int32) (x7 : Int32) (x8 : Int32) (Z : CZ) (F : Nat → Int32), fL_isDrilled_187  x1 x2 x3 x7 x8 Z F = some (rz, Zz) → (∀ q : Nat, A q → tG p l e (headSpec wsL_isDrilled rmL_isDrilled).room s m (([.ref (ad 0 0), .int a2, .int a3] : List Value).toArray) below meth c (MQ below (cQi D G A ad rz Zz) (([.ref (ad 0 0), .int a2, .int a3] : List Value).toArray) s 8 48 A) D G A (fun y => A y ∧ y ≠ q) ad q 8 8 48 13 Z F 187 [(0, .ref (ad 0 0)), (1, .int x1), (2, .int x2), (3, .int x3), (4, .ref q), (7, .int x7), (8, .int x8)] []) := by
    intro  x1 x2 x3 x7 x8 Z F h q hqA H locs ls hI hN hq hS hl
    unfold fL_isDrilled_187 at h
    refine lv_iconst (v := (0 : Int32)) hx hb dL_isDrilled_187 (by decide) ?_
    exact w188  x1 x2 x3 x7 x8 (0 : Int32) Z F h q hqA _ _ _ hI hN hq hS (lv_sub hl [0, 1, 2, 3, 4, 5, 6] rfl)
  have w97 : ∀ (x1 : Int32) (x2 : Int32) (x3 : Int32) (x5 : Int32) (t0 : Int32) (Z : CZ) (F : Nat → Int32), fL_isDrilled_97  x1 x2 x3 x5 t0 Z F = some (rz, Zz) → (∀ q : Nat, A q → tG p l e (headSpec wsL_isDrilled rmL_isDrilled).room s m (([.ref (ad 0 0), .int a2, .int a3] : List Value).toArray) below meth c (MQ below (cQi D G A ad rz Zz) (([.ref (ad 0 0), .int a2, .int a3] : List Value).toArray) s 8 48 A) D G A (fun y => A y ∧ y ≠ q) ad q 8 2 12 13 Z F 97 [(0, .ref (ad 0 0)), (1, .int x1), (2, .int x2), (3, .int x3), (4, .ref q), (5, .int x5)] [.int t0]) := by
    intro  x1 x2 x3 x5 t0 Z F h q hqA H locs ls hI hN hq hS hl
    unfold fL_isDrilled_97 at h
    refine lv_istore (lv' := [(6, .int t0), (0, .ref (ad 0 0)), (1, .int x1), (2, .int x2), (3, .int x3), (4, .ref q), (5, .int x5)]) hx hb dL_isDrilled_97 hl (by decide) rfl (fun ls hl => ?_)
    refine lv_aload_n hx hb dL_isDrilled_99 rfl (lv_at hl 1 rfl) ?_
    refine lv_iload_n hx hb dL_isDrilled_100 rfl (lv_at hl 2 rfl) ?_
    refine lv_iload_n hx hb dL_isDrilled_101 rfl (lv_at hl 3 rfl) ?_
    refine lv_iconst (v := (3 : Int32)) hx hb dL_isDrilled_102 (by decide) ?_
    obtain ⟨v19, Z21, c20, h⟩ := cl2_ok h
    refine sg_callx (vx_runSX (As := [.ref (ad 0 0), .int x1, .int x2, .int (3 : Int32)]) (rest := []) ⟨hx, hb, hml, hown, hts⟩ (mL_acts3 l hfl D G (fun y => A y ∧ y ≠ q) ad Z x1 x2 v19 Z21 c20) (vx_cwSW 4 hts gL_isDrilled_L_acts rfl rfl rfl (by decide +kernel) ⟨Nat.le_of_ble_eq_true rfl, Nat.le_of_ble_eq_true rfl⟩) (sg_preS hI hK hN hE hS (fun _ h => h.1)) rfl rfl hl.1 rfl (lv_room (Nat.le_of_ble_eq_true rfl)) dL_isDrilled_103 ⟨Nat.le_of_ble_eq_true rfl, Nat.le_of_ble_eq_true rfl⟩) hS (fun _ h => h.1) hq (fun z => z.2 rfl) ⟨_, rfl⟩ (fun H locs hI hN hq hS => ?_)
    refine W.widen (k := 5) (n := 30) (by decide) (by decide) ?_
    refine lv_istore (lv' := [(7, .int v19), (6, .int t0), (0, .ref (ad 0 0)), (1, .int x1), (2, .int x2), (3, .int x3), (4, .ref q), (5, .int x5)]) hx hb dL_isDrilled_106 hl (by decide) rfl (fun ls hl => ?_)
    refine lv_iload hx hb dL_isDrilled_108 (lv_at hl 0 rfl) ?_
    refine lv_sipush (v := (-200 : Int32)) hx hb dL_isDrilled_110 (by decide) ?_
    refine lv_icmp_ne (tgt := 136) hx hb dL_isDrilled_113 (by decide) (fun hc => ?_) (fun hc => ?_)
    · have h := ite_f h hc
      refine lv_iconst (v := (0 : Int32)) hx hb dL_isDrilled_136 (by decide) ?_
      refine lv_istore (lv' := [(8, .int (0 : Int32)), (7, .int v19), (6, .int t0), (0, .ref (ad 0 0)), (1, .int x1), (2, .int x2), (3, .int x3), (4, .ref q), (5, .int x5)]) hx hb dL_isDrilled_137 hl (by decide) rfl (fun ls hl => ?_)
      refine lv_aload_n hx hb dL_isDrilled_139 rfl (lv_at hl 3 rfl) ?_
      refine lv_iload_n hx hb dL_isDrilled_140 rfl (lv_at hl 4 rfl) ?_
      refine lv_iconst (v := (4 : Int32)) hx hb dL_isDrilled_141 (by decide) ?_
      obtain ⟨v22, c23, h⟩ := cl1_ok h
      refine sg_calli (va_runV (As := [.int x1, .int (4 : Int32)]) (rest := []) ⟨hx, hb, hml, hown, hts⟩ (mX6_ofBand_n l D G (fun y => A y ∧ y ≠ q) ad Z21 x1 (4 : Int32) v22  c23) (cwV 2 hts gL_isDrilled_X6_ofBand rfl rfl rfl (by decide +kernel) ⟨Nat.le_of_ble_eq_true rfl, Nat.le_of_ble_eq_true rfl⟩) (cg_preV hI hK hN rfl rfl (ci := 7) rfl) rfl rfl hl.1 rfl (lv_room (Nat.le_of_ble_eq_true rfl)) dL_isDrilled_142 ⟨Nat.le_of_ble_eq_true rfl, Nat.le_of_ble_eq_true rfl⟩) hS (fun _ h => h.1) hq (fun z => z.2 rfl) ⟨_, rfl⟩ (fun H locs hI hN hq hS => ?_)
      refine W.widen (k := 5) (n := 30) (by decide) (by decide) ?_
      refine lv_iconst (v := (1 : Int32)) hx hb dL_isDrilled_145 (by decide) ?_
      refine lv_icmp_ne (tgt := 187) hx hb dL_isDrilled_146 (by decide) (fun hc => ?_) (fun hc => ?_)
      · have h := ite_f h hc
        refine W.widen (k := 8) (n := 48) (by decide) (by decide) ?_
        exact w187  x1 x2 x3 v19 (0 : Int32) Z21 F h q hqA _ _ _ hI hN hq hS (lv_sub hl [3, 4, 5, 6, 7, 1, 0] rfl)
      · have h := ite_t h hc
        refine lv_aload_n hx hb dL_isDrilled_149 rfl (lv_at hl 3 rfl) ?_
        refine lv_iload_n hx hb dL_isDrilled_150 rfl (lv_at hl 4 rfl) ?_
        refine lv_iload_n hx hb dL_isDrilled_151 rfl (lv_at hl 5 rfl) ?_
        refine lv_iconst (v := (3 : Int32)) hx hb dL_isDrilled_152 (by decide) ?_
        obtain ⟨v24, Z26, c25, h⟩ := cl2_ok h
        refine sg_callx (vx_runSX (As := [.ref (ad 0 0), .int x1, .int x2, .int (3 : Int32)]) (rest := []) ⟨hx, hb, hml, hown, hts⟩ (mL_acts3 l hfl D G (fun y => A y ∧ y ≠ q) ad Z21 x1 x2 v24 Z26 c25) (vx_cwSW 4 hts gL_isDrilled_L_acts rfl rfl rfl (by decide +kernel) ⟨Nat.le_of_ble_eq_true rfl, Nat.le_of_ble_eq_true rfl⟩) (sg_preS hI hK hN hE hS (fun _ h => h.1)) rfl rfl hl.1 rfl (lv_room (Nat.le_of_ble_eq_true rfl)) dL_isDrilled_153 ⟨Nat.le_of_ble_eq_true rfl, Nat.le_of_ble_eq_true rfl⟩) hS (fun _ h => h.1) hq (fun z => z.2 rfl) ⟨_, rfl⟩ (fun H locs hI hN hq hS => ?_)
        refine W.widen (k := 8) (n := 48) (by decide) (by decide) ?_
        refine lv_sipush (v := (-200 : Int32)) hx hb dL_isDrilled_156 (by decide) ?_
        refine lv_icmp_ne (tgt := 187) hx hb dL_isDrilled_159 (by decide) (fun hc => ?_) (fun hc => ?_)
        · have h := ite_f h hc
          exact w187  x1 x2 x3 v19 (0 : Int32) Z26 F h q hqA _ _ _ hI hN hq hS (lv_sub hl [3, 4, 5, 6, 7, 1, 0] rfl)
        · have h := ite_t h hc
          refine lv_iload hx hb dL_isDrilled_162 (lv_at hl 8 rfl) ?_
          refine lv_iconst (v := (-1 : Int32)) hx hb dL_isDrilled_164 (by decide) ?_
          refine lv_icmp_eq (tgt := 183) hx hb dL_isDrilled_165 (by decide) (fun hc => ?_) (fun hc => ?_)
          · have h := ite_t h hc
            exact w183  x1 x2 x3 v19 (0 : Int32) Z26 F h q hqA _ _ _ hI hN hq hS (lv_sub hl [3, 4, 5, 6, 7, 1, 0] rfl)
          · have h := ite_f h hc
            refine lv_aload_n hx hb dL_isDrilled_168 rfl (lv_at hl 3 rfl) ?_
            refine lv_iload hx hb dL_isDrilled_169 (lv_at hl 8 rfl) ?_
            refine lv_iconst (v := (2 : Int32)) hx hb dL_isDrilled_171 (by decide) ?_
            refine lv_iconst (v := (0 : Int32)) hx hb dL_isDrilled_172 (by decide) ?_
            obtain ⟨v27, c28, h⟩ := cl1_ok h
            refine sg_calli (va_runV (As := [.int x5, .int (2 : Int32), .int (0 : Int32)]) (rest := []) ⟨hx, hb, hml, hown, hts⟩ (mX6_field_n l D G (fun y => A y ∧ y ≠ q) ad Z26 x5 (2 : Int32) (0 : Int32) v27  c28) (cwV 3 hts gL_isDrilled_X6_field rfl rfl rfl (by decide +kernel) ⟨Nat.le_of_ble_eq_true rfl, Nat.le_of_ble_eq_true rfl⟩) (cg_preV hI hK hN rfl rfl (ci := 7) rfl) rfl rfl hl.1 rfl (lv_room (Nat.le_of_ble_eq_true rfl)) dL_isDrilled_173 ⟨Nat.le_of_ble_eq_true rfl, Nat.le_of_ble_eq_true rfl⟩) hS (fun _ h => h.1) hq (fun z => z.2 rfl) ⟨_, rfl⟩ (fun H locs hI hN hq hS => ?_)
            refine W.widen (k := 8) (n := 48) (by decide) (by decide) ?_
            refine lv_iload hx hb dL_isDrilled_176 (lv_at hl 2 rfl) ?_
            refine lv_iconst (v := (1 : Int32)) hx hb dL_isDrilled_178 (by decide) ?_
            refine lv_isub hx hb dL_isDrilled_179 ?_
            refine lv_icmp_ne (tgt := 187) hx hb dL_isDrilled_180 (by decide) (fun hc => ?_) (fun hc => ?_)
            · have h := ite_f h hc
              exact w187  x1 x2 x3 v19 (0 : Int32) Z26 F h q hqA _ _ _ hI hN hq hS (lv_sub hl [3, 4, 5, 6, 7, 1, 0] rfl)
            · have h := ite_t h hc
              exact w183  x1 x2 x3 v19 (0 : Int32) Z26 F h q hqA _ _ _ hI hN hq hS (lv_sub hl [3, 4, 5, 6, 7, 1, 0] rfl)
    · have h := ite_t h hc
      refine lv_iload_n hx hb dL_isDrilled_116 rfl (lv_at hl 5 rfl) ?_
      refine lv_if_eq (tgt := 130) hx hb dL_isDrilled_117 (by decide) (fun hc => ?_) (fun hc => ?_)
      · have h := ite_t h hc
        exact w130  Z21 F h q hqA _ _ _ hI hN hq hS (lv_sub hl [] rfl)
      · have h := ite_f h hc
        refine lv_aload_n hx hb dL_isDrilled_120 rfl (lv_at hl 2 rfl) ?_
        refine lv_iload_n hx hb dL_isDrilled_121 rfl (lv_at hl 3 rfl) ?_
        refine lv_iconst (v := (4 : Int32)) hx hb dL_isDrilled_122 (by decide) ?_
        obtain ⟨v29, c30, h⟩ := cl1_ok h
        refine sg_calli (va_runV (As := [.int x1, .int (4 : Int32)]) (rest := []) ⟨hx, hb, hml, hown, hts⟩ (mX6_ofBand_n l D G (fun y => A y ∧ y ≠ q) ad Z21 x1 (4 : Int32) v29  c30) (cwV 2 hts gL_isDrilled_X6_ofBand rfl rfl rfl (by decide +kernel) ⟨Nat.le_of_ble_eq_true rfl, Nat.le_of_ble_eq_true rfl⟩) (cg_preV hI hK hN rfl rfl (ci := 7) rfl) rfl rfl hl.1 rfl (lv_room (Nat.le_of_ble_eq_true rfl)) dL_isDrilled_123 ⟨Nat.le_of_ble_eq_true rfl, Nat.le_of_ble_eq_true rfl⟩) hS (fun _ h => h.1) hq (fun z => z.2 rfl) ⟨_, rfl⟩ (fun H locs hI hN hq hS => ?_)
        refine W.widen (k := 5) (n := 30) (by decide) (by decide) ?_
        refine lv_iconst (v := (1 : Int32)) hx hb dL_isDrilled_126 (by decide) ?_
        refine lv_icmp_ne (tgt := 134) hx hb dL_isDrilled_127 (by decide) (fun hc => ?_) (fun hc => ?_)
        · have h := ite_f h hc
          refine lv_iconst (v := (0 : Int32)) hx hb dL_isDrilled_134 (by decide) ?_
          exact w135  (0 : Int32) Z21 F h q hqA _ _ _ hI hN hq hS (lv_sub hl [] rfl)
        · have h := ite_t h hc
          exact w130  Z21 F h q hqA _ _ _ hI hN hq hS (lv_sub hl [] rfl)
  have w79 : ∀ (x1 : Int32) (x2 : Int32) (x3 : Int32) (x5 : Int32) (Z : CZ) (F : Nat → Int32), fL_isDrilled_79  x1 x2 x3 x5 Z F = some (rz, Zz) → (∀ q : Nat, A q → tG p l e (headSpec wsL_isDrilled rmL_isDrilled).room s m (([.ref (ad 0 0), .int a2, .int a3] : List Value).toArray) below meth c (MQ below (cQi D G A ad rz Zz) (([.ref (ad 0 0), .int a2, .int a3] : List Value).toArray) s 8 48 A) D G A (fun y => A y ∧ y ≠ q) ad q 8 2 12 13 Z F 79 [(0, .ref (ad 0 0)), (1, .int x1), (2, .int x2), (3, .int x3), (4, .ref q), (5, .int x5)] []) := by
    intro  x1 x2 x3 x5 Z F h q hqA H locs ls hI hN hq hS hl
    unfold fL_isDrilled_79 at h
    refine lv_iload hx hb dL_isDrilled_79 (lv_at hl 5 rfl) ?_
    refine lv_iconst (v := (-1 : Int32)) hx hb dL_isDrilled_81 (by decide) ?_
    refine lv_icmp_ne (tgt := 89) hx hb dL_isDrilled_82 (by decide) (fun hc => ?_) (fun hc => ?_)
    · have h := ite_f h hc
      refine lv_aload_n hx hb dL_isDrilled_89 rfl (lv_at hl 0 rfl) ?_
      refine lv_iload hx hb dL_isDrilled_90 (lv_at hl 5 rfl) ?_
      refine lv_iconst (v := (2 : Int32)) hx hb dL_isDrilled_92 (by decide) ?_
      refine lv_iconst (v := (0 : Int32)) hx hb dL_isDrilled_93 (by decide) ?_
      obtain ⟨v17, c18, h⟩ := cl1_ok h
      refine sg_calli (va_runV (As := [.int x5, .int (2 : Int32), .int (0 : Int32)]) (rest := []) ⟨hx, hb, hml, hown, hts⟩ (mX6_field_n l D G (fun y => A y ∧ y ≠ q) ad Z x5 (2 : Int32) (0 : Int32) v17  c18) (cwV 3 hts gL_isDrilled_X6_field rfl rfl rfl (by decide +kernel) ⟨Nat.le_of_ble_eq_true rfl, Nat.le_of_ble_eq_true rfl⟩) (cg_preV hI hK hN rfl rfl (ci := 7) rfl) rfl rfl hl.1 rfl (lv_room (Nat.le_of_ble_eq_true rfl)) dL_isDrilled_94 ⟨Nat.le_of_ble_eq_true rfl, Nat.le_of_ble_eq_true rfl⟩) hS (fun _ h => h.1) hq (fun z => z.2 rfl) ⟨_, rfl⟩ (fun H locs hI hN hq hS => ?_)
      refine W.widen (k := 2) (n := 12) (by decide) (by decide) ?_
      exact w97  x1 x2 x3 x5 v17 Z F h q hqA _ _ _ hI hN hq hS (lv_sub hl [0, 1, 2, 3, 4, 5] rfl)
    · have h := ite_t h hc
      refine lv_iconst (v := (0 : Int32)) hx hb dL_isDrilled_85 (by decide) ?_
      refine lv_goto (tgt := 97) hx hb dL_isDrilled_86 (by decide) ?_
      exact w97  x1 x2 x3 x5 (0 : Int32) Z F h q hqA _ _ _ hI hN hq hS (lv_sub hl [0, 1, 2, 3, 4, 5] rfl)
  have w19 : ∀ (x1 : Int32) (x2 : Int32) (x3 : Int32) (x5 : Int32) (x6 : Int32) (Z : CZ) (F : Nat → Int32), lf7 fL_isDrilled_19 100 x1 x2 x3 x5 x6 Z F = some (rz, Zz) → (∀ q : Nat, A q → tG p l e (headSpec wsL_isDrilled rmL_isDrilled).room s m (([.ref (ad 0 0), .int a2, .int a3] : List Value).toArray) below meth c (MQ below (cQi D G A ad rz Zz) (([.ref (ad 0 0), .int a2, .int a3] : List Value).toArray) s 8 48 A) D G A (fun y => A y ∧ y ≠ q) ad q 8 2 12 13 Z F 19 [(0, .ref (ad 0 0)), (1, .int x1), (2, .int x2), (3, .int x3), (4, .ref q), (5, .int x5), (6, .int x6)] []) := by
    refine lf7_ok (P := (fun x1 x2 x3 x5 x6 Z F => (∀ q : Nat, A q → tG p l e (headSpec wsL_isDrilled rmL_isDrilled).room s m (([.ref (ad 0 0), .int a2, .int a3] : List Value).toArray) below meth c (MQ below (cQi D G A ad rz Zz) (([.ref (ad 0 0), .int a2, .int a3] : List Value).toArray) s 8 48 A) D G A (fun y => A y ∧ y ≠ q) ad q 8 2 12 13 Z F 19 [(0, .ref (ad 0 0)), (1, .int x1), (2, .int x2), (3, .int x3), (4, .ref q), (5, .int x5), (6, .int x6)] []))) (fun k19 hk19 x1 x2 x3 x5 x6 Z F h q hqA H locs ls hI hN hq hS hl => ?_) 100
    unfold fL_isDrilled_19 at h
    refine lv_iload hx hb dL_isDrilled_19 (lv_at hl 6 rfl) ?_
    refine lv_iload_n hx hb dL_isDrilled_21 rfl (lv_at hl 3 rfl) ?_
    refine lv_icmp_ge (tgt := 79) hx hb dL_isDrilled_22 (by decide) (fun hc => ?_) (fun hc => ?_)
    · have h := ite_t h hc
      exact w79  x1 x2 x3 x5 Z F h q hqA _ _ _ hI hN hq hS (lv_sub hl [0, 1, 2, 3, 4, 5] rfl)
    · have h := ite_f h hc
      refine lv_aload hx hb dL_isDrilled_25 (lv_at hl 4 rfl) ?_
      refine lv_iload hx hb dL_isDrilled_27 (lv_at hl 6 rfl) ?_
      refine lv_aload_n hx hb dL_isDrilled_29 rfl (lv_at hl 0 rfl) ?_
      refine lv_iload_n hx hb dL_isDrilled_30 rfl (lv_at hl 1 rfl) ?_
      refine lv_iload hx hb dL_isDrilled_31 (lv_at hl 6 rfl) ?_
      refine lv_iload_n hx hb dL_isDrilled_33 rfl (lv_at hl 2 rfl) ?_
      obtain ⟨v4, c5, h⟩ := cl1_ok h
      refine sg_calli (va_runV (As := [.int x1, .int x6, .int x2]) (rest := [.int x6, .ref q]) ⟨hx, hb, hml, hown, hts⟩ (mX6_knows_n l D G (fun y => A y ∧ y ≠ q) ad Z x1 x6 x2 v4  c5) (cwV 3 hts gL_isDrilled_X6_knows rfl rfl rfl (by decide +kernel) ⟨Nat.le_of_ble_eq_true rfl, Nat.le_of_ble_eq_true rfl⟩) (cg_preV hI hK hN rfl rfl (ci := 7) rfl) rfl rfl hl.1 rfl (lv_room (Nat.le_of_ble_eq_true rfl)) dL_isDrilled_34 ⟨Nat.le_of_ble_eq_true rfl, Nat.le_of_ble_eq_true rfl⟩) hS (fun _ h => h.1) hq (fun z => z.2 rfl) ⟨_, rfl⟩ (fun H locs hI hN hq hS => ?_)
      refine W.widen (k := 2) (n := 12) (by decide) (by decide) ?_
      obtain ⟨g6, h⟩ := gd_ok h
      obtain ⟨F7, eF7⟩ : ∃ y : Nat → Int32, y = (upd F (Int32.toNatClampNeg x6) v4) := ⟨_, rfl⟩
      have h := bnd_ok h eF7
      refine sg_ist hx hb hK hI hN hq (fun z => z.2 rfl) hS hqA (gin_ok g6) eF7 dL_isDrilled_37 (fun H locs hN hq hS => ?_)
      refine lv_aload_n hx hb dL_isDrilled_38 rfl (lv_at hl 0 rfl) ?_
      refine lv_aload_n hx hb dL_isDrilled_39 rfl (lv_at hl 0 rfl) ?_
      refine lv_iload_n hx hb dL_isDrilled_40 rfl (lv_at hl 1 rfl) ?_
      refine lv_iload hx hb dL_isDrilled_41 (lv_at hl 6 rfl) ?_
      obtain ⟨v8, c9, h⟩ := cl1_ok h
      refine sg_calli (va_runV (As := [.int x1, .int x6]) (rest := [.ref (ad 0 0)]) ⟨hx, hb, hml, hown, hts⟩ (mX6_seat_n l D G (fun y => A y ∧ y ≠ q) ad Z x1 x6 v8  c9) (cwV 2 hts gL_isDrilled_X6_seat rfl rfl rfl (by decide +kernel) ⟨Nat.le_of_ble_eq_true rfl, Nat.le_of_ble_eq_true rfl⟩) (cg_preV hI hK hN rfl rfl (ci := 7) rfl) rfl rfl hl.1 rfl (lv_room (Nat.le_of_ble_eq_true rfl)) dL_isDrilled_43 ⟨Nat.le_of_ble_eq_true rfl, Nat.le_of_ble_eq_true rfl⟩) hS (fun _ h => h.1) hq (fun z => z.2 rfl) ⟨_, rfl⟩ (fun H locs hI hN hq hS => ?_)
      refine W.widen (k := 2) (n := 12) (by decide) (by decide) ?_
      refine lv_iconst (v := (2 : Int32)) hx hb dL_isDrilled_46 (by decide) ?_
      obtain ⟨v10, c11, h⟩ := cl1_ok h
      refine sg_calli (va_runV (As := [.int v8, .int (2 : Int32)]) (rest := []) ⟨hx, hb, hml, hown, hts⟩ (mX6_ofPlayer_n l D G (fun y => A y ∧ y ≠ q) ad Z v8 (2 : Int32) v10  c11) (cwV 2 hts gL_isDrilled_X6_ofPlayer rfl rfl rfl (by decide +kernel) ⟨Nat.le_of_ble_eq_true rfl, Nat.le_of_ble_eq_true rfl⟩) (cg_preV hI hK hN rfl rfl (ci := 7) rfl) rfl rfl hl.1 rfl (lv_room (Nat.le_of_ble_eq_true rfl)) dL_isDrilled_47 ⟨Nat.le_of_ble_eq_true rfl, Nat.le_of_ble_eq_true rfl⟩) hS (fun _ h => h.1) hq (fun z => z.2 rfl) ⟨_, rfl⟩ (fun H locs hI hN hq hS => ?_)
      refine W.widen (k := 2) (n := 12) (by decide) (by decide) ?_
      refine lv_iconst (v := (-1 : Int32)) hx hb dL_isDrilled_50 (by decide) ?_
      refine lv_icmp_ne (tgt := 59) hx hb dL_isDrilled_51 (by decide) (fun hc => ?_) (fun hc => ?_)
      · have h := ite_f h hc
        refine lv_aload_n hx hb dL_isDrilled_59 rfl (lv_at hl 0 rfl) ?_
        refine lv_aload_n hx hb dL_isDrilled_60 rfl (lv_at hl 0 rfl) ?_
        refine lv_iload_n hx hb dL_isDrilled_61 rfl (lv_at hl 1 rfl) ?_
        refine lv_iload hx hb dL_isDrilled_62 (lv_at hl 6 rfl) ?_
        obtain ⟨v12, c13, h⟩ := cl1_ok h
        refine sg_calli (va_runV (As := [.int x1, .int x6]) (rest := [.ref (ad 0 0)]) ⟨hx, hb, hml, hown, hts⟩ (mX6_seat_n l D G (fun y => A y ∧ y ≠ q) ad Z x1 x6 v12  c13) (cwV 2 hts gL_isDrilled_X6_seat rfl rfl rfl (by decide +kernel) ⟨Nat.le_of_ble_eq_true rfl, Nat.le_of_ble_eq_true rfl⟩) (cg_preV hI hK hN rfl rfl (ci := 7) rfl) rfl rfl hl.1 rfl (lv_room (Nat.le_of_ble_eq_true rfl)) dL_isDrilled_64 ⟨Nat.le_of_ble_eq_true rfl, Nat.le_of_ble_eq_true rfl⟩) hS (fun _ h => h.1) hq (fun z => z.2 rfl) ⟨_, rfl⟩ (fun H locs hI hN hq hS => ?_)
        refine W.widen (k := 2) (n := 12) (by decide) (by decide) ?_
        refine lv_iconst (v := (2 : Int32)) hx hb dL_isDrilled_67 (by decide) ?_
        obtain ⟨v14, c15, h⟩ := cl1_ok h
        refine sg_calli (va_runV (As := [.int v12, .int (2 : Int32)]) (rest := []) ⟨hx, hb, hml, hown, hts⟩ (mX6_ofPlayer_n l D G (fun y => A y ∧ y ≠ q) ad Z v12 (2 : Int32) v14  c15) (cwV 2 hts gL_isDrilled_X6_ofPlayer rfl rfl rfl (by decide +kernel) ⟨Nat.le_of_ble_eq_true rfl, Nat.le_of_ble_eq_true rfl⟩) (cg_preV hI hK hN rfl rfl (ci := 7) rfl) rfl rfl hl.1 rfl (lv_room (Nat.le_of_ble_eq_true rfl)) dL_isDrilled_68 ⟨Nat.le_of_ble_eq_true rfl, Nat.le_of_ble_eq_true rfl⟩) hS (fun _ h => h.1) hq (fun z => z.2 rfl) ⟨_, rfl⟩ (fun H locs hI hN hq hS => ?_)
        refine W.widen (k := 2) (n := 12) (by decide) (by decide) ?_
        exact w71 k19 hk19 x1 x2 x3 x6 v14 Z F7 h q hqA _ _ _ hI hN hq hS (lv_sub hl [0, 1, 2, 3, 4, 6] rfl)
      · have h := ite_t h hc
        refine lv_iload hx hb dL_isDrilled_54 (lv_at hl 5 rfl) ?_
        refine lv_goto (tgt := 71) hx hb dL_isDrilled_56 (by decide) ?_
        exact w71 k19 hk19 x1 x2 x3 x6 x5 Z F7 h q hqA _ _ _ hI hN hq hS (lv_sub hl [0, 1, 2, 3, 4, 6] rfl)
  unfold fL_isDrilled at h
  refine lv_aload_n hx hb dL_isDrilled_0 rfl (lv_at hl 0 rfl) ?_
  refine lv_iload_n hx hb dL_isDrilled_1 rfl (lv_at hl 1 rfl) ?_
  refine lv_iconst (v := (0 : Int32)) hx hb dL_isDrilled_2 (by decide) ?_
  obtain ⟨v1, c2, h⟩ := cl1_ok h
  refine lw_calli (va_runV (As := [.int a2, .int (0 : Int32)]) (rest := []) ⟨hx, hb, hml, hown, hts⟩ (mX6_ofBand_n l D G A ad Z a2 (0 : Int32) v1  c2) (cwV 2 hts gL_isDrilled_X6_ofBand rfl rfl rfl (by decide +kernel) ⟨Nat.le_of_ble_eq_true rfl, Nat.le_of_ble_eq_true rfl⟩) (cg_preV hI hK hN rfl rfl (ci := 7) rfl) rfl rfl hl.1 rfl (lv_room (Nat.le_of_ble_eq_true rfl)) dL_isDrilled_3 ⟨Nat.le_of_ble_eq_true rfl, Nat.le_of_ble_eq_true rfl⟩) hS (fun H locs hI hN hS => ?_)
  refine W.widen (k := 0) (n := 0) (by decide) (by decide) ?_
  refine lv_istore_n (lv' := [(3, .int v1), (0, .ref (ad 0 0)), (1, .int a2), (2, .int a3)]) hx hb dL_isDrilled_6 rfl hl (by decide) rfl (fun ls hl => ?_)
  refine lv_bipush (v := (8 : Int32)) hx hb dL_isDrilled_7 (by decide) ?_
  obtain ⟨F3, eF3⟩ : ∃ y : Nat → Int32, y = (fun _ => 0) := ⟨_, rfl⟩
  have h := bnd_ok h eF3
  refine lw_newa hx hb l0 hK hI hN hS hA (Nat.le_of_ble_eq_true rfl) (Nat.le_of_ble_eq_true rfl) dL_isDrilled_9 (fun q H hqA hI hN hq hS => ?_)
  rw [← eF3] at hq
  refine W.widen (k := 2) (n := 12) (by decide) (by decide) ?_
  refine lv_astore (lv' := [(4, .ref q), (3, .int v1), (0, .ref (ad 0 0)), (1, .int a2), (2, .int a3)]) hx hb dL_isDrilled_11 hl (by decide) rfl (fun ls hl => ?_)
  refine lv_iconst (v := (-1 : Int32)) hx hb dL_isDrilled_13 (by decide) ?_
  refine lv_istore (lv' := [(5, .int (-1 : Int32)), (4, .ref q), (3, .int v1), (0, .ref (ad 0 0)), (1, .int a2), (2, .int a3)]) hx hb dL_isDrilled_14 hl (by decide) rfl (fun ls hl => ?_)
  refine lv_iconst (v := (0 : Int32)) hx hb dL_isDrilled_16 (by decide) ?_
  refine lv_istore (lv' := [(6, .int (0 : Int32)), (5, .int (-1 : Int32)), (4, .ref q), (3, .int v1), (0, .ref (ad 0 0)), (1, .int a2), (2, .int a3)]) hx hb dL_isDrilled_17 hl (by decide) rfl (fun ls hl => ?_)
  exact w19  a2 a3 v1 (-1 : Int32) (0 : Int32) Z F3 h q hqA _ _ _ hI hN hq hS (lv_sub hl [4, 5, 6, 3, 2, 1, 0] rfl)
