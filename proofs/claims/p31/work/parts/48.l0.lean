def fL_isBeaten_131 (t0 : Int32) (Z : CZ) : Option (Int32 × CZ) := gd (gbo t0) (some (t0, Z))
def fL_isBeaten_130 (Z : CZ) : Option (Int32 × CZ) := fL_isBeaten_131 (0 : Int32) Z
def fL_isBeaten_102 (x1 : Int32) (x2 : Int32) (x5 : Int32) (x9 : Int32) (Z : CZ) : Option (Int32 × CZ) := cl1 (fX6_field_n x1 x2 (0 : Int32) Z) (fun v16 => (if v16 = x5 then cl1 (fX6_field_n x1 x2 (2 : Int32) Z) (fun v18 => (if v18 = x9 then fL_isBeaten_131 (1 : Int32) Z else fL_isBeaten_130 Z)) else fL_isBeaten_130 Z))
def fL_isBeaten_303 (t0 : Int32) (Z : CZ) : Option (Int32 × CZ) := gd (gbo t0) (some (t0, Z))
def fL_isBeaten_302 (Z : CZ) : Option (Int32 × CZ) := fL_isBeaten_303 (0 : Int32) Z
def fL_isBeaten_295 (t0 : Int32) (t1 : Int32) (Z : CZ) : Option (Int32 × CZ) := (if t1 = t0 then fL_isBeaten_303 (1 : Int32) Z else fL_isBeaten_302 Z)
def fL_isBeaten_274 (x1 : Int32) (x2 : Int32) (x4 : Int32) (x10 : Int32) (t0 : Int32) (t1 : Int32) (Z : CZ) : Option (Int32 × CZ) := (if t1 = t0 then cl1 (fX6_field_n x1 x2 (3 : Int32) Z) (fun v34 => (if x4 = 0 then fL_isBeaten_295 x10 v34 Z else fL_isBeaten_295 (1 : Int32) v34 Z)) else fL_isBeaten_302 Z)
def fL_isBeaten_171 (x1 : Int32) (x2 : Int32) (x4 : Int32) (x6 : Int32) (x7 : Int32) (x8 : Int32) (x9 : Int32) (x10 : Int32) (x11 : Int32) (x12 : Int32) (t0 : Int32) (t1 : Int32) (t2 : Int32) (Z : CZ) : Option (Int32 × CZ) := (if t2 = (t1 + t0) then cl1 (fX6_field_n x1 x2 (0 : Int32) Z) (fun v21 => (if v21 = x11 then cl1 (fX6_field_n x1 (irm (x2 + (1 : Int32)) (4 : Int32)) (0 : Int32) Z) (fun v23 => (if v23 = (x6 + x12) then cl1 (fX6_field_n x1 (irm (x2 + (3 : Int32)) (4 : Int32)) (0 : Int32) Z) (fun v25 => (if v25 = (x7 + x12) then cl1 (fX6_field_n x1 (irm (x2 + (2 : Int32)) (4 : Int32)) (0 : Int32) Z) (fun v27 => (if v27 = x8 then cl1 (fX6_field_n x1 x2 (2 : Int32) Z) (fun v29 => (if v29 = (x9 + (1 : Int32)) then cl1 (fX6_field_n x1 x2 (4 : Int32) Z) (fun v31 => (if x9 = (6 : Int32) then fL_isBeaten_274 x1 x2 x4 x10 (1 : Int32) v31 Z else fL_isBeaten_274 x1 x2 x4 x10 (0 : Int32) v31 Z)) else fL_isBeaten_302 Z)) else fL_isBeaten_302 Z)) else fL_isBeaten_302 Z)) else fL_isBeaten_302 Z)) else fL_isBeaten_302 Z)) else fL_isBeaten_302 Z)
def fL_isBeaten_143 (x1 : Int32) (x2 : Int32) (x3 : Int32) (x4 : Int32) (x5 : Int32) (x6 : Int32) (x7 : Int32) (x8 : Int32) (x9 : Int32) (x10 : Int32) (x11 : Int32) (t0 : Int32) (Z : CZ) : Option (Int32 × CZ) := (if (7 : Int32) ≤ x9 then fL_isBeaten_302 Z else (if x4 = 0 then fL_isBeaten_171 x1 x2 x4 x6 x7 x8 x9 x10 x11 t0 ((4 : Int32) * x3) x5 x11 Z else fL_isBeaten_171 x1 x2 x4 x6 x7 x8 x9 x10 x11 t0 ((-6 : Int32) * x3) x5 x11 Z))
def fL_isBeaten (a2 : Int32) (a3 : Int32) (a4 : Int32) (a5 : Int32) (Z : CZ) : Option (Int32 × CZ) := cl1 (fX6_field_n a2 a3 (0 : Int32) Z) (fun v1 => cl1 (fX6_field_n a2 (irm (a3 + (1 : Int32)) (4 : Int32)) (0 : Int32) Z) (fun v3 => cl1 (fX6_field_n a2 (irm (a3 + (3 : Int32)) (4 : Int32)) (0 : Int32) Z) (fun v5 => cl1 (fX6_field_n a2 (irm (a3 + (2 : Int32)) (4 : Int32)) (0 : Int32) Z) (fun v7 => cl1 (fX6_field_n a2 a3 (2 : Int32) Z) (fun v9 => cl1 (fX6_field_n a2 a3 (3 : Int32) Z) (fun v11 => cl2 (fL_blows a2 a3 a4 a5 Z) (fun v13 Z15 => (if v13 = (-2000000 : Int32) then (if v9 = (7 : Int32) then fL_isBeaten_102 a2 a3 v1 v9 Z15 else (if v11 = (1 : Int32) then (if a5 = 0 then fL_isBeaten_102 a2 a3 v1 v9 Z15 else fL_isBeaten_130 Z15) else fL_isBeaten_130 Z15)) else (if a5 = 0 then fL_isBeaten_143 a2 a3 a4 a5 v1 v3 v5 v7 v9 v11 v13 (-a4) Z15 else fL_isBeaten_143 a2 a3 a4 a5 v1 v3 v5 v7 v9 v11 v13 a4 Z15)))))))))
def rmL_isBeaten : Room := { frames := 10, cells := 4, slots := 24, locals := 192 }
set_option maxHeartbeats 8000000 in
set_option maxRecDepth 100000 in
theorem mL_isBeaten (l : Launch) (hfl : l.stackTraces = false) (D : va_G) (G : CGT) (A : Nat → Prop) (ad : Nat → Nat → Nat) (Z : CZ) (a2 : Int32) (a3 : Int32) (a4 : Int32) (a5 : Int32) (rz : Int32) (Zz : CZ) (h : fL_isBeaten a2 a3 a4 a5 Z = some (rz, Zz)) : Met l yL_isBeaten wsL_isBeaten rmL_isBeaten (va_Pc [.ref (ad 0 0), .int a2, .int a3, .int a4, .int a5] (xP D G A ad Z)) (cQi D G A ad rz Zz) 4 24 A := by
  refine Met.ofW (cc := cL_isBeaten) (maxL := 13) (ret := some .boolean) (by decide) rfl ?_
  intro p e s m args below meth c s₁ B hml hv
  obtain ⟨rfl, ⟨hI, hN, hK⟩, hE⟩ := hv
  have hx := B.exec
  have hb := B.bytes
  have hr := B.returns
  have hts := atoms_spec (ws := wsL_isBeaten) B.pre
  have hown : s.vm.findClass RL = some m.cls := findClass_of_methodNamed B.named
  have hlocks := B.notSynchronized
  have l0 := hts (.constant RL 18 (-2000000)) (List.mem_of_getElem? (i := 1) rfl)
  have hS : va_S A s.heap s.heap [] := va_S.rf
  have hl := lv_entry ([.ref (ad 0 0), .int a2, .int a3, .int a4, .int a5]) (n := 13) (Nat.le_of_ble_eq_true rfl)
  rw [lg_entry_eq]
  generalize (lg_sl ([.ref (ad 0 0), .int a2, .int a3, .int a4, .int a5]) ++ List.replicate (13 - (lg_sl ([.ref (ad 0 0), .int a2, .int a3, .int a4, .int a5])).length) Slot.unset).toArray = ls at hl ⊢
  have hl : lv_has ls 13 [(0, .ref (ad 0 0)), (1, .int a2), (2, .int a3), (3, .int a4), (4, .int a5)] := hl
  have w131 : ∀ (t0 : Int32) (Z : CZ), fL_isBeaten_131  t0 Z = some (rz, Zz) → cG p l e (headSpec wsL_isBeaten rmL_isBeaten).room s m (([.ref (ad 0 0), .int a2, .int a3, .int a4, .int a5] : List Value).toArray) below meth c (MQ below (cQi D G A ad rz Zz) (([.ref (ad 0 0), .int a2, .int a3, .int a4, .int a5] : List Value).toArray) s 4 24 A) D G A ad 4 24 13 Z 131 [] [.int t0] := by
    intro  t0 Z h H locs ls hI hN hS hl
    unfold fL_isBeaten_131 at h
    obtain ⟨g20, h⟩ := gd_ok h
    refine W.widen (k := 4) (n := 24) (by decide) (by decide) ?_
    exact W.zret hx hb hr (gbo_ok g20) (cg_endi h hI hK hN hS) (fun z hz => hS.2.2 z hz) dL_isBeaten_131
  have w130 : ∀ (Z : CZ), fL_isBeaten_130  Z = some (rz, Zz) → cG p l e (headSpec wsL_isBeaten rmL_isBeaten).room s m (([.ref (ad 0 0), .int a2, .int a3, .int a4, .int a5] : List Value).toArray) below meth c (MQ below (cQi D G A ad rz Zz) (([.ref (ad 0 0), .int a2, .int a3, .int a4, .int a5] : List Value).toArray) s 4 24 A) D G A ad 4 24 13 Z 130 [] [] := by
    intro  Z h H locs ls hI hN hS hl
    unfold fL_isBeaten_130 at h
    refine lv_iconst (v := (0 : Int32)) hx hb dL_isBeaten_130 (by decide) ?_
    exact w131  (0 : Int32) Z h _ _ _ hI hN hS (lv_sub hl [] rfl)
  have w102 : ∀ (x1 : Int32) (x2 : Int32) (x5 : Int32) (x9 : Int32) (Z : CZ), fL_isBeaten_102  x1 x2 x5 x9 Z = some (rz, Zz) → cG p l e (headSpec wsL_isBeaten rmL_isBeaten).room s m (([.ref (ad 0 0), .int a2, .int a3, .int a4, .int a5] : List Value).toArray) below meth c (MQ below (cQi D G A ad rz Zz) (([.ref (ad 0 0), .int a2, .int a3, .int a4, .int a5] : List Value).toArray) s 4 24 A) D G A ad 4 24 13 Z 102 [(0, .ref (ad 0 0)), (1, .int x1), (2, .int x2), (5, .int x5), (9, .int x9)] [] := by
    intro  x1 x2 x5 x9 Z h H locs ls hI hN hS hl
    unfold fL_isBeaten_102 at h
    refine lv_aload_n hx hb dL_isBeaten_102 rfl (lv_at hl 0 rfl) ?_
    refine lv_iload_n hx hb dL_isBeaten_103 rfl (lv_at hl 1 rfl) ?_
    refine lv_iload_n hx hb dL_isBeaten_104 rfl (lv_at hl 2 rfl) ?_
    refine lv_iconst (v := (0 : Int32)) hx hb dL_isBeaten_105 (by decide) ?_
    obtain ⟨v16, c17, h⟩ := cl1_ok h
    refine lw_calli (va_runV (As := [.int x1, .int x2, .int (0 : Int32)]) (rest := []) ⟨hx, hb, hml, hown, hts⟩ (mX6_field_n l D G A ad Z x1 x2 (0 : Int32) v16  c17) (cwV 3 hts gL_isBeaten_X6_field rfl rfl rfl (by decide +kernel) ⟨Nat.le_of_ble_eq_true rfl, Nat.le_of_ble_eq_true rfl⟩) (cg_preV hI hK hN rfl rfl (ci := 7) rfl) rfl rfl hl.1 rfl (lv_room (Nat.le_of_ble_eq_true rfl)) dL_isBeaten_106 ⟨Nat.le_of_ble_eq_true rfl, Nat.le_of_ble_eq_true rfl⟩) hS (fun H locs hI hN hS => ?_)
    refine W.widen (k := 4) (n := 24) (by decide) (by decide) ?_
    refine lv_iload hx hb dL_isBeaten_109 (lv_at hl 3 rfl) ?_
    refine lv_icmp_ne (tgt := 130) hx hb dL_isBeaten_111 (by decide) (fun hc => ?_) (fun hc => ?_)
    · have h := ite_f h hc
      exact w130  Z h _ _ _ hI hN hS (lv_sub hl [] rfl)
    · have h := ite_t h hc
      refine lv_aload_n hx hb dL_isBeaten_114 rfl (lv_at hl 0 rfl) ?_
      refine lv_iload_n hx hb dL_isBeaten_115 rfl (lv_at hl 1 rfl) ?_
      refine lv_iload_n hx hb dL_isBeaten_116 rfl (lv_at hl 2 rfl) ?_
      refine lv_iconst (v := (2 : Int32)) hx hb dL_isBeaten_117 (by decide) ?_
      obtain ⟨v18, c19, h⟩ := cl1_ok h
      refine lw_calli (va_runV (As := [.int x1, .int x2, .int (2 : Int32)]) (rest := []) ⟨hx, hb, hml, hown, hts⟩ (mX6_field_n l D G A ad Z x1 x2 (2 : Int32) v18  c19) (cwV 3 hts gL_isBeaten_X6_field rfl rfl rfl (by decide +kernel) ⟨Nat.le_of_ble_eq_true rfl, Nat.le_of_ble_eq_true rfl⟩) (cg_preV hI hK hN rfl rfl (ci := 7) rfl) rfl rfl hl.1 rfl (lv_room (Nat.le_of_ble_eq_true rfl)) dL_isBeaten_118 ⟨Nat.le_of_ble_eq_true rfl, Nat.le_of_ble_eq_true rfl⟩) hS (fun H locs hI hN hS => ?_)
      refine W.widen (k := 4) (n := 24) (by decide) (by decide) ?_
      refine lv_iload hx hb dL_isBeaten_121 (lv_at hl 4 rfl) ?_
      refine lv_icmp_ne (tgt := 130) hx hb dL_isBeaten_123 (by decide) (fun hc => ?_) (fun hc => ?_)
      · have h := ite_f h hc
        exact w130  Z h _ _ _ hI hN hS (lv_sub hl [] rfl)
      · have h := ite_t h hc
        refine lv_iconst (v := (1 : Int32)) hx hb dL_isBeaten_126 (by decide) ?_
        refine lv_goto (tgt := 131) hx hb dL_isBeaten_127 (by decide) ?_
        exact w131  (1 : Int32) Z h _ _ _ hI hN hS (lv_sub hl [] rfl)
  have w303 : ∀ (t0 : Int32) (Z : CZ), fL_isBeaten_303  t0 Z = some (rz, Zz) → cG p l e (headSpec wsL_isBeaten rmL_isBeaten).room s m (([.ref (ad 0 0), .int a2, .int a3, .int a4, .int a5] : List Value).toArray) below meth c (MQ below (cQi D G A ad rz Zz) (([.ref (ad 0 0), .int a2, .int a3, .int a4, .int a5] : List Value).toArray) s 4 24 A) D G A ad 4 24 13 Z 303 [] [.int t0] := by
    intro  t0 Z h H locs ls hI hN hS hl
    unfold fL_isBeaten_303 at h
    obtain ⟨g33, h⟩ := gd_ok h
    refine W.widen (k := 4) (n := 24) (by decide) (by decide) ?_
    exact W.zret hx hb hr (gbo_ok g33) (cg_endi h hI hK hN hS) (fun z hz => hS.2.2 z hz) dL_isBeaten_303
  have w302 : ∀ (Z : CZ), fL_isBeaten_302  Z = some (rz, Zz) → cG p l e (headSpec wsL_isBeaten rmL_isBeaten).room s m (([.ref (ad 0 0), .int a2, .int a3, .int a4, .int a5] : List Value).toArray) below meth c (MQ below (cQi D G A ad rz Zz) (([.ref (ad 0 0), .int a2, .int a3, .int a4, .int a5] : List Value).toArray) s 4 24 A) D G A ad 4 24 13 Z 302 [] [] := by
    intro  Z h H locs ls hI hN hS hl
    unfold fL_isBeaten_302 at h
    refine lv_iconst (v := (0 : Int32)) hx hb dL_isBeaten_302 (by decide) ?_
    exact w303  (0 : Int32) Z h _ _ _ hI hN hS (lv_sub hl [] rfl)
  have w295 : ∀ (t0 : Int32) (t1 : Int32) (Z : CZ), fL_isBeaten_295  t0 t1 Z = some (rz, Zz) → cG p l e (headSpec wsL_isBeaten rmL_isBeaten).room s m (([.ref (ad 0 0), .int a2, .int a3, .int a4, .int a5] : List Value).toArray) below meth c (MQ below (cQi D G A ad rz Zz) (([.ref (ad 0 0), .int a2, .int a3, .int a4, .int a5] : List Value).toArray) s 4 24 A) D G A ad 4 24 13 Z 295 [] [.int t0, .int t1] := by
    intro  t0 t1 Z h H locs ls hI hN hS hl
    unfold fL_isBeaten_295 at h
    refine lv_icmp_ne (tgt := 302) hx hb dL_isBeaten_295 (by decide) (fun hc => ?_) (fun hc => ?_)
    · have h := ite_f h hc
      exact w302  Z h _ _ _ hI hN hS (lv_sub hl [] rfl)
    · have h := ite_t h hc
      refine lv_iconst (v := (1 : Int32)) hx hb dL_isBeaten_298 (by decide) ?_
      refine lv_goto (tgt := 303) hx hb dL_isBeaten_299 (by decide) ?_
      exact w303  (1 : Int32) Z h _ _ _ hI hN hS (lv_sub hl [] rfl)
  have w274 : ∀ (x1 : Int32) (x2 : Int32) (x4 : Int32) (x10 : Int32) (t0 : Int32) (t1 : Int32) (Z : CZ), fL_isBeaten_274  x1 x2 x4 x10 t0 t1 Z = some (rz, Zz) → cG p l e (headSpec wsL_isBeaten rmL_isBeaten).room s m (([.ref (ad 0 0), .int a2, .int a3, .int a4, .int a5] : List Value).toArray) below meth c (MQ below (cQi D G A ad rz Zz) (([.ref (ad 0 0), .int a2, .int a3, .int a4, .int a5] : List Value).toArray) s 4 24 A) D G A ad 4 24 13 Z 274 [(0, .ref (ad 0 0)), (1, .int x1), (2, .int x2), (4, .int x4), (10, .int x10)] [.int t0, .int t1] := by
    intro  x1 x2 x4 x10 t0 t1 Z h H locs ls hI hN hS hl
    unfold fL_isBeaten_274 at h
    refine lv_icmp_ne (tgt := 302) hx hb dL_isBeaten_274 (by decide) (fun hc => ?_) (fun hc => ?_)
    · have h := ite_f h hc
      exact w302  Z h _ _ _ hI hN hS (lv_sub hl [] rfl)
    · have h := ite_t h hc
      refine lv_aload_n hx hb dL_isBeaten_277 rfl (lv_at hl 0 rfl) ?_
      refine lv_iload_n hx hb dL_isBeaten_278 rfl (lv_at hl 1 rfl) ?_
      refine lv_iload_n hx hb dL_isBeaten_279 rfl (lv_at hl 2 rfl) ?_
      refine lv_iconst (v := (3 : Int32)) hx hb dL_isBeaten_280 (by decide) ?_
      obtain ⟨v34, c35, h⟩ := cl1_ok h
      refine lw_calli (va_runV (As := [.int x1, .int x2, .int (3 : Int32)]) (rest := []) ⟨hx, hb, hml, hown, hts⟩ (mX6_field_n l D G A ad Z x1 x2 (3 : Int32) v34  c35) (cwV 3 hts gL_isBeaten_X6_field rfl rfl rfl (by decide +kernel) ⟨Nat.le_of_ble_eq_true rfl, Nat.le_of_ble_eq_true rfl⟩) (cg_preV hI hK hN rfl rfl (ci := 7) rfl) rfl rfl hl.1 rfl (lv_room (Nat.le_of_ble_eq_true rfl)) dL_isBeaten_281 ⟨Nat.le_of_ble_eq_true rfl, Nat.le_of_ble_eq_true rfl⟩) hS (fun H locs hI hN hS => ?_)
      refine W.widen (k := 4) (n := 24) (by decide) (by decide) ?_
      refine lv_iload hx hb dL_isBeaten_284 (lv_at hl 3 rfl) ?_
      refine lv_if_eq (tgt := 293) hx hb dL_isBeaten_286 (by decide) (fun hc => ?_) (fun hc => ?_)
      · have h := ite_t h hc
        refine lv_iload hx hb dL_isBeaten_293 (lv_at hl 4 rfl) ?_
        exact w295  x10 v34 Z h _ _ _ hI hN hS (lv_sub hl [] rfl)
      · have h := ite_f h hc
        refine lv_iconst (v := (1 : Int32)) hx hb dL_isBeaten_289 (by decide) ?_
        refine lv_goto (tgt := 295) hx hb dL_isBeaten_290 (by decide) ?_
        exact w295  (1 : Int32) v34 Z h _ _ _ hI hN hS (lv_sub hl [] rfl)
  have w171 : ∀ (x1 : Int32) (x2 : Int32) (x4 : Int32) (x6 : Int32) (x7 : Int32) (x8 : Int32) (x9 : Int32) (x10 : Int32) (x11 : Int32) (x12 : Int32) (t0 : Int32) (t1 : Int32) (t2 : Int32) (Z : CZ), fL_isBeaten_171  x1 x2 x4 x6 x7 x8 x9 x10 x11 x12 t0 t1 t2 Z = some (rz, Zz) → cG p l e (headSpec wsL_isBeaten rmL_isBeaten).room s m (([.ref (ad 0 0), .int a2, .int a3, .int a4, .int a5] : List Value).toArray) below meth c (MQ below (cQi D G A ad rz Zz) (([.ref (ad 0 0), .int a2, .int a3, .int a4, .int a5] : List Value).toArray) s 4 24 A) D G A ad 4 24 13 Z 171 [(0, .ref (ad 0 0)), (1, .int x1), (2, .int x2), (4, .int x4), (6, .int x6), (7, .int x7), (8, .int x8), (9, .int x9), (10, .int x10), (11, .int x11), (12, .int x12)] [.int t0, .int t1, .int t2] := by
    intro  x1 x2 x4 x6 x7 x8 x9 x10 x11 x12 t0 t1 t2 Z h H locs ls hI hN hS hl
    unfold fL_isBeaten_171 at h
    refine lv_iadd hx hb dL_isBeaten_171 ?_
    refine lv_icmp_ne (tgt := 302) hx hb dL_isBeaten_172 (by decide) (fun hc => ?_) (fun hc => ?_)
    · have h := ite_f h hc
      exact w302  Z h _ _ _ hI hN hS (lv_sub hl [] rfl)
    · have h := ite_t h hc
      refine lv_aload_n hx hb dL_isBeaten_175 rfl (lv_at hl 0 rfl) ?_
      refine lv_iload_n hx hb dL_isBeaten_176 rfl (lv_at hl 1 rfl) ?_
      refine lv_iload_n hx hb dL_isBeaten_177 rfl (lv_at hl 2 rfl) ?_
      refine lv_iconst (v := (0 : Int32)) hx hb dL_isBeaten_178 (by decide) ?_
      obtain ⟨v21, c22, h⟩ := cl1_ok h
      refine lw_calli (va_runV (As := [.int x1, .int x2, .int (0 : Int32)]) (rest := []) ⟨hx, hb, hml, hown, hts⟩ (mX6_field_n l D G A ad Z x1 x2 (0 : Int32) v21  c22) (cwV 3 hts gL_isBeaten_X6_field rfl rfl rfl (by decide +kernel) ⟨Nat.le_of_ble_eq_true rfl, Nat.le_of_ble_eq_true rfl⟩) (cg_preV hI hK hN rfl rfl (ci := 7) rfl) rfl rfl hl.1 rfl (lv_room (Nat.le_of_ble_eq_true rfl)) dL_isBeaten_179 ⟨Nat.le_of_ble_eq_true rfl, Nat.le_of_ble_eq_true rfl⟩) hS (fun H locs hI hN hS => ?_)
      refine W.widen (k := 4) (n := 24) (by decide) (by decide) ?_
      refine lv_iload hx hb dL_isBeaten_182 (lv_at hl 9 rfl) ?_
      refine lv_icmp_ne (tgt := 302) hx hb dL_isBeaten_184 (by decide) (fun hc => ?_) (fun hc => ?_)
      · have h := ite_f h hc
        exact w302  Z h _ _ _ hI hN hS (lv_sub hl [] rfl)
      · have h := ite_t h hc
        refine lv_aload_n hx hb dL_isBeaten_187 rfl (lv_at hl 0 rfl) ?_
        refine lv_iload_n hx hb dL_isBeaten_188 rfl (lv_at hl 1 rfl) ?_
        refine lv_iload_n hx hb dL_isBeaten_189 rfl (lv_at hl 2 rfl) ?_
        refine lv_iconst (v := (1 : Int32)) hx hb dL_isBeaten_190 (by decide) ?_
        refine lv_iadd hx hb dL_isBeaten_191 ?_
        refine lv_iconst (v := (4 : Int32)) hx hb dL_isBeaten_192 (by decide) ?_
        refine lv_irm hx hb dL_isBeaten_193 (by decide) ?_
        refine lv_iconst (v := (0 : Int32)) hx hb dL_isBeaten_194 (by decide) ?_
        obtain ⟨v23, c24, h⟩ := cl1_ok h
        refine lw_calli (va_runV (As := [.int x1, .int (irm (x2 + (1 : Int32)) (4 : Int32)), .int (0 : Int32)]) (rest := []) ⟨hx, hb, hml, hown, hts⟩ (mX6_field_n l D G A ad Z x1 (irm (x2 + (1 : Int32)) (4 : Int32)) (0 : Int32) v23  c24) (cwV 3 hts gL_isBeaten_X6_field rfl rfl rfl (by decide +kernel) ⟨Nat.le_of_ble_eq_true rfl, Nat.le_of_ble_eq_true rfl⟩) (cg_preV hI hK hN rfl rfl (ci := 7) rfl) rfl rfl hl.1 rfl (lv_room (Nat.le_of_ble_eq_true rfl)) dL_isBeaten_195 ⟨Nat.le_of_ble_eq_true rfl, Nat.le_of_ble_eq_true rfl⟩) hS (fun H locs hI hN hS => ?_)
        refine W.widen (k := 4) (n := 24) (by decide) (by decide) ?_
        refine lv_iload hx hb dL_isBeaten_198 (lv_at hl 4 rfl) ?_
        refine lv_iload hx hb dL_isBeaten_200 (lv_at hl 10 rfl) ?_
        refine lv_iadd hx hb dL_isBeaten_202 ?_
        refine lv_icmp_ne (tgt := 302) hx hb dL_isBeaten_203 (by decide) (fun hc => ?_) (fun hc => ?_)
        · have h := ite_f h hc
          exact w302  Z h _ _ _ hI hN hS (lv_sub hl [] rfl)
        · have h := ite_t h hc
          refine lv_aload_n hx hb dL_isBeaten_206 rfl (lv_at hl 0 rfl) ?_
          refine lv_iload_n hx hb dL_isBeaten_207 rfl (lv_at hl 1 rfl) ?_
          refine lv_iload_n hx hb dL_isBeaten_208 rfl (lv_at hl 2 rfl) ?_
          refine lv_iconst (v := (3 : Int32)) hx hb dL_isBeaten_209 (by decide) ?_
          refine lv_iadd hx hb dL_isBeaten_210 ?_
          refine lv_iconst (v := (4 : Int32)) hx hb dL_isBeaten_211 (by decide) ?_
          refine lv_irm hx hb dL_isBeaten_212 (by decide) ?_
          refine lv_iconst (v := (0 : Int32)) hx hb dL_isBeaten_213 (by decide) ?_
          obtain ⟨v25, c26, h⟩ := cl1_ok h
          refine lw_calli (va_runV (As := [.int x1, .int (irm (x2 + (3 : Int32)) (4 : Int32)), .int (0 : Int32)]) (rest := []) ⟨hx, hb, hml, hown, hts⟩ (mX6_field_n l D G A ad Z x1 (irm (x2 + (3 : Int32)) (4 : Int32)) (0 : Int32) v25  c26) (cwV 3 hts gL_isBeaten_X6_field rfl rfl rfl (by decide +kernel) ⟨Nat.le_of_ble_eq_true rfl, Nat.le_of_ble_eq_true rfl⟩) (cg_preV hI hK hN rfl rfl (ci := 7) rfl) rfl rfl hl.1 rfl (lv_room (Nat.le_of_ble_eq_true rfl)) dL_isBeaten_214 ⟨Nat.le_of_ble_eq_true rfl, Nat.le_of_ble_eq_true rfl⟩) hS (fun H locs hI hN hS => ?_)
          refine W.widen (k := 4) (n := 24) (by decide) (by decide) ?_
          refine lv_iload hx hb dL_isBeaten_217 (lv_at hl 5 rfl) ?_
          refine lv_iload hx hb dL_isBeaten_219 (lv_at hl 10 rfl) ?_
          refine lv_iadd hx hb dL_isBeaten_221 ?_
          refine lv_icmp_ne (tgt := 302) hx hb dL_isBeaten_222 (by decide) (fun hc => ?_) (fun hc => ?_)
          · have h := ite_f h hc
            exact w302  Z h _ _ _ hI hN hS (lv_sub hl [] rfl)
          · have h := ite_t h hc
            refine lv_aload_n hx hb dL_isBeaten_225 rfl (lv_at hl 0 rfl) ?_
            refine lv_iload_n hx hb dL_isBeaten_226 rfl (lv_at hl 1 rfl) ?_
            refine lv_iload_n hx hb dL_isBeaten_227 rfl (lv_at hl 2 rfl) ?_
            refine lv_iconst (v := (2 : Int32)) hx hb dL_isBeaten_228 (by decide) ?_
            refine lv_iadd hx hb dL_isBeaten_229 ?_
            refine lv_iconst (v := (4 : Int32)) hx hb dL_isBeaten_230 (by decide) ?_
            refine lv_irm hx hb dL_isBeaten_231 (by decide) ?_
            refine lv_iconst (v := (0 : Int32)) hx hb dL_isBeaten_232 (by decide) ?_
            obtain ⟨v27, c28, h⟩ := cl1_ok h
            refine lw_calli (va_runV (As := [.int x1, .int (irm (x2 + (2 : Int32)) (4 : Int32)), .int (0 : Int32)]) (rest := []) ⟨hx, hb, hml, hown, hts⟩ (mX6_field_n l D G A ad Z x1 (irm (x2 + (2 : Int32)) (4 : Int32)) (0 : Int32) v27  c28) (cwV 3 hts gL_isBeaten_X6_field rfl rfl rfl (by decide +kernel) ⟨Nat.le_of_ble_eq_true rfl, Nat.le_of_ble_eq_true rfl⟩) (cg_preV hI hK hN rfl rfl (ci := 7) rfl) rfl rfl hl.1 rfl (lv_room (Nat.le_of_ble_eq_true rfl)) dL_isBeaten_233 ⟨Nat.le_of_ble_eq_true rfl, Nat.le_of_ble_eq_true rfl⟩) hS (fun H locs hI hN hS => ?_)
            refine W.widen (k := 4) (n := 24) (by decide) (by decide) ?_
            refine lv_iload hx hb dL_isBeaten_236 (lv_at hl 6 rfl) ?_
            refine lv_icmp_ne (tgt := 302) hx hb dL_isBeaten_238 (by decide) (fun hc => ?_) (fun hc => ?_)
            · have h := ite_f h hc
              exact w302  Z h _ _ _ hI hN hS (lv_sub hl [] rfl)
            · have h := ite_t h hc
              refine lv_aload_n hx hb dL_isBeaten_241 rfl (lv_at hl 0 rfl) ?_
              refine lv_iload_n hx hb dL_isBeaten_242 rfl (lv_at hl 1 rfl) ?_
              refine lv_iload_n hx hb dL_isBeaten_243 rfl (lv_at hl 2 rfl) ?_
              refine lv_iconst (v := (2 : Int32)) hx hb dL_isBeaten_244 (by decide) ?_
              obtain ⟨v29, c30, h⟩ := cl1_ok h
              refine lw_calli (va_runV (As := [.int x1, .int x2, .int (2 : Int32)]) (rest := []) ⟨hx, hb, hml, hown, hts⟩ (mX6_field_n l D G A ad Z x1 x2 (2 : Int32) v29  c30) (cwV 3 hts gL_isBeaten_X6_field rfl rfl rfl (by decide +kernel) ⟨Nat.le_of_ble_eq_true rfl, Nat.le_of_ble_eq_true rfl⟩) (cg_preV hI hK hN rfl rfl (ci := 7) rfl) rfl rfl hl.1 rfl (lv_room (Nat.le_of_ble_eq_true rfl)) dL_isBeaten_245 ⟨Nat.le_of_ble_eq_true rfl, Nat.le_of_ble_eq_true rfl⟩) hS (fun H locs hI hN hS => ?_)
              refine W.widen (k := 4) (n := 24) (by decide) (by decide) ?_
              refine lv_iload hx hb dL_isBeaten_248 (lv_at hl 7 rfl) ?_
              refine lv_iconst (v := (1 : Int32)) hx hb dL_isBeaten_250 (by decide) ?_
              refine lv_iadd hx hb dL_isBeaten_251 ?_
              refine lv_icmp_ne (tgt := 302) hx hb dL_isBeaten_252 (by decide) (fun hc => ?_) (fun hc => ?_)
              · have h := ite_f h hc
                exact w302  Z h _ _ _ hI hN hS (lv_sub hl [] rfl)
              · have h := ite_t h hc
                refine lv_aload_n hx hb dL_isBeaten_255 rfl (lv_at hl 0 rfl) ?_
                refine lv_iload_n hx hb dL_isBeaten_256 rfl (lv_at hl 1 rfl) ?_
                refine lv_iload_n hx hb dL_isBeaten_257 rfl (lv_at hl 2 rfl) ?_
                refine lv_iconst (v := (4 : Int32)) hx hb dL_isBeaten_258 (by decide) ?_
                obtain ⟨v31, c32, h⟩ := cl1_ok h
                refine lw_calli (va_runV (As := [.int x1, .int x2, .int (4 : Int32)]) (rest := []) ⟨hx, hb, hml, hown, hts⟩ (mX6_field_n l D G A ad Z x1 x2 (4 : Int32) v31  c32) (cwV 3 hts gL_isBeaten_X6_field rfl rfl rfl (by decide +kernel) ⟨Nat.le_of_ble_eq_true rfl, Nat.le_of_ble_eq_true rfl⟩) (cg_preV hI hK hN rfl rfl (ci := 7) rfl) rfl rfl hl.1 rfl (lv_room (Nat.le_of_ble_eq_true rfl)) dL_isBeaten_259 ⟨Nat.le_of_ble_eq_true rfl, Nat.le_of_ble_eq_true rfl⟩) hS (fun H locs hI hN hS => ?_)
                refine W.widen (k := 4) (n := 24) (by decide) (by decide) ?_
                refine lv_iload hx hb dL_isBeaten_262 (lv_at hl 7 rfl) ?_
                refine lv_bipush (v := (6 : Int32)) hx hb dL_isBeaten_264 (by decide) ?_
                refine lv_icmp_ne (tgt := 273) hx hb dL_isBeaten_266 (by decide) (fun hc => ?_) (fun hc => ?_)
                · have h := ite_f h hc
                  refine lv_iconst (v := (0 : Int32)) hx hb dL_isBeaten_273 (by decide) ?_
                  exact w274  x1 x2 x4 x10 (0 : Int32) v31 Z h _ _ _ hI hN hS (lv_sub hl [0, 1, 2, 3, 8] rfl)
                · have h := ite_t h hc
                  refine lv_iconst (v := (1 : Int32)) hx hb dL_isBeaten_269 (by decide) ?_
                  refine lv_goto (tgt := 274) hx hb dL_isBeaten_270 (by decide) ?_
                  exact w274  x1 x2 x4 x10 (1 : Int32) v31 Z h _ _ _ hI hN hS (lv_sub hl [0, 1, 2, 3, 8] rfl)
  have w143 : ∀ (x1 : Int32) (x2 : Int32) (x3 : Int32) (x4 : Int32) (x5 : Int32) (x6 : Int32) (x7 : Int32) (x8 : Int32) (x9 : Int32) (x10 : Int32) (x11 : Int32) (t0 : Int32) (Z : CZ), fL_isBeaten_143  x1 x2 x3 x4 x5 x6 x7 x8 x9 x10 x11 t0 Z = some (rz, Zz) → cG p l e (headSpec wsL_isBeaten rmL_isBeaten).room s m (([.ref (ad 0 0), .int a2, .int a3, .int a4, .int a5] : List Value).toArray) below meth c (MQ below (cQi D G A ad rz Zz) (([.ref (ad 0 0), .int a2, .int a3, .int a4, .int a5] : List Value).toArray) s 4 24 A) D G A ad 4 24 13 Z 143 [(0, .ref (ad 0 0)), (1, .int x1), (2, .int x2), (3, .int x3), (4, .int x4), (5, .int x5), (6, .int x6), (7, .int x7), (8, .int x8), (9, .int x9), (10, .int x10), (11, .int x11)] [.int t0] := by
    intro  x1 x2 x3 x4 x5 x6 x7 x8 x9 x10 x11 t0 Z h H locs ls hI hN hS hl
    unfold fL_isBeaten_143 at h
    refine lv_istore (lv' := [(12, .int t0), (0, .ref (ad 0 0)), (1, .int x1), (2, .int x2), (3, .int x3), (4, .int x4), (5, .int x5), (6, .int x6), (7, .int x7), (8, .int x8), (9, .int x9), (10, .int x10), (11, .int x11)]) hx hb dL_isBeaten_143 hl (by decide) rfl (fun ls hl => ?_)
    refine lv_iload hx hb dL_isBeaten_145 (lv_at hl 10 rfl) ?_
    refine lv_bipush (v := (7 : Int32)) hx hb dL_isBeaten_147 (by decide) ?_
    refine lv_icmp_ge (tgt := 302) hx hb dL_isBeaten_149 (by decide) (fun hc => ?_) (fun hc => ?_)
    · have h := ite_t h hc
      exact w302  Z h _ _ _ hI hN hS (lv_sub hl [] rfl)
    · have h := ite_f h hc
      refine lv_iload hx hb dL_isBeaten_152 (lv_at hl 12 rfl) ?_
      refine lv_iload hx hb dL_isBeaten_154 (lv_at hl 6 rfl) ?_
      refine lv_iload hx hb dL_isBeaten_156 (lv_at hl 5 rfl) ?_
      refine lv_if_eq (tgt := 168) hx hb dL_isBeaten_158 (by decide) (fun hc => ?_) (fun hc => ?_)
      · have h := ite_t h hc
        refine lv_iconst (v := (4 : Int32)) hx hb dL_isBeaten_168 (by decide) ?_
        refine lv_iload_n hx hb dL_isBeaten_169 rfl (lv_at hl 4 rfl) ?_
        refine lv_imul hx hb dL_isBeaten_170 ?_
        exact w171  x1 x2 x4 x6 x7 x8 x9 x10 x11 t0 ((4 : Int32) * x3) x5 x11 Z h _ _ _ hI hN hS (lv_sub hl [1, 2, 3, 5, 7, 8, 9, 10, 11, 12, 0] rfl)
      · have h := ite_f h hc
        refine lv_bipush (v := (-6 : Int32)) hx hb dL_isBeaten_161 (by decide) ?_
        refine lv_iload_n hx hb dL_isBeaten_163 rfl (lv_at hl 4 rfl) ?_
        refine lv_imul hx hb dL_isBeaten_164 ?_
        refine lv_goto (tgt := 171) hx hb dL_isBeaten_165 (by decide) ?_
        exact w171  x1 x2 x4 x6 x7 x8 x9 x10 x11 t0 ((-6 : Int32) * x3) x5 x11 Z h _ _ _ hI hN hS (lv_sub hl [1, 2, 3, 5, 7, 8, 9, 10, 11, 12, 0] rfl)
  unfold fL_isBeaten at h
  refine lv_aload_n hx hb dL_isBeaten_0 rfl (lv_at hl 0 rfl) ?_
  refine lv_iload_n hx hb dL_isBeaten_1 rfl (lv_at hl 1 rfl) ?_
  refine lv_iload_n hx hb dL_isBeaten_2 rfl (lv_at hl 2 rfl) ?_
  refine lv_iconst (v := (0 : Int32)) hx hb dL_isBeaten_3 (by decide) ?_
  obtain ⟨v1, c2, h⟩ := cl1_ok h
  refine lw_calli (va_runV (As := [.int a2, .int a3, .int (0 : Int32)]) (rest := []) ⟨hx, hb, hml, hown, hts⟩ (mX6_field_n l D G A ad Z a2 a3 (0 : Int32) v1  c2) (cwV 3 hts gL_isBeaten_X6_field rfl rfl rfl (by decide +kernel) ⟨Nat.le_of_ble_eq_true rfl, Nat.le_of_ble_eq_true rfl⟩) (cg_preV hI hK hN rfl rfl (ci := 7) rfl) rfl rfl hl.1 rfl (lv_room (Nat.le_of_ble_eq_true rfl)) dL_isBeaten_4 ⟨Nat.le_of_ble_eq_true rfl, Nat.le_of_ble_eq_true rfl⟩) hS (fun H locs hI hN hS => ?_)
  refine W.widen (k := 0) (n := 0) (by decide) (by decide) ?_
  refine lv_istore (lv' := [(5, .int v1), (0, .ref (ad 0 0)), (1, .int a2), (2, .int a3), (3, .int a4), (4, .int a5)]) hx hb dL_isBeaten_7 hl (by decide) rfl (fun ls hl => ?_)
  refine lv_aload_n hx hb dL_isBeaten_9 rfl (lv_at hl 1 rfl) ?_
  refine lv_iload_n hx hb dL_isBeaten_10 rfl (lv_at hl 2 rfl) ?_
  refine lv_iload_n hx hb dL_isBeaten_11 rfl (lv_at hl 3 rfl) ?_
  refine lv_iconst (v := (1 : Int32)) hx hb dL_isBeaten_12 (by decide) ?_
  refine lv_iadd hx hb dL_isBeaten_13 ?_
  refine lv_iconst (v := (4 : Int32)) hx hb dL_isBeaten_14 (by decide) ?_
  refine lv_irm hx hb dL_isBeaten_15 (by decide) ?_
  refine lv_iconst (v := (0 : Int32)) hx hb dL_isBeaten_16 (by decide) ?_
  obtain ⟨v3, c4, h⟩ := cl1_ok h
  refine lw_calli (va_runV (As := [.int a2, .int (irm (a3 + (1 : Int32)) (4 : Int32)), .int (0 : Int32)]) (rest := []) ⟨hx, hb, hml, hown, hts⟩ (mX6_field_n l D G A ad Z a2 (irm (a3 + (1 : Int32)) (4 : Int32)) (0 : Int32) v3  c4) (cwV 3 hts gL_isBeaten_X6_field rfl rfl rfl (by decide +kernel) ⟨Nat.le_of_ble_eq_true rfl, Nat.le_of_ble_eq_true rfl⟩) (cg_preV hI hK hN rfl rfl (ci := 7) rfl) rfl rfl hl.1 rfl (lv_room (Nat.le_of_ble_eq_true rfl)) dL_isBeaten_17 ⟨Nat.le_of_ble_eq_true rfl, Nat.le_of_ble_eq_true rfl⟩) hS (fun H locs hI hN hS => ?_)
  refine W.widen (k := 0) (n := 0) (by decide) (by decide) ?_
  refine lv_istore (lv' := [(6, .int v3), (5, .int v1), (0, .ref (ad 0 0)), (1, .int a2), (2, .int a3), (3, .int a4), (4, .int a5)]) hx hb dL_isBeaten_20 hl (by decide) rfl (fun ls hl => ?_)
  refine lv_aload_n hx hb dL_isBeaten_22 rfl (lv_at hl 2 rfl) ?_
  refine lv_iload_n hx hb dL_isBeaten_23 rfl (lv_at hl 3 rfl) ?_
  refine lv_iload_n hx hb dL_isBeaten_24 rfl (lv_at hl 4 rfl) ?_
  refine lv_iconst (v := (3 : Int32)) hx hb dL_isBeaten_25 (by decide) ?_
  refine lv_iadd hx hb dL_isBeaten_26 ?_
  refine lv_iconst (v := (4 : Int32)) hx hb dL_isBeaten_27 (by decide) ?_
  refine lv_irm hx hb dL_isBeaten_28 (by decide) ?_
  refine lv_iconst (v := (0 : Int32)) hx hb dL_isBeaten_29 (by decide) ?_
  obtain ⟨v5, c6, h⟩ := cl1_ok h
  refine lw_calli (va_runV (As := [.int a2, .int (irm (a3 + (3 : Int32)) (4 : Int32)), .int (0 : Int32)]) (rest := []) ⟨hx, hb, hml, hown, hts⟩ (mX6_field_n l D G A ad Z a2 (irm (a3 + (3 : Int32)) (4 : Int32)) (0 : Int32) v5  c6) (cwV 3 hts gL_isBeaten_X6_field rfl rfl rfl (by decide +kernel) ⟨Nat.le_of_ble_eq_true rfl, Nat.le_of_ble_eq_true rfl⟩) (cg_preV hI hK hN rfl rfl (ci := 7) rfl) rfl rfl hl.1 rfl (lv_room (Nat.le_of_ble_eq_true rfl)) dL_isBeaten_30 ⟨Nat.le_of_ble_eq_true rfl, Nat.le_of_ble_eq_true rfl⟩) hS (fun H locs hI hN hS => ?_)
  refine W.widen (k := 0) (n := 0) (by decide) (by decide) ?_
  refine lv_istore (lv' := [(7, .int v5), (6, .int v3), (5, .int v1), (0, .ref (ad 0 0)), (1, .int a2), (2, .int a3), (3, .int a4), (4, .int a5)]) hx hb dL_isBeaten_33 hl (by decide) rfl (fun ls hl => ?_)
  refine lv_aload_n hx hb dL_isBeaten_35 rfl (lv_at hl 3 rfl) ?_
  refine lv_iload_n hx hb dL_isBeaten_36 rfl (lv_at hl 4 rfl) ?_
  refine lv_iload_n hx hb dL_isBeaten_37 rfl (lv_at hl 5 rfl) ?_
  refine lv_iconst (v := (2 : Int32)) hx hb dL_isBeaten_38 (by decide) ?_
  refine lv_iadd hx hb dL_isBeaten_39 ?_
  refine lv_iconst (v := (4 : Int32)) hx hb dL_isBeaten_40 (by decide) ?_
  refine lv_irm hx hb dL_isBeaten_41 (by decide) ?_
  refine lv_iconst (v := (0 : Int32)) hx hb dL_isBeaten_42 (by decide) ?_
  obtain ⟨v7, c8, h⟩ := cl1_ok h
  refine lw_calli (va_runV (As := [.int a2, .int (irm (a3 + (2 : Int32)) (4 : Int32)), .int (0 : Int32)]) (rest := []) ⟨hx, hb, hml, hown, hts⟩ (mX6_field_n l D G A ad Z a2 (irm (a3 + (2 : Int32)) (4 : Int32)) (0 : Int32) v7  c8) (cwV 3 hts gL_isBeaten_X6_field rfl rfl rfl (by decide +kernel) ⟨Nat.le_of_ble_eq_true rfl, Nat.le_of_ble_eq_true rfl⟩) (cg_preV hI hK hN rfl rfl (ci := 7) rfl) rfl rfl hl.1 rfl (lv_room (Nat.le_of_ble_eq_true rfl)) dL_isBeaten_43 ⟨Nat.le_of_ble_eq_true rfl, Nat.le_of_ble_eq_true rfl⟩) hS (fun H locs hI hN hS => ?_)
  refine W.widen (k := 0) (n := 0) (by decide) (by decide) ?_
  refine lv_istore (lv' := [(8, .int v7), (7, .int v5), (6, .int v3), (5, .int v1), (0, .ref (ad 0 0)), (1, .int a2), (2, .int a3), (3, .int a4), (4, .int a5)]) hx hb dL_isBeaten_46 hl (by decide) rfl (fun ls hl => ?_)
  refine lv_aload_n hx hb dL_isBeaten_48 rfl (lv_at hl 4 rfl) ?_
  refine lv_iload_n hx hb dL_isBeaten_49 rfl (lv_at hl 5 rfl) ?_
  refine lv_iload_n hx hb dL_isBeaten_50 rfl (lv_at hl 6 rfl) ?_
  refine lv_iconst (v := (2 : Int32)) hx hb dL_isBeaten_51 (by decide) ?_
  obtain ⟨v9, c10, h⟩ := cl1_ok h
  refine lw_calli (va_runV (As := [.int a2, .int a3, .int (2 : Int32)]) (rest := []) ⟨hx, hb, hml, hown, hts⟩ (mX6_field_n l D G A ad Z a2 a3 (2 : Int32) v9  c10) (cwV 3 hts gL_isBeaten_X6_field rfl rfl rfl (by decide +kernel) ⟨Nat.le_of_ble_eq_true rfl, Nat.le_of_ble_eq_true rfl⟩) (cg_preV hI hK hN rfl rfl (ci := 7) rfl) rfl rfl hl.1 rfl (lv_room (Nat.le_of_ble_eq_true rfl)) dL_isBeaten_52 ⟨Nat.le_of_ble_eq_true rfl, Nat.le_of_ble_eq_true rfl⟩) hS (fun H locs hI hN hS => ?_)
  refine W.widen (k := 0) (n := 0) (by decide) (by decide) ?_
  refine lv_istore (lv' := [(9, .int v9), (8, .int v7), (7, .int v5), (6, .int v3), (5, .int v1), (0, .ref (ad 0 0)), (1, .int a2), (2, .int a3), (3, .int a4), (4, .int a5)]) hx hb dL_isBeaten_55 hl (by decide) rfl (fun ls hl => ?_)
  refine lv_aload_n hx hb dL_isBeaten_57 rfl (lv_at hl 5 rfl) ?_
  refine lv_iload_n hx hb dL_isBeaten_58 rfl (lv_at hl 6 rfl) ?_
  refine lv_iload_n hx hb dL_isBeaten_59 rfl (lv_at hl 7 rfl) ?_
  refine lv_iconst (v := (3 : Int32)) hx hb dL_isBeaten_60 (by decide) ?_
  obtain ⟨v11, c12, h⟩ := cl1_ok h
  refine lw_calli (va_runV (As := [.int a2, .int a3, .int (3 : Int32)]) (rest := []) ⟨hx, hb, hml, hown, hts⟩ (mX6_field_n l D G A ad Z a2 a3 (3 : Int32) v11  c12) (cwV 3 hts gL_isBeaten_X6_field rfl rfl rfl (by decide +kernel) ⟨Nat.le_of_ble_eq_true rfl, Nat.le_of_ble_eq_true rfl⟩) (cg_preV hI hK hN rfl rfl (ci := 7) rfl) rfl rfl hl.1 rfl (lv_room (Nat.le_of_ble_eq_true rfl)) dL_isBeaten_61 ⟨Nat.le_of_ble_eq_true rfl, Nat.le_of_ble_eq_true rfl⟩) hS (fun H locs hI hN hS => ?_)
  refine W.widen (k := 0) (n := 0) (by decide) (by decide) ?_
  refine lv_istore (lv' := [(10, .int v11), (9, .int v9), (8, .int v7), (7, .int v5), (6, .int v3), (5, .int v1), (0, .ref (ad 0 0)), (1, .int a2), (2, .int a3), (3, .int a4), (4, .int a5)]) hx hb dL_isBeaten_64 hl (by decide) rfl (fun ls hl => ?_)
  refine lv_aload_n hx hb dL_isBeaten_66 rfl (lv_at hl 6 rfl) ?_
  refine lv_iload_n hx hb dL_isBeaten_67 rfl (lv_at hl 7 rfl) ?_
  refine lv_iload_n hx hb dL_isBeaten_68 rfl (lv_at hl 8 rfl) ?_
  refine lv_iload_n hx hb dL_isBeaten_69 rfl (lv_at hl 9 rfl) ?_
  refine lv_iload hx hb dL_isBeaten_70 (lv_at hl 10 rfl) ?_
  obtain ⟨v13, Z15, c14, h⟩ := cl2_ok h
  refine lw_callx (vx_runSX (As := [.ref (ad 0 0), .int a2, .int a3, .int a4, .int a5]) (rest := []) ⟨hx, hb, hml, hown, hts⟩ (mL_blows l hfl D G A ad Z a2 a3 a4 a5 v13 Z15 c14) (vx_cwSW 5 hts gL_isBeaten_L_blows rfl rfl rfl (by decide +kernel) ⟨Nat.le_of_ble_eq_true rfl, Nat.le_of_ble_eq_true rfl⟩) (sg_preS hI hK hN hE hS (fun _ h => h)) rfl rfl hl.1 rfl (lv_room (Nat.le_of_ble_eq_true rfl)) dL_isBeaten_72 ⟨Nat.le_of_ble_eq_true rfl, Nat.le_of_ble_eq_true rfl⟩) hS (fun H locs hI hN hS => ?_)
  refine W.widen (k := 4) (n := 24) (by decide) (by decide) ?_
  refine lv_istore (lv' := [(11, .int v13), (10, .int v11), (9, .int v9), (8, .int v7), (7, .int v5), (6, .int v3), (5, .int v1), (0, .ref (ad 0 0)), (1, .int a2), (2, .int a3), (3, .int a4), (4, .int a5)]) hx hb dL_isBeaten_75 hl (by decide) rfl (fun ls hl => ?_)
  refine lv_iload hx hb dL_isBeaten_77 (lv_at hl 0 rfl) ?_
  refine lv_ldc (v := (-2000000 : Int32)) hx hb hown l0 dL_isBeaten_79 ?_
  refine lv_icmp_ne (tgt := 132) hx hb dL_isBeaten_81 (by decide) (fun hc => ?_) (fun hc => ?_)
  · have h := ite_f h hc
    refine lv_iload hx hb dL_isBeaten_132 (lv_at hl 11 rfl) ?_
    refine lv_if_eq (tgt := 141) hx hb dL_isBeaten_134 (by decide) (fun hc => ?_) (fun hc => ?_)
    · have h := ite_t h hc
      refine lv_iload_n hx hb dL_isBeaten_141 rfl (lv_at hl 10 rfl) ?_
      refine lv_ineg hx hb dL_isBeaten_142 ?_
      exact w143  a2 a3 a4 a5 v1 v3 v5 v7 v9 v11 v13 (-a4) Z15 h _ _ _ hI hN hS (lv_sub hl [7, 8, 9, 10, 11, 6, 5, 4, 3, 2, 1, 0] rfl)
    · have h := ite_f h hc
      refine lv_iload_n hx hb dL_isBeaten_137 rfl (lv_at hl 10 rfl) ?_
      refine lv_goto (tgt := 143) hx hb dL_isBeaten_138 (by decide) ?_
      exact w143  a2 a3 a4 a5 v1 v3 v5 v7 v9 v11 v13 a4 Z15 h _ _ _ hI hN hS (lv_sub hl [7, 8, 9, 10, 11, 6, 5, 4, 3, 2, 1, 0] rfl)
  · have h := ite_t h hc
    refine lv_iload hx hb dL_isBeaten_84 (lv_at hl 2 rfl) ?_
    refine lv_bipush (v := (7 : Int32)) hx hb dL_isBeaten_86 (by decide) ?_
    refine lv_icmp_eq (tgt := 102) hx hb dL_isBeaten_88 (by decide) (fun hc => ?_) (fun hc => ?_)
    · have h := ite_t h hc
      exact w102  a2 a3 v1 v9 Z15 h _ _ _ hI hN hS (lv_sub hl [7, 8, 9, 6, 2] rfl)
    · have h := ite_f h hc
      refine lv_iload hx hb dL_isBeaten_91 (lv_at hl 1 rfl) ?_
      refine lv_iconst (v := (1 : Int32)) hx hb dL_isBeaten_93 (by decide) ?_
      refine lv_icmp_ne (tgt := 130) hx hb dL_isBeaten_94 (by decide) (fun hc => ?_) (fun hc => ?_)
      · have h := ite_f h hc
        exact w130  Z15 h _ _ _ hI hN hS (lv_sub hl [] rfl)
      · have h := ite_t h hc
        refine lv_iload hx hb dL_isBeaten_97 (lv_at hl 11 rfl) ?_
        refine lv_if_ne (tgt := 130) hx hb dL_isBeaten_99 (by decide) (fun hc => ?_) (fun hc => ?_)
        · have h := ite_f h hc
          exact w130  Z15 h _ _ _ hI hN hS (lv_sub hl [] rfl)
        · have h := ite_t h hc
          exact w102  a2 a3 v1 v9 Z15 h _ _ _ hI hN hS (lv_sub hl [7, 8, 9, 6, 2] rfl)
def fL_isPlanned_212 (k128 : Int32 → Int32 → Int32 → Int32 → Int32 → Int32 → Int32 → CZ → Option (Int32 × CZ)) (x1 : Int32) (x2 : Int32) (x3 : Int32) (x4 : Int32) (x5 : Int32) (x7 : Int32) (t0 : Int32) (Z : CZ) : Option (Int32 × CZ) := bnd (x7 + (1 : Int32)) (fun v25 => k128 x1 x2 x3 x4 x5 t0 v25 Z)
def fL_isPlanned_211 (k128 : Int32 → Int32 → Int32 → Int32 → Int32 → Int32 → Int32 → CZ → Option (Int32 × CZ)) (x1 : Int32) (x2 : Int32) (x3 : Int32) (x4 : Int32) (x5 : Int32) (x7 : Int32) (Z : CZ) : Option (Int32 × CZ) := fL_isPlanned_212 k128 x1 x2 x3 x4 x5 x7 (0 : Int32) Z
def fL_isPlanned_199 (k128 : Int32 → Int32 → Int32 → Int32 → Int32 → Int32 → Int32 → CZ → Option (Int32 × CZ)) (x1 : Int32) (x2 : Int32) (x3 : Int32) (x4 : Int32) (x5 : Int32) (x7 : Int32) (t0 : Int32) (t1 : Int32) (t2 : Int32) (t3 : Int32) (Z : CZ) : Option (Int32 × CZ) := cl2 (fL_blows_n t3 t2 t1 t0 Z) (fun v22 Z24 => (if v22 ≤ (-2000000 : Int32) then fL_isPlanned_211 k128 x1 x2 x3 x4 x5 x7 Z24 else fL_isPlanned_212 k128 x1 x2 x3 x4 x5 x7 (1 : Int32) Z24))
def fL_isPlanned_161 (k128 : Int32 → Int32 → Int32 → Int32 → Int32 → Int32 → Int32 → CZ → Option (Int32 × CZ)) (x1 : Int32) (x2 : Int32) (x3 : Int32) (x4 : Int32) (x5 : Int32) (x7 : Int32) (t0 : Int32) (Z : CZ) : Option (Int32 × CZ) := cl1 (fX6_isInTune_n x1 Z) (fun v15 => (if v15 = 0 then (if (irm t0 (2 : Int32)) = (1 : Int32) then fL_isPlanned_199 k128 x1 x2 x3 x4 x5 x7 (1 : Int32) ((irm (t0 / (2 : Int32)) (4 : Int32)) + (1 : Int32)) (t0 / (8 : Int32)) x1 Z else fL_isPlanned_199 k128 x1 x2 x3 x4 x5 x7 (0 : Int32) ((irm (t0 / (2 : Int32)) (4 : Int32)) + (1 : Int32)) (t0 / (8 : Int32)) x1 Z) else fL_isPlanned_211 k128 x1 x2 x3 x4 x5 x7 Z))
def fL_isPlanned_252 (t0 : Int32) (Z : CZ) : Option (Int32 × CZ) := gd (gbo t0) (some (t0, Z))
def fL_isPlanned_247 (Z : CZ) : Option (Int32 × CZ) := fL_isPlanned_252 (1 : Int32) Z
def fL_isPlanned_251 (Z : CZ) : Option (Int32 × CZ) := fL_isPlanned_252 (0 : Int32) Z
def fL_isPlanned_220 (x1 : Int32) (x2 : Int32) (x6 : Int32) (Z : CZ) : Option (Int32 × CZ) := (if x6 = 0 then fL_isPlanned_251 Z else (if x2 = (-1 : Int32) then fL_isPlanned_247 Z else cl1 (fX6_isInTune_n x1 Z) (fun v17 => (if v17 = 0 then fL_isPlanned_251 Z else cl2 (fX6_plan_n x1 (0 : Int32) Z) (fun v19 Z21 => (if v19 = 0 then fL_isPlanned_247 Z21 else fL_isPlanned_251 Z21))))))
def fL_isPlanned_128 (k128 : Int32 → Int32 → Int32 → Int32 → Int32 → Int32 → Int32 → CZ → Option (Int32 × CZ)) (x1 : Int32) (x2 : Int32) (x3 : Int32) (x4 : Int32) (x5 : Int32) (x6 : Int32) (x7 : Int32) (Z : CZ) : Option (Int32 × CZ) := (if x2 ≤ x7 then fL_isPlanned_220 x1 x2 x6 Z else (if x6 = 0 then fL_isPlanned_220 x1 x2 x6 Z else (if x7 = 0 then fL_isPlanned_161 k128 x1 x2 x3 x4 x5 x7 x3 Z else (if x7 = (1 : Int32) then fL_isPlanned_161 k128 x1 x2 x3 x4 x5 x7 x4 Z else fL_isPlanned_161 k128 x1 x2 x3 x4 x5 x7 x5 Z))))
def fL_isPlanned_123 (x1 : Int32) (x2 : Int32) (x3 : Int32) (x4 : Int32) (x5 : Int32) (t0 : Int32) (Z : CZ) : Option (Int32 × CZ) := lf8 fL_isPlanned_128 100 x1 x2 x3 x4 x5 t0 (0 : Int32) Z
def fL_isPlanned_122 (x1 : Int32) (x2 : Int32) (x3 : Int32) (x4 : Int32) (x5 : Int32) (Z : CZ) : Option (Int32 × CZ) := fL_isPlanned_123 x1 x2 x3 x4 x5 (0 : Int32) Z
def fL_isPlanned_115 (x1 : Int32) (x2 : Int32) (x3 : Int32) (x4 : Int32) (x5 : Int32) (t0 : Int32) (t1 : Int32) (Z : CZ) : Option (Int32 × CZ) := (if t1 = t0 then fL_isPlanned_123 x1 x2 x3 x4 x5 (1 : Int32) Z else fL_isPlanned_122 x1 x2 x3 x4 x5 Z)
def fL_isPlanned_105 (x1 : Int32) (x2 : Int32) (x3 : Int32) (x4 : Int32) (x5 : Int32) (t0 : Int32) (Z : CZ) : Option (Int32 × CZ) := (if (3 : Int32) ≤ x2 then fL_isPlanned_115 x1 x2 x3 x4 x5 (0 : Int32) t0 Z else fL_isPlanned_115 x1 x2 x3 x4 x5 (1 : Int32) t0 Z)
def fL_isPlanned_91 (x1 : Int32) (x2 : Int32) (x3 : Int32) (x4 : Int32) (x5 : Int32) (t0 : Int32) (t1 : Int32) (Z : CZ) : Option (Int32 × CZ) := (if t1 = t0 then (if x5 = (-1 : Int32) then fL_isPlanned_105 x1 x2 x3 x4 x5 (1 : Int32) Z else fL_isPlanned_105 x1 x2 x3 x4 x5 (0 : Int32) Z) else fL_isPlanned_122 x1 x2 x3 x4 x5 Z)
def fL_isPlanned_81 (x1 : Int32) (x2 : Int32) (x3 : Int32) (x4 : Int32) (x5 : Int32) (t0 : Int32) (Z : CZ) : Option (Int32 × CZ) := (if (2 : Int32) ≤ x2 then fL_isPlanned_91 x1 x2 x3 x4 x5 (0 : Int32) t0 Z else fL_isPlanned_91 x1 x2 x3 x4 x5 (1 : Int32) t0 Z)
def fL_isPlanned_67 (x1 : Int32) (x2 : Int32) (x3 : Int32) (x4 : Int32) (x5 : Int32) (t0 : Int32) (t1 : Int32) (Z : CZ) : Option (Int32 × CZ) := (if t1 = t0 then (if x4 = (-1 : Int32) then fL_isPlanned_81 x1 x2 x3 x4 x5 (1 : Int32) Z else fL_isPlanned_81 x1 x2 x3 x4 x5 (0 : Int32) Z) else fL_isPlanned_122 x1 x2 x3 x4 x5 Z)
def fL_isPlanned_57 (x1 : Int32) (x2 : Int32) (x3 : Int32) (x4 : Int32) (x5 : Int32) (t0 : Int32) (Z : CZ) : Option (Int32 × CZ) := (if (1 : Int32) ≤ x2 then fL_isPlanned_67 x1 x2 x3 x4 x5 (0 : Int32) t0 Z else fL_isPlanned_67 x1 x2 x3 x4 x5 (1 : Int32) t0 Z)
def fL_isPlanned_39 (x1 : Int32) (x2 : Int32) (x3 : Int32) (x4 : Int32) (x5 : Int32) (t0 : Int32) (Z : CZ) : Option (Int32 × CZ) := cl1 (fX6_isInTune_n x1 Z) (fun v13 => (if t0 = v13 then (if x3 = (-1 : Int32) then fL_isPlanned_57 x1 x2 x3 x4 x5 (1 : Int32) Z else fL_isPlanned_57 x1 x2 x3 x4 x5 (0 : Int32) Z) else fL_isPlanned_122 x1 x2 x3 x4 x5 Z))
def fL_isPlanned (a2 : Int32) (Z : CZ) : Option (Int32 × CZ) := cl2 (fX6_plan_n a2 (0 : Int32) Z) (fun v1 Z3 => cl2 (fX6_plan_n a2 (1 : Int32) Z3) (fun v4 Z6 => cl2 (fX6_plan_n a2 (2 : Int32) Z6) (fun v7 Z9 => cl2 (fX6_plan_n a2 (3 : Int32) Z9) (fun v10 Z12 => (if v1 = 0 then fL_isPlanned_39 a2 v1 v4 v7 v10 (1 : Int32) Z12 else fL_isPlanned_39 a2 v1 v4 v7 v10 (0 : Int32) Z12)))))
def rmL_isPlanned : Room := { frames := 16, cells := 0, slots := 0, locals := 576 }
set_option maxHeartbeats 8000000 in
set_option maxRecDepth 100000 in
theorem mL_isPlanned (l : Launch) (hfl : l.stackTraces = false) (D : va_G) (G : CGT) (A : Nat → Prop) (ad : Nat → Nat → Nat) (Z : CZ) (a2 : Int32) (rz : Int32) (Zz : CZ) (h : fL_isPlanned a2 Z = some (rz, Zz)) : Met l yL_isPlanned wsL_isPlanned rmL_isPlanned (va_Pc [.ref (ad 0 0), .int a2] (xP D G A ad Z)) (cQi D G A ad rz Zz) 0 0 A := by
  refine Met.ofW (cc := cL_isPlanned) (maxL := 9) (ret := some .boolean) (by decide) rfl ?_
  intro p e s m args below meth c s₁ B hml hv
  obtain ⟨rfl, ⟨hI, hN, hK⟩, hE⟩ := hv
  have hx := B.exec
  have hb := B.bytes
  have hr := B.returns
  have hts := atoms_spec (ws := wsL_isPlanned) B.pre
  have hown : s.vm.findClass RL = some m.cls := findClass_of_methodNamed B.named
  have hlocks := B.notSynchronized
  have l0 := hts (.constant RL 18 (-2000000)) (List.mem_of_getElem? (i := 1) rfl)
  have hS : va_S A s.heap s.heap [] := va_S.rf
  have hl := lv_entry ([.ref (ad 0 0), .int a2]) (n := 9) (Nat.le_of_ble_eq_true rfl)
  rw [lg_entry_eq]
  generalize (lg_sl ([.ref (ad 0 0), .int a2]) ++ List.replicate (9 - (lg_sl ([.ref (ad 0 0), .int a2])).length) Slot.unset).toArray = ls at hl ⊢
  have hl : lv_has ls 9 [(0, .ref (ad 0 0)), (1, .int a2)] := hl
  have w212 : ∀ (k128 : Int32 → Int32 → Int32 → Int32 → Int32 → Int32 → Int32 → CZ → Option (Int32 × CZ)) (hk128 : (∀ (x1 : Int32) (x2 : Int32) (x3 : Int32) (x4 : Int32) (x5 : Int32) (x6 : Int32) (x7 : Int32) (Z : CZ), k128 x1 x2 x3 x4 x5 x6 x7 Z = some (rz, Zz) → cG p l e (headSpec wsL_isPlanned rmL_isPlanned).room s m (([.ref (ad 0 0), .int a2] : List Value).toArray) below meth c (MQ below (cQi D G A ad rz Zz) (([.ref (ad 0 0), .int a2] : List Value).toArray) s 0 0 A) D G A ad 0 0 9 Z 128 [(0, .ref (ad 0 0)), (1, .int x1), (2, .int x2), (3, .int x3), (4, .int x4), (5, .int x5), (6, .int x6), (7, .int x7)] [])) (x1 : Int32) (x2 : Int32) (x3 : Int32) (x4 : Int32) (x5 : Int32) (x7 : Int32) (t0 : Int32) (Z : CZ), fL_isPlanned_212 k128 x1 x2 x3 x4 x5 x7 t0 Z = some (rz, Zz) → cG p l e (headSpec wsL_isPlanned rmL_isPlanned).room s m (([.ref (ad 0 0), .int a2] : List Value).toArray) below meth c (MQ below (cQi D G A ad rz Zz) (([.ref (ad 0 0), .int a2] : List Value).toArray) s 0 0 A) D G A ad 0 0 9 Z 212 [(0, .ref (ad 0 0)), (1, .int x1), (2, .int x2), (3, .int x3), (4, .int x4), (5, .int x5), (7, .int x7)] [.int t0] := by
    intro k128 hk128 x1 x2 x3 x4 x5 x7 t0 Z h H locs ls hI hN hS hl
    unfold fL_isPlanned_212 at h
    refine lv_istore (lv' := [(6, .int t0), (0, .ref (ad 0 0)), (1, .int x1), (2, .int x2), (3, .int x3), (4, .int x4), (5, .int x5), (7, .int x7)]) hx hb dL_isPlanned_212 hl (by decide) rfl (fun ls hl => ?_)
    obtain ⟨v25, ev25⟩ : ∃ y : Int32, y = (x7 + (1 : Int32)) := ⟨_, rfl⟩
    have h := bnd_ok h ev25
    refine lv_iinc (v := v25) (lv' := [(7, .int v25), (6, .int t0), (0, .ref (ad 0 0)), (1, .int x1), (2, .int x2), (3, .int x3), (4, .int x4), (5, .int x5)]) hx hb dL_isPlanned_214 hl (k := 7) rfl (by rw [ev25]; rfl) (by decide) rfl (fun ls hl => ?_)
    refine lv_goto (tgt := 128) hx hb dL_isPlanned_217 (by decide) ?_
    exact hk128 x1 x2 x3 x4 x5 t0 v25 Z h _ _ _ hI hN hS (lv_sub hl [2, 3, 4, 5, 6, 7, 1, 0] rfl)
  have w211 : ∀ (k128 : Int32 → Int32 → Int32 → Int32 → Int32 → Int32 → Int32 → CZ → Option (Int32 × CZ)) (hk128 : (∀ (x1 : Int32) (x2 : Int32) (x3 : Int32) (x4 : Int32) (x5 : Int32) (x6 : Int32) (x7 : Int32) (Z : CZ), k128 x1 x2 x3 x4 x5 x6 x7 Z = some (rz, Zz) → cG p l e (headSpec wsL_isPlanned rmL_isPlanned).room s m (([.ref (ad 0 0), .int a2] : List Value).toArray) below meth c (MQ below (cQi D G A ad rz Zz) (([.ref (ad 0 0), .int a2] : List Value).toArray) s 0 0 A) D G A ad 0 0 9 Z 128 [(0, .ref (ad 0 0)), (1, .int x1), (2, .int x2), (3, .int x3), (4, .int x4), (5, .int x5), (6, .int x6), (7, .int x7)] [])) (x1 : Int32) (x2 : Int32) (x3 : Int32) (x4 : Int32) (x5 : Int32) (x7 : Int32) (Z : CZ), fL_isPlanned_211 k128 x1 x2 x3 x4 x5 x7 Z = some (rz, Zz) → cG p l e (headSpec wsL_isPlanned rmL_isPlanned).room s m (([.ref (ad 0 0), .int a2] : List Value).toArray) below meth c (MQ below (cQi D G A ad rz Zz) (([.ref (ad 0 0), .int a2] : List Value).toArray) s 0 0 A) D G A ad 0 0 9 Z 211 [(0, .ref (ad 0 0)), (1, .int x1), (2, .int x2), (3, .int x3), (4, .int x4), (5, .int x5), (7, .int x7)] [] := by
    intro k128 hk128 x1 x2 x3 x4 x5 x7 Z h H locs ls hI hN hS hl
    unfold fL_isPlanned_211 at h
    refine lv_iconst (v := (0 : Int32)) hx hb dL_isPlanned_211 (by decide) ?_
    exact w212 k128 hk128 x1 x2 x3 x4 x5 x7 (0 : Int32) Z h _ _ _ hI hN hS (lv_sub hl [0, 1, 2, 3, 4, 5, 6] rfl)
  have w199 : ∀ (k128 : Int32 → Int32 → Int32 → Int32 → Int32 → Int32 → Int32 → CZ → Option (Int32 × CZ)) (hk128 : (∀ (x1 : Int32) (x2 : Int32) (x3 : Int32) (x4 : Int32) (x5 : Int32) (x6 : Int32) (x7 : Int32) (Z : CZ), k128 x1 x2 x3 x4 x5 x6 x7 Z = some (rz, Zz) → cG p l e (headSpec wsL_isPlanned rmL_isPlanned).room s m (([.ref (ad 0 0), .int a2] : List Value).toArray) below meth c (MQ below (cQi D G A ad rz Zz) (([.ref (ad 0 0), .int a2] : List Value).toArray) s 0 0 A) D G A ad 0 0 9 Z 128 [(0, .ref (ad 0 0)), (1, .int x1), (2, .int x2), (3, .int x3), (4, .int x4), (5, .int x5), (6, .int x6), (7, .int x7)] [])) (x1 : Int32) (x2 : Int32) (x3 : Int32) (x4 : Int32) (x5 : Int32) (x7 : Int32) (t0 : Int32) (t1 : Int32) (t2 : Int32) (t3 : Int32) (Z : CZ), fL_isPlanned_199 k128 x1 x2 x3 x4 x5 x7 t0 t1 t2 t3 Z = some (rz, Zz) → cG p l e (headSpec wsL_isPlanned rmL_isPlanned).room s m (([.ref (ad 0 0), .int a2] : List Value).toArray) below meth c (MQ below (cQi D G A ad rz Zz) (([.ref (ad 0 0), .int a2] : List Value).toArray) s 0 0 A) D G A ad 0 0 9 Z 199 [(0, .ref (ad 0 0)), (1, .int x1), (2, .int x2), (3, .int x3), (4, .int x4), (5, .int x5), (7, .int x7)] [.int t0, .int t1, .int t2, .int t3, .ref (ad 0 0)] := by
    intro k128 hk128 x1 x2 x3 x4 x5 x7 t0 t1 t2 t3 Z h H locs ls hI hN hS hl
    unfold fL_isPlanned_199 at h
    obtain ⟨v22, Z24, c23, h⟩ := cl2_ok h
    refine lw_callx (vx_runSX (As := [.ref (ad 0 0), .int t3, .int t2, .int t1, .int t0]) (rest := []) ⟨hx, hb, hml, hown, hts⟩ (mL_blows_n l hfl D G A ad Z t3 t2 t1 t0 v22 Z24 c23) (vx_cwSW 5 hts gL_isPlanned_L_blows rfl rfl rfl (by decide +kernel) ⟨Nat.le_of_ble_eq_true rfl, Nat.le_of_ble_eq_true rfl⟩) (sg_preS hI hK hN hE hS (fun _ h => h)) rfl rfl hl.1 rfl (lv_room (Nat.le_of_ble_eq_true rfl)) dL_isPlanned_199 ⟨Nat.le_of_ble_eq_true rfl, Nat.le_of_ble_eq_true rfl⟩) hS (fun H locs hI hN hS => ?_)
    refine W.widen (k := 0) (n := 0) (by decide) (by decide) ?_
    refine lv_ldc (v := (-2000000 : Int32)) hx hb hown l0 dL_isPlanned_202 ?_
    refine lv_icmp_le (tgt := 211) hx hb dL_isPlanned_204 (by decide) (fun hc => ?_) (fun hc => ?_)
    · have h := ite_t h hc
      exact w211 k128 hk128 x1 x2 x3 x4 x5 x7 Z24 h _ _ _ hI hN hS (lv_sub hl [0, 1, 2, 3, 4, 5, 6] rfl)
    · have h := ite_f h hc
      refine lv_iconst (v := (1 : Int32)) hx hb dL_isPlanned_207 (by decide) ?_
      refine lv_goto (tgt := 212) hx hb dL_isPlanned_208 (by decide) ?_
      exact w212 k128 hk128 x1 x2 x3 x4 x5 x7 (1 : Int32) Z24 h _ _ _ hI hN hS (lv_sub hl [0, 1, 2, 3, 4, 5, 6] rfl)
  have w161 : ∀ (k128 : Int32 → Int32 → Int32 → Int32 → Int32 → Int32 → Int32 → CZ → Option (Int32 × CZ)) (hk128 : (∀ (x1 : Int32) (x2 : Int32) (x3 : Int32) (x4 : Int32) (x5 : Int32) (x6 : Int32) (x7 : Int32) (Z : CZ), k128 x1 x2 x3 x4 x5 x6 x7 Z = some (rz, Zz) → cG p l e (headSpec wsL_isPlanned rmL_isPlanned).room s m (([.ref (ad 0 0), .int a2] : List Value).toArray) below meth c (MQ below (cQi D G A ad rz Zz) (([.ref (ad 0 0), .int a2] : List Value).toArray) s 0 0 A) D G A ad 0 0 9 Z 128 [(0, .ref (ad 0 0)), (1, .int x1), (2, .int x2), (3, .int x3), (4, .int x4), (5, .int x5), (6, .int x6), (7, .int x7)] [])) (x1 : Int32) (x2 : Int32) (x3 : Int32) (x4 : Int32) (x5 : Int32) (x7 : Int32) (t0 : Int32) (Z : CZ), fL_isPlanned_161 k128 x1 x2 x3 x4 x5 x7 t0 Z = some (rz, Zz) → cG p l e (headSpec wsL_isPlanned rmL_isPlanned).room s m (([.ref (ad 0 0), .int a2] : List Value).toArray) below meth c (MQ below (cQi D G A ad rz Zz) (([.ref (ad 0 0), .int a2] : List Value).toArray) s 0 0 A) D G A ad 0 0 9 Z 161 [(0, .ref (ad 0 0)), (1, .int x1), (2, .int x2), (3, .int x3), (4, .int x4), (5, .int x5), (7, .int x7)] [.int t0] := by
    intro k128 hk128 x1 x2 x3 x4 x5 x7 t0 Z h H locs ls hI hN hS hl
    unfold fL_isPlanned_161 at h
    refine lv_istore (lv' := [(8, .int t0), (0, .ref (ad 0 0)), (1, .int x1), (2, .int x2), (3, .int x3), (4, .int x4), (5, .int x5), (7, .int x7)]) hx hb dL_isPlanned_161 hl (by decide) rfl (fun ls hl => ?_)
    refine lv_aload_n hx hb dL_isPlanned_163 rfl (lv_at hl 1 rfl) ?_
    refine lv_iload_n hx hb dL_isPlanned_164 rfl (lv_at hl 2 rfl) ?_
    obtain ⟨v15, c16, h⟩ := cl1_ok h
    refine lw_calli (va_runV (As := [.int x1]) (rest := []) ⟨hx, hb, hml, hown, hts⟩ (mX6_isInTune_n l D G A ad Z x1 v15  c16) (cwV 1 hts gL_isPlanned_X6_isInTune rfl rfl rfl (by decide +kernel) ⟨Nat.le_of_ble_eq_true rfl, Nat.le_of_ble_eq_true rfl⟩) (cg_preV hI hK hN rfl rfl (ci := 7) rfl) rfl rfl hl.1 rfl (lv_room (Nat.le_of_ble_eq_true rfl)) dL_isPlanned_165 ⟨Nat.le_of_ble_eq_true rfl, Nat.le_of_ble_eq_true rfl⟩) hS (fun H locs hI hN hS => ?_)
    refine W.widen (k := 0) (n := 0) (by decide) (by decide) ?_
    refine lv_if_ne (tgt := 211) hx hb dL_isPlanned_168 (by decide) (fun hc => ?_) (fun hc => ?_)
    · have h := ite_f h hc
      exact w211 k128 hk128 x1 x2 x3 x4 x5 x7 Z h _ _ _ hI hN hS (lv_sub hl [1, 2, 3, 4, 5, 6, 7] rfl)
    · have h := ite_t h hc
      refine lv_aload_n hx hb dL_isPlanned_171 rfl (lv_at hl 1 rfl) ?_
      refine lv_iload_n hx hb dL_isPlanned_172 rfl (lv_at hl 2 rfl) ?_
      refine lv_iload hx hb dL_isPlanned_173 (lv_at hl 0 rfl) ?_
      refine lv_bipush (v := (8 : Int32)) hx hb dL_isPlanned_175 (by decide) ?_
      refine lv_idiv hx hb dL_isPlanned_177 (by decide) ?_
      refine lv_iload hx hb dL_isPlanned_178 (lv_at hl 0 rfl) ?_
      refine lv_iconst (v := (2 : Int32)) hx hb dL_isPlanned_180 (by decide) ?_
      refine lv_idiv hx hb dL_isPlanned_181 (by decide) ?_
      refine lv_iconst (v := (4 : Int32)) hx hb dL_isPlanned_182 (by decide) ?_
      refine lv_irm hx hb dL_isPlanned_183 (by decide) ?_
      refine lv_iconst (v := (1 : Int32)) hx hb dL_isPlanned_184 (by decide) ?_
      refine lv_iadd hx hb dL_isPlanned_185 ?_
      refine lv_iload hx hb dL_isPlanned_186 (lv_at hl 0 rfl) ?_
      refine lv_iconst (v := (2 : Int32)) hx hb dL_isPlanned_188 (by decide) ?_
      refine lv_irm hx hb dL_isPlanned_189 (by decide) ?_
      refine lv_iconst (v := (1 : Int32)) hx hb dL_isPlanned_190 (by decide) ?_
      refine lv_icmp_ne (tgt := 198) hx hb dL_isPlanned_191 (by decide) (fun hc => ?_) (fun hc => ?_)
      · have h := ite_f h hc
        refine lv_iconst (v := (0 : Int32)) hx hb dL_isPlanned_198 (by decide) ?_
        exact w199 k128 hk128 x1 x2 x3 x4 x5 x7 (0 : Int32) ((irm (t0 / (2 : Int32)) (4 : Int32)) + (1 : Int32)) (t0 / (8 : Int32)) x1 Z h _ _ _ hI hN hS (lv_sub hl [1, 2, 3, 4, 5, 6, 7] rfl)
      · have h := ite_t h hc
        refine lv_iconst (v := (1 : Int32)) hx hb dL_isPlanned_194 (by decide) ?_
        refine lv_goto (tgt := 199) hx hb dL_isPlanned_195 (by decide) ?_
        exact w199 k128 hk128 x1 x2 x3 x4 x5 x7 (1 : Int32) ((irm (t0 / (2 : Int32)) (4 : Int32)) + (1 : Int32)) (t0 / (8 : Int32)) x1 Z h _ _ _ hI hN hS (lv_sub hl [1, 2, 3, 4, 5, 6, 7] rfl)
  have w252 : ∀ (t0 : Int32) (Z : CZ), fL_isPlanned_252  t0 Z = some (rz, Zz) → cG p l e (headSpec wsL_isPlanned rmL_isPlanned).room s m (([.ref (ad 0 0), .int a2] : List Value).toArray) below meth c (MQ below (cQi D G A ad rz Zz) (([.ref (ad 0 0), .int a2] : List Value).toArray) s 0 0 A) D G A ad 0 0 9 Z 252 [] [.int t0] := by
    intro  t0 Z h H locs ls hI hN hS hl
    unfold fL_isPlanned_252 at h
    obtain ⟨g26, h⟩ := gd_ok h
    refine W.widen (k := 0) (n := 0) (by decide) (by decide) ?_
    exact W.zret hx hb hr (gbo_ok g26) (cg_endi h hI hK hN hS) (fun z hz => hS.2.2 z hz) dL_isPlanned_252
  have w247 : ∀ (Z : CZ), fL_isPlanned_247  Z = some (rz, Zz) → cG p l e (headSpec wsL_isPlanned rmL_isPlanned).room s m (([.ref (ad 0 0), .int a2] : List Value).toArray) below meth c (MQ below (cQi D G A ad rz Zz) (([.ref (ad 0 0), .int a2] : List Value).toArray) s 0 0 A) D G A ad 0 0 9 Z 247 [] [] := by
    intro  Z h H locs ls hI hN hS hl
    unfold fL_isPlanned_247 at h
    refine lv_iconst (v := (1 : Int32)) hx hb dL_isPlanned_247 (by decide) ?_
    refine lv_goto (tgt := 252) hx hb dL_isPlanned_248 (by decide) ?_
    exact w252  (1 : Int32) Z h _ _ _ hI hN hS (lv_sub hl [] rfl)
  have w251 : ∀ (Z : CZ), fL_isPlanned_251  Z = some (rz, Zz) → cG p l e (headSpec wsL_isPlanned rmL_isPlanned).room s m (([.ref (ad 0 0), .int a2] : List Value).toArray) below meth c (MQ below (cQi D G A ad rz Zz) (([.ref (ad 0 0), .int a2] : List Value).toArray) s 0 0 A) D G A ad 0 0 9 Z 251 [] [] := by
    intro  Z h H locs ls hI hN hS hl
    unfold fL_isPlanned_251 at h
    refine lv_iconst (v := (0 : Int32)) hx hb dL_isPlanned_251 (by decide) ?_
    exact w252  (0 : Int32) Z h _ _ _ hI hN hS (lv_sub hl [] rfl)
  have w220 : ∀ (x1 : Int32) (x2 : Int32) (x6 : Int32) (Z : CZ), fL_isPlanned_220  x1 x2 x6 Z = some (rz, Zz) → cG p l e (headSpec wsL_isPlanned rmL_isPlanned).room s m (([.ref (ad 0 0), .int a2] : List Value).toArray) below meth c (MQ below (cQi D G A ad rz Zz) (([.ref (ad 0 0), .int a2] : List Value).toArray) s 0 0 A) D G A ad 0 0 9 Z 220 [(0, .ref (ad 0 0)), (1, .int x1), (2, .int x2), (6, .int x6)] [] := by
    intro  x1 x2 x6 Z h H locs ls hI hN hS hl
    unfold fL_isPlanned_220 at h
    refine lv_iload hx hb dL_isPlanned_220 (lv_at hl 3 rfl) ?_
    refine lv_if_eq (tgt := 251) hx hb dL_isPlanned_222 (by decide) (fun hc => ?_) (fun hc => ?_)
    · have h := ite_t h hc
      exact w251  Z h _ _ _ hI hN hS (lv_sub hl [] rfl)
    · have h := ite_f h hc
      refine lv_iload_n hx hb dL_isPlanned_225 rfl (lv_at hl 2 rfl) ?_
      refine lv_iconst (v := (-1 : Int32)) hx hb dL_isPlanned_226 (by decide) ?_
      refine lv_icmp_eq (tgt := 247) hx hb dL_isPlanned_227 (by decide) (fun hc => ?_) (fun hc => ?_)
      · have h := ite_t h hc
        exact w247  Z h _ _ _ hI hN hS (lv_sub hl [] rfl)
      · have h := ite_f h hc
        refine lv_aload_n hx hb dL_isPlanned_230 rfl (lv_at hl 0 rfl) ?_
        refine lv_iload_n hx hb dL_isPlanned_231 rfl (lv_at hl 1 rfl) ?_
        obtain ⟨v17, c18, h⟩ := cl1_ok h
        refine lw_calli (va_runV (As := [.int x1]) (rest := []) ⟨hx, hb, hml, hown, hts⟩ (mX6_isInTune_n l D G A ad Z x1 v17  c18) (cwV 1 hts gL_isPlanned_X6_isInTune rfl rfl rfl (by decide +kernel) ⟨Nat.le_of_ble_eq_true rfl, Nat.le_of_ble_eq_true rfl⟩) (cg_preV hI hK hN rfl rfl (ci := 7) rfl) rfl rfl hl.1 rfl (lv_room (Nat.le_of_ble_eq_true rfl)) dL_isPlanned_232 ⟨Nat.le_of_ble_eq_true rfl, Nat.le_of_ble_eq_true rfl⟩) hS (fun H locs hI hN hS => ?_)
        refine W.widen (k := 0) (n := 0) (by decide) (by decide) ?_
        refine lv_if_eq (tgt := 251) hx hb dL_isPlanned_235 (by decide) (fun hc => ?_) (fun hc => ?_)
        · have h := ite_t h hc
          exact w251  Z h _ _ _ hI hN hS (lv_sub hl [] rfl)
        · have h := ite_f h hc
          refine lv_aload_n hx hb dL_isPlanned_238 rfl (lv_at hl 0 rfl) ?_
          refine lv_iload_n hx hb dL_isPlanned_239 rfl (lv_at hl 1 rfl) ?_
          refine lv_iconst (v := (0 : Int32)) hx hb dL_isPlanned_240 (by decide) ?_
          obtain ⟨v19, Z21, c20, h⟩ := cl2_ok h
          refine lw_calli (va_runV (As := [.int x1, .int (0 : Int32)]) (rest := []) ⟨hx, hb, hml, hown, hts⟩ (mX6_plan_n l D G A ad Z x1 (0 : Int32) v19 Z21 c20) (cwV 2 hts gL_isPlanned_X6_plan rfl rfl rfl (by decide +kernel) ⟨Nat.le_of_ble_eq_true rfl, Nat.le_of_ble_eq_true rfl⟩) (cg_preV hI hK hN rfl rfl (ci := 7) rfl) rfl rfl hl.1 rfl (lv_room (Nat.le_of_ble_eq_true rfl)) dL_isPlanned_241 ⟨Nat.le_of_ble_eq_true rfl, Nat.le_of_ble_eq_true rfl⟩) hS (fun H locs hI hN hS => ?_)
          refine W.widen (k := 0) (n := 0) (by decide) (by decide) ?_
          refine lv_if_ne (tgt := 251) hx hb dL_isPlanned_244 (by decide) (fun hc => ?_) (fun hc => ?_)
          · have h := ite_f h hc
            exact w251  Z21 h _ _ _ hI hN hS (lv_sub hl [] rfl)
          · have h := ite_t h hc
            exact w247  Z21 h _ _ _ hI hN hS (lv_sub hl [] rfl)
  have w128 : ∀ (x1 : Int32) (x2 : Int32) (x3 : Int32) (x4 : Int32) (x5 : Int32) (x6 : Int32) (x7 : Int32) (Z : CZ), lf8 fL_isPlanned_128 100 x1 x2 x3 x4 x5 x6 x7 Z = some (rz, Zz) → cG p l e (headSpec wsL_isPlanned rmL_isPlanned).room s m (([.ref (ad 0 0), .int a2] : List Value).toArray) below meth c (MQ below (cQi D G A ad rz Zz) (([.ref (ad 0 0), .int a2] : List Value).toArray) s 0 0 A) D G A ad 0 0 9 Z 128 [(0, .ref (ad 0 0)), (1, .int x1), (2, .int x2), (3, .int x3), (4, .int x4), (5, .int x5), (6, .int x6), (7, .int x7)] [] := by
    refine lf8_ok (P := (fun x1 x2 x3 x4 x5 x6 x7 Z => cG p l e (headSpec wsL_isPlanned rmL_isPlanned).room s m (([.ref (ad 0 0), .int a2] : List Value).toArray) below meth c (MQ below (cQi D G A ad rz Zz) (([.ref (ad 0 0), .int a2] : List Value).toArray) s 0 0 A) D G A ad 0 0 9 Z 128 [(0, .ref (ad 0 0)), (1, .int x1), (2, .int x2), (3, .int x3), (4, .int x4), (5, .int x5), (6, .int x6), (7, .int x7)] [])) (fun k128 hk128 x1 x2 x3 x4 x5 x6 x7 Z h H locs ls hI hN hS hl => ?_) 100
    unfold fL_isPlanned_128 at h
    refine lv_iload hx hb dL_isPlanned_128 (lv_at hl 7 rfl) ?_
    refine lv_iload_n hx hb dL_isPlanned_130 rfl (lv_at hl 2 rfl) ?_
    refine lv_icmp_ge (tgt := 220) hx hb dL_isPlanned_131 (by decide) (fun hc => ?_) (fun hc => ?_)
    · have h := ite_t h hc
      exact w220  x1 x2 x6 Z h _ _ _ hI hN hS (lv_sub hl [0, 1, 2, 6] rfl)
    · have h := ite_f h hc
      refine lv_iload hx hb dL_isPlanned_134 (lv_at hl 6 rfl) ?_
      refine lv_if_eq (tgt := 220) hx hb dL_isPlanned_136 (by decide) (fun hc => ?_) (fun hc => ?_)
      · have h := ite_t h hc
        exact w220  x1 x2 x6 Z h _ _ _ hI hN hS (lv_sub hl [0, 1, 2, 6] rfl)
      · have h := ite_f h hc
        refine lv_iload hx hb dL_isPlanned_139 (lv_at hl 7 rfl) ?_
        refine lv_if_ne (tgt := 148) hx hb dL_isPlanned_141 (by decide) (fun hc => ?_) (fun hc => ?_)
        · have h := ite_f h hc
          refine lv_iload hx hb dL_isPlanned_148 (lv_at hl 7 rfl) ?_
          refine lv_iconst (v := (1 : Int32)) hx hb dL_isPlanned_150 (by decide) ?_
          refine lv_icmp_ne (tgt := 159) hx hb dL_isPlanned_151 (by decide) (fun hc => ?_) (fun hc => ?_)
          · have h := ite_f h hc
            refine lv_iload hx hb dL_isPlanned_159 (lv_at hl 5 rfl) ?_
            exact w161 k128 hk128 x1 x2 x3 x4 x5 x7 x5 Z h _ _ _ hI hN hS (lv_sub hl [0, 1, 2, 3, 4, 5, 7] rfl)
          · have h := ite_t h hc
            refine lv_iload hx hb dL_isPlanned_154 (lv_at hl 4 rfl) ?_
            refine lv_goto (tgt := 161) hx hb dL_isPlanned_156 (by decide) ?_
            exact w161 k128 hk128 x1 x2 x3 x4 x5 x7 x4 Z h _ _ _ hI hN hS (lv_sub hl [0, 1, 2, 3, 4, 5, 7] rfl)
        · have h := ite_t h hc
          refine lv_iload_n hx hb dL_isPlanned_144 rfl (lv_at hl 3 rfl) ?_
          refine lv_goto (tgt := 161) hx hb dL_isPlanned_145 (by decide) ?_
          exact w161 k128 hk128 x1 x2 x3 x4 x5 x7 x3 Z h _ _ _ hI hN hS (lv_sub hl [0, 1, 2, 3, 4, 5, 7] rfl)
  have w123 : ∀ (x1 : Int32) (x2 : Int32) (x3 : Int32) (x4 : Int32) (x5 : Int32) (t0 : Int32) (Z : CZ), fL_isPlanned_123  x1 x2 x3 x4 x5 t0 Z = some (rz, Zz) → cG p l e (headSpec wsL_isPlanned rmL_isPlanned).room s m (([.ref (ad 0 0), .int a2] : List Value).toArray) below meth c (MQ below (cQi D G A ad rz Zz) (([.ref (ad 0 0), .int a2] : List Value).toArray) s 0 0 A) D G A ad 0 0 9 Z 123 [(0, .ref (ad 0 0)), (1, .int x1), (2, .int x2), (3, .int x3), (4, .int x4), (5, .int x5)] [.int t0] := by
    intro  x1 x2 x3 x4 x5 t0 Z h H locs ls hI hN hS hl
    unfold fL_isPlanned_123 at h
    refine lv_istore (lv' := [(6, .int t0), (0, .ref (ad 0 0)), (1, .int x1), (2, .int x2), (3, .int x3), (4, .int x4), (5, .int x5)]) hx hb dL_isPlanned_123 hl (by decide) rfl (fun ls hl => ?_)
    refine lv_iconst (v := (0 : Int32)) hx hb dL_isPlanned_125 (by decide) ?_
    refine lv_istore (lv' := [(7, .int (0 : Int32)), (6, .int t0), (0, .ref (ad 0 0)), (1, .int x1), (2, .int x2), (3, .int x3), (4, .int x4), (5, .int x5)]) hx hb dL_isPlanned_126 hl (by decide) rfl (fun ls hl => ?_)
    exact w128  x1 x2 x3 x4 x5 t0 (0 : Int32) Z h _ _ _ hI hN hS (lv_sub hl [2, 3, 4, 5, 6, 7, 1, 0] rfl)
  have w122 : ∀ (x1 : Int32) (x2 : Int32) (x3 : Int32) (x4 : Int32) (x5 : Int32) (Z : CZ), fL_isPlanned_122  x1 x2 x3 x4 x5 Z = some (rz, Zz) → cG p l e (headSpec wsL_isPlanned rmL_isPlanned).room s m (([.ref (ad 0 0), .int a2] : List Value).toArray) below meth c (MQ below (cQi D G A ad rz Zz) (([.ref (ad 0 0), .int a2] : List Value).toArray) s 0 0 A) D G A ad 0 0 9 Z 122 [(0, .ref (ad 0 0)), (1, .int x1), (2, .int x2), (3, .int x3), (4, .int x4), (5, .int x5)] [] := by
    intro  x1 x2 x3 x4 x5 Z h H locs ls hI hN hS hl
    unfold fL_isPlanned_122 at h
    refine lv_iconst (v := (0 : Int32)) hx hb dL_isPlanned_122 (by decide) ?_
    exact w123  x1 x2 x3 x4 x5 (0 : Int32) Z h _ _ _ hI hN hS (lv_sub hl [0, 1, 2, 3, 4, 5] rfl)
  have w115 : ∀ (x1 : Int32) (x2 : Int32) (x3 : Int32) (x4 : Int32) (x5 : Int32) (t0 : Int32) (t1 : Int32) (Z : CZ), fL_isPlanned_115  x1 x2 x3 x4 x5 t0 t1 Z = some (rz, Zz) → cG p l e (headSpec wsL_isPlanned rmL_isPlanned).room s m (([.ref (ad 0 0), .int a2] : List Value).toArray) below meth c (MQ below (cQi D G A ad rz Zz) (([.ref (ad 0 0), .int a2] : List Value).toArray) s 0 0 A) D G A ad 0 0 9 Z 115 [(0, .ref (ad 0 0)), (1, .int x1), (2, .int x2), (3, .int x3), (4, .int x4), (5, .int x5)] [.int t0, .int t1] := by
    intro  x1 x2 x3 x4 x5 t0 t1 Z h H locs ls hI hN hS hl
    unfold fL_isPlanned_115 at h
    refine lv_icmp_ne (tgt := 122) hx hb dL_isPlanned_115 (by decide) (fun hc => ?_) (fun hc => ?_)
    · have h := ite_f h hc
      exact w122  x1 x2 x3 x4 x5 Z h _ _ _ hI hN hS (lv_sub hl [0, 1, 2, 3, 4, 5] rfl)
    · have h := ite_t h hc
      refine lv_iconst (v := (1 : Int32)) hx hb dL_isPlanned_118 (by decide) ?_
      refine lv_goto (tgt := 123) hx hb dL_isPlanned_119 (by decide) ?_
      exact w123  x1 x2 x3 x4 x5 (1 : Int32) Z h _ _ _ hI hN hS (lv_sub hl [0, 1, 2, 3, 4, 5] rfl)
  have w105 : ∀ (x1 : Int32) (x2 : Int32) (x3 : Int32) (x4 : Int32) (x5 : Int32) (t0 : Int32) (Z : CZ), fL_isPlanned_105  x1 x2 x3 x4 x5 t0 Z = some (rz, Zz) → cG p l e (headSpec wsL_isPlanned rmL_isPlanned).room s m (([.ref (ad 0 0), .int a2] : List Value).toArray) below meth c (MQ below (cQi D G A ad rz Zz) (([.ref (ad 0 0), .int a2] : List Value).toArray) s 0 0 A) D G A ad 0 0 9 Z 105 [(0, .ref (ad 0 0)), (1, .int x1), (2, .int x2), (3, .int x3), (4, .int x4), (5, .int x5)] [.int t0] := by
    intro  x1 x2 x3 x4 x5 t0 Z h H locs ls hI hN hS hl
    unfold fL_isPlanned_105 at h
    refine lv_iload_n hx hb dL_isPlanned_105 rfl (lv_at hl 2 rfl) ?_
    refine lv_iconst (v := (3 : Int32)) hx hb dL_isPlanned_106 (by decide) ?_
    refine lv_icmp_ge (tgt := 114) hx hb dL_isPlanned_107 (by decide) (fun hc => ?_) (fun hc => ?_)
    · have h := ite_t h hc
      refine lv_iconst (v := (0 : Int32)) hx hb dL_isPlanned_114 (by decide) ?_
      exact w115  x1 x2 x3 x4 x5 (0 : Int32) t0 Z h _ _ _ hI hN hS (lv_sub hl [0, 1, 2, 3, 4, 5] rfl)
    · have h := ite_f h hc
      refine lv_iconst (v := (1 : Int32)) hx hb dL_isPlanned_110 (by decide) ?_
      refine lv_goto (tgt := 115) hx hb dL_isPlanned_111 (by decide) ?_
      exact w115  x1 x2 x3 x4 x5 (1 : Int32) t0 Z h _ _ _ hI hN hS (lv_sub hl [0, 1, 2, 3, 4, 5] rfl)
  have w91 : ∀ (x1 : Int32) (x2 : Int32) (x3 : Int32) (x4 : Int32) (x5 : Int32) (t0 : Int32) (t1 : Int32) (Z : CZ), fL_isPlanned_91  x1 x2 x3 x4 x5 t0 t1 Z = some (rz, Zz) → cG p l e (headSpec wsL_isPlanned rmL_isPlanned).room s m (([.ref (ad 0 0), .int a2] : List Value).toArray) below meth c (MQ below (cQi D G A ad rz Zz) (([.ref (ad 0 0), .int a2] : List Value).toArray) s 0 0 A) D G A ad 0 0 9 Z 91 [(0, .ref (ad 0 0)), (1, .int x1), (2, .int x2), (3, .int x3), (4, .int x4), (5, .int x5)] [.int t0, .int t1] := by
    intro  x1 x2 x3 x4 x5 t0 t1 Z h H locs ls hI hN hS hl
    unfold fL_isPlanned_91 at h
    refine lv_icmp_ne (tgt := 122) hx hb dL_isPlanned_91 (by decide) (fun hc => ?_) (fun hc => ?_)
    · have h := ite_f h hc
      exact w122  x1 x2 x3 x4 x5 Z h _ _ _ hI hN hS (lv_sub hl [0, 1, 2, 3, 4, 5] rfl)
    · have h := ite_t h hc
      refine lv_iload hx hb dL_isPlanned_94 (lv_at hl 5 rfl) ?_
      refine lv_iconst (v := (-1 : Int32)) hx hb dL_isPlanned_96 (by decide) ?_
      refine lv_icmp_ne (tgt := 104) hx hb dL_isPlanned_97 (by decide) (fun hc => ?_) (fun hc => ?_)
      · have h := ite_f h hc
        refine lv_iconst (v := (0 : Int32)) hx hb dL_isPlanned_104 (by decide) ?_
        exact w105  x1 x2 x3 x4 x5 (0 : Int32) Z h _ _ _ hI hN hS (lv_sub hl [0, 1, 2, 3, 4, 5] rfl)
      · have h := ite_t h hc
        refine lv_iconst (v := (1 : Int32)) hx hb dL_isPlanned_100 (by decide) ?_
        refine lv_goto (tgt := 105) hx hb dL_isPlanned_101 (by decide) ?_
        exact w105  x1 x2 x3 x4 x5 (1 : Int32) Z h _ _ _ hI hN hS (lv_sub hl [0, 1, 2, 3, 4, 5] rfl)
  have w81 : ∀ (x1 : Int32) (x2 : Int32) (x3 : Int32) (x4 : Int32) (x5 : Int32) (t0 : Int32) (Z : CZ), fL_isPlanned_81  x1 x2 x3 x4 x5 t0 Z = some (rz, Zz) → cG p l e (headSpec wsL_isPlanned rmL_isPlanned).room s m (([.ref (ad 0 0), .int a2] : List Value).toArray) below meth c (MQ below (cQi D G A ad rz Zz) (([.ref (ad 0 0), .int a2] : List Value).toArray) s 0 0 A) D G A ad 0 0 9 Z 81 [(0, .ref (ad 0 0)), (1, .int x1), (2, .int x2), (3, .int x3), (4, .int x4), (5, .int x5)] [.int t0] := by
    intro  x1 x2 x3 x4 x5 t0 Z h H locs ls hI hN hS hl
    unfold fL_isPlanned_81 at h
    refine lv_iload_n hx hb dL_isPlanned_81 rfl (lv_at hl 2 rfl) ?_
    refine lv_iconst (v := (2 : Int32)) hx hb dL_isPlanned_82 (by decide) ?_
    refine lv_icmp_ge (tgt := 90) hx hb dL_isPlanned_83 (by decide) (fun hc => ?_) (fun hc => ?_)
    · have h := ite_t h hc
      refine lv_iconst (v := (0 : Int32)) hx hb dL_isPlanned_90 (by decide) ?_
      exact w91  x1 x2 x3 x4 x5 (0 : Int32) t0 Z h _ _ _ hI hN hS (lv_sub hl [0, 1, 2, 3, 4, 5] rfl)
    · have h := ite_f h hc
      refine lv_iconst (v := (1 : Int32)) hx hb dL_isPlanned_86 (by decide) ?_
      refine lv_goto (tgt := 91) hx hb dL_isPlanned_87 (by decide) ?_
      exact w91  x1 x2 x3 x4 x5 (1 : Int32) t0 Z h _ _ _ hI hN hS (lv_sub hl [0, 1, 2, 3, 4, 5] rfl)
  have w67 : ∀ (x1 : Int32) (x2 : Int32) (x3 : Int32) (x4 : Int32) (x5 : Int32) (t0 : Int32) (t1 : Int32) (Z : CZ), fL_isPlanned_67  x1 x2 x3 x4 x5 t0 t1 Z = some (rz, Zz) → cG p l e (headSpec wsL_isPlanned rmL_isPlanned).room s m (([.ref (ad 0 0), .int a2] : List Value).toArray) below meth c (MQ below (cQi D G A ad rz Zz) (([.ref (ad 0 0), .int a2] : List Value).toArray) s 0 0 A) D G A ad 0 0 9 Z 67 [(0, .ref (ad 0 0)), (1, .int x1), (2, .int x2), (3, .int x3), (4, .int x4), (5, .int x5)] [.int t0, .int t1] := by
    intro  x1 x2 x3 x4 x5 t0 t1 Z h H locs ls hI hN hS hl
    unfold fL_isPlanned_67 at h
    refine lv_icmp_ne (tgt := 122) hx hb dL_isPlanned_67 (by decide) (fun hc => ?_) (fun hc => ?_)
    · have h := ite_f h hc
      exact w122  x1 x2 x3 x4 x5 Z h _ _ _ hI hN hS (lv_sub hl [0, 1, 2, 3, 4, 5] rfl)
    · have h := ite_t h hc
      refine lv_iload hx hb dL_isPlanned_70 (lv_at hl 4 rfl) ?_
      refine lv_iconst (v := (-1 : Int32)) hx hb dL_isPlanned_72 (by decide) ?_
      refine lv_icmp_ne (tgt := 80) hx hb dL_isPlanned_73 (by decide) (fun hc => ?_) (fun hc => ?_)
      · have h := ite_f h hc
        refine lv_iconst (v := (0 : Int32)) hx hb dL_isPlanned_80 (by decide) ?_
        exact w81  x1 x2 x3 x4 x5 (0 : Int32) Z h _ _ _ hI hN hS (lv_sub hl [0, 1, 2, 3, 4, 5] rfl)
      · have h := ite_t h hc
        refine lv_iconst (v := (1 : Int32)) hx hb dL_isPlanned_76 (by decide) ?_
        refine lv_goto (tgt := 81) hx hb dL_isPlanned_77 (by decide) ?_
        exact w81  x1 x2 x3 x4 x5 (1 : Int32) Z h _ _ _ hI hN hS (lv_sub hl [0, 1, 2, 3, 4, 5] rfl)
  have w57 : ∀ (x1 : Int32) (x2 : Int32) (x3 : Int32) (x4 : Int32) (x5 : Int32) (t0 : Int32) (Z : CZ), fL_isPlanned_57  x1 x2 x3 x4 x5 t0 Z = some (rz, Zz) → cG p l e (headSpec wsL_isPlanned rmL_isPlanned).room s m (([.ref (ad 0 0), .int a2] : List Value).toArray) below meth c (MQ below (cQi D G A ad rz Zz) (([.ref (ad 0 0), .int a2] : List Value).toArray) s 0 0 A) D G A ad 0 0 9 Z 57 [(0, .ref (ad 0 0)), (1, .int x1), (2, .int x2), (3, .int x3), (4, .int x4), (5, .int x5)] [.int t0] := by
    intro  x1 x2 x3 x4 x5 t0 Z h H locs ls hI hN hS hl
    unfold fL_isPlanned_57 at h
    refine lv_iload_n hx hb dL_isPlanned_57 rfl (lv_at hl 2 rfl) ?_
    refine lv_iconst (v := (1 : Int32)) hx hb dL_isPlanned_58 (by decide) ?_
    refine lv_icmp_ge (tgt := 66) hx hb dL_isPlanned_59 (by decide) (fun hc => ?_) (fun hc => ?_)
    · have h := ite_t h hc
      refine lv_iconst (v := (0 : Int32)) hx hb dL_isPlanned_66 (by decide) ?_
      exact w67  x1 x2 x3 x4 x5 (0 : Int32) t0 Z h _ _ _ hI hN hS (lv_sub hl [0, 1, 2, 3, 4, 5] rfl)
    · have h := ite_f h hc
      refine lv_iconst (v := (1 : Int32)) hx hb dL_isPlanned_62 (by decide) ?_
      refine lv_goto (tgt := 67) hx hb dL_isPlanned_63 (by decide) ?_
      exact w67  x1 x2 x3 x4 x5 (1 : Int32) t0 Z h _ _ _ hI hN hS (lv_sub hl [0, 1, 2, 3, 4, 5] rfl)
  have w39 : ∀ (x1 : Int32) (x2 : Int32) (x3 : Int32) (x4 : Int32) (x5 : Int32) (t0 : Int32) (Z : CZ), fL_isPlanned_39  x1 x2 x3 x4 x5 t0 Z = some (rz, Zz) → cG p l e (headSpec wsL_isPlanned rmL_isPlanned).room s m (([.ref (ad 0 0), .int a2] : List Value).toArray) below meth c (MQ below (cQi D G A ad rz Zz) (([.ref (ad 0 0), .int a2] : List Value).toArray) s 0 0 A) D G A ad 0 0 9 Z 39 [(0, .ref (ad 0 0)), (1, .int x1), (2, .int x2), (3, .int x3), (4, .int x4), (5, .int x5)] [.int t0] := by
    intro  x1 x2 x3 x4 x5 t0 Z h H locs ls hI hN hS hl
    unfold fL_isPlanned_39 at h
    refine lv_aload_n hx hb dL_isPlanned_39 rfl (lv_at hl 0 rfl) ?_
    refine lv_iload_n hx hb dL_isPlanned_40 rfl (lv_at hl 1 rfl) ?_
    obtain ⟨v13, c14, h⟩ := cl1_ok h
    refine lw_calli (va_runV (As := [.int x1]) (rest := [.int t0]) ⟨hx, hb, hml, hown, hts⟩ (mX6_isInTune_n l D G A ad Z x1 v13  c14) (cwV 1 hts gL_isPlanned_X6_isInTune rfl rfl rfl (by decide +kernel) ⟨Nat.le_of_ble_eq_true rfl, Nat.le_of_ble_eq_true rfl⟩) (cg_preV hI hK hN rfl rfl (ci := 7) rfl) rfl rfl hl.1 rfl (lv_room (Nat.le_of_ble_eq_true rfl)) dL_isPlanned_41 ⟨Nat.le_of_ble_eq_true rfl, Nat.le_of_ble_eq_true rfl⟩) hS (fun H locs hI hN hS => ?_)
    refine W.widen (k := 0) (n := 0) (by decide) (by decide) ?_
    refine lv_icmp_ne (tgt := 122) hx hb dL_isPlanned_44 (by decide) (fun hc => ?_) (fun hc => ?_)
    · have h := ite_f h hc
      exact w122  x1 x2 x3 x4 x5 Z h _ _ _ hI hN hS (lv_sub hl [0, 1, 2, 3, 4, 5] rfl)
    · have h := ite_t h hc
      refine lv_iload_n hx hb dL_isPlanned_47 rfl (lv_at hl 3 rfl) ?_
      refine lv_iconst (v := (-1 : Int32)) hx hb dL_isPlanned_48 (by decide) ?_
      refine lv_icmp_ne (tgt := 56) hx hb dL_isPlanned_49 (by decide) (fun hc => ?_) (fun hc => ?_)
      · have h := ite_f h hc
        refine lv_iconst (v := (0 : Int32)) hx hb dL_isPlanned_56 (by decide) ?_
        exact w57  x1 x2 x3 x4 x5 (0 : Int32) Z h _ _ _ hI hN hS (lv_sub hl [0, 1, 2, 3, 4, 5] rfl)
      · have h := ite_t h hc
        refine lv_iconst (v := (1 : Int32)) hx hb dL_isPlanned_52 (by decide) ?_
        refine lv_goto (tgt := 57) hx hb dL_isPlanned_53 (by decide) ?_
        exact w57  x1 x2 x3 x4 x5 (1 : Int32) Z h _ _ _ hI hN hS (lv_sub hl [0, 1, 2, 3, 4, 5] rfl)
  unfold fL_isPlanned at h
  refine lv_aload_n hx hb dL_isPlanned_0 rfl (lv_at hl 0 rfl) ?_
  refine lv_iload_n hx hb dL_isPlanned_1 rfl (lv_at hl 1 rfl) ?_
  refine lv_iconst (v := (0 : Int32)) hx hb dL_isPlanned_2 (by decide) ?_
  obtain ⟨v1, Z3, c2, h⟩ := cl2_ok h
  refine lw_calli (va_runV (As := [.int a2, .int (0 : Int32)]) (rest := []) ⟨hx, hb, hml, hown, hts⟩ (mX6_plan_n l D G A ad Z a2 (0 : Int32) v1 Z3 c2) (cwV 2 hts gL_isPlanned_X6_plan rfl rfl rfl (by decide +kernel) ⟨Nat.le_of_ble_eq_true rfl, Nat.le_of_ble_eq_true rfl⟩) (cg_preV hI hK hN rfl rfl (ci := 7) rfl) rfl rfl hl.1 rfl (lv_room (Nat.le_of_ble_eq_true rfl)) dL_isPlanned_3 ⟨Nat.le_of_ble_eq_true rfl, Nat.le_of_ble_eq_true rfl⟩) hS (fun H locs hI hN hS => ?_)
  refine W.widen (k := 0) (n := 0) (by decide) (by decide) ?_
  refine lv_istore_n (lv' := [(2, .int v1), (0, .ref (ad 0 0)), (1, .int a2)]) hx hb dL_isPlanned_6 rfl hl (by decide) rfl (fun ls hl => ?_)
  refine lv_aload_n hx hb dL_isPlanned_7 rfl (lv_at hl 1 rfl) ?_
  refine lv_iload_n hx hb dL_isPlanned_8 rfl (lv_at hl 2 rfl) ?_
  refine lv_iconst (v := (1 : Int32)) hx hb dL_isPlanned_9 (by decide) ?_
  obtain ⟨v4, Z6, c5, h⟩ := cl2_ok h
  refine lw_calli (va_runV (As := [.int a2, .int (1 : Int32)]) (rest := []) ⟨hx, hb, hml, hown, hts⟩ (mX6_plan_n l D G A ad Z3 a2 (1 : Int32) v4 Z6 c5) (cwV 2 hts gL_isPlanned_X6_plan rfl rfl rfl (by decide +kernel) ⟨Nat.le_of_ble_eq_true rfl, Nat.le_of_ble_eq_true rfl⟩) (cg_preV hI hK hN rfl rfl (ci := 7) rfl) rfl rfl hl.1 rfl (lv_room (Nat.le_of_ble_eq_true rfl)) dL_isPlanned_10 ⟨Nat.le_of_ble_eq_true rfl, Nat.le_of_ble_eq_true rfl⟩) hS (fun H locs hI hN hS => ?_)
  refine W.widen (k := 0) (n := 0) (by decide) (by decide) ?_
  refine lv_istore_n (lv' := [(3, .int v4), (2, .int v1), (0, .ref (ad 0 0)), (1, .int a2)]) hx hb dL_isPlanned_13 rfl hl (by decide) rfl (fun ls hl => ?_)
  refine lv_aload_n hx hb dL_isPlanned_14 rfl (lv_at hl 2 rfl) ?_
  refine lv_iload_n hx hb dL_isPlanned_15 rfl (lv_at hl 3 rfl) ?_
  refine lv_iconst (v := (2 : Int32)) hx hb dL_isPlanned_16 (by decide) ?_
  obtain ⟨v7, Z9, c8, h⟩ := cl2_ok h
  refine lw_calli (va_runV (As := [.int a2, .int (2 : Int32)]) (rest := []) ⟨hx, hb, hml, hown, hts⟩ (mX6_plan_n l D G A ad Z6 a2 (2 : Int32) v7 Z9 c8) (cwV 2 hts gL_isPlanned_X6_plan rfl rfl rfl (by decide +kernel) ⟨Nat.le_of_ble_eq_true rfl, Nat.le_of_ble_eq_true rfl⟩) (cg_preV hI hK hN rfl rfl (ci := 7) rfl) rfl rfl hl.1 rfl (lv_room (Nat.le_of_ble_eq_true rfl)) dL_isPlanned_17 ⟨Nat.le_of_ble_eq_true rfl, Nat.le_of_ble_eq_true rfl⟩) hS (fun H locs hI hN hS => ?_)
  refine W.widen (k := 0) (n := 0) (by decide) (by decide) ?_
  refine lv_istore (lv' := [(4, .int v7), (3, .int v4), (2, .int v1), (0, .ref (ad 0 0)), (1, .int a2)]) hx hb dL_isPlanned_20 hl (by decide) rfl (fun ls hl => ?_)
  refine lv_aload_n hx hb dL_isPlanned_22 rfl (lv_at hl 3 rfl) ?_
  refine lv_iload_n hx hb dL_isPlanned_23 rfl (lv_at hl 4 rfl) ?_
  refine lv_iconst (v := (3 : Int32)) hx hb dL_isPlanned_24 (by decide) ?_
  obtain ⟨v10, Z12, c11, h⟩ := cl2_ok h
  refine lw_calli (va_runV (As := [.int a2, .int (3 : Int32)]) (rest := []) ⟨hx, hb, hml, hown, hts⟩ (mX6_plan_n l D G A ad Z9 a2 (3 : Int32) v10 Z12 c11) (cwV 2 hts gL_isPlanned_X6_plan rfl rfl rfl (by decide +kernel) ⟨Nat.le_of_ble_eq_true rfl, Nat.le_of_ble_eq_true rfl⟩) (cg_preV hI hK hN rfl rfl (ci := 7) rfl) rfl rfl hl.1 rfl (lv_room (Nat.le_of_ble_eq_true rfl)) dL_isPlanned_25 ⟨Nat.le_of_ble_eq_true rfl, Nat.le_of_ble_eq_true rfl⟩) hS (fun H locs hI hN hS => ?_)
  refine W.widen (k := 0) (n := 0) (by decide) (by decide) ?_
  refine lv_istore (lv' := [(5, .int v10), (4, .int v7), (3, .int v4), (2, .int v1), (0, .ref (ad 0 0)), (1, .int a2)]) hx hb dL_isPlanned_28 hl (by decide) rfl (fun ls hl => ?_)
  refine lv_iload_n hx hb dL_isPlanned_30 rfl (lv_at hl 3 rfl) ?_
  refine lv_if_ne (tgt := 38) hx hb dL_isPlanned_31 (by decide) (fun hc => ?_) (fun hc => ?_)
  · have h := ite_f h hc
    refine lv_iconst (v := (0 : Int32)) hx hb dL_isPlanned_38 (by decide) ?_
    exact w39  a2 v1 v4 v7 v10 (0 : Int32) Z12 h _ _ _ hI hN hS (lv_sub hl [4, 5, 3, 2, 1, 0] rfl)
  · have h := ite_t h hc
    refine lv_iconst (v := (1 : Int32)) hx hb dL_isPlanned_34 (by decide) ?_
    refine lv_goto (tgt := 39) hx hb dL_isPlanned_35 (by decide) ?_
    exact w39  a2 v1 v4 v7 v10 (1 : Int32) Z12 h _ _ _ hI hN hS (lv_sub hl [4, 5, 3, 2, 1, 0] rfl)
def fL_isChanged_132 (t0 : Int32) (Z : CZ) : Option (Int32 × CZ) := gd (gbo t0) (some (t0, Z))
def fL_isChanged_131 (Z : CZ) : Option (Int32 × CZ) := fL_isChanged_132 (0 : Int32) Z
def fL_isChanged_116 (x1 : Int32) (x2 : Int32) (x3 : Int32) (Z : CZ) : Option (Int32 × CZ) := cl2 (fX6_change_n x1 x2 x3 Z) (fun v13 Z15 => (if v13 = x3 then fL_isChanged_132 (1 : Int32) Z15 else fL_isChanged_131 Z15))
def fL_isChanged_113 (x1 : Int32) (x2 : Int32) (x3 : Int32) (t0 : Int32) (t1 : Int32) (Z : CZ) : Option (Int32 × CZ) := (if t1 = t0 then fL_isChanged_116 x1 x2 x3 Z else fL_isChanged_131 Z)
def fL_isChanged_111 (x1 : Int32) (x2 : Int32) (x3 : Int32) (x7 : Int32) (t0 : Int32) (Z : CZ) : Option (Int32 × CZ) := fL_isChanged_113 x1 x2 x3 x7 t0 Z
def fL_isChanged_56 (x1 : Int32) (x2 : Int32) (x3 : Int32) (x4 : Int32) (x5 : Int32) (x6 : Int32) (t0 : Int32) (Z : CZ) : Option (Int32 × CZ) := cl2 (fX6_change_n x1 x2 x3 Z) (fun v8 Z10 => (if v8 < 0 then fL_isChanged_131 Z10 else (if (12 : Int32) ≤ v8 then fL_isChanged_131 Z10 else (if x6 = 0 then fL_isChanged_116 x1 x2 x3 Z10 else cl1 (fX6_knows_n x1 (x5 - (1 : Int32)) x4 Z10) (fun v11 => (if v8 = x3 then fL_isChanged_111 x1 x2 x3 t0 v11 Z10 else (if t0 = (1 : Int32) then fL_isChanged_113 x1 x2 x3 (2 : Int32) v11 Z10 else fL_isChanged_111 x1 x2 x3 t0 v11 Z10)))))))
def fL_isChanged_34 (x1 : Int32) (x2 : Int32) (x3 : Int32) (x4 : Int32) (x5 : Int32) (t0 : Int32) (Z : CZ) : Option (Int32 × CZ) := (if t0 = 0 then fL_isChanged_56 x1 x2 x3 x4 x5 t0 (0 : Int32) Z else cl1 (fX6_knows_n x1 (x5 - (1 : Int32)) x4 Z) (fun v6 => fL_isChanged_56 x1 x2 x3 x4 x5 t0 v6 Z))
def fL_isChanged_33 (x1 : Int32) (x2 : Int32) (x3 : Int32) (x4 : Int32) (x5 : Int32) (Z : CZ) : Option (Int32 × CZ) := fL_isChanged_34 x1 x2 x3 x4 x5 (0 : Int32) Z
def fL_isChanged (a2 : Int32) (a3 : Int32) (a4 : Int32) (Z : CZ) : Option (Int32 × CZ) := bnd (a3 / (4 : Int32)) (fun v1 => cl1 (fX6_ofBand_n a2 (0 : Int32) Z) (fun v2 => cl1 (fX6_ofBand_n a2 (2 : Int32) Z) (fun v4 => (if v4 ≤ v1 then fL_isChanged_33 a2 a3 a4 v1 v2 Z else (if v2 ≤ 0 then fL_isChanged_33 a2 a3 a4 v1 v2 Z else fL_isChanged_34 a2 a3 a4 v1 v2 (1 : Int32) Z)))))
def rmL_isChanged : Room := { frames := 6, cells := 0, slots := 0, locals := 142 }
set_option maxHeartbeats 8000000 in
set_option maxRecDepth 100000 in
theorem mL_isChanged (l : Launch) (hfl : l.stackTraces = false) (D : va_G) (G : CGT) (A : Nat → Prop) (ad : Nat → Nat → Nat) (Z : CZ) (a2 : Int32) (a3 : Int32) (a4 : Int32) (rz : Int32) (Zz : CZ) (h : fL_isChanged a2 a3 a4 Z = some (rz, Zz)) : Met l yL_isChanged wsL_isChanged rmL_isChanged (va_Pc [.ref (ad 0 0), .int a2, .int a3, .int a4] (xP D G A ad Z)) (cQi D G A ad rz Zz) 0 0 A := by
  refine Met.ofW (cc := cL_isChanged) (maxL := 9) (ret := some .boolean) (by decide) rfl ?_
  intro p e s m args below meth c s₁ B hml hv
  obtain ⟨rfl, ⟨hI, hN, hK⟩, hE⟩ := hv
  have hx := B.exec
  have hb := B.bytes
  have hr := B.returns
  have hts := atoms_spec (ws := wsL_isChanged) B.pre
  have hown : s.vm.findClass RL = some m.cls := findClass_of_methodNamed B.named
  have hlocks := B.notSynchronized
  have hS : va_S A s.heap s.heap [] := va_S.rf
  have hl := lv_entry ([.ref (ad 0 0), .int a2, .int a3, .int a4]) (n := 9) (Nat.le_of_ble_eq_true rfl)
  rw [lg_entry_eq]
  generalize (lg_sl ([.ref (ad 0 0), .int a2, .int a3, .int a4]) ++ List.replicate (9 - (lg_sl ([.ref (ad 0 0), .int a2, .int a3, .int a4])).length) Slot.unset).toArray = ls at hl ⊢
  have hl : lv_has ls 9 [(0, .ref (ad 0 0)), (1, .int a2), (2, .int a3), (3, .int a4)] := hl
  have w132 : ∀ (t0 : Int32) (Z : CZ), fL_isChanged_132  t0 Z = some (rz, Zz) → cG p l e (headSpec wsL_isChanged rmL_isChanged).room s m (([.ref (ad 0 0), .int a2, .int a3, .int a4] : List Value).toArray) below meth c (MQ below (cQi D G A ad rz Zz) (([.ref (ad 0 0), .int a2, .int a3, .int a4] : List Value).toArray) s 0 0 A) D G A ad 0 0 9 Z 132 [] [.int t0] := by
    intro  t0 Z h H locs ls hI hN hS hl
    unfold fL_isChanged_132 at h
    obtain ⟨g16, h⟩ := gd_ok h
    refine W.widen (k := 0) (n := 0) (by decide) (by decide) ?_
    exact W.zret hx hb hr (gbo_ok g16) (cg_endi h hI hK hN hS) (fun z hz => hS.2.2 z hz) dL_isChanged_132
  have w131 : ∀ (Z : CZ), fL_isChanged_131  Z = some (rz, Zz) → cG p l e (headSpec wsL_isChanged rmL_isChanged).room s m (([.ref (ad 0 0), .int a2, .int a3, .int a4] : List Value).toArray) below meth c (MQ below (cQi D G A ad rz Zz) (([.ref (ad 0 0), .int a2, .int a3, .int a4] : List Value).toArray) s 0 0 A) D G A ad 0 0 9 Z 131 [] [] := by
    intro  Z h H locs ls hI hN hS hl
    unfold fL_isChanged_131 at h
    refine lv_iconst (v := (0 : Int32)) hx hb dL_isChanged_131 (by decide) ?_
    exact w132  (0 : Int32) Z h _ _ _ hI hN hS (lv_sub hl [] rfl)
  have w116 : ∀ (x1 : Int32) (x2 : Int32) (x3 : Int32) (Z : CZ), fL_isChanged_116  x1 x2 x3 Z = some (rz, Zz) → cG p l e (headSpec wsL_isChanged rmL_isChanged).room s m (([.ref (ad 0 0), .int a2, .int a3, .int a4] : List Value).toArray) below meth c (MQ below (cQi D G A ad rz Zz) (([.ref (ad 0 0), .int a2, .int a3, .int a4] : List Value).toArray) s 0 0 A) D G A ad 0 0 9 Z 116 [(0, .ref (ad 0 0)), (1, .int x1), (2, .int x2), (3, .int x3)] [] := by
    intro  x1 x2 x3 Z h H locs ls hI hN hS hl
    unfold fL_isChanged_116 at h
    refine lv_aload_n hx hb dL_isChanged_116 rfl (lv_at hl 0 rfl) ?_
    refine lv_iload_n hx hb dL_isChanged_117 rfl (lv_at hl 1 rfl) ?_
    refine lv_iload_n hx hb dL_isChanged_118 rfl (lv_at hl 2 rfl) ?_
    refine lv_iload_n hx hb dL_isChanged_119 rfl (lv_at hl 3 rfl) ?_
    obtain ⟨v13, Z15, c14, h⟩ := cl2_ok h
    refine lw_calli (va_runV (As := [.int x1, .int x2, .int x3]) (rest := []) ⟨hx, hb, hml, hown, hts⟩ (mX6_change_n l D G A ad Z x1 x2 x3 v13 Z15 c14) (cwV 3 hts gL_isChanged_X6_change rfl rfl rfl (by decide +kernel) ⟨Nat.le_of_ble_eq_true rfl, Nat.le_of_ble_eq_true rfl⟩) (cg_preV hI hK hN rfl rfl (ci := 7) rfl) rfl rfl hl.1 rfl (lv_room (Nat.le_of_ble_eq_true rfl)) dL_isChanged_120 ⟨Nat.le_of_ble_eq_true rfl, Nat.le_of_ble_eq_true rfl⟩) hS (fun H locs hI hN hS => ?_)
    refine W.widen (k := 0) (n := 0) (by decide) (by decide) ?_
    refine lv_iload_n hx hb dL_isChanged_123 rfl (lv_at hl 3 rfl) ?_
    refine lv_icmp_ne (tgt := 131) hx hb dL_isChanged_124 (by decide) (fun hc => ?_) (fun hc => ?_)
    · have h := ite_f h hc
      exact w131  Z15 h _ _ _ hI hN hS (lv_sub hl [] rfl)
    · have h := ite_t h hc
      refine lv_iconst (v := (1 : Int32)) hx hb dL_isChanged_127 (by decide) ?_
      refine lv_goto (tgt := 132) hx hb dL_isChanged_128 (by decide) ?_
      exact w132  (1 : Int32) Z15 h _ _ _ hI hN hS (lv_sub hl [] rfl)
  have w113 : ∀ (x1 : Int32) (x2 : Int32) (x3 : Int32) (t0 : Int32) (t1 : Int32) (Z : CZ), fL_isChanged_113  x1 x2 x3 t0 t1 Z = some (rz, Zz) → cG p l e (headSpec wsL_isChanged rmL_isChanged).room s m (([.ref (ad 0 0), .int a2, .int a3, .int a4] : List Value).toArray) below meth c (MQ below (cQi D G A ad rz Zz) (([.ref (ad 0 0), .int a2, .int a3, .int a4] : List Value).toArray) s 0 0 A) D G A ad 0 0 9 Z 113 [(0, .ref (ad 0 0)), (1, .int x1), (2, .int x2), (3, .int x3)] [.int t0, .int t1] := by
    intro  x1 x2 x3 t0 t1 Z h H locs ls hI hN hS hl
    unfold fL_isChanged_113 at h
    refine lv_icmp_ne (tgt := 131) hx hb dL_isChanged_113 (by decide) (fun hc => ?_) (fun hc => ?_)
    · have h := ite_f h hc
      exact w131  Z h _ _ _ hI hN hS (lv_sub hl [] rfl)
    · have h := ite_t h hc
      exact w116  x1 x2 x3 Z h _ _ _ hI hN hS (lv_sub hl [0, 1, 2, 3] rfl)
  have w111 : ∀ (x1 : Int32) (x2 : Int32) (x3 : Int32) (x7 : Int32) (t0 : Int32) (Z : CZ), fL_isChanged_111  x1 x2 x3 x7 t0 Z = some (rz, Zz) → cG p l e (headSpec wsL_isChanged rmL_isChanged).room s m (([.ref (ad 0 0), .int a2, .int a3, .int a4] : List Value).toArray) below meth c (MQ below (cQi D G A ad rz Zz) (([.ref (ad 0 0), .int a2, .int a3, .int a4] : List Value).toArray) s 0 0 A) D G A ad 0 0 9 Z 111 [(0, .ref (ad 0 0)), (1, .int x1), (2, .int x2), (3, .int x3), (7, .int x7)] [.int t0] := by
    intro  x1 x2 x3 x7 t0 Z h H locs ls hI hN hS hl
    unfold fL_isChanged_111 at h
    refine lv_iload hx hb dL_isChanged_111 (lv_at hl 4 rfl) ?_
    exact w113  x1 x2 x3 x7 t0 Z h _ _ _ hI hN hS (lv_sub hl [0, 1, 2, 3] rfl)
  have w56 : ∀ (x1 : Int32) (x2 : Int32) (x3 : Int32) (x4 : Int32) (x5 : Int32) (x6 : Int32) (t0 : Int32) (Z : CZ), fL_isChanged_56  x1 x2 x3 x4 x5 x6 t0 Z = some (rz, Zz) → cG p l e (headSpec wsL_isChanged rmL_isChanged).room s m (([.ref (ad 0 0), .int a2, .int a3, .int a4] : List Value).toArray) below meth c (MQ below (cQi D G A ad rz Zz) (([.ref (ad 0 0), .int a2, .int a3, .int a4] : List Value).toArray) s 0 0 A) D G A ad 0 0 9 Z 56 [(0, .ref (ad 0 0)), (1, .int x1), (2, .int x2), (3, .int x3), (4, .int x4), (5, .int x5), (6, .int x6)] [.int t0] := by
    intro  x1 x2 x3 x4 x5 x6 t0 Z h H locs ls hI hN hS hl
    unfold fL_isChanged_56 at h
    refine lv_istore (lv' := [(7, .int t0), (0, .ref (ad 0 0)), (1, .int x1), (2, .int x2), (3, .int x3), (4, .int x4), (5, .int x5), (6, .int x6)]) hx hb dL_isChanged_56 hl (by decide) rfl (fun ls hl => ?_)
    refine lv_aload_n hx hb dL_isChanged_58 rfl (lv_at hl 1 rfl) ?_
    refine lv_iload_n hx hb dL_isChanged_59 rfl (lv_at hl 2 rfl) ?_
    refine lv_iload_n hx hb dL_isChanged_60 rfl (lv_at hl 3 rfl) ?_
    refine lv_iload_n hx hb dL_isChanged_61 rfl (lv_at hl 4 rfl) ?_
    obtain ⟨v8, Z10, c9, h⟩ := cl2_ok h
    refine lw_calli (va_runV (As := [.int x1, .int x2, .int x3]) (rest := []) ⟨hx, hb, hml, hown, hts⟩ (mX6_change_n l D G A ad Z x1 x2 x3 v8 Z10 c9) (cwV 3 hts gL_isChanged_X6_change rfl rfl rfl (by decide +kernel) ⟨Nat.le_of_ble_eq_true rfl, Nat.le_of_ble_eq_true rfl⟩) (cg_preV hI hK hN rfl rfl (ci := 7) rfl) rfl rfl hl.1 rfl (lv_room (Nat.le_of_ble_eq_true rfl)) dL_isChanged_62 ⟨Nat.le_of_ble_eq_true rfl, Nat.le_of_ble_eq_true rfl⟩) hS (fun H locs hI hN hS => ?_)
    refine W.widen (k := 0) (n := 0) (by decide) (by decide) ?_
    refine lv_istore (lv' := [(8, .int v8), (7, .int t0), (0, .ref (ad 0 0)), (1, .int x1), (2, .int x2), (3, .int x3), (4, .int x4), (5, .int x5), (6, .int x6)]) hx hb dL_isChanged_65 hl (by decide) rfl (fun ls hl => ?_)
    refine lv_iload hx hb dL_isChanged_67 (lv_at hl 0 rfl) ?_
    refine lv_if_lt (tgt := 131) hx hb dL_isChanged_69 (by decide) (fun hc => ?_) (fun hc => ?_)
    · have h := ite_t h hc
      exact w131  Z10 h _ _ _ hI hN hS (lv_sub hl [] rfl)
    · have h := ite_f h hc
      refine lv_iload hx hb dL_isChanged_72 (lv_at hl 0 rfl) ?_
      refine lv_bipush (v := (12 : Int32)) hx hb dL_isChanged_74 (by decide) ?_
      refine lv_icmp_ge (tgt := 131) hx hb dL_isChanged_76 (by decide) (fun hc => ?_) (fun hc => ?_)
      · have h := ite_t h hc
        exact w131  Z10 h _ _ _ hI hN hS (lv_sub hl [] rfl)
      · have h := ite_f h hc
        refine lv_iload hx hb dL_isChanged_79 (lv_at hl 8 rfl) ?_
        refine lv_if_eq (tgt := 116) hx hb dL_isChanged_81 (by decide) (fun hc => ?_) (fun hc => ?_)
        · have h := ite_t h hc
          exact w116  x1 x2 x3 Z10 h _ _ _ hI hN hS (lv_sub hl [2, 3, 4, 5] rfl)
        · have h := ite_f h hc
          refine lv_aload_n hx hb dL_isChanged_84 rfl (lv_at hl 2 rfl) ?_
          refine lv_iload_n hx hb dL_isChanged_85 rfl (lv_at hl 3 rfl) ?_
          refine lv_iload hx hb dL_isChanged_86 (lv_at hl 7 rfl) ?_
          refine lv_iconst (v := (1 : Int32)) hx hb dL_isChanged_88 (by decide) ?_
          refine lv_isub hx hb dL_isChanged_89 ?_
          refine lv_iload hx hb dL_isChanged_90 (lv_at hl 6 rfl) ?_
          obtain ⟨v11, c12, h⟩ := cl1_ok h
          refine lw_calli (va_runV (As := [.int x1, .int (x5 - (1 : Int32)), .int x4]) (rest := []) ⟨hx, hb, hml, hown, hts⟩ (mX6_knows_n l D G A ad Z10 x1 (x5 - (1 : Int32)) x4 v11  c12) (cwV 3 hts gL_isChanged_X6_knows rfl rfl rfl (by decide +kernel) ⟨Nat.le_of_ble_eq_true rfl, Nat.le_of_ble_eq_true rfl⟩) (cg_preV hI hK hN rfl rfl (ci := 7) rfl) rfl rfl hl.1 rfl (lv_room (Nat.le_of_ble_eq_true rfl)) dL_isChanged_92 ⟨Nat.le_of_ble_eq_true rfl, Nat.le_of_ble_eq_true rfl⟩) hS (fun H locs hI hN hS => ?_)
          refine W.widen (k := 0) (n := 0) (by decide) (by decide) ?_
          refine lv_iload hx hb dL_isChanged_95 (lv_at hl 0 rfl) ?_
          refine lv_iload_n hx hb dL_isChanged_97 rfl (lv_at hl 5 rfl) ?_
          refine lv_icmp_eq (tgt := 111) hx hb dL_isChanged_98 (by decide) (fun hc => ?_) (fun hc => ?_)
          · have h := ite_t h hc
            exact w111  x1 x2 x3 t0 v11 Z10 h _ _ _ hI hN hS (lv_sub hl [2, 3, 4, 5, 1] rfl)
          · have h := ite_f h hc
            refine lv_iload hx hb dL_isChanged_101 (lv_at hl 1 rfl) ?_
            refine lv_iconst (v := (1 : Int32)) hx hb dL_isChanged_103 (by decide) ?_
            refine lv_icmp_ne (tgt := 111) hx hb dL_isChanged_104 (by decide) (fun hc => ?_) (fun hc => ?_)
            · have h := ite_f h hc
              exact w111  x1 x2 x3 t0 v11 Z10 h _ _ _ hI hN hS (lv_sub hl [2, 3, 4, 5, 1] rfl)
            · have h := ite_t h hc
              refine lv_iconst (v := (2 : Int32)) hx hb dL_isChanged_107 (by decide) ?_
              refine lv_goto (tgt := 113) hx hb dL_isChanged_108 (by decide) ?_
              exact w113  x1 x2 x3 (2 : Int32) v11 Z10 h _ _ _ hI hN hS (lv_sub hl [2, 3, 4, 5] rfl)
  have w34 : ∀ (x1 : Int32) (x2 : Int32) (x3 : Int32) (x4 : Int32) (x5 : Int32) (t0 : Int32) (Z : CZ), fL_isChanged_34  x1 x2 x3 x4 x5 t0 Z = some (rz, Zz) → cG p l e (headSpec wsL_isChanged rmL_isChanged).room s m (([.ref (ad 0 0), .int a2, .int a3, .int a4] : List Value).toArray) below meth c (MQ below (cQi D G A ad rz Zz) (([.ref (ad 0 0), .int a2, .int a3, .int a4] : List Value).toArray) s 0 0 A) D G A ad 0 0 9 Z 34 [(0, .ref (ad 0 0)), (1, .int x1), (2, .int x2), (3, .int x3), (4, .int x4), (5, .int x5)] [.int t0] := by
    intro  x1 x2 x3 x4 x5 t0 Z h H locs ls hI hN hS hl
    unfold fL_isChanged_34 at h
    refine lv_istore (lv' := [(6, .int t0), (0, .ref (ad 0 0)), (1, .int x1), (2, .int x2), (3, .int x3), (4, .int x4), (5, .int x5)]) hx hb dL_isChanged_34 hl (by decide) rfl (fun ls hl => ?_)
    refine lv_iload hx hb dL_isChanged_36 (lv_at hl 0 rfl) ?_
    refine lv_if_eq (tgt := 55) hx hb dL_isChanged_38 (by decide) (fun hc => ?_) (fun hc => ?_)
    · have h := ite_t h hc
      refine lv_iconst (v := (0 : Int32)) hx hb dL_isChanged_55 (by decide) ?_
      exact w56  x1 x2 x3 x4 x5 t0 (0 : Int32) Z h _ _ _ hI hN hS (lv_sub hl [1, 2, 3, 4, 5, 6, 0] rfl)
    · have h := ite_f h hc
      refine lv_aload_n hx hb dL_isChanged_41 rfl (lv_at hl 1 rfl) ?_
      refine lv_iload_n hx hb dL_isChanged_42 rfl (lv_at hl 2 rfl) ?_
      refine lv_iload hx hb dL_isChanged_43 (lv_at hl 6 rfl) ?_
      refine lv_iconst (v := (1 : Int32)) hx hb dL_isChanged_45 (by decide) ?_
      refine lv_isub hx hb dL_isChanged_46 ?_
      refine lv_iload hx hb dL_isChanged_47 (lv_at hl 5 rfl) ?_
      obtain ⟨v6, c7, h⟩ := cl1_ok h
      refine lw_calli (va_runV (As := [.int x1, .int (x5 - (1 : Int32)), .int x4]) (rest := []) ⟨hx, hb, hml, hown, hts⟩ (mX6_knows_n l D G A ad Z x1 (x5 - (1 : Int32)) x4 v6  c7) (cwV 3 hts gL_isChanged_X6_knows rfl rfl rfl (by decide +kernel) ⟨Nat.le_of_ble_eq_true rfl, Nat.le_of_ble_eq_true rfl⟩) (cg_preV hI hK hN rfl rfl (ci := 7) rfl) rfl rfl hl.1 rfl (lv_room (Nat.le_of_ble_eq_true rfl)) dL_isChanged_49 ⟨Nat.le_of_ble_eq_true rfl, Nat.le_of_ble_eq_true rfl⟩) hS (fun H locs hI hN hS => ?_)
      refine W.widen (k := 0) (n := 0) (by decide) (by decide) ?_
      refine lv_goto (tgt := 56) hx hb dL_isChanged_52 (by decide) ?_
      exact w56  x1 x2 x3 x4 x5 t0 v6 Z h _ _ _ hI hN hS (lv_sub hl [1, 2, 3, 4, 5, 6, 0] rfl)
  have w33 : ∀ (x1 : Int32) (x2 : Int32) (x3 : Int32) (x4 : Int32) (x5 : Int32) (Z : CZ), fL_isChanged_33  x1 x2 x3 x4 x5 Z = some (rz, Zz) → cG p l e (headSpec wsL_isChanged rmL_isChanged).room s m (([.ref (ad 0 0), .int a2, .int a3, .int a4] : List Value).toArray) below meth c (MQ below (cQi D G A ad rz Zz) (([.ref (ad 0 0), .int a2, .int a3, .int a4] : List Value).toArray) s 0 0 A) D G A ad 0 0 9 Z 33 [(0, .ref (ad 0 0)), (1, .int x1), (2, .int x2), (3, .int x3), (4, .int x4), (5, .int x5)] [] := by
    intro  x1 x2 x3 x4 x5 Z h H locs ls hI hN hS hl
    unfold fL_isChanged_33 at h
    refine lv_iconst (v := (0 : Int32)) hx hb dL_isChanged_33 (by decide) ?_
    exact w34  x1 x2 x3 x4 x5 (0 : Int32) Z h _ _ _ hI hN hS (lv_sub hl [0, 1, 2, 3, 4, 5] rfl)
  unfold fL_isChanged at h
  refine lv_iload_n hx hb dL_isChanged_0 rfl (lv_at hl 2 rfl) ?_
  refine lv_iconst (v := (4 : Int32)) hx hb dL_isChanged_1 (by decide) ?_
  refine lv_idiv hx hb dL_isChanged_2 (by decide) ?_
  refine lv_topi (fun v1 ev1 => ?_)
  have h := bnd_ok h ev1
  refine lv_istore (lv' := [(4, .int v1), (0, .ref (ad 0 0)), (1, .int a2), (2, .int a3), (3, .int a4)]) hx hb dL_isChanged_3 hl (by decide) rfl (fun ls hl => ?_)
  refine lv_aload_n hx hb dL_isChanged_5 rfl (lv_at hl 1 rfl) ?_
  refine lv_iload_n hx hb dL_isChanged_6 rfl (lv_at hl 2 rfl) ?_
  refine lv_iconst (v := (0 : Int32)) hx hb dL_isChanged_7 (by decide) ?_
  obtain ⟨v2, c3, h⟩ := cl1_ok h
  refine lw_calli (va_runV (As := [.int a2, .int (0 : Int32)]) (rest := []) ⟨hx, hb, hml, hown, hts⟩ (mX6_ofBand_n l D G A ad Z a2 (0 : Int32) v2  c3) (cwV 2 hts gL_isChanged_X6_ofBand rfl rfl rfl (by decide +kernel) ⟨Nat.le_of_ble_eq_true rfl, Nat.le_of_ble_eq_true rfl⟩) (cg_preV hI hK hN rfl rfl (ci := 7) rfl) rfl rfl hl.1 rfl (lv_room (Nat.le_of_ble_eq_true rfl)) dL_isChanged_8 ⟨Nat.le_of_ble_eq_true rfl, Nat.le_of_ble_eq_true rfl⟩) hS (fun H locs hI hN hS => ?_)
  refine W.widen (k := 0) (n := 0) (by decide) (by decide) ?_
  refine lv_istore (lv' := [(5, .int v2), (4, .int v1), (0, .ref (ad 0 0)), (1, .int a2), (2, .int a3), (3, .int a4)]) hx hb dL_isChanged_11 hl (by decide) rfl (fun ls hl => ?_)
  refine lv_iload hx hb dL_isChanged_13 (lv_at hl 1 rfl) ?_
  refine lv_aload_n hx hb dL_isChanged_15 rfl (lv_at hl 2 rfl) ?_
  refine lv_iload_n hx hb dL_isChanged_16 rfl (lv_at hl 3 rfl) ?_
  refine lv_iconst (v := (2 : Int32)) hx hb dL_isChanged_17 (by decide) ?_
  obtain ⟨v4, c5, h⟩ := cl1_ok h
  refine lw_calli (va_runV (As := [.int a2, .int (2 : Int32)]) (rest := [.int v1]) ⟨hx, hb, hml, hown, hts⟩ (mX6_ofBand_n l D G A ad Z a2 (2 : Int32) v4  c5) (cwV 2 hts gL_isChanged_X6_ofBand rfl rfl rfl (by decide +kernel) ⟨Nat.le_of_ble_eq_true rfl, Nat.le_of_ble_eq_true rfl⟩) (cg_preV hI hK hN rfl rfl (ci := 7) rfl) rfl rfl hl.1 rfl (lv_room (Nat.le_of_ble_eq_true rfl)) dL_isChanged_18 ⟨Nat.le_of_ble_eq_true rfl, Nat.le_of_ble_eq_true rfl⟩) hS (fun H locs hI hN hS => ?_)
  refine W.widen (k := 0) (n := 0) (by decide) (by decide) ?_
  refine lv_icmp_ge (tgt := 33) hx hb dL_isChanged_21 (by decide) (fun hc => ?_) (fun hc => ?_)
  · have h := ite_t h hc
    exact w33  a2 a3 a4 v1 v2 Z h _ _ _ hI hN hS (lv_sub hl [2, 3, 4, 5, 1, 0] rfl)
  · have h := ite_f h hc
    refine lv_iload hx hb dL_isChanged_24 (lv_at hl 0 rfl) ?_
    refine lv_if_le (tgt := 33) hx hb dL_isChanged_26 (by decide) (fun hc => ?_) (fun hc => ?_)
    · have h := ite_t h hc
      exact w33  a2 a3 a4 v1 v2 Z h _ _ _ hI hN hS (lv_sub hl [2, 3, 4, 5, 1, 0] rfl)
    · have h := ite_f h hc
      refine lv_iconst (v := (1 : Int32)) hx hb dL_isChanged_29 (by decide) ?_
      refine lv_goto (tgt := 34) hx hb dL_isChanged_30 (by decide) ?_
      exact w34  a2 a3 a4 v1 v2 (1 : Int32) Z h _ _ _ hI hN hS (lv_sub hl [2, 3, 4, 5, 1, 0] rfl)
