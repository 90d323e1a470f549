def fL_areParts_123 (k32 : Int32 → Int32 → Int32 → Int32 → Int32 → CZ → Option (Int32 × CZ)) (x1 : Int32) (x2 : Int32) (x4 : Int32) (x5 : Int32) (t0 : Int32) (Z : CZ) : Option (Int32 × CZ) := bnd (x5 + (1 : Int32)) (fun v21 => k32 x1 x2 t0 x4 v21 Z)
def fL_areParts_118 (k32 : Int32 → Int32 → Int32 → Int32 → Int32 → CZ → Option (Int32 × CZ)) (x1 : Int32) (x2 : Int32) (x4 : Int32) (x5 : Int32) (Z : CZ) : Option (Int32 × CZ) := fL_areParts_123 k32 x1 x2 x4 x5 (1 : Int32) Z
def fL_areParts_122 (k32 : Int32 → Int32 → Int32 → Int32 → Int32 → CZ → Option (Int32 × CZ)) (x1 : Int32) (x2 : Int32) (x4 : Int32) (x5 : Int32) (Z : CZ) : Option (Int32 × CZ) := fL_areParts_123 k32 x1 x2 x4 x5 (0 : Int32) Z
def fL_areParts_96 (k32 : Int32 → Int32 → Int32 → Int32 → Int32 → CZ → Option (Int32 × CZ)) (x1 : Int32) (x2 : Int32) (x4 : Int32) (x5 : Int32) (x6 : Int32) (t0 : Int32) (t1 : Int32) (Z : CZ) : Option (Int32 × CZ) := (if t1 = t0 then (if x6 = (-1 : Int32) then fL_areParts_118 k32 x1 x2 x4 x5 Z else cl1 (fX6_knows_n x1 x6 x5 Z) (fun v18 => (if v18 = (1 : Int32) then fL_areParts_118 k32 x1 x2 x4 x5 Z else fL_areParts_122 k32 x1 x2 x4 x5 Z))) else fL_areParts_122 k32 x1 x2 x4 x5 Z)
def fL_areParts_86 (k32 : Int32 → Int32 → Int32 → Int32 → Int32 → CZ → Option (Int32 × CZ)) (x1 : Int32) (x2 : Int32) (x4 : Int32) (x5 : Int32) (x6 : Int32) (t0 : Int32) (Z : CZ) : Option (Int32 × CZ) := (if x2 = (-1 : Int32) then fL_areParts_96 k32 x1 x2 x4 x5 x6 (1 : Int32) t0 Z else fL_areParts_96 k32 x1 x2 x4 x5 x6 (0 : Int32) t0 Z)
def fL_areParts_72 (k32 : Int32 → Int32 → Int32 → Int32 → Int32 → CZ → Option (Int32 × CZ)) (x1 : Int32) (x2 : Int32) (x5 : Int32) (x6 : Int32) (t0 : Int32) (t1 : Int32) (Z : CZ) : Option (Int32 × CZ) := bnd (t1 ||| t0) (fun v11 => (if x6 = (-1 : Int32) then fL_areParts_86 k32 x1 x2 v11 x5 x6 (1 : Int32) Z else fL_areParts_86 k32 x1 x2 v11 x5 x6 (0 : Int32) Z))
def fL_areParts_217 (k133 : Int32 → Int32 → Int32 → Int32 → Int32 → CZ → Option (Int32 × CZ)) (x1 : Int32) (x2 : Int32) (x4 : Int32) (x5 : Int32) (t0 : Int32) (Z : CZ) : Option (Int32 × CZ) := bnd (x5 + (1 : Int32)) (fun v20 => k133 x1 x2 t0 x4 v20 Z)
def fL_areParts_212 (k133 : Int32 → Int32 → Int32 → Int32 → Int32 → CZ → Option (Int32 × CZ)) (x1 : Int32) (x2 : Int32) (x4 : Int32) (x5 : Int32) (Z : CZ) : Option (Int32 × CZ) := fL_areParts_217 k133 x1 x2 x4 x5 (1 : Int32) Z
def fL_areParts_224 (x3 : Int32) (Z : CZ) : Option (Int32 × CZ) := gd (gbo x3) (some (x3, Z))
def fL_areParts_133 (k133 : Int32 → Int32 → Int32 → Int32 → Int32 → CZ → Option (Int32 × CZ)) (x1 : Int32) (x2 : Int32) (x3 : Int32) (x4 : Int32) (x5 : Int32) (Z : CZ) : Option (Int32 × CZ) := cl1 (fX6_ofBand_n x1 (0 : Int32) Z) (fun v12 => (if v12 ≤ x5 then fL_areParts_224 x3 Z else (if x3 = 0 then fL_areParts_224 x3 Z else cl2 (fX6_without_n x1 x5 Z) (fun v14 Z16 => (if x2 = (-1 : Int32) then (if v14 = (-1 : Int32) then fL_areParts_217 k133 x1 x2 x4 x5 (1 : Int32) Z16 else fL_areParts_217 k133 x1 x2 x4 x5 (0 : Int32) Z16) else (if ((x4 >>> (x5 &&& 31)) &&& (1 : Int32)) = 0 then (if v14 = x2 then fL_areParts_217 k133 x1 x2 x4 x5 (1 : Int32) Z16 else fL_areParts_217 k133 x1 x2 x4 x5 (0 : Int32) Z16) else (if v14 = (-1 : Int32) then fL_areParts_212 k133 x1 x2 x4 x5 Z16 else (if v14 < x2 then fL_areParts_217 k133 x1 x2 x4 x5 (0 : Int32) Z16 else fL_areParts_212 k133 x1 x2 x4 x5 Z16))))))))
def fL_areParts_130 (x1 : Int32) (x2 : Int32) (x3 : Int32) (x4 : Int32) (Z : CZ) : Option (Int32 × CZ) := lf6 fL_areParts_133 100 x1 x2 x3 x4 (0 : Int32) Z
def fL_areParts_32 (k32 : Int32 → Int32 → Int32 → Int32 → Int32 → CZ → Option (Int32 × CZ)) (x1 : Int32) (x2 : Int32) (x3 : Int32) (x4 : Int32) (x5 : Int32) (Z : CZ) : Option (Int32 × CZ) := cl1 (fX6_ofBand_n x1 (2 : Int32) Z) (fun v6 => (if v6 ≤ x5 then fL_areParts_130 x1 x2 x3 x4 Z else (if x3 = 0 then fL_areParts_130 x1 x2 x3 x4 Z else cl2 (fX6_part_n x1 x5 Z) (fun v8 Z10 => (if v8 = (-1 : Int32) then fL_areParts_72 k32 x1 x2 x5 v8 (0 : Int32) x4 Z10 else fL_areParts_72 k32 x1 x2 x5 v8 ((1 : Int32) <<< (v8 &&& 31)) x4 Z10)))))
def fL_areParts_25 (x1 : Int32) (x2 : Int32) (t0 : Int32) (Z : CZ) : Option (Int32 × CZ) := lf6 fL_areParts_32 100 x1 x2 t0 (0 : Int32) (0 : Int32) Z
def fL_areParts_20 (x1 : Int32) (x2 : Int32) (Z : CZ) : Option (Int32 × CZ) := fL_areParts_25 x1 x2 (1 : Int32) Z
def fL_areParts (a2 : Int32) (Z : CZ) : Option (Int32 × CZ) := cl2 (fX6_leaps_n a2 Z) (fun v1 Z3 => (if v1 = (-1 : Int32) then fL_areParts_20 a2 v1 Z3 else cl1 (fX6_ofBand_n a2 (2 : Int32) Z3) (fun v4 => (if v4 ≤ 0 then fL_areParts_25 a2 v1 (0 : Int32) Z3 else fL_areParts_20 a2 v1 Z3))))
def rmL_areParts : Room := { frames := 8, cells := 0, slots := 0, locals := 203 }
set_option maxHeartbeats 8000000 in
set_option maxRecDepth 100000 in
theorem mL_areParts (l : Launch) (hfl : l.stackTraces = false) (D : va_G) (G : CGT) (A : Nat → Prop) (ad : Nat → Nat → Nat) (Z : CZ) (a2 : Int32) (rz : Int32) (Zz : CZ) (h : fL_areParts a2 Z = some (rz, Zz)) : Met l yL_areParts wsL_areParts rmL_areParts (va_Pc [.ref (ad 0 0), .int a2] (xP D G A ad Z)) (cQi D G A ad rz Zz) 0 0 A := by
  refine Met.ofW (cc := cL_areParts) (maxL := 7) (ret := some .boolean) (by decide) rfl ?_
  intro p e s m args below meth c s₁ B hml hv
  obtain ⟨rfl, ⟨hI, hN, hK⟩, hE⟩ := hv
  have hx := B.exec
  have hb := B.bytes
  have hr := B.returns
  have hts := atoms_spec (ws := wsL_areParts) B.pre
  have hown : s.vm.findClass RL = some m.cls := findClass_of_methodNamed B.named
  have hlocks := B.notSynchronized
  have hS : va_S A s.heap s.heap [] := va_S.rf
  have hl := lv_entry ([.ref (ad 0 0), .int a2]) (n := 7) (Nat.le_of_ble_eq_true rfl)
  rw [lg_entry_eq]
  generalize (lg_sl ([.ref (ad 0 0), .int a2]) ++ List.replicate (7 - (lg_sl ([.ref (ad 0 0), .int a2])).length) Slot.unset).toArray = ls at hl ⊢
  have hl : lv_has ls 7 [(0, .ref (ad 0 0)), (1, .int a2)] := hl
  have w123 : ∀ (k32 : Int32 → Int32 → Int32 → Int32 → Int32 → CZ → Option (Int32 × CZ)) (hk32 : (∀ (x1 : Int32) (x2 : Int32) (x3 : Int32) (x4 : Int32) (x5 : Int32) (Z : CZ), k32 x1 x2 x3 x4 x5 Z = some (rz, Zz) → cG p l e (headSpec wsL_areParts rmL_areParts).room s m (([.ref (ad 0 0), .int a2] : List Value).toArray) below meth c (MQ below (cQi D G A ad rz Zz) (([.ref (ad 0 0), .int a2] : List Value).toArray) s 0 0 A) D G A ad 0 0 7 Z 32 [(0, .ref (ad 0 0)), (1, .int x1), (2, .int x2), (3, .int x3), (4, .int x4), (5, .int x5)] [])) (x1 : Int32) (x2 : Int32) (x4 : Int32) (x5 : Int32) (t0 : Int32) (Z : CZ), fL_areParts_123 k32 x1 x2 x4 x5 t0 Z = some (rz, Zz) → cG p l e (headSpec wsL_areParts rmL_areParts).room s m (([.ref (ad 0 0), .int a2] : List Value).toArray) below meth c (MQ below (cQi D G A ad rz Zz) (([.ref (ad 0 0), .int a2] : List Value).toArray) s 0 0 A) D G A ad 0 0 7 Z 123 [(0, .ref (ad 0 0)), (1, .int x1), (2, .int x2), (4, .int x4), (5, .int x5)] [.int t0] := by
    intro k32 hk32 x1 x2 x4 x5 t0 Z h H locs ls hI hN hS hl
    unfold fL_areParts_123 at h
    refine lv_istore_n (lv' := [(3, .int t0), (0, .ref (ad 0 0)), (1, .int x1), (2, .int x2), (4, .int x4), (5, .int x5)]) hx hb dL_areParts_123 rfl hl (by decide) rfl (fun ls hl => ?_)
    obtain ⟨v21, ev21⟩ : ∃ y : Int32, y = (x5 + (1 : Int32)) := ⟨_, rfl⟩
    have h := bnd_ok h ev21
    refine lv_iinc (v := v21) (lv' := [(5, .int v21), (3, .int t0), (0, .ref (ad 0 0)), (1, .int x1), (2, .int x2), (4, .int x4)]) hx hb dL_areParts_124 hl (k := 5) rfl (by rw [ev21]; rfl) (by decide) rfl (fun ls hl => ?_)
    refine lv_goto (tgt := 32) hx hb dL_areParts_127 (by decide) ?_
    exact hk32 x1 x2 t0 x4 v21 Z h _ _ _ hI hN hS (lv_sub hl [2, 3, 4, 1, 5, 0] rfl)
  have w118 : ∀ (k32 : Int32 → Int32 → Int32 → Int32 → Int32 → CZ → Option (Int32 × CZ)) (hk32 : (∀ (x1 : Int32) (x2 : Int32) (x3 : Int32) (x4 : Int32) (x5 : Int32) (Z : CZ), k32 x1 x2 x3 x4 x5 Z = some (rz, Zz) → cG p l e (headSpec wsL_areParts rmL_areParts).room s m (([.ref (ad 0 0), .int a2] : List Value).toArray) below meth c (MQ below (cQi D G A ad rz Zz) (([.ref (ad 0 0), .int a2] : List Value).toArray) s 0 0 A) D G A ad 0 0 7 Z 32 [(0, .ref (ad 0 0)), (1, .int x1), (2, .int x2), (3, .int x3), (4, .int x4), (5, .int x5)] [])) (x1 : Int32) (x2 : Int32) (x4 : Int32) (x5 : Int32) (Z : CZ), fL_areParts_118 k32 x1 x2 x4 x5 Z = some (rz, Zz) → cG p l e (headSpec wsL_areParts rmL_areParts).room s m (([.ref (ad 0 0), .int a2] : List Value).toArray) below meth c (MQ below (cQi D G A ad rz Zz) (([.ref (ad 0 0), .int a2] : List Value).toArray) s 0 0 A) D G A ad 0 0 7 Z 118 [(0, .ref (ad 0 0)), (1, .int x1), (2, .int x2), (4, .int x4), (5, .int x5)] [] := by
    intro k32 hk32 x1 x2 x4 x5 Z h H locs ls hI hN hS hl
    unfold fL_areParts_118 at h
    refine lv_iconst (v := (1 : Int32)) hx hb dL_areParts_118 (by decide) ?_
    refine lv_goto (tgt := 123) hx hb dL_areParts_119 (by decide) ?_
    exact w123 k32 hk32 x1 x2 x4 x5 (1 : Int32) Z h _ _ _ hI hN hS (lv_sub hl [0, 1, 2, 3, 4] rfl)
  have w122 : ∀ (k32 : Int32 → Int32 → Int32 → Int32 → Int32 → CZ → Option (Int32 × CZ)) (hk32 : (∀ (x1 : Int32) (x2 : Int32) (x3 : Int32) (x4 : Int32) (x5 : Int32) (Z : CZ), k32 x1 x2 x3 x4 x5 Z = some (rz, Zz) → cG p l e (headSpec wsL_areParts rmL_areParts).room s m (([.ref (ad 0 0), .int a2] : List Value).toArray) below meth c (MQ below (cQi D G A ad rz Zz) (([.ref (ad 0 0), .int a2] : List Value).toArray) s 0 0 A) D G A ad 0 0 7 Z 32 [(0, .ref (ad 0 0)), (1, .int x1), (2, .int x2), (3, .int x3), (4, .int x4), (5, .int x5)] [])) (x1 : Int32) (x2 : Int32) (x4 : Int32) (x5 : Int32) (Z : CZ), fL_areParts_122 k32 x1 x2 x4 x5 Z = some (rz, Zz) → cG p l e (headSpec wsL_areParts rmL_areParts).room s m (([.ref (ad 0 0), .int a2] : List Value).toArray) below meth c (MQ below (cQi D G A ad rz Zz) (([.ref (ad 0 0), .int a2] : List Value).toArray) s 0 0 A) D G A ad 0 0 7 Z 122 [(0, .ref (ad 0 0)), (1, .int x1), (2, .int x2), (4, .int x4), (5, .int x5)] [] := by
    intro k32 hk32 x1 x2 x4 x5 Z h H locs ls hI hN hS hl
    unfold fL_areParts_122 at h
    refine lv_iconst (v := (0 : Int32)) hx hb dL_areParts_122 (by decide) ?_
    exact w123 k32 hk32 x1 x2 x4 x5 (0 : Int32) Z h _ _ _ hI hN hS (lv_sub hl [0, 1, 2, 3, 4] rfl)
  have w96 : ∀ (k32 : Int32 → Int32 → Int32 → Int32 → Int32 → CZ → Option (Int32 × CZ)) (hk32 : (∀ (x1 : Int32) (x2 : Int32) (x3 : Int32) (x4 : Int32) (x5 : Int32) (Z : CZ), k32 x1 x2 x3 x4 x5 Z = some (rz, Zz) → cG p l e (headSpec wsL_areParts rmL_areParts).room s m (([.ref (ad 0 0), .int a2] : List Value).toArray) below meth c (MQ below (cQi D G A ad rz Zz) (([.ref (ad 0 0), .int a2] : List Value).toArray) s 0 0 A) D G A ad 0 0 7 Z 32 [(0, .ref (ad 0 0)), (1, .int x1), (2, .int x2), (3, .int x3), (4, .int x4), (5, .int x5)] [])) (x1 : Int32) (x2 : Int32) (x4 : Int32) (x5 : Int32) (x6 : Int32) (t0 : Int32) (t1 : Int32) (Z : CZ), fL_areParts_96 k32 x1 x2 x4 x5 x6 t0 t1 Z = some (rz, Zz) → cG p l e (headSpec wsL_areParts rmL_areParts).room s m (([.ref (ad 0 0), .int a2] : List Value).toArray) below meth c (MQ below (cQi D G A ad rz Zz) (([.ref (ad 0 0), .int a2] : List Value).toArray) s 0 0 A) D G A ad 0 0 7 Z 96 [(0, .ref (ad 0 0)), (1, .int x1), (2, .int x2), (4, .int x4), (5, .int x5), (6, .int x6)] [.int t0, .int t1] := by
    intro k32 hk32 x1 x2 x4 x5 x6 t0 t1 Z h H locs ls hI hN hS hl
    unfold fL_areParts_96 at h
    refine lv_icmp_ne (tgt := 122) hx hb dL_areParts_96 (by decide) (fun hc => ?_) (fun hc => ?_)
    · have h := ite_f h hc
      exact w122 k32 hk32 x1 x2 x4 x5 Z h _ _ _ hI hN hS (lv_sub hl [0, 1, 2, 3, 4] rfl)
    · have h := ite_t h hc
      refine lv_iload hx hb dL_areParts_99 (lv_at hl 5 rfl) ?_
      refine lv_iconst (v := (-1 : Int32)) hx hb dL_areParts_101 (by decide) ?_
      refine lv_icmp_eq (tgt := 118) hx hb dL_areParts_102 (by decide) (fun hc => ?_) (fun hc => ?_)
      · have h := ite_t h hc
        exact w118 k32 hk32 x1 x2 x4 x5 Z h _ _ _ hI hN hS (lv_sub hl [0, 1, 2, 3, 4] rfl)
      · have h := ite_f h hc
        refine lv_aload_n hx hb dL_areParts_105 rfl (lv_at hl 0 rfl) ?_
        refine lv_iload_n hx hb dL_areParts_106 rfl (lv_at hl 1 rfl) ?_
        refine lv_iload hx hb dL_areParts_107 (lv_at hl 5 rfl) ?_
        refine lv_iload hx hb dL_areParts_109 (lv_at hl 4 rfl) ?_
        obtain ⟨v18, c19, h⟩ := cl1_ok h
        refine lw_calli (va_runV (As := [.int x1, .int x6, .int x5]) (rest := []) ⟨hx, hb, hml, hown, hts⟩ (mX6_knows_n l D G A ad Z x1 x6 x5 v18  c19) (cwV 3 hts gL_areParts_X6_knows rfl rfl rfl (by decide +kernel) ⟨Nat.le_of_ble_eq_true rfl, Nat.le_of_ble_eq_true rfl⟩) (cg_preV hI hK hN rfl rfl (ci := 7) rfl) rfl rfl hl.1 rfl (lv_room (Nat.le_of_ble_eq_true rfl)) dL_areParts_111 ⟨Nat.le_of_ble_eq_true rfl, Nat.le_of_ble_eq_true rfl⟩) hS (fun H locs hI hN hS => ?_)
        refine W.widen (k := 0) (n := 0) (by decide) (by decide) ?_
        refine lv_iconst (v := (1 : Int32)) hx hb dL_areParts_114 (by decide) ?_
        refine lv_icmp_ne (tgt := 122) hx hb dL_areParts_115 (by decide) (fun hc => ?_) (fun hc => ?_)
        · have h := ite_f h hc
          exact w122 k32 hk32 x1 x2 x4 x5 Z h _ _ _ hI hN hS (lv_sub hl [0, 1, 2, 3, 4] rfl)
        · have h := ite_t h hc
          exact w118 k32 hk32 x1 x2 x4 x5 Z h _ _ _ hI hN hS (lv_sub hl [0, 1, 2, 3, 4] rfl)
  have w86 : ∀ (k32 : Int32 → Int32 → Int32 → Int32 → Int32 → CZ → Option (Int32 × CZ)) (hk32 : (∀ (x1 : Int32) (x2 : Int32) (x3 : Int32) (x4 : Int32) (x5 : Int32) (Z : CZ), k32 x1 x2 x3 x4 x5 Z = some (rz, Zz) → cG p l e (headSpec wsL_areParts rmL_areParts).room s m (([.ref (ad 0 0), .int a2] : List Value).toArray) below meth c (MQ below (cQi D G A ad rz Zz) (([.ref (ad 0 0), .int a2] : List Value).toArray) s 0 0 A) D G A ad 0 0 7 Z 32 [(0, .ref (ad 0 0)), (1, .int x1), (2, .int x2), (3, .int x3), (4, .int x4), (5, .int x5)] [])) (x1 : Int32) (x2 : Int32) (x4 : Int32) (x5 : Int32) (x6 : Int32) (t0 : Int32) (Z : CZ), fL_areParts_86 k32 x1 x2 x4 x5 x6 t0 Z = some (rz, Zz) → cG p l e (headSpec wsL_areParts rmL_areParts).room s m (([.ref (ad 0 0), .int a2] : List Value).toArray) below meth c (MQ below (cQi D G A ad rz Zz) (([.ref (ad 0 0), .int a2] : List Value).toArray) s 0 0 A) D G A ad 0 0 7 Z 86 [(0, .ref (ad 0 0)), (1, .int x1), (2, .int x2), (4, .int x4), (5, .int x5), (6, .int x6)] [.int t0] := by
    intro k32 hk32 x1 x2 x4 x5 x6 t0 Z h H locs ls hI hN hS hl
    unfold fL_areParts_86 at h
    refine lv_iload_n hx hb dL_areParts_86 rfl (lv_at hl 2 rfl) ?_
    refine lv_iconst (v := (-1 : Int32)) hx hb dL_areParts_87 (by decide) ?_
    refine lv_icmp_ne (tgt := 95) hx hb dL_areParts_88 (by decide) (fun hc => ?_) (fun hc => ?_)
    · have h := ite_f h hc
      refine lv_iconst (v := (0 : Int32)) hx hb dL_areParts_95 (by decide) ?_
      exact w96 k32 hk32 x1 x2 x4 x5 x6 (0 : Int32) t0 Z h _ _ _ hI hN hS (lv_sub hl [0, 1, 2, 3, 4, 5] rfl)
    · have h := ite_t h hc
      refine lv_iconst (v := (1 : Int32)) hx hb dL_areParts_91 (by decide) ?_
      refine lv_goto (tgt := 96) hx hb dL_areParts_92 (by decide) ?_
      exact w96 k32 hk32 x1 x2 x4 x5 x6 (1 : Int32) t0 Z h _ _ _ hI hN hS (lv_sub hl [0, 1, 2, 3, 4, 5] rfl)
  have w72 : ∀ (k32 : Int32 → Int32 → Int32 → Int32 → Int32 → CZ → Option (Int32 × CZ)) (hk32 : (∀ (x1 : Int32) (x2 : Int32) (x3 : Int32) (x4 : Int32) (x5 : Int32) (Z : CZ), k32 x1 x2 x3 x4 x5 Z = some (rz, Zz) → cG p l e (headSpec wsL_areParts rmL_areParts).room s m (([.ref (ad 0 0), .int a2] : List Value).toArray) below meth c (MQ below (cQi D G A ad rz Zz) (([.ref (ad 0 0), .int a2] : List Value).toArray) s 0 0 A) D G A ad 0 0 7 Z 32 [(0, .ref (ad 0 0)), (1, .int x1), (2, .int x2), (3, .int x3), (4, .int x4), (5, .int x5)] [])) (x1 : Int32) (x2 : Int32) (x5 : Int32) (x6 : Int32) (t0 : Int32) (t1 : Int32) (Z : CZ), fL_areParts_72 k32 x1 x2 x5 x6 t0 t1 Z = some (rz, Zz) → cG p l e (headSpec wsL_areParts rmL_areParts).room s m (([.ref (ad 0 0), .int a2] : List Value).toArray) below meth c (MQ below (cQi D G A ad rz Zz) (([.ref (ad 0 0), .int a2] : List Value).toArray) s 0 0 A) D G A ad 0 0 7 Z 72 [(0, .ref (ad 0 0)), (1, .int x1), (2, .int x2), (5, .int x5), (6, .int x6)] [.int t0, .int t1] := by
    intro k32 hk32 x1 x2 x5 x6 t0 t1 Z h H locs ls hI hN hS hl
    unfold fL_areParts_72 at h
    refine lv_ior hx hb dL_areParts_72 ?_
    refine lv_topi (fun v11 ev11 => ?_)
    have h := bnd_ok h ev11
    refine lv_istore (lv' := [(4, .int v11), (0, .ref (ad 0 0)), (1, .int x1), (2, .int x2), (5, .int x5), (6, .int x6)]) hx hb dL_areParts_73 hl (by decide) rfl (fun ls hl => ?_)
    refine lv_iload hx hb dL_areParts_75 (lv_at hl 5 rfl) ?_
    refine lv_iconst (v := (-1 : Int32)) hx hb dL_areParts_77 (by decide) ?_
    refine lv_icmp_ne (tgt := 85) hx hb dL_areParts_78 (by decide) (fun hc => ?_) (fun hc => ?_)
    · have h := ite_f h hc
      refine lv_iconst (v := (0 : Int32)) hx hb dL_areParts_85 (by decide) ?_
      exact w86 k32 hk32 x1 x2 v11 x5 x6 (0 : Int32) Z h _ _ _ hI hN hS (lv_sub hl [1, 2, 3, 0, 4, 5] rfl)
    · have h := ite_t h hc
      refine lv_iconst (v := (1 : Int32)) hx hb dL_areParts_81 (by decide) ?_
      refine lv_goto (tgt := 86) hx hb dL_areParts_82 (by decide) ?_
      exact w86 k32 hk32 x1 x2 v11 x5 x6 (1 : Int32) Z h _ _ _ hI hN hS (lv_sub hl [1, 2, 3, 0, 4, 5] rfl)
  have w217 : ∀ (k133 : Int32 → Int32 → Int32 → Int32 → Int32 → CZ → Option (Int32 × CZ)) (hk133 : (∀ (x1 : Int32) (x2 : Int32) (x3 : Int32) (x4 : Int32) (x5 : Int32) (Z : CZ), k133 x1 x2 x3 x4 x5 Z = some (rz, Zz) → cG p l e (headSpec wsL_areParts rmL_areParts).room s m (([.ref (ad 0 0), .int a2] : List Value).toArray) below meth c (MQ below (cQi D G A ad rz Zz) (([.ref (ad 0 0), .int a2] : List Value).toArray) s 0 0 A) D G A ad 0 0 7 Z 133 [(0, .ref (ad 0 0)), (1, .int x1), (2, .int x2), (3, .int x3), (4, .int x4), (5, .int x5)] [])) (x1 : Int32) (x2 : Int32) (x4 : Int32) (x5 : Int32) (t0 : Int32) (Z : CZ), fL_areParts_217 k133 x1 x2 x4 x5 t0 Z = some (rz, Zz) → cG p l e (headSpec wsL_areParts rmL_areParts).room s m (([.ref (ad 0 0), .int a2] : List Value).toArray) below meth c (MQ below (cQi D G A ad rz Zz) (([.ref (ad 0 0), .int a2] : List Value).toArray) s 0 0 A) D G A ad 0 0 7 Z 217 [(0, .ref (ad 0 0)), (1, .int x1), (2, .int x2), (4, .int x4), (5, .int x5)] [.int t0] := by
    intro k133 hk133 x1 x2 x4 x5 t0 Z h H locs ls hI hN hS hl
    unfold fL_areParts_217 at h
    refine lv_istore_n (lv' := [(3, .int t0), (0, .ref (ad 0 0)), (1, .int x1), (2, .int x2), (4, .int x4), (5, .int x5)]) hx hb dL_areParts_217 rfl hl (by decide) rfl (fun ls hl => ?_)
    obtain ⟨v20, ev20⟩ : ∃ y : Int32, y = (x5 + (1 : Int32)) := ⟨_, rfl⟩
    have h := bnd_ok h ev20
    refine lv_iinc (v := v20) (lv' := [(5, .int v20), (3, .int t0), (0, .ref (ad 0 0)), (1, .int x1), (2, .int x2), (4, .int x4)]) hx hb dL_areParts_218 hl (k := 5) rfl (by rw [ev20]; rfl) (by decide) rfl (fun ls hl => ?_)
    refine lv_goto (tgt := 133) hx hb dL_areParts_221 (by decide) ?_
    exact hk133 x1 x2 t0 x4 v20 Z h _ _ _ hI hN hS (lv_sub hl [2, 3, 4, 1, 5, 0] rfl)
  have w212 : ∀ (k133 : Int32 → Int32 → Int32 → Int32 → Int32 → CZ → Option (Int32 × CZ)) (hk133 : (∀ (x1 : Int32) (x2 : Int32) (x3 : Int32) (x4 : Int32) (x5 : Int32) (Z : CZ), k133 x1 x2 x3 x4 x5 Z = some (rz, Zz) → cG p l e (headSpec wsL_areParts rmL_areParts).room s m (([.ref (ad 0 0), .int a2] : List Value).toArray) below meth c (MQ below (cQi D G A ad rz Zz) (([.ref (ad 0 0), .int a2] : List Value).toArray) s 0 0 A) D G A ad 0 0 7 Z 133 [(0, .ref (ad 0 0)), (1, .int x1), (2, .int x2), (3, .int x3), (4, .int x4), (5, .int x5)] [])) (x1 : Int32) (x2 : Int32) (x4 : Int32) (x5 : Int32) (Z : CZ), fL_areParts_212 k133 x1 x2 x4 x5 Z = some (rz, Zz) → cG p l e (headSpec wsL_areParts rmL_areParts).room s m (([.ref (ad 0 0), .int a2] : List Value).toArray) below meth c (MQ below (cQi D G A ad rz Zz) (([.ref (ad 0 0), .int a2] : List Value).toArray) s 0 0 A) D G A ad 0 0 7 Z 212 [(0, .ref (ad 0 0)), (1, .int x1), (2, .int x2), (4, .int x4), (5, .int x5)] [] := by
    intro k133 hk133 x1 x2 x4 x5 Z h H locs ls hI hN hS hl
    unfold fL_areParts_212 at h
    refine lv_iconst (v := (1 : Int32)) hx hb dL_areParts_212 (by decide) ?_
    refine lv_goto (tgt := 217) hx hb dL_areParts_213 (by decide) ?_
    exact w217 k133 hk133 x1 x2 x4 x5 (1 : Int32) Z h _ _ _ hI hN hS (lv_sub hl [0, 1, 2, 3, 4] rfl)
  have w224 : ∀ (x3 : Int32) (Z : CZ), fL_areParts_224  x3 Z = some (rz, Zz) → cG p l e (headSpec wsL_areParts rmL_areParts).room s m (([.ref (ad 0 0), .int a2] : List Value).toArray) below meth c (MQ below (cQi D G A ad rz Zz) (([.ref (ad 0 0), .int a2] : List Value).toArray) s 0 0 A) D G A ad 0 0 7 Z 224 [(3, .int x3)] [] := by
    intro  x3 Z h H locs ls hI hN hS hl
    unfold fL_areParts_224 at h
    refine lv_iload_n hx hb dL_areParts_224 rfl (lv_at hl 0 rfl) ?_
    obtain ⟨g17, h⟩ := gd_ok h
    refine W.widen (k := 0) (n := 0) (by decide) (by decide) ?_
    exact W.zret hx hb hr (gbo_ok g17) (cg_endi h hI hK hN hS) (fun z hz => hS.2.2 z hz) dL_areParts_225
  have w133 : ∀ (x1 : Int32) (x2 : Int32) (x3 : Int32) (x4 : Int32) (x5 : Int32) (Z : CZ), lf6 fL_areParts_133 100 x1 x2 x3 x4 x5 Z = some (rz, Zz) → cG p l e (headSpec wsL_areParts rmL_areParts).room s m (([.ref (ad 0 0), .int a2] : List Value).toArray) below meth c (MQ below (cQi D G A ad rz Zz) (([.ref (ad 0 0), .int a2] : List Value).toArray) s 0 0 A) D G A ad 0 0 7 Z 133 [(0, .ref (ad 0 0)), (1, .int x1), (2, .int x2), (3, .int x3), (4, .int x4), (5, .int x5)] [] := by
    refine lf6_ok (P := (fun x1 x2 x3 x4 x5 Z => cG p l e (headSpec wsL_areParts rmL_areParts).room s m (([.ref (ad 0 0), .int a2] : List Value).toArray) below meth c (MQ below (cQi D G A ad rz Zz) (([.ref (ad 0 0), .int a2] : List Value).toArray) s 0 0 A) D G A ad 0 0 7 Z 133 [(0, .ref (ad 0 0)), (1, .int x1), (2, .int x2), (3, .int x3), (4, .int x4), (5, .int x5)] [])) (fun k133 hk133 x1 x2 x3 x4 x5 Z h H locs ls hI hN hS hl => ?_) 100
    unfold fL_areParts_133 at h
    refine lv_iload hx hb dL_areParts_133 (lv_at hl 5 rfl) ?_
    refine lv_aload_n hx hb dL_areParts_135 rfl (lv_at hl 0 rfl) ?_
    refine lv_iload_n hx hb dL_areParts_136 rfl (lv_at hl 1 rfl) ?_
    refine lv_iconst (v := (0 : Int32)) hx hb dL_areParts_137 (by decide) ?_
    obtain ⟨v12, c13, h⟩ := cl1_ok h
    refine lw_calli (va_runV (As := [.int x1, .int (0 : Int32)]) (rest := [.int x5]) ⟨hx, hb, hml, hown, hts⟩ (mX6_ofBand_n l D G A ad Z x1 (0 : Int32) v12  c13) (cwV 2 hts gL_areParts_X6_ofBand rfl rfl rfl (by decide +kernel) ⟨Nat.le_of_ble_eq_true rfl, Nat.le_of_ble_eq_true rfl⟩) (cg_preV hI hK hN rfl rfl (ci := 7) rfl) rfl rfl hl.1 rfl (lv_room (Nat.le_of_ble_eq_true rfl)) dL_areParts_138 ⟨Nat.le_of_ble_eq_true rfl, Nat.le_of_ble_eq_true rfl⟩) hS (fun H locs hI hN hS => ?_)
    refine W.widen (k := 0) (n := 0) (by decide) (by decide) ?_
    refine lv_icmp_ge (tgt := 224) hx hb dL_areParts_141 (by decide) (fun hc => ?_) (fun hc => ?_)
    · have h := ite_t h hc
      exact w224  x3 Z h _ _ _ hI hN hS (lv_sub hl [3] rfl)
    · have h := ite_f h hc
      refine lv_iload_n hx hb dL_areParts_144 rfl (lv_at hl 3 rfl) ?_
      refine lv_if_eq (tgt := 224) hx hb dL_areParts_145 (by decide) (fun hc => ?_) (fun hc => ?_)
      · have h := ite_t h hc
        exact w224  x3 Z h _ _ _ hI hN hS (lv_sub hl [3] rfl)
      · have h := ite_f h hc
        refine lv_aload_n hx hb dL_areParts_148 rfl (lv_at hl 0 rfl) ?_
        refine lv_iload_n hx hb dL_areParts_149 rfl (lv_at hl 1 rfl) ?_
        refine lv_iload hx hb dL_areParts_150 (lv_at hl 5 rfl) ?_
        obtain ⟨v14, Z16, c15, h⟩ := cl2_ok h
        refine lw_calli (va_runV (As := [.int x1, .int x5]) (rest := []) ⟨hx, hb, hml, hown, hts⟩ (mX6_without_n l D G A ad Z x1 x5 v14 Z16 c15) (cwV 2 hts gL_areParts_X6_without rfl rfl rfl (by decide +kernel) ⟨Nat.le_of_ble_eq_true rfl, Nat.le_of_ble_eq_true rfl⟩) (cg_preV hI hK hN rfl rfl (ci := 7) rfl) rfl rfl hl.1 rfl (lv_room (Nat.le_of_ble_eq_true rfl)) dL_areParts_152 ⟨Nat.le_of_ble_eq_true rfl, Nat.le_of_ble_eq_true rfl⟩) hS (fun H locs hI hN hS => ?_)
        refine W.widen (k := 0) (n := 0) (by decide) (by decide) ?_
        refine lv_istore (lv' := [(6, .int v14), (0, .ref (ad 0 0)), (1, .int x1), (2, .int x2), (3, .int x3), (4, .int x4), (5, .int x5)]) hx hb dL_areParts_155 hl (by decide) rfl (fun ls hl => ?_)
        refine lv_iload_n hx hb dL_areParts_157 rfl (lv_at hl 3 rfl) ?_
        refine lv_iconst (v := (-1 : Int32)) hx hb dL_areParts_158 (by decide) ?_
        refine lv_icmp_ne (tgt := 176) hx hb dL_areParts_159 (by decide) (fun hc => ?_) (fun hc => ?_)
        · have h := ite_f h hc
          refine lv_iload hx hb dL_areParts_176 (lv_at hl 5 rfl) ?_
          refine lv_iload hx hb dL_areParts_178 (lv_at hl 6 rfl) ?_
          refine lv_ishr hx hb dL_areParts_180 ?_
          refine lv_iconst (v := (1 : Int32)) hx hb dL_areParts_181 (by decide) ?_
          refine lv_iand hx hb dL_areParts_182 ?_
          refine lv_if_ne (tgt := 200) hx hb dL_areParts_183 (by decide) (fun hc => ?_) (fun hc => ?_)
          · have h := ite_f h hc
            refine lv_iload hx hb dL_areParts_200 (lv_at hl 0 rfl) ?_
            refine lv_iconst (v := (-1 : Int32)) hx hb dL_areParts_202 (by decide) ?_
            refine lv_icmp_eq (tgt := 212) hx hb dL_areParts_203 (by decide) (fun hc => ?_) (fun hc => ?_)
            · have h := ite_t h hc
              exact w212 k133 hk133 x1 x2 x4 x5 Z16 h _ _ _ hI hN hS (lv_sub hl [1, 2, 3, 5, 6] rfl)
            · have h := ite_f h hc
              refine lv_iload hx hb dL_areParts_206 (lv_at hl 0 rfl) ?_
              refine lv_iload_n hx hb dL_areParts_208 rfl (lv_at hl 3 rfl) ?_
              refine lv_icmp_lt (tgt := 216) hx hb dL_areParts_209 (by decide) (fun hc => ?_) (fun hc => ?_)
              · have h := ite_t h hc
                refine lv_iconst (v := (0 : Int32)) hx hb dL_areParts_216 (by decide) ?_
                exact w217 k133 hk133 x1 x2 x4 x5 (0 : Int32) Z16 h _ _ _ hI hN hS (lv_sub hl [1, 2, 3, 5, 6] rfl)
              · have h := ite_f h hc
                exact w212 k133 hk133 x1 x2 x4 x5 Z16 h _ _ _ hI hN hS (lv_sub hl [1, 2, 3, 5, 6] rfl)
          · have h := ite_t h hc
            refine lv_iload hx hb dL_areParts_186 (lv_at hl 0 rfl) ?_
            refine lv_iload_n hx hb dL_areParts_188 rfl (lv_at hl 3 rfl) ?_
            refine lv_icmp_ne (tgt := 196) hx hb dL_areParts_189 (by decide) (fun hc => ?_) (fun hc => ?_)
            · have h := ite_f h hc
              refine lv_iconst (v := (0 : Int32)) hx hb dL_areParts_196 (by decide) ?_
              refine lv_goto (tgt := 217) hx hb dL_areParts_197 (by decide) ?_
              exact w217 k133 hk133 x1 x2 x4 x5 (0 : Int32) Z16 h _ _ _ hI hN hS (lv_sub hl [1, 2, 3, 5, 6] rfl)
            · have h := ite_t h hc
              refine lv_iconst (v := (1 : Int32)) hx hb dL_areParts_192 (by decide) ?_
              refine lv_goto (tgt := 217) hx hb dL_areParts_193 (by decide) ?_
              exact w217 k133 hk133 x1 x2 x4 x5 (1 : Int32) Z16 h _ _ _ hI hN hS (lv_sub hl [1, 2, 3, 5, 6] rfl)
        · have h := ite_t h hc
          refine lv_iload hx hb dL_areParts_162 (lv_at hl 0 rfl) ?_
          refine lv_iconst (v := (-1 : Int32)) hx hb dL_areParts_164 (by decide) ?_
          refine lv_icmp_ne (tgt := 172) hx hb dL_areParts_165 (by decide) (fun hc => ?_) (fun hc => ?_)
          · have h := ite_f h hc
            refine lv_iconst (v := (0 : Int32)) hx hb dL_areParts_172 (by decide) ?_
            refine lv_goto (tgt := 217) hx hb dL_areParts_173 (by decide) ?_
            exact w217 k133 hk133 x1 x2 x4 x5 (0 : Int32) Z16 h _ _ _ hI hN hS (lv_sub hl [1, 2, 3, 5, 6] rfl)
          · have h := ite_t h hc
            refine lv_iconst (v := (1 : Int32)) hx hb dL_areParts_168 (by decide) ?_
            refine lv_goto (tgt := 217) hx hb dL_areParts_169 (by decide) ?_
            exact w217 k133 hk133 x1 x2 x4 x5 (1 : Int32) Z16 h _ _ _ hI hN hS (lv_sub hl [1, 2, 3, 5, 6] rfl)
  have w130 : ∀ (x1 : Int32) (x2 : Int32) (x3 : Int32) (x4 : Int32) (Z : CZ), fL_areParts_130  x1 x2 x3 x4 Z = some (rz, Zz) → cG p l e (headSpec wsL_areParts rmL_areParts).room s m (([.ref (ad 0 0), .int a2] : List Value).toArray) below meth c (MQ below (cQi D G A ad rz Zz) (([.ref (ad 0 0), .int a2] : List Value).toArray) s 0 0 A) D G A ad 0 0 7 Z 130 [(0, .ref (ad 0 0)), (1, .int x1), (2, .int x2), (3, .int x3), (4, .int x4)] [] := by
    intro  x1 x2 x3 x4 Z h H locs ls hI hN hS hl
    unfold fL_areParts_130 at h
    refine lv_iconst (v := (0 : Int32)) hx hb dL_areParts_130 (by decide) ?_
    refine lv_istore (lv' := [(5, .int (0 : Int32)), (0, .ref (ad 0 0)), (1, .int x1), (2, .int x2), (3, .int x3), (4, .int x4)]) hx hb dL_areParts_131 hl (by decide) rfl (fun ls hl => ?_)
    exact w133  x1 x2 x3 x4 (0 : Int32) Z h _ _ _ hI hN hS (lv_sub hl [1, 2, 3, 4, 5, 0] rfl)
  have w32 : ∀ (x1 : Int32) (x2 : Int32) (x3 : Int32) (x4 : Int32) (x5 : Int32) (Z : CZ), lf6 fL_areParts_32 100 x1 x2 x3 x4 x5 Z = some (rz, Zz) → cG p l e (headSpec wsL_areParts rmL_areParts).room s m (([.ref (ad 0 0), .int a2] : List Value).toArray) below meth c (MQ below (cQi D G A ad rz Zz) (([.ref (ad 0 0), .int a2] : List Value).toArray) s 0 0 A) D G A ad 0 0 7 Z 32 [(0, .ref (ad 0 0)), (1, .int x1), (2, .int x2), (3, .int x3), (4, .int x4), (5, .int x5)] [] := by
    refine lf6_ok (P := (fun x1 x2 x3 x4 x5 Z => cG p l e (headSpec wsL_areParts rmL_areParts).room s m (([.ref (ad 0 0), .int a2] : List Value).toArray) below meth c (MQ below (cQi D G A ad rz Zz) (([.ref (ad 0 0), .int a2] : List Value).toArray) s 0 0 A) D G A ad 0 0 7 Z 32 [(0, .ref (ad 0 0)), (1, .int x1), (2, .int x2), (3, .int x3), (4, .int x4), (5, .int x5)] [])) (fun k32 hk32 x1 x2 x3 x4 x5 Z h H locs ls hI hN hS hl => ?_) 100
    unfold fL_areParts_32 at h
    refine lv_iload hx hb dL_areParts_32 (lv_at hl 5 rfl) ?_
    refine lv_aload_n hx hb dL_areParts_34 rfl (lv_at hl 0 rfl) ?_
    refine lv_iload_n hx hb dL_areParts_35 rfl (lv_at hl 1 rfl) ?_
    refine lv_iconst (v := (2 : Int32)) hx hb dL_areParts_36 (by decide) ?_
    obtain ⟨v6, c7, h⟩ := cl1_ok h
    refine lw_calli (va_runV (As := [.int x1, .int (2 : Int32)]) (rest := [.int x5]) ⟨hx, hb, hml, hown, hts⟩ (mX6_ofBand_n l D G A ad Z x1 (2 : Int32) v6  c7) (cwV 2 hts gL_areParts_X6_ofBand rfl rfl rfl (by decide +kernel) ⟨Nat.le_of_ble_eq_true rfl, Nat.le_of_ble_eq_true rfl⟩) (cg_preV hI hK hN rfl rfl (ci := 7) rfl) rfl rfl hl.1 rfl (lv_room (Nat.le_of_ble_eq_true rfl)) dL_areParts_37 ⟨Nat.le_of_ble_eq_true rfl, Nat.le_of_ble_eq_true rfl⟩) hS (fun H locs hI hN hS => ?_)
    refine W.widen (k := 0) (n := 0) (by decide) (by decide) ?_
    refine lv_icmp_ge (tgt := 130) hx hb dL_areParts_40 (by decide) (fun hc => ?_) (fun hc => ?_)
    · have h := ite_t h hc
      exact w130  x1 x2 x3 x4 Z h _ _ _ hI hN hS (lv_sub hl [0, 1, 2, 3, 4] rfl)
    · have h := ite_f h hc
      refine lv_iload_n hx hb dL_areParts_43 rfl (lv_at hl 3 rfl) ?_
      refine lv_if_eq (tgt := 130) hx hb dL_areParts_44 (by decide) (fun hc => ?_) (fun hc => ?_)
      · have h := ite_t h hc
        exact w130  x1 x2 x3 x4 Z h _ _ _ hI hN hS (lv_sub hl [0, 1, 2, 3, 4] rfl)
      · have h := ite_f h hc
        refine lv_aload_n hx hb dL_areParts_47 rfl (lv_at hl 0 rfl) ?_
        refine lv_iload_n hx hb dL_areParts_48 rfl (lv_at hl 1 rfl) ?_
        refine lv_iload hx hb dL_areParts_49 (lv_at hl 5 rfl) ?_
        obtain ⟨v8, Z10, c9, h⟩ := cl2_ok h
        refine lw_calli (va_runV (As := [.int x1, .int x5]) (rest := []) ⟨hx, hb, hml, hown, hts⟩ (mX6_part_n l D G A ad Z x1 x5 v8 Z10 c9) (cwV 2 hts gL_areParts_X6_part rfl rfl rfl (by decide +kernel) ⟨Nat.le_of_ble_eq_true rfl, Nat.le_of_ble_eq_true rfl⟩) (cg_preV hI hK hN rfl rfl (ci := 7) rfl) rfl rfl hl.1 rfl (lv_room (Nat.le_of_ble_eq_true rfl)) dL_areParts_51 ⟨Nat.le_of_ble_eq_true rfl, Nat.le_of_ble_eq_true rfl⟩) hS (fun H locs hI hN hS => ?_)
        refine W.widen (k := 0) (n := 0) (by decide) (by decide) ?_
        refine lv_istore (lv' := [(6, .int v8), (0, .ref (ad 0 0)), (1, .int x1), (2, .int x2), (3, .int x3), (4, .int x4), (5, .int x5)]) hx hb dL_areParts_54 hl (by decide) rfl (fun ls hl => ?_)
        refine lv_iload hx hb dL_areParts_56 (lv_at hl 5 rfl) ?_
        refine lv_iload hx hb dL_areParts_58 (lv_at hl 0 rfl) ?_
        refine lv_iconst (v := (-1 : Int32)) hx hb dL_areParts_60 (by decide) ?_
        refine lv_icmp_ne (tgt := 68) hx hb dL_areParts_61 (by decide) (fun hc => ?_) (fun hc => ?_)
        · have h := ite_f h hc
          refine lv_iconst (v := (1 : Int32)) hx hb dL_areParts_68 (by decide) ?_
          refine lv_iload hx hb dL_areParts_69 (lv_at hl 0 rfl) ?_
          refine lv_ishl hx hb dL_areParts_71 ?_
          exact w72 k32 hk32 x1 x2 x5 v8 ((1 : Int32) <<< (v8 &&& 31)) x4 Z10 h _ _ _ hI hN hS (lv_sub hl [1, 2, 3, 6, 0] rfl)
        · have h := ite_t h hc
          refine lv_iconst (v := (0 : Int32)) hx hb dL_areParts_64 (by decide) ?_
          refine lv_goto (tgt := 72) hx hb dL_areParts_65 (by decide) ?_
          exact w72 k32 hk32 x1 x2 x5 v8 (0 : Int32) x4 Z10 h _ _ _ hI hN hS (lv_sub hl [1, 2, 3, 6, 0] rfl)
  have w25 : ∀ (x1 : Int32) (x2 : Int32) (t0 : Int32) (Z : CZ), fL_areParts_25  x1 x2 t0 Z = some (rz, Zz) → cG p l e (headSpec wsL_areParts rmL_areParts).room s m (([.ref (ad 0 0), .int a2] : List Value).toArray) below meth c (MQ below (cQi D G A ad rz Zz) (([.ref (ad 0 0), .int a2] : List Value).toArray) s 0 0 A) D G A ad 0 0 7 Z 25 [(0, .ref (ad 0 0)), (1, .int x1), (2, .int x2)] [.int t0] := by
    intro  x1 x2 t0 Z h H locs ls hI hN hS hl
    unfold fL_areParts_25 at h
    refine lv_istore_n (lv' := [(3, .int t0), (0, .ref (ad 0 0)), (1, .int x1), (2, .int x2)]) hx hb dL_areParts_25 rfl hl (by decide) rfl (fun ls hl => ?_)
    refine lv_iconst (v := (0 : Int32)) hx hb dL_areParts_26 (by decide) ?_
    refine lv_istore (lv' := [(4, .int (0 : Int32)), (3, .int t0), (0, .ref (ad 0 0)), (1, .int x1), (2, .int x2)]) hx hb dL_areParts_27 hl (by decide) rfl (fun ls hl => ?_)
    refine lv_iconst (v := (0 : Int32)) hx hb dL_areParts_29 (by decide) ?_
    refine lv_istore (lv' := [(5, .int (0 : Int32)), (4, .int (0 : Int32)), (3, .int t0), (0, .ref (ad 0 0)), (1, .int x1), (2, .int x2)]) hx hb dL_areParts_30 hl (by decide) rfl (fun ls hl => ?_)
    exact w32  x1 x2 t0 (0 : Int32) (0 : Int32) Z h _ _ _ hI hN hS (lv_sub hl [3, 4, 5, 2, 1, 0] rfl)
  have w20 : ∀ (x1 : Int32) (x2 : Int32) (Z : CZ), fL_areParts_20  x1 x2 Z = some (rz, Zz) → cG p l e (headSpec wsL_areParts rmL_areParts).room s m (([.ref (ad 0 0), .int a2] : List Value).toArray) below meth c (MQ below (cQi D G A ad rz Zz) (([.ref (ad 0 0), .int a2] : List Value).toArray) s 0 0 A) D G A ad 0 0 7 Z 20 [(0, .ref (ad 0 0)), (1, .int x1), (2, .int x2)] [] := by
    intro  x1 x2 Z h H locs ls hI hN hS hl
    unfold fL_areParts_20 at h
    refine lv_iconst (v := (1 : Int32)) hx hb dL_areParts_20 (by decide) ?_
    refine lv_goto (tgt := 25) hx hb dL_areParts_21 (by decide) ?_
    exact w25  x1 x2 (1 : Int32) Z h _ _ _ hI hN hS (lv_sub hl [0, 1, 2] rfl)
  unfold fL_areParts at h
  refine lv_aload_n hx hb dL_areParts_0 rfl (lv_at hl 0 rfl) ?_
  refine lv_iload_n hx hb dL_areParts_1 rfl (lv_at hl 1 rfl) ?_
  obtain ⟨v1, Z3, c2, h⟩ := cl2_ok h
  refine lw_calli (va_runV (As := [.int a2]) (rest := []) ⟨hx, hb, hml, hown, hts⟩ (mX6_leaps_n l D G A ad Z a2 v1 Z3 c2) (cwV 1 hts gL_areParts_X6_leaps rfl rfl rfl (by decide +kernel) ⟨Nat.le_of_ble_eq_true rfl, Nat.le_of_ble_eq_true rfl⟩) (cg_preV hI hK hN rfl rfl (ci := 7) rfl) rfl rfl hl.1 rfl (lv_room (Nat.le_of_ble_eq_true rfl)) dL_areParts_2 ⟨Nat.le_of_ble_eq_true rfl, Nat.le_of_ble_eq_true rfl⟩) hS (fun H locs hI hN hS => ?_)
  refine W.widen (k := 0) (n := 0) (by decide) (by decide) ?_
  refine lv_istore_n (lv' := [(2, .int v1), (0, .ref (ad 0 0)), (1, .int a2)]) hx hb dL_areParts_5 rfl hl (by decide) rfl (fun ls hl => ?_)
  refine lv_iload_n hx hb dL_areParts_6 rfl (lv_at hl 0 rfl) ?_
  refine lv_iconst (v := (-1 : Int32)) hx hb dL_areParts_7 (by decide) ?_
  refine lv_icmp_eq (tgt := 20) hx hb dL_areParts_8 (by decide) (fun hc => ?_) (fun hc => ?_)
  · have h := ite_t h hc
    exact w20  a2 v1 Z3 h _ _ _ hI hN hS (lv_sub hl [1, 2, 0] rfl)
  · have h := ite_f h hc
    refine lv_aload_n hx hb dL_areParts_11 rfl (lv_at hl 1 rfl) ?_
    refine lv_iload_n hx hb dL_areParts_12 rfl (lv_at hl 2 rfl) ?_
    refine lv_iconst (v := (2 : Int32)) hx hb dL_areParts_13 (by decide) ?_
    obtain ⟨v4, c5, h⟩ := cl1_ok h
    refine lw_calli (va_runV (As := [.int a2, .int (2 : Int32)]) (rest := []) ⟨hx, hb, hml, hown, hts⟩ (mX6_ofBand_n l D G A ad Z3 a2 (2 : Int32) v4  c5) (cwV 2 hts gL_areParts_X6_ofBand rfl rfl rfl (by decide +kernel) ⟨Nat.le_of_ble_eq_true rfl, Nat.le_of_ble_eq_true rfl⟩) (cg_preV hI hK hN rfl rfl (ci := 7) rfl) rfl rfl hl.1 rfl (lv_room (Nat.le_of_ble_eq_true rfl)) dL_areParts_14 ⟨Nat.le_of_ble_eq_true rfl, Nat.le_of_ble_eq_true rfl⟩) hS (fun H locs hI hN hS => ?_)
    refine W.widen (k := 0) (n := 0) (by decide) (by decide) ?_
    refine lv_if_le (tgt := 24) hx hb dL_areParts_17 (by decide) (fun hc => ?_) (fun hc => ?_)
    · have h := ite_t h hc
      refine lv_iconst (v := (0 : Int32)) hx hb dL_areParts_24 (by decide) ?_
      exact w25  a2 v1 (0 : Int32) Z3 h _ _ _ hI hN hS (lv_sub hl [1, 2, 0] rfl)
    · have h := ite_f h hc
      exact w20  a2 v1 Z3 h _ _ _ hI hN hS (lv_sub hl [1, 2, 0] rfl)
def fL_hasPerformed_57 (t0 : Int32) (Z : CZ) : Option (Int32 × CZ) := gd (gbo t0) (some (t0, Z))
def fL_hasPerformed_56 (Z : CZ) : Option (Int32 × CZ) := fL_hasPerformed_57 (0 : Int32) Z
def fL_hasPerformed_42 (x1 : Int32) (x3 : Int32) (Z : CZ) : Option (Int32 × CZ) := cl1 (fX6_ofBand_n x1 (3 : Int32) Z) (fun v14 => (if v14 = x3 then fL_hasPerformed_57 (1 : Int32) Z else fL_hasPerformed_56 Z))
def fL_hasPerformed_110 (t0 : Int32) (Z : CZ) : Option (Int32 × CZ) := gd (gbo t0) (some (t0, Z))
def fL_hasPerformed_109 (Z : CZ) : Option (Int32 × CZ) := fL_hasPerformed_110 (0 : Int32) Z
def fL_hasPerformed (a2 : Int32) (a3 : Int32) (Z : CZ) : Option (Int32 × CZ) := cl1 (fX6_ofBand_n a2 (3 : Int32) Z) (fun v1 => cl2 (fX6_leaps_n a2 Z) (fun v3 Z5 => cl2 (fL_acts4 a2 a3 Z5) (fun v6 Z8 => (if v6 = (-200 : Int32) then (if v1 = (-1 : Int32) then (if v3 = (-1 : Int32) then fL_hasPerformed_42 a2 v1 Z8 else fL_hasPerformed_56 Z8) else fL_hasPerformed_42 a2 v1 Z8) else (if v1 = (-1 : Int32) then (if v6 < v3 then fL_hasPerformed_109 Z8 else (if (irm (v6 - v3) (10 : Int32)) = 0 then cl1 (fX6_ofBand_n a2 (3 : Int32) Z8) (fun v9 => (if v9 = v6 then cl2 (fL_acts4 a2 a3 Z8) (fun v11 Z13 => (if v11 = (-200 : Int32) then fL_hasPerformed_110 (1 : Int32) Z13 else fL_hasPerformed_109 Z13)) else fL_hasPerformed_109 Z8)) else fL_hasPerformed_109 Z8)) else fL_hasPerformed_109 Z8)))))
def rmL_hasPerformed : Room := { frames := 10, cells := 8, slots := 48, locals := 228 }
set_option maxHeartbeats 8000000 in
set_option maxRecDepth 100000 in
theorem mL_hasPerformed (l : Launch) (hfl : l.stackTraces = false) (D : va_G) (G : CGT) (A : Nat → Prop) (ad : Nat → Nat → Nat) (Z : CZ) (a2 : Int32) (a3 : Int32) (rz : Int32) (Zz : CZ) (h : fL_hasPerformed a2 a3 Z = some (rz, Zz)) : Met l yL_hasPerformed wsL_hasPerformed rmL_hasPerformed (va_Pc [.ref (ad 0 0), .int a2, .int a3] (xP D G A ad Z)) (cQi D G A ad rz Zz) 8 48 A := by
  refine Met.ofW (cc := cL_hasPerformed) (maxL := 6) (ret := some .boolean) (by decide) rfl ?_
  intro p e s m args below meth c s₁ B hml hv
  obtain ⟨rfl, ⟨hI, hN, hK⟩, hE⟩ := hv
  have hx := B.exec
  have hb := B.bytes
  have hr := B.returns
  have hts := atoms_spec (ws := wsL_hasPerformed) B.pre
  have hown : s.vm.findClass RL = some m.cls := findClass_of_methodNamed B.named
  have hlocks := B.notSynchronized
  have hS : va_S A s.heap s.heap [] := va_S.rf
  have hl := lv_entry ([.ref (ad 0 0), .int a2, .int a3]) (n := 6) (Nat.le_of_ble_eq_true rfl)
  rw [lg_entry_eq]
  generalize (lg_sl ([.ref (ad 0 0), .int a2, .int a3]) ++ List.replicate (6 - (lg_sl ([.ref (ad 0 0), .int a2, .int a3])).length) Slot.unset).toArray = ls at hl ⊢
  have hl : lv_has ls 6 [(0, .ref (ad 0 0)), (1, .int a2), (2, .int a3)] := hl
  have w57 : ∀ (t0 : Int32) (Z : CZ), fL_hasPerformed_57  t0 Z = some (rz, Zz) → cG p l e (headSpec wsL_hasPerformed rmL_hasPerformed).room s m (([.ref (ad 0 0), .int a2, .int a3] : List Value).toArray) below meth c (MQ below (cQi D G A ad rz Zz) (([.ref (ad 0 0), .int a2, .int a3] : List Value).toArray) s 8 48 A) D G A ad 4 24 6 Z 57 [] [.int t0] := by
    intro  t0 Z h H locs ls hI hN hS hl
    unfold fL_hasPerformed_57 at h
    obtain ⟨g17, h⟩ := gd_ok h
    refine W.widen (k := 8) (n := 48) (by decide) (by decide) ?_
    exact W.zret hx hb hr (gbo_ok g17) (cg_endi h hI hK hN hS) (fun z hz => hS.2.2 z hz) dL_hasPerformed_57
  have w56 : ∀ (Z : CZ), fL_hasPerformed_56  Z = some (rz, Zz) → cG p l e (headSpec wsL_hasPerformed rmL_hasPerformed).room s m (([.ref (ad 0 0), .int a2, .int a3] : List Value).toArray) below meth c (MQ below (cQi D G A ad rz Zz) (([.ref (ad 0 0), .int a2, .int a3] : List Value).toArray) s 8 48 A) D G A ad 4 24 6 Z 56 [] [] := by
    intro  Z h H locs ls hI hN hS hl
    unfold fL_hasPerformed_56 at h
    refine lv_iconst (v := (0 : Int32)) hx hb dL_hasPerformed_56 (by decide) ?_
    exact w57  (0 : Int32) Z h _ _ _ hI hN hS (lv_sub hl [] rfl)
  have w42 : ∀ (x1 : Int32) (x3 : Int32) (Z : CZ), fL_hasPerformed_42  x1 x3 Z = some (rz, Zz) → cG p l e (headSpec wsL_hasPerformed rmL_hasPerformed).room s m (([.ref (ad 0 0), .int a2, .int a3] : List Value).toArray) below meth c (MQ below (cQi D G A ad rz Zz) (([.ref (ad 0 0), .int a2, .int a3] : List Value).toArray) s 8 48 A) D G A ad 4 24 6 Z 42 [(0, .ref (ad 0 0)), (1, .int x1), (3, .int x3)] [] := by
    intro  x1 x3 Z h H locs ls hI hN hS hl
    unfold fL_hasPerformed_42 at h
    refine lv_aload_n hx hb dL_hasPerformed_42 rfl (lv_at hl 0 rfl) ?_
    refine lv_iload_n hx hb dL_hasPerformed_43 rfl (lv_at hl 1 rfl) ?_
    refine lv_iconst (v := (3 : Int32)) hx hb dL_hasPerformed_44 (by decide) ?_
    obtain ⟨v14, c15, h⟩ := cl1_ok h
    refine lw_calli (va_runV (As := [.int x1, .int (3 : Int32)]) (rest := []) ⟨hx, hb, hml, hown, hts⟩ (mX6_ofBand_n l D G A ad Z x1 (3 : Int32) v14  c15) (cwV 2 hts gL_hasPerformed_X6_ofBand rfl rfl rfl (by decide +kernel) ⟨Nat.le_of_ble_eq_true rfl, Nat.le_of_ble_eq_true rfl⟩) (cg_preV hI hK hN rfl rfl (ci := 7) rfl) rfl rfl hl.1 rfl (lv_room (Nat.le_of_ble_eq_true rfl)) dL_hasPerformed_45 ⟨Nat.le_of_ble_eq_true rfl, Nat.le_of_ble_eq_true rfl⟩) hS (fun H locs hI hN hS => ?_)
    refine W.widen (k := 4) (n := 24) (by decide) (by decide) ?_
    refine lv_iload_n hx hb dL_hasPerformed_48 rfl (lv_at hl 2 rfl) ?_
    refine lv_icmp_ne (tgt := 56) hx hb dL_hasPerformed_49 (by decide) (fun hc => ?_) (fun hc => ?_)
    · have h := ite_f h hc
      exact w56  Z h _ _ _ hI hN hS (lv_sub hl [] rfl)
    · have h := ite_t h hc
      refine lv_iconst (v := (1 : Int32)) hx hb dL_hasPerformed_52 (by decide) ?_
      refine lv_goto (tgt := 57) hx hb dL_hasPerformed_53 (by decide) ?_
      exact w57  (1 : Int32) Z h _ _ _ hI hN hS (lv_sub hl [] rfl)
  have w110 : ∀ (t0 : Int32) (Z : CZ), fL_hasPerformed_110  t0 Z = some (rz, Zz) → cG p l e (headSpec wsL_hasPerformed rmL_hasPerformed).room s m (([.ref (ad 0 0), .int a2, .int a3] : List Value).toArray) below meth c (MQ below (cQi D G A ad rz Zz) (([.ref (ad 0 0), .int a2, .int a3] : List Value).toArray) s 8 48 A) D G A ad 8 48 6 Z 110 [] [.int t0] := by
    intro  t0 Z h H locs ls hI hN hS hl
    unfold fL_hasPerformed_110 at h
    obtain ⟨g16, h⟩ := gd_ok h
    refine W.widen (k := 8) (n := 48) (by decide) (by decide) ?_
    exact W.zret hx hb hr (gbo_ok g16) (cg_endi h hI hK hN hS) (fun z hz => hS.2.2 z hz) dL_hasPerformed_110
  have w109 : ∀ (Z : CZ), fL_hasPerformed_109  Z = some (rz, Zz) → cG p l e (headSpec wsL_hasPerformed rmL_hasPerformed).room s m (([.ref (ad 0 0), .int a2, .int a3] : List Value).toArray) below meth c (MQ below (cQi D G A ad rz Zz) (([.ref (ad 0 0), .int a2, .int a3] : List Value).toArray) s 8 48 A) D G A ad 8 48 6 Z 109 [] [] := by
    intro  Z h H locs ls hI hN hS hl
    unfold fL_hasPerformed_109 at h
    refine lv_iconst (v := (0 : Int32)) hx hb dL_hasPerformed_109 (by decide) ?_
    exact w110  (0 : Int32) Z h _ _ _ hI hN hS (lv_sub hl [] rfl)
  unfold fL_hasPerformed at h
  refine lv_aload_n hx hb dL_hasPerformed_0 rfl (lv_at hl 0 rfl) ?_
  refine lv_iload_n hx hb dL_hasPerformed_1 rfl (lv_at hl 1 rfl) ?_
  refine lv_iconst (v := (3 : Int32)) hx hb dL_hasPerformed_2 (by decide) ?_
  obtain ⟨v1, c2, h⟩ := cl1_ok h
  refine lw_calli (va_runV (As := [.int a2, .int (3 : Int32)]) (rest := []) ⟨hx, hb, hml, hown, hts⟩ (mX6_ofBand_n l D G A ad Z a2 (3 : Int32) v1  c2) (cwV 2 hts gL_hasPerformed_X6_ofBand rfl rfl rfl (by decide +kernel) ⟨Nat.le_of_ble_eq_true rfl, Nat.le_of_ble_eq_true rfl⟩) (cg_preV hI hK hN rfl rfl (ci := 7) rfl) rfl rfl hl.1 rfl (lv_room (Nat.le_of_ble_eq_true rfl)) dL_hasPerformed_3 ⟨Nat.le_of_ble_eq_true rfl, Nat.le_of_ble_eq_true rfl⟩) hS (fun H locs hI hN hS => ?_)
  refine W.widen (k := 0) (n := 0) (by decide) (by decide) ?_
  refine lv_istore_n (lv' := [(3, .int v1), (0, .ref (ad 0 0)), (1, .int a2), (2, .int a3)]) hx hb dL_hasPerformed_6 rfl hl (by decide) rfl (fun ls hl => ?_)
  refine lv_aload_n hx hb dL_hasPerformed_7 rfl (lv_at hl 1 rfl) ?_
  refine lv_iload_n hx hb dL_hasPerformed_8 rfl (lv_at hl 2 rfl) ?_
  obtain ⟨v3, Z5, c4, h⟩ := cl2_ok h
  refine lw_calli (va_runV (As := [.int a2]) (rest := []) ⟨hx, hb, hml, hown, hts⟩ (mX6_leaps_n l D G A ad Z a2 v3 Z5 c4) (cwV 1 hts gL_hasPerformed_X6_leaps rfl rfl rfl (by decide +kernel) ⟨Nat.le_of_ble_eq_true rfl, Nat.le_of_ble_eq_true rfl⟩) (cg_preV hI hK hN rfl rfl (ci := 7) rfl) rfl rfl hl.1 rfl (lv_room (Nat.le_of_ble_eq_true rfl)) dL_hasPerformed_9 ⟨Nat.le_of_ble_eq_true rfl, Nat.le_of_ble_eq_true rfl⟩) hS (fun H locs hI hN hS => ?_)
  refine W.widen (k := 0) (n := 0) (by decide) (by decide) ?_
  refine lv_istore (lv' := [(4, .int v3), (3, .int v1), (0, .ref (ad 0 0)), (1, .int a2), (2, .int a3)]) hx hb dL_hasPerformed_12 hl (by decide) rfl (fun ls hl => ?_)
  refine lv_aload_n hx hb dL_hasPerformed_14 rfl (lv_at hl 2 rfl) ?_
  refine lv_iload_n hx hb dL_hasPerformed_15 rfl (lv_at hl 3 rfl) ?_
  refine lv_iload_n hx hb dL_hasPerformed_16 rfl (lv_at hl 4 rfl) ?_
  refine lv_iconst (v := (4 : Int32)) hx hb dL_hasPerformed_17 (by decide) ?_
  obtain ⟨v6, Z8, c7, h⟩ := cl2_ok h
  refine lw_callx (vx_runSX (As := [.ref (ad 0 0), .int a2, .int a3, .int (4 : Int32)]) (rest := []) ⟨hx, hb, hml, hown, hts⟩ (mL_acts4 l hfl D G A ad Z5 a2 a3 v6 Z8 c7) (vx_cwSW 4 hts gL_hasPerformed_L_acts rfl rfl rfl (by decide +kernel) ⟨Nat.le_of_ble_eq_true rfl, Nat.le_of_ble_eq_true rfl⟩) (sg_preS hI hK hN hE hS (fun _ h => h)) rfl rfl hl.1 rfl (lv_room (Nat.le_of_ble_eq_true rfl)) dL_hasPerformed_18 ⟨Nat.le_of_ble_eq_true rfl, Nat.le_of_ble_eq_true rfl⟩) hS (fun H locs hI hN hS => ?_)
  refine W.widen (k := 4) (n := 24) (by decide) (by decide) ?_
  refine lv_istore (lv' := [(5, .int v6), (4, .int v3), (3, .int v1), (0, .ref (ad 0 0)), (1, .int a2), (2, .int a3)]) hx hb dL_hasPerformed_21 hl (by decide) rfl (fun ls hl => ?_)
  refine lv_iload hx hb dL_hasPerformed_23 (lv_at hl 0 rfl) ?_
  refine lv_sipush (v := (-200 : Int32)) hx hb dL_hasPerformed_25 (by decide) ?_
  refine lv_icmp_ne (tgt := 58) hx hb dL_hasPerformed_28 (by decide) (fun hc => ?_) (fun hc => ?_)
  · have h := ite_f h hc
    refine lv_iload_n hx hb dL_hasPerformed_58 rfl (lv_at hl 2 rfl) ?_
    refine lv_iconst (v := (-1 : Int32)) hx hb dL_hasPerformed_59 (by decide) ?_
    refine lv_icmp_ne (tgt := 109) hx hb dL_hasPerformed_60 (by decide) (fun hc => ?_) (fun hc => ?_)
    · have h := ite_f h hc
      refine W.widen (k := 8) (n := 48) (by decide) (by decide) ?_
      exact w109  Z8 h _ _ _ hI hN hS (lv_sub hl [] rfl)
    · have h := ite_t h hc
      refine lv_iload hx hb dL_hasPerformed_63 (lv_at hl 0 rfl) ?_
      refine lv_iload hx hb dL_hasPerformed_65 (lv_at hl 1 rfl) ?_
      refine lv_icmp_lt (tgt := 109) hx hb dL_hasPerformed_67 (by decide) (fun hc => ?_) (fun hc => ?_)
      · have h := ite_t h hc
        refine W.widen (k := 8) (n := 48) (by decide) (by decide) ?_
        exact w109  Z8 h _ _ _ hI hN hS (lv_sub hl [] rfl)
      · have h := ite_f h hc
        refine lv_iload hx hb dL_hasPerformed_70 (lv_at hl 0 rfl) ?_
        refine lv_iload hx hb dL_hasPerformed_72 (lv_at hl 1 rfl) ?_
        refine lv_isub hx hb dL_hasPerformed_74 ?_
        refine lv_bipush (v := (10 : Int32)) hx hb dL_hasPerformed_75 (by decide) ?_
        refine lv_irm hx hb dL_hasPerformed_77 (by decide) ?_
        refine lv_if_ne (tgt := 109) hx hb dL_hasPerformed_78 (by decide) (fun hc => ?_) (fun hc => ?_)
        · have h := ite_f h hc
          refine W.widen (k := 8) (n := 48) (by decide) (by decide) ?_
          exact w109  Z8 h _ _ _ hI hN hS (lv_sub hl [] rfl)
        · have h := ite_t h hc
          refine lv_aload_n hx hb dL_hasPerformed_81 rfl (lv_at hl 3 rfl) ?_
          refine lv_iload_n hx hb dL_hasPerformed_82 rfl (lv_at hl 4 rfl) ?_
          refine lv_iconst (v := (3 : Int32)) hx hb dL_hasPerformed_83 (by decide) ?_
          obtain ⟨v9, c10, h⟩ := cl1_ok h
          refine lw_calli (va_runV (As := [.int a2, .int (3 : Int32)]) (rest := []) ⟨hx, hb, hml, hown, hts⟩ (mX6_ofBand_n l D G A ad Z8 a2 (3 : Int32) v9  c10) (cwV 2 hts gL_hasPerformed_X6_ofBand rfl rfl rfl (by decide +kernel) ⟨Nat.le_of_ble_eq_true rfl, Nat.le_of_ble_eq_true rfl⟩) (cg_preV hI hK hN rfl rfl (ci := 7) rfl) rfl rfl hl.1 rfl (lv_room (Nat.le_of_ble_eq_true rfl)) dL_hasPerformed_84 ⟨Nat.le_of_ble_eq_true rfl, Nat.le_of_ble_eq_true rfl⟩) hS (fun H locs hI hN hS => ?_)
          refine W.widen (k := 4) (n := 24) (by decide) (by decide) ?_
          refine lv_iload hx hb dL_hasPerformed_87 (lv_at hl 0 rfl) ?_
          refine lv_icmp_ne (tgt := 109) hx hb dL_hasPerformed_89 (by decide) (fun hc => ?_) (fun hc => ?_)
          · have h := ite_f h hc
            refine W.widen (k := 8) (n := 48) (by decide) (by decide) ?_
            exact w109  Z8 h _ _ _ hI hN hS (lv_sub hl [] rfl)
          · have h := ite_t h hc
            refine lv_aload_n hx hb dL_hasPerformed_92 rfl (lv_at hl 3 rfl) ?_
            refine lv_iload_n hx hb dL_hasPerformed_93 rfl (lv_at hl 4 rfl) ?_
            refine lv_iload_n hx hb dL_hasPerformed_94 rfl (lv_at hl 5 rfl) ?_
            refine lv_iconst (v := (4 : Int32)) hx hb dL_hasPerformed_95 (by decide) ?_
            obtain ⟨v11, Z13, c12, h⟩ := cl2_ok h
            refine lw_callx (vx_runSX (As := [.ref (ad 0 0), .int a2, .int a3, .int (4 : Int32)]) (rest := []) ⟨hx, hb, hml, hown, hts⟩ (mL_acts4 l hfl D G A ad Z8 a2 a3 v11 Z13 c12) (vx_cwSW 4 hts gL_hasPerformed_L_acts rfl rfl rfl (by decide +kernel) ⟨Nat.le_of_ble_eq_true rfl, Nat.le_of_ble_eq_true rfl⟩) (sg_preS hI hK hN hE hS (fun _ h => h)) rfl rfl hl.1 rfl (lv_room (Nat.le_of_ble_eq_true rfl)) dL_hasPerformed_96 ⟨Nat.le_of_ble_eq_true rfl, Nat.le_of_ble_eq_true rfl⟩) hS (fun H locs hI hN hS => ?_)
            refine W.widen (k := 8) (n := 48) (by decide) (by decide) ?_
            refine lv_sipush (v := (-200 : Int32)) hx hb dL_hasPerformed_99 (by decide) ?_
            refine lv_icmp_ne (tgt := 109) hx hb dL_hasPerformed_102 (by decide) (fun hc => ?_) (fun hc => ?_)
            · have h := ite_f h hc
              exact w109  Z13 h _ _ _ hI hN hS (lv_sub hl [] rfl)
            · have h := ite_t h hc
              refine lv_iconst (v := (1 : Int32)) hx hb dL_hasPerformed_105 (by decide) ?_
              refine lv_goto (tgt := 110) hx hb dL_hasPerformed_106 (by decide) ?_
              exact w110  (1 : Int32) Z13 h _ _ _ hI hN hS (lv_sub hl [] rfl)
  · have h := ite_t h hc
    refine lv_iload_n hx hb dL_hasPerformed_31 rfl (lv_at hl 2 rfl) ?_
    refine lv_iconst (v := (-1 : Int32)) hx hb dL_hasPerformed_32 (by decide) ?_
    refine lv_icmp_ne (tgt := 42) hx hb dL_hasPerformed_33 (by decide) (fun hc => ?_) (fun hc => ?_)
    · have h := ite_f h hc
      exact w42  a2 v1 Z8 h _ _ _ hI hN hS (lv_sub hl [3, 4, 2] rfl)
    · have h := ite_t h hc
      refine lv_iload hx hb dL_hasPerformed_36 (lv_at hl 1 rfl) ?_
      refine lv_iconst (v := (-1 : Int32)) hx hb dL_hasPerformed_38 (by decide) ?_
      refine lv_icmp_ne (tgt := 56) hx hb dL_hasPerformed_39 (by decide) (fun hc => ?_) (fun hc => ?_)
      · have h := ite_f h hc
        exact w56  Z8 h _ _ _ hI hN hS (lv_sub hl [] rfl)
      · have h := ite_t h hc
        exact w42  a2 v1 Z8 h _ _ _ hI hN hS (lv_sub hl [3, 4, 2] rfl)
def fL_areRanked_124 (Z : CZ) (k4 : Int32 → Int32 → Option (Int32)) (x2 : Int32) (t0 : Int32) : Option (Int32) := bnd (x2 + (1 : Int32)) (fun v22 => k4 t0 v22)
def fL_areRanked_119 (Z : CZ) (k4 : Int32 → Int32 → Option (Int32)) (x2 : Int32) : Option (Int32) := fL_areRanked_124 Z k4 x2 (1 : Int32)
def fL_areRanked_123 (Z : CZ) (k4 : Int32 → Int32 → Option (Int32)) (x2 : Int32) : Option (Int32) := fL_areRanked_124 Z k4 x2 (0 : Int32)
def fL_areRanked_131 (Z : CZ) (x1 : Int32) : Option (Int32) := gd (gbo x1) (some x1)
def fL_areRanked_4 (Z : CZ) (k4 : Int32 → Int32 → Option (Int32)) (x1 : Int32) (x2 : Int32) : Option (Int32) := (if (3 : Int32) ≤ x2 then fL_areRanked_131 Z x1 else (if x1 = 0 then fL_areRanked_131 Z x1 else cl1 (fX6_rank_n x2 Z) (fun v1 => cl1 (fX6_rank_n (x2 + (1 : Int32)) Z) (fun v3 => (if v1 = (-1 : Int32) then (if v3 = (-1 : Int32) then fL_areRanked_124 Z k4 x2 (1 : Int32) else fL_areRanked_124 Z k4 x2 (0 : Int32)) else (if v3 = (-1 : Int32) then fL_areRanked_119 Z k4 x2 else cl1 (fL_scores_n v1 Z) (fun v5 => cl1 (fL_scores_n v3 Z) (fun v7 => (if v7 < v5 then fL_areRanked_119 Z k4 x2 else cl1 (fL_scores_n v1 Z) (fun v9 => cl1 (fL_scores_n v3 Z) (fun v11 => (if v9 = v11 then cl1 (fX6_ofBand_n v1 (3 : Int32) Z) (fun v13 => cl1 (fX6_ofBand_n v3 (3 : Int32) Z) (fun v15 => (if v13 < v15 then fL_areRanked_119 Z k4 x2 else cl1 (fX6_ofBand_n v1 (3 : Int32) Z) (fun v17 => cl1 (fX6_ofBand_n v3 (3 : Int32) Z) (fun v19 => (if v17 = v19 then (if v3 ≤ v1 then fL_areRanked_123 Z k4 x2 else fL_areRanked_119 Z k4 x2) else fL_areRanked_123 Z k4 x2)))))) else fL_areRanked_123 Z k4 x2))))))))))))
def fL_areRanked (Z : CZ) : Option (Int32) := lf2 (fL_areRanked_4 Z) 100 (1 : Int32) (0 : Int32)
def rmL_areRanked : Room := { frames := 8, cells := 0, slots := 0, locals := 186 }
set_option maxHeartbeats 8000000 in
set_option maxRecDepth 100000 in
theorem mL_areRanked (l : Launch) (hfl : l.stackTraces = false) (D : va_G) (G : CGT) (A : Nat → Prop) (ad : Nat → Nat → Nat) (Z : CZ) (rz : Int32) (h : fL_areRanked Z = some rz) : Met l yL_areRanked wsL_areRanked rmL_areRanked (va_Pc [.ref (ad 0 0)] (xP D G A ad Z)) (cQi D G A ad rz Z) 0 0 A := by
  refine Met.ofW (cc := cL_areRanked) (maxL := 5) (ret := some .boolean) (by decide) rfl ?_
  intro p e s m args below meth c s₁ B hml hv
  obtain ⟨rfl, ⟨hI, hN, hK⟩, hE⟩ := hv
  have hx := B.exec
  have hb := B.bytes
  have hr := B.returns
  have hts := atoms_spec (ws := wsL_areRanked) B.pre
  have hown : s.vm.findClass RL = some m.cls := findClass_of_methodNamed B.named
  have hlocks := B.notSynchronized
  have hS : va_S A s.heap s.heap [] := va_S.rf
  have hl := lv_entry ([.ref (ad 0 0)]) (n := 5) (Nat.le_of_ble_eq_true rfl)
  rw [lg_entry_eq]
  generalize (lg_sl ([.ref (ad 0 0)]) ++ List.replicate (5 - (lg_sl ([.ref (ad 0 0)])).length) Slot.unset).toArray = ls at hl ⊢
  have hl : lv_has ls 5 [(0, .ref (ad 0 0))] := hl
  have w124 : ∀ (k4 : Int32 → Int32 → Option (Int32)) (hk4 : (∀ (x1 : Int32) (x2 : Int32), k4 x1 x2 = some rz → cG p l e (headSpec wsL_areRanked rmL_areRanked).room s m (([.ref (ad 0 0)] : List Value).toArray) below meth c (MQ below (cQi D G A ad rz Z) (([.ref (ad 0 0)] : List Value).toArray) s 0 0 A) D G A ad 0 0 5 Z 4 [(0, .ref (ad 0 0)), (1, .int x1), (2, .int x2)] [])) (x2 : Int32) (t0 : Int32), fL_areRanked_124 Z k4 x2 t0 = some rz → cG p l e (headSpec wsL_areRanked rmL_areRanked).room s m (([.ref (ad 0 0)] : List Value).toArray) below meth c (MQ below (cQi D G A ad rz Z) (([.ref (ad 0 0)] : List Value).toArray) s 0 0 A) D G A ad 0 0 5 Z 124 [(0, .ref (ad 0 0)), (2, .int x2)] [.int t0] := by
    intro k4 hk4 x2 t0 h H locs ls hI hN hS hl
    unfold fL_areRanked_124 at h
    refine lv_istore_n (lv' := [(1, .int t0), (0, .ref (ad 0 0)), (2, .int x2)]) hx hb dL_areRanked_124 rfl hl (by decide) rfl (fun ls hl => ?_)
    obtain ⟨v22, ev22⟩ : ∃ y : Int32, y = (x2 + (1 : Int32)) := ⟨_, rfl⟩
    have h := bnd_ok h ev22
    refine lv_iinc (v := v22) (lv' := [(2, .int v22), (1, .int t0), (0, .ref (ad 0 0))]) hx hb dL_areRanked_125 hl (k := 2) rfl (by rw [ev22]; rfl) (by decide) rfl (fun ls hl => ?_)
    refine lv_goto (tgt := 4) hx hb dL_areRanked_128 (by decide) ?_
    exact hk4 t0 v22 h _ _ _ hI hN hS (lv_sub hl [2, 1, 0] rfl)
  have w119 : ∀ (k4 : Int32 → Int32 → Option (Int32)) (hk4 : (∀ (x1 : Int32) (x2 : Int32), k4 x1 x2 = some rz → cG p l e (headSpec wsL_areRanked rmL_areRanked).room s m (([.ref (ad 0 0)] : List Value).toArray) below meth c (MQ below (cQi D G A ad rz Z) (([.ref (ad 0 0)] : List Value).toArray) s 0 0 A) D G A ad 0 0 5 Z 4 [(0, .ref (ad 0 0)), (1, .int x1), (2, .int x2)] [])) (x2 : Int32), fL_areRanked_119 Z k4 x2 = some rz → cG p l e (headSpec wsL_areRanked rmL_areRanked).room s m (([.ref (ad 0 0)] : List Value).toArray) below meth c (MQ below (cQi D G A ad rz Z) (([.ref (ad 0 0)] : List Value).toArray) s 0 0 A) D G A ad 0 0 5 Z 119 [(0, .ref (ad 0 0)), (2, .int x2)] [] := by
    intro k4 hk4 x2 h H locs ls hI hN hS hl
    unfold fL_areRanked_119 at h
    refine lv_iconst (v := (1 : Int32)) hx hb dL_areRanked_119 (by decide) ?_
    refine lv_goto (tgt := 124) hx hb dL_areRanked_120 (by decide) ?_
    exact w124 k4 hk4 x2 (1 : Int32) h _ _ _ hI hN hS (lv_sub hl [0, 1] rfl)
  have w123 : ∀ (k4 : Int32 → Int32 → Option (Int32)) (hk4 : (∀ (x1 : Int32) (x2 : Int32), k4 x1 x2 = some rz → cG p l e (headSpec wsL_areRanked rmL_areRanked).room s m (([.ref (ad 0 0)] : List Value).toArray) below meth c (MQ below (cQi D G A ad rz Z) (([.ref (ad 0 0)] : List Value).toArray) s 0 0 A) D G A ad 0 0 5 Z 4 [(0, .ref (ad 0 0)), (1, .int x1), (2, .int x2)] [])) (x2 : Int32), fL_areRanked_123 Z k4 x2 = some rz → cG p l e (headSpec wsL_areRanked rmL_areRanked).room s m (([.ref (ad 0 0)] : List Value).toArray) below meth c (MQ below (cQi D G A ad rz Z) (([.ref (ad 0 0)] : List Value).toArray) s 0 0 A) D G A ad 0 0 5 Z 123 [(0, .ref (ad 0 0)), (2, .int x2)] [] := by
    intro k4 hk4 x2 h H locs ls hI hN hS hl
    unfold fL_areRanked_123 at h
    refine lv_iconst (v := (0 : Int32)) hx hb dL_areRanked_123 (by decide) ?_
    exact w124 k4 hk4 x2 (0 : Int32) h _ _ _ hI hN hS (lv_sub hl [0, 1] rfl)
  have w131 : ∀ (x1 : Int32), fL_areRanked_131 Z x1 = some rz → cG p l e (headSpec wsL_areRanked rmL_areRanked).room s m (([.ref (ad 0 0)] : List Value).toArray) below meth c (MQ below (cQi D G A ad rz Z) (([.ref (ad 0 0)] : List Value).toArray) s 0 0 A) D G A ad 0 0 5 Z 131 [(1, .int x1)] [] := by
    intro  x1 h H locs ls hI hN hS hl
    unfold fL_areRanked_131 at h
    refine lv_iload_n hx hb dL_areRanked_131 rfl (lv_at hl 0 rfl) ?_
    obtain ⟨g21, h⟩ := gd_ok h
    refine W.widen (k := 0) (n := 0) (by decide) (by decide) ?_
    exact W.zret hx hb hr (gbo_ok g21) (cg_endr h hI hK hN hS) (fun z hz => hS.2.2 z hz) dL_areRanked_132
  have w4 : ∀ (x1 : Int32) (x2 : Int32), lf2 (fL_areRanked_4 Z) 100 x1 x2 = some rz → cG p l e (headSpec wsL_areRanked rmL_areRanked).room s m (([.ref (ad 0 0)] : List Value).toArray) below meth c (MQ below (cQi D G A ad rz Z) (([.ref (ad 0 0)] : List Value).toArray) s 0 0 A) D G A ad 0 0 5 Z 4 [(0, .ref (ad 0 0)), (1, .int x1), (2, .int x2)] [] := by
    refine lf2_ok (P := (fun x1 x2 => cG p l e (headSpec wsL_areRanked rmL_areRanked).room s m (([.ref (ad 0 0)] : List Value).toArray) below meth c (MQ below (cQi D G A ad rz Z) (([.ref (ad 0 0)] : List Value).toArray) s 0 0 A) D G A ad 0 0 5 Z 4 [(0, .ref (ad 0 0)), (1, .int x1), (2, .int x2)] [])) (fun k4 hk4 x1 x2 h H locs ls hI hN hS hl => ?_) 100
    unfold fL_areRanked_4 at h
    refine lv_iload_n hx hb dL_areRanked_4 rfl (lv_at hl 2 rfl) ?_
    refine lv_iconst (v := (3 : Int32)) hx hb dL_areRanked_5 (by decide) ?_
    refine lv_icmp_ge (tgt := 131) hx hb dL_areRanked_6 (by decide) (fun hc => ?_) (fun hc => ?_)
    · have h := ite_t h hc
      exact w131  x1 h _ _ _ hI hN hS (lv_sub hl [1] rfl)
    · have h := ite_f h hc
      refine lv_iload_n hx hb dL_areRanked_9 rfl (lv_at hl 1 rfl) ?_
      refine lv_if_eq (tgt := 131) hx hb dL_areRanked_10 (by decide) (fun hc => ?_) (fun hc => ?_)
      · have h := ite_t h hc
        exact w131  x1 h _ _ _ hI hN hS (lv_sub hl [1] rfl)
      · have h := ite_f h hc
        refine lv_aload_n hx hb dL_areRanked_13 rfl (lv_at hl 0 rfl) ?_
        refine lv_iload_n hx hb dL_areRanked_14 rfl (lv_at hl 2 rfl) ?_
        obtain ⟨v1, c2, h⟩ := cl1_ok h
        refine lw_calli (va_runV (As := [.int x2]) (rest := []) ⟨hx, hb, hml, hown, hts⟩ (mX6_rank_n l D G A ad Z x2 v1  c2) (cwV 1 hts gL_areRanked_X6_rank rfl rfl rfl (by decide +kernel) ⟨Nat.le_of_ble_eq_true rfl, Nat.le_of_ble_eq_true rfl⟩) (cg_preV hI hK hN rfl rfl (ci := 7) rfl) rfl rfl hl.1 rfl (lv_room (Nat.le_of_ble_eq_true rfl)) dL_areRanked_15 ⟨Nat.le_of_ble_eq_true rfl, Nat.le_of_ble_eq_true rfl⟩) hS (fun H locs hI hN hS => ?_)
        refine W.widen (k := 0) (n := 0) (by decide) (by decide) ?_
        refine lv_istore_n (lv' := [(3, .int v1), (0, .ref (ad 0 0)), (1, .int x1), (2, .int x2)]) hx hb dL_areRanked_18 rfl hl (by decide) rfl (fun ls hl => ?_)
        refine lv_aload_n hx hb dL_areRanked_19 rfl (lv_at hl 1 rfl) ?_
        refine lv_iload_n hx hb dL_areRanked_20 rfl (lv_at hl 3 rfl) ?_
        refine lv_iconst (v := (1 : Int32)) hx hb dL_areRanked_21 (by decide) ?_
        refine lv_iadd hx hb dL_areRanked_22 ?_
        obtain ⟨v3, c4, h⟩ := cl1_ok h
        refine lw_calli (va_runV (As := [.int (x2 + (1 : Int32))]) (rest := []) ⟨hx, hb, hml, hown, hts⟩ (mX6_rank_n l D G A ad Z (x2 + (1 : Int32)) v3  c4) (cwV 1 hts gL_areRanked_X6_rank rfl rfl rfl (by decide +kernel) ⟨Nat.le_of_ble_eq_true rfl, Nat.le_of_ble_eq_true rfl⟩) (cg_preV hI hK hN rfl rfl (ci := 7) rfl) rfl rfl hl.1 rfl (lv_room (Nat.le_of_ble_eq_true rfl)) dL_areRanked_23 ⟨Nat.le_of_ble_eq_true rfl, Nat.le_of_ble_eq_true rfl⟩) hS (fun H locs hI hN hS => ?_)
        refine W.widen (k := 0) (n := 0) (by decide) (by decide) ?_
        refine lv_istore (lv' := [(4, .int v3), (3, .int v1), (0, .ref (ad 0 0)), (1, .int x1), (2, .int x2)]) hx hb dL_areRanked_26 hl (by decide) rfl (fun ls hl => ?_)
        refine lv_iload_n hx hb dL_areRanked_28 rfl (lv_at hl 1 rfl) ?_
        refine lv_iconst (v := (-1 : Int32)) hx hb dL_areRanked_29 (by decide) ?_
        refine lv_icmp_ne (tgt := 47) hx hb dL_areRanked_30 (by decide) (fun hc => ?_) (fun hc => ?_)
        · have h := ite_f h hc
          refine lv_iload hx hb dL_areRanked_47 (lv_at hl 0 rfl) ?_
          refine lv_iconst (v := (-1 : Int32)) hx hb dL_areRanked_49 (by decide) ?_
          refine lv_icmp_eq (tgt := 119) hx hb dL_areRanked_50 (by decide) (fun hc => ?_) (fun hc => ?_)
          · have h := ite_t h hc
            exact w119 k4 hk4 x2 h _ _ _ hI hN hS (lv_sub hl [2, 4] rfl)
          · have h := ite_f h hc
            refine lv_aload_n hx hb dL_areRanked_53 rfl (lv_at hl 2 rfl) ?_
            refine lv_iload_n hx hb dL_areRanked_54 rfl (lv_at hl 1 rfl) ?_
            obtain ⟨v5, c6, h⟩ := cl1_ok h
            refine lw_callx (vx_runSX (As := [.ref (ad 0 0), .int v1]) (rest := []) ⟨hx, hb, hml, hown, hts⟩ (mL_scores_n l hfl D G A ad Z v1 v5  c6) (vx_cwSW 2 hts gL_areRanked_L_scores rfl rfl rfl (by decide +kernel) ⟨Nat.le_of_ble_eq_true rfl, Nat.le_of_ble_eq_true rfl⟩) (sg_preS hI hK hN hE hS (fun _ h => h)) rfl rfl hl.1 rfl (lv_room (Nat.le_of_ble_eq_true rfl)) dL_areRanked_55 ⟨Nat.le_of_ble_eq_true rfl, Nat.le_of_ble_eq_true rfl⟩) hS (fun H locs hI hN hS => ?_)
            refine W.widen (k := 0) (n := 0) (by decide) (by decide) ?_
            refine lv_aload_n hx hb dL_areRanked_58 rfl (lv_at hl 2 rfl) ?_
            refine lv_iload hx hb dL_areRanked_59 (lv_at hl 0 rfl) ?_
            obtain ⟨v7, c8, h⟩ := cl1_ok h
            refine lw_callx (vx_runSX (As := [.ref (ad 0 0), .int v3]) (rest := [.int v5]) ⟨hx, hb, hml, hown, hts⟩ (mL_scores_n l hfl D G A ad Z v3 v7  c8) (vx_cwSW 2 hts gL_areRanked_L_scores rfl rfl rfl (by decide +kernel) ⟨Nat.le_of_ble_eq_true rfl, Nat.le_of_ble_eq_true rfl⟩) (sg_preS hI hK hN hE hS (fun _ h => h)) rfl rfl hl.1 rfl (lv_room (Nat.le_of_ble_eq_true rfl)) dL_areRanked_61 ⟨Nat.le_of_ble_eq_true rfl, Nat.le_of_ble_eq_true rfl⟩) hS (fun H locs hI hN hS => ?_)
            refine W.widen (k := 0) (n := 0) (by decide) (by decide) ?_
            refine lv_icmp_gt (tgt := 119) hx hb dL_areRanked_64 (by decide) (fun hc => ?_) (fun hc => ?_)
            · have h := ite_t h hc
              exact w119 k4 hk4 x2 h _ _ _ hI hN hS (lv_sub hl [2, 4] rfl)
            · have h := ite_f h hc
              refine lv_aload_n hx hb dL_areRanked_67 rfl (lv_at hl 2 rfl) ?_
              refine lv_iload_n hx hb dL_areRanked_68 rfl (lv_at hl 1 rfl) ?_
              obtain ⟨v9, c10, h⟩ := cl1_ok h
              refine lw_callx (vx_runSX (As := [.ref (ad 0 0), .int v1]) (rest := []) ⟨hx, hb, hml, hown, hts⟩ (mL_scores_n l hfl D G A ad Z v1 v9  c10) (vx_cwSW 2 hts gL_areRanked_L_scores rfl rfl rfl (by decide +kernel) ⟨Nat.le_of_ble_eq_true rfl, Nat.le_of_ble_eq_true rfl⟩) (sg_preS hI hK hN hE hS (fun _ h => h)) rfl rfl hl.1 rfl (lv_room (Nat.le_of_ble_eq_true rfl)) dL_areRanked_69 ⟨Nat.le_of_ble_eq_true rfl, Nat.le_of_ble_eq_true rfl⟩) hS (fun H locs hI hN hS => ?_)
              refine W.widen (k := 0) (n := 0) (by decide) (by decide) ?_
              refine lv_aload_n hx hb dL_areRanked_72 rfl (lv_at hl 2 rfl) ?_
              refine lv_iload hx hb dL_areRanked_73 (lv_at hl 0 rfl) ?_
              obtain ⟨v11, c12, h⟩ := cl1_ok h
              refine lw_callx (vx_runSX (As := [.ref (ad 0 0), .int v3]) (rest := [.int v9]) ⟨hx, hb, hml, hown, hts⟩ (mL_scores_n l hfl D G A ad Z v3 v11  c12) (vx_cwSW 2 hts gL_areRanked_L_scores rfl rfl rfl (by decide +kernel) ⟨Nat.le_of_ble_eq_true rfl, Nat.le_of_ble_eq_true rfl⟩) (sg_preS hI hK hN hE hS (fun _ h => h)) rfl rfl hl.1 rfl (lv_room (Nat.le_of_ble_eq_true rfl)) dL_areRanked_75 ⟨Nat.le_of_ble_eq_true rfl, Nat.le_of_ble_eq_true rfl⟩) hS (fun H locs hI hN hS => ?_)
              refine W.widen (k := 0) (n := 0) (by decide) (by decide) ?_
              refine lv_icmp_ne (tgt := 123) hx hb dL_areRanked_78 (by decide) (fun hc => ?_) (fun hc => ?_)
              · have h := ite_f h hc
                exact w123 k4 hk4 x2 h _ _ _ hI hN hS (lv_sub hl [2, 4] rfl)
              · have h := ite_t h hc
                refine lv_aload_n hx hb dL_areRanked_81 rfl (lv_at hl 2 rfl) ?_
                refine lv_iload_n hx hb dL_areRanked_82 rfl (lv_at hl 1 rfl) ?_
                refine lv_iconst (v := (3 : Int32)) hx hb dL_areRanked_83 (by decide) ?_
                obtain ⟨v13, c14, h⟩ := cl1_ok h
                refine lw_calli (va_runV (As := [.int v1, .int (3 : Int32)]) (rest := []) ⟨hx, hb, hml, hown, hts⟩ (mX6_ofBand_n l D G A ad Z v1 (3 : Int32) v13  c14) (cwV 2 hts gL_areRanked_X6_ofBand rfl rfl rfl (by decide +kernel) ⟨Nat.le_of_ble_eq_true rfl, Nat.le_of_ble_eq_true rfl⟩) (cg_preV hI hK hN rfl rfl (ci := 7) rfl) rfl rfl hl.1 rfl (lv_room (Nat.le_of_ble_eq_true rfl)) dL_areRanked_84 ⟨Nat.le_of_ble_eq_true rfl, Nat.le_of_ble_eq_true rfl⟩) hS (fun H locs hI hN hS => ?_)
                refine W.widen (k := 0) (n := 0) (by decide) (by decide) ?_
                refine lv_aload_n hx hb dL_areRanked_87 rfl (lv_at hl 2 rfl) ?_
                refine lv_iload hx hb dL_areRanked_88 (lv_at hl 0 rfl) ?_
                refine lv_iconst (v := (3 : Int32)) hx hb dL_areRanked_90 (by decide) ?_
                obtain ⟨v15, c16, h⟩ := cl1_ok h
                refine lw_calli (va_runV (As := [.int v3, .int (3 : Int32)]) (rest := [.int v13]) ⟨hx, hb, hml, hown, hts⟩ (mX6_ofBand_n l D G A ad Z v3 (3 : Int32) v15  c16) (cwV 2 hts gL_areRanked_X6_ofBand rfl rfl rfl (by decide +kernel) ⟨Nat.le_of_ble_eq_true rfl, Nat.le_of_ble_eq_true rfl⟩) (cg_preV hI hK hN rfl rfl (ci := 7) rfl) rfl rfl hl.1 rfl (lv_room (Nat.le_of_ble_eq_true rfl)) dL_areRanked_91 ⟨Nat.le_of_ble_eq_true rfl, Nat.le_of_ble_eq_true rfl⟩) hS (fun H locs hI hN hS => ?_)
                refine W.widen (k := 0) (n := 0) (by decide) (by decide) ?_
                refine lv_icmp_lt (tgt := 119) hx hb dL_areRanked_94 (by decide) (fun hc => ?_) (fun hc => ?_)
                · have h := ite_t h hc
                  exact w119 k4 hk4 x2 h _ _ _ hI hN hS (lv_sub hl [2, 4] rfl)
                · have h := ite_f h hc
                  refine lv_aload_n hx hb dL_areRanked_97 rfl (lv_at hl 2 rfl) ?_
                  refine lv_iload_n hx hb dL_areRanked_98 rfl (lv_at hl 1 rfl) ?_
                  refine lv_iconst (v := (3 : Int32)) hx hb dL_areRanked_99 (by decide) ?_
                  obtain ⟨v17, c18, h⟩ := cl1_ok h
                  refine lw_calli (va_runV (As := [.int v1, .int (3 : Int32)]) (rest := []) ⟨hx, hb, hml, hown, hts⟩ (mX6_ofBand_n l D G A ad Z v1 (3 : Int32) v17  c18) (cwV 2 hts gL_areRanked_X6_ofBand rfl rfl rfl (by decide +kernel) ⟨Nat.le_of_ble_eq_true rfl, Nat.le_of_ble_eq_true rfl⟩) (cg_preV hI hK hN rfl rfl (ci := 7) rfl) rfl rfl hl.1 rfl (lv_room (Nat.le_of_ble_eq_true rfl)) dL_areRanked_100 ⟨Nat.le_of_ble_eq_true rfl, Nat.le_of_ble_eq_true rfl⟩) hS (fun H locs hI hN hS => ?_)
                  refine W.widen (k := 0) (n := 0) (by decide) (by decide) ?_
                  refine lv_aload_n hx hb dL_areRanked_103 rfl (lv_at hl 2 rfl) ?_
                  refine lv_iload hx hb dL_areRanked_104 (lv_at hl 0 rfl) ?_
                  refine lv_iconst (v := (3 : Int32)) hx hb dL_areRanked_106 (by decide) ?_
                  obtain ⟨v19, c20, h⟩ := cl1_ok h
                  refine lw_calli (va_runV (As := [.int v3, .int (3 : Int32)]) (rest := [.int v17]) ⟨hx, hb, hml, hown, hts⟩ (mX6_ofBand_n l D G A ad Z v3 (3 : Int32) v19  c20) (cwV 2 hts gL_areRanked_X6_ofBand rfl rfl rfl (by decide +kernel) ⟨Nat.le_of_ble_eq_true rfl, Nat.le_of_ble_eq_true rfl⟩) (cg_preV hI hK hN rfl rfl (ci := 7) rfl) rfl rfl hl.1 rfl (lv_room (Nat.le_of_ble_eq_true rfl)) dL_areRanked_107 ⟨Nat.le_of_ble_eq_true rfl, Nat.le_of_ble_eq_true rfl⟩) hS (fun H locs hI hN hS => ?_)
                  refine W.widen (k := 0) (n := 0) (by decide) (by decide) ?_
                  refine lv_icmp_ne (tgt := 123) hx hb dL_areRanked_110 (by decide) (fun hc => ?_) (fun hc => ?_)
                  · have h := ite_f h hc
                    exact w123 k4 hk4 x2 h _ _ _ hI hN hS (lv_sub hl [2, 4] rfl)
                  · have h := ite_t h hc
                    refine lv_iload_n hx hb dL_areRanked_113 rfl (lv_at hl 1 rfl) ?_
                    refine lv_iload hx hb dL_areRanked_114 (lv_at hl 0 rfl) ?_
                    refine lv_icmp_ge (tgt := 123) hx hb dL_areRanked_116 (by decide) (fun hc => ?_) (fun hc => ?_)
                    · have h := ite_t h hc
                      exact w123 k4 hk4 x2 h _ _ _ hI hN hS (lv_sub hl [2, 4] rfl)
                    · have h := ite_f h hc
                      exact w119 k4 hk4 x2 h _ _ _ hI hN hS (lv_sub hl [2, 4] rfl)
        · have h := ite_t h hc
          refine lv_iload hx hb dL_areRanked_33 (lv_at hl 0 rfl) ?_
          refine lv_iconst (v := (-1 : Int32)) hx hb dL_areRanked_35 (by decide) ?_
          refine lv_icmp_ne (tgt := 43) hx hb dL_areRanked_36 (by decide) (fun hc => ?_) (fun hc => ?_)
          · have h := ite_f h hc
            refine lv_iconst (v := (0 : Int32)) hx hb dL_areRanked_43 (by decide) ?_
            refine lv_goto (tgt := 124) hx hb dL_areRanked_44 (by decide) ?_
            exact w124 k4 hk4 x2 (0 : Int32) h _ _ _ hI hN hS (lv_sub hl [2, 4] rfl)
          · have h := ite_t h hc
            refine lv_iconst (v := (1 : Int32)) hx hb dL_areRanked_39 (by decide) ?_
            refine lv_goto (tgt := 124) hx hb dL_areRanked_40 (by decide) ?_
            exact w124 k4 hk4 x2 (1 : Int32) h _ _ _ hI hN hS (lv_sub hl [2, 4] rfl)
  unfold fL_areRanked at h
  refine lv_iconst (v := (1 : Int32)) hx hb dL_areRanked_0 (by decide) ?_
  refine lv_istore_n (lv' := [(1, .int (1 : Int32)), (0, .ref (ad 0 0))]) hx hb dL_areRanked_1 rfl hl (by decide) rfl (fun ls hl => ?_)
  refine lv_iconst (v := (0 : Int32)) hx hb dL_areRanked_2 (by decide) ?_
  refine lv_istore_n (lv' := [(2, .int (0 : Int32)), (1, .int (1 : Int32)), (0, .ref (ad 0 0))]) hx hb dL_areRanked_3 rfl hl (by decide) rfl (fun ls hl => ?_)
  exact w4  (1 : Int32) (0 : Int32) h _ _ _ hI hN hS (lv_sub hl [2, 1, 0] rfl)
