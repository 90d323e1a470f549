def fX7_drill_210 (k102 : Int32 → Int32 → Int32 → Int32 → MT → Option (Int32 × MT)) (x1 : Int32) (x2 : Int32) (x4 : Int32) (x5 : Int32) (M : MT) : Option (Int32 × MT) := bnd (x5 + (1 : Int32)) (fun v31 => k102 x1 x2 x4 v31 M)
def fX7_drill_176 (k102 : Int32 → Int32 → Int32 → Int32 → MT → Option (Int32 × MT)) (k176 : Int32 → Int32 → Int32 → Int32 → Int32 → Int32 → MT → Option (Int32 × MT)) (x1 : Int32) (x2 : Int32) (x4 : Int32) (x5 : Int32) (x6 : Int32) (x7 : Int32) (M : MT) : Option (Int32 × MT) := (if (4 : Int32) ≤ x7 then fX7_drill_210 k102 x1 x2 x4 x5 M else (if x6 = (-1 : Int32) then fX7_drill_210 k102 x1 x2 x4 x5 M else gd (gin (((4 : Int32) * x6) + x7) 24) (gd (gin (((4 : Int32) * x6) + x7) 24) (bnd (va_up M 4 (upd (M 4) (Int32.toNatClampNeg (((4 : Int32) * x6) + x7)) ((M 4 (Int32.toNatClampNeg (((4 : Int32) * x6) + x7))) - (1 : Int32)))) (fun M29 => bnd (x7 + (1 : Int32)) (fun v30 => k176 x1 x2 x4 x5 x6 v30 M29))))))
def fX7_drill_151 (k102 : Int32 → Int32 → Int32 → Int32 → MT → Option (Int32 × MT)) (x1 : Int32) (x2 : Int32) (x5 : Int32) (t0 : Int32) (t1 : Int32) (M : MT) : Option (Int32 × MT) := bnd (t1 + t0) (fun v23 => gd (gin (((8 : Int32) * x1) + x5) 32) (gd (gin (M 16 (Int32.toNatClampNeg (((8 : Int32) * x1) + x5))) 16) (bnd (M 12 (Int32.toNatClampNeg (M 16 (Int32.toNatClampNeg (((8 : Int32) * x1) + x5))))) (fun v26 => lf7 (fX7_drill_176 k102) 100 x1 x2 v23 x5 v26 (0 : Int32) M))))
def fX7_drill_216 (x4 : Int32) (M : MT) : Option (Int32 × MT) := some (x4, M)
def fX7_drill_102 (k102 : Int32 → Int32 → Int32 → Int32 → MT → Option (Int32 × MT)) (x1 : Int32) (x2 : Int32) (x4 : Int32) (x5 : Int32) (M : MT) : Option (Int32 × MT) := gd (gin x1 4) ((if (M 15 (Int32.toNatClampNeg x1)) ≤ x5 then fX7_drill_216 x4 M else cl1 (fX7_at x1 x5 x2 M) (fun v17 => gd (gin x5 8) (gd (gin v17 192) (bnd (va_up M 19 (upd (M 19) (Int32.toNatClampNeg v17) (M 20 (Int32.toNatClampNeg x5)))) (fun M21 => gd (gin x5 8) ((if (M21 20 (Int32.toNatClampNeg x5)) = (1 : Int32) then fX7_drill_151 k102 x1 x2 x5 (1 : Int32) x4 M21 else fX7_drill_151 k102 x1 x2 x5 (0 : Int32) x4 M21))))))))
def fX7_drill_96 (x1 : Int32) (x2 : Int32) (M : MT) : Option (Int32 × MT) := lf5 fX7_drill_102 100 x1 x2 (0 : Int32) (0 : Int32) M
def fX7_drill_64 (k64 : Int32 → Int32 → Int32 → MT → Option (Int32 × MT)) (x1 : Int32) (x2 : Int32) (x4 : Int32) (M : MT) : Option (Int32 × MT) := gd (gin x1 4) ((if (M 15 (Int32.toNatClampNeg x1)) ≤ x4 then fX7_drill_96 x1 x2 M else cl1 (fX7_learns x1 x4 x2 M) (fun v11 => gd (gin x4 8) (bnd (va_up M 20 (upd (M 20) (Int32.toNatClampNeg x4) v11)) (fun M14 => bnd (x4 + (1 : Int32)) (fun v15 => k64 x1 x2 v15 M14))))))
def fX7_drill_43 (x1 : Int32) (x2 : Int32) (t0 : Int32) (M : MT) : Option (Int32 × MT) := cl2 (fX7_holds t0 M) (fun v5 M6 => (if v5 = 0 then some ((0 : Int32), M6) else gd (gin x1 4) (bnd (va_up M6 21 (upd (M6 21) (Int32.toNatClampNeg x1) (M6 1 0))) (fun M9 => lf4 fX7_drill_64 100 x1 x2 (0 : Int32) M9))))
def fX7_drill_38 (x1 : Int32) (x2 : Int32) (M : MT) : Option (Int32 × MT) := fX7_drill_43 x1 x2 (2 : Int32) M
def fX7_drill (a1 : Int32) (a2 : Int32) (M : MT) : Option (Int32 × MT) := cl1 (fX7_isPhrase a1 a2 M) (fun v1 => (if v1 = 0 then fX7_drill_43 a1 a2 (1 : Int32) M else gd (gin a1 4) ((if (M 15 (Int32.toNatClampNeg a1)) = 0 then fX7_drill_38 a1 a2 M else gd (gin a1 4) ((if (M 21 (Int32.toNatClampNeg a1)) = (M 1 0) then fX7_drill_38 a1 a2 M else fX7_drill_43 a1 a2 (0 : Int32) M))))))
def rmX7_drill : Room := { frames := 6, cells := 0, slots := 0, locals := 128 }
set_option maxHeartbeats 4000000 in
set_option maxRecDepth 100000 in
theorem mX7_drill (l : Launch) (D : va_G) (ad : Nat → Nat) (cI cZ : ClassId) (M : MT) (a1 : Int32) (a2 : Int32) (r : Int32) (Mz : MT) (h : fX7_drill a1 a2 M = some (r, Mz)) : Met l yX7_drill wsX7_drill rmX7_drill (va_Pc [.ref (ad 0), .int a1, .int a2] (mP D ad cI cZ M)) (mQi D ad cI cZ r Mz) 0 0 (mA ad) := by
  refine Met.ofW (cc := cX7_drill) (maxL := 8) (ret := some .int) (by decide) rfl ?_
  intro p e s m args below meth c s₁ B hml hv
  obtain ⟨rfl, hI, hN, hK⟩ := hv
  have hx := B.exec
  have hb := B.bytes
  have hr := B.returns
  have hts := atoms_spec (ws := wsX7_drill) B.pre
  have hown : s.vm.findClass RX7 = some m.cls := findClass_of_methodNamed B.named
  have hlocks := B.notSynchronized
  have hin : ∀ w ∈ wsX70, w ∈ wsX7_drill := fun w h => List.mem_cons_of_mem _ (List.mem_append_right _ h)
  have l0 := hts (.fieldLink RX7 41 "PanyardModel" "seats" "[I") (List.mem_of_getElem? (i := 1) rfl)
  have l1 := hts (.fieldLink RX7 59 "PanyardModel" "drilled" "[I") (List.mem_of_getElem? (i := 2) rfl)
  have l2 := hts (.fieldLink RX7 143 "PanyardModel" "night" "I") (List.mem_of_getElem? (i := 3) rfl)
  have l3 := hts (.fieldLink RX7 56 "PanyardModel" "next" "[I") (List.mem_of_getElem? (i := 4) rfl)
  have l4 := hts (.fieldLink RX7 53 "PanyardModel" "known" "[I") (List.mem_of_getElem? (i := 5) rfl)
  have l5 := hts (.fieldLink RX7 32 "PanyardModel" "pan" "[I") (List.mem_of_getElem? (i := 6) rfl)
  have l6 := hts (.fieldLink RX7 44 "PanyardModel" "seat" "[I") (List.mem_of_getElem? (i := 7) rfl)
  have l7 := hts (.fieldLink RX7 7 "PanyardModel" "tone" "[I") (List.mem_of_getElem? (i := 8) rfl)
  have hS : va_S (mA ad) s.heap s.heap [] := va_S.rf
  have hl := lv_entry ([.ref (ad 0), .int a1, .int a2]) (n := 8) (Nat.le_of_ble_eq_true rfl)
  rw [lg_entry_eq]
  generalize (lg_sl ([.ref (ad 0), .int a1, .int a2]) ++ List.replicate (8 - (lg_sl ([.ref (ad 0), .int a1, .int a2])).length) Slot.unset).toArray = ls at hl ⊢
  have hl : lv_has ls 8 [(0, .ref (ad 0)), (1, .int a1), (2, .int a2)] := hl
  have w210 : ∀ (k102 : Int32 → Int32 → Int32 → Int32 → MT → Option (Int32 × MT)) (hk102 : (∀ (x1 : Int32) (x2 : Int32) (x4 : Int32) (x5 : Int32) (M : MT), k102 x1 x2 x4 x5 M = some (r, Mz) → mG p l e (headSpec wsX7_drill rmX7_drill).room s m (([.ref (ad 0), .int a1, .int a2] : List Value).toArray) below meth c (MQ below (mQi D ad cI cZ r Mz) (([.ref (ad 0), .int a1, .int a2] : List Value).toArray) s 0 0 (mA ad)) D ad cI cZ 8 M 102 [(0, .ref (ad 0)), (1, .int x1), (2, .int x2), (4, .int x4), (5, .int x5)] [])) (x1 : Int32) (x2 : Int32) (x4 : Int32) (x5 : Int32) (M : MT), fX7_drill_210 k102 x1 x2 x4 x5 M = some (r, Mz) → mG p l e (headSpec wsX7_drill rmX7_drill).room s m (([.ref (ad 0), .int a1, .int a2] : List Value).toArray) below meth c (MQ below (mQi D ad cI cZ r Mz) (([.ref (ad 0), .int a1, .int a2] : List Value).toArray) s 0 0 (mA ad)) D ad cI cZ 8 M 210 [(0, .ref (ad 0)), (1, .int x1), (2, .int x2), (4, .int x4), (5, .int x5)] [] := by
    intro k102 hk102 x1 x2 x4 x5 M h H locs ls hN hS hl
    unfold fX7_drill_210 at h
    obtain ⟨v31, ev31⟩ : ∃ y : Int32, y = (x5 + (1 : Int32)) := ⟨_, rfl⟩
    have h := bnd_ok h ev31
    refine lv_iinc (v := v31) (lv' := [(5, .int v31), (0, .ref (ad 0)), (1, .int x1), (2, .int x2), (4, .int x4)]) hx hb dX7_drill_210 hl (k := 4) rfl (by rw [ev31]; rfl) (by decide) rfl (fun ls hl => ?_)
    refine lv_goto (tgt := 102) hx hb dX7_drill_213 (by decide) ?_
    exact hk102 x1 x2 x4 v31 M h _ _ _ hN hS (lv_sub hl [1, 2, 3, 4, 0] rfl)
  have w176 : ∀ (k102 : Int32 → Int32 → Int32 → Int32 → MT → Option (Int32 × MT)) (hk102 : (∀ (x1 : Int32) (x2 : Int32) (x4 : Int32) (x5 : Int32) (M : MT), k102 x1 x2 x4 x5 M = some (r, Mz) → mG p l e (headSpec wsX7_drill rmX7_drill).room s m (([.ref (ad 0), .int a1, .int a2] : List Value).toArray) below meth c (MQ below (mQi D ad cI cZ r Mz) (([.ref (ad 0), .int a1, .int a2] : List Value).toArray) s 0 0 (mA ad)) D ad cI cZ 8 M 102 [(0, .ref (ad 0)), (1, .int x1), (2, .int x2), (4, .int x4), (5, .int x5)] [])) (x1 : Int32) (x2 : Int32) (x4 : Int32) (x5 : Int32) (x6 : Int32) (x7 : Int32) (M : MT), lf7 (fX7_drill_176 k102) 100 x1 x2 x4 x5 x6 x7 M = some (r, Mz) → mG p l e (headSpec wsX7_drill rmX7_drill).room s m (([.ref (ad 0), .int a1, .int a2] : List Value).toArray) below meth c (MQ below (mQi D ad cI cZ r Mz) (([.ref (ad 0), .int a1, .int a2] : List Value).toArray) s 0 0 (mA ad)) D ad cI cZ 8 M 176 [(0, .ref (ad 0)), (1, .int x1), (2, .int x2), (4, .int x4), (5, .int x5), (6, .int x6), (7, .int x7)] [] := by
    intro k102 hk102
    refine lf7_ok (P := (fun x1 x2 x4 x5 x6 x7 M => mG p l e (headSpec wsX7_drill rmX7_drill).room s m (([.ref (ad 0), .int a1, .int a2] : List Value).toArray) below meth c (MQ below (mQi D ad cI cZ r Mz) (([.ref (ad 0), .int a1, .int a2] : List Value).toArray) s 0 0 (mA ad)) D ad cI cZ 8 M 176 [(0, .ref (ad 0)), (1, .int x1), (2, .int x2), (4, .int x4), (5, .int x5), (6, .int x6), (7, .int x7)] [])) (fun k176 hk176 x1 x2 x4 x5 x6 x7 M h H locs ls hN hS hl => ?_) 100
    unfold fX7_drill_176 at h
    refine lv_iload hx hb dX7_drill_176 (lv_at hl 6 rfl) ?_
    refine lv_iconst (v := (4 : Int32)) hx hb dX7_drill_178 (by decide) ?_
    refine lv_icmp_ge (tgt := 210) hx hb dX7_drill_179 (by decide) (fun hc => ?_) (fun hc => ?_)
    · have h := ite_t h hc
      exact w210 k102 hk102 x1 x2 x4 x5 M h _ _ _ hN hS (lv_sub hl [0, 1, 2, 3, 4] rfl)
    · have h := ite_f h hc
      refine lv_iload hx hb dX7_drill_182 (lv_at hl 5 rfl) ?_
      refine lv_iconst (v := (-1 : Int32)) hx hb dX7_drill_184 (by decide) ?_
      refine lv_icmp_eq (tgt := 210) hx hb dX7_drill_185 (by decide) (fun hc => ?_) (fun hc => ?_)
      · have h := ite_t h hc
        exact w210 k102 hk102 x1 x2 x4 x5 M h _ _ _ hN hS (lv_sub hl [0, 1, 2, 3, 4] rfl)
      · have h := ite_f h hc
        refine lv_aload_n hx hb dX7_drill_188 rfl (lv_at hl 0 rfl) ?_
        refine mg_get hx hb hts hin hown hK hN 4 (by decide) l7 rfl (v := .ref (ad 4)) rfl dX7_drill_189 ?_
        refine lv_iconst (v := (4 : Int32)) hx hb dX7_drill_192 (by decide) ?_
        refine lv_iload hx hb dX7_drill_193 (lv_at hl 5 rfl) ?_
        refine lv_imul hx hb dX7_drill_195 ?_
        refine lv_iload hx hb dX7_drill_196 (lv_at hl 6 rfl) ?_
        refine lv_iadd hx hb dX7_drill_198 ?_
        refine lv_dup2_11 hx hb dX7_drill_199 rfl rfl ?_
        obtain ⟨g27, h⟩ := gd_ok h
        refine mg_ild hx hb hK hN 4 rfl (if_neg (by decide)) (gin_ok g27) dX7_drill_200 ?_
        refine lv_iconst (v := (1 : Int32)) hx hb dX7_drill_201 (by decide) ?_
        refine lv_isub hx hb dX7_drill_202 ?_
        obtain ⟨g28, h⟩ := gd_ok h
        obtain ⟨M29, eM29⟩ : ∃ y : MT, y = (va_up M 4 (upd (M 4) (Int32.toNatClampNeg (((4 : Int32) * x6) + x7)) ((M 4 (Int32.toNatClampNeg (((4 : Int32) * x6) + x7))) - (1 : Int32)))) := ⟨_, rfl⟩
        have h := bnd_ok h eM29
        refine mg_ist hx hb hI hK hN hS 4 rfl (if_neg (by decide)) (gin_ok g28) dX7_drill_203 eM29 (fun H locs hN hS => ?_)
        obtain ⟨v30, ev30⟩ : ∃ y : Int32, y = (x7 + (1 : Int32)) := ⟨_, rfl⟩
        have h := bnd_ok h ev30
        refine lv_iinc (v := v30) (lv' := [(7, .int v30), (0, .ref (ad 0)), (1, .int x1), (2, .int x2), (4, .int x4), (5, .int x5), (6, .int x6)]) hx hb dX7_drill_204 hl (k := 6) rfl (by rw [ev30]; rfl) (by decide) rfl (fun ls hl => ?_)
        refine lv_goto (tgt := 176) hx hb dX7_drill_207 (by decide) ?_
        exact hk176 x1 x2 x4 x5 x6 v30 M29 h _ _ _ hN hS (lv_sub hl [1, 2, 3, 4, 5, 6, 0] rfl)
  have w151 : ∀ (k102 : Int32 → Int32 → Int32 → Int32 → MT → Option (Int32 × MT)) (hk102 : (∀ (x1 : Int32) (x2 : Int32) (x4 : Int32) (x5 : Int32) (M : MT), k102 x1 x2 x4 x5 M = some (r, Mz) → mG p l e (headSpec wsX7_drill rmX7_drill).room s m (([.ref (ad 0), .int a1, .int a2] : List Value).toArray) below meth c (MQ below (mQi D ad cI cZ r Mz) (([.ref (ad 0), .int a1, .int a2] : List Value).toArray) s 0 0 (mA ad)) D ad cI cZ 8 M 102 [(0, .ref (ad 0)), (1, .int x1), (2, .int x2), (4, .int x4), (5, .int x5)] [])) (x1 : Int32) (x2 : Int32) (x5 : Int32) (t0 : Int32) (t1 : Int32) (M : MT), fX7_drill_151 k102 x1 x2 x5 t0 t1 M = some (r, Mz) → mG p l e (headSpec wsX7_drill rmX7_drill).room s m (([.ref (ad 0), .int a1, .int a2] : List Value).toArray) below meth c (MQ below (mQi D ad cI cZ r Mz) (([.ref (ad 0), .int a1, .int a2] : List Value).toArray) s 0 0 (mA ad)) D ad cI cZ 8 M 151 [(0, .ref (ad 0)), (1, .int x1), (2, .int x2), (5, .int x5)] [.int t0, .int t1] := by
    intro k102 hk102 x1 x2 x5 t0 t1 M h H locs ls hN hS hl
    unfold fX7_drill_151 at h
    refine lv_iadd hx hb dX7_drill_151 ?_
    refine lv_topi (fun v23 ev23 => ?_)
    have h := bnd_ok h ev23
    refine lv_istore (lv' := [(4, .int v23), (0, .ref (ad 0)), (1, .int x1), (2, .int x2), (5, .int x5)]) hx hb dX7_drill_152 hl (by decide) rfl (fun ls hl => ?_)
    refine lv_aload_n hx hb dX7_drill_154 rfl (lv_at hl 1 rfl) ?_
    refine mg_get hx hb hts hin hown hK hN 12 (by decide) l5 rfl (v := .ref (ad 12)) rfl dX7_drill_155 ?_
    refine lv_aload_n hx hb dX7_drill_158 rfl (lv_at hl 1 rfl) ?_
    refine mg_get hx hb hts hin hown hK hN 16 (by decide) l6 rfl (v := .ref (ad 16)) rfl dX7_drill_159 ?_
    refine lv_bipush (v := (8 : Int32)) hx hb dX7_drill_162 (by decide) ?_
    refine lv_iload_n hx hb dX7_drill_164 rfl (lv_at hl 2 rfl) ?_
    refine lv_imul hx hb dX7_drill_165 ?_
    refine lv_iload hx hb dX7_drill_166 (lv_at hl 4 rfl) ?_
    refine lv_iadd hx hb dX7_drill_168 ?_
    obtain ⟨g24, h⟩ := gd_ok h
    refine mg_ild hx hb hK hN 16 rfl (if_neg (by decide)) (gin_ok g24) dX7_drill_169 ?_
    obtain ⟨g25, h⟩ := gd_ok h
    refine mg_ild hx hb hK hN 12 rfl (if_neg (by decide)) (gin_ok g25) dX7_drill_170 ?_
    refine lv_topi (fun v26 ev26 => ?_)
    have h := bnd_ok h ev26
    refine lv_istore (lv' := [(6, .int v26), (4, .int v23), (0, .ref (ad 0)), (1, .int x1), (2, .int x2), (5, .int x5)]) hx hb dX7_drill_171 hl (by decide) rfl (fun ls hl => ?_)
    refine lv_iconst (v := (0 : Int32)) hx hb dX7_drill_173 (by decide) ?_
    refine lv_istore (lv' := [(7, .int (0 : Int32)), (6, .int v26), (4, .int v23), (0, .ref (ad 0)), (1, .int x1), (2, .int x2), (5, .int x5)]) hx hb dX7_drill_174 hl (by decide) rfl (fun ls hl => ?_)
    exact w176 k102 hk102 x1 x2 v23 x5 v26 (0 : Int32) M h _ _ _ hN hS (lv_sub hl [3, 4, 5, 2, 6, 1, 0] rfl)
  have w216 : ∀ (x4 : Int32) (M : MT), fX7_drill_216  x4 M = some (r, Mz) → mG p l e (headSpec wsX7_drill rmX7_drill).room s m (([.ref (ad 0), .int a1, .int a2] : List Value).toArray) below meth c (MQ below (mQi D ad cI cZ r Mz) (([.ref (ad 0), .int a1, .int a2] : List Value).toArray) s 0 0 (mA ad)) D ad cI cZ 8 M 216 [(0, .ref (ad 0)), (4, .int x4)] [] := by
    intro  x4 M h H locs ls hN hS hl
    unfold fX7_drill_216 at h
    refine lv_iload hx hb dX7_drill_216 (lv_at hl 1 rfl) ?_
    exact W.iret hx hb hr (mg_endi h hI hK hN hS) hS.2.2 dX7_drill_218
  have w102 : ∀ (x1 : Int32) (x2 : Int32) (x4 : Int32) (x5 : Int32) (M : MT), lf5 fX7_drill_102 100 x1 x2 x4 x5 M = some (r, Mz) → mG p l e (headSpec wsX7_drill rmX7_drill).room s m (([.ref (ad 0), .int a1, .int a2] : List Value).toArray) below meth c (MQ below (mQi D ad cI cZ r Mz) (([.ref (ad 0), .int a1, .int a2] : List Value).toArray) s 0 0 (mA ad)) D ad cI cZ 8 M 102 [(0, .ref (ad 0)), (1, .int x1), (2, .int x2), (4, .int x4), (5, .int x5)] [] := by
    skip
    refine lf5_ok (P := (fun x1 x2 x4 x5 M => mG p l e (headSpec wsX7_drill rmX7_drill).room s m (([.ref (ad 0), .int a1, .int a2] : List Value).toArray) below meth c (MQ below (mQi D ad cI cZ r Mz) (([.ref (ad 0), .int a1, .int a2] : List Value).toArray) s 0 0 (mA ad)) D ad cI cZ 8 M 102 [(0, .ref (ad 0)), (1, .int x1), (2, .int x2), (4, .int x4), (5, .int x5)] [])) (fun k102 hk102 x1 x2 x4 x5 M h H locs ls hN hS hl => ?_) 100
    unfold fX7_drill_102 at h
    refine lv_iload hx hb dX7_drill_102 (lv_at hl 4 rfl) ?_
    refine lv_aload_n hx hb dX7_drill_104 rfl (lv_at hl 0 rfl) ?_
    refine mg_get hx hb hts hin hown hK hN 15 (by decide) l0 rfl (v := .ref (ad 15)) rfl dX7_drill_105 ?_
    refine lv_iload_n hx hb dX7_drill_108 rfl (lv_at hl 1 rfl) ?_
    obtain ⟨g16, h⟩ := gd_ok h
    refine mg_ild hx hb hK hN 15 rfl (if_neg (by decide)) (gin_ok g16) dX7_drill_109 ?_
    refine lv_icmp_ge (tgt := 216) hx hb dX7_drill_110 (by decide) (fun hc => ?_) (fun hc => ?_)
    · have h := ite_t h hc
      exact w216  x4 M h _ _ _ hN hS (lv_sub hl [0, 3] rfl)
    · have h := ite_f h hc
      refine lv_aload_n hx hb dX7_drill_113 rfl (lv_at hl 0 rfl) ?_
      refine mg_get hx hb hts hin hown hK hN 19 (by decide) l4 rfl (v := .ref (ad 19)) rfl dX7_drill_114 ?_
      refine lv_aload_n hx hb dX7_drill_117 rfl (lv_at hl 0 rfl) ?_
      refine lv_iload_n hx hb dX7_drill_118 rfl (lv_at hl 1 rfl) ?_
      refine lv_iload hx hb dX7_drill_119 (lv_at hl 4 rfl) ?_
      refine lv_iload_n hx hb dX7_drill_121 rfl (lv_at hl 2 rfl) ?_
      obtain ⟨v17, c18, h⟩ := cl1_ok h
      refine mg_calli (va_runV (As := [.int x1, .int x5, .int x2]) (rest := [.ref (ad 19)]) ⟨hx, hb, hml, hown, hts⟩ (mX7_at l D ad cI cZ M x1 x5 x2 v17 c18) (cwV 3 hts gX7_drill_X7_at rfl rfl rfl (by decide +kernel) ⟨Nat.le_of_ble_eq_true rfl, Nat.le_of_ble_eq_true rfl⟩) (mg_preV hI hK hN) rfl rfl hl.1 rfl (lv_room (Nat.le_of_ble_eq_true rfl)) dX7_drill_122 ⟨Nat.zero_le _, Nat.zero_le _⟩) hS (fun H locs hN hS => ?_)
      refine lv_aload_n hx hb dX7_drill_125 rfl (lv_at hl 0 rfl) ?_
      refine mg_get hx hb hts hin hown hK hN 20 (by decide) l3 rfl (v := .ref (ad 20)) rfl dX7_drill_126 ?_
      refine lv_iload hx hb dX7_drill_129 (lv_at hl 4 rfl) ?_
      obtain ⟨g19, h⟩ := gd_ok h
      refine mg_ild hx hb hK hN 20 rfl (if_neg (by decide)) (gin_ok g19) dX7_drill_131 ?_
      obtain ⟨g20, h⟩ := gd_ok h
      obtain ⟨M21, eM21⟩ : ∃ y : MT, y = (va_up M 19 (upd (M 19) (Int32.toNatClampNeg v17) (M 20 (Int32.toNatClampNeg x5)))) := ⟨_, rfl⟩
      have h := bnd_ok h eM21
      refine mg_ist hx hb hI hK hN hS 19 rfl (if_neg (by decide)) (gin_ok g20) dX7_drill_132 eM21 (fun H locs hN hS => ?_)
      refine lv_iload hx hb dX7_drill_133 (lv_at hl 3 rfl) ?_
      refine lv_aload_n hx hb dX7_drill_135 rfl (lv_at hl 0 rfl) ?_
      refine mg_get hx hb hts hin hown hK hN 20 (by decide) l3 rfl (v := .ref (ad 20)) rfl dX7_drill_136 ?_
      refine lv_iload hx hb dX7_drill_139 (lv_at hl 4 rfl) ?_
      obtain ⟨g22, h⟩ := gd_ok h
      refine mg_ild hx hb hK hN 20 rfl (if_neg (by decide)) (gin_ok g22) dX7_drill_141 ?_
      refine lv_iconst (v := (1 : Int32)) hx hb dX7_drill_142 (by decide) ?_
      refine lv_icmp_ne (tgt := 150) hx hb dX7_drill_143 (by decide) (fun hc => ?_) (fun hc => ?_)
      · have h := ite_f h hc
        refine lv_iconst (v := (0 : Int32)) hx hb dX7_drill_150 (by decide) ?_
        exact w151 k102 hk102 x1 x2 x5 (0 : Int32) x4 M21 h _ _ _ hN hS (lv_sub hl [0, 1, 2, 4] rfl)
      · have h := ite_t h hc
        refine lv_iconst (v := (1 : Int32)) hx hb dX7_drill_146 (by decide) ?_
        refine lv_goto (tgt := 151) hx hb dX7_drill_147 (by decide) ?_
        exact w151 k102 hk102 x1 x2 x5 (1 : Int32) x4 M21 h _ _ _ hN hS (lv_sub hl [0, 1, 2, 4] rfl)
  have w96 : ∀ (x1 : Int32) (x2 : Int32) (M : MT), fX7_drill_96  x1 x2 M = some (r, Mz) → mG p l e (headSpec wsX7_drill rmX7_drill).room s m (([.ref (ad 0), .int a1, .int a2] : List Value).toArray) below meth c (MQ below (mQi D ad cI cZ r Mz) (([.ref (ad 0), .int a1, .int a2] : List Value).toArray) s 0 0 (mA ad)) D ad cI cZ 8 M 96 [(0, .ref (ad 0)), (1, .int x1), (2, .int x2)] [] := by
    intro  x1 x2 M h H locs ls hN hS hl
    unfold fX7_drill_96 at h
    refine lv_iconst (v := (0 : Int32)) hx hb dX7_drill_96 (by decide) ?_
    refine lv_istore (lv' := [(4, .int (0 : Int32)), (0, .ref (ad 0)), (1, .int x1), (2, .int x2)]) hx hb dX7_drill_97 hl (by decide) rfl (fun ls hl => ?_)
    refine lv_iconst (v := (0 : Int32)) hx hb dX7_drill_99 (by decide) ?_
    refine lv_istore (lv' := [(5, .int (0 : Int32)), (4, .int (0 : Int32)), (0, .ref (ad 0)), (1, .int x1), (2, .int x2)]) hx hb dX7_drill_100 hl (by decide) rfl (fun ls hl => ?_)
    exact w102  x1 x2 (0 : Int32) (0 : Int32) M h _ _ _ hN hS (lv_sub hl [2, 3, 4, 1, 0] rfl)
  have w64 : ∀ (x1 : Int32) (x2 : Int32) (x4 : Int32) (M : MT), lf4 fX7_drill_64 100 x1 x2 x4 M = some (r, Mz) → mG p l e (headSpec wsX7_drill rmX7_drill).room s m (([.ref (ad 0), .int a1, .int a2] : List Value).toArray) below meth c (MQ below (mQi D ad cI cZ r Mz) (([.ref (ad 0), .int a1, .int a2] : List Value).toArray) s 0 0 (mA ad)) D ad cI cZ 8 M 64 [(0, .ref (ad 0)), (1, .int x1), (2, .int x2), (4, .int x4)] [] := by
    skip
    refine lf4_ok (P := (fun x1 x2 x4 M => mG p l e (headSpec wsX7_drill rmX7_drill).room s m (([.ref (ad 0), .int a1, .int a2] : List Value).toArray) below meth c (MQ below (mQi D ad cI cZ r Mz) (([.ref (ad 0), .int a1, .int a2] : List Value).toArray) s 0 0 (mA ad)) D ad cI cZ 8 M 64 [(0, .ref (ad 0)), (1, .int x1), (2, .int x2), (4, .int x4)] [])) (fun k64 hk64 x1 x2 x4 M h H locs ls hN hS hl => ?_) 100
    unfold fX7_drill_64 at h
    refine lv_iload hx hb dX7_drill_64 (lv_at hl 3 rfl) ?_
    refine lv_aload_n hx hb dX7_drill_66 rfl (lv_at hl 0 rfl) ?_
    refine mg_get hx hb hts hin hown hK hN 15 (by decide) l0 rfl (v := .ref (ad 15)) rfl dX7_drill_67 ?_
    refine lv_iload_n hx hb dX7_drill_70 rfl (lv_at hl 1 rfl) ?_
    obtain ⟨g10, h⟩ := gd_ok h
    refine mg_ild hx hb hK hN 15 rfl (if_neg (by decide)) (gin_ok g10) dX7_drill_71 ?_
    refine lv_icmp_ge (tgt := 96) hx hb dX7_drill_72 (by decide) (fun hc => ?_) (fun hc => ?_)
    · have h := ite_t h hc
      exact w96  x1 x2 M h _ _ _ hN hS (lv_sub hl [0, 1, 2] rfl)
    · have h := ite_f h hc
      refine lv_aload_n hx hb dX7_drill_75 rfl (lv_at hl 0 rfl) ?_
      refine mg_get hx hb hts hin hown hK hN 20 (by decide) l3 rfl (v := .ref (ad 20)) rfl dX7_drill_76 ?_
      refine lv_iload hx hb dX7_drill_79 (lv_at hl 3 rfl) ?_
      refine lv_aload_n hx hb dX7_drill_81 rfl (lv_at hl 0 rfl) ?_
      refine lv_iload_n hx hb dX7_drill_82 rfl (lv_at hl 1 rfl) ?_
      refine lv_iload hx hb dX7_drill_83 (lv_at hl 3 rfl) ?_
      refine lv_iload_n hx hb dX7_drill_85 rfl (lv_at hl 2 rfl) ?_
      obtain ⟨v11, c12, h⟩ := cl1_ok h
      refine mg_calli (va_runV (As := [.int x1, .int x4, .int x2]) (rest := [.int x4, .ref (ad 20)]) ⟨hx, hb, hml, hown, hts⟩ (mX7_learns l D ad cI cZ M x1 x4 x2 v11 c12) (cwV 3 hts gX7_drill_X7_learns rfl rfl rfl (by decide +kernel) ⟨Nat.le_of_ble_eq_true rfl, Nat.le_of_ble_eq_true rfl⟩) (mg_preV hI hK hN) rfl rfl hl.1 rfl (lv_room (Nat.le_of_ble_eq_true rfl)) dX7_drill_86 ⟨Nat.zero_le _, Nat.zero_le _⟩) hS (fun H locs hN hS => ?_)
      obtain ⟨g13, h⟩ := gd_ok h
      obtain ⟨M14, eM14⟩ : ∃ y : MT, y = (va_up M 20 (upd (M 20) (Int32.toNatClampNeg x4) v11)) := ⟨_, rfl⟩
      have h := bnd_ok h eM14
      refine mg_ist hx hb hI hK hN hS 20 rfl (if_neg (by decide)) (gin_ok g13) dX7_drill_89 eM14 (fun H locs hN hS => ?_)
      obtain ⟨v15, ev15⟩ : ∃ y : Int32, y = (x4 + (1 : Int32)) := ⟨_, rfl⟩
      have h := bnd_ok h ev15
      refine lv_iinc (v := v15) (lv' := [(4, .int v15), (0, .ref (ad 0)), (1, .int x1), (2, .int x2)]) hx hb dX7_drill_90 hl (k := 3) rfl (by rw [ev15]; rfl) (by decide) rfl (fun ls hl => ?_)
      refine lv_goto (tgt := 64) hx hb dX7_drill_93 (by decide) ?_
      exact hk64 x1 x2 v15 M14 h _ _ _ hN hS (lv_sub hl [1, 2, 3, 0] rfl)
  have w43 : ∀ (x1 : Int32) (x2 : Int32) (t0 : Int32) (M : MT), fX7_drill_43  x1 x2 t0 M = some (r, Mz) → mG p l e (headSpec wsX7_drill rmX7_drill).room s m (([.ref (ad 0), .int a1, .int a2] : List Value).toArray) below meth c (MQ below (mQi D ad cI cZ r Mz) (([.ref (ad 0), .int a1, .int a2] : List Value).toArray) s 0 0 (mA ad)) D ad cI cZ 8 M 43 [(0, .ref (ad 0)), (1, .int x1), (2, .int x2)] [.int t0, .ref (ad 0)] := by
    intro  x1 x2 t0 M h H locs ls hN hS hl
    unfold fX7_drill_43 at h
    obtain ⟨v5, M6, c7, h⟩ := cl2_ok h
    refine mg_calli (va_runV (As := [.int t0]) (rest := []) ⟨hx, hb, hml, hown, hts⟩ (mX7_holds l D ad cI cZ M t0 v5 M6 c7) (cwV 1 hts gX7_drill_X7_holds rfl rfl rfl (by decide +kernel) ⟨Nat.le_of_ble_eq_true rfl, Nat.le_of_ble_eq_true rfl⟩) (mg_preV hI hK hN) rfl rfl hl.1 rfl (lv_room (Nat.le_of_ble_eq_true rfl)) dX7_drill_43 ⟨Nat.zero_le _, Nat.zero_le _⟩) hS (fun H locs hN hS => ?_)
    refine lv_if_ne (tgt := 51) hx hb dX7_drill_46 (by decide) (fun hc => ?_) (fun hc => ?_)
    · have h := ite_f h hc
      refine lv_aload_n hx hb dX7_drill_51 rfl (lv_at hl 0 rfl) ?_
      refine mg_get hx hb hts hin hown hK hN 21 (by decide) l1 rfl (v := .ref (ad 21)) rfl dX7_drill_52 ?_
      refine lv_iload_n hx hb dX7_drill_55 rfl (lv_at hl 1 rfl) ?_
      refine lv_aload_n hx hb dX7_drill_56 rfl (lv_at hl 0 rfl) ?_
      refine mg_get hx hb hts hin hown hK hN 1 (by decide) l2 rfl (v := .int (M6 1 0)) rfl dX7_drill_57 ?_
      obtain ⟨g8, h⟩ := gd_ok h
      obtain ⟨M9, eM9⟩ : ∃ y : MT, y = (va_up M6 21 (upd (M6 21) (Int32.toNatClampNeg x1) (M6 1 0))) := ⟨_, rfl⟩
      have h := bnd_ok h eM9
      refine mg_ist hx hb hI hK hN hS 21 rfl (if_neg (by decide)) (gin_ok g8) dX7_drill_60 eM9 (fun H locs hN hS => ?_)
      refine lv_iconst (v := (0 : Int32)) hx hb dX7_drill_61 (by decide) ?_
      refine lv_istore (lv' := [(4, .int (0 : Int32)), (0, .ref (ad 0)), (1, .int x1), (2, .int x2)]) hx hb dX7_drill_62 hl (by decide) rfl (fun ls hl => ?_)
      exact w64  x1 x2 (0 : Int32) M9 h _ _ _ hN hS (lv_sub hl [1, 2, 3, 0] rfl)
    · have h := ite_t h hc
      refine lv_iconst (v := (0 : Int32)) hx hb dX7_drill_49 (by decide) ?_
      exact W.iret hx hb hr (mg_endi h hI hK hN hS) hS.2.2 dX7_drill_50
  have w38 : ∀ (x1 : Int32) (x2 : Int32) (M : MT), fX7_drill_38  x1 x2 M = some (r, Mz) → mG p l e (headSpec wsX7_drill rmX7_drill).room s m (([.ref (ad 0), .int a1, .int a2] : List Value).toArray) below meth c (MQ below (mQi D ad cI cZ r Mz) (([.ref (ad 0), .int a1, .int a2] : List Value).toArray) s 0 0 (mA ad)) D ad cI cZ 8 M 38 [(0, .ref (ad 0)), (1, .int x1), (2, .int x2)] [.ref (ad 0)] := by
    intro  x1 x2 M h H locs ls hN hS hl
    unfold fX7_drill_38 at h
    refine lv_iconst (v := (2 : Int32)) hx hb dX7_drill_38 (by decide) ?_
    refine lv_goto (tgt := 43) hx hb dX7_drill_39 (by decide) ?_
    exact w43  x1 x2 (2 : Int32) M h _ _ _ hN hS (lv_sub hl [0, 1, 2] rfl)
  unfold fX7_drill at h
  refine lv_aload_n hx hb dX7_drill_0 rfl (lv_at hl 0 rfl) ?_
  refine lv_iload_n hx hb dX7_drill_1 rfl (lv_at hl 1 rfl) ?_
  refine lv_iload_n hx hb dX7_drill_2 rfl (lv_at hl 2 rfl) ?_
  obtain ⟨v1, c2, h⟩ := cl1_ok h
  refine mg_calli (va_runV (As := [.int a1, .int a2]) (rest := []) ⟨hx, hb, hml, hown, hts⟩ (mX7_isPhrase l D ad cI cZ M a1 a2 v1 c2) (cwV 2 hts gX7_drill_X7_isPhrase rfl rfl rfl (by decide +kernel) ⟨Nat.le_of_ble_eq_true rfl, Nat.le_of_ble_eq_true rfl⟩) (mg_preV hI hK hN) rfl rfl hl.1 rfl (lv_room (Nat.le_of_ble_eq_true rfl)) dX7_drill_3 ⟨Nat.zero_le _, Nat.zero_le _⟩) hS (fun H locs hN hS => ?_)
  refine lv_istore_n (lv' := [(3, .int v1), (0, .ref (ad 0)), (1, .int a1), (2, .int a2)]) hx hb dX7_drill_6 rfl hl (by decide) rfl (fun ls hl => ?_)
  refine lv_aload_n hx hb dX7_drill_7 rfl (lv_at hl 1 rfl) ?_
  refine lv_iload_n hx hb dX7_drill_8 rfl (lv_at hl 0 rfl) ?_
  refine lv_if_ne (tgt := 16) hx hb dX7_drill_9 (by decide) (fun hc => ?_) (fun hc => ?_)
  · have h := ite_f h hc
    refine lv_aload_n hx hb dX7_drill_16 rfl (lv_at hl 1 rfl) ?_
    refine mg_get hx hb hts hin hown hK hN 15 (by decide) l0 rfl (v := .ref (ad 15)) rfl dX7_drill_17 ?_
    refine lv_iload_n hx hb dX7_drill_20 rfl (lv_at hl 2 rfl) ?_
    obtain ⟨g3, h⟩ := gd_ok h
    refine mg_ild hx hb hK hN 15 rfl (if_neg (by decide)) (gin_ok g3) dX7_drill_21 ?_
    refine lv_if_eq (tgt := 38) hx hb dX7_drill_22 (by decide) (fun hc => ?_) (fun hc => ?_)
    · have h := ite_t h hc
      exact w38  a1 a2 M h _ _ _ hN hS (lv_sub hl [1, 2, 3] rfl)
    · have h := ite_f h hc
      refine lv_aload_n hx hb dX7_drill_25 rfl (lv_at hl 1 rfl) ?_
      refine mg_get hx hb hts hin hown hK hN 21 (by decide) l1 rfl (v := .ref (ad 21)) rfl dX7_drill_26 ?_
      refine lv_iload_n hx hb dX7_drill_29 rfl (lv_at hl 2 rfl) ?_
      obtain ⟨g4, h⟩ := gd_ok h
      refine mg_ild hx hb hK hN 21 rfl (if_neg (by decide)) (gin_ok g4) dX7_drill_30 ?_
      refine lv_aload_n hx hb dX7_drill_31 rfl (lv_at hl 1 rfl) ?_
      refine mg_get hx hb hts hin hown hK hN 1 (by decide) l2 rfl (v := .int (M 1 0)) rfl dX7_drill_32 ?_
      refine lv_icmp_ne (tgt := 42) hx hb dX7_drill_35 (by decide) (fun hc => ?_) (fun hc => ?_)
      · have h := ite_f h hc
        refine lv_iconst (v := (0 : Int32)) hx hb dX7_drill_42 (by decide) ?_
        exact w43  a1 a2 (0 : Int32) M h _ _ _ hN hS (lv_sub hl [1, 2, 3] rfl)
      · have h := ite_t h hc
        exact w38  a1 a2 M h _ _ _ hN hS (lv_sub hl [1, 2, 3] rfl)
  · have h := ite_t h hc
    refine lv_iconst (v := (1 : Int32)) hx hb dX7_drill_12 (by decide) ?_
    refine lv_goto (tgt := 43) hx hb dX7_drill_13 (by decide) ?_
    exact w43  a1 a2 (1 : Int32) M h _ _ _ hN hS (lv_sub hl [1, 2, 3] rfl)
def fX7_pass_32 (x1 : Int32) (t0 : Int32) (M : MT) : Option (Int32 × MT) := cl2 (fX7_holds t0 M) (fun v3 M4 => (if v3 = 0 then some ((0 : Int32), M4) else bnd (va_up M4 1 (fun _ => ((M4 1 0) + x1))) (fun M6 => some ((M6 1 0), M6))))
def fX7_pass (a1 : Int32) (M : MT) : Option (Int32 × MT) := cl1 (fX7_isIn a1 (1 : Int32) (30 : Int32)) (fun v1 => (if v1 = 0 then fX7_pass_32 a1 (1 : Int32) M else (if ((M 1 0) + a1) ≤ (1000 : Int32) then fX7_pass_32 a1 (0 : Int32) M else fX7_pass_32 a1 (2 : Int32) M)))
def rmX7_pass : Room := { frames := 2, cells := 0, slots := 0, locals := 36 }
set_option maxHeartbeats 4000000 in
set_option maxRecDepth 100000 in
theorem mX7_pass (l : Launch) (D : va_G) (ad : Nat → Nat) (cI cZ : ClassId) (M : MT) (a1 : Int32) (r : Int32) (Mz : MT) (h : fX7_pass a1 M = some (r, Mz)) : Met l yX7_pass wsX7_pass rmX7_pass (va_Pc [.ref (ad 0), .int a1] (mP D ad cI cZ M)) (mQi D ad cI cZ r Mz) 0 0 (mA ad) := by
  refine Met.ofW (cc := cX7_pass) (maxL := 2) (ret := some .int) (by decide) rfl ?_
  intro p e s m args below meth c s₁ B hml hv
  obtain ⟨rfl, hI, hN, hK⟩ := hv
  have hx := B.exec
  have hb := B.bytes
  have hr := B.returns
  have hts := atoms_spec (ws := wsX7_pass) B.pre
  have hown : s.vm.findClass RX7 = some m.cls := findClass_of_methodNamed B.named
  have hlocks := B.notSynchronized
  have hin : ∀ w ∈ wsX70, w ∈ wsX7_pass := fun w h => List.mem_cons_of_mem _ (List.mem_append_right _ h)
  have l0 := hts (.fieldLink RX7 143 "PanyardModel" "night" "I") (List.mem_of_getElem? (i := 1) rfl)
  have hS : va_S (mA ad) s.heap s.heap [] := va_S.rf
  have hl := lv_entry ([.ref (ad 0), .int a1]) (n := 2) (Nat.le_of_ble_eq_true rfl)
  rw [lg_entry_eq]
  generalize (lg_sl ([.ref (ad 0), .int a1]) ++ List.replicate (2 - (lg_sl ([.ref (ad 0), .int a1])).length) Slot.unset).toArray = ls at hl ⊢
  have hl : lv_has ls 2 [(0, .ref (ad 0)), (1, .int a1)] := hl
  have w32 : ∀ (x1 : Int32) (t0 : Int32) (M : MT), fX7_pass_32  x1 t0 M = some (r, Mz) → mG p l e (headSpec wsX7_pass rmX7_pass).room s m (([.ref (ad 0), .int a1] : List Value).toArray) below meth c (MQ below (mQi D ad cI cZ r Mz) (([.ref (ad 0), .int a1] : List Value).toArray) s 0 0 (mA ad)) D ad cI cZ 2 M 32 [(0, .ref (ad 0)), (1, .int x1)] [.int t0, .ref (ad 0)] := by
    intro  x1 t0 M h H locs ls hN hS hl
    unfold fX7_pass_32 at h
    obtain ⟨v3, M4, c5, h⟩ := cl2_ok h
    refine mg_calli (va_runV (As := [.int t0]) (rest := []) ⟨hx, hb, hml, hown, hts⟩ (mX7_holds l D ad cI cZ M t0 v3 M4 c5) (cwV 1 hts gX7_pass_X7_holds rfl rfl rfl (by decide +kernel) ⟨Nat.le_of_ble_eq_true rfl, Nat.le_of_ble_eq_true rfl⟩) (mg_preV hI hK hN) rfl rfl hl.1 rfl (lv_room (Nat.le_of_ble_eq_true rfl)) dX7_pass_32 ⟨Nat.zero_le _, Nat.zero_le _⟩) hS (fun H locs hN hS => ?_)
    refine lv_if_ne (tgt := 40) hx hb dX7_pass_35 (by decide) (fun hc => ?_) (fun hc => ?_)
    · have h := ite_f h hc
      refine lv_aload_n hx hb dX7_pass_40 rfl (lv_at hl 0 rfl) ?_
      refine lv_dup hx hb dX7_pass_41 rfl ?_
      refine mg_get hx hb hts hin hown hK hN 1 (by decide) l0 rfl (v := .int (M4 1 0)) rfl dX7_pass_42 ?_
      refine lv_iload_n hx hb dX7_pass_45 rfl (lv_at hl 1 rfl) ?_
      refine lv_iadd hx hb dX7_pass_46 ?_
      obtain ⟨M6, eM6⟩ : ∃ y : MT, y = (va_up M4 1 (fun _ => ((M4 1 0) + x1))) := ⟨_, rfl⟩
      have h := bnd_ok h eM6
      refine mg_put hx hb hts hin hown hI hK hN hS 1 (by decide) rfl l0 rfl rfl (by decide +kernel) rfl dX7_pass_47 eM6 (fun H locs hN hS => ?_)
      refine lv_aload_n hx hb dX7_pass_50 rfl (lv_at hl 0 rfl) ?_
      refine mg_get hx hb hts hin hown hK hN 1 (by decide) l0 rfl (v := .int (M6 1 0)) rfl dX7_pass_51 ?_
      exact W.iret hx hb hr (mg_endi h hI hK hN hS) hS.2.2 dX7_pass_54
    · have h := ite_t h hc
      refine lv_iconst (v := (0 : Int32)) hx hb dX7_pass_38 (by decide) ?_
      exact W.iret hx hb hr (mg_endi h hI hK hN hS) hS.2.2 dX7_pass_39
  unfold fX7_pass at h
  refine lv_aload_n hx hb dX7_pass_0 rfl (lv_at hl 0 rfl) ?_
  refine lv_iload_n hx hb dX7_pass_1 rfl (lv_at hl 1 rfl) ?_
  refine lv_iconst (v := (1 : Int32)) hx hb dX7_pass_2 (by decide) ?_
  refine lv_bipush (v := (30 : Int32)) hx hb dX7_pass_3 (by decide) ?_
  obtain ⟨v1, c2, h⟩ := cl1_ok h
  refine mg_calli (va_runS (As := [.int a1, .int (1 : Int32), .int (30 : Int32)]) (rest := [.ref (ad 0)]) ⟨hx, hb, hml, hown, hts⟩ (mX7_isIn l D ad cI cZ M a1 (1 : Int32) (30 : Int32) v1 c2) (va_cwS 3 hts gX7_pass_X7_isIn rfl rfl rfl (by decide +kernel) ⟨Nat.le_of_ble_eq_true rfl, Nat.le_of_ble_eq_true rfl⟩) (mg_preS hI hK hN) rfl rfl hl.1 rfl (lv_room (Nat.le_of_ble_eq_true rfl)) dX7_pass_5 ⟨Nat.zero_le _, Nat.zero_le _⟩) hS (fun H locs hN hS => ?_)
  refine lv_if_ne (tgt := 15) hx hb dX7_pass_8 (by decide) (fun hc => ?_) (fun hc => ?_)
  · have h := ite_f h hc
    refine lv_aload_n hx hb dX7_pass_15 rfl (lv_at hl 0 rfl) ?_
    refine mg_get hx hb hts hin hown hK hN 1 (by decide) l0 rfl (v := .int (M 1 0)) rfl dX7_pass_16 ?_
    refine lv_iload_n hx hb dX7_pass_19 rfl (lv_at hl 1 rfl) ?_
    refine lv_iadd hx hb dX7_pass_20 ?_
    refine lv_sipush (v := (1000 : Int32)) hx hb dX7_pass_21 (by decide) ?_
    refine lv_icmp_le (tgt := 31) hx hb dX7_pass_24 (by decide) (fun hc => ?_) (fun hc => ?_)
    · have h := ite_t h hc
      refine lv_iconst (v := (0 : Int32)) hx hb dX7_pass_31 (by decide) ?_
      exact w32  a1 (0 : Int32) M h _ _ _ hN hS (lv_sub hl [0, 1] rfl)
    · have h := ite_f h hc
      refine lv_iconst (v := (2 : Int32)) hx hb dX7_pass_27 (by decide) ?_
      refine lv_goto (tgt := 32) hx hb dX7_pass_28 (by decide) ?_
      exact w32  a1 (2 : Int32) M h _ _ _ hN hS (lv_sub hl [0, 1] rfl)
  · have h := ite_t h hc
    refine lv_iconst (v := (1 : Int32)) hx hb dX7_pass_11 (by decide) ?_
    refine lv_goto (tgt := 32) hx hb dX7_pass_12 (by decide) ?_
    exact w32  a1 (1 : Int32) M h _ _ _ hN hS (lv_sub hl [0, 1] rfl)
def fX7_seat_36 (t0 : Int32) (M : MT) : Option (Int32 × MT) := some (t0, M)
def fX7_seat_15 (x1 : Int32) (x2 : Int32) (t0 : Int32) (M : MT) : Option (Int32 × MT) := cl2 (fX7_holds t0 M) (fun v3 M4 => (if v3 = 0 then fX7_seat_36 (0 : Int32) M4 else gd (gin (((8 : Int32) * x1) + x2) 32) (fX7_seat_36 (M4 16 (Int32.toNatClampNeg (((8 : Int32) * x1) + x2))) M4)))
def fX7_seat (a1 : Int32) (a2 : Int32) (M : MT) : Option (Int32 × MT) := cl1 (fX7_isSeat a1 a2 M) (fun v1 => (if v1 = 0 then fX7_seat_15 a1 a2 (1 : Int32) M else fX7_seat_15 a1 a2 (0 : Int32) M))
def rmX7_seat : Room := { frames := 4, cells := 0, slots := 0, locals := 78 }
set_option maxHeartbeats 4000000 in
set_option maxRecDepth 100000 in
theorem mX7_seat (l : Launch) (D : va_G) (ad : Nat → Nat) (cI cZ : ClassId) (M : MT) (a1 : Int32) (a2 : Int32) (r : Int32) (Mz : MT) (h : fX7_seat a1 a2 M = some (r, Mz)) : Met l yX7_seat wsX7_seat rmX7_seat (va_Pc [.ref (ad 0), .int a1, .int a2] (mP D ad cI cZ M)) (mQi D ad cI cZ r Mz) 0 0 (mA ad) := by
  refine Met.ofW (cc := cX7_seat) (maxL := 3) (ret := some .int) (by decide) rfl ?_
  intro p e s m args below meth c s₁ B hml hv
  obtain ⟨rfl, hI, hN, hK⟩ := hv
  have hx := B.exec
  have hb := B.bytes
  have hr := B.returns
  have hts := atoms_spec (ws := wsX7_seat) B.pre
  have hown : s.vm.findClass RX7 = some m.cls := findClass_of_methodNamed B.named
  have hlocks := B.notSynchronized
  have hin : ∀ w ∈ wsX70, w ∈ wsX7_seat := fun w h => List.mem_cons_of_mem _ (List.mem_append_right _ h)
  have l0 := hts (.fieldLink RX7 44 "PanyardModel" "seat" "[I") (List.mem_of_getElem? (i := 1) rfl)
  have hS : va_S (mA ad) s.heap s.heap [] := va_S.rf
  have hl := lv_entry ([.ref (ad 0), .int a1, .int a2]) (n := 3) (Nat.le_of_ble_eq_true rfl)
  rw [lg_entry_eq]
  generalize (lg_sl ([.ref (ad 0), .int a1, .int a2]) ++ List.replicate (3 - (lg_sl ([.ref (ad 0), .int a1, .int a2])).length) Slot.unset).toArray = ls at hl ⊢
  have hl : lv_has ls 3 [(0, .ref (ad 0)), (1, .int a1), (2, .int a2)] := hl
  have w36 : ∀ (t0 : Int32) (M : MT), fX7_seat_36  t0 M = some (r, Mz) → mG p l e (headSpec wsX7_seat rmX7_seat).room s m (([.ref (ad 0), .int a1, .int a2] : List Value).toArray) below meth c (MQ below (mQi D ad cI cZ r Mz) (([.ref (ad 0), .int a1, .int a2] : List Value).toArray) s 0 0 (mA ad)) D ad cI cZ 3 M 36 [(0, .ref (ad 0))] [.int t0] := by
    intro  t0 M h H locs ls hN hS hl
    unfold fX7_seat_36 at h
    exact W.iret hx hb hr (mg_endi h hI hK hN hS) hS.2.2 dX7_seat_36
  have w15 : ∀ (x1 : Int32) (x2 : Int32) (t0 : Int32) (M : MT), fX7_seat_15  x1 x2 t0 M = some (r, Mz) → mG p l e (headSpec wsX7_seat rmX7_seat).room s m (([.ref (ad 0), .int a1, .int a2] : List Value).toArray) below meth c (MQ below (mQi D ad cI cZ r Mz) (([.ref (ad 0), .int a1, .int a2] : List Value).toArray) s 0 0 (mA ad)) D ad cI cZ 3 M 15 [(0, .ref (ad 0)), (1, .int x1), (2, .int x2)] [.int t0, .ref (ad 0)] := by
    intro  x1 x2 t0 M h H locs ls hN hS hl
    unfold fX7_seat_15 at h
    obtain ⟨v3, M4, c5, h⟩ := cl2_ok h
    refine mg_calli (va_runV (As := [.int t0]) (rest := []) ⟨hx, hb, hml, hown, hts⟩ (mX7_holds l D ad cI cZ M t0 v3 M4 c5) (cwV 1 hts gX7_seat_X7_holds rfl rfl rfl (by decide +kernel) ⟨Nat.le_of_ble_eq_true rfl, Nat.le_of_ble_eq_true rfl⟩) (mg_preV hI hK hN) rfl rfl hl.1 rfl (lv_room (Nat.le_of_ble_eq_true rfl)) dX7_seat_15 ⟨Nat.zero_le _, Nat.zero_le _⟩) hS (fun H locs hN hS => ?_)
    refine lv_if_eq (tgt := 35) hx hb dX7_seat_18 (by decide) (fun hc => ?_) (fun hc => ?_)
    · have h := ite_t h hc
      refine lv_iconst (v := (0 : Int32)) hx hb dX7_seat_35 (by decide) ?_
      exact w36  (0 : Int32) M4 h _ _ _ hN hS (lv_sub hl [0] rfl)
    · have h := ite_f h hc
      refine lv_aload_n hx hb dX7_seat_21 rfl (lv_at hl 0 rfl) ?_
      refine mg_get hx hb hts hin hown hK hN 16 (by decide) l0 rfl (v := .ref (ad 16)) rfl dX7_seat_22 ?_
      refine lv_bipush (v := (8 : Int32)) hx hb dX7_seat_25 (by decide) ?_
      refine lv_iload_n hx hb dX7_seat_27 rfl (lv_at hl 1 rfl) ?_
      refine lv_imul hx hb dX7_seat_28 ?_
      refine lv_iload_n hx hb dX7_seat_29 rfl (lv_at hl 2 rfl) ?_
      refine lv_iadd hx hb dX7_seat_30 ?_
      obtain ⟨g6, h⟩ := gd_ok h
      refine mg_ild hx hb hK hN 16 rfl (if_neg (by decide)) (gin_ok g6) dX7_seat_31 ?_
      refine lv_goto (tgt := 36) hx hb dX7_seat_32 (by decide) ?_
      exact w36  (M4 16 (Int32.toNatClampNeg (((8 : Int32) * x1) + x2))) M4 h _ _ _ hN hS (lv_sub hl [0] rfl)
  unfold fX7_seat at h
  refine lv_aload_n hx hb dX7_seat_0 rfl (lv_at hl 0 rfl) ?_
  refine lv_aload_n hx hb dX7_seat_1 rfl (lv_at hl 0 rfl) ?_
  refine lv_iload_n hx hb dX7_seat_2 rfl (lv_at hl 1 rfl) ?_
  refine lv_iload_n hx hb dX7_seat_3 rfl (lv_at hl 2 rfl) ?_
  obtain ⟨v1, c2, h⟩ := cl1_ok h
  refine mg_calli (va_runV (As := [.int a1, .int a2]) (rest := [.ref (ad 0)]) ⟨hx, hb, hml, hown, hts⟩ (mX7_isSeat l D ad cI cZ M a1 a2 v1 c2) (cwV 2 hts gX7_seat_X7_isSeat rfl rfl rfl (by decide +kernel) ⟨Nat.le_of_ble_eq_true rfl, Nat.le_of_ble_eq_true rfl⟩) (mg_preV hI hK hN) rfl rfl hl.1 rfl (lv_room (Nat.le_of_ble_eq_true rfl)) dX7_seat_4 ⟨Nat.zero_le _, Nat.zero_le _⟩) hS (fun H locs hN hS => ?_)
  refine lv_if_eq (tgt := 14) hx hb dX7_seat_7 (by decide) (fun hc => ?_) (fun hc => ?_)
  · have h := ite_t h hc
    refine lv_iconst (v := (1 : Int32)) hx hb dX7_seat_14 (by decide) ?_
    exact w15  a1 a2 (1 : Int32) M h _ _ _ hN hS (lv_sub hl [0, 1, 2] rfl)
  · have h := ite_f h hc
    refine lv_iconst (v := (0 : Int32)) hx hb dX7_seat_10 (by decide) ?_
    refine lv_goto (tgt := 15) hx hb dX7_seat_11 (by decide) ?_
    exact w15  a1 a2 (0 : Int32) M h _ _ _ hN hS (lv_sub hl [0, 1, 2] rfl)
def fX7_knows_46 (t0 : Int32) (M : MT) : Option (Int32 × MT) := some (t0, M)
def fX7_knows_24 (x1 : Int32) (x2 : Int32) (x3 : Int32) (t0 : Int32) (M : MT) : Option (Int32 × MT) := cl2 (fX7_holds t0 M) (fun v5 M6 => (if v5 = 0 then fX7_knows_46 (0 : Int32) M6 else cl1 (fX7_at x1 x2 x3 M6) (fun v8 => gd (gin v8 192) (fX7_knows_46 (M6 19 (Int32.toNatClampNeg v8)) M6))))
def fX7_knows_23 (x1 : Int32) (x2 : Int32) (x3 : Int32) (M : MT) : Option (Int32 × MT) := fX7_knows_24 x1 x2 x3 (1 : Int32) M
def fX7_knows (a1 : Int32) (a2 : Int32) (a3 : Int32) (M : MT) : Option (Int32 × MT) := cl1 (fX7_isSeat a1 a2 M) (fun v1 => (if v1 = 0 then fX7_knows_23 a1 a2 a3 M else cl1 (fX7_isPhrase a1 a3 M) (fun v3 => (if v3 = 0 then fX7_knows_23 a1 a2 a3 M else fX7_knows_24 a1 a2 a3 (0 : Int32) M))))
def rmX7_knows : Room := { frames := 4, cells := 0, slots := 0, locals := 78 }
set_option maxHeartbeats 4000000 in
set_option maxRecDepth 100000 in
theorem mX7_knows (l : Launch) (D : va_G) (ad : Nat → Nat) (cI cZ : ClassId) (M : MT) (a1 : Int32) (a2 : Int32) (a3 : Int32) (r : Int32) (Mz : MT) (h : fX7_knows a1 a2 a3 M = some (r, Mz)) : Met l yX7_knows wsX7_knows rmX7_knows (va_Pc [.ref (ad 0), .int a1, .int a2, .int a3] (mP D ad cI cZ M)) (mQi D ad cI cZ r Mz) 0 0 (mA ad) := by
  refine Met.ofW (cc := cX7_knows) (maxL := 4) (ret := some .int) (by decide) rfl ?_
  intro p e s m args below meth c s₁ B hml hv
  obtain ⟨rfl, hI, hN, hK⟩ := hv
  have hx := B.exec
  have hb := B.bytes
  have hr := B.returns
  have hts := atoms_spec (ws := wsX7_knows) B.pre
  have hown : s.vm.findClass RX7 = some m.cls := findClass_of_methodNamed B.named
  have hlocks := B.notSynchronized
  have hin : ∀ w ∈ wsX70, w ∈ wsX7_knows := fun w h => List.mem_cons_of_mem _ (List.mem_append_right _ h)
  have l0 := hts (.fieldLink RX7 53 "PanyardModel" "known" "[I") (List.mem_of_getElem? (i := 1) rfl)
  have hS : va_S (mA ad) s.heap s.heap [] := va_S.rf
  have hl := lv_entry ([.ref (ad 0), .int a1, .int a2, .int a3]) (n := 4) (Nat.le_of_ble_eq_true rfl)
  rw [lg_entry_eq]
  generalize (lg_sl ([.ref (ad 0), .int a1, .int a2, .int a3]) ++ List.replicate (4 - (lg_sl ([.ref (ad 0), .int a1, .int a2, .int a3])).length) Slot.unset).toArray = ls at hl ⊢
  have hl : lv_has ls 4 [(0, .ref (ad 0)), (1, .int a1), (2, .int a2), (3, .int a3)] := hl
  have w46 : ∀ (t0 : Int32) (M : MT), fX7_knows_46  t0 M = some (r, Mz) → mG p l e (headSpec wsX7_knows rmX7_knows).room s m (([.ref (ad 0), .int a1, .int a2, .int a3] : List Value).toArray) below meth c (MQ below (mQi D ad cI cZ r Mz) (([.ref (ad 0), .int a1, .int a2, .int a3] : List Value).toArray) s 0 0 (mA ad)) D ad cI cZ 4 M 46 [(0, .ref (ad 0))] [.int t0] := by
    intro  t0 M h H locs ls hN hS hl
    unfold fX7_knows_46 at h
    exact W.iret hx hb hr (mg_endi h hI hK hN hS) hS.2.2 dX7_knows_46
  have w24 : ∀ (x1 : Int32) (x2 : Int32) (x3 : Int32) (t0 : Int32) (M : MT), fX7_knows_24  x1 x2 x3 t0 M = some (r, Mz) → mG p l e (headSpec wsX7_knows rmX7_knows).room s m (([.ref (ad 0), .int a1, .int a2, .int a3] : List Value).toArray) below meth c (MQ below (mQi D ad cI cZ r Mz) (([.ref (ad 0), .int a1, .int a2, .int a3] : List Value).toArray) s 0 0 (mA ad)) D ad cI cZ 4 M 24 [(0, .ref (ad 0)), (1, .int x1), (2, .int x2), (3, .int x3)] [.int t0, .ref (ad 0)] := by
    intro  x1 x2 x3 t0 M h H locs ls hN hS hl
    unfold fX7_knows_24 at h
    obtain ⟨v5, M6, c7, h⟩ := cl2_ok h
    refine mg_calli (va_runV (As := [.int t0]) (rest := []) ⟨hx, hb, hml, hown, hts⟩ (mX7_holds l D ad cI cZ M t0 v5 M6 c7) (cwV 1 hts gX7_knows_X7_holds rfl rfl rfl (by decide +kernel) ⟨Nat.le_of_ble_eq_true rfl, Nat.le_of_ble_eq_true rfl⟩) (mg_preV hI hK hN) rfl rfl hl.1 rfl (lv_room (Nat.le_of_ble_eq_true rfl)) dX7_knows_24 ⟨Nat.zero_le _, Nat.zero_le _⟩) hS (fun H locs hN hS => ?_)
    refine lv_if_eq (tgt := 45) hx hb dX7_knows_27 (by decide) (fun hc => ?_) (fun hc => ?_)
    · have h := ite_t h hc
      refine lv_iconst (v := (0 : Int32)) hx hb dX7_knows_45 (by decide) ?_
      exact w46  (0 : Int32) M6 h _ _ _ hN hS (lv_sub hl [0] rfl)
    · have h := ite_f h hc
      refine lv_aload_n hx hb dX7_knows_30 rfl (lv_at hl 0 rfl) ?_
      refine mg_get hx hb hts hin hown hK hN 19 (by decide) l0 rfl (v := .ref (ad 19)) rfl dX7_knows_31 ?_
      refine lv_aload_n hx hb dX7_knows_34 rfl (lv_at hl 0 rfl) ?_
      refine lv_iload_n hx hb dX7_knows_35 rfl (lv_at hl 1 rfl) ?_
      refine lv_iload_n hx hb dX7_knows_36 rfl (lv_at hl 2 rfl) ?_
      refine lv_iload_n hx hb dX7_knows_37 rfl (lv_at hl 3 rfl) ?_
      obtain ⟨v8, c9, h⟩ := cl1_ok h
      refine mg_calli (va_runV (As := [.int x1, .int x2, .int x3]) (rest := [.ref (ad 19)]) ⟨hx, hb, hml, hown, hts⟩ (mX7_at l D ad cI cZ M6 x1 x2 x3 v8 c9) (cwV 3 hts gX7_knows_X7_at rfl rfl rfl (by decide +kernel) ⟨Nat.le_of_ble_eq_true rfl, Nat.le_of_ble_eq_true rfl⟩) (mg_preV hI hK hN) rfl rfl hl.1 rfl (lv_room (Nat.le_of_ble_eq_true rfl)) dX7_knows_38 ⟨Nat.zero_le _, Nat.zero_le _⟩) hS (fun H locs hN hS => ?_)
      obtain ⟨g10, h⟩ := gd_ok h
      refine mg_ild hx hb hK hN 19 rfl (if_neg (by decide)) (gin_ok g10) dX7_knows_41 ?_
      refine lv_goto (tgt := 46) hx hb dX7_knows_42 (by decide) ?_
      exact w46  (M6 19 (Int32.toNatClampNeg v8)) M6 h _ _ _ hN hS (lv_sub hl [0] rfl)
  have w23 : ∀ (x1 : Int32) (x2 : Int32) (x3 : Int32) (M : MT), fX7_knows_23  x1 x2 x3 M = some (r, Mz) → mG p l e (headSpec wsX7_knows rmX7_knows).room s m (([.ref (ad 0), .int a1, .int a2, .int a3] : List Value).toArray) below meth c (MQ below (mQi D ad cI cZ r Mz) (([.ref (ad 0), .int a1, .int a2, .int a3] : List Value).toArray) s 0 0 (mA ad)) D ad cI cZ 4 M 23 [(0, .ref (ad 0)), (1, .int x1), (2, .int x2), (3, .int x3)] [.ref (ad 0)] := by
    intro  x1 x2 x3 M h H locs ls hN hS hl
    unfold fX7_knows_23 at h
    refine lv_iconst (v := (1 : Int32)) hx hb dX7_knows_23 (by decide) ?_
    exact w24  x1 x2 x3 (1 : Int32) M h _ _ _ hN hS (lv_sub hl [0, 1, 2, 3] rfl)
  unfold fX7_knows at h
  refine lv_aload_n hx hb dX7_knows_0 rfl (lv_at hl 0 rfl) ?_
  refine lv_aload_n hx hb dX7_knows_1 rfl (lv_at hl 0 rfl) ?_
  refine lv_iload_n hx hb dX7_knows_2 rfl (lv_at hl 1 rfl) ?_
  refine lv_iload_n hx hb dX7_knows_3 rfl (lv_at hl 2 rfl) ?_
  obtain ⟨v1, c2, h⟩ := cl1_ok h
  refine mg_calli (va_runV (As := [.int a1, .int a2]) (rest := [.ref (ad 0)]) ⟨hx, hb, hml, hown, hts⟩ (mX7_isSeat l D ad cI cZ M a1 a2 v1 c2) (cwV 2 hts gX7_knows_X7_isSeat rfl rfl rfl (by decide +kernel) ⟨Nat.le_of_ble_eq_true rfl, Nat.le_of_ble_eq_true rfl⟩) (mg_preV hI hK hN) rfl rfl hl.1 rfl (lv_room (Nat.le_of_ble_eq_true rfl)) dX7_knows_4 ⟨Nat.zero_le _, Nat.zero_le _⟩) hS (fun H locs hN hS => ?_)
  refine lv_if_eq (tgt := 23) hx hb dX7_knows_7 (by decide) (fun hc => ?_) (fun hc => ?_)
  · have h := ite_t h hc
    exact w23  a1 a2 a3 M h _ _ _ hN hS (lv_sub hl [0, 1, 2, 3] rfl)
  · have h := ite_f h hc
    refine lv_aload_n hx hb dX7_knows_10 rfl (lv_at hl 0 rfl) ?_
    refine lv_iload_n hx hb dX7_knows_11 rfl (lv_at hl 1 rfl) ?_
    refine lv_iload_n hx hb dX7_knows_12 rfl (lv_at hl 3 rfl) ?_
    obtain ⟨v3, c4, h⟩ := cl1_ok h
    refine mg_calli (va_runV (As := [.int a1, .int a3]) (rest := [.ref (ad 0)]) ⟨hx, hb, hml, hown, hts⟩ (mX7_isPhrase l D ad cI cZ M a1 a3 v3 c4) (cwV 2 hts gX7_knows_X7_isPhrase rfl rfl rfl (by decide +kernel) ⟨Nat.le_of_ble_eq_true rfl, Nat.le_of_ble_eq_true rfl⟩) (mg_preV hI hK hN) rfl rfl hl.1 rfl (lv_room (Nat.le_of_ble_eq_true rfl)) dX7_knows_13 ⟨Nat.zero_le _, Nat.zero_le _⟩) hS (fun H locs hN hS => ?_)
    refine lv_if_eq (tgt := 23) hx hb dX7_knows_16 (by decide) (fun hc => ?_) (fun hc => ?_)
    · have h := ite_t h hc
      exact w23  a1 a2 a3 M h _ _ _ hN hS (lv_sub hl [0, 1, 2, 3] rfl)
    · have h := ite_f h hc
      refine lv_iconst (v := (0 : Int32)) hx hb dX7_knows_19 (by decide) ?_
      refine lv_goto (tgt := 24) hx hb dX7_knows_20 (by decide) ?_
      exact w24  a1 a2 a3 (0 : Int32) M h _ _ _ hN hS (lv_sub hl [0, 1, 2, 3] rfl)
def fX7_ofBand_74 (t0 : Int32) (M : MT) : Option (Int32 × MT) := some (t0, M)
def fX7_ofBand_120 (t0 : Int32) (M : MT) : Option (Int32 × MT) := some (t0, M)
def fX7_ofBand_26 (x1 : Int32) (x2 : Int32) (t0 : Int32) (M : MT) : Option (Int32 × MT) := cl2 (fX7_holds t0 M) (fun v5 M6 => (if v5 = 0 then some ((0 : Int32), M6) else (if (3 : Int32) ≤ x2 then (if x2 = (3 : Int32) then gd (gin x1 4) ((if (M6 22 (Int32.toNatClampNeg x1)) = 0 then fX7_ofBand_120 (-1 : Int32) M6 else gd (gin x1 4) (fX7_ofBand_120 (M6 23 (Int32.toNatClampNeg x1)) M6))) else gd (gin x1 4) ((if (M6 21 (Int32.toNatClampNeg x1)) = (M6 1 0) then fX7_ofBand_120 (1 : Int32) M6 else fX7_ofBand_120 (0 : Int32) M6))) else (if x2 = 0 then gd (gin x1 4) (fX7_ofBand_74 (M6 15 (Int32.toNatClampNeg x1)) M6) else (if x2 = (1 : Int32) then gd (gin x1 4) (fX7_ofBand_74 (M6 17 (Int32.toNatClampNeg x1)) M6) else gd (gin x1 4) (fX7_ofBand_74 ((M6 17 (Int32.toNatClampNeg x1)) / (4 : Int32)) M6))))))
def fX7_ofBand (a1 : Int32) (a2 : Int32) (M : MT) : Option (Int32 × MT) := cl1 (fX7_isBand a1) (fun v1 => (if v1 = 0 then fX7_ofBand_26 a1 a2 (1 : Int32) M else cl1 (fX7_isIn a2 (0 : Int32) (4 : Int32)) (fun v3 => (if v3 = 0 then fX7_ofBand_26 a1 a2 (2 : Int32) M else fX7_ofBand_26 a1 a2 (0 : Int32) M))))
def rmX7_ofBand : Room := { frames := 3, cells := 0, slots := 0, locals := 56 }
set_option maxHeartbeats 4000000 in
set_option maxRecDepth 100000 in
theorem mX7_ofBand (l : Launch) (D : va_G) (ad : Nat → Nat) (cI cZ : ClassId) (M : MT) (a1 : Int32) (a2 : Int32) (r : Int32) (Mz : MT) (h : fX7_ofBand a1 a2 M = some (r, Mz)) : Met l yX7_ofBand wsX7_ofBand rmX7_ofBand (va_Pc [.ref (ad 0), .int a1, .int a2] (mP D ad cI cZ M)) (mQi D ad cI cZ r Mz) 0 0 (mA ad) := by
  refine Met.ofW (cc := cX7_ofBand) (maxL := 3) (ret := some .int) (by decide) rfl ?_
  intro p e s m args below meth c s₁ B hml hv
  obtain ⟨rfl, hI, hN, hK⟩ := hv
  have hx := B.exec
  have hb := B.bytes
  have hr := B.returns
  have hts := atoms_spec (ws := wsX7_ofBand) B.pre
  have hown : s.vm.findClass RX7 = some m.cls := findClass_of_methodNamed B.named
  have hlocks := B.notSynchronized
  have hin : ∀ w ∈ wsX70, w ∈ wsX7_ofBand := fun w h => List.mem_cons_of_mem _ (List.mem_append_right _ h)
  have l0 := hts (.fieldLink RX7 59 "PanyardModel" "drilled" "[I") (List.mem_of_getElem? (i := 5) rfl)
  have l1 := hts (.fieldLink RX7 143 "PanyardModel" "night" "I") (List.mem_of_getElem? (i := 6) rfl)
  have l2 := hts (.fieldLink RX7 62 "PanyardModel" "hasPlayed" "[Z") (List.mem_of_getElem? (i := 3) rfl)
  have l3 := hts (.fieldLink RX7 65 "PanyardModel" "heard" "[I") (List.mem_of_getElem? (i := 4) rfl)
  have l4 := hts (.fieldLink RX7 47 "PanyardModel" "notes" "[I") (List.mem_of_getElem? (i := 2) rfl)
  have l5 := hts (.fieldLink RX7 41 "PanyardModel" "seats" "[I") (List.mem_of_getElem? (i := 1) rfl)
  have hS : va_S (mA ad) s.heap s.heap [] := va_S.rf
  have hl := lv_entry ([.ref (ad 0), .int a1, .int a2]) (n := 3) (Nat.le_of_ble_eq_true rfl)
  rw [lg_entry_eq]
  generalize (lg_sl ([.ref (ad 0), .int a1, .int a2]) ++ List.replicate (3 - (lg_sl ([.ref (ad 0), .int a1, .int a2])).length) Slot.unset).toArray = ls at hl ⊢
  have hl : lv_has ls 3 [(0, .ref (ad 0)), (1, .int a1), (2, .int a2)] := hl
  have w74 : ∀ (t0 : Int32) (M : MT), fX7_ofBand_74  t0 M = some (r, Mz) → mG p l e (headSpec wsX7_ofBand rmX7_ofBand).room s m (([.ref (ad 0), .int a1, .int a2] : List Value).toArray) below meth c (MQ below (mQi D ad cI cZ r Mz) (([.ref (ad 0), .int a1, .int a2] : List Value).toArray) s 0 0 (mA ad)) D ad cI cZ 3 M 74 [(0, .ref (ad 0))] [.int t0] := by
    intro  t0 M h H locs ls hN hS hl
    unfold fX7_ofBand_74 at h
    exact W.iret hx hb hr (mg_endi h hI hK hN hS) hS.2.2 dX7_ofBand_74
  have w120 : ∀ (t0 : Int32) (M : MT), fX7_ofBand_120  t0 M = some (r, Mz) → mG p l e (headSpec wsX7_ofBand rmX7_ofBand).room s m (([.ref (ad 0), .int a1, .int a2] : List Value).toArray) below meth c (MQ below (mQi D ad cI cZ r Mz) (([.ref (ad 0), .int a1, .int a2] : List Value).toArray) s 0 0 (mA ad)) D ad cI cZ 3 M 120 [(0, .ref (ad 0))] [.int t0] := by
    intro  t0 M h H locs ls hN hS hl
    unfold fX7_ofBand_120 at h
    exact W.iret hx hb hr (mg_endi h hI hK hN hS) hS.2.2 dX7_ofBand_120
  have w26 : ∀ (x1 : Int32) (x2 : Int32) (t0 : Int32) (M : MT), fX7_ofBand_26  x1 x2 t0 M = some (r, Mz) → mG p l e (headSpec wsX7_ofBand rmX7_ofBand).room s m (([.ref (ad 0), .int a1, .int a2] : List Value).toArray) below meth c (MQ below (mQi D ad cI cZ r Mz) (([.ref (ad 0), .int a1, .int a2] : List Value).toArray) s 0 0 (mA ad)) D ad cI cZ 3 M 26 [(0, .ref (ad 0)), (1, .int x1), (2, .int x2)] [.int t0, .ref (ad 0)] := by
    intro  x1 x2 t0 M h H locs ls hN hS hl
    unfold fX7_ofBand_26 at h
    obtain ⟨v5, M6, c7, h⟩ := cl2_ok h
    refine mg_calli (va_runV (As := [.int t0]) (rest := []) ⟨hx, hb, hml, hown, hts⟩ (mX7_holds l D ad cI cZ M t0 v5 M6 c7) (cwV 1 hts gX7_ofBand_X7_holds rfl rfl rfl (by decide +kernel) ⟨Nat.le_of_ble_eq_true rfl, Nat.le_of_ble_eq_true rfl⟩) (mg_preV hI hK hN) rfl rfl hl.1 rfl (lv_room (Nat.le_of_ble_eq_true rfl)) dX7_ofBand_26 ⟨Nat.zero_le _, Nat.zero_le _⟩) hS (fun H locs hN hS => ?_)
    refine lv_if_ne (tgt := 34) hx hb dX7_ofBand_29 (by decide) (fun hc => ?_) (fun hc => ?_)
    · have h := ite_f h hc
      refine lv_iload_n hx hb dX7_ofBand_34 rfl (lv_at hl 2 rfl) ?_
      refine lv_iconst (v := (3 : Int32)) hx hb dX7_ofBand_35 (by decide) ?_
      refine lv_icmp_ge (tgt := 75) hx hb dX7_ofBand_36 (by decide) (fun hc => ?_) (fun hc => ?_)
      · have h := ite_t h hc
        refine lv_iload_n hx hb dX7_ofBand_75 rfl (lv_at hl 2 rfl) ?_
        refine lv_iconst (v := (3 : Int32)) hx hb dX7_ofBand_76 (by decide) ?_
        refine lv_icmp_ne (tgt := 102) hx hb dX7_ofBand_77 (by decide) (fun hc => ?_) (fun hc => ?_)
        · have h := ite_f h hc
          refine lv_aload_n hx hb dX7_ofBand_102 rfl (lv_at hl 0 rfl) ?_
          refine mg_get hx hb hts hin hown hK hN 21 (by decide) l0 rfl (v := .ref (ad 21)) rfl dX7_ofBand_103 ?_
          refine lv_iload_n hx hb dX7_ofBand_106 rfl (lv_at hl 1 rfl) ?_
          obtain ⟨g8, h⟩ := gd_ok h
          refine mg_ild hx hb hK hN 21 rfl (if_neg (by decide)) (gin_ok g8) dX7_ofBand_107 ?_
          refine lv_aload_n hx hb dX7_ofBand_108 rfl (lv_at hl 0 rfl) ?_
          refine mg_get hx hb hts hin hown hK hN 1 (by decide) l1 rfl (v := .int (M6 1 0)) rfl dX7_ofBand_109 ?_
          refine lv_icmp_ne (tgt := 119) hx hb dX7_ofBand_112 (by decide) (fun hc => ?_) (fun hc => ?_)
          · have h := ite_f h hc
            refine lv_iconst (v := (0 : Int32)) hx hb dX7_ofBand_119 (by decide) ?_
            exact w120  (0 : Int32) M6 h _ _ _ hN hS (lv_sub hl [0] rfl)
          · have h := ite_t h hc
            refine lv_iconst (v := (1 : Int32)) hx hb dX7_ofBand_115 (by decide) ?_
            refine lv_goto (tgt := 120) hx hb dX7_ofBand_116 (by decide) ?_
            exact w120  (1 : Int32) M6 h _ _ _ hN hS (lv_sub hl [0] rfl)
        · have h := ite_t h hc
          refine lv_aload_n hx hb dX7_ofBand_80 rfl (lv_at hl 0 rfl) ?_
          refine mg_get hx hb hts hin hown hK hN 22 (by decide) l2 rfl (v := .ref (ad 22)) rfl dX7_ofBand_81 ?_
          refine lv_iload_n hx hb dX7_ofBand_84 rfl (lv_at hl 1 rfl) ?_
          obtain ⟨g9, h⟩ := gd_ok h
          refine mg_zld hx hb hK hN 22 rfl (if_pos (by decide)) (gin_ok g9) dX7_ofBand_85 ?_
          refine lv_if_eq (tgt := 98) hx hb dX7_ofBand_86 (by decide) (fun hc => ?_) (fun hc => ?_)
          · have h := ite_t h hc
            refine lv_iconst (v := (-1 : Int32)) hx hb dX7_ofBand_98 (by decide) ?_
            refine lv_goto (tgt := 120) hx hb dX7_ofBand_99 (by decide) ?_
            exact w120  (-1 : Int32) M6 h _ _ _ hN hS (lv_sub hl [0] rfl)
          · have h := ite_f h hc
            refine lv_aload_n hx hb dX7_ofBand_89 rfl (lv_at hl 0 rfl) ?_
            refine mg_get hx hb hts hin hown hK hN 23 (by decide) l3 rfl (v := .ref (ad 23)) rfl dX7_ofBand_90 ?_
            refine lv_iload_n hx hb dX7_ofBand_93 rfl (lv_at hl 1 rfl) ?_
            obtain ⟨g10, h⟩ := gd_ok h
            refine mg_ild hx hb hK hN 23 rfl (if_neg (by decide)) (gin_ok g10) dX7_ofBand_94 ?_
            refine lv_goto (tgt := 120) hx hb dX7_ofBand_95 (by decide) ?_
            exact w120  (M6 23 (Int32.toNatClampNeg x1)) M6 h _ _ _ hN hS (lv_sub hl [0] rfl)
      · have h := ite_f h hc
        refine lv_iload_n hx hb dX7_ofBand_39 rfl (lv_at hl 2 rfl) ?_
        refine lv_if_ne (tgt := 52) hx hb dX7_ofBand_40 (by decide) (fun hc => ?_) (fun hc => ?_)
        · have h := ite_f h hc
          refine lv_iload_n hx hb dX7_ofBand_52 rfl (lv_at hl 2 rfl) ?_
          refine lv_iconst (v := (1 : Int32)) hx hb dX7_ofBand_53 (by decide) ?_
          refine lv_icmp_ne (tgt := 66) hx hb dX7_ofBand_54 (by decide) (fun hc => ?_) (fun hc => ?_)
          · have h := ite_f h hc
            refine lv_aload_n hx hb dX7_ofBand_66 rfl (lv_at hl 0 rfl) ?_
            refine mg_get hx hb hts hin hown hK hN 17 (by decide) l4 rfl (v := .ref (ad 17)) rfl dX7_ofBand_67 ?_
            refine lv_iload_n hx hb dX7_ofBand_70 rfl (lv_at hl 1 rfl) ?_
            obtain ⟨g11, h⟩ := gd_ok h
            refine mg_ild hx hb hK hN 17 rfl (if_neg (by decide)) (gin_ok g11) dX7_ofBand_71 ?_
            refine lv_iconst (v := (4 : Int32)) hx hb dX7_ofBand_72 (by decide) ?_
            refine lv_idiv hx hb dX7_ofBand_73 (by decide) ?_
            exact w74  ((M6 17 (Int32.toNatClampNeg x1)) / (4 : Int32)) M6 h _ _ _ hN hS (lv_sub hl [0] rfl)
          · have h := ite_t h hc
            refine lv_aload_n hx hb dX7_ofBand_57 rfl (lv_at hl 0 rfl) ?_
            refine mg_get hx hb hts hin hown hK hN 17 (by decide) l4 rfl (v := .ref (ad 17)) rfl dX7_ofBand_58 ?_
            refine lv_iload_n hx hb dX7_ofBand_61 rfl (lv_at hl 1 rfl) ?_
            obtain ⟨g12, h⟩ := gd_ok h
            refine mg_ild hx hb hK hN 17 rfl (if_neg (by decide)) (gin_ok g12) dX7_ofBand_62 ?_
            refine lv_goto (tgt := 74) hx hb dX7_ofBand_63 (by decide) ?_
            exact w74  (M6 17 (Int32.toNatClampNeg x1)) M6 h _ _ _ hN hS (lv_sub hl [0] rfl)
        · have h := ite_t h hc
          refine lv_aload_n hx hb dX7_ofBand_43 rfl (lv_at hl 0 rfl) ?_
          refine mg_get hx hb hts hin hown hK hN 15 (by decide) l5 rfl (v := .ref (ad 15)) rfl dX7_ofBand_44 ?_
          refine lv_iload_n hx hb dX7_ofBand_47 rfl (lv_at hl 1 rfl) ?_
          obtain ⟨g13, h⟩ := gd_ok h
          refine mg_ild hx hb hK hN 15 rfl (if_neg (by decide)) (gin_ok g13) dX7_ofBand_48 ?_
          refine lv_goto (tgt := 74) hx hb dX7_ofBand_49 (by decide) ?_
          exact w74  (M6 15 (Int32.toNatClampNeg x1)) M6 h _ _ _ hN hS (lv_sub hl [0] rfl)
    · have h := ite_t h hc
      refine lv_iconst (v := (0 : Int32)) hx hb dX7_ofBand_32 (by decide) ?_
      exact W.iret hx hb hr (mg_endi h hI hK hN hS) hS.2.2 dX7_ofBand_33
  unfold fX7_ofBand at h
  refine lv_aload_n hx hb dX7_ofBand_0 rfl (lv_at hl 0 rfl) ?_
  refine lv_iload_n hx hb dX7_ofBand_1 rfl (lv_at hl 1 rfl) ?_
  obtain ⟨v1, c2, h⟩ := cl1_ok h
  refine mg_calli (va_runS (As := [.int a1]) (rest := [.ref (ad 0)]) ⟨hx, hb, hml, hown, hts⟩ (mX7_isBand l D ad cI cZ M a1 v1 c2) (va_cwS 1 hts gX7_ofBand_X7_isBand rfl rfl rfl (by decide +kernel) ⟨Nat.le_of_ble_eq_true rfl, Nat.le_of_ble_eq_true rfl⟩) (mg_preS hI hK hN) rfl rfl hl.1 rfl (lv_room (Nat.le_of_ble_eq_true rfl)) dX7_ofBand_2 ⟨Nat.zero_le _, Nat.zero_le _⟩) hS (fun H locs hN hS => ?_)
  refine lv_if_ne (tgt := 12) hx hb dX7_ofBand_5 (by decide) (fun hc => ?_) (fun hc => ?_)
  · have h := ite_f h hc
    refine lv_iload_n hx hb dX7_ofBand_12 rfl (lv_at hl 2 rfl) ?_
    refine lv_iconst (v := (0 : Int32)) hx hb dX7_ofBand_13 (by decide) ?_
    refine lv_iconst (v := (4 : Int32)) hx hb dX7_ofBand_14 (by decide) ?_
    obtain ⟨v3, c4, h⟩ := cl1_ok h
    refine mg_calli (va_runS (As := [.int a2, .int (0 : Int32), .int (4 : Int32)]) (rest := [.ref (ad 0)]) ⟨hx, hb, hml, hown, hts⟩ (mX7_isIn l D ad cI cZ M a2 (0 : Int32) (4 : Int32) v3 c4) (va_cwS 3 hts gX7_ofBand_X7_isIn rfl rfl rfl (by decide +kernel) ⟨Nat.le_of_ble_eq_true rfl, Nat.le_of_ble_eq_true rfl⟩) (mg_preS hI hK hN) rfl rfl hl.1 rfl (lv_room (Nat.le_of_ble_eq_true rfl)) dX7_ofBand_15 ⟨Nat.zero_le _, Nat.zero_le _⟩) hS (fun H locs hN hS => ?_)
    refine lv_if_eq (tgt := 25) hx hb dX7_ofBand_18 (by decide) (fun hc => ?_) (fun hc => ?_)
    · have h := ite_t h hc
      refine lv_iconst (v := (2 : Int32)) hx hb dX7_ofBand_25 (by decide) ?_
      exact w26  a1 a2 (2 : Int32) M h _ _ _ hN hS (lv_sub hl [0, 1, 2] rfl)
    · have h := ite_f h hc
      refine lv_iconst (v := (0 : Int32)) hx hb dX7_ofBand_21 (by decide) ?_
      refine lv_goto (tgt := 26) hx hb dX7_ofBand_22 (by decide) ?_
      exact w26  a1 a2 (0 : Int32) M h _ _ _ hN hS (lv_sub hl [0, 1, 2] rfl)
  · have h := ite_t h hc
    refine lv_iconst (v := (1 : Int32)) hx hb dX7_ofBand_8 (by decide) ?_
    refine lv_goto (tgt := 26) hx hb dX7_ofBand_9 (by decide) ?_
    exact w26  a1 a2 (1 : Int32) M h _ _ _ hN hS (lv_sub hl [0, 1, 2] rfl)
def fX7_lies_23 (t0 : Int32) : Option (Int32) := some t0
def fX7_lies (a1 : Int32) (a2 : Int32) : Option (Int32) := (if a2 = 0 then fX7_lies_23 (irm ((7 : Int32) * a1) (12 : Int32)) else fX7_lies_23 (((4 : Int32) * (irm a1 (3 : Int32))) + (a1 / (3 : Int32))))
def rmX7_lies : Room := { frames := 1, cells := 0, slots := 0, locals := 13 }
set_option maxHeartbeats 4000000 in
set_option maxRecDepth 100000 in
theorem mX7_lies (l : Launch) (D : va_G) (ad : Nat → Nat) (cI cZ : ClassId) (M : MT) (a1 : Int32) (a2 : Int32) (r : Int32) (h : fX7_lies a1 a2 = some r) : Met l yX7_lies wsX7_lies rmX7_lies (va_Pc [.int a1, .int a2] (mP D ad cI cZ M)) (mQi D ad cI cZ r M) 0 0 (mA ad) := by
  refine Met.ofW (cc := cX7_lies) (maxL := 2) (ret := some .int) (by decide) rfl ?_
  intro p e s m args below meth c s₁ B hml hv
  obtain ⟨rfl, hI, hN, hK⟩ := hv
  have hx := B.exec
  have hb := B.bytes
  have hr := B.returns
  have hts := atoms_spec (ws := wsX7_lies) B.pre
  have hown : s.vm.findClass RX7 = some m.cls := findClass_of_methodNamed B.named
  have hlocks := B.notSynchronized
  have hS : va_S (mA ad) s.heap s.heap [] := va_S.rf
  have hl := lv_entry ([.int a1, .int a2]) (n := 2) (Nat.le_of_ble_eq_true rfl)
  rw [lg_entry_eq]
  generalize (lg_sl ([.int a1, .int a2]) ++ List.replicate (2 - (lg_sl ([.int a1, .int a2])).length) Slot.unset).toArray = ls at hl ⊢
  have hl : lv_has ls 2 [(0, .int a1), (1, .int a2)] := hl
  have w23 : ∀ (t0 : Int32), fX7_lies_23  t0 = some r → mG p l e (headSpec wsX7_lies rmX7_lies).room s m (([.int a1, .int a2] : List Value).toArray) below meth c (MQ below (mQi D ad cI cZ r M) (([.int a1, .int a2] : List Value).toArray) s 0 0 (mA ad)) D ad cI cZ 2 M 23 [] [.int t0] := by
    intro  t0 h H locs ls hN hS hl
    unfold fX7_lies_23 at h
    exact W.iret hx hb hr (mg_endr h hI hK hN hS) hS.2.2 dX7_lies_23
  unfold fX7_lies at h
  refine lv_iload_n hx hb dX7_lies_0 rfl (lv_at hl 1 rfl) ?_
  refine lv_if_ne (tgt := 14) hx hb dX7_lies_1 (by decide) (fun hc => ?_) (fun hc => ?_)
  · have h := ite_f h hc
    refine lv_iconst (v := (4 : Int32)) hx hb dX7_lies_14 (by decide) ?_
    refine lv_iload_n hx hb dX7_lies_15 rfl (lv_at hl 0 rfl) ?_
    refine lv_iconst (v := (3 : Int32)) hx hb dX7_lies_16 (by decide) ?_
    refine lv_irm hx hb dX7_lies_17 (by decide) ?_
    refine lv_imul hx hb dX7_lies_18 ?_
    refine lv_iload_n hx hb dX7_lies_19 rfl (lv_at hl 0 rfl) ?_
    refine lv_iconst (v := (3 : Int32)) hx hb dX7_lies_20 (by decide) ?_
    refine lv_idiv hx hb dX7_lies_21 (by decide) ?_
    refine lv_iadd hx hb dX7_lies_22 ?_
    exact w23  (((4 : Int32) * (irm a1 (3 : Int32))) + (a1 / (3 : Int32))) h _ _ _ hN hS (lv_sub hl [] rfl)
  · have h := ite_t h hc
    refine lv_bipush (v := (7 : Int32)) hx hb dX7_lies_4 (by decide) ?_
    refine lv_iload_n hx hb dX7_lies_6 rfl (lv_at hl 0 rfl) ?_
    refine lv_imul hx hb dX7_lies_7 ?_
    refine lv_bipush (v := (12 : Int32)) hx hb dX7_lies_8 (by decide) ?_
    refine lv_irm hx hb dX7_lies_10 (by decide) ?_
    refine lv_goto (tgt := 23) hx hb dX7_lies_11 (by decide) ?_
    exact w23  (irm ((7 : Int32) * a1) (12 : Int32)) h _ _ _ hN hS (lv_sub hl [] rfl)
def fX7_leap_78 (M : MT) (t0 : Int32) : Option (Int32) := some t0
def fX7_leap_56 (M : MT) (t0 : Int32) : Option (Int32) := (if ((12 : Int32) - t0) ≤ t0 then fX7_leap_78 M ((12 : Int32) - t0) else fX7_leap_78 M t0)
def fX7_leap (a1 : Int32) (a2 : Int32) (a3 : Int32) (M : MT) : Option (Int32) := gd (gin (((24 : Int32) * a1) + a2) 96) (cl1 (fX7_lies (M 18 (Int32.toNatClampNeg (((24 : Int32) * a1) + a2))) a3) (fun v2 => gd (gin ((((24 : Int32) * a1) + a2) + (1 : Int32)) 96) (cl1 (fX7_lies (M 18 (Int32.toNatClampNeg ((((24 : Int32) * a1) + a2) + (1 : Int32)))) a3) (fun v5 => (if v2 ≤ v5 then fX7_leap_56 M (v5 - v2) else fX7_leap_56 M (v2 - v5))))))
def rmX7_leap : Room := { frames := 2, cells := 0, slots := 0, locals := 34 }
set_option maxHeartbeats 4000000 in
set_option maxRecDepth 100000 in
theorem mX7_leap (l : Launch) (D : va_G) (ad : Nat → Nat) (cI cZ : ClassId) (M : MT) (a1 : Int32) (a2 : Int32) (a3 : Int32) (r : Int32) (h : fX7_leap a1 a2 a3 M = some r) : Met l yX7_leap wsX7_leap rmX7_leap (va_Pc [.ref (ad 0), .int a1, .int a2, .int a3] (mP D ad cI cZ M)) (mQi D ad cI cZ r M) 0 0 (mA ad) := by
  refine Met.ofW (cc := cX7_leap) (maxL := 7) (ret := some .int) (by decide) rfl ?_
  intro p e s m args below meth c s₁ B hml hv
  obtain ⟨rfl, hI, hN, hK⟩ := hv
  have hx := B.exec
  have hb := B.bytes
  have hr := B.returns
  have hts := atoms_spec (ws := wsX7_leap) B.pre
  have hown : s.vm.findClass RX7 = some m.cls := findClass_of_methodNamed B.named
  have hlocks := B.notSynchronized
  have hin : ∀ w ∈ wsX70, w ∈ wsX7_leap := fun w h => List.mem_cons_of_mem _ (List.mem_append_right _ h)
  have l0 := hts (.fieldLink RX7 50 "PanyardModel" "note" "[I") (List.mem_of_getElem? (i := 1) rfl)
  have hS : va_S (mA ad) s.heap s.heap [] := va_S.rf
  have hl := lv_entry ([.ref (ad 0), .int a1, .int a2, .int a3]) (n := 7) (Nat.le_of_ble_eq_true rfl)
  rw [lg_entry_eq]
  generalize (lg_sl ([.ref (ad 0), .int a1, .int a2, .int a3]) ++ List.replicate (7 - (lg_sl ([.ref (ad 0), .int a1, .int a2, .int a3])).length) Slot.unset).toArray = ls at hl ⊢
  have hl : lv_has ls 7 [(0, .ref (ad 0)), (1, .int a1), (2, .int a2), (3, .int a3)] := hl
  have w78 : ∀ (t0 : Int32), fX7_leap_78 M t0 = some r → mG p l e (headSpec wsX7_leap rmX7_leap).room s m (([.ref (ad 0), .int a1, .int a2, .int a3] : List Value).toArray) below meth c (MQ below (mQi D ad cI cZ r M) (([.ref (ad 0), .int a1, .int a2, .int a3] : List Value).toArray) s 0 0 (mA ad)) D ad cI cZ 7 M 78 [(0, .ref (ad 0))] [.int t0] := by
    intro  t0 h H locs ls hN hS hl
    unfold fX7_leap_78 at h
    exact W.iret hx hb hr (mg_endr h hI hK hN hS) hS.2.2 dX7_leap_78
  have w56 : ∀ (t0 : Int32), fX7_leap_56 M t0 = some r → mG p l e (headSpec wsX7_leap rmX7_leap).room s m (([.ref (ad 0), .int a1, .int a2, .int a3] : List Value).toArray) below meth c (MQ below (mQi D ad cI cZ r M) (([.ref (ad 0), .int a1, .int a2, .int a3] : List Value).toArray) s 0 0 (mA ad)) D ad cI cZ 7 M 56 [(0, .ref (ad 0))] [.int t0] := by
    intro  t0 h H locs ls hN hS hl
    unfold fX7_leap_56 at h
    refine lv_istore (lv' := [(6, .int t0), (0, .ref (ad 0))]) hx hb dX7_leap_56 hl (by decide) rfl (fun ls hl => ?_)
    refine lv_iload hx hb dX7_leap_58 (lv_at hl 0 rfl) ?_
    refine lv_bipush (v := (12 : Int32)) hx hb dX7_leap_60 (by decide) ?_
    refine lv_iload hx hb dX7_leap_62 (lv_at hl 0 rfl) ?_
    refine lv_isub hx hb dX7_leap_64 ?_
    refine lv_icmp_ge (tgt := 73) hx hb dX7_leap_65 (by decide) (fun hc => ?_) (fun hc => ?_)
    · have h := ite_t h hc
      refine lv_bipush (v := (12 : Int32)) hx hb dX7_leap_73 (by decide) ?_
      refine lv_iload hx hb dX7_leap_75 (lv_at hl 0 rfl) ?_
      refine lv_isub hx hb dX7_leap_77 ?_
      exact w78  ((12 : Int32) - t0) h _ _ _ hN hS (lv_sub hl [1] rfl)
    · have h := ite_f h hc
      refine lv_iload hx hb dX7_leap_68 (lv_at hl 0 rfl) ?_
      refine lv_goto (tgt := 78) hx hb dX7_leap_70 (by decide) ?_
      exact w78  t0 h _ _ _ hN hS (lv_sub hl [1] rfl)
  unfold fX7_leap at h
  refine lv_aload_n hx hb dX7_leap_0 rfl (lv_at hl 0 rfl) ?_
  refine mg_get hx hb hts hin hown hK hN 18 (by decide) l0 rfl (v := .ref (ad 18)) rfl dX7_leap_1 ?_
  refine lv_bipush (v := (24 : Int32)) hx hb dX7_leap_4 (by decide) ?_
  refine lv_iload_n hx hb dX7_leap_6 rfl (lv_at hl 1 rfl) ?_
  refine lv_imul hx hb dX7_leap_7 ?_
  refine lv_iload_n hx hb dX7_leap_8 rfl (lv_at hl 2 rfl) ?_
  refine lv_iadd hx hb dX7_leap_9 ?_
  obtain ⟨g1, h⟩ := gd_ok h
  refine mg_ild hx hb hK hN 18 rfl (if_neg (by decide)) (gin_ok g1) dX7_leap_10 ?_
  refine lv_iload_n hx hb dX7_leap_11 rfl (lv_at hl 3 rfl) ?_
  obtain ⟨v2, c3, h⟩ := cl1_ok h
  refine mg_calli (va_runS (As := [.int (M 18 (Int32.toNatClampNeg (((24 : Int32) * a1) + a2))), .int a3]) (rest := []) ⟨hx, hb, hml, hown, hts⟩ (mX7_lies l D ad cI cZ M (M 18 (Int32.toNatClampNeg (((24 : Int32) * a1) + a2))) a3 v2 c3) (va_cwS 2 hts gX7_leap_X7_lies rfl rfl rfl (by decide +kernel) ⟨Nat.le_of_ble_eq_true rfl, Nat.le_of_ble_eq_true rfl⟩) (mg_preS hI hK hN) rfl rfl hl.1 rfl (lv_room (Nat.le_of_ble_eq_true rfl)) dX7_leap_12 ⟨Nat.zero_le _, Nat.zero_le _⟩) hS (fun H locs hN hS => ?_)
  refine lv_istore (lv' := [(4, .int v2), (0, .ref (ad 0)), (1, .int a1), (2, .int a2), (3, .int a3)]) hx hb dX7_leap_15 hl (by decide) rfl (fun ls hl => ?_)
  refine lv_aload_n hx hb dX7_leap_17 rfl (lv_at hl 1 rfl) ?_
  refine mg_get hx hb hts hin hown hK hN 18 (by decide) l0 rfl (v := .ref (ad 18)) rfl dX7_leap_18 ?_
  refine lv_bipush (v := (24 : Int32)) hx hb dX7_leap_21 (by decide) ?_
  refine lv_iload_n hx hb dX7_leap_23 rfl (lv_at hl 2 rfl) ?_
  refine lv_imul hx hb dX7_leap_24 ?_
  refine lv_iload_n hx hb dX7_leap_25 rfl (lv_at hl 3 rfl) ?_
  refine lv_iadd hx hb dX7_leap_26 ?_
  refine lv_iconst (v := (1 : Int32)) hx hb dX7_leap_27 (by decide) ?_
  refine lv_iadd hx hb dX7_leap_28 ?_
  obtain ⟨g4, h⟩ := gd_ok h
  refine mg_ild hx hb hK hN 18 rfl (if_neg (by decide)) (gin_ok g4) dX7_leap_29 ?_
  refine lv_iload_n hx hb dX7_leap_30 rfl (lv_at hl 4 rfl) ?_
  obtain ⟨v5, c6, h⟩ := cl1_ok h
  refine mg_calli (va_runS (As := [.int (M 18 (Int32.toNatClampNeg ((((24 : Int32) * a1) + a2) + (1 : Int32)))), .int a3]) (rest := []) ⟨hx, hb, hml, hown, hts⟩ (mX7_lies l D ad cI cZ M (M 18 (Int32.toNatClampNeg ((((24 : Int32) * a1) + a2) + (1 : Int32)))) a3 v5 c6) (va_cwS 2 hts gX7_leap_X7_lies rfl rfl rfl (by decide +kernel) ⟨Nat.le_of_ble_eq_true rfl, Nat.le_of_ble_eq_true rfl⟩) (mg_preS hI hK hN) rfl rfl hl.1 rfl (lv_room (Nat.le_of_ble_eq_true rfl)) dX7_leap_31 ⟨Nat.zero_le _, Nat.zero_le _⟩) hS (fun H locs hN hS => ?_)
  refine lv_istore (lv' := [(5, .int v5), (4, .int v2), (0, .ref (ad 0)), (1, .int a1), (2, .int a2), (3, .int a3)]) hx hb dX7_leap_34 hl (by decide) rfl (fun ls hl => ?_)
  refine lv_iload hx hb dX7_leap_36 (lv_at hl 1 rfl) ?_
  refine lv_iload hx hb dX7_leap_38 (lv_at hl 0 rfl) ?_
  refine lv_icmp_le (tgt := 51) hx hb dX7_leap_40 (by decide) (fun hc => ?_) (fun hc => ?_)
  · have h := ite_t h hc
    refine lv_iload hx hb dX7_leap_51 (lv_at hl 0 rfl) ?_
    refine lv_iload hx hb dX7_leap_53 (lv_at hl 1 rfl) ?_
    refine lv_isub hx hb dX7_leap_55 ?_
    exact w56  (v5 - v2) h _ _ _ hN hS (lv_sub hl [2] rfl)
  · have h := ite_f h hc
    refine lv_iload hx hb dX7_leap_43 (lv_at hl 1 rfl) ?_
    refine lv_iload hx hb dX7_leap_45 (lv_at hl 0 rfl) ?_
    refine lv_isub hx hb dX7_leap_47 ?_
    refine lv_goto (tgt := 56) hx hb dX7_leap_48 (by decide) ?_
    exact w56  (v2 - v5) h _ _ _ hN hS (lv_sub hl [2] rfl)
def fX7_within (a1 : Int32) (a2 : Int32) (a3 : Int32) (M : MT) : Option (Int32) := cl1 (fX7_leap a1 ((4 : Int32) * a2) a3 M) (fun v1 => cl1 (fX7_leap a1 (((4 : Int32) * a2) + (1 : Int32)) a3 M) (fun v3 => cl1 (fX7_leap a1 (((4 : Int32) * a2) + (2 : Int32)) a3 M) (fun v5 => some ((v1 + v3) + v5))))
def rmX7_within : Room := { frames := 3, cells := 0, slots := 0, locals := 60 }
set_option maxHeartbeats 4000000 in
set_option maxRecDepth 100000 in
theorem mX7_within (l : Launch) (D : va_G) (ad : Nat → Nat) (cI cZ : ClassId) (M : MT) (a1 : Int32) (a2 : Int32) (a3 : Int32) (r : Int32) (h : fX7_within a1 a2 a3 M = some r) : Met l yX7_within wsX7_within rmX7_within (va_Pc [.ref (ad 0), .int a1, .int a2, .int a3] (mP D ad cI cZ M)) (mQi D ad cI cZ r M) 0 0 (mA ad) := by
  refine Met.ofW (cc := cX7_within) (maxL := 4) (ret := some .int) (by decide) rfl ?_
  intro p e s m args below meth c s₁ B hml hv
  obtain ⟨rfl, hI, hN, hK⟩ := hv
  have hx := B.exec
  have hb := B.bytes
  have hr := B.returns
  have hts := atoms_spec (ws := wsX7_within) B.pre
  have hown : s.vm.findClass RX7 = some m.cls := findClass_of_methodNamed B.named
  have hlocks := B.notSynchronized
  have hin : ∀ w ∈ wsX70, w ∈ wsX7_within := fun w h => List.mem_cons_of_mem _ (List.mem_append_right _ h)
  have hS : va_S (mA ad) s.heap s.heap [] := va_S.rf
  have hl := lv_entry ([.ref (ad 0), .int a1, .int a2, .int a3]) (n := 4) (Nat.le_of_ble_eq_true rfl)
  rw [lg_entry_eq]
  generalize (lg_sl ([.ref (ad 0), .int a1, .int a2, .int a3]) ++ List.replicate (4 - (lg_sl ([.ref (ad 0), .int a1, .int a2, .int a3])).length) Slot.unset).toArray = ls at hl ⊢
  have hl : lv_has ls 4 [(0, .ref (ad 0)), (1, .int a1), (2, .int a2), (3, .int a3)] := hl
  unfold fX7_within at h
  refine lv_aload_n hx hb dX7_within_0 rfl (lv_at hl 0 rfl) ?_
  refine lv_iload_n hx hb dX7_within_1 rfl (lv_at hl 1 rfl) ?_
  refine lv_iconst (v := (4 : Int32)) hx hb dX7_within_2 (by decide) ?_
  refine lv_iload_n hx hb dX7_within_3 rfl (lv_at hl 2 rfl) ?_
  refine lv_imul hx hb dX7_within_4 ?_
  refine lv_iload_n hx hb dX7_within_5 rfl (lv_at hl 3 rfl) ?_
  obtain ⟨v1, c2, h⟩ := cl1_ok h
  refine mg_calli (va_runV (As := [.int a1, .int ((4 : Int32) * a2), .int a3]) (rest := []) ⟨hx, hb, hml, hown, hts⟩ (mX7_leap l D ad cI cZ M a1 ((4 : Int32) * a2) a3 v1 c2) (cwV 3 hts gX7_within_X7_leap rfl rfl rfl (by decide +kernel) ⟨Nat.le_of_ble_eq_true rfl, Nat.le_of_ble_eq_true rfl⟩) (mg_preV hI hK hN) rfl rfl hl.1 rfl (lv_room (Nat.le_of_ble_eq_true rfl)) dX7_within_6 ⟨Nat.zero_le _, Nat.zero_le _⟩) hS (fun H locs hN hS => ?_)
  refine lv_aload_n hx hb dX7_within_9 rfl (lv_at hl 0 rfl) ?_
  refine lv_iload_n hx hb dX7_within_10 rfl (lv_at hl 1 rfl) ?_
  refine lv_iconst (v := (4 : Int32)) hx hb dX7_within_11 (by decide) ?_
  refine lv_iload_n hx hb dX7_within_12 rfl (lv_at hl 2 rfl) ?_
  refine lv_imul hx hb dX7_within_13 ?_
  refine lv_iconst (v := (1 : Int32)) hx hb dX7_within_14 (by decide) ?_
  refine lv_iadd hx hb dX7_within_15 ?_
  refine lv_iload_n hx hb dX7_within_16 rfl (lv_at hl 3 rfl) ?_
  obtain ⟨v3, c4, h⟩ := cl1_ok h
  refine mg_calli (va_runV (As := [.int a1, .int (((4 : Int32) * a2) + (1 : Int32)), .int a3]) (rest := [.int v1]) ⟨hx, hb, hml, hown, hts⟩ (mX7_leap l D ad cI cZ M a1 (((4 : Int32) * a2) + (1 : Int32)) a3 v3 c4) (cwV 3 hts gX7_within_X7_leap rfl rfl rfl (by decide +kernel) ⟨Nat.le_of_ble_eq_true rfl, Nat.le_of_ble_eq_true rfl⟩) (mg_preV hI hK hN) rfl rfl hl.1 rfl (lv_room (Nat.le_of_ble_eq_true rfl)) dX7_within_17 ⟨Nat.zero_le _, Nat.zero_le _⟩) hS (fun H locs hN hS => ?_)
  refine lv_iadd hx hb dX7_within_20 ?_
  refine lv_aload_n hx hb dX7_within_21 rfl (lv_at hl 0 rfl) ?_
  refine lv_iload_n hx hb dX7_within_22 rfl (lv_at hl 1 rfl) ?_
  refine lv_iconst (v := (4 : Int32)) hx hb dX7_within_23 (by decide) ?_
  refine lv_iload_n hx hb dX7_within_24 rfl (lv_at hl 2 rfl) ?_
  refine lv_imul hx hb dX7_within_25 ?_
  refine lv_iconst (v := (2 : Int32)) hx hb dX7_within_26 (by decide) ?_
  refine lv_iadd hx hb dX7_within_27 ?_
  refine lv_iload_n hx hb dX7_within_28 rfl (lv_at hl 3 rfl) ?_
  obtain ⟨v5, c6, h⟩ := cl1_ok h
  refine mg_calli (va_runV (As := [.int a1, .int (((4 : Int32) * a2) + (2 : Int32)), .int a3]) (rest := [.int (v1 + v3)]) ⟨hx, hb, hml, hown, hts⟩ (mX7_leap l D ad cI cZ M a1 (((4 : Int32) * a2) + (2 : Int32)) a3 v5 c6) (cwV 3 hts gX7_within_X7_leap rfl rfl rfl (by decide +kernel) ⟨Nat.le_of_ble_eq_true rfl, Nat.le_of_ble_eq_true rfl⟩) (mg_preV hI hK hN) rfl rfl hl.1 rfl (lv_room (Nat.le_of_ble_eq_true rfl)) dX7_within_29 ⟨Nat.zero_le _, Nat.zero_le _⟩) hS (fun H locs hN hS => ?_)
  refine lv_iadd hx hb dX7_within_32 ?_
  exact W.iret hx hb hr (mg_endr h hI hK hN hS) hS.2.2 dX7_within_33
def fX7_between_36 (M : MT) (t0 : Int32) : Option (Int32) := some t0
def fX7_between (a1 : Int32) (a2 : Int32) (a3 : Int32) (a4 : Int32) (M : MT) : Option (Int32) := (if a3 = a4 then gd (gin (((8 : Int32) * a1) + a3) 32) (gd (gin (M 16 (Int32.toNatClampNeg (((8 : Int32) * a1) + a3))) 16) (cl1 (fX7_leap a1 (((4 : Int32) * a2) - (1 : Int32)) (M 11 (Int32.toNatClampNeg (M 16 (Int32.toNatClampNeg (((8 : Int32) * a1) + a3))))) M) (fun v3 => fX7_between_36 M v3))) else fX7_between_36 M (2 : Int32))
def rmX7_between : Room := { frames := 3, cells := 0, slots := 0, locals := 60 }
set_option maxHeartbeats 4000000 in
set_option maxRecDepth 100000 in
theorem mX7_between (l : Launch) (D : va_G) (ad : Nat → Nat) (cI cZ : ClassId) (M : MT) (a1 : Int32) (a2 : Int32) (a3 : Int32) (a4 : Int32) (r : Int32) (h : fX7_between a1 a2 a3 a4 M = some r) : Met l yX7_between wsX7_between rmX7_between (va_Pc [.ref (ad 0), .int a1, .int a2, .int a3, .int a4] (mP D ad cI cZ M)) (mQi D ad cI cZ r M) 0 0 (mA ad) := by
  refine Met.ofW (cc := cX7_between) (maxL := 5) (ret := some .int) (by decide) rfl ?_
  intro p e s m args below meth c s₁ B hml hv
  obtain ⟨rfl, hI, hN, hK⟩ := hv
  have hx := B.exec
  have hb := B.bytes
  have hr := B.returns
  have hts := atoms_spec (ws := wsX7_between) B.pre
  have hown : s.vm.findClass RX7 = some m.cls := findClass_of_methodNamed B.named
  have hlocks := B.notSynchronized
  have hin : ∀ w ∈ wsX70, w ∈ wsX7_between := fun w h => List.mem_cons_of_mem _ (List.mem_append_right _ h)
  have l0 := hts (.fieldLink RX7 29 "PanyardModel" "layout" "[I") (List.mem_of_getElem? (i := 1) rfl)
  have l1 := hts (.fieldLink RX7 44 "PanyardModel" "seat" "[I") (List.mem_of_getElem? (i := 2) rfl)
  have hS : va_S (mA ad) s.heap s.heap [] := va_S.rf
  have hl := lv_entry ([.ref (ad 0), .int a1, .int a2, .int a3, .int a4]) (n := 5) (Nat.le_of_ble_eq_true rfl)
  rw [lg_entry_eq]
  generalize (lg_sl ([.ref (ad 0), .int a1, .int a2, .int a3, .int a4]) ++ List.replicate (5 - (lg_sl ([.ref (ad 0), .int a1, .int a2, .int a3, .int a4])).length) Slot.unset).toArray = ls at hl ⊢
  have hl : lv_has ls 5 [(0, .ref (ad 0)), (1, .int a1), (2, .int a2), (3, .int a3), (4, .int a4)] := hl
  have w36 : ∀ (t0 : Int32), fX7_between_36 M t0 = some r → mG p l e (headSpec wsX7_between rmX7_between).room s m (([.ref (ad 0), .int a1, .int a2, .int a3, .int a4] : List Value).toArray) below meth c (MQ below (mQi D ad cI cZ r M) (([.ref (ad 0), .int a1, .int a2, .int a3, .int a4] : List Value).toArray) s 0 0 (mA ad)) D ad cI cZ 5 M 36 [(0, .ref (ad 0))] [.int t0] := by
    intro  t0 h H locs ls hN hS hl
    unfold fX7_between_36 at h
    exact W.iret hx hb hr (mg_endr h hI hK hN hS) hS.2.2 dX7_between_36
  unfold fX7_between at h
  refine lv_iload_n hx hb dX7_between_0 rfl (lv_at hl 3 rfl) ?_
  refine lv_iload hx hb dX7_between_1 (lv_at hl 4 rfl) ?_
  refine lv_icmp_ne (tgt := 35) hx hb dX7_between_3 (by decide) (fun hc => ?_) (fun hc => ?_)
  · have h := ite_f h hc
    refine lv_iconst (v := (2 : Int32)) hx hb dX7_between_35 (by decide) ?_
    exact w36  (2 : Int32) h _ _ _ hN hS (lv_sub hl [0] rfl)
  · have h := ite_t h hc
    refine lv_aload_n hx hb dX7_between_6 rfl (lv_at hl 0 rfl) ?_
    refine lv_iload_n hx hb dX7_between_7 rfl (lv_at hl 1 rfl) ?_
    refine lv_iconst (v := (4 : Int32)) hx hb dX7_between_8 (by decide) ?_
    refine lv_iload_n hx hb dX7_between_9 rfl (lv_at hl 2 rfl) ?_
    refine lv_imul hx hb dX7_between_10 ?_
    refine lv_iconst (v := (1 : Int32)) hx hb dX7_between_11 (by decide) ?_
    refine lv_isub hx hb dX7_between_12 ?_
    refine lv_aload_n hx hb dX7_between_13 rfl (lv_at hl 0 rfl) ?_
    refine mg_get hx hb hts hin hown hK hN 11 (by decide) l0 rfl (v := .ref (ad 11)) rfl dX7_between_14 ?_
    refine lv_aload_n hx hb dX7_between_17 rfl (lv_at hl 0 rfl) ?_
    refine mg_get hx hb hts hin hown hK hN 16 (by decide) l1 rfl (v := .ref (ad 16)) rfl dX7_between_18 ?_
    refine lv_bipush (v := (8 : Int32)) hx hb dX7_between_21 (by decide) ?_
    refine lv_iload_n hx hb dX7_between_23 rfl (lv_at hl 1 rfl) ?_
    refine lv_imul hx hb dX7_between_24 ?_
    refine lv_iload_n hx hb dX7_between_25 rfl (lv_at hl 3 rfl) ?_
    refine lv_iadd hx hb dX7_between_26 ?_
    obtain ⟨g1, h⟩ := gd_ok h
    refine mg_ild hx hb hK hN 16 rfl (if_neg (by decide)) (gin_ok g1) dX7_between_27 ?_
    obtain ⟨g2, h⟩ := gd_ok h
    refine mg_ild hx hb hK hN 11 rfl (if_neg (by decide)) (gin_ok g2) dX7_between_28 ?_
    obtain ⟨v3, c4, h⟩ := cl1_ok h
    refine mg_calli (va_runV (As := [.int a1, .int (((4 : Int32) * a2) - (1 : Int32)), .int (M 11 (Int32.toNatClampNeg (M 16 (Int32.toNatClampNeg (((8 : Int32) * a1) + a3)))))]) (rest := []) ⟨hx, hb, hml, hown, hts⟩ (mX7_leap l D ad cI cZ M a1 (((4 : Int32) * a2) - (1 : Int32)) (M 11 (Int32.toNatClampNeg (M 16 (Int32.toNatClampNeg (((8 : Int32) * a1) + a3))))) v3 c4) (cwV 3 hts gX7_between_X7_leap rfl rfl rfl (by decide +kernel) ⟨Nat.le_of_ble_eq_true rfl, Nat.le_of_ble_eq_true rfl⟩) (mg_preV hI hK hN) rfl rfl hl.1 rfl (lv_room (Nat.le_of_ble_eq_true rfl)) dX7_between_29 ⟨Nat.zero_le _, Nat.zero_le _⟩) hS (fun H locs hN hS => ?_)
    refine lv_goto (tgt := 36) hx hb dX7_between_32 (by decide) ?_
    exact w36  v3 h _ _ _ hN hS (lv_sub hl [0] rfl)
def fX7_lays_112 (k14 : Int32 → Int32 → Int32 → Int32 → MT → Option (Int32 × MT)) (k22 : Int32 → Int32 → Int32 → Int32 → Int32 → MT → Option (Int32 × MT)) (k50 : Int32 → Int32 → Int32 → Int32 → Int32 → Int32 → Int32 → MT → Option (Int32 × MT)) (x1 : Int32) (x2 : Int32) (x3 : Int32) (x4 : Int32) (x5 : Int32) (x7 : Int32) (t0 : Int32) (M : MT) : Option (Int32 × MT) := bnd (x7 + (1 : Int32)) (fun v18 => k50 x1 x2 x3 x4 x5 t0 v18 M)
def fX7_lays_207 (k14 : Int32 → Int32 → Int32 → Int32 → MT → Option (Int32 × MT)) (k22 : Int32 → Int32 → Int32 → Int32 → Int32 → MT → Option (Int32 × MT)) (x1 : Int32) (x2 : Int32) (x3 : Int32) (x4 : Int32) (x5 : Int32) (t0 : Int32) (t1 : Int32) (M : MT) : Option (Int32 × MT) := gd (gin t1 48) (bnd (va_up M 27 (upd (M 27) (Int32.toNatClampNeg t1) t0)) (fun M31 => bnd (x5 + (1 : Int32)) (fun v32 => k22 x1 x2 x3 x4 v32 M31)))
def fX7_lays_156 (k14 : Int32 → Int32 → Int32 → Int32 → MT → Option (Int32 × MT)) (k22 : Int32 → Int32 → Int32 → Int32 → Int32 → MT → Option (Int32 × MT)) (x1 : Int32) (x2 : Int32) (x3 : Int32) (x4 : Int32) (x5 : Int32) (x6 : Int32) (t0 : Int32) (M : MT) : Option (Int32 × MT) := (if t0 = 0 then fX7_lays_207 k14 k22 x1 x2 x3 x4 x5 (1000000 : Int32) (((8 : Int32) * x4) + x5) M else gd (gin (((8 : Int32) * x1) + x5) 32) (gd (gin (M 16 (Int32.toNatClampNeg (((8 : Int32) * x1) + x5))) 16) (cl1 (fX7_within x1 x4 (M 11 (Int32.toNatClampNeg (M 16 (Int32.toNatClampNeg (((8 : Int32) * x1) + x5))))) M) (fun v27 => fX7_lays_207 k14 k22 x1 x2 x3 x4 x5 (v27 + x6) (((8 : Int32) * x4) + x5) M))))
def fX7_lays_155 (k14 : Int32 → Int32 → Int32 → Int32 → MT → Option (Int32 × MT)) (k22 : Int32 → Int32 → Int32 → Int32 → Int32 → MT → Option (Int32 × MT)) (x1 : Int32) (x2 : Int32) (x3 : Int32) (x4 : Int32) (x5 : Int32) (x6 : Int32) (M : MT) : Option (Int32 × MT) := fX7_lays_156 k14 k22 x1 x2 x3 x4 x5 x6 (0 : Int32) M
def fX7_lays_120 (k14 : Int32 → Int32 → Int32 → Int32 → MT → Option (Int32 × MT)) (k22 : Int32 → Int32 → Int32 → Int32 → Int32 → MT → Option (Int32 × MT)) (x1 : Int32) (x2 : Int32) (x3 : Int32) (x4 : Int32) (x5 : Int32) (x6 : Int32) (M : MT) : Option (Int32 × MT) := cl1 (fX7_at x1 x5 x4 M) (fun v19 => gd (gin v19 192) ((if (M 19 (Int32.toNatClampNeg v19)) = (1 : Int32) then (if x5 = x2 then fX7_lays_155 k14 k22 x1 x2 x3 x4 x5 x6 M else (if (1000000 : Int32) ≤ x6 then fX7_lays_155 k14 k22 x1 x2 x3 x4 x5 x6 M else fX7_lays_156 k14 k22 x1 x2 x3 x4 x5 x6 (1 : Int32) M)) else fX7_lays_155 k14 k22 x1 x2 x3 x4 x5 x6 M)))
def fX7_lays_50 (k14 : Int32 → Int32 → Int32 → Int32 → MT → Option (Int32 × MT)) (k22 : Int32 → Int32 → Int32 → Int32 → Int32 → MT → Option (Int32 × MT)) (k50 : Int32 → Int32 → Int32 → Int32 → Int32 → Int32 → Int32 → MT → Option (Int32 × MT)) (x1 : Int32) (x2 : Int32) (x3 : Int32) (x4 : Int32) (x5 : Int32) (x6 : Int32) (x7 : Int32) (M : MT) : Option (Int32 × MT) := gd (gin x1 4) ((if (M 15 (Int32.toNatClampNeg x1)) ≤ x7 then fX7_lays_120 k14 k22 x1 x2 x3 x4 x5 x6 M else (if x3 ≤ x4 then fX7_lays_120 k14 k22 x1 x2 x3 x4 x5 x6 M else gd (gin (((8 : Int32) * (x4 + (1 : Int32))) + x7) 48) (cl1 (fX7_between x1 (x4 + (1 : Int32)) x7 x5 M) (fun v9 => bnd ((M 27 (Int32.toNatClampNeg (((8 : Int32) * (x4 + (1 : Int32))) + x7))) + v9) (fun v11 => (if x6 ≤ v11 then fX7_lays_112 k14 k22 k50 x1 x2 x3 x4 x5 x7 x6 M else fX7_lays_112 k14 k22 k50 x1 x2 x3 x4 x5 x7 v11 M)))))))
def fX7_lays_45 (k14 : Int32 → Int32 → Int32 → Int32 → MT → Option (Int32 × MT)) (k22 : Int32 → Int32 → Int32 → Int32 → Int32 → MT → Option (Int32 × MT)) (x1 : Int32) (x2 : Int32) (x3 : Int32) (x4 : Int32) (x5 : Int32) (t0 : Int32) (M : MT) : Option (Int32 × MT) := lf8 (fX7_lays_50 k14 k22) 100 x1 x2 x3 x4 x5 t0 (0 : Int32) M
def fX7_lays_214 (k14 : Int32 → Int32 → Int32 → Int32 → MT → Option (Int32 × MT)) (x1 : Int32) (x2 : Int32) (x3 : Int32) (x4 : Int32) (M : MT) : Option (Int32 × MT) := bnd (x4 + (-1 : Int32)) (fun v6 => k14 x1 x2 x3 v6 M)
def fX7_lays_22 (k14 : Int32 → Int32 → Int32 → Int32 → MT → Option (Int32 × MT)) (k22 : Int32 → Int32 → Int32 → Int32 → Int32 → MT → Option (Int32 × MT)) (x1 : Int32) (x2 : Int32) (x3 : Int32) (x4 : Int32) (x5 : Int32) (M : MT) : Option (Int32 × MT) := gd (gin x1 4) ((if (M 15 (Int32.toNatClampNeg x1)) ≤ x5 then fX7_lays_214 k14 x1 x2 x3 x4 M else (if x4 = x3 then fX7_lays_45 k14 k22 x1 x2 x3 x4 x5 (0 : Int32) M else fX7_lays_45 k14 k22 x1 x2 x3 x4 x5 (1000000 : Int32) M)))
def fX7_lays_335 (k227 : Int32 → Int32 → Int32 → Int32 → MT → Option (Int32 × MT)) (k247 : Int32 → Int32 → Int32 → Int32 → Int32 → Int32 → MT → Option (Int32 × MT)) (x1 : Int32) (x3 : Int32) (x4 : Int32) (x5 : Int32) (x7 : Int32) (t0 : Int32) (M : MT) : Option (Int32 × MT) := bnd (x7 + (-1 : Int32)) (fun v29 => k247 x1 x3 x4 x5 t0 v29 M)
def fX7_lays_320 (k227 : Int32 → Int32 → Int32 → Int32 → MT → Option (Int32 × MT)) (k247 : Int32 → Int32 → Int32 → Int32 → Int32 → Int32 → MT → Option (Int32 × MT)) (x1 : Int32) (x3 : Int32) (x4 : Int32) (x5 : Int32) (x6 : Int32) (x7 : Int32) (x8 : Int32) (t0 : Int32) (t1 : Int32) (M : MT) : Option (Int32 × MT) := gd (gin t1 6) (bnd (va_up M 28 (upd (M 28) (Int32.toNatClampNeg t1) t0)) (fun M23 => (if x6 ≤ x8 then fX7_lays_335 k227 k247 x1 x3 x4 x5 x7 x6 M23 else fX7_lays_335 k227 k247 x1 x3 x4 x5 x7 x8 M23)))
def fX7_lays_292 (k227 : Int32 → Int32 → Int32 → Int32 → MT → Option (Int32 × MT)) (k247 : Int32 → Int32 → Int32 → Int32 → Int32 → Int32 → MT → Option (Int32 × MT)) (x1 : Int32) (x3 : Int32) (x4 : Int32) (x5 : Int32) (x6 : Int32) (x7 : Int32) (t0 : Int32) (t1 : Int32) (M : MT) : Option (Int32 × MT) := bnd (t1 + t0) (fun v16 => (if x6 < v16 then gd (gin x5 6) (fX7_lays_320 k227 k247 x1 x3 x4 x5 x6 x7 v16 (M 28 (Int32.toNatClampNeg x5)) x5 M) else fX7_lays_320 k227 k247 x1 x3 x4 x5 x6 x7 v16 x7 x5 M))
def fX7_lays_355 (k227 : Int32 → Int32 → Int32 → Int32 → MT → Option (Int32 × MT)) (x1 : Int32) (x3 : Int32) (x5 : Int32) (t0 : Int32) (M : MT) : Option (Int32 × MT) := bnd (x5 + (1 : Int32)) (fun v24 => k227 x1 x3 t0 v24 M)
def fX7_lays_343 (k227 : Int32 → Int32 → Int32 → Int32 → MT → Option (Int32 × MT)) (x1 : Int32) (x3 : Int32) (x4 : Int32) (x5 : Int32) (x6 : Int32) (M : MT) : Option (Int32 × MT) := (if x5 = 0 then fX7_lays_355 k227 x1 x3 x5 x6 M else fX7_lays_355 k227 x1 x3 x5 x4 M)
def fX7_lays_247 (k227 : Int32 → Int32 → Int32 → Int32 → MT → Option (Int32 × MT)) (k247 : Int32 → Int32 → Int32 → Int32 → Int32 → Int32 → MT → Option (Int32 × MT)) (x1 : Int32) (x3 : Int32) (x4 : Int32) (x5 : Int32) (x6 : Int32) (x7 : Int32) (M : MT) : Option (Int32 × MT) := (if x7 < 0 then fX7_lays_343 k227 x1 x3 x4 x5 x6 M else gd (gin (((8 : Int32) * x5) + x7) 48) ((if x5 = 0 then fX7_lays_292 k227 k247 x1 x3 x4 x5 x6 x7 (0 : Int32) (M 27 (Int32.toNatClampNeg (((8 : Int32) * x5) + x7))) M else gd (gin (x5 - (1 : Int32)) 6) (cl1 (fX7_between x1 x5 x7 (M 28 (Int32.toNatClampNeg (x5 - (1 : Int32)))) M) (fun v14 => fX7_lays_292 k227 k247 x1 x3 x4 x5 x6 x7 v14 (M 27 (Int32.toNatClampNeg (((8 : Int32) * x5) + x7))) M)))))
def fX7_lays_363 (x4 : Int32) (M : MT) : Option (Int32 × MT) := some (x4, M)
def fX7_lays_227 (k227 : Int32 → Int32 → Int32 → Int32 → MT → Option (Int32 × MT)) (x1 : Int32) (x3 : Int32) (x4 : Int32) (x5 : Int32) (M : MT) : Option (Int32 × MT) := (if x3 < x5 then fX7_lays_363 x4 M else gd (gin x1 4) (bnd ((M 15 (Int32.toNatClampNeg x1)) - (1 : Int32)) (fun v5 => lf7 (fX7_lays_247 k227) 100 x1 x3 x4 x5 (1000000 : Int32) v5 M)))
def fX7_lays_220 (x1 : Int32) (x3 : Int32) (M : MT) : Option (Int32 × MT) := lf5 fX7_lays_227 100 x1 x3 (1000000 : Int32) (0 : Int32) M
def fX7_lays_14 (k14 : Int32 → Int32 → Int32 → Int32 → MT → Option (Int32 × MT)) (x1 : Int32) (x2 : Int32) (x3 : Int32) (x4 : Int32) (M : MT) : Option (Int32 × MT) := (if x4 < 0 then fX7_lays_220 x1 x3 M else lf6 (fX7_lays_22 k14) 100 x1 x2 x3 x4 (0 : Int32) M)
def fX7_lays (a1 : Int32) (a2 : Int32) (M : MT) : Option (Int32 × MT) := gd (gin a1 4) (bnd (((M 17 (Int32.toNatClampNeg a1)) / (4 : Int32)) - (1 : Int32)) (fun v2 => lf5 fX7_lays_14 100 a1 a2 v2 v2 M))
def rmX7_lays : Room := { frames := 4, cells := 0, slots := 0, locals := 84 }
set_option maxHeartbeats 4000000 in
set_option maxRecDepth 100000 in
theorem mX7_lays (l : Launch) (D : va_G) (ad : Nat → Nat) (cI cZ : ClassId) (M : MT) (a1 : Int32) (a2 : Int32) (r : Int32) (Mz : MT) (h : fX7_lays a1 a2 M = some (r, Mz)) : Met l yX7_lays wsX7_lays rmX7_lays (va_Pc [.ref (ad 0), .int a1, .int a2] (mP D ad cI cZ M)) (mQi D ad cI cZ r Mz) 0 0 (mA ad) := by
  refine Met.ofW (cc := cX7_lays) (maxL := 9) (ret := some .int) (by decide) rfl ?_
  intro p e s m args below meth c s₁ B hml hv
  obtain ⟨rfl, hI, hN, hK⟩ := hv
  have hx := B.exec
  have hb := B.bytes
  have hr := B.returns
  have hts := atoms_spec (ws := wsX7_lays) B.pre
  have hown : s.vm.findClass RX7 = some m.cls := findClass_of_methodNamed B.named
  have hlocks := B.notSynchronized
  have hin : ∀ w ∈ wsX70, w ∈ wsX7_lays := fun w h => List.mem_cons_of_mem _ (List.mem_append_right _ h)
  have l0 := hts (.fieldLink RX7 47 "PanyardModel" "notes" "[I") (List.mem_of_getElem? (i := 1) rfl)
  have l1 := hts (.constant RX7 175 (1000000)) (List.mem_of_getElem? (i := 3) rfl)
  have l2 := hts (.fieldLink RX7 41 "PanyardModel" "seats" "[I") (List.mem_of_getElem? (i := 2) rfl)
  have l3 := hts (.fieldLink RX7 77 "PanyardModel" "best" "[I") (List.mem_of_getElem? (i := 4) rfl)
  have l4 := hts (.fieldLink RX7 80 "PanyardModel" "plays" "[I") (List.mem_of_getElem? (i := 8) rfl)
  have l5 := hts (.fieldLink RX7 53 "PanyardModel" "known" "[I") (List.mem_of_getElem? (i := 5) rfl)
  have l6 := hts (.fieldLink RX7 29 "PanyardModel" "layout" "[I") (List.mem_of_getElem? (i := 6) rfl)
  have l7 := hts (.fieldLink RX7 44 "PanyardModel" "seat" "[I") (List.mem_of_getElem? (i := 7) rfl)
  have hS : va_S (mA ad) s.heap s.heap [] := va_S.rf
  have hl := lv_entry ([.ref (ad 0), .int a1, .int a2]) (n := 9) (Nat.le_of_ble_eq_true rfl)
  rw [lg_entry_eq]
  generalize (lg_sl ([.ref (ad 0), .int a1, .int a2]) ++ List.replicate (9 - (lg_sl ([.ref (ad 0), .int a1, .int a2])).length) Slot.unset).toArray = ls at hl ⊢
  have hl : lv_has ls 9 [(0, .ref (ad 0)), (1, .int a1), (2, .int a2)] := hl
  have w112 : ∀ (k14 : Int32 → Int32 → Int32 → Int32 → MT → Option (Int32 × MT)) (hk14 : (∀ (x1 : Int32) (x2 : Int32) (x3 : Int32) (x4 : Int32) (M : MT), k14 x1 x2 x3 x4 M = some (r, Mz) → mG p l e (headSpec wsX7_lays rmX7_lays).room s m (([.ref (ad 0), .int a1, .int a2] : List Value).toArray) below meth c (MQ below (mQi D ad cI cZ r Mz) (([.ref (ad 0), .int a1, .int a2] : List Value).toArray) s 0 0 (mA ad)) D ad cI cZ 9 M 14 [(0, .ref (ad 0)), (1, .int x1), (2, .int x2), (3, .int x3), (4, .int x4)] [])) (k22 : Int32 → Int32 → Int32 → Int32 → Int32 → MT → Option (Int32 × MT)) (hk22 : (∀ (x1 : Int32) (x2 : Int32) (x3 : Int32) (x4 : Int32) (x5 : Int32) (M : MT), k22 x1 x2 x3 x4 x5 M = some (r, Mz) → mG p l e (headSpec wsX7_lays rmX7_lays).room s m (([.ref (ad 0), .int a1, .int a2] : List Value).toArray) below meth c (MQ below (mQi D ad cI cZ r Mz) (([.ref (ad 0), .int a1, .int a2] : List Value).toArray) s 0 0 (mA ad)) D ad cI cZ 9 M 22 [(0, .ref (ad 0)), (1, .int x1), (2, .int x2), (3, .int x3), (4, .int x4), (5, .int x5)] [])) (k50 : Int32 → Int32 → Int32 → Int32 → Int32 → Int32 → Int32 → MT → Option (Int32 × MT)) (hk50 : (∀ (x1 : Int32) (x2 : Int32) (x3 : Int32) (x4 : Int32) (x5 : Int32) (x6 : Int32) (x7 : Int32) (M : MT), k50 x1 x2 x3 x4 x5 x6 x7 M = some (r, Mz) → mG p l e (headSpec wsX7_lays rmX7_lays).room s m (([.ref (ad 0), .int a1, .int a2] : List Value).toArray) below meth c (MQ below (mQi D ad cI cZ r Mz) (([.ref (ad 0), .int a1, .int a2] : List Value).toArray) s 0 0 (mA ad)) D ad cI cZ 9 M 50 [(0, .ref (ad 0)), (1, .int x1), (2, .int x2), (3, .int x3), (4, .int x4), (5, .int x5), (6, .int x6), (7, .int x7)] [])) (x1 : Int32) (x2 : Int32) (x3 : Int32) (x4 : Int32) (x5 : Int32) (x7 : Int32) (t0 : Int32) (M : MT), fX7_lays_112 k14 k22 k50 x1 x2 x3 x4 x5 x7 t0 M = some (r, Mz) → mG p l e (headSpec wsX7_lays rmX7_lays).room s m (([.ref (ad 0), .int a1, .int a2] : List Value).toArray) below meth c (MQ below (mQi D ad cI cZ r Mz) (([.ref (ad 0), .int a1, .int a2] : List Value).toArray) s 0 0 (mA ad)) D ad cI cZ 9 M 112 [(0, .ref (ad 0)), (1, .int x1), (2, .int x2), (3, .int x3), (4, .int x4), (5, .int x5), (7, .int x7)] [.int t0] := by
    intro k14 hk14 k22 hk22 k50 hk50 x1 x2 x3 x4 x5 x7 t0 M h H locs ls hN hS hl
    unfold fX7_lays_112 at h
    refine lv_istore (lv' := [(6, .int t0), (0, .ref (ad 0)), (1, .int x1), (2, .int x2), (3, .int x3), (4, .int x4), (5, .int x5), (7, .int x7)]) hx hb dX7_lays_112 hl (by decide) rfl (fun ls hl => ?_)
    obtain ⟨v18, ev18⟩ : ∃ y : Int32, y = (x7 + (1 : Int32)) := ⟨_, rfl⟩
    have h := bnd_ok h ev18
    refine lv_iinc (v := v18) (lv' := [(7, .int v18), (6, .int t0), (0, .ref (ad 0)), (1, .int x1), (2, .int x2), (3, .int x3), (4, .int x4), (5, .int x5)]) hx hb dX7_lays_114 hl (k := 7) rfl (by rw [ev18]; rfl) (by decide) rfl (fun ls hl => ?_)
    refine lv_goto (tgt := 50) hx hb dX7_lays_117 (by decide) ?_
    exact hk50 x1 x2 x3 x4 x5 t0 v18 M h _ _ _ hN hS (lv_sub hl [2, 3, 4, 5, 6, 7, 1, 0] rfl)
  have w207 : ∀ (k14 : Int32 → Int32 → Int32 → Int32 → MT → Option (Int32 × MT)) (hk14 : (∀ (x1 : Int32) (x2 : Int32) (x3 : Int32) (x4 : Int32) (M : MT), k14 x1 x2 x3 x4 M = some (r, Mz) → mG p l e (headSpec wsX7_lays rmX7_lays).room s m (([.ref (ad 0), .int a1, .int a2] : List Value).toArray) below meth c (MQ below (mQi D ad cI cZ r Mz) (([.ref (ad 0), .int a1, .int a2] : List Value).toArray) s 0 0 (mA ad)) D ad cI cZ 9 M 14 [(0, .ref (ad 0)), (1, .int x1), (2, .int x2), (3, .int x3), (4, .int x4)] [])) (k22 : Int32 → Int32 → Int32 → Int32 → Int32 → MT → Option (Int32 × MT)) (hk22 : (∀ (x1 : Int32) (x2 : Int32) (x3 : Int32) (x4 : Int32) (x5 : Int32) (M : MT), k22 x1 x2 x3 x4 x5 M = some (r, Mz) → mG p l e (headSpec wsX7_lays rmX7_lays).room s m (([.ref (ad 0), .int a1, .int a2] : List Value).toArray) below meth c (MQ below (mQi D ad cI cZ r Mz) (([.ref (ad 0), .int a1, .int a2] : List Value).toArray) s 0 0 (mA ad)) D ad cI cZ 9 M 22 [(0, .ref (ad 0)), (1, .int x1), (2, .int x2), (3, .int x3), (4, .int x4), (5, .int x5)] [])) (x1 : Int32) (x2 : Int32) (x3 : Int32) (x4 : Int32) (x5 : Int32) (t0 : Int32) (t1 : Int32) (M : MT), fX7_lays_207 k14 k22 x1 x2 x3 x4 x5 t0 t1 M = some (r, Mz) → mG p l e (headSpec wsX7_lays rmX7_lays).room s m (([.ref (ad 0), .int a1, .int a2] : List Value).toArray) below meth c (MQ below (mQi D ad cI cZ r Mz) (([.ref (ad 0), .int a1, .int a2] : List Value).toArray) s 0 0 (mA ad)) D ad cI cZ 9 M 207 [(0, .ref (ad 0)), (1, .int x1), (2, .int x2), (3, .int x3), (4, .int x4), (5, .int x5)] [.int t0, .int t1, .ref (ad 27)] := by
    intro k14 hk14 k22 hk22 x1 x2 x3 x4 x5 t0 t1 M h H locs ls hN hS hl
    unfold fX7_lays_207 at h
    obtain ⟨g30, h⟩ := gd_ok h
    obtain ⟨M31, eM31⟩ : ∃ y : MT, y = (va_up M 27 (upd (M 27) (Int32.toNatClampNeg t1) t0)) := ⟨_, rfl⟩
    have h := bnd_ok h eM31
    refine mg_ist hx hb hI hK hN hS 27 rfl (if_neg (by decide)) (gin_ok g30) dX7_lays_207 eM31 (fun H locs hN hS => ?_)
    obtain ⟨v32, ev32⟩ : ∃ y : Int32, y = (x5 + (1 : Int32)) := ⟨_, rfl⟩
    have h := bnd_ok h ev32
    refine lv_iinc (v := v32) (lv' := [(5, .int v32), (0, .ref (ad 0)), (1, .int x1), (2, .int x2), (3, .int x3), (4, .int x4)]) hx hb dX7_lays_208 hl (k := 5) rfl (by rw [ev32]; rfl) (by decide) rfl (fun ls hl => ?_)
    refine lv_goto (tgt := 22) hx hb dX7_lays_211 (by decide) ?_
    exact hk22 x1 x2 x3 x4 v32 M31 h _ _ _ hN hS (lv_sub hl [1, 2, 3, 4, 5, 0] rfl)
  have w156 : ∀ (k14 : Int32 → Int32 → Int32 → Int32 → MT → Option (Int32 × MT)) (hk14 : (∀ (x1 : Int32) (x2 : Int32) (x3 : Int32) (x4 : Int32) (M : MT), k14 x1 x2 x3 x4 M = some (r, Mz) → mG p l e (headSpec wsX7_lays rmX7_lays).room s m (([.ref (ad 0), .int a1, .int a2] : List Value).toArray) below meth c (MQ below (mQi D ad cI cZ r Mz) (([.ref (ad 0), .int a1, .int a2] : List Value).toArray) s 0 0 (mA ad)) D ad cI cZ 9 M 14 [(0, .ref (ad 0)), (1, .int x1), (2, .int x2), (3, .int x3), (4, .int x4)] [])) (k22 : Int32 → Int32 → Int32 → Int32 → Int32 → MT → Option (Int32 × MT)) (hk22 : (∀ (x1 : Int32) (x2 : Int32) (x3 : Int32) (x4 : Int32) (x5 : Int32) (M : MT), k22 x1 x2 x3 x4 x5 M = some (r, Mz) → mG p l e (headSpec wsX7_lays rmX7_lays).room s m (([.ref (ad 0), .int a1, .int a2] : List Value).toArray) below meth c (MQ below (mQi D ad cI cZ r Mz) (([.ref (ad 0), .int a1, .int a2] : List Value).toArray) s 0 0 (mA ad)) D ad cI cZ 9 M 22 [(0, .ref (ad 0)), (1, .int x1), (2, .int x2), (3, .int x3), (4, .int x4), (5, .int x5)] [])) (x1 : Int32) (x2 : Int32) (x3 : Int32) (x4 : Int32) (x5 : Int32) (x6 : Int32) (t0 : Int32) (M : MT), fX7_lays_156 k14 k22 x1 x2 x3 x4 x5 x6 t0 M = some (r, Mz) → mG p l e (headSpec wsX7_lays rmX7_lays).room s m (([.ref (ad 0), .int a1, .int a2] : List Value).toArray) below meth c (MQ below (mQi D ad cI cZ r Mz) (([.ref (ad 0), .int a1, .int a2] : List Value).toArray) s 0 0 (mA ad)) D ad cI cZ 9 M 156 [(0, .ref (ad 0)), (1, .int x1), (2, .int x2), (3, .int x3), (4, .int x4), (5, .int x5), (6, .int x6)] [.int t0] := by
    intro k14 hk14 k22 hk22 x1 x2 x3 x4 x5 x6 t0 M h H locs ls hN hS hl
    unfold fX7_lays_156 at h
    refine lv_istore (lv' := [(7, .int t0), (0, .ref (ad 0)), (1, .int x1), (2, .int x2), (3, .int x3), (4, .int x4), (5, .int x5), (6, .int x6)]) hx hb dX7_lays_156 hl (by decide) rfl (fun ls hl => ?_)
    refine lv_aload_n hx hb dX7_lays_158 rfl (lv_at hl 1 rfl) ?_
    refine mg_get hx hb hts hin hown hK hN 27 (by decide) l3 rfl (v := .ref (ad 27)) rfl dX7_lays_159 ?_
    refine lv_bipush (v := (8 : Int32)) hx hb dX7_lays_162 (by decide) ?_
    refine lv_iload hx hb dX7_lays_164 (lv_at hl 5 rfl) ?_
    refine lv_imul hx hb dX7_lays_166 ?_
    refine lv_iload hx hb dX7_lays_167 (lv_at hl 6 rfl) ?_
    refine lv_iadd hx hb dX7_lays_169 ?_
    refine lv_iload hx hb dX7_lays_170 (lv_at hl 0 rfl) ?_
    refine lv_if_eq (tgt := 205) hx hb dX7_lays_172 (by decide) (fun hc => ?_) (fun hc => ?_)
    · have h := ite_t h hc
      refine lv_ldc (v := (1000000 : Int32)) hx hb hown l1 dX7_lays_205 ?_
      exact w207 k14 hk14 k22 hk22 x1 x2 x3 x4 x5 (1000000 : Int32) (((8 : Int32) * x4) + x5) M h _ _ _ hN hS (lv_sub hl [1, 2, 3, 4, 5, 6] rfl)
    · have h := ite_f h hc
      refine lv_aload_n hx hb dX7_lays_175 rfl (lv_at hl 1 rfl) ?_
      refine lv_iload_n hx hb dX7_lays_176 rfl (lv_at hl 2 rfl) ?_
      refine lv_iload hx hb dX7_lays_177 (lv_at hl 5 rfl) ?_
      refine lv_aload_n hx hb dX7_lays_179 rfl (lv_at hl 1 rfl) ?_
      refine mg_get hx hb hts hin hown hK hN 11 (by decide) l6 rfl (v := .ref (ad 11)) rfl dX7_lays_180 ?_
      refine lv_aload_n hx hb dX7_lays_183 rfl (lv_at hl 1 rfl) ?_
      refine mg_get hx hb hts hin hown hK hN 16 (by decide) l7 rfl (v := .ref (ad 16)) rfl dX7_lays_184 ?_
      refine lv_bipush (v := (8 : Int32)) hx hb dX7_lays_187 (by decide) ?_
      refine lv_iload_n hx hb dX7_lays_189 rfl (lv_at hl 2 rfl) ?_
      refine lv_imul hx hb dX7_lays_190 ?_
      refine lv_iload hx hb dX7_lays_191 (lv_at hl 6 rfl) ?_
      refine lv_iadd hx hb dX7_lays_193 ?_
      obtain ⟨g25, h⟩ := gd_ok h
      refine mg_ild hx hb hK hN 16 rfl (if_neg (by decide)) (gin_ok g25) dX7_lays_194 ?_
      obtain ⟨g26, h⟩ := gd_ok h
      refine mg_ild hx hb hK hN 11 rfl (if_neg (by decide)) (gin_ok g26) dX7_lays_195 ?_
      obtain ⟨v27, c28, h⟩ := cl1_ok h
      refine mg_calli (va_runV (As := [.int x1, .int x4, .int (M 11 (Int32.toNatClampNeg (M 16 (Int32.toNatClampNeg (((8 : Int32) * x1) + x5)))))]) (rest := [.int (((8 : Int32) * x4) + x5), .ref (ad 27)]) ⟨hx, hb, hml, hown, hts⟩ (mX7_within l D ad cI cZ M x1 x4 (M 11 (Int32.toNatClampNeg (M 16 (Int32.toNatClampNeg (((8 : Int32) * x1) + x5))))) v27 c28) (cwV 3 hts gX7_lays_X7_within rfl rfl rfl (by decide +kernel) ⟨Nat.le_of_ble_eq_true rfl, Nat.le_of_ble_eq_true rfl⟩) (mg_preV hI hK hN) rfl rfl hl.1 rfl (lv_room (Nat.le_of_ble_eq_true rfl)) dX7_lays_196 ⟨Nat.zero_le _, Nat.zero_le _⟩) hS (fun H locs hN hS => ?_)
      refine lv_iload hx hb dX7_lays_199 (lv_at hl 7 rfl) ?_
      refine lv_iadd hx hb dX7_lays_201 ?_
      refine lv_goto (tgt := 207) hx hb dX7_lays_202 (by decide) ?_
      exact w207 k14 hk14 k22 hk22 x1 x2 x3 x4 x5 (v27 + x6) (((8 : Int32) * x4) + x5) M h _ _ _ hN hS (lv_sub hl [1, 2, 3, 4, 5, 6] rfl)
  have w155 : ∀ (k14 : Int32 → Int32 → Int32 → Int32 → MT → Option (Int32 × MT)) (hk14 : (∀ (x1 : Int32) (x2 : Int32) (x3 : Int32) (x4 : Int32) (M : MT), k14 x1 x2 x3 x4 M = some (r, Mz) → mG p l e (headSpec wsX7_lays rmX7_lays).room s m (([.ref (ad 0), .int a1, .int a2] : List Value).toArray) below meth c (MQ below (mQi D ad cI cZ r Mz) (([.ref (ad 0), .int a1, .int a2] : List Value).toArray) s 0 0 (mA ad)) D ad cI cZ 9 M 14 [(0, .ref (ad 0)), (1, .int x1), (2, .int x2), (3, .int x3), (4, .int x4)] [])) (k22 : Int32 → Int32 → Int32 → Int32 → Int32 → MT → Option (Int32 × MT)) (hk22 : (∀ (x1 : Int32) (x2 : Int32) (x3 : Int32) (x4 : Int32) (x5 : Int32) (M : MT), k22 x1 x2 x3 x4 x5 M = some (r, Mz) → mG p l e (headSpec wsX7_lays rmX7_lays).room s m (([.ref (ad 0), .int a1, .int a2] : List Value).toArray) below meth c (MQ below (mQi D ad cI cZ r Mz) (([.ref (ad 0), .int a1, .int a2] : List Value).toArray) s 0 0 (mA ad)) D ad cI cZ 9 M 22 [(0, .ref (ad 0)), (1, .int x1), (2, .int x2), (3, .int x3), (4, .int x4), (5, .int x5)] [])) (x1 : Int32) (x2 : Int32) (x3 : Int32) (x4 : Int32) (x5 : Int32) (x6 : Int32) (M : MT), fX7_lays_155 k14 k22 x1 x2 x3 x4 x5 x6 M = some (r, Mz) → mG p l e (headSpec wsX7_lays rmX7_lays).room s m (([.ref (ad 0), .int a1, .int a2] : List Value).toArray) below meth c (MQ below (mQi D ad cI cZ r Mz) (([.ref (ad 0), .int a1, .int a2] : List Value).toArray) s 0 0 (mA ad)) D ad cI cZ 9 M 155 [(0, .ref (ad 0)), (1, .int x1), (2, .int x2), (3, .int x3), (4, .int x4), (5, .int x5), (6, .int x6)] [] := by
    intro k14 hk14 k22 hk22 x1 x2 x3 x4 x5 x6 M h H locs ls hN hS hl
    unfold fX7_lays_155 at h
    refine lv_iconst (v := (0 : Int32)) hx hb dX7_lays_155 (by decide) ?_
    exact w156 k14 hk14 k22 hk22 x1 x2 x3 x4 x5 x6 (0 : Int32) M h _ _ _ hN hS (lv_sub hl [0, 1, 2, 3, 4, 5, 6] rfl)
  have w120 : ∀ (k14 : Int32 → Int32 → Int32 → Int32 → MT → Option (Int32 × MT)) (hk14 : (∀ (x1 : Int32) (x2 : Int32) (x3 : Int32) (x4 : Int32) (M : MT), k14 x1 x2 x3 x4 M = some (r, Mz) → mG p l e (headSpec wsX7_lays rmX7_lays).room s m (([.ref (ad 0), .int a1, .int a2] : List Value).toArray) below meth c (MQ below (mQi D ad cI cZ r Mz) (([.ref (ad 0), .int a1, .int a2] : List Value).toArray) s 0 0 (mA ad)) D ad cI cZ 9 M 14 [(0, .ref (ad 0)), (1, .int x1), (2, .int x2), (3, .int x3), (4, .int x4)] [])) (k22 : Int32 → Int32 → Int32 → Int32 → Int32 → MT → Option (Int32 × MT)) (hk22 : (∀ (x1 : Int32) (x2 : Int32) (x3 : Int32) (x4 : Int32) (x5 : Int32) (M : MT), k22 x1 x2 x3 x4 x5 M = some (r, Mz) → mG p l e (headSpec wsX7_lays rmX7_lays).room s m (([.ref (ad 0), .int a1, .int a2] : List Value).toArray) below meth c (MQ below (mQi D ad cI cZ r Mz) (([.ref (ad 0), .int a1, .int a2] : List Value).toArray) s 0 0 (mA ad)) D ad cI cZ 9 M 22 [(0, .ref (ad 0)), (1, .int x1), (2, .int x2), (3, .int x3), (4, .int x4), (5, .int x5)] [])) (x1 : Int32) (x2 : Int32) (x3 : Int32) (x4 : Int32) (x5 : Int32) (x6 : Int32) (M : MT), fX7_lays_120 k14 k22 x1 x2 x3 x4 x5 x6 M = some (r, Mz) → mG p l e (headSpec wsX7_lays rmX7_lays).room s m (([.ref (ad 0), .int a1, .int a2] : List Value).toArray) below meth c (MQ below (mQi D ad cI cZ r Mz) (([.ref (ad 0), .int a1, .int a2] : List Value).toArray) s 0 0 (mA ad)) D ad cI cZ 9 M 120 [(0, .ref (ad 0)), (1, .int x1), (2, .int x2), (3, .int x3), (4, .int x4), (5, .int x5), (6, .int x6)] [] := by
    intro k14 hk14 k22 hk22 x1 x2 x3 x4 x5 x6 M h H locs ls hN hS hl
    unfold fX7_lays_120 at h
    refine lv_aload_n hx hb dX7_lays_120 rfl (lv_at hl 0 rfl) ?_
    refine mg_get hx hb hts hin hown hK hN 19 (by decide) l5 rfl (v := .ref (ad 19)) rfl dX7_lays_121 ?_
    refine lv_aload_n hx hb dX7_lays_124 rfl (lv_at hl 0 rfl) ?_
    refine lv_iload_n hx hb dX7_lays_125 rfl (lv_at hl 1 rfl) ?_
    refine lv_iload hx hb dX7_lays_126 (lv_at hl 5 rfl) ?_
    refine lv_iload hx hb dX7_lays_128 (lv_at hl 4 rfl) ?_
    obtain ⟨v19, c20, h⟩ := cl1_ok h
    refine mg_calli (va_runV (As := [.int x1, .int x5, .int x4]) (rest := [.ref (ad 19)]) ⟨hx, hb, hml, hown, hts⟩ (mX7_at l D ad cI cZ M x1 x5 x4 v19 c20) (cwV 3 hts gX7_lays_X7_at rfl rfl rfl (by decide +kernel) ⟨Nat.le_of_ble_eq_true rfl, Nat.le_of_ble_eq_true rfl⟩) (mg_preV hI hK hN) rfl rfl hl.1 rfl (lv_room (Nat.le_of_ble_eq_true rfl)) dX7_lays_130 ⟨Nat.zero_le _, Nat.zero_le _⟩) hS (fun H locs hN hS => ?_)
    obtain ⟨g21, h⟩ := gd_ok h
    refine mg_ild hx hb hK hN 19 rfl (if_neg (by decide)) (gin_ok g21) dX7_lays_133 ?_
    refine lv_iconst (v := (1 : Int32)) hx hb dX7_lays_134 (by decide) ?_
    refine lv_icmp_ne (tgt := 155) hx hb dX7_lays_135 (by decide) (fun hc => ?_) (fun hc => ?_)
    · have h := ite_f h hc
      exact w155 k14 hk14 k22 hk22 x1 x2 x3 x4 x5 x6 M h _ _ _ hN hS (lv_sub hl [0, 1, 2, 3, 4, 5, 6] rfl)
    · have h := ite_t h hc
      refine lv_iload hx hb dX7_lays_138 (lv_at hl 5 rfl) ?_
      refine lv_iload_n hx hb dX7_lays_140 rfl (lv_at hl 2 rfl) ?_
      refine lv_icmp_eq (tgt := 155) hx hb dX7_lays_141 (by decide) (fun hc => ?_) (fun hc => ?_)
      · have h := ite_t h hc
        exact w155 k14 hk14 k22 hk22 x1 x2 x3 x4 x5 x6 M h _ _ _ hN hS (lv_sub hl [0, 1, 2, 3, 4, 5, 6] rfl)
      · have h := ite_f h hc
        refine lv_iload hx hb dX7_lays_144 (lv_at hl 6 rfl) ?_
        refine lv_ldc (v := (1000000 : Int32)) hx hb hown l1 dX7_lays_146 ?_
        refine lv_icmp_ge (tgt := 155) hx hb dX7_lays_148 (by decide) (fun hc => ?_) (fun hc => ?_)
        · have h := ite_t h hc
          exact w155 k14 hk14 k22 hk22 x1 x2 x3 x4 x5 x6 M h _ _ _ hN hS (lv_sub hl [0, 1, 2, 3, 4, 5, 6] rfl)
        · have h := ite_f h hc
          refine lv_iconst (v := (1 : Int32)) hx hb dX7_lays_151 (by decide) ?_
          refine lv_goto (tgt := 156) hx hb dX7_lays_152 (by decide) ?_
          exact w156 k14 hk14 k22 hk22 x1 x2 x3 x4 x5 x6 (1 : Int32) M h _ _ _ hN hS (lv_sub hl [0, 1, 2, 3, 4, 5, 6] rfl)
  have w50 : ∀ (k14 : Int32 → Int32 → Int32 → Int32 → MT → Option (Int32 × MT)) (hk14 : (∀ (x1 : Int32) (x2 : Int32) (x3 : Int32) (x4 : Int32) (M : MT), k14 x1 x2 x3 x4 M = some (r, Mz) → mG p l e (headSpec wsX7_lays rmX7_lays).room s m (([.ref (ad 0), .int a1, .int a2] : List Value).toArray) below meth c (MQ below (mQi D ad cI cZ r Mz) (([.ref (ad 0), .int a1, .int a2] : List Value).toArray) s 0 0 (mA ad)) D ad cI cZ 9 M 14 [(0, .ref (ad 0)), (1, .int x1), (2, .int x2), (3, .int x3), (4, .int x4)] [])) (k22 : Int32 → Int32 → Int32 → Int32 → Int32 → MT → Option (Int32 × MT)) (hk22 : (∀ (x1 : Int32) (x2 : Int32) (x3 : Int32) (x4 : Int32) (x5 : Int32) (M : MT), k22 x1 x2 x3 x4 x5 M = some (r, Mz) → mG p l e (headSpec wsX7_lays rmX7_lays).room s m (([.ref (ad 0), .int a1, .int a2] : List Value).toArray) below meth c (MQ below (mQi D ad cI cZ r Mz) (([.ref (ad 0), .int a1, .int a2] : List Value).toArray) s 0 0 (mA ad)) D ad cI cZ 9 M 22 [(0, .ref (ad 0)), (1, .int x1), (2, .int x2), (3, .int x3), (4, .int x4), (5, .int x5)] [])) (x1 : Int32) (x2 : Int32) (x3 : Int32) (x4 : Int32) (x5 : Int32) (x6 : Int32) (x7 : Int32) (M : MT), lf8 (fX7_lays_50 k14 k22) 100 x1 x2 x3 x4 x5 x6 x7 M = some (r, Mz) → mG p l e (headSpec wsX7_lays rmX7_lays).room s m (([.ref (ad 0), .int a1, .int a2] : List Value).toArray) below meth c (MQ below (mQi D ad cI cZ r Mz) (([.ref (ad 0), .int a1, .int a2] : List Value).toArray) s 0 0 (mA ad)) D ad cI cZ 9 M 50 [(0, .ref (ad 0)), (1, .int x1), (2, .int x2), (3, .int x3), (4, .int x4), (5, .int x5), (6, .int x6), (7, .int x7)] [] := by
    intro k14 hk14 k22 hk22
    refine lf8_ok (P := (fun x1 x2 x3 x4 x5 x6 x7 M => mG p l e (headSpec wsX7_lays rmX7_lays).room s m (([.ref (ad 0), .int a1, .int a2] : List Value).toArray) below meth c (MQ below (mQi D ad cI cZ r Mz) (([.ref (ad 0), .int a1, .int a2] : List Value).toArray) s 0 0 (mA ad)) D ad cI cZ 9 M 50 [(0, .ref (ad 0)), (1, .int x1), (2, .int x2), (3, .int x3), (4, .int x4), (5, .int x5), (6, .int x6), (7, .int x7)] [])) (fun k50 hk50 x1 x2 x3 x4 x5 x6 x7 M h H locs ls hN hS hl => ?_) 100
    unfold fX7_lays_50 at h
    refine lv_iload hx hb dX7_lays_50 (lv_at hl 7 rfl) ?_
    refine lv_aload_n hx hb dX7_lays_52 rfl (lv_at hl 0 rfl) ?_
    refine mg_get hx hb hts hin hown hK hN 15 (by decide) l2 rfl (v := .ref (ad 15)) rfl dX7_lays_53 ?_
    refine lv_iload_n hx hb dX7_lays_56 rfl (lv_at hl 1 rfl) ?_
    obtain ⟨g7, h⟩ := gd_ok h
    refine mg_ild hx hb hK hN 15 rfl (if_neg (by decide)) (gin_ok g7) dX7_lays_57 ?_
    refine lv_icmp_ge (tgt := 120) hx hb dX7_lays_58 (by decide) (fun hc => ?_) (fun hc => ?_)
    · have h := ite_t h hc
      exact w120 k14 hk14 k22 hk22 x1 x2 x3 x4 x5 x6 M h _ _ _ hN hS (lv_sub hl [0, 1, 2, 3, 4, 5, 6] rfl)
    · have h := ite_f h hc
      refine lv_iload hx hb dX7_lays_61 (lv_at hl 4 rfl) ?_
      refine lv_iload_n hx hb dX7_lays_63 rfl (lv_at hl 3 rfl) ?_
      refine lv_icmp_ge (tgt := 120) hx hb dX7_lays_64 (by decide) (fun hc => ?_) (fun hc => ?_)
      · have h := ite_t h hc
        exact w120 k14 hk14 k22 hk22 x1 x2 x3 x4 x5 x6 M h _ _ _ hN hS (lv_sub hl [0, 1, 2, 3, 4, 5, 6] rfl)
      · have h := ite_f h hc
        refine lv_aload_n hx hb dX7_lays_67 rfl (lv_at hl 0 rfl) ?_
        refine mg_get hx hb hts hin hown hK hN 27 (by decide) l3 rfl (v := .ref (ad 27)) rfl dX7_lays_68 ?_
        refine lv_bipush (v := (8 : Int32)) hx hb dX7_lays_71 (by decide) ?_
        refine lv_iload hx hb dX7_lays_73 (lv_at hl 4 rfl) ?_
        refine lv_iconst (v := (1 : Int32)) hx hb dX7_lays_75 (by decide) ?_
        refine lv_iadd hx hb dX7_lays_76 ?_
        refine lv_imul hx hb dX7_lays_77 ?_
        refine lv_iload hx hb dX7_lays_78 (lv_at hl 7 rfl) ?_
        refine lv_iadd hx hb dX7_lays_80 ?_
        obtain ⟨g8, h⟩ := gd_ok h
        refine mg_ild hx hb hK hN 27 rfl (if_neg (by decide)) (gin_ok g8) dX7_lays_81 ?_
        refine lv_aload_n hx hb dX7_lays_82 rfl (lv_at hl 0 rfl) ?_
        refine lv_iload_n hx hb dX7_lays_83 rfl (lv_at hl 1 rfl) ?_
        refine lv_iload hx hb dX7_lays_84 (lv_at hl 4 rfl) ?_
        refine lv_iconst (v := (1 : Int32)) hx hb dX7_lays_86 (by decide) ?_
        refine lv_iadd hx hb dX7_lays_87 ?_
        refine lv_iload hx hb dX7_lays_88 (lv_at hl 7 rfl) ?_
        refine lv_iload hx hb dX7_lays_90 (lv_at hl 5 rfl) ?_
        obtain ⟨v9, c10, h⟩ := cl1_ok h
        refine mg_calli (va_runV (As := [.int x1, .int (x4 + (1 : Int32)), .int x7, .int x5]) (rest := [.int (M 27 (Int32.toNatClampNeg (((8 : Int32) * (x4 + (1 : Int32))) + x7)))]) ⟨hx, hb, hml, hown, hts⟩ (mX7_between l D ad cI cZ M x1 (x4 + (1 : Int32)) x7 x5 v9 c10) (cwV 4 hts gX7_lays_X7_between rfl rfl rfl (by decide +kernel) ⟨Nat.le_of_ble_eq_true rfl, Nat.le_of_ble_eq_true rfl⟩) (mg_preV hI hK hN) rfl rfl hl.1 rfl (lv_room (Nat.le_of_ble_eq_true rfl)) dX7_lays_92 ⟨Nat.zero_le _, Nat.zero_le _⟩) hS (fun H locs hN hS => ?_)
        refine lv_iadd hx hb dX7_lays_95 ?_
        refine lv_topi (fun v11 ev11 => ?_)
        have h := bnd_ok h ev11
        refine lv_istore (lv' := [(8, .int v11), (0, .ref (ad 0)), (1, .int x1), (2, .int x2), (3, .int x3), (4, .int x4), (5, .int x5), (6, .int x6), (7, .int x7)]) hx hb dX7_lays_96 hl (by decide) rfl (fun ls hl => ?_)
        refine lv_iload hx hb dX7_lays_98 (lv_at hl 0 rfl) ?_
        refine lv_iload hx hb dX7_lays_100 (lv_at hl 7 rfl) ?_
        refine lv_icmp_ge (tgt := 110) hx hb dX7_lays_102 (by decide) (fun hc => ?_) (fun hc => ?_)
        · have h := ite_t h hc
          refine lv_iload hx hb dX7_lays_110 (lv_at hl 7 rfl) ?_
          exact w112 k14 hk14 k22 hk22 k50 hk50 x1 x2 x3 x4 x5 x7 x6 M h _ _ _ hN hS (lv_sub hl [1, 2, 3, 4, 5, 6, 8] rfl)
        · have h := ite_f h hc
          refine lv_iload hx hb dX7_lays_105 (lv_at hl 0 rfl) ?_
          refine lv_goto (tgt := 112) hx hb dX7_lays_107 (by decide) ?_
          exact w112 k14 hk14 k22 hk22 k50 hk50 x1 x2 x3 x4 x5 x7 v11 M h _ _ _ hN hS (lv_sub hl [1, 2, 3, 4, 5, 6, 8] rfl)
  have w45 : ∀ (k14 : Int32 → Int32 → Int32 → Int32 → MT → Option (Int32 × MT)) (hk14 : (∀ (x1 : Int32) (x2 : Int32) (x3 : Int32) (x4 : Int32) (M : MT), k14 x1 x2 x3 x4 M = some (r, Mz) → mG p l e (headSpec wsX7_lays rmX7_lays).room s m (([.ref (ad 0), .int a1, .int a2] : List Value).toArray) below meth c (MQ below (mQi D ad cI cZ r Mz) (([.ref (ad 0), .int a1, .int a2] : List Value).toArray) s 0 0 (mA ad)) D ad cI cZ 9 M 14 [(0, .ref (ad 0)), (1, .int x1), (2, .int x2), (3, .int x3), (4, .int x4)] [])) (k22 : Int32 → Int32 → Int32 → Int32 → Int32 → MT → Option (Int32 × MT)) (hk22 : (∀ (x1 : Int32) (x2 : Int32) (x3 : Int32) (x4 : Int32) (x5 : Int32) (M : MT), k22 x1 x2 x3 x4 x5 M = some (r, Mz) → mG p l e (headSpec wsX7_lays rmX7_lays).room s m (([.ref (ad 0), .int a1, .int a2] : List Value).toArray) below meth c (MQ below (mQi D ad cI cZ r Mz) (([.ref (ad 0), .int a1, .int a2] : List Value).toArray) s 0 0 (mA ad)) D ad cI cZ 9 M 22 [(0, .ref (ad 0)), (1, .int x1), (2, .int x2), (3, .int x3), (4, .int x4), (5, .int x5)] [])) (x1 : Int32) (x2 : Int32) (x3 : Int32) (x4 : Int32) (x5 : Int32) (t0 : Int32) (M : MT), fX7_lays_45 k14 k22 x1 x2 x3 x4 x5 t0 M = some (r, Mz) → mG p l e (headSpec wsX7_lays rmX7_lays).room s m (([.ref (ad 0), .int a1, .int a2] : List Value).toArray) below meth c (MQ below (mQi D ad cI cZ r Mz) (([.ref (ad 0), .int a1, .int a2] : List Value).toArray) s 0 0 (mA ad)) D ad cI cZ 9 M 45 [(0, .ref (ad 0)), (1, .int x1), (2, .int x2), (3, .int x3), (4, .int x4), (5, .int x5)] [.int t0] := by
    intro k14 hk14 k22 hk22 x1 x2 x3 x4 x5 t0 M h H locs ls hN hS hl
    unfold fX7_lays_45 at h
    refine lv_istore (lv' := [(6, .int t0), (0, .ref (ad 0)), (1, .int x1), (2, .int x2), (3, .int x3), (4, .int x4), (5, .int x5)]) hx hb dX7_lays_45 hl (by decide) rfl (fun ls hl => ?_)
    refine lv_iconst (v := (0 : Int32)) hx hb dX7_lays_47 (by decide) ?_
    refine lv_istore (lv' := [(7, .int (0 : Int32)), (6, .int t0), (0, .ref (ad 0)), (1, .int x1), (2, .int x2), (3, .int x3), (4, .int x4), (5, .int x5)]) hx hb dX7_lays_48 hl (by decide) rfl (fun ls hl => ?_)
    exact w50 k14 hk14 k22 hk22 x1 x2 x3 x4 x5 t0 (0 : Int32) M h _ _ _ hN hS (lv_sub hl [2, 3, 4, 5, 6, 7, 1, 0] rfl)
  have w214 : ∀ (k14 : Int32 → Int32 → Int32 → Int32 → MT → Option (Int32 × MT)) (hk14 : (∀ (x1 : Int32) (x2 : Int32) (x3 : Int32) (x4 : Int32) (M : MT), k14 x1 x2 x3 x4 M = some (r, Mz) → mG p l e (headSpec wsX7_lays rmX7_lays).room s m (([.ref (ad 0), .int a1, .int a2] : List Value).toArray) below meth c (MQ below (mQi D ad cI cZ r Mz) (([.ref (ad 0), .int a1, .int a2] : List Value).toArray) s 0 0 (mA ad)) D ad cI cZ 9 M 14 [(0, .ref (ad 0)), (1, .int x1), (2, .int x2), (3, .int x3), (4, .int x4)] [])) (x1 : Int32) (x2 : Int32) (x3 : Int32) (x4 : Int32) (M : MT), fX7_lays_214 k14 x1 x2 x3 x4 M = some (r, Mz) → mG p l e (headSpec wsX7_lays rmX7_lays).room s m (([.ref (ad 0), .int a1, .int a2] : List Value).toArray) below meth c (MQ below (mQi D ad cI cZ r Mz) (([.ref (ad 0), .int a1, .int a2] : List Value).toArray) s 0 0 (mA ad)) D ad cI cZ 9 M 214 [(0, .ref (ad 0)), (1, .int x1), (2, .int x2), (3, .int x3), (4, .int x4)] [] := by
    intro k14 hk14 x1 x2 x3 x4 M h H locs ls hN hS hl
    unfold fX7_lays_214 at h
    obtain ⟨v6, ev6⟩ : ∃ y : Int32, y = (x4 + (-1 : Int32)) := ⟨_, rfl⟩
    have h := bnd_ok h ev6
    refine lv_iinc (v := v6) (lv' := [(4, .int v6), (0, .ref (ad 0)), (1, .int x1), (2, .int x2), (3, .int x3)]) hx hb dX7_lays_214 hl (k := 4) rfl (by rw [ev6]; rfl) (by decide) rfl (fun ls hl => ?_)
    refine lv_goto (tgt := 14) hx hb dX7_lays_217 (by decide) ?_
    exact hk14 x1 x2 x3 v6 M h _ _ _ hN hS (lv_sub hl [1, 2, 3, 4, 0] rfl)
  have w22 : ∀ (k14 : Int32 → Int32 → Int32 → Int32 → MT → Option (Int32 × MT)) (hk14 : (∀ (x1 : Int32) (x2 : Int32) (x3 : Int32) (x4 : Int32) (M : MT), k14 x1 x2 x3 x4 M = some (r, Mz) → mG p l e (headSpec wsX7_lays rmX7_lays).room s m (([.ref (ad 0), .int a1, .int a2] : List Value).toArray) below meth c (MQ below (mQi D ad cI cZ r Mz) (([.ref (ad 0), .int a1, .int a2] : List Value).toArray) s 0 0 (mA ad)) D ad cI cZ 9 M 14 [(0, .ref (ad 0)), (1, .int x1), (2, .int x2), (3, .int x3), (4, .int x4)] [])) (x1 : Int32) (x2 : Int32) (x3 : Int32) (x4 : Int32) (x5 : Int32) (M : MT), lf6 (fX7_lays_22 k14) 100 x1 x2 x3 x4 x5 M = some (r, Mz) → mG p l e (headSpec wsX7_lays rmX7_lays).room s m (([.ref (ad 0), .int a1, .int a2] : List Value).toArray) below meth c (MQ below (mQi D ad cI cZ r Mz) (([.ref (ad 0), .int a1, .int a2] : List Value).toArray) s 0 0 (mA ad)) D ad cI cZ 9 M 22 [(0, .ref (ad 0)), (1, .int x1), (2, .int x2), (3, .int x3), (4, .int x4), (5, .int x5)] [] := by
    intro k14 hk14
    refine lf6_ok (P := (fun x1 x2 x3 x4 x5 M => mG p l e (headSpec wsX7_lays rmX7_lays).room s m (([.ref (ad 0), .int a1, .int a2] : List Value).toArray) below meth c (MQ below (mQi D ad cI cZ r Mz) (([.ref (ad 0), .int a1, .int a2] : List Value).toArray) s 0 0 (mA ad)) D ad cI cZ 9 M 22 [(0, .ref (ad 0)), (1, .int x1), (2, .int x2), (3, .int x3), (4, .int x4), (5, .int x5)] [])) (fun k22 hk22 x1 x2 x3 x4 x5 M h H locs ls hN hS hl => ?_) 100
    unfold fX7_lays_22 at h
    refine lv_iload hx hb dX7_lays_22 (lv_at hl 5 rfl) ?_
    refine lv_aload_n hx hb dX7_lays_24 rfl (lv_at hl 0 rfl) ?_
    refine mg_get hx hb hts hin hown hK hN 15 (by decide) l2 rfl (v := .ref (ad 15)) rfl dX7_lays_25 ?_
    refine lv_iload_n hx hb dX7_lays_28 rfl (lv_at hl 1 rfl) ?_
    obtain ⟨g3, h⟩ := gd_ok h
    refine mg_ild hx hb hK hN 15 rfl (if_neg (by decide)) (gin_ok g3) dX7_lays_29 ?_
    refine lv_icmp_ge (tgt := 214) hx hb dX7_lays_30 (by decide) (fun hc => ?_) (fun hc => ?_)
    · have h := ite_t h hc
      exact w214 k14 hk14 x1 x2 x3 x4 M h _ _ _ hN hS (lv_sub hl [0, 1, 2, 3, 4] rfl)
    · have h := ite_f h hc
      refine lv_iload hx hb dX7_lays_33 (lv_at hl 4 rfl) ?_
      refine lv_iload_n hx hb dX7_lays_35 rfl (lv_at hl 3 rfl) ?_
      refine lv_icmp_ne (tgt := 43) hx hb dX7_lays_36 (by decide) (fun hc => ?_) (fun hc => ?_)
      · have h := ite_f h hc
        refine lv_ldc (v := (1000000 : Int32)) hx hb hown l1 dX7_lays_43 ?_
        exact w45 k14 hk14 k22 hk22 x1 x2 x3 x4 x5 (1000000 : Int32) M h _ _ _ hN hS (lv_sub hl [0, 1, 2, 3, 4, 5] rfl)
      · have h := ite_t h hc
        refine lv_iconst (v := (0 : Int32)) hx hb dX7_lays_39 (by decide) ?_
        refine lv_goto (tgt := 45) hx hb dX7_lays_40 (by decide) ?_
        exact w45 k14 hk14 k22 hk22 x1 x2 x3 x4 x5 (0 : Int32) M h _ _ _ hN hS (lv_sub hl [0, 1, 2, 3, 4, 5] rfl)
  have w335 : ∀ (k227 : Int32 → Int32 → Int32 → Int32 → MT → Option (Int32 × MT)) (hk227 : (∀ (x1 : Int32) (x3 : Int32) (x4 : Int32) (x5 : Int32) (M : MT), k227 x1 x3 x4 x5 M = some (r, Mz) → mG p l e (headSpec wsX7_lays rmX7_lays).room s m (([.ref (ad 0), .int a1, .int a2] : List Value).toArray) below meth c (MQ below (mQi D ad cI cZ r Mz) (([.ref (ad 0), .int a1, .int a2] : List Value).toArray) s 0 0 (mA ad)) D ad cI cZ 9 M 227 [(0, .ref (ad 0)), (1, .int x1), (3, .int x3), (4, .int x4), (5, .int x5)] [])) (k247 : Int32 → Int32 → Int32 → Int32 → Int32 → Int32 → MT → Option (Int32 × MT)) (hk247 : (∀ (x1 : Int32) (x3 : Int32) (x4 : Int32) (x5 : Int32) (x6 : Int32) (x7 : Int32) (M : MT), k247 x1 x3 x4 x5 x6 x7 M = some (r, Mz) → mG p l e (headSpec wsX7_lays rmX7_lays).room s m (([.ref (ad 0), .int a1, .int a2] : List Value).toArray) below meth c (MQ below (mQi D ad cI cZ r Mz) (([.ref (ad 0), .int a1, .int a2] : List Value).toArray) s 0 0 (mA ad)) D ad cI cZ 9 M 247 [(0, .ref (ad 0)), (1, .int x1), (3, .int x3), (4, .int x4), (5, .int x5), (6, .int x6), (7, .int x7)] [])) (x1 : Int32) (x3 : Int32) (x4 : Int32) (x5 : Int32) (x7 : Int32) (t0 : Int32) (M : MT), fX7_lays_335 k227 k247 x1 x3 x4 x5 x7 t0 M = some (r, Mz) → mG p l e (headSpec wsX7_lays rmX7_lays).room s m (([.ref (ad 0), .int a1, .int a2] : List Value).toArray) below meth c (MQ below (mQi D ad cI cZ r Mz) (([.ref (ad 0), .int a1, .int a2] : List Value).toArray) s 0 0 (mA ad)) D ad cI cZ 9 M 335 [(0, .ref (ad 0)), (1, .int x1), (3, .int x3), (4, .int x4), (5, .int x5), (7, .int x7)] [.int t0] := by
    intro k227 hk227 k247 hk247 x1 x3 x4 x5 x7 t0 M h H locs ls hN hS hl
    unfold fX7_lays_335 at h
    refine lv_istore (lv' := [(6, .int t0), (0, .ref (ad 0)), (1, .int x1), (3, .int x3), (4, .int x4), (5, .int x5), (7, .int x7)]) hx hb dX7_lays_335 hl (by decide) rfl (fun ls hl => ?_)
    obtain ⟨v29, ev29⟩ : ∃ y : Int32, y = (x7 + (-1 : Int32)) := ⟨_, rfl⟩
    have h := bnd_ok h ev29
    refine lv_iinc (v := v29) (lv' := [(7, .int v29), (6, .int t0), (0, .ref (ad 0)), (1, .int x1), (3, .int x3), (4, .int x4), (5, .int x5)]) hx hb dX7_lays_337 hl (k := 6) rfl (by rw [ev29]; rfl) (by decide) rfl (fun ls hl => ?_)
    refine lv_goto (tgt := 247) hx hb dX7_lays_340 (by decide) ?_
    exact hk247 x1 x3 x4 x5 t0 v29 M h _ _ _ hN hS (lv_sub hl [2, 3, 4, 5, 6, 1, 0] rfl)
  have w320 : ∀ (k227 : Int32 → Int32 → Int32 → Int32 → MT → Option (Int32 × MT)) (hk227 : (∀ (x1 : Int32) (x3 : Int32) (x4 : Int32) (x5 : Int32) (M : MT), k227 x1 x3 x4 x5 M = some (r, Mz) → mG p l e (headSpec wsX7_lays rmX7_lays).room s m (([.ref (ad 0), .int a1, .int a2] : List Value).toArray) below meth c (MQ below (mQi D ad cI cZ r Mz) (([.ref (ad 0), .int a1, .int a2] : List Value).toArray) s 0 0 (mA ad)) D ad cI cZ 9 M 227 [(0, .ref (ad 0)), (1, .int x1), (3, .int x3), (4, .int x4), (5, .int x5)] [])) (k247 : Int32 → Int32 → Int32 → Int32 → Int32 → Int32 → MT → Option (Int32 × MT)) (hk247 : (∀ (x1 : Int32) (x3 : Int32) (x4 : Int32) (x5 : Int32) (x6 : Int32) (x7 : Int32) (M : MT), k247 x1 x3 x4 x5 x6 x7 M = some (r, Mz) → mG p l e (headSpec wsX7_lays rmX7_lays).room s m (([.ref (ad 0), .int a1, .int a2] : List Value).toArray) below meth c (MQ below (mQi D ad cI cZ r Mz) (([.ref (ad 0), .int a1, .int a2] : List Value).toArray) s 0 0 (mA ad)) D ad cI cZ 9 M 247 [(0, .ref (ad 0)), (1, .int x1), (3, .int x3), (4, .int x4), (5, .int x5), (6, .int x6), (7, .int x7)] [])) (x1 : Int32) (x3 : Int32) (x4 : Int32) (x5 : Int32) (x6 : Int32) (x7 : Int32) (x8 : Int32) (t0 : Int32) (t1 : Int32) (M : MT), fX7_lays_320 k227 k247 x1 x3 x4 x5 x6 x7 x8 t0 t1 M = some (r, Mz) → mG p l e (headSpec wsX7_lays rmX7_lays).room s m (([.ref (ad 0), .int a1, .int a2] : List Value).toArray) below meth c (MQ below (mQi D ad cI cZ r Mz) (([.ref (ad 0), .int a1, .int a2] : List Value).toArray) s 0 0 (mA ad)) D ad cI cZ 9 M 320 [(0, .ref (ad 0)), (1, .int x1), (3, .int x3), (4, .int x4), (5, .int x5), (6, .int x6), (7, .int x7), (8, .int x8)] [.int t0, .int t1, .ref (ad 28)] := by
    intro k227 hk227 k247 hk247 x1 x3 x4 x5 x6 x7 x8 t0 t1 M h H locs ls hN hS hl
    unfold fX7_lays_320 at h
    obtain ⟨g22, h⟩ := gd_ok h
    obtain ⟨M23, eM23⟩ : ∃ y : MT, y = (va_up M 28 (upd (M 28) (Int32.toNatClampNeg t1) t0)) := ⟨_, rfl⟩
    have h := bnd_ok h eM23
    refine mg_ist hx hb hI hK hN hS 28 rfl (if_neg (by decide)) (gin_ok g22) dX7_lays_320 eM23 (fun H locs hN hS => ?_)
    refine lv_iload hx hb dX7_lays_321 (lv_at hl 7 rfl) ?_
    refine lv_iload hx hb dX7_lays_323 (lv_at hl 5 rfl) ?_
    refine lv_icmp_ge (tgt := 333) hx hb dX7_lays_325 (by decide) (fun hc => ?_) (fun hc => ?_)
    · have h := ite_t h hc
      refine lv_iload hx hb dX7_lays_333 (lv_at hl 5 rfl) ?_
      exact w335 k227 hk227 k247 hk247 x1 x3 x4 x5 x7 x6 M23 h _ _ _ hN hS (lv_sub hl [0, 1, 2, 3, 4, 6] rfl)
    · have h := ite_f h hc
      refine lv_iload hx hb dX7_lays_328 (lv_at hl 7 rfl) ?_
      refine lv_goto (tgt := 335) hx hb dX7_lays_330 (by decide) ?_
      exact w335 k227 hk227 k247 hk247 x1 x3 x4 x5 x7 x8 M23 h _ _ _ hN hS (lv_sub hl [0, 1, 2, 3, 4, 6] rfl)
  have w292 : ∀ (k227 : Int32 → Int32 → Int32 → Int32 → MT → Option (Int32 × MT)) (hk227 : (∀ (x1 : Int32) (x3 : Int32) (x4 : Int32) (x5 : Int32) (M : MT), k227 x1 x3 x4 x5 M = some (r, Mz) → mG p l e (headSpec wsX7_lays rmX7_lays).room s m (([.ref (ad 0), .int a1, .int a2] : List Value).toArray) below meth c (MQ below (mQi D ad cI cZ r Mz) (([.ref (ad 0), .int a1, .int a2] : List Value).toArray) s 0 0 (mA ad)) D ad cI cZ 9 M 227 [(0, .ref (ad 0)), (1, .int x1), (3, .int x3), (4, .int x4), (5, .int x5)] [])) (k247 : Int32 → Int32 → Int32 → Int32 → Int32 → Int32 → MT → Option (Int32 × MT)) (hk247 : (∀ (x1 : Int32) (x3 : Int32) (x4 : Int32) (x5 : Int32) (x6 : Int32) (x7 : Int32) (M : MT), k247 x1 x3 x4 x5 x6 x7 M = some (r, Mz) → mG p l e (headSpec wsX7_lays rmX7_lays).room s m (([.ref (ad 0), .int a1, .int a2] : List Value).toArray) below meth c (MQ below (mQi D ad cI cZ r Mz) (([.ref (ad 0), .int a1, .int a2] : List Value).toArray) s 0 0 (mA ad)) D ad cI cZ 9 M 247 [(0, .ref (ad 0)), (1, .int x1), (3, .int x3), (4, .int x4), (5, .int x5), (6, .int x6), (7, .int x7)] [])) (x1 : Int32) (x3 : Int32) (x4 : Int32) (x5 : Int32) (x6 : Int32) (x7 : Int32) (t0 : Int32) (t1 : Int32) (M : MT), fX7_lays_292 k227 k247 x1 x3 x4 x5 x6 x7 t0 t1 M = some (r, Mz) → mG p l e (headSpec wsX7_lays rmX7_lays).room s m (([.ref (ad 0), .int a1, .int a2] : List Value).toArray) below meth c (MQ below (mQi D ad cI cZ r Mz) (([.ref (ad 0), .int a1, .int a2] : List Value).toArray) s 0 0 (mA ad)) D ad cI cZ 9 M 292 [(0, .ref (ad 0)), (1, .int x1), (3, .int x3), (4, .int x4), (5, .int x5), (6, .int x6), (7, .int x7)] [.int t0, .int t1] := by
    intro k227 hk227 k247 hk247 x1 x3 x4 x5 x6 x7 t0 t1 M h H locs ls hN hS hl
    unfold fX7_lays_292 at h
    refine lv_iadd hx hb dX7_lays_292 ?_
    refine lv_topi (fun v16 ev16 => ?_)
    have h := bnd_ok h ev16
    refine lv_istore (lv' := [(8, .int v16), (0, .ref (ad 0)), (1, .int x1), (3, .int x3), (4, .int x4), (5, .int x5), (6, .int x6), (7, .int x7)]) hx hb dX7_lays_293 hl (by decide) rfl (fun ls hl => ?_)
    refine lv_aload_n hx hb dX7_lays_295 rfl (lv_at hl 1 rfl) ?_
    refine mg_get hx hb hts hin hown hK hN 28 (by decide) l4 rfl (v := .ref (ad 28)) rfl dX7_lays_296 ?_
    refine lv_iload hx hb dX7_lays_299 (lv_at hl 5 rfl) ?_
    refine lv_iload hx hb dX7_lays_301 (lv_at hl 0 rfl) ?_
    refine lv_iload hx hb dX7_lays_303 (lv_at hl 6 rfl) ?_
    refine lv_icmp_gt (tgt := 313) hx hb dX7_lays_305 (by decide) (fun hc => ?_) (fun hc => ?_)
    · have h := ite_t h hc
      refine lv_aload_n hx hb dX7_lays_313 rfl (lv_at hl 1 rfl) ?_
      refine mg_get hx hb hts hin hown hK hN 28 (by decide) l4 rfl (v := .ref (ad 28)) rfl dX7_lays_314 ?_
      refine lv_iload hx hb dX7_lays_317 (lv_at hl 5 rfl) ?_
      obtain ⟨g17, h⟩ := gd_ok h
      refine mg_ild hx hb hK hN 28 rfl (if_neg (by decide)) (gin_ok g17) dX7_lays_319 ?_
      exact w320 k227 hk227 k247 hk247 x1 x3 x4 x5 x6 x7 v16 (M 28 (Int32.toNatClampNeg x5)) x5 M h _ _ _ hN hS (lv_sub hl [1, 2, 3, 4, 5, 6, 7, 0] rfl)
    · have h := ite_f h hc
      refine lv_iload hx hb dX7_lays_308 (lv_at hl 7 rfl) ?_
      refine lv_goto (tgt := 320) hx hb dX7_lays_310 (by decide) ?_
      exact w320 k227 hk227 k247 hk247 x1 x3 x4 x5 x6 x7 v16 x7 x5 M h _ _ _ hN hS (lv_sub hl [1, 2, 3, 4, 5, 6, 7, 0] rfl)
  have w355 : ∀ (k227 : Int32 → Int32 → Int32 → Int32 → MT → Option (Int32 × MT)) (hk227 : (∀ (x1 : Int32) (x3 : Int32) (x4 : Int32) (x5 : Int32) (M : MT), k227 x1 x3 x4 x5 M = some (r, Mz) → mG p l e (headSpec wsX7_lays rmX7_lays).room s m (([.ref (ad 0), .int a1, .int a2] : List Value).toArray) below meth c (MQ below (mQi D ad cI cZ r Mz) (([.ref (ad 0), .int a1, .int a2] : List Value).toArray) s 0 0 (mA ad)) D ad cI cZ 9 M 227 [(0, .ref (ad 0)), (1, .int x1), (3, .int x3), (4, .int x4), (5, .int x5)] [])) (x1 : Int32) (x3 : Int32) (x5 : Int32) (t0 : Int32) (M : MT), fX7_lays_355 k227 x1 x3 x5 t0 M = some (r, Mz) → mG p l e (headSpec wsX7_lays rmX7_lays).room s m (([.ref (ad 0), .int a1, .int a2] : List Value).toArray) below meth c (MQ below (mQi D ad cI cZ r Mz) (([.ref (ad 0), .int a1, .int a2] : List Value).toArray) s 0 0 (mA ad)) D ad cI cZ 9 M 355 [(0, .ref (ad 0)), (1, .int x1), (3, .int x3), (5, .int x5)] [.int t0] := by
    intro k227 hk227 x1 x3 x5 t0 M h H locs ls hN hS hl
    unfold fX7_lays_355 at h
    refine lv_istore (lv' := [(4, .int t0), (0, .ref (ad 0)), (1, .int x1), (3, .int x3), (5, .int x5)]) hx hb dX7_lays_355 hl (by decide) rfl (fun ls hl => ?_)
    obtain ⟨v24, ev24⟩ : ∃ y : Int32, y = (x5 + (1 : Int32)) := ⟨_, rfl⟩
    have h := bnd_ok h ev24
    refine lv_iinc (v := v24) (lv' := [(5, .int v24), (4, .int t0), (0, .ref (ad 0)), (1, .int x1), (3, .int x3)]) hx hb dX7_lays_357 hl (k := 4) rfl (by rw [ev24]; rfl) (by decide) rfl (fun ls hl => ?_)
    refine lv_goto (tgt := 227) hx hb dX7_lays_360 (by decide) ?_
    exact hk227 x1 x3 t0 v24 M h _ _ _ hN hS (lv_sub hl [2, 3, 4, 1, 0] rfl)
  have w343 : ∀ (k227 : Int32 → Int32 → Int32 → Int32 → MT → Option (Int32 × MT)) (hk227 : (∀ (x1 : Int32) (x3 : Int32) (x4 : Int32) (x5 : Int32) (M : MT), k227 x1 x3 x4 x5 M = some (r, Mz) → mG p l e (headSpec wsX7_lays rmX7_lays).room s m (([.ref (ad 0), .int a1, .int a2] : List Value).toArray) below meth c (MQ below (mQi D ad cI cZ r Mz) (([.ref (ad 0), .int a1, .int a2] : List Value).toArray) s 0 0 (mA ad)) D ad cI cZ 9 M 227 [(0, .ref (ad 0)), (1, .int x1), (3, .int x3), (4, .int x4), (5, .int x5)] [])) (x1 : Int32) (x3 : Int32) (x4 : Int32) (x5 : Int32) (x6 : Int32) (M : MT), fX7_lays_343 k227 x1 x3 x4 x5 x6 M = some (r, Mz) → mG p l e (headSpec wsX7_lays rmX7_lays).room s m (([.ref (ad 0), .int a1, .int a2] : List Value).toArray) below meth c (MQ below (mQi D ad cI cZ r Mz) (([.ref (ad 0), .int a1, .int a2] : List Value).toArray) s 0 0 (mA ad)) D ad cI cZ 9 M 343 [(0, .ref (ad 0)), (1, .int x1), (3, .int x3), (4, .int x4), (5, .int x5), (6, .int x6)] [] := by
    intro k227 hk227 x1 x3 x4 x5 x6 M h H locs ls hN hS hl
    unfold fX7_lays_343 at h
    refine lv_iload hx hb dX7_lays_343 (lv_at hl 4 rfl) ?_
    refine lv_if_ne (tgt := 353) hx hb dX7_lays_345 (by decide) (fun hc => ?_) (fun hc => ?_)
    · have h := ite_f h hc
      refine lv_iload hx hb dX7_lays_353 (lv_at hl 3 rfl) ?_
      exact w355 k227 hk227 x1 x3 x5 x4 M h _ _ _ hN hS (lv_sub hl [0, 1, 2, 4] rfl)
    · have h := ite_t h hc
      refine lv_iload hx hb dX7_lays_348 (lv_at hl 5 rfl) ?_
      refine lv_goto (tgt := 355) hx hb dX7_lays_350 (by decide) ?_
      exact w355 k227 hk227 x1 x3 x5 x6 M h _ _ _ hN hS (lv_sub hl [0, 1, 2, 4] rfl)
  have w247 : ∀ (k227 : Int32 → Int32 → Int32 → Int32 → MT → Option (Int32 × MT)) (hk227 : (∀ (x1 : Int32) (x3 : Int32) (x4 : Int32) (x5 : Int32) (M : MT), k227 x1 x3 x4 x5 M = some (r, Mz) → mG p l e (headSpec wsX7_lays rmX7_lays).room s m (([.ref (ad 0), .int a1, .int a2] : List Value).toArray) below meth c (MQ below (mQi D ad cI cZ r Mz) (([.ref (ad 0), .int a1, .int a2] : List Value).toArray) s 0 0 (mA ad)) D ad cI cZ 9 M 227 [(0, .ref (ad 0)), (1, .int x1), (3, .int x3), (4, .int x4), (5, .int x5)] [])) (x1 : Int32) (x3 : Int32) (x4 : Int32) (x5 : Int32) (x6 : Int32) (x7 : Int32) (M : MT), lf7 (fX7_lays_247 k227) 100 x1 x3 x4 x5 x6 x7 M = some (r, Mz) → mG p l e (headSpec wsX7_lays rmX7_lays).room s m (([.ref (ad 0), .int a1, .int a2] : List Value).toArray) below meth c (MQ below (mQi D ad cI cZ r Mz) (([.ref (ad 0), .int a1, .int a2] : List Value).toArray) s 0 0 (mA ad)) D ad cI cZ 9 M 247 [(0, .ref (ad 0)), (1, .int x1), (3, .int x3), (4, .int x4), (5, .int x5), (6, .int x6), (7, .int x7)] [] := by
    intro k227 hk227
    refine lf7_ok (P := (fun x1 x3 x4 x5 x6 x7 M => mG p l e (headSpec wsX7_lays rmX7_lays).room s m (([.ref (ad 0), .int a1, .int a2] : List Value).toArray) below meth c (MQ below (mQi D ad cI cZ r Mz) (([.ref (ad 0), .int a1, .int a2] : List Value).toArray) s 0 0 (mA ad)) D ad cI cZ 9 M 247 [(0, .ref (ad 0)), (1, .int x1), (3, .int x3), (4, .int x4), (5, .int x5), (6, .int x6), (7, .int x7)] [])) (fun k247 hk247 x1 x3 x4 x5 x6 x7 M h H locs ls hN hS hl => ?_) 100
    unfold fX7_lays_247 at h
    refine lv_iload hx hb dX7_lays_247 (lv_at hl 6 rfl) ?_
    refine lv_if_lt (tgt := 343) hx hb dX7_lays_249 (by decide) (fun hc => ?_) (fun hc => ?_)
    · have h := ite_t h hc
      exact w343 k227 hk227 x1 x3 x4 x5 x6 M h _ _ _ hN hS (lv_sub hl [0, 1, 2, 3, 4, 5] rfl)
    · have h := ite_f h hc
      refine lv_aload_n hx hb dX7_lays_252 rfl (lv_at hl 0 rfl) ?_
      refine mg_get hx hb hts hin hown hK hN 27 (by decide) l3 rfl (v := .ref (ad 27)) rfl dX7_lays_253 ?_
      refine lv_bipush (v := (8 : Int32)) hx hb dX7_lays_256 (by decide) ?_
      refine lv_iload hx hb dX7_lays_258 (lv_at hl 4 rfl) ?_
      refine lv_imul hx hb dX7_lays_260 ?_
      refine lv_iload hx hb dX7_lays_261 (lv_at hl 6 rfl) ?_
      refine lv_iadd hx hb dX7_lays_263 ?_
      obtain ⟨g12, h⟩ := gd_ok h
      refine mg_ild hx hb hK hN 27 rfl (if_neg (by decide)) (gin_ok g12) dX7_lays_264 ?_
      refine lv_iload hx hb dX7_lays_265 (lv_at hl 4 rfl) ?_
      refine lv_if_ne (tgt := 274) hx hb dX7_lays_267 (by decide) (fun hc => ?_) (fun hc => ?_)
      · have h := ite_f h hc
        refine lv_aload_n hx hb dX7_lays_274 rfl (lv_at hl 0 rfl) ?_
        refine lv_iload_n hx hb dX7_lays_275 rfl (lv_at hl 1 rfl) ?_
        refine lv_iload hx hb dX7_lays_276 (lv_at hl 4 rfl) ?_
        refine lv_iload hx hb dX7_lays_278 (lv_at hl 6 rfl) ?_
        refine lv_aload_n hx hb dX7_lays_280 rfl (lv_at hl 0 rfl) ?_
        refine mg_get hx hb hts hin hown hK hN 28 (by decide) l4 rfl (v := .ref (ad 28)) rfl dX7_lays_281 ?_
        refine lv_iload hx hb dX7_lays_284 (lv_at hl 4 rfl) ?_
        refine lv_iconst (v := (1 : Int32)) hx hb dX7_lays_286 (by decide) ?_
        refine lv_isub hx hb dX7_lays_287 ?_
        obtain ⟨g13, h⟩ := gd_ok h
        refine mg_ild hx hb hK hN 28 rfl (if_neg (by decide)) (gin_ok g13) dX7_lays_288 ?_
        obtain ⟨v14, c15, h⟩ := cl1_ok h
        refine mg_calli (va_runV (As := [.int x1, .int x5, .int x7, .int (M 28 (Int32.toNatClampNeg (x5 - (1 : Int32))))]) (rest := [.int (M 27 (Int32.toNatClampNeg (((8 : Int32) * x5) + x7)))]) ⟨hx, hb, hml, hown, hts⟩ (mX7_between l D ad cI cZ M x1 x5 x7 (M 28 (Int32.toNatClampNeg (x5 - (1 : Int32)))) v14 c15) (cwV 4 hts gX7_lays_X7_between rfl rfl rfl (by decide +kernel) ⟨Nat.le_of_ble_eq_true rfl, Nat.le_of_ble_eq_true rfl⟩) (mg_preV hI hK hN) rfl rfl hl.1 rfl (lv_room (Nat.le_of_ble_eq_true rfl)) dX7_lays_289 ⟨Nat.zero_le _, Nat.zero_le _⟩) hS (fun H locs hN hS => ?_)
        exact w292 k227 hk227 k247 hk247 x1 x3 x4 x5 x6 x7 v14 (M 27 (Int32.toNatClampNeg (((8 : Int32) * x5) + x7))) M h _ _ _ hN hS (lv_sub hl [0, 1, 2, 3, 4, 5, 6] rfl)
      · have h := ite_t h hc
        refine lv_iconst (v := (0 : Int32)) hx hb dX7_lays_270 (by decide) ?_
        refine lv_goto (tgt := 292) hx hb dX7_lays_271 (by decide) ?_
        exact w292 k227 hk227 k247 hk247 x1 x3 x4 x5 x6 x7 (0 : Int32) (M 27 (Int32.toNatClampNeg (((8 : Int32) * x5) + x7))) M h _ _ _ hN hS (lv_sub hl [0, 1, 2, 3, 4, 5, 6] rfl)
  have w363 : ∀ (x4 : Int32) (M : MT), fX7_lays_363  x4 M = some (r, Mz) → mG p l e (headSpec wsX7_lays rmX7_lays).room s m (([.ref (ad 0), .int a1, .int a2] : List Value).toArray) below meth c (MQ below (mQi D ad cI cZ r Mz) (([.ref (ad 0), .int a1, .int a2] : List Value).toArray) s 0 0 (mA ad)) D ad cI cZ 9 M 363 [(0, .ref (ad 0)), (4, .int x4)] [] := by
    intro  x4 M h H locs ls hN hS hl
    unfold fX7_lays_363 at h
    refine lv_iload hx hb dX7_lays_363 (lv_at hl 1 rfl) ?_
    exact W.iret hx hb hr (mg_endi h hI hK hN hS) hS.2.2 dX7_lays_365
  have w227 : ∀ (x1 : Int32) (x3 : Int32) (x4 : Int32) (x5 : Int32) (M : MT), lf5 fX7_lays_227 100 x1 x3 x4 x5 M = some (r, Mz) → mG p l e (headSpec wsX7_lays rmX7_lays).room s m (([.ref (ad 0), .int a1, .int a2] : List Value).toArray) below meth c (MQ below (mQi D ad cI cZ r Mz) (([.ref (ad 0), .int a1, .int a2] : List Value).toArray) s 0 0 (mA ad)) D ad cI cZ 9 M 227 [(0, .ref (ad 0)), (1, .int x1), (3, .int x3), (4, .int x4), (5, .int x5)] [] := by
    skip
    refine lf5_ok (P := (fun x1 x3 x4 x5 M => mG p l e (headSpec wsX7_lays rmX7_lays).room s m (([.ref (ad 0), .int a1, .int a2] : List Value).toArray) below meth c (MQ below (mQi D ad cI cZ r Mz) (([.ref (ad 0), .int a1, .int a2] : List Value).toArray) s 0 0 (mA ad)) D ad cI cZ 9 M 227 [(0, .ref (ad 0)), (1, .int x1), (3, .int x3), (4, .int x4), (5, .int x5)] [])) (fun k227 hk227 x1 x3 x4 x5 M h H locs ls hN hS hl => ?_) 100
    unfold fX7_lays_227 at h
    refine lv_iload hx hb dX7_lays_227 (lv_at hl 4 rfl) ?_
    refine lv_iload_n hx hb dX7_lays_229 rfl (lv_at hl 2 rfl) ?_
    refine lv_icmp_gt (tgt := 363) hx hb dX7_lays_230 (by decide) (fun hc => ?_) (fun hc => ?_)
    · have h := ite_t h hc
      exact w363  x4 M h _ _ _ hN hS (lv_sub hl [0, 3] rfl)
    · have h := ite_f h hc
      refine lv_ldc (v := (1000000 : Int32)) hx hb hown l1 dX7_lays_233 ?_
      refine lv_istore (lv' := [(6, .int (1000000 : Int32)), (0, .ref (ad 0)), (1, .int x1), (3, .int x3), (4, .int x4), (5, .int x5)]) hx hb dX7_lays_235 hl (by decide) rfl (fun ls hl => ?_)
      refine lv_aload_n hx hb dX7_lays_237 rfl (lv_at hl 1 rfl) ?_
      refine mg_get hx hb hts hin hown hK hN 15 (by decide) l2 rfl (v := .ref (ad 15)) rfl dX7_lays_238 ?_
      refine lv_iload_n hx hb dX7_lays_241 rfl (lv_at hl 2 rfl) ?_
      obtain ⟨g4, h⟩ := gd_ok h
      refine mg_ild hx hb hK hN 15 rfl (if_neg (by decide)) (gin_ok g4) dX7_lays_242 ?_
      refine lv_iconst (v := (1 : Int32)) hx hb dX7_lays_243 (by decide) ?_
      refine lv_isub hx hb dX7_lays_244 ?_
      refine lv_topi (fun v5 ev5 => ?_)
      have h := bnd_ok h ev5
      refine lv_istore (lv' := [(7, .int v5), (6, .int (1000000 : Int32)), (0, .ref (ad 0)), (1, .int x1), (3, .int x3), (4, .int x4), (5, .int x5)]) hx hb dX7_lays_245 hl (by decide) rfl (fun ls hl => ?_)
      exact w247 k227 hk227 x1 x3 x4 x5 (1000000 : Int32) v5 M h _ _ _ hN hS (lv_sub hl [2, 3, 4, 5, 6, 1, 0] rfl)
  have w220 : ∀ (x1 : Int32) (x3 : Int32) (M : MT), fX7_lays_220  x1 x3 M = some (r, Mz) → mG p l e (headSpec wsX7_lays rmX7_lays).room s m (([.ref (ad 0), .int a1, .int a2] : List Value).toArray) below meth c (MQ below (mQi D ad cI cZ r Mz) (([.ref (ad 0), .int a1, .int a2] : List Value).toArray) s 0 0 (mA ad)) D ad cI cZ 9 M 220 [(0, .ref (ad 0)), (1, .int x1), (3, .int x3)] [] := by
    intro  x1 x3 M h H locs ls hN hS hl
    unfold fX7_lays_220 at h
    refine lv_ldc (v := (1000000 : Int32)) hx hb hown l1 dX7_lays_220 ?_
    refine lv_istore (lv' := [(4, .int (1000000 : Int32)), (0, .ref (ad 0)), (1, .int x1), (3, .int x3)]) hx hb dX7_lays_222 hl (by decide) rfl (fun ls hl => ?_)
    refine lv_iconst (v := (0 : Int32)) hx hb dX7_lays_224 (by decide) ?_
    refine lv_istore (lv' := [(5, .int (0 : Int32)), (4, .int (1000000 : Int32)), (0, .ref (ad 0)), (1, .int x1), (3, .int x3)]) hx hb dX7_lays_225 hl (by decide) rfl (fun ls hl => ?_)
    exact w227  x1 x3 (1000000 : Int32) (0 : Int32) M h _ _ _ hN hS (lv_sub hl [2, 3, 4, 1, 0] rfl)
  have w14 : ∀ (x1 : Int32) (x2 : Int32) (x3 : Int32) (x4 : Int32) (M : MT), lf5 fX7_lays_14 100 x1 x2 x3 x4 M = some (r, Mz) → mG p l e (headSpec wsX7_lays rmX7_lays).room s m (([.ref (ad 0), .int a1, .int a2] : List Value).toArray) below meth c (MQ below (mQi D ad cI cZ r Mz) (([.ref (ad 0), .int a1, .int a2] : List Value).toArray) s 0 0 (mA ad)) D ad cI cZ 9 M 14 [(0, .ref (ad 0)), (1, .int x1), (2, .int x2), (3, .int x3), (4, .int x4)] [] := by
    skip
    refine lf5_ok (P := (fun x1 x2 x3 x4 M => mG p l e (headSpec wsX7_lays rmX7_lays).room s m (([.ref (ad 0), .int a1, .int a2] : List Value).toArray) below meth c (MQ below (mQi D ad cI cZ r Mz) (([.ref (ad 0), .int a1, .int a2] : List Value).toArray) s 0 0 (mA ad)) D ad cI cZ 9 M 14 [(0, .ref (ad 0)), (1, .int x1), (2, .int x2), (3, .int x3), (4, .int x4)] [])) (fun k14 hk14 x1 x2 x3 x4 M h H locs ls hN hS hl => ?_) 100
    unfold fX7_lays_14 at h
    refine lv_iload hx hb dX7_lays_14 (lv_at hl 4 rfl) ?_
    refine lv_if_lt (tgt := 220) hx hb dX7_lays_16 (by decide) (fun hc => ?_) (fun hc => ?_)
    · have h := ite_t h hc
      exact w220  x1 x3 M h _ _ _ hN hS (lv_sub hl [0, 1, 3] rfl)
    · have h := ite_f h hc
      refine lv_iconst (v := (0 : Int32)) hx hb dX7_lays_19 (by decide) ?_
      refine lv_istore (lv' := [(5, .int (0 : Int32)), (0, .ref (ad 0)), (1, .int x1), (2, .int x2), (3, .int x3), (4, .int x4)]) hx hb dX7_lays_20 hl (by decide) rfl (fun ls hl => ?_)
      exact w22 k14 hk14 x1 x2 x3 x4 (0 : Int32) M h _ _ _ hN hS (lv_sub hl [1, 2, 3, 4, 5, 0] rfl)
  unfold fX7_lays at h
  refine lv_aload_n hx hb dX7_lays_0 rfl (lv_at hl 0 rfl) ?_
  refine mg_get hx hb hts hin hown hK hN 17 (by decide) l0 rfl (v := .ref (ad 17)) rfl dX7_lays_1 ?_
  refine lv_iload_n hx hb dX7_lays_4 rfl (lv_at hl 1 rfl) ?_
  obtain ⟨g1, h⟩ := gd_ok h
  refine mg_ild hx hb hK hN 17 rfl (if_neg (by decide)) (gin_ok g1) dX7_lays_5 ?_
  refine lv_iconst (v := (4 : Int32)) hx hb dX7_lays_6 (by decide) ?_
  refine lv_idiv hx hb dX7_lays_7 (by decide) ?_
  refine lv_iconst (v := (1 : Int32)) hx hb dX7_lays_8 (by decide) ?_
  refine lv_isub hx hb dX7_lays_9 ?_
  refine lv_topi (fun v2 ev2 => ?_)
  have h := bnd_ok h ev2
  refine lv_istore_n (lv' := [(3, .int v2), (0, .ref (ad 0)), (1, .int a1), (2, .int a2)]) hx hb dX7_lays_10 rfl hl (by decide) rfl (fun ls hl => ?_)
  refine lv_iload_n hx hb dX7_lays_11 rfl (lv_at hl 0 rfl) ?_
  refine lv_istore (lv' := [(4, .int v2), (3, .int v2), (0, .ref (ad 0)), (1, .int a1), (2, .int a2)]) hx hb dX7_lays_12 hl (by decide) rfl (fun ls hl => ?_)
  exact w14  a1 a2 v2 v2 M h _ _ _ hN hS (lv_sub hl [2, 3, 4, 1, 0] rfl)
def fX7_leaps_39 (t0 : Int32) (M : MT) : Option (Int32 × MT) := some (t0, M)
def fX7_leaps_13 (x1 : Int32) (t0 : Int32) (M : MT) : Option (Int32 × MT) := cl2 (fX7_holds t0 M) (fun v3 M4 => (if v3 = 0 then some ((0 : Int32), M4) else cl2 (fX7_lays x1 (-1 : Int32) M4) (fun v6 M7 => (if (1000000 : Int32) ≤ v6 then fX7_leaps_39 (-1 : Int32) M7 else fX7_leaps_39 v6 M7))))
def fX7_leaps (a1 : Int32) (M : MT) : Option (Int32 × MT) := cl1 (fX7_isBand a1) (fun v1 => (if v1 = 0 then fX7_leaps_13 a1 (1 : Int32) M else fX7_leaps_13 a1 (0 : Int32) M))
def rmX7_leaps : Room := { frames := 5, cells := 0, slots := 0, locals := 112 }
set_option maxHeartbeats 4000000 in
set_option maxRecDepth 100000 in
theorem mX7_leaps (l : Launch) (D : va_G) (ad : Nat → Nat) (cI cZ : ClassId) (M : MT) (a1 : Int32) (r : Int32) (Mz : MT) (h : fX7_leaps a1 M = some (r, Mz)) : Met l yX7_leaps wsX7_leaps rmX7_leaps (va_Pc [.ref (ad 0), .int a1] (mP D ad cI cZ M)) (mQi D ad cI cZ r Mz) 0 0 (mA ad) := by
  refine Met.ofW (cc := cX7_leaps) (maxL := 3) (ret := some .int) (by decide) rfl ?_
  intro p e s m args below meth c s₁ B hml hv
  obtain ⟨rfl, hI, hN, hK⟩ := hv
  have hx := B.exec
  have hb := B.bytes
  have hr := B.returns
  have hts := atoms_spec (ws := wsX7_leaps) B.pre
  have hown : s.vm.findClass RX7 = some m.cls := findClass_of_methodNamed B.named
  have hlocks := B.notSynchronized
  have hin : ∀ w ∈ wsX70, w ∈ wsX7_leaps := fun w h => List.mem_cons_of_mem _ (List.mem_append_right _ h)
  have l0 := hts (.constant RX7 175 (1000000)) (List.mem_of_getElem? (i := 1) rfl)
  have hS : va_S (mA ad) s.heap s.heap [] := va_S.rf
  have hl := lv_entry ([.ref (ad 0), .int a1]) (n := 3) (Nat.le_of_ble_eq_true rfl)
  rw [lg_entry_eq]
  generalize (lg_sl ([.ref (ad 0), .int a1]) ++ List.replicate (3 - (lg_sl ([.ref (ad 0), .int a1])).length) Slot.unset).toArray = ls at hl ⊢
  have hl : lv_has ls 3 [(0, .ref (ad 0)), (1, .int a1)] := hl
  have w39 : ∀ (t0 : Int32) (M : MT), fX7_leaps_39  t0 M = some (r, Mz) → mG p l e (headSpec wsX7_leaps rmX7_leaps).room s m (([.ref (ad 0), .int a1] : List Value).toArray) below meth c (MQ below (mQi D ad cI cZ r Mz) (([.ref (ad 0), .int a1] : List Value).toArray) s 0 0 (mA ad)) D ad cI cZ 3 M 39 [(0, .ref (ad 0))] [.int t0] := by
    intro  t0 M h H locs ls hN hS hl
    unfold fX7_leaps_39 at h
    exact W.iret hx hb hr (mg_endi h hI hK hN hS) hS.2.2 dX7_leaps_39
  have w13 : ∀ (x1 : Int32) (t0 : Int32) (M : MT), fX7_leaps_13  x1 t0 M = some (r, Mz) → mG p l e (headSpec wsX7_leaps rmX7_leaps).room s m (([.ref (ad 0), .int a1] : List Value).toArray) below meth c (MQ below (mQi D ad cI cZ r Mz) (([.ref (ad 0), .int a1] : List Value).toArray) s 0 0 (mA ad)) D ad cI cZ 3 M 13 [(0, .ref (ad 0)), (1, .int x1)] [.int t0, .ref (ad 0)] := by
    intro  x1 t0 M h H locs ls hN hS hl
    unfold fX7_leaps_13 at h
    obtain ⟨v3, M4, c5, h⟩ := cl2_ok h
    refine mg_calli (va_runV (As := [.int t0]) (rest := []) ⟨hx, hb, hml, hown, hts⟩ (mX7_holds l D ad cI cZ M t0 v3 M4 c5) (cwV 1 hts gX7_leaps_X7_holds rfl rfl rfl (by decide +kernel) ⟨Nat.le_of_ble_eq_true rfl, Nat.le_of_ble_eq_true rfl⟩) (mg_preV hI hK hN) rfl rfl hl.1 rfl (lv_room (Nat.le_of_ble_eq_true rfl)) dX7_leaps_13 ⟨Nat.zero_le _, Nat.zero_le _⟩) hS (fun H locs hN hS => ?_)
    refine lv_if_ne (tgt := 21) hx hb dX7_leaps_16 (by decide) (fun hc => ?_) (fun hc => ?_)
    · have h := ite_f h hc
      refine lv_aload_n hx hb dX7_leaps_21 rfl (lv_at hl 0 rfl) ?_
      refine lv_iload_n hx hb dX7_leaps_22 rfl (lv_at hl 1 rfl) ?_
      refine lv_iconst (v := (-1 : Int32)) hx hb dX7_leaps_23 (by decide) ?_
      obtain ⟨v6, M7, c8, h⟩ := cl2_ok h
      refine mg_calli (va_runV (As := [.int x1, .int (-1 : Int32)]) (rest := []) ⟨hx, hb, hml, hown, hts⟩ (mX7_lays l D ad cI cZ M4 x1 (-1 : Int32) v6 M7 c8) (cwV 2 hts gX7_leaps_X7_lays rfl rfl rfl (by decide +kernel) ⟨Nat.le_of_ble_eq_true rfl, Nat.le_of_ble_eq_true rfl⟩) (mg_preV hI hK hN) rfl rfl hl.1 rfl (lv_room (Nat.le_of_ble_eq_true rfl)) dX7_leaps_24 ⟨Nat.zero_le _, Nat.zero_le _⟩) hS (fun H locs hN hS => ?_)
      refine lv_istore_n (lv' := [(2, .int v6), (0, .ref (ad 0)), (1, .int x1)]) hx hb dX7_leaps_27 rfl hl (by decide) rfl (fun ls hl => ?_)
      refine lv_iload_n hx hb dX7_leaps_28 rfl (lv_at hl 0 rfl) ?_
      refine lv_ldc (v := (1000000 : Int32)) hx hb hown l0 dX7_leaps_29 ?_
      refine lv_icmp_ge (tgt := 38) hx hb dX7_leaps_31 (by decide) (fun hc => ?_) (fun hc => ?_)
      · have h := ite_t h hc
        refine lv_iconst (v := (-1 : Int32)) hx hb dX7_leaps_38 (by decide) ?_
        exact w39  (-1 : Int32) M7 h _ _ _ hN hS (lv_sub hl [1] rfl)
      · have h := ite_f h hc
        refine lv_iload_n hx hb dX7_leaps_34 rfl (lv_at hl 0 rfl) ?_
        refine lv_goto (tgt := 39) hx hb dX7_leaps_35 (by decide) ?_
        exact w39  v6 M7 h _ _ _ hN hS (lv_sub hl [1] rfl)
    · have h := ite_t h hc
      refine lv_iconst (v := (0 : Int32)) hx hb dX7_leaps_19 (by decide) ?_
      exact W.iret hx hb hr (mg_endi h hI hK hN hS) hS.2.2 dX7_leaps_20
  unfold fX7_leaps at h
  refine lv_aload_n hx hb dX7_leaps_0 rfl (lv_at hl 0 rfl) ?_
  refine lv_iload_n hx hb dX7_leaps_1 rfl (lv_at hl 1 rfl) ?_
  obtain ⟨v1, c2, h⟩ := cl1_ok h
  refine mg_calli (va_runS (As := [.int a1]) (rest := [.ref (ad 0)]) ⟨hx, hb, hml, hown, hts⟩ (mX7_isBand l D ad cI cZ M a1 v1 c2) (va_cwS 1 hts gX7_leaps_X7_isBand rfl rfl rfl (by decide +kernel) ⟨Nat.le_of_ble_eq_true rfl, Nat.le_of_ble_eq_true rfl⟩) (mg_preS hI hK hN) rfl rfl hl.1 rfl (lv_room (Nat.le_of_ble_eq_true rfl)) dX7_leaps_2 ⟨Nat.zero_le _, Nat.zero_le _⟩) hS (fun H locs hN hS => ?_)
  refine lv_if_eq (tgt := 12) hx hb dX7_leaps_5 (by decide) (fun hc => ?_) (fun hc => ?_)
  · have h := ite_t h hc
    refine lv_iconst (v := (1 : Int32)) hx hb dX7_leaps_12 (by decide) ?_
    exact w13  a1 (1 : Int32) M h _ _ _ hN hS (lv_sub hl [0, 1] rfl)
  · have h := ite_f h hc
    refine lv_iconst (v := (0 : Int32)) hx hb dX7_leaps_8 (by decide) ?_
    refine lv_goto (tgt := 13) hx hb dX7_leaps_9 (by decide) ?_
    exact w13  a1 (0 : Int32) M h _ _ _ hN hS (lv_sub hl [0, 1] rfl)
def fX7_part_44 (t0 : Int32) (M : MT) : Option (Int32 × MT) := some (t0, M)
def fX7_part_15 (x1 : Int32) (x2 : Int32) (t0 : Int32) (M : MT) : Option (Int32 × MT) := cl2 (fX7_holds t0 M) (fun v3 M4 => (if v3 = 0 then some ((0 : Int32), M4) else cl2 (fX7_lays x1 (-1 : Int32) M4) (fun v6 M7 => (if (1000000 : Int32) ≤ v6 then fX7_part_44 (-1 : Int32) M7 else gd (gin x2 6) (fX7_part_44 (M7 28 (Int32.toNatClampNeg x2)) M7)))))
def fX7_part (a1 : Int32) (a2 : Int32) (M : MT) : Option (Int32 × MT) := cl1 (fX7_isPhrase a1 a2 M) (fun v1 => (if v1 = 0 then fX7_part_15 a1 a2 (1 : Int32) M else fX7_part_15 a1 a2 (0 : Int32) M))
def rmX7_part : Room := { frames := 5, cells := 0, slots := 0, locals := 112 }
set_option maxHeartbeats 4000000 in
set_option maxRecDepth 100000 in
theorem mX7_part (l : Launch) (D : va_G) (ad : Nat → Nat) (cI cZ : ClassId) (M : MT) (a1 : Int32) (a2 : Int32) (r : Int32) (Mz : MT) (h : fX7_part a1 a2 M = some (r, Mz)) : Met l yX7_part wsX7_part rmX7_part (va_Pc [.ref (ad 0), .int a1, .int a2] (mP D ad cI cZ M)) (mQi D ad cI cZ r Mz) 0 0 (mA ad) := by
  refine Met.ofW (cc := cX7_part) (maxL := 3) (ret := some .int) (by decide) rfl ?_
  intro p e s m args below meth c s₁ B hml hv
  obtain ⟨rfl, hI, hN, hK⟩ := hv
  have hx := B.exec
  have hb := B.bytes
  have hr := B.returns
  have hts := atoms_spec (ws := wsX7_part) B.pre
  have hown : s.vm.findClass RX7 = some m.cls := findClass_of_methodNamed B.named
  have hlocks := B.notSynchronized
  have hin : ∀ w ∈ wsX70, w ∈ wsX7_part := fun w h => List.mem_cons_of_mem _ (List.mem_append_right _ h)
  have l0 := hts (.constant RX7 175 (1000000)) (List.mem_of_getElem? (i := 1) rfl)
  have l1 := hts (.fieldLink RX7 80 "PanyardModel" "plays" "[I") (List.mem_of_getElem? (i := 2) rfl)
  have hS : va_S (mA ad) s.heap s.heap [] := va_S.rf
  have hl := lv_entry ([.ref (ad 0), .int a1, .int a2]) (n := 3) (Nat.le_of_ble_eq_true rfl)
  rw [lg_entry_eq]
  generalize (lg_sl ([.ref (ad 0), .int a1, .int a2]) ++ List.replicate (3 - (lg_sl ([.ref (ad 0), .int a1, .int a2])).length) Slot.unset).toArray = ls at hl ⊢
  have hl : lv_has ls 3 [(0, .ref (ad 0)), (1, .int a1), (2, .int a2)] := hl
  have w44 : ∀ (t0 : Int32) (M : MT), fX7_part_44  t0 M = some (r, Mz) → mG p l e (headSpec wsX7_part rmX7_part).room s m (([.ref (ad 0), .int a1, .int a2] : List Value).toArray) below meth c (MQ below (mQi D ad cI cZ r Mz) (([.ref (ad 0), .int a1, .int a2] : List Value).toArray) s 0 0 (mA ad)) D ad cI cZ 3 M 44 [(0, .ref (ad 0))] [.int t0] := by
    intro  t0 M h H locs ls hN hS hl
    unfold fX7_part_44 at h
    exact W.iret hx hb hr (mg_endi h hI hK hN hS) hS.2.2 dX7_part_44
  have w15 : ∀ (x1 : Int32) (x2 : Int32) (t0 : Int32) (M : MT), fX7_part_15  x1 x2 t0 M = some (r, Mz) → mG p l e (headSpec wsX7_part rmX7_part).room s m (([.ref (ad 0), .int a1, .int a2] : List Value).toArray) below meth c (MQ below (mQi D ad cI cZ r Mz) (([.ref (ad 0), .int a1, .int a2] : List Value).toArray) s 0 0 (mA ad)) D ad cI cZ 3 M 15 [(0, .ref (ad 0)), (1, .int x1), (2, .int x2)] [.int t0, .ref (ad 0)] := by
    intro  x1 x2 t0 M h H locs ls hN hS hl
    unfold fX7_part_15 at h
    obtain ⟨v3, M4, c5, h⟩ := cl2_ok h
    refine mg_calli (va_runV (As := [.int t0]) (rest := []) ⟨hx, hb, hml, hown, hts⟩ (mX7_holds l D ad cI cZ M t0 v3 M4 c5) (cwV 1 hts gX7_part_X7_holds rfl rfl rfl (by decide +kernel) ⟨Nat.le_of_ble_eq_true rfl, Nat.le_of_ble_eq_true rfl⟩) (mg_preV hI hK hN) rfl rfl hl.1 rfl (lv_room (Nat.le_of_ble_eq_true rfl)) dX7_part_15 ⟨Nat.zero_le _, Nat.zero_le _⟩) hS (fun H locs hN hS => ?_)
    refine lv_if_ne (tgt := 23) hx hb dX7_part_18 (by decide) (fun hc => ?_) (fun hc => ?_)
    · have h := ite_f h hc
      refine lv_aload_n hx hb dX7_part_23 rfl (lv_at hl 0 rfl) ?_
      refine lv_iload_n hx hb dX7_part_24 rfl (lv_at hl 1 rfl) ?_
      refine lv_iconst (v := (-1 : Int32)) hx hb dX7_part_25 (by decide) ?_
      obtain ⟨v6, M7, c8, h⟩ := cl2_ok h
      refine mg_calli (va_runV (As := [.int x1, .int (-1 : Int32)]) (rest := []) ⟨hx, hb, hml, hown, hts⟩ (mX7_lays l D ad cI cZ M4 x1 (-1 : Int32) v6 M7 c8) (cwV 2 hts gX7_part_X7_lays rfl rfl rfl (by decide +kernel) ⟨Nat.le_of_ble_eq_true rfl, Nat.le_of_ble_eq_true rfl⟩) (mg_preV hI hK hN) rfl rfl hl.1 rfl (lv_room (Nat.le_of_ble_eq_true rfl)) dX7_part_26 ⟨Nat.zero_le _, Nat.zero_le _⟩) hS (fun H locs hN hS => ?_)
      refine lv_ldc (v := (1000000 : Int32)) hx hb hown l0 dX7_part_29 ?_
      refine lv_icmp_ge (tgt := 43) hx hb dX7_part_31 (by decide) (fun hc => ?_) (fun hc => ?_)
      · have h := ite_t h hc
        refine lv_iconst (v := (-1 : Int32)) hx hb dX7_part_43 (by decide) ?_
        exact w44  (-1 : Int32) M7 h _ _ _ hN hS (lv_sub hl [0] rfl)
      · have h := ite_f h hc
        refine lv_aload_n hx hb dX7_part_34 rfl (lv_at hl 0 rfl) ?_
        refine mg_get hx hb hts hin hown hK hN 28 (by decide) l1 rfl (v := .ref (ad 28)) rfl dX7_part_35 ?_
        refine lv_iload_n hx hb dX7_part_38 rfl (lv_at hl 2 rfl) ?_
        obtain ⟨g9, h⟩ := gd_ok h
        refine mg_ild hx hb hK hN 28 rfl (if_neg (by decide)) (gin_ok g9) dX7_part_39 ?_
        refine lv_goto (tgt := 44) hx hb dX7_part_40 (by decide) ?_
        exact w44  (M7 28 (Int32.toNatClampNeg x2)) M7 h _ _ _ hN hS (lv_sub hl [0] rfl)
    · have h := ite_t h hc
      refine lv_iconst (v := (0 : Int32)) hx hb dX7_part_21 (by decide) ?_
      exact W.iret hx hb hr (mg_endi h hI hK hN hS) hS.2.2 dX7_part_22
  unfold fX7_part at h
  refine lv_aload_n hx hb dX7_part_0 rfl (lv_at hl 0 rfl) ?_
  refine lv_aload_n hx hb dX7_part_1 rfl (lv_at hl 0 rfl) ?_
  refine lv_iload_n hx hb dX7_part_2 rfl (lv_at hl 1 rfl) ?_
  refine lv_iload_n hx hb dX7_part_3 rfl (lv_at hl 2 rfl) ?_
  obtain ⟨v1, c2, h⟩ := cl1_ok h
  refine mg_calli (va_runV (As := [.int a1, .int a2]) (rest := [.ref (ad 0)]) ⟨hx, hb, hml, hown, hts⟩ (mX7_isPhrase l D ad cI cZ M a1 a2 v1 c2) (cwV 2 hts gX7_part_X7_isPhrase rfl rfl rfl (by decide +kernel) ⟨Nat.le_of_ble_eq_true rfl, Nat.le_of_ble_eq_true rfl⟩) (mg_preV hI hK hN) rfl rfl hl.1 rfl (lv_room (Nat.le_of_ble_eq_true rfl)) dX7_part_4 ⟨Nat.zero_le _, Nat.zero_le _⟩) hS (fun H locs hN hS => ?_)
  refine lv_if_eq (tgt := 14) hx hb dX7_part_7 (by decide) (fun hc => ?_) (fun hc => ?_)
  · have h := ite_t h hc
    refine lv_iconst (v := (1 : Int32)) hx hb dX7_part_14 (by decide) ?_
    exact w15  a1 a2 (1 : Int32) M h _ _ _ hN hS (lv_sub hl [0, 1, 2] rfl)
  · have h := ite_f h hc
    refine lv_iconst (v := (0 : Int32)) hx hb dX7_part_10 (by decide) ?_
    refine lv_goto (tgt := 15) hx hb dX7_part_11 (by decide) ?_
    exact w15  a1 a2 (0 : Int32) M h _ _ _ hN hS (lv_sub hl [0, 1, 2] rfl)
def fX7_without_41 (t0 : Int32) (M : MT) : Option (Int32 × MT) := some (t0, M)
def fX7_without_15 (x1 : Int32) (x2 : Int32) (t0 : Int32) (M : MT) : Option (Int32 × MT) := cl2 (fX7_holds t0 M) (fun v3 M4 => (if v3 = 0 then some ((0 : Int32), M4) else cl2 (fX7_lays x1 x2 M4) (fun v6 M7 => (if (1000000 : Int32) ≤ v6 then fX7_without_41 (-1 : Int32) M7 else fX7_without_41 v6 M7))))
def fX7_without (a1 : Int32) (a2 : Int32) (M : MT) : Option (Int32 × MT) := cl1 (fX7_isSeat a1 a2 M) (fun v1 => (if v1 = 0 then fX7_without_15 a1 a2 (1 : Int32) M else fX7_without_15 a1 a2 (0 : Int32) M))
def rmX7_without : Room := { frames := 5, cells := 0, slots := 0, locals := 112 }
set_option maxHeartbeats 4000000 in
set_option maxRecDepth 100000 in
theorem mX7_without (l : Launch) (D : va_G) (ad : Nat → Nat) (cI cZ : ClassId) (M : MT) (a1 : Int32) (a2 : Int32) (r : Int32) (Mz : MT) (h : fX7_without a1 a2 M = some (r, Mz)) : Met l yX7_without wsX7_without rmX7_without (va_Pc [.ref (ad 0), .int a1, .int a2] (mP D ad cI cZ M)) (mQi D ad cI cZ r Mz) 0 0 (mA ad) := by
  refine Met.ofW (cc := cX7_without) (maxL := 4) (ret := some .int) (by decide) rfl ?_
  intro p e s m args below meth c s₁ B hml hv
  obtain ⟨rfl, hI, hN, hK⟩ := hv
  have hx := B.exec
  have hb := B.bytes
  have hr := B.returns
  have hts := atoms_spec (ws := wsX7_without) B.pre
  have hown : s.vm.findClass RX7 = some m.cls := findClass_of_methodNamed B.named
  have hlocks := B.notSynchronized
  have hin : ∀ w ∈ wsX70, w ∈ wsX7_without := fun w h => List.mem_cons_of_mem _ (List.mem_append_right _ h)
  have l0 := hts (.constant RX7 175 (1000000)) (List.mem_of_getElem? (i := 1) rfl)
  have hS : va_S (mA ad) s.heap s.heap [] := va_S.rf
  have hl := lv_entry ([.ref (ad 0), .int a1, .int a2]) (n := 4) (Nat.le_of_ble_eq_true rfl)
  rw [lg_entry_eq]
  generalize (lg_sl ([.ref (ad 0), .int a1, .int a2]) ++ List.replicate (4 - (lg_sl ([.ref (ad 0), .int a1, .int a2])).length) Slot.unset).toArray = ls at hl ⊢
  have hl : lv_has ls 4 [(0, .ref (ad 0)), (1, .int a1), (2, .int a2)] := hl
  have w41 : ∀ (t0 : Int32) (M : MT), fX7_without_41  t0 M = some (r, Mz) → mG p l e (headSpec wsX7_without rmX7_without).room s m (([.ref (ad 0), .int a1, .int a2] : List Value).toArray) below meth c (MQ below (mQi D ad cI cZ r Mz) (([.ref (ad 0), .int a1, .int a2] : List Value).toArray) s 0 0 (mA ad)) D ad cI cZ 4 M 41 [(0, .ref (ad 0))] [.int t0] := by
    intro  t0 M h H locs ls hN hS hl
    unfold fX7_without_41 at h
    exact W.iret hx hb hr (mg_endi h hI hK hN hS) hS.2.2 dX7_without_41
  have w15 : ∀ (x1 : Int32) (x2 : Int32) (t0 : Int32) (M : MT), fX7_without_15  x1 x2 t0 M = some (r, Mz) → mG p l e (headSpec wsX7_without rmX7_without).room s m (([.ref (ad 0), .int a1, .int a2] : List Value).toArray) below meth c (MQ below (mQi D ad cI cZ r Mz) (([.ref (ad 0), .int a1, .int a2] : List Value).toArray) s 0 0 (mA ad)) D ad cI cZ 4 M 15 [(0, .ref (ad 0)), (1, .int x1), (2, .int x2)] [.int t0, .ref (ad 0)] := by
    intro  x1 x2 t0 M h H locs ls hN hS hl
    unfold fX7_without_15 at h
    obtain ⟨v3, M4, c5, h⟩ := cl2_ok h
    refine mg_calli (va_runV (As := [.int t0]) (rest := []) ⟨hx, hb, hml, hown, hts⟩ (mX7_holds l D ad cI cZ M t0 v3 M4 c5) (cwV 1 hts gX7_without_X7_holds rfl rfl rfl (by decide +kernel) ⟨Nat.le_of_ble_eq_true rfl, Nat.le_of_ble_eq_true rfl⟩) (mg_preV hI hK hN) rfl rfl hl.1 rfl (lv_room (Nat.le_of_ble_eq_true rfl)) dX7_without_15 ⟨Nat.zero_le _, Nat.zero_le _⟩) hS (fun H locs hN hS => ?_)
    refine lv_if_ne (tgt := 23) hx hb dX7_without_18 (by decide) (fun hc => ?_) (fun hc => ?_)
    · have h := ite_f h hc
      refine lv_aload_n hx hb dX7_without_23 rfl (lv_at hl 0 rfl) ?_
      refine lv_iload_n hx hb dX7_without_24 rfl (lv_at hl 1 rfl) ?_
      refine lv_iload_n hx hb dX7_without_25 rfl (lv_at hl 2 rfl) ?_
      obtain ⟨v6, M7, c8, h⟩ := cl2_ok h
      refine mg_calli (va_runV (As := [.int x1, .int x2]) (rest := []) ⟨hx, hb, hml, hown, hts⟩ (mX7_lays l D ad cI cZ M4 x1 x2 v6 M7 c8) (cwV 2 hts gX7_without_X7_lays rfl rfl rfl (by decide +kernel) ⟨Nat.le_of_ble_eq_true rfl, Nat.le_of_ble_eq_true rfl⟩) (mg_preV hI hK hN) rfl rfl hl.1 rfl (lv_room (Nat.le_of_ble_eq_true rfl)) dX7_without_26 ⟨Nat.zero_le _, Nat.zero_le _⟩) hS (fun H locs hN hS => ?_)
      refine lv_istore_n (lv' := [(3, .int v6), (0, .ref (ad 0)), (1, .int x1), (2, .int x2)]) hx hb dX7_without_29 rfl hl (by decide) rfl (fun ls hl => ?_)
      refine lv_iload_n hx hb dX7_without_30 rfl (lv_at hl 0 rfl) ?_
      refine lv_ldc (v := (1000000 : Int32)) hx hb hown l0 dX7_without_31 ?_
      refine lv_icmp_ge (tgt := 40) hx hb dX7_without_33 (by decide) (fun hc => ?_) (fun hc => ?_)
      · have h := ite_t h hc
        refine lv_iconst (v := (-1 : Int32)) hx hb dX7_without_40 (by decide) ?_
        exact w41  (-1 : Int32) M7 h _ _ _ hN hS (lv_sub hl [1] rfl)
      · have h := ite_f h hc
        refine lv_iload_n hx hb dX7_without_36 rfl (lv_at hl 0 rfl) ?_
        refine lv_goto (tgt := 41) hx hb dX7_without_37 (by decide) ?_
        exact w41  v6 M7 h _ _ _ hN hS (lv_sub hl [1] rfl)
    · have h := ite_t h hc
      refine lv_iconst (v := (0 : Int32)) hx hb dX7_without_21 (by decide) ?_
      exact W.iret hx hb hr (mg_endi h hI hK hN hS) hS.2.2 dX7_without_22
  unfold fX7_without at h
  refine lv_aload_n hx hb dX7_without_0 rfl (lv_at hl 0 rfl) ?_
  refine lv_aload_n hx hb dX7_without_1 rfl (lv_at hl 0 rfl) ?_
  refine lv_iload_n hx hb dX7_without_2 rfl (lv_at hl 1 rfl) ?_
  refine lv_iload_n hx hb dX7_without_3 rfl (lv_at hl 2 rfl) ?_
  obtain ⟨v1, c2, h⟩ := cl1_ok h
  refine mg_calli (va_runV (As := [.int a1, .int a2]) (rest := [.ref (ad 0)]) ⟨hx, hb, hml, hown, hts⟩ (mX7_isSeat l D ad cI cZ M a1 a2 v1 c2) (cwV 2 hts gX7_without_X7_isSeat rfl rfl rfl (by decide +kernel) ⟨Nat.le_of_ble_eq_true rfl, Nat.le_of_ble_eq_true rfl⟩) (mg_preV hI hK hN) rfl rfl hl.1 rfl (lv_room (Nat.le_of_ble_eq_true rfl)) dX7_without_4 ⟨Nat.zero_le _, Nat.zero_le _⟩) hS (fun H locs hN hS => ?_)
  refine lv_if_eq (tgt := 14) hx hb dX7_without_7 (by decide) (fun hc => ?_) (fun hc => ?_)
  · have h := ite_t h hc
    refine lv_iconst (v := (1 : Int32)) hx hb dX7_without_14 (by decide) ?_
    exact w15  a1 a2 (1 : Int32) M h _ _ _ hN hS (lv_sub hl [0, 1, 2] rfl)
  · have h := ite_f h hc
    refine lv_iconst (v := (0 : Int32)) hx hb dX7_without_10 (by decide) ?_
    refine lv_goto (tgt := 15) hx hb dX7_without_11 (by decide) ?_
    exact w15  a1 a2 (0 : Int32) M h _ _ _ hN hS (lv_sub hl [0, 1, 2] rfl)
def fX7_doesPlay_38 (M : MT) (k5 : Int32 → Int32 → Int32 → Int32 → Option (Int32)) (x1 : Int32) (x2 : Int32) (x4 : Int32) (t0 : Int32) : Option (Int32) := bnd (x4 + (1 : Int32)) (fun v4 => k5 x1 x2 t0 v4)
def fX7_doesPlay_33 (M : MT) (k5 : Int32 → Int32 → Int32 → Int32 → Option (Int32)) (x1 : Int32) (x2 : Int32) (x4 : Int32) : Option (Int32) := fX7_doesPlay_38 M k5 x1 x2 x4 (1 : Int32)
def fX7_doesPlay_45 (M : MT) (x3 : Int32) : Option (Int32) := gd (gbo x3) (some x3)
def fX7_doesPlay_5 (M : MT) (k5 : Int32 → Int32 → Int32 → Int32 → Option (Int32)) (x1 : Int32) (x2 : Int32) (x3 : Int32) (x4 : Int32) : Option (Int32) := gd (gin x1 4) ((if ((M 17 (Int32.toNatClampNeg x1)) / (4 : Int32)) ≤ x4 then fX7_doesPlay_45 M x3 else (if x3 = 0 then gd (gin x4 6) ((if (M 28 (Int32.toNatClampNeg x4)) = x2 then fX7_doesPlay_33 M k5 x1 x2 x4 else fX7_doesPlay_38 M k5 x1 x2 x4 (0 : Int32))) else fX7_doesPlay_33 M k5 x1 x2 x4)))
def fX7_doesPlay (a1 : Int32) (a2 : Int32) (M : MT) : Option (Int32) := lf4 (fX7_doesPlay_5 M) 100 a1 a2 (0 : Int32) (0 : Int32)
def rmX7_doesPlay : Room := { frames := 1, cells := 0, slots := 0, locals := 16 }
set_option maxHeartbeats 4000000 in
set_option maxRecDepth 100000 in
theorem mX7_doesPlay (l : Launch) (D : va_G) (ad : Nat → Nat) (cI cZ : ClassId) (M : MT) (a1 : Int32) (a2 : Int32) (r : Int32) (h : fX7_doesPlay a1 a2 M = some r) : Met l yX7_doesPlay wsX7_doesPlay rmX7_doesPlay (va_Pc [.ref (ad 0), .int a1, .int a2] (mP D ad cI cZ M)) (mQi D ad cI cZ r M) 0 0 (mA ad) := by
  refine Met.ofW (cc := cX7_doesPlay) (maxL := 5) (ret := some .boolean) (by decide) rfl ?_
  intro p e s m args below meth c s₁ B hml hv
  obtain ⟨rfl, hI, hN, hK⟩ := hv
  have hx := B.exec
  have hb := B.bytes
  have hr := B.returns
  have hts := atoms_spec (ws := wsX7_doesPlay) B.pre
  have hown : s.vm.findClass RX7 = some m.cls := findClass_of_methodNamed B.named
  have hlocks := B.notSynchronized
  have hin : ∀ w ∈ wsX70, w ∈ wsX7_doesPlay := fun w h => List.mem_cons_of_mem _ (List.mem_append_right _ h)
  have l0 := hts (.fieldLink RX7 47 "PanyardModel" "notes" "[I") (List.mem_of_getElem? (i := 1) rfl)
  have l1 := hts (.fieldLink RX7 80 "PanyardModel" "plays" "[I") (List.mem_of_getElem? (i := 2) rfl)
  have hS : va_S (mA ad) s.heap s.heap [] := va_S.rf
  have hl := lv_entry ([.ref (ad 0), .int a1, .int a2]) (n := 5) (Nat.le_of_ble_eq_true rfl)
  rw [lg_entry_eq]
  generalize (lg_sl ([.ref (ad 0), .int a1, .int a2]) ++ List.replicate (5 - (lg_sl ([.ref (ad 0), .int a1, .int a2])).length) Slot.unset).toArray = ls at hl ⊢
  have hl : lv_has ls 5 [(0, .ref (ad 0)), (1, .int a1), (2, .int a2)] := hl
  have w38 : ∀ (k5 : Int32 → Int32 → Int32 → Int32 → Option (Int32)) (hk5 : (∀ (x1 : Int32) (x2 : Int32) (x3 : Int32) (x4 : Int32), k5 x1 x2 x3 x4 = some r → mG p l e (headSpec wsX7_doesPlay rmX7_doesPlay).room s m (([.ref (ad 0), .int a1, .int a2] : List Value).toArray) below meth c (MQ below (mQi D ad cI cZ r M) (([.ref (ad 0), .int a1, .int a2] : List Value).toArray) s 0 0 (mA ad)) D ad cI cZ 5 M 5 [(0, .ref (ad 0)), (1, .int x1), (2, .int x2), (3, .int x3), (4, .int x4)] [])) (x1 : Int32) (x2 : Int32) (x4 : Int32) (t0 : Int32), fX7_doesPlay_38 M k5 x1 x2 x4 t0 = some r → mG p l e (headSpec wsX7_doesPlay rmX7_doesPlay).room s m (([.ref (ad 0), .int a1, .int a2] : List Value).toArray) below meth c (MQ below (mQi D ad cI cZ r M) (([.ref (ad 0), .int a1, .int a2] : List Value).toArray) s 0 0 (mA ad)) D ad cI cZ 5 M 38 [(0, .ref (ad 0)), (1, .int x1), (2, .int x2), (4, .int x4)] [.int t0] := by
    intro k5 hk5 x1 x2 x4 t0 h H locs ls hN hS hl
    unfold fX7_doesPlay_38 at h
    refine lv_istore_n (lv' := [(3, .int t0), (0, .ref (ad 0)), (1, .int x1), (2, .int x2), (4, .int x4)]) hx hb dX7_doesPlay_38 rfl hl (by decide) rfl (fun ls hl => ?_)
    obtain ⟨v4, ev4⟩ : ∃ y : Int32, y = (x4 + (1 : Int32)) := ⟨_, rfl⟩
    have h := bnd_ok h ev4
    refine lv_iinc (v := v4) (lv' := [(4, .int v4), (3, .int t0), (0, .ref (ad 0)), (1, .int x1), (2, .int x2)]) hx hb dX7_doesPlay_39 hl (k := 4) rfl (by rw [ev4]; rfl) (by decide) rfl (fun ls hl => ?_)
    refine lv_goto (tgt := 5) hx hb dX7_doesPlay_42 (by decide) ?_
    exact hk5 x1 x2 t0 v4 h _ _ _ hN hS (lv_sub hl [2, 3, 4, 1, 0] rfl)
  have w33 : ∀ (k5 : Int32 → Int32 → Int32 → Int32 → Option (Int32)) (hk5 : (∀ (x1 : Int32) (x2 : Int32) (x3 : Int32) (x4 : Int32), k5 x1 x2 x3 x4 = some r → mG p l e (headSpec wsX7_doesPlay rmX7_doesPlay).room s m (([.ref (ad 0), .int a1, .int a2] : List Value).toArray) below meth c (MQ below (mQi D ad cI cZ r M) (([.ref (ad 0), .int a1, .int a2] : List Value).toArray) s 0 0 (mA ad)) D ad cI cZ 5 M 5 [(0, .ref (ad 0)), (1, .int x1), (2, .int x2), (3, .int x3), (4, .int x4)] [])) (x1 : Int32) (x2 : Int32) (x4 : Int32), fX7_doesPlay_33 M k5 x1 x2 x4 = some r → mG p l e (headSpec wsX7_doesPlay rmX7_doesPlay).room s m (([.ref (ad 0), .int a1, .int a2] : List Value).toArray) below meth c (MQ below (mQi D ad cI cZ r M) (([.ref (ad 0), .int a1, .int a2] : List Value).toArray) s 0 0 (mA ad)) D ad cI cZ 5 M 33 [(0, .ref (ad 0)), (1, .int x1), (2, .int x2), (4, .int x4)] [] := by
    intro k5 hk5 x1 x2 x4 h H locs ls hN hS hl
    unfold fX7_doesPlay_33 at h
    refine lv_iconst (v := (1 : Int32)) hx hb dX7_doesPlay_33 (by decide) ?_
    refine lv_goto (tgt := 38) hx hb dX7_doesPlay_34 (by decide) ?_
    exact w38 k5 hk5 x1 x2 x4 (1 : Int32) h _ _ _ hN hS (lv_sub hl [0, 1, 2, 3] rfl)
  have w45 : ∀ (x3 : Int32), fX7_doesPlay_45 M x3 = some r → mG p l e (headSpec wsX7_doesPlay rmX7_doesPlay).room s m (([.ref (ad 0), .int a1, .int a2] : List Value).toArray) below meth c (MQ below (mQi D ad cI cZ r M) (([.ref (ad 0), .int a1, .int a2] : List Value).toArray) s 0 0 (mA ad)) D ad cI cZ 5 M 45 [(0, .ref (ad 0)), (3, .int x3)] [] := by
    intro  x3 h H locs ls hN hS hl
    unfold fX7_doesPlay_45 at h
    refine lv_iload_n hx hb dX7_doesPlay_45 rfl (lv_at hl 1 rfl) ?_
    obtain ⟨g3, h⟩ := gd_ok h
    exact W.zret hx hb hr (gbo_ok g3) (mg_endr h hI hK hN hS) hS.2.2 dX7_doesPlay_46
  have w5 : ∀ (x1 : Int32) (x2 : Int32) (x3 : Int32) (x4 : Int32), lf4 (fX7_doesPlay_5 M) 100 x1 x2 x3 x4 = some r → mG p l e (headSpec wsX7_doesPlay rmX7_doesPlay).room s m (([.ref (ad 0), .int a1, .int a2] : List Value).toArray) below meth c (MQ below (mQi D ad cI cZ r M) (([.ref (ad 0), .int a1, .int a2] : List Value).toArray) s 0 0 (mA ad)) D ad cI cZ 5 M 5 [(0, .ref (ad 0)), (1, .int x1), (2, .int x2), (3, .int x3), (4, .int x4)] [] := by
    skip
    refine lf4_ok (P := (fun x1 x2 x3 x4 => mG p l e (headSpec wsX7_doesPlay rmX7_doesPlay).room s m (([.ref (ad 0), .int a1, .int a2] : List Value).toArray) below meth c (MQ below (mQi D ad cI cZ r M) (([.ref (ad 0), .int a1, .int a2] : List Value).toArray) s 0 0 (mA ad)) D ad cI cZ 5 M 5 [(0, .ref (ad 0)), (1, .int x1), (2, .int x2), (3, .int x3), (4, .int x4)] [])) (fun k5 hk5 x1 x2 x3 x4 h H locs ls hN hS hl => ?_) 100
    unfold fX7_doesPlay_5 at h
    refine lv_iload hx hb dX7_doesPlay_5 (lv_at hl 4 rfl) ?_
    refine lv_aload_n hx hb dX7_doesPlay_7 rfl (lv_at hl 0 rfl) ?_
    refine mg_get hx hb hts hin hown hK hN 17 (by decide) l0 rfl (v := .ref (ad 17)) rfl dX7_doesPlay_8 ?_
    refine lv_iload_n hx hb dX7_doesPlay_11 rfl (lv_at hl 1 rfl) ?_
    obtain ⟨g1, h⟩ := gd_ok h
    refine mg_ild hx hb hK hN 17 rfl (if_neg (by decide)) (gin_ok g1) dX7_doesPlay_12 ?_
    refine lv_iconst (v := (4 : Int32)) hx hb dX7_doesPlay_13 (by decide) ?_
    refine lv_idiv hx hb dX7_doesPlay_14 (by decide) ?_
    refine lv_icmp_ge (tgt := 45) hx hb dX7_doesPlay_15 (by decide) (fun hc => ?_) (fun hc => ?_)
    · have h := ite_t h hc
      exact w45  x3 h _ _ _ hN hS (lv_sub hl [0, 3] rfl)
    · have h := ite_f h hc
      refine lv_iload_n hx hb dX7_doesPlay_18 rfl (lv_at hl 3 rfl) ?_
      refine lv_if_ne (tgt := 33) hx hb dX7_doesPlay_19 (by decide) (fun hc => ?_) (fun hc => ?_)
      · have h := ite_f h hc
        exact w33 k5 hk5 x1 x2 x4 h _ _ _ hN hS (lv_sub hl [0, 1, 2, 4] rfl)
      · have h := ite_t h hc
        refine lv_aload_n hx hb dX7_doesPlay_22 rfl (lv_at hl 0 rfl) ?_
        refine mg_get hx hb hts hin hown hK hN 28 (by decide) l1 rfl (v := .ref (ad 28)) rfl dX7_doesPlay_23 ?_
        refine lv_iload hx hb dX7_doesPlay_26 (lv_at hl 4 rfl) ?_
        obtain ⟨g2, h⟩ := gd_ok h
        refine mg_ild hx hb hK hN 28 rfl (if_neg (by decide)) (gin_ok g2) dX7_doesPlay_28 ?_
        refine lv_iload_n hx hb dX7_doesPlay_29 rfl (lv_at hl 2 rfl) ?_
        refine lv_icmp_ne (tgt := 37) hx hb dX7_doesPlay_30 (by decide) (fun hc => ?_) (fun hc => ?_)
        · have h := ite_f h hc
          refine lv_iconst (v := (0 : Int32)) hx hb dX7_doesPlay_37 (by decide) ?_
          exact w38 k5 hk5 x1 x2 x4 (0 : Int32) h _ _ _ hN hS (lv_sub hl [0, 1, 2, 4] rfl)
        · have h := ite_t h hc
          exact w33 k5 hk5 x1 x2 x4 h _ _ _ hN hS (lv_sub hl [0, 1, 2, 4] rfl)
  unfold fX7_doesPlay at h
  refine lv_iconst (v := (0 : Int32)) hx hb dX7_doesPlay_0 (by decide) ?_
  refine lv_istore_n (lv' := [(3, .int (0 : Int32)), (0, .ref (ad 0)), (1, .int a1), (2, .int a2)]) hx hb dX7_doesPlay_1 rfl hl (by decide) rfl (fun ls hl => ?_)
  refine lv_iconst (v := (0 : Int32)) hx hb dX7_doesPlay_2 (by decide) ?_
  refine lv_istore (lv' := [(4, .int (0 : Int32)), (3, .int (0 : Int32)), (0, .ref (ad 0)), (1, .int a1), (2, .int a2)]) hx hb dX7_doesPlay_3 hl (by decide) rfl (fun ls hl => ?_)
  exact w5  a1 a2 (0 : Int32) (0 : Int32) h _ _ _ hN hS (lv_sub hl [2, 3, 4, 1, 0] rfl)
def fX7_perform_151 (k76 : Int32 → Int32 → Int32 → Int32 → MT → Option (Int32 × MT)) (x1 : Int32) (x2 : Int32) (x5 : Int32) (t0 : Int32) (t1 : Int32) (M : MT) : Option (Int32 × MT) := bnd (t1 + t0) (fun v27 => bnd (x5 + (1 : Int32)) (fun v28 => k76 x1 x2 v27 v28 M))
def fX7_perform_150 (k76 : Int32 → Int32 → Int32 → Int32 → MT → Option (Int32 × MT)) (x1 : Int32) (x2 : Int32) (x5 : Int32) (t0 : Int32) (M : MT) : Option (Int32 × MT) := fX7_perform_151 k76 x1 x2 x5 (0 : Int32) t0 M
def fX7_perform_126 (k76 : Int32 → Int32 → Int32 → Int32 → MT → Option (Int32 × MT)) (x1 : Int32) (x2 : Int32) (x4 : Int32) (x5 : Int32) (t0 : Int32) (M : MT) : Option (Int32 × MT) := cl1 (fX7_doesPlay x1 x5 M) (fun v23 => (if v23 = 0 then fX7_perform_150 k76 x1 x2 x5 x4 M else (if t0 = 0 then fX7_perform_151 k76 x1 x2 x5 (10 : Int32) x4 M else fX7_perform_150 k76 x1 x2 x5 x4 M)))
def fX7_perform_125 (k76 : Int32 → Int32 → Int32 → Int32 → MT → Option (Int32 × MT)) (x1 : Int32) (x2 : Int32) (x4 : Int32) (x5 : Int32) (M : MT) : Option (Int32 × MT) := fX7_perform_126 k76 x1 x2 x4 x5 (0 : Int32) M
def fX7_perform_196 (x4 : Int32) (t0 : Int32) (t1 : Int32) (M : MT) : Option (Int32 × MT) := gd (gin t1 4) (bnd (va_up M 24 (upd (M 24) (Int32.toNatClampNeg t1) t0)) (fun M26 => some (x4, M26)))
def fX7_perform_160 (x1 : Int32) (x2 : Int32) (x4 : Int32) (M : MT) : Option (Int32 × MT) := gd (gin x1 4) (bnd (va_up M 22 (upd (M 22) (Int32.toNatClampNeg x1) (vp_nar .boolean (1 : Int32)))) (fun M20 => gd (gin x1 4) (bnd (va_up M20 23 (upd (M20 23) (Int32.toNatClampNeg x1) x4)) (fun M22 => (if x2 ≤ (10 : Int32) then fX7_perform_196 x4 (0 : Int32) x1 M22 else fX7_perform_196 x4 (((2 : Int32) * x2) - (20 : Int32)) x1 M22)))))
def fX7_perform_76 (k76 : Int32 → Int32 → Int32 → Int32 → MT → Option (Int32 × MT)) (x1 : Int32) (x2 : Int32) (x4 : Int32) (x5 : Int32) (M : MT) : Option (Int32 × MT) := gd (gin x1 4) ((if (M 15 (Int32.toNatClampNeg x1)) ≤ x5 then fX7_perform_160 x1 x2 x4 M else gd (gin (((8 : Int32) * x1) + x5) 32) (gd (gin (M 16 (Int32.toNatClampNeg (((8 : Int32) * x1) + x5))) 16) (bnd (M 12 (Int32.toNatClampNeg (M 16 (Int32.toNatClampNeg (((8 : Int32) * x1) + x5))))) (fun v15 => (if v15 = (-1 : Int32) then fX7_perform_125 k76 x1 x2 x4 x5 M else cl2 (fX7_isInTuneNow v15 M) (fun v16 M17 => (if v16 = 0 then fX7_perform_125 k76 x1 x2 x4 x5 M17 else fX7_perform_126 k76 x1 x2 x4 x5 (1 : Int32) M17))))))))
def fX7_perform_65 (x1 : Int32) (x2 : Int32) (x4 : Int32) (t0 : Int32) (M : MT) : Option (Int32 × MT) := cl2 (fX7_holds t0 M) (fun v9 M10 => (if v9 = 0 then some ((0 : Int32), M10) else lf5 fX7_perform_76 100 x1 x2 x4 (0 : Int32) M10))
def fX7_perform_60 (x1 : Int32) (x2 : Int32) (x4 : Int32) (M : MT) : Option (Int32 × MT) := fX7_perform_65 x1 x2 x4 (3 : Int32) M
def fX7_perform_19 (x1 : Int32) (x2 : Int32) (x3 : Int32) (t0 : Int32) (M : MT) : Option (Int32 × MT) := (if x3 = 0 then fX7_perform_65 x1 x2 t0 (1 : Int32) M else cl1 (fX7_isIn x2 (1 : Int32) (30 : Int32)) (fun v6 => (if v6 = 0 then fX7_perform_65 x1 x2 t0 (2 : Int32) M else gd (gin x1 4) ((if (M 22 (Int32.toNatClampNeg x1)) = 0 then (if t0 < (1000000 : Int32) then fX7_perform_65 x1 x2 t0 (0 : Int32) M else fX7_perform_60 x1 x2 t0 M) else fX7_perform_60 x1 x2 t0 M)))))
def fX7_perform (a1 : Int32) (a2 : Int32) (M : MT) : Option (Int32 × MT) := cl1 (fX7_isBand a1) (fun v1 => (if v1 = 0 then fX7_perform_19 a1 a2 v1 (0 : Int32) M else cl2 (fX7_lays a1 (-1 : Int32) M) (fun v3 M4 => fX7_perform_19 a1 a2 v1 v3 M4)))
def rmX7_perform : Room := { frames := 5, cells := 0, slots := 0, locals := 112 }
set_option maxHeartbeats 4000000 in
set_option maxRecDepth 100000 in
theorem mX7_perform (l : Launch) (D : va_G) (ad : Nat → Nat) (cI cZ : ClassId) (M : MT) (a1 : Int32) (a2 : Int32) (r : Int32) (Mz : MT) (h : fX7_perform a1 a2 M = some (r, Mz)) : Met l yX7_perform wsX7_perform rmX7_perform (va_Pc [.ref (ad 0), .int a1, .int a2] (mP D ad cI cZ M)) (mQi D ad cI cZ r Mz) 0 0 (mA ad) := by
  refine Met.ofW (cc := cX7_perform) (maxL := 8) (ret := some .int) (by decide) rfl ?_
  intro p e s m args below meth c s₁ B hml hv
  obtain ⟨rfl, hI, hN, hK⟩ := hv
  have hx := B.exec
  have hb := B.bytes
  have hr := B.returns
  have hts := atoms_spec (ws := wsX7_perform) B.pre
  have hown : s.vm.findClass RX7 = some m.cls := findClass_of_methodNamed B.named
  have hlocks := B.notSynchronized
  have hin : ∀ w ∈ wsX70, w ∈ wsX7_perform := fun w h => List.mem_cons_of_mem _ (List.mem_append_right _ h)
  have l0 := hts (.fieldLink RX7 62 "PanyardModel" "hasPlayed" "[Z") (List.mem_of_getElem? (i := 1) rfl)
  have l1 := hts (.constant RX7 175 (1000000)) (List.mem_of_getElem? (i := 2) rfl)
  have l2 := hts (.fieldLink RX7 41 "PanyardModel" "seats" "[I") (List.mem_of_getElem? (i := 3) rfl)
  have l3 := hts (.fieldLink RX7 32 "PanyardModel" "pan" "[I") (List.mem_of_getElem? (i := 4) rfl)
  have l4 := hts (.fieldLink RX7 44 "PanyardModel" "seat" "[I") (List.mem_of_getElem? (i := 5) rfl)
  have l5 := hts (.fieldLink RX7 65 "PanyardModel" "heard" "[I") (List.mem_of_getElem? (i := 6) rfl)
  have l6 := hts (.fieldLink RX7 68 "PanyardModel" "over" "[I") (List.mem_of_getElem? (i := 7) rfl)
  have hS : va_S (mA ad) s.heap s.heap [] := va_S.rf
  have hl := lv_entry ([.ref (ad 0), .int a1, .int a2]) (n := 8) (Nat.le_of_ble_eq_true rfl)
  rw [lg_entry_eq]
  generalize (lg_sl ([.ref (ad 0), .int a1, .int a2]) ++ List.replicate (8 - (lg_sl ([.ref (ad 0), .int a1, .int a2])).length) Slot.unset).toArray = ls at hl ⊢
  have hl : lv_has ls 8 [(0, .ref (ad 0)), (1, .int a1), (2, .int a2)] := hl
  have w151 : ∀ (k76 : Int32 → Int32 → Int32 → Int32 → MT → Option (Int32 × MT)) (hk76 : (∀ (x1 : Int32) (x2 : Int32) (x4 : Int32) (x5 : Int32) (M : MT), k76 x1 x2 x4 x5 M = some (r, Mz) → mG p l e (headSpec wsX7_perform rmX7_perform).room s m (([.ref (ad 0), .int a1, .int a2] : List Value).toArray) below meth c (MQ below (mQi D ad cI cZ r Mz) (([.ref (ad 0), .int a1, .int a2] : List Value).toArray) s 0 0 (mA ad)) D ad cI cZ 8 M 76 [(0, .ref (ad 0)), (1, .int x1), (2, .int x2), (4, .int x4), (5, .int x5)] [])) (x1 : Int32) (x2 : Int32) (x5 : Int32) (t0 : Int32) (t1 : Int32) (M : MT), fX7_perform_151 k76 x1 x2 x5 t0 t1 M = some (r, Mz) → mG p l e (headSpec wsX7_perform rmX7_perform).room s m (([.ref (ad 0), .int a1, .int a2] : List Value).toArray) below meth c (MQ below (mQi D ad cI cZ r Mz) (([.ref (ad 0), .int a1, .int a2] : List Value).toArray) s 0 0 (mA ad)) D ad cI cZ 8 M 151 [(0, .ref (ad 0)), (1, .int x1), (2, .int x2), (5, .int x5)] [.int t0, .int t1] := by
    intro k76 hk76 x1 x2 x5 t0 t1 M h H locs ls hN hS hl
    unfold fX7_perform_151 at h
    refine lv_iadd hx hb dX7_perform_151 ?_
    refine lv_topi (fun v27 ev27 => ?_)
    have h := bnd_ok h ev27
    refine lv_istore (lv' := [(4, .int v27), (0, .ref (ad 0)), (1, .int x1), (2, .int x2), (5, .int x5)]) hx hb dX7_perform_152 hl (by decide) rfl (fun ls hl => ?_)
    obtain ⟨v28, ev28⟩ : ∃ y : Int32, y = (x5 + (1 : Int32)) := ⟨_, rfl⟩
    have h := bnd_ok h ev28
    refine lv_iinc (v := v28) (lv' := [(5, .int v28), (4, .int v27), (0, .ref (ad 0)), (1, .int x1), (2, .int x2)]) hx hb dX7_perform_154 hl (k := 4) rfl (by rw [ev28]; rfl) (by decide) rfl (fun ls hl => ?_)
    refine lv_goto (tgt := 76) hx hb dX7_perform_157 (by decide) ?_
    exact hk76 x1 x2 v27 v28 M h _ _ _ hN hS (lv_sub hl [2, 3, 4, 1, 0] rfl)
  have w150 : ∀ (k76 : Int32 → Int32 → Int32 → Int32 → MT → Option (Int32 × MT)) (hk76 : (∀ (x1 : Int32) (x2 : Int32) (x4 : Int32) (x5 : Int32) (M : MT), k76 x1 x2 x4 x5 M = some (r, Mz) → mG p l e (headSpec wsX7_perform rmX7_perform).room s m (([.ref (ad 0), .int a1, .int a2] : List Value).toArray) below meth c (MQ below (mQi D ad cI cZ r Mz) (([.ref (ad 0), .int a1, .int a2] : List Value).toArray) s 0 0 (mA ad)) D ad cI cZ 8 M 76 [(0, .ref (ad 0)), (1, .int x1), (2, .int x2), (4, .int x4), (5, .int x5)] [])) (x1 : Int32) (x2 : Int32) (x5 : Int32) (t0 : Int32) (M : MT), fX7_perform_150 k76 x1 x2 x5 t0 M = some (r, Mz) → mG p l e (headSpec wsX7_perform rmX7_perform).room s m (([.ref (ad 0), .int a1, .int a2] : List Value).toArray) below meth c (MQ below (mQi D ad cI cZ r Mz) (([.ref (ad 0), .int a1, .int a2] : List Value).toArray) s 0 0 (mA ad)) D ad cI cZ 8 M 150 [(0, .ref (ad 0)), (1, .int x1), (2, .int x2), (5, .int x5)] [.int t0] := by
    intro k76 hk76 x1 x2 x5 t0 M h H locs ls hN hS hl
    unfold fX7_perform_150 at h
    refine lv_iconst (v := (0 : Int32)) hx hb dX7_perform_150 (by decide) ?_
    exact w151 k76 hk76 x1 x2 x5 (0 : Int32) t0 M h _ _ _ hN hS (lv_sub hl [0, 1, 2, 3] rfl)
  have w126 : ∀ (k76 : Int32 → Int32 → Int32 → Int32 → MT → Option (Int32 × MT)) (hk76 : (∀ (x1 : Int32) (x2 : Int32) (x4 : Int32) (x5 : Int32) (M : MT), k76 x1 x2 x4 x5 M = some (r, Mz) → mG p l e (headSpec wsX7_perform rmX7_perform).room s m (([.ref (ad 0), .int a1, .int a2] : List Value).toArray) below meth c (MQ below (mQi D ad cI cZ r Mz) (([.ref (ad 0), .int a1, .int a2] : List Value).toArray) s 0 0 (mA ad)) D ad cI cZ 8 M 76 [(0, .ref (ad 0)), (1, .int x1), (2, .int x2), (4, .int x4), (5, .int x5)] [])) (x1 : Int32) (x2 : Int32) (x4 : Int32) (x5 : Int32) (t0 : Int32) (M : MT), fX7_perform_126 k76 x1 x2 x4 x5 t0 M = some (r, Mz) → mG p l e (headSpec wsX7_perform rmX7_perform).room s m (([.ref (ad 0), .int a1, .int a2] : List Value).toArray) below meth c (MQ below (mQi D ad cI cZ r Mz) (([.ref (ad 0), .int a1, .int a2] : List Value).toArray) s 0 0 (mA ad)) D ad cI cZ 8 M 126 [(0, .ref (ad 0)), (1, .int x1), (2, .int x2), (4, .int x4), (5, .int x5)] [.int t0] := by
    intro k76 hk76 x1 x2 x4 x5 t0 M h H locs ls hN hS hl
    unfold fX7_perform_126 at h
    refine lv_istore (lv' := [(7, .int t0), (0, .ref (ad 0)), (1, .int x1), (2, .int x2), (4, .int x4), (5, .int x5)]) hx hb dX7_perform_126 hl (by decide) rfl (fun ls hl => ?_)
    refine lv_iload hx hb dX7_perform_128 (lv_at hl 4 rfl) ?_
    refine lv_aload_n hx hb dX7_perform_130 rfl (lv_at hl 1 rfl) ?_
    refine lv_iload_n hx hb dX7_perform_131 rfl (lv_at hl 2 rfl) ?_
    refine lv_iload hx hb dX7_perform_132 (lv_at hl 5 rfl) ?_
    obtain ⟨v23, c24, h⟩ := cl1_ok h
    refine mg_calli (va_runV (As := [.int x1, .int x5]) (rest := [.int x4]) ⟨hx, hb, hml, hown, hts⟩ (mX7_doesPlay l D ad cI cZ M x1 x5 v23 c24) (cwV 2 hts gX7_perform_X7_doesPlay rfl rfl rfl (by decide +kernel) ⟨Nat.le_of_ble_eq_true rfl, Nat.le_of_ble_eq_true rfl⟩) (mg_preV hI hK hN) rfl rfl hl.1 rfl (lv_room (Nat.le_of_ble_eq_true rfl)) dX7_perform_134 ⟨Nat.zero_le _, Nat.zero_le _⟩) hS (fun H locs hN hS => ?_)
    refine lv_if_eq (tgt := 150) hx hb dX7_perform_137 (by decide) (fun hc => ?_) (fun hc => ?_)
    · have h := ite_t h hc
      exact w150 k76 hk76 x1 x2 x5 x4 M h _ _ _ hN hS (lv_sub hl [1, 2, 3, 5] rfl)
    · have h := ite_f h hc
      refine lv_iload hx hb dX7_perform_140 (lv_at hl 0 rfl) ?_
      refine lv_if_ne (tgt := 150) hx hb dX7_perform_142 (by decide) (fun hc => ?_) (fun hc => ?_)
      · have h := ite_f h hc
        exact w150 k76 hk76 x1 x2 x5 x4 M h _ _ _ hN hS (lv_sub hl [1, 2, 3, 5] rfl)
      · have h := ite_t h hc
        refine lv_bipush (v := (10 : Int32)) hx hb dX7_perform_145 (by decide) ?_
        refine lv_goto (tgt := 151) hx hb dX7_perform_147 (by decide) ?_
        exact w151 k76 hk76 x1 x2 x5 (10 : Int32) x4 M h _ _ _ hN hS (lv_sub hl [1, 2, 3, 5] rfl)
  have w125 : ∀ (k76 : Int32 → Int32 → Int32 → Int32 → MT → Option (Int32 × MT)) (hk76 : (∀ (x1 : Int32) (x2 : Int32) (x4 : Int32) (x5 : Int32) (M : MT), k76 x1 x2 x4 x5 M = some (r, Mz) → mG p l e (headSpec wsX7_perform rmX7_perform).room s m (([.ref (ad 0), .int a1, .int a2] : List Value).toArray) below meth c (MQ below (mQi D ad cI cZ r Mz) (([.ref (ad 0), .int a1, .int a2] : List Value).toArray) s 0 0 (mA ad)) D ad cI cZ 8 M 76 [(0, .ref (ad 0)), (1, .int x1), (2, .int x2), (4, .int x4), (5, .int x5)] [])) (x1 : Int32) (x2 : Int32) (x4 : Int32) (x5 : Int32) (M : MT), fX7_perform_125 k76 x1 x2 x4 x5 M = some (r, Mz) → mG p l e (headSpec wsX7_perform rmX7_perform).room s m (([.ref (ad 0), .int a1, .int a2] : List Value).toArray) below meth c (MQ below (mQi D ad cI cZ r Mz) (([.ref (ad 0), .int a1, .int a2] : List Value).toArray) s 0 0 (mA ad)) D ad cI cZ 8 M 125 [(0, .ref (ad 0)), (1, .int x1), (2, .int x2), (4, .int x4), (5, .int x5)] [] := by
    intro k76 hk76 x1 x2 x4 x5 M h H locs ls hN hS hl
    unfold fX7_perform_125 at h
    refine lv_iconst (v := (0 : Int32)) hx hb dX7_perform_125 (by decide) ?_
    exact w126 k76 hk76 x1 x2 x4 x5 (0 : Int32) M h _ _ _ hN hS (lv_sub hl [0, 1, 2, 3, 4] rfl)
  have w196 : ∀ (x4 : Int32) (t0 : Int32) (t1 : Int32) (M : MT), fX7_perform_196  x4 t0 t1 M = some (r, Mz) → mG p l e (headSpec wsX7_perform rmX7_perform).room s m (([.ref (ad 0), .int a1, .int a2] : List Value).toArray) below meth c (MQ below (mQi D ad cI cZ r Mz) (([.ref (ad 0), .int a1, .int a2] : List Value).toArray) s 0 0 (mA ad)) D ad cI cZ 8 M 196 [(0, .ref (ad 0)), (4, .int x4)] [.int t0, .int t1, .ref (ad 24)] := by
    intro  x4 t0 t1 M h H locs ls hN hS hl
    unfold fX7_perform_196 at h
    obtain ⟨g25, h⟩ := gd_ok h
    obtain ⟨M26, eM26⟩ : ∃ y : MT, y = (va_up M 24 (upd (M 24) (Int32.toNatClampNeg t1) t0)) := ⟨_, rfl⟩
    have h := bnd_ok h eM26
    refine mg_ist hx hb hI hK hN hS 24 rfl (if_neg (by decide)) (gin_ok g25) dX7_perform_196 eM26 (fun H locs hN hS => ?_)
    refine lv_iload hx hb dX7_perform_197 (lv_at hl 1 rfl) ?_
    exact W.iret hx hb hr (mg_endi h hI hK hN hS) hS.2.2 dX7_perform_199
  have w160 : ∀ (x1 : Int32) (x2 : Int32) (x4 : Int32) (M : MT), fX7_perform_160  x1 x2 x4 M = some (r, Mz) → mG p l e (headSpec wsX7_perform rmX7_perform).room s m (([.ref (ad 0), .int a1, .int a2] : List Value).toArray) below meth c (MQ below (mQi D ad cI cZ r Mz) (([.ref (ad 0), .int a1, .int a2] : List Value).toArray) s 0 0 (mA ad)) D ad cI cZ 8 M 160 [(0, .ref (ad 0)), (1, .int x1), (2, .int x2), (4, .int x4)] [] := by
    intro  x1 x2 x4 M h H locs ls hN hS hl
    unfold fX7_perform_160 at h
    refine lv_aload_n hx hb dX7_perform_160 rfl (lv_at hl 0 rfl) ?_
    refine mg_get hx hb hts hin hown hK hN 22 (by decide) l0 rfl (v := .ref (ad 22)) rfl dX7_perform_161 ?_
    refine lv_iload_n hx hb dX7_perform_164 rfl (lv_at hl 1 rfl) ?_
    refine lv_iconst (v := (1 : Int32)) hx hb dX7_perform_165 (by decide) ?_
    obtain ⟨g19, h⟩ := gd_ok h
    obtain ⟨M20, eM20⟩ : ∃ y : MT, y = (va_up M 22 (upd (M 22) (Int32.toNatClampNeg x1) (vp_nar .boolean (1 : Int32)))) := ⟨_, rfl⟩
    have h := bnd_ok h eM20
    refine mg_zst hx hb hI hK hN hS 22 rfl (if_pos (by decide)) (gin_ok g19) dX7_perform_166 eM20 (fun H locs hN hS => ?_)
    refine lv_aload_n hx hb dX7_perform_167 rfl (lv_at hl 0 rfl) ?_
    refine mg_get hx hb hts hin hown hK hN 23 (by decide) l5 rfl (v := .ref (ad 23)) rfl dX7_perform_168 ?_
    refine lv_iload_n hx hb dX7_perform_171 rfl (lv_at hl 1 rfl) ?_
    refine lv_iload hx hb dX7_perform_172 (lv_at hl 3 rfl) ?_
    obtain ⟨g21, h⟩ := gd_ok h
    obtain ⟨M22, eM22⟩ : ∃ y : MT, y = (va_up M20 23 (upd (M20 23) (Int32.toNatClampNeg x1) x4)) := ⟨_, rfl⟩
    have h := bnd_ok h eM22
    refine mg_ist hx hb hI hK hN hS 23 rfl (if_neg (by decide)) (gin_ok g21) dX7_perform_174 eM22 (fun H locs hN hS => ?_)
    refine lv_aload_n hx hb dX7_perform_175 rfl (lv_at hl 0 rfl) ?_
    refine mg_get hx hb hts hin hown hK hN 24 (by decide) l6 rfl (v := .ref (ad 24)) rfl dX7_perform_176 ?_
    refine lv_iload_n hx hb dX7_perform_179 rfl (lv_at hl 1 rfl) ?_
    refine lv_iload_n hx hb dX7_perform_180 rfl (lv_at hl 2 rfl) ?_
    refine lv_bipush (v := (10 : Int32)) hx hb dX7_perform_181 (by decide) ?_
    refine lv_icmp_le (tgt := 195) hx hb dX7_perform_183 (by decide) (fun hc => ?_) (fun hc => ?_)
    · have h := ite_t h hc
      refine lv_iconst (v := (0 : Int32)) hx hb dX7_perform_195 (by decide) ?_
      exact w196  x4 (0 : Int32) x1 M22 h _ _ _ hN hS (lv_sub hl [0, 3] rfl)
    · have h := ite_f h hc
      refine lv_iconst (v := (2 : Int32)) hx hb dX7_perform_186 (by decide) ?_
      refine lv_iload_n hx hb dX7_perform_187 rfl (lv_at hl 2 rfl) ?_
      refine lv_imul hx hb dX7_perform_188 ?_
      refine lv_bipush (v := (20 : Int32)) hx hb dX7_perform_189 (by decide) ?_
      refine lv_isub hx hb dX7_perform_191 ?_
      refine lv_goto (tgt := 196) hx hb dX7_perform_192 (by decide) ?_
      exact w196  x4 (((2 : Int32) * x2) - (20 : Int32)) x1 M22 h _ _ _ hN hS (lv_sub hl [0, 3] rfl)
  have w76 : ∀ (x1 : Int32) (x2 : Int32) (x4 : Int32) (x5 : Int32) (M : MT), lf5 fX7_perform_76 100 x1 x2 x4 x5 M = some (r, Mz) → mG p l e (headSpec wsX7_perform rmX7_perform).room s m (([.ref (ad 0), .int a1, .int a2] : List Value).toArray) below meth c (MQ below (mQi D ad cI cZ r Mz) (([.ref (ad 0), .int a1, .int a2] : List Value).toArray) s 0 0 (mA ad)) D ad cI cZ 8 M 76 [(0, .ref (ad 0)), (1, .int x1), (2, .int x2), (4, .int x4), (5, .int x5)] [] := by
    skip
    refine lf5_ok (P := (fun x1 x2 x4 x5 M => mG p l e (headSpec wsX7_perform rmX7_perform).room s m (([.ref (ad 0), .int a1, .int a2] : List Value).toArray) below meth c (MQ below (mQi D ad cI cZ r Mz) (([.ref (ad 0), .int a1, .int a2] : List Value).toArray) s 0 0 (mA ad)) D ad cI cZ 8 M 76 [(0, .ref (ad 0)), (1, .int x1), (2, .int x2), (4, .int x4), (5, .int x5)] [])) (fun k76 hk76 x1 x2 x4 x5 M h H locs ls hN hS hl => ?_) 100
    unfold fX7_perform_76 at h
    refine lv_iload hx hb dX7_perform_76 (lv_at hl 4 rfl) ?_
    refine lv_aload_n hx hb dX7_perform_78 rfl (lv_at hl 0 rfl) ?_
    refine mg_get hx hb hts hin hown hK hN 15 (by decide) l2 rfl (v := .ref (ad 15)) rfl dX7_perform_79 ?_
    refine lv_iload_n hx hb dX7_perform_82 rfl (lv_at hl 1 rfl) ?_
    obtain ⟨g12, h⟩ := gd_ok h
    refine mg_ild hx hb hK hN 15 rfl (if_neg (by decide)) (gin_ok g12) dX7_perform_83 ?_
    refine lv_icmp_ge (tgt := 160) hx hb dX7_perform_84 (by decide) (fun hc => ?_) (fun hc => ?_)
    · have h := ite_t h hc
      exact w160  x1 x2 x4 M h _ _ _ hN hS (lv_sub hl [0, 1, 2, 3] rfl)
    · have h := ite_f h hc
      refine lv_aload_n hx hb dX7_perform_87 rfl (lv_at hl 0 rfl) ?_
      refine mg_get hx hb hts hin hown hK hN 12 (by decide) l3 rfl (v := .ref (ad 12)) rfl dX7_perform_88 ?_
      refine lv_aload_n hx hb dX7_perform_91 rfl (lv_at hl 0 rfl) ?_
      refine mg_get hx hb hts hin hown hK hN 16 (by decide) l4 rfl (v := .ref (ad 16)) rfl dX7_perform_92 ?_
      refine lv_bipush (v := (8 : Int32)) hx hb dX7_perform_95 (by decide) ?_
      refine lv_iload_n hx hb dX7_perform_97 rfl (lv_at hl 1 rfl) ?_
      refine lv_imul hx hb dX7_perform_98 ?_
      refine lv_iload hx hb dX7_perform_99 (lv_at hl 4 rfl) ?_
      refine lv_iadd hx hb dX7_perform_101 ?_
      obtain ⟨g13, h⟩ := gd_ok h
      refine mg_ild hx hb hK hN 16 rfl (if_neg (by decide)) (gin_ok g13) dX7_perform_102 ?_
      obtain ⟨g14, h⟩ := gd_ok h
      refine mg_ild hx hb hK hN 12 rfl (if_neg (by decide)) (gin_ok g14) dX7_perform_103 ?_
      refine lv_topi (fun v15 ev15 => ?_)
      have h := bnd_ok h ev15
      refine lv_istore (lv' := [(6, .int v15), (0, .ref (ad 0)), (1, .int x1), (2, .int x2), (4, .int x4), (5, .int x5)]) hx hb dX7_perform_104 hl (by decide) rfl (fun ls hl => ?_)
      refine lv_iload hx hb dX7_perform_106 (lv_at hl 0 rfl) ?_
      refine lv_iconst (v := (-1 : Int32)) hx hb dX7_perform_108 (by decide) ?_
      refine lv_icmp_eq (tgt := 125) hx hb dX7_perform_109 (by decide) (fun hc => ?_) (fun hc => ?_)
      · have h := ite_t h hc
        exact w125 k76 hk76 x1 x2 x4 x5 M h _ _ _ hN hS (lv_sub hl [1, 2, 3, 4, 5] rfl)
      · have h := ite_f h hc
        refine lv_aload_n hx hb dX7_perform_112 rfl (lv_at hl 1 rfl) ?_
        refine lv_iload hx hb dX7_perform_113 (lv_at hl 0 rfl) ?_
        obtain ⟨v16, M17, c18, h⟩ := cl2_ok h
        refine mg_calli (va_runV (As := [.int v15]) (rest := []) ⟨hx, hb, hml, hown, hts⟩ (mX7_isInTuneNow l D ad cI cZ M v15 v16 M17 c18) (cwV 1 hts gX7_perform_X7_isInTuneNow rfl rfl rfl (by decide +kernel) ⟨Nat.le_of_ble_eq_true rfl, Nat.le_of_ble_eq_true rfl⟩) (mg_preV hI hK hN) rfl rfl hl.1 rfl (lv_room (Nat.le_of_ble_eq_true rfl)) dX7_perform_115 ⟨Nat.zero_le _, Nat.zero_le _⟩) hS (fun H locs hN hS => ?_)
        refine lv_if_eq (tgt := 125) hx hb dX7_perform_118 (by decide) (fun hc => ?_) (fun hc => ?_)
        · have h := ite_t h hc
          exact w125 k76 hk76 x1 x2 x4 x5 M17 h _ _ _ hN hS (lv_sub hl [1, 2, 3, 4, 5] rfl)
        · have h := ite_f h hc
          refine lv_iconst (v := (1 : Int32)) hx hb dX7_perform_121 (by decide) ?_
          refine lv_goto (tgt := 126) hx hb dX7_perform_122 (by decide) ?_
          exact w126 k76 hk76 x1 x2 x4 x5 (1 : Int32) M17 h _ _ _ hN hS (lv_sub hl [1, 2, 3, 4, 5] rfl)
  have w65 : ∀ (x1 : Int32) (x2 : Int32) (x4 : Int32) (t0 : Int32) (M : MT), fX7_perform_65  x1 x2 x4 t0 M = some (r, Mz) → mG p l e (headSpec wsX7_perform rmX7_perform).room s m (([.ref (ad 0), .int a1, .int a2] : List Value).toArray) below meth c (MQ below (mQi D ad cI cZ r Mz) (([.ref (ad 0), .int a1, .int a2] : List Value).toArray) s 0 0 (mA ad)) D ad cI cZ 8 M 65 [(0, .ref (ad 0)), (1, .int x1), (2, .int x2), (4, .int x4)] [.int t0, .ref (ad 0)] := by
    intro  x1 x2 x4 t0 M h H locs ls hN hS hl
    unfold fX7_perform_65 at h
    obtain ⟨v9, M10, c11, h⟩ := cl2_ok h
    refine mg_calli (va_runV (As := [.int t0]) (rest := []) ⟨hx, hb, hml, hown, hts⟩ (mX7_holds l D ad cI cZ M t0 v9 M10 c11) (cwV 1 hts gX7_perform_X7_holds rfl rfl rfl (by decide +kernel) ⟨Nat.le_of_ble_eq_true rfl, Nat.le_of_ble_eq_true rfl⟩) (mg_preV hI hK hN) rfl rfl hl.1 rfl (lv_room (Nat.le_of_ble_eq_true rfl)) dX7_perform_65 ⟨Nat.zero_le _, Nat.zero_le _⟩) hS (fun H locs hN hS => ?_)
    refine lv_if_ne (tgt := 73) hx hb dX7_perform_68 (by decide) (fun hc => ?_) (fun hc => ?_)
    · have h := ite_f h hc
      refine lv_iconst (v := (0 : Int32)) hx hb dX7_perform_73 (by decide) ?_
      refine lv_istore (lv' := [(5, .int (0 : Int32)), (0, .ref (ad 0)), (1, .int x1), (2, .int x2), (4, .int x4)]) hx hb dX7_perform_74 hl (by decide) rfl (fun ls hl => ?_)
      exact w76  x1 x2 x4 (0 : Int32) M10 h _ _ _ hN hS (lv_sub hl [1, 2, 3, 4, 0] rfl)
    · have h := ite_t h hc
      refine lv_iconst (v := (0 : Int32)) hx hb dX7_perform_71 (by decide) ?_
      exact W.iret hx hb hr (mg_endi h hI hK hN hS) hS.2.2 dX7_perform_72
  have w60 : ∀ (x1 : Int32) (x2 : Int32) (x4 : Int32) (M : MT), fX7_perform_60  x1 x2 x4 M = some (r, Mz) → mG p l e (headSpec wsX7_perform rmX7_perform).room s m (([.ref (ad 0), .int a1, .int a2] : List Value).toArray) below meth c (MQ below (mQi D ad cI cZ r Mz) (([.ref (ad 0), .int a1, .int a2] : List Value).toArray) s 0 0 (mA ad)) D ad cI cZ 8 M 60 [(0, .ref (ad 0)), (1, .int x1), (2, .int x2), (4, .int x4)] [.ref (ad 0)] := by
    intro  x1 x2 x4 M h H locs ls hN hS hl
    unfold fX7_perform_60 at h
    refine lv_iconst (v := (3 : Int32)) hx hb dX7_perform_60 (by decide) ?_
    refine lv_goto (tgt := 65) hx hb dX7_perform_61 (by decide) ?_
    exact w65  x1 x2 x4 (3 : Int32) M h _ _ _ hN hS (lv_sub hl [0, 1, 2, 3] rfl)
  have w19 : ∀ (x1 : Int32) (x2 : Int32) (x3 : Int32) (t0 : Int32) (M : MT), fX7_perform_19  x1 x2 x3 t0 M = some (r, Mz) → mG p l e (headSpec wsX7_perform rmX7_perform).room s m (([.ref (ad 0), .int a1, .int a2] : List Value).toArray) below meth c (MQ below (mQi D ad cI cZ r Mz) (([.ref (ad 0), .int a1, .int a2] : List Value).toArray) s 0 0 (mA ad)) D ad cI cZ 8 M 19 [(0, .ref (ad 0)), (1, .int x1), (2, .int x2), (3, .int x3)] [.int t0] := by
    intro  x1 x2 x3 t0 M h H locs ls hN hS hl
    unfold fX7_perform_19 at h
    refine lv_istore (lv' := [(4, .int t0), (0, .ref (ad 0)), (1, .int x1), (2, .int x2), (3, .int x3)]) hx hb dX7_perform_19 hl (by decide) rfl (fun ls hl => ?_)
    refine lv_aload_n hx hb dX7_perform_21 rfl (lv_at hl 1 rfl) ?_
    refine lv_iload_n hx hb dX7_perform_22 rfl (lv_at hl 4 rfl) ?_
    refine lv_if_ne (tgt := 30) hx hb dX7_perform_23 (by decide) (fun hc => ?_) (fun hc => ?_)
    · have h := ite_f h hc
      refine lv_iload_n hx hb dX7_perform_30 rfl (lv_at hl 3 rfl) ?_
      refine lv_iconst (v := (1 : Int32)) hx hb dX7_perform_31 (by decide) ?_
      refine lv_bipush (v := (30 : Int32)) hx hb dX7_perform_32 (by decide) ?_
      obtain ⟨v6, c7, h⟩ := cl1_ok h
      refine mg_calli (va_runS (As := [.int x2, .int (1 : Int32), .int (30 : Int32)]) (rest := [.ref (ad 0)]) ⟨hx, hb, hml, hown, hts⟩ (mX7_isIn l D ad cI cZ M x2 (1 : Int32) (30 : Int32) v6 c7) (va_cwS 3 hts gX7_perform_X7_isIn rfl rfl rfl (by decide +kernel) ⟨Nat.le_of_ble_eq_true rfl, Nat.le_of_ble_eq_true rfl⟩) (mg_preS hI hK hN) rfl rfl hl.1 rfl (lv_room (Nat.le_of_ble_eq_true rfl)) dX7_perform_34 ⟨Nat.zero_le _, Nat.zero_le _⟩) hS (fun H locs hN hS => ?_)
      refine lv_if_ne (tgt := 44) hx hb dX7_perform_37 (by decide) (fun hc => ?_) (fun hc => ?_)
      · have h := ite_f h hc
        refine lv_aload_n hx hb dX7_perform_44 rfl (lv_at hl 1 rfl) ?_
        refine mg_get hx hb hts hin hown hK hN 22 (by decide) l0 rfl (v := .ref (ad 22)) rfl dX7_perform_45 ?_
        refine lv_iload_n hx hb dX7_perform_48 rfl (lv_at hl 2 rfl) ?_
        obtain ⟨g8, h⟩ := gd_ok h
        refine mg_zld hx hb hK hN 22 rfl (if_pos (by decide)) (gin_ok g8) dX7_perform_49 ?_
        refine lv_if_ne (tgt := 60) hx hb dX7_perform_50 (by decide) (fun hc => ?_) (fun hc => ?_)
        · have h := ite_f h hc
          exact w60  x1 x2 t0 M h _ _ _ hN hS (lv_sub hl [1, 2, 3, 0] rfl)
        · have h := ite_t h hc
          refine lv_iload hx hb dX7_perform_53 (lv_at hl 0 rfl) ?_
          refine lv_ldc (v := (1000000 : Int32)) hx hb hown l1 dX7_perform_55 ?_
          refine lv_icmp_lt (tgt := 64) hx hb dX7_perform_57 (by decide) (fun hc => ?_) (fun hc => ?_)
          · have h := ite_t h hc
            refine lv_iconst (v := (0 : Int32)) hx hb dX7_perform_64 (by decide) ?_
            exact w65  x1 x2 t0 (0 : Int32) M h _ _ _ hN hS (lv_sub hl [1, 2, 3, 0] rfl)
          · have h := ite_f h hc
            exact w60  x1 x2 t0 M h _ _ _ hN hS (lv_sub hl [1, 2, 3, 0] rfl)
      · have h := ite_t h hc
        refine lv_iconst (v := (2 : Int32)) hx hb dX7_perform_40 (by decide) ?_
        refine lv_goto (tgt := 65) hx hb dX7_perform_41 (by decide) ?_
        exact w65  x1 x2 t0 (2 : Int32) M h _ _ _ hN hS (lv_sub hl [1, 2, 3, 0] rfl)
    · have h := ite_t h hc
      refine lv_iconst (v := (1 : Int32)) hx hb dX7_perform_26 (by decide) ?_
      refine lv_goto (tgt := 65) hx hb dX7_perform_27 (by decide) ?_
      exact w65  x1 x2 t0 (1 : Int32) M h _ _ _ hN hS (lv_sub hl [1, 2, 3, 0] rfl)
  unfold fX7_perform at h
  refine lv_iload_n hx hb dX7_perform_0 rfl (lv_at hl 1 rfl) ?_
  obtain ⟨v1, c2, h⟩ := cl1_ok h
  refine mg_calli (va_runS (As := [.int a1]) (rest := []) ⟨hx, hb, hml, hown, hts⟩ (mX7_isBand l D ad cI cZ M a1 v1 c2) (va_cwS 1 hts gX7_perform_X7_isBand rfl rfl rfl (by decide +kernel) ⟨Nat.le_of_ble_eq_true rfl, Nat.le_of_ble_eq_true rfl⟩) (mg_preS hI hK hN) rfl rfl hl.1 rfl (lv_room (Nat.le_of_ble_eq_true rfl)) dX7_perform_1 ⟨Nat.zero_le _, Nat.zero_le _⟩) hS (fun H locs hN hS => ?_)
  refine lv_istore_n (lv' := [(3, .int v1), (0, .ref (ad 0)), (1, .int a1), (2, .int a2)]) hx hb dX7_perform_4 rfl hl (by decide) rfl (fun ls hl => ?_)
  refine lv_iload_n hx hb dX7_perform_5 rfl (lv_at hl 0 rfl) ?_
  refine lv_if_eq (tgt := 18) hx hb dX7_perform_6 (by decide) (fun hc => ?_) (fun hc => ?_)
  · have h := ite_t h hc
    refine lv_iconst (v := (0 : Int32)) hx hb dX7_perform_18 (by decide) ?_
    exact w19  a1 a2 v1 (0 : Int32) M h _ _ _ hN hS (lv_sub hl [1, 2, 3, 0] rfl)
  · have h := ite_f h hc
    refine lv_aload_n hx hb dX7_perform_9 rfl (lv_at hl 1 rfl) ?_
    refine lv_iload_n hx hb dX7_perform_10 rfl (lv_at hl 2 rfl) ?_
    refine lv_iconst (v := (-1 : Int32)) hx hb dX7_perform_11 (by decide) ?_
    obtain ⟨v3, M4, c5, h⟩ := cl2_ok h
    refine mg_calli (va_runV (As := [.int a1, .int (-1 : Int32)]) (rest := []) ⟨hx, hb, hml, hown, hts⟩ (mX7_lays l D ad cI cZ M a1 (-1 : Int32) v3 M4 c5) (cwV 2 hts gX7_perform_X7_lays rfl rfl rfl (by decide +kernel) ⟨Nat.le_of_ble_eq_true rfl, Nat.le_of_ble_eq_true rfl⟩) (mg_preV hI hK hN) rfl rfl hl.1 rfl (lv_room (Nat.le_of_ble_eq_true rfl)) dX7_perform_12 ⟨Nat.zero_le _, Nat.zero_le _⟩) hS (fun H locs hN hS => ?_)
    refine lv_goto (tgt := 19) hx hb dX7_perform_15 (by decide) ?_
    exact w19  a1 a2 v1 v3 M4 h _ _ _ hN hS (lv_sub hl [1, 2, 3, 0] rfl)
