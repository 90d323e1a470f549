def rmL_knows : Room := { frames := 9, cells := 4, slots := 24, locals := 166 }
set_option maxHeartbeats 4000000 in
set_option maxRecDepth 100000 in
theorem mL_knows (l : Launch) (hfl : l.stackTraces = false) (D : va_G) (G : CGT) (A : Nat → Prop) (ad : Nat → Nat → Nat) (Z : CZ) (cJ : ClassId) (q : Nat) (f : Nat → Int64) (a1 : Int32) (a2 : Int32) (a3 : Int32) (v : Int32) (h : fX6_knows a1 a2 a3 Z = some (.inl v : Int32 ⊕ Int32)) : vx_Met l yL_knows wsL_knows rmL_knows (va_Pc [.ref (ad 0 0), .int a1, .int a2, .int a3, .ref q] (lP D G A ad Z cJ q f)) (lQ D G A ad 0 Z cJ q (fun f1 => f1 0 = v.toInt64)) (fun _ _ _ => False) 4 24 (fun y => A y ∨ y = q) := by
  refine vx_ofWH (cc := cL_knows) (maxL := 6) (ret := some .int) (hh := [(0, 12, 15, 21)]) (by decide) rfl ?_
  intro p e s m args below meth c s₁ B hml hv
  obtain ⟨rfl, ⟨⟨⟨hI, hN, hK⟩, hE⟩, hF, hA⟩, hq, hKJ, hNc, hnq⟩ := hv
  have hx := B.exec
  have hb := B.bytes
  have hr := B.returns
  have hts := atoms_spec (ws := wsL_knows) B.pre
  have hown : s.vm.findClass RL = some m.cls := findClass_of_methodNamed B.named
  have hlocks := B.notSynchronized
  have htab := vx_table (x := yL_knows) B (hts _ (List.mem_cons_self))
  have hS : va_S (fun y => A y ∨ y = q) s.heap s.heap [] := va_S.rf
  have hl := lv_entry ([.ref (ad 0 0), .int a1, .int a2, .int a3, .ref q]) (n := 6) (Nat.le_of_ble_eq_true rfl)
  rw [lg_entry_eq]
  generalize (lg_sl ([.ref (ad 0 0), .int a1, .int a2, .int a3, .ref q]) ++ List.replicate (6 - (lg_sl ([.ref (ad 0 0), .int a1, .int a2, .int a3, .ref q])).length) Slot.unset).toArray = ls at hl ⊢
  have hl : lv_has ls 6 [(0, .ref (ad 0 0)), (1, .int a1), (2, .int a2), (3, .int a3), (4, .ref q)] := hl
  refine lv_aload hx hb dL_knows_0 (lv_at hl 4 rfl) ?_
  refine lv_iconst (v := 0) hx hb dL_knows_2 (by decide) ?_
  refine lv_aload_n hx hb dL_knows_3 rfl (lv_at hl 0 rfl) ?_
  refine lv_iload_n hx hb dL_knows_4 rfl (lv_at hl 1 rfl) ?_
  refine lv_iload_n hx hb dL_knows_5 rfl (lv_at hl 2 rfl) ?_
  refine lv_iload_n hx hb dL_knows_6 rfl (lv_at hl 3 rfl) ?_
  refine vx_calli (A0 := fun y => A y ∨ y = q) (vx_runV (As := [.int a1, .int a2, .int a3]) (rest := [.int 0, .ref q]) ⟨hx, hb, hml, hown, hts⟩ (mX6_knows l hfl D G A ad Z a1 a2 a3 (.inl v)  h) (cwV 3 hts gL_knows_X6_knows rfl rfl rfl (by decide +kernel) ⟨Nat.le_of_ble_eq_true rfl, Nat.le_of_ble_eq_true rfl⟩) (xg_preV hI hK hN hE va_S.rf rfl rfl (ci := 7) rfl) rfl rfl hl.1 rfl (lv_room (Nat.le_of_ble_eq_true rfl)) dL_knows_7 ⟨Nat.le_of_ble_eq_true rfl, Nat.le_of_ble_eq_true rfl⟩) hS (fun _ _ h => Or.inl h) (fun _ h => Or.inl h) (fun _ _ h => Or.inl h) (fun E ce q9 u t H1 locs1 ht hvm hp hB hz hk hS1 hce hcv hcl => ?_) (fun r9 u t H1 locs1 ht hvm hw hB hz hk hS1 => ?_)
  · obtain ⟨⟨c9, h9, -⟩, -⟩ := hB
    cases h9
  · have hq1 : va_at D vwCl (q, .inl (cJ, 1, .inr (.inl f))) H1 := hq.kept (hk q hq.lt hnq)
    obtain ⟨h9, rfl⟩ := hw
    cases h9
    have h00 : ad 0 0 = ad 0 0 := rfl
    have hI1 := hB.1
    have hN1 := hB.2.1
    rw [ht] at hN1
    clear hB hk hz
    refine lv_i2l hx hb (v := v.toInt64) dL_knows_10 rfl ?_
    refine lg_last hx hb hKJ hq1 hN1 hI1 hnq hS1 dL_knows_11 (fun H2 locs2 hq1 hN1 hS1 => ?_)
    refine lv_goto (tgt := 19) hx hb dL_knows_12 (by decide) ?_
    refine lv_iconst (v := 0) hx hb dL_knows_19 (by decide) ?_
    exact vx_ret (W.widen (k := 4) (n := 24) (by decide) (by decide) (W.iret hx hb hr (lg_end (P := (fun f1 => f1 0 = v.toInt64)) (if_pos rfl) h00 hI1 hK hN1 hq1 hS1) (fun z hz => hS1.2.2 z hz) dL_knows_20))
set_option maxHeartbeats 4000000 in
set_option maxRecDepth 100000 in
theorem mL_knows_x1 (l : Launch) (hfl : l.stackTraces = false) (D : va_G) (G : CGT) (A : Nat → Prop) (ad : Nat → Nat → Nat) (Z : CZ) (cJ : ClassId) (q : Nat) (f : Nat → Int64) (a1 : Int32) (a2 : Int32) (a3 : Int32) (h : fX6_knows a1 a2 a3 Z = some (.inr 1 : Int32 ⊕ Int32)) : vx_Met l yL_knows wsL_knows rmL_knows (va_Pc [.ref (ad 0 0), .int a1, .int a2, .int a3, .ref q] (lP D G A ad Z cJ q f)) (lQ D G A ad 1 Z cJ q (fun _ => True)) (fun _ _ _ => False) 4 24 (fun y => A y ∨ y = q) := by
  refine vx_ofWH (cc := cL_knows) (maxL := 6) (ret := some .int) (hh := [(0, 12, 15, 21)]) (by decide) rfl ?_
  intro p e s m args below meth c s₁ B hml hv
  obtain ⟨rfl, ⟨⟨⟨hI, hN, hK⟩, hE⟩, hF, hA⟩, hq, hKJ, hNc, hnq⟩ := hv
  have hx := B.exec
  have hb := B.bytes
  have hr := B.returns
  have hts := atoms_spec (ws := wsL_knows) B.pre
  have hown : s.vm.findClass RL = some m.cls := findClass_of_methodNamed B.named
  have hlocks := B.notSynchronized
  have l0 := hts (.classLink RL 21 "java/lang/IndexOutOfBoundsException") (List.mem_of_getElem? (i := 1) rfl)
  have htab := vx_table (x := yL_knows) B (hts _ (List.mem_cons_self))
  have hS : va_S (fun y => A y ∨ y = q) s.heap s.heap [] := va_S.rf
  have hl := lv_entry ([.ref (ad 0 0), .int a1, .int a2, .int a3, .ref q]) (n := 6) (Nat.le_of_ble_eq_true rfl)
  rw [lg_entry_eq]
  generalize (lg_sl ([.ref (ad 0 0), .int a1, .int a2, .int a3, .ref q]) ++ List.replicate (6 - (lg_sl ([.ref (ad 0 0), .int a1, .int a2, .int a3, .ref q])).length) Slot.unset).toArray = ls at hl ⊢
  have hl : lv_has ls 6 [(0, .ref (ad 0 0)), (1, .int a1), (2, .int a2), (3, .int a3), (4, .ref q)] := hl
  refine lv_aload hx hb dL_knows_0 (lv_at hl 4 rfl) ?_
  refine lv_iconst (v := 0) hx hb dL_knows_2 (by decide) ?_
  refine lv_aload_n hx hb dL_knows_3 rfl (lv_at hl 0 rfl) ?_
  refine lv_iload_n hx hb dL_knows_4 rfl (lv_at hl 1 rfl) ?_
  refine lv_iload_n hx hb dL_knows_5 rfl (lv_at hl 2 rfl) ?_
  refine lv_iload_n hx hb dL_knows_6 rfl (lv_at hl 3 rfl) ?_
  refine vx_calli (A0 := fun y => A y ∨ y = q) (vx_runV (As := [.int a1, .int a2, .int a3]) (rest := [.int 0, .ref q]) ⟨hx, hb, hml, hown, hts⟩ (mX6_knows l hfl D G A ad Z a1 a2 a3 (.inr 1)  h) (cwV 3 hts gL_knows_X6_knows rfl rfl rfl (by decide +kernel) ⟨Nat.le_of_ble_eq_true rfl, Nat.le_of_ble_eq_true rfl⟩) (xg_preV hI hK hN hE va_S.rf rfl rfl (ci := 7) rfl) rfl rfl hl.1 rfl (lv_room (Nat.le_of_ble_eq_true rfl)) dL_knows_7 ⟨Nat.le_of_ble_eq_true rfl, Nat.le_of_ble_eq_true rfl⟩) hS (fun _ _ h => Or.inl h) (fun _ h => Or.inl h) (fun _ _ h => Or.inl h) (fun E ce q9 u t H1 locs1 ht hvm hp hB hz hk hS1 hce hcv hcl => ?_) (fun r9 u t H1 locs1 ht hvm hw hB hz hk hS1 => ?_)
  · have hq1 : va_at D vwCl (q, .inl (cJ, 1, .inr (.inl f))) H1 := hq.kept (hk q hq.lt hnq)
    obtain ⟨⟨c9, h9, h8⟩, hB⟩ := hB
    cases h9
    have hE9 : E = "java/lang/IndexOutOfBoundsException" := h8.trans (by decide)
    subst hE9
    subst hp
    have hI1 := hB.1
    have hN1 := hB.2.1
    rw [ht] at hN1
    refine vx_catch hown (name := "java/lang/IndexOutOfBoundsException") [] ⟨0, 12, 15, 21⟩ [] htab (fun z hz => by simp at hz) (by decide) (by decide) l0 (va_Nw.use rfl (hE.1.2 _ (by decide))) hce hcv hcl ?_
    refine lv_astore (lv' := [(5, .ref q9), (0, .ref (ad 0 0)), (1, .int a1), (2, .int a2), (3, .int a3), (4, .ref q)]) hx hb dL_knows_15 hl (by decide) rfl (fun ls hl => ?_)
    refine lv_iconst (v := 1) hx hb dL_knows_17 (by decide) ?_
    exact vx_ret (W.widen (k := 4) (n := 24) (by decide) (by decide) (W.iret hx hb hr (lg_end (P := fun _ => True) trivial rfl hI1 hK hN1 hq1 hS1) (fun z hz => hS1.2.2 z hz) dL_knows_18))
  · cases hw.1
def rmL_ofBand : Room := { frames := 9, cells := 2, slots := 12, locals := 165 }
set_option maxHeartbeats 4000000 in
set_option maxRecDepth 100000 in
theorem mL_ofBand (l : Launch) (hfl : l.stackTraces = false) (D : va_G) (G : CGT) (A : Nat → Prop) (ad : Nat → Nat → Nat) (Z : CZ) (cJ : ClassId) (q : Nat) (f : Nat → Int64) (a1 : Int32) (a2 : Int32) (v : Int32) (h : fX6_ofBand a1 a2 Z = some (.inl v : Int32 ⊕ Int32)) : vx_Met l yL_ofBand wsL_ofBand rmL_ofBand (va_Pc [.ref (ad 0 0), .int a1, .int a2, .ref q] (lP D G A ad Z cJ q f)) (lQ D G A ad 0 Z cJ q (fun f1 => f1 0 = v.toInt64)) (fun _ _ _ => False) 2 12 (fun y => A y ∨ y = q) := by
  refine vx_ofWH (cc := cL_ofBand) (maxL := 5) (ret := some .int) (hh := [(0, 10, 13, 21), (0, 10, 17, 13)]) (by decide) rfl ?_
  intro p e s m args below meth c s₁ B hml hv
  obtain ⟨rfl, ⟨⟨⟨hI, hN, hK⟩, hE⟩, hF, hA⟩, hq, hKJ, hNc, hnq⟩ := hv
  have hx := B.exec
  have hb := B.bytes
  have hr := B.returns
  have hts := atoms_spec (ws := wsL_ofBand) B.pre
  have hown : s.vm.findClass RL = some m.cls := findClass_of_methodNamed B.named
  have hlocks := B.notSynchronized
  have htab := vx_table (x := yL_ofBand) B (hts _ (List.mem_cons_self))
  have hS : va_S (fun y => A y ∨ y = q) s.heap s.heap [] := va_S.rf
  have hl := lv_entry ([.ref (ad 0 0), .int a1, .int a2, .ref q]) (n := 5) (Nat.le_of_ble_eq_true rfl)
  rw [lg_entry_eq]
  generalize (lg_sl ([.ref (ad 0 0), .int a1, .int a2, .ref q]) ++ List.replicate (5 - (lg_sl ([.ref (ad 0 0), .int a1, .int a2, .ref q])).length) Slot.unset).toArray = ls at hl ⊢
  have hl : lv_has ls 5 [(0, .ref (ad 0 0)), (1, .int a1), (2, .int a2), (3, .ref q)] := hl
  refine lv_aload_n hx hb dL_ofBand_0 rfl (lv_at hl 3 rfl) ?_
  refine lv_iconst (v := 0) hx hb dL_ofBand_1 (by decide) ?_
  refine lv_aload_n hx hb dL_ofBand_2 rfl (lv_at hl 0 rfl) ?_
  refine lv_iload_n hx hb dL_ofBand_3 rfl (lv_at hl 1 rfl) ?_
  refine lv_iload_n hx hb dL_ofBand_4 rfl (lv_at hl 2 rfl) ?_
  refine vx_calli (A0 := fun y => A y ∨ y = q) (vx_runV (As := [.int a1, .int a2]) (rest := [.int 0, .ref q]) ⟨hx, hb, hml, hown, hts⟩ (mX6_ofBand l hfl D G A ad Z a1 a2 (.inl v)  h) (cwV 2 hts gL_ofBand_X6_ofBand rfl rfl rfl (by decide +kernel) ⟨Nat.le_of_ble_eq_true rfl, Nat.le_of_ble_eq_true rfl⟩) (xg_preV hI hK hN hE va_S.rf rfl rfl (ci := 7) rfl) rfl rfl hl.1 rfl (lv_room (Nat.le_of_ble_eq_true rfl)) dL_ofBand_5 ⟨Nat.le_of_ble_eq_true rfl, Nat.le_of_ble_eq_true rfl⟩) hS (fun _ _ h => Or.inl h) (fun _ h => Or.inl h) (fun _ _ h => Or.inl h) (fun E ce q9 u t H1 locs1 ht hvm hp hB hz hk hS1 hce hcv hcl => ?_) (fun r9 u t H1 locs1 ht hvm hw hB hz hk hS1 => ?_)
  · obtain ⟨⟨c9, h9, -⟩, -⟩ := hB
    cases h9
  · have hq1 : va_at D vwCl (q, .inl (cJ, 1, .inr (.inl f))) H1 := hq.kept (hk q hq.lt hnq)
    obtain ⟨h9, rfl⟩ := hw
    cases h9
    have h00 : ad 0 0 = ad 0 0 := rfl
    have hI1 := hB.1
    have hN1 := hB.2.1
    rw [ht] at hN1
    clear hB hk hz
    refine lv_i2l hx hb (v := v.toInt64) dL_ofBand_8 rfl ?_
    refine lg_last hx hb hKJ hq1 hN1 hI1 hnq hS1 dL_ofBand_9 (fun H2 locs2 hq1 hN1 hS1 => ?_)
    refine lv_goto (tgt := 21) hx hb dL_ofBand_10 (by decide) ?_
    refine lv_iconst (v := 0) hx hb dL_ofBand_21 (by decide) ?_
    exact vx_ret (W.widen (k := 2) (n := 12) (by decide) (by decide) (W.iret hx hb hr (lg_end (P := (fun f1 => f1 0 = v.toInt64)) (if_pos rfl) h00 hI1 hK hN1 hq1 hS1) (fun z hz => hS1.2.2 z hz) dL_ofBand_22))
set_option maxHeartbeats 4000000 in
set_option maxRecDepth 100000 in
theorem mL_ofBand_x1 (l : Launch) (hfl : l.stackTraces = false) (D : va_G) (G : CGT) (A : Nat → Prop) (ad : Nat → Nat → Nat) (Z : CZ) (cJ : ClassId) (q : Nat) (f : Nat → Int64) (a1 : Int32) (a2 : Int32) (h : fX6_ofBand a1 a2 Z = some (.inr 1 : Int32 ⊕ Int32)) : vx_Met l yL_ofBand wsL_ofBand rmL_ofBand (va_Pc [.ref (ad 0 0), .int a1, .int a2, .ref q] (lP D G A ad Z cJ q f)) (lQ D G A ad 1 Z cJ q (fun _ => True)) (fun _ _ _ => False) 2 12 (fun y => A y ∨ y = q) := by
  refine vx_ofWH (cc := cL_ofBand) (maxL := 5) (ret := some .int) (hh := [(0, 10, 13, 21), (0, 10, 17, 13)]) (by decide) rfl ?_
  intro p e s m args below meth c s₁ B hml hv
  obtain ⟨rfl, ⟨⟨⟨hI, hN, hK⟩, hE⟩, hF, hA⟩, hq, hKJ, hNc, hnq⟩ := hv
  have hx := B.exec
  have hb := B.bytes
  have hr := B.returns
  have hts := atoms_spec (ws := wsL_ofBand) B.pre
  have hown : s.vm.findClass RL = some m.cls := findClass_of_methodNamed B.named
  have hlocks := B.notSynchronized
  have l0 := hts (.classLink RL 21 "java/lang/IndexOutOfBoundsException") (List.mem_of_getElem? (i := 1) rfl)
  have htab := vx_table (x := yL_ofBand) B (hts _ (List.mem_cons_self))
  have hS : va_S (fun y => A y ∨ y = q) s.heap s.heap [] := va_S.rf
  have hl := lv_entry ([.ref (ad 0 0), .int a1, .int a2, .ref q]) (n := 5) (Nat.le_of_ble_eq_true rfl)
  rw [lg_entry_eq]
  generalize (lg_sl ([.ref (ad 0 0), .int a1, .int a2, .ref q]) ++ List.replicate (5 - (lg_sl ([.ref (ad 0 0), .int a1, .int a2, .ref q])).length) Slot.unset).toArray = ls at hl ⊢
  have hl : lv_has ls 5 [(0, .ref (ad 0 0)), (1, .int a1), (2, .int a2), (3, .ref q)] := hl
  refine lv_aload_n hx hb dL_ofBand_0 rfl (lv_at hl 3 rfl) ?_
  refine lv_iconst (v := 0) hx hb dL_ofBand_1 (by decide) ?_
  refine lv_aload_n hx hb dL_ofBand_2 rfl (lv_at hl 0 rfl) ?_
  refine lv_iload_n hx hb dL_ofBand_3 rfl (lv_at hl 1 rfl) ?_
  refine lv_iload_n hx hb dL_ofBand_4 rfl (lv_at hl 2 rfl) ?_
  refine vx_calli (A0 := fun y => A y ∨ y = q) (vx_runV (As := [.int a1, .int a2]) (rest := [.int 0, .ref q]) ⟨hx, hb, hml, hown, hts⟩ (mX6_ofBand l hfl D G A ad Z a1 a2 (.inr 1)  h) (cwV 2 hts gL_ofBand_X6_ofBand rfl rfl rfl (by decide +kernel) ⟨Nat.le_of_ble_eq_true rfl, Nat.le_of_ble_eq_true rfl⟩) (xg_preV hI hK hN hE va_S.rf rfl rfl (ci := 7) rfl) rfl rfl hl.1 rfl (lv_room (Nat.le_of_ble_eq_true rfl)) dL_ofBand_5 ⟨Nat.le_of_ble_eq_true rfl, Nat.le_of_ble_eq_true rfl⟩) hS (fun _ _ h => Or.inl h) (fun _ h => Or.inl h) (fun _ _ h => Or.inl h) (fun E ce q9 u t H1 locs1 ht hvm hp hB hz hk hS1 hce hcv hcl => ?_) (fun r9 u t H1 locs1 ht hvm hw hB hz hk hS1 => ?_)
  · have hq1 : va_at D vwCl (q, .inl (cJ, 1, .inr (.inl f))) H1 := hq.kept (hk q hq.lt hnq)
    obtain ⟨⟨c9, h9, h8⟩, hB⟩ := hB
    cases h9
    have hE9 : E = "java/lang/IndexOutOfBoundsException" := h8.trans (by decide)
    subst hE9
    subst hp
    have hI1 := hB.1
    have hN1 := hB.2.1
    rw [ht] at hN1
    refine vx_catch hown (name := "java/lang/IndexOutOfBoundsException") [] ⟨0, 10, 13, 21⟩ [⟨0, 10, 17, 13⟩] htab (fun z hz => by simp at hz) (by decide) (by decide) l0 (va_Nw.use rfl (hE.1.2 _ (by decide))) hce hcv hcl ?_
    refine lv_astore (lv' := [(4, .ref q9), (0, .ref (ad 0 0)), (1, .int a1), (2, .int a2), (3, .ref q)]) hx hb dL_ofBand_13 hl (by decide) rfl (fun ls hl => ?_)
    refine lv_iconst (v := 1) hx hb dL_ofBand_15 (by decide) ?_
    exact vx_ret (W.widen (k := 2) (n := 12) (by decide) (by decide) (W.iret hx hb hr (lg_end (P := fun _ => True) trivial rfl hI1 hK hN1 hq1 hS1) (fun z hz => hS1.2.2 z hz) dL_ofBand_16))
  · cases hw.1
set_option maxHeartbeats 4000000 in
set_option maxRecDepth 100000 in
theorem mL_ofBand_x2 (l : Launch) (hfl : l.stackTraces = false) (D : va_G) (G : CGT) (A : Nat → Prop) (ad : Nat → Nat → Nat) (Z : CZ) (cJ : ClassId) (q : Nat) (f : Nat → Int64) (a1 : Int32) (a2 : Int32) (h : fX6_ofBand a1 a2 Z = some (.inr 2 : Int32 ⊕ Int32)) : vx_Met l yL_ofBand wsL_ofBand rmL_ofBand (va_Pc [.ref (ad 0 0), .int a1, .int a2, .ref q] (lP D G A ad Z cJ q f)) (lQ D G A ad 2 Z cJ q (fun _ => True)) (fun _ _ _ => False) 2 12 (fun y => A y ∨ y = q) := by
  refine vx_ofWH (cc := cL_ofBand) (maxL := 5) (ret := some .int) (hh := [(0, 10, 13, 21), (0, 10, 17, 13)]) (by decide) rfl ?_
  intro p e s m args below meth c s₁ B hml hv
  obtain ⟨rfl, ⟨⟨⟨hI, hN, hK⟩, hE⟩, hF, hA⟩, hq, hKJ, hNc, hnq⟩ := hv
  have hx := B.exec
  have hb := B.bytes
  have hr := B.returns
  have hts := atoms_spec (ws := wsL_ofBand) B.pre
  have hown : s.vm.findClass RL = some m.cls := findClass_of_methodNamed B.named
  have hlocks := B.notSynchronized
  have l0 := hts (.classLink RL 21 "java/lang/IndexOutOfBoundsException") (List.mem_of_getElem? (i := 1) rfl)
  have l1 := hts (.classLink RL 13 "java/lang/IllegalArgumentException") (List.mem_of_getElem? (i := 2) rfl)
  have htab := vx_table (x := yL_ofBand) B (hts _ (List.mem_cons_self))
  have hS : va_S (fun y => A y ∨ y = q) s.heap s.heap [] := va_S.rf
  have hl := lv_entry ([.ref (ad 0 0), .int a1, .int a2, .ref q]) (n := 5) (Nat.le_of_ble_eq_true rfl)
  rw [lg_entry_eq]
  generalize (lg_sl ([.ref (ad 0 0), .int a1, .int a2, .ref q]) ++ List.replicate (5 - (lg_sl ([.ref (ad 0 0), .int a1, .int a2, .ref q])).length) Slot.unset).toArray = ls at hl ⊢
  have hl : lv_has ls 5 [(0, .ref (ad 0 0)), (1, .int a1), (2, .int a2), (3, .ref q)] := hl
  refine lv_aload_n hx hb dL_ofBand_0 rfl (lv_at hl 3 rfl) ?_
  refine lv_iconst (v := 0) hx hb dL_ofBand_1 (by decide) ?_
  refine lv_aload_n hx hb dL_ofBand_2 rfl (lv_at hl 0 rfl) ?_
  refine lv_iload_n hx hb dL_ofBand_3 rfl (lv_at hl 1 rfl) ?_
  refine lv_iload_n hx hb dL_ofBand_4 rfl (lv_at hl 2 rfl) ?_
  refine vx_calli (A0 := fun y => A y ∨ y = q) (vx_runV (As := [.int a1, .int a2]) (rest := [.int 0, .ref q]) ⟨hx, hb, hml, hown, hts⟩ (mX6_ofBand l hfl D G A ad Z a1 a2 (.inr 2)  h) (cwV 2 hts gL_ofBand_X6_ofBand rfl rfl rfl (by decide +kernel) ⟨Nat.le_of_ble_eq_true rfl, Nat.le_of_ble_eq_true rfl⟩) (xg_preV hI hK hN hE va_S.rf rfl rfl (ci := 7) rfl) rfl rfl hl.1 rfl (lv_room (Nat.le_of_ble_eq_true rfl)) dL_ofBand_5 ⟨Nat.le_of_ble_eq_true rfl, Nat.le_of_ble_eq_true rfl⟩) hS (fun _ _ h => Or.inl h) (fun _ h => Or.inl h) (fun _ _ h => Or.inl h) (fun E ce q9 u t H1 locs1 ht hvm hp hB hz hk hS1 hce hcv hcl => ?_) (fun r9 u t H1 locs1 ht hvm hw hB hz hk hS1 => ?_)
  · have hq1 : va_at D vwCl (q, .inl (cJ, 1, .inr (.inl f))) H1 := hq.kept (hk q hq.lt hnq)
    obtain ⟨⟨c9, h9, h8⟩, hB⟩ := hB
    cases h9
    have hE9 : E = "java/lang/IllegalArgumentException" := h8.trans (by decide)
    subst hE9
    subst hp
    have hI1 := hB.1
    have hN1 := hB.2.1
    rw [ht] at hN1
    have hpass : ∀ z ∈ ([⟨0, 10, 13, 21⟩] : List ExceptionTableEntry), covers z 5 = false ∨ (z.catchType ≠ 0 ∧ ∃ nm : String, (Cond.classLink RL z.catchType nm).before (([.ref (ad 0 0), .int a1, .int a2, .ref q] : List Value).toArray) s = true ∧ va_Nc "java/lang/IllegalArgumentException" nm s) := by
      intro z hz
      simp only [List.mem_cons, List.not_mem_nil, or_false] at hz
      rcases hz with rfl
      · exact Or.inr ⟨by decide, _, l0, hNc _ (by decide) _ (by decide) (by decide)⟩
    refine vx_catch hown (name := "java/lang/IllegalArgumentException") [⟨0, 10, 13, 21⟩] ⟨0, 10, 17, 13⟩ [] htab hpass (by decide) (by decide) l1 (va_Nw.use rfl (hE.1.2 _ (by decide))) hce hcv hcl ?_
    refine lv_astore (lv' := [(4, .ref q9), (0, .ref (ad 0 0)), (1, .int a1), (2, .int a2), (3, .ref q)]) hx hb dL_ofBand_17 hl (by decide) rfl (fun ls hl => ?_)
    refine lv_iconst (v := 2) hx hb dL_ofBand_19 (by decide) ?_
    exact vx_ret (W.widen (k := 2) (n := 12) (by decide) (by decide) (W.iret hx hb hr (lg_end (P := fun _ => True) trivial rfl hI1 hK hN1 hq1 hS1) (fun z hz => hS1.2.2 z hz) dL_ofBand_20))
  · cases hw.1
def rmL_leaps : Room := { frames := 9, cells := 1, slots := 6, locals := 201 }
set_option maxHeartbeats 4000000 in
set_option maxRecDepth 100000 in
theorem mL_leaps (l : Launch) (hfl : l.stackTraces = false) (D : va_G) (G : CGT) (A : Nat → Prop) (ad : Nat → Nat → Nat) (Z : CZ) (cJ : ClassId) (q : Nat) (f : Nat → Int64) (a1 : Int32) (v : Int32) (Zz : CZ) (h : fX6_leaps a1 Z = some ((.inl v : Int32 ⊕ Int32), Zz)) : vx_Met l yL_leaps wsL_leaps rmL_leaps (va_Pc [.ref (ad 0 0), .int a1, .ref q] (lP D G A ad Z cJ q f)) (lQ D G A ad 0 Zz cJ q (fun f1 => f1 0 = v.toInt64)) (fun _ _ _ => False) 1 6 (fun y => A y ∨ y = q) := by
  refine vx_ofWH (cc := cL_leaps) (maxL := 4) (ret := some .int) (hh := [(0, 9, 12, 21)]) (by decide) rfl ?_
  intro p e s m args below meth c s₁ B hml hv
  obtain ⟨rfl, ⟨⟨⟨hI, hN, hK⟩, hE⟩, hF, hA⟩, hq, hKJ, hNc, hnq⟩ := hv
  have hx := B.exec
  have hb := B.bytes
  have hr := B.returns
  have hts := atoms_spec (ws := wsL_leaps) B.pre
  have hown : s.vm.findClass RL = some m.cls := findClass_of_methodNamed B.named
  have hlocks := B.notSynchronized
  have htab := vx_table (x := yL_leaps) B (hts _ (List.mem_cons_self))
  have hS : va_S (fun y => A y ∨ y = q) s.heap s.heap [] := va_S.rf
  have hl := lv_entry ([.ref (ad 0 0), .int a1, .ref q]) (n := 4) (Nat.le_of_ble_eq_true rfl)
  rw [lg_entry_eq]
  generalize (lg_sl ([.ref (ad 0 0), .int a1, .ref q]) ++ List.replicate (4 - (lg_sl ([.ref (ad 0 0), .int a1, .ref q])).length) Slot.unset).toArray = ls at hl ⊢
  have hl : lv_has ls 4 [(0, .ref (ad 0 0)), (1, .int a1), (2, .ref q)] := hl
  refine lv_aload_n hx hb dL_leaps_0 rfl (lv_at hl 2 rfl) ?_
  refine lv_iconst (v := 0) hx hb dL_leaps_1 (by decide) ?_
  refine lv_aload_n hx hb dL_leaps_2 rfl (lv_at hl 0 rfl) ?_
  refine lv_iload_n hx hb dL_leaps_3 rfl (lv_at hl 1 rfl) ?_
  refine vx_calli (A0 := fun y => A y ∨ y = q) (vx_runV (As := [.int a1]) (rest := [.int 0, .ref q]) ⟨hx, hb, hml, hown, hts⟩ (mX6_leaps l hfl D G A ad Z a1 (.inl v) Zz h) (cwV 1 hts gL_leaps_X6_leaps rfl rfl rfl (by decide +kernel) ⟨Nat.le_of_ble_eq_true rfl, Nat.le_of_ble_eq_true rfl⟩) (xg_preV hI hK hN hE va_S.rf rfl rfl (ci := 7) rfl) rfl rfl hl.1 rfl (lv_room (Nat.le_of_ble_eq_true rfl)) dL_leaps_4 ⟨Nat.le_of_ble_eq_true rfl, Nat.le_of_ble_eq_true rfl⟩) hS (fun _ _ h => Or.inl h) (fun _ h => Or.inl h) (fun _ _ h => Or.inl h) (fun E ce q9 u t H1 locs1 ht hvm hp hB hz hk hS1 hce hcv hcl => ?_) (fun r9 u t H1 locs1 ht hvm hw hB hz hk hS1 => ?_)
  · obtain ⟨⟨c9, h9, -⟩, -⟩ := hB
    cases h9
  · have hq1 : va_at D vwCl (q, .inl (cJ, 1, .inr (.inl f))) H1 := hq.kept (hk q hq.lt hnq)
    obtain ⟨h9, rfl⟩ := hw
    cases h9
    have h00 : ad 0 0 = ad 0 0 := rfl
    have hI1 := hB.1
    have hN1 := hB.2.1
    rw [ht] at hN1
    clear hB hk hz
    refine lv_i2l hx hb (v := v.toInt64) dL_leaps_7 rfl ?_
    refine lg_last hx hb hKJ hq1 hN1 hI1 hnq hS1 dL_leaps_8 (fun H2 locs2 hq1 hN1 hS1 => ?_)
    refine lv_goto (tgt := 15) hx hb dL_leaps_9 (by decide) ?_
    refine lv_iconst (v := 0) hx hb dL_leaps_15 (by decide) ?_
    exact vx_ret (W.widen (k := 1) (n := 6) (by decide) (by decide) (W.iret hx hb hr (lg_end (P := (fun f1 => f1 0 = v.toInt64)) (if_pos rfl) h00 hI1 hK hN1 hq1 hS1) (fun z hz => hS1.2.2 z hz) dL_leaps_16))
set_option maxHeartbeats 4000000 in
set_option maxRecDepth 100000 in
theorem mL_leaps_x1 (l : Launch) (hfl : l.stackTraces = false) (D : va_G) (G : CGT) (A : Nat → Prop) (ad : Nat → Nat → Nat) (Z : CZ) (cJ : ClassId) (q : Nat) (f : Nat → Int64) (a1 : Int32) (Zz : CZ) (h : fX6_leaps a1 Z = some ((.inr 1 : Int32 ⊕ Int32), Zz)) : vx_Met l yL_leaps wsL_leaps rmL_leaps (va_Pc [.ref (ad 0 0), .int a1, .ref q] (lP D G A ad Z cJ q f)) (lQ D G A ad 1 Zz cJ q (fun _ => True)) (fun _ _ _ => False) 1 6 (fun y => A y ∨ y = q) := by
  refine vx_ofWH (cc := cL_leaps) (maxL := 4) (ret := some .int) (hh := [(0, 9, 12, 21)]) (by decide) rfl ?_
  intro p e s m args below meth c s₁ B hml hv
  obtain ⟨rfl, ⟨⟨⟨hI, hN, hK⟩, hE⟩, hF, hA⟩, hq, hKJ, hNc, hnq⟩ := hv
  have hx := B.exec
  have hb := B.bytes
  have hr := B.returns
  have hts := atoms_spec (ws := wsL_leaps) B.pre
  have hown : s.vm.findClass RL = some m.cls := findClass_of_methodNamed B.named
  have hlocks := B.notSynchronized
  have l0 := hts (.classLink RL 21 "java/lang/IndexOutOfBoundsException") (List.mem_of_getElem? (i := 1) rfl)
  have htab := vx_table (x := yL_leaps) B (hts _ (List.mem_cons_self))
  have hS : va_S (fun y => A y ∨ y = q) s.heap s.heap [] := va_S.rf
  have hl := lv_entry ([.ref (ad 0 0), .int a1, .ref q]) (n := 4) (Nat.le_of_ble_eq_true rfl)
  rw [lg_entry_eq]
  generalize (lg_sl ([.ref (ad 0 0), .int a1, .ref q]) ++ List.replicate (4 - (lg_sl ([.ref (ad 0 0), .int a1, .ref q])).length) Slot.unset).toArray = ls at hl ⊢
  have hl : lv_has ls 4 [(0, .ref (ad 0 0)), (1, .int a1), (2, .ref q)] := hl
  refine lv_aload_n hx hb dL_leaps_0 rfl (lv_at hl 2 rfl) ?_
  refine lv_iconst (v := 0) hx hb dL_leaps_1 (by decide) ?_
  refine lv_aload_n hx hb dL_leaps_2 rfl (lv_at hl 0 rfl) ?_
  refine lv_iload_n hx hb dL_leaps_3 rfl (lv_at hl 1 rfl) ?_
  refine vx_calli (A0 := fun y => A y ∨ y = q) (vx_runV (As := [.int a1]) (rest := [.int 0, .ref q]) ⟨hx, hb, hml, hown, hts⟩ (mX6_leaps l hfl D G A ad Z a1 (.inr 1) Zz h) (cwV 1 hts gL_leaps_X6_leaps rfl rfl rfl (by decide +kernel) ⟨Nat.le_of_ble_eq_true rfl, Nat.le_of_ble_eq_true rfl⟩) (xg_preV hI hK hN hE va_S.rf rfl rfl (ci := 7) rfl) rfl rfl hl.1 rfl (lv_room (Nat.le_of_ble_eq_true rfl)) dL_leaps_4 ⟨Nat.le_of_ble_eq_true rfl, Nat.le_of_ble_eq_true rfl⟩) hS (fun _ _ h => Or.inl h) (fun _ h => Or.inl h) (fun _ _ h => Or.inl h) (fun E ce q9 u t H1 locs1 ht hvm hp hB hz hk hS1 hce hcv hcl => ?_) (fun r9 u t H1 locs1 ht hvm hw hB hz hk hS1 => ?_)
  · have hq1 : va_at D vwCl (q, .inl (cJ, 1, .inr (.inl f))) H1 := hq.kept (hk q hq.lt hnq)
    obtain ⟨⟨c9, h9, h8⟩, hB⟩ := hB
    cases h9
    have hE9 : E = "java/lang/IndexOutOfBoundsException" := h8.trans (by decide)
    subst hE9
    subst hp
    have hI1 := hB.1
    have hN1 := hB.2.1
    rw [ht] at hN1
    refine vx_catch hown (name := "java/lang/IndexOutOfBoundsException") [] ⟨0, 9, 12, 21⟩ [] htab (fun z hz => by simp at hz) (by decide) (by decide) l0 (va_Nw.use rfl (hE.1.2 _ (by decide))) hce hcv hcl ?_
    refine lv_astore_n (lv' := [(3, .ref q9), (0, .ref (ad 0 0)), (1, .int a1), (2, .ref q)]) hx hb dL_leaps_12 rfl hl (by decide) rfl (fun ls hl => ?_)
    refine lv_iconst (v := 1) hx hb dL_leaps_13 (by decide) ?_
    exact vx_ret (W.widen (k := 1) (n := 6) (by decide) (by decide) (W.iret hx hb hr (lg_end (P := fun _ => True) trivial rfl hI1 hK hN1 hq1 hS1) (fun z hz => hS1.2.2 z hz) dL_leaps_14))
  · cases hw.1
def rmL_part : Room := { frames := 9, cells := 2, slots := 12, locals := 203 }
set_option maxHeartbeats 4000000 in
set_option maxRecDepth 100000 in
theorem mL_part (l : Launch) (hfl : l.stackTraces = false) (D : va_G) (G : CGT) (A : Nat → Prop) (ad : Nat → Nat → Nat) (Z : CZ) (cJ : ClassId) (q : Nat) (f : Nat → Int64) (a1 : Int32) (a2 : Int32) (v : Int32) (Zz : CZ) (h : fX6_part a1 a2 Z = some ((.inl v : Int32 ⊕ Int32), Zz)) : vx_Met l yL_part wsL_part rmL_part (va_Pc [.ref (ad 0 0), .int a1, .int a2, .ref q] (lP D G A ad Z cJ q f)) (lQ D G A ad 0 Zz cJ q (fun f1 => f1 0 = v.toInt64)) (fun _ _ _ => False) 2 12 (fun y => A y ∨ y = q) := by
  refine vx_ofWH (cc := cL_part) (maxL := 5) (ret := some .int) (hh := [(0, 10, 13, 21)]) (by decide) rfl ?_
  intro p e s m args below meth c s₁ B hml hv
  obtain ⟨rfl, ⟨⟨⟨hI, hN, hK⟩, hE⟩, hF, hA⟩, hq, hKJ, hNc, hnq⟩ := hv
  have hx := B.exec
  have hb := B.bytes
  have hr := B.returns
  have hts := atoms_spec (ws := wsL_part) B.pre
  have hown : s.vm.findClass RL = some m.cls := findClass_of_methodNamed B.named
  have hlocks := B.notSynchronized
  have htab := vx_table (x := yL_part) B (hts _ (List.mem_cons_self))
  have hS : va_S (fun y => A y ∨ y = q) s.heap s.heap [] := va_S.rf
  have hl := lv_entry ([.ref (ad 0 0), .int a1, .int a2, .ref q]) (n := 5) (Nat.le_of_ble_eq_true rfl)
  rw [lg_entry_eq]
  generalize (lg_sl ([.ref (ad 0 0), .int a1, .int a2, .ref q]) ++ List.replicate (5 - (lg_sl ([.ref (ad 0 0), .int a1, .int a2, .ref q])).length) Slot.unset).toArray = ls at hl ⊢
  have hl : lv_has ls 5 [(0, .ref (ad 0 0)), (1, .int a1), (2, .int a2), (3, .ref q)] := hl
  refine lv_aload_n hx hb dL_part_0 rfl (lv_at hl 3 rfl) ?_
  refine lv_iconst (v := 0) hx hb dL_part_1 (by decide) ?_
  refine lv_aload_n hx hb dL_part_2 rfl (lv_at hl 0 rfl) ?_
  refine lv_iload_n hx hb dL_part_3 rfl (lv_at hl 1 rfl) ?_
  refine lv_iload_n hx hb dL_part_4 rfl (lv_at hl 2 rfl) ?_
  refine vx_calli (A0 := fun y => A y ∨ y = q) (vx_runV (As := [.int a1, .int a2]) (rest := [.int 0, .ref q]) ⟨hx, hb, hml, hown, hts⟩ (mX6_part l hfl D G A ad Z a1 a2 (.inl v) Zz h) (cwV 2 hts gL_part_X6_part rfl rfl rfl (by decide +kernel) ⟨Nat.le_of_ble_eq_true rfl, Nat.le_of_ble_eq_true rfl⟩) (xg_preV hI hK hN hE va_S.rf rfl rfl (ci := 7) rfl) rfl rfl hl.1 rfl (lv_room (Nat.le_of_ble_eq_true rfl)) dL_part_5 ⟨Nat.le_of_ble_eq_true rfl, Nat.le_of_ble_eq_true rfl⟩) hS (fun _ _ h => Or.inl h) (fun _ h => Or.inl h) (fun _ _ h => Or.inl h) (fun E ce q9 u t H1 locs1 ht hvm hp hB hz hk hS1 hce hcv hcl => ?_) (fun r9 u t H1 locs1 ht hvm hw hB hz hk hS1 => ?_)
  · obtain ⟨⟨c9, h9, -⟩, -⟩ := hB
    cases h9
  · have hq1 : va_at D vwCl (q, .inl (cJ, 1, .inr (.inl f))) H1 := hq.kept (hk q hq.lt hnq)
    obtain ⟨h9, rfl⟩ := hw
    cases h9
    have h00 : ad 0 0 = ad 0 0 := rfl
    have hI1 := hB.1
    have hN1 := hB.2.1
    rw [ht] at hN1
    clear hB hk hz
    refine lv_i2l hx hb (v := v.toInt64) dL_part_8 rfl ?_
    refine lg_last hx hb hKJ hq1 hN1 hI1 hnq hS1 dL_part_9 (fun H2 locs2 hq1 hN1 hS1 => ?_)
    refine lv_goto (tgt := 17) hx hb dL_part_10 (by decide) ?_
    refine lv_iconst (v := 0) hx hb dL_part_17 (by decide) ?_
    exact vx_ret (W.widen (k := 2) (n := 12) (by decide) (by decide) (W.iret hx hb hr (lg_end (P := (fun f1 => f1 0 = v.toInt64)) (if_pos rfl) h00 hI1 hK hN1 hq1 hS1) (fun z hz => hS1.2.2 z hz) dL_part_18))
set_option maxHeartbeats 4000000 in
set_option maxRecDepth 100000 in
theorem mL_part_x1 (l : Launch) (hfl : l.stackTraces = false) (D : va_G) (G : CGT) (A : Nat → Prop) (ad : Nat → Nat → Nat) (Z : CZ) (cJ : ClassId) (q : Nat) (f : Nat → Int64) (a1 : Int32) (a2 : Int32) (Zz : CZ) (h : fX6_part a1 a2 Z = some ((.inr 1 : Int32 ⊕ Int32), Zz)) : vx_Met l yL_part wsL_part rmL_part (va_Pc [.ref (ad 0 0), .int a1, .int a2, .ref q] (lP D G A ad Z cJ q f)) (lQ D G A ad 1 Zz cJ q (fun _ => True)) (fun _ _ _ => False) 2 12 (fun y => A y ∨ y = q) := by
  refine vx_ofWH (cc := cL_part) (maxL := 5) (ret := some .int) (hh := [(0, 10, 13, 21)]) (by decide) rfl ?_
  intro p e s m args below meth c s₁ B hml hv
  obtain ⟨rfl, ⟨⟨⟨hI, hN, hK⟩, hE⟩, hF, hA⟩, hq, hKJ, hNc, hnq⟩ := hv
  have hx := B.exec
  have hb := B.bytes
  have hr := B.returns
  have hts := atoms_spec (ws := wsL_part) B.pre
  have hown : s.vm.findClass RL = some m.cls := findClass_of_methodNamed B.named
  have hlocks := B.notSynchronized
  have l0 := hts (.classLink RL 21 "java/lang/IndexOutOfBoundsException") (List.mem_of_getElem? (i := 1) rfl)
  have htab := vx_table (x := yL_part) B (hts _ (List.mem_cons_self))
  have hS : va_S (fun y => A y ∨ y = q) s.heap s.heap [] := va_S.rf
  have hl := lv_entry ([.ref (ad 0 0), .int a1, .int a2, .ref q]) (n := 5) (Nat.le_of_ble_eq_true rfl)
  rw [lg_entry_eq]
  generalize (lg_sl ([.ref (ad 0 0), .int a1, .int a2, .ref q]) ++ List.replicate (5 - (lg_sl ([.ref (ad 0 0), .int a1, .int a2, .ref q])).length) Slot.unset).toArray = ls at hl ⊢
  have hl : lv_has ls 5 [(0, .ref (ad 0 0)), (1, .int a1), (2, .int a2), (3, .ref q)] := hl
  refine lv_aload_n hx hb dL_part_0 rfl (lv_at hl 3 rfl) ?_
  refine lv_iconst (v := 0) hx hb dL_part_1 (by decide) ?_
  refine lv_aload_n hx hb dL_part_2 rfl (lv_at hl 0 rfl) ?_
  refine lv_iload_n hx hb dL_part_3 rfl (lv_at hl 1 rfl) ?_
  refine lv_iload_n hx hb dL_part_4 rfl (lv_at hl 2 rfl) ?_
  refine vx_calli (A0 := fun y => A y ∨ y = q) (vx_runV (As := [.int a1, .int a2]) (rest := [.int 0, .ref q]) ⟨hx, hb, hml, hown, hts⟩ (mX6_part l hfl D G A ad Z a1 a2 (.inr 1) Zz h) (cwV 2 hts gL_part_X6_part rfl rfl rfl (by decide +kernel) ⟨Nat.le_of_ble_eq_true rfl, Nat.le_of_ble_eq_true rfl⟩) (xg_preV hI hK hN hE va_S.rf rfl rfl (ci := 7) rfl) rfl rfl hl.1 rfl (lv_room (Nat.le_of_ble_eq_true rfl)) dL_part_5 ⟨Nat.le_of_ble_eq_true rfl, Nat.le_of_ble_eq_true rfl⟩) hS (fun _ _ h => Or.inl h) (fun _ h => Or.inl h) (fun _ _ h => Or.inl h) (fun E ce q9 u t H1 locs1 ht hvm hp hB hz hk hS1 hce hcv hcl => ?_) (fun r9 u t H1 locs1 ht hvm hw hB hz hk hS1 => ?_)
  · have hq1 : va_at D vwCl (q, .inl (cJ, 1, .inr (.inl f))) H1 := hq.kept (hk q hq.lt hnq)
    obtain ⟨⟨c9, h9, h8⟩, hB⟩ := hB
    cases h9
    have hE9 : E = "java/lang/IndexOutOfBoundsException" := h8.trans (by decide)
    subst hE9
    subst hp
    have hI1 := hB.1
    have hN1 := hB.2.1
    rw [ht] at hN1
    refine vx_catch hown (name := "java/lang/IndexOutOfBoundsException") [] ⟨0, 10, 13, 21⟩ [] htab (fun z hz => by simp at hz) (by decide) (by decide) l0 (va_Nw.use rfl (hE.1.2 _ (by decide))) hce hcv hcl ?_
    refine lv_astore (lv' := [(4, .ref q9), (0, .ref (ad 0 0)), (1, .int a1), (2, .int a2), (3, .ref q)]) hx hb dL_part_13 hl (by decide) rfl (fun ls hl => ?_)
    refine lv_iconst (v := 1) hx hb dL_part_15 (by decide) ?_
    exact vx_ret (W.widen (k := 2) (n := 12) (by decide) (by decide) (W.iret hx hb hr (lg_end (P := fun _ => True) trivial rfl hI1 hK hN1 hq1 hS1) (fun z hz => hS1.2.2 z hz) dL_part_16))
  · cases hw.1
def rmL_without : Room := { frames := 9, cells := 2, slots := 12, locals := 203 }
set_option maxHeartbeats 4000000 in
set_option maxRecDepth 100000 in
theorem mL_without (l : Launch) (hfl : l.stackTraces = false) (D : va_G) (G : CGT) (A : Nat → Prop) (ad : Nat → Nat → Nat) (Z : CZ) (cJ : ClassId) (q : Nat) (f : Nat → Int64) (a1 : Int32) (a2 : Int32) (v : Int32) (Zz : CZ) (h : fX6_without a1 a2 Z = some ((.inl v : Int32 ⊕ Int32), Zz)) : vx_Met l yL_without wsL_without rmL_without (va_Pc [.ref (ad 0 0), .int a1, .int a2, .ref q] (lP D G A ad Z cJ q f)) (lQ D G A ad 0 Zz cJ q (fun f1 => f1 0 = v.toInt64)) (fun _ _ _ => False) 2 12 (fun y => A y ∨ y = q) := by
  refine vx_ofWH (cc := cL_without) (maxL := 5) (ret := some .int) (hh := [(0, 10, 13, 21)]) (by decide) rfl ?_
  intro p e s m args below meth c s₁ B hml hv
  obtain ⟨rfl, ⟨⟨⟨hI, hN, hK⟩, hE⟩, hF, hA⟩, hq, hKJ, hNc, hnq⟩ := hv
  have hx := B.exec
  have hb := B.bytes
  have hr := B.returns
  have hts := atoms_spec (ws := wsL_without) B.pre
  have hown : s.vm.findClass RL = some m.cls := findClass_of_methodNamed B.named
  have hlocks := B.notSynchronized
  have htab := vx_table (x := yL_without) B (hts _ (List.mem_cons_self))
  have hS : va_S (fun y => A y ∨ y = q) s.heap s.heap [] := va_S.rf
  have hl := lv_entry ([.ref (ad 0 0), .int a1, .int a2, .ref q]) (n := 5) (Nat.le_of_ble_eq_true rfl)
  rw [lg_entry_eq]
  generalize (lg_sl ([.ref (ad 0 0), .int a1, .int a2, .ref q]) ++ List.replicate (5 - (lg_sl ([.ref (ad 0 0), .int a1, .int a2, .ref q])).length) Slot.unset).toArray = ls at hl ⊢
  have hl : lv_has ls 5 [(0, .ref (ad 0 0)), (1, .int a1), (2, .int a2), (3, .ref q)] := hl
  refine lv_aload_n hx hb dL_without_0 rfl (lv_at hl 3 rfl) ?_
  refine lv_iconst (v := 0) hx hb dL_without_1 (by decide) ?_
  refine lv_aload_n hx hb dL_without_2 rfl (lv_at hl 0 rfl) ?_
  refine lv_iload_n hx hb dL_without_3 rfl (lv_at hl 1 rfl) ?_
  refine lv_iload_n hx hb dL_without_4 rfl (lv_at hl 2 rfl) ?_
  refine vx_calli (A0 := fun y => A y ∨ y = q) (vx_runV (As := [.int a1, .int a2]) (rest := [.int 0, .ref q]) ⟨hx, hb, hml, hown, hts⟩ (mX6_without l hfl D G A ad Z a1 a2 (.inl v) Zz h) (cwV 2 hts gL_without_X6_without rfl rfl rfl (by decide +kernel) ⟨Nat.le_of_ble_eq_true rfl, Nat.le_of_ble_eq_true rfl⟩) (xg_preV hI hK hN hE va_S.rf rfl rfl (ci := 7) rfl) rfl rfl hl.1 rfl (lv_room (Nat.le_of_ble_eq_true rfl)) dL_without_5 ⟨Nat.le_of_ble_eq_true rfl, Nat.le_of_ble_eq_true rfl⟩) hS (fun _ _ h => Or.inl h) (fun _ h => Or.inl h) (fun _ _ h => Or.inl h) (fun E ce q9 u t H1 locs1 ht hvm hp hB hz hk hS1 hce hcv hcl => ?_) (fun r9 u t H1 locs1 ht hvm hw hB hz hk hS1 => ?_)
  · obtain ⟨⟨c9, h9, -⟩, -⟩ := hB
    cases h9
  · have hq1 : va_at D vwCl (q, .inl (cJ, 1, .inr (.inl f))) H1 := hq.kept (hk q hq.lt hnq)
    obtain ⟨h9, rfl⟩ := hw
    cases h9
    have h00 : ad 0 0 = ad 0 0 := rfl
    have hI1 := hB.1
    have hN1 := hB.2.1
    rw [ht] at hN1
    clear hB hk hz
    refine lv_i2l hx hb (v := v.toInt64) dL_without_8 rfl ?_
    refine lg_last hx hb hKJ hq1 hN1 hI1 hnq hS1 dL_without_9 (fun H2 locs2 hq1 hN1 hS1 => ?_)
    refine lv_goto (tgt := 17) hx hb dL_without_10 (by decide) ?_
    refine lv_iconst (v := 0) hx hb dL_without_17 (by decide) ?_
    exact vx_ret (W.widen (k := 2) (n := 12) (by decide) (by decide) (W.iret hx hb hr (lg_end (P := (fun f1 => f1 0 = v.toInt64)) (if_pos rfl) h00 hI1 hK hN1 hq1 hS1) (fun z hz => hS1.2.2 z hz) dL_without_18))
set_option maxHeartbeats 4000000 in
set_option maxRecDepth 100000 in
theorem mL_without_x1 (l : Launch) (hfl : l.stackTraces = false) (D : va_G) (G : CGT) (A : Nat → Prop) (ad : Nat → Nat → Nat) (Z : CZ) (cJ : ClassId) (q : Nat) (f : Nat → Int64) (a1 : Int32) (a2 : Int32) (Zz : CZ) (h : fX6_without a1 a2 Z = some ((.inr 1 : Int32 ⊕ Int32), Zz)) : vx_Met l yL_without wsL_without rmL_without (va_Pc [.ref (ad 0 0), .int a1, .int a2, .ref q] (lP D G A ad Z cJ q f)) (lQ D G A ad 1 Zz cJ q (fun _ => True)) (fun _ _ _ => False) 2 12 (fun y => A y ∨ y = q) := by
  refine vx_ofWH (cc := cL_without) (maxL := 5) (ret := some .int) (hh := [(0, 10, 13, 21)]) (by decide) rfl ?_
  intro p e s m args below meth c s₁ B hml hv
  obtain ⟨rfl, ⟨⟨⟨hI, hN, hK⟩, hE⟩, hF, hA⟩, hq, hKJ, hNc, hnq⟩ := hv
  have hx := B.exec
  have hb := B.bytes
  have hr := B.returns
  have hts := atoms_spec (ws := wsL_without) B.pre
  have hown : s.vm.findClass RL = some m.cls := findClass_of_methodNamed B.named
  have hlocks := B.notSynchronized
  have l0 := hts (.classLink RL 21 "java/lang/IndexOutOfBoundsException") (List.mem_of_getElem? (i := 1) rfl)
  have htab := vx_table (x := yL_without) B (hts _ (List.mem_cons_self))
  have hS : va_S (fun y => A y ∨ y = q) s.heap s.heap [] := va_S.rf
  have hl := lv_entry ([.ref (ad 0 0), .int a1, .int a2, .ref q]) (n := 5) (Nat.le_of_ble_eq_true rfl)
  rw [lg_entry_eq]
  generalize (lg_sl ([.ref (ad 0 0), .int a1, .int a2, .ref q]) ++ List.replicate (5 - (lg_sl ([.ref (ad 0 0), .int a1, .int a2, .ref q])).length) Slot.unset).toArray = ls at hl ⊢
  have hl : lv_has ls 5 [(0, .ref (ad 0 0)), (1, .int a1), (2, .int a2), (3, .ref q)] := hl
  refine lv_aload_n hx hb dL_without_0 rfl (lv_at hl 3 rfl) ?_
  refine lv_iconst (v := 0) hx hb dL_without_1 (by decide) ?_
  refine lv_aload_n hx hb dL_without_2 rfl (lv_at hl 0 rfl) ?_
  refine lv_iload_n hx hb dL_without_3 rfl (lv_at hl 1 rfl) ?_
  refine lv_iload_n hx hb dL_without_4 rfl (lv_at hl 2 rfl) ?_
  refine vx_calli (A0 := fun y => A y ∨ y = q) (vx_runV (As := [.int a1, .int a2]) (rest := [.int 0, .ref q]) ⟨hx, hb, hml, hown, hts⟩ (mX6_without l hfl D G A ad Z a1 a2 (.inr 1) Zz h) (cwV 2 hts gL_without_X6_without rfl rfl rfl (by decide +kernel) ⟨Nat.le_of_ble_eq_true rfl, Nat.le_of_ble_eq_true rfl⟩) (xg_preV hI hK hN hE va_S.rf rfl rfl (ci := 7) rfl) rfl rfl hl.1 rfl (lv_room (Nat.le_of_ble_eq_true rfl)) dL_without_5 ⟨Nat.le_of_ble_eq_true rfl, Nat.le_of_ble_eq_true rfl⟩) hS (fun _ _ h => Or.inl h) (fun _ h => Or.inl h) (fun _ _ h => Or.inl h) (fun E ce q9 u t H1 locs1 ht hvm hp hB hz hk hS1 hce hcv hcl => ?_) (fun r9 u t H1 locs1 ht hvm hw hB hz hk hS1 => ?_)
  · have hq1 : va_at D vwCl (q, .inl (cJ, 1, .inr (.inl f))) H1 := hq.kept (hk q hq.lt hnq)
    obtain ⟨⟨c9, h9, h8⟩, hB⟩ := hB
    cases h9
    have hE9 : E = "java/lang/IndexOutOfBoundsException" := h8.trans (by decide)
    subst hE9
    subst hp
    have hI1 := hB.1
    have hN1 := hB.2.1
    rw [ht] at hN1
    refine vx_catch hown (name := "java/lang/IndexOutOfBoundsException") [] ⟨0, 10, 13, 21⟩ [] htab (fun z hz => by simp at hz) (by decide) (by decide) l0 (va_Nw.use rfl (hE.1.2 _ (by decide))) hce hcv hcl ?_
    refine lv_astore (lv' := [(4, .ref q9), (0, .ref (ad 0 0)), (1, .int a1), (2, .int a2), (3, .ref q)]) hx hb dL_without_13 hl (by decide) rfl (fun ls hl => ?_)
    refine lv_iconst (v := 1) hx hb dL_without_15 (by decide) ?_
    exact vx_ret (W.widen (k := 2) (n := 12) (by decide) (by decide) (W.iret hx hb hr (lg_end (P := fun _ => True) trivial rfl hI1 hK hN1 hq1 hS1) (fun z hz => hS1.2.2 z hz) dL_without_16))
  · cases hw.1
def rmL_perform : Room := { frames := 9, cells := 4, slots := 24, locals := 204 }
set_option maxHeartbeats 4000000 in
set_option maxRecDepth 100000 in
theorem mL_perform (l : Launch) (hfl : l.stackTraces = false) (D : va_G) (G : CGT) (A : Nat → Prop) (ad : Nat → Nat → Nat) (Z : CZ) (cJ : ClassId) (q : Nat) (f : Nat → Int64) (a1 : Int32) (a2 : Int32) (v : Int32) (Zz : CZ) (h : fX6_perform a1 a2 Z = some ((.inl v : Int32 ⊕ Int32), Zz)) : vx_Met l yL_perform wsL_perform rmL_perform (va_Pc [.ref (ad 0 0), .int a1, .int a2, .ref q] (lP D G A ad Z cJ q f)) (lQ D G A ad 0 Zz cJ q (fun f1 => f1 0 = v.toInt64)) (fun _ _ _ => False) 4 24 (fun y => A y ∨ y = q) := by
  refine vx_ofWH (cc := cL_perform) (maxL := 5) (ret := some .int) (hh := [(0, 10, 13, 21), (0, 10, 17, 13), (0, 10, 21, 15)]) (by decide) rfl ?_
  intro p e s m args below meth c s₁ B hml hv
  obtain ⟨rfl, ⟨⟨⟨hI, hN, hK⟩, hE⟩, hF, hA⟩, hq, hKJ, hNc, hnq⟩ := hv
  have hx := B.exec
  have hb := B.bytes
  have hr := B.returns
  have hts := atoms_spec (ws := wsL_perform) B.pre
  have hown : s.vm.findClass RL = some m.cls := findClass_of_methodNamed B.named
  have hlocks := B.notSynchronized
  have htab := vx_table (x := yL_perform) B (hts _ (List.mem_cons_self))
  have hS : va_S (fun y => A y ∨ y = q) s.heap s.heap [] := va_S.rf
  have hl := lv_entry ([.ref (ad 0 0), .int a1, .int a2, .ref q]) (n := 5) (Nat.le_of_ble_eq_true rfl)
  rw [lg_entry_eq]
  generalize (lg_sl ([.ref (ad 0 0), .int a1, .int a2, .ref q]) ++ List.replicate (5 - (lg_sl ([.ref (ad 0 0), .int a1, .int a2, .ref q])).length) Slot.unset).toArray = ls at hl ⊢
  have hl : lv_has ls 5 [(0, .ref (ad 0 0)), (1, .int a1), (2, .int a2), (3, .ref q)] := hl
  refine lv_aload_n hx hb dL_perform_0 rfl (lv_at hl 3 rfl) ?_
  refine lv_iconst (v := 0) hx hb dL_perform_1 (by decide) ?_
  refine lv_aload_n hx hb dL_perform_2 rfl (lv_at hl 0 rfl) ?_
  refine lv_iload_n hx hb dL_perform_3 rfl (lv_at hl 1 rfl) ?_
  refine lv_iload_n hx hb dL_perform_4 rfl (lv_at hl 2 rfl) ?_
  refine vx_calli (A0 := fun y => A y ∨ y = q) (vx_runV (As := [.int a1, .int a2]) (rest := [.int 0, .ref q]) ⟨hx, hb, hml, hown, hts⟩ (mX6_perform l hfl D G A ad Z a1 a2 (.inl v) Zz h) (cwV 2 hts gL_perform_X6_perform rfl rfl rfl (by decide +kernel) ⟨Nat.le_of_ble_eq_true rfl, Nat.le_of_ble_eq_true rfl⟩) (xg_preV hI hK hN hE va_S.rf rfl rfl (ci := 7) rfl) rfl rfl hl.1 rfl (lv_room (Nat.le_of_ble_eq_true rfl)) dL_perform_5 ⟨Nat.le_of_ble_eq_true rfl, Nat.le_of_ble_eq_true rfl⟩) hS (fun _ _ h => Or.inl h) (fun _ h => Or.inl h) (fun _ _ h => Or.inl h) (fun E ce q9 u t H1 locs1 ht hvm hp hB hz hk hS1 hce hcv hcl => ?_) (fun r9 u t H1 locs1 ht hvm hw hB hz hk hS1 => ?_)
  · obtain ⟨⟨c9, h9, -⟩, -⟩ := hB
    cases h9
  · have hq1 : va_at D vwCl (q, .inl (cJ, 1, .inr (.inl f))) H1 := hq.kept (hk q hq.lt hnq)
    obtain ⟨h9, rfl⟩ := hw
    cases h9
    have h00 : ad 0 0 = ad 0 0 := rfl
    have hI1 := hB.1
    have hN1 := hB.2.1
    rw [ht] at hN1
    clear hB hk hz
    refine lv_i2l hx hb (v := v.toInt64) dL_perform_8 rfl ?_
    refine lg_last hx hb hKJ hq1 hN1 hI1 hnq hS1 dL_perform_9 (fun H2 locs2 hq1 hN1 hS1 => ?_)
    refine lv_goto (tgt := 25) hx hb dL_perform_10 (by decide) ?_
    refine lv_iconst (v := 0) hx hb dL_perform_25 (by decide) ?_
    exact vx_ret (W.widen (k := 4) (n := 24) (by decide) (by decide) (W.iret hx hb hr (lg_end (P := (fun f1 => f1 0 = v.toInt64)) (if_pos rfl) h00 hI1 hK hN1 hq1 hS1) (fun z hz => hS1.2.2 z hz) dL_perform_26))
set_option maxHeartbeats 4000000 in
set_option maxRecDepth 100000 in
theorem mL_perform_x1 (l : Launch) (hfl : l.stackTraces = false) (D : va_G) (G : CGT) (A : Nat → Prop) (ad : Nat → Nat → Nat) (Z : CZ) (cJ : ClassId) (q : Nat) (f : Nat → Int64) (a1 : Int32) (a2 : Int32) (Zz : CZ) (h : fX6_perform a1 a2 Z = some ((.inr 1 : Int32 ⊕ Int32), Zz)) : vx_Met l yL_perform wsL_perform rmL_perform (va_Pc [.ref (ad 0 0), .int a1, .int a2, .ref q] (lP D G A ad Z cJ q f)) (lQ D G A ad 1 Zz cJ q (fun _ => True)) (fun _ _ _ => False) 4 24 (fun y => A y ∨ y = q) := by
  refine vx_ofWH (cc := cL_perform) (maxL := 5) (ret := some .int) (hh := [(0, 10, 13, 21), (0, 10, 17, 13), (0, 10, 21, 15)]) (by decide) rfl ?_
  intro p e s m args below meth c s₁ B hml hv
  obtain ⟨rfl, ⟨⟨⟨hI, hN, hK⟩, hE⟩, hF, hA⟩, hq, hKJ, hNc, hnq⟩ := hv
  have hx := B.exec
  have hb := B.bytes
  have hr := B.returns
  have hts := atoms_spec (ws := wsL_perform) B.pre
  have hown : s.vm.findClass RL = some m.cls := findClass_of_methodNamed B.named
  have hlocks := B.notSynchronized
  have l0 := hts (.classLink RL 21 "java/lang/IndexOutOfBoundsException") (List.mem_of_getElem? (i := 1) rfl)
  have htab := vx_table (x := yL_perform) B (hts _ (List.mem_cons_self))
  have hS : va_S (fun y => A y ∨ y = q) s.heap s.heap [] := va_S.rf
  have hl := lv_entry ([.ref (ad 0 0), .int a1, .int a2, .ref q]) (n := 5) (Nat.le_of_ble_eq_true rfl)
  rw [lg_entry_eq]
  generalize (lg_sl ([.ref (ad 0 0), .int a1, .int a2, .ref q]) ++ List.replicate (5 - (lg_sl ([.ref (ad 0 0), .int a1, .int a2, .ref q])).length) Slot.unset).toArray = ls at hl ⊢
  have hl : lv_has ls 5 [(0, .ref (ad 0 0)), (1, .int a1), (2, .int a2), (3, .ref q)] := hl
  refine lv_aload_n hx hb dL_perform_0 rfl (lv_at hl 3 rfl) ?_
  refine lv_iconst (v := 0) hx hb dL_perform_1 (by decide) ?_
  refine lv_aload_n hx hb dL_perform_2 rfl (lv_at hl 0 rfl) ?_
  refine lv_iload_n hx hb dL_perform_3 rfl (lv_at hl 1 rfl) ?_
  refine lv_iload_n hx hb dL_perform_4 rfl (lv_at hl 2 rfl) ?_
  refine vx_calli (A0 := fun y => A y ∨ y = q) (vx_runV (As := [.int a1, .int a2]) (rest := [.int 0, .ref q]) ⟨hx, hb, hml, hown, hts⟩ (mX6_perform l hfl D G A ad Z a1 a2 (.inr 1) Zz h) (cwV 2 hts gL_perform_X6_perform rfl rfl rfl (by decide +kernel) ⟨Nat.le_of_ble_eq_true rfl, Nat.le_of_ble_eq_true rfl⟩) (xg_preV hI hK hN hE va_S.rf rfl rfl (ci := 7) rfl) rfl rfl hl.1 rfl (lv_room (Nat.le_of_ble_eq_true rfl)) dL_perform_5 ⟨Nat.le_of_ble_eq_true rfl, Nat.le_of_ble_eq_true rfl⟩) hS (fun _ _ h => Or.inl h) (fun _ h => Or.inl h) (fun _ _ h => Or.inl h) (fun E ce q9 u t H1 locs1 ht hvm hp hB hz hk hS1 hce hcv hcl => ?_) (fun r9 u t H1 locs1 ht hvm hw hB hz hk hS1 => ?_)
  · have hq1 : va_at D vwCl (q, .inl (cJ, 1, .inr (.inl f))) H1 := hq.kept (hk q hq.lt hnq)
    obtain ⟨⟨c9, h9, h8⟩, hB⟩ := hB
    cases h9
    have hE9 : E = "java/lang/IndexOutOfBoundsException" := h8.trans (by decide)
    subst hE9
    subst hp
    have hI1 := hB.1
    have hN1 := hB.2.1
    rw [ht] at hN1
    refine vx_catch hown (name := "java/lang/IndexOutOfBoundsException") [] ⟨0, 10, 13, 21⟩ [⟨0, 10, 17, 13⟩, ⟨0, 10, 21, 15⟩] htab (fun z hz => by simp at hz) (by decide) (by decide) l0 (va_Nw.use rfl (hE.1.2 _ (by decide))) hce hcv hcl ?_
    refine lv_astore (lv' := [(4, .ref q9), (0, .ref (ad 0 0)), (1, .int a1), (2, .int a2), (3, .ref q)]) hx hb dL_perform_13 hl (by decide) rfl (fun ls hl => ?_)
    refine lv_iconst (v := 1) hx hb dL_perform_15 (by decide) ?_
    exact vx_ret (W.widen (k := 4) (n := 24) (by decide) (by decide) (W.iret hx hb hr (lg_end (P := fun _ => True) trivial rfl hI1 hK hN1 hq1 hS1) (fun z hz => hS1.2.2 z hz) dL_perform_16))
  · cases hw.1
set_option maxHeartbeats 4000000 in
set_option maxRecDepth 100000 in
theorem mL_perform_x2 (l : Launch) (hfl : l.stackTraces = false) (D : va_G) (G : CGT) (A : Nat → Prop) (ad : Nat → Nat → Nat) (Z : CZ) (cJ : ClassId) (q : Nat) (f : Nat → Int64) (a1 : Int32) (a2 : Int32) (Zz : CZ) (h : fX6_perform a1 a2 Z = some ((.inr 2 : Int32 ⊕ Int32), Zz)) : vx_Met l yL_perform wsL_perform rmL_perform (va_Pc [.ref (ad 0 0), .int a1, .int a2, .ref q] (lP D G A ad Z cJ q f)) (lQ D G A ad 2 Zz cJ q (fun _ => True)) (fun _ _ _ => False) 4 24 (fun y => A y ∨ y = q) := by
  refine vx_ofWH (cc := cL_perform) (maxL := 5) (ret := some .int) (hh := [(0, 10, 13, 21), (0, 10, 17, 13), (0, 10, 21, 15)]) (by decide) rfl ?_
  intro p e s m args below meth c s₁ B hml hv
  obtain ⟨rfl, ⟨⟨⟨hI, hN, hK⟩, hE⟩, hF, hA⟩, hq, hKJ, hNc, hnq⟩ := hv
  have hx := B.exec
  have hb := B.bytes
  have hr := B.returns
  have hts := atoms_spec (ws := wsL_perform) B.pre
  have hown : s.vm.findClass RL = some m.cls := findClass_of_methodNamed B.named
  have hlocks := B.notSynchronized
  have l0 := hts (.classLink RL 21 "java/lang/IndexOutOfBoundsException") (List.mem_of_getElem? (i := 1) rfl)
  have l1 := hts (.classLink RL 13 "java/lang/IllegalArgumentException") (List.mem_of_getElem? (i := 2) rfl)
  have htab := vx_table (x := yL_perform) B (hts _ (List.mem_cons_self))
  have hS : va_S (fun y => A y ∨ y = q) s.heap s.heap [] := va_S.rf
  have hl := lv_entry ([.ref (ad 0 0), .int a1, .int a2, .ref q]) (n := 5) (Nat.le_of_ble_eq_true rfl)
  rw [lg_entry_eq]
  generalize (lg_sl ([.ref (ad 0 0), .int a1, .int a2, .ref q]) ++ List.replicate (5 - (lg_sl ([.ref (ad 0 0), .int a1, .int a2, .ref q])).length) Slot.unset).toArray = ls at hl ⊢
  have hl : lv_has ls 5 [(0, .ref (ad 0 0)), (1, .int a1), (2, .int a2), (3, .ref q)] := hl
  refine lv_aload_n hx hb dL_perform_0 rfl (lv_at hl 3 rfl) ?_
  refine lv_iconst (v := 0) hx hb dL_perform_1 (by decide) ?_
  refine lv_aload_n hx hb dL_perform_2 rfl (lv_at hl 0 rfl) ?_
  refine lv_iload_n hx hb dL_perform_3 rfl (lv_at hl 1 rfl) ?_
  refine lv_iload_n hx hb dL_perform_4 rfl (lv_at hl 2 rfl) ?_
  refine vx_calli (A0 := fun y => A y ∨ y = q) (vx_runV (As := [.int a1, .int a2]) (rest := [.int 0, .ref q]) ⟨hx, hb, hml, hown, hts⟩ (mX6_perform l hfl D G A ad Z a1 a2 (.inr 2) Zz h) (cwV 2 hts gL_perform_X6_perform rfl rfl rfl (by decide +kernel) ⟨Nat.le_of_ble_eq_true rfl, Nat.le_of_ble_eq_true rfl⟩) (xg_preV hI hK hN hE va_S.rf rfl rfl (ci := 7) rfl) rfl rfl hl.1 rfl (lv_room (Nat.le_of_ble_eq_true rfl)) dL_perform_5 ⟨Nat.le_of_ble_eq_true rfl, Nat.le_of_ble_eq_true rfl⟩) hS (fun _ _ h => Or.inl h) (fun _ h => Or.inl h) (fun _ _ h => Or.inl h) (fun E ce q9 u t H1 locs1 ht hvm hp hB hz hk hS1 hce hcv hcl => ?_) (fun r9 u t H1 locs1 ht hvm hw hB hz hk hS1 => ?_)
  · have hq1 : va_at D vwCl (q, .inl (cJ, 1, .inr (.inl f))) H1 := hq.kept (hk q hq.lt hnq)
    obtain ⟨⟨c9, h9, h8⟩, hB⟩ := hB
    cases h9
    have hE9 : E = "java/lang/IllegalArgumentException" := h8.trans (by decide)
    subst hE9
    subst hp
    have hI1 := hB.1
    have hN1 := hB.2.1
    rw [ht] at hN1
    have hpass : ∀ z ∈ ([⟨0, 10, 13, 21⟩] : List ExceptionTableEntry), covers z 5 = false ∨ (z.catchType ≠ 0 ∧ ∃ nm : String, (Cond.classLink RL z.catchType nm).before (([.ref (ad 0 0), .int a1, .int a2, .ref q] : List Value).toArray) s = true ∧ va_Nc "java/lang/IllegalArgumentException" nm s) := by
      intro z hz
      simp only [List.mem_cons, List.not_mem_nil, or_false] at hz
      rcases hz with rfl
      · exact Or.inr ⟨by decide, _, l0, hNc _ (by decide) _ (by decide) (by decide)⟩
    refine vx_catch hown (name := "java/lang/IllegalArgumentException") [⟨0, 10, 13, 21⟩] ⟨0, 10, 17, 13⟩ [⟨0, 10, 21, 15⟩] htab hpass (by decide) (by decide) l1 (va_Nw.use rfl (hE.1.2 _ (by decide))) hce hcv hcl ?_
    refine lv_astore (lv' := [(4, .ref q9), (0, .ref (ad 0 0)), (1, .int a1), (2, .int a2), (3, .ref q)]) hx hb dL_perform_17 hl (by decide) rfl (fun ls hl => ?_)
    refine lv_iconst (v := 2) hx hb dL_perform_19 (by decide) ?_
    exact vx_ret (W.widen (k := 4) (n := 24) (by decide) (by decide) (W.iret hx hb hr (lg_end (P := fun _ => True) trivial rfl hI1 hK hN1 hq1 hS1) (fun z hz => hS1.2.2 z hz) dL_perform_20))
  · cases hw.1
set_option maxHeartbeats 4000000 in
set_option maxRecDepth 100000 in
theorem mL_perform_x3 (l : Launch) (hfl : l.stackTraces = false) (D : va_G) (G : CGT) (A : Nat → Prop) (ad : Nat → Nat → Nat) (Z : CZ) (cJ : ClassId) (q : Nat) (f : Nat → Int64) (a1 : Int32) (a2 : Int32) (Zz : CZ) (h : fX6_perform a1 a2 Z = some ((.inr 3 : Int32 ⊕ Int32), Zz)) : vx_Met l yL_perform wsL_perform rmL_perform (va_Pc [.ref (ad 0 0), .int a1, .int a2, .ref q] (lP D G A ad Z cJ q f)) (lQ D G A ad 3 Zz cJ q (fun _ => True)) (fun _ _ _ => False) 4 24 (fun y => A y ∨ y = q) := by
  refine vx_ofWH (cc := cL_perform) (maxL := 5) (ret := some .int) (hh := [(0, 10, 13, 21), (0, 10, 17, 13), (0, 10, 21, 15)]) (by decide) rfl ?_
  intro p e s m args below meth c s₁ B hml hv
  obtain ⟨rfl, ⟨⟨⟨hI, hN, hK⟩, hE⟩, hF, hA⟩, hq, hKJ, hNc, hnq⟩ := hv
  have hx := B.exec
  have hb := B.bytes
  have hr := B.returns
  have hts := atoms_spec (ws := wsL_perform) B.pre
  have hown : s.vm.findClass RL = some m.cls := findClass_of_methodNamed B.named
  have hlocks := B.notSynchronized
  have l0 := hts (.classLink RL 21 "java/lang/IndexOutOfBoundsException") (List.mem_of_getElem? (i := 1) rfl)
  have l1 := hts (.classLink RL 13 "java/lang/IllegalArgumentException") (List.mem_of_getElem? (i := 2) rfl)
  have l2 := hts (.classLink RL 15 "java/lang/IllegalStateException") (List.mem_of_getElem? (i := 3) rfl)
  have htab := vx_table (x := yL_perform) B (hts _ (List.mem_cons_self))
  have hS : va_S (fun y => A y ∨ y = q) s.heap s.heap [] := va_S.rf
  have hl := lv_entry ([.ref (ad 0 0), .int a1, .int a2, .ref q]) (n := 5) (Nat.le_of_ble_eq_true rfl)
  rw [lg_entry_eq]
  generalize (lg_sl ([.ref (ad 0 0), .int a1, .int a2, .ref q]) ++ List.replicate (5 - (lg_sl ([.ref (ad 0 0), .int a1, .int a2, .ref q])).length) Slot.unset).toArray = ls at hl ⊢
  have hl : lv_has ls 5 [(0, .ref (ad 0 0)), (1, .int a1), (2, .int a2), (3, .ref q)] := hl
  refine lv_aload_n hx hb dL_perform_0 rfl (lv_at hl 3 rfl) ?_
  refine lv_iconst (v := 0) hx hb dL_perform_1 (by decide) ?_
  refine lv_aload_n hx hb dL_perform_2 rfl (lv_at hl 0 rfl) ?_
  refine lv_iload_n hx hb dL_perform_3 rfl (lv_at hl 1 rfl) ?_
  refine lv_iload_n hx hb dL_perform_4 rfl (lv_at hl 2 rfl) ?_
  refine vx_calli (A0 := fun y => A y ∨ y = q) (vx_runV (As := [.int a1, .int a2]) (rest := [.int 0, .ref q]) ⟨hx, hb, hml, hown, hts⟩ (mX6_perform l hfl D G A ad Z a1 a2 (.inr 3) Zz h) (cwV 2 hts gL_perform_X6_perform rfl rfl rfl (by decide +kernel) ⟨Nat.le_of_ble_eq_true rfl, Nat.le_of_ble_eq_true rfl⟩) (xg_preV hI hK hN hE va_S.rf rfl rfl (ci := 7) rfl) rfl rfl hl.1 rfl (lv_room (Nat.le_of_ble_eq_true rfl)) dL_perform_5 ⟨Nat.le_of_ble_eq_true rfl, Nat.le_of_ble_eq_true rfl⟩) hS (fun _ _ h => Or.inl h) (fun _ h => Or.inl h) (fun _ _ h => Or.inl h) (fun E ce q9 u t H1 locs1 ht hvm hp hB hz hk hS1 hce hcv hcl => ?_) (fun r9 u t H1 locs1 ht hvm hw hB hz hk hS1 => ?_)
  · have hq1 : va_at D vwCl (q, .inl (cJ, 1, .inr (.inl f))) H1 := hq.kept (hk q hq.lt hnq)
    obtain ⟨⟨c9, h9, h8⟩, hB⟩ := hB
    cases h9
    have hE9 : E = "java/lang/IllegalStateException" := h8.trans (by decide)
    subst hE9
    subst hp
    have hI1 := hB.1
    have hN1 := hB.2.1
    rw [ht] at hN1
    have hpass : ∀ z ∈ ([⟨0, 10, 13, 21⟩, ⟨0, 10, 17, 13⟩] : List ExceptionTableEntry), covers z 5 = false ∨ (z.catchType ≠ 0 ∧ ∃ nm : String, (Cond.classLink RL z.catchType nm).before (([.ref (ad 0 0), .int a1, .int a2, .ref q] : List Value).toArray) s = true ∧ va_Nc "java/lang/IllegalStateException" nm s) := by
      intro z hz
      simp only [List.mem_cons, List.not_mem_nil, or_false] at hz
      rcases hz with rfl | rfl
      · exact Or.inr ⟨by decide, _, l0, hNc _ (by decide) _ (by decide) (by decide)⟩
      · exact Or.inr ⟨by decide, _, l1, hNc _ (by decide) _ (by decide) (by decide)⟩
    refine vx_catch hown (name := "java/lang/IllegalStateException") [⟨0, 10, 13, 21⟩, ⟨0, 10, 17, 13⟩] ⟨0, 10, 21, 15⟩ [] htab hpass (by decide) (by decide) l2 (va_Nw.use rfl (hE.1.2 _ (by decide))) hce hcv hcl ?_
    refine lv_astore (lv' := [(4, .ref q9), (0, .ref (ad 0 0)), (1, .int a1), (2, .int a2), (3, .ref q)]) hx hb dL_perform_21 hl (by decide) rfl (fun ls hl => ?_)
    refine lv_iconst (v := 3) hx hb dL_perform_23 (by decide) ?_
    exact vx_ret (W.widen (k := 4) (n := 24) (by decide) (by decide) (W.iret hx hb hr (lg_end (P := fun _ => True) trivial rfl hI1 hK hN1 hq1 hS1) (fun z hz => hS1.2.2 z hz) dL_perform_24))
  · cases hw.1
def rmL_mark : Room := { frames := 9, cells := 4, slots := 24, locals := 166 }
set_option maxHeartbeats 4000000 in
set_option maxRecDepth 100000 in
theorem mL_mark (l : Launch) (hfl : l.stackTraces = false) (D : va_G) (G : CGT) (A : Nat → Prop) (ad : Nat → Nat → Nat) (Z : CZ) (cJ : ClassId) (q : Nat) (f : Nat → Int64) (a1 : Int32) (a2 : Int32) (a3 : Int32) (v : Int32) (Zz : CZ) (h : fX6_mark a1 a2 a3 Z = some ((.inl v : Int32 ⊕ Int32), Zz)) : vx_Met l yL_mark wsL_mark rmL_mark (va_Pc [.ref (ad 0 0), .int a1, .int a2, .int a3, .ref q] (lP D G A ad Z cJ q f)) (lQ D G A ad 0 Zz cJ q (fun f1 => f1 0 = v.toInt64)) (fun _ _ _ => False) 4 24 (fun y => A y ∨ y = q) := by
  refine vx_ofWH (cc := cL_mark) (maxL := 6) (ret := some .int) (hh := [(0, 12, 15, 21), (0, 12, 19, 13), (0, 12, 23, 15)]) (by decide) rfl ?_
  intro p e s m args below meth c s₁ B hml hv
  obtain ⟨rfl, ⟨⟨⟨hI, hN, hK⟩, hE⟩, hF, hA⟩, hq, hKJ, hNc, hnq⟩ := hv
  have hx := B.exec
  have hb := B.bytes
  have hr := B.returns
  have hts := atoms_spec (ws := wsL_mark) B.pre
  have hown : s.vm.findClass RL = some m.cls := findClass_of_methodNamed B.named
  have hlocks := B.notSynchronized
  have htab := vx_table (x := yL_mark) B (hts _ (List.mem_cons_self))
  have hS : va_S (fun y => A y ∨ y = q) s.heap s.heap [] := va_S.rf
  have hl := lv_entry ([.ref (ad 0 0), .int a1, .int a2, .int a3, .ref q]) (n := 6) (Nat.le_of_ble_eq_true rfl)
  rw [lg_entry_eq]
  generalize (lg_sl ([.ref (ad 0 0), .int a1, .int a2, .int a3, .ref q]) ++ List.replicate (6 - (lg_sl ([.ref (ad 0 0), .int a1, .int a2, .int a3, .ref q])).length) Slot.unset).toArray = ls at hl ⊢
  have hl : lv_has ls 6 [(0, .ref (ad 0 0)), (1, .int a1), (2, .int a2), (3, .int a3), (4, .ref q)] := hl
  refine lv_aload hx hb dL_mark_0 (lv_at hl 4 rfl) ?_
  refine lv_iconst (v := 0) hx hb dL_mark_2 (by decide) ?_
  refine lv_aload_n hx hb dL_mark_3 rfl (lv_at hl 0 rfl) ?_
  refine lv_iload_n hx hb dL_mark_4 rfl (lv_at hl 1 rfl) ?_
  refine lv_iload_n hx hb dL_mark_5 rfl (lv_at hl 2 rfl) ?_
  refine lv_iload_n hx hb dL_mark_6 rfl (lv_at hl 3 rfl) ?_
  refine vx_calli (A0 := fun y => A y ∨ y = q) (vx_runV (As := [.int a1, .int a2, .int a3]) (rest := [.int 0, .ref q]) ⟨hx, hb, hml, hown, hts⟩ (mX6_mark l hfl D G A ad Z a1 a2 a3 (.inl v) Zz h) (cwV 3 hts gL_mark_X6_mark rfl rfl rfl (by decide +kernel) ⟨Nat.le_of_ble_eq_true rfl, Nat.le_of_ble_eq_true rfl⟩) (xg_preV hI hK hN hE va_S.rf rfl rfl (ci := 7) rfl) rfl rfl hl.1 rfl (lv_room (Nat.le_of_ble_eq_true rfl)) dL_mark_7 ⟨Nat.le_of_ble_eq_true rfl, Nat.le_of_ble_eq_true rfl⟩) hS (fun _ _ h => Or.inl h) (fun _ h => Or.inl h) (fun _ _ h => Or.inl h) (fun E ce q9 u t H1 locs1 ht hvm hp hB hz hk hS1 hce hcv hcl => ?_) (fun r9 u t H1 locs1 ht hvm hw hB hz hk hS1 => ?_)
  · obtain ⟨⟨c9, h9, -⟩, -⟩ := hB
    cases h9
  · have hq1 : va_at D vwCl (q, .inl (cJ, 1, .inr (.inl f))) H1 := hq.kept (hk q hq.lt hnq)
    obtain ⟨h9, rfl⟩ := hw
    cases h9
    have h00 : ad 0 0 = ad 0 0 := rfl
    have hI1 := hB.1
    have hN1 := hB.2.1
    rw [ht] at hN1
    clear hB hk hz
    refine lv_i2l hx hb (v := v.toInt64) dL_mark_10 rfl ?_
    refine lg_last hx hb hKJ hq1 hN1 hI1 hnq hS1 dL_mark_11 (fun H2 locs2 hq1 hN1 hS1 => ?_)
    refine lv_goto (tgt := 27) hx hb dL_mark_12 (by decide) ?_
    refine lv_iconst (v := 0) hx hb dL_mark_27 (by decide) ?_
    exact vx_ret (W.widen (k := 4) (n := 24) (by decide) (by decide) (W.iret hx hb hr (lg_end (P := (fun f1 => f1 0 = v.toInt64)) (if_pos rfl) h00 hI1 hK hN1 hq1 hS1) (fun z hz => hS1.2.2 z hz) dL_mark_28))
set_option maxHeartbeats 4000000 in
set_option maxRecDepth 100000 in
theorem mL_mark_x1 (l : Launch) (hfl : l.stackTraces = false) (D : va_G) (G : CGT) (A : Nat → Prop) (ad : Nat → Nat → Nat) (Z : CZ) (cJ : ClassId) (q : Nat) (f : Nat → Int64) (a1 : Int32) (a2 : Int32) (a3 : Int32) (Zz : CZ) (h : fX6_mark a1 a2 a3 Z = some ((.inr 1 : Int32 ⊕ Int32), Zz)) : vx_Met l yL_mark wsL_mark rmL_mark (va_Pc [.ref (ad 0 0), .int a1, .int a2, .int a3, .ref q] (lP D G A ad Z cJ q f)) (lQ D G A ad 1 Zz cJ q (fun _ => True)) (fun _ _ _ => False) 4 24 (fun y => A y ∨ y = q) := by
  refine vx_ofWH (cc := cL_mark) (maxL := 6) (ret := some .int) (hh := [(0, 12, 15, 21), (0, 12, 19, 13), (0, 12, 23, 15)]) (by decide) rfl ?_
  intro p e s m args below meth c s₁ B hml hv
  obtain ⟨rfl, ⟨⟨⟨hI, hN, hK⟩, hE⟩, hF, hA⟩, hq, hKJ, hNc, hnq⟩ := hv
  have hx := B.exec
  have hb := B.bytes
  have hr := B.returns
  have hts := atoms_spec (ws := wsL_mark) B.pre
  have hown : s.vm.findClass RL = some m.cls := findClass_of_methodNamed B.named
  have hlocks := B.notSynchronized
  have l0 := hts (.classLink RL 21 "java/lang/IndexOutOfBoundsException") (List.mem_of_getElem? (i := 1) rfl)
  have htab := vx_table (x := yL_mark) B (hts _ (List.mem_cons_self))
  have hS : va_S (fun y => A y ∨ y = q) s.heap s.heap [] := va_S.rf
  have hl := lv_entry ([.ref (ad 0 0), .int a1, .int a2, .int a3, .ref q]) (n := 6) (Nat.le_of_ble_eq_true rfl)
  rw [lg_entry_eq]
  generalize (lg_sl ([.ref (ad 0 0), .int a1, .int a2, .int a3, .ref q]) ++ List.replicate (6 - (lg_sl ([.ref (ad 0 0), .int a1, .int a2, .int a3, .ref q])).length) Slot.unset).toArray = ls at hl ⊢
  have hl : lv_has ls 6 [(0, .ref (ad 0 0)), (1, .int a1), (2, .int a2), (3, .int a3), (4, .ref q)] := hl
  refine lv_aload hx hb dL_mark_0 (lv_at hl 4 rfl) ?_
  refine lv_iconst (v := 0) hx hb dL_mark_2 (by decide) ?_
  refine lv_aload_n hx hb dL_mark_3 rfl (lv_at hl 0 rfl) ?_
  refine lv_iload_n hx hb dL_mark_4 rfl (lv_at hl 1 rfl) ?_
  refine lv_iload_n hx hb dL_mark_5 rfl (lv_at hl 2 rfl) ?_
  refine lv_iload_n hx hb dL_mark_6 rfl (lv_at hl 3 rfl) ?_
  refine vx_calli (A0 := fun y => A y ∨ y = q) (vx_runV (As := [.int a1, .int a2, .int a3]) (rest := [.int 0, .ref q]) ⟨hx, hb, hml, hown, hts⟩ (mX6_mark l hfl D G A ad Z a1 a2 a3 (.inr 1) Zz h) (cwV 3 hts gL_mark_X6_mark rfl rfl rfl (by decide +kernel) ⟨Nat.le_of_ble_eq_true rfl, Nat.le_of_ble_eq_true rfl⟩) (xg_preV hI hK hN hE va_S.rf rfl rfl (ci := 7) rfl) rfl rfl hl.1 rfl (lv_room (Nat.le_of_ble_eq_true rfl)) dL_mark_7 ⟨Nat.le_of_ble_eq_true rfl, Nat.le_of_ble_eq_true rfl⟩) hS (fun _ _ h => Or.inl h) (fun _ h => Or.inl h) (fun _ _ h => Or.inl h) (fun E ce q9 u t H1 locs1 ht hvm hp hB hz hk hS1 hce hcv hcl => ?_) (fun r9 u t H1 locs1 ht hvm hw hB hz hk hS1 => ?_)
  · have hq1 : va_at D vwCl (q, .inl (cJ, 1, .inr (.inl f))) H1 := hq.kept (hk q hq.lt hnq)
    obtain ⟨⟨c9, h9, h8⟩, hB⟩ := hB
    cases h9
    have hE9 : E = "java/lang/IndexOutOfBoundsException" := h8.trans (by decide)
    subst hE9
    subst hp
    have hI1 := hB.1
    have hN1 := hB.2.1
    rw [ht] at hN1
    refine vx_catch hown (name := "java/lang/IndexOutOfBoundsException") [] ⟨0, 12, 15, 21⟩ [⟨0, 12, 19, 13⟩, ⟨0, 12, 23, 15⟩] htab (fun z hz => by simp at hz) (by decide) (by decide) l0 (va_Nw.use rfl (hE.1.2 _ (by decide))) hce hcv hcl ?_
    refine lv_astore (lv' := [(5, .ref q9), (0, .ref (ad 0 0)), (1, .int a1), (2, .int a2), (3, .int a3), (4, .ref q)]) hx hb dL_mark_15 hl (by decide) rfl (fun ls hl => ?_)
    refine lv_iconst (v := 1) hx hb dL_mark_17 (by decide) ?_
    exact vx_ret (W.widen (k := 4) (n := 24) (by decide) (by decide) (W.iret hx hb hr (lg_end (P := fun _ => True) trivial rfl hI1 hK hN1 hq1 hS1) (fun z hz => hS1.2.2 z hz) dL_mark_18))
  · cases hw.1
set_option maxHeartbeats 4000000 in
set_option maxRecDepth 100000 in
theorem mL_mark_x2 (l : Launch) (hfl : l.stackTraces = false) (D : va_G) (G : CGT) (A : Nat → Prop) (ad : Nat → Nat → Nat) (Z : CZ) (cJ : ClassId) (q : Nat) (f : Nat → Int64) (a1 : Int32) (a2 : Int32) (a3 : Int32) (Zz : CZ) (h : fX6_mark a1 a2 a3 Z = some ((.inr 2 : Int32 ⊕ Int32), Zz)) : vx_Met l yL_mark wsL_mark rmL_mark (va_Pc [.ref (ad 0 0), .int a1, .int a2, .int a3, .ref q] (lP D G A ad Z cJ q f)) (lQ D G A ad 2 Zz cJ q (fun _ => True)) (fun _ _ _ => False) 4 24 (fun y => A y ∨ y = q) := by
  refine vx_ofWH (cc := cL_mark) (maxL := 6) (ret := some .int) (hh := [(0, 12, 15, 21), (0, 12, 19, 13), (0, 12, 23, 15)]) (by decide) rfl ?_
  intro p e s m args below meth c s₁ B hml hv
  obtain ⟨rfl, ⟨⟨⟨hI, hN, hK⟩, hE⟩, hF, hA⟩, hq, hKJ, hNc, hnq⟩ := hv
  have hx := B.exec
  have hb := B.bytes
  have hr := B.returns
  have hts := atoms_spec (ws := wsL_mark) B.pre
  have hown : s.vm.findClass RL = some m.cls := findClass_of_methodNamed B.named
  have hlocks := B.notSynchronized
  have l0 := hts (.classLink RL 21 "java/lang/IndexOutOfBoundsException") (List.mem_of_getElem? (i := 1) rfl)
  have l1 := hts (.classLink RL 13 "java/lang/IllegalArgumentException") (List.mem_of_getElem? (i := 2) rfl)
  have htab := vx_table (x := yL_mark) B (hts _ (List.mem_cons_self))
  have hS : va_S (fun y => A y ∨ y = q) s.heap s.heap [] := va_S.rf
  have hl := lv_entry ([.ref (ad 0 0), .int a1, .int a2, .int a3, .ref q]) (n := 6) (Nat.le_of_ble_eq_true rfl)
  rw [lg_entry_eq]
  generalize (lg_sl ([.ref (ad 0 0), .int a1, .int a2, .int a3, .ref q]) ++ List.replicate (6 - (lg_sl ([.ref (ad 0 0), .int a1, .int a2, .int a3, .ref q])).length) Slot.unset).toArray = ls at hl ⊢
  have hl : lv_has ls 6 [(0, .ref (ad 0 0)), (1, .int a1), (2, .int a2), (3, .int a3), (4, .ref q)] := hl
  refine lv_aload hx hb dL_mark_0 (lv_at hl 4 rfl) ?_
  refine lv_iconst (v := 0) hx hb dL_mark_2 (by decide) ?_
  refine lv_aload_n hx hb dL_mark_3 rfl (lv_at hl 0 rfl) ?_
  refine lv_iload_n hx hb dL_mark_4 rfl (lv_at hl 1 rfl) ?_
  refine lv_iload_n hx hb dL_mark_5 rfl (lv_at hl 2 rfl) ?_
  refine lv_iload_n hx hb dL_mark_6 rfl (lv_at hl 3 rfl) ?_
  refine vx_calli (A0 := fun y => A y ∨ y = q) (vx_runV (As := [.int a1, .int a2, .int a3]) (rest := [.int 0, .ref q]) ⟨hx, hb, hml, hown, hts⟩ (mX6_mark l hfl D G A ad Z a1 a2 a3 (.inr 2) Zz h) (cwV 3 hts gL_mark_X6_mark rfl rfl rfl (by decide +kernel) ⟨Nat.le_of_ble_eq_true rfl, Nat.le_of_ble_eq_true rfl⟩) (xg_preV hI hK hN hE va_S.rf rfl rfl (ci := 7) rfl) rfl rfl hl.1 rfl (lv_room (Nat.le_of_ble_eq_true rfl)) dL_mark_7 ⟨Nat.le_of_ble_eq_true rfl, Nat.le_of_ble_eq_true rfl⟩) hS (fun _ _ h => Or.inl h) (fun _ h => Or.inl h) (fun _ _ h => Or.inl h) (fun E ce q9 u t H1 locs1 ht hvm hp hB hz hk hS1 hce hcv hcl => ?_) (fun r9 u t H1 locs1 ht hvm hw hB hz hk hS1 => ?_)
  · have hq1 : va_at D vwCl (q, .inl (cJ, 1, .inr (.inl f))) H1 := hq.kept (hk q hq.lt hnq)
    obtain ⟨⟨c9, h9, h8⟩, hB⟩ := hB
    cases h9
    have hE9 : E = "java/lang/IllegalArgumentException" := h8.trans (by decide)
    subst hE9
    subst hp
    have hI1 := hB.1
    have hN1 := hB.2.1
    rw [ht] at hN1
    have hpass : ∀ z ∈ ([⟨0, 12, 15, 21⟩] : List ExceptionTableEntry), covers z 7 = false ∨ (z.catchType ≠ 0 ∧ ∃ nm : String, (Cond.classLink RL z.catchType nm).before (([.ref (ad 0 0), .int a1, .int a2, .int a3, .ref q] : List Value).toArray) s = true ∧ va_Nc "java/lang/IllegalArgumentException" nm s) := by
      intro z hz
      simp only [List.mem_cons, List.not_mem_nil, or_false] at hz
      rcases hz with rfl
      · exact Or.inr ⟨by decide, _, l0, hNc _ (by decide) _ (by decide) (by decide)⟩
    refine vx_catch hown (name := "java/lang/IllegalArgumentException") [⟨0, 12, 15, 21⟩] ⟨0, 12, 19, 13⟩ [⟨0, 12, 23, 15⟩] htab hpass (by decide) (by decide) l1 (va_Nw.use rfl (hE.1.2 _ (by decide))) hce hcv hcl ?_
    refine lv_astore (lv' := [(5, .ref q9), (0, .ref (ad 0 0)), (1, .int a1), (2, .int a2), (3, .int a3), (4, .ref q)]) hx hb dL_mark_19 hl (by decide) rfl (fun ls hl => ?_)
    refine lv_iconst (v := 2) hx hb dL_mark_21 (by decide) ?_
    exact vx_ret (W.widen (k := 4) (n := 24) (by decide) (by decide) (W.iret hx hb hr (lg_end (P := fun _ => True) trivial rfl hI1 hK hN1 hq1 hS1) (fun z hz => hS1.2.2 z hz) dL_mark_22))
  · cases hw.1
set_option maxHeartbeats 4000000 in
set_option maxRecDepth 100000 in
theorem mL_mark_x3 (l : Launch) (hfl : l.stackTraces = false) (D : va_G) (G : CGT) (A : Nat → Prop) (ad : Nat → Nat → Nat) (Z : CZ) (cJ : ClassId) (q : Nat) (f : Nat → Int64) (a1 : Int32) (a2 : Int32) (a3 : Int32) (Zz : CZ) (h : fX6_mark a1 a2 a3 Z = some ((.inr 3 : Int32 ⊕ Int32), Zz)) : vx_Met l yL_mark wsL_mark rmL_mark (va_Pc [.ref (ad 0 0), .int a1, .int a2, .int a3, .ref q] (lP D G A ad Z cJ q f)) (lQ D G A ad 3 Zz cJ q (fun _ => True)) (fun _ _ _ => False) 4 24 (fun y => A y ∨ y = q) := by
  refine vx_ofWH (cc := cL_mark) (maxL := 6) (ret := some .int) (hh := [(0, 12, 15, 21), (0, 12, 19, 13), (0, 12, 23, 15)]) (by decide) rfl ?_
  intro p e s m args below meth c s₁ B hml hv
  obtain ⟨rfl, ⟨⟨⟨hI, hN, hK⟩, hE⟩, hF, hA⟩, hq, hKJ, hNc, hnq⟩ := hv
  have hx := B.exec
  have hb := B.bytes
  have hr := B.returns
  have hts := atoms_spec (ws := wsL_mark) B.pre
  have hown : s.vm.findClass RL = some m.cls := findClass_of_methodNamed B.named
  have hlocks := B.notSynchronized
  have l0 := hts (.classLink RL 21 "java/lang/IndexOutOfBoundsException") (List.mem_of_getElem? (i := 1) rfl)
  have l1 := hts (.classLink RL 13 "java/lang/IllegalArgumentException") (List.mem_of_getElem? (i := 2) rfl)
  have l2 := hts (.classLink RL 15 "java/lang/IllegalStateException") (List.mem_of_getElem? (i := 3) rfl)
  have htab := vx_table (x := yL_mark) B (hts _ (List.mem_cons_self))
  have hS : va_S (fun y => A y ∨ y = q) s.heap s.heap [] := va_S.rf
  have hl := lv_entry ([.ref (ad 0 0), .int a1, .int a2, .int a3, .ref q]) (n := 6) (Nat.le_of_ble_eq_true rfl)
  rw [lg_entry_eq]
  generalize (lg_sl ([.ref (ad 0 0), .int a1, .int a2, .int a3, .ref q]) ++ List.replicate (6 - (lg_sl ([.ref (ad 0 0), .int a1, .int a2, .int a3, .ref q])).length) Slot.unset).toArray = ls at hl ⊢
  have hl : lv_has ls 6 [(0, .ref (ad 0 0)), (1, .int a1), (2, .int a2), (3, .int a3), (4, .ref q)] := hl
  refine lv_aload hx hb dL_mark_0 (lv_at hl 4 rfl) ?_
  refine lv_iconst (v := 0) hx hb dL_mark_2 (by decide) ?_
  refine lv_aload_n hx hb dL_mark_3 rfl (lv_at hl 0 rfl) ?_
  refine lv_iload_n hx hb dL_mark_4 rfl (lv_at hl 1 rfl) ?_
  refine lv_iload_n hx hb dL_mark_5 rfl (lv_at hl 2 rfl) ?_
  refine lv_iload_n hx hb dL_mark_6 rfl (lv_at hl 3 rfl) ?_
  refine vx_calli (A0 := fun y => A y ∨ y = q) (vx_runV (As := [.int a1, .int a2, .int a3]) (rest := [.int 0, .ref q]) ⟨hx, hb, hml, hown, hts⟩ (mX6_mark l hfl D G A ad Z a1 a2 a3 (.inr 3) Zz h) (cwV 3 hts gL_mark_X6_mark rfl rfl rfl (by decide +kernel) ⟨Nat.le_of_ble_eq_true rfl, Nat.le_of_ble_eq_true rfl⟩) (xg_preV hI hK hN hE va_S.rf rfl rfl (ci := 7) rfl) rfl rfl hl.1 rfl (lv_room (Nat.le_of_ble_eq_true rfl)) dL_mark_7 ⟨Nat.le_of_ble_eq_true rfl, Nat.le_of_ble_eq_true rfl⟩) hS (fun _ _ h => Or.inl h) (fun _ h => Or.inl h) (fun _ _ h => Or.inl h) (fun E ce q9 u t H1 locs1 ht hvm hp hB hz hk hS1 hce hcv hcl => ?_) (fun r9 u t H1 locs1 ht hvm hw hB hz hk hS1 => ?_)
  · have hq1 : va_at D vwCl (q, .inl (cJ, 1, .inr (.inl f))) H1 := hq.kept (hk q hq.lt hnq)
    obtain ⟨⟨c9, h9, h8⟩, hB⟩ := hB
    cases h9
    have hE9 : E = "java/lang/IllegalStateException" := h8.trans (by decide)
    subst hE9
    subst hp
    have hI1 := hB.1
    have hN1 := hB.2.1
    rw [ht] at hN1
    have hpass : ∀ z ∈ ([⟨0, 12, 15, 21⟩, ⟨0, 12, 19, 13⟩] : List ExceptionTableEntry), covers z 7 = false ∨ (z.catchType ≠ 0 ∧ ∃ nm : String, (Cond.classLink RL z.catchType nm).before (([.ref (ad 0 0), .int a1, .int a2, .int a3, .ref q] : List Value).toArray) s = true ∧ va_Nc "java/lang/IllegalStateException" nm s) := by
      intro z hz
      simp only [List.mem_cons, List.not_mem_nil, or_false] at hz
      rcases hz with rfl | rfl
      · exact Or.inr ⟨by decide, _, l0, hNc _ (by decide) _ (by decide) (by decide)⟩
      · exact Or.inr ⟨by decide, _, l1, hNc _ (by decide) _ (by decide) (by decide)⟩
    refine vx_catch hown (name := "java/lang/IllegalStateException") [⟨0, 12, 15, 21⟩, ⟨0, 12, 19, 13⟩] ⟨0, 12, 23, 15⟩ [] htab hpass (by decide) (by decide) l2 (va_Nw.use rfl (hE.1.2 _ (by decide))) hce hcv hcl ?_
    refine lv_astore (lv' := [(5, .ref q9), (0, .ref (ad 0 0)), (1, .int a1), (2, .int a2), (3, .int a3), (4, .ref q)]) hx hb dL_mark_23 hl (by decide) rfl (fun ls hl => ?_)
    refine lv_iconst (v := 3) hx hb dL_mark_25 (by decide) ?_
    exact vx_ret (W.widen (k := 4) (n := 24) (by decide) (by decide) (W.iret hx hb hr (lg_end (P := fun _ => True) trivial rfl hI1 hK hN1 hq1 hS1) (fun z hz => hS1.2.2 z hz) dL_mark_26))
  · cases hw.1
def rmL_score : Room := { frames := 9, cells := 2, slots := 12, locals := 164 }
set_option maxHeartbeats 4000000 in
set_option maxRecDepth 100000 in
theorem mL_score (l : Launch) (hfl : l.stackTraces = false) (D : va_G) (G : CGT) (A : Nat → Prop) (ad : Nat → Nat → Nat) (Z : CZ) (cJ : ClassId) (q : Nat) (f : Nat → Int64) (a1 : Int32) (v : Int32) (h : fX6_score a1 Z = some (.inl v : Int32 ⊕ Int32)) : vx_Met l yL_score wsL_score rmL_score (va_Pc [.ref (ad 0 0), .int a1, .ref q] (lP D G A ad Z cJ q f)) (lQ D G A ad 0 Z cJ q (fun f1 => f1 0 = v.toInt64)) (fun _ _ _ => False) 2 12 (fun y => A y ∨ y = q) := by
  refine vx_ofWH (cc := cL_score) (maxL := 4) (ret := some .int) (hh := [(0, 9, 12, 21), (0, 9, 15, 15)]) (by decide) rfl ?_
  intro p e s m args below meth c s₁ B hml hv
  obtain ⟨rfl, ⟨⟨⟨hI, hN, hK⟩, hE⟩, hF, hA⟩, hq, hKJ, hNc, hnq⟩ := hv
  have hx := B.exec
  have hb := B.bytes
  have hr := B.returns
  have hts := atoms_spec (ws := wsL_score) B.pre
  have hown : s.vm.findClass RL = some m.cls := findClass_of_methodNamed B.named
  have hlocks := B.notSynchronized
  have htab := vx_table (x := yL_score) B (hts _ (List.mem_cons_self))
  have hS : va_S (fun y => A y ∨ y = q) s.heap s.heap [] := va_S.rf
  have hl := lv_entry ([.ref (ad 0 0), .int a1, .ref q]) (n := 4) (Nat.le_of_ble_eq_true rfl)
  rw [lg_entry_eq]
  generalize (lg_sl ([.ref (ad 0 0), .int a1, .ref q]) ++ List.replicate (4 - (lg_sl ([.ref (ad 0 0), .int a1, .ref q])).length) Slot.unset).toArray = ls at hl ⊢
  have hl : lv_has ls 4 [(0, .ref (ad 0 0)), (1, .int a1), (2, .ref q)] := hl
  refine lv_aload_n hx hb dL_score_0 rfl (lv_at hl 2 rfl) ?_
  refine lv_iconst (v := 0) hx hb dL_score_1 (by decide) ?_
  refine lv_aload_n hx hb dL_score_2 rfl (lv_at hl 0 rfl) ?_
  refine lv_iload_n hx hb dL_score_3 rfl (lv_at hl 1 rfl) ?_
  refine vx_calli (A0 := fun y => A y ∨ y = q) (vx_runV (As := [.int a1]) (rest := [.int 0, .ref q]) ⟨hx, hb, hml, hown, hts⟩ (mX6_score l hfl D G A ad Z a1 (.inl v)  h) (cwV 1 hts gL_score_X6_score rfl rfl rfl (by decide +kernel) ⟨Nat.le_of_ble_eq_true rfl, Nat.le_of_ble_eq_true rfl⟩) (xg_preV hI hK hN hE va_S.rf rfl rfl (ci := 7) rfl) rfl rfl hl.1 rfl (lv_room (Nat.le_of_ble_eq_true rfl)) dL_score_4 ⟨Nat.le_of_ble_eq_true rfl, Nat.le_of_ble_eq_true rfl⟩) hS (fun _ _ h => Or.inl h) (fun _ h => Or.inl h) (fun _ _ h => Or.inl h) (fun E ce q9 u t H1 locs1 ht hvm hp hB hz hk hS1 hce hcv hcl => ?_) (fun r9 u t H1 locs1 ht hvm hw hB hz hk hS1 => ?_)
  · obtain ⟨⟨c9, h9, -⟩, -⟩ := hB
    cases h9
  · have hq1 : va_at D vwCl (q, .inl (cJ, 1, .inr (.inl f))) H1 := hq.kept (hk q hq.lt hnq)
    obtain ⟨h9, rfl⟩ := hw
    cases h9
    have h00 : ad 0 0 = ad 0 0 := rfl
    have hI1 := hB.1
    have hN1 := hB.2.1
    rw [ht] at hN1
    clear hB hk hz
    refine lv_i2l hx hb (v := v.toInt64) dL_score_7 rfl ?_
    refine lg_last hx hb hKJ hq1 hN1 hI1 hnq hS1 dL_score_8 (fun H2 locs2 hq1 hN1 hS1 => ?_)
    refine lv_goto (tgt := 18) hx hb dL_score_9 (by decide) ?_
    refine lv_iconst (v := 0) hx hb dL_score_18 (by decide) ?_
    exact vx_ret (W.widen (k := 2) (n := 12) (by decide) (by decide) (W.iret hx hb hr (lg_end (P := (fun f1 => f1 0 = v.toInt64)) (if_pos rfl) h00 hI1 hK hN1 hq1 hS1) (fun z hz => hS1.2.2 z hz) dL_score_19))
set_option maxHeartbeats 4000000 in
set_option maxRecDepth 100000 in
theorem mL_score_x1 (l : Launch) (hfl : l.stackTraces = false) (D : va_G) (G : CGT) (A : Nat → Prop) (ad : Nat → Nat → Nat) (Z : CZ) (cJ : ClassId) (q : Nat) (f : Nat → Int64) (a1 : Int32) (h : fX6_score a1 Z = some (.inr 1 : Int32 ⊕ Int32)) : vx_Met l yL_score wsL_score rmL_score (va_Pc [.ref (ad 0 0), .int a1, .ref q] (lP D G A ad Z cJ q f)) (lQ D G A ad 1 Z cJ q (fun _ => True)) (fun _ _ _ => False) 2 12 (fun y => A y ∨ y = q) := by
  refine vx_ofWH (cc := cL_score) (maxL := 4) (ret := some .int) (hh := [(0, 9, 12, 21), (0, 9, 15, 15)]) (by decide) rfl ?_
  intro p e s m args below meth c s₁ B hml hv
  obtain ⟨rfl, ⟨⟨⟨hI, hN, hK⟩, hE⟩, hF, hA⟩, hq, hKJ, hNc, hnq⟩ := hv
  have hx := B.exec
  have hb := B.bytes
  have hr := B.returns
  have hts := atoms_spec (ws := wsL_score) B.pre
  have hown : s.vm.findClass RL = some m.cls := findClass_of_methodNamed B.named
  have hlocks := B.notSynchronized
  have l0 := hts (.classLink RL 21 "java/lang/IndexOutOfBoundsException") (List.mem_of_getElem? (i := 1) rfl)
  have htab := vx_table (x := yL_score) B (hts _ (List.mem_cons_self))
  have hS : va_S (fun y => A y ∨ y = q) s.heap s.heap [] := va_S.rf
  have hl := lv_entry ([.ref (ad 0 0), .int a1, .ref q]) (n := 4) (Nat.le_of_ble_eq_true rfl)
  rw [lg_entry_eq]
  generalize (lg_sl ([.ref (ad 0 0), .int a1, .ref q]) ++ List.replicate (4 - (lg_sl ([.ref (ad 0 0), .int a1, .ref q])).length) Slot.unset).toArray = ls at hl ⊢
  have hl : lv_has ls 4 [(0, .ref (ad 0 0)), (1, .int a1), (2, .ref q)] := hl
  refine lv_aload_n hx hb dL_score_0 rfl (lv_at hl 2 rfl) ?_
  refine lv_iconst (v := 0) hx hb dL_score_1 (by decide) ?_
  refine lv_aload_n hx hb dL_score_2 rfl (lv_at hl 0 rfl) ?_
  refine lv_iload_n hx hb dL_score_3 rfl (lv_at hl 1 rfl) ?_
  refine vx_calli (A0 := fun y => A y ∨ y = q) (vx_runV (As := [.int a1]) (rest := [.int 0, .ref q]) ⟨hx, hb, hml, hown, hts⟩ (mX6_score l hfl D G A ad Z a1 (.inr 1)  h) (cwV 1 hts gL_score_X6_score rfl rfl rfl (by decide +kernel) ⟨Nat.le_of_ble_eq_true rfl, Nat.le_of_ble_eq_true rfl⟩) (xg_preV hI hK hN hE va_S.rf rfl rfl (ci := 7) rfl) rfl rfl hl.1 rfl (lv_room (Nat.le_of_ble_eq_true rfl)) dL_score_4 ⟨Nat.le_of_ble_eq_true rfl, Nat.le_of_ble_eq_true rfl⟩) hS (fun _ _ h => Or.inl h) (fun _ h => Or.inl h) (fun _ _ h => Or.inl h) (fun E ce q9 u t H1 locs1 ht hvm hp hB hz hk hS1 hce hcv hcl => ?_) (fun r9 u t H1 locs1 ht hvm hw hB hz hk hS1 => ?_)
  · have hq1 : va_at D vwCl (q, .inl (cJ, 1, .inr (.inl f))) H1 := hq.kept (hk q hq.lt hnq)
    obtain ⟨⟨c9, h9, h8⟩, hB⟩ := hB
    cases h9
    have hE9 : E = "java/lang/IndexOutOfBoundsException" := h8.trans (by decide)
    subst hE9
    subst hp
    have hI1 := hB.1
    have hN1 := hB.2.1
    rw [ht] at hN1
    refine vx_catch hown (name := "java/lang/IndexOutOfBoundsException") [] ⟨0, 9, 12, 21⟩ [⟨0, 9, 15, 15⟩] htab (fun z hz => by simp at hz) (by decide) (by decide) l0 (va_Nw.use rfl (hE.1.2 _ (by decide))) hce hcv hcl ?_
    refine lv_astore_n (lv' := [(3, .ref q9), (0, .ref (ad 0 0)), (1, .int a1), (2, .ref q)]) hx hb dL_score_12 rfl hl (by decide) rfl (fun ls hl => ?_)
    refine lv_iconst (v := 1) hx hb dL_score_13 (by decide) ?_
    exact vx_ret (W.widen (k := 2) (n := 12) (by decide) (by decide) (W.iret hx hb hr (lg_end (P := fun _ => True) trivial rfl hI1 hK hN1 hq1 hS1) (fun z hz => hS1.2.2 z hz) dL_score_14))
  · cases hw.1
set_option maxHeartbeats 4000000 in
set_option maxRecDepth 100000 in
theorem mL_score_x2 (l : Launch) (hfl : l.stackTraces = false) (D : va_G) (G : CGT) (A : Nat → Prop) (ad : Nat → Nat → Nat) (Z : CZ) (cJ : ClassId) (q : Nat) (f : Nat → Int64) (a1 : Int32) (h : fX6_score a1 Z = some (.inr 3 : Int32 ⊕ Int32)) : vx_Met l yL_score wsL_score rmL_score (va_Pc [.ref (ad 0 0), .int a1, .ref q] (lP D G A ad Z cJ q f)) (lQ D G A ad 2 Z cJ q (fun _ => True)) (fun _ _ _ => False) 2 12 (fun y => A y ∨ y = q) := by
  refine vx_ofWH (cc := cL_score) (maxL := 4) (ret := some .int) (hh := [(0, 9, 12, 21), (0, 9, 15, 15)]) (by decide) rfl ?_
  intro p e s m args below meth c s₁ B hml hv
  obtain ⟨rfl, ⟨⟨⟨hI, hN, hK⟩, hE⟩, hF, hA⟩, hq, hKJ, hNc, hnq⟩ := hv
  have hx := B.exec
  have hb := B.bytes
  have hr := B.returns
  have hts := atoms_spec (ws := wsL_score) B.pre
  have hown : s.vm.findClass RL = some m.cls := findClass_of_methodNamed B.named
  have hlocks := B.notSynchronized
  have l0 := hts (.classLink RL 21 "java/lang/IndexOutOfBoundsException") (List.mem_of_getElem? (i := 1) rfl)
  have l1 := hts (.classLink RL 15 "java/lang/IllegalStateException") (List.mem_of_getElem? (i := 2) rfl)
  have htab := vx_table (x := yL_score) B (hts _ (List.mem_cons_self))
  have hS : va_S (fun y => A y ∨ y = q) s.heap s.heap [] := va_S.rf
  have hl := lv_entry ([.ref (ad 0 0), .int a1, .ref q]) (n := 4) (Nat.le_of_ble_eq_true rfl)
  rw [lg_entry_eq]
  generalize (lg_sl ([.ref (ad 0 0), .int a1, .ref q]) ++ List.replicate (4 - (lg_sl ([.ref (ad 0 0), .int a1, .ref q])).length) Slot.unset).toArray = ls at hl ⊢
  have hl : lv_has ls 4 [(0, .ref (ad 0 0)), (1, .int a1), (2, .ref q)] := hl
  refine lv_aload_n hx hb dL_score_0 rfl (lv_at hl 2 rfl) ?_
  refine lv_iconst (v := 0) hx hb dL_score_1 (by decide) ?_
  refine lv_aload_n hx hb dL_score_2 rfl (lv_at hl 0 rfl) ?_
  refine lv_iload_n hx hb dL_score_3 rfl (lv_at hl 1 rfl) ?_
  refine vx_calli (A0 := fun y => A y ∨ y = q) (vx_runV (As := [.int a1]) (rest := [.int 0, .ref q]) ⟨hx, hb, hml, hown, hts⟩ (mX6_score l hfl D G A ad Z a1 (.inr 3)  h) (cwV 1 hts gL_score_X6_score rfl rfl rfl (by decide +kernel) ⟨Nat.le_of_ble_eq_true rfl, Nat.le_of_ble_eq_true rfl⟩) (xg_preV hI hK hN hE va_S.rf rfl rfl (ci := 7) rfl) rfl rfl hl.1 rfl (lv_room (Nat.le_of_ble_eq_true rfl)) dL_score_4 ⟨Nat.le_of_ble_eq_true rfl, Nat.le_of_ble_eq_true rfl⟩) hS (fun _ _ h => Or.inl h) (fun _ h => Or.inl h) (fun _ _ h => Or.inl h) (fun E ce q9 u t H1 locs1 ht hvm hp hB hz hk hS1 hce hcv hcl => ?_) (fun r9 u t H1 locs1 ht hvm hw hB hz hk hS1 => ?_)
  · have hq1 : va_at D vwCl (q, .inl (cJ, 1, .inr (.inl f))) H1 := hq.kept (hk q hq.lt hnq)
    obtain ⟨⟨c9, h9, h8⟩, hB⟩ := hB
    cases h9
    have hE9 : E = "java/lang/IllegalStateException" := h8.trans (by decide)
    subst hE9
    subst hp
    have hI1 := hB.1
    have hN1 := hB.2.1
    rw [ht] at hN1
    have hpass : ∀ z ∈ ([⟨0, 9, 12, 21⟩] : List ExceptionTableEntry), covers z 4 = false ∨ (z.catchType ≠ 0 ∧ ∃ nm : String, (Cond.classLink RL z.catchType nm).before (([.ref (ad 0 0), .int a1, .ref q] : List Value).toArray) s = true ∧ va_Nc "java/lang/IllegalStateException" nm s) := by
      intro z hz
      simp only [List.mem_cons, List.not_mem_nil, or_false] at hz
      rcases hz with rfl
      · exact Or.inr ⟨by decide, _, l0, hNc _ (by decide) _ (by decide) (by decide)⟩
    refine vx_catch hown (name := "java/lang/IllegalStateException") [⟨0, 9, 12, 21⟩] ⟨0, 9, 15, 15⟩ [] htab hpass (by decide) (by decide) l1 (va_Nw.use rfl (hE.1.2 _ (by decide))) hce hcv hcl ?_
    refine lv_astore_n (lv' := [(3, .ref q9), (0, .ref (ad 0 0)), (1, .int a1), (2, .ref q)]) hx hb dL_score_15 rfl hl (by decide) rfl (fun ls hl => ?_)
    refine lv_iconst (v := 2) hx hb dL_score_16 (by decide) ?_
    exact vx_ret (W.widen (k := 2) (n := 12) (by decide) (by decide) (W.iret hx hb hr (lg_end (P := fun _ => True) trivial rfl hI1 hK hN1 hq1 hS1) (fun z hz => hS1.2.2 z hz) dL_score_17))
  · cases hw.1
def rmL_rank : Room := { frames := 8, cells := 1, slots := 6, locals := 186 }
set_option maxHeartbeats 4000000 in
set_option maxRecDepth 100000 in
theorem mL_rank (l : Launch) (hfl : l.stackTraces = false) (D : va_G) (G : CGT) (A : Nat → Prop) (ad : Nat → Nat → Nat) (Z : CZ) (cJ : ClassId) (q : Nat) (f : Nat → Int64) (a1 : Int32) (v : Int32) (h : fX6_rank a1 Z = some (.inl v : Int32 ⊕ Int32)) : vx_Met l yL_rank wsL_rank rmL_rank (va_Pc [.ref (ad 0 0), .int a1, .ref q] (lP D G A ad Z cJ q f)) (lQ D G A ad 0 Z cJ q (fun f1 => f1 0 = v.toInt64)) (fun _ _ _ => False) 1 6 (fun y => A y ∨ y = q) := by
  refine vx_ofWH (cc := cL_rank) (maxL := 4) (ret := some .int) (hh := [(0, 9, 12, 21)]) (by decide) rfl ?_
  intro p e s m args below meth c s₁ B hml hv
  obtain ⟨rfl, ⟨⟨⟨hI, hN, hK⟩, hE⟩, hF, hA⟩, hq, hKJ, hNc, hnq⟩ := hv
  have hx := B.exec
  have hb := B.bytes
  have hr := B.returns
  have hts := atoms_spec (ws := wsL_rank) B.pre
  have hown : s.vm.findClass RL = some m.cls := findClass_of_methodNamed B.named
  have hlocks := B.notSynchronized
  have htab := vx_table (x := yL_rank) B (hts _ (List.mem_cons_self))
  have hS : va_S (fun y => A y ∨ y = q) s.heap s.heap [] := va_S.rf
  have hl := lv_entry ([.ref (ad 0 0), .int a1, .ref q]) (n := 4) (Nat.le_of_ble_eq_true rfl)
  rw [lg_entry_eq]
  generalize (lg_sl ([.ref (ad 0 0), .int a1, .ref q]) ++ List.replicate (4 - (lg_sl ([.ref (ad 0 0), .int a1, .ref q])).length) Slot.unset).toArray = ls at hl ⊢
  have hl : lv_has ls 4 [(0, .ref (ad 0 0)), (1, .int a1), (2, .ref q)] := hl
  refine lv_aload_n hx hb dL_rank_0 rfl (lv_at hl 2 rfl) ?_
  refine lv_iconst (v := 0) hx hb dL_rank_1 (by decide) ?_
  refine lv_aload_n hx hb dL_rank_2 rfl (lv_at hl 0 rfl) ?_
  refine lv_iload_n hx hb dL_rank_3 rfl (lv_at hl 1 rfl) ?_
  refine vx_calli (A0 := fun y => A y ∨ y = q) (vx_runV (As := [.int a1]) (rest := [.int 0, .ref q]) ⟨hx, hb, hml, hown, hts⟩ (mX6_rank l hfl D G A ad Z a1 (.inl v)  h) (cwV 1 hts gL_rank_X6_rank rfl rfl rfl (by decide +kernel) ⟨Nat.le_of_ble_eq_true rfl, Nat.le_of_ble_eq_true rfl⟩) (xg_preV hI hK hN hE va_S.rf rfl rfl (ci := 7) rfl) rfl rfl hl.1 rfl (lv_room (Nat.le_of_ble_eq_true rfl)) dL_rank_4 ⟨Nat.le_of_ble_eq_true rfl, Nat.le_of_ble_eq_true rfl⟩) hS (fun _ _ h => Or.inl h) (fun _ h => Or.inl h) (fun _ _ h => Or.inl h) (fun E ce q9 u t H1 locs1 ht hvm hp hB hz hk hS1 hce hcv hcl => ?_) (fun r9 u t H1 locs1 ht hvm hw hB hz hk hS1 => ?_)
  · obtain ⟨⟨c9, h9, -⟩, -⟩ := hB
    cases h9
  · have hq1 : va_at D vwCl (q, .inl (cJ, 1, .inr (.inl f))) H1 := hq.kept (hk q hq.lt hnq)
    obtain ⟨h9, rfl⟩ := hw
    cases h9
    have h00 : ad 0 0 = ad 0 0 := rfl
    have hI1 := hB.1
    have hN1 := hB.2.1
    rw [ht] at hN1
    clear hB hk hz
    refine lv_i2l hx hb (v := v.toInt64) dL_rank_7 rfl ?_
    refine lg_last hx hb hKJ hq1 hN1 hI1 hnq hS1 dL_rank_8 (fun H2 locs2 hq1 hN1 hS1 => ?_)
    refine lv_goto (tgt := 15) hx hb dL_rank_9 (by decide) ?_
    refine lv_iconst (v := 0) hx hb dL_rank_15 (by decide) ?_
    exact vx_ret (W.widen (k := 1) (n := 6) (by decide) (by decide) (W.iret hx hb hr (lg_end (P := (fun f1 => f1 0 = v.toInt64)) (if_pos rfl) h00 hI1 hK hN1 hq1 hS1) (fun z hz => hS1.2.2 z hz) dL_rank_16))
set_option maxHeartbeats 4000000 in
set_option maxRecDepth 100000 in
theorem mL_rank_x1 (l : Launch) (hfl : l.stackTraces = false) (D : va_G) (G : CGT) (A : Nat → Prop) (ad : Nat → Nat → Nat) (Z : CZ) (cJ : ClassId) (q : Nat) (f : Nat → Int64) (a1 : Int32) (h : fX6_rank a1 Z = some (.inr 1 : Int32 ⊕ Int32)) : vx_Met l yL_rank wsL_rank rmL_rank (va_Pc [.ref (ad 0 0), .int a1, .ref q] (lP D G A ad Z cJ q f)) (lQ D G A ad 1 Z cJ q (fun _ => True)) (fun _ _ _ => False) 1 6 (fun y => A y ∨ y = q) := by
  refine vx_ofWH (cc := cL_rank) (maxL := 4) (ret := some .int) (hh := [(0, 9, 12, 21)]) (by decide) rfl ?_
  intro p e s m args below meth c s₁ B hml hv
  obtain ⟨rfl, ⟨⟨⟨hI, hN, hK⟩, hE⟩, hF, hA⟩, hq, hKJ, hNc, hnq⟩ := hv
  have hx := B.exec
  have hb := B.bytes
  have hr := B.returns
  have hts := atoms_spec (ws := wsL_rank) B.pre
  have hown : s.vm.findClass RL = some m.cls := findClass_of_methodNamed B.named
  have hlocks := B.notSynchronized
  have l0 := hts (.classLink RL 21 "java/lang/IndexOutOfBoundsException") (List.mem_of_getElem? (i := 1) rfl)
  have htab := vx_table (x := yL_rank) B (hts _ (List.mem_cons_self))
  have hS : va_S (fun y => A y ∨ y = q) s.heap s.heap [] := va_S.rf
  have hl := lv_entry ([.ref (ad 0 0), .int a1, .ref q]) (n := 4) (Nat.le_of_ble_eq_true rfl)
  rw [lg_entry_eq]
  generalize (lg_sl ([.ref (ad 0 0), .int a1, .ref q]) ++ List.replicate (4 - (lg_sl ([.ref (ad 0 0), .int a1, .ref q])).length) Slot.unset).toArray = ls at hl ⊢
  have hl : lv_has ls 4 [(0, .ref (ad 0 0)), (1, .int a1), (2, .ref q)] := hl
  refine lv_aload_n hx hb dL_rank_0 rfl (lv_at hl 2 rfl) ?_
  refine lv_iconst (v := 0) hx hb dL_rank_1 (by decide) ?_
  refine lv_aload_n hx hb dL_rank_2 rfl (lv_at hl 0 rfl) ?_
  refine lv_iload_n hx hb dL_rank_3 rfl (lv_at hl 1 rfl) ?_
  refine vx_calli (A0 := fun y => A y ∨ y = q) (vx_runV (As := [.int a1]) (rest := [.int 0, .ref q]) ⟨hx, hb, hml, hown, hts⟩ (mX6_rank l hfl D G A ad Z a1 (.inr 1)  h) (cwV 1 hts gL_rank_X6_rank rfl rfl rfl (by decide +kernel) ⟨Nat.le_of_ble_eq_true rfl, Nat.le_of_ble_eq_true rfl⟩) (xg_preV hI hK hN hE va_S.rf rfl rfl (ci := 7) rfl) rfl rfl hl.1 rfl (lv_room (Nat.le_of_ble_eq_true rfl)) dL_rank_4 ⟨Nat.le_of_ble_eq_true rfl, Nat.le_of_ble_eq_true rfl⟩) hS (fun _ _ h => Or.inl h) (fun _ h => Or.inl h) (fun _ _ h => Or.inl h) (fun E ce q9 u t H1 locs1 ht hvm hp hB hz hk hS1 hce hcv hcl => ?_) (fun r9 u t H1 locs1 ht hvm hw hB hz hk hS1 => ?_)
  · have hq1 : va_at D vwCl (q, .inl (cJ, 1, .inr (.inl f))) H1 := hq.kept (hk q hq.lt hnq)
    obtain ⟨⟨c9, h9, h8⟩, hB⟩ := hB
    cases h9
    have hE9 : E = "java/lang/IndexOutOfBoundsException" := h8.trans (by decide)
    subst hE9
    subst hp
    have hI1 := hB.1
    have hN1 := hB.2.1
    rw [ht] at hN1
    refine vx_catch hown (name := "java/lang/IndexOutOfBoundsException") [] ⟨0, 9, 12, 21⟩ [] htab (fun z hz => by simp at hz) (by decide) (by decide) l0 (va_Nw.use rfl (hE.1.2 _ (by decide))) hce hcv hcl ?_
    refine lv_astore_n (lv' := [(3, .ref q9), (0, .ref (ad 0 0)), (1, .int a1), (2, .ref q)]) hx hb dL_rank_12 rfl hl (by decide) rfl (fun ls hl => ?_)
    refine lv_iconst (v := 1) hx hb dL_rank_13 (by decide) ?_
    exact vx_ret (W.widen (k := 1) (n := 6) (by decide) (by decide) (W.iret hx hb hr (lg_end (P := fun _ => True) trivial rfl hI1 hK hN1 hq1 hS1) (fun z hz => hS1.2.2 z hz) dL_rank_14))
  · cases hw.1
