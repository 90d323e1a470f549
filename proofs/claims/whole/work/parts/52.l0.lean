def rmL_pan : Room := { frames := 9, cells := 16, slots := 96, locals := 306 }
set_option maxHeartbeats 4000000 in
set_option maxRecDepth 100000 in
theorem mL_pan (l : Launch) (hfl : l.stackTraces = false) (D : va_G) (G : CGT) (A : Nat → Prop) (ad : Nat → Nat → Nat) (Z : CZ) (cJ : ClassId) (q : Nat) (f : Nat → Int64) (a1 : Int32) (a2 : Int32) (a3 : Int32) (a4 : Int32) (v : Int32) (Zz : CZ) (h : fX6_pan a1 a2 a3 a4 Z = some ((.inl v : Int32 ⊕ Int32), Zz)) : vx_Met l yL_pan wsL_pan rmL_pan (va_Pc [.ref (ad 0 0), .int a1, .int a2, .int a3, .int a4, .ref q] (lP D G A ad Z cJ q f)) (lQ D G A ad 0 Zz cJ q (fun f1 => f1 0 = v.toInt64)) (fun _ _ _ => False) 16 96 (fun y => A y ∨ y = q) := by
  refine vx_ofWH (cc := cL_pan) (maxL := 7) (ret := some .int) (hh := [(0, 14, 17, 13), (0, 14, 21, 15)]) (by decide) rfl ?_
  intro p e s m args below meth c s₁ B hml hv
  obtain ⟨rfl, ⟨⟨⟨hI, hN, hK⟩, hE⟩, hF, hA⟩, hq, hKJ, hNc, hnq⟩ := hv
  have hx := B.exec
  have hb := B.bytes
  have hr := B.returns
  have hts := atoms_spec (ws := wsL_pan) B.pre
  have hown : s.vm.findClass RL = some m.cls := findClass_of_methodNamed B.named
  have hlocks := B.notSynchronized
  have htab := vx_table (x := yL_pan) B (hts _ (List.mem_cons_self))
  have hS : va_S (fun y => A y ∨ y = q) s.heap s.heap [] := va_S.rf
  have hl := lv_entry ([.ref (ad 0 0), .int a1, .int a2, .int a3, .int a4, .ref q]) (n := 7) (Nat.le_of_ble_eq_true rfl)
  rw [lg_entry_eq]
  generalize (lg_sl ([.ref (ad 0 0), .int a1, .int a2, .int a3, .int a4, .ref q]) ++ List.replicate (7 - (lg_sl ([.ref (ad 0 0), .int a1, .int a2, .int a3, .int a4, .ref q])).length) Slot.unset).toArray = ls at hl ⊢
  have hl : lv_has ls 7 [(0, .ref (ad 0 0)), (1, .int a1), (2, .int a2), (3, .int a3), (4, .int a4), (5, .ref q)] := hl
  refine lv_aload hx hb dL_pan_0 (lv_at hl 5 rfl) ?_
  refine lv_iconst (v := 0) hx hb dL_pan_2 (by decide) ?_
  refine lv_aload_n hx hb dL_pan_3 rfl (lv_at hl 0 rfl) ?_
  refine lv_iload_n hx hb dL_pan_4 rfl (lv_at hl 1 rfl) ?_
  refine lv_iload_n hx hb dL_pan_5 rfl (lv_at hl 2 rfl) ?_
  refine lv_iload_n hx hb dL_pan_6 rfl (lv_at hl 3 rfl) ?_
  refine lv_iload hx hb dL_pan_7 (lv_at hl 4 rfl) ?_
  refine vx_calli (A0 := fun y => A y ∨ y = q) (vx_runV (As := [.int a1, .int a2, .int a3, .int a4]) (rest := [.int 0, .ref q]) ⟨hx, hb, hml, hown, hts⟩ (mX6_pan l hfl D G A ad Z a1 a2 a3 a4 (.inl v) Zz h) (cwV 4 hts gL_pan_X6_pan rfl rfl rfl (by decide +kernel) ⟨Nat.le_of_ble_eq_true rfl, Nat.le_of_ble_eq_true rfl⟩) (lg_preV hI hK hN hE hF hA) rfl rfl hl.1 rfl (lv_room (Nat.le_of_ble_eq_true rfl)) dL_pan_9 ⟨Nat.le_of_ble_eq_true rfl, Nat.le_of_ble_eq_true rfl⟩) hS (fun _ _ h => Or.inl h) (fun _ h => Or.inl h) (fun _ _ h => Or.inl h) (fun E ce q9 u t H1 locs1 ht hvm hp hB hz hk hS1 hce hcv hcl => ?_) (fun r9 u t H1 locs1 ht hvm hw hB hz hk hS1 => ?_)
  · obtain ⟨⟨c9, h9, -⟩, -⟩ := hB
    cases h9
  · have hq1 : va_at D vwCl (q, .inl (cJ, 1, .inr (.inl f))) H1 := hq.kept (hk q hq.lt hnq)
    obtain ⟨u1, ad1⟩ := u
    obtain ⟨h9, rfl, h00⟩ := hw
    cases h9
    have hI1 := hB.1
    have hN1 := hB.2.1
    rw [ht] at hN1
    clear hB hk hz
    refine lv_i2l hx hb (v := v.toInt64) dL_pan_12 rfl ?_
    refine lg_last hx hb hKJ hq1 hN1 hI1 hnq hS1 dL_pan_13 (fun H2 locs2 hq1 hN1 hS1 => ?_)
    refine lv_goto (tgt := 25) hx hb dL_pan_14 (by decide) ?_
    refine lv_iconst (v := 0) hx hb dL_pan_25 (by decide) ?_
    exact vx_ret (W.widen (k := 16) (n := 96) (by decide) (by decide) (W.iret hx hb hr (lg_end (P := (fun f1 => f1 0 = v.toInt64)) (if_pos rfl) h00 hI1 hK hN1 hq1 hS1) (fun z hz => hS1.2.2 z hz) dL_pan_26))
set_option maxHeartbeats 4000000 in
set_option maxRecDepth 100000 in
theorem mL_pan_x1 (l : Launch) (hfl : l.stackTraces = false) (D : va_G) (G : CGT) (A : Nat → Prop) (ad : Nat → Nat → Nat) (Z : CZ) (cJ : ClassId) (q : Nat) (f : Nat → Int64) (a1 : Int32) (a2 : Int32) (a3 : Int32) (a4 : Int32) (Zz : CZ) (h : fX6_pan a1 a2 a3 a4 Z = some ((.inr 2 : Int32 ⊕ Int32), Zz)) : vx_Met l yL_pan wsL_pan rmL_pan (va_Pc [.ref (ad 0 0), .int a1, .int a2, .int a3, .int a4, .ref q] (lP D G A ad Z cJ q f)) (lQ D G A ad 1 Zz cJ q (fun _ => True)) (fun _ _ _ => False) 16 96 (fun y => A y ∨ y = q) := by
  refine vx_ofWH (cc := cL_pan) (maxL := 7) (ret := some .int) (hh := [(0, 14, 17, 13), (0, 14, 21, 15)]) (by decide) rfl ?_
  intro p e s m args below meth c s₁ B hml hv
  obtain ⟨rfl, ⟨⟨⟨hI, hN, hK⟩, hE⟩, hF, hA⟩, hq, hKJ, hNc, hnq⟩ := hv
  have hx := B.exec
  have hb := B.bytes
  have hr := B.returns
  have hts := atoms_spec (ws := wsL_pan) B.pre
  have hown : s.vm.findClass RL = some m.cls := findClass_of_methodNamed B.named
  have hlocks := B.notSynchronized
  have l0 := hts (.classLink RL 13 "java/lang/IllegalArgumentException") (List.mem_of_getElem? (i := 1) rfl)
  have htab := vx_table (x := yL_pan) B (hts _ (List.mem_cons_self))
  have hS : va_S (fun y => A y ∨ y = q) s.heap s.heap [] := va_S.rf
  have hl := lv_entry ([.ref (ad 0 0), .int a1, .int a2, .int a3, .int a4, .ref q]) (n := 7) (Nat.le_of_ble_eq_true rfl)
  rw [lg_entry_eq]
  generalize (lg_sl ([.ref (ad 0 0), .int a1, .int a2, .int a3, .int a4, .ref q]) ++ List.replicate (7 - (lg_sl ([.ref (ad 0 0), .int a1, .int a2, .int a3, .int a4, .ref q])).length) Slot.unset).toArray = ls at hl ⊢
  have hl : lv_has ls 7 [(0, .ref (ad 0 0)), (1, .int a1), (2, .int a2), (3, .int a3), (4, .int a4), (5, .ref q)] := hl
  refine lv_aload hx hb dL_pan_0 (lv_at hl 5 rfl) ?_
  refine lv_iconst (v := 0) hx hb dL_pan_2 (by decide) ?_
  refine lv_aload_n hx hb dL_pan_3 rfl (lv_at hl 0 rfl) ?_
  refine lv_iload_n hx hb dL_pan_4 rfl (lv_at hl 1 rfl) ?_
  refine lv_iload_n hx hb dL_pan_5 rfl (lv_at hl 2 rfl) ?_
  refine lv_iload_n hx hb dL_pan_6 rfl (lv_at hl 3 rfl) ?_
  refine lv_iload hx hb dL_pan_7 (lv_at hl 4 rfl) ?_
  refine vx_calli (A0 := fun y => A y ∨ y = q) (vx_runV (As := [.int a1, .int a2, .int a3, .int a4]) (rest := [.int 0, .ref q]) ⟨hx, hb, hml, hown, hts⟩ (mX6_pan l hfl D G A ad Z a1 a2 a3 a4 (.inr 2) Zz h) (cwV 4 hts gL_pan_X6_pan rfl rfl rfl (by decide +kernel) ⟨Nat.le_of_ble_eq_true rfl, Nat.le_of_ble_eq_true rfl⟩) (lg_preV hI hK hN hE hF hA) rfl rfl hl.1 rfl (lv_room (Nat.le_of_ble_eq_true rfl)) dL_pan_9 ⟨Nat.le_of_ble_eq_true rfl, Nat.le_of_ble_eq_true rfl⟩) hS (fun _ _ h => Or.inl h) (fun _ h => Or.inl h) (fun _ _ h => Or.inl h) (fun E ce q9 u t H1 locs1 ht hvm hp hB hz hk hS1 hce hcv hcl => ?_) (fun r9 u t H1 locs1 ht hvm hw hB hz hk hS1 => ?_)
  · have hq1 : va_at D vwCl (q, .inl (cJ, 1, .inr (.inl f))) H1 := hq.kept (hk q hq.lt hnq)
    obtain ⟨⟨c9, h9, h8⟩, hB⟩ := hB
    cases h9
    have hE9 : E = "java/lang/IllegalArgumentException" := h8.trans (by decide)
    subst hE9
    subst hp
    have hI1 := hB.1
    have hN1 := hB.2.1
    rw [ht] at hN1
    refine vx_catch hown (name := "java/lang/IllegalArgumentException") [] ⟨0, 14, 17, 13⟩ [⟨0, 14, 21, 15⟩] htab (fun z hz => by simp at hz) (by decide) (by decide) l0 (va_Nw.use rfl (hE.1.2 _ (by decide))) hce hcv hcl ?_
    refine lv_astore (lv' := [(6, .ref q9), (0, .ref (ad 0 0)), (1, .int a1), (2, .int a2), (3, .int a3), (4, .int a4), (5, .ref q)]) hx hb dL_pan_17 hl (by decide) rfl (fun ls hl => ?_)
    refine lv_iconst (v := 1) hx hb dL_pan_19 (by decide) ?_
    exact vx_ret (W.widen (k := 16) (n := 96) (by decide) (by decide) (W.iret hx hb hr (lg_end (P := fun _ => True) trivial rfl hI1 hK hN1 hq1 hS1) (fun z hz => hS1.2.2 z hz) dL_pan_20))
  · cases hw.1
set_option maxHeartbeats 4000000 in
set_option maxRecDepth 100000 in
theorem mL_pan_x2 (l : Launch) (hfl : l.stackTraces = false) (D : va_G) (G : CGT) (A : Nat → Prop) (ad : Nat → Nat → Nat) (Z : CZ) (cJ : ClassId) (q : Nat) (f : Nat → Int64) (a1 : Int32) (a2 : Int32) (a3 : Int32) (a4 : Int32) (Zz : CZ) (h : fX6_pan a1 a2 a3 a4 Z = some ((.inr 3 : Int32 ⊕ Int32), Zz)) : vx_Met l yL_pan wsL_pan rmL_pan (va_Pc [.ref (ad 0 0), .int a1, .int a2, .int a3, .int a4, .ref q] (lP D G A ad Z cJ q f)) (lQ D G A ad 2 Zz cJ q (fun _ => True)) (fun _ _ _ => False) 16 96 (fun y => A y ∨ y = q) := by
  refine vx_ofWH (cc := cL_pan) (maxL := 7) (ret := some .int) (hh := [(0, 14, 17, 13), (0, 14, 21, 15)]) (by decide) rfl ?_
  intro p e s m args below meth c s₁ B hml hv
  obtain ⟨rfl, ⟨⟨⟨hI, hN, hK⟩, hE⟩, hF, hA⟩, hq, hKJ, hNc, hnq⟩ := hv
  have hx := B.exec
  have hb := B.bytes
  have hr := B.returns
  have hts := atoms_spec (ws := wsL_pan) B.pre
  have hown : s.vm.findClass RL = some m.cls := findClass_of_methodNamed B.named
  have hlocks := B.notSynchronized
  have l0 := hts (.classLink RL 13 "java/lang/IllegalArgumentException") (List.mem_of_getElem? (i := 1) rfl)
  have l1 := hts (.classLink RL 15 "java/lang/IllegalStateException") (List.mem_of_getElem? (i := 2) rfl)
  have htab := vx_table (x := yL_pan) B (hts _ (List.mem_cons_self))
  have hS : va_S (fun y => A y ∨ y = q) s.heap s.heap [] := va_S.rf
  have hl := lv_entry ([.ref (ad 0 0), .int a1, .int a2, .int a3, .int a4, .ref q]) (n := 7) (Nat.le_of_ble_eq_true rfl)
  rw [lg_entry_eq]
  generalize (lg_sl ([.ref (ad 0 0), .int a1, .int a2, .int a3, .int a4, .ref q]) ++ List.replicate (7 - (lg_sl ([.ref (ad 0 0), .int a1, .int a2, .int a3, .int a4, .ref q])).length) Slot.unset).toArray = ls at hl ⊢
  have hl : lv_has ls 7 [(0, .ref (ad 0 0)), (1, .int a1), (2, .int a2), (3, .int a3), (4, .int a4), (5, .ref q)] := hl
  refine lv_aload hx hb dL_pan_0 (lv_at hl 5 rfl) ?_
  refine lv_iconst (v := 0) hx hb dL_pan_2 (by decide) ?_
  refine lv_aload_n hx hb dL_pan_3 rfl (lv_at hl 0 rfl) ?_
  refine lv_iload_n hx hb dL_pan_4 rfl (lv_at hl 1 rfl) ?_
  refine lv_iload_n hx hb dL_pan_5 rfl (lv_at hl 2 rfl) ?_
  refine lv_iload_n hx hb dL_pan_6 rfl (lv_at hl 3 rfl) ?_
  refine lv_iload hx hb dL_pan_7 (lv_at hl 4 rfl) ?_
  refine vx_calli (A0 := fun y => A y ∨ y = q) (vx_runV (As := [.int a1, .int a2, .int a3, .int a4]) (rest := [.int 0, .ref q]) ⟨hx, hb, hml, hown, hts⟩ (mX6_pan l hfl D G A ad Z a1 a2 a3 a4 (.inr 3) Zz h) (cwV 4 hts gL_pan_X6_pan rfl rfl rfl (by decide +kernel) ⟨Nat.le_of_ble_eq_true rfl, Nat.le_of_ble_eq_true rfl⟩) (lg_preV hI hK hN hE hF hA) rfl rfl hl.1 rfl (lv_room (Nat.le_of_ble_eq_true rfl)) dL_pan_9 ⟨Nat.le_of_ble_eq_true rfl, Nat.le_of_ble_eq_true rfl⟩) hS (fun _ _ h => Or.inl h) (fun _ h => Or.inl h) (fun _ _ h => Or.inl h) (fun E ce q9 u t H1 locs1 ht hvm hp hB hz hk hS1 hce hcv hcl => ?_) (fun r9 u t H1 locs1 ht hvm hw hB hz hk hS1 => ?_)
  · have hq1 : va_at D vwCl (q, .inl (cJ, 1, .inr (.inl f))) H1 := hq.kept (hk q hq.lt hnq)
    obtain ⟨⟨c9, h9, h8⟩, hB⟩ := hB
    cases h9
    have hE9 : E = "java/lang/IllegalStateException" := h8.trans (by decide)
    subst hE9
    subst hp
    have hI1 := hB.1
    have hN1 := hB.2.1
    rw [ht] at hN1
    have hpass : ∀ z ∈ ([⟨0, 14, 17, 13⟩] : List ExceptionTableEntry), covers z 9 = false ∨ (z.catchType ≠ 0 ∧ ∃ nm : String, (Cond.classLink RL z.catchType nm).before (([.ref (ad 0 0), .int a1, .int a2, .int a3, .int a4, .ref q] : List Value).toArray) s = true ∧ va_Nc "java/lang/IllegalStateException" nm s) := by
      intro z hz
      simp only [List.mem_cons, List.not_mem_nil, or_false] at hz
      rcases hz with rfl
      · exact Or.inr ⟨by decide, _, l0, hNc _ (by decide) _ (by decide) (by decide)⟩
    refine vx_catch hown (name := "java/lang/IllegalStateException") [⟨0, 14, 17, 13⟩] ⟨0, 14, 21, 15⟩ [] htab hpass (by decide) (by decide) l1 (va_Nw.use rfl (hE.1.2 _ (by decide))) hce hcv hcl ?_
    refine lv_astore (lv' := [(6, .ref q9), (0, .ref (ad 0 0)), (1, .int a1), (2, .int a2), (3, .int a3), (4, .int a4), (5, .ref q)]) hx hb dL_pan_21 hl (by decide) rfl (fun ls hl => ?_)
    refine lv_iconst (v := 2) hx hb dL_pan_23 (by decide) ?_
    exact vx_ret (W.widen (k := 16) (n := 96) (by decide) (by decide) (W.iret hx hb hr (lg_end (P := fun _ => True) trivial rfl hI1 hK hN1 hq1 hS1) (fun z hz => hS1.2.2 z hz) dL_pan_24))
  · cases hw.1
def rmL_blow : Room := { frames := 9, cells := 4, slots := 24, locals := 167 }
set_option maxHeartbeats 4000000 in
set_option maxRecDepth 100000 in
theorem mL_blow (l : Launch) (hfl : l.stackTraces = false) (D : va_G) (G : CGT) (A : Nat → Prop) (ad : Nat → Nat → Nat) (Z : CZ) (cJ : ClassId) (q : Nat) (f : Nat → Int64) (a1 : Int32) (a2 : Int32) (a3 : Int32) (a4 : Int32) (v : Int32) (Zz : CZ) (h : fX6_blow a1 a2 a3 a4 Z = some ((.inl v : Int32 ⊕ Int32), Zz)) : vx_Met l yL_blow wsL_blow rmL_blow (va_Pc [.ref (ad 0 0), .int a1, .int a2, .int a3, .int a4, .ref q] (lP D G A ad Z cJ q f)) (lQ D G A ad 0 Zz cJ q (fun f1 => f1 0 = v.toInt64)) (fun _ _ _ => False) 4 24 (fun y => A y ∨ y = q) := by
  refine vx_ofWH (cc := cL_blow) (maxL := 7) (ret := some .int) (hh := [(0, 14, 17, 21), (0, 14, 21, 13), (0, 14, 25, 15)]) (by decide) rfl ?_
  intro p e s m args below meth c s₁ B hml hv
  obtain ⟨rfl, ⟨⟨⟨hI, hN, hK⟩, hE⟩, hF, hA⟩, hq, hKJ, hNc, hnq⟩ := hv
  have hx := B.exec
  have hb := B.bytes
  have hr := B.returns
  have hts := atoms_spec (ws := wsL_blow) B.pre
  have hown : s.vm.findClass RL = some m.cls := findClass_of_methodNamed B.named
  have hlocks := B.notSynchronized
  have htab := vx_table (x := yL_blow) B (hts _ (List.mem_cons_self))
  have hS : va_S (fun y => A y ∨ y = q) s.heap s.heap [] := va_S.rf
  have hl := lv_entry ([.ref (ad 0 0), .int a1, .int a2, .int a3, .int a4, .ref q]) (n := 7) (Nat.le_of_ble_eq_true rfl)
  rw [lg_entry_eq]
  generalize (lg_sl ([.ref (ad 0 0), .int a1, .int a2, .int a3, .int a4, .ref q]) ++ List.replicate (7 - (lg_sl ([.ref (ad 0 0), .int a1, .int a2, .int a3, .int a4, .ref q])).length) Slot.unset).toArray = ls at hl ⊢
  have hl : lv_has ls 7 [(0, .ref (ad 0 0)), (1, .int a1), (2, .int a2), (3, .int a3), (4, .int a4), (5, .ref q)] := hl
  refine lv_aload hx hb dL_blow_0 (lv_at hl 5 rfl) ?_
  refine lv_iconst (v := 0) hx hb dL_blow_2 (by decide) ?_
  refine lv_aload_n hx hb dL_blow_3 rfl (lv_at hl 0 rfl) ?_
  refine lv_iload_n hx hb dL_blow_4 rfl (lv_at hl 1 rfl) ?_
  refine lv_iload_n hx hb dL_blow_5 rfl (lv_at hl 2 rfl) ?_
  refine lv_iload_n hx hb dL_blow_6 rfl (lv_at hl 3 rfl) ?_
  refine lv_iload hx hb dL_blow_7 (lv_at hl 4 rfl) ?_
  refine vx_calli (A0 := fun y => A y ∨ y = q) (vx_runV (As := [.int a1, .int a2, .int a3, .int a4]) (rest := [.int 0, .ref q]) ⟨hx, hb, hml, hown, hts⟩ (mX6_blow l hfl D G A ad Z a1 a2 a3 a4 (.inl v) Zz h) (cwV 4 hts gL_blow_X6_blow rfl rfl rfl (by decide +kernel) ⟨Nat.le_of_ble_eq_true rfl, Nat.le_of_ble_eq_true rfl⟩) (xg_preV hI hK hN hE va_S.rf rfl rfl (ci := 7) rfl) rfl rfl hl.1 rfl (lv_room (Nat.le_of_ble_eq_true rfl)) dL_blow_9 ⟨Nat.le_of_ble_eq_true rfl, Nat.le_of_ble_eq_true rfl⟩) hS (fun _ _ h => Or.inl h) (fun _ h => Or.inl h) (fun _ _ h => Or.inl h) (fun E ce q9 u t H1 locs1 ht hvm hp hB hz hk hS1 hce hcv hcl => ?_) (fun r9 u t H1 locs1 ht hvm hw hB hz hk hS1 => ?_)
  · obtain ⟨⟨c9, h9, -⟩, -⟩ := hB
    cases h9
  · have hq1 : va_at D vwCl (q, .inl (cJ, 1, .inr (.inl f))) H1 := hq.kept (hk q hq.lt hnq)
    obtain ⟨h9, rfl⟩ := hw
    cases h9
    have h00 : ad 0 0 = ad 0 0 := rfl
    have hI1 := hB.1
    have hN1 := hB.2.1
    rw [ht] at hN1
    clear hB hk hz
    refine lv_i2l hx hb (v := v.toInt64) dL_blow_12 rfl ?_
    refine lg_last hx hb hKJ hq1 hN1 hI1 hnq hS1 dL_blow_13 (fun H2 locs2 hq1 hN1 hS1 => ?_)
    refine lv_goto (tgt := 29) hx hb dL_blow_14 (by decide) ?_
    refine lv_iconst (v := 0) hx hb dL_blow_29 (by decide) ?_
    exact vx_ret (W.widen (k := 4) (n := 24) (by decide) (by decide) (W.iret hx hb hr (lg_end (P := (fun f1 => f1 0 = v.toInt64)) (if_pos rfl) h00 hI1 hK hN1 hq1 hS1) (fun z hz => hS1.2.2 z hz) dL_blow_30))
set_option maxHeartbeats 4000000 in
set_option maxRecDepth 100000 in
theorem mL_blow_x1 (l : Launch) (hfl : l.stackTraces = false) (D : va_G) (G : CGT) (A : Nat → Prop) (ad : Nat → Nat → Nat) (Z : CZ) (cJ : ClassId) (q : Nat) (f : Nat → Int64) (a1 : Int32) (a2 : Int32) (a3 : Int32) (a4 : Int32) (Zz : CZ) (h : fX6_blow a1 a2 a3 a4 Z = some ((.inr 1 : Int32 ⊕ Int32), Zz)) : vx_Met l yL_blow wsL_blow rmL_blow (va_Pc [.ref (ad 0 0), .int a1, .int a2, .int a3, .int a4, .ref q] (lP D G A ad Z cJ q f)) (lQ D G A ad 1 Zz cJ q (fun _ => True)) (fun _ _ _ => False) 4 24 (fun y => A y ∨ y = q) := by
  refine vx_ofWH (cc := cL_blow) (maxL := 7) (ret := some .int) (hh := [(0, 14, 17, 21), (0, 14, 21, 13), (0, 14, 25, 15)]) (by decide) rfl ?_
  intro p e s m args below meth c s₁ B hml hv
  obtain ⟨rfl, ⟨⟨⟨hI, hN, hK⟩, hE⟩, hF, hA⟩, hq, hKJ, hNc, hnq⟩ := hv
  have hx := B.exec
  have hb := B.bytes
  have hr := B.returns
  have hts := atoms_spec (ws := wsL_blow) B.pre
  have hown : s.vm.findClass RL = some m.cls := findClass_of_methodNamed B.named
  have hlocks := B.notSynchronized
  have l0 := hts (.classLink RL 21 "java/lang/IndexOutOfBoundsException") (List.mem_of_getElem? (i := 1) rfl)
  have htab := vx_table (x := yL_blow) B (hts _ (List.mem_cons_self))
  have hS : va_S (fun y => A y ∨ y = q) s.heap s.heap [] := va_S.rf
  have hl := lv_entry ([.ref (ad 0 0), .int a1, .int a2, .int a3, .int a4, .ref q]) (n := 7) (Nat.le_of_ble_eq_true rfl)
  rw [lg_entry_eq]
  generalize (lg_sl ([.ref (ad 0 0), .int a1, .int a2, .int a3, .int a4, .ref q]) ++ List.replicate (7 - (lg_sl ([.ref (ad 0 0), .int a1, .int a2, .int a3, .int a4, .ref q])).length) Slot.unset).toArray = ls at hl ⊢
  have hl : lv_has ls 7 [(0, .ref (ad 0 0)), (1, .int a1), (2, .int a2), (3, .int a3), (4, .int a4), (5, .ref q)] := hl
  refine lv_aload hx hb dL_blow_0 (lv_at hl 5 rfl) ?_
  refine lv_iconst (v := 0) hx hb dL_blow_2 (by decide) ?_
  refine lv_aload_n hx hb dL_blow_3 rfl (lv_at hl 0 rfl) ?_
  refine lv_iload_n hx hb dL_blow_4 rfl (lv_at hl 1 rfl) ?_
  refine lv_iload_n hx hb dL_blow_5 rfl (lv_at hl 2 rfl) ?_
  refine lv_iload_n hx hb dL_blow_6 rfl (lv_at hl 3 rfl) ?_
  refine lv_iload hx hb dL_blow_7 (lv_at hl 4 rfl) ?_
  refine vx_calli (A0 := fun y => A y ∨ y = q) (vx_runV (As := [.int a1, .int a2, .int a3, .int a4]) (rest := [.int 0, .ref q]) ⟨hx, hb, hml, hown, hts⟩ (mX6_blow l hfl D G A ad Z a1 a2 a3 a4 (.inr 1) Zz h) (cwV 4 hts gL_blow_X6_blow rfl rfl rfl (by decide +kernel) ⟨Nat.le_of_ble_eq_true rfl, Nat.le_of_ble_eq_true rfl⟩) (xg_preV hI hK hN hE va_S.rf rfl rfl (ci := 7) rfl) rfl rfl hl.1 rfl (lv_room (Nat.le_of_ble_eq_true rfl)) dL_blow_9 ⟨Nat.le_of_ble_eq_true rfl, Nat.le_of_ble_eq_true rfl⟩) hS (fun _ _ h => Or.inl h) (fun _ h => Or.inl h) (fun _ _ h => Or.inl h) (fun E ce q9 u t H1 locs1 ht hvm hp hB hz hk hS1 hce hcv hcl => ?_) (fun r9 u t H1 locs1 ht hvm hw hB hz hk hS1 => ?_)
  · have hq1 : va_at D vwCl (q, .inl (cJ, 1, .inr (.inl f))) H1 := hq.kept (hk q hq.lt hnq)
    obtain ⟨⟨c9, h9, h8⟩, hB⟩ := hB
    cases h9
    have hE9 : E = "java/lang/IndexOutOfBoundsException" := h8.trans (by decide)
    subst hE9
    subst hp
    have hI1 := hB.1
    have hN1 := hB.2.1
    rw [ht] at hN1
    refine vx_catch hown (name := "java/lang/IndexOutOfBoundsException") [] ⟨0, 14, 17, 21⟩ [⟨0, 14, 21, 13⟩, ⟨0, 14, 25, 15⟩] htab (fun z hz => by simp at hz) (by decide) (by decide) l0 (va_Nw.use rfl (hE.1.2 _ (by decide))) hce hcv hcl ?_
    refine lv_astore (lv' := [(6, .ref q9), (0, .ref (ad 0 0)), (1, .int a1), (2, .int a2), (3, .int a3), (4, .int a4), (5, .ref q)]) hx hb dL_blow_17 hl (by decide) rfl (fun ls hl => ?_)
    refine lv_iconst (v := 1) hx hb dL_blow_19 (by decide) ?_
    exact vx_ret (W.widen (k := 4) (n := 24) (by decide) (by decide) (W.iret hx hb hr (lg_end (P := fun _ => True) trivial rfl hI1 hK hN1 hq1 hS1) (fun z hz => hS1.2.2 z hz) dL_blow_20))
  · cases hw.1
set_option maxHeartbeats 4000000 in
set_option maxRecDepth 100000 in
theorem mL_blow_x2 (l : Launch) (hfl : l.stackTraces = false) (D : va_G) (G : CGT) (A : Nat → Prop) (ad : Nat → Nat → Nat) (Z : CZ) (cJ : ClassId) (q : Nat) (f : Nat → Int64) (a1 : Int32) (a2 : Int32) (a3 : Int32) (a4 : Int32) (Zz : CZ) (h : fX6_blow a1 a2 a3 a4 Z = some ((.inr 2 : Int32 ⊕ Int32), Zz)) : vx_Met l yL_blow wsL_blow rmL_blow (va_Pc [.ref (ad 0 0), .int a1, .int a2, .int a3, .int a4, .ref q] (lP D G A ad Z cJ q f)) (lQ D G A ad 2 Zz cJ q (fun _ => True)) (fun _ _ _ => False) 4 24 (fun y => A y ∨ y = q) := by
  refine vx_ofWH (cc := cL_blow) (maxL := 7) (ret := some .int) (hh := [(0, 14, 17, 21), (0, 14, 21, 13), (0, 14, 25, 15)]) (by decide) rfl ?_
  intro p e s m args below meth c s₁ B hml hv
  obtain ⟨rfl, ⟨⟨⟨hI, hN, hK⟩, hE⟩, hF, hA⟩, hq, hKJ, hNc, hnq⟩ := hv
  have hx := B.exec
  have hb := B.bytes
  have hr := B.returns
  have hts := atoms_spec (ws := wsL_blow) B.pre
  have hown : s.vm.findClass RL = some m.cls := findClass_of_methodNamed B.named
  have hlocks := B.notSynchronized
  have l0 := hts (.classLink RL 21 "java/lang/IndexOutOfBoundsException") (List.mem_of_getElem? (i := 1) rfl)
  have l1 := hts (.classLink RL 13 "java/lang/IllegalArgumentException") (List.mem_of_getElem? (i := 2) rfl)
  have htab := vx_table (x := yL_blow) B (hts _ (List.mem_cons_self))
  have hS : va_S (fun y => A y ∨ y = q) s.heap s.heap [] := va_S.rf
  have hl := lv_entry ([.ref (ad 0 0), .int a1, .int a2, .int a3, .int a4, .ref q]) (n := 7) (Nat.le_of_ble_eq_true rfl)
  rw [lg_entry_eq]
  generalize (lg_sl ([.ref (ad 0 0), .int a1, .int a2, .int a3, .int a4, .ref q]) ++ List.replicate (7 - (lg_sl ([.ref (ad 0 0), .int a1, .int a2, .int a3, .int a4, .ref q])).length) Slot.unset).toArray = ls at hl ⊢
  have hl : lv_has ls 7 [(0, .ref (ad 0 0)), (1, .int a1), (2, .int a2), (3, .int a3), (4, .int a4), (5, .ref q)] := hl
  refine lv_aload hx hb dL_blow_0 (lv_at hl 5 rfl) ?_
  refine lv_iconst (v := 0) hx hb dL_blow_2 (by decide) ?_
  refine lv_aload_n hx hb dL_blow_3 rfl (lv_at hl 0 rfl) ?_
  refine lv_iload_n hx hb dL_blow_4 rfl (lv_at hl 1 rfl) ?_
  refine lv_iload_n hx hb dL_blow_5 rfl (lv_at hl 2 rfl) ?_
  refine lv_iload_n hx hb dL_blow_6 rfl (lv_at hl 3 rfl) ?_
  refine lv_iload hx hb dL_blow_7 (lv_at hl 4 rfl) ?_
  refine vx_calli (A0 := fun y => A y ∨ y = q) (vx_runV (As := [.int a1, .int a2, .int a3, .int a4]) (rest := [.int 0, .ref q]) ⟨hx, hb, hml, hown, hts⟩ (mX6_blow l hfl D G A ad Z a1 a2 a3 a4 (.inr 2) Zz h) (cwV 4 hts gL_blow_X6_blow rfl rfl rfl (by decide +kernel) ⟨Nat.le_of_ble_eq_true rfl, Nat.le_of_ble_eq_true rfl⟩) (xg_preV hI hK hN hE va_S.rf rfl rfl (ci := 7) rfl) rfl rfl hl.1 rfl (lv_room (Nat.le_of_ble_eq_true rfl)) dL_blow_9 ⟨Nat.le_of_ble_eq_true rfl, Nat.le_of_ble_eq_true rfl⟩) hS (fun _ _ h => Or.inl h) (fun _ h => Or.inl h) (fun _ _ h => Or.inl h) (fun E ce q9 u t H1 locs1 ht hvm hp hB hz hk hS1 hce hcv hcl => ?_) (fun r9 u t H1 locs1 ht hvm hw hB hz hk hS1 => ?_)
  · have hq1 : va_at D vwCl (q, .inl (cJ, 1, .inr (.inl f))) H1 := hq.kept (hk q hq.lt hnq)
    obtain ⟨⟨c9, h9, h8⟩, hB⟩ := hB
    cases h9
    have hE9 : E = "java/lang/IllegalArgumentException" := h8.trans (by decide)
    subst hE9
    subst hp
    have hI1 := hB.1
    have hN1 := hB.2.1
    rw [ht] at hN1
    have hpass : ∀ z ∈ ([⟨0, 14, 17, 21⟩] : List ExceptionTableEntry), covers z 9 = false ∨ (z.catchType ≠ 0 ∧ ∃ nm : String, (Cond.classLink RL z.catchType nm).before (([.ref (ad 0 0), .int a1, .int a2, .int a3, .int a4, .ref q] : List Value).toArray) s = true ∧ va_Nc "java/lang/IllegalArgumentException" nm s) := by
      intro z hz
      simp only [List.mem_cons, List.not_mem_nil, or_false] at hz
      rcases hz with rfl
      · exact Or.inr ⟨by decide, _, l0, hNc _ (by decide) _ (by decide) (by decide)⟩
    refine vx_catch hown (name := "java/lang/IllegalArgumentException") [⟨0, 14, 17, 21⟩] ⟨0, 14, 21, 13⟩ [⟨0, 14, 25, 15⟩] htab hpass (by decide) (by decide) l1 (va_Nw.use rfl (hE.1.2 _ (by decide))) hce hcv hcl ?_
    refine lv_astore (lv' := [(6, .ref q9), (0, .ref (ad 0 0)), (1, .int a1), (2, .int a2), (3, .int a3), (4, .int a4), (5, .ref q)]) hx hb dL_blow_21 hl (by decide) rfl (fun ls hl => ?_)
    refine lv_iconst (v := 2) hx hb dL_blow_23 (by decide) ?_
    exact vx_ret (W.widen (k := 4) (n := 24) (by decide) (by decide) (W.iret hx hb hr (lg_end (P := fun _ => True) trivial rfl hI1 hK hN1 hq1 hS1) (fun z hz => hS1.2.2 z hz) dL_blow_24))
  · cases hw.1
set_option maxHeartbeats 4000000 in
set_option maxRecDepth 100000 in
theorem mL_blow_x3 (l : Launch) (hfl : l.stackTraces = false) (D : va_G) (G : CGT) (A : Nat → Prop) (ad : Nat → Nat → Nat) (Z : CZ) (cJ : ClassId) (q : Nat) (f : Nat → Int64) (a1 : Int32) (a2 : Int32) (a3 : Int32) (a4 : Int32) (Zz : CZ) (h : fX6_blow a1 a2 a3 a4 Z = some ((.inr 3 : Int32 ⊕ Int32), Zz)) : vx_Met l yL_blow wsL_blow rmL_blow (va_Pc [.ref (ad 0 0), .int a1, .int a2, .int a3, .int a4, .ref q] (lP D G A ad Z cJ q f)) (lQ D G A ad 3 Zz cJ q (fun _ => True)) (fun _ _ _ => False) 4 24 (fun y => A y ∨ y = q) := by
  refine vx_ofWH (cc := cL_blow) (maxL := 7) (ret := some .int) (hh := [(0, 14, 17, 21), (0, 14, 21, 13), (0, 14, 25, 15)]) (by decide) rfl ?_
  intro p e s m args below meth c s₁ B hml hv
  obtain ⟨rfl, ⟨⟨⟨hI, hN, hK⟩, hE⟩, hF, hA⟩, hq, hKJ, hNc, hnq⟩ := hv
  have hx := B.exec
  have hb := B.bytes
  have hr := B.returns
  have hts := atoms_spec (ws := wsL_blow) B.pre
  have hown : s.vm.findClass RL = some m.cls := findClass_of_methodNamed B.named
  have hlocks := B.notSynchronized
  have l0 := hts (.classLink RL 21 "java/lang/IndexOutOfBoundsException") (List.mem_of_getElem? (i := 1) rfl)
  have l1 := hts (.classLink RL 13 "java/lang/IllegalArgumentException") (List.mem_of_getElem? (i := 2) rfl)
  have l2 := hts (.classLink RL 15 "java/lang/IllegalStateException") (List.mem_of_getElem? (i := 3) rfl)
  have htab := vx_table (x := yL_blow) B (hts _ (List.mem_cons_self))
  have hS : va_S (fun y => A y ∨ y = q) s.heap s.heap [] := va_S.rf
  have hl := lv_entry ([.ref (ad 0 0), .int a1, .int a2, .int a3, .int a4, .ref q]) (n := 7) (Nat.le_of_ble_eq_true rfl)
  rw [lg_entry_eq]
  generalize (lg_sl ([.ref (ad 0 0), .int a1, .int a2, .int a3, .int a4, .ref q]) ++ List.replicate (7 - (lg_sl ([.ref (ad 0 0), .int a1, .int a2, .int a3, .int a4, .ref q])).length) Slot.unset).toArray = ls at hl ⊢
  have hl : lv_has ls 7 [(0, .ref (ad 0 0)), (1, .int a1), (2, .int a2), (3, .int a3), (4, .int a4), (5, .ref q)] := hl
  refine lv_aload hx hb dL_blow_0 (lv_at hl 5 rfl) ?_
  refine lv_iconst (v := 0) hx hb dL_blow_2 (by decide) ?_
  refine lv_aload_n hx hb dL_blow_3 rfl (lv_at hl 0 rfl) ?_
  refine lv_iload_n hx hb dL_blow_4 rfl (lv_at hl 1 rfl) ?_
  refine lv_iload_n hx hb dL_blow_5 rfl (lv_at hl 2 rfl) ?_
  refine lv_iload_n hx hb dL_blow_6 rfl (lv_at hl 3 rfl) ?_
  refine lv_iload hx hb dL_blow_7 (lv_at hl 4 rfl) ?_
  refine vx_calli (A0 := fun y => A y ∨ y = q) (vx_runV (As := [.int a1, .int a2, .int a3, .int a4]) (rest := [.int 0, .ref q]) ⟨hx, hb, hml, hown, hts⟩ (mX6_blow l hfl D G A ad Z a1 a2 a3 a4 (.inr 3) Zz h) (cwV 4 hts gL_blow_X6_blow rfl rfl rfl (by decide +kernel) ⟨Nat.le_of_ble_eq_true rfl, Nat.le_of_ble_eq_true rfl⟩) (xg_preV hI hK hN hE va_S.rf rfl rfl (ci := 7) rfl) rfl rfl hl.1 rfl (lv_room (Nat.le_of_ble_eq_true rfl)) dL_blow_9 ⟨Nat.le_of_ble_eq_true rfl, Nat.le_of_ble_eq_true rfl⟩) hS (fun _ _ h => Or.inl h) (fun _ h => Or.inl h) (fun _ _ h => Or.inl h) (fun E ce q9 u t H1 locs1 ht hvm hp hB hz hk hS1 hce hcv hcl => ?_) (fun r9 u t H1 locs1 ht hvm hw hB hz hk hS1 => ?_)
  · have hq1 : va_at D vwCl (q, .inl (cJ, 1, .inr (.inl f))) H1 := hq.kept (hk q hq.lt hnq)
    obtain ⟨⟨c9, h9, h8⟩, hB⟩ := hB
    cases h9
    have hE9 : E = "java/lang/IllegalStateException" := h8.trans (by decide)
    subst hE9
    subst hp
    have hI1 := hB.1
    have hN1 := hB.2.1
    rw [ht] at hN1
    have hpass : ∀ z ∈ ([⟨0, 14, 17, 21⟩, ⟨0, 14, 21, 13⟩] : List ExceptionTableEntry), covers z 9 = false ∨ (z.catchType ≠ 0 ∧ ∃ nm : String, (Cond.classLink RL z.catchType nm).before (([.ref (ad 0 0), .int a1, .int a2, .int a3, .int a4, .ref q] : List Value).toArray) s = true ∧ va_Nc "java/lang/IllegalStateException" nm s) := by
      intro z hz
      simp only [List.mem_cons, List.not_mem_nil, or_false] at hz
      rcases hz with rfl | rfl
      · exact Or.inr ⟨by decide, _, l0, hNc _ (by decide) _ (by decide) (by decide)⟩
      · exact Or.inr ⟨by decide, _, l1, hNc _ (by decide) _ (by decide) (by decide)⟩
    refine vx_catch hown (name := "java/lang/IllegalStateException") [⟨0, 14, 17, 21⟩, ⟨0, 14, 21, 13⟩] ⟨0, 14, 25, 15⟩ [] htab hpass (by decide) (by decide) l2 (va_Nw.use rfl (hE.1.2 _ (by decide))) hce hcv hcl ?_
    refine lv_astore (lv' := [(6, .ref q9), (0, .ref (ad 0 0)), (1, .int a1), (2, .int a2), (3, .int a3), (4, .int a4), (5, .ref q)]) hx hb dL_blow_25 hl (by decide) rfl (fun ls hl => ?_)
    refine lv_iconst (v := 3) hx hb dL_blow_27 (by decide) ?_
    exact vx_ret (W.widen (k := 4) (n := 24) (by decide) (by decide) (W.iret hx hb hr (lg_end (P := fun _ => True) trivial rfl hI1 hK hN1 hq1 hS1) (fun z hz => hS1.2.2 z hz) dL_blow_28))
  · cases hw.1
def rmL_heat : Room := { frames := 8, cells := 1, slots := 6, locals := 144 }
set_option maxHeartbeats 4000000 in
set_option maxRecDepth 100000 in
theorem mL_heat (l : Launch) (hfl : l.stackTraces = false) (D : va_G) (G : CGT) (A : Nat → Prop) (ad : Nat → Nat → Nat) (Z : CZ) (cJ : ClassId) (q : Nat) (f : Nat → Int64) (a1 : Int32) (v : Int32) (Zz : CZ) (h : fX6_heat a1 Z = some ((.inl v : Int32 ⊕ Int32), Zz)) : vx_Met l yL_heat wsL_heat rmL_heat (va_Pc [.ref (ad 0 0), .int a1, .ref q] (lP D G A ad Z cJ q f)) (lQ D G A ad 0 Zz cJ q (fun f1 => f1 0 = v.toInt64)) (fun _ _ _ => False) 1 6 (fun y => A y ∨ y = q) := by
  refine vx_ofWH (cc := cL_heat) (maxL := 4) (ret := some .int) (hh := [(0, 9, 12, 13)]) (by decide) rfl ?_
  intro p e s m args below meth c s₁ B hml hv
  obtain ⟨rfl, ⟨⟨⟨hI, hN, hK⟩, hE⟩, hF, hA⟩, hq, hKJ, hNc, hnq⟩ := hv
  have hx := B.exec
  have hb := B.bytes
  have hr := B.returns
  have hts := atoms_spec (ws := wsL_heat) B.pre
  have hown : s.vm.findClass RL = some m.cls := findClass_of_methodNamed B.named
  have hlocks := B.notSynchronized
  have htab := vx_table (x := yL_heat) B (hts _ (List.mem_cons_self))
  have hS : va_S (fun y => A y ∨ y = q) s.heap s.heap [] := va_S.rf
  have hl := lv_entry ([.ref (ad 0 0), .int a1, .ref q]) (n := 4) (Nat.le_of_ble_eq_true rfl)
  rw [lg_entry_eq]
  generalize (lg_sl ([.ref (ad 0 0), .int a1, .ref q]) ++ List.replicate (4 - (lg_sl ([.ref (ad 0 0), .int a1, .ref q])).length) Slot.unset).toArray = ls at hl ⊢
  have hl : lv_has ls 4 [(0, .ref (ad 0 0)), (1, .int a1), (2, .ref q)] := hl
  refine lv_aload_n hx hb dL_heat_0 rfl (lv_at hl 2 rfl) ?_
  refine lv_iconst (v := 0) hx hb dL_heat_1 (by decide) ?_
  refine lv_aload_n hx hb dL_heat_2 rfl (lv_at hl 0 rfl) ?_
  refine lv_iload_n hx hb dL_heat_3 rfl (lv_at hl 1 rfl) ?_
  refine vx_calli (A0 := fun y => A y ∨ y = q) (vx_runV (As := [.int a1]) (rest := [.int 0, .ref q]) ⟨hx, hb, hml, hown, hts⟩ (mX6_heat l hfl D G A ad Z a1 (.inl v) Zz h) (cwV 1 hts gL_heat_X6_heat rfl rfl rfl (by decide +kernel) ⟨Nat.le_of_ble_eq_true rfl, Nat.le_of_ble_eq_true rfl⟩) (xg_preV hI hK hN hE va_S.rf rfl rfl (ci := 7) rfl) rfl rfl hl.1 rfl (lv_room (Nat.le_of_ble_eq_true rfl)) dL_heat_4 ⟨Nat.le_of_ble_eq_true rfl, Nat.le_of_ble_eq_true rfl⟩) hS (fun _ _ h => Or.inl h) (fun _ h => Or.inl h) (fun _ _ h => Or.inl h) (fun E ce q9 u t H1 locs1 ht hvm hp hB hz hk hS1 hce hcv hcl => ?_) (fun r9 u t H1 locs1 ht hvm hw hB hz hk hS1 => ?_)
  · obtain ⟨⟨c9, h9, -⟩, -⟩ := hB
    cases h9
  · have hq1 : va_at D vwCl (q, .inl (cJ, 1, .inr (.inl f))) H1 := hq.kept (hk q hq.lt hnq)
    obtain ⟨h9, rfl⟩ := hw
    cases h9
    have h00 : ad 0 0 = ad 0 0 := rfl
    have hI1 := hB.1
    have hN1 := hB.2.1
    rw [ht] at hN1
    clear hB hk hz
    refine lv_i2l hx hb (v := v.toInt64) dL_heat_7 rfl ?_
    refine lg_last hx hb hKJ hq1 hN1 hI1 hnq hS1 dL_heat_8 (fun H2 locs2 hq1 hN1 hS1 => ?_)
    refine lv_goto (tgt := 15) hx hb dL_heat_9 (by decide) ?_
    refine lv_iconst (v := 0) hx hb dL_heat_15 (by decide) ?_
    exact vx_ret (W.widen (k := 1) (n := 6) (by decide) (by decide) (W.iret hx hb hr (lg_end (P := (fun f1 => f1 0 = v.toInt64)) (if_pos rfl) h00 hI1 hK hN1 hq1 hS1) (fun z hz => hS1.2.2 z hz) dL_heat_16))
set_option maxHeartbeats 4000000 in
set_option maxRecDepth 100000 in
theorem mL_heat_x1 (l : Launch) (hfl : l.stackTraces = false) (D : va_G) (G : CGT) (A : Nat → Prop) (ad : Nat → Nat → Nat) (Z : CZ) (cJ : ClassId) (q : Nat) (f : Nat → Int64) (a1 : Int32) (Zz : CZ) (h : fX6_heat a1 Z = some ((.inr 2 : Int32 ⊕ Int32), Zz)) : vx_Met l yL_heat wsL_heat rmL_heat (va_Pc [.ref (ad 0 0), .int a1, .ref q] (lP D G A ad Z cJ q f)) (lQ D G A ad 1 Zz cJ q (fun _ => True)) (fun _ _ _ => False) 1 6 (fun y => A y ∨ y = q) := by
  refine vx_ofWH (cc := cL_heat) (maxL := 4) (ret := some .int) (hh := [(0, 9, 12, 13)]) (by decide) rfl ?_
  intro p e s m args below meth c s₁ B hml hv
  obtain ⟨rfl, ⟨⟨⟨hI, hN, hK⟩, hE⟩, hF, hA⟩, hq, hKJ, hNc, hnq⟩ := hv
  have hx := B.exec
  have hb := B.bytes
  have hr := B.returns
  have hts := atoms_spec (ws := wsL_heat) B.pre
  have hown : s.vm.findClass RL = some m.cls := findClass_of_methodNamed B.named
  have hlocks := B.notSynchronized
  have l0 := hts (.classLink RL 13 "java/lang/IllegalArgumentException") (List.mem_of_getElem? (i := 1) rfl)
  have htab := vx_table (x := yL_heat) B (hts _ (List.mem_cons_self))
  have hS : va_S (fun y => A y ∨ y = q) s.heap s.heap [] := va_S.rf
  have hl := lv_entry ([.ref (ad 0 0), .int a1, .ref q]) (n := 4) (Nat.le_of_ble_eq_true rfl)
  rw [lg_entry_eq]
  generalize (lg_sl ([.ref (ad 0 0), .int a1, .ref q]) ++ List.replicate (4 - (lg_sl ([.ref (ad 0 0), .int a1, .ref q])).length) Slot.unset).toArray = ls at hl ⊢
  have hl : lv_has ls 4 [(0, .ref (ad 0 0)), (1, .int a1), (2, .ref q)] := hl
  refine lv_aload_n hx hb dL_heat_0 rfl (lv_at hl 2 rfl) ?_
  refine lv_iconst (v := 0) hx hb dL_heat_1 (by decide) ?_
  refine lv_aload_n hx hb dL_heat_2 rfl (lv_at hl 0 rfl) ?_
  refine lv_iload_n hx hb dL_heat_3 rfl (lv_at hl 1 rfl) ?_
  refine vx_calli (A0 := fun y => A y ∨ y = q) (vx_runV (As := [.int a1]) (rest := [.int 0, .ref q]) ⟨hx, hb, hml, hown, hts⟩ (mX6_heat l hfl D G A ad Z a1 (.inr 2) Zz h) (cwV 1 hts gL_heat_X6_heat rfl rfl rfl (by decide +kernel) ⟨Nat.le_of_ble_eq_true rfl, Nat.le_of_ble_eq_true rfl⟩) (xg_preV hI hK hN hE va_S.rf rfl rfl (ci := 7) rfl) rfl rfl hl.1 rfl (lv_room (Nat.le_of_ble_eq_true rfl)) dL_heat_4 ⟨Nat.le_of_ble_eq_true rfl, Nat.le_of_ble_eq_true rfl⟩) hS (fun _ _ h => Or.inl h) (fun _ h => Or.inl h) (fun _ _ h => Or.inl h) (fun E ce q9 u t H1 locs1 ht hvm hp hB hz hk hS1 hce hcv hcl => ?_) (fun r9 u t H1 locs1 ht hvm hw hB hz hk hS1 => ?_)
  · have hq1 : va_at D vwCl (q, .inl (cJ, 1, .inr (.inl f))) H1 := hq.kept (hk q hq.lt hnq)
    obtain ⟨⟨c9, h9, h8⟩, hB⟩ := hB
    cases h9
    have hE9 : E = "java/lang/IllegalArgumentException" := h8.trans (by decide)
    subst hE9
    subst hp
    have hI1 := hB.1
    have hN1 := hB.2.1
    rw [ht] at hN1
    refine vx_catch hown (name := "java/lang/IllegalArgumentException") [] ⟨0, 9, 12, 13⟩ [] htab (fun z hz => by simp at hz) (by decide) (by decide) l0 (va_Nw.use rfl (hE.1.2 _ (by decide))) hce hcv hcl ?_
    refine lv_astore_n (lv' := [(3, .ref q9), (0, .ref (ad 0 0)), (1, .int a1), (2, .ref q)]) hx hb dL_heat_12 rfl hl (by decide) rfl (fun ls hl => ?_)
    refine lv_iconst (v := 1) hx hb dL_heat_13 (by decide) ?_
    exact vx_ret (W.widen (k := 1) (n := 6) (by decide) (by decide) (W.iret hx hb hr (lg_end (P := fun _ => True) trivial rfl hI1 hK hN1 hq1 hS1) (fun z hz => hS1.2.2 z hz) dL_heat_14))
  · cases hw.1
def rmL_field : Room := { frames := 9, cells := 3, slots := 18, locals := 166 }
set_option maxHeartbeats 4000000 in
set_option maxRecDepth 100000 in
theorem mL_field (l : Launch) (hfl : l.stackTraces = false) (D : va_G) (G : CGT) (A : Nat → Prop) (ad : Nat → Nat → Nat) (Z : CZ) (cJ : ClassId) (q : Nat) (f : Nat → Int64) (a1 : Int32) (a2 : Int32) (a3 : Int32) (v : Int32) (h : fX6_field a1 a2 a3 Z = some (.inl v : Int32 ⊕ Int32)) : vx_Met l yL_field wsL_field rmL_field (va_Pc [.ref (ad 0 0), .int a1, .int a2, .int a3, .ref q] (lP D G A ad Z cJ q f)) (lQ D G A ad 0 Z cJ q (fun f1 => f1 0 = v.toInt64)) (fun _ _ _ => False) 3 18 (fun y => A y ∨ y = q) := by
  refine vx_ofWH (cc := cL_field) (maxL := 6) (ret := some .int) (hh := [(0, 12, 15, 21), (0, 12, 19, 13)]) (by decide) rfl ?_
  intro p e s m args below meth c s₁ B hml hv
  obtain ⟨rfl, ⟨⟨⟨hI, hN, hK⟩, hE⟩, hF, hA⟩, hq, hKJ, hNc, hnq⟩ := hv
  have hx := B.exec
  have hb := B.bytes
  have hr := B.returns
  have hts := atoms_spec (ws := wsL_field) B.pre
  have hown : s.vm.findClass RL = some m.cls := findClass_of_methodNamed B.named
  have hlocks := B.notSynchronized
  have htab := vx_table (x := yL_field) B (hts _ (List.mem_cons_self))
  have hS : va_S (fun y => A y ∨ y = q) s.heap s.heap [] := va_S.rf
  have hl := lv_entry ([.ref (ad 0 0), .int a1, .int a2, .int a3, .ref q]) (n := 6) (Nat.le_of_ble_eq_true rfl)
  rw [lg_entry_eq]
  generalize (lg_sl ([.ref (ad 0 0), .int a1, .int a2, .int a3, .ref q]) ++ List.replicate (6 - (lg_sl ([.ref (ad 0 0), .int a1, .int a2, .int a3, .ref q])).length) Slot.unset).toArray = ls at hl ⊢
  have hl : lv_has ls 6 [(0, .ref (ad 0 0)), (1, .int a1), (2, .int a2), (3, .int a3), (4, .ref q)] := hl
  refine lv_aload hx hb dL_field_0 (lv_at hl 4 rfl) ?_
  refine lv_iconst (v := 0) hx hb dL_field_2 (by decide) ?_
  refine lv_aload_n hx hb dL_field_3 rfl (lv_at hl 0 rfl) ?_
  refine lv_iload_n hx hb dL_field_4 rfl (lv_at hl 1 rfl) ?_
  refine lv_iload_n hx hb dL_field_5 rfl (lv_at hl 2 rfl) ?_
  refine lv_iload_n hx hb dL_field_6 rfl (lv_at hl 3 rfl) ?_
  refine vx_calli (A0 := fun y => A y ∨ y = q) (vx_runV (As := [.int a1, .int a2, .int a3]) (rest := [.int 0, .ref q]) ⟨hx, hb, hml, hown, hts⟩ (mX6_field l hfl D G A ad Z a1 a2 a3 (.inl v)  h) (cwV 3 hts gL_field_X6_field rfl rfl rfl (by decide +kernel) ⟨Nat.le_of_ble_eq_true rfl, Nat.le_of_ble_eq_true rfl⟩) (xg_preV hI hK hN hE va_S.rf rfl rfl (ci := 7) rfl) rfl rfl hl.1 rfl (lv_room (Nat.le_of_ble_eq_true rfl)) dL_field_7 ⟨Nat.le_of_ble_eq_true rfl, Nat.le_of_ble_eq_true rfl⟩) hS (fun _ _ h => Or.inl h) (fun _ h => Or.inl h) (fun _ _ h => Or.inl h) (fun E ce q9 u t H1 locs1 ht hvm hp hB hz hk hS1 hce hcv hcl => ?_) (fun r9 u t H1 locs1 ht hvm hw hB hz hk hS1 => ?_)
  · obtain ⟨⟨c9, h9, -⟩, -⟩ := hB
    cases h9
  · have hq1 : va_at D vwCl (q, .inl (cJ, 1, .inr (.inl f))) H1 := hq.kept (hk q hq.lt hnq)
    obtain ⟨h9, rfl⟩ := hw
    cases h9
    have h00 : ad 0 0 = ad 0 0 := rfl
    have hI1 := hB.1
    have hN1 := hB.2.1
    rw [ht] at hN1
    clear hB hk hz
    refine lv_i2l hx hb (v := v.toInt64) dL_field_10 rfl ?_
    refine lg_last hx hb hKJ hq1 hN1 hI1 hnq hS1 dL_field_11 (fun H2 locs2 hq1 hN1 hS1 => ?_)
    refine lv_goto (tgt := 23) hx hb dL_field_12 (by decide) ?_
    refine lv_iconst (v := 0) hx hb dL_field_23 (by decide) ?_
    exact vx_ret (W.widen (k := 3) (n := 18) (by decide) (by decide) (W.iret hx hb hr (lg_end (P := (fun f1 => f1 0 = v.toInt64)) (if_pos rfl) h00 hI1 hK hN1 hq1 hS1) (fun z hz => hS1.2.2 z hz) dL_field_24))
set_option maxHeartbeats 4000000 in
set_option maxRecDepth 100000 in
theorem mL_field_x1 (l : Launch) (hfl : l.stackTraces = false) (D : va_G) (G : CGT) (A : Nat → Prop) (ad : Nat → Nat → Nat) (Z : CZ) (cJ : ClassId) (q : Nat) (f : Nat → Int64) (a1 : Int32) (a2 : Int32) (a3 : Int32) (h : fX6_field a1 a2 a3 Z = some (.inr 1 : Int32 ⊕ Int32)) : vx_Met l yL_field wsL_field rmL_field (va_Pc [.ref (ad 0 0), .int a1, .int a2, .int a3, .ref q] (lP D G A ad Z cJ q f)) (lQ D G A ad 1 Z cJ q (fun _ => True)) (fun _ _ _ => False) 3 18 (fun y => A y ∨ y = q) := by
  refine vx_ofWH (cc := cL_field) (maxL := 6) (ret := some .int) (hh := [(0, 12, 15, 21), (0, 12, 19, 13)]) (by decide) rfl ?_
  intro p e s m args below meth c s₁ B hml hv
  obtain ⟨rfl, ⟨⟨⟨hI, hN, hK⟩, hE⟩, hF, hA⟩, hq, hKJ, hNc, hnq⟩ := hv
  have hx := B.exec
  have hb := B.bytes
  have hr := B.returns
  have hts := atoms_spec (ws := wsL_field) B.pre
  have hown : s.vm.findClass RL = some m.cls := findClass_of_methodNamed B.named
  have hlocks := B.notSynchronized
  have l0 := hts (.classLink RL 21 "java/lang/IndexOutOfBoundsException") (List.mem_of_getElem? (i := 1) rfl)
  have htab := vx_table (x := yL_field) B (hts _ (List.mem_cons_self))
  have hS : va_S (fun y => A y ∨ y = q) s.heap s.heap [] := va_S.rf
  have hl := lv_entry ([.ref (ad 0 0), .int a1, .int a2, .int a3, .ref q]) (n := 6) (Nat.le_of_ble_eq_true rfl)
  rw [lg_entry_eq]
  generalize (lg_sl ([.ref (ad 0 0), .int a1, .int a2, .int a3, .ref q]) ++ List.replicate (6 - (lg_sl ([.ref (ad 0 0), .int a1, .int a2, .int a3, .ref q])).length) Slot.unset).toArray = ls at hl ⊢
  have hl : lv_has ls 6 [(0, .ref (ad 0 0)), (1, .int a1), (2, .int a2), (3, .int a3), (4, .ref q)] := hl
  refine lv_aload hx hb dL_field_0 (lv_at hl 4 rfl) ?_
  refine lv_iconst (v := 0) hx hb dL_field_2 (by decide) ?_
  refine lv_aload_n hx hb dL_field_3 rfl (lv_at hl 0 rfl) ?_
  refine lv_iload_n hx hb dL_field_4 rfl (lv_at hl 1 rfl) ?_
  refine lv_iload_n hx hb dL_field_5 rfl (lv_at hl 2 rfl) ?_
  refine lv_iload_n hx hb dL_field_6 rfl (lv_at hl 3 rfl) ?_
  refine vx_calli (A0 := fun y => A y ∨ y = q) (vx_runV (As := [.int a1, .int a2, .int a3]) (rest := [.int 0, .ref q]) ⟨hx, hb, hml, hown, hts⟩ (mX6_field l hfl D G A ad Z a1 a2 a3 (.inr 1)  h) (cwV 3 hts gL_field_X6_field rfl rfl rfl (by decide +kernel) ⟨Nat.le_of_ble_eq_true rfl, Nat.le_of_ble_eq_true rfl⟩) (xg_preV hI hK hN hE va_S.rf rfl rfl (ci := 7) rfl) rfl rfl hl.1 rfl (lv_room (Nat.le_of_ble_eq_true rfl)) dL_field_7 ⟨Nat.le_of_ble_eq_true rfl, Nat.le_of_ble_eq_true rfl⟩) hS (fun _ _ h => Or.inl h) (fun _ h => Or.inl h) (fun _ _ h => Or.inl h) (fun E ce q9 u t H1 locs1 ht hvm hp hB hz hk hS1 hce hcv hcl => ?_) (fun r9 u t H1 locs1 ht hvm hw hB hz hk hS1 => ?_)
  · have hq1 : va_at D vwCl (q, .inl (cJ, 1, .inr (.inl f))) H1 := hq.kept (hk q hq.lt hnq)
    obtain ⟨⟨c9, h9, h8⟩, hB⟩ := hB
    cases h9
    have hE9 : E = "java/lang/IndexOutOfBoundsException" := h8.trans (by decide)
    subst hE9
    subst hp
    have hI1 := hB.1
    have hN1 := hB.2.1
    rw [ht] at hN1
    refine vx_catch hown (name := "java/lang/IndexOutOfBoundsException") [] ⟨0, 12, 15, 21⟩ [⟨0, 12, 19, 13⟩] htab (fun z hz => by simp at hz) (by decide) (by decide) l0 (va_Nw.use rfl (hE.1.2 _ (by decide))) hce hcv hcl ?_
    refine lv_astore (lv' := [(5, .ref q9), (0, .ref (ad 0 0)), (1, .int a1), (2, .int a2), (3, .int a3), (4, .ref q)]) hx hb dL_field_15 hl (by decide) rfl (fun ls hl => ?_)
    refine lv_iconst (v := 1) hx hb dL_field_17 (by decide) ?_
    exact vx_ret (W.widen (k := 3) (n := 18) (by decide) (by decide) (W.iret hx hb hr (lg_end (P := fun _ => True) trivial rfl hI1 hK hN1 hq1 hS1) (fun z hz => hS1.2.2 z hz) dL_field_18))
  · cases hw.1
set_option maxHeartbeats 4000000 in
set_option maxRecDepth 100000 in
theorem mL_field_x2 (l : Launch) (hfl : l.stackTraces = false) (D : va_G) (G : CGT) (A : Nat → Prop) (ad : Nat → Nat → Nat) (Z : CZ) (cJ : ClassId) (q : Nat) (f : Nat → Int64) (a1 : Int32) (a2 : Int32) (a3 : Int32) (h : fX6_field a1 a2 a3 Z = some (.inr 2 : Int32 ⊕ Int32)) : vx_Met l yL_field wsL_field rmL_field (va_Pc [.ref (ad 0 0), .int a1, .int a2, .int a3, .ref q] (lP D G A ad Z cJ q f)) (lQ D G A ad 2 Z cJ q (fun _ => True)) (fun _ _ _ => False) 3 18 (fun y => A y ∨ y = q) := by
  refine vx_ofWH (cc := cL_field) (maxL := 6) (ret := some .int) (hh := [(0, 12, 15, 21), (0, 12, 19, 13)]) (by decide) rfl ?_
  intro p e s m args below meth c s₁ B hml hv
  obtain ⟨rfl, ⟨⟨⟨hI, hN, hK⟩, hE⟩, hF, hA⟩, hq, hKJ, hNc, hnq⟩ := hv
  have hx := B.exec
  have hb := B.bytes
  have hr := B.returns
  have hts := atoms_spec (ws := wsL_field) B.pre
  have hown : s.vm.findClass RL = some m.cls := findClass_of_methodNamed B.named
  have hlocks := B.notSynchronized
  have l0 := hts (.classLink RL 21 "java/lang/IndexOutOfBoundsException") (List.mem_of_getElem? (i := 1) rfl)
  have l1 := hts (.classLink RL 13 "java/lang/IllegalArgumentException") (List.mem_of_getElem? (i := 2) rfl)
  have htab := vx_table (x := yL_field) B (hts _ (List.mem_cons_self))
  have hS : va_S (fun y => A y ∨ y = q) s.heap s.heap [] := va_S.rf
  have hl := lv_entry ([.ref (ad 0 0), .int a1, .int a2, .int a3, .ref q]) (n := 6) (Nat.le_of_ble_eq_true rfl)
  rw [lg_entry_eq]
  generalize (lg_sl ([.ref (ad 0 0), .int a1, .int a2, .int a3, .ref q]) ++ List.replicate (6 - (lg_sl ([.ref (ad 0 0), .int a1, .int a2, .int a3, .ref q])).length) Slot.unset).toArray = ls at hl ⊢
  have hl : lv_has ls 6 [(0, .ref (ad 0 0)), (1, .int a1), (2, .int a2), (3, .int a3), (4, .ref q)] := hl
  refine lv_aload hx hb dL_field_0 (lv_at hl 4 rfl) ?_
  refine lv_iconst (v := 0) hx hb dL_field_2 (by decide) ?_
  refine lv_aload_n hx hb dL_field_3 rfl (lv_at hl 0 rfl) ?_
  refine lv_iload_n hx hb dL_field_4 rfl (lv_at hl 1 rfl) ?_
  refine lv_iload_n hx hb dL_field_5 rfl (lv_at hl 2 rfl) ?_
  refine lv_iload_n hx hb dL_field_6 rfl (lv_at hl 3 rfl) ?_
  refine vx_calli (A0 := fun y => A y ∨ y = q) (vx_runV (As := [.int a1, .int a2, .int a3]) (rest := [.int 0, .ref q]) ⟨hx, hb, hml, hown, hts⟩ (mX6_field l hfl D G A ad Z a1 a2 a3 (.inr 2)  h) (cwV 3 hts gL_field_X6_field rfl rfl rfl (by decide +kernel) ⟨Nat.le_of_ble_eq_true rfl, Nat.le_of_ble_eq_true rfl⟩) (xg_preV hI hK hN hE va_S.rf rfl rfl (ci := 7) rfl) rfl rfl hl.1 rfl (lv_room (Nat.le_of_ble_eq_true rfl)) dL_field_7 ⟨Nat.le_of_ble_eq_true rfl, Nat.le_of_ble_eq_true rfl⟩) hS (fun _ _ h => Or.inl h) (fun _ h => Or.inl h) (fun _ _ h => Or.inl h) (fun E ce q9 u t H1 locs1 ht hvm hp hB hz hk hS1 hce hcv hcl => ?_) (fun r9 u t H1 locs1 ht hvm hw hB hz hk hS1 => ?_)
  · have hq1 : va_at D vwCl (q, .inl (cJ, 1, .inr (.inl f))) H1 := hq.kept (hk q hq.lt hnq)
    obtain ⟨⟨c9, h9, h8⟩, hB⟩ := hB
    cases h9
    have hE9 : E = "java/lang/IllegalArgumentException" := h8.trans (by decide)
    subst hE9
    subst hp
    have hI1 := hB.1
    have hN1 := hB.2.1
    rw [ht] at hN1
    have hpass : ∀ z ∈ ([⟨0, 12, 15, 21⟩] : List ExceptionTableEntry), covers z 7 = false ∨ (z.catchType ≠ 0 ∧ ∃ nm : String, (Cond.classLink RL z.catchType nm).before (([.ref (ad 0 0), .int a1, .int a2, .int a3, .ref q] : List Value).toArray) s = true ∧ va_Nc "java/lang/IllegalArgumentException" nm s) := by
      intro z hz
      simp only [List.mem_cons, List.not_mem_nil, or_false] at hz
      rcases hz with rfl
      · exact Or.inr ⟨by decide, _, l0, hNc _ (by decide) _ (by decide) (by decide)⟩
    refine vx_catch hown (name := "java/lang/IllegalArgumentException") [⟨0, 12, 15, 21⟩] ⟨0, 12, 19, 13⟩ [] htab hpass (by decide) (by decide) l1 (va_Nw.use rfl (hE.1.2 _ (by decide))) hce hcv hcl ?_
    refine lv_astore (lv' := [(5, .ref q9), (0, .ref (ad 0 0)), (1, .int a1), (2, .int a2), (3, .int a3), (4, .ref q)]) hx hb dL_field_19 hl (by decide) rfl (fun ls hl => ?_)
    refine lv_iconst (v := 2) hx hb dL_field_21 (by decide) ?_
    exact vx_ret (W.widen (k := 3) (n := 18) (by decide) (by decide) (W.iret hx hb hr (lg_end (P := fun _ => True) trivial rfl hI1 hK hN1 hq1 hS1) (fun z hz => hS1.2.2 z hz) dL_field_22))
  · cases hw.1
def rmL_isInTune : Room := { frames := 9, cells := 1, slots := 6, locals := 163 }
set_option maxHeartbeats 4000000 in
set_option maxRecDepth 100000 in
theorem mL_isInTune (l : Launch) (hfl : l.stackTraces = false) (D : va_G) (G : CGT) (A : Nat → Prop) (ad : Nat → Nat → Nat) (Z : CZ) (cJ : ClassId) (q : Nat) (f : Nat → Int64) (a1 : Int32) (v : Int32) (h : fX6_isInTune a1 Z = some (.inl v : Int32 ⊕ Int32)) : vx_Met l yL_isInTune wsL_isInTune rmL_isInTune (va_Pc [.ref (ad 0 0), .int a1, .ref q] (lP D G A ad Z cJ q f)) (lQ D G A ad 0 Z cJ q (fun f1 => f1 0 = if v = 0 then 0 else 1)) (fun _ _ _ => False) 1 6 (fun y => A y ∨ y = q) := by
  refine vx_ofWH (cc := cL_isInTune) (maxL := 4) (ret := some .int) (hh := [(0, 16, 19, 21)]) (by decide) rfl ?_
  intro p e s m args below meth c s₁ B hml hv
  obtain ⟨rfl, ⟨⟨⟨hI, hN, hK⟩, hE⟩, hF, hA⟩, hq, hKJ, hNc, hnq⟩ := hv
  have hx := B.exec
  have hb := B.bytes
  have hr := B.returns
  have hts := atoms_spec (ws := wsL_isInTune) B.pre
  have hown : s.vm.findClass RL = some m.cls := findClass_of_methodNamed B.named
  have hlocks := B.notSynchronized
  have htab := vx_table (x := yL_isInTune) B (hts _ (List.mem_cons_self))
  have hS : va_S (fun y => A y ∨ y = q) s.heap s.heap [] := va_S.rf
  have hl := lv_entry ([.ref (ad 0 0), .int a1, .ref q]) (n := 4) (Nat.le_of_ble_eq_true rfl)
  rw [lg_entry_eq]
  generalize (lg_sl ([.ref (ad 0 0), .int a1, .ref q]) ++ List.replicate (4 - (lg_sl ([.ref (ad 0 0), .int a1, .ref q])).length) Slot.unset).toArray = ls at hl ⊢
  have hl : lv_has ls 4 [(0, .ref (ad 0 0)), (1, .int a1), (2, .ref q)] := hl
  refine lv_aload_n hx hb dL_isInTune_0 rfl (lv_at hl 2 rfl) ?_
  refine lv_iconst (v := 0) hx hb dL_isInTune_1 (by decide) ?_
  refine lv_aload_n hx hb dL_isInTune_2 rfl (lv_at hl 0 rfl) ?_
  refine lv_iload_n hx hb dL_isInTune_3 rfl (lv_at hl 1 rfl) ?_
  refine vx_calli (A0 := fun y => A y ∨ y = q) (vx_runV (As := [.int a1]) (rest := [.int 0, .ref q]) ⟨hx, hb, hml, hown, hts⟩ (mX6_isInTune l hfl D G A ad Z a1 (.inl v)  h) (cwV 1 hts gL_isInTune_X6_isInTune rfl rfl rfl (by decide +kernel) ⟨Nat.le_of_ble_eq_true rfl, Nat.le_of_ble_eq_true rfl⟩) (xg_preV hI hK hN hE va_S.rf rfl rfl (ci := 7) rfl) rfl rfl hl.1 rfl (lv_room (Nat.le_of_ble_eq_true rfl)) dL_isInTune_4 ⟨Nat.le_of_ble_eq_true rfl, Nat.le_of_ble_eq_true rfl⟩) hS (fun _ _ h => Or.inl h) (fun _ h => Or.inl h) (fun _ _ h => Or.inl h) (fun E ce q9 u t H1 locs1 ht hvm hp hB hz hk hS1 hce hcv hcl => ?_) (fun r9 u t H1 locs1 ht hvm hw hB hz hk hS1 => ?_)
  · obtain ⟨⟨c9, h9, -⟩, -⟩ := hB
    cases h9
  · have hq1 : va_at D vwCl (q, .inl (cJ, 1, .inr (.inl f))) H1 := hq.kept (hk q hq.lt hnq)
    obtain ⟨h9, rfl⟩ := hw
    cases h9
    have h00 : ad 0 0 = ad 0 0 := rfl
    have hI1 := hB.1
    have hN1 := hB.2.1
    rw [ht] at hN1
    clear hB hk hz
    refine lv_if_eq (tgt := 14) hx hb dL_isInTune_7 (by decide) (fun hc => ?_) (fun hc => ?_)
    · refine lv_lconst (v := 0) hx hb dL_isInTune_14 rfl ?_
      refine lg_last hx hb hKJ hq1 hN1 hI1 hnq hS1 dL_isInTune_15 (fun H2 locs2 hq1 hN1 hS1 => ?_)
      refine lv_goto (tgt := 22) hx hb dL_isInTune_16 (by decide) ?_
      refine lv_iconst (v := 0) hx hb dL_isInTune_22 (by decide) ?_
      exact vx_ret (W.widen (k := 1) (n := 6) (by decide) (by decide) (W.iret hx hb hr (lg_end (P := (fun f1 => f1 0 = if v = 0 then 0 else 1)) ((if_pos rfl).trans (if_pos hc).symm) h00 hI1 hK hN1 hq1 hS1) (fun z hz => hS1.2.2 z hz) dL_isInTune_23))
    · refine lv_lconst (v := 1) hx hb dL_isInTune_10 rfl ?_
      refine lv_goto (tgt := 15) hx hb dL_isInTune_11 (by decide) ?_
      refine lg_last hx hb hKJ hq1 hN1 hI1 hnq hS1 dL_isInTune_15 (fun H2 locs2 hq1 hN1 hS1 => ?_)
      refine lv_goto (tgt := 22) hx hb dL_isInTune_16 (by decide) ?_
      refine lv_iconst (v := 0) hx hb dL_isInTune_22 (by decide) ?_
      exact vx_ret (W.widen (k := 1) (n := 6) (by decide) (by decide) (W.iret hx hb hr (lg_end (P := (fun f1 => f1 0 = if v = 0 then 0 else 1)) ((if_pos rfl).trans (if_neg hc).symm) h00 hI1 hK hN1 hq1 hS1) (fun z hz => hS1.2.2 z hz) dL_isInTune_23))
set_option maxHeartbeats 4000000 in
set_option maxRecDepth 100000 in
theorem mL_isInTune_x1 (l : Launch) (hfl : l.stackTraces = false) (D : va_G) (G : CGT) (A : Nat → Prop) (ad : Nat → Nat → Nat) (Z : CZ) (cJ : ClassId) (q : Nat) (f : Nat → Int64) (a1 : Int32) (h : fX6_isInTune a1 Z = some (.inr 1 : Int32 ⊕ Int32)) : vx_Met l yL_isInTune wsL_isInTune rmL_isInTune (va_Pc [.ref (ad 0 0), .int a1, .ref q] (lP D G A ad Z cJ q f)) (lQ D G A ad 1 Z cJ q (fun _ => True)) (fun _ _ _ => False) 1 6 (fun y => A y ∨ y = q) := by
  refine vx_ofWH (cc := cL_isInTune) (maxL := 4) (ret := some .int) (hh := [(0, 16, 19, 21)]) (by decide) rfl ?_
  intro p e s m args below meth c s₁ B hml hv
  obtain ⟨rfl, ⟨⟨⟨hI, hN, hK⟩, hE⟩, hF, hA⟩, hq, hKJ, hNc, hnq⟩ := hv
  have hx := B.exec
  have hb := B.bytes
  have hr := B.returns
  have hts := atoms_spec (ws := wsL_isInTune) B.pre
  have hown : s.vm.findClass RL = some m.cls := findClass_of_methodNamed B.named
  have hlocks := B.notSynchronized
  have l0 := hts (.classLink RL 21 "java/lang/IndexOutOfBoundsException") (List.mem_of_getElem? (i := 1) rfl)
  have htab := vx_table (x := yL_isInTune) B (hts _ (List.mem_cons_self))
  have hS : va_S (fun y => A y ∨ y = q) s.heap s.heap [] := va_S.rf
  have hl := lv_entry ([.ref (ad 0 0), .int a1, .ref q]) (n := 4) (Nat.le_of_ble_eq_true rfl)
  rw [lg_entry_eq]
  generalize (lg_sl ([.ref (ad 0 0), .int a1, .ref q]) ++ List.replicate (4 - (lg_sl ([.ref (ad 0 0), .int a1, .ref q])).length) Slot.unset).toArray = ls at hl ⊢
  have hl : lv_has ls 4 [(0, .ref (ad 0 0)), (1, .int a1), (2, .ref q)] := hl
  refine lv_aload_n hx hb dL_isInTune_0 rfl (lv_at hl 2 rfl) ?_
  refine lv_iconst (v := 0) hx hb dL_isInTune_1 (by decide) ?_
  refine lv_aload_n hx hb dL_isInTune_2 rfl (lv_at hl 0 rfl) ?_
  refine lv_iload_n hx hb dL_isInTune_3 rfl (lv_at hl 1 rfl) ?_
  refine vx_calli (A0 := fun y => A y ∨ y = q) (vx_runV (As := [.int a1]) (rest := [.int 0, .ref q]) ⟨hx, hb, hml, hown, hts⟩ (mX6_isInTune l hfl D G A ad Z a1 (.inr 1)  h) (cwV 1 hts gL_isInTune_X6_isInTune rfl rfl rfl (by decide +kernel) ⟨Nat.le_of_ble_eq_true rfl, Nat.le_of_ble_eq_true rfl⟩) (xg_preV hI hK hN hE va_S.rf rfl rfl (ci := 7) rfl) rfl rfl hl.1 rfl (lv_room (Nat.le_of_ble_eq_true rfl)) dL_isInTune_4 ⟨Nat.le_of_ble_eq_true rfl, Nat.le_of_ble_eq_true rfl⟩) hS (fun _ _ h => Or.inl h) (fun _ h => Or.inl h) (fun _ _ h => Or.inl h) (fun E ce q9 u t H1 locs1 ht hvm hp hB hz hk hS1 hce hcv hcl => ?_) (fun r9 u t H1 locs1 ht hvm hw hB hz hk hS1 => ?_)
  · have hq1 : va_at D vwCl (q, .inl (cJ, 1, .inr (.inl f))) H1 := hq.kept (hk q hq.lt hnq)
    obtain ⟨⟨c9, h9, h8⟩, hB⟩ := hB
    cases h9
    have hE9 : E = "java/lang/IndexOutOfBoundsException" := h8.trans (by decide)
    subst hE9
    subst hp
    have hI1 := hB.1
    have hN1 := hB.2.1
    rw [ht] at hN1
    refine vx_catch hown (name := "java/lang/IndexOutOfBoundsException") [] ⟨0, 16, 19, 21⟩ [] htab (fun z hz => by simp at hz) (by decide) (by decide) l0 (va_Nw.use rfl (hE.1.2 _ (by decide))) hce hcv hcl ?_
    refine lv_astore_n (lv' := [(3, .ref q9), (0, .ref (ad 0 0)), (1, .int a1), (2, .ref q)]) hx hb dL_isInTune_19 rfl hl (by decide) rfl (fun ls hl => ?_)
    refine lv_iconst (v := 1) hx hb dL_isInTune_20 (by decide) ?_
    exact vx_ret (W.widen (k := 1) (n := 6) (by decide) (by decide) (W.iret hx hb hr (lg_end (P := fun _ => True) trivial rfl hI1 hK hN1 hq1 hS1) (fun z hz => hS1.2.2 z hz) dL_isInTune_21))
  · cases hw.1
def rmL_plan : Room := { frames := 16, cells := 2, slots := 12, locals := 576 }
set_option maxHeartbeats 4000000 in
set_option maxRecDepth 100000 in
theorem mL_plan (l : Launch) (hfl : l.stackTraces = false) (D : va_G) (G : CGT) (A : Nat → Prop) (ad : Nat → Nat → Nat) (Z : CZ) (cJ : ClassId) (q : Nat) (f : Nat → Int64) (a1 : Int32) (a2 : Int32) (v : Int32) (Zz : CZ) (h : fX6_plan a1 a2 Z = some ((.inl v : Int32 ⊕ Int32), Zz)) : vx_Met l yL_plan wsL_plan rmL_plan (va_Pc [.ref (ad 0 0), .int a1, .int a2, .ref q] (lP D G A ad Z cJ q f)) (lQ D G A ad 0 Zz cJ q (fun f1 => f1 0 = v.toInt64)) (fun _ _ _ => False) 2 12 (fun y => A y ∨ y = q) := by
  refine vx_ofWH (cc := cL_plan) (maxL := 5) (ret := some .int) (hh := [(0, 10, 13, 21), (0, 10, 17, 13)]) (by decide) rfl ?_
  intro p e s m args below meth c s₁ B hml hv
  obtain ⟨rfl, ⟨⟨⟨hI, hN, hK⟩, hE⟩, hF, hA⟩, hq, hKJ, hNc, hnq⟩ := hv
  have hx := B.exec
  have hb := B.bytes
  have hr := B.returns
  have hts := atoms_spec (ws := wsL_plan) B.pre
  have hown : s.vm.findClass RL = some m.cls := findClass_of_methodNamed B.named
  have hlocks := B.notSynchronized
  have htab := vx_table (x := yL_plan) B (hts _ (List.mem_cons_self))
  have hS : va_S (fun y => A y ∨ y = q) s.heap s.heap [] := va_S.rf
  have hl := lv_entry ([.ref (ad 0 0), .int a1, .int a2, .ref q]) (n := 5) (Nat.le_of_ble_eq_true rfl)
  rw [lg_entry_eq]
  generalize (lg_sl ([.ref (ad 0 0), .int a1, .int a2, .ref q]) ++ List.replicate (5 - (lg_sl ([.ref (ad 0 0), .int a1, .int a2, .ref q])).length) Slot.unset).toArray = ls at hl ⊢
  have hl : lv_has ls 5 [(0, .ref (ad 0 0)), (1, .int a1), (2, .int a2), (3, .ref q)] := hl
  refine lv_aload_n hx hb dL_plan_0 rfl (lv_at hl 3 rfl) ?_
  refine lv_iconst (v := 0) hx hb dL_plan_1 (by decide) ?_
  refine lv_aload_n hx hb dL_plan_2 rfl (lv_at hl 0 rfl) ?_
  refine lv_iload_n hx hb dL_plan_3 rfl (lv_at hl 1 rfl) ?_
  refine lv_iload_n hx hb dL_plan_4 rfl (lv_at hl 2 rfl) ?_
  refine vx_calli (A0 := fun y => A y ∨ y = q) (vx_runV (As := [.int a1, .int a2]) (rest := [.int 0, .ref q]) ⟨hx, hb, hml, hown, hts⟩ (mX6_plan l hfl D G A ad Z a1 a2 (.inl v) Zz h) (cwV 2 hts gL_plan_X6_plan rfl rfl rfl (by decide +kernel) ⟨Nat.le_of_ble_eq_true rfl, Nat.le_of_ble_eq_true rfl⟩) (xg_preV hI hK hN hE va_S.rf rfl rfl (ci := 7) rfl) rfl rfl hl.1 rfl (lv_room (Nat.le_of_ble_eq_true rfl)) dL_plan_5 ⟨Nat.le_of_ble_eq_true rfl, Nat.le_of_ble_eq_true rfl⟩) hS (fun _ _ h => Or.inl h) (fun _ h => Or.inl h) (fun _ _ h => Or.inl h) (fun E ce q9 u t H1 locs1 ht hvm hp hB hz hk hS1 hce hcv hcl => ?_) (fun r9 u t H1 locs1 ht hvm hw hB hz hk hS1 => ?_)
  · obtain ⟨⟨c9, h9, -⟩, -⟩ := hB
    cases h9
  · have hq1 : va_at D vwCl (q, .inl (cJ, 1, .inr (.inl f))) H1 := hq.kept (hk q hq.lt hnq)
    obtain ⟨h9, rfl⟩ := hw
    cases h9
    have h00 : ad 0 0 = ad 0 0 := rfl
    have hI1 := hB.1
    have hN1 := hB.2.1
    rw [ht] at hN1
    clear hB hk hz
    refine lv_i2l hx hb (v := v.toInt64) dL_plan_8 rfl ?_
    refine lg_last hx hb hKJ hq1 hN1 hI1 hnq hS1 dL_plan_9 (fun H2 locs2 hq1 hN1 hS1 => ?_)
    refine lv_goto (tgt := 21) hx hb dL_plan_10 (by decide) ?_
    refine lv_iconst (v := 0) hx hb dL_plan_21 (by decide) ?_
    exact vx_ret (W.widen (k := 2) (n := 12) (by decide) (by decide) (W.iret hx hb hr (lg_end (P := (fun f1 => f1 0 = v.toInt64)) (if_pos rfl) h00 hI1 hK hN1 hq1 hS1) (fun z hz => hS1.2.2 z hz) dL_plan_22))
set_option maxHeartbeats 4000000 in
set_option maxRecDepth 100000 in
theorem mL_plan_x1 (l : Launch) (hfl : l.stackTraces = false) (D : va_G) (G : CGT) (A : Nat → Prop) (ad : Nat → Nat → Nat) (Z : CZ) (cJ : ClassId) (q : Nat) (f : Nat → Int64) (a1 : Int32) (a2 : Int32) (Zz : CZ) (h : fX6_plan a1 a2 Z = some ((.inr 1 : Int32 ⊕ Int32), Zz)) : vx_Met l yL_plan wsL_plan rmL_plan (va_Pc [.ref (ad 0 0), .int a1, .int a2, .ref q] (lP D G A ad Z cJ q f)) (lQ D G A ad 1 Zz cJ q (fun _ => True)) (fun _ _ _ => False) 2 12 (fun y => A y ∨ y = q) := by
  refine vx_ofWH (cc := cL_plan) (maxL := 5) (ret := some .int) (hh := [(0, 10, 13, 21), (0, 10, 17, 13)]) (by decide) rfl ?_
  intro p e s m args below meth c s₁ B hml hv
  obtain ⟨rfl, ⟨⟨⟨hI, hN, hK⟩, hE⟩, hF, hA⟩, hq, hKJ, hNc, hnq⟩ := hv
  have hx := B.exec
  have hb := B.bytes
  have hr := B.returns
  have hts := atoms_spec (ws := wsL_plan) B.pre
  have hown : s.vm.findClass RL = some m.cls := findClass_of_methodNamed B.named
  have hlocks := B.notSynchronized
  have l0 := hts (.classLink RL 21 "java/lang/IndexOutOfBoundsException") (List.mem_of_getElem? (i := 1) rfl)
  have htab := vx_table (x := yL_plan) B (hts _ (List.mem_cons_self))
  have hS : va_S (fun y => A y ∨ y = q) s.heap s.heap [] := va_S.rf
  have hl := lv_entry ([.ref (ad 0 0), .int a1, .int a2, .ref q]) (n := 5) (Nat.le_of_ble_eq_true rfl)
  rw [lg_entry_eq]
  generalize (lg_sl ([.ref (ad 0 0), .int a1, .int a2, .ref q]) ++ List.replicate (5 - (lg_sl ([.ref (ad 0 0), .int a1, .int a2, .ref q])).length) Slot.unset).toArray = ls at hl ⊢
  have hl : lv_has ls 5 [(0, .ref (ad 0 0)), (1, .int a1), (2, .int a2), (3, .ref q)] := hl
  refine lv_aload_n hx hb dL_plan_0 rfl (lv_at hl 3 rfl) ?_
  refine lv_iconst (v := 0) hx hb dL_plan_1 (by decide) ?_
  refine lv_aload_n hx hb dL_plan_2 rfl (lv_at hl 0 rfl) ?_
  refine lv_iload_n hx hb dL_plan_3 rfl (lv_at hl 1 rfl) ?_
  refine lv_iload_n hx hb dL_plan_4 rfl (lv_at hl 2 rfl) ?_
  refine vx_calli (A0 := fun y => A y ∨ y = q) (vx_runV (As := [.int a1, .int a2]) (rest := [.int 0, .ref q]) ⟨hx, hb, hml, hown, hts⟩ (mX6_plan l hfl D G A ad Z a1 a2 (.inr 1) Zz h) (cwV 2 hts gL_plan_X6_plan rfl rfl rfl (by decide +kernel) ⟨Nat.le_of_ble_eq_true rfl, Nat.le_of_ble_eq_true rfl⟩) (xg_preV hI hK hN hE va_S.rf rfl rfl (ci := 7) rfl) rfl rfl hl.1 rfl (lv_room (Nat.le_of_ble_eq_true rfl)) dL_plan_5 ⟨Nat.le_of_ble_eq_true rfl, Nat.le_of_ble_eq_true rfl⟩) hS (fun _ _ h => Or.inl h) (fun _ h => Or.inl h) (fun _ _ h => Or.inl h) (fun E ce q9 u t H1 locs1 ht hvm hp hB hz hk hS1 hce hcv hcl => ?_) (fun r9 u t H1 locs1 ht hvm hw hB hz hk hS1 => ?_)
  · have hq1 : va_at D vwCl (q, .inl (cJ, 1, .inr (.inl f))) H1 := hq.kept (hk q hq.lt hnq)
    obtain ⟨⟨c9, h9, h8⟩, hB⟩ := hB
    cases h9
    have hE9 : E = "java/lang/IndexOutOfBoundsException" := h8.trans (by decide)
    subst hE9
    subst hp
    have hI1 := hB.1
    have hN1 := hB.2.1
    rw [ht] at hN1
    refine vx_catch hown (name := "java/lang/IndexOutOfBoundsException") [] ⟨0, 10, 13, 21⟩ [⟨0, 10, 17, 13⟩] htab (fun z hz => by simp at hz) (by decide) (by decide) l0 (va_Nw.use rfl (hE.1.2 _ (by decide))) hce hcv hcl ?_
    refine lv_astore (lv' := [(4, .ref q9), (0, .ref (ad 0 0)), (1, .int a1), (2, .int a2), (3, .ref q)]) hx hb dL_plan_13 hl (by decide) rfl (fun ls hl => ?_)
    refine lv_iconst (v := 1) hx hb dL_plan_15 (by decide) ?_
    exact vx_ret (W.widen (k := 2) (n := 12) (by decide) (by decide) (W.iret hx hb hr (lg_end (P := fun _ => True) trivial rfl hI1 hK hN1 hq1 hS1) (fun z hz => hS1.2.2 z hz) dL_plan_16))
  · cases hw.1
set_option maxHeartbeats 4000000 in
set_option maxRecDepth 100000 in
theorem mL_plan_x2 (l : Launch) (hfl : l.stackTraces = false) (D : va_G) (G : CGT) (A : Nat → Prop) (ad : Nat → Nat → Nat) (Z : CZ) (cJ : ClassId) (q : Nat) (f : Nat → Int64) (a1 : Int32) (a2 : Int32) (Zz : CZ) (h : fX6_plan a1 a2 Z = some ((.inr 2 : Int32 ⊕ Int32), Zz)) : vx_Met l yL_plan wsL_plan rmL_plan (va_Pc [.ref (ad 0 0), .int a1, .int a2, .ref q] (lP D G A ad Z cJ q f)) (lQ D G A ad 2 Zz cJ q (fun _ => True)) (fun _ _ _ => False) 2 12 (fun y => A y ∨ y = q) := by
  refine vx_ofWH (cc := cL_plan) (maxL := 5) (ret := some .int) (hh := [(0, 10, 13, 21), (0, 10, 17, 13)]) (by decide) rfl ?_
  intro p e s m args below meth c s₁ B hml hv
  obtain ⟨rfl, ⟨⟨⟨hI, hN, hK⟩, hE⟩, hF, hA⟩, hq, hKJ, hNc, hnq⟩ := hv
  have hx := B.exec
  have hb := B.bytes
  have hr := B.returns
  have hts := atoms_spec (ws := wsL_plan) B.pre
  have hown : s.vm.findClass RL = some m.cls := findClass_of_methodNamed B.named
  have hlocks := B.notSynchronized
  have l0 := hts (.classLink RL 21 "java/lang/IndexOutOfBoundsException") (List.mem_of_getElem? (i := 1) rfl)
  have l1 := hts (.classLink RL 13 "java/lang/IllegalArgumentException") (List.mem_of_getElem? (i := 2) rfl)
  have htab := vx_table (x := yL_plan) B (hts _ (List.mem_cons_self))
  have hS : va_S (fun y => A y ∨ y = q) s.heap s.heap [] := va_S.rf
  have hl := lv_entry ([.ref (ad 0 0), .int a1, .int a2, .ref q]) (n := 5) (Nat.le_of_ble_eq_true rfl)
  rw [lg_entry_eq]
  generalize (lg_sl ([.ref (ad 0 0), .int a1, .int a2, .ref q]) ++ List.replicate (5 - (lg_sl ([.ref (ad 0 0), .int a1, .int a2, .ref q])).length) Slot.unset).toArray = ls at hl ⊢
  have hl : lv_has ls 5 [(0, .ref (ad 0 0)), (1, .int a1), (2, .int a2), (3, .ref q)] := hl
  refine lv_aload_n hx hb dL_plan_0 rfl (lv_at hl 3 rfl) ?_
  refine lv_iconst (v := 0) hx hb dL_plan_1 (by decide) ?_
  refine lv_aload_n hx hb dL_plan_2 rfl (lv_at hl 0 rfl) ?_
  refine lv_iload_n hx hb dL_plan_3 rfl (lv_at hl 1 rfl) ?_
  refine lv_iload_n hx hb dL_plan_4 rfl (lv_at hl 2 rfl) ?_
  refine vx_calli (A0 := fun y => A y ∨ y = q) (vx_runV (As := [.int a1, .int a2]) (rest := [.int 0, .ref q]) ⟨hx, hb, hml, hown, hts⟩ (mX6_plan l hfl D G A ad Z a1 a2 (.inr 2) Zz h) (cwV 2 hts gL_plan_X6_plan rfl rfl rfl (by decide +kernel) ⟨Nat.le_of_ble_eq_true rfl, Nat.le_of_ble_eq_true rfl⟩) (xg_preV hI hK hN hE va_S.rf rfl rfl (ci := 7) rfl) rfl rfl hl.1 rfl (lv_room (Nat.le_of_ble_eq_true rfl)) dL_plan_5 ⟨Nat.le_of_ble_eq_true rfl, Nat.le_of_ble_eq_true rfl⟩) hS (fun _ _ h => Or.inl h) (fun _ h => Or.inl h) (fun _ _ h => Or.inl h) (fun E ce q9 u t H1 locs1 ht hvm hp hB hz hk hS1 hce hcv hcl => ?_) (fun r9 u t H1 locs1 ht hvm hw hB hz hk hS1 => ?_)
  · have hq1 : va_at D vwCl (q, .inl (cJ, 1, .inr (.inl f))) H1 := hq.kept (hk q hq.lt hnq)
    obtain ⟨⟨c9, h9, h8⟩, hB⟩ := hB
    cases h9
    have hE9 : E = "java/lang/IllegalArgumentException" := h8.trans (by decide)
    subst hE9
    subst hp
    have hI1 := hB.1
    have hN1 := hB.2.1
    rw [ht] at hN1
    have hpass : ∀ z ∈ ([⟨0, 10, 13, 21⟩] : List ExceptionTableEntry), covers z 5 = false ∨ (z.catchType ≠ 0 ∧ ∃ nm : String, (Cond.classLink RL z.catchType nm).before (([.ref (ad 0 0), .int a1, .int a2, .ref q] : List Value).toArray) s = true ∧ va_Nc "java/lang/IllegalArgumentException" nm s) := by
      intro z hz
      simp only [List.mem_cons, List.not_mem_nil, or_false] at hz
      rcases hz with rfl
      · exact Or.inr ⟨by decide, _, l0, hNc _ (by decide) _ (by decide) (by decide)⟩
    refine vx_catch hown (name := "java/lang/IllegalArgumentException") [⟨0, 10, 13, 21⟩] ⟨0, 10, 17, 13⟩ [] htab hpass (by decide) (by decide) l1 (va_Nw.use rfl (hE.1.2 _ (by decide))) hce hcv hcl ?_
    refine lv_astore (lv' := [(4, .ref q9), (0, .ref (ad 0 0)), (1, .int a1), (2, .int a2), (3, .ref q)]) hx hb dL_plan_17 hl (by decide) rfl (fun ls hl => ?_)
    refine lv_iconst (v := 2) hx hb dL_plan_19 (by decide) ?_
    exact vx_ret (W.widen (k := 2) (n := 12) (by decide) (by decide) (W.iret hx hb hr (lg_end (P := fun _ => True) trivial rfl hI1 hK hN1 hq1 hS1) (fun z hz => hS1.2.2 z hz) dL_plan_20))
  · cases hw.1
def rmL_player : Room := { frames := 9, cells := 10, slots := 60, locals := 303 }
set_option maxHeartbeats 4000000 in
set_option maxRecDepth 100000 in
theorem mL_player (l : Launch) (hfl : l.stackTraces = false) (D : va_G) (G : CGT) (A : Nat → Prop) (ad : Nat → Nat → Nat) (Z : CZ) (cJ : ClassId) (q : Nat) (f : Nat → Int64) (a1 : Int32) (v : Int32) (Zz : CZ) (h : fX6_player a1 Z = some ((.inl v : Int32 ⊕ Int32), Zz)) : vx_Met l yL_player wsL_player rmL_player (va_Pc [.ref (ad 0 0), .int a1, .ref q] (lP D G A ad Z cJ q f)) (lQ D G A ad 0 Zz cJ q (fun f1 => f1 0 = v.toInt64)) (fun _ _ _ => False) 10 60 (fun y => A y ∨ y = q) := by
  refine vx_ofWH (cc := cL_player) (maxL := 4) (ret := some .int) (hh := [(0, 9, 12, 13), (0, 9, 15, 15)]) (by decide) rfl ?_
  intro p e s m args below meth c s₁ B hml hv
  obtain ⟨rfl, ⟨⟨⟨hI, hN, hK⟩, hE⟩, hF, hA⟩, hq, hKJ, hNc, hnq⟩ := hv
  have hx := B.exec
  have hb := B.bytes
  have hr := B.returns
  have hts := atoms_spec (ws := wsL_player) B.pre
  have hown : s.vm.findClass RL = some m.cls := findClass_of_methodNamed B.named
  have hlocks := B.notSynchronized
  have htab := vx_table (x := yL_player) B (hts _ (List.mem_cons_self))
  have hS : va_S (fun y => A y ∨ y = q) s.heap s.heap [] := va_S.rf
  have hl := lv_entry ([.ref (ad 0 0), .int a1, .ref q]) (n := 4) (Nat.le_of_ble_eq_true rfl)
  rw [lg_entry_eq]
  generalize (lg_sl ([.ref (ad 0 0), .int a1, .ref q]) ++ List.replicate (4 - (lg_sl ([.ref (ad 0 0), .int a1, .ref q])).length) Slot.unset).toArray = ls at hl ⊢
  have hl : lv_has ls 4 [(0, .ref (ad 0 0)), (1, .int a1), (2, .ref q)] := hl
  refine lv_aload_n hx hb dL_player_0 rfl (lv_at hl 2 rfl) ?_
  refine lv_iconst (v := 0) hx hb dL_player_1 (by decide) ?_
  refine lv_aload_n hx hb dL_player_2 rfl (lv_at hl 0 rfl) ?_
  refine lv_iload_n hx hb dL_player_3 rfl (lv_at hl 1 rfl) ?_
  refine vx_calli (A0 := fun y => A y ∨ y = q) (vx_runV (As := [.int a1]) (rest := [.int 0, .ref q]) ⟨hx, hb, hml, hown, hts⟩ (mX6_player l hfl D G A ad Z a1 (.inl v) Zz h) (cwV 1 hts gL_player_X6_player rfl rfl rfl (by decide +kernel) ⟨Nat.le_of_ble_eq_true rfl, Nat.le_of_ble_eq_true rfl⟩) (lg_preV hI hK hN hE hF hA) rfl rfl hl.1 rfl (lv_room (Nat.le_of_ble_eq_true rfl)) dL_player_4 ⟨Nat.le_of_ble_eq_true rfl, Nat.le_of_ble_eq_true rfl⟩) hS (fun _ _ h => Or.inl h) (fun _ h => Or.inl h) (fun _ _ h => Or.inl h) (fun E ce q9 u t H1 locs1 ht hvm hp hB hz hk hS1 hce hcv hcl => ?_) (fun r9 u t H1 locs1 ht hvm hw hB hz hk hS1 => ?_)
  · obtain ⟨⟨c9, h9, -⟩, -⟩ := hB
    cases h9
  · have hq1 : va_at D vwCl (q, .inl (cJ, 1, .inr (.inl f))) H1 := hq.kept (hk q hq.lt hnq)
    obtain ⟨u1, ad1⟩ := u
    obtain ⟨h9, rfl, h00⟩ := hw
    cases h9
    have hI1 := hB.1
    have hN1 := hB.2.1
    rw [ht] at hN1
    clear hB hk hz
    refine lv_i2l hx hb (v := v.toInt64) dL_player_7 rfl ?_
    refine lg_last hx hb hKJ hq1 hN1 hI1 hnq hS1 dL_player_8 (fun H2 locs2 hq1 hN1 hS1 => ?_)
    refine lv_goto (tgt := 18) hx hb dL_player_9 (by decide) ?_
    refine lv_iconst (v := 0) hx hb dL_player_18 (by decide) ?_
    exact vx_ret (W.widen (k := 10) (n := 60) (by decide) (by decide) (W.iret hx hb hr (lg_end (P := (fun f1 => f1 0 = v.toInt64)) (if_pos rfl) h00 hI1 hK hN1 hq1 hS1) (fun z hz => hS1.2.2 z hz) dL_player_19))
set_option maxHeartbeats 4000000 in
set_option maxRecDepth 100000 in
theorem mL_player_x1 (l : Launch) (hfl : l.stackTraces = false) (D : va_G) (G : CGT) (A : Nat → Prop) (ad : Nat → Nat → Nat) (Z : CZ) (cJ : ClassId) (q : Nat) (f : Nat → Int64) (a1 : Int32) (Zz : CZ) (h : fX6_player a1 Z = some ((.inr 2 : Int32 ⊕ Int32), Zz)) : vx_Met l yL_player wsL_player rmL_player (va_Pc [.ref (ad 0 0), .int a1, .ref q] (lP D G A ad Z cJ q f)) (lQ D G A ad 1 Zz cJ q (fun _ => True)) (fun _ _ _ => False) 10 60 (fun y => A y ∨ y = q) := by
  refine vx_ofWH (cc := cL_player) (maxL := 4) (ret := some .int) (hh := [(0, 9, 12, 13), (0, 9, 15, 15)]) (by decide) rfl ?_
  intro p e s m args below meth c s₁ B hml hv
  obtain ⟨rfl, ⟨⟨⟨hI, hN, hK⟩, hE⟩, hF, hA⟩, hq, hKJ, hNc, hnq⟩ := hv
  have hx := B.exec
  have hb := B.bytes
  have hr := B.returns
  have hts := atoms_spec (ws := wsL_player) B.pre
  have hown : s.vm.findClass RL = some m.cls := findClass_of_methodNamed B.named
  have hlocks := B.notSynchronized
  have l0 := hts (.classLink RL 13 "java/lang/IllegalArgumentException") (List.mem_of_getElem? (i := 1) rfl)
  have htab := vx_table (x := yL_player) B (hts _ (List.mem_cons_self))
  have hS : va_S (fun y => A y ∨ y = q) s.heap s.heap [] := va_S.rf
  have hl := lv_entry ([.ref (ad 0 0), .int a1, .ref q]) (n := 4) (Nat.le_of_ble_eq_true rfl)
  rw [lg_entry_eq]
  generalize (lg_sl ([.ref (ad 0 0), .int a1, .ref q]) ++ List.replicate (4 - (lg_sl ([.ref (ad 0 0), .int a1, .ref q])).length) Slot.unset).toArray = ls at hl ⊢
  have hl : lv_has ls 4 [(0, .ref (ad 0 0)), (1, .int a1), (2, .ref q)] := hl
  refine lv_aload_n hx hb dL_player_0 rfl (lv_at hl 2 rfl) ?_
  refine lv_iconst (v := 0) hx hb dL_player_1 (by decide) ?_
  refine lv_aload_n hx hb dL_player_2 rfl (lv_at hl 0 rfl) ?_
  refine lv_iload_n hx hb dL_player_3 rfl (lv_at hl 1 rfl) ?_
  refine vx_calli (A0 := fun y => A y ∨ y = q) (vx_runV (As := [.int a1]) (rest := [.int 0, .ref q]) ⟨hx, hb, hml, hown, hts⟩ (mX6_player l hfl D G A ad Z a1 (.inr 2) Zz h) (cwV 1 hts gL_player_X6_player rfl rfl rfl (by decide +kernel) ⟨Nat.le_of_ble_eq_true rfl, Nat.le_of_ble_eq_true rfl⟩) (lg_preV hI hK hN hE hF hA) rfl rfl hl.1 rfl (lv_room (Nat.le_of_ble_eq_true rfl)) dL_player_4 ⟨Nat.le_of_ble_eq_true rfl, Nat.le_of_ble_eq_true rfl⟩) hS (fun _ _ h => Or.inl h) (fun _ h => Or.inl h) (fun _ _ h => Or.inl h) (fun E ce q9 u t H1 locs1 ht hvm hp hB hz hk hS1 hce hcv hcl => ?_) (fun r9 u t H1 locs1 ht hvm hw hB hz hk hS1 => ?_)
  · have hq1 : va_at D vwCl (q, .inl (cJ, 1, .inr (.inl f))) H1 := hq.kept (hk q hq.lt hnq)
    obtain ⟨⟨c9, h9, h8⟩, hB⟩ := hB
    cases h9
    have hE9 : E = "java/lang/IllegalArgumentException" := h8.trans (by decide)
    subst hE9
    subst hp
    have hI1 := hB.1
    have hN1 := hB.2.1
    rw [ht] at hN1
    refine vx_catch hown (name := "java/lang/IllegalArgumentException") [] ⟨0, 9, 12, 13⟩ [⟨0, 9, 15, 15⟩] htab (fun z hz => by simp at hz) (by decide) (by decide) l0 (va_Nw.use rfl (hE.1.2 _ (by decide))) hce hcv hcl ?_
    refine lv_astore_n (lv' := [(3, .ref q9), (0, .ref (ad 0 0)), (1, .int a1), (2, .ref q)]) hx hb dL_player_12 rfl hl (by decide) rfl (fun ls hl => ?_)
    refine lv_iconst (v := 1) hx hb dL_player_13 (by decide) ?_
    exact vx_ret (W.widen (k := 10) (n := 60) (by decide) (by decide) (W.iret hx hb hr (lg_end (P := fun _ => True) trivial rfl hI1 hK hN1 hq1 hS1) (fun z hz => hS1.2.2 z hz) dL_player_14))
  · cases hw.1
set_option maxHeartbeats 4000000 in
set_option maxRecDepth 100000 in
theorem mL_player_x2 (l : Launch) (hfl : l.stackTraces = false) (D : va_G) (G : CGT) (A : Nat → Prop) (ad : Nat → Nat → Nat) (Z : CZ) (cJ : ClassId) (q : Nat) (f : Nat → Int64) (a1 : Int32) (Zz : CZ) (h : fX6_player a1 Z = some ((.inr 3 : Int32 ⊕ Int32), Zz)) : vx_Met l yL_player wsL_player rmL_player (va_Pc [.ref (ad 0 0), .int a1, .ref q] (lP D G A ad Z cJ q f)) (lQ D G A ad 2 Zz cJ q (fun _ => True)) (fun _ _ _ => False) 10 60 (fun y => A y ∨ y = q) := by
  refine vx_ofWH (cc := cL_player) (maxL := 4) (ret := some .int) (hh := [(0, 9, 12, 13), (0, 9, 15, 15)]) (by decide) rfl ?_
  intro p e s m args below meth c s₁ B hml hv
  obtain ⟨rfl, ⟨⟨⟨hI, hN, hK⟩, hE⟩, hF, hA⟩, hq, hKJ, hNc, hnq⟩ := hv
  have hx := B.exec
  have hb := B.bytes
  have hr := B.returns
  have hts := atoms_spec (ws := wsL_player) B.pre
  have hown : s.vm.findClass RL = some m.cls := findClass_of_methodNamed B.named
  have hlocks := B.notSynchronized
  have l0 := hts (.classLink RL 13 "java/lang/IllegalArgumentException") (List.mem_of_getElem? (i := 1) rfl)
  have l1 := hts (.classLink RL 15 "java/lang/IllegalStateException") (List.mem_of_getElem? (i := 2) rfl)
  have htab := vx_table (x := yL_player) B (hts _ (List.mem_cons_self))
  have hS : va_S (fun y => A y ∨ y = q) s.heap s.heap [] := va_S.rf
  have hl := lv_entry ([.ref (ad 0 0), .int a1, .ref q]) (n := 4) (Nat.le_of_ble_eq_true rfl)
  rw [lg_entry_eq]
  generalize (lg_sl ([.ref (ad 0 0), .int a1, .ref q]) ++ List.replicate (4 - (lg_sl ([.ref (ad 0 0), .int a1, .ref q])).length) Slot.unset).toArray = ls at hl ⊢
  have hl : lv_has ls 4 [(0, .ref (ad 0 0)), (1, .int a1), (2, .ref q)] := hl
  refine lv_aload_n hx hb dL_player_0 rfl (lv_at hl 2 rfl) ?_
  refine lv_iconst (v := 0) hx hb dL_player_1 (by decide) ?_
  refine lv_aload_n hx hb dL_player_2 rfl (lv_at hl 0 rfl) ?_
  refine lv_iload_n hx hb dL_player_3 rfl (lv_at hl 1 rfl) ?_
  refine vx_calli (A0 := fun y => A y ∨ y = q) (vx_runV (As := [.int a1]) (rest := [.int 0, .ref q]) ⟨hx, hb, hml, hown, hts⟩ (mX6_player l hfl D G A ad Z a1 (.inr 3) Zz h) (cwV 1 hts gL_player_X6_player rfl rfl rfl (by decide +kernel) ⟨Nat.le_of_ble_eq_true rfl, Nat.le_of_ble_eq_true rfl⟩) (lg_preV hI hK hN hE hF hA) rfl rfl hl.1 rfl (lv_room (Nat.le_of_ble_eq_true rfl)) dL_player_4 ⟨Nat.le_of_ble_eq_true rfl, Nat.le_of_ble_eq_true rfl⟩) hS (fun _ _ h => Or.inl h) (fun _ h => Or.inl h) (fun _ _ h => Or.inl h) (fun E ce q9 u t H1 locs1 ht hvm hp hB hz hk hS1 hce hcv hcl => ?_) (fun r9 u t H1 locs1 ht hvm hw hB hz hk hS1 => ?_)
  · have hq1 : va_at D vwCl (q, .inl (cJ, 1, .inr (.inl f))) H1 := hq.kept (hk q hq.lt hnq)
    obtain ⟨⟨c9, h9, h8⟩, hB⟩ := hB
    cases h9
    have hE9 : E = "java/lang/IllegalStateException" := h8.trans (by decide)
    subst hE9
    subst hp
    have hI1 := hB.1
    have hN1 := hB.2.1
    rw [ht] at hN1
    have hpass : ∀ z ∈ ([⟨0, 9, 12, 13⟩] : List ExceptionTableEntry), covers z 4 = false ∨ (z.catchType ≠ 0 ∧ ∃ nm : String, (Cond.classLink RL z.catchType nm).before (([.ref (ad 0 0), .int a1, .ref q] : List Value).toArray) s = true ∧ va_Nc "java/lang/IllegalStateException" nm s) := by
      intro z hz
      simp only [List.mem_cons, List.not_mem_nil, or_false] at hz
      rcases hz with rfl
      · exact Or.inr ⟨by decide, _, l0, hNc _ (by decide) _ (by decide) (by decide)⟩
    refine vx_catch hown (name := "java/lang/IllegalStateException") [⟨0, 9, 12, 13⟩] ⟨0, 9, 15, 15⟩ [] htab hpass (by decide) (by decide) l1 (va_Nw.use rfl (hE.1.2 _ (by decide))) hce hcv hcl ?_
    refine lv_astore_n (lv' := [(3, .ref q9), (0, .ref (ad 0 0)), (1, .int a1), (2, .ref q)]) hx hb dL_player_15 rfl hl (by decide) rfl (fun ls hl => ?_)
    refine lv_iconst (v := 2) hx hb dL_player_16 (by decide) ?_
    exact vx_ret (W.widen (k := 10) (n := 60) (by decide) (by decide) (W.iret hx hb hr (lg_end (P := fun _ => True) trivial rfl hI1 hK hN1 hq1 hS1) (fun z hz => hS1.2.2 z hz) dL_player_17))
  · cases hw.1
def rmL_join : Room := { frames := 9, cells := 14, slots := 84, locals := 305 }
set_option maxHeartbeats 4000000 in
set_option maxRecDepth 100000 in
theorem mL_join (l : Launch) (hfl : l.stackTraces = false) (D : va_G) (G : CGT) (A : Nat → Prop) (ad : Nat → Nat → Nat) (Z : CZ) (cJ : ClassId) (q : Nat) (f : Nat → Int64) (a1 : Int32) (a2 : Int32) (v : Int32) (Zz : CZ) (h : fX6_join a1 a2 Z = some ((.inl v : Int32 ⊕ Int32), Zz)) : vx_Met l yL_join wsL_join rmL_join (va_Pc [.ref (ad 0 0), .int a1, .int a2, .ref q] (lP D G A ad Z cJ q f)) (lQ D G A ad 0 Zz cJ q (fun f1 => f1 0 = v.toInt64)) (fun _ _ _ => False) 14 84 (fun y => A y ∨ y = q) := by
  refine vx_ofWH (cc := cL_join) (maxL := 5) (ret := some .int) (hh := [(0, 10, 13, 21), (0, 10, 17, 15)]) (by decide) rfl ?_
  intro p e s m args below meth c s₁ B hml hv
  obtain ⟨rfl, ⟨⟨⟨hI, hN, hK⟩, hE⟩, hF, hA⟩, hq, hKJ, hNc, hnq⟩ := hv
  have hx := B.exec
  have hb := B.bytes
  have hr := B.returns
  have hts := atoms_spec (ws := wsL_join) B.pre
  have hown : s.vm.findClass RL = some m.cls := findClass_of_methodNamed B.named
  have hlocks := B.notSynchronized
  have htab := vx_table (x := yL_join) B (hts _ (List.mem_cons_self))
  have hS : va_S (fun y => A y ∨ y = q) s.heap s.heap [] := va_S.rf
  have hl := lv_entry ([.ref (ad 0 0), .int a1, .int a2, .ref q]) (n := 5) (Nat.le_of_ble_eq_true rfl)
  rw [lg_entry_eq]
  generalize (lg_sl ([.ref (ad 0 0), .int a1, .int a2, .ref q]) ++ List.replicate (5 - (lg_sl ([.ref (ad 0 0), .int a1, .int a2, .ref q])).length) Slot.unset).toArray = ls at hl ⊢
  have hl : lv_has ls 5 [(0, .ref (ad 0 0)), (1, .int a1), (2, .int a2), (3, .ref q)] := hl
  refine lv_aload_n hx hb dL_join_0 rfl (lv_at hl 3 rfl) ?_
  refine lv_iconst (v := 0) hx hb dL_join_1 (by decide) ?_
  refine lv_aload_n hx hb dL_join_2 rfl (lv_at hl 0 rfl) ?_
  refine lv_iload_n hx hb dL_join_3 rfl (lv_at hl 1 rfl) ?_
  refine lv_iload_n hx hb dL_join_4 rfl (lv_at hl 2 rfl) ?_
  refine vx_calli (A0 := fun y => A y ∨ y = q) (vx_runV (As := [.int a1, .int a2]) (rest := [.int 0, .ref q]) ⟨hx, hb, hml, hown, hts⟩ (mX6_join l hfl D G A ad Z a1 a2 (.inl v) Zz h) (cwV 2 hts gL_join_X6_join rfl rfl rfl (by decide +kernel) ⟨Nat.le_of_ble_eq_true rfl, Nat.le_of_ble_eq_true rfl⟩) (lg_preV hI hK hN hE hF hA) rfl rfl hl.1 rfl (lv_room (Nat.le_of_ble_eq_true rfl)) dL_join_5 ⟨Nat.le_of_ble_eq_true rfl, Nat.le_of_ble_eq_true rfl⟩) hS (fun _ _ h => Or.inl h) (fun _ h => Or.inl h) (fun _ _ h => Or.inl h) (fun E ce q9 u t H1 locs1 ht hvm hp hB hz hk hS1 hce hcv hcl => ?_) (fun r9 u t H1 locs1 ht hvm hw hB hz hk hS1 => ?_)
  · obtain ⟨⟨c9, h9, -⟩, -⟩ := hB
    cases h9
  · have hq1 : va_at D vwCl (q, .inl (cJ, 1, .inr (.inl f))) H1 := hq.kept (hk q hq.lt hnq)
    obtain ⟨u1, ad1⟩ := u
    obtain ⟨h9, rfl, h00⟩ := hw
    cases h9
    have hI1 := hB.1
    have hN1 := hB.2.1
    rw [ht] at hN1
    clear hB hk hz
    refine lv_i2l hx hb (v := v.toInt64) dL_join_8 rfl ?_
    refine lg_last hx hb hKJ hq1 hN1 hI1 hnq hS1 dL_join_9 (fun H2 locs2 hq1 hN1 hS1 => ?_)
    refine lv_goto (tgt := 21) hx hb dL_join_10 (by decide) ?_
    refine lv_iconst (v := 0) hx hb dL_join_21 (by decide) ?_
    exact vx_ret (W.widen (k := 14) (n := 84) (by decide) (by decide) (W.iret hx hb hr (lg_end (P := (fun f1 => f1 0 = v.toInt64)) (if_pos rfl) h00 hI1 hK hN1 hq1 hS1) (fun z hz => hS1.2.2 z hz) dL_join_22))
set_option maxHeartbeats 4000000 in
set_option maxRecDepth 100000 in
theorem mL_join_x1 (l : Launch) (hfl : l.stackTraces = false) (D : va_G) (G : CGT) (A : Nat → Prop) (ad : Nat → Nat → Nat) (Z : CZ) (cJ : ClassId) (q : Nat) (f : Nat → Int64) (a1 : Int32) (a2 : Int32) (Zz : CZ) (h : fX6_join a1 a2 Z = some ((.inr 1 : Int32 ⊕ Int32), Zz)) : vx_Met l yL_join wsL_join rmL_join (va_Pc [.ref (ad 0 0), .int a1, .int a2, .ref q] (lP D G A ad Z cJ q f)) (lQ D G A ad 1 Zz cJ q (fun _ => True)) (fun _ _ _ => False) 14 84 (fun y => A y ∨ y = q) := by
  refine vx_ofWH (cc := cL_join) (maxL := 5) (ret := some .int) (hh := [(0, 10, 13, 21), (0, 10, 17, 15)]) (by decide) rfl ?_
  intro p e s m args below meth c s₁ B hml hv
  obtain ⟨rfl, ⟨⟨⟨hI, hN, hK⟩, hE⟩, hF, hA⟩, hq, hKJ, hNc, hnq⟩ := hv
  have hx := B.exec
  have hb := B.bytes
  have hr := B.returns
  have hts := atoms_spec (ws := wsL_join) B.pre
  have hown : s.vm.findClass RL = some m.cls := findClass_of_methodNamed B.named
  have hlocks := B.notSynchronized
  have l0 := hts (.classLink RL 21 "java/lang/IndexOutOfBoundsException") (List.mem_of_getElem? (i := 1) rfl)
  have htab := vx_table (x := yL_join) B (hts _ (List.mem_cons_self))
  have hS : va_S (fun y => A y ∨ y = q) s.heap s.heap [] := va_S.rf
  have hl := lv_entry ([.ref (ad 0 0), .int a1, .int a2, .ref q]) (n := 5) (Nat.le_of_ble_eq_true rfl)
  rw [lg_entry_eq]
  generalize (lg_sl ([.ref (ad 0 0), .int a1, .int a2, .ref q]) ++ List.replicate (5 - (lg_sl ([.ref (ad 0 0), .int a1, .int a2, .ref q])).length) Slot.unset).toArray = ls at hl ⊢
  have hl : lv_has ls 5 [(0, .ref (ad 0 0)), (1, .int a1), (2, .int a2), (3, .ref q)] := hl
  refine lv_aload_n hx hb dL_join_0 rfl (lv_at hl 3 rfl) ?_
  refine lv_iconst (v := 0) hx hb dL_join_1 (by decide) ?_
  refine lv_aload_n hx hb dL_join_2 rfl (lv_at hl 0 rfl) ?_
  refine lv_iload_n hx hb dL_join_3 rfl (lv_at hl 1 rfl) ?_
  refine lv_iload_n hx hb dL_join_4 rfl (lv_at hl 2 rfl) ?_
  refine vx_calli (A0 := fun y => A y ∨ y = q) (vx_runV (As := [.int a1, .int a2]) (rest := [.int 0, .ref q]) ⟨hx, hb, hml, hown, hts⟩ (mX6_join l hfl D G A ad Z a1 a2 (.inr 1) Zz h) (cwV 2 hts gL_join_X6_join rfl rfl rfl (by decide +kernel) ⟨Nat.le_of_ble_eq_true rfl, Nat.le_of_ble_eq_true rfl⟩) (lg_preV hI hK hN hE hF hA) rfl rfl hl.1 rfl (lv_room (Nat.le_of_ble_eq_true rfl)) dL_join_5 ⟨Nat.le_of_ble_eq_true rfl, Nat.le_of_ble_eq_true rfl⟩) hS (fun _ _ h => Or.inl h) (fun _ h => Or.inl h) (fun _ _ h => Or.inl h) (fun E ce q9 u t H1 locs1 ht hvm hp hB hz hk hS1 hce hcv hcl => ?_) (fun r9 u t H1 locs1 ht hvm hw hB hz hk hS1 => ?_)
  · have hq1 : va_at D vwCl (q, .inl (cJ, 1, .inr (.inl f))) H1 := hq.kept (hk q hq.lt hnq)
    obtain ⟨⟨c9, h9, h8⟩, hB⟩ := hB
    cases h9
    have hE9 : E = "java/lang/IndexOutOfBoundsException" := h8.trans (by decide)
    subst hE9
    subst hp
    have hI1 := hB.1
    have hN1 := hB.2.1
    rw [ht] at hN1
    refine vx_catch hown (name := "java/lang/IndexOutOfBoundsException") [] ⟨0, 10, 13, 21⟩ [⟨0, 10, 17, 15⟩] htab (fun z hz => by simp at hz) (by decide) (by decide) l0 (va_Nw.use rfl (hE.1.2 _ (by decide))) hce hcv hcl ?_
    refine lv_astore (lv' := [(4, .ref q9), (0, .ref (ad 0 0)), (1, .int a1), (2, .int a2), (3, .ref q)]) hx hb dL_join_13 hl (by decide) rfl (fun ls hl => ?_)
    refine lv_iconst (v := 1) hx hb dL_join_15 (by decide) ?_
    exact vx_ret (W.widen (k := 14) (n := 84) (by decide) (by decide) (W.iret hx hb hr (lg_end (P := fun _ => True) trivial rfl hI1 hK hN1 hq1 hS1) (fun z hz => hS1.2.2 z hz) dL_join_16))
  · cases hw.1
set_option maxHeartbeats 4000000 in
set_option maxRecDepth 100000 in
theorem mL_join_x2 (l : Launch) (hfl : l.stackTraces = false) (D : va_G) (G : CGT) (A : Nat → Prop) (ad : Nat → Nat → Nat) (Z : CZ) (cJ : ClassId) (q : Nat) (f : Nat → Int64) (a1 : Int32) (a2 : Int32) (Zz : CZ) (h : fX6_join a1 a2 Z = some ((.inr 3 : Int32 ⊕ Int32), Zz)) : vx_Met l yL_join wsL_join rmL_join (va_Pc [.ref (ad 0 0), .int a1, .int a2, .ref q] (lP D G A ad Z cJ q f)) (lQ D G A ad 2 Zz cJ q (fun _ => True)) (fun _ _ _ => False) 14 84 (fun y => A y ∨ y = q) := by
  refine vx_ofWH (cc := cL_join) (maxL := 5) (ret := some .int) (hh := [(0, 10, 13, 21), (0, 10, 17, 15)]) (by decide) rfl ?_
  intro p e s m args below meth c s₁ B hml hv
  obtain ⟨rfl, ⟨⟨⟨hI, hN, hK⟩, hE⟩, hF, hA⟩, hq, hKJ, hNc, hnq⟩ := hv
  have hx := B.exec
  have hb := B.bytes
  have hr := B.returns
  have hts := atoms_spec (ws := wsL_join) B.pre
  have hown : s.vm.findClass RL = some m.cls := findClass_of_methodNamed B.named
  have hlocks := B.notSynchronized
  have l0 := hts (.classLink RL 21 "java/lang/IndexOutOfBoundsException") (List.mem_of_getElem? (i := 1) rfl)
  have l1 := hts (.classLink RL 15 "java/lang/IllegalStateException") (List.mem_of_getElem? (i := 2) rfl)
  have htab := vx_table (x := yL_join) B (hts _ (List.mem_cons_self))
  have hS : va_S (fun y => A y ∨ y = q) s.heap s.heap [] := va_S.rf
  have hl := lv_entry ([.ref (ad 0 0), .int a1, .int a2, .ref q]) (n := 5) (Nat.le_of_ble_eq_true rfl)
  rw [lg_entry_eq]
  generalize (lg_sl ([.ref (ad 0 0), .int a1, .int a2, .ref q]) ++ List.replicate (5 - (lg_sl ([.ref (ad 0 0), .int a1, .int a2, .ref q])).length) Slot.unset).toArray = ls at hl ⊢
  have hl : lv_has ls 5 [(0, .ref (ad 0 0)), (1, .int a1), (2, .int a2), (3, .ref q)] := hl
  refine lv_aload_n hx hb dL_join_0 rfl (lv_at hl 3 rfl) ?_
  refine lv_iconst (v := 0) hx hb dL_join_1 (by decide) ?_
  refine lv_aload_n hx hb dL_join_2 rfl (lv_at hl 0 rfl) ?_
  refine lv_iload_n hx hb dL_join_3 rfl (lv_at hl 1 rfl) ?_
  refine lv_iload_n hx hb dL_join_4 rfl (lv_at hl 2 rfl) ?_
  refine vx_calli (A0 := fun y => A y ∨ y = q) (vx_runV (As := [.int a1, .int a2]) (rest := [.int 0, .ref q]) ⟨hx, hb, hml, hown, hts⟩ (mX6_join l hfl D G A ad Z a1 a2 (.inr 3) Zz h) (cwV 2 hts gL_join_X6_join rfl rfl rfl (by decide +kernel) ⟨Nat.le_of_ble_eq_true rfl, Nat.le_of_ble_eq_true rfl⟩) (lg_preV hI hK hN hE hF hA) rfl rfl hl.1 rfl (lv_room (Nat.le_of_ble_eq_true rfl)) dL_join_5 ⟨Nat.le_of_ble_eq_true rfl, Nat.le_of_ble_eq_true rfl⟩) hS (fun _ _ h => Or.inl h) (fun _ h => Or.inl h) (fun _ _ h => Or.inl h) (fun E ce q9 u t H1 locs1 ht hvm hp hB hz hk hS1 hce hcv hcl => ?_) (fun r9 u t H1 locs1 ht hvm hw hB hz hk hS1 => ?_)
  · have hq1 : va_at D vwCl (q, .inl (cJ, 1, .inr (.inl f))) H1 := hq.kept (hk q hq.lt hnq)
    obtain ⟨⟨c9, h9, h8⟩, hB⟩ := hB
    cases h9
    have hE9 : E = "java/lang/IllegalStateException" := h8.trans (by decide)
    subst hE9
    subst hp
    have hI1 := hB.1
    have hN1 := hB.2.1
    rw [ht] at hN1
    have hpass : ∀ z ∈ ([⟨0, 10, 13, 21⟩] : List ExceptionTableEntry), covers z 5 = false ∨ (z.catchType ≠ 0 ∧ ∃ nm : String, (Cond.classLink RL z.catchType nm).before (([.ref (ad 0 0), .int a1, .int a2, .ref q] : List Value).toArray) s = true ∧ va_Nc "java/lang/IllegalStateException" nm s) := by
      intro z hz
      simp only [List.mem_cons, List.not_mem_nil, or_false] at hz
      rcases hz with rfl
      · exact Or.inr ⟨by decide, _, l0, hNc _ (by decide) _ (by decide) (by decide)⟩
    refine vx_catch hown (name := "java/lang/IllegalStateException") [⟨0, 10, 13, 21⟩] ⟨0, 10, 17, 15⟩ [] htab hpass (by decide) (by decide) l1 (va_Nw.use rfl (hE.1.2 _ (by decide))) hce hcv hcl ?_
    refine lv_astore (lv' := [(4, .ref q9), (0, .ref (ad 0 0)), (1, .int a1), (2, .int a2), (3, .ref q)]) hx hb dL_join_17 hl (by decide) rfl (fun ls hl => ?_)
    refine lv_iconst (v := 2) hx hb dL_join_19 (by decide) ?_
    exact vx_ret (W.widen (k := 14) (n := 84) (by decide) (by decide) (W.iret hx hb hr (lg_end (P := fun _ => True) trivial rfl hI1 hK hN1 hq1 hS1) (fun z hz => hS1.2.2 z hz) dL_join_20))
  · cases hw.1
def rmL_leave : Room := { frames := 9, cells := 3, slots := 18, locals := 167 }
set_option maxHeartbeats 4000000 in
set_option maxRecDepth 100000 in
theorem mL_leave (l : Launch) (hfl : l.stackTraces = false) (D : va_G) (G : CGT) (A : Nat → Prop) (ad : Nat → Nat → Nat) (Z : CZ) (cJ : ClassId) (q : Nat) (f : Nat → Int64) (a1 : Int32) (a2 : Int32) (v : Int32) (Zz : CZ) (h : fX6_leave a1 a2 Z = some ((.inl v : Int32 ⊕ Int32), Zz)) : vx_Met l yL_leave wsL_leave rmL_leave (va_Pc [.ref (ad 0 0), .int a1, .int a2, .ref q] (lP D G A ad Z cJ q f)) (lQ D G A ad 0 Zz cJ q (fun f1 => f1 0 = v.toInt64)) (fun _ _ _ => False) 3 18 (fun y => A y ∨ y = q) := by
  refine vx_ofWH (cc := cL_leave) (maxL := 5) (ret := some .int) (hh := [(0, 10, 13, 21), (0, 10, 17, 15)]) (by decide) rfl ?_
  intro p e s m args below meth c s₁ B hml hv
  obtain ⟨rfl, ⟨⟨⟨hI, hN, hK⟩, hE⟩, hF, hA⟩, hq, hKJ, hNc, hnq⟩ := hv
  have hx := B.exec
  have hb := B.bytes
  have hr := B.returns
  have hts := atoms_spec (ws := wsL_leave) B.pre
  have hown : s.vm.findClass RL = some m.cls := findClass_of_methodNamed B.named
  have hlocks := B.notSynchronized
  have htab := vx_table (x := yL_leave) B (hts _ (List.mem_cons_self))
  have hS : va_S (fun y => A y ∨ y = q) s.heap s.heap [] := va_S.rf
  have hl := lv_entry ([.ref (ad 0 0), .int a1, .int a2, .ref q]) (n := 5) (Nat.le_of_ble_eq_true rfl)
  rw [lg_entry_eq]
  generalize (lg_sl ([.ref (ad 0 0), .int a1, .int a2, .ref q]) ++ List.replicate (5 - (lg_sl ([.ref (ad 0 0), .int a1, .int a2, .ref q])).length) Slot.unset).toArray = ls at hl ⊢
  have hl : lv_has ls 5 [(0, .ref (ad 0 0)), (1, .int a1), (2, .int a2), (3, .ref q)] := hl
  refine lv_aload_n hx hb dL_leave_0 rfl (lv_at hl 3 rfl) ?_
  refine lv_iconst (v := 0) hx hb dL_leave_1 (by decide) ?_
  refine lv_aload_n hx hb dL_leave_2 rfl (lv_at hl 0 rfl) ?_
  refine lv_iload_n hx hb dL_leave_3 rfl (lv_at hl 1 rfl) ?_
  refine lv_iload_n hx hb dL_leave_4 rfl (lv_at hl 2 rfl) ?_
  refine vx_calli (A0 := fun y => A y ∨ y = q) (vx_runV (As := [.int a1, .int a2]) (rest := [.int 0, .ref q]) ⟨hx, hb, hml, hown, hts⟩ (mX6_leave l hfl D G A ad Z a1 a2 (.inl v) Zz h) (cwV 2 hts gL_leave_X6_leave rfl rfl rfl (by decide +kernel) ⟨Nat.le_of_ble_eq_true rfl, Nat.le_of_ble_eq_true rfl⟩) (xg_preV hI hK hN hE va_S.rf rfl rfl (ci := 7) rfl) rfl rfl hl.1 rfl (lv_room (Nat.le_of_ble_eq_true rfl)) dL_leave_5 ⟨Nat.le_of_ble_eq_true rfl, Nat.le_of_ble_eq_true rfl⟩) hS (fun _ _ h => Or.inl h) (fun _ h => Or.inl h) (fun _ _ h => Or.inl h) (fun E ce q9 u t H1 locs1 ht hvm hp hB hz hk hS1 hce hcv hcl => ?_) (fun r9 u t H1 locs1 ht hvm hw hB hz hk hS1 => ?_)
  · obtain ⟨⟨c9, h9, -⟩, -⟩ := hB
    cases h9
  · have hq1 : va_at D vwCl (q, .inl (cJ, 1, .inr (.inl f))) H1 := hq.kept (hk q hq.lt hnq)
    obtain ⟨h9, rfl⟩ := hw
    cases h9
    have h00 : ad 0 0 = ad 0 0 := rfl
    have hI1 := hB.1
    have hN1 := hB.2.1
    rw [ht] at hN1
    clear hB hk hz
    refine lv_i2l hx hb (v := v.toInt64) dL_leave_8 rfl ?_
    refine lg_last hx hb hKJ hq1 hN1 hI1 hnq hS1 dL_leave_9 (fun H2 locs2 hq1 hN1 hS1 => ?_)
    refine lv_goto (tgt := 21) hx hb dL_leave_10 (by decide) ?_
    refine lv_iconst (v := 0) hx hb dL_leave_21 (by decide) ?_
    exact vx_ret (W.widen (k := 3) (n := 18) (by decide) (by decide) (W.iret hx hb hr (lg_end (P := (fun f1 => f1 0 = v.toInt64)) (if_pos rfl) h00 hI1 hK hN1 hq1 hS1) (fun z hz => hS1.2.2 z hz) dL_leave_22))
set_option maxHeartbeats 4000000 in
set_option maxRecDepth 100000 in
theorem mL_leave_x1 (l : Launch) (hfl : l.stackTraces = false) (D : va_G) (G : CGT) (A : Nat → Prop) (ad : Nat → Nat → Nat) (Z : CZ) (cJ : ClassId) (q : Nat) (f : Nat → Int64) (a1 : Int32) (a2 : Int32) (Zz : CZ) (h : fX6_leave a1 a2 Z = some ((.inr 1 : Int32 ⊕ Int32), Zz)) : vx_Met l yL_leave wsL_leave rmL_leave (va_Pc [.ref (ad 0 0), .int a1, .int a2, .ref q] (lP D G A ad Z cJ q f)) (lQ D G A ad 1 Zz cJ q (fun _ => True)) (fun _ _ _ => False) 3 18 (fun y => A y ∨ y = q) := by
  refine vx_ofWH (cc := cL_leave) (maxL := 5) (ret := some .int) (hh := [(0, 10, 13, 21), (0, 10, 17, 15)]) (by decide) rfl ?_
  intro p e s m args below meth c s₁ B hml hv
  obtain ⟨rfl, ⟨⟨⟨hI, hN, hK⟩, hE⟩, hF, hA⟩, hq, hKJ, hNc, hnq⟩ := hv
  have hx := B.exec
  have hb := B.bytes
  have hr := B.returns
  have hts := atoms_spec (ws := wsL_leave) B.pre
  have hown : s.vm.findClass RL = some m.cls := findClass_of_methodNamed B.named
  have hlocks := B.notSynchronized
  have l0 := hts (.classLink RL 21 "java/lang/IndexOutOfBoundsException") (List.mem_of_getElem? (i := 1) rfl)
  have htab := vx_table (x := yL_leave) B (hts _ (List.mem_cons_self))
  have hS : va_S (fun y => A y ∨ y = q) s.heap s.heap [] := va_S.rf
  have hl := lv_entry ([.ref (ad 0 0), .int a1, .int a2, .ref q]) (n := 5) (Nat.le_of_ble_eq_true rfl)
  rw [lg_entry_eq]
  generalize (lg_sl ([.ref (ad 0 0), .int a1, .int a2, .ref q]) ++ List.replicate (5 - (lg_sl ([.ref (ad 0 0), .int a1, .int a2, .ref q])).length) Slot.unset).toArray = ls at hl ⊢
  have hl : lv_has ls 5 [(0, .ref (ad 0 0)), (1, .int a1), (2, .int a2), (3, .ref q)] := hl
  refine lv_aload_n hx hb dL_leave_0 rfl (lv_at hl 3 rfl) ?_
  refine lv_iconst (v := 0) hx hb dL_leave_1 (by decide) ?_
  refine lv_aload_n hx hb dL_leave_2 rfl (lv_at hl 0 rfl) ?_
  refine lv_iload_n hx hb dL_leave_3 rfl (lv_at hl 1 rfl) ?_
  refine lv_iload_n hx hb dL_leave_4 rfl (lv_at hl 2 rfl) ?_
  refine vx_calli (A0 := fun y => A y ∨ y = q) (vx_runV (As := [.int a1, .int a2]) (rest := [.int 0, .ref q]) ⟨hx, hb, hml, hown, hts⟩ (mX6_leave l hfl D G A ad Z a1 a2 (.inr 1) Zz h) (cwV 2 hts gL_leave_X6_leave rfl rfl rfl (by decide +kernel) ⟨Nat.le_of_ble_eq_true rfl, Nat.le_of_ble_eq_true rfl⟩) (xg_preV hI hK hN hE va_S.rf rfl rfl (ci := 7) rfl) rfl rfl hl.1 rfl (lv_room (Nat.le_of_ble_eq_true rfl)) dL_leave_5 ⟨Nat.le_of_ble_eq_true rfl, Nat.le_of_ble_eq_true rfl⟩) hS (fun _ _ h => Or.inl h) (fun _ h => Or.inl h) (fun _ _ h => Or.inl h) (fun E ce q9 u t H1 locs1 ht hvm hp hB hz hk hS1 hce hcv hcl => ?_) (fun r9 u t H1 locs1 ht hvm hw hB hz hk hS1 => ?_)
  · have hq1 : va_at D vwCl (q, .inl (cJ, 1, .inr (.inl f))) H1 := hq.kept (hk q hq.lt hnq)
    obtain ⟨⟨c9, h9, h8⟩, hB⟩ := hB
    cases h9
    have hE9 : E = "java/lang/IndexOutOfBoundsException" := h8.trans (by decide)
    subst hE9
    subst hp
    have hI1 := hB.1
    have hN1 := hB.2.1
    rw [ht] at hN1
    refine vx_catch hown (name := "java/lang/IndexOutOfBoundsException") [] ⟨0, 10, 13, 21⟩ [⟨0, 10, 17, 15⟩] htab (fun z hz => by simp at hz) (by decide) (by decide) l0 (va_Nw.use rfl (hE.1.2 _ (by decide))) hce hcv hcl ?_
    refine lv_astore (lv' := [(4, .ref q9), (0, .ref (ad 0 0)), (1, .int a1), (2, .int a2), (3, .ref q)]) hx hb dL_leave_13 hl (by decide) rfl (fun ls hl => ?_)
    refine lv_iconst (v := 1) hx hb dL_leave_15 (by decide) ?_
    exact vx_ret (W.widen (k := 3) (n := 18) (by decide) (by decide) (W.iret hx hb hr (lg_end (P := fun _ => True) trivial rfl hI1 hK hN1 hq1 hS1) (fun z hz => hS1.2.2 z hz) dL_leave_16))
  · cases hw.1
set_option maxHeartbeats 4000000 in
set_option maxRecDepth 100000 in
theorem mL_leave_x2 (l : Launch) (hfl : l.stackTraces = false) (D : va_G) (G : CGT) (A : Nat → Prop) (ad : Nat → Nat → Nat) (Z : CZ) (cJ : ClassId) (q : Nat) (f : Nat → Int64) (a1 : Int32) (a2 : Int32) (Zz : CZ) (h : fX6_leave a1 a2 Z = some ((.inr 3 : Int32 ⊕ Int32), Zz)) : vx_Met l yL_leave wsL_leave rmL_leave (va_Pc [.ref (ad 0 0), .int a1, .int a2, .ref q] (lP D G A ad Z cJ q f)) (lQ D G A ad 2 Zz cJ q (fun _ => True)) (fun _ _ _ => False) 3 18 (fun y => A y ∨ y = q) := by
  refine vx_ofWH (cc := cL_leave) (maxL := 5) (ret := some .int) (hh := [(0, 10, 13, 21), (0, 10, 17, 15)]) (by decide) rfl ?_
  intro p e s m args below meth c s₁ B hml hv
  obtain ⟨rfl, ⟨⟨⟨hI, hN, hK⟩, hE⟩, hF, hA⟩, hq, hKJ, hNc, hnq⟩ := hv
  have hx := B.exec
  have hb := B.bytes
  have hr := B.returns
  have hts := atoms_spec (ws := wsL_leave) B.pre
  have hown : s.vm.findClass RL = some m.cls := findClass_of_methodNamed B.named
  have hlocks := B.notSynchronized
  have l0 := hts (.classLink RL 21 "java/lang/IndexOutOfBoundsException") (List.mem_of_getElem? (i := 1) rfl)
  have l1 := hts (.classLink RL 15 "java/lang/IllegalStateException") (List.mem_of_getElem? (i := 2) rfl)
  have htab := vx_table (x := yL_leave) B (hts _ (List.mem_cons_self))
  have hS : va_S (fun y => A y ∨ y = q) s.heap s.heap [] := va_S.rf
  have hl := lv_entry ([.ref (ad 0 0), .int a1, .int a2, .ref q]) (n := 5) (Nat.le_of_ble_eq_true rfl)
  rw [lg_entry_eq]
  generalize (lg_sl ([.ref (ad 0 0), .int a1, .int a2, .ref q]) ++ List.replicate (5 - (lg_sl ([.ref (ad 0 0), .int a1, .int a2, .ref q])).length) Slot.unset).toArray = ls at hl ⊢
  have hl : lv_has ls 5 [(0, .ref (ad 0 0)), (1, .int a1), (2, .int a2), (3, .ref q)] := hl
  refine lv_aload_n hx hb dL_leave_0 rfl (lv_at hl 3 rfl) ?_
  refine lv_iconst (v := 0) hx hb dL_leave_1 (by decide) ?_
  refine lv_aload_n hx hb dL_leave_2 rfl (lv_at hl 0 rfl) ?_
  refine lv_iload_n hx hb dL_leave_3 rfl (lv_at hl 1 rfl) ?_
  refine lv_iload_n hx hb dL_leave_4 rfl (lv_at hl 2 rfl) ?_
  refine vx_calli (A0 := fun y => A y ∨ y = q) (vx_runV (As := [.int a1, .int a2]) (rest := [.int 0, .ref q]) ⟨hx, hb, hml, hown, hts⟩ (mX6_leave l hfl D G A ad Z a1 a2 (.inr 3) Zz h) (cwV 2 hts gL_leave_X6_leave rfl rfl rfl (by decide +kernel) ⟨Nat.le_of_ble_eq_true rfl, Nat.le_of_ble_eq_true rfl⟩) (xg_preV hI hK hN hE va_S.rf rfl rfl (ci := 7) rfl) rfl rfl hl.1 rfl (lv_room (Nat.le_of_ble_eq_true rfl)) dL_leave_5 ⟨Nat.le_of_ble_eq_true rfl, Nat.le_of_ble_eq_true rfl⟩) hS (fun _ _ h => Or.inl h) (fun _ h => Or.inl h) (fun _ _ h => Or.inl h) (fun E ce q9 u t H1 locs1 ht hvm hp hB hz hk hS1 hce hcv hcl => ?_) (fun r9 u t H1 locs1 ht hvm hw hB hz hk hS1 => ?_)
  · have hq1 : va_at D vwCl (q, .inl (cJ, 1, .inr (.inl f))) H1 := hq.kept (hk q hq.lt hnq)
    obtain ⟨⟨c9, h9, h8⟩, hB⟩ := hB
    cases h9
    have hE9 : E = "java/lang/IllegalStateException" := h8.trans (by decide)
    subst hE9
    subst hp
    have hI1 := hB.1
    have hN1 := hB.2.1
    rw [ht] at hN1
    have hpass : ∀ z ∈ ([⟨0, 10, 13, 21⟩] : List ExceptionTableEntry), covers z 5 = false ∨ (z.catchType ≠ 0 ∧ ∃ nm : String, (Cond.classLink RL z.catchType nm).before (([.ref (ad 0 0), .int a1, .int a2, .ref q] : List Value).toArray) s = true ∧ va_Nc "java/lang/IllegalStateException" nm s) := by
      intro z hz
      simp only [List.mem_cons, List.not_mem_nil, or_false] at hz
      rcases hz with rfl
      · exact Or.inr ⟨by decide, _, l0, hNc _ (by decide) _ (by decide) (by decide)⟩
    refine vx_catch hown (name := "java/lang/IllegalStateException") [⟨0, 10, 13, 21⟩] ⟨0, 10, 17, 15⟩ [] htab hpass (by decide) (by decide) l1 (va_Nw.use rfl (hE.1.2 _ (by decide))) hce hcv hcl ?_
    refine lv_astore (lv' := [(4, .ref q9), (0, .ref (ad 0 0)), (1, .int a1), (2, .int a2), (3, .ref q)]) hx hb dL_leave_17 hl (by decide) rfl (fun ls hl => ?_)
    refine lv_iconst (v := 2) hx hb dL_leave_19 (by decide) ?_
    exact vx_ret (W.widen (k := 3) (n := 18) (by decide) (by decide) (W.iret hx hb hr (lg_end (P := fun _ => True) trivial rfl hI1 hK hN1 hq1 hS1) (fun z hz => hS1.2.2 z hz) dL_leave_20))
  · cases hw.1
