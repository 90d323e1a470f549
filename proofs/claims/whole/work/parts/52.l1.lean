def rmL_give : Room := { frames := 9, cells := 3, slots := 18, locals := 166 }
set_option maxHeartbeats 4000000 in
set_option maxRecDepth 100000 in
theorem mL_give (l : Launch) (hfl : l.stackTraces = false) (D : va_G) (G : CGT) (A : Nat → Prop) (ad : Nat → Nat → Nat) (Z : CZ) (cJ : ClassId) (q : Nat) (f : Nat → Int64) (a1 : Int32) (a2 : Int32) (Zz : CZ) (h : fX6_give a1 a2 Z = some ((.inl () : Unit ⊕ Int32), Zz)) : vx_Met l yL_give wsL_give rmL_give (va_Pc [.ref (ad 0 0), .int a1, .int a2] (lP D G A ad Z cJ q f)) (lQ D G A ad 0 Zz cJ q (fun _ => True)) (fun _ _ _ => False) 3 18 (fun y => A y ∨ y = q) := by
  refine vx_ofWH (cc := cL_give) (maxL := 4) (ret := some .int) (hh := [(0, 6, 9, 21), (0, 6, 12, 15)]) (by decide) rfl ?_
  intro p e s m args below meth c s₁ B hml hv
  obtain ⟨rfl, ⟨⟨⟨hI, hN, hK⟩, hE⟩, hF, hA⟩, hq, hKJ, hNc, hnq⟩ := hv
  have hx := B.exec
  have hb := B.bytes
  have hr := B.returns
  have hts := atoms_spec (ws := wsL_give) B.pre
  have hown : s.vm.findClass RL = some m.cls := findClass_of_methodNamed B.named
  have hlocks := B.notSynchronized
  have htab := vx_table (x := yL_give) B (hts _ (List.mem_cons_self))
  have hS : va_S (fun y => A y ∨ y = q) s.heap s.heap [] := va_S.rf
  have hl := lv_entry ([.ref (ad 0 0), .int a1, .int a2]) (n := 4) (Nat.le_of_ble_eq_true rfl)
  rw [lg_entry_eq]
  generalize (lg_sl ([.ref (ad 0 0), .int a1, .int a2]) ++ List.replicate (4 - (lg_sl ([.ref (ad 0 0), .int a1, .int a2])).length) Slot.unset).toArray = ls at hl ⊢
  have hl : lv_has ls 4 [(0, .ref (ad 0 0)), (1, .int a1), (2, .int a2)] := hl
  refine lv_aload_n hx hb dL_give_0 rfl (lv_at hl 0 rfl) ?_
  refine lv_iload_n hx hb dL_give_1 rfl (lv_at hl 1 rfl) ?_
  refine lv_iload_n hx hb dL_give_2 rfl (lv_at hl 2 rfl) ?_
  refine vx_callv (A0 := fun y => A y ∨ y = q) (vx_runV (As := [.int a1, .int a2]) (rest := []) ⟨hx, hb, hml, hown, hts⟩ (mX6_give l hfl D G A ad Z a1 a2 (.inl ()) Zz h) (cwV 2 hts gL_give_X6_give rfl rfl rfl (by decide +kernel) ⟨Nat.le_of_ble_eq_true rfl, Nat.le_of_ble_eq_true rfl⟩) (xg_preV hI hK hN hE va_S.rf rfl rfl (ci := 7) rfl) rfl rfl hl.1 rfl (lv_room (Nat.le_of_ble_eq_true rfl)) dL_give_3 ⟨Nat.le_of_ble_eq_true rfl, Nat.le_of_ble_eq_true rfl⟩) hS (fun _ _ h => Or.inl h) (fun _ h => Or.inl h) (fun _ _ h => Or.inl h) (fun E ce q9 u t H1 locs1 ht hvm hp hB hz hk hS1 hce hcv hcl => ?_) (fun u t H1 locs1 ht hvm hw hB hz hk hS1 => ?_)
  · obtain ⟨⟨c9, h9, -⟩, -⟩ := hB
    cases h9
  · have hq1 : va_at D vwCl (q, .inl (cJ, 1, .inr (.inl f))) H1 := hq.kept (hk q hq.lt hnq)
    obtain ⟨h9, rfl⟩ := hw
    have h00 : ad 0 0 = ad 0 0 := rfl
    have hI1 := hB.1
    have hN1 := hB.2.1
    rw [ht] at hN1
    clear hB hk hz
    refine lv_goto (tgt := 15) hx hb dL_give_6 (by decide) ?_
    refine lv_iconst (v := 0) hx hb dL_give_15 (by decide) ?_
    exact vx_ret (W.widen (k := 3) (n := 18) (by decide) (by decide) (W.iret hx hb hr (lg_end (P := (fun _ => True)) trivial h00 hI1 hK hN1 hq1 hS1) (fun z hz => hS1.2.2 z hz) dL_give_16))
set_option maxHeartbeats 4000000 in
set_option maxRecDepth 100000 in
theorem mL_give_x1 (l : Launch) (hfl : l.stackTraces = false) (D : va_G) (G : CGT) (A : Nat → Prop) (ad : Nat → Nat → Nat) (Z : CZ) (cJ : ClassId) (q : Nat) (f : Nat → Int64) (a1 : Int32) (a2 : Int32) (Zz : CZ) (h : fX6_give a1 a2 Z = some ((.inr 1 : Unit ⊕ Int32), Zz)) : vx_Met l yL_give wsL_give rmL_give (va_Pc [.ref (ad 0 0), .int a1, .int a2] (lP D G A ad Z cJ q f)) (lQ D G A ad 1 Zz cJ q (fun _ => True)) (fun _ _ _ => False) 3 18 (fun y => A y ∨ y = q) := by
  refine vx_ofWH (cc := cL_give) (maxL := 4) (ret := some .int) (hh := [(0, 6, 9, 21), (0, 6, 12, 15)]) (by decide) rfl ?_
  intro p e s m args below meth c s₁ B hml hv
  obtain ⟨rfl, ⟨⟨⟨hI, hN, hK⟩, hE⟩, hF, hA⟩, hq, hKJ, hNc, hnq⟩ := hv
  have hx := B.exec
  have hb := B.bytes
  have hr := B.returns
  have hts := atoms_spec (ws := wsL_give) B.pre
  have hown : s.vm.findClass RL = some m.cls := findClass_of_methodNamed B.named
  have hlocks := B.notSynchronized
  have l0 := hts (.classLink RL 21 "java/lang/IndexOutOfBoundsException") (List.mem_of_getElem? (i := 1) rfl)
  have htab := vx_table (x := yL_give) B (hts _ (List.mem_cons_self))
  have hS : va_S (fun y => A y ∨ y = q) s.heap s.heap [] := va_S.rf
  have hl := lv_entry ([.ref (ad 0 0), .int a1, .int a2]) (n := 4) (Nat.le_of_ble_eq_true rfl)
  rw [lg_entry_eq]
  generalize (lg_sl ([.ref (ad 0 0), .int a1, .int a2]) ++ List.replicate (4 - (lg_sl ([.ref (ad 0 0), .int a1, .int a2])).length) Slot.unset).toArray = ls at hl ⊢
  have hl : lv_has ls 4 [(0, .ref (ad 0 0)), (1, .int a1), (2, .int a2)] := hl
  refine lv_aload_n hx hb dL_give_0 rfl (lv_at hl 0 rfl) ?_
  refine lv_iload_n hx hb dL_give_1 rfl (lv_at hl 1 rfl) ?_
  refine lv_iload_n hx hb dL_give_2 rfl (lv_at hl 2 rfl) ?_
  refine vx_callv (A0 := fun y => A y ∨ y = q) (vx_runV (As := [.int a1, .int a2]) (rest := []) ⟨hx, hb, hml, hown, hts⟩ (mX6_give l hfl D G A ad Z a1 a2 (.inr 1) Zz h) (cwV 2 hts gL_give_X6_give rfl rfl rfl (by decide +kernel) ⟨Nat.le_of_ble_eq_true rfl, Nat.le_of_ble_eq_true rfl⟩) (xg_preV hI hK hN hE va_S.rf rfl rfl (ci := 7) rfl) rfl rfl hl.1 rfl (lv_room (Nat.le_of_ble_eq_true rfl)) dL_give_3 ⟨Nat.le_of_ble_eq_true rfl, Nat.le_of_ble_eq_true rfl⟩) hS (fun _ _ h => Or.inl h) (fun _ h => Or.inl h) (fun _ _ h => Or.inl h) (fun E ce q9 u t H1 locs1 ht hvm hp hB hz hk hS1 hce hcv hcl => ?_) (fun u t H1 locs1 ht hvm hw hB hz hk hS1 => ?_)
  · have hq1 : va_at D vwCl (q, .inl (cJ, 1, .inr (.inl f))) H1 := hq.kept (hk q hq.lt hnq)
    obtain ⟨⟨c9, h9, h8⟩, hB⟩ := hB
    cases h9
    have hE9 : E = "java/lang/IndexOutOfBoundsException" := h8.trans (by decide)
    subst hE9
    subst hp
    have hI1 := hB.1
    have hN1 := hB.2.1
    rw [ht] at hN1
    refine vx_catch hown (name := "java/lang/IndexOutOfBoundsException") [] ⟨0, 6, 9, 21⟩ [⟨0, 6, 12, 15⟩] htab (fun z hz => by simp at hz) (by decide) (by decide) l0 (va_Nw.use rfl (hE.1.2 _ (by decide))) hce hcv hcl ?_
    refine lv_astore_n (lv' := [(3, .ref q9), (0, .ref (ad 0 0)), (1, .int a1), (2, .int a2)]) hx hb dL_give_9 rfl hl (by decide) rfl (fun ls hl => ?_)
    refine lv_iconst (v := 1) hx hb dL_give_10 (by decide) ?_
    exact vx_ret (W.widen (k := 3) (n := 18) (by decide) (by decide) (W.iret hx hb hr (lg_end (P := fun _ => True) trivial rfl hI1 hK hN1 hq1 hS1) (fun z hz => hS1.2.2 z hz) dL_give_11))
  · cases hw.1
set_option maxHeartbeats 4000000 in
set_option maxRecDepth 100000 in
theorem mL_give_x2 (l : Launch) (hfl : l.stackTraces = false) (D : va_G) (G : CGT) (A : Nat → Prop) (ad : Nat → Nat → Nat) (Z : CZ) (cJ : ClassId) (q : Nat) (f : Nat → Int64) (a1 : Int32) (a2 : Int32) (Zz : CZ) (h : fX6_give a1 a2 Z = some ((.inr 3 : Unit ⊕ Int32), Zz)) : vx_Met l yL_give wsL_give rmL_give (va_Pc [.ref (ad 0 0), .int a1, .int a2] (lP D G A ad Z cJ q f)) (lQ D G A ad 2 Zz cJ q (fun _ => True)) (fun _ _ _ => False) 3 18 (fun y => A y ∨ y = q) := by
  refine vx_ofWH (cc := cL_give) (maxL := 4) (ret := some .int) (hh := [(0, 6, 9, 21), (0, 6, 12, 15)]) (by decide) rfl ?_
  intro p e s m args below meth c s₁ B hml hv
  obtain ⟨rfl, ⟨⟨⟨hI, hN, hK⟩, hE⟩, hF, hA⟩, hq, hKJ, hNc, hnq⟩ := hv
  have hx := B.exec
  have hb := B.bytes
  have hr := B.returns
  have hts := atoms_spec (ws := wsL_give) B.pre
  have hown : s.vm.findClass RL = some m.cls := findClass_of_methodNamed B.named
  have hlocks := B.notSynchronized
  have l0 := hts (.classLink RL 21 "java/lang/IndexOutOfBoundsException") (List.mem_of_getElem? (i := 1) rfl)
  have l1 := hts (.classLink RL 15 "java/lang/IllegalStateException") (List.mem_of_getElem? (i := 2) rfl)
  have htab := vx_table (x := yL_give) B (hts _ (List.mem_cons_self))
  have hS : va_S (fun y => A y ∨ y = q) s.heap s.heap [] := va_S.rf
  have hl := lv_entry ([.ref (ad 0 0), .int a1, .int a2]) (n := 4) (Nat.le_of_ble_eq_true rfl)
  rw [lg_entry_eq]
  generalize (lg_sl ([.ref (ad 0 0), .int a1, .int a2]) ++ List.replicate (4 - (lg_sl ([.ref (ad 0 0), .int a1, .int a2])).length) Slot.unset).toArray = ls at hl ⊢
  have hl : lv_has ls 4 [(0, .ref (ad 0 0)), (1, .int a1), (2, .int a2)] := hl
  refine lv_aload_n hx hb dL_give_0 rfl (lv_at hl 0 rfl) ?_
  refine lv_iload_n hx hb dL_give_1 rfl (lv_at hl 1 rfl) ?_
  refine lv_iload_n hx hb dL_give_2 rfl (lv_at hl 2 rfl) ?_
  refine vx_callv (A0 := fun y => A y ∨ y = q) (vx_runV (As := [.int a1, .int a2]) (rest := []) ⟨hx, hb, hml, hown, hts⟩ (mX6_give l hfl D G A ad Z a1 a2 (.inr 3) Zz h) (cwV 2 hts gL_give_X6_give rfl rfl rfl (by decide +kernel) ⟨Nat.le_of_ble_eq_true rfl, Nat.le_of_ble_eq_true rfl⟩) (xg_preV hI hK hN hE va_S.rf rfl rfl (ci := 7) rfl) rfl rfl hl.1 rfl (lv_room (Nat.le_of_ble_eq_true rfl)) dL_give_3 ⟨Nat.le_of_ble_eq_true rfl, Nat.le_of_ble_eq_true rfl⟩) hS (fun _ _ h => Or.inl h) (fun _ h => Or.inl h) (fun _ _ h => Or.inl h) (fun E ce q9 u t H1 locs1 ht hvm hp hB hz hk hS1 hce hcv hcl => ?_) (fun u t H1 locs1 ht hvm hw hB hz hk hS1 => ?_)
  · have hq1 : va_at D vwCl (q, .inl (cJ, 1, .inr (.inl f))) H1 := hq.kept (hk q hq.lt hnq)
    obtain ⟨⟨c9, h9, h8⟩, hB⟩ := hB
    cases h9
    have hE9 : E = "java/lang/IllegalStateException" := h8.trans (by decide)
    subst hE9
    subst hp
    have hI1 := hB.1
    have hN1 := hB.2.1
    rw [ht] at hN1
    have hpass : ∀ z ∈ ([⟨0, 6, 9, 21⟩] : List ExceptionTableEntry), covers z 3 = false ∨ (z.catchType ≠ 0 ∧ ∃ nm : String, (Cond.classLink RL z.catchType nm).before (([.ref (ad 0 0), .int a1, .int a2] : List Value).toArray) s = true ∧ va_Nc "java/lang/IllegalStateException" nm s) := by
      intro z hz
      simp only [List.mem_cons, List.not_mem_nil, or_false] at hz
      rcases hz with rfl
      · exact Or.inr ⟨by decide, _, l0, hNc _ (by decide) _ (by decide) (by decide)⟩
    refine vx_catch hown (name := "java/lang/IllegalStateException") [⟨0, 6, 9, 21⟩] ⟨0, 6, 12, 15⟩ [] htab hpass (by decide) (by decide) l1 (va_Nw.use rfl (hE.1.2 _ (by decide))) hce hcv hcl ?_
    refine lv_astore_n (lv' := [(3, .ref q9), (0, .ref (ad 0 0)), (1, .int a1), (2, .int a2)]) hx hb dL_give_12 rfl hl (by decide) rfl (fun ls hl => ?_)
    refine lv_iconst (v := 2) hx hb dL_give_13 (by decide) ?_
    exact vx_ret (W.widen (k := 3) (n := 18) (by decide) (by decide) (W.iret hx hb hr (lg_end (P := fun _ => True) trivial rfl hI1 hK hN1 hq1 hS1) (fun z hz => hS1.2.2 z hz) dL_give_14))
  · cases hw.1
def rmL_takeBack : Room := { frames := 9, cells := 2, slots := 12, locals := 165 }
set_option maxHeartbeats 4000000 in
set_option maxRecDepth 100000 in
theorem mL_takeBack (l : Launch) (hfl : l.stackTraces = false) (D : va_G) (G : CGT) (A : Nat → Prop) (ad : Nat → Nat → Nat) (Z : CZ) (cJ : ClassId) (q : Nat) (f : Nat → Int64) (a1 : Int32) (v : Int32) (Zz : CZ) (h : fX6_takeBack a1 Z = some ((.inl v : Int32 ⊕ Int32), Zz)) : vx_Met l yL_takeBack wsL_takeBack rmL_takeBack (va_Pc [.ref (ad 0 0), .int a1, .ref q] (lP D G A ad Z cJ q f)) (lQ D G A ad 0 Zz cJ q (fun f1 => f1 0 = v.toInt64)) (fun _ _ _ => False) 2 12 (fun y => A y ∨ y = q) := by
  refine vx_ofWH (cc := cL_takeBack) (maxL := 4) (ret := some .int) (hh := [(0, 9, 12, 21), (0, 9, 15, 15)]) (by decide) rfl ?_
  intro p e s m args below meth c s₁ B hml hv
  obtain ⟨rfl, ⟨⟨⟨hI, hN, hK⟩, hE⟩, hF, hA⟩, hq, hKJ, hNc, hnq⟩ := hv
  have hx := B.exec
  have hb := B.bytes
  have hr := B.returns
  have hts := atoms_spec (ws := wsL_takeBack) B.pre
  have hown : s.vm.findClass RL = some m.cls := findClass_of_methodNamed B.named
  have hlocks := B.notSynchronized
  have htab := vx_table (x := yL_takeBack) B (hts _ (List.mem_cons_self))
  have hS : va_S (fun y => A y ∨ y = q) s.heap s.heap [] := va_S.rf
  have hl := lv_entry ([.ref (ad 0 0), .int a1, .ref q]) (n := 4) (Nat.le_of_ble_eq_true rfl)
  rw [lg_entry_eq]
  generalize (lg_sl ([.ref (ad 0 0), .int a1, .ref q]) ++ List.replicate (4 - (lg_sl ([.ref (ad 0 0), .int a1, .ref q])).length) Slot.unset).toArray = ls at hl ⊢
  have hl : lv_has ls 4 [(0, .ref (ad 0 0)), (1, .int a1), (2, .ref q)] := hl
  refine lv_aload_n hx hb dL_takeBack_0 rfl (lv_at hl 2 rfl) ?_
  refine lv_iconst (v := 0) hx hb dL_takeBack_1 (by decide) ?_
  refine lv_aload_n hx hb dL_takeBack_2 rfl (lv_at hl 0 rfl) ?_
  refine lv_iload_n hx hb dL_takeBack_3 rfl (lv_at hl 1 rfl) ?_
  refine vx_calli (A0 := fun y => A y ∨ y = q) (vx_runV (As := [.int a1]) (rest := [.int 0, .ref q]) ⟨hx, hb, hml, hown, hts⟩ (mX6_takeBack l hfl D G A ad Z a1 (.inl v) Zz h) (cwV 1 hts gL_takeBack_X6_takeBack rfl rfl rfl (by decide +kernel) ⟨Nat.le_of_ble_eq_true rfl, Nat.le_of_ble_eq_true rfl⟩) (xg_preV hI hK hN hE va_S.rf rfl rfl (ci := 7) rfl) rfl rfl hl.1 rfl (lv_room (Nat.le_of_ble_eq_true rfl)) dL_takeBack_4 ⟨Nat.le_of_ble_eq_true rfl, Nat.le_of_ble_eq_true rfl⟩) hS (fun _ _ h => Or.inl h) (fun _ h => Or.inl h) (fun _ _ h => Or.inl h) (fun E ce q9 u t H1 locs1 ht hvm hp hB hz hk hS1 hce hcv hcl => ?_) (fun r9 u t H1 locs1 ht hvm hw hB hz hk hS1 => ?_)
  · obtain ⟨⟨c9, h9, -⟩, -⟩ := hB
    cases h9
  · have hq1 : va_at D vwCl (q, .inl (cJ, 1, .inr (.inl f))) H1 := hq.kept (hk q hq.lt hnq)
    obtain ⟨h9, rfl⟩ := hw
    cases h9
    have h00 : ad 0 0 = ad 0 0 := rfl
    have hI1 := hB.1
    have hN1 := hB.2.1
    rw [ht] at hN1
    clear hB hk hz
    refine lv_i2l hx hb (v := v.toInt64) dL_takeBack_7 rfl ?_
    refine lg_last hx hb hKJ hq1 hN1 hI1 hnq hS1 dL_takeBack_8 (fun H2 locs2 hq1 hN1 hS1 => ?_)
    refine lv_goto (tgt := 18) hx hb dL_takeBack_9 (by decide) ?_
    refine lv_iconst (v := 0) hx hb dL_takeBack_18 (by decide) ?_
    exact vx_ret (W.widen (k := 2) (n := 12) (by decide) (by decide) (W.iret hx hb hr (lg_end (P := (fun f1 => f1 0 = v.toInt64)) (if_pos rfl) h00 hI1 hK hN1 hq1 hS1) (fun z hz => hS1.2.2 z hz) dL_takeBack_19))
set_option maxHeartbeats 4000000 in
set_option maxRecDepth 100000 in
theorem mL_takeBack_x1 (l : Launch) (hfl : l.stackTraces = false) (D : va_G) (G : CGT) (A : Nat → Prop) (ad : Nat → Nat → Nat) (Z : CZ) (cJ : ClassId) (q : Nat) (f : Nat → Int64) (a1 : Int32) (Zz : CZ) (h : fX6_takeBack a1 Z = some ((.inr 1 : Int32 ⊕ Int32), Zz)) : vx_Met l yL_takeBack wsL_takeBack rmL_takeBack (va_Pc [.ref (ad 0 0), .int a1, .ref q] (lP D G A ad Z cJ q f)) (lQ D G A ad 1 Zz cJ q (fun _ => True)) (fun _ _ _ => False) 2 12 (fun y => A y ∨ y = q) := by
  refine vx_ofWH (cc := cL_takeBack) (maxL := 4) (ret := some .int) (hh := [(0, 9, 12, 21), (0, 9, 15, 15)]) (by decide) rfl ?_
  intro p e s m args below meth c s₁ B hml hv
  obtain ⟨rfl, ⟨⟨⟨hI, hN, hK⟩, hE⟩, hF, hA⟩, hq, hKJ, hNc, hnq⟩ := hv
  have hx := B.exec
  have hb := B.bytes
  have hr := B.returns
  have hts := atoms_spec (ws := wsL_takeBack) B.pre
  have hown : s.vm.findClass RL = some m.cls := findClass_of_methodNamed B.named
  have hlocks := B.notSynchronized
  have l0 := hts (.classLink RL 21 "java/lang/IndexOutOfBoundsException") (List.mem_of_getElem? (i := 1) rfl)
  have htab := vx_table (x := yL_takeBack) B (hts _ (List.mem_cons_self))
  have hS : va_S (fun y => A y ∨ y = q) s.heap s.heap [] := va_S.rf
  have hl := lv_entry ([.ref (ad 0 0), .int a1, .ref q]) (n := 4) (Nat.le_of_ble_eq_true rfl)
  rw [lg_entry_eq]
  generalize (lg_sl ([.ref (ad 0 0), .int a1, .ref q]) ++ List.replicate (4 - (lg_sl ([.ref (ad 0 0), .int a1, .ref q])).length) Slot.unset).toArray = ls at hl ⊢
  have hl : lv_has ls 4 [(0, .ref (ad 0 0)), (1, .int a1), (2, .ref q)] := hl
  refine lv_aload_n hx hb dL_takeBack_0 rfl (lv_at hl 2 rfl) ?_
  refine lv_iconst (v := 0) hx hb dL_takeBack_1 (by decide) ?_
  refine lv_aload_n hx hb dL_takeBack_2 rfl (lv_at hl 0 rfl) ?_
  refine lv_iload_n hx hb dL_takeBack_3 rfl (lv_at hl 1 rfl) ?_
  refine vx_calli (A0 := fun y => A y ∨ y = q) (vx_runV (As := [.int a1]) (rest := [.int 0, .ref q]) ⟨hx, hb, hml, hown, hts⟩ (mX6_takeBack l hfl D G A ad Z a1 (.inr 1) Zz h) (cwV 1 hts gL_takeBack_X6_takeBack rfl rfl rfl (by decide +kernel) ⟨Nat.le_of_ble_eq_true rfl, Nat.le_of_ble_eq_true rfl⟩) (xg_preV hI hK hN hE va_S.rf rfl rfl (ci := 7) rfl) rfl rfl hl.1 rfl (lv_room (Nat.le_of_ble_eq_true rfl)) dL_takeBack_4 ⟨Nat.le_of_ble_eq_true rfl, Nat.le_of_ble_eq_true rfl⟩) hS (fun _ _ h => Or.inl h) (fun _ h => Or.inl h) (fun _ _ h => Or.inl h) (fun E ce q9 u t H1 locs1 ht hvm hp hB hz hk hS1 hce hcv hcl => ?_) (fun r9 u t H1 locs1 ht hvm hw hB hz hk hS1 => ?_)
  · have hq1 : va_at D vwCl (q, .inl (cJ, 1, .inr (.inl f))) H1 := hq.kept (hk q hq.lt hnq)
    obtain ⟨⟨c9, h9, h8⟩, hB⟩ := hB
    cases h9
    have hE9 : E = "java/lang/IndexOutOfBoundsException" := h8.trans (by decide)
    subst hE9
    subst hp
    have hI1 := hB.1
    have hN1 := hB.2.1
    rw [ht] at hN1
    refine vx_catch hown (name := "java/lang/IndexOutOfBoundsException") [] ⟨0, 9, 12, 21⟩ [⟨0, 9, 15, 15⟩] htab (fun z hz => by simp at hz) (by decide) (by decide) l0 (va_Nw.use rfl (hE.1.2 _ (by decide))) hce hcv hcl ?_
    refine lv_astore_n (lv' := [(3, .ref q9), (0, .ref (ad 0 0)), (1, .int a1), (2, .ref q)]) hx hb dL_takeBack_12 rfl hl (by decide) rfl (fun ls hl => ?_)
    refine lv_iconst (v := 1) hx hb dL_takeBack_13 (by decide) ?_
    exact vx_ret (W.widen (k := 2) (n := 12) (by decide) (by decide) (W.iret hx hb hr (lg_end (P := fun _ => True) trivial rfl hI1 hK hN1 hq1 hS1) (fun z hz => hS1.2.2 z hz) dL_takeBack_14))
  · cases hw.1
set_option maxHeartbeats 4000000 in
set_option maxRecDepth 100000 in
theorem mL_takeBack_x2 (l : Launch) (hfl : l.stackTraces = false) (D : va_G) (G : CGT) (A : Nat → Prop) (ad : Nat → Nat → Nat) (Z : CZ) (cJ : ClassId) (q : Nat) (f : Nat → Int64) (a1 : Int32) (Zz : CZ) (h : fX6_takeBack a1 Z = some ((.inr 3 : Int32 ⊕ Int32), Zz)) : vx_Met l yL_takeBack wsL_takeBack rmL_takeBack (va_Pc [.ref (ad 0 0), .int a1, .ref q] (lP D G A ad Z cJ q f)) (lQ D G A ad 2 Zz cJ q (fun _ => True)) (fun _ _ _ => False) 2 12 (fun y => A y ∨ y = q) := by
  refine vx_ofWH (cc := cL_takeBack) (maxL := 4) (ret := some .int) (hh := [(0, 9, 12, 21), (0, 9, 15, 15)]) (by decide) rfl ?_
  intro p e s m args below meth c s₁ B hml hv
  obtain ⟨rfl, ⟨⟨⟨hI, hN, hK⟩, hE⟩, hF, hA⟩, hq, hKJ, hNc, hnq⟩ := hv
  have hx := B.exec
  have hb := B.bytes
  have hr := B.returns
  have hts := atoms_spec (ws := wsL_takeBack) B.pre
  have hown : s.vm.findClass RL = some m.cls := findClass_of_methodNamed B.named
  have hlocks := B.notSynchronized
  have l0 := hts (.classLink RL 21 "java/lang/IndexOutOfBoundsException") (List.mem_of_getElem? (i := 1) rfl)
  have l1 := hts (.classLink RL 15 "java/lang/IllegalStateException") (List.mem_of_getElem? (i := 2) rfl)
  have htab := vx_table (x := yL_takeBack) B (hts _ (List.mem_cons_self))
  have hS : va_S (fun y => A y ∨ y = q) s.heap s.heap [] := va_S.rf
  have hl := lv_entry ([.ref (ad 0 0), .int a1, .ref q]) (n := 4) (Nat.le_of_ble_eq_true rfl)
  rw [lg_entry_eq]
  generalize (lg_sl ([.ref (ad 0 0), .int a1, .ref q]) ++ List.replicate (4 - (lg_sl ([.ref (ad 0 0), .int a1, .ref q])).length) Slot.unset).toArray = ls at hl ⊢
  have hl : lv_has ls 4 [(0, .ref (ad 0 0)), (1, .int a1), (2, .ref q)] := hl
  refine lv_aload_n hx hb dL_takeBack_0 rfl (lv_at hl 2 rfl) ?_
  refine lv_iconst (v := 0) hx hb dL_takeBack_1 (by decide) ?_
  refine lv_aload_n hx hb dL_takeBack_2 rfl (lv_at hl 0 rfl) ?_
  refine lv_iload_n hx hb dL_takeBack_3 rfl (lv_at hl 1 rfl) ?_
  refine vx_calli (A0 := fun y => A y ∨ y = q) (vx_runV (As := [.int a1]) (rest := [.int 0, .ref q]) ⟨hx, hb, hml, hown, hts⟩ (mX6_takeBack l hfl D G A ad Z a1 (.inr 3) Zz h) (cwV 1 hts gL_takeBack_X6_takeBack rfl rfl rfl (by decide +kernel) ⟨Nat.le_of_ble_eq_true rfl, Nat.le_of_ble_eq_true rfl⟩) (xg_preV hI hK hN hE va_S.rf rfl rfl (ci := 7) rfl) rfl rfl hl.1 rfl (lv_room (Nat.le_of_ble_eq_true rfl)) dL_takeBack_4 ⟨Nat.le_of_ble_eq_true rfl, Nat.le_of_ble_eq_true rfl⟩) hS (fun _ _ h => Or.inl h) (fun _ h => Or.inl h) (fun _ _ h => Or.inl h) (fun E ce q9 u t H1 locs1 ht hvm hp hB hz hk hS1 hce hcv hcl => ?_) (fun r9 u t H1 locs1 ht hvm hw hB hz hk hS1 => ?_)
  · have hq1 : va_at D vwCl (q, .inl (cJ, 1, .inr (.inl f))) H1 := hq.kept (hk q hq.lt hnq)
    obtain ⟨⟨c9, h9, h8⟩, hB⟩ := hB
    cases h9
    have hE9 : E = "java/lang/IllegalStateException" := h8.trans (by decide)
    subst hE9
    subst hp
    have hI1 := hB.1
    have hN1 := hB.2.1
    rw [ht] at hN1
    have hpass : ∀ z ∈ ([⟨0, 9, 12, 21⟩] : List ExceptionTableEntry), covers z 4 = false ∨ (z.catchType ≠ 0 ∧ ∃ nm : String, (Cond.classLink RL z.catchType nm).before (([.ref (ad 0 0), .int a1, .ref q] : List Value).toArray) s = true ∧ va_Nc "java/lang/IllegalStateException" nm s) := by
      intro z hz
      simp only [List.mem_cons, List.not_mem_nil, or_false] at hz
      rcases hz with rfl
      · exact Or.inr ⟨by decide, _, l0, hNc _ (by decide) _ (by decide) (by decide)⟩
    refine vx_catch hown (name := "java/lang/IllegalStateException") [⟨0, 9, 12, 21⟩] ⟨0, 9, 15, 15⟩ [] htab hpass (by decide) (by decide) l1 (va_Nw.use rfl (hE.1.2 _ (by decide))) hce hcv hcl ?_
    refine lv_astore_n (lv' := [(3, .ref q9), (0, .ref (ad 0 0)), (1, .int a1), (2, .ref q)]) hx hb dL_takeBack_15 rfl hl (by decide) rfl (fun ls hl => ?_)
    refine lv_iconst (v := 2) hx hb dL_takeBack_16 (by decide) ?_
    exact vx_ret (W.widen (k := 2) (n := 12) (by decide) (by decide) (W.iret hx hb hr (lg_end (P := fun _ => True) trivial rfl hI1 hK hN1 hq1 hS1) (fun z hz => hS1.2.2 z hz) dL_takeBack_17))
  · cases hw.1
def rmL_ofPlayer : Room := { frames := 9, cells := 2, slots := 12, locals := 165 }
set_option maxHeartbeats 4000000 in
set_option maxRecDepth 100000 in
theorem mL_ofPlayer (l : Launch) (hfl : l.stackTraces = false) (D : va_G) (G : CGT) (A : Nat → Prop) (ad : Nat → Nat → Nat) (Z : CZ) (cJ : ClassId) (q : Nat) (f : Nat → Int64) (a1 : Int32) (a2 : Int32) (v : Int32) (h : fX6_ofPlayer a1 a2 Z = some (.inl v : Int32 ⊕ Int32)) : vx_Met l yL_ofPlayer wsL_ofPlayer rmL_ofPlayer (va_Pc [.ref (ad 0 0), .int a1, .int a2, .ref q] (lP D G A ad Z cJ q f)) (lQ D G A ad 0 Z cJ q (fun f1 => f1 0 = v.toInt64)) (fun _ _ _ => False) 2 12 (fun y => A y ∨ y = q) := by
  refine vx_ofWH (cc := cL_ofPlayer) (maxL := 5) (ret := some .int) (hh := [(0, 10, 13, 21), (0, 10, 17, 13)]) (by decide) rfl ?_
  intro p e s m args below meth c s₁ B hml hv
  obtain ⟨rfl, ⟨⟨⟨hI, hN, hK⟩, hE⟩, hF, hA⟩, hq, hKJ, hNc, hnq⟩ := hv
  have hx := B.exec
  have hb := B.bytes
  have hr := B.returns
  have hts := atoms_spec (ws := wsL_ofPlayer) B.pre
  have hown : s.vm.findClass RL = some m.cls := findClass_of_methodNamed B.named
  have hlocks := B.notSynchronized
  have htab := vx_table (x := yL_ofPlayer) B (hts _ (List.mem_cons_self))
  have hS : va_S (fun y => A y ∨ y = q) s.heap s.heap [] := va_S.rf
  have hl := lv_entry ([.ref (ad 0 0), .int a1, .int a2, .ref q]) (n := 5) (Nat.le_of_ble_eq_true rfl)
  rw [lg_entry_eq]
  generalize (lg_sl ([.ref (ad 0 0), .int a1, .int a2, .ref q]) ++ List.replicate (5 - (lg_sl ([.ref (ad 0 0), .int a1, .int a2, .ref q])).length) Slot.unset).toArray = ls at hl ⊢
  have hl : lv_has ls 5 [(0, .ref (ad 0 0)), (1, .int a1), (2, .int a2), (3, .ref q)] := hl
  refine lv_aload_n hx hb dL_ofPlayer_0 rfl (lv_at hl 3 rfl) ?_
  refine lv_iconst (v := 0) hx hb dL_ofPlayer_1 (by decide) ?_
  refine lv_aload_n hx hb dL_ofPlayer_2 rfl (lv_at hl 0 rfl) ?_
  refine lv_iload_n hx hb dL_ofPlayer_3 rfl (lv_at hl 1 rfl) ?_
  refine lv_iload_n hx hb dL_ofPlayer_4 rfl (lv_at hl 2 rfl) ?_
  refine vx_calli (A0 := fun y => A y ∨ y = q) (vx_runV (As := [.int a1, .int a2]) (rest := [.int 0, .ref q]) ⟨hx, hb, hml, hown, hts⟩ (mX6_ofPlayer l hfl D G A ad Z a1 a2 (.inl v)  h) (cwV 2 hts gL_ofPlayer_X6_ofPlayer rfl rfl rfl (by decide +kernel) ⟨Nat.le_of_ble_eq_true rfl, Nat.le_of_ble_eq_true rfl⟩) (xg_preV hI hK hN hE va_S.rf rfl rfl (ci := 7) rfl) rfl rfl hl.1 rfl (lv_room (Nat.le_of_ble_eq_true rfl)) dL_ofPlayer_5 ⟨Nat.le_of_ble_eq_true rfl, Nat.le_of_ble_eq_true rfl⟩) hS (fun _ _ h => Or.inl h) (fun _ h => Or.inl h) (fun _ _ h => Or.inl h) (fun E ce q9 u t H1 locs1 ht hvm hp hB hz hk hS1 hce hcv hcl => ?_) (fun r9 u t H1 locs1 ht hvm hw hB hz hk hS1 => ?_)
  · obtain ⟨⟨c9, h9, -⟩, -⟩ := hB
    cases h9
  · have hq1 : va_at D vwCl (q, .inl (cJ, 1, .inr (.inl f))) H1 := hq.kept (hk q hq.lt hnq)
    obtain ⟨h9, rfl⟩ := hw
    cases h9
    have h00 : ad 0 0 = ad 0 0 := rfl
    have hI1 := hB.1
    have hN1 := hB.2.1
    rw [ht] at hN1
    clear hB hk hz
    refine lv_i2l hx hb (v := v.toInt64) dL_ofPlayer_8 rfl ?_
    refine lg_last hx hb hKJ hq1 hN1 hI1 hnq hS1 dL_ofPlayer_9 (fun H2 locs2 hq1 hN1 hS1 => ?_)
    refine lv_goto (tgt := 21) hx hb dL_ofPlayer_10 (by decide) ?_
    refine lv_iconst (v := 0) hx hb dL_ofPlayer_21 (by decide) ?_
    exact vx_ret (W.widen (k := 2) (n := 12) (by decide) (by decide) (W.iret hx hb hr (lg_end (P := (fun f1 => f1 0 = v.toInt64)) (if_pos rfl) h00 hI1 hK hN1 hq1 hS1) (fun z hz => hS1.2.2 z hz) dL_ofPlayer_22))
set_option maxHeartbeats 4000000 in
set_option maxRecDepth 100000 in
theorem mL_ofPlayer_x1 (l : Launch) (hfl : l.stackTraces = false) (D : va_G) (G : CGT) (A : Nat → Prop) (ad : Nat → Nat → Nat) (Z : CZ) (cJ : ClassId) (q : Nat) (f : Nat → Int64) (a1 : Int32) (a2 : Int32) (h : fX6_ofPlayer a1 a2 Z = some (.inr 1 : Int32 ⊕ Int32)) : vx_Met l yL_ofPlayer wsL_ofPlayer rmL_ofPlayer (va_Pc [.ref (ad 0 0), .int a1, .int a2, .ref q] (lP D G A ad Z cJ q f)) (lQ D G A ad 1 Z cJ q (fun _ => True)) (fun _ _ _ => False) 2 12 (fun y => A y ∨ y = q) := by
  refine vx_ofWH (cc := cL_ofPlayer) (maxL := 5) (ret := some .int) (hh := [(0, 10, 13, 21), (0, 10, 17, 13)]) (by decide) rfl ?_
  intro p e s m args below meth c s₁ B hml hv
  obtain ⟨rfl, ⟨⟨⟨hI, hN, hK⟩, hE⟩, hF, hA⟩, hq, hKJ, hNc, hnq⟩ := hv
  have hx := B.exec
  have hb := B.bytes
  have hr := B.returns
  have hts := atoms_spec (ws := wsL_ofPlayer) B.pre
  have hown : s.vm.findClass RL = some m.cls := findClass_of_methodNamed B.named
  have hlocks := B.notSynchronized
  have l0 := hts (.classLink RL 21 "java/lang/IndexOutOfBoundsException") (List.mem_of_getElem? (i := 1) rfl)
  have htab := vx_table (x := yL_ofPlayer) B (hts _ (List.mem_cons_self))
  have hS : va_S (fun y => A y ∨ y = q) s.heap s.heap [] := va_S.rf
  have hl := lv_entry ([.ref (ad 0 0), .int a1, .int a2, .ref q]) (n := 5) (Nat.le_of_ble_eq_true rfl)
  rw [lg_entry_eq]
  generalize (lg_sl ([.ref (ad 0 0), .int a1, .int a2, .ref q]) ++ List.replicate (5 - (lg_sl ([.ref (ad 0 0), .int a1, .int a2, .ref q])).length) Slot.unset).toArray = ls at hl ⊢
  have hl : lv_has ls 5 [(0, .ref (ad 0 0)), (1, .int a1), (2, .int a2), (3, .ref q)] := hl
  refine lv_aload_n hx hb dL_ofPlayer_0 rfl (lv_at hl 3 rfl) ?_
  refine lv_iconst (v := 0) hx hb dL_ofPlayer_1 (by decide) ?_
  refine lv_aload_n hx hb dL_ofPlayer_2 rfl (lv_at hl 0 rfl) ?_
  refine lv_iload_n hx hb dL_ofPlayer_3 rfl (lv_at hl 1 rfl) ?_
  refine lv_iload_n hx hb dL_ofPlayer_4 rfl (lv_at hl 2 rfl) ?_
  refine vx_calli (A0 := fun y => A y ∨ y = q) (vx_runV (As := [.int a1, .int a2]) (rest := [.int 0, .ref q]) ⟨hx, hb, hml, hown, hts⟩ (mX6_ofPlayer l hfl D G A ad Z a1 a2 (.inr 1)  h) (cwV 2 hts gL_ofPlayer_X6_ofPlayer rfl rfl rfl (by decide +kernel) ⟨Nat.le_of_ble_eq_true rfl, Nat.le_of_ble_eq_true rfl⟩) (xg_preV hI hK hN hE va_S.rf rfl rfl (ci := 7) rfl) rfl rfl hl.1 rfl (lv_room (Nat.le_of_ble_eq_true rfl)) dL_ofPlayer_5 ⟨Nat.le_of_ble_eq_true rfl, Nat.le_of_ble_eq_true rfl⟩) hS (fun _ _ h => Or.inl h) (fun _ h => Or.inl h) (fun _ _ h => Or.inl h) (fun E ce q9 u t H1 locs1 ht hvm hp hB hz hk hS1 hce hcv hcl => ?_) (fun r9 u t H1 locs1 ht hvm hw hB hz hk hS1 => ?_)
  · have hq1 : va_at D vwCl (q, .inl (cJ, 1, .inr (.inl f))) H1 := hq.kept (hk q hq.lt hnq)
    obtain ⟨⟨c9, h9, h8⟩, hB⟩ := hB
    cases h9
    have hE9 : E = "java/lang/IndexOutOfBoundsException" := h8.trans (by decide)
    subst hE9
    subst hp
    have hI1 := hB.1
    have hN1 := hB.2.1
    rw [ht] at hN1
    refine vx_catch hown (name := "java/lang/IndexOutOfBoundsException") [] ⟨0, 10, 13, 21⟩ [⟨0, 10, 17, 13⟩] htab (fun z hz => by simp at hz) (by decide) (by decide) l0 (va_Nw.use rfl (hE.1.2 _ (by decide))) hce hcv hcl ?_
    refine lv_astore (lv' := [(4, .ref q9), (0, .ref (ad 0 0)), (1, .int a1), (2, .int a2), (3, .ref q)]) hx hb dL_ofPlayer_13 hl (by decide) rfl (fun ls hl => ?_)
    refine lv_iconst (v := 1) hx hb dL_ofPlayer_15 (by decide) ?_
    exact vx_ret (W.widen (k := 2) (n := 12) (by decide) (by decide) (W.iret hx hb hr (lg_end (P := fun _ => True) trivial rfl hI1 hK hN1 hq1 hS1) (fun z hz => hS1.2.2 z hz) dL_ofPlayer_16))
  · cases hw.1
set_option maxHeartbeats 4000000 in
set_option maxRecDepth 100000 in
theorem mL_ofPlayer_x2 (l : Launch) (hfl : l.stackTraces = false) (D : va_G) (G : CGT) (A : Nat → Prop) (ad : Nat → Nat → Nat) (Z : CZ) (cJ : ClassId) (q : Nat) (f : Nat → Int64) (a1 : Int32) (a2 : Int32) (h : fX6_ofPlayer a1 a2 Z = some (.inr 2 : Int32 ⊕ Int32)) : vx_Met l yL_ofPlayer wsL_ofPlayer rmL_ofPlayer (va_Pc [.ref (ad 0 0), .int a1, .int a2, .ref q] (lP D G A ad Z cJ q f)) (lQ D G A ad 2 Z cJ q (fun _ => True)) (fun _ _ _ => False) 2 12 (fun y => A y ∨ y = q) := by
  refine vx_ofWH (cc := cL_ofPlayer) (maxL := 5) (ret := some .int) (hh := [(0, 10, 13, 21), (0, 10, 17, 13)]) (by decide) rfl ?_
  intro p e s m args below meth c s₁ B hml hv
  obtain ⟨rfl, ⟨⟨⟨hI, hN, hK⟩, hE⟩, hF, hA⟩, hq, hKJ, hNc, hnq⟩ := hv
  have hx := B.exec
  have hb := B.bytes
  have hr := B.returns
  have hts := atoms_spec (ws := wsL_ofPlayer) B.pre
  have hown : s.vm.findClass RL = some m.cls := findClass_of_methodNamed B.named
  have hlocks := B.notSynchronized
  have l0 := hts (.classLink RL 21 "java/lang/IndexOutOfBoundsException") (List.mem_of_getElem? (i := 1) rfl)
  have l1 := hts (.classLink RL 13 "java/lang/IllegalArgumentException") (List.mem_of_getElem? (i := 2) rfl)
  have htab := vx_table (x := yL_ofPlayer) B (hts _ (List.mem_cons_self))
  have hS : va_S (fun y => A y ∨ y = q) s.heap s.heap [] := va_S.rf
  have hl := lv_entry ([.ref (ad 0 0), .int a1, .int a2, .ref q]) (n := 5) (Nat.le_of_ble_eq_true rfl)
  rw [lg_entry_eq]
  generalize (lg_sl ([.ref (ad 0 0), .int a1, .int a2, .ref q]) ++ List.replicate (5 - (lg_sl ([.ref (ad 0 0), .int a1, .int a2, .ref q])).length) Slot.unset).toArray = ls at hl ⊢
  have hl : lv_has ls 5 [(0, .ref (ad 0 0)), (1, .int a1), (2, .int a2), (3, .ref q)] := hl
  refine lv_aload_n hx hb dL_ofPlayer_0 rfl (lv_at hl 3 rfl) ?_
  refine lv_iconst (v := 0) hx hb dL_ofPlayer_1 (by decide) ?_
  refine lv_aload_n hx hb dL_ofPlayer_2 rfl (lv_at hl 0 rfl) ?_
  refine lv_iload_n hx hb dL_ofPlayer_3 rfl (lv_at hl 1 rfl) ?_
  refine lv_iload_n hx hb dL_ofPlayer_4 rfl (lv_at hl 2 rfl) ?_
  refine vx_calli (A0 := fun y => A y ∨ y = q) (vx_runV (As := [.int a1, .int a2]) (rest := [.int 0, .ref q]) ⟨hx, hb, hml, hown, hts⟩ (mX6_ofPlayer l hfl D G A ad Z a1 a2 (.inr 2)  h) (cwV 2 hts gL_ofPlayer_X6_ofPlayer rfl rfl rfl (by decide +kernel) ⟨Nat.le_of_ble_eq_true rfl, Nat.le_of_ble_eq_true rfl⟩) (xg_preV hI hK hN hE va_S.rf rfl rfl (ci := 7) rfl) rfl rfl hl.1 rfl (lv_room (Nat.le_of_ble_eq_true rfl)) dL_ofPlayer_5 ⟨Nat.le_of_ble_eq_true rfl, Nat.le_of_ble_eq_true rfl⟩) hS (fun _ _ h => Or.inl h) (fun _ h => Or.inl h) (fun _ _ h => Or.inl h) (fun E ce q9 u t H1 locs1 ht hvm hp hB hz hk hS1 hce hcv hcl => ?_) (fun r9 u t H1 locs1 ht hvm hw hB hz hk hS1 => ?_)
  · have hq1 : va_at D vwCl (q, .inl (cJ, 1, .inr (.inl f))) H1 := hq.kept (hk q hq.lt hnq)
    obtain ⟨⟨c9, h9, h8⟩, hB⟩ := hB
    cases h9
    have hE9 : E = "java/lang/IllegalArgumentException" := h8.trans (by decide)
    subst hE9
    subst hp
    have hI1 := hB.1
    have hN1 := hB.2.1
    rw [ht] at hN1
    have hpass : ∀ z ∈ ([⟨0, 10, 13, 21⟩] : List ExceptionTableEntry), covers z 5 = false ∨ (z.catchType ≠ 0 ∧ ∃ nm : String, (Cond.classLink RL z.catchType nm).before (([.ref (ad 0 0), .int a1, .int a2, .ref q] : List Value).toArray) s = true ∧ va_Nc "java/lang/IllegalArgumentException" nm s) := by
      intro z hz
      simp only [List.mem_cons, List.not_mem_nil, or_false] at hz
      rcases hz with rfl
      · exact Or.inr ⟨by decide, _, l0, hNc _ (by decide) _ (by decide) (by decide)⟩
    refine vx_catch hown (name := "java/lang/IllegalArgumentException") [⟨0, 10, 13, 21⟩] ⟨0, 10, 17, 13⟩ [] htab hpass (by decide) (by decide) l1 (va_Nw.use rfl (hE.1.2 _ (by decide))) hce hcv hcl ?_
    refine lv_astore (lv' := [(4, .ref q9), (0, .ref (ad 0 0)), (1, .int a1), (2, .int a2), (3, .ref q)]) hx hb dL_ofPlayer_17 hl (by decide) rfl (fun ls hl => ?_)
    refine lv_iconst (v := 2) hx hb dL_ofPlayer_19 (by decide) ?_
    exact vx_ret (W.widen (k := 2) (n := 12) (by decide) (by decide) (W.iret hx hb hr (lg_end (P := fun _ => True) trivial rfl hI1 hK hN1 hq1 hS1) (fun z hz => hS1.2.2 z hz) dL_ofPlayer_20))
  · cases hw.1
def rmL_note : Room := { frames := 9, cells := 3, slots := 18, locals := 165 }
set_option maxHeartbeats 4000000 in
set_option maxRecDepth 100000 in
theorem mL_note (l : Launch) (hfl : l.stackTraces = false) (D : va_G) (G : CGT) (A : Nat → Prop) (ad : Nat → Nat → Nat) (Z : CZ) (cJ : ClassId) (q : Nat) (f : Nat → Int64) (a1 : Int32) (a2 : Int32) (v : Int32) (Zz : CZ) (h : fX6_note a1 a2 Z = some ((.inl v : Int32 ⊕ Int32), Zz)) : vx_Met l yL_note wsL_note rmL_note (va_Pc [.ref (ad 0 0), .int a1, .int a2, .ref q] (lP D G A ad Z cJ q f)) (lQ D G A ad 0 Zz cJ q (fun f1 => f1 0 = v.toInt64)) (fun _ _ _ => False) 3 18 (fun y => A y ∨ y = q) := by
  refine vx_ofWH (cc := cL_note) (maxL := 5) (ret := some .int) (hh := [(0, 10, 13, 21), (0, 10, 17, 13), (0, 10, 21, 15)]) (by decide) rfl ?_
  intro p e s m args below meth c s₁ B hml hv
  obtain ⟨rfl, ⟨⟨⟨hI, hN, hK⟩, hE⟩, hF, hA⟩, hq, hKJ, hNc, hnq⟩ := hv
  have hx := B.exec
  have hb := B.bytes
  have hr := B.returns
  have hts := atoms_spec (ws := wsL_note) B.pre
  have hown : s.vm.findClass RL = some m.cls := findClass_of_methodNamed B.named
  have hlocks := B.notSynchronized
  have htab := vx_table (x := yL_note) B (hts _ (List.mem_cons_self))
  have hS : va_S (fun y => A y ∨ y = q) s.heap s.heap [] := va_S.rf
  have hl := lv_entry ([.ref (ad 0 0), .int a1, .int a2, .ref q]) (n := 5) (Nat.le_of_ble_eq_true rfl)
  rw [lg_entry_eq]
  generalize (lg_sl ([.ref (ad 0 0), .int a1, .int a2, .ref q]) ++ List.replicate (5 - (lg_sl ([.ref (ad 0 0), .int a1, .int a2, .ref q])).length) Slot.unset).toArray = ls at hl ⊢
  have hl : lv_has ls 5 [(0, .ref (ad 0 0)), (1, .int a1), (2, .int a2), (3, .ref q)] := hl
  refine lv_aload_n hx hb dL_note_0 rfl (lv_at hl 3 rfl) ?_
  refine lv_iconst (v := 0) hx hb dL_note_1 (by decide) ?_
  refine lv_aload_n hx hb dL_note_2 rfl (lv_at hl 0 rfl) ?_
  refine lv_iload_n hx hb dL_note_3 rfl (lv_at hl 1 rfl) ?_
  refine lv_iload_n hx hb dL_note_4 rfl (lv_at hl 2 rfl) ?_
  refine vx_calli (A0 := fun y => A y ∨ y = q) (vx_runV (As := [.int a1, .int a2]) (rest := [.int 0, .ref q]) ⟨hx, hb, hml, hown, hts⟩ (mX6_note l hfl D G A ad Z a1 a2 (.inl v) Zz h) (cwV 2 hts gL_note_X6_note rfl rfl rfl (by decide +kernel) ⟨Nat.le_of_ble_eq_true rfl, Nat.le_of_ble_eq_true rfl⟩) (xg_preV hI hK hN hE va_S.rf rfl rfl (ci := 7) rfl) rfl rfl hl.1 rfl (lv_room (Nat.le_of_ble_eq_true rfl)) dL_note_5 ⟨Nat.le_of_ble_eq_true rfl, Nat.le_of_ble_eq_true rfl⟩) hS (fun _ _ h => Or.inl h) (fun _ h => Or.inl h) (fun _ _ h => Or.inl h) (fun E ce q9 u t H1 locs1 ht hvm hp hB hz hk hS1 hce hcv hcl => ?_) (fun r9 u t H1 locs1 ht hvm hw hB hz hk hS1 => ?_)
  · obtain ⟨⟨c9, h9, -⟩, -⟩ := hB
    cases h9
  · have hq1 : va_at D vwCl (q, .inl (cJ, 1, .inr (.inl f))) H1 := hq.kept (hk q hq.lt hnq)
    obtain ⟨h9, rfl⟩ := hw
    cases h9
    have h00 : ad 0 0 = ad 0 0 := rfl
    have hI1 := hB.1
    have hN1 := hB.2.1
    rw [ht] at hN1
    clear hB hk hz
    refine lv_i2l hx hb (v := v.toInt64) dL_note_8 rfl ?_
    refine lg_last hx hb hKJ hq1 hN1 hI1 hnq hS1 dL_note_9 (fun H2 locs2 hq1 hN1 hS1 => ?_)
    refine lv_goto (tgt := 25) hx hb dL_note_10 (by decide) ?_
    refine lv_iconst (v := 0) hx hb dL_note_25 (by decide) ?_
    exact vx_ret (W.widen (k := 3) (n := 18) (by decide) (by decide) (W.iret hx hb hr (lg_end (P := (fun f1 => f1 0 = v.toInt64)) (if_pos rfl) h00 hI1 hK hN1 hq1 hS1) (fun z hz => hS1.2.2 z hz) dL_note_26))
set_option maxHeartbeats 4000000 in
set_option maxRecDepth 100000 in
theorem mL_note_x1 (l : Launch) (hfl : l.stackTraces = false) (D : va_G) (G : CGT) (A : Nat → Prop) (ad : Nat → Nat → Nat) (Z : CZ) (cJ : ClassId) (q : Nat) (f : Nat → Int64) (a1 : Int32) (a2 : Int32) (Zz : CZ) (h : fX6_note a1 a2 Z = some ((.inr 1 : Int32 ⊕ Int32), Zz)) : vx_Met l yL_note wsL_note rmL_note (va_Pc [.ref (ad 0 0), .int a1, .int a2, .ref q] (lP D G A ad Z cJ q f)) (lQ D G A ad 1 Zz cJ q (fun _ => True)) (fun _ _ _ => False) 3 18 (fun y => A y ∨ y = q) := by
  refine vx_ofWH (cc := cL_note) (maxL := 5) (ret := some .int) (hh := [(0, 10, 13, 21), (0, 10, 17, 13), (0, 10, 21, 15)]) (by decide) rfl ?_
  intro p e s m args below meth c s₁ B hml hv
  obtain ⟨rfl, ⟨⟨⟨hI, hN, hK⟩, hE⟩, hF, hA⟩, hq, hKJ, hNc, hnq⟩ := hv
  have hx := B.exec
  have hb := B.bytes
  have hr := B.returns
  have hts := atoms_spec (ws := wsL_note) B.pre
  have hown : s.vm.findClass RL = some m.cls := findClass_of_methodNamed B.named
  have hlocks := B.notSynchronized
  have l0 := hts (.classLink RL 21 "java/lang/IndexOutOfBoundsException") (List.mem_of_getElem? (i := 1) rfl)
  have htab := vx_table (x := yL_note) B (hts _ (List.mem_cons_self))
  have hS : va_S (fun y => A y ∨ y = q) s.heap s.heap [] := va_S.rf
  have hl := lv_entry ([.ref (ad 0 0), .int a1, .int a2, .ref q]) (n := 5) (Nat.le_of_ble_eq_true rfl)
  rw [lg_entry_eq]
  generalize (lg_sl ([.ref (ad 0 0), .int a1, .int a2, .ref q]) ++ List.replicate (5 - (lg_sl ([.ref (ad 0 0), .int a1, .int a2, .ref q])).length) Slot.unset).toArray = ls at hl ⊢
  have hl : lv_has ls 5 [(0, .ref (ad 0 0)), (1, .int a1), (2, .int a2), (3, .ref q)] := hl
  refine lv_aload_n hx hb dL_note_0 rfl (lv_at hl 3 rfl) ?_
  refine lv_iconst (v := 0) hx hb dL_note_1 (by decide) ?_
  refine lv_aload_n hx hb dL_note_2 rfl (lv_at hl 0 rfl) ?_
  refine lv_iload_n hx hb dL_note_3 rfl (lv_at hl 1 rfl) ?_
  refine lv_iload_n hx hb dL_note_4 rfl (lv_at hl 2 rfl) ?_
  refine vx_calli (A0 := fun y => A y ∨ y = q) (vx_runV (As := [.int a1, .int a2]) (rest := [.int 0, .ref q]) ⟨hx, hb, hml, hown, hts⟩ (mX6_note l hfl D G A ad Z a1 a2 (.inr 1) Zz h) (cwV 2 hts gL_note_X6_note rfl rfl rfl (by decide +kernel) ⟨Nat.le_of_ble_eq_true rfl, Nat.le_of_ble_eq_true rfl⟩) (xg_preV hI hK hN hE va_S.rf rfl rfl (ci := 7) rfl) rfl rfl hl.1 rfl (lv_room (Nat.le_of_ble_eq_true rfl)) dL_note_5 ⟨Nat.le_of_ble_eq_true rfl, Nat.le_of_ble_eq_true rfl⟩) hS (fun _ _ h => Or.inl h) (fun _ h => Or.inl h) (fun _ _ h => Or.inl h) (fun E ce q9 u t H1 locs1 ht hvm hp hB hz hk hS1 hce hcv hcl => ?_) (fun r9 u t H1 locs1 ht hvm hw hB hz hk hS1 => ?_)
  · have hq1 : va_at D vwCl (q, .inl (cJ, 1, .inr (.inl f))) H1 := hq.kept (hk q hq.lt hnq)
    obtain ⟨⟨c9, h9, h8⟩, hB⟩ := hB
    cases h9
    have hE9 : E = "java/lang/IndexOutOfBoundsException" := h8.trans (by decide)
    subst hE9
    subst hp
    have hI1 := hB.1
    have hN1 := hB.2.1
    rw [ht] at hN1
    refine vx_catch hown (name := "java/lang/IndexOutOfBoundsException") [] ⟨0, 10, 13, 21⟩ [⟨0, 10, 17, 13⟩, ⟨0, 10, 21, 15⟩] htab (fun z hz => by simp at hz) (by decide) (by decide) l0 (va_Nw.use rfl (hE.1.2 _ (by decide))) hce hcv hcl ?_
    refine lv_astore (lv' := [(4, .ref q9), (0, .ref (ad 0 0)), (1, .int a1), (2, .int a2), (3, .ref q)]) hx hb dL_note_13 hl (by decide) rfl (fun ls hl => ?_)
    refine lv_iconst (v := 1) hx hb dL_note_15 (by decide) ?_
    exact vx_ret (W.widen (k := 3) (n := 18) (by decide) (by decide) (W.iret hx hb hr (lg_end (P := fun _ => True) trivial rfl hI1 hK hN1 hq1 hS1) (fun z hz => hS1.2.2 z hz) dL_note_16))
  · cases hw.1
set_option maxHeartbeats 4000000 in
set_option maxRecDepth 100000 in
theorem mL_note_x2 (l : Launch) (hfl : l.stackTraces = false) (D : va_G) (G : CGT) (A : Nat → Prop) (ad : Nat → Nat → Nat) (Z : CZ) (cJ : ClassId) (q : Nat) (f : Nat → Int64) (a1 : Int32) (a2 : Int32) (Zz : CZ) (h : fX6_note a1 a2 Z = some ((.inr 2 : Int32 ⊕ Int32), Zz)) : vx_Met l yL_note wsL_note rmL_note (va_Pc [.ref (ad 0 0), .int a1, .int a2, .ref q] (lP D G A ad Z cJ q f)) (lQ D G A ad 2 Zz cJ q (fun _ => True)) (fun _ _ _ => False) 3 18 (fun y => A y ∨ y = q) := by
  refine vx_ofWH (cc := cL_note) (maxL := 5) (ret := some .int) (hh := [(0, 10, 13, 21), (0, 10, 17, 13), (0, 10, 21, 15)]) (by decide) rfl ?_
  intro p e s m args below meth c s₁ B hml hv
  obtain ⟨rfl, ⟨⟨⟨hI, hN, hK⟩, hE⟩, hF, hA⟩, hq, hKJ, hNc, hnq⟩ := hv
  have hx := B.exec
  have hb := B.bytes
  have hr := B.returns
  have hts := atoms_spec (ws := wsL_note) B.pre
  have hown : s.vm.findClass RL = some m.cls := findClass_of_methodNamed B.named
  have hlocks := B.notSynchronized
  have l0 := hts (.classLink RL 21 "java/lang/IndexOutOfBoundsException") (List.mem_of_getElem? (i := 1) rfl)
  have l1 := hts (.classLink RL 13 "java/lang/IllegalArgumentException") (List.mem_of_getElem? (i := 2) rfl)
  have htab := vx_table (x := yL_note) B (hts _ (List.mem_cons_self))
  have hS : va_S (fun y => A y ∨ y = q) s.heap s.heap [] := va_S.rf
  have hl := lv_entry ([.ref (ad 0 0), .int a1, .int a2, .ref q]) (n := 5) (Nat.le_of_ble_eq_true rfl)
  rw [lg_entry_eq]
  generalize (lg_sl ([.ref (ad 0 0), .int a1, .int a2, .ref q]) ++ List.replicate (5 - (lg_sl ([.ref (ad 0 0), .int a1, .int a2, .ref q])).length) Slot.unset).toArray = ls at hl ⊢
  have hl : lv_has ls 5 [(0, .ref (ad 0 0)), (1, .int a1), (2, .int a2), (3, .ref q)] := hl
  refine lv_aload_n hx hb dL_note_0 rfl (lv_at hl 3 rfl) ?_
  refine lv_iconst (v := 0) hx hb dL_note_1 (by decide) ?_
  refine lv_aload_n hx hb dL_note_2 rfl (lv_at hl 0 rfl) ?_
  refine lv_iload_n hx hb dL_note_3 rfl (lv_at hl 1 rfl) ?_
  refine lv_iload_n hx hb dL_note_4 rfl (lv_at hl 2 rfl) ?_
  refine vx_calli (A0 := fun y => A y ∨ y = q) (vx_runV (As := [.int a1, .int a2]) (rest := [.int 0, .ref q]) ⟨hx, hb, hml, hown, hts⟩ (mX6_note l hfl D G A ad Z a1 a2 (.inr 2) Zz h) (cwV 2 hts gL_note_X6_note rfl rfl rfl (by decide +kernel) ⟨Nat.le_of_ble_eq_true rfl, Nat.le_of_ble_eq_true rfl⟩) (xg_preV hI hK hN hE va_S.rf rfl rfl (ci := 7) rfl) rfl rfl hl.1 rfl (lv_room (Nat.le_of_ble_eq_true rfl)) dL_note_5 ⟨Nat.le_of_ble_eq_true rfl, Nat.le_of_ble_eq_true rfl⟩) hS (fun _ _ h => Or.inl h) (fun _ h => Or.inl h) (fun _ _ h => Or.inl h) (fun E ce q9 u t H1 locs1 ht hvm hp hB hz hk hS1 hce hcv hcl => ?_) (fun r9 u t H1 locs1 ht hvm hw hB hz hk hS1 => ?_)
  · have hq1 : va_at D vwCl (q, .inl (cJ, 1, .inr (.inl f))) H1 := hq.kept (hk q hq.lt hnq)
    obtain ⟨⟨c9, h9, h8⟩, hB⟩ := hB
    cases h9
    have hE9 : E = "java/lang/IllegalArgumentException" := h8.trans (by decide)
    subst hE9
    subst hp
    have hI1 := hB.1
    have hN1 := hB.2.1
    rw [ht] at hN1
    have hpass : ∀ z ∈ ([⟨0, 10, 13, 21⟩] : List ExceptionTableEntry), covers z 5 = false ∨ (z.catchType ≠ 0 ∧ ∃ nm : String, (Cond.classLink RL z.catchType nm).before (([.ref (ad 0 0), .int a1, .int a2, .ref q] : List Value).toArray) s = true ∧ va_Nc "java/lang/IllegalArgumentException" nm s) := by
      intro z hz
      simp only [List.mem_cons, List.not_mem_nil, or_false] at hz
      rcases hz with rfl
      · exact Or.inr ⟨by decide, _, l0, hNc _ (by decide) _ (by decide) (by decide)⟩
    refine vx_catch hown (name := "java/lang/IllegalArgumentException") [⟨0, 10, 13, 21⟩] ⟨0, 10, 17, 13⟩ [⟨0, 10, 21, 15⟩] htab hpass (by decide) (by decide) l1 (va_Nw.use rfl (hE.1.2 _ (by decide))) hce hcv hcl ?_
    refine lv_astore (lv' := [(4, .ref q9), (0, .ref (ad 0 0)), (1, .int a1), (2, .int a2), (3, .ref q)]) hx hb dL_note_17 hl (by decide) rfl (fun ls hl => ?_)
    refine lv_iconst (v := 2) hx hb dL_note_19 (by decide) ?_
    exact vx_ret (W.widen (k := 3) (n := 18) (by decide) (by decide) (W.iret hx hb hr (lg_end (P := fun _ => True) trivial rfl hI1 hK hN1 hq1 hS1) (fun z hz => hS1.2.2 z hz) dL_note_20))
  · cases hw.1
set_option maxHeartbeats 4000000 in
set_option maxRecDepth 100000 in
theorem mL_note_x3 (l : Launch) (hfl : l.stackTraces = false) (D : va_G) (G : CGT) (A : Nat → Prop) (ad : Nat → Nat → Nat) (Z : CZ) (cJ : ClassId) (q : Nat) (f : Nat → Int64) (a1 : Int32) (a2 : Int32) (Zz : CZ) (h : fX6_note a1 a2 Z = some ((.inr 3 : Int32 ⊕ Int32), Zz)) : vx_Met l yL_note wsL_note rmL_note (va_Pc [.ref (ad 0 0), .int a1, .int a2, .ref q] (lP D G A ad Z cJ q f)) (lQ D G A ad 3 Zz cJ q (fun _ => True)) (fun _ _ _ => False) 3 18 (fun y => A y ∨ y = q) := by
  refine vx_ofWH (cc := cL_note) (maxL := 5) (ret := some .int) (hh := [(0, 10, 13, 21), (0, 10, 17, 13), (0, 10, 21, 15)]) (by decide) rfl ?_
  intro p e s m args below meth c s₁ B hml hv
  obtain ⟨rfl, ⟨⟨⟨hI, hN, hK⟩, hE⟩, hF, hA⟩, hq, hKJ, hNc, hnq⟩ := hv
  have hx := B.exec
  have hb := B.bytes
  have hr := B.returns
  have hts := atoms_spec (ws := wsL_note) B.pre
  have hown : s.vm.findClass RL = some m.cls := findClass_of_methodNamed B.named
  have hlocks := B.notSynchronized
  have l0 := hts (.classLink RL 21 "java/lang/IndexOutOfBoundsException") (List.mem_of_getElem? (i := 1) rfl)
  have l1 := hts (.classLink RL 13 "java/lang/IllegalArgumentException") (List.mem_of_getElem? (i := 2) rfl)
  have l2 := hts (.classLink RL 15 "java/lang/IllegalStateException") (List.mem_of_getElem? (i := 3) rfl)
  have htab := vx_table (x := yL_note) B (hts _ (List.mem_cons_self))
  have hS : va_S (fun y => A y ∨ y = q) s.heap s.heap [] := va_S.rf
  have hl := lv_entry ([.ref (ad 0 0), .int a1, .int a2, .ref q]) (n := 5) (Nat.le_of_ble_eq_true rfl)
  rw [lg_entry_eq]
  generalize (lg_sl ([.ref (ad 0 0), .int a1, .int a2, .ref q]) ++ List.replicate (5 - (lg_sl ([.ref (ad 0 0), .int a1, .int a2, .ref q])).length) Slot.unset).toArray = ls at hl ⊢
  have hl : lv_has ls 5 [(0, .ref (ad 0 0)), (1, .int a1), (2, .int a2), (3, .ref q)] := hl
  refine lv_aload_n hx hb dL_note_0 rfl (lv_at hl 3 rfl) ?_
  refine lv_iconst (v := 0) hx hb dL_note_1 (by decide) ?_
  refine lv_aload_n hx hb dL_note_2 rfl (lv_at hl 0 rfl) ?_
  refine lv_iload_n hx hb dL_note_3 rfl (lv_at hl 1 rfl) ?_
  refine lv_iload_n hx hb dL_note_4 rfl (lv_at hl 2 rfl) ?_
  refine vx_calli (A0 := fun y => A y ∨ y = q) (vx_runV (As := [.int a1, .int a2]) (rest := [.int 0, .ref q]) ⟨hx, hb, hml, hown, hts⟩ (mX6_note l hfl D G A ad Z a1 a2 (.inr 3) Zz h) (cwV 2 hts gL_note_X6_note rfl rfl rfl (by decide +kernel) ⟨Nat.le_of_ble_eq_true rfl, Nat.le_of_ble_eq_true rfl⟩) (xg_preV hI hK hN hE va_S.rf rfl rfl (ci := 7) rfl) rfl rfl hl.1 rfl (lv_room (Nat.le_of_ble_eq_true rfl)) dL_note_5 ⟨Nat.le_of_ble_eq_true rfl, Nat.le_of_ble_eq_true rfl⟩) hS (fun _ _ h => Or.inl h) (fun _ h => Or.inl h) (fun _ _ h => Or.inl h) (fun E ce q9 u t H1 locs1 ht hvm hp hB hz hk hS1 hce hcv hcl => ?_) (fun r9 u t H1 locs1 ht hvm hw hB hz hk hS1 => ?_)
  · have hq1 : va_at D vwCl (q, .inl (cJ, 1, .inr (.inl f))) H1 := hq.kept (hk q hq.lt hnq)
    obtain ⟨⟨c9, h9, h8⟩, hB⟩ := hB
    cases h9
    have hE9 : E = "java/lang/IllegalStateException" := h8.trans (by decide)
    subst hE9
    subst hp
    have hI1 := hB.1
    have hN1 := hB.2.1
    rw [ht] at hN1
    have hpass : ∀ z ∈ ([⟨0, 10, 13, 21⟩, ⟨0, 10, 17, 13⟩] : List ExceptionTableEntry), covers z 5 = false ∨ (z.catchType ≠ 0 ∧ ∃ nm : String, (Cond.classLink RL z.catchType nm).before (([.ref (ad 0 0), .int a1, .int a2, .ref q] : List Value).toArray) s = true ∧ va_Nc "java/lang/IllegalStateException" nm s) := by
      intro z hz
      simp only [List.mem_cons, List.not_mem_nil, or_false] at hz
      rcases hz with rfl | rfl
      · exact Or.inr ⟨by decide, _, l0, hNc _ (by decide) _ (by decide) (by decide)⟩
      · exact Or.inr ⟨by decide, _, l1, hNc _ (by decide) _ (by decide) (by decide)⟩
    refine vx_catch hown (name := "java/lang/IllegalStateException") [⟨0, 10, 13, 21⟩, ⟨0, 10, 17, 13⟩] ⟨0, 10, 21, 15⟩ [] htab hpass (by decide) (by decide) l2 (va_Nw.use rfl (hE.1.2 _ (by decide))) hce hcv hcl ?_
    refine lv_astore (lv' := [(4, .ref q9), (0, .ref (ad 0 0)), (1, .int a1), (2, .int a2), (3, .ref q)]) hx hb dL_note_21 hl (by decide) rfl (fun ls hl => ?_)
    refine lv_iconst (v := 3) hx hb dL_note_23 (by decide) ?_
    exact vx_ret (W.widen (k := 3) (n := 18) (by decide) (by decide) (W.iret hx hb hr (lg_end (P := fun _ => True) trivial rfl hI1 hK hN1 hq1 hS1) (fun z hz => hS1.2.2 z hz) dL_note_24))
  · cases hw.1
def rmL_change : Room := { frames := 9, cells := 3, slots := 18, locals := 167 }
set_option maxHeartbeats 4000000 in
set_option maxRecDepth 100000 in
theorem mL_change (l : Launch) (hfl : l.stackTraces = false) (D : va_G) (G : CGT) (A : Nat → Prop) (ad : Nat → Nat → Nat) (Z : CZ) (cJ : ClassId) (q : Nat) (f : Nat → Int64) (a1 : Int32) (a2 : Int32) (a3 : Int32) (v : Int32) (Zz : CZ) (h : fX6_change a1 a2 a3 Z = some ((.inl v : Int32 ⊕ Int32), Zz)) : vx_Met l yL_change wsL_change rmL_change (va_Pc [.ref (ad 0 0), .int a1, .int a2, .int a3, .ref q] (lP D G A ad Z cJ q f)) (lQ D G A ad 0 Zz cJ q (fun f1 => f1 0 = v.toInt64)) (fun _ _ _ => False) 3 18 (fun y => A y ∨ y = q) := by
  refine vx_ofWH (cc := cL_change) (maxL := 6) (ret := some .int) (hh := [(0, 12, 15, 21), (0, 12, 19, 13)]) (by decide) rfl ?_
  intro p e s m args below meth c s₁ B hml hv
  obtain ⟨rfl, ⟨⟨⟨hI, hN, hK⟩, hE⟩, hF, hA⟩, hq, hKJ, hNc, hnq⟩ := hv
  have hx := B.exec
  have hb := B.bytes
  have hr := B.returns
  have hts := atoms_spec (ws := wsL_change) B.pre
  have hown : s.vm.findClass RL = some m.cls := findClass_of_methodNamed B.named
  have hlocks := B.notSynchronized
  have htab := vx_table (x := yL_change) B (hts _ (List.mem_cons_self))
  have hS : va_S (fun y => A y ∨ y = q) s.heap s.heap [] := va_S.rf
  have hl := lv_entry ([.ref (ad 0 0), .int a1, .int a2, .int a3, .ref q]) (n := 6) (Nat.le_of_ble_eq_true rfl)
  rw [lg_entry_eq]
  generalize (lg_sl ([.ref (ad 0 0), .int a1, .int a2, .int a3, .ref q]) ++ List.replicate (6 - (lg_sl ([.ref (ad 0 0), .int a1, .int a2, .int a3, .ref q])).length) Slot.unset).toArray = ls at hl ⊢
  have hl : lv_has ls 6 [(0, .ref (ad 0 0)), (1, .int a1), (2, .int a2), (3, .int a3), (4, .ref q)] := hl
  refine lv_aload hx hb dL_change_0 (lv_at hl 4 rfl) ?_
  refine lv_iconst (v := 0) hx hb dL_change_2 (by decide) ?_
  refine lv_aload_n hx hb dL_change_3 rfl (lv_at hl 0 rfl) ?_
  refine lv_iload_n hx hb dL_change_4 rfl (lv_at hl 1 rfl) ?_
  refine lv_iload_n hx hb dL_change_5 rfl (lv_at hl 2 rfl) ?_
  refine lv_iload_n hx hb dL_change_6 rfl (lv_at hl 3 rfl) ?_
  refine vx_calli (A0 := fun y => A y ∨ y = q) (vx_runV (As := [.int a1, .int a2, .int a3]) (rest := [.int 0, .ref q]) ⟨hx, hb, hml, hown, hts⟩ (mX6_change l hfl D G A ad Z a1 a2 a3 (.inl v) Zz h) (cwV 3 hts gL_change_X6_change rfl rfl rfl (by decide +kernel) ⟨Nat.le_of_ble_eq_true rfl, Nat.le_of_ble_eq_true rfl⟩) (xg_preV hI hK hN hE va_S.rf rfl rfl (ci := 7) rfl) rfl rfl hl.1 rfl (lv_room (Nat.le_of_ble_eq_true rfl)) dL_change_7 ⟨Nat.le_of_ble_eq_true rfl, Nat.le_of_ble_eq_true rfl⟩) hS (fun _ _ h => Or.inl h) (fun _ h => Or.inl h) (fun _ _ h => Or.inl h) (fun E ce q9 u t H1 locs1 ht hvm hp hB hz hk hS1 hce hcv hcl => ?_) (fun r9 u t H1 locs1 ht hvm hw hB hz hk hS1 => ?_)
  · obtain ⟨⟨c9, h9, -⟩, -⟩ := hB
    cases h9
  · have hq1 : va_at D vwCl (q, .inl (cJ, 1, .inr (.inl f))) H1 := hq.kept (hk q hq.lt hnq)
    obtain ⟨h9, rfl⟩ := hw
    cases h9
    have h00 : ad 0 0 = ad 0 0 := rfl
    have hI1 := hB.1
    have hN1 := hB.2.1
    rw [ht] at hN1
    clear hB hk hz
    refine lv_i2l hx hb (v := v.toInt64) dL_change_10 rfl ?_
    refine lg_last hx hb hKJ hq1 hN1 hI1 hnq hS1 dL_change_11 (fun H2 locs2 hq1 hN1 hS1 => ?_)
    refine lv_goto (tgt := 23) hx hb dL_change_12 (by decide) ?_
    refine lv_iconst (v := 0) hx hb dL_change_23 (by decide) ?_
    exact vx_ret (W.widen (k := 3) (n := 18) (by decide) (by decide) (W.iret hx hb hr (lg_end (P := (fun f1 => f1 0 = v.toInt64)) (if_pos rfl) h00 hI1 hK hN1 hq1 hS1) (fun z hz => hS1.2.2 z hz) dL_change_24))
set_option maxHeartbeats 4000000 in
set_option maxRecDepth 100000 in
theorem mL_change_x1 (l : Launch) (hfl : l.stackTraces = false) (D : va_G) (G : CGT) (A : Nat → Prop) (ad : Nat → Nat → Nat) (Z : CZ) (cJ : ClassId) (q : Nat) (f : Nat → Int64) (a1 : Int32) (a2 : Int32) (a3 : Int32) (Zz : CZ) (h : fX6_change a1 a2 a3 Z = some ((.inr 1 : Int32 ⊕ Int32), Zz)) : vx_Met l yL_change wsL_change rmL_change (va_Pc [.ref (ad 0 0), .int a1, .int a2, .int a3, .ref q] (lP D G A ad Z cJ q f)) (lQ D G A ad 1 Zz cJ q (fun _ => True)) (fun _ _ _ => False) 3 18 (fun y => A y ∨ y = q) := by
  refine vx_ofWH (cc := cL_change) (maxL := 6) (ret := some .int) (hh := [(0, 12, 15, 21), (0, 12, 19, 13)]) (by decide) rfl ?_
  intro p e s m args below meth c s₁ B hml hv
  obtain ⟨rfl, ⟨⟨⟨hI, hN, hK⟩, hE⟩, hF, hA⟩, hq, hKJ, hNc, hnq⟩ := hv
  have hx := B.exec
  have hb := B.bytes
  have hr := B.returns
  have hts := atoms_spec (ws := wsL_change) B.pre
  have hown : s.vm.findClass RL = some m.cls := findClass_of_methodNamed B.named
  have hlocks := B.notSynchronized
  have l0 := hts (.classLink RL 21 "java/lang/IndexOutOfBoundsException") (List.mem_of_getElem? (i := 1) rfl)
  have htab := vx_table (x := yL_change) B (hts _ (List.mem_cons_self))
  have hS : va_S (fun y => A y ∨ y = q) s.heap s.heap [] := va_S.rf
  have hl := lv_entry ([.ref (ad 0 0), .int a1, .int a2, .int a3, .ref q]) (n := 6) (Nat.le_of_ble_eq_true rfl)
  rw [lg_entry_eq]
  generalize (lg_sl ([.ref (ad 0 0), .int a1, .int a2, .int a3, .ref q]) ++ List.replicate (6 - (lg_sl ([.ref (ad 0 0), .int a1, .int a2, .int a3, .ref q])).length) Slot.unset).toArray = ls at hl ⊢
  have hl : lv_has ls 6 [(0, .ref (ad 0 0)), (1, .int a1), (2, .int a2), (3, .int a3), (4, .ref q)] := hl
  refine lv_aload hx hb dL_change_0 (lv_at hl 4 rfl) ?_
  refine lv_iconst (v := 0) hx hb dL_change_2 (by decide) ?_
  refine lv_aload_n hx hb dL_change_3 rfl (lv_at hl 0 rfl) ?_
  refine lv_iload_n hx hb dL_change_4 rfl (lv_at hl 1 rfl) ?_
  refine lv_iload_n hx hb dL_change_5 rfl (lv_at hl 2 rfl) ?_
  refine lv_iload_n hx hb dL_change_6 rfl (lv_at hl 3 rfl) ?_
  refine vx_calli (A0 := fun y => A y ∨ y = q) (vx_runV (As := [.int a1, .int a2, .int a3]) (rest := [.int 0, .ref q]) ⟨hx, hb, hml, hown, hts⟩ (mX6_change l hfl D G A ad Z a1 a2 a3 (.inr 1) Zz h) (cwV 3 hts gL_change_X6_change rfl rfl rfl (by decide +kernel) ⟨Nat.le_of_ble_eq_true rfl, Nat.le_of_ble_eq_true rfl⟩) (xg_preV hI hK hN hE va_S.rf rfl rfl (ci := 7) rfl) rfl rfl hl.1 rfl (lv_room (Nat.le_of_ble_eq_true rfl)) dL_change_7 ⟨Nat.le_of_ble_eq_true rfl, Nat.le_of_ble_eq_true rfl⟩) hS (fun _ _ h => Or.inl h) (fun _ h => Or.inl h) (fun _ _ h => Or.inl h) (fun E ce q9 u t H1 locs1 ht hvm hp hB hz hk hS1 hce hcv hcl => ?_) (fun r9 u t H1 locs1 ht hvm hw hB hz hk hS1 => ?_)
  · have hq1 : va_at D vwCl (q, .inl (cJ, 1, .inr (.inl f))) H1 := hq.kept (hk q hq.lt hnq)
    obtain ⟨⟨c9, h9, h8⟩, hB⟩ := hB
    cases h9
    have hE9 : E = "java/lang/IndexOutOfBoundsException" := h8.trans (by decide)
    subst hE9
    subst hp
    have hI1 := hB.1
    have hN1 := hB.2.1
    rw [ht] at hN1
    refine vx_catch hown (name := "java/lang/IndexOutOfBoundsException") [] ⟨0, 12, 15, 21⟩ [⟨0, 12, 19, 13⟩] htab (fun z hz => by simp at hz) (by decide) (by decide) l0 (va_Nw.use rfl (hE.1.2 _ (by decide))) hce hcv hcl ?_
    refine lv_astore (lv' := [(5, .ref q9), (0, .ref (ad 0 0)), (1, .int a1), (2, .int a2), (3, .int a3), (4, .ref q)]) hx hb dL_change_15 hl (by decide) rfl (fun ls hl => ?_)
    refine lv_iconst (v := 1) hx hb dL_change_17 (by decide) ?_
    exact vx_ret (W.widen (k := 3) (n := 18) (by decide) (by decide) (W.iret hx hb hr (lg_end (P := fun _ => True) trivial rfl hI1 hK hN1 hq1 hS1) (fun z hz => hS1.2.2 z hz) dL_change_18))
  · cases hw.1
set_option maxHeartbeats 4000000 in
set_option maxRecDepth 100000 in
theorem mL_change_x2 (l : Launch) (hfl : l.stackTraces = false) (D : va_G) (G : CGT) (A : Nat → Prop) (ad : Nat → Nat → Nat) (Z : CZ) (cJ : ClassId) (q : Nat) (f : Nat → Int64) (a1 : Int32) (a2 : Int32) (a3 : Int32) (Zz : CZ) (h : fX6_change a1 a2 a3 Z = some ((.inr 2 : Int32 ⊕ Int32), Zz)) : vx_Met l yL_change wsL_change rmL_change (va_Pc [.ref (ad 0 0), .int a1, .int a2, .int a3, .ref q] (lP D G A ad Z cJ q f)) (lQ D G A ad 2 Zz cJ q (fun _ => True)) (fun _ _ _ => False) 3 18 (fun y => A y ∨ y = q) := by
  refine vx_ofWH (cc := cL_change) (maxL := 6) (ret := some .int) (hh := [(0, 12, 15, 21), (0, 12, 19, 13)]) (by decide) rfl ?_
  intro p e s m args below meth c s₁ B hml hv
  obtain ⟨rfl, ⟨⟨⟨hI, hN, hK⟩, hE⟩, hF, hA⟩, hq, hKJ, hNc, hnq⟩ := hv
  have hx := B.exec
  have hb := B.bytes
  have hr := B.returns
  have hts := atoms_spec (ws := wsL_change) B.pre
  have hown : s.vm.findClass RL = some m.cls := findClass_of_methodNamed B.named
  have hlocks := B.notSynchronized
  have l0 := hts (.classLink RL 21 "java/lang/IndexOutOfBoundsException") (List.mem_of_getElem? (i := 1) rfl)
  have l1 := hts (.classLink RL 13 "java/lang/IllegalArgumentException") (List.mem_of_getElem? (i := 2) rfl)
  have htab := vx_table (x := yL_change) B (hts _ (List.mem_cons_self))
  have hS : va_S (fun y => A y ∨ y = q) s.heap s.heap [] := va_S.rf
  have hl := lv_entry ([.ref (ad 0 0), .int a1, .int a2, .int a3, .ref q]) (n := 6) (Nat.le_of_ble_eq_true rfl)
  rw [lg_entry_eq]
  generalize (lg_sl ([.ref (ad 0 0), .int a1, .int a2, .int a3, .ref q]) ++ List.replicate (6 - (lg_sl ([.ref (ad 0 0), .int a1, .int a2, .int a3, .ref q])).length) Slot.unset).toArray = ls at hl ⊢
  have hl : lv_has ls 6 [(0, .ref (ad 0 0)), (1, .int a1), (2, .int a2), (3, .int a3), (4, .ref q)] := hl
  refine lv_aload hx hb dL_change_0 (lv_at hl 4 rfl) ?_
  refine lv_iconst (v := 0) hx hb dL_change_2 (by decide) ?_
  refine lv_aload_n hx hb dL_change_3 rfl (lv_at hl 0 rfl) ?_
  refine lv_iload_n hx hb dL_change_4 rfl (lv_at hl 1 rfl) ?_
  refine lv_iload_n hx hb dL_change_5 rfl (lv_at hl 2 rfl) ?_
  refine lv_iload_n hx hb dL_change_6 rfl (lv_at hl 3 rfl) ?_
  refine vx_calli (A0 := fun y => A y ∨ y = q) (vx_runV (As := [.int a1, .int a2, .int a3]) (rest := [.int 0, .ref q]) ⟨hx, hb, hml, hown, hts⟩ (mX6_change l hfl D G A ad Z a1 a2 a3 (.inr 2) Zz h) (cwV 3 hts gL_change_X6_change rfl rfl rfl (by decide +kernel) ⟨Nat.le_of_ble_eq_true rfl, Nat.le_of_ble_eq_true rfl⟩) (xg_preV hI hK hN hE va_S.rf rfl rfl (ci := 7) rfl) rfl rfl hl.1 rfl (lv_room (Nat.le_of_ble_eq_true rfl)) dL_change_7 ⟨Nat.le_of_ble_eq_true rfl, Nat.le_of_ble_eq_true rfl⟩) hS (fun _ _ h => Or.inl h) (fun _ h => Or.inl h) (fun _ _ h => Or.inl h) (fun E ce q9 u t H1 locs1 ht hvm hp hB hz hk hS1 hce hcv hcl => ?_) (fun r9 u t H1 locs1 ht hvm hw hB hz hk hS1 => ?_)
  · have hq1 : va_at D vwCl (q, .inl (cJ, 1, .inr (.inl f))) H1 := hq.kept (hk q hq.lt hnq)
    obtain ⟨⟨c9, h9, h8⟩, hB⟩ := hB
    cases h9
    have hE9 : E = "java/lang/IllegalArgumentException" := h8.trans (by decide)
    subst hE9
    subst hp
    have hI1 := hB.1
    have hN1 := hB.2.1
    rw [ht] at hN1
    have hpass : ∀ z ∈ ([⟨0, 12, 15, 21⟩] : List ExceptionTableEntry), covers z 7 = false ∨ (z.catchType ≠ 0 ∧ ∃ nm : String, (Cond.classLink RL z.catchType nm).before (([.ref (ad 0 0), .int a1, .int a2, .int a3, .ref q] : List Value).toArray) s = true ∧ va_Nc "java/lang/IllegalArgumentException" nm s) := by
      intro z hz
      simp only [List.mem_cons, List.not_mem_nil, or_false] at hz
      rcases hz with rfl
      · exact Or.inr ⟨by decide, _, l0, hNc _ (by decide) _ (by decide) (by decide)⟩
    refine vx_catch hown (name := "java/lang/IllegalArgumentException") [⟨0, 12, 15, 21⟩] ⟨0, 12, 19, 13⟩ [] htab hpass (by decide) (by decide) l1 (va_Nw.use rfl (hE.1.2 _ (by decide))) hce hcv hcl ?_
    refine lv_astore (lv' := [(5, .ref q9), (0, .ref (ad 0 0)), (1, .int a1), (2, .int a2), (3, .int a3), (4, .ref q)]) hx hb dL_change_19 hl (by decide) rfl (fun ls hl => ?_)
    refine lv_iconst (v := 2) hx hb dL_change_21 (by decide) ?_
    exact vx_ret (W.widen (k := 3) (n := 18) (by decide) (by decide) (W.iret hx hb hr (lg_end (P := fun _ => True) trivial rfl hI1 hK hN1 hq1 hS1) (fun z hz => hS1.2.2 z hz) dL_change_22))
  · cases hw.1
def rmL_tell : Room := { frames := 9, cells := 4, slots := 24, locals := 167 }
set_option maxHeartbeats 4000000 in
set_option maxRecDepth 100000 in
theorem mL_tell (l : Launch) (hfl : l.stackTraces = false) (D : va_G) (G : CGT) (A : Nat → Prop) (ad : Nat → Nat → Nat) (Z : CZ) (cJ : ClassId) (q : Nat) (f : Nat → Int64) (a1 : Int32) (a2 : Int32) (a3 : Int32) (v : Int32) (Zz : CZ) (h : fX6_tell a1 a2 a3 Z = some ((.inl v : Int32 ⊕ Int32), Zz)) : vx_Met l yL_tell wsL_tell rmL_tell (va_Pc [.ref (ad 0 0), .int a1, .int a2, .int a3, .ref q] (lP D G A ad Z cJ q f)) (lQ D G A ad 0 Zz cJ q (fun f1 => f1 0 = v.toInt64)) (fun _ _ _ => False) 4 24 (fun y => A y ∨ y = q) := by
  refine vx_ofWH (cc := cL_tell) (maxL := 6) (ret := some .int) (hh := [(0, 12, 15, 21)]) (by decide) rfl ?_
  intro p e s m args below meth c s₁ B hml hv
  obtain ⟨rfl, ⟨⟨⟨hI, hN, hK⟩, hE⟩, hF, hA⟩, hq, hKJ, hNc, hnq⟩ := hv
  have hx := B.exec
  have hb := B.bytes
  have hr := B.returns
  have hts := atoms_spec (ws := wsL_tell) B.pre
  have hown : s.vm.findClass RL = some m.cls := findClass_of_methodNamed B.named
  have hlocks := B.notSynchronized
  have htab := vx_table (x := yL_tell) B (hts _ (List.mem_cons_self))
  have hS : va_S (fun y => A y ∨ y = q) s.heap s.heap [] := va_S.rf
  have hl := lv_entry ([.ref (ad 0 0), .int a1, .int a2, .int a3, .ref q]) (n := 6) (Nat.le_of_ble_eq_true rfl)
  rw [lg_entry_eq]
  generalize (lg_sl ([.ref (ad 0 0), .int a1, .int a2, .int a3, .ref q]) ++ List.replicate (6 - (lg_sl ([.ref (ad 0 0), .int a1, .int a2, .int a3, .ref q])).length) Slot.unset).toArray = ls at hl ⊢
  have hl : lv_has ls 6 [(0, .ref (ad 0 0)), (1, .int a1), (2, .int a2), (3, .int a3), (4, .ref q)] := hl
  refine lv_aload hx hb dL_tell_0 (lv_at hl 4 rfl) ?_
  refine lv_iconst (v := 0) hx hb dL_tell_2 (by decide) ?_
  refine lv_aload_n hx hb dL_tell_3 rfl (lv_at hl 0 rfl) ?_
  refine lv_iload_n hx hb dL_tell_4 rfl (lv_at hl 1 rfl) ?_
  refine lv_iload_n hx hb dL_tell_5 rfl (lv_at hl 2 rfl) ?_
  refine lv_iload_n hx hb dL_tell_6 rfl (lv_at hl 3 rfl) ?_
  refine vx_calli (A0 := fun y => A y ∨ y = q) (vx_runV (As := [.int a1, .int a2, .int a3]) (rest := [.int 0, .ref q]) ⟨hx, hb, hml, hown, hts⟩ (mX6_tell l hfl D G A ad Z a1 a2 a3 (.inl v) Zz h) (cwV 3 hts gL_tell_X6_tell rfl rfl rfl (by decide +kernel) ⟨Nat.le_of_ble_eq_true rfl, Nat.le_of_ble_eq_true rfl⟩) (xg_preV hI hK hN hE va_S.rf rfl rfl (ci := 7) rfl) rfl rfl hl.1 rfl (lv_room (Nat.le_of_ble_eq_true rfl)) dL_tell_7 ⟨Nat.le_of_ble_eq_true rfl, Nat.le_of_ble_eq_true rfl⟩) hS (fun _ _ h => Or.inl h) (fun _ h => Or.inl h) (fun _ _ h => Or.inl h) (fun E ce q9 u t H1 locs1 ht hvm hp hB hz hk hS1 hce hcv hcl => ?_) (fun r9 u t H1 locs1 ht hvm hw hB hz hk hS1 => ?_)
  · obtain ⟨⟨c9, h9, -⟩, -⟩ := hB
    cases h9
  · have hq1 : va_at D vwCl (q, .inl (cJ, 1, .inr (.inl f))) H1 := hq.kept (hk q hq.lt hnq)
    obtain ⟨h9, rfl⟩ := hw
    cases h9
    have h00 : ad 0 0 = ad 0 0 := rfl
    have hI1 := hB.1
    have hN1 := hB.2.1
    rw [ht] at hN1
    clear hB hk hz
    refine lv_i2l hx hb (v := v.toInt64) dL_tell_10 rfl ?_
    refine lg_last hx hb hKJ hq1 hN1 hI1 hnq hS1 dL_tell_11 (fun H2 locs2 hq1 hN1 hS1 => ?_)
    refine lv_goto (tgt := 19) hx hb dL_tell_12 (by decide) ?_
    refine lv_iconst (v := 0) hx hb dL_tell_19 (by decide) ?_
    exact vx_ret (W.widen (k := 4) (n := 24) (by decide) (by decide) (W.iret hx hb hr (lg_end (P := (fun f1 => f1 0 = v.toInt64)) (if_pos rfl) h00 hI1 hK hN1 hq1 hS1) (fun z hz => hS1.2.2 z hz) dL_tell_20))
set_option maxHeartbeats 4000000 in
set_option maxRecDepth 100000 in
theorem mL_tell_x1 (l : Launch) (hfl : l.stackTraces = false) (D : va_G) (G : CGT) (A : Nat → Prop) (ad : Nat → Nat → Nat) (Z : CZ) (cJ : ClassId) (q : Nat) (f : Nat → Int64) (a1 : Int32) (a2 : Int32) (a3 : Int32) (Zz : CZ) (h : fX6_tell a1 a2 a3 Z = some ((.inr 1 : Int32 ⊕ Int32), Zz)) : vx_Met l yL_tell wsL_tell rmL_tell (va_Pc [.ref (ad 0 0), .int a1, .int a2, .int a3, .ref q] (lP D G A ad Z cJ q f)) (lQ D G A ad 1 Zz cJ q (fun _ => True)) (fun _ _ _ => False) 4 24 (fun y => A y ∨ y = q) := by
  refine vx_ofWH (cc := cL_tell) (maxL := 6) (ret := some .int) (hh := [(0, 12, 15, 21)]) (by decide) rfl ?_
  intro p e s m args below meth c s₁ B hml hv
  obtain ⟨rfl, ⟨⟨⟨hI, hN, hK⟩, hE⟩, hF, hA⟩, hq, hKJ, hNc, hnq⟩ := hv
  have hx := B.exec
  have hb := B.bytes
  have hr := B.returns
  have hts := atoms_spec (ws := wsL_tell) B.pre
  have hown : s.vm.findClass RL = some m.cls := findClass_of_methodNamed B.named
  have hlocks := B.notSynchronized
  have l0 := hts (.classLink RL 21 "java/lang/IndexOutOfBoundsException") (List.mem_of_getElem? (i := 1) rfl)
  have htab := vx_table (x := yL_tell) B (hts _ (List.mem_cons_self))
  have hS : va_S (fun y => A y ∨ y = q) s.heap s.heap [] := va_S.rf
  have hl := lv_entry ([.ref (ad 0 0), .int a1, .int a2, .int a3, .ref q]) (n := 6) (Nat.le_of_ble_eq_true rfl)
  rw [lg_entry_eq]
  generalize (lg_sl ([.ref (ad 0 0), .int a1, .int a2, .int a3, .ref q]) ++ List.replicate (6 - (lg_sl ([.ref (ad 0 0), .int a1, .int a2, .int a3, .ref q])).length) Slot.unset).toArray = ls at hl ⊢
  have hl : lv_has ls 6 [(0, .ref (ad 0 0)), (1, .int a1), (2, .int a2), (3, .int a3), (4, .ref q)] := hl
  refine lv_aload hx hb dL_tell_0 (lv_at hl 4 rfl) ?_
  refine lv_iconst (v := 0) hx hb dL_tell_2 (by decide) ?_
  refine lv_aload_n hx hb dL_tell_3 rfl (lv_at hl 0 rfl) ?_
  refine lv_iload_n hx hb dL_tell_4 rfl (lv_at hl 1 rfl) ?_
  refine lv_iload_n hx hb dL_tell_5 rfl (lv_at hl 2 rfl) ?_
  refine lv_iload_n hx hb dL_tell_6 rfl (lv_at hl 3 rfl) ?_
  refine vx_calli (A0 := fun y => A y ∨ y = q) (vx_runV (As := [.int a1, .int a2, .int a3]) (rest := [.int 0, .ref q]) ⟨hx, hb, hml, hown, hts⟩ (mX6_tell l hfl D G A ad Z a1 a2 a3 (.inr 1) Zz h) (cwV 3 hts gL_tell_X6_tell rfl rfl rfl (by decide +kernel) ⟨Nat.le_of_ble_eq_true rfl, Nat.le_of_ble_eq_true rfl⟩) (xg_preV hI hK hN hE va_S.rf rfl rfl (ci := 7) rfl) rfl rfl hl.1 rfl (lv_room (Nat.le_of_ble_eq_true rfl)) dL_tell_7 ⟨Nat.le_of_ble_eq_true rfl, Nat.le_of_ble_eq_true rfl⟩) hS (fun _ _ h => Or.inl h) (fun _ h => Or.inl h) (fun _ _ h => Or.inl h) (fun E ce q9 u t H1 locs1 ht hvm hp hB hz hk hS1 hce hcv hcl => ?_) (fun r9 u t H1 locs1 ht hvm hw hB hz hk hS1 => ?_)
  · have hq1 : va_at D vwCl (q, .inl (cJ, 1, .inr (.inl f))) H1 := hq.kept (hk q hq.lt hnq)
    obtain ⟨⟨c9, h9, h8⟩, hB⟩ := hB
    cases h9
    have hE9 : E = "java/lang/IndexOutOfBoundsException" := h8.trans (by decide)
    subst hE9
    subst hp
    have hI1 := hB.1
    have hN1 := hB.2.1
    rw [ht] at hN1
    refine vx_catch hown (name := "java/lang/IndexOutOfBoundsException") [] ⟨0, 12, 15, 21⟩ [] htab (fun z hz => by simp at hz) (by decide) (by decide) l0 (va_Nw.use rfl (hE.1.2 _ (by decide))) hce hcv hcl ?_
    refine lv_astore (lv' := [(5, .ref q9), (0, .ref (ad 0 0)), (1, .int a1), (2, .int a2), (3, .int a3), (4, .ref q)]) hx hb dL_tell_15 hl (by decide) rfl (fun ls hl => ?_)
    refine lv_iconst (v := 1) hx hb dL_tell_17 (by decide) ?_
    exact vx_ret (W.widen (k := 4) (n := 24) (by decide) (by decide) (W.iret hx hb hr (lg_end (P := fun _ => True) trivial rfl hI1 hK hN1 hq1 hS1) (fun z hz => hS1.2.2 z hz) dL_tell_18))
  · cases hw.1
def rmL_drill : Room := { frames := 9, cells := 3, slots := 18, locals := 165 }
set_option maxHeartbeats 4000000 in
set_option maxRecDepth 100000 in
theorem mL_drill (l : Launch) (hfl : l.stackTraces = false) (D : va_G) (G : CGT) (A : Nat → Prop) (ad : Nat → Nat → Nat) (Z : CZ) (cJ : ClassId) (q : Nat) (f : Nat → Int64) (a1 : Int32) (a2 : Int32) (v : Int32) (Zz : CZ) (h : fX6_drill a1 a2 Z = some ((.inl v : Int32 ⊕ Int32), Zz)) : vx_Met l yL_drill wsL_drill rmL_drill (va_Pc [.ref (ad 0 0), .int a1, .int a2, .ref q] (lP D G A ad Z cJ q f)) (lQ D G A ad 0 Zz cJ q (fun f1 => f1 0 = v.toInt64)) (fun _ _ _ => False) 3 18 (fun y => A y ∨ y = q) := by
  refine vx_ofWH (cc := cL_drill) (maxL := 5) (ret := some .int) (hh := [(0, 10, 13, 21), (0, 10, 17, 15)]) (by decide) rfl ?_
  intro p e s m args below meth c s₁ B hml hv
  obtain ⟨rfl, ⟨⟨⟨hI, hN, hK⟩, hE⟩, hF, hA⟩, hq, hKJ, hNc, hnq⟩ := hv
  have hx := B.exec
  have hb := B.bytes
  have hr := B.returns
  have hts := atoms_spec (ws := wsL_drill) B.pre
  have hown : s.vm.findClass RL = some m.cls := findClass_of_methodNamed B.named
  have hlocks := B.notSynchronized
  have htab := vx_table (x := yL_drill) B (hts _ (List.mem_cons_self))
  have hS : va_S (fun y => A y ∨ y = q) s.heap s.heap [] := va_S.rf
  have hl := lv_entry ([.ref (ad 0 0), .int a1, .int a2, .ref q]) (n := 5) (Nat.le_of_ble_eq_true rfl)
  rw [lg_entry_eq]
  generalize (lg_sl ([.ref (ad 0 0), .int a1, .int a2, .ref q]) ++ List.replicate (5 - (lg_sl ([.ref (ad 0 0), .int a1, .int a2, .ref q])).length) Slot.unset).toArray = ls at hl ⊢
  have hl : lv_has ls 5 [(0, .ref (ad 0 0)), (1, .int a1), (2, .int a2), (3, .ref q)] := hl
  refine lv_aload_n hx hb dL_drill_0 rfl (lv_at hl 3 rfl) ?_
  refine lv_iconst (v := 0) hx hb dL_drill_1 (by decide) ?_
  refine lv_aload_n hx hb dL_drill_2 rfl (lv_at hl 0 rfl) ?_
  refine lv_iload_n hx hb dL_drill_3 rfl (lv_at hl 1 rfl) ?_
  refine lv_iload_n hx hb dL_drill_4 rfl (lv_at hl 2 rfl) ?_
  refine vx_calli (A0 := fun y => A y ∨ y = q) (vx_runV (As := [.int a1, .int a2]) (rest := [.int 0, .ref q]) ⟨hx, hb, hml, hown, hts⟩ (mX6_drill l hfl D G A ad Z a1 a2 (.inl v) Zz h) (cwV 2 hts gL_drill_X6_drill rfl rfl rfl (by decide +kernel) ⟨Nat.le_of_ble_eq_true rfl, Nat.le_of_ble_eq_true rfl⟩) (xg_preV hI hK hN hE va_S.rf rfl rfl (ci := 7) rfl) rfl rfl hl.1 rfl (lv_room (Nat.le_of_ble_eq_true rfl)) dL_drill_5 ⟨Nat.le_of_ble_eq_true rfl, Nat.le_of_ble_eq_true rfl⟩) hS (fun _ _ h => Or.inl h) (fun _ h => Or.inl h) (fun _ _ h => Or.inl h) (fun E ce q9 u t H1 locs1 ht hvm hp hB hz hk hS1 hce hcv hcl => ?_) (fun r9 u t H1 locs1 ht hvm hw hB hz hk hS1 => ?_)
  · obtain ⟨⟨c9, h9, -⟩, -⟩ := hB
    cases h9
  · have hq1 : va_at D vwCl (q, .inl (cJ, 1, .inr (.inl f))) H1 := hq.kept (hk q hq.lt hnq)
    obtain ⟨h9, rfl⟩ := hw
    cases h9
    have h00 : ad 0 0 = ad 0 0 := rfl
    have hI1 := hB.1
    have hN1 := hB.2.1
    rw [ht] at hN1
    clear hB hk hz
    refine lv_i2l hx hb (v := v.toInt64) dL_drill_8 rfl ?_
    refine lg_last hx hb hKJ hq1 hN1 hI1 hnq hS1 dL_drill_9 (fun H2 locs2 hq1 hN1 hS1 => ?_)
    refine lv_goto (tgt := 21) hx hb dL_drill_10 (by decide) ?_
    refine lv_iconst (v := 0) hx hb dL_drill_21 (by decide) ?_
    exact vx_ret (W.widen (k := 3) (n := 18) (by decide) (by decide) (W.iret hx hb hr (lg_end (P := (fun f1 => f1 0 = v.toInt64)) (if_pos rfl) h00 hI1 hK hN1 hq1 hS1) (fun z hz => hS1.2.2 z hz) dL_drill_22))
set_option maxHeartbeats 4000000 in
set_option maxRecDepth 100000 in
theorem mL_drill_x1 (l : Launch) (hfl : l.stackTraces = false) (D : va_G) (G : CGT) (A : Nat → Prop) (ad : Nat → Nat → Nat) (Z : CZ) (cJ : ClassId) (q : Nat) (f : Nat → Int64) (a1 : Int32) (a2 : Int32) (Zz : CZ) (h : fX6_drill a1 a2 Z = some ((.inr 1 : Int32 ⊕ Int32), Zz)) : vx_Met l yL_drill wsL_drill rmL_drill (va_Pc [.ref (ad 0 0), .int a1, .int a2, .ref q] (lP D G A ad Z cJ q f)) (lQ D G A ad 1 Zz cJ q (fun _ => True)) (fun _ _ _ => False) 3 18 (fun y => A y ∨ y = q) := by
  refine vx_ofWH (cc := cL_drill) (maxL := 5) (ret := some .int) (hh := [(0, 10, 13, 21), (0, 10, 17, 15)]) (by decide) rfl ?_
  intro p e s m args below meth c s₁ B hml hv
  obtain ⟨rfl, ⟨⟨⟨hI, hN, hK⟩, hE⟩, hF, hA⟩, hq, hKJ, hNc, hnq⟩ := hv
  have hx := B.exec
  have hb := B.bytes
  have hr := B.returns
  have hts := atoms_spec (ws := wsL_drill) B.pre
  have hown : s.vm.findClass RL = some m.cls := findClass_of_methodNamed B.named
  have hlocks := B.notSynchronized
  have l0 := hts (.classLink RL 21 "java/lang/IndexOutOfBoundsException") (List.mem_of_getElem? (i := 1) rfl)
  have htab := vx_table (x := yL_drill) B (hts _ (List.mem_cons_self))
  have hS : va_S (fun y => A y ∨ y = q) s.heap s.heap [] := va_S.rf
  have hl := lv_entry ([.ref (ad 0 0), .int a1, .int a2, .ref q]) (n := 5) (Nat.le_of_ble_eq_true rfl)
  rw [lg_entry_eq]
  generalize (lg_sl ([.ref (ad 0 0), .int a1, .int a2, .ref q]) ++ List.replicate (5 - (lg_sl ([.ref (ad 0 0), .int a1, .int a2, .ref q])).length) Slot.unset).toArray = ls at hl ⊢
  have hl : lv_has ls 5 [(0, .ref (ad 0 0)), (1, .int a1), (2, .int a2), (3, .ref q)] := hl
  refine lv_aload_n hx hb dL_drill_0 rfl (lv_at hl 3 rfl) ?_
  refine lv_iconst (v := 0) hx hb dL_drill_1 (by decide) ?_
  refine lv_aload_n hx hb dL_drill_2 rfl (lv_at hl 0 rfl) ?_
  refine lv_iload_n hx hb dL_drill_3 rfl (lv_at hl 1 rfl) ?_
  refine lv_iload_n hx hb dL_drill_4 rfl (lv_at hl 2 rfl) ?_
  refine vx_calli (A0 := fun y => A y ∨ y = q) (vx_runV (As := [.int a1, .int a2]) (rest := [.int 0, .ref q]) ⟨hx, hb, hml, hown, hts⟩ (mX6_drill l hfl D G A ad Z a1 a2 (.inr 1) Zz h) (cwV 2 hts gL_drill_X6_drill rfl rfl rfl (by decide +kernel) ⟨Nat.le_of_ble_eq_true rfl, Nat.le_of_ble_eq_true rfl⟩) (xg_preV hI hK hN hE va_S.rf rfl rfl (ci := 7) rfl) rfl rfl hl.1 rfl (lv_room (Nat.le_of_ble_eq_true rfl)) dL_drill_5 ⟨Nat.le_of_ble_eq_true rfl, Nat.le_of_ble_eq_true rfl⟩) hS (fun _ _ h => Or.inl h) (fun _ h => Or.inl h) (fun _ _ h => Or.inl h) (fun E ce q9 u t H1 locs1 ht hvm hp hB hz hk hS1 hce hcv hcl => ?_) (fun r9 u t H1 locs1 ht hvm hw hB hz hk hS1 => ?_)
  · have hq1 : va_at D vwCl (q, .inl (cJ, 1, .inr (.inl f))) H1 := hq.kept (hk q hq.lt hnq)
    obtain ⟨⟨c9, h9, h8⟩, hB⟩ := hB
    cases h9
    have hE9 : E = "java/lang/IndexOutOfBoundsException" := h8.trans (by decide)
    subst hE9
    subst hp
    have hI1 := hB.1
    have hN1 := hB.2.1
    rw [ht] at hN1
    refine vx_catch hown (name := "java/lang/IndexOutOfBoundsException") [] ⟨0, 10, 13, 21⟩ [⟨0, 10, 17, 15⟩] htab (fun z hz => by simp at hz) (by decide) (by decide) l0 (va_Nw.use rfl (hE.1.2 _ (by decide))) hce hcv hcl ?_
    refine lv_astore (lv' := [(4, .ref q9), (0, .ref (ad 0 0)), (1, .int a1), (2, .int a2), (3, .ref q)]) hx hb dL_drill_13 hl (by decide) rfl (fun ls hl => ?_)
    refine lv_iconst (v := 1) hx hb dL_drill_15 (by decide) ?_
    exact vx_ret (W.widen (k := 3) (n := 18) (by decide) (by decide) (W.iret hx hb hr (lg_end (P := fun _ => True) trivial rfl hI1 hK hN1 hq1 hS1) (fun z hz => hS1.2.2 z hz) dL_drill_16))
  · cases hw.1
set_option maxHeartbeats 4000000 in
set_option maxRecDepth 100000 in
theorem mL_drill_x2 (l : Launch) (hfl : l.stackTraces = false) (D : va_G) (G : CGT) (A : Nat → Prop) (ad : Nat → Nat → Nat) (Z : CZ) (cJ : ClassId) (q : Nat) (f : Nat → Int64) (a1 : Int32) (a2 : Int32) (Zz : CZ) (h : fX6_drill a1 a2 Z = some ((.inr 3 : Int32 ⊕ Int32), Zz)) : vx_Met l yL_drill wsL_drill rmL_drill (va_Pc [.ref (ad 0 0), .int a1, .int a2, .ref q] (lP D G A ad Z cJ q f)) (lQ D G A ad 2 Zz cJ q (fun _ => True)) (fun _ _ _ => False) 3 18 (fun y => A y ∨ y = q) := by
  refine vx_ofWH (cc := cL_drill) (maxL := 5) (ret := some .int) (hh := [(0, 10, 13, 21), (0, 10, 17, 15)]) (by decide) rfl ?_
  intro p e s m args below meth c s₁ B hml hv
  obtain ⟨rfl, ⟨⟨⟨hI, hN, hK⟩, hE⟩, hF, hA⟩, hq, hKJ, hNc, hnq⟩ := hv
  have hx := B.exec
  have hb := B.bytes
  have hr := B.returns
  have hts := atoms_spec (ws := wsL_drill) B.pre
  have hown : s.vm.findClass RL = some m.cls := findClass_of_methodNamed B.named
  have hlocks := B.notSynchronized
  have l0 := hts (.classLink RL 21 "java/lang/IndexOutOfBoundsException") (List.mem_of_getElem? (i := 1) rfl)
  have l1 := hts (.classLink RL 15 "java/lang/IllegalStateException") (List.mem_of_getElem? (i := 2) rfl)
  have htab := vx_table (x := yL_drill) B (hts _ (List.mem_cons_self))
  have hS : va_S (fun y => A y ∨ y = q) s.heap s.heap [] := va_S.rf
  have hl := lv_entry ([.ref (ad 0 0), .int a1, .int a2, .ref q]) (n := 5) (Nat.le_of_ble_eq_true rfl)
  rw [lg_entry_eq]
  generalize (lg_sl ([.ref (ad 0 0), .int a1, .int a2, .ref q]) ++ List.replicate (5 - (lg_sl ([.ref (ad 0 0), .int a1, .int a2, .ref q])).length) Slot.unset).toArray = ls at hl ⊢
  have hl : lv_has ls 5 [(0, .ref (ad 0 0)), (1, .int a1), (2, .int a2), (3, .ref q)] := hl
  refine lv_aload_n hx hb dL_drill_0 rfl (lv_at hl 3 rfl) ?_
  refine lv_iconst (v := 0) hx hb dL_drill_1 (by decide) ?_
  refine lv_aload_n hx hb dL_drill_2 rfl (lv_at hl 0 rfl) ?_
  refine lv_iload_n hx hb dL_drill_3 rfl (lv_at hl 1 rfl) ?_
  refine lv_iload_n hx hb dL_drill_4 rfl (lv_at hl 2 rfl) ?_
  refine vx_calli (A0 := fun y => A y ∨ y = q) (vx_runV (As := [.int a1, .int a2]) (rest := [.int 0, .ref q]) ⟨hx, hb, hml, hown, hts⟩ (mX6_drill l hfl D G A ad Z a1 a2 (.inr 3) Zz h) (cwV 2 hts gL_drill_X6_drill rfl rfl rfl (by decide +kernel) ⟨Nat.le_of_ble_eq_true rfl, Nat.le_of_ble_eq_true rfl⟩) (xg_preV hI hK hN hE va_S.rf rfl rfl (ci := 7) rfl) rfl rfl hl.1 rfl (lv_room (Nat.le_of_ble_eq_true rfl)) dL_drill_5 ⟨Nat.le_of_ble_eq_true rfl, Nat.le_of_ble_eq_true rfl⟩) hS (fun _ _ h => Or.inl h) (fun _ h => Or.inl h) (fun _ _ h => Or.inl h) (fun E ce q9 u t H1 locs1 ht hvm hp hB hz hk hS1 hce hcv hcl => ?_) (fun r9 u t H1 locs1 ht hvm hw hB hz hk hS1 => ?_)
  · have hq1 : va_at D vwCl (q, .inl (cJ, 1, .inr (.inl f))) H1 := hq.kept (hk q hq.lt hnq)
    obtain ⟨⟨c9, h9, h8⟩, hB⟩ := hB
    cases h9
    have hE9 : E = "java/lang/IllegalStateException" := h8.trans (by decide)
    subst hE9
    subst hp
    have hI1 := hB.1
    have hN1 := hB.2.1
    rw [ht] at hN1
    have hpass : ∀ z ∈ ([⟨0, 10, 13, 21⟩] : List ExceptionTableEntry), covers z 5 = false ∨ (z.catchType ≠ 0 ∧ ∃ nm : String, (Cond.classLink RL z.catchType nm).before (([.ref (ad 0 0), .int a1, .int a2, .ref q] : List Value).toArray) s = true ∧ va_Nc "java/lang/IllegalStateException" nm s) := by
      intro z hz
      simp only [List.mem_cons, List.not_mem_nil, or_false] at hz
      rcases hz with rfl
      · exact Or.inr ⟨by decide, _, l0, hNc _ (by decide) _ (by decide) (by decide)⟩
    refine vx_catch hown (name := "java/lang/IllegalStateException") [⟨0, 10, 13, 21⟩] ⟨0, 10, 17, 15⟩ [] htab hpass (by decide) (by decide) l1 (va_Nw.use rfl (hE.1.2 _ (by decide))) hce hcv hcl ?_
    refine lv_astore (lv' := [(4, .ref q9), (0, .ref (ad 0 0)), (1, .int a1), (2, .int a2), (3, .ref q)]) hx hb dL_drill_17 hl (by decide) rfl (fun ls hl => ?_)
    refine lv_iconst (v := 2) hx hb dL_drill_19 (by decide) ?_
    exact vx_ret (W.widen (k := 3) (n := 18) (by decide) (by decide) (W.iret hx hb hr (lg_end (P := fun _ => True) trivial rfl hI1 hK hN1 hq1 hS1) (fun z hz => hS1.2.2 z hz) dL_drill_20))
  · cases hw.1
def rmL_pass : Room := { frames := 8, cells := 2, slots := 12, locals := 143 }
set_option maxHeartbeats 4000000 in
set_option maxRecDepth 100000 in
theorem mL_pass (l : Launch) (hfl : l.stackTraces = false) (D : va_G) (G : CGT) (A : Nat → Prop) (ad : Nat → Nat → Nat) (Z : CZ) (cJ : ClassId) (q : Nat) (f : Nat → Int64) (a1 : Int32) (v : Int32) (Zz : CZ) (h : fX6_pass a1 Z = some ((.inl v : Int32 ⊕ Int32), Zz)) : vx_Met l yL_pass wsL_pass rmL_pass (va_Pc [.ref (ad 0 0), .int a1, .ref q] (lP D G A ad Z cJ q f)) (lQ D G A ad 0 Zz cJ q (fun f1 => f1 0 = v.toInt64)) (fun _ _ _ => False) 2 12 (fun y => A y ∨ y = q) := by
  refine vx_ofWH (cc := cL_pass) (maxL := 4) (ret := some .int) (hh := [(0, 9, 12, 13), (0, 9, 15, 15)]) (by decide) rfl ?_
  intro p e s m args below meth c s₁ B hml hv
  obtain ⟨rfl, ⟨⟨⟨hI, hN, hK⟩, hE⟩, hF, hA⟩, hq, hKJ, hNc, hnq⟩ := hv
  have hx := B.exec
  have hb := B.bytes
  have hr := B.returns
  have hts := atoms_spec (ws := wsL_pass) B.pre
  have hown : s.vm.findClass RL = some m.cls := findClass_of_methodNamed B.named
  have hlocks := B.notSynchronized
  have htab := vx_table (x := yL_pass) B (hts _ (List.mem_cons_self))
  have hS : va_S (fun y => A y ∨ y = q) s.heap s.heap [] := va_S.rf
  have hl := lv_entry ([.ref (ad 0 0), .int a1, .ref q]) (n := 4) (Nat.le_of_ble_eq_true rfl)
  rw [lg_entry_eq]
  generalize (lg_sl ([.ref (ad 0 0), .int a1, .ref q]) ++ List.replicate (4 - (lg_sl ([.ref (ad 0 0), .int a1, .ref q])).length) Slot.unset).toArray = ls at hl ⊢
  have hl : lv_has ls 4 [(0, .ref (ad 0 0)), (1, .int a1), (2, .ref q)] := hl
  refine lv_aload_n hx hb dL_pass_0 rfl (lv_at hl 2 rfl) ?_
  refine lv_iconst (v := 0) hx hb dL_pass_1 (by decide) ?_
  refine lv_aload_n hx hb dL_pass_2 rfl (lv_at hl 0 rfl) ?_
  refine lv_iload_n hx hb dL_pass_3 rfl (lv_at hl 1 rfl) ?_
  refine vx_calli (A0 := fun y => A y ∨ y = q) (vx_runV (As := [.int a1]) (rest := [.int 0, .ref q]) ⟨hx, hb, hml, hown, hts⟩ (mX6_pass l hfl D G A ad Z a1 (.inl v) Zz h) (cwV 1 hts gL_pass_X6_pass rfl rfl rfl (by decide +kernel) ⟨Nat.le_of_ble_eq_true rfl, Nat.le_of_ble_eq_true rfl⟩) (xg_preV hI hK hN hE va_S.rf rfl rfl (ci := 7) rfl) rfl rfl hl.1 rfl (lv_room (Nat.le_of_ble_eq_true rfl)) dL_pass_4 ⟨Nat.le_of_ble_eq_true rfl, Nat.le_of_ble_eq_true rfl⟩) hS (fun _ _ h => Or.inl h) (fun _ h => Or.inl h) (fun _ _ h => Or.inl h) (fun E ce q9 u t H1 locs1 ht hvm hp hB hz hk hS1 hce hcv hcl => ?_) (fun r9 u t H1 locs1 ht hvm hw hB hz hk hS1 => ?_)
  · obtain ⟨⟨c9, h9, -⟩, -⟩ := hB
    cases h9
  · have hq1 : va_at D vwCl (q, .inl (cJ, 1, .inr (.inl f))) H1 := hq.kept (hk q hq.lt hnq)
    obtain ⟨h9, rfl⟩ := hw
    cases h9
    have h00 : ad 0 0 = ad 0 0 := rfl
    have hI1 := hB.1
    have hN1 := hB.2.1
    rw [ht] at hN1
    clear hB hk hz
    refine lv_i2l hx hb (v := v.toInt64) dL_pass_7 rfl ?_
    refine lg_last hx hb hKJ hq1 hN1 hI1 hnq hS1 dL_pass_8 (fun H2 locs2 hq1 hN1 hS1 => ?_)
    refine lv_goto (tgt := 18) hx hb dL_pass_9 (by decide) ?_
    refine lv_iconst (v := 0) hx hb dL_pass_18 (by decide) ?_
    exact vx_ret (W.widen (k := 2) (n := 12) (by decide) (by decide) (W.iret hx hb hr (lg_end (P := (fun f1 => f1 0 = v.toInt64)) (if_pos rfl) h00 hI1 hK hN1 hq1 hS1) (fun z hz => hS1.2.2 z hz) dL_pass_19))
set_option maxHeartbeats 4000000 in
set_option maxRecDepth 100000 in
theorem mL_pass_x1 (l : Launch) (hfl : l.stackTraces = false) (D : va_G) (G : CGT) (A : Nat → Prop) (ad : Nat → Nat → Nat) (Z : CZ) (cJ : ClassId) (q : Nat) (f : Nat → Int64) (a1 : Int32) (Zz : CZ) (h : fX6_pass a1 Z = some ((.inr 2 : Int32 ⊕ Int32), Zz)) : vx_Met l yL_pass wsL_pass rmL_pass (va_Pc [.ref (ad 0 0), .int a1, .ref q] (lP D G A ad Z cJ q f)) (lQ D G A ad 1 Zz cJ q (fun _ => True)) (fun _ _ _ => False) 2 12 (fun y => A y ∨ y = q) := by
  refine vx_ofWH (cc := cL_pass) (maxL := 4) (ret := some .int) (hh := [(0, 9, 12, 13), (0, 9, 15, 15)]) (by decide) rfl ?_
  intro p e s m args below meth c s₁ B hml hv
  obtain ⟨rfl, ⟨⟨⟨hI, hN, hK⟩, hE⟩, hF, hA⟩, hq, hKJ, hNc, hnq⟩ := hv
  have hx := B.exec
  have hb := B.bytes
  have hr := B.returns
  have hts := atoms_spec (ws := wsL_pass) B.pre
  have hown : s.vm.findClass RL = some m.cls := findClass_of_methodNamed B.named
  have hlocks := B.notSynchronized
  have l0 := hts (.classLink RL 13 "java/lang/IllegalArgumentException") (List.mem_of_getElem? (i := 1) rfl)
  have htab := vx_table (x := yL_pass) B (hts _ (List.mem_cons_self))
  have hS : va_S (fun y => A y ∨ y = q) s.heap s.heap [] := va_S.rf
  have hl := lv_entry ([.ref (ad 0 0), .int a1, .ref q]) (n := 4) (Nat.le_of_ble_eq_true rfl)
  rw [lg_entry_eq]
  generalize (lg_sl ([.ref (ad 0 0), .int a1, .ref q]) ++ List.replicate (4 - (lg_sl ([.ref (ad 0 0), .int a1, .ref q])).length) Slot.unset).toArray = ls at hl ⊢
  have hl : lv_has ls 4 [(0, .ref (ad 0 0)), (1, .int a1), (2, .ref q)] := hl
  refine lv_aload_n hx hb dL_pass_0 rfl (lv_at hl 2 rfl) ?_
  refine lv_iconst (v := 0) hx hb dL_pass_1 (by decide) ?_
  refine lv_aload_n hx hb dL_pass_2 rfl (lv_at hl 0 rfl) ?_
  refine lv_iload_n hx hb dL_pass_3 rfl (lv_at hl 1 rfl) ?_
  refine vx_calli (A0 := fun y => A y ∨ y = q) (vx_runV (As := [.int a1]) (rest := [.int 0, .ref q]) ⟨hx, hb, hml, hown, hts⟩ (mX6_pass l hfl D G A ad Z a1 (.inr 2) Zz h) (cwV 1 hts gL_pass_X6_pass rfl rfl rfl (by decide +kernel) ⟨Nat.le_of_ble_eq_true rfl, Nat.le_of_ble_eq_true rfl⟩) (xg_preV hI hK hN hE va_S.rf rfl rfl (ci := 7) rfl) rfl rfl hl.1 rfl (lv_room (Nat.le_of_ble_eq_true rfl)) dL_pass_4 ⟨Nat.le_of_ble_eq_true rfl, Nat.le_of_ble_eq_true rfl⟩) hS (fun _ _ h => Or.inl h) (fun _ h => Or.inl h) (fun _ _ h => Or.inl h) (fun E ce q9 u t H1 locs1 ht hvm hp hB hz hk hS1 hce hcv hcl => ?_) (fun r9 u t H1 locs1 ht hvm hw hB hz hk hS1 => ?_)
  · have hq1 : va_at D vwCl (q, .inl (cJ, 1, .inr (.inl f))) H1 := hq.kept (hk q hq.lt hnq)
    obtain ⟨⟨c9, h9, h8⟩, hB⟩ := hB
    cases h9
    have hE9 : E = "java/lang/IllegalArgumentException" := h8.trans (by decide)
    subst hE9
    subst hp
    have hI1 := hB.1
    have hN1 := hB.2.1
    rw [ht] at hN1
    refine vx_catch hown (name := "java/lang/IllegalArgumentException") [] ⟨0, 9, 12, 13⟩ [⟨0, 9, 15, 15⟩] htab (fun z hz => by simp at hz) (by decide) (by decide) l0 (va_Nw.use rfl (hE.1.2 _ (by decide))) hce hcv hcl ?_
    refine lv_astore_n (lv' := [(3, .ref q9), (0, .ref (ad 0 0)), (1, .int a1), (2, .ref q)]) hx hb dL_pass_12 rfl hl (by decide) rfl (fun ls hl => ?_)
    refine lv_iconst (v := 1) hx hb dL_pass_13 (by decide) ?_
    exact vx_ret (W.widen (k := 2) (n := 12) (by decide) (by decide) (W.iret hx hb hr (lg_end (P := fun _ => True) trivial rfl hI1 hK hN1 hq1 hS1) (fun z hz => hS1.2.2 z hz) dL_pass_14))
  · cases hw.1
set_option maxHeartbeats 4000000 in
set_option maxRecDepth 100000 in
theorem mL_pass_x2 (l : Launch) (hfl : l.stackTraces = false) (D : va_G) (G : CGT) (A : Nat → Prop) (ad : Nat → Nat → Nat) (Z : CZ) (cJ : ClassId) (q : Nat) (f : Nat → Int64) (a1 : Int32) (Zz : CZ) (h : fX6_pass a1 Z = some ((.inr 3 : Int32 ⊕ Int32), Zz)) : vx_Met l yL_pass wsL_pass rmL_pass (va_Pc [.ref (ad 0 0), .int a1, .ref q] (lP D G A ad Z cJ q f)) (lQ D G A ad 2 Zz cJ q (fun _ => True)) (fun _ _ _ => False) 2 12 (fun y => A y ∨ y = q) := by
  refine vx_ofWH (cc := cL_pass) (maxL := 4) (ret := some .int) (hh := [(0, 9, 12, 13), (0, 9, 15, 15)]) (by decide) rfl ?_
  intro p e s m args below meth c s₁ B hml hv
  obtain ⟨rfl, ⟨⟨⟨hI, hN, hK⟩, hE⟩, hF, hA⟩, hq, hKJ, hNc, hnq⟩ := hv
  have hx := B.exec
  have hb := B.bytes
  have hr := B.returns
  have hts := atoms_spec (ws := wsL_pass) B.pre
  have hown : s.vm.findClass RL = some m.cls := findClass_of_methodNamed B.named
  have hlocks := B.notSynchronized
  have l0 := hts (.classLink RL 13 "java/lang/IllegalArgumentException") (List.mem_of_getElem? (i := 1) rfl)
  have l1 := hts (.classLink RL 15 "java/lang/IllegalStateException") (List.mem_of_getElem? (i := 2) rfl)
  have htab := vx_table (x := yL_pass) B (hts _ (List.mem_cons_self))
  have hS : va_S (fun y => A y ∨ y = q) s.heap s.heap [] := va_S.rf
  have hl := lv_entry ([.ref (ad 0 0), .int a1, .ref q]) (n := 4) (Nat.le_of_ble_eq_true rfl)
  rw [lg_entry_eq]
  generalize (lg_sl ([.ref (ad 0 0), .int a1, .ref q]) ++ List.replicate (4 - (lg_sl ([.ref (ad 0 0), .int a1, .ref q])).length) Slot.unset).toArray = ls at hl ⊢
  have hl : lv_has ls 4 [(0, .ref (ad 0 0)), (1, .int a1), (2, .ref q)] := hl
  refine lv_aload_n hx hb dL_pass_0 rfl (lv_at hl 2 rfl) ?_
  refine lv_iconst (v := 0) hx hb dL_pass_1 (by decide) ?_
  refine lv_aload_n hx hb dL_pass_2 rfl (lv_at hl 0 rfl) ?_
  refine lv_iload_n hx hb dL_pass_3 rfl (lv_at hl 1 rfl) ?_
  refine vx_calli (A0 := fun y => A y ∨ y = q) (vx_runV (As := [.int a1]) (rest := [.int 0, .ref q]) ⟨hx, hb, hml, hown, hts⟩ (mX6_pass l hfl D G A ad Z a1 (.inr 3) Zz h) (cwV 1 hts gL_pass_X6_pass rfl rfl rfl (by decide +kernel) ⟨Nat.le_of_ble_eq_true rfl, Nat.le_of_ble_eq_true rfl⟩) (xg_preV hI hK hN hE va_S.rf rfl rfl (ci := 7) rfl) rfl rfl hl.1 rfl (lv_room (Nat.le_of_ble_eq_true rfl)) dL_pass_4 ⟨Nat.le_of_ble_eq_true rfl, Nat.le_of_ble_eq_true rfl⟩) hS (fun _ _ h => Or.inl h) (fun _ h => Or.inl h) (fun _ _ h => Or.inl h) (fun E ce q9 u t H1 locs1 ht hvm hp hB hz hk hS1 hce hcv hcl => ?_) (fun r9 u t H1 locs1 ht hvm hw hB hz hk hS1 => ?_)
  · have hq1 : va_at D vwCl (q, .inl (cJ, 1, .inr (.inl f))) H1 := hq.kept (hk q hq.lt hnq)
    obtain ⟨⟨c9, h9, h8⟩, hB⟩ := hB
    cases h9
    have hE9 : E = "java/lang/IllegalStateException" := h8.trans (by decide)
    subst hE9
    subst hp
    have hI1 := hB.1
    have hN1 := hB.2.1
    rw [ht] at hN1
    have hpass : ∀ z ∈ ([⟨0, 9, 12, 13⟩] : List ExceptionTableEntry), covers z 4 = false ∨ (z.catchType ≠ 0 ∧ ∃ nm : String, (Cond.classLink RL z.catchType nm).before (([.ref (ad 0 0), .int a1, .ref q] : List Value).toArray) s = true ∧ va_Nc "java/lang/IllegalStateException" nm s) := by
      intro z hz
      simp only [List.mem_cons, List.not_mem_nil, or_false] at hz
      rcases hz with rfl
      · exact Or.inr ⟨by decide, _, l0, hNc _ (by decide) _ (by decide) (by decide)⟩
    refine vx_catch hown (name := "java/lang/IllegalStateException") [⟨0, 9, 12, 13⟩] ⟨0, 9, 15, 15⟩ [] htab hpass (by decide) (by decide) l1 (va_Nw.use rfl (hE.1.2 _ (by decide))) hce hcv hcl ?_
    refine lv_astore_n (lv' := [(3, .ref q9), (0, .ref (ad 0 0)), (1, .int a1), (2, .ref q)]) hx hb dL_pass_15 rfl hl (by decide) rfl (fun ls hl => ?_)
    refine lv_iconst (v := 2) hx hb dL_pass_16 (by decide) ?_
    exact vx_ret (W.widen (k := 2) (n := 12) (by decide) (by decide) (W.iret hx hb hr (lg_end (P := fun _ => True) trivial rfl hI1 hK hN1 hq1 hS1) (fun z hz => hS1.2.2 z hz) dL_pass_17))
  · cases hw.1
def rmL_seat : Room := { frames := 9, cells := 2, slots := 12, locals := 164 }
set_option maxHeartbeats 4000000 in
set_option maxRecDepth 100000 in
theorem mL_seat (l : Launch) (hfl : l.stackTraces = false) (D : va_G) (G : CGT) (A : Nat → Prop) (ad : Nat → Nat → Nat) (Z : CZ) (cJ : ClassId) (q : Nat) (f : Nat → Int64) (a1 : Int32) (a2 : Int32) (v : Int32) (h : fX6_seat a1 a2 Z = some (.inl v : Int32 ⊕ Int32)) : vx_Met l yL_seat wsL_seat rmL_seat (va_Pc [.ref (ad 0 0), .int a1, .int a2, .ref q] (lP D G A ad Z cJ q f)) (lQ D G A ad 0 Z cJ q (fun f1 => f1 0 = v.toInt64)) (fun _ _ _ => False) 2 12 (fun y => A y ∨ y = q) := by
  refine vx_ofWH (cc := cL_seat) (maxL := 5) (ret := some .int) (hh := [(0, 10, 13, 21)]) (by decide) rfl ?_
  intro p e s m args below meth c s₁ B hml hv
  obtain ⟨rfl, ⟨⟨⟨hI, hN, hK⟩, hE⟩, hF, hA⟩, hq, hKJ, hNc, hnq⟩ := hv
  have hx := B.exec
  have hb := B.bytes
  have hr := B.returns
  have hts := atoms_spec (ws := wsL_seat) B.pre
  have hown : s.vm.findClass RL = some m.cls := findClass_of_methodNamed B.named
  have hlocks := B.notSynchronized
  have htab := vx_table (x := yL_seat) B (hts _ (List.mem_cons_self))
  have hS : va_S (fun y => A y ∨ y = q) s.heap s.heap [] := va_S.rf
  have hl := lv_entry ([.ref (ad 0 0), .int a1, .int a2, .ref q]) (n := 5) (Nat.le_of_ble_eq_true rfl)
  rw [lg_entry_eq]
  generalize (lg_sl ([.ref (ad 0 0), .int a1, .int a2, .ref q]) ++ List.replicate (5 - (lg_sl ([.ref (ad 0 0), .int a1, .int a2, .ref q])).length) Slot.unset).toArray = ls at hl ⊢
  have hl : lv_has ls 5 [(0, .ref (ad 0 0)), (1, .int a1), (2, .int a2), (3, .ref q)] := hl
  refine lv_aload_n hx hb dL_seat_0 rfl (lv_at hl 3 rfl) ?_
  refine lv_iconst (v := 0) hx hb dL_seat_1 (by decide) ?_
  refine lv_aload_n hx hb dL_seat_2 rfl (lv_at hl 0 rfl) ?_
  refine lv_iload_n hx hb dL_seat_3 rfl (lv_at hl 1 rfl) ?_
  refine lv_iload_n hx hb dL_seat_4 rfl (lv_at hl 2 rfl) ?_
  refine vx_calli (A0 := fun y => A y ∨ y = q) (vx_runV (As := [.int a1, .int a2]) (rest := [.int 0, .ref q]) ⟨hx, hb, hml, hown, hts⟩ (mX6_seat l hfl D G A ad Z a1 a2 (.inl v)  h) (cwV 2 hts gL_seat_X6_seat rfl rfl rfl (by decide +kernel) ⟨Nat.le_of_ble_eq_true rfl, Nat.le_of_ble_eq_true rfl⟩) (xg_preV hI hK hN hE va_S.rf rfl rfl (ci := 7) rfl) rfl rfl hl.1 rfl (lv_room (Nat.le_of_ble_eq_true rfl)) dL_seat_5 ⟨Nat.le_of_ble_eq_true rfl, Nat.le_of_ble_eq_true rfl⟩) hS (fun _ _ h => Or.inl h) (fun _ h => Or.inl h) (fun _ _ h => Or.inl h) (fun E ce q9 u t H1 locs1 ht hvm hp hB hz hk hS1 hce hcv hcl => ?_) (fun r9 u t H1 locs1 ht hvm hw hB hz hk hS1 => ?_)
  · obtain ⟨⟨c9, h9, -⟩, -⟩ := hB
    cases h9
  · have hq1 : va_at D vwCl (q, .inl (cJ, 1, .inr (.inl f))) H1 := hq.kept (hk q hq.lt hnq)
    obtain ⟨h9, rfl⟩ := hw
    cases h9
    have h00 : ad 0 0 = ad 0 0 := rfl
    have hI1 := hB.1
    have hN1 := hB.2.1
    rw [ht] at hN1
    clear hB hk hz
    refine lv_i2l hx hb (v := v.toInt64) dL_seat_8 rfl ?_
    refine lg_last hx hb hKJ hq1 hN1 hI1 hnq hS1 dL_seat_9 (fun H2 locs2 hq1 hN1 hS1 => ?_)
    refine lv_goto (tgt := 17) hx hb dL_seat_10 (by decide) ?_
    refine lv_iconst (v := 0) hx hb dL_seat_17 (by decide) ?_
    exact vx_ret (W.widen (k := 2) (n := 12) (by decide) (by decide) (W.iret hx hb hr (lg_end (P := (fun f1 => f1 0 = v.toInt64)) (if_pos rfl) h00 hI1 hK hN1 hq1 hS1) (fun z hz => hS1.2.2 z hz) dL_seat_18))
set_option maxHeartbeats 4000000 in
set_option maxRecDepth 100000 in
theorem mL_seat_x1 (l : Launch) (hfl : l.stackTraces = false) (D : va_G) (G : CGT) (A : Nat → Prop) (ad : Nat → Nat → Nat) (Z : CZ) (cJ : ClassId) (q : Nat) (f : Nat → Int64) (a1 : Int32) (a2 : Int32) (h : fX6_seat a1 a2 Z = some (.inr 1 : Int32 ⊕ Int32)) : vx_Met l yL_seat wsL_seat rmL_seat (va_Pc [.ref (ad 0 0), .int a1, .int a2, .ref q] (lP D G A ad Z cJ q f)) (lQ D G A ad 1 Z cJ q (fun _ => True)) (fun _ _ _ => False) 2 12 (fun y => A y ∨ y = q) := by
  refine vx_ofWH (cc := cL_seat) (maxL := 5) (ret := some .int) (hh := [(0, 10, 13, 21)]) (by decide) rfl ?_
  intro p e s m args below meth c s₁ B hml hv
  obtain ⟨rfl, ⟨⟨⟨hI, hN, hK⟩, hE⟩, hF, hA⟩, hq, hKJ, hNc, hnq⟩ := hv
  have hx := B.exec
  have hb := B.bytes
  have hr := B.returns
  have hts := atoms_spec (ws := wsL_seat) B.pre
  have hown : s.vm.findClass RL = some m.cls := findClass_of_methodNamed B.named
  have hlocks := B.notSynchronized
  have l0 := hts (.classLink RL 21 "java/lang/IndexOutOfBoundsException") (List.mem_of_getElem? (i := 1) rfl)
  have htab := vx_table (x := yL_seat) B (hts _ (List.mem_cons_self))
  have hS : va_S (fun y => A y ∨ y = q) s.heap s.heap [] := va_S.rf
  have hl := lv_entry ([.ref (ad 0 0), .int a1, .int a2, .ref q]) (n := 5) (Nat.le_of_ble_eq_true rfl)
  rw [lg_entry_eq]
  generalize (lg_sl ([.ref (ad 0 0), .int a1, .int a2, .ref q]) ++ List.replicate (5 - (lg_sl ([.ref (ad 0 0), .int a1, .int a2, .ref q])).length) Slot.unset).toArray = ls at hl ⊢
  have hl : lv_has ls 5 [(0, .ref (ad 0 0)), (1, .int a1), (2, .int a2), (3, .ref q)] := hl
  refine lv_aload_n hx hb dL_seat_0 rfl (lv_at hl 3 rfl) ?_
  refine lv_iconst (v := 0) hx hb dL_seat_1 (by decide) ?_
  refine lv_aload_n hx hb dL_seat_2 rfl (lv_at hl 0 rfl) ?_
  refine lv_iload_n hx hb dL_seat_3 rfl (lv_at hl 1 rfl) ?_
  refine lv_iload_n hx hb dL_seat_4 rfl (lv_at hl 2 rfl) ?_
  refine vx_calli (A0 := fun y => A y ∨ y = q) (vx_runV (As := [.int a1, .int a2]) (rest := [.int 0, .ref q]) ⟨hx, hb, hml, hown, hts⟩ (mX6_seat l hfl D G A ad Z a1 a2 (.inr 1)  h) (cwV 2 hts gL_seat_X6_seat rfl rfl rfl (by decide +kernel) ⟨Nat.le_of_ble_eq_true rfl, Nat.le_of_ble_eq_true rfl⟩) (xg_preV hI hK hN hE va_S.rf rfl rfl (ci := 7) rfl) rfl rfl hl.1 rfl (lv_room (Nat.le_of_ble_eq_true rfl)) dL_seat_5 ⟨Nat.le_of_ble_eq_true rfl, Nat.le_of_ble_eq_true rfl⟩) hS (fun _ _ h => Or.inl h) (fun _ h => Or.inl h) (fun _ _ h => Or.inl h) (fun E ce q9 u t H1 locs1 ht hvm hp hB hz hk hS1 hce hcv hcl => ?_) (fun r9 u t H1 locs1 ht hvm hw hB hz hk hS1 => ?_)
  · have hq1 : va_at D vwCl (q, .inl (cJ, 1, .inr (.inl f))) H1 := hq.kept (hk q hq.lt hnq)
    obtain ⟨⟨c9, h9, h8⟩, hB⟩ := hB
    cases h9
    have hE9 : E = "java/lang/IndexOutOfBoundsException" := h8.trans (by decide)
    subst hE9
    subst hp
    have hI1 := hB.1
    have hN1 := hB.2.1
    rw [ht] at hN1
    refine vx_catch hown (name := "java/lang/IndexOutOfBoundsException") [] ⟨0, 10, 13, 21⟩ [] htab (fun z hz => by simp at hz) (by decide) (by decide) l0 (va_Nw.use rfl (hE.1.2 _ (by decide))) hce hcv hcl ?_
    refine lv_astore (lv' := [(4, .ref q9), (0, .ref (ad 0 0)), (1, .int a1), (2, .int a2), (3, .ref q)]) hx hb dL_seat_13 hl (by decide) rfl (fun ls hl => ?_)
    refine lv_iconst (v := 1) hx hb dL_seat_15 (by decide) ?_
    exact vx_ret (W.widen (k := 2) (n := 12) (by decide) (by decide) (W.iret hx hb hr (lg_end (P := fun _ => True) trivial rfl hI1 hK hN1 hq1 hS1) (fun z hz => hS1.2.2 z hz) dL_seat_16))
  · cases hw.1
