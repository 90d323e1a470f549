section LWR
variable {p : Program} {l : Launch} {e : Env} {R : Room} {s : State} {m : MethodId} {args : Array Value} {below : List Frame} {meth : Method} {c : Code} {H : Heap} {locs : List Loc} {cells slots mc ms : Nat} {Q : State → Prop}
variable {cc : ByteArray} {pc : Nat} {ls : Array Slot} {rest st0 : List Value} {D : va_G} {G : CGT} {A : Nat → Prop} {ad ad0 : Nat → Nat → Nat} {Z Z' : CZ}
theorem lw_enda {r : Int32} (hI : cI A ad Z.2.2) (hK : cK D G s) (hN : cN D G ad Z H) (hS : va_S A s.heap H locs) (h00 : ad 0 0 = ad0 0 0) (t : State) (ht : t.heap = H) (hW : s.WarmedH t.vm) : aQi D G A ad0 (.inl r) Z args s (.returned (some (.int r))) t :=
  ⟨⟨_, (_, ad), rfl, ⟨rfl, rfl, h00⟩, hI, by rw [ht]; exact hN, hK.moved hW.alike⟩, hS.F ht⟩
theorem lg_preV {as : List Value} (hI : cI A ad Z.2.2) (hK : cK D G s) (hN : cN D G ad Z s.heap) (hE : cE A s s.heap) (hF : cF G A s s.heap) (hA : ∀ q, s.heap.size ≤ q → A q) : PreV s s.heap RX6 (ad 0 0) (va_Pc (.ref (ad 0 0) :: as) (aP D G A ad Z)) as :=
  ⟨fun a U g mk q => ⟨q.1, (xP_call (as := .ref (ad 0 0) :: as) a U g mk ⟨q.1, q.2.1⟩).2, q.2.2.1.go (s := U) (U := U.calling g mk a) va_S.rf (Vm.Alike.refl U.vm), q.2.2.2⟩, cg_recv (k := 0) (i := 0) hK hN rfl rfl (ci := 7) rfl, fun U hU hW => ⟨rfl, ⟨⟨hI, by rw [hU]; exact hN, hK.moved hW.alike⟩, by rw [hU]; exact hE.go va_S.rf hW⟩, by rw [hU]; exact hF.go va_S.rf hW.alike, fun q h => hA q (by rw [← hU]; exact h)⟩⟩
end LWR
def fL_blows (a1 : Int32) (a2 : Int32) (a3 : Int32) (a4 : Int32) (Z : CZ) : Option (Int32 × CZ) := wx (-2000000) (fX6_blow a1 a2 a3 a4 Z)
def rmL_blows : Room := { frames := 9, cells := 4, slots := 24, locals := 167 }
set_option maxHeartbeats 4000000 in
set_option maxRecDepth 100000 in
theorem mL_blows (l : Launch) (hfl : l.stackTraces = false) (D : va_G) (G : CGT) (A : Nat → Prop) (ad : Nat → Nat → Nat) (Z : CZ) (a1 : Int32) (a2 : Int32) (a3 : Int32) (a4 : Int32) (rz : Int32) (Zz : CZ) (h : fL_blows a1 a2 a3 a4 Z = some (rz, Zz)) : vx_Met l yL_blows wsL_blows rmL_blows (va_Pc [.ref (ad 0 0), .int a1, .int a2, .int a3, .int a4] (xP D G A ad Z)) (cQi D G A ad rz Zz) (fun _ _ _ => False) 4 24 A := by
  unfold fL_blows at h
  obtain ⟨ry, hy, hz⟩ : ∃ ry : Int32 ⊕ Int32, fX6_blow a1 a2 a3 a4 Z = some (ry, Zz) ∧ (ry = .inl rz ∨ (ry = .inr 3 ∧ rz = (-2000000))) := (wx_ok h).elim (fun z => ⟨_, z, Or.inl rfl⟩) (fun z => ⟨_, z.1, Or.inr ⟨rfl, z.2⟩⟩)
  refine vx_ofWH (cc := cL_blows) (maxL := 6) (ret := some .int) (hh := [(0, 9, 10, 16)]) (by decide) rfl ?_
  intro p e s m args below meth c s₁ B hml hv
  obtain ⟨rfl, ⟨hI, hN, hK⟩, hE⟩ := hv
  have hx := B.exec
  have hb := B.bytes
  have hr := B.returns
  have hts := atoms_spec (ws := wsL_blows) B.pre
  have hown : s.vm.findClass RL = some m.cls := findClass_of_methodNamed B.named
  have hlocks := B.notSynchronized
  have htab := vx_table (x := yL_blows) B (hts _ (List.mem_cons_self))
  have hS : va_S A s.heap s.heap [] := va_S.rf
  have hl := lv_entry ([.ref (ad 0 0), .int a1, .int a2, .int a3, .int a4]) (n := 6) (Nat.le_of_ble_eq_true rfl)
  rw [lg_entry_eq]
  generalize (lg_sl ([.ref (ad 0 0), .int a1, .int a2, .int a3, .int a4]) ++ List.replicate (6 - (lg_sl ([.ref (ad 0 0), .int a1, .int a2, .int a3, .int a4])).length) Slot.unset).toArray = ls at hl ⊢
  have hl : lv_has ls 6 [(0, .ref (ad 0 0)), (1, .int a1), (2, .int a2), (3, .int a3), (4, .int a4)] := hl
  refine lv_aload_n hx hb dL_blows_0 rfl (lv_at hl 0 rfl) ?_
  refine lv_iload_n hx hb dL_blows_1 rfl (lv_at hl 1 rfl) ?_
  refine lv_iload_n hx hb dL_blows_2 rfl (lv_at hl 2 rfl) ?_
  refine lv_iload_n hx hb dL_blows_3 rfl (lv_at hl 3 rfl) ?_
  refine lv_iload hx hb dL_blows_4 (lv_at hl 4 rfl) ?_
  refine vx_calli (A0 := A) (vx_runV (As := [.int a1, .int a2, .int a3, .int a4]) (rest := []) ⟨hx, hb, hml, hown, hts⟩ (mX6_blow l hfl D G A ad Z a1 a2 a3 a4 ry Zz hy) (cwV 4 hts gL_blows_X6_blow rfl rfl rfl (by decide +kernel) ⟨Nat.le_of_ble_eq_true rfl, Nat.le_of_ble_eq_true rfl⟩) (xg_preV hI hK hN hE va_S.rf rfl rfl (ci := 7) rfl) rfl rfl hl.1 rfl (lv_room (Nat.le_of_ble_eq_true rfl)) dL_blows_6 ⟨Nat.le_of_ble_eq_true rfl, Nat.le_of_ble_eq_true rfl⟩) hS (fun _ _ h => h) (fun _ h => h) (fun _ _ h => h) (fun E ce q9 u t H1 locs1 ht hvm hp hB hz9 hk hS1 hce hcv hcl => ?_) (fun r9 u t H1 locs1 ht hvm hw hB hz9 hk hS1 => ?_)
  · obtain ⟨⟨c9, h9, h8⟩, hB⟩ := hB
    obtain ⟨h7, rfl⟩ : c9 = 3 ∧ rz = (-2000000) := by
      rcases hz with z1 | ⟨z1, z2⟩
      · rw [z1] at h9; cases h9
      · rw [z1] at h9; cases h9; exact ⟨rfl, z2⟩
    subst h7
    have hE9 : E = "java/lang/IllegalStateException" := h8.trans (by decide)
    subst hE9
    subst hp
    have hI1 := hB.1
    have hN1 := hB.2.1
    rw [ht] at hN1
    refine vx_catch hown (name := "java/lang/IllegalStateException") [] ⟨0, 9, 10, 16⟩ [] htab (fun z hz => by simp at hz) (by decide) (by decide) (hts (.classLink RL 16 "java/lang/IllegalStateException") (List.mem_of_getElem? (i := 1) rfl)) (va_Nw.use rfl (hE.1.2 _ (by decide))) hce hcv hcl ?_
    refine lv_astore (lv' := [(5, .ref q9), (0, .ref (ad 0 0)), (1, .int a1), (2, .int a2), (3, .int a3), (4, .int a4)]) hx hb dL_blows_10 hl (by decide) rfl (fun ls hl => ?_)
    refine lv_ldc (v := (-2000000)) hx hb hown (hts (.constant RL 18 (-2000000)) (List.mem_of_getElem? (i := 2) rfl)) dL_blows_12 ?_
    exact vx_ret (W.widen (k := 4) (n := 24) (by decide) (by decide) (W.iret hx hb hr (cg_endi rfl hI1 hK hN1 hS1) (fun z hz => hS1.2.2 z hz) dL_blows_14))
  · obtain ⟨h9, rfl⟩ := hw
    have h7 := hz.resolve_right (fun z => by rw [z.1] at h9; cases h9)
    rw [h7] at h9
    cases h9
    have hI1 := hB.1
    have hN1 := hB.2.1
    rw [ht] at hN1
    exact vx_ret (W.widen (k := 4) (n := 24) (by decide) (by decide) (W.iret hx hb hr (cg_endi rfl hI1 hK hN1 hS1) (fun z hz => hS1.2.2 z hz) dL_blows_9))
def fL_blows_n (a1 : Int32) (a2 : Int32) (a3 : Int32) (a4 : Int32) (Z : CZ) : Option (Int32 × CZ) := fX6_blow_n a1 a2 a3 a4 Z
def rmL_blows_n : Room := { frames := 6, cells := 0, slots := 0, locals := 140 }
set_option maxHeartbeats 4000000 in
set_option maxRecDepth 100000 in
theorem mL_blows_n (l : Launch) (hfl : l.stackTraces = false) (D : va_G) (G : CGT) (A : Nat → Prop) (ad : Nat → Nat → Nat) (Z : CZ) (a1 : Int32) (a2 : Int32) (a3 : Int32) (a4 : Int32) (rz : Int32) (Zz : CZ) (h : fL_blows_n a1 a2 a3 a4 Z = some (rz, Zz)) : vx_Met l yL_blows wsL_blows rmL_blows_n (va_Pc [.ref (ad 0 0), .int a1, .int a2, .int a3, .int a4] (xP D G A ad Z)) (cQi D G A ad rz Zz) (fun _ _ _ => False) 0 0 A := by
  unfold fL_blows_n at h
  refine vx_ofWH (cc := cL_blows) (maxL := 6) (ret := some .int) (hh := [(0, 9, 10, 16)]) (by decide) rfl ?_
  intro p e s m args below meth c s₁ B hml hv
  obtain ⟨rfl, ⟨hI, hN, hK⟩, hE⟩ := hv
  have hx := B.exec
  have hb := B.bytes
  have hr := B.returns
  have hts := atoms_spec (ws := wsL_blows) B.pre
  have hown : s.vm.findClass RL = some m.cls := findClass_of_methodNamed B.named
  have hlocks := B.notSynchronized
  have htab := vx_table (x := yL_blows) B (hts _ (List.mem_cons_self))
  have hS : va_S A s.heap s.heap [] := va_S.rf
  have hl := lv_entry ([.ref (ad 0 0), .int a1, .int a2, .int a3, .int a4]) (n := 6) (Nat.le_of_ble_eq_true rfl)
  rw [lg_entry_eq]
  generalize (lg_sl ([.ref (ad 0 0), .int a1, .int a2, .int a3, .int a4]) ++ List.replicate (6 - (lg_sl ([.ref (ad 0 0), .int a1, .int a2, .int a3, .int a4])).length) Slot.unset).toArray = ls at hl ⊢
  have hl : lv_has ls 6 [(0, .ref (ad 0 0)), (1, .int a1), (2, .int a2), (3, .int a3), (4, .int a4)] := hl
  refine lv_aload_n hx hb dL_blows_0 rfl (lv_at hl 0 rfl) ?_
  refine lv_iload_n hx hb dL_blows_1 rfl (lv_at hl 1 rfl) ?_
  refine lv_iload_n hx hb dL_blows_2 rfl (lv_at hl 2 rfl) ?_
  refine lv_iload_n hx hb dL_blows_3 rfl (lv_at hl 3 rfl) ?_
  refine lv_iload hx hb dL_blows_4 (lv_at hl 4 rfl) ?_
  refine cg_calli (va_runV (As := [.int a1, .int a2, .int a3, .int a4]) (rest := []) ⟨hx, hb, hml, hown, hts⟩ (mX6_blow_n l D G A ad Z a1 a2 a3 a4 rz Zz h) (cwV 4 hts gL_blows_X6_blow rfl rfl rfl (by decide +kernel) ⟨Nat.le_of_ble_eq_true rfl, Nat.le_of_ble_eq_true rfl⟩) (cg_preV hI hK hN rfl rfl (ci := 7) rfl) rfl rfl hl.1 rfl (lv_room (Nat.le_of_ble_eq_true rfl)) dL_blows_6 ⟨Nat.le_of_ble_eq_true rfl, Nat.le_of_ble_eq_true rfl⟩) hS (fun H locs hI hN hS => ?_)
  exact vx_ret (W.iret hx hb hr (cg_endi rfl hI hK hN hS) (fun z hz => hS.2.2 z hz) dL_blows_9)
def fL_gives (a1 : Int32) (a2 : Int32) (Z : CZ) : Option (Int32 × CZ) := wv (fX6_give a1 a2 Z)
def rmL_gives : Room := { frames := 9, cells := 3, slots := 18, locals := 166 }
set_option maxHeartbeats 4000000 in
set_option maxRecDepth 100000 in
theorem mL_gives (l : Launch) (hfl : l.stackTraces = false) (D : va_G) (G : CGT) (A : Nat → Prop) (ad : Nat → Nat → Nat) (Z : CZ) (a1 : Int32) (a2 : Int32) (rz : Int32) (Zz : CZ) (h : fL_gives a1 a2 Z = some (rz, Zz)) : vx_Met l yL_gives wsL_gives rmL_gives (va_Pc [.ref (ad 0 0), .int a1, .int a2] (xP D G A ad Z)) (cQi D G A ad rz Zz) (fun _ _ _ => False) 3 18 A := by
  unfold fL_gives at h
  obtain ⟨ry, hy, hz⟩ : ∃ ry : Unit ⊕ Int32, fX6_give a1 a2 Z = some (ry, Zz) ∧ ((ry = .inl () ∧ rz = 1) ∨ (ry = .inr 3 ∧ rz = 0)) := (wv_ok h).elim (fun z => ⟨_, z.1, Or.inl ⟨rfl, z.2⟩⟩) (fun z => ⟨_, z.1, Or.inr ⟨rfl, z.2⟩⟩)
  refine vx_ofWH (cc := cL_gives) (maxL := 4) (ret := some .boolean) (hh := [(0, 7, 8, 16)]) (by decide) rfl ?_
  intro p e s m args below meth c s₁ B hml hv
  obtain ⟨rfl, ⟨hI, hN, hK⟩, hE⟩ := hv
  have hx := B.exec
  have hb := B.bytes
  have hr := B.returns
  have hts := atoms_spec (ws := wsL_gives) B.pre
  have hown : s.vm.findClass RL = some m.cls := findClass_of_methodNamed B.named
  have hlocks := B.notSynchronized
  have htab := vx_table (x := yL_gives) B (hts _ (List.mem_cons_self))
  have hS : va_S A s.heap s.heap [] := va_S.rf
  have hl := lv_entry ([.ref (ad 0 0), .int a1, .int a2]) (n := 4) (Nat.le_of_ble_eq_true rfl)
  rw [lg_entry_eq]
  generalize (lg_sl ([.ref (ad 0 0), .int a1, .int a2]) ++ List.replicate (4 - (lg_sl ([.ref (ad 0 0), .int a1, .int a2])).length) Slot.unset).toArray = ls at hl ⊢
  have hl : lv_has ls 4 [(0, .ref (ad 0 0)), (1, .int a1), (2, .int a2)] := hl
  refine lv_aload_n hx hb dL_gives_0 rfl (lv_at hl 0 rfl) ?_
  refine lv_iload_n hx hb dL_gives_1 rfl (lv_at hl 1 rfl) ?_
  refine lv_iload_n hx hb dL_gives_2 rfl (lv_at hl 2 rfl) ?_
  refine vx_callv (A0 := A) (vx_runV (As := [.int a1, .int a2]) (rest := []) ⟨hx, hb, hml, hown, hts⟩ (mX6_give l hfl D G A ad Z a1 a2 ry Zz hy) (cwV 2 hts gL_gives_X6_give rfl rfl rfl (by decide +kernel) ⟨Nat.le_of_ble_eq_true rfl, Nat.le_of_ble_eq_true rfl⟩) (xg_preV hI hK hN hE va_S.rf rfl rfl (ci := 7) rfl) rfl rfl hl.1 rfl (lv_room (Nat.le_of_ble_eq_true rfl)) dL_gives_3 ⟨Nat.le_of_ble_eq_true rfl, Nat.le_of_ble_eq_true rfl⟩) hS (fun _ _ h => h) (fun _ h => h) (fun _ _ h => h) (fun E ce q9 u t H1 locs1 ht hvm hp hB hz9 hk hS1 hce hcv hcl => ?_) (fun u t H1 locs1 ht hvm hw hB hz9 hk hS1 => ?_)
  · obtain ⟨⟨c9, h9, h8⟩, hB⟩ := hB
    obtain ⟨h7, rfl⟩ : c9 = 3 ∧ rz = 0 := by
      rcases hz with ⟨z1, z2⟩ | ⟨z1, z2⟩
      · rw [z1] at h9; cases h9
      · rw [z1] at h9; cases h9; exact ⟨rfl, z2⟩
    subst h7
    have hE9 : E = "java/lang/IllegalStateException" := h8.trans (by decide)
    subst hE9
    subst hp
    have hI1 := hB.1
    have hN1 := hB.2.1
    rw [ht] at hN1
    refine vx_catch hown (name := "java/lang/IllegalStateException") [] ⟨0, 7, 8, 16⟩ [] htab (fun z hz => by simp at hz) (by decide) (by decide) (hts (.classLink RL 16 "java/lang/IllegalStateException") (List.mem_of_getElem? (i := 1) rfl)) (va_Nw.use rfl (hE.1.2 _ (by decide))) hce hcv hcl ?_
    refine lv_astore_n (lv' := [(3, .ref q9), (0, .ref (ad 0 0)), (1, .int a1), (2, .int a2)]) hx hb dL_gives_8 rfl hl (by decide) rfl (fun ls hl => ?_)
    refine lv_iconst (v := 0) hx hb dL_gives_9 (by decide) ?_
    exact vx_ret (W.widen (k := 3) (n := 18) (by decide) (by decide) (W.zret hx hb hr rfl (cg_endi rfl hI1 hK hN1 hS1) (fun z hz => hS1.2.2 z hz) dL_gives_10))
  · obtain ⟨h9, rfl⟩ := hw
    obtain ⟨-, rfl⟩ := hz.resolve_right (fun z => by rw [z.1] at h9; cases h9)
    have hI1 := hB.1
    have hN1 := hB.2.1
    rw [ht] at hN1
    refine lv_iconst (v := 1) hx hb dL_gives_6 (by decide) ?_
    exact vx_ret (W.widen (k := 3) (n := 18) (by decide) (by decide) (W.zret hx hb hr rfl (cg_endi rfl hI1 hK hN1 hS1) (fun z hz => hS1.2.2 z hz) dL_gives_7))
noncomputable def fL_acts0 (a1 : Int32) (a2 : Int32) (Z : CZ) : Option (Int32 × CZ) := wx (-200) (fX6_join a1 a2 Z)
def rmL_acts0 : Room := { frames := 9, cells := 14, slots := 84, locals := 305 }
set_option maxHeartbeats 4000000 in
set_option maxRecDepth 100000 in
theorem mL_acts0 (l : Launch) (hfl : l.stackTraces = false) (D : va_G) (G : CGT) (A : Nat → Prop) (ad : Nat → Nat → Nat) (Z : CZ) (a1 : Int32) (a2 : Int32) (rz : Int32) (Zz : CZ) (h : fL_acts0 a1 a2 Z = some (rz, Zz)) : vx_Met l yL_acts wsL_acts rmL_acts0 (va_Pc [.ref (ad 0 0), .int a1, .int a2, .int 0] (aP D G A ad Z)) (aQi D G A ad (.inl rz) Zz) (fun _ _ _ => False) 14 84 A := by
  unfold fL_acts0 at h
  obtain ⟨ry, hy, hz⟩ : ∃ ry : Int32 ⊕ Int32, fX6_join a1 a2 Z = some (ry, Zz) ∧ (ry = .inl rz ∨ (ry = .inr 3 ∧ rz = (-200))) := (wx_ok h).elim (fun z => ⟨_, z, Or.inl rfl⟩) (fun z => ⟨_, z.1, Or.inr ⟨rfl, z.2⟩⟩)
  refine vx_ofWH (cc := cL_acts) (maxL := 5) (ret := some .int) (hh := [(0, 87, 88, 16)]) (by decide) rfl ?_
  intro p e s m args below meth c s₁ B hml hv
  obtain ⟨rfl, ⟨⟨hI, hN, hK⟩, hE⟩, hF, hA⟩ := hv
  have hx := B.exec
  have hb := B.bytes
  have hr := B.returns
  have hts := atoms_spec (ws := wsL_acts) B.pre
  have hown : s.vm.findClass RL = some m.cls := findClass_of_methodNamed B.named
  have hlocks := B.notSynchronized
  have htab := vx_table (x := yL_acts) B (hts _ (List.mem_cons_self))
  have hS : va_S A s.heap s.heap [] := va_S.rf
  have hl := lv_entry ([.ref (ad 0 0), .int a1, .int a2, .int 0]) (n := 5) (Nat.le_of_ble_eq_true rfl)
  rw [lg_entry_eq]
  generalize (lg_sl ([.ref (ad 0 0), .int a1, .int a2, .int 0]) ++ List.replicate (5 - (lg_sl ([.ref (ad 0 0), .int a1, .int a2, .int 0])).length) Slot.unset).toArray = ls at hl ⊢
  have hl : lv_has ls 5 [(0, .ref (ad 0 0)), (1, .int a1), (2, .int a2), (3, .int 0)] := hl
  refine lv_iload_n hx hb dL_acts_0 rfl (lv_at hl 3 rfl) ?_
  refine lv_if_ne (tgt := 13) hx hb dL_acts_1 (by decide) (fun hc => absurd rfl hc) (fun _ => ?_)
  refine lv_aload_n hx hb dL_acts_4 rfl (lv_at hl 0 rfl) ?_
  refine lv_iload_n hx hb dL_acts_5 rfl (lv_at hl 1 rfl) ?_
  refine lv_iload_n hx hb dL_acts_6 rfl (lv_at hl 2 rfl) ?_
  refine vx_calli (A0 := A) (vx_runV (As := [.int a1, .int a2]) (rest := []) ⟨hx, hb, hml, hown, hts⟩ (mX6_join l hfl D G A ad Z a1 a2 ry Zz hy) (cwV 2 hts gL_acts_X6_join rfl rfl rfl (by decide +kernel) ⟨Nat.le_of_ble_eq_true rfl, Nat.le_of_ble_eq_true rfl⟩) (lg_preV hI hK hN hE hF hA) rfl rfl hl.1 rfl (lv_room (Nat.le_of_ble_eq_true rfl)) dL_acts_7 ⟨Nat.le_of_ble_eq_true rfl, Nat.le_of_ble_eq_true rfl⟩) hS (fun _ _ h => h) (fun _ h => h) (fun _ _ h => h) (fun E ce q9 u t H1 locs1 ht hvm hp hB hz9 hk hS1 hce hcv hcl => ?_) (fun r9 u t H1 locs1 ht hvm hw hB hz9 hk hS1 => ?_)
  · obtain ⟨⟨c9, h9, h8⟩, hB⟩ := hB
    obtain ⟨h7, rfl⟩ : c9 = 3 ∧ rz = (-200) := by
      rcases hz with z1 | ⟨z1, z2⟩
      · rw [z1] at h9; cases h9
      · rw [z1] at h9; cases h9; exact ⟨rfl, z2⟩
    subst h7
    have hE9 : E = "java/lang/IllegalStateException" := h8.trans (by decide)
    subst hE9
    subst hp
    have hI1 := hB.1
    have hN1 := hB.2.1
    rw [ht] at hN1
    refine vx_catch hown (name := "java/lang/IllegalStateException") [] ⟨0, 87, 88, 16⟩ [] htab (fun z hz => by simp at hz) (by decide) (by decide) (hts (.classLink RL 16 "java/lang/IllegalStateException") (List.mem_of_getElem? (i := 1) rfl)) (va_Nw.use rfl (hE.1.2 _ (by decide))) hce hcv hcl ?_
    refine lv_astore (lv' := [(4, .ref q9), (0, .ref (ad 0 0)), (1, .int a1), (2, .int a2), (3, .int 0)]) hx hb dL_acts_88 hl (by decide) rfl (fun ls hl => ?_)
    refine lv_sipush (v := (-200)) hx hb dL_acts_90 (by decide) ?_
    exact vx_ret (W.widen (k := 14) (n := 84) (by decide) (by decide) (W.iret hx hb hr (lw_enda hI1 hK hN1 hS1 rfl) (fun z hz => hS1.2.2 z hz) dL_acts_93))
  · obtain ⟨u1, ad1⟩ := u
    obtain ⟨h9, rfl, h00⟩ := hw
    have h7 := hz.resolve_right (fun z => by rw [z.1] at h9; cases h9)
    rw [h7] at h9
    cases h9
    have hI1 := hB.1
    have hN1 := hB.2.1
    rw [ht] at hN1
    refine lv_goto (tgt := 87) hx hb dL_acts_10 (by decide) ?_
    exact vx_ret (W.widen (k := 14) (n := 84) (by decide) (by decide) (W.iret hx hb hr (lw_enda hI1 hK hN1 hS1 h00) (fun z hz => hS1.2.2 z hz) dL_acts_87))
noncomputable def fL_acts1 (a1 : Int32) (a2 : Int32) (Z : CZ) : Option (Int32 × CZ) := wx (-200) (fX6_leave a1 a2 Z)
def rmL_acts1 : Room := { frames := 9, cells := 3, slots := 18, locals := 167 }
set_option maxHeartbeats 4000000 in
set_option maxRecDepth 100000 in
theorem mL_acts1 (l : Launch) (hfl : l.stackTraces = false) (D : va_G) (G : CGT) (A : Nat → Prop) (ad : Nat → Nat → Nat) (Z : CZ) (a1 : Int32) (a2 : Int32) (rz : Int32) (Zz : CZ) (h : fL_acts1 a1 a2 Z = some (rz, Zz)) : vx_Met l yL_acts wsL_acts rmL_acts1 (va_Pc [.ref (ad 0 0), .int a1, .int a2, .int 1] (xP D G A ad Z)) (cQi D G A ad rz Zz) (fun _ _ _ => False) 3 18 A := by
  unfold fL_acts1 at h
  obtain ⟨ry, hy, hz⟩ : ∃ ry : Int32 ⊕ Int32, fX6_leave a1 a2 Z = some (ry, Zz) ∧ (ry = .inl rz ∨ (ry = .inr 3 ∧ rz = (-200))) := (wx_ok h).elim (fun z => ⟨_, z, Or.inl rfl⟩) (fun z => ⟨_, z.1, Or.inr ⟨rfl, z.2⟩⟩)
  refine vx_ofWH (cc := cL_acts) (maxL := 5) (ret := some .int) (hh := [(0, 87, 88, 16)]) (by decide) rfl ?_
  intro p e s m args below meth c s₁ B hml hv
  obtain ⟨rfl, ⟨hI, hN, hK⟩, hE⟩ := hv
  have hx := B.exec
  have hb := B.bytes
  have hr := B.returns
  have hts := atoms_spec (ws := wsL_acts) B.pre
  have hown : s.vm.findClass RL = some m.cls := findClass_of_methodNamed B.named
  have hlocks := B.notSynchronized
  have htab := vx_table (x := yL_acts) B (hts _ (List.mem_cons_self))
  have hS : va_S A s.heap s.heap [] := va_S.rf
  have hl := lv_entry ([.ref (ad 0 0), .int a1, .int a2, .int 1]) (n := 5) (Nat.le_of_ble_eq_true rfl)
  rw [lg_entry_eq]
  generalize (lg_sl ([.ref (ad 0 0), .int a1, .int a2, .int 1]) ++ List.replicate (5 - (lg_sl ([.ref (ad 0 0), .int a1, .int a2, .int 1])).length) Slot.unset).toArray = ls at hl ⊢
  have hl : lv_has ls 5 [(0, .ref (ad 0 0)), (1, .int a1), (2, .int a2), (3, .int 1)] := hl
  refine lv_iload_n hx hb dL_acts_0 rfl (lv_at hl 3 rfl) ?_
  refine lv_if_ne (tgt := 13) hx hb dL_acts_1 (by decide) (fun _ => ?_) (fun hc => absurd hc (by decide))
  refine lv_iload_n hx hb dL_acts_13 rfl (lv_at hl 3 rfl) ?_
  refine lv_iconst (v := 1) hx hb dL_acts_14 (by decide) ?_
  refine lv_icmp_ne (tgt := 27) hx hb dL_acts_15 (by decide) (fun hc => absurd rfl hc) (fun _ => ?_)
  refine lv_aload_n hx hb dL_acts_18 rfl (lv_at hl 0 rfl) ?_
  refine lv_iload_n hx hb dL_acts_19 rfl (lv_at hl 1 rfl) ?_
  refine lv_iload_n hx hb dL_acts_20 rfl (lv_at hl 2 rfl) ?_
  refine vx_calli (A0 := A) (vx_runV (As := [.int a1, .int a2]) (rest := []) ⟨hx, hb, hml, hown, hts⟩ (mX6_leave l hfl D G A ad Z a1 a2 ry Zz hy) (cwV 2 hts gL_acts_X6_leave rfl rfl rfl (by decide +kernel) ⟨Nat.le_of_ble_eq_true rfl, Nat.le_of_ble_eq_true rfl⟩) (xg_preV hI hK hN hE va_S.rf rfl rfl (ci := 7) rfl) rfl rfl hl.1 rfl (lv_room (Nat.le_of_ble_eq_true rfl)) dL_acts_21 ⟨Nat.le_of_ble_eq_true rfl, Nat.le_of_ble_eq_true rfl⟩) hS (fun _ _ h => h) (fun _ h => h) (fun _ _ h => h) (fun E ce q9 u t H1 locs1 ht hvm hp hB hz9 hk hS1 hce hcv hcl => ?_) (fun r9 u t H1 locs1 ht hvm hw hB hz9 hk hS1 => ?_)
  · obtain ⟨⟨c9, h9, h8⟩, hB⟩ := hB
    obtain ⟨h7, rfl⟩ : c9 = 3 ∧ rz = (-200) := by
      rcases hz with z1 | ⟨z1, z2⟩
      · rw [z1] at h9; cases h9
      · rw [z1] at h9; cases h9; exact ⟨rfl, z2⟩
    subst h7
    have hE9 : E = "java/lang/IllegalStateException" := h8.trans (by decide)
    subst hE9
    subst hp
    have hI1 := hB.1
    have hN1 := hB.2.1
    rw [ht] at hN1
    refine vx_catch hown (name := "java/lang/IllegalStateException") [] ⟨0, 87, 88, 16⟩ [] htab (fun z hz => by simp at hz) (by decide) (by decide) (hts (.classLink RL 16 "java/lang/IllegalStateException") (List.mem_of_getElem? (i := 1) rfl)) (va_Nw.use rfl (hE.1.2 _ (by decide))) hce hcv hcl ?_
    refine lv_astore (lv' := [(4, .ref q9), (0, .ref (ad 0 0)), (1, .int a1), (2, .int a2), (3, .int 1)]) hx hb dL_acts_88 hl (by decide) rfl (fun ls hl => ?_)
    refine lv_sipush (v := (-200)) hx hb dL_acts_90 (by decide) ?_
    exact vx_ret (W.widen (k := 3) (n := 18) (by decide) (by decide) (W.iret hx hb hr (cg_endi rfl hI1 hK hN1 hS1) (fun z hz => hS1.2.2 z hz) dL_acts_93))
  · obtain ⟨h9, rfl⟩ := hw
    have h7 := hz.resolve_right (fun z => by rw [z.1] at h9; cases h9)
    rw [h7] at h9
    cases h9
    have hI1 := hB.1
    have hN1 := hB.2.1
    rw [ht] at hN1
    refine lv_goto (tgt := 87) hx hb dL_acts_24 (by decide) ?_
    exact vx_ret (W.widen (k := 3) (n := 18) (by decide) (by decide) (W.iret hx hb hr (cg_endi rfl hI1 hK hN1 hS1) (fun z hz => hS1.2.2 z hz) dL_acts_87))
def fL_acts2 (a1 : Int32) (a2 : Int32) (Z : CZ) : Option (Int32 × CZ) := wx (-200) (fX6_takeBack a1 Z)
def rmL_acts2 : Room := { frames := 9, cells := 2, slots := 12, locals := 165 }
set_option maxHeartbeats 4000000 in
set_option maxRecDepth 100000 in
theorem mL_acts2 (l : Launch) (hfl : l.stackTraces = false) (D : va_G) (G : CGT) (A : Nat → Prop) (ad : Nat → Nat → Nat) (Z : CZ) (a1 : Int32) (a2 : Int32) (rz : Int32) (Zz : CZ) (h : fL_acts2 a1 a2 Z = some (rz, Zz)) : vx_Met l yL_acts wsL_acts rmL_acts2 (va_Pc [.ref (ad 0 0), .int a1, .int a2, .int 2] (xP D G A ad Z)) (cQi D G A ad rz Zz) (fun _ _ _ => False) 2 12 A := by
  unfold fL_acts2 at h
  obtain ⟨ry, hy, hz⟩ : ∃ ry : Int32 ⊕ Int32, fX6_takeBack a1 Z = some (ry, Zz) ∧ (ry = .inl rz ∨ (ry = .inr 3 ∧ rz = (-200))) := (wx_ok h).elim (fun z => ⟨_, z, Or.inl rfl⟩) (fun z => ⟨_, z.1, Or.inr ⟨rfl, z.2⟩⟩)
  refine vx_ofWH (cc := cL_acts) (maxL := 5) (ret := some .int) (hh := [(0, 87, 88, 16)]) (by decide) rfl ?_
  intro p e s m args below meth c s₁ B hml hv
  obtain ⟨rfl, ⟨hI, hN, hK⟩, hE⟩ := hv
  have hx := B.exec
  have hb := B.bytes
  have hr := B.returns
  have hts := atoms_spec (ws := wsL_acts) B.pre
  have hown : s.vm.findClass RL = some m.cls := findClass_of_methodNamed B.named
  have hlocks := B.notSynchronized
  have htab := vx_table (x := yL_acts) B (hts _ (List.mem_cons_self))
  have hS : va_S A s.heap s.heap [] := va_S.rf
  have hl := lv_entry ([.ref (ad 0 0), .int a1, .int a2, .int 2]) (n := 5) (Nat.le_of_ble_eq_true rfl)
  rw [lg_entry_eq]
  generalize (lg_sl ([.ref (ad 0 0), .int a1, .int a2, .int 2]) ++ List.replicate (5 - (lg_sl ([.ref (ad 0 0), .int a1, .int a2, .int 2])).length) Slot.unset).toArray = ls at hl ⊢
  have hl : lv_has ls 5 [(0, .ref (ad 0 0)), (1, .int a1), (2, .int a2), (3, .int 2)] := hl
  refine lv_iload_n hx hb dL_acts_0 rfl (lv_at hl 3 rfl) ?_
  refine lv_if_ne (tgt := 13) hx hb dL_acts_1 (by decide) (fun _ => ?_) (fun hc => absurd hc (by decide))
  refine lv_iload_n hx hb dL_acts_13 rfl (lv_at hl 3 rfl) ?_
  refine lv_iconst (v := 1) hx hb dL_acts_14 (by decide) ?_
  refine lv_icmp_ne (tgt := 27) hx hb dL_acts_15 (by decide) (fun _ => ?_) (fun hc => absurd hc (by decide))
  refine lv_iload_n hx hb dL_acts_27 rfl (lv_at hl 3 rfl) ?_
  refine lv_iconst (v := 2) hx hb dL_acts_28 (by decide) ?_
  refine lv_icmp_ne (tgt := 40) hx hb dL_acts_29 (by decide) (fun hc => absurd rfl hc) (fun _ => ?_)
  refine lv_aload_n hx hb dL_acts_32 rfl (lv_at hl 0 rfl) ?_
  refine lv_iload_n hx hb dL_acts_33 rfl (lv_at hl 1 rfl) ?_
  refine vx_calli (A0 := A) (vx_runV (As := [.int a1]) (rest := []) ⟨hx, hb, hml, hown, hts⟩ (mX6_takeBack l hfl D G A ad Z a1 ry Zz hy) (cwV 1 hts gL_acts_X6_takeBack rfl rfl rfl (by decide +kernel) ⟨Nat.le_of_ble_eq_true rfl, Nat.le_of_ble_eq_true rfl⟩) (xg_preV hI hK hN hE va_S.rf rfl rfl (ci := 7) rfl) rfl rfl hl.1 rfl (lv_room (Nat.le_of_ble_eq_true rfl)) dL_acts_34 ⟨Nat.le_of_ble_eq_true rfl, Nat.le_of_ble_eq_true rfl⟩) hS (fun _ _ h => h) (fun _ h => h) (fun _ _ h => h) (fun E ce q9 u t H1 locs1 ht hvm hp hB hz9 hk hS1 hce hcv hcl => ?_) (fun r9 u t H1 locs1 ht hvm hw hB hz9 hk hS1 => ?_)
  · obtain ⟨⟨c9, h9, h8⟩, hB⟩ := hB
    obtain ⟨h7, rfl⟩ : c9 = 3 ∧ rz = (-200) := by
      rcases hz with z1 | ⟨z1, z2⟩
      · rw [z1] at h9; cases h9
      · rw [z1] at h9; cases h9; exact ⟨rfl, z2⟩
    subst h7
    have hE9 : E = "java/lang/IllegalStateException" := h8.trans (by decide)
    subst hE9
    subst hp
    have hI1 := hB.1
    have hN1 := hB.2.1
    rw [ht] at hN1
    refine vx_catch hown (name := "java/lang/IllegalStateException") [] ⟨0, 87, 88, 16⟩ [] htab (fun z hz => by simp at hz) (by decide) (by decide) (hts (.classLink RL 16 "java/lang/IllegalStateException") (List.mem_of_getElem? (i := 1) rfl)) (va_Nw.use rfl (hE.1.2 _ (by decide))) hce hcv hcl ?_
    refine lv_astore (lv' := [(4, .ref q9), (0, .ref (ad 0 0)), (1, .int a1), (2, .int a2), (3, .int 2)]) hx hb dL_acts_88 hl (by decide) rfl (fun ls hl => ?_)
    refine lv_sipush (v := (-200)) hx hb dL_acts_90 (by decide) ?_
    exact vx_ret (W.widen (k := 2) (n := 12) (by decide) (by decide) (W.iret hx hb hr (cg_endi rfl hI1 hK hN1 hS1) (fun z hz => hS1.2.2 z hz) dL_acts_93))
  · obtain ⟨h9, rfl⟩ := hw
    have h7 := hz.resolve_right (fun z => by rw [z.1] at h9; cases h9)
    rw [h7] at h9
    cases h9
    have hI1 := hB.1
    have hN1 := hB.2.1
    rw [ht] at hN1
    refine lv_goto (tgt := 87) hx hb dL_acts_37 (by decide) ?_
    exact vx_ret (W.widen (k := 2) (n := 12) (by decide) (by decide) (W.iret hx hb hr (cg_endi rfl hI1 hK hN1 hS1) (fun z hz => hS1.2.2 z hz) dL_acts_87))
def fL_acts3 (a1 : Int32) (a2 : Int32) (Z : CZ) : Option (Int32 × CZ) := wx (-200) (fX6_drill a1 a2 Z)
def rmL_acts3 : Room := { frames := 9, cells := 3, slots := 18, locals := 165 }
set_option maxHeartbeats 4000000 in
set_option maxRecDepth 100000 in
theorem mL_acts3 (l : Launch) (hfl : l.stackTraces = false) (D : va_G) (G : CGT) (A : Nat → Prop) (ad : Nat → Nat → Nat) (Z : CZ) (a1 : Int32) (a2 : Int32) (rz : Int32) (Zz : CZ) (h : fL_acts3 a1 a2 Z = some (rz, Zz)) : vx_Met l yL_acts wsL_acts rmL_acts3 (va_Pc [.ref (ad 0 0), .int a1, .int a2, .int 3] (xP D G A ad Z)) (cQi D G A ad rz Zz) (fun _ _ _ => False) 3 18 A := by
  unfold fL_acts3 at h
  obtain ⟨ry, hy, hz⟩ : ∃ ry : Int32 ⊕ Int32, fX6_drill a1 a2 Z = some (ry, Zz) ∧ (ry = .inl rz ∨ (ry = .inr 3 ∧ rz = (-200))) := (wx_ok h).elim (fun z => ⟨_, z, Or.inl rfl⟩) (fun z => ⟨_, z.1, Or.inr ⟨rfl, z.2⟩⟩)
  refine vx_ofWH (cc := cL_acts) (maxL := 5) (ret := some .int) (hh := [(0, 87, 88, 16)]) (by decide) rfl ?_
  intro p e s m args below meth c s₁ B hml hv
  obtain ⟨rfl, ⟨hI, hN, hK⟩, hE⟩ := hv
  have hx := B.exec
  have hb := B.bytes
  have hr := B.returns
  have hts := atoms_spec (ws := wsL_acts) B.pre
  have hown : s.vm.findClass RL = some m.cls := findClass_of_methodNamed B.named
  have hlocks := B.notSynchronized
  have htab := vx_table (x := yL_acts) B (hts _ (List.mem_cons_self))
  have hS : va_S A s.heap s.heap [] := va_S.rf
  have hl := lv_entry ([.ref (ad 0 0), .int a1, .int a2, .int 3]) (n := 5) (Nat.le_of_ble_eq_true rfl)
  rw [lg_entry_eq]
  generalize (lg_sl ([.ref (ad 0 0), .int a1, .int a2, .int 3]) ++ List.replicate (5 - (lg_sl ([.ref (ad 0 0), .int a1, .int a2, .int 3])).length) Slot.unset).toArray = ls at hl ⊢
  have hl : lv_has ls 5 [(0, .ref (ad 0 0)), (1, .int a1), (2, .int a2), (3, .int 3)] := hl
  refine lv_iload_n hx hb dL_acts_0 rfl (lv_at hl 3 rfl) ?_
  refine lv_if_ne (tgt := 13) hx hb dL_acts_1 (by decide) (fun _ => ?_) (fun hc => absurd hc (by decide))
  refine lv_iload_n hx hb dL_acts_13 rfl (lv_at hl 3 rfl) ?_
  refine lv_iconst (v := 1) hx hb dL_acts_14 (by decide) ?_
  refine lv_icmp_ne (tgt := 27) hx hb dL_acts_15 (by decide) (fun _ => ?_) (fun hc => absurd hc (by decide))
  refine lv_iload_n hx hb dL_acts_27 rfl (lv_at hl 3 rfl) ?_
  refine lv_iconst (v := 2) hx hb dL_acts_28 (by decide) ?_
  refine lv_icmp_ne (tgt := 40) hx hb dL_acts_29 (by decide) (fun _ => ?_) (fun hc => absurd hc (by decide))
  refine lv_iload_n hx hb dL_acts_40 rfl (lv_at hl 3 rfl) ?_
  refine lv_iconst (v := 3) hx hb dL_acts_41 (by decide) ?_
  refine lv_icmp_ne (tgt := 54) hx hb dL_acts_42 (by decide) (fun hc => absurd rfl hc) (fun _ => ?_)
  refine lv_aload_n hx hb dL_acts_45 rfl (lv_at hl 0 rfl) ?_
  refine lv_iload_n hx hb dL_acts_46 rfl (lv_at hl 1 rfl) ?_
  refine lv_iload_n hx hb dL_acts_47 rfl (lv_at hl 2 rfl) ?_
  refine vx_calli (A0 := A) (vx_runV (As := [.int a1, .int a2]) (rest := []) ⟨hx, hb, hml, hown, hts⟩ (mX6_drill l hfl D G A ad Z a1 a2 ry Zz hy) (cwV 2 hts gL_acts_X6_drill rfl rfl rfl (by decide +kernel) ⟨Nat.le_of_ble_eq_true rfl, Nat.le_of_ble_eq_true rfl⟩) (xg_preV hI hK hN hE va_S.rf rfl rfl (ci := 7) rfl) rfl rfl hl.1 rfl (lv_room (Nat.le_of_ble_eq_true rfl)) dL_acts_48 ⟨Nat.le_of_ble_eq_true rfl, Nat.le_of_ble_eq_true rfl⟩) hS (fun _ _ h => h) (fun _ h => h) (fun _ _ h => h) (fun E ce q9 u t H1 locs1 ht hvm hp hB hz9 hk hS1 hce hcv hcl => ?_) (fun r9 u t H1 locs1 ht hvm hw hB hz9 hk hS1 => ?_)
  · obtain ⟨⟨c9, h9, h8⟩, hB⟩ := hB
    obtain ⟨h7, rfl⟩ : c9 = 3 ∧ rz = (-200) := by
      rcases hz with z1 | ⟨z1, z2⟩
      · rw [z1] at h9; cases h9
      · rw [z1] at h9; cases h9; exact ⟨rfl, z2⟩
    subst h7
    have hE9 : E = "java/lang/IllegalStateException" := h8.trans (by decide)
    subst hE9
    subst hp
    have hI1 := hB.1
    have hN1 := hB.2.1
    rw [ht] at hN1
    refine vx_catch hown (name := "java/lang/IllegalStateException") [] ⟨0, 87, 88, 16⟩ [] htab (fun z hz => by simp at hz) (by decide) (by decide) (hts (.classLink RL 16 "java/lang/IllegalStateException") (List.mem_of_getElem? (i := 1) rfl)) (va_Nw.use rfl (hE.1.2 _ (by decide))) hce hcv hcl ?_
    refine lv_astore (lv' := [(4, .ref q9), (0, .ref (ad 0 0)), (1, .int a1), (2, .int a2), (3, .int 3)]) hx hb dL_acts_88 hl (by decide) rfl (fun ls hl => ?_)
    refine lv_sipush (v := (-200)) hx hb dL_acts_90 (by decide) ?_
    exact vx_ret (W.widen (k := 3) (n := 18) (by decide) (by decide) (W.iret hx hb hr (cg_endi rfl hI1 hK hN1 hS1) (fun z hz => hS1.2.2 z hz) dL_acts_93))
  · obtain ⟨h9, rfl⟩ := hw
    have h7 := hz.resolve_right (fun z => by rw [z.1] at h9; cases h9)
    rw [h7] at h9
    cases h9
    have hI1 := hB.1
    have hN1 := hB.2.1
    rw [ht] at hN1
    refine lv_goto (tgt := 87) hx hb dL_acts_51 (by decide) ?_
    exact vx_ret (W.widen (k := 3) (n := 18) (by decide) (by decide) (W.iret hx hb hr (cg_endi rfl hI1 hK hN1 hS1) (fun z hz => hS1.2.2 z hz) dL_acts_87))
def fL_acts4 (a1 : Int32) (a2 : Int32) (Z : CZ) : Option (Int32 × CZ) := wx (-200) (fX6_perform a1 a2 Z)
def rmL_acts4 : Room := { frames := 9, cells := 4, slots := 24, locals := 204 }
set_option maxHeartbeats 4000000 in
set_option maxRecDepth 100000 in
theorem mL_acts4 (l : Launch) (hfl : l.stackTraces = false) (D : va_G) (G : CGT) (A : Nat → Prop) (ad : Nat → Nat → Nat) (Z : CZ) (a1 : Int32) (a2 : Int32) (rz : Int32) (Zz : CZ) (h : fL_acts4 a1 a2 Z = some (rz, Zz)) : vx_Met l yL_acts wsL_acts rmL_acts4 (va_Pc [.ref (ad 0 0), .int a1, .int a2, .int 4] (xP D G A ad Z)) (cQi D G A ad rz Zz) (fun _ _ _ => False) 4 24 A := by
  unfold fL_acts4 at h
  obtain ⟨ry, hy, hz⟩ : ∃ ry : Int32 ⊕ Int32, fX6_perform a1 a2 Z = some (ry, Zz) ∧ (ry = .inl rz ∨ (ry = .inr 3 ∧ rz = (-200))) := (wx_ok h).elim (fun z => ⟨_, z, Or.inl rfl⟩) (fun z => ⟨_, z.1, Or.inr ⟨rfl, z.2⟩⟩)
  refine vx_ofWH (cc := cL_acts) (maxL := 5) (ret := some .int) (hh := [(0, 87, 88, 16)]) (by decide) rfl ?_
  intro p e s m args below meth c s₁ B hml hv
  obtain ⟨rfl, ⟨hI, hN, hK⟩, hE⟩ := hv
  have hx := B.exec
  have hb := B.bytes
  have hr := B.returns
  have hts := atoms_spec (ws := wsL_acts) B.pre
  have hown : s.vm.findClass RL = some m.cls := findClass_of_methodNamed B.named
  have hlocks := B.notSynchronized
  have htab := vx_table (x := yL_acts) B (hts _ (List.mem_cons_self))
  have hS : va_S A s.heap s.heap [] := va_S.rf
  have hl := lv_entry ([.ref (ad 0 0), .int a1, .int a2, .int 4]) (n := 5) (Nat.le_of_ble_eq_true rfl)
  rw [lg_entry_eq]
  generalize (lg_sl ([.ref (ad 0 0), .int a1, .int a2, .int 4]) ++ List.replicate (5 - (lg_sl ([.ref (ad 0 0), .int a1, .int a2, .int 4])).length) Slot.unset).toArray = ls at hl ⊢
  have hl : lv_has ls 5 [(0, .ref (ad 0 0)), (1, .int a1), (2, .int a2), (3, .int 4)] := hl
  refine lv_iload_n hx hb dL_acts_0 rfl (lv_at hl 3 rfl) ?_
  refine lv_if_ne (tgt := 13) hx hb dL_acts_1 (by decide) (fun _ => ?_) (fun hc => absurd hc (by decide))
  refine lv_iload_n hx hb dL_acts_13 rfl (lv_at hl 3 rfl) ?_
  refine lv_iconst (v := 1) hx hb dL_acts_14 (by decide) ?_
  refine lv_icmp_ne (tgt := 27) hx hb dL_acts_15 (by decide) (fun _ => ?_) (fun hc => absurd hc (by decide))
  refine lv_iload_n hx hb dL_acts_27 rfl (lv_at hl 3 rfl) ?_
  refine lv_iconst (v := 2) hx hb dL_acts_28 (by decide) ?_
  refine lv_icmp_ne (tgt := 40) hx hb dL_acts_29 (by decide) (fun _ => ?_) (fun hc => absurd hc (by decide))
  refine lv_iload_n hx hb dL_acts_40 rfl (lv_at hl 3 rfl) ?_
  refine lv_iconst (v := 3) hx hb dL_acts_41 (by decide) ?_
  refine lv_icmp_ne (tgt := 54) hx hb dL_acts_42 (by decide) (fun _ => ?_) (fun hc => absurd hc (by decide))
  refine lv_iload_n hx hb dL_acts_54 rfl (lv_at hl 3 rfl) ?_
  refine lv_iconst (v := 4) hx hb dL_acts_55 (by decide) ?_
  refine lv_icmp_ne (tgt := 68) hx hb dL_acts_56 (by decide) (fun hc => absurd rfl hc) (fun _ => ?_)
  refine lv_aload_n hx hb dL_acts_59 rfl (lv_at hl 0 rfl) ?_
  refine lv_iload_n hx hb dL_acts_60 rfl (lv_at hl 1 rfl) ?_
  refine lv_iload_n hx hb dL_acts_61 rfl (lv_at hl 2 rfl) ?_
  refine vx_calli (A0 := A) (vx_runV (As := [.int a1, .int a2]) (rest := []) ⟨hx, hb, hml, hown, hts⟩ (mX6_perform l hfl D G A ad Z a1 a2 ry Zz hy) (cwV 2 hts gL_acts_X6_perform rfl rfl rfl (by decide +kernel) ⟨Nat.le_of_ble_eq_true rfl, Nat.le_of_ble_eq_true rfl⟩) (xg_preV hI hK hN hE va_S.rf rfl rfl (ci := 7) rfl) rfl rfl hl.1 rfl (lv_room (Nat.le_of_ble_eq_true rfl)) dL_acts_62 ⟨Nat.le_of_ble_eq_true rfl, Nat.le_of_ble_eq_true rfl⟩) hS (fun _ _ h => h) (fun _ h => h) (fun _ _ h => h) (fun E ce q9 u t H1 locs1 ht hvm hp hB hz9 hk hS1 hce hcv hcl => ?_) (fun r9 u t H1 locs1 ht hvm hw hB hz9 hk hS1 => ?_)
  · obtain ⟨⟨c9, h9, h8⟩, hB⟩ := hB
    obtain ⟨h7, rfl⟩ : c9 = 3 ∧ rz = (-200) := by
      rcases hz with z1 | ⟨z1, z2⟩
      · rw [z1] at h9; cases h9
      · rw [z1] at h9; cases h9; exact ⟨rfl, z2⟩
    subst h7
    have hE9 : E = "java/lang/IllegalStateException" := h8.trans (by decide)
    subst hE9
    subst hp
    have hI1 := hB.1
    have hN1 := hB.2.1
    rw [ht] at hN1
    refine vx_catch hown (name := "java/lang/IllegalStateException") [] ⟨0, 87, 88, 16⟩ [] htab (fun z hz => by simp at hz) (by decide) (by decide) (hts (.classLink RL 16 "java/lang/IllegalStateException") (List.mem_of_getElem? (i := 1) rfl)) (va_Nw.use rfl (hE.1.2 _ (by decide))) hce hcv hcl ?_
    refine lv_astore (lv' := [(4, .ref q9), (0, .ref (ad 0 0)), (1, .int a1), (2, .int a2), (3, .int 4)]) hx hb dL_acts_88 hl (by decide) rfl (fun ls hl => ?_)
    refine lv_sipush (v := (-200)) hx hb dL_acts_90 (by decide) ?_
    exact vx_ret (W.widen (k := 4) (n := 24) (by decide) (by decide) (W.iret hx hb hr (cg_endi rfl hI1 hK hN1 hS1) (fun z hz => hS1.2.2 z hz) dL_acts_93))
  · obtain ⟨h9, rfl⟩ := hw
    have h7 := hz.resolve_right (fun z => by rw [z.1] at h9; cases h9)
    rw [h7] at h9
    cases h9
    have hI1 := hB.1
    have hN1 := hB.2.1
    rw [ht] at hN1
    refine lv_goto (tgt := 87) hx hb dL_acts_65 (by decide) ?_
    exact vx_ret (W.widen (k := 4) (n := 24) (by decide) (by decide) (W.iret hx hb hr (cg_endi rfl hI1 hK hN1 hS1) (fun z hz => hS1.2.2 z hz) dL_acts_87))
def fL_acts5 (a1 : Int32) (a2 : Int32) (Z : CZ) : Option (Int32 × CZ) := wx (-200) (fX6_note a1 a2 Z)
def rmL_acts5 : Room := { frames := 9, cells := 3, slots := 18, locals := 165 }
set_option maxHeartbeats 4000000 in
set_option maxRecDepth 100000 in
theorem mL_acts5 (l : Launch) (hfl : l.stackTraces = false) (D : va_G) (G : CGT) (A : Nat → Prop) (ad : Nat → Nat → Nat) (Z : CZ) (a1 : Int32) (a2 : Int32) (rz : Int32) (Zz : CZ) (h : fL_acts5 a1 a2 Z = some (rz, Zz)) : vx_Met l yL_acts wsL_acts rmL_acts5 (va_Pc [.ref (ad 0 0), .int a1, .int a2, .int 5] (xP D G A ad Z)) (cQi D G A ad rz Zz) (fun _ _ _ => False) 3 18 A := by
  unfold fL_acts5 at h
  obtain ⟨ry, hy, hz⟩ : ∃ ry : Int32 ⊕ Int32, fX6_note a1 a2 Z = some (ry, Zz) ∧ (ry = .inl rz ∨ (ry = .inr 3 ∧ rz = (-200))) := (wx_ok h).elim (fun z => ⟨_, z, Or.inl rfl⟩) (fun z => ⟨_, z.1, Or.inr ⟨rfl, z.2⟩⟩)
  refine vx_ofWH (cc := cL_acts) (maxL := 5) (ret := some .int) (hh := [(0, 87, 88, 16)]) (by decide) rfl ?_
  intro p e s m args below meth c s₁ B hml hv
  obtain ⟨rfl, ⟨hI, hN, hK⟩, hE⟩ := hv
  have hx := B.exec
  have hb := B.bytes
  have hr := B.returns
  have hts := atoms_spec (ws := wsL_acts) B.pre
  have hown : s.vm.findClass RL = some m.cls := findClass_of_methodNamed B.named
  have hlocks := B.notSynchronized
  have htab := vx_table (x := yL_acts) B (hts _ (List.mem_cons_self))
  have hS : va_S A s.heap s.heap [] := va_S.rf
  have hl := lv_entry ([.ref (ad 0 0), .int a1, .int a2, .int 5]) (n := 5) (Nat.le_of_ble_eq_true rfl)
  rw [lg_entry_eq]
  generalize (lg_sl ([.ref (ad 0 0), .int a1, .int a2, .int 5]) ++ List.replicate (5 - (lg_sl ([.ref (ad 0 0), .int a1, .int a2, .int 5])).length) Slot.unset).toArray = ls at hl ⊢
  have hl : lv_has ls 5 [(0, .ref (ad 0 0)), (1, .int a1), (2, .int a2), (3, .int 5)] := hl
  refine lv_iload_n hx hb dL_acts_0 rfl (lv_at hl 3 rfl) ?_
  refine lv_if_ne (tgt := 13) hx hb dL_acts_1 (by decide) (fun _ => ?_) (fun hc => absurd hc (by decide))
  refine lv_iload_n hx hb dL_acts_13 rfl (lv_at hl 3 rfl) ?_
  refine lv_iconst (v := 1) hx hb dL_acts_14 (by decide) ?_
  refine lv_icmp_ne (tgt := 27) hx hb dL_acts_15 (by decide) (fun _ => ?_) (fun hc => absurd hc (by decide))
  refine lv_iload_n hx hb dL_acts_27 rfl (lv_at hl 3 rfl) ?_
  refine lv_iconst (v := 2) hx hb dL_acts_28 (by decide) ?_
  refine lv_icmp_ne (tgt := 40) hx hb dL_acts_29 (by decide) (fun _ => ?_) (fun hc => absurd hc (by decide))
  refine lv_iload_n hx hb dL_acts_40 rfl (lv_at hl 3 rfl) ?_
  refine lv_iconst (v := 3) hx hb dL_acts_41 (by decide) ?_
  refine lv_icmp_ne (tgt := 54) hx hb dL_acts_42 (by decide) (fun _ => ?_) (fun hc => absurd hc (by decide))
  refine lv_iload_n hx hb dL_acts_54 rfl (lv_at hl 3 rfl) ?_
  refine lv_iconst (v := 4) hx hb dL_acts_55 (by decide) ?_
  refine lv_icmp_ne (tgt := 68) hx hb dL_acts_56 (by decide) (fun _ => ?_) (fun hc => absurd hc (by decide))
  refine lv_iload_n hx hb dL_acts_68 rfl (lv_at hl 3 rfl) ?_
  refine lv_iconst (v := 5) hx hb dL_acts_69 (by decide) ?_
  refine lv_icmp_ne (tgt := 82) hx hb dL_acts_70 (by decide) (fun hc => absurd rfl hc) (fun _ => ?_)
  refine lv_aload_n hx hb dL_acts_73 rfl (lv_at hl 0 rfl) ?_
  refine lv_iload_n hx hb dL_acts_74 rfl (lv_at hl 1 rfl) ?_
  refine lv_iload_n hx hb dL_acts_75 rfl (lv_at hl 2 rfl) ?_
  refine vx_calli (A0 := A) (vx_runV (As := [.int a1, .int a2]) (rest := []) ⟨hx, hb, hml, hown, hts⟩ (mX6_note l hfl D G A ad Z a1 a2 ry Zz hy) (cwV 2 hts gL_acts_X6_note rfl rfl rfl (by decide +kernel) ⟨Nat.le_of_ble_eq_true rfl, Nat.le_of_ble_eq_true rfl⟩) (xg_preV hI hK hN hE va_S.rf rfl rfl (ci := 7) rfl) rfl rfl hl.1 rfl (lv_room (Nat.le_of_ble_eq_true rfl)) dL_acts_76 ⟨Nat.le_of_ble_eq_true rfl, Nat.le_of_ble_eq_true rfl⟩) hS (fun _ _ h => h) (fun _ h => h) (fun _ _ h => h) (fun E ce q9 u t H1 locs1 ht hvm hp hB hz9 hk hS1 hce hcv hcl => ?_) (fun r9 u t H1 locs1 ht hvm hw hB hz9 hk hS1 => ?_)
  · obtain ⟨⟨c9, h9, h8⟩, hB⟩ := hB
    obtain ⟨h7, rfl⟩ : c9 = 3 ∧ rz = (-200) := by
      rcases hz with z1 | ⟨z1, z2⟩
      · rw [z1] at h9; cases h9
      · rw [z1] at h9; cases h9; exact ⟨rfl, z2⟩
    subst h7
    have hE9 : E = "java/lang/IllegalStateException" := h8.trans (by decide)
    subst hE9
    subst hp
    have hI1 := hB.1
    have hN1 := hB.2.1
    rw [ht] at hN1
    refine vx_catch hown (name := "java/lang/IllegalStateException") [] ⟨0, 87, 88, 16⟩ [] htab (fun z hz => by simp at hz) (by decide) (by decide) (hts (.classLink RL 16 "java/lang/IllegalStateException") (List.mem_of_getElem? (i := 1) rfl)) (va_Nw.use rfl (hE.1.2 _ (by decide))) hce hcv hcl ?_
    refine lv_astore (lv' := [(4, .ref q9), (0, .ref (ad 0 0)), (1, .int a1), (2, .int a2), (3, .int 5)]) hx hb dL_acts_88 hl (by decide) rfl (fun ls hl => ?_)
    refine lv_sipush (v := (-200)) hx hb dL_acts_90 (by decide) ?_
    exact vx_ret (W.widen (k := 3) (n := 18) (by decide) (by decide) (W.iret hx hb hr (cg_endi rfl hI1 hK hN1 hS1) (fun z hz => hS1.2.2 z hz) dL_acts_93))
  · obtain ⟨h9, rfl⟩ := hw
    have h7 := hz.resolve_right (fun z => by rw [z.1] at h9; cases h9)
    rw [h7] at h9
    cases h9
    have hI1 := hB.1
    have hN1 := hB.2.1
    rw [ht] at hN1
    refine lv_goto (tgt := 87) hx hb dL_acts_79 (by decide) ?_
    exact vx_ret (W.widen (k := 3) (n := 18) (by decide) (by decide) (W.iret hx hb hr (cg_endi rfl hI1 hK hN1 hS1) (fun z hz => hS1.2.2 z hz) dL_acts_87))
noncomputable def fL_acts6 (a1 : Int32) (a2 : Int32) (Z : CZ) : Option (Int32 × CZ) := wx (-200) (fX6_player a1 Z)
def rmL_acts6 : Room := { frames := 9, cells := 10, slots := 60, locals := 303 }
set_option maxHeartbeats 4000000 in
set_option maxRecDepth 100000 in
theorem mL_acts6 (l : Launch) (hfl : l.stackTraces = false) (D : va_G) (G : CGT) (A : Nat → Prop) (ad : Nat → Nat → Nat) (Z : CZ) (a1 : Int32) (a2 : Int32) (rz : Int32) (Zz : CZ) (h : fL_acts6 a1 a2 Z = some (rz, Zz)) : vx_Met l yL_acts wsL_acts rmL_acts6 (va_Pc [.ref (ad 0 0), .int a1, .int a2, .int 6] (aP D G A ad Z)) (aQi D G A ad (.inl rz) Zz) (fun _ _ _ => False) 10 60 A := by
  unfold fL_acts6 at h
  obtain ⟨ry, hy, hz⟩ : ∃ ry : Int32 ⊕ Int32, fX6_player a1 Z = some (ry, Zz) ∧ (ry = .inl rz ∨ (ry = .inr 3 ∧ rz = (-200))) := (wx_ok h).elim (fun z => ⟨_, z, Or.inl rfl⟩) (fun z => ⟨_, z.1, Or.inr ⟨rfl, z.2⟩⟩)
  refine vx_ofWH (cc := cL_acts) (maxL := 5) (ret := some .int) (hh := [(0, 87, 88, 16)]) (by decide) rfl ?_
  intro p e s m args below meth c s₁ B hml hv
  obtain ⟨rfl, ⟨⟨hI, hN, hK⟩, hE⟩, hF, hA⟩ := hv
  have hx := B.exec
  have hb := B.bytes
  have hr := B.returns
  have hts := atoms_spec (ws := wsL_acts) B.pre
  have hown : s.vm.findClass RL = some m.cls := findClass_of_methodNamed B.named
  have hlocks := B.notSynchronized
  have htab := vx_table (x := yL_acts) B (hts _ (List.mem_cons_self))
  have hS : va_S A s.heap s.heap [] := va_S.rf
  have hl := lv_entry ([.ref (ad 0 0), .int a1, .int a2, .int 6]) (n := 5) (Nat.le_of_ble_eq_true rfl)
  rw [lg_entry_eq]
  generalize (lg_sl ([.ref (ad 0 0), .int a1, .int a2, .int 6]) ++ List.replicate (5 - (lg_sl ([.ref (ad 0 0), .int a1, .int a2, .int 6])).length) Slot.unset).toArray = ls at hl ⊢
  have hl : lv_has ls 5 [(0, .ref (ad 0 0)), (1, .int a1), (2, .int a2), (3, .int 6)] := hl
  refine lv_iload_n hx hb dL_acts_0 rfl (lv_at hl 3 rfl) ?_
  refine lv_if_ne (tgt := 13) hx hb dL_acts_1 (by decide) (fun _ => ?_) (fun hc => absurd hc (by decide))
  refine lv_iload_n hx hb dL_acts_13 rfl (lv_at hl 3 rfl) ?_
  refine lv_iconst (v := 1) hx hb dL_acts_14 (by decide) ?_
  refine lv_icmp_ne (tgt := 27) hx hb dL_acts_15 (by decide) (fun _ => ?_) (fun hc => absurd hc (by decide))
  refine lv_iload_n hx hb dL_acts_27 rfl (lv_at hl 3 rfl) ?_
  refine lv_iconst (v := 2) hx hb dL_acts_28 (by decide) ?_
  refine lv_icmp_ne (tgt := 40) hx hb dL_acts_29 (by decide) (fun _ => ?_) (fun hc => absurd hc (by decide))
  refine lv_iload_n hx hb dL_acts_40 rfl (lv_at hl 3 rfl) ?_
  refine lv_iconst (v := 3) hx hb dL_acts_41 (by decide) ?_
  refine lv_icmp_ne (tgt := 54) hx hb dL_acts_42 (by decide) (fun _ => ?_) (fun hc => absurd hc (by decide))
  refine lv_iload_n hx hb dL_acts_54 rfl (lv_at hl 3 rfl) ?_
  refine lv_iconst (v := 4) hx hb dL_acts_55 (by decide) ?_
  refine lv_icmp_ne (tgt := 68) hx hb dL_acts_56 (by decide) (fun _ => ?_) (fun hc => absurd hc (by decide))
  refine lv_iload_n hx hb dL_acts_68 rfl (lv_at hl 3 rfl) ?_
  refine lv_iconst (v := 5) hx hb dL_acts_69 (by decide) ?_
  refine lv_icmp_ne (tgt := 82) hx hb dL_acts_70 (by decide) (fun _ => ?_) (fun hc => absurd hc (by decide))
  refine lv_aload_n hx hb dL_acts_82 rfl (lv_at hl 0 rfl) ?_
  refine lv_iload_n hx hb dL_acts_83 rfl (lv_at hl 1 rfl) ?_
  refine vx_calli (A0 := A) (vx_runV (As := [.int a1]) (rest := []) ⟨hx, hb, hml, hown, hts⟩ (mX6_player l hfl D G A ad Z a1 ry Zz hy) (cwV 1 hts gL_acts_X6_player rfl rfl rfl (by decide +kernel) ⟨Nat.le_of_ble_eq_true rfl, Nat.le_of_ble_eq_true rfl⟩) (lg_preV hI hK hN hE hF hA) rfl rfl hl.1 rfl (lv_room (Nat.le_of_ble_eq_true rfl)) dL_acts_84 ⟨Nat.le_of_ble_eq_true rfl, Nat.le_of_ble_eq_true rfl⟩) hS (fun _ _ h => h) (fun _ h => h) (fun _ _ h => h) (fun E ce q9 u t H1 locs1 ht hvm hp hB hz9 hk hS1 hce hcv hcl => ?_) (fun r9 u t H1 locs1 ht hvm hw hB hz9 hk hS1 => ?_)
  · obtain ⟨⟨c9, h9, h8⟩, hB⟩ := hB
    obtain ⟨h7, rfl⟩ : c9 = 3 ∧ rz = (-200) := by
      rcases hz with z1 | ⟨z1, z2⟩
      · rw [z1] at h9; cases h9
      · rw [z1] at h9; cases h9; exact ⟨rfl, z2⟩
    subst h7
    have hE9 : E = "java/lang/IllegalStateException" := h8.trans (by decide)
    subst hE9
    subst hp
    have hI1 := hB.1
    have hN1 := hB.2.1
    rw [ht] at hN1
    refine vx_catch hown (name := "java/lang/IllegalStateException") [] ⟨0, 87, 88, 16⟩ [] htab (fun z hz => by simp at hz) (by decide) (by decide) (hts (.classLink RL 16 "java/lang/IllegalStateException") (List.mem_of_getElem? (i := 1) rfl)) (va_Nw.use rfl (hE.1.2 _ (by decide))) hce hcv hcl ?_
    refine lv_astore (lv' := [(4, .ref q9), (0, .ref (ad 0 0)), (1, .int a1), (2, .int a2), (3, .int 6)]) hx hb dL_acts_88 hl (by decide) rfl (fun ls hl => ?_)
    refine lv_sipush (v := (-200)) hx hb dL_acts_90 (by decide) ?_
    exact vx_ret (W.widen (k := 10) (n := 60) (by decide) (by decide) (W.iret hx hb hr (lw_enda hI1 hK hN1 hS1 rfl) (fun z hz => hS1.2.2 z hz) dL_acts_93))
  · obtain ⟨u1, ad1⟩ := u
    obtain ⟨h9, rfl, h00⟩ := hw
    have h7 := hz.resolve_right (fun z => by rw [z.1] at h9; cases h9)
    rw [h7] at h9
    cases h9
    have hI1 := hB.1
    have hN1 := hB.2.1
    rw [ht] at hN1
    exact vx_ret (W.widen (k := 10) (n := 60) (by decide) (by decide) (W.iret hx hb hr (lw_enda hI1 hK hN1 hS1 h00) (fun z hz => hS1.2.2 z hz) dL_acts_87))
noncomputable def fL_pans (a1 : Int32) (a2 : Int32) (a3 : Int32) (a4 : Int32) (Z : CZ) : Option (Int32 × CZ) := wx (-200) (fX6_pan a1 a2 a3 a4 Z)
def rmL_pans : Room := { frames := 9, cells := 16, slots := 96, locals := 306 }
set_option maxHeartbeats 4000000 in
set_option maxRecDepth 100000 in
theorem mL_pans (l : Launch) (hfl : l.stackTraces = false) (D : va_G) (G : CGT) (A : Nat → Prop) (ad : Nat → Nat → Nat) (Z : CZ) (a1 : Int32) (a2 : Int32) (a3 : Int32) (a4 : Int32) (rz : Int32) (Zz : CZ) (h : fL_pans a1 a2 a3 a4 Z = some (rz, Zz)) : vx_Met l yL_pans wsL_pans rmL_pans (va_Pc [.ref (ad 0 0), .int a1, .int a2, .int a3, .int a4] (aP D G A ad Z)) (aQi D G A ad (.inl rz) Zz) (fun _ _ _ => False) 16 96 A := by
  unfold fL_pans at h
  obtain ⟨ry, hy, hz⟩ : ∃ ry : Int32 ⊕ Int32, fX6_pan a1 a2 a3 a4 Z = some (ry, Zz) ∧ (ry = .inl rz ∨ (ry = .inr 3 ∧ rz = (-200))) := (wx_ok h).elim (fun z => ⟨_, z, Or.inl rfl⟩) (fun z => ⟨_, z.1, Or.inr ⟨rfl, z.2⟩⟩)
  refine vx_ofWH (cc := cL_pans) (maxL := 6) (ret := some .int) (hh := [(0, 9, 10, 16)]) (by decide) rfl ?_
  intro p e s m args below meth c s₁ B hml hv
  obtain ⟨rfl, ⟨⟨hI, hN, hK⟩, hE⟩, hF, hA⟩ := hv
  have hx := B.exec
  have hb := B.bytes
  have hr := B.returns
  have hts := atoms_spec (ws := wsL_pans) B.pre
  have hown : s.vm.findClass RL = some m.cls := findClass_of_methodNamed B.named
  have hlocks := B.notSynchronized
  have htab := vx_table (x := yL_pans) B (hts _ (List.mem_cons_self))
  have hS : va_S A s.heap s.heap [] := va_S.rf
  have hl := lv_entry ([.ref (ad 0 0), .int a1, .int a2, .int a3, .int a4]) (n := 6) (Nat.le_of_ble_eq_true rfl)
  rw [lg_entry_eq]
  generalize (lg_sl ([.ref (ad 0 0), .int a1, .int a2, .int a3, .int a4]) ++ List.replicate (6 - (lg_sl ([.ref (ad 0 0), .int a1, .int a2, .int a3, .int a4])).length) Slot.unset).toArray = ls at hl ⊢
  have hl : lv_has ls 6 [(0, .ref (ad 0 0)), (1, .int a1), (2, .int a2), (3, .int a3), (4, .int a4)] := hl
  refine lv_aload_n hx hb dL_pans_0 rfl (lv_at hl 0 rfl) ?_
  refine lv_iload_n hx hb dL_pans_1 rfl (lv_at hl 1 rfl) ?_
  refine lv_iload_n hx hb dL_pans_2 rfl (lv_at hl 2 rfl) ?_
  refine lv_iload_n hx hb dL_pans_3 rfl (lv_at hl 3 rfl) ?_
  refine lv_iload hx hb dL_pans_4 (lv_at hl 4 rfl) ?_
  refine vx_calli (A0 := A) (vx_runV (As := [.int a1, .int a2, .int a3, .int a4]) (rest := []) ⟨hx, hb, hml, hown, hts⟩ (mX6_pan l hfl D G A ad Z a1 a2 a3 a4 ry Zz hy) (cwV 4 hts gL_pans_X6_pan rfl rfl rfl (by decide +kernel) ⟨Nat.le_of_ble_eq_true rfl, Nat.le_of_ble_eq_true rfl⟩) (lg_preV hI hK hN hE hF hA) rfl rfl hl.1 rfl (lv_room (Nat.le_of_ble_eq_true rfl)) dL_pans_6 ⟨Nat.le_of_ble_eq_true rfl, Nat.le_of_ble_eq_true rfl⟩) hS (fun _ _ h => h) (fun _ h => h) (fun _ _ h => h) (fun E ce q9 u t H1 locs1 ht hvm hp hB hz9 hk hS1 hce hcv hcl => ?_) (fun r9 u t H1 locs1 ht hvm hw hB hz9 hk hS1 => ?_)
  · obtain ⟨⟨c9, h9, h8⟩, hB⟩ := hB
    obtain ⟨h7, rfl⟩ : c9 = 3 ∧ rz = (-200) := by
      rcases hz with z1 | ⟨z1, z2⟩
      · rw [z1] at h9; cases h9
      · rw [z1] at h9; cases h9; exact ⟨rfl, z2⟩
    subst h7
    have hE9 : E = "java/lang/IllegalStateException" := h8.trans (by decide)
    subst hE9
    subst hp
    have hI1 := hB.1
    have hN1 := hB.2.1
    rw [ht] at hN1
    refine vx_catch hown (name := "java/lang/IllegalStateException") [] ⟨0, 9, 10, 16⟩ [] htab (fun z hz => by simp at hz) (by decide) (by decide) (hts (.classLink RL 16 "java/lang/IllegalStateException") (List.mem_of_getElem? (i := 1) rfl)) (va_Nw.use rfl (hE.1.2 _ (by decide))) hce hcv hcl ?_
    refine lv_astore (lv' := [(5, .ref q9), (0, .ref (ad 0 0)), (1, .int a1), (2, .int a2), (3, .int a3), (4, .int a4)]) hx hb dL_pans_10 hl (by decide) rfl (fun ls hl => ?_)
    refine lv_sipush (v := (-200)) hx hb dL_pans_12 (by decide) ?_
    exact vx_ret (W.widen (k := 16) (n := 96) (by decide) (by decide) (W.iret hx hb hr (lw_enda hI1 hK hN1 hS1 rfl) (fun z hz => hS1.2.2 z hz) dL_pans_15))
  · obtain ⟨u1, ad1⟩ := u
    obtain ⟨h9, rfl, h00⟩ := hw
    have h7 := hz.resolve_right (fun z => by rw [z.1] at h9; cases h9)
    rw [h7] at h9
    cases h9
    have hI1 := hB.1
    have hN1 := hB.2.1
    rw [ht] at hN1
    exact vx_ret (W.widen (k := 16) (n := 96) (by decide) (by decide) (W.iret hx hb hr (lw_enda hI1 hK hN1 hS1 h00) (fun z hz => hS1.2.2 z hz) dL_pans_9))
def fL_marks (a1 : Int32) (a2 : Int32) (a3 : Int32) (Z : CZ) : Option (Int32 × CZ) := wx (-200) (fX6_mark a1 a2 a3 Z)
def rmL_marks : Room := { frames := 9, cells := 4, slots := 24, locals := 166 }
set_option maxHeartbeats 4000000 in
set_option maxRecDepth 100000 in
theorem mL_marks (l : Launch) (hfl : l.stackTraces = false) (D : va_G) (G : CGT) (A : Nat → Prop) (ad : Nat → Nat → Nat) (Z : CZ) (a1 : Int32) (a2 : Int32) (a3 : Int32) (rz : Int32) (Zz : CZ) (h : fL_marks a1 a2 a3 Z = some (rz, Zz)) : vx_Met l yL_marks wsL_marks rmL_marks (va_Pc [.ref (ad 0 0), .int a1, .int a2, .int a3] (xP D G A ad Z)) (cQi D G A ad rz Zz) (fun _ _ _ => False) 4 24 A := by
  unfold fL_marks at h
  obtain ⟨ry, hy, hz⟩ : ∃ ry : Int32 ⊕ Int32, fX6_mark a1 a2 a3 Z = some (ry, Zz) ∧ (ry = .inl rz ∨ (ry = .inr 3 ∧ rz = (-200))) := (wx_ok h).elim (fun z => ⟨_, z, Or.inl rfl⟩) (fun z => ⟨_, z.1, Or.inr ⟨rfl, z.2⟩⟩)
  refine vx_ofWH (cc := cL_marks) (maxL := 5) (ret := some .int) (hh := [(0, 7, 8, 16)]) (by decide) rfl ?_
  intro p e s m args below meth c s₁ B hml hv
  obtain ⟨rfl, ⟨hI, hN, hK⟩, hE⟩ := hv
  have hx := B.exec
  have hb := B.bytes
  have hr := B.returns
  have hts := atoms_spec (ws := wsL_marks) B.pre
  have hown : s.vm.findClass RL = some m.cls := findClass_of_methodNamed B.named
  have hlocks := B.notSynchronized
  have htab := vx_table (x := yL_marks) B (hts _ (List.mem_cons_self))
  have hS : va_S A s.heap s.heap [] := va_S.rf
  have hl := lv_entry ([.ref (ad 0 0), .int a1, .int a2, .int a3]) (n := 5) (Nat.le_of_ble_eq_true rfl)
  rw [lg_entry_eq]
  generalize (lg_sl ([.ref (ad 0 0), .int a1, .int a2, .int a3]) ++ List.replicate (5 - (lg_sl ([.ref (ad 0 0), .int a1, .int a2, .int a3])).length) Slot.unset).toArray = ls at hl ⊢
  have hl : lv_has ls 5 [(0, .ref (ad 0 0)), (1, .int a1), (2, .int a2), (3, .int a3)] := hl
  refine lv_aload_n hx hb dL_marks_0 rfl (lv_at hl 0 rfl) ?_
  refine lv_iload_n hx hb dL_marks_1 rfl (lv_at hl 1 rfl) ?_
  refine lv_iload_n hx hb dL_marks_2 rfl (lv_at hl 2 rfl) ?_
  refine lv_iload_n hx hb dL_marks_3 rfl (lv_at hl 3 rfl) ?_
  refine vx_calli (A0 := A) (vx_runV (As := [.int a1, .int a2, .int a3]) (rest := []) ⟨hx, hb, hml, hown, hts⟩ (mX6_mark l hfl D G A ad Z a1 a2 a3 ry Zz hy) (cwV 3 hts gL_marks_X6_mark rfl rfl rfl (by decide +kernel) ⟨Nat.le_of_ble_eq_true rfl, Nat.le_of_ble_eq_true rfl⟩) (xg_preV hI hK hN hE va_S.rf rfl rfl (ci := 7) rfl) rfl rfl hl.1 rfl (lv_room (Nat.le_of_ble_eq_true rfl)) dL_marks_4 ⟨Nat.le_of_ble_eq_true rfl, Nat.le_of_ble_eq_true rfl⟩) hS (fun _ _ h => h) (fun _ h => h) (fun _ _ h => h) (fun E ce q9 u t H1 locs1 ht hvm hp hB hz9 hk hS1 hce hcv hcl => ?_) (fun r9 u t H1 locs1 ht hvm hw hB hz9 hk hS1 => ?_)
  · obtain ⟨⟨c9, h9, h8⟩, hB⟩ := hB
    obtain ⟨h7, rfl⟩ : c9 = 3 ∧ rz = (-200) := by
      rcases hz with z1 | ⟨z1, z2⟩
      · rw [z1] at h9; cases h9
      · rw [z1] at h9; cases h9; exact ⟨rfl, z2⟩
    subst h7
    have hE9 : E = "java/lang/IllegalStateException" := h8.trans (by decide)
    subst hE9
    subst hp
    have hI1 := hB.1
    have hN1 := hB.2.1
    rw [ht] at hN1
    refine vx_catch hown (name := "java/lang/IllegalStateException") [] ⟨0, 7, 8, 16⟩ [] htab (fun z hz => by simp at hz) (by decide) (by decide) (hts (.classLink RL 16 "java/lang/IllegalStateException") (List.mem_of_getElem? (i := 1) rfl)) (va_Nw.use rfl (hE.1.2 _ (by decide))) hce hcv hcl ?_
    refine lv_astore (lv' := [(4, .ref q9), (0, .ref (ad 0 0)), (1, .int a1), (2, .int a2), (3, .int a3)]) hx hb dL_marks_8 hl (by decide) rfl (fun ls hl => ?_)
    refine lv_sipush (v := (-200)) hx hb dL_marks_10 (by decide) ?_
    exact vx_ret (W.widen (k := 4) (n := 24) (by decide) (by decide) (W.iret hx hb hr (cg_endi rfl hI1 hK hN1 hS1) (fun z hz => hS1.2.2 z hz) dL_marks_13))
  · obtain ⟨h9, rfl⟩ := hw
    have h7 := hz.resolve_right (fun z => by rw [z.1] at h9; cases h9)
    rw [h7] at h9
    cases h9
    have hI1 := hB.1
    have hN1 := hB.2.1
    rw [ht] at hN1
    exact vx_ret (W.widen (k := 4) (n := 24) (by decide) (by decide) (W.iret hx hb hr (cg_endi rfl hI1 hK hN1 hS1) (fun z hz => hS1.2.2 z hz) dL_marks_7))
def fL_scores (a1 : Int32) (Z : CZ) : Option (Int32) := wr (-2000) (fX6_score a1 Z)
def rmL_scores : Room := { frames := 9, cells := 2, slots := 12, locals := 164 }
set_option maxHeartbeats 4000000 in
set_option maxRecDepth 100000 in
theorem mL_scores (l : Launch) (hfl : l.stackTraces = false) (D : va_G) (G : CGT) (A : Nat → Prop) (ad : Nat → Nat → Nat) (Z : CZ) (a1 : Int32) (rz : Int32) (h : fL_scores a1 Z = some rz) : vx_Met l yL_scores wsL_scores rmL_scores (va_Pc [.ref (ad 0 0), .int a1] (xP D G A ad Z)) (cQi D G A ad rz Z) (fun _ _ _ => False) 2 12 A := by
  unfold fL_scores at h
  obtain ⟨ry, hy, hz⟩ : ∃ ry : Int32 ⊕ Int32, fX6_score a1 Z = some ry ∧ (ry = .inl rz ∨ (ry = .inr 3 ∧ rz = (-2000))) := (wr_ok h).elim (fun z => ⟨_, z, Or.inl rfl⟩) (fun z => ⟨_, z.1, Or.inr ⟨rfl, z.2⟩⟩)
  refine vx_ofWH (cc := cL_scores) (maxL := 3) (ret := some .int) (hh := [(0, 5, 6, 16)]) (by decide) rfl ?_
  intro p e s m args below meth c s₁ B hml hv
  obtain ⟨rfl, ⟨hI, hN, hK⟩, hE⟩ := hv
  have hx := B.exec
  have hb := B.bytes
  have hr := B.returns
  have hts := atoms_spec (ws := wsL_scores) B.pre
  have hown : s.vm.findClass RL = some m.cls := findClass_of_methodNamed B.named
  have hlocks := B.notSynchronized
  have htab := vx_table (x := yL_scores) B (hts _ (List.mem_cons_self))
  have hS : va_S A s.heap s.heap [] := va_S.rf
  have hl := lv_entry ([.ref (ad 0 0), .int a1]) (n := 3) (Nat.le_of_ble_eq_true rfl)
  rw [lg_entry_eq]
  generalize (lg_sl ([.ref (ad 0 0), .int a1]) ++ List.replicate (3 - (lg_sl ([.ref (ad 0 0), .int a1])).length) Slot.unset).toArray = ls at hl ⊢
  have hl : lv_has ls 3 [(0, .ref (ad 0 0)), (1, .int a1)] := hl
  refine lv_aload_n hx hb dL_scores_0 rfl (lv_at hl 0 rfl) ?_
  refine lv_iload_n hx hb dL_scores_1 rfl (lv_at hl 1 rfl) ?_
  refine vx_calli (A0 := A) (vx_runV (As := [.int a1]) (rest := []) ⟨hx, hb, hml, hown, hts⟩ (mX6_score l hfl D G A ad Z a1 ry hy) (cwV 1 hts gL_scores_X6_score rfl rfl rfl (by decide +kernel) ⟨Nat.le_of_ble_eq_true rfl, Nat.le_of_ble_eq_true rfl⟩) (xg_preV hI hK hN hE va_S.rf rfl rfl (ci := 7) rfl) rfl rfl hl.1 rfl (lv_room (Nat.le_of_ble_eq_true rfl)) dL_scores_2 ⟨Nat.le_of_ble_eq_true rfl, Nat.le_of_ble_eq_true rfl⟩) hS (fun _ _ h => h) (fun _ h => h) (fun _ _ h => h) (fun E ce q9 u t H1 locs1 ht hvm hp hB hz9 hk hS1 hce hcv hcl => ?_) (fun r9 u t H1 locs1 ht hvm hw hB hz9 hk hS1 => ?_)
  · obtain ⟨⟨c9, h9, h8⟩, hB⟩ := hB
    obtain ⟨h7, rfl⟩ : c9 = 3 ∧ rz = (-2000) := by
      rcases hz with z1 | ⟨z1, z2⟩
      · rw [z1] at h9; cases h9
      · rw [z1] at h9; cases h9; exact ⟨rfl, z2⟩
    subst h7
    have hE9 : E = "java/lang/IllegalStateException" := h8.trans (by decide)
    subst hE9
    subst hp
    have hI1 := hB.1
    have hN1 := hB.2.1
    rw [ht] at hN1
    refine vx_catch hown (name := "java/lang/IllegalStateException") [] ⟨0, 5, 6, 16⟩ [] htab (fun z hz => by simp at hz) (by decide) (by decide) (hts (.classLink RL 16 "java/lang/IllegalStateException") (List.mem_of_getElem? (i := 1) rfl)) (va_Nw.use rfl (hE.1.2 _ (by decide))) hce hcv hcl ?_
    refine lv_astore_n (lv' := [(2, .ref q9), (0, .ref (ad 0 0)), (1, .int a1)]) hx hb dL_scores_6 rfl hl (by decide) rfl (fun ls hl => ?_)
    refine lv_sipush (v := (-2000)) hx hb dL_scores_7 (by decide) ?_
    exact vx_ret (W.widen (k := 2) (n := 12) (by decide) (by decide) (W.iret hx hb hr (cg_endr rfl hI1 hK hN1 hS1) (fun z hz => hS1.2.2 z hz) dL_scores_10))
  · obtain ⟨h9, rfl⟩ := hw
    have h7 := hz.resolve_right (fun z => by rw [z.1] at h9; cases h9)
    rw [h7] at h9
    cases h9
    have hI1 := hB.1
    have hN1 := hB.2.1
    rw [ht] at hN1
    exact vx_ret (W.widen (k := 2) (n := 12) (by decide) (by decide) (W.iret hx hb hr (cg_endr rfl hI1 hK hN1 hS1) (fun z hz => hS1.2.2 z hz) dL_scores_5))
def fL_scores_n (a1 : Int32) (Z : CZ) : Option (Int32) := fX6_score_n a1 Z
def rmL_scores_n : Room := { frames := 6, cells := 0, slots := 0, locals := 137 }
set_option maxHeartbeats 4000000 in
set_option maxRecDepth 100000 in
theorem mL_scores_n (l : Launch) (hfl : l.stackTraces = false) (D : va_G) (G : CGT) (A : Nat → Prop) (ad : Nat → Nat → Nat) (Z : CZ) (a1 : Int32) (rz : Int32) (h : fL_scores_n a1 Z = some rz) : vx_Met l yL_scores wsL_scores rmL_scores_n (va_Pc [.ref (ad 0 0), .int a1] (xP D G A ad Z)) (cQi D G A ad rz Z) (fun _ _ _ => False) 0 0 A := by
  unfold fL_scores_n at h
  refine vx_ofWH (cc := cL_scores) (maxL := 3) (ret := some .int) (hh := [(0, 5, 6, 16)]) (by decide) rfl ?_
  intro p e s m args below meth c s₁ B hml hv
  obtain ⟨rfl, ⟨hI, hN, hK⟩, hE⟩ := hv
  have hx := B.exec
  have hb := B.bytes
  have hr := B.returns
  have hts := atoms_spec (ws := wsL_scores) B.pre
  have hown : s.vm.findClass RL = some m.cls := findClass_of_methodNamed B.named
  have hlocks := B.notSynchronized
  have htab := vx_table (x := yL_scores) B (hts _ (List.mem_cons_self))
  have hS : va_S A s.heap s.heap [] := va_S.rf
  have hl := lv_entry ([.ref (ad 0 0), .int a1]) (n := 3) (Nat.le_of_ble_eq_true rfl)
  rw [lg_entry_eq]
  generalize (lg_sl ([.ref (ad 0 0), .int a1]) ++ List.replicate (3 - (lg_sl ([.ref (ad 0 0), .int a1])).length) Slot.unset).toArray = ls at hl ⊢
  have hl : lv_has ls 3 [(0, .ref (ad 0 0)), (1, .int a1)] := hl
  refine lv_aload_n hx hb dL_scores_0 rfl (lv_at hl 0 rfl) ?_
  refine lv_iload_n hx hb dL_scores_1 rfl (lv_at hl 1 rfl) ?_
  refine cg_calli (va_runV (As := [.int a1]) (rest := []) ⟨hx, hb, hml, hown, hts⟩ (mX6_score_n l D G A ad Z a1 rz h) (cwV 1 hts gL_scores_X6_score rfl rfl rfl (by decide +kernel) ⟨Nat.le_of_ble_eq_true rfl, Nat.le_of_ble_eq_true rfl⟩) (cg_preV hI hK hN rfl rfl (ci := 7) rfl) rfl rfl hl.1 rfl (lv_room (Nat.le_of_ble_eq_true rfl)) dL_scores_2 ⟨Nat.le_of_ble_eq_true rfl, Nat.le_of_ble_eq_true rfl⟩) hS (fun H locs hI hN hS => ?_)
  exact vx_ret (W.iret hx hb hr (cg_endr rfl hI hK hN hS) (fun z hz => hS.2.2 z hz) dL_scores_5)
