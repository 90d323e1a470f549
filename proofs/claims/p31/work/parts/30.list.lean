/-! A list and its array: two cells. -/
theorem Met.fam {l : Launch} {y : MethodName} {ws : List Cond} {rm : Room} {Pc' : Array Value → State → Prop} {Qc' : Array Value → State → Outcome → State → Prop} {mc ms : Nat} {free' : Addr → Prop}
    (h : ∀ a U, Pc' a U → ∃ (Pc : Array Value → State → Prop) (Qc : Array Value → State → Outcome → State → Prop) (free : Addr → Prop), Met l y ws rm Pc Qc mc ms free ∧ Pc a U ∧ (∀ o t, Qc a U o t → Qc' a U o t) ∧ ∀ q, free q → free' q) : Met l y ws rm Pc' Qc' mc ms free' := by
  intro p e ha hc hk s m args below hf happ hP hK
  obtain ⟨Pc, Qc, fr, hM, h1, h2, h3⟩ := h args s hP
  obtain ⟨n, o, g1, g2, g3, g4, L, g5, g6⟩ := hM p e ha hc hk s m args below hf happ h1 trivial
  exact ⟨n, o, g1, g2, g3, h2 _ _ g4, L, g5, fun q hq => h3 _ (g6 q hq)⟩
abbrev lW (h ea : Nat) (m z : Int32) (cO : ClassId) (cap : Nat) (f : Nat → Option Nat) : va_W := [(h, .inr (0, [.int m, .ref ea, .int z])), (ea, .inl (cO, cap, .inr (.inr (.inr (.inr f)))))]
/-- what a list's array holds: things of the class C, none of them the list or its array -/
def lEl (C : String) (h ea : Nat) (f : Nat → Option Nat) (U : State) (H : Heap) : Prop := va_Nw (.castable C "java/lang/Object") U ∧ ∀ j y, f j = some y → y ≠ h ∧ y ≠ ea ∧ ∃ cellV : Cell, H[y]? = some cellV ∧ cellV.vm.isStatics = false ∧ U.vm.findClass C = some cellV.cls
theorem lEl.sameH {C : String} {h ea : Nat} {f : Nat → Option Nat} {U : State} {H H1 : Heap} (k : lEl C h ea f U H) (hq : ∀ q : Nat, q < H.size → q ≠ h → q ≠ ea → H1[q]? = H[q]?) : lEl C h ea f U H1 := by
  refine ⟨k.1, fun j y hy => ?_⟩
  obtain ⟨k1, k2, cv, k3, k4⟩ := k.2 j y hy
  exact ⟨k1, k2, cv, by rw [hq y (Array.getElem?_eq_some_iff.mp k3).1 k1 k2]; exact k3, k4⟩
theorem lEl.asg {C : String} {h ea : Nat} {f : Nat → Option Nat} {U : State} {H : Heap} (k : lEl C h ea f U H) : ∀ comp c0 : ClassId, U.vm.findClass "java/lang/Object" = some comp → U.vm.findClass C = some c0 → U.vm.assignable c0 comp = true := by
  intro comp c0 h1 h2
  obtain ⟨c3, c4, hc3, hc4, hasg⟩ := Cond.castable_spec (k.1 : (Cond.castable C "java/lang/Object").before #[] U = true)
  rw [h2] at hc3
  rw [h1] at hc4
  cases hc3
  cases hc4
  exact hasg
/-- one taken out at i of n, those behind one lower -/
def fRem (f : Nat → Option Nat) (n i : Nat) : Nat → Option Nat := va_up (if i < n - 1 then va_cpy f f (i + 1) i (n - 1 - i) else f) (n - 1) none
set_option maxHeartbeats 4000000 in
set_option maxRecDepth 100000 in
theorem lm_fastRemove (l : Launch) (D : va_G) (C : String) (cO : ClassId) (h ea sz : Nat) (m : Int32) (cap n i0 : Nat) (f : Nat → Option Nat) (KK : State → Prop) (hKK : ∀ u U : State, u.vm.Alike U.vm → KK u → KK U) (hin : i0 < n) (hnc : n ≤ cap) (hcap : cap < 2 ^ 31) : Met l yJx4a65c_fastRemove_b59b0 wsJx4a65c_fastRemove_b59b0 { frames := 2, cells := 0, slots := 0, locals := 60 } (va_Pc [.ref h, .ref ea, .int (nI i0)] (fun U => U.heap.size = sz ∧ va_P D vwCl (lW h ea m (nI n) cO cap f) U.heap ∧ va_K D vwCl [(cO, .object "java/lang/Object")] U ∧ va_D (fun _ => True) (lW h ea m (nI n) cO cap f) ∧ lEl C h ea f U U.heap ∧ KK U)) (va_Qv (fun _ : Unit => True) (fun _ t => va_P D vwCl (lW h ea (m + 1) (nI (n - 1)) cO cap (fRem f n i0)) t.heap ∧ KK t) (fun q => q = h ∨ q = ea)) 0 0 (fun q => q = h ∨ q = ea) := by
  refine Met.ofW (cc := cJx4a65c_fastRemove_b59b0) (maxL := 4) (ret := none) (by decide) rfl ?_
  intro p e s mm args below meth c s₁ B hml hv
  obtain ⟨rfl, hsz, hP, hK, hD0, hEl, hkk⟩ := hv
  have hx := B.exec
  have hb := B.bytes
  have hr := B.returns
  have hts := atoms_spec (ws := wsJx4a65c_fastRemove_b59b0) B.pre
  have hown : s.vm.findClass RJx4a65c = some mm.cls := findClass_of_methodNamed B.named
  have hlocks := B.notSynchronized
  have hin0 : ∀ w ∈ wsJx4a65c0, w ∈ wsJx4a65c_fastRemove_b59b0 := fun w h => List.mem_cons_of_mem _ (List.mem_append_right _ h)
  have l0 := hts (.fieldLink RJx4a65c 63 "java/util/ArrayList" "modCount" "I") (List.mem_of_getElem? (i := 1) rfl)
  have l1 := hts (.sameField "java/util/ArrayList" "java/util/AbstractList" "modCount" "I") (List.mem_of_getElem? (i := 2) rfl)
  have l2 := hts (.fieldLink RJx4a65c 48 "java/util/ArrayList" "size" "I") (List.mem_of_getElem? (i := 3) rfl)
  have l3 := hts (.methodLink RJx4a65c 112 arraycopyName) (List.mem_of_getElem? (i := 4) rfl)
  have l4 := hts (.native arraycopyName) (List.mem_of_getElem? (i := 5) rfl)
  have l5 := hts (.static arraycopyName) (List.mem_of_getElem? (i := 6) rfl)
  have l6 := hts (.initialized "java/lang/System") (List.mem_of_getElem? (i := 7) rfl)
  have hb31 : n < 2 ^ 31 := by omega
  subst hsz
  have hD : va_D (fun q => q = h ∨ q = ea) (lW h ea m (nI n) cO cap f) := hD0.weaken (fun k q hk _ => by
    match k, hk with
    | 0, hk => cases hk; exact Or.inl rfl
    | 1, hk => cases hk; exact Or.inr rfl
    | k + 2, hk => simp at hk)
  have hne : h ≠ ea := fun z => by
    have := hD0.1 0 1 _ _ rfl rfl z
    cases this
  generalize hAe : (fun q : Nat => q = h ∨ q = ea) = A at hD ⊢
  have hAo : ∀ q : Nat, q < s.heap.size → q ≠ h → q ≠ ea → ¬ A q := by
    intro q h1 h2 h3
    rw [← hAe]
    rintro (h4 | h4)
    · exact h2 h4
    · exact h3 h4
  have hS : va_S A s.heap s.heap [] := va_S.rf
  have hl := lv_entry ([.ref h, .ref ea, .int (nI i0)]) (n := 4) (Nat.le_of_ble_eq_true rfl)
  rw [lg_entry_eq]
  generalize (lg_sl ([.ref h, .ref ea, .int (nI i0)]) ++ List.replicate (4 - (lg_sl ([.ref h, .ref ea, .int (nI i0)])).length) Slot.unset).toArray = ls at hl ⊢
  have hl : lv_has ls 4 [(0, .ref h), (1, .ref ea), (2, .int (nI i0))] := hl
  refine lv_aload_n hx hb dJx4a65c_fastRemove_b59b0_0 rfl (lv_at hl 0 rfl) ?_
  refine lv_dup hx hb dJx4a65c_fastRemove_b59b0_1 rfl ?_
  refine va_get (C := RJx4a65c) (T := TJx4a65c) (N := 3) hx hb hts hin0 hown hK hP 0 rfl rfl 0 (by decide) l0 (u_same l1) rfl dJx4a65c_fastRemove_b59b0_2 ?_
  refine lv_iconst (v := 1) hx hb dJx4a65c_fastRemove_b59b0_5 (by decide) ?_
  refine lv_iadd hx hb dJx4a65c_fastRemove_b59b0_6 ?_
  refine va_put (C := RJx4a65c) (T := TJx4a65c) (N := 3) (ty := .int) hx hb hts hin0 tyJx4a65c tyJx4a65c_ok nmJx4a65c hown hK hP hD hS 0 rfl rfl 0 (by decide) l0 (u_same l1) rfl (by decide +kernel) rfl rfl (Nat.le_of_ble_eq_true rfl) dJx4a65c_fastRemove_b59b0_7 (fun H locs hP hD hS => ?_)
  have hP : va_P D vwCl (lW h ea (m + 1) (nI n) cO cap f) H := hP
  have hD : va_D A (lW h ea (m + 1) (nI n) cO cap f) := hD
  have hEl1 : lEl C h ea f s H := hEl.sameH (fun q h1 h2 h3 => hS.2.1 q h1 (hAo q h1 h2 h3))
  refine lv_aload_n hx hb dJx4a65c_fastRemove_b59b0_10 rfl (lv_at hl 0 rfl) ?_
  refine va_get (C := RJx4a65c) (T := TJx4a65c) (N := 3) hx hb hts hin0 hown hK hP 0 rfl rfl 2 (by decide) l2 (fun _ h => h) rfl dJx4a65c_fastRemove_b59b0_11 ?_
  refine lv_iconst (v := 1) hx hb dJx4a65c_fastRemove_b59b0_14 (by decide) ?_
  refine lv_isub hx hb dJx4a65c_fastRemove_b59b0_15 ?_
  have e1 : nI n - 1 = nI (n - 1) := pk_sub (a := n) (b := 1) (by omega)
  rw [e1]
  refine lv_dup hx hb dJx4a65c_fastRemove_b59b0_16 rfl ?_
  refine lv_istore_n (lv' := [(3, .int (nI (n - 1))), (0, .ref h), (1, .ref ea), (2, .int (nI i0))]) hx hb dJx4a65c_fastRemove_b59b0_17 rfl hl (by decide) rfl (fun ls hl => ?_)
  refine lv_iload_n hx hb dJx4a65c_fastRemove_b59b0_18 rfl (lv_at hl 3 rfl) ?_
  have tail : ∀ (g : Nat → Option Nat) (H : Heap) (locs : List Loc), va_P D vwCl (lW h ea (m + 1) (nI n) cO cap g) H → va_D A (lW h ea (m + 1) (nI n) cO cap g) → va_S A s.heap H locs → fRem f n i0 = va_up g (n - 1) none → W p l e (headSpec wsJx4a65c_fastRemove_b59b0 { frames := 2, cells := 0, slots := 0, locals := 60 }).room s mm (([.ref h, .ref ea, .int (nI i0)] : List Value).toArray) below meth c H locs 0 0 (MQ below (va_Qv (fun _ : Unit => True) (fun _ t => va_P D vwCl (lW h ea (m + 1) (nI (n - 1)) cO cap (fRem f n i0)) t.heap ∧ KK t) A) (([.ref h, .ref ea, .int (nI i0)] : List Value).toArray) s 0 0 A) (F0 mm 34 ls []) := by
    intro g H locs hP hD hS hg
    refine lv_aload_n hx hb dJx4a65c_fastRemove_b59b0_34 rfl (lv_at hl 2 rfl) ?_
    refine lv_aload_n hx hb dJx4a65c_fastRemove_b59b0_35 rfl (lv_at hl 1 rfl) ?_
    refine lv_iload_n hx hb dJx4a65c_fastRemove_b59b0_36 rfl (lv_at hl 0 rfl) ?_
    refine lv_dup_x1 hx hb dJx4a65c_fastRemove_b59b0_37 rfl rfl ?_
    refine va_put (C := RJx4a65c) (T := TJx4a65c) (N := 3) (ty := .int) hx hb hts hin0 tyJx4a65c tyJx4a65c_ok nmJx4a65c hown hK hP hD hS 0 rfl rfl 2 (by decide) l2 (fun _ h => h) rfl (by decide +kernel) rfl rfl (Nat.le_of_ble_eq_true rfl) dJx4a65c_fastRemove_b59b0_38 (fun H locs hP hD hS => ?_)
    have hP : va_P D vwCl (lW h ea (m + 1) (nI (n - 1)) cO cap g) H := hP
    have hD : va_D A (lW h ea (m + 1) (nI (n - 1)) cO cap g) := hD
    refine lv_null hx hb dJx4a65c_fastRemove_b59b0_41 ?_
    refine va_astqN (C := "java/lang/Object") hx hb hK hP hD hS 1 0 rfl rfl (vp_in_nI (by omega) hcap) dJx4a65c_fastRemove_b59b0_42 (fun H locs hP hD hS => ?_)
    have hP : va_P D vwCl (lW h ea (m + 1) (nI (n - 1)) cO cap (va_up g (nI (n - 1)).toNatClampNeg none)) H := hP
    rw [nI_clamp (by omega), ← hg] at hP
    exact W.vret hx hb hr (fun t ht hW => ⟨⟨(), rfl, trivial, by show va_P D vwCl _ t.heap; rw [ht]; exact hP, hKK _ _ hW.alike hkk⟩, hS.F ht⟩) hS.2.2 dJx4a65c_fastRemove_b59b0_43
  refine lv_icmp_le (tgt := 34) hx hb dJx4a65c_fastRemove_b59b0_19 (by decide) (fun hc => ?_) (fun hc => ?_)
  · have hge : ¬ i0 < n - 1 := fun z => nI_ge z (by omega) hc
    exact tail f H locs hP hD hS (by unfold fRem; rw [if_neg hge])
  · have hlt : i0 < n - 1 := by
      rcases Nat.lt_or_ge i0 (n - 1) with q | q
      · exact q
      · exact absurd (nI_le q (by omega)) hc
    refine lv_aload_n hx hb dJx4a65c_fastRemove_b59b0_22 rfl (lv_at hl 2 rfl) ?_
    refine lv_iload_n hx hb dJx4a65c_fastRemove_b59b0_23 rfl (lv_at hl 3 rfl) ?_
    refine lv_iconst (v := 1) hx hb dJx4a65c_fastRemove_b59b0_24 (by decide) ?_
    refine lv_iadd hx hb dJx4a65c_fastRemove_b59b0_25 ?_
    refine lv_aload_n hx hb dJx4a65c_fastRemove_b59b0_26 rfl (lv_at hl 2 rfl) ?_
    refine lv_iload_n hx hb dJx4a65c_fastRemove_b59b0_27 rfl (lv_at hl 3 rfl) ?_
    refine lv_iload_n hx hb dJx4a65c_fastRemove_b59b0_28 rfl (lv_at hl 0 rfl) ?_
    refine lv_iload_n hx hb dJx4a65c_fastRemove_b59b0_29 rfl (lv_at hl 3 rfl) ?_
    refine lv_isub hx hb dJx4a65c_fastRemove_b59b0_30 ?_
    rw [nI_1, pk_sub (a := n - 1) (b := i0) (by omega)]
    have c1 : (nI (i0 + 1)).toNatClampNeg = i0 + 1 := nI_clamp (by omega)
    have c2 : (nI i0).toNatClampNeg = i0 := nI_clamp (by omega)
    have c3 : (nI (n - 1 - i0)).toNatClampNeg = n - 1 - i0 := nI_clamp (by omega)
    refine va_copyq (C := C) (E0 := "java/lang/Object") (E1 := "java/lang/Object") hx hb (hml.trans hl.1.symm) hown l3 l4 l5 l6 hK hP hD hS 1 1 0 0 rfl rfl rfl rfl (nI_pos (by omega)) (nI_pos (by omega)) (nI_pos (by omega)) (by rw [c1, c3]; omega) (by rw [c2, c3]; omega) (fun i hi y hy => (hEl1.2 _ y hy).2.2) hEl1.asg (by decide) (by decide +kernel) dJx4a65c_fastRemove_b59b0_31 (fun H locs hP hD hS => ?_)
    rw [c1, c2, c3] at hP hD
    exact tail _ H locs hP hD hS (by unfold fRem; rw [if_pos hlt])
theorem lm_fastRemove2 (l : Launch) (D : va_G) (C : String) (cO : ClassId) (h ea sz : Nat) (m : Int32) (cap n i0 : Nat) (f : Nat → Option Nat) (KK : State → Prop) (hKK : ∀ u U : State, u.vm.Alike U.vm → KK u → KK U) (hin : i0 < n) (hnc : n ≤ cap) (hcap : cap < 2 ^ 31) : Met l yJx4a65c_fastRemove_b59b0 wsJx4a65c_fastRemove_b59b0 { frames := 2, cells := 0, slots := 0, locals := 60 } (va_Pc [.ref h, .ref ea, .int (nI i0)] (fun U => U.heap.size = sz ∧ va_P D vwCl (lW h ea m (nI n) cO cap f) U.heap ∧ va_K D vwCl [(cO, .object "java/lang/Object")] U ∧ va_D (fun _ => True) (lW h ea m (nI n) cO cap f) ∧ lEl C h ea f U U.heap ∧ KK U)) (va_Qv (fun _ : Unit => True) (fun _ t => va_P D vwCl (lW h ea (m + 1) (nI (n - 1)) cO cap (fRem f n i0)) t.heap ∧ KK t) (fun q => q = h ∨ q = ea)) 0 0 (fun q => q = h ∨ q = ea) := lm_fastRemove l D C cO h ea sz m cap n i0 f KK hKK hin hnc hcap
/-! A list's cells out of the class's world, and back. -/
theorem cl_take {D : va_G} {G : CGT} {A : Nat → Prop} {ad : Nat → Nat → Nat} {Z : CZ} {H : Heap} {lx : Nat} (hI : cI A ad Z.2.2) (hN : cN D G ad Z H) (h3 : cLv Z.2.2 3 lx = true) (h4 : cLv Z.2.2 4 lx = true) : va_P D vwCl (lW (ad 3 lx) (ad 4 lx) (Z.1 3 lx 0) (Z.1 3 lx 2) G.2.2.1 (Z.2.2 (10 + lx)) (fun j => (Z.2.1 4 lx j).map (ad (cEk lx)))) H ∧ va_D (fun _ => True) (lW (ad 3 lx) (ad 4 lx) (Z.1 3 lx 0) (Z.1 3 lx 2) G.2.2.1 (Z.2.2 (10 + lx)) (fun j => (Z.2.1 4 lx j).map (ad (cEk lx)))) := by
  have hne : ad 3 lx ≠ ad 4 lx := fun z => by
    have := (hI.1 3 lx 4 lx h3 h4 z).1
    omega
  have e3 : cS ad G Z 3 lx = .inr (0, [.int (Z.1 3 lx 0), .ref (ad 4 lx), .int (Z.1 3 lx 2)]) := by
    show Sum.inr (0, [Value.int (Z.1 3 lx 0), Value.ref (if Z.2.2 (10 + lx) = 0 then G.2.2.2.2 else ad 4 lx), Value.int (Z.1 3 lx 2)]) = _
    rw [if_neg (cLv4 h4)]
  refine ⟨fun k q hk => ?_, ⟨fun i j x y hi hj hxy => ?_, fun _ _ _ => trivial⟩⟩
  · match k, hk with
    | 0, hk => cases hk; rw [← e3]; exact hN 3 lx h3
    | 1, hk => cases hk; exact hN 4 lx h4
    | k + 2, hk => simp at hk
  · match i, j, hi, hj with
    | 0, 0, _, _ => rfl
    | 1, 1, _, _ => rfl
    | 0, 1, hi, hj => cases hi; cases hj; exact absurd hxy hne
    | 1, 0, hi, hj => cases hi; cases hj; exact absurd hxy.symm hne
    | i + 2, _, hi, _ => simp at hi
    | _, j + 2, _, hj => simp at hj
theorem cl_back {D : va_G} {G : CGT} {A : Nat → Prop} {ad : Nat → Nat → Nat} {Z : CZ} {H H1 : Heap} {lx : Nat} {m z : Int32} {f : Nat → Option Nat} {row : Nat → Int32} {R' : Nat → Option Nat} (hI : cI A ad Z.2.2) (hN : cN D G ad Z H) (h3 : cLv Z.2.2 3 lx = true) (h4 : cLv Z.2.2 4 lx = true) (hk : ∀ q : Nat, q < H.size → q ≠ ad 3 lx → q ≠ ad 4 lx → H1[q]? = H[q]?) (h1 : va_P D vwCl (lW (ad 3 lx) (ad 4 lx) m z G.2.2.1 (Z.2.2 (10 + lx)) f) H1) (hm : row 0 = m) (hz : row 2 = z) (hf : f = fun j => (R' j).map (ad (cEk lx))) : cN D G ad (cuR (cuI Z 3 lx row) 4 lx R') H1 := by
  subst hm hz hf
  intro k i hl
  have hl : cLv Z.2.2 k i = true := hl
  by_cases c4 : k = 4 ∧ i = lx
  · obtain ⟨rfl, rfl⟩ := c4
    rw [cS_R]
    exact h1 1 _ rfl
  · rw [cS_Rn k i c4]
    by_cases c3 : k = 3 ∧ i = lx
    · obtain ⟨rfl, rfl⟩ := c3
      rw [cS_I]
      show va_at D vwCl (_, Sum.inr (0, [Value.int (row 0), Value.ref (if Z.2.2 (10 + i) = 0 then G.2.2.2.2 else ad 4 i), Value.int (row 2)])) H1
      rw [if_neg (cLv4 h4)]
      exact h1 0 _ rfl
    · rw [cS_In k i c3]
      exact (hN k i hl).kept (hk _ (hN k i hl).lt (fun z => c3 (hI.1 k i 3 lx hl h3 z)) (fun z => c4 (hI.1 k i 4 lx hl h4 z)))
/-- what a list holds is there -/
def lLive (Z : CZ) (lx : Nat) : Prop := ∀ j q : Nat, Z.2.1 4 lx j = some q → cLv Z.2.2 (cEk lx) q = true
theorem cEk_ne (lx : Nat) : cEk lx ≠ 3 ∧ cEk lx ≠ 4 := by
  match lx with
  | 0 => decide | 1 => decide | 2 => decide | 3 => decide
  | n + 4 => show 13 ≠ 3 ∧ 13 ≠ 4; decide
theorem cl_el {D : va_G} {G : CGT} {A : Nat → Prop} {ad : Nat → Nat → Nat} {Z : CZ} {H : Heap} {U : State} {lx : Nat} (hI : cI A ad Z.2.2) (hN : cN D G ad Z H) (hK : cK D G U) (h3 : cLv Z.2.2 3 lx = true) (h4 : cLv Z.2.2 4 lx = true) (hL : lLive Z lx) : lEl (cEC lx) (ad 3 lx) (ad 4 lx) (fun j => (Z.2.1 4 lx j).map (ad (cEk lx))) U H := by
  refine ⟨hK.2 _ (cEC_in lx), fun j y hy => ?_⟩
  have hy : (Z.2.1 4 lx j).map (ad (cEk lx)) = some y := hy
  cases hq : Z.2.1 4 lx j with
  | none => rw [hq] at hy; cases hy
  | some q =>
    rw [hq] at hy
    cases hy
    have hv := hL j q hq
    exact ⟨fun z => (cEk_ne lx).1 (hI.1 _ _ 3 lx hv h3 z).1, fun z => (cEk_ne lx).2 (hI.1 _ _ 4 lx hv h4 z).1, cEl_cell hK hN lx q hv⟩
theorem fRem_map (R : Nat → Option Nat) (g : Nat → Nat) (n i : Nat) : fRem (fun j => (R j).map g) n i = fun j => (fRem R n i j).map g := by
  funext j
  unfold fRem va_up
  by_cases h : j = n - 1
  · rw [if_pos h, if_pos h]; rfl
  · rw [if_neg h, if_neg h]
    by_cases h2 : i < n - 1
    · rw [if_pos h2, if_pos h2]
      unfold va_cpy
      by_cases h3 : i ≤ j ∧ j < i + (n - 1 - i)
      · rw [if_pos h3, if_pos h3]
      · rw [if_neg h3, if_neg h3]
    · rw [if_neg h2, if_neg h2]
noncomputable def fJx4a65c_fastRemove_b59b0 (lx : Nat) (a2 : Int32) (Z : CZ) : Option CZ := gp (cLv Z.2.2 3 lx = true ∧ cLv Z.2.2 4 lx = true ∧ Z.1 3 lx 2 = nI (Z.1 3 lx 2).toNatClampNeg ∧ a2 = nI a2.toNatClampNeg ∧ a2.toNatClampNeg < (Z.1 3 lx 2).toNatClampNeg ∧ (Z.1 3 lx 2).toNatClampNeg ≤ Z.2.2 (10 + lx) ∧ Z.2.2 (10 + lx) < 2 ^ 31 ∧ lLive Z lx) (some (cuR (cuI Z 3 lx (upd (upd (Z.1 3 lx) 0 (Z.1 3 lx 0 + 1)) 2 (nI ((Z.1 3 lx 2).toNatClampNeg - 1)))) 4 lx (fRem (Z.2.1 4 lx) (Z.1 3 lx 2).toNatClampNeg a2.toNatClampNeg)))
def rmJx4a65c_fastRemove_b59b0 : Room := { frames := 2, cells := 0, slots := 0, locals := 60 }
theorem mJx4a65c_fastRemove_b59b0 (l : Launch) (D : va_G) (G : CGT) (A : Nat → Prop) (ad : Nat → Nat → Nat) (Z : CZ) (lx : Nat) (a2 : Int32) (Zz : CZ) (h : fJx4a65c_fastRemove_b59b0 lx a2 Z = some Zz) : Met l yJx4a65c_fastRemove_b59b0 wsJx4a65c_fastRemove_b59b0 rmJx4a65c_fastRemove_b59b0 (va_Pc [.ref (ad 3 lx), .ref (ad 4 lx), .int a2] (cP D G A ad Z)) (cQv D G A ad Zz) 0 0 A := by
  unfold fJx4a65c_fastRemove_b59b0 at h
  obtain ⟨⟨h3, h4, hz, ha, hin, hnc, hcap, hL⟩, h⟩ := gp_ok h
  cases h
  refine Met.fam (fun a U hP => ?_)
  obtain ⟨rfl, hI, hN, hK⟩ := hP
  obtain ⟨hP2, hD2⟩ := cl_take hI hN h3 h4
  have hEl := cl_el hI hN hK h3 h4 hL
  have hA3 : A (ad 3 lx) := hI.2 3 lx h3
  have hA4 : A (ad 4 lx) := hI.2 4 lx h4
  refine ⟨_, _, fun q => q = ad 3 lx ∨ q = ad 4 lx, lm_fastRemove2 l D (cEC lx) G.2.2.1 (ad 3 lx) (ad 4 lx) U.heap.size (Z.1 3 lx 0) (Z.2.2 (10 + lx)) (Z.1 3 lx 2).toNatClampNeg a2.toNatClampNeg (fun j => (Z.2.1 4 lx j).map (ad (cEk lx))) (cK D G) (fun _ _ hv hk => hk.moved hv) hin hnc hcap, ⟨by rw [← ha], rfl, by rw [← hz]; exact hP2, hK.1.sub [2] rfl, by rw [← hz]; exact hD2, hEl, hK⟩, fun o t hQ => ?_, fun q hq => ?_⟩
  · obtain ⟨⟨_, rfl, -, hP3, hK3⟩, hF⟩ := hQ
    refine ⟨⟨_, rfl, rfl, hI, cl_back hI hN h3 h4 (fun q h1 h2 h3 => hF.2 q h1 (fun z => ?_)) hP3 rfl rfl (fRem_map _ _ _ _), hK3⟩, hF.1, fun q h1 h2 => hF.2 q h1 (fun z => h2 ?_)⟩
    · rcases z with z | z
      · exact h2 z
      · exact h3 z
    · rcases z with rfl | rfl
      · exact hA3
      · exact hA4
  · rcases hq with rfl | rfl
    · exact hA3
    · exact hA4

