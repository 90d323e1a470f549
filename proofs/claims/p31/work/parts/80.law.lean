/-! THE LAW: draw, the loop. -/
theorem rm_c : 600000 ≤ room_1.cells := Nat.le_of_ble_eq_true rfl
theorem rm_s : 7000000 ≤ room_1.slots := Nat.le_of_ble_eq_true rfl
def rmL_draw : Room := { frames := 1, cells := 0, slots := 0, locals := 30 }
/-- the script, readable -/
def rP (b L : Nat) (xs : Nat → Int32) (U : State) : Prop := va_X b L xs U U.heap ∧ b < U.heap.size
theorem rP_call {b L : Nat} {xs : Nat → Int32} {as : List Value} : FrameBlind (va_Pc as (rP b L xs)) := fun a U g mk h => ⟨h.1, va_X.moved (u := U) (U := U.calling g mk a) (Vm.Alike.refl U.vm) h.2.1, h.2.2⟩
def rQ (v : Int32) : Array Value → State → Outcome → State → Prop := va_Qi (fun (r : Int32) (_ : Unit) => r = v) (fun _ _ => True) (fun _ => False)
set_option maxHeartbeats 4000000 in
set_option maxRecDepth 100000 in
theorem mL_draw (l : Launch) (b L k : Nat) (xs : Nat → Int32) (hk : k < L) (hL : L ≤ 260) : Met l yL_draw wsL_draw rmL_draw (va_Pc [.ref b, .int (nI k)] (rP b L xs)) (rQ (xs k &&& 2147483647)) 0 0 (fun _ => False) := by
  refine Met.ofW (cc := cL_draw) (maxL := 2) (ret := some .int) (by decide) rfl ?_
  intro p e s m args below meth c s₁ B hml hv
  obtain ⟨rfl, hX, hbl⟩ := hv
  have hx := B.exec
  have hb := B.bytes
  have hr := B.returns
  have hts := atoms_spec (ws := wsL_draw) B.pre
  have hown : s.vm.findClass RL = some m.cls := findClass_of_methodNamed B.named
  have hS : va_S (fun _ : Nat => False) s.heap s.heap [] := va_S.rf
  have hl := lv_entry ([.ref b, .int (nI k)]) (n := 2) (Nat.le_of_ble_eq_true rfl)
  rw [lg_entry_eq]
  generalize (lg_sl ([.ref b, .int (nI k)]) ++ List.replicate (2 - (lg_sl ([.ref b, .int (nI k)])).length) Slot.unset).toArray = ls at hl ⊢
  have hl : lv_has ls 2 [(0, .ref b), (1, .int (nI k))] := hl
  refine lv_iload_n hx hb dL_draw_0 rfl (lv_at hl 1 rfl) ?_
  refine lv_aload_n hx hb dL_draw_1 rfl (lv_at hl 0 rfl) ?_
  refine va_slen hx hb hX hbl (fun h => h) hS dL_draw_2 ?_
  refine lv_icmp_ge (tgt := 15) hx hb dL_draw_3 (by decide) (fun hc => absurd hc (show ¬ (nI L ≤ nI k) from nI_ge hk (by omega))) (fun _ => ?_)
  refine lv_aload_n hx hb dL_draw_6 rfl (lv_at hl 0 rfl) ?_
  refine lv_iload_n hx hb dL_draw_7 rfl (lv_at hl 1 rfl) ?_
  refine va_sld hx hb hX hbl (fun h => h) hS (vp_in_nI (n := k) (N := L) (by omega) (by omega)) dL_draw_8 ?_
  refine lv_ldc (v := 2147483647) hx hb hown (hts (.constant RL 7 2147483647) (List.mem_of_getElem? (i := 1) rfl)) dL_draw_9 ?_
  refine lv_iand hx hb dL_draw_11 ?_
  refine lv_goto (tgt := 24) hx hb dL_draw_12 (by decide) ?_
  refine W.iret hx hb hr (fun t ht hW => ⟨⟨_, (), rfl, ?_, trivial⟩, hS.F ht⟩) (fun z hz => hS.2.2 z hz) dL_draw_24
  rw [nI_clamp (show k < 2 ^ 31 by omega)]
section LAWL
variable {p : Program} {l : Launch} {e : Env} {R : Room} {s : State} {m : MethodId} {args : Array Value} {below : List Frame} {meth : Method} {c : Code} {H : Heap} {locs : List Loc} {cells slots : Nat} {Q : State → Prop} {b L : Nat} {xs : Nat → Int32}
variable {cc : ByteArray} {pc : Nat} {ls : Array Slot} {rest st0 : List Value} {D : va_G} {G : CGT} {A FA : Nat → Prop} {ad : Nat → Nat → Nat} {Z : CZ} {q n : Nat} {F : Nat → Int32}
theorem sP_call {as : List Value} : FrameBlind (va_Pc as (sP D G A ad Z q n F)) := fun a U g mk h => by
  have x := (xP_call (A := fun y => A y ∨ y = q) (as := as) (D := D) (G := G) (ad := ad) (Z := Z)) a U g mk ⟨h.1, ⟨⟨cI_wide h.2.1.1.1 (fun _ z => Or.inl z), h.2.1.1.2⟩, h.2.1.2⟩⟩
  exact ⟨h.1, ⟨⟨h.2.1.1.1, x.2.1.2⟩, x.2.2⟩, h.2.2.1.go (s := U) (U := U.calling g mk a) va_S.rf (Vm.Alike.refl U.vm), h.2.2.2⟩
theorem tg_preS {as : List Value} (hI : cI A ad Z.2.2) (hK : cK D G s) (hN : cN D G ad Z H) (hE : cE FA s s.heap) (hF : cF G FA s s.heap) (hA : ∀ y, H.size ≤ y → A y) (hq : va_at D vwCl (q, .inl (G.1, n, .inl F)) H) (hnq : ¬ A q) (hS : va_S FA s.heap H locs) (hAF : ∀ y, A y ∨ y = q → FA y) : PreS s H (va_Pc as (sP D G A ad Z q n F)) as :=
  ⟨sP_call, fun U hU hW => ⟨rfl, ⟨⟨hI, by rw [hU]; exact hN, hK.moved hW.alike⟩, by rw [hU]; exact (hE.go hS hW).narrow hAF⟩, by rw [hU]; exact (hF.go hS hW.alike).narrow hAF, by rw [hU]; exact hA, by rw [hU]; exact hq, hnq⟩⟩
theorem rg_preS {as : List Value} (hX : va_X b L xs s s.heap) (hbl : b < s.heap.size) (hbA : ¬ FA b) (hS : va_S FA s.heap H locs) : PreS s H (va_Pc as (rP b L xs)) as :=
  ⟨rP_call, fun U hU hW => ⟨rfl, by rw [hU]; exact (hX.moved hW.alike).kept (hS.2.1 b hbl hbA), by rw [hU]; exact Nat.lt_of_lt_of_le hbl hS.1⟩⟩
/-- a draw -/
theorem law_draw (hx : p.tables.exec = Jvm.exec) (hb : c.code = cL_law) (hml : c.maxLocals = 6) (hown : s.vm.findClass RL = some m.cls) (hts : ∀ w ∈ wsL_law, w.before args s = true) (hX : va_X b L xs s s.heap) (hbl : b < s.heap.size) (hbA : ¬ FA b) (hL : L ≤ 260) {j : Nat} (hj : j < L) (hN : cN D G ad Z H) (hq : va_at D vwCl (q, .inl (G.1, n, .inl F)) H) (hS : va_S FA s.heap H locs) (hls : ls.size = 6) (hW : 2 * (F0 m pc ls (.int (nI j) :: .ref b :: rest)).monitorRoom + (rest.map fun v => v.category).sum ≤ 8) (hdg : decode cL_law pc = .ok (.invokestatic 158, 3)) (hR : rmL_draw.frames + 1 ≤ R.frames ∧ 8 + (2 + 11) + rmL_draw.locals ≤ R.locals) (hf : cells + 0 ≤ R.cells ∧ slots + 0 ≤ R.slots)
    (kk : ∀ (w : Nat) (H1 : Heap) (locs1 : List Loc), w < 2147483648 → cN D G ad Z H1 → va_at D vwCl (q, .inl (G.1, n, .inl F)) H1 → va_S FA s.heap H1 locs1 → H.size ≤ H1.size → W p l e R s m args below meth c H1 locs1 cells slots Q (F0 m (pc + 3) ls (.int (nI w) :: rest))) : W p l e R s m args below meth c H locs cells slots Q (F0 m pc ls (.int (nI j) :: .ref b :: rest)) := by
  refine va_calli (va_runS (As := [.ref b, .int (nI j)]) (rest := rest) ⟨hx, hb, hml, hown, hts⟩ (mL_draw l b L j xs hj hL) (va_cwS 2 hts gL_law_L_draw rfl rfl rfl (by decide +kernel) hR) (rg_preS hX hbl hbA hS) rfl rfl hls rfl hW hdg hf) hS (fun _ _ h => h.elim) (fun _ h => h.elim) (fun r u t H1 locs1 ht hvm hw hB hz hk hS1 => ?_)
  obtain ⟨w, hw1, hw2⟩ := pk_andE (xs j) (m := 2147483647) 31 (by decide)
  have er : r = nI w := hw.trans hw2
  rw [er]
  exact kk w H1 locs1 (by omega) (fun k i hl => (hN k i hl).kept (hk _ (hN k i hl).lt (fun z => z))) (hq.kept (hk q hq.lt (fun z => z))) hS1 hz
set_option maxHeartbeats 8000000 in
set_option maxRecDepth 100000 in
/-- the law's loop: at its head, behind k steps -/
theorem law_loop (hx : p.tables.exec = Jvm.exec) (hb : c.code = cL_law) (hml : c.maxLocals = 6) (hown : s.vm.findClass RL = some m.cls) (hts : ∀ w ∈ wsL_law, w.before #[Value.ref b] s = true) (hX : va_X b L xs s s.heap) (hbl : b < s.heap.size) (hfl : l.stackTraces = false) (hK : cK D G s) (hE : cE (fun y : Nat => s.heap.size ≤ y) s s.heap) (hF : cF G (fun y : Nat => s.heap.size ≤ y) s s.heap) (hqs : s.heap.size ≤ q) (hL : L ≤ 260) {st : Nat} (h80 : st ≤ 80) (h3 : 3 * st ≤ L)
    (hend : ∀ (H : Heap) (locs : List Loc) (ls : Array Slot), va_S (fun y : Nat => s.heap.size ≤ y) s.heap H locs → ls[3]? = some (.val (.int 1)) → W p l e room_1 s m #[Value.ref b] below meth c H locs (100 + 28 * 80) (2000 + 168 * 80) Q (F0 m 159 ls [])) :
    ∀ (d k : Nat) (ad : Nat → Nat → Nat) (Z : CZ) (F : Nat → Int32) (H : Heap) (locs : List Loc) (ls : Array Slot), k + d = st → INV (6 * k) Z F → cI (fun y : Nat => s.heap.size ≤ y ∧ y ≠ q) ad Z.2.2 → cN D G ad Z H → va_at D vwCl (q, .inl (G.1, 5, .inl F)) H → va_S (fun y : Nat => s.heap.size ≤ y) s.heap H locs → lv_has ls 6 [(0, .ref b), (1, .ref (ad 0 0)), (2, .ref q), (3, .int 1), (4, .int (nI st)), (5, .int (nI k))] → W p l e room_1 s m #[Value.ref b] below meth c H locs (100 + 28 * k) (2000 + 168 * k) Q (F0 m 85 ls []) := by
  have hbA : ¬ (fun y : Nat => s.heap.size ≤ y) b := Nat.not_le.mpr hbl
  have hnq : ¬ (fun y : Nat => s.heap.size ≤ y ∧ y ≠ q) q := fun z => z.2 rfl
  have hAF : ∀ y : Nat, (s.heap.size ≤ y ∧ y ≠ q) ∨ y = q → s.heap.size ≤ y := fun y h => h.elim (fun z => z.1) (fun z => by rw [z]; exact hqs)
  intro d
  induction d with
  | zero =>
    intro k ad Z F H locs ls hk hV hI hN hq hS hl
    refine lv_iload hx hb dL_law_85 (lv_at hl 5 rfl) ?_
    refine lv_iload hx hb dL_law_87 (lv_at hl 4 rfl) ?_
    refine lv_icmp_ge (tgt := 159) hx hb dL_law_89 (by decide) (fun _ => ?_) (fun hc => absurd (show nI st ≤ nI k from nI_le (by omega) (by omega)) hc)
    refine W.widen (k := 100 + 28 * 80) (n := 2000 + 168 * 80) (by omega) (by omega) ?_
    exact hend H locs ls hS (lv_at hl 3 rfl)
  | succ d ih =>
    intro k ad Z F H locs ls hk hV hI hN hq hS hl
    have hk80 : k < 80 := by omega
    have c1 : 100 + 28 * k + 28 ≤ room_1.cells := Nat.le_trans (show 100 + 28 * k + 28 ≤ 600000 by omega) rm_c
    have c2 : 2000 + 168 * k + 168 ≤ room_1.slots := Nat.le_trans (show 2000 + 168 * k + 168 ≤ 7000000 by omega) rm_s
    have c3 : 100 + 28 * k + 0 ≤ room_1.cells := Nat.le_trans (Nat.le_add_right _ 28) c1
    have c4 : 2000 + 168 * k + 0 ≤ room_1.slots := Nat.le_trans (Nat.le_add_right _ 168) c2
    have m0 : (3 : Int32) * nI k = nI (3 * k) := pk_mul 3 k
    have m1 : (3 : Int32) * nI k + 1 = nI (3 * k + 1) := by rw [m0]; exact nI_add (3 * k) 1
    have m2 : (3 : Int32) * nI k + 2 = nI (3 * k + 2) := by rw [m0]; exact nI_add (3 * k) 2
    refine lv_iload hx hb dL_law_85 (lv_at hl 5 rfl) ?_
    refine lv_iload hx hb dL_law_87 (lv_at hl 4 rfl) ?_
    refine lv_icmp_ge (tgt := 159) hx hb dL_law_89 (by decide) (fun hc => absurd hc (show ¬ (nI st ≤ nI k) from nI_ge (by omega) (by omega))) (fun _ => ?_)
    refine lv_iload_n hx hb dL_law_92 rfl (lv_at hl 3 rfl) ?_
    refine lv_if_eq (tgt := 159) hx hb dL_law_93 (by decide) (fun hc => absurd hc (by decide)) (fun _ => ?_)
    refine lv_aload_n hx hb dL_law_96 rfl (lv_at hl 1 rfl) ?_
    refine lv_aload_n hx hb dL_law_97 rfl (lv_at hl 2 rfl) ?_
    refine lv_aload_n hx hb dL_law_98 rfl (lv_at hl 0 rfl) ?_
    refine lv_iconst (v := 3) hx hb dL_law_99 (by decide) ?_
    refine lv_iload hx hb dL_law_100 (lv_at hl 5 rfl) ?_
    refine lv_imul hx hb dL_law_102 ?_
    refine W_stk (st' := [.int (nI (3 * k)), .ref b, .ref q, .ref (ad 0 0)]) (by rw [m0]) ?_
    refine law_draw hx hb hml hown hts hX hbl hbA hL (by omega) hN hq hS hl.1 (lv_room (Nat.le_of_ble_eq_true rfl)) dL_law_103 ⟨Nat.le_of_ble_eq_true rfl, Nat.le_of_ble_eq_true rfl⟩ ⟨c3, c4⟩ (fun w H locs hw hN hq hS _ => ?_)
    refine lv_aload_n hx hb dL_law_106 rfl (lv_at hl 0 rfl) ?_
    refine lv_iconst (v := 3) hx hb dL_law_107 (by decide) ?_
    refine lv_iload hx hb dL_law_108 (lv_at hl 5 rfl) ?_
    refine lv_imul hx hb dL_law_110 ?_
    refine lv_iconst (v := 1) hx hb dL_law_111 (by decide) ?_
    refine lv_iadd hx hb dL_law_112 ?_
    refine W_stk (st' := [.int (nI (3 * k + 1)), .ref b, .int (nI w), .ref q, .ref (ad 0 0)]) (by rw [m1]) ?_
    refine law_draw hx hb hml hown hts hX hbl hbA hL (by omega) hN hq hS hl.1 (lv_room (Nat.le_of_ble_eq_true rfl)) dL_law_113 ⟨Nat.le_of_ble_eq_true rfl, Nat.le_of_ble_eq_true rfl⟩ ⟨c3, c4⟩ (fun a H locs ha hN hq hS _ => ?_)
    refine lv_aload_n hx hb dL_law_116 rfl (lv_at hl 0 rfl) ?_
    refine lv_iconst (v := 3) hx hb dL_law_117 (by decide) ?_
    refine lv_iload hx hb dL_law_118 (lv_at hl 5 rfl) ?_
    refine lv_imul hx hb dL_law_120 ?_
    refine lv_iconst (v := 2) hx hb dL_law_121 (by decide) ?_
    refine lv_iadd hx hb dL_law_122 ?_
    refine W_stk (st' := [.int (nI (3 * k + 2)), .ref b, .int (nI a), .int (nI w), .ref q, .ref (ad 0 0)]) (by rw [m2]) ?_
    refine law_draw hx hb hml hown hts hX hbl hbA hL (by omega) hN hq hS hl.1 (lv_room (Nat.le_of_ble_eq_true rfl)) dL_law_123 ⟨Nat.le_of_ble_eq_true rfl, Nat.le_of_ble_eq_true rfl⟩ ⟨c3, c4⟩ (fun z H locs hz hN hq hS _ => ?_)
    obtain ⟨Z1, F1, hst, hV1⟩ := p_step (by omega) hV hw ha hz
    refine va_calli (va_runS (As := [.ref (ad 0 0), .ref q, .int (nI w), .int (nI a), .int (nI z)]) (rest := []) ⟨hx, hb, hml, hown, hts⟩ (mL_step l hfl D G (fun y : Nat => s.heap.size ≤ y ∧ y ≠ q) ad Z q F (nI w) (nI a) (nI z) 1 Z1 F1 hst) (va_cwS 5 hts gL_law_L_step rfl rfl rfl (by decide +kernel) ⟨Nat.le_of_ble_eq_true rfl, Nat.le_of_ble_eq_true rfl⟩) (tg_preS hI hK hN hE hF (fun y hy => ⟨Nat.le_trans hS.1 hy, fun z => by rw [z] at hy; exact absurd hq.lt (Nat.not_lt.mpr hy)⟩) hq hnq hS hAF) rfl rfl hl.1 rfl (lv_room (Nat.le_of_ble_eq_true rfl)) dL_law_126 ⟨c1, c2⟩) hS (fun y _ h => hAF y h) (fun y h => hAF y h) (fun r u t H locs ht hvm hw9 hB hz9 hk9 hS => ?_)
    obtain ⟨Zu, ad1, Fu⟩ := u
    obtain ⟨h91, h92, h00, h93⟩ := hw9
    subst h91
    have h92 : Zu = Z1 := h92
    have h93 : Fu = F1 := h93
    subst h92
    subst h93
    have h00 : ad1 0 0 = ad 0 0 := h00
    obtain ⟨⟨hI, hN, -⟩, hq⟩ := hB
    have hN : cN D G ad1 Zu t.heap := hN
    have hq : va_at D vwCl (q, .inl (G.1, 5, .inl Fu)) t.heap := hq
    rw [ht] at hN hq
    rw [← h00] at hl
    refine lv_if_eq (tgt := 151) hx hb dL_law_129 (by decide) (fun hc => absurd hc (by decide)) (fun _ => ?_)
    have fin : ∀ (H : Heap) (locs : List Loc), cN D G ad1 Zu H → va_at D vwCl (q, .inl (G.1, 5, .inl Fu)) H → va_S (fun y : Nat => s.heap.size ≤ y) s.heap H locs → W p l e room_1 s m #[Value.ref b] below meth c H locs (100 + 28 * k + 28) (2000 + 168 * k + 168) Q (F0 m 147 ls []) := fun H locs hN hq hS => by
      refine lv_iconst (v := 1) hx hb dL_law_147 (by decide) ?_
      refine lv_goto (tgt := 152) hx hb dL_law_148 (by decide) ?_
      refine lv_istore_n (lv' := [(3, .int 1), (0, .ref b), (1, .ref (ad1 0 0)), (2, .ref q), (4, .int (nI st)), (5, .int (nI k))]) hx hb dL_law_152 rfl hl (by decide) rfl (fun ls hl => ?_)
      refine lv_iinc (v := nI (k + 1)) (lv' := [(5, .int (nI (k + 1))), (3, .int 1), (0, .ref b), (1, .ref (ad1 0 0)), (2, .ref q), (4, .int (nI st))]) hx hb dL_law_153 hl (k := 5) rfl (show nI k + nI 1 = nI (k + 1) from nI_add k 1) (by decide) rfl (fun ls hl => ?_)
      refine lv_goto (tgt := 85) hx hb dL_law_156 (by decide) ?_
      refine W.widen (k := 100 + 28 * (k + 1)) (n := 2000 + 168 * (k + 1)) (by omega) (by omega) ?_
      exact ih (k + 1) ad1 Zu Fu H locs ls (by omega) hV1 hI hN hq hS (lv_sub hl [2, 3, 4, 1, 5, 0] rfl)
    refine lv_iload hx hb dL_law_132 (lv_at hl 5 rfl) ?_
    refine lv_bipush (v := 8) hx hb dL_law_134 (by decide) ?_
    refine lv_irm hx hb dL_law_136 (by decide) ?_
    refine lv_if_gt (tgt := 147) hx hb dL_law_137 (by decide) (fun _ => fin H locs hN hq hS) (fun _ => ?_)
    refine lv_aload_n hx hb dL_law_140 rfl (lv_at hl 1 rfl) ?_
    refine sg_calli (va_runS (As := [.ref (ad1 0 0)]) (rest := []) ⟨hx, hb, hml, hown, hts⟩ (mL_areRanked l hfl D G (fun y : Nat => s.heap.size ≤ y ∧ y ≠ q) ad1 Zu 1 (p_ranked hV1)) (va_cwS 1 hts gL_law_L_areRanked rfl rfl rfl (by decide +kernel) ⟨Nat.le_of_ble_eq_true rfl, Nat.le_of_ble_eq_true rfl⟩) (sg_preS hI hK hN hE hS (fun _ h => h.1)) rfl rfl hl.1 rfl (lv_room (Nat.le_of_ble_eq_true rfl)) dL_law_141 ⟨c1, c2⟩) hS (fun _ h => h.1) hq hnq ⟨_, rfl⟩ (fun H locs hI hN hq hS => ?_)
    refine lv_if_eq (tgt := 151) hx hb dL_law_144 (by decide) (fun hc => absurd hc (by decide)) (fun _ => ?_)
    exact fin H locs hN hq hS
end LAWL
