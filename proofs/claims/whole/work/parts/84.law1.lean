section LAWD
variable {p : Program} {l : Launch} {e : Env} {R : Room} {s : State} {m : MethodId} {args : Array Value} {below : List Frame} {meth : Method} {c : Code} {H : Heap} {locs : List Loc} {Q : State → Prop} {b L : Nat} {xs : Nat → Int32} {cells slots pc : Nat} {rest st0 : List Value} {H0 : Heap}
variable {ls : Array Slot} {D : va_G} {G : CGT} {ad : Nat → Nat → Nat} {Z : CZ} {mad : Nat → Nat} {kI kZ cJ : ClassId} {M : MT} {q : Nat} {f : Nat → Int64} {A0 : Nat → Prop}
theorem lg_night {ar : Array Value} {r : Int32} (hL : lI D G ad Z mad kI kZ M cJ q f A0 H) (hAH : ∀ r, H.size ≤ r → A0 r) (hr : va_Run p l e R s m args below meth c H locs cells slots 0 0 (F0 m pc ls st0) rest (cQi D G (lA ad Z H) ad r Z ar) (lA ad Z H)) (hS : va_S A0 H0 H locs)
    (kk : ∀ (H1 : Heap) (locs1 : List Loc), lI D G ad Z mad kI kZ M cJ q f A0 H1 → H.size ≤ H1.size → va_S A0 H0 H1 locs1 → W p l e R s m args below meth c H1 locs1 cells slots Q (F0 m (pc + 3) ls (.int r :: rest))) : W p l e R s m args below meth c H locs cells slots Q (F0 m pc ls st0) := by
  refine va_calli hr hS (fun y _ h => lA_in hL hAH y h) (lA_in hL hAH) (fun r' u t H1 locs1 ht hvm hw hB hz hk hS1 => ?_)
  obtain ⟨rfl, rfl⟩ := hw
  have hql := hL.2.2.2.2.1.lt
  have hq1 := hL.2.2.2.2.1.kept (hk q hql (fun z => z.elim hL.2.2.2.2.2.2.2.2.1 (fun z => absurd hql (Nat.not_lt.mpr z))))
  exact kk H1 locs1 (lI_class hL hAH hB ht hq1 (fun r hr hn => hk r hr (fun z => hn (Or.inl z)))) hz hS1
set_option maxHeartbeats 4000000 in
set_option maxRecDepth 100000 in
theorem law_night (hx : p.tables.exec = Jvm.exec) (hb : c.code = cL_law) (hml : c.maxLocals = 7) (hown : s.vm.findClass RL = some m.cls) (hts : ∀ w ∈ wsL_law, w.before #[Value.ref b] s = true) (hX : va_X b L xs s s.heap) (hbl : b < s.heap.size) (hfl : l.stackTraces = false) (hK : cK D G s) (hmK : mK D kI kZ s) (hKJ : va_K D vwCl [(cJ, .long)] s) (hE : cE A0 s s.heap) (hF : cF G A0 s s.heap) (hNc : lNc s) (hbA : ¬ A0 b) (hA0 : ∀ r, s.heap.size ≤ r → A0 r) {R R1 : CZ → MT → Prop} (hst : st_night R R1) {t : Nat} (hL : L ≤ 2560) (ht : 5 * t + 5 ≤ L) (hLI : lI D G ad Z mad kI kZ M cJ q f A0 H) (hR : R Z M) (hS : va_S A0 s.heap H locs) (hl : lv_has ls 7 [(0, .ref b), (1, .ref (ad 0 0)), (2, .ref (mad 0)), (3, .ref q), (4, .int (nI (5 * t)))])
    (kk : ∀ (H1 : Heap) (locs1 : List Loc) (ls1 : Array Slot) (ad1 : Nat → Nat → Nat) (Z1 : CZ) (M1 : MT) (f1 : Nat → Int64), ad1 0 0 = ad 0 0 → lI D G ad1 Z1 mad kI kZ M1 cJ q f1 A0 H1 → R1 Z1 M1 → va_S A0 s.heap H1 locs1 → lv_has ls1 7 [(0, .ref b), (1, .ref (ad1 0 0)), (2, .ref (mad 0)), (3, .ref q), (4, .int (nI (5 * t)))] → W p l e room_1 s m #[Value.ref b] below meth c H1 locs1 (100 + 20 * (t + 1)) (2000 + 120 * (t + 1)) Q (F0 m 2028 ls1 [])) : W p l e room_1 s m #[Value.ref b] below meth c H locs (100 + 20 * t) (2000 + 120 * t) Q (F0 m 2015 ls []) := by
  have ht5 : t < 512 := by omega
  obtain ⟨bb, M1, hc, hm, hR1⟩ := hst Z M hR
  refine lv_aload_n hx hb dL_law_2015 rfl (lv_at hl 1 rfl) ?_
  refine lg_night hLI (fun r h => hA0 r (Nat.le_trans hS.1 h)) (va_runV (As := []) (rest := []) ⟨hx, hb, hml, hown, hts⟩ (mX6_night l D G (lA ad Z H) ad Z bb hc) (cwV 0 hts gL_law_X6_night rfl rfl rfl (by decide +kernel) ⟨Nat.le_of_ble_eq_true rfl, Nat.le_of_ble_eq_true rfl⟩) (cg_preV (k := 0) (i := 0) ⟨hLI.1.1, fun k i hl => Or.inl ⟨k, i, hl, rfl⟩⟩ hK hLI.2.1 rfl rfl (ci := 7) rfl) rfl rfl hl.1 rfl (lv_room (Nat.le_of_ble_eq_true rfl)) dL_law_2016 ⟨(Nat.le_trans (show 100 + 20 * t + 0 ≤ 600000 by omega) rm_c), (Nat.le_trans (show 2000 + 120 * t + 0 ≤ 7000000 by omega) rm_s)⟩) hS (fun H locs hLI hz hS => ?_)
  refine lv_aload_n hx hb dL_law_2019 rfl (lv_at hl 2 rfl) ?_
  refine lg_modeli hLI (va_runV (As := []) (rest := [.int bb]) ⟨hx, hb, hml, hown, hts⟩ (mX7_night l D mad kI kZ M bb M1 hm) (cwV 0 hts gL_law_X7_night rfl rfl rfl (by decide +kernel) ⟨Nat.le_of_ble_eq_true rfl, Nat.le_of_ble_eq_true rfl⟩) (mg_preV hLI.2.2.1 hmK hLI.2.2.2.1) rfl rfl hl.1 rfl (lv_room (Nat.le_of_ble_eq_true rfl)) dL_law_2020 ⟨(Nat.le_trans (show 100 + 20 * t + 0 ≤ 600000 by omega) rm_c), (Nat.le_trans (show 2000 + 120 * t + 0 ≤ 7000000 by omega) rm_s)⟩) hS (fun H locs hLI hz2 hS => ?_)
  refine lv_icmp_eq (tgt := 2028) hx hb dL_law_2023 (by decide) (fun _ => ?_) (fun hc => absurd rfl hc)
  refine W.widen (k := 100 + 20 * (t + 1)) (n := 2000 + 120 * (t + 1)) (by omega) (by omega) ?_
  exact kk H locs ls ad Z M1 f rfl hLI hR1 hS hl
theorem law_gt {t L : Nat} (hL : L ≤ 2560) (ht : t ≤ 512) (h : ¬ (Int32.ofNat L - 5 < nI (5 * t))) : 5 * t + 5 ≤ L := by
  have e1 : (Int32.ofNat L - 5 : Int32).toInt = (L : Int) - 5 := pk_sub_toInt (a := L) (b := 5) (by omega) (by omega)
  rw [Int32.lt_iff_toInt_lt, e1, nI_toInt (show 5 * t < 2 ^ 31 by omega)] at h
  omega
set_option maxHeartbeats 40000000 in
set_option maxRecDepth 100000 in
/-- the law's loop: at its head, after t calls -/
theorem law_loop (hx : p.tables.exec = Jvm.exec) (hb : c.code = cL_law) (hml : c.maxLocals = 7) (hown : s.vm.findClass RL = some m.cls) (hts : ∀ w ∈ wsL_law, w.before #[Value.ref b] s = true) (hX : va_X b L xs s s.heap) (hbl : b < s.heap.size) (hfl : l.stackTraces = false) (hK : cK D G s) (hmK : mK D kI kZ s) (hKJ : va_K D vwCl [(cJ, .long)] s) (hE : cE A0 s s.heap) (hF : cF G A0 s s.heap) (hNc : lNc s) (hbA : ¬ A0 b) (hA0 : ∀ r, s.heap.size ≤ r → A0 r) {Rr : Nat → CZ → MT → Prop} (hst : stAll Rr) (hL : L ≤ 2560)
    (hend : ∀ (H : Heap) (locs : List Loc) (ls : Array Slot), va_S A0 s.heap H locs → W p l e room_1 s m #[Value.ref b] below meth c H locs (100 + 20 * 512) (2000 + 120 * 512) Q (F0 m 2034 ls [])) :
    ∀ (n t : Nat) (ad : Nat → Nat → Nat) (Z : CZ) (M : MT) (f : Nat → Int64) (H : Heap) (locs : List Loc) (ls : Array Slot), t + n = 513 → t ≤ 512 → lI D G ad Z mad kI kZ M cJ q f A0 H → Rr t Z M → va_S A0 s.heap H locs → lv_has ls 7 [(0, .ref b), (1, .ref (ad 0 0)), (2, .ref (mad 0)), (3, .ref q), (4, .int (nI (5 * t)))] → W p l e room_1 s m #[Value.ref b] below meth c H locs (100 + 20 * t) (2000 + 120 * t) Q (F0 m 23 ls []) := by
  intro n
  induction n with
  | zero =>
    intro t ad Z M f H locs ls h1 h2
    exact absurd h1 (by omega)
  | succ n ih =>
    intro t ad Z M f H locs ls hn ht hLI hR hS hl
    refine lv_iload hx hb dL_law_23 (lv_at hl 4 rfl) ?_
    refine lv_aload_n hx hb dL_law_25 rfl (lv_at hl 0 rfl) ?_
    refine va_slen hx hb hX hbl hbA hS dL_law_26 ?_
    refine lv_iconst (v := 5) hx hb dL_law_27 (by decide) ?_
    refine lv_isub hx hb dL_law_28 ?_
    refine lv_icmp_gt (tgt := 2034) hx hb dL_law_29 (by decide) (fun hc => ?_) (fun hc => ?_)
    · refine W.widen (k := 100 + 20 * 512) (n := 2000 + 120 * 512) (by omega) (by omega) ?_
      exact hend H locs ls hS
    · have h5 := law_gt hL ht hc
      have hall := hst.2 t (by omega)
      have kk : ∀ (H1 : Heap) (locs1 : List Loc) (ls1 : Array Slot) (ad1 : Nat → Nat → Nat) (Z1 : CZ) (M1 : MT) (f1 : Nat → Int64), ad1 0 0 = ad 0 0 → lI D G ad1 Z1 mad kI kZ M1 cJ q f1 A0 H1 → Rr (t + 1) Z1 M1 → va_S A0 s.heap H1 locs1 → lv_has ls1 7 [(0, .ref b), (1, .ref (ad1 0 0)), (2, .ref (mad 0)), (3, .ref q), (4, .int (nI (5 * t)))] → W p l e room_1 s m #[Value.ref b] below meth c H1 locs1 (100 + 20 * (t + 1)) (2000 + 120 * (t + 1)) Q (F0 m 2028 ls1 []) := by
        intro H1 locs1 ls1 ad1 Z1 M1 f1 h00 hLI1 hR1 hS1 hl1
        refine lv_iinc (v := nI (5 * (t + 1))) (lv' := [(4, .int (nI (5 * (t + 1)))), (0, .ref b), (1, .ref (ad1 0 0)), (2, .ref (mad 0)), (3, .ref q)]) hx hb dL_law_2028 hl1 (k := 4) rfl (show nI (5 * t) + nI 5 = nI (5 * (t + 1)) from by rw [nI_add]; rfl) (by decide) rfl (fun ls hl => ?_)
        refine lv_goto (tgt := 23) hx hb dL_law_2031 (by decide) ?_
        exact ih (t + 1) ad1 Z1 M1 f1 H1 locs1 ls (by omega) (by omega) hLI1 hR1 hS1 (lv_sub hl [1, 2, 3, 4, 0] rfl)
      refine lv_aload_n hx hb dL_law_32 rfl (lv_at hl 0 rfl) ?_
      refine lv_iload hx hb dL_law_33 (lv_at hl 4 rfl) ?_
      refine va_sld hx hb hX hbl hbA hS (vp_in_nI (n := 5 * t) (N := L) (by omega) (by omega)) dL_law_35 ?_
      refine lv_bipush (v := 31) hx hb dL_law_36 (by decide) ?_
      refine lv_iand hx hb dL_law_38 ?_
      obtain ⟨j, hj, ej⟩ := pk_andE (xs (nI (5 * t)).toNatClampNeg) (m := 31) 5 (by decide)
      rw [ej]
      match j, hj with
      | 0, _ =>
        refine lv_tableIn (off := 125) (tgt := 164) hx hb dL_law_39 (by decide) (by decide) (by decide) (by decide) ?_
        exact law_pan hx hb hml hown hts hX hbl hfl hK hmK hKJ hE hF hNc hbA hA0 (hall.1) hL h5 hLI hR hS hl kk
      | 1, _ =>
        refine lv_tableIn (off := 217) (tgt := 256) hx hb dL_law_39 (by decide) (by decide) (by decide) (by decide) ?_
        by_cases hz : xs (Int32.toNatClampNeg (nI (5 * t) + 4)) = 0
        · exact law_blow0 hx hb hml hown hts hX hbl hfl hK hmK hKJ hE hF hNc hbA hA0 (hall.2.1) hz hL h5 hLI hR hS hl kk
        · exact law_blow1 hx hb hml hown hts hX hbl hfl hK hmK hKJ hE hF hNc hbA hA0 (hall.2.1) hz hL h5 hLI hR hS hl kk
      | 2, _ =>
        refine lv_tableIn (off := 325) (tgt := 364) hx hb dL_law_39 (by decide) (by decide) (by decide) (by decide) ?_
        exact law_heat hx hb hml hown hts hX hbl hfl hK hmK hKJ hE hF hNc hbA hA0 (hall.2.2.1) hL h5 hLI hR hS hl kk
      | 3, _ =>
        refine lv_tableIn (off := 381) (tgt := 420) hx hb dL_law_39 (by decide) (by decide) (by decide) (by decide) ?_
        exact law_field hx hb hml hown hts hX hbl hfl hK hmK hKJ hE hF hNc hbA hA0 (hall.2.2.2.1) hL h5 hLI hR hS hl kk
      | 4, _ =>
        refine lv_tableIn (off := 461) (tgt := 500) hx hb dL_law_39 (by decide) (by decide) (by decide) (by decide) ?_
        exact law_isInTune hx hb hml hown hts hX hbl hfl hK hmK hKJ hE hF hNc hbA hA0 (hall.2.2.2.2.1) hL h5 hLI hR hS hl kk
      | 5, _ =>
        refine lv_tableIn (off := 524) (tgt := 563) hx hb dL_law_39 (by decide) (by decide) (by decide) (by decide) ?_
        exact law_plan hx hb hml hown hts hX hbl hfl hK hmK hKJ hE hF hNc hbA hA0 (hall.2.2.2.2.2.1) hL h5 hLI hR hS hl kk
      | 6, _ =>
        refine lv_tableIn (off := 592) (tgt := 631) hx hb dL_law_39 (by decide) (by decide) (by decide) (by decide) ?_
        exact law_player hx hb hml hown hts hX hbl hfl hK hmK hKJ hE hF hNc hbA hA0 (hall.2.2.2.2.2.2.1) hL h5 hLI hR hS hl kk
      | 7, _ =>
        refine lv_tableIn (off := 648) (tgt := 687) hx hb dL_law_39 (by decide) (by decide) (by decide) (by decide) ?_
        exact law_join hx hb hml hown hts hX hbl hfl hK hmK hKJ hE hF hNc hbA hA0 (hall.2.2.2.2.2.2.2.1) hL h5 hLI hR hS hl kk
      | 8, _ =>
        refine lv_tableIn (off := 716) (tgt := 755) hx hb dL_law_39 (by decide) (by decide) (by decide) (by decide) ?_
        exact law_leave hx hb hml hown hts hX hbl hfl hK hmK hKJ hE hF hNc hbA hA0 (hall.2.2.2.2.2.2.2.2.1) hL h5 hLI hR hS hl kk
      | 9, _ =>
        refine lv_tableIn (off := 784) (tgt := 823) hx hb dL_law_39 (by decide) (by decide) (by decide) (by decide) ?_
        exact law_give hx hb hml hown hts hX hbl hfl hK hmK hKJ hE hF hNc hbA hA0 (hall.2.2.2.2.2.2.2.2.2.1) hL h5 hLI hR hS hl kk
      | 10, _ =>
        refine lv_tableIn (off := 832) (tgt := 871) hx hb dL_law_39 (by decide) (by decide) (by decide) (by decide) ?_
        exact law_takeBack hx hb hml hown hts hX hbl hfl hK hmK hKJ hE hF hNc hbA hA0 (hall.2.2.2.2.2.2.2.2.2.2.1) hL h5 hLI hR hS hl kk
      | 11, _ =>
        refine lv_tableIn (off := 888) (tgt := 927) hx hb dL_law_39 (by decide) (by decide) (by decide) (by decide) ?_
        exact law_ofPlayer hx hb hml hown hts hX hbl hfl hK hmK hKJ hE hF hNc hbA hA0 (hall.2.2.2.2.2.2.2.2.2.2.2.1) hL h5 hLI hR hS hl kk
      | 12, _ =>
        refine lv_tableIn (off := 956) (tgt := 995) hx hb dL_law_39 (by decide) (by decide) (by decide) (by decide) ?_
        exact law_note hx hb hml hown hts hX hbl hfl hK hmK hKJ hE hF hNc hbA hA0 (hall.2.2.2.2.2.2.2.2.2.2.2.2.1) hL h5 hLI hR hS hl kk
      | 13, _ =>
        refine lv_tableIn (off := 1024) (tgt := 1063) hx hb dL_law_39 (by decide) (by decide) (by decide) (by decide) ?_
        exact law_change hx hb hml hown hts hX hbl hfl hK hmK hKJ hE hF hNc hbA hA0 (hall.2.2.2.2.2.2.2.2.2.2.2.2.2.1) hL h5 hLI hR hS hl kk
      | 14, _ =>
        refine lv_tableIn (off := 1104) (tgt := 1143) hx hb dL_law_39 (by decide) (by decide) (by decide) (by decide) ?_
        exact law_tell hx hb hml hown hts hX hbl hfl hK hmK hKJ hE hF hNc hbA hA0 (hall.2.2.2.2.2.2.2.2.2.2.2.2.2.2.1) hL h5 hLI hR hS hl kk
      | 15, _ =>
        refine lv_tableIn (off := 1184) (tgt := 1223) hx hb dL_law_39 (by decide) (by decide) (by decide) (by decide) ?_
        exact law_drill hx hb hml hown hts hX hbl hfl hK hmK hKJ hE hF hNc hbA hA0 (hall.2.2.2.2.2.2.2.2.2.2.2.2.2.2.2.1) hL h5 hLI hR hS hl kk
      | 16, _ =>
        refine lv_tableIn (off := 1252) (tgt := 1291) hx hb dL_law_39 (by decide) (by decide) (by decide) (by decide) ?_
        exact law_pass hx hb hml hown hts hX hbl hfl hK hmK hKJ hE hF hNc hbA hA0 (hall.2.2.2.2.2.2.2.2.2.2.2.2.2.2.2.2.1) hL h5 hLI hR hS hl kk
      | 17, _ =>
        refine lv_tableIn (off := 1308) (tgt := 1347) hx hb dL_law_39 (by decide) (by decide) (by decide) (by decide) ?_
        exact law_seat hx hb hml hown hts hX hbl hfl hK hmK hKJ hE hF hNc hbA hA0 (hall.2.2.2.2.2.2.2.2.2.2.2.2.2.2.2.2.2.1) hL h5 hLI hR hS hl kk
      | 18, _ =>
        refine lv_tableIn (off := 1376) (tgt := 1415) hx hb dL_law_39 (by decide) (by decide) (by decide) (by decide) ?_
        exact law_knows hx hb hml hown hts hX hbl hfl hK hmK hKJ hE hF hNc hbA hA0 (hall.2.2.2.2.2.2.2.2.2.2.2.2.2.2.2.2.2.2.1) hL h5 hLI hR hS hl kk
      | 19, _ =>
        refine lv_tableIn (off := 1456) (tgt := 1495) hx hb dL_law_39 (by decide) (by decide) (by decide) (by decide) ?_
        exact law_ofBand hx hb hml hown hts hX hbl hfl hK hmK hKJ hE hF hNc hbA hA0 (hall.2.2.2.2.2.2.2.2.2.2.2.2.2.2.2.2.2.2.2.1) hL h5 hLI hR hS hl kk
      | 20, _ =>
        refine lv_tableIn (off := 1524) (tgt := 1563) hx hb dL_law_39 (by decide) (by decide) (by decide) (by decide) ?_
        exact law_leaps hx hb hml hown hts hX hbl hfl hK hmK hKJ hE hF hNc hbA hA0 (hall.2.2.2.2.2.2.2.2.2.2.2.2.2.2.2.2.2.2.2.2.1) hL h5 hLI hR hS hl kk
      | 21, _ =>
        refine lv_tableIn (off := 1580) (tgt := 1619) hx hb dL_law_39 (by decide) (by decide) (by decide) (by decide) ?_
        exact law_part hx hb hml hown hts hX hbl hfl hK hmK hKJ hE hF hNc hbA hA0 (hall.2.2.2.2.2.2.2.2.2.2.2.2.2.2.2.2.2.2.2.2.2.1) hL h5 hLI hR hS hl kk
      | 22, _ =>
        refine lv_tableIn (off := 1648) (tgt := 1687) hx hb dL_law_39 (by decide) (by decide) (by decide) (by decide) ?_
        exact law_without hx hb hml hown hts hX hbl hfl hK hmK hKJ hE hF hNc hbA hA0 (hall.2.2.2.2.2.2.2.2.2.2.2.2.2.2.2.2.2.2.2.2.2.2.1) hL h5 hLI hR hS hl kk
      | 23, _ =>
        refine lv_tableIn (off := 1716) (tgt := 1755) hx hb dL_law_39 (by decide) (by decide) (by decide) (by decide) ?_
        exact law_perform hx hb hml hown hts hX hbl hfl hK hmK hKJ hE hF hNc hbA hA0 (hall.2.2.2.2.2.2.2.2.2.2.2.2.2.2.2.2.2.2.2.2.2.2.2.1) hL h5 hLI hR hS hl kk
      | 24, _ =>
        refine lv_tableIn (off := 1784) (tgt := 1823) hx hb dL_law_39 (by decide) (by decide) (by decide) (by decide) ?_
        exact law_mark hx hb hml hown hts hX hbl hfl hK hmK hKJ hE hF hNc hbA hA0 (hall.2.2.2.2.2.2.2.2.2.2.2.2.2.2.2.2.2.2.2.2.2.2.2.2.1) hL h5 hLI hR hS hl kk
      | 25, _ =>
        refine lv_tableIn (off := 1864) (tgt := 1903) hx hb dL_law_39 (by decide) (by decide) (by decide) (by decide) ?_
        exact law_score hx hb hml hown hts hX hbl hfl hK hmK hKJ hE hF hNc hbA hA0 (hall.2.2.2.2.2.2.2.2.2.2.2.2.2.2.2.2.2.2.2.2.2.2.2.2.2.1) hL h5 hLI hR hS hl kk
      | 26, _ =>
        refine lv_tableIn (off := 1920) (tgt := 1959) hx hb dL_law_39 (by decide) (by decide) (by decide) (by decide) ?_
        exact law_rank hx hb hml hown hts hX hbl hfl hK hmK hKJ hE hF hNc hbA hA0 (hall.2.2.2.2.2.2.2.2.2.2.2.2.2.2.2.2.2.2.2.2.2.2.2.2.2.2.1) hL h5 hLI hR hS hl kk
      | 27, _ =>
        refine lv_tableIn (off := 1976) (tgt := 2015) hx hb dL_law_39 (by decide) (by decide) (by decide) (by decide) ?_
        exact law_night hx hb hml hown hts hX hbl hfl hK hmK hKJ hE hF hNc hbA hA0 (hall.2.2.2.2.2.2.2.2.2.2.2.2.2.2.2.2.2.2.2.2.2.2.2.2.2.2.2.1) hL h5 hLI hR hS hl kk
      | 28, _ =>
        refine lv_tableOut (tgt := 2028) hx hb dL_law_39 (Or.inr (by decide)) (by decide) ?_
        refine W.widen (k := 100 + 20 * (t + 1)) (n := 2000 + 120 * (t + 1)) (by omega) (by omega) ?_
        exact kk H locs ls ad Z M f rfl hLI (hall.2.2.2.2.2.2.2.2.2.2.2.2.2.2.2.2.2.2.2.2.2.2.2.2.2.2.2.2 Z M hR) hS hl
      | 29, _ =>
        refine lv_tableOut (tgt := 2028) hx hb dL_law_39 (Or.inr (by decide)) (by decide) ?_
        refine W.widen (k := 100 + 20 * (t + 1)) (n := 2000 + 120 * (t + 1)) (by omega) (by omega) ?_
        exact kk H locs ls ad Z M f rfl hLI (hall.2.2.2.2.2.2.2.2.2.2.2.2.2.2.2.2.2.2.2.2.2.2.2.2.2.2.2.2 Z M hR) hS hl
      | 30, _ =>
        refine lv_tableOut (tgt := 2028) hx hb dL_law_39 (Or.inr (by decide)) (by decide) ?_
        refine W.widen (k := 100 + 20 * (t + 1)) (n := 2000 + 120 * (t + 1)) (by omega) (by omega) ?_
        exact kk H locs ls ad Z M f rfl hLI (hall.2.2.2.2.2.2.2.2.2.2.2.2.2.2.2.2.2.2.2.2.2.2.2.2.2.2.2.2 Z M hR) hS hl
      | 31, _ =>
        refine lv_tableOut (tgt := 2028) hx hb dL_law_39 (Or.inr (by decide)) (by decide) ?_
        refine W.widen (k := 100 + 20 * (t + 1)) (n := 2000 + 120 * (t + 1)) (by omega) (by omega) ?_
        exact kk H locs ls ad Z M f rfl hLI (hall.2.2.2.2.2.2.2.2.2.2.2.2.2.2.2.2.2.2.2.2.2.2.2.2.2.2.2.2 Z M hR) hS hl
      | j + 32, h => exact absurd h (by show ¬ j + 32 < 2 ^ 5; omega)
end LAWD
