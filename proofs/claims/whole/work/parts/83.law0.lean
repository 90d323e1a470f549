section LAWC
variable {p : Program} {l : Launch} {e : Env} {s : State} {m : MethodId} {below : List Frame} {meth : Method} {c : Code} {H : Heap} {locs : List Loc} {Q : State → Prop} {b L : Nat} {xs : Nat → Int32}
variable {ls : Array Slot} {D : va_G} {G : CGT} {ad : Nat → Nat → Nat} {Z : CZ} {mad : Nat → Nat} {kI kZ cJ : ClassId} {M : MT} {q : Nat} {f : Nat → Int64} {A0 : Nat → Prop}
theorem law_in {t j L : Nat} (hL : L ≤ 2560) (ht : 5 * t + 5 ≤ L) (hj : j ≤ 4) : vp_in (nI (5 * t) + nI j) L := by
  rw [nI_add]
  intro h
  have hc : (nI (5 * t + j)).toNatClampNeg = 5 * t + j := nI_clamp (by omega)
  rw [hc] at h
  rcases h with h | h
  · exact absurd h (nI_pos (by omega))
  · omega
theorem lg_lcmp {pc : Nat} {cc : ByteArray} {args : Array Value} {R : Room} {cells slots : Nat} {rest : List Value} (hx : p.tables.exec = Jvm.exec) (hb : c.code = cc) {x : Int64} (hdg : decode cc pc = .ok (.lcmp, 1)) (k : W p l e R s m args below meth c H locs cells slots Q (F0 m (pc + 1) ls (.int 0 :: rest))) : W p l e R s m args below meth c H locs cells slots Q (F0 m pc ls (.long x :: .long x :: rest)) := by
  have h0 : lg_cmp x x = 0 := by
    unfold lg_cmp
    simp
  refine W.lcmp hx hb hdg ?_
  rw [h0]
  exact k
set_option maxHeartbeats 4000000 in
set_option maxRecDepth 100000 in
theorem law_heat (hx : p.tables.exec = Jvm.exec) (hb : c.code = cL_law) (hml : c.maxLocals = 7) (hown : s.vm.findClass RL = some m.cls) (hts : ∀ w ∈ wsL_law, w.before #[Value.ref b] s = true) (hX : va_X b L xs s s.heap) (hbl : b < s.heap.size) (hfl : l.stackTraces = false) (hK : cK D G s) (hmK : mK D kI kZ s) (hKJ : va_K D vwCl [(cJ, .long)] s) (hE : cE A0 s s.heap) (hF : cF G A0 s s.heap) (hNc : lNc s) (hbA : ¬ A0 b) (hA0 : ∀ r, s.heap.size ≤ r → A0 r) {R R1 : CZ → MT → Prop} (hst : st_heat R R1) {t : Nat} (hL : L ≤ 2560) (ht : 5 * t + 5 ≤ L) (hLI : lI D G ad Z mad kI kZ M cJ q f A0 H) (hR : R Z M) (hS : va_S A0 s.heap H locs) (hl : lv_has ls 7 [(0, .ref b), (1, .ref (ad 0 0)), (2, .ref (mad 0)), (3, .ref q), (4, .int (nI (5 * t)))])
    (kk : ∀ (H1 : Heap) (locs1 : List Loc) (ls1 : Array Slot) (ad1 : Nat → Nat → Nat) (Z1 : CZ) (M1 : MT) (f1 : Nat → Int64), ad1 0 0 = ad 0 0 → lI D G ad1 Z1 mad kI kZ M1 cJ q f1 A0 H1 → R1 Z1 M1 → va_S A0 s.heap H1 locs1 → lv_has ls1 7 [(0, .ref b), (1, .ref (ad1 0 0)), (2, .ref (mad 0)), (3, .ref q), (4, .int (nI (5 * t)))] → W p l e room_1 s m #[Value.ref b] below meth c H1 locs1 (100 + 20 * (t + 1)) (1000 + 120 * (t + 1)) Q (F0 m 2028 ls1 [])) : W p l e room_1 s m #[Value.ref b] below meth c H locs (100 + 20 * t) (1000 + 120 * t) Q (F0 m 364 ls []) := by
  have ht5 : t < 512 := by omega
  refine lv_aload_n hx hb dL_law_364 rfl (lv_at hl 1 rfl) ?_
  refine lv_aload_n hx hb dL_law_365 rfl (lv_at hl 0 rfl) ?_
  refine lv_iload hx hb dL_law_366 (lv_at hl 4 rfl) ?_
  refine lv_iconst (v := 1) hx hb dL_law_368 (by decide) ?_
  refine lv_iadd hx hb dL_law_369 ?_
  refine va_sld hx hb hX hbl hbA hS (law_in hL ht (show (1 : Nat) ≤ 4 by omega)) dL_law_370 ?_
  refine lv_aload_n hx hb dL_law_371 rfl (lv_at hl 3 rfl) ?_
  obtain ⟨bb, M1, Z1, hm, hR1, hw⟩ := hst Z M hR (xs (Int32.toNatClampNeg (nI (5 * t) + 1)))
  rcases hw with ⟨hc, h0⟩ | ⟨j, cd, hc, hj, h0⟩
  · refine lg_class hLI (fun r h => hA0 r (Nat.le_trans hS.1 h)) (vx_runSX (As := [.ref (ad 0 0), .int (xs (Int32.toNatClampNeg (nI (5 * t) + 1))), .ref q]) (rest := []) ⟨hx, hb, hml, hown, hts⟩ (mL_heat l hfl D G (lA ad Z H) ad Z cJ q f (xs (Int32.toNatClampNeg (nI (5 * t) + 1))) bb Z1 hc) (vx_cwSW 3 hts gL_law_L_heat rfl rfl rfl (by decide +kernel) ⟨Nat.le_of_ble_eq_true rfl, Nat.le_of_ble_eq_true rfl⟩) (lg_preS hLI (fun r h => hA0 r (Nat.le_trans hS.1 h)) hK hKJ hE hF hNc hS) rfl rfl hl.1 rfl (lv_room (Nat.le_of_ble_eq_true rfl)) dL_law_372 ⟨(by show 100 + 20 * t + 1 ≤ 663421; omega), (by show 1000 + 120 * t + 6 ≤ 7105842; omega)⟩) hS (fun H locs ad1 f1 hP h00 hLI hz hS => ?_)
    rw [← h00] at hl
    refine lv_istore (lv' := [(5, .int 0), (0, .ref b), (1, .ref (ad1 0 0)), (2, .ref (mad 0)), (3, .ref q), (4, .int (nI (5 * t)))]) hx hb dL_law_375 hl (by decide) rfl (fun ls hl => ?_)
    refine lv_aload_n hx hb dL_law_377 rfl (lv_at hl 3 rfl) ?_
    refine lv_aload_n hx hb dL_law_378 rfl (lv_at hl 1 rfl) ?_
    refine lv_iload hx hb dL_law_379 (lv_at hl 5 rfl) ?_
    refine lv_iconst (v := 1) hx hb dL_law_381 (by decide) ?_
    refine lv_iadd hx hb dL_law_382 ?_
    refine va_sld hx hb hX hbl hbA hS (law_in hL ht (show (1 : Nat) ≤ 4 by omega)) dL_law_383 ?_
    refine lg_modeli hLI (va_runV (As := [.int (xs (Int32.toNatClampNeg (nI (5 * t) + 1)))]) (rest := []) ⟨hx, hb, hml, hown, hts⟩ (mX7_heat l D mad kI kZ M (xs (Int32.toNatClampNeg (nI (5 * t) + 1))) bb M1 hm) (cwV 1 hts gL_law_X7_heat rfl rfl rfl (by decide +kernel) ⟨Nat.le_of_ble_eq_true rfl, Nat.le_of_ble_eq_true rfl⟩) (mg_preV hLI.2.2.1 hmK hLI.2.2.2.1) rfl rfl hl.1 rfl (lv_room (Nat.le_of_ble_eq_true rfl)) dL_law_384 ⟨(by show 100 + 20 * t + 1 + 0 ≤ 663421; omega), (by show 1000 + 120 * t + 6 + 0 ≤ 7105842; omega)⟩) hS (fun H locs hLI hz2 hS => ?_)
    refine lv_istore (lv' := [(6, .int bb), (5, .int 0), (0, .ref b), (1, .ref (ad1 0 0)), (2, .ref (mad 0)), (3, .ref q), (4, .int (nI (5 * t)))]) hx hb dL_law_387 hl (by decide) rfl (fun ls hl => ?_)
    refine lv_aload_n hx hb dL_law_389 rfl (lv_at hl 4 rfl) ?_
    refine lg_modeli hLI (va_runV (As := []) (rest := []) ⟨hx, hb, hml, hown, hts⟩ (mX7_thrown l D mad kI kZ M1 (M1 0 0) rfl) (cwV 0 hts gL_law_X7_thrown rfl rfl rfl (by decide +kernel) ⟨Nat.le_of_ble_eq_true rfl, Nat.le_of_ble_eq_true rfl⟩) (mg_preV hLI.2.2.1 hmK hLI.2.2.2.1) rfl rfl hl.1 rfl (lv_room (Nat.le_of_ble_eq_true rfl)) dL_law_390 ⟨(by show 100 + 20 * t + 1 + 0 ≤ 663421; omega), (by show 1000 + 120 * t + 6 + 0 ≤ 7105842; omega)⟩) hS (fun H locs hLI hz3 hS => ?_)
    refine lv_iload hx hb dL_law_393 (lv_at hl 1 rfl) ?_
    refine lv_icmp_eq (tgt := 400) hx hb dL_law_395 (by decide) (fun _ => ?_) (fun hc => absurd h0 hc)
    refine lv_iload hx hb dL_law_400 (lv_at hl 1 rfl) ?_
    refine lv_if_ne (tgt := 417) hx hb dL_law_402 (by decide) (fun hc => absurd rfl hc) (fun _ => ?_)
    refine lv_aload_n hx hb dL_law_405 rfl (lv_at hl 5 rfl) ?_
    refine lv_iconst (v := 0) hx hb dL_law_406 (by decide) ?_
    refine va_lald hx hb hKJ (iw_P1 hLI.2.2.2.2.1) 0 0 rfl rfl (show ¬ ((0 : Int32) < 0 ∨ 1 ≤ (0 : Int32).toNatClampNeg) from by decide) dL_law_407 ?_
    rw [show f1 (0 : Int32).toNatClampNeg = bb.toInt64 from hP]
    refine lv_iload hx hb dL_law_408 (lv_at hl 0 rfl) ?_
    refine lv_i2l hx hb (v := bb.toInt64) dL_law_410 rfl ?_
    refine lg_lcmp hx hb dL_law_411 ?_
    refine lv_if_eq (tgt := 417) hx hb dL_law_412 (by decide) (fun _ => ?_) (fun hc => absurd rfl hc)
    refine lv_goto (tgt := 2028) hx hb dL_law_417 (by decide) ?_
    refine W.widen (k := 100 + 20 * (t + 1)) (n := 1000 + 120 * (t + 1)) (by omega) (by omega) ?_
    exact kk H locs ls ad1 Z1 M1 f1 h00 hLI hR1 hS (lv_sub hl [2, 3, 4, 5, 6] rfl)
  · match j, hj with
    | 0, hj =>
      cases hj
      refine lg_class hLI (fun r h => hA0 r (Nat.le_trans hS.1 h)) (vx_runSX (As := [.ref (ad 0 0), .int (xs (Int32.toNatClampNeg (nI (5 * t) + 1))), .ref q]) (rest := []) ⟨hx, hb, hml, hown, hts⟩ (mL_heat_x1 l hfl D G (lA ad Z H) ad Z cJ q f (xs (Int32.toNatClampNeg (nI (5 * t) + 1))) Z1 hc) (vx_cwSW 3 hts gL_law_L_heat rfl rfl rfl (by decide +kernel) ⟨Nat.le_of_ble_eq_true rfl, Nat.le_of_ble_eq_true rfl⟩) (lg_preS hLI (fun r h => hA0 r (Nat.le_trans hS.1 h)) hK hKJ hE hF hNc hS) rfl rfl hl.1 rfl (lv_room (Nat.le_of_ble_eq_true rfl)) dL_law_372 ⟨(by show 100 + 20 * t + 1 ≤ 663421; omega), (by show 1000 + 120 * t + 6 ≤ 7105842; omega)⟩) hS (fun H locs ad1 f1 hP h00 hLI hz hS => ?_)
      rw [← h00] at hl
      refine lv_istore (lv' := [(5, .int 1), (0, .ref b), (1, .ref (ad1 0 0)), (2, .ref (mad 0)), (3, .ref q), (4, .int (nI (5 * t)))]) hx hb dL_law_375 hl (by decide) rfl (fun ls hl => ?_)
      refine lv_aload_n hx hb dL_law_377 rfl (lv_at hl 3 rfl) ?_
      refine lv_aload_n hx hb dL_law_378 rfl (lv_at hl 1 rfl) ?_
      refine lv_iload hx hb dL_law_379 (lv_at hl 5 rfl) ?_
      refine lv_iconst (v := 1) hx hb dL_law_381 (by decide) ?_
      refine lv_iadd hx hb dL_law_382 ?_
      refine va_sld hx hb hX hbl hbA hS (law_in hL ht (show (1 : Nat) ≤ 4 by omega)) dL_law_383 ?_
      refine lg_modeli hLI (va_runV (As := [.int (xs (Int32.toNatClampNeg (nI (5 * t) + 1)))]) (rest := []) ⟨hx, hb, hml, hown, hts⟩ (mX7_heat l D mad kI kZ M (xs (Int32.toNatClampNeg (nI (5 * t) + 1))) bb M1 hm) (cwV 1 hts gL_law_X7_heat rfl rfl rfl (by decide +kernel) ⟨Nat.le_of_ble_eq_true rfl, Nat.le_of_ble_eq_true rfl⟩) (mg_preV hLI.2.2.1 hmK hLI.2.2.2.1) rfl rfl hl.1 rfl (lv_room (Nat.le_of_ble_eq_true rfl)) dL_law_384 ⟨(by show 100 + 20 * t + 1 + 0 ≤ 663421; omega), (by show 1000 + 120 * t + 6 + 0 ≤ 7105842; omega)⟩) hS (fun H locs hLI hz2 hS => ?_)
      refine lv_istore (lv' := [(6, .int bb), (5, .int 1), (0, .ref b), (1, .ref (ad1 0 0)), (2, .ref (mad 0)), (3, .ref q), (4, .int (nI (5 * t)))]) hx hb dL_law_387 hl (by decide) rfl (fun ls hl => ?_)
      refine lv_aload_n hx hb dL_law_389 rfl (lv_at hl 4 rfl) ?_
      refine lg_modeli hLI (va_runV (As := []) (rest := []) ⟨hx, hb, hml, hown, hts⟩ (mX7_thrown l D mad kI kZ M1 (M1 0 0) rfl) (cwV 0 hts gL_law_X7_thrown rfl rfl rfl (by decide +kernel) ⟨Nat.le_of_ble_eq_true rfl, Nat.le_of_ble_eq_true rfl⟩) (mg_preV hLI.2.2.1 hmK hLI.2.2.2.1) rfl rfl hl.1 rfl (lv_room (Nat.le_of_ble_eq_true rfl)) dL_law_390 ⟨(by show 100 + 20 * t + 1 + 0 ≤ 663421; omega), (by show 1000 + 120 * t + 6 + 0 ≤ 7105842; omega)⟩) hS (fun H locs hLI hz3 hS => ?_)
      refine lv_iload hx hb dL_law_393 (lv_at hl 1 rfl) ?_
      refine lv_icmp_eq (tgt := 400) hx hb dL_law_395 (by decide) (fun _ => ?_) (fun hc => absurd h0 hc)
      refine lv_iload hx hb dL_law_400 (lv_at hl 1 rfl) ?_
      refine lv_if_ne (tgt := 417) hx hb dL_law_402 (by decide) (fun _ => ?_) (fun hc => absurd hc (by decide))
      refine lv_goto (tgt := 2028) hx hb dL_law_417 (by decide) ?_
      refine W.widen (k := 100 + 20 * (t + 1)) (n := 1000 + 120 * (t + 1)) (by omega) (by omega) ?_
      exact kk H locs ls ad1 Z1 M1 f1 h00 hLI hR1 hS (lv_sub hl [2, 3, 4, 5, 6] rfl)
    | j + 1, hj => cases hj
end LAWC
