set_option maxHeartbeats 8000000 in
set_option maxRecDepth 100000 in
/-- the law behind the making of its things: the first check, the number of steps, the loop -/
theorem law_head {p : Program} {l : Launch} {e : Env} {s : State} {m : MethodId} {below : List Frame} {meth : Method} {c : Code} {H : Heap} {locs : List Loc} {Q : State → Prop} {b L : Nat} {xs : Nat → Int32} {ls : Array Slot} {D : va_G} {G : CGT} {ad : Nat → Nat → Nat} {q : Nat} (hx : p.tables.exec = Jvm.exec) (hb : c.code = cL_law) (hml : c.maxLocals = 6) (hown : s.vm.findClass RL = some m.cls) (hts : ∀ w ∈ wsL_law, w.before #[Value.ref b] s = true) (hX : va_X b L xs s s.heap) (hbl : b < s.heap.size) (hfl : l.stackTraces = false) (hK : cK D G s) (hE : cE (fun y : Nat => s.heap.size ≤ y) s s.heap) (hF : cF G (fun y : Nat => s.heap.size ≤ y) s s.heap) (hqs : s.heap.size ≤ q) (hL : L ≤ 260)
    (hend : ∀ (H : Heap) (locs : List Loc) (ls : Array Slot), va_S (fun y : Nat => s.heap.size ≤ y) s.heap H locs → ls[3]? = some (.val (.int 1)) → W p l e room_1 s m #[Value.ref b] below meth c H locs (100 + 28 * 80) (2000 + 168 * 80) Q (F0 m 159 ls []))
    (hI : cI (fun y : Nat => s.heap.size ≤ y ∧ y ≠ q) ad Z0.2.2) (hN : cN D G ad Z0 H) (hq : va_at D vwCl (q, .inl (G.1, 5, .inl (fun _ => 0))) H) (hS : va_S (fun y : Nat => s.heap.size ≤ y) s.heap H locs) (hl : lv_has ls 6 [(0, .ref b), (1, .ref (ad 0 0)), (2, .ref q)]) : W p l e room_1 s m #[Value.ref b] below meth c H locs (100 + 28 * 0) (2000 + 168 * 0) Q (F0 m 12 ls []) := by
  have hbA : ¬ (fun y : Nat => s.heap.size ≤ y) b := Nat.not_le.mpr hbl
  have hnq : ¬ (fun y : Nat => s.heap.size ≤ y ∧ y ≠ q) q := fun z => z.2 rfl
  have c3 : 100 + 28 * 0 + 0 ≤ room_1.cells := Nat.le_trans (by decide) rm_c
  have c4 : 2000 + 168 * 0 + 0 ≤ room_1.slots := Nat.le_trans (by decide) rm_s
  obtain ⟨g1, g2, Z1, z1, hV, g3, g4, g5⟩ := p_start
  refine lv_aload_n hx hb dL_law_12 rfl (lv_at hl 1 rfl) ?_
  refine sg_calli (va_runV (As := []) (rest := []) ⟨hx, hb, hml, hown, hts⟩ (mX6_night l D G (fun y : Nat => s.heap.size ≤ y ∧ y ≠ q) ad Z0 0 g1) (cwV 0 hts gL_law_X6_night rfl rfl rfl (by decide +kernel) ⟨Nat.le_of_ble_eq_true rfl, Nat.le_of_ble_eq_true rfl⟩) (cg_preV (k := 0) (i := 0) hI hK hN rfl rfl (ci := 7) rfl) rfl rfl hl.1 rfl (lv_room (Nat.le_of_ble_eq_true rfl)) dL_law_13 ⟨c3, c4⟩) hS (fun _ h => h.1) hq hnq ⟨_, rfl⟩ (fun H locs hI hN hq hS => ?_)
  refine lv_if_ne (tgt := 60) hx hb dL_law_16 (by decide) (fun hc => absurd rfl hc) (fun _ => ?_)
  refine lv_aload_n hx hb dL_law_19 rfl (lv_at hl 1 rfl) ?_
  refine lv_iconst (v := 0) hx hb dL_law_20 (by decide) ?_
  refine sg_calli (va_runV (As := [.int 0]) (rest := []) ⟨hx, hb, hml, hown, hts⟩ (mX6_rank_n l D G (fun y : Nat => s.heap.size ≤ y ∧ y ≠ q) ad Z0 0 (-1) g2) (cwV 1 hts gL_law_X6_rank rfl rfl rfl (by decide +kernel) ⟨Nat.le_of_ble_eq_true rfl, Nat.le_of_ble_eq_true rfl⟩) (cg_preV (k := 0) (i := 0) hI hK hN rfl rfl (ci := 7) rfl) rfl rfl hl.1 rfl (lv_room (Nat.le_of_ble_eq_true rfl)) dL_law_21 ⟨c3, c4⟩) hS (fun _ h => h.1) hq hnq ⟨_, rfl⟩ (fun H locs hI hN hq hS => ?_)
  refine lv_iconst (v := -1) hx hb dL_law_24 (by decide) ?_
  refine lv_icmp_ne (tgt := 60) hx hb dL_law_25 (by decide) (fun hc => absurd rfl hc) (fun _ => ?_)
  refine lv_aload_n hx hb dL_law_28 rfl (lv_at hl 1 rfl) ?_
  refine lv_iconst (v := 3) hx hb dL_law_29 (by decide) ?_
  refine sg_calli (va_runV (As := [.int 3]) (rest := []) ⟨hx, hb, hml, hown, hts⟩ (mX6_leaps_n l D G (fun y : Nat => s.heap.size ≤ y ∧ y ≠ q) ad Z0 3 (-1) Z1 g3) (cwV 1 hts gL_law_X6_leaps rfl rfl rfl (by decide +kernel) ⟨Nat.le_of_ble_eq_true rfl, Nat.le_of_ble_eq_true rfl⟩) (cg_preV (k := 0) (i := 0) hI hK hN rfl rfl (ci := 7) rfl) rfl rfl hl.1 rfl (lv_room (Nat.le_of_ble_eq_true rfl)) dL_law_30 ⟨c3, c4⟩) hS (fun _ h => h.1) hq hnq ⟨_, rfl⟩ (fun H locs hI hN hq hS => ?_)
  refine lv_iconst (v := -1) hx hb dL_law_33 (by decide) ?_
  refine lv_icmp_ne (tgt := 60) hx hb dL_law_34 (by decide) (fun hc => absurd rfl hc) (fun _ => ?_)
  refine lv_aload_n hx hb dL_law_37 rfl (lv_at hl 1 rfl) ?_
  refine lv_iconst (v := 2) hx hb dL_law_38 (by decide) ?_
  refine lv_iconst (v := 3) hx hb dL_law_39 (by decide) ?_
  refine sg_calli (va_runV (As := [.int 2, .int 3]) (rest := []) ⟨hx, hb, hml, hown, hts⟩ (mX6_ofBand_n l D G (fun y : Nat => s.heap.size ≤ y ∧ y ≠ q) ad Z1 2 3 (-1) g4) (cwV 2 hts gL_law_X6_ofBand rfl rfl rfl (by decide +kernel) ⟨Nat.le_of_ble_eq_true rfl, Nat.le_of_ble_eq_true rfl⟩) (cg_preV (k := 0) (i := 0) hI hK hN rfl rfl (ci := 7) rfl) rfl rfl hl.1 rfl (lv_room (Nat.le_of_ble_eq_true rfl)) dL_law_40 ⟨c3, c4⟩) hS (fun _ h => h.1) hq hnq ⟨_, rfl⟩ (fun H locs hI hN hq hS => ?_)
  refine lv_iconst (v := -1) hx hb dL_law_43 (by decide) ?_
  refine lv_icmp_ne (tgt := 60) hx hb dL_law_44 (by decide) (fun hc => absurd rfl hc) (fun _ => ?_)
  refine lv_aload_n hx hb dL_law_47 rfl (lv_at hl 1 rfl) ?_
  refine lv_iconst (v := 2) hx hb dL_law_48 (by decide) ?_
  refine lv_iconst (v := 4) hx hb dL_law_49 (by decide) ?_
  refine sg_calli (va_runV (As := [.int 2, .int 4]) (rest := []) ⟨hx, hb, hml, hown, hts⟩ (mX6_ofBand_n l D G (fun y : Nat => s.heap.size ≤ y ∧ y ≠ q) ad Z1 2 4 0 g5) (cwV 2 hts gL_law_X6_ofBand rfl rfl rfl (by decide +kernel) ⟨Nat.le_of_ble_eq_true rfl, Nat.le_of_ble_eq_true rfl⟩) (cg_preV (k := 0) (i := 0) hI hK hN rfl rfl (ci := 7) rfl) rfl rfl hl.1 rfl (lv_room (Nat.le_of_ble_eq_true rfl)) dL_law_50 ⟨c3, c4⟩) hS (fun _ h => h.1) hq hnq ⟨_, rfl⟩ (fun H locs hI hN hq hS => ?_)
  refine lv_if_ne (tgt := 60) hx hb dL_law_53 (by decide) (fun hc => absurd rfl hc) (fun _ => ?_)
  refine lv_iconst (v := 1) hx hb dL_law_56 (by decide) ?_
  refine lv_goto (tgt := 61) hx hb dL_law_57 (by decide) ?_
  refine lv_istore_n (lv' := [(3, .int 1), (0, .ref b), (1, .ref (ad 0 0)), (2, .ref q)]) hx hb dL_law_61 rfl hl (by decide) rfl (fun ls hl => ?_)
  have run : ∀ st : Nat, st ≤ 80 → 3 * st ≤ L → W p l e room_1 s m #[Value.ref b] below meth c H locs (100 + 28 * 0) (2000 + 168 * 0) Q (F0 m 80 ls [.int (nI st)]) := fun st h80 h3 => by
    refine lv_istore (lv' := [(4, .int (nI st)), (3, .int 1), (0, .ref b), (1, .ref (ad 0 0)), (2, .ref q)]) hx hb dL_law_80 hl (by decide) rfl (fun ls hl => ?_)
    refine lv_iconst (v := 0) hx hb dL_law_82 (by decide) ?_
    refine lv_istore (lv' := [(5, .int 0), (4, .int (nI st)), (3, .int 1), (0, .ref b), (1, .ref (ad 0 0)), (2, .ref q)]) hx hb dL_law_83 hl (by decide) rfl (fun ls hl => ?_)
    exact law_loop (xs := xs) hx hb hml hown hts hX hbl hfl hK hE hF hqs hL h80 h3 hend st 0 ad Z1 (fun _ => 0) H locs ls (by omega) hV hI hN hq hS (lv_sub hl [3, 4, 5, 2, 1, 0] rfl)
  have ed : (nI L : Int32) / 3 = nI (L / 3) := pk_div (d := 3) (by omega) (by omega) (by omega)
  refine lv_aload_n hx hb dL_law_62 rfl (lv_at hl 1 rfl) ?_
  refine va_slen hx hb hX hbl hbA hS dL_law_63 ?_
  refine lv_iconst (v := 3) hx hb dL_law_64 (by decide) ?_
  refine lv_idiv hx hb dL_law_65 (by decide) ?_
  refine lv_bipush (v := 80) hx hb dL_law_66 (by decide) ?_
  refine lv_icmp_le (tgt := 76) hx hb dL_law_68 (by decide) (fun hc => ?_) (fun hc => ?_)
  · refine lv_aload_n hx hb dL_law_76 rfl (lv_at hl 1 rfl) ?_
    refine va_slen hx hb hX hbl hbA hS dL_law_77 ?_
    refine lv_iconst (v := 3) hx hb dL_law_78 (by decide) ?_
    refine lv_idiv hx hb dL_law_79 (by decide) ?_
    refine W_stk (st' := [.int (nI (L / 3))]) (by rw [← ed]; rfl) ?_
    have hc2 : nI (L / 3) ≤ (80 : Int32) := by rw [← ed]; exact hc
    exact run (L / 3) (by
      have h9 := Int32.le_iff_toInt_le.mp hc2
      rw [nI_toInt (show L / 3 < 2 ^ 31 by omega), show ((80 : Int32)).toInt = 80 from by decide] at h9
      omega) (by omega)
  · refine lv_bipush (v := 80) hx hb dL_law_71 (by decide) ?_
    refine lv_goto (tgt := 80) hx hb dL_law_73 (by decide) ?_
    have hc2 : ¬ nI (L / 3) ≤ (80 : Int32) := by rw [← ed]; exact hc
    exact run 80 (Nat.le_refl 80) (by
      rw [Int32.le_iff_toInt_le, nI_toInt (show L / 3 < 2 ^ 31 by omega), show ((80 : Int32)).toInt = 80 from by decide] at hc2
      omega)
