section LAWC
variable {p : Program} {l : Launch} {e : Env} {s : State} {m : MethodId} {below : List Frame} {meth : Method} {c : Code} {H : Heap} {locs : List Loc} {Q : State → Prop} {b L : Nat} {xs : Nat → Int32}
variable {ls : Array Slot} {D : va_G} {G : CGT} {ad : Nat → Nat → Nat} {Z : CZ} {mad : Nat → Nat} {kI kZ cJ : ClassId} {M : MT} {q : Nat} {f : Nat → Int64} {A0 : Nat → Prop}
theorem law_in {t j L : Nat} (hL : L ≤ 2560) (ht : 5 * t + 5 ≤ L) (hj : j ≤ 4) : vp_in (nI (5 * t) + nI j) L := by
  rw [nI_add]
  intro h
  have hc : (nI (5 * t + j)).toNatClampNeg = 5 * t + j := nI_clamp (by omega)
  rw [hc] at h
  rcases h with h | h
  · exact absurd h (nI_pos (by omega))
  · omega
theorem lg_lcmp {pc : Nat} {cc : ByteArray} {args : Array Value} {R : Room} {cells slots : Nat} {rest : List Value} (hx : p.tables.exec = Jvm.exec) (hb : c.code = cc) {x : Int64} (hdg : decode cc pc = .ok (.lcmp, 1)) (k : W p l e R s m args below meth c H locs cells slots Q (F0 m (pc + 1) ls (.int 0 :: rest))) : W p l e R s m args below meth c H locs cells slots Q (F0 m pc ls (.long x :: .long x :: rest)) := by
  have h0 : lg_cmp x x = 0 := by
    unfold lg_cmp
    simp
  refine W.lcmp hx hb hdg ?_
  rw [h0]
  exact k
set_option maxHeartbeats 4000000 in
set_option maxRecDepth 100000 in
theorem law_pan (hx : p.tables.exec = Jvm.exec) (hb : c.code = cL_law) (hml : c.maxLocals = 7) (hown : s.vm.findClass RL = some m.cls) (hts : ∀ w ∈ wsL_law, w.before #[Value.ref b] s = true) (hX : va_X b L xs s s.heap) (hbl : b < s.heap.size) (hfl : l.stackTraces = false) (hK : cK D G s) (hmK : mK D kI kZ s) (hKJ : va_K D vwCl [(cJ, .long)] s) (hE : cE A0 s s.heap) (hF : cF G A0 s s.heap) (hNc : lNc s) (hbA : ¬ A0 b) (hA0 : ∀ r, s.heap.size ≤ r → A0 r) {R R1 : CZ → MT → Prop} (hst : st_pan R R1) {t : Nat} (hL : L ≤ 2560) (ht : 5 * t + 5 ≤ L) (hLI : lI D G ad Z mad kI kZ M cJ q f A0 H) (hR : R Z M) (hS : va_S A0 s.heap H locs) (hl : lv_has ls 7 [(0, .ref b), (1, .ref (ad 0 0)), (2, .ref (mad 0)), (3, .ref q), (4, .int (nI (5 * t)))])
    (kk : ∀ (H1 : Heap) (locs1 : List Loc) (ls1 : Array Slot) (ad1 : Nat → Nat → Nat) (Z1 : CZ) (M1 : MT) (f1 : Nat → Int64), ad1 0 0 = ad 0 0 → lI D G ad1 Z1 mad kI kZ M1 cJ q f1 A0 H1 → R1 Z1 M1 → va_S A0 s.heap H1 locs1 → lv_has ls1 7 [(0, .ref b), (1, .ref (ad1 0 0)), (2, .ref (mad 0)), (3, .ref q), (4, .int (nI (5 * t)))] → W p l e room_1 s m #[Value.ref b] below meth c H1 locs1 (100 + 20 * (t + 1)) (2000 + 120 * (t + 1)) Q (F0 m 2028 ls1 [])) : W p l e room_1 s m #[Value.ref b] below meth c H locs (100 + 20 * t) (2000 + 120 * t) Q (F0 m 164 ls []) := by
  have ht5 : t < 512 := by omega
  refine lv_aload_n hx hb dL_law_164 rfl (lv_at hl 1 rfl) ?_
  refine lv_aload_n hx hb dL_law_165 rfl (lv_at hl 0 rfl) ?_
  refine lv_iload hx hb dL_law_166 (lv_at hl 4 rfl) ?_
  refine lv_iconst (v := 1) hx hb dL_law_168 (by decide) ?_
  refine lv_iadd hx hb dL_law_169 ?_
  refine va_sld hx hb hX hbl hbA hS (law_in hL ht (show (1 : Nat) ≤ 4 by omega)) dL_law_170 ?_
  refine lv_aload_n hx hb dL_law_171 rfl (lv_at hl 0 rfl) ?_
  refine lv_iload hx hb dL_law_172 (lv_at hl 4 rfl) ?_
  refine lv_iconst (v := 2) hx hb dL_law_174 (by decide) ?_
  refine lv_iadd hx hb dL_law_175 ?_
  refine va_sld hx hb hX hbl hbA hS (law_in hL ht (show (2 : Nat) ≤ 4 by omega)) dL_law_176 ?_
  refine lv_aload_n hx hb dL_law_177 rfl (lv_at hl 0 rfl) ?_
  refine lv_iload hx hb dL_law_178 (lv_at hl 4 rfl) ?_
  refine lv_iconst (v := 3) hx hb dL_law_180 (by decide) ?_
  refine lv_iadd hx hb dL_law_181 ?_
  refine va_sld hx hb hX hbl hbA hS (law_in hL ht (show (3 : Nat) ≤ 4 by omega)) dL_law_182 ?_
  refine lv_aload_n hx hb dL_law_183 rfl (lv_at hl 0 rfl) ?_
  refine lv_iload hx hb dL_law_184 (lv_at hl 4 rfl) ?_
  refine lv_iconst (v := 4) hx hb dL_law_186 (by decide) ?_
  refine lv_iadd hx hb dL_law_187 ?_
  refine va_sld hx hb hX hbl hbA hS (law_in hL ht (show (4 : Nat) ≤ 4 by omega)) dL_law_188 ?_
  refine lv_aload_n hx hb dL_law_189 rfl (lv_at hl 3 rfl) ?_
  obtain ⟨bb, M1, Z1, hm, hR1, hw⟩ := hst Z M hR (xs (Int32.toNatClampNeg (nI (5 * t) + 1))) (xs (Int32.toNatClampNeg (nI (5 * t) + 2))) (xs (Int32.toNatClampNeg (nI (5 * t) + 3))) (xs (Int32.toNatClampNeg (nI (5 * t) + 4)))
  rcases hw with ⟨hc, h0⟩ | ⟨j, cd, hc, hj, h0⟩
  · refine lg_class hLI (fun r h => hA0 r (Nat.le_trans hS.1 h)) (vx_runSX (As := [.ref (ad 0 0), .int (xs (Int32.toNatClampNeg (nI (5 * t) + 1))), .int (xs (Int32.toNatClampNeg (nI (5 * t) + 2))), .int (xs (Int32.toNatClampNeg (nI (5 * t) + 3))), .int (xs (Int32.toNatClampNeg (nI (5 * t) + 4))), .ref q]) (rest := []) ⟨hx, hb, hml, hown, hts⟩ (mL_pan l hfl D G (lA ad Z H) ad Z cJ q f (xs (Int32.toNatClampNeg (nI (5 * t) + 1))) (xs (Int32.toNatClampNeg (nI (5 * t) + 2))) (xs (Int32.toNatClampNeg (nI (5 * t) + 3))) (xs (Int32.toNatClampNeg (nI (5 * t) + 4))) bb Z1 hc) (vx_cwSW 6 hts gL_law_L_pan rfl rfl rfl (by decide +kernel) ⟨Nat.le_of_ble_eq_true rfl, Nat.le_of_ble_eq_true rfl⟩) (lg_preS hLI (fun r h => hA0 r (Nat.le_trans hS.1 h)) hK hKJ hE hF hNc hS) rfl rfl hl.1 rfl (lv_room (Nat.le_of_ble_eq_true rfl)) dL_law_190 ⟨(Nat.le_trans (show 100 + 20 * t + 16 ≤ 600000 by omega) rm_c), (Nat.le_trans (show 2000 + 120 * t + 96 ≤ 7000000 by omega) rm_s)⟩) hS (fun H locs ad1 f1 hP h00 hLI hz hS => ?_)
    rw [← h00] at hl
    refine lv_istore (lv' := [(5, .int 0), (0, .ref b), (1, .ref (ad1 0 0)), (2, .ref (mad 0)), (3, .ref q), (4, .int (nI (5 * t)))]) hx hb dL_law_193 hl (by decide) rfl (fun ls hl => ?_)
    refine lv_aload_n hx hb dL_law_195 rfl (lv_at hl 3 rfl) ?_
    refine lv_aload_n hx hb dL_law_196 rfl (lv_at hl 1 rfl) ?_
    refine lv_iload hx hb dL_law_197 (lv_at hl 5 rfl) ?_
    refine lv_iconst (v := 1) hx hb dL_law_199 (by decide) ?_
    refine lv_iadd hx hb dL_law_200 ?_
    refine va_sld hx hb hX hbl hbA hS (law_in hL ht (show (1 : Nat) ≤ 4 by omega)) dL_law_201 ?_
    refine lv_aload_n hx hb dL_law_202 rfl (lv_at hl 1 rfl) ?_
    refine lv_iload hx hb dL_law_203 (lv_at hl 5 rfl) ?_
    refine lv_iconst (v := 2) hx hb dL_law_205 (by decide) ?_
    refine lv_iadd hx hb dL_law_206 ?_
    refine va_sld hx hb hX hbl hbA hS (law_in hL ht (show (2 : Nat) ≤ 4 by omega)) dL_law_207 ?_
    refine lv_aload_n hx hb dL_law_208 rfl (lv_at hl 1 rfl) ?_
    refine lv_iload hx hb dL_law_209 (lv_at hl 5 rfl) ?_
    refine lv_iconst (v := 3) hx hb dL_law_211 (by decide) ?_
    refine lv_iadd hx hb dL_law_212 ?_
    refine va_sld hx hb hX hbl hbA hS (law_in hL ht (show (3 : Nat) ≤ 4 by omega)) dL_law_213 ?_
    refine lv_aload_n hx hb dL_law_214 rfl (lv_at hl 1 rfl) ?_
    refine lv_iload hx hb dL_law_215 (lv_at hl 5 rfl) ?_
    refine lv_iconst (v := 4) hx hb dL_law_217 (by decide) ?_
    refine lv_iadd hx hb dL_law_218 ?_
    refine va_sld hx hb hX hbl hbA hS (law_in hL ht (show (4 : Nat) ≤ 4 by omega)) dL_law_219 ?_
    refine lg_modeli hLI (va_runV (As := [.int (xs (Int32.toNatClampNeg (nI (5 * t) + 1))), .int (xs (Int32.toNatClampNeg (nI (5 * t) + 2))), .int (xs (Int32.toNatClampNeg (nI (5 * t) + 3))), .int (xs (Int32.toNatClampNeg (nI (5 * t) + 4)))]) (rest := []) ⟨hx, hb, hml, hown, hts⟩ (mX7_pan l D mad kI kZ M (xs (Int32.toNatClampNeg (nI (5 * t) + 1))) (xs (Int32.toNatClampNeg (nI (5 * t) + 2))) (xs (Int32.toNatClampNeg (nI (5 * t) + 3))) (xs (Int32.toNatClampNeg (nI (5 * t) + 4))) bb M1 hm) (cwV 4 hts gL_law_X7_pan rfl rfl rfl (by decide +kernel) ⟨Nat.le_of_ble_eq_true rfl, Nat.le_of_ble_eq_true rfl⟩) (mg_preV hLI.2.2.1 hmK hLI.2.2.2.1) rfl rfl hl.1 rfl (lv_room (Nat.le_of_ble_eq_true rfl)) dL_law_220 ⟨(Nat.le_trans (show 100 + 20 * t + 16 + 0 ≤ 600000 by omega) rm_c), (Nat.le_trans (show 2000 + 120 * t + 96 + 0 ≤ 7000000 by omega) rm_s)⟩) hS (fun H locs hLI hz2 hS => ?_)
    refine lv_istore (lv' := [(6, .int bb), (5, .int 0), (0, .ref b), (1, .ref (ad1 0 0)), (2, .ref (mad 0)), (3, .ref q), (4, .int (nI (5 * t)))]) hx hb dL_law_223 hl (by decide) rfl (fun ls hl => ?_)
    refine lv_aload_n hx hb dL_law_225 rfl (lv_at hl 4 rfl) ?_
    refine lg_modeli hLI (va_runV (As := []) (rest := []) ⟨hx, hb, hml, hown, hts⟩ (mX7_thrown l D mad kI kZ M1 (M1 0 0) rfl) (cwV 0 hts gL_law_X7_thrown rfl rfl rfl (by decide +kernel) ⟨Nat.le_of_ble_eq_true rfl, Nat.le_of_ble_eq_true rfl⟩) (mg_preV hLI.2.2.1 hmK hLI.2.2.2.1) rfl rfl hl.1 rfl (lv_room (Nat.le_of_ble_eq_true rfl)) dL_law_226 ⟨(Nat.le_trans (show 100 + 20 * t + 16 + 0 ≤ 600000 by omega) rm_c), (Nat.le_trans (show 2000 + 120 * t + 96 + 0 ≤ 7000000 by omega) rm_s)⟩) hS (fun H locs hLI hz3 hS => ?_)
    refine lv_iload hx hb dL_law_229 (lv_at hl 1 rfl) ?_
    refine lv_icmp_eq (tgt := 236) hx hb dL_law_231 (by decide) (fun _ => ?_) (fun hc => absurd h0 hc)
    refine lv_iload hx hb dL_law_236 (lv_at hl 1 rfl) ?_
    refine lv_if_ne (tgt := 253) hx hb dL_law_238 (by decide) (fun hc => absurd rfl hc) (fun _ => ?_)
    refine lv_aload_n hx hb dL_law_241 rfl (lv_at hl 5 rfl) ?_
    refine lv_iconst (v := 0) hx hb dL_law_242 (by decide) ?_
    refine va_lald hx hb hKJ (iw_P1 hLI.2.2.2.2.1) 0 0 rfl rfl (show ¬ ((0 : Int32) < 0 ∨ 1 ≤ (0 : Int32).toNatClampNeg) from by decide) dL_law_243 ?_
    rw [show f1 (0 : Int32).toNatClampNeg = bb.toInt64 from hP]
    refine lv_iload hx hb dL_law_244 (lv_at hl 0 rfl) ?_
    refine lv_i2l hx hb (v := bb.toInt64) dL_law_246 rfl ?_
    refine lg_lcmp hx hb dL_law_247 ?_
    refine lv_if_eq (tgt := 253) hx hb dL_law_248 (by decide) (fun _ => ?_) (fun hc => absurd rfl hc)
    refine lv_goto (tgt := 2028) hx hb dL_law_253 (by decide) ?_
    refine W.widen (k := 100 + 20 * (t + 1)) (n := 2000 + 120 * (t + 1)) (by omega) (by omega) ?_
    exact kk H locs ls ad1 Z1 M1 f1 h00 hLI hR1 hS (lv_sub hl [2, 3, 4, 5, 6] rfl)
  · match j, hj with
    | 0, hj =>
      cases hj
      refine lg_class hLI (fun r h => hA0 r (Nat.le_trans hS.1 h)) (vx_runSX (As := [.ref (ad 0 0), .int (xs (Int32.toNatClampNeg (nI (5 * t) + 1))), .int (xs (Int32.toNatClampNeg (nI (5 * t) + 2))), .int (xs (Int32.toNatClampNeg (nI (5 * t) + 3))), .int (xs (Int32.toNatClampNeg (nI (5 * t) + 4))), .ref q]) (rest := []) ⟨hx, hb, hml, hown, hts⟩ (mL_pan_x1 l hfl D G (lA ad Z H) ad Z cJ q f (xs (Int32.toNatClampNeg (nI (5 * t) + 1))) (xs (Int32.toNatClampNeg (nI (5 * t) + 2))) (xs (Int32.toNatClampNeg (nI (5 * t) + 3))) (xs (Int32.toNatClampNeg (nI (5 * t) + 4))) Z1 hc) (vx_cwSW 6 hts gL_law_L_pan rfl rfl rfl (by decide +kernel) ⟨Nat.le_of_ble_eq_true rfl, Nat.le_of_ble_eq_true rfl⟩) (lg_preS hLI (fun r h => hA0 r (Nat.le_trans hS.1 h)) hK hKJ hE hF hNc hS) rfl rfl hl.1 rfl (lv_room (Nat.le_of_ble_eq_true rfl)) dL_law_190 ⟨(Nat.le_trans (show 100 + 20 * t + 16 ≤ 600000 by omega) rm_c), (Nat.le_trans (show 2000 + 120 * t + 96 ≤ 7000000 by omega) rm_s)⟩) hS (fun H locs ad1 f1 hP h00 hLI hz hS => ?_)
      rw [← h00] at hl
      refine lv_istore (lv' := [(5, .int 1), (0, .ref b), (1, .ref (ad1 0 0)), (2, .ref (mad 0)), (3, .ref q), (4, .int (nI (5 * t)))]) hx hb dL_law_193 hl (by decide) rfl (fun ls hl => ?_)
      refine lv_aload_n hx hb dL_law_195 rfl (lv_at hl 3 rfl) ?_
      refine lv_aload_n hx hb dL_law_196 rfl (lv_at hl 1 rfl) ?_
      refine lv_iload hx hb dL_law_197 (lv_at hl 5 rfl) ?_
      refine lv_iconst (v := 1) hx hb dL_law_199 (by decide) ?_
      refine lv_iadd hx hb dL_law_200 ?_
      refine va_sld hx hb hX hbl hbA hS (law_in hL ht (show (1 : Nat) ≤ 4 by omega)) dL_law_201 ?_
      refine lv_aload_n hx hb dL_law_202 rfl (lv_at hl 1 rfl) ?_
      refine lv_iload hx hb dL_law_203 (lv_at hl 5 rfl) ?_
      refine lv_iconst (v := 2) hx hb dL_law_205 (by decide) ?_
      refine lv_iadd hx hb dL_law_206 ?_
      refine va_sld hx hb hX hbl hbA hS (law_in hL ht (show (2 : Nat) ≤ 4 by omega)) dL_law_207 ?_
      refine lv_aload_n hx hb dL_law_208 rfl (lv_at hl 1 rfl) ?_
      refine lv_iload hx hb dL_law_209 (lv_at hl 5 rfl) ?_
      refine lv_iconst (v := 3) hx hb dL_law_211 (by decide) ?_
      refine lv_iadd hx hb dL_law_212 ?_
      refine va_sld hx hb hX hbl hbA hS (law_in hL ht (show (3 : Nat) ≤ 4 by omega)) dL_law_213 ?_
      refine lv_aload_n hx hb dL_law_214 rfl (lv_at hl 1 rfl) ?_
      refine lv_iload hx hb dL_law_215 (lv_at hl 5 rfl) ?_
      refine lv_iconst (v := 4) hx hb dL_law_217 (by decide) ?_
      refine lv_iadd hx hb dL_law_218 ?_
      refine va_sld hx hb hX hbl hbA hS (law_in hL ht (show (4 : Nat) ≤ 4 by omega)) dL_law_219 ?_
      refine lg_modeli hLI (va_runV (As := [.int (xs (Int32.toNatClampNeg (nI (5 * t) + 1))), .int (xs (Int32.toNatClampNeg (nI (5 * t) + 2))), .int (xs (Int32.toNatClampNeg (nI (5 * t) + 3))), .int (xs (Int32.toNatClampNeg (nI (5 * t) + 4)))]) (rest := []) ⟨hx, hb, hml, hown, hts⟩ (mX7_pan l D mad kI kZ M (xs (Int32.toNatClampNeg (nI (5 * t) + 1))) (xs (Int32.toNatClampNeg (nI (5 * t) + 2))) (xs (Int32.toNatClampNeg (nI (5 * t) + 3))) (xs (Int32.toNatClampNeg (nI (5 * t) + 4))) bb M1 hm) (cwV 4 hts gL_law_X7_pan rfl rfl rfl (by decide +kernel) ⟨Nat.le_of_ble_eq_true rfl, Nat.le_of_ble_eq_true rfl⟩) (mg_preV hLI.2.2.1 hmK hLI.2.2.2.1) rfl rfl hl.1 rfl (lv_room (Nat.le_of_ble_eq_true rfl)) dL_law_220 ⟨(Nat.le_trans (show 100 + 20 * t + 16 + 0 ≤ 600000 by omega) rm_c), (Nat.le_trans (show 2000 + 120 * t + 96 + 0 ≤ 7000000 by omega) rm_s)⟩) hS (fun H locs hLI hz2 hS => ?_)
      refine lv_istore (lv' := [(6, .int bb), (5, .int 1), (0, .ref b), (1, .ref (ad1 0 0)), (2, .ref (mad 0)), (3, .ref q), (4, .int (nI (5 * t)))]) hx hb dL_law_223 hl (by decide) rfl (fun ls hl => ?_)
      refine lv_aload_n hx hb dL_law_225 rfl (lv_at hl 4 rfl) ?_
      refine lg_modeli hLI (va_runV (As := []) (rest := []) ⟨hx, hb, hml, hown, hts⟩ (mX7_thrown l D mad kI kZ M1 (M1 0 0) rfl) (cwV 0 hts gL_law_X7_thrown rfl rfl rfl (by decide +kernel) ⟨Nat.le_of_ble_eq_true rfl, Nat.le_of_ble_eq_true rfl⟩) (mg_preV hLI.2.2.1 hmK hLI.2.2.2.1) rfl rfl hl.1 rfl (lv_room (Nat.le_of_ble_eq_true rfl)) dL_law_226 ⟨(Nat.le_trans (show 100 + 20 * t + 16 + 0 ≤ 600000 by omega) rm_c), (Nat.le_trans (show 2000 + 120 * t + 96 + 0 ≤ 7000000 by omega) rm_s)⟩) hS (fun H locs hLI hz3 hS => ?_)
      refine lv_iload hx hb dL_law_229 (lv_at hl 1 rfl) ?_
      refine lv_icmp_eq (tgt := 236) hx hb dL_law_231 (by decide) (fun _ => ?_) (fun hc => absurd h0 hc)
      refine lv_iload hx hb dL_law_236 (lv_at hl 1 rfl) ?_
      refine lv_if_ne (tgt := 253) hx hb dL_law_238 (by decide) (fun _ => ?_) (fun hc => absurd hc (by decide))
      refine lv_goto (tgt := 2028) hx hb dL_law_253 (by decide) ?_
      refine W.widen (k := 100 + 20 * (t + 1)) (n := 2000 + 120 * (t + 1)) (by omega) (by omega) ?_
      exact kk H locs ls ad1 Z1 M1 f1 h00 hLI hR1 hS (lv_sub hl [2, 3, 4, 5, 6] rfl)
    | 1, hj =>
      cases hj
      refine lg_class hLI (fun r h => hA0 r (Nat.le_trans hS.1 h)) (vx_runSX (As := [.ref (ad 0 0), .int (xs (Int32.toNatClampNeg (nI (5 * t) + 1))), .int (xs (Int32.toNatClampNeg (nI (5 * t) + 2))), .int (xs (Int32.toNatClampNeg (nI (5 * t) + 3))), .int (xs (Int32.toNatClampNeg (nI (5 * t) + 4))), .ref q]) (rest := []) ⟨hx, hb, hml, hown, hts⟩ (mL_pan_x2 l hfl D G (lA ad Z H) ad Z cJ q f (xs (Int32.toNatClampNeg (nI (5 * t) + 1))) (xs (Int32.toNatClampNeg (nI (5 * t) + 2))) (xs (Int32.toNatClampNeg (nI (5 * t) + 3))) (xs (Int32.toNatClampNeg (nI (5 * t) + 4))) Z1 hc) (vx_cwSW 6 hts gL_law_L_pan rfl rfl rfl (by decide +kernel) ⟨Nat.le_of_ble_eq_true rfl, Nat.le_of_ble_eq_true rfl⟩) (lg_preS hLI (fun r h => hA0 r (Nat.le_trans hS.1 h)) hK hKJ hE hF hNc hS) rfl rfl hl.1 rfl (lv_room (Nat.le_of_ble_eq_true rfl)) dL_law_190 ⟨(Nat.le_trans (show 100 + 20 * t + 16 ≤ 600000 by omega) rm_c), (Nat.le_trans (show 2000 + 120 * t + 96 ≤ 7000000 by omega) rm_s)⟩) hS (fun H locs ad1 f1 hP h00 hLI hz hS => ?_)
      rw [← h00] at hl
      refine lv_istore (lv' := [(5, .int 2), (0, .ref b), (1, .ref (ad1 0 0)), (2, .ref (mad 0)), (3, .ref q), (4, .int (nI (5 * t)))]) hx hb dL_law_193 hl (by decide) rfl (fun ls hl => ?_)
      refine lv_aload_n hx hb dL_law_195 rfl (lv_at hl 3 rfl) ?_
      refine lv_aload_n hx hb dL_law_196 rfl (lv_at hl 1 rfl) ?_
      refine lv_iload hx hb dL_law_197 (lv_at hl 5 rfl) ?_
      refine lv_iconst (v := 1) hx hb dL_law_199 (by decide) ?_
      refine lv_iadd hx hb dL_law_200 ?_
      refine va_sld hx hb hX hbl hbA hS (law_in hL ht (show (1 : Nat) ≤ 4 by omega)) dL_law_201 ?_
      refine lv_aload_n hx hb dL_law_202 rfl (lv_at hl 1 rfl) ?_
      refine lv_iload hx hb dL_law_203 (lv_at hl 5 rfl) ?_
      refine lv_iconst (v := 2) hx hb dL_law_205 (by decide) ?_
      refine lv_iadd hx hb dL_law_206 ?_
      refine va_sld hx hb hX hbl hbA hS (law_in hL ht (show (2 : Nat) ≤ 4 by omega)) dL_law_207 ?_
      refine lv_aload_n hx hb dL_law_208 rfl (lv_at hl 1 rfl) ?_
      refine lv_iload hx hb dL_law_209 (lv_at hl 5 rfl) ?_
      refine lv_iconst (v := 3) hx hb dL_law_211 (by decide) ?_
      refine lv_iadd hx hb dL_law_212 ?_
      refine va_sld hx hb hX hbl hbA hS (law_in hL ht (show (3 : Nat) ≤ 4 by omega)) dL_law_213 ?_
      refine lv_aload_n hx hb dL_law_214 rfl (lv_at hl 1 rfl) ?_
      refine lv_iload hx hb dL_law_215 (lv_at hl 5 rfl) ?_
      refine lv_iconst (v := 4) hx hb dL_law_217 (by decide) ?_
      refine lv_iadd hx hb dL_law_218 ?_
      refine va_sld hx hb hX hbl hbA hS (law_in hL ht (show (4 : Nat) ≤ 4 by omega)) dL_law_219 ?_
      refine lg_modeli hLI (va_runV (As := [.int (xs (Int32.toNatClampNeg (nI (5 * t) + 1))), .int (xs (Int32.toNatClampNeg (nI (5 * t) + 2))), .int (xs (Int32.toNatClampNeg (nI (5 * t) + 3))), .int (xs (Int32.toNatClampNeg (nI (5 * t) + 4)))]) (rest := []) ⟨hx, hb, hml, hown, hts⟩ (mX7_pan l D mad kI kZ M (xs (Int32.toNatClampNeg (nI (5 * t) + 1))) (xs (Int32.toNatClampNeg (nI (5 * t) + 2))) (xs (Int32.toNatClampNeg (nI (5 * t) + 3))) (xs (Int32.toNatClampNeg (nI (5 * t) + 4))) bb M1 hm) (cwV 4 hts gL_law_X7_pan rfl rfl rfl (by decide +kernel) ⟨Nat.le_of_ble_eq_true rfl, Nat.le_of_ble_eq_true rfl⟩) (mg_preV hLI.2.2.1 hmK hLI.2.2.2.1) rfl rfl hl.1 rfl (lv_room (Nat.le_of_ble_eq_true rfl)) dL_law_220 ⟨(Nat.le_trans (show 100 + 20 * t + 16 + 0 ≤ 600000 by omega) rm_c), (Nat.le_trans (show 2000 + 120 * t + 96 + 0 ≤ 7000000 by omega) rm_s)⟩) hS (fun H locs hLI hz2 hS => ?_)
      refine lv_istore (lv' := [(6, .int bb), (5, .int 2), (0, .ref b), (1, .ref (ad1 0 0)), (2, .ref (mad 0)), (3, .ref q), (4, .int (nI (5 * t)))]) hx hb dL_law_223 hl (by decide) rfl (fun ls hl => ?_)
      refine lv_aload_n hx hb dL_law_225 rfl (lv_at hl 4 rfl) ?_
      refine lg_modeli hLI (va_runV (As := []) (rest := []) ⟨hx, hb, hml, hown, hts⟩ (mX7_thrown l D mad kI kZ M1 (M1 0 0) rfl) (cwV 0 hts gL_law_X7_thrown rfl rfl rfl (by decide +kernel) ⟨Nat.le_of_ble_eq_true rfl, Nat.le_of_ble_eq_true rfl⟩) (mg_preV hLI.2.2.1 hmK hLI.2.2.2.1) rfl rfl hl.1 rfl (lv_room (Nat.le_of_ble_eq_true rfl)) dL_law_226 ⟨(Nat.le_trans (show 100 + 20 * t + 16 + 0 ≤ 600000 by omega) rm_c), (Nat.le_trans (show 2000 + 120 * t + 96 + 0 ≤ 7000000 by omega) rm_s)⟩) hS (fun H locs hLI hz3 hS => ?_)
      refine lv_iload hx hb dL_law_229 (lv_at hl 1 rfl) ?_
      refine lv_icmp_eq (tgt := 236) hx hb dL_law_231 (by decide) (fun _ => ?_) (fun hc => absurd h0 hc)
      refine lv_iload hx hb dL_law_236 (lv_at hl 1 rfl) ?_
      refine lv_if_ne (tgt := 253) hx hb dL_law_238 (by decide) (fun _ => ?_) (fun hc => absurd hc (by decide))
      refine lv_goto (tgt := 2028) hx hb dL_law_253 (by decide) ?_
      refine W.widen (k := 100 + 20 * (t + 1)) (n := 2000 + 120 * (t + 1)) (by omega) (by omega) ?_
      exact kk H locs ls ad1 Z1 M1 f1 h00 hLI hR1 hS (lv_sub hl [2, 3, 4, 5, 6] rfl)
    | j + 2, hj => cases hj
set_option maxHeartbeats 4000000 in
set_option maxRecDepth 100000 in
theorem law_blow0 (hx : p.tables.exec = Jvm.exec) (hb : c.code = cL_law) (hml : c.maxLocals = 7) (hown : s.vm.findClass RL = some m.cls) (hts : ∀ w ∈ wsL_law, w.before #[Value.ref b] s = true) (hX : va_X b L xs s s.heap) (hbl : b < s.heap.size) (hfl : l.stackTraces = false) (hK : cK D G s) (hmK : mK D kI kZ s) (hKJ : va_K D vwCl [(cJ, .long)] s) (hE : cE A0 s s.heap) (hF : cF G A0 s s.heap) (hNc : lNc s) (hbA : ¬ A0 b) (hA0 : ∀ r, s.heap.size ≤ r → A0 r) {R R1 : CZ → MT → Prop} (hst : st_blow R R1) {t : Nat} (hzz : xs (Int32.toNatClampNeg (nI (5 * t) + 4)) = 0) (hL : L ≤ 2560) (ht : 5 * t + 5 ≤ L) (hLI : lI D G ad Z mad kI kZ M cJ q f A0 H) (hR : R Z M) (hS : va_S A0 s.heap H locs) (hl : lv_has ls 7 [(0, .ref b), (1, .ref (ad 0 0)), (2, .ref (mad 0)), (3, .ref q), (4, .int (nI (5 * t)))])
    (kk : ∀ (H1 : Heap) (locs1 : List Loc) (ls1 : Array Slot) (ad1 : Nat → Nat → Nat) (Z1 : CZ) (M1 : MT) (f1 : Nat → Int64), ad1 0 0 = ad 0 0 → lI D G ad1 Z1 mad kI kZ M1 cJ q f1 A0 H1 → R1 Z1 M1 → va_S A0 s.heap H1 locs1 → lv_has ls1 7 [(0, .ref b), (1, .ref (ad1 0 0)), (2, .ref (mad 0)), (3, .ref q), (4, .int (nI (5 * t)))] → W p l e room_1 s m #[Value.ref b] below meth c H1 locs1 (100 + 20 * (t + 1)) (2000 + 120 * (t + 1)) Q (F0 m 2028 ls1 [])) : W p l e room_1 s m #[Value.ref b] below meth c H locs (100 + 20 * t) (2000 + 120 * t) Q (F0 m 256 ls []) := by
  have ht5 : t < 512 := by omega
  refine lv_aload_n hx hb dL_law_256 rfl (lv_at hl 1 rfl) ?_
  refine lv_aload_n hx hb dL_law_257 rfl (lv_at hl 0 rfl) ?_
  refine lv_iload hx hb dL_law_258 (lv_at hl 4 rfl) ?_
  refine lv_iconst (v := 1) hx hb dL_law_260 (by decide) ?_
  refine lv_iadd hx hb dL_law_261 ?_
  refine va_sld hx hb hX hbl hbA hS (law_in hL ht (show (1 : Nat) ≤ 4 by omega)) dL_law_262 ?_
  refine lv_aload_n hx hb dL_law_263 rfl (lv_at hl 0 rfl) ?_
  refine lv_iload hx hb dL_law_264 (lv_at hl 4 rfl) ?_
  refine lv_iconst (v := 2) hx hb dL_law_266 (by decide) ?_
  refine lv_iadd hx hb dL_law_267 ?_
  refine va_sld hx hb hX hbl hbA hS (law_in hL ht (show (2 : Nat) ≤ 4 by omega)) dL_law_268 ?_
  refine lv_aload_n hx hb dL_law_269 rfl (lv_at hl 0 rfl) ?_
  refine lv_iload hx hb dL_law_270 (lv_at hl 4 rfl) ?_
  refine lv_iconst (v := 3) hx hb dL_law_272 (by decide) ?_
  refine lv_iadd hx hb dL_law_273 ?_
  refine va_sld hx hb hX hbl hbA hS (law_in hL ht (show (3 : Nat) ≤ 4 by omega)) dL_law_274 ?_
  refine lv_aload_n hx hb dL_law_275 rfl (lv_at hl 0 rfl) ?_
  refine lv_iload hx hb dL_law_276 (lv_at hl 4 rfl) ?_
  refine lv_iconst (v := 4) hx hb dL_law_278 (by decide) ?_
  refine lv_iadd hx hb dL_law_279 ?_
  refine va_sld hx hb hX hbl hbA hS (law_in hL ht (show (4 : Nat) ≤ 4 by omega)) dL_law_280 ?_
  refine lv_if_eq (tgt := 288) hx hb dL_law_281 (by decide) (fun _ => ?_) (fun hc => absurd hzz hc)
  refine lv_iconst (v := 0) hx hb dL_law_288 (by decide) ?_
  refine lv_aload_n hx hb dL_law_289 rfl (lv_at hl 3 rfl) ?_
  obtain ⟨bb, M1, Z1, hm, hR1, hw⟩ := hst Z M hR (xs (Int32.toNatClampNeg (nI (5 * t) + 1))) (xs (Int32.toNatClampNeg (nI (5 * t) + 2))) (xs (Int32.toNatClampNeg (nI (5 * t) + 3))) 0 (Or.inl rfl)
  rcases hw with ⟨hc, h0⟩ | ⟨j, cd, hc, hj, h0⟩
  · refine lg_class hLI (fun r h => hA0 r (Nat.le_trans hS.1 h)) (vx_runSX (As := [.ref (ad 0 0), .int (xs (Int32.toNatClampNeg (nI (5 * t) + 1))), .int (xs (Int32.toNatClampNeg (nI (5 * t) + 2))), .int (xs (Int32.toNatClampNeg (nI (5 * t) + 3))), .int 0, .ref q]) (rest := []) ⟨hx, hb, hml, hown, hts⟩ (mL_blow l hfl D G (lA ad Z H) ad Z cJ q f (xs (Int32.toNatClampNeg (nI (5 * t) + 1))) (xs (Int32.toNatClampNeg (nI (5 * t) + 2))) (xs (Int32.toNatClampNeg (nI (5 * t) + 3))) 0 bb Z1 hc) (vx_cwSW 6 hts gL_law_L_blow rfl rfl rfl (by decide +kernel) ⟨Nat.le_of_ble_eq_true rfl, Nat.le_of_ble_eq_true rfl⟩) (lg_preS hLI (fun r h => hA0 r (Nat.le_trans hS.1 h)) hK hKJ hE hF hNc hS) rfl rfl hl.1 rfl (lv_room (Nat.le_of_ble_eq_true rfl)) dL_law_290 ⟨(Nat.le_trans (show 100 + 20 * t + 4 ≤ 600000 by omega) rm_c), (Nat.le_trans (show 2000 + 120 * t + 24 ≤ 7000000 by omega) rm_s)⟩) hS (fun H locs ad1 f1 hP h00 hLI hz hS => ?_)
    rw [← h00] at hl
    refine lv_istore (lv' := [(5, .int 0), (0, .ref b), (1, .ref (ad1 0 0)), (2, .ref (mad 0)), (3, .ref q), (4, .int (nI (5 * t)))]) hx hb dL_law_293 hl (by decide) rfl (fun ls hl => ?_)
    refine lv_aload_n hx hb dL_law_295 rfl (lv_at hl 3 rfl) ?_
    refine lv_aload_n hx hb dL_law_296 rfl (lv_at hl 1 rfl) ?_
    refine lv_iload hx hb dL_law_297 (lv_at hl 5 rfl) ?_
    refine lv_iconst (v := 1) hx hb dL_law_299 (by decide) ?_
    refine lv_iadd hx hb dL_law_300 ?_
    refine va_sld hx hb hX hbl hbA hS (law_in hL ht (show (1 : Nat) ≤ 4 by omega)) dL_law_301 ?_
    refine lv_aload_n hx hb dL_law_302 rfl (lv_at hl 1 rfl) ?_
    refine lv_iload hx hb dL_law_303 (lv_at hl 5 rfl) ?_
    refine lv_iconst (v := 2) hx hb dL_law_305 (by decide) ?_
    refine lv_iadd hx hb dL_law_306 ?_
    refine va_sld hx hb hX hbl hbA hS (law_in hL ht (show (2 : Nat) ≤ 4 by omega)) dL_law_307 ?_
    refine lv_aload_n hx hb dL_law_308 rfl (lv_at hl 1 rfl) ?_
    refine lv_iload hx hb dL_law_309 (lv_at hl 5 rfl) ?_
    refine lv_iconst (v := 3) hx hb dL_law_311 (by decide) ?_
    refine lv_iadd hx hb dL_law_312 ?_
    refine va_sld hx hb hX hbl hbA hS (law_in hL ht (show (3 : Nat) ≤ 4 by omega)) dL_law_313 ?_
    refine lv_aload_n hx hb dL_law_314 rfl (lv_at hl 1 rfl) ?_
    refine lv_iload hx hb dL_law_315 (lv_at hl 5 rfl) ?_
    refine lv_iconst (v := 4) hx hb dL_law_317 (by decide) ?_
    refine lv_iadd hx hb dL_law_318 ?_
    refine va_sld hx hb hX hbl hbA hS (law_in hL ht (show (4 : Nat) ≤ 4 by omega)) dL_law_319 ?_
    refine lv_if_eq (tgt := 327) hx hb dL_law_320 (by decide) (fun _ => ?_) (fun hc => absurd hzz hc)
    refine lv_iconst (v := 0) hx hb dL_law_327 (by decide) ?_
    refine lg_modeli hLI (va_runV (As := [.int (xs (Int32.toNatClampNeg (nI (5 * t) + 1))), .int (xs (Int32.toNatClampNeg (nI (5 * t) + 2))), .int (xs (Int32.toNatClampNeg (nI (5 * t) + 3))), .int 0]) (rest := []) ⟨hx, hb, hml, hown, hts⟩ (mX7_blow l D mad kI kZ M (xs (Int32.toNatClampNeg (nI (5 * t) + 1))) (xs (Int32.toNatClampNeg (nI (5 * t) + 2))) (xs (Int32.toNatClampNeg (nI (5 * t) + 3))) 0 bb M1 hm) (cwV 4 hts gL_law_X7_blow rfl rfl rfl (by decide +kernel) ⟨Nat.le_of_ble_eq_true rfl, Nat.le_of_ble_eq_true rfl⟩) (mg_preV hLI.2.2.1 hmK hLI.2.2.2.1) rfl rfl hl.1 rfl (lv_room (Nat.le_of_ble_eq_true rfl)) dL_law_328 ⟨(Nat.le_trans (show 100 + 20 * t + 4 + 0 ≤ 600000 by omega) rm_c), (Nat.le_trans (show 2000 + 120 * t + 24 + 0 ≤ 7000000 by omega) rm_s)⟩) hS (fun H locs hLI hz2 hS => ?_)
    refine lv_istore (lv' := [(6, .int bb), (5, .int 0), (0, .ref b), (1, .ref (ad1 0 0)), (2, .ref (mad 0)), (3, .ref q), (4, .int (nI (5 * t)))]) hx hb dL_law_331 hl (by decide) rfl (fun ls hl => ?_)
    refine lv_aload_n hx hb dL_law_333 rfl (lv_at hl 4 rfl) ?_
    refine lg_modeli hLI (va_runV (As := []) (rest := []) ⟨hx, hb, hml, hown, hts⟩ (mX7_thrown l D mad kI kZ M1 (M1 0 0) rfl) (cwV 0 hts gL_law_X7_thrown rfl rfl rfl (by decide +kernel) ⟨Nat.le_of_ble_eq_true rfl, Nat.le_of_ble_eq_true rfl⟩) (mg_preV hLI.2.2.1 hmK hLI.2.2.2.1) rfl rfl hl.1 rfl (lv_room (Nat.le_of_ble_eq_true rfl)) dL_law_334 ⟨(Nat.le_trans (show 100 + 20 * t + 4 + 0 ≤ 600000 by omega) rm_c), (Nat.le_trans (show 2000 + 120 * t + 24 + 0 ≤ 7000000 by omega) rm_s)⟩) hS (fun H locs hLI hz3 hS => ?_)
    refine lv_iload hx hb dL_law_337 (lv_at hl 1 rfl) ?_
    refine lv_icmp_eq (tgt := 344) hx hb dL_law_339 (by decide) (fun _ => ?_) (fun hc => absurd h0 hc)
    refine lv_iload hx hb dL_law_344 (lv_at hl 1 rfl) ?_
    refine lv_if_ne (tgt := 361) hx hb dL_law_346 (by decide) (fun hc => absurd rfl hc) (fun _ => ?_)
    refine lv_aload_n hx hb dL_law_349 rfl (lv_at hl 5 rfl) ?_
    refine lv_iconst (v := 0) hx hb dL_law_350 (by decide) ?_
    refine va_lald hx hb hKJ (iw_P1 hLI.2.2.2.2.1) 0 0 rfl rfl (show ¬ ((0 : Int32) < 0 ∨ 1 ≤ (0 : Int32).toNatClampNeg) from by decide) dL_law_351 ?_
    rw [show f1 (0 : Int32).toNatClampNeg = bb.toInt64 from hP]
    refine lv_iload hx hb dL_law_352 (lv_at hl 0 rfl) ?_
    refine lv_i2l hx hb (v := bb.toInt64) dL_law_354 rfl ?_
    refine lg_lcmp hx hb dL_law_355 ?_
    refine lv_if_eq (tgt := 361) hx hb dL_law_356 (by decide) (fun _ => ?_) (fun hc => absurd rfl hc)
    refine lv_goto (tgt := 2028) hx hb dL_law_361 (by decide) ?_
    refine W.widen (k := 100 + 20 * (t + 1)) (n := 2000 + 120 * (t + 1)) (by omega) (by omega) ?_
    exact kk H locs ls ad1 Z1 M1 f1 h00 hLI hR1 hS (lv_sub hl [2, 3, 4, 5, 6] rfl)
  · match j, hj with
    | 0, hj =>
      cases hj
      refine lg_class hLI (fun r h => hA0 r (Nat.le_trans hS.1 h)) (vx_runSX (As := [.ref (ad 0 0), .int (xs (Int32.toNatClampNeg (nI (5 * t) + 1))), .int (xs (Int32.toNatClampNeg (nI (5 * t) + 2))), .int (xs (Int32.toNatClampNeg (nI (5 * t) + 3))), .int 0, .ref q]) (rest := []) ⟨hx, hb, hml, hown, hts⟩ (mL_blow_x1 l hfl D G (lA ad Z H) ad Z cJ q f (xs (Int32.toNatClampNeg (nI (5 * t) + 1))) (xs (Int32.toNatClampNeg (nI (5 * t) + 2))) (xs (Int32.toNatClampNeg (nI (5 * t) + 3))) 0 Z1 hc) (vx_cwSW 6 hts gL_law_L_blow rfl rfl rfl (by decide +kernel) ⟨Nat.le_of_ble_eq_true rfl, Nat.le_of_ble_eq_true rfl⟩) (lg_preS hLI (fun r h => hA0 r (Nat.le_trans hS.1 h)) hK hKJ hE hF hNc hS) rfl rfl hl.1 rfl (lv_room (Nat.le_of_ble_eq_true rfl)) dL_law_290 ⟨(Nat.le_trans (show 100 + 20 * t + 4 ≤ 600000 by omega) rm_c), (Nat.le_trans (show 2000 + 120 * t + 24 ≤ 7000000 by omega) rm_s)⟩) hS (fun H locs ad1 f1 hP h00 hLI hz hS => ?_)
      rw [← h00] at hl
      refine lv_istore (lv' := [(5, .int 1), (0, .ref b), (1, .ref (ad1 0 0)), (2, .ref (mad 0)), (3, .ref q), (4, .int (nI (5 * t)))]) hx hb dL_law_293 hl (by decide) rfl (fun ls hl => ?_)
      refine lv_aload_n hx hb dL_law_295 rfl (lv_at hl 3 rfl) ?_
      refine lv_aload_n hx hb dL_law_296 rfl (lv_at hl 1 rfl) ?_
      refine lv_iload hx hb dL_law_297 (lv_at hl 5 rfl) ?_
      refine lv_iconst (v := 1) hx hb dL_law_299 (by decide) ?_
      refine lv_iadd hx hb dL_law_300 ?_
      refine va_sld hx hb hX hbl hbA hS (law_in hL ht (show (1 : Nat) ≤ 4 by omega)) dL_law_301 ?_
      refine lv_aload_n hx hb dL_law_302 rfl (lv_at hl 1 rfl) ?_
      refine lv_iload hx hb dL_law_303 (lv_at hl 5 rfl) ?_
      refine lv_iconst (v := 2) hx hb dL_law_305 (by decide) ?_
      refine lv_iadd hx hb dL_law_306 ?_
      refine va_sld hx hb hX hbl hbA hS (law_in hL ht (show (2 : Nat) ≤ 4 by omega)) dL_law_307 ?_
      refine lv_aload_n hx hb dL_law_308 rfl (lv_at hl 1 rfl) ?_
      refine lv_iload hx hb dL_law_309 (lv_at hl 5 rfl) ?_
      refine lv_iconst (v := 3) hx hb dL_law_311 (by decide) ?_
      refine lv_iadd hx hb dL_law_312 ?_
      refine va_sld hx hb hX hbl hbA hS (law_in hL ht (show (3 : Nat) ≤ 4 by omega)) dL_law_313 ?_
      refine lv_aload_n hx hb dL_law_314 rfl (lv_at hl 1 rfl) ?_
      refine lv_iload hx hb dL_law_315 (lv_at hl 5 rfl) ?_
      refine lv_iconst (v := 4) hx hb dL_law_317 (by decide) ?_
      refine lv_iadd hx hb dL_law_318 ?_
      refine va_sld hx hb hX hbl hbA hS (law_in hL ht (show (4 : Nat) ≤ 4 by omega)) dL_law_319 ?_
      refine lv_if_eq (tgt := 327) hx hb dL_law_320 (by decide) (fun _ => ?_) (fun hc => absurd hzz hc)
      refine lv_iconst (v := 0) hx hb dL_law_327 (by decide) ?_
      refine lg_modeli hLI (va_runV (As := [.int (xs (Int32.toNatClampNeg (nI (5 * t) + 1))), .int (xs (Int32.toNatClampNeg (nI (5 * t) + 2))), .int (xs (Int32.toNatClampNeg (nI (5 * t) + 3))), .int 0]) (rest := []) ⟨hx, hb, hml, hown, hts⟩ (mX7_blow l D mad kI kZ M (xs (Int32.toNatClampNeg (nI (5 * t) + 1))) (xs (Int32.toNatClampNeg (nI (5 * t) + 2))) (xs (Int32.toNatClampNeg (nI (5 * t) + 3))) 0 bb M1 hm) (cwV 4 hts gL_law_X7_blow rfl rfl rfl (by decide +kernel) ⟨Nat.le_of_ble_eq_true rfl, Nat.le_of_ble_eq_true rfl⟩) (mg_preV hLI.2.2.1 hmK hLI.2.2.2.1) rfl rfl hl.1 rfl (lv_room (Nat.le_of_ble_eq_true rfl)) dL_law_328 ⟨(Nat.le_trans (show 100 + 20 * t + 4 + 0 ≤ 600000 by omega) rm_c), (Nat.le_trans (show 2000 + 120 * t + 24 + 0 ≤ 7000000 by omega) rm_s)⟩) hS (fun H locs hLI hz2 hS => ?_)
      refine lv_istore (lv' := [(6, .int bb), (5, .int 1), (0, .ref b), (1, .ref (ad1 0 0)), (2, .ref (mad 0)), (3, .ref q), (4, .int (nI (5 * t)))]) hx hb dL_law_331 hl (by decide) rfl (fun ls hl => ?_)
      refine lv_aload_n hx hb dL_law_333 rfl (lv_at hl 4 rfl) ?_
      refine lg_modeli hLI (va_runV (As := []) (rest := []) ⟨hx, hb, hml, hown, hts⟩ (mX7_thrown l D mad kI kZ M1 (M1 0 0) rfl) (cwV 0 hts gL_law_X7_thrown rfl rfl rfl (by decide +kernel) ⟨Nat.le_of_ble_eq_true rfl, Nat.le_of_ble_eq_true rfl⟩) (mg_preV hLI.2.2.1 hmK hLI.2.2.2.1) rfl rfl hl.1 rfl (lv_room (Nat.le_of_ble_eq_true rfl)) dL_law_334 ⟨(Nat.le_trans (show 100 + 20 * t + 4 + 0 ≤ 600000 by omega) rm_c), (Nat.le_trans (show 2000 + 120 * t + 24 + 0 ≤ 7000000 by omega) rm_s)⟩) hS (fun H locs hLI hz3 hS => ?_)
      refine lv_iload hx hb dL_law_337 (lv_at hl 1 rfl) ?_
      refine lv_icmp_eq (tgt := 344) hx hb dL_law_339 (by decide) (fun _ => ?_) (fun hc => absurd h0 hc)
      refine lv_iload hx hb dL_law_344 (lv_at hl 1 rfl) ?_
      refine lv_if_ne (tgt := 361) hx hb dL_law_346 (by decide) (fun _ => ?_) (fun hc => absurd hc (by decide))
      refine lv_goto (tgt := 2028) hx hb dL_law_361 (by decide) ?_
      refine W.widen (k := 100 + 20 * (t + 1)) (n := 2000 + 120 * (t + 1)) (by omega) (by omega) ?_
      exact kk H locs ls ad1 Z1 M1 f1 h00 hLI hR1 hS (lv_sub hl [2, 3, 4, 5, 6] rfl)
    | 1, hj =>
      cases hj
      refine lg_class hLI (fun r h => hA0 r (Nat.le_trans hS.1 h)) (vx_runSX (As := [.ref (ad 0 0), .int (xs (Int32.toNatClampNeg (nI (5 * t) + 1))), .int (xs (Int32.toNatClampNeg (nI (5 * t) + 2))), .int (xs (Int32.toNatClampNeg (nI (5 * t) + 3))), .int 0, .ref q]) (rest := []) ⟨hx, hb, hml, hown, hts⟩ (mL_blow_x2 l hfl D G (lA ad Z H) ad Z cJ q f (xs (Int32.toNatClampNeg (nI (5 * t) + 1))) (xs (Int32.toNatClampNeg (nI (5 * t) + 2))) (xs (Int32.toNatClampNeg (nI (5 * t) + 3))) 0 Z1 hc) (vx_cwSW 6 hts gL_law_L_blow rfl rfl rfl (by decide +kernel) ⟨Nat.le_of_ble_eq_true rfl, Nat.le_of_ble_eq_true rfl⟩) (lg_preS hLI (fun r h => hA0 r (Nat.le_trans hS.1 h)) hK hKJ hE hF hNc hS) rfl rfl hl.1 rfl (lv_room (Nat.le_of_ble_eq_true rfl)) dL_law_290 ⟨(Nat.le_trans (show 100 + 20 * t + 4 ≤ 600000 by omega) rm_c), (Nat.le_trans (show 2000 + 120 * t + 24 ≤ 7000000 by omega) rm_s)⟩) hS (fun H locs ad1 f1 hP h00 hLI hz hS => ?_)
      rw [← h00] at hl
      refine lv_istore (lv' := [(5, .int 2), (0, .ref b), (1, .ref (ad1 0 0)), (2, .ref (mad 0)), (3, .ref q), (4, .int (nI (5 * t)))]) hx hb dL_law_293 hl (by decide) rfl (fun ls hl => ?_)
      refine lv_aload_n hx hb dL_law_295 rfl (lv_at hl 3 rfl) ?_
      refine lv_aload_n hx hb dL_law_296 rfl (lv_at hl 1 rfl) ?_
      refine lv_iload hx hb dL_law_297 (lv_at hl 5 rfl) ?_
      refine lv_iconst (v := 1) hx hb dL_law_299 (by decide) ?_
      refine lv_iadd hx hb dL_law_300 ?_
      refine va_sld hx hb hX hbl hbA hS (law_in hL ht (show (1 : Nat) ≤ 4 by omega)) dL_law_301 ?_
      refine lv_aload_n hx hb dL_law_302 rfl (lv_at hl 1 rfl) ?_
      refine lv_iload hx hb dL_law_303 (lv_at hl 5 rfl) ?_
      refine lv_iconst (v := 2) hx hb dL_law_305 (by decide) ?_
      refine lv_iadd hx hb dL_law_306 ?_
      refine va_sld hx hb hX hbl hbA hS (law_in hL ht (show (2 : Nat) ≤ 4 by omega)) dL_law_307 ?_
      refine lv_aload_n hx hb dL_law_308 rfl (lv_at hl 1 rfl) ?_
      refine lv_iload hx hb dL_law_309 (lv_at hl 5 rfl) ?_
      refine lv_iconst (v := 3) hx hb dL_law_311 (by decide) ?_
      refine lv_iadd hx hb dL_law_312 ?_
      refine va_sld hx hb hX hbl hbA hS (law_in hL ht (show (3 : Nat) ≤ 4 by omega)) dL_law_313 ?_
      refine lv_aload_n hx hb dL_law_314 rfl (lv_at hl 1 rfl) ?_
      refine lv_iload hx hb dL_law_315 (lv_at hl 5 rfl) ?_
      refine lv_iconst (v := 4) hx hb dL_law_317 (by decide) ?_
      refine lv_iadd hx hb dL_law_318 ?_
      refine va_sld hx hb hX hbl hbA hS (law_in hL ht (show (4 : Nat) ≤ 4 by omega)) dL_law_319 ?_
      refine lv_if_eq (tgt := 327) hx hb dL_law_320 (by decide) (fun _ => ?_) (fun hc => absurd hzz hc)
      refine lv_iconst (v := 0) hx hb dL_law_327 (by decide) ?_
      refine lg_modeli hLI (va_runV (As := [.int (xs (Int32.toNatClampNeg (nI (5 * t) + 1))), .int (xs (Int32.toNatClampNeg (nI (5 * t) + 2))), .int (xs (Int32.toNatClampNeg (nI (5 * t) + 3))), .int 0]) (rest := []) ⟨hx, hb, hml, hown, hts⟩ (mX7_blow l D mad kI kZ M (xs (Int32.toNatClampNeg (nI (5 * t) + 1))) (xs (Int32.toNatClampNeg (nI (5 * t) + 2))) (xs (Int32.toNatClampNeg (nI (5 * t) + 3))) 0 bb M1 hm) (cwV 4 hts gL_law_X7_blow rfl rfl rfl (by decide +kernel) ⟨Nat.le_of_ble_eq_true rfl, Nat.le_of_ble_eq_true rfl⟩) (mg_preV hLI.2.2.1 hmK hLI.2.2.2.1) rfl rfl hl.1 rfl (lv_room (Nat.le_of_ble_eq_true rfl)) dL_law_328 ⟨(Nat.le_trans (show 100 + 20 * t + 4 + 0 ≤ 600000 by omega) rm_c), (Nat.le_trans (show 2000 + 120 * t + 24 + 0 ≤ 7000000 by omega) rm_s)⟩) hS (fun H locs hLI hz2 hS => ?_)
      refine lv_istore (lv' := [(6, .int bb), (5, .int 2), (0, .ref b), (1, .ref (ad1 0 0)), (2, .ref (mad 0)), (3, .ref q), (4, .int (nI (5 * t)))]) hx hb dL_law_331 hl (by decide) rfl (fun ls hl => ?_)
      refine lv_aload_n hx hb dL_law_333 rfl (lv_at hl 4 rfl) ?_
      refine lg_modeli hLI (va_runV (As := []) (rest := []) ⟨hx, hb, hml, hown, hts⟩ (mX7_thrown l D mad kI kZ M1 (M1 0 0) rfl) (cwV 0 hts gL_law_X7_thrown rfl rfl rfl (by decide +kernel) ⟨Nat.le_of_ble_eq_true rfl, Nat.le_of_ble_eq_true rfl⟩) (mg_preV hLI.2.2.1 hmK hLI.2.2.2.1) rfl rfl hl.1 rfl (lv_room (Nat.le_of_ble_eq_true rfl)) dL_law_334 ⟨(Nat.le_trans (show 100 + 20 * t + 4 + 0 ≤ 600000 by omega) rm_c), (Nat.le_trans (show 2000 + 120 * t + 24 + 0 ≤ 7000000 by omega) rm_s)⟩) hS (fun H locs hLI hz3 hS => ?_)
      refine lv_iload hx hb dL_law_337 (lv_at hl 1 rfl) ?_
      refine lv_icmp_eq (tgt := 344) hx hb dL_law_339 (by decide) (fun _ => ?_) (fun hc => absurd h0 hc)
      refine lv_iload hx hb dL_law_344 (lv_at hl 1 rfl) ?_
      refine lv_if_ne (tgt := 361) hx hb dL_law_346 (by decide) (fun _ => ?_) (fun hc => absurd hc (by decide))
      refine lv_goto (tgt := 2028) hx hb dL_law_361 (by decide) ?_
      refine W.widen (k := 100 + 20 * (t + 1)) (n := 2000 + 120 * (t + 1)) (by omega) (by omega) ?_
      exact kk H locs ls ad1 Z1 M1 f1 h00 hLI hR1 hS (lv_sub hl [2, 3, 4, 5, 6] rfl)
    | 2, hj =>
      cases hj
      refine lg_class hLI (fun r h => hA0 r (Nat.le_trans hS.1 h)) (vx_runSX (As := [.ref (ad 0 0), .int (xs (Int32.toNatClampNeg (nI (5 * t) + 1))), .int (xs (Int32.toNatClampNeg (nI (5 * t) + 2))), .int (xs (Int32.toNatClampNeg (nI (5 * t) + 3))), .int 0, .ref q]) (rest := []) ⟨hx, hb, hml, hown, hts⟩ (mL_blow_x3 l hfl D G (lA ad Z H) ad Z cJ q f (xs (Int32.toNatClampNeg (nI (5 * t) + 1))) (xs (Int32.toNatClampNeg (nI (5 * t) + 2))) (xs (Int32.toNatClampNeg (nI (5 * t) + 3))) 0 Z1 hc) (vx_cwSW 6 hts gL_law_L_blow rfl rfl rfl (by decide +kernel) ⟨Nat.le_of_ble_eq_true rfl, Nat.le_of_ble_eq_true rfl⟩) (lg_preS hLI (fun r h => hA0 r (Nat.le_trans hS.1 h)) hK hKJ hE hF hNc hS) rfl rfl hl.1 rfl (lv_room (Nat.le_of_ble_eq_true rfl)) dL_law_290 ⟨(Nat.le_trans (show 100 + 20 * t + 4 ≤ 600000 by omega) rm_c), (Nat.le_trans (show 2000 + 120 * t + 24 ≤ 7000000 by omega) rm_s)⟩) hS (fun H locs ad1 f1 hP h00 hLI hz hS => ?_)
      rw [← h00] at hl
      refine lv_istore (lv' := [(5, .int 3), (0, .ref b), (1, .ref (ad1 0 0)), (2, .ref (mad 0)), (3, .ref q), (4, .int (nI (5 * t)))]) hx hb dL_law_293 hl (by decide) rfl (fun ls hl => ?_)
      refine lv_aload_n hx hb dL_law_295 rfl (lv_at hl 3 rfl) ?_
      refine lv_aload_n hx hb dL_law_296 rfl (lv_at hl 1 rfl) ?_
      refine lv_iload hx hb dL_law_297 (lv_at hl 5 rfl) ?_
      refine lv_iconst (v := 1) hx hb dL_law_299 (by decide) ?_
      refine lv_iadd hx hb dL_law_300 ?_
      refine va_sld hx hb hX hbl hbA hS (law_in hL ht (show (1 : Nat) ≤ 4 by omega)) dL_law_301 ?_
      refine lv_aload_n hx hb dL_law_302 rfl (lv_at hl 1 rfl) ?_
      refine lv_iload hx hb dL_law_303 (lv_at hl 5 rfl) ?_
      refine lv_iconst (v := 2) hx hb dL_law_305 (by decide) ?_
      refine lv_iadd hx hb dL_law_306 ?_
      refine va_sld hx hb hX hbl hbA hS (law_in hL ht (show (2 : Nat) ≤ 4 by omega)) dL_law_307 ?_
      refine lv_aload_n hx hb dL_law_308 rfl (lv_at hl 1 rfl) ?_
      refine lv_iload hx hb dL_law_309 (lv_at hl 5 rfl) ?_
      refine lv_iconst (v := 3) hx hb dL_law_311 (by decide) ?_
      refine lv_iadd hx hb dL_law_312 ?_
      refine va_sld hx hb hX hbl hbA hS (law_in hL ht (show (3 : Nat) ≤ 4 by omega)) dL_law_313 ?_
      refine lv_aload_n hx hb dL_law_314 rfl (lv_at hl 1 rfl) ?_
      refine lv_iload hx hb dL_law_315 (lv_at hl 5 rfl) ?_
      refine lv_iconst (v := 4) hx hb dL_law_317 (by decide) ?_
      refine lv_iadd hx hb dL_law_318 ?_
      refine va_sld hx hb hX hbl hbA hS (law_in hL ht (show (4 : Nat) ≤ 4 by omega)) dL_law_319 ?_
      refine lv_if_eq (tgt := 327) hx hb dL_law_320 (by decide) (fun _ => ?_) (fun hc => absurd hzz hc)
      refine lv_iconst (v := 0) hx hb dL_law_327 (by decide) ?_
      refine lg_modeli hLI (va_runV (As := [.int (xs (Int32.toNatClampNeg (nI (5 * t) + 1))), .int (xs (Int32.toNatClampNeg (nI (5 * t) + 2))), .int (xs (Int32.toNatClampNeg (nI (5 * t) + 3))), .int 0]) (rest := []) ⟨hx, hb, hml, hown, hts⟩ (mX7_blow l D mad kI kZ M (xs (Int32.toNatClampNeg (nI (5 * t) + 1))) (xs (Int32.toNatClampNeg (nI (5 * t) + 2))) (xs (Int32.toNatClampNeg (nI (5 * t) + 3))) 0 bb M1 hm) (cwV 4 hts gL_law_X7_blow rfl rfl rfl (by decide +kernel) ⟨Nat.le_of_ble_eq_true rfl, Nat.le_of_ble_eq_true rfl⟩) (mg_preV hLI.2.2.1 hmK hLI.2.2.2.1) rfl rfl hl.1 rfl (lv_room (Nat.le_of_ble_eq_true rfl)) dL_law_328 ⟨(Nat.le_trans (show 100 + 20 * t + 4 + 0 ≤ 600000 by omega) rm_c), (Nat.le_trans (show 2000 + 120 * t + 24 + 0 ≤ 7000000 by omega) rm_s)⟩) hS (fun H locs hLI hz2 hS => ?_)
      refine lv_istore (lv' := [(6, .int bb), (5, .int 3), (0, .ref b), (1, .ref (ad1 0 0)), (2, .ref (mad 0)), (3, .ref q), (4, .int (nI (5 * t)))]) hx hb dL_law_331 hl (by decide) rfl (fun ls hl => ?_)
      refine lv_aload_n hx hb dL_law_333 rfl (lv_at hl 4 rfl) ?_
      refine lg_modeli hLI (va_runV (As := []) (rest := []) ⟨hx, hb, hml, hown, hts⟩ (mX7_thrown l D mad kI kZ M1 (M1 0 0) rfl) (cwV 0 hts gL_law_X7_thrown rfl rfl rfl (by decide +kernel) ⟨Nat.le_of_ble_eq_true rfl, Nat.le_of_ble_eq_true rfl⟩) (mg_preV hLI.2.2.1 hmK hLI.2.2.2.1) rfl rfl hl.1 rfl (lv_room (Nat.le_of_ble_eq_true rfl)) dL_law_334 ⟨(Nat.le_trans (show 100 + 20 * t + 4 + 0 ≤ 600000 by omega) rm_c), (Nat.le_trans (show 2000 + 120 * t + 24 + 0 ≤ 7000000 by omega) rm_s)⟩) hS (fun H locs hLI hz3 hS => ?_)
      refine lv_iload hx hb dL_law_337 (lv_at hl 1 rfl) ?_
      refine lv_icmp_eq (tgt := 344) hx hb dL_law_339 (by decide) (fun _ => ?_) (fun hc => absurd h0 hc)
      refine lv_iload hx hb dL_law_344 (lv_at hl 1 rfl) ?_
      refine lv_if_ne (tgt := 361) hx hb dL_law_346 (by decide) (fun _ => ?_) (fun hc => absurd hc (by decide))
      refine lv_goto (tgt := 2028) hx hb dL_law_361 (by decide) ?_
      refine W.widen (k := 100 + 20 * (t + 1)) (n := 2000 + 120 * (t + 1)) (by omega) (by omega) ?_
      exact kk H locs ls ad1 Z1 M1 f1 h00 hLI hR1 hS (lv_sub hl [2, 3, 4, 5, 6] rfl)
    | j + 3, hj => cases hj
set_option maxHeartbeats 4000000 in
set_option maxRecDepth 100000 in
theorem law_blow1 (hx : p.tables.exec = Jvm.exec) (hb : c.code = cL_law) (hml : c.maxLocals = 7) (hown : s.vm.findClass RL = some m.cls) (hts : ∀ w ∈ wsL_law, w.before #[Value.ref b] s = true) (hX : va_X b L xs s s.heap) (hbl : b < s.heap.size) (hfl : l.stackTraces = false) (hK : cK D G s) (hmK : mK D kI kZ s) (hKJ : va_K D vwCl [(cJ, .long)] s) (hE : cE A0 s s.heap) (hF : cF G A0 s s.heap) (hNc : lNc s) (hbA : ¬ A0 b) (hA0 : ∀ r, s.heap.size ≤ r → A0 r) {R R1 : CZ → MT → Prop} (hst : st_blow R R1) {t : Nat} (hzz : ¬ xs (Int32.toNatClampNeg (nI (5 * t) + 4)) = 0) (hL : L ≤ 2560) (ht : 5 * t + 5 ≤ L) (hLI : lI D G ad Z mad kI kZ M cJ q f A0 H) (hR : R Z M) (hS : va_S A0 s.heap H locs) (hl : lv_has ls 7 [(0, .ref b), (1, .ref (ad 0 0)), (2, .ref (mad 0)), (3, .ref q), (4, .int (nI (5 * t)))])
    (kk : ∀ (H1 : Heap) (locs1 : List Loc) (ls1 : Array Slot) (ad1 : Nat → Nat → Nat) (Z1 : CZ) (M1 : MT) (f1 : Nat → Int64), ad1 0 0 = ad 0 0 → lI D G ad1 Z1 mad kI kZ M1 cJ q f1 A0 H1 → R1 Z1 M1 → va_S A0 s.heap H1 locs1 → lv_has ls1 7 [(0, .ref b), (1, .ref (ad1 0 0)), (2, .ref (mad 0)), (3, .ref q), (4, .int (nI (5 * t)))] → W p l e room_1 s m #[Value.ref b] below meth c H1 locs1 (100 + 20 * (t + 1)) (2000 + 120 * (t + 1)) Q (F0 m 2028 ls1 [])) : W p l e room_1 s m #[Value.ref b] below meth c H locs (100 + 20 * t) (2000 + 120 * t) Q (F0 m 256 ls []) := by
  have ht5 : t < 512 := by omega
  refine lv_aload_n hx hb dL_law_256 rfl (lv_at hl 1 rfl) ?_
  refine lv_aload_n hx hb dL_law_257 rfl (lv_at hl 0 rfl) ?_
  refine lv_iload hx hb dL_law_258 (lv_at hl 4 rfl) ?_
  refine lv_iconst (v := 1) hx hb dL_law_260 (by decide) ?_
  refine lv_iadd hx hb dL_law_261 ?_
  refine va_sld hx hb hX hbl hbA hS (law_in hL ht (show (1 : Nat) ≤ 4 by omega)) dL_law_262 ?_
  refine lv_aload_n hx hb dL_law_263 rfl (lv_at hl 0 rfl) ?_
  refine lv_iload hx hb dL_law_264 (lv_at hl 4 rfl) ?_
  refine lv_iconst (v := 2) hx hb dL_law_266 (by decide) ?_
  refine lv_iadd hx hb dL_law_267 ?_
  refine va_sld hx hb hX hbl hbA hS (law_in hL ht (show (2 : Nat) ≤ 4 by omega)) dL_law_268 ?_
  refine lv_aload_n hx hb dL_law_269 rfl (lv_at hl 0 rfl) ?_
  refine lv_iload hx hb dL_law_270 (lv_at hl 4 rfl) ?_
  refine lv_iconst (v := 3) hx hb dL_law_272 (by decide) ?_
  refine lv_iadd hx hb dL_law_273 ?_
  refine va_sld hx hb hX hbl hbA hS (law_in hL ht (show (3 : Nat) ≤ 4 by omega)) dL_law_274 ?_
  refine lv_aload_n hx hb dL_law_275 rfl (lv_at hl 0 rfl) ?_
  refine lv_iload hx hb dL_law_276 (lv_at hl 4 rfl) ?_
  refine lv_iconst (v := 4) hx hb dL_law_278 (by decide) ?_
  refine lv_iadd hx hb dL_law_279 ?_
  refine va_sld hx hb hX hbl hbA hS (law_in hL ht (show (4 : Nat) ≤ 4 by omega)) dL_law_280 ?_
  refine lv_if_eq (tgt := 288) hx hb dL_law_281 (by decide) (fun hc => absurd hc hzz) (fun _ => ?_)
  refine lv_iconst (v := 1) hx hb dL_law_284 (by decide) ?_
  refine lv_goto (tgt := 289) hx hb dL_law_285 (by decide) ?_
  refine lv_aload_n hx hb dL_law_289 rfl (lv_at hl 3 rfl) ?_
  obtain ⟨bb, M1, Z1, hm, hR1, hw⟩ := hst Z M hR (xs (Int32.toNatClampNeg (nI (5 * t) + 1))) (xs (Int32.toNatClampNeg (nI (5 * t) + 2))) (xs (Int32.toNatClampNeg (nI (5 * t) + 3))) 1 (Or.inr rfl)
  rcases hw with ⟨hc, h0⟩ | ⟨j, cd, hc, hj, h0⟩
  · refine lg_class hLI (fun r h => hA0 r (Nat.le_trans hS.1 h)) (vx_runSX (As := [.ref (ad 0 0), .int (xs (Int32.toNatClampNeg (nI (5 * t) + 1))), .int (xs (Int32.toNatClampNeg (nI (5 * t) + 2))), .int (xs (Int32.toNatClampNeg (nI (5 * t) + 3))), .int 1, .ref q]) (rest := []) ⟨hx, hb, hml, hown, hts⟩ (mL_blow l hfl D G (lA ad Z H) ad Z cJ q f (xs (Int32.toNatClampNeg (nI (5 * t) + 1))) (xs (Int32.toNatClampNeg (nI (5 * t) + 2))) (xs (Int32.toNatClampNeg (nI (5 * t) + 3))) 1 bb Z1 hc) (vx_cwSW 6 hts gL_law_L_blow rfl rfl rfl (by decide +kernel) ⟨Nat.le_of_ble_eq_true rfl, Nat.le_of_ble_eq_true rfl⟩) (lg_preS hLI (fun r h => hA0 r (Nat.le_trans hS.1 h)) hK hKJ hE hF hNc hS) rfl rfl hl.1 rfl (lv_room (Nat.le_of_ble_eq_true rfl)) dL_law_290 ⟨(Nat.le_trans (show 100 + 20 * t + 4 ≤ 600000 by omega) rm_c), (Nat.le_trans (show 2000 + 120 * t + 24 ≤ 7000000 by omega) rm_s)⟩) hS (fun H locs ad1 f1 hP h00 hLI hz hS => ?_)
    rw [← h00] at hl
    refine lv_istore (lv' := [(5, .int 0), (0, .ref b), (1, .ref (ad1 0 0)), (2, .ref (mad 0)), (3, .ref q), (4, .int (nI (5 * t)))]) hx hb dL_law_293 hl (by decide) rfl (fun ls hl => ?_)
    refine lv_aload_n hx hb dL_law_295 rfl (lv_at hl 3 rfl) ?_
    refine lv_aload_n hx hb dL_law_296 rfl (lv_at hl 1 rfl) ?_
    refine lv_iload hx hb dL_law_297 (lv_at hl 5 rfl) ?_
    refine lv_iconst (v := 1) hx hb dL_law_299 (by decide) ?_
    refine lv_iadd hx hb dL_law_300 ?_
    refine va_sld hx hb hX hbl hbA hS (law_in hL ht (show (1 : Nat) ≤ 4 by omega)) dL_law_301 ?_
    refine lv_aload_n hx hb dL_law_302 rfl (lv_at hl 1 rfl) ?_
    refine lv_iload hx hb dL_law_303 (lv_at hl 5 rfl) ?_
    refine lv_iconst (v := 2) hx hb dL_law_305 (by decide) ?_
    refine lv_iadd hx hb dL_law_306 ?_
    refine va_sld hx hb hX hbl hbA hS (law_in hL ht (show (2 : Nat) ≤ 4 by omega)) dL_law_307 ?_
    refine lv_aload_n hx hb dL_law_308 rfl (lv_at hl 1 rfl) ?_
    refine lv_iload hx hb dL_law_309 (lv_at hl 5 rfl) ?_
    refine lv_iconst (v := 3) hx hb dL_law_311 (by decide) ?_
    refine lv_iadd hx hb dL_law_312 ?_
    refine va_sld hx hb hX hbl hbA hS (law_in hL ht (show (3 : Nat) ≤ 4 by omega)) dL_law_313 ?_
    refine lv_aload_n hx hb dL_law_314 rfl (lv_at hl 1 rfl) ?_
    refine lv_iload hx hb dL_law_315 (lv_at hl 5 rfl) ?_
    refine lv_iconst (v := 4) hx hb dL_law_317 (by decide) ?_
    refine lv_iadd hx hb dL_law_318 ?_
    refine va_sld hx hb hX hbl hbA hS (law_in hL ht (show (4 : Nat) ≤ 4 by omega)) dL_law_319 ?_
    refine lv_if_eq (tgt := 327) hx hb dL_law_320 (by decide) (fun hc => absurd hc hzz) (fun _ => ?_)
    refine lv_iconst (v := 1) hx hb dL_law_323 (by decide) ?_
    refine lv_goto (tgt := 328) hx hb dL_law_324 (by decide) ?_
    refine lg_modeli hLI (va_runV (As := [.int (xs (Int32.toNatClampNeg (nI (5 * t) + 1))), .int (xs (Int32.toNatClampNeg (nI (5 * t) + 2))), .int (xs (Int32.toNatClampNeg (nI (5 * t) + 3))), .int 1]) (rest := []) ⟨hx, hb, hml, hown, hts⟩ (mX7_blow l D mad kI kZ M (xs (Int32.toNatClampNeg (nI (5 * t) + 1))) (xs (Int32.toNatClampNeg (nI (5 * t) + 2))) (xs (Int32.toNatClampNeg (nI (5 * t) + 3))) 1 bb M1 hm) (cwV 4 hts gL_law_X7_blow rfl rfl rfl (by decide +kernel) ⟨Nat.le_of_ble_eq_true rfl, Nat.le_of_ble_eq_true rfl⟩) (mg_preV hLI.2.2.1 hmK hLI.2.2.2.1) rfl rfl hl.1 rfl (lv_room (Nat.le_of_ble_eq_true rfl)) dL_law_328 ⟨(Nat.le_trans (show 100 + 20 * t + 4 + 0 ≤ 600000 by omega) rm_c), (Nat.le_trans (show 2000 + 120 * t + 24 + 0 ≤ 7000000 by omega) rm_s)⟩) hS (fun H locs hLI hz2 hS => ?_)
    refine lv_istore (lv' := [(6, .int bb), (5, .int 0), (0, .ref b), (1, .ref (ad1 0 0)), (2, .ref (mad 0)), (3, .ref q), (4, .int (nI (5 * t)))]) hx hb dL_law_331 hl (by decide) rfl (fun ls hl => ?_)
    refine lv_aload_n hx hb dL_law_333 rfl (lv_at hl 4 rfl) ?_
    refine lg_modeli hLI (va_runV (As := []) (rest := []) ⟨hx, hb, hml, hown, hts⟩ (mX7_thrown l D mad kI kZ M1 (M1 0 0) rfl) (cwV 0 hts gL_law_X7_thrown rfl rfl rfl (by decide +kernel) ⟨Nat.le_of_ble_eq_true rfl, Nat.le_of_ble_eq_true rfl⟩) (mg_preV hLI.2.2.1 hmK hLI.2.2.2.1) rfl rfl hl.1 rfl (lv_room (Nat.le_of_ble_eq_true rfl)) dL_law_334 ⟨(Nat.le_trans (show 100 + 20 * t + 4 + 0 ≤ 600000 by omega) rm_c), (Nat.le_trans (show 2000 + 120 * t + 24 + 0 ≤ 7000000 by omega) rm_s)⟩) hS (fun H locs hLI hz3 hS => ?_)
    refine lv_iload hx hb dL_law_337 (lv_at hl 1 rfl) ?_
    refine lv_icmp_eq (tgt := 344) hx hb dL_law_339 (by decide) (fun _ => ?_) (fun hc => absurd h0 hc)
    refine lv_iload hx hb dL_law_344 (lv_at hl 1 rfl) ?_
    refine lv_if_ne (tgt := 361) hx hb dL_law_346 (by decide) (fun hc => absurd rfl hc) (fun _ => ?_)
    refine lv_aload_n hx hb dL_law_349 rfl (lv_at hl 5 rfl) ?_
    refine lv_iconst (v := 0) hx hb dL_law_350 (by decide) ?_
    refine va_lald hx hb hKJ (iw_P1 hLI.2.2.2.2.1) 0 0 rfl rfl (show ¬ ((0 : Int32) < 0 ∨ 1 ≤ (0 : Int32).toNatClampNeg) from by decide) dL_law_351 ?_
    rw [show f1 (0 : Int32).toNatClampNeg = bb.toInt64 from hP]
    refine lv_iload hx hb dL_law_352 (lv_at hl 0 rfl) ?_
    refine lv_i2l hx hb (v := bb.toInt64) dL_law_354 rfl ?_
    refine lg_lcmp hx hb dL_law_355 ?_
    refine lv_if_eq (tgt := 361) hx hb dL_law_356 (by decide) (fun _ => ?_) (fun hc => absurd rfl hc)
    refine lv_goto (tgt := 2028) hx hb dL_law_361 (by decide) ?_
    refine W.widen (k := 100 + 20 * (t + 1)) (n := 2000 + 120 * (t + 1)) (by omega) (by omega) ?_
    exact kk H locs ls ad1 Z1 M1 f1 h00 hLI hR1 hS (lv_sub hl [2, 3, 4, 5, 6] rfl)
  · match j, hj with
    | 0, hj =>
      cases hj
      refine lg_class hLI (fun r h => hA0 r (Nat.le_trans hS.1 h)) (vx_runSX (As := [.ref (ad 0 0), .int (xs (Int32.toNatClampNeg (nI (5 * t) + 1))), .int (xs (Int32.toNatClampNeg (nI (5 * t) + 2))), .int (xs (Int32.toNatClampNeg (nI (5 * t) + 3))), .int 1, .ref q]) (rest := []) ⟨hx, hb, hml, hown, hts⟩ (mL_blow_x1 l hfl D G (lA ad Z H) ad Z cJ q f (xs (Int32.toNatClampNeg (nI (5 * t) + 1))) (xs (Int32.toNatClampNeg (nI (5 * t) + 2))) (xs (Int32.toNatClampNeg (nI (5 * t) + 3))) 1 Z1 hc) (vx_cwSW 6 hts gL_law_L_blow rfl rfl rfl (by decide +kernel) ⟨Nat.le_of_ble_eq_true rfl, Nat.le_of_ble_eq_true rfl⟩) (lg_preS hLI (fun r h => hA0 r (Nat.le_trans hS.1 h)) hK hKJ hE hF hNc hS) rfl rfl hl.1 rfl (lv_room (Nat.le_of_ble_eq_true rfl)) dL_law_290 ⟨(Nat.le_trans (show 100 + 20 * t + 4 ≤ 600000 by omega) rm_c), (Nat.le_trans (show 2000 + 120 * t + 24 ≤ 7000000 by omega) rm_s)⟩) hS (fun H locs ad1 f1 hP h00 hLI hz hS => ?_)
      rw [← h00] at hl
      refine lv_istore (lv' := [(5, .int 1), (0, .ref b), (1, .ref (ad1 0 0)), (2, .ref (mad 0)), (3, .ref q), (4, .int (nI (5 * t)))]) hx hb dL_law_293 hl (by decide) rfl (fun ls hl => ?_)
      refine lv_aload_n hx hb dL_law_295 rfl (lv_at hl 3 rfl) ?_
      refine lv_aload_n hx hb dL_law_296 rfl (lv_at hl 1 rfl) ?_
      refine lv_iload hx hb dL_law_297 (lv_at hl 5 rfl) ?_
      refine lv_iconst (v := 1) hx hb dL_law_299 (by decide) ?_
      refine lv_iadd hx hb dL_law_300 ?_
      refine va_sld hx hb hX hbl hbA hS (law_in hL ht (show (1 : Nat) ≤ 4 by omega)) dL_law_301 ?_
      refine lv_aload_n hx hb dL_law_302 rfl (lv_at hl 1 rfl) ?_
      refine lv_iload hx hb dL_law_303 (lv_at hl 5 rfl) ?_
      refine lv_iconst (v := 2) hx hb dL_law_305 (by decide) ?_
      refine lv_iadd hx hb dL_law_306 ?_
      refine va_sld hx hb hX hbl hbA hS (law_in hL ht (show (2 : Nat) ≤ 4 by omega)) dL_law_307 ?_
      refine lv_aload_n hx hb dL_law_308 rfl (lv_at hl 1 rfl) ?_
      refine lv_iload hx hb dL_law_309 (lv_at hl 5 rfl) ?_
      refine lv_iconst (v := 3) hx hb dL_law_311 (by decide) ?_
      refine lv_iadd hx hb dL_law_312 ?_
      refine va_sld hx hb hX hbl hbA hS (law_in hL ht (show (3 : Nat) ≤ 4 by omega)) dL_law_313 ?_
      refine lv_aload_n hx hb dL_law_314 rfl (lv_at hl 1 rfl) ?_
      refine lv_iload hx hb dL_law_315 (lv_at hl 5 rfl) ?_
      refine lv_iconst (v := 4) hx hb dL_law_317 (by decide) ?_
      refine lv_iadd hx hb dL_law_318 ?_
      refine va_sld hx hb hX hbl hbA hS (law_in hL ht (show (4 : Nat) ≤ 4 by omega)) dL_law_319 ?_
      refine lv_if_eq (tgt := 327) hx hb dL_law_320 (by decide) (fun hc => absurd hc hzz) (fun _ => ?_)
      refine lv_iconst (v := 1) hx hb dL_law_323 (by decide) ?_
      refine lv_goto (tgt := 328) hx hb dL_law_324 (by decide) ?_
      refine lg_modeli hLI (va_runV (As := [.int (xs (Int32.toNatClampNeg (nI (5 * t) + 1))), .int (xs (Int32.toNatClampNeg (nI (5 * t) + 2))), .int (xs (Int32.toNatClampNeg (nI (5 * t) + 3))), .int 1]) (rest := []) ⟨hx, hb, hml, hown, hts⟩ (mX7_blow l D mad kI kZ M (xs (Int32.toNatClampNeg (nI (5 * t) + 1))) (xs (Int32.toNatClampNeg (nI (5 * t) + 2))) (xs (Int32.toNatClampNeg (nI (5 * t) + 3))) 1 bb M1 hm) (cwV 4 hts gL_law_X7_blow rfl rfl rfl (by decide +kernel) ⟨Nat.le_of_ble_eq_true rfl, Nat.le_of_ble_eq_true rfl⟩) (mg_preV hLI.2.2.1 hmK hLI.2.2.2.1) rfl rfl hl.1 rfl (lv_room (Nat.le_of_ble_eq_true rfl)) dL_law_328 ⟨(Nat.le_trans (show 100 + 20 * t + 4 + 0 ≤ 600000 by omega) rm_c), (Nat.le_trans (show 2000 + 120 * t + 24 + 0 ≤ 7000000 by omega) rm_s)⟩) hS (fun H locs hLI hz2 hS => ?_)
      refine lv_istore (lv' := [(6, .int bb), (5, .int 1), (0, .ref b), (1, .ref (ad1 0 0)), (2, .ref (mad 0)), (3, .ref q), (4, .int (nI (5 * t)))]) hx hb dL_law_331 hl (by decide) rfl (fun ls hl => ?_)
      refine lv_aload_n hx hb dL_law_333 rfl (lv_at hl 4 rfl) ?_
      refine lg_modeli hLI (va_runV (As := []) (rest := []) ⟨hx, hb, hml, hown, hts⟩ (mX7_thrown l D mad kI kZ M1 (M1 0 0) rfl) (cwV 0 hts gL_law_X7_thrown rfl rfl rfl (by decide +kernel) ⟨Nat.le_of_ble_eq_true rfl, Nat.le_of_ble_eq_true rfl⟩) (mg_preV hLI.2.2.1 hmK hLI.2.2.2.1) rfl rfl hl.1 rfl (lv_room (Nat.le_of_ble_eq_true rfl)) dL_law_334 ⟨(Nat.le_trans (show 100 + 20 * t + 4 + 0 ≤ 600000 by omega) rm_c), (Nat.le_trans (show 2000 + 120 * t + 24 + 0 ≤ 7000000 by omega) rm_s)⟩) hS (fun H locs hLI hz3 hS => ?_)
      refine lv_iload hx hb dL_law_337 (lv_at hl 1 rfl) ?_
      refine lv_icmp_eq (tgt := 344) hx hb dL_law_339 (by decide) (fun _ => ?_) (fun hc => absurd h0 hc)
      refine lv_iload hx hb dL_law_344 (lv_at hl 1 rfl) ?_
      refine lv_if_ne (tgt := 361) hx hb dL_law_346 (by decide) (fun _ => ?_) (fun hc => absurd hc (by decide))
      refine lv_goto (tgt := 2028) hx hb dL_law_361 (by decide) ?_
      refine W.widen (k := 100 + 20 * (t + 1)) (n := 2000 + 120 * (t + 1)) (by omega) (by omega) ?_
      exact kk H locs ls ad1 Z1 M1 f1 h00 hLI hR1 hS (lv_sub hl [2, 3, 4, 5, 6] rfl)
    | 1, hj =>
      cases hj
      refine lg_class hLI (fun r h => hA0 r (Nat.le_trans hS.1 h)) (vx_runSX (As := [.ref (ad 0 0), .int (xs (Int32.toNatClampNeg (nI (5 * t) + 1))), .int (xs (Int32.toNatClampNeg (nI (5 * t) + 2))), .int (xs (Int32.toNatClampNeg (nI (5 * t) + 3))), .int 1, .ref q]) (rest := []) ⟨hx, hb, hml, hown, hts⟩ (mL_blow_x2 l hfl D G (lA ad Z H) ad Z cJ q f (xs (Int32.toNatClampNeg (nI (5 * t) + 1))) (xs (Int32.toNatClampNeg (nI (5 * t) + 2))) (xs (Int32.toNatClampNeg (nI (5 * t) + 3))) 1 Z1 hc) (vx_cwSW 6 hts gL_law_L_blow rfl rfl rfl (by decide +kernel) ⟨Nat.le_of_ble_eq_true rfl, Nat.le_of_ble_eq_true rfl⟩) (lg_preS hLI (fun r h => hA0 r (Nat.le_trans hS.1 h)) hK hKJ hE hF hNc hS) rfl rfl hl.1 rfl (lv_room (Nat.le_of_ble_eq_true rfl)) dL_law_290 ⟨(Nat.le_trans (show 100 + 20 * t + 4 ≤ 600000 by omega) rm_c), (Nat.le_trans (show 2000 + 120 * t + 24 ≤ 7000000 by omega) rm_s)⟩) hS (fun H locs ad1 f1 hP h00 hLI hz hS => ?_)
      rw [← h00] at hl
      refine lv_istore (lv' := [(5, .int 2), (0, .ref b), (1, .ref (ad1 0 0)), (2, .ref (mad 0)), (3, .ref q), (4, .int (nI (5 * t)))]) hx hb dL_law_293 hl (by decide) rfl (fun ls hl => ?_)
      refine lv_aload_n hx hb dL_law_295 rfl (lv_at hl 3 rfl) ?_
      refine lv_aload_n hx hb dL_law_296 rfl (lv_at hl 1 rfl) ?_
      refine lv_iload hx hb dL_law_297 (lv_at hl 5 rfl) ?_
      refine lv_iconst (v := 1) hx hb dL_law_299 (by decide) ?_
      refine lv_iadd hx hb dL_law_300 ?_
      refine va_sld hx hb hX hbl hbA hS (law_in hL ht (show (1 : Nat) ≤ 4 by omega)) dL_law_301 ?_
      refine lv_aload_n hx hb dL_law_302 rfl (lv_at hl 1 rfl) ?_
      refine lv_iload hx hb dL_law_303 (lv_at hl 5 rfl) ?_
      refine lv_iconst (v := 2) hx hb dL_law_305 (by decide) ?_
      refine lv_iadd hx hb dL_law_306 ?_
      refine va_sld hx hb hX hbl hbA hS (law_in hL ht (show (2 : Nat) ≤ 4 by omega)) dL_law_307 ?_
      refine lv_aload_n hx hb dL_law_308 rfl (lv_at hl 1 rfl) ?_
      refine lv_iload hx hb dL_law_309 (lv_at hl 5 rfl) ?_
      refine lv_iconst (v := 3) hx hb dL_law_311 (by decide) ?_
      refine lv_iadd hx hb dL_law_312 ?_
      refine va_sld hx hb hX hbl hbA hS (law_in hL ht (show (3 : Nat) ≤ 4 by omega)) dL_law_313 ?_
      refine lv_aload_n hx hb dL_law_314 rfl (lv_at hl 1 rfl) ?_
      refine lv_iload hx hb dL_law_315 (lv_at hl 5 rfl) ?_
      refine lv_iconst (v := 4) hx hb dL_law_317 (by decide) ?_
      refine lv_iadd hx hb dL_law_318 ?_
      refine va_sld hx hb hX hbl hbA hS (law_in hL ht (show (4 : Nat) ≤ 4 by omega)) dL_law_319 ?_
      refine lv_if_eq (tgt := 327) hx hb dL_law_320 (by decide) (fun hc => absurd hc hzz) (fun _ => ?_)
      refine lv_iconst (v := 1) hx hb dL_law_323 (by decide) ?_
      refine lv_goto (tgt := 328) hx hb dL_law_324 (by decide) ?_
      refine lg_modeli hLI (va_runV (As := [.int (xs (Int32.toNatClampNeg (nI (5 * t) + 1))), .int (xs (Int32.toNatClampNeg (nI (5 * t) + 2))), .int (xs (Int32.toNatClampNeg (nI (5 * t) + 3))), .int 1]) (rest := []) ⟨hx, hb, hml, hown, hts⟩ (mX7_blow l D mad kI kZ M (xs (Int32.toNatClampNeg (nI (5 * t) + 1))) (xs (Int32.toNatClampNeg (nI (5 * t) + 2))) (xs (Int32.toNatClampNeg (nI (5 * t) + 3))) 1 bb M1 hm) (cwV 4 hts gL_law_X7_blow rfl rfl rfl (by decide +kernel) ⟨Nat.le_of_ble_eq_true rfl, Nat.le_of_ble_eq_true rfl⟩) (mg_preV hLI.2.2.1 hmK hLI.2.2.2.1) rfl rfl hl.1 rfl (lv_room (Nat.le_of_ble_eq_true rfl)) dL_law_328 ⟨(Nat.le_trans (show 100 + 20 * t + 4 + 0 ≤ 600000 by omega) rm_c), (Nat.le_trans (show 2000 + 120 * t + 24 + 0 ≤ 7000000 by omega) rm_s)⟩) hS (fun H locs hLI hz2 hS => ?_)
      refine lv_istore (lv' := [(6, .int bb), (5, .int 2), (0, .ref b), (1, .ref (ad1 0 0)), (2, .ref (mad 0)), (3, .ref q), (4, .int (nI (5 * t)))]) hx hb dL_law_331 hl (by decide) rfl (fun ls hl => ?_)
      refine lv_aload_n hx hb dL_law_333 rfl (lv_at hl 4 rfl) ?_
      refine lg_modeli hLI (va_runV (As := []) (rest := []) ⟨hx, hb, hml, hown, hts⟩ (mX7_thrown l D mad kI kZ M1 (M1 0 0) rfl) (cwV 0 hts gL_law_X7_thrown rfl rfl rfl (by decide +kernel) ⟨Nat.le_of_ble_eq_true rfl, Nat.le_of_ble_eq_true rfl⟩) (mg_preV hLI.2.2.1 hmK hLI.2.2.2.1) rfl rfl hl.1 rfl (lv_room (Nat.le_of_ble_eq_true rfl)) dL_law_334 ⟨(Nat.le_trans (show 100 + 20 * t + 4 + 0 ≤ 600000 by omega) rm_c), (Nat.le_trans (show 2000 + 120 * t + 24 + 0 ≤ 7000000 by omega) rm_s)⟩) hS (fun H locs hLI hz3 hS => ?_)
      refine lv_iload hx hb dL_law_337 (lv_at hl 1 rfl) ?_
      refine lv_icmp_eq (tgt := 344) hx hb dL_law_339 (by decide) (fun _ => ?_) (fun hc => absurd h0 hc)
      refine lv_iload hx hb dL_law_344 (lv_at hl 1 rfl) ?_
      refine lv_if_ne (tgt := 361) hx hb dL_law_346 (by decide) (fun _ => ?_) (fun hc => absurd hc (by decide))
      refine lv_goto (tgt := 2028) hx hb dL_law_361 (by decide) ?_
      refine W.widen (k := 100 + 20 * (t + 1)) (n := 2000 + 120 * (t + 1)) (by omega) (by omega) ?_
      exact kk H locs ls ad1 Z1 M1 f1 h00 hLI hR1 hS (lv_sub hl [2, 3, 4, 5, 6] rfl)
    | 2, hj =>
      cases hj
      refine lg_class hLI (fun r h => hA0 r (Nat.le_trans hS.1 h)) (vx_runSX (As := [.ref (ad 0 0), .int (xs (Int32.toNatClampNeg (nI (5 * t) + 1))), .int (xs (Int32.toNatClampNeg (nI (5 * t) + 2))), .int (xs (Int32.toNatClampNeg (nI (5 * t) + 3))), .int 1, .ref q]) (rest := []) ⟨hx, hb, hml, hown, hts⟩ (mL_blow_x3 l hfl D G (lA ad Z H) ad Z cJ q f (xs (Int32.toNatClampNeg (nI (5 * t) + 1))) (xs (Int32.toNatClampNeg (nI (5 * t) + 2))) (xs (Int32.toNatClampNeg (nI (5 * t) + 3))) 1 Z1 hc) (vx_cwSW 6 hts gL_law_L_blow rfl rfl rfl (by decide +kernel) ⟨Nat.le_of_ble_eq_true rfl, Nat.le_of_ble_eq_true rfl⟩) (lg_preS hLI (fun r h => hA0 r (Nat.le_trans hS.1 h)) hK hKJ hE hF hNc hS) rfl rfl hl.1 rfl (lv_room (Nat.le_of_ble_eq_true rfl)) dL_law_290 ⟨(Nat.le_trans (show 100 + 20 * t + 4 ≤ 600000 by omega) rm_c), (Nat.le_trans (show 2000 + 120 * t + 24 ≤ 7000000 by omega) rm_s)⟩) hS (fun H locs ad1 f1 hP h00 hLI hz hS => ?_)
      rw [← h00] at hl
      refine lv_istore (lv' := [(5, .int 3), (0, .ref b), (1, .ref (ad1 0 0)), (2, .ref (mad 0)), (3, .ref q), (4, .int (nI (5 * t)))]) hx hb dL_law_293 hl (by decide) rfl (fun ls hl => ?_)
      refine lv_aload_n hx hb dL_law_295 rfl (lv_at hl 3 rfl) ?_
      refine lv_aload_n hx hb dL_law_296 rfl (lv_at hl 1 rfl) ?_
      refine lv_iload hx hb dL_law_297 (lv_at hl 5 rfl) ?_
      refine lv_iconst (v := 1) hx hb dL_law_299 (by decide) ?_
      refine lv_iadd hx hb dL_law_300 ?_
      refine va_sld hx hb hX hbl hbA hS (law_in hL ht (show (1 : Nat) ≤ 4 by omega)) dL_law_301 ?_
      refine lv_aload_n hx hb dL_law_302 rfl (lv_at hl 1 rfl) ?_
      refine lv_iload hx hb dL_law_303 (lv_at hl 5 rfl) ?_
      refine lv_iconst (v := 2) hx hb dL_law_305 (by decide) ?_
      refine lv_iadd hx hb dL_law_306 ?_
      refine va_sld hx hb hX hbl hbA hS (law_in hL ht (show (2 : Nat) ≤ 4 by omega)) dL_law_307 ?_
      refine lv_aload_n hx hb dL_law_308 rfl (lv_at hl 1 rfl) ?_
      refine lv_iload hx hb dL_law_309 (lv_at hl 5 rfl) ?_
      refine lv_iconst (v := 3) hx hb dL_law_311 (by decide) ?_
      refine lv_iadd hx hb dL_law_312 ?_
      refine va_sld hx hb hX hbl hbA hS (law_in hL ht (show (3 : Nat) ≤ 4 by omega)) dL_law_313 ?_
      refine lv_aload_n hx hb dL_law_314 rfl (lv_at hl 1 rfl) ?_
      refine lv_iload hx hb dL_law_315 (lv_at hl 5 rfl) ?_
      refine lv_iconst (v := 4) hx hb dL_law_317 (by decide) ?_
      refine lv_iadd hx hb dL_law_318 ?_
      refine va_sld hx hb hX hbl hbA hS (law_in hL ht (show (4 : Nat) ≤ 4 by omega)) dL_law_319 ?_
      refine lv_if_eq (tgt := 327) hx hb dL_law_320 (by decide) (fun hc => absurd hc hzz) (fun _ => ?_)
      refine lv_iconst (v := 1) hx hb dL_law_323 (by decide) ?_
      refine lv_goto (tgt := 328) hx hb dL_law_324 (by decide) ?_
      refine lg_modeli hLI (va_runV (As := [.int (xs (Int32.toNatClampNeg (nI (5 * t) + 1))), .int (xs (Int32.toNatClampNeg (nI (5 * t) + 2))), .int (xs (Int32.toNatClampNeg (nI (5 * t) + 3))), .int 1]) (rest := []) ⟨hx, hb, hml, hown, hts⟩ (mX7_blow l D mad kI kZ M (xs (Int32.toNatClampNeg (nI (5 * t) + 1))) (xs (Int32.toNatClampNeg (nI (5 * t) + 2))) (xs (Int32.toNatClampNeg (nI (5 * t) + 3))) 1 bb M1 hm) (cwV 4 hts gL_law_X7_blow rfl rfl rfl (by decide +kernel) ⟨Nat.le_of_ble_eq_true rfl, Nat.le_of_ble_eq_true rfl⟩) (mg_preV hLI.2.2.1 hmK hLI.2.2.2.1) rfl rfl hl.1 rfl (lv_room (Nat.le_of_ble_eq_true rfl)) dL_law_328 ⟨(Nat.le_trans (show 100 + 20 * t + 4 + 0 ≤ 600000 by omega) rm_c), (Nat.le_trans (show 2000 + 120 * t + 24 + 0 ≤ 7000000 by omega) rm_s)⟩) hS (fun H locs hLI hz2 hS => ?_)
      refine lv_istore (lv' := [(6, .int bb), (5, .int 3), (0, .ref b), (1, .ref (ad1 0 0)), (2, .ref (mad 0)), (3, .ref q), (4, .int (nI (5 * t)))]) hx hb dL_law_331 hl (by decide) rfl (fun ls hl => ?_)
      refine lv_aload_n hx hb dL_law_333 rfl (lv_at hl 4 rfl) ?_
      refine lg_modeli hLI (va_runV (As := []) (rest := []) ⟨hx, hb, hml, hown, hts⟩ (mX7_thrown l D mad kI kZ M1 (M1 0 0) rfl) (cwV 0 hts gL_law_X7_thrown rfl rfl rfl (by decide +kernel) ⟨Nat.le_of_ble_eq_true rfl, Nat.le_of_ble_eq_true rfl⟩) (mg_preV hLI.2.2.1 hmK hLI.2.2.2.1) rfl rfl hl.1 rfl (lv_room (Nat.le_of_ble_eq_true rfl)) dL_law_334 ⟨(Nat.le_trans (show 100 + 20 * t + 4 + 0 ≤ 600000 by omega) rm_c), (Nat.le_trans (show 2000 + 120 * t + 24 + 0 ≤ 7000000 by omega) rm_s)⟩) hS (fun H locs hLI hz3 hS => ?_)
      refine lv_iload hx hb dL_law_337 (lv_at hl 1 rfl) ?_
      refine lv_icmp_eq (tgt := 344) hx hb dL_law_339 (by decide) (fun _ => ?_) (fun hc => absurd h0 hc)
      refine lv_iload hx hb dL_law_344 (lv_at hl 1 rfl) ?_
      refine lv_if_ne (tgt := 361) hx hb dL_law_346 (by decide) (fun _ => ?_) (fun hc => absurd hc (by decide))
      refine lv_goto (tgt := 2028) hx hb dL_law_361 (by decide) ?_
      refine W.widen (k := 100 + 20 * (t + 1)) (n := 2000 + 120 * (t + 1)) (by omega) (by omega) ?_
      exact kk H locs ls ad1 Z1 M1 f1 h00 hLI hR1 hS (lv_sub hl [2, 3, 4, 5, 6] rfl)
    | j + 3, hj => cases hj
set_option maxHeartbeats 4000000 in
set_option maxRecDepth 100000 in
theorem law_heat (hx : p.tables.exec = Jvm.exec) (hb : c.code = cL_law) (hml : c.maxLocals = 7) (hown : s.vm.findClass RL = some m.cls) (hts : ∀ w ∈ wsL_law, w.before #[Value.ref b] s = true) (hX : va_X b L xs s s.heap) (hbl : b < s.heap.size) (hfl : l.stackTraces = false) (hK : cK D G s) (hmK : mK D kI kZ s) (hKJ : va_K D vwCl [(cJ, .long)] s) (hE : cE A0 s s.heap) (hF : cF G A0 s s.heap) (hNc : lNc s) (hbA : ¬ A0 b) (hA0 : ∀ r, s.heap.size ≤ r → A0 r) {R R1 : CZ → MT → Prop} (hst : st_heat R R1) {t : Nat} (hL : L ≤ 2560) (ht : 5 * t + 5 ≤ L) (hLI : lI D G ad Z mad kI kZ M cJ q f A0 H) (hR : R Z M) (hS : va_S A0 s.heap H locs) (hl : lv_has ls 7 [(0, .ref b), (1, .ref (ad 0 0)), (2, .ref (mad 0)), (3, .ref q), (4, .int (nI (5 * t)))])
    (kk : ∀ (H1 : Heap) (locs1 : List Loc) (ls1 : Array Slot) (ad1 : Nat → Nat → Nat) (Z1 : CZ) (M1 : MT) (f1 : Nat → Int64), ad1 0 0 = ad 0 0 → lI D G ad1 Z1 mad kI kZ M1 cJ q f1 A0 H1 → R1 Z1 M1 → va_S A0 s.heap H1 locs1 → lv_has ls1 7 [(0, .ref b), (1, .ref (ad1 0 0)), (2, .ref (mad 0)), (3, .ref q), (4, .int (nI (5 * t)))] → W p l e room_1 s m #[Value.ref b] below meth c H1 locs1 (100 + 20 * (t + 1)) (2000 + 120 * (t + 1)) Q (F0 m 2028 ls1 [])) : W p l e room_1 s m #[Value.ref b] below meth c H locs (100 + 20 * t) (2000 + 120 * t) Q (F0 m 364 ls []) := by
  have ht5 : t < 512 := by omega
  refine lv_aload_n hx hb dL_law_364 rfl (lv_at hl 1 rfl) ?_
  refine lv_aload_n hx hb dL_law_365 rfl (lv_at hl 0 rfl) ?_
  refine lv_iload hx hb dL_law_366 (lv_at hl 4 rfl) ?_
  refine lv_iconst (v := 1) hx hb dL_law_368 (by decide) ?_
  refine lv_iadd hx hb dL_law_369 ?_
  refine va_sld hx hb hX hbl hbA hS (law_in hL ht (show (1 : Nat) ≤ 4 by omega)) dL_law_370 ?_
  refine lv_aload_n hx hb dL_law_371 rfl (lv_at hl 3 rfl) ?_
  obtain ⟨bb, M1, Z1, hm, hR1, hw⟩ := hst Z M hR (xs (Int32.toNatClampNeg (nI (5 * t) + 1)))
  rcases hw with ⟨hc, h0⟩ | ⟨j, cd, hc, hj, h0⟩
  · refine lg_class hLI (fun r h => hA0 r (Nat.le_trans hS.1 h)) (vx_runSX (As := [.ref (ad 0 0), .int (xs (Int32.toNatClampNeg (nI (5 * t) + 1))), .ref q]) (rest := []) ⟨hx, hb, hml, hown, hts⟩ (mL_heat l hfl D G (lA ad Z H) ad Z cJ q f (xs (Int32.toNatClampNeg (nI (5 * t) + 1))) bb Z1 hc) (vx_cwSW 3 hts gL_law_L_heat rfl rfl rfl (by decide +kernel) ⟨Nat.le_of_ble_eq_true rfl, Nat.le_of_ble_eq_true rfl⟩) (lg_preS hLI (fun r h => hA0 r (Nat.le_trans hS.1 h)) hK hKJ hE hF hNc hS) rfl rfl hl.1 rfl (lv_room (Nat.le_of_ble_eq_true rfl)) dL_law_372 ⟨(Nat.le_trans (show 100 + 20 * t + 1 ≤ 600000 by omega) rm_c), (Nat.le_trans (show 2000 + 120 * t + 6 ≤ 7000000 by omega) rm_s)⟩) hS (fun H locs ad1 f1 hP h00 hLI hz hS => ?_)
    rw [← h00] at hl
    refine lv_istore (lv' := [(5, .int 0), (0, .ref b), (1, .ref (ad1 0 0)), (2, .ref (mad 0)), (3, .ref q), (4, .int (nI (5 * t)))]) hx hb dL_law_375 hl (by decide) rfl (fun ls hl => ?_)
    refine lv_aload_n hx hb dL_law_377 rfl (lv_at hl 3 rfl) ?_
    refine lv_aload_n hx hb dL_law_378 rfl (lv_at hl 1 rfl) ?_
    refine lv_iload hx hb dL_law_379 (lv_at hl 5 rfl) ?_
    refine lv_iconst (v := 1) hx hb dL_law_381 (by decide) ?_
    refine lv_iadd hx hb dL_law_382 ?_
    refine va_sld hx hb hX hbl hbA hS (law_in hL ht (show (1 : Nat) ≤ 4 by omega)) dL_law_383 ?_
    refine lg_modeli hLI (va_runV (As := [.int (xs (Int32.toNatClampNeg (nI (5 * t) + 1)))]) (rest := []) ⟨hx, hb, hml, hown, hts⟩ (mX7_heat l D mad kI kZ M (xs (Int32.toNatClampNeg (nI (5 * t) + 1))) bb M1 hm) (cwV 1 hts gL_law_X7_heat rfl rfl rfl (by decide +kernel) ⟨Nat.le_of_ble_eq_true rfl, Nat.le_of_ble_eq_true rfl⟩) (mg_preV hLI.2.2.1 hmK hLI.2.2.2.1) rfl rfl hl.1 rfl (lv_room (Nat.le_of_ble_eq_true rfl)) dL_law_384 ⟨(Nat.le_trans (show 100 + 20 * t + 1 + 0 ≤ 600000 by omega) rm_c), (Nat.le_trans (show 2000 + 120 * t + 6 + 0 ≤ 7000000 by omega) rm_s)⟩) hS (fun H locs hLI hz2 hS => ?_)
    refine lv_istore (lv' := [(6, .int bb), (5, .int 0), (0, .ref b), (1, .ref (ad1 0 0)), (2, .ref (mad 0)), (3, .ref q), (4, .int (nI (5 * t)))]) hx hb dL_law_387 hl (by decide) rfl (fun ls hl => ?_)
    refine lv_aload_n hx hb dL_law_389 rfl (lv_at hl 4 rfl) ?_
    refine lg_modeli hLI (va_runV (As := []) (rest := []) ⟨hx, hb, hml, hown, hts⟩ (mX7_thrown l D mad kI kZ M1 (M1 0 0) rfl) (cwV 0 hts gL_law_X7_thrown rfl rfl rfl (by decide +kernel) ⟨Nat.le_of_ble_eq_true rfl, Nat.le_of_ble_eq_true rfl⟩) (mg_preV hLI.2.2.1 hmK hLI.2.2.2.1) rfl rfl hl.1 rfl (lv_room (Nat.le_of_ble_eq_true rfl)) dL_law_390 ⟨(Nat.le_trans (show 100 + 20 * t + 1 + 0 ≤ 600000 by omega) rm_c), (Nat.le_trans (show 2000 + 120 * t + 6 + 0 ≤ 7000000 by omega) rm_s)⟩) hS (fun H locs hLI hz3 hS => ?_)
    refine lv_iload hx hb dL_law_393 (lv_at hl 1 rfl) ?_
    refine lv_icmp_eq (tgt := 400) hx hb dL_law_395 (by decide) (fun _ => ?_) (fun hc => absurd h0 hc)
    refine lv_iload hx hb dL_law_400 (lv_at hl 1 rfl) ?_
    refine lv_if_ne (tgt := 417) hx hb dL_law_402 (by decide) (fun hc => absurd rfl hc) (fun _ => ?_)
    refine lv_aload_n hx hb dL_law_405 rfl (lv_at hl 5 rfl) ?_
    refine lv_iconst (v := 0) hx hb dL_law_406 (by decide) ?_
    refine va_lald hx hb hKJ (iw_P1 hLI.2.2.2.2.1) 0 0 rfl rfl (show ¬ ((0 : Int32) < 0 ∨ 1 ≤ (0 : Int32).toNatClampNeg) from by decide) dL_law_407 ?_
    rw [show f1 (0 : Int32).toNatClampNeg = bb.toInt64 from hP]
    refine lv_iload hx hb dL_law_408 (lv_at hl 0 rfl) ?_
    refine lv_i2l hx hb (v := bb.toInt64) dL_law_410 rfl ?_
    refine lg_lcmp hx hb dL_law_411 ?_
    refine lv_if_eq (tgt := 417) hx hb dL_law_412 (by decide) (fun _ => ?_) (fun hc => absurd rfl hc)
    refine lv_goto (tgt := 2028) hx hb dL_law_417 (by decide) ?_
    refine W.widen (k := 100 + 20 * (t + 1)) (n := 2000 + 120 * (t + 1)) (by omega) (by omega) ?_
    exact kk H locs ls ad1 Z1 M1 f1 h00 hLI hR1 hS (lv_sub hl [2, 3, 4, 5, 6] rfl)
  · match j, hj with
    | 0, hj =>
      cases hj
      refine lg_class hLI (fun r h => hA0 r (Nat.le_trans hS.1 h)) (vx_runSX (As := [.ref (ad 0 0), .int (xs (Int32.toNatClampNeg (nI (5 * t) + 1))), .ref q]) (rest := []) ⟨hx, hb, hml, hown, hts⟩ (mL_heat_x1 l hfl D G (lA ad Z H) ad Z cJ q f (xs (Int32.toNatClampNeg (nI (5 * t) + 1))) Z1 hc) (vx_cwSW 3 hts gL_law_L_heat rfl rfl rfl (by decide +kernel) ⟨Nat.le_of_ble_eq_true rfl, Nat.le_of_ble_eq_true rfl⟩) (lg_preS hLI (fun r h => hA0 r (Nat.le_trans hS.1 h)) hK hKJ hE hF hNc hS) rfl rfl hl.1 rfl (lv_room (Nat.le_of_ble_eq_true rfl)) dL_law_372 ⟨(Nat.le_trans (show 100 + 20 * t + 1 ≤ 600000 by omega) rm_c), (Nat.le_trans (show 2000 + 120 * t + 6 ≤ 7000000 by omega) rm_s)⟩) hS (fun H locs ad1 f1 hP h00 hLI hz hS => ?_)
      rw [← h00] at hl
      refine lv_istore (lv' := [(5, .int 1), (0, .ref b), (1, .ref (ad1 0 0)), (2, .ref (mad 0)), (3, .ref q), (4, .int (nI (5 * t)))]) hx hb dL_law_375 hl (by decide) rfl (fun ls hl => ?_)
      refine lv_aload_n hx hb dL_law_377 rfl (lv_at hl 3 rfl) ?_
      refine lv_aload_n hx hb dL_law_378 rfl (lv_at hl 1 rfl) ?_
      refine lv_iload hx hb dL_law_379 (lv_at hl 5 rfl) ?_
      refine lv_iconst (v := 1) hx hb dL_law_381 (by decide) ?_
      refine lv_iadd hx hb dL_law_382 ?_
      refine va_sld hx hb hX hbl hbA hS (law_in hL ht (show (1 : Nat) ≤ 4 by omega)) dL_law_383 ?_
      refine lg_modeli hLI (va_runV (As := [.int (xs (Int32.toNatClampNeg (nI (5 * t) + 1)))]) (rest := []) ⟨hx, hb, hml, hown, hts⟩ (mX7_heat l D mad kI kZ M (xs (Int32.toNatClampNeg (nI (5 * t) + 1))) bb M1 hm) (cwV 1 hts gL_law_X7_heat rfl rfl rfl (by decide +kernel) ⟨Nat.le_of_ble_eq_true rfl, Nat.le_of_ble_eq_true rfl⟩) (mg_preV hLI.2.2.1 hmK hLI.2.2.2.1) rfl rfl hl.1 rfl (lv_room (Nat.le_of_ble_eq_true rfl)) dL_law_384 ⟨(Nat.le_trans (show 100 + 20 * t + 1 + 0 ≤ 600000 by omega) rm_c), (Nat.le_trans (show 2000 + 120 * t + 6 + 0 ≤ 7000000 by omega) rm_s)⟩) hS (fun H locs hLI hz2 hS => ?_)
      refine lv_istore (lv' := [(6, .int bb), (5, .int 1), (0, .ref b), (1, .ref (ad1 0 0)), (2, .ref (mad 0)), (3, .ref q), (4, .int (nI (5 * t)))]) hx hb dL_law_387 hl (by decide) rfl (fun ls hl => ?_)
      refine lv_aload_n hx hb dL_law_389 rfl (lv_at hl 4 rfl) ?_
      refine lg_modeli hLI (va_runV (As := []) (rest := []) ⟨hx, hb, hml, hown, hts⟩ (mX7_thrown l D mad kI kZ M1 (M1 0 0) rfl) (cwV 0 hts gL_law_X7_thrown rfl rfl rfl (by decide +kernel) ⟨Nat.le_of_ble_eq_true rfl, Nat.le_of_ble_eq_true rfl⟩) (mg_preV hLI.2.2.1 hmK hLI.2.2.2.1) rfl rfl hl.1 rfl (lv_room (Nat.le_of_ble_eq_true rfl)) dL_law_390 ⟨(Nat.le_trans (show 100 + 20 * t + 1 + 0 ≤ 600000 by omega) rm_c), (Nat.le_trans (show 2000 + 120 * t + 6 + 0 ≤ 7000000 by omega) rm_s)⟩) hS (fun H locs hLI hz3 hS => ?_)
      refine lv_iload hx hb dL_law_393 (lv_at hl 1 rfl) ?_
      refine lv_icmp_eq (tgt := 400) hx hb dL_law_395 (by decide) (fun _ => ?_) (fun hc => absurd h0 hc)
      refine lv_iload hx hb dL_law_400 (lv_at hl 1 rfl) ?_
      refine lv_if_ne (tgt := 417) hx hb dL_law_402 (by decide) (fun _ => ?_) (fun hc => absurd hc (by decide))
      refine lv_goto (tgt := 2028) hx hb dL_law_417 (by decide) ?_
      refine W.widen (k := 100 + 20 * (t + 1)) (n := 2000 + 120 * (t + 1)) (by omega) (by omega) ?_
      exact kk H locs ls ad1 Z1 M1 f1 h00 hLI hR1 hS (lv_sub hl [2, 3, 4, 5, 6] rfl)
    | j + 1, hj => cases hj
set_option maxHeartbeats 4000000 in
set_option maxRecDepth 100000 in
theorem law_field (hx : p.tables.exec = Jvm.exec) (hb : c.code = cL_law) (hml : c.maxLocals = 7) (hown : s.vm.findClass RL = some m.cls) (hts : ∀ w ∈ wsL_law, w.before #[Value.ref b] s = true) (hX : va_X b L xs s s.heap) (hbl : b < s.heap.size) (hfl : l.stackTraces = false) (hK : cK D G s) (hmK : mK D kI kZ s) (hKJ : va_K D vwCl [(cJ, .long)] s) (hE : cE A0 s s.heap) (hF : cF G A0 s s.heap) (hNc : lNc s) (hbA : ¬ A0 b) (hA0 : ∀ r, s.heap.size ≤ r → A0 r) {R R1 : CZ → MT → Prop} (hst : st_field R R1) {t : Nat} (hL : L ≤ 2560) (ht : 5 * t + 5 ≤ L) (hLI : lI D G ad Z mad kI kZ M cJ q f A0 H) (hR : R Z M) (hS : va_S A0 s.heap H locs) (hl : lv_has ls 7 [(0, .ref b), (1, .ref (ad 0 0)), (2, .ref (mad 0)), (3, .ref q), (4, .int (nI (5 * t)))])
    (kk : ∀ (H1 : Heap) (locs1 : List Loc) (ls1 : Array Slot) (ad1 : Nat → Nat → Nat) (Z1 : CZ) (M1 : MT) (f1 : Nat → Int64), ad1 0 0 = ad 0 0 → lI D G ad1 Z1 mad kI kZ M1 cJ q f1 A0 H1 → R1 Z1 M1 → va_S A0 s.heap H1 locs1 → lv_has ls1 7 [(0, .ref b), (1, .ref (ad1 0 0)), (2, .ref (mad 0)), (3, .ref q), (4, .int (nI (5 * t)))] → W p l e room_1 s m #[Value.ref b] below meth c H1 locs1 (100 + 20 * (t + 1)) (2000 + 120 * (t + 1)) Q (F0 m 2028 ls1 [])) : W p l e room_1 s m #[Value.ref b] below meth c H locs (100 + 20 * t) (2000 + 120 * t) Q (F0 m 420 ls []) := by
  have ht5 : t < 512 := by omega
  refine lv_aload_n hx hb dL_law_420 rfl (lv_at hl 1 rfl) ?_
  refine lv_aload_n hx hb dL_law_421 rfl (lv_at hl 0 rfl) ?_
  refine lv_iload hx hb dL_law_422 (lv_at hl 4 rfl) ?_
  refine lv_iconst (v := 1) hx hb dL_law_424 (by decide) ?_
  refine lv_iadd hx hb dL_law_425 ?_
  refine va_sld hx hb hX hbl hbA hS (law_in hL ht (show (1 : Nat) ≤ 4 by omega)) dL_law_426 ?_
  refine lv_aload_n hx hb dL_law_427 rfl (lv_at hl 0 rfl) ?_
  refine lv_iload hx hb dL_law_428 (lv_at hl 4 rfl) ?_
  refine lv_iconst (v := 2) hx hb dL_law_430 (by decide) ?_
  refine lv_iadd hx hb dL_law_431 ?_
  refine va_sld hx hb hX hbl hbA hS (law_in hL ht (show (2 : Nat) ≤ 4 by omega)) dL_law_432 ?_
  refine lv_aload_n hx hb dL_law_433 rfl (lv_at hl 0 rfl) ?_
  refine lv_iload hx hb dL_law_434 (lv_at hl 4 rfl) ?_
  refine lv_iconst (v := 3) hx hb dL_law_436 (by decide) ?_
  refine lv_iadd hx hb dL_law_437 ?_
  refine va_sld hx hb hX hbl hbA hS (law_in hL ht (show (3 : Nat) ≤ 4 by omega)) dL_law_438 ?_
  refine lv_aload_n hx hb dL_law_439 rfl (lv_at hl 3 rfl) ?_
  obtain ⟨bb, M1, hm, hR1, hw⟩ := hst Z M hR (xs (Int32.toNatClampNeg (nI (5 * t) + 1))) (xs (Int32.toNatClampNeg (nI (5 * t) + 2))) (xs (Int32.toNatClampNeg (nI (5 * t) + 3)))
  rcases hw with ⟨hc, h0⟩ | ⟨j, cd, hc, hj, h0⟩
  · refine lg_class hLI (fun r h => hA0 r (Nat.le_trans hS.1 h)) (vx_runSX (As := [.ref (ad 0 0), .int (xs (Int32.toNatClampNeg (nI (5 * t) + 1))), .int (xs (Int32.toNatClampNeg (nI (5 * t) + 2))), .int (xs (Int32.toNatClampNeg (nI (5 * t) + 3))), .ref q]) (rest := []) ⟨hx, hb, hml, hown, hts⟩ (mL_field l hfl D G (lA ad Z H) ad Z cJ q f (xs (Int32.toNatClampNeg (nI (5 * t) + 1))) (xs (Int32.toNatClampNeg (nI (5 * t) + 2))) (xs (Int32.toNatClampNeg (nI (5 * t) + 3))) bb  hc) (vx_cwSW 5 hts gL_law_L_field rfl rfl rfl (by decide +kernel) ⟨Nat.le_of_ble_eq_true rfl, Nat.le_of_ble_eq_true rfl⟩) (lg_preS hLI (fun r h => hA0 r (Nat.le_trans hS.1 h)) hK hKJ hE hF hNc hS) rfl rfl hl.1 rfl (lv_room (Nat.le_of_ble_eq_true rfl)) dL_law_440 ⟨(Nat.le_trans (show 100 + 20 * t + 3 ≤ 600000 by omega) rm_c), (Nat.le_trans (show 2000 + 120 * t + 18 ≤ 7000000 by omega) rm_s)⟩) hS (fun H locs ad1 f1 hP h00 hLI hz hS => ?_)
    rw [← h00] at hl
    refine lv_istore (lv' := [(5, .int 0), (0, .ref b), (1, .ref (ad1 0 0)), (2, .ref (mad 0)), (3, .ref q), (4, .int (nI (5 * t)))]) hx hb dL_law_443 hl (by decide) rfl (fun ls hl => ?_)
    refine lv_aload_n hx hb dL_law_445 rfl (lv_at hl 3 rfl) ?_
    refine lv_aload_n hx hb dL_law_446 rfl (lv_at hl 1 rfl) ?_
    refine lv_iload hx hb dL_law_447 (lv_at hl 5 rfl) ?_
    refine lv_iconst (v := 1) hx hb dL_law_449 (by decide) ?_
    refine lv_iadd hx hb dL_law_450 ?_
    refine va_sld hx hb hX hbl hbA hS (law_in hL ht (show (1 : Nat) ≤ 4 by omega)) dL_law_451 ?_
    refine lv_aload_n hx hb dL_law_452 rfl (lv_at hl 1 rfl) ?_
    refine lv_iload hx hb dL_law_453 (lv_at hl 5 rfl) ?_
    refine lv_iconst (v := 2) hx hb dL_law_455 (by decide) ?_
    refine lv_iadd hx hb dL_law_456 ?_
    refine va_sld hx hb hX hbl hbA hS (law_in hL ht (show (2 : Nat) ≤ 4 by omega)) dL_law_457 ?_
    refine lv_aload_n hx hb dL_law_458 rfl (lv_at hl 1 rfl) ?_
    refine lv_iload hx hb dL_law_459 (lv_at hl 5 rfl) ?_
    refine lv_iconst (v := 3) hx hb dL_law_461 (by decide) ?_
    refine lv_iadd hx hb dL_law_462 ?_
    refine va_sld hx hb hX hbl hbA hS (law_in hL ht (show (3 : Nat) ≤ 4 by omega)) dL_law_463 ?_
    refine lg_modeli hLI (va_runV (As := [.int (xs (Int32.toNatClampNeg (nI (5 * t) + 1))), .int (xs (Int32.toNatClampNeg (nI (5 * t) + 2))), .int (xs (Int32.toNatClampNeg (nI (5 * t) + 3)))]) (rest := []) ⟨hx, hb, hml, hown, hts⟩ (mX7_field l D mad kI kZ M (xs (Int32.toNatClampNeg (nI (5 * t) + 1))) (xs (Int32.toNatClampNeg (nI (5 * t) + 2))) (xs (Int32.toNatClampNeg (nI (5 * t) + 3))) bb M1 hm) (cwV 3 hts gL_law_X7_field rfl rfl rfl (by decide +kernel) ⟨Nat.le_of_ble_eq_true rfl, Nat.le_of_ble_eq_true rfl⟩) (mg_preV hLI.2.2.1 hmK hLI.2.2.2.1) rfl rfl hl.1 rfl (lv_room (Nat.le_of_ble_eq_true rfl)) dL_law_464 ⟨(Nat.le_trans (show 100 + 20 * t + 3 + 0 ≤ 600000 by omega) rm_c), (Nat.le_trans (show 2000 + 120 * t + 18 + 0 ≤ 7000000 by omega) rm_s)⟩) hS (fun H locs hLI hz2 hS => ?_)
    refine lv_istore (lv' := [(6, .int bb), (5, .int 0), (0, .ref b), (1, .ref (ad1 0 0)), (2, .ref (mad 0)), (3, .ref q), (4, .int (nI (5 * t)))]) hx hb dL_law_467 hl (by decide) rfl (fun ls hl => ?_)
    refine lv_aload_n hx hb dL_law_469 rfl (lv_at hl 4 rfl) ?_
    refine lg_modeli hLI (va_runV (As := []) (rest := []) ⟨hx, hb, hml, hown, hts⟩ (mX7_thrown l D mad kI kZ M1 (M1 0 0) rfl) (cwV 0 hts gL_law_X7_thrown rfl rfl rfl (by decide +kernel) ⟨Nat.le_of_ble_eq_true rfl, Nat.le_of_ble_eq_true rfl⟩) (mg_preV hLI.2.2.1 hmK hLI.2.2.2.1) rfl rfl hl.1 rfl (lv_room (Nat.le_of_ble_eq_true rfl)) dL_law_470 ⟨(Nat.le_trans (show 100 + 20 * t + 3 + 0 ≤ 600000 by omega) rm_c), (Nat.le_trans (show 2000 + 120 * t + 18 + 0 ≤ 7000000 by omega) rm_s)⟩) hS (fun H locs hLI hz3 hS => ?_)
    refine lv_iload hx hb dL_law_473 (lv_at hl 1 rfl) ?_
    refine lv_icmp_eq (tgt := 480) hx hb dL_law_475 (by decide) (fun _ => ?_) (fun hc => absurd h0 hc)
    refine lv_iload hx hb dL_law_480 (lv_at hl 1 rfl) ?_
    refine lv_if_ne (tgt := 497) hx hb dL_law_482 (by decide) (fun hc => absurd rfl hc) (fun _ => ?_)
    refine lv_aload_n hx hb dL_law_485 rfl (lv_at hl 5 rfl) ?_
    refine lv_iconst (v := 0) hx hb dL_law_486 (by decide) ?_
    refine va_lald hx hb hKJ (iw_P1 hLI.2.2.2.2.1) 0 0 rfl rfl (show ¬ ((0 : Int32) < 0 ∨ 1 ≤ (0 : Int32).toNatClampNeg) from by decide) dL_law_487 ?_
    rw [show f1 (0 : Int32).toNatClampNeg = bb.toInt64 from hP]
    refine lv_iload hx hb dL_law_488 (lv_at hl 0 rfl) ?_
    refine lv_i2l hx hb (v := bb.toInt64) dL_law_490 rfl ?_
    refine lg_lcmp hx hb dL_law_491 ?_
    refine lv_if_eq (tgt := 497) hx hb dL_law_492 (by decide) (fun _ => ?_) (fun hc => absurd rfl hc)
    refine lv_goto (tgt := 2028) hx hb dL_law_497 (by decide) ?_
    refine W.widen (k := 100 + 20 * (t + 1)) (n := 2000 + 120 * (t + 1)) (by omega) (by omega) ?_
    exact kk H locs ls ad1 Z M1 f1 h00 hLI hR1 hS (lv_sub hl [2, 3, 4, 5, 6] rfl)
  · match j, hj with
    | 0, hj =>
      cases hj
      refine lg_class hLI (fun r h => hA0 r (Nat.le_trans hS.1 h)) (vx_runSX (As := [.ref (ad 0 0), .int (xs (Int32.toNatClampNeg (nI (5 * t) + 1))), .int (xs (Int32.toNatClampNeg (nI (5 * t) + 2))), .int (xs (Int32.toNatClampNeg (nI (5 * t) + 3))), .ref q]) (rest := []) ⟨hx, hb, hml, hown, hts⟩ (mL_field_x1 l hfl D G (lA ad Z H) ad Z cJ q f (xs (Int32.toNatClampNeg (nI (5 * t) + 1))) (xs (Int32.toNatClampNeg (nI (5 * t) + 2))) (xs (Int32.toNatClampNeg (nI (5 * t) + 3)))  hc) (vx_cwSW 5 hts gL_law_L_field rfl rfl rfl (by decide +kernel) ⟨Nat.le_of_ble_eq_true rfl, Nat.le_of_ble_eq_true rfl⟩) (lg_preS hLI (fun r h => hA0 r (Nat.le_trans hS.1 h)) hK hKJ hE hF hNc hS) rfl rfl hl.1 rfl (lv_room (Nat.le_of_ble_eq_true rfl)) dL_law_440 ⟨(Nat.le_trans (show 100 + 20 * t + 3 ≤ 600000 by omega) rm_c), (Nat.le_trans (show 2000 + 120 * t + 18 ≤ 7000000 by omega) rm_s)⟩) hS (fun H locs ad1 f1 hP h00 hLI hz hS => ?_)
      rw [← h00] at hl
      refine lv_istore (lv' := [(5, .int 1), (0, .ref b), (1, .ref (ad1 0 0)), (2, .ref (mad 0)), (3, .ref q), (4, .int (nI (5 * t)))]) hx hb dL_law_443 hl (by decide) rfl (fun ls hl => ?_)
      refine lv_aload_n hx hb dL_law_445 rfl (lv_at hl 3 rfl) ?_
      refine lv_aload_n hx hb dL_law_446 rfl (lv_at hl 1 rfl) ?_
      refine lv_iload hx hb dL_law_447 (lv_at hl 5 rfl) ?_
      refine lv_iconst (v := 1) hx hb dL_law_449 (by decide) ?_
      refine lv_iadd hx hb dL_law_450 ?_
      refine va_sld hx hb hX hbl hbA hS (law_in hL ht (show (1 : Nat) ≤ 4 by omega)) dL_law_451 ?_
      refine lv_aload_n hx hb dL_law_452 rfl (lv_at hl 1 rfl) ?_
      refine lv_iload hx hb dL_law_453 (lv_at hl 5 rfl) ?_
      refine lv_iconst (v := 2) hx hb dL_law_455 (by decide) ?_
      refine lv_iadd hx hb dL_law_456 ?_
      refine va_sld hx hb hX hbl hbA hS (law_in hL ht (show (2 : Nat) ≤ 4 by omega)) dL_law_457 ?_
      refine lv_aload_n hx hb dL_law_458 rfl (lv_at hl 1 rfl) ?_
      refine lv_iload hx hb dL_law_459 (lv_at hl 5 rfl) ?_
      refine lv_iconst (v := 3) hx hb dL_law_461 (by decide) ?_
      refine lv_iadd hx hb dL_law_462 ?_
      refine va_sld hx hb hX hbl hbA hS (law_in hL ht (show (3 : Nat) ≤ 4 by omega)) dL_law_463 ?_
      refine lg_modeli hLI (va_runV (As := [.int (xs (Int32.toNatClampNeg (nI (5 * t) + 1))), .int (xs (Int32.toNatClampNeg (nI (5 * t) + 2))), .int (xs (Int32.toNatClampNeg (nI (5 * t) + 3)))]) (rest := []) ⟨hx, hb, hml, hown, hts⟩ (mX7_field l D mad kI kZ M (xs (Int32.toNatClampNeg (nI (5 * t) + 1))) (xs (Int32.toNatClampNeg (nI (5 * t) + 2))) (xs (Int32.toNatClampNeg (nI (5 * t) + 3))) bb M1 hm) (cwV 3 hts gL_law_X7_field rfl rfl rfl (by decide +kernel) ⟨Nat.le_of_ble_eq_true rfl, Nat.le_of_ble_eq_true rfl⟩) (mg_preV hLI.2.2.1 hmK hLI.2.2.2.1) rfl rfl hl.1 rfl (lv_room (Nat.le_of_ble_eq_true rfl)) dL_law_464 ⟨(Nat.le_trans (show 100 + 20 * t + 3 + 0 ≤ 600000 by omega) rm_c), (Nat.le_trans (show 2000 + 120 * t + 18 + 0 ≤ 7000000 by omega) rm_s)⟩) hS (fun H locs hLI hz2 hS => ?_)
      refine lv_istore (lv' := [(6, .int bb), (5, .int 1), (0, .ref b), (1, .ref (ad1 0 0)), (2, .ref (mad 0)), (3, .ref q), (4, .int (nI (5 * t)))]) hx hb dL_law_467 hl (by decide) rfl (fun ls hl => ?_)
      refine lv_aload_n hx hb dL_law_469 rfl (lv_at hl 4 rfl) ?_
      refine lg_modeli hLI (va_runV (As := []) (rest := []) ⟨hx, hb, hml, hown, hts⟩ (mX7_thrown l D mad kI kZ M1 (M1 0 0) rfl) (cwV 0 hts gL_law_X7_thrown rfl rfl rfl (by decide +kernel) ⟨Nat.le_of_ble_eq_true rfl, Nat.le_of_ble_eq_true rfl⟩) (mg_preV hLI.2.2.1 hmK hLI.2.2.2.1) rfl rfl hl.1 rfl (lv_room (Nat.le_of_ble_eq_true rfl)) dL_law_470 ⟨(Nat.le_trans (show 100 + 20 * t + 3 + 0 ≤ 600000 by omega) rm_c), (Nat.le_trans (show 2000 + 120 * t + 18 + 0 ≤ 7000000 by omega) rm_s)⟩) hS (fun H locs hLI hz3 hS => ?_)
      refine lv_iload hx hb dL_law_473 (lv_at hl 1 rfl) ?_
      refine lv_icmp_eq (tgt := 480) hx hb dL_law_475 (by decide) (fun _ => ?_) (fun hc => absurd h0 hc)
      refine lv_iload hx hb dL_law_480 (lv_at hl 1 rfl) ?_
      refine lv_if_ne (tgt := 497) hx hb dL_law_482 (by decide) (fun _ => ?_) (fun hc => absurd hc (by decide))
      refine lv_goto (tgt := 2028) hx hb dL_law_497 (by decide) ?_
      refine W.widen (k := 100 + 20 * (t + 1)) (n := 2000 + 120 * (t + 1)) (by omega) (by omega) ?_
      exact kk H locs ls ad1 Z M1 f1 h00 hLI hR1 hS (lv_sub hl [2, 3, 4, 5, 6] rfl)
    | 1, hj =>
      cases hj
      refine lg_class hLI (fun r h => hA0 r (Nat.le_trans hS.1 h)) (vx_runSX (As := [.ref (ad 0 0), .int (xs (Int32.toNatClampNeg (nI (5 * t) + 1))), .int (xs (Int32.toNatClampNeg (nI (5 * t) + 2))), .int (xs (Int32.toNatClampNeg (nI (5 * t) + 3))), .ref q]) (rest := []) ⟨hx, hb, hml, hown, hts⟩ (mL_field_x2 l hfl D G (lA ad Z H) ad Z cJ q f (xs (Int32.toNatClampNeg (nI (5 * t) + 1))) (xs (Int32.toNatClampNeg (nI (5 * t) + 2))) (xs (Int32.toNatClampNeg (nI (5 * t) + 3)))  hc) (vx_cwSW 5 hts gL_law_L_field rfl rfl rfl (by decide +kernel) ⟨Nat.le_of_ble_eq_true rfl, Nat.le_of_ble_eq_true rfl⟩) (lg_preS hLI (fun r h => hA0 r (Nat.le_trans hS.1 h)) hK hKJ hE hF hNc hS) rfl rfl hl.1 rfl (lv_room (Nat.le_of_ble_eq_true rfl)) dL_law_440 ⟨(Nat.le_trans (show 100 + 20 * t + 3 ≤ 600000 by omega) rm_c), (Nat.le_trans (show 2000 + 120 * t + 18 ≤ 7000000 by omega) rm_s)⟩) hS (fun H locs ad1 f1 hP h00 hLI hz hS => ?_)
      rw [← h00] at hl
      refine lv_istore (lv' := [(5, .int 2), (0, .ref b), (1, .ref (ad1 0 0)), (2, .ref (mad 0)), (3, .ref q), (4, .int (nI (5 * t)))]) hx hb dL_law_443 hl (by decide) rfl (fun ls hl => ?_)
      refine lv_aload_n hx hb dL_law_445 rfl (lv_at hl 3 rfl) ?_
      refine lv_aload_n hx hb dL_law_446 rfl (lv_at hl 1 rfl) ?_
      refine lv_iload hx hb dL_law_447 (lv_at hl 5 rfl) ?_
      refine lv_iconst (v := 1) hx hb dL_law_449 (by decide) ?_
      refine lv_iadd hx hb dL_law_450 ?_
      refine va_sld hx hb hX hbl hbA hS (law_in hL ht (show (1 : Nat) ≤ 4 by omega)) dL_law_451 ?_
      refine lv_aload_n hx hb dL_law_452 rfl (lv_at hl 1 rfl) ?_
      refine lv_iload hx hb dL_law_453 (lv_at hl 5 rfl) ?_
      refine lv_iconst (v := 2) hx hb dL_law_455 (by decide) ?_
      refine lv_iadd hx hb dL_law_456 ?_
      refine va_sld hx hb hX hbl hbA hS (law_in hL ht (show (2 : Nat) ≤ 4 by omega)) dL_law_457 ?_
      refine lv_aload_n hx hb dL_law_458 rfl (lv_at hl 1 rfl) ?_
      refine lv_iload hx hb dL_law_459 (lv_at hl 5 rfl) ?_
      refine lv_iconst (v := 3) hx hb dL_law_461 (by decide) ?_
      refine lv_iadd hx hb dL_law_462 ?_
      refine va_sld hx hb hX hbl hbA hS (law_in hL ht (show (3 : Nat) ≤ 4 by omega)) dL_law_463 ?_
      refine lg_modeli hLI (va_runV (As := [.int (xs (Int32.toNatClampNeg (nI (5 * t) + 1))), .int (xs (Int32.toNatClampNeg (nI (5 * t) + 2))), .int (xs (Int32.toNatClampNeg (nI (5 * t) + 3)))]) (rest := []) ⟨hx, hb, hml, hown, hts⟩ (mX7_field l D mad kI kZ M (xs (Int32.toNatClampNeg (nI (5 * t) + 1))) (xs (Int32.toNatClampNeg (nI (5 * t) + 2))) (xs (Int32.toNatClampNeg (nI (5 * t) + 3))) bb M1 hm) (cwV 3 hts gL_law_X7_field rfl rfl rfl (by decide +kernel) ⟨Nat.le_of_ble_eq_true rfl, Nat.le_of_ble_eq_true rfl⟩) (mg_preV hLI.2.2.1 hmK hLI.2.2.2.1) rfl rfl hl.1 rfl (lv_room (Nat.le_of_ble_eq_true rfl)) dL_law_464 ⟨(Nat.le_trans (show 100 + 20 * t + 3 + 0 ≤ 600000 by omega) rm_c), (Nat.le_trans (show 2000 + 120 * t + 18 + 0 ≤ 7000000 by omega) rm_s)⟩) hS (fun H locs hLI hz2 hS => ?_)
      refine lv_istore (lv' := [(6, .int bb), (5, .int 2), (0, .ref b), (1, .ref (ad1 0 0)), (2, .ref (mad 0)), (3, .ref q), (4, .int (nI (5 * t)))]) hx hb dL_law_467 hl (by decide) rfl (fun ls hl => ?_)
      refine lv_aload_n hx hb dL_law_469 rfl (lv_at hl 4 rfl) ?_
      refine lg_modeli hLI (va_runV (As := []) (rest := []) ⟨hx, hb, hml, hown, hts⟩ (mX7_thrown l D mad kI kZ M1 (M1 0 0) rfl) (cwV 0 hts gL_law_X7_thrown rfl rfl rfl (by decide +kernel) ⟨Nat.le_of_ble_eq_true rfl, Nat.le_of_ble_eq_true rfl⟩) (mg_preV hLI.2.2.1 hmK hLI.2.2.2.1) rfl rfl hl.1 rfl (lv_room (Nat.le_of_ble_eq_true rfl)) dL_law_470 ⟨(Nat.le_trans (show 100 + 20 * t + 3 + 0 ≤ 600000 by omega) rm_c), (Nat.le_trans (show 2000 + 120 * t + 18 + 0 ≤ 7000000 by omega) rm_s)⟩) hS (fun H locs hLI hz3 hS => ?_)
      refine lv_iload hx hb dL_law_473 (lv_at hl 1 rfl) ?_
      refine lv_icmp_eq (tgt := 480) hx hb dL_law_475 (by decide) (fun _ => ?_) (fun hc => absurd h0 hc)
      refine lv_iload hx hb dL_law_480 (lv_at hl 1 rfl) ?_
      refine lv_if_ne (tgt := 497) hx hb dL_law_482 (by decide) (fun _ => ?_) (fun hc => absurd hc (by decide))
      refine lv_goto (tgt := 2028) hx hb dL_law_497 (by decide) ?_
      refine W.widen (k := 100 + 20 * (t + 1)) (n := 2000 + 120 * (t + 1)) (by omega) (by omega) ?_
      exact kk H locs ls ad1 Z M1 f1 h00 hLI hR1 hS (lv_sub hl [2, 3, 4, 5, 6] rfl)
    | j + 2, hj => cases hj
set_option maxHeartbeats 4000000 in
set_option maxRecDepth 100000 in
theorem law_isInTune (hx : p.tables.exec = Jvm.exec) (hb : c.code = cL_law) (hml : c.maxLocals = 7) (hown : s.vm.findClass RL = some m.cls) (hts : ∀ w ∈ wsL_law, w.before #[Value.ref b] s = true) (hX : va_X b L xs s s.heap) (hbl : b < s.heap.size) (hfl : l.stackTraces = false) (hK : cK D G s) (hmK : mK D kI kZ s) (hKJ : va_K D vwCl [(cJ, .long)] s) (hE : cE A0 s s.heap) (hF : cF G A0 s s.heap) (hNc : lNc s) (hbA : ¬ A0 b) (hA0 : ∀ r, s.heap.size ≤ r → A0 r) {R R1 : CZ → MT → Prop} (hst : st_isInTune R R1) {t : Nat} (hL : L ≤ 2560) (ht : 5 * t + 5 ≤ L) (hLI : lI D G ad Z mad kI kZ M cJ q f A0 H) (hR : R Z M) (hS : va_S A0 s.heap H locs) (hl : lv_has ls 7 [(0, .ref b), (1, .ref (ad 0 0)), (2, .ref (mad 0)), (3, .ref q), (4, .int (nI (5 * t)))])
    (kk : ∀ (H1 : Heap) (locs1 : List Loc) (ls1 : Array Slot) (ad1 : Nat → Nat → Nat) (Z1 : CZ) (M1 : MT) (f1 : Nat → Int64), ad1 0 0 = ad 0 0 → lI D G ad1 Z1 mad kI kZ M1 cJ q f1 A0 H1 → R1 Z1 M1 → va_S A0 s.heap H1 locs1 → lv_has ls1 7 [(0, .ref b), (1, .ref (ad1 0 0)), (2, .ref (mad 0)), (3, .ref q), (4, .int (nI (5 * t)))] → W p l e room_1 s m #[Value.ref b] below meth c H1 locs1 (100 + 20 * (t + 1)) (2000 + 120 * (t + 1)) Q (F0 m 2028 ls1 [])) : W p l e room_1 s m #[Value.ref b] below meth c H locs (100 + 20 * t) (2000 + 120 * t) Q (F0 m 500 ls []) := by
  have ht5 : t < 512 := by omega
  refine lv_aload_n hx hb dL_law_500 rfl (lv_at hl 1 rfl) ?_
  refine lv_aload_n hx hb dL_law_501 rfl (lv_at hl 0 rfl) ?_
  refine lv_iload hx hb dL_law_502 (lv_at hl 4 rfl) ?_
  refine lv_iconst (v := 1) hx hb dL_law_504 (by decide) ?_
  refine lv_iadd hx hb dL_law_505 ?_
  refine va_sld hx hb hX hbl hbA hS (law_in hL ht (show (1 : Nat) ≤ 4 by omega)) dL_law_506 ?_
  refine lv_aload_n hx hb dL_law_507 rfl (lv_at hl 3 rfl) ?_
  obtain ⟨bb, M1, hm, hR1, hw⟩ := hst Z M hR (xs (Int32.toNatClampNeg (nI (5 * t) + 1)))
  rcases hw with ⟨hc, h0⟩ | ⟨j, cd, hc, hj, h0⟩
  · refine lg_class hLI (fun r h => hA0 r (Nat.le_trans hS.1 h)) (vx_runSX (As := [.ref (ad 0 0), .int (xs (Int32.toNatClampNeg (nI (5 * t) + 1))), .ref q]) (rest := []) ⟨hx, hb, hml, hown, hts⟩ (mL_isInTune l hfl D G (lA ad Z H) ad Z cJ q f (xs (Int32.toNatClampNeg (nI (5 * t) + 1))) bb  hc) (vx_cwSW 3 hts gL_law_L_isInTune rfl rfl rfl (by decide +kernel) ⟨Nat.le_of_ble_eq_true rfl, Nat.le_of_ble_eq_true rfl⟩) (lg_preS hLI (fun r h => hA0 r (Nat.le_trans hS.1 h)) hK hKJ hE hF hNc hS) rfl rfl hl.1 rfl (lv_room (Nat.le_of_ble_eq_true rfl)) dL_law_508 ⟨(Nat.le_trans (show 100 + 20 * t + 1 ≤ 600000 by omega) rm_c), (Nat.le_trans (show 2000 + 120 * t + 6 ≤ 7000000 by omega) rm_s)⟩) hS (fun H locs ad1 f1 hP h00 hLI hz hS => ?_)
    rw [← h00] at hl
    refine lv_istore (lv' := [(5, .int 0), (0, .ref b), (1, .ref (ad1 0 0)), (2, .ref (mad 0)), (3, .ref q), (4, .int (nI (5 * t)))]) hx hb dL_law_511 hl (by decide) rfl (fun ls hl => ?_)
    refine lv_aload_n hx hb dL_law_513 rfl (lv_at hl 3 rfl) ?_
    refine lv_aload_n hx hb dL_law_514 rfl (lv_at hl 1 rfl) ?_
    refine lv_iload hx hb dL_law_515 (lv_at hl 5 rfl) ?_
    refine lv_iconst (v := 1) hx hb dL_law_517 (by decide) ?_
    refine lv_iadd hx hb dL_law_518 ?_
    refine va_sld hx hb hX hbl hbA hS (law_in hL ht (show (1 : Nat) ≤ 4 by omega)) dL_law_519 ?_
    refine lg_modeli hLI (va_runV (As := [.int (xs (Int32.toNatClampNeg (nI (5 * t) + 1)))]) (rest := []) ⟨hx, hb, hml, hown, hts⟩ (mX7_isInTune l D mad kI kZ M (xs (Int32.toNatClampNeg (nI (5 * t) + 1))) bb M1 hm) (cwV 1 hts gL_law_X7_isInTune rfl rfl rfl (by decide +kernel) ⟨Nat.le_of_ble_eq_true rfl, Nat.le_of_ble_eq_true rfl⟩) (mg_preV hLI.2.2.1 hmK hLI.2.2.2.1) rfl rfl hl.1 rfl (lv_room (Nat.le_of_ble_eq_true rfl)) dL_law_520 ⟨(Nat.le_trans (show 100 + 20 * t + 1 + 0 ≤ 600000 by omega) rm_c), (Nat.le_trans (show 2000 + 120 * t + 6 + 0 ≤ 7000000 by omega) rm_s)⟩) hS (fun H locs hLI hz2 hS => ?_)
    refine lv_istore (lv' := [(6, .int bb), (5, .int 0), (0, .ref b), (1, .ref (ad1 0 0)), (2, .ref (mad 0)), (3, .ref q), (4, .int (nI (5 * t)))]) hx hb dL_law_523 hl (by decide) rfl (fun ls hl => ?_)
    refine lv_aload_n hx hb dL_law_525 rfl (lv_at hl 4 rfl) ?_
    refine lg_modeli hLI (va_runV (As := []) (rest := []) ⟨hx, hb, hml, hown, hts⟩ (mX7_thrown l D mad kI kZ M1 (M1 0 0) rfl) (cwV 0 hts gL_law_X7_thrown rfl rfl rfl (by decide +kernel) ⟨Nat.le_of_ble_eq_true rfl, Nat.le_of_ble_eq_true rfl⟩) (mg_preV hLI.2.2.1 hmK hLI.2.2.2.1) rfl rfl hl.1 rfl (lv_room (Nat.le_of_ble_eq_true rfl)) dL_law_526 ⟨(Nat.le_trans (show 100 + 20 * t + 1 + 0 ≤ 600000 by omega) rm_c), (Nat.le_trans (show 2000 + 120 * t + 6 + 0 ≤ 7000000 by omega) rm_s)⟩) hS (fun H locs hLI hz3 hS => ?_)
    refine lv_iload hx hb dL_law_529 (lv_at hl 1 rfl) ?_
    refine lv_icmp_eq (tgt := 536) hx hb dL_law_531 (by decide) (fun _ => ?_) (fun hc => absurd h0 hc)
    refine lv_iload hx hb dL_law_536 (lv_at hl 1 rfl) ?_
    refine lv_if_ne (tgt := 560) hx hb dL_law_538 (by decide) (fun hc => absurd rfl hc) (fun _ => ?_)
    refine lv_aload_n hx hb dL_law_541 rfl (lv_at hl 5 rfl) ?_
    refine lv_iconst (v := 0) hx hb dL_law_542 (by decide) ?_
    refine va_lald hx hb hKJ (iw_P1 hLI.2.2.2.2.1) 0 0 rfl rfl (show ¬ ((0 : Int32) < 0 ∨ 1 ≤ (0 : Int32).toNatClampNeg) from by decide) dL_law_543 ?_
    refine lv_iload hx hb dL_law_544 (lv_at hl 0 rfl) ?_
    refine lv_if_eq (tgt := 553) hx hb dL_law_546 (by decide) (fun hc => ?_) (fun hc => ?_)
    · rw [show f1 (0 : Int32).toNatClampNeg = 0 from hP.trans (if_pos hc)]
      refine lv_lconst (v := 0) hx hb dL_law_553 rfl ?_
      refine lg_lcmp hx hb dL_law_554 ?_
      refine lv_if_eq (tgt := 560) hx hb dL_law_555 (by decide) (fun _ => ?_) (fun hc => absurd rfl hc)
      refine lv_goto (tgt := 2028) hx hb dL_law_560 (by decide) ?_
      refine W.widen (k := 100 + 20 * (t + 1)) (n := 2000 + 120 * (t + 1)) (by omega) (by omega) ?_
      exact kk H locs ls ad1 Z M1 f1 h00 hLI hR1 hS (lv_sub hl [2, 3, 4, 5, 6] rfl)
    · rw [show f1 (0 : Int32).toNatClampNeg = 1 from hP.trans (if_neg hc)]
      refine lv_lconst (v := 1) hx hb dL_law_549 rfl ?_
      refine lv_goto (tgt := 554) hx hb dL_law_550 (by decide) ?_
      refine lg_lcmp hx hb dL_law_554 ?_
      refine lv_if_eq (tgt := 560) hx hb dL_law_555 (by decide) (fun _ => ?_) (fun hc => absurd rfl hc)
      refine lv_goto (tgt := 2028) hx hb dL_law_560 (by decide) ?_
      refine W.widen (k := 100 + 20 * (t + 1)) (n := 2000 + 120 * (t + 1)) (by omega) (by omega) ?_
      exact kk H locs ls ad1 Z M1 f1 h00 hLI hR1 hS (lv_sub hl [2, 3, 4, 5, 6] rfl)
  · match j, hj with
    | 0, hj =>
      cases hj
      refine lg_class hLI (fun r h => hA0 r (Nat.le_trans hS.1 h)) (vx_runSX (As := [.ref (ad 0 0), .int (xs (Int32.toNatClampNeg (nI (5 * t) + 1))), .ref q]) (rest := []) ⟨hx, hb, hml, hown, hts⟩ (mL_isInTune_x1 l hfl D G (lA ad Z H) ad Z cJ q f (xs (Int32.toNatClampNeg (nI (5 * t) + 1)))  hc) (vx_cwSW 3 hts gL_law_L_isInTune rfl rfl rfl (by decide +kernel) ⟨Nat.le_of_ble_eq_true rfl, Nat.le_of_ble_eq_true rfl⟩) (lg_preS hLI (fun r h => hA0 r (Nat.le_trans hS.1 h)) hK hKJ hE hF hNc hS) rfl rfl hl.1 rfl (lv_room (Nat.le_of_ble_eq_true rfl)) dL_law_508 ⟨(Nat.le_trans (show 100 + 20 * t + 1 ≤ 600000 by omega) rm_c), (Nat.le_trans (show 2000 + 120 * t + 6 ≤ 7000000 by omega) rm_s)⟩) hS (fun H locs ad1 f1 hP h00 hLI hz hS => ?_)
      rw [← h00] at hl
      refine lv_istore (lv' := [(5, .int 1), (0, .ref b), (1, .ref (ad1 0 0)), (2, .ref (mad 0)), (3, .ref q), (4, .int (nI (5 * t)))]) hx hb dL_law_511 hl (by decide) rfl (fun ls hl => ?_)
      refine lv_aload_n hx hb dL_law_513 rfl (lv_at hl 3 rfl) ?_
      refine lv_aload_n hx hb dL_law_514 rfl (lv_at hl 1 rfl) ?_
      refine lv_iload hx hb dL_law_515 (lv_at hl 5 rfl) ?_
      refine lv_iconst (v := 1) hx hb dL_law_517 (by decide) ?_
      refine lv_iadd hx hb dL_law_518 ?_
      refine va_sld hx hb hX hbl hbA hS (law_in hL ht (show (1 : Nat) ≤ 4 by omega)) dL_law_519 ?_
      refine lg_modeli hLI (va_runV (As := [.int (xs (Int32.toNatClampNeg (nI (5 * t) + 1)))]) (rest := []) ⟨hx, hb, hml, hown, hts⟩ (mX7_isInTune l D mad kI kZ M (xs (Int32.toNatClampNeg (nI (5 * t) + 1))) bb M1 hm) (cwV 1 hts gL_law_X7_isInTune rfl rfl rfl (by decide +kernel) ⟨Nat.le_of_ble_eq_true rfl, Nat.le_of_ble_eq_true rfl⟩) (mg_preV hLI.2.2.1 hmK hLI.2.2.2.1) rfl rfl hl.1 rfl (lv_room (Nat.le_of_ble_eq_true rfl)) dL_law_520 ⟨(Nat.le_trans (show 100 + 20 * t + 1 + 0 ≤ 600000 by omega) rm_c), (Nat.le_trans (show 2000 + 120 * t + 6 + 0 ≤ 7000000 by omega) rm_s)⟩) hS (fun H locs hLI hz2 hS => ?_)
      refine lv_istore (lv' := [(6, .int bb), (5, .int 1), (0, .ref b), (1, .ref (ad1 0 0)), (2, .ref (mad 0)), (3, .ref q), (4, .int (nI (5 * t)))]) hx hb dL_law_523 hl (by decide) rfl (fun ls hl => ?_)
      refine lv_aload_n hx hb dL_law_525 rfl (lv_at hl 4 rfl) ?_
      refine lg_modeli hLI (va_runV (As := []) (rest := []) ⟨hx, hb, hml, hown, hts⟩ (mX7_thrown l D mad kI kZ M1 (M1 0 0) rfl) (cwV 0 hts gL_law_X7_thrown rfl rfl rfl (by decide +kernel) ⟨Nat.le_of_ble_eq_true rfl, Nat.le_of_ble_eq_true rfl⟩) (mg_preV hLI.2.2.1 hmK hLI.2.2.2.1) rfl rfl hl.1 rfl (lv_room (Nat.le_of_ble_eq_true rfl)) dL_law_526 ⟨(Nat.le_trans (show 100 + 20 * t + 1 + 0 ≤ 600000 by omega) rm_c), (Nat.le_trans (show 2000 + 120 * t + 6 + 0 ≤ 7000000 by omega) rm_s)⟩) hS (fun H locs hLI hz3 hS => ?_)
      refine lv_iload hx hb dL_law_529 (lv_at hl 1 rfl) ?_
      refine lv_icmp_eq (tgt := 536) hx hb dL_law_531 (by decide) (fun _ => ?_) (fun hc => absurd h0 hc)
      refine lv_iload hx hb dL_law_536 (lv_at hl 1 rfl) ?_
      refine lv_if_ne (tgt := 560) hx hb dL_law_538 (by decide) (fun _ => ?_) (fun hc => absurd hc (by decide))
      refine lv_goto (tgt := 2028) hx hb dL_law_560 (by decide) ?_
      refine W.widen (k := 100 + 20 * (t + 1)) (n := 2000 + 120 * (t + 1)) (by omega) (by omega) ?_
      exact kk H locs ls ad1 Z M1 f1 h00 hLI hR1 hS (lv_sub hl [2, 3, 4, 5, 6] rfl)
    | j + 1, hj => cases hj
set_option maxHeartbeats 4000000 in
set_option maxRecDepth 100000 in
theorem law_plan (hx : p.tables.exec = Jvm.exec) (hb : c.code = cL_law) (hml : c.maxLocals = 7) (hown : s.vm.findClass RL = some m.cls) (hts : ∀ w ∈ wsL_law, w.before #[Value.ref b] s = true) (hX : va_X b L xs s s.heap) (hbl : b < s.heap.size) (hfl : l.stackTraces = false) (hK : cK D G s) (hmK : mK D kI kZ s) (hKJ : va_K D vwCl [(cJ, .long)] s) (hE : cE A0 s s.heap) (hF : cF G A0 s s.heap) (hNc : lNc s) (hbA : ¬ A0 b) (hA0 : ∀ r, s.heap.size ≤ r → A0 r) {R R1 : CZ → MT → Prop} (hst : st_plan R R1) {t : Nat} (hL : L ≤ 2560) (ht : 5 * t + 5 ≤ L) (hLI : lI D G ad Z mad kI kZ M cJ q f A0 H) (hR : R Z M) (hS : va_S A0 s.heap H locs) (hl : lv_has ls 7 [(0, .ref b), (1, .ref (ad 0 0)), (2, .ref (mad 0)), (3, .ref q), (4, .int (nI (5 * t)))])
    (kk : ∀ (H1 : Heap) (locs1 : List Loc) (ls1 : Array Slot) (ad1 : Nat → Nat → Nat) (Z1 : CZ) (M1 : MT) (f1 : Nat → Int64), ad1 0 0 = ad 0 0 → lI D G ad1 Z1 mad kI kZ M1 cJ q f1 A0 H1 → R1 Z1 M1 → va_S A0 s.heap H1 locs1 → lv_has ls1 7 [(0, .ref b), (1, .ref (ad1 0 0)), (2, .ref (mad 0)), (3, .ref q), (4, .int (nI (5 * t)))] → W p l e room_1 s m #[Value.ref b] below meth c H1 locs1 (100 + 20 * (t + 1)) (2000 + 120 * (t + 1)) Q (F0 m 2028 ls1 [])) : W p l e room_1 s m #[Value.ref b] below meth c H locs (100 + 20 * t) (2000 + 120 * t) Q (F0 m 563 ls []) := by
  have ht5 : t < 512 := by omega
  refine lv_aload_n hx hb dL_law_563 rfl (lv_at hl 1 rfl) ?_
  refine lv_aload_n hx hb dL_law_564 rfl (lv_at hl 0 rfl) ?_
  refine lv_iload hx hb dL_law_565 (lv_at hl 4 rfl) ?_
  refine lv_iconst (v := 1) hx hb dL_law_567 (by decide) ?_
  refine lv_iadd hx hb dL_law_568 ?_
  refine va_sld hx hb hX hbl hbA hS (law_in hL ht (show (1 : Nat) ≤ 4 by omega)) dL_law_569 ?_
  refine lv_aload_n hx hb dL_law_570 rfl (lv_at hl 0 rfl) ?_
  refine lv_iload hx hb dL_law_571 (lv_at hl 4 rfl) ?_
  refine lv_iconst (v := 2) hx hb dL_law_573 (by decide) ?_
  refine lv_iadd hx hb dL_law_574 ?_
  refine va_sld hx hb hX hbl hbA hS (law_in hL ht (show (2 : Nat) ≤ 4 by omega)) dL_law_575 ?_
  refine lv_aload_n hx hb dL_law_576 rfl (lv_at hl 3 rfl) ?_
  obtain ⟨bb, M1, Z1, hm, hR1, hw⟩ := hst Z M hR (xs (Int32.toNatClampNeg (nI (5 * t) + 1))) (xs (Int32.toNatClampNeg (nI (5 * t) + 2)))
  rcases hw with ⟨hc, h0⟩ | ⟨j, cd, hc, hj, h0⟩
  · refine lg_class hLI (fun r h => hA0 r (Nat.le_trans hS.1 h)) (vx_runSX (As := [.ref (ad 0 0), .int (xs (Int32.toNatClampNeg (nI (5 * t) + 1))), .int (xs (Int32.toNatClampNeg (nI (5 * t) + 2))), .ref q]) (rest := []) ⟨hx, hb, hml, hown, hts⟩ (mL_plan l hfl D G (lA ad Z H) ad Z cJ q f (xs (Int32.toNatClampNeg (nI (5 * t) + 1))) (xs (Int32.toNatClampNeg (nI (5 * t) + 2))) bb Z1 hc) (vx_cwSW 4 hts gL_law_L_plan rfl rfl rfl (by decide +kernel) ⟨Nat.le_of_ble_eq_true rfl, Nat.le_of_ble_eq_true rfl⟩) (lg_preS hLI (fun r h => hA0 r (Nat.le_trans hS.1 h)) hK hKJ hE hF hNc hS) rfl rfl hl.1 rfl (lv_room (Nat.le_of_ble_eq_true rfl)) dL_law_577 ⟨(Nat.le_trans (show 100 + 20 * t + 2 ≤ 600000 by omega) rm_c), (Nat.le_trans (show 2000 + 120 * t + 12 ≤ 7000000 by omega) rm_s)⟩) hS (fun H locs ad1 f1 hP h00 hLI hz hS => ?_)
    rw [← h00] at hl
    refine lv_istore (lv' := [(5, .int 0), (0, .ref b), (1, .ref (ad1 0 0)), (2, .ref (mad 0)), (3, .ref q), (4, .int (nI (5 * t)))]) hx hb dL_law_580 hl (by decide) rfl (fun ls hl => ?_)
    refine lv_aload_n hx hb dL_law_582 rfl (lv_at hl 3 rfl) ?_
    refine lv_aload_n hx hb dL_law_583 rfl (lv_at hl 1 rfl) ?_
    refine lv_iload hx hb dL_law_584 (lv_at hl 5 rfl) ?_
    refine lv_iconst (v := 1) hx hb dL_law_586 (by decide) ?_
    refine lv_iadd hx hb dL_law_587 ?_
    refine va_sld hx hb hX hbl hbA hS (law_in hL ht (show (1 : Nat) ≤ 4 by omega)) dL_law_588 ?_
    refine lv_aload_n hx hb dL_law_589 rfl (lv_at hl 1 rfl) ?_
    refine lv_iload hx hb dL_law_590 (lv_at hl 5 rfl) ?_
    refine lv_iconst (v := 2) hx hb dL_law_592 (by decide) ?_
    refine lv_iadd hx hb dL_law_593 ?_
    refine va_sld hx hb hX hbl hbA hS (law_in hL ht (show (2 : Nat) ≤ 4 by omega)) dL_law_594 ?_
    refine lg_modeli hLI (va_runV (As := [.int (xs (Int32.toNatClampNeg (nI (5 * t) + 1))), .int (xs (Int32.toNatClampNeg (nI (5 * t) + 2)))]) (rest := []) ⟨hx, hb, hml, hown, hts⟩ (mX7_plan l D mad kI kZ M (xs (Int32.toNatClampNeg (nI (5 * t) + 1))) (xs (Int32.toNatClampNeg (nI (5 * t) + 2))) bb M1 hm) (cwV 2 hts gL_law_X7_plan rfl rfl rfl (by decide +kernel) ⟨Nat.le_of_ble_eq_true rfl, Nat.le_of_ble_eq_true rfl⟩) (mg_preV hLI.2.2.1 hmK hLI.2.2.2.1) rfl rfl hl.1 rfl (lv_room (Nat.le_of_ble_eq_true rfl)) dL_law_595 ⟨(Nat.le_trans (show 100 + 20 * t + 2 + 0 ≤ 600000 by omega) rm_c), (Nat.le_trans (show 2000 + 120 * t + 12 + 0 ≤ 7000000 by omega) rm_s)⟩) hS (fun H locs hLI hz2 hS => ?_)
    refine lv_istore (lv' := [(6, .int bb), (5, .int 0), (0, .ref b), (1, .ref (ad1 0 0)), (2, .ref (mad 0)), (3, .ref q), (4, .int (nI (5 * t)))]) hx hb dL_law_598 hl (by decide) rfl (fun ls hl => ?_)
    refine lv_aload_n hx hb dL_law_600 rfl (lv_at hl 4 rfl) ?_
    refine lg_modeli hLI (va_runV (As := []) (rest := []) ⟨hx, hb, hml, hown, hts⟩ (mX7_thrown l D mad kI kZ M1 (M1 0 0) rfl) (cwV 0 hts gL_law_X7_thrown rfl rfl rfl (by decide +kernel) ⟨Nat.le_of_ble_eq_true rfl, Nat.le_of_ble_eq_true rfl⟩) (mg_preV hLI.2.2.1 hmK hLI.2.2.2.1) rfl rfl hl.1 rfl (lv_room (Nat.le_of_ble_eq_true rfl)) dL_law_601 ⟨(Nat.le_trans (show 100 + 20 * t + 2 + 0 ≤ 600000 by omega) rm_c), (Nat.le_trans (show 2000 + 120 * t + 12 + 0 ≤ 7000000 by omega) rm_s)⟩) hS (fun H locs hLI hz3 hS => ?_)
    refine lv_iload hx hb dL_law_604 (lv_at hl 1 rfl) ?_
    refine lv_icmp_eq (tgt := 611) hx hb dL_law_606 (by decide) (fun _ => ?_) (fun hc => absurd h0 hc)
    refine lv_iload hx hb dL_law_611 (lv_at hl 1 rfl) ?_
    refine lv_if_ne (tgt := 628) hx hb dL_law_613 (by decide) (fun hc => absurd rfl hc) (fun _ => ?_)
    refine lv_aload_n hx hb dL_law_616 rfl (lv_at hl 5 rfl) ?_
    refine lv_iconst (v := 0) hx hb dL_law_617 (by decide) ?_
    refine va_lald hx hb hKJ (iw_P1 hLI.2.2.2.2.1) 0 0 rfl rfl (show ¬ ((0 : Int32) < 0 ∨ 1 ≤ (0 : Int32).toNatClampNeg) from by decide) dL_law_618 ?_
    rw [show f1 (0 : Int32).toNatClampNeg = bb.toInt64 from hP]
    refine lv_iload hx hb dL_law_619 (lv_at hl 0 rfl) ?_
    refine lv_i2l hx hb (v := bb.toInt64) dL_law_621 rfl ?_
    refine lg_lcmp hx hb dL_law_622 ?_
    refine lv_if_eq (tgt := 628) hx hb dL_law_623 (by decide) (fun _ => ?_) (fun hc => absurd rfl hc)
    refine lv_goto (tgt := 2028) hx hb dL_law_628 (by decide) ?_
    refine W.widen (k := 100 + 20 * (t + 1)) (n := 2000 + 120 * (t + 1)) (by omega) (by omega) ?_
    exact kk H locs ls ad1 Z1 M1 f1 h00 hLI hR1 hS (lv_sub hl [2, 3, 4, 5, 6] rfl)
  · match j, hj with
    | 0, hj =>
      cases hj
      refine lg_class hLI (fun r h => hA0 r (Nat.le_trans hS.1 h)) (vx_runSX (As := [.ref (ad 0 0), .int (xs (Int32.toNatClampNeg (nI (5 * t) + 1))), .int (xs (Int32.toNatClampNeg (nI (5 * t) + 2))), .ref q]) (rest := []) ⟨hx, hb, hml, hown, hts⟩ (mL_plan_x1 l hfl D G (lA ad Z H) ad Z cJ q f (xs (Int32.toNatClampNeg (nI (5 * t) + 1))) (xs (Int32.toNatClampNeg (nI (5 * t) + 2))) Z1 hc) (vx_cwSW 4 hts gL_law_L_plan rfl rfl rfl (by decide +kernel) ⟨Nat.le_of_ble_eq_true rfl, Nat.le_of_ble_eq_true rfl⟩) (lg_preS hLI (fun r h => hA0 r (Nat.le_trans hS.1 h)) hK hKJ hE hF hNc hS) rfl rfl hl.1 rfl (lv_room (Nat.le_of_ble_eq_true rfl)) dL_law_577 ⟨(Nat.le_trans (show 100 + 20 * t + 2 ≤ 600000 by omega) rm_c), (Nat.le_trans (show 2000 + 120 * t + 12 ≤ 7000000 by omega) rm_s)⟩) hS (fun H locs ad1 f1 hP h00 hLI hz hS => ?_)
      rw [← h00] at hl
      refine lv_istore (lv' := [(5, .int 1), (0, .ref b), (1, .ref (ad1 0 0)), (2, .ref (mad 0)), (3, .ref q), (4, .int (nI (5 * t)))]) hx hb dL_law_580 hl (by decide) rfl (fun ls hl => ?_)
      refine lv_aload_n hx hb dL_law_582 rfl (lv_at hl 3 rfl) ?_
      refine lv_aload_n hx hb dL_law_583 rfl (lv_at hl 1 rfl) ?_
      refine lv_iload hx hb dL_law_584 (lv_at hl 5 rfl) ?_
      refine lv_iconst (v := 1) hx hb dL_law_586 (by decide) ?_
      refine lv_iadd hx hb dL_law_587 ?_
      refine va_sld hx hb hX hbl hbA hS (law_in hL ht (show (1 : Nat) ≤ 4 by omega)) dL_law_588 ?_
      refine lv_aload_n hx hb dL_law_589 rfl (lv_at hl 1 rfl) ?_
      refine lv_iload hx hb dL_law_590 (lv_at hl 5 rfl) ?_
      refine lv_iconst (v := 2) hx hb dL_law_592 (by decide) ?_
      refine lv_iadd hx hb dL_law_593 ?_
      refine va_sld hx hb hX hbl hbA hS (law_in hL ht (show (2 : Nat) ≤ 4 by omega)) dL_law_594 ?_
      refine lg_modeli hLI (va_runV (As := [.int (xs (Int32.toNatClampNeg (nI (5 * t) + 1))), .int (xs (Int32.toNatClampNeg (nI (5 * t) + 2)))]) (rest := []) ⟨hx, hb, hml, hown, hts⟩ (mX7_plan l D mad kI kZ M (xs (Int32.toNatClampNeg (nI (5 * t) + 1))) (xs (Int32.toNatClampNeg (nI (5 * t) + 2))) bb M1 hm) (cwV 2 hts gL_law_X7_plan rfl rfl rfl (by decide +kernel) ⟨Nat.le_of_ble_eq_true rfl, Nat.le_of_ble_eq_true rfl⟩) (mg_preV hLI.2.2.1 hmK hLI.2.2.2.1) rfl rfl hl.1 rfl (lv_room (Nat.le_of_ble_eq_true rfl)) dL_law_595 ⟨(Nat.le_trans (show 100 + 20 * t + 2 + 0 ≤ 600000 by omega) rm_c), (Nat.le_trans (show 2000 + 120 * t + 12 + 0 ≤ 7000000 by omega) rm_s)⟩) hS (fun H locs hLI hz2 hS => ?_)
      refine lv_istore (lv' := [(6, .int bb), (5, .int 1), (0, .ref b), (1, .ref (ad1 0 0)), (2, .ref (mad 0)), (3, .ref q), (4, .int (nI (5 * t)))]) hx hb dL_law_598 hl (by decide) rfl (fun ls hl => ?_)
      refine lv_aload_n hx hb dL_law_600 rfl (lv_at hl 4 rfl) ?_
      refine lg_modeli hLI (va_runV (As := []) (rest := []) ⟨hx, hb, hml, hown, hts⟩ (mX7_thrown l D mad kI kZ M1 (M1 0 0) rfl) (cwV 0 hts gL_law_X7_thrown rfl rfl rfl (by decide +kernel) ⟨Nat.le_of_ble_eq_true rfl, Nat.le_of_ble_eq_true rfl⟩) (mg_preV hLI.2.2.1 hmK hLI.2.2.2.1) rfl rfl hl.1 rfl (lv_room (Nat.le_of_ble_eq_true rfl)) dL_law_601 ⟨(Nat.le_trans (show 100 + 20 * t + 2 + 0 ≤ 600000 by omega) rm_c), (Nat.le_trans (show 2000 + 120 * t + 12 + 0 ≤ 7000000 by omega) rm_s)⟩) hS (fun H locs hLI hz3 hS => ?_)
      refine lv_iload hx hb dL_law_604 (lv_at hl 1 rfl) ?_
      refine lv_icmp_eq (tgt := 611) hx hb dL_law_606 (by decide) (fun _ => ?_) (fun hc => absurd h0 hc)
      refine lv_iload hx hb dL_law_611 (lv_at hl 1 rfl) ?_
      refine lv_if_ne (tgt := 628) hx hb dL_law_613 (by decide) (fun _ => ?_) (fun hc => absurd hc (by decide))
      refine lv_goto (tgt := 2028) hx hb dL_law_628 (by decide) ?_
      refine W.widen (k := 100 + 20 * (t + 1)) (n := 2000 + 120 * (t + 1)) (by omega) (by omega) ?_
      exact kk H locs ls ad1 Z1 M1 f1 h00 hLI hR1 hS (lv_sub hl [2, 3, 4, 5, 6] rfl)
    | 1, hj =>
      cases hj
      refine lg_class hLI (fun r h => hA0 r (Nat.le_trans hS.1 h)) (vx_runSX (As := [.ref (ad 0 0), .int (xs (Int32.toNatClampNeg (nI (5 * t) + 1))), .int (xs (Int32.toNatClampNeg (nI (5 * t) + 2))), .ref q]) (rest := []) ⟨hx, hb, hml, hown, hts⟩ (mL_plan_x2 l hfl D G (lA ad Z H) ad Z cJ q f (xs (Int32.toNatClampNeg (nI (5 * t) + 1))) (xs (Int32.toNatClampNeg (nI (5 * t) + 2))) Z1 hc) (vx_cwSW 4 hts gL_law_L_plan rfl rfl rfl (by decide +kernel) ⟨Nat.le_of_ble_eq_true rfl, Nat.le_of_ble_eq_true rfl⟩) (lg_preS hLI (fun r h => hA0 r (Nat.le_trans hS.1 h)) hK hKJ hE hF hNc hS) rfl rfl hl.1 rfl (lv_room (Nat.le_of_ble_eq_true rfl)) dL_law_577 ⟨(Nat.le_trans (show 100 + 20 * t + 2 ≤ 600000 by omega) rm_c), (Nat.le_trans (show 2000 + 120 * t + 12 ≤ 7000000 by omega) rm_s)⟩) hS (fun H locs ad1 f1 hP h00 hLI hz hS => ?_)
      rw [← h00] at hl
      refine lv_istore (lv' := [(5, .int 2), (0, .ref b), (1, .ref (ad1 0 0)), (2, .ref (mad 0)), (3, .ref q), (4, .int (nI (5 * t)))]) hx hb dL_law_580 hl (by decide) rfl (fun ls hl => ?_)
      refine lv_aload_n hx hb dL_law_582 rfl (lv_at hl 3 rfl) ?_
      refine lv_aload_n hx hb dL_law_583 rfl (lv_at hl 1 rfl) ?_
      refine lv_iload hx hb dL_law_584 (lv_at hl 5 rfl) ?_
      refine lv_iconst (v := 1) hx hb dL_law_586 (by decide) ?_
      refine lv_iadd hx hb dL_law_587 ?_
      refine va_sld hx hb hX hbl hbA hS (law_in hL ht (show (1 : Nat) ≤ 4 by omega)) dL_law_588 ?_
      refine lv_aload_n hx hb dL_law_589 rfl (lv_at hl 1 rfl) ?_
      refine lv_iload hx hb dL_law_590 (lv_at hl 5 rfl) ?_
      refine lv_iconst (v := 2) hx hb dL_law_592 (by decide) ?_
      refine lv_iadd hx hb dL_law_593 ?_
      refine va_sld hx hb hX hbl hbA hS (law_in hL ht (show (2 : Nat) ≤ 4 by omega)) dL_law_594 ?_
      refine lg_modeli hLI (va_runV (As := [.int (xs (Int32.toNatClampNeg (nI (5 * t) + 1))), .int (xs (Int32.toNatClampNeg (nI (5 * t) + 2)))]) (rest := []) ⟨hx, hb, hml, hown, hts⟩ (mX7_plan l D mad kI kZ M (xs (Int32.toNatClampNeg (nI (5 * t) + 1))) (xs (Int32.toNatClampNeg (nI (5 * t) + 2))) bb M1 hm) (cwV 2 hts gL_law_X7_plan rfl rfl rfl (by decide +kernel) ⟨Nat.le_of_ble_eq_true rfl, Nat.le_of_ble_eq_true rfl⟩) (mg_preV hLI.2.2.1 hmK hLI.2.2.2.1) rfl rfl hl.1 rfl (lv_room (Nat.le_of_ble_eq_true rfl)) dL_law_595 ⟨(Nat.le_trans (show 100 + 20 * t + 2 + 0 ≤ 600000 by omega) rm_c), (Nat.le_trans (show 2000 + 120 * t + 12 + 0 ≤ 7000000 by omega) rm_s)⟩) hS (fun H locs hLI hz2 hS => ?_)
      refine lv_istore (lv' := [(6, .int bb), (5, .int 2), (0, .ref b), (1, .ref (ad1 0 0)), (2, .ref (mad 0)), (3, .ref q), (4, .int (nI (5 * t)))]) hx hb dL_law_598 hl (by decide) rfl (fun ls hl => ?_)
      refine lv_aload_n hx hb dL_law_600 rfl (lv_at hl 4 rfl) ?_
      refine lg_modeli hLI (va_runV (As := []) (rest := []) ⟨hx, hb, hml, hown, hts⟩ (mX7_thrown l D mad kI kZ M1 (M1 0 0) rfl) (cwV 0 hts gL_law_X7_thrown rfl rfl rfl (by decide +kernel) ⟨Nat.le_of_ble_eq_true rfl, Nat.le_of_ble_eq_true rfl⟩) (mg_preV hLI.2.2.1 hmK hLI.2.2.2.1) rfl rfl hl.1 rfl (lv_room (Nat.le_of_ble_eq_true rfl)) dL_law_601 ⟨(Nat.le_trans (show 100 + 20 * t + 2 + 0 ≤ 600000 by omega) rm_c), (Nat.le_trans (show 2000 + 120 * t + 12 + 0 ≤ 7000000 by omega) rm_s)⟩) hS (fun H locs hLI hz3 hS => ?_)
      refine lv_iload hx hb dL_law_604 (lv_at hl 1 rfl) ?_
      refine lv_icmp_eq (tgt := 611) hx hb dL_law_606 (by decide) (fun _ => ?_) (fun hc => absurd h0 hc)
      refine lv_iload hx hb dL_law_611 (lv_at hl 1 rfl) ?_
      refine lv_if_ne (tgt := 628) hx hb dL_law_613 (by decide) (fun _ => ?_) (fun hc => absurd hc (by decide))
      refine lv_goto (tgt := 2028) hx hb dL_law_628 (by decide) ?_
      refine W.widen (k := 100 + 20 * (t + 1)) (n := 2000 + 120 * (t + 1)) (by omega) (by omega) ?_
      exact kk H locs ls ad1 Z1 M1 f1 h00 hLI hR1 hS (lv_sub hl [2, 3, 4, 5, 6] rfl)
    | j + 2, hj => cases hj
set_option maxHeartbeats 4000000 in
set_option maxRecDepth 100000 in
theorem law_player (hx : p.tables.exec = Jvm.exec) (hb : c.code = cL_law) (hml : c.maxLocals = 7) (hown : s.vm.findClass RL = some m.cls) (hts : ∀ w ∈ wsL_law, w.before #[Value.ref b] s = true) (hX : va_X b L xs s s.heap) (hbl : b < s.heap.size) (hfl : l.stackTraces = false) (hK : cK D G s) (hmK : mK D kI kZ s) (hKJ : va_K D vwCl [(cJ, .long)] s) (hE : cE A0 s s.heap) (hF : cF G A0 s s.heap) (hNc : lNc s) (hbA : ¬ A0 b) (hA0 : ∀ r, s.heap.size ≤ r → A0 r) {R R1 : CZ → MT → Prop} (hst : st_player R R1) {t : Nat} (hL : L ≤ 2560) (ht : 5 * t + 5 ≤ L) (hLI : lI D G ad Z mad kI kZ M cJ q f A0 H) (hR : R Z M) (hS : va_S A0 s.heap H locs) (hl : lv_has ls 7 [(0, .ref b), (1, .ref (ad 0 0)), (2, .ref (mad 0)), (3, .ref q), (4, .int (nI (5 * t)))])
    (kk : ∀ (H1 : Heap) (locs1 : List Loc) (ls1 : Array Slot) (ad1 : Nat → Nat → Nat) (Z1 : CZ) (M1 : MT) (f1 : Nat → Int64), ad1 0 0 = ad 0 0 → lI D G ad1 Z1 mad kI kZ M1 cJ q f1 A0 H1 → R1 Z1 M1 → va_S A0 s.heap H1 locs1 → lv_has ls1 7 [(0, .ref b), (1, .ref (ad1 0 0)), (2, .ref (mad 0)), (3, .ref q), (4, .int (nI (5 * t)))] → W p l e room_1 s m #[Value.ref b] below meth c H1 locs1 (100 + 20 * (t + 1)) (2000 + 120 * (t + 1)) Q (F0 m 2028 ls1 [])) : W p l e room_1 s m #[Value.ref b] below meth c H locs (100 + 20 * t) (2000 + 120 * t) Q (F0 m 631 ls []) := by
  have ht5 : t < 512 := by omega
  refine lv_aload_n hx hb dL_law_631 rfl (lv_at hl 1 rfl) ?_
  refine lv_aload_n hx hb dL_law_632 rfl (lv_at hl 0 rfl) ?_
  refine lv_iload hx hb dL_law_633 (lv_at hl 4 rfl) ?_
  refine lv_iconst (v := 1) hx hb dL_law_635 (by decide) ?_
  refine lv_iadd hx hb dL_law_636 ?_
  refine va_sld hx hb hX hbl hbA hS (law_in hL ht (show (1 : Nat) ≤ 4 by omega)) dL_law_637 ?_
  refine lv_aload_n hx hb dL_law_638 rfl (lv_at hl 3 rfl) ?_
  obtain ⟨bb, M1, Z1, hm, hR1, hw⟩ := hst Z M hR (xs (Int32.toNatClampNeg (nI (5 * t) + 1)))
  rcases hw with ⟨hc, h0⟩ | ⟨j, cd, hc, hj, h0⟩
  · refine lg_class hLI (fun r h => hA0 r (Nat.le_trans hS.1 h)) (vx_runSX (As := [.ref (ad 0 0), .int (xs (Int32.toNatClampNeg (nI (5 * t) + 1))), .ref q]) (rest := []) ⟨hx, hb, hml, hown, hts⟩ (mL_player l hfl D G (lA ad Z H) ad Z cJ q f (xs (Int32.toNatClampNeg (nI (5 * t) + 1))) bb Z1 hc) (vx_cwSW 3 hts gL_law_L_player rfl rfl rfl (by decide +kernel) ⟨Nat.le_of_ble_eq_true rfl, Nat.le_of_ble_eq_true rfl⟩) (lg_preS hLI (fun r h => hA0 r (Nat.le_trans hS.1 h)) hK hKJ hE hF hNc hS) rfl rfl hl.1 rfl (lv_room (Nat.le_of_ble_eq_true rfl)) dL_law_639 ⟨(Nat.le_trans (show 100 + 20 * t + 10 ≤ 600000 by omega) rm_c), (Nat.le_trans (show 2000 + 120 * t + 60 ≤ 7000000 by omega) rm_s)⟩) hS (fun H locs ad1 f1 hP h00 hLI hz hS => ?_)
    rw [← h00] at hl
    refine lv_istore (lv' := [(5, .int 0), (0, .ref b), (1, .ref (ad1 0 0)), (2, .ref (mad 0)), (3, .ref q), (4, .int (nI (5 * t)))]) hx hb dL_law_642 hl (by decide) rfl (fun ls hl => ?_)
    refine lv_aload_n hx hb dL_law_644 rfl (lv_at hl 3 rfl) ?_
    refine lv_aload_n hx hb dL_law_645 rfl (lv_at hl 1 rfl) ?_
    refine lv_iload hx hb dL_law_646 (lv_at hl 5 rfl) ?_
    refine lv_iconst (v := 1) hx hb dL_law_648 (by decide) ?_
    refine lv_iadd hx hb dL_law_649 ?_
    refine va_sld hx hb hX hbl hbA hS (law_in hL ht (show (1 : Nat) ≤ 4 by omega)) dL_law_650 ?_
    refine lg_modeli hLI (va_runV (As := [.int (xs (Int32.toNatClampNeg (nI (5 * t) + 1)))]) (rest := []) ⟨hx, hb, hml, hown, hts⟩ (mX7_player l D mad kI kZ M (xs (Int32.toNatClampNeg (nI (5 * t) + 1))) bb M1 hm) (cwV 1 hts gL_law_X7_player rfl rfl rfl (by decide +kernel) ⟨Nat.le_of_ble_eq_true rfl, Nat.le_of_ble_eq_true rfl⟩) (mg_preV hLI.2.2.1 hmK hLI.2.2.2.1) rfl rfl hl.1 rfl (lv_room (Nat.le_of_ble_eq_true rfl)) dL_law_651 ⟨(Nat.le_trans (show 100 + 20 * t + 10 + 0 ≤ 600000 by omega) rm_c), (Nat.le_trans (show 2000 + 120 * t + 60 + 0 ≤ 7000000 by omega) rm_s)⟩) hS (fun H locs hLI hz2 hS => ?_)
    refine lv_istore (lv' := [(6, .int bb), (5, .int 0), (0, .ref b), (1, .ref (ad1 0 0)), (2, .ref (mad 0)), (3, .ref q), (4, .int (nI (5 * t)))]) hx hb dL_law_654 hl (by decide) rfl (fun ls hl => ?_)
    refine lv_aload_n hx hb dL_law_656 rfl (lv_at hl 4 rfl) ?_
    refine lg_modeli hLI (va_runV (As := []) (rest := []) ⟨hx, hb, hml, hown, hts⟩ (mX7_thrown l D mad kI kZ M1 (M1 0 0) rfl) (cwV 0 hts gL_law_X7_thrown rfl rfl rfl (by decide +kernel) ⟨Nat.le_of_ble_eq_true rfl, Nat.le_of_ble_eq_true rfl⟩) (mg_preV hLI.2.2.1 hmK hLI.2.2.2.1) rfl rfl hl.1 rfl (lv_room (Nat.le_of_ble_eq_true rfl)) dL_law_657 ⟨(Nat.le_trans (show 100 + 20 * t + 10 + 0 ≤ 600000 by omega) rm_c), (Nat.le_trans (show 2000 + 120 * t + 60 + 0 ≤ 7000000 by omega) rm_s)⟩) hS (fun H locs hLI hz3 hS => ?_)
    refine lv_iload hx hb dL_law_660 (lv_at hl 1 rfl) ?_
    refine lv_icmp_eq (tgt := 667) hx hb dL_law_662 (by decide) (fun _ => ?_) (fun hc => absurd h0 hc)
    refine lv_iload hx hb dL_law_667 (lv_at hl 1 rfl) ?_
    refine lv_if_ne (tgt := 684) hx hb dL_law_669 (by decide) (fun hc => absurd rfl hc) (fun _ => ?_)
    refine lv_aload_n hx hb dL_law_672 rfl (lv_at hl 5 rfl) ?_
    refine lv_iconst (v := 0) hx hb dL_law_673 (by decide) ?_
    refine va_lald hx hb hKJ (iw_P1 hLI.2.2.2.2.1) 0 0 rfl rfl (show ¬ ((0 : Int32) < 0 ∨ 1 ≤ (0 : Int32).toNatClampNeg) from by decide) dL_law_674 ?_
    rw [show f1 (0 : Int32).toNatClampNeg = bb.toInt64 from hP]
    refine lv_iload hx hb dL_law_675 (lv_at hl 0 rfl) ?_
    refine lv_i2l hx hb (v := bb.toInt64) dL_law_677 rfl ?_
    refine lg_lcmp hx hb dL_law_678 ?_
    refine lv_if_eq (tgt := 684) hx hb dL_law_679 (by decide) (fun _ => ?_) (fun hc => absurd rfl hc)
    refine lv_goto (tgt := 2028) hx hb dL_law_684 (by decide) ?_
    refine W.widen (k := 100 + 20 * (t + 1)) (n := 2000 + 120 * (t + 1)) (by omega) (by omega) ?_
    exact kk H locs ls ad1 Z1 M1 f1 h00 hLI hR1 hS (lv_sub hl [2, 3, 4, 5, 6] rfl)
  · match j, hj with
    | 0, hj =>
      cases hj
      refine lg_class hLI (fun r h => hA0 r (Nat.le_trans hS.1 h)) (vx_runSX (As := [.ref (ad 0 0), .int (xs (Int32.toNatClampNeg (nI (5 * t) + 1))), .ref q]) (rest := []) ⟨hx, hb, hml, hown, hts⟩ (mL_player_x1 l hfl D G (lA ad Z H) ad Z cJ q f (xs (Int32.toNatClampNeg (nI (5 * t) + 1))) Z1 hc) (vx_cwSW 3 hts gL_law_L_player rfl rfl rfl (by decide +kernel) ⟨Nat.le_of_ble_eq_true rfl, Nat.le_of_ble_eq_true rfl⟩) (lg_preS hLI (fun r h => hA0 r (Nat.le_trans hS.1 h)) hK hKJ hE hF hNc hS) rfl rfl hl.1 rfl (lv_room (Nat.le_of_ble_eq_true rfl)) dL_law_639 ⟨(Nat.le_trans (show 100 + 20 * t + 10 ≤ 600000 by omega) rm_c), (Nat.le_trans (show 2000 + 120 * t + 60 ≤ 7000000 by omega) rm_s)⟩) hS (fun H locs ad1 f1 hP h00 hLI hz hS => ?_)
      rw [← h00] at hl
      refine lv_istore (lv' := [(5, .int 1), (0, .ref b), (1, .ref (ad1 0 0)), (2, .ref (mad 0)), (3, .ref q), (4, .int (nI (5 * t)))]) hx hb dL_law_642 hl (by decide) rfl (fun ls hl => ?_)
      refine lv_aload_n hx hb dL_law_644 rfl (lv_at hl 3 rfl) ?_
      refine lv_aload_n hx hb dL_law_645 rfl (lv_at hl 1 rfl) ?_
      refine lv_iload hx hb dL_law_646 (lv_at hl 5 rfl) ?_
      refine lv_iconst (v := 1) hx hb dL_law_648 (by decide) ?_
      refine lv_iadd hx hb dL_law_649 ?_
      refine va_sld hx hb hX hbl hbA hS (law_in hL ht (show (1 : Nat) ≤ 4 by omega)) dL_law_650 ?_
      refine lg_modeli hLI (va_runV (As := [.int (xs (Int32.toNatClampNeg (nI (5 * t) + 1)))]) (rest := []) ⟨hx, hb, hml, hown, hts⟩ (mX7_player l D mad kI kZ M (xs (Int32.toNatClampNeg (nI (5 * t) + 1))) bb M1 hm) (cwV 1 hts gL_law_X7_player rfl rfl rfl (by decide +kernel) ⟨Nat.le_of_ble_eq_true rfl, Nat.le_of_ble_eq_true rfl⟩) (mg_preV hLI.2.2.1 hmK hLI.2.2.2.1) rfl rfl hl.1 rfl (lv_room (Nat.le_of_ble_eq_true rfl)) dL_law_651 ⟨(Nat.le_trans (show 100 + 20 * t + 10 + 0 ≤ 600000 by omega) rm_c), (Nat.le_trans (show 2000 + 120 * t + 60 + 0 ≤ 7000000 by omega) rm_s)⟩) hS (fun H locs hLI hz2 hS => ?_)
      refine lv_istore (lv' := [(6, .int bb), (5, .int 1), (0, .ref b), (1, .ref (ad1 0 0)), (2, .ref (mad 0)), (3, .ref q), (4, .int (nI (5 * t)))]) hx hb dL_law_654 hl (by decide) rfl (fun ls hl => ?_)
      refine lv_aload_n hx hb dL_law_656 rfl (lv_at hl 4 rfl) ?_
      refine lg_modeli hLI (va_runV (As := []) (rest := []) ⟨hx, hb, hml, hown, hts⟩ (mX7_thrown l D mad kI kZ M1 (M1 0 0) rfl) (cwV 0 hts gL_law_X7_thrown rfl rfl rfl (by decide +kernel) ⟨Nat.le_of_ble_eq_true rfl, Nat.le_of_ble_eq_true rfl⟩) (mg_preV hLI.2.2.1 hmK hLI.2.2.2.1) rfl rfl hl.1 rfl (lv_room (Nat.le_of_ble_eq_true rfl)) dL_law_657 ⟨(Nat.le_trans (show 100 + 20 * t + 10 + 0 ≤ 600000 by omega) rm_c), (Nat.le_trans (show 2000 + 120 * t + 60 + 0 ≤ 7000000 by omega) rm_s)⟩) hS (fun H locs hLI hz3 hS => ?_)
      refine lv_iload hx hb dL_law_660 (lv_at hl 1 rfl) ?_
      refine lv_icmp_eq (tgt := 667) hx hb dL_law_662 (by decide) (fun _ => ?_) (fun hc => absurd h0 hc)
      refine lv_iload hx hb dL_law_667 (lv_at hl 1 rfl) ?_
      refine lv_if_ne (tgt := 684) hx hb dL_law_669 (by decide) (fun _ => ?_) (fun hc => absurd hc (by decide))
      refine lv_goto (tgt := 2028) hx hb dL_law_684 (by decide) ?_
      refine W.widen (k := 100 + 20 * (t + 1)) (n := 2000 + 120 * (t + 1)) (by omega) (by omega) ?_
      exact kk H locs ls ad1 Z1 M1 f1 h00 hLI hR1 hS (lv_sub hl [2, 3, 4, 5, 6] rfl)
    | 1, hj =>
      cases hj
      refine lg_class hLI (fun r h => hA0 r (Nat.le_trans hS.1 h)) (vx_runSX (As := [.ref (ad 0 0), .int (xs (Int32.toNatClampNeg (nI (5 * t) + 1))), .ref q]) (rest := []) ⟨hx, hb, hml, hown, hts⟩ (mL_player_x2 l hfl D G (lA ad Z H) ad Z cJ q f (xs (Int32.toNatClampNeg (nI (5 * t) + 1))) Z1 hc) (vx_cwSW 3 hts gL_law_L_player rfl rfl rfl (by decide +kernel) ⟨Nat.le_of_ble_eq_true rfl, Nat.le_of_ble_eq_true rfl⟩) (lg_preS hLI (fun r h => hA0 r (Nat.le_trans hS.1 h)) hK hKJ hE hF hNc hS) rfl rfl hl.1 rfl (lv_room (Nat.le_of_ble_eq_true rfl)) dL_law_639 ⟨(Nat.le_trans (show 100 + 20 * t + 10 ≤ 600000 by omega) rm_c), (Nat.le_trans (show 2000 + 120 * t + 60 ≤ 7000000 by omega) rm_s)⟩) hS (fun H locs ad1 f1 hP h00 hLI hz hS => ?_)
      rw [← h00] at hl
      refine lv_istore (lv' := [(5, .int 2), (0, .ref b), (1, .ref (ad1 0 0)), (2, .ref (mad 0)), (3, .ref q), (4, .int (nI (5 * t)))]) hx hb dL_law_642 hl (by decide) rfl (fun ls hl => ?_)
      refine lv_aload_n hx hb dL_law_644 rfl (lv_at hl 3 rfl) ?_
      refine lv_aload_n hx hb dL_law_645 rfl (lv_at hl 1 rfl) ?_
      refine lv_iload hx hb dL_law_646 (lv_at hl 5 rfl) ?_
      refine lv_iconst (v := 1) hx hb dL_law_648 (by decide) ?_
      refine lv_iadd hx hb dL_law_649 ?_
      refine va_sld hx hb hX hbl hbA hS (law_in hL ht (show (1 : Nat) ≤ 4 by omega)) dL_law_650 ?_
      refine lg_modeli hLI (va_runV (As := [.int (xs (Int32.toNatClampNeg (nI (5 * t) + 1)))]) (rest := []) ⟨hx, hb, hml, hown, hts⟩ (mX7_player l D mad kI kZ M (xs (Int32.toNatClampNeg (nI (5 * t) + 1))) bb M1 hm) (cwV 1 hts gL_law_X7_player rfl rfl rfl (by decide +kernel) ⟨Nat.le_of_ble_eq_true rfl, Nat.le_of_ble_eq_true rfl⟩) (mg_preV hLI.2.2.1 hmK hLI.2.2.2.1) rfl rfl hl.1 rfl (lv_room (Nat.le_of_ble_eq_true rfl)) dL_law_651 ⟨(Nat.le_trans (show 100 + 20 * t + 10 + 0 ≤ 600000 by omega) rm_c), (Nat.le_trans (show 2000 + 120 * t + 60 + 0 ≤ 7000000 by omega) rm_s)⟩) hS (fun H locs hLI hz2 hS => ?_)
      refine lv_istore (lv' := [(6, .int bb), (5, .int 2), (0, .ref b), (1, .ref (ad1 0 0)), (2, .ref (mad 0)), (3, .ref q), (4, .int (nI (5 * t)))]) hx hb dL_law_654 hl (by decide) rfl (fun ls hl => ?_)
      refine lv_aload_n hx hb dL_law_656 rfl (lv_at hl 4 rfl) ?_
      refine lg_modeli hLI (va_runV (As := []) (rest := []) ⟨hx, hb, hml, hown, hts⟩ (mX7_thrown l D mad kI kZ M1 (M1 0 0) rfl) (cwV 0 hts gL_law_X7_thrown rfl rfl rfl (by decide +kernel) ⟨Nat.le_of_ble_eq_true rfl, Nat.le_of_ble_eq_true rfl⟩) (mg_preV hLI.2.2.1 hmK hLI.2.2.2.1) rfl rfl hl.1 rfl (lv_room (Nat.le_of_ble_eq_true rfl)) dL_law_657 ⟨(Nat.le_trans (show 100 + 20 * t + 10 + 0 ≤ 600000 by omega) rm_c), (Nat.le_trans (show 2000 + 120 * t + 60 + 0 ≤ 7000000 by omega) rm_s)⟩) hS (fun H locs hLI hz3 hS => ?_)
      refine lv_iload hx hb dL_law_660 (lv_at hl 1 rfl) ?_
      refine lv_icmp_eq (tgt := 667) hx hb dL_law_662 (by decide) (fun _ => ?_) (fun hc => absurd h0 hc)
      refine lv_iload hx hb dL_law_667 (lv_at hl 1 rfl) ?_
      refine lv_if_ne (tgt := 684) hx hb dL_law_669 (by decide) (fun _ => ?_) (fun hc => absurd hc (by decide))
      refine lv_goto (tgt := 2028) hx hb dL_law_684 (by decide) ?_
      refine W.widen (k := 100 + 20 * (t + 1)) (n := 2000 + 120 * (t + 1)) (by omega) (by omega) ?_
      exact kk H locs ls ad1 Z1 M1 f1 h00 hLI hR1 hS (lv_sub hl [2, 3, 4, 5, 6] rfl)
    | j + 2, hj => cases hj
set_option maxHeartbeats 4000000 in
set_option maxRecDepth 100000 in
theorem law_join (hx : p.tables.exec = Jvm.exec) (hb : c.code = cL_law) (hml : c.maxLocals = 7) (hown : s.vm.findClass RL = some m.cls) (hts : ∀ w ∈ wsL_law, w.before #[Value.ref b] s = true) (hX : va_X b L xs s s.heap) (hbl : b < s.heap.size) (hfl : l.stackTraces = false) (hK : cK D G s) (hmK : mK D kI kZ s) (hKJ : va_K D vwCl [(cJ, .long)] s) (hE : cE A0 s s.heap) (hF : cF G A0 s s.heap) (hNc : lNc s) (hbA : ¬ A0 b) (hA0 : ∀ r, s.heap.size ≤ r → A0 r) {R R1 : CZ → MT → Prop} (hst : st_join R R1) {t : Nat} (hL : L ≤ 2560) (ht : 5 * t + 5 ≤ L) (hLI : lI D G ad Z mad kI kZ M cJ q f A0 H) (hR : R Z M) (hS : va_S A0 s.heap H locs) (hl : lv_has ls 7 [(0, .ref b), (1, .ref (ad 0 0)), (2, .ref (mad 0)), (3, .ref q), (4, .int (nI (5 * t)))])
    (kk : ∀ (H1 : Heap) (locs1 : List Loc) (ls1 : Array Slot) (ad1 : Nat → Nat → Nat) (Z1 : CZ) (M1 : MT) (f1 : Nat → Int64), ad1 0 0 = ad 0 0 → lI D G ad1 Z1 mad kI kZ M1 cJ q f1 A0 H1 → R1 Z1 M1 → va_S A0 s.heap H1 locs1 → lv_has ls1 7 [(0, .ref b), (1, .ref (ad1 0 0)), (2, .ref (mad 0)), (3, .ref q), (4, .int (nI (5 * t)))] → W p l e room_1 s m #[Value.ref b] below meth c H1 locs1 (100 + 20 * (t + 1)) (2000 + 120 * (t + 1)) Q (F0 m 2028 ls1 [])) : W p l e room_1 s m #[Value.ref b] below meth c H locs (100 + 20 * t) (2000 + 120 * t) Q (F0 m 687 ls []) := by
  have ht5 : t < 512 := by omega
  refine lv_aload_n hx hb dL_law_687 rfl (lv_at hl 1 rfl) ?_
  refine lv_aload_n hx hb dL_law_688 rfl (lv_at hl 0 rfl) ?_
  refine lv_iload hx hb dL_law_689 (lv_at hl 4 rfl) ?_
  refine lv_iconst (v := 1) hx hb dL_law_691 (by decide) ?_
  refine lv_iadd hx hb dL_law_692 ?_
  refine va_sld hx hb hX hbl hbA hS (law_in hL ht (show (1 : Nat) ≤ 4 by omega)) dL_law_693 ?_
  refine lv_aload_n hx hb dL_law_694 rfl (lv_at hl 0 rfl) ?_
  refine lv_iload hx hb dL_law_695 (lv_at hl 4 rfl) ?_
  refine lv_iconst (v := 2) hx hb dL_law_697 (by decide) ?_
  refine lv_iadd hx hb dL_law_698 ?_
  refine va_sld hx hb hX hbl hbA hS (law_in hL ht (show (2 : Nat) ≤ 4 by omega)) dL_law_699 ?_
  refine lv_aload_n hx hb dL_law_700 rfl (lv_at hl 3 rfl) ?_
  obtain ⟨bb, M1, Z1, hm, hR1, hw⟩ := hst Z M hR (xs (Int32.toNatClampNeg (nI (5 * t) + 1))) (xs (Int32.toNatClampNeg (nI (5 * t) + 2)))
  rcases hw with ⟨hc, h0⟩ | ⟨j, cd, hc, hj, h0⟩
  · refine lg_class hLI (fun r h => hA0 r (Nat.le_trans hS.1 h)) (vx_runSX (As := [.ref (ad 0 0), .int (xs (Int32.toNatClampNeg (nI (5 * t) + 1))), .int (xs (Int32.toNatClampNeg (nI (5 * t) + 2))), .ref q]) (rest := []) ⟨hx, hb, hml, hown, hts⟩ (mL_join l hfl D G (lA ad Z H) ad Z cJ q f (xs (Int32.toNatClampNeg (nI (5 * t) + 1))) (xs (Int32.toNatClampNeg (nI (5 * t) + 2))) bb Z1 hc) (vx_cwSW 4 hts gL_law_L_join rfl rfl rfl (by decide +kernel) ⟨Nat.le_of_ble_eq_true rfl, Nat.le_of_ble_eq_true rfl⟩) (lg_preS hLI (fun r h => hA0 r (Nat.le_trans hS.1 h)) hK hKJ hE hF hNc hS) rfl rfl hl.1 rfl (lv_room (Nat.le_of_ble_eq_true rfl)) dL_law_701 ⟨(Nat.le_trans (show 100 + 20 * t + 14 ≤ 600000 by omega) rm_c), (Nat.le_trans (show 2000 + 120 * t + 84 ≤ 7000000 by omega) rm_s)⟩) hS (fun H locs ad1 f1 hP h00 hLI hz hS => ?_)
    rw [← h00] at hl
    refine lv_istore (lv' := [(5, .int 0), (0, .ref b), (1, .ref (ad1 0 0)), (2, .ref (mad 0)), (3, .ref q), (4, .int (nI (5 * t)))]) hx hb dL_law_704 hl (by decide) rfl (fun ls hl => ?_)
    refine lv_aload_n hx hb dL_law_706 rfl (lv_at hl 3 rfl) ?_
    refine lv_aload_n hx hb dL_law_707 rfl (lv_at hl 1 rfl) ?_
    refine lv_iload hx hb dL_law_708 (lv_at hl 5 rfl) ?_
    refine lv_iconst (v := 1) hx hb dL_law_710 (by decide) ?_
    refine lv_iadd hx hb dL_law_711 ?_
    refine va_sld hx hb hX hbl hbA hS (law_in hL ht (show (1 : Nat) ≤ 4 by omega)) dL_law_712 ?_
    refine lv_aload_n hx hb dL_law_713 rfl (lv_at hl 1 rfl) ?_
    refine lv_iload hx hb dL_law_714 (lv_at hl 5 rfl) ?_
    refine lv_iconst (v := 2) hx hb dL_law_716 (by decide) ?_
    refine lv_iadd hx hb dL_law_717 ?_
    refine va_sld hx hb hX hbl hbA hS (law_in hL ht (show (2 : Nat) ≤ 4 by omega)) dL_law_718 ?_
    refine lg_modeli hLI (va_runV (As := [.int (xs (Int32.toNatClampNeg (nI (5 * t) + 1))), .int (xs (Int32.toNatClampNeg (nI (5 * t) + 2)))]) (rest := []) ⟨hx, hb, hml, hown, hts⟩ (mX7_join l D mad kI kZ M (xs (Int32.toNatClampNeg (nI (5 * t) + 1))) (xs (Int32.toNatClampNeg (nI (5 * t) + 2))) bb M1 hm) (cwV 2 hts gL_law_X7_join rfl rfl rfl (by decide +kernel) ⟨Nat.le_of_ble_eq_true rfl, Nat.le_of_ble_eq_true rfl⟩) (mg_preV hLI.2.2.1 hmK hLI.2.2.2.1) rfl rfl hl.1 rfl (lv_room (Nat.le_of_ble_eq_true rfl)) dL_law_719 ⟨(Nat.le_trans (show 100 + 20 * t + 14 + 0 ≤ 600000 by omega) rm_c), (Nat.le_trans (show 2000 + 120 * t + 84 + 0 ≤ 7000000 by omega) rm_s)⟩) hS (fun H locs hLI hz2 hS => ?_)
    refine lv_istore (lv' := [(6, .int bb), (5, .int 0), (0, .ref b), (1, .ref (ad1 0 0)), (2, .ref (mad 0)), (3, .ref q), (4, .int (nI (5 * t)))]) hx hb dL_law_722 hl (by decide) rfl (fun ls hl => ?_)
    refine lv_aload_n hx hb dL_law_724 rfl (lv_at hl 4 rfl) ?_
    refine lg_modeli hLI (va_runV (As := []) (rest := []) ⟨hx, hb, hml, hown, hts⟩ (mX7_thrown l D mad kI kZ M1 (M1 0 0) rfl) (cwV 0 hts gL_law_X7_thrown rfl rfl rfl (by decide +kernel) ⟨Nat.le_of_ble_eq_true rfl, Nat.le_of_ble_eq_true rfl⟩) (mg_preV hLI.2.2.1 hmK hLI.2.2.2.1) rfl rfl hl.1 rfl (lv_room (Nat.le_of_ble_eq_true rfl)) dL_law_725 ⟨(Nat.le_trans (show 100 + 20 * t + 14 + 0 ≤ 600000 by omega) rm_c), (Nat.le_trans (show 2000 + 120 * t + 84 + 0 ≤ 7000000 by omega) rm_s)⟩) hS (fun H locs hLI hz3 hS => ?_)
    refine lv_iload hx hb dL_law_728 (lv_at hl 1 rfl) ?_
    refine lv_icmp_eq (tgt := 735) hx hb dL_law_730 (by decide) (fun _ => ?_) (fun hc => absurd h0 hc)
    refine lv_iload hx hb dL_law_735 (lv_at hl 1 rfl) ?_
    refine lv_if_ne (tgt := 752) hx hb dL_law_737 (by decide) (fun hc => absurd rfl hc) (fun _ => ?_)
    refine lv_aload_n hx hb dL_law_740 rfl (lv_at hl 5 rfl) ?_
    refine lv_iconst (v := 0) hx hb dL_law_741 (by decide) ?_
    refine va_lald hx hb hKJ (iw_P1 hLI.2.2.2.2.1) 0 0 rfl rfl (show ¬ ((0 : Int32) < 0 ∨ 1 ≤ (0 : Int32).toNatClampNeg) from by decide) dL_law_742 ?_
    rw [show f1 (0 : Int32).toNatClampNeg = bb.toInt64 from hP]
    refine lv_iload hx hb dL_law_743 (lv_at hl 0 rfl) ?_
    refine lv_i2l hx hb (v := bb.toInt64) dL_law_745 rfl ?_
    refine lg_lcmp hx hb dL_law_746 ?_
    refine lv_if_eq (tgt := 752) hx hb dL_law_747 (by decide) (fun _ => ?_) (fun hc => absurd rfl hc)
    refine lv_goto (tgt := 2028) hx hb dL_law_752 (by decide) ?_
    refine W.widen (k := 100 + 20 * (t + 1)) (n := 2000 + 120 * (t + 1)) (by omega) (by omega) ?_
    exact kk H locs ls ad1 Z1 M1 f1 h00 hLI hR1 hS (lv_sub hl [2, 3, 4, 5, 6] rfl)
  · match j, hj with
    | 0, hj =>
      cases hj
      refine lg_class hLI (fun r h => hA0 r (Nat.le_trans hS.1 h)) (vx_runSX (As := [.ref (ad 0 0), .int (xs (Int32.toNatClampNeg (nI (5 * t) + 1))), .int (xs (Int32.toNatClampNeg (nI (5 * t) + 2))), .ref q]) (rest := []) ⟨hx, hb, hml, hown, hts⟩ (mL_join_x1 l hfl D G (lA ad Z H) ad Z cJ q f (xs (Int32.toNatClampNeg (nI (5 * t) + 1))) (xs (Int32.toNatClampNeg (nI (5 * t) + 2))) Z1 hc) (vx_cwSW 4 hts gL_law_L_join rfl rfl rfl (by decide +kernel) ⟨Nat.le_of_ble_eq_true rfl, Nat.le_of_ble_eq_true rfl⟩) (lg_preS hLI (fun r h => hA0 r (Nat.le_trans hS.1 h)) hK hKJ hE hF hNc hS) rfl rfl hl.1 rfl (lv_room (Nat.le_of_ble_eq_true rfl)) dL_law_701 ⟨(Nat.le_trans (show 100 + 20 * t + 14 ≤ 600000 by omega) rm_c), (Nat.le_trans (show 2000 + 120 * t + 84 ≤ 7000000 by omega) rm_s)⟩) hS (fun H locs ad1 f1 hP h00 hLI hz hS => ?_)
      rw [← h00] at hl
      refine lv_istore (lv' := [(5, .int 1), (0, .ref b), (1, .ref (ad1 0 0)), (2, .ref (mad 0)), (3, .ref q), (4, .int (nI (5 * t)))]) hx hb dL_law_704 hl (by decide) rfl (fun ls hl => ?_)
      refine lv_aload_n hx hb dL_law_706 rfl (lv_at hl 3 rfl) ?_
      refine lv_aload_n hx hb dL_law_707 rfl (lv_at hl 1 rfl) ?_
      refine lv_iload hx hb dL_law_708 (lv_at hl 5 rfl) ?_
      refine lv_iconst (v := 1) hx hb dL_law_710 (by decide) ?_
      refine lv_iadd hx hb dL_law_711 ?_
      refine va_sld hx hb hX hbl hbA hS (law_in hL ht (show (1 : Nat) ≤ 4 by omega)) dL_law_712 ?_
      refine lv_aload_n hx hb dL_law_713 rfl (lv_at hl 1 rfl) ?_
      refine lv_iload hx hb dL_law_714 (lv_at hl 5 rfl) ?_
      refine lv_iconst (v := 2) hx hb dL_law_716 (by decide) ?_
      refine lv_iadd hx hb dL_law_717 ?_
      refine va_sld hx hb hX hbl hbA hS (law_in hL ht (show (2 : Nat) ≤ 4 by omega)) dL_law_718 ?_
      refine lg_modeli hLI (va_runV (As := [.int (xs (Int32.toNatClampNeg (nI (5 * t) + 1))), .int (xs (Int32.toNatClampNeg (nI (5 * t) + 2)))]) (rest := []) ⟨hx, hb, hml, hown, hts⟩ (mX7_join l D mad kI kZ M (xs (Int32.toNatClampNeg (nI (5 * t) + 1))) (xs (Int32.toNatClampNeg (nI (5 * t) + 2))) bb M1 hm) (cwV 2 hts gL_law_X7_join rfl rfl rfl (by decide +kernel) ⟨Nat.le_of_ble_eq_true rfl, Nat.le_of_ble_eq_true rfl⟩) (mg_preV hLI.2.2.1 hmK hLI.2.2.2.1) rfl rfl hl.1 rfl (lv_room (Nat.le_of_ble_eq_true rfl)) dL_law_719 ⟨(Nat.le_trans (show 100 + 20 * t + 14 + 0 ≤ 600000 by omega) rm_c), (Nat.le_trans (show 2000 + 120 * t + 84 + 0 ≤ 7000000 by omega) rm_s)⟩) hS (fun H locs hLI hz2 hS => ?_)
      refine lv_istore (lv' := [(6, .int bb), (5, .int 1), (0, .ref b), (1, .ref (ad1 0 0)), (2, .ref (mad 0)), (3, .ref q), (4, .int (nI (5 * t)))]) hx hb dL_law_722 hl (by decide) rfl (fun ls hl => ?_)
      refine lv_aload_n hx hb dL_law_724 rfl (lv_at hl 4 rfl) ?_
      refine lg_modeli hLI (va_runV (As := []) (rest := []) ⟨hx, hb, hml, hown, hts⟩ (mX7_thrown l D mad kI kZ M1 (M1 0 0) rfl) (cwV 0 hts gL_law_X7_thrown rfl rfl rfl (by decide +kernel) ⟨Nat.le_of_ble_eq_true rfl, Nat.le_of_ble_eq_true rfl⟩) (mg_preV hLI.2.2.1 hmK hLI.2.2.2.1) rfl rfl hl.1 rfl (lv_room (Nat.le_of_ble_eq_true rfl)) dL_law_725 ⟨(Nat.le_trans (show 100 + 20 * t + 14 + 0 ≤ 600000 by omega) rm_c), (Nat.le_trans (show 2000 + 120 * t + 84 + 0 ≤ 7000000 by omega) rm_s)⟩) hS (fun H locs hLI hz3 hS => ?_)
      refine lv_iload hx hb dL_law_728 (lv_at hl 1 rfl) ?_
      refine lv_icmp_eq (tgt := 735) hx hb dL_law_730 (by decide) (fun _ => ?_) (fun hc => absurd h0 hc)
      refine lv_iload hx hb dL_law_735 (lv_at hl 1 rfl) ?_
      refine lv_if_ne (tgt := 752) hx hb dL_law_737 (by decide) (fun _ => ?_) (fun hc => absurd hc (by decide))
      refine lv_goto (tgt := 2028) hx hb dL_law_752 (by decide) ?_
      refine W.widen (k := 100 + 20 * (t + 1)) (n := 2000 + 120 * (t + 1)) (by omega) (by omega) ?_
      exact kk H locs ls ad1 Z1 M1 f1 h00 hLI hR1 hS (lv_sub hl [2, 3, 4, 5, 6] rfl)
    | 1, hj =>
      cases hj
      refine lg_class hLI (fun r h => hA0 r (Nat.le_trans hS.1 h)) (vx_runSX (As := [.ref (ad 0 0), .int (xs (Int32.toNatClampNeg (nI (5 * t) + 1))), .int (xs (Int32.toNatClampNeg (nI (5 * t) + 2))), .ref q]) (rest := []) ⟨hx, hb, hml, hown, hts⟩ (mL_join_x2 l hfl D G (lA ad Z H) ad Z cJ q f (xs (Int32.toNatClampNeg (nI (5 * t) + 1))) (xs (Int32.toNatClampNeg (nI (5 * t) + 2))) Z1 hc) (vx_cwSW 4 hts gL_law_L_join rfl rfl rfl (by decide +kernel) ⟨Nat.le_of_ble_eq_true rfl, Nat.le_of_ble_eq_true rfl⟩) (lg_preS hLI (fun r h => hA0 r (Nat.le_trans hS.1 h)) hK hKJ hE hF hNc hS) rfl rfl hl.1 rfl (lv_room (Nat.le_of_ble_eq_true rfl)) dL_law_701 ⟨(Nat.le_trans (show 100 + 20 * t + 14 ≤ 600000 by omega) rm_c), (Nat.le_trans (show 2000 + 120 * t + 84 ≤ 7000000 by omega) rm_s)⟩) hS (fun H locs ad1 f1 hP h00 hLI hz hS => ?_)
      rw [← h00] at hl
      refine lv_istore (lv' := [(5, .int 2), (0, .ref b), (1, .ref (ad1 0 0)), (2, .ref (mad 0)), (3, .ref q), (4, .int (nI (5 * t)))]) hx hb dL_law_704 hl (by decide) rfl (fun ls hl => ?_)
      refine lv_aload_n hx hb dL_law_706 rfl (lv_at hl 3 rfl) ?_
      refine lv_aload_n hx hb dL_law_707 rfl (lv_at hl 1 rfl) ?_
      refine lv_iload hx hb dL_law_708 (lv_at hl 5 rfl) ?_
      refine lv_iconst (v := 1) hx hb dL_law_710 (by decide) ?_
      refine lv_iadd hx hb dL_law_711 ?_
      refine va_sld hx hb hX hbl hbA hS (law_in hL ht (show (1 : Nat) ≤ 4 by omega)) dL_law_712 ?_
      refine lv_aload_n hx hb dL_law_713 rfl (lv_at hl 1 rfl) ?_
      refine lv_iload hx hb dL_law_714 (lv_at hl 5 rfl) ?_
      refine lv_iconst (v := 2) hx hb dL_law_716 (by decide) ?_
      refine lv_iadd hx hb dL_law_717 ?_
      refine va_sld hx hb hX hbl hbA hS (law_in hL ht (show (2 : Nat) ≤ 4 by omega)) dL_law_718 ?_
      refine lg_modeli hLI (va_runV (As := [.int (xs (Int32.toNatClampNeg (nI (5 * t) + 1))), .int (xs (Int32.toNatClampNeg (nI (5 * t) + 2)))]) (rest := []) ⟨hx, hb, hml, hown, hts⟩ (mX7_join l D mad kI kZ M (xs (Int32.toNatClampNeg (nI (5 * t) + 1))) (xs (Int32.toNatClampNeg (nI (5 * t) + 2))) bb M1 hm) (cwV 2 hts gL_law_X7_join rfl rfl rfl (by decide +kernel) ⟨Nat.le_of_ble_eq_true rfl, Nat.le_of_ble_eq_true rfl⟩) (mg_preV hLI.2.2.1 hmK hLI.2.2.2.1) rfl rfl hl.1 rfl (lv_room (Nat.le_of_ble_eq_true rfl)) dL_law_719 ⟨(Nat.le_trans (show 100 + 20 * t + 14 + 0 ≤ 600000 by omega) rm_c), (Nat.le_trans (show 2000 + 120 * t + 84 + 0 ≤ 7000000 by omega) rm_s)⟩) hS (fun H locs hLI hz2 hS => ?_)
      refine lv_istore (lv' := [(6, .int bb), (5, .int 2), (0, .ref b), (1, .ref (ad1 0 0)), (2, .ref (mad 0)), (3, .ref q), (4, .int (nI (5 * t)))]) hx hb dL_law_722 hl (by decide) rfl (fun ls hl => ?_)
      refine lv_aload_n hx hb dL_law_724 rfl (lv_at hl 4 rfl) ?_
      refine lg_modeli hLI (va_runV (As := []) (rest := []) ⟨hx, hb, hml, hown, hts⟩ (mX7_thrown l D mad kI kZ M1 (M1 0 0) rfl) (cwV 0 hts gL_law_X7_thrown rfl rfl rfl (by decide +kernel) ⟨Nat.le_of_ble_eq_true rfl, Nat.le_of_ble_eq_true rfl⟩) (mg_preV hLI.2.2.1 hmK hLI.2.2.2.1) rfl rfl hl.1 rfl (lv_room (Nat.le_of_ble_eq_true rfl)) dL_law_725 ⟨(Nat.le_trans (show 100 + 20 * t + 14 + 0 ≤ 600000 by omega) rm_c), (Nat.le_trans (show 2000 + 120 * t + 84 + 0 ≤ 7000000 by omega) rm_s)⟩) hS (fun H locs hLI hz3 hS => ?_)
      refine lv_iload hx hb dL_law_728 (lv_at hl 1 rfl) ?_
      refine lv_icmp_eq (tgt := 735) hx hb dL_law_730 (by decide) (fun _ => ?_) (fun hc => absurd h0 hc)
      refine lv_iload hx hb dL_law_735 (lv_at hl 1 rfl) ?_
      refine lv_if_ne (tgt := 752) hx hb dL_law_737 (by decide) (fun _ => ?_) (fun hc => absurd hc (by decide))
      refine lv_goto (tgt := 2028) hx hb dL_law_752 (by decide) ?_
      refine W.widen (k := 100 + 20 * (t + 1)) (n := 2000 + 120 * (t + 1)) (by omega) (by omega) ?_
      exact kk H locs ls ad1 Z1 M1 f1 h00 hLI hR1 hS (lv_sub hl [2, 3, 4, 5, 6] rfl)
    | j + 2, hj => cases hj
set_option maxHeartbeats 4000000 in
set_option maxRecDepth 100000 in
theorem law_leave (hx : p.tables.exec = Jvm.exec) (hb : c.code = cL_law) (hml : c.maxLocals = 7) (hown : s.vm.findClass RL = some m.cls) (hts : ∀ w ∈ wsL_law, w.before #[Value.ref b] s = true) (hX : va_X b L xs s s.heap) (hbl : b < s.heap.size) (hfl : l.stackTraces = false) (hK : cK D G s) (hmK : mK D kI kZ s) (hKJ : va_K D vwCl [(cJ, .long)] s) (hE : cE A0 s s.heap) (hF : cF G A0 s s.heap) (hNc : lNc s) (hbA : ¬ A0 b) (hA0 : ∀ r, s.heap.size ≤ r → A0 r) {R R1 : CZ → MT → Prop} (hst : st_leave R R1) {t : Nat} (hL : L ≤ 2560) (ht : 5 * t + 5 ≤ L) (hLI : lI D G ad Z mad kI kZ M cJ q f A0 H) (hR : R Z M) (hS : va_S A0 s.heap H locs) (hl : lv_has ls 7 [(0, .ref b), (1, .ref (ad 0 0)), (2, .ref (mad 0)), (3, .ref q), (4, .int (nI (5 * t)))])
    (kk : ∀ (H1 : Heap) (locs1 : List Loc) (ls1 : Array Slot) (ad1 : Nat → Nat → Nat) (Z1 : CZ) (M1 : MT) (f1 : Nat → Int64), ad1 0 0 = ad 0 0 → lI D G ad1 Z1 mad kI kZ M1 cJ q f1 A0 H1 → R1 Z1 M1 → va_S A0 s.heap H1 locs1 → lv_has ls1 7 [(0, .ref b), (1, .ref (ad1 0 0)), (2, .ref (mad 0)), (3, .ref q), (4, .int (nI (5 * t)))] → W p l e room_1 s m #[Value.ref b] below meth c H1 locs1 (100 + 20 * (t + 1)) (2000 + 120 * (t + 1)) Q (F0 m 2028 ls1 [])) : W p l e room_1 s m #[Value.ref b] below meth c H locs (100 + 20 * t) (2000 + 120 * t) Q (F0 m 755 ls []) := by
  have ht5 : t < 512 := by omega
  refine lv_aload_n hx hb dL_law_755 rfl (lv_at hl 1 rfl) ?_
  refine lv_aload_n hx hb dL_law_756 rfl (lv_at hl 0 rfl) ?_
  refine lv_iload hx hb dL_law_757 (lv_at hl 4 rfl) ?_
  refine lv_iconst (v := 1) hx hb dL_law_759 (by decide) ?_
  refine lv_iadd hx hb dL_law_760 ?_
  refine va_sld hx hb hX hbl hbA hS (law_in hL ht (show (1 : Nat) ≤ 4 by omega)) dL_law_761 ?_
  refine lv_aload_n hx hb dL_law_762 rfl (lv_at hl 0 rfl) ?_
  refine lv_iload hx hb dL_law_763 (lv_at hl 4 rfl) ?_
  refine lv_iconst (v := 2) hx hb dL_law_765 (by decide) ?_
  refine lv_iadd hx hb dL_law_766 ?_
  refine va_sld hx hb hX hbl hbA hS (law_in hL ht (show (2 : Nat) ≤ 4 by omega)) dL_law_767 ?_
  refine lv_aload_n hx hb dL_law_768 rfl (lv_at hl 3 rfl) ?_
  obtain ⟨bb, M1, Z1, hm, hR1, hw⟩ := hst Z M hR (xs (Int32.toNatClampNeg (nI (5 * t) + 1))) (xs (Int32.toNatClampNeg (nI (5 * t) + 2)))
  rcases hw with ⟨hc, h0⟩ | ⟨j, cd, hc, hj, h0⟩
  · refine lg_class hLI (fun r h => hA0 r (Nat.le_trans hS.1 h)) (vx_runSX (As := [.ref (ad 0 0), .int (xs (Int32.toNatClampNeg (nI (5 * t) + 1))), .int (xs (Int32.toNatClampNeg (nI (5 * t) + 2))), .ref q]) (rest := []) ⟨hx, hb, hml, hown, hts⟩ (mL_leave l hfl D G (lA ad Z H) ad Z cJ q f (xs (Int32.toNatClampNeg (nI (5 * t) + 1))) (xs (Int32.toNatClampNeg (nI (5 * t) + 2))) bb Z1 hc) (vx_cwSW 4 hts gL_law_L_leave rfl rfl rfl (by decide +kernel) ⟨Nat.le_of_ble_eq_true rfl, Nat.le_of_ble_eq_true rfl⟩) (lg_preS hLI (fun r h => hA0 r (Nat.le_trans hS.1 h)) hK hKJ hE hF hNc hS) rfl rfl hl.1 rfl (lv_room (Nat.le_of_ble_eq_true rfl)) dL_law_769 ⟨(Nat.le_trans (show 100 + 20 * t + 3 ≤ 600000 by omega) rm_c), (Nat.le_trans (show 2000 + 120 * t + 18 ≤ 7000000 by omega) rm_s)⟩) hS (fun H locs ad1 f1 hP h00 hLI hz hS => ?_)
    rw [← h00] at hl
    refine lv_istore (lv' := [(5, .int 0), (0, .ref b), (1, .ref (ad1 0 0)), (2, .ref (mad 0)), (3, .ref q), (4, .int (nI (5 * t)))]) hx hb dL_law_772 hl (by decide) rfl (fun ls hl => ?_)
    refine lv_aload_n hx hb dL_law_774 rfl (lv_at hl 3 rfl) ?_
    refine lv_aload_n hx hb dL_law_775 rfl (lv_at hl 1 rfl) ?_
    refine lv_iload hx hb dL_law_776 (lv_at hl 5 rfl) ?_
    refine lv_iconst (v := 1) hx hb dL_law_778 (by decide) ?_
    refine lv_iadd hx hb dL_law_779 ?_
    refine va_sld hx hb hX hbl hbA hS (law_in hL ht (show (1 : Nat) ≤ 4 by omega)) dL_law_780 ?_
    refine lv_aload_n hx hb dL_law_781 rfl (lv_at hl 1 rfl) ?_
    refine lv_iload hx hb dL_law_782 (lv_at hl 5 rfl) ?_
    refine lv_iconst (v := 2) hx hb dL_law_784 (by decide) ?_
    refine lv_iadd hx hb dL_law_785 ?_
    refine va_sld hx hb hX hbl hbA hS (law_in hL ht (show (2 : Nat) ≤ 4 by omega)) dL_law_786 ?_
    refine lg_modeli hLI (va_runV (As := [.int (xs (Int32.toNatClampNeg (nI (5 * t) + 1))), .int (xs (Int32.toNatClampNeg (nI (5 * t) + 2)))]) (rest := []) ⟨hx, hb, hml, hown, hts⟩ (mX7_leave l D mad kI kZ M (xs (Int32.toNatClampNeg (nI (5 * t) + 1))) (xs (Int32.toNatClampNeg (nI (5 * t) + 2))) bb M1 hm) (cwV 2 hts gL_law_X7_leave rfl rfl rfl (by decide +kernel) ⟨Nat.le_of_ble_eq_true rfl, Nat.le_of_ble_eq_true rfl⟩) (mg_preV hLI.2.2.1 hmK hLI.2.2.2.1) rfl rfl hl.1 rfl (lv_room (Nat.le_of_ble_eq_true rfl)) dL_law_787 ⟨(Nat.le_trans (show 100 + 20 * t + 3 + 0 ≤ 600000 by omega) rm_c), (Nat.le_trans (show 2000 + 120 * t + 18 + 0 ≤ 7000000 by omega) rm_s)⟩) hS (fun H locs hLI hz2 hS => ?_)
    refine lv_istore (lv' := [(6, .int bb), (5, .int 0), (0, .ref b), (1, .ref (ad1 0 0)), (2, .ref (mad 0)), (3, .ref q), (4, .int (nI (5 * t)))]) hx hb dL_law_790 hl (by decide) rfl (fun ls hl => ?_)
    refine lv_aload_n hx hb dL_law_792 rfl (lv_at hl 4 rfl) ?_
    refine lg_modeli hLI (va_runV (As := []) (rest := []) ⟨hx, hb, hml, hown, hts⟩ (mX7_thrown l D mad kI kZ M1 (M1 0 0) rfl) (cwV 0 hts gL_law_X7_thrown rfl rfl rfl (by decide +kernel) ⟨Nat.le_of_ble_eq_true rfl, Nat.le_of_ble_eq_true rfl⟩) (mg_preV hLI.2.2.1 hmK hLI.2.2.2.1) rfl rfl hl.1 rfl (lv_room (Nat.le_of_ble_eq_true rfl)) dL_law_793 ⟨(Nat.le_trans (show 100 + 20 * t + 3 + 0 ≤ 600000 by omega) rm_c), (Nat.le_trans (show 2000 + 120 * t + 18 + 0 ≤ 7000000 by omega) rm_s)⟩) hS (fun H locs hLI hz3 hS => ?_)
    refine lv_iload hx hb dL_law_796 (lv_at hl 1 rfl) ?_
    refine lv_icmp_eq (tgt := 803) hx hb dL_law_798 (by decide) (fun _ => ?_) (fun hc => absurd h0 hc)
    refine lv_iload hx hb dL_law_803 (lv_at hl 1 rfl) ?_
    refine lv_if_ne (tgt := 820) hx hb dL_law_805 (by decide) (fun hc => absurd rfl hc) (fun _ => ?_)
    refine lv_aload_n hx hb dL_law_808 rfl (lv_at hl 5 rfl) ?_
    refine lv_iconst (v := 0) hx hb dL_law_809 (by decide) ?_
    refine va_lald hx hb hKJ (iw_P1 hLI.2.2.2.2.1) 0 0 rfl rfl (show ¬ ((0 : Int32) < 0 ∨ 1 ≤ (0 : Int32).toNatClampNeg) from by decide) dL_law_810 ?_
    rw [show f1 (0 : Int32).toNatClampNeg = bb.toInt64 from hP]
    refine lv_iload hx hb dL_law_811 (lv_at hl 0 rfl) ?_
    refine lv_i2l hx hb (v := bb.toInt64) dL_law_813 rfl ?_
    refine lg_lcmp hx hb dL_law_814 ?_
    refine lv_if_eq (tgt := 820) hx hb dL_law_815 (by decide) (fun _ => ?_) (fun hc => absurd rfl hc)
    refine lv_goto (tgt := 2028) hx hb dL_law_820 (by decide) ?_
    refine W.widen (k := 100 + 20 * (t + 1)) (n := 2000 + 120 * (t + 1)) (by omega) (by omega) ?_
    exact kk H locs ls ad1 Z1 M1 f1 h00 hLI hR1 hS (lv_sub hl [2, 3, 4, 5, 6] rfl)
  · match j, hj with
    | 0, hj =>
      cases hj
      refine lg_class hLI (fun r h => hA0 r (Nat.le_trans hS.1 h)) (vx_runSX (As := [.ref (ad 0 0), .int (xs (Int32.toNatClampNeg (nI (5 * t) + 1))), .int (xs (Int32.toNatClampNeg (nI (5 * t) + 2))), .ref q]) (rest := []) ⟨hx, hb, hml, hown, hts⟩ (mL_leave_x1 l hfl D G (lA ad Z H) ad Z cJ q f (xs (Int32.toNatClampNeg (nI (5 * t) + 1))) (xs (Int32.toNatClampNeg (nI (5 * t) + 2))) Z1 hc) (vx_cwSW 4 hts gL_law_L_leave rfl rfl rfl (by decide +kernel) ⟨Nat.le_of_ble_eq_true rfl, Nat.le_of_ble_eq_true rfl⟩) (lg_preS hLI (fun r h => hA0 r (Nat.le_trans hS.1 h)) hK hKJ hE hF hNc hS) rfl rfl hl.1 rfl (lv_room (Nat.le_of_ble_eq_true rfl)) dL_law_769 ⟨(Nat.le_trans (show 100 + 20 * t + 3 ≤ 600000 by omega) rm_c), (Nat.le_trans (show 2000 + 120 * t + 18 ≤ 7000000 by omega) rm_s)⟩) hS (fun H locs ad1 f1 hP h00 hLI hz hS => ?_)
      rw [← h00] at hl
      refine lv_istore (lv' := [(5, .int 1), (0, .ref b), (1, .ref (ad1 0 0)), (2, .ref (mad 0)), (3, .ref q), (4, .int (nI (5 * t)))]) hx hb dL_law_772 hl (by decide) rfl (fun ls hl => ?_)
      refine lv_aload_n hx hb dL_law_774 rfl (lv_at hl 3 rfl) ?_
      refine lv_aload_n hx hb dL_law_775 rfl (lv_at hl 1 rfl) ?_
      refine lv_iload hx hb dL_law_776 (lv_at hl 5 rfl) ?_
      refine lv_iconst (v := 1) hx hb dL_law_778 (by decide) ?_
      refine lv_iadd hx hb dL_law_779 ?_
      refine va_sld hx hb hX hbl hbA hS (law_in hL ht (show (1 : Nat) ≤ 4 by omega)) dL_law_780 ?_
      refine lv_aload_n hx hb dL_law_781 rfl (lv_at hl 1 rfl) ?_
      refine lv_iload hx hb dL_law_782 (lv_at hl 5 rfl) ?_
      refine lv_iconst (v := 2) hx hb dL_law_784 (by decide) ?_
      refine lv_iadd hx hb dL_law_785 ?_
      refine va_sld hx hb hX hbl hbA hS (law_in hL ht (show (2 : Nat) ≤ 4 by omega)) dL_law_786 ?_
      refine lg_modeli hLI (va_runV (As := [.int (xs (Int32.toNatClampNeg (nI (5 * t) + 1))), .int (xs (Int32.toNatClampNeg (nI (5 * t) + 2)))]) (rest := []) ⟨hx, hb, hml, hown, hts⟩ (mX7_leave l D mad kI kZ M (xs (Int32.toNatClampNeg (nI (5 * t) + 1))) (xs (Int32.toNatClampNeg (nI (5 * t) + 2))) bb M1 hm) (cwV 2 hts gL_law_X7_leave rfl rfl rfl (by decide +kernel) ⟨Nat.le_of_ble_eq_true rfl, Nat.le_of_ble_eq_true rfl⟩) (mg_preV hLI.2.2.1 hmK hLI.2.2.2.1) rfl rfl hl.1 rfl (lv_room (Nat.le_of_ble_eq_true rfl)) dL_law_787 ⟨(Nat.le_trans (show 100 + 20 * t + 3 + 0 ≤ 600000 by omega) rm_c), (Nat.le_trans (show 2000 + 120 * t + 18 + 0 ≤ 7000000 by omega) rm_s)⟩) hS (fun H locs hLI hz2 hS => ?_)
      refine lv_istore (lv' := [(6, .int bb), (5, .int 1), (0, .ref b), (1, .ref (ad1 0 0)), (2, .ref (mad 0)), (3, .ref q), (4, .int (nI (5 * t)))]) hx hb dL_law_790 hl (by decide) rfl (fun ls hl => ?_)
      refine lv_aload_n hx hb dL_law_792 rfl (lv_at hl 4 rfl) ?_
      refine lg_modeli hLI (va_runV (As := []) (rest := []) ⟨hx, hb, hml, hown, hts⟩ (mX7_thrown l D mad kI kZ M1 (M1 0 0) rfl) (cwV 0 hts gL_law_X7_thrown rfl rfl rfl (by decide +kernel) ⟨Nat.le_of_ble_eq_true rfl, Nat.le_of_ble_eq_true rfl⟩) (mg_preV hLI.2.2.1 hmK hLI.2.2.2.1) rfl rfl hl.1 rfl (lv_room (Nat.le_of_ble_eq_true rfl)) dL_law_793 ⟨(Nat.le_trans (show 100 + 20 * t + 3 + 0 ≤ 600000 by omega) rm_c), (Nat.le_trans (show 2000 + 120 * t + 18 + 0 ≤ 7000000 by omega) rm_s)⟩) hS (fun H locs hLI hz3 hS => ?_)
      refine lv_iload hx hb dL_law_796 (lv_at hl 1 rfl) ?_
      refine lv_icmp_eq (tgt := 803) hx hb dL_law_798 (by decide) (fun _ => ?_) (fun hc => absurd h0 hc)
      refine lv_iload hx hb dL_law_803 (lv_at hl 1 rfl) ?_
      refine lv_if_ne (tgt := 820) hx hb dL_law_805 (by decide) (fun _ => ?_) (fun hc => absurd hc (by decide))
      refine lv_goto (tgt := 2028) hx hb dL_law_820 (by decide) ?_
      refine W.widen (k := 100 + 20 * (t + 1)) (n := 2000 + 120 * (t + 1)) (by omega) (by omega) ?_
      exact kk H locs ls ad1 Z1 M1 f1 h00 hLI hR1 hS (lv_sub hl [2, 3, 4, 5, 6] rfl)
    | 1, hj =>
      cases hj
      refine lg_class hLI (fun r h => hA0 r (Nat.le_trans hS.1 h)) (vx_runSX (As := [.ref (ad 0 0), .int (xs (Int32.toNatClampNeg (nI (5 * t) + 1))), .int (xs (Int32.toNatClampNeg (nI (5 * t) + 2))), .ref q]) (rest := []) ⟨hx, hb, hml, hown, hts⟩ (mL_leave_x2 l hfl D G (lA ad Z H) ad Z cJ q f (xs (Int32.toNatClampNeg (nI (5 * t) + 1))) (xs (Int32.toNatClampNeg (nI (5 * t) + 2))) Z1 hc) (vx_cwSW 4 hts gL_law_L_leave rfl rfl rfl (by decide +kernel) ⟨Nat.le_of_ble_eq_true rfl, Nat.le_of_ble_eq_true rfl⟩) (lg_preS hLI (fun r h => hA0 r (Nat.le_trans hS.1 h)) hK hKJ hE hF hNc hS) rfl rfl hl.1 rfl (lv_room (Nat.le_of_ble_eq_true rfl)) dL_law_769 ⟨(Nat.le_trans (show 100 + 20 * t + 3 ≤ 600000 by omega) rm_c), (Nat.le_trans (show 2000 + 120 * t + 18 ≤ 7000000 by omega) rm_s)⟩) hS (fun H locs ad1 f1 hP h00 hLI hz hS => ?_)
      rw [← h00] at hl
      refine lv_istore (lv' := [(5, .int 2), (0, .ref b), (1, .ref (ad1 0 0)), (2, .ref (mad 0)), (3, .ref q), (4, .int (nI (5 * t)))]) hx hb dL_law_772 hl (by decide) rfl (fun ls hl => ?_)
      refine lv_aload_n hx hb dL_law_774 rfl (lv_at hl 3 rfl) ?_
      refine lv_aload_n hx hb dL_law_775 rfl (lv_at hl 1 rfl) ?_
      refine lv_iload hx hb dL_law_776 (lv_at hl 5 rfl) ?_
      refine lv_iconst (v := 1) hx hb dL_law_778 (by decide) ?_
      refine lv_iadd hx hb dL_law_779 ?_
      refine va_sld hx hb hX hbl hbA hS (law_in hL ht (show (1 : Nat) ≤ 4 by omega)) dL_law_780 ?_
      refine lv_aload_n hx hb dL_law_781 rfl (lv_at hl 1 rfl) ?_
      refine lv_iload hx hb dL_law_782 (lv_at hl 5 rfl) ?_
      refine lv_iconst (v := 2) hx hb dL_law_784 (by decide) ?_
      refine lv_iadd hx hb dL_law_785 ?_
      refine va_sld hx hb hX hbl hbA hS (law_in hL ht (show (2 : Nat) ≤ 4 by omega)) dL_law_786 ?_
      refine lg_modeli hLI (va_runV (As := [.int (xs (Int32.toNatClampNeg (nI (5 * t) + 1))), .int (xs (Int32.toNatClampNeg (nI (5 * t) + 2)))]) (rest := []) ⟨hx, hb, hml, hown, hts⟩ (mX7_leave l D mad kI kZ M (xs (Int32.toNatClampNeg (nI (5 * t) + 1))) (xs (Int32.toNatClampNeg (nI (5 * t) + 2))) bb M1 hm) (cwV 2 hts gL_law_X7_leave rfl rfl rfl (by decide +kernel) ⟨Nat.le_of_ble_eq_true rfl, Nat.le_of_ble_eq_true rfl⟩) (mg_preV hLI.2.2.1 hmK hLI.2.2.2.1) rfl rfl hl.1 rfl (lv_room (Nat.le_of_ble_eq_true rfl)) dL_law_787 ⟨(Nat.le_trans (show 100 + 20 * t + 3 + 0 ≤ 600000 by omega) rm_c), (Nat.le_trans (show 2000 + 120 * t + 18 + 0 ≤ 7000000 by omega) rm_s)⟩) hS (fun H locs hLI hz2 hS => ?_)
      refine lv_istore (lv' := [(6, .int bb), (5, .int 2), (0, .ref b), (1, .ref (ad1 0 0)), (2, .ref (mad 0)), (3, .ref q), (4, .int (nI (5 * t)))]) hx hb dL_law_790 hl (by decide) rfl (fun ls hl => ?_)
      refine lv_aload_n hx hb dL_law_792 rfl (lv_at hl 4 rfl) ?_
      refine lg_modeli hLI (va_runV (As := []) (rest := []) ⟨hx, hb, hml, hown, hts⟩ (mX7_thrown l D mad kI kZ M1 (M1 0 0) rfl) (cwV 0 hts gL_law_X7_thrown rfl rfl rfl (by decide +kernel) ⟨Nat.le_of_ble_eq_true rfl, Nat.le_of_ble_eq_true rfl⟩) (mg_preV hLI.2.2.1 hmK hLI.2.2.2.1) rfl rfl hl.1 rfl (lv_room (Nat.le_of_ble_eq_true rfl)) dL_law_793 ⟨(Nat.le_trans (show 100 + 20 * t + 3 + 0 ≤ 600000 by omega) rm_c), (Nat.le_trans (show 2000 + 120 * t + 18 + 0 ≤ 7000000 by omega) rm_s)⟩) hS (fun H locs hLI hz3 hS => ?_)
      refine lv_iload hx hb dL_law_796 (lv_at hl 1 rfl) ?_
      refine lv_icmp_eq (tgt := 803) hx hb dL_law_798 (by decide) (fun _ => ?_) (fun hc => absurd h0 hc)
      refine lv_iload hx hb dL_law_803 (lv_at hl 1 rfl) ?_
      refine lv_if_ne (tgt := 820) hx hb dL_law_805 (by decide) (fun _ => ?_) (fun hc => absurd hc (by decide))
      refine lv_goto (tgt := 2028) hx hb dL_law_820 (by decide) ?_
      refine W.widen (k := 100 + 20 * (t + 1)) (n := 2000 + 120 * (t + 1)) (by omega) (by omega) ?_
      exact kk H locs ls ad1 Z1 M1 f1 h00 hLI hR1 hS (lv_sub hl [2, 3, 4, 5, 6] rfl)
    | j + 2, hj => cases hj
set_option maxHeartbeats 4000000 in
set_option maxRecDepth 100000 in
theorem law_give (hx : p.tables.exec = Jvm.exec) (hb : c.code = cL_law) (hml : c.maxLocals = 7) (hown : s.vm.findClass RL = some m.cls) (hts : ∀ w ∈ wsL_law, w.before #[Value.ref b] s = true) (hX : va_X b L xs s s.heap) (hbl : b < s.heap.size) (hfl : l.stackTraces = false) (hK : cK D G s) (hmK : mK D kI kZ s) (hKJ : va_K D vwCl [(cJ, .long)] s) (hE : cE A0 s s.heap) (hF : cF G A0 s s.heap) (hNc : lNc s) (hbA : ¬ A0 b) (hA0 : ∀ r, s.heap.size ≤ r → A0 r) {R R1 : CZ → MT → Prop} (hst : st_give R R1) {t : Nat} (hL : L ≤ 2560) (ht : 5 * t + 5 ≤ L) (hLI : lI D G ad Z mad kI kZ M cJ q f A0 H) (hR : R Z M) (hS : va_S A0 s.heap H locs) (hl : lv_has ls 7 [(0, .ref b), (1, .ref (ad 0 0)), (2, .ref (mad 0)), (3, .ref q), (4, .int (nI (5 * t)))])
    (kk : ∀ (H1 : Heap) (locs1 : List Loc) (ls1 : Array Slot) (ad1 : Nat → Nat → Nat) (Z1 : CZ) (M1 : MT) (f1 : Nat → Int64), ad1 0 0 = ad 0 0 → lI D G ad1 Z1 mad kI kZ M1 cJ q f1 A0 H1 → R1 Z1 M1 → va_S A0 s.heap H1 locs1 → lv_has ls1 7 [(0, .ref b), (1, .ref (ad1 0 0)), (2, .ref (mad 0)), (3, .ref q), (4, .int (nI (5 * t)))] → W p l e room_1 s m #[Value.ref b] below meth c H1 locs1 (100 + 20 * (t + 1)) (2000 + 120 * (t + 1)) Q (F0 m 2028 ls1 [])) : W p l e room_1 s m #[Value.ref b] below meth c H locs (100 + 20 * t) (2000 + 120 * t) Q (F0 m 823 ls []) := by
  have ht5 : t < 512 := by omega
  refine lv_aload_n hx hb dL_law_823 rfl (lv_at hl 1 rfl) ?_
  refine lv_aload_n hx hb dL_law_824 rfl (lv_at hl 0 rfl) ?_
  refine lv_iload hx hb dL_law_825 (lv_at hl 4 rfl) ?_
  refine lv_iconst (v := 1) hx hb dL_law_827 (by decide) ?_
  refine lv_iadd hx hb dL_law_828 ?_
  refine va_sld hx hb hX hbl hbA hS (law_in hL ht (show (1 : Nat) ≤ 4 by omega)) dL_law_829 ?_
  refine lv_aload_n hx hb dL_law_830 rfl (lv_at hl 0 rfl) ?_
  refine lv_iload hx hb dL_law_831 (lv_at hl 4 rfl) ?_
  refine lv_iconst (v := 2) hx hb dL_law_833 (by decide) ?_
  refine lv_iadd hx hb dL_law_834 ?_
  refine va_sld hx hb hX hbl hbA hS (law_in hL ht (show (2 : Nat) ≤ 4 by omega)) dL_law_835 ?_
  obtain ⟨M1, Z1, hm, hR1, hw⟩ := hst Z M hR (xs (Int32.toNatClampNeg (nI (5 * t) + 1))) (xs (Int32.toNatClampNeg (nI (5 * t) + 2)))
  rcases hw with ⟨hc, h0⟩ | ⟨j, cd, hc, hj, h0⟩
  · refine lg_class hLI (fun r h => hA0 r (Nat.le_trans hS.1 h)) (vx_runSX (As := [.ref (ad 0 0), .int (xs (Int32.toNatClampNeg (nI (5 * t) + 1))), .int (xs (Int32.toNatClampNeg (nI (5 * t) + 2)))]) (rest := []) ⟨hx, hb, hml, hown, hts⟩ (mL_give l hfl D G (lA ad Z H) ad Z cJ q f (xs (Int32.toNatClampNeg (nI (5 * t) + 1))) (xs (Int32.toNatClampNeg (nI (5 * t) + 2))) Z1 hc) (vx_cwSW 3 hts gL_law_L_give rfl rfl rfl (by decide +kernel) ⟨Nat.le_of_ble_eq_true rfl, Nat.le_of_ble_eq_true rfl⟩) (lg_preS hLI (fun r h => hA0 r (Nat.le_trans hS.1 h)) hK hKJ hE hF hNc hS) rfl rfl hl.1 rfl (lv_room (Nat.le_of_ble_eq_true rfl)) dL_law_836 ⟨(Nat.le_trans (show 100 + 20 * t + 3 ≤ 600000 by omega) rm_c), (Nat.le_trans (show 2000 + 120 * t + 18 ≤ 7000000 by omega) rm_s)⟩) hS (fun H locs ad1 f1 hP h00 hLI hz hS => ?_)
    rw [← h00] at hl
    refine lv_istore (lv' := [(5, .int 0), (0, .ref b), (1, .ref (ad1 0 0)), (2, .ref (mad 0)), (3, .ref q), (4, .int (nI (5 * t)))]) hx hb dL_law_839 hl (by decide) rfl (fun ls hl => ?_)
    refine lv_aload_n hx hb dL_law_841 rfl (lv_at hl 3 rfl) ?_
    refine lv_aload_n hx hb dL_law_842 rfl (lv_at hl 1 rfl) ?_
    refine lv_iload hx hb dL_law_843 (lv_at hl 5 rfl) ?_
    refine lv_iconst (v := 1) hx hb dL_law_845 (by decide) ?_
    refine lv_iadd hx hb dL_law_846 ?_
    refine va_sld hx hb hX hbl hbA hS (law_in hL ht (show (1 : Nat) ≤ 4 by omega)) dL_law_847 ?_
    refine lv_aload_n hx hb dL_law_848 rfl (lv_at hl 1 rfl) ?_
    refine lv_iload hx hb dL_law_849 (lv_at hl 5 rfl) ?_
    refine lv_iconst (v := 2) hx hb dL_law_851 (by decide) ?_
    refine lv_iadd hx hb dL_law_852 ?_
    refine va_sld hx hb hX hbl hbA hS (law_in hL ht (show (2 : Nat) ≤ 4 by omega)) dL_law_853 ?_
    refine lg_modelv hLI (va_runV (As := [.int (xs (Int32.toNatClampNeg (nI (5 * t) + 1))), .int (xs (Int32.toNatClampNeg (nI (5 * t) + 2)))]) (rest := []) ⟨hx, hb, hml, hown, hts⟩ (mX7_give l D mad kI kZ M (xs (Int32.toNatClampNeg (nI (5 * t) + 1))) (xs (Int32.toNatClampNeg (nI (5 * t) + 2))) M1 hm) (cwV 2 hts gL_law_X7_give rfl rfl rfl (by decide +kernel) ⟨Nat.le_of_ble_eq_true rfl, Nat.le_of_ble_eq_true rfl⟩) (mg_preV hLI.2.2.1 hmK hLI.2.2.2.1) rfl rfl hl.1 rfl (lv_room (Nat.le_of_ble_eq_true rfl)) dL_law_854 ⟨(Nat.le_trans (show 100 + 20 * t + 3 + 0 ≤ 600000 by omega) rm_c), (Nat.le_trans (show 2000 + 120 * t + 18 + 0 ≤ 7000000 by omega) rm_s)⟩) hS (fun H locs hLI hz2 hS => ?_)
    refine lv_aload_n hx hb dL_law_857 rfl (lv_at hl 3 rfl) ?_
    refine lg_modeli hLI (va_runV (As := []) (rest := []) ⟨hx, hb, hml, hown, hts⟩ (mX7_thrown l D mad kI kZ M1 (M1 0 0) rfl) (cwV 0 hts gL_law_X7_thrown rfl rfl rfl (by decide +kernel) ⟨Nat.le_of_ble_eq_true rfl, Nat.le_of_ble_eq_true rfl⟩) (mg_preV hLI.2.2.1 hmK hLI.2.2.2.1) rfl rfl hl.1 rfl (lv_room (Nat.le_of_ble_eq_true rfl)) dL_law_858 ⟨(Nat.le_trans (show 100 + 20 * t + 3 + 0 ≤ 600000 by omega) rm_c), (Nat.le_trans (show 2000 + 120 * t + 18 + 0 ≤ 7000000 by omega) rm_s)⟩) hS (fun H locs hLI hz3 hS => ?_)
    refine lv_iload hx hb dL_law_861 (lv_at hl 0 rfl) ?_
    refine lv_icmp_eq (tgt := 868) hx hb dL_law_863 (by decide) (fun _ => ?_) (fun hc => absurd h0 hc)
    refine lv_goto (tgt := 2028) hx hb dL_law_868 (by decide) ?_
    refine W.widen (k := 100 + 20 * (t + 1)) (n := 2000 + 120 * (t + 1)) (by omega) (by omega) ?_
    exact kk H locs ls ad1 Z1 M1 f1 h00 hLI hR1 hS (lv_sub hl [1, 2, 3, 4, 5] rfl)
  · match j, hj with
    | 0, hj =>
      cases hj
      refine lg_class hLI (fun r h => hA0 r (Nat.le_trans hS.1 h)) (vx_runSX (As := [.ref (ad 0 0), .int (xs (Int32.toNatClampNeg (nI (5 * t) + 1))), .int (xs (Int32.toNatClampNeg (nI (5 * t) + 2)))]) (rest := []) ⟨hx, hb, hml, hown, hts⟩ (mL_give_x1 l hfl D G (lA ad Z H) ad Z cJ q f (xs (Int32.toNatClampNeg (nI (5 * t) + 1))) (xs (Int32.toNatClampNeg (nI (5 * t) + 2))) Z1 hc) (vx_cwSW 3 hts gL_law_L_give rfl rfl rfl (by decide +kernel) ⟨Nat.le_of_ble_eq_true rfl, Nat.le_of_ble_eq_true rfl⟩) (lg_preS hLI (fun r h => hA0 r (Nat.le_trans hS.1 h)) hK hKJ hE hF hNc hS) rfl rfl hl.1 rfl (lv_room (Nat.le_of_ble_eq_true rfl)) dL_law_836 ⟨(Nat.le_trans (show 100 + 20 * t + 3 ≤ 600000 by omega) rm_c), (Nat.le_trans (show 2000 + 120 * t + 18 ≤ 7000000 by omega) rm_s)⟩) hS (fun H locs ad1 f1 hP h00 hLI hz hS => ?_)
      rw [← h00] at hl
      refine lv_istore (lv' := [(5, .int 1), (0, .ref b), (1, .ref (ad1 0 0)), (2, .ref (mad 0)), (3, .ref q), (4, .int (nI (5 * t)))]) hx hb dL_law_839 hl (by decide) rfl (fun ls hl => ?_)
      refine lv_aload_n hx hb dL_law_841 rfl (lv_at hl 3 rfl) ?_
      refine lv_aload_n hx hb dL_law_842 rfl (lv_at hl 1 rfl) ?_
      refine lv_iload hx hb dL_law_843 (lv_at hl 5 rfl) ?_
      refine lv_iconst (v := 1) hx hb dL_law_845 (by decide) ?_
      refine lv_iadd hx hb dL_law_846 ?_
      refine va_sld hx hb hX hbl hbA hS (law_in hL ht (show (1 : Nat) ≤ 4 by omega)) dL_law_847 ?_
      refine lv_aload_n hx hb dL_law_848 rfl (lv_at hl 1 rfl) ?_
      refine lv_iload hx hb dL_law_849 (lv_at hl 5 rfl) ?_
      refine lv_iconst (v := 2) hx hb dL_law_851 (by decide) ?_
      refine lv_iadd hx hb dL_law_852 ?_
      refine va_sld hx hb hX hbl hbA hS (law_in hL ht (show (2 : Nat) ≤ 4 by omega)) dL_law_853 ?_
      refine lg_modelv hLI (va_runV (As := [.int (xs (Int32.toNatClampNeg (nI (5 * t) + 1))), .int (xs (Int32.toNatClampNeg (nI (5 * t) + 2)))]) (rest := []) ⟨hx, hb, hml, hown, hts⟩ (mX7_give l D mad kI kZ M (xs (Int32.toNatClampNeg (nI (5 * t) + 1))) (xs (Int32.toNatClampNeg (nI (5 * t) + 2))) M1 hm) (cwV 2 hts gL_law_X7_give rfl rfl rfl (by decide +kernel) ⟨Nat.le_of_ble_eq_true rfl, Nat.le_of_ble_eq_true rfl⟩) (mg_preV hLI.2.2.1 hmK hLI.2.2.2.1) rfl rfl hl.1 rfl (lv_room (Nat.le_of_ble_eq_true rfl)) dL_law_854 ⟨(Nat.le_trans (show 100 + 20 * t + 3 + 0 ≤ 600000 by omega) rm_c), (Nat.le_trans (show 2000 + 120 * t + 18 + 0 ≤ 7000000 by omega) rm_s)⟩) hS (fun H locs hLI hz2 hS => ?_)
      refine lv_aload_n hx hb dL_law_857 rfl (lv_at hl 3 rfl) ?_
      refine lg_modeli hLI (va_runV (As := []) (rest := []) ⟨hx, hb, hml, hown, hts⟩ (mX7_thrown l D mad kI kZ M1 (M1 0 0) rfl) (cwV 0 hts gL_law_X7_thrown rfl rfl rfl (by decide +kernel) ⟨Nat.le_of_ble_eq_true rfl, Nat.le_of_ble_eq_true rfl⟩) (mg_preV hLI.2.2.1 hmK hLI.2.2.2.1) rfl rfl hl.1 rfl (lv_room (Nat.le_of_ble_eq_true rfl)) dL_law_858 ⟨(Nat.le_trans (show 100 + 20 * t + 3 + 0 ≤ 600000 by omega) rm_c), (Nat.le_trans (show 2000 + 120 * t + 18 + 0 ≤ 7000000 by omega) rm_s)⟩) hS (fun H locs hLI hz3 hS => ?_)
      refine lv_iload hx hb dL_law_861 (lv_at hl 0 rfl) ?_
      refine lv_icmp_eq (tgt := 868) hx hb dL_law_863 (by decide) (fun _ => ?_) (fun hc => absurd h0 hc)
      refine lv_goto (tgt := 2028) hx hb dL_law_868 (by decide) ?_
      refine W.widen (k := 100 + 20 * (t + 1)) (n := 2000 + 120 * (t + 1)) (by omega) (by omega) ?_
      exact kk H locs ls ad1 Z1 M1 f1 h00 hLI hR1 hS (lv_sub hl [1, 2, 3, 4, 5] rfl)
    | 1, hj =>
      cases hj
      refine lg_class hLI (fun r h => hA0 r (Nat.le_trans hS.1 h)) (vx_runSX (As := [.ref (ad 0 0), .int (xs (Int32.toNatClampNeg (nI (5 * t) + 1))), .int (xs (Int32.toNatClampNeg (nI (5 * t) + 2)))]) (rest := []) ⟨hx, hb, hml, hown, hts⟩ (mL_give_x2 l hfl D G (lA ad Z H) ad Z cJ q f (xs (Int32.toNatClampNeg (nI (5 * t) + 1))) (xs (Int32.toNatClampNeg (nI (5 * t) + 2))) Z1 hc) (vx_cwSW 3 hts gL_law_L_give rfl rfl rfl (by decide +kernel) ⟨Nat.le_of_ble_eq_true rfl, Nat.le_of_ble_eq_true rfl⟩) (lg_preS hLI (fun r h => hA0 r (Nat.le_trans hS.1 h)) hK hKJ hE hF hNc hS) rfl rfl hl.1 rfl (lv_room (Nat.le_of_ble_eq_true rfl)) dL_law_836 ⟨(Nat.le_trans (show 100 + 20 * t + 3 ≤ 600000 by omega) rm_c), (Nat.le_trans (show 2000 + 120 * t + 18 ≤ 7000000 by omega) rm_s)⟩) hS (fun H locs ad1 f1 hP h00 hLI hz hS => ?_)
      rw [← h00] at hl
      refine lv_istore (lv' := [(5, .int 2), (0, .ref b), (1, .ref (ad1 0 0)), (2, .ref (mad 0)), (3, .ref q), (4, .int (nI (5 * t)))]) hx hb dL_law_839 hl (by decide) rfl (fun ls hl => ?_)
      refine lv_aload_n hx hb dL_law_841 rfl (lv_at hl 3 rfl) ?_
      refine lv_aload_n hx hb dL_law_842 rfl (lv_at hl 1 rfl) ?_
      refine lv_iload hx hb dL_law_843 (lv_at hl 5 rfl) ?_
      refine lv_iconst (v := 1) hx hb dL_law_845 (by decide) ?_
      refine lv_iadd hx hb dL_law_846 ?_
      refine va_sld hx hb hX hbl hbA hS (law_in hL ht (show (1 : Nat) ≤ 4 by omega)) dL_law_847 ?_
      refine lv_aload_n hx hb dL_law_848 rfl (lv_at hl 1 rfl) ?_
      refine lv_iload hx hb dL_law_849 (lv_at hl 5 rfl) ?_
      refine lv_iconst (v := 2) hx hb dL_law_851 (by decide) ?_
      refine lv_iadd hx hb dL_law_852 ?_
      refine va_sld hx hb hX hbl hbA hS (law_in hL ht (show (2 : Nat) ≤ 4 by omega)) dL_law_853 ?_
      refine lg_modelv hLI (va_runV (As := [.int (xs (Int32.toNatClampNeg (nI (5 * t) + 1))), .int (xs (Int32.toNatClampNeg (nI (5 * t) + 2)))]) (rest := []) ⟨hx, hb, hml, hown, hts⟩ (mX7_give l D mad kI kZ M (xs (Int32.toNatClampNeg (nI (5 * t) + 1))) (xs (Int32.toNatClampNeg (nI (5 * t) + 2))) M1 hm) (cwV 2 hts gL_law_X7_give rfl rfl rfl (by decide +kernel) ⟨Nat.le_of_ble_eq_true rfl, Nat.le_of_ble_eq_true rfl⟩) (mg_preV hLI.2.2.1 hmK hLI.2.2.2.1) rfl rfl hl.1 rfl (lv_room (Nat.le_of_ble_eq_true rfl)) dL_law_854 ⟨(Nat.le_trans (show 100 + 20 * t + 3 + 0 ≤ 600000 by omega) rm_c), (Nat.le_trans (show 2000 + 120 * t + 18 + 0 ≤ 7000000 by omega) rm_s)⟩) hS (fun H locs hLI hz2 hS => ?_)
      refine lv_aload_n hx hb dL_law_857 rfl (lv_at hl 3 rfl) ?_
      refine lg_modeli hLI (va_runV (As := []) (rest := []) ⟨hx, hb, hml, hown, hts⟩ (mX7_thrown l D mad kI kZ M1 (M1 0 0) rfl) (cwV 0 hts gL_law_X7_thrown rfl rfl rfl (by decide +kernel) ⟨Nat.le_of_ble_eq_true rfl, Nat.le_of_ble_eq_true rfl⟩) (mg_preV hLI.2.2.1 hmK hLI.2.2.2.1) rfl rfl hl.1 rfl (lv_room (Nat.le_of_ble_eq_true rfl)) dL_law_858 ⟨(Nat.le_trans (show 100 + 20 * t + 3 + 0 ≤ 600000 by omega) rm_c), (Nat.le_trans (show 2000 + 120 * t + 18 + 0 ≤ 7000000 by omega) rm_s)⟩) hS (fun H locs hLI hz3 hS => ?_)
      refine lv_iload hx hb dL_law_861 (lv_at hl 0 rfl) ?_
      refine lv_icmp_eq (tgt := 868) hx hb dL_law_863 (by decide) (fun _ => ?_) (fun hc => absurd h0 hc)
      refine lv_goto (tgt := 2028) hx hb dL_law_868 (by decide) ?_
      refine W.widen (k := 100 + 20 * (t + 1)) (n := 2000 + 120 * (t + 1)) (by omega) (by omega) ?_
      exact kk H locs ls ad1 Z1 M1 f1 h00 hLI hR1 hS (lv_sub hl [1, 2, 3, 4, 5] rfl)
    | j + 2, hj => cases hj
set_option maxHeartbeats 4000000 in
set_option maxRecDepth 100000 in
theorem law_takeBack (hx : p.tables.exec = Jvm.exec) (hb : c.code = cL_law) (hml : c.maxLocals = 7) (hown : s.vm.findClass RL = some m.cls) (hts : ∀ w ∈ wsL_law, w.before #[Value.ref b] s = true) (hX : va_X b L xs s s.heap) (hbl : b < s.heap.size) (hfl : l.stackTraces = false) (hK : cK D G s) (hmK : mK D kI kZ s) (hKJ : va_K D vwCl [(cJ, .long)] s) (hE : cE A0 s s.heap) (hF : cF G A0 s s.heap) (hNc : lNc s) (hbA : ¬ A0 b) (hA0 : ∀ r, s.heap.size ≤ r → A0 r) {R R1 : CZ → MT → Prop} (hst : st_takeBack R R1) {t : Nat} (hL : L ≤ 2560) (ht : 5 * t + 5 ≤ L) (hLI : lI D G ad Z mad kI kZ M cJ q f A0 H) (hR : R Z M) (hS : va_S A0 s.heap H locs) (hl : lv_has ls 7 [(0, .ref b), (1, .ref (ad 0 0)), (2, .ref (mad 0)), (3, .ref q), (4, .int (nI (5 * t)))])
    (kk : ∀ (H1 : Heap) (locs1 : List Loc) (ls1 : Array Slot) (ad1 : Nat → Nat → Nat) (Z1 : CZ) (M1 : MT) (f1 : Nat → Int64), ad1 0 0 = ad 0 0 → lI D G ad1 Z1 mad kI kZ M1 cJ q f1 A0 H1 → R1 Z1 M1 → va_S A0 s.heap H1 locs1 → lv_has ls1 7 [(0, .ref b), (1, .ref (ad1 0 0)), (2, .ref (mad 0)), (3, .ref q), (4, .int (nI (5 * t)))] → W p l e room_1 s m #[Value.ref b] below meth c H1 locs1 (100 + 20 * (t + 1)) (2000 + 120 * (t + 1)) Q (F0 m 2028 ls1 [])) : W p l e room_1 s m #[Value.ref b] below meth c H locs (100 + 20 * t) (2000 + 120 * t) Q (F0 m 871 ls []) := by
  have ht5 : t < 512 := by omega
  refine lv_aload_n hx hb dL_law_871 rfl (lv_at hl 1 rfl) ?_
  refine lv_aload_n hx hb dL_law_872 rfl (lv_at hl 0 rfl) ?_
  refine lv_iload hx hb dL_law_873 (lv_at hl 4 rfl) ?_
  refine lv_iconst (v := 1) hx hb dL_law_875 (by decide) ?_
  refine lv_iadd hx hb dL_law_876 ?_
  refine va_sld hx hb hX hbl hbA hS (law_in hL ht (show (1 : Nat) ≤ 4 by omega)) dL_law_877 ?_
  refine lv_aload_n hx hb dL_law_878 rfl (lv_at hl 3 rfl) ?_
  obtain ⟨bb, M1, Z1, hm, hR1, hw⟩ := hst Z M hR (xs (Int32.toNatClampNeg (nI (5 * t) + 1)))
  rcases hw with ⟨hc, h0⟩ | ⟨j, cd, hc, hj, h0⟩
  · refine lg_class hLI (fun r h => hA0 r (Nat.le_trans hS.1 h)) (vx_runSX (As := [.ref (ad 0 0), .int (xs (Int32.toNatClampNeg (nI (5 * t) + 1))), .ref q]) (rest := []) ⟨hx, hb, hml, hown, hts⟩ (mL_takeBack l hfl D G (lA ad Z H) ad Z cJ q f (xs (Int32.toNatClampNeg (nI (5 * t) + 1))) bb Z1 hc) (vx_cwSW 3 hts gL_law_L_takeBack rfl rfl rfl (by decide +kernel) ⟨Nat.le_of_ble_eq_true rfl, Nat.le_of_ble_eq_true rfl⟩) (lg_preS hLI (fun r h => hA0 r (Nat.le_trans hS.1 h)) hK hKJ hE hF hNc hS) rfl rfl hl.1 rfl (lv_room (Nat.le_of_ble_eq_true rfl)) dL_law_879 ⟨(Nat.le_trans (show 100 + 20 * t + 2 ≤ 600000 by omega) rm_c), (Nat.le_trans (show 2000 + 120 * t + 12 ≤ 7000000 by omega) rm_s)⟩) hS (fun H locs ad1 f1 hP h00 hLI hz hS => ?_)
    rw [← h00] at hl
    refine lv_istore (lv' := [(5, .int 0), (0, .ref b), (1, .ref (ad1 0 0)), (2, .ref (mad 0)), (3, .ref q), (4, .int (nI (5 * t)))]) hx hb dL_law_882 hl (by decide) rfl (fun ls hl => ?_)
    refine lv_aload_n hx hb dL_law_884 rfl (lv_at hl 3 rfl) ?_
    refine lv_aload_n hx hb dL_law_885 rfl (lv_at hl 1 rfl) ?_
    refine lv_iload hx hb dL_law_886 (lv_at hl 5 rfl) ?_
    refine lv_iconst (v := 1) hx hb dL_law_888 (by decide) ?_
    refine lv_iadd hx hb dL_law_889 ?_
    refine va_sld hx hb hX hbl hbA hS (law_in hL ht (show (1 : Nat) ≤ 4 by omega)) dL_law_890 ?_
    refine lg_modeli hLI (va_runV (As := [.int (xs (Int32.toNatClampNeg (nI (5 * t) + 1)))]) (rest := []) ⟨hx, hb, hml, hown, hts⟩ (mX7_takeBack l D mad kI kZ M (xs (Int32.toNatClampNeg (nI (5 * t) + 1))) bb M1 hm) (cwV 1 hts gL_law_X7_takeBack rfl rfl rfl (by decide +kernel) ⟨Nat.le_of_ble_eq_true rfl, Nat.le_of_ble_eq_true rfl⟩) (mg_preV hLI.2.2.1 hmK hLI.2.2.2.1) rfl rfl hl.1 rfl (lv_room (Nat.le_of_ble_eq_true rfl)) dL_law_891 ⟨(Nat.le_trans (show 100 + 20 * t + 2 + 0 ≤ 600000 by omega) rm_c), (Nat.le_trans (show 2000 + 120 * t + 12 + 0 ≤ 7000000 by omega) rm_s)⟩) hS (fun H locs hLI hz2 hS => ?_)
    refine lv_istore (lv' := [(6, .int bb), (5, .int 0), (0, .ref b), (1, .ref (ad1 0 0)), (2, .ref (mad 0)), (3, .ref q), (4, .int (nI (5 * t)))]) hx hb dL_law_894 hl (by decide) rfl (fun ls hl => ?_)
    refine lv_aload_n hx hb dL_law_896 rfl (lv_at hl 4 rfl) ?_
    refine lg_modeli hLI (va_runV (As := []) (rest := []) ⟨hx, hb, hml, hown, hts⟩ (mX7_thrown l D mad kI kZ M1 (M1 0 0) rfl) (cwV 0 hts gL_law_X7_thrown rfl rfl rfl (by decide +kernel) ⟨Nat.le_of_ble_eq_true rfl, Nat.le_of_ble_eq_true rfl⟩) (mg_preV hLI.2.2.1 hmK hLI.2.2.2.1) rfl rfl hl.1 rfl (lv_room (Nat.le_of_ble_eq_true rfl)) dL_law_897 ⟨(Nat.le_trans (show 100 + 20 * t + 2 + 0 ≤ 600000 by omega) rm_c), (Nat.le_trans (show 2000 + 120 * t + 12 + 0 ≤ 7000000 by omega) rm_s)⟩) hS (fun H locs hLI hz3 hS => ?_)
    refine lv_iload hx hb dL_law_900 (lv_at hl 1 rfl) ?_
    refine lv_icmp_eq (tgt := 907) hx hb dL_law_902 (by decide) (fun _ => ?_) (fun hc => absurd h0 hc)
    refine lv_iload hx hb dL_law_907 (lv_at hl 1 rfl) ?_
    refine lv_if_ne (tgt := 924) hx hb dL_law_909 (by decide) (fun hc => absurd rfl hc) (fun _ => ?_)
    refine lv_aload_n hx hb dL_law_912 rfl (lv_at hl 5 rfl) ?_
    refine lv_iconst (v := 0) hx hb dL_law_913 (by decide) ?_
    refine va_lald hx hb hKJ (iw_P1 hLI.2.2.2.2.1) 0 0 rfl rfl (show ¬ ((0 : Int32) < 0 ∨ 1 ≤ (0 : Int32).toNatClampNeg) from by decide) dL_law_914 ?_
    rw [show f1 (0 : Int32).toNatClampNeg = bb.toInt64 from hP]
    refine lv_iload hx hb dL_law_915 (lv_at hl 0 rfl) ?_
    refine lv_i2l hx hb (v := bb.toInt64) dL_law_917 rfl ?_
    refine lg_lcmp hx hb dL_law_918 ?_
    refine lv_if_eq (tgt := 924) hx hb dL_law_919 (by decide) (fun _ => ?_) (fun hc => absurd rfl hc)
    refine lv_goto (tgt := 2028) hx hb dL_law_924 (by decide) ?_
    refine W.widen (k := 100 + 20 * (t + 1)) (n := 2000 + 120 * (t + 1)) (by omega) (by omega) ?_
    exact kk H locs ls ad1 Z1 M1 f1 h00 hLI hR1 hS (lv_sub hl [2, 3, 4, 5, 6] rfl)
  · match j, hj with
    | 0, hj =>
      cases hj
      refine lg_class hLI (fun r h => hA0 r (Nat.le_trans hS.1 h)) (vx_runSX (As := [.ref (ad 0 0), .int (xs (Int32.toNatClampNeg (nI (5 * t) + 1))), .ref q]) (rest := []) ⟨hx, hb, hml, hown, hts⟩ (mL_takeBack_x1 l hfl D G (lA ad Z H) ad Z cJ q f (xs (Int32.toNatClampNeg (nI (5 * t) + 1))) Z1 hc) (vx_cwSW 3 hts gL_law_L_takeBack rfl rfl rfl (by decide +kernel) ⟨Nat.le_of_ble_eq_true rfl, Nat.le_of_ble_eq_true rfl⟩) (lg_preS hLI (fun r h => hA0 r (Nat.le_trans hS.1 h)) hK hKJ hE hF hNc hS) rfl rfl hl.1 rfl (lv_room (Nat.le_of_ble_eq_true rfl)) dL_law_879 ⟨(Nat.le_trans (show 100 + 20 * t + 2 ≤ 600000 by omega) rm_c), (Nat.le_trans (show 2000 + 120 * t + 12 ≤ 7000000 by omega) rm_s)⟩) hS (fun H locs ad1 f1 hP h00 hLI hz hS => ?_)
      rw [← h00] at hl
      refine lv_istore (lv' := [(5, .int 1), (0, .ref b), (1, .ref (ad1 0 0)), (2, .ref (mad 0)), (3, .ref q), (4, .int (nI (5 * t)))]) hx hb dL_law_882 hl (by decide) rfl (fun ls hl => ?_)
      refine lv_aload_n hx hb dL_law_884 rfl (lv_at hl 3 rfl) ?_
      refine lv_aload_n hx hb dL_law_885 rfl (lv_at hl 1 rfl) ?_
      refine lv_iload hx hb dL_law_886 (lv_at hl 5 rfl) ?_
      refine lv_iconst (v := 1) hx hb dL_law_888 (by decide) ?_
      refine lv_iadd hx hb dL_law_889 ?_
      refine va_sld hx hb hX hbl hbA hS (law_in hL ht (show (1 : Nat) ≤ 4 by omega)) dL_law_890 ?_
      refine lg_modeli hLI (va_runV (As := [.int (xs (Int32.toNatClampNeg (nI (5 * t) + 1)))]) (rest := []) ⟨hx, hb, hml, hown, hts⟩ (mX7_takeBack l D mad kI kZ M (xs (Int32.toNatClampNeg (nI (5 * t) + 1))) bb M1 hm) (cwV 1 hts gL_law_X7_takeBack rfl rfl rfl (by decide +kernel) ⟨Nat.le_of_ble_eq_true rfl, Nat.le_of_ble_eq_true rfl⟩) (mg_preV hLI.2.2.1 hmK hLI.2.2.2.1) rfl rfl hl.1 rfl (lv_room (Nat.le_of_ble_eq_true rfl)) dL_law_891 ⟨(Nat.le_trans (show 100 + 20 * t + 2 + 0 ≤ 600000 by omega) rm_c), (Nat.le_trans (show 2000 + 120 * t + 12 + 0 ≤ 7000000 by omega) rm_s)⟩) hS (fun H locs hLI hz2 hS => ?_)
      refine lv_istore (lv' := [(6, .int bb), (5, .int 1), (0, .ref b), (1, .ref (ad1 0 0)), (2, .ref (mad 0)), (3, .ref q), (4, .int (nI (5 * t)))]) hx hb dL_law_894 hl (by decide) rfl (fun ls hl => ?_)
      refine lv_aload_n hx hb dL_law_896 rfl (lv_at hl 4 rfl) ?_
      refine lg_modeli hLI (va_runV (As := []) (rest := []) ⟨hx, hb, hml, hown, hts⟩ (mX7_thrown l D mad kI kZ M1 (M1 0 0) rfl) (cwV 0 hts gL_law_X7_thrown rfl rfl rfl (by decide +kernel) ⟨Nat.le_of_ble_eq_true rfl, Nat.le_of_ble_eq_true rfl⟩) (mg_preV hLI.2.2.1 hmK hLI.2.2.2.1) rfl rfl hl.1 rfl (lv_room (Nat.le_of_ble_eq_true rfl)) dL_law_897 ⟨(Nat.le_trans (show 100 + 20 * t + 2 + 0 ≤ 600000 by omega) rm_c), (Nat.le_trans (show 2000 + 120 * t + 12 + 0 ≤ 7000000 by omega) rm_s)⟩) hS (fun H locs hLI hz3 hS => ?_)
      refine lv_iload hx hb dL_law_900 (lv_at hl 1 rfl) ?_
      refine lv_icmp_eq (tgt := 907) hx hb dL_law_902 (by decide) (fun _ => ?_) (fun hc => absurd h0 hc)
      refine lv_iload hx hb dL_law_907 (lv_at hl 1 rfl) ?_
      refine lv_if_ne (tgt := 924) hx hb dL_law_909 (by decide) (fun _ => ?_) (fun hc => absurd hc (by decide))
      refine lv_goto (tgt := 2028) hx hb dL_law_924 (by decide) ?_
      refine W.widen (k := 100 + 20 * (t + 1)) (n := 2000 + 120 * (t + 1)) (by omega) (by omega) ?_
      exact kk H locs ls ad1 Z1 M1 f1 h00 hLI hR1 hS (lv_sub hl [2, 3, 4, 5, 6] rfl)
    | 1, hj =>
      cases hj
      refine lg_class hLI (fun r h => hA0 r (Nat.le_trans hS.1 h)) (vx_runSX (As := [.ref (ad 0 0), .int (xs (Int32.toNatClampNeg (nI (5 * t) + 1))), .ref q]) (rest := []) ⟨hx, hb, hml, hown, hts⟩ (mL_takeBack_x2 l hfl D G (lA ad Z H) ad Z cJ q f (xs (Int32.toNatClampNeg (nI (5 * t) + 1))) Z1 hc) (vx_cwSW 3 hts gL_law_L_takeBack rfl rfl rfl (by decide +kernel) ⟨Nat.le_of_ble_eq_true rfl, Nat.le_of_ble_eq_true rfl⟩) (lg_preS hLI (fun r h => hA0 r (Nat.le_trans hS.1 h)) hK hKJ hE hF hNc hS) rfl rfl hl.1 rfl (lv_room (Nat.le_of_ble_eq_true rfl)) dL_law_879 ⟨(Nat.le_trans (show 100 + 20 * t + 2 ≤ 600000 by omega) rm_c), (Nat.le_trans (show 2000 + 120 * t + 12 ≤ 7000000 by omega) rm_s)⟩) hS (fun H locs ad1 f1 hP h00 hLI hz hS => ?_)
      rw [← h00] at hl
      refine lv_istore (lv' := [(5, .int 2), (0, .ref b), (1, .ref (ad1 0 0)), (2, .ref (mad 0)), (3, .ref q), (4, .int (nI (5 * t)))]) hx hb dL_law_882 hl (by decide) rfl (fun ls hl => ?_)
      refine lv_aload_n hx hb dL_law_884 rfl (lv_at hl 3 rfl) ?_
      refine lv_aload_n hx hb dL_law_885 rfl (lv_at hl 1 rfl) ?_
      refine lv_iload hx hb dL_law_886 (lv_at hl 5 rfl) ?_
      refine lv_iconst (v := 1) hx hb dL_law_888 (by decide) ?_
      refine lv_iadd hx hb dL_law_889 ?_
      refine va_sld hx hb hX hbl hbA hS (law_in hL ht (show (1 : Nat) ≤ 4 by omega)) dL_law_890 ?_
      refine lg_modeli hLI (va_runV (As := [.int (xs (Int32.toNatClampNeg (nI (5 * t) + 1)))]) (rest := []) ⟨hx, hb, hml, hown, hts⟩ (mX7_takeBack l D mad kI kZ M (xs (Int32.toNatClampNeg (nI (5 * t) + 1))) bb M1 hm) (cwV 1 hts gL_law_X7_takeBack rfl rfl rfl (by decide +kernel) ⟨Nat.le_of_ble_eq_true rfl, Nat.le_of_ble_eq_true rfl⟩) (mg_preV hLI.2.2.1 hmK hLI.2.2.2.1) rfl rfl hl.1 rfl (lv_room (Nat.le_of_ble_eq_true rfl)) dL_law_891 ⟨(Nat.le_trans (show 100 + 20 * t + 2 + 0 ≤ 600000 by omega) rm_c), (Nat.le_trans (show 2000 + 120 * t + 12 + 0 ≤ 7000000 by omega) rm_s)⟩) hS (fun H locs hLI hz2 hS => ?_)
      refine lv_istore (lv' := [(6, .int bb), (5, .int 2), (0, .ref b), (1, .ref (ad1 0 0)), (2, .ref (mad 0)), (3, .ref q), (4, .int (nI (5 * t)))]) hx hb dL_law_894 hl (by decide) rfl (fun ls hl => ?_)
      refine lv_aload_n hx hb dL_law_896 rfl (lv_at hl 4 rfl) ?_
      refine lg_modeli hLI (va_runV (As := []) (rest := []) ⟨hx, hb, hml, hown, hts⟩ (mX7_thrown l D mad kI kZ M1 (M1 0 0) rfl) (cwV 0 hts gL_law_X7_thrown rfl rfl rfl (by decide +kernel) ⟨Nat.le_of_ble_eq_true rfl, Nat.le_of_ble_eq_true rfl⟩) (mg_preV hLI.2.2.1 hmK hLI.2.2.2.1) rfl rfl hl.1 rfl (lv_room (Nat.le_of_ble_eq_true rfl)) dL_law_897 ⟨(Nat.le_trans (show 100 + 20 * t + 2 + 0 ≤ 600000 by omega) rm_c), (Nat.le_trans (show 2000 + 120 * t + 12 + 0 ≤ 7000000 by omega) rm_s)⟩) hS (fun H locs hLI hz3 hS => ?_)
      refine lv_iload hx hb dL_law_900 (lv_at hl 1 rfl) ?_
      refine lv_icmp_eq (tgt := 907) hx hb dL_law_902 (by decide) (fun _ => ?_) (fun hc => absurd h0 hc)
      refine lv_iload hx hb dL_law_907 (lv_at hl 1 rfl) ?_
      refine lv_if_ne (tgt := 924) hx hb dL_law_909 (by decide) (fun _ => ?_) (fun hc => absurd hc (by decide))
      refine lv_goto (tgt := 2028) hx hb dL_law_924 (by decide) ?_
      refine W.widen (k := 100 + 20 * (t + 1)) (n := 2000 + 120 * (t + 1)) (by omega) (by omega) ?_
      exact kk H locs ls ad1 Z1 M1 f1 h00 hLI hR1 hS (lv_sub hl [2, 3, 4, 5, 6] rfl)
    | j + 2, hj => cases hj
set_option maxHeartbeats 4000000 in
set_option maxRecDepth 100000 in
theorem law_ofPlayer (hx : p.tables.exec = Jvm.exec) (hb : c.code = cL_law) (hml : c.maxLocals = 7) (hown : s.vm.findClass RL = some m.cls) (hts : ∀ w ∈ wsL_law, w.before #[Value.ref b] s = true) (hX : va_X b L xs s s.heap) (hbl : b < s.heap.size) (hfl : l.stackTraces = false) (hK : cK D G s) (hmK : mK D kI kZ s) (hKJ : va_K D vwCl [(cJ, .long)] s) (hE : cE A0 s s.heap) (hF : cF G A0 s s.heap) (hNc : lNc s) (hbA : ¬ A0 b) (hA0 : ∀ r, s.heap.size ≤ r → A0 r) {R R1 : CZ → MT → Prop} (hst : st_ofPlayer R R1) {t : Nat} (hL : L ≤ 2560) (ht : 5 * t + 5 ≤ L) (hLI : lI D G ad Z mad kI kZ M cJ q f A0 H) (hR : R Z M) (hS : va_S A0 s.heap H locs) (hl : lv_has ls 7 [(0, .ref b), (1, .ref (ad 0 0)), (2, .ref (mad 0)), (3, .ref q), (4, .int (nI (5 * t)))])
    (kk : ∀ (H1 : Heap) (locs1 : List Loc) (ls1 : Array Slot) (ad1 : Nat → Nat → Nat) (Z1 : CZ) (M1 : MT) (f1 : Nat → Int64), ad1 0 0 = ad 0 0 → lI D G ad1 Z1 mad kI kZ M1 cJ q f1 A0 H1 → R1 Z1 M1 → va_S A0 s.heap H1 locs1 → lv_has ls1 7 [(0, .ref b), (1, .ref (ad1 0 0)), (2, .ref (mad 0)), (3, .ref q), (4, .int (nI (5 * t)))] → W p l e room_1 s m #[Value.ref b] below meth c H1 locs1 (100 + 20 * (t + 1)) (2000 + 120 * (t + 1)) Q (F0 m 2028 ls1 [])) : W p l e room_1 s m #[Value.ref b] below meth c H locs (100 + 20 * t) (2000 + 120 * t) Q (F0 m 927 ls []) := by
  have ht5 : t < 512 := by omega
  refine lv_aload_n hx hb dL_law_927 rfl (lv_at hl 1 rfl) ?_
  refine lv_aload_n hx hb dL_law_928 rfl (lv_at hl 0 rfl) ?_
  refine lv_iload hx hb dL_law_929 (lv_at hl 4 rfl) ?_
  refine lv_iconst (v := 1) hx hb dL_law_931 (by decide) ?_
  refine lv_iadd hx hb dL_law_932 ?_
  refine va_sld hx hb hX hbl hbA hS (law_in hL ht (show (1 : Nat) ≤ 4 by omega)) dL_law_933 ?_
  refine lv_aload_n hx hb dL_law_934 rfl (lv_at hl 0 rfl) ?_
  refine lv_iload hx hb dL_law_935 (lv_at hl 4 rfl) ?_
  refine lv_iconst (v := 2) hx hb dL_law_937 (by decide) ?_
  refine lv_iadd hx hb dL_law_938 ?_
  refine va_sld hx hb hX hbl hbA hS (law_in hL ht (show (2 : Nat) ≤ 4 by omega)) dL_law_939 ?_
  refine lv_aload_n hx hb dL_law_940 rfl (lv_at hl 3 rfl) ?_
  obtain ⟨bb, M1, hm, hR1, hw⟩ := hst Z M hR (xs (Int32.toNatClampNeg (nI (5 * t) + 1))) (xs (Int32.toNatClampNeg (nI (5 * t) + 2)))
  rcases hw with ⟨hc, h0⟩ | ⟨j, cd, hc, hj, h0⟩
  · refine lg_class hLI (fun r h => hA0 r (Nat.le_trans hS.1 h)) (vx_runSX (As := [.ref (ad 0 0), .int (xs (Int32.toNatClampNeg (nI (5 * t) + 1))), .int (xs (Int32.toNatClampNeg (nI (5 * t) + 2))), .ref q]) (rest := []) ⟨hx, hb, hml, hown, hts⟩ (mL_ofPlayer l hfl D G (lA ad Z H) ad Z cJ q f (xs (Int32.toNatClampNeg (nI (5 * t) + 1))) (xs (Int32.toNatClampNeg (nI (5 * t) + 2))) bb  hc) (vx_cwSW 4 hts gL_law_L_ofPlayer rfl rfl rfl (by decide +kernel) ⟨Nat.le_of_ble_eq_true rfl, Nat.le_of_ble_eq_true rfl⟩) (lg_preS hLI (fun r h => hA0 r (Nat.le_trans hS.1 h)) hK hKJ hE hF hNc hS) rfl rfl hl.1 rfl (lv_room (Nat.le_of_ble_eq_true rfl)) dL_law_941 ⟨(Nat.le_trans (show 100 + 20 * t + 2 ≤ 600000 by omega) rm_c), (Nat.le_trans (show 2000 + 120 * t + 12 ≤ 7000000 by omega) rm_s)⟩) hS (fun H locs ad1 f1 hP h00 hLI hz hS => ?_)
    rw [← h00] at hl
    refine lv_istore (lv' := [(5, .int 0), (0, .ref b), (1, .ref (ad1 0 0)), (2, .ref (mad 0)), (3, .ref q), (4, .int (nI (5 * t)))]) hx hb dL_law_944 hl (by decide) rfl (fun ls hl => ?_)
    refine lv_aload_n hx hb dL_law_946 rfl (lv_at hl 3 rfl) ?_
    refine lv_aload_n hx hb dL_law_947 rfl (lv_at hl 1 rfl) ?_
    refine lv_iload hx hb dL_law_948 (lv_at hl 5 rfl) ?_
    refine lv_iconst (v := 1) hx hb dL_law_950 (by decide) ?_
    refine lv_iadd hx hb dL_law_951 ?_
    refine va_sld hx hb hX hbl hbA hS (law_in hL ht (show (1 : Nat) ≤ 4 by omega)) dL_law_952 ?_
    refine lv_aload_n hx hb dL_law_953 rfl (lv_at hl 1 rfl) ?_
    refine lv_iload hx hb dL_law_954 (lv_at hl 5 rfl) ?_
    refine lv_iconst (v := 2) hx hb dL_law_956 (by decide) ?_
    refine lv_iadd hx hb dL_law_957 ?_
    refine va_sld hx hb hX hbl hbA hS (law_in hL ht (show (2 : Nat) ≤ 4 by omega)) dL_law_958 ?_
    refine lg_modeli hLI (va_runV (As := [.int (xs (Int32.toNatClampNeg (nI (5 * t) + 1))), .int (xs (Int32.toNatClampNeg (nI (5 * t) + 2)))]) (rest := []) ⟨hx, hb, hml, hown, hts⟩ (mX7_ofPlayer l D mad kI kZ M (xs (Int32.toNatClampNeg (nI (5 * t) + 1))) (xs (Int32.toNatClampNeg (nI (5 * t) + 2))) bb M1 hm) (cwV 2 hts gL_law_X7_ofPlayer rfl rfl rfl (by decide +kernel) ⟨Nat.le_of_ble_eq_true rfl, Nat.le_of_ble_eq_true rfl⟩) (mg_preV hLI.2.2.1 hmK hLI.2.2.2.1) rfl rfl hl.1 rfl (lv_room (Nat.le_of_ble_eq_true rfl)) dL_law_959 ⟨(Nat.le_trans (show 100 + 20 * t + 2 + 0 ≤ 600000 by omega) rm_c), (Nat.le_trans (show 2000 + 120 * t + 12 + 0 ≤ 7000000 by omega) rm_s)⟩) hS (fun H locs hLI hz2 hS => ?_)
    refine lv_istore (lv' := [(6, .int bb), (5, .int 0), (0, .ref b), (1, .ref (ad1 0 0)), (2, .ref (mad 0)), (3, .ref q), (4, .int (nI (5 * t)))]) hx hb dL_law_962 hl (by decide) rfl (fun ls hl => ?_)
    refine lv_aload_n hx hb dL_law_964 rfl (lv_at hl 4 rfl) ?_
    refine lg_modeli hLI (va_runV (As := []) (rest := []) ⟨hx, hb, hml, hown, hts⟩ (mX7_thrown l D mad kI kZ M1 (M1 0 0) rfl) (cwV 0 hts gL_law_X7_thrown rfl rfl rfl (by decide +kernel) ⟨Nat.le_of_ble_eq_true rfl, Nat.le_of_ble_eq_true rfl⟩) (mg_preV hLI.2.2.1 hmK hLI.2.2.2.1) rfl rfl hl.1 rfl (lv_room (Nat.le_of_ble_eq_true rfl)) dL_law_965 ⟨(Nat.le_trans (show 100 + 20 * t + 2 + 0 ≤ 600000 by omega) rm_c), (Nat.le_trans (show 2000 + 120 * t + 12 + 0 ≤ 7000000 by omega) rm_s)⟩) hS (fun H locs hLI hz3 hS => ?_)
    refine lv_iload hx hb dL_law_968 (lv_at hl 1 rfl) ?_
    refine lv_icmp_eq (tgt := 975) hx hb dL_law_970 (by decide) (fun _ => ?_) (fun hc => absurd h0 hc)
    refine lv_iload hx hb dL_law_975 (lv_at hl 1 rfl) ?_
    refine lv_if_ne (tgt := 992) hx hb dL_law_977 (by decide) (fun hc => absurd rfl hc) (fun _ => ?_)
    refine lv_aload_n hx hb dL_law_980 rfl (lv_at hl 5 rfl) ?_
    refine lv_iconst (v := 0) hx hb dL_law_981 (by decide) ?_
    refine va_lald hx hb hKJ (iw_P1 hLI.2.2.2.2.1) 0 0 rfl rfl (show ¬ ((0 : Int32) < 0 ∨ 1 ≤ (0 : Int32).toNatClampNeg) from by decide) dL_law_982 ?_
    rw [show f1 (0 : Int32).toNatClampNeg = bb.toInt64 from hP]
    refine lv_iload hx hb dL_law_983 (lv_at hl 0 rfl) ?_
    refine lv_i2l hx hb (v := bb.toInt64) dL_law_985 rfl ?_
    refine lg_lcmp hx hb dL_law_986 ?_
    refine lv_if_eq (tgt := 992) hx hb dL_law_987 (by decide) (fun _ => ?_) (fun hc => absurd rfl hc)
    refine lv_goto (tgt := 2028) hx hb dL_law_992 (by decide) ?_
    refine W.widen (k := 100 + 20 * (t + 1)) (n := 2000 + 120 * (t + 1)) (by omega) (by omega) ?_
    exact kk H locs ls ad1 Z M1 f1 h00 hLI hR1 hS (lv_sub hl [2, 3, 4, 5, 6] rfl)
  · match j, hj with
    | 0, hj =>
      cases hj
      refine lg_class hLI (fun r h => hA0 r (Nat.le_trans hS.1 h)) (vx_runSX (As := [.ref (ad 0 0), .int (xs (Int32.toNatClampNeg (nI (5 * t) + 1))), .int (xs (Int32.toNatClampNeg (nI (5 * t) + 2))), .ref q]) (rest := []) ⟨hx, hb, hml, hown, hts⟩ (mL_ofPlayer_x1 l hfl D G (lA ad Z H) ad Z cJ q f (xs (Int32.toNatClampNeg (nI (5 * t) + 1))) (xs (Int32.toNatClampNeg (nI (5 * t) + 2)))  hc) (vx_cwSW 4 hts gL_law_L_ofPlayer rfl rfl rfl (by decide +kernel) ⟨Nat.le_of_ble_eq_true rfl, Nat.le_of_ble_eq_true rfl⟩) (lg_preS hLI (fun r h => hA0 r (Nat.le_trans hS.1 h)) hK hKJ hE hF hNc hS) rfl rfl hl.1 rfl (lv_room (Nat.le_of_ble_eq_true rfl)) dL_law_941 ⟨(Nat.le_trans (show 100 + 20 * t + 2 ≤ 600000 by omega) rm_c), (Nat.le_trans (show 2000 + 120 * t + 12 ≤ 7000000 by omega) rm_s)⟩) hS (fun H locs ad1 f1 hP h00 hLI hz hS => ?_)
      rw [← h00] at hl
      refine lv_istore (lv' := [(5, .int 1), (0, .ref b), (1, .ref (ad1 0 0)), (2, .ref (mad 0)), (3, .ref q), (4, .int (nI (5 * t)))]) hx hb dL_law_944 hl (by decide) rfl (fun ls hl => ?_)
      refine lv_aload_n hx hb dL_law_946 rfl (lv_at hl 3 rfl) ?_
      refine lv_aload_n hx hb dL_law_947 rfl (lv_at hl 1 rfl) ?_
      refine lv_iload hx hb dL_law_948 (lv_at hl 5 rfl) ?_
      refine lv_iconst (v := 1) hx hb dL_law_950 (by decide) ?_
      refine lv_iadd hx hb dL_law_951 ?_
      refine va_sld hx hb hX hbl hbA hS (law_in hL ht (show (1 : Nat) ≤ 4 by omega)) dL_law_952 ?_
      refine lv_aload_n hx hb dL_law_953 rfl (lv_at hl 1 rfl) ?_
      refine lv_iload hx hb dL_law_954 (lv_at hl 5 rfl) ?_
      refine lv_iconst (v := 2) hx hb dL_law_956 (by decide) ?_
      refine lv_iadd hx hb dL_law_957 ?_
      refine va_sld hx hb hX hbl hbA hS (law_in hL ht (show (2 : Nat) ≤ 4 by omega)) dL_law_958 ?_
      refine lg_modeli hLI (va_runV (As := [.int (xs (Int32.toNatClampNeg (nI (5 * t) + 1))), .int (xs (Int32.toNatClampNeg (nI (5 * t) + 2)))]) (rest := []) ⟨hx, hb, hml, hown, hts⟩ (mX7_ofPlayer l D mad kI kZ M (xs (Int32.toNatClampNeg (nI (5 * t) + 1))) (xs (Int32.toNatClampNeg (nI (5 * t) + 2))) bb M1 hm) (cwV 2 hts gL_law_X7_ofPlayer rfl rfl rfl (by decide +kernel) ⟨Nat.le_of_ble_eq_true rfl, Nat.le_of_ble_eq_true rfl⟩) (mg_preV hLI.2.2.1 hmK hLI.2.2.2.1) rfl rfl hl.1 rfl (lv_room (Nat.le_of_ble_eq_true rfl)) dL_law_959 ⟨(Nat.le_trans (show 100 + 20 * t + 2 + 0 ≤ 600000 by omega) rm_c), (Nat.le_trans (show 2000 + 120 * t + 12 + 0 ≤ 7000000 by omega) rm_s)⟩) hS (fun H locs hLI hz2 hS => ?_)
      refine lv_istore (lv' := [(6, .int bb), (5, .int 1), (0, .ref b), (1, .ref (ad1 0 0)), (2, .ref (mad 0)), (3, .ref q), (4, .int (nI (5 * t)))]) hx hb dL_law_962 hl (by decide) rfl (fun ls hl => ?_)
      refine lv_aload_n hx hb dL_law_964 rfl (lv_at hl 4 rfl) ?_
      refine lg_modeli hLI (va_runV (As := []) (rest := []) ⟨hx, hb, hml, hown, hts⟩ (mX7_thrown l D mad kI kZ M1 (M1 0 0) rfl) (cwV 0 hts gL_law_X7_thrown rfl rfl rfl (by decide +kernel) ⟨Nat.le_of_ble_eq_true rfl, Nat.le_of_ble_eq_true rfl⟩) (mg_preV hLI.2.2.1 hmK hLI.2.2.2.1) rfl rfl hl.1 rfl (lv_room (Nat.le_of_ble_eq_true rfl)) dL_law_965 ⟨(Nat.le_trans (show 100 + 20 * t + 2 + 0 ≤ 600000 by omega) rm_c), (Nat.le_trans (show 2000 + 120 * t + 12 + 0 ≤ 7000000 by omega) rm_s)⟩) hS (fun H locs hLI hz3 hS => ?_)
      refine lv_iload hx hb dL_law_968 (lv_at hl 1 rfl) ?_
      refine lv_icmp_eq (tgt := 975) hx hb dL_law_970 (by decide) (fun _ => ?_) (fun hc => absurd h0 hc)
      refine lv_iload hx hb dL_law_975 (lv_at hl 1 rfl) ?_
      refine lv_if_ne (tgt := 992) hx hb dL_law_977 (by decide) (fun _ => ?_) (fun hc => absurd hc (by decide))
      refine lv_goto (tgt := 2028) hx hb dL_law_992 (by decide) ?_
      refine W.widen (k := 100 + 20 * (t + 1)) (n := 2000 + 120 * (t + 1)) (by omega) (by omega) ?_
      exact kk H locs ls ad1 Z M1 f1 h00 hLI hR1 hS (lv_sub hl [2, 3, 4, 5, 6] rfl)
    | 1, hj =>
      cases hj
      refine lg_class hLI (fun r h => hA0 r (Nat.le_trans hS.1 h)) (vx_runSX (As := [.ref (ad 0 0), .int (xs (Int32.toNatClampNeg (nI (5 * t) + 1))), .int (xs (Int32.toNatClampNeg (nI (5 * t) + 2))), .ref q]) (rest := []) ⟨hx, hb, hml, hown, hts⟩ (mL_ofPlayer_x2 l hfl D G (lA ad Z H) ad Z cJ q f (xs (Int32.toNatClampNeg (nI (5 * t) + 1))) (xs (Int32.toNatClampNeg (nI (5 * t) + 2)))  hc) (vx_cwSW 4 hts gL_law_L_ofPlayer rfl rfl rfl (by decide +kernel) ⟨Nat.le_of_ble_eq_true rfl, Nat.le_of_ble_eq_true rfl⟩) (lg_preS hLI (fun r h => hA0 r (Nat.le_trans hS.1 h)) hK hKJ hE hF hNc hS) rfl rfl hl.1 rfl (lv_room (Nat.le_of_ble_eq_true rfl)) dL_law_941 ⟨(Nat.le_trans (show 100 + 20 * t + 2 ≤ 600000 by omega) rm_c), (Nat.le_trans (show 2000 + 120 * t + 12 ≤ 7000000 by omega) rm_s)⟩) hS (fun H locs ad1 f1 hP h00 hLI hz hS => ?_)
      rw [← h00] at hl
      refine lv_istore (lv' := [(5, .int 2), (0, .ref b), (1, .ref (ad1 0 0)), (2, .ref (mad 0)), (3, .ref q), (4, .int (nI (5 * t)))]) hx hb dL_law_944 hl (by decide) rfl (fun ls hl => ?_)
      refine lv_aload_n hx hb dL_law_946 rfl (lv_at hl 3 rfl) ?_
      refine lv_aload_n hx hb dL_law_947 rfl (lv_at hl 1 rfl) ?_
      refine lv_iload hx hb dL_law_948 (lv_at hl 5 rfl) ?_
      refine lv_iconst (v := 1) hx hb dL_law_950 (by decide) ?_
      refine lv_iadd hx hb dL_law_951 ?_
      refine va_sld hx hb hX hbl hbA hS (law_in hL ht (show (1 : Nat) ≤ 4 by omega)) dL_law_952 ?_
      refine lv_aload_n hx hb dL_law_953 rfl (lv_at hl 1 rfl) ?_
      refine lv_iload hx hb dL_law_954 (lv_at hl 5 rfl) ?_
      refine lv_iconst (v := 2) hx hb dL_law_956 (by decide) ?_
      refine lv_iadd hx hb dL_law_957 ?_
      refine va_sld hx hb hX hbl hbA hS (law_in hL ht (show (2 : Nat) ≤ 4 by omega)) dL_law_958 ?_
      refine lg_modeli hLI (va_runV (As := [.int (xs (Int32.toNatClampNeg (nI (5 * t) + 1))), .int (xs (Int32.toNatClampNeg (nI (5 * t) + 2)))]) (rest := []) ⟨hx, hb, hml, hown, hts⟩ (mX7_ofPlayer l D mad kI kZ M (xs (Int32.toNatClampNeg (nI (5 * t) + 1))) (xs (Int32.toNatClampNeg (nI (5 * t) + 2))) bb M1 hm) (cwV 2 hts gL_law_X7_ofPlayer rfl rfl rfl (by decide +kernel) ⟨Nat.le_of_ble_eq_true rfl, Nat.le_of_ble_eq_true rfl⟩) (mg_preV hLI.2.2.1 hmK hLI.2.2.2.1) rfl rfl hl.1 rfl (lv_room (Nat.le_of_ble_eq_true rfl)) dL_law_959 ⟨(Nat.le_trans (show 100 + 20 * t + 2 + 0 ≤ 600000 by omega) rm_c), (Nat.le_trans (show 2000 + 120 * t + 12 + 0 ≤ 7000000 by omega) rm_s)⟩) hS (fun H locs hLI hz2 hS => ?_)
      refine lv_istore (lv' := [(6, .int bb), (5, .int 2), (0, .ref b), (1, .ref (ad1 0 0)), (2, .ref (mad 0)), (3, .ref q), (4, .int (nI (5 * t)))]) hx hb dL_law_962 hl (by decide) rfl (fun ls hl => ?_)
      refine lv_aload_n hx hb dL_law_964 rfl (lv_at hl 4 rfl) ?_
      refine lg_modeli hLI (va_runV (As := []) (rest := []) ⟨hx, hb, hml, hown, hts⟩ (mX7_thrown l D mad kI kZ M1 (M1 0 0) rfl) (cwV 0 hts gL_law_X7_thrown rfl rfl rfl (by decide +kernel) ⟨Nat.le_of_ble_eq_true rfl, Nat.le_of_ble_eq_true rfl⟩) (mg_preV hLI.2.2.1 hmK hLI.2.2.2.1) rfl rfl hl.1 rfl (lv_room (Nat.le_of_ble_eq_true rfl)) dL_law_965 ⟨(Nat.le_trans (show 100 + 20 * t + 2 + 0 ≤ 600000 by omega) rm_c), (Nat.le_trans (show 2000 + 120 * t + 12 + 0 ≤ 7000000 by omega) rm_s)⟩) hS (fun H locs hLI hz3 hS => ?_)
      refine lv_iload hx hb dL_law_968 (lv_at hl 1 rfl) ?_
      refine lv_icmp_eq (tgt := 975) hx hb dL_law_970 (by decide) (fun _ => ?_) (fun hc => absurd h0 hc)
      refine lv_iload hx hb dL_law_975 (lv_at hl 1 rfl) ?_
      refine lv_if_ne (tgt := 992) hx hb dL_law_977 (by decide) (fun _ => ?_) (fun hc => absurd hc (by decide))
      refine lv_goto (tgt := 2028) hx hb dL_law_992 (by decide) ?_
      refine W.widen (k := 100 + 20 * (t + 1)) (n := 2000 + 120 * (t + 1)) (by omega) (by omega) ?_
      exact kk H locs ls ad1 Z M1 f1 h00 hLI hR1 hS (lv_sub hl [2, 3, 4, 5, 6] rfl)
    | j + 2, hj => cases hj
set_option maxHeartbeats 4000000 in
set_option maxRecDepth 100000 in
theorem law_note (hx : p.tables.exec = Jvm.exec) (hb : c.code = cL_law) (hml : c.maxLocals = 7) (hown : s.vm.findClass RL = some m.cls) (hts : ∀ w ∈ wsL_law, w.before #[Value.ref b] s = true) (hX : va_X b L xs s s.heap) (hbl : b < s.heap.size) (hfl : l.stackTraces = false) (hK : cK D G s) (hmK : mK D kI kZ s) (hKJ : va_K D vwCl [(cJ, .long)] s) (hE : cE A0 s s.heap) (hF : cF G A0 s s.heap) (hNc : lNc s) (hbA : ¬ A0 b) (hA0 : ∀ r, s.heap.size ≤ r → A0 r) {R R1 : CZ → MT → Prop} (hst : st_note R R1) {t : Nat} (hL : L ≤ 2560) (ht : 5 * t + 5 ≤ L) (hLI : lI D G ad Z mad kI kZ M cJ q f A0 H) (hR : R Z M) (hS : va_S A0 s.heap H locs) (hl : lv_has ls 7 [(0, .ref b), (1, .ref (ad 0 0)), (2, .ref (mad 0)), (3, .ref q), (4, .int (nI (5 * t)))])
    (kk : ∀ (H1 : Heap) (locs1 : List Loc) (ls1 : Array Slot) (ad1 : Nat → Nat → Nat) (Z1 : CZ) (M1 : MT) (f1 : Nat → Int64), ad1 0 0 = ad 0 0 → lI D G ad1 Z1 mad kI kZ M1 cJ q f1 A0 H1 → R1 Z1 M1 → va_S A0 s.heap H1 locs1 → lv_has ls1 7 [(0, .ref b), (1, .ref (ad1 0 0)), (2, .ref (mad 0)), (3, .ref q), (4, .int (nI (5 * t)))] → W p l e room_1 s m #[Value.ref b] below meth c H1 locs1 (100 + 20 * (t + 1)) (2000 + 120 * (t + 1)) Q (F0 m 2028 ls1 [])) : W p l e room_1 s m #[Value.ref b] below meth c H locs (100 + 20 * t) (2000 + 120 * t) Q (F0 m 995 ls []) := by
  have ht5 : t < 512 := by omega
  refine lv_aload_n hx hb dL_law_995 rfl (lv_at hl 1 rfl) ?_
  refine lv_aload_n hx hb dL_law_996 rfl (lv_at hl 0 rfl) ?_
  refine lv_iload hx hb dL_law_997 (lv_at hl 4 rfl) ?_
  refine lv_iconst (v := 1) hx hb dL_law_999 (by decide) ?_
  refine lv_iadd hx hb dL_law_1000 ?_
  refine va_sld hx hb hX hbl hbA hS (law_in hL ht (show (1 : Nat) ≤ 4 by omega)) dL_law_1001 ?_
  refine lv_aload_n hx hb dL_law_1002 rfl (lv_at hl 0 rfl) ?_
  refine lv_iload hx hb dL_law_1003 (lv_at hl 4 rfl) ?_
  refine lv_iconst (v := 2) hx hb dL_law_1005 (by decide) ?_
  refine lv_iadd hx hb dL_law_1006 ?_
  refine va_sld hx hb hX hbl hbA hS (law_in hL ht (show (2 : Nat) ≤ 4 by omega)) dL_law_1007 ?_
  refine lv_aload_n hx hb dL_law_1008 rfl (lv_at hl 3 rfl) ?_
  obtain ⟨bb, M1, Z1, hm, hR1, hw⟩ := hst Z M hR (xs (Int32.toNatClampNeg (nI (5 * t) + 1))) (xs (Int32.toNatClampNeg (nI (5 * t) + 2)))
  rcases hw with ⟨hc, h0⟩ | ⟨j, cd, hc, hj, h0⟩
  · refine lg_class hLI (fun r h => hA0 r (Nat.le_trans hS.1 h)) (vx_runSX (As := [.ref (ad 0 0), .int (xs (Int32.toNatClampNeg (nI (5 * t) + 1))), .int (xs (Int32.toNatClampNeg (nI (5 * t) + 2))), .ref q]) (rest := []) ⟨hx, hb, hml, hown, hts⟩ (mL_note l hfl D G (lA ad Z H) ad Z cJ q f (xs (Int32.toNatClampNeg (nI (5 * t) + 1))) (xs (Int32.toNatClampNeg (nI (5 * t) + 2))) bb Z1 hc) (vx_cwSW 4 hts gL_law_L_note rfl rfl rfl (by decide +kernel) ⟨Nat.le_of_ble_eq_true rfl, Nat.le_of_ble_eq_true rfl⟩) (lg_preS hLI (fun r h => hA0 r (Nat.le_trans hS.1 h)) hK hKJ hE hF hNc hS) rfl rfl hl.1 rfl (lv_room (Nat.le_of_ble_eq_true rfl)) dL_law_1009 ⟨(Nat.le_trans (show 100 + 20 * t + 3 ≤ 600000 by omega) rm_c), (Nat.le_trans (show 2000 + 120 * t + 18 ≤ 7000000 by omega) rm_s)⟩) hS (fun H locs ad1 f1 hP h00 hLI hz hS => ?_)
    rw [← h00] at hl
    refine lv_istore (lv' := [(5, .int 0), (0, .ref b), (1, .ref (ad1 0 0)), (2, .ref (mad 0)), (3, .ref q), (4, .int (nI (5 * t)))]) hx hb dL_law_1012 hl (by decide) rfl (fun ls hl => ?_)
    refine lv_aload_n hx hb dL_law_1014 rfl (lv_at hl 3 rfl) ?_
    refine lv_aload_n hx hb dL_law_1015 rfl (lv_at hl 1 rfl) ?_
    refine lv_iload hx hb dL_law_1016 (lv_at hl 5 rfl) ?_
    refine lv_iconst (v := 1) hx hb dL_law_1018 (by decide) ?_
    refine lv_iadd hx hb dL_law_1019 ?_
    refine va_sld hx hb hX hbl hbA hS (law_in hL ht (show (1 : Nat) ≤ 4 by omega)) dL_law_1020 ?_
    refine lv_aload_n hx hb dL_law_1021 rfl (lv_at hl 1 rfl) ?_
    refine lv_iload hx hb dL_law_1022 (lv_at hl 5 rfl) ?_
    refine lv_iconst (v := 2) hx hb dL_law_1024 (by decide) ?_
    refine lv_iadd hx hb dL_law_1025 ?_
    refine va_sld hx hb hX hbl hbA hS (law_in hL ht (show (2 : Nat) ≤ 4 by omega)) dL_law_1026 ?_
    refine lg_modeli hLI (va_runV (As := [.int (xs (Int32.toNatClampNeg (nI (5 * t) + 1))), .int (xs (Int32.toNatClampNeg (nI (5 * t) + 2)))]) (rest := []) ⟨hx, hb, hml, hown, hts⟩ (mX7_note l D mad kI kZ M (xs (Int32.toNatClampNeg (nI (5 * t) + 1))) (xs (Int32.toNatClampNeg (nI (5 * t) + 2))) bb M1 hm) (cwV 2 hts gL_law_X7_note rfl rfl rfl (by decide +kernel) ⟨Nat.le_of_ble_eq_true rfl, Nat.le_of_ble_eq_true rfl⟩) (mg_preV hLI.2.2.1 hmK hLI.2.2.2.1) rfl rfl hl.1 rfl (lv_room (Nat.le_of_ble_eq_true rfl)) dL_law_1027 ⟨(Nat.le_trans (show 100 + 20 * t + 3 + 0 ≤ 600000 by omega) rm_c), (Nat.le_trans (show 2000 + 120 * t + 18 + 0 ≤ 7000000 by omega) rm_s)⟩) hS (fun H locs hLI hz2 hS => ?_)
    refine lv_istore (lv' := [(6, .int bb), (5, .int 0), (0, .ref b), (1, .ref (ad1 0 0)), (2, .ref (mad 0)), (3, .ref q), (4, .int (nI (5 * t)))]) hx hb dL_law_1030 hl (by decide) rfl (fun ls hl => ?_)
    refine lv_aload_n hx hb dL_law_1032 rfl (lv_at hl 4 rfl) ?_
    refine lg_modeli hLI (va_runV (As := []) (rest := []) ⟨hx, hb, hml, hown, hts⟩ (mX7_thrown l D mad kI kZ M1 (M1 0 0) rfl) (cwV 0 hts gL_law_X7_thrown rfl rfl rfl (by decide +kernel) ⟨Nat.le_of_ble_eq_true rfl, Nat.le_of_ble_eq_true rfl⟩) (mg_preV hLI.2.2.1 hmK hLI.2.2.2.1) rfl rfl hl.1 rfl (lv_room (Nat.le_of_ble_eq_true rfl)) dL_law_1033 ⟨(Nat.le_trans (show 100 + 20 * t + 3 + 0 ≤ 600000 by omega) rm_c), (Nat.le_trans (show 2000 + 120 * t + 18 + 0 ≤ 7000000 by omega) rm_s)⟩) hS (fun H locs hLI hz3 hS => ?_)
    refine lv_iload hx hb dL_law_1036 (lv_at hl 1 rfl) ?_
    refine lv_icmp_eq (tgt := 1043) hx hb dL_law_1038 (by decide) (fun _ => ?_) (fun hc => absurd h0 hc)
    refine lv_iload hx hb dL_law_1043 (lv_at hl 1 rfl) ?_
    refine lv_if_ne (tgt := 1060) hx hb dL_law_1045 (by decide) (fun hc => absurd rfl hc) (fun _ => ?_)
    refine lv_aload_n hx hb dL_law_1048 rfl (lv_at hl 5 rfl) ?_
    refine lv_iconst (v := 0) hx hb dL_law_1049 (by decide) ?_
    refine va_lald hx hb hKJ (iw_P1 hLI.2.2.2.2.1) 0 0 rfl rfl (show ¬ ((0 : Int32) < 0 ∨ 1 ≤ (0 : Int32).toNatClampNeg) from by decide) dL_law_1050 ?_
    rw [show f1 (0 : Int32).toNatClampNeg = bb.toInt64 from hP]
    refine lv_iload hx hb dL_law_1051 (lv_at hl 0 rfl) ?_
    refine lv_i2l hx hb (v := bb.toInt64) dL_law_1053 rfl ?_
    refine lg_lcmp hx hb dL_law_1054 ?_
    refine lv_if_eq (tgt := 1060) hx hb dL_law_1055 (by decide) (fun _ => ?_) (fun hc => absurd rfl hc)
    refine lv_goto (tgt := 2028) hx hb dL_law_1060 (by decide) ?_
    refine W.widen (k := 100 + 20 * (t + 1)) (n := 2000 + 120 * (t + 1)) (by omega) (by omega) ?_
    exact kk H locs ls ad1 Z1 M1 f1 h00 hLI hR1 hS (lv_sub hl [2, 3, 4, 5, 6] rfl)
  · match j, hj with
    | 0, hj =>
      cases hj
      refine lg_class hLI (fun r h => hA0 r (Nat.le_trans hS.1 h)) (vx_runSX (As := [.ref (ad 0 0), .int (xs (Int32.toNatClampNeg (nI (5 * t) + 1))), .int (xs (Int32.toNatClampNeg (nI (5 * t) + 2))), .ref q]) (rest := []) ⟨hx, hb, hml, hown, hts⟩ (mL_note_x1 l hfl D G (lA ad Z H) ad Z cJ q f (xs (Int32.toNatClampNeg (nI (5 * t) + 1))) (xs (Int32.toNatClampNeg (nI (5 * t) + 2))) Z1 hc) (vx_cwSW 4 hts gL_law_L_note rfl rfl rfl (by decide +kernel) ⟨Nat.le_of_ble_eq_true rfl, Nat.le_of_ble_eq_true rfl⟩) (lg_preS hLI (fun r h => hA0 r (Nat.le_trans hS.1 h)) hK hKJ hE hF hNc hS) rfl rfl hl.1 rfl (lv_room (Nat.le_of_ble_eq_true rfl)) dL_law_1009 ⟨(Nat.le_trans (show 100 + 20 * t + 3 ≤ 600000 by omega) rm_c), (Nat.le_trans (show 2000 + 120 * t + 18 ≤ 7000000 by omega) rm_s)⟩) hS (fun H locs ad1 f1 hP h00 hLI hz hS => ?_)
      rw [← h00] at hl
      refine lv_istore (lv' := [(5, .int 1), (0, .ref b), (1, .ref (ad1 0 0)), (2, .ref (mad 0)), (3, .ref q), (4, .int (nI (5 * t)))]) hx hb dL_law_1012 hl (by decide) rfl (fun ls hl => ?_)
      refine lv_aload_n hx hb dL_law_1014 rfl (lv_at hl 3 rfl) ?_
      refine lv_aload_n hx hb dL_law_1015 rfl (lv_at hl 1 rfl) ?_
      refine lv_iload hx hb dL_law_1016 (lv_at hl 5 rfl) ?_
      refine lv_iconst (v := 1) hx hb dL_law_1018 (by decide) ?_
      refine lv_iadd hx hb dL_law_1019 ?_
      refine va_sld hx hb hX hbl hbA hS (law_in hL ht (show (1 : Nat) ≤ 4 by omega)) dL_law_1020 ?_
      refine lv_aload_n hx hb dL_law_1021 rfl (lv_at hl 1 rfl) ?_
      refine lv_iload hx hb dL_law_1022 (lv_at hl 5 rfl) ?_
      refine lv_iconst (v := 2) hx hb dL_law_1024 (by decide) ?_
      refine lv_iadd hx hb dL_law_1025 ?_
      refine va_sld hx hb hX hbl hbA hS (law_in hL ht (show (2 : Nat) ≤ 4 by omega)) dL_law_1026 ?_
      refine lg_modeli hLI (va_runV (As := [.int (xs (Int32.toNatClampNeg (nI (5 * t) + 1))), .int (xs (Int32.toNatClampNeg (nI (5 * t) + 2)))]) (rest := []) ⟨hx, hb, hml, hown, hts⟩ (mX7_note l D mad kI kZ M (xs (Int32.toNatClampNeg (nI (5 * t) + 1))) (xs (Int32.toNatClampNeg (nI (5 * t) + 2))) bb M1 hm) (cwV 2 hts gL_law_X7_note rfl rfl rfl (by decide +kernel) ⟨Nat.le_of_ble_eq_true rfl, Nat.le_of_ble_eq_true rfl⟩) (mg_preV hLI.2.2.1 hmK hLI.2.2.2.1) rfl rfl hl.1 rfl (lv_room (Nat.le_of_ble_eq_true rfl)) dL_law_1027 ⟨(Nat.le_trans (show 100 + 20 * t + 3 + 0 ≤ 600000 by omega) rm_c), (Nat.le_trans (show 2000 + 120 * t + 18 + 0 ≤ 7000000 by omega) rm_s)⟩) hS (fun H locs hLI hz2 hS => ?_)
      refine lv_istore (lv' := [(6, .int bb), (5, .int 1), (0, .ref b), (1, .ref (ad1 0 0)), (2, .ref (mad 0)), (3, .ref q), (4, .int (nI (5 * t)))]) hx hb dL_law_1030 hl (by decide) rfl (fun ls hl => ?_)
      refine lv_aload_n hx hb dL_law_1032 rfl (lv_at hl 4 rfl) ?_
      refine lg_modeli hLI (va_runV (As := []) (rest := []) ⟨hx, hb, hml, hown, hts⟩ (mX7_thrown l D mad kI kZ M1 (M1 0 0) rfl) (cwV 0 hts gL_law_X7_thrown rfl rfl rfl (by decide +kernel) ⟨Nat.le_of_ble_eq_true rfl, Nat.le_of_ble_eq_true rfl⟩) (mg_preV hLI.2.2.1 hmK hLI.2.2.2.1) rfl rfl hl.1 rfl (lv_room (Nat.le_of_ble_eq_true rfl)) dL_law_1033 ⟨(Nat.le_trans (show 100 + 20 * t + 3 + 0 ≤ 600000 by omega) rm_c), (Nat.le_trans (show 2000 + 120 * t + 18 + 0 ≤ 7000000 by omega) rm_s)⟩) hS (fun H locs hLI hz3 hS => ?_)
      refine lv_iload hx hb dL_law_1036 (lv_at hl 1 rfl) ?_
      refine lv_icmp_eq (tgt := 1043) hx hb dL_law_1038 (by decide) (fun _ => ?_) (fun hc => absurd h0 hc)
      refine lv_iload hx hb dL_law_1043 (lv_at hl 1 rfl) ?_
      refine lv_if_ne (tgt := 1060) hx hb dL_law_1045 (by decide) (fun _ => ?_) (fun hc => absurd hc (by decide))
      refine lv_goto (tgt := 2028) hx hb dL_law_1060 (by decide) ?_
      refine W.widen (k := 100 + 20 * (t + 1)) (n := 2000 + 120 * (t + 1)) (by omega) (by omega) ?_
      exact kk H locs ls ad1 Z1 M1 f1 h00 hLI hR1 hS (lv_sub hl [2, 3, 4, 5, 6] rfl)
    | 1, hj =>
      cases hj
      refine lg_class hLI (fun r h => hA0 r (Nat.le_trans hS.1 h)) (vx_runSX (As := [.ref (ad 0 0), .int (xs (Int32.toNatClampNeg (nI (5 * t) + 1))), .int (xs (Int32.toNatClampNeg (nI (5 * t) + 2))), .ref q]) (rest := []) ⟨hx, hb, hml, hown, hts⟩ (mL_note_x2 l hfl D G (lA ad Z H) ad Z cJ q f (xs (Int32.toNatClampNeg (nI (5 * t) + 1))) (xs (Int32.toNatClampNeg (nI (5 * t) + 2))) Z1 hc) (vx_cwSW 4 hts gL_law_L_note rfl rfl rfl (by decide +kernel) ⟨Nat.le_of_ble_eq_true rfl, Nat.le_of_ble_eq_true rfl⟩) (lg_preS hLI (fun r h => hA0 r (Nat.le_trans hS.1 h)) hK hKJ hE hF hNc hS) rfl rfl hl.1 rfl (lv_room (Nat.le_of_ble_eq_true rfl)) dL_law_1009 ⟨(Nat.le_trans (show 100 + 20 * t + 3 ≤ 600000 by omega) rm_c), (Nat.le_trans (show 2000 + 120 * t + 18 ≤ 7000000 by omega) rm_s)⟩) hS (fun H locs ad1 f1 hP h00 hLI hz hS => ?_)
      rw [← h00] at hl
      refine lv_istore (lv' := [(5, .int 2), (0, .ref b), (1, .ref (ad1 0 0)), (2, .ref (mad 0)), (3, .ref q), (4, .int (nI (5 * t)))]) hx hb dL_law_1012 hl (by decide) rfl (fun ls hl => ?_)
      refine lv_aload_n hx hb dL_law_1014 rfl (lv_at hl 3 rfl) ?_
      refine lv_aload_n hx hb dL_law_1015 rfl (lv_at hl 1 rfl) ?_
      refine lv_iload hx hb dL_law_1016 (lv_at hl 5 rfl) ?_
      refine lv_iconst (v := 1) hx hb dL_law_1018 (by decide) ?_
      refine lv_iadd hx hb dL_law_1019 ?_
      refine va_sld hx hb hX hbl hbA hS (law_in hL ht (show (1 : Nat) ≤ 4 by omega)) dL_law_1020 ?_
      refine lv_aload_n hx hb dL_law_1021 rfl (lv_at hl 1 rfl) ?_
      refine lv_iload hx hb dL_law_1022 (lv_at hl 5 rfl) ?_
      refine lv_iconst (v := 2) hx hb dL_law_1024 (by decide) ?_
      refine lv_iadd hx hb dL_law_1025 ?_
      refine va_sld hx hb hX hbl hbA hS (law_in hL ht (show (2 : Nat) ≤ 4 by omega)) dL_law_1026 ?_
      refine lg_modeli hLI (va_runV (As := [.int (xs (Int32.toNatClampNeg (nI (5 * t) + 1))), .int (xs (Int32.toNatClampNeg (nI (5 * t) + 2)))]) (rest := []) ⟨hx, hb, hml, hown, hts⟩ (mX7_note l D mad kI kZ M (xs (Int32.toNatClampNeg (nI (5 * t) + 1))) (xs (Int32.toNatClampNeg (nI (5 * t) + 2))) bb M1 hm) (cwV 2 hts gL_law_X7_note rfl rfl rfl (by decide +kernel) ⟨Nat.le_of_ble_eq_true rfl, Nat.le_of_ble_eq_true rfl⟩) (mg_preV hLI.2.2.1 hmK hLI.2.2.2.1) rfl rfl hl.1 rfl (lv_room (Nat.le_of_ble_eq_true rfl)) dL_law_1027 ⟨(Nat.le_trans (show 100 + 20 * t + 3 + 0 ≤ 600000 by omega) rm_c), (Nat.le_trans (show 2000 + 120 * t + 18 + 0 ≤ 7000000 by omega) rm_s)⟩) hS (fun H locs hLI hz2 hS => ?_)
      refine lv_istore (lv' := [(6, .int bb), (5, .int 2), (0, .ref b), (1, .ref (ad1 0 0)), (2, .ref (mad 0)), (3, .ref q), (4, .int (nI (5 * t)))]) hx hb dL_law_1030 hl (by decide) rfl (fun ls hl => ?_)
      refine lv_aload_n hx hb dL_law_1032 rfl (lv_at hl 4 rfl) ?_
      refine lg_modeli hLI (va_runV (As := []) (rest := []) ⟨hx, hb, hml, hown, hts⟩ (mX7_thrown l D mad kI kZ M1 (M1 0 0) rfl) (cwV 0 hts gL_law_X7_thrown rfl rfl rfl (by decide +kernel) ⟨Nat.le_of_ble_eq_true rfl, Nat.le_of_ble_eq_true rfl⟩) (mg_preV hLI.2.2.1 hmK hLI.2.2.2.1) rfl rfl hl.1 rfl (lv_room (Nat.le_of_ble_eq_true rfl)) dL_law_1033 ⟨(Nat.le_trans (show 100 + 20 * t + 3 + 0 ≤ 600000 by omega) rm_c), (Nat.le_trans (show 2000 + 120 * t + 18 + 0 ≤ 7000000 by omega) rm_s)⟩) hS (fun H locs hLI hz3 hS => ?_)
      refine lv_iload hx hb dL_law_1036 (lv_at hl 1 rfl) ?_
      refine lv_icmp_eq (tgt := 1043) hx hb dL_law_1038 (by decide) (fun _ => ?_) (fun hc => absurd h0 hc)
      refine lv_iload hx hb dL_law_1043 (lv_at hl 1 rfl) ?_
      refine lv_if_ne (tgt := 1060) hx hb dL_law_1045 (by decide) (fun _ => ?_) (fun hc => absurd hc (by decide))
      refine lv_goto (tgt := 2028) hx hb dL_law_1060 (by decide) ?_
      refine W.widen (k := 100 + 20 * (t + 1)) (n := 2000 + 120 * (t + 1)) (by omega) (by omega) ?_
      exact kk H locs ls ad1 Z1 M1 f1 h00 hLI hR1 hS (lv_sub hl [2, 3, 4, 5, 6] rfl)
    | 2, hj =>
      cases hj
      refine lg_class hLI (fun r h => hA0 r (Nat.le_trans hS.1 h)) (vx_runSX (As := [.ref (ad 0 0), .int (xs (Int32.toNatClampNeg (nI (5 * t) + 1))), .int (xs (Int32.toNatClampNeg (nI (5 * t) + 2))), .ref q]) (rest := []) ⟨hx, hb, hml, hown, hts⟩ (mL_note_x3 l hfl D G (lA ad Z H) ad Z cJ q f (xs (Int32.toNatClampNeg (nI (5 * t) + 1))) (xs (Int32.toNatClampNeg (nI (5 * t) + 2))) Z1 hc) (vx_cwSW 4 hts gL_law_L_note rfl rfl rfl (by decide +kernel) ⟨Nat.le_of_ble_eq_true rfl, Nat.le_of_ble_eq_true rfl⟩) (lg_preS hLI (fun r h => hA0 r (Nat.le_trans hS.1 h)) hK hKJ hE hF hNc hS) rfl rfl hl.1 rfl (lv_room (Nat.le_of_ble_eq_true rfl)) dL_law_1009 ⟨(Nat.le_trans (show 100 + 20 * t + 3 ≤ 600000 by omega) rm_c), (Nat.le_trans (show 2000 + 120 * t + 18 ≤ 7000000 by omega) rm_s)⟩) hS (fun H locs ad1 f1 hP h00 hLI hz hS => ?_)
      rw [← h00] at hl
      refine lv_istore (lv' := [(5, .int 3), (0, .ref b), (1, .ref (ad1 0 0)), (2, .ref (mad 0)), (3, .ref q), (4, .int (nI (5 * t)))]) hx hb dL_law_1012 hl (by decide) rfl (fun ls hl => ?_)
      refine lv_aload_n hx hb dL_law_1014 rfl (lv_at hl 3 rfl) ?_
      refine lv_aload_n hx hb dL_law_1015 rfl (lv_at hl 1 rfl) ?_
      refine lv_iload hx hb dL_law_1016 (lv_at hl 5 rfl) ?_
      refine lv_iconst (v := 1) hx hb dL_law_1018 (by decide) ?_
      refine lv_iadd hx hb dL_law_1019 ?_
      refine va_sld hx hb hX hbl hbA hS (law_in hL ht (show (1 : Nat) ≤ 4 by omega)) dL_law_1020 ?_
      refine lv_aload_n hx hb dL_law_1021 rfl (lv_at hl 1 rfl) ?_
      refine lv_iload hx hb dL_law_1022 (lv_at hl 5 rfl) ?_
      refine lv_iconst (v := 2) hx hb dL_law_1024 (by decide) ?_
      refine lv_iadd hx hb dL_law_1025 ?_
      refine va_sld hx hb hX hbl hbA hS (law_in hL ht (show (2 : Nat) ≤ 4 by omega)) dL_law_1026 ?_
      refine lg_modeli hLI (va_runV (As := [.int (xs (Int32.toNatClampNeg (nI (5 * t) + 1))), .int (xs (Int32.toNatClampNeg (nI (5 * t) + 2)))]) (rest := []) ⟨hx, hb, hml, hown, hts⟩ (mX7_note l D mad kI kZ M (xs (Int32.toNatClampNeg (nI (5 * t) + 1))) (xs (Int32.toNatClampNeg (nI (5 * t) + 2))) bb M1 hm) (cwV 2 hts gL_law_X7_note rfl rfl rfl (by decide +kernel) ⟨Nat.le_of_ble_eq_true rfl, Nat.le_of_ble_eq_true rfl⟩) (mg_preV hLI.2.2.1 hmK hLI.2.2.2.1) rfl rfl hl.1 rfl (lv_room (Nat.le_of_ble_eq_true rfl)) dL_law_1027 ⟨(Nat.le_trans (show 100 + 20 * t + 3 + 0 ≤ 600000 by omega) rm_c), (Nat.le_trans (show 2000 + 120 * t + 18 + 0 ≤ 7000000 by omega) rm_s)⟩) hS (fun H locs hLI hz2 hS => ?_)
      refine lv_istore (lv' := [(6, .int bb), (5, .int 3), (0, .ref b), (1, .ref (ad1 0 0)), (2, .ref (mad 0)), (3, .ref q), (4, .int (nI (5 * t)))]) hx hb dL_law_1030 hl (by decide) rfl (fun ls hl => ?_)
      refine lv_aload_n hx hb dL_law_1032 rfl (lv_at hl 4 rfl) ?_
      refine lg_modeli hLI (va_runV (As := []) (rest := []) ⟨hx, hb, hml, hown, hts⟩ (mX7_thrown l D mad kI kZ M1 (M1 0 0) rfl) (cwV 0 hts gL_law_X7_thrown rfl rfl rfl (by decide +kernel) ⟨Nat.le_of_ble_eq_true rfl, Nat.le_of_ble_eq_true rfl⟩) (mg_preV hLI.2.2.1 hmK hLI.2.2.2.1) rfl rfl hl.1 rfl (lv_room (Nat.le_of_ble_eq_true rfl)) dL_law_1033 ⟨(Nat.le_trans (show 100 + 20 * t + 3 + 0 ≤ 600000 by omega) rm_c), (Nat.le_trans (show 2000 + 120 * t + 18 + 0 ≤ 7000000 by omega) rm_s)⟩) hS (fun H locs hLI hz3 hS => ?_)
      refine lv_iload hx hb dL_law_1036 (lv_at hl 1 rfl) ?_
      refine lv_icmp_eq (tgt := 1043) hx hb dL_law_1038 (by decide) (fun _ => ?_) (fun hc => absurd h0 hc)
      refine lv_iload hx hb dL_law_1043 (lv_at hl 1 rfl) ?_
      refine lv_if_ne (tgt := 1060) hx hb dL_law_1045 (by decide) (fun _ => ?_) (fun hc => absurd hc (by decide))
      refine lv_goto (tgt := 2028) hx hb dL_law_1060 (by decide) ?_
      refine W.widen (k := 100 + 20 * (t + 1)) (n := 2000 + 120 * (t + 1)) (by omega) (by omega) ?_
      exact kk H locs ls ad1 Z1 M1 f1 h00 hLI hR1 hS (lv_sub hl [2, 3, 4, 5, 6] rfl)
    | j + 3, hj => cases hj
set_option maxHeartbeats 4000000 in
set_option maxRecDepth 100000 in
theorem law_change (hx : p.tables.exec = Jvm.exec) (hb : c.code = cL_law) (hml : c.maxLocals = 7) (hown : s.vm.findClass RL = some m.cls) (hts : ∀ w ∈ wsL_law, w.before #[Value.ref b] s = true) (hX : va_X b L xs s s.heap) (hbl : b < s.heap.size) (hfl : l.stackTraces = false) (hK : cK D G s) (hmK : mK D kI kZ s) (hKJ : va_K D vwCl [(cJ, .long)] s) (hE : cE A0 s s.heap) (hF : cF G A0 s s.heap) (hNc : lNc s) (hbA : ¬ A0 b) (hA0 : ∀ r, s.heap.size ≤ r → A0 r) {R R1 : CZ → MT → Prop} (hst : st_change R R1) {t : Nat} (hL : L ≤ 2560) (ht : 5 * t + 5 ≤ L) (hLI : lI D G ad Z mad kI kZ M cJ q f A0 H) (hR : R Z M) (hS : va_S A0 s.heap H locs) (hl : lv_has ls 7 [(0, .ref b), (1, .ref (ad 0 0)), (2, .ref (mad 0)), (3, .ref q), (4, .int (nI (5 * t)))])
    (kk : ∀ (H1 : Heap) (locs1 : List Loc) (ls1 : Array Slot) (ad1 : Nat → Nat → Nat) (Z1 : CZ) (M1 : MT) (f1 : Nat → Int64), ad1 0 0 = ad 0 0 → lI D G ad1 Z1 mad kI kZ M1 cJ q f1 A0 H1 → R1 Z1 M1 → va_S A0 s.heap H1 locs1 → lv_has ls1 7 [(0, .ref b), (1, .ref (ad1 0 0)), (2, .ref (mad 0)), (3, .ref q), (4, .int (nI (5 * t)))] → W p l e room_1 s m #[Value.ref b] below meth c H1 locs1 (100 + 20 * (t + 1)) (2000 + 120 * (t + 1)) Q (F0 m 2028 ls1 [])) : W p l e room_1 s m #[Value.ref b] below meth c H locs (100 + 20 * t) (2000 + 120 * t) Q (F0 m 1063 ls []) := by
  have ht5 : t < 512 := by omega
  refine lv_aload_n hx hb dL_law_1063 rfl (lv_at hl 1 rfl) ?_
  refine lv_aload_n hx hb dL_law_1064 rfl (lv_at hl 0 rfl) ?_
  refine lv_iload hx hb dL_law_1065 (lv_at hl 4 rfl) ?_
  refine lv_iconst (v := 1) hx hb dL_law_1067 (by decide) ?_
  refine lv_iadd hx hb dL_law_1068 ?_
  refine va_sld hx hb hX hbl hbA hS (law_in hL ht (show (1 : Nat) ≤ 4 by omega)) dL_law_1069 ?_
  refine lv_aload_n hx hb dL_law_1070 rfl (lv_at hl 0 rfl) ?_
  refine lv_iload hx hb dL_law_1071 (lv_at hl 4 rfl) ?_
  refine lv_iconst (v := 2) hx hb dL_law_1073 (by decide) ?_
  refine lv_iadd hx hb dL_law_1074 ?_
  refine va_sld hx hb hX hbl hbA hS (law_in hL ht (show (2 : Nat) ≤ 4 by omega)) dL_law_1075 ?_
  refine lv_aload_n hx hb dL_law_1076 rfl (lv_at hl 0 rfl) ?_
  refine lv_iload hx hb dL_law_1077 (lv_at hl 4 rfl) ?_
  refine lv_iconst (v := 3) hx hb dL_law_1079 (by decide) ?_
  refine lv_iadd hx hb dL_law_1080 ?_
  refine va_sld hx hb hX hbl hbA hS (law_in hL ht (show (3 : Nat) ≤ 4 by omega)) dL_law_1081 ?_
  refine lv_aload_n hx hb dL_law_1082 rfl (lv_at hl 3 rfl) ?_
  obtain ⟨bb, M1, Z1, hm, hR1, hw⟩ := hst Z M hR (xs (Int32.toNatClampNeg (nI (5 * t) + 1))) (xs (Int32.toNatClampNeg (nI (5 * t) + 2))) (xs (Int32.toNatClampNeg (nI (5 * t) + 3)))
  rcases hw with ⟨hc, h0⟩ | ⟨j, cd, hc, hj, h0⟩
  · refine lg_class hLI (fun r h => hA0 r (Nat.le_trans hS.1 h)) (vx_runSX (As := [.ref (ad 0 0), .int (xs (Int32.toNatClampNeg (nI (5 * t) + 1))), .int (xs (Int32.toNatClampNeg (nI (5 * t) + 2))), .int (xs (Int32.toNatClampNeg (nI (5 * t) + 3))), .ref q]) (rest := []) ⟨hx, hb, hml, hown, hts⟩ (mL_change l hfl D G (lA ad Z H) ad Z cJ q f (xs (Int32.toNatClampNeg (nI (5 * t) + 1))) (xs (Int32.toNatClampNeg (nI (5 * t) + 2))) (xs (Int32.toNatClampNeg (nI (5 * t) + 3))) bb Z1 hc) (vx_cwSW 5 hts gL_law_L_change rfl rfl rfl (by decide +kernel) ⟨Nat.le_of_ble_eq_true rfl, Nat.le_of_ble_eq_true rfl⟩) (lg_preS hLI (fun r h => hA0 r (Nat.le_trans hS.1 h)) hK hKJ hE hF hNc hS) rfl rfl hl.1 rfl (lv_room (Nat.le_of_ble_eq_true rfl)) dL_law_1083 ⟨(Nat.le_trans (show 100 + 20 * t + 3 ≤ 600000 by omega) rm_c), (Nat.le_trans (show 2000 + 120 * t + 18 ≤ 7000000 by omega) rm_s)⟩) hS (fun H locs ad1 f1 hP h00 hLI hz hS => ?_)
    rw [← h00] at hl
    refine lv_istore (lv' := [(5, .int 0), (0, .ref b), (1, .ref (ad1 0 0)), (2, .ref (mad 0)), (3, .ref q), (4, .int (nI (5 * t)))]) hx hb dL_law_1086 hl (by decide) rfl (fun ls hl => ?_)
    refine lv_aload_n hx hb dL_law_1088 rfl (lv_at hl 3 rfl) ?_
    refine lv_aload_n hx hb dL_law_1089 rfl (lv_at hl 1 rfl) ?_
    refine lv_iload hx hb dL_law_1090 (lv_at hl 5 rfl) ?_
    refine lv_iconst (v := 1) hx hb dL_law_1092 (by decide) ?_
    refine lv_iadd hx hb dL_law_1093 ?_
    refine va_sld hx hb hX hbl hbA hS (law_in hL ht (show (1 : Nat) ≤ 4 by omega)) dL_law_1094 ?_
    refine lv_aload_n hx hb dL_law_1095 rfl (lv_at hl 1 rfl) ?_
    refine lv_iload hx hb dL_law_1096 (lv_at hl 5 rfl) ?_
    refine lv_iconst (v := 2) hx hb dL_law_1098 (by decide) ?_
    refine lv_iadd hx hb dL_law_1099 ?_
    refine va_sld hx hb hX hbl hbA hS (law_in hL ht (show (2 : Nat) ≤ 4 by omega)) dL_law_1100 ?_
    refine lv_aload_n hx hb dL_law_1101 rfl (lv_at hl 1 rfl) ?_
    refine lv_iload hx hb dL_law_1102 (lv_at hl 5 rfl) ?_
    refine lv_iconst (v := 3) hx hb dL_law_1104 (by decide) ?_
    refine lv_iadd hx hb dL_law_1105 ?_
    refine va_sld hx hb hX hbl hbA hS (law_in hL ht (show (3 : Nat) ≤ 4 by omega)) dL_law_1106 ?_
    refine lg_modeli hLI (va_runV (As := [.int (xs (Int32.toNatClampNeg (nI (5 * t) + 1))), .int (xs (Int32.toNatClampNeg (nI (5 * t) + 2))), .int (xs (Int32.toNatClampNeg (nI (5 * t) + 3)))]) (rest := []) ⟨hx, hb, hml, hown, hts⟩ (mX7_change l D mad kI kZ M (xs (Int32.toNatClampNeg (nI (5 * t) + 1))) (xs (Int32.toNatClampNeg (nI (5 * t) + 2))) (xs (Int32.toNatClampNeg (nI (5 * t) + 3))) bb M1 hm) (cwV 3 hts gL_law_X7_change rfl rfl rfl (by decide +kernel) ⟨Nat.le_of_ble_eq_true rfl, Nat.le_of_ble_eq_true rfl⟩) (mg_preV hLI.2.2.1 hmK hLI.2.2.2.1) rfl rfl hl.1 rfl (lv_room (Nat.le_of_ble_eq_true rfl)) dL_law_1107 ⟨(Nat.le_trans (show 100 + 20 * t + 3 + 0 ≤ 600000 by omega) rm_c), (Nat.le_trans (show 2000 + 120 * t + 18 + 0 ≤ 7000000 by omega) rm_s)⟩) hS (fun H locs hLI hz2 hS => ?_)
    refine lv_istore (lv' := [(6, .int bb), (5, .int 0), (0, .ref b), (1, .ref (ad1 0 0)), (2, .ref (mad 0)), (3, .ref q), (4, .int (nI (5 * t)))]) hx hb dL_law_1110 hl (by decide) rfl (fun ls hl => ?_)
    refine lv_aload_n hx hb dL_law_1112 rfl (lv_at hl 4 rfl) ?_
    refine lg_modeli hLI (va_runV (As := []) (rest := []) ⟨hx, hb, hml, hown, hts⟩ (mX7_thrown l D mad kI kZ M1 (M1 0 0) rfl) (cwV 0 hts gL_law_X7_thrown rfl rfl rfl (by decide +kernel) ⟨Nat.le_of_ble_eq_true rfl, Nat.le_of_ble_eq_true rfl⟩) (mg_preV hLI.2.2.1 hmK hLI.2.2.2.1) rfl rfl hl.1 rfl (lv_room (Nat.le_of_ble_eq_true rfl)) dL_law_1113 ⟨(Nat.le_trans (show 100 + 20 * t + 3 + 0 ≤ 600000 by omega) rm_c), (Nat.le_trans (show 2000 + 120 * t + 18 + 0 ≤ 7000000 by omega) rm_s)⟩) hS (fun H locs hLI hz3 hS => ?_)
    refine lv_iload hx hb dL_law_1116 (lv_at hl 1 rfl) ?_
    refine lv_icmp_eq (tgt := 1123) hx hb dL_law_1118 (by decide) (fun _ => ?_) (fun hc => absurd h0 hc)
    refine lv_iload hx hb dL_law_1123 (lv_at hl 1 rfl) ?_
    refine lv_if_ne (tgt := 1140) hx hb dL_law_1125 (by decide) (fun hc => absurd rfl hc) (fun _ => ?_)
    refine lv_aload_n hx hb dL_law_1128 rfl (lv_at hl 5 rfl) ?_
    refine lv_iconst (v := 0) hx hb dL_law_1129 (by decide) ?_
    refine va_lald hx hb hKJ (iw_P1 hLI.2.2.2.2.1) 0 0 rfl rfl (show ¬ ((0 : Int32) < 0 ∨ 1 ≤ (0 : Int32).toNatClampNeg) from by decide) dL_law_1130 ?_
    rw [show f1 (0 : Int32).toNatClampNeg = bb.toInt64 from hP]
    refine lv_iload hx hb dL_law_1131 (lv_at hl 0 rfl) ?_
    refine lv_i2l hx hb (v := bb.toInt64) dL_law_1133 rfl ?_
    refine lg_lcmp hx hb dL_law_1134 ?_
    refine lv_if_eq (tgt := 1140) hx hb dL_law_1135 (by decide) (fun _ => ?_) (fun hc => absurd rfl hc)
    refine lv_goto (tgt := 2028) hx hb dL_law_1140 (by decide) ?_
    refine W.widen (k := 100 + 20 * (t + 1)) (n := 2000 + 120 * (t + 1)) (by omega) (by omega) ?_
    exact kk H locs ls ad1 Z1 M1 f1 h00 hLI hR1 hS (lv_sub hl [2, 3, 4, 5, 6] rfl)
  · match j, hj with
    | 0, hj =>
      cases hj
      refine lg_class hLI (fun r h => hA0 r (Nat.le_trans hS.1 h)) (vx_runSX (As := [.ref (ad 0 0), .int (xs (Int32.toNatClampNeg (nI (5 * t) + 1))), .int (xs (Int32.toNatClampNeg (nI (5 * t) + 2))), .int (xs (Int32.toNatClampNeg (nI (5 * t) + 3))), .ref q]) (rest := []) ⟨hx, hb, hml, hown, hts⟩ (mL_change_x1 l hfl D G (lA ad Z H) ad Z cJ q f (xs (Int32.toNatClampNeg (nI (5 * t) + 1))) (xs (Int32.toNatClampNeg (nI (5 * t) + 2))) (xs (Int32.toNatClampNeg (nI (5 * t) + 3))) Z1 hc) (vx_cwSW 5 hts gL_law_L_change rfl rfl rfl (by decide +kernel) ⟨Nat.le_of_ble_eq_true rfl, Nat.le_of_ble_eq_true rfl⟩) (lg_preS hLI (fun r h => hA0 r (Nat.le_trans hS.1 h)) hK hKJ hE hF hNc hS) rfl rfl hl.1 rfl (lv_room (Nat.le_of_ble_eq_true rfl)) dL_law_1083 ⟨(Nat.le_trans (show 100 + 20 * t + 3 ≤ 600000 by omega) rm_c), (Nat.le_trans (show 2000 + 120 * t + 18 ≤ 7000000 by omega) rm_s)⟩) hS (fun H locs ad1 f1 hP h00 hLI hz hS => ?_)
      rw [← h00] at hl
      refine lv_istore (lv' := [(5, .int 1), (0, .ref b), (1, .ref (ad1 0 0)), (2, .ref (mad 0)), (3, .ref q), (4, .int (nI (5 * t)))]) hx hb dL_law_1086 hl (by decide) rfl (fun ls hl => ?_)
      refine lv_aload_n hx hb dL_law_1088 rfl (lv_at hl 3 rfl) ?_
      refine lv_aload_n hx hb dL_law_1089 rfl (lv_at hl 1 rfl) ?_
      refine lv_iload hx hb dL_law_1090 (lv_at hl 5 rfl) ?_
      refine lv_iconst (v := 1) hx hb dL_law_1092 (by decide) ?_
      refine lv_iadd hx hb dL_law_1093 ?_
      refine va_sld hx hb hX hbl hbA hS (law_in hL ht (show (1 : Nat) ≤ 4 by omega)) dL_law_1094 ?_
      refine lv_aload_n hx hb dL_law_1095 rfl (lv_at hl 1 rfl) ?_
      refine lv_iload hx hb dL_law_1096 (lv_at hl 5 rfl) ?_
      refine lv_iconst (v := 2) hx hb dL_law_1098 (by decide) ?_
      refine lv_iadd hx hb dL_law_1099 ?_
      refine va_sld hx hb hX hbl hbA hS (law_in hL ht (show (2 : Nat) ≤ 4 by omega)) dL_law_1100 ?_
      refine lv_aload_n hx hb dL_law_1101 rfl (lv_at hl 1 rfl) ?_
      refine lv_iload hx hb dL_law_1102 (lv_at hl 5 rfl) ?_
      refine lv_iconst (v := 3) hx hb dL_law_1104 (by decide) ?_
      refine lv_iadd hx hb dL_law_1105 ?_
      refine va_sld hx hb hX hbl hbA hS (law_in hL ht (show (3 : Nat) ≤ 4 by omega)) dL_law_1106 ?_
      refine lg_modeli hLI (va_runV (As := [.int (xs (Int32.toNatClampNeg (nI (5 * t) + 1))), .int (xs (Int32.toNatClampNeg (nI (5 * t) + 2))), .int (xs (Int32.toNatClampNeg (nI (5 * t) + 3)))]) (rest := []) ⟨hx, hb, hml, hown, hts⟩ (mX7_change l D mad kI kZ M (xs (Int32.toNatClampNeg (nI (5 * t) + 1))) (xs (Int32.toNatClampNeg (nI (5 * t) + 2))) (xs (Int32.toNatClampNeg (nI (5 * t) + 3))) bb M1 hm) (cwV 3 hts gL_law_X7_change rfl rfl rfl (by decide +kernel) ⟨Nat.le_of_ble_eq_true rfl, Nat.le_of_ble_eq_true rfl⟩) (mg_preV hLI.2.2.1 hmK hLI.2.2.2.1) rfl rfl hl.1 rfl (lv_room (Nat.le_of_ble_eq_true rfl)) dL_law_1107 ⟨(Nat.le_trans (show 100 + 20 * t + 3 + 0 ≤ 600000 by omega) rm_c), (Nat.le_trans (show 2000 + 120 * t + 18 + 0 ≤ 7000000 by omega) rm_s)⟩) hS (fun H locs hLI hz2 hS => ?_)
      refine lv_istore (lv' := [(6, .int bb), (5, .int 1), (0, .ref b), (1, .ref (ad1 0 0)), (2, .ref (mad 0)), (3, .ref q), (4, .int (nI (5 * t)))]) hx hb dL_law_1110 hl (by decide) rfl (fun ls hl => ?_)
      refine lv_aload_n hx hb dL_law_1112 rfl (lv_at hl 4 rfl) ?_
      refine lg_modeli hLI (va_runV (As := []) (rest := []) ⟨hx, hb, hml, hown, hts⟩ (mX7_thrown l D mad kI kZ M1 (M1 0 0) rfl) (cwV 0 hts gL_law_X7_thrown rfl rfl rfl (by decide +kernel) ⟨Nat.le_of_ble_eq_true rfl, Nat.le_of_ble_eq_true rfl⟩) (mg_preV hLI.2.2.1 hmK hLI.2.2.2.1) rfl rfl hl.1 rfl (lv_room (Nat.le_of_ble_eq_true rfl)) dL_law_1113 ⟨(Nat.le_trans (show 100 + 20 * t + 3 + 0 ≤ 600000 by omega) rm_c), (Nat.le_trans (show 2000 + 120 * t + 18 + 0 ≤ 7000000 by omega) rm_s)⟩) hS (fun H locs hLI hz3 hS => ?_)
      refine lv_iload hx hb dL_law_1116 (lv_at hl 1 rfl) ?_
      refine lv_icmp_eq (tgt := 1123) hx hb dL_law_1118 (by decide) (fun _ => ?_) (fun hc => absurd h0 hc)
      refine lv_iload hx hb dL_law_1123 (lv_at hl 1 rfl) ?_
      refine lv_if_ne (tgt := 1140) hx hb dL_law_1125 (by decide) (fun _ => ?_) (fun hc => absurd hc (by decide))
      refine lv_goto (tgt := 2028) hx hb dL_law_1140 (by decide) ?_
      refine W.widen (k := 100 + 20 * (t + 1)) (n := 2000 + 120 * (t + 1)) (by omega) (by omega) ?_
      exact kk H locs ls ad1 Z1 M1 f1 h00 hLI hR1 hS (lv_sub hl [2, 3, 4, 5, 6] rfl)
    | 1, hj =>
      cases hj
      refine lg_class hLI (fun r h => hA0 r (Nat.le_trans hS.1 h)) (vx_runSX (As := [.ref (ad 0 0), .int (xs (Int32.toNatClampNeg (nI (5 * t) + 1))), .int (xs (Int32.toNatClampNeg (nI (5 * t) + 2))), .int (xs (Int32.toNatClampNeg (nI (5 * t) + 3))), .ref q]) (rest := []) ⟨hx, hb, hml, hown, hts⟩ (mL_change_x2 l hfl D G (lA ad Z H) ad Z cJ q f (xs (Int32.toNatClampNeg (nI (5 * t) + 1))) (xs (Int32.toNatClampNeg (nI (5 * t) + 2))) (xs (Int32.toNatClampNeg (nI (5 * t) + 3))) Z1 hc) (vx_cwSW 5 hts gL_law_L_change rfl rfl rfl (by decide +kernel) ⟨Nat.le_of_ble_eq_true rfl, Nat.le_of_ble_eq_true rfl⟩) (lg_preS hLI (fun r h => hA0 r (Nat.le_trans hS.1 h)) hK hKJ hE hF hNc hS) rfl rfl hl.1 rfl (lv_room (Nat.le_of_ble_eq_true rfl)) dL_law_1083 ⟨(Nat.le_trans (show 100 + 20 * t + 3 ≤ 600000 by omega) rm_c), (Nat.le_trans (show 2000 + 120 * t + 18 ≤ 7000000 by omega) rm_s)⟩) hS (fun H locs ad1 f1 hP h00 hLI hz hS => ?_)
      rw [← h00] at hl
      refine lv_istore (lv' := [(5, .int 2), (0, .ref b), (1, .ref (ad1 0 0)), (2, .ref (mad 0)), (3, .ref q), (4, .int (nI (5 * t)))]) hx hb dL_law_1086 hl (by decide) rfl (fun ls hl => ?_)
      refine lv_aload_n hx hb dL_law_1088 rfl (lv_at hl 3 rfl) ?_
      refine lv_aload_n hx hb dL_law_1089 rfl (lv_at hl 1 rfl) ?_
      refine lv_iload hx hb dL_law_1090 (lv_at hl 5 rfl) ?_
      refine lv_iconst (v := 1) hx hb dL_law_1092 (by decide) ?_
      refine lv_iadd hx hb dL_law_1093 ?_
      refine va_sld hx hb hX hbl hbA hS (law_in hL ht (show (1 : Nat) ≤ 4 by omega)) dL_law_1094 ?_
      refine lv_aload_n hx hb dL_law_1095 rfl (lv_at hl 1 rfl) ?_
      refine lv_iload hx hb dL_law_1096 (lv_at hl 5 rfl) ?_
      refine lv_iconst (v := 2) hx hb dL_law_1098 (by decide) ?_
      refine lv_iadd hx hb dL_law_1099 ?_
      refine va_sld hx hb hX hbl hbA hS (law_in hL ht (show (2 : Nat) ≤ 4 by omega)) dL_law_1100 ?_
      refine lv_aload_n hx hb dL_law_1101 rfl (lv_at hl 1 rfl) ?_
      refine lv_iload hx hb dL_law_1102 (lv_at hl 5 rfl) ?_
      refine lv_iconst (v := 3) hx hb dL_law_1104 (by decide) ?_
      refine lv_iadd hx hb dL_law_1105 ?_
      refine va_sld hx hb hX hbl hbA hS (law_in hL ht (show (3 : Nat) ≤ 4 by omega)) dL_law_1106 ?_
      refine lg_modeli hLI (va_runV (As := [.int (xs (Int32.toNatClampNeg (nI (5 * t) + 1))), .int (xs (Int32.toNatClampNeg (nI (5 * t) + 2))), .int (xs (Int32.toNatClampNeg (nI (5 * t) + 3)))]) (rest := []) ⟨hx, hb, hml, hown, hts⟩ (mX7_change l D mad kI kZ M (xs (Int32.toNatClampNeg (nI (5 * t) + 1))) (xs (Int32.toNatClampNeg (nI (5 * t) + 2))) (xs (Int32.toNatClampNeg (nI (5 * t) + 3))) bb M1 hm) (cwV 3 hts gL_law_X7_change rfl rfl rfl (by decide +kernel) ⟨Nat.le_of_ble_eq_true rfl, Nat.le_of_ble_eq_true rfl⟩) (mg_preV hLI.2.2.1 hmK hLI.2.2.2.1) rfl rfl hl.1 rfl (lv_room (Nat.le_of_ble_eq_true rfl)) dL_law_1107 ⟨(Nat.le_trans (show 100 + 20 * t + 3 + 0 ≤ 600000 by omega) rm_c), (Nat.le_trans (show 2000 + 120 * t + 18 + 0 ≤ 7000000 by omega) rm_s)⟩) hS (fun H locs hLI hz2 hS => ?_)
      refine lv_istore (lv' := [(6, .int bb), (5, .int 2), (0, .ref b), (1, .ref (ad1 0 0)), (2, .ref (mad 0)), (3, .ref q), (4, .int (nI (5 * t)))]) hx hb dL_law_1110 hl (by decide) rfl (fun ls hl => ?_)
      refine lv_aload_n hx hb dL_law_1112 rfl (lv_at hl 4 rfl) ?_
      refine lg_modeli hLI (va_runV (As := []) (rest := []) ⟨hx, hb, hml, hown, hts⟩ (mX7_thrown l D mad kI kZ M1 (M1 0 0) rfl) (cwV 0 hts gL_law_X7_thrown rfl rfl rfl (by decide +kernel) ⟨Nat.le_of_ble_eq_true rfl, Nat.le_of_ble_eq_true rfl⟩) (mg_preV hLI.2.2.1 hmK hLI.2.2.2.1) rfl rfl hl.1 rfl (lv_room (Nat.le_of_ble_eq_true rfl)) dL_law_1113 ⟨(Nat.le_trans (show 100 + 20 * t + 3 + 0 ≤ 600000 by omega) rm_c), (Nat.le_trans (show 2000 + 120 * t + 18 + 0 ≤ 7000000 by omega) rm_s)⟩) hS (fun H locs hLI hz3 hS => ?_)
      refine lv_iload hx hb dL_law_1116 (lv_at hl 1 rfl) ?_
      refine lv_icmp_eq (tgt := 1123) hx hb dL_law_1118 (by decide) (fun _ => ?_) (fun hc => absurd h0 hc)
      refine lv_iload hx hb dL_law_1123 (lv_at hl 1 rfl) ?_
      refine lv_if_ne (tgt := 1140) hx hb dL_law_1125 (by decide) (fun _ => ?_) (fun hc => absurd hc (by decide))
      refine lv_goto (tgt := 2028) hx hb dL_law_1140 (by decide) ?_
      refine W.widen (k := 100 + 20 * (t + 1)) (n := 2000 + 120 * (t + 1)) (by omega) (by omega) ?_
      exact kk H locs ls ad1 Z1 M1 f1 h00 hLI hR1 hS (lv_sub hl [2, 3, 4, 5, 6] rfl)
    | j + 2, hj => cases hj
set_option maxHeartbeats 4000000 in
set_option maxRecDepth 100000 in
theorem law_tell (hx : p.tables.exec = Jvm.exec) (hb : c.code = cL_law) (hml : c.maxLocals = 7) (hown : s.vm.findClass RL = some m.cls) (hts : ∀ w ∈ wsL_law, w.before #[Value.ref b] s = true) (hX : va_X b L xs s s.heap) (hbl : b < s.heap.size) (hfl : l.stackTraces = false) (hK : cK D G s) (hmK : mK D kI kZ s) (hKJ : va_K D vwCl [(cJ, .long)] s) (hE : cE A0 s s.heap) (hF : cF G A0 s s.heap) (hNc : lNc s) (hbA : ¬ A0 b) (hA0 : ∀ r, s.heap.size ≤ r → A0 r) {R R1 : CZ → MT → Prop} (hst : st_tell R R1) {t : Nat} (hL : L ≤ 2560) (ht : 5 * t + 5 ≤ L) (hLI : lI D G ad Z mad kI kZ M cJ q f A0 H) (hR : R Z M) (hS : va_S A0 s.heap H locs) (hl : lv_has ls 7 [(0, .ref b), (1, .ref (ad 0 0)), (2, .ref (mad 0)), (3, .ref q), (4, .int (nI (5 * t)))])
    (kk : ∀ (H1 : Heap) (locs1 : List Loc) (ls1 : Array Slot) (ad1 : Nat → Nat → Nat) (Z1 : CZ) (M1 : MT) (f1 : Nat → Int64), ad1 0 0 = ad 0 0 → lI D G ad1 Z1 mad kI kZ M1 cJ q f1 A0 H1 → R1 Z1 M1 → va_S A0 s.heap H1 locs1 → lv_has ls1 7 [(0, .ref b), (1, .ref (ad1 0 0)), (2, .ref (mad 0)), (3, .ref q), (4, .int (nI (5 * t)))] → W p l e room_1 s m #[Value.ref b] below meth c H1 locs1 (100 + 20 * (t + 1)) (2000 + 120 * (t + 1)) Q (F0 m 2028 ls1 [])) : W p l e room_1 s m #[Value.ref b] below meth c H locs (100 + 20 * t) (2000 + 120 * t) Q (F0 m 1143 ls []) := by
  have ht5 : t < 512 := by omega
  refine lv_aload_n hx hb dL_law_1143 rfl (lv_at hl 1 rfl) ?_
  refine lv_aload_n hx hb dL_law_1144 rfl (lv_at hl 0 rfl) ?_
  refine lv_iload hx hb dL_law_1145 (lv_at hl 4 rfl) ?_
  refine lv_iconst (v := 1) hx hb dL_law_1147 (by decide) ?_
  refine lv_iadd hx hb dL_law_1148 ?_
  refine va_sld hx hb hX hbl hbA hS (law_in hL ht (show (1 : Nat) ≤ 4 by omega)) dL_law_1149 ?_
  refine lv_aload_n hx hb dL_law_1150 rfl (lv_at hl 0 rfl) ?_
  refine lv_iload hx hb dL_law_1151 (lv_at hl 4 rfl) ?_
  refine lv_iconst (v := 2) hx hb dL_law_1153 (by decide) ?_
  refine lv_iadd hx hb dL_law_1154 ?_
  refine va_sld hx hb hX hbl hbA hS (law_in hL ht (show (2 : Nat) ≤ 4 by omega)) dL_law_1155 ?_
  refine lv_aload_n hx hb dL_law_1156 rfl (lv_at hl 0 rfl) ?_
  refine lv_iload hx hb dL_law_1157 (lv_at hl 4 rfl) ?_
  refine lv_iconst (v := 3) hx hb dL_law_1159 (by decide) ?_
  refine lv_iadd hx hb dL_law_1160 ?_
  refine va_sld hx hb hX hbl hbA hS (law_in hL ht (show (3 : Nat) ≤ 4 by omega)) dL_law_1161 ?_
  refine lv_aload_n hx hb dL_law_1162 rfl (lv_at hl 3 rfl) ?_
  obtain ⟨bb, M1, Z1, hm, hR1, hw⟩ := hst Z M hR (xs (Int32.toNatClampNeg (nI (5 * t) + 1))) (xs (Int32.toNatClampNeg (nI (5 * t) + 2))) (xs (Int32.toNatClampNeg (nI (5 * t) + 3)))
  rcases hw with ⟨hc, h0⟩ | ⟨j, cd, hc, hj, h0⟩
  · refine lg_class hLI (fun r h => hA0 r (Nat.le_trans hS.1 h)) (vx_runSX (As := [.ref (ad 0 0), .int (xs (Int32.toNatClampNeg (nI (5 * t) + 1))), .int (xs (Int32.toNatClampNeg (nI (5 * t) + 2))), .int (xs (Int32.toNatClampNeg (nI (5 * t) + 3))), .ref q]) (rest := []) ⟨hx, hb, hml, hown, hts⟩ (mL_tell l hfl D G (lA ad Z H) ad Z cJ q f (xs (Int32.toNatClampNeg (nI (5 * t) + 1))) (xs (Int32.toNatClampNeg (nI (5 * t) + 2))) (xs (Int32.toNatClampNeg (nI (5 * t) + 3))) bb Z1 hc) (vx_cwSW 5 hts gL_law_L_tell rfl rfl rfl (by decide +kernel) ⟨Nat.le_of_ble_eq_true rfl, Nat.le_of_ble_eq_true rfl⟩) (lg_preS hLI (fun r h => hA0 r (Nat.le_trans hS.1 h)) hK hKJ hE hF hNc hS) rfl rfl hl.1 rfl (lv_room (Nat.le_of_ble_eq_true rfl)) dL_law_1163 ⟨(Nat.le_trans (show 100 + 20 * t + 4 ≤ 600000 by omega) rm_c), (Nat.le_trans (show 2000 + 120 * t + 24 ≤ 7000000 by omega) rm_s)⟩) hS (fun H locs ad1 f1 hP h00 hLI hz hS => ?_)
    rw [← h00] at hl
    refine lv_istore (lv' := [(5, .int 0), (0, .ref b), (1, .ref (ad1 0 0)), (2, .ref (mad 0)), (3, .ref q), (4, .int (nI (5 * t)))]) hx hb dL_law_1166 hl (by decide) rfl (fun ls hl => ?_)
    refine lv_aload_n hx hb dL_law_1168 rfl (lv_at hl 3 rfl) ?_
    refine lv_aload_n hx hb dL_law_1169 rfl (lv_at hl 1 rfl) ?_
    refine lv_iload hx hb dL_law_1170 (lv_at hl 5 rfl) ?_
    refine lv_iconst (v := 1) hx hb dL_law_1172 (by decide) ?_
    refine lv_iadd hx hb dL_law_1173 ?_
    refine va_sld hx hb hX hbl hbA hS (law_in hL ht (show (1 : Nat) ≤ 4 by omega)) dL_law_1174 ?_
    refine lv_aload_n hx hb dL_law_1175 rfl (lv_at hl 1 rfl) ?_
    refine lv_iload hx hb dL_law_1176 (lv_at hl 5 rfl) ?_
    refine lv_iconst (v := 2) hx hb dL_law_1178 (by decide) ?_
    refine lv_iadd hx hb dL_law_1179 ?_
    refine va_sld hx hb hX hbl hbA hS (law_in hL ht (show (2 : Nat) ≤ 4 by omega)) dL_law_1180 ?_
    refine lv_aload_n hx hb dL_law_1181 rfl (lv_at hl 1 rfl) ?_
    refine lv_iload hx hb dL_law_1182 (lv_at hl 5 rfl) ?_
    refine lv_iconst (v := 3) hx hb dL_law_1184 (by decide) ?_
    refine lv_iadd hx hb dL_law_1185 ?_
    refine va_sld hx hb hX hbl hbA hS (law_in hL ht (show (3 : Nat) ≤ 4 by omega)) dL_law_1186 ?_
    refine lg_modeli hLI (va_runV (As := [.int (xs (Int32.toNatClampNeg (nI (5 * t) + 1))), .int (xs (Int32.toNatClampNeg (nI (5 * t) + 2))), .int (xs (Int32.toNatClampNeg (nI (5 * t) + 3)))]) (rest := []) ⟨hx, hb, hml, hown, hts⟩ (mX7_tell l D mad kI kZ M (xs (Int32.toNatClampNeg (nI (5 * t) + 1))) (xs (Int32.toNatClampNeg (nI (5 * t) + 2))) (xs (Int32.toNatClampNeg (nI (5 * t) + 3))) bb M1 hm) (cwV 3 hts gL_law_X7_tell rfl rfl rfl (by decide +kernel) ⟨Nat.le_of_ble_eq_true rfl, Nat.le_of_ble_eq_true rfl⟩) (mg_preV hLI.2.2.1 hmK hLI.2.2.2.1) rfl rfl hl.1 rfl (lv_room (Nat.le_of_ble_eq_true rfl)) dL_law_1187 ⟨(Nat.le_trans (show 100 + 20 * t + 4 + 0 ≤ 600000 by omega) rm_c), (Nat.le_trans (show 2000 + 120 * t + 24 + 0 ≤ 7000000 by omega) rm_s)⟩) hS (fun H locs hLI hz2 hS => ?_)
    refine lv_istore (lv' := [(6, .int bb), (5, .int 0), (0, .ref b), (1, .ref (ad1 0 0)), (2, .ref (mad 0)), (3, .ref q), (4, .int (nI (5 * t)))]) hx hb dL_law_1190 hl (by decide) rfl (fun ls hl => ?_)
    refine lv_aload_n hx hb dL_law_1192 rfl (lv_at hl 4 rfl) ?_
    refine lg_modeli hLI (va_runV (As := []) (rest := []) ⟨hx, hb, hml, hown, hts⟩ (mX7_thrown l D mad kI kZ M1 (M1 0 0) rfl) (cwV 0 hts gL_law_X7_thrown rfl rfl rfl (by decide +kernel) ⟨Nat.le_of_ble_eq_true rfl, Nat.le_of_ble_eq_true rfl⟩) (mg_preV hLI.2.2.1 hmK hLI.2.2.2.1) rfl rfl hl.1 rfl (lv_room (Nat.le_of_ble_eq_true rfl)) dL_law_1193 ⟨(Nat.le_trans (show 100 + 20 * t + 4 + 0 ≤ 600000 by omega) rm_c), (Nat.le_trans (show 2000 + 120 * t + 24 + 0 ≤ 7000000 by omega) rm_s)⟩) hS (fun H locs hLI hz3 hS => ?_)
    refine lv_iload hx hb dL_law_1196 (lv_at hl 1 rfl) ?_
    refine lv_icmp_eq (tgt := 1203) hx hb dL_law_1198 (by decide) (fun _ => ?_) (fun hc => absurd h0 hc)
    refine lv_iload hx hb dL_law_1203 (lv_at hl 1 rfl) ?_
    refine lv_if_ne (tgt := 1220) hx hb dL_law_1205 (by decide) (fun hc => absurd rfl hc) (fun _ => ?_)
    refine lv_aload_n hx hb dL_law_1208 rfl (lv_at hl 5 rfl) ?_
    refine lv_iconst (v := 0) hx hb dL_law_1209 (by decide) ?_
    refine va_lald hx hb hKJ (iw_P1 hLI.2.2.2.2.1) 0 0 rfl rfl (show ¬ ((0 : Int32) < 0 ∨ 1 ≤ (0 : Int32).toNatClampNeg) from by decide) dL_law_1210 ?_
    rw [show f1 (0 : Int32).toNatClampNeg = bb.toInt64 from hP]
    refine lv_iload hx hb dL_law_1211 (lv_at hl 0 rfl) ?_
    refine lv_i2l hx hb (v := bb.toInt64) dL_law_1213 rfl ?_
    refine lg_lcmp hx hb dL_law_1214 ?_
    refine lv_if_eq (tgt := 1220) hx hb dL_law_1215 (by decide) (fun _ => ?_) (fun hc => absurd rfl hc)
    refine lv_goto (tgt := 2028) hx hb dL_law_1220 (by decide) ?_
    refine W.widen (k := 100 + 20 * (t + 1)) (n := 2000 + 120 * (t + 1)) (by omega) (by omega) ?_
    exact kk H locs ls ad1 Z1 M1 f1 h00 hLI hR1 hS (lv_sub hl [2, 3, 4, 5, 6] rfl)
  · match j, hj with
    | 0, hj =>
      cases hj
      refine lg_class hLI (fun r h => hA0 r (Nat.le_trans hS.1 h)) (vx_runSX (As := [.ref (ad 0 0), .int (xs (Int32.toNatClampNeg (nI (5 * t) + 1))), .int (xs (Int32.toNatClampNeg (nI (5 * t) + 2))), .int (xs (Int32.toNatClampNeg (nI (5 * t) + 3))), .ref q]) (rest := []) ⟨hx, hb, hml, hown, hts⟩ (mL_tell_x1 l hfl D G (lA ad Z H) ad Z cJ q f (xs (Int32.toNatClampNeg (nI (5 * t) + 1))) (xs (Int32.toNatClampNeg (nI (5 * t) + 2))) (xs (Int32.toNatClampNeg (nI (5 * t) + 3))) Z1 hc) (vx_cwSW 5 hts gL_law_L_tell rfl rfl rfl (by decide +kernel) ⟨Nat.le_of_ble_eq_true rfl, Nat.le_of_ble_eq_true rfl⟩) (lg_preS hLI (fun r h => hA0 r (Nat.le_trans hS.1 h)) hK hKJ hE hF hNc hS) rfl rfl hl.1 rfl (lv_room (Nat.le_of_ble_eq_true rfl)) dL_law_1163 ⟨(Nat.le_trans (show 100 + 20 * t + 4 ≤ 600000 by omega) rm_c), (Nat.le_trans (show 2000 + 120 * t + 24 ≤ 7000000 by omega) rm_s)⟩) hS (fun H locs ad1 f1 hP h00 hLI hz hS => ?_)
      rw [← h00] at hl
      refine lv_istore (lv' := [(5, .int 1), (0, .ref b), (1, .ref (ad1 0 0)), (2, .ref (mad 0)), (3, .ref q), (4, .int (nI (5 * t)))]) hx hb dL_law_1166 hl (by decide) rfl (fun ls hl => ?_)
      refine lv_aload_n hx hb dL_law_1168 rfl (lv_at hl 3 rfl) ?_
      refine lv_aload_n hx hb dL_law_1169 rfl (lv_at hl 1 rfl) ?_
      refine lv_iload hx hb dL_law_1170 (lv_at hl 5 rfl) ?_
      refine lv_iconst (v := 1) hx hb dL_law_1172 (by decide) ?_
      refine lv_iadd hx hb dL_law_1173 ?_
      refine va_sld hx hb hX hbl hbA hS (law_in hL ht (show (1 : Nat) ≤ 4 by omega)) dL_law_1174 ?_
      refine lv_aload_n hx hb dL_law_1175 rfl (lv_at hl 1 rfl) ?_
      refine lv_iload hx hb dL_law_1176 (lv_at hl 5 rfl) ?_
      refine lv_iconst (v := 2) hx hb dL_law_1178 (by decide) ?_
      refine lv_iadd hx hb dL_law_1179 ?_
      refine va_sld hx hb hX hbl hbA hS (law_in hL ht (show (2 : Nat) ≤ 4 by omega)) dL_law_1180 ?_
      refine lv_aload_n hx hb dL_law_1181 rfl (lv_at hl 1 rfl) ?_
      refine lv_iload hx hb dL_law_1182 (lv_at hl 5 rfl) ?_
      refine lv_iconst (v := 3) hx hb dL_law_1184 (by decide) ?_
      refine lv_iadd hx hb dL_law_1185 ?_
      refine va_sld hx hb hX hbl hbA hS (law_in hL ht (show (3 : Nat) ≤ 4 by omega)) dL_law_1186 ?_
      refine lg_modeli hLI (va_runV (As := [.int (xs (Int32.toNatClampNeg (nI (5 * t) + 1))), .int (xs (Int32.toNatClampNeg (nI (5 * t) + 2))), .int (xs (Int32.toNatClampNeg (nI (5 * t) + 3)))]) (rest := []) ⟨hx, hb, hml, hown, hts⟩ (mX7_tell l D mad kI kZ M (xs (Int32.toNatClampNeg (nI (5 * t) + 1))) (xs (Int32.toNatClampNeg (nI (5 * t) + 2))) (xs (Int32.toNatClampNeg (nI (5 * t) + 3))) bb M1 hm) (cwV 3 hts gL_law_X7_tell rfl rfl rfl (by decide +kernel) ⟨Nat.le_of_ble_eq_true rfl, Nat.le_of_ble_eq_true rfl⟩) (mg_preV hLI.2.2.1 hmK hLI.2.2.2.1) rfl rfl hl.1 rfl (lv_room (Nat.le_of_ble_eq_true rfl)) dL_law_1187 ⟨(Nat.le_trans (show 100 + 20 * t + 4 + 0 ≤ 600000 by omega) rm_c), (Nat.le_trans (show 2000 + 120 * t + 24 + 0 ≤ 7000000 by omega) rm_s)⟩) hS (fun H locs hLI hz2 hS => ?_)
      refine lv_istore (lv' := [(6, .int bb), (5, .int 1), (0, .ref b), (1, .ref (ad1 0 0)), (2, .ref (mad 0)), (3, .ref q), (4, .int (nI (5 * t)))]) hx hb dL_law_1190 hl (by decide) rfl (fun ls hl => ?_)
      refine lv_aload_n hx hb dL_law_1192 rfl (lv_at hl 4 rfl) ?_
      refine lg_modeli hLI (va_runV (As := []) (rest := []) ⟨hx, hb, hml, hown, hts⟩ (mX7_thrown l D mad kI kZ M1 (M1 0 0) rfl) (cwV 0 hts gL_law_X7_thrown rfl rfl rfl (by decide +kernel) ⟨Nat.le_of_ble_eq_true rfl, Nat.le_of_ble_eq_true rfl⟩) (mg_preV hLI.2.2.1 hmK hLI.2.2.2.1) rfl rfl hl.1 rfl (lv_room (Nat.le_of_ble_eq_true rfl)) dL_law_1193 ⟨(Nat.le_trans (show 100 + 20 * t + 4 + 0 ≤ 600000 by omega) rm_c), (Nat.le_trans (show 2000 + 120 * t + 24 + 0 ≤ 7000000 by omega) rm_s)⟩) hS (fun H locs hLI hz3 hS => ?_)
      refine lv_iload hx hb dL_law_1196 (lv_at hl 1 rfl) ?_
      refine lv_icmp_eq (tgt := 1203) hx hb dL_law_1198 (by decide) (fun _ => ?_) (fun hc => absurd h0 hc)
      refine lv_iload hx hb dL_law_1203 (lv_at hl 1 rfl) ?_
      refine lv_if_ne (tgt := 1220) hx hb dL_law_1205 (by decide) (fun _ => ?_) (fun hc => absurd hc (by decide))
      refine lv_goto (tgt := 2028) hx hb dL_law_1220 (by decide) ?_
      refine W.widen (k := 100 + 20 * (t + 1)) (n := 2000 + 120 * (t + 1)) (by omega) (by omega) ?_
      exact kk H locs ls ad1 Z1 M1 f1 h00 hLI hR1 hS (lv_sub hl [2, 3, 4, 5, 6] rfl)
    | j + 1, hj => cases hj
set_option maxHeartbeats 4000000 in
set_option maxRecDepth 100000 in
theorem law_drill (hx : p.tables.exec = Jvm.exec) (hb : c.code = cL_law) (hml : c.maxLocals = 7) (hown : s.vm.findClass RL = some m.cls) (hts : ∀ w ∈ wsL_law, w.before #[Value.ref b] s = true) (hX : va_X b L xs s s.heap) (hbl : b < s.heap.size) (hfl : l.stackTraces = false) (hK : cK D G s) (hmK : mK D kI kZ s) (hKJ : va_K D vwCl [(cJ, .long)] s) (hE : cE A0 s s.heap) (hF : cF G A0 s s.heap) (hNc : lNc s) (hbA : ¬ A0 b) (hA0 : ∀ r, s.heap.size ≤ r → A0 r) {R R1 : CZ → MT → Prop} (hst : st_drill R R1) {t : Nat} (hL : L ≤ 2560) (ht : 5 * t + 5 ≤ L) (hLI : lI D G ad Z mad kI kZ M cJ q f A0 H) (hR : R Z M) (hS : va_S A0 s.heap H locs) (hl : lv_has ls 7 [(0, .ref b), (1, .ref (ad 0 0)), (2, .ref (mad 0)), (3, .ref q), (4, .int (nI (5 * t)))])
    (kk : ∀ (H1 : Heap) (locs1 : List Loc) (ls1 : Array Slot) (ad1 : Nat → Nat → Nat) (Z1 : CZ) (M1 : MT) (f1 : Nat → Int64), ad1 0 0 = ad 0 0 → lI D G ad1 Z1 mad kI kZ M1 cJ q f1 A0 H1 → R1 Z1 M1 → va_S A0 s.heap H1 locs1 → lv_has ls1 7 [(0, .ref b), (1, .ref (ad1 0 0)), (2, .ref (mad 0)), (3, .ref q), (4, .int (nI (5 * t)))] → W p l e room_1 s m #[Value.ref b] below meth c H1 locs1 (100 + 20 * (t + 1)) (2000 + 120 * (t + 1)) Q (F0 m 2028 ls1 [])) : W p l e room_1 s m #[Value.ref b] below meth c H locs (100 + 20 * t) (2000 + 120 * t) Q (F0 m 1223 ls []) := by
  have ht5 : t < 512 := by omega
  refine lv_aload_n hx hb dL_law_1223 rfl (lv_at hl 1 rfl) ?_
  refine lv_aload_n hx hb dL_law_1224 rfl (lv_at hl 0 rfl) ?_
  refine lv_iload hx hb dL_law_1225 (lv_at hl 4 rfl) ?_
  refine lv_iconst (v := 1) hx hb dL_law_1227 (by decide) ?_
  refine lv_iadd hx hb dL_law_1228 ?_
  refine va_sld hx hb hX hbl hbA hS (law_in hL ht (show (1 : Nat) ≤ 4 by omega)) dL_law_1229 ?_
  refine lv_aload_n hx hb dL_law_1230 rfl (lv_at hl 0 rfl) ?_
  refine lv_iload hx hb dL_law_1231 (lv_at hl 4 rfl) ?_
  refine lv_iconst (v := 2) hx hb dL_law_1233 (by decide) ?_
  refine lv_iadd hx hb dL_law_1234 ?_
  refine va_sld hx hb hX hbl hbA hS (law_in hL ht (show (2 : Nat) ≤ 4 by omega)) dL_law_1235 ?_
  refine lv_aload_n hx hb dL_law_1236 rfl (lv_at hl 3 rfl) ?_
  obtain ⟨bb, M1, Z1, hm, hR1, hw⟩ := hst Z M hR (xs (Int32.toNatClampNeg (nI (5 * t) + 1))) (xs (Int32.toNatClampNeg (nI (5 * t) + 2)))
  rcases hw with ⟨hc, h0⟩ | ⟨j, cd, hc, hj, h0⟩
  · refine lg_class hLI (fun r h => hA0 r (Nat.le_trans hS.1 h)) (vx_runSX (As := [.ref (ad 0 0), .int (xs (Int32.toNatClampNeg (nI (5 * t) + 1))), .int (xs (Int32.toNatClampNeg (nI (5 * t) + 2))), .ref q]) (rest := []) ⟨hx, hb, hml, hown, hts⟩ (mL_drill l hfl D G (lA ad Z H) ad Z cJ q f (xs (Int32.toNatClampNeg (nI (5 * t) + 1))) (xs (Int32.toNatClampNeg (nI (5 * t) + 2))) bb Z1 hc) (vx_cwSW 4 hts gL_law_L_drill rfl rfl rfl (by decide +kernel) ⟨Nat.le_of_ble_eq_true rfl, Nat.le_of_ble_eq_true rfl⟩) (lg_preS hLI (fun r h => hA0 r (Nat.le_trans hS.1 h)) hK hKJ hE hF hNc hS) rfl rfl hl.1 rfl (lv_room (Nat.le_of_ble_eq_true rfl)) dL_law_1237 ⟨(Nat.le_trans (show 100 + 20 * t + 3 ≤ 600000 by omega) rm_c), (Nat.le_trans (show 2000 + 120 * t + 18 ≤ 7000000 by omega) rm_s)⟩) hS (fun H locs ad1 f1 hP h00 hLI hz hS => ?_)
    rw [← h00] at hl
    refine lv_istore (lv' := [(5, .int 0), (0, .ref b), (1, .ref (ad1 0 0)), (2, .ref (mad 0)), (3, .ref q), (4, .int (nI (5 * t)))]) hx hb dL_law_1240 hl (by decide) rfl (fun ls hl => ?_)
    refine lv_aload_n hx hb dL_law_1242 rfl (lv_at hl 3 rfl) ?_
    refine lv_aload_n hx hb dL_law_1243 rfl (lv_at hl 1 rfl) ?_
    refine lv_iload hx hb dL_law_1244 (lv_at hl 5 rfl) ?_
    refine lv_iconst (v := 1) hx hb dL_law_1246 (by decide) ?_
    refine lv_iadd hx hb dL_law_1247 ?_
    refine va_sld hx hb hX hbl hbA hS (law_in hL ht (show (1 : Nat) ≤ 4 by omega)) dL_law_1248 ?_
    refine lv_aload_n hx hb dL_law_1249 rfl (lv_at hl 1 rfl) ?_
    refine lv_iload hx hb dL_law_1250 (lv_at hl 5 rfl) ?_
    refine lv_iconst (v := 2) hx hb dL_law_1252 (by decide) ?_
    refine lv_iadd hx hb dL_law_1253 ?_
    refine va_sld hx hb hX hbl hbA hS (law_in hL ht (show (2 : Nat) ≤ 4 by omega)) dL_law_1254 ?_
    refine lg_modeli hLI (va_runV (As := [.int (xs (Int32.toNatClampNeg (nI (5 * t) + 1))), .int (xs (Int32.toNatClampNeg (nI (5 * t) + 2)))]) (rest := []) ⟨hx, hb, hml, hown, hts⟩ (mX7_drill l D mad kI kZ M (xs (Int32.toNatClampNeg (nI (5 * t) + 1))) (xs (Int32.toNatClampNeg (nI (5 * t) + 2))) bb M1 hm) (cwV 2 hts gL_law_X7_drill rfl rfl rfl (by decide +kernel) ⟨Nat.le_of_ble_eq_true rfl, Nat.le_of_ble_eq_true rfl⟩) (mg_preV hLI.2.2.1 hmK hLI.2.2.2.1) rfl rfl hl.1 rfl (lv_room (Nat.le_of_ble_eq_true rfl)) dL_law_1255 ⟨(Nat.le_trans (show 100 + 20 * t + 3 + 0 ≤ 600000 by omega) rm_c), (Nat.le_trans (show 2000 + 120 * t + 18 + 0 ≤ 7000000 by omega) rm_s)⟩) hS (fun H locs hLI hz2 hS => ?_)
    refine lv_istore (lv' := [(6, .int bb), (5, .int 0), (0, .ref b), (1, .ref (ad1 0 0)), (2, .ref (mad 0)), (3, .ref q), (4, .int (nI (5 * t)))]) hx hb dL_law_1258 hl (by decide) rfl (fun ls hl => ?_)
    refine lv_aload_n hx hb dL_law_1260 rfl (lv_at hl 4 rfl) ?_
    refine lg_modeli hLI (va_runV (As := []) (rest := []) ⟨hx, hb, hml, hown, hts⟩ (mX7_thrown l D mad kI kZ M1 (M1 0 0) rfl) (cwV 0 hts gL_law_X7_thrown rfl rfl rfl (by decide +kernel) ⟨Nat.le_of_ble_eq_true rfl, Nat.le_of_ble_eq_true rfl⟩) (mg_preV hLI.2.2.1 hmK hLI.2.2.2.1) rfl rfl hl.1 rfl (lv_room (Nat.le_of_ble_eq_true rfl)) dL_law_1261 ⟨(Nat.le_trans (show 100 + 20 * t + 3 + 0 ≤ 600000 by omega) rm_c), (Nat.le_trans (show 2000 + 120 * t + 18 + 0 ≤ 7000000 by omega) rm_s)⟩) hS (fun H locs hLI hz3 hS => ?_)
    refine lv_iload hx hb dL_law_1264 (lv_at hl 1 rfl) ?_
    refine lv_icmp_eq (tgt := 1271) hx hb dL_law_1266 (by decide) (fun _ => ?_) (fun hc => absurd h0 hc)
    refine lv_iload hx hb dL_law_1271 (lv_at hl 1 rfl) ?_
    refine lv_if_ne (tgt := 1288) hx hb dL_law_1273 (by decide) (fun hc => absurd rfl hc) (fun _ => ?_)
    refine lv_aload_n hx hb dL_law_1276 rfl (lv_at hl 5 rfl) ?_
    refine lv_iconst (v := 0) hx hb dL_law_1277 (by decide) ?_
    refine va_lald hx hb hKJ (iw_P1 hLI.2.2.2.2.1) 0 0 rfl rfl (show ¬ ((0 : Int32) < 0 ∨ 1 ≤ (0 : Int32).toNatClampNeg) from by decide) dL_law_1278 ?_
    rw [show f1 (0 : Int32).toNatClampNeg = bb.toInt64 from hP]
    refine lv_iload hx hb dL_law_1279 (lv_at hl 0 rfl) ?_
    refine lv_i2l hx hb (v := bb.toInt64) dL_law_1281 rfl ?_
    refine lg_lcmp hx hb dL_law_1282 ?_
    refine lv_if_eq (tgt := 1288) hx hb dL_law_1283 (by decide) (fun _ => ?_) (fun hc => absurd rfl hc)
    refine lv_goto (tgt := 2028) hx hb dL_law_1288 (by decide) ?_
    refine W.widen (k := 100 + 20 * (t + 1)) (n := 2000 + 120 * (t + 1)) (by omega) (by omega) ?_
    exact kk H locs ls ad1 Z1 M1 f1 h00 hLI hR1 hS (lv_sub hl [2, 3, 4, 5, 6] rfl)
  · match j, hj with
    | 0, hj =>
      cases hj
      refine lg_class hLI (fun r h => hA0 r (Nat.le_trans hS.1 h)) (vx_runSX (As := [.ref (ad 0 0), .int (xs (Int32.toNatClampNeg (nI (5 * t) + 1))), .int (xs (Int32.toNatClampNeg (nI (5 * t) + 2))), .ref q]) (rest := []) ⟨hx, hb, hml, hown, hts⟩ (mL_drill_x1 l hfl D G (lA ad Z H) ad Z cJ q f (xs (Int32.toNatClampNeg (nI (5 * t) + 1))) (xs (Int32.toNatClampNeg (nI (5 * t) + 2))) Z1 hc) (vx_cwSW 4 hts gL_law_L_drill rfl rfl rfl (by decide +kernel) ⟨Nat.le_of_ble_eq_true rfl, Nat.le_of_ble_eq_true rfl⟩) (lg_preS hLI (fun r h => hA0 r (Nat.le_trans hS.1 h)) hK hKJ hE hF hNc hS) rfl rfl hl.1 rfl (lv_room (Nat.le_of_ble_eq_true rfl)) dL_law_1237 ⟨(Nat.le_trans (show 100 + 20 * t + 3 ≤ 600000 by omega) rm_c), (Nat.le_trans (show 2000 + 120 * t + 18 ≤ 7000000 by omega) rm_s)⟩) hS (fun H locs ad1 f1 hP h00 hLI hz hS => ?_)
      rw [← h00] at hl
      refine lv_istore (lv' := [(5, .int 1), (0, .ref b), (1, .ref (ad1 0 0)), (2, .ref (mad 0)), (3, .ref q), (4, .int (nI (5 * t)))]) hx hb dL_law_1240 hl (by decide) rfl (fun ls hl => ?_)
      refine lv_aload_n hx hb dL_law_1242 rfl (lv_at hl 3 rfl) ?_
      refine lv_aload_n hx hb dL_law_1243 rfl (lv_at hl 1 rfl) ?_
      refine lv_iload hx hb dL_law_1244 (lv_at hl 5 rfl) ?_
      refine lv_iconst (v := 1) hx hb dL_law_1246 (by decide) ?_
      refine lv_iadd hx hb dL_law_1247 ?_
      refine va_sld hx hb hX hbl hbA hS (law_in hL ht (show (1 : Nat) ≤ 4 by omega)) dL_law_1248 ?_
      refine lv_aload_n hx hb dL_law_1249 rfl (lv_at hl 1 rfl) ?_
      refine lv_iload hx hb dL_law_1250 (lv_at hl 5 rfl) ?_
      refine lv_iconst (v := 2) hx hb dL_law_1252 (by decide) ?_
      refine lv_iadd hx hb dL_law_1253 ?_
      refine va_sld hx hb hX hbl hbA hS (law_in hL ht (show (2 : Nat) ≤ 4 by omega)) dL_law_1254 ?_
      refine lg_modeli hLI (va_runV (As := [.int (xs (Int32.toNatClampNeg (nI (5 * t) + 1))), .int (xs (Int32.toNatClampNeg (nI (5 * t) + 2)))]) (rest := []) ⟨hx, hb, hml, hown, hts⟩ (mX7_drill l D mad kI kZ M (xs (Int32.toNatClampNeg (nI (5 * t) + 1))) (xs (Int32.toNatClampNeg (nI (5 * t) + 2))) bb M1 hm) (cwV 2 hts gL_law_X7_drill rfl rfl rfl (by decide +kernel) ⟨Nat.le_of_ble_eq_true rfl, Nat.le_of_ble_eq_true rfl⟩) (mg_preV hLI.2.2.1 hmK hLI.2.2.2.1) rfl rfl hl.1 rfl (lv_room (Nat.le_of_ble_eq_true rfl)) dL_law_1255 ⟨(Nat.le_trans (show 100 + 20 * t + 3 + 0 ≤ 600000 by omega) rm_c), (Nat.le_trans (show 2000 + 120 * t + 18 + 0 ≤ 7000000 by omega) rm_s)⟩) hS (fun H locs hLI hz2 hS => ?_)
      refine lv_istore (lv' := [(6, .int bb), (5, .int 1), (0, .ref b), (1, .ref (ad1 0 0)), (2, .ref (mad 0)), (3, .ref q), (4, .int (nI (5 * t)))]) hx hb dL_law_1258 hl (by decide) rfl (fun ls hl => ?_)
      refine lv_aload_n hx hb dL_law_1260 rfl (lv_at hl 4 rfl) ?_
      refine lg_modeli hLI (va_runV (As := []) (rest := []) ⟨hx, hb, hml, hown, hts⟩ (mX7_thrown l D mad kI kZ M1 (M1 0 0) rfl) (cwV 0 hts gL_law_X7_thrown rfl rfl rfl (by decide +kernel) ⟨Nat.le_of_ble_eq_true rfl, Nat.le_of_ble_eq_true rfl⟩) (mg_preV hLI.2.2.1 hmK hLI.2.2.2.1) rfl rfl hl.1 rfl (lv_room (Nat.le_of_ble_eq_true rfl)) dL_law_1261 ⟨(Nat.le_trans (show 100 + 20 * t + 3 + 0 ≤ 600000 by omega) rm_c), (Nat.le_trans (show 2000 + 120 * t + 18 + 0 ≤ 7000000 by omega) rm_s)⟩) hS (fun H locs hLI hz3 hS => ?_)
      refine lv_iload hx hb dL_law_1264 (lv_at hl 1 rfl) ?_
      refine lv_icmp_eq (tgt := 1271) hx hb dL_law_1266 (by decide) (fun _ => ?_) (fun hc => absurd h0 hc)
      refine lv_iload hx hb dL_law_1271 (lv_at hl 1 rfl) ?_
      refine lv_if_ne (tgt := 1288) hx hb dL_law_1273 (by decide) (fun _ => ?_) (fun hc => absurd hc (by decide))
      refine lv_goto (tgt := 2028) hx hb dL_law_1288 (by decide) ?_
      refine W.widen (k := 100 + 20 * (t + 1)) (n := 2000 + 120 * (t + 1)) (by omega) (by omega) ?_
      exact kk H locs ls ad1 Z1 M1 f1 h00 hLI hR1 hS (lv_sub hl [2, 3, 4, 5, 6] rfl)
    | 1, hj =>
      cases hj
      refine lg_class hLI (fun r h => hA0 r (Nat.le_trans hS.1 h)) (vx_runSX (As := [.ref (ad 0 0), .int (xs (Int32.toNatClampNeg (nI (5 * t) + 1))), .int (xs (Int32.toNatClampNeg (nI (5 * t) + 2))), .ref q]) (rest := []) ⟨hx, hb, hml, hown, hts⟩ (mL_drill_x2 l hfl D G (lA ad Z H) ad Z cJ q f (xs (Int32.toNatClampNeg (nI (5 * t) + 1))) (xs (Int32.toNatClampNeg (nI (5 * t) + 2))) Z1 hc) (vx_cwSW 4 hts gL_law_L_drill rfl rfl rfl (by decide +kernel) ⟨Nat.le_of_ble_eq_true rfl, Nat.le_of_ble_eq_true rfl⟩) (lg_preS hLI (fun r h => hA0 r (Nat.le_trans hS.1 h)) hK hKJ hE hF hNc hS) rfl rfl hl.1 rfl (lv_room (Nat.le_of_ble_eq_true rfl)) dL_law_1237 ⟨(Nat.le_trans (show 100 + 20 * t + 3 ≤ 600000 by omega) rm_c), (Nat.le_trans (show 2000 + 120 * t + 18 ≤ 7000000 by omega) rm_s)⟩) hS (fun H locs ad1 f1 hP h00 hLI hz hS => ?_)
      rw [← h00] at hl
      refine lv_istore (lv' := [(5, .int 2), (0, .ref b), (1, .ref (ad1 0 0)), (2, .ref (mad 0)), (3, .ref q), (4, .int (nI (5 * t)))]) hx hb dL_law_1240 hl (by decide) rfl (fun ls hl => ?_)
      refine lv_aload_n hx hb dL_law_1242 rfl (lv_at hl 3 rfl) ?_
      refine lv_aload_n hx hb dL_law_1243 rfl (lv_at hl 1 rfl) ?_
      refine lv_iload hx hb dL_law_1244 (lv_at hl 5 rfl) ?_
      refine lv_iconst (v := 1) hx hb dL_law_1246 (by decide) ?_
      refine lv_iadd hx hb dL_law_1247 ?_
      refine va_sld hx hb hX hbl hbA hS (law_in hL ht (show (1 : Nat) ≤ 4 by omega)) dL_law_1248 ?_
      refine lv_aload_n hx hb dL_law_1249 rfl (lv_at hl 1 rfl) ?_
      refine lv_iload hx hb dL_law_1250 (lv_at hl 5 rfl) ?_
      refine lv_iconst (v := 2) hx hb dL_law_1252 (by decide) ?_
      refine lv_iadd hx hb dL_law_1253 ?_
      refine va_sld hx hb hX hbl hbA hS (law_in hL ht (show (2 : Nat) ≤ 4 by omega)) dL_law_1254 ?_
      refine lg_modeli hLI (va_runV (As := [.int (xs (Int32.toNatClampNeg (nI (5 * t) + 1))), .int (xs (Int32.toNatClampNeg (nI (5 * t) + 2)))]) (rest := []) ⟨hx, hb, hml, hown, hts⟩ (mX7_drill l D mad kI kZ M (xs (Int32.toNatClampNeg (nI (5 * t) + 1))) (xs (Int32.toNatClampNeg (nI (5 * t) + 2))) bb M1 hm) (cwV 2 hts gL_law_X7_drill rfl rfl rfl (by decide +kernel) ⟨Nat.le_of_ble_eq_true rfl, Nat.le_of_ble_eq_true rfl⟩) (mg_preV hLI.2.2.1 hmK hLI.2.2.2.1) rfl rfl hl.1 rfl (lv_room (Nat.le_of_ble_eq_true rfl)) dL_law_1255 ⟨(Nat.le_trans (show 100 + 20 * t + 3 + 0 ≤ 600000 by omega) rm_c), (Nat.le_trans (show 2000 + 120 * t + 18 + 0 ≤ 7000000 by omega) rm_s)⟩) hS (fun H locs hLI hz2 hS => ?_)
      refine lv_istore (lv' := [(6, .int bb), (5, .int 2), (0, .ref b), (1, .ref (ad1 0 0)), (2, .ref (mad 0)), (3, .ref q), (4, .int (nI (5 * t)))]) hx hb dL_law_1258 hl (by decide) rfl (fun ls hl => ?_)
      refine lv_aload_n hx hb dL_law_1260 rfl (lv_at hl 4 rfl) ?_
      refine lg_modeli hLI (va_runV (As := []) (rest := []) ⟨hx, hb, hml, hown, hts⟩ (mX7_thrown l D mad kI kZ M1 (M1 0 0) rfl) (cwV 0 hts gL_law_X7_thrown rfl rfl rfl (by decide +kernel) ⟨Nat.le_of_ble_eq_true rfl, Nat.le_of_ble_eq_true rfl⟩) (mg_preV hLI.2.2.1 hmK hLI.2.2.2.1) rfl rfl hl.1 rfl (lv_room (Nat.le_of_ble_eq_true rfl)) dL_law_1261 ⟨(Nat.le_trans (show 100 + 20 * t + 3 + 0 ≤ 600000 by omega) rm_c), (Nat.le_trans (show 2000 + 120 * t + 18 + 0 ≤ 7000000 by omega) rm_s)⟩) hS (fun H locs hLI hz3 hS => ?_)
      refine lv_iload hx hb dL_law_1264 (lv_at hl 1 rfl) ?_
      refine lv_icmp_eq (tgt := 1271) hx hb dL_law_1266 (by decide) (fun _ => ?_) (fun hc => absurd h0 hc)
      refine lv_iload hx hb dL_law_1271 (lv_at hl 1 rfl) ?_
      refine lv_if_ne (tgt := 1288) hx hb dL_law_1273 (by decide) (fun _ => ?_) (fun hc => absurd hc (by decide))
      refine lv_goto (tgt := 2028) hx hb dL_law_1288 (by decide) ?_
      refine W.widen (k := 100 + 20 * (t + 1)) (n := 2000 + 120 * (t + 1)) (by omega) (by omega) ?_
      exact kk H locs ls ad1 Z1 M1 f1 h00 hLI hR1 hS (lv_sub hl [2, 3, 4, 5, 6] rfl)
    | j + 2, hj => cases hj
set_option maxHeartbeats 4000000 in
set_option maxRecDepth 100000 in
theorem law_pass (hx : p.tables.exec = Jvm.exec) (hb : c.code = cL_law) (hml : c.maxLocals = 7) (hown : s.vm.findClass RL = some m.cls) (hts : ∀ w ∈ wsL_law, w.before #[Value.ref b] s = true) (hX : va_X b L xs s s.heap) (hbl : b < s.heap.size) (hfl : l.stackTraces = false) (hK : cK D G s) (hmK : mK D kI kZ s) (hKJ : va_K D vwCl [(cJ, .long)] s) (hE : cE A0 s s.heap) (hF : cF G A0 s s.heap) (hNc : lNc s) (hbA : ¬ A0 b) (hA0 : ∀ r, s.heap.size ≤ r → A0 r) {R R1 : CZ → MT → Prop} (hst : st_pass R R1) {t : Nat} (hL : L ≤ 2560) (ht : 5 * t + 5 ≤ L) (hLI : lI D G ad Z mad kI kZ M cJ q f A0 H) (hR : R Z M) (hS : va_S A0 s.heap H locs) (hl : lv_has ls 7 [(0, .ref b), (1, .ref (ad 0 0)), (2, .ref (mad 0)), (3, .ref q), (4, .int (nI (5 * t)))])
    (kk : ∀ (H1 : Heap) (locs1 : List Loc) (ls1 : Array Slot) (ad1 : Nat → Nat → Nat) (Z1 : CZ) (M1 : MT) (f1 : Nat → Int64), ad1 0 0 = ad 0 0 → lI D G ad1 Z1 mad kI kZ M1 cJ q f1 A0 H1 → R1 Z1 M1 → va_S A0 s.heap H1 locs1 → lv_has ls1 7 [(0, .ref b), (1, .ref (ad1 0 0)), (2, .ref (mad 0)), (3, .ref q), (4, .int (nI (5 * t)))] → W p l e room_1 s m #[Value.ref b] below meth c H1 locs1 (100 + 20 * (t + 1)) (2000 + 120 * (t + 1)) Q (F0 m 2028 ls1 [])) : W p l e room_1 s m #[Value.ref b] below meth c H locs (100 + 20 * t) (2000 + 120 * t) Q (F0 m 1291 ls []) := by
  have ht5 : t < 512 := by omega
  refine lv_aload_n hx hb dL_law_1291 rfl (lv_at hl 1 rfl) ?_
  refine lv_aload_n hx hb dL_law_1292 rfl (lv_at hl 0 rfl) ?_
  refine lv_iload hx hb dL_law_1293 (lv_at hl 4 rfl) ?_
  refine lv_iconst (v := 1) hx hb dL_law_1295 (by decide) ?_
  refine lv_iadd hx hb dL_law_1296 ?_
  refine va_sld hx hb hX hbl hbA hS (law_in hL ht (show (1 : Nat) ≤ 4 by omega)) dL_law_1297 ?_
  refine lv_aload_n hx hb dL_law_1298 rfl (lv_at hl 3 rfl) ?_
  obtain ⟨bb, M1, Z1, hm, hR1, hw⟩ := hst Z M hR (xs (Int32.toNatClampNeg (nI (5 * t) + 1)))
  rcases hw with ⟨hc, h0⟩ | ⟨j, cd, hc, hj, h0⟩
  · refine lg_class hLI (fun r h => hA0 r (Nat.le_trans hS.1 h)) (vx_runSX (As := [.ref (ad 0 0), .int (xs (Int32.toNatClampNeg (nI (5 * t) + 1))), .ref q]) (rest := []) ⟨hx, hb, hml, hown, hts⟩ (mL_pass l hfl D G (lA ad Z H) ad Z cJ q f (xs (Int32.toNatClampNeg (nI (5 * t) + 1))) bb Z1 hc) (vx_cwSW 3 hts gL_law_L_pass rfl rfl rfl (by decide +kernel) ⟨Nat.le_of_ble_eq_true rfl, Nat.le_of_ble_eq_true rfl⟩) (lg_preS hLI (fun r h => hA0 r (Nat.le_trans hS.1 h)) hK hKJ hE hF hNc hS) rfl rfl hl.1 rfl (lv_room (Nat.le_of_ble_eq_true rfl)) dL_law_1299 ⟨(Nat.le_trans (show 100 + 20 * t + 2 ≤ 600000 by omega) rm_c), (Nat.le_trans (show 2000 + 120 * t + 12 ≤ 7000000 by omega) rm_s)⟩) hS (fun H locs ad1 f1 hP h00 hLI hz hS => ?_)
    rw [← h00] at hl
    refine lv_istore (lv' := [(5, .int 0), (0, .ref b), (1, .ref (ad1 0 0)), (2, .ref (mad 0)), (3, .ref q), (4, .int (nI (5 * t)))]) hx hb dL_law_1302 hl (by decide) rfl (fun ls hl => ?_)
    refine lv_aload_n hx hb dL_law_1304 rfl (lv_at hl 3 rfl) ?_
    refine lv_aload_n hx hb dL_law_1305 rfl (lv_at hl 1 rfl) ?_
    refine lv_iload hx hb dL_law_1306 (lv_at hl 5 rfl) ?_
    refine lv_iconst (v := 1) hx hb dL_law_1308 (by decide) ?_
    refine lv_iadd hx hb dL_law_1309 ?_
    refine va_sld hx hb hX hbl hbA hS (law_in hL ht (show (1 : Nat) ≤ 4 by omega)) dL_law_1310 ?_
    refine lg_modeli hLI (va_runV (As := [.int (xs (Int32.toNatClampNeg (nI (5 * t) + 1)))]) (rest := []) ⟨hx, hb, hml, hown, hts⟩ (mX7_pass l D mad kI kZ M (xs (Int32.toNatClampNeg (nI (5 * t) + 1))) bb M1 hm) (cwV 1 hts gL_law_X7_pass rfl rfl rfl (by decide +kernel) ⟨Nat.le_of_ble_eq_true rfl, Nat.le_of_ble_eq_true rfl⟩) (mg_preV hLI.2.2.1 hmK hLI.2.2.2.1) rfl rfl hl.1 rfl (lv_room (Nat.le_of_ble_eq_true rfl)) dL_law_1311 ⟨(Nat.le_trans (show 100 + 20 * t + 2 + 0 ≤ 600000 by omega) rm_c), (Nat.le_trans (show 2000 + 120 * t + 12 + 0 ≤ 7000000 by omega) rm_s)⟩) hS (fun H locs hLI hz2 hS => ?_)
    refine lv_istore (lv' := [(6, .int bb), (5, .int 0), (0, .ref b), (1, .ref (ad1 0 0)), (2, .ref (mad 0)), (3, .ref q), (4, .int (nI (5 * t)))]) hx hb dL_law_1314 hl (by decide) rfl (fun ls hl => ?_)
    refine lv_aload_n hx hb dL_law_1316 rfl (lv_at hl 4 rfl) ?_
    refine lg_modeli hLI (va_runV (As := []) (rest := []) ⟨hx, hb, hml, hown, hts⟩ (mX7_thrown l D mad kI kZ M1 (M1 0 0) rfl) (cwV 0 hts gL_law_X7_thrown rfl rfl rfl (by decide +kernel) ⟨Nat.le_of_ble_eq_true rfl, Nat.le_of_ble_eq_true rfl⟩) (mg_preV hLI.2.2.1 hmK hLI.2.2.2.1) rfl rfl hl.1 rfl (lv_room (Nat.le_of_ble_eq_true rfl)) dL_law_1317 ⟨(Nat.le_trans (show 100 + 20 * t + 2 + 0 ≤ 600000 by omega) rm_c), (Nat.le_trans (show 2000 + 120 * t + 12 + 0 ≤ 7000000 by omega) rm_s)⟩) hS (fun H locs hLI hz3 hS => ?_)
    refine lv_iload hx hb dL_law_1320 (lv_at hl 1 rfl) ?_
    refine lv_icmp_eq (tgt := 1327) hx hb dL_law_1322 (by decide) (fun _ => ?_) (fun hc => absurd h0 hc)
    refine lv_iload hx hb dL_law_1327 (lv_at hl 1 rfl) ?_
    refine lv_if_ne (tgt := 1344) hx hb dL_law_1329 (by decide) (fun hc => absurd rfl hc) (fun _ => ?_)
    refine lv_aload_n hx hb dL_law_1332 rfl (lv_at hl 5 rfl) ?_
    refine lv_iconst (v := 0) hx hb dL_law_1333 (by decide) ?_
    refine va_lald hx hb hKJ (iw_P1 hLI.2.2.2.2.1) 0 0 rfl rfl (show ¬ ((0 : Int32) < 0 ∨ 1 ≤ (0 : Int32).toNatClampNeg) from by decide) dL_law_1334 ?_
    rw [show f1 (0 : Int32).toNatClampNeg = bb.toInt64 from hP]
    refine lv_iload hx hb dL_law_1335 (lv_at hl 0 rfl) ?_
    refine lv_i2l hx hb (v := bb.toInt64) dL_law_1337 rfl ?_
    refine lg_lcmp hx hb dL_law_1338 ?_
    refine lv_if_eq (tgt := 1344) hx hb dL_law_1339 (by decide) (fun _ => ?_) (fun hc => absurd rfl hc)
    refine lv_goto (tgt := 2028) hx hb dL_law_1344 (by decide) ?_
    refine W.widen (k := 100 + 20 * (t + 1)) (n := 2000 + 120 * (t + 1)) (by omega) (by omega) ?_
    exact kk H locs ls ad1 Z1 M1 f1 h00 hLI hR1 hS (lv_sub hl [2, 3, 4, 5, 6] rfl)
  · match j, hj with
    | 0, hj =>
      cases hj
      refine lg_class hLI (fun r h => hA0 r (Nat.le_trans hS.1 h)) (vx_runSX (As := [.ref (ad 0 0), .int (xs (Int32.toNatClampNeg (nI (5 * t) + 1))), .ref q]) (rest := []) ⟨hx, hb, hml, hown, hts⟩ (mL_pass_x1 l hfl D G (lA ad Z H) ad Z cJ q f (xs (Int32.toNatClampNeg (nI (5 * t) + 1))) Z1 hc) (vx_cwSW 3 hts gL_law_L_pass rfl rfl rfl (by decide +kernel) ⟨Nat.le_of_ble_eq_true rfl, Nat.le_of_ble_eq_true rfl⟩) (lg_preS hLI (fun r h => hA0 r (Nat.le_trans hS.1 h)) hK hKJ hE hF hNc hS) rfl rfl hl.1 rfl (lv_room (Nat.le_of_ble_eq_true rfl)) dL_law_1299 ⟨(Nat.le_trans (show 100 + 20 * t + 2 ≤ 600000 by omega) rm_c), (Nat.le_trans (show 2000 + 120 * t + 12 ≤ 7000000 by omega) rm_s)⟩) hS (fun H locs ad1 f1 hP h00 hLI hz hS => ?_)
      rw [← h00] at hl
      refine lv_istore (lv' := [(5, .int 1), (0, .ref b), (1, .ref (ad1 0 0)), (2, .ref (mad 0)), (3, .ref q), (4, .int (nI (5 * t)))]) hx hb dL_law_1302 hl (by decide) rfl (fun ls hl => ?_)
      refine lv_aload_n hx hb dL_law_1304 rfl (lv_at hl 3 rfl) ?_
      refine lv_aload_n hx hb dL_law_1305 rfl (lv_at hl 1 rfl) ?_
      refine lv_iload hx hb dL_law_1306 (lv_at hl 5 rfl) ?_
      refine lv_iconst (v := 1) hx hb dL_law_1308 (by decide) ?_
      refine lv_iadd hx hb dL_law_1309 ?_
      refine va_sld hx hb hX hbl hbA hS (law_in hL ht (show (1 : Nat) ≤ 4 by omega)) dL_law_1310 ?_
      refine lg_modeli hLI (va_runV (As := [.int (xs (Int32.toNatClampNeg (nI (5 * t) + 1)))]) (rest := []) ⟨hx, hb, hml, hown, hts⟩ (mX7_pass l D mad kI kZ M (xs (Int32.toNatClampNeg (nI (5 * t) + 1))) bb M1 hm) (cwV 1 hts gL_law_X7_pass rfl rfl rfl (by decide +kernel) ⟨Nat.le_of_ble_eq_true rfl, Nat.le_of_ble_eq_true rfl⟩) (mg_preV hLI.2.2.1 hmK hLI.2.2.2.1) rfl rfl hl.1 rfl (lv_room (Nat.le_of_ble_eq_true rfl)) dL_law_1311 ⟨(Nat.le_trans (show 100 + 20 * t + 2 + 0 ≤ 600000 by omega) rm_c), (Nat.le_trans (show 2000 + 120 * t + 12 + 0 ≤ 7000000 by omega) rm_s)⟩) hS (fun H locs hLI hz2 hS => ?_)
      refine lv_istore (lv' := [(6, .int bb), (5, .int 1), (0, .ref b), (1, .ref (ad1 0 0)), (2, .ref (mad 0)), (3, .ref q), (4, .int (nI (5 * t)))]) hx hb dL_law_1314 hl (by decide) rfl (fun ls hl => ?_)
      refine lv_aload_n hx hb dL_law_1316 rfl (lv_at hl 4 rfl) ?_
      refine lg_modeli hLI (va_runV (As := []) (rest := []) ⟨hx, hb, hml, hown, hts⟩ (mX7_thrown l D mad kI kZ M1 (M1 0 0) rfl) (cwV 0 hts gL_law_X7_thrown rfl rfl rfl (by decide +kernel) ⟨Nat.le_of_ble_eq_true rfl, Nat.le_of_ble_eq_true rfl⟩) (mg_preV hLI.2.2.1 hmK hLI.2.2.2.1) rfl rfl hl.1 rfl (lv_room (Nat.le_of_ble_eq_true rfl)) dL_law_1317 ⟨(Nat.le_trans (show 100 + 20 * t + 2 + 0 ≤ 600000 by omega) rm_c), (Nat.le_trans (show 2000 + 120 * t + 12 + 0 ≤ 7000000 by omega) rm_s)⟩) hS (fun H locs hLI hz3 hS => ?_)
      refine lv_iload hx hb dL_law_1320 (lv_at hl 1 rfl) ?_
      refine lv_icmp_eq (tgt := 1327) hx hb dL_law_1322 (by decide) (fun _ => ?_) (fun hc => absurd h0 hc)
      refine lv_iload hx hb dL_law_1327 (lv_at hl 1 rfl) ?_
      refine lv_if_ne (tgt := 1344) hx hb dL_law_1329 (by decide) (fun _ => ?_) (fun hc => absurd hc (by decide))
      refine lv_goto (tgt := 2028) hx hb dL_law_1344 (by decide) ?_
      refine W.widen (k := 100 + 20 * (t + 1)) (n := 2000 + 120 * (t + 1)) (by omega) (by omega) ?_
      exact kk H locs ls ad1 Z1 M1 f1 h00 hLI hR1 hS (lv_sub hl [2, 3, 4, 5, 6] rfl)
    | 1, hj =>
      cases hj
      refine lg_class hLI (fun r h => hA0 r (Nat.le_trans hS.1 h)) (vx_runSX (As := [.ref (ad 0 0), .int (xs (Int32.toNatClampNeg (nI (5 * t) + 1))), .ref q]) (rest := []) ⟨hx, hb, hml, hown, hts⟩ (mL_pass_x2 l hfl D G (lA ad Z H) ad Z cJ q f (xs (Int32.toNatClampNeg (nI (5 * t) + 1))) Z1 hc) (vx_cwSW 3 hts gL_law_L_pass rfl rfl rfl (by decide +kernel) ⟨Nat.le_of_ble_eq_true rfl, Nat.le_of_ble_eq_true rfl⟩) (lg_preS hLI (fun r h => hA0 r (Nat.le_trans hS.1 h)) hK hKJ hE hF hNc hS) rfl rfl hl.1 rfl (lv_room (Nat.le_of_ble_eq_true rfl)) dL_law_1299 ⟨(Nat.le_trans (show 100 + 20 * t + 2 ≤ 600000 by omega) rm_c), (Nat.le_trans (show 2000 + 120 * t + 12 ≤ 7000000 by omega) rm_s)⟩) hS (fun H locs ad1 f1 hP h00 hLI hz hS => ?_)
      rw [← h00] at hl
      refine lv_istore (lv' := [(5, .int 2), (0, .ref b), (1, .ref (ad1 0 0)), (2, .ref (mad 0)), (3, .ref q), (4, .int (nI (5 * t)))]) hx hb dL_law_1302 hl (by decide) rfl (fun ls hl => ?_)
      refine lv_aload_n hx hb dL_law_1304 rfl (lv_at hl 3 rfl) ?_
      refine lv_aload_n hx hb dL_law_1305 rfl (lv_at hl 1 rfl) ?_
      refine lv_iload hx hb dL_law_1306 (lv_at hl 5 rfl) ?_
      refine lv_iconst (v := 1) hx hb dL_law_1308 (by decide) ?_
      refine lv_iadd hx hb dL_law_1309 ?_
      refine va_sld hx hb hX hbl hbA hS (law_in hL ht (show (1 : Nat) ≤ 4 by omega)) dL_law_1310 ?_
      refine lg_modeli hLI (va_runV (As := [.int (xs (Int32.toNatClampNeg (nI (5 * t) + 1)))]) (rest := []) ⟨hx, hb, hml, hown, hts⟩ (mX7_pass l D mad kI kZ M (xs (Int32.toNatClampNeg (nI (5 * t) + 1))) bb M1 hm) (cwV 1 hts gL_law_X7_pass rfl rfl rfl (by decide +kernel) ⟨Nat.le_of_ble_eq_true rfl, Nat.le_of_ble_eq_true rfl⟩) (mg_preV hLI.2.2.1 hmK hLI.2.2.2.1) rfl rfl hl.1 rfl (lv_room (Nat.le_of_ble_eq_true rfl)) dL_law_1311 ⟨(Nat.le_trans (show 100 + 20 * t + 2 + 0 ≤ 600000 by omega) rm_c), (Nat.le_trans (show 2000 + 120 * t + 12 + 0 ≤ 7000000 by omega) rm_s)⟩) hS (fun H locs hLI hz2 hS => ?_)
      refine lv_istore (lv' := [(6, .int bb), (5, .int 2), (0, .ref b), (1, .ref (ad1 0 0)), (2, .ref (mad 0)), (3, .ref q), (4, .int (nI (5 * t)))]) hx hb dL_law_1314 hl (by decide) rfl (fun ls hl => ?_)
      refine lv_aload_n hx hb dL_law_1316 rfl (lv_at hl 4 rfl) ?_
      refine lg_modeli hLI (va_runV (As := []) (rest := []) ⟨hx, hb, hml, hown, hts⟩ (mX7_thrown l D mad kI kZ M1 (M1 0 0) rfl) (cwV 0 hts gL_law_X7_thrown rfl rfl rfl (by decide +kernel) ⟨Nat.le_of_ble_eq_true rfl, Nat.le_of_ble_eq_true rfl⟩) (mg_preV hLI.2.2.1 hmK hLI.2.2.2.1) rfl rfl hl.1 rfl (lv_room (Nat.le_of_ble_eq_true rfl)) dL_law_1317 ⟨(Nat.le_trans (show 100 + 20 * t + 2 + 0 ≤ 600000 by omega) rm_c), (Nat.le_trans (show 2000 + 120 * t + 12 + 0 ≤ 7000000 by omega) rm_s)⟩) hS (fun H locs hLI hz3 hS => ?_)
      refine lv_iload hx hb dL_law_1320 (lv_at hl 1 rfl) ?_
      refine lv_icmp_eq (tgt := 1327) hx hb dL_law_1322 (by decide) (fun _ => ?_) (fun hc => absurd h0 hc)
      refine lv_iload hx hb dL_law_1327 (lv_at hl 1 rfl) ?_
      refine lv_if_ne (tgt := 1344) hx hb dL_law_1329 (by decide) (fun _ => ?_) (fun hc => absurd hc (by decide))
      refine lv_goto (tgt := 2028) hx hb dL_law_1344 (by decide) ?_
      refine W.widen (k := 100 + 20 * (t + 1)) (n := 2000 + 120 * (t + 1)) (by omega) (by omega) ?_
      exact kk H locs ls ad1 Z1 M1 f1 h00 hLI hR1 hS (lv_sub hl [2, 3, 4, 5, 6] rfl)
    | j + 2, hj => cases hj
set_option maxHeartbeats 4000000 in
set_option maxRecDepth 100000 in
theorem law_seat (hx : p.tables.exec = Jvm.exec) (hb : c.code = cL_law) (hml : c.maxLocals = 7) (hown : s.vm.findClass RL = some m.cls) (hts : ∀ w ∈ wsL_law, w.before #[Value.ref b] s = true) (hX : va_X b L xs s s.heap) (hbl : b < s.heap.size) (hfl : l.stackTraces = false) (hK : cK D G s) (hmK : mK D kI kZ s) (hKJ : va_K D vwCl [(cJ, .long)] s) (hE : cE A0 s s.heap) (hF : cF G A0 s s.heap) (hNc : lNc s) (hbA : ¬ A0 b) (hA0 : ∀ r, s.heap.size ≤ r → A0 r) {R R1 : CZ → MT → Prop} (hst : st_seat R R1) {t : Nat} (hL : L ≤ 2560) (ht : 5 * t + 5 ≤ L) (hLI : lI D G ad Z mad kI kZ M cJ q f A0 H) (hR : R Z M) (hS : va_S A0 s.heap H locs) (hl : lv_has ls 7 [(0, .ref b), (1, .ref (ad 0 0)), (2, .ref (mad 0)), (3, .ref q), (4, .int (nI (5 * t)))])
    (kk : ∀ (H1 : Heap) (locs1 : List Loc) (ls1 : Array Slot) (ad1 : Nat → Nat → Nat) (Z1 : CZ) (M1 : MT) (f1 : Nat → Int64), ad1 0 0 = ad 0 0 → lI D G ad1 Z1 mad kI kZ M1 cJ q f1 A0 H1 → R1 Z1 M1 → va_S A0 s.heap H1 locs1 → lv_has ls1 7 [(0, .ref b), (1, .ref (ad1 0 0)), (2, .ref (mad 0)), (3, .ref q), (4, .int (nI (5 * t)))] → W p l e room_1 s m #[Value.ref b] below meth c H1 locs1 (100 + 20 * (t + 1)) (2000 + 120 * (t + 1)) Q (F0 m 2028 ls1 [])) : W p l e room_1 s m #[Value.ref b] below meth c H locs (100 + 20 * t) (2000 + 120 * t) Q (F0 m 1347 ls []) := by
  have ht5 : t < 512 := by omega
  refine lv_aload_n hx hb dL_law_1347 rfl (lv_at hl 1 rfl) ?_
  refine lv_aload_n hx hb dL_law_1348 rfl (lv_at hl 0 rfl) ?_
  refine lv_iload hx hb dL_law_1349 (lv_at hl 4 rfl) ?_
  refine lv_iconst (v := 1) hx hb dL_law_1351 (by decide) ?_
  refine lv_iadd hx hb dL_law_1352 ?_
  refine va_sld hx hb hX hbl hbA hS (law_in hL ht (show (1 : Nat) ≤ 4 by omega)) dL_law_1353 ?_
  refine lv_aload_n hx hb dL_law_1354 rfl (lv_at hl 0 rfl) ?_
  refine lv_iload hx hb dL_law_1355 (lv_at hl 4 rfl) ?_
  refine lv_iconst (v := 2) hx hb dL_law_1357 (by decide) ?_
  refine lv_iadd hx hb dL_law_1358 ?_
  refine va_sld hx hb hX hbl hbA hS (law_in hL ht (show (2 : Nat) ≤ 4 by omega)) dL_law_1359 ?_
  refine lv_aload_n hx hb dL_law_1360 rfl (lv_at hl 3 rfl) ?_
  obtain ⟨bb, M1, hm, hR1, hw⟩ := hst Z M hR (xs (Int32.toNatClampNeg (nI (5 * t) + 1))) (xs (Int32.toNatClampNeg (nI (5 * t) + 2)))
  rcases hw with ⟨hc, h0⟩ | ⟨j, cd, hc, hj, h0⟩
  · refine lg_class hLI (fun r h => hA0 r (Nat.le_trans hS.1 h)) (vx_runSX (As := [.ref (ad 0 0), .int (xs (Int32.toNatClampNeg (nI (5 * t) + 1))), .int (xs (Int32.toNatClampNeg (nI (5 * t) + 2))), .ref q]) (rest := []) ⟨hx, hb, hml, hown, hts⟩ (mL_seat l hfl D G (lA ad Z H) ad Z cJ q f (xs (Int32.toNatClampNeg (nI (5 * t) + 1))) (xs (Int32.toNatClampNeg (nI (5 * t) + 2))) bb  hc) (vx_cwSW 4 hts gL_law_L_seat rfl rfl rfl (by decide +kernel) ⟨Nat.le_of_ble_eq_true rfl, Nat.le_of_ble_eq_true rfl⟩) (lg_preS hLI (fun r h => hA0 r (Nat.le_trans hS.1 h)) hK hKJ hE hF hNc hS) rfl rfl hl.1 rfl (lv_room (Nat.le_of_ble_eq_true rfl)) dL_law_1361 ⟨(Nat.le_trans (show 100 + 20 * t + 2 ≤ 600000 by omega) rm_c), (Nat.le_trans (show 2000 + 120 * t + 12 ≤ 7000000 by omega) rm_s)⟩) hS (fun H locs ad1 f1 hP h00 hLI hz hS => ?_)
    rw [← h00] at hl
    refine lv_istore (lv' := [(5, .int 0), (0, .ref b), (1, .ref (ad1 0 0)), (2, .ref (mad 0)), (3, .ref q), (4, .int (nI (5 * t)))]) hx hb dL_law_1364 hl (by decide) rfl (fun ls hl => ?_)
    refine lv_aload_n hx hb dL_law_1366 rfl (lv_at hl 3 rfl) ?_
    refine lv_aload_n hx hb dL_law_1367 rfl (lv_at hl 1 rfl) ?_
    refine lv_iload hx hb dL_law_1368 (lv_at hl 5 rfl) ?_
    refine lv_iconst (v := 1) hx hb dL_law_1370 (by decide) ?_
    refine lv_iadd hx hb dL_law_1371 ?_
    refine va_sld hx hb hX hbl hbA hS (law_in hL ht (show (1 : Nat) ≤ 4 by omega)) dL_law_1372 ?_
    refine lv_aload_n hx hb dL_law_1373 rfl (lv_at hl 1 rfl) ?_
    refine lv_iload hx hb dL_law_1374 (lv_at hl 5 rfl) ?_
    refine lv_iconst (v := 2) hx hb dL_law_1376 (by decide) ?_
    refine lv_iadd hx hb dL_law_1377 ?_
    refine va_sld hx hb hX hbl hbA hS (law_in hL ht (show (2 : Nat) ≤ 4 by omega)) dL_law_1378 ?_
    refine lg_modeli hLI (va_runV (As := [.int (xs (Int32.toNatClampNeg (nI (5 * t) + 1))), .int (xs (Int32.toNatClampNeg (nI (5 * t) + 2)))]) (rest := []) ⟨hx, hb, hml, hown, hts⟩ (mX7_seat l D mad kI kZ M (xs (Int32.toNatClampNeg (nI (5 * t) + 1))) (xs (Int32.toNatClampNeg (nI (5 * t) + 2))) bb M1 hm) (cwV 2 hts gL_law_X7_seat rfl rfl rfl (by decide +kernel) ⟨Nat.le_of_ble_eq_true rfl, Nat.le_of_ble_eq_true rfl⟩) (mg_preV hLI.2.2.1 hmK hLI.2.2.2.1) rfl rfl hl.1 rfl (lv_room (Nat.le_of_ble_eq_true rfl)) dL_law_1379 ⟨(Nat.le_trans (show 100 + 20 * t + 2 + 0 ≤ 600000 by omega) rm_c), (Nat.le_trans (show 2000 + 120 * t + 12 + 0 ≤ 7000000 by omega) rm_s)⟩) hS (fun H locs hLI hz2 hS => ?_)
    refine lv_istore (lv' := [(6, .int bb), (5, .int 0), (0, .ref b), (1, .ref (ad1 0 0)), (2, .ref (mad 0)), (3, .ref q), (4, .int (nI (5 * t)))]) hx hb dL_law_1382 hl (by decide) rfl (fun ls hl => ?_)
    refine lv_aload_n hx hb dL_law_1384 rfl (lv_at hl 4 rfl) ?_
    refine lg_modeli hLI (va_runV (As := []) (rest := []) ⟨hx, hb, hml, hown, hts⟩ (mX7_thrown l D mad kI kZ M1 (M1 0 0) rfl) (cwV 0 hts gL_law_X7_thrown rfl rfl rfl (by decide +kernel) ⟨Nat.le_of_ble_eq_true rfl, Nat.le_of_ble_eq_true rfl⟩) (mg_preV hLI.2.2.1 hmK hLI.2.2.2.1) rfl rfl hl.1 rfl (lv_room (Nat.le_of_ble_eq_true rfl)) dL_law_1385 ⟨(Nat.le_trans (show 100 + 20 * t + 2 + 0 ≤ 600000 by omega) rm_c), (Nat.le_trans (show 2000 + 120 * t + 12 + 0 ≤ 7000000 by omega) rm_s)⟩) hS (fun H locs hLI hz3 hS => ?_)
    refine lv_iload hx hb dL_law_1388 (lv_at hl 1 rfl) ?_
    refine lv_icmp_eq (tgt := 1395) hx hb dL_law_1390 (by decide) (fun _ => ?_) (fun hc => absurd h0 hc)
    refine lv_iload hx hb dL_law_1395 (lv_at hl 1 rfl) ?_
    refine lv_if_ne (tgt := 1412) hx hb dL_law_1397 (by decide) (fun hc => absurd rfl hc) (fun _ => ?_)
    refine lv_aload_n hx hb dL_law_1400 rfl (lv_at hl 5 rfl) ?_
    refine lv_iconst (v := 0) hx hb dL_law_1401 (by decide) ?_
    refine va_lald hx hb hKJ (iw_P1 hLI.2.2.2.2.1) 0 0 rfl rfl (show ¬ ((0 : Int32) < 0 ∨ 1 ≤ (0 : Int32).toNatClampNeg) from by decide) dL_law_1402 ?_
    rw [show f1 (0 : Int32).toNatClampNeg = bb.toInt64 from hP]
    refine lv_iload hx hb dL_law_1403 (lv_at hl 0 rfl) ?_
    refine lv_i2l hx hb (v := bb.toInt64) dL_law_1405 rfl ?_
    refine lg_lcmp hx hb dL_law_1406 ?_
    refine lv_if_eq (tgt := 1412) hx hb dL_law_1407 (by decide) (fun _ => ?_) (fun hc => absurd rfl hc)
    refine lv_goto (tgt := 2028) hx hb dL_law_1412 (by decide) ?_
    refine W.widen (k := 100 + 20 * (t + 1)) (n := 2000 + 120 * (t + 1)) (by omega) (by omega) ?_
    exact kk H locs ls ad1 Z M1 f1 h00 hLI hR1 hS (lv_sub hl [2, 3, 4, 5, 6] rfl)
  · match j, hj with
    | 0, hj =>
      cases hj
      refine lg_class hLI (fun r h => hA0 r (Nat.le_trans hS.1 h)) (vx_runSX (As := [.ref (ad 0 0), .int (xs (Int32.toNatClampNeg (nI (5 * t) + 1))), .int (xs (Int32.toNatClampNeg (nI (5 * t) + 2))), .ref q]) (rest := []) ⟨hx, hb, hml, hown, hts⟩ (mL_seat_x1 l hfl D G (lA ad Z H) ad Z cJ q f (xs (Int32.toNatClampNeg (nI (5 * t) + 1))) (xs (Int32.toNatClampNeg (nI (5 * t) + 2)))  hc) (vx_cwSW 4 hts gL_law_L_seat rfl rfl rfl (by decide +kernel) ⟨Nat.le_of_ble_eq_true rfl, Nat.le_of_ble_eq_true rfl⟩) (lg_preS hLI (fun r h => hA0 r (Nat.le_trans hS.1 h)) hK hKJ hE hF hNc hS) rfl rfl hl.1 rfl (lv_room (Nat.le_of_ble_eq_true rfl)) dL_law_1361 ⟨(Nat.le_trans (show 100 + 20 * t + 2 ≤ 600000 by omega) rm_c), (Nat.le_trans (show 2000 + 120 * t + 12 ≤ 7000000 by omega) rm_s)⟩) hS (fun H locs ad1 f1 hP h00 hLI hz hS => ?_)
      rw [← h00] at hl
      refine lv_istore (lv' := [(5, .int 1), (0, .ref b), (1, .ref (ad1 0 0)), (2, .ref (mad 0)), (3, .ref q), (4, .int (nI (5 * t)))]) hx hb dL_law_1364 hl (by decide) rfl (fun ls hl => ?_)
      refine lv_aload_n hx hb dL_law_1366 rfl (lv_at hl 3 rfl) ?_
      refine lv_aload_n hx hb dL_law_1367 rfl (lv_at hl 1 rfl) ?_
      refine lv_iload hx hb dL_law_1368 (lv_at hl 5 rfl) ?_
      refine lv_iconst (v := 1) hx hb dL_law_1370 (by decide) ?_
      refine lv_iadd hx hb dL_law_1371 ?_
      refine va_sld hx hb hX hbl hbA hS (law_in hL ht (show (1 : Nat) ≤ 4 by omega)) dL_law_1372 ?_
      refine lv_aload_n hx hb dL_law_1373 rfl (lv_at hl 1 rfl) ?_
      refine lv_iload hx hb dL_law_1374 (lv_at hl 5 rfl) ?_
      refine lv_iconst (v := 2) hx hb dL_law_1376 (by decide) ?_
      refine lv_iadd hx hb dL_law_1377 ?_
      refine va_sld hx hb hX hbl hbA hS (law_in hL ht (show (2 : Nat) ≤ 4 by omega)) dL_law_1378 ?_
      refine lg_modeli hLI (va_runV (As := [.int (xs (Int32.toNatClampNeg (nI (5 * t) + 1))), .int (xs (Int32.toNatClampNeg (nI (5 * t) + 2)))]) (rest := []) ⟨hx, hb, hml, hown, hts⟩ (mX7_seat l D mad kI kZ M (xs (Int32.toNatClampNeg (nI (5 * t) + 1))) (xs (Int32.toNatClampNeg (nI (5 * t) + 2))) bb M1 hm) (cwV 2 hts gL_law_X7_seat rfl rfl rfl (by decide +kernel) ⟨Nat.le_of_ble_eq_true rfl, Nat.le_of_ble_eq_true rfl⟩) (mg_preV hLI.2.2.1 hmK hLI.2.2.2.1) rfl rfl hl.1 rfl (lv_room (Nat.le_of_ble_eq_true rfl)) dL_law_1379 ⟨(Nat.le_trans (show 100 + 20 * t + 2 + 0 ≤ 600000 by omega) rm_c), (Nat.le_trans (show 2000 + 120 * t + 12 + 0 ≤ 7000000 by omega) rm_s)⟩) hS (fun H locs hLI hz2 hS => ?_)
      refine lv_istore (lv' := [(6, .int bb), (5, .int 1), (0, .ref b), (1, .ref (ad1 0 0)), (2, .ref (mad 0)), (3, .ref q), (4, .int (nI (5 * t)))]) hx hb dL_law_1382 hl (by decide) rfl (fun ls hl => ?_)
      refine lv_aload_n hx hb dL_law_1384 rfl (lv_at hl 4 rfl) ?_
      refine lg_modeli hLI (va_runV (As := []) (rest := []) ⟨hx, hb, hml, hown, hts⟩ (mX7_thrown l D mad kI kZ M1 (M1 0 0) rfl) (cwV 0 hts gL_law_X7_thrown rfl rfl rfl (by decide +kernel) ⟨Nat.le_of_ble_eq_true rfl, Nat.le_of_ble_eq_true rfl⟩) (mg_preV hLI.2.2.1 hmK hLI.2.2.2.1) rfl rfl hl.1 rfl (lv_room (Nat.le_of_ble_eq_true rfl)) dL_law_1385 ⟨(Nat.le_trans (show 100 + 20 * t + 2 + 0 ≤ 600000 by omega) rm_c), (Nat.le_trans (show 2000 + 120 * t + 12 + 0 ≤ 7000000 by omega) rm_s)⟩) hS (fun H locs hLI hz3 hS => ?_)
      refine lv_iload hx hb dL_law_1388 (lv_at hl 1 rfl) ?_
      refine lv_icmp_eq (tgt := 1395) hx hb dL_law_1390 (by decide) (fun _ => ?_) (fun hc => absurd h0 hc)
      refine lv_iload hx hb dL_law_1395 (lv_at hl 1 rfl) ?_
      refine lv_if_ne (tgt := 1412) hx hb dL_law_1397 (by decide) (fun _ => ?_) (fun hc => absurd hc (by decide))
      refine lv_goto (tgt := 2028) hx hb dL_law_1412 (by decide) ?_
      refine W.widen (k := 100 + 20 * (t + 1)) (n := 2000 + 120 * (t + 1)) (by omega) (by omega) ?_
      exact kk H locs ls ad1 Z M1 f1 h00 hLI hR1 hS (lv_sub hl [2, 3, 4, 5, 6] rfl)
    | j + 1, hj => cases hj
set_option maxHeartbeats 4000000 in
set_option maxRecDepth 100000 in
theorem law_knows (hx : p.tables.exec = Jvm.exec) (hb : c.code = cL_law) (hml : c.maxLocals = 7) (hown : s.vm.findClass RL = some m.cls) (hts : ∀ w ∈ wsL_law, w.before #[Value.ref b] s = true) (hX : va_X b L xs s s.heap) (hbl : b < s.heap.size) (hfl : l.stackTraces = false) (hK : cK D G s) (hmK : mK D kI kZ s) (hKJ : va_K D vwCl [(cJ, .long)] s) (hE : cE A0 s s.heap) (hF : cF G A0 s s.heap) (hNc : lNc s) (hbA : ¬ A0 b) (hA0 : ∀ r, s.heap.size ≤ r → A0 r) {R R1 : CZ → MT → Prop} (hst : st_knows R R1) {t : Nat} (hL : L ≤ 2560) (ht : 5 * t + 5 ≤ L) (hLI : lI D G ad Z mad kI kZ M cJ q f A0 H) (hR : R Z M) (hS : va_S A0 s.heap H locs) (hl : lv_has ls 7 [(0, .ref b), (1, .ref (ad 0 0)), (2, .ref (mad 0)), (3, .ref q), (4, .int (nI (5 * t)))])
    (kk : ∀ (H1 : Heap) (locs1 : List Loc) (ls1 : Array Slot) (ad1 : Nat → Nat → Nat) (Z1 : CZ) (M1 : MT) (f1 : Nat → Int64), ad1 0 0 = ad 0 0 → lI D G ad1 Z1 mad kI kZ M1 cJ q f1 A0 H1 → R1 Z1 M1 → va_S A0 s.heap H1 locs1 → lv_has ls1 7 [(0, .ref b), (1, .ref (ad1 0 0)), (2, .ref (mad 0)), (3, .ref q), (4, .int (nI (5 * t)))] → W p l e room_1 s m #[Value.ref b] below meth c H1 locs1 (100 + 20 * (t + 1)) (2000 + 120 * (t + 1)) Q (F0 m 2028 ls1 [])) : W p l e room_1 s m #[Value.ref b] below meth c H locs (100 + 20 * t) (2000 + 120 * t) Q (F0 m 1415 ls []) := by
  have ht5 : t < 512 := by omega
  refine lv_aload_n hx hb dL_law_1415 rfl (lv_at hl 1 rfl) ?_
  refine lv_aload_n hx hb dL_law_1416 rfl (lv_at hl 0 rfl) ?_
  refine lv_iload hx hb dL_law_1417 (lv_at hl 4 rfl) ?_
  refine lv_iconst (v := 1) hx hb dL_law_1419 (by decide) ?_
  refine lv_iadd hx hb dL_law_1420 ?_
  refine va_sld hx hb hX hbl hbA hS (law_in hL ht (show (1 : Nat) ≤ 4 by omega)) dL_law_1421 ?_
  refine lv_aload_n hx hb dL_law_1422 rfl (lv_at hl 0 rfl) ?_
  refine lv_iload hx hb dL_law_1423 (lv_at hl 4 rfl) ?_
  refine lv_iconst (v := 2) hx hb dL_law_1425 (by decide) ?_
  refine lv_iadd hx hb dL_law_1426 ?_
  refine va_sld hx hb hX hbl hbA hS (law_in hL ht (show (2 : Nat) ≤ 4 by omega)) dL_law_1427 ?_
  refine lv_aload_n hx hb dL_law_1428 rfl (lv_at hl 0 rfl) ?_
  refine lv_iload hx hb dL_law_1429 (lv_at hl 4 rfl) ?_
  refine lv_iconst (v := 3) hx hb dL_law_1431 (by decide) ?_
  refine lv_iadd hx hb dL_law_1432 ?_
  refine va_sld hx hb hX hbl hbA hS (law_in hL ht (show (3 : Nat) ≤ 4 by omega)) dL_law_1433 ?_
  refine lv_aload_n hx hb dL_law_1434 rfl (lv_at hl 3 rfl) ?_
  obtain ⟨bb, M1, hm, hR1, hw⟩ := hst Z M hR (xs (Int32.toNatClampNeg (nI (5 * t) + 1))) (xs (Int32.toNatClampNeg (nI (5 * t) + 2))) (xs (Int32.toNatClampNeg (nI (5 * t) + 3)))
  rcases hw with ⟨hc, h0⟩ | ⟨j, cd, hc, hj, h0⟩
  · refine lg_class hLI (fun r h => hA0 r (Nat.le_trans hS.1 h)) (vx_runSX (As := [.ref (ad 0 0), .int (xs (Int32.toNatClampNeg (nI (5 * t) + 1))), .int (xs (Int32.toNatClampNeg (nI (5 * t) + 2))), .int (xs (Int32.toNatClampNeg (nI (5 * t) + 3))), .ref q]) (rest := []) ⟨hx, hb, hml, hown, hts⟩ (mL_knows l hfl D G (lA ad Z H) ad Z cJ q f (xs (Int32.toNatClampNeg (nI (5 * t) + 1))) (xs (Int32.toNatClampNeg (nI (5 * t) + 2))) (xs (Int32.toNatClampNeg (nI (5 * t) + 3))) bb  hc) (vx_cwSW 5 hts gL_law_L_knows rfl rfl rfl (by decide +kernel) ⟨Nat.le_of_ble_eq_true rfl, Nat.le_of_ble_eq_true rfl⟩) (lg_preS hLI (fun r h => hA0 r (Nat.le_trans hS.1 h)) hK hKJ hE hF hNc hS) rfl rfl hl.1 rfl (lv_room (Nat.le_of_ble_eq_true rfl)) dL_law_1435 ⟨(Nat.le_trans (show 100 + 20 * t + 4 ≤ 600000 by omega) rm_c), (Nat.le_trans (show 2000 + 120 * t + 24 ≤ 7000000 by omega) rm_s)⟩) hS (fun H locs ad1 f1 hP h00 hLI hz hS => ?_)
    rw [← h00] at hl
    refine lv_istore (lv' := [(5, .int 0), (0, .ref b), (1, .ref (ad1 0 0)), (2, .ref (mad 0)), (3, .ref q), (4, .int (nI (5 * t)))]) hx hb dL_law_1438 hl (by decide) rfl (fun ls hl => ?_)
    refine lv_aload_n hx hb dL_law_1440 rfl (lv_at hl 3 rfl) ?_
    refine lv_aload_n hx hb dL_law_1441 rfl (lv_at hl 1 rfl) ?_
    refine lv_iload hx hb dL_law_1442 (lv_at hl 5 rfl) ?_
    refine lv_iconst (v := 1) hx hb dL_law_1444 (by decide) ?_
    refine lv_iadd hx hb dL_law_1445 ?_
    refine va_sld hx hb hX hbl hbA hS (law_in hL ht (show (1 : Nat) ≤ 4 by omega)) dL_law_1446 ?_
    refine lv_aload_n hx hb dL_law_1447 rfl (lv_at hl 1 rfl) ?_
    refine lv_iload hx hb dL_law_1448 (lv_at hl 5 rfl) ?_
    refine lv_iconst (v := 2) hx hb dL_law_1450 (by decide) ?_
    refine lv_iadd hx hb dL_law_1451 ?_
    refine va_sld hx hb hX hbl hbA hS (law_in hL ht (show (2 : Nat) ≤ 4 by omega)) dL_law_1452 ?_
    refine lv_aload_n hx hb dL_law_1453 rfl (lv_at hl 1 rfl) ?_
    refine lv_iload hx hb dL_law_1454 (lv_at hl 5 rfl) ?_
    refine lv_iconst (v := 3) hx hb dL_law_1456 (by decide) ?_
    refine lv_iadd hx hb dL_law_1457 ?_
    refine va_sld hx hb hX hbl hbA hS (law_in hL ht (show (3 : Nat) ≤ 4 by omega)) dL_law_1458 ?_
    refine lg_modeli hLI (va_runV (As := [.int (xs (Int32.toNatClampNeg (nI (5 * t) + 1))), .int (xs (Int32.toNatClampNeg (nI (5 * t) + 2))), .int (xs (Int32.toNatClampNeg (nI (5 * t) + 3)))]) (rest := []) ⟨hx, hb, hml, hown, hts⟩ (mX7_knows l D mad kI kZ M (xs (Int32.toNatClampNeg (nI (5 * t) + 1))) (xs (Int32.toNatClampNeg (nI (5 * t) + 2))) (xs (Int32.toNatClampNeg (nI (5 * t) + 3))) bb M1 hm) (cwV 3 hts gL_law_X7_knows rfl rfl rfl (by decide +kernel) ⟨Nat.le_of_ble_eq_true rfl, Nat.le_of_ble_eq_true rfl⟩) (mg_preV hLI.2.2.1 hmK hLI.2.2.2.1) rfl rfl hl.1 rfl (lv_room (Nat.le_of_ble_eq_true rfl)) dL_law_1459 ⟨(Nat.le_trans (show 100 + 20 * t + 4 + 0 ≤ 600000 by omega) rm_c), (Nat.le_trans (show 2000 + 120 * t + 24 + 0 ≤ 7000000 by omega) rm_s)⟩) hS (fun H locs hLI hz2 hS => ?_)
    refine lv_istore (lv' := [(6, .int bb), (5, .int 0), (0, .ref b), (1, .ref (ad1 0 0)), (2, .ref (mad 0)), (3, .ref q), (4, .int (nI (5 * t)))]) hx hb dL_law_1462 hl (by decide) rfl (fun ls hl => ?_)
    refine lv_aload_n hx hb dL_law_1464 rfl (lv_at hl 4 rfl) ?_
    refine lg_modeli hLI (va_runV (As := []) (rest := []) ⟨hx, hb, hml, hown, hts⟩ (mX7_thrown l D mad kI kZ M1 (M1 0 0) rfl) (cwV 0 hts gL_law_X7_thrown rfl rfl rfl (by decide +kernel) ⟨Nat.le_of_ble_eq_true rfl, Nat.le_of_ble_eq_true rfl⟩) (mg_preV hLI.2.2.1 hmK hLI.2.2.2.1) rfl rfl hl.1 rfl (lv_room (Nat.le_of_ble_eq_true rfl)) dL_law_1465 ⟨(Nat.le_trans (show 100 + 20 * t + 4 + 0 ≤ 600000 by omega) rm_c), (Nat.le_trans (show 2000 + 120 * t + 24 + 0 ≤ 7000000 by omega) rm_s)⟩) hS (fun H locs hLI hz3 hS => ?_)
    refine lv_iload hx hb dL_law_1468 (lv_at hl 1 rfl) ?_
    refine lv_icmp_eq (tgt := 1475) hx hb dL_law_1470 (by decide) (fun _ => ?_) (fun hc => absurd h0 hc)
    refine lv_iload hx hb dL_law_1475 (lv_at hl 1 rfl) ?_
    refine lv_if_ne (tgt := 1492) hx hb dL_law_1477 (by decide) (fun hc => absurd rfl hc) (fun _ => ?_)
    refine lv_aload_n hx hb dL_law_1480 rfl (lv_at hl 5 rfl) ?_
    refine lv_iconst (v := 0) hx hb dL_law_1481 (by decide) ?_
    refine va_lald hx hb hKJ (iw_P1 hLI.2.2.2.2.1) 0 0 rfl rfl (show ¬ ((0 : Int32) < 0 ∨ 1 ≤ (0 : Int32).toNatClampNeg) from by decide) dL_law_1482 ?_
    rw [show f1 (0 : Int32).toNatClampNeg = bb.toInt64 from hP]
    refine lv_iload hx hb dL_law_1483 (lv_at hl 0 rfl) ?_
    refine lv_i2l hx hb (v := bb.toInt64) dL_law_1485 rfl ?_
    refine lg_lcmp hx hb dL_law_1486 ?_
    refine lv_if_eq (tgt := 1492) hx hb dL_law_1487 (by decide) (fun _ => ?_) (fun hc => absurd rfl hc)
    refine lv_goto (tgt := 2028) hx hb dL_law_1492 (by decide) ?_
    refine W.widen (k := 100 + 20 * (t + 1)) (n := 2000 + 120 * (t + 1)) (by omega) (by omega) ?_
    exact kk H locs ls ad1 Z M1 f1 h00 hLI hR1 hS (lv_sub hl [2, 3, 4, 5, 6] rfl)
  · match j, hj with
    | 0, hj =>
      cases hj
      refine lg_class hLI (fun r h => hA0 r (Nat.le_trans hS.1 h)) (vx_runSX (As := [.ref (ad 0 0), .int (xs (Int32.toNatClampNeg (nI (5 * t) + 1))), .int (xs (Int32.toNatClampNeg (nI (5 * t) + 2))), .int (xs (Int32.toNatClampNeg (nI (5 * t) + 3))), .ref q]) (rest := []) ⟨hx, hb, hml, hown, hts⟩ (mL_knows_x1 l hfl D G (lA ad Z H) ad Z cJ q f (xs (Int32.toNatClampNeg (nI (5 * t) + 1))) (xs (Int32.toNatClampNeg (nI (5 * t) + 2))) (xs (Int32.toNatClampNeg (nI (5 * t) + 3)))  hc) (vx_cwSW 5 hts gL_law_L_knows rfl rfl rfl (by decide +kernel) ⟨Nat.le_of_ble_eq_true rfl, Nat.le_of_ble_eq_true rfl⟩) (lg_preS hLI (fun r h => hA0 r (Nat.le_trans hS.1 h)) hK hKJ hE hF hNc hS) rfl rfl hl.1 rfl (lv_room (Nat.le_of_ble_eq_true rfl)) dL_law_1435 ⟨(Nat.le_trans (show 100 + 20 * t + 4 ≤ 600000 by omega) rm_c), (Nat.le_trans (show 2000 + 120 * t + 24 ≤ 7000000 by omega) rm_s)⟩) hS (fun H locs ad1 f1 hP h00 hLI hz hS => ?_)
      rw [← h00] at hl
      refine lv_istore (lv' := [(5, .int 1), (0, .ref b), (1, .ref (ad1 0 0)), (2, .ref (mad 0)), (3, .ref q), (4, .int (nI (5 * t)))]) hx hb dL_law_1438 hl (by decide) rfl (fun ls hl => ?_)
      refine lv_aload_n hx hb dL_law_1440 rfl (lv_at hl 3 rfl) ?_
      refine lv_aload_n hx hb dL_law_1441 rfl (lv_at hl 1 rfl) ?_
      refine lv_iload hx hb dL_law_1442 (lv_at hl 5 rfl) ?_
      refine lv_iconst (v := 1) hx hb dL_law_1444 (by decide) ?_
      refine lv_iadd hx hb dL_law_1445 ?_
      refine va_sld hx hb hX hbl hbA hS (law_in hL ht (show (1 : Nat) ≤ 4 by omega)) dL_law_1446 ?_
      refine lv_aload_n hx hb dL_law_1447 rfl (lv_at hl 1 rfl) ?_
      refine lv_iload hx hb dL_law_1448 (lv_at hl 5 rfl) ?_
      refine lv_iconst (v := 2) hx hb dL_law_1450 (by decide) ?_
      refine lv_iadd hx hb dL_law_1451 ?_
      refine va_sld hx hb hX hbl hbA hS (law_in hL ht (show (2 : Nat) ≤ 4 by omega)) dL_law_1452 ?_
      refine lv_aload_n hx hb dL_law_1453 rfl (lv_at hl 1 rfl) ?_
      refine lv_iload hx hb dL_law_1454 (lv_at hl 5 rfl) ?_
      refine lv_iconst (v := 3) hx hb dL_law_1456 (by decide) ?_
      refine lv_iadd hx hb dL_law_1457 ?_
      refine va_sld hx hb hX hbl hbA hS (law_in hL ht (show (3 : Nat) ≤ 4 by omega)) dL_law_1458 ?_
      refine lg_modeli hLI (va_runV (As := [.int (xs (Int32.toNatClampNeg (nI (5 * t) + 1))), .int (xs (Int32.toNatClampNeg (nI (5 * t) + 2))), .int (xs (Int32.toNatClampNeg (nI (5 * t) + 3)))]) (rest := []) ⟨hx, hb, hml, hown, hts⟩ (mX7_knows l D mad kI kZ M (xs (Int32.toNatClampNeg (nI (5 * t) + 1))) (xs (Int32.toNatClampNeg (nI (5 * t) + 2))) (xs (Int32.toNatClampNeg (nI (5 * t) + 3))) bb M1 hm) (cwV 3 hts gL_law_X7_knows rfl rfl rfl (by decide +kernel) ⟨Nat.le_of_ble_eq_true rfl, Nat.le_of_ble_eq_true rfl⟩) (mg_preV hLI.2.2.1 hmK hLI.2.2.2.1) rfl rfl hl.1 rfl (lv_room (Nat.le_of_ble_eq_true rfl)) dL_law_1459 ⟨(Nat.le_trans (show 100 + 20 * t + 4 + 0 ≤ 600000 by omega) rm_c), (Nat.le_trans (show 2000 + 120 * t + 24 + 0 ≤ 7000000 by omega) rm_s)⟩) hS (fun H locs hLI hz2 hS => ?_)
      refine lv_istore (lv' := [(6, .int bb), (5, .int 1), (0, .ref b), (1, .ref (ad1 0 0)), (2, .ref (mad 0)), (3, .ref q), (4, .int (nI (5 * t)))]) hx hb dL_law_1462 hl (by decide) rfl (fun ls hl => ?_)
      refine lv_aload_n hx hb dL_law_1464 rfl (lv_at hl 4 rfl) ?_
      refine lg_modeli hLI (va_runV (As := []) (rest := []) ⟨hx, hb, hml, hown, hts⟩ (mX7_thrown l D mad kI kZ M1 (M1 0 0) rfl) (cwV 0 hts gL_law_X7_thrown rfl rfl rfl (by decide +kernel) ⟨Nat.le_of_ble_eq_true rfl, Nat.le_of_ble_eq_true rfl⟩) (mg_preV hLI.2.2.1 hmK hLI.2.2.2.1) rfl rfl hl.1 rfl (lv_room (Nat.le_of_ble_eq_true rfl)) dL_law_1465 ⟨(Nat.le_trans (show 100 + 20 * t + 4 + 0 ≤ 600000 by omega) rm_c), (Nat.le_trans (show 2000 + 120 * t + 24 + 0 ≤ 7000000 by omega) rm_s)⟩) hS (fun H locs hLI hz3 hS => ?_)
      refine lv_iload hx hb dL_law_1468 (lv_at hl 1 rfl) ?_
      refine lv_icmp_eq (tgt := 1475) hx hb dL_law_1470 (by decide) (fun _ => ?_) (fun hc => absurd h0 hc)
      refine lv_iload hx hb dL_law_1475 (lv_at hl 1 rfl) ?_
      refine lv_if_ne (tgt := 1492) hx hb dL_law_1477 (by decide) (fun _ => ?_) (fun hc => absurd hc (by decide))
      refine lv_goto (tgt := 2028) hx hb dL_law_1492 (by decide) ?_
      refine W.widen (k := 100 + 20 * (t + 1)) (n := 2000 + 120 * (t + 1)) (by omega) (by omega) ?_
      exact kk H locs ls ad1 Z M1 f1 h00 hLI hR1 hS (lv_sub hl [2, 3, 4, 5, 6] rfl)
    | j + 1, hj => cases hj
set_option maxHeartbeats 4000000 in
set_option maxRecDepth 100000 in
theorem law_ofBand (hx : p.tables.exec = Jvm.exec) (hb : c.code = cL_law) (hml : c.maxLocals = 7) (hown : s.vm.findClass RL = some m.cls) (hts : ∀ w ∈ wsL_law, w.before #[Value.ref b] s = true) (hX : va_X b L xs s s.heap) (hbl : b < s.heap.size) (hfl : l.stackTraces = false) (hK : cK D G s) (hmK : mK D kI kZ s) (hKJ : va_K D vwCl [(cJ, .long)] s) (hE : cE A0 s s.heap) (hF : cF G A0 s s.heap) (hNc : lNc s) (hbA : ¬ A0 b) (hA0 : ∀ r, s.heap.size ≤ r → A0 r) {R R1 : CZ → MT → Prop} (hst : st_ofBand R R1) {t : Nat} (hL : L ≤ 2560) (ht : 5 * t + 5 ≤ L) (hLI : lI D G ad Z mad kI kZ M cJ q f A0 H) (hR : R Z M) (hS : va_S A0 s.heap H locs) (hl : lv_has ls 7 [(0, .ref b), (1, .ref (ad 0 0)), (2, .ref (mad 0)), (3, .ref q), (4, .int (nI (5 * t)))])
    (kk : ∀ (H1 : Heap) (locs1 : List Loc) (ls1 : Array Slot) (ad1 : Nat → Nat → Nat) (Z1 : CZ) (M1 : MT) (f1 : Nat → Int64), ad1 0 0 = ad 0 0 → lI D G ad1 Z1 mad kI kZ M1 cJ q f1 A0 H1 → R1 Z1 M1 → va_S A0 s.heap H1 locs1 → lv_has ls1 7 [(0, .ref b), (1, .ref (ad1 0 0)), (2, .ref (mad 0)), (3, .ref q), (4, .int (nI (5 * t)))] → W p l e room_1 s m #[Value.ref b] below meth c H1 locs1 (100 + 20 * (t + 1)) (2000 + 120 * (t + 1)) Q (F0 m 2028 ls1 [])) : W p l e room_1 s m #[Value.ref b] below meth c H locs (100 + 20 * t) (2000 + 120 * t) Q (F0 m 1495 ls []) := by
  have ht5 : t < 512 := by omega
  refine lv_aload_n hx hb dL_law_1495 rfl (lv_at hl 1 rfl) ?_
  refine lv_aload_n hx hb dL_law_1496 rfl (lv_at hl 0 rfl) ?_
  refine lv_iload hx hb dL_law_1497 (lv_at hl 4 rfl) ?_
  refine lv_iconst (v := 1) hx hb dL_law_1499 (by decide) ?_
  refine lv_iadd hx hb dL_law_1500 ?_
  refine va_sld hx hb hX hbl hbA hS (law_in hL ht (show (1 : Nat) ≤ 4 by omega)) dL_law_1501 ?_
  refine lv_aload_n hx hb dL_law_1502 rfl (lv_at hl 0 rfl) ?_
  refine lv_iload hx hb dL_law_1503 (lv_at hl 4 rfl) ?_
  refine lv_iconst (v := 2) hx hb dL_law_1505 (by decide) ?_
  refine lv_iadd hx hb dL_law_1506 ?_
  refine va_sld hx hb hX hbl hbA hS (law_in hL ht (show (2 : Nat) ≤ 4 by omega)) dL_law_1507 ?_
  refine lv_aload_n hx hb dL_law_1508 rfl (lv_at hl 3 rfl) ?_
  obtain ⟨bb, M1, hm, hR1, hw⟩ := hst Z M hR (xs (Int32.toNatClampNeg (nI (5 * t) + 1))) (xs (Int32.toNatClampNeg (nI (5 * t) + 2)))
  rcases hw with ⟨hc, h0⟩ | ⟨j, cd, hc, hj, h0⟩
  · refine lg_class hLI (fun r h => hA0 r (Nat.le_trans hS.1 h)) (vx_runSX (As := [.ref (ad 0 0), .int (xs (Int32.toNatClampNeg (nI (5 * t) + 1))), .int (xs (Int32.toNatClampNeg (nI (5 * t) + 2))), .ref q]) (rest := []) ⟨hx, hb, hml, hown, hts⟩ (mL_ofBand l hfl D G (lA ad Z H) ad Z cJ q f (xs (Int32.toNatClampNeg (nI (5 * t) + 1))) (xs (Int32.toNatClampNeg (nI (5 * t) + 2))) bb  hc) (vx_cwSW 4 hts gL_law_L_ofBand rfl rfl rfl (by decide +kernel) ⟨Nat.le_of_ble_eq_true rfl, Nat.le_of_ble_eq_true rfl⟩) (lg_preS hLI (fun r h => hA0 r (Nat.le_trans hS.1 h)) hK hKJ hE hF hNc hS) rfl rfl hl.1 rfl (lv_room (Nat.le_of_ble_eq_true rfl)) dL_law_1509 ⟨(Nat.le_trans (show 100 + 20 * t + 2 ≤ 600000 by omega) rm_c), (Nat.le_trans (show 2000 + 120 * t + 12 ≤ 7000000 by omega) rm_s)⟩) hS (fun H locs ad1 f1 hP h00 hLI hz hS => ?_)
    rw [← h00] at hl
    refine lv_istore (lv' := [(5, .int 0), (0, .ref b), (1, .ref (ad1 0 0)), (2, .ref (mad 0)), (3, .ref q), (4, .int (nI (5 * t)))]) hx hb dL_law_1512 hl (by decide) rfl (fun ls hl => ?_)
    refine lv_aload_n hx hb dL_law_1514 rfl (lv_at hl 3 rfl) ?_
    refine lv_aload_n hx hb dL_law_1515 rfl (lv_at hl 1 rfl) ?_
    refine lv_iload hx hb dL_law_1516 (lv_at hl 5 rfl) ?_
    refine lv_iconst (v := 1) hx hb dL_law_1518 (by decide) ?_
    refine lv_iadd hx hb dL_law_1519 ?_
    refine va_sld hx hb hX hbl hbA hS (law_in hL ht (show (1 : Nat) ≤ 4 by omega)) dL_law_1520 ?_
    refine lv_aload_n hx hb dL_law_1521 rfl (lv_at hl 1 rfl) ?_
    refine lv_iload hx hb dL_law_1522 (lv_at hl 5 rfl) ?_
    refine lv_iconst (v := 2) hx hb dL_law_1524 (by decide) ?_
    refine lv_iadd hx hb dL_law_1525 ?_
    refine va_sld hx hb hX hbl hbA hS (law_in hL ht (show (2 : Nat) ≤ 4 by omega)) dL_law_1526 ?_
    refine lg_modeli hLI (va_runV (As := [.int (xs (Int32.toNatClampNeg (nI (5 * t) + 1))), .int (xs (Int32.toNatClampNeg (nI (5 * t) + 2)))]) (rest := []) ⟨hx, hb, hml, hown, hts⟩ (mX7_ofBand l D mad kI kZ M (xs (Int32.toNatClampNeg (nI (5 * t) + 1))) (xs (Int32.toNatClampNeg (nI (5 * t) + 2))) bb M1 hm) (cwV 2 hts gL_law_X7_ofBand rfl rfl rfl (by decide +kernel) ⟨Nat.le_of_ble_eq_true rfl, Nat.le_of_ble_eq_true rfl⟩) (mg_preV hLI.2.2.1 hmK hLI.2.2.2.1) rfl rfl hl.1 rfl (lv_room (Nat.le_of_ble_eq_true rfl)) dL_law_1527 ⟨(Nat.le_trans (show 100 + 20 * t + 2 + 0 ≤ 600000 by omega) rm_c), (Nat.le_trans (show 2000 + 120 * t + 12 + 0 ≤ 7000000 by omega) rm_s)⟩) hS (fun H locs hLI hz2 hS => ?_)
    refine lv_istore (lv' := [(6, .int bb), (5, .int 0), (0, .ref b), (1, .ref (ad1 0 0)), (2, .ref (mad 0)), (3, .ref q), (4, .int (nI (5 * t)))]) hx hb dL_law_1530 hl (by decide) rfl (fun ls hl => ?_)
    refine lv_aload_n hx hb dL_law_1532 rfl (lv_at hl 4 rfl) ?_
    refine lg_modeli hLI (va_runV (As := []) (rest := []) ⟨hx, hb, hml, hown, hts⟩ (mX7_thrown l D mad kI kZ M1 (M1 0 0) rfl) (cwV 0 hts gL_law_X7_thrown rfl rfl rfl (by decide +kernel) ⟨Nat.le_of_ble_eq_true rfl, Nat.le_of_ble_eq_true rfl⟩) (mg_preV hLI.2.2.1 hmK hLI.2.2.2.1) rfl rfl hl.1 rfl (lv_room (Nat.le_of_ble_eq_true rfl)) dL_law_1533 ⟨(Nat.le_trans (show 100 + 20 * t + 2 + 0 ≤ 600000 by omega) rm_c), (Nat.le_trans (show 2000 + 120 * t + 12 + 0 ≤ 7000000 by omega) rm_s)⟩) hS (fun H locs hLI hz3 hS => ?_)
    refine lv_iload hx hb dL_law_1536 (lv_at hl 1 rfl) ?_
    refine lv_icmp_eq (tgt := 1543) hx hb dL_law_1538 (by decide) (fun _ => ?_) (fun hc => absurd h0 hc)
    refine lv_iload hx hb dL_law_1543 (lv_at hl 1 rfl) ?_
    refine lv_if_ne (tgt := 1560) hx hb dL_law_1545 (by decide) (fun hc => absurd rfl hc) (fun _ => ?_)
    refine lv_aload_n hx hb dL_law_1548 rfl (lv_at hl 5 rfl) ?_
    refine lv_iconst (v := 0) hx hb dL_law_1549 (by decide) ?_
    refine va_lald hx hb hKJ (iw_P1 hLI.2.2.2.2.1) 0 0 rfl rfl (show ¬ ((0 : Int32) < 0 ∨ 1 ≤ (0 : Int32).toNatClampNeg) from by decide) dL_law_1550 ?_
    rw [show f1 (0 : Int32).toNatClampNeg = bb.toInt64 from hP]
    refine lv_iload hx hb dL_law_1551 (lv_at hl 0 rfl) ?_
    refine lv_i2l hx hb (v := bb.toInt64) dL_law_1553 rfl ?_
    refine lg_lcmp hx hb dL_law_1554 ?_
    refine lv_if_eq (tgt := 1560) hx hb dL_law_1555 (by decide) (fun _ => ?_) (fun hc => absurd rfl hc)
    refine lv_goto (tgt := 2028) hx hb dL_law_1560 (by decide) ?_
    refine W.widen (k := 100 + 20 * (t + 1)) (n := 2000 + 120 * (t + 1)) (by omega) (by omega) ?_
    exact kk H locs ls ad1 Z M1 f1 h00 hLI hR1 hS (lv_sub hl [2, 3, 4, 5, 6] rfl)
  · match j, hj with
    | 0, hj =>
      cases hj
      refine lg_class hLI (fun r h => hA0 r (Nat.le_trans hS.1 h)) (vx_runSX (As := [.ref (ad 0 0), .int (xs (Int32.toNatClampNeg (nI (5 * t) + 1))), .int (xs (Int32.toNatClampNeg (nI (5 * t) + 2))), .ref q]) (rest := []) ⟨hx, hb, hml, hown, hts⟩ (mL_ofBand_x1 l hfl D G (lA ad Z H) ad Z cJ q f (xs (Int32.toNatClampNeg (nI (5 * t) + 1))) (xs (Int32.toNatClampNeg (nI (5 * t) + 2)))  hc) (vx_cwSW 4 hts gL_law_L_ofBand rfl rfl rfl (by decide +kernel) ⟨Nat.le_of_ble_eq_true rfl, Nat.le_of_ble_eq_true rfl⟩) (lg_preS hLI (fun r h => hA0 r (Nat.le_trans hS.1 h)) hK hKJ hE hF hNc hS) rfl rfl hl.1 rfl (lv_room (Nat.le_of_ble_eq_true rfl)) dL_law_1509 ⟨(Nat.le_trans (show 100 + 20 * t + 2 ≤ 600000 by omega) rm_c), (Nat.le_trans (show 2000 + 120 * t + 12 ≤ 7000000 by omega) rm_s)⟩) hS (fun H locs ad1 f1 hP h00 hLI hz hS => ?_)
      rw [← h00] at hl
      refine lv_istore (lv' := [(5, .int 1), (0, .ref b), (1, .ref (ad1 0 0)), (2, .ref (mad 0)), (3, .ref q), (4, .int (nI (5 * t)))]) hx hb dL_law_1512 hl (by decide) rfl (fun ls hl => ?_)
      refine lv_aload_n hx hb dL_law_1514 rfl (lv_at hl 3 rfl) ?_
      refine lv_aload_n hx hb dL_law_1515 rfl (lv_at hl 1 rfl) ?_
      refine lv_iload hx hb dL_law_1516 (lv_at hl 5 rfl) ?_
      refine lv_iconst (v := 1) hx hb dL_law_1518 (by decide) ?_
      refine lv_iadd hx hb dL_law_1519 ?_
      refine va_sld hx hb hX hbl hbA hS (law_in hL ht (show (1 : Nat) ≤ 4 by omega)) dL_law_1520 ?_
      refine lv_aload_n hx hb dL_law_1521 rfl (lv_at hl 1 rfl) ?_
      refine lv_iload hx hb dL_law_1522 (lv_at hl 5 rfl) ?_
      refine lv_iconst (v := 2) hx hb dL_law_1524 (by decide) ?_
      refine lv_iadd hx hb dL_law_1525 ?_
      refine va_sld hx hb hX hbl hbA hS (law_in hL ht (show (2 : Nat) ≤ 4 by omega)) dL_law_1526 ?_
      refine lg_modeli hLI (va_runV (As := [.int (xs (Int32.toNatClampNeg (nI (5 * t) + 1))), .int (xs (Int32.toNatClampNeg (nI (5 * t) + 2)))]) (rest := []) ⟨hx, hb, hml, hown, hts⟩ (mX7_ofBand l D mad kI kZ M (xs (Int32.toNatClampNeg (nI (5 * t) + 1))) (xs (Int32.toNatClampNeg (nI (5 * t) + 2))) bb M1 hm) (cwV 2 hts gL_law_X7_ofBand rfl rfl rfl (by decide +kernel) ⟨Nat.le_of_ble_eq_true rfl, Nat.le_of_ble_eq_true rfl⟩) (mg_preV hLI.2.2.1 hmK hLI.2.2.2.1) rfl rfl hl.1 rfl (lv_room (Nat.le_of_ble_eq_true rfl)) dL_law_1527 ⟨(Nat.le_trans (show 100 + 20 * t + 2 + 0 ≤ 600000 by omega) rm_c), (Nat.le_trans (show 2000 + 120 * t + 12 + 0 ≤ 7000000 by omega) rm_s)⟩) hS (fun H locs hLI hz2 hS => ?_)
      refine lv_istore (lv' := [(6, .int bb), (5, .int 1), (0, .ref b), (1, .ref (ad1 0 0)), (2, .ref (mad 0)), (3, .ref q), (4, .int (nI (5 * t)))]) hx hb dL_law_1530 hl (by decide) rfl (fun ls hl => ?_)
      refine lv_aload_n hx hb dL_law_1532 rfl (lv_at hl 4 rfl) ?_
      refine lg_modeli hLI (va_runV (As := []) (rest := []) ⟨hx, hb, hml, hown, hts⟩ (mX7_thrown l D mad kI kZ M1 (M1 0 0) rfl) (cwV 0 hts gL_law_X7_thrown rfl rfl rfl (by decide +kernel) ⟨Nat.le_of_ble_eq_true rfl, Nat.le_of_ble_eq_true rfl⟩) (mg_preV hLI.2.2.1 hmK hLI.2.2.2.1) rfl rfl hl.1 rfl (lv_room (Nat.le_of_ble_eq_true rfl)) dL_law_1533 ⟨(Nat.le_trans (show 100 + 20 * t + 2 + 0 ≤ 600000 by omega) rm_c), (Nat.le_trans (show 2000 + 120 * t + 12 + 0 ≤ 7000000 by omega) rm_s)⟩) hS (fun H locs hLI hz3 hS => ?_)
      refine lv_iload hx hb dL_law_1536 (lv_at hl 1 rfl) ?_
      refine lv_icmp_eq (tgt := 1543) hx hb dL_law_1538 (by decide) (fun _ => ?_) (fun hc => absurd h0 hc)
      refine lv_iload hx hb dL_law_1543 (lv_at hl 1 rfl) ?_
      refine lv_if_ne (tgt := 1560) hx hb dL_law_1545 (by decide) (fun _ => ?_) (fun hc => absurd hc (by decide))
      refine lv_goto (tgt := 2028) hx hb dL_law_1560 (by decide) ?_
      refine W.widen (k := 100 + 20 * (t + 1)) (n := 2000 + 120 * (t + 1)) (by omega) (by omega) ?_
      exact kk H locs ls ad1 Z M1 f1 h00 hLI hR1 hS (lv_sub hl [2, 3, 4, 5, 6] rfl)
    | 1, hj =>
      cases hj
      refine lg_class hLI (fun r h => hA0 r (Nat.le_trans hS.1 h)) (vx_runSX (As := [.ref (ad 0 0), .int (xs (Int32.toNatClampNeg (nI (5 * t) + 1))), .int (xs (Int32.toNatClampNeg (nI (5 * t) + 2))), .ref q]) (rest := []) ⟨hx, hb, hml, hown, hts⟩ (mL_ofBand_x2 l hfl D G (lA ad Z H) ad Z cJ q f (xs (Int32.toNatClampNeg (nI (5 * t) + 1))) (xs (Int32.toNatClampNeg (nI (5 * t) + 2)))  hc) (vx_cwSW 4 hts gL_law_L_ofBand rfl rfl rfl (by decide +kernel) ⟨Nat.le_of_ble_eq_true rfl, Nat.le_of_ble_eq_true rfl⟩) (lg_preS hLI (fun r h => hA0 r (Nat.le_trans hS.1 h)) hK hKJ hE hF hNc hS) rfl rfl hl.1 rfl (lv_room (Nat.le_of_ble_eq_true rfl)) dL_law_1509 ⟨(Nat.le_trans (show 100 + 20 * t + 2 ≤ 600000 by omega) rm_c), (Nat.le_trans (show 2000 + 120 * t + 12 ≤ 7000000 by omega) rm_s)⟩) hS (fun H locs ad1 f1 hP h00 hLI hz hS => ?_)
      rw [← h00] at hl
      refine lv_istore (lv' := [(5, .int 2), (0, .ref b), (1, .ref (ad1 0 0)), (2, .ref (mad 0)), (3, .ref q), (4, .int (nI (5 * t)))]) hx hb dL_law_1512 hl (by decide) rfl (fun ls hl => ?_)
      refine lv_aload_n hx hb dL_law_1514 rfl (lv_at hl 3 rfl) ?_
      refine lv_aload_n hx hb dL_law_1515 rfl (lv_at hl 1 rfl) ?_
      refine lv_iload hx hb dL_law_1516 (lv_at hl 5 rfl) ?_
      refine lv_iconst (v := 1) hx hb dL_law_1518 (by decide) ?_
      refine lv_iadd hx hb dL_law_1519 ?_
      refine va_sld hx hb hX hbl hbA hS (law_in hL ht (show (1 : Nat) ≤ 4 by omega)) dL_law_1520 ?_
      refine lv_aload_n hx hb dL_law_1521 rfl (lv_at hl 1 rfl) ?_
      refine lv_iload hx hb dL_law_1522 (lv_at hl 5 rfl) ?_
      refine lv_iconst (v := 2) hx hb dL_law_1524 (by decide) ?_
      refine lv_iadd hx hb dL_law_1525 ?_
      refine va_sld hx hb hX hbl hbA hS (law_in hL ht (show (2 : Nat) ≤ 4 by omega)) dL_law_1526 ?_
      refine lg_modeli hLI (va_runV (As := [.int (xs (Int32.toNatClampNeg (nI (5 * t) + 1))), .int (xs (Int32.toNatClampNeg (nI (5 * t) + 2)))]) (rest := []) ⟨hx, hb, hml, hown, hts⟩ (mX7_ofBand l D mad kI kZ M (xs (Int32.toNatClampNeg (nI (5 * t) + 1))) (xs (Int32.toNatClampNeg (nI (5 * t) + 2))) bb M1 hm) (cwV 2 hts gL_law_X7_ofBand rfl rfl rfl (by decide +kernel) ⟨Nat.le_of_ble_eq_true rfl, Nat.le_of_ble_eq_true rfl⟩) (mg_preV hLI.2.2.1 hmK hLI.2.2.2.1) rfl rfl hl.1 rfl (lv_room (Nat.le_of_ble_eq_true rfl)) dL_law_1527 ⟨(Nat.le_trans (show 100 + 20 * t + 2 + 0 ≤ 600000 by omega) rm_c), (Nat.le_trans (show 2000 + 120 * t + 12 + 0 ≤ 7000000 by omega) rm_s)⟩) hS (fun H locs hLI hz2 hS => ?_)
      refine lv_istore (lv' := [(6, .int bb), (5, .int 2), (0, .ref b), (1, .ref (ad1 0 0)), (2, .ref (mad 0)), (3, .ref q), (4, .int (nI (5 * t)))]) hx hb dL_law_1530 hl (by decide) rfl (fun ls hl => ?_)
      refine lv_aload_n hx hb dL_law_1532 rfl (lv_at hl 4 rfl) ?_
      refine lg_modeli hLI (va_runV (As := []) (rest := []) ⟨hx, hb, hml, hown, hts⟩ (mX7_thrown l D mad kI kZ M1 (M1 0 0) rfl) (cwV 0 hts gL_law_X7_thrown rfl rfl rfl (by decide +kernel) ⟨Nat.le_of_ble_eq_true rfl, Nat.le_of_ble_eq_true rfl⟩) (mg_preV hLI.2.2.1 hmK hLI.2.2.2.1) rfl rfl hl.1 rfl (lv_room (Nat.le_of_ble_eq_true rfl)) dL_law_1533 ⟨(Nat.le_trans (show 100 + 20 * t + 2 + 0 ≤ 600000 by omega) rm_c), (Nat.le_trans (show 2000 + 120 * t + 12 + 0 ≤ 7000000 by omega) rm_s)⟩) hS (fun H locs hLI hz3 hS => ?_)
      refine lv_iload hx hb dL_law_1536 (lv_at hl 1 rfl) ?_
      refine lv_icmp_eq (tgt := 1543) hx hb dL_law_1538 (by decide) (fun _ => ?_) (fun hc => absurd h0 hc)
      refine lv_iload hx hb dL_law_1543 (lv_at hl 1 rfl) ?_
      refine lv_if_ne (tgt := 1560) hx hb dL_law_1545 (by decide) (fun _ => ?_) (fun hc => absurd hc (by decide))
      refine lv_goto (tgt := 2028) hx hb dL_law_1560 (by decide) ?_
      refine W.widen (k := 100 + 20 * (t + 1)) (n := 2000 + 120 * (t + 1)) (by omega) (by omega) ?_
      exact kk H locs ls ad1 Z M1 f1 h00 hLI hR1 hS (lv_sub hl [2, 3, 4, 5, 6] rfl)
    | j + 2, hj => cases hj
set_option maxHeartbeats 4000000 in
set_option maxRecDepth 100000 in
theorem law_leaps (hx : p.tables.exec = Jvm.exec) (hb : c.code = cL_law) (hml : c.maxLocals = 7) (hown : s.vm.findClass RL = some m.cls) (hts : ∀ w ∈ wsL_law, w.before #[Value.ref b] s = true) (hX : va_X b L xs s s.heap) (hbl : b < s.heap.size) (hfl : l.stackTraces = false) (hK : cK D G s) (hmK : mK D kI kZ s) (hKJ : va_K D vwCl [(cJ, .long)] s) (hE : cE A0 s s.heap) (hF : cF G A0 s s.heap) (hNc : lNc s) (hbA : ¬ A0 b) (hA0 : ∀ r, s.heap.size ≤ r → A0 r) {R R1 : CZ → MT → Prop} (hst : st_leaps R R1) {t : Nat} (hL : L ≤ 2560) (ht : 5 * t + 5 ≤ L) (hLI : lI D G ad Z mad kI kZ M cJ q f A0 H) (hR : R Z M) (hS : va_S A0 s.heap H locs) (hl : lv_has ls 7 [(0, .ref b), (1, .ref (ad 0 0)), (2, .ref (mad 0)), (3, .ref q), (4, .int (nI (5 * t)))])
    (kk : ∀ (H1 : Heap) (locs1 : List Loc) (ls1 : Array Slot) (ad1 : Nat → Nat → Nat) (Z1 : CZ) (M1 : MT) (f1 : Nat → Int64), ad1 0 0 = ad 0 0 → lI D G ad1 Z1 mad kI kZ M1 cJ q f1 A0 H1 → R1 Z1 M1 → va_S A0 s.heap H1 locs1 → lv_has ls1 7 [(0, .ref b), (1, .ref (ad1 0 0)), (2, .ref (mad 0)), (3, .ref q), (4, .int (nI (5 * t)))] → W p l e room_1 s m #[Value.ref b] below meth c H1 locs1 (100 + 20 * (t + 1)) (2000 + 120 * (t + 1)) Q (F0 m 2028 ls1 [])) : W p l e room_1 s m #[Value.ref b] below meth c H locs (100 + 20 * t) (2000 + 120 * t) Q (F0 m 1563 ls []) := by
  have ht5 : t < 512 := by omega
  refine lv_aload_n hx hb dL_law_1563 rfl (lv_at hl 1 rfl) ?_
  refine lv_aload_n hx hb dL_law_1564 rfl (lv_at hl 0 rfl) ?_
  refine lv_iload hx hb dL_law_1565 (lv_at hl 4 rfl) ?_
  refine lv_iconst (v := 1) hx hb dL_law_1567 (by decide) ?_
  refine lv_iadd hx hb dL_law_1568 ?_
  refine va_sld hx hb hX hbl hbA hS (law_in hL ht (show (1 : Nat) ≤ 4 by omega)) dL_law_1569 ?_
  refine lv_aload_n hx hb dL_law_1570 rfl (lv_at hl 3 rfl) ?_
  obtain ⟨bb, M1, Z1, hm, hR1, hw⟩ := hst Z M hR (xs (Int32.toNatClampNeg (nI (5 * t) + 1)))
  rcases hw with ⟨hc, h0⟩ | ⟨j, cd, hc, hj, h0⟩
  · refine lg_class hLI (fun r h => hA0 r (Nat.le_trans hS.1 h)) (vx_runSX (As := [.ref (ad 0 0), .int (xs (Int32.toNatClampNeg (nI (5 * t) + 1))), .ref q]) (rest := []) ⟨hx, hb, hml, hown, hts⟩ (mL_leaps l hfl D G (lA ad Z H) ad Z cJ q f (xs (Int32.toNatClampNeg (nI (5 * t) + 1))) bb Z1 hc) (vx_cwSW 3 hts gL_law_L_leaps rfl rfl rfl (by decide +kernel) ⟨Nat.le_of_ble_eq_true rfl, Nat.le_of_ble_eq_true rfl⟩) (lg_preS hLI (fun r h => hA0 r (Nat.le_trans hS.1 h)) hK hKJ hE hF hNc hS) rfl rfl hl.1 rfl (lv_room (Nat.le_of_ble_eq_true rfl)) dL_law_1571 ⟨(Nat.le_trans (show 100 + 20 * t + 1 ≤ 600000 by omega) rm_c), (Nat.le_trans (show 2000 + 120 * t + 6 ≤ 7000000 by omega) rm_s)⟩) hS (fun H locs ad1 f1 hP h00 hLI hz hS => ?_)
    rw [← h00] at hl
    refine lv_istore (lv' := [(5, .int 0), (0, .ref b), (1, .ref (ad1 0 0)), (2, .ref (mad 0)), (3, .ref q), (4, .int (nI (5 * t)))]) hx hb dL_law_1574 hl (by decide) rfl (fun ls hl => ?_)
    refine lv_aload_n hx hb dL_law_1576 rfl (lv_at hl 3 rfl) ?_
    refine lv_aload_n hx hb dL_law_1577 rfl (lv_at hl 1 rfl) ?_
    refine lv_iload hx hb dL_law_1578 (lv_at hl 5 rfl) ?_
    refine lv_iconst (v := 1) hx hb dL_law_1580 (by decide) ?_
    refine lv_iadd hx hb dL_law_1581 ?_
    refine va_sld hx hb hX hbl hbA hS (law_in hL ht (show (1 : Nat) ≤ 4 by omega)) dL_law_1582 ?_
    refine lg_modeli hLI (va_runV (As := [.int (xs (Int32.toNatClampNeg (nI (5 * t) + 1)))]) (rest := []) ⟨hx, hb, hml, hown, hts⟩ (mX7_leaps l D mad kI kZ M (xs (Int32.toNatClampNeg (nI (5 * t) + 1))) bb M1 hm) (cwV 1 hts gL_law_X7_leaps rfl rfl rfl (by decide +kernel) ⟨Nat.le_of_ble_eq_true rfl, Nat.le_of_ble_eq_true rfl⟩) (mg_preV hLI.2.2.1 hmK hLI.2.2.2.1) rfl rfl hl.1 rfl (lv_room (Nat.le_of_ble_eq_true rfl)) dL_law_1583 ⟨(Nat.le_trans (show 100 + 20 * t + 1 + 0 ≤ 600000 by omega) rm_c), (Nat.le_trans (show 2000 + 120 * t + 6 + 0 ≤ 7000000 by omega) rm_s)⟩) hS (fun H locs hLI hz2 hS => ?_)
    refine lv_istore (lv' := [(6, .int bb), (5, .int 0), (0, .ref b), (1, .ref (ad1 0 0)), (2, .ref (mad 0)), (3, .ref q), (4, .int (nI (5 * t)))]) hx hb dL_law_1586 hl (by decide) rfl (fun ls hl => ?_)
    refine lv_aload_n hx hb dL_law_1588 rfl (lv_at hl 4 rfl) ?_
    refine lg_modeli hLI (va_runV (As := []) (rest := []) ⟨hx, hb, hml, hown, hts⟩ (mX7_thrown l D mad kI kZ M1 (M1 0 0) rfl) (cwV 0 hts gL_law_X7_thrown rfl rfl rfl (by decide +kernel) ⟨Nat.le_of_ble_eq_true rfl, Nat.le_of_ble_eq_true rfl⟩) (mg_preV hLI.2.2.1 hmK hLI.2.2.2.1) rfl rfl hl.1 rfl (lv_room (Nat.le_of_ble_eq_true rfl)) dL_law_1589 ⟨(Nat.le_trans (show 100 + 20 * t + 1 + 0 ≤ 600000 by omega) rm_c), (Nat.le_trans (show 2000 + 120 * t + 6 + 0 ≤ 7000000 by omega) rm_s)⟩) hS (fun H locs hLI hz3 hS => ?_)
    refine lv_iload hx hb dL_law_1592 (lv_at hl 1 rfl) ?_
    refine lv_icmp_eq (tgt := 1599) hx hb dL_law_1594 (by decide) (fun _ => ?_) (fun hc => absurd h0 hc)
    refine lv_iload hx hb dL_law_1599 (lv_at hl 1 rfl) ?_
    refine lv_if_ne (tgt := 1616) hx hb dL_law_1601 (by decide) (fun hc => absurd rfl hc) (fun _ => ?_)
    refine lv_aload_n hx hb dL_law_1604 rfl (lv_at hl 5 rfl) ?_
    refine lv_iconst (v := 0) hx hb dL_law_1605 (by decide) ?_
    refine va_lald hx hb hKJ (iw_P1 hLI.2.2.2.2.1) 0 0 rfl rfl (show ¬ ((0 : Int32) < 0 ∨ 1 ≤ (0 : Int32).toNatClampNeg) from by decide) dL_law_1606 ?_
    rw [show f1 (0 : Int32).toNatClampNeg = bb.toInt64 from hP]
    refine lv_iload hx hb dL_law_1607 (lv_at hl 0 rfl) ?_
    refine lv_i2l hx hb (v := bb.toInt64) dL_law_1609 rfl ?_
    refine lg_lcmp hx hb dL_law_1610 ?_
    refine lv_if_eq (tgt := 1616) hx hb dL_law_1611 (by decide) (fun _ => ?_) (fun hc => absurd rfl hc)
    refine lv_goto (tgt := 2028) hx hb dL_law_1616 (by decide) ?_
    refine W.widen (k := 100 + 20 * (t + 1)) (n := 2000 + 120 * (t + 1)) (by omega) (by omega) ?_
    exact kk H locs ls ad1 Z1 M1 f1 h00 hLI hR1 hS (lv_sub hl [2, 3, 4, 5, 6] rfl)
  · match j, hj with
    | 0, hj =>
      cases hj
      refine lg_class hLI (fun r h => hA0 r (Nat.le_trans hS.1 h)) (vx_runSX (As := [.ref (ad 0 0), .int (xs (Int32.toNatClampNeg (nI (5 * t) + 1))), .ref q]) (rest := []) ⟨hx, hb, hml, hown, hts⟩ (mL_leaps_x1 l hfl D G (lA ad Z H) ad Z cJ q f (xs (Int32.toNatClampNeg (nI (5 * t) + 1))) Z1 hc) (vx_cwSW 3 hts gL_law_L_leaps rfl rfl rfl (by decide +kernel) ⟨Nat.le_of_ble_eq_true rfl, Nat.le_of_ble_eq_true rfl⟩) (lg_preS hLI (fun r h => hA0 r (Nat.le_trans hS.1 h)) hK hKJ hE hF hNc hS) rfl rfl hl.1 rfl (lv_room (Nat.le_of_ble_eq_true rfl)) dL_law_1571 ⟨(Nat.le_trans (show 100 + 20 * t + 1 ≤ 600000 by omega) rm_c), (Nat.le_trans (show 2000 + 120 * t + 6 ≤ 7000000 by omega) rm_s)⟩) hS (fun H locs ad1 f1 hP h00 hLI hz hS => ?_)
      rw [← h00] at hl
      refine lv_istore (lv' := [(5, .int 1), (0, .ref b), (1, .ref (ad1 0 0)), (2, .ref (mad 0)), (3, .ref q), (4, .int (nI (5 * t)))]) hx hb dL_law_1574 hl (by decide) rfl (fun ls hl => ?_)
      refine lv_aload_n hx hb dL_law_1576 rfl (lv_at hl 3 rfl) ?_
      refine lv_aload_n hx hb dL_law_1577 rfl (lv_at hl 1 rfl) ?_
      refine lv_iload hx hb dL_law_1578 (lv_at hl 5 rfl) ?_
      refine lv_iconst (v := 1) hx hb dL_law_1580 (by decide) ?_
      refine lv_iadd hx hb dL_law_1581 ?_
      refine va_sld hx hb hX hbl hbA hS (law_in hL ht (show (1 : Nat) ≤ 4 by omega)) dL_law_1582 ?_
      refine lg_modeli hLI (va_runV (As := [.int (xs (Int32.toNatClampNeg (nI (5 * t) + 1)))]) (rest := []) ⟨hx, hb, hml, hown, hts⟩ (mX7_leaps l D mad kI kZ M (xs (Int32.toNatClampNeg (nI (5 * t) + 1))) bb M1 hm) (cwV 1 hts gL_law_X7_leaps rfl rfl rfl (by decide +kernel) ⟨Nat.le_of_ble_eq_true rfl, Nat.le_of_ble_eq_true rfl⟩) (mg_preV hLI.2.2.1 hmK hLI.2.2.2.1) rfl rfl hl.1 rfl (lv_room (Nat.le_of_ble_eq_true rfl)) dL_law_1583 ⟨(Nat.le_trans (show 100 + 20 * t + 1 + 0 ≤ 600000 by omega) rm_c), (Nat.le_trans (show 2000 + 120 * t + 6 + 0 ≤ 7000000 by omega) rm_s)⟩) hS (fun H locs hLI hz2 hS => ?_)
      refine lv_istore (lv' := [(6, .int bb), (5, .int 1), (0, .ref b), (1, .ref (ad1 0 0)), (2, .ref (mad 0)), (3, .ref q), (4, .int (nI (5 * t)))]) hx hb dL_law_1586 hl (by decide) rfl (fun ls hl => ?_)
      refine lv_aload_n hx hb dL_law_1588 rfl (lv_at hl 4 rfl) ?_
      refine lg_modeli hLI (va_runV (As := []) (rest := []) ⟨hx, hb, hml, hown, hts⟩ (mX7_thrown l D mad kI kZ M1 (M1 0 0) rfl) (cwV 0 hts gL_law_X7_thrown rfl rfl rfl (by decide +kernel) ⟨Nat.le_of_ble_eq_true rfl, Nat.le_of_ble_eq_true rfl⟩) (mg_preV hLI.2.2.1 hmK hLI.2.2.2.1) rfl rfl hl.1 rfl (lv_room (Nat.le_of_ble_eq_true rfl)) dL_law_1589 ⟨(Nat.le_trans (show 100 + 20 * t + 1 + 0 ≤ 600000 by omega) rm_c), (Nat.le_trans (show 2000 + 120 * t + 6 + 0 ≤ 7000000 by omega) rm_s)⟩) hS (fun H locs hLI hz3 hS => ?_)
      refine lv_iload hx hb dL_law_1592 (lv_at hl 1 rfl) ?_
      refine lv_icmp_eq (tgt := 1599) hx hb dL_law_1594 (by decide) (fun _ => ?_) (fun hc => absurd h0 hc)
      refine lv_iload hx hb dL_law_1599 (lv_at hl 1 rfl) ?_
      refine lv_if_ne (tgt := 1616) hx hb dL_law_1601 (by decide) (fun _ => ?_) (fun hc => absurd hc (by decide))
      refine lv_goto (tgt := 2028) hx hb dL_law_1616 (by decide) ?_
      refine W.widen (k := 100 + 20 * (t + 1)) (n := 2000 + 120 * (t + 1)) (by omega) (by omega) ?_
      exact kk H locs ls ad1 Z1 M1 f1 h00 hLI hR1 hS (lv_sub hl [2, 3, 4, 5, 6] rfl)
    | j + 1, hj => cases hj
set_option maxHeartbeats 4000000 in
set_option maxRecDepth 100000 in
theorem law_part (hx : p.tables.exec = Jvm.exec) (hb : c.code = cL_law) (hml : c.maxLocals = 7) (hown : s.vm.findClass RL = some m.cls) (hts : ∀ w ∈ wsL_law, w.before #[Value.ref b] s = true) (hX : va_X b L xs s s.heap) (hbl : b < s.heap.size) (hfl : l.stackTraces = false) (hK : cK D G s) (hmK : mK D kI kZ s) (hKJ : va_K D vwCl [(cJ, .long)] s) (hE : cE A0 s s.heap) (hF : cF G A0 s s.heap) (hNc : lNc s) (hbA : ¬ A0 b) (hA0 : ∀ r, s.heap.size ≤ r → A0 r) {R R1 : CZ → MT → Prop} (hst : st_part R R1) {t : Nat} (hL : L ≤ 2560) (ht : 5 * t + 5 ≤ L) (hLI : lI D G ad Z mad kI kZ M cJ q f A0 H) (hR : R Z M) (hS : va_S A0 s.heap H locs) (hl : lv_has ls 7 [(0, .ref b), (1, .ref (ad 0 0)), (2, .ref (mad 0)), (3, .ref q), (4, .int (nI (5 * t)))])
    (kk : ∀ (H1 : Heap) (locs1 : List Loc) (ls1 : Array Slot) (ad1 : Nat → Nat → Nat) (Z1 : CZ) (M1 : MT) (f1 : Nat → Int64), ad1 0 0 = ad 0 0 → lI D G ad1 Z1 mad kI kZ M1 cJ q f1 A0 H1 → R1 Z1 M1 → va_S A0 s.heap H1 locs1 → lv_has ls1 7 [(0, .ref b), (1, .ref (ad1 0 0)), (2, .ref (mad 0)), (3, .ref q), (4, .int (nI (5 * t)))] → W p l e room_1 s m #[Value.ref b] below meth c H1 locs1 (100 + 20 * (t + 1)) (2000 + 120 * (t + 1)) Q (F0 m 2028 ls1 [])) : W p l e room_1 s m #[Value.ref b] below meth c H locs (100 + 20 * t) (2000 + 120 * t) Q (F0 m 1619 ls []) := by
  have ht5 : t < 512 := by omega
  refine lv_aload_n hx hb dL_law_1619 rfl (lv_at hl 1 rfl) ?_
  refine lv_aload_n hx hb dL_law_1620 rfl (lv_at hl 0 rfl) ?_
  refine lv_iload hx hb dL_law_1621 (lv_at hl 4 rfl) ?_
  refine lv_iconst (v := 1) hx hb dL_law_1623 (by decide) ?_
  refine lv_iadd hx hb dL_law_1624 ?_
  refine va_sld hx hb hX hbl hbA hS (law_in hL ht (show (1 : Nat) ≤ 4 by omega)) dL_law_1625 ?_
  refine lv_aload_n hx hb dL_law_1626 rfl (lv_at hl 0 rfl) ?_
  refine lv_iload hx hb dL_law_1627 (lv_at hl 4 rfl) ?_
  refine lv_iconst (v := 2) hx hb dL_law_1629 (by decide) ?_
  refine lv_iadd hx hb dL_law_1630 ?_
  refine va_sld hx hb hX hbl hbA hS (law_in hL ht (show (2 : Nat) ≤ 4 by omega)) dL_law_1631 ?_
  refine lv_aload_n hx hb dL_law_1632 rfl (lv_at hl 3 rfl) ?_
  obtain ⟨bb, M1, Z1, hm, hR1, hw⟩ := hst Z M hR (xs (Int32.toNatClampNeg (nI (5 * t) + 1))) (xs (Int32.toNatClampNeg (nI (5 * t) + 2)))
  rcases hw with ⟨hc, h0⟩ | ⟨j, cd, hc, hj, h0⟩
  · refine lg_class hLI (fun r h => hA0 r (Nat.le_trans hS.1 h)) (vx_runSX (As := [.ref (ad 0 0), .int (xs (Int32.toNatClampNeg (nI (5 * t) + 1))), .int (xs (Int32.toNatClampNeg (nI (5 * t) + 2))), .ref q]) (rest := []) ⟨hx, hb, hml, hown, hts⟩ (mL_part l hfl D G (lA ad Z H) ad Z cJ q f (xs (Int32.toNatClampNeg (nI (5 * t) + 1))) (xs (Int32.toNatClampNeg (nI (5 * t) + 2))) bb Z1 hc) (vx_cwSW 4 hts gL_law_L_part rfl rfl rfl (by decide +kernel) ⟨Nat.le_of_ble_eq_true rfl, Nat.le_of_ble_eq_true rfl⟩) (lg_preS hLI (fun r h => hA0 r (Nat.le_trans hS.1 h)) hK hKJ hE hF hNc hS) rfl rfl hl.1 rfl (lv_room (Nat.le_of_ble_eq_true rfl)) dL_law_1633 ⟨(Nat.le_trans (show 100 + 20 * t + 2 ≤ 600000 by omega) rm_c), (Nat.le_trans (show 2000 + 120 * t + 12 ≤ 7000000 by omega) rm_s)⟩) hS (fun H locs ad1 f1 hP h00 hLI hz hS => ?_)
    rw [← h00] at hl
    refine lv_istore (lv' := [(5, .int 0), (0, .ref b), (1, .ref (ad1 0 0)), (2, .ref (mad 0)), (3, .ref q), (4, .int (nI (5 * t)))]) hx hb dL_law_1636 hl (by decide) rfl (fun ls hl => ?_)
    refine lv_aload_n hx hb dL_law_1638 rfl (lv_at hl 3 rfl) ?_
    refine lv_aload_n hx hb dL_law_1639 rfl (lv_at hl 1 rfl) ?_
    refine lv_iload hx hb dL_law_1640 (lv_at hl 5 rfl) ?_
    refine lv_iconst (v := 1) hx hb dL_law_1642 (by decide) ?_
    refine lv_iadd hx hb dL_law_1643 ?_
    refine va_sld hx hb hX hbl hbA hS (law_in hL ht (show (1 : Nat) ≤ 4 by omega)) dL_law_1644 ?_
    refine lv_aload_n hx hb dL_law_1645 rfl (lv_at hl 1 rfl) ?_
    refine lv_iload hx hb dL_law_1646 (lv_at hl 5 rfl) ?_
    refine lv_iconst (v := 2) hx hb dL_law_1648 (by decide) ?_
    refine lv_iadd hx hb dL_law_1649 ?_
    refine va_sld hx hb hX hbl hbA hS (law_in hL ht (show (2 : Nat) ≤ 4 by omega)) dL_law_1650 ?_
    refine lg_modeli hLI (va_runV (As := [.int (xs (Int32.toNatClampNeg (nI (5 * t) + 1))), .int (xs (Int32.toNatClampNeg (nI (5 * t) + 2)))]) (rest := []) ⟨hx, hb, hml, hown, hts⟩ (mX7_part l D mad kI kZ M (xs (Int32.toNatClampNeg (nI (5 * t) + 1))) (xs (Int32.toNatClampNeg (nI (5 * t) + 2))) bb M1 hm) (cwV 2 hts gL_law_X7_part rfl rfl rfl (by decide +kernel) ⟨Nat.le_of_ble_eq_true rfl, Nat.le_of_ble_eq_true rfl⟩) (mg_preV hLI.2.2.1 hmK hLI.2.2.2.1) rfl rfl hl.1 rfl (lv_room (Nat.le_of_ble_eq_true rfl)) dL_law_1651 ⟨(Nat.le_trans (show 100 + 20 * t + 2 + 0 ≤ 600000 by omega) rm_c), (Nat.le_trans (show 2000 + 120 * t + 12 + 0 ≤ 7000000 by omega) rm_s)⟩) hS (fun H locs hLI hz2 hS => ?_)
    refine lv_istore (lv' := [(6, .int bb), (5, .int 0), (0, .ref b), (1, .ref (ad1 0 0)), (2, .ref (mad 0)), (3, .ref q), (4, .int (nI (5 * t)))]) hx hb dL_law_1654 hl (by decide) rfl (fun ls hl => ?_)
    refine lv_aload_n hx hb dL_law_1656 rfl (lv_at hl 4 rfl) ?_
    refine lg_modeli hLI (va_runV (As := []) (rest := []) ⟨hx, hb, hml, hown, hts⟩ (mX7_thrown l D mad kI kZ M1 (M1 0 0) rfl) (cwV 0 hts gL_law_X7_thrown rfl rfl rfl (by decide +kernel) ⟨Nat.le_of_ble_eq_true rfl, Nat.le_of_ble_eq_true rfl⟩) (mg_preV hLI.2.2.1 hmK hLI.2.2.2.1) rfl rfl hl.1 rfl (lv_room (Nat.le_of_ble_eq_true rfl)) dL_law_1657 ⟨(Nat.le_trans (show 100 + 20 * t + 2 + 0 ≤ 600000 by omega) rm_c), (Nat.le_trans (show 2000 + 120 * t + 12 + 0 ≤ 7000000 by omega) rm_s)⟩) hS (fun H locs hLI hz3 hS => ?_)
    refine lv_iload hx hb dL_law_1660 (lv_at hl 1 rfl) ?_
    refine lv_icmp_eq (tgt := 1667) hx hb dL_law_1662 (by decide) (fun _ => ?_) (fun hc => absurd h0 hc)
    refine lv_iload hx hb dL_law_1667 (lv_at hl 1 rfl) ?_
    refine lv_if_ne (tgt := 1684) hx hb dL_law_1669 (by decide) (fun hc => absurd rfl hc) (fun _ => ?_)
    refine lv_aload_n hx hb dL_law_1672 rfl (lv_at hl 5 rfl) ?_
    refine lv_iconst (v := 0) hx hb dL_law_1673 (by decide) ?_
    refine va_lald hx hb hKJ (iw_P1 hLI.2.2.2.2.1) 0 0 rfl rfl (show ¬ ((0 : Int32) < 0 ∨ 1 ≤ (0 : Int32).toNatClampNeg) from by decide) dL_law_1674 ?_
    rw [show f1 (0 : Int32).toNatClampNeg = bb.toInt64 from hP]
    refine lv_iload hx hb dL_law_1675 (lv_at hl 0 rfl) ?_
    refine lv_i2l hx hb (v := bb.toInt64) dL_law_1677 rfl ?_
    refine lg_lcmp hx hb dL_law_1678 ?_
    refine lv_if_eq (tgt := 1684) hx hb dL_law_1679 (by decide) (fun _ => ?_) (fun hc => absurd rfl hc)
    refine lv_goto (tgt := 2028) hx hb dL_law_1684 (by decide) ?_
    refine W.widen (k := 100 + 20 * (t + 1)) (n := 2000 + 120 * (t + 1)) (by omega) (by omega) ?_
    exact kk H locs ls ad1 Z1 M1 f1 h00 hLI hR1 hS (lv_sub hl [2, 3, 4, 5, 6] rfl)
  · match j, hj with
    | 0, hj =>
      cases hj
      refine lg_class hLI (fun r h => hA0 r (Nat.le_trans hS.1 h)) (vx_runSX (As := [.ref (ad 0 0), .int (xs (Int32.toNatClampNeg (nI (5 * t) + 1))), .int (xs (Int32.toNatClampNeg (nI (5 * t) + 2))), .ref q]) (rest := []) ⟨hx, hb, hml, hown, hts⟩ (mL_part_x1 l hfl D G (lA ad Z H) ad Z cJ q f (xs (Int32.toNatClampNeg (nI (5 * t) + 1))) (xs (Int32.toNatClampNeg (nI (5 * t) + 2))) Z1 hc) (vx_cwSW 4 hts gL_law_L_part rfl rfl rfl (by decide +kernel) ⟨Nat.le_of_ble_eq_true rfl, Nat.le_of_ble_eq_true rfl⟩) (lg_preS hLI (fun r h => hA0 r (Nat.le_trans hS.1 h)) hK hKJ hE hF hNc hS) rfl rfl hl.1 rfl (lv_room (Nat.le_of_ble_eq_true rfl)) dL_law_1633 ⟨(Nat.le_trans (show 100 + 20 * t + 2 ≤ 600000 by omega) rm_c), (Nat.le_trans (show 2000 + 120 * t + 12 ≤ 7000000 by omega) rm_s)⟩) hS (fun H locs ad1 f1 hP h00 hLI hz hS => ?_)
      rw [← h00] at hl
      refine lv_istore (lv' := [(5, .int 1), (0, .ref b), (1, .ref (ad1 0 0)), (2, .ref (mad 0)), (3, .ref q), (4, .int (nI (5 * t)))]) hx hb dL_law_1636 hl (by decide) rfl (fun ls hl => ?_)
      refine lv_aload_n hx hb dL_law_1638 rfl (lv_at hl 3 rfl) ?_
      refine lv_aload_n hx hb dL_law_1639 rfl (lv_at hl 1 rfl) ?_
      refine lv_iload hx hb dL_law_1640 (lv_at hl 5 rfl) ?_
      refine lv_iconst (v := 1) hx hb dL_law_1642 (by decide) ?_
      refine lv_iadd hx hb dL_law_1643 ?_
      refine va_sld hx hb hX hbl hbA hS (law_in hL ht (show (1 : Nat) ≤ 4 by omega)) dL_law_1644 ?_
      refine lv_aload_n hx hb dL_law_1645 rfl (lv_at hl 1 rfl) ?_
      refine lv_iload hx hb dL_law_1646 (lv_at hl 5 rfl) ?_
      refine lv_iconst (v := 2) hx hb dL_law_1648 (by decide) ?_
      refine lv_iadd hx hb dL_law_1649 ?_
      refine va_sld hx hb hX hbl hbA hS (law_in hL ht (show (2 : Nat) ≤ 4 by omega)) dL_law_1650 ?_
      refine lg_modeli hLI (va_runV (As := [.int (xs (Int32.toNatClampNeg (nI (5 * t) + 1))), .int (xs (Int32.toNatClampNeg (nI (5 * t) + 2)))]) (rest := []) ⟨hx, hb, hml, hown, hts⟩ (mX7_part l D mad kI kZ M (xs (Int32.toNatClampNeg (nI (5 * t) + 1))) (xs (Int32.toNatClampNeg (nI (5 * t) + 2))) bb M1 hm) (cwV 2 hts gL_law_X7_part rfl rfl rfl (by decide +kernel) ⟨Nat.le_of_ble_eq_true rfl, Nat.le_of_ble_eq_true rfl⟩) (mg_preV hLI.2.2.1 hmK hLI.2.2.2.1) rfl rfl hl.1 rfl (lv_room (Nat.le_of_ble_eq_true rfl)) dL_law_1651 ⟨(Nat.le_trans (show 100 + 20 * t + 2 + 0 ≤ 600000 by omega) rm_c), (Nat.le_trans (show 2000 + 120 * t + 12 + 0 ≤ 7000000 by omega) rm_s)⟩) hS (fun H locs hLI hz2 hS => ?_)
      refine lv_istore (lv' := [(6, .int bb), (5, .int 1), (0, .ref b), (1, .ref (ad1 0 0)), (2, .ref (mad 0)), (3, .ref q), (4, .int (nI (5 * t)))]) hx hb dL_law_1654 hl (by decide) rfl (fun ls hl => ?_)
      refine lv_aload_n hx hb dL_law_1656 rfl (lv_at hl 4 rfl) ?_
      refine lg_modeli hLI (va_runV (As := []) (rest := []) ⟨hx, hb, hml, hown, hts⟩ (mX7_thrown l D mad kI kZ M1 (M1 0 0) rfl) (cwV 0 hts gL_law_X7_thrown rfl rfl rfl (by decide +kernel) ⟨Nat.le_of_ble_eq_true rfl, Nat.le_of_ble_eq_true rfl⟩) (mg_preV hLI.2.2.1 hmK hLI.2.2.2.1) rfl rfl hl.1 rfl (lv_room (Nat.le_of_ble_eq_true rfl)) dL_law_1657 ⟨(Nat.le_trans (show 100 + 20 * t + 2 + 0 ≤ 600000 by omega) rm_c), (Nat.le_trans (show 2000 + 120 * t + 12 + 0 ≤ 7000000 by omega) rm_s)⟩) hS (fun H locs hLI hz3 hS => ?_)
      refine lv_iload hx hb dL_law_1660 (lv_at hl 1 rfl) ?_
      refine lv_icmp_eq (tgt := 1667) hx hb dL_law_1662 (by decide) (fun _ => ?_) (fun hc => absurd h0 hc)
      refine lv_iload hx hb dL_law_1667 (lv_at hl 1 rfl) ?_
      refine lv_if_ne (tgt := 1684) hx hb dL_law_1669 (by decide) (fun _ => ?_) (fun hc => absurd hc (by decide))
      refine lv_goto (tgt := 2028) hx hb dL_law_1684 (by decide) ?_
      refine W.widen (k := 100 + 20 * (t + 1)) (n := 2000 + 120 * (t + 1)) (by omega) (by omega) ?_
      exact kk H locs ls ad1 Z1 M1 f1 h00 hLI hR1 hS (lv_sub hl [2, 3, 4, 5, 6] rfl)
    | j + 1, hj => cases hj
set_option maxHeartbeats 4000000 in
set_option maxRecDepth 100000 in
theorem law_without (hx : p.tables.exec = Jvm.exec) (hb : c.code = cL_law) (hml : c.maxLocals = 7) (hown : s.vm.findClass RL = some m.cls) (hts : ∀ w ∈ wsL_law, w.before #[Value.ref b] s = true) (hX : va_X b L xs s s.heap) (hbl : b < s.heap.size) (hfl : l.stackTraces = false) (hK : cK D G s) (hmK : mK D kI kZ s) (hKJ : va_K D vwCl [(cJ, .long)] s) (hE : cE A0 s s.heap) (hF : cF G A0 s s.heap) (hNc : lNc s) (hbA : ¬ A0 b) (hA0 : ∀ r, s.heap.size ≤ r → A0 r) {R R1 : CZ → MT → Prop} (hst : st_without R R1) {t : Nat} (hL : L ≤ 2560) (ht : 5 * t + 5 ≤ L) (hLI : lI D G ad Z mad kI kZ M cJ q f A0 H) (hR : R Z M) (hS : va_S A0 s.heap H locs) (hl : lv_has ls 7 [(0, .ref b), (1, .ref (ad 0 0)), (2, .ref (mad 0)), (3, .ref q), (4, .int (nI (5 * t)))])
    (kk : ∀ (H1 : Heap) (locs1 : List Loc) (ls1 : Array Slot) (ad1 : Nat → Nat → Nat) (Z1 : CZ) (M1 : MT) (f1 : Nat → Int64), ad1 0 0 = ad 0 0 → lI D G ad1 Z1 mad kI kZ M1 cJ q f1 A0 H1 → R1 Z1 M1 → va_S A0 s.heap H1 locs1 → lv_has ls1 7 [(0, .ref b), (1, .ref (ad1 0 0)), (2, .ref (mad 0)), (3, .ref q), (4, .int (nI (5 * t)))] → W p l e room_1 s m #[Value.ref b] below meth c H1 locs1 (100 + 20 * (t + 1)) (2000 + 120 * (t + 1)) Q (F0 m 2028 ls1 [])) : W p l e room_1 s m #[Value.ref b] below meth c H locs (100 + 20 * t) (2000 + 120 * t) Q (F0 m 1687 ls []) := by
  have ht5 : t < 512 := by omega
  refine lv_aload_n hx hb dL_law_1687 rfl (lv_at hl 1 rfl) ?_
  refine lv_aload_n hx hb dL_law_1688 rfl (lv_at hl 0 rfl) ?_
  refine lv_iload hx hb dL_law_1689 (lv_at hl 4 rfl) ?_
  refine lv_iconst (v := 1) hx hb dL_law_1691 (by decide) ?_
  refine lv_iadd hx hb dL_law_1692 ?_
  refine va_sld hx hb hX hbl hbA hS (law_in hL ht (show (1 : Nat) ≤ 4 by omega)) dL_law_1693 ?_
  refine lv_aload_n hx hb dL_law_1694 rfl (lv_at hl 0 rfl) ?_
  refine lv_iload hx hb dL_law_1695 (lv_at hl 4 rfl) ?_
  refine lv_iconst (v := 2) hx hb dL_law_1697 (by decide) ?_
  refine lv_iadd hx hb dL_law_1698 ?_
  refine va_sld hx hb hX hbl hbA hS (law_in hL ht (show (2 : Nat) ≤ 4 by omega)) dL_law_1699 ?_
  refine lv_aload_n hx hb dL_law_1700 rfl (lv_at hl 3 rfl) ?_
  obtain ⟨bb, M1, Z1, hm, hR1, hw⟩ := hst Z M hR (xs (Int32.toNatClampNeg (nI (5 * t) + 1))) (xs (Int32.toNatClampNeg (nI (5 * t) + 2)))
  rcases hw with ⟨hc, h0⟩ | ⟨j, cd, hc, hj, h0⟩
  · refine lg_class hLI (fun r h => hA0 r (Nat.le_trans hS.1 h)) (vx_runSX (As := [.ref (ad 0 0), .int (xs (Int32.toNatClampNeg (nI (5 * t) + 1))), .int (xs (Int32.toNatClampNeg (nI (5 * t) + 2))), .ref q]) (rest := []) ⟨hx, hb, hml, hown, hts⟩ (mL_without l hfl D G (lA ad Z H) ad Z cJ q f (xs (Int32.toNatClampNeg (nI (5 * t) + 1))) (xs (Int32.toNatClampNeg (nI (5 * t) + 2))) bb Z1 hc) (vx_cwSW 4 hts gL_law_L_without rfl rfl rfl (by decide +kernel) ⟨Nat.le_of_ble_eq_true rfl, Nat.le_of_ble_eq_true rfl⟩) (lg_preS hLI (fun r h => hA0 r (Nat.le_trans hS.1 h)) hK hKJ hE hF hNc hS) rfl rfl hl.1 rfl (lv_room (Nat.le_of_ble_eq_true rfl)) dL_law_1701 ⟨(Nat.le_trans (show 100 + 20 * t + 2 ≤ 600000 by omega) rm_c), (Nat.le_trans (show 2000 + 120 * t + 12 ≤ 7000000 by omega) rm_s)⟩) hS (fun H locs ad1 f1 hP h00 hLI hz hS => ?_)
    rw [← h00] at hl
    refine lv_istore (lv' := [(5, .int 0), (0, .ref b), (1, .ref (ad1 0 0)), (2, .ref (mad 0)), (3, .ref q), (4, .int (nI (5 * t)))]) hx hb dL_law_1704 hl (by decide) rfl (fun ls hl => ?_)
    refine lv_aload_n hx hb dL_law_1706 rfl (lv_at hl 3 rfl) ?_
    refine lv_aload_n hx hb dL_law_1707 rfl (lv_at hl 1 rfl) ?_
    refine lv_iload hx hb dL_law_1708 (lv_at hl 5 rfl) ?_
    refine lv_iconst (v := 1) hx hb dL_law_1710 (by decide) ?_
    refine lv_iadd hx hb dL_law_1711 ?_
    refine va_sld hx hb hX hbl hbA hS (law_in hL ht (show (1 : Nat) ≤ 4 by omega)) dL_law_1712 ?_
    refine lv_aload_n hx hb dL_law_1713 rfl (lv_at hl 1 rfl) ?_
    refine lv_iload hx hb dL_law_1714 (lv_at hl 5 rfl) ?_
    refine lv_iconst (v := 2) hx hb dL_law_1716 (by decide) ?_
    refine lv_iadd hx hb dL_law_1717 ?_
    refine va_sld hx hb hX hbl hbA hS (law_in hL ht (show (2 : Nat) ≤ 4 by omega)) dL_law_1718 ?_
    refine lg_modeli hLI (va_runV (As := [.int (xs (Int32.toNatClampNeg (nI (5 * t) + 1))), .int (xs (Int32.toNatClampNeg (nI (5 * t) + 2)))]) (rest := []) ⟨hx, hb, hml, hown, hts⟩ (mX7_without l D mad kI kZ M (xs (Int32.toNatClampNeg (nI (5 * t) + 1))) (xs (Int32.toNatClampNeg (nI (5 * t) + 2))) bb M1 hm) (cwV 2 hts gL_law_X7_without rfl rfl rfl (by decide +kernel) ⟨Nat.le_of_ble_eq_true rfl, Nat.le_of_ble_eq_true rfl⟩) (mg_preV hLI.2.2.1 hmK hLI.2.2.2.1) rfl rfl hl.1 rfl (lv_room (Nat.le_of_ble_eq_true rfl)) dL_law_1719 ⟨(Nat.le_trans (show 100 + 20 * t + 2 + 0 ≤ 600000 by omega) rm_c), (Nat.le_trans (show 2000 + 120 * t + 12 + 0 ≤ 7000000 by omega) rm_s)⟩) hS (fun H locs hLI hz2 hS => ?_)
    refine lv_istore (lv' := [(6, .int bb), (5, .int 0), (0, .ref b), (1, .ref (ad1 0 0)), (2, .ref (mad 0)), (3, .ref q), (4, .int (nI (5 * t)))]) hx hb dL_law_1722 hl (by decide) rfl (fun ls hl => ?_)
    refine lv_aload_n hx hb dL_law_1724 rfl (lv_at hl 4 rfl) ?_
    refine lg_modeli hLI (va_runV (As := []) (rest := []) ⟨hx, hb, hml, hown, hts⟩ (mX7_thrown l D mad kI kZ M1 (M1 0 0) rfl) (cwV 0 hts gL_law_X7_thrown rfl rfl rfl (by decide +kernel) ⟨Nat.le_of_ble_eq_true rfl, Nat.le_of_ble_eq_true rfl⟩) (mg_preV hLI.2.2.1 hmK hLI.2.2.2.1) rfl rfl hl.1 rfl (lv_room (Nat.le_of_ble_eq_true rfl)) dL_law_1725 ⟨(Nat.le_trans (show 100 + 20 * t + 2 + 0 ≤ 600000 by omega) rm_c), (Nat.le_trans (show 2000 + 120 * t + 12 + 0 ≤ 7000000 by omega) rm_s)⟩) hS (fun H locs hLI hz3 hS => ?_)
    refine lv_iload hx hb dL_law_1728 (lv_at hl 1 rfl) ?_
    refine lv_icmp_eq (tgt := 1735) hx hb dL_law_1730 (by decide) (fun _ => ?_) (fun hc => absurd h0 hc)
    refine lv_iload hx hb dL_law_1735 (lv_at hl 1 rfl) ?_
    refine lv_if_ne (tgt := 1752) hx hb dL_law_1737 (by decide) (fun hc => absurd rfl hc) (fun _ => ?_)
    refine lv_aload_n hx hb dL_law_1740 rfl (lv_at hl 5 rfl) ?_
    refine lv_iconst (v := 0) hx hb dL_law_1741 (by decide) ?_
    refine va_lald hx hb hKJ (iw_P1 hLI.2.2.2.2.1) 0 0 rfl rfl (show ¬ ((0 : Int32) < 0 ∨ 1 ≤ (0 : Int32).toNatClampNeg) from by decide) dL_law_1742 ?_
    rw [show f1 (0 : Int32).toNatClampNeg = bb.toInt64 from hP]
    refine lv_iload hx hb dL_law_1743 (lv_at hl 0 rfl) ?_
    refine lv_i2l hx hb (v := bb.toInt64) dL_law_1745 rfl ?_
    refine lg_lcmp hx hb dL_law_1746 ?_
    refine lv_if_eq (tgt := 1752) hx hb dL_law_1747 (by decide) (fun _ => ?_) (fun hc => absurd rfl hc)
    refine lv_goto (tgt := 2028) hx hb dL_law_1752 (by decide) ?_
    refine W.widen (k := 100 + 20 * (t + 1)) (n := 2000 + 120 * (t + 1)) (by omega) (by omega) ?_
    exact kk H locs ls ad1 Z1 M1 f1 h00 hLI hR1 hS (lv_sub hl [2, 3, 4, 5, 6] rfl)
  · match j, hj with
    | 0, hj =>
      cases hj
      refine lg_class hLI (fun r h => hA0 r (Nat.le_trans hS.1 h)) (vx_runSX (As := [.ref (ad 0 0), .int (xs (Int32.toNatClampNeg (nI (5 * t) + 1))), .int (xs (Int32.toNatClampNeg (nI (5 * t) + 2))), .ref q]) (rest := []) ⟨hx, hb, hml, hown, hts⟩ (mL_without_x1 l hfl D G (lA ad Z H) ad Z cJ q f (xs (Int32.toNatClampNeg (nI (5 * t) + 1))) (xs (Int32.toNatClampNeg (nI (5 * t) + 2))) Z1 hc) (vx_cwSW 4 hts gL_law_L_without rfl rfl rfl (by decide +kernel) ⟨Nat.le_of_ble_eq_true rfl, Nat.le_of_ble_eq_true rfl⟩) (lg_preS hLI (fun r h => hA0 r (Nat.le_trans hS.1 h)) hK hKJ hE hF hNc hS) rfl rfl hl.1 rfl (lv_room (Nat.le_of_ble_eq_true rfl)) dL_law_1701 ⟨(Nat.le_trans (show 100 + 20 * t + 2 ≤ 600000 by omega) rm_c), (Nat.le_trans (show 2000 + 120 * t + 12 ≤ 7000000 by omega) rm_s)⟩) hS (fun H locs ad1 f1 hP h00 hLI hz hS => ?_)
      rw [← h00] at hl
      refine lv_istore (lv' := [(5, .int 1), (0, .ref b), (1, .ref (ad1 0 0)), (2, .ref (mad 0)), (3, .ref q), (4, .int (nI (5 * t)))]) hx hb dL_law_1704 hl (by decide) rfl (fun ls hl => ?_)
      refine lv_aload_n hx hb dL_law_1706 rfl (lv_at hl 3 rfl) ?_
      refine lv_aload_n hx hb dL_law_1707 rfl (lv_at hl 1 rfl) ?_
      refine lv_iload hx hb dL_law_1708 (lv_at hl 5 rfl) ?_
      refine lv_iconst (v := 1) hx hb dL_law_1710 (by decide) ?_
      refine lv_iadd hx hb dL_law_1711 ?_
      refine va_sld hx hb hX hbl hbA hS (law_in hL ht (show (1 : Nat) ≤ 4 by omega)) dL_law_1712 ?_
      refine lv_aload_n hx hb dL_law_1713 rfl (lv_at hl 1 rfl) ?_
      refine lv_iload hx hb dL_law_1714 (lv_at hl 5 rfl) ?_
      refine lv_iconst (v := 2) hx hb dL_law_1716 (by decide) ?_
      refine lv_iadd hx hb dL_law_1717 ?_
      refine va_sld hx hb hX hbl hbA hS (law_in hL ht (show (2 : Nat) ≤ 4 by omega)) dL_law_1718 ?_
      refine lg_modeli hLI (va_runV (As := [.int (xs (Int32.toNatClampNeg (nI (5 * t) + 1))), .int (xs (Int32.toNatClampNeg (nI (5 * t) + 2)))]) (rest := []) ⟨hx, hb, hml, hown, hts⟩ (mX7_without l D mad kI kZ M (xs (Int32.toNatClampNeg (nI (5 * t) + 1))) (xs (Int32.toNatClampNeg (nI (5 * t) + 2))) bb M1 hm) (cwV 2 hts gL_law_X7_without rfl rfl rfl (by decide +kernel) ⟨Nat.le_of_ble_eq_true rfl, Nat.le_of_ble_eq_true rfl⟩) (mg_preV hLI.2.2.1 hmK hLI.2.2.2.1) rfl rfl hl.1 rfl (lv_room (Nat.le_of_ble_eq_true rfl)) dL_law_1719 ⟨(Nat.le_trans (show 100 + 20 * t + 2 + 0 ≤ 600000 by omega) rm_c), (Nat.le_trans (show 2000 + 120 * t + 12 + 0 ≤ 7000000 by omega) rm_s)⟩) hS (fun H locs hLI hz2 hS => ?_)
      refine lv_istore (lv' := [(6, .int bb), (5, .int 1), (0, .ref b), (1, .ref (ad1 0 0)), (2, .ref (mad 0)), (3, .ref q), (4, .int (nI (5 * t)))]) hx hb dL_law_1722 hl (by decide) rfl (fun ls hl => ?_)
      refine lv_aload_n hx hb dL_law_1724 rfl (lv_at hl 4 rfl) ?_
      refine lg_modeli hLI (va_runV (As := []) (rest := []) ⟨hx, hb, hml, hown, hts⟩ (mX7_thrown l D mad kI kZ M1 (M1 0 0) rfl) (cwV 0 hts gL_law_X7_thrown rfl rfl rfl (by decide +kernel) ⟨Nat.le_of_ble_eq_true rfl, Nat.le_of_ble_eq_true rfl⟩) (mg_preV hLI.2.2.1 hmK hLI.2.2.2.1) rfl rfl hl.1 rfl (lv_room (Nat.le_of_ble_eq_true rfl)) dL_law_1725 ⟨(Nat.le_trans (show 100 + 20 * t + 2 + 0 ≤ 600000 by omega) rm_c), (Nat.le_trans (show 2000 + 120 * t + 12 + 0 ≤ 7000000 by omega) rm_s)⟩) hS (fun H locs hLI hz3 hS => ?_)
      refine lv_iload hx hb dL_law_1728 (lv_at hl 1 rfl) ?_
      refine lv_icmp_eq (tgt := 1735) hx hb dL_law_1730 (by decide) (fun _ => ?_) (fun hc => absurd h0 hc)
      refine lv_iload hx hb dL_law_1735 (lv_at hl 1 rfl) ?_
      refine lv_if_ne (tgt := 1752) hx hb dL_law_1737 (by decide) (fun _ => ?_) (fun hc => absurd hc (by decide))
      refine lv_goto (tgt := 2028) hx hb dL_law_1752 (by decide) ?_
      refine W.widen (k := 100 + 20 * (t + 1)) (n := 2000 + 120 * (t + 1)) (by omega) (by omega) ?_
      exact kk H locs ls ad1 Z1 M1 f1 h00 hLI hR1 hS (lv_sub hl [2, 3, 4, 5, 6] rfl)
    | j + 1, hj => cases hj
set_option maxHeartbeats 4000000 in
set_option maxRecDepth 100000 in
theorem law_perform (hx : p.tables.exec = Jvm.exec) (hb : c.code = cL_law) (hml : c.maxLocals = 7) (hown : s.vm.findClass RL = some m.cls) (hts : ∀ w ∈ wsL_law, w.before #[Value.ref b] s = true) (hX : va_X b L xs s s.heap) (hbl : b < s.heap.size) (hfl : l.stackTraces = false) (hK : cK D G s) (hmK : mK D kI kZ s) (hKJ : va_K D vwCl [(cJ, .long)] s) (hE : cE A0 s s.heap) (hF : cF G A0 s s.heap) (hNc : lNc s) (hbA : ¬ A0 b) (hA0 : ∀ r, s.heap.size ≤ r → A0 r) {R R1 : CZ → MT → Prop} (hst : st_perform R R1) {t : Nat} (hL : L ≤ 2560) (ht : 5 * t + 5 ≤ L) (hLI : lI D G ad Z mad kI kZ M cJ q f A0 H) (hR : R Z M) (hS : va_S A0 s.heap H locs) (hl : lv_has ls 7 [(0, .ref b), (1, .ref (ad 0 0)), (2, .ref (mad 0)), (3, .ref q), (4, .int (nI (5 * t)))])
    (kk : ∀ (H1 : Heap) (locs1 : List Loc) (ls1 : Array Slot) (ad1 : Nat → Nat → Nat) (Z1 : CZ) (M1 : MT) (f1 : Nat → Int64), ad1 0 0 = ad 0 0 → lI D G ad1 Z1 mad kI kZ M1 cJ q f1 A0 H1 → R1 Z1 M1 → va_S A0 s.heap H1 locs1 → lv_has ls1 7 [(0, .ref b), (1, .ref (ad1 0 0)), (2, .ref (mad 0)), (3, .ref q), (4, .int (nI (5 * t)))] → W p l e room_1 s m #[Value.ref b] below meth c H1 locs1 (100 + 20 * (t + 1)) (2000 + 120 * (t + 1)) Q (F0 m 2028 ls1 [])) : W p l e room_1 s m #[Value.ref b] below meth c H locs (100 + 20 * t) (2000 + 120 * t) Q (F0 m 1755 ls []) := by
  have ht5 : t < 512 := by omega
  refine lv_aload_n hx hb dL_law_1755 rfl (lv_at hl 1 rfl) ?_
  refine lv_aload_n hx hb dL_law_1756 rfl (lv_at hl 0 rfl) ?_
  refine lv_iload hx hb dL_law_1757 (lv_at hl 4 rfl) ?_
  refine lv_iconst (v := 1) hx hb dL_law_1759 (by decide) ?_
  refine lv_iadd hx hb dL_law_1760 ?_
  refine va_sld hx hb hX hbl hbA hS (law_in hL ht (show (1 : Nat) ≤ 4 by omega)) dL_law_1761 ?_
  refine lv_aload_n hx hb dL_law_1762 rfl (lv_at hl 0 rfl) ?_
  refine lv_iload hx hb dL_law_1763 (lv_at hl 4 rfl) ?_
  refine lv_iconst (v := 2) hx hb dL_law_1765 (by decide) ?_
  refine lv_iadd hx hb dL_law_1766 ?_
  refine va_sld hx hb hX hbl hbA hS (law_in hL ht (show (2 : Nat) ≤ 4 by omega)) dL_law_1767 ?_
  refine lv_aload_n hx hb dL_law_1768 rfl (lv_at hl 3 rfl) ?_
  obtain ⟨bb, M1, Z1, hm, hR1, hw⟩ := hst Z M hR (xs (Int32.toNatClampNeg (nI (5 * t) + 1))) (xs (Int32.toNatClampNeg (nI (5 * t) + 2)))
  rcases hw with ⟨hc, h0⟩ | ⟨j, cd, hc, hj, h0⟩
  · refine lg_class hLI (fun r h => hA0 r (Nat.le_trans hS.1 h)) (vx_runSX (As := [.ref (ad 0 0), .int (xs (Int32.toNatClampNeg (nI (5 * t) + 1))), .int (xs (Int32.toNatClampNeg (nI (5 * t) + 2))), .ref q]) (rest := []) ⟨hx, hb, hml, hown, hts⟩ (mL_perform l hfl D G (lA ad Z H) ad Z cJ q f (xs (Int32.toNatClampNeg (nI (5 * t) + 1))) (xs (Int32.toNatClampNeg (nI (5 * t) + 2))) bb Z1 hc) (vx_cwSW 4 hts gL_law_L_perform rfl rfl rfl (by decide +kernel) ⟨Nat.le_of_ble_eq_true rfl, Nat.le_of_ble_eq_true rfl⟩) (lg_preS hLI (fun r h => hA0 r (Nat.le_trans hS.1 h)) hK hKJ hE hF hNc hS) rfl rfl hl.1 rfl (lv_room (Nat.le_of_ble_eq_true rfl)) dL_law_1769 ⟨(Nat.le_trans (show 100 + 20 * t + 4 ≤ 600000 by omega) rm_c), (Nat.le_trans (show 2000 + 120 * t + 24 ≤ 7000000 by omega) rm_s)⟩) hS (fun H locs ad1 f1 hP h00 hLI hz hS => ?_)
    rw [← h00] at hl
    refine lv_istore (lv' := [(5, .int 0), (0, .ref b), (1, .ref (ad1 0 0)), (2, .ref (mad 0)), (3, .ref q), (4, .int (nI (5 * t)))]) hx hb dL_law_1772 hl (by decide) rfl (fun ls hl => ?_)
    refine lv_aload_n hx hb dL_law_1774 rfl (lv_at hl 3 rfl) ?_
    refine lv_aload_n hx hb dL_law_1775 rfl (lv_at hl 1 rfl) ?_
    refine lv_iload hx hb dL_law_1776 (lv_at hl 5 rfl) ?_
    refine lv_iconst (v := 1) hx hb dL_law_1778 (by decide) ?_
    refine lv_iadd hx hb dL_law_1779 ?_
    refine va_sld hx hb hX hbl hbA hS (law_in hL ht (show (1 : Nat) ≤ 4 by omega)) dL_law_1780 ?_
    refine lv_aload_n hx hb dL_law_1781 rfl (lv_at hl 1 rfl) ?_
    refine lv_iload hx hb dL_law_1782 (lv_at hl 5 rfl) ?_
    refine lv_iconst (v := 2) hx hb dL_law_1784 (by decide) ?_
    refine lv_iadd hx hb dL_law_1785 ?_
    refine va_sld hx hb hX hbl hbA hS (law_in hL ht (show (2 : Nat) ≤ 4 by omega)) dL_law_1786 ?_
    refine lg_modeli hLI (va_runV (As := [.int (xs (Int32.toNatClampNeg (nI (5 * t) + 1))), .int (xs (Int32.toNatClampNeg (nI (5 * t) + 2)))]) (rest := []) ⟨hx, hb, hml, hown, hts⟩ (mX7_perform l D mad kI kZ M (xs (Int32.toNatClampNeg (nI (5 * t) + 1))) (xs (Int32.toNatClampNeg (nI (5 * t) + 2))) bb M1 hm) (cwV 2 hts gL_law_X7_perform rfl rfl rfl (by decide +kernel) ⟨Nat.le_of_ble_eq_true rfl, Nat.le_of_ble_eq_true rfl⟩) (mg_preV hLI.2.2.1 hmK hLI.2.2.2.1) rfl rfl hl.1 rfl (lv_room (Nat.le_of_ble_eq_true rfl)) dL_law_1787 ⟨(Nat.le_trans (show 100 + 20 * t + 4 + 0 ≤ 600000 by omega) rm_c), (Nat.le_trans (show 2000 + 120 * t + 24 + 0 ≤ 7000000 by omega) rm_s)⟩) hS (fun H locs hLI hz2 hS => ?_)
    refine lv_istore (lv' := [(6, .int bb), (5, .int 0), (0, .ref b), (1, .ref (ad1 0 0)), (2, .ref (mad 0)), (3, .ref q), (4, .int (nI (5 * t)))]) hx hb dL_law_1790 hl (by decide) rfl (fun ls hl => ?_)
    refine lv_aload_n hx hb dL_law_1792 rfl (lv_at hl 4 rfl) ?_
    refine lg_modeli hLI (va_runV (As := []) (rest := []) ⟨hx, hb, hml, hown, hts⟩ (mX7_thrown l D mad kI kZ M1 (M1 0 0) rfl) (cwV 0 hts gL_law_X7_thrown rfl rfl rfl (by decide +kernel) ⟨Nat.le_of_ble_eq_true rfl, Nat.le_of_ble_eq_true rfl⟩) (mg_preV hLI.2.2.1 hmK hLI.2.2.2.1) rfl rfl hl.1 rfl (lv_room (Nat.le_of_ble_eq_true rfl)) dL_law_1793 ⟨(Nat.le_trans (show 100 + 20 * t + 4 + 0 ≤ 600000 by omega) rm_c), (Nat.le_trans (show 2000 + 120 * t + 24 + 0 ≤ 7000000 by omega) rm_s)⟩) hS (fun H locs hLI hz3 hS => ?_)
    refine lv_iload hx hb dL_law_1796 (lv_at hl 1 rfl) ?_
    refine lv_icmp_eq (tgt := 1803) hx hb dL_law_1798 (by decide) (fun _ => ?_) (fun hc => absurd h0 hc)
    refine lv_iload hx hb dL_law_1803 (lv_at hl 1 rfl) ?_
    refine lv_if_ne (tgt := 1820) hx hb dL_law_1805 (by decide) (fun hc => absurd rfl hc) (fun _ => ?_)
    refine lv_aload_n hx hb dL_law_1808 rfl (lv_at hl 5 rfl) ?_
    refine lv_iconst (v := 0) hx hb dL_law_1809 (by decide) ?_
    refine va_lald hx hb hKJ (iw_P1 hLI.2.2.2.2.1) 0 0 rfl rfl (show ¬ ((0 : Int32) < 0 ∨ 1 ≤ (0 : Int32).toNatClampNeg) from by decide) dL_law_1810 ?_
    rw [show f1 (0 : Int32).toNatClampNeg = bb.toInt64 from hP]
    refine lv_iload hx hb dL_law_1811 (lv_at hl 0 rfl) ?_
    refine lv_i2l hx hb (v := bb.toInt64) dL_law_1813 rfl ?_
    refine lg_lcmp hx hb dL_law_1814 ?_
    refine lv_if_eq (tgt := 1820) hx hb dL_law_1815 (by decide) (fun _ => ?_) (fun hc => absurd rfl hc)
    refine lv_goto (tgt := 2028) hx hb dL_law_1820 (by decide) ?_
    refine W.widen (k := 100 + 20 * (t + 1)) (n := 2000 + 120 * (t + 1)) (by omega) (by omega) ?_
    exact kk H locs ls ad1 Z1 M1 f1 h00 hLI hR1 hS (lv_sub hl [2, 3, 4, 5, 6] rfl)
  · match j, hj with
    | 0, hj =>
      cases hj
      refine lg_class hLI (fun r h => hA0 r (Nat.le_trans hS.1 h)) (vx_runSX (As := [.ref (ad 0 0), .int (xs (Int32.toNatClampNeg (nI (5 * t) + 1))), .int (xs (Int32.toNatClampNeg (nI (5 * t) + 2))), .ref q]) (rest := []) ⟨hx, hb, hml, hown, hts⟩ (mL_perform_x1 l hfl D G (lA ad Z H) ad Z cJ q f (xs (Int32.toNatClampNeg (nI (5 * t) + 1))) (xs (Int32.toNatClampNeg (nI (5 * t) + 2))) Z1 hc) (vx_cwSW 4 hts gL_law_L_perform rfl rfl rfl (by decide +kernel) ⟨Nat.le_of_ble_eq_true rfl, Nat.le_of_ble_eq_true rfl⟩) (lg_preS hLI (fun r h => hA0 r (Nat.le_trans hS.1 h)) hK hKJ hE hF hNc hS) rfl rfl hl.1 rfl (lv_room (Nat.le_of_ble_eq_true rfl)) dL_law_1769 ⟨(Nat.le_trans (show 100 + 20 * t + 4 ≤ 600000 by omega) rm_c), (Nat.le_trans (show 2000 + 120 * t + 24 ≤ 7000000 by omega) rm_s)⟩) hS (fun H locs ad1 f1 hP h00 hLI hz hS => ?_)
      rw [← h00] at hl
      refine lv_istore (lv' := [(5, .int 1), (0, .ref b), (1, .ref (ad1 0 0)), (2, .ref (mad 0)), (3, .ref q), (4, .int (nI (5 * t)))]) hx hb dL_law_1772 hl (by decide) rfl (fun ls hl => ?_)
      refine lv_aload_n hx hb dL_law_1774 rfl (lv_at hl 3 rfl) ?_
      refine lv_aload_n hx hb dL_law_1775 rfl (lv_at hl 1 rfl) ?_
      refine lv_iload hx hb dL_law_1776 (lv_at hl 5 rfl) ?_
      refine lv_iconst (v := 1) hx hb dL_law_1778 (by decide) ?_
      refine lv_iadd hx hb dL_law_1779 ?_
      refine va_sld hx hb hX hbl hbA hS (law_in hL ht (show (1 : Nat) ≤ 4 by omega)) dL_law_1780 ?_
      refine lv_aload_n hx hb dL_law_1781 rfl (lv_at hl 1 rfl) ?_
      refine lv_iload hx hb dL_law_1782 (lv_at hl 5 rfl) ?_
      refine lv_iconst (v := 2) hx hb dL_law_1784 (by decide) ?_
      refine lv_iadd hx hb dL_law_1785 ?_
      refine va_sld hx hb hX hbl hbA hS (law_in hL ht (show (2 : Nat) ≤ 4 by omega)) dL_law_1786 ?_
      refine lg_modeli hLI (va_runV (As := [.int (xs (Int32.toNatClampNeg (nI (5 * t) + 1))), .int (xs (Int32.toNatClampNeg (nI (5 * t) + 2)))]) (rest := []) ⟨hx, hb, hml, hown, hts⟩ (mX7_perform l D mad kI kZ M (xs (Int32.toNatClampNeg (nI (5 * t) + 1))) (xs (Int32.toNatClampNeg (nI (5 * t) + 2))) bb M1 hm) (cwV 2 hts gL_law_X7_perform rfl rfl rfl (by decide +kernel) ⟨Nat.le_of_ble_eq_true rfl, Nat.le_of_ble_eq_true rfl⟩) (mg_preV hLI.2.2.1 hmK hLI.2.2.2.1) rfl rfl hl.1 rfl (lv_room (Nat.le_of_ble_eq_true rfl)) dL_law_1787 ⟨(Nat.le_trans (show 100 + 20 * t + 4 + 0 ≤ 600000 by omega) rm_c), (Nat.le_trans (show 2000 + 120 * t + 24 + 0 ≤ 7000000 by omega) rm_s)⟩) hS (fun H locs hLI hz2 hS => ?_)
      refine lv_istore (lv' := [(6, .int bb), (5, .int 1), (0, .ref b), (1, .ref (ad1 0 0)), (2, .ref (mad 0)), (3, .ref q), (4, .int (nI (5 * t)))]) hx hb dL_law_1790 hl (by decide) rfl (fun ls hl => ?_)
      refine lv_aload_n hx hb dL_law_1792 rfl (lv_at hl 4 rfl) ?_
      refine lg_modeli hLI (va_runV (As := []) (rest := []) ⟨hx, hb, hml, hown, hts⟩ (mX7_thrown l D mad kI kZ M1 (M1 0 0) rfl) (cwV 0 hts gL_law_X7_thrown rfl rfl rfl (by decide +kernel) ⟨Nat.le_of_ble_eq_true rfl, Nat.le_of_ble_eq_true rfl⟩) (mg_preV hLI.2.2.1 hmK hLI.2.2.2.1) rfl rfl hl.1 rfl (lv_room (Nat.le_of_ble_eq_true rfl)) dL_law_1793 ⟨(Nat.le_trans (show 100 + 20 * t + 4 + 0 ≤ 600000 by omega) rm_c), (Nat.le_trans (show 2000 + 120 * t + 24 + 0 ≤ 7000000 by omega) rm_s)⟩) hS (fun H locs hLI hz3 hS => ?_)
      refine lv_iload hx hb dL_law_1796 (lv_at hl 1 rfl) ?_
      refine lv_icmp_eq (tgt := 1803) hx hb dL_law_1798 (by decide) (fun _ => ?_) (fun hc => absurd h0 hc)
      refine lv_iload hx hb dL_law_1803 (lv_at hl 1 rfl) ?_
      refine lv_if_ne (tgt := 1820) hx hb dL_law_1805 (by decide) (fun _ => ?_) (fun hc => absurd hc (by decide))
      refine lv_goto (tgt := 2028) hx hb dL_law_1820 (by decide) ?_
      refine W.widen (k := 100 + 20 * (t + 1)) (n := 2000 + 120 * (t + 1)) (by omega) (by omega) ?_
      exact kk H locs ls ad1 Z1 M1 f1 h00 hLI hR1 hS (lv_sub hl [2, 3, 4, 5, 6] rfl)
    | 1, hj =>
      cases hj
      refine lg_class hLI (fun r h => hA0 r (Nat.le_trans hS.1 h)) (vx_runSX (As := [.ref (ad 0 0), .int (xs (Int32.toNatClampNeg (nI (5 * t) + 1))), .int (xs (Int32.toNatClampNeg (nI (5 * t) + 2))), .ref q]) (rest := []) ⟨hx, hb, hml, hown, hts⟩ (mL_perform_x2 l hfl D G (lA ad Z H) ad Z cJ q f (xs (Int32.toNatClampNeg (nI (5 * t) + 1))) (xs (Int32.toNatClampNeg (nI (5 * t) + 2))) Z1 hc) (vx_cwSW 4 hts gL_law_L_perform rfl rfl rfl (by decide +kernel) ⟨Nat.le_of_ble_eq_true rfl, Nat.le_of_ble_eq_true rfl⟩) (lg_preS hLI (fun r h => hA0 r (Nat.le_trans hS.1 h)) hK hKJ hE hF hNc hS) rfl rfl hl.1 rfl (lv_room (Nat.le_of_ble_eq_true rfl)) dL_law_1769 ⟨(Nat.le_trans (show 100 + 20 * t + 4 ≤ 600000 by omega) rm_c), (Nat.le_trans (show 2000 + 120 * t + 24 ≤ 7000000 by omega) rm_s)⟩) hS (fun H locs ad1 f1 hP h00 hLI hz hS => ?_)
      rw [← h00] at hl
      refine lv_istore (lv' := [(5, .int 2), (0, .ref b), (1, .ref (ad1 0 0)), (2, .ref (mad 0)), (3, .ref q), (4, .int (nI (5 * t)))]) hx hb dL_law_1772 hl (by decide) rfl (fun ls hl => ?_)
      refine lv_aload_n hx hb dL_law_1774 rfl (lv_at hl 3 rfl) ?_
      refine lv_aload_n hx hb dL_law_1775 rfl (lv_at hl 1 rfl) ?_
      refine lv_iload hx hb dL_law_1776 (lv_at hl 5 rfl) ?_
      refine lv_iconst (v := 1) hx hb dL_law_1778 (by decide) ?_
      refine lv_iadd hx hb dL_law_1779 ?_
      refine va_sld hx hb hX hbl hbA hS (law_in hL ht (show (1 : Nat) ≤ 4 by omega)) dL_law_1780 ?_
      refine lv_aload_n hx hb dL_law_1781 rfl (lv_at hl 1 rfl) ?_
      refine lv_iload hx hb dL_law_1782 (lv_at hl 5 rfl) ?_
      refine lv_iconst (v := 2) hx hb dL_law_1784 (by decide) ?_
      refine lv_iadd hx hb dL_law_1785 ?_
      refine va_sld hx hb hX hbl hbA hS (law_in hL ht (show (2 : Nat) ≤ 4 by omega)) dL_law_1786 ?_
      refine lg_modeli hLI (va_runV (As := [.int (xs (Int32.toNatClampNeg (nI (5 * t) + 1))), .int (xs (Int32.toNatClampNeg (nI (5 * t) + 2)))]) (rest := []) ⟨hx, hb, hml, hown, hts⟩ (mX7_perform l D mad kI kZ M (xs (Int32.toNatClampNeg (nI (5 * t) + 1))) (xs (Int32.toNatClampNeg (nI (5 * t) + 2))) bb M1 hm) (cwV 2 hts gL_law_X7_perform rfl rfl rfl (by decide +kernel) ⟨Nat.le_of_ble_eq_true rfl, Nat.le_of_ble_eq_true rfl⟩) (mg_preV hLI.2.2.1 hmK hLI.2.2.2.1) rfl rfl hl.1 rfl (lv_room (Nat.le_of_ble_eq_true rfl)) dL_law_1787 ⟨(Nat.le_trans (show 100 + 20 * t + 4 + 0 ≤ 600000 by omega) rm_c), (Nat.le_trans (show 2000 + 120 * t + 24 + 0 ≤ 7000000 by omega) rm_s)⟩) hS (fun H locs hLI hz2 hS => ?_)
      refine lv_istore (lv' := [(6, .int bb), (5, .int 2), (0, .ref b), (1, .ref (ad1 0 0)), (2, .ref (mad 0)), (3, .ref q), (4, .int (nI (5 * t)))]) hx hb dL_law_1790 hl (by decide) rfl (fun ls hl => ?_)
      refine lv_aload_n hx hb dL_law_1792 rfl (lv_at hl 4 rfl) ?_
      refine lg_modeli hLI (va_runV (As := []) (rest := []) ⟨hx, hb, hml, hown, hts⟩ (mX7_thrown l D mad kI kZ M1 (M1 0 0) rfl) (cwV 0 hts gL_law_X7_thrown rfl rfl rfl (by decide +kernel) ⟨Nat.le_of_ble_eq_true rfl, Nat.le_of_ble_eq_true rfl⟩) (mg_preV hLI.2.2.1 hmK hLI.2.2.2.1) rfl rfl hl.1 rfl (lv_room (Nat.le_of_ble_eq_true rfl)) dL_law_1793 ⟨(Nat.le_trans (show 100 + 20 * t + 4 + 0 ≤ 600000 by omega) rm_c), (Nat.le_trans (show 2000 + 120 * t + 24 + 0 ≤ 7000000 by omega) rm_s)⟩) hS (fun H locs hLI hz3 hS => ?_)
      refine lv_iload hx hb dL_law_1796 (lv_at hl 1 rfl) ?_
      refine lv_icmp_eq (tgt := 1803) hx hb dL_law_1798 (by decide) (fun _ => ?_) (fun hc => absurd h0 hc)
      refine lv_iload hx hb dL_law_1803 (lv_at hl 1 rfl) ?_
      refine lv_if_ne (tgt := 1820) hx hb dL_law_1805 (by decide) (fun _ => ?_) (fun hc => absurd hc (by decide))
      refine lv_goto (tgt := 2028) hx hb dL_law_1820 (by decide) ?_
      refine W.widen (k := 100 + 20 * (t + 1)) (n := 2000 + 120 * (t + 1)) (by omega) (by omega) ?_
      exact kk H locs ls ad1 Z1 M1 f1 h00 hLI hR1 hS (lv_sub hl [2, 3, 4, 5, 6] rfl)
    | 2, hj =>
      cases hj
      refine lg_class hLI (fun r h => hA0 r (Nat.le_trans hS.1 h)) (vx_runSX (As := [.ref (ad 0 0), .int (xs (Int32.toNatClampNeg (nI (5 * t) + 1))), .int (xs (Int32.toNatClampNeg (nI (5 * t) + 2))), .ref q]) (rest := []) ⟨hx, hb, hml, hown, hts⟩ (mL_perform_x3 l hfl D G (lA ad Z H) ad Z cJ q f (xs (Int32.toNatClampNeg (nI (5 * t) + 1))) (xs (Int32.toNatClampNeg (nI (5 * t) + 2))) Z1 hc) (vx_cwSW 4 hts gL_law_L_perform rfl rfl rfl (by decide +kernel) ⟨Nat.le_of_ble_eq_true rfl, Nat.le_of_ble_eq_true rfl⟩) (lg_preS hLI (fun r h => hA0 r (Nat.le_trans hS.1 h)) hK hKJ hE hF hNc hS) rfl rfl hl.1 rfl (lv_room (Nat.le_of_ble_eq_true rfl)) dL_law_1769 ⟨(Nat.le_trans (show 100 + 20 * t + 4 ≤ 600000 by omega) rm_c), (Nat.le_trans (show 2000 + 120 * t + 24 ≤ 7000000 by omega) rm_s)⟩) hS (fun H locs ad1 f1 hP h00 hLI hz hS => ?_)
      rw [← h00] at hl
      refine lv_istore (lv' := [(5, .int 3), (0, .ref b), (1, .ref (ad1 0 0)), (2, .ref (mad 0)), (3, .ref q), (4, .int (nI (5 * t)))]) hx hb dL_law_1772 hl (by decide) rfl (fun ls hl => ?_)
      refine lv_aload_n hx hb dL_law_1774 rfl (lv_at hl 3 rfl) ?_
      refine lv_aload_n hx hb dL_law_1775 rfl (lv_at hl 1 rfl) ?_
      refine lv_iload hx hb dL_law_1776 (lv_at hl 5 rfl) ?_
      refine lv_iconst (v := 1) hx hb dL_law_1778 (by decide) ?_
      refine lv_iadd hx hb dL_law_1779 ?_
      refine va_sld hx hb hX hbl hbA hS (law_in hL ht (show (1 : Nat) ≤ 4 by omega)) dL_law_1780 ?_
      refine lv_aload_n hx hb dL_law_1781 rfl (lv_at hl 1 rfl) ?_
      refine lv_iload hx hb dL_law_1782 (lv_at hl 5 rfl) ?_
      refine lv_iconst (v := 2) hx hb dL_law_1784 (by decide) ?_
      refine lv_iadd hx hb dL_law_1785 ?_
      refine va_sld hx hb hX hbl hbA hS (law_in hL ht (show (2 : Nat) ≤ 4 by omega)) dL_law_1786 ?_
      refine lg_modeli hLI (va_runV (As := [.int (xs (Int32.toNatClampNeg (nI (5 * t) + 1))), .int (xs (Int32.toNatClampNeg (nI (5 * t) + 2)))]) (rest := []) ⟨hx, hb, hml, hown, hts⟩ (mX7_perform l D mad kI kZ M (xs (Int32.toNatClampNeg (nI (5 * t) + 1))) (xs (Int32.toNatClampNeg (nI (5 * t) + 2))) bb M1 hm) (cwV 2 hts gL_law_X7_perform rfl rfl rfl (by decide +kernel) ⟨Nat.le_of_ble_eq_true rfl, Nat.le_of_ble_eq_true rfl⟩) (mg_preV hLI.2.2.1 hmK hLI.2.2.2.1) rfl rfl hl.1 rfl (lv_room (Nat.le_of_ble_eq_true rfl)) dL_law_1787 ⟨(Nat.le_trans (show 100 + 20 * t + 4 + 0 ≤ 600000 by omega) rm_c), (Nat.le_trans (show 2000 + 120 * t + 24 + 0 ≤ 7000000 by omega) rm_s)⟩) hS (fun H locs hLI hz2 hS => ?_)
      refine lv_istore (lv' := [(6, .int bb), (5, .int 3), (0, .ref b), (1, .ref (ad1 0 0)), (2, .ref (mad 0)), (3, .ref q), (4, .int (nI (5 * t)))]) hx hb dL_law_1790 hl (by decide) rfl (fun ls hl => ?_)
      refine lv_aload_n hx hb dL_law_1792 rfl (lv_at hl 4 rfl) ?_
      refine lg_modeli hLI (va_runV (As := []) (rest := []) ⟨hx, hb, hml, hown, hts⟩ (mX7_thrown l D mad kI kZ M1 (M1 0 0) rfl) (cwV 0 hts gL_law_X7_thrown rfl rfl rfl (by decide +kernel) ⟨Nat.le_of_ble_eq_true rfl, Nat.le_of_ble_eq_true rfl⟩) (mg_preV hLI.2.2.1 hmK hLI.2.2.2.1) rfl rfl hl.1 rfl (lv_room (Nat.le_of_ble_eq_true rfl)) dL_law_1793 ⟨(Nat.le_trans (show 100 + 20 * t + 4 + 0 ≤ 600000 by omega) rm_c), (Nat.le_trans (show 2000 + 120 * t + 24 + 0 ≤ 7000000 by omega) rm_s)⟩) hS (fun H locs hLI hz3 hS => ?_)
      refine lv_iload hx hb dL_law_1796 (lv_at hl 1 rfl) ?_
      refine lv_icmp_eq (tgt := 1803) hx hb dL_law_1798 (by decide) (fun _ => ?_) (fun hc => absurd h0 hc)
      refine lv_iload hx hb dL_law_1803 (lv_at hl 1 rfl) ?_
      refine lv_if_ne (tgt := 1820) hx hb dL_law_1805 (by decide) (fun _ => ?_) (fun hc => absurd hc (by decide))
      refine lv_goto (tgt := 2028) hx hb dL_law_1820 (by decide) ?_
      refine W.widen (k := 100 + 20 * (t + 1)) (n := 2000 + 120 * (t + 1)) (by omega) (by omega) ?_
      exact kk H locs ls ad1 Z1 M1 f1 h00 hLI hR1 hS (lv_sub hl [2, 3, 4, 5, 6] rfl)
    | j + 3, hj => cases hj
set_option maxHeartbeats 4000000 in
set_option maxRecDepth 100000 in
theorem law_mark (hx : p.tables.exec = Jvm.exec) (hb : c.code = cL_law) (hml : c.maxLocals = 7) (hown : s.vm.findClass RL = some m.cls) (hts : ∀ w ∈ wsL_law, w.before #[Value.ref b] s = true) (hX : va_X b L xs s s.heap) (hbl : b < s.heap.size) (hfl : l.stackTraces = false) (hK : cK D G s) (hmK : mK D kI kZ s) (hKJ : va_K D vwCl [(cJ, .long)] s) (hE : cE A0 s s.heap) (hF : cF G A0 s s.heap) (hNc : lNc s) (hbA : ¬ A0 b) (hA0 : ∀ r, s.heap.size ≤ r → A0 r) {R R1 : CZ → MT → Prop} (hst : st_mark R R1) {t : Nat} (hL : L ≤ 2560) (ht : 5 * t + 5 ≤ L) (hLI : lI D G ad Z mad kI kZ M cJ q f A0 H) (hR : R Z M) (hS : va_S A0 s.heap H locs) (hl : lv_has ls 7 [(0, .ref b), (1, .ref (ad 0 0)), (2, .ref (mad 0)), (3, .ref q), (4, .int (nI (5 * t)))])
    (kk : ∀ (H1 : Heap) (locs1 : List Loc) (ls1 : Array Slot) (ad1 : Nat → Nat → Nat) (Z1 : CZ) (M1 : MT) (f1 : Nat → Int64), ad1 0 0 = ad 0 0 → lI D G ad1 Z1 mad kI kZ M1 cJ q f1 A0 H1 → R1 Z1 M1 → va_S A0 s.heap H1 locs1 → lv_has ls1 7 [(0, .ref b), (1, .ref (ad1 0 0)), (2, .ref (mad 0)), (3, .ref q), (4, .int (nI (5 * t)))] → W p l e room_1 s m #[Value.ref b] below meth c H1 locs1 (100 + 20 * (t + 1)) (2000 + 120 * (t + 1)) Q (F0 m 2028 ls1 [])) : W p l e room_1 s m #[Value.ref b] below meth c H locs (100 + 20 * t) (2000 + 120 * t) Q (F0 m 1823 ls []) := by
  have ht5 : t < 512 := by omega
  refine lv_aload_n hx hb dL_law_1823 rfl (lv_at hl 1 rfl) ?_
  refine lv_aload_n hx hb dL_law_1824 rfl (lv_at hl 0 rfl) ?_
  refine lv_iload hx hb dL_law_1825 (lv_at hl 4 rfl) ?_
  refine lv_iconst (v := 1) hx hb dL_law_1827 (by decide) ?_
  refine lv_iadd hx hb dL_law_1828 ?_
  refine va_sld hx hb hX hbl hbA hS (law_in hL ht (show (1 : Nat) ≤ 4 by omega)) dL_law_1829 ?_
  refine lv_aload_n hx hb dL_law_1830 rfl (lv_at hl 0 rfl) ?_
  refine lv_iload hx hb dL_law_1831 (lv_at hl 4 rfl) ?_
  refine lv_iconst (v := 2) hx hb dL_law_1833 (by decide) ?_
  refine lv_iadd hx hb dL_law_1834 ?_
  refine va_sld hx hb hX hbl hbA hS (law_in hL ht (show (2 : Nat) ≤ 4 by omega)) dL_law_1835 ?_
  refine lv_aload_n hx hb dL_law_1836 rfl (lv_at hl 0 rfl) ?_
  refine lv_iload hx hb dL_law_1837 (lv_at hl 4 rfl) ?_
  refine lv_iconst (v := 3) hx hb dL_law_1839 (by decide) ?_
  refine lv_iadd hx hb dL_law_1840 ?_
  refine va_sld hx hb hX hbl hbA hS (law_in hL ht (show (3 : Nat) ≤ 4 by omega)) dL_law_1841 ?_
  refine lv_aload_n hx hb dL_law_1842 rfl (lv_at hl 3 rfl) ?_
  obtain ⟨bb, M1, Z1, hm, hR1, hw⟩ := hst Z M hR (xs (Int32.toNatClampNeg (nI (5 * t) + 1))) (xs (Int32.toNatClampNeg (nI (5 * t) + 2))) (xs (Int32.toNatClampNeg (nI (5 * t) + 3)))
  rcases hw with ⟨hc, h0⟩ | ⟨j, cd, hc, hj, h0⟩
  · refine lg_class hLI (fun r h => hA0 r (Nat.le_trans hS.1 h)) (vx_runSX (As := [.ref (ad 0 0), .int (xs (Int32.toNatClampNeg (nI (5 * t) + 1))), .int (xs (Int32.toNatClampNeg (nI (5 * t) + 2))), .int (xs (Int32.toNatClampNeg (nI (5 * t) + 3))), .ref q]) (rest := []) ⟨hx, hb, hml, hown, hts⟩ (mL_mark l hfl D G (lA ad Z H) ad Z cJ q f (xs (Int32.toNatClampNeg (nI (5 * t) + 1))) (xs (Int32.toNatClampNeg (nI (5 * t) + 2))) (xs (Int32.toNatClampNeg (nI (5 * t) + 3))) bb Z1 hc) (vx_cwSW 5 hts gL_law_L_mark rfl rfl rfl (by decide +kernel) ⟨Nat.le_of_ble_eq_true rfl, Nat.le_of_ble_eq_true rfl⟩) (lg_preS hLI (fun r h => hA0 r (Nat.le_trans hS.1 h)) hK hKJ hE hF hNc hS) rfl rfl hl.1 rfl (lv_room (Nat.le_of_ble_eq_true rfl)) dL_law_1843 ⟨(Nat.le_trans (show 100 + 20 * t + 4 ≤ 600000 by omega) rm_c), (Nat.le_trans (show 2000 + 120 * t + 24 ≤ 7000000 by omega) rm_s)⟩) hS (fun H locs ad1 f1 hP h00 hLI hz hS => ?_)
    rw [← h00] at hl
    refine lv_istore (lv' := [(5, .int 0), (0, .ref b), (1, .ref (ad1 0 0)), (2, .ref (mad 0)), (3, .ref q), (4, .int (nI (5 * t)))]) hx hb dL_law_1846 hl (by decide) rfl (fun ls hl => ?_)
    refine lv_aload_n hx hb dL_law_1848 rfl (lv_at hl 3 rfl) ?_
    refine lv_aload_n hx hb dL_law_1849 rfl (lv_at hl 1 rfl) ?_
    refine lv_iload hx hb dL_law_1850 (lv_at hl 5 rfl) ?_
    refine lv_iconst (v := 1) hx hb dL_law_1852 (by decide) ?_
    refine lv_iadd hx hb dL_law_1853 ?_
    refine va_sld hx hb hX hbl hbA hS (law_in hL ht (show (1 : Nat) ≤ 4 by omega)) dL_law_1854 ?_
    refine lv_aload_n hx hb dL_law_1855 rfl (lv_at hl 1 rfl) ?_
    refine lv_iload hx hb dL_law_1856 (lv_at hl 5 rfl) ?_
    refine lv_iconst (v := 2) hx hb dL_law_1858 (by decide) ?_
    refine lv_iadd hx hb dL_law_1859 ?_
    refine va_sld hx hb hX hbl hbA hS (law_in hL ht (show (2 : Nat) ≤ 4 by omega)) dL_law_1860 ?_
    refine lv_aload_n hx hb dL_law_1861 rfl (lv_at hl 1 rfl) ?_
    refine lv_iload hx hb dL_law_1862 (lv_at hl 5 rfl) ?_
    refine lv_iconst (v := 3) hx hb dL_law_1864 (by decide) ?_
    refine lv_iadd hx hb dL_law_1865 ?_
    refine va_sld hx hb hX hbl hbA hS (law_in hL ht (show (3 : Nat) ≤ 4 by omega)) dL_law_1866 ?_
    refine lg_modeli hLI (va_runV (As := [.int (xs (Int32.toNatClampNeg (nI (5 * t) + 1))), .int (xs (Int32.toNatClampNeg (nI (5 * t) + 2))), .int (xs (Int32.toNatClampNeg (nI (5 * t) + 3)))]) (rest := []) ⟨hx, hb, hml, hown, hts⟩ (mX7_mark l D mad kI kZ M (xs (Int32.toNatClampNeg (nI (5 * t) + 1))) (xs (Int32.toNatClampNeg (nI (5 * t) + 2))) (xs (Int32.toNatClampNeg (nI (5 * t) + 3))) bb M1 hm) (cwV 3 hts gL_law_X7_mark rfl rfl rfl (by decide +kernel) ⟨Nat.le_of_ble_eq_true rfl, Nat.le_of_ble_eq_true rfl⟩) (mg_preV hLI.2.2.1 hmK hLI.2.2.2.1) rfl rfl hl.1 rfl (lv_room (Nat.le_of_ble_eq_true rfl)) dL_law_1867 ⟨(Nat.le_trans (show 100 + 20 * t + 4 + 0 ≤ 600000 by omega) rm_c), (Nat.le_trans (show 2000 + 120 * t + 24 + 0 ≤ 7000000 by omega) rm_s)⟩) hS (fun H locs hLI hz2 hS => ?_)
    refine lv_istore (lv' := [(6, .int bb), (5, .int 0), (0, .ref b), (1, .ref (ad1 0 0)), (2, .ref (mad 0)), (3, .ref q), (4, .int (nI (5 * t)))]) hx hb dL_law_1870 hl (by decide) rfl (fun ls hl => ?_)
    refine lv_aload_n hx hb dL_law_1872 rfl (lv_at hl 4 rfl) ?_
    refine lg_modeli hLI (va_runV (As := []) (rest := []) ⟨hx, hb, hml, hown, hts⟩ (mX7_thrown l D mad kI kZ M1 (M1 0 0) rfl) (cwV 0 hts gL_law_X7_thrown rfl rfl rfl (by decide +kernel) ⟨Nat.le_of_ble_eq_true rfl, Nat.le_of_ble_eq_true rfl⟩) (mg_preV hLI.2.2.1 hmK hLI.2.2.2.1) rfl rfl hl.1 rfl (lv_room (Nat.le_of_ble_eq_true rfl)) dL_law_1873 ⟨(Nat.le_trans (show 100 + 20 * t + 4 + 0 ≤ 600000 by omega) rm_c), (Nat.le_trans (show 2000 + 120 * t + 24 + 0 ≤ 7000000 by omega) rm_s)⟩) hS (fun H locs hLI hz3 hS => ?_)
    refine lv_iload hx hb dL_law_1876 (lv_at hl 1 rfl) ?_
    refine lv_icmp_eq (tgt := 1883) hx hb dL_law_1878 (by decide) (fun _ => ?_) (fun hc => absurd h0 hc)
    refine lv_iload hx hb dL_law_1883 (lv_at hl 1 rfl) ?_
    refine lv_if_ne (tgt := 1900) hx hb dL_law_1885 (by decide) (fun hc => absurd rfl hc) (fun _ => ?_)
    refine lv_aload_n hx hb dL_law_1888 rfl (lv_at hl 5 rfl) ?_
    refine lv_iconst (v := 0) hx hb dL_law_1889 (by decide) ?_
    refine va_lald hx hb hKJ (iw_P1 hLI.2.2.2.2.1) 0 0 rfl rfl (show ¬ ((0 : Int32) < 0 ∨ 1 ≤ (0 : Int32).toNatClampNeg) from by decide) dL_law_1890 ?_
    rw [show f1 (0 : Int32).toNatClampNeg = bb.toInt64 from hP]
    refine lv_iload hx hb dL_law_1891 (lv_at hl 0 rfl) ?_
    refine lv_i2l hx hb (v := bb.toInt64) dL_law_1893 rfl ?_
    refine lg_lcmp hx hb dL_law_1894 ?_
    refine lv_if_eq (tgt := 1900) hx hb dL_law_1895 (by decide) (fun _ => ?_) (fun hc => absurd rfl hc)
    refine lv_goto (tgt := 2028) hx hb dL_law_1900 (by decide) ?_
    refine W.widen (k := 100 + 20 * (t + 1)) (n := 2000 + 120 * (t + 1)) (by omega) (by omega) ?_
    exact kk H locs ls ad1 Z1 M1 f1 h00 hLI hR1 hS (lv_sub hl [2, 3, 4, 5, 6] rfl)
  · match j, hj with
    | 0, hj =>
      cases hj
      refine lg_class hLI (fun r h => hA0 r (Nat.le_trans hS.1 h)) (vx_runSX (As := [.ref (ad 0 0), .int (xs (Int32.toNatClampNeg (nI (5 * t) + 1))), .int (xs (Int32.toNatClampNeg (nI (5 * t) + 2))), .int (xs (Int32.toNatClampNeg (nI (5 * t) + 3))), .ref q]) (rest := []) ⟨hx, hb, hml, hown, hts⟩ (mL_mark_x1 l hfl D G (lA ad Z H) ad Z cJ q f (xs (Int32.toNatClampNeg (nI (5 * t) + 1))) (xs (Int32.toNatClampNeg (nI (5 * t) + 2))) (xs (Int32.toNatClampNeg (nI (5 * t) + 3))) Z1 hc) (vx_cwSW 5 hts gL_law_L_mark rfl rfl rfl (by decide +kernel) ⟨Nat.le_of_ble_eq_true rfl, Nat.le_of_ble_eq_true rfl⟩) (lg_preS hLI (fun r h => hA0 r (Nat.le_trans hS.1 h)) hK hKJ hE hF hNc hS) rfl rfl hl.1 rfl (lv_room (Nat.le_of_ble_eq_true rfl)) dL_law_1843 ⟨(Nat.le_trans (show 100 + 20 * t + 4 ≤ 600000 by omega) rm_c), (Nat.le_trans (show 2000 + 120 * t + 24 ≤ 7000000 by omega) rm_s)⟩) hS (fun H locs ad1 f1 hP h00 hLI hz hS => ?_)
      rw [← h00] at hl
      refine lv_istore (lv' := [(5, .int 1), (0, .ref b), (1, .ref (ad1 0 0)), (2, .ref (mad 0)), (3, .ref q), (4, .int (nI (5 * t)))]) hx hb dL_law_1846 hl (by decide) rfl (fun ls hl => ?_)
      refine lv_aload_n hx hb dL_law_1848 rfl (lv_at hl 3 rfl) ?_
      refine lv_aload_n hx hb dL_law_1849 rfl (lv_at hl 1 rfl) ?_
      refine lv_iload hx hb dL_law_1850 (lv_at hl 5 rfl) ?_
      refine lv_iconst (v := 1) hx hb dL_law_1852 (by decide) ?_
      refine lv_iadd hx hb dL_law_1853 ?_
      refine va_sld hx hb hX hbl hbA hS (law_in hL ht (show (1 : Nat) ≤ 4 by omega)) dL_law_1854 ?_
      refine lv_aload_n hx hb dL_law_1855 rfl (lv_at hl 1 rfl) ?_
      refine lv_iload hx hb dL_law_1856 (lv_at hl 5 rfl) ?_
      refine lv_iconst (v := 2) hx hb dL_law_1858 (by decide) ?_
      refine lv_iadd hx hb dL_law_1859 ?_
      refine va_sld hx hb hX hbl hbA hS (law_in hL ht (show (2 : Nat) ≤ 4 by omega)) dL_law_1860 ?_
      refine lv_aload_n hx hb dL_law_1861 rfl (lv_at hl 1 rfl) ?_
      refine lv_iload hx hb dL_law_1862 (lv_at hl 5 rfl) ?_
      refine lv_iconst (v := 3) hx hb dL_law_1864 (by decide) ?_
      refine lv_iadd hx hb dL_law_1865 ?_
      refine va_sld hx hb hX hbl hbA hS (law_in hL ht (show (3 : Nat) ≤ 4 by omega)) dL_law_1866 ?_
      refine lg_modeli hLI (va_runV (As := [.int (xs (Int32.toNatClampNeg (nI (5 * t) + 1))), .int (xs (Int32.toNatClampNeg (nI (5 * t) + 2))), .int (xs (Int32.toNatClampNeg (nI (5 * t) + 3)))]) (rest := []) ⟨hx, hb, hml, hown, hts⟩ (mX7_mark l D mad kI kZ M (xs (Int32.toNatClampNeg (nI (5 * t) + 1))) (xs (Int32.toNatClampNeg (nI (5 * t) + 2))) (xs (Int32.toNatClampNeg (nI (5 * t) + 3))) bb M1 hm) (cwV 3 hts gL_law_X7_mark rfl rfl rfl (by decide +kernel) ⟨Nat.le_of_ble_eq_true rfl, Nat.le_of_ble_eq_true rfl⟩) (mg_preV hLI.2.2.1 hmK hLI.2.2.2.1) rfl rfl hl.1 rfl (lv_room (Nat.le_of_ble_eq_true rfl)) dL_law_1867 ⟨(Nat.le_trans (show 100 + 20 * t + 4 + 0 ≤ 600000 by omega) rm_c), (Nat.le_trans (show 2000 + 120 * t + 24 + 0 ≤ 7000000 by omega) rm_s)⟩) hS (fun H locs hLI hz2 hS => ?_)
      refine lv_istore (lv' := [(6, .int bb), (5, .int 1), (0, .ref b), (1, .ref (ad1 0 0)), (2, .ref (mad 0)), (3, .ref q), (4, .int (nI (5 * t)))]) hx hb dL_law_1870 hl (by decide) rfl (fun ls hl => ?_)
      refine lv_aload_n hx hb dL_law_1872 rfl (lv_at hl 4 rfl) ?_
      refine lg_modeli hLI (va_runV (As := []) (rest := []) ⟨hx, hb, hml, hown, hts⟩ (mX7_thrown l D mad kI kZ M1 (M1 0 0) rfl) (cwV 0 hts gL_law_X7_thrown rfl rfl rfl (by decide +kernel) ⟨Nat.le_of_ble_eq_true rfl, Nat.le_of_ble_eq_true rfl⟩) (mg_preV hLI.2.2.1 hmK hLI.2.2.2.1) rfl rfl hl.1 rfl (lv_room (Nat.le_of_ble_eq_true rfl)) dL_law_1873 ⟨(Nat.le_trans (show 100 + 20 * t + 4 + 0 ≤ 600000 by omega) rm_c), (Nat.le_trans (show 2000 + 120 * t + 24 + 0 ≤ 7000000 by omega) rm_s)⟩) hS (fun H locs hLI hz3 hS => ?_)
      refine lv_iload hx hb dL_law_1876 (lv_at hl 1 rfl) ?_
      refine lv_icmp_eq (tgt := 1883) hx hb dL_law_1878 (by decide) (fun _ => ?_) (fun hc => absurd h0 hc)
      refine lv_iload hx hb dL_law_1883 (lv_at hl 1 rfl) ?_
      refine lv_if_ne (tgt := 1900) hx hb dL_law_1885 (by decide) (fun _ => ?_) (fun hc => absurd hc (by decide))
      refine lv_goto (tgt := 2028) hx hb dL_law_1900 (by decide) ?_
      refine W.widen (k := 100 + 20 * (t + 1)) (n := 2000 + 120 * (t + 1)) (by omega) (by omega) ?_
      exact kk H locs ls ad1 Z1 M1 f1 h00 hLI hR1 hS (lv_sub hl [2, 3, 4, 5, 6] rfl)
    | 1, hj =>
      cases hj
      refine lg_class hLI (fun r h => hA0 r (Nat.le_trans hS.1 h)) (vx_runSX (As := [.ref (ad 0 0), .int (xs (Int32.toNatClampNeg (nI (5 * t) + 1))), .int (xs (Int32.toNatClampNeg (nI (5 * t) + 2))), .int (xs (Int32.toNatClampNeg (nI (5 * t) + 3))), .ref q]) (rest := []) ⟨hx, hb, hml, hown, hts⟩ (mL_mark_x2 l hfl D G (lA ad Z H) ad Z cJ q f (xs (Int32.toNatClampNeg (nI (5 * t) + 1))) (xs (Int32.toNatClampNeg (nI (5 * t) + 2))) (xs (Int32.toNatClampNeg (nI (5 * t) + 3))) Z1 hc) (vx_cwSW 5 hts gL_law_L_mark rfl rfl rfl (by decide +kernel) ⟨Nat.le_of_ble_eq_true rfl, Nat.le_of_ble_eq_true rfl⟩) (lg_preS hLI (fun r h => hA0 r (Nat.le_trans hS.1 h)) hK hKJ hE hF hNc hS) rfl rfl hl.1 rfl (lv_room (Nat.le_of_ble_eq_true rfl)) dL_law_1843 ⟨(Nat.le_trans (show 100 + 20 * t + 4 ≤ 600000 by omega) rm_c), (Nat.le_trans (show 2000 + 120 * t + 24 ≤ 7000000 by omega) rm_s)⟩) hS (fun H locs ad1 f1 hP h00 hLI hz hS => ?_)
      rw [← h00] at hl
      refine lv_istore (lv' := [(5, .int 2), (0, .ref b), (1, .ref (ad1 0 0)), (2, .ref (mad 0)), (3, .ref q), (4, .int (nI (5 * t)))]) hx hb dL_law_1846 hl (by decide) rfl (fun ls hl => ?_)
      refine lv_aload_n hx hb dL_law_1848 rfl (lv_at hl 3 rfl) ?_
      refine lv_aload_n hx hb dL_law_1849 rfl (lv_at hl 1 rfl) ?_
      refine lv_iload hx hb dL_law_1850 (lv_at hl 5 rfl) ?_
      refine lv_iconst (v := 1) hx hb dL_law_1852 (by decide) ?_
      refine lv_iadd hx hb dL_law_1853 ?_
      refine va_sld hx hb hX hbl hbA hS (law_in hL ht (show (1 : Nat) ≤ 4 by omega)) dL_law_1854 ?_
      refine lv_aload_n hx hb dL_law_1855 rfl (lv_at hl 1 rfl) ?_
      refine lv_iload hx hb dL_law_1856 (lv_at hl 5 rfl) ?_
      refine lv_iconst (v := 2) hx hb dL_law_1858 (by decide) ?_
      refine lv_iadd hx hb dL_law_1859 ?_
      refine va_sld hx hb hX hbl hbA hS (law_in hL ht (show (2 : Nat) ≤ 4 by omega)) dL_law_1860 ?_
      refine lv_aload_n hx hb dL_law_1861 rfl (lv_at hl 1 rfl) ?_
      refine lv_iload hx hb dL_law_1862 (lv_at hl 5 rfl) ?_
      refine lv_iconst (v := 3) hx hb dL_law_1864 (by decide) ?_
      refine lv_iadd hx hb dL_law_1865 ?_
      refine va_sld hx hb hX hbl hbA hS (law_in hL ht (show (3 : Nat) ≤ 4 by omega)) dL_law_1866 ?_
      refine lg_modeli hLI (va_runV (As := [.int (xs (Int32.toNatClampNeg (nI (5 * t) + 1))), .int (xs (Int32.toNatClampNeg (nI (5 * t) + 2))), .int (xs (Int32.toNatClampNeg (nI (5 * t) + 3)))]) (rest := []) ⟨hx, hb, hml, hown, hts⟩ (mX7_mark l D mad kI kZ M (xs (Int32.toNatClampNeg (nI (5 * t) + 1))) (xs (Int32.toNatClampNeg (nI (5 * t) + 2))) (xs (Int32.toNatClampNeg (nI (5 * t) + 3))) bb M1 hm) (cwV 3 hts gL_law_X7_mark rfl rfl rfl (by decide +kernel) ⟨Nat.le_of_ble_eq_true rfl, Nat.le_of_ble_eq_true rfl⟩) (mg_preV hLI.2.2.1 hmK hLI.2.2.2.1) rfl rfl hl.1 rfl (lv_room (Nat.le_of_ble_eq_true rfl)) dL_law_1867 ⟨(Nat.le_trans (show 100 + 20 * t + 4 + 0 ≤ 600000 by omega) rm_c), (Nat.le_trans (show 2000 + 120 * t + 24 + 0 ≤ 7000000 by omega) rm_s)⟩) hS (fun H locs hLI hz2 hS => ?_)
      refine lv_istore (lv' := [(6, .int bb), (5, .int 2), (0, .ref b), (1, .ref (ad1 0 0)), (2, .ref (mad 0)), (3, .ref q), (4, .int (nI (5 * t)))]) hx hb dL_law_1870 hl (by decide) rfl (fun ls hl => ?_)
      refine lv_aload_n hx hb dL_law_1872 rfl (lv_at hl 4 rfl) ?_
      refine lg_modeli hLI (va_runV (As := []) (rest := []) ⟨hx, hb, hml, hown, hts⟩ (mX7_thrown l D mad kI kZ M1 (M1 0 0) rfl) (cwV 0 hts gL_law_X7_thrown rfl rfl rfl (by decide +kernel) ⟨Nat.le_of_ble_eq_true rfl, Nat.le_of_ble_eq_true rfl⟩) (mg_preV hLI.2.2.1 hmK hLI.2.2.2.1) rfl rfl hl.1 rfl (lv_room (Nat.le_of_ble_eq_true rfl)) dL_law_1873 ⟨(Nat.le_trans (show 100 + 20 * t + 4 + 0 ≤ 600000 by omega) rm_c), (Nat.le_trans (show 2000 + 120 * t + 24 + 0 ≤ 7000000 by omega) rm_s)⟩) hS (fun H locs hLI hz3 hS => ?_)
      refine lv_iload hx hb dL_law_1876 (lv_at hl 1 rfl) ?_
      refine lv_icmp_eq (tgt := 1883) hx hb dL_law_1878 (by decide) (fun _ => ?_) (fun hc => absurd h0 hc)
      refine lv_iload hx hb dL_law_1883 (lv_at hl 1 rfl) ?_
      refine lv_if_ne (tgt := 1900) hx hb dL_law_1885 (by decide) (fun _ => ?_) (fun hc => absurd hc (by decide))
      refine lv_goto (tgt := 2028) hx hb dL_law_1900 (by decide) ?_
      refine W.widen (k := 100 + 20 * (t + 1)) (n := 2000 + 120 * (t + 1)) (by omega) (by omega) ?_
      exact kk H locs ls ad1 Z1 M1 f1 h00 hLI hR1 hS (lv_sub hl [2, 3, 4, 5, 6] rfl)
    | 2, hj =>
      cases hj
      refine lg_class hLI (fun r h => hA0 r (Nat.le_trans hS.1 h)) (vx_runSX (As := [.ref (ad 0 0), .int (xs (Int32.toNatClampNeg (nI (5 * t) + 1))), .int (xs (Int32.toNatClampNeg (nI (5 * t) + 2))), .int (xs (Int32.toNatClampNeg (nI (5 * t) + 3))), .ref q]) (rest := []) ⟨hx, hb, hml, hown, hts⟩ (mL_mark_x3 l hfl D G (lA ad Z H) ad Z cJ q f (xs (Int32.toNatClampNeg (nI (5 * t) + 1))) (xs (Int32.toNatClampNeg (nI (5 * t) + 2))) (xs (Int32.toNatClampNeg (nI (5 * t) + 3))) Z1 hc) (vx_cwSW 5 hts gL_law_L_mark rfl rfl rfl (by decide +kernel) ⟨Nat.le_of_ble_eq_true rfl, Nat.le_of_ble_eq_true rfl⟩) (lg_preS hLI (fun r h => hA0 r (Nat.le_trans hS.1 h)) hK hKJ hE hF hNc hS) rfl rfl hl.1 rfl (lv_room (Nat.le_of_ble_eq_true rfl)) dL_law_1843 ⟨(Nat.le_trans (show 100 + 20 * t + 4 ≤ 600000 by omega) rm_c), (Nat.le_trans (show 2000 + 120 * t + 24 ≤ 7000000 by omega) rm_s)⟩) hS (fun H locs ad1 f1 hP h00 hLI hz hS => ?_)
      rw [← h00] at hl
      refine lv_istore (lv' := [(5, .int 3), (0, .ref b), (1, .ref (ad1 0 0)), (2, .ref (mad 0)), (3, .ref q), (4, .int (nI (5 * t)))]) hx hb dL_law_1846 hl (by decide) rfl (fun ls hl => ?_)
      refine lv_aload_n hx hb dL_law_1848 rfl (lv_at hl 3 rfl) ?_
      refine lv_aload_n hx hb dL_law_1849 rfl (lv_at hl 1 rfl) ?_
      refine lv_iload hx hb dL_law_1850 (lv_at hl 5 rfl) ?_
      refine lv_iconst (v := 1) hx hb dL_law_1852 (by decide) ?_
      refine lv_iadd hx hb dL_law_1853 ?_
      refine va_sld hx hb hX hbl hbA hS (law_in hL ht (show (1 : Nat) ≤ 4 by omega)) dL_law_1854 ?_
      refine lv_aload_n hx hb dL_law_1855 rfl (lv_at hl 1 rfl) ?_
      refine lv_iload hx hb dL_law_1856 (lv_at hl 5 rfl) ?_
      refine lv_iconst (v := 2) hx hb dL_law_1858 (by decide) ?_
      refine lv_iadd hx hb dL_law_1859 ?_
      refine va_sld hx hb hX hbl hbA hS (law_in hL ht (show (2 : Nat) ≤ 4 by omega)) dL_law_1860 ?_
      refine lv_aload_n hx hb dL_law_1861 rfl (lv_at hl 1 rfl) ?_
      refine lv_iload hx hb dL_law_1862 (lv_at hl 5 rfl) ?_
      refine lv_iconst (v := 3) hx hb dL_law_1864 (by decide) ?_
      refine lv_iadd hx hb dL_law_1865 ?_
      refine va_sld hx hb hX hbl hbA hS (law_in hL ht (show (3 : Nat) ≤ 4 by omega)) dL_law_1866 ?_
      refine lg_modeli hLI (va_runV (As := [.int (xs (Int32.toNatClampNeg (nI (5 * t) + 1))), .int (xs (Int32.toNatClampNeg (nI (5 * t) + 2))), .int (xs (Int32.toNatClampNeg (nI (5 * t) + 3)))]) (rest := []) ⟨hx, hb, hml, hown, hts⟩ (mX7_mark l D mad kI kZ M (xs (Int32.toNatClampNeg (nI (5 * t) + 1))) (xs (Int32.toNatClampNeg (nI (5 * t) + 2))) (xs (Int32.toNatClampNeg (nI (5 * t) + 3))) bb M1 hm) (cwV 3 hts gL_law_X7_mark rfl rfl rfl (by decide +kernel) ⟨Nat.le_of_ble_eq_true rfl, Nat.le_of_ble_eq_true rfl⟩) (mg_preV hLI.2.2.1 hmK hLI.2.2.2.1) rfl rfl hl.1 rfl (lv_room (Nat.le_of_ble_eq_true rfl)) dL_law_1867 ⟨(Nat.le_trans (show 100 + 20 * t + 4 + 0 ≤ 600000 by omega) rm_c), (Nat.le_trans (show 2000 + 120 * t + 24 + 0 ≤ 7000000 by omega) rm_s)⟩) hS (fun H locs hLI hz2 hS => ?_)
      refine lv_istore (lv' := [(6, .int bb), (5, .int 3), (0, .ref b), (1, .ref (ad1 0 0)), (2, .ref (mad 0)), (3, .ref q), (4, .int (nI (5 * t)))]) hx hb dL_law_1870 hl (by decide) rfl (fun ls hl => ?_)
      refine lv_aload_n hx hb dL_law_1872 rfl (lv_at hl 4 rfl) ?_
      refine lg_modeli hLI (va_runV (As := []) (rest := []) ⟨hx, hb, hml, hown, hts⟩ (mX7_thrown l D mad kI kZ M1 (M1 0 0) rfl) (cwV 0 hts gL_law_X7_thrown rfl rfl rfl (by decide +kernel) ⟨Nat.le_of_ble_eq_true rfl, Nat.le_of_ble_eq_true rfl⟩) (mg_preV hLI.2.2.1 hmK hLI.2.2.2.1) rfl rfl hl.1 rfl (lv_room (Nat.le_of_ble_eq_true rfl)) dL_law_1873 ⟨(Nat.le_trans (show 100 + 20 * t + 4 + 0 ≤ 600000 by omega) rm_c), (Nat.le_trans (show 2000 + 120 * t + 24 + 0 ≤ 7000000 by omega) rm_s)⟩) hS (fun H locs hLI hz3 hS => ?_)
      refine lv_iload hx hb dL_law_1876 (lv_at hl 1 rfl) ?_
      refine lv_icmp_eq (tgt := 1883) hx hb dL_law_1878 (by decide) (fun _ => ?_) (fun hc => absurd h0 hc)
      refine lv_iload hx hb dL_law_1883 (lv_at hl 1 rfl) ?_
      refine lv_if_ne (tgt := 1900) hx hb dL_law_1885 (by decide) (fun _ => ?_) (fun hc => absurd hc (by decide))
      refine lv_goto (tgt := 2028) hx hb dL_law_1900 (by decide) ?_
      refine W.widen (k := 100 + 20 * (t + 1)) (n := 2000 + 120 * (t + 1)) (by omega) (by omega) ?_
      exact kk H locs ls ad1 Z1 M1 f1 h00 hLI hR1 hS (lv_sub hl [2, 3, 4, 5, 6] rfl)
    | j + 3, hj => cases hj
set_option maxHeartbeats 4000000 in
set_option maxRecDepth 100000 in
theorem law_score (hx : p.tables.exec = Jvm.exec) (hb : c.code = cL_law) (hml : c.maxLocals = 7) (hown : s.vm.findClass RL = some m.cls) (hts : ∀ w ∈ wsL_law, w.before #[Value.ref b] s = true) (hX : va_X b L xs s s.heap) (hbl : b < s.heap.size) (hfl : l.stackTraces = false) (hK : cK D G s) (hmK : mK D kI kZ s) (hKJ : va_K D vwCl [(cJ, .long)] s) (hE : cE A0 s s.heap) (hF : cF G A0 s s.heap) (hNc : lNc s) (hbA : ¬ A0 b) (hA0 : ∀ r, s.heap.size ≤ r → A0 r) {R R1 : CZ → MT → Prop} (hst : st_score R R1) {t : Nat} (hL : L ≤ 2560) (ht : 5 * t + 5 ≤ L) (hLI : lI D G ad Z mad kI kZ M cJ q f A0 H) (hR : R Z M) (hS : va_S A0 s.heap H locs) (hl : lv_has ls 7 [(0, .ref b), (1, .ref (ad 0 0)), (2, .ref (mad 0)), (3, .ref q), (4, .int (nI (5 * t)))])
    (kk : ∀ (H1 : Heap) (locs1 : List Loc) (ls1 : Array Slot) (ad1 : Nat → Nat → Nat) (Z1 : CZ) (M1 : MT) (f1 : Nat → Int64), ad1 0 0 = ad 0 0 → lI D G ad1 Z1 mad kI kZ M1 cJ q f1 A0 H1 → R1 Z1 M1 → va_S A0 s.heap H1 locs1 → lv_has ls1 7 [(0, .ref b), (1, .ref (ad1 0 0)), (2, .ref (mad 0)), (3, .ref q), (4, .int (nI (5 * t)))] → W p l e room_1 s m #[Value.ref b] below meth c H1 locs1 (100 + 20 * (t + 1)) (2000 + 120 * (t + 1)) Q (F0 m 2028 ls1 [])) : W p l e room_1 s m #[Value.ref b] below meth c H locs (100 + 20 * t) (2000 + 120 * t) Q (F0 m 1903 ls []) := by
  have ht5 : t < 512 := by omega
  refine lv_aload_n hx hb dL_law_1903 rfl (lv_at hl 1 rfl) ?_
  refine lv_aload_n hx hb dL_law_1904 rfl (lv_at hl 0 rfl) ?_
  refine lv_iload hx hb dL_law_1905 (lv_at hl 4 rfl) ?_
  refine lv_iconst (v := 1) hx hb dL_law_1907 (by decide) ?_
  refine lv_iadd hx hb dL_law_1908 ?_
  refine va_sld hx hb hX hbl hbA hS (law_in hL ht (show (1 : Nat) ≤ 4 by omega)) dL_law_1909 ?_
  refine lv_aload_n hx hb dL_law_1910 rfl (lv_at hl 3 rfl) ?_
  obtain ⟨bb, M1, hm, hR1, hw⟩ := hst Z M hR (xs (Int32.toNatClampNeg (nI (5 * t) + 1)))
  rcases hw with ⟨hc, h0⟩ | ⟨j, cd, hc, hj, h0⟩
  · refine lg_class hLI (fun r h => hA0 r (Nat.le_trans hS.1 h)) (vx_runSX (As := [.ref (ad 0 0), .int (xs (Int32.toNatClampNeg (nI (5 * t) + 1))), .ref q]) (rest := []) ⟨hx, hb, hml, hown, hts⟩ (mL_score l hfl D G (lA ad Z H) ad Z cJ q f (xs (Int32.toNatClampNeg (nI (5 * t) + 1))) bb  hc) (vx_cwSW 3 hts gL_law_L_score rfl rfl rfl (by decide +kernel) ⟨Nat.le_of_ble_eq_true rfl, Nat.le_of_ble_eq_true rfl⟩) (lg_preS hLI (fun r h => hA0 r (Nat.le_trans hS.1 h)) hK hKJ hE hF hNc hS) rfl rfl hl.1 rfl (lv_room (Nat.le_of_ble_eq_true rfl)) dL_law_1911 ⟨(Nat.le_trans (show 100 + 20 * t + 2 ≤ 600000 by omega) rm_c), (Nat.le_trans (show 2000 + 120 * t + 12 ≤ 7000000 by omega) rm_s)⟩) hS (fun H locs ad1 f1 hP h00 hLI hz hS => ?_)
    rw [← h00] at hl
    refine lv_istore (lv' := [(5, .int 0), (0, .ref b), (1, .ref (ad1 0 0)), (2, .ref (mad 0)), (3, .ref q), (4, .int (nI (5 * t)))]) hx hb dL_law_1914 hl (by decide) rfl (fun ls hl => ?_)
    refine lv_aload_n hx hb dL_law_1916 rfl (lv_at hl 3 rfl) ?_
    refine lv_aload_n hx hb dL_law_1917 rfl (lv_at hl 1 rfl) ?_
    refine lv_iload hx hb dL_law_1918 (lv_at hl 5 rfl) ?_
    refine lv_iconst (v := 1) hx hb dL_law_1920 (by decide) ?_
    refine lv_iadd hx hb dL_law_1921 ?_
    refine va_sld hx hb hX hbl hbA hS (law_in hL ht (show (1 : Nat) ≤ 4 by omega)) dL_law_1922 ?_
    refine lg_modeli hLI (va_runV (As := [.int (xs (Int32.toNatClampNeg (nI (5 * t) + 1)))]) (rest := []) ⟨hx, hb, hml, hown, hts⟩ (mX7_score l D mad kI kZ M (xs (Int32.toNatClampNeg (nI (5 * t) + 1))) bb M1 hm) (cwV 1 hts gL_law_X7_score rfl rfl rfl (by decide +kernel) ⟨Nat.le_of_ble_eq_true rfl, Nat.le_of_ble_eq_true rfl⟩) (mg_preV hLI.2.2.1 hmK hLI.2.2.2.1) rfl rfl hl.1 rfl (lv_room (Nat.le_of_ble_eq_true rfl)) dL_law_1923 ⟨(Nat.le_trans (show 100 + 20 * t + 2 + 0 ≤ 600000 by omega) rm_c), (Nat.le_trans (show 2000 + 120 * t + 12 + 0 ≤ 7000000 by omega) rm_s)⟩) hS (fun H locs hLI hz2 hS => ?_)
    refine lv_istore (lv' := [(6, .int bb), (5, .int 0), (0, .ref b), (1, .ref (ad1 0 0)), (2, .ref (mad 0)), (3, .ref q), (4, .int (nI (5 * t)))]) hx hb dL_law_1926 hl (by decide) rfl (fun ls hl => ?_)
    refine lv_aload_n hx hb dL_law_1928 rfl (lv_at hl 4 rfl) ?_
    refine lg_modeli hLI (va_runV (As := []) (rest := []) ⟨hx, hb, hml, hown, hts⟩ (mX7_thrown l D mad kI kZ M1 (M1 0 0) rfl) (cwV 0 hts gL_law_X7_thrown rfl rfl rfl (by decide +kernel) ⟨Nat.le_of_ble_eq_true rfl, Nat.le_of_ble_eq_true rfl⟩) (mg_preV hLI.2.2.1 hmK hLI.2.2.2.1) rfl rfl hl.1 rfl (lv_room (Nat.le_of_ble_eq_true rfl)) dL_law_1929 ⟨(Nat.le_trans (show 100 + 20 * t + 2 + 0 ≤ 600000 by omega) rm_c), (Nat.le_trans (show 2000 + 120 * t + 12 + 0 ≤ 7000000 by omega) rm_s)⟩) hS (fun H locs hLI hz3 hS => ?_)
    refine lv_iload hx hb dL_law_1932 (lv_at hl 1 rfl) ?_
    refine lv_icmp_eq (tgt := 1939) hx hb dL_law_1934 (by decide) (fun _ => ?_) (fun hc => absurd h0 hc)
    refine lv_iload hx hb dL_law_1939 (lv_at hl 1 rfl) ?_
    refine lv_if_ne (tgt := 1956) hx hb dL_law_1941 (by decide) (fun hc => absurd rfl hc) (fun _ => ?_)
    refine lv_aload_n hx hb dL_law_1944 rfl (lv_at hl 5 rfl) ?_
    refine lv_iconst (v := 0) hx hb dL_law_1945 (by decide) ?_
    refine va_lald hx hb hKJ (iw_P1 hLI.2.2.2.2.1) 0 0 rfl rfl (show ¬ ((0 : Int32) < 0 ∨ 1 ≤ (0 : Int32).toNatClampNeg) from by decide) dL_law_1946 ?_
    rw [show f1 (0 : Int32).toNatClampNeg = bb.toInt64 from hP]
    refine lv_iload hx hb dL_law_1947 (lv_at hl 0 rfl) ?_
    refine lv_i2l hx hb (v := bb.toInt64) dL_law_1949 rfl ?_
    refine lg_lcmp hx hb dL_law_1950 ?_
    refine lv_if_eq (tgt := 1956) hx hb dL_law_1951 (by decide) (fun _ => ?_) (fun hc => absurd rfl hc)
    refine lv_goto (tgt := 2028) hx hb dL_law_1956 (by decide) ?_
    refine W.widen (k := 100 + 20 * (t + 1)) (n := 2000 + 120 * (t + 1)) (by omega) (by omega) ?_
    exact kk H locs ls ad1 Z M1 f1 h00 hLI hR1 hS (lv_sub hl [2, 3, 4, 5, 6] rfl)
  · match j, hj with
    | 0, hj =>
      cases hj
      refine lg_class hLI (fun r h => hA0 r (Nat.le_trans hS.1 h)) (vx_runSX (As := [.ref (ad 0 0), .int (xs (Int32.toNatClampNeg (nI (5 * t) + 1))), .ref q]) (rest := []) ⟨hx, hb, hml, hown, hts⟩ (mL_score_x1 l hfl D G (lA ad Z H) ad Z cJ q f (xs (Int32.toNatClampNeg (nI (5 * t) + 1)))  hc) (vx_cwSW 3 hts gL_law_L_score rfl rfl rfl (by decide +kernel) ⟨Nat.le_of_ble_eq_true rfl, Nat.le_of_ble_eq_true rfl⟩) (lg_preS hLI (fun r h => hA0 r (Nat.le_trans hS.1 h)) hK hKJ hE hF hNc hS) rfl rfl hl.1 rfl (lv_room (Nat.le_of_ble_eq_true rfl)) dL_law_1911 ⟨(Nat.le_trans (show 100 + 20 * t + 2 ≤ 600000 by omega) rm_c), (Nat.le_trans (show 2000 + 120 * t + 12 ≤ 7000000 by omega) rm_s)⟩) hS (fun H locs ad1 f1 hP h00 hLI hz hS => ?_)
      rw [← h00] at hl
      refine lv_istore (lv' := [(5, .int 1), (0, .ref b), (1, .ref (ad1 0 0)), (2, .ref (mad 0)), (3, .ref q), (4, .int (nI (5 * t)))]) hx hb dL_law_1914 hl (by decide) rfl (fun ls hl => ?_)
      refine lv_aload_n hx hb dL_law_1916 rfl (lv_at hl 3 rfl) ?_
      refine lv_aload_n hx hb dL_law_1917 rfl (lv_at hl 1 rfl) ?_
      refine lv_iload hx hb dL_law_1918 (lv_at hl 5 rfl) ?_
      refine lv_iconst (v := 1) hx hb dL_law_1920 (by decide) ?_
      refine lv_iadd hx hb dL_law_1921 ?_
      refine va_sld hx hb hX hbl hbA hS (law_in hL ht (show (1 : Nat) ≤ 4 by omega)) dL_law_1922 ?_
      refine lg_modeli hLI (va_runV (As := [.int (xs (Int32.toNatClampNeg (nI (5 * t) + 1)))]) (rest := []) ⟨hx, hb, hml, hown, hts⟩ (mX7_score l D mad kI kZ M (xs (Int32.toNatClampNeg (nI (5 * t) + 1))) bb M1 hm) (cwV 1 hts gL_law_X7_score rfl rfl rfl (by decide +kernel) ⟨Nat.le_of_ble_eq_true rfl, Nat.le_of_ble_eq_true rfl⟩) (mg_preV hLI.2.2.1 hmK hLI.2.2.2.1) rfl rfl hl.1 rfl (lv_room (Nat.le_of_ble_eq_true rfl)) dL_law_1923 ⟨(Nat.le_trans (show 100 + 20 * t + 2 + 0 ≤ 600000 by omega) rm_c), (Nat.le_trans (show 2000 + 120 * t + 12 + 0 ≤ 7000000 by omega) rm_s)⟩) hS (fun H locs hLI hz2 hS => ?_)
      refine lv_istore (lv' := [(6, .int bb), (5, .int 1), (0, .ref b), (1, .ref (ad1 0 0)), (2, .ref (mad 0)), (3, .ref q), (4, .int (nI (5 * t)))]) hx hb dL_law_1926 hl (by decide) rfl (fun ls hl => ?_)
      refine lv_aload_n hx hb dL_law_1928 rfl (lv_at hl 4 rfl) ?_
      refine lg_modeli hLI (va_runV (As := []) (rest := []) ⟨hx, hb, hml, hown, hts⟩ (mX7_thrown l D mad kI kZ M1 (M1 0 0) rfl) (cwV 0 hts gL_law_X7_thrown rfl rfl rfl (by decide +kernel) ⟨Nat.le_of_ble_eq_true rfl, Nat.le_of_ble_eq_true rfl⟩) (mg_preV hLI.2.2.1 hmK hLI.2.2.2.1) rfl rfl hl.1 rfl (lv_room (Nat.le_of_ble_eq_true rfl)) dL_law_1929 ⟨(Nat.le_trans (show 100 + 20 * t + 2 + 0 ≤ 600000 by omega) rm_c), (Nat.le_trans (show 2000 + 120 * t + 12 + 0 ≤ 7000000 by omega) rm_s)⟩) hS (fun H locs hLI hz3 hS => ?_)
      refine lv_iload hx hb dL_law_1932 (lv_at hl 1 rfl) ?_
      refine lv_icmp_eq (tgt := 1939) hx hb dL_law_1934 (by decide) (fun _ => ?_) (fun hc => absurd h0 hc)
      refine lv_iload hx hb dL_law_1939 (lv_at hl 1 rfl) ?_
      refine lv_if_ne (tgt := 1956) hx hb dL_law_1941 (by decide) (fun _ => ?_) (fun hc => absurd hc (by decide))
      refine lv_goto (tgt := 2028) hx hb dL_law_1956 (by decide) ?_
      refine W.widen (k := 100 + 20 * (t + 1)) (n := 2000 + 120 * (t + 1)) (by omega) (by omega) ?_
      exact kk H locs ls ad1 Z M1 f1 h00 hLI hR1 hS (lv_sub hl [2, 3, 4, 5, 6] rfl)
    | 1, hj =>
      cases hj
      refine lg_class hLI (fun r h => hA0 r (Nat.le_trans hS.1 h)) (vx_runSX (As := [.ref (ad 0 0), .int (xs (Int32.toNatClampNeg (nI (5 * t) + 1))), .ref q]) (rest := []) ⟨hx, hb, hml, hown, hts⟩ (mL_score_x2 l hfl D G (lA ad Z H) ad Z cJ q f (xs (Int32.toNatClampNeg (nI (5 * t) + 1)))  hc) (vx_cwSW 3 hts gL_law_L_score rfl rfl rfl (by decide +kernel) ⟨Nat.le_of_ble_eq_true rfl, Nat.le_of_ble_eq_true rfl⟩) (lg_preS hLI (fun r h => hA0 r (Nat.le_trans hS.1 h)) hK hKJ hE hF hNc hS) rfl rfl hl.1 rfl (lv_room (Nat.le_of_ble_eq_true rfl)) dL_law_1911 ⟨(Nat.le_trans (show 100 + 20 * t + 2 ≤ 600000 by omega) rm_c), (Nat.le_trans (show 2000 + 120 * t + 12 ≤ 7000000 by omega) rm_s)⟩) hS (fun H locs ad1 f1 hP h00 hLI hz hS => ?_)
      rw [← h00] at hl
      refine lv_istore (lv' := [(5, .int 2), (0, .ref b), (1, .ref (ad1 0 0)), (2, .ref (mad 0)), (3, .ref q), (4, .int (nI (5 * t)))]) hx hb dL_law_1914 hl (by decide) rfl (fun ls hl => ?_)
      refine lv_aload_n hx hb dL_law_1916 rfl (lv_at hl 3 rfl) ?_
      refine lv_aload_n hx hb dL_law_1917 rfl (lv_at hl 1 rfl) ?_
      refine lv_iload hx hb dL_law_1918 (lv_at hl 5 rfl) ?_
      refine lv_iconst (v := 1) hx hb dL_law_1920 (by decide) ?_
      refine lv_iadd hx hb dL_law_1921 ?_
      refine va_sld hx hb hX hbl hbA hS (law_in hL ht (show (1 : Nat) ≤ 4 by omega)) dL_law_1922 ?_
      refine lg_modeli hLI (va_runV (As := [.int (xs (Int32.toNatClampNeg (nI (5 * t) + 1)))]) (rest := []) ⟨hx, hb, hml, hown, hts⟩ (mX7_score l D mad kI kZ M (xs (Int32.toNatClampNeg (nI (5 * t) + 1))) bb M1 hm) (cwV 1 hts gL_law_X7_score rfl rfl rfl (by decide +kernel) ⟨Nat.le_of_ble_eq_true rfl, Nat.le_of_ble_eq_true rfl⟩) (mg_preV hLI.2.2.1 hmK hLI.2.2.2.1) rfl rfl hl.1 rfl (lv_room (Nat.le_of_ble_eq_true rfl)) dL_law_1923 ⟨(Nat.le_trans (show 100 + 20 * t + 2 + 0 ≤ 600000 by omega) rm_c), (Nat.le_trans (show 2000 + 120 * t + 12 + 0 ≤ 7000000 by omega) rm_s)⟩) hS (fun H locs hLI hz2 hS => ?_)
      refine lv_istore (lv' := [(6, .int bb), (5, .int 2), (0, .ref b), (1, .ref (ad1 0 0)), (2, .ref (mad 0)), (3, .ref q), (4, .int (nI (5 * t)))]) hx hb dL_law_1926 hl (by decide) rfl (fun ls hl => ?_)
      refine lv_aload_n hx hb dL_law_1928 rfl (lv_at hl 4 rfl) ?_
      refine lg_modeli hLI (va_runV (As := []) (rest := []) ⟨hx, hb, hml, hown, hts⟩ (mX7_thrown l D mad kI kZ M1 (M1 0 0) rfl) (cwV 0 hts gL_law_X7_thrown rfl rfl rfl (by decide +kernel) ⟨Nat.le_of_ble_eq_true rfl, Nat.le_of_ble_eq_true rfl⟩) (mg_preV hLI.2.2.1 hmK hLI.2.2.2.1) rfl rfl hl.1 rfl (lv_room (Nat.le_of_ble_eq_true rfl)) dL_law_1929 ⟨(Nat.le_trans (show 100 + 20 * t + 2 + 0 ≤ 600000 by omega) rm_c), (Nat.le_trans (show 2000 + 120 * t + 12 + 0 ≤ 7000000 by omega) rm_s)⟩) hS (fun H locs hLI hz3 hS => ?_)
      refine lv_iload hx hb dL_law_1932 (lv_at hl 1 rfl) ?_
      refine lv_icmp_eq (tgt := 1939) hx hb dL_law_1934 (by decide) (fun _ => ?_) (fun hc => absurd h0 hc)
      refine lv_iload hx hb dL_law_1939 (lv_at hl 1 rfl) ?_
      refine lv_if_ne (tgt := 1956) hx hb dL_law_1941 (by decide) (fun _ => ?_) (fun hc => absurd hc (by decide))
      refine lv_goto (tgt := 2028) hx hb dL_law_1956 (by decide) ?_
      refine W.widen (k := 100 + 20 * (t + 1)) (n := 2000 + 120 * (t + 1)) (by omega) (by omega) ?_
      exact kk H locs ls ad1 Z M1 f1 h00 hLI hR1 hS (lv_sub hl [2, 3, 4, 5, 6] rfl)
    | j + 2, hj => cases hj
set_option maxHeartbeats 4000000 in
set_option maxRecDepth 100000 in
theorem law_rank (hx : p.tables.exec = Jvm.exec) (hb : c.code = cL_law) (hml : c.maxLocals = 7) (hown : s.vm.findClass RL = some m.cls) (hts : ∀ w ∈ wsL_law, w.before #[Value.ref b] s = true) (hX : va_X b L xs s s.heap) (hbl : b < s.heap.size) (hfl : l.stackTraces = false) (hK : cK D G s) (hmK : mK D kI kZ s) (hKJ : va_K D vwCl [(cJ, .long)] s) (hE : cE A0 s s.heap) (hF : cF G A0 s s.heap) (hNc : lNc s) (hbA : ¬ A0 b) (hA0 : ∀ r, s.heap.size ≤ r → A0 r) {R R1 : CZ → MT → Prop} (hst : st_rank R R1) {t : Nat} (hL : L ≤ 2560) (ht : 5 * t + 5 ≤ L) (hLI : lI D G ad Z mad kI kZ M cJ q f A0 H) (hR : R Z M) (hS : va_S A0 s.heap H locs) (hl : lv_has ls 7 [(0, .ref b), (1, .ref (ad 0 0)), (2, .ref (mad 0)), (3, .ref q), (4, .int (nI (5 * t)))])
    (kk : ∀ (H1 : Heap) (locs1 : List Loc) (ls1 : Array Slot) (ad1 : Nat → Nat → Nat) (Z1 : CZ) (M1 : MT) (f1 : Nat → Int64), ad1 0 0 = ad 0 0 → lI D G ad1 Z1 mad kI kZ M1 cJ q f1 A0 H1 → R1 Z1 M1 → va_S A0 s.heap H1 locs1 → lv_has ls1 7 [(0, .ref b), (1, .ref (ad1 0 0)), (2, .ref (mad 0)), (3, .ref q), (4, .int (nI (5 * t)))] → W p l e room_1 s m #[Value.ref b] below meth c H1 locs1 (100 + 20 * (t + 1)) (2000 + 120 * (t + 1)) Q (F0 m 2028 ls1 [])) : W p l e room_1 s m #[Value.ref b] below meth c H locs (100 + 20 * t) (2000 + 120 * t) Q (F0 m 1959 ls []) := by
  have ht5 : t < 512 := by omega
  refine lv_aload_n hx hb dL_law_1959 rfl (lv_at hl 1 rfl) ?_
  refine lv_aload_n hx hb dL_law_1960 rfl (lv_at hl 0 rfl) ?_
  refine lv_iload hx hb dL_law_1961 (lv_at hl 4 rfl) ?_
  refine lv_iconst (v := 1) hx hb dL_law_1963 (by decide) ?_
  refine lv_iadd hx hb dL_law_1964 ?_
  refine va_sld hx hb hX hbl hbA hS (law_in hL ht (show (1 : Nat) ≤ 4 by omega)) dL_law_1965 ?_
  refine lv_aload_n hx hb dL_law_1966 rfl (lv_at hl 3 rfl) ?_
  obtain ⟨bb, M1, hm, hR1, hw⟩ := hst Z M hR (xs (Int32.toNatClampNeg (nI (5 * t) + 1)))
  rcases hw with ⟨hc, h0⟩ | ⟨j, cd, hc, hj, h0⟩
  · refine lg_class hLI (fun r h => hA0 r (Nat.le_trans hS.1 h)) (vx_runSX (As := [.ref (ad 0 0), .int (xs (Int32.toNatClampNeg (nI (5 * t) + 1))), .ref q]) (rest := []) ⟨hx, hb, hml, hown, hts⟩ (mL_rank l hfl D G (lA ad Z H) ad Z cJ q f (xs (Int32.toNatClampNeg (nI (5 * t) + 1))) bb  hc) (vx_cwSW 3 hts gL_law_L_rank rfl rfl rfl (by decide +kernel) ⟨Nat.le_of_ble_eq_true rfl, Nat.le_of_ble_eq_true rfl⟩) (lg_preS hLI (fun r h => hA0 r (Nat.le_trans hS.1 h)) hK hKJ hE hF hNc hS) rfl rfl hl.1 rfl (lv_room (Nat.le_of_ble_eq_true rfl)) dL_law_1967 ⟨(Nat.le_trans (show 100 + 20 * t + 1 ≤ 600000 by omega) rm_c), (Nat.le_trans (show 2000 + 120 * t + 6 ≤ 7000000 by omega) rm_s)⟩) hS (fun H locs ad1 f1 hP h00 hLI hz hS => ?_)
    rw [← h00] at hl
    refine lv_istore (lv' := [(5, .int 0), (0, .ref b), (1, .ref (ad1 0 0)), (2, .ref (mad 0)), (3, .ref q), (4, .int (nI (5 * t)))]) hx hb dL_law_1970 hl (by decide) rfl (fun ls hl => ?_)
    refine lv_aload_n hx hb dL_law_1972 rfl (lv_at hl 3 rfl) ?_
    refine lv_aload_n hx hb dL_law_1973 rfl (lv_at hl 1 rfl) ?_
    refine lv_iload hx hb dL_law_1974 (lv_at hl 5 rfl) ?_
    refine lv_iconst (v := 1) hx hb dL_law_1976 (by decide) ?_
    refine lv_iadd hx hb dL_law_1977 ?_
    refine va_sld hx hb hX hbl hbA hS (law_in hL ht (show (1 : Nat) ≤ 4 by omega)) dL_law_1978 ?_
    refine lg_modeli hLI (va_runV (As := [.int (xs (Int32.toNatClampNeg (nI (5 * t) + 1)))]) (rest := []) ⟨hx, hb, hml, hown, hts⟩ (mX7_rank l D mad kI kZ M (xs (Int32.toNatClampNeg (nI (5 * t) + 1))) bb M1 hm) (cwV 1 hts gL_law_X7_rank rfl rfl rfl (by decide +kernel) ⟨Nat.le_of_ble_eq_true rfl, Nat.le_of_ble_eq_true rfl⟩) (mg_preV hLI.2.2.1 hmK hLI.2.2.2.1) rfl rfl hl.1 rfl (lv_room (Nat.le_of_ble_eq_true rfl)) dL_law_1979 ⟨(Nat.le_trans (show 100 + 20 * t + 1 + 0 ≤ 600000 by omega) rm_c), (Nat.le_trans (show 2000 + 120 * t + 6 + 0 ≤ 7000000 by omega) rm_s)⟩) hS (fun H locs hLI hz2 hS => ?_)
    refine lv_istore (lv' := [(6, .int bb), (5, .int 0), (0, .ref b), (1, .ref (ad1 0 0)), (2, .ref (mad 0)), (3, .ref q), (4, .int (nI (5 * t)))]) hx hb dL_law_1982 hl (by decide) rfl (fun ls hl => ?_)
    refine lv_aload_n hx hb dL_law_1984 rfl (lv_at hl 4 rfl) ?_
    refine lg_modeli hLI (va_runV (As := []) (rest := []) ⟨hx, hb, hml, hown, hts⟩ (mX7_thrown l D mad kI kZ M1 (M1 0 0) rfl) (cwV 0 hts gL_law_X7_thrown rfl rfl rfl (by decide +kernel) ⟨Nat.le_of_ble_eq_true rfl, Nat.le_of_ble_eq_true rfl⟩) (mg_preV hLI.2.2.1 hmK hLI.2.2.2.1) rfl rfl hl.1 rfl (lv_room (Nat.le_of_ble_eq_true rfl)) dL_law_1985 ⟨(Nat.le_trans (show 100 + 20 * t + 1 + 0 ≤ 600000 by omega) rm_c), (Nat.le_trans (show 2000 + 120 * t + 6 + 0 ≤ 7000000 by omega) rm_s)⟩) hS (fun H locs hLI hz3 hS => ?_)
    refine lv_iload hx hb dL_law_1988 (lv_at hl 1 rfl) ?_
    refine lv_icmp_eq (tgt := 1995) hx hb dL_law_1990 (by decide) (fun _ => ?_) (fun hc => absurd h0 hc)
    refine lv_iload hx hb dL_law_1995 (lv_at hl 1 rfl) ?_
    refine lv_if_ne (tgt := 2012) hx hb dL_law_1997 (by decide) (fun hc => absurd rfl hc) (fun _ => ?_)
    refine lv_aload_n hx hb dL_law_2000 rfl (lv_at hl 5 rfl) ?_
    refine lv_iconst (v := 0) hx hb dL_law_2001 (by decide) ?_
    refine va_lald hx hb hKJ (iw_P1 hLI.2.2.2.2.1) 0 0 rfl rfl (show ¬ ((0 : Int32) < 0 ∨ 1 ≤ (0 : Int32).toNatClampNeg) from by decide) dL_law_2002 ?_
    rw [show f1 (0 : Int32).toNatClampNeg = bb.toInt64 from hP]
    refine lv_iload hx hb dL_law_2003 (lv_at hl 0 rfl) ?_
    refine lv_i2l hx hb (v := bb.toInt64) dL_law_2005 rfl ?_
    refine lg_lcmp hx hb dL_law_2006 ?_
    refine lv_if_eq (tgt := 2012) hx hb dL_law_2007 (by decide) (fun _ => ?_) (fun hc => absurd rfl hc)
    refine lv_goto (tgt := 2028) hx hb dL_law_2012 (by decide) ?_
    refine W.widen (k := 100 + 20 * (t + 1)) (n := 2000 + 120 * (t + 1)) (by omega) (by omega) ?_
    exact kk H locs ls ad1 Z M1 f1 h00 hLI hR1 hS (lv_sub hl [2, 3, 4, 5, 6] rfl)
  · match j, hj with
    | 0, hj =>
      cases hj
      refine lg_class hLI (fun r h => hA0 r (Nat.le_trans hS.1 h)) (vx_runSX (As := [.ref (ad 0 0), .int (xs (Int32.toNatClampNeg (nI (5 * t) + 1))), .ref q]) (rest := []) ⟨hx, hb, hml, hown, hts⟩ (mL_rank_x1 l hfl D G (lA ad Z H) ad Z cJ q f (xs (Int32.toNatClampNeg (nI (5 * t) + 1)))  hc) (vx_cwSW 3 hts gL_law_L_rank rfl rfl rfl (by decide +kernel) ⟨Nat.le_of_ble_eq_true rfl, Nat.le_of_ble_eq_true rfl⟩) (lg_preS hLI (fun r h => hA0 r (Nat.le_trans hS.1 h)) hK hKJ hE hF hNc hS) rfl rfl hl.1 rfl (lv_room (Nat.le_of_ble_eq_true rfl)) dL_law_1967 ⟨(Nat.le_trans (show 100 + 20 * t + 1 ≤ 600000 by omega) rm_c), (Nat.le_trans (show 2000 + 120 * t + 6 ≤ 7000000 by omega) rm_s)⟩) hS (fun H locs ad1 f1 hP h00 hLI hz hS => ?_)
      rw [← h00] at hl
      refine lv_istore (lv' := [(5, .int 1), (0, .ref b), (1, .ref (ad1 0 0)), (2, .ref (mad 0)), (3, .ref q), (4, .int (nI (5 * t)))]) hx hb dL_law_1970 hl (by decide) rfl (fun ls hl => ?_)
      refine lv_aload_n hx hb dL_law_1972 rfl (lv_at hl 3 rfl) ?_
      refine lv_aload_n hx hb dL_law_1973 rfl (lv_at hl 1 rfl) ?_
      refine lv_iload hx hb dL_law_1974 (lv_at hl 5 rfl) ?_
      refine lv_iconst (v := 1) hx hb dL_law_1976 (by decide) ?_
      refine lv_iadd hx hb dL_law_1977 ?_
      refine va_sld hx hb hX hbl hbA hS (law_in hL ht (show (1 : Nat) ≤ 4 by omega)) dL_law_1978 ?_
      refine lg_modeli hLI (va_runV (As := [.int (xs (Int32.toNatClampNeg (nI (5 * t) + 1)))]) (rest := []) ⟨hx, hb, hml, hown, hts⟩ (mX7_rank l D mad kI kZ M (xs (Int32.toNatClampNeg (nI (5 * t) + 1))) bb M1 hm) (cwV 1 hts gL_law_X7_rank rfl rfl rfl (by decide +kernel) ⟨Nat.le_of_ble_eq_true rfl, Nat.le_of_ble_eq_true rfl⟩) (mg_preV hLI.2.2.1 hmK hLI.2.2.2.1) rfl rfl hl.1 rfl (lv_room (Nat.le_of_ble_eq_true rfl)) dL_law_1979 ⟨(Nat.le_trans (show 100 + 20 * t + 1 + 0 ≤ 600000 by omega) rm_c), (Nat.le_trans (show 2000 + 120 * t + 6 + 0 ≤ 7000000 by omega) rm_s)⟩) hS (fun H locs hLI hz2 hS => ?_)
      refine lv_istore (lv' := [(6, .int bb), (5, .int 1), (0, .ref b), (1, .ref (ad1 0 0)), (2, .ref (mad 0)), (3, .ref q), (4, .int (nI (5 * t)))]) hx hb dL_law_1982 hl (by decide) rfl (fun ls hl => ?_)
      refine lv_aload_n hx hb dL_law_1984 rfl (lv_at hl 4 rfl) ?_
      refine lg_modeli hLI (va_runV (As := []) (rest := []) ⟨hx, hb, hml, hown, hts⟩ (mX7_thrown l D mad kI kZ M1 (M1 0 0) rfl) (cwV 0 hts gL_law_X7_thrown rfl rfl rfl (by decide +kernel) ⟨Nat.le_of_ble_eq_true rfl, Nat.le_of_ble_eq_true rfl⟩) (mg_preV hLI.2.2.1 hmK hLI.2.2.2.1) rfl rfl hl.1 rfl (lv_room (Nat.le_of_ble_eq_true rfl)) dL_law_1985 ⟨(Nat.le_trans (show 100 + 20 * t + 1 + 0 ≤ 600000 by omega) rm_c), (Nat.le_trans (show 2000 + 120 * t + 6 + 0 ≤ 7000000 by omega) rm_s)⟩) hS (fun H locs hLI hz3 hS => ?_)
      refine lv_iload hx hb dL_law_1988 (lv_at hl 1 rfl) ?_
      refine lv_icmp_eq (tgt := 1995) hx hb dL_law_1990 (by decide) (fun _ => ?_) (fun hc => absurd h0 hc)
      refine lv_iload hx hb dL_law_1995 (lv_at hl 1 rfl) ?_
      refine lv_if_ne (tgt := 2012) hx hb dL_law_1997 (by decide) (fun _ => ?_) (fun hc => absurd hc (by decide))
      refine lv_goto (tgt := 2028) hx hb dL_law_2012 (by decide) ?_
      refine W.widen (k := 100 + 20 * (t + 1)) (n := 2000 + 120 * (t + 1)) (by omega) (by omega) ?_
      exact kk H locs ls ad1 Z M1 f1 h00 hLI hR1 hS (lv_sub hl [2, 3, 4, 5, 6] rfl)
    | j + 1, hj => cases hj
end LAWC
