section WPS
variable {D : va_G} {cl : List vw_C} {A : Nat → Prop} {H H1 : Heap} {ws1 ws2 ws wc w1 : va_W}
theorem wp_inL {i : Nat} {p : Nat × va_E} (h : ws1[i]? = some p) : (ws1 ++ ws2)[i]? = some p := by
  rw [List.getElem?_append_left (List.getElem?_eq_some_iff.mp h).1]
  exact h
theorem wp_inR {i : Nat} {p : Nat × va_E} (h : ws2[i]? = some p) : (ws1 ++ ws2)[ws1.length + i]? = some p := by
  rw [List.getElem?_append_right (Nat.le_add_right _ _), Nat.add_sub_cancel_left]
  exact h
theorem wp_PL (h : va_P D cl (ws1 ++ ws2) H) : va_P D cl ws1 H := fun k q hk => h k q (wp_inL hk)
theorem wp_PR (h : va_P D cl (ws1 ++ ws2) H) : va_P D cl ws2 H := fun k q hk => h (ws1.length + k) q (wp_inR hk)
theorem wp_DL (h : va_D A (ws1 ++ ws2)) : va_D A ws1 := ⟨fun i j p q hi hj e => h.1 i j p q (wp_inL hi) (wp_inL hj) e, fun k q hk => h.2 k q (wp_inL hk)⟩
theorem wp_DR (h : va_D A (ws1 ++ ws2)) : va_D A ws2 := ⟨fun i j p q hi hj e => by
  have := h.1 _ _ p q (wp_inR hi) (wp_inR hj) e
  omega, fun k q hk => h.2 _ q (wp_inR hk)⟩
theorem wp_DX (h : va_D A (ws1 ++ ws2)) {i j : Nat} {p q : Nat × va_E} (hi : ws1[i]? = some p) (hj : ws2[j]? = some q) : p.1 ≠ q.1 := fun e => by
  have h1 := h.1 _ _ p q (wp_inL hi) (wp_inR hj) e
  have h2 := (List.getElem?_eq_some_iff.mp hi).1
  omega
theorem wp_nd : ∀ l : List Nat, l.Nodup → va_nd l = true
  | [], _ => rfl
  | a :: l, h => by
    obtain ⟨h1, h2⟩ := List.nodup_cons.mp h
    show (decide (a ∉ l) && va_nd l) = true
    rw [wp_nd l h2, decide_eq_true h1]
    rfl
theorem wp_join (hP : va_P D cl (ws ++ wc) H) (hD : va_D A (ws ++ wc)) (hk : ∀ q : Nat, q < H.size → ¬ va_A wc H.size q → H1[q]? = H[q]?) (hF : ∀ q, va_A wc H.size q → A q) (hP1 : va_P D cl w1 H1) (hD1 : va_D (va_A wc H.size) w1) : va_P D cl (ws ++ w1) H1 ∧ va_D A (ws ++ w1) := by
  refine va_join (wc := wc) hP hD ((List.range wc.length).map (fun i => ws.length + i)) (List.range ws.length) ?_ ?_ (wp_nd _ List.nodup_range) ?_ hk hF hP1 hD1
  · apply List.ext_getElem?
    intro i
    simp only [List.getElem?_map]
    by_cases h : i < wc.length
    · rw [List.getElem?_range h]
      simp only [Option.map_some]
      rw [List.getElem?_append_right (Nat.le_add_right _ _), Nat.add_sub_cancel_left, List.getElem?_eq_getElem h]
      rfl
    · rw [List.getElem?_eq_none (by simpa using h), List.getElem?_eq_none (by simpa using h)]
      rfl
  · apply List.ext_getElem?
    intro i
    simp only [List.getElem?_map]
    by_cases h : i < ws.length
    · rw [List.getElem?_range h]
      simp only [Option.map_some]
      rw [List.getElem?_append_left h, List.getElem?_eq_getElem h]
      rfl
    · rw [List.getElem?_eq_none (by simpa using h), List.getElem?_eq_none (by simpa using h)]
      rfl
  · intro i hi hc
    obtain ⟨j, -, hj⟩ := List.mem_map.mp hc
    have := List.mem_range.mp hi
    omega
end WPS
set_option maxHeartbeats 8000000 in
set_option maxRecDepth 100000 in
/-- from the entry, for every script of at most 260 ints, the law comes to its end with true -/
theorem whole_start {p : Program} {e : Env} {s : State} {m : MethodId} {below : List Frame} {meth : Method} {c : Code} (l : Launch) (hflags : l.flags = flags0) {b L : Nat} {xs : Nat → Int32} (hL : L ≤ 260) (C0 : lw_At p s m meth c b L xs) : W p l e room_1 s m #[Value.ref b] below meth c s.heap [] 0 0 (lw_Z below #[Value.ref b] s) (entryFrame m ([Value.ref b] : List Value).toArray 6) := by
  obtain ⟨hx, hb, hr, hml, hown, hts, hX, hbl, hlocks, hgv⟩ := id C0
  have hb : c.code = cL_law := hb
  have hown : s.vm.findClass RL = some m.cls := hown
  obtain ⟨D, kI, kZ, kO, kA, eA, gE, hK, hE, hF, hAOA, hCo, hnest⟩ := lw_env C0
  obtain ⟨hZ, hT, hMi, hAO, hDc⟩ := id hF
  have hfl : l.stackTraces = false := by
    show (!l.flags.contains Jvm.noTraceFlag) = false
    rw [hflags]
    decide
  have htl : ∀ w ∈ wsL_law, w.before #[Value.ref b] s = true := fun w h => hts w (wsL_law_in w h)
  have hA : ∀ q : Nat, s.heap.size ≤ q → (fun q : Nat => s.heap.size ≤ q) q := fun _ h => h
  have hbA : ¬ (fun q : Nat => s.heap.size ≤ q) b := Nat.not_le.mpr hbl
  have hS : va_S (fun q : Nat => s.heap.size ≤ q) s.heap s.heap [] := va_S.rf
  have hP : va_P D vwCl [] s.heap := fun k q h => by simp at h
  have hD : va_D (fun q : Nat => s.heap.size ≤ q) [] := ⟨fun i j p q h => by simp at h, fun k q h => by simp at h⟩
  have hl := lv_entry ([.ref b]) (n := 6) (Nat.le_of_ble_eq_true rfl)
  rw [lg_entry_eq]
  generalize (lg_sl ([.ref b]) ++ List.replicate (6 - (lg_sl ([.ref b])).length) Slot.unset).toArray = ls at hl ⊢
  have hl : lv_has ls 6 [(0, .ref b)] := hl
  refine va_new (D := D) (cl := vwCl) (ci := 7) (fs := [.null, .null, .null, .null, .null, .int 0, .int 0]) (C := RX6) (T := TX6) (N := 7) hx hb hts inX6 tyX6 tyX6_ok hown (hts (.classLink RL 11 RX6) (by decide +kernel)) (hts (.instantiable RX6 7) (by decide +kernel)) (hts (.initialized RX6) (by decide +kernel)) hK hP hD hS hA rfl (fun j hj => by rcases (show j = 0 ∨ j = 1 ∨ j = 2 ∨ j = 3 ∨ j = 4 ∨ j = 5 ∨ j = 6 by omega) with rfl | rfl | rfl | rfl | rfl | rfl | rfl <;> rfl) (Nat.le_of_ble_eq_true rfl) (Nat.le_of_ble_eq_true rfl) dL_law_0 (fun o H hP hD hS => ?_)
  have hP : va_P D vwCl [(o, .inr (7, [.null, .null, .null, .null, .null, .int 0, .int 0]))] H := hP
  have hD : va_D (fun q : Nat => s.heap.size ≤ q) [(o, .inr (7, [.null, .null, .null, .null, .null, .int 0, .int 0]))] := hD
  refine W.widen (k := 1) (n := 7) (by decide) (by decide) ?_
  refine lv_dup hx hb dL_law_3 rfl ?_
  have hAo : s.heap.size ≤ o := hD.2 0 _ rfl
  have hFo : ∀ q, (q = o ∨ H.size ≤ q) → s.heap.size ≤ q := fun q h => h.elim (fun z => by rw [z]; exact hAo) (fun z => Nat.le_trans hS.1 z)
  refine va_callv (va_runI (As := []) (rest := [.ref o]) ⟨hx, hb, hml, hown, htl⟩ (lm_Panyard l D kI kZ kO kA o H.size eA gE (fun _ => True) (fun _ _ _ _ => trivial)) (cwI 0 htl gL_law_X6_init rfl rfl rfl (hts (.initialized RX6) (by decide +kernel)) (hts (.methodLink RL 153 yX6_init) (by decide +kernel)) (hts (.instanceMethod yX6_init) (by decide +kernel)) rfl (by decide +kernel) ⟨Nat.le_of_ble_eq_true rfl, Nat.le_of_ble_eq_true rfl⟩) (⟨(fun a U g mk q => ⟨q.1, q.2.1, q.2.2.1, va_K.moved (u := U) (U := U.calling g mk a) (Vm.Alike.refl U.vm) q.2.2.2.1, q.2.2.2.2.1, ⟨va_Z.moved (u := U) (U := U.calling g mk a) (Vm.Alike.refl U.vm) q.2.2.2.2.2.1.1, va_T.moved (u := U) (U := U.calling g mk a) (Vm.Alike.refl U.vm) q.2.2.2.2.2.1.2.1, va_AO.moved (u := U) (U := U.calling g mk a) (Vm.Alike.refl U.vm) q.2.2.2.2.2.1.2.2.1, AOA_moved (u := U) (U := U.calling g mk a) q.2.2.2.2.2.1.2.2.2.1 (Vm.Alike.refl U.vm), castN (u := U) (U := U.calling g mk a) q.2.2.2.2.2.1.2.2.2.2.1 (Vm.Alike.refl U.vm), castN (u := U) (U := U.calling g mk a) q.2.2.2.2.2.1.2.2.2.2.2.1 (Vm.Alike.refl U.vm), va_tabs (u := U) (U := U.calling g mk a) rfl rfl q.2.2.2.2.2.1.2.2.2.2.2.2⟩, trivial⟩), fun U hU hW => ⟨rfl, by rw [hU], by rw [hU]; exact hP, va_K.moved hW.alike hK, iw_D1 trivial, ⟨by rw [hU]; exact (va_Z.moved hW.alike (hZ.kept (fun a h1 h2 => hS.2.1 a h1 h2))).narrow hFo, by rw [hU]; exact (va_T.moved hW.alike (hT.kept (fun a h1 h2 => hS.2.1 a h1 h2))).narrow hFo, va_AO.moved hW.alike hAO, AOA_moved hAOA hW.alike, castN (hCo "Panyard$Pan" (by decide)) hW.alike, castN (hCo "Panyard$Band" (by decide)) hW.alike, hnest.warmM hW⟩, trivial⟩⟩) rfl rfl hl.1 rfl (lv_room (Nat.le_of_ble_eq_true rfl)) dL_law_4 ⟨Nat.le_of_ble_eq_true rfl, Nat.le_of_ble_eq_true rfl⟩) hS (fun q _ h => hFo q h) hFo (fun u t H1 locs ht hvm hw hB hz hk hS => ?_)
  obtain ⟨l0, l1, Lo, Lq1, Lp0, Lp0t, Lp0b, Lp0s, Lp1, Lp1t, Lp1b, Lp1s, Lp2, Lp2t, Lp2b, Lp2s, Lq2, Lq2aaa, To, Tq1, Tq2, b0, b0l, b0s, b0m, b1, b1l, b1s, b1m, b2, b2l, b2s, b2m, b3, b3l, b3s, b3m, l2, l2aaaa, Tr⟩ := u
  have hP : va_P D vwCl (cWi kI kZ kO kA eA o l0 l1 Lo Lq1 Lp0 Lp0t Lp0b Lp0s Lp1 Lp1t Lp1b Lp1s Lp2 Lp2t Lp2b Lp2s Lq2 Lq2aaa To Tq1 Tq2 b0 b0l b0s b0m b1 b1l b1s b1m b2 b2l b2s b2m b3 b3l b3s b3m l2 l2aaaa Tr) H1 := by rw [← ht]; exact hB.1
  have hD : va_D (fun q : Nat => s.heap.size ≤ q) (cWi kI kZ kO kA eA o l0 l1 Lo Lq1 Lp0 Lp0t Lp0b Lp0s Lp1 Lp1t Lp1b Lp1s Lp2 Lp2t Lp2b Lp2s Lq2 Lq2aaa To Tq1 Tq2 b0 b0l b0s b0m b1 b1l b1s b1m b2 b2l b2s b2m b3 b3l b3s b3m l2 l2aaaa Tr) := hB.2.1.weaken (fun k q hk z => hFo q.1 z)
  clear hB hk hz hw ht hvm hFo
  refine W.widen (k := 51) (n := 573) (by decide) (by decide) ?_
  refine lv_astore_n (lv' := [(1, .ref o), (0, .ref b)]) hx hb dL_law_7 rfl hl (by decide) rfl (fun ls hl => ?_)
  refine lv_iconst (v := 5) hx hb dL_law_8 (by decide) ?_
  refine va_newa (atype := .int) (N' := 5) (a0 := (5, .inl (fun _ => 0))) hx hb (hts (.arrayClass .int) (by decide +kernel)) rfl hK hP hD hS hA (fun _ => rfl) (by decide) (by decide) (by decide) (Nat.le_of_ble_eq_true rfl) (Nat.le_of_ble_eq_true rfl) dL_law_9 (fun q cA H hK9 hP hD hS => ?_)
  have hcc : cA = kI := Option.some.inj ((hK9.2 4 _ rfl).2.symm.trans (hK.2 0 _ rfl).2)
  subst hcc
  refine lv_astore_n (lv' := [(2, .ref q), (1, .ref o), (0, .ref b)]) hx hb dL_law_11 rfl hl (by decide) rfl (fun ls hl => ?_)
  refine W.widen (k := 100 + 28 * 0) (n := 2000 + 168 * 0) (by decide) (by decide) ?_
  obtain ⟨hcI, hcN⟩ := cWi_P (wp_PL hP) (wp_DL hD)
  have hq : va_at D vwCl (q, .inl (cA, 5, .inl (fun _ => 0))) H := wp_PR hP 0 _ rfl
  have hqs : s.heap.size ≤ q := (wp_DR hD).2 0 _ rfl
  have hI : cI (fun y : Nat => s.heap.size ≤ y ∧ y ≠ q) (cAdI o l0 l1 Lo Lq1 Lp0 Lp0t Lp0b Lp0s Lp1 Lp1t Lp1b Lp1s Lp2 Lp2t Lp2b Lp2s Lq2 Lq2aaa To Tq1 Tq2 b0 b0l b0s b0m b1 b1l b1s b1m b2 b2l b2s b2m b3 b3l b3s b3m l2 l2aaaa Tr) Z0.2.2 := ⟨hcI.1, fun k i hl => ⟨hcI.2 k i hl, wp_DX hD (cWi_get cA kZ kO kA eA o l0 l1 Lo Lq1 Lp0 Lp0t Lp0b Lp0s Lp1 Lp1t Lp1b Lp1s Lp2 Lp2t Lp2b Lp2s Lq2 Lq2aaa To Tq1 Tq2 b0 b0l b0s b0m b1 b1l b1s b1m b2 b2l b2s b2m b3 b3l b3s b3m l2 l2aaaa Tr k i hl) (j := 0) rfl⟩⟩
  obtain ⟨ad, had⟩ : ∃ ad, ad = cAdI o l0 l1 Lo Lq1 Lp0 Lp0t Lp0b Lp0s Lp1 Lp1t Lp1b Lp1s Lp2 Lp2t Lp2b Lp2s Lq2 Lq2aaa To Tq1 Tq2 b0 b0l b0s b0m b1 b1l b1s b1m b2 b2l b2s b2m b3 b3l b3s b3m l2 l2aaaa Tr := ⟨_, rfl⟩
  have ho : o = ad 0 0 := by rw [had]; rfl
  rw [← had] at hI hcN
  rw [ho] at hl
  have hF' : cF (cA, kZ, kO, kA, eA) (fun y : Nat => s.heap.size ≤ y) s s.heap := ⟨hZ, ⟨gE, hT⟩, hMi, hAO, hDc⟩
  have hKc : cK D (cA, kZ, kO, kA, eA) s := ⟨hK, hCo⟩
  exact law_head (l := l) (G := (cA, kZ, kO, kA, eA)) hx hb hml hown htl hX hbl hfl hKc hE hF' hqs hL (fun H locs ls hS h3 => by
    refine lv_iload_n hx hb dL_law_159 rfl h3 ?_
    refine va_forget (fun q hq => hS.2.2 q hq) ?_
    refine W.widen (k := room_1.cells) (n := room_1.slots) (Nat.le_trans (by decide) rm_c) (Nat.le_trans (by decide) rm_s) ?_
    exact lw_ret hx hb hr hlocks dL_law_160) hI hcN hq hS (lv_sub hl [2, 1, 0] rfl)
