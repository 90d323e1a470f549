/-! PURE PART. change (an error spreads) and drill. -/
section URD
variable {n : Nat} {Z : CZ} {M : MT} {S C : Nat → Nat} {E P : Nat → Nat → Nat}
theorem up_eq {α : Type} {f g : Nat → α} {k : Nat} (h : ∀ j, j ≠ k → f j = g j) : f = va_up g k (f k) := funext fun j => by
  by_cases e : j = k
  · subst e
    rw [vu_s]
  · rw [vu_n e, h j e]
theorem up_eq2 {α : Type} {f g : Nat → α} {k l : Nat} (h : ∀ j, j ≠ k → j ≠ l → f j = g j) : f = va_up (va_up g k (f k)) l (f l) := funext fun j => by
  by_cases e : j = l
  · subst e
    rw [vu_s]
  · rw [vu_n e]
    by_cases e2 : j = k
    · subst e2
      rw [vu_s]
    · rw [vu_n e2, h j e2 e]
theorem zz_eq {Z Z' : CZ} {f : Nat → Nat → Nat → Int32} (h1 : Z'.1 = f) (h2 : Z'.2 = Z.2) : Z' = (f, Z.2) := by
  rw [← h1, ← h2]
theorem uLs.of {Z Z' : CZ} {l k : Nat} {e : Nat → Nat} (h : uLs Z l k e) (h3 : Z'.1 3 = Z.1 3) (h2 : Z'.2 = Z.2) : uLs Z' l k e := by
  unfold uLs
  rw [h3, h2]
  exact h
/-! the error that spreads: the class's loop and the model's side by side -/
theorem c_spoil (h : uRR n Z M S C E P) {b j : Nat} (hb : b < 4) (hj : j < 6) : ∀ (d x fuel : Nat) (Z' : CZ), x + d = S b → d < fuel → Z'.2 = Z.2 → (∀ k, k ≠ 14 → k ≠ 11 → Z'.1 k = Z.1 k) → ∃ Z'' : CZ, lf4 fX0_spoilPhrase_2 fuel b (nI j) (nI x) Z' = some Z'' ∧ Z''.2 = Z.2 ∧ (∀ k, k ≠ 14 → Z''.1 k = Z'.1 k) ∧ (∀ k, x ≤ k → k < S b → Z''.1 14 (E b k) j = if Z'.1 14 (E b k) j = 1 then 2 else Z'.1 14 (E b k) j) ∧ ∀ e f, ¬ (f = j ∧ ∃ k, x ≤ k ∧ k < S b ∧ e = E b k) → Z''.1 14 e f = Z'.1 14 e f
  | _, _, 0, _, _, hf, _, _ => absurd hf (by omega)
  | 0, x, fuel + 1, Z', hx, _, h2, h1 => by
    have hS := h.nS hb
    refine ⟨Z', ?_, h2, fun _ _ => rfl, fun k q1 q2 => by omega, fun _ _ _ => rfl⟩
    rw [lf4_s]
    unfold fX0_spoilPhrase_2
    rw [cLv10 hb, gdt, cLv3 (by omega), gdt, ((h.ls4 hb).of (h1 3 (by omega) (by omega)) h2).size (by omega), cl1_s, if_pos (nI_le (by omega) (by omega))]
    rfl
  | d + 1, x, fuel + 1, Z', hx, hf, h2, h1 => by
    have hS := h.nS hb
    have hls := (h.ls4 hb).of (h1 3 (by omega) (by omega)) h2
    obtain ⟨p1, p2, p3, p4⟩ := h.2.2.2.2.2.2.1.2.1 b x hb (by omega)
    have p1' : cLv Z'.2.2 13 (E b x) = true := by
      rw [h2]
      exact cLv13 p1
    have inj : ∀ k, x + 1 ≤ k → k < S b → E b k ≠ E b x := fun k q1 q2 e => by
      have := (h.inj b k b x hb q2 hb (by omega) e).2
      omega
    have step : lf4 fX0_spoilPhrase_2 (fuel + 1) b (nI j) (nI x) Z' = if Z'.1 14 (E b x) j = 1 then lf4 fX0_spoilPhrase_2 fuel b (nI j) (nI (x + 1)) (cuI Z' 14 (E b x) (upd (Z'.1 14 (E b x)) j 2)) else lf4 fX0_spoilPhrase_2 fuel b (nI j) (nI (x + 1)) Z' := by
      rw [lf4_s]
      unfold fX0_spoilPhrase_2
      rw [cLv10 hb, gdt, cLv3 (by omega), gdt, hls.size (by omega), cl1_s, if_neg (nI_ge (by omega) (by omega)), hls.get (by omega) (show x < S b by omega), cl1_s, p1', gdt, gdn hj (by omega), gdn hj (by omega), nIc (by omega), bnd_e]
      unfold fX0_spoilPhrase_42
      rw [bnd_e, bnd_e, u_a1]
    by_cases hv : Z'.1 14 (E b x) j = 1
    · have w0 : (cuI Z' 14 (E b x) (upd (Z'.1 14 (E b x)) j 2)).1 14 (E b x) j = 2 := by rw [cuI_s, pk_us]
      have w1 : ∀ e f, ¬ (e = E b x ∧ f = j) → (cuI Z' 14 (E b x) (upd (Z'.1 14 (E b x)) j 2)).1 14 e f = Z'.1 14 e f := fun e f q => by
        by_cases he : e = E b x
        · subst he
          rw [cuI_s]
          exact pk_un (fun q2 => q ⟨rfl, q2⟩)
        · rw [cuI_n (fun q2 => he q2.2)]
      have w2 : ∀ k, k ≠ 14 → (cuI Z' 14 (E b x) (upd (Z'.1 14 (E b x)) j 2)).1 k = Z'.1 k := fun k hk => funext fun i => by rw [cuI_n (fun q => hk q.1)]
      obtain ⟨Z'', z1, z2, z3, z4, z5⟩ := c_spoil h hb hj d (x + 1) fuel (cuI Z' 14 (E b x) (upd (Z'.1 14 (E b x)) j 2)) (by omega) (by omega) h2 (fun k hk hk2 => by rw [w2 k hk, h1 k hk hk2])
      refine ⟨Z'', by rw [step, if_pos hv]; exact z1, z2, fun k hk => by rw [z3 k hk, w2 k hk], fun k q1 q2 => ?_, fun e f q => ?_⟩
      · by_cases hk : k = x
        · subst hk
          rw [if_pos hv, z5 _ _ (fun q => by
            obtain ⟨_, k', q3, q4, q5⟩ := q
            exact inj k' q3 q4 q5.symm), w0]
        · rw [z4 k (by omega) q2, w1 _ _ (fun q => inj k (by omega) q2 q.1)]
      · rw [z5 e f (fun q6 => q ⟨q6.1, by
          obtain ⟨_, k', q3, q4, q5⟩ := q6
          exact ⟨k', by omega, q4, q5⟩⟩), w1 e f (fun q6 => q ⟨q6.2, x, by omega, by omega, q6.1⟩)]
    · obtain ⟨Z'', z1, z2, z3, z4, z5⟩ := c_spoil h hb hj d (x + 1) fuel Z' (by omega) (by omega) h2 h1
      refine ⟨Z'', by rw [step, if_neg hv]; exact z1, z2, z3, fun k q1 q2 => ?_, fun e f q => ?_⟩
      · by_cases hk : k = x
        · subst hk
          rw [if_neg hv, z5 _ _ (fun q => by
            obtain ⟨_, k', q3, q4, q5⟩ := q
            exact inj k' q3 q4 q5.symm)]
        · exact z4 k (by omega) q2
      · exact z5 e f (fun q6 => q ⟨q6.1, by
          obtain ⟨_, k', q3, q4, q5⟩ := q6
          exact ⟨k', by omega, q4, q5⟩⟩)
theorem m_spoil (h : uRR n Z M S C E P) {b pl : Nat} {v w : Int32} (hb : b < 4) (hpl : pl < 24) (hw : ¬ w = v) : ∀ (d x fuel : Nat) (M' : MT), x + d = S b → d < fuel → M' 15 = M 15 → ∃ M'' : MT, lf6 fX7_change_91 fuel (nI b) (nI pl) v w (nI x) M' = some (w, M'') ∧ (∀ k, k ≠ 19 → M'' k = M' k) ∧ (∀ k, x ≤ k → k < S b → M'' 19 (6 * (8 * b + k) + pl / 4) = if M' 19 (6 * (8 * b + k) + pl / 4) = 1 then 2 else M' 19 (6 * (8 * b + k) + pl / 4)) ∧ ∀ i, ¬ (∃ k, x ≤ k ∧ k < S b ∧ i = 6 * (8 * b + k) + pl / 4) → M'' 19 i = M' 19 i
  | _, _, 0, _, _, hf, _ => absurd hf (by omega)
  | 0, x, fuel + 1, M', hx, _, h1 => by
    have hS := h.nS hb
    refine ⟨M', ?_, fun _ _ => rfl, fun k q1 q2 => by omega, fun _ _ => rfl⟩
    rw [lf6_s]
    unfold fX7_change_91
    rw [gdn hb (by omega), nIc (by omega), h1, hS.2, if_pos (nI_le (by omega) (by omega))]
    rfl
  | d + 1, x, fuel + 1, M', hx, hf, h1 => by
    have hS := h.nS hb
    have step : lf6 fX7_change_91 (fuel + 1) (nI b) (nI pl) v w (nI x) M' = lf6 fX7_change_91 fuel (nI b) (nI pl) v w (nI (x + 1)) (va_up M' 19 (upd (M' 19) (6 * (8 * b + x) + pl / 4) (if M' 19 (6 * (8 * b + x) + pl / 4) = 1 then 2 else M' 19 (6 * (8 * b + x) + pl / 4)))) := by
      rw [lf6_s]
      unfold fX7_change_91
      rw [gdn hb (by omega), nIc (by omega), h1, hS.2, if_neg (nI_ge (by omega) (by omega)), if_neg hw, u_d4 (by omega), m_at, cl1_s, gdn (by omega) (by omega), nIc (by omega), gdn (by omega) (by omega)]
      unfold fX7_change_148
      rw [gdn (by omega) (by omega), gdn (by omega) (by omega), nIc (by omega), u_a1]
      by_cases hv : M' 19 (6 * (8 * b + x) + pl / 4) = 1
      · rw [if_pos hv, if_pos hv]
        rfl
      · rw [if_neg hv, if_neg hv]
        rfl
    obtain ⟨M'', z1, z2, z3, z4⟩ := m_spoil h hb hpl hw d (x + 1) fuel (va_up M' 19 (upd (M' 19) (6 * (8 * b + x) + pl / 4) (if M' 19 (6 * (8 * b + x) + pl / 4) = 1 then 2 else M' 19 (6 * (8 * b + x) + pl / 4)))) (by omega) (by omega) h1
    have w1 : ∀ i, i ≠ 6 * (8 * b + x) + pl / 4 → (va_up M' 19 (upd (M' 19) (6 * (8 * b + x) + pl / 4) (if M' 19 (6 * (8 * b + x) + pl / 4) = 1 then 2 else M' 19 (6 * (8 * b + x) + pl / 4)))) 19 i = M' 19 i := fun i hi => by rw [vu_s, pk_un hi]
    refine ⟨M'', by rw [step]; exact z1, fun k hk => by rw [z2 k hk, vu_n hk], fun k q1 q2 => ?_, fun i q => ?_⟩
    · by_cases hk : k = x
      · subst hk
        rw [z4 _ (fun q => by
          obtain ⟨k', q3, q4, q5⟩ := q
          omega), vu_s, pk_us]
      · rw [z3 k (by omega) q2, w1 _ (by omega)]
    · rw [z4 i (fun q6 => q (by
        obtain ⟨k', q3, q4, q5⟩ := q6
        exact ⟨k', by omega, q4, q5⟩)), w1 i (fun q6 => q ⟨x, by omega, by omega, q6⟩)]
theorem ok_change : st_change (uR n) (uR (n + 1)) := by
  rintro Z M ⟨S, C, E, P, h⟩ a1 a2 a3
  rcases uIx_or a1 (n := 4) (by omega) with ⟨b, hb, rfl⟩ | hf
  · obtain ⟨hC, hM, hZ⟩ := h.nC hb
    have hS := h.nS hb
    rcases uIx_or a2 (n := C b) (by omega) with ⟨pl, hpl, rfl⟩ | hf
    · have hin : fX7_isIn (nI pl) 0 (M 17 b - 1) = some 1 := by
        rw [hM]
        exact m_in_t hpl (by omega)
      rcases rg_or a3 0 11 with ⟨h1, h2⟩ | hf
      · obtain ⟨v, _, hv, rfl⟩ := rg_nI (b := 0) (c := 11) (by omega) (by omega) h1 h2
        have gz := (h.2.2.2.2.2.2.2.2.2.1 b hb).2.2.2 pl (by omega)
        have ec : ∀ r, (if nI v = M 18 (24 * b + pl) then fX6_change_54 (M 18 (24 * b + pl)) Z else cl1 (fX0_spoilPhrase b (nI (pl / 4)) (cuI Z 11 b (upd (Z.1 11 b) pl (nI v)))) (fun Z15 => fX6_change_54 (M 18 (24 * b + pl)) Z15)) = r → fX6_change (nI b) (nI pl) (nI v) Z = r := fun r hr => by
          unfold fX6_change
          rw [h.bandAt hb, cx1_l, cLv10 hb, gdt, hZ, c_ri_t hpl (by omega), cx1_l, c_rr_t h1 h2, cx1_l, gdn (by omega) (by omega), bnd_e, gdn (by omega) (by omega), bnd_e, nIc (by omega), gz.1, u_d4 (by omega)]
          exact hr
        have em : ∀ r, lf6 fX7_change_91 100 (nI b) (nI pl) (nI v) (M 18 (24 * b + pl)) (nI 0) (va_up (va_up M 0 (fun _ => 0)) 18 (upd (M 18) (24 * b + pl) (nI v))) = r → fX7_change (nI b) (nI pl) (nI v) M = r := fun r hr => by
          unfold fX7_change
          rw [m_isBand hb, cl1_s, if_neg (by decide), gdn hb (by omega), nIc (by omega), hin, cl1_s, if_neg (by decide)]
          unfold fX7_change_28
          rw [if_neg (by decide), m_isIn_t h1 h2, cl1_s, if_neg (by decide)]
          unfold fX7_change_55
          rw [m_holds_0, cl2_s, if_neg (by decide), u_l24, nI_add, gdn (by omega) (by omega), bnd_e, gdn (by omega) (by omega), bnd_e, nIc (by omega)]
          exact hr
        by_cases he : nI v = M 18 (24 * b + pl)
        · refine ⟨M 18 (24 * b + pl), va_up (va_up M 0 (fun _ => 0)) 18 (upd (M 18) (24 * b + pl) (nI v)), Z, em _ ?_, ⟨S, C, E, P, ?_⟩, Or.inl ⟨ec _ ?_, rfl⟩⟩
          · show lf6 fX7_change_91 (99 + 1) (nI b) (nI pl) (nI v) (M 18 (24 * b + pl)) (nI 0) _ = _
            rw [lf6_s]
            unfold fX7_change_91
            rw [gdn hb (by omega), if_pos he.symm]
            split <;> rfl
          · have : upd (M 18) (24 * b + pl) (nI v) = M 18 := funext fun i => by
              by_cases hi : i = 24 * b + pl
              · subst hi
                rw [pk_us, he]
              · rw [pk_un hi]
            rw [this]
            have e18 : va_up (va_up M 0 (fun _ => 0)) 18 (M 18) = va_up M 0 (fun _ => 0) := funext fun k => by
              by_cases hk : k = 18
              · subst hk
                rw [vu_s, vu_n (by omega)]
              · rw [vu_n hk]
            rw [e18]
            exact h.up
          · rw [if_pos he]
            rfl
        · obtain ⟨Z'', y1, y2, y3, y4, y5⟩ := c_spoil h hb (show pl / 4 < 6 by omega) (S b) 0 100 (cuI Z 11 b (upd (Z.1 11 b) pl (nI v))) (by omega) (by omega) rfl (fun k _ hk => funext fun i => by rw [cuI_n (fun q => hk q.1)])
          obtain ⟨M'', z1, z2, z3, z4⟩ := m_spoil h hb (show pl < 24 by omega) (v := nI v) (w := M 18 (24 * b + pl)) (fun q => he q.symm) (S b) 0 100 (va_up (va_up M 0 (fun _ => 0)) 18 (upd (M 18) (24 * b + pl) (nI v))) (by omega) (by omega) rfl
          obtain ⟨r1, r2, r3, r4, r5, r6, r7, r8, r9, r10, r11⟩ := h
          have h9 : uR9 S E (Z''.1 14) (M'' 19) := by
            intro b' k j hb' hk hj
            obtain ⟨g1, g2⟩ := r9 b' k j hb' hk hj
            have hS' := (r7.1 b' hb').1
            by_cases hh : b' = b ∧ j = pl / 4
            · obtain ⟨rfl, rfl⟩ := hh
              rw [y4 k (by omega) hk, z3 k (by omega) hk]
              show (if (cuI Z 11 b' (upd (Z.1 11 b') pl (nI v))).1 14 (E b' k) (pl / 4) = 1 then (2 : Int32) else (cuI Z 11 b' (upd (Z.1 11 b') pl (nI v))).1 14 (E b' k) (pl / 4)) = (if M 19 (6 * (8 * b' + k) + pl / 4) = 1 then (2 : Int32) else M 19 (6 * (8 * b' + k) + pl / 4)) ∧ ((if M 19 (6 * (8 * b' + k) + pl / 4) = 1 then (2 : Int32) else M 19 (6 * (8 * b' + k) + pl / 4)) = 0 ∨ (if M 19 (6 * (8 * b' + k) + pl / 4) = 1 then (2 : Int32) else M 19 (6 * (8 * b' + k) + pl / 4)) = 1 ∨ (if M 19 (6 * (8 * b' + k) + pl / 4) = 1 then (2 : Int32) else M 19 (6 * (8 * b' + k) + pl / 4)) = 2)
              rw [cuI_n (fun q => by omega), g1]
              refine ⟨rfl, ?_⟩
              split
              · exact Or.inr (Or.inr rfl)
              · exact g2
            · rw [y5 _ _ (fun q => by
                obtain ⟨q1, k', q2, q3, q4⟩ := q
                exact hh ⟨(r7.2.2.2.1 b' k b k' hb' hk hb q3 q4).1, q1⟩), z4 _ (fun q => by
                obtain ⟨k', q2, q3, q4⟩ := q
                have := (r7.1 b hb).1
                exact hh ⟨by omega, by omega⟩), cuI_n (fun q => by omega)]
              exact ⟨g1, g2⟩
          have eM : M'' = va_up (va_up (va_up M 0 (fun _ => 0)) 18 (upd (M 18) (24 * b + pl) (nI v))) 19 (M'' 19) := up_eq z2
          have eZ : Z'' = (va_up (cuI Z 11 b (upd (Z.1 11 b) pl (nI v))).1 14 (Z''.1 14), Z.2) := zz_eq (up_eq y3) y2
          have h10 : uR10 C (Z.1 10) ((cuI Z 11 b (upd (Z.1 11 b) pl (nI v))).1 11) (M 17) (upd (M 18) (24 * b + pl) (nI v)) := by
            intro b' hb'
            obtain ⟨g1, g2, g3, g4⟩ := r10 b' hb'
            refine ⟨g1, g2, g3, fun j hj => ?_⟩
            by_cases hbb : b' = b
            · subst hbb
              rw [cuI_s]
              by_cases hjj : j = pl
              · subst hjj
                rw [pk_us, pk_us]
                exact ⟨rfl, v, by omega, rfl⟩
              · rw [pk_un hjj, pk_un (by omega)]
                exact g4 j hj
            · rw [cuI_n (fun q => hbb q.2), pk_un (by omega)]
              exact g4 j hj
          refine ⟨M 18 (24 * b + pl), M'', Z'', em _ z1, ?_, Or.inl ⟨ec _ ?_, by rw [z2 0 (by omega)]; rfl⟩⟩
          · rw [eM, eZ]
            exact uR.intro S C E P ⟨r1, r2, r3, r4, r5, r6, r7, r8, h9, h10, r11⟩
          · rw [if_neg he]
            have y1' : fX0_spoilPhrase b (nI (pl / 4)) (cuI Z 11 b (upd (Z.1 11 b) pl (nI v))) = some Z'' := y1
            rw [y1', cl1_s]
            rfl
      · refine sI_err (cd := 2) (j := 1) ⟨S, C, E, P, h⟩ ?_ ?_ rfl rfl
        · unfold fX7_change
          rw [m_isBand hb, cl1_s, if_neg (by decide), gdn hb (by omega), nIc (by omega), hin, cl1_s, if_neg (by decide)]
          unfold fX7_change_28
          rw [if_neg (by decide), m_isIn_f hf]
          rfl
        · unfold fX6_change
          rw [h.bandAt hb, cx1_l, cLv10 hb, gdt, hZ, c_ri_t hpl (by omega), cx1_l, c_rr_f hf, cx1_r]
    · refine sI_err (cd := 1) (j := 0) ⟨S, C, E, P, h⟩ ?_ ?_ rfl rfl
      · unfold fX7_change
        rw [m_isBand hb, cl1_s, if_neg (by decide), gdn hb (by omega), nIc (by omega), hM, m_in_f hf (by omega), cl1_s, if_pos (by decide)]
        rfl
      · unfold fX6_change
        rw [h.bandAt hb, cx1_l, cLv10 hb, gdt, hZ, c_ri_f hf, cx1_r]
  · refine sI_err (cd := 1) (j := 0) ⟨S, C, E, P, h⟩ ?_ ?_ rfl rfl
    · unfold fX7_change
      rw [m_isBandF hf, cl1_s, if_pos (by decide)]
      rfl
    · unfold fX6_change
      rw [h.bandAtF hf, cx1_r]
end URD
