/-! PURE PART. field, isInTune, blow, plan. -/
section URB
variable {n : Nat} {Z : CZ} {M : MT} {S C : Nat → Nat} {E P : Nat → Nat → Nat}
def uPS (M : MT) (i : Nat) : PS := (fun f => (M 4 (4 * i + f)).toInt, fun f => (M 5 (4 * i + f)).toNatClampNeg, fun f => decide (M 6 (4 * i + f) = 1))
theorem uRR.trep (h : uRR n Z M S C E P) {i : Nat} (hi : i < Z.2.2 0) : trep M i (uPS M i) := fun f hf => by
  obtain ⟨_, _, _, _, ⟨c, c1, c2⟩, u⟩ := h.2.1.2.2.2.1 i f hi hf
  refine ⟨rfl, ?_, ?_⟩
  · show M 5 (4 * i + f) = nI (M 5 (4 * i + f)).toNatClampNeg
    rw [c2, nIc (by omega)]
  · show M 6 (4 * i + f) = if decide (M 6 (4 * i + f) = 1) = true then 1 else 0
    rcases u with u | u
    · rw [u]
      rfl
    · rw [u]
      rfl
theorem uRR.zrep (h : uRR n Z M S C E P) {i : Nat} (hi : i < Z.2.2 0) : zrep Z i (uPS M i) := fun f hf => by
  obtain ⟨e6, e7, e8, _⟩ := h.2.1.2.2.2.1 i f hi hf
  rw [e6, e7, e8]
  exact h.trep hi f hf
theorem uRR.pbd (h : uRR n Z M S C E P) {i : Nat} (hi : i < Z.2.2 0) : pbd (uPS M i) (60 + 24 * n) 7 := fun f hf => by
  obtain ⟨_, _, _, b, ⟨c, c1, c2⟩, _⟩ := h.2.1.2.2.2.1 i f hi hf
  refine ⟨⟨?_, ?_⟩, ?_⟩
  · show -((60 + 24 * n : Nat) : Int) ≤ (M 4 (4 * i + f)).toInt
    omega
  · show (M 4 (4 * i + f)).toInt ≤ ((60 + 24 * n : Nat) : Int)
    omega
  · show (M 5 (4 * i + f)).toNatClampNeg ≤ 7
    rw [c2, nIc (by omega)]
    exact c1
theorem pMay_iff {s : PS} {h : Nat} : pMay s h 0 ↔ pTn s h := ⟨pTn_of, fun q => pMay_of h [] s (fun c hc => absurd hc List.not_mem_nil) q⟩
theorem c_tuned (hn : n < 512) (h : uRR n Z M S C E P) {i : Nat} (hi : i < Z.2.2 0) {hh : Nat} (h15 : hh ≤ 15) : (pTn (uPS M i) hh → fX1_isTunable i (nI hh) 0 Z = some 1) ∧ (¬ pTn (uPS M i) hh → fX1_isTunable i (nI hh) 0 Z = some 0) := by
  have := c_tunable (cLv5 hi) (h.zrep hi) (h.pbd hi) (by omega) (by omega) h15 (l := 0) (by omega)
  exact ⟨fun q => this.1 (pMay_iff.mpr q), fun q => this.2 (fun z => q (pMay_iff.mp z))⟩
theorem m_tunedNow (hn : n < 512) (h : uRR n Z M S C E P) {i : Nat} (hi : i < Z.2.2 0) {hh : Nat} (h15 : hh ≤ 15) (hm : M 2 0 = nI hh) : ∃ M' : MT, (∀ k, k ≠ 7 → k ≠ 8 → k ≠ 9 → M' k = M k) ∧ ((pTn (uPS M i) hh ∧ fX7_isInTuneNow (nI i) M = some (1, M')) ∨ (¬ pTn (uPS M i) hh ∧ fX7_isInTuneNow (nI i) M = some (0, M'))) := by
  have hnp := h.np.1
  obtain ⟨M1, y1, y2, y3⟩ := m_takes (by omega) (h.trep hi)
  refine ⟨M1, y2, ?_⟩
  unfold fX7_isInTuneNow
  rw [y1, cl1_s]
  rcases m_tuned y3 (h.pbd hi) (by omega) (by omega) h15 (by rw [y2 2 (by omega) (by omega) (by omega)]; exact hm) with ⟨q1, q2⟩ | ⟨q1, q2⟩
  · rw [q2]
    exact Or.inl ⟨q1, rfl⟩
  · rw [q2]
    exact Or.inr ⟨q1, rfl⟩
theorem uRR.scr3 {M' : MT} (h : uRR n Z M S C E P) (hM : ∀ k, k ≠ 7 → k ≠ 8 → k ≠ 9 → M' k = M k) : uRR n Z M' S C E P := h.scr (fun k _ k7 k8 k9 _ _ _ => hM k k7 k8 k9)
theorem ok_isInTune (hn : n < 512) : st_isInTune (uR n) (uR (n + 1)) := by
  rintro Z M ⟨S, C, E, P, h⟩ a1
  have hnp := h.np.1
  rcases uIx_or a1 (n := Z.2.2 0) (by omega) with ⟨i, hi, rfl⟩ | hf
  · obtain ⟨e5, _, ⟨hh, h15, hm⟩, _⟩ := h.1
    obtain ⟨M1, y1, y2⟩ := m_tunedNow hn (M := va_up M 0 (fun _ => 0)) (h.thr _) hi h15 hm
    have ct := c_tuned hn h hi h15
    have h1 : uRR n Z M1 S C E P := (h.thr _).scr3 y1
    have em : ∀ r, cl2 (fX7_isInTuneNow (nI i) (va_up M 0 (fun _ => 0))) (fun v6 M7 => if v6 = 0 then fX7_isInTune_32 M7 else fX7_isInTune_33 1 M7) = r → fX7_isInTune (nI i) M = r := fun r hr => by
      unfold fX7_isInTune
      rw [h.isPan hi, cl1_s, if_neg (by decide)]
      unfold fX7_isInTune_14
      rw [m_holds_0, cl2_s, if_neg (by decide)]
      exact hr
    have ec : ∀ v, fX1_isTunable i (nI hh) 0 Z = some v → (v = 0 ∨ v = 1) → fX6_isInTune (nI i) Z = some (.inl v) := fun v hv h01 => by
      unfold fX6_isInTune
      rw [h.panAt hi, cx1_l, cLv5 hi, gdt, e5, hm, hv, cl1_s, gdb h01]
    rcases y2 with ⟨q1, q2⟩ | ⟨q1, q2⟩
    · refine ⟨1, M1, em _ (by rw [q2]; rfl), ⟨S, C, E, P, h1.up⟩, Or.inl ⟨ec 1 (ct.1 q1) (Or.inr rfl), by rw [y1 0 (by omega) (by omega) (by omega)]; rfl⟩⟩
    · refine ⟨0, M1, em _ (by rw [q2]; rfl), ⟨S, C, E, P, h1.up⟩, Or.inl ⟨ec 0 (ct.2 q1) (Or.inl rfl), by rw [y1 0 (by omega) (by omega) (by omega)]; rfl⟩⟩
  · refine sR_err (cd := 1) (j := 0) ⟨S, C, E, P, h⟩ ?_ ?_ rfl rfl
    · unfold fX7_isInTune
      rw [h.isPanF hf, cl1_s, if_pos (by decide)]
      rfl
    · unfold fX6_isInTune
      rw [h.panAtF hf, cx1_r]
theorem ok_field (hn : n < 512) : st_field (uR n) (uR (n + 1)) := by
  rintro Z M ⟨S, C, E, P, h⟩ a1 a2 a3
  have hnp := h.np.1
  rcases uIx_or a1 (n := Z.2.2 0) (by omega) with ⟨i, hi, rfl⟩ | hf
  · rcases uIx_or a2 (n := 4) (by omega) with ⟨f, hf, rfl⟩ | hf
    · rcases rg_or a3 0 4 with ⟨h1, h2⟩ | hg
      · obtain ⟨k, _, hk, rfl⟩ := rg_nI (b := 0) (c := 4) (by omega) (by omega) h1 h2
        obtain ⟨e6, e7, e8, _, ⟨c, c1, c2⟩, u⟩ := h.2.1.2.2.2.1 i f hi hf
        have e5 := h.1.1
        have em : ∀ v, fX7_field_28 (nI i) (nI f) (nI k) 0 M = some (v, va_up M 0 (fun _ => 0)) → fX7_field (nI i) (nI f) (nI k) M = some (v, va_up M 0 (fun _ => 0)) := fun v hv => by
          unfold fX7_field
          rw [h.isField hi hf, cl1_s, if_neg (by decide), m_isIn_t h1 h2, cl1_s, if_neg (by decide)]
          exact hv
        have ec : ∀ v, fX6_field (nI i) (nI f) (nI k) Z = some (.inl v) → fX7_field (nI i) (nI f) (nI k) M = some (v, va_up M 0 (fun _ => 0)) → stepR (fX6_field (nI i) (nI f) (nI k) Z) Z (fX7_field (nI i) (nI f) (nI k) M) [1, 2] (uR (n + 1)) := fun v q1 q2 => ⟨v, _, q2, ⟨S, C, E, P, h.up⟩, Or.inl ⟨q1, rfl⟩⟩
        have em2 : ∀ v, (if (2 : Int32) ≤ nI k then (if nI k = (2 : Int32) then fX7_field_125 (M 5 (4 * i + f)) (va_up M 0 (fun _ => 0)) else (if nI k = (3 : Int32) then (if M 6 (4 * i + f) = 0 then fX7_field_124 (va_up M 0 (fun _ => 0)) else fX7_field_120 (va_up M 0 (fun _ => 0))) else (if M 5 (4 * i + f) ≤ (6 : Int32) then fX7_field_124 (va_up M 0 (fun _ => 0)) else fX7_field_120 (va_up M 0 (fun _ => 0))))) else (if nI k = 0 then fX7_field_74 (M 4 (4 * i + f)) (va_up M 0 (fun _ => 0)) else fX7_field_74 (M 4 (4 * i + f) - M 2 0) (va_up M 0 (fun _ => 0)))) = some (v, va_up M 0 (fun _ => 0)) → fX7_field_28 (nI i) (nI f) (nI k) 0 M = some (v, va_up M 0 (fun _ => 0)) := fun v hv => by
          unfold fX7_field_28
          rw [m_holds_0, cl2_s, if_neg (by decide), u_l4, nI_add, bnd_e, gdn (by omega) (by omega), gdn (by omega) (by omega), gdn (by omega) (by omega), gdn (by omega) (by omega), gdn (by omega) (by omega), nIc (by omega)]
          exact hv
        have hk5 : k = 0 ∨ k = 1 ∨ k = 2 ∨ k = 3 ∨ k = 4 := by omega
        rcases hk5 with rfl | rfl | rfl | rfl | rfl
        · refine ec (M 4 (4 * i + f)) ?_ (em _ (em2 _ ?_))
          · unfold fX6_field
            rw [h.panAt hi, cx1_l, c_ri_t4 hf, cx1_l, c_rr_t h1 h2, cx1_l, if_pos (by decide), cLv5 hi, gdt, gdn hf (by omega), nIc (by omega), e6]
          · rw [if_neg (by decide), if_pos (by decide)]
            rfl
        · refine ec (M 4 (4 * i + f) - M 2 0) ?_ (em _ (em2 _ ?_))
          · unfold fX6_field
            rw [h.panAt hi, cx1_l, c_ri_t4 hf, cx1_l, c_rr_t h1 h2, cx1_l, if_neg (by decide), if_pos (by decide), cLv5 hi, gdt, gdn hf (by omega), nIc (by omega), e6, e5]
          · rw [if_neg (by decide), if_neg (by decide)]
            rfl
        · refine ec (M 5 (4 * i + f)) ?_ (em _ (em2 _ ?_))
          · unfold fX6_field
            rw [h.panAt hi, cx1_l, c_ri_t4 hf, cx1_l, c_rr_t h1 h2, cx1_l, if_neg (by decide), if_neg (by decide), if_pos (by decide), cLv5 hi, gdt, gdn hf (by omega), nIc (by omega), e7]
          · rw [if_pos (by decide), if_pos (by decide)]
            rfl
        · refine ec (if M 6 (4 * i + f) = 0 then 0 else 1) ?_ (em _ (em2 _ ?_))
          · unfold fX6_field
            rw [h.panAt hi, cx1_l, c_ri_t4 hf, cx1_l, c_rr_t h1 h2, cx1_l, if_neg (by decide), if_neg (by decide), if_neg (by decide), if_pos (by decide), cLv5 hi, gdt, gdn hf (by omega), nIc (by omega), e8]
            split <;> rfl
          · rw [if_pos (by decide), if_neg (by decide), if_pos (by decide)]
            split <;> rfl
        · refine ec (if (uPS M i).2.1 f ≤ 6 then 0 else 1) ?_ (em _ (em2 _ ?_))
          · unfold fX6_field
            rw [h.panAt hi, cx1_l, c_ri_t4 hf, cx1_l, c_rr_t h1 h2, cx1_l, if_neg (by decide), if_neg (by decide), if_neg (by decide), if_neg (by decide), cLv5 hi, gdt, c_cracked (cLv5 hi) (h.zrep hi) (h.pbd hi) (by omega) hf, cl1_s]
            split <;> rfl
          · have ek : (uPS M i).2.1 f = c := by
              show (M 5 (4 * i + f)).toNatClampNeg = c
              rw [c2, nIc (by omega)]
            rw [if_pos (by decide), if_neg (by decide), if_neg (by decide), ek, c2]
            by_cases hc : c ≤ 6
            · rw [if_pos (show nI c ≤ (6 : Int32) from nI_le (b := 6) hc (by omega)), if_pos hc]
              rfl
            · rw [if_neg (show ¬ (nI c ≤ (6 : Int32)) from nI_ge (a := 6) (by omega) (by omega)), if_neg hc]
              rfl
      · refine sR_err (cd := 2) (j := 1) ⟨S, C, E, P, h⟩ ?_ ?_ rfl rfl
        · unfold fX7_field
          rw [h.isField hi hf, cl1_s, if_neg (by decide), m_isIn_f hg, cl1_s, if_pos (by decide)]
          rfl
        · unfold fX6_field
          rw [h.panAt hi, cx1_l, c_ri_t4 hf, cx1_l, c_rr_f hg, cx1_r]
    · refine sR_err (cd := 1) (j := 0) ⟨S, C, E, P, h⟩ ?_ ?_ rfl rfl
      · unfold fX7_field
        rw [h.isFieldG hi hf, cl1_s, if_pos (by decide)]
        rfl
      · unfold fX6_field
        rw [h.panAt hi, cx1_l, c_ri_f4 hf, cx1_r]
  · refine sR_err (cd := 1) (j := 0) ⟨S, C, E, P, h⟩ ?_ ?_ rfl rfl
    · unfold fX7_field
      rw [h.isFieldF hf, cl1_s, if_pos (by decide)]
      rfl
    · unfold fX6_field
      rw [h.panAtF hf, cx1_r]
/-! blow -/
theorem m_blow_l {a f : Nat} (ha : a < 6) : ∀ (d x fuel : Nat) (M' : MT), x + d = 4 → d < fuel → ∃ M'' : MT, lf4 fX7_blow_75 fuel (nI a) (nI f) (nI x) M' = fX7_blow_105 (nI a) (nI f) M'' ∧ (∀ k, k ≠ 4 → M'' k = M' k) ∧ (∀ g, x ≤ g → g < 4 → M'' 4 (4 * a + g) = M' 7 g) ∧ ∀ j, ¬ (4 * a + x ≤ j ∧ j < 4 * a + 4) → M'' 4 j = M' 4 j
  | _, _, 0, _, _, hf => absurd hf (by omega)
  | 0, x, fuel + 1, M', hx, _ => by
    refine ⟨M', ?_, fun _ _ => rfl, fun g h1 h2 => by omega, fun _ _ => rfl⟩
    rw [lf4_s]
    unfold fX7_blow_75
    rw [show x = 4 by omega, if_pos (by decide)]
  | d + 1, x, fuel + 1, M', hx, hf => by
    obtain ⟨M'', z1, z2, z3, z4⟩ := m_blow_l (f := f) ha d (x + 1) fuel (va_up M' 4 (upd (M' 4) (4 * a + x) (M' 7 x))) (by omega) (by omega)
    refine ⟨M'', ?_, fun k hk => by rw [z2 k hk, vu_n hk], fun g h1 h2 => ?_, fun j q => ?_⟩
    · rw [lf4_s]
      unfold fX7_blow_75
      rw [if_neg (show ¬ ((4 : Int32) ≤ nI x) from nI_ge (b := 4) (by omega) (by omega)), gdn (by omega) (by omega), u_l4, nI_add, gdn (by omega) (by omega), bnd_e, bnd_e, nIc (by omega), nIc (by omega), u_a1]
      exact z1
    · by_cases e : g = x
      · rw [e, z4 _ (by omega), vu_s, pk_us]
      · rw [z3 g (by omega) h2, vu_n (by omega)]
    · rw [z4 j (by omega), vu_s, pk_un (by omega)]
theorem ok_blow (hn : n < 512) : st_blow (uR n) (uR (n + 1)) := by
  rintro Z M ⟨S, C, E, P, h⟩ a1 a2 a3 a4 h4
  have hnp := h.np.1
  rcases uIx_or a1 (n := Z.2.2 0) (by omega) with ⟨i, hi, rfl⟩ | hf
  · rcases uIx_or a2 (n := 4) (by omega) with ⟨f, hf, rfl⟩ | hf
    · obtain ⟨M1, y1, y2, y3⟩ := m_takes (by omega) (h.trep hi)
      have h1 : uRR n Z M1 S C E P := h.scr3 y2
      rcases rg_or a3 1 4 with ⟨g1, g2⟩ | hg
      · obtain ⟨F, F1, F4, rfl⟩ := rg_nI (b := 1) (c := 4) (by omega) (by omega) g1 g2
        obtain ⟨x, hx1, rfl⟩ : ∃ x : Nat, x ≤ 1 ∧ a4 = nI x := by
          rcases h4 with rfl | rfl
          · exact ⟨0, by omega, rfl⟩
          · exact ⟨1, by omega, rfl⟩
        obtain ⟨c, hc⟩ : ∃ c, c = 8 * f + 2 * (F - 1) + x := ⟨_, rfl⟩
        have c32 : c < 32 := by omega
        have c8 : c / 8 = f := by omega
        have cF : pF c = F := by
          unfold pF
          omega
        have c2 : c % 2 = x := by omega
        have em : ∀ r, cl1 (fX7_bears (nI f) (nI x) M1) (fun v7 => if v7 = 0 then fX7_blow_56 (nI i) (nI f) (nI F) (nI x) 3 M1 else fX7_blow_56 (nI i) (nI f) (nI F) (nI x) 0 M1) = r → fX7_blow (nI i) (nI f) (nI F) (nI x) M = r := fun r hr => by
          unfold fX7_blow
          rw [h.isField hi hf, cl1_s, if_neg (by decide), y1, cl1_s]
          unfold fX7_blow_18
          rw [if_neg (by decide), m_isIn_t g1 g2, cl1_s, if_neg (by decide)]
          exact hr
        have ec : ∀ r, cl1 (fX1_bears i (nI f) (nI x) Z) (fun v11 => cx1 (fX6_requireState v11 Z) (fun x14 => some (.inr x14, Z)) (fun _ => cl1 (fX1_beat i (nI f) (nI F) (nI x) Z) (fun Z16 => gd (cLv Z16.2.2 5 i) (gd (gin (nI f) 4) (some (.inl (Z16.1 6 i (nI f).toNatClampNeg), Z16)))))) = r → fX6_blow (nI i) (nI f) (nI F) (nI x) Z = r := fun r hr => by
          unfold fX6_blow
          rw [h.panAt hi, cx1_l, c_ri_t4 hf, cx1_l, c_rr_t g1 g2, cx1_l, cLv5 hi, gdt]
          exact hr
        have mb := m_bears y3 (h.pbd hi) (by omega) c32
        have cb := c_bears (cLv5 hi) (h.zrep hi) (h.pbd hi) (by omega) c32
        rw [c8, c2] at mb cb
        by_cases hB : pB (uPS M i) c
        · have mb1 := mb.resolve_right (fun q => q.1 hB)
          have cb1 := cb.resolve_right (fun q => q.1 hB)
          have h1s : mrep (va_up M1 0 (fun _ => 0)) (uPS M i) := y3
          obtain ⟨M2, x1, x2, x3⟩ := m_beat h1s (h.pbd hi) (by omega) c32
          obtain ⟨Z2, w1, w2, w3, w4⟩ := c_beat (a := i) (fun Z' e => by rw [e]; exact cLv5 hi) (show cLv Z.2.2 6 i = true from cLv5 hi) (h.zrep hi) (h.pbd hi) (by omega) c32
          rw [c8, cF, c2] at x1 w1
          obtain ⟨M3, v1, v2, v3, v4⟩ := m_blow_l (a := i) (f := f) (by omega) 4 0 100 M2 (by omega) (by omega)
          have hs := h.2.1.2.2.2.1
          have x3f := fun g (hg : g < 4) => x3 g hg
          have e7 : ∀ g, g < 4 → Z2.1 6 i g = M2 7 g := fun g hg => i_eq.mpr (by rw [(w4 g hg).1, (x3 g hg).1])
          have pbm : (uPS M i).2.1 f ≤ 6 := by
            have := hB.1
            rw [c8] at this
            exact this
          have H : uRR (n + 1) Z2 (va_up (va_up M3 5 (upd (M3 5) (4 * i + f) (M3 8 f))) 6 (upd (M3 6) (4 * i + f) (M3 9 f))) S C E P := by
            obtain ⟨r1, r2, r3, r4, r5, r6, r7, r8, r9, r10, r11, r12⟩ := h
            have zk : ∀ k, k ≠ 6 → k ≠ 7 → k ≠ 8 → Z2.1 k = Z.1 k := fun k k6 k7 k8 => funext fun j => w3 k j (fun q => q.1.elim k6 (fun q => q.elim k7 k8))
            have mk : ∀ k, k ≠ 0 → k ≠ 4 → k ≠ 5 → k ≠ 6 → k ≠ 7 → k ≠ 8 → k ≠ 9 → (va_up (va_up M3 5 (upd (M3 5) (4 * i + f) (M3 8 f))) 6 (upd (M3 6) (4 * i + f) (M3 9 f))) k = M k := fun k k0 k4 k5 k6 k7 k8 k9 => by rw [vu_n k6, vu_n k5, v2 k k4, x2 k k7 k8 k9, vu_n k0, y2 k k7 k8 k9]
            have mm : ∀ k, k ≠ 0 → k ≠ 4 → k ≠ 7 → k ≠ 8 → k ≠ 9 → M3 k = M k := fun k k0 k4 k7 k8 k9 => by rw [v2 k k4, x2 k k7 k8 k9, vu_n k0, y2 k k7 k8 k9]
            unfold uRR
            rw [w2, zk 0 (by omega) (by omega) (by omega), zk 3 (by omega) (by omega) (by omega), zk 5 (by omega) (by omega) (by omega), zk 9 (by omega) (by omega) (by omega), zk 10 (by omega) (by omega) (by omega), zk 11 (by omega) (by omega) (by omega), zk 12 (by omega) (by omega) (by omega), zk 14 (by omega) (by omega) (by omega)]
            rw [mk 1 (by omega) (by omega) (by omega) (by omega) (by omega) (by omega) (by omega), mk 2 (by omega) (by omega) (by omega) (by omega) (by omega) (by omega) (by omega), mk 3 (by omega) (by omega) (by omega) (by omega) (by omega) (by omega) (by omega), mk 10 (by omega) (by omega) (by omega) (by omega) (by omega) (by omega) (by omega), mk 11 (by omega) (by omega) (by omega) (by omega) (by omega) (by omega) (by omega), mk 12 (by omega) (by omega) (by omega) (by omega) (by omega) (by omega) (by omega), mk 13 (by omega) (by omega) (by omega) (by omega) (by omega) (by omega) (by omega), mk 14 (by omega) (by omega) (by omega) (by omega) (by omega) (by omega) (by omega), mk 15 (by omega) (by omega) (by omega) (by omega) (by omega) (by omega) (by omega), mk 16 (by omega) (by omega) (by omega) (by omega) (by omega) (by omega) (by omega), mk 17 (by omega) (by omega) (by omega) (by omega) (by omega) (by omega) (by omega), mk 18 (by omega) (by omega) (by omega) (by omega) (by omega) (by omega) (by omega), mk 19 (by omega) (by omega) (by omega) (by omega) (by omega) (by omega) (by omega), mk 21 (by omega) (by omega) (by omega) (by omega) (by omega) (by omega) (by omega), mk 22 (by omega) (by omega) (by omega) (by omega) (by omega) (by omega) (by omega), mk 23 (by omega) (by omega) (by omega) (by omega) (by omega) (by omega) (by omega), mk 24 (by omega) (by omega) (by omega) (by omega) (by omega) (by omega) (by omega), mk 25 (by omega) (by omega) (by omega) (by omega) (by omega) (by omega) (by omega), mk 26 (by omega) (by omega) (by omega) (by omega) (by omega) (by omega) (by omega)]
            rw [vu_s, vu_n (show (5 : Nat) ≠ 6 by omega), vu_s, vu_n (show (4 : Nat) ≠ 6 by omega), vu_n (show (4 : Nat) ≠ 5 by omega), mm 5 (by omega) (by omega) (by omega) (by omega) (by omega), mm 6 (by omega) (by omega) (by omega) (by omega) (by omega)]
            refine ⟨r1, ⟨r2.1, r2.2.1, r2.2.2.1, fun i' g hi' hg => ?_, fun j j1 j2 => ?_⟩, r3, r4, r5, r6, r7, r8, r9, r10, r11, r12⟩
            · obtain ⟨s1, s2, s3, s4, s5, s6⟩ := hs i' g hi' hg
              by_cases ei : i' = i
              · subst ei
                obtain ⟨p1, p2, p3⟩ := w4 g hg
                obtain ⟨q1, q2, q3⟩ := x3 g hg
                have near := pt_near (uPS M i') c g
                have e4 : M3 4 (4 * i' + g) = M2 7 g := v3 g (by omega) hg
                refine ⟨by rw [e7 g hg, e4], ?_, ?_, ?_, ?_, ?_⟩
                · rw [p2]
                  by_cases eg : g = f
                  · rw [eg, pk_us, v2 8 (by omega), ← eg, q2]
                  · rw [pk_un (by omega), show M 5 (4 * i' + g) = nI ((uPS M i').2.1 g) from (by
                      obtain ⟨cc, cc1, cc2⟩ := s5
                      show M 5 (4 * i' + g) = nI (M 5 (4 * i' + g)).toNatClampNeg
                      rw [cc2, nIc (by omega)])]
                    show nI (if g = c / 8 then _ else _) = _
                    rw [if_neg (by omega)]
                · rw [p3]
                  by_cases eg : g = f
                  · rw [eg, pk_us, v2 9 (by omega), ← eg, q3]
                  · rw [pk_un (by omega)]
                    show (if (if g = c / 8 then _ else _) = true then (1 : Int32) else 0) = _
                    rw [if_neg (show ¬ g = c / 8 by omega)]
                    show (if decide (M 6 (4 * i' + g) = 1) = true then (1 : Int32) else 0) = _
                    rcases s6 with s6 | s6
                    · rw [s6]
                      rfl
                    · rw [s6]
                      rfl
                · rw [e4, q1]
                  have bd1 : -(60 + 24 * (n : Int)) ≤ (uPS M i').1 g ∧ (uPS M i').1 g ≤ 60 + 24 * (n : Int) := s4
                  omega
                · by_cases eg : g = f
                  · refine ⟨(uPS M i').2.1 f + 1, by omega, ?_⟩
                    rw [eg, pk_us, v2 8 (by omega), ← eg, q2]
                    show nI (if g = c / 8 then (uPS M i').2.1 g + 1 else _) = _
                    rw [if_pos (by omega)]
                  · rw [pk_un (by omega)]
                    exact s5
                · by_cases eg : g = f
                  · rw [eg, pk_us, v2 9 (by omega), ← eg, q3]
                    split
                    · exact Or.inr rfl
                    · exact Or.inl rfl
                  · rw [pk_un (by omega)]
                    exact s6
              · rw [w3 6 i' (fun q => ei q.2), w3 7 i' (fun q => ei q.2), w3 8 i' (fun q => ei q.2), pk_un (by omega), pk_un (by omega), v4 _ (by omega), x2 4 (by omega) (by omega) (by omega), vu_n (by omega), y2 4 (by omega) (by omega) (by omega)]
                exact ⟨s1, s2, s3, ⟨by omega, by omega⟩, s5, s6⟩
            · rw [pk_un (by omega), pk_un (by omega)]
              exact r2.2.2.2.2 j j1 j2
          have m9 : vp_nar .boolean (M3 9 f) = M3 9 f := vbb (by
            rw [v2 9 (by omega), (x3 f hf).2.2]
            split
            · exact Or.inr rfl
            · exact Or.inl rfl)
          refine ⟨M2 7 f, va_up (va_up M3 5 (upd (M3 5) (4 * i + f) (M3 8 f))) 6 (upd (M3 6) (4 * i + f) (M3 9 f)), Z2, em _ ?_, ⟨S, C, E, P, H⟩, Or.inl ⟨ec _ ?_, ?_⟩⟩
          · rw [mb1.2, cl1_s, if_neg (by decide)]
            unfold fX7_blow_56
            rw [m_holds_0, cl2_s, if_neg (by decide), x1, cl1_s]
            rw [show lf4 fX7_blow_75 100 (nI i) (nI f) 0 M2 = fX7_blow_105 (nI i) (nI f) M3 from v1]
            unfold fX7_blow_105
            rw [gdn hf (by omega), u_l4, nI_add, gdn (by omega) (by omega), bnd_e, gdn hf (by omega), gdn (by omega) (by omega), bnd_e, gdn hf (by omega), nIc (by omega), nIc (by omega)]
            rw [vu_n (show (9 : Nat) ≠ 5 by omega), vu_n (show (6 : Nat) ≠ 5 by omega), m9, vu_n (show (7 : Nat) ≠ 6 by omega), vu_n (show (7 : Nat) ≠ 5 by omega), v2 7 (by omega)]
          · rw [cb1.2, cl1_s, c_rs_1, cx1_l, w1, cl1_s, w2, cLv5 hi, gdt, gdn hf (by omega), nIc (by omega), e7 f hf]
          · rw [vu_n (by omega), vu_n (by omega), v2 0 (by omega), x2 0 (by omega) (by omega) (by omega)]
            rfl
        · have mb0 := mb.resolve_left (fun q => hB q.1)
          have cb0 := cb.resolve_left (fun q => hB q.1)
          refine sI_err (cd := 3) (j := 2) (M' := M1) ⟨S, C, E, P, h1⟩ (em _ ?_) (ec _ ?_) rfl rfl
          · rw [mb0.2, cl1_s, if_pos (by decide)]
            rfl
          · rw [cb0.2, cl1_s, c_rs_0, cx1_r]
      · refine sI_err (cd := 2) (j := 1) (M' := M1) ⟨S, C, E, P, h1⟩ ?_ ?_ rfl rfl
        · unfold fX7_blow
          rw [h.isField hi hf, cl1_s, if_neg (by decide), y1, cl1_s]
          unfold fX7_blow_18
          rw [if_neg (by decide), m_isIn_f hg]
          rfl
        · unfold fX6_blow
          rw [h.panAt hi, cx1_l, c_ri_t4 hf, cx1_l, c_rr_f hg, cx1_r]
    · refine sI_err (cd := 1) (j := 0) ⟨S, C, E, P, h⟩ ?_ ?_ rfl rfl
      · unfold fX7_blow
        rw [h.isFieldG hi hf, cl1_s, if_pos (by decide)]
        rfl
      · unfold fX6_blow
        rw [h.panAt hi, cx1_l, c_ri_f4 hf, cx1_r]
  · refine sI_err (cd := 1) (j := 0) ⟨S, C, E, P, h⟩ ?_ ?_ rfl rfl
    · unfold fX7_blow
      rw [h.isFieldF hf, cl1_s, if_pos (by decide)]
      rfl
    · unfold fX6_blow
      rw [h.panAtF hf, cx1_r]
/-! plan -/
theorem m_shift3 {d row : Nat} (hd : d ≤ 3) (hr : row < 32768) : (nI row >>> (((5 : Int32) * nI d) &&& 31)) &&& 31 = nI (row / 32 ^ d % 32) := by
  by_cases h : d ≤ 2
  · exact m_shift h hr
  · rw [show d = 3 by omega, pk_shrN (by omega) (((5 : Int32) * nI 3) &&& 31) 15 (by decide), pk_andN (Nat.lt_of_le_of_lt (Nat.div_le_self _ _) (by omega)) 5 (by decide)]
theorem dg_get : ∀ (l n j : Nat), j < l → (dg l n).getD j 0 = n / 32 ^ (l - 1 - j) % 32
  | 0, _, _, h => absurd h (by omega)
  | l + 1, n, 0, _ => rfl
  | l + 1, n, j + 1, h => by
    show (dg l n).getD j 0 = _
    rw [dg_get l n j (by omega), show l + 1 - 1 - (j + 1) = l - 1 - j by omega]
theorem u_zfr {Z' : CZ} (hz : zfr 6 0 Z Z') (h : uRR n Z M S C E P) : uRR n Z' M S C E P := by
  have zk : ∀ k, k ≠ 6 → k ≠ 7 → k ≠ 8 → k ≠ 15 → Z'.1 k = Z.1 k := fun k k6 k7 k8 k15 => funext fun j => hz.2.1 k j (fun q => q.1.elim k6 (fun q => q.elim k7 k8)) k15
  have zi : ∀ k i, i < 6 → k ≠ 15 → Z'.1 k i = Z.1 k i := fun k i hi k15 => hz.2.1 k i (fun q => by omega) k15
  obtain ⟨r1, r2, r⟩ := h
  unfold uRR
  rw [hz.1, zk 0 (by omega) (by omega) (by omega) (by omega), zk 3 (by omega) (by omega) (by omega) (by omega), zk 5 (by omega) (by omega) (by omega) (by omega), zk 9 (by omega) (by omega) (by omega) (by omega), zk 10 (by omega) (by omega) (by omega) (by omega), zk 11 (by omega) (by omega) (by omega) (by omega), zk 12 (by omega) (by omega) (by omega) (by omega), zk 14 (by omega) (by omega) (by omega) (by omega)]
  refine ⟨r1, ⟨r2.1, r2.2.1, r2.2.2.1, fun i f hi hf => ?_, r2.2.2.2.2⟩, r⟩
  have := r2.1
  rw [zi 6 i (by omega) (by omega), zi 7 i (by omega) (by omega), zi 8 i (by omega) (by omega)]
  exact r2.2.2.2.1 i f hi hf
theorem ok_plan (hn : n < 512) : st_plan (uR n) (uR (n + 1)) := by
  rintro Z M ⟨S, C, E, P, h⟩ a1 a2
  have hnp := h.np.1
  rcases uIx_or a1 (n := Z.2.2 0) (by omega) with ⟨i, hi, rfl⟩ | hf
  · rcases rg_or a2 0 3 with ⟨h1, h2⟩ | hf
    · obtain ⟨k, _, hk, rfl⟩ := rg_nI (b := 0) (c := 3) (by omega) (by omega) h1 h2
      obtain ⟨e5, _, ⟨hh, h15, hm⟩, _⟩ := h.1
      obtain ⟨Z', z1, z2⟩ := c_find h15 (show i < 6 by omega) (h.pbd hi) (by omega) (by omega) 4 0 100 Z (by omega) (by omega) (cLv5 hi) h.ls3 (h.zrep hi)
      have hr0 : trep (va_up M 0 (fun _ => 0)) i (uPS M i) := h.trep hi
      obtain ⟨M', m1, m2⟩ := m_find (M := va_up M 0 (fun _ => 0)) h15 (show i < 6 by omega) hr0 (h.pbd hi) (by omega) (by omega) hm (pl := nI k) 4 0 40000 (va_up M 0 (fun _ => 0)) (by omega) (by omega) (fun k1 _ _ _ => rfl)
      have hZ : uRR n Z' M' S C E P := u_zfr z1 ((h.thr _).scr3 m1)
      have m0 : M' 0 0 = 0 := by
        rw [m1 0 (by omega) (by omega) (by omega)]
        rfl
      have em : ∀ r, lf4 fX7_plan_37 40000 (nI i) (nI k) (nI 0) (va_up M 0 (fun _ => 0)) = r → fX7_plan (nI i) (nI k) M = r := fun r hr => by
        unfold fX7_plan
        rw [h.isPan hi, cl1_s, if_neg (by decide), m_isIn_t h1 h2, cl1_s, if_neg (by decide)]
        unfold fX7_plan_27
        rw [m_holds_0, cl2_s, if_neg (by decide)]
        exact hr
      have ec : ∀ r, cl2 (lf4 fX3_findRow_2 100 i (nI hh) (nI 0) Z) (fun v7 Z8 => (if nI k = 0 then some (Sum.inl v7, Z8) else (if v7 < nI k then fX6_plan_54 (-1) Z8 else gd (gin (nI k - 1) 3) (fX6_plan_54 (Z8.1 15 0 (nI k - 1).toNatClampNeg) Z8)))) = r → fX6_plan (nI i) (nI k) Z = r := fun r hr => by
        unfold fX6_plan
        rw [h.panAt hi, cx1_l, c_rr_t h1 h2, cx1_l, e5, hm]
        exact hr
      rcases z2 with ⟨l0, w, _, l3, c1, ⟨f1, f2, f3, f4⟩, c3⟩ | ⟨c1, c2⟩
      · rcases m2 with ⟨d0, w', _, d3, g1, g2, g3, g4, g5⟩ | ⟨g1, g2⟩
        · have ed : d0 = l0 := by
            rcases Nat.lt_trichotomy d0 l0 with q | q | q
            · exact absurd g2 (c3 d0 (by omega) q w' g1)
            · exact q
            · exact absurd f2 (g4 l0 (by omega) q w f1)
          subst ed
          have ew : w' = w := by
            rcases Nat.lt_trichotomy w' w with q | q | q
            · exact absurd g2 (f3 w' q)
            · exact q
            · exact absurd f2 (g3 w q)
          subst ew
          have w32 : w' < 32768 := by
            have : 32 ^ d0 ≤ 32768 := by
              have : d0 = 0 ∨ d0 = 1 ∨ d0 = 2 ∨ d0 = 3 := by omega
              rcases this with rfl | rfl | rfl | rfl <;> decide
            omega
          by_cases k0 : k = 0
          · subst k0
            refine ⟨nI d0, M', Z', em _ ?_, ⟨S, C, E, P, hZ.up⟩, Or.inl ⟨ec _ ?_, m0⟩⟩
            · rw [g5]
              unfold fX7_plan_66
              rw [if_pos (by decide)]
              rfl
            · rw [c1, cl2_s, if_pos (by decide)]
          · have k0' : ¬ nI k = 0 := by
              rw [nIz (by omega)]
              exact k0
            by_cases kd : k ≤ d0
            · refine ⟨nI (w' / 32 ^ (d0 - k) % 32), M', Z', em _ ?_, ⟨S, C, E, P, hZ.up⟩, Or.inl ⟨ec _ ?_, m0⟩⟩
              · rw [g5]
                unfold fX7_plan_66
                rw [if_neg k0', if_pos (nI_le kd (by omega)), pk_sub kd, m_shift3 (by omega) w32]
                rfl
              · rw [c1, cl2_s, if_neg k0', if_neg (nI_nlt kd (by omega)), u_s1 (by omega), gdn (by omega) (by omega), nIc (by omega)]
                have := f4 (k - 1) (by omega)
                rw [Nat.zero_add, dg_get d0 w' (k - 1) (by omega), show d0 - 1 - (k - 1) = d0 - k by omega] at this
                rw [this]
                rfl
            · refine ⟨-1, M', Z', em _ ?_, ⟨S, C, E, P, hZ.up⟩, Or.inl ⟨ec _ ?_, m0⟩⟩
              · rw [g5]
                unfold fX7_plan_66
                rw [if_neg k0', if_neg (nI_ge (by omega) (by omega))]
                rfl
              · rw [c1, cl2_s, if_neg k0', if_pos (nI_lt (by omega) (by omega))]
                rfl
        · exact absurd f2 (g1 l0 (by omega) l3 w f1)
      · rcases m2 with ⟨d0, w', _, d3, g1, g2, g3, g4, g5⟩ | ⟨g1, g2⟩
        · exact absurd g2 (c2 d0 (by omega) d3 w' g1)
        · refine ⟨-1, M', Z', em _ g2, ⟨S, C, E, P, hZ.up⟩, Or.inl ⟨ec _ ?_, m0⟩⟩
          rw [c1, cl2_s]
          by_cases k0 : k = 0
          · subst k0
            rw [if_pos (by decide)]
          · rw [if_neg (by rw [nIz (by omega)]; exact k0), if_pos (by
              rw [i_lt, nIi (by omega), show ((-1 : Int32)).toInt = -1 from by decide]
              omega)]
            rfl
    · refine sI_err (cd := 2) (j := 1) ⟨S, C, E, P, h⟩ ?_ ?_ rfl rfl
      · unfold fX7_plan
        rw [h.isPan hi, cl1_s, if_neg (by decide), m_isIn_f hf, cl1_s, if_pos (by decide)]
        rfl
      · unfold fX6_plan
        rw [h.panAt hi, cx1_l, c_rr_f hf, cx1_r]
  · refine sI_err (cd := 1) (j := 0) ⟨S, C, E, P, h⟩ ?_ ?_ rfl rfl
    · unfold fX7_plan
      rw [h.isPanF hf, cl1_s, if_pos (by decide)]
      rfl
    · unfold fX6_plan
      rw [h.panAtF hf, cx1_r]
end URB
