/-! PURE PART. What each call does. -/
section URK9
variable {n : Nat} {Z : CZ} {M : MT} {S C : Nat → Nat} {E P : Nat → Nat → Nat}
theorem rr_t {k b c : Nat} (hb : b ≤ k) (hc : k ≤ c) (hC : c < 2147483648) : ¬ nI k < nI b ∧ ¬ nI c < nI k := ⟨by rw [nIlt (by omega) (by omega)]; omega, by rw [nIlt (by omega) (by omega)]; omega⟩
/-! reads -/
theorem k_seat (h : uRR n Z M S C E P) {b k : Nat} (hb : b < 4) (hk : k < S b) : fX6_seat (nI b) (nI k) Z = some (.inl (nI (P b k))) := by
  obtain ⟨h1, h2, h3, h4⟩ := h.2.2.2.2.2.2.1.2.1 b k hb hk
  unfold fX6_seat
  rw [h.bandAt hb, cx1_l, h.seatAt hb hk, cx1_l, cLv13 h1, gdt, h3, cl1_s, cLv9 h2, gdt, (h.2.2.2.2.1.2.2 _ h2).1]
theorem k_knows (h : uRR n Z M S C E P) {b k j : Nat} (hb : b < 4) (hk : k < S b) (hj : j < C b / 4) : fX6_knows (nI b) (nI k) (nI j) Z = some (.inl (M 19 (6 * (8 * b + k) + j))) := by
  have hC := (h.nC hb).1
  obtain ⟨h1, h2, h3, h4⟩ := h.2.2.2.2.2.2.1.2.1 b k hb hk
  obtain ⟨g1, g2⟩ := h.2.2.2.2.2.2.2.2.1 b k j hb hk (by omega)
  unfold fX6_knows
  rw [h.bandAt hb, cx1_l, h.seatAt hb hk, cx1_l, cx1_l, h.phr hb hj, cx1_l, cLv13 h1, gdt, gdn (by omega) (by omega), nIc (by omega), g1]
theorem k_ofBand0 (h : uRR n Z M S C E P) {b : Nat} (hb : b < 4) : fX6_ofBand (nI b) 0 Z = some (.inl (nI (S b))) := by
  unfold fX6_ofBand
  rw [h.bandAt hb, cx1_l, c_rr_t (by decide) (by decide), cx1_l, if_pos (by decide), cLv10 hb, gdt, cLv3 (show b + 4 < 8 by omega), gdt, (h.ls4 hb).size (by omega)]
  rfl
theorem k_ofBand1 (h : uRR n Z M S C E P) {b : Nat} (hb : b < 4) : fX6_ofBand (nI b) 1 Z = some (.inl (nI (C b))) := by
  unfold fX6_ofBand
  rw [h.bandAt hb, cx1_l, c_rr_t (by decide) (by decide), cx1_l, if_neg (by decide), if_pos (by decide), cLv10 hb, gdt, (h.nC hb).2.2]
theorem k_ofBand2 (h : uRR n Z M S C E P) {b : Nat} (hb : b < 4) : fX6_ofBand (nI b) 2 Z = some (.inl (nI (C b / 4))) := by
  unfold fX6_ofBand
  rw [h.bandAt hb, cx1_l, c_rr_t (by decide) (by decide), cx1_l, if_neg (by decide), if_neg (by decide), if_pos (by decide), cLv10 hb, gdt, h.phc hb]
  rfl
/-- what was heard: -1 if it did not perform -/
def uhd (M : MT) (b : Nat) : Int32 := if M 22 b = 0 then -1 else M 23 b
theorem uRR.uhd (h : uRR n Z M S C E P) {b : Nat} (hb : b < 4) : (M 22 b = 0 ∧ Z.1 10 b 5 = -1 ∧ uhd M b = -1 ∧ M 25 b = 0) ∨ ∃ a, a < 1000 ∧ M 22 b = 1 ∧ Z.1 10 b 5 = nI a ∧ uhd M b = nI a ∧ M 23 b = nI a := by
  rcases (h.2.2.2.2.2.2.2.2.2.2.1 b hb).2.2 with ⟨q1, q2, q3⟩ | ⟨q1, q2, a, q3, q4⟩
  · exact Or.inl ⟨q1, q2, if_pos q1, q3⟩
  · exact Or.inr ⟨a, q3, q1, q2.trans q4, (if_neg (by rw [q1]; decide)).trans q4, q4⟩
theorem k_ofBand3 (h : uRR n Z M S C E P) {b : Nat} (hb : b < 4) : fX6_ofBand (nI b) 3 Z = some (.inl (uhd M b)) := by
  unfold fX6_ofBand
  rw [h.bandAt hb, cx1_l, c_rr_t (by decide) (by decide), cx1_l, if_neg (by decide), if_neg (by decide), if_neg (by decide), if_pos (by decide), cLv10 hb, gdt]
  rcases h.uhd hb with ⟨_, q1, q2, _⟩ | ⟨a, _, _, q1, q2, _⟩
  · rw [q1, q2]
  · rw [q1, q2]
theorem k_ofBand4 (h : uRR n Z M S C E P) {b : Nat} (hb : b < 4) : fX6_ofBand (nI b) 4 Z = some (.inl (if M 21 b = M 1 0 then 1 else 0)) := by
  have g1 := (h.2.2.2.2.2.2.2.2.2.2.1 b hb).1
  unfold fX6_ofBand
  rw [h.bandAt hb, cx1_l, c_rr_t (by decide) (by decide), cx1_l, if_neg (by decide), if_neg (by decide), if_neg (by decide), if_neg (by decide), cLv10 hb, gdt, g1, h.1.2.1]
  split <;> rfl
theorem k_ofPlayer1 (h : uRR n Z M S C E P) {i : Nat} (hi : i < Z.2.2 1) : fX6_ofPlayer (nI i) 1 Z = some (.inl (nI (ucnt S P i))) := by
  have f8 := (h.2.2.2.2.2.2.2.1 i hi).1
  unfold fX6_ofPlayer
  rw [h.playerAt hi, cx1_l, c_rr_t (by decide) (by decide), cx1_l, if_neg (by decide), if_pos (by decide), cLv9 hi, gdt, f8]
theorem k_ofPlayer2 (h : uRR n Z M S C E P) {i : Nat} (hi : i < Z.2.2 1) : fX6_ofPlayer (nI i) 2 Z = some (.inl (M 12 i)) := by
  obtain ⟨o1, o2⟩ := h.2.2.2.2.2.1.1 i hi
  unfold fX6_ofPlayer
  rw [h.playerAt hi, cx1_l, c_rr_t (by decide) (by decide), cx1_l, if_neg (by decide), if_neg (by decide), cLv9 hi, gdt, o1]
  rcases hq : Z.2.1 9 i 2 with _ | q
  · rfl
  · have hqp := o2 q hq
    rw [op2_s, cLv5 hqp, gdt, h.2.1.2.2.1 q hqp]
    rfl
theorem k_field0 (h : uRR n Z M S C E P) {i f : Nat} (hi : i < Z.2.2 0) (hf : f < 4) : fX6_field (nI i) (nI f) 0 Z = some (.inl (M 4 (4 * i + f))) := by
  obtain ⟨e6, e7, e8, _⟩ := h.2.1.2.2.2.1 i f hi hf
  unfold fX6_field
  rw [h.panAt hi, cx1_l, c_ri_t4 hf, cx1_l, c_rr_t (by decide) (by decide), cx1_l, if_pos (by decide), cLv5 hi, gdt, gdn hf (by omega), nIc (by omega), e6]
theorem k_field1 (h : uRR n Z M S C E P) {i f : Nat} (hi : i < Z.2.2 0) (hf : f < 4) : fX6_field (nI i) (nI f) 1 Z = some (.inl (M 4 (4 * i + f) - M 2 0)) := by
  obtain ⟨e6, e7, e8, _⟩ := h.2.1.2.2.2.1 i f hi hf
  have e5 := h.1.1
  unfold fX6_field
  rw [h.panAt hi, cx1_l, c_ri_t4 hf, cx1_l, c_rr_t (by decide) (by decide), cx1_l, if_neg (by decide), if_pos (by decide), cLv5 hi, gdt, gdn hf (by omega), nIc (by omega), e6, e5]
theorem k_field2 (h : uRR n Z M S C E P) {i f : Nat} (hi : i < Z.2.2 0) (hf : f < 4) : fX6_field (nI i) (nI f) 2 Z = some (.inl (M 5 (4 * i + f))) := by
  obtain ⟨e6, e7, e8, _⟩ := h.2.1.2.2.2.1 i f hi hf
  unfold fX6_field
  rw [h.panAt hi, cx1_l, c_ri_t4 hf, cx1_l, c_rr_t (by decide) (by decide), cx1_l, if_neg (by decide), if_neg (by decide), if_pos (by decide), cLv5 hi, gdt, gdn hf (by omega), nIc (by omega), e7]
theorem k_field3 (h : uRR n Z M S C E P) {i f : Nat} (hi : i < Z.2.2 0) (hf : f < 4) : fX6_field (nI i) (nI f) 3 Z = some (.inl (M 6 (4 * i + f))) := by
  obtain ⟨e6, e7, e8, _, _, u⟩ := h.2.1.2.2.2.1 i f hi hf
  unfold fX6_field
  rw [h.panAt hi, cx1_l, c_ri_t4 hf, cx1_l, c_rr_t (by decide) (by decide), cx1_l, if_neg (by decide), if_neg (by decide), if_neg (by decide), if_pos (by decide), cLv5 hi, gdt, gdn hf (by omega), nIc (by omega), e8]
  rcases u with u | u
  · rw [u]
    rfl
  · rw [u]
    rfl
theorem k_field4 (hn : n < 512) (h : uRR n Z M S C E P) {i f : Nat} (hi : i < Z.2.2 0) (hf : f < 4) : fX6_field (nI i) (nI f) 4 Z = some (.inl (if (uPS M i).2.1 f ≤ 6 then 0 else 1)) := by
  unfold fX6_field
  rw [h.panAt hi, cx1_l, c_ri_t4 hf, cx1_l, c_rr_t (by decide) (by decide), cx1_l, if_neg (by decide), if_neg (by decide), if_neg (by decide), if_neg (by decide), cLv5 hi, gdt, c_cracked (cLv5 hi) (h.zrep hi) (h.pbd hi) (by omega) hf, cl1_s]
  split <;> rfl
theorem k_isInTune (hn : n < 512) (h : uRR n Z M S C E P) {i hh : Nat} (hi : i < Z.2.2 0) (h15 : hh ≤ 15) (hm : M 2 0 = nI hh) : (pTn (uPS M i) hh ∧ fX6_isInTune (nI i) Z = some (.inl 1)) ∨ (¬ pTn (uPS M i) hh ∧ fX6_isInTune (nI i) Z = some (.inl 0)) := by
  have ct := c_tuned hn h hi h15
  have e5 := h.1.1
  have ec : ∀ v, fX1_isTunable i (nI hh) 0 Z = some v → (v = 0 ∨ v = 1) → fX6_isInTune (nI i) Z = some (.inl v) := fun v hv h01 => by
    unfold fX6_isInTune
    rw [h.panAt hi, cx1_l, cLv5 hi, gdt, e5, hm, hv, cl1_s, gdb h01]
  by_cases q : pTn (uPS M i) hh
  · exact Or.inl ⟨q, ec 1 (ct.1 q) (Or.inr rfl)⟩
  · exact Or.inr ⟨q, ec 0 (ct.2 q) (Or.inl rfl)⟩
/-- the plan of a pan -/
theorem k_plan (hn : n < 512) (h : uRR n Z M S C E P) {i k hh : Nat} (hi : i < Z.2.2 0) (hk : k ≤ 3) (h15 : hh ≤ 15) (hm : M 2 0 = nI hh) : ∃ Z', uRR n Z' M S C E P ∧ Z'.2 = Z.2 ∧ ((∃ l w, l ≤ 3 ∧ w < 32 ^ l ∧ pGood hh (dg l w) (uPS M i) ∧ (∀ w', w' < w → ¬ pGood hh (dg l w') (uPS M i)) ∧ (∀ l', l' < l → pNone hh l' (uPS M i)) ∧ fX6_plan (nI i) (nI k) Z = some (.inl (if k = 0 then nI l else if k ≤ l then nI ((dg l w).getD (k - 1) 0) else -1), Z')) ∨ ((∀ l', l' ≤ 3 → pNone hh l' (uPS M i)) ∧ fX6_plan (nI i) (nI k) Z = some (.inl (-1), Z'))) := by
  have hnp := h.np.1
  have e5 := h.1.1
  obtain ⟨Z', z1, z2⟩ := c_find h15 (show i < 6 by omega) (h.pbd hi) (by omega) (by omega) 4 0 100 Z (by omega) (by omega) (cLv5 hi) h.ls3 (h.zrep hi)
  have ec : ∀ r, cl2 (lf4 fX3_findRow_2 100 i (nI hh) (nI 0) Z) (fun v7 Z8 => (if nI k = 0 then some (Sum.inl v7, Z8) else (if v7 < nI k then fX6_plan_54 (-1) Z8 else gd (gin (nI k - 1) 3) (fX6_plan_54 (Z8.1 15 0 (nI k - 1).toNatClampNeg) Z8)))) = r → fX6_plan (nI i) (nI k) Z = r := fun r hr => by
    unfold fX6_plan
    rw [h.panAt hi, cx1_l, c_rr_t (b := 0) (c := 3) (rr_t (b := 0) (c := 3) (by omega) hk (by omega)).1 (rr_t (b := 0) (c := 3) (by omega) hk (by omega)).2, cx1_l, e5, hm]
    exact hr
  refine ⟨Z', u_zfr z1 h, z1.1, ?_⟩
  rcases z2 with ⟨l0, w, _, l3, c1, ⟨f1, f2, f3, f4⟩, c3⟩ | ⟨c1, c2⟩
  · refine Or.inl ⟨l0, w, l3, f1, f2, f3, fun l' hl' => c3 l' (by omega) hl', ec _ ?_⟩
    by_cases k0 : k = 0
    · subst k0
      rw [c1, cl2_s, if_pos (by decide), if_pos rfl]
    · have k0' : ¬ nI k = 0 := by
        rw [nIz (by omega)]
        exact k0
      rw [if_neg k0]
      by_cases kd : k ≤ l0
      · rw [c1, cl2_s, if_neg k0', if_neg (nI_nlt kd (by omega)), u_s1 (by omega), gdn (by omega) (by omega), nIc (by omega), if_pos kd]
        have := f4 (k - 1) (by omega)
        rw [Nat.zero_add] at this
        rw [this]
        rfl
      · rw [c1, cl2_s, if_neg k0', if_pos (nI_lt (by omega) (by omega)), if_neg kd]
        rfl
  · refine Or.inr ⟨fun l' hl' => c2 l' (by omega) hl', ec _ ?_⟩
    rw [c1, cl2_s]
    by_cases k0 : k = 0
    · subst k0
      rw [if_pos (by decide)]
    · rw [if_neg (by rw [nIz (by omega)]; exact k0), if_pos (by
        rw [i_lt, nIi (by omega), show ((-1 : Int32)).toInt = -1 from by decide]
        omega)]
      rfl
theorem k_leaps (h : uRR n Z M S C E P) {b : Nat} (hb : b < 4) : ∃ Z', uRR n Z' M S C E P ∧ Z'.2 = Z.2 ∧ ((urdy M P (S b) b (C b / 4) (-1) ∧ fX6_leaps (nI b) Z = some (.inl (nI (uval M P (S b) b (C b / 4) (-1))), Z')) ∨ (¬ urdy M P (S b) b (C b / 4) (-1) ∧ fX6_leaps (nI b) Z = some (.inl (-1), Z'))) := by
  obtain ⟨Z', z1, z2⟩ := c_findBest (out := -1) h hb
  have ec : ∀ v, fX2_findBest b (-1) Z = some (v, Z') → fX6_leaps (nI b) Z = some (.inl v, Z') := fun v hv => by
    unfold fX6_leaps
    rw [h.bandAt hb, cx1_l, hv, cl2_s]
  refine ⟨Z', z1.uRR h, z1.1, ?_⟩
  rcases z2 with ⟨y1, y2, y3⟩ | ⟨y1, y2⟩
  · exact Or.inl ⟨y1, ec _ y2⟩
  · exact Or.inr ⟨y1, ec _ y2⟩
theorem k_without (h : uRR n Z M S C E P) {b k : Nat} (hb : b < 4) (hk : k < S b) : ∃ Z', uRR n Z' M S C E P ∧ Z'.2 = Z.2 ∧ ((urdy M P (S b) b (C b / 4) (nI k) ∧ fX6_without (nI b) (nI k) Z = some (.inl (nI (uval M P (S b) b (C b / 4) (nI k))), Z')) ∨ (¬ urdy M P (S b) b (C b / 4) (nI k) ∧ fX6_without (nI b) (nI k) Z = some (.inl (-1), Z'))) := by
  have hS := (h.nS hb).1
  obtain ⟨Z', z1, z2⟩ := c_findBest (out := nI k) h hb
  have ec : ∀ v, fX2_findBest b (nI k) Z = some (v, Z') → fX6_without (nI b) (nI k) Z = some (.inl v, Z') := fun v hv => by
    unfold fX6_without
    rw [h.bandAt hb, cx1_l, cLv10 hb, gdt, cLv3 (by omega), gdt, (h.ls4 hb).size (by omega), cl1_s, c_ri_t hk (by omega), cx1_l, hv, cl2_s]
  refine ⟨Z', z1.uRR h, z1.1, ?_⟩
  rcases z2 with ⟨y1, y2, y3⟩ | ⟨y1, y2⟩
  · exact Or.inl ⟨y1, ec _ y2⟩
  · exact Or.inr ⟨y1, ec _ y2⟩
theorem k_part (h : uRR n Z M S C E P) {b q : Nat} (hb : b < 4) (hq : q < C b / 4) : ∃ Z', uRR n Z' M S C E P ∧ Z'.2 = Z.2 ∧ ((urdy M P (S b) b (C b / 4) (-1) ∧ fX6_part (nI b) (nI q) Z = some (.inl (nI (uch M P (S b) b (C b / 4) (-1) q)), Z')) ∨ (¬ urdy M P (S b) b (C b / 4) (-1) ∧ fX6_part (nI b) (nI q) Z = some (.inl (-1), Z'))) := by
  have hC := (h.nC hb).1
  obtain ⟨Z', z1, z2⟩ := c_findBest (out := -1) h hb
  refine ⟨Z', z1.uRR h, z1.1, ?_⟩
  rcases z2 with ⟨y1, y2, y3⟩ | ⟨y1, y2⟩
  · refine Or.inl ⟨y1, ?_⟩
    unfold fX6_part
    rw [h.bandAt hb, cx1_l, h.phr hb hq, cx1_l, y2, cl2_s, if_neg (show ¬ (nI (uval M P (S b) b (C b / 4) (-1)) = (-1 : Int32)) from by rw [nIm1 (by have := uval_le h hb y1; omega)]; exact id), gdn (by omega) (by omega), nIc (by omega), y3 q hq]
    rfl
  · refine Or.inr ⟨y1, ?_⟩
    unfold fX6_part
    rw [h.bandAt hb, cx1_l, h.phr hb hq, cx1_l, y2, cl2_s, if_pos (by decide)]
    rfl
theorem k_rank (h : uRR n Z M S C E P) {p : Nat} (hp : p < 4) : ∃ w : Int32, fX6_rank (nI p) Z = some (.inl w) ∧ ((∀ b, b < 4 → M 25 b = 5 → un M b ≠ p) → w = -1) ∧ ∀ b, b < 4 → M 25 b = 5 → un M b = p → w = nI b := by
  obtain ⟨w, w1, w2, w3⟩ := c_rank_l h hp 4 0 100 (by omega) (by omega)
  refine ⟨w, ?_, fun q => w2 (fun b _ => q b), fun b => w3 b (by omega)⟩
  unfold fX6_rank
  rw [c_ri_t4 hp, cx1_l]
  exact w1
theorem k_score (h : uRR n Z M S C E P) {b : Nat} (hb : b < 4) : (M 25 b = 5 ∧ fX6_score (nI b) Z = some (.inl (uS M b))) ∨ (¬ M 25 b = 5 ∧ fX6_score (nI b) Z = some (.inr 3)) := by
  by_cases hr : M 25 b = 5
  · refine Or.inl ⟨hr, ?_⟩
    unfold fX6_score
    rw [h.bandAt hb, cx1_l, cLv10 hb, gdt, h.crk hb, cl1_s, if_pos hr, c_rs_1, cx1_l, h.csc hb, cl1_s]
  · refine Or.inr ⟨hr, ?_⟩
    unfold fX6_score
    rw [h.bandAt hb, cx1_l, cLv10 hb, gdt, h.crk hb, cl1_s, if_neg hr, c_rs_0, cx1_r]
end URK9
