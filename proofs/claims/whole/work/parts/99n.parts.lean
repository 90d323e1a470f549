/-! PURE PART. leaps, part, without, perform. -/
section URPT
variable {n : Nat} {Z : CZ} {M : MT} {S C : Nat → Nat} {E P : Nat → Nat → Nat} {b : Nat}
theorem u_far {v : Nat} (hv : v ≤ 1000) : ¬ ((1000000 : Int32) ≤ nI v) := nI_ge (b := 1000000) (by omega) (by omega)
theorem ok_leaps : st_leaps (uR n) (uR (n + 1)) := by
  rintro Z M ⟨S, C, E, P, h⟩ a1
  rcases uIx_or a1 (n := 4) (by omega) with ⟨b, hb, rfl⟩ | hf
  · have h0 : uRR n Z (va_up M 0 (fun _ => 0)) S C E P := h.thr _
    obtain ⟨Z', z1, z2⟩ := c_findBest (out := -1) h0 hb
    obtain ⟨M', m1, m2⟩ := m_lays (out := -1) h0 hb
    have H : uRR n Z' M' S C E P := m1.uRR (z1.uRR h0)
    have m0 : M' 0 0 = 0 := by
      rw [m1 0 (by omega) (by omega)]
      rfl
    have em : ∀ r, cl2 (fX7_lays (nI b) (-1) (va_up M 0 (fun _ => 0))) (fun v6 M7 => (if (1000000 : Int32) ≤ v6 then fX7_leaps_39 (-1) M7 else fX7_leaps_39 v6 M7)) = r → fX7_leaps (nI b) M = r := fun r hr => by
      unfold fX7_leaps
      rw [m_isBand hb, cl1_s, if_neg (by decide)]
      unfold fX7_leaps_13
      rw [m_holds_0, cl2_s, if_neg (by decide)]
      exact hr
    have ec : ∀ v, fX2_findBest b (-1) Z = some (v, Z') → fX6_leaps (nI b) Z = some (.inl v, Z') := fun v hv => by
      unfold fX6_leaps
      rw [h.bandAt hb, cx1_l, hv, cl2_s]
    rcases z2 with ⟨y1, y2, y3⟩ | ⟨y1, y2⟩
    · have x := (m2.resolve_right (fun q => q.1 y1)).2.1
      have hv := uval_le h0 hb y1
      exact ⟨_, M', Z', em _ (by rw [x, cl2_s, if_neg (u_far (by omega))]; rfl), uR.intro S C E P H, Or.inl ⟨ec _ y2, m0⟩⟩
    · have x := (m2.resolve_left (fun q => y1 q.1)).2
      exact ⟨-1, M', Z', em _ (by rw [x, cl2_s, if_pos (by decide)]; rfl), uR.intro S C E P H, Or.inl ⟨ec _ y2, m0⟩⟩
  · refine sI_err (cd := 1) (j := 0) ⟨S, C, E, P, h⟩ ?_ ?_ rfl rfl
    · unfold fX7_leaps
      rw [m_isBandF hf, cl1_s, if_pos (by decide)]
      rfl
    · unfold fX6_leaps
      rw [h.bandAtF hf, cx1_r]
theorem ok_without : st_without (uR n) (uR (n + 1)) := by
  rintro Z M ⟨S, C, E, P, h⟩ a1 a2
  rcases uIx_or a1 (n := 4) (by omega) with ⟨b, hb, rfl⟩ | hf
  · have hS := (h.nS hb).1
    rcases uIx_or a2 (n := S b) (by omega) with ⟨k, hk, rfl⟩ | hf
    · have h0 : uRR n Z (va_up M 0 (fun _ => 0)) S C E P := h.thr _
      obtain ⟨Z', z1, z2⟩ := c_findBest (out := nI k) h0 hb
      obtain ⟨M', m1, m2⟩ := m_lays (out := nI k) h0 hb
      have H : uRR n Z' M' S C E P := m1.uRR (z1.uRR h0)
      have m0 : M' 0 0 = 0 := by
        rw [m1 0 (by omega) (by omega)]
        rfl
      have em : ∀ r, cl2 (fX7_lays (nI b) (nI k) (va_up M 0 (fun _ => 0))) (fun v6 M7 => (if (1000000 : Int32) ≤ v6 then fX7_without_41 (-1) M7 else fX7_without_41 v6 M7)) = r → fX7_without (nI b) (nI k) M = r := fun r hr => by
        unfold fX7_without
        rw [h.isSeat hb hk, cl1_s, if_neg (by decide)]
        unfold fX7_without_15
        rw [m_holds_0, cl2_s, if_neg (by decide)]
        exact hr
      have ec : ∀ v, fX2_findBest b (nI k) Z = some (v, Z') → fX6_without (nI b) (nI k) Z = some (.inl v, Z') := fun v hv => by
        unfold fX6_without
        rw [h.bandAt hb, cx1_l, cLv10 hb, gdt, cLv3 (by omega), gdt, (h.ls4 hb).size (by omega), cl1_s, c_ri_t hk (by omega), cx1_l, hv, cl2_s]
      rcases z2 with ⟨y1, y2, y3⟩ | ⟨y1, y2⟩
      · have x := (m2.resolve_right (fun q => q.1 y1)).2.1
        have hv := uval_le h0 hb y1
        exact ⟨_, M', Z', em _ (by rw [x, cl2_s, if_neg (u_far (by omega))]; rfl), uR.intro S C E P H, Or.inl ⟨ec _ y2, m0⟩⟩
      · have x := (m2.resolve_left (fun q => y1 q.1)).2
        exact ⟨-1, M', Z', em _ (by rw [x, cl2_s, if_pos (by decide)]; rfl), uR.intro S C E P H, Or.inl ⟨ec _ y2, m0⟩⟩
    · refine sI_err (cd := 1) (j := 0) ⟨S, C, E, P, h⟩ ?_ ?_ rfl rfl
      · unfold fX7_without
        rw [h.isSeatF hb hf, cl1_s, if_pos (by decide)]
        rfl
      · unfold fX6_without
        rw [h.bandAt hb, cx1_l, cLv10 hb, gdt, cLv3 (by omega), gdt, (h.ls4 hb).size (by omega), cl1_s, c_ri_f hf, cx1_r]
  · refine sI_err (cd := 1) (j := 0) ⟨S, C, E, P, h⟩ ?_ ?_ rfl rfl
    · unfold fX7_without
      rw [m_isSeatF hf, cl1_s, if_pos (by decide)]
      rfl
    · unfold fX6_without
      rw [h.bandAtF hf, cx1_r]
theorem uch_lt (h : uRR n Z M S C E P) (hb : b < 4) {out : Int32} (hy : urdy M P (S b) b (C b / 4) out) {q : Nat} (hq : q < C b / 4) : uch M P (S b) b (C b / 4) out q < S b := by
  obtain ⟨k0, v0, hbst⟩ := pBest_ex (f := uf M P b q (uah' M P (S b) b (C b / 4) out q)) (S b) (hy.2 q hq)
  rw [uch_eq hbst]
  exact hbst.1
theorem ok_part : st_part (uR n) (uR (n + 1)) := by
  rintro Z M ⟨S, C, E, P, h⟩ a1 a2
  rcases uIx_or a1 (n := 4) (by omega) with ⟨b, hb, rfl⟩ | hf
  · have hS := (h.nS hb).1
    have hC := (h.nC hb).1
    rcases uIx_or a2 (n := C b / 4) (by omega) with ⟨p, hp, rfl⟩ | hf
    · have h0 : uRR n Z (va_up M 0 (fun _ => 0)) S C E P := h.thr _
      obtain ⟨Z', z1, z2⟩ := c_findBest (out := -1) h0 hb
      obtain ⟨M', m1, m2⟩ := m_lays (out := -1) h0 hb
      have H : uRR n Z' M' S C E P := m1.uRR (z1.uRR h0)
      have m0 : M' 0 0 = 0 := by
        rw [m1 0 (by omega) (by omega)]
        rfl
      have em : ∀ r, cl2 (fX7_lays (nI b) (-1) (va_up M 0 (fun _ => 0))) (fun v6 M7 => (if (1000000 : Int32) ≤ v6 then fX7_part_44 (-1) M7 else gd (gin (nI p) 6) (fX7_part_44 (M7 28 (nI p).toNatClampNeg) M7))) = r → fX7_part (nI b) (nI p) M = r := fun r hr => by
        unfold fX7_part
        rw [h.isPhrase hb hp, cl1_s, if_neg (by decide)]
        unfold fX7_part_15
        rw [m_holds_0, cl2_s, if_neg (by decide)]
        exact hr
      have ec : ∀ r, cl2 (fX2_findBest b (-1) Z) (fun v7 Z8 => (if v7 = (-1 : Int32) then fX6_part_37 (-1 : Int32) Z8 else gd (gin (nI p) 6) (fX6_part_37 (Z8.1 16 0 (nI p).toNatClampNeg) Z8))) = r → fX6_part (nI b) (nI p) Z = r := fun r hr => by
        unfold fX6_part
        rw [h.bandAt hb, cx1_l, h.phr hb hp, cx1_l]
        exact hr
      rcases z2 with ⟨y1, y2, y3⟩ | ⟨y1, y2⟩
      · obtain ⟨_, x, x3⟩ := m2.resolve_right (fun q => q.1 y1)
        have hv := uval_le h0 hb y1
        refine ⟨nI (uch (va_up M 0 (fun _ => 0)) P (S b) b (C b / 4) (-1) p), M', Z', em _ ?_, uR.intro S C E P H, Or.inl ⟨ec _ ?_, m0⟩⟩
        · rw [x, cl2_s, if_neg (u_far (by omega)), gdn (by omega) (by omega), nIc (by omega), x3 p hp]
          rfl
        · rw [y2, cl2_s, if_neg (by rw [nIm1 (by omega)]; exact id), gdn (by omega) (by omega), nIc (by omega), y3 p hp]
          rfl
      · have x := (m2.resolve_left (fun q => y1 q.1)).2
        exact ⟨-1, M', Z', em _ (by rw [x, cl2_s, if_pos (by decide)]; rfl), uR.intro S C E P H, Or.inl ⟨ec _ (by rw [y2, cl2_s, if_pos (by decide)]; rfl), m0⟩⟩
    · refine sI_err (cd := 1) (j := 0) ⟨S, C, E, P, h⟩ ?_ ?_ rfl rfl
      · unfold fX7_part
        rw [h.isPhraseF hb hf, cl1_s, if_pos (by decide)]
        rfl
      · unfold fX6_part
        rw [h.bandAt hb, cx1_l, h.phrF hb hf, cx1_r]
  · refine sI_err (cd := 1) (j := 0) ⟨S, C, E, P, h⟩ ?_ ?_ rfl rfl
    · unfold fX7_part
      rw [m_isPhraseF hf, cl1_s, if_pos (by decide)]
      rfl
    · unfold fX6_part
      rw [h.bandAtF hf, cx1_r]
/-! perform -/
def upl (ch : Nat → Nat) (ph k : Nat) : Prop := ∃ q, q < ph ∧ ch q = k
def utn (Z : CZ) (M : MT) (P : Nat → Nat → Nat) (b hh k : Nat) : Prop := ∃ q, Z.2.1 9 (P b k) 2 = some q ∧ pTn (uPS M q) hh
noncomputable def ucu (Z : CZ) (M : MT) (P : Nat → Nat → Nat) (b hh : Nat) (ch : Nat → Nat) (ph : Nat) : Nat → Nat
  | 0 => 0
  | k + 1 => ucu Z M P b hh ch ph k + @ite _ (upl ch ph k ∧ ¬ utn Z M P b hh k) (Classical.propDecidable _) 1 0
theorem ucu_t {hh ph k : Nat} {ch : Nat → Nat} (h : upl ch ph k ∧ ¬ utn Z M P b hh k) : ucu Z M P b hh ch ph (k + 1) = ucu Z M P b hh ch ph k + 1 := congrArg (ucu Z M P b hh ch ph k + ·) (if_pos h)
theorem ucu_f {hh ph k : Nat} {ch : Nat → Nat} (h : ¬ (upl ch ph k ∧ ¬ utn Z M P b hh k)) : ucu Z M P b hh ch ph (k + 1) = ucu Z M P b hh ch ph k := congrArg (ucu Z M P b hh ch ph k + ·) (if_neg h)
theorem ucu_le {hh ph : Nat} {ch : Nat → Nat} : ∀ k, ucu Z M P b hh ch ph k ≤ k
  | 0 => Nat.le_refl 0
  | k + 1 => by
    have := ucu_le (hh := hh) (ph := ph) (ch := ch) k
    by_cases h : upl ch ph k ∧ ¬ utn Z M P b hh k
    · rw [ucu_t h]
      omega
    · rw [ucu_f h]
      omega
theorem c_isPlaying {ph k : Nat} {ch : Nat → Nat} (hph : ph ≤ 6) (hk : k < 8) (hch : ∀ q, q < ph → Z.1 16 0 q = nI (ch q) ∧ ch q < 8) : ∀ (d q fuel : Nat), q + d = ph → d < fuel → ((∃ q', q ≤ q' ∧ q' < ph ∧ ch q' = k) → lf3 (fX2_isPlaying_2 Z) fuel (nI k) (nI ph) (nI q) = some 1) ∧ (¬ (∃ q', q ≤ q' ∧ q' < ph ∧ ch q' = k) → lf3 (fX2_isPlaying_2 Z) fuel (nI k) (nI ph) (nI q) = some 0)
  | _, _, 0, _, hf => absurd hf (by omega)
  | 0, q, fuel + 1, hq, _ => by
    refine ⟨fun ⟨q', h1, h2, _⟩ => by omega, fun _ => ?_⟩
    rw [lf3_s]
    unfold fX2_isPlaying_2
    rw [if_pos (nI_le (by omega) (by omega))]
    rfl
  | d + 1, q, fuel + 1, hq, hf => by
    obtain ⟨i1, i2⟩ := c_isPlaying hph hk hch d (q + 1) fuel (by omega) (by omega)
    obtain ⟨e1, e2⟩ := hch q (by omega)
    have step : lf3 (fX2_isPlaying_2 Z) (fuel + 1) (nI k) (nI ph) (nI q) = if ch q = k then some 1 else lf3 (fX2_isPlaying_2 Z) fuel (nI k) (nI ph) (nI (q + 1)) := by
      rw [lf3_s]
      rw [show fX2_isPlaying_2 Z (lf3 (fX2_isPlaying_2 Z) fuel) (nI k) (nI ph) (nI q) = (if nI ph ≤ nI q then fX2_isPlaying_25 Z else gd (gin (nI q) 6) ((if (Z.1 16 0 (Int32.toNatClampNeg (nI q))) = nI k then fX2_isPlaying_17 Z else bnd (nI q + (1 : Int32)) (fun v2 => lf3 (fX2_isPlaying_2 Z) fuel (nI k) (nI ph) v2)))) from rfl]
      rw [if_neg (nI_ge (by omega) (by omega)), gdn (by omega) (by omega), nIc (by omega), e1, bnd_e, u_a1]
      by_cases hc : ch q = k
      · rw [if_pos (by rw [hc]), if_pos hc]
        rfl
      · rw [if_neg (by rw [nIe (by omega) (by omega)]; exact hc), if_neg hc]
    rw [step]
    by_cases hc : ch q = k
    · rw [if_pos hc]
      exact ⟨fun _ => rfl, fun hn => absurd ⟨q, Nat.le_refl q, by omega, hc⟩ hn⟩
    · rw [if_neg hc]
      refine ⟨fun ⟨q', h1, h2, h3⟩ => i1 ⟨q', by
        by_cases e : q' = q
        · rw [e] at h3
          exact absurd h3 hc
        · omega, h2, h3⟩, fun hn => i2 (fun ⟨q', h1, h2, h3⟩ => hn ⟨q', by omega, h2, h3⟩)⟩
theorem c_untuned (hn : n < 512) (h : uRR n Z M S C E P) (hb : b < 4) {hh : Nat} (h15 : hh ≤ 15) {ch : Nat → Nat} (hch : ∀ q, q < C b / 4 → Z.1 16 0 q = nI (ch q) ∧ ch q < 8) : ∀ (d x fuel : Nat), x + d = S b → d < fuel → lf4 (fX2_countUntuned_5 Z) fuel b (nI hh) (nI (ucu Z M P b hh ch (C b / 4) x)) (nI x) = some (nI (ucu Z M P b hh ch (C b / 4) (S b)))
  | _, _, 0, _, hf => absurd hf (by omega)
  | 0, x, fuel + 1, hx, _ => by
    have hS := h.nS hb
    rw [lf4_s]
    unfold fX2_countUntuned_5
    rw [cLv10 hb, gdt, cLv3 (by omega), gdt, (h.ls4 hb).size (by omega), cl1_s, if_pos (nI_le (by omega) (by omega)), show x = S b by omega]
    rfl
  | d + 1, x, fuel + 1, hx, hf => by
    have hS := h.nS hb
    have hC := (h.nC hb).1
    have hxS : x < S b := by omega
    obtain ⟨p1, p2, p3, p4⟩ := h.2.2.2.2.2.2.1.2.1 b x hb hxS
    obtain ⟨i1, i2⟩ := c_isPlaying (Z := Z) (k := x) (ph := C b / 4) (by omega) (by omega) hch (C b / 4) 0 100 (by omega) (by omega)
    have ih := c_untuned hn h hb h15 hch d (x + 1) fuel (by omega) (by omega)
    have tn : (utn Z M P b hh x ∧ fX4_hasTunedPan (P b x) (nI hh) Z = some 1) ∨ (¬ utn Z M P b hh x ∧ fX4_hasTunedPan (P b x) (nI hh) Z = some 0) := by
      unfold fX4_hasTunedPan
      rw [cLv9 p2, gdt]
      rcases hq : Z.2.1 9 (P b x) 2 with _ | q
      · refine Or.inr ⟨fun ⟨q, q1, _⟩ => ?_, rfl⟩
        rw [hq] at q1
        cases q1
      · have hqp := (h.2.2.2.2.2.1.1 _ p2).2 q hq
        obtain ⟨t1, t2⟩ := c_tuned hn h hqp h15
        rw [op2_s, cLv5 hqp, gdt]
        by_cases ht : pTn (uPS M q) hh
        · rw [t1 ht]
          exact Or.inl ⟨⟨q, hq, ht⟩, rfl⟩
        · rw [t2 ht]
          refine Or.inr ⟨fun ⟨q', q1, q2⟩ => ?_, rfl⟩
          rw [hq] at q1
          cases q1
          exact ht q2
    have step : ∀ v : Int32, fX2_isPlaying (nI x) (nI (C b / 4)) Z = some v → lf4 (fX2_countUntuned_5 Z) (fuel + 1) b (nI hh) (nI (ucu Z M P b hh ch (C b / 4) x)) (nI x) = (if v = 0 then lf4 (fX2_countUntuned_5 Z) fuel b (nI hh) (nI (ucu Z M P b hh ch (C b / 4) x)) (nI (x + 1)) else cl1 (fX4_hasTunedPan (P b x) (nI hh) Z) (fun v15 => (if v15 = 0 then lf4 (fX2_countUntuned_5 Z) fuel b (nI hh) (nI (ucu Z M P b hh ch (C b / 4) x + 1)) (nI (x + 1)) else lf4 (fX2_countUntuned_5 Z) fuel b (nI hh) (nI (ucu Z M P b hh ch (C b / 4) x)) (nI (x + 1))))) := fun v hv => by
      rw [lf4_s]
      rw [show fX2_countUntuned_5 Z (lf4 (fX2_countUntuned_5 Z) fuel) b (nI hh) (nI (ucu Z M P b hh ch (C b / 4) x)) (nI x) = gd (cLv Z.2.2 10 b) (gd (cLv Z.2.2 3 (b + 4)) (cl1 (fJx4a65c_size_8abf5 (b + 4) Z) (fun v3 => (if v3 ≤ nI x then fX2_countUntuned_61 Z (nI (ucu Z M P b hh ch (C b / 4) x)) else cl1 (fX0_phraseCount b Z) (fun v5 => cl1 (fX2_isPlaying (nI x) v5 Z) (fun v7 => (if v7 = 0 then lf4 (fX2_countUntuned_5 Z) fuel b (nI hh) (nI (ucu Z M P b hh ch (C b / 4) x)) (nI x + 1) else cl1 (fJx4a65c_get_915e3 (b + 4) (nI x) Z) (fun q9 => gd (cLv Z.2.2 13 q9) (cl1 (Z.2.1 13 q9 0) (fun q12 => gd (cLv Z.2.2 9 q12) (cl1 (fX4_hasTunedPan q12 (nI hh) Z) (fun v15 => (if v15 = 0 then bnd (nI (ucu Z M P b hh ch (C b / 4) x) + (1 : Int32)) (fun v17 => lf4 (fX2_countUntuned_5 Z) fuel b (nI hh) v17 (nI x + 1)) else lf4 (fX2_countUntuned_5 Z) fuel b (nI hh) (nI (ucu Z M P b hh ch (C b / 4) x)) (nI x + 1)))))))))))))) from rfl]
      rw [cLv10 hb, gdt, cLv3 (by omega), gdt, (h.ls4 hb).size (by omega), cl1_s, if_neg (nI_ge hxS (by omega)), h.phc hb, cl1_s, hv, cl1_s, (h.ls4 hb).get (by omega) hxS, cl1_s, cLv13 p1, gdt, p3, cl1_s, cLv9 p2, gdt, bnd_e, u_a1, u_a1]
    by_cases hpl : upl ch (C b / 4) x
    · obtain ⟨q', q1, q2⟩ := hpl
      rw [step 1 (i1 ⟨q', by omega, q1, q2⟩), if_neg (by decide)]
      rcases tn with ⟨t1, t2⟩ | ⟨t1, t2⟩
      · rw [t2, cl1_s, if_neg (by decide)]
        rw [ucu_f (fun q => q.2 t1)] at ih
        exact ih
      · rw [t2, cl1_s, if_pos (by decide)]
        rw [ucu_t ⟨⟨q', q1, q2⟩, t1⟩] at ih
        exact ih
    · rw [step 0 (i2 (fun ⟨q', _, q1, q2⟩ => hpl ⟨q', q1, q2⟩)), if_pos (by decide)]
      rw [ucu_f (fun q => hpl q.1)] at ih
      exact ih
theorem m_doesPlay_l (h : uRR n Z M S C E P) (hb : b < 4) {k : Nat} {ch : Nat → Nat} (hk : k < 8) (hch : ∀ q, q < C b / 4 → M 28 q = nI (ch q) ∧ ch q < 8) : ∀ (d q fuel : Nat) (v : Int32), q + d = C b / 4 → d < fuel → (v = 0 ∨ v = 1) → ∃ w : Int32, lf4 (fX7_doesPlay_5 M) fuel (nI b) (nI k) v (nI q) = some w ∧ (w = 0 ∨ w = 1) ∧ (w = 1 ↔ v = 1 ∨ ∃ q', q ≤ q' ∧ q' < C b / 4 ∧ ch q' = k)
  | _, _, 0, _, _, hf, _ => absurd hf (by omega)
  | 0, q, fuel + 1, v, hq, _, hv => by
    have hC := h.nC hb
    refine ⟨v, ?_, hv, ⟨Or.inl, fun z => z.resolve_right (fun ⟨q', h1, h2, _⟩ => by omega)⟩⟩
    rw [lf4_s]
    unfold fX7_doesPlay_5
    rw [gdn hb (by omega), nIc (by omega), hC.2.1, u_d4 (by omega), if_pos (nI_le (by omega) (by omega))]
    unfold fX7_doesPlay_45
    rw [gdb hv]
  | d + 1, q, fuel + 1, v, hq, hf, hv => by
    have hC := h.nC hb
    obtain ⟨e1, e2⟩ := hch q (by omega)
    obtain ⟨t, ht⟩ : ∃ t : Int32, t = (if v = 1 ∨ ch q = k then 1 else 0) := ⟨_, rfl⟩
    have ht01 : t = 0 ∨ t = 1 := by
      rw [ht]
      split
      · exact Or.inr rfl
      · exact Or.inl rfl
    obtain ⟨w, w1, w2, w3⟩ := m_doesPlay_l h hb hk hch d (q + 1) fuel t (by omega) (by omega) ht01
    refine ⟨w, ?_, w2, ?_⟩
    · rw [← w1, lf4_s]
      rw [show fX7_doesPlay_5 M (lf4 (fX7_doesPlay_5 M) fuel) (nI b) (nI k) v (nI q) = gd (gin (nI b) 4) ((if ((M 17 (Int32.toNatClampNeg (nI b))) / (4 : Int32)) ≤ nI q then fX7_doesPlay_45 M v else (if v = 0 then gd (gin (nI q) 6) ((if (M 28 (Int32.toNatClampNeg (nI q))) = nI k then lf4 (fX7_doesPlay_5 M) fuel (nI b) (nI k) (1 : Int32) (nI q + 1) else lf4 (fX7_doesPlay_5 M) fuel (nI b) (nI k) (0 : Int32) (nI q + 1))) else lf4 (fX7_doesPlay_5 M) fuel (nI b) (nI k) (1 : Int32) (nI q + 1)))) from rfl]
      rw [gdn hb (by omega), nIc (by omega), hC.2.1, u_d4 (by omega), if_neg (nI_ge (by omega) (by omega)), gdn (by omega) (by omega), nIc (by omega), e1, u_a1]
      rcases hv with rfl | rfl
      · rw [if_pos (by decide)]
        by_cases hc : ch q = k
        · rw [if_pos (by rw [hc]), ht, if_pos (Or.inr hc)]
        · rw [if_neg (by rw [nIe (by omega) (by omega)]; exact hc), ht, if_neg (fun z => z.elim (fun e => absurd e (by decide)) hc)]
      · rw [if_neg (by decide), ht, if_pos (Or.inl rfl)]
    · rw [w3]
      have hti : t = 1 ↔ v = 1 ∨ ch q = k := by
        rw [ht]
        split
        · exact ⟨fun _ => by assumption, fun _ => rfl⟩
        · exact ⟨fun e => absurd e (by decide), fun e => absurd e (by assumption)⟩
      rw [hti]
      constructor
      · rintro ((z | z) | ⟨q', h1, h2, h3⟩)
        · exact Or.inl z
        · exact Or.inr ⟨q, Nat.le_refl q, by omega, z⟩
        · exact Or.inr ⟨q', by omega, h2, h3⟩
      · rintro (z | ⟨q', h1, h2, h3⟩)
        · exact Or.inl (Or.inl z)
        · by_cases e : q' = q
          · rw [e] at h3
            exact Or.inl (Or.inr h3)
          · exact Or.inr ⟨q', by omega, h2, h3⟩
theorem m_doesPlay (h : uRR n Z M S C E P) (hb : b < 4) {k : Nat} {ch : Nat → Nat} (hk : k < 8) (hch : ∀ q, q < C b / 4 → M 28 q = nI (ch q) ∧ ch q < 8) : (upl ch (C b / 4) k ∧ fX7_doesPlay (nI b) (nI k) M = some 1) ∨ (¬ upl ch (C b / 4) k ∧ fX7_doesPlay (nI b) (nI k) M = some 0) := by
  have hC := (h.nC hb).1
  obtain ⟨w, w1, w2, w3⟩ := m_doesPlay_l h hb hk hch (C b / 4) 0 100 0 (by omega) (by omega) (Or.inl rfl)
  have w1' : fX7_doesPlay (nI b) (nI k) M = some w := w1
  by_cases hp : upl ch (C b / 4) k
  · obtain ⟨q, q1, q2⟩ := hp
    have : w = 1 := w3.mpr (Or.inr ⟨q, by omega, q1, q2⟩)
    exact Or.inl ⟨⟨q, q1, q2⟩, by rw [w1', this]⟩
  · refine Or.inr ⟨hp, ?_⟩
    rw [w1', w2.resolve_right (fun e => by
      rcases w3.mp e with z | ⟨q, _, q1, q2⟩
      · exact absurd z (by decide)
      · exact hp ⟨q, q1, q2⟩)]
/-- the model's loop over the seats -/
theorem m_perf (hn : n < 512) (h : uRR n Z M S C E P) (hb : b < 4) {hh : Nat} (h15 : hh ≤ 15) (hm : M 2 0 = nI hh) {ch : Nat → Nat} (hch : ∀ q, q < C b / 4 → M 28 q = nI (ch q) ∧ ch q < 8) {x2 : Int32} {al : Nat} (hal : al ≤ 144) : ∀ (d x fuel : Nat) (M' : MT), x + d = S b → d < fuel → (∀ k, k ≠ 7 → k ≠ 8 → k ≠ 9 → M' k = M k) → ∃ M'' : MT, lf5 fX7_perform_76 fuel (nI b) x2 (nI (al + 10 * ucu Z M P b hh ch (C b / 4) x)) (nI x) M' = fX7_perform_160 (nI b) x2 (nI (al + 10 * ucu Z M P b hh ch (C b / 4) (S b))) M'' ∧ ∀ k, k ≠ 7 → k ≠ 8 → k ≠ 9 → M'' k = M k
  | _, _, 0, _, _, hf, _ => absurd hf (by omega)
  | 0, x, fuel + 1, M', hx, _, hz => by
    have hS := h.nS hb
    refine ⟨M', ?_, hz⟩
    rw [lf5_s]
    unfold fX7_perform_76
    rw [gdn hb (by omega), nIc (by omega), hz 15 (by omega) (by omega) (by omega), hS.2, if_pos (nI_le (by omega) (by omega)), show x = S b by omega]
  | d + 1, x, fuel + 1, M', hx, hf, hz => by
    have hS := h.nS hb
    have hnl := h.nl.1
    have hnp := h.np.1
    have h' := h.scr3 hz
    have hxS : x < S b := by omega
    obtain ⟨p1, p2, p3, p4⟩ := h.2.2.2.2.2.2.1.2.1 b x hb hxS
    obtain ⟨o1, o2⟩ := h.2.2.2.2.2.1.1 _ p2
    have hu8 := ucu_le (Z := Z) (M := M) (P := P) (b := b) (hh := hh) (ph := C b / 4) (ch := ch) x
    have e126 : ∀ (t0 : Int32) (M1 : MT), (∀ k, k ≠ 7 → k ≠ 8 → k ≠ 9 → M1 k = M k) → ((t0 = 1 ∧ utn Z M P b hh x) ∨ (t0 = 0 ∧ ¬ utn Z M P b hh x)) → fX7_perform_126 (lf5 fX7_perform_76 fuel) (nI b) x2 (nI (al + 10 * ucu Z M P b hh ch (C b / 4) x)) (nI x) t0 M1 = lf5 fX7_perform_76 fuel (nI b) x2 (nI (al + 10 * ucu Z M P b hh ch (C b / 4) (x + 1))) (nI (x + 1)) M1 := fun t0 M1 hz1 ht => by
      have h1 := h.scr3 hz1
      have dp := m_doesPlay (k := x) (ch := ch) h1 hb (by omega) (fun q hq => by rw [hz1 28 (by omega) (by omega) (by omega)]; exact hch q hq)
      unfold fX7_perform_126 fX7_perform_150 fX7_perform_151
      rcases dp with ⟨d1, d2⟩ | ⟨d1, d2⟩
      · rw [d2, cl1_s, if_neg (by decide)]
        rcases ht with ⟨t1, t2⟩ | ⟨t1, t2⟩
        · rw [t1, if_neg (by decide), ucu_f (fun q => q.2 t2), bnd_e, bnd_e, u_a1, Int32.add_zero]
        · rw [t1, if_pos (by decide), ucu_t ⟨d1, t2⟩, bnd_e, bnd_e, u_a1, u_a10, show al + 10 * ucu Z M P b hh ch (C b / 4) x + 10 = al + 10 * (ucu Z M P b hh ch (C b / 4) x + 1) by omega]
      · rw [d2, cl1_s, if_pos (by decide), ucu_f (fun q => d1 q.1), bnd_e, bnd_e, u_a1, Int32.add_zero]
    have step : ∀ r, (if M 12 (P b x) = (-1 : Int32) then fX7_perform_126 (lf5 fX7_perform_76 fuel) (nI b) x2 (nI (al + 10 * ucu Z M P b hh ch (C b / 4) x)) (nI x) 0 M' else cl2 (fX7_isInTuneNow (M 12 (P b x)) M') (fun v16 M17 => (if v16 = 0 then fX7_perform_126 (lf5 fX7_perform_76 fuel) (nI b) x2 (nI (al + 10 * ucu Z M P b hh ch (C b / 4) x)) (nI x) 0 M17 else fX7_perform_126 (lf5 fX7_perform_76 fuel) (nI b) x2 (nI (al + 10 * ucu Z M P b hh ch (C b / 4) x)) (nI x) 1 M17))) = r → lf5 fX7_perform_76 (fuel + 1) (nI b) x2 (nI (al + 10 * ucu Z M P b hh ch (C b / 4) x)) (nI x) M' = r := fun r hr => by
      rw [lf5_s]
      rw [show fX7_perform_76 (lf5 fX7_perform_76 fuel) (nI b) x2 (nI (al + 10 * ucu Z M P b hh ch (C b / 4) x)) (nI x) M' = gd (gin (nI b) 4) ((if (M' 15 (Int32.toNatClampNeg (nI b))) ≤ nI x then fX7_perform_160 (nI b) x2 (nI (al + 10 * ucu Z M P b hh ch (C b / 4) x)) M' else gd (gin (((8 : Int32) * nI b) + nI x) 32) (gd (gin (M' 16 (Int32.toNatClampNeg (((8 : Int32) * nI b) + nI x))) 16) (bnd (M' 12 (Int32.toNatClampNeg (M' 16 (Int32.toNatClampNeg (((8 : Int32) * nI b) + nI x))))) (fun v15 => (if v15 = (-1 : Int32) then fX7_perform_126 (lf5 fX7_perform_76 fuel) (nI b) x2 (nI (al + 10 * ucu Z M P b hh ch (C b / 4) x)) (nI x) 0 M' else cl2 (fX7_isInTuneNow v15 M') (fun v16 M17 => (if v16 = 0 then fX7_perform_126 (lf5 fX7_perform_76 fuel) (nI b) x2 (nI (al + 10 * ucu Z M P b hh ch (C b / 4) x)) (nI x) 0 M17 else fX7_perform_126 (lf5 fX7_perform_76 fuel) (nI b) x2 (nI (al + 10 * ucu Z M P b hh ch (C b / 4) x)) (nI x) 1 M17)))))))) from rfl]
      rw [gdn hb (by omega), nIc (by omega), hz 15 (by omega) (by omega) (by omega), hS.2, if_neg (nI_ge hxS (by omega)), u_l8, nI_add, gdn (by omega) (by omega), nIc (by omega), hz 16 (by omega) (by omega) (by omega), p4, gdn (by omega) (by omega), nIc (by omega), bnd_e, hz 12 (by omega) (by omega) (by omega)]
      exact hr
    rcases hq : Z.2.1 9 (P b x) 2 with _ | q
    · rw [hq, oi_n] at o1
      obtain ⟨M2, a1, a2⟩ := m_perf hn h hb h15 hm hch (x2 := x2) hal d (x + 1) fuel M' (by omega) (by omega) hz
      refine ⟨M2, ?_, a2⟩
      rw [← a1]
      exact step _ (by
        rw [o1, if_pos (by decide)]
        exact e126 0 M' hz (Or.inr ⟨rfl, fun ⟨q, q1, _⟩ => by rw [hq] at q1; cases q1⟩))
    · have hqp := o2 q hq
      rw [hq, oi_s] at o1
      obtain ⟨M1, y1, y2⟩ := m_tunedNow hn h' hqp h15 (by rw [hz 2 (by omega) (by omega) (by omega)]; exact hm)
      have eP : uPS M' q = uPS M q := by
        unfold uPS
        rw [hz 4 (by omega) (by omega) (by omega), hz 5 (by omega) (by omega) (by omega), hz 6 (by omega) (by omega) (by omega)]
      rw [eP] at y2
      have hz1 : ∀ k, k ≠ 7 → k ≠ 8 → k ≠ 9 → M1 k = M k := fun k k1 k2 k3 => (y1 k k1 k2 k3).trans (hz k k1 k2 k3)
      obtain ⟨M2, a1, a2⟩ := m_perf hn h hb h15 hm hch (x2 := x2) hal d (x + 1) fuel M1 (by omega) (by omega) hz1
      refine ⟨M2, ?_, a2⟩
      rw [← a1]
      refine step _ ?_
      rw [o1, if_neg (by rw [nIm1 (by omega)]; exact id)]
      rcases y2 with ⟨t1, t2⟩ | ⟨t1, t2⟩
      · rw [t2, cl2_s, if_neg (by decide)]
        exact e126 1 M1 hz1 (Or.inl ⟨rfl, q, hq, t1⟩)
      · rw [t2, cl2_s, if_pos (by decide)]
        exact e126 0 M1 hz1 (Or.inr ⟨rfl, fun ⟨q', q1, q2⟩ => by
          rw [hq] at q1
          cases q1
          exact t1 q2⟩)
end URPT
