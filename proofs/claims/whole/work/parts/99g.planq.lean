/-! PURE PART. The model's scratch pan. -/
theorem vu_i {α : Type} {f : Nat → α} {k : Nat} {v w : α} : va_up (va_up f k v) k w = va_up f k w := funext fun j => by
  by_cases h : j = k
  · subst h
    rw [vu_s, vu_s]
  · rw [vu_n h, vu_n h, vu_n h]
section URQ
variable {M : MT} {a : Nat} {s : PS} {B K : Nat}
def mrep (M : MT) (s : PS) : Prop := prep (M 7) (M 8) (M 9) s
def trep (M : MT) (a : Nat) (s : PS) : Prop := prep (fun f => M 4 (4 * a + f)) (fun f => M 5 (4 * a + f)) (fun f => M 6 (4 * a + f)) s
theorem m_takes_l (ha : a < 6) (h8 : ∀ f, f < 4 → M 6 (4 * a + f) = 0 ∨ M 6 (4 * a + f) = 1) : ∀ (d x fuel : Nat) (M' : MT), x + d = 4 → d < fuel → (∀ k, k ≠ 7 → k ≠ 8 → k ≠ 9 → M' k = M k) → (∀ f, f < x → M' 7 f = M 4 (4 * a + f) ∧ M' 8 f = M 5 (4 * a + f) ∧ M' 9 f = M 6 (4 * a + f)) → ∃ M'' : MT, lf3 fX7_takes_2 fuel (nI a) (nI x) M' = some M'' ∧ (∀ k, k ≠ 7 → k ≠ 8 → k ≠ 9 → M'' k = M k) ∧ (∀ f, f < 4 → M'' 7 f = M 4 (4 * a + f) ∧ M'' 8 f = M 5 (4 * a + f) ∧ M'' 9 f = M 6 (4 * a + f))
  | _, _, 0, _, _, hf, _, _ => absurd hf (by omega)
  | 0, x, fuel + 1, M', hx, _, hfr, hv => by
    refine ⟨M', ?_, hfr, by rw [show x = 4 by omega] at hv; exact hv⟩
    rw [lf3_s]
    unfold fX7_takes_2
    rw [show x = 4 by omega, if_pos (by decide)]
    rfl
  | d + 1, x, fuel + 1, M', hx, hf, hfr, hv => by
    have step : lf3 fX7_takes_2 (fuel + 1) (nI a) (nI x) M' = lf3 fX7_takes_2 fuel (nI a) (nI (x + 1)) (va_up (va_up (va_up M' 7 (upd (M' 7) x (M 4 (4 * a + x)))) 8 (upd (M' 8) x (M 5 (4 * a + x)))) 9 (upd (M' 9) x (M 6 (4 * a + x)))) := by
      rw [lf3_s]
      unfold fX7_takes_2
      rw [if_neg (show ¬ ((4 : Int32) ≤ nI x) from nI_ge (b := 4) (by omega) (by omega)), u_l4, nI_add, gdn (by omega) (by omega), gdn (by omega) (by omega), bnd_e, gdn (by omega) (by omega), gdn (by omega) (by omega), bnd_e, gdn (by omega) (by omega), gdn (by omega) (by omega), bnd_e, bnd_e, nIc (by omega), nIc (by omega), u_a1, vu_n (show (5 : Nat) ≠ 7 by omega), vu_n (show (8 : Nat) ≠ 7 by omega), vu_n (show (6 : Nat) ≠ 8 by omega), vu_n (show (6 : Nat) ≠ 7 by omega), vu_n (show (9 : Nat) ≠ 8 by omega), vu_n (show (9 : Nat) ≠ 7 by omega), hfr 4 (by omega) (by omega) (by omega), hfr 5 (by omega) (by omega) (by omega), hfr 6 (by omega) (by omega) (by omega), vbb (h8 x (by omega))]
    obtain ⟨M'', z1, z2, z3⟩ := m_takes_l ha h8 d (x + 1) fuel (va_up (va_up (va_up M' 7 (upd (M' 7) x (M 4 (4 * a + x)))) 8 (upd (M' 8) x (M 5 (4 * a + x)))) 9 (upd (M' 9) x (M 6 (4 * a + x)))) (by omega) (by omega) (fun k k1 k2 k3 => by rw [vu_n k3, vu_n k2, vu_n k1, hfr k k1 k2 k3]) (fun f hf => by
      rw [vu_s, vu_n (show (7 : Nat) ≠ 9 by omega), vu_n (show (7 : Nat) ≠ 8 by omega), vu_s, vu_n (show (8 : Nat) ≠ 9 by omega), vu_s]
      by_cases e : f = x
      · subst e
        rw [pk_us, pk_us, pk_us]
        exact ⟨rfl, rfl, rfl⟩
      · rw [pk_un e, pk_un e, pk_un e]
        exact hv f (by omega))
    exact ⟨M'', by rw [step]; exact z1, z2, z3⟩
theorem m_takes (ha : a < 6) (hr : trep M a s) : ∃ M' : MT, fX7_takes (nI a) M = some M' ∧ (∀ k, k ≠ 7 → k ≠ 8 → k ≠ 9 → M' k = M k) ∧ mrep M' s := by
  obtain ⟨M', z1, z2, z3⟩ := m_takes_l (M := M) ha (fun f hf => by
    have := (hr f hf).2.2
    rw [show M 6 (4 * a + f) = _ from this]
    split
    · exact Or.inr rfl
    · exact Or.inl rfl) 4 0 100 M (by omega) (by omega) (fun _ _ _ _ => rfl) (fun f hf => by omega)
  refine ⟨M', z1, z2, fun f hf => ?_⟩
  obtain ⟨e7, e8, e9⟩ := z3 f hf
  rw [e7, e8, e9]
  exact hr f hf
theorem m_bears (hr : mrep M s) (hb : pbd s B K) (hK : K ≤ 1000) {c : Nat} (hc : c < 32) : (pB s c ∧ fX7_bears (nI (c / 8)) (nI (c % 2)) M = some 1) ∨ (¬ pB s c ∧ fX7_bears (nI (c / 8)) (nI (c % 2)) M = some 0) := by
  have hf : c / 8 < 4 := by omega
  obtain ⟨_, r2, r3⟩ := hr (c / 8) hf
  have hb := (hb (c / 8) hf).2
  unfold fX7_bears
  rw [gdn hf (by omega), gdn hf (by omega), nIc (by omega), r2, r3]
  by_cases h : s.2.1 (c / 8) ≤ 6
  · rw [if_neg (show ¬ ((6 : Int32) < nI (s.2.1 (c / 8))) from nI_nlt (a := 6) h (by omega))]
    have : c % 2 = 0 ∨ c % 2 = 1 := by omega
    rcases this with e | e
    · rw [e, if_pos (show nI 0 = 0 from rfl)]
      by_cases h2 : s.2.2 (c / 8) = true
      · rw [if_pos h2, if_neg (by decide)]
        refine Or.inr ⟨fun q => ?_, rfl⟩
        rcases q.2 with q2 | q2
        · omega
        · rw [h2] at q2
          cases q2
      · rw [if_neg h2, if_pos (by decide)]
        exact Or.inl ⟨⟨h, Or.inr (by simpa using h2)⟩, rfl⟩
    · rw [e, if_neg (show ¬ (nI 1 = 0) by decide)]
      exact Or.inl ⟨⟨h, Or.inl e⟩, rfl⟩
  · rw [if_pos (show (6 : Int32) < nI (s.2.1 (c / 8)) from nI_lt (a := 6) (by omega) (by omega))]
    exact Or.inr ⟨fun q => h q.1, rfl⟩
/-- the model's scratch after a blow -/
def mbt (M : MT) (f : Nat) (d0 d1 v : Int32) : MT := va_up (va_up (va_up M 7 (brow (M 7) f d0 d1)) 8 (upd (M 8) f (M 8 f + 1))) 9 (upd (M 9) f v)
theorem m_beat67 {f : Nat} (hf : f < 4) {x d0 d1 : Int32} (hu : M 9 f = 0 ∨ M 9 f = 1) (hx : x = 0 ∨ x = 1) : fX7_beats_67 (nI f) x d1 (upd (upd (M 7) f (M 7 f + d0)) ((f + 1) % 4) (upd (M 7) f (M 7 f + d0) ((f + 1) % 4) + d1) ((f + 3) % 4)) (nI ((f + 3) % 4)) (va_up M 7 (upd (upd (M 7) f (M 7 f + d0)) ((f + 1) % 4) (upd (M 7) f (M 7 f + d0) ((f + 1) % 4) + d1))) = some (mbt M f d0 d1 (if M 9 f = 0 ∧ x = 0 then 0 else 1)) := by
  unfold fX7_beats_67 fX7_beats_97 fX7_beats_102
  rw [gdn (by omega) (by omega), bnd_e, gdn hf (by omega), gdn hf (by omega), bnd_e, gdn hf (by omega), gdn hf (by omega), gdn hf (by omega), bnd_e, bnd_e, nIc (by omega), nIc (by omega), vu_s, vu_i, vu_n (show (8 : Nat) ≠ 7 by omega), vu_n (show (9 : Nat) ≠ 8 by omega), vu_n (show (9 : Nat) ≠ 7 by omega)]
  rcases hu with hu | hu
  · rw [if_pos hu]
    rcases hx with hx | hx
    · rw [if_pos hx, if_pos ⟨hu, hx⟩]
      rfl
    · rw [if_neg (by rw [hx]; decide), if_neg (fun q => by rw [hx] at q; exact absurd q.2 (by decide))]
      rfl
  · rw [if_neg (by rw [hu]; decide), if_neg (fun q => by rw [hu] at q; exact absurd q.1 (by decide))]
    rfl
theorem m_beats0 {f F : Nat} (hf : f < 4) (hu : M 9 f = 0 ∨ M 9 f = 1) : fX7_beats (nI f) (nI F) 0 M = some (mbt M f (4 * nI F) (-(nI F)) (if M 9 f = 0 ∧ (0 : Int32) = 0 then 0 else 1)) := by
  rw [← m_beat67 hf hu (Or.inl rfl)]
  unfold fX7_beats fX7_beats_21 fX7_beats_44
  rw [gdn hf (by omega), if_pos (by decide), gdn hf (by omega), bnd_e, u_a1, u_e4 (by omega), gdn (by omega) (by omega), if_pos (by decide), gdn (by omega) (by omega), bnd_e, u_a3, u_e4 (by omega), gdn (by omega) (by omega), if_pos (by decide), nIc (by omega), nIc (by omega), nIc (by omega), vu_s, vu_i, vu_s]
theorem m_beats1 {f F : Nat} (hf : f < 4) (hu : M 9 f = 0 ∨ M 9 f = 1) : fX7_beats (nI f) (nI F) 1 M = some (mbt M f ((-6) * nI F) (nI F) (if M 9 f = 0 ∧ (1 : Int32) = 0 then 0 else 1)) := by
  rw [← m_beat67 hf hu (Or.inr rfl)]
  unfold fX7_beats fX7_beats_21 fX7_beats_44
  rw [gdn hf (by omega), if_neg (by decide), gdn hf (by omega), bnd_e, u_a1, u_e4 (by omega), gdn (by omega) (by omega), if_neg (by decide), gdn (by omega) (by omega), bnd_e, u_a3, u_e4 (by omega), gdn (by omega) (by omega), if_neg (by decide), nIc (by omega), nIc (by omega), nIc (by omega), vu_s, vu_i, vu_s]
theorem m_beat (hr : mrep M s) (hb : pbd s B K) (hB : B ≤ 1000000) {c : Nat} (hc : c < 32) : ∃ M' : MT, fX7_beats (nI (c / 8)) (nI (pF c)) (nI (c % 2)) M = some M' ∧ (∀ k, k ≠ 7 → k ≠ 8 → k ≠ 9 → M' k = M k) ∧ mrep M' (pt s c) := by
  have hF := pF_le c
  have hf : c / 8 < 4 := by omega
  have ht : ∀ f, f < 4 → (M 7 f).toInt = s.1 f ∧ -(B : Int) ≤ s.1 f ∧ s.1 f ≤ B := fun f hf => ⟨(hr f hf).1, (hb f hf).1⟩
  have hu : ∀ f, f < 4 → M 9 f = (if s.2.2 f = true then 1 else 0) := fun f hf => (hr f hf).2.2
  have hu1 : M 9 (c / 8) = 0 ∨ M 9 (c / 8) = 1 := by
    rw [hu _ hf]
    split
    · exact Or.inr rfl
    · exact Or.inl rfl
  have done : ∀ (d0 d1 v : Int32), (d0.toInt = if c % 2 = 1 then -6 * (pF c : Int) else 4 * (pF c : Int)) → (d1.toInt = if c % 2 = 1 then (pF c : Int) else -(pF c : Int)) → (v = (if s.2.2 (c / 8) = true ∨ c % 2 = 1 then 1 else 0)) → (∀ k, k ≠ 7 → k ≠ 8 → k ≠ 9 → (mbt M (c / 8) d0 d1 v) k = M k) ∧ mrep (mbt M (c / 8) d0 d1 v) (pt s c) := fun d0 d1 v e0 e1 ev => by
    refine ⟨fun k k1 k2 k3 => ?_, fun g hg => ⟨?_, ?_, ?_⟩⟩
    · unfold mbt
      rw [vu_n k3, vu_n k2, vu_n k1]
    · show (brow (M 7) (c / 8) d0 d1 g).toInt = _
      exact prow hB hc ht e0 e1 g hg
    · show upd (M 8) (c / 8) (M 8 (c / 8) + 1) g = _
      exact prow_m (fun f hf => (hr f hf).2.1) g hg
    · show upd (M 9) (c / 8) v g = _
      exact prow_u hu hc ev g hg
  have : c % 2 = 0 ∨ c % 2 = 1 := by omega
  rcases this with e | e
  · obtain ⟨d1, d2⟩ := done (4 * nI (pF c)) (-(nI (pF c))) (if M 9 (c / 8) = 0 ∧ (0 : Int32) = 0 then 0 else 1) (by rw [(pd_raise hF.2).1, if_neg (by omega)]) (by rw [(pd_raise hF.2).2, if_neg (by omega)]) (by
      rw [hu _ hf]
      by_cases h1 : s.2.2 (c / 8) = true
      · rw [if_pos h1, if_pos (Or.inl h1), if_neg (by decide)]
      · rw [if_neg h1, if_pos ⟨rfl, rfl⟩, if_neg (fun q => q.elim h1 (by omega))])
    refine ⟨_, ?_, d1, d2⟩
    rw [e]
    exact m_beats0 hf hu1
  · obtain ⟨d1, d2⟩ := done ((-6) * nI (pF c)) (nI (pF c)) (if M 9 (c / 8) = 0 ∧ (1 : Int32) = 0 then 0 else 1) (by rw [(pd_sink hF.2).1, if_pos e]) (by rw [(pd_sink hF.2).2, if_pos e]) (by
      rw [if_pos (Or.inr e), if_neg (fun q => absurd q.2 (by decide))])
    refine ⟨_, ?_, d1, d2⟩
    rw [e]
    exact m_beats1 hf hu1
def pT1 (s : PS) (h : Int) (f : Nat) : Prop := s.2.1 f ≤ 6 ∧ -5 ≤ s.1 f - h ∧ s.1 f - h ≤ 5
theorem m_tn_s (hr : mrep M s) (hb : pbd s B K) (hB : B ≤ 1000000) (hK : K ≤ 1000) {h x : Nat} (hh : h ≤ 15) (hm : M 2 0 = nI h) (hx : x < 4) (fuel : Nat) : (pT1 s h x → lf2 (fX7_isTuned_4 M) (fuel + 1) 1 (nI x) = lf2 (fX7_isTuned_4 M) fuel 1 (nI (x + 1))) ∧ (¬ pT1 s h x → lf2 (fX7_isTuned_4 M) (fuel + 1) 1 (nI x) = lf2 (fX7_isTuned_4 M) fuel 0 (nI (x + 1))) ∧ lf2 (fX7_isTuned_4 M) (fuel + 1) 0 (nI x) = lf2 (fX7_isTuned_4 M) fuel 0 (nI (x + 1)) := by
  obtain ⟨⟨b1, b2⟩, b3⟩ := hb x hx
  obtain ⟨r1, r2, r3⟩ := hr x hx
  have e1 : (M 7 x - M 2 0).toInt = s.1 x - h := by
    rw [hm, tI_sub (by rw [r1, nIi (by omega)]; omega) (by rw [r1, nIi (by omega)]; omega), r1, nIi (by omega)]
  have em5 : ((-5 : Int32)).toInt = -5 := by decide
  have e5 : ((5 : Int32)).toInt = 5 := by decide
  have e48 : fX7_isTuned_48 M (lf2 (fX7_isTuned_4 M) fuel) (nI x) = lf2 (fX7_isTuned_4 M) fuel 0 (nI (x + 1)) := by
    show lf2 (fX7_isTuned_4 M) fuel 0 (nI x + 1) = _
    rw [u_a1]
  have st : ∀ v : Int32, lf2 (fX7_isTuned_4 M) (fuel + 1) v (nI x) = (if v = 0 then fX7_isTuned_48 M (lf2 (fX7_isTuned_4 M) fuel) (nI x) else (if (6 : Int32) < nI (s.2.1 x) then fX7_isTuned_48 M (lf2 (fX7_isTuned_4 M) fuel) (nI x) else cl1 (fX7_isIn (M 7 x - M 2 0) (-5) 5) (fun v3 => if v3 = 0 then fX7_isTuned_48 M (lf2 (fX7_isTuned_4 M) fuel) (nI x) else lf2 (fX7_isTuned_4 M) fuel 1 (nI (x + 1))))) := fun v => by
    rw [lf2_s]
    rw [show fX7_isTuned_4 M (lf2 (fX7_isTuned_4 M) fuel) v (nI x) = (if (4 : Int32) ≤ nI x then fX7_isTuned_56 M v else (if v = 0 then fX7_isTuned_48 M (lf2 (fX7_isTuned_4 M) fuel) (nI x) else gd (gin (nI x) 4) (if (6 : Int32) < M 8 (nI x).toNatClampNeg then fX7_isTuned_48 M (lf2 (fX7_isTuned_4 M) fuel) (nI x) else gd (gin (nI x) 4) (cl1 (fX7_isIn (M 7 (nI x).toNatClampNeg - M 2 0) (-5) 5) (fun v3 => if v3 = 0 then fX7_isTuned_48 M (lf2 (fX7_isTuned_4 M) fuel) (nI x) else lf2 (fX7_isTuned_4 M) fuel 1 (nI x + 1)))))) from rfl, if_neg (show ¬ ((4 : Int32) ≤ nI x) from nI_ge (b := 4) hx (by omega)), gdn hx (by omega), gdn hx (by omega), nIc (by omega), u_a1, r2]
  refine ⟨fun q => ?_, fun q => ?_, ?_⟩
  · rw [st, if_neg (by decide), if_neg (show ¬ ((6 : Int32) < nI (s.2.1 x)) from nI_nlt (a := 6) q.1 (by omega)), m_isIn_t (by rw [i_lt, e1, em5]; have := q.2; omega) (by rw [i_lt, e1, e5]; have := q.2; omega), cl1_s, if_neg (by decide)]
  · rw [st, if_neg (by decide)]
    by_cases q1 : s.2.1 x ≤ 6
    · rw [if_neg (show ¬ ((6 : Int32) < nI (s.2.1 x)) from nI_nlt (a := 6) q1 (by omega)), m_isIn_f (by
        rw [i_lt, i_lt, e1, em5, e5]
        by_cases q2 : s.1 x - (h : Int) < -5
        · exact Or.inl q2
        · exact Or.inr (Int.not_le.mp (fun q3 => q ⟨q1, by omega, q3⟩))), cl1_s, if_pos (by decide)]
      exact e48
    · rw [if_pos (show (6 : Int32) < nI (s.2.1 x) from nI_lt (a := 6) (by omega) (by omega))]
      exact e48
  · rw [st, if_pos (by decide)]
    exact e48
theorem m_tuned (hr : mrep M s) (hb : pbd s B K) (hB : B ≤ 1000000) (hK : K ≤ 1000) {h : Nat} (hh : h ≤ 15) (hm : M 2 0 = nI h) : (pTn s h ∧ fX7_isTuned M = some 1) ∨ (¬ pTn s h ∧ fX7_isTuned M = some 0) := by
  have st := fun x fuel (hx : x < 4) => m_tn_s hr hb hB hK hh hm (x := x) hx fuel
  have u0 : ∀ r, lf2 (fX7_isTuned_4 M) (95 + 1 + 1 + 1 + 1 + 1) 1 (nI 0) = r → fX7_isTuned M = r := fun r hr => hr
  have e1 : lf2 (fX7_isTuned_4 M) (95 + 1) 1 (nI 4) = some 1 := rfl
  have e0 : lf2 (fX7_isTuned_4 M) (95 + 1) 0 (nI 4) = some 0 := rfl
  by_cases q0 : pT1 s h 0
  · by_cases q1 : pT1 s h 1
    · by_cases q2 : pT1 s h 2
      · by_cases q3 : pT1 s h 3
        · refine Or.inl ⟨fun f hf => ?_, u0 _ ?_⟩
          · have : f = 0 ∨ f = 1 ∨ f = 2 ∨ f = 3 := by omega
            rcases this with rfl | rfl | rfl | rfl
            · exact q0
            · exact q1
            · exact q2
            · exact q3
          · rw [(st 0 _ (by omega)).1 q0, (st 1 _ (by omega)).1 q1, (st 2 _ (by omega)).1 q2, (st 3 _ (by omega)).1 q3]
            exact e1
        · refine Or.inr ⟨fun q => q3 (q 3 (by omega)), u0 _ ?_⟩
          rw [(st 0 _ (by omega)).1 q0, (st 1 _ (by omega)).1 q1, (st 2 _ (by omega)).1 q2, (st 3 _ (by omega)).2.1 q3]
          exact e0
      · refine Or.inr ⟨fun q => q2 (q 2 (by omega)), u0 _ ?_⟩
        rw [(st 0 _ (by omega)).1 q0, (st 1 _ (by omega)).1 q1, (st 2 _ (by omega)).2.1 q2, (st 3 _ (by omega)).2.2]
        exact e0
    · refine Or.inr ⟨fun q => q1 (q 1 (by omega)), u0 _ ?_⟩
      rw [(st 0 _ (by omega)).1 q0, (st 1 _ (by omega)).2.1 q1, (st 2 _ (by omega)).2.2, (st 3 _ (by omega)).2.2]
      exact e0
  · refine Or.inr ⟨fun q => q0 (q 0 (by omega)), u0 _ ?_⟩
    rw [(st 0 _ (by omega)).2.1 q0, (st 1 _ (by omega)).2.2, (st 2 _ (by omega)).2.2, (st 3 _ (by omega)).2.2]
    exact e0
/-! a row of blows on the scratch -/
theorem u_m1s (x : Int32) : x + (-1) = x - 1 := by
  rw [Int32.sub_eq_add_neg]
theorem m_shift {d row : Nat} (hd : d ≤ 2) (hr : row < 32768) : (nI row >>> (((5 : Int32) * nI d) &&& 31)) &&& 31 = nI (row / 32 ^ d % 32) := by
  have : d = 0 ∨ d = 1 ∨ d = 2 := by omega
  rcases this with rfl | rfl | rfl
  · rw [pk_shrN (by omega) (((5 : Int32) * nI 0) &&& 31) 0 (by decide), pk_andN (Nat.lt_of_le_of_lt (Nat.div_le_self _ _) (by omega)) 5 (by decide)]
  · rw [pk_shrN (by omega) (((5 : Int32) * nI 1) &&& 31) 5 (by decide), pk_andN (Nat.lt_of_le_of_lt (Nat.div_le_self _ _) (by omega)) 5 (by decide)]
  · rw [pk_shrN (by omega) (((5 : Int32) * nI 2) &&& 31) 10 (by decide), pk_andN (Nat.lt_of_le_of_lt (Nat.div_le_self _ _) (by omega)) 5 (by decide)]
theorem m_does_0 (x : Int32) {y : Int32} (fuel : Nat) (M : MT) : lf4 fX7_does_13 (fuel + 1) x 0 y M = some (0, M) := by
  rw [lf4_s]
  unfold fX7_does_13
  split
  · rfl
  · rw [if_pos (by decide)]
    rfl
theorem m_does_l {h row : Nat} (hh : h ≤ 15) (hrow : row < 32768) : ∀ (d fuel : Nat) (M : MT) (s : PS) (B K : Nat), d ≤ 3 → d < fuel → mrep M s → pbd s B K → B + 24 * d ≤ 1000000 → K + d ≤ 1000 → M 2 0 = nI h → ∃ M' : MT, (∀ k, k ≠ 7 → k ≠ 8 → k ≠ 9 → M' k = M k) ∧ ((pGood h (dg d row) s ∧ lf4 fX7_does_13 (fuel + 1) (nI row) 1 (nI d - 1) M = some (1, M')) ∨ (¬ pGood h (dg d row) s ∧ lf4 fX7_does_13 (fuel + 1) (nI row) 1 (nI d - 1) M = some (0, M')))
  | _, 0, _, _, _, _, _, hf, _, _, _, _, _ => absurd hf (by omega)
  | 0, fuel + 1, M, s, B, K, _, _, hr, hb, hB, hK, hm => by
    refine ⟨M, fun _ _ _ _ => rfl, ?_⟩
    have e : lf4 fX7_does_13 (fuel + 1 + 1) (nI row) 1 (nI 0 - 1) M = fX7_does_93 1 M := by
      rw [lf4_s]
      unfold fX7_does_13
      rw [if_pos (by decide)]
    rw [e]
    unfold fX7_does_93
    rw [if_neg (by decide)]
    rcases m_tuned hr hb (by omega) (by omega) hh hm with ⟨q1, q2⟩ | ⟨q1, q2⟩
    · rw [q2, cl1_s, if_neg (by decide)]
      exact Or.inl ⟨q1, rfl⟩
    · rw [q2, cl1_s, if_pos (by decide)]
      exact Or.inr ⟨q1, rfl⟩
  | d + 1, fuel + 1, M, s, B, K, hd, hf, hr, hb, hB, hK, hm => by
    have hc32 : row / 32 ^ d % 32 < 32 := Nat.mod_lt _ (by omega)
    obtain ⟨c, hc⟩ : ∃ c, c = row / 32 ^ d % 32 := ⟨_, rfl⟩
    rw [← hc] at hc32
    have hF := pF_le c
    have e87 : ∀ (v : Int32) (M1 : MT), fX7_does_87 (lf4 fX7_does_13 (fuel + 1)) (nI row) v (nI d) M1 = lf4 fX7_does_13 (fuel + 1) (nI row) v (nI d - 1) M1 := fun v M1 => by
      unfold fX7_does_87
      rw [bnd_e, u_m1s]
    have e54 : lf4 fX7_does_13 (fuel + 1 + 1) (nI row) 1 (nI (d + 1) - 1) M = fX7_does_54 (lf4 fX7_does_13 (fuel + 1)) (nI row) (nI d) (nI c) (nI (c / 8)) (nI (c % 2)) M := by
      rw [nI_pred, lf4_s]
      rw [show fX7_does_13 (lf4 fX7_does_13 (fuel + 1)) (nI row) 1 (nI d) M = (if nI d < 0 then fX7_does_93 1 M else (if (1 : Int32) = 0 then fX7_does_93 1 M else bnd ((nI row >>> (((5 : Int32) * nI d) &&& 31)) &&& 31) (fun v4 => bnd (v4 / 8) (fun v5 => if irm v4 2 = 1 then fX7_does_54 (lf4 fX7_does_13 (fuel + 1)) (nI row) (nI d) v4 v5 1 M else fX7_does_54 (lf4 fX7_does_13 (fuel + 1)) (nI row) (nI d) v4 v5 0 M)))) from rfl, if_neg (nI_pos (by omega)), if_neg (by decide), m_shift (by omega) hrow, ← hc, bnd_e, u_d8 (by omega), bnd_e, u_e2 (by omega)]
      have : c % 2 = 0 ∨ c % 2 = 1 := by omega
      rcases this with e | e
      · rw [e, if_neg (by decide)]
        rfl
      · rw [e, if_pos (by decide)]
        rfl
    have e54b : ∀ r, cl1 (fX7_bears (nI (c / 8)) (nI (c % 2)) M) (fun v8 => if v8 = 0 then lf4 fX7_does_13 (fuel + 1) (nI row) v8 (nI d - 1) M else cl1 (fX7_beats (nI (c / 8)) (nI (pF c)) (nI (c % 2)) M) (fun M10 => lf4 fX7_does_13 (fuel + 1) (nI row) v8 (nI d - 1) M10)) = r → lf4 fX7_does_13 (fuel + 1 + 1) (nI row) 1 (nI (d + 1) - 1) M = r := fun r hr => by
      rw [e54]
      unfold fX7_does_54
      rw [u_d2 (by omega), u_e4 (by omega), u_a1, show nI (c / 2 % 4 + 1) = nI (pF c) from by unfold pF; rw [show c / 2 % 4 = c % 8 / 2 by omega]]
      simp only [e87]
      exact hr
    have edg : dg (d + 1) row = c :: dg d row := by rw [hc]; rfl
    rw [edg]
    rcases m_bears hr hb (by omega) hc32 with ⟨p1, p2⟩ | ⟨p1, p2⟩
    · obtain ⟨M1, y1, y2, y3⟩ := m_beat hr hb (by omega) hc32
      obtain ⟨M2, w1, w2⟩ := m_does_l hh hrow d fuel M1 (pt s c) (B + 24) (K + 1) (by omega) (by omega) y3 (hb.pt c) (by omega) (by omega) (by rw [y2 2 (by omega) (by omega) (by omega)]; exact hm)
      have eq : lf4 fX7_does_13 (fuel + 1 + 1) (nI row) 1 (nI (d + 1) - 1) M = lf4 fX7_does_13 (fuel + 1) (nI row) 1 (nI d - 1) M1 := e54b _ (by rw [p2, cl1_s, if_neg (by decide), y1, cl1_s])
      rw [eq]
      refine ⟨M2, fun k k1 k2 k3 => by rw [w1 k k1 k2 k3, y2 k k1 k2 k3], ?_⟩
      rcases w2 with ⟨v1, v2⟩ | ⟨v1, v2⟩
      · exact Or.inl ⟨⟨p1, v1⟩, v2⟩
      · exact Or.inr ⟨fun q => v1 q.2, v2⟩
    · have eq : lf4 fX7_does_13 (fuel + 1 + 1) (nI row) 1 (nI (d + 1) - 1) M = some (0, M) := e54b _ (by rw [p2, cl1_s, if_pos (by decide), m_does_0])
      rw [eq]
      exact ⟨M, fun _ _ _ _ => rfl, Or.inr ⟨fun q => p1 q.1, rfl⟩⟩
theorem m_does {h row d : Nat} (hh : h ≤ 15) (hrow : row < 32768) (hd : d ≤ 3) (ha : a < 6) (hr : trep M a s) (hb : pbd s B K) (hB : B ≤ 100000) (hK : K ≤ 900) (hm : M 2 0 = nI h) : ∃ M' : MT, (∀ k, k ≠ 7 → k ≠ 8 → k ≠ 9 → M' k = M k) ∧ ((pGood h (dg d row) s ∧ fX7_does (nI a) (nI row) (nI d) M = some (1, M')) ∨ (¬ pGood h (dg d row) s ∧ fX7_does (nI a) (nI row) (nI d) M = some (0, M'))) := by
  obtain ⟨M1, y1, y2, y3⟩ := m_takes ha hr
  obtain ⟨M2, w1, w2⟩ := m_does_l hh hrow d 99 M1 s B K hd (by omega) y3 hb (by omega) (by omega) (by rw [y2 2 (by omega) (by omega) (by omega)]; exact hm)
  have eq : fX7_does (nI a) (nI row) (nI d) M = lf4 fX7_does_13 (99 + 1) (nI row) 1 (nI d - 1) M1 := by
    unfold fX7_does
    rw [y1, cl1_s, bnd_e]
  rw [eq]
  exact ⟨M2, fun k k1 k2 k3 => by rw [w1 k k1 k2 k3, y2 k k1 k2 k3], w2⟩
theorem m_top {d : Nat} (hd : d ≤ 3) : ((1 : Int32) <<< (((5 : Int32) * nI d) &&& 31)) = nI (32 ^ d) := by
  have : d = 0 ∨ d = 1 ∨ d = 2 ∨ d = 3 := by omega
  rcases this with rfl | rfl | rfl | rfl <;> decide
/-- the model's rows of d blows, from row r on -/
theorem m_rows {h d : Nat} (hh : h ≤ 15) (hd : d ≤ 3) (ha : a < 6) (hr : trep M a s) (hb : pbd s B K) (hB : B ≤ 100000) (hK : K ≤ 900) (hm : M 2 0 = nI h) {k37 : Int32 → Int32 → Int32 → MT → Option (Int32 × MT)} {pl : Int32} : ∀ (j r fuel : Nat) (M' : MT), r + j = 32 ^ d → j < fuel → (∀ k, k ≠ 7 → k ≠ 8 → k ≠ 9 → M' k = M k) → (∀ n, n < r → ¬ pGood h (dg d n) s) → ∃ M'' : MT, (∀ k, k ≠ 7 → k ≠ 8 → k ≠ 9 → M'' k = M k) ∧ ((∃ n, n < 32 ^ d ∧ pGood h (dg d n) s ∧ (∀ n', n' < n → ¬ pGood h (dg d n') s) ∧ lf5 (fX7_plan_45 k37) fuel (nI a) pl (nI d) (nI r) M' = fX7_plan_66 pl (nI d) (nI n) M'') ∨ (pNone h d s ∧ lf5 (fX7_plan_45 k37) fuel (nI a) pl (nI d) (nI r) M' = k37 (nI a) pl (nI (d + 1)) M''))
  | _, _, 0, _, _, hf, _, _ => absurd hf (by omega)
  | 0, r, fuel + 1, M', hj, _, hfr, hn => by
    have h32 : 32 ^ d ≤ 32768 := by
      have : d = 0 ∨ d = 1 ∨ d = 2 ∨ d = 3 := by omega
      rcases this with rfl | rfl | rfl | rfl <;> decide
    refine ⟨M', hfr, Or.inr ⟨fun n hn' => hn n (by omega), ?_⟩⟩
    rw [lf5_s]
    unfold fX7_plan_45
    rw [m_top hd, if_pos (nI_le (by omega) (by omega))]
    unfold fX7_plan_101
    rw [bnd_e, u_a1]
  | j + 1, r, fuel + 1, M', hj, hf, hfr, hn => by
    have h32 : 32 ^ d ≤ 32768 := by
      have : d = 0 ∨ d = 1 ∨ d = 2 ∨ d = 3 := by omega
      rcases this with rfl | rfl | rfl | rfl <;> decide
    have hr' : trep M' a s := by
      unfold trep
      rw [hfr 4 (by omega) (by omega) (by omega), hfr 5 (by omega) (by omega) (by omega), hfr 6 (by omega) (by omega) (by omega)]
      exact hr
    obtain ⟨M1, y1, y2⟩ := m_does (row := r) hh (by omega) hd ha hr' hb hB hK (by rw [hfr 2 (by omega) (by omega) (by omega)]; exact hm)
    have hfr1 : ∀ k, k ≠ 7 → k ≠ 8 → k ≠ 9 → M1 k = M k := fun k k1 k2 k3 => by rw [y1 k k1 k2 k3, hfr k k1 k2 k3]
    have step : ∀ v, cl2 (fX7_does (nI a) (nI r) (nI d) M') (fun v8 M9 => if v8 = 0 then lf5 (fX7_plan_45 k37) fuel (nI a) pl (nI d) (nI (r + 1)) M9 else fX7_plan_66 pl (nI d) (nI r) M9) = v → lf5 (fX7_plan_45 k37) (fuel + 1) (nI a) pl (nI d) (nI r) M' = v := fun v hv => by
      rw [lf5_s]
      rw [show fX7_plan_45 k37 (lf5 (fX7_plan_45 k37) fuel) (nI a) pl (nI d) (nI r) M' = (if ((1 : Int32) <<< (((5 : Int32) * nI d) &&& 31)) ≤ nI r then fX7_plan_101 k37 (nI a) pl (nI d) M' else cl2 (fX7_does (nI a) (nI r) (nI d) M') (fun v8 M9 => if v8 = 0 then lf5 (fX7_plan_45 k37) fuel (nI a) pl (nI d) (nI r + 1) M9 else fX7_plan_66 pl (nI d) (nI r) M9)) from rfl, m_top hd, if_neg (nI_ge (by omega) (by omega)), u_a1]
      exact hv
    rcases y2 with ⟨g1, g2⟩ | ⟨g1, g2⟩
    · exact ⟨M1, hfr1, Or.inl ⟨r, by omega, g1, hn, step _ (by rw [g2, cl2_s, if_neg (by decide)])⟩⟩
    · obtain ⟨M2, w1, w2⟩ := m_rows hh hd ha hr hb hB hK hm (k37 := k37) (pl := pl) j (r + 1) fuel M1 (by omega) (by omega) hfr1 (fun n hn' => by
        by_cases e : n = r
        · rw [e]
          exact g1
        · exact hn n (by omega))
      have eq : lf5 (fX7_plan_45 k37) (fuel + 1) (nI a) pl (nI d) (nI r) M' = lf5 (fX7_plan_45 k37) fuel (nI a) pl (nI d) (nI (r + 1)) M1 := step _ (by rw [g2, cl2_s, if_pos (by decide)])
      rw [eq]
      exact ⟨M2, w1, w2⟩
/-- the model's plan -/
theorem m_find {h : Nat} (hh : h ≤ 15) (ha : a < 6) (hr : trep M a s) (hb : pbd s B K) (hB : B ≤ 100000) (hK : K ≤ 900) (hm : M 2 0 = nI h) {pl : Int32} : ∀ (j d fuel : Nat) (M' : MT), d + j = 4 → j < fuel → (∀ k, k ≠ 7 → k ≠ 8 → k ≠ 9 → M' k = M k) → ∃ M'' : MT, (∀ k, k ≠ 7 → k ≠ 8 → k ≠ 9 → M'' k = M k) ∧ ((∃ d0 n, d ≤ d0 ∧ d0 ≤ 3 ∧ n < 32 ^ d0 ∧ pGood h (dg d0 n) s ∧ (∀ n', n' < n → ¬ pGood h (dg d0 n') s) ∧ (∀ d', d ≤ d' → d' < d0 → pNone h d' s) ∧ lf4 fX7_plan_37 fuel (nI a) pl (nI d) M' = fX7_plan_66 pl (nI d0) (nI n) M'') ∨ ((∀ d', d ≤ d' → d' ≤ 3 → pNone h d' s) ∧ lf4 fX7_plan_37 fuel (nI a) pl (nI d) M' = some (-1, M'')))
  | _, _, 0, _, _, hf, _ => absurd hf (by omega)
  | 0, d, fuel + 1, M', hj, _, hfr => by
    refine ⟨M', hfr, Or.inr ⟨fun d' h1 h2 => by omega, ?_⟩⟩
    rw [lf4_s]
    unfold fX7_plan_37
    rw [show d = 4 by omega, if_pos (by decide)]
    rfl
  | j + 1, d, fuel + 1, M', hj, hf, hfr => by
    have h32 : 32 ^ d ≤ 32768 := by
      have : d = 0 ∨ d = 1 ∨ d = 2 ∨ d = 3 := by omega
      rcases this with rfl | rfl | rfl | rfl <;> decide
    obtain ⟨M1, w1, w2⟩ := m_rows (d := d) hh (by omega) ha hr hb hB hK hm (k37 := lf4 fX7_plan_37 fuel) (pl := pl) (32 ^ d) 0 40000 M' (by omega) (by omega) hfr (fun n hn => by omega)
    have eq : lf4 fX7_plan_37 (fuel + 1) (nI a) pl (nI d) M' = lf5 (fX7_plan_45 (lf4 fX7_plan_37 fuel)) 40000 (nI a) pl (nI d) (nI 0) M' := by
      rw [lf4_s]
      rw [show fX7_plan_37 (lf4 fX7_plan_37 fuel) (nI a) pl (nI d) M' = (if (4 : Int32) ≤ nI d then fX7_plan_107 M' else lf5 (fX7_plan_45 (lf4 fX7_plan_37 fuel)) 40000 (nI a) pl (nI d) 0 M') from rfl, if_neg (show ¬ ((4 : Int32) ≤ nI d) from nI_ge (b := 4) (by omega) (by omega))]
      rfl
    rcases w2 with ⟨n, v1, v2, v3, v4⟩ | ⟨v1, v2⟩
    · exact ⟨M1, w1, Or.inl ⟨d, n, Nat.le_refl d, by omega, v1, v2, v3, fun d' h1 h2 => by omega, by rw [eq]; exact v4⟩⟩
    · obtain ⟨M2, y1, y2⟩ := m_find hh ha hr hb hB hK hm (pl := pl) j (d + 1) fuel M1 (by omega) (by omega) w1
      refine ⟨M2, y1, ?_⟩
      rw [eq, v2]
      rcases y2 with ⟨d0, n, x1, x2, x3, x4, x5, x6, x7⟩ | ⟨x1, x2⟩
      · exact Or.inl ⟨d0, n, by omega, x2, x3, x4, x5, fun d' h1 h2 => by
          by_cases e : d' = d
          · rw [e]
            exact v1
          · exact x6 d' (by omega) h2, x7⟩
      · exact Or.inr ⟨fun d' h1 h2 => by
          by_cases e : d' = d
          · rw [e]
            exact v1
          · exact x1 d' (by omega) h2, x2⟩
end URQ
