/-! PURE PART. The law's steps: a field is beaten; a plan is beaten. -/
section PL1
variable {n : Nat} {Z : CZ} {M : MT} {S C : Nat → Nat} {E P : Nat → Nat → Nat} {F : Nat → Int32}
theorem tI4 {F : Nat} (hF : F ≤ 4) : ((4 : Int32) * nI F).toInt = 4 * (F : Int) := (pd_raise hF).1
theorem ne_2m {x : Int32} (h : -100000 ≤ x.toInt) : ¬ x = (-2000000 : Int32) ∧ ¬ x ≤ (-2000000 : Int32) := by
  have e : ((-2000000 : Int32)).toInt = -2000000 := by decide
  refine ⟨fun q => ?_, fun q => ?_⟩
  · rw [q, e] at h
    omega
  · rw [i_le, e] at q
    omega
/-- the tones around a field that was beaten -/
theorem pt_self (s : PS) (c : Nat) : (pt s c).1 (c / 8) = s.1 (c / 8) + (if c % 2 = 1 then -6 * (pF c : Int) else 4 * (pF c : Int)) := if_pos rfl
theorem pt_side (s : PS) {c g : Nat} (h0 : g ≠ c / 8) (h : g = (c / 8 + 1) % 4 ∨ g = (c / 8 + 3) % 4) : (pt s c).1 g = s.1 g + (if c % 2 = 1 then (pF c : Int) else -(pF c : Int)) := (if_neg h0).trans (if_pos h)
theorem pt_far (s : PS) {c g : Nat} (h0 : g ≠ c / 8) (h : ¬ (g = (c / 8 + 1) % 4 ∨ g = (c / 8 + 3) % 4)) : (pt s c).1 g = s.1 g := (if_neg h0).trans (if_neg h)
theorem beat_end (hn : n + 6 < 512) (h : uRR n Z M S C E P) {Z' : CZ} {M' : MT} (h' : uRR (n + 1) Z' M' S C E P) (hz : Z'.2 = Z.2) {p c : Nat} (hp : p < Z.2.2 0) (c32 : c < 32) (hB : pB (uPS M p) c) (ht : trep M' p (pt (uPS M p) c)) {by' t0 : Int32} (hb1 : by'.toInt = if c % 2 = 1 then (pF c : Int) else -(pF c : Int)) (ht0 : t0.toInt = if c % 2 = 1 then -6 * (pF c : Int) else 4 * (pF c : Int)) : fL_isBeaten_171 (nI p) (nI (c / 8)) (nI (c % 2)) (M 4 (4 * p + (c / 8 + 1) % 4)) (M 4 (4 * p + (c / 8 + 3) % 4)) (M 4 (4 * p + (c / 8 + 2) % 4)) (M 5 (4 * p + c / 8)) (M 6 (4 * p + c / 8)) (M' 4 (4 * p + c / 8)) by' t0 (M 4 (4 * p + c / 8)) (M' 4 (4 * p + c / 8)) Z' = some (1, Z') := by
  have hf : c / 8 < 4 := by omega
  have hF := pF_le c
  have hp' : p < Z'.2.2 0 := by rw [hz]; exact hp
  have tw := fun g (hg : g < 4) => h.tw hp hg
  have T := fun g (hg : g < 4) => (ht g hg).1
  have e1 : M' 4 (4 * p + c / 8) = M 4 (4 * p + c / 8) + t0 := by
    have w := tw (c / 8) hf
    rw [i_eq, T _ hf, pt_self, tI_add (by rw [ht0]; split <;> omega) (by rw [ht0]; split <;> omega), ht0]
    rfl
  have e2 : M' 4 (4 * p + (c / 8 + 1) % 4) = M 4 (4 * p + (c / 8 + 1) % 4) + by' := by
    have w := tw ((c / 8 + 1) % 4) (by omega)
    rw [i_eq, T _ (by omega), pt_side _ (by omega) (Or.inl rfl), tI_add (by rw [hb1]; split <;> omega) (by rw [hb1]; split <;> omega), hb1]
    rfl
  have e3 : M' 4 (4 * p + (c / 8 + 3) % 4) = M 4 (4 * p + (c / 8 + 3) % 4) + by' := by
    have w := tw ((c / 8 + 3) % 4) (by omega)
    rw [i_eq, T _ (by omega), pt_side _ (by omega) (Or.inr rfl), tI_add (by rw [hb1]; split <;> omega) (by rw [hb1]; split <;> omega), hb1]
    rfl
  have e4 : M' 4 (4 * p + (c / 8 + 2) % 4) = M 4 (4 * p + (c / 8 + 2) % 4) := by
    rw [i_eq, T _ (by omega), pt_far _ (by omega) (by omega)]
    rfl
  obtain ⟨_, _, _, _, ⟨k, k7, m5⟩, m6⟩ := h.2.1.2.2.2.1 p (c / 8) hp hf
  have ek : (uPS M p).2.1 (c / 8) = k := by
    show (M 5 (4 * p + c / 8)).toNatClampNeg = k
    rw [m5, nIc (by omega)]
  have k6 : k ≤ 6 := by
    have := hB.1
    rw [ek] at this
    exact this
  have e5 : M' 5 (4 * p + c / 8) = nI (k + 1) := by
    refine ((ht _ hf).2.1).trans ?_
    show nI (if c / 8 = c / 8 then (uPS M p).2.1 (c / 8) + 1 else _) = _
    rw [if_pos rfl, ek]
  have ek' : (uPS M' p).2.1 (c / 8) = k + 1 := by
    show (M' 5 (4 * p + c / 8)).toNatClampNeg = k + 1
    rw [e5, nIc (by omega)]
  have e6 : M' 6 (4 * p + c / 8) = if c % 2 = 1 then 1 else M 6 (4 * p + c / 8) := by
    refine ((ht _ hf).2.2).trans ?_
    show (if (if c / 8 = c / 8 then decide (M 6 (4 * p + c / 8) = 1) || decide (c % 2 = 1) else _) = true then (1 : Int32) else 0) = _
    rw [if_pos (rfl : c / 8 = c / 8)]
    rcases m6 with m6 | m6
    · rw [m6]
      by_cases h1 : c % 2 = 1
      · rw [if_pos h1, decide_eq_true h1]
        rfl
      · rw [if_neg h1, decide_eq_false h1]
        rfl
    · rw [m6, decide_eq_true (rfl : (1 : Int32) = 1)]
      by_cases h1 : c % 2 = 1
      · rw [if_pos h1]
        rfl
      · rw [if_neg h1]
        rfl
  have hc2 : c % 2 = 0 ∨ c % 2 = 1 := by omega
  have fin : ∀ t : Int32, (t = if k + 1 ≤ 6 then 0 else 1) → fL_isBeaten_274 (nI p) (nI (c / 8)) (nI (c % 2)) (M 6 (4 * p + c / 8)) t (if k + 1 ≤ 6 then 0 else 1) Z' = some (1, Z') := fun t ht => by
    unfold fL_isBeaten_274
    rw [if_pos ht.symm, q_field3 h' hp' hf, cl1_s, e6]
    unfold fL_isBeaten_295
    rcases hc2 with q | q
    · rw [q, if_pos (show nI 0 = (0 : Int32) from rfl), if_neg (show ¬ (0 : Nat) = 1 by decide), if_pos rfl]
      rfl
    · rw [q, if_neg (by decide), if_pos rfl, if_pos rfl]
      rfl
  unfold fL_isBeaten_171
  rw [u_a1, u_a2, u_a3, u_e4 (by omega), u_e4 (by omega), u_e4 (by omega), if_pos e1, q_field0 h' hp' hf, cl1_s, if_pos rfl, q_field0 h' hp' (by omega), cl1_s, if_pos e2, q_field0 h' hp' (by omega), cl1_s, if_pos e3, q_field0 h' hp' (by omega), cl1_s, if_pos e4, q_field2 h' hp' hf, cl1_s, e5, m5, u_a1, if_pos rfl, q_field4 (by omega) h' hp' hf, cl1_s, ek']
  by_cases q : k = 6
  · rw [if_pos (show nI k = (6 : Int32) by rw [q]; rfl)]
    exact fin _ (by rw [if_neg (by omega)])
  · rw [if_neg (show ¬ nI k = (6 : Int32) from fun z => q ((nI_eq (b := 6) (by omega) (by omega)).mp z))]
    exact fin _ (by rw [if_pos (by omega)])
theorem p_beaten (hn : n + 6 < 512) (h : uRR n Z M S C E P) {p c : Nat} (hp : p < Z.2.2 0) (c32 : c < 32) : ∃ (Z' : CZ) (M' : MT), fL_isBeaten (nI p) (nI (c / 8)) (nI (pF c)) (nI (c % 2)) Z = some (1, Z') ∧ uRR (n + 1) Z' M' S C E P ∧ Z'.2 = Z.2 ∧ ∀ k, k ≠ 4 → k ≠ 5 → k ≠ 6 → M' k = M k := by
  have hf : c / 8 < 4 := by omega
  have hF := pF_le c
  have hc2 : c % 2 = 0 ∨ c % 2 = 1 := by omega
  obtain ⟨_, _, _, _, ⟨k, k7, m5⟩, m6⟩ := h.2.1.2.2.2.1 p (c / 8) hp hf
  have ek : (uPS M p).2.1 (c / 8) = k := by
    show (M 5 (4 * p + c / 8)).toNatClampNeg = k
    rw [m5, nIc (by omega)]
  have start : ∀ r, cl2 (fL_blows (nI p) (nI (c / 8)) (nI (pF c)) (nI (c % 2)) Z) (fun v13 Z15 => (if v13 = (-2000000 : Int32) then (if nI k = (7 : Int32) then fL_isBeaten_102 (nI p) (nI (c / 8)) (M 4 (4 * p + c / 8)) (nI k) Z15 else (if M 6 (4 * p + c / 8) = (1 : Int32) then (if nI (c % 2) = 0 then fL_isBeaten_102 (nI p) (nI (c / 8)) (M 4 (4 * p + c / 8)) (nI k) Z15 else fL_isBeaten_130 Z15) else fL_isBeaten_130 Z15)) else (if nI (c % 2) = 0 then fL_isBeaten_143 (nI p) (nI (c / 8)) (nI (pF c)) (nI (c % 2)) (M 4 (4 * p + c / 8)) (M 4 (4 * p + (c / 8 + 1) % 4)) (M 4 (4 * p + (c / 8 + 3) % 4)) (M 4 (4 * p + (c / 8 + 2) % 4)) (nI k) (M 6 (4 * p + c / 8)) v13 (-(nI (pF c))) Z15 else fL_isBeaten_143 (nI p) (nI (c / 8)) (nI (pF c)) (nI (c % 2)) (M 4 (4 * p + c / 8)) (M 4 (4 * p + (c / 8 + 1) % 4)) (M 4 (4 * p + (c / 8 + 3) % 4)) (M 4 (4 * p + (c / 8 + 2) % 4)) (nI k) (M 6 (4 * p + c / 8)) v13 (nI (pF c)) Z15))) = r → fL_isBeaten (nI p) (nI (c / 8)) (nI (pF c)) (nI (c % 2)) Z = r := fun r hr => by
    unfold fL_isBeaten
    rw [u_a1, u_a2, u_a3, u_e4 (by omega), u_e4 (by omega), u_e4 (by omega), q_field0 h hp hf, cl1_s, q_field0 h hp (by omega), cl1_s, q_field0 h hp (by omega), cl1_s, q_field0 h hp (by omega), cl1_s, q_field2 h hp hf, cl1_s, q_field3 h hp hf, cl1_s, m5]
    exact hr
  unfold fL_blows at start
  rcases k_blow (by omega) h hp c32 with ⟨hB, e⟩ | ⟨hB, Z', M', h', hz, mk, ht, e⟩
  · refine ⟨Z, M, start _ ?_, h.up, rfl, fun _ _ _ _ => rfl⟩
    have fin : fL_isBeaten_102 (nI p) (nI (c / 8)) (M 4 (4 * p + c / 8)) (nI k) Z = some (1, Z) := by
      unfold fL_isBeaten_102
      rw [q_field0 h hp hf, cl1_s, if_pos rfl, q_field2 h hp hf, cl1_s, m5, if_pos rfl]
      rfl
    rw [e, wx_r, cl2_s, if_pos rfl]
    by_cases k6 : k = 7
    · rw [if_pos (show nI k = (7 : Int32) by rw [k6]; rfl)]
      exact fin
    · have hs : ¬ (c % 2 = 1 ∨ (uPS M p).2.2 (c / 8) = false) := fun q => hB ⟨by rw [ek]; omega, q⟩
      have h1 : M 6 (4 * p + c / 8) = 1 := by
        by_cases q : M 6 (4 * p + c / 8) = 1
        · exact q
        · exact absurd (Or.inr (decide_eq_false q)) hs
      rw [if_neg (show ¬ nI k = (7 : Int32) from fun z => k6 ((nI_eq (b := 7) (by omega) (by omega)).mp z)), if_pos h1, if_pos (by rw [nIz (by omega)]; omega)]
      exact fin
  · refine ⟨Z', M', start _ ?_, h', hz, mk⟩
    have hp' : p < Z'.2.2 0 := by rw [hz]; exact hp
    have tw := h'.tw hp' hf
    have k6 : k ≤ 6 := by
      have := hB.1
      rw [ek] at this
      exact this
    rw [e, wx_l, cl2_s, if_neg (ne_2m (by omega)).1]
    rcases hc2 with q | q
    · have be := beat_end (by omega) h h' hz hp c32 hB ht (by' := -(nI (pF c))) (t0 := (4 : Int32) * nI (pF c)) (by rw [(pd_raise hF.2).2, if_neg (by omega)]) (by rw [(pd_raise hF.2).1, if_neg (by omega)])
      rw [if_pos (by rw [q]; rfl)]
      unfold fL_isBeaten_143
      rw [if_neg (show ¬ ((7 : Int32) ≤ nI k) from nI_ge (b := 7) (by omega) (by omega)), if_pos (by rw [q]; rfl)]
      rw [m5] at be
      exact be
    · have be := beat_end (by omega) h h' hz hp c32 hB ht (by' := nI (pF c)) (t0 := (-6 : Int32) * nI (pF c)) (by rw [(pd_sink hF.2).2, if_pos q]) (by rw [(pd_sink hF.2).1, if_pos q])
      rw [if_neg (by rw [q]; decide)]
      unfold fL_isBeaten_143
      rw [if_neg (show ¬ ((7 : Int32) ≤ nI k) from nI_ge (b := 7) (by omega) (by omega)), if_neg (by rw [q]; decide)]
      rw [m5] at be
      exact be
theorem p_beat (hn : n + 6 < 512) (h : INV n Z F) {v p : Nat} (hv : v < 2147483648) (hp : p < Z.2.2 0) : GO n (fL_step_412 (nI v) (nI p) Z F) := by
  obtain ⟨M, S, C, E, P, h, hf, hx⟩ := h
  have go : ∀ x, x ≤ 1 → GO n (fL_step_442 (nI x) (nI (1 + v / 4 % 4)) (nI (v % 4)) (nI p) Z F) := fun x hx1 => by
    obtain ⟨c, hc⟩ : ∃ c, c = 8 * (v % 4) + 2 * (v / 4 % 4) + x := ⟨_, rfl⟩
    have cF : pF c = 1 + v / 4 % 4 := by
      unfold pF
      omega
    obtain ⟨Z', M', e, h', hz, mk⟩ := p_beaten hn h hp (show c < 32 by omega)
    rw [cF, show c / 8 = v % 4 by omega, show c % 2 = x by omega] at e
    unfold GO fL_step_442
    refine ⟨Z', F, ?_, INV.eq hf hx h' (by omega) (by rw [hz]) (by rw [hz]) (mk 1 (by omega) (by omega) (by omega)) (mk 2 (by omega) (by omega) (by omega)) (mk 21 (by omega) (by omega) (by omega)) (mk 24 (by omega) (by omega) (by omega))⟩
    rw [e, cl2_s]
    rfl
  unfold fL_step_412
  rw [u_d16 hv, u_e2 (by omega), u_d4 hv, u_e4 (by omega), u_e4 hv, u_1a]
  split
  · exact go 1 (by omega)
  · exact go 0 (by omega)
/-! a plan -/
def PL (hh : Nat) (s : PS) (l w : Nat) : Prop := l ≤ 3 ∧ w < 32 ^ l ∧ pGood hh (dg l w) s ∧ (∀ w', w' < w → ¬ pGood hh (dg l w') s) ∧ ∀ l', l' < l → pNone hh l' s
theorem PL.uniq {hh l w l' w' : Nat} {s : PS} (h : PL hh s l w) (g : PL hh s l' w') : l' = l ∧ w' = w := by
  have e : l' = l := by
    rcases Nat.lt_trichotomy l' l with q | q | q
    · exact absurd g.2.2.1 (h.2.2.2.2 l' q w' g.2.1)
    · exact q
    · exact absurd h.2.2.1 (g.2.2.2.2 l q w h.2.1)
  subst e
  refine ⟨rfl, ?_⟩
  rcases Nat.lt_trichotomy w' w with q | q | q
  · exact absurd g.2.2.1 (h.2.2.2.1 w' q)
  · exact q
  · exact absurd h.2.2.1 (g.2.2.2.1 w q)
theorem q_plan (hn : n < 512) (h : uRR n Z M S C E P) {i k hh l w : Nat} (hi : i < Z.2.2 0) (hk : k ≤ 3) (h15 : hh ≤ 15) (hm : M 2 0 = nI hh) (hp : PL hh (uPS M i) l w) : ∃ Z', uRR n Z' M S C E P ∧ Z'.2 = Z.2 ∧ fX6_plan_n (nI i) (nI k) Z = some (if k = 0 then nI l else if k ≤ l then nI ((dg l w).getD (k - 1) 0) else -1, Z') := by
  obtain ⟨Z', h', hz, ⟨l', w', a1, a2, a3, a4, a5, e⟩ | ⟨a, e⟩⟩ := k_plan hn h hi hk h15 hm
  · obtain ⟨rfl, rfl⟩ := hp.uniq ⟨a1, a2, a3, a4, a5⟩
    exact ⟨Z', h', hz, nb_plan _ _ _ _ _ e⟩
  · exact absurd hp.2.2.1 (a l hp.1 w hp.2.1)
theorem q_planN (hn : n < 512) (h : uRR n Z M S C E P) {i k hh : Nat} (hi : i < Z.2.2 0) (hk : k ≤ 3) (h15 : hh ≤ 15) (hm : M 2 0 = nI hh) (hp : ∀ l, l ≤ 3 → pNone hh l (uPS M i)) : ∃ Z', uRR n Z' M S C E P ∧ Z'.2 = Z.2 ∧ fX6_plan_n (nI i) (nI k) Z = some (-1, Z') := by
  obtain ⟨Z', h', hz, ⟨l', w', a1, a2, a3, a4, a5, e⟩ | ⟨a, e⟩⟩ := k_plan hn h hi hk h15 hm
  · exact absurd a3 (hp l' a1 w' a2)
  · exact ⟨Z', h', hz, nb_plan _ _ _ _ _ e⟩
theorem q_tune (hn : n < 512) (h : uRR n Z M S C E P) {i hh : Nat} (hi : i < Z.2.2 0) (h15 : hh ≤ 15) (hm : M 2 0 = nI hh) : (pTn (uPS M i) hh → fX6_isInTune_n (nI i) Z = some 1) ∧ (¬ pTn (uPS M i) hh → fX6_isInTune_n (nI i) Z = some 0) := by
  rcases k_isInTune hn h hi h15 hm with ⟨q, e⟩ | ⟨q, e⟩
  · exact ⟨fun _ => nb_isInTune _ _ _ e, fun z => absurd q z⟩
  · exact ⟨fun z => absurd z q, fun _ => nb_isInTune _ _ _ e⟩
/-- pans alike at the four fields -/
def sEq (s s' : PS) : Prop := ∀ f, f < 4 → s.1 f = s'.1 f ∧ s.2.1 f = s'.2.1 f ∧ s.2.2 f = s'.2.2 f
theorem sEq.pt {s s' : PS} (h : sEq s s') {c : Nat} (hc : c < 32) : sEq (pt s c) (pt s' c) := fun f hf => by
  obtain ⟨h1, h2, h3⟩ := h f hf
  refine ⟨?_, ?_, ?_⟩
  · show (if f = c / 8 then s.1 f + _ else if f = (c / 8 + 1) % 4 ∨ f = (c / 8 + 3) % 4 then s.1 f + _ else s.1 f) = (if f = c / 8 then s'.1 f + _ else if f = (c / 8 + 1) % 4 ∨ f = (c / 8 + 3) % 4 then s'.1 f + _ else s'.1 f)
    rw [h1]
  · show (if f = c / 8 then s.2.1 f + 1 else s.2.1 f) = (if f = c / 8 then s'.2.1 f + 1 else s'.2.1 f)
    rw [h2]
  · show (if f = c / 8 then s.2.2 f || _ else s.2.2 f) = (if f = c / 8 then s'.2.2 f || _ else s'.2.2 f)
    rw [h3]
theorem sEq.good {hh : Nat} : ∀ (r : List Nat) {s s' : PS}, sEq s s' → (∀ c ∈ r, c < 32) → pGood hh r s → pGood hh r s'
  | [], s, s', h, _, g => fun f hf => by
    obtain ⟨h1, h2, h3⟩ := h f hf
    have := g f hf
    rw [h1, h2] at this
    exact this
  | c :: r, s, s', h, hc, g => by
    have c32 := hc c List.mem_cons_self
    obtain ⟨h1, h2, h3⟩ := h (c / 8) (by omega)
    refine ⟨?_, sEq.good r (h.pt c32) (fun x hx => hc x (List.mem_cons_of_mem _ hx)) g.2⟩
    have := g.1
    unfold pB at this ⊢
    rw [h2, h3] at this
    exact this
theorem dg_of : ∀ (r : List Nat), r.length ≤ 3 → (∀ c ∈ r, c < 32) → ∃ m, m < 32 ^ r.length ∧ dg r.length m = r
  | [], _, _ => ⟨0, by decide, rfl⟩
  | c :: r, hl, hc => by
    have hl' : r.length + 1 ≤ 3 := hl
    obtain ⟨m, m1, m2⟩ := dg_of r (by omega) (fun x hx => hc x (List.mem_cons_of_mem _ hx))
    have c32 := hc c List.mem_cons_self
    refine ⟨c * 32 ^ r.length + m, dg_lt32 c32 m1, ?_⟩
    show dg (r.length + 1) _ = _
    rw [dg_cons (by omega) c32 m1, m2]
theorem plan_loop (hn : n + 6 < 512) {p hh l : Nat} {s0 : PS} {x3 x4 x5 : Int32} {row : List Nat} (h15 : hh ≤ 15) (hl : l ≤ 3) (hrow : row.length = l) (h32 : ∀ c ∈ row, c < 32) (hx : ∀ j, j < l → (if j = 0 then x3 else if j = 1 then x4 else x5) = nI (row.getD j 0)) (hmin : ∀ r : List Nat, r.length < l → (∀ c ∈ r, c < 32) → ¬ pGood hh r s0) : ∀ (rest done : List Nat) (fuel : Nat) (Z : CZ) (M : MT), done ++ rest = row → rest.length < fuel → p < Z.2.2 0 → M 2 0 = nI hh → uRR (n + done.length) Z M S C E P → pGood hh rest (uPS M p) → (∀ r, (∀ c ∈ r, c < 32) → pGood hh r (uPS M p) → pGood hh (done ++ r) s0) → ∃ (Z' : CZ) (M' : MT), uRR (n + l) Z' M' S C E P ∧ Z'.2 = Z.2 ∧ (∀ k, k ≠ 4 → k ≠ 5 → k ≠ 6 → M' k = M k) ∧ pTn (uPS M' p) hh ∧ lf8 fL_isPlanned_128 fuel (nI p) (nI l) x3 x4 x5 1 (nI done.length) Z = fL_isPlanned_220 (nI p) (nI l) 1 Z'
  | _, _, 0, _, _, _, hf, _, _, _, _, _ => absurd hf (Nat.not_lt_zero _)
  | [], done, fuel + 1, Z, M, hd, _, _, _, h, hg, _ => by
    have e : done.length = l := by
      rw [← hrow, ← hd, List.append_nil]
    refine ⟨Z, M, by rw [← e]; exact h, rfl, fun _ _ _ _ => rfl, hg, ?_⟩
    rw [lf8_s]
    unfold fL_isPlanned_128
    rw [e, if_pos (nI_le (Nat.le_refl l) (by omega))]
  | c :: rest, done, fuel + 1, Z, M, hd, hf, hp, hm, h, hg, hs => by
    have hf' : rest.length + 1 < fuel + 1 := hf
    have hlen : done.length + (rest.length + 1) = l := by
      rw [← hrow, ← hd, List.length_append]
      rfl
    have c32 : c < 32 := h32 c (by rw [← hd]; exact List.mem_append_right _ List.mem_cons_self)
    have hfc : c / 8 < 4 := by omega
    have hk : row.getD done.length 0 = c := by
      rw [← hd, List.getD_eq_getElem?_getD, List.getElem?_append_right (Nat.le_refl _), Nat.sub_self]
      rfl
    have hit := hx done.length (by omega)
    rw [hk] at hit
    have d32 : ∀ x ∈ done, x < 32 := fun x hx9 => h32 x (by rw [← hd]; exact List.mem_append_left _ hx9)
    have nt : ¬ pTn (uPS M p) hh := fun q => hmin done (by omega) d32 (by
      have := hs [] (fun x hx9 => absurd hx9 List.not_mem_nil) q
      rw [List.append_nil] at this
      exact this)
    obtain ⟨gB, gR⟩ := hg
    obtain ⟨Z1, M1, h1, hz1, mk1, ht1, e1⟩ := (k_blow (by omega) h hp c32).resolve_left (fun q => q.1 gB) |>.2
    have hp1 : p < Z1.2.2 0 := by rw [hz1]; exact hp
    have tw := h1.tw hp1 hfc
    have e1' : fL_blows_n (nI p) (nI (c / 8)) (nI (c / 2 % 4 + 1)) (nI (c % 2)) Z = some (M1 4 (4 * p + c / 8), Z1) := by
      unfold fL_blows_n
      have := nb_blow _ _ _ _ _ _ _ e1
      rw [show pF c = c / 2 % 4 + 1 by unfold pF; omega] at this
      exact this
    have se : sEq (pt (uPS M p) c) (uPS M1 p) := fun f hf9 => by
      obtain ⟨t1, t2, t3⟩ := ht1 f hf9
      have b7 := ((h.pbd hp).pt c f hf9).2
      refine ⟨t1.symm, ?_, ?_⟩
      · show _ = (M1 5 (4 * p + f)).toNatClampNeg
        rw [show M1 5 (4 * p + f) = _ from t2, nIc (by omega)]
      · show _ = decide (M1 6 (4 * p + f) = 1)
        rw [show M1 6 (4 * p + f) = _ from t3]
        cases (pt (uPS M p) c).2.2 f <;> rfl
    have se' : sEq (uPS M1 p) (pt (uPS M p) c) := fun f hf9 => ⟨(se f hf9).1.symm, (se f hf9).2.1.symm, (se f hf9).2.2.symm⟩
    have r32 : ∀ x ∈ rest, x < 32 := fun x hx9 => h32 x (by rw [← hd]; exact List.mem_append_right _ (List.mem_cons_of_mem _ hx9))
    obtain ⟨Z2, M2, h2, hz2, mk2, ht2, e2⟩ := plan_loop hn h15 hl hrow h32 hx hmin rest (done ++ [c]) fuel Z1 M1 (by rw [List.append_assoc]; exact hd) (by omega) hp1 (by rw [mk1 2 (by omega) (by omega) (by omega)]; exact hm) (by rw [List.length_append]; exact h1) (se.good rest r32 gR) (fun r hr9 g => by
      rw [List.append_assoc]
      refine hs (c :: r) (fun x hx9 => ?_) ⟨gB, se'.good r hr9 g⟩
      rcases List.mem_cons.mp hx9 with q | q
      · rw [q]
        exact c32
      · exact hr9 x q)
    refine ⟨Z2, M2, h2, hz2.trans hz1, fun k k4 k5 k6 => (mk2 k k4 k5 k6).trans (mk1 k k4 k5 k6), ht2, ?_⟩
    have e161 : fL_isPlanned_161 (lf8 fL_isPlanned_128 fuel) (nI p) (nI l) x3 x4 x5 (nI done.length) (nI c) Z = fL_isPlanned_220 (nI p) (nI l) 1 Z2 := by
      have e199 : ∀ x, x = c % 2 → fL_isPlanned_199 (lf8 fL_isPlanned_128 fuel) (nI p) (nI l) x3 x4 x5 (nI done.length) (nI x) (irm (nI c / (2 : Int32)) (4 : Int32) + (1 : Int32)) (nI c / (8 : Int32)) (nI p) Z = fL_isPlanned_220 (nI p) (nI l) 1 Z2 := fun x hx9 => by
        unfold fL_isPlanned_199
        rw [u_d2 (by omega), u_e4 (by omega), u_a1, u_d8 (by omega), hx9, e1', cl2_s, if_neg (ne_2m (by omega)).2]
        unfold fL_isPlanned_212
        rw [bnd_e, u_a1]
        rw [List.length_append] at e2
        exact e2
      unfold fL_isPlanned_161
      rw [(q_tune (by omega) h hp h15 hm).2 nt, cl1_s, if_pos rfl, u_e2 (by omega)]
      have hc2 : c % 2 = 0 ∨ c % 2 = 1 := by omega
      rcases hc2 with q | q
      · rw [if_neg (by rw [q]; decide)]
        exact e199 0 q.symm
      · rw [if_pos (by rw [q]; rfl)]
        exact e199 1 q.symm
    rw [lf8_s]
    rw [show fL_isPlanned_128 (lf8 fL_isPlanned_128 fuel) (nI p) (nI l) x3 x4 x5 1 (nI done.length) Z = (if nI l ≤ nI done.length then fL_isPlanned_220 (nI p) (nI l) 1 Z else (if (1 : Int32) = 0 then fL_isPlanned_220 (nI p) (nI l) 1 Z else (if nI done.length = 0 then fL_isPlanned_161 (lf8 fL_isPlanned_128 fuel) (nI p) (nI l) x3 x4 x5 (nI done.length) x3 Z else (if nI done.length = (1 : Int32) then fL_isPlanned_161 (lf8 fL_isPlanned_128 fuel) (nI p) (nI l) x3 x4 x5 (nI done.length) x4 Z else fL_isPlanned_161 (lf8 fL_isPlanned_128 fuel) (nI p) (nI l) x3 x4 x5 (nI done.length) x5 Z)))) from rfl, if_neg (nI_ge (by omega) (by omega)), if_neg (by decide)]
    by_cases k0 : done.length = 0
    · rw [if_pos (by rw [k0]; rfl)]
      rw [if_pos k0] at hit
      rw [hit] at e161 ⊢
      exact e161
    · rw [if_neg (by rw [nIz (by omega)]; exact k0)]
      rw [if_neg k0] at hit
      by_cases k1 : done.length = 1
      · rw [if_pos (by rw [k1]; rfl)]
        rw [if_pos k1] at hit
        rw [hit] at e161 ⊢
        exact e161
      · rw [if_neg (show ¬ nI done.length = (1 : Int32) from fun z => k1 ((nI_eq (b := 1) (by omega) (by omega)).mp z))]
        rw [if_neg k1] at hit
        rw [hit] at e161 ⊢
        exact e161
/-- the head of it: what the four answers say of one another -/
theorem plan_head {p : Nat} {x2 x3 x4 x5 v t0 : Int32} {r : Option (Int32 × CZ)} (hv : fX6_isInTune_n (nI p) Z = some v) (ht : t0 = v) (h1 : (if x3 = (-1 : Int32) then (1 : Int32) else 0) = (if (1 : Int32) ≤ x2 then 0 else 1)) (h2 : (if x4 = (-1 : Int32) then (1 : Int32) else 0) = (if (2 : Int32) ≤ x2 then 0 else 1)) (h3 : (if x5 = (-1 : Int32) then (1 : Int32) else 0) = (if (3 : Int32) ≤ x2 then 0 else 1)) (hr : lf8 fL_isPlanned_128 100 (nI p) x2 x3 x4 x5 1 0 Z = r) : fL_isPlanned_39 (nI p) x2 x3 x4 x5 t0 Z = r := by
  have e105 : ∀ t, (t = if (3 : Int32) ≤ x2 then 0 else 1) → fL_isPlanned_105 (nI p) x2 x3 x4 x5 t Z = r := fun t ht => by
    unfold fL_isPlanned_105 fL_isPlanned_115
    by_cases q : (3 : Int32) ≤ x2
    · rw [if_pos q] at ht ⊢
      rw [if_pos ht]
      exact hr
    · rw [if_neg q] at ht ⊢
      rw [if_pos ht]
      exact hr
  have e91 : ∀ t u, t = u → fL_isPlanned_91 (nI p) x2 x3 x4 x5 u t Z = r := fun t u htu => by
    unfold fL_isPlanned_91
    rw [if_pos htu]
    by_cases q : x5 = (-1 : Int32)
    · rw [if_pos q] at h3 ⊢
      exact e105 _ h3
    · rw [if_neg q] at h3 ⊢
      exact e105 _ h3
  have e81 : ∀ t, (t = if (2 : Int32) ≤ x2 then 0 else 1) → fL_isPlanned_81 (nI p) x2 x3 x4 x5 t Z = r := fun t ht => by
    unfold fL_isPlanned_81
    by_cases q : (2 : Int32) ≤ x2
    · rw [if_pos q] at ht ⊢
      exact e91 _ _ ht
    · rw [if_neg q] at ht ⊢
      exact e91 _ _ ht
  have e67 : ∀ t u, t = u → fL_isPlanned_67 (nI p) x2 x3 x4 x5 u t Z = r := fun t u htu => by
    unfold fL_isPlanned_67
    rw [if_pos htu]
    by_cases q : x4 = (-1 : Int32)
    · rw [if_pos q] at h2 ⊢
      exact e81 _ h2
    · rw [if_neg q] at h2 ⊢
      exact e81 _ h2
  have e57 : ∀ t, (t = if (1 : Int32) ≤ x2 then 0 else 1) → fL_isPlanned_57 (nI p) x2 x3 x4 x5 t Z = r := fun t ht => by
    unfold fL_isPlanned_57
    by_cases q : (1 : Int32) ≤ x2
    · rw [if_pos q] at ht ⊢
      exact e67 _ _ ht
    · rw [if_neg q] at ht ⊢
      exact e67 _ _ ht
  unfold fL_isPlanned_39
  rw [hv, cl1_s, if_pos ht]
  by_cases q : x3 = (-1 : Int32)
  · rw [if_pos q] at h1 ⊢
    exact e57 _ h1
  · rw [if_neg q] at h1 ⊢
    exact e57 _ h1
theorem p_planned (hn : n + 6 < 512) (h : uRR n Z M S C E P) {p : Nat} (hp : p < Z.2.2 0) : ∃ (Z' : CZ) (M' : MT), fL_isPlanned (nI p) Z = some (1, Z') ∧ uRR (n + 3) Z' M' S C E P ∧ Z'.2 = Z.2 ∧ ∀ k, k ≠ 4 → k ≠ 5 → k ≠ 6 → M' k = M k := by
  obtain ⟨_, _, ⟨hh, h15, hm⟩, _⟩ := h.1
  have nneg : (-1 : Int32) ≤ 0 := by decide
  have tn0 : pTn (uPS M p) hh ↔ pGood hh (dg 0 0) (uPS M p) := Iff.rfl
  obtain ⟨_, _, _, alt⟩ := k_plan (k := 0) (by omega) h hp (by omega) h15 hm
  have alt : (∃ l w, PL hh (uPS M p) l w) ∨ ∀ l, l ≤ 3 → pNone hh l (uPS M p) := by
    rcases alt with ⟨l, w, a1, a2, a3, a4, a5, _⟩ | ⟨a, _⟩
    · exact Or.inl ⟨l, w, a1, a2, a3, a4, a5⟩
    · exact Or.inr a
  rcases alt with ⟨l, w, hpl⟩ | hno
  · have hl := hpl.1
    obtain ⟨Z0, h0, z0, e0⟩ := q_plan (k := 0) (by omega) h hp (by omega) h15 hm hpl
    obtain ⟨Z1, h1, z1, e1⟩ := q_plan (k := 1) (by omega) h0 (by rw [z0]; exact hp) (by omega) h15 hm hpl
    obtain ⟨Z2, h2, z2, e2⟩ := q_plan (k := 2) (by omega) h1 (by rw [z1, z0]; exact hp) (by omega) h15 hm hpl
    obtain ⟨Z3, h3, z3, e3⟩ := q_plan (k := 3) (by omega) h2 (by rw [z2, z1, z0]; exact hp) (by omega) h15 hm hpl
    have zz : Z3.2 = Z.2 := by rw [z3, z2, z1, z0]
    have hp3 : p < Z3.2.2 0 := by rw [zz]; exact hp
    rw [if_pos rfl] at e0
    rw [if_neg (by omega)] at e1 e2 e3
    obtain ⟨x3, hx3⟩ : ∃ x : Int32, x = if 1 ≤ l then nI ((dg l w).getD (1 - 1) 0) else -1 := ⟨_, rfl⟩
    obtain ⟨x4, hx4⟩ : ∃ x : Int32, x = if 2 ≤ l then nI ((dg l w).getD (2 - 1) 0) else -1 := ⟨_, rfl⟩
    obtain ⟨x5, hx5⟩ : ∃ x : Int32, x = if 3 ≤ l then nI ((dg l w).getD (3 - 1) 0) else -1 := ⟨_, rfl⟩
    rw [← hx3] at e1
    rw [← hx4] at e2
    rw [← hx5] at e3
    have g32 : ∀ j, (dg l w).getD j 0 < 32 := fun j => by
      rw [List.getD_eq_getElem?_getD]
      rcases q : (dg l w)[j]? with _ | c
      · show 0 < 32
        omega
      · exact dg_lt l w c (List.mem_of_getElem? q)
    have xs : ∀ j, j < l → (if j = 0 then x3 else if j = 1 then x4 else x5) = nI ((dg l w).getD j 0) := fun j hj => by
      have : j = 0 ∨ j = 1 ∨ j = 2 := by omega
      rcases this with rfl | rfl | rfl
      · rw [if_pos rfl, hx3, if_pos (by omega)]
      · rw [if_neg (by omega), if_pos rfl, hx4, if_pos (by omega)]
      · rw [if_neg (by omega), if_neg (by omega), hx5, if_pos (by omega)]
    obtain ⟨Z', M', h', hz, mk, ht, el⟩ := plan_loop hn h15 hl (dg_len l w) (dg_lt l w) xs (fun r hr r32 g => by
      obtain ⟨m, m1, m2⟩ := dg_of r (by omega) r32
      exact hpl.2.2.2.2 r.length hr m m1 (by rw [m2]; exact g)) (dg l w) [] 100 Z3 M rfl (by rw [dg_len]; omega) hp3 hm h3 hpl.2.2.1 (fun r _ g => g)
    have hp' : p < Z'.2.2 0 := by rw [hz]; exact hp3
    have hm' : M' 2 0 = nI hh := by rw [mk 2 (by omega) (by omega) (by omega)]; exact hm
    have pl0 : PL hh (uPS M' p) 0 0 := ⟨by omega, by decide, ht, fun w' hw => absurd hw (by omega), fun l' hl' => absurd hl' (by omega)⟩
    obtain ⟨Z9, h9, z9, e9⟩ := q_plan (k := 0) (by omega) h' hp' (by omega) h15 hm' pl0
    refine ⟨Z9, M', ?_, ?_, by rw [z9, hz, zz], mk⟩
    · have e220 : fL_isPlanned_220 (nI p) (nI l) 1 Z' = some (1, Z9) := by
        unfold fL_isPlanned_220
        rw [if_neg (by decide), if_neg (ne_m1 (by omega)), (q_tune (by omega) h' hp' h15 hm').1 ht, cl1_s, if_neg (by decide)]
        rw [if_pos rfl] at e9
        rw [show fX6_plan_n (nI p) (0 : Int32) Z' = some (nI 0, Z9) from e9, cl2_s, if_pos (show nI 0 = (0 : Int32) from rfl)]
        rfl
      have el' : lf8 fL_isPlanned_128 100 (nI p) (nI l) x3 x4 x5 1 0 Z3 = some (1, Z9) := el.trans e220
      have cmp : ∀ (k : Nat) (x : Int32), 1 ≤ k → k ≤ 3 → (x = if k ≤ l then nI ((dg l w).getD (k - 1) 0) else -1) → (if x = (-1 : Int32) then (1 : Int32) else 0) = (if nI k ≤ nI l then 0 else 1) := fun k x k1 k3 hx => by
        have := g32 (k - 1)
        by_cases q : k ≤ l
        · rw [hx, if_pos q, if_neg (ne_m1 (by omega)), if_pos (nI_le q (by omega))]
        · rw [hx, if_neg q, if_pos rfl, if_neg (nI_ge (by omega) (by omega))]
      have c1 := cmp 1 x3 (by omega) (by omega) hx3
      have c2 := cmp 2 x4 (by omega) (by omega) hx4
      have c3 := cmp 3 x5 (by omega) (by omega) hx5
      unfold fL_isPlanned
      rw [show fX6_plan_n (nI p) (0 : Int32) Z = some (nI l, Z0) from e0, cl2_s, show fX6_plan_n (nI p) (1 : Int32) Z0 = some (x3, Z1) from e1, cl2_s, show fX6_plan_n (nI p) (2 : Int32) Z1 = some (x4, Z2) from e2, cl2_s, show fX6_plan_n (nI p) (3 : Int32) Z2 = some (x5, Z3) from e3, cl2_s]
      by_cases l0 : l = 0
      · subst l0
        have : w = 0 := by
          have := hpl.2.1
          have e : (32 : Nat) ^ 0 = 1 := rfl
          omega
        subst this
        rw [if_pos (by rfl)]
        exact plan_head ((q_tune (by omega) h3 hp3 h15 hm).1 (tn0.mpr hpl.2.2.1)) rfl c1 c2 c3 el'
      · rw [if_neg (by rw [nIz (by omega)]; exact l0)]
        exact plan_head ((q_tune (by omega) h3 hp3 h15 hm).2 (fun q => hpl.2.2.2.2 0 (by omega) 0 (by decide) (tn0.mp q))) rfl c1 c2 c3 el'
    · have := h9.ups (3 - l)
      rw [show n + l + (3 - l) = n + 3 by omega] at this
      exact this
  · obtain ⟨Z0, h0, z0, e0⟩ := q_planN (k := 0) (by omega) h hp (by omega) h15 hm hno
    obtain ⟨Z1, h1, z1, e1⟩ := q_planN (k := 1) (by omega) h0 (by rw [z0]; exact hp) (by omega) h15 hm hno
    obtain ⟨Z2, h2, z2, e2⟩ := q_planN (k := 2) (by omega) h1 (by rw [z1, z0]; exact hp) (by omega) h15 hm hno
    obtain ⟨Z3, h3, z3, e3⟩ := q_planN (k := 3) (by omega) h2 (by rw [z2, z1, z0]; exact hp) (by omega) h15 hm hno
    have zz : Z3.2 = Z.2 := by rw [z3, z2, z1, z0]
    have hp3 : p < Z3.2.2 0 := by rw [zz]; exact hp
    refine ⟨Z3, M, ?_, h3.ups 3, zz, fun _ _ _ _ => rfl⟩
    unfold fL_isPlanned
    rw [show fX6_plan_n (nI p) (0 : Int32) Z = some (-1, Z0) from e0, cl2_s, show fX6_plan_n (nI p) (1 : Int32) Z0 = some (-1, Z1) from e1, cl2_s, show fX6_plan_n (nI p) (2 : Int32) Z1 = some (-1, Z2) from e2, cl2_s, show fX6_plan_n (nI p) (3 : Int32) Z2 = some (-1, Z3) from e3, cl2_s, if_neg (by decide)]
    refine plan_head ((q_tune (by omega) h3 hp3 h15 hm).2 (fun q => hno 0 (by omega) 0 (by decide) (tn0.mp q))) rfl (by decide) (by decide) (by decide) ?_
    show lf8 fL_isPlanned_128 (99 + 1) (nI p) (-1) (-1) (-1) (-1) 1 0 Z3 = _
    rw [lf8_s]
    unfold fL_isPlanned_128 fL_isPlanned_220
    rw [if_pos nneg, if_neg (by decide), if_pos rfl]
    rfl
theorem p_plan (hn : n + 6 < 512) (h : INV n Z F) {p : Nat} (hp : p < Z.2.2 0) : GO n (fL_step_514 (nI p) Z F) := by
  obtain ⟨M, S, C, E, P, h, hf, hx⟩ := h
  obtain ⟨f0, f1, f2, f4⟩ := id hf
  obtain ⟨Z', M', e, h', hz, mk⟩ := p_planned hn h hp
  unfold GO fL_step_514
  rw [gd53, gd53, cl_3, bnd_e, gd53]
  by_cases q : (3 : Int32) < upd F 3 (F 3 + 1) 3
  · refine ⟨Z, upd F 3 (F 3 + 1), ?_, INV.of hf hx (k := 0) h (by omega) (by rw [pk_un (by omega)]; exact f0) (by rw [pk_un (by omega)]; exact f1) ⟨pk_un (by omega), pk_un (by omega)⟩ rfl rfl rfl rfl⟩
    rw [if_pos q]
    rfl
  · refine ⟨Z', upd F 3 (F 3 + 1), ?_, INV.of hf hx h' (by omega) (by rw [pk_un (by omega), hz]; exact f0) (by rw [pk_un (by omega), hz]; exact f1) ⟨pk_un (by omega), pk_un (by omega)⟩ (mk 1 (by omega) (by omega) (by omega)) (mk 2 (by omega) (by omega) (by omega)) (mk 21 (by omega) (by omega) (by omega)) (mk 24 (by omega) (by omega) (by omega))⟩
    rw [if_neg q, e, cl2_s, if_neg (by decide)]
    rfl
end PL1
