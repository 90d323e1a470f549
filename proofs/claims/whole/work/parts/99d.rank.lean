/-! PURE PART. score, rank. -/
def sL (l v : Int32) : Int32 := if v < l then v else l
def sM (m v : Int32) : Int32 := if m < v then v else m
def usco (v : Nat → Int32) (ov : Int32) : Int32 := (((((((0 : Int32) + v 0) + v 1) + v 2) + v 3) + v 4) - sL (sL (sL (sL (sL 100 (v 0)) (v 1)) (v 2)) (v 3)) (v 4)) - sM (sM (sM (sM (sM 0 (v 0)) (v 1)) (v 2)) (v 3)) (v 4) - ov
theorem usco_c {v w : Nat → Int32} {o : Int32} (h : ∀ j, j < 5 → v j = w j) : usco v o = usco w o := by
  unfold usco
  rw [h 0 (by omega), h 1 (by omega), h 2 (by omega), h 3 (by omega), h 4 (by omega)]
section URK
variable {n : Nat} {Z : CZ} {M : MT} {S C : Nat → Nat} {E P : Nat → Nat → Nat}
theorem c_sc_s {b x : Nat} {s l m : Int32} (hb : b < 4) (hx : x < 5) (fuel : Nat) : lf5 (fX0_countScore_10 Z) (fuel + 1) b s l m (nI x) = lf5 (fX0_countScore_10 Z) fuel b (s + Z.1 12 b x) (sL l (Z.1 12 b x)) (sM m (Z.1 12 b x)) (nI (x + 1)) := by
  rw [lf5_s]
  unfold fX0_countScore_10
  rw [if_neg (show ¬ ((5 : Int32) ≤ nI x) from nI_ge (b := 5) (by omega) (by omega)), cLv10 hb, gdt, gdn hx (by omega), bnd_e, gdn hx (by omega), bnd_e, gdn hx (by omega), bnd_e, bnd_e, nIc (by omega), u_a1]
  rfl
theorem c_score {b : Nat} (hb : b < 4) : fX0_countScore b Z = some (usco (Z.1 12 b) (Z.1 10 b 6)) := by
  unfold fX0_countScore
  show lf5 (fX0_countScore_10 Z) (94 + 1 + 1 + 1 + 1 + 1 + 1) b 0 100 0 (nI 0) = _
  rw [c_sc_s hb (by omega), c_sc_s hb (by omega), c_sc_s hb (by omega), c_sc_s hb (by omega), c_sc_s hb (by omega), lf5_s]
  unfold fX0_countScore_10
  rw [if_pos (by decide)]
  unfold fX0_countScore_56
  rw [cLv10 hb, gdt]
  rfl
theorem m_sc_s {b x : Nat} {s l m : Int32} (hb : b < 4) (hx : x < 5) (fuel : Nat) : lf5 (fX7_scoreOf_13 M) (fuel + 1) (nI b) s l m (nI (5 * b + x)) = lf5 (fX7_scoreOf_13 M) fuel (nI b) (s + M 26 (5 * b + x)) (sL l (M 26 (5 * b + x))) (sM m (M 26 (5 * b + x))) (nI (5 * b + (x + 1))) := by
  have e55 : ∀ t : Int32, fX7_scoreOf_55 M (lf5 (fX7_scoreOf_13 M) fuel) (nI b) (s + M 26 (5 * b + x)) m (nI (5 * b + x)) t = lf5 (fX7_scoreOf_13 M) fuel (nI b) (s + M 26 (5 * b + x)) t (sM m (M 26 (5 * b + x))) (nI (5 * b + (x + 1))) := fun t => by
    unfold fX7_scoreOf_55 fX7_scoreOf_80
    rw [gdn (by omega) (by omega), gdn (by omega) (by omega), nIc (by omega)]
    unfold sM
    by_cases h : m < M 26 (5 * b + x)
    · rw [if_pos h, if_neg (Int32.not_le.mpr h), bnd_e, u_a1]
      rfl
    · rw [if_neg h, if_pos (Int32.not_lt.mp h), bnd_e, u_a1]
      rfl
  rw [lf5_s]
  unfold fX7_scoreOf_13
  rw [u_l5, show nI (5 * b) + (5 : Int32) = nI (5 * b + 5) from nI_add _ 5, if_neg (nI_ge (by omega) (by omega)), gdn (by omega) (by omega), bnd_e, gdn (by omega) (by omega), gdn (by omega) (by omega), nIc (by omega)]
  unfold sL
  by_cases h : M 26 (5 * b + x) < l
  · rw [if_pos h, if_neg (Int32.not_le.mpr h)]
    exact e55 _
  · rw [if_neg h, if_pos (Int32.not_lt.mp h)]
    exact e55 _
theorem m_score {b : Nat} (hb : b < 4) : fX7_scoreOf (nI b) M = some (usco (fun j => M 26 (5 * b + j)) (M 24 b)) := by
  unfold fX7_scoreOf
  rw [bnd_e, u_l5]
  show lf5 (fX7_scoreOf_13 M) (94 + 1 + 1 + 1 + 1 + 1 + 1) (nI b) 0 100 0 (nI (5 * b + 0)) = _
  rw [m_sc_s hb (by omega), m_sc_s hb (by omega), m_sc_s hb (by omega), m_sc_s hb (by omega), m_sc_s hb (by omega), lf5_s]
  unfold fX7_scoreOf_13
  rw [u_l5, show nI (5 * b) + (5 : Int32) = nI (5 * b + 5) from nI_add _ 5, if_pos (nI_le (by omega) (by omega))]
  unfold fX7_scoreOf_88
  rw [gdn hb (by omega), nIc (by omega)]
  rfl
/-- the score of b, as the model has it -/
def uS (M : MT) (b : Nat) : Int32 := usco (fun j => M 26 (5 * b + j)) (M 24 b)
theorem uRR.csc (h : uRR n Z M S C E P) {b : Nat} (hb : b < 4) : fX0_countScore b Z = some (uS M b) := by
  rw [c_score hb, (h.2.2.2.2.2.2.2.2.2.2.1 b hb).2.1]
  exact congrArg some (usco_c (fun j hj => ((h.2.2.2.2.2.2.2.2.2.2.2 b hb).1 j hj).1))
theorem uRR.crk (h : uRR n Z M S C E P) {b : Nat} (hb : b < 4) : fX0_isRanked b Z = some (if M 25 b = 5 then 1 else 0) := by
  unfold fX0_isRanked
  rw [cLv10 hb, gdt, h.cm hb, cl1_s]
  split <;> rfl
theorem ok_score : st_score (uR n) (uR (n + 1)) := by
  rintro Z M ⟨S, C, E, P, h⟩ a1
  rcases uIx_or a1 (n := 4) (by omega) with ⟨b, hb, rfl⟩ | hf
  · by_cases hr : M 25 b = 5
    · refine ⟨uS M b, va_up M 0 (fun _ => 0), ?_, ⟨S, C, E, P, h.up⟩, Or.inl ⟨?_, rfl⟩⟩
      · unfold fX7_score
        rw [m_isBand hb, cl1_s, if_neg (by decide), gdn hb (by omega), nIc (by omega), if_pos hr]
        unfold fX7_score_27
        rw [m_holds_0, cl2_s, if_neg (by decide), m_score hb, cl1_s]
        rfl
      · unfold fX6_score
        rw [h.bandAt hb, cx1_l, cLv10 hb, gdt, h.crk hb, cl1_s, if_pos hr, c_rs_1, cx1_l, h.csc hb, cl1_s]
    · refine sR_err (cd := 3) (j := 1) ⟨S, C, E, P, h⟩ ?_ ?_ rfl rfl
      · unfold fX7_score
        rw [m_isBand hb, cl1_s, if_neg (by decide), gdn hb (by omega), nIc (by omega), if_neg hr]
        rfl
      · unfold fX6_score
        rw [h.bandAt hb, cx1_l, cLv10 hb, gdt, h.crk hb, cl1_s, if_neg hr, c_rs_0, cx1_r]
  · refine sR_err (cd := 1) (j := 0) ⟨S, C, E, P, h⟩ ?_ ?_ rfl rfl
    · unfold fX7_score
      rw [m_isBandF hf, cl1_s, if_pos (by decide)]
      rfl
    · unfold fX6_score
      rw [h.bandAtF hf, cx1_r]
/-- o is ranked ahead of b -/
def uah (M : MT) (o b : Nat) : Prop := (uS M b).toInt < (uS M o).toInt ∨ (uS M b).toInt = (uS M o).toInt ∧ ((M 23 o).toInt < (M 23 b).toInt ∨ (M 23 o).toInt = (M 23 b).toInt ∧ o < b)
theorem m_isAhead {o b : Nat} (ho : o < 4) (hb : b < 4) : (uah M o b → fX7_isAhead (nI o) (nI b) M = some 1) ∧ (¬ uah M o b → fX7_isAhead (nI o) (nI b) M = some 0) := by
  have e : ∀ v, (if uS M o = uS M b then gd (gin (nI o) 4) (gd (gin (nI b) 4) (if M 23 (nI o).toNatClampNeg < M 23 (nI b).toNatClampNeg then fX7_isAhead_67 M else gd (gin (nI o) 4) (gd (gin (nI b) 4) (if M 23 (nI o).toNatClampNeg = M 23 (nI b).toNatClampNeg then (if nI b ≤ nI o then fX7_isAhead_71 M else fX7_isAhead_67 M) else fX7_isAhead_71 M)))) else (if uS M o ≤ uS M b then fX7_isAhead_31 M 0 else fX7_isAhead_31 M 1)) = some v → fX7_isAhead (nI o) (nI b) M = some v := fun v hv => by
    unfold fX7_isAhead
    rw [m_score ho, cl1_s, m_score hb, cl1_s, cl1_s, cl1_s]
    exact hv
  unfold uah
  constructor
  · intro ha
    refine e 1 ?_
    rcases ha with ha | ⟨ha, hh⟩
    · rw [if_neg (fun q => by rw [q] at ha; omega), if_neg (by rw [i_le]; omega)]
      rfl
    · rw [if_pos (by rw [i_eq]; omega), gdn ho (by omega), gdn hb (by omega), nIc (by omega), nIc (by omega)]
      rcases hh with hh | ⟨hh, hi⟩
      · rw [if_pos (by rw [i_lt]; exact hh)]
        rfl
      · rw [if_neg (by rw [i_lt]; omega), gdn ho (by omega), gdn hb (by omega), if_pos (by rw [i_eq]; exact hh), if_neg (nI_ge hi (by omega))]
        rfl
  · intro ha
    refine e 0 ?_
    by_cases hs : uS M o = uS M b
    · rw [if_pos hs, gdn ho (by omega), gdn hb (by omega), nIc (by omega), nIc (by omega)]
      have hs' := congrArg Int32.toInt hs
      rw [if_neg (fun q => ha (Or.inr ⟨hs'.symm, Or.inl (i_lt.mp q)⟩)), gdn ho (by omega), gdn hb (by omega)]
      by_cases hq : M 23 o = M 23 b
      · rw [if_pos hq, if_pos (nI_le (Nat.not_lt.mp (fun q => ha (Or.inr ⟨hs'.symm, Or.inr ⟨congrArg Int32.toInt hq, q⟩⟩))) (by omega))]
        rfl
      · rw [if_neg hq]
        rfl
    · have hs' : (uS M o).toInt ≠ (uS M b).toInt := fun q => hs (i_eq.mpr q)
      rw [if_neg hs, if_pos (by rw [i_le]; omega)]
      rfl
/-- whether o counts as ahead of b -/
def uT (M : MT) (o b : Nat) : Prop := M 25 o = 5 ∧ o ≠ b ∧ uah M o b
noncomputable def ut (M : MT) (o b : Nat) : Nat := @ite _ (uT M o b) (Classical.propDecidable _) 1 0
theorem ut_1 {o b : Nat} (h : uT M o b) : ut M o b = 1 := if_pos h
theorem ut_0 {o b : Nat} (h : ¬ uT M o b) : ut M o b = 0 := if_neg h
theorem ut_or (M : MT) (o b : Nat) : (uT M o b ∧ ut M o b = 1) ∨ (¬ uT M o b ∧ ut M o b = 0) := by
  by_cases h : uT M o b
  · exact Or.inl ⟨h, ut_1 h⟩
  · exact Or.inr ⟨h, ut_0 h⟩
noncomputable def un (M : MT) (b : Nat) : Nat := ut M 0 b + ut M 1 b + ut M 2 b + ut M 3 b
theorem un_lt {b b' : Nat} (hb : b < 4) (hr : M 25 b = 5) (hne : b ≠ b') (ha : uah M b b') : un M b < un M b' := by
  have hm : ∀ o, ut M o b ≤ ut M o b' := fun o => by
    rcases ut_or M o b with ⟨⟨q1, q2, q3⟩, q4⟩ | ⟨_, q4⟩
    · have : uT M o b' := ⟨q1, fun e => by
        subst e
        unfold uah at ha q3
        omega, by
        unfold uah at *
        omega⟩
      rw [q4, ut_1 this]
      exact Nat.le_refl 1
    · rw [q4]
      exact Nat.zero_le _
  have h0 : ut M b b = 0 := ut_0 (fun q => q.2.1 rfl)
  have h1 : ut M b b' = 1 := ut_1 ⟨hr, hne, ha⟩
  have m0 := hm 0
  have m1 := hm 1
  have m2 := hm 2
  have m3 := hm 3
  unfold un
  have : b = 0 ∨ b = 1 ∨ b = 2 ∨ b = 3 := by omega
  rcases this with rfl | rfl | rfl | rfl <;> omega
theorem un_inj {b b' : Nat} (hb : b < 4) (hb' : b' < 4) (hr : M 25 b = 5) (hr' : M 25 b' = 5) (h : un M b = un M b') : b = b' := by
  by_cases e : b = b'
  · exact e
  · have : uah M b b' ∨ uah M b' b := by
      unfold uah
      omega
    rcases this with ha | ha
    · have := un_lt hb hr e ha
      omega
    · have := un_lt hb' hr' (fun q => e q.symm) ha
      omega
theorem un_le (M : MT) (b : Nat) : un M b ≤ 4 := by
  have h : ∀ o, ut M o b ≤ 1 := fun o => by
    rcases ut_or M o b with ⟨_, q⟩ | ⟨_, q⟩ <;> omega
  have := h 0
  have := h 1
  have := h 2
  have := h 3
  unfold un
  omega
theorem c_bandAt_n (h : uRR n Z M S C E P) {b : Nat} (hb : b < 4) : fX6_bandAt_n (nI b) Z = some b := by
  unfold fX6_bandAt_n fX6_requireIndex_n
  rw [h.ls2.size (by omega), cl1_s, if_neg (nI_pos (by omega)), if_pos (nI_lt hb (by omega)), cl1_s, h.ls2.get (by omega) hb, cl1_s, id, cLv10 hb, gdt]
/-- what was heard of a ranked band -/
theorem uRR.hd (h : uRR n Z M S C E P) {b : Nat} (hb : b < 4) (hr : M 25 b = 5) : Z.1 10 b 5 = M 23 b := by
  rcases (h.2.2.2.2.2.2.2.2.2.2.1 b hb).2.2 with ⟨_, _, q⟩ | ⟨_, q, _⟩
  · rw [q] at hr
    exact absurd hr (by decide)
  · exact q
theorem c_isAhead (h : uRR n Z M S C E P) {o b : Nat} (ho : o < 4) (hb : b < 4) (hr : M 25 b = 5) : (M 25 o = 5 ∧ uah M o b → fX6_isAhead_n (nI o) (nI b) Z = some 1) ∧ (¬ (M 25 o = 5 ∧ uah M o b) → fX6_isAhead_n (nI o) (nI b) Z = some 0) := by
  have e0 : ¬ M 25 o = 5 → fX6_isAhead_n (nI o) (nI b) Z = some 0 := fun hn => by
    unfold fX6_isAhead_n
    rw [c_bandAt_n h ho, cl1_s, c_bandAt_n h hb, cl1_s, cLv10 ho, gdt, h.crk ho, cl1_s, if_neg hn, if_pos (by decide)]
  have e : M 25 o = 5 → ∀ v, (if uS M o = uS M b then (if M 23 o = M 23 b then (if nI b ≤ nI o then fX6_isAhead_n_97 Z 0 else fX6_isAhead_n_97 Z 1) else (if M 23 b ≤ M 23 o then fX6_isAhead_n_97 Z 0 else fX6_isAhead_n_97 Z 1)) else (if uS M o ≤ uS M b then fX6_isAhead_n_54 Z 0 else fX6_isAhead_n_54 Z 1)) = some v → fX6_isAhead_n (nI o) (nI b) Z = some v := fun hro v hv => by
    unfold fX6_isAhead_n
    rw [c_bandAt_n h ho, cl1_s, c_bandAt_n h hb, cl1_s, cLv10 ho, gdt, h.crk ho, cl1_s, if_pos hro, if_neg (by decide), h.csc ho, cl1_s, cLv10 hb, gdt, h.csc hb, cl1_s, h.hd ho hro, h.hd hb hr]
    exact hv
  constructor
  · rintro ⟨hro, ha⟩
    refine e hro 1 ?_
    unfold uah at ha
    rcases ha with ha | ⟨ha, hh⟩
    · rw [if_neg (fun q => by rw [q] at ha; omega), if_neg (by rw [i_le]; omega)]
      rfl
    · rw [if_pos (by rw [i_eq]; omega)]
      rcases hh with hh | ⟨hh, hi⟩
      · rw [if_neg (fun q => by rw [q] at hh; omega), if_neg (by rw [i_le]; omega)]
        rfl
      · rw [if_pos (by rw [i_eq]; exact hh), if_neg (nI_ge hi (by omega))]
        rfl
  · intro hn
    by_cases hro : M 25 o = 5
    · have ha : ¬ uah M o b := fun q => hn ⟨hro, q⟩
      refine e hro 0 ?_
      unfold uah at ha
      by_cases hs : uS M o = uS M b
      · have hs' := congrArg Int32.toInt hs
        rw [if_pos hs]
        by_cases hq : M 23 o = M 23 b
        · rw [if_pos hq, if_pos (nI_le (Nat.not_lt.mp (fun q => ha (Or.inr ⟨hs'.symm, Or.inr ⟨congrArg Int32.toInt hq, q⟩⟩))) (by omega))]
          rfl
        · have hq' : (M 23 o).toInt ≠ (M 23 b).toInt := fun q => hq (i_eq.mpr q)
          rw [if_neg hq, if_pos (by rw [i_le]; omega)]
          rfl
      · have hs' : (uS M o).toInt ≠ (uS M b).toInt := fun q => hs (i_eq.mpr q)
        rw [if_neg hs, if_pos (by rw [i_le]; omega)]
        rfl
    · exact e0 hro
theorem c_ca_s (h : uRR n Z M S C E P) {b x c : Nat} (hb : b < 4) (hx : x < 4) (hr : M 25 b = 5) (fuel : Nat) : lf3 (fX6_countAhead_n_4 Z) (fuel + 1) (nI b) (nI c) (nI x) = lf3 (fX6_countAhead_n_4 Z) fuel (nI b) (nI (c + ut M x b)) (nI (x + 1)) := by
  rw [lf3_s]
  have e : ∀ v, (if nI x = nI b then fX6_countAhead_n_32 Z (lf3 (fX6_countAhead_n_4 Z) fuel) (nI b) (nI c) (nI x) else cl1 (fX6_isAhead_n (nI x) (nI b) Z) (fun v3 => if v3 = 0 then fX6_countAhead_n_32 Z (lf3 (fX6_countAhead_n_4 Z) fuel) (nI b) (nI c) (nI x) else bnd (nI c + 1) (fun v5 => fX6_countAhead_n_32 Z (lf3 (fX6_countAhead_n_4 Z) fuel) (nI b) v5 (nI x)))) = v → fX6_countAhead_n_4 Z (lf3 (fX6_countAhead_n_4 Z) fuel) (nI b) (nI c) (nI x) = v := fun v hv => by
    rw [show fX6_countAhead_n_4 Z (lf3 (fX6_countAhead_n_4 Z) fuel) (nI b) (nI c) (nI x) = cl1 (fJx4a65c_size_8abf5 2 Z) (fun v1 => if v1 ≤ nI x then fX6_countAhead_n_38 Z (nI c) else (if nI x = nI b then fX6_countAhead_n_32 Z (lf3 (fX6_countAhead_n_4 Z) fuel) (nI b) (nI c) (nI x) else cl1 (fX6_isAhead_n (nI x) (nI b) Z) (fun v3 => if v3 = 0 then fX6_countAhead_n_32 Z (lf3 (fX6_countAhead_n_4 Z) fuel) (nI b) (nI c) (nI x) else bnd (nI c + 1) (fun v5 => fX6_countAhead_n_32 Z (lf3 (fX6_countAhead_n_4 Z) fuel) (nI b) v5 (nI x))))) from rfl, h.ls2.size (by omega), cl1_s, if_neg (nI_ge hx (by omega))]
    exact hv
  have e32 : ∀ v : Int32, fX6_countAhead_n_32 Z (lf3 (fX6_countAhead_n_4 Z) fuel) (nI b) v (nI x) = lf3 (fX6_countAhead_n_4 Z) fuel (nI b) v (nI (x + 1)) := fun v => by
    show lf3 (fX6_countAhead_n_4 Z) fuel (nI b) v (nI x + 1) = _
    rw [u_a1]
  refine e _ ?_
  by_cases hxb : x = b
  · rw [if_pos (show nI x = nI b by rw [hxb]), ut_0 (fun q => q.2.1 hxb), e32]
    rfl
  · rw [if_neg (show ¬ (nI x = nI b) by rw [nIe (by omega) (by omega)]; exact hxb)]
    by_cases ha : M 25 x = 5 ∧ uah M x b
    · rw [(c_isAhead h hx hb hr).1 ha, cl1_s, if_neg (by decide), bnd_e, e32, u_a1, ut_1 ⟨ha.1, hxb, ha.2⟩]
    · rw [(c_isAhead h hx hb hr).2 ha, cl1_s, if_pos (by decide), e32, ut_0 (fun q => ha ⟨q.1, q.2.2⟩)]
      rfl
theorem c_countAhead (h : uRR n Z M S C E P) {b : Nat} (hb : b < 4) (hr : M 25 b = 5) : fX6_countAhead_n (nI b) Z = some (nI (un M b)) := by
  unfold fX6_countAhead_n
  show lf3 (fX6_countAhead_n_4 Z) (95 + 1 + 1 + 1 + 1 + 1) (nI b) (nI 0) (nI 0) = _
  rw [c_ca_s h hb (by omega) hr, c_ca_s h hb (by omega) hr, c_ca_s h hb (by omega) hr, c_ca_s h hb (by omega) hr, lf3_s]
  unfold fX6_countAhead_n_4
  rw [h.ls2.size (by omega), cl1_s, if_pos (nI_le (by omega) (by omega)), Nat.zero_add]
  rfl
theorem c_rank_l (h : uRR n Z M S C E P) {p : Nat} (hp : p < 4) : ∀ (d x fuel : Nat), x + d = 4 → d < fuel → ∃ w : Int32, lf2 (fX6_rank_7 Z) fuel (nI p) (nI x) = some (.inl w) ∧ ((∀ b, x ≤ b → b < 4 → M 25 b = 5 → un M b ≠ p) → w = -1) ∧ ∀ b, x ≤ b → b < 4 → M 25 b = 5 → un M b = p → w = nI b
  | _, _, 0, _, hf => absurd hf (by omega)
  | 0, x, fuel + 1, hx, _ => by
    refine ⟨-1, ?_, fun _ => rfl, fun b h1 h2 _ _ => by omega⟩
    rw [lf2_s]
    unfold fX6_rank_7
    rw [h.ls2.size (by omega), cl1_s, if_pos (nI_le (by omega) (by omega))]
    rfl
  | d + 1, x, fuel + 1, hx, hf => by
    obtain ⟨w, w1, w2, w3⟩ := c_rank_l h hp d (x + 1) fuel (by omega) (by omega)
    have hun := un_le M x
    have step : ∀ r, (if (if M 25 x = 5 then (1 : Int32) else 0) = 0 then lf2 (fX6_rank_7 Z) fuel (nI p) (nI (x + 1)) else cl1 (fX6_countAhead_n (nI x) Z) (fun v11 => if v11 = nI p then some (.inl (nI x)) else lf2 (fX6_rank_7 Z) fuel (nI p) (nI (x + 1)))) = r → lf2 (fX6_rank_7 Z) (fuel + 1) (nI p) (nI x) = r := fun r hr => by
      rw [lf2_s]
      rw [show fX6_rank_7 Z (lf2 (fX6_rank_7 Z) fuel) (nI p) (nI x) = cl1 (fJx4a65c_size_8abf5 2 Z) (fun v4 => if v4 ≤ nI x then fX6_rank_52 Z else cl1 (fJx4a65c_get_915e3 2 (nI x) Z) (fun q6 => gd (cLv Z.2.2 10 q6) (cl1 (fX0_isRanked q6 Z) (fun v9 => if v9 = 0 then fX6_rank_46 Z (lf2 (fX6_rank_7 Z) fuel) (nI p) (nI x) else cl1 (fX6_countAhead_n (nI x) Z) (fun v11 => if v11 = nI p then fX6_rank_44 Z (nI x) else fX6_rank_46 Z (lf2 (fX6_rank_7 Z) fuel) (nI p) (nI x)))))) from rfl, h.ls2.size (by omega), cl1_s, if_neg (nI_ge (by omega) (by omega)), h.ls2.get (by omega) (show x < 4 by omega), cl1_s, id, cLv10 (by omega), gdt, h.crk (by omega), cl1_s, show fX6_rank_46 Z (lf2 (fX6_rank_7 Z) fuel) (nI p) (nI x) = lf2 (fX6_rank_7 Z) fuel (nI p) (nI (x + 1)) from by show lf2 (fX6_rank_7 Z) fuel (nI p) (nI x + 1) = _; rw [u_a1]]
      exact hr
    by_cases hr : M 25 x = 5
    · by_cases hu : un M x = p
      · refine ⟨nI x, step _ ?_, fun hn => absurd hu (hn x (by omega) (by omega) hr), fun b h1 h2 h3 h4 => ?_⟩
        · rw [if_pos hr, if_neg (by decide), c_countAhead h (by omega) hr, cl1_s, hu, if_pos rfl]
        · rw [un_inj (by omega) h2 hr h3 (hu.trans h4.symm)]
      · refine ⟨w, step _ ?_, fun hn => w2 (fun b h1 h2 => hn b (by omega) h2), fun b h1 h2 h3 h4 => w3 b (by
            by_cases e : b = x
            · subst e
              exact absurd h4 hu
            · omega) h2 h3 h4⟩
        rw [if_pos hr, if_neg (by decide), c_countAhead h (by omega) hr, cl1_s, if_neg (by rw [nIe (by omega) (by omega)]; exact hu)]
        exact w1
    · refine ⟨w, step _ ?_, fun hn => w2 (fun b h1 h2 => hn b (by omega) h2), fun b h1 h2 h3 h4 => w3 b (by
            by_cases e : b = x
            · subst e
              exact absurd h3 hr
            · omega) h2 h3 h4⟩
      rw [if_neg hr, if_pos (by decide)]
      exact w1
/-- the model's inner loop: how many are ahead of b -/
theorem m_ra {K : Int32 → Int32 → Int32 → MT → Option (Int32 × MT)} {p : Nat} {f : Int32} {b : Nat} (hb : b < 4) (hr : M 25 b = 5) {x c : Nat} (hx : x < 4) (fuel : Nat) : lf6 (fX7_rank_38 K) (fuel + 1) (nI p) f (nI b) (nI c) (nI x) M = lf6 (fX7_rank_38 K) fuel (nI p) f (nI b) (nI (c + ut M x b)) (nI (x + 1)) M := by
  have e88 : ∀ t : Nat, fX7_rank_88 K (lf6 (fX7_rank_38 K) fuel) (nI p) f (nI b) (nI x) (nI t) (nI c) M = lf6 (fX7_rank_38 K) fuel (nI p) f (nI b) (nI (c + t)) (nI (x + 1)) M := fun t => by
    show lf6 (fX7_rank_38 K) fuel (nI p) f (nI b) (nI c + nI t) (nI x + 1) M = _
    rw [nI_add, u_a1]
  rw [lf6_s]
  unfold fX7_rank_38
  rw [if_neg (show ¬ ((4 : Int32) ≤ nI x) from nI_ge (b := 4) hx (by omega)), gdn hx (by omega), nIc (by omega), gdn hb (by omega), nIc (by omega)]
  by_cases hro : M 25 x = 5
  · rw [if_pos hro, if_pos hr]
    by_cases hxb : x = b
    · rw [if_pos (show nI x = nI b by rw [hxb]), ut_0 (fun q => q.2.1 hxb)]
      exact e88 0
    · rw [if_neg (show ¬ (nI x = nI b) by rw [nIe (by omega) (by omega)]; exact hxb)]
      by_cases ha : uah M x b
      · rw [(m_isAhead hx hb).1 ha, cl1_s, if_neg (by decide), ut_1 ⟨hro, hxb, ha⟩]
        exact e88 1
      · rw [(m_isAhead hx hb).2 ha, cl1_s, if_pos (by decide), ut_0 (fun q => ha q.2.2)]
        exact e88 0
  · rw [if_neg hro, ut_0 (fun q => hro q.1)]
    exact e88 0
/-- the same, of a band that is not ranked: none is counted -/
theorem m_rb {K : Int32 → Int32 → Int32 → MT → Option (Int32 × MT)} {p : Nat} {f : Int32} {b : Nat} (hb : b < 4) (hr : ¬ M 25 b = 5) {x c : Nat} (hx : x < 4) (fuel : Nat) : lf6 (fX7_rank_38 K) (fuel + 1) (nI p) f (nI b) (nI c) (nI x) M = lf6 (fX7_rank_38 K) fuel (nI p) f (nI b) (nI c) (nI (x + 1)) M := by
  have e88 : fX7_rank_87 K (lf6 (fX7_rank_38 K) fuel) (nI p) f (nI b) (nI x) (nI c) M = lf6 (fX7_rank_38 K) fuel (nI p) f (nI b) (nI c) (nI (x + 1)) M := by
    show lf6 (fX7_rank_38 K) fuel (nI p) f (nI b) (nI c + nI 0) (nI x + 1) M = _
    rw [nI_add, u_a1]
    rfl
  rw [lf6_s]
  unfold fX7_rank_38
  rw [if_neg (show ¬ ((4 : Int32) ≤ nI x) from nI_ge (b := 4) hx (by omega)), gdn hx (by omega), nIc (by omega), gdn hb (by omega), nIc (by omega)]
  by_cases hro : M 25 x = 5
  · rw [if_pos hro, if_neg hr]
    exact e88
  · rw [if_neg hro]
    exact e88
theorem m_rank_l {p : Nat} (hp : p < 4) : ∀ (d x fuel : Nat) (f : Int32), x + d = 4 → d < fuel → ∃ w : Int32, lf4 fX7_rank_27 fuel (nI p) f (nI x) M = some (w, M) ∧ ((∀ b, x ≤ b → b < 4 → M 25 b = 5 → un M b ≠ p) → w = f) ∧ ∀ b, x ≤ b → b < 4 → M 25 b = 5 → un M b = p → w = nI b
  | _, _, 0, _, _, hf => absurd hf (by omega)
  | 0, x, fuel + 1, f, hx, _ => by
    refine ⟨f, ?_, fun _ => rfl, fun b h1 h2 _ _ => by omega⟩
    rw [lf4_s]
    unfold fX7_rank_27
    rw [show x = 4 by omega, if_pos (by decide)]
    rfl
  | d + 1, x, fuel + 1, f, hx, hf => by
    have hx4 : x < 4 := by omega
    have hun := un_le M x
    have e97 : ∀ f' c, (M 25 x = 5 ∧ c = p ∧ f' = nI x ∨ ¬ (M 25 x = 5 ∧ c = p) ∧ f' = f) → c ≤ 4 → fX7_rank_97 (lf4 fX7_rank_27 fuel) (nI p) f (nI x) (nI c) M = lf4 fX7_rank_27 fuel (nI p) f' (nI (x + 1)) M := fun f' c hc h4 => by
      unfold fX7_rank_97 fX7_rank_117 fX7_rank_118
      rw [gdn hx4 (by omega), nIc (by omega), bnd_e, bnd_e, u_a1]
      rcases hc with ⟨c1, c2, c3⟩ | ⟨c1, c2⟩
      · rw [if_pos c1, c2, if_pos rfl, c3]
      · by_cases hr : M 25 x = 5
        · rw [if_pos hr, if_neg (by rw [nIe (by omega) (by omega)]; exact fun q => c1 ⟨hr, q⟩), c2]
        · rw [if_neg hr, c2]
    have e27 : ∀ r, lf6 (fX7_rank_38 (lf4 fX7_rank_27 fuel)) 100 (nI p) f (nI x) (nI 0) (nI 0) M = r → lf4 fX7_rank_27 (fuel + 1) (nI p) f (nI x) M = r := fun r hr => by
      rw [lf4_s]
      rw [show fX7_rank_27 (lf4 fX7_rank_27 fuel) (nI p) f (nI x) M = (if (4 : Int32) ≤ nI x then fX7_rank_125 f M else lf6 (fX7_rank_38 (lf4 fX7_rank_27 fuel)) 100 (nI p) f (nI x) 0 0 M) from rfl, if_neg (show ¬ ((4 : Int32) ≤ nI x) from nI_ge (b := 4) hx4 (by omega))]
      exact hr
    by_cases hr : M 25 x = 5
    · have eI : lf6 (fX7_rank_38 (lf4 fX7_rank_27 fuel)) 100 (nI p) f (nI x) (nI 0) (nI 0) M = fX7_rank_97 (lf4 fX7_rank_27 fuel) (nI p) f (nI x) (nI (un M x)) M := by
        show lf6 (fX7_rank_38 (lf4 fX7_rank_27 fuel)) (95 + 1 + 1 + 1 + 1 + 1) (nI p) f (nI x) (nI 0) (nI 0) M = _
        rw [m_ra hx4 hr (by omega), m_ra hx4 hr (by omega), m_ra hx4 hr (by omega), m_ra hx4 hr (by omega), lf6_s, Nat.zero_add]
        rw [show ∀ y, fX7_rank_38 (lf4 fX7_rank_27 fuel) (lf6 (fX7_rank_38 (lf4 fX7_rank_27 fuel)) 95) (nI p) f (nI x) y (nI 4) M = (if (4 : Int32) ≤ nI 4 then fX7_rank_97 (lf4 fX7_rank_27 fuel) (nI p) f (nI x) y M else _) from fun y => rfl, if_pos (by decide)]
        rfl
      by_cases hu : un M x = p
      · obtain ⟨w, w1, w2, w3⟩ := m_rank_l hp d (x + 1) fuel (nI x) (by omega) (by omega)
        refine ⟨w, e27 _ ?_, fun hn => absurd hu (hn x (by omega) hx4 hr), fun b h1 h2 h3 h4 => ?_⟩
        · rw [eI, e97 (nI x) _ (Or.inl ⟨hr, hu, rfl⟩) hun]
          exact w1
        · have e := un_inj hx4 h2 hr h3 (hu.trans h4.symm)
          rw [← e]
          exact w2 (fun b' k1 k2 k3 k4 => by
            have := un_inj hx4 k2 hr k3 (hu.trans k4.symm)
            omega)
      · obtain ⟨w, w1, w2, w3⟩ := m_rank_l hp d (x + 1) fuel f (by omega) (by omega)
        refine ⟨w, e27 _ ?_, fun hn => w2 (fun b h1 h2 => hn b (by omega) h2), fun b h1 h2 h3 h4 => w3 b (by
            by_cases e : b = x
            · subst e
              exact absurd h4 hu
            · omega) h2 h3 h4⟩
        rw [eI, e97 f _ (Or.inr ⟨fun q => hu q.2, rfl⟩) hun]
        exact w1
    · have eI : lf6 (fX7_rank_38 (lf4 fX7_rank_27 fuel)) 100 (nI p) f (nI x) (nI 0) (nI 0) M = fX7_rank_97 (lf4 fX7_rank_27 fuel) (nI p) f (nI x) (nI 0) M := by
        show lf6 (fX7_rank_38 (lf4 fX7_rank_27 fuel)) (95 + 1 + 1 + 1 + 1 + 1) (nI p) f (nI x) (nI 0) (nI 0) M = _
        rw [m_rb hx4 hr (by omega), m_rb hx4 hr (by omega), m_rb hx4 hr (by omega), m_rb hx4 hr (by omega), lf6_s]
        rw [show ∀ y, fX7_rank_38 (lf4 fX7_rank_27 fuel) (lf6 (fX7_rank_38 (lf4 fX7_rank_27 fuel)) 95) (nI p) f (nI x) y (nI 4) M = (if (4 : Int32) ≤ nI 4 then fX7_rank_97 (lf4 fX7_rank_27 fuel) (nI p) f (nI x) y M else _) from fun y => rfl, if_pos (by decide)]
      obtain ⟨w, w1, w2, w3⟩ := m_rank_l hp d (x + 1) fuel f (by omega) (by omega)
      refine ⟨w, e27 _ ?_, fun hn => w2 (fun b h1 h2 => hn b (by omega) h2), fun b h1 h2 h3 h4 => w3 b (by
            by_cases e : b = x
            · subst e
              exact absurd h3 hr
            · omega) h2 h3 h4⟩
      rw [eI, e97 f 0 (Or.inr ⟨fun q => hr q.1, rfl⟩) (by omega)]
      exact w1
theorem ok_rank : st_rank (uR n) (uR (n + 1)) := by
  rintro Z M ⟨S, C, E, P, h⟩ a1
  rcases uIx_or a1 (n := 4) (by omega) with ⟨p, hp, rfl⟩ | hf
  · obtain ⟨w, w1, w2, w3⟩ := c_rank_l h hp 4 0 100 (by omega) (by omega)
    obtain ⟨v, v1, v2, v3⟩ := m_rank_l (M := va_up M 0 (fun _ => 0)) hp 4 0 100 (-1) (by omega) (by omega)
    have e : v = w := by
      by_cases hx : ∃ b, b < 4 ∧ M 25 b = 5 ∧ un M b = p
      · obtain ⟨b, b1, b2, b3⟩ := hx
        rw [w3 b (by omega) b1 b2 b3]
        exact v3 b (by omega) b1 b2 b3
      · rw [w2 (fun b _ b1 b2 b3 => hx ⟨b, b1, b2, b3⟩)]
        exact v2 (fun b _ b1 b2 b3 => hx ⟨b, b1, b2, b3⟩)
    refine ⟨w, va_up M 0 (fun _ => 0), ?_, ⟨S, C, E, P, h.up⟩, Or.inl ⟨?_, rfl⟩⟩
    · unfold fX7_rank
      rw [m_inL_t 4 (by decide) hp (by omega), cl1_s, if_neg (by decide)]
      unfold fX7_rank_15
      rw [m_holds_0, cl2_s, if_neg (by decide), ← e]
      exact v1
    · unfold fX6_rank
      rw [c_ri_t4 hp, cx1_l]
      exact w1
  · refine sR_err (cd := 1) (j := 0) ⟨S, C, E, P, h⟩ ?_ ?_ rfl rfl
    · unfold fX7_rank
      rw [m_inL_f 4 (by decide) hf (by omega), cl1_s, if_pos (by decide)]
      rfl
    · unfold fX6_rank
      rw [c_ri_f4 hf, cx1_r]
end URK
