/-! PURE PART. Lists that grow; player, pan. -/
section URG
variable {n : Nat} {Z : CZ} {M : MT} {S C : Nat → Nat} {E P : Nat → Nat → Nat}
theorem zA_3s {lx v : Nat} : (zAdd Z lx v).1 3 lx = upd (upd (Z.1 3 lx) 0 (Z.1 3 lx 0 + 1)) 2 (nI ((Z.1 3 lx 2).toNatClampNeg + 1)) := if_pos ⟨rfl, rfl⟩
theorem zA_3n {lx v l : Nat} (h : l ≠ lx) : (zAdd Z lx v).1 3 l = Z.1 3 l := if_neg (fun q => h q.2)
theorem zA_4s {lx v : Nat} : (zAdd Z lx v).2.1 4 lx = va_up (if (Z.1 3 lx 2).toNatClampNeg < Z.2.2 (10 + lx) then Z.2.1 4 lx else va_cpy (Z.2.1 4 lx) (fun _ => none) 0 0 (Z.1 3 lx 2).toNatClampNeg) (Z.1 3 lx 2).toNatClampNeg (some v) := if_pos ⟨rfl, rfl⟩
theorem zA_4n {lx v l : Nat} (h : l ≠ lx) : (zAdd Z lx v).2.1 4 l = Z.2.1 4 l := if_neg (fun q => h q.2)
theorem zA_1 {lx v k : Nat} (h : k ≠ 3) : (zAdd Z lx v).1 k = Z.1 k := funext fun i => if_neg (fun q => h q.1)
theorem zA_2 {lx v k : Nat} (h : k ≠ 4) : (zAdd Z lx v).2.1 k = Z.2.1 k := funext fun i => if_neg (fun q => h q.1)
theorem zA_c {lx v k : Nat} (h : k ≠ 10 + lx) : (zAdd Z lx v).2.2 k = Z.2.2 k := vu_n h
theorem zA_cs {lx v : Nat} : (zAdd Z lx v).2.2 (10 + lx) = lCap (Z.1 3 lx 2).toNatClampNeg (Z.2.2 (10 + lx)) := vu_s
theorem uLs.addn {l lx v k : Nat} {e : Nat → Nat} (h : uLs Z l k e) (hl : l ≠ lx) : uLs (zAdd Z lx v) l k e := by
  unfold uLs
  rw [zA_3n hl, zA_4n hl, zA_c (by omega)]
  exact h
theorem uLs.add {lx v k : Nat} {e e' : Nat → Nat} (h : uLs Z lx k e) (hk : k < 16) (he : ∀ j, j < k → e' j = e j) (he2 : e' k = v) : uLs (zAdd Z lx v) lx (k + 1) e' := by
  obtain ⟨h1, h2, h3, h4⟩ := h
  have hc : (Z.1 3 lx 2).toNatClampNeg = k := by
    rw [h1]
    exact nIc (by omega)
  refine ⟨?_, ?_, fun j hj => ?_, fun j hj => ?_⟩
  · rw [zA_3s, hc, pk_us]
  · rw [zA_cs, hc]
    unfold lCap
    rcases h2 with ⟨q1, q2⟩ | ⟨q1, q2⟩ | ⟨q1, q2⟩ | ⟨q1, q2⟩
    · rw [q1, if_neg (by omega), if_pos (by decide)]
      omega
    · rw [q1]
      by_cases hh : k < 10
      · rw [if_pos hh]
        omega
      · rw [if_neg hh, if_neg (by omega)]
        omega
    · rw [q1]
      by_cases hh : k < 15
      · rw [if_pos hh]
        omega
      · rw [if_neg hh, if_neg (by omega)]
        omega
    · rw [q1]
      by_cases hh : k < 22
      · rw [if_pos hh]
        omega
      · omega
  · rw [zA_4s, hc]
    by_cases hjk : j = k
    · subst hjk
      rw [vu_s, he2]
    · rw [vu_n hjk, he j (by omega)]
      by_cases hcap : k < Z.2.2 (10 + lx)
      · rw [if_pos hcap]
        exact h3 j (by omega)
      · rw [if_neg hcap, pk_cpy_in (by omega) (by omega), Nat.sub_zero, Nat.zero_add]
        exact h3 j (by omega)
  · rw [zA_4s, hc, vu_n (by omega)]
    by_cases hcap : k < Z.2.2 (10 + lx)
    · rw [if_pos hcap]
      exact h4 j (by omega)
    · rw [if_neg hcap, pk_cpy_out (by omega)]
theorem okA {lx v k : Nat} {e : Nat → Nat} (h : uLs Z lx k e) (hk : k < 16) (hl : lx < 8) (hR : cRL Z) (hv : cLv Z.2.2 (cEk lx) v = true) : okAdd Z lx v := by
  obtain ⟨h1, h2, h3, h4⟩ := h
  have hc : (Z.1 3 lx 2).toNatClampNeg = k := by
    rw [h1]
    exact nIc (by omega)
  refine ⟨hl, by rw [hc]; exact h1, ?_, hR, hv⟩
  rw [hc]
  rcases h2 with ⟨q1, q2⟩ | ⟨q1, q2⟩ | ⟨q1, q2⟩ | ⟨q1, q2⟩
  · exact Or.inr (Or.inl ⟨q2, q1⟩)
  · by_cases hh : k < 10
    · exact Or.inl ⟨by omega, by omega⟩
    · exact Or.inr (Or.inr ⟨by omega, by omega, by omega⟩)
  · by_cases hh : k < 15
    · exact Or.inl ⟨by omega, by omega⟩
    · exact Or.inr (Or.inr ⟨by omega, by omega, by omega⟩)
  · exact Or.inl ⟨by omega, by omega⟩
theorem uRR.crl (h : uRR n Z M S C E P) : cRL Z := by
  obtain ⟨r1, r2, r3, r4, r5, r6, r7, r⟩ := h
  refine ⟨fun l j q hl hq => ?_, fun p q hp hq => ?_, fun j p hj hp => ?_⟩
  · have hx : ∀ (k : Nat) (e : Nat → Nat), uL (Z.1 3 l) (Z.2.1 4 l) (Z.2.2 (10 + l)) k e → j < k ∧ q = e j := fun k e hu => by
      by_cases hjk : j < k
      · rw [hu.2.2.1 j hjk] at hq
        cases hq
        exact ⟨hjk, rfl⟩
      · rw [hu.2.2.2 j (by omega)] at hq
        cases hq
    have hl8 : l = 0 ∨ l = 1 ∨ l = 2 ∨ l = 3 ∨ ∃ b, b < 4 ∧ l = b + 4 := by
      by_cases hb : l < 4
      · omega
      · exact Or.inr (Or.inr (Or.inr (Or.inr ⟨l - 4, by omega, by omega⟩)))
    rcases hl8 with rfl | rfl | rfl | rfl | ⟨b, hb, rfl⟩
    · obtain ⟨g1, g2⟩ := hx _ _ r3.1
      exact cLv5 (by rw [g2]; exact g1)
    · obtain ⟨g1, g2⟩ := hx _ _ r3.2.1
      exact cLv9 (by rw [g2]; exact g1)
    · obtain ⟨g1, g2⟩ := hx _ _ r3.2.2.1
      exact cLv10 (by rw [g2]; exact g1)
    · obtain ⟨g1, g2⟩ := hx _ _ r3.2.2.2
      exact cLv5t (by omega) (by omega)
    · obtain ⟨g1, g2⟩ := hx _ _ (r4 b hb)
      have : cEk (b + 4) = 13 := rfl
      rw [this, g2]
      exact cLv13 (r7.2.1 b j hb g1).1
  · exact cLv5 ((r6.1 p (of_decide_eq_true hp)).2 q hq)
  · exact cLv9 (r7.2.2.2.2 j p (of_decide_eq_true hj) hp)
theorem uin_no {b i : Nat} (h : ∀ k, k < S b → P b k < i) : uin S P b i = 0 := uin_0 (fun k hk e => by
  have := h k hk
  omega)
end URG

/-! PURE PART. join. -/
section URJ
variable {n : Nat} {Z : CZ} {M : MT} {S C : Nat → Nat} {E P : Nat → Nat → Nat}
theorem uin_o {S' : Nat → Nat} {P' : Nat → Nat → Nat} {b i : Nat} (h : (∃ k, k < S' b ∧ P' b k = i) ↔ ∃ k, k < S b ∧ P b k = i) : uin S' P' b i = uin S P b i := by
  unfold uin
  by_cases q : ∃ k, k < S b ∧ P b k = i
  · rw [if_pos (uin_iff.mpr (h.mpr q)), if_pos (uin_iff.mpr q)]
  · rw [if_neg (fun z => q (h.mp (uin_iff.mp z))), if_neg (fun z => q (uin_iff.mp z))]
theorem ucnt_o {S' : Nat → Nat} {P' : Nat → Nat → Nat} {i : Nat} (h : ∀ b, b < 4 → uin S' P' b i = uin S P b i) : ucnt S' P' i = ucnt S P i := by
  unfold ucnt
  rw [h 0 (by omega), h 1 (by omega), h 2 (by omega), h 3 (by omega)]
theorem ucnt_1 {S' : Nat → Nat} {P' : Nat → Nat → Nat} {b i : Nat} (hb : b < 4) (h : ∀ b', b' < 4 → b' ≠ b → uin S' P' b' i = uin S P b' i) (h1 : uin S' P' b i = uin S P b i + 1) : ucnt S' P' i = ucnt S P i + 1 := by
  unfold ucnt
  have : b = 0 ∨ b = 1 ∨ b = 2 ∨ b = 3 := by omega
  rcases this with rfl | rfl | rfl | rfl
  · rw [h 1 (by omega) (by omega), h 2 (by omega) (by omega), h 3 (by omega) (by omega), h1]
    omega
  · rw [h 0 (by omega) (by omega), h 2 (by omega) (by omega), h 3 (by omega) (by omega), h1]
    omega
  · rw [h 0 (by omega) (by omega), h 1 (by omega) (by omega), h 3 (by omega) (by omega), h1]
    omega
  · rw [h 0 (by omega) (by omega), h 1 (by omega) (by omega), h 2 (by omega) (by omega), h1]
    omega
/-- whether a player must wait -/
def umw (M : MT) (i b : Nat) : Prop := ¬ M 13 i = -1 ∧ ¬ M 13 i = nI b ∧ M 14 i / 30 = M 1 0 / 30
theorem c_mayJoin (h : uRR n Z M S C E P) {i b : Nat} (hi : i < Z.2.2 1) : (umw M i b → fX4_mayJoin i (nI b) (Z.1 0 0 6 / 30) Z = some 0) ∧ (¬ umw M i b → fX4_mayJoin i (nI b) (Z.1 0 0 6 / 30) Z = some 1) := by
  obtain ⟨f1, f2, f3, f4, f5⟩ := h.2.2.2.2.1.2.2 i hi
  have e6 : Z.1 0 0 6 = M 1 0 := h.1.2.1
  unfold fX4_mayJoin
  rw [cLv9 hi, gdt, f4, e6]
  by_cases h1 : M 13 i = -1
  · rw [if_pos h1]
    exact ⟨fun q => absurd h1 q.1, fun _ => rfl⟩
  · rw [if_neg h1, f5 h1]
    by_cases h2 : M 13 i = nI b
    · rw [if_pos h2]
      exact ⟨fun q => absurd h2 q.2.1, fun _ => rfl⟩
    · rw [if_neg h2]
      by_cases h3 : M 14 i / 30 = M 1 0 / 30
      · rw [if_pos h3]
        exact ⟨fun _ => rfl, fun q => absurd ⟨h1, h2, h3⟩ q⟩
      · rw [if_neg h3]
        exact ⟨fun q => absurd q.2.2 h3, fun _ => rfl⟩
end URJ

/-! PURE PART. leave; pan. -/
section URV
variable {n : Nat} {Z : CZ} {M : MT} {S C : Nat → Nat} {E P : Nat → Nat → Nat}
theorem uL.rem {c3 c3' : Nat → Int32} {q4 : Nat → Option Nat} {cap k i : Nat} {e : Nat → Nat} (h : uL c3 q4 cap k e) (hi : i < k) (h3 : c3' 2 = nI (k - 1)) : uL c3' (fRem q4 k i) cap (k - 1) (fun j => if j < i then e j else e (j + 1)) := by
  obtain ⟨h1, h2, h4, h5⟩ := h
  refine ⟨h3, by omega, fun j hj => ?_, fun j hj => ?_⟩
  · unfold fRem
    rw [vu_n (by omega)]
    by_cases hik : i < k - 1
    · rw [if_pos hik]
      show va_cpy q4 q4 (i + 1) i (k - 1 - i) j = some (if j < i then e j else e (j + 1))
      by_cases hji : j < i
      · rw [pk_cpy_out (by omega), if_pos hji]
        exact h4 j (by omega)
      · rw [pk_cpy_in (by omega) (by omega), if_neg hji, show i + 1 + (j - i) = j + 1 by omega]
        exact h4 (j + 1) (by omega)
    · rw [if_neg hik]
      show q4 j = some (if j < i then e j else e (j + 1))
      rw [if_pos (by omega)]
      exact h4 j (by omega)
  · unfold fRem
    by_cases hjk : j = k - 1
    · rw [hjk, vu_s]
    · rw [vu_n hjk]
      split
      · rw [pk_cpy_out (by omega)]
        exact h5 j (by omega)
      · exact h5 j (by omega)
end URV

/-! PURE PART. pan. -/
section URPN
variable {n : Nat} {Z : CZ} {M : MT} {S C : Nat → Nat} {E P : Nat → Nat → Nat}
theorem zP_k {i k : Nat} {num : Int32} (h5 : k ≠ 5) (h6 : k ≠ 6) (h7 : k ≠ 7) (h8 : k ≠ 8) : (zPan Z i num).1 k = Z.1 k := funext fun j => by
  by_cases hj : j = i
  · exact (if_pos hj).trans ((if_neg h5).trans (if_neg (fun q => by
      rcases q with q | q | q
      · exact h6 q
      · exact h7 q
      · exact h8 q)))
  · exact if_neg hj
theorem zP_n {i j k : Nat} {num : Int32} (h : j ≠ i) : (zPan Z i num).1 k j = Z.1 k j := if_neg h
/-- a new pan with its tones, ahead of its being added -/
def zPt (Z : CZ) (i : Nat) (v1 v2 v3 v4 : Int32) : CZ := cuI (cuI (cuI (cuI (zPan Z i (nI i)) 6 i (upd (fun _ => 0) 0 v1)) 6 i (upd (upd (fun _ => 0) 0 v1) 1 v2)) 6 i (upd (upd (upd (fun _ => 0) 0 v1) 1 v2) 2 v3)) 6 i (upd (upd (upd (upd (fun _ => 0) 0 v1) 1 v2) 2 v3) 3 v4)
theorem zT_k {i k : Nat} {v1 v2 v3 v4 : Int32} (h : k ≠ 6) : (zPt Z i v1 v2 v3 v4).1 k = (zPan Z i (nI i)).1 k := funext fun j => by
  unfold zPt
  rw [cuI_n (fun q => h q.1), cuI_n (fun q => h q.1), cuI_n (fun q => h q.1), cuI_n (fun q => h q.1)]
theorem zT_6s {i : Nat} {v1 v2 v3 v4 : Int32} : (zPt Z i v1 v2 v3 v4).1 6 i = upd (upd (upd (upd (fun _ => 0) 0 v1) 1 v2) 2 v3) 3 v4 := cuI_s
theorem zT_6n {i j : Nat} {v1 v2 v3 v4 : Int32} (h : j ≠ i) : (zPt Z i v1 v2 v3 v4).1 6 j = Z.1 6 j := by
  unfold zPt
  rw [cuI_n (fun q => h q.2), cuI_n (fun q => h q.2), cuI_n (fun q => h q.2), cuI_n (fun q => h q.2), zP_n h]
theorem gd40 {α : Type} {x : Option α} : gd (gin 0 4) x = x := gdn (k := 0) (n := 4) (by omega) (by omega)
theorem gd41 {α : Type} {x : Option α} : gd (gin 1 4) x = x := gdn (k := 1) (n := 4) (by omega) (by omega)
theorem gd42 {α : Type} {x : Option α} : gd (gin 2 4) x = x := gdn (k := 2) (n := 4) (by omega) (by omega)
theorem gd43 {α : Type} {x : Option α} : gd (gin 3 4) x = x := gdn (k := 3) (n := 4) (by omega) (by omega)
theorem rg60 {a : Int32} (h1 : ¬ a < -60) (h2 : ¬ 60 < a) : -60 ≤ a.toInt ∧ a.toInt ≤ 60 := by
  rw [i_lt, show ((-60 : Int32)).toInt = -60 from by decide] at h1
  rw [i_lt, show ((60 : Int32)).toInt = 60 from by decide] at h2
  omega
end URPN

/-! PURE PART. score, rank. -/
def sL (l v : Int32) : Int32 := if v < l then v else l
def sM (m v : Int32) : Int32 := if m < v then v else m
def usco (v : Nat → Int32) (ov : Int32) : Int32 := (((((((0 : Int32) + v 0) + v 1) + v 2) + v 3) + v 4) - sL (sL (sL (sL (sL 100 (v 0)) (v 1)) (v 2)) (v 3)) (v 4)) - sM (sM (sM (sM (sM 0 (v 0)) (v 1)) (v 2)) (v 3)) (v 4) - ov
theorem usco_c {v w : Nat → Int32} {o : Int32} (h : ∀ j, j < 5 → v j = w j) : usco v o = usco w o := by
  unfold usco
  rw [h 0 (by omega), h 1 (by omega), h 2 (by omega), h 3 (by omega), h 4 (by omega)]
section URK
variable {n : Nat} {Z : CZ} {M : MT} {S C : Nat → Nat} {E P : Nat → Nat → Nat}
theorem c_sc_s {b x : Nat} {s l m : Int32} (hb : b < 4) (hx : x < 5) (fuel : Nat) : lf5 (fX0_countScore_10 Z) (fuel + 1) b s l m (nI x) = lf5 (fX0_countScore_10 Z) fuel b (s + Z.1 12 b x) (sL l (Z.1 12 b x)) (sM m (Z.1 12 b x)) (nI (x + 1)) := by
  rw [lf5_s]
  unfold fX0_countScore_10
  rw [if_neg (show ¬ ((5 : Int32) ≤ nI x) from nI_ge (b := 5) (by omega) (by omega)), cLv10 hb, gdt, gdn hx (by omega), bnd_e, gdn hx (by omega), bnd_e, gdn hx (by omega), bnd_e, bnd_e, nIc (by omega), u_a1]
  rfl
theorem c_score {b : Nat} (hb : b < 4) : fX0_countScore b Z = some (usco (Z.1 12 b) (Z.1 10 b 6)) := by
  unfold fX0_countScore
  show lf5 (fX0_countScore_10 Z) (94 + 1 + 1 + 1 + 1 + 1 + 1) b 0 100 0 (nI 0) = _
  rw [c_sc_s hb (by omega), c_sc_s hb (by omega), c_sc_s hb (by omega), c_sc_s hb (by omega), c_sc_s hb (by omega), lf5_s]
  unfold fX0_countScore_10
  rw [if_pos (by decide)]
  unfold fX0_countScore_56
  rw [cLv10 hb, gdt]
  rfl
/-- the score of b, as the model has it -/
def uS (M : MT) (b : Nat) : Int32 := usco (fun j => M 26 (5 * b + j)) (M 24 b)
theorem uRR.csc (h : uRR n Z M S C E P) {b : Nat} (hb : b < 4) : fX0_countScore b Z = some (uS M b) := by
  rw [c_score hb, (h.2.2.2.2.2.2.2.2.2.2.1 b hb).2.1]
  exact congrArg some (usco_c (fun j hj => ((h.2.2.2.2.2.2.2.2.2.2.2 b hb).1 j hj).1))
theorem uRR.crk (h : uRR n Z M S C E P) {b : Nat} (hb : b < 4) : fX0_isRanked b Z = some (if M 25 b = 5 then 1 else 0) := by
  unfold fX0_isRanked
  rw [cLv10 hb, gdt, h.cm hb, cl1_s]
  split <;> rfl
/-- o is ranked ahead of b -/
def uah (M : MT) (o b : Nat) : Prop := (uS M b).toInt < (uS M o).toInt ∨ (uS M b).toInt = (uS M o).toInt ∧ ((M 23 o).toInt < (M 23 b).toInt ∨ (M 23 o).toInt = (M 23 b).toInt ∧ o < b)
/-- whether o counts as ahead of b -/
def uT (M : MT) (o b : Nat) : Prop := M 25 o = 5 ∧ o ≠ b ∧ uah M o b
noncomputable def ut (M : MT) (o b : Nat) : Nat := @ite _ (uT M o b) (Classical.propDecidable _) 1 0
theorem ut_1 {o b : Nat} (h : uT M o b) : ut M o b = 1 := if_pos h
theorem ut_0 {o b : Nat} (h : ¬ uT M o b) : ut M o b = 0 := if_neg h
theorem ut_or (M : MT) (o b : Nat) : (uT M o b ∧ ut M o b = 1) ∨ (¬ uT M o b ∧ ut M o b = 0) := by
  by_cases h : uT M o b
  · exact Or.inl ⟨h, ut_1 h⟩
  · exact Or.inr ⟨h, ut_0 h⟩
noncomputable def un (M : MT) (b : Nat) : Nat := ut M 0 b + ut M 1 b + ut M 2 b + ut M 3 b
theorem un_lt {b b' : Nat} (hb : b < 4) (hr : M 25 b = 5) (hne : b ≠ b') (ha : uah M b b') : un M b < un M b' := by
  have hm : ∀ o, ut M o b ≤ ut M o b' := fun o => by
    rcases ut_or M o b with ⟨⟨q1, q2, q3⟩, q4⟩ | ⟨_, q4⟩
    · have : uT M o b' := ⟨q1, fun e => by
        subst e
        unfold uah at ha q3
        omega, by
        unfold uah at *
        omega⟩
      rw [q4, ut_1 this]
      exact Nat.le_refl 1
    · rw [q4]
      exact Nat.zero_le _
  have h0 : ut M b b = 0 := ut_0 (fun q => q.2.1 rfl)
  have h1 : ut M b b' = 1 := ut_1 ⟨hr, hne, ha⟩
  have m0 := hm 0
  have m1 := hm 1
  have m2 := hm 2
  have m3 := hm 3
  unfold un
  have : b = 0 ∨ b = 1 ∨ b = 2 ∨ b = 3 := by omega
  rcases this with rfl | rfl | rfl | rfl <;> omega
theorem un_inj {b b' : Nat} (hb : b < 4) (hb' : b' < 4) (hr : M 25 b = 5) (hr' : M 25 b' = 5) (h : un M b = un M b') : b = b' := by
  by_cases e : b = b'
  · exact e
  · have : uah M b b' ∨ uah M b' b := by
      unfold uah
      omega
    rcases this with ha | ha
    · have := un_lt hb hr e ha
      omega
    · have := un_lt hb' hr' (fun q => e q.symm) ha
      omega
theorem un_le (M : MT) (b : Nat) : un M b ≤ 4 := by
  have h : ∀ o, ut M o b ≤ 1 := fun o => by
    rcases ut_or M o b with ⟨_, q⟩ | ⟨_, q⟩ <;> omega
  have := h 0
  have := h 1
  have := h 2
  have := h 3
  unfold un
  omega
theorem c_bandAt_n (h : uRR n Z M S C E P) {b : Nat} (hb : b < 4) : fX6_bandAt_n (nI b) Z = some b := by
  unfold fX6_bandAt_n fX6_requireIndex_n
  rw [h.ls2.size (by omega), cl1_s, if_neg (nI_pos (by omega)), if_pos (nI_lt hb (by omega)), cl1_s, h.ls2.get (by omega) hb, cl1_s, id, cLv10 hb, gdt]
/-- what was heard of a ranked band -/
theorem uRR.hd (h : uRR n Z M S C E P) {b : Nat} (hb : b < 4) (hr : M 25 b = 5) : Z.1 10 b 5 = M 23 b := by
  rcases (h.2.2.2.2.2.2.2.2.2.2.1 b hb).2.2 with ⟨_, _, q⟩ | ⟨_, q, _⟩
  · rw [q] at hr
    exact absurd hr (by decide)
  · exact q
theorem c_isAhead (h : uRR n Z M S C E P) {o b : Nat} (ho : o < 4) (hb : b < 4) (hr : M 25 b = 5) : (M 25 o = 5 ∧ uah M o b → fX6_isAhead_n (nI o) (nI b) Z = some 1) ∧ (¬ (M 25 o = 5 ∧ uah M o b) → fX6_isAhead_n (nI o) (nI b) Z = some 0) := by
  have e0 : ¬ M 25 o = 5 → fX6_isAhead_n (nI o) (nI b) Z = some 0 := fun hn => by
    unfold fX6_isAhead_n
    rw [c_bandAt_n h ho, cl1_s, c_bandAt_n h hb, cl1_s, cLv10 ho, gdt, h.crk ho, cl1_s, if_neg hn, if_pos (by decide)]
  have e : M 25 o = 5 → ∀ v, (if uS M o = uS M b then (if M 23 o = M 23 b then (if nI b ≤ nI o then fX6_isAhead_n_97 Z 0 else fX6_isAhead_n_97 Z 1) else (if M 23 b ≤ M 23 o then fX6_isAhead_n_97 Z 0 else fX6_isAhead_n_97 Z 1)) else (if uS M o ≤ uS M b then fX6_isAhead_n_54 Z 0 else fX6_isAhead_n_54 Z 1)) = some v → fX6_isAhead_n (nI o) (nI b) Z = some v := fun hro v hv => by
    unfold fX6_isAhead_n
    rw [c_bandAt_n h ho, cl1_s, c_bandAt_n h hb, cl1_s, cLv10 ho, gdt, h.crk ho, cl1_s, if_pos hro, if_neg (by decide), h.csc ho, cl1_s, cLv10 hb, gdt, h.csc hb, cl1_s, h.hd ho hro, h.hd hb hr]
    exact hv
  constructor
  · rintro ⟨hro, ha⟩
    refine e hro 1 ?_
    unfold uah at ha
    rcases ha with ha | ⟨ha, hh⟩
    · rw [if_neg (fun q => by rw [q] at ha; omega), if_neg (by rw [i_le]; omega)]
      rfl
    · rw [if_pos (by rw [i_eq]; omega)]
      rcases hh with hh | ⟨hh, hi⟩
      · rw [if_neg (fun q => by rw [q] at hh; omega), if_neg (by rw [i_le]; omega)]
        rfl
      · rw [if_pos (by rw [i_eq]; exact hh), if_neg (nI_ge hi (by omega))]
        rfl
  · intro hn
    by_cases hro : M 25 o = 5
    · have ha : ¬ uah M o b := fun q => hn ⟨hro, q⟩
      refine e hro 0 ?_
      unfold uah at ha
      by_cases hs : uS M o = uS M b
      · have hs' := congrArg Int32.toInt hs
        rw [if_pos hs]
        by_cases hq : M 23 o = M 23 b
        · rw [if_pos hq, if_pos (nI_le (Nat.not_lt.mp (fun q => ha (Or.inr ⟨hs'.symm, Or.inr ⟨congrArg Int32.toInt hq, q⟩⟩))) (by omega))]
          rfl
        · have hq' : (M 23 o).toInt ≠ (M 23 b).toInt := fun q => hq (i_eq.mpr q)
          rw [if_neg hq, if_pos (by rw [i_le]; omega)]
          rfl
      · have hs' : (uS M o).toInt ≠ (uS M b).toInt := fun q => hs (i_eq.mpr q)
        rw [if_neg hs, if_pos (by rw [i_le]; omega)]
        rfl
    · exact e0 hro
theorem c_ca_s (h : uRR n Z M S C E P) {b x c : Nat} (hb : b < 4) (hx : x < 4) (hr : M 25 b = 5) (fuel : Nat) : lf3 (fX6_countAhead_n_4 Z) (fuel + 1) (nI b) (nI c) (nI x) = lf3 (fX6_countAhead_n_4 Z) fuel (nI b) (nI (c + ut M x b)) (nI (x + 1)) := by
  rw [lf3_s]
  have e : ∀ v, (if nI x = nI b then fX6_countAhead_n_32 Z (lf3 (fX6_countAhead_n_4 Z) fuel) (nI b) (nI c) (nI x) else cl1 (fX6_isAhead_n (nI x) (nI b) Z) (fun v3 => if v3 = 0 then fX6_countAhead_n_32 Z (lf3 (fX6_countAhead_n_4 Z) fuel) (nI b) (nI c) (nI x) else bnd (nI c + 1) (fun v5 => fX6_countAhead_n_32 Z (lf3 (fX6_countAhead_n_4 Z) fuel) (nI b) v5 (nI x)))) = v → fX6_countAhead_n_4 Z (lf3 (fX6_countAhead_n_4 Z) fuel) (nI b) (nI c) (nI x) = v := fun v hv => by
    rw [show fX6_countAhead_n_4 Z (lf3 (fX6_countAhead_n_4 Z) fuel) (nI b) (nI c) (nI x) = cl1 (fJx4a65c_size_8abf5 2 Z) (fun v1 => if v1 ≤ nI x then fX6_countAhead_n_38 Z (nI c) else (if nI x = nI b then fX6_countAhead_n_32 Z (lf3 (fX6_countAhead_n_4 Z) fuel) (nI b) (nI c) (nI x) else cl1 (fX6_isAhead_n (nI x) (nI b) Z) (fun v3 => if v3 = 0 then fX6_countAhead_n_32 Z (lf3 (fX6_countAhead_n_4 Z) fuel) (nI b) (nI c) (nI x) else bnd (nI c + 1) (fun v5 => fX6_countAhead_n_32 Z (lf3 (fX6_countAhead_n_4 Z) fuel) (nI b) v5 (nI x))))) from rfl, h.ls2.size (by omega), cl1_s, if_neg (nI_ge hx (by omega))]
    exact hv
  have e32 : ∀ v : Int32, fX6_countAhead_n_32 Z (lf3 (fX6_countAhead_n_4 Z) fuel) (nI b) v (nI x) = lf3 (fX6_countAhead_n_4 Z) fuel (nI b) v (nI (x + 1)) := fun v => by
    show lf3 (fX6_countAhead_n_4 Z) fuel (nI b) v (nI x + 1) = _
    rw [u_a1]
  refine e _ ?_
  by_cases hxb : x = b
  · rw [if_pos (show nI x = nI b by rw [hxb]), ut_0 (fun q => q.2.1 hxb), e32]
    rfl
  · rw [if_neg (show ¬ (nI x = nI b) by rw [nIe (by omega) (by omega)]; exact hxb)]
    by_cases ha : M 25 x = 5 ∧ uah M x b
    · rw [(c_isAhead h hx hb hr).1 ha, cl1_s, if_neg (by decide), bnd_e, e32, u_a1, ut_1 ⟨ha.1, hxb, ha.2⟩]
    · rw [(c_isAhead h hx hb hr).2 ha, cl1_s, if_pos (by decide), e32, ut_0 (fun q => ha ⟨q.1, q.2.2⟩)]
      rfl
theorem c_countAhead (h : uRR n Z M S C E P) {b : Nat} (hb : b < 4) (hr : M 25 b = 5) : fX6_countAhead_n (nI b) Z = some (nI (un M b)) := by
  unfold fX6_countAhead_n
  show lf3 (fX6_countAhead_n_4 Z) (95 + 1 + 1 + 1 + 1 + 1) (nI b) (nI 0) (nI 0) = _
  rw [c_ca_s h hb (by omega) hr, c_ca_s h hb (by omega) hr, c_ca_s h hb (by omega) hr, c_ca_s h hb (by omega) hr, lf3_s]
  unfold fX6_countAhead_n_4
  rw [h.ls2.size (by omega), cl1_s, if_pos (nI_le (by omega) (by omega)), Nat.zero_add]
  rfl
theorem c_rank_l (h : uRR n Z M S C E P) {p : Nat} (hp : p < 4) : ∀ (d x fuel : Nat), x + d = 4 → d < fuel → ∃ w : Int32, lf2 (fX6_rank_7 Z) fuel (nI p) (nI x) = some (.inl w) ∧ ((∀ b, x ≤ b → b < 4 → M 25 b = 5 → un M b ≠ p) → w = -1) ∧ ∀ b, x ≤ b → b < 4 → M 25 b = 5 → un M b = p → w = nI b
  | _, _, 0, _, hf => absurd hf (by omega)
  | 0, x, fuel + 1, hx, _ => by
    refine ⟨-1, ?_, fun _ => rfl, fun b h1 h2 _ _ => by omega⟩
    rw [lf2_s]
    unfold fX6_rank_7
    rw [h.ls2.size (by omega), cl1_s, if_pos (nI_le (by omega) (by omega))]
    rfl
  | d + 1, x, fuel + 1, hx, hf => by
    obtain ⟨w, w1, w2, w3⟩ := c_rank_l h hp d (x + 1) fuel (by omega) (by omega)
    have hun := un_le M x
    have step : ∀ r, (if (if M 25 x = 5 then (1 : Int32) else 0) = 0 then lf2 (fX6_rank_7 Z) fuel (nI p) (nI (x + 1)) else cl1 (fX6_countAhead_n (nI x) Z) (fun v11 => if v11 = nI p then some (.inl (nI x)) else lf2 (fX6_rank_7 Z) fuel (nI p) (nI (x + 1)))) = r → lf2 (fX6_rank_7 Z) (fuel + 1) (nI p) (nI x) = r := fun r hr => by
      rw [lf2_s]
      rw [show fX6_rank_7 Z (lf2 (fX6_rank_7 Z) fuel) (nI p) (nI x) = cl1 (fJx4a65c_size_8abf5 2 Z) (fun v4 => if v4 ≤ nI x then fX6_rank_52 Z else cl1 (fJx4a65c_get_915e3 2 (nI x) Z) (fun q6 => gd (cLv Z.2.2 10 q6) (cl1 (fX0_isRanked q6 Z) (fun v9 => if v9 = 0 then fX6_rank_46 Z (lf2 (fX6_rank_7 Z) fuel) (nI p) (nI x) else cl1 (fX6_countAhead_n (nI x) Z) (fun v11 => if v11 = nI p then fX6_rank_44 Z (nI x) else fX6_rank_46 Z (lf2 (fX6_rank_7 Z) fuel) (nI p) (nI x)))))) from rfl, h.ls2.size (by omega), cl1_s, if_neg (nI_ge (by omega) (by omega)), h.ls2.get (by omega) (show x < 4 by omega), cl1_s, id, cLv10 (by omega), gdt, h.crk (by omega), cl1_s, show fX6_rank_46 Z (lf2 (fX6_rank_7 Z) fuel) (nI p) (nI x) = lf2 (fX6_rank_7 Z) fuel (nI p) (nI (x + 1)) from by show lf2 (fX6_rank_7 Z) fuel (nI p) (nI x + 1) = _; rw [u_a1]]
      exact hr
    by_cases hr : M 25 x = 5
    · by_cases hu : un M x = p
      · refine ⟨nI x, step _ ?_, fun hn => absurd hu (hn x (by omega) (by omega) hr), fun b h1 h2 h3 h4 => ?_⟩
        · rw [if_pos hr, if_neg (by decide), c_countAhead h (by omega) hr, cl1_s, hu, if_pos rfl]
        · rw [un_inj (by omega) h2 hr h3 (hu.trans h4.symm)]
      · refine ⟨w, step _ ?_, fun hn => w2 (fun b h1 h2 => hn b (by omega) h2), fun b h1 h2 h3 h4 => w3 b (by
            by_cases e : b = x
            · subst e
              exact absurd h4 hu
            · omega) h2 h3 h4⟩
        rw [if_pos hr, if_neg (by decide), c_countAhead h (by omega) hr, cl1_s, if_neg (by rw [nIe (by omega) (by omega)]; exact hu)]
        exact w1
    · refine ⟨w, step _ ?_, fun hn => w2 (fun b h1 h2 => hn b (by omega) h2), fun b h1 h2 h3 h4 => w3 b (by
            by_cases e : b = x
            · subst e
              exact absurd h3 hr
            · omega) h2 h3 h4⟩
      rw [if_neg hr, if_pos (by decide)]
      exact w1
end URK

