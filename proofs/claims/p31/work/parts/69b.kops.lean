/-! PURE PART. What each call that writes does: the larger ones. -/
section URX9
variable {n : Nat} {Z : CZ} {M : MT} {S C : Nat → Nat} {E P : Nat → Nat → Nat}
theorem k_player_ec (h : uRR n Z M S C E P) {v : Nat} (hv : v ≤ 1) : ∀ r, (if (16 : Int32) ≤ nI (Z.2.2 1) then fX6_player_23 (nI v) 0 Z else fX6_player_23 (nI v) 1 Z) = r → fX6_player (nI v) Z = r := fun r hr => by
  have hr9 := rr_t (b := 0) (c := 1) (by omega) hv (by omega)
  unfold fX6_player
  rw [c_rr_t (b := 0) (c := 1) hr9.1 hr9.2, cx1_l, h.ls1.size (by omega), cl1_s]
  exact hr
theorem k_player_no (h : uRR n Z M S C E P) {v : Nat} (hv : v ≤ 1) (hc : Z.2.2 1 = 16) : fX6_player (nI v) Z = some (.inr 3, Z) := by
  refine k_player_ec h hv _ ?_
  rw [hc, if_pos (by decide)]
  rfl
theorem k_player (h : uRR n Z M S C E P) {v : Nat} (hv : v ≤ 1) (hc : ¬ Z.2.2 1 = 16) : ∃ (Z' : CZ) (M' : MT), uRR n Z' M' S C E P ∧ Z'.2.2 0 = Z.2.2 0 ∧ Z'.2.2 1 = Z.2.2 1 + 1 ∧ (∀ k, k ≠ 0 → k ≠ 10 → k ≠ 11 → k ≠ 12 → k ≠ 13 → k ≠ 14 → M' k = M k) ∧ M' 12 (Z.2.2 1) = -1 ∧ fX6_player (nI v) Z = some (.inl (nI (Z.2.2 1)), Z') := by
  have hnl := h.nl
  have ec := k_player_ec h hv
  have hR := h.crl
  have hR1 : cRL (zPlayer Z (Z.2.2 1) (nI (Z.2.2 1)) (nI v)) := by
    refine ⟨fun l j q hl hq => ?_, fun p q hp hq => ?_, fun j p hj hp => ?_⟩
    · have hq' : Z.2.1 4 l j = some q := hq
      have hl' := hR.1 l j q hl hq'
      match l, hl, hl' with
      | 0, _, hl' => exact hl'
      | 1, _, hl' =>
        have : q < Z.2.2 1 := of_decide_eq_true hl'
        exact cLv9 (show q < va_up Z.2.2 1 (Z.2.2 1 + 1) 1 by rw [vu_s]; omega)
      | 2, _, hl' => exact hl'
      | 3, _, hl' => exact hl'
      | l + 4, _, hl' => exact hl'
    · have hp' : p < va_up Z.2.2 1 (Z.2.2 1 + 1) 1 := of_decide_eq_true hp
      rw [vu_s] at hp'
      by_cases e : p = Z.2.2 1
      · subst e
        have : (zPlayer Z (Z.2.2 1) (nI (Z.2.2 1)) (nI v)).2.1 9 (Z.2.2 1) 2 = none := by
          show (if 9 = 9 ∧ Z.2.2 1 = Z.2.2 1 then fun _ => none else Z.2.1 9 (Z.2.2 1)) 2 = none
          rw [if_pos ⟨rfl, rfl⟩]
        rw [this] at hq
        cases hq
      · have : (zPlayer Z (Z.2.2 1) (nI (Z.2.2 1)) (nI v)).2.1 9 p 2 = Z.2.1 9 p 2 := by
          show (if 9 = 9 ∧ p = Z.2.2 1 then fun _ => none else Z.2.1 9 p) 2 = _
          rw [if_neg (fun z => e z.2)]
        rw [this] at hq
        exact hR.2.1 p q (cLv9 (by omega)) hq
    · have := hR.2.2 j p hj hp
      have : p < Z.2.2 1 := of_decide_eq_true this
      exact cLv9 (show p < va_up Z.2.2 1 (Z.2.2 1 + 1) 1 by rw [vu_s]; omega)
  have hls1 : uLs (zPlayer Z (Z.2.2 1) (nI (Z.2.2 1)) (nI v)) 1 (Z.2.2 1) id := h.ls1
  have hok : okAdd (zPlayer Z (Z.2.2 1) (nI (Z.2.2 1)) (nI v)) 1 (Z.2.2 1) := okA hls1 (by omega) (by omega) hR1 (cLv9 (show Z.2.2 1 < va_up Z.2.2 1 (Z.2.2 1 + 1) 1 by rw [vu_s]; omega))
  have hadd : uLs (zAdd (zPlayer Z (Z.2.2 1) (nI (Z.2.2 1)) (nI v)) 1 (Z.2.2 1)) 1 (Z.2.2 1 + 1) id := hls1.add (by omega) (fun _ _ => rfl) rfl
  have n9s : (zAdd (zPlayer Z (Z.2.2 1) (nI (Z.2.2 1)) (nI v)) 1 (Z.2.2 1)).1 9 (Z.2.2 1) = upd (upd (upd (fun _ => 0) 0 (nI (Z.2.2 1))) 1 (nI v)) 4 (-1) := by
    rw [zA_1 (by omega)]
    exact if_pos ⟨rfl, rfl⟩
  have n9n : ∀ i, i ≠ Z.2.2 1 → (zAdd (zPlayer Z (Z.2.2 1) (nI (Z.2.2 1)) (nI v)) 1 (Z.2.2 1)).1 9 i = Z.1 9 i := fun i hi => by
    rw [zA_1 (by omega)]
    exact if_neg (fun q => hi q.2)
  have q9s : (zAdd (zPlayer Z (Z.2.2 1) (nI (Z.2.2 1)) (nI v)) 1 (Z.2.2 1)).2.1 9 (Z.2.2 1) = fun _ => none := by
    rw [zA_2 (by omega)]
    exact if_pos ⟨rfl, rfl⟩
  have q9n : ∀ i, i ≠ Z.2.2 1 → (zAdd (zPlayer Z (Z.2.2 1) (nI (Z.2.2 1)) (nI v)) 1 (Z.2.2 1)).2.1 9 i = Z.2.1 9 i := fun i hi => by
    rw [zA_2 (by omega)]
    exact if_neg (fun q => hi q.2)
  have c1 : (zAdd (zPlayer Z (Z.2.2 1) (nI (Z.2.2 1)) (nI v)) 1 (Z.2.2 1)).2.2 1 = Z.2.2 1 + 1 := by
    rw [zA_c (by omega)]
    show va_up Z.2.2 1 (Z.2.2 1 + 1) 1 = _
    exact vu_s
  have H : uRR n (zAdd (zPlayer Z (Z.2.2 1) (nI (Z.2.2 1)) (nI v)) 1 (Z.2.2 1)) (va_up (va_up (va_up (va_up (va_up (va_up M 0 (fun _ => 0)) 11 (upd (M 11) (Z.2.2 1) (nI v))) 12 (upd (M 12) (Z.2.2 1) (-1))) 13 (upd (M 13) (Z.2.2 1) (-1))) 14 (upd (M 14) (Z.2.2 1) (-1))) 10 (fun _ => nI (Z.2.2 1 + 1))) S C E P := by
    obtain ⟨r1, r2, r3, r4, r5, r6, r7, r8, r9, r10, r11⟩ := h
    refine ⟨r1, r2, ⟨?_, ?_, ?_, ?_⟩, fun b hb => ?_, ⟨by rw [c1]; omega, by rw [c1]; rfl, fun i hi => ?_⟩, ⟨fun i hi => ?_, fun i i' q hi hi' e e' => ?_, fun q hq => ?_⟩, ⟨r7.1, fun b k hb hk => ?_, r7.2.2.1, r7.2.2.2.1, fun j p hj hp => ?_⟩, fun i hi => ?_, r9, r10, r11⟩
    · exact (show uLs (zPlayer Z (Z.2.2 1) (nI (Z.2.2 1)) (nI v)) 0 (Z.2.2 0) id from r3.1).addn (by omega)
    · rw [c1]
      exact hadd
    · exact (show uLs (zPlayer Z (Z.2.2 1) (nI (Z.2.2 1)) (nI v)) 2 4 id from r3.2.2.1).addn (by omega)
    · exact (show uLs (zPlayer Z (Z.2.2 1) (nI (Z.2.2 1)) (nI v)) 3 3 (fun t => 6 + t) from r3.2.2.2).addn (by omega)
    · have hu : uLs (zPlayer Z (Z.2.2 1) (nI (Z.2.2 1)) (nI v)) (b + 4) (S b) (E b) := by
        have hb' := r4 b hb
        unfold uLs
        rw [show (zPlayer Z (Z.2.2 1) (nI (Z.2.2 1)) (nI v)).2.2 (10 + (b + 4)) = Z.2.2 (10 + (b + 4)) from (show va_up Z.2.2 1 (Z.2.2 1 + 1) (10 + (b + 4)) = _ from vu_n (by omega))]
        exact hb'
      exact hu.addn (by omega)
    · rw [c1] at hi
      show _ ∧ _ = upd (M 11) (Z.2.2 1) (nI v) i ∧ (upd (M 11) (Z.2.2 1) (nI v) i = 0 ∨ upd (M 11) (Z.2.2 1) (nI v) i = 1) ∧ _ = upd (M 13) (Z.2.2 1) (-1) i ∧ (upd (M 13) (Z.2.2 1) (-1) i ≠ -1 → _ = upd (M 14) (Z.2.2 1) (-1) i / 30)
      by_cases e : i = Z.2.2 1
      · subst e
        rw [n9s, pk_us, pk_us, pk_us]
        refine ⟨rfl, rfl, ?_, rfl, fun q => absurd rfl q⟩
        have : v = 0 ∨ v = 1 := by omega
        rcases this with rfl | rfl
        · exact Or.inl rfl
        · exact Or.inr rfl
      · rw [n9n i e, pk_un e, pk_un e, pk_un e]
        exact r5.2.2 i (by omega)
    · rw [c1] at hi
      show upd (M 12) (Z.2.2 1) (-1) i = oi _ ∧ ∀ q, _ → q < Z.2.2 0
      by_cases e : i = Z.2.2 1
      · subst e
        rw [q9s, pk_us]
        exact ⟨rfl, fun q z => by cases z⟩
      · rw [q9n i e, pk_un e]
        exact r6.1 i (by omega)
    · rw [c1] at hi hi'
      have w : ∀ i, (zAdd (zPlayer Z (Z.2.2 1) (nI (Z.2.2 1)) (nI v)) 1 (Z.2.2 1)).2.1 9 i 2 = some q → i ≠ Z.2.2 1 := fun i z y => by
        subst y
        rw [q9s] at z
        cases z
      have e1 := w i e
      have e2 := w i' e'
      rw [q9n i e1] at e
      rw [q9n i' e2] at e'
      exact r6.2.1 i i' q (by omega) (by omega) e e'
    · rcases r6.2.2 q hq with ⟨x1, i, x2, x3⟩ | ⟨x1, x2⟩
      · refine Or.inl ⟨x1, i, by rw [c1]; omega, ?_⟩
        rw [q9n i (by omega)]
        exact x3
      · refine Or.inr ⟨x1, fun i hi => ?_⟩
        rw [c1] at hi
        by_cases e : i = Z.2.2 1
        · subst e
          rw [q9s]
          exact fun z => by cases z
        · rw [q9n i e]
          exact x2 i (by omega)
    · obtain ⟨g1, g2, g3, g4⟩ := r7.2.1 b k hb hk
      exact ⟨g1, by rw [c1]; omega, g3, g4⟩
    · have := r7.2.2.2.2 j p hj hp
      rw [c1]
      omega
    · rw [c1] at hi
      by_cases e : i = Z.2.2 1
      · subst e
        have z : ∀ b, b < 4 → uin S P b (Z.2.2 1) = 0 := fun b hb => uin_no (fun k hk => (r7.2.1 b k hb hk).2.1)
        have z2 : ucnt S P (Z.2.2 1) = 0 := by
          unfold ucnt
          rw [z 0 (by omega), z 1 (by omega), z 2 (by omega), z 3 (by omega)]
        rw [n9s, z2]
        exact ⟨rfl, by omega⟩
      · rw [n9n i e]
        exact r8 i (by omega)
  refine ⟨_, _, H, ?_, c1, fun k k0 k10 k11 k12 k13 k14 => by rw [vu_n k10, vu_n k14, vu_n k13, vu_n k12, vu_n k11, vu_n k0], pk_us, ec _ ?_⟩
  · rw [zA_c (by omega)]
    show va_up Z.2.2 1 (Z.2.2 1 + 1) 0 = _
    exact vu_n (by omega)
  · rw [if_neg (show ¬ ((16 : Int32) ≤ nI (Z.2.2 1)) from nI_ge (b := 16) (by omega) (by omega))]
    unfold fX6_player_23
    rw [c_rs_1, cx1_l, gp_t hR, bnd_e, h.ls1.size (by omega), cl1_s, bnd_e, gp_t hok, bnd_e]
    have l9 : cLv (zAdd (zPlayer Z (Z.2.2 1) (nI (Z.2.2 1)) (nI v)) 1 (Z.2.2 1)).2.2 9 (Z.2.2 1) = true := cLv9 (by rw [c1]; omega)
    rw [l9, gdt, n9s]
    rfl
theorem k_pan_ec (h : uRR n Z M S C E P) {a1 a2 a3 a4 : Int32} (g1 : ¬ a1 < -60 ∧ ¬ 60 < a1) (g2 : ¬ a2 < -60 ∧ ¬ 60 < a2) (g3 : ¬ a3 < -60 ∧ ¬ 60 < a3) (g4 : ¬ a4 < -60 ∧ ¬ 60 < a4) : ∀ r, (if (6 : Int32) ≤ nI (Z.2.2 0) then fX6_pan_50 a1 a2 a3 a4 0 Z else fX6_pan_50 a1 a2 a3 a4 1 Z) = r → fX6_pan a1 a2 a3 a4 Z = r := fun r hr => by
  unfold fX6_pan
  rw [c_rr_t g1.1 g1.2, cx1_l, c_rr_t g2.1 g2.2, cx1_l, c_rr_t g3.1 g3.2, cx1_l, c_rr_t g4.1 g4.2, cx1_l, h.ls0.size (by omega), cl1_s]
  exact hr
theorem k_pan_no (h : uRR n Z M S C E P) {a1 a2 a3 a4 : Int32} (g1 : ¬ a1 < -60 ∧ ¬ 60 < a1) (g2 : ¬ a2 < -60 ∧ ¬ 60 < a2) (g3 : ¬ a3 < -60 ∧ ¬ 60 < a3) (g4 : ¬ a4 < -60 ∧ ¬ 60 < a4) (hc : Z.2.2 0 = 6) : fX6_pan a1 a2 a3 a4 Z = some (.inr 3, Z) := by
  refine k_pan_ec h g1 g2 g3 g4 _ ?_
  rw [hc, if_pos (by decide)]
  rfl
theorem k_pan (h : uRR n Z M S C E P) {a1 a2 a3 a4 : Int32} (g1 : ¬ a1 < -60 ∧ ¬ 60 < a1) (g2 : ¬ a2 < -60 ∧ ¬ 60 < a2) (g3 : ¬ a3 < -60 ∧ ¬ 60 < a3) (g4 : ¬ a4 < -60 ∧ ¬ 60 < a4) (hc : ¬ Z.2.2 0 = 6) : ∃ (Z' : CZ) (M' : MT), uRR n Z' M' S C E P ∧ Z'.2.2 0 = Z.2.2 0 + 1 ∧ Z'.2.2 1 = Z.2.2 1 ∧ (∀ k, k ≠ 0 → k ≠ 3 → k ≠ 4 → M' k = M k) ∧ M' 4 (4 * Z.2.2 0) = a1 ∧ M' 4 (4 * Z.2.2 0 + 3) = a4 ∧ fX6_pan a1 a2 a3 a4 Z = some (.inl (nI (Z.2.2 0)), Z') := by
  have hnp := h.np
  have ec := k_pan_ec h g1 g2 g3 g4
  have b1 := rg60 g1.1 g1.2
  have b2 := rg60 g2.1 g2.2
  have b3 := rg60 g3.1 g3.2
  have b4 := rg60 g4.1 g4.2
  have hR := h.crl
  have c0p : ∀ num, (zPan Z (Z.2.2 0) num).2.2 0 = Z.2.2 0 + 1 := fun num => by
    show va_up Z.2.2 0 (Z.2.2 0 + 1) 0 = _
    exact vu_s
  have hR1 : cRL (zPt Z (Z.2.2 0) a1 a2 a3 a4) := by
    refine ⟨fun l j q hl hq => ?_, fun p q hp hq => ?_, hR.2.2⟩
    · have hq' : Z.2.1 4 l j = some q := hq
      have hl' := hR.1 l j q hl hq'
      have w5 : cLv Z.2.2 5 q = true → cLv (zPt Z (Z.2.2 0) a1 a2 a3 a4).2.2 5 q = true := fun z => by
        have z' : (decide (q < Z.2.2 0) || (decide (6 ≤ q) && decide (q < 9))) = true := z
        simp only [Bool.or_eq_true, Bool.and_eq_true, decide_eq_true_eq] at z'
        rcases z' with z' | z'
        · exact cLv5 (show q < va_up Z.2.2 0 (Z.2.2 0 + 1) 0 by rw [vu_s]; omega)
        · exact cLv5t z'.1 z'.2
      match l, hl, hl' with
      | 0, _, hl' => exact w5 hl'
      | 1, _, hl' => exact hl'
      | 2, _, hl' => exact hl'
      | 3, _, hl' => exact w5 hl'
      | l + 4, _, hl' => exact hl'
    · have := hR.2.1 p q hp hq
      have := (h.2.2.2.2.2.1.1 p (of_decide_eq_true hp)).2 q hq
      exact cLv5 (show q < va_up Z.2.2 0 (Z.2.2 0 + 1) 0 by rw [vu_s]; omega)
  have hls0 : uLs (zPt Z (Z.2.2 0) a1 a2 a3 a4) 0 (Z.2.2 0) id := by
    have h0 := h.ls0
    unfold uLs
    rw [zT_k (by omega), zP_k (by omega) (by omega) (by omega) (by omega)]
    exact h0
  have hok : okAdd (zPt Z (Z.2.2 0) a1 a2 a3 a4) 0 (Z.2.2 0) := okA hls0 (by omega) (by omega) hR1 (cLv5 (show Z.2.2 0 < va_up Z.2.2 0 (Z.2.2 0 + 1) 0 by rw [vu_s]; omega))
  have hadd : uLs (zAdd (zPt Z (Z.2.2 0) a1 a2 a3 a4) 0 (Z.2.2 0)) 0 (Z.2.2 0 + 1) id := hls0.add (by omega) (fun _ _ => rfl) rfl
  have c0 : (zAdd (zPt Z (Z.2.2 0) a1 a2 a3 a4) 0 (Z.2.2 0)).2.2 0 = Z.2.2 0 + 1 := by
    rw [zA_c (by omega)]
    exact c0p (nI (Z.2.2 0))
  have cn : ∀ k, k ≠ 0 → k ≠ 10 → (zAdd (zPt Z (Z.2.2 0) a1 a2 a3 a4) 0 (Z.2.2 0)).2.2 k = Z.2.2 k := fun k k1 k2 => by
    rw [zA_c (by omega)]
    show va_up Z.2.2 0 (Z.2.2 0 + 1) k = _
    exact vu_n k1
  have nk : ∀ k, k ≠ 3 → k ≠ 5 → k ≠ 6 → k ≠ 7 → k ≠ 8 → (zAdd (zPt Z (Z.2.2 0) a1 a2 a3 a4) 0 (Z.2.2 0)).1 k = Z.1 k := fun k k1 k2 k3 k4 k5 => by rw [zA_1 k1, zT_k k3, zP_k k2 k3 k4 k5]
  have nn : ∀ k i, k ≠ 3 → i ≠ Z.2.2 0 → (zAdd (zPt Z (Z.2.2 0) a1 a2 a3 a4) 0 (Z.2.2 0)).1 k i = Z.1 k i := fun k i k1 hi => by
    rw [zA_1 k1]
    by_cases k6 : k = 6
    · rw [k6, zT_6n hi]
    · rw [zT_k k6, zP_n hi]
  have n5 : (zAdd (zPt Z (Z.2.2 0) a1 a2 a3 a4) 0 (Z.2.2 0)).1 5 (Z.2.2 0) = upd (fun _ => 0) 0 (nI (Z.2.2 0)) := by
    rw [zA_1 (by omega), zT_k (by omega)]
    show (if Z.2.2 0 = Z.2.2 0 then _ else _) = _
    rw [if_pos rfl]
    rfl
  have n6 : (zAdd (zPt Z (Z.2.2 0) a1 a2 a3 a4) 0 (Z.2.2 0)).1 6 (Z.2.2 0) = upd (upd (upd (upd (fun _ => 0) 0 a1) 1 a2) 2 a3) 3 a4 := by
    rw [zA_1 (by omega), zT_6s]
  have n78 : ∀ k, k = 7 ∨ k = 8 → (zAdd (zPt Z (Z.2.2 0) a1 a2 a3 a4) 0 (Z.2.2 0)).1 k (Z.2.2 0) = fun _ => 0 := fun k hk => by
    rw [zA_1 (by omega), zT_k (by omega)]
    show (if Z.2.2 0 = Z.2.2 0 then (if k = 5 then _ else if k = 6 ∨ k = 7 ∨ k = 8 then _ else Z.1 k (Z.2.2 0)) else _) = _
    rw [if_pos rfl, if_neg (by omega), if_pos (by omega)]
  have hlsn : ∀ l k e, l ≠ 0 → uLs Z l k e → uL ((zAdd (zPt Z (Z.2.2 0) a1 a2 a3 a4) 0 (Z.2.2 0)).1 3 l) ((zAdd (zPt Z (Z.2.2 0) a1 a2 a3 a4) 0 (Z.2.2 0)).2.1 4 l) ((zAdd (zPt Z (Z.2.2 0) a1 a2 a3 a4) 0 (Z.2.2 0)).2.2 (10 + l)) k e := fun l k e hl hu => by
    have hu' : uLs (zPt Z (Z.2.2 0) a1 a2 a3 a4) l k e := by
      unfold uLs
      rw [zT_k (by omega), zP_k (by omega) (by omega) (by omega) (by omega), show (zPt Z (Z.2.2 0) a1 a2 a3 a4).2.2 (10 + l) = Z.2.2 (10 + l) from (show va_up Z.2.2 0 (Z.2.2 0 + 1) (10 + l) = _ from vu_n (by omega))]
      exact hu
    exact hu'.addn hl
  have mt : ∀ j, (upd (upd (upd (upd (M 4) (4 * Z.2.2 0) a1) (4 * Z.2.2 0 + 1) a2) (4 * Z.2.2 0 + 2) a3) (4 * Z.2.2 0 + 3) a4) j = if j = 4 * Z.2.2 0 then a1 else if j = 4 * Z.2.2 0 + 1 then a2 else if j = 4 * Z.2.2 0 + 2 then a3 else if j = 4 * Z.2.2 0 + 3 then a4 else M 4 j := fun j => by
    unfold upd
    repeat' split
    all_goals first | rfl | omega
  have H : uRR n (zAdd (zPt Z (Z.2.2 0) a1 a2 a3 a4) 0 (Z.2.2 0)) (va_up (va_up (va_up (va_up (va_up (va_up M 0 (fun _ => 0)) 4 (upd (M 4) (4 * Z.2.2 0) a1)) 4 (upd (upd (M 4) (4 * Z.2.2 0) a1) (4 * Z.2.2 0 + 1) a2)) 4 (upd (upd (upd (M 4) (4 * Z.2.2 0) a1) (4 * Z.2.2 0 + 1) a2) (4 * Z.2.2 0 + 2) a3)) 4 (upd (upd (upd (upd (M 4) (4 * Z.2.2 0) a1) (4 * Z.2.2 0 + 1) a2) (4 * Z.2.2 0 + 2) a3) (4 * Z.2.2 0 + 3) a4)) 3 (fun _ => nI (Z.2.2 0 + 1))) S C E P := by
    obtain ⟨r1, r2, r3, r4, r5, r6, r7, r8, r9, r10, r11, r12⟩ := h
    unfold uRR
    rw [nk 0 (by omega) (by omega) (by omega) (by omega) (by omega), nk 9 (by omega) (by omega) (by omega) (by omega) (by omega), nk 14 (by omega) (by omega) (by omega) (by omega) (by omega), nk 10 (by omega) (by omega) (by omega) (by omega) (by omega), nk 11 (by omega) (by omega) (by omega) (by omega) (by omega), nk 12 (by omega) (by omega) (by omega) (by omega) (by omega), cn 1 (by omega) (by omega), cn 2 (by omega) (by omega), c0]
    refine ⟨r1, ⟨by omega, rfl, fun i hi => ?_, fun i f hi hf => ?_, fun j hj1 hj2 => ?_⟩, ⟨hadd, hlsn 1 _ _ (by omega) r3.2.1, hlsn 2 _ _ (by omega) r3.2.2.1, hlsn 3 _ _ (by omega) r3.2.2.2⟩, fun b hb => hlsn (b + 4) _ _ (by omega) (r4 b hb), r5, ⟨fun i hi => ?_, r6.2.1, fun q hq => ?_⟩, r7, r8, r9, r10, r11, r12⟩
    · by_cases ei : i = Z.2.2 0
      · rw [ei, n5, pk_us]
      · rw [nn 5 i (by omega) ei]
        exact r2.2.2.1 i (by omega)
    · show _ = (upd (upd (upd (upd (M 4) (4 * Z.2.2 0) a1) (4 * Z.2.2 0 + 1) a2) (4 * Z.2.2 0 + 2) a3) (4 * Z.2.2 0 + 3) a4) (4 * i + f) ∧ _ = M 5 (4 * i + f) ∧ _ = M 6 (4 * i + f) ∧ (-(60 + 24 * (n : Int)) ≤ ((upd (upd (upd (upd (M 4) (4 * Z.2.2 0) a1) (4 * Z.2.2 0 + 1) a2) (4 * Z.2.2 0 + 2) a3) (4 * Z.2.2 0 + 3) a4) (4 * i + f)).toInt ∧ ((upd (upd (upd (upd (M 4) (4 * Z.2.2 0) a1) (4 * Z.2.2 0 + 1) a2) (4 * Z.2.2 0 + 2) a3) (4 * Z.2.2 0 + 3) a4) (4 * i + f)).toInt ≤ 60 + 24 * (n : Int)) ∧ (∃ c, c ≤ 7 ∧ M 5 (4 * i + f) = nI c) ∧ (M 6 (4 * i + f) = 0 ∨ M 6 (4 * i + f) = 1)
      rw [mt]
      by_cases ei : i = Z.2.2 0
      · rw [ei] at *
        obtain ⟨z1, z2⟩ := r2.2.2.2.2 (4 * Z.2.2 0 + f) (by omega) (by omega)
        rw [n6, n78 7 (Or.inl rfl), n78 8 (Or.inr rfl), z1, z2]
        refine ⟨?_, rfl, rfl, ?_, ⟨0, by omega, rfl⟩, Or.inl rfl⟩
        · have : f = 0 ∨ f = 1 ∨ f = 2 ∨ f = 3 := by omega
          rcases this with rfl | rfl | rfl | rfl
          · rw [if_pos (by omega)]
            rfl
          · rw [if_neg (by omega), if_pos rfl]
            rfl
          · rw [if_neg (by omega), if_neg (by omega), if_pos rfl]
            rfl
          · rw [if_neg (by omega), if_neg (by omega), if_neg (by omega), if_pos rfl]
            rfl
        · split
          · omega
          · split
            · omega
            · split
              · omega
              · split
                · omega
                · omega
      · rw [if_neg (by omega), if_neg (by omega), if_neg (by omega), if_neg (by omega), nn 6 i (by omega) ei, nn 7 i (by omega) ei, nn 8 i (by omega) ei]
        exact r2.2.2.2.1 i f (by omega) hf
    · exact r2.2.2.2.2 j (by omega) hj2
    · obtain ⟨g1, g2⟩ := r6.1 i hi
      exact ⟨g1, fun q hq => by have := g2 q hq; omega⟩
    · by_cases eq : q = Z.2.2 0
      · refine Or.inr ⟨?_, fun i hi z => ?_⟩
        · rw [eq, n5, pk_un (by omega)]
        · have := (r6.1 i hi).2 q z
          omega
      · rw [nn 5 q (by omega) eq]
        exact r6.2.2 q (by omega)
  refine ⟨_, _, H, c0, cn 1 (by omega) (by omega), fun k k0 k3 k4 => by rw [vu_n k3, vu_n k4, vu_n k4, vu_n k4, vu_n k4, vu_n k0], ?_, ?_, ec _ ?_⟩
  · show (upd (upd (upd (upd (M 4) (4 * Z.2.2 0) a1) (4 * Z.2.2 0 + 1) a2) (4 * Z.2.2 0 + 2) a3) (4 * Z.2.2 0 + 3) a4) (4 * Z.2.2 0) = a1
    rw [mt, if_pos rfl]
  · exact pk_us
  · rw [if_neg (show ¬ ((6 : Int32) ≤ nI (Z.2.2 0)) from nI_ge (b := 6) (by omega) (by omega))]
    unfold fX6_pan_50
    rw [c_rs_1, cx1_l, gp_t hR, bnd_e, gp_t (show Z.2.2 0 < 6 by omega), h.ls0.size (by omega), cl1_s, bnd_e]
    have l5 : ∀ Z' : CZ, Z'.2.2 0 = Z.2.2 0 + 1 → cLv Z'.2.2 5 (Z.2.2 0) = true := fun Z' e => cLv5 (by rw [e]; omega)
    have z6 : (zPan Z (Z.2.2 0) (nI (Z.2.2 0))).1 6 (Z.2.2 0) = fun _ => 0 := by
      show (if Z.2.2 0 = Z.2.2 0 then _ else _) = _
      rw [if_pos rfl]
      rfl
    rw [l5 _ (c0p _), gdt, z6, gd40]
    show (bnd (cuI (zPan Z (Z.2.2 0) (nI (Z.2.2 0))) 6 (Z.2.2 0) (upd (fun _ => 0) 0 a1)) _) = _
    rw [bnd_e, cuI_s, gd41]
    show (bnd (cuI (cuI (zPan Z (Z.2.2 0) (nI (Z.2.2 0))) 6 (Z.2.2 0) (upd (fun _ => 0) 0 a1)) 6 (Z.2.2 0) (upd (upd (fun _ => 0) 0 a1) 1 a2)) _) = _
    rw [bnd_e, cuI_s, gd42]
    show (bnd (cuI (cuI (cuI (zPan Z (Z.2.2 0) (nI (Z.2.2 0))) 6 (Z.2.2 0) (upd (fun _ => 0) 0 a1)) 6 (Z.2.2 0) (upd (upd (fun _ => 0) 0 a1) 1 a2)) 6 (Z.2.2 0) (upd (upd (upd (fun _ => 0) 0 a1) 1 a2) 2 a3)) _) = _
    rw [bnd_e, cuI_s, gd43]
    show (bnd (zPt Z (Z.2.2 0) a1 a2 a3 a4) _) = _
    rw [bnd_e, gp_t hok, bnd_e, l5 _ c0, gdt, n5]
    rfl
theorem k_join_ec (h : uRR n Z M S C E P) {i b : Nat} (hi : i < Z.2.2 1) (hb : b < 4) : ∀ v r, fX0_seatOf b i Z = some v → (if v = -1 then (if (2 : Int32) ≤ Z.1 9 i 3 then fX6_join_35 (nI b) i b Z else fX6_join_36 (nI b) i b 1 Z) else fX6_join_35 (nI b) i b Z) = r → fX6_join (nI i) (nI b) Z = r := fun v r hv hr => by
  unfold fX6_join
  rw [h.playerAt hi, cx1_l, h.bandAt hb, cx1_l, cLv10 hb, gdt, hv, cl1_s, cLv9 hi, gdt]
  exact hr
theorem k_join_in (h : uRR n Z M S C E P) {i b k : Nat} (hi : i < Z.2.2 1) (hb : b < 4) (hk : k < S b) (e : P b k = i) : fX6_join (nI i) (nI b) Z = some (.inr 3, Z) := by
  have hS := h.nS hb
  refine k_join_ec h hi hb _ _ (c_seatOf_t h hi hb hk e) ?_
  rw [if_neg (by rw [nIm1 (by omega)]; exact id)]
  rfl
theorem k_join (h : uRR n Z M S C E P) {i b : Nat} (hi : i < Z.2.2 1) (hb : b < 4) : fX6_join (nI i) (nI b) Z = some (.inr 3, Z) ∨ (ucnt S P i < 2 ∧ ∃ (Z' : CZ) (M' : MT) (S' : Nat → Nat) (E' P' : Nat → Nat → Nat), uRR n Z' M' S' C E' P' ∧ Z'.2.2 0 = Z.2.2 0 ∧ Z'.2.2 1 = Z.2.2 1 ∧ (∀ k, k ≠ 0 → k ≠ 15 → k ≠ 16 → k ≠ 19 → M' k = M k) ∧ S' b = S b + 1 ∧ P' b (S b) = i ∧ ucnt S' P' i = ucnt S P i + 1 ∧ fX6_join (nI i) (nI b) Z = some (.inl (nI (S b)), Z')) := by
  have hnl := h.nl.1
  have hS := h.nS hb
  have f8 := h.2.2.2.2.2.2.2.1 i hi
  have e36 : fX6_join_36 (nI b) i b 0 Z = some (.inr 3, Z) := rfl
  have ec := k_join_ec h hi hb
  rcases uin_or S P b i with ⟨u1, k, hk, e⟩ | ⟨u1, e⟩
  · exact Or.inl (k_join_in h hi hb hk e)
  · by_cases h2 : 2 ≤ ucnt S P i
    · refine Or.inl (ec _ (some (.inr 3, Z)) (c_seatOf_f h hi hb e) ?_)
      rw [if_pos (by decide), f8.1, if_pos (show (2 : Int32) ≤ nI (ucnt S P i) from nI_le (a := 2) h2 (by omega))]
      rfl
    · have h2' : ¬ ((2 : Int32) ≤ nI (ucnt S P i)) := nI_ge (b := 2) (by omega) (by omega)
      have ec' : ∀ r, (if (8 : Int32) ≤ nI (S b) then fX6_join_57 (nI b) i b 0 Z else fX6_join_57 (nI b) i b 1 Z) = r → fX6_join (nI i) (nI b) Z = r := fun r hr => ec _ r (c_seatOf_f h hi hb e) (by
        rw [if_pos (by decide), f8.1, if_neg h2']
        unfold fX6_join_36
        rw [c_rs_1, cx1_l, cLv10 hb, gdt, cLv3 (by omega), gdt, (h.ls4 hb).size (by omega), cl1_s]
        exact hr)
      by_cases h8 : S b = 8
      · refine Or.inl (ec' (some (.inr 3, Z)) ?_)
        rw [h8, if_pos (by decide)]
        rfl
      · have h8' : ¬ ((8 : Int32) ≤ nI (S b)) := nI_ge (b := 8) (by omega) (by omega)
        by_cases hw : umw M i b
        · refine Or.inl (ec' (some (.inr 3, Z)) ?_)
          rw [if_neg h8']
          unfold fX6_join_57 fX6_seasonNow
          rw [c_rs_1, cx1_l, cl1_s, cLv9 hi, gdt, (c_mayJoin h hi).1 hw, cl1_s, c_rs_0, cx1_r]
        · have hR := h.crl
          have hR1 : cRL (zSeat Z (Z.2.2 2) i) := by
            refine ⟨fun l j q hl hq => ?_, hR.2.1, fun j p hj hp => ?_⟩
            · have hl' := hR.1 l j q hl hq
              match l, hl, hl' with
              | 0, _, hl' => exact hl'
              | 1, _, hl' => exact hl'
              | 2, _, hl' => exact hl'
              | 3, _, hl' => exact hl'
              | l + 4, _, hl' =>
                have : q < Z.2.2 2 := of_decide_eq_true hl'
                exact cLv13 (show q < va_up Z.2.2 2 (Z.2.2 2 + 1) 2 by rw [vu_s]; omega)
            · have hj' : j < va_up Z.2.2 2 (Z.2.2 2 + 1) 2 := of_decide_eq_true hj
              rw [vu_s] at hj'
              by_cases e : j = Z.2.2 2
              · subst e
                have : (zSeat Z (Z.2.2 2) i).2.1 13 (Z.2.2 2) 0 = some i := by
                  show (if 13 = 13 ∧ Z.2.2 2 = Z.2.2 2 then fun _ => some i else Z.2.1 13 (Z.2.2 2)) 0 = some i
                  rw [if_pos ⟨rfl, rfl⟩]
                rw [this] at hp
                cases hp
                exact cLv9 hi
              · have : (zSeat Z (Z.2.2 2) i).2.1 13 j 0 = Z.2.1 13 j 0 := by
                  show (if 13 = 13 ∧ j = Z.2.2 2 then fun _ => some i else Z.2.1 13 j) 0 = _
                  rw [if_neg (fun z => e z.2)]
                rw [this] at hp
                exact hR.2.2 j p (cLv13 (by omega)) hp
          have hu : ∀ b', b' < 4 → uLs (zSeat Z (Z.2.2 2) i) (b' + 4) (S b') (E b') := fun b' hb' => by
            have hb'' := h.ls4 hb'
            unfold uLs
            rw [show (zSeat Z (Z.2.2 2) i).2.2 (10 + (b' + 4)) = Z.2.2 (10 + (b' + 4)) from (show va_up Z.2.2 2 (Z.2.2 2 + 1) (10 + (b' + 4)) = _ from vu_n (by omega))]
            exact hb''
          have hok : okAdd (zSeat Z (Z.2.2 2) i) (b + 4) (Z.2.2 2) := okA (hu b hb) (by omega) (by omega) hR1 (cLv13 (show Z.2.2 2 < va_up Z.2.2 2 (Z.2.2 2 + 1) 2 by rw [vu_s]; omega))
          have hadd : uLs (zAdd (zSeat Z (Z.2.2 2) i) (b + 4) (Z.2.2 2)) (b + 4) (S b + 1) (fun k => if k = S b then Z.2.2 2 else E b k) := (hu b hb).add (by omega) (fun k hk => if_neg (by omega)) (if_pos rfl)
          have c1 : (zAdd (zSeat Z (Z.2.2 2) i) (b + 4) (Z.2.2 2)).2.2 1 = Z.2.2 1 := by
            rw [zA_c (by omega)]
            show va_up Z.2.2 2 (Z.2.2 2 + 1) 1 = _
            exact vu_n (by omega)
          have c0 : (zAdd (zSeat Z (Z.2.2 2) i) (b + 4) (Z.2.2 2)).2.2 0 = Z.2.2 0 := by
            rw [zA_c (by omega)]
            show va_up Z.2.2 2 (Z.2.2 2 + 1) 0 = _
            exact vu_n (by omega)
          have c2 : (zAdd (zSeat Z (Z.2.2 2) i) (b + 4) (Z.2.2 2)).2.2 2 = Z.2.2 2 + 1 := by
            rw [zA_c (by omega)]
            show va_up Z.2.2 2 (Z.2.2 2 + 1) 2 = _
            exact vu_s
          have n14s : (zAdd (zSeat Z (Z.2.2 2) i) (b + 4) (Z.2.2 2)).1 14 (Z.2.2 2) = fun _ => 0 := by
            rw [zA_1 (by omega)]
            exact if_pos ⟨rfl, rfl⟩
          have n14n : ∀ e, e ≠ Z.2.2 2 → (zAdd (zSeat Z (Z.2.2 2) i) (b + 4) (Z.2.2 2)).1 14 e = Z.1 14 e := fun e he => by
            rw [zA_1 (by omega)]
            exact if_neg (fun q => he q.2)
          have q13s : (zAdd (zSeat Z (Z.2.2 2) i) (b + 4) (Z.2.2 2)).2.1 13 (Z.2.2 2) = fun _ => some i := by
            rw [zA_2 (by omega)]
            exact if_pos ⟨rfl, rfl⟩
          have q13n : ∀ e, e ≠ Z.2.2 2 → (zAdd (zSeat Z (Z.2.2 2) i) (b + 4) (Z.2.2 2)).2.1 13 e = Z.2.1 13 e := fun e he => by
            rw [zA_2 (by omega)]
            exact if_neg (fun q => he q.2)
          have n9 : (zAdd (zSeat Z (Z.2.2 2) i) (b + 4) (Z.2.2 2)).1 9 = Z.1 9 := by
            rw [zA_1 (by omega)]
            rfl
          obtain ⟨m19, z3, z4⟩ : ∃ m19 : Nat → Int32, (∀ i, 6 * (8 * b + S b) + 0 ≤ i → i < 6 * (8 * b + S b) + 6 → m19 i = 0) ∧ ∀ i, ¬ (6 * (8 * b + S b) + 0 ≤ i ∧ i < 6 * (8 * b + S b) + 6) → m19 i = M 19 i := ⟨fun i => if 6 * (8 * b + S b) + 0 ≤ i ∧ i < 6 * (8 * b + S b) + 6 then 0 else M 19 i, fun i q1 q2 => if_pos ⟨q1, q2⟩, fun i q => if_neg q⟩
          have cnt : ucnt (va_up S b (S b + 1)) (fun b' k => if b' = b ∧ k = S b then i else P b' k) i = ucnt S P i + 1 := by
            refine ucnt_1 hb (fun b' hb' hbb => uin_o ⟨fun ⟨k, k1, k2⟩ => ⟨k, by rw [vu_n hbb] at k1; exact k1, by rw [← k2]; exact (if_neg (fun q => hbb q.1)).symm⟩, fun ⟨k, k1, k2⟩ => ⟨k, by rw [vu_n hbb]; exact k1, by rw [← k2]; exact if_neg (fun q => hbb q.1)⟩⟩) ?_
            rw [u1]
            exact uin_1 (k := S b) (by rw [vu_s]; omega) (if_pos ⟨rfl, rfl⟩)
          have H : uRR n (cuI (zAdd (zSeat Z (Z.2.2 2) i) (b + 4) (Z.2.2 2)) 9 i (upd (Z.1 9 i) 3 (nI (ucnt S P i + 1)))) (va_up (va_up (va_up (va_up M 0 (fun _ => 0)) 16 (upd (M 16) (8 * b + S b) (nI i))) 19 (m19)) 15 (upd (M 15) b (nI (S b + 1)))) (va_up S b (S b + 1)) C (fun b' k => if b' = b ∧ k = S b then Z.2.2 2 else E b' k) (fun b' k => if b' = b ∧ k = S b then i else P b' k) := by
            obtain ⟨r1, r2, r3, r4, r5, r6, r7, r8, r9, r10, r11⟩ := h
            have Ps : (fun b' k => if b' = b ∧ k = S b then i else P b' k) b (S b) = i := if_pos ⟨rfl, rfl⟩
            have Po : ∀ b' k, b' < 4 → k < S b' → (fun b' k => if b' = b ∧ k = S b then i else P b' k) b' k = P b' k := fun b' k hb' hk => if_neg (fun q => by
              obtain ⟨rfl, rfl⟩ := q
              omega)
            have Eo : ∀ b' k, b' < 4 → k < S b' → (fun b' k => if b' = b ∧ k = S b then Z.2.2 2 else E b' k) b' k = E b' k := fun b' k hb' hk => if_neg (fun q => by
              obtain ⟨rfl, rfl⟩ := q
              omega)
            have Es : (fun b' k => if b' = b ∧ k = S b then Z.2.2 2 else E b' k) b (S b) = Z.2.2 2 := if_pos ⟨rfl, rfl⟩
            generalize hP' : (fun b' k => if b' = b ∧ k = S b then i else P b' k) = P' at *
            generalize hE' : (fun b' k => if b' = b ∧ k = S b then Z.2.2 2 else E b' k) = E' at *
            have nseat : ∀ k, k < S b → P b k ≠ i := e
            have cs : ∀ b' k, b' < 4 → k < va_up S b (S b + 1) b' → (b' = b ∧ k = S b) ∨ k < S b' := fun b' k hb' hk => by
              by_cases hbb : b' = b
              · subst hbb
                rw [vu_s] at hk
                omega
              · rw [vu_n hbb] at hk
                exact Or.inr hk
            refine ⟨r1, ?_, ⟨?_, ?_, ?_, ?_⟩, fun b' hb' => ?_, ?_, ?_, ⟨fun b' hb' => ?_, fun b' k hb' hk => ?_, fun b' k k' hb' hk hk' e => ?_, fun b' k b'' k' hb' hk hb'' hk' e => ?_, fun j p hj hp => ?_⟩, fun i' hi' => ?_, fun b' k j hb' hk hj => ?_, r10, r11⟩
            · show uR2 n ((zAdd (zSeat Z (Z.2.2 2) i) (b + 4) (Z.2.2 2)).2.2 0) _ _ _ _ _ _ _ _
              rw [c0]
              exact r2
            · show uL _ _ _ ((zAdd (zSeat Z (Z.2.2 2) i) (b + 4) (Z.2.2 2)).2.2 0) _
              rw [c0]
              exact (show uLs (zSeat Z (Z.2.2 2) i) 0 (Z.2.2 0) id from r3.1).addn (show 0 ≠ b + 4 by omega)
            · show uL _ _ _ ((zAdd (zSeat Z (Z.2.2 2) i) (b + 4) (Z.2.2 2)).2.2 1) _
              rw [c1]
              exact (show uLs (zSeat Z (Z.2.2 2) i) 1 (Z.2.2 1) id from r3.2.1).addn (show 1 ≠ b + 4 by omega)
            · exact (show uLs (zSeat Z (Z.2.2 2) i) 2 4 id from r3.2.2.1).addn (show 2 ≠ b + 4 by omega)
            · exact (show uLs (zSeat Z (Z.2.2 2) i) 3 3 (fun t => 6 + t) from r3.2.2.2).addn (show 3 ≠ b + 4 by omega)
            · by_cases hbb : b' = b
              · subst hbb
                rw [vu_s]
                have eE : (fun k => if k = S b' then Z.2.2 2 else E b' k) = E' b' := by
                  rw [← hE']
                  funext k
                  by_cases hk : k = S b'
                  · rw [if_pos hk]
                    exact (if_pos ⟨rfl, hk⟩).symm
                  · rw [if_neg hk]
                    exact (if_neg (fun q => hk q.2)).symm
                rw [eE] at hadd
                exact hadd
              · rw [vu_n hbb]
                have eE : E' b' = E b' := by
                  rw [← hE']
                  funext k
                  exact if_neg (fun q => hbb q.1)
                rw [eE]
                exact (hu b' hb').addn (by omega)
            · show uR5 ((zAdd (zSeat Z (Z.2.2 2) i) (b + 4) (Z.2.2 2)).2.2 1) _ _ _ _ _
              rw [c1]
              refine ⟨r5.1, r5.2.1, fun i' hi' => ?_⟩
              have g := r5.2.2 i' hi'
              by_cases ei : i' = i
              · subst ei
                rw [cuI_s]
                exact g
              · rw [cuI_n (fun q => ei q.2), n9]
                exact g
            · show uR6 ((zAdd (zSeat Z (Z.2.2 2) i) (b + 4) (Z.2.2 2)).2.2 0) ((zAdd (zSeat Z (Z.2.2 2) i) (b + 4) (Z.2.2 2)).2.2 1) _ _ _
              rw [c0, c1]
              exact r6
            · show _ ∧ upd (M 15) b (nI (S b + 1)) b' = _
              by_cases hbb : b' = b
              · subst hbb
                rw [vu_s, pk_us]
                exact ⟨by omega, rfl⟩
              · rw [vu_n hbb, pk_un hbb]
                exact r7.1 b' hb'
            · show E' b' k < (zAdd (zSeat Z (Z.2.2 2) i) (b + 4) (Z.2.2 2)).2.2 2 ∧ P' b' k < (zAdd (zSeat Z (Z.2.2 2) i) (b + 4) (Z.2.2 2)).2.2 1 ∧ (zAdd (zSeat Z (Z.2.2 2) i) (b + 4) (Z.2.2 2)).2.1 13 (E' b' k) 0 = some (P' b' k) ∧ upd (M 16) (8 * b + S b) (nI i) (8 * b' + k) = nI (P' b' k)
              rw [c1, c2]
              rcases cs b' k hb' hk with ⟨rfl, rfl⟩ | hk
              · rw [Es, Ps, q13s, pk_us]
                exact ⟨by omega, hi, rfl, rfl⟩
              · obtain ⟨g1, g2, g3, g4⟩ := r7.2.1 b' k hb' hk
                have := (r7.1 b' hb').1
                rw [Eo b' k hb' hk, Po b' k hb' hk, q13n _ (by omega), pk_un (fun q => by
                  have : b' = b ∧ k = S b := by omega
                  obtain ⟨rfl, rfl⟩ := this
                  omega)]
                exact ⟨by omega, g2, g3, g4⟩
            · rcases cs b' k hb' hk with ⟨y1, y2⟩ | hk
              · rcases cs b' k' hb' hk' with ⟨_, y3⟩ | hk'
                · rw [y2, y3]
                · rw [y1, y2, Ps, ← y1, Po b' k' hb' hk'] at e
                  rw [y1] at e hk'
                  exact absurd e.symm (nseat k' hk')
              · rcases cs b' k' hb' hk' with ⟨y1, y2⟩ | hk'
                · rw [Po b' k hb' hk, y1, y2, Ps] at e
                  rw [y1] at hk
                  exact absurd e (nseat k hk)
                · rw [Po b' k hb' hk, Po b' k' hb' hk'] at e
                  exact r7.2.2.1 b' k k' hb' hk hk' e
            · rcases cs b' k hb' hk with ⟨y1, y2⟩ | hk
              · rcases cs b'' k' hb'' hk' with ⟨y3, y4⟩ | hk'
                · exact ⟨by rw [y1, y3], by rw [y2, y4]⟩
                · have := (r7.2.1 b'' k' hb'' hk').1
                  rw [y1, y2, Es, Eo b'' k' hb'' hk'] at e
                  omega
              · rcases cs b'' k' hb'' hk' with ⟨y3, y4⟩ | hk'
                · have := (r7.2.1 b' k hb' hk).1
                  rw [y3, y4, Es, Eo b' k hb' hk] at e
                  omega
                · rw [Eo b' k hb' hk, Eo b'' k' hb'' hk'] at e
                  exact r7.2.2.2.1 b' k b'' k' hb' hk hb'' hk' e
            · have hj' : j < Z.2.2 2 + 1 := by
                rw [← c2]
                exact hj
              show p < (zAdd (zSeat Z (Z.2.2 2) i) (b + 4) (Z.2.2 2)).2.2 1
              rw [c1]
              by_cases ej : j = Z.2.2 2
              · have hp' : (zAdd (zSeat Z (Z.2.2 2) i) (b + 4) (Z.2.2 2)).2.1 13 j 0 = some p := hp
                rw [ej, q13s] at hp'
                cases hp'
                exact hi
              · have hp' : (zAdd (zSeat Z (Z.2.2 2) i) (b + 4) (Z.2.2 2)).2.1 13 j 0 = some p := hp
                rw [q13n j ej] at hp'
                exact r7.2.2.2.2 j p (by omega) hp'
            · have hi'' : i' < Z.2.2 1 := by
                rw [← c1]
                exact hi'
              have cb : ∀ b', b' < 4 → b' ≠ b → uin (va_up S b (S b + 1)) P' b' i' = uin S P b' i' := fun b' hb' hbb => uin_o ⟨fun ⟨k, k1, k2⟩ => by
                rw [vu_n hbb] at k1
                rw [Po b' k hb' k1] at k2
                exact ⟨k, k1, k2⟩, fun ⟨k, k1, k2⟩ => ⟨k, by rw [vu_n hbb]; exact k1, by rw [Po b' k hb' k1]; exact k2⟩⟩
              obtain ⟨g1, g2⟩ := r8 i' hi''
              by_cases ei : i' = i
              · subst ei
                have hs : uin (va_up S b (S b + 1)) P' b i' = uin S P b i' + 1 := by
                  rw [u1]
                  exact uin_1 (k := S b) (by rw [vu_s]; omega) Ps
                rw [ucnt_1 hb cb hs, cuI_s, pk_us]
                exact ⟨rfl, by omega⟩
              · have hs : uin (va_up S b (S b + 1)) P' b i' = uin S P b i' := uin_o ⟨fun ⟨k, k1, k2⟩ => by
                  rw [vu_s] at k1
                  by_cases ek : k = S b
                  · rw [ek, Ps] at k2
                    exact absurd k2.symm ei
                  · have hk : k < S b := by omega
                    rw [Po b k hb hk] at k2
                    exact ⟨k, hk, k2⟩, fun ⟨k, k1, k2⟩ => ⟨k, by rw [vu_s]; omega, by rw [Po b k hb k1]; exact k2⟩⟩
                have ho : ucnt (va_up S b (S b + 1)) P' i' = ucnt S P i' := ucnt_o (fun b' hb' => by
                  by_cases hbb : b' = b
                  · rw [hbb]
                    exact hs
                  · exact cb b' hb' hbb)
                rw [ho, cuI_n (fun q => ei q.2), n9]
                exact ⟨g1, g2⟩
            · have hS' := (r7.1 b hb).1
              show (zAdd (zSeat Z (Z.2.2 2) i) (b + 4) (Z.2.2 2)).1 14 (E' b' k) j = m19 (6 * (8 * b' + k) + j) ∧ (m19 (6 * (8 * b' + k) + j) = 0 ∨ m19 (6 * (8 * b' + k) + j) = 1 ∨ m19 (6 * (8 * b' + k) + j) = 2)
              rcases cs b' k hb' hk with ⟨y1, y2⟩ | hk
              · rw [y1, y2, Es, n14s, z3 _ (by omega) (by omega)]
                exact ⟨rfl, Or.inl rfl⟩
              · obtain ⟨g1, g2⟩ := r9 b' k j hb' hk hj
                have hS'' := (r7.1 b' hb').1
                have hne : ¬ (b' = b ∧ k = S b) := fun q => by
                  rw [q.1] at hk
                  omega
                have hlt := (r7.2.1 b' k hb' hk).1
                rw [Eo b' k hb' hk, n14n _ (by omega), z4 _ (fun q => hne (by omega))]
                exact ⟨g1, g2⟩
          have hle : ¬ ((8 : Int32) ≤ nI (S b)) := h8'
          have S1 : (va_up S b (S b + 1)) b = S b + 1 := vu_s
          refine Or.inr ⟨by omega, _, _, _, _, _, H, c0, c1, fun k k0 k15 k16 k19 => by rw [vu_n k15, vu_n k19, vu_n k16, vu_n k0], S1, if_pos ⟨rfl, rfl⟩, cnt, ec' _ ?_⟩
          rw [if_neg h8']
          unfold fX6_join_57 fX6_seasonNow
          have l9 : cLv (zAdd (zSeat Z (Z.2.2 2) i) (b + 4) (Z.2.2 2)).2.2 9 i = true := cLv9 (by rw [c1]; exact hi)
          rw [c_rs_1, cx1_l, cl1_s, cLv9 hi, gdt, (c_mayJoin h hi).2 hw, cl1_s, c_rs_1, cx1_l, cLv10 hb, gdt, gp_t hR, bnd_e, bnd_e, gp_t hok, bnd_e, l9, gdt, n9, f8.1, u_a1, bnd_e]
          have l10 : cLv (cuI (zAdd (zSeat Z (Z.2.2 2) i) (b + 4) (Z.2.2 2)) 9 i (upd (Z.1 9 i) 3 (nI (ucnt S P i + 1)))).2.2 10 b = true := cLv10 hb
          have hs := H.ls4 hb
          rw [l10, gdt, cLv3 (by omega), gdt, hs.size (by omega), cl1_s, S1, nI_pred]
theorem k_leave_ec (h : uRR n Z M S C E P) {i b : Nat} (hi : i < Z.2.2 1) (hb : b < 4) : ∀ v r, fX0_seatOf b i Z = some v → (if v < 0 then fX6_leave_43 (nI b) i b v Z else (if nI (S b) ≤ v then fX6_leave_43 (nI b) i b v Z else fX6_leave_44 (nI b) i b v 1 Z)) = r → fX6_leave (nI i) (nI b) Z = r := fun v r hv hr => by
  unfold fX6_leave
  rw [h.playerAt hi, cx1_l, h.bandAt hb, cx1_l, cLv10 hb, gdt, hv, cl1_s, cLv3 (by omega), gdt, (h.ls4 hb).size (by omega), cl1_s]
  exact hr
theorem k_leave_no (h : uRR n Z M S C E P) {i b : Nat} (hi : i < Z.2.2 1) (hb : b < 4) (e : ∀ k, k < S b → P b k ≠ i) : fX6_leave (nI i) (nI b) Z = some (.inr 3, Z) := by
  refine k_leave_ec h hi hb _ _ (c_seatOf_f h hi hb e) ?_
  rfl
theorem k_leave (h : uRR n Z M S C E P) {i b k : Nat} (hi : i < Z.2.2 1) (hb : b < 4) (hk : k < S b) (e : P b k = i) : ∃ (Z' : CZ) (M' : MT) (S' : Nat → Nat) (E' P' : Nat → Nat → Nat), uRR n Z' M' S' C E' P' ∧ Z'.2.2 = Z.2.2 ∧ (∀ k, k ≠ 0 → k ≠ 13 → k ≠ 14 → k ≠ 15 → k ≠ 16 → k ≠ 19 → M' k = M k) ∧ S' b = S b - 1 ∧ (∀ j, P' b j = if k ≤ j then P b (j + 1) else P b j) ∧ fX6_leave (nI i) (nI b) Z = some (.inl (nI (S b - 1)), Z') := by
  have hnl := h.nl.1
  have hS := h.nS hb
  have f8 := h.2.2.2.2.2.2.2.1 i hi
  have ec := k_leave_ec h hi hb
  have u1 : uin S P b i = 1 := uin_1 hk e
  have hR := h.crl
  have hls := h.ls4 hb
  have hcap := hls.2.1
  have n4 : cLv Z.2.2 4 (b + 4) = true := by
    show (decide (b + 4 < 8) && decide (0 < Z.2.2 (10 + (b + 4)))) = true
    rw [decide_eq_true (show b + 4 < 8 by omega), decide_eq_true (show 0 < Z.2.2 (10 + (b + 4)) by omega)]
    rfl
  have hsz : (Z.1 3 (b + 4) 2).toNatClampNeg = S b := by
    rw [hls.1]
    exact nIc (by omega)
  have hrem : fJx4a65c_remove_915e3 (b + 4) (nI k) Z = some (E b k, cuR (cuI Z 3 (b + 4) (upd (upd (Z.1 3 (b + 4)) 0 (Z.1 3 (b + 4) 0 + 1)) 2 (nI (S b - 1)))) 4 (b + 4) (fRem (Z.2.1 4 (b + 4)) (S b) k)) := by
    unfold fJx4a65c_remove_915e3 fJx4a65c_fastRemove_b59b0
    rw [cLv3 (by omega), gdt, hls.1, c_ci hk (by omega) Z, cl1_s, n4, gdt, gdn (by omega) (by omega), nIc (by omega), hls.2.2.1 k hk, cl1_s]
    rw [gp_t ⟨rfl, rfl, by rw [nIc (by omega)], rfl, by rw [nIc (by omega)]; exact hk, by rw [nIc (by omega)]; omega, by omega, fun j q hq => hR.1 (b + 4) j q (by omega) hq⟩, cl1_s, nIc (by omega)]
  obtain ⟨m16, z3⟩ : ∃ m16 : Nat → Int32, ∀ i, m16 i = if 8 * b + k ≤ i ∧ i < 8 * b + (S b - 1) then M 16 (i + 1) else M 16 i := ⟨_, fun _ => rfl⟩
  obtain ⟨m19, z4⟩ : ∃ m19 : Nat → Int32, ∀ i, m19 i = if 6 * (8 * b + k) ≤ i ∧ i < 6 * (8 * b + (S b - 1)) then M 19 (i + 6) else M 19 i := ⟨_, fun _ => rfl⟩
  have H : uRR n (cuI (cuI (cuI (cuR (cuI Z 3 (b + 4) (upd (upd (Z.1 3 (b + 4)) 0 (Z.1 3 (b + 4) 0 + 1)) 2 (nI (S b - 1)))) 4 (b + 4) (fRem (Z.2.1 4 (b + 4)) (S b) k)) 9 i (upd (Z.1 9 i) 3 (nI (ucnt S P i - 1)))) 9 i (upd (upd (Z.1 9 i) 3 (nI (ucnt S P i - 1))) 4 (nI b))) 9 i (upd (upd (upd (Z.1 9 i) 3 (nI (ucnt S P i - 1))) 4 (nI b)) 5 (M 1 0 / 30))) (va_up (va_up (va_up (va_up (va_up (va_up M 0 (fun _ => 0)) 15 (upd (M 15) b (nI (S b - 1)))) 16 (m16)) 19 (m19)) 13 (upd (M 13) i (nI b))) 14 (upd (M 14) i (M 1 0))) (va_up S b (S b - 1)) C (fun b' j => if b' = b ∧ k ≤ j then E b' (j + 1) else E b' j) (fun b' j => if b' = b ∧ k ≤ j then P b' (j + 1) else P b' j) := by
    obtain ⟨r1, r2, r3, r4, r5, r6, r7, r8, r9, r10, r11⟩ := h
    have cs : ∀ b' j, b' < 4 → j < va_up S b (S b - 1) b' → ∃ j', j' < S b' ∧ (b' = b → j' ≠ k) ∧ (fun b' j => if b' = b ∧ k ≤ j then E b' (j + 1) else E b' j) b' j = E b' j' ∧ (fun b' j => if b' = b ∧ k ≤ j then P b' (j + 1) else P b' j) b' j = P b' j' ∧ (b' = b ∧ k ≤ j ∧ j' = j + 1 ∨ ¬ (b' = b ∧ k ≤ j) ∧ j' = j) := fun b' j hb' hj => by
      by_cases hbb : b' = b
      · subst hbb
        rw [vu_s] at hj
        by_cases hkj : k ≤ j
        · exact ⟨j + 1, by omega, fun _ => by omega, if_pos ⟨rfl, hkj⟩, if_pos ⟨rfl, hkj⟩, Or.inl ⟨rfl, hkj, rfl⟩⟩
        · exact ⟨j, by omega, fun _ => by omega, if_neg (fun q => hkj q.2), if_neg (fun q => hkj q.2), Or.inr ⟨fun q => hkj q.2, rfl⟩⟩
      · rw [vu_n hbb] at hj
        exact ⟨j, hj, fun q => absurd q hbb, if_neg (fun q => hbb q.1), if_neg (fun q => hbb q.1), Or.inr ⟨fun q => hbb q.1, rfl⟩⟩
    have Pk : ∀ b', b' < 4 → ∀ i', (∃ j, j < va_up S b (S b - 1) b' ∧ (fun b' j => if b' = b ∧ k ≤ j then P b' (j + 1) else P b' j) b' j = i') ↔ ∃ j, j < S b' ∧ (b' = b → j ≠ k) ∧ P b' j = i' := fun b' hb' i' => by
      constructor
      · rintro ⟨j, j1, j2⟩
        obtain ⟨j', y1, y2, y3, y4, y5⟩ := cs b' j hb' j1
        exact ⟨j', y1, y2, by rw [← y4]; exact j2⟩
      · rintro ⟨j, j1, j2, j3⟩
        by_cases hbb : b' = b
        · subst hbb
          have jk := j2 rfl
          by_cases hkj : k < j
          · refine ⟨j - 1, by rw [vu_s]; omega, ?_⟩
            show (if b' = b' ∧ k ≤ j - 1 then P b' (j - 1 + 1) else P b' (j - 1)) = i'
            rw [if_pos ⟨rfl, by omega⟩, show j - 1 + 1 = j by omega]
            exact j3
          · refine ⟨j, by rw [vu_s]; omega, ?_⟩
            show (if b' = b' ∧ k ≤ j then P b' (j + 1) else P b' j) = i'
            rw [if_neg (fun q => by omega)]
            exact j3
        · refine ⟨j, by rw [vu_n hbb]; exact j1, ?_⟩
          show (if b' = b ∧ k ≤ j then P b' (j + 1) else P b' j) = i'
          rw [if_neg (fun q => hbb q.1)]
          exact j3
    have eE : ∀ b', b' ≠ b → (fun b' j => if b' = b ∧ k ≤ j then E b' (j + 1) else E b' j) b' = E b' := fun b' hbb => funext fun j => if_neg (fun q => hbb q.1)
    generalize hE' : (fun b' j => if b' = b ∧ k ≤ j then E b' (j + 1) else E b' j) = E' at *
    generalize hP' : (fun b' j => if b' = b ∧ k ≤ j then P b' (j + 1) else P b' j) = P' at *
    refine ⟨r1, r2, ⟨?_, ?_, ?_, ?_⟩, fun b' hb' => ?_, ⟨r5.1, r5.2.1, fun i' hi' => ?_⟩, r6, ⟨fun b' hb' => ?_, fun b' j hb' hj => ?_, fun b' j j' hb' hj hj' e' => ?_, fun b' j b'' j' hb' hj hb'' hj' e' => ?_, r7.2.2.2.2⟩, fun i' hi' => ?_, fun b' j f hb' hj hf => ?_, r10, r11⟩
    · show uL ((cuI Z 3 (b + 4) (upd (upd (Z.1 3 (b + 4)) 0 (Z.1 3 (b + 4) 0 + 1)) 2 (nI (S b - 1)))).1 3 0) ((cuR Z 4 (b + 4) (fRem (Z.2.1 4 (b + 4)) (S b) k)).2.1 4 0) _ _ _
      rw [cuI_n (fun q => by omega), cuR_n (fun q => by omega)]
      exact r3.1
    · show uL ((cuI Z 3 (b + 4) (upd (upd (Z.1 3 (b + 4)) 0 (Z.1 3 (b + 4) 0 + 1)) 2 (nI (S b - 1)))).1 3 1) ((cuR Z 4 (b + 4) (fRem (Z.2.1 4 (b + 4)) (S b) k)).2.1 4 1) _ _ _
      rw [cuI_n (fun q => by omega), cuR_n (fun q => by omega)]
      exact r3.2.1
    · show uL ((cuI Z 3 (b + 4) (upd (upd (Z.1 3 (b + 4)) 0 (Z.1 3 (b + 4) 0 + 1)) 2 (nI (S b - 1)))).1 3 2) ((cuR Z 4 (b + 4) (fRem (Z.2.1 4 (b + 4)) (S b) k)).2.1 4 2) _ _ _
      rw [cuI_n (fun q => by omega), cuR_n (fun q => by omega)]
      exact r3.2.2.1
    · show uL ((cuI Z 3 (b + 4) (upd (upd (Z.1 3 (b + 4)) 0 (Z.1 3 (b + 4) 0 + 1)) 2 (nI (S b - 1)))).1 3 3) ((cuR Z 4 (b + 4) (fRem (Z.2.1 4 (b + 4)) (S b) k)).2.1 4 3) _ _ _
      rw [cuI_n (fun q => by omega), cuR_n (fun q => by omega)]
      exact r3.2.2.2
    · show uL ((cuI Z 3 (b + 4) (upd (upd (Z.1 3 (b + 4)) 0 (Z.1 3 (b + 4) 0 + 1)) 2 (nI (S b - 1)))).1 3 (b' + 4)) ((cuR Z 4 (b + 4) (fRem (Z.2.1 4 (b + 4)) (S b) k)).2.1 4 (b' + 4)) _ _ _
      by_cases hbb : b' = b
      · subst hbb
        rw [cuI_s, cuR_s, vu_s]
        have hr := (r4 b' hb').rem hk (c3' := upd (upd (Z.1 3 (b' + 4)) 0 (Z.1 3 (b' + 4) 0 + 1)) 2 (nI (S b' - 1))) pk_us
        have eE2 : (fun j => if j < k then E b' j else E b' (j + 1)) = E' b' := by
          rw [← hE']
          funext j
          by_cases hkj : j < k
          · rw [if_pos hkj]
            exact (if_neg (fun q => by omega)).symm
          · rw [if_neg hkj]
            exact (if_pos ⟨rfl, by omega⟩).symm
        rw [eE2] at hr
        exact hr
      · rw [cuI_n (fun q => by omega), cuR_n (fun q => by omega), vu_n hbb, eE b' hbb]
        exact r4 b' hb'
    · obtain ⟨f1, f2, f3, f4, f5⟩ := r5.2.2 i' hi'
      show _ ∧ _ ∧ (M 11 i' = 0 ∨ M 11 i' = 1) ∧ _ = upd (M 13) i (nI b) i' ∧ (upd (M 13) i (nI b) i' ≠ -1 → _ = upd (M 14) i (M 1 0) i' / 30)
      by_cases ei : i' = i
      · subst ei
        rw [cuI_s, pk_us, pk_us]
        refine ⟨?_, ?_, f3, ?_, fun _ => by rw [pk_us]⟩
        · rw [pk_un (by omega), pk_un (by omega), pk_un (by omega)]
          exact f1
        · rw [pk_un (by omega), pk_un (by omega), pk_un (by omega)]
          exact f2
        · rw [pk_un (by omega), pk_us]
      · rw [cuI_n (fun q => ei q.2), cuI_n (fun q => ei q.2), cuI_n (fun q => ei q.2), pk_un ei, pk_un ei]
        exact ⟨f1, f2, f3, f4, f5⟩
    · show _ ∧ upd (M 15) b (nI (S b - 1)) b' = _
      by_cases hbb : b' = b
      · subst hbb
        rw [vu_s, pk_us]
        exact ⟨by omega, rfl⟩
      · rw [vu_n hbb, pk_un hbb]
        exact r7.1 b' hb'
    · obtain ⟨j', y1, y2, y3, y4, y5⟩ := cs b' j hb' hj
      obtain ⟨g1, g2, g3, g4⟩ := r7.2.1 b' j' hb' y1
      have hS' := (r7.1 b' hb').1
      rw [y3, y4]
      refine ⟨g1, g2, g3, ?_⟩
      show m16 (8 * b' + j) = _
      rw [z3, ← g4]
      rcases y5 with ⟨w1, w2, w3⟩ | ⟨w1, w2⟩
      · rw [w1] at y1 ⊢
        rw [if_pos (by omega), w3]
        rfl
      · rw [w2] at y1 ⊢
        rw [if_neg (fun q => w1 (by omega))]
    · obtain ⟨v1, y1, y2, y3, y4, y5⟩ := cs b' j hb' hj
      obtain ⟨v2, x1, x2, x3, x4, x5⟩ := cs b' j' hb' hj'
      rw [y4, x4] at e'
      have := r7.2.2.1 b' v1 v2 hb' y1 x1 e'
      omega
    · obtain ⟨v1, y1, y2, y3, y4, y5⟩ := cs b' j hb' hj
      obtain ⟨v2, x1, x2, x3, x4, x5⟩ := cs b'' j' hb'' hj'
      rw [y3, x3] at e'
      have := r7.2.2.2.1 b' v1 b'' v2 hb' y1 hb'' x1 e'
      omega
    · obtain ⟨g1, g2⟩ := r8 i' hi'
      have cb : ∀ b', b' < 4 → b' ≠ b → uin (va_up S b (S b - 1)) P' b' i' = uin S P b' i' := fun b' hb' hbb => uin_o ⟨fun q => by
        obtain ⟨j, j1, j2, j3⟩ := (Pk b' hb' i').mp q
        exact ⟨j, j1, j3⟩, fun ⟨j, j1, j2⟩ => (Pk b' hb' i').mpr ⟨j, j1, fun q => absurd q hbb, j2⟩⟩
      by_cases ei : i' = i
      · have hs : uin S P b i' = uin (va_up S b (S b - 1)) P' b i' + 1 := by
          rw [ei, u1, uin_0 (fun j hj ej => by
            obtain ⟨j', j1, j2, j3⟩ := (Pk b hb i).mp ⟨j, hj, ej⟩
            exact j2 rfl (r7.2.2.1 b j' k hb j1 hk (by rw [j3, e])))]
        have hc := ucnt_1 (S := va_up S b (S b - 1)) (P := P') (S' := S) (P' := P) hb (fun b' hb' hbb => (cb b' hb' hbb).symm) hs
        rw [ei] at hc ⊢
        rw [cuI_s, pk_un (by omega), pk_un (by omega), pk_us, hc, Nat.add_sub_cancel]
        rw [ei] at g2
        exact ⟨rfl, by omega⟩
      · have hs : uin (va_up S b (S b - 1)) P' b i' = uin S P b i' := uin_o ⟨fun q => by
          obtain ⟨j, j1, j2, j3⟩ := (Pk b hb i').mp q
          exact ⟨j, j1, j3⟩, fun ⟨j, j1, j2⟩ => (Pk b hb i').mpr ⟨j, j1, fun _ ejk => by
            rw [ejk, e] at j2
            exact ei j2.symm, j2⟩⟩
        have ho : ucnt (va_up S b (S b - 1)) P' i' = ucnt S P i' := ucnt_o (fun b' hb' => by
          by_cases hbb : b' = b
          · rw [hbb]
            exact hs
          · exact cb b' hb' hbb)
        rw [ho, cuI_n (fun q => ei q.2), cuI_n (fun q => ei q.2), cuI_n (fun q => ei q.2)]
        exact ⟨g1, g2⟩
    · obtain ⟨j', y1, y2, y3, y4, y5⟩ := cs b' j hb' hj
      have hS' := (r7.1 b' hb').1
      have g := r9 b' j' f hb' y1 hf
      show Z.1 14 (E' b' j) f = m19 (6 * (8 * b' + j) + f) ∧ (m19 (6 * (8 * b' + j) + f) = 0 ∨ m19 (6 * (8 * b' + j) + f) = 1 ∨ m19 (6 * (8 * b' + j) + f) = 2)
      have e19 : m19 (6 * (8 * b' + j) + f) = M 19 (6 * (8 * b' + j') + f) := by
        rw [z4]
        rcases y5 with ⟨w1, w2, w3⟩ | ⟨w1, w2⟩
        · rw [w1] at y1 ⊢
          rw [if_pos (by omega), w3, show 6 * (8 * b + j) + f + 6 = 6 * (8 * b + (j + 1)) + f by omega]
        · rw [w2] at y1 ⊢
          rw [if_neg (fun q => w1 (by omega))]
      rw [e19, y3]
      exact g
  refine ⟨_, _, _, _, _, H, rfl, fun k k0 k13 k14 k15 k16 k19 => by rw [vu_n k14, vu_n k13, vu_n k19, vu_n k16, vu_n k15, vu_n k0], vu_s, fun j => ?_, ec _ _ (c_seatOf_t h hi hb hk e) ?_⟩
  · show (if b = b ∧ k ≤ j then P b (j + 1) else P b j) = _
    by_cases q : k ≤ j
    · rw [if_pos ⟨rfl, q⟩, if_pos q]
    · rw [if_neg (fun z => q z.2), if_neg q]
  · rw [if_neg (nI_pos (by omega)), if_neg (nI_ge hk (by omega))]
    unfold fX6_leave_44
    rw [c_rs_1, cx1_l, cLv10 hb, gdt, cLv3 (by omega), gdt, hrem, cl2_s]
    have l9 : cLv (cuR (cuI Z 3 (b + 4) (upd (upd (Z.1 3 (b + 4)) 0 (Z.1 3 (b + 4) 0 + 1)) 2 (nI (S b - 1)))) 4 (b + 4) (fRem (Z.2.1 4 (b + 4)) (S b) k)).2.2 9 i = true := cLv9 hi
    have hcn : 1 ≤ ucnt S P i := by
      have : uin S P b i ≤ ucnt S P i := by
        unfold ucnt
        have : b = 0 ∨ b = 1 ∨ b = 2 ∨ b = 3 := by omega
        rcases this with rfl | rfl | rfl | rfl <;> omega
      omega
    rw [l9, gdt]
    show bnd (cuI (cuR (cuI Z 3 (b + 4) (upd (upd (Z.1 3 (b + 4)) 0 (Z.1 3 (b + 4) 0 + 1)) 2 (nI (S b - 1)))) 4 (b + 4) (fRem (Z.2.1 4 (b + 4)) (S b) k)) 9 i (upd (Z.1 9 i) 3 (Z.1 9 i 3 - 1))) _ = _
    rw [f8.1, u_s1 hcn, bnd_e, cuI_s, bnd_e]
    unfold fX6_seasonNow
    rw [cl1_s, cuI_s]
    show bnd (cuI (cuI (cuI (cuR (cuI Z 3 (b + 4) (upd (upd (Z.1 3 (b + 4)) 0 (Z.1 3 (b + 4) 0 + 1)) 2 (nI (S b - 1)))) 4 (b + 4) (fRem (Z.2.1 4 (b + 4)) (S b) k)) 9 i (upd (Z.1 9 i) 3 (nI (ucnt S P i - 1)))) 9 i (upd (upd (Z.1 9 i) 3 (nI (ucnt S P i - 1))) 4 (nI b))) 9 i (upd (upd (upd (Z.1 9 i) 3 (nI (ucnt S P i - 1))) 4 (nI b)) 5 (Z.1 0 0 6 / 30))) _ = _
    rw [show Z.1 0 0 6 = M 1 0 from h.1.2.1, bnd_e]
    have hs := H.ls4 hb
    have l10 : ∀ Z' : CZ, cLv Z'.2.2 10 b = true := fun _ => cLv10 hb
    rw [l10, gdt, cLv3 (by omega), gdt, hs.size (by omega), cl1_s, show (va_up S b (S b - 1)) b = S b - 1 from vu_s]
theorem k_perform (hn : n < 512) (h : uRR n Z M S C E P) {b k : Nat} (hb : b < 4) (k1 : 1 ≤ k) (k30 : k ≤ 30) : ((M 22 b = 1 ∨ ¬ urdy M P (S b) b (C b / 4) (-1)) ∧ ∃ Z', uRR n Z' M S C E P ∧ Z'.2 = Z.2 ∧ fX6_perform (nI b) (nI k) Z = some (.inr 3, Z')) ∨ (M 22 b = 0 ∧ urdy M P (S b) b (C b / 4) (-1) ∧ ∃ (Z' : CZ) (M' : MT) (u : Nat), u ≤ 8 ∧ uRR n Z' M' S C E P ∧ Z'.2 = Z.2 ∧ (∀ k, k ≠ 22 → k ≠ 23 → k ≠ 24 → M' k = M k) ∧ M' 22 = upd (M 22) b 1 ∧ M' 23 = upd (M 23) b (nI (uval M P (S b) b (C b / 4) (-1) + 10 * u)) ∧ M' 24 = upd (M 24) b (if nI k ≤ (10 : Int32) then 0 else (2 : Int32) * nI k - 20) ∧ fX6_perform (nI b) (nI k) Z = some (.inl (nI (uval M P (S b) b (C b / 4) (-1) + 10 * u)), Z')) := by
  have hS := (h.nS hb).1
  have hC := (h.nC hb).1
  have hr9 := rr_t (b := 1) (c := 30) k1 k30 (by omega)
  have ec : ∀ r, (if Z.1 10 b 5 = (-1 : Int32) then fX6_perform_26 (nI k) b 1 Z else fX6_perform_26 (nI k) b 0 Z) = r → fX6_perform (nI b) (nI k) Z = r := fun r hr => by
    unfold fX6_perform
    rw [h.bandAt hb, cx1_l, c_rr_t (b := 1) (c := 30) hr9.1 hr9.2, cx1_l, cLv10 hb, gdt]
    exact hr
  rcases (h.2.2.2.2.2.2.2.2.2.2.1 b hb).2.2 with ⟨p1, p2, p3⟩ | ⟨p1, p2, hd, p3, p4⟩
  · obtain ⟨Z', z1, z2⟩ := c_findBest (out := -1) h hb
    have ec2 : ∀ w r, fX2_findBest b (-1) Z = some (w, Z') → (if w = (-1 : Int32) then fX6_perform_51 (nI k) b w 0 Z' else fX6_perform_51 (nI k) b w 1 Z') = r → fX6_perform (nI b) (nI k) Z = r := fun w r hw hr => ec r (by
      rw [p2, if_pos (by decide)]
      unfold fX6_perform_26
      rw [c_rs_1, cx1_l, hw, cl2_s]
      exact hr)
    rcases z2 with ⟨y1, y2, y3⟩ | ⟨y1, y2⟩
    · have hv := uval_le h hb y1
      have h10 : uRR n Z' M S C E P := z1.uRR h
      obtain ⟨e5, _, ⟨hh, h15, hm⟩, _⟩ := h10.1
      have hchc : ∀ q, q < C b / 4 → Z'.1 16 0 q = nI (uch M P (S b) b (C b / 4) (-1) q) ∧ uch M P (S b) b (C b / 4) (-1) q < 8 := fun q hq => ⟨y3 q hq, by have := uch_lt h hb y1 hq; omega⟩
      have cu := c_untuned hn h10 hb h15 hchc (S b) 0 100 (by omega) (by omega)
      have hu8 := ucu_le (Z := Z') (M := M) (P := P) (b := b) (hh := hh) (ph := C b / 4) (ch := uch M P (S b) b (C b / 4) (-1)) (S b)
      obtain ⟨u, hu⟩ : ∃ u, u = ucu Z' (M) P b hh (uch M P (S b) b (C b / 4) (-1)) (C b / 4) (S b) := ⟨_, rfl⟩
      rw [← hu] at cu hu8
      have cu' : fX2_countUntuned b (Z'.1 0 0 5) Z' = some (nI u) := by
        rw [e5, hm]
        exact cu
      obtain ⟨al, hal⟩ : ∃ al, al = uval M P (S b) b (C b / 4) (-1) + 10 * u := ⟨_, rfl⟩
      have H : uRR n (cuI (cuI Z' 10 b (upd (Z'.1 10 b) 5 (nI al))) 10 b (upd (upd (Z'.1 10 b) 5 (nI al)) 6 (if nI k ≤ (10 : Int32) then 0 else (2 : Int32) * nI k - 20))) (va_up (va_up (va_up M 22 (upd (M 22) b 1)) 23 (upd (M 23) b (nI al))) 24 (upd (M 24) b (if nI k ≤ (10 : Int32) then 0 else (2 : Int32) * nI k - 20))) S C E P := by
        obtain ⟨r1, r2, r3, r4, r5, r6, r7, r8, r9, r10, r11, r12⟩ := h10
        refine ⟨r1, r2, r3, r4, r5, r6, r7, r8, r9, fun b' hb' => ?_, fun b' hb' => ?_, r12⟩
        · obtain ⟨t1, t2, t3, t4⟩ := r10 b' hb'
          refine ⟨t1, t2, ?_, t4⟩
          by_cases hbb : b' = b
          · subst hbb
            rw [cuI_s, pk_un (by omega), pk_un (by omega)]
            exact t3
          · rw [cuI_n (fun q => hbb q.2), cuI_n (fun q => hbb q.2)]
            exact t3
        · obtain ⟨t1, t2, t3⟩ := r11 b' hb'
          show (cuI (cuI Z' 10 b (upd (Z'.1 10 b) 5 (nI al))) 10 b (upd (upd (Z'.1 10 b) 5 (nI al)) 6 (if nI k ≤ (10 : Int32) then 0 else (2 : Int32) * nI k - 20))).1 10 b' 4 = M 21 b' ∧ (cuI (cuI Z' 10 b (upd (Z'.1 10 b) 5 (nI al))) 10 b (upd (upd (Z'.1 10 b) 5 (nI al)) 6 (if nI k ≤ (10 : Int32) then 0 else (2 : Int32) * nI k - 20))).1 10 b' 6 = upd (M 24) b (if nI k ≤ (10 : Int32) then 0 else (2 : Int32) * nI k - 20) b' ∧ (upd (M 22) b 1 b' = 0 ∧ (cuI (cuI Z' 10 b (upd (Z'.1 10 b) 5 (nI al))) 10 b (upd (upd (Z'.1 10 b) 5 (nI al)) 6 (if nI k ≤ (10 : Int32) then 0 else (2 : Int32) * nI k - 20))).1 10 b' 5 = -1 ∧ M 25 b' = 0 ∨ upd (M 22) b 1 b' = 1 ∧ (cuI (cuI Z' 10 b (upd (Z'.1 10 b) 5 (nI al))) 10 b (upd (upd (Z'.1 10 b) 5 (nI al)) 6 (if nI k ≤ (10 : Int32) then 0 else (2 : Int32) * nI k - 20))).1 10 b' 5 = upd (M 23) b (nI al) b' ∧ ∃ h, h < 1000 ∧ upd (M 23) b (nI al) b' = nI h)
          by_cases hbb : b' = b
          · subst hbb
            rw [cuI_s, pk_us, pk_us, pk_us, pk_us, pk_un (by omega), pk_un (by omega), pk_un (by omega), pk_us]
            exact ⟨t1, rfl, Or.inr ⟨rfl, rfl, al, by omega, rfl⟩⟩
          · rw [cuI_n (fun q => hbb q.2), cuI_n (fun q => hbb q.2), pk_un hbb, pk_un hbb, pk_un hbb]
            exact ⟨t1, t2, t3⟩
      refine Or.inr ⟨p1, y1, _, _, u, Nat.le_trans hu8 hS, H, z1.1, fun k k22 k23 k24 => by rw [vu_n k24, vu_n k23, vu_n k22], by rw [vu_n (by omega), vu_n (by omega), vu_s], by rw [vu_n (by omega), vu_s, hal], vu_s, ?_⟩
      rw [← hal]
      refine ec2 _ _ y2 ?_
      rw [if_neg (by rw [nIm1 (by omega)]; exact id)]
      unfold fX6_perform_51
      rw [c_rs_1, cx1_l, cu', cl1_s, cLv10 hb, gdt, show (10 : Int32) * nI u = nI (10 * u) from pk_mul 10 u, nI_add, ← hal, bnd_e, u_over k30, bnd_e, cuI_s, cuI_s, pk_un (by omega), pk_us]
    · exact Or.inl ⟨Or.inr y1, Z', z1.uRR h, z1.1, ec2 _ _ y2 (by rw [if_pos (by decide)]; rfl)⟩
  · exact Or.inl ⟨Or.inl p1, Z, h, rfl, ec _ (by rw [p2, p4, if_neg (by rw [nIm1 (by omega)]; exact id)]; rfl)⟩
end URX9
