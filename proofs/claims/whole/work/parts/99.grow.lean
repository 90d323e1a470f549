/-! PURE PART. Lists that grow; player, pan. -/
section URG
variable {n : Nat} {Z : CZ} {M : MT} {S C : Nat → Nat} {E P : Nat → Nat → Nat}
theorem zA_3s {lx v : Nat} : (zAdd Z lx v).1 3 lx = upd (upd (Z.1 3 lx) 0 (Z.1 3 lx 0 + 1)) 2 (nI ((Z.1 3 lx 2).toNatClampNeg + 1)) := if_pos ⟨rfl, rfl⟩
theorem zA_3n {lx v l : Nat} (h : l ≠ lx) : (zAdd Z lx v).1 3 l = Z.1 3 l := if_neg (fun q => h q.2)
theorem zA_4s {lx v : Nat} : (zAdd Z lx v).2.1 4 lx = va_up (if (Z.1 3 lx 2).toNatClampNeg < Z.2.2 (10 + lx) then Z.2.1 4 lx else va_cpy (Z.2.1 4 lx) (fun _ => none) 0 0 (Z.1 3 lx 2).toNatClampNeg) (Z.1 3 lx 2).toNatClampNeg (some v) := if_pos ⟨rfl, rfl⟩
theorem zA_4n {lx v l : Nat} (h : l ≠ lx) : (zAdd Z lx v).2.1 4 l = Z.2.1 4 l := if_neg (fun q => h q.2)
theorem zA_1 {lx v k : Nat} (h : k ≠ 3) : (zAdd Z lx v).1 k = Z.1 k := funext fun i => if_neg (fun q => h q.1)
theorem zA_2 {lx v k : Nat} (h : k ≠ 4) : (zAdd Z lx v).2.1 k = Z.2.1 k := funext fun i => if_neg (fun q => h q.1)
theorem zA_c {lx v k : Nat} (h : k ≠ 10 + lx) : (zAdd Z lx v).2.2 k = Z.2.2 k := vu_n h
theorem zA_cs {lx v : Nat} : (zAdd Z lx v).2.2 (10 + lx) = lCap (Z.1 3 lx 2).toNatClampNeg (Z.2.2 (10 + lx)) := vu_s
theorem uLs.addn {l lx v k : Nat} {e : Nat → Nat} (h : uLs Z l k e) (hl : l ≠ lx) : uLs (zAdd Z lx v) l k e := by
  unfold uLs
  rw [zA_3n hl, zA_4n hl, zA_c (by omega)]
  exact h
theorem uLs.add {lx v k : Nat} {e e' : Nat → Nat} (h : uLs Z lx k e) (hk : k < 16) (he : ∀ j, j < k → e' j = e j) (he2 : e' k = v) : uLs (zAdd Z lx v) lx (k + 1) e' := by
  obtain ⟨h1, h2, h3, h4⟩ := h
  have hc : (Z.1 3 lx 2).toNatClampNeg = k := by
    rw [h1]
    exact nIc (by omega)
  refine ⟨?_, ?_, fun j hj => ?_, fun j hj => ?_⟩
  · rw [zA_3s, hc, pk_us]
  · rw [zA_cs, hc]
    unfold lCap
    rcases h2 with ⟨q1, q2⟩ | ⟨q1, q2⟩ | ⟨q1, q2⟩ | ⟨q1, q2⟩
    · rw [q1, if_neg (by omega), if_pos (by decide)]
      omega
    · rw [q1]
      by_cases hh : k < 10
      · rw [if_pos hh]
        omega
      · rw [if_neg hh, if_neg (by omega)]
        omega
    · rw [q1]
      by_cases hh : k < 15
      · rw [if_pos hh]
        omega
      · rw [if_neg hh, if_neg (by omega)]
        omega
    · rw [q1]
      by_cases hh : k < 22
      · rw [if_pos hh]
        omega
      · omega
  · rw [zA_4s, hc]
    by_cases hjk : j = k
    · subst hjk
      rw [vu_s, he2]
    · rw [vu_n hjk, he j (by omega)]
      by_cases hcap : k < Z.2.2 (10 + lx)
      · rw [if_pos hcap]
        exact h3 j (by omega)
      · rw [if_neg hcap, pk_cpy_in (by omega) (by omega), Nat.sub_zero, Nat.zero_add]
        exact h3 j (by omega)
  · rw [zA_4s, hc, vu_n (by omega)]
    by_cases hcap : k < Z.2.2 (10 + lx)
    · rw [if_pos hcap]
      exact h4 j (by omega)
    · rw [if_neg hcap, pk_cpy_out (by omega)]
theorem okA {lx v k : Nat} {e : Nat → Nat} (h : uLs Z lx k e) (hk : k < 16) (hl : lx < 8) (hR : cRL Z) (hv : cLv Z.2.2 (cEk lx) v = true) : okAdd Z lx v := by
  obtain ⟨h1, h2, h3, h4⟩ := h
  have hc : (Z.1 3 lx 2).toNatClampNeg = k := by
    rw [h1]
    exact nIc (by omega)
  refine ⟨hl, by rw [hc]; exact h1, ?_, hR, hv⟩
  rw [hc]
  rcases h2 with ⟨q1, q2⟩ | ⟨q1, q2⟩ | ⟨q1, q2⟩ | ⟨q1, q2⟩
  · exact Or.inr (Or.inl ⟨q2, q1⟩)
  · by_cases hh : k < 10
    · exact Or.inl ⟨by omega, by omega⟩
    · exact Or.inr (Or.inr ⟨by omega, by omega, by omega⟩)
  · by_cases hh : k < 15
    · exact Or.inl ⟨by omega, by omega⟩
    · exact Or.inr (Or.inr ⟨by omega, by omega, by omega⟩)
  · exact Or.inl ⟨by omega, by omega⟩
theorem uRR.crl (h : uRR n Z M S C E P) : cRL Z := by
  obtain ⟨r1, r2, r3, r4, r5, r6, r7, r⟩ := h
  refine ⟨fun l j q hl hq => ?_, fun p q hp hq => ?_, fun j p hj hp => ?_⟩
  · have hx : ∀ (k : Nat) (e : Nat → Nat), uL (Z.1 3 l) (Z.2.1 4 l) (Z.2.2 (10 + l)) k e → j < k ∧ q = e j := fun k e hu => by
      by_cases hjk : j < k
      · rw [hu.2.2.1 j hjk] at hq
        cases hq
        exact ⟨hjk, rfl⟩
      · rw [hu.2.2.2 j (by omega)] at hq
        cases hq
    have hl8 : l = 0 ∨ l = 1 ∨ l = 2 ∨ l = 3 ∨ ∃ b, b < 4 ∧ l = b + 4 := by
      by_cases hb : l < 4
      · omega
      · exact Or.inr (Or.inr (Or.inr (Or.inr ⟨l - 4, by omega, by omega⟩)))
    rcases hl8 with rfl | rfl | rfl | rfl | ⟨b, hb, rfl⟩
    · obtain ⟨g1, g2⟩ := hx _ _ r3.1
      exact cLv5 (by rw [g2]; exact g1)
    · obtain ⟨g1, g2⟩ := hx _ _ r3.2.1
      exact cLv9 (by rw [g2]; exact g1)
    · obtain ⟨g1, g2⟩ := hx _ _ r3.2.2.1
      exact cLv10 (by rw [g2]; exact g1)
    · obtain ⟨g1, g2⟩ := hx _ _ r3.2.2.2
      exact cLv5t (by omega) (by omega)
    · obtain ⟨g1, g2⟩ := hx _ _ (r4 b hb)
      have : cEk (b + 4) = 13 := rfl
      rw [this, g2]
      exact cLv13 (r7.2.1 b j hb g1).1
  · exact cLv5 ((r6.1 p (of_decide_eq_true hp)).2 q hq)
  · exact cLv9 (r7.2.2.2.2 j p (of_decide_eq_true hj) hp)
theorem uin_no {b i : Nat} (h : ∀ k, k < S b → P b k < i) : uin S P b i = 0 := uin_0 (fun k hk e => by
  have := h k hk
  omega)
theorem ok_player : st_player (uR n) (uR (n + 1)) := by
  rintro Z M ⟨S, C, E, P, h⟩ a1
  have hnl := h.nl
  rcases rg_or a1 0 1 with ⟨h1, h2⟩ | hf
  · obtain ⟨v, _, hv, rfl⟩ := rg_nI (b := 0) (c := 1) (by omega) (by omega) h1 h2
    have ec : ∀ r, (if (16 : Int32) ≤ nI (Z.2.2 1) then fX6_player_23 (nI v) 0 Z else fX6_player_23 (nI v) 1 Z) = r → fX6_player (nI v) Z = r := fun r hr => by
      unfold fX6_player
      rw [c_rr_t h1 h2, cx1_l, h.ls1.size (by omega), cl1_s]
      exact hr
    by_cases hc : Z.2.2 1 = 16
    · refine sI_err (j := 1) ⟨S, C, E, P, h⟩ ?_ (ec (some (.inr 3, Z)) ?_) rfl rfl
      · unfold fX7_player
        rw [m_isIn_t h1 h2, cl1_s, if_neg (by decide), hnl.2, hc, if_pos (by decide)]
        rfl
      · rw [hc, if_pos (by decide)]
        rfl
    · have hR := h.crl
      have hR1 : cRL (zPlayer Z (Z.2.2 1) (nI (Z.2.2 1)) (nI v)) := by
        refine ⟨fun l j q hl hq => ?_, fun p q hp hq => ?_, fun j p hj hp => ?_⟩
        · have hq' : Z.2.1 4 l j = some q := hq
          have hl' := hR.1 l j q hl hq'
          match l, hl, hl' with
          | 0, _, hl' => exact hl'
          | 1, _, hl' =>
            have : q < Z.2.2 1 := of_decide_eq_true hl'
            exact cLv9 (show q < va_up Z.2.2 1 (Z.2.2 1 + 1) 1 by rw [vu_s]; omega)
          | 2, _, hl' => exact hl'
          | 3, _, hl' => exact hl'
          | l + 4, _, hl' => exact hl'
        · have hp' : p < va_up Z.2.2 1 (Z.2.2 1 + 1) 1 := of_decide_eq_true hp
          rw [vu_s] at hp'
          by_cases e : p = Z.2.2 1
          · subst e
            have : (zPlayer Z (Z.2.2 1) (nI (Z.2.2 1)) (nI v)).2.1 9 (Z.2.2 1) 2 = none := by
              show (if 9 = 9 ∧ Z.2.2 1 = Z.2.2 1 then fun _ => none else Z.2.1 9 (Z.2.2 1)) 2 = none
              rw [if_pos ⟨rfl, rfl⟩]
            rw [this] at hq
            cases hq
          · have : (zPlayer Z (Z.2.2 1) (nI (Z.2.2 1)) (nI v)).2.1 9 p 2 = Z.2.1 9 p 2 := by
              show (if 9 = 9 ∧ p = Z.2.2 1 then fun _ => none else Z.2.1 9 p) 2 = _
              rw [if_neg (fun z => e z.2)]
            rw [this] at hq
            exact hR.2.1 p q (cLv9 (by omega)) hq
        · have := hR.2.2 j p hj hp
          have : p < Z.2.2 1 := of_decide_eq_true this
          exact cLv9 (show p < va_up Z.2.2 1 (Z.2.2 1 + 1) 1 by rw [vu_s]; omega)
      have hls1 : uLs (zPlayer Z (Z.2.2 1) (nI (Z.2.2 1)) (nI v)) 1 (Z.2.2 1) id := h.ls1
      have hok : okAdd (zPlayer Z (Z.2.2 1) (nI (Z.2.2 1)) (nI v)) 1 (Z.2.2 1) := okA hls1 (by omega) (by omega) hR1 (cLv9 (show Z.2.2 1 < va_up Z.2.2 1 (Z.2.2 1 + 1) 1 by rw [vu_s]; omega))
      have hadd : uLs (zAdd (zPlayer Z (Z.2.2 1) (nI (Z.2.2 1)) (nI v)) 1 (Z.2.2 1)) 1 (Z.2.2 1 + 1) id := hls1.add (by omega) (fun _ _ => rfl) rfl
      have n9s : (zAdd (zPlayer Z (Z.2.2 1) (nI (Z.2.2 1)) (nI v)) 1 (Z.2.2 1)).1 9 (Z.2.2 1) = upd (upd (upd (fun _ => 0) 0 (nI (Z.2.2 1))) 1 (nI v)) 4 (-1) := by
        rw [zA_1 (by omega)]
        exact if_pos ⟨rfl, rfl⟩
      have n9n : ∀ i, i ≠ Z.2.2 1 → (zAdd (zPlayer Z (Z.2.2 1) (nI (Z.2.2 1)) (nI v)) 1 (Z.2.2 1)).1 9 i = Z.1 9 i := fun i hi => by
        rw [zA_1 (by omega)]
        exact if_neg (fun q => hi q.2)
      have q9s : (zAdd (zPlayer Z (Z.2.2 1) (nI (Z.2.2 1)) (nI v)) 1 (Z.2.2 1)).2.1 9 (Z.2.2 1) = fun _ => none := by
        rw [zA_2 (by omega)]
        exact if_pos ⟨rfl, rfl⟩
      have q9n : ∀ i, i ≠ Z.2.2 1 → (zAdd (zPlayer Z (Z.2.2 1) (nI (Z.2.2 1)) (nI v)) 1 (Z.2.2 1)).2.1 9 i = Z.2.1 9 i := fun i hi => by
        rw [zA_2 (by omega)]
        exact if_neg (fun q => hi q.2)
      have c1 : (zAdd (zPlayer Z (Z.2.2 1) (nI (Z.2.2 1)) (nI v)) 1 (Z.2.2 1)).2.2 1 = Z.2.2 1 + 1 := by
        rw [zA_c (by omega)]
        show va_up Z.2.2 1 (Z.2.2 1 + 1) 1 = _
        exact vu_s
      have H : uRR n (zAdd (zPlayer Z (Z.2.2 1) (nI (Z.2.2 1)) (nI v)) 1 (Z.2.2 1)) (va_up (va_up (va_up (va_up (va_up (va_up M 0 (fun _ => 0)) 11 (upd (M 11) (Z.2.2 1) (nI v))) 12 (upd (M 12) (Z.2.2 1) (-1))) 13 (upd (M 13) (Z.2.2 1) (-1))) 14 (upd (M 14) (Z.2.2 1) (-1))) 10 (fun _ => nI (Z.2.2 1 + 1))) S C E P := by
        obtain ⟨r1, r2, r3, r4, r5, r6, r7, r8, r9, r10, r11⟩ := h
        refine ⟨r1, r2, ⟨?_, ?_, ?_, ?_⟩, fun b hb => ?_, ⟨by rw [c1]; omega, by rw [c1]; rfl, fun i hi => ?_⟩, ⟨fun i hi => ?_, fun i i' q hi hi' e e' => ?_, fun q hq => ?_⟩, ⟨r7.1, fun b k hb hk => ?_, r7.2.2.1, r7.2.2.2.1, fun j p hj hp => ?_⟩, fun i hi => ?_, r9, r10, r11⟩
        · exact (show uLs (zPlayer Z (Z.2.2 1) (nI (Z.2.2 1)) (nI v)) 0 (Z.2.2 0) id from r3.1).addn (by omega)
        · rw [c1]
          exact hadd
        · exact (show uLs (zPlayer Z (Z.2.2 1) (nI (Z.2.2 1)) (nI v)) 2 4 id from r3.2.2.1).addn (by omega)
        · exact (show uLs (zPlayer Z (Z.2.2 1) (nI (Z.2.2 1)) (nI v)) 3 3 (fun t => 6 + t) from r3.2.2.2).addn (by omega)
        · have hu : uLs (zPlayer Z (Z.2.2 1) (nI (Z.2.2 1)) (nI v)) (b + 4) (S b) (E b) := by
            have hb' := r4 b hb
            unfold uLs
            rw [show (zPlayer Z (Z.2.2 1) (nI (Z.2.2 1)) (nI v)).2.2 (10 + (b + 4)) = Z.2.2 (10 + (b + 4)) from (show va_up Z.2.2 1 (Z.2.2 1 + 1) (10 + (b + 4)) = _ from vu_n (by omega))]
            exact hb'
          exact hu.addn (by omega)
        · rw [c1] at hi
          show _ ∧ _ = upd (M 11) (Z.2.2 1) (nI v) i ∧ (upd (M 11) (Z.2.2 1) (nI v) i = 0 ∨ upd (M 11) (Z.2.2 1) (nI v) i = 1) ∧ _ = upd (M 13) (Z.2.2 1) (-1) i ∧ (upd (M 13) (Z.2.2 1) (-1) i ≠ -1 → _ = upd (M 14) (Z.2.2 1) (-1) i / 30)
          by_cases e : i = Z.2.2 1
          · subst e
            rw [n9s, pk_us, pk_us, pk_us]
            refine ⟨rfl, rfl, ?_, rfl, fun q => absurd rfl q⟩
            have : v = 0 ∨ v = 1 := by omega
            rcases this with rfl | rfl
            · exact Or.inl rfl
            · exact Or.inr rfl
          · rw [n9n i e, pk_un e, pk_un e, pk_un e]
            exact r5.2.2 i (by omega)
        · rw [c1] at hi
          show upd (M 12) (Z.2.2 1) (-1) i = oi _ ∧ ∀ q, _ → q < Z.2.2 0
          by_cases e : i = Z.2.2 1
          · subst e
            rw [q9s, pk_us]
            exact ⟨rfl, fun q z => by cases z⟩
          · rw [q9n i e, pk_un e]
            exact r6.1 i (by omega)
        · rw [c1] at hi hi'
          have w : ∀ i, (zAdd (zPlayer Z (Z.2.2 1) (nI (Z.2.2 1)) (nI v)) 1 (Z.2.2 1)).2.1 9 i 2 = some q → i ≠ Z.2.2 1 := fun i z y => by
            subst y
            rw [q9s] at z
            cases z
          have e1 := w i e
          have e2 := w i' e'
          rw [q9n i e1] at e
          rw [q9n i' e2] at e'
          exact r6.2.1 i i' q (by omega) (by omega) e e'
        · rcases r6.2.2 q hq with ⟨x1, i, x2, x3⟩ | ⟨x1, x2⟩
          · refine Or.inl ⟨x1, i, by rw [c1]; omega, ?_⟩
            rw [q9n i (by omega)]
            exact x3
          · refine Or.inr ⟨x1, fun i hi => ?_⟩
            rw [c1] at hi
            by_cases e : i = Z.2.2 1
            · subst e
              rw [q9s]
              exact fun z => by cases z
            · rw [q9n i e]
              exact x2 i (by omega)
        · obtain ⟨g1, g2, g3, g4⟩ := r7.2.1 b k hb hk
          exact ⟨g1, by rw [c1]; omega, g3, g4⟩
        · have := r7.2.2.2.2 j p hj hp
          rw [c1]
          omega
        · rw [c1] at hi
          by_cases e : i = Z.2.2 1
          · subst e
            have z : ∀ b, b < 4 → uin S P b (Z.2.2 1) = 0 := fun b hb => uin_no (fun k hk => (r7.2.1 b k hb hk).2.1)
            have z2 : ucnt S P (Z.2.2 1) = 0 := by
              unfold ucnt
              rw [z 0 (by omega), z 1 (by omega), z 2 (by omega), z 3 (by omega)]
            rw [n9s, z2]
            exact ⟨rfl, by omega⟩
          · rw [n9n i e]
            exact r8 i (by omega)
      refine ⟨nI (Z.2.2 1), _, _, ?_, ⟨S, C, E, P, H.up⟩, Or.inl ⟨ec _ ?_, rfl⟩⟩
      · unfold fX7_player
        rw [m_isIn_t h1 h2, cl1_s, if_neg (by decide), hnl.2, if_neg (show ¬ (nI (Z.2.2 1) = (16 : Int32)) from fun q => hc ((nI_eq (b := 16) (by omega) (by omega)).mp q))]
        unfold fX7_player_28
        rw [m_holds_0, cl2_s, if_neg (by decide)]
        show gd (gin (M 10 0) 16) (bnd (va_up (va_up M 0 (fun _ => 0)) 11 (upd (M 11) (M 10 0).toNatClampNeg (nI v))) (fun M7 => gd (gin (M7 10 0) 16) (bnd (va_up M7 12 (upd (M7 12) (M7 10 0).toNatClampNeg (-1))) (fun M9 => gd (gin (M9 10 0) 16) (bnd (va_up M9 13 (upd (M9 13) (M9 10 0).toNatClampNeg (-1))) (fun M11 => gd (gin (M11 10 0) 16) (bnd (va_up M11 14 (upd (M11 14) (M11 10 0).toNatClampNeg (-1))) (fun M13 => bnd (va_up M13 10 (fun _ => M13 10 0 + 1)) (fun M14 => some (M14 10 0 - 1, M14)))))))))) = _
        rw [hnl.2, gdn (by omega) (by omega), nIc (by omega), bnd_e]
        show gd (gin (M 10 0) 16) (bnd (va_up (va_up (va_up M 0 (fun _ => 0)) 11 (upd (M 11) (Z.2.2 1) (nI v))) 12 (upd (M 12) (M 10 0).toNatClampNeg (-1))) (fun M9 => gd (gin (M9 10 0) 16) (bnd (va_up M9 13 (upd (M9 13) (M9 10 0).toNatClampNeg (-1))) (fun M11 => gd (gin (M11 10 0) 16) (bnd (va_up M11 14 (upd (M11 14) (M11 10 0).toNatClampNeg (-1))) (fun M13 => bnd (va_up M13 10 (fun _ => M13 10 0 + 1)) (fun M14 => some (M14 10 0 - 1, M14)))))))) = _
        rw [hnl.2, gdn (by omega) (by omega), nIc (by omega), bnd_e]
        show gd (gin (M 10 0) 16) (bnd (va_up (va_up (va_up (va_up M 0 (fun _ => 0)) 11 (upd (M 11) (Z.2.2 1) (nI v))) 12 (upd (M 12) (Z.2.2 1) (-1))) 13 (upd (M 13) (M 10 0).toNatClampNeg (-1))) (fun M11 => gd (gin (M11 10 0) 16) (bnd (va_up M11 14 (upd (M11 14) (M11 10 0).toNatClampNeg (-1))) (fun M13 => bnd (va_up M13 10 (fun _ => M13 10 0 + 1)) (fun M14 => some (M14 10 0 - 1, M14)))))) = _
        rw [hnl.2, gdn (by omega) (by omega), nIc (by omega), bnd_e]
        show gd (gin (M 10 0) 16) (bnd (va_up (va_up (va_up (va_up (va_up M 0 (fun _ => 0)) 11 (upd (M 11) (Z.2.2 1) (nI v))) 12 (upd (M 12) (Z.2.2 1) (-1))) 13 (upd (M 13) (Z.2.2 1) (-1))) 14 (upd (M 14) (M 10 0).toNatClampNeg (-1))) (fun M13 => bnd (va_up M13 10 (fun _ => M13 10 0 + 1)) (fun M14 => some (M14 10 0 - 1, M14)))) = _
        rw [hnl.2, gdn (by omega) (by omega), nIc (by omega), bnd_e]
        show some (M 10 0 + 1 - 1, va_up (va_up (va_up (va_up (va_up (va_up M 0 (fun _ => 0)) 11 (upd (M 11) (Z.2.2 1) (nI v))) 12 (upd (M 12) (Z.2.2 1) (-1))) 13 (upd (M 13) (Z.2.2 1) (-1))) 14 (upd (M 14) (Z.2.2 1) (-1))) 10 (fun _ => M 10 0 + 1)) = _
        rw [hnl.2, u_a1, nI_pred]
      · rw [if_neg (show ¬ ((16 : Int32) ≤ nI (Z.2.2 1)) from nI_ge (b := 16) (by omega) (by omega))]
        unfold fX6_player_23
        rw [c_rs_1, cx1_l, gp_t hR, bnd_e, h.ls1.size (by omega), cl1_s, bnd_e, gp_t hok, bnd_e]
        have l9 : cLv (zAdd (zPlayer Z (Z.2.2 1) (nI (Z.2.2 1)) (nI v)) 1 (Z.2.2 1)).2.2 9 (Z.2.2 1) = true := cLv9 (by rw [c1]; omega)
        rw [l9, gdt, n9s]
        rfl
  · refine sI_err (cd := 2) (j := 0) ⟨S, C, E, P, h⟩ ?_ ?_ rfl rfl
    · unfold fX7_player
      rw [m_isIn_f hf]
      rfl
    · unfold fX6_player
      rw [c_rr_f hf]
      rfl
end URG
