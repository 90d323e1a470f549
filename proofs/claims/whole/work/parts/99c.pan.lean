/-! PURE PART. pan. -/
section URPN
variable {n : Nat} {Z : CZ} {M : MT} {S C : Nat → Nat} {E P : Nat → Nat → Nat}
theorem zP_k {i k : Nat} {num : Int32} (h5 : k ≠ 5) (h6 : k ≠ 6) (h7 : k ≠ 7) (h8 : k ≠ 8) : (zPan Z i num).1 k = Z.1 k := funext fun j => by
  by_cases hj : j = i
  · exact (if_pos hj).trans ((if_neg h5).trans (if_neg (fun q => by
      rcases q with q | q | q
      · exact h6 q
      · exact h7 q
      · exact h8 q)))
  · exact if_neg hj
theorem zP_n {i j k : Nat} {num : Int32} (h : j ≠ i) : (zPan Z i num).1 k j = Z.1 k j := if_neg h
/-- a new pan with its tones, ahead of its being added -/
def zPt (Z : CZ) (i : Nat) (v1 v2 v3 v4 : Int32) : CZ := cuI (cuI (cuI (cuI (zPan Z i (nI i)) 6 i (upd (fun _ => 0) 0 v1)) 6 i (upd (upd (fun _ => 0) 0 v1) 1 v2)) 6 i (upd (upd (upd (fun _ => 0) 0 v1) 1 v2) 2 v3)) 6 i (upd (upd (upd (upd (fun _ => 0) 0 v1) 1 v2) 2 v3) 3 v4)
theorem zT_k {i k : Nat} {v1 v2 v3 v4 : Int32} (h : k ≠ 6) : (zPt Z i v1 v2 v3 v4).1 k = (zPan Z i (nI i)).1 k := funext fun j => by
  unfold zPt
  rw [cuI_n (fun q => h q.1), cuI_n (fun q => h q.1), cuI_n (fun q => h q.1), cuI_n (fun q => h q.1)]
theorem zT_6s {i : Nat} {v1 v2 v3 v4 : Int32} : (zPt Z i v1 v2 v3 v4).1 6 i = upd (upd (upd (upd (fun _ => 0) 0 v1) 1 v2) 2 v3) 3 v4 := cuI_s
theorem zT_6n {i j : Nat} {v1 v2 v3 v4 : Int32} (h : j ≠ i) : (zPt Z i v1 v2 v3 v4).1 6 j = Z.1 6 j := by
  unfold zPt
  rw [cuI_n (fun q => h q.2), cuI_n (fun q => h q.2), cuI_n (fun q => h q.2), cuI_n (fun q => h q.2), zP_n h]
theorem gd40 {α : Type} {x : Option α} : gd (gin 0 4) x = x := gdn (k := 0) (n := 4) (by omega) (by omega)
theorem gd41 {α : Type} {x : Option α} : gd (gin 1 4) x = x := gdn (k := 1) (n := 4) (by omega) (by omega)
theorem gd42 {α : Type} {x : Option α} : gd (gin 2 4) x = x := gdn (k := 2) (n := 4) (by omega) (by omega)
theorem gd43 {α : Type} {x : Option α} : gd (gin 3 4) x = x := gdn (k := 3) (n := 4) (by omega) (by omega)
theorem rg60 {a : Int32} (h1 : ¬ a < -60) (h2 : ¬ 60 < a) : -60 ≤ a.toInt ∧ a.toInt ≤ 60 := by
  rw [i_lt, show ((-60 : Int32)).toInt = -60 from by decide] at h1
  rw [i_lt, show ((60 : Int32)).toInt = 60 from by decide] at h2
  omega
theorem m_pan_f {a1 a2 a3 a4 : Int32} (hf : (a1 < -60 ∨ 60 < a1) ∨ (a2 < -60 ∨ 60 < a2) ∨ (a3 < -60 ∨ 60 < a3) ∨ (a4 < -60 ∨ 60 < a4)) : fX7_pan a1 a2 a3 a4 M = some (0, va_up M 0 (fun _ => 1)) ∧ fX6_pan a1 a2 a3 a4 Z = some (.inr 2, Z) := by
  have e49 : fX7_pan_49 a1 a2 a3 a4 M = some (0, va_up M 0 (fun _ => 1)) := rfl
  unfold fX7_pan fX6_pan
  rcases rg_or a1 (-60) 60 with ⟨h1, h2⟩ | h
  · rw [m_isIn_t h1 h2, cl1_s, if_neg (by decide), c_rr_t h1 h2, cx1_l]
    rcases rg_or a2 (-60) 60 with ⟨h3, h4⟩ | h
    · rw [m_isIn_t h3 h4, cl1_s, if_neg (by decide), c_rr_t h3 h4, cx1_l]
      rcases rg_or a3 (-60) 60 with ⟨h5, h6⟩ | h
      · rw [m_isIn_t h5 h6, cl1_s, if_neg (by decide), c_rr_t h5 h6, cx1_l]
        have h : a4 < -60 ∨ 60 < a4 := by
          rcases hf with q | q | q | q
          · exact absurd q (fun z => z.elim h1 h2)
          · exact absurd q (fun z => z.elim h3 h4)
          · exact absurd q (fun z => z.elim h5 h6)
          · exact q
        rw [m_isIn_f h, cl1_s, if_pos (by decide), c_rr_f h, cx1_r]
        exact ⟨e49, rfl⟩
      · rw [m_isIn_f h, cl1_s, if_pos (by decide), c_rr_f h, cx1_r]
        exact ⟨e49, rfl⟩
    · rw [m_isIn_f h, cl1_s, if_pos (by decide), c_rr_f h, cx1_r]
      exact ⟨e49, rfl⟩
  · rw [m_isIn_f h, cl1_s, if_pos (by decide), c_rr_f h, cx1_r]
    exact ⟨e49, rfl⟩
theorem ok_pan : st_pan (uR n) (uR (n + 1)) := by
  rintro Z M ⟨S, C, E, P, h⟩ a1 a2 a3 a4
  have hnp := h.np
  rcases rg_or a1 (-60) 60 with ⟨h1, h2⟩ | hf
  · rcases rg_or a2 (-60) 60 with ⟨h3, h4⟩ | hf
    · rcases rg_or a3 (-60) 60 with ⟨h5, h6⟩ | hf
      · rcases rg_or a4 (-60) 60 with ⟨h7, h8⟩ | hf
        · have b1 := rg60 h1 h2
          have b2 := rg60 h3 h4
          have b3 := rg60 h5 h6
          have b4 := rg60 h7 h8
          have ec : ∀ r, (if (6 : Int32) ≤ nI (Z.2.2 0) then fX6_pan_50 a1 a2 a3 a4 0 Z else fX6_pan_50 a1 a2 a3 a4 1 Z) = r → fX6_pan a1 a2 a3 a4 Z = r := fun r hr => by
            unfold fX6_pan
            rw [c_rr_t h1 h2, cx1_l, c_rr_t h3 h4, cx1_l, c_rr_t h5 h6, cx1_l, c_rr_t h7 h8, cx1_l, h.ls0.size (by omega), cl1_s]
            exact hr
          have em : ∀ r, fX7_pan_50 a1 a2 a3 a4 1 M = r → fX7_pan a1 a2 a3 a4 M = r := fun r hr => by
            unfold fX7_pan
            rw [m_isIn_t h1 h2, cl1_s, if_neg (by decide), m_isIn_t h3 h4, cl1_s, if_neg (by decide), m_isIn_t h5 h6, cl1_s, if_neg (by decide), m_isIn_t h7 h8, cl1_s, if_neg (by decide)]
            exact hr
          by_cases hc : Z.2.2 0 = 6
          · refine sI_err (cd := 3) (j := 1) ⟨S, C, E, P, h⟩ (em _ ?_) (ec _ ?_) rfl rfl
            · unfold fX7_pan_50
              rw [if_neg (by decide), hnp.2, hc, if_pos (by decide)]
              rfl
            · rw [hc, if_pos (by decide)]
              rfl
          · have hR := h.crl
            have c0p : ∀ num, (zPan Z (Z.2.2 0) num).2.2 0 = Z.2.2 0 + 1 := fun num => by
              show va_up Z.2.2 0 (Z.2.2 0 + 1) 0 = _
              exact vu_s
            have hR1 : cRL (zPt Z (Z.2.2 0) a1 a2 a3 a4) := by
              refine ⟨fun l j q hl hq => ?_, fun p q hp hq => ?_, hR.2.2⟩
              · have hq' : Z.2.1 4 l j = some q := hq
                have hl' := hR.1 l j q hl hq'
                have w5 : cLv Z.2.2 5 q = true → cLv (zPt Z (Z.2.2 0) a1 a2 a3 a4).2.2 5 q = true := fun z => by
                  have z' : (decide (q < Z.2.2 0) || (decide (6 ≤ q) && decide (q < 9))) = true := z
                  simp only [Bool.or_eq_true, Bool.and_eq_true, decide_eq_true_eq] at z'
                  rcases z' with z' | z'
                  · exact cLv5 (show q < va_up Z.2.2 0 (Z.2.2 0 + 1) 0 by rw [vu_s]; omega)
                  · exact cLv5t z'.1 z'.2
                match l, hl, hl' with
                | 0, _, hl' => exact w5 hl'
                | 1, _, hl' => exact hl'
                | 2, _, hl' => exact hl'
                | 3, _, hl' => exact w5 hl'
                | l + 4, _, hl' => exact hl'
              · have := hR.2.1 p q hp hq
                have := (h.2.2.2.2.2.1.1 p (of_decide_eq_true hp)).2 q hq
                exact cLv5 (show q < va_up Z.2.2 0 (Z.2.2 0 + 1) 0 by rw [vu_s]; omega)
            have hls0 : uLs (zPt Z (Z.2.2 0) a1 a2 a3 a4) 0 (Z.2.2 0) id := by
              have h0 := h.ls0
              unfold uLs
              rw [zT_k (by omega), zP_k (by omega) (by omega) (by omega) (by omega)]
              exact h0
            have hok : okAdd (zPt Z (Z.2.2 0) a1 a2 a3 a4) 0 (Z.2.2 0) := okA hls0 (by omega) (by omega) hR1 (cLv5 (show Z.2.2 0 < va_up Z.2.2 0 (Z.2.2 0 + 1) 0 by rw [vu_s]; omega))
            have hadd : uLs (zAdd (zPt Z (Z.2.2 0) a1 a2 a3 a4) 0 (Z.2.2 0)) 0 (Z.2.2 0 + 1) id := hls0.add (by omega) (fun _ _ => rfl) rfl
            have c0 : (zAdd (zPt Z (Z.2.2 0) a1 a2 a3 a4) 0 (Z.2.2 0)).2.2 0 = Z.2.2 0 + 1 := by
              rw [zA_c (by omega)]
              exact c0p (nI (Z.2.2 0))
            have cn : ∀ k, k ≠ 0 → k ≠ 10 → (zAdd (zPt Z (Z.2.2 0) a1 a2 a3 a4) 0 (Z.2.2 0)).2.2 k = Z.2.2 k := fun k k1 k2 => by
              rw [zA_c (by omega)]
              show va_up Z.2.2 0 (Z.2.2 0 + 1) k = _
              exact vu_n k1
            have nk : ∀ k, k ≠ 3 → k ≠ 5 → k ≠ 6 → k ≠ 7 → k ≠ 8 → (zAdd (zPt Z (Z.2.2 0) a1 a2 a3 a4) 0 (Z.2.2 0)).1 k = Z.1 k := fun k k1 k2 k3 k4 k5 => by rw [zA_1 k1, zT_k k3, zP_k k2 k3 k4 k5]
            have nn : ∀ k i, k ≠ 3 → i ≠ Z.2.2 0 → (zAdd (zPt Z (Z.2.2 0) a1 a2 a3 a4) 0 (Z.2.2 0)).1 k i = Z.1 k i := fun k i k1 hi => by
              rw [zA_1 k1]
              by_cases k6 : k = 6
              · rw [k6, zT_6n hi]
              · rw [zT_k k6, zP_n hi]
            have n5 : (zAdd (zPt Z (Z.2.2 0) a1 a2 a3 a4) 0 (Z.2.2 0)).1 5 (Z.2.2 0) = upd (fun _ => 0) 0 (nI (Z.2.2 0)) := by
              rw [zA_1 (by omega), zT_k (by omega)]
              show (if Z.2.2 0 = Z.2.2 0 then _ else _) = _
              rw [if_pos rfl]
              rfl
            have n6 : (zAdd (zPt Z (Z.2.2 0) a1 a2 a3 a4) 0 (Z.2.2 0)).1 6 (Z.2.2 0) = upd (upd (upd (upd (fun _ => 0) 0 a1) 1 a2) 2 a3) 3 a4 := by
              rw [zA_1 (by omega), zT_6s]
            have n78 : ∀ k, k = 7 ∨ k = 8 → (zAdd (zPt Z (Z.2.2 0) a1 a2 a3 a4) 0 (Z.2.2 0)).1 k (Z.2.2 0) = fun _ => 0 := fun k hk => by
              rw [zA_1 (by omega), zT_k (by omega)]
              show (if Z.2.2 0 = Z.2.2 0 then (if k = 5 then _ else if k = 6 ∨ k = 7 ∨ k = 8 then _ else Z.1 k (Z.2.2 0)) else _) = _
              rw [if_pos rfl, if_neg (by omega), if_pos (by omega)]
            have hlsn : ∀ l k e, l ≠ 0 → uLs Z l k e → uL ((zAdd (zPt Z (Z.2.2 0) a1 a2 a3 a4) 0 (Z.2.2 0)).1 3 l) ((zAdd (zPt Z (Z.2.2 0) a1 a2 a3 a4) 0 (Z.2.2 0)).2.1 4 l) ((zAdd (zPt Z (Z.2.2 0) a1 a2 a3 a4) 0 (Z.2.2 0)).2.2 (10 + l)) k e := fun l k e hl hu => by
              have hu' : uLs (zPt Z (Z.2.2 0) a1 a2 a3 a4) l k e := by
                unfold uLs
                rw [zT_k (by omega), zP_k (by omega) (by omega) (by omega) (by omega), show (zPt Z (Z.2.2 0) a1 a2 a3 a4).2.2 (10 + l) = Z.2.2 (10 + l) from (show va_up Z.2.2 0 (Z.2.2 0 + 1) (10 + l) = _ from vu_n (by omega))]
                exact hu
              exact hu'.addn hl
            have mt : ∀ j, (upd (upd (upd (upd (M 4) (4 * Z.2.2 0) a1) (4 * Z.2.2 0 + 1) a2) (4 * Z.2.2 0 + 2) a3) (4 * Z.2.2 0 + 3) a4) j = if j = 4 * Z.2.2 0 then a1 else if j = 4 * Z.2.2 0 + 1 then a2 else if j = 4 * Z.2.2 0 + 2 then a3 else if j = 4 * Z.2.2 0 + 3 then a4 else M 4 j := fun j => by
              unfold upd
              repeat' split
              all_goals first | rfl | omega
            have H : uRR n (zAdd (zPt Z (Z.2.2 0) a1 a2 a3 a4) 0 (Z.2.2 0)) (va_up (va_up (va_up (va_up (va_up (va_up M 0 (fun _ => 0)) 4 (upd (M 4) (4 * Z.2.2 0) a1)) 4 (upd (upd (M 4) (4 * Z.2.2 0) a1) (4 * Z.2.2 0 + 1) a2)) 4 (upd (upd (upd (M 4) (4 * Z.2.2 0) a1) (4 * Z.2.2 0 + 1) a2) (4 * Z.2.2 0 + 2) a3)) 4 (upd (upd (upd (upd (M 4) (4 * Z.2.2 0) a1) (4 * Z.2.2 0 + 1) a2) (4 * Z.2.2 0 + 2) a3) (4 * Z.2.2 0 + 3) a4)) 3 (fun _ => nI (Z.2.2 0 + 1))) S C E P := by
              obtain ⟨r1, r2, r3, r4, r5, r6, r7, r8, r9, r10, r11, r12⟩ := h
              unfold uRR
              rw [nk 0 (by omega) (by omega) (by omega) (by omega) (by omega), nk 9 (by omega) (by omega) (by omega) (by omega) (by omega), nk 14 (by omega) (by omega) (by omega) (by omega) (by omega), nk 10 (by omega) (by omega) (by omega) (by omega) (by omega), nk 11 (by omega) (by omega) (by omega) (by omega) (by omega), nk 12 (by omega) (by omega) (by omega) (by omega) (by omega), cn 1 (by omega) (by omega), cn 2 (by omega) (by omega), c0]
              refine ⟨r1, ⟨by omega, rfl, fun i hi => ?_, fun i f hi hf => ?_, fun j hj1 hj2 => ?_⟩, ⟨hadd, hlsn 1 _ _ (by omega) r3.2.1, hlsn 2 _ _ (by omega) r3.2.2.1, hlsn 3 _ _ (by omega) r3.2.2.2⟩, fun b hb => hlsn (b + 4) _ _ (by omega) (r4 b hb), r5, ⟨fun i hi => ?_, r6.2.1, fun q hq => ?_⟩, r7, r8, r9, r10, r11, r12⟩
              · by_cases ei : i = Z.2.2 0
                · rw [ei, n5, pk_us]
                · rw [nn 5 i (by omega) ei]
                  exact r2.2.2.1 i (by omega)
              · show _ = (upd (upd (upd (upd (M 4) (4 * Z.2.2 0) a1) (4 * Z.2.2 0 + 1) a2) (4 * Z.2.2 0 + 2) a3) (4 * Z.2.2 0 + 3) a4) (4 * i + f) ∧ _ = M 5 (4 * i + f) ∧ _ = M 6 (4 * i + f) ∧ (-(60 + 24 * (n : Int)) ≤ ((upd (upd (upd (upd (M 4) (4 * Z.2.2 0) a1) (4 * Z.2.2 0 + 1) a2) (4 * Z.2.2 0 + 2) a3) (4 * Z.2.2 0 + 3) a4) (4 * i + f)).toInt ∧ ((upd (upd (upd (upd (M 4) (4 * Z.2.2 0) a1) (4 * Z.2.2 0 + 1) a2) (4 * Z.2.2 0 + 2) a3) (4 * Z.2.2 0 + 3) a4) (4 * i + f)).toInt ≤ 60 + 24 * (n : Int)) ∧ (∃ c, c ≤ 7 ∧ M 5 (4 * i + f) = nI c) ∧ (M 6 (4 * i + f) = 0 ∨ M 6 (4 * i + f) = 1)
                rw [mt]
                by_cases ei : i = Z.2.2 0
                · rw [ei] at *
                  obtain ⟨z1, z2⟩ := r2.2.2.2.2 (4 * Z.2.2 0 + f) (by omega) (by omega)
                  rw [n6, n78 7 (Or.inl rfl), n78 8 (Or.inr rfl), z1, z2]
                  refine ⟨?_, rfl, rfl, ?_, ⟨0, by omega, rfl⟩, Or.inl rfl⟩
                  · have : f = 0 ∨ f = 1 ∨ f = 2 ∨ f = 3 := by omega
                    rcases this with rfl | rfl | rfl | rfl
                    · rw [if_pos (by omega)]
                      rfl
                    · rw [if_neg (by omega), if_pos rfl]
                      rfl
                    · rw [if_neg (by omega), if_neg (by omega), if_pos rfl]
                      rfl
                    · rw [if_neg (by omega), if_neg (by omega), if_neg (by omega), if_pos rfl]
                      rfl
                  · split
                    · omega
                    · split
                      · omega
                      · split
                        · omega
                        · split
                          · omega
                          · omega
                · rw [if_neg (by omega), if_neg (by omega), if_neg (by omega), if_neg (by omega), nn 6 i (by omega) ei, nn 7 i (by omega) ei, nn 8 i (by omega) ei]
                  exact r2.2.2.2.1 i f (by omega) hf
              · exact r2.2.2.2.2 j (by omega) hj2
              · obtain ⟨g1, g2⟩ := r6.1 i hi
                exact ⟨g1, fun q hq => by have := g2 q hq; omega⟩
              · by_cases eq : q = Z.2.2 0
                · refine Or.inr ⟨?_, fun i hi z => ?_⟩
                  · rw [eq, n5, pk_un (by omega)]
                  · have := (r6.1 i hi).2 q z
                    omega
                · rw [nn 5 q (by omega) eq]
                  exact r6.2.2 q (by omega)
            refine ⟨nI (Z.2.2 0), _, _, em _ ?_, ⟨S, C, E, P, H.up⟩, Or.inl ⟨ec _ ?_, rfl⟩⟩
            · unfold fX7_pan_50
              rw [if_neg (by decide), hnp.2, if_neg (show ¬ (nI (Z.2.2 0) = (6 : Int32)) from fun q => hc ((nI_eq (b := 6) (by omega) (by omega)).mp q))]
              unfold fX7_pan_76
              rw [m_holds_0, cl2_s, if_neg (by decide)]
              show gd (gin (4 * M 3 0) 24) (bnd (va_up (va_up M 0 (fun _ => 0)) 4 (upd (M 4) (4 * M 3 0).toNatClampNeg a1)) (fun M13 => gd (gin (4 * M13 3 0 + 1) 24) (bnd (va_up M13 4 (upd (M13 4) (4 * M13 3 0 + 1).toNatClampNeg a2)) (fun M15 => gd (gin (4 * M15 3 0 + 2) 24) (bnd (va_up M15 4 (upd (M15 4) (4 * M15 3 0 + 2).toNatClampNeg a3)) (fun M17 => gd (gin (4 * M17 3 0 + 3) 24) (bnd (va_up M17 4 (upd (M17 4) (4 * M17 3 0 + 3).toNatClampNeg a4)) (fun M19 => bnd (va_up M19 3 (fun _ => M19 3 0 + 1)) (fun M20 => some (M20 3 0 - 1, M20)))))))))) = _
              rw [hnp.2, u_l4, gdn (by omega) (by omega), nIc (by omega), bnd_e]
              show gd (gin (4 * M 3 0 + 1) 24) (bnd (va_up (va_up (va_up M 0 (fun _ => 0)) 4 (upd (M 4) (4 * Z.2.2 0) a1)) 4 (upd (upd (M 4) (4 * Z.2.2 0) a1) (4 * M 3 0 + 1).toNatClampNeg a2)) (fun M15 => gd (gin (4 * M15 3 0 + 2) 24) (bnd (va_up M15 4 (upd (M15 4) (4 * M15 3 0 + 2).toNatClampNeg a3)) (fun M17 => gd (gin (4 * M17 3 0 + 3) 24) (bnd (va_up M17 4 (upd (M17 4) (4 * M17 3 0 + 3).toNatClampNeg a4)) (fun M19 => bnd (va_up M19 3 (fun _ => M19 3 0 + 1)) (fun M20 => some (M20 3 0 - 1, M20)))))))) = _
              rw [hnp.2, u_l4, u_a1, gdn (by omega) (by omega), nIc (by omega), bnd_e]
              show gd (gin (4 * M 3 0 + 2) 24) (bnd (va_up (va_up (va_up (va_up M 0 (fun _ => 0)) 4 (upd (M 4) (4 * Z.2.2 0) a1)) 4 (upd (upd (M 4) (4 * Z.2.2 0) a1) (4 * Z.2.2 0 + 1) a2)) 4 (upd (upd (upd (M 4) (4 * Z.2.2 0) a1) (4 * Z.2.2 0 + 1) a2) (4 * M 3 0 + 2).toNatClampNeg a3)) (fun M17 => gd (gin (4 * M17 3 0 + 3) 24) (bnd (va_up M17 4 (upd (M17 4) (4 * M17 3 0 + 3).toNatClampNeg a4)) (fun M19 => bnd (va_up M19 3 (fun _ => M19 3 0 + 1)) (fun M20 => some (M20 3 0 - 1, M20)))))) = _
              rw [hnp.2, u_l4, u_a2, gdn (by omega) (by omega), nIc (by omega), bnd_e]
              show gd (gin (4 * M 3 0 + 3) 24) (bnd (va_up (va_up (va_up (va_up (va_up M 0 (fun _ => 0)) 4 (upd (M 4) (4 * Z.2.2 0) a1)) 4 (upd (upd (M 4) (4 * Z.2.2 0) a1) (4 * Z.2.2 0 + 1) a2)) 4 (upd (upd (upd (M 4) (4 * Z.2.2 0) a1) (4 * Z.2.2 0 + 1) a2) (4 * Z.2.2 0 + 2) a3)) 4 (upd (upd (upd (upd (M 4) (4 * Z.2.2 0) a1) (4 * Z.2.2 0 + 1) a2) (4 * Z.2.2 0 + 2) a3) (4 * M 3 0 + 3).toNatClampNeg a4)) (fun M19 => bnd (va_up M19 3 (fun _ => M19 3 0 + 1)) (fun M20 => some (M20 3 0 - 1, M20)))) = _
              rw [hnp.2, u_l4, u_a3, gdn (by omega) (by omega), nIc (by omega), bnd_e]
              rw [bnd_e]
              show some (M 3 0 + 1 - 1, va_up (va_up (va_up (va_up (va_up (va_up M 0 (fun _ => 0)) 4 (upd (M 4) (4 * Z.2.2 0) a1)) 4 (upd (upd (M 4) (4 * Z.2.2 0) a1) (4 * Z.2.2 0 + 1) a2)) 4 (upd (upd (upd (M 4) (4 * Z.2.2 0) a1) (4 * Z.2.2 0 + 1) a2) (4 * Z.2.2 0 + 2) a3)) 4 (upd (upd (upd (upd (M 4) (4 * Z.2.2 0) a1) (4 * Z.2.2 0 + 1) a2) (4 * Z.2.2 0 + 2) a3) (4 * Z.2.2 0 + 3) a4)) 3 (fun _ => M 3 0 + 1)) = _
              rw [hnp.2, u_a1, nI_pred]
            · rw [if_neg (show ¬ ((6 : Int32) ≤ nI (Z.2.2 0)) from nI_ge (b := 6) (by omega) (by omega))]
              unfold fX6_pan_50
              rw [c_rs_1, cx1_l, gp_t hR, bnd_e, gp_t (show Z.2.2 0 < 6 by omega), h.ls0.size (by omega), cl1_s, bnd_e]
              have l5 : ∀ Z' : CZ, Z'.2.2 0 = Z.2.2 0 + 1 → cLv Z'.2.2 5 (Z.2.2 0) = true := fun Z' e => cLv5 (by rw [e]; omega)
              have z6 : (zPan Z (Z.2.2 0) (nI (Z.2.2 0))).1 6 (Z.2.2 0) = fun _ => 0 := by
                show (if Z.2.2 0 = Z.2.2 0 then _ else _) = _
                rw [if_pos rfl]
                rfl
              rw [l5 _ (c0p _), gdt, z6, gd40]
              show (bnd (cuI (zPan Z (Z.2.2 0) (nI (Z.2.2 0))) 6 (Z.2.2 0) (upd (fun _ => 0) 0 a1)) _) = _
              rw [bnd_e, cuI_s, gd41]
              show (bnd (cuI (cuI (zPan Z (Z.2.2 0) (nI (Z.2.2 0))) 6 (Z.2.2 0) (upd (fun _ => 0) 0 a1)) 6 (Z.2.2 0) (upd (upd (fun _ => 0) 0 a1) 1 a2)) _) = _
              rw [bnd_e, cuI_s, gd42]
              show (bnd (cuI (cuI (cuI (zPan Z (Z.2.2 0) (nI (Z.2.2 0))) 6 (Z.2.2 0) (upd (fun _ => 0) 0 a1)) 6 (Z.2.2 0) (upd (upd (fun _ => 0) 0 a1) 1 a2)) 6 (Z.2.2 0) (upd (upd (upd (fun _ => 0) 0 a1) 1 a2) 2 a3)) _) = _
              rw [bnd_e, cuI_s, gd43]
              show (bnd (zPt Z (Z.2.2 0) a1 a2 a3 a4) _) = _
              rw [bnd_e, gp_t hok, bnd_e, l5 _ c0, gdt, n5]
              rfl
        · obtain ⟨e1, e2⟩ := m_pan_f (M := M) (Z := Z) (a1 := a1) (a2 := a2) (a3 := a3) (a4 := a4) (Or.inr (Or.inr (Or.inr hf)))
          exact sI_err (cd := 2) (j := 0) ⟨S, C, E, P, h⟩ e1 e2 rfl rfl
      · obtain ⟨e1, e2⟩ := m_pan_f (M := M) (Z := Z) (a1 := a1) (a2 := a2) (a3 := a3) (a4 := a4) (Or.inr (Or.inr (Or.inl hf)))
        exact sI_err (cd := 2) (j := 0) ⟨S, C, E, P, h⟩ e1 e2 rfl rfl
    · obtain ⟨e1, e2⟩ := m_pan_f (M := M) (Z := Z) (a1 := a1) (a2 := a2) (a3 := a3) (a4 := a4) (Or.inr (Or.inl hf))
      exact sI_err (cd := 2) (j := 0) ⟨S, C, E, P, h⟩ e1 e2 rfl rfl
  · obtain ⟨e1, e2⟩ := m_pan_f (M := M) (Z := Z) (a1 := a1) (a2 := a2) (a3 := a3) (a4 := a4) (Or.inl hf)
    exact sI_err (cd := 2) (j := 0) ⟨S, C, E, P, h⟩ e1 e2 rfl rfl
end URPN
