/-- what is referred to is there -/
def cRL (Z : CZ) : Prop := (∀ l j q : Nat, l < 8 → Z.2.1 4 l j = some q → cLv Z.2.2 (cEk l) q = true) ∧ (∀ p q : Nat, cLv Z.2.2 9 p = true → Z.2.1 9 p 2 = some q → cLv Z.2.2 5 q = true) ∧ ∀ j p : Nat, cLv Z.2.2 13 j = true → Z.2.1 13 j 0 = some p → cLv Z.2.2 9 p = true
theorem opt_map_c {o : Option Nat} {f g : Nat → Nat} (h : ∀ q, o = some q → f q = g q) : o.map f = o.map g := by
  cases o with
  | none => rfl
  | some q => show some (f q) = some (g q); rw [h q rfl]
theorem cLv_lt {n : Nat → Nat} {i : Nat} (h : cLv n 4 i = true) : i < 8 := by
  have h2 : (decide (i < 8) && decide (0 < n (10 + i))) = true := h
  simp only [Bool.and_eq_true, decide_eq_true_eq] at h2
  exact h2.1
theorem cS_ad {ad ad' : Nat → Nat → Nat} {G : CGT} {Z : CZ} (hag : ∀ k i, cLv Z.2.2 k i = true → ad' k i = ad k i) (hR : cRL Z) : ∀ k i, cLv Z.2.2 k i = true → cS ad' G Z k i = cS ad G Z k i := by
  intro k i hl
  match k, hl with
  | 0, hl =>
    show Sum.inr (7, [Value.ref (ad' 3 0), .ref (ad' 3 1), .ref (ad' 3 2), .ref (ad' 1 0), .ref (ad' 2 0), .int (Z.1 0 i 5), .int (Z.1 0 i 6)]) = _
    rw [hag 3 0 rfl, hag 3 1 rfl, hag 3 2 rfl, hag 1 0 rfl, hag 2 0 rfl]
    rfl
  | 1, hl =>
    show Sum.inr (4, [Value.ref (ad' 15 0), .ref (ad' 3 3)]) = _
    rw [hag 15 0 rfl, hag 3 3 rfl]
    rfl
  | 2, hl =>
    show Sum.inr (3, [Value.ref (ad' 16 0), .ref (ad' 17 0)]) = _
    rw [hag 16 0 rfl, hag 17 0 rfl]
    rfl
  | 3, hl =>
    show Sum.inr (0, [Value.int (Z.1 3 i 0), .ref (if Z.2.2 (10 + i) = 0 then G.2.2.2.2 else ad' 4 i), .int (Z.1 3 i 2)]) = Sum.inr (0, [Value.int (Z.1 3 i 0), .ref (if Z.2.2 (10 + i) = 0 then G.2.2.2.2 else ad 4 i), .int (Z.1 3 i 2)])
    by_cases c : Z.2.2 (10 + i) = 0
    · rw [if_pos c, if_pos c]
    · rw [if_neg c, if_neg c, hag 4 i (by
        have h3 : decide (i < 8) = true := hl
        show (decide (i < 8) && decide (0 < Z.2.2 (10 + i))) = true
        rw [h3, decide_eq_true (Nat.pos_of_ne_zero c)]
        rfl)]
  | 4, hl =>
    show (Sum.inl (G.2.2.1, Z.2.2 (10 + i), .inr (.inr (.inr (.inr (fun j => (Z.2.1 4 i j).map (ad' (cEk i))))))) : va_E) = Sum.inl (G.2.2.1, Z.2.2 (10 + i), .inr (.inr (.inr (.inr (fun j => (Z.2.1 4 i j).map (ad (cEk i)))))))
    have e : (fun j => (Z.2.1 4 i j).map (ad' (cEk i))) = fun j => (Z.2.1 4 i j).map (ad (cEk i)) := funext fun j => opt_map_c fun q hq => hag _ _ (hR.1 i j q (cLv_lt hl) hq)
    rw [e]
  | 5, hl =>
    show Sum.inr (2, [Value.int (Z.1 5 i 0), .ref (ad' 6 i), .ref (ad' 7 i), .ref (ad' 8 i), .int (Z.1 5 i 4)]) = _
    rw [hag 6 i hl, hag 7 i hl, hag 8 i hl]
    rfl
  | 6, _ => rfl
  | 7, _ => rfl
  | 8, _ => rfl
  | 9, hl =>
    show Sum.inr (5, [Value.int (Z.1 9 i 0), .int (Z.1 9 i 1), va_rf ((Z.2.1 9 i 2).map (ad' 5)), .int (Z.1 9 i 3), .int (Z.1 9 i 4), .int (Z.1 9 i 5)]) = _
    rw [opt_map_c fun q hq => hag _ _ (hR.2.1 i q hl hq)]
    rfl
  | 10, hl =>
    have h4 : i < 4 := of_decide_eq_true (show decide (i < 4) = true from hl)
    show Sum.inr (1, [Value.ref (ad' 3 (i + 4)), .ref (ad' 11 i), .ref (ad' 12 i), .int (Z.1 10 i 3), .int (Z.1 10 i 4), .int (Z.1 10 i 5), .int (Z.1 10 i 6)]) = _
    rw [hag 3 (i + 4) (decide_eq_true (by omega)), hag 11 i hl, hag 12 i hl]
    rfl
  | 11, _ => rfl
  | 12, _ => rfl
  | 13, hl =>
    show Sum.inr (6, [va_rf ((Z.2.1 13 i 0).map (ad' 9)), .ref (ad' 14 i)]) = _
    rw [opt_map_c fun q hq => hag _ _ (hR.2.2 i q hl hq), hag 14 i hl]
    rfl
  | 14, _ => rfl
  | 15, _ => rfl
  | 16, _ => rfl
  | 17, hl =>
    show (Sum.inl (G.2.2.2.1, 6, .inr (.inr (.inr (.inr (fun j => if j < 6 then some (ad' 18 j) else none))))) : va_E) = Sum.inl (G.2.2.2.1, 6, .inr (.inr (.inr (.inr (fun j => if j < 6 then some (ad 18 j) else none)))))
    have e : (fun j => if j < 6 then some (ad' 18 j) else none) = fun j => if j < 6 then some (ad 18 j) else none := funext fun j => by
      by_cases c : j < 6
      · rw [if_pos c, if_pos c, hag 18 j (decide_eq_true c)]
      · rw [if_neg c, if_neg c]
    rw [e]
  | 18, _ => rfl
  | k + 19, hl => cases hl
theorem cN_add {D : va_G} {G : CGT} {A : Nat → Prop} {ad ad' : Nat → Nat → Nat} {Z Z' : CZ} {H : Heap} {sz : Nat} (hI : cI A ad Z.2.2) (hN : cN D G ad Z H) (hlt : ∀ k i, cLv Z.2.2 k i = true → ad k i < sz) (hold : ∀ k i, cLv Z.2.2 k i = true → ad' k i = ad k i ∧ cS ad' G Z' k i = cS ad G Z k i) (hnew : ∀ k i, cLv Z'.2.2 k i = true → ¬ cLv Z.2.2 k i = true → va_at D vwCl (ad' k i, cS ad' G Z' k i) H ∧ A (ad' k i) ∧ sz ≤ ad' k i)
    (hinj : ∀ k i k' i', cLv Z'.2.2 k i = true → ¬ cLv Z.2.2 k i = true → cLv Z'.2.2 k' i' = true → ¬ cLv Z.2.2 k' i' = true → ad' k i = ad' k' i' → k = k' ∧ i = i') : cI A ad' Z'.2.2 ∧ cN D G ad' Z' H := by
  refine ⟨⟨fun k i k' i' h h' e => ?_, fun k i h => ?_⟩, fun k i h => ?_⟩
  · by_cases c : cLv Z.2.2 k i = true
    · by_cases c' : cLv Z.2.2 k' i' = true
      · exact hI.1 k i k' i' c c' (by rw [← (hold k i c).1, ← (hold k' i' c').1]; exact e)
      · have h1 := hlt k i c
        have h2 := (hnew k' i' h' c').2.2
        rw [← (hold k i c).1] at h1
        omega
    · by_cases c' : cLv Z.2.2 k' i' = true
      · have h1 := hlt k' i' c'
        have h2 := (hnew k i h c).2.2
        rw [← (hold k' i' c').1] at h1
        omega
      · exact hinj k i k' i' h c h' c' e
  · by_cases c : cLv Z.2.2 k i = true
    · show A (ad' k i)
      rw [(hold k i c).1]
      exact hI.2 k i c
    · exact (hnew k i h c).2.1
  · have h : cLv Z'.2.2 k i = true := h
    by_cases c : cLv Z.2.2 k i = true
    · show va_at D vwCl (ad' k i, cS ad' G Z' k i) H
      rw [(hold k i c).1, (hold k i c).2]
      exact hN k i c
    · exact (hnew k i h c).1
def adU (ad : Nat → Nat → Nat) (k i q : Nat) : Nat → Nat → Nat := fun k' i' => if k' = k ∧ i' = i then q else ad k' i'
theorem adU_s {ad : Nat → Nat → Nat} {k i q : Nat} : adU ad k i q k i = q := if_pos ⟨rfl, rfl⟩
theorem adU_n {ad : Nat → Nat → Nat} {k i q k' i' : Nat} (h : ¬ (k' = k ∧ i' = i)) : adU ad k i q k' i' = ad k' i' := if_neg h
theorem cN_lt {D : va_G} {G : CGT} {ad : Nat → Nat → Nat} {Z : CZ} {H : Heap} (hN : cN D G ad Z H) : ∀ k i, cLv Z.2.2 k i = true → ad k i < H.size := fun k i h => (hN k i h).lt
/-- one pan more (a pan's number i is the next one) -/
def zPan (Z : CZ) (i : Nat) (num : Int32) : CZ := (fun k' i' => if i' = i then (if k' = 5 then upd (fun _ => 0) 0 num else if k' = 6 ∨ k' = 7 ∨ k' = 8 then fun _ => 0 else Z.1 k' i') else Z.1 k' i', Z.2.1, va_up Z.2.2 0 (i + 1))
theorem zPan_lv {Z : CZ} {i : Nat} {num : Int32} (h0 : Z.2.2 0 = i) (k' i' : Nat) : cLv (zPan Z i num).2.2 k' i' = true ↔ cLv Z.2.2 k' i' = true ∨ (i' = i ∧ (k' = 5 ∨ k' = 6 ∨ k' = 7 ∨ k' = 8)) := by
  have e0 : (zPan Z i num).2.2 0 = i + 1 := rfl
  have e1 : ∀ m, m ≠ 0 → (zPan Z i num).2.2 m = Z.2.2 m := fun m hm => if_neg hm
  have hp : ∀ n : Nat → Nat, (decide (i' < n 0) || (decide (6 ≤ i') && decide (i' < 9))) = true ↔ i' < n 0 ∨ (6 ≤ i' ∧ i' < 9) := fun n => by simp only [Bool.or_eq_true, Bool.and_eq_true, decide_eq_true_eq]
  match k' with
  | 0 => exact ⟨Or.inl, fun h => h.resolve_right (by omega)⟩
  | 1 => exact ⟨Or.inl, fun h => h.resolve_right (by omega)⟩
  | 2 => exact ⟨Or.inl, fun h => h.resolve_right (by omega)⟩
  | 3 => exact ⟨Or.inl, fun h => h.resolve_right (by omega)⟩
  | 4 =>
    show (decide (i' < 8) && decide (0 < (zPan Z i num).2.2 (10 + i'))) = true ↔ (decide (i' < 8) && decide (0 < Z.2.2 (10 + i'))) = true ∨ _
    rw [e1 (10 + i') (by omega)]
    exact ⟨Or.inl, fun h => h.resolve_right (by omega)⟩
  | 5 =>
    refine (hp (zPan Z i num).2.2).trans ?_
    have hq : cLv Z.2.2 5 i' = true ↔ i' < Z.2.2 0 ∨ (6 ≤ i' ∧ i' < 9) := hp Z.2.2
    rw [e0, hq, h0]
    omega
  | 6 =>
    refine (hp (zPan Z i num).2.2).trans ?_
    have hq : cLv Z.2.2 6 i' = true ↔ i' < Z.2.2 0 ∨ (6 ≤ i' ∧ i' < 9) := hp Z.2.2
    rw [e0, hq, h0]
    omega
  | 7 =>
    refine (hp (zPan Z i num).2.2).trans ?_
    have hq : cLv Z.2.2 7 i' = true ↔ i' < Z.2.2 0 ∨ (6 ≤ i' ∧ i' < 9) := hp Z.2.2
    rw [e0, hq, h0]
    omega
  | 8 =>
    refine (hp (zPan Z i num).2.2).trans ?_
    have hq : cLv Z.2.2 8 i' = true ↔ i' < Z.2.2 0 ∨ (6 ≤ i' ∧ i' < 9) := hp Z.2.2
    rw [e0, hq, h0]
    omega
  | 9 => exact ⟨Or.inl, fun h => h.resolve_right (by omega)⟩
  | 10 => exact ⟨Or.inl, fun h => h.resolve_right (by omega)⟩
  | 11 => exact ⟨Or.inl, fun h => h.resolve_right (by omega)⟩
  | 12 => exact ⟨Or.inl, fun h => h.resolve_right (by omega)⟩
  | 13 => exact ⟨Or.inl, fun h => h.resolve_right (by omega)⟩
  | 14 => exact ⟨Or.inl, fun h => h.resolve_right (by omega)⟩
  | 15 => exact ⟨Or.inl, fun h => h.resolve_right (by omega)⟩
  | 16 => exact ⟨Or.inl, fun h => h.resolve_right (by omega)⟩
  | 17 => exact ⟨Or.inl, fun h => h.resolve_right (by omega)⟩
  | 18 => exact ⟨Or.inl, fun h => h.resolve_right (by omega)⟩
  | k + 19 => exact ⟨Or.inl, fun h => h.resolve_right (by omega)⟩
theorem mkPan {D : va_G} {G : CGT} {A : Nat → Prop} {ad : Nat → Nat → Nat} {Z : CZ} {H : Heap} {sz i o t b q : Nat} {num : Int32} (hI : cI A ad Z.2.2) (hN : cN D G ad Z H) (hR : cRL Z) (h0 : Z.2.2 0 = i) (h6 : i < 6) (hlt : ∀ k i, cLv Z.2.2 k i = true → ad k i < sz)
    (hP : va_P D vwCl [(o, .inr (2, [.int num, .ref t, .ref b, .ref q, .int 0])), (t, .inl (G.1, 4, .inl (fun _ => 0))), (b, .inl (G.1, 4, .inl (fun _ => 0))), (q, .inl (G.2.1, 4, .inl (fun _ => 0)))] H) (hD : va_D (fun x => sz ≤ x ∧ A x) [(o, .inr (2, [.int num, .ref t, .ref b, .ref q, .int 0])), (t, .inl (G.1, 4, .inl (fun _ => 0))), (b, .inl (G.1, 4, .inl (fun _ => 0))), (q, .inl (G.2.1, 4, .inl (fun _ => 0)))]) :
    cI A (adU (adU (adU (adU ad 5 i o) 6 i t) 7 i b) 8 i q) (zPan Z i num).2.2 ∧ cN D G (adU (adU (adU (adU ad 5 i o) 6 i t) 7 i b) 8 i q) (zPan Z i num) H := by
  obtain ⟨ad4, h4⟩ : ∃ y, y = adU (adU (adU (adU ad 5 i o) 6 i t) 7 i b) 8 i q := ⟨_, rfl⟩
  have a5 : ad4 5 i = o := by rw [h4, adU_n (by omega), adU_n (by omega), adU_n (by omega), adU_s]
  have a6 : ad4 6 i = t := by rw [h4, adU_n (by omega), adU_n (by omega), adU_s]
  have a7 : ad4 7 i = b := by rw [h4, adU_n (by omega), adU_s]
  have a8 : ad4 8 i = q := by rw [h4, adU_s]
  have an : ∀ k' i', ¬ (i' = i ∧ (k' = 5 ∨ k' = 6 ∨ k' = 7 ∨ k' = 8)) → ad4 k' i' = ad k' i' := fun k' i' h => by rw [h4, adU_n (by omega), adU_n (by omega), adU_n (by omega), adU_n (by omega)]
  have nl : ∀ k', (k' = 5 ∨ k' = 6 ∨ k' = 7 ∨ k' = 8) → ¬ cLv Z.2.2 k' i = true := by
    have hp : ¬ (decide (i < Z.2.2 0) || (decide (6 ≤ i) && decide (i < 9))) = true := by
      simp only [Bool.or_eq_true, Bool.and_eq_true, decide_eq_true_eq]
      omega
    rintro k' (rfl | rfl | rfl | rfl) <;> exact hp
  rw [← h4]
  have hag : ∀ k' i', cLv Z.2.2 k' i' = true → ad4 k' i' = ad k' i' := fun k' i' h => an k' i' (fun z => nl k' z.2 (by rw [← z.1]; exact h))
  have e5 : cS ad4 G (zPan Z i num) 5 i = .inr (2, [.int num, .ref t, .ref b, .ref q, .int 0]) := by
    show Sum.inr (2, [Value.int ((zPan Z i num).1 5 i 0), .ref (ad4 6 i), .ref (ad4 7 i), .ref (ad4 8 i), .int ((zPan Z i num).1 5 i 4)]) = _
    rw [a6, a7, a8, show (zPan Z i num).1 5 i = upd (fun _ => 0) 0 num from (if_pos rfl).trans (if_pos rfl)]
    rfl
  have er : ∀ k', (k' = 6 ∨ k' = 7 ∨ k' = 8) → (zPan Z i num).1 k' i = fun _ => 0 := fun k' h => (if_pos rfl).trans ((if_neg (by omega)).trans (if_pos h))
  refine cN_add (sz := sz) hI hN hlt (fun k' i' hl => ⟨hag k' i' hl, ?_⟩) (fun k' i' hl hn => ?_) (fun k1 i1 k2 i2 hl1 hn1 hl2 hn2 he => ?_)
  · rw [← cS_ad hag hR k' i' hl]
    have hne : ¬ (i' = i ∧ (k' = 5 ∨ k' = 6 ∨ k' = 7 ∨ k' = 8)) := fun z => nl k' z.2 (by rw [← z.1]; exact hl)
    show cC ad4 G k' i' ((zPan Z i num).1 k' i') (Z.2.1 k' i') ((zPan Z i num).2.2 (10 + i')) = cC ad4 G k' i' (Z.1 k' i') (Z.2.1 k' i') (Z.2.2 (10 + i'))
    rw [show (zPan Z i num).2.2 (10 + i') = Z.2.2 (10 + i') from if_neg (by omega)]
    have e9 : (zPan Z i num).1 k' i' = Z.1 k' i' := by
      show (if i' = i then _ else _) = _
      by_cases c : i' = i
      · rw [if_pos c, if_neg (by omega), if_neg (by omega)]
      · rw [if_neg c]
    rw [e9]
  · obtain ⟨rfl, hk⟩ := ((zPan_lv h0 k' i').mp hl).resolve_left hn
    rcases hk with rfl | rfl | rfl | rfl
    · rw [a5, e5]
      exact ⟨hP 0 _ rfl, (hD.2 0 _ rfl).2, (hD.2 0 _ rfl).1⟩
    · rw [a6]
      refine ⟨?_, (hD.2 1 _ rfl).2, (hD.2 1 _ rfl).1⟩
      show va_at D vwCl (t, .inl (G.1, 4, .inl ((zPan Z i' num).1 6 i'))) H
      rw [er 6 (Or.inl rfl)]
      exact hP 1 _ rfl
    · rw [a7]
      refine ⟨?_, (hD.2 2 _ rfl).2, (hD.2 2 _ rfl).1⟩
      show va_at D vwCl (b, .inl (G.1, 4, .inl ((zPan Z i' num).1 7 i'))) H
      rw [er 7 (Or.inr (Or.inl rfl))]
      exact hP 2 _ rfl
    · rw [a8]
      refine ⟨?_, (hD.2 3 _ rfl).2, (hD.2 3 _ rfl).1⟩
      show va_at D vwCl (q, .inl (G.2.1, 4, .inl ((zPan Z i' num).1 8 i'))) H
      rw [er 8 (Or.inr (Or.inr rfl))]
      exact hP 3 _ rfl
  · obtain ⟨rfl, hk1⟩ := ((zPan_lv h0 k1 i1).mp hl1).resolve_left hn1
    obtain ⟨rfl, hk2⟩ := ((zPan_lv h0 k2 i2).mp hl2).resolve_left hn2
    refine ⟨?_, rfl⟩
    rcases hk1 with rfl | rfl | rfl | rfl <;> rcases hk2 with rfl | rfl | rfl | rfl <;> first | rfl | (exfalso; simp only [a5, a6, a7, a8] at he; first | (have z := hD.1 0 1 _ _ rfl rfl he; omega) | (have z := hD.1 0 2 _ _ rfl rfl he; omega) | (have z := hD.1 0 3 _ _ rfl rfl he; omega) | (have z := hD.1 1 0 _ _ rfl rfl he; omega) | (have z := hD.1 1 2 _ _ rfl rfl he; omega) | (have z := hD.1 1 3 _ _ rfl rfl he; omega) | (have z := hD.1 2 0 _ _ rfl rfl he; omega) | (have z := hD.1 2 1 _ _ rfl rfl he; omega) | (have z := hD.1 2 3 _ _ rfl rfl he; omega) | (have z := hD.1 3 0 _ _ rfl rfl he; omega) | (have z := hD.1 3 1 _ _ rfl rfl he; omega) | (have z := hD.1 3 2 _ _ rfl rfl he; omega))
