/-- what is referred to is there -/
def cRL (Z : CZ) : Prop := (∀ l j q : Nat, l < 8 → Z.2.1 4 l j = some q → cLv Z.2.2 (cEk l) q = true) ∧ (∀ p q : Nat, cLv Z.2.2 9 p = true → Z.2.1 9 p 2 = some q → cLv Z.2.2 5 q = true) ∧ ∀ j p : Nat, cLv Z.2.2 13 j = true → Z.2.1 13 j 0 = some p → cLv Z.2.2 9 p = true
theorem opt_map_c {o : Option Nat} {f g : Nat → Nat} (h : ∀ q, o = some q → f q = g q) : o.map f = o.map g := by
  cases o with
  | none => rfl
  | some q => show some (f q) = some (g q); rw [h q rfl]
theorem cLv_lt {n : Nat → Nat} {i : Nat} (h : cLv n 4 i = true) : i < 8 := by
  have h2 : (decide (i < 8) && decide (0 < n (10 + i))) = true := h
  simp only [Bool.and_eq_true, decide_eq_true_eq] at h2
  exact h2.1
theorem cS_ad {ad ad' : Nat → Nat → Nat} {G : CGT} {Z : CZ} (hag : ∀ k i, cLv Z.2.2 k i = true → ad' k i = ad k i) (hR : cRL Z) : ∀ k i, cLv Z.2.2 k i = true → cS ad' G Z k i = cS ad G Z k i := by
  intro k i hl
  match k, hl with
  | 0, hl =>
    show Sum.inr (7, [Value.ref (ad' 3 0), .ref (ad' 3 1), .ref (ad' 3 2), .ref (ad' 1 0), .ref (ad' 2 0), .int (Z.1 0 i 5), .int (Z.1 0 i 6)]) = _
    rw [hag 3 0 rfl, hag 3 1 rfl, hag 3 2 rfl, hag 1 0 rfl, hag 2 0 rfl]
    rfl
  | 1, hl =>
    show Sum.inr (4, [Value.ref (ad' 15 0), .ref (ad' 3 3)]) = _
    rw [hag 15 0 rfl, hag 3 3 rfl]
    rfl
  | 2, hl =>
    show Sum.inr (3, [Value.ref (ad' 16 0), .ref (ad' 17 0)]) = _
    rw [hag 16 0 rfl, hag 17 0 rfl]
    rfl
  | 3, hl =>
    show Sum.inr (0, [Value.int (Z.1 3 i 0), .ref (if Z.2.2 (10 + i) = 0 then G.2.2.2.2 else ad' 4 i), .int (Z.1 3 i 2)]) = Sum.inr (0, [Value.int (Z.1 3 i 0), .ref (if Z.2.2 (10 + i) = 0 then G.2.2.2.2 else ad 4 i), .int (Z.1 3 i 2)])
    by_cases c : Z.2.2 (10 + i) = 0
    · rw [if_pos c, if_pos c]
    · rw [if_neg c, if_neg c, hag 4 i (by
        have h3 : decide (i < 8) = true := hl
        show (decide (i < 8) && decide (0 < Z.2.2 (10 + i))) = true
        rw [h3, decide_eq_true (Nat.pos_of_ne_zero c)]
        rfl)]
  | 4, hl =>
    show (Sum.inl (G.2.2.1, Z.2.2 (10 + i), .inr (.inr (.inr (.inr (fun j => (Z.2.1 4 i j).map (ad' (cEk i))))))) : va_E) = Sum.inl (G.2.2.1, Z.2.2 (10 + i), .inr (.inr (.inr (.inr (fun j => (Z.2.1 4 i j).map (ad (cEk i)))))))
    have e : (fun j => (Z.2.1 4 i j).map (ad' (cEk i))) = fun j => (Z.2.1 4 i j).map (ad (cEk i)) := funext fun j => opt_map_c fun q hq => hag _ _ (hR.1 i j q (cLv_lt hl) hq)
    rw [e]
  | 5, hl =>
    show Sum.inr (2, [Value.int (Z.1 5 i 0), .ref (ad' 6 i), .ref (ad' 7 i), .ref (ad' 8 i), .int (Z.1 5 i 4)]) = _
    rw [hag 6 i hl, hag 7 i hl, hag 8 i hl]
    rfl
  | 6, _ => rfl
  | 7, _ => rfl
  | 8, _ => rfl
  | 9, hl =>
    show Sum.inr (5, [Value.int (Z.1 9 i 0), .int (Z.1 9 i 1), va_rf ((Z.2.1 9 i 2).map (ad' 5)), .int (Z.1 9 i 3), .int (Z.1 9 i 4), .int (Z.1 9 i 5)]) = _
    rw [opt_map_c fun q hq => hag _ _ (hR.2.1 i q hl hq)]
    rfl
  | 10, hl =>
    have h4 : i < 4 := of_decide_eq_true (show decide (i < 4) = true from hl)
    show Sum.inr (1, [Value.ref (ad' 3 (i + 4)), .ref (ad' 11 i), .ref (ad' 12 i), .int (Z.1 10 i 3), .int (Z.1 10 i 4), .int (Z.1 10 i 5), .int (Z.1 10 i 6)]) = _
    rw [hag 3 (i + 4) (decide_eq_true (by omega)), hag 11 i hl, hag 12 i hl]
    rfl
  | 11, _ => rfl
  | 12, _ => rfl
  | 13, hl =>
    show Sum.inr (6, [va_rf ((Z.2.1 13 i 0).map (ad' 9)), .ref (ad' 14 i)]) = _
    rw [opt_map_c fun q hq => hag _ _ (hR.2.2 i q hl hq), hag 14 i hl]
    rfl
  | 14, _ => rfl
  | 15, _ => rfl
  | 16, _ => rfl
  | 17, hl =>
    show (Sum.inl (G.2.2.2.1, 6, .inr (.inr (.inr (.inr (fun j => if j < 6 then some (ad' 18 j) else none))))) : va_E) = Sum.inl (G.2.2.2.1, 6, .inr (.inr (.inr (.inr (fun j => if j < 6 then some (ad 18 j) else none)))))
    have e : (fun j => if j < 6 then some (ad' 18 j) else none) = fun j => if j < 6 then some (ad 18 j) else none := funext fun j => by
      by_cases c : j < 6
      · rw [if_pos c, if_pos c, hag 18 j (decide_eq_true c)]
      · rw [if_neg c, if_neg c]
    rw [e]
  | 18, _ => rfl
  | k + 19, hl => cases hl
theorem cN_add {D : va_G} {G : CGT} {A : Nat → Prop} {ad ad' : Nat → Nat → Nat} {Z Z' : CZ} {H : Heap} {sz : Nat} (hI : cI A ad Z.2.2) (hN : cN D G ad Z H) (hlt : ∀ k i, cLv Z.2.2 k i = true → ad k i < sz) (hold : ∀ k i, cLv Z.2.2 k i = true → ad' k i = ad k i ∧ cS ad' G Z' k i = cS ad G Z k i) (hnew : ∀ k i, cLv Z'.2.2 k i = true → ¬ cLv Z.2.2 k i = true → va_at D vwCl (ad' k i, cS ad' G Z' k i) H ∧ A (ad' k i) ∧ sz ≤ ad' k i)
    (hinj : ∀ k i k' i', cLv Z'.2.2 k i = true → ¬ cLv Z.2.2 k i = true → cLv Z'.2.2 k' i' = true → ¬ cLv Z.2.2 k' i' = true → ad' k i = ad' k' i' → k = k' ∧ i = i') : cI A ad' Z'.2.2 ∧ cN D G ad' Z' H := by
  refine ⟨⟨fun k i k' i' h h' e => ?_, fun k i h => ?_⟩, fun k i h => ?_⟩
  · by_cases c : cLv Z.2.2 k i = true
    · by_cases c' : cLv Z.2.2 k' i' = true
      · exact hI.1 k i k' i' c c' (by rw [← (hold k i c).1, ← (hold k' i' c').1]; exact e)
      · have h1 := hlt k i c
        have h2 := (hnew k' i' h' c').2.2
        rw [← (hold k i c).1] at h1
        omega
    · by_cases c' : cLv Z.2.2 k' i' = true
      · have h1 := hlt k' i' c'
        have h2 := (hnew k i h c).2.2
        rw [← (hold k' i' c').1] at h1
        omega
      · exact hinj k i k' i' h c h' c' e
  · by_cases c : cLv Z.2.2 k i = true
    · show A (ad' k i)
      rw [(hold k i c).1]
      exact hI.2 k i c
    · exact (hnew k i h c).2.1
  · have h : cLv Z'.2.2 k i = true := h
    by_cases c : cLv Z.2.2 k i = true
    · show va_at D vwCl (ad' k i, cS ad' G Z' k i) H
      rw [(hold k i c).1, (hold k i c).2]
      exact hN k i c
    · exact (hnew k i h c).1
def adU (ad : Nat → Nat → Nat) (k i q : Nat) : Nat → Nat → Nat := fun k' i' => if k' = k ∧ i' = i then q else ad k' i'
theorem adU_s {ad : Nat → Nat → Nat} {k i q : Nat} : adU ad k i q k i = q := if_pos ⟨rfl, rfl⟩
theorem adU_n {ad : Nat → Nat → Nat} {k i q k' i' : Nat} (h : ¬ (k' = k ∧ i' = i)) : adU ad k i q k' i' = ad k' i' := if_neg h
theorem cN_lt {D : va_G} {G : CGT} {ad : Nat → Nat → Nat} {Z : CZ} {H : Heap} (hN : cN D G ad Z H) : ∀ k i, cLv Z.2.2 k i = true → ad k i < H.size := fun k i h => (hN k i h).lt
/-- one pan more (a pan's number i is the next one) -/
def zPan (Z : CZ) (i : Nat) (num : Int32) : CZ := (fun k' i' => if i' = i then (if k' = 5 then upd (fun _ => 0) 0 num else if k' = 6 ∨ k' = 7 ∨ k' = 8 then fun _ => 0 else Z.1 k' i') else Z.1 k' i', Z.2.1, va_up Z.2.2 0 (i + 1))
theorem zPan_lv {Z : CZ} {i : Nat} {num : Int32} (h0 : Z.2.2 0 = i) (k' i' : Nat) : cLv (zPan Z i num).2.2 k' i' = true ↔ cLv Z.2.2 k' i' = true ∨ (i' = i ∧ (k' = 5 ∨ k' = 6 ∨ k' = 7 ∨ k' = 8)) := by
  have e0 : (zPan Z i num).2.2 0 = i + 1 := rfl
  have e1 : ∀ m, m ≠ 0 → (zPan Z i num).2.2 m = Z.2.2 m := fun m hm => if_neg hm
  have hp : ∀ n : Nat → Nat, (decide (i' < n 0) || (decide (6 ≤ i') && decide (i' < 9))) = true ↔ i' < n 0 ∨ (6 ≤ i' ∧ i' < 9) := fun n => by simp only [Bool.or_eq_true, Bool.and_eq_true, decide_eq_true_eq]
  match k' with
  | 0 => exact ⟨Or.inl, fun h => h.resolve_right (by omega)⟩
  | 1 => exact ⟨Or.inl, fun h => h.resolve_right (by omega)⟩
  | 2 => exact ⟨Or.inl, fun h => h.resolve_right (by omega)⟩
  | 3 => exact ⟨Or.inl, fun h => h.resolve_right (by omega)⟩
  | 4 =>
    show (decide (i' < 8) && decide (0 < (zPan Z i num).2.2 (10 + i'))) = true ↔ (decide (i' < 8) && decide (0 < Z.2.2 (10 + i'))) = true ∨ _
    rw [e1 (10 + i') (by omega)]
    exact ⟨Or.inl, fun h => h.resolve_right (by omega)⟩
  | 5 =>
    refine (hp (zPan Z i num).2.2).trans ?_
    have hq : cLv Z.2.2 5 i' = true ↔ i' < Z.2.2 0 ∨ (6 ≤ i' ∧ i' < 9) := hp Z.2.2
    rw [e0, hq, h0]
    omega
  | 6 =>
    refine (hp (zPan Z i num).2.2).trans ?_
    have hq : cLv Z.2.2 6 i' = true ↔ i' < Z.2.2 0 ∨ (6 ≤ i' ∧ i' < 9) := hp Z.2.2
    rw [e0, hq, h0]
    omega
  | 7 =>
    refine (hp (zPan Z i num).2.2).trans ?_
    have hq : cLv Z.2.2 7 i' = true ↔ i' < Z.2.2 0 ∨ (6 ≤ i' ∧ i' < 9) := hp Z.2.2
    rw [e0, hq, h0]
    omega
  | 8 =>
    refine (hp (zPan Z i num).2.2).trans ?_
    have hq : cLv Z.2.2 8 i' = true ↔ i' < Z.2.2 0 ∨ (6 ≤ i' ∧ i' < 9) := hp Z.2.2
    rw [e0, hq, h0]
    omega
  | 9 => exact ⟨Or.inl, fun h => h.resolve_right (by omega)⟩
  | 10 => exact ⟨Or.inl, fun h => h.resolve_right (by omega)⟩
  | 11 => exact ⟨Or.inl, fun h => h.resolve_right (by omega)⟩
  | 12 => exact ⟨Or.inl, fun h => h.resolve_right (by omega)⟩
  | 13 => exact ⟨Or.inl, fun h => h.resolve_right (by omega)⟩
  | 14 => exact ⟨Or.inl, fun h => h.resolve_right (by omega)⟩
  | 15 => exact ⟨Or.inl, fun h => h.resolve_right (by omega)⟩
  | 16 => exact ⟨Or.inl, fun h => h.resolve_right (by omega)⟩
  | 17 => exact ⟨Or.inl, fun h => h.resolve_right (by omega)⟩
  | 18 => exact ⟨Or.inl, fun h => h.resolve_right (by omega)⟩
  | k + 19 => exact ⟨Or.inl, fun h => h.resolve_right (by omega)⟩
theorem mkPan {D : va_G} {G : CGT} {A : Nat → Prop} {ad : Nat → Nat → Nat} {Z : CZ} {H : Heap} {sz i o t b q : Nat} {num : Int32} (hI : cI A ad Z.2.2) (hN : cN D G ad Z H) (hR : cRL Z) (h0 : Z.2.2 0 = i) (h6 : i < 6) (hlt : ∀ k i, cLv Z.2.2 k i = true → ad k i < sz)
    (hP : va_P D vwCl [(o, .inr (2, [.int num, .ref t, .ref b, .ref q, .int 0])), (t, .inl (G.1, 4, .inl (fun _ => 0))), (b, .inl (G.1, 4, .inl (fun _ => 0))), (q, .inl (G.2.1, 4, .inl (fun _ => 0)))] H) (hD : va_D (fun x => sz ≤ x ∧ A x) [(o, .inr (2, [.int num, .ref t, .ref b, .ref q, .int 0])), (t, .inl (G.1, 4, .inl (fun _ => 0))), (b, .inl (G.1, 4, .inl (fun _ => 0))), (q, .inl (G.2.1, 4, .inl (fun _ => 0)))]) :
    cI A (adU (adU (adU (adU ad 5 i o) 6 i t) 7 i b) 8 i q) (zPan Z i num).2.2 ∧ cN D G (adU (adU (adU (adU ad 5 i o) 6 i t) 7 i b) 8 i q) (zPan Z i num) H := by
  obtain ⟨ad4, h4⟩ : ∃ y, y = adU (adU (adU (adU ad 5 i o) 6 i t) 7 i b) 8 i q := ⟨_, rfl⟩
  have a5 : ad4 5 i = o := by rw [h4, adU_n (by omega), adU_n (by omega), adU_n (by omega), adU_s]
  have a6 : ad4 6 i = t := by rw [h4, adU_n (by omega), adU_n (by omega), adU_s]
  have a7 : ad4 7 i = b := by rw [h4, adU_n (by omega), adU_s]
  have a8 : ad4 8 i = q := by rw [h4, adU_s]
  have an : ∀ k' i', ¬ (i' = i ∧ (k' = 5 ∨ k' = 6 ∨ k' = 7 ∨ k' = 8)) → ad4 k' i' = ad k' i' := fun k' i' h => by rw [h4, adU_n (by omega), adU_n (by omega), adU_n (by omega), adU_n (by omega)]
  have nl : ∀ k', (k' = 5 ∨ k' = 6 ∨ k' = 7 ∨ k' = 8) → ¬ cLv Z.2.2 k' i = true := by
    have hp : ¬ (decide (i < Z.2.2 0) || (decide (6 ≤ i) && decide (i < 9))) = true := by
      simp only [Bool.or_eq_true, Bool.and_eq_true, decide_eq_true_eq]
      omega
    rintro k' (rfl | rfl | rfl | rfl) <;> exact hp
  rw [← h4]
  have hag : ∀ k' i', cLv Z.2.2 k' i' = true → ad4 k' i' = ad k' i' := fun k' i' h => an k' i' (fun z => nl k' z.2 (by rw [← z.1]; exact h))
  have e5 : cS ad4 G (zPan Z i num) 5 i = .inr (2, [.int num, .ref t, .ref b, .ref q, .int 0]) := by
    show Sum.inr (2, [Value.int ((zPan Z i num).1 5 i 0), .ref (ad4 6 i), .ref (ad4 7 i), .ref (ad4 8 i), .int ((zPan Z i num).1 5 i 4)]) = _
    rw [a6, a7, a8, show (zPan Z i num).1 5 i = upd (fun _ => 0) 0 num from (if_pos rfl).trans (if_pos rfl)]
    rfl
  have er : ∀ k', (k' = 6 ∨ k' = 7 ∨ k' = 8) → (zPan Z i num).1 k' i = fun _ => 0 := fun k' h => (if_pos rfl).trans ((if_neg (by omega)).trans (if_pos h))
  refine cN_add (sz := sz) hI hN hlt (fun k' i' hl => ⟨hag k' i' hl, ?_⟩) (fun k' i' hl hn => ?_) (fun k1 i1 k2 i2 hl1 hn1 hl2 hn2 he => ?_)
  · rw [← cS_ad hag hR k' i' hl]
    have hne : ¬ (i' = i ∧ (k' = 5 ∨ k' = 6 ∨ k' = 7 ∨ k' = 8)) := fun z => nl k' z.2 (by rw [← z.1]; exact hl)
    show cC ad4 G k' i' ((zPan Z i num).1 k' i') (Z.2.1 k' i') ((zPan Z i num).2.2 (10 + i')) = cC ad4 G k' i' (Z.1 k' i') (Z.2.1 k' i') (Z.2.2 (10 + i'))
    rw [show (zPan Z i num).2.2 (10 + i') = Z.2.2 (10 + i') from if_neg (by omega)]
    have e9 : (zPan Z i num).1 k' i' = Z.1 k' i' := by
      show (if i' = i then _ else _) = _
      by_cases c : i' = i
      · rw [if_pos c, if_neg (by omega), if_neg (by omega)]
      · rw [if_neg c]
    rw [e9]
  · obtain ⟨rfl, hk⟩ := ((zPan_lv h0 k' i').mp hl).resolve_left hn
    rcases hk with rfl | rfl | rfl | rfl
    · rw [a5, e5]
      exact ⟨hP 0 _ rfl, (hD.2 0 _ rfl).2, (hD.2 0 _ rfl).1⟩
    · rw [a6]
      refine ⟨?_, (hD.2 1 _ rfl).2, (hD.2 1 _ rfl).1⟩
      show va_at D vwCl (t, .inl (G.1, 4, .inl ((zPan Z i' num).1 6 i'))) H
      rw [er 6 (Or.inl rfl)]
      exact hP 1 _ rfl
    · rw [a7]
      refine ⟨?_, (hD.2 2 _ rfl).2, (hD.2 2 _ rfl).1⟩
      show va_at D vwCl (b, .inl (G.1, 4, .inl ((zPan Z i' num).1 7 i'))) H
      rw [er 7 (Or.inr (Or.inl rfl))]
      exact hP 2 _ rfl
    · rw [a8]
      refine ⟨?_, (hD.2 3 _ rfl).2, (hD.2 3 _ rfl).1⟩
      show va_at D vwCl (q, .inl (G.2.1, 4, .inl ((zPan Z i' num).1 8 i'))) H
      rw [er 8 (Or.inr (Or.inr rfl))]
      exact hP 3 _ rfl
  · obtain ⟨rfl, hk1⟩ := ((zPan_lv h0 k1 i1).mp hl1).resolve_left hn1
    obtain ⟨rfl, hk2⟩ := ((zPan_lv h0 k2 i2).mp hl2).resolve_left hn2
    refine ⟨?_, rfl⟩
    rcases hk1 with rfl | rfl | rfl | rfl <;> rcases hk2 with rfl | rfl | rfl | rfl <;> first | rfl | (exfalso; simp only [a5, a6, a7, a8] at he; first | (have z := hD.1 0 1 _ _ rfl rfl he; omega) | (have z := hD.1 0 2 _ _ rfl rfl he; omega) | (have z := hD.1 0 3 _ _ rfl rfl he; omega) | (have z := hD.1 1 0 _ _ rfl rfl he; omega) | (have z := hD.1 1 2 _ _ rfl rfl he; omega) | (have z := hD.1 1 3 _ _ rfl rfl he; omega) | (have z := hD.1 2 0 _ _ rfl rfl he; omega) | (have z := hD.1 2 1 _ _ rfl rfl he; omega) | (have z := hD.1 2 3 _ _ rfl rfl he; omega) | (have z := hD.1 3 0 _ _ rfl rfl he; omega) | (have z := hD.1 3 1 _ _ rfl rfl he; omega) | (have z := hD.1 3 2 _ _ rfl rfl he; omega))
/-- one player more -/
def zPlayer (Z : CZ) (i : Nat) (num lay : Int32) : CZ := (fun k' i' => if k' = 9 ∧ i' = i then upd (upd (upd (fun _ => 0) 0 num) 1 lay) 4 (-1) else Z.1 k' i', fun k' i' => if k' = 9 ∧ i' = i then fun _ => none else Z.2.1 k' i', va_up Z.2.2 1 (i + 1))
theorem zPlayer_lv {Z : CZ} {i : Nat} {num lay : Int32} (h0 : Z.2.2 1 = i) (k' i' : Nat) : cLv (zPlayer Z i num lay).2.2 k' i' = true ↔ cLv Z.2.2 k' i' = true ∨ (i' = i ∧ (k' = 9)) := by
  have e0 : (zPlayer Z i num lay).2.2 1 = i + 1 := rfl
  have e1 : ∀ m, m ≠ 1 → (zPlayer Z i num lay).2.2 m = Z.2.2 m := fun m hm => if_neg hm
  match k' with
  | 0 => exact ⟨Or.inl, fun h => h.resolve_right (by omega)⟩
  | 1 => exact ⟨Or.inl, fun h => h.resolve_right (by omega)⟩
  | 2 => exact ⟨Or.inl, fun h => h.resolve_right (by omega)⟩
  | 3 => exact ⟨Or.inl, fun h => h.resolve_right (by omega)⟩
  | 4 =>
    show (decide (i' < 8) && decide (0 < (zPlayer Z i num lay).2.2 (10 + i'))) = true ↔ (decide (i' < 8) && decide (0 < Z.2.2 (10 + i'))) = true ∨ _
    rw [e1 (10 + i') (by omega)]
    exact ⟨Or.inl, fun h => h.resolve_right (by omega)⟩
  | 5 => exact ⟨Or.inl, fun h => h.resolve_right (by omega)⟩
  | 6 => exact ⟨Or.inl, fun h => h.resolve_right (by omega)⟩
  | 7 => exact ⟨Or.inl, fun h => h.resolve_right (by omega)⟩
  | 8 => exact ⟨Or.inl, fun h => h.resolve_right (by omega)⟩
  | 9 =>
    have hq : cLv Z.2.2 9 i' = true ↔ i' < Z.2.2 1 := decide_eq_true_iff
    have hr : cLv (zPlayer Z i num lay).2.2 9 i' = true ↔ i' < (zPlayer Z i num lay).2.2 1 := decide_eq_true_iff
    rw [hr, e0, hq, h0]
    omega
  | 10 => exact ⟨Or.inl, fun h => h.resolve_right (by omega)⟩
  | 11 => exact ⟨Or.inl, fun h => h.resolve_right (by omega)⟩
  | 12 => exact ⟨Or.inl, fun h => h.resolve_right (by omega)⟩
  | 13 => exact ⟨Or.inl, fun h => h.resolve_right (by omega)⟩
  | 14 => exact ⟨Or.inl, fun h => h.resolve_right (by omega)⟩
  | 15 => exact ⟨Or.inl, fun h => h.resolve_right (by omega)⟩
  | 16 => exact ⟨Or.inl, fun h => h.resolve_right (by omega)⟩
  | 17 => exact ⟨Or.inl, fun h => h.resolve_right (by omega)⟩
  | 18 => exact ⟨Or.inl, fun h => h.resolve_right (by omega)⟩
  | k + 19 => exact ⟨Or.inl, fun h => h.resolve_right (by omega)⟩
theorem mkPlayer {D : va_G} {G : CGT} {A : Nat → Prop} {ad : Nat → Nat → Nat} {Z : CZ} {H : Heap} {sz i o : Nat} {num lay : Int32} (hI : cI A ad Z.2.2) (hN : cN D G ad Z H) (hR : cRL Z) (h0 : Z.2.2 1 = i) (hlt : ∀ k i, cLv Z.2.2 k i = true → ad k i < sz)
    (hP : va_P D vwCl [(o, .inr (5, [.int num, .int lay, .null, .int 0, .int (-1), .int 0]))] H) (hD : va_D (fun x => sz ≤ x ∧ A x) [(o, .inr (5, [.int num, .int lay, .null, .int 0, .int (-1), .int 0]))]) :
    cI A (adU ad 9 i o) (zPlayer Z i num lay).2.2 ∧ cN D G (adU ad 9 i o) (zPlayer Z i num lay) H := by
  obtain ⟨ad4, h4⟩ : ∃ y, y = adU ad 9 i o := ⟨_, rfl⟩
  have a9 : ad4 9 i = o := by rw [h4, adU_s]
  have an : ∀ k' i', ¬ (i' = i ∧ k' = 9) → ad4 k' i' = ad k' i' := fun k' i' h => by rw [h4, adU_n (fun z => h ⟨z.2, z.1⟩)]
  have nl : ¬ cLv Z.2.2 9 i = true := by
    have hp : ¬ decide (i < Z.2.2 1) = true := by
      rw [decide_eq_true_iff]
      omega
    exact hp
  rw [← h4]
  have hag : ∀ k' i', cLv Z.2.2 k' i' = true → ad4 k' i' = ad k' i' := fun k' i' h => an k' i' (fun z => nl (by rw [← z.1, ← z.2]; exact h))
  refine cN_add (sz := sz) hI hN hlt (fun k' i' hl => ⟨hag k' i' hl, ?_⟩) (fun k' i' hl hn => ?_) (fun k1 i1 k2 i2 hl1 hn1 hl2 hn2 he => ?_)
  · rw [← cS_ad hag hR k' i' hl]
    have hne : ¬ (k' = 9 ∧ i' = i) := fun z => nl (by rw [← z.1, ← z.2]; exact hl)
    show cC ad4 G k' i' ((zPlayer Z i num lay).1 k' i') ((zPlayer Z i num lay).2.1 k' i') ((zPlayer Z i num lay).2.2 (10 + i')) = cC ad4 G k' i' (Z.1 k' i') (Z.2.1 k' i') (Z.2.2 (10 + i'))
    rw [show (zPlayer Z i num lay).2.2 (10 + i') = Z.2.2 (10 + i') from if_neg (by omega), show (zPlayer Z i num lay).1 k' i' = Z.1 k' i' from if_neg hne, show (zPlayer Z i num lay).2.1 k' i' = Z.2.1 k' i' from if_neg hne]
  · obtain ⟨rfl, rfl⟩ := ((zPlayer_lv h0 k' i').mp hl).resolve_left hn
    rw [a9]
    refine ⟨?_, (hD.2 0 _ rfl).2, (hD.2 0 _ rfl).1⟩
    have e1 : (zPlayer Z i' num lay).1 9 i' = upd (upd (upd (fun _ => 0) 0 num) 1 lay) 4 (-1) := if_pos ⟨rfl, rfl⟩
    have e2 : (zPlayer Z i' num lay).2.1 9 i' = fun _ => none := if_pos ⟨rfl, rfl⟩
    show va_at D vwCl (o, cC ad4 G 9 i' ((zPlayer Z i' num lay).1 9 i') ((zPlayer Z i' num lay).2.1 9 i') _) H
    rw [e1, e2]
    exact hP 0 _ rfl
  · obtain ⟨rfl, rfl⟩ := ((zPlayer_lv h0 k1 i1).mp hl1).resolve_left hn1
    obtain ⟨rfl, rfl⟩ := ((zPlayer_lv h0 k2 i2).mp hl2).resolve_left hn2
    exact ⟨rfl, rfl⟩
/-- one seat more -/
def zSeat (Z : CZ) (i : Nat) (pl : Nat) : CZ := (fun k' i' => if k' = 14 ∧ i' = i then fun _ => 0 else Z.1 k' i', fun k' i' => if k' = 13 ∧ i' = i then fun _ => some pl else Z.2.1 k' i', va_up Z.2.2 2 (i + 1))
theorem zSeat_lv {Z : CZ} {i : Nat} {pl : Nat} (h0 : Z.2.2 2 = i) (k' i' : Nat) : cLv (zSeat Z i pl).2.2 k' i' = true ↔ cLv Z.2.2 k' i' = true ∨ (i' = i ∧ (k' = 13 ∨ k' = 14)) := by
  have e0 : (zSeat Z i pl).2.2 2 = i + 1 := rfl
  have e1 : ∀ m, m ≠ 2 → (zSeat Z i pl).2.2 m = Z.2.2 m := fun m hm => if_neg hm
  match k' with
  | 0 => exact ⟨Or.inl, fun h => h.resolve_right (by omega)⟩
  | 1 => exact ⟨Or.inl, fun h => h.resolve_right (by omega)⟩
  | 2 => exact ⟨Or.inl, fun h => h.resolve_right (by omega)⟩
  | 3 => exact ⟨Or.inl, fun h => h.resolve_right (by omega)⟩
  | 4 =>
    show (decide (i' < 8) && decide (0 < (zSeat Z i pl).2.2 (10 + i'))) = true ↔ (decide (i' < 8) && decide (0 < Z.2.2 (10 + i'))) = true ∨ _
    rw [e1 (10 + i') (by omega)]
    exact ⟨Or.inl, fun h => h.resolve_right (by omega)⟩
  | 5 => exact ⟨Or.inl, fun h => h.resolve_right (by omega)⟩
  | 6 => exact ⟨Or.inl, fun h => h.resolve_right (by omega)⟩
  | 7 => exact ⟨Or.inl, fun h => h.resolve_right (by omega)⟩
  | 8 => exact ⟨Or.inl, fun h => h.resolve_right (by omega)⟩
  | 9 => exact ⟨Or.inl, fun h => h.resolve_right (by omega)⟩
  | 10 => exact ⟨Or.inl, fun h => h.resolve_right (by omega)⟩
  | 11 => exact ⟨Or.inl, fun h => h.resolve_right (by omega)⟩
  | 12 => exact ⟨Or.inl, fun h => h.resolve_right (by omega)⟩
  | 13 =>
    have hq : cLv Z.2.2 13 i' = true ↔ i' < Z.2.2 2 := decide_eq_true_iff
    have hr : cLv (zSeat Z i pl).2.2 13 i' = true ↔ i' < (zSeat Z i pl).2.2 2 := decide_eq_true_iff
    rw [hr, e0, hq, h0]
    omega
  | 14 =>
    have hq : cLv Z.2.2 14 i' = true ↔ i' < Z.2.2 2 := decide_eq_true_iff
    have hr : cLv (zSeat Z i pl).2.2 14 i' = true ↔ i' < (zSeat Z i pl).2.2 2 := decide_eq_true_iff
    rw [hr, e0, hq, h0]
    omega
  | 15 => exact ⟨Or.inl, fun h => h.resolve_right (by omega)⟩
  | 16 => exact ⟨Or.inl, fun h => h.resolve_right (by omega)⟩
  | 17 => exact ⟨Or.inl, fun h => h.resolve_right (by omega)⟩
  | 18 => exact ⟨Or.inl, fun h => h.resolve_right (by omega)⟩
  | k + 19 => exact ⟨Or.inl, fun h => h.resolve_right (by omega)⟩
theorem mkSeat {D : va_G} {G : CGT} {A : Nat → Prop} {ad : Nat → Nat → Nat} {Z : CZ} {H : Heap} {sz i o t pl : Nat} (hI : cI A ad Z.2.2) (hN : cN D G ad Z H) (hR : cRL Z) (h0 : Z.2.2 2 = i) (hpl : cLv Z.2.2 9 pl = true) (hlt : ∀ k i, cLv Z.2.2 k i = true → ad k i < sz)
    (hP : va_P D vwCl [(o, .inr (6, [.ref (ad 9 pl), .ref t])), (t, .inl (G.1, 6, .inl (fun _ => 0)))] H) (hD : va_D (fun x => sz ≤ x ∧ A x) [(o, .inr (6, [.ref (ad 9 pl), .ref t])), (t, .inl (G.1, 6, .inl (fun _ => 0)))]) :
    cI A (adU (adU ad 13 i o) 14 i t) (zSeat Z i pl).2.2 ∧ cN D G (adU (adU ad 13 i o) 14 i t) (zSeat Z i pl) H := by
  obtain ⟨ad4, h4⟩ : ∃ y, y = adU (adU ad 13 i o) 14 i t := ⟨_, rfl⟩
  have a13 : ad4 13 i = o := by rw [h4, adU_n (by omega), adU_s]
  have a14 : ad4 14 i = t := by rw [h4, adU_s]
  have an : ∀ k' i', ¬ (i' = i ∧ (k' = 13 ∨ k' = 14)) → ad4 k' i' = ad k' i' := fun k' i' h => by rw [h4, adU_n (by omega), adU_n (by omega)]
  have nl : ∀ k', (k' = 13 ∨ k' = 14) → ¬ cLv Z.2.2 k' i = true := by
    have hp : ¬ decide (i < Z.2.2 2) = true := by
      rw [decide_eq_true_iff]
      omega
    rintro k' (rfl | rfl) <;> exact hp
  rw [← h4]
  have hag : ∀ k' i', cLv Z.2.2 k' i' = true → ad4 k' i' = ad k' i' := fun k' i' h => an k' i' (fun z => nl k' z.2 (by rw [← z.1]; exact h))
  refine cN_add (sz := sz) hI hN hlt (fun k' i' hl => ⟨hag k' i' hl, ?_⟩) (fun k' i' hl hn => ?_) (fun k1 i1 k2 i2 hl1 hn1 hl2 hn2 he => ?_)
  · rw [← cS_ad hag hR k' i' hl]
    have hne : ¬ (i' = i ∧ (k' = 13 ∨ k' = 14)) := fun z => nl k' z.2 (by rw [← z.1]; exact hl)
    show cC ad4 G k' i' ((zSeat Z i pl).1 k' i') ((zSeat Z i pl).2.1 k' i') ((zSeat Z i pl).2.2 (10 + i')) = cC ad4 G k' i' (Z.1 k' i') (Z.2.1 k' i') (Z.2.2 (10 + i'))
    rw [show (zSeat Z i pl).2.2 (10 + i') = Z.2.2 (10 + i') from if_neg (by omega), show (zSeat Z i pl).1 k' i' = Z.1 k' i' from if_neg (by omega), show (zSeat Z i pl).2.1 k' i' = Z.2.1 k' i' from if_neg (by omega)]
  · obtain ⟨rfl, hk⟩ := ((zSeat_lv h0 k' i').mp hl).resolve_left hn
    rcases hk with rfl | rfl
    · rw [a13]
      refine ⟨?_, (hD.2 0 _ rfl).2, (hD.2 0 _ rfl).1⟩
      have e2 : (zSeat Z i' pl).2.1 13 i' = fun _ => some pl := if_pos ⟨rfl, rfl⟩
      show va_at D vwCl (o, .inr (6, [va_rf (((zSeat Z i' pl).2.1 13 i' 0).map (ad4 9)), .ref (ad4 14 i')])) H
      rw [e2, a14]
      show va_at D vwCl (o, .inr (6, [.ref (ad4 9 pl), .ref t])) H
      rw [hag 9 pl hpl]
      exact hP 0 _ rfl
    · rw [a14]
      refine ⟨?_, (hD.2 1 _ rfl).2, (hD.2 1 _ rfl).1⟩
      have e1 : (zSeat Z i' pl).1 14 i' = fun _ => 0 := if_pos ⟨rfl, rfl⟩
      show va_at D vwCl (t, .inl (G.1, 6, .inl ((zSeat Z i' pl).1 14 i'))) H
      rw [e1]
      exact hP 1 _ rfl
  · obtain ⟨rfl, hk1⟩ := ((zSeat_lv h0 k1 i1).mp hl1).resolve_left hn1
    obtain ⟨rfl, hk2⟩ := ((zSeat_lv h0 k2 i2).mp hl2).resolve_left hn2
    refine ⟨?_, rfl⟩
    rcases hk1 with rfl | rfl <;> rcases hk2 with rfl | rfl <;> first | rfl | (exfalso; simp only [a13, a14] at he; first | (have z := hD.1 0 1 _ _ rfl rfl he; omega) | (have z := hD.1 1 0 _ _ rfl rfl he; omega))
/-! list.add(v), over the class's world. -/
def lCap (n cap : Nat) : Nat := if n < cap then cap else if cap = 0 then 10 else n + n / 2
/-- the list lx, of n, with v behind it -/
def zAdd (Z : CZ) (lx v : Nat) : CZ := (fun k' i' => if k' = 3 ∧ i' = lx then upd (upd (Z.1 3 lx) 0 (Z.1 3 lx 0 + 1)) 2 (nI ((Z.1 3 lx 2).toNatClampNeg + 1)) else Z.1 k' i', fun k' i' => if k' = 4 ∧ i' = lx then va_up (if (Z.1 3 lx 2).toNatClampNeg < Z.2.2 (10 + lx) then Z.2.1 4 lx else va_cpy (Z.2.1 4 lx) (fun _ => none) 0 0 (Z.1 3 lx 2).toNatClampNeg) (Z.1 3 lx 2).toNatClampNeg (some v) else Z.2.1 k' i', va_up Z.2.2 (10 + lx) (lCap (Z.1 3 lx 2).toNatClampNeg (Z.2.2 (10 + lx))))
/-- what must be for it -/
def okAdd (Z : CZ) (lx v : Nat) : Prop := lx < 8 ∧ Z.1 3 lx 2 = nI (Z.1 3 lx 2).toNatClampNeg ∧ ((Z.1 3 lx 2).toNatClampNeg < Z.2.2 (10 + lx) ∧ Z.2.2 (10 + lx) < 2 ^ 30 ∨ (Z.1 3 lx 2).toNatClampNeg = 0 ∧ Z.2.2 (10 + lx) = 0 ∨ (Z.1 3 lx 2).toNatClampNeg = Z.2.2 (10 + lx) ∧ 2 ≤ Z.2.2 (10 + lx) ∧ Z.2.2 (10 + lx) ≤ 26) ∧ cRL Z ∧ cLv Z.2.2 (cEk lx) v = true
/-- what a growing list needs of the static fields and of the tables -/
def cF (G : CGT) (A : Nat → Prop) (U : State) (H : Heap) : Prop := va_Z "java/util/ArrayList" "DEFAULTCAPACITY_EMPTY_ELEMENTDATA" "[Ljava/lang/Object;" (.ref G.2.2.2.2) A U H ∧ (∃ gE : Nat → Value, va_T (.object "java/lang/Object") G.2.2.2.2 0 gE A U H) ∧ (∃ mi : Nat, va_Mi "[Ljava/lang/Object;" mi U) ∧ va_AO "java/lang/Object" U ∧ va_Dc U
theorem cF.go {G : CGT} {A : Nat → Prop} {s U : State} {H : Heap} {locs : List Loc} (h : cF G A s s.heap) (hS : va_S A s.heap H locs) (hvm : s.vm.Alike U.vm) : cF G A U H :=
  ⟨va_Z.moved hvm (h.1.kept (fun a h1 h2 => hS.2.1 a h1 h2)), h.2.1.elim (fun gE hT => ⟨gE, va_T.moved hvm (hT.kept (fun a h1 h2 => hS.2.1 a h1 h2))⟩), h.2.2.1.elim (fun mi hM => ⟨mi, hM.moved hvm⟩), h.2.2.2.1.moved hvm, h.2.2.2.2.moved hvm⟩
theorem cC_cap {ad : Nat → Nat → Nat} {G : CGT} {k i : Nat} {r : Nat → Int32} {q : Nat → Option Nat} {c1 c2 : Nat} (h3 : k ≠ 3) (h4 : k ≠ 4) : cC ad G k i r q c1 = cC ad G k i r q c2 := by
  match k, h3, h4 with
  | 0, _, _ => rfl
  | 1, _, _ => rfl
  | 2, _, _ => rfl
  | 3, h, _ => exact absurd rfl h
  | 4, _, h => exact absurd rfl h
  | 5, _, _ => rfl
  | 6, _, _ => rfl
  | 7, _, _ => rfl
  | 8, _, _ => rfl
  | 9, _, _ => rfl
  | 10, _, _ => rfl
  | 11, _, _ => rfl
  | 12, _, _ => rfl
  | 13, _, _ => rfl
  | 14, _, _ => rfl
  | 15, _, _ => rfl
  | 16, _, _ => rfl
  | 17, _, _ => rfl
  | k + 18, _, _ => rfl
theorem cC_adU {ad : Nat → Nat → Nat} {G : CGT} {lx a : Nat} : ∀ (k i : Nat) (r : Nat → Int32) (q : Nat → Option Nat) (cap : Nat), ¬ (k = 3 ∧ i = lx) → cC (adU ad 4 lx a) G k i r q cap = cC ad G k i r q cap := by
  intro k i r q cap h
  match k, h with
  | 0, _ => rfl
  | 1, _ => rfl
  | 2, _ => rfl
  | 3, h =>
    show Sum.inr (0, [Value.int (r 0), .ref (if cap = 0 then G.2.2.2.2 else adU ad 4 lx a 4 i), .int (r 2)]) = Sum.inr (0, [Value.int (r 0), .ref (if cap = 0 then G.2.2.2.2 else ad 4 i), .int (r 2)])
    rw [adU_n (fun z => h ⟨rfl, z.2⟩)]
  | 4, _ =>
    show (Sum.inl (G.2.2.1, cap, .inr (.inr (.inr (.inr (fun j => (q j).map (adU ad 4 lx a (cEk i))))))) : va_E) = Sum.inl (G.2.2.1, cap, .inr (.inr (.inr (.inr (fun j => (q j).map (ad (cEk i)))))))
    have e : adU ad 4 lx a (cEk i) = ad (cEk i) := funext fun x => adU_n (fun z => (cEk_ne i).2 z.1)
    rw [e]
  | 5, _ => rfl
  | 6, _ => rfl
  | 7, _ => rfl
  | 8, _ => rfl
  | 9, _ => rfl
  | 10, _ => rfl
  | 11, _ => rfl
  | 12, _ => rfl
  | 13, _ => rfl
  | 14, _ => rfl
  | 15, _ => rfl
  | 16, _ => rfl
  | 17, _ => rfl
  | k + 18, _ => rfl
theorem lCap_pos {n cap : Nat} (h : n < cap ∨ (n = 0 ∧ cap = 0) ∨ (n = cap ∧ 2 ≤ cap)) : 0 < lCap n cap := by
  unfold lCap
  by_cases c : n < cap
  · rw [if_pos c]; omega
  · rw [if_neg c]
    by_cases c2 : cap = 0
    · rw [if_pos c2]; omega
    · rw [if_neg c2]; omega
theorem zAdd_lv {Z : CZ} {lx v : Nat} (h8 : lx < 8) (hp : 0 < lCap (Z.1 3 lx 2).toNatClampNeg (Z.2.2 (10 + lx))) (k i : Nat) : cLv (zAdd Z lx v).2.2 k i = true ↔ cLv Z.2.2 k i = true ∨ (k = 4 ∧ i = lx) := by
  have e1 : ∀ m, m ≠ 10 + lx → (zAdd Z lx v).2.2 m = Z.2.2 m := fun m hm => if_neg hm
  have e2 : (zAdd Z lx v).2.2 (10 + lx) = lCap (Z.1 3 lx 2).toNatClampNeg (Z.2.2 (10 + lx)) := if_pos rfl
  have hs : ∀ k, k ≠ 4 → cLv (zAdd Z lx v).2.2 k i = cLv Z.2.2 k i := by
    intro k hk
    match k, hk with
    | 0, _ => rfl
    | 1, _ => rfl
    | 2, _ => rfl
    | 3, _ => rfl
    | 4, hk => exact absurd rfl hk
    | 5, _ => show (decide (i < (zAdd Z lx v).2.2 0) || _) = (decide (i < Z.2.2 0) || _); rw [e1 0 (by omega)]
    | 6, _ => show (decide (i < (zAdd Z lx v).2.2 0) || _) = (decide (i < Z.2.2 0) || _); rw [e1 0 (by omega)]
    | 7, _ => show (decide (i < (zAdd Z lx v).2.2 0) || _) = (decide (i < Z.2.2 0) || _); rw [e1 0 (by omega)]
    | 8, _ => show (decide (i < (zAdd Z lx v).2.2 0) || _) = (decide (i < Z.2.2 0) || _); rw [e1 0 (by omega)]
    | 9, _ => show decide (i < (zAdd Z lx v).2.2 1) = decide (i < Z.2.2 1); rw [e1 1 (by omega)]
    | 10, _ => rfl
    | 11, _ => rfl
    | 12, _ => rfl
    | 13, _ => show decide (i < (zAdd Z lx v).2.2 2) = decide (i < Z.2.2 2); rw [e1 2 (by omega)]
    | 14, _ => show decide (i < (zAdd Z lx v).2.2 2) = decide (i < Z.2.2 2); rw [e1 2 (by omega)]
    | 15, _ => rfl
    | 16, _ => rfl
    | 17, _ => rfl
    | 18, _ => rfl
    | k + 19, _ => rfl
  by_cases hk : k = 4
  · subst hk
    by_cases hi : i = lx
    · subst hi
      refine ⟨fun _ => Or.inr ⟨rfl, rfl⟩, fun _ => ?_⟩
      show (decide (i < 8) && decide (0 < (zAdd Z i v).2.2 (10 + i))) = true
      rw [e2, decide_eq_true h8, decide_eq_true hp]
      rfl
    · have : cLv (zAdd Z lx v).2.2 4 i = cLv Z.2.2 4 i := by
        show (decide (i < 8) && decide (0 < (zAdd Z lx v).2.2 (10 + i))) = (decide (i < 8) && decide (0 < Z.2.2 (10 + i)))
        rw [e1 (10 + i) (by omega)]
      rw [this]
      exact ⟨Or.inl, fun h => h.resolve_right (fun z => hi z.2)⟩
  · rw [hs k hk]
    exact ⟨Or.inl, fun h => h.resolve_right (fun z => hk z.1)⟩
theorem cl_grown {D : va_G} {G : CGT} {A : Nat → Prop} {ad : Nat → Nat → Nat} {Z : CZ} {H H1 : Heap} {lx v q : Nat} {f : Nat → Option Nat} (hI : cI A ad Z.2.2) (hN : cN D G ad Z H) (h8 : lx < 8) (hp : 0 < lCap (Z.1 3 lx 2).toNatClampNeg (Z.2.2 (10 + lx))) (hq : A q ∧ (H.size ≤ q ∨ (cLv Z.2.2 4 lx = true ∧ q = ad 4 lx))) (hk : ∀ x : Nat, x < H.size → x ≠ ad 3 lx → ¬ (cLv Z.2.2 4 lx = true ∧ x = ad 4 lx) → H1[x]? = H[x]?)
    (h1 : va_P D vwCl (lW (ad 3 lx) q (Z.1 3 lx 0 + 1) (nI ((Z.1 3 lx 2).toNatClampNeg + 1)) G.2.2.1 (lCap (Z.1 3 lx 2).toNatClampNeg (Z.2.2 (10 + lx))) f) H1) (hf : f = fun j => ((zAdd Z lx v).2.1 4 lx j).map (ad (cEk lx))) : cI A (adU ad 4 lx q) (zAdd Z lx v).2.2 ∧ cN D G (adU ad 4 lx q) (zAdd Z lx v) H1 := by
  have h3 : cLv Z.2.2 3 lx = true := decide_eq_true h8
  have key : ∀ k i, cLv (zAdd Z lx v).2.2 k i = true → ¬ (k = 4 ∧ i = lx) → cLv Z.2.2 k i = true ∧ adU ad 4 lx q k i = ad k i := fun k i h hn => ⟨((zAdd_lv h8 hp k i).mp h).resolve_right hn, adU_n hn⟩
  have hnq : ∀ k i, cLv Z.2.2 k i = true → ¬ (k = 4 ∧ i = lx) → ad k i ≠ q := by
    intro k i hl hn e
    have hlt := (hN k i hl).lt
    rcases hq.2 with h9 | ⟨h9, h10⟩
    · have : ad k i < H.size := hlt
      omega
    · exact hn (hI.1 k i 4 lx hl h9 (e.trans h10))
  refine ⟨⟨fun k i k' i' h h' e => ?_, fun k i h => ?_⟩, fun k i h => ?_⟩
  · by_cases c : k = 4 ∧ i = lx
    · by_cases c' : k' = 4 ∧ i' = lx
      · exact ⟨c.1.trans c'.1.symm, c.2.trans c'.2.symm⟩
      · obtain ⟨g1, g2⟩ := key k' i' h' c'
        rw [g2] at e
        obtain ⟨rfl, rfl⟩ := c
        rw [adU_s] at e
        exact absurd e.symm (hnq k' i' g1 c')
    · obtain ⟨g1, g2⟩ := key k i h c
      rw [g2] at e
      by_cases c' : k' = 4 ∧ i' = lx
      · obtain ⟨rfl, rfl⟩ := c'
        rw [adU_s] at e
        exact absurd e (hnq k i g1 c)
      · obtain ⟨g3, g4⟩ := key k' i' h' c'
        rw [g4] at e
        exact hI.1 k i k' i' g1 g3 e
  · by_cases c : k = 4 ∧ i = lx
    · obtain ⟨rfl, rfl⟩ := c
      show A (adU ad 4 i q 4 i)
      rw [adU_s]
      exact hq.1
    · obtain ⟨g1, g2⟩ := key k i h c
      show A (adU ad 4 lx q k i)
      rw [g2]
      exact hI.2 k i g1
  · have h : cLv (zAdd Z lx v).2.2 k i = true := h
    have ecap : (zAdd Z lx v).2.2 (10 + lx) = lCap (Z.1 3 lx 2).toNatClampNeg (Z.2.2 (10 + lx)) := if_pos rfl
    by_cases c : k = 4 ∧ i = lx
    · obtain ⟨rfl, rfl⟩ := c
      show va_at D vwCl (adU ad 4 i q 4 i, cC (adU ad 4 i q) G 4 i _ ((zAdd Z i v).2.1 4 i) ((zAdd Z i v).2.2 (10 + i))) H1
      rw [adU_s, cC_adU 4 i _ _ _ (by omega), ecap]
      have := h1 1 _ rfl
      rw [hf] at this
      exact this
    · obtain ⟨g1, g2⟩ := key k i h c
      show va_at D vwCl (adU ad 4 lx q k i, cC (adU ad 4 lx q) G k i ((zAdd Z lx v).1 k i) ((zAdd Z lx v).2.1 k i) ((zAdd Z lx v).2.2 (10 + i))) H1
      rw [g2]
      by_cases c3 : k = 3 ∧ i = lx
      · obtain ⟨rfl, rfl⟩ := c3
        have er : (zAdd Z i v).1 3 i = upd (upd (Z.1 3 i) 0 (Z.1 3 i 0 + 1)) 2 (nI ((Z.1 3 i 2).toNatClampNeg + 1)) := if_pos ⟨rfl, rfl⟩
        show va_at D vwCl (ad 3 i, .inr (0, [.int ((zAdd Z i v).1 3 i 0), .ref (if (zAdd Z i v).2.2 (10 + i) = 0 then G.2.2.2.2 else adU ad 4 i q 4 i), .int ((zAdd Z i v).1 3 i 2)])) H1
        rw [er, ecap, if_neg (by omega), adU_s]
        exact h1 0 _ rfl
      · rw [cC_adU k i _ _ _ c3, show (zAdd Z lx v).1 k i = Z.1 k i from if_neg c3, show (zAdd Z lx v).2.1 k i = Z.2.1 k i from if_neg c]
        by_cases cl : i = lx
        · by_cases hk4 : k = 4
          · exact absurd ⟨hk4, cl⟩ c
          · have e9 : cC ad G k i (Z.1 k i) (Z.2.1 k i) ((zAdd Z lx v).2.2 (10 + i)) = cC ad G k i (Z.1 k i) (Z.2.1 k i) (Z.2.2 (10 + i)) := cC_cap (fun z => c3 ⟨z, cl⟩) hk4
            rw [e9]
            exact (hN k i g1).kept (hk _ (hN k i g1).lt (fun z => c3 (hI.1 k i 3 lx g1 h3 z)) (fun z => c (hI.1 k i 4 lx g1 z.1 z.2)))
        · rw [show (zAdd Z lx v).2.2 (10 + i) = Z.2.2 (10 + i) from if_neg (by omega)]
          exact (hN k i g1).kept (hk _ (hN k i g1).lt (fun z => c3 (hI.1 k i 3 lx g1 h3 z)) (fun z => c (hI.1 k i 4 lx g1 z.1 z.2)))
