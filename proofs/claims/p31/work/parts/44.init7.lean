abbrev cWi (kI kZ kO kA : ClassId) (eA o : Nat) (l0 : Nat) (l1 : Nat) (Lo : Nat) (Lq1 : Nat) (Lp0 : Nat) (Lp0t : Nat) (Lp0b : Nat) (Lp0s : Nat) (Lp1 : Nat) (Lp1t : Nat) (Lp1b : Nat) (Lp1s : Nat) (Lp2 : Nat) (Lp2t : Nat) (Lp2b : Nat) (Lp2s : Nat) (Lq2 : Nat) (Lq2aaa : Nat) (To : Nat) (Tq1 : Nat) (Tq2 : Nat) (b0 : Nat) (b0l : Nat) (b0s : Nat) (b0m : Nat) (b1 : Nat) (b1l : Nat) (b1s : Nat) (b1m : Nat) (b2 : Nat) (b2l : Nat) (b2s : Nat) (b2m : Nat) (b3 : Nat) (b3l : Nat) (b3s : Nat) (b3m : Nat) (l2 : Nat) (l2aaaa : Nat) (Tr : Nat → Nat) : va_W := [(o, .inr (7, [.ref l0, .ref l1, .ref l2, .ref Lo, .ref To, .int 0, .int 0])), (l0, .inr (0, [.int 0, .ref eA, .int 0])), (l1, .inr (0, [.int 0, .ref eA, .int 0])), (Lo, .inr (4, [.ref Lq1, .ref Lq2])), (Lq1, .inl (kI, 3, .inl (fun _ => 0))), (Lp0, .inr (2, [.int 0, .ref Lp0t, .ref Lp0b, .ref Lp0s, .int 0])), (Lp0t, .inl (kI, 4, .inl (fun _ => 0))), (Lp0b, .inl (kI, 4, .inl (fun _ => 0))), (Lp0s, .inl (kZ, 4, .inl (fun _ => 0))), (Lp1, .inr (2, [.int 1, .ref Lp1t, .ref Lp1b, .ref Lp1s, .int 0])), (Lp1t, .inl (kI, 4, .inl (fun _ => 0))), (Lp1b, .inl (kI, 4, .inl (fun _ => 0))), (Lp1s, .inl (kZ, 4, .inl (fun _ => 0))), (Lp2, .inr (2, [.int 2, .ref Lp2t, .ref Lp2b, .ref Lp2s, .int 0])), (Lp2t, .inl (kI, 4, .inl (fun _ => 0))), (Lp2b, .inl (kI, 4, .inl (fun _ => 0))), (Lp2s, .inl (kZ, 4, .inl (fun _ => 0))), (Lq2, .inr (0, [.int (((0 + 1) + 1) + 1), .ref Lq2aaa, .int (nI (((0 + 1) + 1) + 1))])), (Lq2aaa, .inl (kO, 10, .inr (.inr (.inr (.inr (va_up (va_up (va_up (fun _ => none) 0 (some Lp0)) ((0 + 1)) (some Lp1)) (((0 + 1) + 1)) (some Lp2))))))), (To, .inr (3, [.ref Tq1, .ref Tq2])), (Tq1, .inl (kI, 6, .inl (fun _ => 0))), (Tq2, .inl (kA, 6, .inr (.inr (.inr (.inr (fun i => if i < 6 then some (Tr i) else none)))))), (Tr 0, .inl (kI, 8, .inl (fun _ => 0))), (Tr 1, .inl (kI, 8, .inl (fun _ => 0))), (Tr 2, .inl (kI, 8, .inl (fun _ => 0))), (Tr 3, .inl (kI, 8, .inl (fun _ => 0))), (Tr 4, .inl (kI, 8, .inl (fun _ => 0))), (Tr 5, .inl (kI, 8, .inl (fun _ => 0))), (b0, .inr (1, [.ref b0l, .ref b0s, .ref b0m, .int 0, .int (-1), .int (-1), .int 0])), (b0l, .inr (0, [.int 0, .ref eA, .int 0])), (b0s, .inl (kI, 24, .inl (fun _ => 0))), (b0m, .inl (kI, 5, .inl (fill5 (fun _ => 0)))), (b1, .inr (1, [.ref b1l, .ref b1s, .ref b1m, .int 0, .int (-1), .int (-1), .int 0])), (b1l, .inr (0, [.int 0, .ref eA, .int 0])), (b1s, .inl (kI, 24, .inl (fun _ => 0))), (b1m, .inl (kI, 5, .inl (fill5 (fun _ => 0)))), (b2, .inr (1, [.ref b2l, .ref b2s, .ref b2m, .int 0, .int (-1), .int (-1), .int 0])), (b2l, .inr (0, [.int 0, .ref eA, .int 0])), (b2s, .inl (kI, 24, .inl (fun _ => 0))), (b2m, .inl (kI, 5, .inl (fill5 (fun _ => 0)))), (b3, .inr (1, [.ref b3l, .ref b3s, .ref b3m, .int 0, .int (-1), .int (-1), .int 0])), (b3l, .inr (0, [.int 0, .ref eA, .int 0])), (b3s, .inl (kI, 24, .inl (fun _ => 0))), (b3m, .inl (kI, 5, .inl (fill5 (fun _ => 0)))), (l2, .inr (0, [.int ((((0 + 1) + 1) + 1) + 1), .ref l2aaaa, .int (nI ((((0 + 1) + 1) + 1) + 1))])), (l2aaaa, .inl (kO, 10, .inr (.inr (.inr (.inr (va_up (va_up (va_up (va_up (fun _ => none) 0 (some b0)) ((0 + 1)) (some b1)) (((0 + 1) + 1)) (some b2)) ((((0 + 1) + 1) + 1)) (some b3)))))))]
def cAdI (o : Nat) (l0 : Nat) (l1 : Nat) (Lo : Nat) (Lq1 : Nat) (Lp0 : Nat) (Lp0t : Nat) (Lp0b : Nat) (Lp0s : Nat) (Lp1 : Nat) (Lp1t : Nat) (Lp1b : Nat) (Lp1s : Nat) (Lp2 : Nat) (Lp2t : Nat) (Lp2b : Nat) (Lp2s : Nat) (Lq2 : Nat) (Lq2aaa : Nat) (To : Nat) (Tq1 : Nat) (Tq2 : Nat) (b0 : Nat) (b0l : Nat) (b0s : Nat) (b0m : Nat) (b1 : Nat) (b1l : Nat) (b1s : Nat) (b1m : Nat) (b2 : Nat) (b2l : Nat) (b2s : Nat) (b2m : Nat) (b3 : Nat) (b3l : Nat) (b3s : Nat) (b3m : Nat) (l2 : Nat) (l2aaaa : Nat) (Tr : Nat → Nat) (k : Nat) : Nat → Nat := match k with | 0 => (fun i => match i with | 0 => o | _ => 0) | 1 => (fun i => match i with | 0 => Lo | _ => 0) | 2 => (fun i => match i with | 0 => To | _ => 0) | 3 => (fun i => match i with | 0 => l0 | 1 => l1 | 2 => l2 | 3 => Lq2 | 4 => b0l | 5 => b1l | 6 => b2l | 7 => b3l | _ => 0) | 4 => (fun i => match i with | 2 => l2aaaa | 3 => Lq2aaa | _ => 0) | 5 => (fun i => match i with | 6 => Lp0 | 7 => Lp1 | 8 => Lp2 | _ => 0) | 6 => (fun i => match i with | 6 => Lp0t | 7 => Lp1t | 8 => Lp2t | _ => 0) | 7 => (fun i => match i with | 6 => Lp0b | 7 => Lp1b | 8 => Lp2b | _ => 0) | 8 => (fun i => match i with | 6 => Lp0s | 7 => Lp1s | 8 => Lp2s | _ => 0) | 10 => (fun i => match i with | 0 => b0 | 1 => b1 | 2 => b2 | 3 => b3 | _ => 0) | 11 => (fun i => match i with | 0 => b0s | 1 => b1s | 2 => b2s | 3 => b3s | _ => 0) | 12 => (fun i => match i with | 0 => b0m | 1 => b1m | 2 => b2m | 3 => b3m | _ => 0) | 15 => (fun i => match i with | 0 => Lq1 | _ => 0) | 16 => (fun i => match i with | 0 => Tq1 | _ => 0) | 17 => (fun i => match i with | 0 => Tq2 | _ => 0) | 18 => Tr | _ => fun _ => 0
def cPosI (k : Nat) : Nat → Nat := match k with | 0 => (fun i => match i with | 0 => 0 | _ => 0) | 1 => (fun i => match i with | 0 => 3 | _ => 0) | 2 => (fun i => match i with | 0 => 19 | _ => 0) | 3 => (fun i => match i with | 0 => 1 | 1 => 2 | 2 => 44 | 3 => 17 | 4 => 29 | 5 => 33 | 6 => 37 | 7 => 41 | _ => 0) | 4 => (fun i => match i with | 2 => 45 | 3 => 18 | _ => 0) | 5 => (fun i => match i with | 6 => 5 | 7 => 9 | 8 => 13 | _ => 0) | 6 => (fun i => match i with | 6 => 6 | 7 => 10 | 8 => 14 | _ => 0) | 7 => (fun i => match i with | 6 => 7 | 7 => 11 | 8 => 15 | _ => 0) | 8 => (fun i => match i with | 6 => 8 | 7 => 12 | 8 => 16 | _ => 0) | 10 => (fun i => match i with | 0 => 28 | 1 => 32 | 2 => 36 | 3 => 40 | _ => 0) | 11 => (fun i => match i with | 0 => 30 | 1 => 34 | 2 => 38 | 3 => 42 | _ => 0) | 12 => (fun i => match i with | 0 => 31 | 1 => 35 | 2 => 39 | 3 => 43 | _ => 0) | 15 => (fun i => match i with | 0 => 4 | _ => 0) | 16 => (fun i => match i with | 0 => 20 | _ => 0) | 17 => (fun i => match i with | 0 => 21 | _ => 0) | 18 => (fun i => match i with | 0 => 22 | 1 => 23 | 2 => 24 | 3 => 25 | 4 => 26 | 5 => 27 | _ => 0) | _ => fun _ => 0
def cInvI (p : Nat) : Nat × Nat := match p with | 0 => (0, 0) | 1 => (3, 0) | 2 => (3, 1) | 3 => (1, 0) | 4 => (15, 0) | 5 => (5, 6) | 6 => (6, 6) | 7 => (7, 6) | 8 => (8, 6) | 9 => (5, 7) | 10 => (6, 7) | 11 => (7, 7) | 12 => (8, 7) | 13 => (5, 8) | 14 => (6, 8) | 15 => (7, 8) | 16 => (8, 8) | 17 => (3, 3) | 18 => (4, 3) | 19 => (2, 0) | 20 => (16, 0) | 21 => (17, 0) | 22 => (18, 0) | 23 => (18, 1) | 24 => (18, 2) | 25 => (18, 3) | 26 => (18, 4) | 27 => (18, 5) | 28 => (10, 0) | 29 => (3, 4) | 30 => (11, 0) | 31 => (12, 0) | 32 => (10, 1) | 33 => (3, 5) | 34 => (11, 1) | 35 => (12, 1) | 36 => (10, 2) | 37 => (3, 6) | 38 => (11, 2) | 39 => (12, 2) | 40 => (10, 3) | 41 => (3, 7) | 42 => (11, 3) | 43 => (12, 3) | 44 => (3, 2) | 45 => (4, 2) | _ => (0, 0)
/-- the class's state as it is made -/
def Z0 : CZ := (fun k i => match k with
    | 3 => (match i with | 2 => fun f => (match f with | 0 => ((((0 + 1) + 1) + 1) + 1) | 2 => (nI ((((0 + 1) + 1) + 1) + 1)) | _ => 0) | 3 => fun f => (match f with | 0 => (((0 + 1) + 1) + 1) | 2 => (nI (((0 + 1) + 1) + 1)) | _ => 0) | _ => fun _ => 0)
    | 5 => (match i with | 7 => fun f => (match f with | 0 => 1 | _ => 0) | 8 => fun f => (match f with | 0 => 2 | _ => 0) | _ => fun _ => 0)
    | 10 => fun f => (match f with | 4 => -1 | 5 => -1 | _ => 0)
    | 12 => fill5 (fun _ => 0)
    | _ => fun _ => 0,
  fun k i => match k with
    | 4 => (match i with | 2 => (va_up (va_up (va_up (va_up (fun _ => none) 0 (some 0)) ((0 + 1)) (some 1)) (((0 + 1) + 1)) (some 2)) ((((0 + 1) + 1) + 1)) (some 3)) | 3 => (va_up (va_up (va_up (fun _ => none) 0 (some 6)) ((0 + 1)) (some 7)) (((0 + 1) + 1)) (some 8)) | _ => fun _ => none)
    | _ => fun _ => none,
  fun m => match m with | 12 => 10 | 13 => 10 | _ => 0)
set_option maxRecDepth 100000 in
theorem cInv_pos : ∀ k i, cLv Z0.2.2 k i = true → cInvI (cPosI k i) = (k, i)
  | 0, 0, _ => rfl
  | 0, i + 1, h => absurd (of_decide_eq_true (show decide (i + 1 = 0) = true from h)) (by omega)
  | 1, 0, _ => rfl
  | 1, i + 1, h => absurd (of_decide_eq_true (show decide (i + 1 = 0) = true from h)) (by omega)
  | 2, 0, _ => rfl
  | 2, i + 1, h => absurd (of_decide_eq_true (show decide (i + 1 = 0) = true from h)) (by omega)
  | 3, 0, _ => rfl
  | 3, 1, _ => rfl
  | 3, 2, _ => rfl
  | 3, 3, _ => rfl
  | 3, 4, _ => rfl
  | 3, 5, _ => rfl
  | 3, 6, _ => rfl
  | 3, 7, _ => rfl
  | 3, i + 8, h => absurd (of_decide_eq_true (show decide (i + 8 < 8) = true from h)) (by omega)
  | 4, 0, h => absurd h (by decide)
  | 4, 1, h => absurd h (by decide)
  | 4, 2, _ => rfl
  | 4, 3, _ => rfl
  | 4, 4, h => absurd h (by decide)
  | 4, 5, h => absurd h (by decide)
  | 4, 6, h => absurd h (by decide)
  | 4, 7, h => absurd h (by decide)
  | 4, i + 8, h => absurd (cLv_lt h) (by omega)
  | 5, 0, h => absurd h (by decide)
  | 5, 1, h => absurd h (by decide)
  | 5, 2, h => absurd h (by decide)
  | 5, 3, h => absurd h (by decide)
  | 5, 4, h => absurd h (by decide)
  | 5, 5, h => absurd h (by decide)
  | 5, 6, _ => rfl
  | 5, 7, _ => rfl
  | 5, 8, _ => rfl
  | 5, i + 9, h => absurd (show i + 9 < 0 ∨ (6 ≤ i + 9 ∧ i + 9 < 9) by simpa only [cLv, Bool.or_eq_true, Bool.and_eq_true, decide_eq_true_eq] using (show (decide (i + 9 < 0) || (decide (6 ≤ i + 9) && decide (i + 9 < 9))) = true from h)) (by omega)
  | 6, 0, h => absurd h (by decide)
  | 6, 1, h => absurd h (by decide)
  | 6, 2, h => absurd h (by decide)
  | 6, 3, h => absurd h (by decide)
  | 6, 4, h => absurd h (by decide)
  | 6, 5, h => absurd h (by decide)
  | 6, 6, _ => rfl
  | 6, 7, _ => rfl
  | 6, 8, _ => rfl
  | 6, i + 9, h => absurd (show i + 9 < 0 ∨ (6 ≤ i + 9 ∧ i + 9 < 9) by simpa only [cLv, Bool.or_eq_true, Bool.and_eq_true, decide_eq_true_eq] using (show (decide (i + 9 < 0) || (decide (6 ≤ i + 9) && decide (i + 9 < 9))) = true from h)) (by omega)
  | 7, 0, h => absurd h (by decide)
  | 7, 1, h => absurd h (by decide)
  | 7, 2, h => absurd h (by decide)
  | 7, 3, h => absurd h (by decide)
  | 7, 4, h => absurd h (by decide)
  | 7, 5, h => absurd h (by decide)
  | 7, 6, _ => rfl
  | 7, 7, _ => rfl
  | 7, 8, _ => rfl
  | 7, i + 9, h => absurd (show i + 9 < 0 ∨ (6 ≤ i + 9 ∧ i + 9 < 9) by simpa only [cLv, Bool.or_eq_true, Bool.and_eq_true, decide_eq_true_eq] using (show (decide (i + 9 < 0) || (decide (6 ≤ i + 9) && decide (i + 9 < 9))) = true from h)) (by omega)
  | 8, 0, h => absurd h (by decide)
  | 8, 1, h => absurd h (by decide)
  | 8, 2, h => absurd h (by decide)
  | 8, 3, h => absurd h (by decide)
  | 8, 4, h => absurd h (by decide)
  | 8, 5, h => absurd h (by decide)
  | 8, 6, _ => rfl
  | 8, 7, _ => rfl
  | 8, 8, _ => rfl
  | 8, i + 9, h => absurd (show i + 9 < 0 ∨ (6 ≤ i + 9 ∧ i + 9 < 9) by simpa only [cLv, Bool.or_eq_true, Bool.and_eq_true, decide_eq_true_eq] using (show (decide (i + 9 < 0) || (decide (6 ≤ i + 9) && decide (i + 9 < 9))) = true from h)) (by omega)
  | 9, i, h => absurd (of_decide_eq_true (show decide (i < 0) = true from h)) (by omega)
  | 10, 0, _ => rfl
  | 10, 1, _ => rfl
  | 10, 2, _ => rfl
  | 10, 3, _ => rfl
  | 10, i + 4, h => absurd (of_decide_eq_true (show decide (i + 4 < 4) = true from h)) (by omega)
  | 11, 0, _ => rfl
  | 11, 1, _ => rfl
  | 11, 2, _ => rfl
  | 11, 3, _ => rfl
  | 11, i + 4, h => absurd (of_decide_eq_true (show decide (i + 4 < 4) = true from h)) (by omega)
  | 12, 0, _ => rfl
  | 12, 1, _ => rfl
  | 12, 2, _ => rfl
  | 12, 3, _ => rfl
  | 12, i + 4, h => absurd (of_decide_eq_true (show decide (i + 4 < 4) = true from h)) (by omega)
  | 13, i, h => absurd (of_decide_eq_true (show decide (i < 0) = true from h)) (by omega)
  | 14, i, h => absurd (of_decide_eq_true (show decide (i < 0) = true from h)) (by omega)
  | 15, 0, _ => rfl
  | 15, i + 1, h => absurd (of_decide_eq_true (show decide (i + 1 = 0) = true from h)) (by omega)
  | 16, 0, _ => rfl
  | 16, i + 1, h => absurd (of_decide_eq_true (show decide (i + 1 = 0) = true from h)) (by omega)
  | 17, 0, _ => rfl
  | 17, i + 1, h => absurd (of_decide_eq_true (show decide (i + 1 = 0) = true from h)) (by omega)
  | 18, 0, _ => rfl
  | 18, 1, _ => rfl
  | 18, 2, _ => rfl
  | 18, 3, _ => rfl
  | 18, 4, _ => rfl
  | 18, 5, _ => rfl
  | 18, i + 6, h => absurd (of_decide_eq_true (show decide (i + 6 < 6) = true from h)) (by omega)
  | k + 19, _, h => by cases h
theorem chain2 (kI kZ kO kA : ClassId) (eA o : Nat) (l0 : Nat) (l1 : Nat) (Lo : Nat) (Lq1 : Nat) (Lp0 : Nat) (Lp0t : Nat) (Lp0b : Nat) (Lp0s : Nat) (Lp1 : Nat) (Lp1t : Nat) (Lp1b : Nat) (Lp1s : Nat) (Lp2 : Nat) (Lp2t : Nat) (Lp2b : Nat) (Lp2s : Nat) (Lq2 : Nat) (Lq2aaa : Nat) (To : Nat) (Tq1 : Nat) (Tq2 : Nat) (b0 : Nat) (b0l : Nat) (b0s : Nat) (b0m : Nat) (b1 : Nat) (b1l : Nat) (b1s : Nat) (b1m : Nat) (b2 : Nat) (b2l : Nat) (b2s : Nat) (b2m : Nat) (b3 : Nat) (b3l : Nat) (b3s : Nat) (b3m : Nat) (l2 : Nat) (l2aaaa : Nat) (Tr : Nat → Nat) : (cWi kI kZ kO kA eA o l0 l1 Lo Lq1 Lp0 Lp0t Lp0b Lp0s Lp1 Lp1t Lp1b Lp1s Lp2 Lp2t Lp2b Lp2s Lq2 Lq2aaa To Tq1 Tq2 b0 b0l b0s b0m b1 b1l b1s b1m b2 b2l b2s b2m b3 b3l b3s b3m l2 l2aaaa Tr)[cPosI 4 2]? = some (cAdI o l0 l1 Lo Lq1 Lp0 Lp0t Lp0b Lp0s Lp1 Lp1t Lp1b Lp1s Lp2 Lp2t Lp2b Lp2s Lq2 Lq2aaa To Tq1 Tq2 b0 b0l b0s b0m b1 b1l b1s b1m b2 b2l b2s b2m b3 b3l b3s b3m l2 l2aaaa Tr 4 2, cS (cAdI o l0 l1 Lo Lq1 Lp0 Lp0t Lp0b Lp0s Lp1 Lp1t Lp1b Lp1s Lp2 Lp2t Lp2b Lp2s Lq2 Lq2aaa To Tq1 Tq2 b0 b0l b0s b0m b1 b1l b1s b1m b2 b2l b2s b2m b3 b3l b3s b3m l2 l2aaaa Tr) (kI, kZ, kO, kA, eA) Z0 4 2) := by
  have e : (va_up (va_up (va_up (va_up (fun _ => none) 0 (some b0)) ((0 + 1)) (some b1)) (((0 + 1) + 1)) (some b2)) ((((0 + 1) + 1) + 1)) (some b3)) = fun j => ((va_up (va_up (va_up (va_up (fun _ => none) 0 (some 0)) ((0 + 1)) (some 1)) (((0 + 1) + 1)) (some 2)) ((((0 + 1) + 1) + 1)) (some 3)) j).map (cAdI o l0 l1 Lo Lq1 Lp0 Lp0t Lp0b Lp0s Lp1 Lp1t Lp1b Lp1s Lp2 Lp2t Lp2b Lp2s Lq2 Lq2aaa To Tq1 Tq2 b0 b0l b0s b0m b1 b1l b1s b1m b2 b2l b2s b2m b3 b3l b3s b3m l2 l2aaaa Tr 10) := by
    rw [← up_map]
    rw [← up_map]
    rw [← up_map]
    rw [← up_map]
    rfl
  show some (l2aaaa, (.inl (kO, 10, .inr (.inr (.inr (.inr (va_up (va_up (va_up (va_up (fun _ => none) 0 (some b0)) ((0 + 1)) (some b1)) (((0 + 1) + 1)) (some b2)) ((((0 + 1) + 1) + 1)) (some b3)))))) : va_E)) = some (l2aaaa, .inl (kO, 10, .inr (.inr (.inr (.inr (fun j => ((va_up (va_up (va_up (va_up (fun _ => none) 0 (some 0)) ((0 + 1)) (some 1)) (((0 + 1) + 1)) (some 2)) ((((0 + 1) + 1) + 1)) (some 3)) j).map (cAdI o l0 l1 Lo Lq1 Lp0 Lp0t Lp0b Lp0s Lp1 Lp1t Lp1b Lp1s Lp2 Lp2t Lp2b Lp2s Lq2 Lq2aaa To Tq1 Tq2 b0 b0l b0s b0m b1 b1l b1s b1m b2 b2l b2s b2m b3 b3l b3s b3m l2 l2aaaa Tr (cEk 2))))))))
  rw [e]
  rfl
theorem chain3 (kI kZ kO kA : ClassId) (eA o : Nat) (l0 : Nat) (l1 : Nat) (Lo : Nat) (Lq1 : Nat) (Lp0 : Nat) (Lp0t : Nat) (Lp0b : Nat) (Lp0s : Nat) (Lp1 : Nat) (Lp1t : Nat) (Lp1b : Nat) (Lp1s : Nat) (Lp2 : Nat) (Lp2t : Nat) (Lp2b : Nat) (Lp2s : Nat) (Lq2 : Nat) (Lq2aaa : Nat) (To : Nat) (Tq1 : Nat) (Tq2 : Nat) (b0 : Nat) (b0l : Nat) (b0s : Nat) (b0m : Nat) (b1 : Nat) (b1l : Nat) (b1s : Nat) (b1m : Nat) (b2 : Nat) (b2l : Nat) (b2s : Nat) (b2m : Nat) (b3 : Nat) (b3l : Nat) (b3s : Nat) (b3m : Nat) (l2 : Nat) (l2aaaa : Nat) (Tr : Nat → Nat) : (cWi kI kZ kO kA eA o l0 l1 Lo Lq1 Lp0 Lp0t Lp0b Lp0s Lp1 Lp1t Lp1b Lp1s Lp2 Lp2t Lp2b Lp2s Lq2 Lq2aaa To Tq1 Tq2 b0 b0l b0s b0m b1 b1l b1s b1m b2 b2l b2s b2m b3 b3l b3s b3m l2 l2aaaa Tr)[cPosI 4 3]? = some (cAdI o l0 l1 Lo Lq1 Lp0 Lp0t Lp0b Lp0s Lp1 Lp1t Lp1b Lp1s Lp2 Lp2t Lp2b Lp2s Lq2 Lq2aaa To Tq1 Tq2 b0 b0l b0s b0m b1 b1l b1s b1m b2 b2l b2s b2m b3 b3l b3s b3m l2 l2aaaa Tr 4 3, cS (cAdI o l0 l1 Lo Lq1 Lp0 Lp0t Lp0b Lp0s Lp1 Lp1t Lp1b Lp1s Lp2 Lp2t Lp2b Lp2s Lq2 Lq2aaa To Tq1 Tq2 b0 b0l b0s b0m b1 b1l b1s b1m b2 b2l b2s b2m b3 b3l b3s b3m l2 l2aaaa Tr) (kI, kZ, kO, kA, eA) Z0 4 3) := by
  have e : (va_up (va_up (va_up (fun _ => none) 0 (some Lp0)) ((0 + 1)) (some Lp1)) (((0 + 1) + 1)) (some Lp2)) = fun j => ((va_up (va_up (va_up (fun _ => none) 0 (some 6)) ((0 + 1)) (some 7)) (((0 + 1) + 1)) (some 8)) j).map (cAdI o l0 l1 Lo Lq1 Lp0 Lp0t Lp0b Lp0s Lp1 Lp1t Lp1b Lp1s Lp2 Lp2t Lp2b Lp2s Lq2 Lq2aaa To Tq1 Tq2 b0 b0l b0s b0m b1 b1l b1s b1m b2 b2l b2s b2m b3 b3l b3s b3m l2 l2aaaa Tr 5) := by
    rw [← up_map]
    rw [← up_map]
    rw [← up_map]
    rfl
  show some (Lq2aaa, (.inl (kO, 10, .inr (.inr (.inr (.inr (va_up (va_up (va_up (fun _ => none) 0 (some Lp0)) ((0 + 1)) (some Lp1)) (((0 + 1) + 1)) (some Lp2)))))) : va_E)) = some (Lq2aaa, .inl (kO, 10, .inr (.inr (.inr (.inr (fun j => ((va_up (va_up (va_up (fun _ => none) 0 (some 6)) ((0 + 1)) (some 7)) (((0 + 1) + 1)) (some 8)) j).map (cAdI o l0 l1 Lo Lq1 Lp0 Lp0t Lp0b Lp0s Lp1 Lp1t Lp1b Lp1s Lp2 Lp2t Lp2b Lp2s Lq2 Lq2aaa To Tq1 Tq2 b0 b0l b0s b0m b1 b1l b1s b1m b2 b2l b2s b2m b3 b3l b3s b3m l2 l2aaaa Tr (cEk 3))))))))
  rw [e]
  rfl
set_option maxRecDepth 100000 in
set_option maxHeartbeats 4000000 in
theorem cWi_get (kI kZ kO kA : ClassId) (eA o : Nat) (l0 : Nat) (l1 : Nat) (Lo : Nat) (Lq1 : Nat) (Lp0 : Nat) (Lp0t : Nat) (Lp0b : Nat) (Lp0s : Nat) (Lp1 : Nat) (Lp1t : Nat) (Lp1b : Nat) (Lp1s : Nat) (Lp2 : Nat) (Lp2t : Nat) (Lp2b : Nat) (Lp2s : Nat) (Lq2 : Nat) (Lq2aaa : Nat) (To : Nat) (Tq1 : Nat) (Tq2 : Nat) (b0 : Nat) (b0l : Nat) (b0s : Nat) (b0m : Nat) (b1 : Nat) (b1l : Nat) (b1s : Nat) (b1m : Nat) (b2 : Nat) (b2l : Nat) (b2s : Nat) (b2m : Nat) (b3 : Nat) (b3l : Nat) (b3s : Nat) (b3m : Nat) (l2 : Nat) (l2aaaa : Nat) (Tr : Nat → Nat) : ∀ k i, cLv Z0.2.2 k i = true → (cWi kI kZ kO kA eA o l0 l1 Lo Lq1 Lp0 Lp0t Lp0b Lp0s Lp1 Lp1t Lp1b Lp1s Lp2 Lp2t Lp2b Lp2s Lq2 Lq2aaa To Tq1 Tq2 b0 b0l b0s b0m b1 b1l b1s b1m b2 b2l b2s b2m b3 b3l b3s b3m l2 l2aaaa Tr)[cPosI k i]? = some (cAdI o l0 l1 Lo Lq1 Lp0 Lp0t Lp0b Lp0s Lp1 Lp1t Lp1b Lp1s Lp2 Lp2t Lp2b Lp2s Lq2 Lq2aaa To Tq1 Tq2 b0 b0l b0s b0m b1 b1l b1s b1m b2 b2l b2s b2m b3 b3l b3s b3m l2 l2aaaa Tr k i, cS (cAdI o l0 l1 Lo Lq1 Lp0 Lp0t Lp0b Lp0s Lp1 Lp1t Lp1b Lp1s Lp2 Lp2t Lp2b Lp2s Lq2 Lq2aaa To Tq1 Tq2 b0 b0l b0s b0m b1 b1l b1s b1m b2 b2l b2s b2m b3 b3l b3s b3m l2 l2aaaa Tr) (kI, kZ, kO, kA, eA) Z0 k i)
  | 0, 0, _ => rfl
  | 0, i + 1, h => absurd (of_decide_eq_true (show decide (i + 1 = 0) = true from h)) (by omega)
  | 1, 0, _ => rfl
  | 1, i + 1, h => absurd (of_decide_eq_true (show decide (i + 1 = 0) = true from h)) (by omega)
  | 2, 0, _ => rfl
  | 2, i + 1, h => absurd (of_decide_eq_true (show decide (i + 1 = 0) = true from h)) (by omega)
  | 3, 0, _ => rfl
  | 3, 1, _ => rfl
  | 3, 2, _ => rfl
  | 3, 3, _ => rfl
  | 3, 4, _ => rfl
  | 3, 5, _ => rfl
  | 3, 6, _ => rfl
  | 3, 7, _ => rfl
  | 3, i + 8, h => absurd (of_decide_eq_true (show decide (i + 8 < 8) = true from h)) (by omega)
  | 4, 0, h => absurd h (by decide)
  | 4, 1, h => absurd h (by decide)
  | 4, 2, _ => chain2 kI kZ kO kA eA o l0 l1 Lo Lq1 Lp0 Lp0t Lp0b Lp0s Lp1 Lp1t Lp1b Lp1s Lp2 Lp2t Lp2b Lp2s Lq2 Lq2aaa To Tq1 Tq2 b0 b0l b0s b0m b1 b1l b1s b1m b2 b2l b2s b2m b3 b3l b3s b3m l2 l2aaaa Tr
  | 4, 3, _ => chain3 kI kZ kO kA eA o l0 l1 Lo Lq1 Lp0 Lp0t Lp0b Lp0s Lp1 Lp1t Lp1b Lp1s Lp2 Lp2t Lp2b Lp2s Lq2 Lq2aaa To Tq1 Tq2 b0 b0l b0s b0m b1 b1l b1s b1m b2 b2l b2s b2m b3 b3l b3s b3m l2 l2aaaa Tr
  | 4, 4, h => absurd h (by decide)
  | 4, 5, h => absurd h (by decide)
  | 4, 6, h => absurd h (by decide)
  | 4, 7, h => absurd h (by decide)
  | 4, i + 8, h => absurd (cLv_lt h) (by omega)
  | 5, 0, h => absurd h (by decide)
  | 5, 1, h => absurd h (by decide)
  | 5, 2, h => absurd h (by decide)
  | 5, 3, h => absurd h (by decide)
  | 5, 4, h => absurd h (by decide)
  | 5, 5, h => absurd h (by decide)
  | 5, 6, _ => rfl
  | 5, 7, _ => rfl
  | 5, 8, _ => rfl
  | 5, i + 9, h => absurd (show i + 9 < 0 ∨ (6 ≤ i + 9 ∧ i + 9 < 9) by simpa only [cLv, Bool.or_eq_true, Bool.and_eq_true, decide_eq_true_eq] using (show (decide (i + 9 < 0) || (decide (6 ≤ i + 9) && decide (i + 9 < 9))) = true from h)) (by omega)
  | 6, 0, h => absurd h (by decide)
  | 6, 1, h => absurd h (by decide)
  | 6, 2, h => absurd h (by decide)
  | 6, 3, h => absurd h (by decide)
  | 6, 4, h => absurd h (by decide)
  | 6, 5, h => absurd h (by decide)
  | 6, 6, _ => rfl
  | 6, 7, _ => rfl
  | 6, 8, _ => rfl
  | 6, i + 9, h => absurd (show i + 9 < 0 ∨ (6 ≤ i + 9 ∧ i + 9 < 9) by simpa only [cLv, Bool.or_eq_true, Bool.and_eq_true, decide_eq_true_eq] using (show (decide (i + 9 < 0) || (decide (6 ≤ i + 9) && decide (i + 9 < 9))) = true from h)) (by omega)
  | 7, 0, h => absurd h (by decide)
  | 7, 1, h => absurd h (by decide)
  | 7, 2, h => absurd h (by decide)
  | 7, 3, h => absurd h (by decide)
  | 7, 4, h => absurd h (by decide)
  | 7, 5, h => absurd h (by decide)
  | 7, 6, _ => rfl
  | 7, 7, _ => rfl
  | 7, 8, _ => rfl
  | 7, i + 9, h => absurd (show i + 9 < 0 ∨ (6 ≤ i + 9 ∧ i + 9 < 9) by simpa only [cLv, Bool.or_eq_true, Bool.and_eq_true, decide_eq_true_eq] using (show (decide (i + 9 < 0) || (decide (6 ≤ i + 9) && decide (i + 9 < 9))) = true from h)) (by omega)
  | 8, 0, h => absurd h (by decide)
  | 8, 1, h => absurd h (by decide)
  | 8, 2, h => absurd h (by decide)
  | 8, 3, h => absurd h (by decide)
  | 8, 4, h => absurd h (by decide)
  | 8, 5, h => absurd h (by decide)
  | 8, 6, _ => rfl
  | 8, 7, _ => rfl
  | 8, 8, _ => rfl
  | 8, i + 9, h => absurd (show i + 9 < 0 ∨ (6 ≤ i + 9 ∧ i + 9 < 9) by simpa only [cLv, Bool.or_eq_true, Bool.and_eq_true, decide_eq_true_eq] using (show (decide (i + 9 < 0) || (decide (6 ≤ i + 9) && decide (i + 9 < 9))) = true from h)) (by omega)
  | 9, i, h => absurd (of_decide_eq_true (show decide (i < 0) = true from h)) (by omega)
  | 10, 0, _ => rfl
  | 10, 1, _ => rfl
  | 10, 2, _ => rfl
  | 10, 3, _ => rfl
  | 10, i + 4, h => absurd (of_decide_eq_true (show decide (i + 4 < 4) = true from h)) (by omega)
  | 11, 0, _ => rfl
  | 11, 1, _ => rfl
  | 11, 2, _ => rfl
  | 11, 3, _ => rfl
  | 11, i + 4, h => absurd (of_decide_eq_true (show decide (i + 4 < 4) = true from h)) (by omega)
  | 12, 0, _ => rfl
  | 12, 1, _ => rfl
  | 12, 2, _ => rfl
  | 12, 3, _ => rfl
  | 12, i + 4, h => absurd (of_decide_eq_true (show decide (i + 4 < 4) = true from h)) (by omega)
  | 13, i, h => absurd (of_decide_eq_true (show decide (i < 0) = true from h)) (by omega)
  | 14, i, h => absurd (of_decide_eq_true (show decide (i < 0) = true from h)) (by omega)
  | 15, 0, _ => rfl
  | 15, i + 1, h => absurd (of_decide_eq_true (show decide (i + 1 = 0) = true from h)) (by omega)
  | 16, 0, _ => rfl
  | 16, i + 1, h => absurd (of_decide_eq_true (show decide (i + 1 = 0) = true from h)) (by omega)
  | 17, 0, _ => rfl
  | 17, i + 1, h => absurd (of_decide_eq_true (show decide (i + 1 = 0) = true from h)) (by omega)
  | 18, 0, _ => rfl
  | 18, 1, _ => rfl
  | 18, 2, _ => rfl
  | 18, 3, _ => rfl
  | 18, 4, _ => rfl
  | 18, 5, _ => rfl
  | 18, i + 6, h => absurd (of_decide_eq_true (show decide (i + 6 < 6) = true from h)) (by omega)
  | k + 19, _, h => by cases h
theorem cWi_P {D : va_G} {kI kZ kO kA : ClassId} {eA o : Nat} {l0 l1 Lo Lq1 Lp0 Lp0t Lp0b Lp0s Lp1 Lp1t Lp1b Lp1s Lp2 Lp2t Lp2b Lp2s Lq2 Lq2aaa To Tq1 Tq2 b0 b0l b0s b0m b1 b1l b1s b1m b2 b2l b2s b2m b3 b3l b3s b3m l2 l2aaaa : Nat} {Tr : Nat → Nat} {A : Nat → Prop} {H : Heap} (hP : va_P D vwCl (cWi kI kZ kO kA eA o l0 l1 Lo Lq1 Lp0 Lp0t Lp0b Lp0s Lp1 Lp1t Lp1b Lp1s Lp2 Lp2t Lp2b Lp2s Lq2 Lq2aaa To Tq1 Tq2 b0 b0l b0s b0m b1 b1l b1s b1m b2 b2l b2s b2m b3 b3l b3s b3m l2 l2aaaa Tr) H) (hD : va_D A (cWi kI kZ kO kA eA o l0 l1 Lo Lq1 Lp0 Lp0t Lp0b Lp0s Lp1 Lp1t Lp1b Lp1s Lp2 Lp2t Lp2b Lp2s Lq2 Lq2aaa To Tq1 Tq2 b0 b0l b0s b0m b1 b1l b1s b1m b2 b2l b2s b2m b3 b3l b3s b3m l2 l2aaaa Tr)) : cI A (cAdI o l0 l1 Lo Lq1 Lp0 Lp0t Lp0b Lp0s Lp1 Lp1t Lp1b Lp1s Lp2 Lp2t Lp2b Lp2s Lq2 Lq2aaa To Tq1 Tq2 b0 b0l b0s b0m b1 b1l b1s b1m b2 b2l b2s b2m b3 b3l b3s b3m l2 l2aaaa Tr) Z0.2.2 ∧ cN D (kI, kZ, kO, kA, eA) (cAdI o l0 l1 Lo Lq1 Lp0 Lp0t Lp0b Lp0s Lp1 Lp1t Lp1b Lp1s Lp2 Lp2t Lp2b Lp2s Lq2 Lq2aaa To Tq1 Tq2 b0 b0l b0s b0m b1 b1l b1s b1m b2 b2l b2s b2m b3 b3l b3s b3m l2 l2aaaa Tr) Z0 H := by
  refine ⟨⟨fun k i k' i' h h' e => ?_, fun k i h => hD.2 _ _ (cWi_get kI kZ kO kA eA o l0 l1 Lo Lq1 Lp0 Lp0t Lp0b Lp0s Lp1 Lp1t Lp1b Lp1s Lp2 Lp2t Lp2b Lp2s Lq2 Lq2aaa To Tq1 Tq2 b0 b0l b0s b0m b1 b1l b1s b1m b2 b2l b2s b2m b3 b3l b3s b3m l2 l2aaaa Tr k i h)⟩, fun k i h => hP _ _ (cWi_get kI kZ kO kA eA o l0 l1 Lo Lq1 Lp0 Lp0t Lp0b Lp0s Lp1 Lp1t Lp1b Lp1s Lp2 Lp2t Lp2b Lp2s Lq2 Lq2aaa To Tq1 Tq2 b0 b0l b0s b0m b1 b1l b1s b1m b2 b2l b2s b2m b3 b3l b3s b3m l2 l2aaaa Tr k i h)⟩
  have h1 := hD.1 _ _ _ _ (cWi_get kI kZ kO kA eA o l0 l1 Lo Lq1 Lp0 Lp0t Lp0b Lp0s Lp1 Lp1t Lp1b Lp1s Lp2 Lp2t Lp2b Lp2s Lq2 Lq2aaa To Tq1 Tq2 b0 b0l b0s b0m b1 b1l b1s b1m b2 b2l b2s b2m b3 b3l b3s b3m l2 l2aaaa Tr k i h) (cWi_get kI kZ kO kA eA o l0 l1 Lo Lq1 Lp0 Lp0t Lp0b Lp0s Lp1 Lp1t Lp1b Lp1s Lp2 Lp2t Lp2b Lp2s Lq2 Lq2aaa To Tq1 Tq2 b0 b0l b0s b0m b1 b1l b1s b1m b2 b2l b2s b2m b3 b3l b3s b3m l2 l2aaaa Tr k' i' h') e
  have h2 : (k, i) = (k', i') := by rw [← cInv_pos k i h, ← cInv_pos k' i' h', h1]
  exact ⟨congrArg Prod.fst h2, congrArg Prod.snd h2⟩
