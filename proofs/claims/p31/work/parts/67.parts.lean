/-! PURE PART. findBest. -/
section URPD
variable {n : Nat} {Z : CZ} {M : MT} {S C : Nat → Nat} {E P : Nat → Nat → Nat} {b : Nat} {out : Int32}
theorem czf.rf : czf Z Z := ⟨rfl, fun _ _ _ => rfl⟩
theorem czf.tr {Z1 Z2 Z3 : CZ} (h1 : czf Z1 Z2) (h2 : czf Z2 Z3) : czf Z1 Z3 := ⟨h2.1.trans h1.1, fun k k1 k2 => (h2.2 k k1 k2).trans (h1.2 k k1 k2)⟩
theorem c_count (h : uRR n Z M S C E P) {p : Nat} (hb : b < 4) (hp : p < C b / 4) (hnx : p + 1 < C b / 4 → ¬ pNo (uR' M P (S b) b (C b / 4) out (p + 1)) (S b)) {Z' : CZ} (hz : czf Z Z') (hn : p + 1 < C b / 4 → ∀ k, k < S b → Z'.1 18 (p + 1) k = oi (uR' M P (S b) b (C b / 4) out (p + 1) k)) : ∃ (v : Int32) (Z'' : CZ), fX2_countFewest b (nI p) out Z' = some (v, Z'') ∧ czf Z Z'' ∧ Z''.1 16 = Z'.1 16 ∧ (∀ q, q ≠ p → Z''.1 18 q = Z'.1 18 q) ∧ (∀ k, k < S b → Z''.1 18 p k = oi (uR' M P (S b) b (C b / 4) out p k)) ∧ ((v = 0 ∧ pNo (uR' M P (S b) b (C b / 4) out p) (S b)) ∨ (v = 1 ∧ ¬ pNo (uR' M P (S b) b (C b / 4) out p) (S b))) := by
  have hS := (h.nS hb).1
  exact c_count_l h hb hp hnx (S b) 0 100 0 Z' (by omega) (by omega) hz hn (fun k hk => by omega) (Or.inl ⟨rfl, fun k hk => by omega⟩)
theorem c_fb_l (h : uRR n Z M S C E P) (hb : b < 4) : ∀ (d fuel : Nat) (Z' : CZ), d ≤ C b / 4 → d < fuel → czf Z Z' → (∀ q, d ≤ q → q < C b / 4 → (∀ k, k < S b → Z'.1 18 q k = oi (uR' M P (S b) b (C b / 4) out q k)) ∧ ¬ pNo (uR' M P (S b) b (C b / 4) out q) (S b)) → ∃ Z'' : CZ, czf Z Z'' ∧ (((∃ q, q < C b / 4 ∧ pNo (uR' M P (S b) b (C b / 4) out q) (S b)) ∧ lf5 fX2_findBest_10 fuel b out (nI (C b / 4)) (nI d - 1) Z' = some (-1, Z'')) ∨ ((∀ q, q < C b / 4 → (∀ k, k < S b → Z''.1 18 q k = oi (uR' M P (S b) b (C b / 4) out q k)) ∧ ¬ pNo (uR' M P (S b) b (C b / 4) out q) (S b)) ∧ lf5 fX2_findBest_10 fuel b out (nI (C b / 4)) (nI d - 1) Z' = fX2_findBest_34 b (nI (C b / 4)) Z''))
  | _, 0, _, _, hf, _, _ => absurd hf (by omega)
  | 0, fuel + 1, Z', _, _, hz, hr => by
    refine ⟨Z', hz, Or.inr ⟨fun q hq => hr q (by omega) hq, ?_⟩⟩
    rw [lf5_s]
    unfold fX2_findBest_10
    rw [if_pos (by decide)]
  | d + 1, fuel + 1, Z', hd, hf, hz, hr => by
    have hC := (h.nC hb).1
    obtain ⟨v, Z1, a1, a2, a3, a4, a5, a6⟩ := c_count h hb (show d < C b / 4 by omega) (fun hq => (hr (d + 1) (by omega) hq).2) hz (fun hq => (hr (d + 1) (by omega) hq).1)
    have step : ∀ r, (if v = 0 then fX2_findBest_26 Z1 else lf5 fX2_findBest_10 fuel b out (nI (C b / 4)) (nI d - 1) Z1) = r → lf5 fX2_findBest_10 (fuel + 1) b out (nI (C b / 4)) (nI (d + 1) - 1) Z' = r := fun r hr => by
      rw [nI_pred, lf5_s]
      rw [show fX2_findBest_10 (lf5 fX2_findBest_10 fuel) b out (nI (C b / 4)) (nI d) Z' = (if nI d < 0 then fX2_findBest_34 b (nI (C b / 4)) Z' else cl2 (fX2_countFewest b (nI d) out Z') (fun v5 Z6 => (if v5 = 0 then fX2_findBest_26 Z6 else lf5 fX2_findBest_10 fuel b out (nI (C b / 4)) (nI d + -1) Z6))) from rfl]
      rw [if_neg (nI_pos (by omega)), a1, cl2_s, u_m1s]
      exact hr
    rcases a6 with ⟨v0, vn⟩ | ⟨v1, vy⟩
    · exact ⟨Z1, a2, Or.inl ⟨⟨d, by omega, vn⟩, step _ (by rw [v0, if_pos (by decide)]; rfl)⟩⟩
    · obtain ⟨Z2, b1, b2⟩ := c_fb_l h hb d fuel Z1 (by omega) (by omega) a2 (fun q h1 h2 => by
        by_cases e : q = d
        · rw [e]
          exact ⟨a5, vy⟩
        · obtain ⟨g1, g2⟩ := hr q (by omega) h2
          exact ⟨fun k hk => by rw [a4 q e]; exact g1 k hk, g2⟩)
      have eq : lf5 fX2_findBest_10 (fuel + 1) b out (nI (C b / 4)) (nI (d + 1) - 1) Z' = lf5 fX2_findBest_10 fuel b out (nI (C b / 4)) (nI d - 1) Z1 := step _ (by rw [v1, if_neg (by decide)])
      rw [eq]
      exact ⟨Z2, b1, b2⟩
/-- the seat that plays ahead of the phrase p -/
noncomputable def uah' (M : MT) (P : Nat → Nat → Nat) (s b ph : Nat) (out : Int32) (p : Nat) : Int32 := if p = 0 then -1 else nI (uch M P s b ph out (p - 1))
theorem uch_eq {s ph p k0 v0 : Nat} (h : pBest (uR' M P s b ph out p) (uf M P b p (uah' M P s b ph out p)) s k0 v0) : uch M P s b ph out p = k0 := by
  cases p with
  | zero => exact am_s h
  | succ p =>
    have e : uah' M P s b ph out (p + 1) = nI (uch M P s b ph out p) := if_neg (by omega)
    rw [e] at h
    exact am_s h
theorem c_fw_l (h : uRR n Z M S C E P) (hb : b < 4) (hr : ∀ q, q < C b / 4 → (∀ k, k < S b → Z.1 18 q k = oi (uR' M P (S b) b (C b / 4) out q k)) ∧ ¬ pNo (uR' M P (S b) b (C b / 4) out q) (S b)) : ∀ (d p fuel : Nat) (Z' : CZ), p + d = C b / 4 → d < fuel → (Z'.2 = Z.2 ∧ ∀ k, k ≠ 16 → Z'.1 k = Z.1 k) → (∀ q, q < p → Z'.1 16 0 q = nI (uch M P (S b) b (C b / 4) out q)) → ∃ Z'' : CZ, (Z''.2 = Z.2 ∧ ∀ k, k ≠ 16 → Z''.1 k = Z.1 k) ∧ (∀ q, q < C b / 4 → Z''.1 16 0 q = nI (uch M P (S b) b (C b / 4) out q)) ∧ lf5 fX2_findBest_40 fuel b (nI (C b / 4)) (uah' M P (S b) b (C b / 4) out p) (nI p) Z' = fX2_findBest_72 (nI (C b / 4)) Z''
  | _, _, 0, _, _, hf, _, _ => absurd hf (by omega)
  | 0, p, fuel + 1, Z', hp, _, hz, hq => by
    have hC := (h.nC hb).1
    refine ⟨Z', hz, by rw [show C b / 4 = p by omega] at hq ⊢; exact hq, ?_⟩
    rw [lf5_s]
    unfold fX2_findBest_40
    rw [if_pos (nI_le (by omega) (by omega))]
  | d + 1, p, fuel + 1, Z', hp, hf, hz, hq => by
    have hC := (h.nC hb).1
    have hS := (h.nS hb).1
    have h' : uRR n Z' M S C E P := czf.uRR ⟨hz.1, fun k _ k2 => hz.2 k k2⟩ h
    have hpC : p < C b / 4 := by omega
    obtain ⟨g1, g2⟩ := hr p hpC
    obtain ⟨w, w1, w2⟩ := c_best h' hb hpC _ (fun k hk => by rw [hz.2 18 (by omega)]; exact g1 k hk) (fun k w hk hw => uR_le2 h hb (by omega) hpC hk hw) (uah' M P (S b) b (C b / 4) out p)
    rcases w2 with ⟨_, w3⟩ | ⟨k0, v0, w3, w4⟩
    · exact absurd w3 g2
    · have ec := uch_eq w4
      obtain ⟨Z2, b1, b2, b3⟩ := c_fw_l h hb hr d (p + 1) fuel (cuI Z' 16 0 (upd (Z'.1 16 0) p (nI k0))) (by omega) (by omega) ⟨hz.1, fun k hk => by rw [show (cuI Z' 16 0 (upd (Z'.1 16 0) p (nI k0))).1 k = Z'.1 k from funext fun i => cuI_n (fun q => hk q.1)]; exact hz.2 k hk⟩ (fun q hqp => by
        rw [cuI_s]
        by_cases e : q = p
        · rw [e, pk_us, ec]
        · rw [pk_un e]
          exact hq q (by omega))
      refine ⟨Z2, b1, b2, ?_⟩
      rw [← b3, lf5_s]
      rw [show fX2_findBest_40 (lf5 fX2_findBest_40 fuel) b (nI (C b / 4)) (uah' M P (S b) b (C b / 4) out p) (nI p) Z' = (if nI (C b / 4) ≤ nI p then fX2_findBest_72 (nI (C b / 4)) Z' else cl1 (fX2_bestSeat b (nI p) (uah' M P (S b) b (C b / 4) out p) Z') (fun v9 => gd (gin (nI p) 6) (bnd (cuI Z' 16 0 (upd (Z'.1 16 0) (Int32.toNatClampNeg (nI p)) v9)) (fun Z12 => lf5 fX2_findBest_40 fuel b (nI (C b / 4)) v9 (nI p + (1 : Int32)) Z12)))) from rfl]
      rw [if_neg (nI_ge hpC (by omega)), w1, cl1_s, gdn (by omega) (by omega), bnd_e, nIc (by omega), u_a1, w3, show uah' M P (S b) b (C b / 4) out (p + 1) = nI k0 from by
        unfold uah'
        rw [if_neg (by omega), Nat.add_sub_cancel, ec]]
theorem uch_ok {s ph : Nat} : ∀ p, ¬ pNo (uR' M P s b ph out p) s → (∃ k0 v0, pBest (uR' M P s b ph out p) (uf M P b p (uah' M P s b ph out p)) s k0 v0) → uch M P s b ph out p < s := fun p _ ⟨k0, v0, q⟩ => by
  rw [uch_eq q]
  exact q.1
/-- a row that is not empty has a least -/
theorem pBest_ex {row : Nat → Option Nat} {f : Nat → Nat} : ∀ s, ¬ pNo row s → ∃ k0 v0, pBest row f s k0 v0
  | 0, h => absurd (fun k hk => by omega) h
  | s + 1, h => by
    by_cases hs : pNo row s
    · rcases hw : row s with _ | w
      · exact absurd (fun k hk => by
          by_cases e : k = s
          · rw [e, hw]
          · exact hs k (by omega)) h
      · exact ⟨s, _, pBest.new hw (fun k u hk hu => by
          rw [hs k hk] at hu
          cases hu)⟩
    · obtain ⟨k0, v0, q⟩ := pBest_ex (f := f) s hs
      rcases hw : row s with _ | w
      · exact ⟨k0, v0, q.add (fun y hy => by rw [hw] at hy; cases hy)⟩
      · by_cases hle : v0 ≤ w + f s
        · exact ⟨k0, v0, q.add (fun y hy => by
            rw [hw] at hy
            cases hy
            exact hle)⟩
        · exact ⟨s, _, pBest.new hw (fun k u hk hu => by
            have := q.2.2.1 k u hk hu
            omega)⟩
theorem uval_ok {s ph k0 v0 : Nat} (h : pBest (uR' M P s b ph out 0) (uf M P b 0 (-1)) s k0 v0) : uval M P s b ph out = v0 ∧ uch M P s b ph out 0 = k0 ∧ uR' M P s b ph out 0 k0 = some v0 := by
  refine ⟨?_, am_s h, ?_⟩
  · unfold uval
    rw [bv_s h]
    rfl
  · obtain ⟨_, ⟨w, w1, w2⟩, _⟩ := h
    rw [w1, w2]
    unfold uf
    rw [uto_0]
    rfl
theorem c_findBest (h : uRR n Z M S C E P) (hb : b < 4) : ∃ Z' : CZ, czf Z Z' ∧ ((urdy M P (S b) b (C b / 4) out ∧ fX2_findBest b out Z = some (nI (uval M P (S b) b (C b / 4) out), Z') ∧ ∀ q, q < C b / 4 → Z'.1 16 0 q = nI (uch M P (S b) b (C b / 4) out q)) ∨ (¬ urdy M P (S b) b (C b / 4) out ∧ fX2_findBest b out Z = some (-1, Z'))) := by
  have hC := (h.nC hb).1
  have hS := (h.nS hb).1
  have e0 : fX2_findBest b out Z = lf5 fX2_findBest_10 100 b out (nI (C b / 4)) (nI (C b / 4) - 1) Z := by
    unfold fX2_findBest
    rw [cLv10 hb, gdt, h.phc hb, cl1_s, bnd_e]
  obtain ⟨Z1, a1, a2⟩ := c_fb_l (out := out) h hb (C b / 4) 100 Z (Nat.le_refl _) (by omega) czf.rf (fun q h1 h2 => by omega)
  rw [e0]
  rcases a2 with ⟨⟨q, q1, q2⟩, a3⟩ | ⟨a2, a3⟩
  · exact ⟨Z1, a1, Or.inr ⟨fun r => r.2 q q1 q2, a3⟩⟩
  · have h1 := a1.uRR h
    obtain ⟨Z2, b1, b2, b3⟩ := c_fw_l h1 hb a2 (C b / 4) 0 100 Z1 (by omega) (by omega) ⟨rfl, fun _ _ => rfl⟩ (fun q hq => by omega)
    have b3' : fX2_findBest_34 b (nI (C b / 4)) Z1 = fX2_findBest_72 (nI (C b / 4)) Z2 := b3
    have z2 : czf Z Z2 := ⟨b1.1.trans a1.1, fun k k1 k2 => (b1.2 k k2).trans (a1.2 k k1 k2)⟩
    rw [a3, b3']
    by_cases h0 : 0 < C b / 4
    · have hr : urdy M P (S b) b (C b / 4) out := ⟨h0, fun q hq => (a2 q hq).2⟩
      obtain ⟨k0, v0, hbst⟩ := pBest_ex (f := uf M P b 0 (-1)) (S b) (a2 0 h0).2
      obtain ⟨u1, u2, u3⟩ := uval_ok hbst
      have k0S := hbst.1
      refine ⟨Z2, z2, Or.inl ⟨hr, ?_, b2⟩⟩
      unfold fX2_findBest_72
      have e16 : Z2.1 16 0 (Int32.toNatClampNeg 0) = nI k0 := by
        rw [show (Int32.toNatClampNeg 0) = 0 from rfl, b2 0 h0, u2]
      have g06 : ∀ (α : Type) (x : Option α), gd (gin 0 6) x = x := fun α x => gdn (k := 0) (n := 6) (by omega) (by omega)
      rw [if_neg (nI_nle h0 (by omega)), g06, e16, if_neg (by rw [nIm1 (by omega)]; exact id), g06, g06, gdn (by omega) (by omega), nIc (by omega), show (Int32.toNatClampNeg 0) = 0 from rfl, b1.2 18 (by omega), (a2 0 h0).1 k0 k0S, u3, u1]
      rfl
    · refine ⟨Z2, z2, Or.inr ⟨fun r => h0 r.1, ?_⟩⟩
      unfold fX2_findBest_72
      rw [if_pos (show nI (C b / 4) ≤ 0 from nI_le (b := 0) (by omega) (by omega))]
      rfl
end URPD

/-! PURE PART. The model lays the best parts. -/
def men (o : Option Nat) : Nat := match o with
  | none => 1000000
  | some v => v
theorem men_n : men none = 1000000 := rfl
theorem men_s (v : Nat) : men (some v) = v := rfl
section URPM
variable {n : Nat} {Z : CZ} {M : MT} {S C : Nat → Nat} {E P : Nat → Nat → Nat} {b : Nat} {out : Int32}
/-- what the laying may write -/
def mzf (M M' : MT) : Prop := ∀ k, k ≠ 27 → k ≠ 28 → M' k = M k
theorem mzf.uRR {M' : MT} (hz : mzf M M') (h : uRR n Z M S C E P) : uRR n Z M' S C E P := h.scr (fun k _ _ _ _ _ k7 k8 => hz k k7 k8)
theorem mzf.eto {M' : MT} (hz : mzf M M') {p k : Nat} {same : Prop} : uto M' P b p k same = uto M P b p k same := by
  unfold uto lpp nto lyo
  rw [hz 18 (by omega) (by omega), hz 11 (by omega) (by omega)]
theorem mzf.eins {M' : MT} (hz : mzf M M') {p k : Nat} : uins M' b p (lyo M' P b k) = uins M b p (lyo M P b k) := by
  unfold uins lpp nto lyo
  rw [hz 18 (by omega) (by omega), hz 11 (by omega) (by omega)]
theorem lst_eq {ph p : Nat} (hph : ph ≤ 6) (hp : p < ph) : (nI p = nI ph - 1) = (p + 1 = ph) := by
  rw [u_s1 (by omega), nIe (by omega) (by omega)]
  exact propext ⟨fun q => by omega, fun q => by omega⟩
theorem lst_le {ph p : Nat} (hph : ph ≤ 6) (hp : p < ph) : (nI ph - 1 ≤ nI p) = (p + 1 = ph) := by
  rw [u_s1 (by omega), nIle (by omega) (by omega)]
  exact propext ⟨fun q => by omega, fun q => by omega⟩
theorem lst_lt {ph p : Nat} (hph : ph ≤ 6) (hp : p ≤ ph) : (nI ph - 1 < nI p) = (p = ph) := by
  by_cases h0 : ph = 0
  · rw [h0, show p = 0 by omega]
    exact propext ⟨fun _ => rfl, fun _ => by decide⟩
  · rw [u_s1 (by omega), nIlt (by omega) (by omega)]
    exact propext ⟨fun q => by omega, fun q => by omega⟩
end URPM

/-! PURE PART. The model's playing seats. -/
section URLY
variable {n : Nat} {Z : CZ} {M : MT} {S C : Nat → Nat} {E P : Nat → Nat → Nat} {b : Nat} {out : Int32}
/-- the least of a row, seen from its end down to y -/
def pDown (row : Nat → Option Nat) (f : Nat → Nat) (s y k0 v0 : Nat) : Prop := y ≤ k0 ∧ k0 < s ∧ (∃ w, row k0 = some w ∧ v0 = w + f k0) ∧ (∀ k w, y ≤ k → k < s → row k = some w → v0 ≤ w + f k) ∧ ∀ k w, y ≤ k → k < k0 → row k = some w → v0 < w + f k
theorem pDown.best {row : Nat → Option Nat} {f : Nat → Nat} {s k0 v0 : Nat} (h : pDown row f s 0 k0 v0) : pBest row f s k0 v0 := ⟨h.2.1, h.2.2.1, fun k w hk hw => h.2.2.2.1 k w (Nat.zero_le k) hk hw, fun k w hk hw => h.2.2.2.2 k w (Nat.zero_le k) hk hw⟩
theorem uval_le (h : uRR n Z M S C E P) (hb : b < 4) (hy : urdy M P (S b) b (C b / 4) out) : uval M P (S b) b (C b / 4) out ≤ 144 := by
  have hC := (h.nC hb).1
  obtain ⟨k0, v0, hbst⟩ := pBest_ex (f := uf M P b 0 (-1)) (S b) (hy.2 0 hy.1)
  obtain ⟨u1, u2, u3⟩ := uval_ok hbst
  rw [u1]
  exact uR_le2 h hb (by omega) hy.1 hbst.1 u3
end URLY

/-! PURE PART. leaps, part, without, perform. -/
section URPT
variable {n : Nat} {Z : CZ} {M : MT} {S C : Nat → Nat} {E P : Nat → Nat → Nat} {b : Nat}
theorem u_far {v : Nat} (hv : v ≤ 1000) : ¬ ((1000000 : Int32) ≤ nI v) := nI_ge (b := 1000000) (by omega) (by omega)
theorem uch_lt (h : uRR n Z M S C E P) (hb : b < 4) {out : Int32} (hy : urdy M P (S b) b (C b / 4) out) {q : Nat} (hq : q < C b / 4) : uch M P (S b) b (C b / 4) out q < S b := by
  obtain ⟨k0, v0, hbst⟩ := pBest_ex (f := uf M P b q (uah' M P (S b) b (C b / 4) out q)) (S b) (hy.2 q hq)
  rw [uch_eq hbst]
  exact hbst.1
/-! perform -/
def upl (ch : Nat → Nat) (ph k : Nat) : Prop := ∃ q, q < ph ∧ ch q = k
def utn (Z : CZ) (M : MT) (P : Nat → Nat → Nat) (b hh k : Nat) : Prop := ∃ q, Z.2.1 9 (P b k) 2 = some q ∧ pTn (uPS M q) hh
noncomputable def ucu (Z : CZ) (M : MT) (P : Nat → Nat → Nat) (b hh : Nat) (ch : Nat → Nat) (ph : Nat) : Nat → Nat
  | 0 => 0
  | k + 1 => ucu Z M P b hh ch ph k + @ite _ (upl ch ph k ∧ ¬ utn Z M P b hh k) (Classical.propDecidable _) 1 0
theorem ucu_t {hh ph k : Nat} {ch : Nat → Nat} (h : upl ch ph k ∧ ¬ utn Z M P b hh k) : ucu Z M P b hh ch ph (k + 1) = ucu Z M P b hh ch ph k + 1 := congrArg (ucu Z M P b hh ch ph k + ·) (if_pos h)
theorem ucu_f {hh ph k : Nat} {ch : Nat → Nat} (h : ¬ (upl ch ph k ∧ ¬ utn Z M P b hh k)) : ucu Z M P b hh ch ph (k + 1) = ucu Z M P b hh ch ph k := congrArg (ucu Z M P b hh ch ph k + ·) (if_neg h)
theorem ucu_le {hh ph : Nat} {ch : Nat → Nat} : ∀ k, ucu Z M P b hh ch ph k ≤ k
  | 0 => Nat.le_refl 0
  | k + 1 => by
    have := ucu_le (hh := hh) (ph := ph) (ch := ch) k
    by_cases h : upl ch ph k ∧ ¬ utn Z M P b hh k
    · rw [ucu_t h]
      omega
    · rw [ucu_f h]
      omega
theorem c_isPlaying {ph k : Nat} {ch : Nat → Nat} (hph : ph ≤ 6) (hk : k < 8) (hch : ∀ q, q < ph → Z.1 16 0 q = nI (ch q) ∧ ch q < 8) : ∀ (d q fuel : Nat), q + d = ph → d < fuel → ((∃ q', q ≤ q' ∧ q' < ph ∧ ch q' = k) → lf3 (fX2_isPlaying_2 Z) fuel (nI k) (nI ph) (nI q) = some 1) ∧ (¬ (∃ q', q ≤ q' ∧ q' < ph ∧ ch q' = k) → lf3 (fX2_isPlaying_2 Z) fuel (nI k) (nI ph) (nI q) = some 0)
  | _, _, 0, _, hf => absurd hf (by omega)
  | 0, q, fuel + 1, hq, _ => by
    refine ⟨fun ⟨q', h1, h2, _⟩ => by omega, fun _ => ?_⟩
    rw [lf3_s]
    unfold fX2_isPlaying_2
    rw [if_pos (nI_le (by omega) (by omega))]
    rfl
  | d + 1, q, fuel + 1, hq, hf => by
    obtain ⟨i1, i2⟩ := c_isPlaying hph hk hch d (q + 1) fuel (by omega) (by omega)
    obtain ⟨e1, e2⟩ := hch q (by omega)
    have step : lf3 (fX2_isPlaying_2 Z) (fuel + 1) (nI k) (nI ph) (nI q) = if ch q = k then some 1 else lf3 (fX2_isPlaying_2 Z) fuel (nI k) (nI ph) (nI (q + 1)) := by
      rw [lf3_s]
      rw [show fX2_isPlaying_2 Z (lf3 (fX2_isPlaying_2 Z) fuel) (nI k) (nI ph) (nI q) = (if nI ph ≤ nI q then fX2_isPlaying_25 Z else gd (gin (nI q) 6) ((if (Z.1 16 0 (Int32.toNatClampNeg (nI q))) = nI k then fX2_isPlaying_17 Z else bnd (nI q + (1 : Int32)) (fun v2 => lf3 (fX2_isPlaying_2 Z) fuel (nI k) (nI ph) v2)))) from rfl]
      rw [if_neg (nI_ge (by omega) (by omega)), gdn (by omega) (by omega), nIc (by omega), e1, bnd_e, u_a1]
      by_cases hc : ch q = k
      · rw [if_pos (by rw [hc]), if_pos hc]
        rfl
      · rw [if_neg (by rw [nIe (by omega) (by omega)]; exact hc), if_neg hc]
    rw [step]
    by_cases hc : ch q = k
    · rw [if_pos hc]
      exact ⟨fun _ => rfl, fun hn => absurd ⟨q, Nat.le_refl q, by omega, hc⟩ hn⟩
    · rw [if_neg hc]
      refine ⟨fun ⟨q', h1, h2, h3⟩ => i1 ⟨q', by
        by_cases e : q' = q
        · rw [e] at h3
          exact absurd h3 hc
        · omega, h2, h3⟩, fun hn => i2 (fun ⟨q', h1, h2, h3⟩ => hn ⟨q', by omega, h2, h3⟩)⟩
theorem c_untuned (hn : n < 512) (h : uRR n Z M S C E P) (hb : b < 4) {hh : Nat} (h15 : hh ≤ 15) {ch : Nat → Nat} (hch : ∀ q, q < C b / 4 → Z.1 16 0 q = nI (ch q) ∧ ch q < 8) : ∀ (d x fuel : Nat), x + d = S b → d < fuel → lf4 (fX2_countUntuned_5 Z) fuel b (nI hh) (nI (ucu Z M P b hh ch (C b / 4) x)) (nI x) = some (nI (ucu Z M P b hh ch (C b / 4) (S b)))
  | _, _, 0, _, hf => absurd hf (by omega)
  | 0, x, fuel + 1, hx, _ => by
    have hS := h.nS hb
    rw [lf4_s]
    unfold fX2_countUntuned_5
    rw [cLv10 hb, gdt, cLv3 (by omega), gdt, (h.ls4 hb).size (by omega), cl1_s, if_pos (nI_le (by omega) (by omega)), show x = S b by omega]
    rfl
  | d + 1, x, fuel + 1, hx, hf => by
    have hS := h.nS hb
    have hC := (h.nC hb).1
    have hxS : x < S b := by omega
    obtain ⟨p1, p2, p3, p4⟩ := h.2.2.2.2.2.2.1.2.1 b x hb hxS
    obtain ⟨i1, i2⟩ := c_isPlaying (Z := Z) (k := x) (ph := C b / 4) (by omega) (by omega) hch (C b / 4) 0 100 (by omega) (by omega)
    have ih := c_untuned hn h hb h15 hch d (x + 1) fuel (by omega) (by omega)
    have tn : (utn Z M P b hh x ∧ fX4_hasTunedPan (P b x) (nI hh) Z = some 1) ∨ (¬ utn Z M P b hh x ∧ fX4_hasTunedPan (P b x) (nI hh) Z = some 0) := by
      unfold fX4_hasTunedPan
      rw [cLv9 p2, gdt]
      rcases hq : Z.2.1 9 (P b x) 2 with _ | q
      · refine Or.inr ⟨fun ⟨q, q1, _⟩ => ?_, rfl⟩
        rw [hq] at q1
        cases q1
      · have hqp := (h.2.2.2.2.2.1.1 _ p2).2 q hq
        obtain ⟨t1, t2⟩ := c_tuned hn h hqp h15
        rw [op2_s, cLv5 hqp, gdt]
        by_cases ht : pTn (uPS M q) hh
        · rw [t1 ht]
          exact Or.inl ⟨⟨q, hq, ht⟩, rfl⟩
        · rw [t2 ht]
          refine Or.inr ⟨fun ⟨q', q1, q2⟩ => ?_, rfl⟩
          rw [hq] at q1
          cases q1
          exact ht q2
    have step : ∀ v : Int32, fX2_isPlaying (nI x) (nI (C b / 4)) Z = some v → lf4 (fX2_countUntuned_5 Z) (fuel + 1) b (nI hh) (nI (ucu Z M P b hh ch (C b / 4) x)) (nI x) = (if v = 0 then lf4 (fX2_countUntuned_5 Z) fuel b (nI hh) (nI (ucu Z M P b hh ch (C b / 4) x)) (nI (x + 1)) else cl1 (fX4_hasTunedPan (P b x) (nI hh) Z) (fun v15 => (if v15 = 0 then lf4 (fX2_countUntuned_5 Z) fuel b (nI hh) (nI (ucu Z M P b hh ch (C b / 4) x + 1)) (nI (x + 1)) else lf4 (fX2_countUntuned_5 Z) fuel b (nI hh) (nI (ucu Z M P b hh ch (C b / 4) x)) (nI (x + 1))))) := fun v hv => by
      rw [lf4_s]
      rw [show fX2_countUntuned_5 Z (lf4 (fX2_countUntuned_5 Z) fuel) b (nI hh) (nI (ucu Z M P b hh ch (C b / 4) x)) (nI x) = gd (cLv Z.2.2 10 b) (gd (cLv Z.2.2 3 (b + 4)) (cl1 (fJx4a65c_size_8abf5 (b + 4) Z) (fun v3 => (if v3 ≤ nI x then fX2_countUntuned_61 Z (nI (ucu Z M P b hh ch (C b / 4) x)) else cl1 (fX0_phraseCount b Z) (fun v5 => cl1 (fX2_isPlaying (nI x) v5 Z) (fun v7 => (if v7 = 0 then lf4 (fX2_countUntuned_5 Z) fuel b (nI hh) (nI (ucu Z M P b hh ch (C b / 4) x)) (nI x + 1) else cl1 (fJx4a65c_get_915e3 (b + 4) (nI x) Z) (fun q9 => gd (cLv Z.2.2 13 q9) (cl1 (Z.2.1 13 q9 0) (fun q12 => gd (cLv Z.2.2 9 q12) (cl1 (fX4_hasTunedPan q12 (nI hh) Z) (fun v15 => (if v15 = 0 then bnd (nI (ucu Z M P b hh ch (C b / 4) x) + (1 : Int32)) (fun v17 => lf4 (fX2_countUntuned_5 Z) fuel b (nI hh) v17 (nI x + 1)) else lf4 (fX2_countUntuned_5 Z) fuel b (nI hh) (nI (ucu Z M P b hh ch (C b / 4) x)) (nI x + 1)))))))))))))) from rfl]
      rw [cLv10 hb, gdt, cLv3 (by omega), gdt, (h.ls4 hb).size (by omega), cl1_s, if_neg (nI_ge hxS (by omega)), h.phc hb, cl1_s, hv, cl1_s, (h.ls4 hb).get (by omega) hxS, cl1_s, cLv13 p1, gdt, p3, cl1_s, cLv9 p2, gdt, bnd_e, u_a1, u_a1]
    by_cases hpl : upl ch (C b / 4) x
    · obtain ⟨q', q1, q2⟩ := hpl
      rw [step 1 (i1 ⟨q', by omega, q1, q2⟩), if_neg (by decide)]
      rcases tn with ⟨t1, t2⟩ | ⟨t1, t2⟩
      · rw [t2, cl1_s, if_neg (by decide)]
        rw [ucu_f (fun q => q.2 t1)] at ih
        exact ih
      · rw [t2, cl1_s, if_pos (by decide)]
        rw [ucu_t ⟨⟨q', q1, q2⟩, t1⟩] at ih
        exact ih
    · rw [step 0 (i2 (fun ⟨q', _, q1, q2⟩ => hpl ⟨q', q1, q2⟩)), if_pos (by decide)]
      rw [ucu_f (fun q => hpl q.1)] at ih
      exact ih
end URPT

/-! PURE PART. perform. -/
section URPF
variable {n : Nat} {Z : CZ} {M : MT} {S C : Nat → Nat} {E P : Nat → Nat → Nat} {b : Nat}
theorem u_over {k : Nat} (hk : k ≤ 30) : (2 : Int32) * (if (0 : Int32) < nI k - 10 then nI k - 10 else 0) = (if nI k ≤ (10 : Int32) then 0 else (2 : Int32) * nI k - 20) := by
  have : ∀ k, k < 31 → (2 : Int32) * (if (0 : Int32) < nI k - 10 then nI k - 10 else 0) = (if nI k ≤ (10 : Int32) then 0 else (2 : Int32) * nI k - 20) := by decide +kernel
  exact this k (by omega)
end URPF
/-! the start -/
theorem uL_0 {c3 : Nat → Int32} {q4 : Nat → Option Nat} {e : Nat → Nat} (h3 : c3 = fun _ => 0) (h4 : q4 = fun _ => none) {cap : Nat} (hc : cap = 0) : uL c3 q4 cap 0 e := by
  subst h3 h4 hc
  exact ⟨rfl, Or.inl ⟨rfl, rfl⟩, fun j hj => by omega, fun _ _ => rfl⟩
