/-! PURE PART. The law's words: numbers, reads in the form in which the law makes them. -/
theorem u_e41 {k : Nat} (h : k < 2147483648) : irm (nI k) (41 : Int32) = nI (k % 41) := pk_rem (d := 41) h (by omega) (by omega)
theorem u_e26 {k : Nat} (h : k < 2147483648) : irm (nI k) (26 : Int32) = nI (k % 26) := pk_rem (d := 26) h (by omega) (by omega)
theorem u_e16 {k : Nat} (h : k < 2147483648) : irm (nI k) (16 : Int32) = nI (k % 16) := pk_rem (d := 16) h (by omega) (by omega)
theorem u_e30 {k : Nat} (h : k < 2147483648) : irm (nI k) (30 : Int32) = nI (k % 30) := pk_rem (d := 30) h (by omega) (by omega)
theorem u_e5 {k : Nat} (h : k < 2147483648) : irm (nI k) (5 : Int32) = nI (k % 5) := pk_rem (d := 5) h (by omega) (by omega)
theorem u_e10 {k : Nat} (h : k < 2147483648) : irm (nI k) (10 : Int32) = nI (k % 10) := pk_rem (d := 10) h (by omega) (by omega)
theorem u_e101 {k : Nat} (h : k < 2147483648) : irm (nI k) (101 : Int32) = nI (k % 101) := pk_rem (d := 101) h (by omega) (by omega)
theorem u_d41 {k : Nat} (h : k < 2147483648) : nI k / (41 : Int32) = nI (k / 41) := pk_div (d := 41) h (by omega) (by omega)
theorem u_d16 {k : Nat} (h : k < 2147483648) : nI k / (16 : Int32) = nI (k / 16) := pk_div (d := 16) h (by omega) (by omega)
theorem u_d24 {k : Nat} (h : k < 2147483648) : nI k / (24 : Int32) = nI (k / 24) := pk_div (d := 24) h (by omega) (by omega)
theorem u_d5 {k : Nat} (h : k < 2147483648) : nI k / (5 : Int32) = nI (k / 5) := pk_div (d := 5) h (by omega) (by omega)
theorem u_en {k d : Nat} (h : k < 2147483648) (h0 : 0 < d) (hd : d < 2147483648) : irm (nI k) (nI d) = nI (k % d) := pk_rem h h0 hd
theorem gnzn {k : Nat} {α : Type} {x : Option α} (h0 : 0 < k) (h : k < 2147483648) : gd (gnz (nI k)) x = x := gd_t (gnz_t (by rw [nIz h]; omega))
theorem gnz30 {α : Type} {x : Option α} : gd (gnz (30 : Int32)) x = x := gd_t (gnz_t (by decide))
theorem gnz2 {α : Type} {x : Option α} : gd (gnz (2 : Int32)) x = x := gd_t (gnz_t (by decide))
theorem u_1a (k : Nat) : (1 : Int32) + nI k = nI (1 + k) := nI_add 1 k
theorem cl0 : Int32.toNatClampNeg (0 : Int32) = 0 := by decide
theorem cl_1 : Int32.toNatClampNeg (1 : Int32) = 1 := by decide
theorem cl_2 : Int32.toNatClampNeg (2 : Int32) = 2 := by decide
theorem cl_3 : Int32.toNatClampNeg (3 : Int32) = 3 := by decide
theorem cl_4 : Int32.toNatClampNeg (4 : Int32) = 4 := by decide
theorem gd50 {α : Type} {x : Option α} : gd (gin 0 5) x = x := gdn (k := 0) (n := 5) (by omega) (by omega)
theorem gd51 {α : Type} {x : Option α} : gd (gin 1 5) x = x := gdn (k := 1) (n := 5) (by omega) (by omega)
theorem gd52 {α : Type} {x : Option α} : gd (gin 2 5) x = x := gdn (k := 2) (n := 5) (by omega) (by omega)
theorem gd53 {α : Type} {x : Option α} : gd (gin 3 5) x = x := gdn (k := 3) (n := 5) (by omega) (by omega)
theorem gd54 {α : Type} {x : Option α} : gd (gin 4 5) x = x := gdn (k := 4) (n := 5) (by omega) (by omega)
theorem ne_m200 {k : Nat} (h : k < 2147483648) : ¬ nI k = (-200 : Int32) := fun e => by
  have e := congrArg Int32.toInt e
  rw [nIi h, show ((-200 : Int32)).toInt = -200 from by decide] at e
  omega
theorem ne_m1 {k : Nat} (h : k < 2147483648) : ¬ nI k = (-1 : Int32) := by
  rw [nIm1 h]
  exact id
theorem ge_0 {k : Nat} (h : k < 2147483648) : (0 : Int32) ≤ nI k := nI_pos' h
theorem wx_l {k v : Int32} {Z : CZ} : wx k (some (.inl v, Z)) = some (v, Z) := rfl
theorem wx_r {k : Int32} {Z : CZ} : wx k (some (.inr 3, Z)) = some (k, Z) := rfl
theorem wv_l {Z : CZ} : wv (some (.inl (), Z)) = some (1, Z) := rfl
theorem wv_r {Z : CZ} : wv (some (.inr 3, Z)) = some (0, Z) := rfl
theorem wr_l {k v : Int32} : wr k (some (.inl v)) = some v := rfl
theorem wr_r {k : Int32} : wr k (some (.inr 3)) = some k := rfl
section URQ
variable {n : Nat} {Z : CZ} {M : MT} {S C : Nat → Nat} {E P : Nat → Nat → Nat}
theorem uRR.ups (h : uRR n Z M S C E P) (k : Nat) : uRR (n + k) Z M S C E P := by
  induction k with
  | zero => exact h
  | succ k ih => exact ih.up
/-- what else holds: the nights, and what is off -/
def XT (M : MT) : Prop := (∃ t, t ≤ 930 ∧ M 1 0 = nI t ∧ ∀ b, b < 4 → M 21 b = -1 ∨ ∃ u, u ≤ t ∧ M 21 b = nI u) ∧ ∀ b, b < 4 → ∃ o, o ≤ 40 ∧ M 24 b = nI o
def INV (n : Nat) (Z : CZ) (F : Nat → Int32) : Prop := ∃ (M : MT) (S C : Nat → Nat) (E P : Nat → Nat → Nat), uRR n Z M S C E P ∧ (F 0 = nI (Z.2.2 0) ∧ F 1 = nI (Z.2.2 1) ∧ F 2 = M 1 0 ∧ F 4 = M 2 0) ∧ XT M
/-- the goal of a step -/
def GO (n : Nat) (r : Option (Int32 × CZ × (Nat → Int32))) : Prop := ∃ (Z' : CZ) (F' : Nat → Int32), r = some (1, Z', F') ∧ INV (n + 6) Z' F'
/-- the goal of a check -/
def GC (n : Nat) (F : Nat → Int32) (r : Option (Int32 × CZ)) : Prop := ∃ (Z' : CZ), r = some (1, Z') ∧ INV (n + 6) Z' F
theorem INV.of {Z' : CZ} {M' : MT} {S' C' : Nat → Nat} {E' P' : Nat → Nat → Nat} {F F' : Nat → Int32} {k : Nat} (hf : F 0 = nI (Z.2.2 0) ∧ F 1 = nI (Z.2.2 1) ∧ F 2 = M 1 0 ∧ F 4 = M 2 0) (hx : XT M) (h' : uRR (n + k) Z' M' S' C' E' P') (hk : k ≤ 6) (h0 : F' 0 = nI (Z'.2.2 0)) (h1 : F' 1 = nI (Z'.2.2 1)) (hF : F' 2 = F 2 ∧ F' 4 = F 4) (m1 : M' 1 = M 1) (m2 : M' 2 = M 2) (m21 : M' 21 = M 21) (m24 : M' 24 = M 24) : INV (n + 6) Z' F' := by
  refine ⟨M', S', C', E', P', ?_, ⟨h0, h1, by rw [hF.1, hf.2.2.1, m1], by rw [hF.2, hf.2.2.2, m2]⟩, ?_⟩
  · have := h'.ups (6 - k)
    rw [show n + k + (6 - k) = n + 6 by omega] at this
    exact this
  · unfold XT
    rw [m1, m21, m24]
    exact hx
/-- nothing that F speaks of has changed -/
theorem INV.eq {Z' : CZ} {M' : MT} {S' C' : Nat → Nat} {E' P' : Nat → Nat → Nat} {F : Nat → Int32} {k : Nat} (hf : F 0 = nI (Z.2.2 0) ∧ F 1 = nI (Z.2.2 1) ∧ F 2 = M 1 0 ∧ F 4 = M 2 0) (hx : XT M) (h' : uRR (n + k) Z' M' S' C' E' P') (hk : k ≤ 6) (z0 : Z'.2.2 0 = Z.2.2 0) (z1 : Z'.2.2 1 = Z.2.2 1) (m1 : M' 1 = M 1) (m2 : M' 2 = M 2) (m21 : M' 21 = M 21) (m24 : M' 24 = M 24) : INV (n + 6) Z' F :=
  INV.of hf hx h' hk (by rw [z0]; exact hf.1) (by rw [z1]; exact hf.2.1) ⟨rfl, rfl⟩ m1 m2 m21 m24
theorem q_field0 (h : uRR n Z M S C E P) {i f : Nat} (hi : i < Z.2.2 0) (hf : f < 4) : fX6_field_n (nI i) (nI f) 0 Z = some (M 4 (4 * i + f)) := nb_field _ _ _ _ _ (k_field0 h hi hf)
theorem q_field1 (h : uRR n Z M S C E P) {i f : Nat} (hi : i < Z.2.2 0) (hf : f < 4) : fX6_field_n (nI i) (nI f) 1 Z = some (M 4 (4 * i + f) - M 2 0) := nb_field _ _ _ _ _ (k_field1 h hi hf)
theorem q_field2 (h : uRR n Z M S C E P) {i f : Nat} (hi : i < Z.2.2 0) (hf : f < 4) : fX6_field_n (nI i) (nI f) 2 Z = some (M 5 (4 * i + f)) := nb_field _ _ _ _ _ (k_field2 h hi hf)
theorem q_field3 (h : uRR n Z M S C E P) {i f : Nat} (hi : i < Z.2.2 0) (hf : f < 4) : fX6_field_n (nI i) (nI f) 3 Z = some (M 6 (4 * i + f)) := nb_field _ _ _ _ _ (k_field3 h hi hf)
theorem q_field4 (hn : n < 512) (h : uRR n Z M S C E P) {i f : Nat} (hi : i < Z.2.2 0) (hf : f < 4) : fX6_field_n (nI i) (nI f) 4 Z = some (if (uPS M i).2.1 f ≤ 6 then 0 else 1) := nb_field _ _ _ _ _ (k_field4 hn h hi hf)
theorem q_ofPlayer1 (h : uRR n Z M S C E P) {i : Nat} (hi : i < Z.2.2 1) : fX6_ofPlayer_n (nI i) 1 Z = some (nI (ucnt S P i)) := nb_ofPlayer _ _ _ _ (k_ofPlayer1 h hi)
theorem q_ofPlayer2 (h : uRR n Z M S C E P) {i : Nat} (hi : i < Z.2.2 1) : fX6_ofPlayer_n (nI i) 2 Z = some (M 12 i) := nb_ofPlayer _ _ _ _ (k_ofPlayer2 h hi)
theorem q_ofBand0 (h : uRR n Z M S C E P) {b : Nat} (hb : b < 4) : fX6_ofBand_n (nI b) 0 Z = some (nI (S b)) := nb_ofBand _ _ _ _ (k_ofBand0 h hb)
theorem q_ofBand1 (h : uRR n Z M S C E P) {b : Nat} (hb : b < 4) : fX6_ofBand_n (nI b) 1 Z = some (nI (C b)) := nb_ofBand _ _ _ _ (k_ofBand1 h hb)
theorem q_ofBand2 (h : uRR n Z M S C E P) {b : Nat} (hb : b < 4) : fX6_ofBand_n (nI b) 2 Z = some (nI (C b / 4)) := nb_ofBand _ _ _ _ (k_ofBand2 h hb)
theorem q_ofBand3 (h : uRR n Z M S C E P) {b : Nat} (hb : b < 4) : fX6_ofBand_n (nI b) 3 Z = some (uhd M b) := nb_ofBand _ _ _ _ (k_ofBand3 h hb)
theorem q_ofBand4 (h : uRR n Z M S C E P) {b : Nat} (hb : b < 4) : fX6_ofBand_n (nI b) 4 Z = some (if M 21 b = M 1 0 then 1 else 0) := nb_ofBand _ _ _ _ (k_ofBand4 h hb)
theorem q_seat (h : uRR n Z M S C E P) {b k : Nat} (hb : b < 4) (hk : k < S b) : fX6_seat_n (nI b) (nI k) Z = some (nI (P b k)) := nb_seat _ _ _ _ (k_seat h hb hk)
theorem q_knows (h : uRR n Z M S C E P) {b k j : Nat} (hb : b < 4) (hk : k < S b) (hj : j < C b / 4) : fX6_knows_n (nI b) (nI k) (nI j) Z = some (M 19 (6 * (8 * b + k) + j)) := nb_knows _ _ _ _ _ (k_knows h hb hk hj)
theorem uRR.sp (h : uRR n Z M S C E P) {b k : Nat} (hb : b < 4) (hk : k < S b) : P b k < Z.2.2 1 := (h.2.2.2.2.2.2.1.2.1 b k hb hk).2.1
theorem uRR.tw (h : uRR n Z M S C E P) {i f : Nat} (hi : i < Z.2.2 0) (hf : f < 4) : -(60 + 24 * (n : Int)) ≤ (M 4 (4 * i + f)).toInt ∧ (M 4 (4 * i + f)).toInt ≤ 60 + 24 * (n : Int) := (h.2.1.2.2.2.1 i f hi hf).2.2.2.1
theorem uRR.m12 (h : uRR n Z M S C E P) {i : Nat} (hi : i < Z.2.2 1) : (M 12 i = -1 ∧ Z.2.1 9 i 2 = none) ∨ ∃ q, q < Z.2.2 0 ∧ M 12 i = nI q ∧ Z.2.1 9 i 2 = some q := by
  obtain ⟨o1, o2⟩ := h.2.2.2.2.2.1.1 i hi
  rcases hq : Z.2.1 9 i 2 with _ | q
  · rw [hq, oi_n] at o1
    exact Or.inl ⟨o1, rfl⟩
  · rw [hq, oi_s] at o1
    exact Or.inr ⟨q, o2 q hq, o1, rfl⟩
theorem uRR.kn (h : uRR n Z M S C E P) {b k j : Nat} (hb : b < 4) (hk : k < S b) (hj : j < 6) : M 19 (6 * (8 * b + k) + j) = 0 ∨ M 19 (6 * (8 * b + k) + j) = 1 ∨ M 19 (6 * (8 * b + k) + j) = 2 := (h.2.2.2.2.2.2.2.2.1 b k j hb hk hj).2
end URQ
