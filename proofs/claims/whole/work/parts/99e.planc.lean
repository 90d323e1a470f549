/-! PURE PART. A pan of the class, and the model's scratch, as numbers. -/
def prep (t m u : Nat → Int32) (s : PS) : Prop := ∀ f, f < 4 → (t f).toInt = s.1 f ∧ m f = nI (s.2.1 f) ∧ u f = (if s.2.2 f = true then 1 else 0)
def pbd (s : PS) (B K : Nat) : Prop := ∀ f, f < 4 → (-(B : Int) ≤ s.1 f ∧ s.1 f ≤ B) ∧ s.2.1 f ≤ K
theorem pbd.pt {s : PS} {B K : Nat} (h : pbd s B K) (c : Nat) : pbd (pt s c) (B + 24) (K + 1) := fun f hf => by
  obtain ⟨⟨h1, h2⟩, h3⟩ := h f hf
  have n1 := pt_near s c f
  refine ⟨⟨by omega, by omega⟩, ?_⟩
  show (if f = c / 8 then s.2.1 f + 1 else s.2.1 f) ≤ K + 1
  split <;> omega
/-- the tones after a blow: rows alike in the class and in the model -/
def brow (t : Nat → Int32) (f : Nat) (d0 d1 : Int32) : Nat → Int32 := upd (upd (upd t f (t f + d0)) ((f + 1) % 4) (upd t f (t f + d0) ((f + 1) % 4) + d1)) ((f + 3) % 4) (upd (upd t f (t f + d0)) ((f + 1) % 4) (upd t f (t f + d0) ((f + 1) % 4) + d1) ((f + 3) % 4) + d1)
theorem prow {t : Nat → Int32} {s : PS} {c : Nat} {B : Nat} (hB : B ≤ 1000000) (hc : c < 32) (ht : ∀ f, f < 4 → (t f).toInt = s.1 f ∧ -(B : Int) ≤ s.1 f ∧ s.1 f ≤ B) {d0 d1 : Int32} (h0 : d0.toInt = if c % 2 = 1 then -6 * (pF c : Int) else 4 * (pF c : Int)) (h1 : d1.toInt = if c % 2 = 1 then (pF c : Int) else -(pF c : Int)) : ∀ g, g < 4 → (brow t (c / 8) d0 d1 g).toInt = (pt s c).1 g := by
  have hF := pF_le c
  have b0 : -24 ≤ d0.toInt ∧ d0.toInt ≤ 24 := by
    rw [h0]
    split <;> omega
  have b1 : -4 ≤ d1.toInt ∧ d1.toInt ≤ 4 := by
    rw [h1]
    split <;> omega
  intro g hg
  obtain ⟨g1, g2, g3⟩ := ht g hg
  show (brow t (c / 8) d0 d1 g).toInt = if g = c / 8 then s.1 g + (if c % 2 = 1 then -6 * (pF c : Int) else 4 * (pF c : Int)) else if g = (c / 8 + 1) % 4 ∨ g = (c / 8 + 3) % 4 then s.1 g + (if c % 2 = 1 then (pF c : Int) else -(pF c : Int)) else s.1 g
  rw [← h0, ← h1, ← g1]
  unfold brow
  by_cases k0 : g = c / 8
  · rw [if_pos k0, pk_un (by omega), pk_un (by omega), ← k0, pk_us]
    exact tI_add (by omega) (by omega)
  · rw [if_neg k0]
    by_cases k1 : g = (c / 8 + 1) % 4
    · rw [if_pos (Or.inl k1), pk_un (by omega), ← k1, pk_us, pk_un k0]
      exact tI_add (by omega) (by omega)
    · by_cases k3 : g = (c / 8 + 3) % 4
      · rw [if_pos (Or.inr k3), ← k3, pk_us, pk_un k1, pk_un k0]
        exact tI_add (by omega) (by omega)
      · rw [if_neg (fun q => q.elim k1 k3), pk_un k3, pk_un k1, pk_un k0]
/-- the numbers that a blow adds -/
theorem pd_raise {F : Nat} (hF : F ≤ 4) : ((4 : Int32) * nI F).toInt = 4 * (F : Int) ∧ (-(nI F)).toInt = -(F : Int) := by
  rw [u_l4, nIi (by omega), tI_neg (by rw [nIi (by omega)]; omega), nIi (by omega)]
  exact ⟨by omega, rfl⟩
theorem pd_sink {F : Nat} (hF : F ≤ 4) : ((-6 : Int32) * nI F).toInt = -6 * (F : Int) ∧ (nI F).toInt = (F : Int) := by
  have e6 : ((-6 : Int32)).toInt = -6 := by decide
  refine ⟨?_, nIi (by omega)⟩
  rw [tI_mul (by rw [e6, nIi (by omega)]; omega) (by rw [e6, nIi (by omega)]; omega), e6, nIi (by omega)]
theorem prow_m {m : Nat → Int32} {s : PS} {c : Nat} (hm : ∀ f, f < 4 → m f = nI (s.2.1 f)) : ∀ g, g < 4 → upd m (c / 8) (m (c / 8) + 1) g = nI ((pt s c).2.1 g) := fun g hg => by
  show _ = nI (if g = c / 8 then s.2.1 g + 1 else s.2.1 g)
  by_cases k0 : g = c / 8
  · rw [if_pos k0, ← k0, pk_us, hm g hg, u_a1]
  · rw [if_neg k0, pk_un k0, hm g hg]
theorem prow_u {u : Nat → Int32} {s : PS} {c : Nat} {v : Int32} (hu : ∀ f, f < 4 → u f = (if s.2.2 f = true then 1 else 0)) (hc : c < 32) (hv : v = (if s.2.2 (c / 8) = true ∨ c % 2 = 1 then 1 else 0)) : ∀ g, g < 4 → upd u (c / 8) v g = (if (pt s c).2.2 g = true then 1 else 0) := fun g hg => by
  show _ = (if (if g = c / 8 then s.2.2 g || decide (c % 2 = 1) else s.2.2 g) = true then (1 : Int32) else 0)
  by_cases k0 : g = c / 8
  · rw [if_pos k0, k0, pk_us, hv]
    by_cases h1 : s.2.2 (c / 8) = true
    · rw [if_pos (Or.inl h1), h1]
      rfl
    · have h1' : s.2.2 (c / 8) = false := by simpa using h1
      rw [h1']
      by_cases h2 : c % 2 = 1
      · rw [if_pos (Or.inr h2), decide_eq_true h2]
        rfl
      · rw [if_neg (fun q => q.elim (fun z => by cases z) h2), decide_eq_false h2]
        rfl
  · rw [if_neg k0, pk_un k0, hu g hg]
theorem u_f3 (k : Nat) : (nI k + 4) - 1 = nI (k + 3) := by
  rw [u_a4, u_s1 (by omega)]
  rfl
section URP
variable {Z : CZ} {a : Nat} {s : PS} {B K : Nat}
def zrep (Z : CZ) (a : Nat) (s : PS) : Prop := prep (Z.1 6 a) (Z.1 7 a) (Z.1 8 a) s
/-- what a search may write: pans from a on that are trials, the row from place p on -/
def zfr (a p : Nat) (Z Z' : CZ) : Prop := Z'.2 = Z.2 ∧ (∀ k i, ¬ ((k = 6 ∨ k = 7 ∨ k = 8) ∧ a ≤ i ∧ i < 9) → k ≠ 15 → Z'.1 k i = Z.1 k i) ∧ ∀ i j, j < p → Z'.1 15 i j = Z.1 15 i j
theorem zfr.rf {a p : Nat} : zfr a p Z Z := ⟨rfl, fun _ _ _ _ => rfl, fun _ _ _ => rfl⟩
theorem zfr.tr {a p : Nat} {Z1 Z2 Z3 : CZ} (h1 : zfr a p Z1 Z2) (h2 : zfr a p Z2 Z3) : zfr a p Z1 Z3 := ⟨h2.1.trans h1.1, fun k i q q2 => (h2.2.1 k i q q2).trans (h1.2.1 k i q q2), fun i j q => (h2.2.2 i j q).trans (h1.2.2 i j q)⟩
theorem zfr.weak {a p a' p' : Nat} {Z1 Z2 : CZ} (h : zfr a p Z1 Z2) (ha : a' ≤ a) (hp : p' ≤ p) : zfr a' p' Z1 Z2 := ⟨h.1, fun k i q q2 => h.2.1 k i (fun z => q ⟨z.1, by omega, z.2.2⟩) q2, fun i j q => h.2.2 i j (by omega)⟩
theorem zfr.rep {a p : Nat} {Z1 Z2 : CZ} (h : zfr a p Z1 Z2) {i : Nat} (hi : i < a) {s : PS} (hr : zrep Z1 i s) : zrep Z2 i s := by
  have e : ∀ k, k ≠ 15 → Z2.1 k i = Z1.1 k i := fun k hk => h.2.1 k i (fun z => by omega) hk
  unfold zrep
  rw [e 6 (by omega), e 7 (by omega), e 8 (by omega)]
  exact hr
theorem c_cracked (ha : cLv Z.2.2 5 a = true) (hr : zrep Z a s) (hb : pbd s B K) (hK : K ≤ 1000) {f : Nat} (hf : f < 4) : fX1_isCracked a (nI f) Z = some (if s.2.1 f ≤ 6 then 0 else 1) := by
  have hb := (hb f hf).2
  unfold fX1_isCracked
  rw [ha, gdt, gdn hf (by omega), nIc (by omega), (hr f hf).2.1]
  by_cases h : s.2.1 f ≤ 6
  · rw [if_pos (show nI (s.2.1 f) ≤ (6 : Int32) from nI_le (b := 6) h (by omega)), if_pos h]
    rfl
  · rw [if_neg (show ¬ (nI (s.2.1 f) ≤ (6 : Int32)) from nI_ge (a := 6) (by omega) (by omega)), if_neg h]
    rfl
theorem c_bears (ha : cLv Z.2.2 5 a = true) (hr : zrep Z a s) (hb : pbd s B K) (hK : K ≤ 1000) {c : Nat} (hc : c < 32) : (pB s c ∧ fX1_bears a (nI (c / 8)) (nI (c % 2)) Z = some 1) ∨ (¬ pB s c ∧ fX1_bears a (nI (c / 8)) (nI (c % 2)) Z = some 0) := by
  have hu := (hr (c / 8) (by omega)).2.2
  unfold fX1_bears
  rw [ha, gdt, c_cracked ha hr hb hK (show c / 8 < 4 by omega), cl1_s]
  by_cases h : s.2.1 (c / 8) ≤ 6
  · rw [if_pos h, if_pos (by decide)]
    have : c % 2 = 0 ∨ c % 2 = 1 := by omega
    rcases this with e | e
    · rw [e, if_pos (show nI 0 = 0 from rfl), gdn (show c / 8 < 4 by omega) (by omega), nIc (by omega), hu]
      by_cases h2 : s.2.2 (c / 8) = true
      · rw [if_pos h2, if_neg (by decide)]
        refine Or.inr ⟨fun q => ?_, rfl⟩
        rcases q.2 with q2 | q2
        · omega
        · rw [h2] at q2
          cases q2
      · rw [if_neg h2, if_pos (by decide)]
        exact Or.inl ⟨⟨h, Or.inr (by simpa using h2)⟩, rfl⟩
    · rw [e, if_neg (show ¬ (nI 1 = 0) by decide)]
      exact Or.inl ⟨⟨h, Or.inl e⟩, rfl⟩
  · rw [if_neg h, if_neg (by decide)]
    exact Or.inr ⟨fun q => h q.1, rfl⟩
/-- the class's state after a blow -/
def zbt (Z : CZ) (a f : Nat) (d0 d1 v : Int32) : CZ := (fun k i => if i = a then (if k = 6 then brow (Z.1 6 a) f d0 d1 else if k = 7 then upd (Z.1 7 a) f (Z.1 7 a f + 1) else if k = 8 then upd (Z.1 8 a) f v else Z.1 k i) else Z.1 k i, Z.2)
theorem c_beat33 (h5 : ∀ Z' : CZ, Z'.2 = Z.2 → cLv Z'.2.2 5 a = true) (h6 : cLv Z.2.2 6 a = true) {f : Nat} (hf : f < 4) {x d0 d1 : Int32} : fX1_beat_33 a (nI f) x d1 d0 (Z.1 6 a f) (nI f) a Z = some (zbt Z a f d0 d1 (vp_nar .boolean (Z.1 8 a f ||| x))) := by
  unfold fX1_beat_33
  rw [h6, gdt, gdn hf (by omega), bnd_e, h5 (cuI Z 6 a (upd (Z.1 6 a) (nI f).toNatClampNeg (Z.1 6 a f + d0))) rfl, gdt, u_a1, u_e4 (by omega), gdn (by omega) (by omega), gdn (by omega) (by omega), bnd_e, u_f3, u_e4 (by omega), gdn (by omega) (by omega), gdn (by omega) (by omega), bnd_e, gdn hf (by omega), gdn hf (by omega), bnd_e, gdn hf (by omega), gdn hf (by omega), bnd_e, nIc (by omega), nIc (by omega), nIc (by omega)]
  congr 1
  refine Prod.ext ?_ rfl
  funext k i
  by_cases hi : i = a
  · subst hi
    show _ = (if i = i then (if k = 6 then brow (Z.1 6 i) f d0 d1 else if k = 7 then upd (Z.1 7 i) f (Z.1 7 i f + 1) else if k = 8 then upd (Z.1 8 i) f (vp_nar .boolean (Z.1 8 i f ||| x)) else Z.1 k i) else Z.1 k i)
    rw [if_pos rfl]
    by_cases k6 : k = 6
    · subst k6
      rw [if_pos rfl, cuI_n (fun q => by omega), cuI_n (fun q => by omega), cuI_s, cuI_s, cuI_s]
      rfl
    · by_cases k7 : k = 7
      · subst k7
        rw [if_neg (by omega), if_pos rfl, cuI_n (fun q => by omega), cuI_s, cuI_n (fun q => by omega), cuI_n (fun q => by omega), cuI_n (fun q => by omega)]
      · by_cases k8 : k = 8
        · subst k8
          rw [if_neg (by omega), if_neg (by omega), if_pos rfl, cuI_s, cuI_n (fun q => by omega), cuI_n (fun q => by omega), cuI_n (fun q => by omega), cuI_n (fun q => by omega)]
        · rw [if_neg k6, if_neg k7, if_neg k8, cuI_n (fun q => k8 q.1), cuI_n (fun q => k7 q.1), cuI_n (fun q => k6 q.1), cuI_n (fun q => k6 q.1), cuI_n (fun q => k6 q.1)]
  · show _ = (if i = a then _ else Z.1 k i)
    rw [if_neg hi, cuI_n (fun q => hi q.2), cuI_n (fun q => hi q.2), cuI_n (fun q => hi q.2), cuI_n (fun q => hi q.2), cuI_n (fun q => hi q.2)]
theorem c_beat (h5 : ∀ Z' : CZ, Z'.2 = Z.2 → cLv Z'.2.2 5 a = true) (h6 : cLv Z.2.2 6 a = true) (hr : zrep Z a s) (hb : pbd s B K) (hB : B ≤ 1000000) {c : Nat} (hc : c < 32) : ∃ Z' : CZ, fX1_beat a (nI (c / 8)) (nI (pF c)) (nI (c % 2)) Z = some Z' ∧ Z'.2 = Z.2 ∧ (∀ k i, ¬ ((k = 6 ∨ k = 7 ∨ k = 8) ∧ i = a) → Z'.1 k i = Z.1 k i) ∧ zrep Z' a (pt s c) := by
  have hF := pF_le c
  have hf : c / 8 < 4 := by omega
  have ht : ∀ f, f < 4 → (Z.1 6 a f).toInt = s.1 f ∧ -(B : Int) ≤ s.1 f ∧ s.1 f ≤ B := fun f hf => ⟨(hr f hf).1, (hb f hf).1⟩
  have hu : ∀ f, f < 4 → Z.1 8 a f = (if s.2.2 f = true then 1 else 0) := fun f hf => (hr f hf).2.2
  have done : ∀ (d0 d1 v : Int32), (d0.toInt = if c % 2 = 1 then -6 * (pF c : Int) else 4 * (pF c : Int)) → (d1.toInt = if c % 2 = 1 then (pF c : Int) else -(pF c : Int)) → (v = (if s.2.2 (c / 8) = true ∨ c % 2 = 1 then 1 else 0)) → (∀ k i, ¬ ((k = 6 ∨ k = 7 ∨ k = 8) ∧ i = a) → (zbt Z a (c / 8) d0 d1 v).1 k i = Z.1 k i) ∧ zrep (zbt Z a (c / 8) d0 d1 v) a (pt s c) := fun d0 d1 v e0 e1 ev => by
    refine ⟨fun k i q => ?_, fun g hg => ⟨?_, ?_, ?_⟩⟩
    · show (if i = a then (if k = 6 then _ else if k = 7 then _ else if k = 8 then _ else Z.1 k i) else Z.1 k i) = _
      by_cases hi : i = a
      · rw [if_pos hi, if_neg (fun z => q ⟨Or.inl z, hi⟩), if_neg (fun z => q ⟨Or.inr (Or.inl z), hi⟩), if_neg (fun z => q ⟨Or.inr (Or.inr z), hi⟩)]
      · rw [if_neg hi]
    · show ((if a = a then brow (Z.1 6 a) (c / 8) d0 d1 else _) g).toInt = _
      rw [if_pos rfl]
      exact prow hB hc ht e0 e1 g hg
    · show (if a = a then upd (Z.1 7 a) (c / 8) (Z.1 7 a (c / 8) + 1) else _) g = _
      rw [if_pos rfl]
      exact prow_m (fun f hf => (hr f hf).2.1) g hg
    · show (if a = a then upd (Z.1 8 a) (c / 8) v else _) g = _
      rw [if_pos rfl]
      exact prow_u hu hc ev g hg
  have : c % 2 = 0 ∨ c % 2 = 1 := by omega
  rcases this with e | e
  · obtain ⟨d1, d2⟩ := done (4 * nI (pF c)) (-(nI (pF c))) (vp_nar .boolean (Z.1 8 a (c / 8) ||| 0)) (by rw [(pd_raise hF.2).1, if_neg (by omega)]) (by rw [(pd_raise hF.2).2, if_neg (by omega)]) (by
      rw [hu _ hf]
      by_cases h1 : s.2.2 (c / 8) = true
      · rw [if_pos h1, if_pos (Or.inl h1)]
        rfl
      · rw [if_neg h1, if_neg (fun q => q.elim h1 (by omega))]
        rfl)
    refine ⟨zbt Z a (c / 8) (4 * nI (pF c)) (-(nI (pF c))) (vp_nar .boolean (Z.1 8 a (c / 8) ||| 0)), ?_, rfl, d1, d2⟩
    unfold fX1_beat fX1_beat_10
    rw [e, if_pos (show nI 0 = 0 from rfl), h5 Z rfl, gdt, gdn hf (by omega), if_pos (show nI 0 = 0 from rfl), nIc (by omega)]
    exact c_beat33 h5 h6 hf
  · obtain ⟨d1, d2⟩ := done ((-6) * nI (pF c)) (nI (pF c)) (vp_nar .boolean (Z.1 8 a (c / 8) ||| 1)) (by rw [(pd_sink hF.2).1, if_pos e]) (by rw [(pd_sink hF.2).2, if_pos e]) (by
      rw [hu _ hf, if_pos (Or.inr e)]
      by_cases h1 : s.2.2 (c / 8) = true
      · rw [if_pos h1]
        rfl
      · rw [if_neg h1]
        rfl)
    refine ⟨zbt Z a (c / 8) ((-6) * nI (pF c)) (nI (pF c)) (vp_nar .boolean (Z.1 8 a (c / 8) ||| 1)), ?_, rfl, d1, d2⟩
    unfold fX1_beat fX1_beat_10
    rw [e, if_neg (show ¬ (nI 1 = 0) by decide), h5 Z rfl, gdt, gdn hf (by omega), if_neg (show ¬ (nI 1 = 0) by decide), nIc (by omega)]
    exact c_beat33 h5 h6 hf
/-! whether a pan may be brought in tune by so many blows -/
theorem c_tn_s (ha : cLv Z.2.2 5 a = true) (hr : zrep Z a s) (hb : pbd s B K) (hB : B ≤ 1000000) (hK : K ≤ 1000) {h l x k : Nat} (hh : h ≤ 15) (hl : l ≤ 3) (hx : x < 4) (fuel : Nat) : (pOk s h l x → lf5 (fX1_isTunable_5 Z) (fuel + 1) a (nI h) (nI l) (nI k) (nI x) = lf5 (fX1_isTunable_5 Z) fuel a (nI h) (nI l) (nI (k + pnd s h l x)) (nI (x + 1))) ∧ (¬ pOk s h l x → lf5 (fX1_isTunable_5 Z) (fuel + 1) a (nI h) (nI l) (nI k) (nI x) = some 0) := by
  obtain ⟨⟨b1, b2⟩, b3⟩ := hb x hx
  have et := (hr x hx).1
  have e1 : (Z.1 6 a x - nI h).toInt = s.1 x - h := by
    rw [tI_sub (by rw [et, nIi (by omega)]; omega) (by rw [et, nIi (by omega)]; omega), et, nIi (by omega)]
  have e0 : ((0 : Int32)).toInt = 0 := by decide
  have e5 : ((5 : Int32)).toInt = 5 := by decide
  obtain ⟨y, hy⟩ : ∃ y : Int32, y = (if 0 ≤ (Z.1 6 a x - nI h) then (Z.1 6 a x - nI h) else 0 - (Z.1 6 a x - nI h)) - 5 := ⟨_, rfl⟩
  have ey : y.toInt = (if 0 ≤ s.1 x - (h : Int) then s.1 x - (h : Int) else -(s.1 x - (h : Int))) - 5 := by
    rw [hy]
    by_cases hc : 0 ≤ s.1 x - (h : Int)
    · rw [if_pos hc, if_pos (by rw [i_le, e0, e1]; exact hc), tI_sub (by rw [e1, e5]; omega) (by rw [e1, e5]; omega), e1, e5]
    · have en : (0 - (Z.1 6 a x - nI h)).toInt = -(s.1 x - (h : Int)) := by
        rw [tI_sub (by rw [e0, e1]; omega) (by rw [e0, e1]; omega), e0, e1]
        omega
      rw [if_neg hc, if_neg (by rw [i_le, e0, e1]; exact hc), tI_sub (by rw [en, e5]; omega) (by rw [en, e5]; omega), en, e5]
  have c24 : (y ≤ 24 * nI l) ↔ -(5 + 24 * (l : Int)) ≤ s.1 x - h ∧ s.1 x - h ≤ 5 + 24 * (l : Int) := by
    rw [u_l24, i_le, nIi (by omega), ey]
    split <;> omega
  have c4 : (y ≤ 4 * nI l) ↔ -(5 + 4 * (l : Int)) ≤ s.1 x - h ∧ s.1 x - h ≤ 5 + 4 * (l : Int) := by
    rw [u_l4, i_le, nIi (by omega), ey]
    split <;> omega
  have step : lf5 (fX1_isTunable_5 Z) (fuel + 1) a (nI h) (nI l) (nI k) (nI x) = if (if s.2.1 x ≤ 6 then (0 : Int32) else 1) = 0 then (if y ≤ 24 * nI l then (if y ≤ 4 * nI l then lf5 (fX1_isTunable_5 Z) fuel a (nI h) (nI l) (nI k) (nI (x + 1)) else lf5 (fX1_isTunable_5 Z) fuel a (nI h) (nI l) (nI (k + 1)) (nI (x + 1))) else some 0) else some 0 := by
    rw [lf5_s]
    unfold fX1_isTunable_5
    rw [if_neg (show ¬ ((4 : Int32) ≤ nI x) from nI_ge (b := 4) hx (by omega)), ha, gdt, gdn hx (by omega), nIc (by omega), ← hy, bnd_e, c_cracked ha hr hb hK hx, cl1_s]
    unfold fX1_isTunable_58
    rw [bnd_e, bnd_e, bnd_e, u_a1, u_a1]
    rfl
  constructor
  · rintro ⟨q1, q2⟩
    rw [step, if_pos q1, if_pos (by decide), if_pos (c24.mpr q2)]
    unfold pnd
    by_cases q3 : -(5 + 4 * (l : Int)) ≤ s.1 x - h ∧ s.1 x - h ≤ 5 + 4 * (l : Int)
    · rw [if_pos (c4.mpr q3), if_pos q3]
      rfl
    · rw [if_neg (fun z => q3 (c4.mp z)), if_neg q3]
  · intro q
    rw [step]
    by_cases q1 : s.2.1 x ≤ 6
    · rw [if_pos q1, if_pos (by decide), if_neg (fun z => q ⟨q1, c24.mp z⟩)]
    · rw [if_neg q1, if_neg (by decide)]
theorem c_tunable (ha : cLv Z.2.2 5 a = true) (hr : zrep Z a s) (hb : pbd s B K) (hB : B ≤ 1000000) (hK : K ≤ 1000) {h l : Nat} (hh : h ≤ 15) (hl : l ≤ 3) : (pMay s h l → fX1_isTunable a (nI h) (nI l) Z = some 1) ∧ (¬ pMay s h l → fX1_isTunable a (nI h) (nI l) Z = some 0) := by
  have st := fun x k fuel (hx : x < 4) => c_tn_s ha hr hb hB hK hh hl (x := x) (k := k) hx fuel
  have u0 : ∀ r, lf5 (fX1_isTunable_5 Z) (95 + 1 + 1 + 1 + 1 + 1) a (nI h) (nI l) (nI 0) (nI 0) = r → fX1_isTunable a (nI h) (nI l) Z = r := fun r hr => hr
  by_cases q0 : pOk s h l 0
  · by_cases q1 : pOk s h l 1
    · by_cases q2 : pOk s h l 2
      · by_cases q3 : pOk s h l 3
        · have hall : ∀ f, f < 4 → pOk s h l f := fun f hf => by
            have : f = 0 ∨ f = 1 ∨ f = 2 ∨ f = 3 := by omega
            rcases this with rfl | rfl | rfl | rfl
            · exact q0
            · exact q1
            · exact q2
            · exact q3
          have n0 := pnd_le s h l 0
          have n1 := pnd_le s h l 1
          have n2 := pnd_le s h l 2
          have n3 := pnd_le s h l 3
          have e : ∀ r, fX1_isTunable_64 Z (nI l) (nI (pnd s h l 0 + pnd s h l 1 + pnd s h l 2 + pnd s h l 3)) = r → fX1_isTunable a (nI h) (nI l) Z = r := fun r hr => u0 r (by
            rw [(st 0 _ _ (by omega)).1 q0, (st 1 _ _ (by omega)).1 q1, (st 2 _ _ (by omega)).1 q2, (st 3 _ _ (by omega)).1 q3, lf5_s]
            unfold fX1_isTunable_5
            rw [if_pos (by decide), Nat.zero_add]
            exact hr)
          constructor
          · intro hm
            refine e _ ?_
            unfold fX1_isTunable_64
            rw [if_neg (nI_nlt hm.2 (by omega))]
            rfl
          · intro hm
            refine e _ ?_
            unfold fX1_isTunable_64
            rw [if_pos (nI_lt (Nat.not_le.mp (fun z => hm ⟨hall, z⟩)) (by omega))]
            rfl
        · refine ⟨fun q => absurd (q.1 3 (by omega)) q3, fun _ => u0 _ ?_⟩
          rw [(st 0 _ _ (by omega)).1 q0, (st 1 _ _ (by omega)).1 q1, (st 2 _ _ (by omega)).1 q2, (st 3 _ _ (by omega)).2 q3]
      · refine ⟨fun q => absurd (q.1 2 (by omega)) q2, fun _ => u0 _ ?_⟩
        rw [(st 0 _ _ (by omega)).1 q0, (st 1 _ _ (by omega)).1 q1, (st 2 _ _ (by omega)).2 q2]
    · refine ⟨fun q => absurd (q.1 1 (by omega)) q1, fun _ => u0 _ ?_⟩
      rw [(st 0 _ _ (by omega)).1 q0, (st 1 _ _ (by omega)).2 q1]
  · refine ⟨fun q => absurd (q.1 0 (by omega)) q0, fun _ => u0 _ ?_⟩
    rw [(st 0 _ _ (by omega)).2 q0]
end URP
