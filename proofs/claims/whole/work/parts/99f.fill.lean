/-! PURE PART. The class's search for a row of blows. -/
section URF
variable {Z : CZ} {a : Nat} {s : PS} {B K : Nat}
theorem c_copy_l {t a : Nat} (hta : t ≠ a) (h5t : cLv Z.2.2 5 t = true) (h5a : cLv Z.2.2 5 a = true) (h8 : ∀ f, f < 4 → Z.1 8 a f = 0 ∨ Z.1 8 a f = 1) : ∀ (d x fuel : Nat) (Z' : CZ), x + d = 4 → d < fuel → Z'.2 = Z.2 → (∀ k i, ¬ ((k = 6 ∨ k = 7 ∨ k = 8) ∧ i = t) → Z'.1 k i = Z.1 k i) → (∀ f, f < x → Z'.1 6 t f = Z.1 6 a f ∧ Z'.1 7 t f = Z.1 7 a f ∧ Z'.1 8 t f = Z.1 8 a f) → ∃ Z'' : CZ, lf4 fX1_copyFrom_2 fuel t a (nI x) Z' = some Z'' ∧ Z''.2 = Z.2 ∧ (∀ k i, ¬ ((k = 6 ∨ k = 7 ∨ k = 8) ∧ i = t) → Z''.1 k i = Z.1 k i) ∧ (∀ f, f < 4 → Z''.1 6 t f = Z.1 6 a f ∧ Z''.1 7 t f = Z.1 7 a f ∧ Z''.1 8 t f = Z.1 8 a f)
  | _, _, 0, _, _, hf, _, _, _ => absurd hf (by omega)
  | 0, x, fuel + 1, Z', hx, _, h2, hfr, hv => by
    refine ⟨Z', ?_, h2, hfr, by rw [show x = 4 by omega] at hv; exact hv⟩
    rw [lf4_s]
    unfold fX1_copyFrom_2
    rw [show x = 4 by omega, if_pos (by decide)]
    rfl
  | d + 1, x, fuel + 1, Z', hx, hf, h2, hfr, hv => by
    have hat : ∀ k, Z'.1 k a = Z.1 k a := fun k => hfr k a (fun q => hta q.2.symm)
    have l5t : cLv Z'.2.2 5 t = true := by
      rw [h2]
      exact h5t
    have l5a : cLv Z'.2.2 5 a = true := by
      rw [h2]
      exact h5a
    have step : lf4 fX1_copyFrom_2 (fuel + 1) t a (nI x) Z' = lf4 fX1_copyFrom_2 fuel t a (nI (x + 1)) (cuI (cuI (cuI Z' 6 t (upd (Z'.1 6 t) x (Z.1 6 a x))) 7 t (upd (Z'.1 7 t) x (Z.1 7 a x))) 8 t (upd (Z'.1 8 t) x (Z.1 8 a x))) := by
      rw [lf4_s]
      unfold fX1_copyFrom_2
      rw [if_neg (show ¬ ((4 : Int32) ≤ nI x) from nI_ge (b := 4) (by omega) (by omega)), l5t, gdt, l5a, gdt, gdn (by omega) (by omega), gdn (by omega) (by omega), bnd_e, gdn (by omega) (by omega), gdn (by omega) (by omega), bnd_e, gdn (by omega) (by omega), gdn (by omega) (by omega), bnd_e, bnd_e, nIc (by omega), u_a1, hat 6]
      rw [show (cuI Z' 6 t (upd (Z'.1 6 t) x (Z.1 6 a x))).1 7 a = Z.1 7 a from hat 7, show (cuI (cuI Z' 6 t (upd (Z'.1 6 t) x (Z.1 6 a x))) 7 t (upd ((cuI Z' 6 t (upd (Z'.1 6 t) x (Z.1 6 a x))).1 7 t) x (Z.1 7 a x))).1 8 a = Z.1 8 a from hat 8, vbb (h8 x (by omega))]
      rfl
    obtain ⟨Z'', z1, z2, z3, z4⟩ := c_copy_l hta h5t h5a h8 d (x + 1) fuel (cuI (cuI (cuI Z' 6 t (upd (Z'.1 6 t) x (Z.1 6 a x))) 7 t (upd (Z'.1 7 t) x (Z.1 7 a x))) 8 t (upd (Z'.1 8 t) x (Z.1 8 a x))) (by omega) (by omega) h2 (fun k i q => by
      rw [cuI_n (fun z => q ⟨Or.inr (Or.inr z.1), z.2⟩), cuI_n (fun z => q ⟨Or.inr (Or.inl z.1), z.2⟩), cuI_n (fun z => q ⟨Or.inl z.1, z.2⟩), hfr k i q]) (fun f hf => by
      have e6 : (cuI (cuI (cuI Z' 6 t (upd (Z'.1 6 t) x (Z.1 6 a x))) 7 t (upd (Z'.1 7 t) x (Z.1 7 a x))) 8 t (upd (Z'.1 8 t) x (Z.1 8 a x))).1 6 t = upd (Z'.1 6 t) x (Z.1 6 a x) := by rw [cuI_n (fun q => by omega), cuI_n (fun q => by omega), cuI_s]
      have e7 : (cuI (cuI (cuI Z' 6 t (upd (Z'.1 6 t) x (Z.1 6 a x))) 7 t (upd (Z'.1 7 t) x (Z.1 7 a x))) 8 t (upd (Z'.1 8 t) x (Z.1 8 a x))).1 7 t = upd (Z'.1 7 t) x (Z.1 7 a x) := by rw [cuI_n (fun q => by omega), cuI_s]
      have e8 : (cuI (cuI (cuI Z' 6 t (upd (Z'.1 6 t) x (Z.1 6 a x))) 7 t (upd (Z'.1 7 t) x (Z.1 7 a x))) 8 t (upd (Z'.1 8 t) x (Z.1 8 a x))).1 8 t = upd (Z'.1 8 t) x (Z.1 8 a x) := by rw [cuI_s]
      rw [e6, e7, e8]
      by_cases e : f = x
      · subst e
        rw [pk_us, pk_us, pk_us]
        exact ⟨rfl, rfl, rfl⟩
      · rw [pk_un e, pk_un e, pk_un e]
        exact hv f (by omega))
    exact ⟨Z'', by rw [step]; exact z1, z2, z3, z4⟩
theorem c_copy {t a : Nat} (hta : t ≠ a) (h5t : cLv Z.2.2 5 t = true) (h5a : cLv Z.2.2 5 a = true) (hr : zrep Z a s) : ∃ Z' : CZ, fX1_copyFrom t a Z = some Z' ∧ Z'.2 = Z.2 ∧ (∀ k i, ¬ ((k = 6 ∨ k = 7 ∨ k = 8) ∧ i = t) → Z'.1 k i = Z.1 k i) ∧ zrep Z' t s := by
  obtain ⟨Z', z1, z2, z3, z4⟩ := c_copy_l hta h5t h5a (fun f hf => by
    rw [(hr f hf).2.2]
    split
    · exact Or.inr rfl
    · exact Or.inl rfl) 4 0 100 Z (by omega) (by omega) rfl (fun _ _ _ => rfl) (fun f hf => by omega)
  refine ⟨Z', z1, z2, z3, fun f hf => ?_⟩
  obtain ⟨e6, e7, e8⟩ := z4 f hf
  rw [e6, e7, e8]
  exact hr f hf
theorem pTn_of {h : Nat} (hm : pMay s h 0) : pTn s h := fun f hf => by
  obtain ⟨q1, q2, q3⟩ := hm.1 f hf
  exact ⟨q1, by omega, by omega⟩
/-- what a search tells -/
def pFound (h l place : Nat) (s : PS) (Z' : CZ) (n : Nat) : Prop := n < 32 ^ l ∧ pGood h (dg l n) s ∧ (∀ n', n' < n → ¬ pGood h (dg l n') s) ∧ ∀ j, j < l → Z'.1 15 0 (place + j) = nI ((dg l n).getD j 0)
def pNone (h l : Nat) (s : PS) : Prop := ∀ n, n < 32 ^ l → ¬ pGood h (dg l n) s
theorem c_fill {h : Nat} (hh : h ≤ 15) : ∀ (l place a dp : Nat) (Z : CZ) (s : PS) (B K : Nat), place + l ≤ 3 → l < dp → a < 6 + place → cLv Z.2.2 5 a = true → uLs Z 3 3 (fun t => 6 + t) → zrep Z a s → pbd s B K → B + 24 * l ≤ 1000000 → K + l ≤ 1000 → ∃ Z' : CZ, zfr (6 + place) place Z Z' ∧ ((∃ n, fX3_fillRow dp a (nI place) (nI l) (nI h) Z = some (1, Z') ∧ pFound h l place s Z' n) ∨ (fX3_fillRow dp a (nI place) (nI l) (nI h) Z = some (0, Z') ∧ pNone h l s))
  | _, _, _, 0, _, _, _, _, _, hd, _, _, _, _, _, _, _ => absurd hd (by omega)
  | 0, place, a, dp + 1, Z, s, B, K, hp, hd, ha, h5, hls, hr, hb, hB, hK => by
    have tn := c_tunable h5 hr hb (by omega) (by omega) hh (l := 0) (by omega)
    by_cases hm : pMay s h 0
    · refine ⟨Z, zfr.rf, Or.inl ⟨0, ?_, by decide, pTn_of hm, fun n' hn => absurd hn (by omega), fun j hj => absurd hj (by omega)⟩⟩
      show lf5 fX3_fillRow_step (dp + 1) a (nI place) (nI 0) (nI h) Z = _
      rw [lf5_s]
      unfold fX3_fillRow_step
      rw [h5, gdt, tn.1 hm, cl1_s, if_neg (by decide), if_neg (by decide)]
    · refine ⟨Z, zfr.rf, Or.inr ⟨?_, fun n hn hg => hm (by
        have := pMay_of h (dg 0 n) s (dg_lt 0 n) hg
        rw [dg_len] at this
        exact this)⟩⟩
      show lf5 fX3_fillRow_step (dp + 1) a (nI place) (nI 0) (nI h) Z = _
      rw [lf5_s]
      unfold fX3_fillRow_step
      rw [h5, gdt, tn.2 hm, cl1_s, if_pos (by decide)]
  | l + 1, place, a, dp + 1, Z, s, B, K, hp, hd, ha, h5, hls, hr, hb, hB, hK => by
    have tn := c_tunable h5 hr hb (by omega) (by omega) hh (l := l + 1) (by omega)
    by_cases hm : pMay s h (l + 1)
    · have loop : ∀ (d c fuel : Nat) (Z' : CZ), c + d = 32 → d < fuel → zfr (6 + place) place Z Z' → (∀ n, n < c * 32 ^ l → ¬ pGood h (dg (l + 1) n) s) → ∃ Z'' : CZ, zfr (6 + place) place Z Z'' ∧ ((∃ n, lf7 (fX3_fillRow_53 (fX3_fillRow dp)) fuel a (nI place) (nI (l + 1)) (nI h) (6 + place) (nI c) Z' = some (1, Z'') ∧ pFound h (l + 1) place s Z'' n) ∨ (lf7 (fX3_fillRow_53 (fX3_fillRow dp)) fuel a (nI place) (nI (l + 1)) (nI h) (6 + place) (nI c) Z' = some (0, Z'') ∧ pNone h (l + 1) s)) := by
        intro d
        induction d with
        | zero =>
          intro c fuel Z' hc hf hz hn
          obtain ⟨fuel, rfl⟩ : ∃ y, fuel = y + 1 := ⟨fuel - 1, by omega⟩
          refine ⟨Z', hz, Or.inr ⟨?_, fun n hn' => hn n (by
            rw [show c = 32 by omega]
            rw [Nat.pow_succ] at hn'
            omega)⟩⟩
          rw [lf7_s]
          unfold fX3_fillRow_53
          rw [show c = 32 by omega, if_pos (by decide)]
          rfl
        | succ d ih =>
          intro c fuel Z' hc hf hz hn
          obtain ⟨fuel, rfl⟩ : ∃ y, fuel = y + 1 := ⟨fuel - 1, by omega⟩
          have hc32 : c < 32 := by omega
          have hF := pF_le c
          have h5' : ∀ Z1 : CZ, Z1.2 = Z'.2 → cLv Z1.2.2 5 a = true := fun Z1 e => by
            rw [e, hz.1]
            exact h5
          have h5t : ∀ Z1 : CZ, Z1.2 = Z'.2 → cLv Z1.2.2 5 (6 + place) = true := fun Z1 e => cLv5t (by omega) (by omega)
          have hr' : zrep Z' a s := hz.rep ha hr
          have e80 : lf7 (fX3_fillRow_53 (fX3_fillRow dp)) (fuel + 1) a (nI place) (nI (l + 1)) (nI h) (6 + place) (nI c) Z' = fX3_fillRow_80 (fX3_fillRow dp) (lf7 (fX3_fillRow_53 (fX3_fillRow dp)) fuel) a (nI place) (nI (l + 1)) (nI h) (6 + place) (nI c) (nI (c / 8)) (nI (c % 2)) Z' := by
            rw [lf7_s]
            rw [show fX3_fillRow_53 (fX3_fillRow dp) (lf7 (fX3_fillRow_53 (fX3_fillRow dp)) fuel) a (nI place) (nI (l + 1)) (nI h) (6 + place) (nI c) Z' = (if (32 : Int32) ≤ nI c then fX3_fillRow_149 (fX3_fillRow dp) Z' else bnd (nI c / 8) (fun v9 => if irm (nI c) 2 = 1 then fX3_fillRow_80 (fX3_fillRow dp) (lf7 (fX3_fillRow_53 (fX3_fillRow dp)) fuel) a (nI place) (nI (l + 1)) (nI h) (6 + place) (nI c) v9 1 Z' else fX3_fillRow_80 (fX3_fillRow dp) (lf7 (fX3_fillRow_53 (fX3_fillRow dp)) fuel) a (nI place) (nI (l + 1)) (nI h) (6 + place) (nI c) v9 0 Z')) from rfl, if_neg (show ¬ ((32 : Int32) ≤ nI c) from nI_ge (b := 32) hc32 (by omega)), u_d8 (by omega), u_e2 (by omega), bnd_e]
            have : c % 2 = 0 ∨ c % 2 = 1 := by omega
            rcases this with e | e
            · rw [e, if_neg (by decide)]
              rfl
            · rw [e, if_pos (by decide)]
              rfl
          have next : ∀ Z1 : CZ, fX3_fillRow_143 (fX3_fillRow dp) (lf7 (fX3_fillRow_53 (fX3_fillRow dp)) fuel) a (nI place) (nI (l + 1)) (nI h) (6 + place) (nI c) Z1 = lf7 (fX3_fillRow_53 (fX3_fillRow dp)) fuel a (nI place) (nI (l + 1)) (nI h) (6 + place) (nI (c + 1)) Z1 := fun Z1 => by
            show lf7 (fX3_fillRow_53 (fX3_fillRow dp)) fuel a (nI place) (nI (l + 1)) (nI h) (6 + place) (nI c + 1) Z1 = _
            rw [u_a1]
          have grow : (∀ m, m < 32 ^ l → ¬ pGood h (c :: dg l m) s) → ∀ n, n < (c + 1) * 32 ^ l → ¬ pGood h (dg (l + 1) n) s := fun hg n hn' => by
            rcases dg_split (by omega) hn' with q | ⟨m, m1, m2⟩
            · exact hn n q
            · rw [m2, dg_cons (by omega) hc32 m1]
              exact hg m m1
          rcases c_bears (h5' Z' rfl) hr' hb (by omega) hc32 with ⟨p1, p2⟩ | ⟨p1, p2⟩
          · obtain ⟨Zc, y1, y2, y3, y4⟩ := c_copy (t := 6 + place) (a := a) (by omega) (h5t Z' rfl) (h5' Z' rfl) hr'
            obtain ⟨Zb, x1, x2, x3, x4⟩ := c_beat (a := 6 + place) (fun Z1 e => h5t Z1 (e.trans y2)) (h5t Zc y2) y4 hb (by omega) hc32
            have hz20 : zfr (6 + place) place Z' (cuI Zb 15 0 (upd (Zb.1 15 0) place (nI c))) := by
              refine ⟨by rw [show (cuI Zb 15 0 (upd (Zb.1 15 0) place (nI c))).2 = Zb.2 from rfl, x2, y2], fun k i q q2 => ?_, fun i j hj => ?_⟩
              · rw [cuI_n (fun z => q2 z.1), x3 k i (fun z => q ⟨z.1, by omega, by omega⟩), y3 k i (fun z => q ⟨z.1, by omega, by omega⟩)]
              · have e15 : ∀ i, Zb.1 15 i = Z'.1 15 i := fun i => by rw [x3 15 i (fun z => by omega), y3 15 i (fun z => by omega)]
                by_cases hi : i = 0
                · subst hi
                  rw [cuI_s, pk_un (by omega), e15]
                · rw [cuI_n (fun z => hi z.2), e15]
            have hr20 : zrep (cuI Zb 15 0 (upd (Zb.1 15 0) place (nI c))) (6 + place) (pt s c) := x4
            have hls20 : uLs (cuI Zb 15 0 (upd (Zb.1 15 0) place (nI c))) 3 3 (fun t => 6 + t) := hls.of (by
              funext i
              rw [hz20.2.1 3 i (fun z => by omega) (by omega), hz.2.1 3 i (fun z => by omega) (by omega)]) (hz20.1.trans hz.1)
            obtain ⟨Z22, w1, w2⟩ := c_fill hh l (place + 1) (6 + place) dp (cuI Zb 15 0 (upd (Zb.1 15 0) place (nI c))) (pt s c) (B + 24) (K + 1) (by omega) (by omega) (by omega) (h5t _ (by rw [show (cuI Zb 15 0 (upd (Zb.1 15 0) place (nI c))).2 = Zb.2 from rfl, x2, y2])) hls20 hr20 (hb.pt c) (by omega) (by omega)
            have hz22 : zfr (6 + place) place Z Z22 := (hz.tr hz20).tr (w1.weak (by omega) (by omega))
            have e80b : ∀ r, cl2 (fX3_fillRow dp (6 + place) (nI (place + 1)) (nI l) (nI h) (cuI Zb 15 0 (upd (Zb.1 15 0) place (nI c)))) (fun v21 Z22 => if v21 = 0 then lf7 (fX3_fillRow_53 (fX3_fillRow dp)) fuel a (nI place) (nI (l + 1)) (nI h) (6 + place) (nI (c + 1)) Z22 else some (1, Z22)) = r → lf7 (fX3_fillRow_53 (fX3_fillRow dp)) (fuel + 1) a (nI place) (nI (l + 1)) (nI h) (6 + place) (nI c) Z' = r := fun r hr => by
              rw [e80]
              unfold fX3_fillRow_80
              rw [h5' Z' rfl, gdt, p2, cl1_s, if_neg (by decide), h5t Z' rfl, gdt, y1, cl1_s, h5t Zc y2, gdt, u_e8 (by omega), u_d2 (by omega), u_a1, show nI (c % 8 / 2 + 1) = nI (pF c) from rfl, x1, cl1_s, gdn (by omega) (by omega), bnd_e, nIc (by omega), u_a1, u_s1 (by omega), Nat.add_sub_cancel]
              rw [← hr]
              simp only [next]
              rfl
            rcases w2 with ⟨n0, v1, v2, v3, v4, v5⟩ | ⟨v1, v2⟩
            · refine ⟨Z22, hz22, Or.inl ⟨c * 32 ^ l + n0, e80b _ ?_, dg_lt32 hc32 v2, ?_, fun n' hn' hg => ?_, fun j hj => ?_⟩⟩
              · rw [v1, cl2_s, if_neg (by decide)]
              · rw [dg_cons (by omega) hc32 v2]
                exact ⟨p1, v3⟩
              · by_cases hlt : n' < c * 32 ^ l
                · exact hn n' hlt hg
                · have m2 : n' = c * 32 ^ l + (n' - c * 32 ^ l) := by omega
                  rw [m2, dg_cons (by omega) hc32 (by omega)] at hg
                  exact v4 (n' - c * 32 ^ l) (by omega) hg.2
              · rw [dg_cons (by omega) hc32 v2]
                by_cases hj0 : j = 0
                · subst hj0
                  show Z22.1 15 0 place = nI c
                  rw [w1.2.2 0 place (by omega), cuI_s, pk_us]
                · obtain ⟨j, rfl⟩ : ∃ y, j = y + 1 := ⟨j - 1, by omega⟩
                  have := v5 j (by omega)
                  rw [show place + 1 + j = place + (j + 1) by omega] at this
                  rw [this]
                  rfl
            · have ng : ∀ m, m < 32 ^ l → ¬ pGood h (c :: dg l m) s := fun m hm hg => v2 m hm hg.2
              obtain ⟨Z3, t1, t2⟩ := ih (c + 1) fuel Z22 (by omega) (by omega) hz22 (grow ng)
              have eq : lf7 (fX3_fillRow_53 (fX3_fillRow dp)) (fuel + 1) a (nI place) (nI (l + 1)) (nI h) (6 + place) (nI c) Z' = lf7 (fX3_fillRow_53 (fX3_fillRow dp)) fuel a (nI place) (nI (l + 1)) (nI h) (6 + place) (nI (c + 1)) Z22 := e80b _ (by rw [v1, cl2_s, if_pos (by decide)])
              rw [eq]
              exact ⟨Z3, t1, t2⟩
          · have ng : ∀ m, m < 32 ^ l → ¬ pGood h (c :: dg l m) s := fun m hm hg => p1 hg.1
            obtain ⟨Z3, t1, t2⟩ := ih (c + 1) fuel Z' (by omega) (by omega) hz (grow ng)
            have eq : lf7 (fX3_fillRow_53 (fX3_fillRow dp)) (fuel + 1) a (nI place) (nI (l + 1)) (nI h) (6 + place) (nI c) Z' = lf7 (fX3_fillRow_53 (fX3_fillRow dp)) fuel a (nI place) (nI (l + 1)) (nI h) (6 + place) (nI (c + 1)) Z' := by
              rw [e80]
              unfold fX3_fillRow_80
              rw [h5' Z' rfl, gdt, p2, cl1_s, if_pos (by decide)]
              exact next Z'
            rw [eq]
            exact ⟨Z3, t1, t2⟩
      obtain ⟨Z3, t1, t2⟩ := loop 32 0 100 Z (by omega) (by omega) zfr.rf (fun n hn => absurd hn (by omega))
      have eq : fX3_fillRow (dp + 1) a (nI place) (nI (l + 1)) (nI h) Z = lf7 (fX3_fillRow_53 (fX3_fillRow dp)) 100 a (nI place) (nI (l + 1)) (nI h) (6 + place) (nI 0) Z := by
        show lf5 fX3_fillRow_step (dp + 1) a (nI place) (nI (l + 1)) (nI h) Z = _
        rw [lf5_s]
        rw [show fX3_fillRow_step (lf5 fX3_fillRow_step dp) a (nI place) (nI (l + 1)) (nI h) Z = gd (cLv Z.2.2 5 a) (cl1 (fX1_isTunable a (nI h) (nI (l + 1)) Z) (fun v2 => (if v2 = 0 then some ((0 : Int32), Z) else (if 0 < nI (l + 1) then (if nI place < 0 then fX3_fillRow_38 (lf5 fX3_fillRow_step dp) Z else (if (3 : Int32) ≤ nI place then fX3_fillRow_38 (lf5 fX3_fillRow_step dp) Z else cl1 (fJx4a65c_size_8abf5 3 Z) (fun v4 => (if nI place < v4 then cl1 (fJx4a65c_get_915e3 3 (nI place) Z) (fun q6 => gd (cLv Z.2.2 5 q6) (lf7 (fX3_fillRow_53 (lf5 fX3_fillRow_step dp)) 100 a (nI place) (nI (l + 1)) (nI h) q6 (0 : Int32) Z)) else fX3_fillRow_38 (lf5 fX3_fillRow_step dp) Z)))) else some ((1 : Int32), Z))))) from rfl]
        rw [h5, gdt, tn.1 hm, cl1_s, if_neg (by decide), if_pos (show (0 : Int32) < nI (l + 1) from nI_lt (a := 0) (by omega) (by omega)), if_neg (nI_pos (by omega)), if_neg (show ¬ ((3 : Int32) ≤ nI place) from nI_ge (b := 3) (by omega) (by omega)), hls.size (by omega), cl1_s, if_pos (nI_lt (by omega) (by omega)), hls.get (by omega) (show place < 3 by omega), cl1_s, cLv5t (by omega) (by omega), gdt]
        rfl
      rw [eq]
      exact ⟨Z3, t1, t2⟩
    · refine ⟨Z, zfr.rf, Or.inr ⟨?_, fun n hn hg => hm (by
        have := pMay_of h (dg (l + 1) n) s (dg_lt (l + 1) n) hg
        rw [dg_len] at this
        exact this)⟩⟩
      show lf5 fX3_fillRow_step (dp + 1) a (nI place) (nI (l + 1)) (nI h) Z = _
      rw [lf5_s]
      unfold fX3_fillRow_step
      rw [h5, gdt, tn.2 hm, cl1_s, if_pos (by decide)]
/-- the class's plan -/
theorem c_find {h a : Nat} (hh : h ≤ 15) (ha : a < 6) {s : PS} {B K : Nat} (hb : pbd s B K) (hB : B ≤ 100000) (hK : K ≤ 900) : ∀ (d l fuel : Nat) (Z : CZ), l + d = 4 → d < fuel → cLv Z.2.2 5 a = true → uLs Z 3 3 (fun t => 6 + t) → zrep Z a s → ∃ Z' : CZ, zfr 6 0 Z Z' ∧ ((∃ l0 n, l ≤ l0 ∧ l0 ≤ 3 ∧ lf4 fX3_findRow_2 fuel a (nI h) (nI l) Z = some (nI l0, Z') ∧ pFound h l0 0 s Z' n ∧ ∀ l', l ≤ l' → l' < l0 → pNone h l' s) ∨ (lf4 fX3_findRow_2 fuel a (nI h) (nI l) Z = some (-1, Z') ∧ ∀ l', l ≤ l' → l' ≤ 3 → pNone h l' s))
  | _, _, 0, _, _, hf, _, _, _ => absurd hf (by omega)
  | 0, l, fuel + 1, Z, hl, _, _, _, _ => by
    refine ⟨Z, zfr.rf, Or.inr ⟨?_, fun l' h1 h2 => by omega⟩⟩
    rw [lf4_s]
    unfold fX3_findRow_2
    rw [show l = 4 by omega, if_pos (by decide)]
    rfl
  | d + 1, l, fuel + 1, Z, hl, hf, h5, hls, hr => by
    obtain ⟨Z1, z1, z2⟩ := c_fill hh l 0 a 5 Z s B K (by omega) (by omega) (by omega) h5 hls hr hb (by omega) (by omega)
    have step : ∀ r, cl2 (fX3_fillRow 5 a (nI 0) (nI l) (nI h) Z) (fun v1 Z2 => if v1 = 0 then lf4 fX3_findRow_2 fuel a (nI h) (nI (l + 1)) Z2 else some (nI l, Z2)) = r → lf4 fX3_findRow_2 (fuel + 1) a (nI h) (nI l) Z = r := fun r hr => by
      rw [lf4_s]
      rw [show fX3_findRow_2 (lf4 fX3_findRow_2 fuel) a (nI h) (nI l) Z = (if (3 : Int32) < nI l then fX3_findRow_33 Z else cl2 (fX3_fillRow 5 a 0 (nI l) (nI h) Z) (fun v1 Z2 => if v1 = 0 then lf4 fX3_findRow_2 fuel a (nI h) (nI l + 1) Z2 else some (nI l, Z2))) from rfl, if_neg (show ¬ ((3 : Int32) < nI l) from nI_nlt (a := 3) (by omega) (by omega)), u_a1]
      exact hr
    rcases z2 with ⟨n, v1, v2⟩ | ⟨v1, v2⟩
    · exact ⟨Z1, z1, Or.inl ⟨l, n, Nat.le_refl l, by omega, step _ (by rw [v1, cl2_s, if_neg (by decide)]), v2, fun l' h1 h2 => by omega⟩⟩
    · have hls1 : uLs Z1 3 3 (fun t => 6 + t) := hls.of (funext fun i => z1.2.1 3 i (fun z => by omega) (by omega)) z1.1
      obtain ⟨Z2, y1, y2⟩ := c_find hh ha hb hB hK d (l + 1) fuel Z1 (by omega) (by omega) (by rw [z1.1]; exact h5) hls1 (z1.rep (by omega) hr)
      have eq : lf4 fX3_findRow_2 (fuel + 1) a (nI h) (nI l) Z = lf4 fX3_findRow_2 fuel a (nI h) (nI (l + 1)) Z1 := step _ (by rw [v1, cl2_s, if_pos (by decide)])
      rw [eq]
      refine ⟨Z2, z1.tr y1, ?_⟩
      rcases y2 with ⟨l0, n, w1, w2, w3, w4, w5⟩ | ⟨w1, w2⟩
      · exact Or.inl ⟨l0, n, by omega, w2, w3, w4, fun l' h1 h2 => by
          by_cases e : l' = l
          · rw [e]
            exact v2
          · exact w5 l' (by omega) h2⟩
      · exact Or.inr ⟨w1, fun l' h1 h2 => by
          by_cases e : l' = l
          · rw [e]
            exact v2
          · exact w2 l' (by omega) h2⟩
end URF
