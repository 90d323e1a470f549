/-! PURE PART. perform. -/
section URPF
variable {n : Nat} {Z : CZ} {M : MT} {S C : Nat → Nat} {E P : Nat → Nat → Nat} {b : Nat}
theorem u_over {k : Nat} (hk : k ≤ 30) : (2 : Int32) * (if (0 : Int32) < nI k - 10 then nI k - 10 else 0) = (if nI k ≤ (10 : Int32) then 0 else (2 : Int32) * nI k - 20) := by
  have : ∀ k, k < 31 → (2 : Int32) * (if (0 : Int32) < nI k - 10 then nI k - 10 else 0) = (if nI k ≤ (10 : Int32) then 0 else (2 : Int32) * nI k - 20) := by decide +kernel
  exact this k (by omega)
theorem ok_perform (hn : n < 512) : st_perform (uR n) (uR (n + 1)) := by
  rintro Z M ⟨S, C, E, P, h⟩ a1 a2
  rcases uIx_or a1 (n := 4) (by omega) with ⟨b, hb, rfl⟩ | hf
  · have hS := (h.nS hb).1
    have hC := (h.nC hb).1
    obtain ⟨M4, m1, m2⟩ := m_lays (out := -1) h hb
    have h4 : uRR n Z M4 S C E P := m1.uRR h
    have em : ∀ v r, fX7_lays (nI b) (-1) M = some (v, M4) → fX7_perform_19 (nI b) a2 1 v M4 = r → fX7_perform (nI b) a2 M = r := fun v r hv hr => by
      unfold fX7_perform
      rw [m_isBand hb, cl1_s, if_neg (by decide), hv, cl2_s]
      exact hr
    obtain ⟨v, hv⟩ : ∃ v, fX7_lays (nI b) (-1) M = some (v, M4) := by
      rcases m2 with ⟨_, q, _⟩ | ⟨_, q⟩
      · exact ⟨_, q⟩
      · exact ⟨_, q⟩
    rcases rg_or a2 1 30 with ⟨g1, g2⟩ | hg
    · obtain ⟨k, k1, k30, rfl⟩ := rg_nI (b := 1) (c := 30) (by omega) (by omega) g1 g2
      have em2 : ∀ w r, fX7_lays (nI b) (-1) M = some (w, M4) → (if M4 22 b = 0 then (if w < (1000000 : Int32) then fX7_perform_65 (nI b) (nI k) w 0 M4 else fX7_perform_60 (nI b) (nI k) w M4) else fX7_perform_60 (nI b) (nI k) w M4) = r → fX7_perform (nI b) (nI k) M = r := fun w r hw hr => em w r hw (by
        unfold fX7_perform_19
        rw [if_neg (by decide), m_isIn_t g1 g2, cl1_s, if_neg (by decide), gdn hb (by omega), nIc (by omega)]
        exact hr)
      have ec : ∀ r, (if Z.1 10 b 5 = (-1 : Int32) then fX6_perform_26 (nI k) b 1 Z else fX6_perform_26 (nI k) b 0 Z) = r → fX6_perform (nI b) (nI k) Z = r := fun r hr => by
        unfold fX6_perform
        rw [h.bandAt hb, cx1_l, c_rr_t g1 g2, cx1_l, cLv10 hb, gdt]
        exact hr
      rcases (h4.2.2.2.2.2.2.2.2.2.2.1 b hb).2.2 with ⟨p1, p2, p3⟩ | ⟨p1, p2, hd, p3, p4⟩
      · obtain ⟨Z', z1, z2⟩ := c_findBest (out := -1) h hb
        have ec2 : ∀ w r, fX2_findBest b (-1) Z = some (w, Z') → (if w = (-1 : Int32) then fX6_perform_51 (nI k) b w 0 Z' else fX6_perform_51 (nI k) b w 1 Z') = r → fX6_perform (nI b) (nI k) Z = r := fun w r hw hr => ec r (by
          rw [p2, if_pos (by decide)]
          unfold fX6_perform_26
          rw [c_rs_1, cx1_l, hw, cl2_s]
          exact hr)
        rcases z2 with ⟨y1, y2, y3⟩ | ⟨y1, y2⟩
        · obtain ⟨_, x, x3⟩ := m2.resolve_right (fun q => q.1 y1)
          have hv := uval_le h hb y1
          have h10 : uRR n Z' (va_up M4 0 (fun _ => 0)) S C E P := z1.uRR (h4.thr _)
          obtain ⟨e5, _, ⟨hh, h15, hm⟩, _⟩ := h10.1
          have hchm : ∀ q, q < C b / 4 → (va_up M4 0 (fun _ => 0)) 28 q = nI (uch M P (S b) b (C b / 4) (-1) q) ∧ uch M P (S b) b (C b / 4) (-1) q < 8 := fun q hq => ⟨x3 q hq, by have := uch_lt h hb y1 hq; omega⟩
          have hchc : ∀ q, q < C b / 4 → Z'.1 16 0 q = nI (uch M P (S b) b (C b / 4) (-1) q) ∧ uch M P (S b) b (C b / 4) (-1) q < 8 := fun q hq => ⟨y3 q hq, by have := uch_lt h hb y1 hq; omega⟩
          have cu := c_untuned hn h10 hb h15 hchc (S b) 0 100 (by omega) (by omega)
          obtain ⟨M5, q1, q2⟩ := m_perf hn h10 hb h15 hm hchm (x2 := nI k) hv (S b) 0 100 (va_up M4 0 (fun _ => 0)) (by omega) (by omega) (fun _ _ _ _ => rfl)
          have hu8 := ucu_le (Z := Z') (M := va_up M4 0 (fun _ => 0)) (P := P) (b := b) (hh := hh) (ph := C b / 4) (ch := uch M P (S b) b (C b / 4) (-1)) (S b)
          obtain ⟨u, hu⟩ : ∃ u, u = ucu Z' (va_up M4 0 (fun _ => 0)) P b hh (uch M P (S b) b (C b / 4) (-1)) (C b / 4) (S b) := ⟨_, rfl⟩
          rw [← hu] at cu q1 hu8
          have cu' : fX2_countUntuned b (Z'.1 0 0 5) Z' = some (nI u) := by
            rw [e5, hm]
            exact cu
          have q1' : lf5 fX7_perform_76 100 (nI b) (nI k) (nI (uval M P (S b) b (C b / 4) (-1))) 0 (va_up M4 0 (fun _ => 0)) = fX7_perform_160 (nI b) (nI k) (nI (uval M P (S b) b (C b / 4) (-1) + 10 * u)) M5 := q1
          obtain ⟨al, hal⟩ : ∃ al, al = uval M P (S b) b (C b / 4) (-1) + 10 * u := ⟨_, rfl⟩
          rw [← hal] at q1'
          have h5 : uRR n Z' M5 S C E P := h10.scr3 q2
          have H : uRR n (cuI (cuI Z' 10 b (upd (Z'.1 10 b) 5 (nI al))) 10 b (upd (upd (Z'.1 10 b) 5 (nI al)) 6 (if nI k ≤ (10 : Int32) then 0 else (2 : Int32) * nI k - 20))) (va_up (va_up (va_up M5 22 (upd (M5 22) b 1)) 23 (upd (M5 23) b (nI al))) 24 (upd (M5 24) b (if nI k ≤ (10 : Int32) then 0 else (2 : Int32) * nI k - 20))) S C E P := by
            obtain ⟨r1, r2, r3, r4, r5, r6, r7, r8, r9, r10, r11, r12⟩ := h5
            refine ⟨r1, r2, r3, r4, r5, r6, r7, r8, r9, fun b' hb' => ?_, fun b' hb' => ?_, r12⟩
            · obtain ⟨t1, t2, t3, t4⟩ := r10 b' hb'
              refine ⟨t1, t2, ?_, t4⟩
              by_cases hbb : b' = b
              · subst hbb
                rw [cuI_s, pk_un (by omega), pk_un (by omega)]
                exact t3
              · rw [cuI_n (fun q => hbb q.2), cuI_n (fun q => hbb q.2)]
                exact t3
            · obtain ⟨t1, t2, t3⟩ := r11 b' hb'
              show (cuI (cuI Z' 10 b (upd (Z'.1 10 b) 5 (nI al))) 10 b (upd (upd (Z'.1 10 b) 5 (nI al)) 6 (if nI k ≤ (10 : Int32) then 0 else (2 : Int32) * nI k - 20))).1 10 b' 4 = M5 21 b' ∧ (cuI (cuI Z' 10 b (upd (Z'.1 10 b) 5 (nI al))) 10 b (upd (upd (Z'.1 10 b) 5 (nI al)) 6 (if nI k ≤ (10 : Int32) then 0 else (2 : Int32) * nI k - 20))).1 10 b' 6 = upd (M5 24) b (if nI k ≤ (10 : Int32) then 0 else (2 : Int32) * nI k - 20) b' ∧ (upd (M5 22) b 1 b' = 0 ∧ (cuI (cuI Z' 10 b (upd (Z'.1 10 b) 5 (nI al))) 10 b (upd (upd (Z'.1 10 b) 5 (nI al)) 6 (if nI k ≤ (10 : Int32) then 0 else (2 : Int32) * nI k - 20))).1 10 b' 5 = -1 ∧ M5 25 b' = 0 ∨ upd (M5 22) b 1 b' = 1 ∧ (cuI (cuI Z' 10 b (upd (Z'.1 10 b) 5 (nI al))) 10 b (upd (upd (Z'.1 10 b) 5 (nI al)) 6 (if nI k ≤ (10 : Int32) then 0 else (2 : Int32) * nI k - 20))).1 10 b' 5 = upd (M5 23) b (nI al) b' ∧ ∃ h, h < 1000 ∧ upd (M5 23) b (nI al) b' = nI h)
              by_cases hbb : b' = b
              · subst hbb
                rw [cuI_s, pk_us, pk_us, pk_us, pk_us, pk_un (by omega), pk_un (by omega), pk_un (by omega), pk_us]
                exact ⟨t1, rfl, Or.inr ⟨rfl, rfl, al, by omega, rfl⟩⟩
              · rw [cuI_n (fun q => hbb q.2), cuI_n (fun q => hbb q.2), pk_un hbb, pk_un hbb, pk_un hbb]
                exact ⟨t1, t2, t3⟩
          refine ⟨nI al, _, _, em2 _ _ x ?_, uR.intro S C E P H, Or.inl ⟨ec2 _ _ y2 ?_, ?_⟩⟩
          · rw [p1, if_pos (by decide), if_pos (show nI (uval M P (S b) b (C b / 4) (-1)) < (1000000 : Int32) from nI_lt (b := 1000000) (by omega) (by omega))]
            unfold fX7_perform_65
            rw [m_holds_0, cl2_s, if_neg (by decide), q1']
            unfold fX7_perform_160 fX7_perform_196
            rw [gdn hb (by omega), bnd_e, gdn hb (by omega), bnd_e, gdn hb (by omega), gdn hb (by omega), bnd_e, bnd_e, nIc (by omega), vb1]
            split <;> rfl
          · rw [if_neg (by rw [nIm1 (by omega)]; exact id)]
            unfold fX6_perform_51
            rw [c_rs_1, cx1_l, cu', cl1_s, cLv10 hb, gdt, show (10 : Int32) * nI u = nI (10 * u) from pk_mul 10 u, nI_add, ← hal, bnd_e, u_over k30, bnd_e, cuI_s, cuI_s, pk_un (by omega), pk_us]
          · show M5 0 0 = 0
            rw [q2 0 (by omega) (by omega) (by omega)]
            rfl
        · have x := (m2.resolve_left (fun q => y1 q.1)).2
          refine ⟨0, va_up M4 0 (fun _ => 3), Z', em2 _ _ x ?_, uR.intro S C E P (z1.uRR (h4.thr _)), Or.inr ⟨2, 3, ec2 _ _ y2 ?_, rfl, rfl⟩⟩
          · rw [p1, if_pos (by decide), if_neg (by decide)]
            rfl
          · rw [if_pos (by decide)]
            rfl
      · refine sI_err (cd := 3) (j := 2) (M' := M4) ⟨S, C, E, P, h4⟩ (em2 _ _ hv ?_) (ec _ ?_) rfl rfl
        · rw [p1, if_neg (by decide)]
          rfl
        · rw [p2, p4, if_neg (by rw [nIm1 (by omega)]; exact id)]
          rfl
    · refine sI_err (cd := 2) (j := 1) (M' := M4) ⟨S, C, E, P, h4⟩ (em _ _ hv ?_) ?_ rfl rfl
      · unfold fX7_perform_19
        rw [if_neg (by decide), m_isIn_f hg]
        rfl
      · unfold fX6_perform
        rw [h.bandAt hb, cx1_l, c_rr_f hg, cx1_r]
  · refine sI_err (cd := 1) (j := 0) ⟨S, C, E, P, h⟩ ?_ ?_ rfl rfl
    · unfold fX7_perform
      rw [m_isBandF hf, cl1_s, if_pos (by decide)]
      rfl
    · unfold fX6_perform
      rw [h.bandAtF hf, cx1_r]
end URPF
/-! the start -/
theorem u0_12 : ∀ b, b < 4 → ∀ j, j < 5 → Z0.1 12 b j = -1 ∧ M0i 26 (5 * b + j) = -1 := by decide +kernel
theorem u0_10 : ∀ b, b < 4 → Z0.1 10 b 3 = 0 ∧ Z0.1 10 b 4 = -1 ∧ Z0.1 10 b 5 = -1 ∧ Z0.1 10 b 6 = 0 ∧ M0i 21 b = -1 := by decide +kernel
theorem uL_0 {c3 : Nat → Int32} {q4 : Nat → Option Nat} {e : Nat → Nat} (h3 : c3 = fun _ => 0) (h4 : q4 = fun _ => none) {cap : Nat} (hc : cap = 0) : uL c3 q4 cap 0 e := by
  subst h3 h4 hc
  exact ⟨rfl, Or.inl ⟨rfl, rfl⟩, fun j hj => by omega, fun _ _ => rfl⟩
theorem uR_0 : uR 0 Z0 M0i := by
  refine ⟨fun _ => 0, fun _ => 0, fun _ _ => 0, fun _ _ => 0, ⟨rfl, rfl, ⟨0, by omega, rfl⟩, 0, by omega, rfl⟩, ⟨Nat.zero_le 6, rfl, fun i hi => absurd hi (Nat.not_lt_zero i), fun i f hi => absurd hi (Nat.not_lt_zero i), fun j _ _ => ⟨rfl, rfl⟩⟩, ⟨uL_0 rfl rfl rfl, uL_0 rfl rfl rfl, ⟨rfl, Or.inr (Or.inl ⟨rfl, by omega⟩), fun j hj => ?_, fun j hj => ?_⟩, ⟨rfl, Or.inr (Or.inl ⟨rfl, by omega⟩), fun j hj => ?_, fun j hj => ?_⟩⟩, fun b hb => ?_, ⟨Nat.zero_le 16, rfl, fun i hi => absurd hi (Nat.not_lt_zero i)⟩, ⟨fun i hi => absurd hi (Nat.not_lt_zero i), fun i _ _ hi => absurd hi (Nat.not_lt_zero i), fun q hq => absurd hq (Nat.not_lt_zero q)⟩, ⟨fun b _ => ⟨Nat.zero_le 8, rfl⟩, fun b k _ hk => absurd hk (Nat.not_lt_zero k), fun b k k' _ hk => absurd hk (Nat.not_lt_zero k), fun b k b' k' _ hk => absurd hk (Nat.not_lt_zero k), fun j p hj => absurd hj (Nat.not_lt_zero j)⟩, fun i hi => absurd hi (Nat.not_lt_zero i), fun b k j _ hk => absurd hk (Nat.not_lt_zero k), fun b hb => ⟨Nat.zero_le 24, rfl, (u0_10 b hb).1, fun j _ => ⟨rfl, 0, by omega, rfl⟩⟩, fun b hb => ?_, fun b hb => ⟨fun j hj => ?_, ?_⟩⟩
  · have : j = 0 ∨ j = 1 ∨ j = 2 ∨ j = 3 := by omega
    rcases this with rfl | rfl | rfl | rfl <;> rfl
  · show (va_up (va_up (va_up (va_up (fun _ => none) 0 (some 0)) ((0 + 1)) (some 1)) (((0 + 1) + 1)) (some 2)) ((((0 + 1) + 1) + 1)) (some 3)) j = none
    rw [vu_n (by omega), vu_n (by omega), vu_n (by omega), vu_n (by omega)]
  · have : j = 0 ∨ j = 1 ∨ j = 2 := by omega
    rcases this with rfl | rfl | rfl <;> rfl
  · show (va_up (va_up (va_up (fun _ => none) 0 (some 6)) ((0 + 1)) (some 7)) (((0 + 1) + 1)) (some 8)) j = none
    rw [vu_n (by omega), vu_n (by omega), vu_n (by omega)]
  · have : b = 0 ∨ b = 1 ∨ b = 2 ∨ b = 3 := by omega
    rcases this with rfl | rfl | rfl | rfl <;> exact uL_0 rfl rfl rfl
  · obtain ⟨_, g2, g3, g4, g5⟩ := u0_10 b hb
    exact ⟨g2.trans g5.symm, g4, Or.inl ⟨rfl, g3, rfl⟩⟩
  · obtain ⟨g1, g2⟩ := u0_12 b hb j hj
    exact ⟨g1.trans g2.symm, Or.inl g2⟩
  · rw [umk_0 (u0_12 b hb 0 (by omega)).2, umk_0 (u0_12 b hb 1 (by omega)).2, umk_0 (u0_12 b hb 2 (by omega)).2, umk_0 (u0_12 b hb 3 (by omega)).2, umk_0 (u0_12 b hb 4 (by omega)).2]
    rfl
/-- THE PURE PART: class and model agree, call by call -/
theorem stAll_ok : stAll uR := ⟨uR_0, fun n hn => ⟨ok_pan, ok_blow hn, ok_heat, ok_field hn, ok_isInTune hn, ok_plan hn, ok_player, ok_join, ok_leave, ok_give, ok_takeBack, ok_ofPlayer, ok_note, ok_change, ok_tell, ok_drill hn, ok_pass, ok_seat, ok_knows, ok_ofBand, ok_leaps, ok_part, ok_without, ok_perform hn, ok_mark, ok_score, ok_rank, ok_night, fun Z M h => h.up⟩⟩
