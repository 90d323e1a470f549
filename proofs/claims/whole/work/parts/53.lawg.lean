section LGB
variable {p : Program} {l : Launch} {e : Env} {R : Room} {s : State} {m : MethodId} {args : Array Value} {below : List Frame} {meth : Method} {c : Code} {H H1 : Heap} {locs : List Loc} {cells slots : Nat} {Q : State → Prop}
variable {cc : ByteArray} {pc : Nat} {ls : Array Slot} {rest st0 : List Value} {D : va_G} {G : CGT} {ad ad1 : Nat → Nat → Nat} {Z Z1 : CZ} {H0 : Heap} {mad : Nat → Nat} {kI kZ cJ : ClassId} {M M1 : MT} {q : Nat} {f f1 : Nat → Int64} {A0 : Nat → Prop}
def lI (D : va_G) (G : CGT) (ad : Nat → Nat → Nat) (Z : CZ) (mad : Nat → Nat) (kI kZ : ClassId) (M : MT) (cJ : ClassId) (q : Nat) (f : Nat → Int64) (A0 : Nat → Prop) (H : Heap) : Prop :=
  cI A0 ad Z.2.2 ∧ cN D G ad Z H ∧ mI mad ∧ mN D mad kI kZ M H ∧ va_at D vwCl (q, .inl (cJ, 1, .inr (.inl f))) H ∧ (∀ r, mA mad r → A0 r) ∧ A0 q ∧ (∀ r, mA mad r → ¬ cNm ad Z r) ∧ ¬ cNm ad Z q ∧ ¬ mA mad q
/-- what a call of the class may touch -/
def lA (ad : Nat → Nat → Nat) (Z : CZ) (H : Heap) : Nat → Prop := fun r => cNm ad Z r ∨ H.size ≤ r
theorem mA_lt (hM : mN D mad kI kZ M H) {r : Nat} (h : mA mad r) : r < H.size := by
  obtain ⟨k, hk, rfl⟩ := h
  exact (hM k 0 ⟨rfl, hk⟩).lt
theorem lI_class (hL : lI D G ad Z mad kI kZ M cJ q f A0 H) (hAH : ∀ r, H.size ≤ r → A0 r) {t : State} (hB : cP D G (lA ad Z H) ad1 Z1 t) (ht : t.heap = H1) (hq1 : va_at D vwCl (q, .inl (cJ, 1, .inr (.inl f1))) H1) (hk : ∀ r : Nat, r < H.size → ¬ (lA ad Z H r ∨ r = q) → H1[r]? = H[r]?) : lI D G ad1 Z1 mad kI kZ M cJ q f1 A0 H1 := by
  obtain ⟨h1, h2, h3, h4, h5, h6, h7, h8, h9, h10⟩ := hL
  have hql : q < H.size := h5.lt
  have new : ∀ r, cNm ad1 Z1 r → r < H.size → cNm ad Z r := by
    rintro r ⟨k, i, hl, rfl⟩ hr
    rcases hB.1.2 k i hl with h | h
    · exact h
    · omega
  refine ⟨⟨hB.1.1, fun k i hl => ?_⟩, by rw [← ht]; exact hB.2.1, h3, fun k i hl => ?_, hq1, h6, h7, fun r hr hc => h8 r hr (new r hc (mA_lt h4 hr)), fun hc => h9 (new q hc hql), h10⟩
  · rcases hB.1.2 k i hl with h | h
    · exact cNm_A h1 h
    · exact hAH _ h
  · have hm : mA mad (mad k) := ⟨k, hl.2, rfl⟩
    have hlt : mad k < H.size := (h4 k i hl).lt
    refine (h4 k i hl).kept (hk _ hlt ?_)
    rintro ((h | h) | h)
    · exact h8 _ hm h
    · exact absurd hlt (Nat.not_lt.mpr h)
    · exact h10 (h ▸ hm)
theorem lI_model (hL : lI D G ad Z mad kI kZ M cJ q f A0 H) {t : State} (hB : mP D mad kI kZ M1 t) (ht : t.heap = H1) (hk : ∀ r : Nat, r < H.size → ¬ mA mad r → H1[r]? = H[r]?) : lI D G ad Z mad kI kZ M1 cJ q f A0 H1 := by
  obtain ⟨h1, h2, h3, h4, h5, h6, h7, h8, h9, h10⟩ := hL
  exact ⟨h1, fun k i hl => (h2 k i hl).kept (hk _ (h2 k i hl).lt (fun z => h8 _ z ⟨k, i, hl, rfl⟩)), h3, by rw [← ht]; exact hB.2.1, h5.kept (hk q h5.lt h10), h6, h7, h8, h9, h10⟩
/-- a call that throws nothing at all, of a method with handlers -/
theorem lg_callN {S : Type} {mc ms : Nat} {ar : Array Value} {A1 free : Nat → Prop} {post : Int32 → S → Prop} {B : S → State → Prop} (hr : vx_Run p l e R s m args below meth c H locs cells slots mc ms (F0 m pc ls st0) rest (va_Qi post B A1 ar) (fun _ _ _ => False) free) (hS : va_S A0 H0 H locs) (hA : ∀ q, q < H.size → A1 q → A0 q) (hf : ∀ q, free q → A0 q)
    (kk : ∀ (r : Int32) (u : S) (t : State) (H1 : Heap) (locs1 : List Loc), t.heap = H1 → s.vm.Alike t.vm → post r u → B u t → H.size ≤ H1.size → (∀ q : Nat, q < H.size → ¬ A1 q → H1[q]? = H[q]?) → va_S A0 H0 H1 locs1 → W p l e R s m args below meth c H1 locs1 (cells + mc) (slots + ms) Q (F0 m (pc + 3) ls (.int r :: rest))) : W p l e R s m args below meth c H locs cells slots Q (F0 m pc ls st0) := by
  have hr' : vx_Run p l e R s m args below meth c H locs cells slots mc ms (F0 m pc ls st0) rest (va_Qi post B A1 ar) (vx_X (fun _ : Unit => False) (fun _ _ _ => False) (fun _ => False)) free := by
    intro T hT X
    rcases hr T hT X with h | ⟨q, st₀, t, T', L, E, ce, h0, X', hL, e1, e2, hF, h⟩
    · exact Or.inl h
    · exact hF.elim
  exact vx_calli hr' hS hA hf (fun _ _ h => h.elim) (fun E ce q9 u t H1 locs1 ht hvm hp => hp.elim) kk
/-- a wrapper's call, in the law -/
theorem lg_class {mc ms : Nat} {ar : Array Value} {r : Int32} {P : (Nat → Int64) → Prop} (hL : lI D G ad Z mad kI kZ M cJ q f A0 H) (hAH : ∀ r, H.size ≤ r → A0 r) (hr : vx_Run p l e R s m args below meth c H locs cells slots mc ms (F0 m pc ls st0) rest (lQ D G (lA ad Z H) ad r Z1 cJ q P ar) (fun _ _ _ => False) (fun y => lA ad Z H y ∨ y = q)) (hS : va_S A0 H0 H locs)
    (kk : ∀ (H1 : Heap) (locs1 : List Loc) (ad1 : Nat → Nat → Nat) (f1 : Nat → Int64), P f1 → ad1 0 0 = ad 0 0 → lI D G ad1 Z1 mad kI kZ M cJ q f1 A0 H1 → H.size ≤ H1.size → va_S A0 H0 H1 locs1 → W p l e R s m args below meth c H1 locs1 (cells + mc) (slots + ms) Q (F0 m (pc + 3) ls (.int r :: rest))) : W p l e R s m args below meth c H locs cells slots Q (F0 m pc ls st0) := by
  have hin : ∀ y, (lA ad Z H y ∨ y = q) → A0 y := by
    rintro y ((h | h) | h)
    · exact cNm_A hL.1 h
    · exact hAH _ h
    · exact h ▸ hL.2.2.2.2.2.2.1
  refine lg_callN hr hS (fun y _ h => hin y h) hin (fun r' u t H1 locs1 ht hvm hw hB hz hk hS1 => ?_)
  obtain ⟨u1, ad1, f1⟩ := u
  obtain ⟨rfl, rfl, h00, hP⟩ := hw
  exact kk H1 locs1 ad1 f1 hP h00 (lI_class hL hAH hB.1 ht (by rw [← ht]; exact hB.2) hk) hz hS1
theorem lg_modeli {ar : Array Value} {r : Int32} (hL : lI D G ad Z mad kI kZ M cJ q f A0 H) (hr : va_Run p l e R s m args below meth c H locs cells slots 0 0 (F0 m pc ls st0) rest (mQi D mad kI kZ r M1 ar) (mA mad)) (hS : va_S A0 H0 H locs)
    (kk : ∀ (H1 : Heap) (locs1 : List Loc), lI D G ad Z mad kI kZ M1 cJ q f A0 H1 → H.size ≤ H1.size → va_S A0 H0 H1 locs1 → W p l e R s m args below meth c H1 locs1 cells slots Q (F0 m (pc + 3) ls (.int r :: rest))) : W p l e R s m args below meth c H locs cells slots Q (F0 m pc ls st0) := by
  refine va_calli hr hS (fun y _ h => hL.2.2.2.2.2.1 y h) (fun y h => hL.2.2.2.2.2.1 y h) (fun r' u t H1 locs1 ht hvm hw hB hz hk hS1 => ?_)
  obtain ⟨rfl, rfl⟩ := hw
  exact kk H1 locs1 (lI_model hL hB ht hk) hz hS1
theorem lg_modelv {ar : Array Value} (hL : lI D G ad Z mad kI kZ M cJ q f A0 H) (hr : va_Run p l e R s m args below meth c H locs cells slots 0 0 (F0 m pc ls st0) rest (mQv D mad kI kZ M1 ar) (mA mad)) (hS : va_S A0 H0 H locs)
    (kk : ∀ (H1 : Heap) (locs1 : List Loc), lI D G ad Z mad kI kZ M1 cJ q f A0 H1 → H.size ≤ H1.size → va_S A0 H0 H1 locs1 → W p l e R s m args below meth c H1 locs1 cells slots Q (F0 m (pc + 3) ls rest)) : W p l e R s m args below meth c H locs cells slots Q (F0 m pc ls st0) := by
  refine va_callv hr hS (fun y _ h => hL.2.2.2.2.2.1 y h) (fun y h => hL.2.2.2.2.2.1 y h) (fun u t H1 locs1 ht hvm hw hB hz hk hS1 => ?_)
  obtain rfl := hw
  exact kk H1 locs1 (lI_model hL hB ht hk) hz hS1
end LGB
