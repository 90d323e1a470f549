theorem up_map (R : Nat → Option Nat) (g : Nat → Nat) (n v : Nat) : va_up (fun j => (R j).map g) n (some (g v)) = fun j => (va_up R n (some v) j).map g := by
  funext j
  unfold va_up
  by_cases h : j = n
  · rw [if_pos h, if_pos h]; rfl
  · rw [if_neg h, if_neg h]
theorem cpy_map (R : Nat → Option Nat) (g : Nat → Nat) (n : Nat) : va_cpy (fun j => (R j).map g) (fun _ => none) 0 0 n = fun j => (va_cpy R (fun _ => none) 0 0 n j).map g := by
  funext j
  unfold va_cpy
  by_cases h : 0 ≤ j ∧ j < 0 + n
  · rw [if_pos h, if_pos h]
  · rw [if_neg h, if_neg h]; rfl
theorem cl_fin {D : va_G} {G : CGT} {A A' : Nat → Prop} {ad : Nat → Nat → Nat} {Z : CZ} {lx v q : Nat} {f2 : Nat → Option Nat} {U t : State} (hA' : ∀ x, A' x → x = ad 3 lx ∨ (cLv Z.2.2 4 lx = true ∧ x = ad 4 lx) ∨ U.heap.size ≤ x) (hI : cI A ad Z.2.2) (hN : cN D G ad Z U.heap) (h8 : lx < 8) (hp : 0 < lCap (Z.1 3 lx 2).toNatClampNeg (Z.2.2 (10 + lx))) (hnew : ∀ x, U.heap.size ≤ x → A x)
    (hP3 : va_P D vwCl (lW (ad 3 lx) q (Z.1 3 lx 0 + 1) (nI ((Z.1 3 lx 2).toNatClampNeg + 1)) G.2.2.1 (lCap (Z.1 3 lx 2).toNatClampNeg (Z.2.2 (10 + lx))) f2) t.heap) (hD3 : va_D A' (lW (ad 3 lx) q (Z.1 3 lx 0 + 1) (nI ((Z.1 3 lx 2).toNatClampNeg + 1)) G.2.2.1 (lCap (Z.1 3 lx 2).toNatClampNeg (Z.2.2 (10 + lx))) f2)) (hF3 : va_F A' U t) (hK3 : cK D G t) (hf : f2 = fun j => ((zAdd Z lx v).2.1 4 lx j).map (ad (cEk lx))) : cP D G A (adU ad 4 lx q) (zAdd Z lx v) t ∧ va_F A U t := by
  have h3 : cLv Z.2.2 3 lx = true := decide_eq_true h8
  have hAA : ∀ x, A' x → A x := by
    intro x hx
    rcases hA' x hx with rfl | ⟨h4, rfl⟩ | h9
    · exact hI.2 3 lx h3
    · exact hI.2 4 lx h4
    · exact hnew x h9
  have hq3 : q ≠ ad 3 lx := fun z => by
    have := hD3.1 0 1 _ _ rfl rfl z.symm
    omega
  have hq := hD3.2 1 _ rfl
  obtain ⟨g1, g2⟩ := cl_grown hI hN h8 hp (v := v) ⟨hAA _ hq, ((hA' _ hq).resolve_left hq3).symm⟩ (fun x h1 h2 h3 => hF3.2 x h1 (fun z => by
    rcases hA' x z with h | h | h
    · exact h2 h
    · exact h3 h
    · omega)) hP3 hf
  exact ⟨⟨g1, g2, hK3⟩, hF3.1, fun x h1 h2 => hF3.2 x h1 (fun z => h2 (hAA x z))⟩
def rmLadd : Room := { frames := 7, cells := 1, slots := 40, locals := 260 }
set_option maxHeartbeats 4000000 in
theorem mLadd (l : Launch) (D : va_G) (G : CGT) (A : Nat → Prop) (ad : Nat → Nat → Nat) (Z : CZ) (lx v : Nat) (hok : okAdd Z lx v) : Met l yJx4a65c_add_9ea2d wsJx4a65c_add_9ea2d rmLadd (va_Pc [.ref (ad 3 lx), .ref (ad (cEk lx) v)] (fun U => cP D G A ad Z U ∧ cF G A U U.heap ∧ ∀ q, U.heap.size ≤ q → A q)) (va_Qi (fun (_ : Int32) (_ : Nat) => True) (fun q t => cP D G A (adU ad 4 lx q) (zAdd Z lx v) t) A) 1 40 A := by
  obtain ⟨h8, hz, hcase, hR, hv⟩ := hok
  refine Met.fam (fun a U hP => ?_)
  obtain ⟨rfl, ⟨hI, hN, hK⟩, hF, hnew⟩ := hP
  have h3 : cLv Z.2.2 3 lx = true := decide_eq_true h8
  have hc := hK.2 _ (cEC_in lx)
  have hcell := cEl_cell hK hN lx v hv
  have hv3 : ad (cEk lx) v ≠ ad 3 lx := fun z => (cEk_ne lx).1 (hI.1 _ _ 3 lx hv h3 z).1
  have hA3 := hI.2 3 lx h3
  have hp : 0 < lCap (Z.1 3 lx 2).toNatClampNeg (Z.2.2 (10 + lx)) := lCap_pos (by omega)
  have hkk : ∀ u U : State, u.vm.Alike U.vm → cK D G u → cK D G U := fun _ _ hv hk => hk.moved hv
  obtain ⟨n, en⟩ : ∃ n, n = (Z.1 3 lx 2).toNatClampNeg := ⟨_, rfl⟩
  obtain ⟨cap, ec⟩ : ∃ c, c = Z.2.2 (10 + lx) := ⟨_, rfl⟩
  have ez2 : (zAdd Z lx v).2.1 4 lx = va_up (if (Z.1 3 lx 2).toNatClampNeg < Z.2.2 (10 + lx) then Z.2.1 4 lx else va_cpy (Z.2.1 4 lx) (fun _ => none) 0 0 (Z.1 3 lx 2).toNatClampNeg) (Z.1 3 lx 2).toNatClampNeg (some v) := if_pos ⟨rfl, rfl⟩
  rcases hcase with ⟨hn, hcap⟩ | ⟨hn, hcap⟩ | ⟨hn, h2, h26⟩
  · have h4 : cLv Z.2.2 4 lx = true := by
      show (decide (lx < 8) && decide (0 < Z.2.2 (10 + lx))) = true
      rw [decide_eq_true h8, decide_eq_true (show 0 < Z.2.2 (10 + lx) by omega)]
      rfl
    obtain ⟨hP2, hD2⟩ := cl_take hI hN h3 h4
    have hv4 : ad (cEk lx) v ≠ ad 4 lx := fun z => (cEk_ne lx).2 (hI.1 _ _ 4 lx hv h4 z).1
    have el : lCap (Z.1 3 lx 2).toNatClampNeg (Z.2.2 (10 + lx)) = Z.2.2 (10 + lx) := if_pos hn
    refine ⟨_, _, fun x => x = ad 3 lx ∨ x = ad 4 lx ∨ U.heap.size ≤ x, lm_add1R l D (cEC lx) G.2.2.1 (ad 3 lx) (ad 4 lx) U.heap.size (Z.1 3 lx 0) (Z.2.2 (10 + lx)) (Z.1 3 lx 2).toNatClampNeg (fun j => (Z.2.1 4 lx j).map (ad (cEk lx))) (cK D G) hkk (ad (cEk lx) v) hn hcap, ⟨rfl, rfl, by rw [← hz]; exact hP2, by rw [← hz]; exact hD2, hK.1.sub [2] rfl, ⟨hc, hv3, hv4, hcell⟩, hK⟩, fun o t hQ => ?_, fun x hx => ?_⟩
    · obtain ⟨⟨r, q, rfl, -, hP3, hD3, hK3⟩, hF3⟩ := hQ
      rw [← el] at hP3 hD3
      obtain ⟨g1, g2⟩ := cl_fin (v := v) (fun x hx => hx.elim Or.inl (fun z => z.elim (fun z => Or.inr (Or.inl ⟨h4, z⟩)) (fun z => Or.inr (Or.inr z)))) hI hN h8 hp hnew hP3 hD3 hF3 hK3 (by rw [ez2, if_pos hn]; exact up_map _ _ _ _)
      exact ⟨⟨r, q, rfl, trivial, g1⟩, g2⟩
    · rcases hx with rfl | rfl | hx
      · exact hA3
      · exact hI.2 4 lx h4
      · exact hnew x hx
  · have hn4 : ¬ cLv Z.2.2 4 lx = true := fun h => cLv4 h hcap
    have el : lCap (Z.1 3 lx 2).toNatClampNeg (Z.2.2 (10 + lx)) = 10 := by rw [hn, hcap]; rfl
    have e3 : va_at D vwCl (ad 3 lx, .inr (0, [.int (Z.1 3 lx 0), .ref G.2.2.2.2, .int (nI 0)])) U.heap := by
      have h9 := hN 3 lx h3
      have h9 : va_at D vwCl (ad 3 lx, .inr (0, [.int (Z.1 3 lx 0), .ref (if Z.2.2 (10 + lx) = 0 then G.2.2.2.2 else ad 4 lx), .int (Z.1 3 lx 2)])) U.heap := h9
      rw [if_pos hcap, hz, hn] at h9
      exact h9
    obtain ⟨hZ, ⟨gE, hT⟩, -, hAO, -⟩ := hF
    have hnar : ∀ q, (q = ad 3 lx ∨ U.heap.size ≤ q) → A q := fun q hq => hq.elim (fun z => by rw [z]; exact hA3) (hnew q)
    refine ⟨_, _, fun x => x = ad 3 lx ∨ U.heap.size ≤ x, lm_add1E l D (cEC lx) G.2.2.1 (ad 3 lx) G.2.2.2.2 U.heap.size (Z.1 3 lx 0) gE (cK D G) hkk (ad (cEk lx) v), ⟨rfl, rfl, fun k q hk => ?_, ⟨fun i j x y hi hj _ => ?_, fun _ _ _ => trivial⟩, hK.1.sub [2] rfl, hAO, hZ.narrow hnar, hT.narrow hnar, ⟨hc, hv3, hcell⟩, hK⟩, fun o t hQ => ?_, hnar⟩
    · match k, hk with
      | 0, hk => cases hk; exact e3
      | k + 1, hk => simp at hk
    · have h1 : i < 1 := (List.getElem?_eq_some_iff.mp hi).1
      have h2 : j < 1 := (List.getElem?_eq_some_iff.mp hj).1
      omega
    · obtain ⟨⟨r, q, rfl, -, hP3, hD3, hK3⟩, hF3⟩ := hQ
      rw [← el] at hP3 hD3
      have e0 : nI (0 + 1) = nI ((Z.1 3 lx 2).toNatClampNeg + 1) := by rw [hn]
      rw [e0] at hP3 hD3
      obtain ⟨g1, g2⟩ := cl_fin (v := v) (fun x hx => hx.elim Or.inl (fun z => Or.inr (Or.inr z))) hI hN h8 hp hnew hP3 hD3 hF3 hK3 (by
        rw [ez2, if_neg (by omega), hn, ← up_map]
        congr 1)
      exact ⟨⟨r, q, rfl, trivial, g1⟩, g2⟩
  · have h4 : cLv Z.2.2 4 lx = true := by
      show (decide (lx < 8) && decide (0 < Z.2.2 (10 + lx))) = true
      rw [decide_eq_true h8, decide_eq_true (show 0 < Z.2.2 (10 + lx) by omega)]
      rfl
    obtain ⟨hP2, hD2⟩ := cl_take hI hN h3 h4
    have hv4 : ad (cEk lx) v ≠ ad 4 lx := fun z => (cEk_ne lx).2 (hI.1 _ _ 4 lx hv h4 z).1
    have el : lCap (Z.1 3 lx 2).toNatClampNeg (Z.2.2 (10 + lx)) = (Z.1 3 lx 2).toNatClampNeg + (Z.1 3 lx 2).toNatClampNeg / 2 := (if_neg (by omega)).trans (if_neg (by omega))
    have hel := cl_el hI hN hK h3 h4 (fun j q => hR.1 lx j q h8)
    obtain ⟨-, -, ⟨mi, hM⟩, hAO, hDc⟩ := hF
    refine ⟨_, _, fun x => x = ad 3 lx ∨ x = ad 4 lx ∨ U.heap.size ≤ x, lm_add1G l D (cEC lx) G.2.2.1 (ad 3 lx) (ad 4 lx) mi U.heap.size (Z.1 3 lx 0) (Z.1 3 lx 2).toNatClampNeg (fun j => (Z.2.1 4 lx j).map (ad (cEk lx))) (cK D G) hkk (ad (cEk lx) v) (by omega) (by omega), ⟨rfl, rfl, by rw [← hz, hn]; exact hP2, by rw [← hz, hn]; exact hD2, hK.1.sub [2] rfl, hM, hAO, hDc, hel, ⟨hc, hv3, hv4, hcell⟩, hK⟩, fun o t hQ => ?_, fun x hx => ?_⟩
    · obtain ⟨⟨r, q, rfl, -, hP3, hD3, hK3⟩, hF3⟩ := hQ
      rw [← el] at hP3 hD3
      obtain ⟨g1, g2⟩ := cl_fin (v := v) (fun x hx => hx.elim Or.inl (fun z => z.elim (fun z => Or.inr (Or.inl ⟨h4, z⟩)) (fun z => Or.inr (Or.inr z)))) hI hN h8 hp hnew hP3 hD3 hF3 hK3 (by rw [ez2, if_neg (by omega), ← up_map, ← cpy_map])
      exact ⟨⟨r, q, rfl, trivial, g1⟩, g2⟩
    · rcases hx with rfl | rfl | hx
      · exact hA3
      · exact hI.2 4 lx h4
      · exact hnew x hx
