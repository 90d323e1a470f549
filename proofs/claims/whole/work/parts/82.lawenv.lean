theorem rm_c : 600000 ≤ room_1.cells := Nat.le_of_ble_eq_true rfl
theorem rm_s : 7000000 ≤ room_1.slots := Nat.le_of_ble_eq_true rfl
section LGC
variable {p : Program} {l : Launch} {e : Env} {R : Room} {s : State} {m : MethodId} {args : Array Value} {below : List Frame} {meth : Method} {c : Code} {H H1 : Heap} {locs : List Loc} {cells slots : Nat} {Q : State → Prop}
variable {D : va_G} {G : CGT} {ad : Nat → Nat → Nat} {Z : CZ} {mad : Nat → Nat} {kI kZ cJ : ClassId} {M : MT} {q : Nat} {f : Nat → Int64} {A0 A B : Nat → Prop} {U : State}
theorem cE.narrow (h : cE A U H) (hAB : ∀ q, B q → A q) : cE B U H := ⟨h.1, h.2.1.narrow hAB, h.2.2.1.narrow hAB, h.2.2.2⟩
theorem cF.narrow (h : cF G A U H) (hAB : ∀ q, B q → A q) : cF G B U H := ⟨h.1.narrow hAB, h.2.1.elim (fun gE hT => ⟨gE, hT.narrow hAB⟩), h.2.2⟩
theorem lNc.moved (hvm : s.vm.Alike U.vm) (h : lNc s) : lNc U := fun x hx y hy hn => (h x hx y hy hn).moved hvm
theorem lA_in (hL : lI D G ad Z mad kI kZ M cJ q f A0 H) (hAH : ∀ r, H.size ≤ r → A0 r) : ∀ r, lA ad Z H r → A0 r := fun r h => h.elim (fun z => cNm_A hL.1 z) (hAH r)
theorem lP_call {as : List Value} : FrameBlind (va_Pc as (lP D G A ad Z cJ q f)) := fun a U g mk h => ⟨h.1, ⟨(xP_call (as := as) a U g mk ⟨h.1, h.2.1.1⟩).2, h.2.1.2.1.go (s := U) (U := U.calling g mk a) va_S.rf (Vm.Alike.refl U.vm), h.2.1.2.2⟩, h.2.2.1, va_K.moved (u := U) (U := U.calling g mk a) (Vm.Alike.refl U.vm) h.2.2.2.1, lNc.moved (s := U) (U := U.calling g mk a) (Vm.Alike.refl U.vm) h.2.2.2.2.1, h.2.2.2.2.2⟩
theorem lg_preS {as : List Value} (hL : lI D G ad Z mad kI kZ M cJ q f A0 H) (hAH : ∀ r, H.size ≤ r → A0 r) (hK : cK D G s) (hKJ : va_K D vwCl [(cJ, .long)] s) (hE : cE A0 s s.heap) (hF : cF G A0 s s.heap) (hNc : lNc s) (hS : va_S A0 s.heap H locs) : PreS s H (va_Pc as (lP D G (lA ad Z H) ad Z cJ q f)) as := by
  have hin := lA_in hL hAH
  obtain ⟨h1, h2, h3, h4, h5, h6, h7, h8, h9, h10⟩ := hL
  refine ⟨lP_call, fun U hU hW => ⟨rfl, ⟨⟨⟨⟨h1.1, fun k i hl => Or.inl ⟨k, i, hl, rfl⟩⟩, by rw [hU]; exact h2, hK.moved hW.alike⟩, by rw [hU]; exact (hE.go hS hW).narrow hin⟩, by rw [hU]; exact (hF.go hS hW.alike).narrow hin, fun r h => Or.inr (by rw [← hU]; exact h)⟩, by rw [hU]; exact h5, va_K.moved hW.alike hKJ, hNc.moved hW.alike, ?_⟩⟩
  rintro (h | h)
  · exact h9 h
  · exact absurd h5.lt (Nat.not_lt.mpr h)
end LGC
