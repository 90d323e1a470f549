theorem arr_over {args : Array Value} {s : State} {t : FieldType} (h : (Cond.arrayOver (.array t)).before args s = true) : ∃ cA : ClassId, ArrOfT s cA (.array t) ∧ va_RA s cA (.array t) := by
  have h : (Cond.arrayOver (.array t)).holds args s none s [] = true := h
  simp only [Cond.holds, Cond.value, beq_iff_eq] at h
  cases hc : s.vm.findClass (FieldType.array t).toString with
  | none => simp [hc] at h
  | some comp =>
    simp only [hc, Option.bind_some, Option.bind_eq_some_iff, Option.map_eq_some_iff] at h
    obtain ⟨c, hi, k, hk, hb⟩ := h
    cases hkind : k.kind with
    | array component ty =>
      rw [hkind] at hb
      simp at hb
      refine ⟨c, fun n z => ⟨fun k h => (by cases h), k, hk, component, by rw [hkind, hb.1]⟩, hb.2⟩
    | _ => rw [hkind] at hb; simp at hb
theorem obj_over {args : Array Value} {s : State} {C : String} (h : (Cond.arrayOver (.object C)).before args s = true) : ∃ cA : ClassId, ArrOfT s cA (.object C) ∧ va_RA s cA (.object C) := by
  obtain ⟨comp, c, k, h1, h2, h3, h4, h5⟩ := Cond.arrayOver_spec h
  exact ⟨c, fun n z => ⟨fun k h => (by cases h), k, h3, comp, h4⟩, k, comp, h3, h4, h1, h5⟩
theorem ar_of {args : Array Value} {s : State} {ty : FieldType} (h : (Cond.arrayClass ty).before args s = true) (hno : ∀ C, ty ≠ .object C) : ∃ cA : ClassId, ArrOfT s cA ty ∧ va_RA s cA ty := by
  obtain ⟨cA, kA, comp, h1, h2, h3⟩ := Cond.arrayClass_spec h
  refine ⟨cA, fun n z => ⟨fun k h => by (first | cases h | exact absurd rfl (hno _)), kA, h2, comp, h3⟩, ?_⟩
  cases ty with
  | object C => exact absurd rfl (hno C)
  | _ => exact h1
set_option maxRecDepth 100000 in
set_option maxHeartbeats 4000000 in
theorem lw_env {p : Program} {s : State} {m : MethodId} {meth : Method} {c : Code} {b L : Nat} {xs : Nat → Int32} (C0 : lw_At p s m meth c b L xs) : ∃ (D : va_G) (kI kZ kO kA : ClassId) (eA : Nat) (gE : Nat → Value), va_K D vwCl [(kI, .int), (kZ, .boolean), (kO, .object "java/lang/Object"), (kA, .array .int)] s ∧ cE (fun q => s.heap.size ≤ q) s s.heap ∧ (va_Z "java/util/ArrayList" "DEFAULTCAPACITY_EMPTY_ELEMENTDATA" "[Ljava/lang/Object;" (.ref eA) (fun q => s.heap.size ≤ q) s s.heap ∧ va_T (.object "java/lang/Object") eA 0 gE (fun q => s.heap.size ≤ q) s s.heap ∧ (∃ mi : Nat, va_Mi "[Ljava/lang/Object;" mi s) ∧ va_AO "java/lang/Object" s ∧ va_Dc s) ∧ va_AOA .int s ∧ (∀ n ∈ cCo, va_Nw (.castable n "java/lang/Object") s) ∧ va_Nw (.methodLinkNest RX6 31 yX2_init "Panyard") s := by
  obtain ⟨hx, hb, hr, hml, hown, hts, hX, hbl, hlocks, hgv⟩ := id C0
  have hs := flat_of_before _ hgv
  have hAb : ∀ a : Nat, a < s.heap.size → ¬ (fun q : Nat => s.heap.size ≤ q) a := fun a h => Nat.not_le.mpr h
  obtain ⟨c0, i0, hk0⟩ := u_known (C := RJx4a65c) (T := TJx4a65c) (N := 3) (n := 3) hts inJx4a65c (hts (.instantiable RJx4a65c 3) (by decide +kernel))
  obtain ⟨c1, i1, hk1⟩ := u_known (C := RX0) (T := TX0) (N := 7) (n := 7) hts inX0 (hts (.instantiable RX0 7) (by decide +kernel))
  obtain ⟨c2, i2, hk2⟩ := u_known (C := RX1) (T := TX1) (N := 5) (n := 5) hts inX1 (hts (.instantiable RX1 5) (by decide +kernel))
  obtain ⟨c3, i3, hk3⟩ := u_known (C := RX2) (T := TX2) (N := 2) (n := 2) hts inX2 (hts (.instantiable RX2 2) (by decide +kernel))
  obtain ⟨c4, i4, hk4⟩ := u_known (C := RX3) (T := TX3) (N := 2) (n := 2) hts inX3 (hts (.instantiable RX3 2) (by decide +kernel))
  obtain ⟨c5, i5, hk5⟩ := u_known (C := RX4) (T := TX4) (N := 6) (n := 6) hts inX4 (hts (.instantiable RX4 6) (by decide +kernel))
  obtain ⟨c6, i6, hk6⟩ := u_known (C := RX5) (T := TX5) (N := 2) (n := 2) hts inX5 (hts (.instantiable RX5 2) (by decide +kernel))
  obtain ⟨c7, i7, hk7⟩ := u_known (C := RX6) (T := TX6) (N := 7) (n := 7) hts inX6 (hts (.instantiable RX6 7) (by decide +kernel))
  obtain ⟨D, hKc⟩ : ∃ D : va_G, ∀ (k : Nat) (q : vw_C), vwCl[k]? = some q → u_Kn s q.1 q.2.1 q.2.2 (D.1 k) (D.2 k) := by
    refine ⟨(fun k => match k with | 0 => c0 | 1 => c1 | 2 => c2 | 3 => c3 | 4 => c4 | 5 => c5 | 6 => c6 | _ => c7, fun k => match k with | 0 => i0 | 1 => i1 | 2 => i2 | 3 => i3 | 4 => i4 | 5 => i5 | 6 => i6 | _ => i7), ?_⟩
    intro k q hq
    match k, hq with
    | 0, hq => cases hq; exact hk0
    | 1, hq => cases hq; exact hk1
    | 2, hq => cases hq; exact hk2
    | 3, hq => cases hq; exact hk3
    | 4, hq => cases hq; exact hk4
    | 5, hq => cases hq; exact hk5
    | 6, hq => cases hq; exact hk6
    | 7, hq => cases hq; exact hk7
    | k + 8, hq => exact absurd hq (by simp)
  obtain ⟨kI, hI1, hI2⟩ := ar_of (hts (.arrayClass .int) (by decide +kernel)) (fun C h => by cases h)
  obtain ⟨kZ, hZ1, hZ2⟩ := ar_of (hts (.arrayClass .boolean) (by decide +kernel)) (fun C h => by cases h)
  have wAO := hts (.arrayOver (.object "java/lang/Object")) (by decide +kernel)
  have wAA := hts (.arrayOver (.array .int)) (by decide +kernel)
  have hAO : va_AO "java/lang/Object" s := wAO
  have hAOA : va_AOA .int s := va_AOA.of wAA
  obtain ⟨kO, hO1, hO2⟩ := obj_over wAO
  obtain ⟨kA, hA1, hA2⟩ := arr_over wAA
  have hlen0 : (Term.length (.static "java/util/ArrayList" "DEFAULTCAPACITY_EMPTY_ELEMENTDATA" "[Ljava/lang/Object;")).eval #[Value.ref b] s none [] s = some (.int (Int32.ofNat 0)) := va_eqt (hs (.eq (.length (.static "java/util/ArrayList" "DEFAULTCAPACITY_EMPTY_ELEMENTDATA" "[Ljava/lang/Object;")) (.int 0)) (by decide +kernel))
  obtain ⟨eA, hev, hT⟩ := va_Tof (A := fun q : Nat => s.heap.size ≤ q) (f := fun _ => Value.null) (N := 0) (by decide) (hs (.arrayOf (.static "java/util/ArrayList" "DEFAULTCAPACITY_EMPTY_ELEMENTDATA" "[Ljava/lang/Object;") (.object "java/lang/Object")) (by decide +kernel)) hlen0 (fun j h => absurd h (Nat.not_lt_zero j)) hAb
  have hZ : va_Z "java/util/ArrayList" "DEFAULTCAPACITY_EMPTY_ELEMENTDATA" "[Ljava/lang/Object;" (.ref eA) (fun q => s.heap.size ≤ q) s s.heap := va_Zref (hts (.laysStatic "java/util/ArrayList" "DEFAULTCAPACITY_EMPTY_ELEMENTDATA" "[Ljava/lang/Object;") (by decide +kernel)) (hts (.initialized "java/util/ArrayList") (by decide +kernel)) hev hAb
  have hMi := va_Mi.of (hs (.isRef (.mirror "[Ljava/lang/Object;")) (by decide +kernel))
  have hDc : va_Dc s := va_Dc.of (hts (.declares ⟨"java/lang/Object", "getClass", "()Ljava/lang/Class;"⟩) (by decide +kernel))
  have hCo : ∀ n ∈ cCo, va_Nw (.castable n "java/lang/Object") s := by
    intro n hn
    simp only [cCo, List.mem_cons, List.not_mem_nil, or_false] at hn
    rcases hn with rfl | rfl | rfl | rfl
    · exact hts (.castable "Panyard$Pan" "java/lang/Object") (by decide +kernel)
    · exact hts (.castable "Panyard$Player" "java/lang/Object") (by decide +kernel)
    · exact hts (.castable "Panyard$Band" "java/lang/Object") (by decide +kernel)
    · exact hts (.castable "Panyard$Seat" "java/lang/Object") (by decide +kernel)
  have hE : cE (fun q => s.heap.size ≤ q) s s.heap := by
    refine ⟨⟨?_, ?_⟩, ?_, ?_, ?_⟩
    · intro n hn
      simp only [cDe, List.mem_cons, List.not_mem_nil, or_false] at hn
      rcases hn with rfl | rfl | rfl
      · exact hts (.declares (Bundle.initS "java/lang/RuntimeException")) (by decide +kernel)
      · exact hts (.declares (Bundle.initS "java/lang/Exception")) (by decide +kernel)
      · exact hts (.declares (Bundle.initS Bundle.tN)) (by decide +kernel)
    · intro n hn
      simp only [cCa, List.mem_cons, List.not_mem_nil, or_false] at hn
      rcases hn with rfl | rfl | rfl
      · exact hts (.castable "java/lang/IndexOutOfBoundsException" "java/lang/IndexOutOfBoundsException") (by decide +kernel)
      · exact hts (.castable "java/lang/IllegalArgumentException" "java/lang/IllegalArgumentException") (by decide +kernel)
      · exact hts (.castable "java/lang/IllegalStateException" "java/lang/IllegalStateException") (by decide +kernel)
    · exact vx_Zqof (hts (.laysStatic Bundle.tN "UNASSIGNED_STACK" Bundle.steD) (by decide +kernel)) (hts (.initialized Bundle.tN) (by decide +kernel)) (hs (.isRef (.static Bundle.tN "UNASSIGNED_STACK" Bundle.steD)) (by decide +kernel)) hAb
    · exact vx_Zqof (hts (.laysStatic Bundle.tN "SUPPRESSED_SENTINEL" Bundle.listD) (by decide +kernel)) (hts (.initialized Bundle.tN) (by decide +kernel)) (hs (.isRef (.static Bundle.tN "SUPPRESSED_SENTINEL" Bundle.listD)) (by decide +kernel)) hAb
    · intro q hq
      simp only [cStr, List.mem_cons, List.not_mem_nil, or_false] at hq
      rcases hq with rfl | rfl | rfl | rfl
      · obtain ⟨a, _, _, _, ha, -⟩ := Cond.exactly_spec (hs (.exactly (.string "Panyard" 163) "java/lang/String") (by decide +kernel))
        exact ⟨a, vk_R.of (hts (.stringRef RX6 163 "the player has no pan") (by decide +kernel)) ha⟩
      · obtain ⟨a, _, _, _, ha, -⟩ := Cond.exactly_spec (hs (.exactly (.string "Panyard" 260) "java/lang/String") (by decide +kernel))
        exact ⟨a, vk_R.of (hts (.stringRef RX6 260 "there is no such thing") (by decide +kernel)) ha⟩
      · obtain ⟨a, _, _, _, ha, -⟩ := Cond.exactly_spec (hs (.exactly (.string "Panyard" 265) "java/lang/String") (by decide +kernel))
        exact ⟨a, vk_R.of (hts (.stringRef RX6 265 "out of its range") (by decide +kernel)) ha⟩
      · obtain ⟨a, _, _, _, ha, -⟩ := Cond.exactly_spec (hs (.exactly (.string "Panyard" 268) "java/lang/String") (by decide +kernel))
        exact ⟨a, vk_R.of (hts (.stringRef RX6 268 "not as things stand") (by decide +kernel)) ha⟩
  have hnest : va_Nw (.methodLinkNest RX6 31 yX2_init "Panyard") s := hts (.methodLinkNest RX6 31 yX2_init "Panyard") (by decide +kernel)
  refine ⟨D, kI, kZ, kO, kA, eA, fun _ => Value.null, ⟨hKc, ?_⟩, hE, ⟨hZ, hT, hMi, hAO, hDc⟩, hAOA, hCo, hnest⟩
  · intro k q hq
    match k, hq with
    | 0, hq => cases hq; exact ⟨hI1, hI2⟩
    | 1, hq => cases hq; exact ⟨hZ1, hZ2⟩
    | 2, hq => cases hq; exact ⟨hO1, hO2⟩
    | 3, hq => cases hq; exact ⟨hA1, hA2⟩
    | k + 4, hq => exact absurd hq (by simp)
