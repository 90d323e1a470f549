/-! PURE PART. A call that throws nothing, and the same call where it may throw: they answer alike. -/
def Br {α : Type} (o : Option (α ⊕ Int32)) (p : Option α) : Prop := ∀ a, o = some (.inl a) → p = some a
def Bw {α : Type} (o : Option ((α ⊕ Int32) × CZ)) (p : Option (α × CZ)) : Prop := ∀ a Z, o = some (.inl a, Z) → p = some (a, Z)
section BRS
variable {α β : Type}
theorem br_some (a : α) : Br (some (.inl a)) (some a) := fun _ h => by cases h; rfl
theorem br_thr (c : Int32) (p : Option α) : Br (some (.inr c)) p := fun _ h => by cases h
theorem br_none (p : Option α) : Br none p := fun _ h => by cases h
theorem br_gd {b : Bool} {o : Option (α ⊕ Int32)} {p : Option α} (h : Br o p) : Br (gd b o) (gd b p) := by
  cases b
  · exact br_none _
  · exact h
theorem br_ite {c : Prop} [Decidable c] {o o' : Option (α ⊕ Int32)} {p p' : Option α} (h : Br o p) (h' : Br o' p') : Br (if c then o else o') (if c then p else p') := by
  split
  · exact h
  · exact h'
theorem br_bnd {a : β} {f : β → Option (α ⊕ Int32)} {g : β → Option α} (h : ∀ b, Br (f b) (g b)) : Br (bnd a f) (bnd a g) := h a
theorem br_cl1 {x : Option β} {f : β → Option (α ⊕ Int32)} {g : β → Option α} (h : ∀ b, Br (f b) (g b)) : Br (cl1 x f) (cl1 x g) := by
  cases x
  · exact br_none _
  · exact h _
theorem br_op2 {x : Option β} {o : Option (α ⊕ Int32)} {p : Option α} {f : β → Option (α ⊕ Int32)} {g : β → Option α} (h0 : Br o p) (h : ∀ b, Br (f b) (g b)) : Br (op2 x o f) (op2 x p g) := by
  cases x
  · exact h0
  · exact h _
theorem br_cx1 {x : Option (β ⊕ Int32)} {y : Option β} {f : β → Option (α ⊕ Int32)} {g : β → Option α} (hx : Br x y) (h : ∀ b, Br (f b) (g b)) : Br (cx1 x (fun c => some (.inr c)) f) (cl1 y g) := by
  rcases x with _ | (b | c)
  · exact br_none _
  · rw [hx b rfl]
    exact h b
  · exact br_thr _ _
theorem bw_some (a : α) (Z : CZ) : Bw (some (.inl a, Z)) (some (a, Z)) := fun _ _ h => by cases h; rfl
theorem bw_thr (c : Int32) (Z : CZ) (p : Option (α × CZ)) : Bw (some (.inr c, Z)) p := fun _ _ h => by cases h
theorem bw_none (p : Option (α × CZ)) : Bw none p := fun _ _ h => by cases h
theorem bw_gd {b : Bool} {o : Option ((α ⊕ Int32) × CZ)} {p : Option (α × CZ)} (h : Bw o p) : Bw (gd b o) (gd b p) := by
  cases b
  · exact bw_none _
  · exact h
theorem bw_ite {c : Prop} [Decidable c] {o o' : Option ((α ⊕ Int32) × CZ)} {p p' : Option (α × CZ)} (h : Bw o p) (h' : Bw o' p') : Bw (if c then o else o') (if c then p else p') := by
  split
  · exact h
  · exact h'
theorem bw_bnd {a : β} {f : β → Option ((α ⊕ Int32) × CZ)} {g : β → Option (α × CZ)} (h : ∀ b, Bw (f b) (g b)) : Bw (bnd a f) (bnd a g) := h a
theorem bw_cl1 {x : Option β} {f : β → Option ((α ⊕ Int32) × CZ)} {g : β → Option (α × CZ)} (h : ∀ b, Bw (f b) (g b)) : Bw (cl1 x f) (cl1 x g) := by
  cases x
  · exact bw_none _
  · exact h _
theorem bw_cl2 {x : Option (β × CZ)} {f : β → CZ → Option ((α ⊕ Int32) × CZ)} {g : β → CZ → Option (α × CZ)} (h : ∀ b Z, Bw (f b Z) (g b Z)) : Bw (cl2 x f) (cl2 x g) := by
  cases x
  · exact bw_none _
  · exact h _ _
theorem bw_cx1 {x : Option (β ⊕ Int32)} {y : Option β} {Z : CZ} {f : β → Option ((α ⊕ Int32) × CZ)} {g : β → Option (α × CZ)} (hx : Br x y) (h : ∀ b, Bw (f b) (g b)) : Bw (cx1 x (fun c => some (.inr c, Z)) f) (cl1 y g) := by
  rcases x with _ | (b | c)
  · exact bw_none _
  · rw [hx b rfl]
    exact h b
  · exact bw_thr _ _ _
end BRS
theorem nb_requireIndex (a b : Int32) (Z : CZ) : Br (fX6_requireIndex a b Z) (fX6_requireIndex_n a b Z) := by
  unfold fX6_requireIndex fX6_requireIndex_n
  unfold fX6_requireIndex_9 fX6_requireIndex_n_9
  repeat' first | with_reducible apply br_ite | with_reducible exact br_some _ | with_reducible exact br_thr _ _ | with_reducible intro _
theorem nb_requireRange (a b c : Int32) (Z : CZ) : Br (fX6_requireRange a b c Z) (fX6_requireRange_n a b c Z) := by
  unfold fX6_requireRange fX6_requireRange_n
  unfold fX6_requireRange_10 fX6_requireRange_n_10
  repeat' first | with_reducible apply br_ite | with_reducible exact br_some _ | with_reducible exact br_thr _ _ | with_reducible intro _
theorem nb_requireState (a : Int32) (Z : CZ) : Br (fX6_requireState a Z) (fX6_requireState_n a Z) := by
  unfold fX6_requireState fX6_requireState_n
  repeat' first | with_reducible apply br_ite | with_reducible exact br_some _ | with_reducible exact br_thr _ _ | with_reducible intro _
theorem nb_requirePhrase (b : Nat) (a : Int32) (Z : CZ) : Br (fX6_requirePhrase b a Z) (fX6_requirePhrase_n b a Z) := by
  unfold fX6_requirePhrase fX6_requirePhrase_n
  repeat' first | with_reducible apply br_gd | with_reducible apply br_cl1 | with_reducible apply br_cx1 | with_reducible exact br_some _ | with_reducible exact br_thr _ _ | with_reducible exact nb_requireIndex _ _ _ | with_reducible intro _
theorem nb_panAt (a : Int32) (Z : CZ) : Br (fX6_panAt a Z) (fX6_panAt_n a Z) := by
  unfold fX6_panAt fX6_panAt_n
  repeat' first | with_reducible apply br_gd | with_reducible apply br_cl1 | with_reducible apply br_cx1 | with_reducible exact br_some _ | with_reducible exact br_thr _ _ | with_reducible exact nb_requireIndex _ _ _ | with_reducible intro _
theorem nb_playerAt (a : Int32) (Z : CZ) : Br (fX6_playerAt a Z) (fX6_playerAt_n a Z) := by
  unfold fX6_playerAt fX6_playerAt_n
  repeat' first | with_reducible apply br_gd | with_reducible apply br_cl1 | with_reducible apply br_cx1 | with_reducible exact br_some _ | with_reducible exact br_thr _ _ | with_reducible exact nb_requireIndex _ _ _ | with_reducible intro _
theorem nb_bandAt (a : Int32) (Z : CZ) : Br (fX6_bandAt a Z) (fX6_bandAt_n a Z) := by
  unfold fX6_bandAt fX6_bandAt_n
  repeat' first | with_reducible apply br_gd | with_reducible apply br_cl1 | with_reducible apply br_cx1 | with_reducible exact br_some _ | with_reducible exact br_thr _ _ | with_reducible exact nb_requireIndex _ _ _ | with_reducible intro _
theorem nb_seatAt (b : Nat) (a : Int32) (Z : CZ) : Br (fX6_seatAt b a Z) (fX6_seatAt_n b a Z) := by
  unfold fX6_seatAt fX6_seatAt_n
  repeat' first | with_reducible apply br_gd | with_reducible apply br_cl1 | with_reducible apply br_cx1 | with_reducible exact br_some _ | with_reducible exact br_thr _ _ | with_reducible exact nb_requireIndex _ _ _ | with_reducible intro _
theorem nb_field (a1 a2 a3 : Int32) (Z : CZ) : Br (fX6_field a1 a2 a3 Z) (fX6_field_n a1 a2 a3 Z) := by
  unfold fX6_field fX6_field_n
  unfold fX6_field_92 fX6_field_n_92
  unfold fX6_field_107 fX6_field_n_107
  repeat' first | with_reducible apply br_cx1 | with_reducible apply br_gd | with_reducible apply br_ite | with_reducible apply br_cl1 | with_reducible apply br_op2 | with_reducible apply br_bnd | with_reducible exact br_some _ | with_reducible exact br_thr _ _ | with_reducible exact nb_requireIndex _ _ _ | with_reducible exact nb_requireRange _ _ _ _ | with_reducible exact nb_requireState _ _ | with_reducible exact nb_requirePhrase _ _ _ | with_reducible exact nb_panAt _ _ | with_reducible exact nb_playerAt _ _ | with_reducible exact nb_bandAt _ _ | with_reducible exact nb_seatAt _ _ _ | with_reducible intro _
theorem nb_isInTune (a1 : Int32) (Z : CZ) : Br (fX6_isInTune a1 Z) (fX6_isInTune_n a1 Z) := by
  unfold fX6_isInTune fX6_isInTune_n
  repeat' first | with_reducible apply br_cx1 | with_reducible apply br_gd | with_reducible apply br_ite | with_reducible apply br_cl1 | with_reducible apply br_op2 | with_reducible apply br_bnd | with_reducible exact br_some _ | with_reducible exact br_thr _ _ | with_reducible exact nb_requireIndex _ _ _ | with_reducible exact nb_requireRange _ _ _ _ | with_reducible exact nb_requireState _ _ | with_reducible exact nb_requirePhrase _ _ _ | with_reducible exact nb_panAt _ _ | with_reducible exact nb_playerAt _ _ | with_reducible exact nb_bandAt _ _ | with_reducible exact nb_seatAt _ _ _ | with_reducible intro _
theorem nb_ofPlayer (a1 a2 : Int32) (Z : CZ) : Br (fX6_ofPlayer a1 a2 Z) (fX6_ofPlayer_n a1 a2 Z) := by
  unfold fX6_ofPlayer fX6_ofPlayer_n
  unfold fX6_ofPlayer_49 fX6_ofPlayer_n_49
  repeat' first | with_reducible apply br_cx1 | with_reducible apply br_gd | with_reducible apply br_ite | with_reducible apply br_cl1 | with_reducible apply br_op2 | with_reducible apply br_bnd | with_reducible exact br_some _ | with_reducible exact br_thr _ _ | with_reducible exact nb_requireIndex _ _ _ | with_reducible exact nb_requireRange _ _ _ _ | with_reducible exact nb_requireState _ _ | with_reducible exact nb_requirePhrase _ _ _ | with_reducible exact nb_panAt _ _ | with_reducible exact nb_playerAt _ _ | with_reducible exact nb_bandAt _ _ | with_reducible exact nb_seatAt _ _ _ | with_reducible intro _
theorem nb_seat (a1 a2 : Int32) (Z : CZ) : Br (fX6_seat a1 a2 Z) (fX6_seat_n a1 a2 Z) := by
  unfold fX6_seat fX6_seat_n
  repeat' first | with_reducible apply br_cx1 | with_reducible apply br_gd | with_reducible apply br_ite | with_reducible apply br_cl1 | with_reducible apply br_op2 | with_reducible apply br_bnd | with_reducible exact br_some _ | with_reducible exact br_thr _ _ | with_reducible exact nb_requireIndex _ _ _ | with_reducible exact nb_requireRange _ _ _ _ | with_reducible exact nb_requireState _ _ | with_reducible exact nb_requirePhrase _ _ _ | with_reducible exact nb_panAt _ _ | with_reducible exact nb_playerAt _ _ | with_reducible exact nb_bandAt _ _ | with_reducible exact nb_seatAt _ _ _ | with_reducible intro _
theorem nb_knows (a1 a2 a3 : Int32) (Z : CZ) : Br (fX6_knows a1 a2 a3 Z) (fX6_knows_n a1 a2 a3 Z) := by
  unfold fX6_knows fX6_knows_n
  repeat' first | with_reducible apply br_cx1 | with_reducible apply br_gd | with_reducible apply br_ite | with_reducible apply br_cl1 | with_reducible apply br_op2 | with_reducible apply br_bnd | with_reducible exact br_some _ | with_reducible exact br_thr _ _ | with_reducible exact nb_requireIndex _ _ _ | with_reducible exact nb_requireRange _ _ _ _ | with_reducible exact nb_requireState _ _ | with_reducible exact nb_requirePhrase _ _ _ | with_reducible exact nb_panAt _ _ | with_reducible exact nb_playerAt _ _ | with_reducible exact nb_bandAt _ _ | with_reducible exact nb_seatAt _ _ _ | with_reducible intro _
theorem nb_ofBand (a1 a2 : Int32) (Z : CZ) : Br (fX6_ofBand a1 a2 Z) (fX6_ofBand_n a1 a2 Z) := by
  unfold fX6_ofBand fX6_ofBand_n
  unfold fX6_ofBand_83 fX6_ofBand_n_83
  repeat' first | with_reducible apply br_cx1 | with_reducible apply br_gd | with_reducible apply br_ite | with_reducible apply br_cl1 | with_reducible apply br_op2 | with_reducible apply br_bnd | with_reducible exact br_some _ | with_reducible exact br_thr _ _ | with_reducible exact nb_requireIndex _ _ _ | with_reducible exact nb_requireRange _ _ _ _ | with_reducible exact nb_requireState _ _ | with_reducible exact nb_requirePhrase _ _ _ | with_reducible exact nb_panAt _ _ | with_reducible exact nb_playerAt _ _ | with_reducible exact nb_bandAt _ _ | with_reducible exact nb_seatAt _ _ _ | with_reducible intro _
theorem nb_score (a1 : Int32) (Z : CZ) : Br (fX6_score a1 Z) (fX6_score_n a1 Z) := by
  unfold fX6_score fX6_score_n
  repeat' first | with_reducible apply br_cx1 | with_reducible apply br_gd | with_reducible apply br_ite | with_reducible apply br_cl1 | with_reducible apply br_op2 | with_reducible apply br_bnd | with_reducible exact br_some _ | with_reducible exact br_thr _ _ | with_reducible exact nb_requireIndex _ _ _ | with_reducible exact nb_requireRange _ _ _ _ | with_reducible exact nb_requireState _ _ | with_reducible exact nb_requirePhrase _ _ _ | with_reducible exact nb_panAt _ _ | with_reducible exact nb_playerAt _ _ | with_reducible exact nb_bandAt _ _ | with_reducible exact nb_seatAt _ _ _ | with_reducible intro _
theorem nb_blow (a1 a2 a3 a4 : Int32) (Z : CZ) : Bw (fX6_blow a1 a2 a3 a4 Z) (fX6_blow_n a1 a2 a3 a4 Z) := by
  unfold fX6_blow fX6_blow_n
  repeat' first | with_reducible apply bw_cx1 | with_reducible apply bw_cl2 | with_reducible apply bw_gd | with_reducible apply bw_ite | with_reducible apply bw_cl1 | with_reducible apply bw_bnd | with_reducible exact bw_some _ _ | with_reducible exact bw_thr _ _ _ | with_reducible exact nb_requireIndex _ _ _ | with_reducible exact nb_requireRange _ _ _ _ | with_reducible exact nb_requireState _ _ | with_reducible exact nb_requirePhrase _ _ _ | with_reducible exact nb_panAt _ _ | with_reducible exact nb_playerAt _ _ | with_reducible exact nb_bandAt _ _ | with_reducible exact nb_seatAt _ _ _ | with_reducible intro _
theorem nb_heat (a1 : Int32) (Z : CZ) : Bw (fX6_heat a1 Z) (fX6_heat_n a1 Z) := by
  unfold fX6_heat fX6_heat_n
  repeat' first | with_reducible apply bw_cx1 | with_reducible apply bw_cl2 | with_reducible apply bw_gd | with_reducible apply bw_ite | with_reducible apply bw_cl1 | with_reducible apply bw_bnd | with_reducible exact bw_some _ _ | with_reducible exact bw_thr _ _ _ | with_reducible exact nb_requireIndex _ _ _ | with_reducible exact nb_requireRange _ _ _ _ | with_reducible exact nb_requireState _ _ | with_reducible exact nb_requirePhrase _ _ _ | with_reducible exact nb_panAt _ _ | with_reducible exact nb_playerAt _ _ | with_reducible exact nb_bandAt _ _ | with_reducible exact nb_seatAt _ _ _ | with_reducible intro _
theorem nb_plan (a1 a2 : Int32) (Z : CZ) : Bw (fX6_plan a1 a2 Z) (fX6_plan_n a1 a2 Z) := by
  unfold fX6_plan fX6_plan_n
  unfold fX6_plan_54 fX6_plan_n_54
  repeat' first | with_reducible apply bw_cx1 | with_reducible apply bw_cl2 | with_reducible apply bw_gd | with_reducible apply bw_ite | with_reducible apply bw_cl1 | with_reducible apply bw_bnd | with_reducible exact bw_some _ _ | with_reducible exact bw_thr _ _ _ | with_reducible exact nb_requireIndex _ _ _ | with_reducible exact nb_requireRange _ _ _ _ | with_reducible exact nb_requireState _ _ | with_reducible exact nb_requirePhrase _ _ _ | with_reducible exact nb_panAt _ _ | with_reducible exact nb_playerAt _ _ | with_reducible exact nb_bandAt _ _ | with_reducible exact nb_seatAt _ _ _ | with_reducible intro _
theorem nb_change (a1 a2 a3 : Int32) (Z : CZ) : Bw (fX6_change a1 a2 a3 Z) (fX6_change_n a1 a2 a3 Z) := by
  unfold fX6_change fX6_change_n
  unfold fX6_change_54 fX6_change_n_54
  repeat' first | with_reducible apply bw_cx1 | with_reducible apply bw_cl2 | with_reducible apply bw_gd | with_reducible apply bw_ite | with_reducible apply bw_cl1 | with_reducible apply bw_bnd | with_reducible exact bw_some _ _ | with_reducible exact bw_thr _ _ _ | with_reducible exact nb_requireIndex _ _ _ | with_reducible exact nb_requireRange _ _ _ _ | with_reducible exact nb_requireState _ _ | with_reducible exact nb_requirePhrase _ _ _ | with_reducible exact nb_panAt _ _ | with_reducible exact nb_playerAt _ _ | with_reducible exact nb_bandAt _ _ | with_reducible exact nb_seatAt _ _ _ | with_reducible intro _
theorem nb_tell (a1 a2 a3 : Int32) (Z : CZ) : Bw (fX6_tell a1 a2 a3 Z) (fX6_tell_n a1 a2 a3 Z) := by
  unfold fX6_tell fX6_tell_n
  repeat' first | with_reducible apply bw_cx1 | with_reducible apply bw_cl2 | with_reducible apply bw_gd | with_reducible apply bw_ite | with_reducible apply bw_cl1 | with_reducible apply bw_bnd | with_reducible exact bw_some _ _ | with_reducible exact bw_thr _ _ _ | with_reducible exact nb_requireIndex _ _ _ | with_reducible exact nb_requireRange _ _ _ _ | with_reducible exact nb_requireState _ _ | with_reducible exact nb_requirePhrase _ _ _ | with_reducible exact nb_panAt _ _ | with_reducible exact nb_playerAt _ _ | with_reducible exact nb_bandAt _ _ | with_reducible exact nb_seatAt _ _ _ | with_reducible intro _
theorem nb_pass (a1 : Int32) (Z : CZ) : Bw (fX6_pass a1 Z) (fX6_pass_n a1 Z) := by
  unfold fX6_pass fX6_pass_n
  unfold fX6_pass_24 fX6_pass_n_24
  repeat' first | with_reducible apply bw_cx1 | with_reducible apply bw_cl2 | with_reducible apply bw_gd | with_reducible apply bw_ite | with_reducible apply bw_cl1 | with_reducible apply bw_bnd | with_reducible exact bw_some _ _ | with_reducible exact bw_thr _ _ _ | with_reducible exact nb_requireIndex _ _ _ | with_reducible exact nb_requireRange _ _ _ _ | with_reducible exact nb_requireState _ _ | with_reducible exact nb_requirePhrase _ _ _ | with_reducible exact nb_panAt _ _ | with_reducible exact nb_playerAt _ _ | with_reducible exact nb_bandAt _ _ | with_reducible exact nb_seatAt _ _ _ | with_reducible intro _
theorem nb_leaps (a1 : Int32) (Z : CZ) : Bw (fX6_leaps a1 Z) (fX6_leaps_n a1 Z) := by
  unfold fX6_leaps fX6_leaps_n
  repeat' first | with_reducible apply bw_cx1 | with_reducible apply bw_cl2 | with_reducible apply bw_gd | with_reducible apply bw_ite | with_reducible apply bw_cl1 | with_reducible apply bw_bnd | with_reducible exact bw_some _ _ | with_reducible exact bw_thr _ _ _ | with_reducible exact nb_requireIndex _ _ _ | with_reducible exact nb_requireRange _ _ _ _ | with_reducible exact nb_requireState _ _ | with_reducible exact nb_requirePhrase _ _ _ | with_reducible exact nb_panAt _ _ | with_reducible exact nb_playerAt _ _ | with_reducible exact nb_bandAt _ _ | with_reducible exact nb_seatAt _ _ _ | with_reducible intro _
theorem nb_part (a1 a2 : Int32) (Z : CZ) : Bw (fX6_part a1 a2 Z) (fX6_part_n a1 a2 Z) := by
  unfold fX6_part fX6_part_n
  unfold fX6_part_37 fX6_part_n_37
  repeat' first | with_reducible apply bw_cx1 | with_reducible apply bw_cl2 | with_reducible apply bw_gd | with_reducible apply bw_ite | with_reducible apply bw_cl1 | with_reducible apply bw_bnd | with_reducible exact bw_some _ _ | with_reducible exact bw_thr _ _ _ | with_reducible exact nb_requireIndex _ _ _ | with_reducible exact nb_requireRange _ _ _ _ | with_reducible exact nb_requireState _ _ | with_reducible exact nb_requirePhrase _ _ _ | with_reducible exact nb_panAt _ _ | with_reducible exact nb_playerAt _ _ | with_reducible exact nb_bandAt _ _ | with_reducible exact nb_seatAt _ _ _ | with_reducible intro _
theorem nb_without (a1 a2 : Int32) (Z : CZ) : Bw (fX6_without a1 a2 Z) (fX6_without_n a1 a2 Z) := by
  unfold fX6_without fX6_without_n
  repeat' first | with_reducible apply bw_cx1 | with_reducible apply bw_cl2 | with_reducible apply bw_gd | with_reducible apply bw_ite | with_reducible apply bw_cl1 | with_reducible apply bw_bnd | with_reducible exact bw_some _ _ | with_reducible exact bw_thr _ _ _ | with_reducible exact nb_requireIndex _ _ _ | with_reducible exact nb_requireRange _ _ _ _ | with_reducible exact nb_requireState _ _ | with_reducible exact nb_requirePhrase _ _ _ | with_reducible exact nb_panAt _ _ | with_reducible exact nb_playerAt _ _ | with_reducible exact nb_bandAt _ _ | with_reducible exact nb_seatAt _ _ _ | with_reducible intro _
theorem nb_rank_7 (Z : CZ) {k : Int32 → Int32 → Option (Int32 ⊕ Int32)} {k' : Int32 → Int32 → Option Int32} (h : ∀ a x, Br (k a x) (k' a x)) (a x : Int32) : Br (fX6_rank_7 Z k a x) (fX6_rank_n_7 Z k' a x) := by
  unfold fX6_rank_7 fX6_rank_n_7
  unfold fX6_rank_44 fX6_rank_n_44 fX6_rank_46 fX6_rank_n_46 fX6_rank_52 fX6_rank_n_52
  repeat' first | with_reducible apply br_gd | with_reducible apply br_ite | with_reducible apply br_cl1 | with_reducible apply br_bnd | with_reducible exact br_some _ | with_reducible exact h _ _ | with_reducible intro _
theorem nb_rank_l (Z : CZ) : ∀ (fuel : Nat) (a x : Int32), Br (lf2 (fX6_rank_7 Z) fuel a x) (lf2 (fX6_rank_n_7 Z) fuel a x)
  | 0, _, _ => br_none _
  | fuel + 1, a, x => nb_rank_7 Z (nb_rank_l Z fuel) a x
theorem nb_rank (a : Int32) (Z : CZ) : Br (fX6_rank a Z) (fX6_rank_n a Z) := by
  unfold fX6_rank fX6_rank_n
  exact br_cx1 (nb_requireIndex _ _ _) (fun _ => nb_rank_l Z _ _ _)
