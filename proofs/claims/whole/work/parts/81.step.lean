/-- a call that answers a number (class: may throw, may write): both sides answer, alike; hs = the codes that the law's wrapper catches, in its order -/
def stepI (fc : Option ((Int32 ⊕ Int32) × CZ)) (fm : Option (Int32 × MT)) (hs : List Int32) (R : CZ → MT → Prop) : Prop := ∃ (b : Int32) (M1 : MT) (Z1 : CZ), fm = some (b, M1) ∧ R Z1 M1 ∧ ((fc = some (.inl b, Z1) ∧ M1 0 0 = 0) ∨ ∃ (j : Nat) (cd : Int32), fc = some (.inr cd, Z1) ∧ hs[j]? = some cd ∧ M1 0 0 = nI (j + 1))
/-- the same, of a call that only reads -/
def stepR (fc : Option (Int32 ⊕ Int32)) (Z : CZ) (fm : Option (Int32 × MT)) (hs : List Int32) (R : CZ → MT → Prop) : Prop := ∃ (b : Int32) (M1 : MT), fm = some (b, M1) ∧ R Z M1 ∧ ((fc = some (.inl b) ∧ M1 0 0 = 0) ∨ ∃ (j : Nat) (cd : Int32), fc = some (.inr cd) ∧ hs[j]? = some cd ∧ M1 0 0 = nI (j + 1))
/-- the same, of a call that answers nothing -/
def stepV (fc : Option ((Unit ⊕ Int32) × CZ)) (fm : Option MT) (hs : List Int32) (R : CZ → MT → Prop) : Prop := ∃ (M1 : MT) (Z1 : CZ), fm = some M1 ∧ R Z1 M1 ∧ ((fc = some (.inl (), Z1) ∧ M1 0 0 = 0) ∨ ∃ (j : Nat) (cd : Int32), fc = some (.inr cd, Z1) ∧ hs[j]? = some cd ∧ M1 0 0 = nI (j + 1))
def st_pan (R R1 : CZ → MT → Prop) : Prop := ∀ (Z : CZ) (M : MT), R Z M → ∀ a1 a2 a3 a4 : Int32, stepI (fX6_pan a1 a2 a3 a4 Z) (fX7_pan a1 a2 a3 a4 M) [2, 3] R1
def st_blow (R R1 : CZ → MT → Prop) : Prop := ∀ (Z : CZ) (M : MT), R Z M → ∀ a1 a2 a3 a4 : Int32, (a4 = 0 ∨ a4 = 1) → stepI (fX6_blow a1 a2 a3 a4 Z) (fX7_blow a1 a2 a3 a4 M) [1, 2, 3] R1
def st_heat (R R1 : CZ → MT → Prop) : Prop := ∀ (Z : CZ) (M : MT), R Z M → ∀ a1 : Int32, stepI (fX6_heat a1 Z) (fX7_heat a1 M) [2] R1
def st_field (R R1 : CZ → MT → Prop) : Prop := ∀ (Z : CZ) (M : MT), R Z M → ∀ a1 a2 a3 : Int32, stepR (fX6_field a1 a2 a3 Z) Z (fX7_field a1 a2 a3 M) [1, 2] R1
def st_isInTune (R R1 : CZ → MT → Prop) : Prop := ∀ (Z : CZ) (M : MT), R Z M → ∀ a1 : Int32, stepR (fX6_isInTune a1 Z) Z (fX7_isInTune a1 M) [1] R1
def st_plan (R R1 : CZ → MT → Prop) : Prop := ∀ (Z : CZ) (M : MT), R Z M → ∀ a1 a2 : Int32, stepI (fX6_plan a1 a2 Z) (fX7_plan a1 a2 M) [1, 2] R1
def st_player (R R1 : CZ → MT → Prop) : Prop := ∀ (Z : CZ) (M : MT), R Z M → ∀ a1 : Int32, stepI (fX6_player a1 Z) (fX7_player a1 M) [2, 3] R1
def st_join (R R1 : CZ → MT → Prop) : Prop := ∀ (Z : CZ) (M : MT), R Z M → ∀ a1 a2 : Int32, stepI (fX6_join a1 a2 Z) (fX7_join a1 a2 M) [1, 3] R1
def st_leave (R R1 : CZ → MT → Prop) : Prop := ∀ (Z : CZ) (M : MT), R Z M → ∀ a1 a2 : Int32, stepI (fX6_leave a1 a2 Z) (fX7_leave a1 a2 M) [1, 3] R1
def st_give (R R1 : CZ → MT → Prop) : Prop := ∀ (Z : CZ) (M : MT), R Z M → ∀ a1 a2 : Int32, stepV (fX6_give a1 a2 Z) (fX7_give a1 a2 M) [1, 3] R1
def st_takeBack (R R1 : CZ → MT → Prop) : Prop := ∀ (Z : CZ) (M : MT), R Z M → ∀ a1 : Int32, stepI (fX6_takeBack a1 Z) (fX7_takeBack a1 M) [1, 3] R1
def st_ofPlayer (R R1 : CZ → MT → Prop) : Prop := ∀ (Z : CZ) (M : MT), R Z M → ∀ a1 a2 : Int32, stepR (fX6_ofPlayer a1 a2 Z) Z (fX7_ofPlayer a1 a2 M) [1, 2] R1
def st_note (R R1 : CZ → MT → Prop) : Prop := ∀ (Z : CZ) (M : MT), R Z M → ∀ a1 a2 : Int32, stepI (fX6_note a1 a2 Z) (fX7_note a1 a2 M) [1, 2, 3] R1
def st_change (R R1 : CZ → MT → Prop) : Prop := ∀ (Z : CZ) (M : MT), R Z M → ∀ a1 a2 a3 : Int32, stepI (fX6_change a1 a2 a3 Z) (fX7_change a1 a2 a3 M) [1, 2] R1
def st_tell (R R1 : CZ → MT → Prop) : Prop := ∀ (Z : CZ) (M : MT), R Z M → ∀ a1 a2 a3 : Int32, stepI (fX6_tell a1 a2 a3 Z) (fX7_tell a1 a2 a3 M) [1] R1
def st_drill (R R1 : CZ → MT → Prop) : Prop := ∀ (Z : CZ) (M : MT), R Z M → ∀ a1 a2 : Int32, stepI (fX6_drill a1 a2 Z) (fX7_drill a1 a2 M) [1, 3] R1
def st_pass (R R1 : CZ → MT → Prop) : Prop := ∀ (Z : CZ) (M : MT), R Z M → ∀ a1 : Int32, stepI (fX6_pass a1 Z) (fX7_pass a1 M) [2, 3] R1
def st_seat (R R1 : CZ → MT → Prop) : Prop := ∀ (Z : CZ) (M : MT), R Z M → ∀ a1 a2 : Int32, stepR (fX6_seat a1 a2 Z) Z (fX7_seat a1 a2 M) [1] R1
def st_knows (R R1 : CZ → MT → Prop) : Prop := ∀ (Z : CZ) (M : MT), R Z M → ∀ a1 a2 a3 : Int32, stepR (fX6_knows a1 a2 a3 Z) Z (fX7_knows a1 a2 a3 M) [1] R1
def st_ofBand (R R1 : CZ → MT → Prop) : Prop := ∀ (Z : CZ) (M : MT), R Z M → ∀ a1 a2 : Int32, stepR (fX6_ofBand a1 a2 Z) Z (fX7_ofBand a1 a2 M) [1, 2] R1
def st_leaps (R R1 : CZ → MT → Prop) : Prop := ∀ (Z : CZ) (M : MT), R Z M → ∀ a1 : Int32, stepI (fX6_leaps a1 Z) (fX7_leaps a1 M) [1] R1
def st_part (R R1 : CZ → MT → Prop) : Prop := ∀ (Z : CZ) (M : MT), R Z M → ∀ a1 a2 : Int32, stepI (fX6_part a1 a2 Z) (fX7_part a1 a2 M) [1] R1
def st_without (R R1 : CZ → MT → Prop) : Prop := ∀ (Z : CZ) (M : MT), R Z M → ∀ a1 a2 : Int32, stepI (fX6_without a1 a2 Z) (fX7_without a1 a2 M) [1] R1
def st_perform (R R1 : CZ → MT → Prop) : Prop := ∀ (Z : CZ) (M : MT), R Z M → ∀ a1 a2 : Int32, stepI (fX6_perform a1 a2 Z) (fX7_perform a1 a2 M) [1, 2, 3] R1
def st_mark (R R1 : CZ → MT → Prop) : Prop := ∀ (Z : CZ) (M : MT), R Z M → ∀ a1 a2 a3 : Int32, stepI (fX6_mark a1 a2 a3 Z) (fX7_mark a1 a2 a3 M) [1, 2, 3] R1
def st_score (R R1 : CZ → MT → Prop) : Prop := ∀ (Z : CZ) (M : MT), R Z M → ∀ a1 : Int32, stepR (fX6_score a1 Z) Z (fX7_score a1 M) [1, 3] R1
def st_rank (R R1 : CZ → MT → Prop) : Prop := ∀ (Z : CZ) (M : MT), R Z M → ∀ a1 : Int32, stepR (fX6_rank a1 Z) Z (fX7_rank a1 M) [1] R1
def st_night (R R1 : CZ → MT → Prop) : Prop := ∀ (Z : CZ) (M : MT), R Z M → ∃ (b : Int32) (M1 : MT), fX6_night Z = some b ∧ fX7_night M = some (b, M1) ∧ R1 Z M1
/-- all that the law's walk asks of the pure part: R n = the relation after n calls -/
def stAll (R : Nat → CZ → MT → Prop) : Prop := R 0 Z0 M0i ∧ ∀ n, n < 512 → st_pan (R n) (R (n + 1)) ∧ st_blow (R n) (R (n + 1)) ∧ st_heat (R n) (R (n + 1)) ∧ st_field (R n) (R (n + 1)) ∧ st_isInTune (R n) (R (n + 1)) ∧ st_plan (R n) (R (n + 1)) ∧ st_player (R n) (R (n + 1)) ∧ st_join (R n) (R (n + 1)) ∧ st_leave (R n) (R (n + 1)) ∧ st_give (R n) (R (n + 1)) ∧ st_takeBack (R n) (R (n + 1)) ∧ st_ofPlayer (R n) (R (n + 1)) ∧ st_note (R n) (R (n + 1)) ∧ st_change (R n) (R (n + 1)) ∧ st_tell (R n) (R (n + 1)) ∧ st_drill (R n) (R (n + 1)) ∧ st_pass (R n) (R (n + 1)) ∧ st_seat (R n) (R (n + 1)) ∧ st_knows (R n) (R (n + 1)) ∧ st_ofBand (R n) (R (n + 1)) ∧ st_leaps (R n) (R (n + 1)) ∧ st_part (R n) (R (n + 1)) ∧ st_without (R n) (R (n + 1)) ∧ st_perform (R n) (R (n + 1)) ∧ st_mark (R n) (R (n + 1)) ∧ st_score (R n) (R (n + 1)) ∧ st_rank (R n) (R (n + 1)) ∧ st_night (R n) (R (n + 1)) ∧ ∀ Z M, R n Z M → R (n + 1) Z M
