/-! What holds at each turn of the law's loop. -/
def sy_J (v : Nat → Int32) (r : Nat → Nat → Int32) (nf na fi go : Nat) (co ne ad dr : Nat → Nat) (s np nd : Nat) (dd : Nat → Nat) (n0 : Nat) (o0 d0 : Nat → Nat) : Prop :=
  tk_C v r nf na fi go co ne ad dr ∧ tk_M v r nf na fi go co ne ad dr ∧ (∀ i, na ≤ i → ne i = 0 ∧ ad i = 0 ∧ dr i = 0) ∧ (s < 2 ^ nf ∧ v 9 = nI s ∧ v 15 = nI s) ∧ (np ≤ 1023 ∧ v 5 = nI np ∧ v 16 = nI np ∧ ∀ j, j < np → r 13 j = r 27 j) ∧ (nd ≤ 24 ∧ v 6 = nI nd ∧ v 17 = nI nd ∧ ∀ j, j < nd → r 15 j = nI (dd j) ∧ r 28 j = nI (dd j) ∧ dd j < na) ∧ sr_st v r n0 o0 d0
def sy_I (v : Nat → Int32) (r : Nat → Nat → Int32) : Prop := ∃ (nf na fi go : Nat) (co ne ad dr : Nat → Nat) (s np nd : Nat) (dd : Nat → Nat) (n0 : Nat) (o0 d0 : Nat → Nat), sy_J v r nf na fi go co ne ad dr s np nd dd n0 o0 d0
/-- what a call may change that no later answer shows -/
def sy_v (i : Nat) : Bool := i == 4 || i == 7 || i == 8 || i == 10 || i == 18 || i == 19
def sy_r (i : Nat) : Bool := i == 8 || i == 9 || i == 10 || i == 11 || i == 17 || i == 19 || i == 20 || i == 21 || i == 29 || i == 30 || i == 31 || i == 32 || i == 33
def sy_eq (v v' : Nat → Int32) (r r' : Nat → Nat → Int32) : Prop := (∀ i, sy_v i = false → v' i = v i) ∧ (∀ i, sy_r i = false → r' i = r i)
theorem sy_eq.trans {v v' v2 : Nat → Int32} {r r' r2 : Nat → Nat → Int32} (h : sy_eq v v' r r') (g : sy_eq v' v2 r' r2) : sy_eq v v2 r r2 := ⟨fun i hi => (g.1 i hi).trans (h.1 i hi), fun i hi => (g.2 i hi).trans (h.2 i hi)⟩
theorem sy_eq.refl (v : Nat → Int32) (r : Nat → Nat → Int32) : sy_eq v v r r := ⟨fun _ _ => rfl, fun _ _ => rfl⟩
theorem sy_eq.up (v : Nat → Int32) (r : Nat → Nat → Int32) {j : Nat} (x : Int32) (hj : sy_v j = true) : sy_eq v (upd v j x) r r := ⟨fun i hi => pk_un (fun e => by subst e; rw [hj] at hi; cases hi), fun _ _ => rfl⟩
theorem sr_keep {v v' : Nat → Int32} {r r' : Nat → Nat → Int32} {n : Nat} {o d : Nat → Nat} (h : sr_st v r n o d) (h4 : v' 4 = v 4) (h8 : r' 8 = r 8) (h9 : r' 9 = r 9) : sr_st v' r' n o d := by
  unfold sr_st at *
  rw [h4, h8, h9]
  exact h
section SY
variable {v v' : Nat → Int32} {r r' : Nat → Nat → Int32} {nf na fi go s np nd n0 : Nat} {co ne ad dr dd o0 d0 : Nat → Nat}
theorem sy_C (t : tk_C v r nf na fi go co ne ad dr) (S : sy_eq v v' r r') : tk_C v' r' nf na fi go co ne ad dr := t.fr (fun i hi => S.1 i (by match i, hi with | 0, _ => rfl | 1, _ => rfl | 2, _ => rfl | 3, _ => rfl)) (S.2 2 rfl) (S.2 4 rfl) (S.2 5 rfl) (S.2 6 rfl)
theorem sy_M (t : tk_M v r nf na fi go co ne ad dr) (S : sy_eq v v' r r') : tk_M v' r' nf na fi go co ne ad dr := tk_mfr t (S.1 11 rfl) (S.1 12 rfl) (S.1 13 rfl) (S.1 14 rfl) (S.2 23 rfl) (S.2 24 rfl) (S.2 25 rfl) (S.2 26 rfl)
theorem sy_keep {n1 : Nat} {o1 d1 : Nat → Nat} (J : sy_J v r nf na fi go co ne ad dr s np nd dd n0 o0 d0) (S : sy_eq v v' r r') (hs : sr_st v' r' n1 o1 d1) : sy_J v' r' nf na fi go co ne ad dr s np nd dd n1 o1 d1 := by
  obtain ⟨a, b, c, ⟨e1, e2, e3⟩, ⟨f1, f2, f3, f4⟩, ⟨g1, g2, g3, g4⟩, -⟩ := J
  refine ⟨sy_C a S, sy_M b S, c, ⟨e1, (S.1 9 rfl).trans e2, (S.1 15 rfl).trans e3⟩, ⟨f1, (S.1 5 rfl).trans f2, (S.1 16 rfl).trans f3, fun j hj => ?_⟩, ⟨g1, (S.1 6 rfl).trans g2, (S.1 17 rfl).trans g3, fun j hj => ?_⟩, hs⟩
  · rw [S.2 13 rfl, S.2 27 rfl]; exact f4 j hj
  · rw [S.2 15 rfl, S.2 28 rfl]; exact g4 j hj
end SY
def lw_post : Option Value → va_W → Prop := fun v _ => v = some (.int 1)
def lw_Y (U : State) : Prop := th_X U ∧ mn_Y U
/-- the walk of the law: the script of Ln ints xs at b -/
def lw_K (Zf : Nat → Nat → va_W → List (Option Value) → Nat → List Value → Prop) (l : Launch) (D : va_G) (k : Nat → ClassId) (b Ln : Nat) (xs : Nat → Int32) : Prop :=
  l.stackTraces = false ∧ zd_X Zf l D classes (wd_ty k) code 7 "CutPlannerLaw" gd_T room_1 (some .boolean) lw_post 601024 7293034 false none lw_Y ∧
    (∀ (nc ns : Nat) (ws : va_W) (L : List (Option Value)) (pc : Nat) (st : List Value) (j : Nat), decode code pc = .ok (.iaload, 1) → j < Ln → Zf nc ns ws L (pc + 1) (.int (xs j) :: st) → Zf nc ns ws L pc (.int (nI j) :: .ref b :: st)) ∧
    (∀ (nc ns : Nat) (ws : va_W) (L : List (Option Value)) (pc : Nat) (st : List Value), decode code pc = .ok (.arraylength, 1) → Zf nc ns ws L (pc + 1) (.int (nI Ln) :: st) → Zf nc ns ws L pc (.ref b :: st)) ∧ Ln ≤ 2048
def lw_G (Zf : Nat → Nat → va_W → List (Option Value) → Nat → List Value → Prop) (k : Nat → ClassId) (q : Nat → Nat) (o b nc ns i : Nat) : Prop :=
  ∀ (v : Nat → Int32) (r : Nat → Nat → Int32) (f : Nat → Int64) (L5 L6 : Option Value), sy_I v r → Zf (nc + 1) (ns + 6) (wd k q v r (ow k o f)) [some (.ref b), some (.ref (q 0)), some (.ref (q 22)), some (.ref o), some (.int (nI i)), L5, L6] 1010 []
