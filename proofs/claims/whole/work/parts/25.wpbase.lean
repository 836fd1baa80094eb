/-! WEAKEST PRECONDITIONS: what they are made of -/
def jqV (Q : JS → Prop) : Option Value → JS → Prop := fun v S => v = none ∧ Q S
def jqI (Q : Int32 → JS → Prop) : Option Value → JS → Prop := fun v S => ∃ x, v = some (.int x) ∧ Q x S
def jqL (Q : Int64 → JS → Prop) : Option Value → JS → Prop := fun v S => ∃ x, v = some (.long x) ∧ Q x S
def jqA (Q : Option Nat → JS → Prop) : Option Value → JS → Prop := fun v S => ∃ o, v = some (va_rf o) ∧ Q o S
/-- the least predicate that a loop's body closes; the prover gives an invariant and a measure -/
def jLoop {σ : Type} (F : (σ → Prop) → σ → Prop) (s : σ) : Prop := ∀ P : σ → Prop, (∀ (s : σ) (R : σ → Prop), F R s → (∀ s', R s' → P s') → P s) → P s
theorem jLoop.ind {σ : Type} {F : (σ → Prop) → σ → Prop} (I : σ → Prop) (μ : σ → Nat) (hs : ∀ s, I s → F (fun s' => I s' ∧ μ s' < μ s) s) {s : σ} (h : I s) : jLoop F s := by
  intro P hP
  have key : ∀ n s, μ s < n → I s → P s := by
    intro n
    induction n with
    | zero => intro s hn; exact absurd hn (Nat.not_lt_zero _)
    | succ n ih => intro s hn hI; exact hP s _ (hs s hI) (fun s' h' => ih s' (by omega) h'.1)
  exact key _ s (Nat.lt_succ_self _) h
/-- the same row of straight items, worked off eagerly -/
def jrn : List JIt → JL → List Value → JS → JO
  | [], lv, st, S => ([], lv, st, S)
  | t :: l, lv, st, S => match jx1 t lv st S with
    | (g, lv', st', S') => match jrn l lv' st' S' with
      | (gs, r) => (g ++ gs, r)
theorem jrn_eq : ∀ (l : List JIt) (gs : List Prop) (lv : JL) (st : List Value) (S : JS), jrun l gs lv st S = (gs ++ (jrn l lv st S).1, (jrn l lv st S).2)
  | [], gs, lv, st, S => by simp [jrun, jrn]
  | t :: l, gs, lv, st, S => by
    rw [jrun, jrn_eq l, jrn]
    simp only [List.append_assoc]
section JWP
variable {call : Nat → List Value → JS → (Option Value → JS → Prop) → Prop} {bud : Nat → Nat × Nat} {rk : Nat → Nat} {X : Option (Nat × (Nat → Int32))} {M : JM} {Q : Option Value → JS → Prop}
theorem jLf.bk (hc : jMono call) {i : Nat} {lv : JL} {st : List Value} {S : JS} {rc rs : Nat} (n : Nat) (gs : List Prop) (lv' : JL) (st' : List Value) (S' : JS) (hn : ((M.its.drop i).take n).length = n) (hs : ((M.its.drop i).take n).all jstr = true) (ho : jrn ((M.its.drop i).take n) lv st S = (gs, lv', st', S')) (hg : jall gs) (h : jLf call bud rk X M Q (i + n, lv', st', S', rc, rs)) : jLf call bud rk X M Q (i, lv, st, S, rc, rs) := by
  have e1 : jrun ((M.its.drop i).take n) [] lv st S = (gs, lv', st', S') := by rw [jrn_eq, ho]; rfl
  exact jLf.blk hc _ (gs, lv', st', S') rfl hn hs e1 hg h
end JWP
def jbud (k : Nat) : Nat × Nat := match k with
  | 0 => (2, 39)
  | 8 => (5, 1122)
  | 20 => (1, 540)
  | 26 => (5, 2000)
  | 235 => (1, 400)
  | 27 => (1, 12)
  | 31 => (8, 1650)
  | 33 => (6, 2006)
  | 58 => (1, 4320)
  | 70 => (5, 1740)
  | 80 => (3, 48)
  | 86 => (11, 182)
  | 95 => (2, 69)
  | 100 => (44, 9689)
  | 109 => (6, 2006)
  | 133 => (12, 194)
  | 147 => (23, 307255)
  | _ => (0, 0)
