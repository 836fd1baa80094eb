/-! WHAT CODE DENOTES: both layouts of a law's code, by closure of any predicate under their steps -/
def rkF (o : Int32) (a b : Int64) : Int64 := if o = 20 then a + b else if o = 21 then a - b else if o = 22 then a * b else if o = 23 then (if b = 0 then 0 else a / b) else if o = 24 then (if a < b then 1 else 0) else if o = 25 then (if b < a then 1 else 0) else (if a = b then 1 else 0)
def rkBad (o : Int32) (a b : Int64) : Prop := (o = 23 ∧ b = 0) ∨ ¬ (-1000000000 ≤ rkF o a b ∧ rkF o a b ≤ 1000000000)
def rkOp (o : Int32) (a b : Int64) : Option Int64 := if (o = 23 ∧ b = 0) ∨ ¬ (-1000000000 ≤ rkF o a b ∧ rkF o a b ≤ 1000000000) then none else some (rkF o a b)
abbrev JF : Type := (Nat → Int64) → Option Int64
def fNum (v : Int64) : JF := fun _ => some v
def fWord (k : Nat) : JF := fun env => some (env k)
def fBin (o : Int32) (f g : JF) : JF := fun env => (f env).bind fun a => (g env).bind fun b => rkOp o a b
def fNot (f : JF) : JF := fun env => (f env).map fun a => 1 - a
def fAnd (f g : JF) : JF := fun env => (f env).bind fun a => if a = 0 then some a else g env
def fOr (f g : JF) : JF := fun env => (f env).bind fun a => if a = 1 then some a else g env
/-- the model's steps -/
def mCl (op arg : Nat → Int32) (env : Nat → Int64) (last : Nat) (B : Prop) (P : Nat → List Int64 → Prop) : Prop :=
  (∀ k st, k < last → op k = 0 → P (k + 1) ((arg k).toInt64 :: st) → P k st) ∧
  (∀ k st, k < last → 0 < op k → op k < 7 → P (k + 1) (env (op k).toNatClampNeg :: st) → P k st) ∧
  (∀ k a b st, k < last → 20 ≤ op k → op k < 27 → (rkOp (op k) a b = none → B) → (∀ v, rkOp (op k) a b = some v → P (k + 1) (v :: st)) → P k (b :: a :: st)) ∧
  (∀ k a st, k < last → op k = 27 → P (k + 1) ((1 - a) :: st) → P k (a :: st)) ∧
  (∀ k a j st, k < last → op k = 28 → arg k = nI j → k < j → j ≤ last → (a = 0 → P j (a :: st)) → (¬ a = 0 → P (k + 1) st) → P k (a :: st)) ∧
  (∀ k a j st, k < last → op k = 29 → arg k = nI j → k < j → j ≤ last → (a = 1 → P j (a :: st)) → (¬ a = 1 → P (k + 1) st) → P k (a :: st))
def mD (op arg : Nat → Int32) (a b : Nat) (f : JF) : Prop := a ≤ b ∧ ∀ env last B P st, b ≤ last → mCl op arg env last B P → (f env = none → B) → (∀ v, f env = some v → P b (v :: st)) → P a st
section MD
variable {op arg : Nat → Int32} {a b c : Nat} {f g : JF}
theorem mD_num (h : op a = 0) : mD op arg a (a + 1) (fNum (arg a).toInt64) := ⟨by omega, fun env last B P st hl hc _ hv => hc.1 a st (by omega) h (hv _ rfl)⟩
theorem mD_word (h : 0 < op a) (h2 : op a < 7) : mD op arg a (a + 1) (fWord (op a).toNatClampNeg) := ⟨by omega, fun env last B P st hl hc _ hv => hc.2.1 a st (by omega) h h2 (hv _ rfl)⟩
theorem mD_bin (hf : mD op arg a b f) (hg : mD op arg b c g) (h1 : 20 ≤ op c) (h2 : op c < 27) : mD op arg a (c + 1) (fBin (op c) f g) := by
  refine ⟨by have := hf.1; have := hg.1; omega, fun env last B P st hl hc hn hv => ?_⟩
  have q1 := hf.1; have q2 := hg.1
  refine hf.2 env last B P st (by omega) hc (fun e => hn (by simp [fBin, e])) (fun x ex => ?_)
  refine hg.2 env last B P (x :: st) (by omega) hc (fun e => hn (by simp [fBin, e, ex])) (fun y ey => ?_)
  refine hc.2.2.1 c x y st (by omega) h1 h2 (fun e => hn (by simp [fBin, ex, ey, e])) (fun v ev => hv v (by simp [fBin, ex, ey, ev]))
theorem mD_not (hf : mD op arg a b f) (h : op b = 27) : mD op arg a (b + 1) (fNot f) := by
  have q1 := hf.1
  refine ⟨by omega, fun env last B P st hl hc hn hv => ?_⟩
  refine hf.2 env last B P st (by omega) hc (fun e => hn (by simp [fNot, e])) (fun x ex => ?_)
  exact hc.2.2.2.1 b x st (by omega) h (hv _ (by simp [fNot, ex]))
theorem mD_and (hf : mD op arg a b f) (h : op b = 28) (ha : arg b = nI c) (hg : mD op arg (b + 1) c g) : mD op arg a c (fAnd f g) := by
  have q1 := hf.1; have q2 := hg.1
  refine ⟨by omega, fun env last B P st hl hc hn hv => ?_⟩
  refine hf.2 env last B P st (by omega) hc (fun e => hn (by simp [fAnd, e])) (fun x ex => ?_)
  refine hc.2.2.2.2.1 b x c st (by omega) h ha (by omega) hl (fun e => hv _ (by simp [fAnd, ex, e])) (fun e => ?_)
  exact hg.2 env last B P st hl hc (fun e2 => hn (by simp [fAnd, ex, e, e2])) (fun v ev => hv v (by simp [fAnd, ex, e, ev]))
theorem mD_or (hf : mD op arg a b f) (h : op b = 29) (ha : arg b = nI c) (hg : mD op arg (b + 1) c g) : mD op arg a c (fOr f g) := by
  have q1 := hf.1; have q2 := hg.1
  refine ⟨by omega, fun env last B P st hl hc hn hv => ?_⟩
  refine hf.2 env last B P st (by omega) hc (fun e => hn (by simp [fOr, e])) (fun x ex => ?_)
  refine hc.2.2.2.2.2 b x c st (by omega) h ha (by omega) hl (fun e => hv _ (by simp [fOr, ex, e])) (fun e => ?_)
  exact hg.2 env last B P st hl hc (fun e2 => hn (by simp [fOr, ex, e, e2])) (fun v ev => hv v (by simp [fOr, ex, e, ev]))
theorem mD_congr {op' arg' : Nat → Int32} (hf : mD op arg a b f) (h : ∀ k, a ≤ k → k < b → op' k = op k ∧ arg' k = arg k) : mD op' arg' a b f := by
  refine ⟨hf.1, fun env last B P st hl hc hn hv => ?_⟩
  obtain ⟨c1, c2, c3, c4, c5, c6⟩ := hc
  have key := hf.2 env b B (fun k st => a ≤ k → P k st) st (Nat.le_refl _) ⟨?_, ?_, ?_, ?_, ?_, ?_⟩ hn (fun v ev _ => hv v ev)
  · exact key (Nat.le_refl _)
  · intro k st hk ho hp ha; obtain ⟨e1, e2⟩ := h k ha hk; exact c1 k st (by omega) (e1.trans ho) (e2 ▸ hp (by omega))
  · intro k st hk ho ho2 hp ha; obtain ⟨e1, e2⟩ := h k ha hk; rw [← e1] at ho ho2 hp; exact c2 k st (by omega) ho ho2 (hp (by omega))
  · intro k x y st hk ho ho2 hb hp ha; obtain ⟨e1, e2⟩ := h k ha hk; rw [← e1] at ho ho2 hb hp; exact c3 k x y st (by omega) ho ho2 hb (fun v ev => hp v ev (by omega))
  · intro k x st hk ho hp ha; obtain ⟨e1, e2⟩ := h k ha hk; exact c4 k x st (by omega) (e1.trans ho) (hp (by omega))
  · intro k x j st hk ho hj h1 h2 hp hq ha; obtain ⟨e1, e2⟩ := h k ha hk; exact c5 k x j st (by omega) (e1.trans ho) (e2.trans hj) h1 (by omega) (fun e => hp e (by omega)) (fun e => hq e (by omega))
  · intro k x j st hk ho hj h1 h2 hp hq ha; obtain ⟨e1, e2⟩ := h k ha hk; exact c6 k x j st (by omega) (e1.trans ho) (e2.trans hj) h1 (by omega) (fun e => hp e (by omega)) (fun e => hq e (by omega))
end MD
/-- the class's steps -/
def cSg (w : Int32) : Int32 := w &&& 31
def cWt (w : Int32) : Int32 := jushr w 5
def cCl (code : Nat → Int32) (env : Nat → Int64) (last : Nat) (B : Prop) (P : Nat → List Int64 → Prop) : Prop :=
  (∀ k st, k < last → cSg (code k) = 0 → st.length < 31 → P (k + 1) ((cWt (code k)).toInt64 :: st) → P k st) ∧
  (∀ k st, k < last → 0 < cSg (code k) → cSg (code k) ≤ 6 → st.length < 31 → P (k + 1) (env (cSg (code k)).toNatClampNeg :: st) → P k st) ∧
  (∀ k a b st, k < last → 7 ≤ cSg (code k) → cSg (code k) ≤ 13 → (rkOp (cSg (code k) + 13) a b = none → B) → (∀ v, rkOp (cSg (code k) + 13) a b = some v → P (k + 1) (v :: st)) → P k (b :: a :: st)) ∧
  (∀ k a st, k < last → cSg (code k) = 14 → P (k + 1) ((1 - a) :: st) → P k (a :: st)) ∧
  (∀ k a j st, k < last → cSg (code k) = 16 → cWt (code k) = nI j → k < j → j ≤ last → (a = 0 → P j (a :: st)) → (¬ a = 0 → P (k + 1) st) → P k (a :: st)) ∧
  (∀ k a j st, k < last → cSg (code k) = 15 → cWt (code k) = nI j → k < j → j ≤ last → (a = 1 → P j (a :: st)) → (¬ a = 1 → P (k + 1) st) → P k (a :: st))
def cD (code : Nat → Int32) (m a b : Nat) (f : JF) : Prop := a ≤ b ∧ ∀ env last B P st, b ≤ last → st.length + m ≤ 31 → cCl code env last B P → (f env = none → B) → (∀ v, f env = some v → P b (v :: st)) → P a st
section CD
variable {code : Nat → Int32} {a b c m m' : Nat} {f g : JF}
theorem cD_le (h : cD code m a b f) (q : m ≤ m') : cD code m' a b f := ⟨h.1, fun env last B P st hl hm => h.2 env last B P st hl (by omega)⟩
theorem cD_num (h : cSg (code a) = 0) : cD code 1 a (a + 1) (fNum (cWt (code a)).toInt64) := ⟨by omega, fun env last B P st hl hm hc _ hv => hc.1 a st (by omega) h (by omega) (hv _ rfl)⟩
theorem cD_word (h : 0 < cSg (code a)) (h2 : cSg (code a) ≤ 6) : cD code 1 a (a + 1) (fWord (cSg (code a)).toNatClampNeg) := ⟨by omega, fun env last B P st hl hm hc _ hv => hc.2.1 a st (by omega) h h2 (by omega) (hv _ rfl)⟩
theorem cD_bin (hf : cD code (m + 1) a b f) (hg : cD code m b c g) (h1 : 7 ≤ cSg (code c)) (h2 : cSg (code c) ≤ 13) : cD code (m + 1) a (c + 1) (fBin (cSg (code c) + 13) f g) := by
  have q1 := hf.1; have q2 := hg.1
  refine ⟨by omega, fun env last B P st hl hm hc hn hv => ?_⟩
  refine hf.2 env last B P st (by omega) (by omega) hc (fun e => hn (by simp [fBin, e])) (fun x ex => ?_)
  refine hg.2 env last B P (x :: st) (by omega) (by simp only [List.length_cons]; omega) hc (fun e => hn (by simp [fBin, e, ex])) (fun y ey => ?_)
  refine hc.2.2.1 c x y st (by omega) h1 h2 (fun e => hn (by simp [fBin, ex, ey, e])) (fun v ev => hv v (by simp [fBin, ex, ey, ev]))
theorem cD_not (hf : cD code m a b f) (h : cSg (code b) = 14) : cD code m a (b + 1) (fNot f) := by
  have q1 := hf.1
  refine ⟨by omega, fun env last B P st hl hm hc hn hv => ?_⟩
  refine hf.2 env last B P st (by omega) (by omega) hc (fun e => hn (by simp [fNot, e])) (fun x ex => ?_)
  exact hc.2.2.2.1 b x st (by omega) h (hv _ (by simp [fNot, ex]))
theorem cD_and (hf : cD code m a b f) (h : cSg (code b) = 16) (ha : cWt (code b) = nI c) (hg : cD code m (b + 1) c g) : cD code m a c (fAnd f g) := by
  have q1 := hf.1; have q2 := hg.1
  refine ⟨by omega, fun env last B P st hl hm hc hn hv => ?_⟩
  refine hf.2 env last B P st (by omega) hm hc (fun e => hn (by simp [fAnd, e])) (fun x ex => ?_)
  refine hc.2.2.2.2.1 b x c st (by omega) h ha (by omega) hl (fun e => hv _ (by simp [fAnd, ex, e])) (fun e => ?_)
  exact hg.2 env last B P st hl hm hc (fun e2 => hn (by simp [fAnd, ex, e, e2])) (fun v ev => hv v (by simp [fAnd, ex, e, ev]))
theorem cD_or (hf : cD code m a b f) (h : cSg (code b) = 15) (ha : cWt (code b) = nI c) (hg : cD code m (b + 1) c g) : cD code m a c (fOr f g) := by
  have q1 := hf.1; have q2 := hg.1
  refine ⟨by omega, fun env last B P st hl hm hc hn hv => ?_⟩
  refine hf.2 env last B P st (by omega) hm hc (fun e => hn (by simp [fOr, e])) (fun x ex => ?_)
  refine hc.2.2.2.2.2 b x c st (by omega) h ha (by omega) hl (fun e => hv _ (by simp [fOr, ex, e])) (fun e => ?_)
  exact hg.2 env last B P st hl hm hc (fun e2 => hn (by simp [fOr, ex, e, e2])) (fun v ev => hv v (by simp [fOr, ex, e, ev]))
theorem cD_congr {code' : Nat → Int32} (hf : cD code m a b f) (h : ∀ k, a ≤ k → k < b → code' k = code k) : cD code' m a b f := by
  refine ⟨hf.1, fun env last B P st hl hm hc hn hv => ?_⟩
  obtain ⟨c1, c2, c3, c4, c5, c6⟩ := hc
  have key := hf.2 env b B (fun k st => a ≤ k → P k st) st (Nat.le_refl _) hm ⟨?_, ?_, ?_, ?_, ?_, ?_⟩ hn (fun v ev _ => hv v ev)
  · exact key (Nat.le_refl _)
  · intro k st hk ho hn hp ha; have e := h k ha hk; rw [← e] at ho hp; exact c1 k st (by omega) ho hn (hp (by omega))
  · intro k st hk ho ho2 hn hp ha; have e := h k ha hk; rw [← e] at ho ho2 hp; exact c2 k st (by omega) ho ho2 hn (hp (by omega))
  · intro k x y st hk ho ho2 hb hp ha; have e := h k ha hk; rw [← e] at ho ho2 hb hp; exact c3 k x y st (by omega) ho ho2 hb (fun v ev => hp v ev (by omega))
  · intro k x st hk ho hp ha; have e := h k ha hk; rw [← e] at ho; exact c4 k x st (by omega) ho (hp (by omega))
  · intro k x j st hk ho hj h1 h2 hp hq ha; have e := h k ha hk; rw [← e] at ho hj; exact c5 k x j st (by omega) ho hj h1 (by omega) (fun e => hp e (by omega)) (fun e => hq e (by omega))
  · intro k x j st hk ho hj h1 h2 hp hq ha; have e := h k ha hk; rw [← e] at ho hj; exact c6 k x j st (by omega) ho hj h1 (by omega) (fun e => hp e (by omega)) (fun e => hq e (by omega))
end CD
/-! values -/
def fB (f : JF) : Prop := ∀ env, (∀ k, -1000 ≤ env k ∧ env k ≤ 1000) → ∀ v, f env = some v → -1000000000 ≤ v ∧ v ≤ 1000000000
def fZ (f : JF) : Prop := ∀ env v, f env = some v → v = 0 ∨ v = 1
theorem fNot_not {f : JF} : fNot (fNot f) = f := by
  funext env; unfold fNot; cases f env with
  | none => rfl
  | some v => simp only [Option.map_some]; congr 1; lia
theorem fB_bin {o : Int32} {f g : JF} : fB (fBin o f g) := by
  intro env _ v h
  unfold fBin at h
  cases e1 : f env with
  | none => simp [e1] at h
  | some x => cases e2 : g env with
    | none => simp [e1, e2] at h
    | some y =>
      simp only [e1, e2, Option.bind_some, rkOp] at h
      split at h
      · cases h
      · rename_i q; cases h; exact Classical.not_not.mp (fun z => q (Or.inr z))
theorem fB_word {k : Nat} : fB (fWord k) := by
  intro env he v h; have := he k; simp only [fWord, Option.some.injEq] at h; subst h; lia
theorem fB_num {v : Int64} (h1 : 0 ≤ v) (h2 : v ≤ 1000) : fB (fNum v) := by
  intro env he x h; simp only [fNum, Option.some.injEq] at h; subst h; lia
theorem fZ_not {f : JF} (h : fZ f) : fZ (fNot f) := by
  intro env v e; unfold fNot at e
  cases e1 : f env with
  | none => simp [e1] at e
  | some x => simp only [e1, Option.map_some, Option.some.injEq] at e; rcases h env x e1 with q | q <;> subst q <;> subst e <;> decide
theorem fZ_and {f g : JF} (hf : fZ f) (hg : fZ g) : fZ (fAnd f g) := by
  intro env v e; unfold fAnd at e
  cases e1 : f env with
  | none => simp [e1] at e
  | some x =>
    simp only [e1, Option.bind_some] at e
    split at e
    · cases e; exact hf env _ e1
    · exact hg env v e
theorem fZ_or {f g : JF} (hf : fZ f) (hg : fZ g) : fZ (fOr f g) := by
  intro env v e; unfold fOr at e
  cases e1 : f env with
  | none => simp [e1] at e
  | some x =>
    simp only [e1, Option.bind_some] at e
    split at e
    · cases e; exact hf env _ e1
    · exact hg env v e
theorem fZ_cmp {o : Int32} {f g : JF} (h1 : 24 ≤ o) (h2 : o ≤ 26) : fZ (fBin o f g) := by
  intro env v h
  unfold fBin at h
  cases e1 : f env with
  | none => simp [e1] at h
  | some x => cases e2 : g env with
    | none => simp [e1, e2] at h
    | some y =>
      simp only [e1, e2, Option.bind_some, rkOp] at h
      split at h
      · cases h
      · cases h; unfold rkF
        rw [if_neg (by lia), if_neg (by lia), if_neg (by lia), if_neg (by lia)]
        split
        · split <;> simp
        · split
          · split
            · exact Or.inr rfl
            · exact Or.inl rfl
          · split
            · exact Or.inr rfl
            · exact Or.inl rfl
/-! the model's code, reckoned -/
def mEv (op arg : Nat → Int32) (env : Nat → Int64) (last : Nat) : Nat → Nat → List Int64 → Option Int64
  | 0, _, st => some (st.headD 0)
  | n + 1, k, st =>
    if k < last then
      (if op k = 0 then mEv op arg env last n (k + 1) ((arg k).toInt64 :: st)
      else if op k < 20 then mEv op arg env last n (k + 1) (env (op k).toNatClampNeg :: st)
      else if op k < 27 then (rkOp (op k) (st.tail.headD 0) (st.headD 0)).bind fun v => mEv op arg env last n (k + 1) (v :: st.tail.tail)
      else if op k = 27 then mEv op arg env last n (k + 1) ((1 - st.headD 0) :: st.tail)
      else if op k = 28 then (if st.headD 0 = 0 then mEv op arg env last n (arg k).toNatClampNeg st else mEv op arg env last n (k + 1) st.tail)
      else (if st.headD 0 = 1 then mEv op arg env last n (arg k).toNatClampNeg st else mEv op arg env last n (k + 1) st.tail))
    else some (st.headD 0)
theorem mD_ev {op arg : Nat → Int32} {a b : Nat} {f : JF} {env : Nat → Int64} (h : mD op arg a b f) (hb : b < 1000000) : mEv op arg env b (b - a) a [] = f env := by
  have key := h.2 env b (f env = none) (fun k st => ∀ n, b - k ≤ n → mEv op arg env b n k st = f env) [] (Nat.le_refl _) ⟨?_, ?_, ?_, ?_, ?_, ?_⟩ id ?_
  · exact key _ (Nat.le_refl _)
  · intro k st hk ho hp n hn
    obtain ⟨n, rfl⟩ : ∃ m, n = m + 1 := ⟨n - 1, by omega⟩
    rw [mEv, if_pos hk, if_pos ho]; exact hp n (by omega)
  · intro k st hk ho ho2 hp n hn
    obtain ⟨n, rfl⟩ : ∃ m, n = m + 1 := ⟨n - 1, by omega⟩
    rw [mEv, if_pos hk, if_neg (by lia), if_pos (by lia)]; exact hp n (by omega)
  · intro k x y st hk ho ho2 hbd hp n hn
    obtain ⟨n, rfl⟩ : ∃ m, n = m + 1 := ⟨n - 1, by omega⟩
    rw [mEv, if_pos hk, if_neg (by lia), if_neg (by lia), if_pos ho2]
    simp only [List.tail_cons, List.headD_cons]
    cases e : rkOp (op k) x y with
    | none => rw [hbd e]; rfl
    | some v => exact hp v e n (by omega)
  · intro k x st hk ho hp n hn
    obtain ⟨n, rfl⟩ : ∃ m, n = m + 1 := ⟨n - 1, by omega⟩
    rw [mEv, if_pos hk, if_neg (by lia), if_neg (by lia), if_neg (by lia), if_pos ho]; exact hp n (by omega)
  · intro k x j st hk ho hj h1 h2 hp hq n hn
    obtain ⟨n, rfl⟩ : ∃ m, n = m + 1 := ⟨n - 1, by omega⟩
    rw [mEv, if_pos hk, if_neg (by lia), if_neg (by lia), if_neg (by lia), if_neg (by lia), if_pos ho]
    by_cases e : x = 0
    · rw [if_pos (show (x :: st).headD 0 = 0 from e), hj, nI_tn (by omega)]; exact hp e n (by omega)
    · rw [if_neg (show ¬ (x :: st).headD 0 = 0 from e)]; exact hq e n (by omega)
  · intro k x j st hk ho hj h1 h2 hp hq n hn
    obtain ⟨n, rfl⟩ : ∃ m, n = m + 1 := ⟨n - 1, by omega⟩
    rw [mEv, if_pos hk, if_neg (by lia), if_neg (by lia), if_neg (by lia), if_neg (by lia), if_neg (by lia)]
    by_cases e : x = 1
    · rw [if_pos (show (x :: st).headD 0 = 1 from e), hj, nI_tn (by omega)]; exact hp e n (by omega)
    · rw [if_neg (show ¬ (x :: st).headD 0 = 1 from e)]; exact hq e n (by omega)
  · intro v ev n hn
    cases n with
    | zero => rw [mEv, ev]; rfl
    | succ n => rw [mEv, if_neg (by omega), ev]; rfl
