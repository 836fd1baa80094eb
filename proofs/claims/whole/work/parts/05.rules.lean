/-! THE RULES of the abstract machine -/
def jMono (call : Nat → List Value → JS → (Option Value → JS → Prop) → Prop) : Prop := ∀ k args S (Q Q' : Option Value → JS → Prop), (∀ v S, Q v S → Q' v S) → call k args S Q → call k args S Q'
section JR
variable {call : Nat → List Value → JS → (Option Value → JS → Prop) → Prop} {bud : Nat → Nat × Nat} {rk : Nat → Nat} {X : Option (Nat × (Nat → Int32))} {M : JM} {Q : Option Value → JS → Prop}
theorem jStep.mono (hc : jMono call) {Q' : Option Value → JS → Prop} {P P' : JC → Prop} (hQ : ∀ v S, Q v S → Q' v S) (hP : ∀ c, P c → P' c) {i : Nat} {lv : JL} {st : List Value} {S : JS} {rc rs : Nat} (h : jStep call bud rk X M Q P i lv st S rc rs) : jStep call bud rk X M Q' P' i lv st S rc rs := by
  obtain ⟨t, h1, h2, h3, h4, h5⟩ := h
  exact ⟨t, h1, h2, fun a ha hb => hP _ (h3 a ha hb), fun v hv => hQ _ _ (h4 v hv), fun k args r a b e => hc _ _ _ _ _ (fun v S' q => hP _ q) (h5 k args r a b e)⟩
theorem jLf.mono (hc : jMono call) {Q' : Option Value → JS → Prop} (hQ : ∀ v S, Q v S → Q' v S) {c : JC} (h : jLf call bud rk X M Q c) : jLf call bud rk X M Q' c := by
  intro P hP hL
  exact h P (fun i lv st S rc rs hs => hP _ _ _ _ _ _ (hs.mono hc hQ (fun _ q => q))) hL
theorem jLf.step (hc : jMono call) {i : Nat} {lv : JL} {st : List Value} {S : JS} {rc rs : Nat} (h : jStep call bud rk X M Q (jLf call bud rk X M Q) i lv st S rc rs) : jLf call bud rk X M Q (i, lv, st, S, rc, rs) := by
  intro P hP hL
  exact hP _ _ _ _ _ _ (h.mono hc (fun _ _ q => q) (fun c q => q P hP hL))
theorem jLf.sub {i : Nat} {lv : JL} (lv' : JL) {st : List Value} {S : JS} {rc rs : Nat} (hl : jle lv' lv) (h : jLf call bud rk X M Q (i, lv', st, S, rc, rs)) : jLf call bud rk X M Q (i, lv, st, S, rc, rs) := by
  intro P hP hL
  exact hL _ _ _ _ _ _ _ hl (h P hP hL)
theorem jCall_mono (mt : Nat → JM) (bud : Nat → Nat × Nat) : ∀ d, jMono (jCall mt bud d)
  | 0 => fun _ _ _ _ _ _ h => h
  | d + 1 => fun _ _ _ _ _ hQ h => ⟨h.1, jLf.mono (jCall_mono mt bud d) hQ h.2⟩
theorem jgd_nil : jgd [] := fun _ h => by cases h
theorem jgd_cons {p : Prop} {l : List Prop} (h : p) (hl : jgd l) : jgd (p :: l) := fun g hg => by
  rcases List.mem_cons.mp hg with e | e
  · rw [e]; exact h
  · exact hl g e
theorem jgd_all : ∀ {l : List Prop}, jall l → jgd l
  | [], _ => jgd_nil
  | [_], h => jgd_cons h jgd_nil
  | _ :: _ :: _, h => jgd_cons h.1 (jgd_all h.2)
theorem jgd_app {a b : List Prop} (h : jgd (a ++ b)) : jgd a ∧ jgd b := ⟨fun g hg => h g (List.mem_append_left _ hg), fun g hg => h g (List.mem_append_right _ hg)⟩
/-- a row of straight items -/
def jrun : List JIt → List Prop → JL → List Value → JS → JO
  | [], gs, lv, st, S => (gs, lv, st, S)
  | t :: l, gs, lv, st, S => jrun l (gs ++ (jx1 t lv st S).1) (jx1 t lv st S).2.1 (jx1 t lv st S).2.2.1 (jx1 t lv st S).2.2.2
theorem jrun_gs : ∀ (l : List JIt) (gs : List Prop) (lv : JL) (st : List Value) (S : JS), jgd (jrun l gs lv st S).1 → jgd gs
  | [], _, _, _, _, h => h
  | _ :: l, _, _, _, _, h => (jgd_app (jrun_gs l _ _ _ _ h)).1
theorem jOut_str {ret : Option FieldType} {t : JIt} (h : jstr t = true) (i : Nat) (lv : JL) (st : List Value) (S : JS) (rc rs : Nat) : jOut bud rk X ret t i lv st S rc rs = jBx (jx1 t lv st S) i rc rs := by
  unfold jstr at h
  unfold jOut
  split <;> simp_all
theorem jLf.run (hc : jMono call) : ∀ (l : List JIt) (i : Nat) (gs : List Prop) (lv : JL) (st : List Value) (S : JS) (rc rs : Nat), (M.its.drop i).take l.length = l → l.all jstr = true → jgd (jrun l gs lv st S).1 → jLf call bud rk X M Q (i + l.length, (jrun l gs lv st S).2.1, (jrun l gs lv st S).2.2.1, (jrun l gs lv st S).2.2.2, rc, rs) → jLf call bud rk X M Q (i, lv, st, S, rc, rs)
  | [], i, gs, lv, st, S, rc, rs, _, _, _, h => h
  | t :: l, i, gs, lv, st, S, rc, rs, ht, hs, hg, h => by
    have hs2 : jstr t = true ∧ l.all jstr = true := by simpa using hs
    have hd : (M.its.drop i)[0]? = some t := by
      have := congrArg (fun z => z[0]?) ht
      simpa using this
    have hi : M.its[i]? = some t := by simpa using hd
    have hl : (M.its.drop (i + 1)).take l.length = l := by
      have := congrArg (fun z => z.drop 1) ht
      simpa [List.drop_take, List.drop_drop, Nat.add_comm] using this
    refine jLf.step hc ⟨t, hi, ?_⟩
    rw [jOut_str hs2.1]
    have g2 : jgd (gs ++ (jx1 t lv st S).1) := jrun_gs l _ _ _ _ hg
    refine ⟨(jgd_app g2).2, fun a ha _ => ?_, fun v hv => (by cases hv), fun _ _ _ _ _ e => (by cases e)⟩
    have ha : a = (True, (i + 1, (jx1 t lv st S).2.1, (jx1 t lv st S).2.2.1, (jx1 t lv st S).2.2.2, rc, rs)) := by simpa [jBx] using ha
    rw [ha]
    refine jLf.run hc l (i + 1) _ _ _ _ rc rs hl hs2.2 hg ?_
    rw [show i + 1 + l.length = i + (t :: l).length by simp; omega]
    exact h
/-- n items from the i-th on -/
theorem jLf.blk (hc : jMono call) {i n : Nat} {lv : JL} {st : List Value} {S : JS} {rc rs : Nat} (l : List JIt) (o : JO) (hl : (M.its.drop i).take n = l) (hn : l.length = n) (hs : l.all jstr = true) (ho : jrun l [] lv st S = o) (hg : jall o.1) (h : jLf call bud rk X M Q (i + n, o.2.1, o.2.2.1, o.2.2.2, rc, rs)) : jLf call bud rk X M Q (i, lv, st, S, rc, rs) := by
  subst ho
  subst hn
  exact jLf.run hc l i [] lv st S rc rs hl hs (jgd_all hg) h
theorem jLf.br (hc : jMono call) {i : Nat} {lv : JL} {st : List Value} {S : JS} {rc rs : Nat} (t : JIt) (hi : M.its[i]? = some t) {c : Prop} {r : List Value} (ho : jOut bud rk X M.ret t i lv st S rc rs = ([], [(c, (t.a, lv, r, S, rc, rs)), (¬ c, (i + 1, lv, r, S, rc, rs))], none, none)) (h1 : c → jLf call bud rk X M Q (t.a, lv, r, S, rc, rs)) (h2 : ¬ c → jLf call bud rk X M Q (i + 1, lv, r, S, rc, rs)) : jLf call bud rk X M Q (i, lv, st, S, rc, rs) := by
  refine jLf.step hc ⟨t, hi, ?_⟩
  rw [ho]
  refine ⟨jgd_nil, fun a ha hb => ?_, fun v hv => (by cases hv), fun _ _ _ _ _ e => (by cases e)⟩
  simp only [List.mem_cons, List.not_mem_nil, or_false] at ha
  rcases ha with rfl | rfl
  · exact h1 hb
  · exact h2 hb
/-- any item that goes on to one place alone -/
theorem jLf.one (hc : jMono call) {i : Nat} {lv : JL} {st : List Value} {S : JS} {rc rs : Nat} (t : JIt) (hi : M.its[i]? = some t) {gs : List Prop} {c : JC} (ho : jOut bud rk X M.ret t i lv st S rc rs = (gs, [(True, c)], none, none)) (hg : jall gs) (h : jLf call bud rk X M Q c) : jLf call bud rk X M Q (i, lv, st, S, rc, rs) := by
  refine jLf.step hc ⟨t, hi, ?_⟩
  rw [ho]
  refine ⟨jgd_all hg, fun a ha hb => ?_, fun v hv => (by cases hv), fun _ _ _ _ _ e => (by cases e)⟩
  simp only [List.mem_cons, List.not_mem_nil, or_false] at ha
  rw [ha]
  exact h
/-- any item that forks -/
theorem jLf.two (hc : jMono call) {i : Nat} {lv : JL} {st : List Value} {S : JS} {rc rs : Nat} (t : JIt) (hi : M.its[i]? = some t) {gs : List Prop} {p1 p2 : Prop} {c1 c2 : JC} (ho : jOut bud rk X M.ret t i lv st S rc rs = (gs, [(p1, c1), (p2, c2)], none, none)) (hg : jall gs) (h1 : p1 → jLf call bud rk X M Q c1) (h2 : p2 → jLf call bud rk X M Q c2) : jLf call bud rk X M Q (i, lv, st, S, rc, rs) := by
  refine jLf.step hc ⟨t, hi, ?_⟩
  rw [ho]
  refine ⟨jgd_all hg, fun a ha hb => ?_, fun v hv => (by cases hv), fun _ _ _ _ _ e => (by cases e)⟩
  simp only [List.mem_cons, List.not_mem_nil, or_false] at ha
  rcases ha with rfl | rfl
  · exact h1 hb
  · exact h2 hb
def jsw (x : Int32) (call : Nat → List Value → JS → (Option Value → JS → Prop) → Prop) (bud : Nat → Nat × Nat) (rk : Nat → Nat) (X : Option (Nat × (Nat → Int32))) (M : JM) (Q : Option Value → JS → Prop) (lv : JL) (r : List Value) (S : JS) (rc rs d : Nat) : List (Int32 × Nat) → Prop
  | [] => jLf call bud rk X M Q (d, lv, r, S, rc, rs)
  | q :: l => (x = q.1 → jLf call bud rk X M Q (q.2, lv, r, S, rc, rs)) ∧ (¬ x = q.1 → jsw x call bud rk X M Q lv r S rc rs d l)
theorem jsw_spec {x : Int32} {lv : JL} {r : List Value} {S : JS} {rc rs d : Nat} : ∀ {l : List (Int32 × Nat)}, jsw x call bud rk X M Q lv r S rc rs d l → (∀ q ∈ l, x = q.1 → jLf call bud rk X M Q (q.2, lv, r, S, rc, rs)) ∨ True
  | _, _ => Or.inr trivial
theorem jLf.sw (hc : jMono call) {i : Nat} {lv : JL} {r : List Value} {S : JS} {rc rs : Nat} {x : Int32} (t : JIt) (hi : M.its[i]? = some t) (ho : jOut bud rk X M.ret t i lv (.int x :: r) S rc rs = jBs t lv (.int x :: r) S rc rs) (hd : ((t.tl.map fun q => q.1).Nodup)) (h : jsw x call bud rk X M Q lv r S rc rs t.a t.tl) : jLf call bud rk X M Q (i, lv, .int x :: r, S, rc, rs) := by
  refine jLf.step hc ⟨t, hi, ?_⟩
  rw [ho]
  have key : ∀ (l : List (Int32 × Nat)), (l.map fun q => q.1).Nodup → jsw x call bud rk X M Q lv r S rc rs t.a l → (∀ q ∈ l, x = q.1 → jLf call bud rk X M Q (q.2, lv, r, S, rc, rs)) ∧ ((∀ q ∈ l, ¬ x = q.1) → jLf call bud rk X M Q (t.a, lv, r, S, rc, rs)) := by
    intro l
    induction l with
    | nil => intro _ h; exact ⟨fun q hq => (by cases hq), fun _ => h⟩
    | cons p l ih =>
      intro hn h
      have hn2 : (∀ q ∈ l, ¬ q.1 = p.1) ∧ (l.map fun q => q.1).Nodup := by
        have := List.nodup_cons.mp hn
        refine ⟨fun q hq e => this.1 ?_, this.2⟩
        show p.1 ∈ _
        rw [← e]
        exact List.mem_map_of_mem (f := fun q : Int32 × Nat => q.1) hq
      refine ⟨fun q hq e => ?_, fun hall => ?_⟩
      · rcases List.mem_cons.mp hq with rfl | hq
        · exact h.1 e
        · have hx : ¬ x = p.1 := fun z => hn2.1 q hq (by rw [← e, z])
          exact (ih hn2.2 (h.2 hx)).1 q hq e
      · have hx := hall p List.mem_cons_self
        exact (ih hn2.2 (h.2 hx)).2 fun q hq => hall q (List.mem_cons_of_mem _ hq)
  obtain ⟨k1, k2⟩ := key _ hd h
  refine ⟨jgd_nil, fun a ha hb => ?_, fun v hv => (by cases hv), fun _ _ _ _ _ e => (by cases e)⟩
  simp only [jBs, List.mem_append, List.mem_map, List.mem_cons, List.not_mem_nil, or_false] at ha
  rcases ha with ⟨q, hq, rfl⟩ | rfl
  · exact k1 q hq hb
  · exact k2 hb
theorem jLf.ret (hc : jMono call) {i : Nat} {lv : JL} {st : List Value} {S : JS} {rc rs : Nat} (t : JIt) (hi : M.its[i]? = some t) {gs : List Prop} {v : Option Value} (ho : jOut bud rk X M.ret t i lv st S rc rs = (gs, [], some v, none)) (hg : jall gs) (h : Q v S) : jLf call bud rk X M Q (i, lv, st, S, rc, rs) := by
  refine jLf.step hc ⟨t, hi, ?_⟩
  rw [ho]
  exact ⟨jgd_all hg, fun a ha => (by cases ha), fun v' hv => (by cases hv; exact h), fun _ _ _ _ _ e => (by cases e)⟩
theorem jLf.inv (hc : jMono call) {i : Nat} {lv : JL} {st : List Value} {S : JS} {rc rs : Nat} (t : JIt) (hi : M.its[i]? = some t) {gs : List Prop} {k : Nat} {args r : List Value} {a b : Nat} (ho : jOut bud rk X M.ret t i lv st S rc rs = (gs, [], none, some (k, args, r, a, b))) (hg : jall gs) {Q0 : Option Value → JS → Prop} (h : call k args S Q0) (h2 : ∀ v S', Q0 v S' → jLf call bud rk X M Q (i + 1, lv, v.toList ++ r, S', a, b)) : jLf call bud rk X M Q (i, lv, st, S, rc, rs) := by
  refine jLf.step hc ⟨t, hi, ?_⟩
  rw [ho]
  refine ⟨jgd_all hg, fun a ha => (by cases ha), fun v' hv => (by cases hv), fun k' args' r' a' b' e => ?_⟩
  cases e
  exact hc _ _ _ _ _ h2 h
theorem jle_nil (b : JL) : jle [] b := fun i v h => by simp at h
theorem jle_none {a b : JL} {x : Option Value} (h : jle a b) : jle (none :: a) (x :: b) := fun i v hi => by
  cases i with
  | zero => simp at hi
  | succ i => simpa using h i v (by simpa using hi)
theorem jle_same {a b : JL} {x : Option Value} (h : jle a b) : jle (x :: a) (x :: b) := fun i v hi => by
  cases i with
  | zero => exact hi
  | succ i => simpa using h i v (by simpa using hi)
theorem jle_refl (a : JL) : jle a a := fun _ _ h => h
end JR
