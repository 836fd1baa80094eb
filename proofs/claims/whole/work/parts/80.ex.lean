/-! HEAPS THAT GROW -/
def jEx (PI PR : Nat → Prop) (S S' : JS) : Prop := jN S ≤ jN S' ∧ ∀ h, h < jN S → (jK S' h = jK S h ∧ jZ S' h = jZ S h) ∧ (¬ PI h → jI S' h = jI S h ∧ jJ S' h = jJ S h) ∧ (¬ PR h → jR S' h = jR S h)
section EX
variable {PI PR PI' PR' : Nat → Prop} {S S1 S2 : JS}
theorem jEx.refl : jEx PI PR S S := ⟨Nat.le_refl _, fun _ _ => ⟨⟨rfl, rfl⟩, fun _ => ⟨rfl, rfl⟩, fun _ => rfl⟩⟩
theorem jEx.N (f : jEx PI PR S S1) : jN S ≤ jN S1 := f.1
theorem jEx.K (f : jEx PI PR S S1) {h : Nat} (hh : h < jN S) : jK S1 h = jK S h := (f.2 h hh).1.1
theorem jEx.Z (f : jEx PI PR S S1) {h : Nat} (hh : h < jN S) : jZ S1 h = jZ S h := (f.2 h hh).1.2
theorem jEx.I (f : jEx PI PR S S1) {h : Nat} (hh : h < jN S) (q : ¬ PI h) : jI S1 h = jI S h := ((f.2 h hh).2.1 q).1
theorem jEx.J (f : jEx PI PR S S1) {h : Nat} (hh : h < jN S) (q : ¬ PI h) : jJ S1 h = jJ S h := ((f.2 h hh).2.1 q).2
theorem jEx.R (f : jEx PI PR S S1) {h : Nat} (hh : h < jN S) (q : ¬ PR h) : jR S1 h = jR S h := (f.2 h hh).2.2 q
theorem jEx.A (f : jEx PI PR S S1) {h k : Nat} (q : jA S h k) : jA S1 h k := ⟨Nat.lt_of_lt_of_le q.1 f.1, (f.K q.1).trans q.2⟩
theorem jEx.mono (f : jEx PI PR S S1) (q : ∀ h, h < jN S → PI h → PI' h) (r : ∀ h, h < jN S → PR h → PR' h) : jEx PI' PR' S S1 := ⟨f.1, fun h hh => ⟨(f.2 h hh).1, fun z => (f.2 h hh).2.1 (fun y => z (q h hh y)), fun z => (f.2 h hh).2.2 (fun y => z (r h hh y))⟩⟩
theorem jEx.tr (f : jEx PI PR S S1) (g : jEx PI PR S1 S2) : jEx PI PR S S2 := ⟨Nat.le_trans f.1 g.1, fun h hh => by
  have h1 := Nat.lt_of_lt_of_le hh f.1
  exact ⟨⟨(g.K h1).trans (f.K hh), (g.Z h1).trans (f.Z hh)⟩, fun z => ⟨(g.I h1 z).trans (f.I hh z), (g.J h1 z).trans (f.J hh z)⟩, fun z => (g.R h1 z).trans (f.R hh z)⟩⟩
theorem jEx.of {H : List Nat} (f : jFr H S S1) (q : ∀ h ∈ H, PI h) : jEx PI PR S S1 := ⟨Nat.le_of_eq f.N.symm, fun h _ => ⟨⟨by rw [f.K], by rw [f.Z]⟩, fun z => ⟨f.I h (fun y => z (q h y)), f.J h (fun y => z (q h y))⟩, fun _ => by rw [f.R]⟩⟩
theorem jN_uNew {k z : Nat} : jN (uNew S k z) = jN S + 1 := rfl
theorem jK_uNew {k z h : Nat} : jK (uNew S k z) h = if h = jN S then k else jK S h := rfl
theorem jZ_uNew {k z h : Nat} : jZ (uNew S k z) h = if h = jN S then z else jZ S h := rfl
theorem jI_uNew {k z h : Nat} : jI (uNew S k z) h = if h = jN S then (fun _ => 0) else jI S h := rfl
theorem jJ_uNew {k z h : Nat} : jJ (uNew S k z) h = if h = jN S then (fun _ => 0) else jJ S h := rfl
theorem jR_uNew {k z h : Nat} : jR (uNew S k z) h = if h = jN S then (fun _ => none) else jR S h := rfl
theorem jEx.new (f : jEx PI PR S S1) {k z : Nat} : jEx PI PR S (uNew S1 k z) := f.tr ⟨Nat.le_succ _, fun h hh => by
  have e : h ≠ jN S1 := by omega
  exact ⟨⟨by rw [jK_uNew, if_neg e], by rw [jZ_uNew, if_neg e]⟩, fun _ => ⟨by rw [jI_uNew, if_neg e], by rw [jJ_uNew, if_neg e]⟩, fun _ => by rw [jR_uNew, if_neg e]⟩⟩
theorem jEx.uR (f : jEx PI PR S S1) {h i : Nat} {v : Option Nat} (q : h < jN S → PR h) : jEx PI PR S (uR S1 h i v) := ⟨f.1, fun g hg => ⟨(f.2 g hg).1, (f.2 g hg).2.1, fun z => by
  rw [jR_uR_ne (fun e => z (by rw [e]; exact q (by rw [← e]; exact hg)))]; exact f.R hg z⟩⟩
theorem jEx.uI (f : jEx PI PR S S1) {h i : Nat} {v : Int32} (q : h < jN S → PI h) : jEx PI PR S (uI S1 h i v) := ⟨f.1, fun g hg => ⟨(f.2 g hg).1, fun z => by
  rw [jI_uI_ne (fun e => z (by rw [e]; exact q (by rw [← e]; exact hg)))]; exact ⟨f.I hg z, f.J hg z⟩, (f.2 g hg).2.2⟩⟩
theorem jEx.uJ (f : jEx PI PR S S1) {h i : Nat} {v : Int64} (q : h < jN S → PI h) : jEx PI PR S (uJ S1 h i v) := ⟨f.1, fun g hg => ⟨(f.2 g hg).1, fun z => by
  rw [jJ_uJ_ne (fun e => z (by rw [e]; exact q (by rw [← e]; exact hg)))]; exact ⟨f.I hg z, f.J hg z⟩, (f.2 g hg).2.2⟩⟩
theorem jEx.uIf (f : jEx PI PR S S1) {h : Nat} {v : Nat → Int32} (q : h < jN S → PI h) : jEx PI PR S (uIf S1 h v) := ⟨f.1, fun g hg => ⟨(f.2 g hg).1, fun z => by
  rw [jI_uIf_ne (fun e => z (by rw [e]; exact q (by rw [← e]; exact hg)))]; exact ⟨f.I hg z, f.J hg z⟩, (f.2 g hg).2.2⟩⟩
theorem jEx.sh (f : jEx PI PR S S1) (hs : jSh S) (h10 : ∀ h, h < 69 → PR h → h = 10 ∨ h = 13) : jSh S1 := by
  have hN := hs.1
  have kz : ∀ q ∈ shKZ, q.1 < 69 := by decide
  have rr : ∀ q ∈ shRR, q.1 < 69 ∧ q.1 ≠ 10 ∧ q.1 ≠ 13 := by decide
  refine ⟨Nat.le_trans hN f.1, fun q hq => ?_, fun q hq => ?_⟩
  · have := kz q hq
    rw [f.K (by omega), f.Z (by omega)]; exact hs.2.1 q hq
  · obtain ⟨a, b, c⟩ := rr q hq
    rw [f.R (by omega) (fun z => by rcases h10 q.1 a z with e | e; exact b e; exact c e)]; exact hs.2.2 q hq
theorem LawB.ex {h : Nat} (f : jEx PI PR S S1) (q : LawB S h) (r : ¬ PR h) : LawB S1 h := by
  have hN := q.1
  refine ⟨Nat.le_trans hN f.1, by rw [f.K (by omega)]; exact q.2.1, fun i h1 h2 => ?_⟩
  rw [f.K (by omega), f.R (by omega) r]; exact q.2.2 i h1 h2
theorem LawR.ex {h : Nat} {row : Nat → Int32} {base : Nat} (f : jEx PI PR S S1) (b : LawB S h) (q : LawR S h row base) (r : ¬ PR h) (p : ∀ i, i < 6 → ¬ PI (h + i)) : LawR S1 h row base := by
  obtain ⟨b0, b1, b2⟩ := b
  obtain ⟨h69, hA, hk, h2, ht, h4, hc, n, ⟨l1, l2, l3, l4, l5⟩, ⟨r1, r2, r3, r4, r5⟩, ⟨A1, A2, A3, A4, A5⟩, ⟨z1, z2, z3, z4, z5⟩, hn, en, e0, hC⟩ := q
  have e1 : hk = h + 1 := by have := (b2 1 (by omega) (by omega)).2; rw [r1] at this; cases this; rfl
  have e2 : h2 = h + 2 := by have := (b2 2 (by omega) (by omega)).2; rw [r2] at this; cases this; rfl
  have e3 : ht = h + 3 := by have := (b2 3 (by omega) (by omega)).2; rw [r3] at this; cases this; rfl
  have e4 : h4 = h + 4 := by have := (b2 4 (by omega) (by omega)).2; rw [r4] at this; cases this; rfl
  have e5 : hc = h + 5 := by have := (b2 5 (by omega) (by omega)).2; rw [r5] at this; cases this; rfl
  subst e1 e2 e3 e4 e5
  have i0 : jI S1 h = jI S h := f.I (by omega) (p 0 (by omega))
  have ii : ∀ i, i < 6 → jI S1 (h + i) = jI S (h + i) := fun i hi => f.I (by omega) (p i hi)
  refine ⟨h69, f.A hA, h + 1, h + 2, h + 3, h + 4, h + 5, n, ⟨l1, l2, l3, l4, l5⟩, ?_, ⟨f.A A1, f.A A2, f.A A3, f.A A4, f.A A5⟩, ?_, hn, en, by rw [i0]; exact e0, fun i hi => ?_⟩
  · rw [f.R (by omega) r]; exact ⟨r1, r2, r3, r4, r5⟩
  · rw [f.Z (by omega), f.Z (by omega), f.Z (by omega), f.Z (by omega), f.Z (by omega)]; exact ⟨z1, z2, z3, z4, z5⟩
  · have := hC i hi
    unfold LawC at this ⊢
    rw [ii 1 (by omega), ii 2 (by omega), ii 3 (by omega), ii 4 (by omega), ii 5 (by omega), f.Z (by omega)]; exact this
theorem WS.ex {w : Nat} (f : jEx PI PR S S1) (q : WS S w) (r : ∀ j, j < 12 → j ≠ 9 → ¬ PR (w + j)) : WS S1 w := by
  have hN := q.1
  have kz : ∀ q ∈ wdKZ, q.1 < 12 := by decide
  have rr : ∀ q ∈ wdRR, q.1 < 12 ∧ q.1 ≠ 9 := by decide
  refine ⟨Nat.le_trans hN f.1, fun p hp => ?_, fun p hp => ?_⟩
  · have := kz p hp
    rw [f.K (by omega), f.Z (by omega)]; exact q.2.1 p hp
  · obtain ⟨a, b⟩ := rr p hp
    rw [f.R (by omega) (r _ a b)]; exact q.2.2 p hp
theorem WS.A {w : Nat} (q : WS S w) {j k z : Nat} (h : (j, k, z) ∈ wdKZ) : jA S (w + j) k ∧ jZ S (w + j) = z := by
  have kz : ∀ q ∈ wdKZ, q.1 < 12 := by decide
  have := kz _ h
  have hN := q.1
  exact ⟨⟨by have : j < 12 := this; omega, (q.2.1 _ h).1⟩, (q.2.1 _ h).2⟩
theorem WS.R {w : Nat} (q : WS S w) {j k z : Nat} (h : (j, k, z) ∈ wdRR) : jR S (w + j) k = some (w + z) := q.2.2 _ h
/-- World 1 is such a World -/
theorem WS_1 (hs : jSh S) : WS S 1 := by
  refine ⟨Nat.le_trans (by decide) hs.1, fun q hq => ?_, fun q hq => ?_⟩
  · have e : ∀ q ∈ wdKZ, (1 + q.1, q.2.1, q.2.2) ∈ shKZ := by decide
    exact hs.2.1 _ (e q hq)
  · have e : ∀ q ∈ wdRR, (1 + q.1, q.2.1, 1 + q.2.2) ∈ shRR := by decide
    exact hs.2.2 _ (e q hq)
/-- a law lies off a World -/
theorem LawB.off {h w : Nat} (q : LawB S h) (p : WS S w) : h + 6 ≤ w ∨ w + 12 ≤ h := by
  obtain ⟨b0, b1, b2⟩ := q
  have hk : ∀ j, j < 12 → jK S (w + j) ≠ 3 := by
    intro j hj
    have e : ∀ j, j < 12 → ∃ k z, (j, k, z) ∈ wdKZ ∧ k ≠ 3 := by
      intro j hj
      rcases (by omega : j = 0 ∨ j = 1 ∨ j = 2 ∨ j = 3 ∨ j = 4 ∨ j = 5 ∨ j = 6 ∨ j = 7 ∨ j = 8 ∨ j = 9 ∨ j = 10 ∨ j = 11) with e | e | e | e | e | e | e | e | e | e | e | e <;> subst e
      · exact ⟨9, 12, by decide, by decide⟩
      · exact ⟨8, 4, by decide, by decide⟩
      · exact ⟨13, 4, by decide, by decide⟩
      · exact ⟨13, 4, by decide, by decide⟩
      · exact ⟨13, 4, by decide, by decide⟩
      · exact ⟨8, 4, by decide, by decide⟩
      · exact ⟨13, 16, by decide, by decide⟩
      · exact ⟨13, 16, by decide, by decide⟩
      · exact ⟨13, 16, by decide, by decide⟩
      · exact ⟨16, 6, by decide, by decide⟩
      · exact ⟨13, 60, by decide, by decide⟩
      · exact ⟨13, 12, by decide, by decide⟩
    obtain ⟨k, z, h1, h2⟩ := e j hj
    rw [(p.2.1 _ h1).1]; exact h2
  rcases Nat.lt_or_ge h w with l | l
  · rcases Nat.lt_or_ge (h + 5) w with l2 | l2
    · exact Or.inl (by omega)
    · have e : jK S w = 9 := (p.2.1 (0, 9, 12) (by decide)).1
      have := (b2 (w - h) (by omega) (by omega)).1
      rw [show h + (w - h) = w by omega, e] at this
      exact absurd this (by decide)
  · rcases Nat.lt_or_ge h (w + 12) with l2 | l2
    · have := hk (h - w) (by omega)
      rw [show w + (h - w) = h by omega] at this
      exact absurd b1 this
    · exact Or.inr l2
theorem WS.off {v w : Nat} (q : WS S v) (p : WS S w) (hne : v ≠ w) : v + 12 ≤ w ∨ w + 12 ≤ v := by
  have hk : ∀ u j, WS S u → j < 12 → jK S (u + j) = 9 → j = 0 := by
    intro u j p hj hk
    rcases (by omega : j = 0 ∨ j = 1 ∨ j = 2 ∨ j = 3 ∨ j = 4 ∨ j = 5 ∨ j = 6 ∨ j = 7 ∨ j = 8 ∨ j = 9 ∨ j = 10 ∨ j = 11) with e | e | e | e | e | e | e | e | e | e | e | e <;> subst e
    · rfl
    · rw [(p.2.1 (1, 8, 4) (by decide)).1] at hk; exact absurd hk (by decide)
    · rw [(p.2.1 (2, 13, 4) (by decide)).1] at hk; exact absurd hk (by decide)
    · rw [(p.2.1 (3, 13, 4) (by decide)).1] at hk; exact absurd hk (by decide)
    · rw [(p.2.1 (4, 13, 4) (by decide)).1] at hk; exact absurd hk (by decide)
    · rw [(p.2.1 (5, 8, 4) (by decide)).1] at hk; exact absurd hk (by decide)
    · rw [(p.2.1 (6, 13, 16) (by decide)).1] at hk; exact absurd hk (by decide)
    · rw [(p.2.1 (7, 13, 16) (by decide)).1] at hk; exact absurd hk (by decide)
    · rw [(p.2.1 (8, 13, 16) (by decide)).1] at hk; exact absurd hk (by decide)
    · rw [(p.2.1 (9, 16, 6) (by decide)).1] at hk; exact absurd hk (by decide)
    · rw [(p.2.1 (10, 13, 60) (by decide)).1] at hk; exact absurd hk (by decide)
    · rw [(p.2.1 (11, 13, 12) (by decide)).1] at hk; exact absurd hk (by decide)
  have k1 : jK S v = 9 := (q.2.1 (0, 9, 12) (by decide)).1
  have k2 : jK S w = 9 := (p.2.1 (0, 9, 12) (by decide)).1
  rcases Nat.lt_or_ge v w with l | l
  · rcases Nat.lt_or_ge w (v + 12) with l2 | l2
    · have := hk v (w - v) q (by omega) (by rw [show v + (w - v) = w by omega]; exact k2)
      omega
    · exact Or.inl l2
  · rcases Nat.lt_or_ge v (w + 12) with l2 | l2
    · have := hk w (v - w) p (by omega) (by rw [show w + (v - w) = v by omega]; exact k1)
      omega
    · exact Or.inr l2
end EX
