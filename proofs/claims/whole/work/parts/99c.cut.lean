/-! THE CLASS CUTS THE TAPE -/
def BYc (S : JS) (t : Nat) (bb : Nat → Nat) : Prop := (∀ j, j < t → jI S 15 j = nI (bb j) ∧ bb j < 256) ∧ t ≤ 400 ∧ jI S 14 1 = nI t
def dI (b : Nat) : Int32 := if cls b = 2 then 1 else 0
def lI (b : Nat) : Int32 := if cls b = 1 then 1 else 0
section CUT
variable {t p e : Nat} {bb : Nat → Nat} {S S0 S1 : JS}
theorem sX5_isLetter {Q : Int32 → JS → Prop} {b : Nat} (hb : b < 256) (h : Q (lI b) S) : wX5_isLetter (nI b) S Q := by
  unfold lI at h
  unfold wX5_isLetter
  rw [show (97 : Int32) = nI 97 from rfl, show (122 : Int32) = nI 122 from rfl, nI_lt' (by omega) (by omega), nI_lt' (by omega) (by omega)]
  have n : ¬ (97 ≤ b ∧ b ≤ 122) → ¬ cls b = 1 := by intro z; unfold cls; rw [if_neg z]; split <;> omega
  refine ⟨fun z => ?_, fun z => ⟨fun z2 => ?_, fun z2 => ?_⟩⟩
  · rw [if_neg (n (by omega))] at h; exact h
  · rw [if_neg (n (by omega))] at h; exact h
  · rw [if_pos (by unfold cls; rw [if_pos (by omega)])] at h; exact h
theorem sX5_isDigit {Q : Int32 → JS → Prop} {b : Nat} (hb : b < 256) (h : Q (dI b) S) : wX5_isDigit (nI b) S Q := by
  unfold dI at h
  unfold wX5_isDigit
  rw [show (48 : Int32) = nI 48 from rfl, show (57 : Int32) = nI 57 from rfl, nI_lt' (by omega) (by omega), nI_lt' (by omega) (by omega)]
  have n : ¬ (48 ≤ b ∧ b ≤ 57) → ¬ cls b = 2 := by
    intro z; unfold cls
    by_cases q : 97 ≤ b ∧ b ≤ 122
    · rw [if_pos q]; omega
    · rw [if_neg q, if_neg z]; omega
  refine ⟨fun z => ?_, fun z => ⟨fun z2 => ?_, fun z2 => ?_⟩⟩
  · rw [if_neg (n (by omega))] at h; exact h
  · rw [if_neg (n (by omega))] at h; exact h
  · rw [if_pos (by unfold cls; rw [if_neg (by omega), if_pos (by omega)])] at h; exact h
theorem sX5_mark {Q : Int32 → JS → Prop} {b : Nat} (hb : b < 256) (h : Q (nI (sgM b)) S) : wX5_signOfMark (nI b) S Q := by
  unfold wX5_signOfMark
  have k : ∀ m : Nat, m < 256 → (nI b = nI m ↔ b = m) := fun m hm => nI_eq' (by omega) (by omega)
  rw [show (40 : Int32) = nI 40 from rfl, show (41 : Int32) = nI 41 from rfl, show (42 : Int32) = nI 42 from rfl, show (43 : Int32) = nI 43 from rfl, show (45 : Int32) = nI 45 from rfl, show (47 : Int32) = nI 47 from rfl, show (59 : Int32) = nI 59 from rfl, show (60 : Int32) = nI 60 from rfl, show (61 : Int32) = nI 61 from rfl, show (62 : Int32) = nI 62 from rfl, show (91 : Int32) = nI 91 from rfl, show (93 : Int32) = nI 93 from rfl, k 40 (by omega), k 41 (by omega), k 42 (by omega), k 43 (by omega), k 45 (by omega), k 47 (by omega), k 59 (by omega), k 60 (by omega), k 61 (by omega), k 62 (by omega), k 91 (by omega), k 93 (by omega)]
  refine ⟨fun z => ?_, fun n0 => ?_⟩
  · have e0 : sgM b = 22 := by unfold sgM; rw [if_pos z]
    rw [e0] at h; exact h
  refine ⟨fun z => ?_, fun n1 => ?_⟩
  · have e0 : sgM b = 23 := by unfold sgM; rw [if_neg n0, if_pos z]
    rw [e0] at h; exact h
  refine ⟨fun z => ?_, fun n2 => ?_⟩
  · have e0 : sgM b = 9 := by unfold sgM; rw [if_neg n0, if_neg n1, if_pos z]
    rw [e0] at h; exact h
  refine ⟨fun z => ?_, fun n3 => ?_⟩
  · have e0 : sgM b = 7 := by unfold sgM; rw [if_neg n0, if_neg n1, if_neg n2, if_pos z]
    rw [e0] at h; exact h
  refine ⟨fun z => ?_, fun n4 => ?_⟩
  · have e0 : sgM b = 8 := by unfold sgM; rw [if_neg n0, if_neg n1, if_neg n2, if_neg n3, if_pos z]
    rw [e0] at h; exact h
  refine ⟨fun z => ?_, fun n5 => ?_⟩
  · have e0 : sgM b = 10 := by unfold sgM; rw [if_neg n0, if_neg n1, if_neg n2, if_neg n3, if_neg n4, if_pos z]
    rw [e0] at h; exact h
  refine ⟨fun z => ?_, fun n6 => ?_⟩
  · have e0 : sgM b = 21 := by unfold sgM; rw [if_neg n0, if_neg n1, if_neg n2, if_neg n3, if_neg n4, if_neg n5, if_pos z]
    rw [e0] at h; exact h
  refine ⟨fun z => ?_, fun n7 => ?_⟩
  · have e0 : sgM b = 11 := by unfold sgM; rw [if_neg n0, if_neg n1, if_neg n2, if_neg n3, if_neg n4, if_neg n5, if_neg n6, if_pos z]
    rw [e0] at h; exact h
  refine ⟨fun z => ?_, fun n8 => ?_⟩
  · have e0 : sgM b = 13 := by unfold sgM; rw [if_neg n0, if_neg n1, if_neg n2, if_neg n3, if_neg n4, if_neg n5, if_neg n6, if_neg n7, if_pos z]
    rw [e0] at h; exact h
  refine ⟨fun z => ?_, fun n9 => ?_⟩
  · have e0 : sgM b = 12 := by unfold sgM; rw [if_neg n0, if_neg n1, if_neg n2, if_neg n3, if_neg n4, if_neg n5, if_neg n6, if_neg n7, if_neg n8, if_pos z]
    rw [e0] at h; exact h
  refine ⟨fun z => ?_, fun n10 => ?_⟩
  · have e0 : sgM b = 24 := by unfold sgM; rw [if_neg n0, if_neg n1, if_neg n2, if_neg n3, if_neg n4, if_neg n5, if_neg n6, if_neg n7, if_neg n8, if_neg n9, if_pos z]
    rw [e0] at h; exact h
  refine ⟨fun z => ?_, fun n11 => ?_⟩
  · have e0 : sgM b = 25 := by unfold sgM; rw [if_neg n0, if_neg n1, if_neg n2, if_neg n3, if_neg n4, if_neg n5, if_neg n6, if_neg n7, if_neg n8, if_neg n9, if_neg n10, if_pos z]
    rw [e0] at h; exact h
  have e0 : sgM b = 27 := by unfold sgM; rw [if_neg n0, if_neg n1, if_neg n2, if_neg n3, if_neg n4, if_neg n5, if_neg n6, if_neg n7, if_neg n8, if_neg n9, if_neg n10, if_neg n11]
  rw [e0] at h; exact h
theorem et_roll {Q : Int32 → JS → Prop} {a x y : Int32} (h : ∀ K : Nat → Int32 → Int32 → Int32 → JS → Prop, (∀ x' S', wX5_endOfToken_20 14 a x' y S' Q → K 14 a x' y S') → bX5_endOfToken_20 K 14 a x y S Q) : wX5_endOfToken_20 14 a x y S Q := by
  unfold wX5_endOfToken_20
  exact jLoop.roll (h _ (fun _ _ h => h))
theorem dl_eq {a b : Nat} (ha : cls a ≠ 3) : (dI a = dI b ∧ lI a = lI b) ↔ cls b = cls a := by
  have ca := cls3 a
  have cb := cls3 b
  unfold dI lI
  rcases (by omega : cls a = 1 ∨ cls a = 2) with q | q <;> rcases (by omega : cls b = 1 ∨ cls b = 2 ∨ cls b = 3) with r | r | r <;> rw [q, r] <;> decide
theorem et_go {Q : Int32 → JS → Prop} (hs : jSh S) (hb : BYc S t bb) (hp : p < t) (c : cls (bb p) ≠ 3) (hQ : Q (nI (tnd t bb p)) S) : ∀ m x, x + m = tnd t bb p → p < x → wX5_endOfToken_20 14 (nI p) (nI x) 1 S Q := by
  obtain ⟨a1, a2, a3, a4, a5⟩ := tnd_spec (bb := bb) hp
  obtain ⟨hby, ht4, h1⟩ := id hb
  have hbp := hby p hp
  intro m
  induction m with
  | zero =>
    intro x e0 hx
    have ex : x = tnd t bb p := by omega
    rw [← ex] at hQ
    refine et_roll (fun K _ => ?_)
    unfold bX5_endOfToken_20
    simp only [shA_14, shA_15, shZ_15, shR_14_0, shr_14_0, shR_14_2, shr_14_2, shR_14_3, shr_14_3, shR_14_4, shr_14_4, shR_14_5, shr_14_5, shR_14_6, shr_14_6, shR_14_9, shr_14_9, shR_14_10, shr_14_10, hs, h1, ne_eq, not_false_eq_true, not_true_eq_false, reduceCtorEq, Nat.reduceEqDiff, forall_eq, true_and, and_true, true_implies, forall_const, implies_true, List.mem_cons, List.not_mem_nil, or_false, false_or, or_self, if_true, if_false, reduceIte, Nat.reduceAdd, Nat.reduceMul, Nat.reduceLT, false_implies, Decidable.not_not, bI_eq0, bI_eq1, upd_at, updL_at, Nat.succ_ne_zero, Int32.reduceToNatClampNeg, eq_self, i01, i10]
    rw [nI_le' (by omega) (by omega), nI_tn (by omega), nI_tn (by omega), hbp.1]
    refine ⟨fun _ => hQ, fun z => ?_⟩
    have hbt := hby x (by omega)
    have ne := a5 c (by omega)
    rw [← ex] at ne
    have de := dl_eq (b := bb x) c
    refine ⟨nI_in2 (by omega) (by omega), sX5_isDigit hbp.2 ?_⟩
    simp only [shA_14, shA_15, shZ_15, shR_14_0, shr_14_0, shR_14_2, shr_14_2, shR_14_3, shr_14_3, shR_14_4, shr_14_4, shR_14_5, shr_14_5, shR_14_6, shr_14_6, shR_14_9, shr_14_9, shR_14_10, shr_14_10, hs, ne_eq, not_false_eq_true, not_true_eq_false, reduceCtorEq, Nat.reduceEqDiff, forall_eq, true_and, and_true, true_implies, forall_const, implies_true, List.mem_cons, List.not_mem_nil, or_false, false_or, or_self, if_true, if_false, reduceIte, Nat.reduceAdd, Nat.reduceMul, Nat.reduceLT, false_implies, Decidable.not_not, bI_eq0, bI_eq1, upd_at, updL_at, Nat.succ_ne_zero, Int32.reduceToNatClampNeg, eq_self, i01, i10]
    rw [hbt.1]
    refine ⟨nI_in2 (by omega) (by omega), sX5_isDigit hbt.2 ⟨fun _ => hQ, fun y1 => ?_⟩⟩
    simp only [shA_14, shA_15, shZ_15, shR_14_0, shr_14_0, shR_14_2, shr_14_2, shR_14_3, shr_14_3, shR_14_4, shr_14_4, shR_14_5, shr_14_5, shR_14_6, shr_14_6, shR_14_9, shr_14_9, shR_14_10, shr_14_10, hs, ne_eq, not_false_eq_true, not_true_eq_false, reduceCtorEq, Nat.reduceEqDiff, forall_eq, true_and, and_true, true_implies, forall_const, implies_true, List.mem_cons, List.not_mem_nil, or_false, false_or, or_self, if_true, if_false, reduceIte, Nat.reduceAdd, Nat.reduceMul, Nat.reduceLT, false_implies, Decidable.not_not, bI_eq0, bI_eq1, upd_at, updL_at, Nat.succ_ne_zero, Int32.reduceToNatClampNeg, eq_self, i01, i10]
    rw [hbp.1]
    refine ⟨nI_in2 (by omega) (by omega), sX5_isLetter hbp.2 ?_⟩
    simp only [shA_14, shA_15, shZ_15, shR_14_0, shr_14_0, shR_14_2, shr_14_2, shR_14_3, shr_14_3, shR_14_4, shr_14_4, shR_14_5, shr_14_5, shR_14_6, shr_14_6, shR_14_9, shr_14_9, shR_14_10, shr_14_10, hs, ne_eq, not_false_eq_true, not_true_eq_false, reduceCtorEq, Nat.reduceEqDiff, forall_eq, true_and, and_true, true_implies, forall_const, implies_true, List.mem_cons, List.not_mem_nil, or_false, false_or, or_self, if_true, if_false, reduceIte, Nat.reduceAdd, Nat.reduceMul, Nat.reduceLT, false_implies, Decidable.not_not, bI_eq0, bI_eq1, upd_at, updL_at, Nat.succ_ne_zero, Int32.reduceToNatClampNeg, eq_self, i01, i10]
    rw [hbt.1]
    exact ⟨nI_in2 (by omega) (by omega), sX5_isLetter hbt.2 ⟨fun _ => hQ, fun y2 => absurd (de.mp ⟨y1, y2⟩) ne⟩⟩
  | succ m ih =>
    intro x e0 hx
    refine et_roll (fun K hK => ?_)
    have r := hK _ _ (ih (x + 1) (by omega) (by omega))
    unfold bX5_endOfToken_20
    simp only [shA_14, shA_15, shZ_15, shR_14_0, shr_14_0, shR_14_2, shr_14_2, shR_14_3, shr_14_3, shR_14_4, shr_14_4, shR_14_5, shr_14_5, shR_14_6, shr_14_6, shR_14_9, shr_14_9, shR_14_10, shr_14_10, hs, h1, ne_eq, not_false_eq_true, not_true_eq_false, reduceCtorEq, Nat.reduceEqDiff, forall_eq, true_and, and_true, true_implies, forall_const, implies_true, List.mem_cons, List.not_mem_nil, or_false, false_or, or_self, if_true, if_false, reduceIte, Nat.reduceAdd, Nat.reduceMul, Nat.reduceLT, false_implies, Decidable.not_not, bI_eq0, bI_eq1, upd_at, updL_at, Nat.succ_ne_zero, Int32.reduceToNatClampNeg, eq_self, i01, i10]
    rw [nI_le' (by omega) (by omega), nI_tn (by omega), nI_tn (by omega), hbp.1]
    refine ⟨fun z => by omega, fun z => ?_⟩
    have hbt := hby x (by omega)
    have de := (dl_eq (b := bb x) c).mpr (a4 x (by omega) (by omega))
    refine ⟨nI_in2 (by omega) (by omega), sX5_isDigit hbp.2 ?_⟩
    simp only [shA_14, shA_15, shZ_15, shR_14_0, shr_14_0, shR_14_2, shr_14_2, shR_14_3, shr_14_3, shR_14_4, shr_14_4, shR_14_5, shr_14_5, shR_14_6, shr_14_6, shR_14_9, shr_14_9, shR_14_10, shr_14_10, hs, ne_eq, not_false_eq_true, not_true_eq_false, reduceCtorEq, Nat.reduceEqDiff, forall_eq, true_and, and_true, true_implies, forall_const, implies_true, List.mem_cons, List.not_mem_nil, or_false, false_or, or_self, if_true, if_false, reduceIte, Nat.reduceAdd, Nat.reduceMul, Nat.reduceLT, false_implies, Decidable.not_not, bI_eq0, bI_eq1, upd_at, updL_at, Nat.succ_ne_zero, Int32.reduceToNatClampNeg, eq_self, i01, i10]
    rw [hbt.1]
    refine ⟨nI_in2 (by omega) (by omega), sX5_isDigit hbt.2 ⟨fun y => absurd de.1 y, fun y1 => ?_⟩⟩
    simp only [shA_14, shA_15, shZ_15, shR_14_0, shr_14_0, shR_14_2, shr_14_2, shR_14_3, shr_14_3, shR_14_4, shr_14_4, shR_14_5, shr_14_5, shR_14_6, shr_14_6, shR_14_9, shr_14_9, shR_14_10, shr_14_10, hs, ne_eq, not_false_eq_true, not_true_eq_false, reduceCtorEq, Nat.reduceEqDiff, forall_eq, true_and, and_true, true_implies, forall_const, implies_true, List.mem_cons, List.not_mem_nil, or_false, false_or, or_self, if_true, if_false, reduceIte, Nat.reduceAdd, Nat.reduceMul, Nat.reduceLT, false_implies, Decidable.not_not, bI_eq0, bI_eq1, upd_at, updL_at, Nat.succ_ne_zero, Int32.reduceToNatClampNeg, eq_self, i01, i10]
    rw [hbp.1]
    refine ⟨nI_in2 (by omega) (by omega), sX5_isLetter hbp.2 ?_⟩
    simp only [shA_14, shA_15, shZ_15, shR_14_0, shr_14_0, shR_14_2, shr_14_2, shR_14_3, shr_14_3, shR_14_4, shr_14_4, shR_14_5, shr_14_5, shR_14_6, shr_14_6, shR_14_9, shr_14_9, shR_14_10, shr_14_10, hs, ne_eq, not_false_eq_true, not_true_eq_false, reduceCtorEq, Nat.reduceEqDiff, forall_eq, true_and, and_true, true_implies, forall_const, implies_true, List.mem_cons, List.not_mem_nil, or_false, false_or, or_self, if_true, if_false, reduceIte, Nat.reduceAdd, Nat.reduceMul, Nat.reduceLT, false_implies, Decidable.not_not, bI_eq0, bI_eq1, upd_at, updL_at, Nat.succ_ne_zero, Int32.reduceToNatClampNeg, eq_self, i01, i10]
    rw [hbt.1]
    refine ⟨nI_in2 (by omega) (by omega), sX5_isLetter hbt.2 ⟨fun y => absurd de.2 y, fun y2 => ?_⟩⟩
    rw [nI_1]; exact r
theorem sX5_eot {Q : Int32 → JS → Prop} (hs : jSh S) (hb : BYc S t bb) (hp : p < t) (hQ : Q (nI (tnd t bb p)) S) : wX5_endOfToken 14 (nI p) S Q := by
  obtain ⟨a1, a2, a3, a4, a5⟩ := tnd_spec (bb := bb) hp
  obtain ⟨hby, ht4, h1⟩ := id hb
  have hbp := hby p hp
  have c3 := cls3 (bb p)
  have go : cls (bb p) ≠ 3 → wX5_endOfToken_20 14 (nI p) (nI (p + 1)) 1 S Q := fun c => et_go hs hb hp c hQ (tnd t bb p - (p + 1)) (p + 1) (by omega) (by omega)
  unfold wX5_endOfToken wX5_endOfToken_16 wX5_endOfToken_19
  intro x1 e1
  rw [nI_1] at e1
  subst e1
  simp only [shA_14, shA_15, shZ_15, shR_14_0, shr_14_0, shR_14_2, shr_14_2, shR_14_3, shr_14_3, shR_14_4, shr_14_4, shR_14_5, shr_14_5, shR_14_6, shr_14_6, shR_14_9, shr_14_9, shR_14_10, shr_14_10, hs, ne_eq, not_false_eq_true, not_true_eq_false, reduceCtorEq, Nat.reduceEqDiff, forall_eq, true_and, and_true, true_implies, forall_const, implies_true, List.mem_cons, List.not_mem_nil, or_false, false_or, or_self, if_true, if_false, reduceIte, Nat.reduceAdd, Nat.reduceMul, Nat.reduceLT, false_implies, Decidable.not_not, bI_eq0, bI_eq1, upd_at, updL_at, Nat.succ_ne_zero, Int32.reduceToNatClampNeg, eq_self, i01, i10]
  rw [nI_tn (by omega), hbp.1]
  refine ⟨nI_in2 (by omega) (by omega), sX5_isLetter hbp.2 ⟨fun z => go (fun y => z (by unfold lI; rw [if_neg (by omega)])), fun z => ?_⟩⟩
  simp only [shA_14, shA_15, shZ_15, shR_14_0, shr_14_0, shR_14_2, shr_14_2, shR_14_3, shr_14_3, shR_14_4, shr_14_4, shR_14_5, shr_14_5, shR_14_6, shr_14_6, shR_14_9, shr_14_9, shR_14_10, shr_14_10, hs, ne_eq, not_false_eq_true, not_true_eq_false, reduceCtorEq, Nat.reduceEqDiff, forall_eq, true_and, and_true, true_implies, forall_const, implies_true, List.mem_cons, List.not_mem_nil, or_false, false_or, or_self, if_true, if_false, reduceIte, Nat.reduceAdd, Nat.reduceMul, Nat.reduceLT, false_implies, Decidable.not_not, bI_eq0, bI_eq1, upd_at, updL_at, Nat.succ_ne_zero, Int32.reduceToNatClampNeg, eq_self, i01, i10]
  rw [hbp.1]
  have c1 : ¬ cls (bb p) = 1 := by intro y; unfold lI at z; rw [if_pos y] at z; exact absurd z (by decide)
  refine ⟨nI_in2 (by omega) (by omega), sX5_isDigit hbp.2 ⟨fun z2 => ?_, fun z2 => go (fun y => z2 (by unfold dI; rw [if_neg (by omega)]))⟩⟩
  have c2 : ¬ cls (bb p) = 2 := by intro y; unfold dI at z2; rw [if_pos y] at z2; exact absurd z2 (by decide)
  rw [a3 (by omega)] at hQ
  refine et_roll (fun K _ => ?_)
  unfold bX5_endOfToken_20
  exact ⟨fun _ => hQ, fun z => absurd rfl z⟩
/-! words -/
def wl (q k : Nat) : Nat := (jSL.getD q []).getD k 0
def ln (q : Nat) : Nat := (jSL.getD q []).length
theorem wl_ok : ∀ q, q < 13 → ln q ≤ 10 ∧ 0 < ln q ∧ (∀ k, k < ln q → 97 ≤ wl q k ∧ wl q k ≤ 122) ∧ wcF (wl q) (ln q) = (wdN.getD q (0, 0)).1 := by decide +kernel
theorem wl_iff {q : Nat} (hq : q < 13) (hp : p < t) (c : cls (bb p) = 1) : (tnd t bb p - p = ln q ∧ ∀ k, k < ln q → bb (p + k) = wl q k) ↔ wxP t bb p = (wdN.getD q (0, 0)).1 := by
  obtain ⟨w1, w2, w3, w4⟩ := wl_ok q hq
  have hl := let_of hp c
  unfold wxP
  constructor
  · rintro ⟨e1, e2⟩
    rw [e1, if_pos w1, wcF_cg (g := wl q) (ln q) e2, w4]
  · intro h
    by_cases l : tnd t bb p - p ≤ 10
    · rw [if_pos l, ← w4] at h
      obtain ⟨e1, e2⟩ := wcF_inj _ _ hl w3 h
      exact ⟨e1, fun k hk => e2 k (by omega)⟩
    · rw [if_neg l, ← w4] at h
      exfalso
      have := wcF_inj (f := wl q) (g := wl q) 0 (ln q) (fun k hk => by omega) w3 h
      omega
theorem iw_roll {Q : Int32 → JS → Prop} {a : Nat} {x y : Int32} (h : ∀ K : Nat → Nat → Int32 → Int32 → JS → Prop, (∀ y' S', wX5_isWord_16 14 a x y' S' Q → K 14 a x y' S') → bX5_isWord_16 K 14 a x y S Q) : wX5_isWord_16 14 a x y S Q := by
  unfold wX5_isWord_16
  exact jLoop.roll (h _ (fun _ _ h => h))
theorem iw_go {Q : Int32 → JS → Prop} {q : Nat} (hq : q < 13) (hs : jSh S) (hb : BYc S t bb) (hp : p + ln q ≤ t) (h1 : (∀ k, k < ln q → bb (p + k) = wl q k) → Q 1 S) (h0 : ¬ (∀ k, k < ln q → bb (p + k) = wl q k) → Q 0 S) : ∀ m k, k + m = ln q → (∀ j, j < k → bb (p + j) = wl q j) → wX5_isWord_16 14 (jX + 10 + q) (nI p) (nI k) S Q := by
  obtain ⟨hby, ht4, _⟩ := id hb
  have w := wl_ok q hq
  have eq0 : jX + 10 + q - (jX + 10) = q := by omega
  have eln : (jSL.getD q []).length = ln q := rfl
  intro m
  induction m with
  | zero =>
    intro k e0 hk
    refine iw_roll (fun K _ => ?_)
    unfold bX5_isWord_16
    rw [eq0, eln]
    exact ⟨by omega, by omega, fun _ => h1 (fun j hj => hk j (by omega)), fun z => absurd ((nI_le' (a := ln q) (b := k) (by omega) (by omega)).mpr (by omega)) z⟩
  | succ m ih =>
    intro k e0 hk
    refine iw_roll (fun K hK => ?_)
    have hbt := hby (p + k) (by omega)
    have wk := w.2.2.1 k (by omega)
    unfold bX5_isWord_16
    rw [eq0, eln]
    simp only [shA_14, shA_15, shZ_15, shR_14_0, shr_14_0, shR_14_2, shr_14_2, shR_14_3, shr_14_3, shR_14_4, shr_14_4, shR_14_5, shr_14_5, shR_14_6, shr_14_6, shR_14_9, shr_14_9, shR_14_10, shr_14_10, hs, ne_eq, not_false_eq_true, not_true_eq_false, reduceCtorEq, Nat.reduceEqDiff, forall_eq, true_and, and_true, true_implies, forall_const, implies_true, List.mem_cons, List.not_mem_nil, or_false, false_or, or_self, if_true, if_false, reduceIte, Nat.reduceAdd, Nat.reduceMul, Nat.reduceLT, false_implies, Decidable.not_not, bI_eq0, bI_eq1, upd_at, updL_at, Nat.succ_ne_zero, Int32.reduceToNatClampNeg, eq_self, i01, i10]
    rw [nI_add, nI_tn (by omega), nI_tn (by omega), hbt.1, show (jSL.getD q []).getD k 0 = wl q k from rfl]
    refine ⟨by omega, by omega, fun z => absurd ((nI_le' (a := ln q) (b := k) (by omega) (by omega)).mp z) (by omega), fun _ => ⟨nI_in2 (by omega) (by omega), by omega, by omega, nI_in2 (by omega) (by omega), fun z => ?_, fun z => h0 (fun y => z ?_)⟩⟩
    · rw [nI_1]
      refine hK _ _ (ih (k + 1) (by omega) (fun j hj => ?_))
      by_cases y : j = k
      · rw [y]; exact (nI_eq' (a := bb (p + k)) (b := wl q k) (by omega) (by omega)).mp z
      · exact hk j (by omega)
    · rw [y k (by omega)]; rfl
theorem sX5_isWord {Q : Int32 → JS → Prop} {q : Nat} (hq : q < 13) (hs : jSh S) (hb : BYc S t bb) (hp : p < t) (c : cls (bb p) = 1) (h1 : wxP t bb p = (wdN.getD q (0, 0)).1 → Q 1 S) (h0 : ¬ wxP t bb p = (wdN.getD q (0, 0)).1 → Q 0 S) : wX5_isWord 14 (jX + 10 + q) (nI p) (nI (tnd t bb p)) S Q := by
  obtain ⟨a1, a2, _⟩ := tnd_spec (bb := bb) hp
  obtain ⟨hby, ht4, g1⟩ := id hb
  have w := wl_ok q hq
  have wi := wl_iff hq hp c
  have eq0 : jX + 10 + q - (jX + 10) = q := by omega
  have eln : (jSL.getD q []).length = ln q := rfl
  unfold wX5_isWord
  rw [eq0, eln, g1, nI_lt' (by omega) (by omega), nI_sub (by omega)]
  refine ⟨fun z => absurd z (nI_pos (by omega)), fun _ => ⟨shA_14 hs, fun z => by omega, fun _ => ⟨by omega, by omega, fun z => ?_, fun z => h0 (fun y => z ?_)⟩⟩⟩
  · have el : tnd t bb p - p = ln q := (nI_eq' (a := tnd t bb p - p) (b := ln q) (by omega) (by omega)).mp z
    exact iw_go hq hs hb (by omega) (fun y => h1 (wi.mp ⟨el, y⟩)) (fun y => h0 (fun x => y (wi.mpr x).2)) (ln q) 0 (by omega) (fun j hj => by omega)
  · rw [(wi.mpr y).1]; rfl
theorem sX5_word {Q : Int32 → JS → Prop} (hs : jSh S) (hb : BYc S t bb) (hp : p < t) (c : cls (bb p) = 1) (h : Q (nI (sgW (wxP t bb p))) S) : wX5_signOfWord 14 (nI p) (nI (tnd t bb p)) S Q := by
  unfold wX5_signOfWord
  refine ⟨shA_14 hs, sX5_isWord (q := 0) (by omega) hs hb hp c (fun z => ⟨fun y => absurd y (by decide), fun _ => ?_⟩) (fun n0 => ⟨fun _ => ?_, fun y => absurd rfl y⟩)⟩
  · have z : wxP t bb p = 135732402 := z
    have e0 : sgW (wxP t bb p) = 17 := by unfold sgW; rw [if_pos z]
    rw [e0] at h; exact h
  have n0 : ¬ wxP t bb p = 135732402 := n0
  refine ⟨shA_14 hs, sX5_isWord (q := 1) (by omega) hs hb hp c (fun z => ⟨fun y => absurd y (by decide), fun _ => ?_⟩) (fun n1 => ⟨fun _ => ?_, fun y => absurd rfl y⟩)⟩
  · have z : wxP t bb p = 763276 := z
    have e0 : sgW (wxP t bb p) = 18 := by unfold sgW; rw [if_neg n0, if_pos z]
    rw [e0] at h; exact h
  have n1 : ¬ wxP t bb p = 763276 := n1
  refine ⟨shA_14 hs, sX5_isWord (q := 2) (by omega) hs hb hp c (fun z => ⟨fun y => absurd y (by decide), fun _ => ?_⟩) (fun n2 => ⟨fun _ => ?_, fun y => absurd rfl y⟩)⟩
  · have z : wxP t bb p = 67155 := z
    have e0 : sgW (wxP t bb p) = 19 := by unfold sgW; rw [if_neg n0, if_neg n1, if_pos z]
    rw [e0] at h; exact h
  have n2 : ¬ wxP t bb p = 67155 := n2
  refine ⟨shA_14 hs, sX5_isWord (q := 3) (by omega) hs hb hp c (fun z => ⟨fun y => absurd y (by decide), fun _ => ?_⟩) (fun n3 => ⟨fun _ => ?_, fun y => absurd rfl y⟩)⟩
  · have z : wxP t bb p = 294 := z
    have e0 : sgW (wxP t bb p) = 20 := by unfold sgW; rw [if_neg n0, if_neg n1, if_neg n2, if_pos z]
    rw [e0] at h; exact h
  have n3 : ¬ wxP t bb p = 294 := n3
  refine ⟨shA_14 hs, sX5_isWord (q := 4) (by omega) hs hb hp c (fun z => ⟨fun y => absurd y (by decide), fun _ => ?_⟩) (fun n4 => ⟨fun _ => ?_, fun y => absurd rfl y⟩)⟩
  · have z : wxP t bb p = 498 := z
    have e0 : sgW (wxP t bb p) = 15 := by unfold sgW; rw [if_neg n0, if_neg n1, if_neg n2, if_neg n3, if_pos z]
    rw [e0] at h; exact h
  have n4 : ¬ wxP t bb p = 498 := n4
  refine ⟨shA_14 hs, sX5_isWord (q := 5) (by omega) hs hb hp c (fun z => ⟨fun y => absurd y (by decide), fun _ => ?_⟩) (fun n5 => ⟨fun _ => ?_, fun y => absurd rfl y⟩)⟩
  · have z : wxP t bb p = 1476 := z
    have e0 : sgW (wxP t bb p) = 16 := by unfold sgW; rw [if_neg n0, if_neg n1, if_neg n2, if_neg n3, if_neg n4, if_pos z]
    rw [e0] at h; exact h
  have n5 : ¬ wxP t bb p = 1476 := n5
  refine ⟨shA_14 hs, sX5_isWord (q := 6) (by omega) hs hb hp c (fun z => ⟨fun y => absurd y (by decide), fun _ => ?_⟩) (fun n6 => ⟨fun _ => ?_, fun y => absurd rfl y⟩)⟩
  · have z : wxP t bb p = 14836 := z
    have e0 : sgW (wxP t bb p) = 14 := by unfold sgW; rw [if_neg n0, if_neg n1, if_neg n2, if_neg n3, if_neg n4, if_neg n5, if_pos z]
    rw [e0] at h; exact h
  have n6 : ¬ wxP t bb p = 14836 := n6
  refine ⟨shA_14 hs, ?_⟩
  unfold wX5_signOfPart
  refine ⟨shA_14 hs, sX5_isWord (q := 7) (by omega) hs hb hp c (fun z => ⟨fun y => absurd y (by decide), fun _ => ?_⟩) (fun n7 => ⟨fun _ => ?_, fun y => absurd rfl y⟩)⟩
  · have z : wxP t bb p = 605291 := z
    have e0 : sgW (wxP t bb p) = 1 := by unfold sgW; rw [if_neg n0, if_neg n1, if_neg n2, if_neg n3, if_neg n4, if_neg n5, if_neg n6, if_pos z]
    rw [e0] at h; exact h
  have n7 : ¬ wxP t bb p = 605291 := n7
  refine ⟨shA_14 hs, sX5_isWord (q := 8) (by omega) hs hb hp c (fun z => ⟨fun y => absurd y (by decide), fun _ => ?_⟩) (fun n8 => ⟨fun _ => ?_, fun y => absurd rfl y⟩)⟩
  · have z : wxP t bb p = 655 := z
    have e0 : sgW (wxP t bb p) = 2 := by unfold sgW; rw [if_neg n0, if_neg n1, if_neg n2, if_neg n3, if_neg n4, if_neg n5, if_neg n6, if_neg n7, if_pos z]
    rw [e0] at h; exact h
  have n8 : ¬ wxP t bb p = 655 := n8
  refine ⟨shA_14 hs, sX5_isWord (q := 9) (by omega) hs hb hp c (fun z => ⟨fun y => absurd y (by decide), fun _ => ?_⟩) (fun n9 => ⟨fun _ => ?_, fun y => absurd rfl y⟩)⟩
  · have z : wxP t bb p = 14982420 := z
    have e0 : sgW (wxP t bb p) = 3 := by unfold sgW; rw [if_neg n0, if_neg n1, if_neg n2, if_neg n3, if_neg n4, if_neg n5, if_neg n6, if_neg n7, if_neg n8, if_pos z]
    rw [e0] at h; exact h
  have n9 : ¬ wxP t bb p = 14982420 := n9
  refine ⟨shA_14 hs, sX5_isWord (q := 10) (by omega) hs hb hp c (fun z => ⟨fun y => absurd y (by decide), fun _ => ?_⟩) (fun n10 => ⟨fun _ => ?_, fun y => absurd rfl y⟩)⟩
  · have z : wxP t bb p = 20594253 := z
    have e0 : sgW (wxP t bb p) = 4 := by unfold sgW; rw [if_neg n0, if_neg n1, if_neg n2, if_neg n3, if_neg n4, if_neg n5, if_neg n6, if_neg n7, if_neg n8, if_neg n9, if_pos z]
    rw [e0] at h; exact h
  have n10 : ¬ wxP t bb p = 20594253 := n10
  refine ⟨shA_14 hs, sX5_isWord (q := 11) (by omega) hs hb hp c (fun z => ⟨fun y => absurd y (by decide), fun _ => ?_⟩) (fun n11 => ⟨fun _ => ?_, fun y => absurd rfl y⟩)⟩
  · have z : wxP t bb p = 441828 := z
    have e0 : sgW (wxP t bb p) = 5 := by unfold sgW; rw [if_neg n0, if_neg n1, if_neg n2, if_neg n3, if_neg n4, if_neg n5, if_neg n6, if_neg n7, if_neg n8, if_neg n9, if_neg n10, if_pos z]
    rw [e0] at h; exact h
  have n11 : ¬ wxP t bb p = 441828 := n11
  refine ⟨shA_14 hs, sX5_isWord (q := 12) (by omega) hs hb hp c (fun z => ⟨fun y => absurd y (by decide), fun _ => ?_⟩) (fun n12 => ⟨fun _ => ?_, fun y => absurd rfl y⟩)⟩
  · have z : wxP t bb p = 6194 := z
    have e0 : sgW (wxP t bb p) = 6 := by unfold sgW; rw [if_neg n0, if_neg n1, if_neg n2, if_neg n3, if_neg n4, if_neg n5, if_neg n6, if_neg n7, if_neg n8, if_neg n9, if_neg n10, if_neg n11, if_pos z]
    rw [e0] at h; exact h
  have n12 : ¬ wxP t bb p = 6194 := n12
  have e0 : sgW (wxP t bb p) = 27 := by unfold sgW; rw [if_neg n0, if_neg n1, if_neg n2, if_neg n3, if_neg n4, if_neg n5, if_neg n6, if_neg n7, if_neg n8, if_neg n9, if_neg n10, if_neg n11, if_neg n12]
  rw [e0] at h; exact h
/-! numbers -/
theorem nvF_stay {f : Nat → Nat} {x : Nat} (h : 1000 < nvF f x) : ∀ m, nvF f (x + m) = nvF f x
  | 0 => rfl
  | m + 1 => by rw [← Nat.add_assoc, nvF, nvF_stay h m, if_pos h]
theorem nt_roll {Q : Int32 → JS → Prop} {a x y : Int32} (h : ∀ K : Nat → Int32 → Int32 → Int32 → JS → Prop, (∀ x' y' S', wX5_numberToken_4 14 a x' y' S' Q → K 14 a x' y' S') → bX5_numberToken_4 K 14 a x y S Q) : wX5_numberToken_4 14 a x y S Q := by
  unfold wX5_numberToken_4
  exact jLoop.roll (h _ (fun _ _ _ h => h))
theorem nt_end {Q : Int32 → JS → Prop} {v : Nat} (hv : v ≤ 10009) (h : Q (nI (if v ≤ 1000 then 0 + 32 * v else 27)) S) : wX5_numberToken_23 (nI v) S Q := by
  unfold wX5_numberToken_23
  rw [show (1000 : Int32) = nI 1000 from rfl, nI_lt' (by omega) (by omega)]
  refine ⟨fun z => ?_, fun z => ?_⟩
  · rw [if_neg (by omega)] at h; exact h
  · rw [if_pos (by omega), Nat.zero_add] at h
    rw [shl5 v (by omega), li_0, nx_or, Nat.or_zero]; exact h
theorem nt_go {Q : Int32 → JS → Prop} (hs : jSh S) (hb : BYc S t bb) (hp : p < t) (c : cls (bb p) = 2) (h : Q (nI (if nvF (fun k => bb (p + k)) (tnd t bb p - p) ≤ 1000 then 0 + 32 * nvF (fun k => bb (p + k)) (tnd t bb p - p) else 27)) S) : ∀ m x, x + m = tnd t bb p - p → wX5_numberToken_4 14 (nI (tnd t bb p)) (nI (nvF (fun k => bb (p + k)) x)) (nI (p + x)) S Q := by
  obtain ⟨a1, a2, _⟩ := tnd_spec (bb := bb) hp
  obtain ⟨hby, ht4, g1⟩ := id hb
  have hd := dig_of hp c
  intro m
  induction m with
  | zero =>
    intro x e0
    have ex : x = tnd t bb p - p := by omega
    have nl := nvF_le (f := fun k => bb (p + k)) x (fun k hk => (hd k (by omega)).2)
    rw [← ex] at h
    refine nt_roll (fun K _ => ?_)
    unfold bX5_numberToken_4
    rw [nI_le' (by omega) (by omega)]
    exact ⟨fun _ => nt_end nl h, fun z => absurd (by omega) z⟩
  | succ m ih =>
    intro x e0
    have nl := nvF_le (f := fun k => bb (p + k)) x (fun k hk => (hd k (by omega)).2)
    have r := ih (x + 1) (by omega)
    refine nt_roll (fun K hK => ?_)
    have r := hK _ _ _ r
    have hbt := hby (p + x) (by omega)
    have dx := hd x (by omega)
    unfold bX5_numberToken_4
    rw [nI_le' (by omega) (by omega), show (1000 : Int32) = nI 1000 from rfl, nI_lt' (by omega) (by omega)]
    refine ⟨fun z => by omega, fun _ => ⟨fun z => nt_end nl ?_, fun z => ?_⟩⟩
    · have := nvF_stay z (m + 1)
      rw [e0] at this
      rw [this] at h; exact h
    · simp only [shA_14, shA_15, shZ_15, shR_14_0, shr_14_0, shR_14_2, shr_14_2, shR_14_3, shr_14_3, shR_14_4, shr_14_4, shR_14_5, shr_14_5, shR_14_6, shr_14_6, shR_14_9, shr_14_9, shR_14_10, shr_14_10, hs, ne_eq, not_false_eq_true, not_true_eq_false, reduceCtorEq, Nat.reduceEqDiff, forall_eq, true_and, and_true, true_implies, forall_const, implies_true, List.mem_cons, List.not_mem_nil, or_false, false_or, or_self, if_true, if_false, reduceIte, Nat.reduceAdd, Nat.reduceMul, Nat.reduceLT, false_implies, Decidable.not_not, bI_eq0, bI_eq1, upd_at, updL_at, Nat.succ_ne_zero, Int32.reduceToNatClampNeg, eq_self, i01, i10]
      rw [nI_tn (by omega), hbt.1, nI_1]
      refine ⟨nI_in2 (by omega) (by omega), ?_⟩
      rw [nvF, if_neg z] at r
      rw [show (10 : Int32) = nI 10 from rfl, show (48 : Int32) = nI 48 from rfl, nI_mul, nI_add, nI_sub (by omega), show nvF (fun k => bb (p + k)) x * 10 + bb (p + x) - 48 = nvF (fun k => bb (p + k)) x * 10 + (bb (p + x) - 48) by omega]
      exact r
/-- a token's word -/
theorem sX5_tok {Q : Int32 → JS → Prop} (hs : jSh S) (hb : BYc S t bb) (hp : p < t) (h : Q (nI (sgP t bb p + 32 * vlP t bb p)) S) : wX5_tokenOf 14 (nI p) (nI (tnd t bb p)) S Q := by
  obtain ⟨hby, ht4, g1⟩ := id hb
  have hbp := hby p hp
  have c3 := cls3 (bb p)
  unfold wX5_tokenOf
  simp only [shA_14, shA_15, shZ_15, shR_14_0, shr_14_0, shR_14_2, shr_14_2, shR_14_3, shr_14_3, shR_14_4, shr_14_4, shR_14_5, shr_14_5, shR_14_6, shr_14_6, shR_14_9, shr_14_9, shR_14_10, shr_14_10, hs, ne_eq, not_false_eq_true, not_true_eq_false, reduceCtorEq, Nat.reduceEqDiff, forall_eq, true_and, and_true, true_implies, forall_const, implies_true, List.mem_cons, List.not_mem_nil, or_false, false_or, or_self, if_true, if_false, reduceIte, Nat.reduceAdd, Nat.reduceMul, Nat.reduceLT, false_implies, Decidable.not_not, bI_eq0, bI_eq1, upd_at, updL_at, Nat.succ_ne_zero, Int32.reduceToNatClampNeg, eq_self, i01, i10]
  rw [nI_tn (by omega), hbp.1]
  refine ⟨nI_in2 (by omega) (by omega), sX5_isLetter hbp.2 ⟨fun z => ?_, fun z => ?_⟩⟩
  · have c1 : ¬ cls (bb p) = 1 := by intro y; unfold lI at z; rw [if_pos y] at z; exact absurd z (by decide)
    simp only [shA_14, shA_15, shZ_15, shR_14_0, shr_14_0, shR_14_2, shr_14_2, shR_14_3, shr_14_3, shR_14_4, shr_14_4, shR_14_5, shr_14_5, shR_14_6, shr_14_6, shR_14_9, shr_14_9, shR_14_10, shr_14_10, hs, ne_eq, not_false_eq_true, not_true_eq_false, reduceCtorEq, Nat.reduceEqDiff, forall_eq, true_and, and_true, true_implies, forall_const, implies_true, List.mem_cons, List.not_mem_nil, or_false, false_or, or_self, if_true, if_false, reduceIte, Nat.reduceAdd, Nat.reduceMul, Nat.reduceLT, false_implies, Decidable.not_not, bI_eq0, bI_eq1, upd_at, updL_at, Nat.succ_ne_zero, Int32.reduceToNatClampNeg, eq_self, i01, i10]
    rw [hbp.1]
    refine ⟨nI_in2 (by omega) (by omega), sX5_isDigit hbp.2 ⟨fun z2 => ?_, fun z2 => ?_⟩⟩
    · have c2 : ¬ cls (bb p) = 2 := by intro y; unfold dI at z2; rw [if_pos y] at z2; exact absurd z2 (by decide)
      simp only [shA_14, shA_15, shZ_15, shR_14_0, shr_14_0, shR_14_2, shr_14_2, shR_14_3, shr_14_3, shR_14_4, shr_14_4, shR_14_5, shr_14_5, shR_14_6, shr_14_6, shR_14_9, shr_14_9, shR_14_10, shr_14_10, hs, ne_eq, not_false_eq_true, not_true_eq_false, reduceCtorEq, Nat.reduceEqDiff, forall_eq, true_and, and_true, true_implies, forall_const, implies_true, List.mem_cons, List.not_mem_nil, or_false, false_or, or_self, if_true, if_false, reduceIte, Nat.reduceAdd, Nat.reduceMul, Nat.reduceLT, false_implies, Decidable.not_not, bI_eq0, bI_eq1, upd_at, updL_at, Nat.succ_ne_zero, Int32.reduceToNatClampNeg, eq_self, i01, i10]
      rw [hbp.1]
      refine ⟨nI_in2 (by omega) (by omega), sX5_mark hbp.2 ?_⟩
      have e1 : sgP t bb p + 32 * vlP t bb p = sgM (bb p) := by
        have nt : ¬ t ≤ p := by omega
        unfold sgP vlP; rw [if_neg nt, if_neg c1, if_neg c2, if_neg nt, if_neg c2]; rfl
      rw [e1] at h; exact h
    · have c2 : cls (bb p) = 2 := by
        rcases Nat.decEq (cls (bb p)) 2 with y | y
        · exact absurd (by unfold dI; rw [if_neg y]) z2
        · exact y
      refine ⟨shA_14 hs, ?_⟩
      unfold wX5_numberToken
      refine nt_go hs hb hp c2 ?_ (tnd t bb p - p) 0 (by omega)
      have e1 : sgP t bb p + 32 * vlP t bb p = if nvF (fun k => bb (p + k)) (tnd t bb p - p) ≤ 1000 then 0 + 32 * nvF (fun k => bb (p + k)) (tnd t bb p - p) else 27 := by
        have nt : ¬ t ≤ p := by omega
        unfold sgP vlP; rw [if_neg nt, if_neg c1, if_pos c2, if_neg nt, if_pos c2]
        by_cases y : nvF (fun k => bb (p + k)) (tnd t bb p - p) ≤ 1000
        · rw [if_pos y, if_pos y, if_pos y]
        · rw [if_neg y, if_neg y, if_neg y]
      rw [e1] at h; exact h
  · have c1 : cls (bb p) = 1 := by
      rcases Nat.decEq (cls (bb p)) 1 with y | y
      · exact absurd (by unfold lI; rw [if_neg y]) z
      · exact y
    refine ⟨shA_14 hs, sX5_word hs hb hp c1 ?_⟩
    have e1 : sgP t bb p + 32 * vlP t bb p = sgW (wxP t bb p) := by
      have nt : ¬ t ≤ p := by omega
      have n2 : ¬ cls (bb p) = 2 := by omega
      unfold sgP vlP; rw [if_neg nt, if_pos c1, if_neg nt, if_neg n2]; rfl
    rw [e1] at h; exact h
end CUT
