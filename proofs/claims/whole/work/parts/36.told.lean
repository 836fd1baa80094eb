/-! LOOPS THAT COUNT -/
theorem jLoop.cnt {σ : Type} {F : (σ → Prop) → σ → Prop} (n : Nat) (I : Nat → σ → Prop) (c0 : Nat) (hc0 : c0 ≤ n) (hs : ∀ c s, c ≤ n → I c s → F (fun s' => c < n ∧ I (c + 1) s') s) {s : σ} (h : I c0 s) : jLoop F s := by
  intro P hP
  have key : ∀ k c s, c ≤ n → n - c < k → I c s → P s := by
    intro k
    induction k with
    | zero => intro c s _ hk; omega
    | succ k ih => intro c s hc hk hI; exact hP s _ (hs c s hc hI) (fun s' h' => ih (c + 1) s' (by omega) (by omega) h'.2)
  exact key _ c0 s hc0 (Nat.lt_succ_self _) h
/-! NUMBERS, once more -/
theorem li_0 : (0 : Int32) = nI 0 := rfl
theorem li_1 : (1 : Int32) = nI 1 := rfl
theorem li_2 : (2 : Int32) = nI 2 := rfl
theorem li_3 : (3 : Int32) = nI 3 := rfl
theorem li_4 : (4 : Int32) = nI 4 := rfl
theorem li_5 : (5 : Int32) = nI 5 := rfl
theorem li_6 : (6 : Int32) = nI 6 := rfl
theorem li_7 : (7 : Int32) = nI 7 := rfl
theorem li_8 : (8 : Int32) = nI 8 := rfl
theorem li_9 : (9 : Int32) = nI 9 := rfl
theorem li_10 : (10 : Int32) = nI 10 := rfl
theorem li_11 : (11 : Int32) = nI 11 := rfl
theorem li_12 : (12 : Int32) = nI 12 := rfl
theorem li_13 : (13 : Int32) = nI 13 := rfl
theorem li_14 : (14 : Int32) = nI 14 := rfl
theorem li_15 : (15 : Int32) = nI 15 := rfl
theorem li_16 : (16 : Int32) = nI 16 := rfl
theorem li_17 : (17 : Int32) = nI 17 := rfl
theorem li_18 : (18 : Int32) = nI 18 := rfl
theorem li_19 : (19 : Int32) = nI 19 := rfl
theorem li_20 : (20 : Int32) = nI 20 := rfl
theorem li_21 : (21 : Int32) = nI 21 := rfl
theorem li_22 : (22 : Int32) = nI 22 := rfl
theorem li_23 : (23 : Int32) = nI 23 := rfl
theorem li_24 : (24 : Int32) = nI 24 := rfl
theorem li_25 : (25 : Int32) = nI 25 := rfl
theorem li_26 : (26 : Int32) = nI 26 := rfl
theorem li_27 : (27 : Int32) = nI 27 := rfl
theorem li_31 : (31 : Int32) = nI 31 := rfl
theorem li_32 : (32 : Int32) = nI 32 := rfl
theorem li_45 : (45 : Int32) = nI 45 := rfl
theorem li_47 : (47 : Int32) = nI 47 := rfl
theorem li_48 : (48 : Int32) = nI 48 := rfl
theorem li_50 : (50 : Int32) = nI 50 := rfl
theorem li_57 : (57 : Int32) = nI 57 := rfl
theorem li_58 : (58 : Int32) = nI 58 := rfl
theorem li_59 : (59 : Int32) = nI 59 := rfl
theorem li_60 : (60 : Int32) = nI 60 := rfl
theorem li_63 : (63 : Int32) = nI 63 := rfl
theorem li_64 : (64 : Int32) = nI 64 := rfl
theorem li_68 : (68 : Int32) = nI 68 := rfl
theorem li_69 : (69 : Int32) = nI 69 := rfl
theorem li_70 : (70 : Int32) = nI 70 := rfl
theorem li_80 : (80 : Int32) = nI 80 := rfl
theorem li_90 : (90 : Int32) = nI 90 := rfl
theorem li_91 : (91 : Int32) = nI 91 := rfl
theorem li_93 : (93 : Int32) = nI 93 := rfl
theorem li_96 : (96 : Int32) = nI 96 := rfl
theorem li_97 : (97 : Int32) = nI 97 := rfl
theorem li_98 : (98 : Int32) = nI 98 := rfl
theorem li_99 : (99 : Int32) = nI 99 := rfl
theorem li_100 : (100 : Int32) = nI 100 := rfl
theorem li_122 : (122 : Int32) = nI 122 := rfl
theorem li_140 : (140 : Int32) = nI 140 := rfl
theorem li_141 : (141 : Int32) = nI 141 := rfl
theorem li_142 : (142 : Int32) = nI 142 := rfl
theorem li_188 : (188 : Int32) = nI 188 := rfl
theorem li_200 : (200 : Int32) = nI 200 := rfl
theorem li_255 : (255 : Int32) = nI 255 := rfl
theorem li_400 : (400 : Int32) = nI 400 := rfl
theorem li_511 : (511 : Int32) = nI 511 := rfl
theorem li_512 : (512 : Int32) = nI 512 := rfl
theorem li_900 : (900 : Int32) = nI 900 := rfl
theorem li_1000 : (1000 : Int32) = nI 1000 := rfl
theorem li_4320 : (4320 : Int32) = nI 4320 := rfl
theorem li_4608 : (4608 : Int32) = nI 4608 := rfl
theorem li_5600 : (5600 : Int32) = nI 5600 := rfl
theorem li_1000000 : (1000000 : Int32) = nI 1000000 := rfl
theorem nI_inT {n m : Nat} (h : n < m) (hm : m < 1000000) : vp_in (nI n) m ↔ True := iff_true_intro (nI_in2 h hm)
theorem nI_sub {a b : Nat} (h : b ≤ a) : nI a - nI b = nI (a - b) := by
  have := nI_add (a - b) b
  rw [Nat.sub_add_cancel h] at this
  rw [← this]; lia
theorem nI_eqm1 {n : Nat} (h : n < 1000000) : nI n = -nI 1 ↔ False := by
  have := nI_nn h
  refine iff_false_intro (fun q => ?_)
  rw [q] at this; exact absurd this (by decide)
theorem nI_ltm {n : Nat} (h : n < 1000000) : nI n < 0 ↔ False := by
  have := nI_nn h
  refine iff_false_intro (fun q => ?_)
  lia
theorem jr_of {S : JS} {h k r : Nat} (e : jR S h k = some r) : jr S h k = r := by rw [jr, e]; rfl
/-! THE CLASS'S LAWS -/
def LawC (S : JS) (hk hs ht he hc : Nat) (row : Nat → Int32) (base i : Nat) : Prop := ∃ m : Nat, m < 3 ∧ row (base + 2 + 8 * i) = nI m ∧ jI S hk i = nI (m + 17) ∧ ∃ a b e a' b' e' : Nat, (a ≤ b ∧ b ≤ e ∧ e ≤ 400 ∧ a' ≤ b' ∧ b' ≤ e' ∧ e' ≤ jZ S hc) ∧ (row (base + 2 + 8 * i + 3) = nI a ∧ row (base + 2 + 8 * i + 4) = nI b ∧ row (base + 2 + 8 * i + 5) = nI b ∧ row (base + 2 + 8 * i + 6) = nI e) ∧ (jI S hs i = nI a' ∧ jI S ht i = nI b' ∧ jI S he i = nI e') ∧ (¬ m = 2 → ∃ f, mD (gOp row base) (gArg row base) a b f ∧ cD (jI S hc) 20 a' b' f ∧ fB f) ∧ ((b = e ∧ b' = e') ∨ (b < e ∧ b' < e' ∧ ∃ g, mD (gOp row base) (gArg row base) b e g ∧ cD (jI S hc) 20 b' e' g ∧ fZ g))
def LawR (S : JS) (h : Nat) (row : Nat → Int32) (base : Nat) : Prop := 69 ≤ h ∧ jA S h 3 ∧ ∃ hk hs ht he hc n : Nat, (69 ≤ hk ∧ 69 ≤ hs ∧ 69 ≤ ht ∧ 69 ≤ he ∧ 69 ≤ hc) ∧ (jR S h 1 = some hk ∧ jR S h 2 = some hs ∧ jR S h 3 = some ht ∧ jR S h 4 = some he ∧ jR S h 5 = some hc) ∧ (jA S hk 13 ∧ jA S hs 13 ∧ jA S ht 13 ∧ jA S he 13 ∧ jA S hc 13) ∧ (jZ S hk = n ∧ jZ S hs = n ∧ jZ S ht = n ∧ jZ S he = n ∧ jZ S hc ≤ 400) ∧ n ≤ 12 ∧ row (base + 1) = nI n ∧ jI S h 0 = nI n ∧ ∀ i, i < n → LawC S hk hs ht he hc row base i
/-- a clause, as both see it -/
theorem gSo_of {S : JS} {hk hs ht he hc : Nat} {row : Nat → Int32} {base i : Nat} {env : Nat → Int64} (h : LawC S hk hs ht he hc row base i) : ∃ m a b e a' b' e' : Nat, (m < 3 ∧ row (base + 2 + 8 * i) = nI m ∧ jI S hk i = nI (m + 17)) ∧ (a' ≤ b' ∧ b' ≤ e' ∧ e' ≤ jZ S hc) ∧ (jI S hs i = nI a' ∧ jI S ht i = nI b' ∧ jI S he i = nI e') ∧ ∃ f : JF, (¬ m = 2 → cD (jI S hc) 20 a' b' f ∧ fB f) ∧ (m = 2 → f env = some 1) ∧ ∃ g : JF, (b' = e' → g env = some 1) ∧ (b' < e' → cD (jI S hc) 20 b' e' g) ∧ (b' = e' ∨ b' < e') ∧ fZ g ∧ gSo row base i env = (g env).bind (fun v => if v = 0 then none else f env) ∧ a ≤ b ∧ b ≤ e := by
  obtain ⟨m, hm, e1, e2, a, b, e, a', b', e', ⟨q1, q2, q3, q4, q5, q6⟩, ⟨r3, r4, r5, r6⟩, s, hf, hg⟩ := h
  have e2' : (row (base + 2 + 8 * i) = 2) ↔ m = 2 := by rw [e1, li_2, nI_eq' (by omega) (by omega)]
  have F : ∃ f : JF, (¬ m = 2 → cD (jI S hc) 20 a' b' f ∧ fB f) ∧ (m = 2 → f env = some 1) ∧ gSum row base i env = f env := by
    by_cases c : m = 2
    · exact ⟨fNum 1, fun z => absurd c z, fun _ => rfl, by rw [gSum, if_pos (e2'.mpr c)]; rfl⟩
    · obtain ⟨f, f1, f2, f3⟩ := hf c
      refine ⟨f, fun _ => ⟨f2, f3⟩, fun z => absurd z c, ?_⟩
      rw [gSum, if_neg (fun z => c (e2'.mp z)), r3, r4]; exact gEv_of f1 (by omega)
  obtain ⟨f, f1, f2, f3⟩ := F
  rcases hg with ⟨g1, g2⟩ | ⟨g1, lt, g, g2, g3, g4⟩
  · refine ⟨m, a, b, e, a', b', e', ⟨hm, e1, e2⟩, ⟨q4, q5, q6⟩, s, f, f1, f2, fNum 1, fun _ => rfl, fun z => by omega, Or.inl g2, ?_, ?_, q1, q2⟩
    · intro env v h; simp only [fNum, Option.some.injEq] at h; exact Or.inr h.symm
    · rw [gSo, r5, r6, if_neg (by rw [nI_lt' (by omega) (by omega)]; omega), f3]; rfl
  · refine ⟨m, a, b, e, a', b', e', ⟨hm, e1, e2⟩, ⟨q4, q5, q6⟩, s, f, f1, f2, g, fun z => by omega, fun _ => g3, Or.inr lt, g4, ?_, q1, q2⟩
    rw [gSo, r5, r6, if_pos (by rw [nI_lt' (by omega) (by omega)]; omega), f3, gEv_of g2 (by omega)]
/-- the class's work on a test -/
theorem work_t {S : JS} {Q : Int64 → JS → Prop} {hc b e : Nat} {g : JF} {env : Nat → Int64} (hs : jSh S) (hA : jA S hc 13) (hcs : jZ S hc ≤ 400) (h69 : 69 ≤ hc) (hb : e ≤ jZ S hc) (h0 : b = e → g env = some 1) (h1 : b < e → cD (jI S hc) 20 b e g) (h2 : b = e ∨ b < e) (he : ∀ k, 0 < k → k < 7 → (jI S 25 k).toInt64 = env k) (hv : ∀ v, g env = some v → ∀ S', jFr [24, 26] S S' → Q v S') (hn : g env = none → ∀ S', jFr [24, 26] S S' → Q 1000000001 S') : wX0_work 24 hc (nI b) (nI e) S Q := by
  rcases h2 with q | q
  · subst q
    exact sX0_work0 hs (by omega) (fun S' f => hv 1 (h0 rfl) S' f)
  · exact sX0_work hs hA rfl hcs h69 hb (h1 q) he hv hn
theorem gCut_min (v : Int64) : (if (if v < 99 then v else 99) < 0 then 0 else if v < 99 then v else 99).toInt32 = gCut v := by
  unfold gCut
  by_cases h1 : v < 99
  · simp only [if_pos h1]
    by_cases h2 : v < 0
    · rw [if_pos h2, if_pos h2]; rfl
    · rw [if_neg h2, if_neg h2, if_neg (by lia)]
  · simp only [if_neg h1]
    rw [if_neg (by decide), if_neg (by lia)]
    by_cases h2 : 99 < v
    · rw [if_pos h2]; rfl
    · rw [if_neg h2, show v = 99 by lia]
theorem sX0_told {S : JS} {Q : Int32 → JS → Prop} {h base m n : Nat} {row : Nat → Int32} {env : Nat → Int64} (hs : jSh S) (hl : LawR S h row base) (hm : m < 2) (hn : row (base + 1) = nI n) (hn12 : n ≤ 12) (he : ∀ k, 0 < k → k < 7 → (jI S 25 k).toInt64 = env k) (hb : ∀ k, -1000 ≤ env k ∧ env k ≤ 1000) (hq : ∀ S', jFr [24, 26] S S' → Q (gCut (gT row base (nI m) env n)) S') : wX0_told 24 (some h) (nI (m + 17)) S Q := by
  obtain ⟨h69, hA, hk, h2, ht, h4, hc, n', ⟨l1, l2, l3, l4, l5⟩, ⟨r1, r2, r3, r4, r5⟩, ⟨A1, A2, A3, A4, A5⟩, ⟨z1, z2, z3, z4, z5⟩, hn', en, e0, hC⟩ := hl
  have : n' = n := by rw [en, nI_eq' (by omega) (by omega)] at hn; exact hn
  subst this
  unfold wX0_told
  refine ⟨fun q => by (cases q), fun p1h e => ?_⟩
  cases e
  refine ⟨hA, ?_⟩
  intro x2 hx2
  unfold wX0_told_9
  refine jLoop.cnt n' (fun j q => ∃ S', q = (24, h, nI (m + 17), nI (n' - j) - 1, S') ∧ jFr [24, 26] S S' ∧ gT row base (nI m) env n' = gT row base (nI m) env (n' - j)) 0 (Nat.zero_le _) ?_ ⟨S, by rw [hx2, e0]; rfl, jFr.refl _ _, rfl⟩
  rintro j _ hj ⟨S1, rfl, f1, eT⟩
  have hs1 : jSh S1 := f1.sh.mpr hs
  unfold bX0_told_9 wX0_told_56
  rcases Nat.eq_zero_or_pos (n' - j) with c0 | c0
  · rw [c0] at eT ⊢
    refine ⟨fun _ => ?_, fun q => absurd (show nI 0 - 1 < 0 by decide) q⟩
    have := hq S1 f1
    rw [eT, gT, if_neg (by rw [li_2, nI_eq' (by omega) (by omega)]; omega)] at this
    exact this
  obtain ⟨k, hk0⟩ : ∃ k, n' - j = k + 1 := ⟨n' - j - 1, by omega⟩
  have hk1 : n' - (j + 1) = k := by omega
  rw [hk0] at eT ⊢
  rw [hk1]
  have nxt : ∀ S2, jFr [24, 26] S S2 → gT row base (nI m) env n' = gT row base (nI m) env k → (j < n' ∧ ∃ S', (24, h, nI (m + 17), nI k + -1, S2) = (24, h, nI (m + 17), nI k - 1, S') ∧ jFr [24, 26] S S' ∧ gT row base (nI m) env n' = gT row base (nI m) env k) := by
    intro S2 f2 e2
    refine ⟨by omega, S2, ?_, f2, e2⟩
    rw [show nI k + -1 = nI k - 1 by lia]
  obtain ⟨mk, a, b, e, a', b', e', ⟨m3, k1, k2⟩, ⟨q4, q5, q6⟩, ⟨s1, s2, s3⟩, f, F1, F2, g, G1, G2, G3, G4, gs, _, _⟩ := gSo_of (env := env) (hC k (by omega))
  have i1 : ∀ x, 69 ≤ x → jI S1 x = jI S x := fun x hx => f1.I x (by simp only [List.mem_cons, List.not_mem_nil, or_false]; omega)
  rw [nI_m1 (by omega), show k + 1 - 1 = k by omega]
  simp only [f1.R, f1.r, f1.Z, f1.A, hA, A1, A2, A3, A4, A5, r1, r2, r3, r4, r5, jr_of r1, jr_of r2, jr_of r3, jr_of r4, jr_of r5, z1, z2, z3, z4, i1 hk l1, i1 ht l3, i1 h4 l4, i1 h2 l2, shA_24 hs, shA_24 hs1, ne_eq, not_false_eq_true, not_true_eq_false, reduceCtorEq, Nat.reduceEqDiff, forall_eq, true_and, and_true, true_implies, forall_const, implies_true, List.mem_cons, List.not_mem_nil, or_false, false_or, or_self, if_true, if_false, reduceIte, Nat.reduceAdd, Nat.reduceMul, Nat.reduceLT, false_implies, Decidable.not_not, bI_eq0, bI_eq1, upd_at, updL_at, Nat.succ_ne_zero, Int32.reduceToNatClampNeg]
  simp (disch := omega) only [nI_tn, nI_inT, k2, s1, s2, s3, nI_ltm, nI_eq', ne_eq, not_false_eq_true, not_true_eq_false, reduceCtorEq, Nat.reduceEqDiff, forall_eq, true_and, and_true, true_implies, forall_const, implies_true, List.mem_cons, List.not_mem_nil, or_false, false_or, or_self, if_true, if_false, reduceIte, Nat.reduceAdd, Nat.reduceMul, Nat.reduceLT, false_implies, Decidable.not_not, bI_eq0, bI_eq1, upd_at, updL_at, Nat.succ_ne_zero, Int32.reduceToNatClampNeg]
  have hT : gT row base (nI m) env (k + 1) = if mk = m then (gSo row base k env).getD (gT row base (nI m) env k) else gT row base (nI m) env k := by
    rw [gT, k1]; simp (disch := omega) only [nI_eq']
  refine ⟨fun q => ?_, fun q => ?_⟩
  · exact nxt S1 f1 (by rw [eT, hT, if_neg (by omega)])
  · have hmk : mk = m := by omega
    rw [if_pos hmk, gs] at hT
    refine work_t hs1 ((f1.A _ _).mpr A5) (by rw [f1.Z]; exact z5) l5 (by rw [f1.Z]; exact q6) G1 (by rw [i1 hc l5]; exact G2) G3 (by rw [f1.I 25 (by decide)]; exact he) (fun v ev S2 f2 => ?_) (fun ev S2 f2 => ?_)
    · have hs2 : jSh S2 := f2.sh.mpr hs1
      have f3 := f1.tr f2
      have i2 : ∀ x, 69 ≤ x → jI S2 x = jI S x := fun x hx => f3.I x (by simp only [List.mem_cons, List.not_mem_nil, or_false]; omega)
      simp only [f3.R, f3.r, f3.Z, f3.A, hA, A1, A2, A3, A4, A5, r1, r2, r3, r4, r5, jr_of r1, jr_of r2, jr_of r3, jr_of r4, jr_of r5, z1, z2, z3, z4, i2 hk l1, i2 ht l3, i2 h4 l4, i2 h2 l2, shA_24 hs, shA_24 hs2, lg_cmp_eq, ne_eq, not_false_eq_true, not_true_eq_false, reduceCtorEq, Nat.reduceEqDiff, forall_eq, true_and, and_true, true_implies, forall_const, implies_true, List.mem_cons, List.not_mem_nil, or_false, false_or, or_self, if_true, if_false, reduceIte, Nat.reduceAdd, Nat.reduceMul, Nat.reduceLT, false_implies, Decidable.not_not, bI_eq0, bI_eq1, upd_at, updL_at, Nat.succ_ne_zero, Int32.reduceToNatClampNeg]
      simp (disch := omega) only [nI_tn, nI_inT, k2, s1, s2, s3, ne_eq, not_false_eq_true, not_true_eq_false, reduceCtorEq, Nat.reduceEqDiff, forall_eq, true_and, and_true, true_implies, forall_const, implies_true, List.mem_cons, List.not_mem_nil, or_false, false_or, or_self, if_true, if_false, reduceIte, Nat.reduceAdd, Nat.reduceMul, Nat.reduceLT, false_implies, Decidable.not_not, bI_eq0, bI_eq1, upd_at, updL_at, Nat.succ_ne_zero, Int32.reduceToNatClampNeg]
      rw [ev] at hT
      refine ⟨fun q1 => ?_, fun q1 => ?_⟩
      · refine nxt S2 f3 ?_
        rw [eT, hT]
        rcases G4 env v ev with z | z
        · rw [z]; rfl
        · exact absurd z q1
      · subst q1
        obtain ⟨F1, F3⟩ := F1 (by omega)
        refine sX0_work hs2 ((f3.A _ _).mpr A5) rfl (by rw [f3.Z]; exact z5) l5 (by rw [f3.Z]; omega) (by rw [i2 hc l5]; exact F1) (by rw [f3.I 25 (by decide)]; exact he) (fun v2 ev2 S4 f4 => ?_) (fun ev2 S4 f4 => ?_)
        · have bd := F3 env hb v2 ev2
          refine ⟨fun z => by lia, fun _ => ?_⟩
          have := hq S4 (f3.tr f4)
          rw [eT, hT, ev2] at this
          rw [gCut_min]; exact this
        · exact ⟨fun _ => nxt S4 (f3.tr f4) (by rw [eT, hT, ev2]; rfl), fun z => absurd rfl z⟩
    · rw [ev] at hT
      refine ⟨fun _ => nxt S2 (f1.tr f2) (by rw [eT, hT]; rfl), fun z => ?_⟩
      rw [lg_cmp_eq] at z; exact absurd z (by decide)
theorem gSo2 {row : Nat → Int32} {base c : Nat} {env : Nat → Int64} (h : row (base + 2 + 8 * c) = 2) : gSo row base c env = none ∨ gSo row base c env = some 1 := by
  unfold gSo gSum
  rw [if_pos h]
  split
  · cases gEv row base (row (base + 2 + 8 * c + 5)).toNatClampNeg (row (base + 2 + 8 * c + 6)).toNatClampNeg env with
    | none => exact Or.inl rfl
    | some w => 
      simp only [Option.bind_some]
      split
      · exact Or.inl rfl
      · exact Or.inr rfl
  · exact Or.inr rfl
theorem gT2_s {row : Nat → Int32} {base c : Nat} {env : Nat → Int64} (h : gT row base 2 env c = 1) : gT row base 2 env (c + 1) = 1 := by
  rw [gT]
  split
  · rename_i e
    rcases gSo2 (env := env) e with q | q <;> rw [q]
    · exact h
    · rfl
  · exact h
theorem gT2_m {row : Nat → Int32} {base c : Nat} {env : Nat → Int64} (h : gT row base 2 env c = 1) : ∀ k, gT row base 2 env (c + k) = 1
  | 0 => h
  | k + 1 => gT2_s (gT2_m h k)
theorem gT2_z {row : Nat → Int32} {base : Nat} {env : Nat → Int64} : ∀ k, gT row base 2 env k = 0 ∨ gT row base 2 env k = 1
  | 0 => Or.inl rfl
  | k + 1 => by
    rw [gT]
    split
    · rename_i e
      rcases gSo2 (env := env) e with q | q <;> rw [q]
      · exact gT2_z k
      · exact Or.inr rfl
    · exact gT2_z k
theorem sX0_isBarred {S : JS} {Q : Int32 → JS → Prop} {h base n : Nat} {row : Nat → Int32} {env : Nat → Int64} (hs : jSh S) (hl : LawR S h row base) (hn : row (base + 1) = nI n) (hn12 : n ≤ 12) (he : ∀ k, 0 < k → k < 7 → (jI S 25 k).toInt64 = env k) (hq : ∀ S', jFr [24, 26] S S' → Q (gCut (gT row base 2 env n)) S') : wX0_isBarred 24 (some h) S Q := by
  obtain ⟨h69, hA, hk, h2, ht, h4, hc, n', ⟨l1, l2, l3, l4, l5⟩, ⟨r1, r2, r3, r4, r5⟩, ⟨A1, A2, A3, A4, A5⟩, ⟨z1, z2, z3, z4, z5⟩, hn', en, e0, hC⟩ := hl
  have : n' = n := by rw [en, nI_eq' (by omega) (by omega)] at hn; exact hn
  subst this
  unfold wX0_isBarred
  refine ⟨fun q => by (cases q), fun p1h e => ?_⟩
  cases e
  unfold wX0_isBarred_6
  refine jLoop.cnt n' (fun c q => ∃ S', q = (24, h, nI c, S') ∧ jFr [24, 26] S S' ∧ gT row base 2 env c = 0) 0 (Nat.zero_le _) ?_ ⟨S, rfl, jFr.refl _ _, rfl⟩
  rintro c _ hc1 ⟨S1, rfl, f1, eT⟩
  have hs1 : jSh S1 := f1.sh.mpr hs
  have i1 : ∀ x, 69 ≤ x → jI S1 x = jI S x := fun x hx => f1.I x (by simp only [List.mem_cons, List.not_mem_nil, or_false]; omega)
  have nxt : ∀ S2, jFr [24, 26] S S2 → gT row base 2 env (c + 1) = 0 → c < n' → (c < n' ∧ ∃ S', (24, h, nI c + 1, S2) = (24, h, nI (c + 1), S') ∧ jFr [24, 26] S S' ∧ gT row base 2 env (c + 1) = 0) := by
    intro S2 f2 e2 h0
    exact ⟨h0, S2, by rw [nI_1], f2, e2⟩
  unfold bX0_isBarred_6 wX0_isBarred_33
  simp only [f1.R, f1.r, f1.Z, f1.A, hA, A1, A2, A3, A4, A5, r1, r2, r3, r4, r5, jr_of r1, jr_of r2, jr_of r3, jr_of r4, jr_of r5, z1, z2, z3, z4, i1 h h69, i1 hk l1, i1 ht l3, i1 h4 l4, i1 h2 l2, shA_24 hs, shA_24 hs1, e0, ne_eq, not_false_eq_true, not_true_eq_false, reduceCtorEq, Nat.reduceEqDiff, forall_eq, true_and, and_true, true_implies, forall_const, implies_true, List.mem_cons, List.not_mem_nil, or_false, false_or, or_self, if_true, if_false, reduceIte, Nat.reduceAdd, Nat.reduceMul, Nat.reduceLT, false_implies, Decidable.not_not, bI_eq0, bI_eq1, upd_at, updL_at, Nat.succ_ne_zero, Int32.reduceToNatClampNeg]
  rw [nI_le' (by omega) (by omega)]
  refine ⟨fun q => ?_, fun q => ?_⟩
  · have : c = n' := by omega
    subst this
    have := hq S1 f1
    rw [eT] at this; exact this
  obtain ⟨mk, a, b, e, a', b', e', ⟨m3, k1, k2⟩, ⟨q4, q5, q6⟩, ⟨s1, s2, s3⟩, f, F1, F2, g, G1, G2, G3, G4, gs, _, _⟩ := gSo_of (env := env) (hC c (by omega))
  have hT : gT row base 2 env (c + 1) = if mk = 2 then (gSo row base c env).getD (gT row base 2 env c) else gT row base 2 env c := by
    rw [gT, k1]; simp (disch := omega) only [li_2, nI_eq']
  simp (disch := omega) only [nI_tn, nI_inT, k2, s1, s2, s3, li_19, nI_eq', ne_eq, not_false_eq_true, not_true_eq_false, reduceCtorEq, Nat.reduceEqDiff, forall_eq, true_and, and_true, true_implies, forall_const, implies_true, List.mem_cons, List.not_mem_nil, or_false, false_or, or_self, if_true, if_false, reduceIte, Nat.reduceAdd, Nat.reduceMul, Nat.reduceLT, false_implies, Decidable.not_not, bI_eq0, bI_eq1, upd_at, updL_at, Nat.succ_ne_zero, Int32.reduceToNatClampNeg]
  refine ⟨fun q => ?_, fun q => ?_⟩
  · exact nxt S1 f1 (by rw [hT, if_neg (by omega)]; exact eT) (by omega)
  · have hmk : mk = 2 := by omega
    rw [if_pos hmk, gs, F2 hmk] at hT
    refine work_t hs1 ((f1.A _ _).mpr A5) (by rw [f1.Z]; exact z5) l5 (by rw [f1.Z]; exact q6) G1 (by rw [i1 hc l5]; exact G2) G3 (by rw [f1.I 25 (by decide)]; exact he) (fun v ev S2 f2 => ?_) (fun ev S2 f2 => ?_)
    · rw [ev] at hT
      simp only [lg_cmp_eq]
      refine ⟨fun q1 => ?_, fun q1 => ?_⟩
      · refine nxt S2 (f1.tr f2) ?_ (by omega)
        rw [hT]
        rcases G4 env v ev with z | z
        · rw [z]; exact eT
        · exact absurd z q1
      · subst q1
        have h1 : gT row base 2 env (c + 1) = 1 := hT
        have := gT2_m h1 (n' - (c + 1))
        rw [show c + 1 + (n' - (c + 1)) = n' by omega] at this
        have h2 := hq S2 (f1.tr f2)
        rw [this] at h2; exact h2
    · rw [ev] at hT
      simp only [lg_cmp_eq]
      exact ⟨fun _ => nxt S2 (f1.tr f2) (by rw [hT]; exact eT) (by omega), fun z => absurd z (by decide)⟩
