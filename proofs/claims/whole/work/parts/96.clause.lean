/-! BOTH READERS AT ONCE: a clause -/
def CC (e : Nat) (A sg vl : Nat → Nat) (S : JS) (i l c q : Nat) : Prop := CT e A sg vl S i l c ∧ jI S 14 7 = nI q
def CFc (S S' : JS) (c q : Nat) : Prop := jFr [14, 16, 17, 18, 19, 20] S S' ∧ jFk 14 [7, 8, 11, 12, 13] S S' ∧ (∀ k, k < c → jI S' 20 k = jI S 20 k) ∧ ∀ k, k < q → jI S' 16 k = jI S 16 k ∧ jI S' 17 k = jI S 17 k ∧ jI S' 18 k = jI S 18 k ∧ jI S' 19 k = jI S 19 k
def CXc (S S' : JS) (i : Nat) : Prop := jFr [14, 16, 17, 18, 19, 20] S S' ∧ jFk 14 [7, 8, 11, 12, 13] S S' ∧ jI S' 14 11 = nI i
def MFc (M M' : JS) (n q : Nat) : Prop := jFr [45, 51, 52, 53, 54, 55] M M' ∧ jFk 45 [9, 10, 11, 12, 13, 14, 15, 17, 20, 23, 24] M M' ∧ (∀ k, k < n → jI M' 52 k = jI M 52 k ∧ jI M' 53 k = jI M 53 k) ∧ ∀ k, k < 8 * q → jI M' 51 k = jI M 51 k
def MXc (M M' : JS) (p : Nat) : Prop := jFr [45, 51, 52, 53, 54, 55] M M' ∧ jFk 45 [9, 10, 11, 12, 13, 14, 15, 17, 20, 23, 24] M M' ∧ jI M' 45 14 = 1 ∧ jI M' 45 13 = nI p
def ClS (S : JS) (k c m h : Nat) (f g : JF) : Prop := jI S 16 k = nI (m + 17) ∧ ∃ a b e : Nat, (a ≤ b ∧ b ≤ e ∧ e ≤ c) ∧ (jI S 17 k = nI a ∧ jI S 18 k = nI b ∧ jI S 19 k = nI e) ∧ (¬ m = 2 → cD (jI S 20) 20 a b f) ∧ ((h = 0 ∧ b = e) ∨ (h = 1 ∧ b < e ∧ cD (jI S 20) 20 b e g))
def ClM (M : JS) (k n m h : Nat) (f g : JF) : Prop := jI M 51 (8 * k) = nI m ∧ ∃ a b e : Nat, (a ≤ b ∧ b ≤ e ∧ e ≤ n) ∧ (jI M 51 (8 * k + 3) = nI a ∧ jI M 51 (8 * k + 4) = nI b ∧ jI M 51 (8 * k + 5) = nI b ∧ jI M 51 (8 * k + 6) = nI e) ∧ (¬ m = 2 → mD (jI M 52) (jI M 53) a b f) ∧ ((h = 0 ∧ b = e) ∨ (h = 1 ∧ b < e ∧ mD (jI M 52) (jI M 53) b e g))
section CLAUSE
variable {t e i l n b o c q : Nat} {A B sg vl so bb : Nat → Nat} {wo : Nat → Int64} {S S' S1 S2 M M' M2 M0 : JS} {f : JF} {test : Int32}
theorem CT.fr (h : CT e A sg vl S i l c) (f : jFr [16, 17, 18, 19] S S') : CT e A sg vl S' i l c := by
  obtain ⟨hs, h1, h2, h3⟩ := h
  exact ⟨f.sh.mpr hs, by rw [f.I 14 (by decide)]; exact h1, h2, by rw [f.I 21 (by decide), f.I 22 (by decide)]; exact h3⟩
theorem CT.fk (h : CT e A sg vl S i l c) (f : jFr [14] S S') (k : jFk 14 [7] S S') : CT e A sg vl S' i l c := by
  obtain ⟨hs, ⟨g1, g2, g3, g4⟩, h2, h3⟩ := h
  exact ⟨f.sh.mpr hs, ⟨by rw [k.I 11 (by decide)]; exact g1, by rw [k.I 12 (by decide)]; exact g2, by rw [k.I 13 (by decide)]; exact g3, by rw [k.I 8 (by decide)]; exact g4⟩, h2, by rw [f.I 21 (by decide), f.I 22 (by decide)]; exact h3⟩
theorem CFc.refl : CFc S S c q := ⟨jFr.refl _ _, jFk.refl _ _ _, fun _ _ => rfl, fun _ _ => ⟨rfl, rfl, rfl, rfl⟩⟩
theorem CFc.tr {c1 q1 : Nat} (f : CFc S S1 c q) (g : CFc S1 S2 c1 q1) (h : c ≤ c1) (h2 : q ≤ q1) : CFc S S2 c q := ⟨f.1.tr g.1, f.2.1.tr g.2.1, fun k hk => (g.2.2.1 k (by omega)).trans (f.2.2.1 k hk), fun k hk => by
  obtain ⟨a1, a2, a3, a4⟩ := g.2.2.2 k (by omega)
  rw [a1, a2, a3, a4]; exact f.2.2.2 k hk⟩
theorem CF.toc (f : CF S S1 c) : CFc S S1 c q := ⟨f.1.mono (by decide), f.2.1.mono (by decide), f.2.2, fun k _ => by rw [f.1.I 16 (by decide), f.1.I 17 (by decide), f.1.I 18 (by decide), f.1.I 19 (by decide)]; exact ⟨rfl, rfl, rfl, rfl⟩⟩
theorem CFc.cx (f : CFc S S1 c q) (g : CXc S1 S2 i) : CXc S S2 i := ⟨f.1.tr g.1, f.2.1.tr g.2.1, g.2.2⟩
theorem CX.toc (f : CX S S1 i) : CXc S S1 i := ⟨f.1.mono (by decide), f.2.1.mono (by decide), f.2.2.1⟩
theorem MC.fr (h : MC t e A B so bb wo M i l n) (f : jFr [45, 51] M M') (k : jFk 45 [15] M M') : MC t e A B so bb wo M' i l n := by
  obtain ⟨⟨hs, hc⟩, ⟨t1, t2, t3, t4, t5, t6⟩, ⟨g1, g2, g3⟩, h1⟩ := h
  refine ⟨⟨f.sh.mpr hs, hc.fr f (by decide)⟩, ⟨?_, ?_, ?_, ?_, ?_, ?_⟩, ⟨?_, ?_, ?_⟩, h1⟩
  · rw [k.I 8 (by decide)]; exact t1
  · rw [k.I 9 (by decide)]; exact t2
  · rw [k.I 10 (by decide)]; exact t3
  · rw [k.I 11 (by decide)]; exact t4
  · rw [k.J 12 (by decide)]; exact t5
  · exact ⟨by rw [f.I 50 (by decide)]; exact t6.1, by rw [k.I 13 (by decide)]; exact t6.2⟩
  · rw [k.I 14 (by decide)]; exact g1
  · rw [k.I 17 (by decide)]; exact g2
  · rw [k.I 20 (by decide)]; exact g3
theorem MFc.tr {n1 q1 : Nat} (f : MFc M M' n q) (g : MFc M' M2 n1 q1) (h : n ≤ n1) (h2 : q ≤ q1) : MFc M M2 n q := ⟨f.1.tr g.1, f.2.1.tr g.2.1, fun k hk => ⟨(g.2.2.1 k (by omega)).1.trans (f.2.2.1 k hk).1, (g.2.2.1 k (by omega)).2.trans (f.2.2.1 k hk).2⟩, fun k hk => (g.2.2.2 k (by omega)).trans (f.2.2.2 k hk)⟩
theorem MF.toc (f : MF M M' n 0) : MFc M M' n q := ⟨f.1.mono (by decide), f.2.1.mono (by decide), f.2.2.1, fun k _ => by rw [f.1.I 51 (by decide)]⟩
theorem MX.toc {p : Nat} (f : MX M M' p) : MXc M M' p := ⟨f.1.mono (by decide), f.2.1.mono (by decide), f.2.2⟩
theorem MFc.mx {p : Nat} (f : MFc M M' n q) (g : MXc M' M2 p) : MXc M M2 p := ⟨f.1.tr g.1, f.2.1.tr g.2.1, g.2.2⟩
theorem MFc.of51 (f : jFr [51] M M') (g : ∀ k, k < 8 * q → jI M' 51 k = jI M 51 k) : MFc M M' n q := ⟨f.mono (by decide), jFk.of f (by decide), fun k _ => by rw [f.I 52 (by decide), f.I 53 (by decide)]; exact ⟨rfl, rfl⟩, g⟩
/-! the class -/
theorem cl_head {G : Nat → List Value → JS → (Option Value → JS → Prop) → Prop} {Q : Int32 → JS → Prop} (hx : Cx t e A B sg vl so bb wo) (h : CC e A sg vl S i l c q) (hq : q < 12) (h1 : 17 ≤ sg i) (h2 : sg i ≤ 19) (hQ : ∀ S', CFc S S' c q → CC e A sg vl S' (i + 1) l c q → jI S' 16 q = nI (sg i) → jI S' 17 q = nI c → (sg i = 19 → wX5_readClause_43 G 14 S' Q) ∧ (¬ sg i = 19 → G 41 [.ref 14, .int 0] S' (jqI (fun r34 S33 => (¬ r34 = 0 → wX5_readClause_43 G 14 S33 Q) ∧ (r34 = 0 → Q 0 S33))))) : wX5_readClause G 14 S Q := by
  obtain ⟨hc, h7⟩ := h
  have hs := hc.1
  have hi := hc.2.2.1.1
  unfold wX5_readClause
  refine ⟨shA_14 hs, fun x2 e2 => ?_⟩
  rw [hc.2.1.2.1] at e2
  subst e2
  rw [h7, li_12, nI_le' (by omega) (by omega), li_17, nI_lt' (by omega) (by omega), li_19, nI_le' (by omega) (by omega), nI_eq' (by omega) (by omega)]
  refine ⟨fun z => by omega, fun _ => ⟨fun z => by omega, fun _ => ⟨fun _ => ?_, fun z => absurd h2 z⟩⟩⟩
  refine sX5_next hx.1 hc (by omega) (fun S3 f3 k3 h3 => ?_)
  have hs3 := h3.1
  have g7 : jI S3 14 7 = nI q := by rw [k3.I 7 (by decide)]; exact h7
  simp only [shA_14, shA_16, shZ_16, shR_14_0, shr_14_0, shR_14_2, shr_14_2, shR_14_3, shr_14_3, shR_14_4, shr_14_4, shR_14_5, shr_14_5, shR_14_6, shr_14_6, shR_14_9, shr_14_9, shR_14_10, shr_14_10, hs3, g7, ne_eq, not_false_eq_true, not_true_eq_false, reduceCtorEq, Nat.reduceEqDiff, forall_eq, true_and, and_true, true_implies, forall_const, implies_true, List.mem_cons, List.not_mem_nil, or_false, false_or, or_self, if_true, if_false, reduceIte, Nat.reduceAdd, Nat.reduceMul, Nat.reduceLT, false_implies, Decidable.not_not, bI_eq0, bI_eq1, upd_at, updL_at, Nat.succ_ne_zero, Int32.reduceToNatClampNeg, eq_self, i01, i10]
  rw [nI_tn (by omega)]
  refine ⟨nI_in2 (by omega) (by omega), ?_⟩
  have f4 : jFr [16] S3 (uI S3 16 q (nI (sg i))) := (jFr.refl _ _).uI (by decide)
  have hs4 := f4.sh.mpr hs3
  have g74 : jI (uI S3 16 q (nI (sg i))) 14 7 = nI q := by simp only [jN_uI, jN_uJ, jN_uR, jK_uI, jK_uJ, jK_uR, jZ_uI, jZ_uJ, jZ_uR, jR_uI, jR_uJ, jr_uI, jr_uJ, jI_uJ, jI_uR, jJ_uI, jJ_uR, jI_uI_eq, jI_uI_ne, jJ_uJ_eq, jJ_uJ_ne, jSh_uI, jSh_uJ, jA_uI, jA_uJ, jA_uR, jI_uIf_eq, jI_uIf_ne, jJ_uIf, jR_uIf, jr_uIf, jZ_uIf, jSh_uIf, jA_uIf, ne_eq, not_false_eq_true, not_true_eq_false, reduceCtorEq, Nat.reduceEqDiff, forall_eq, true_and, and_true, true_implies, forall_const, implies_true, List.mem_cons, List.not_mem_nil, or_false, false_or, or_self, if_true, if_false, reduceIte, Nat.reduceAdd, Nat.reduceMul, Nat.reduceLT, false_implies, Decidable.not_not, bI_eq0, bI_eq1, upd_at, updL_at, Nat.succ_ne_zero, Int32.reduceToNatClampNeg, eq_self, i01, i10]; exact g7
  have g84 : jI (uI S3 16 q (nI (sg i))) 14 8 = nI c := by simp only [jN_uI, jN_uJ, jN_uR, jK_uI, jK_uJ, jK_uR, jZ_uI, jZ_uJ, jZ_uR, jR_uI, jR_uJ, jr_uI, jr_uJ, jI_uJ, jI_uR, jJ_uI, jJ_uR, jI_uI_eq, jI_uI_ne, jJ_uJ_eq, jJ_uJ_ne, jSh_uI, jSh_uJ, jA_uI, jA_uJ, jA_uR, jI_uIf_eq, jI_uIf_ne, jJ_uIf, jR_uIf, jr_uIf, jZ_uIf, jSh_uIf, jA_uIf, ne_eq, not_false_eq_true, not_true_eq_false, reduceCtorEq, Nat.reduceEqDiff, forall_eq, true_and, and_true, true_implies, forall_const, implies_true, List.mem_cons, List.not_mem_nil, or_false, false_or, or_self, if_true, if_false, reduceIte, Nat.reduceAdd, Nat.reduceMul, Nat.reduceLT, false_implies, Decidable.not_not, bI_eq0, bI_eq1, upd_at, updL_at, Nat.succ_ne_zero, Int32.reduceToNatClampNeg, eq_self, i01, i10]; exact h3.2.1.2.2.2
  have e16 : jI (uI S3 16 q (nI (sg i))) 16 q = nI (sg i) := by simp only [jN_uI, jN_uJ, jN_uR, jK_uI, jK_uJ, jK_uR, jZ_uI, jZ_uJ, jZ_uR, jR_uI, jR_uJ, jr_uI, jr_uJ, jI_uJ, jI_uR, jJ_uI, jJ_uR, jI_uI_eq, jI_uI_ne, jJ_uJ_eq, jJ_uJ_ne, jSh_uI, jSh_uJ, jA_uI, jA_uJ, jA_uR, jI_uIf_eq, jI_uIf_ne, jJ_uIf, jR_uIf, jr_uIf, jZ_uIf, jSh_uIf, jA_uIf, ne_eq, not_false_eq_true, not_true_eq_false, reduceCtorEq, Nat.reduceEqDiff, forall_eq, true_and, and_true, true_implies, forall_const, implies_true, List.mem_cons, List.not_mem_nil, or_false, false_or, or_self, if_true, if_false, reduceIte, Nat.reduceAdd, Nat.reduceMul, Nat.reduceLT, false_implies, Decidable.not_not, bI_eq0, bI_eq1, upd_at, updL_at, Nat.succ_ne_zero, Int32.reduceToNatClampNeg, eq_self, i01, i10]
  have n16 : ∀ k, k < q → jI (uI S3 16 q (nI (sg i))) 16 k = jI S3 16 k := fun k hk => by simp only [jN_uI, jN_uJ, jN_uR, jK_uI, jK_uJ, jK_uR, jZ_uI, jZ_uJ, jZ_uR, jR_uI, jR_uJ, jr_uI, jr_uJ, jI_uJ, jI_uR, jJ_uI, jJ_uR, jI_uI_eq, jI_uI_ne, jJ_uJ_eq, jJ_uJ_ne, jSh_uI, jSh_uJ, jA_uI, jA_uJ, jA_uR, jI_uIf_eq, jI_uIf_ne, jJ_uIf, jR_uIf, jr_uIf, jZ_uIf, jSh_uIf, jA_uIf, ne_eq, not_false_eq_true, not_true_eq_false, reduceCtorEq, Nat.reduceEqDiff, forall_eq, true_and, and_true, true_implies, forall_const, implies_true, List.mem_cons, List.not_mem_nil, or_false, false_or, or_self, if_true, if_false, reduceIte, Nat.reduceAdd, Nat.reduceMul, Nat.reduceLT, false_implies, Decidable.not_not, bI_eq0, bI_eq1, upd_at, updL_at, Nat.succ_ne_zero, Int32.reduceToNatClampNeg, eq_self, i01, i10]; rw [if_neg (by omega)]
  generalize uI S3 16 q (nI (sg i)) = S4 at f4 hs4 g74 g84 e16 n16 ⊢
  simp only [shA_14, shA_17, shZ_17, shR_14_0, shr_14_0, shR_14_2, shr_14_2, shR_14_3, shr_14_3, shR_14_4, shr_14_4, shR_14_5, shr_14_5, shR_14_6, shr_14_6, shR_14_9, shr_14_9, shR_14_10, shr_14_10, hs4, g74, g84, ne_eq, not_false_eq_true, not_true_eq_false, reduceCtorEq, Nat.reduceEqDiff, forall_eq, true_and, and_true, true_implies, forall_const, implies_true, List.mem_cons, List.not_mem_nil, or_false, false_or, or_self, if_true, if_false, reduceIte, Nat.reduceAdd, Nat.reduceMul, Nat.reduceLT, false_implies, Decidable.not_not, bI_eq0, bI_eq1, upd_at, updL_at, Nat.succ_ne_zero, Int32.reduceToNatClampNeg, eq_self, i01, i10]
  rw [nI_tn (by omega)]
  refine ⟨nI_in2 (by omega) (by omega), ?_⟩
  have f5 : jFr [16, 17, 18, 19] S3 (uI S4 17 q (nI c)) := (f4.mono (by decide)).uI (by decide)
  have f6 : jFr [17] S4 (uI S4 17 q (nI c)) := (jFr.refl _ _).uI (by decide)
  have keep : ∀ k, k < q → jI (uI S4 17 q (nI c)) 16 k = jI S3 16 k ∧ jI (uI S4 17 q (nI c)) 17 k = jI S3 17 k ∧ jI (uI S4 17 q (nI c)) 18 k = jI S3 18 k ∧ jI (uI S4 17 q (nI c)) 19 k = jI S3 19 k := by
    intro k hk
    rw [f6.I 16 (by decide), f6.I 18 (by decide), f6.I 19 (by decide), f4.I 18 (by decide), f4.I 19 (by decide)]
    refine ⟨n16 k hk, ?_, rfl, rfl⟩
    simp only [jN_uI, jN_uJ, jN_uR, jK_uI, jK_uJ, jK_uR, jZ_uI, jZ_uJ, jZ_uR, jR_uI, jR_uJ, jr_uI, jr_uJ, jI_uJ, jI_uR, jJ_uI, jJ_uR, jI_uI_eq, jI_uI_ne, jJ_uJ_eq, jJ_uJ_ne, jSh_uI, jSh_uJ, jA_uI, jA_uJ, jA_uR, jI_uIf_eq, jI_uIf_ne, jJ_uIf, jR_uIf, jr_uIf, jZ_uIf, jSh_uIf, jA_uIf, ne_eq, not_false_eq_true, not_true_eq_false, reduceCtorEq, Nat.reduceEqDiff, forall_eq, true_and, and_true, true_implies, forall_const, implies_true, List.mem_cons, List.not_mem_nil, or_false, false_or, or_self, if_true, if_false, reduceIte, Nat.reduceAdd, Nat.reduceMul, Nat.reduceLT, false_implies, Decidable.not_not, bI_eq0, bI_eq1, upd_at, updL_at, Nat.succ_ne_zero, Int32.reduceToNatClampNeg, eq_self, i01, i10]; rw [if_neg (by omega), f4.I 17 (by decide)]
  have r := hQ (uI S4 17 q (nI c)) ((CF.go (c0 := c) f3 k3).toc.tr (c1 := c) (q1 := q) ⟨f5.mono (by decide), jFk.of f5 (by decide), fun k hk => by rw [f5.I 20 (by decide)], keep⟩ (Nat.le_refl _) (Nat.le_refl _)) ⟨h3.fr f5, by simp only [jN_uI, jN_uJ, jN_uR, jK_uI, jK_uJ, jK_uR, jZ_uI, jZ_uJ, jZ_uR, jR_uI, jR_uJ, jr_uI, jr_uJ, jI_uJ, jI_uR, jJ_uI, jJ_uR, jI_uI_eq, jI_uI_ne, jJ_uJ_eq, jJ_uJ_ne, jSh_uI, jSh_uJ, jA_uI, jA_uJ, jA_uR, jI_uIf_eq, jI_uIf_ne, jJ_uIf, jR_uIf, jr_uIf, jZ_uIf, jSh_uIf, jA_uIf, ne_eq, not_false_eq_true, not_true_eq_false, reduceCtorEq, Nat.reduceEqDiff, forall_eq, true_and, and_true, true_implies, forall_const, implies_true, List.mem_cons, List.not_mem_nil, or_false, false_or, or_self, if_true, if_false, reduceIte, Nat.reduceAdd, Nat.reduceMul, Nat.reduceLT, false_implies, Decidable.not_not, bI_eq0, bI_eq1, upd_at, updL_at, Nat.succ_ne_zero, Int32.reduceToNatClampNeg, eq_self, i01, i10]; exact g74⟩ (by simp only [jN_uI, jN_uJ, jN_uR, jK_uI, jK_uJ, jK_uR, jZ_uI, jZ_uJ, jZ_uR, jR_uI, jR_uJ, jr_uI, jr_uJ, jI_uJ, jI_uR, jJ_uI, jJ_uR, jI_uI_eq, jI_uI_ne, jJ_uJ_eq, jJ_uJ_ne, jSh_uI, jSh_uJ, jA_uI, jA_uJ, jA_uR, jI_uIf_eq, jI_uIf_ne, jJ_uIf, jR_uIf, jr_uIf, jZ_uIf, jSh_uIf, jA_uIf, ne_eq, not_false_eq_true, not_true_eq_false, reduceCtorEq, Nat.reduceEqDiff, forall_eq, true_and, and_true, true_implies, forall_const, implies_true, List.mem_cons, List.not_mem_nil, or_false, false_or, or_self, if_true, if_false, reduceIte, Nat.reduceAdd, Nat.reduceMul, Nat.reduceLT, false_implies, Decidable.not_not, bI_eq0, bI_eq1, upd_at, updL_at, Nat.succ_ne_zero, Int32.reduceToNatClampNeg, eq_self, i01, i10]; exact e16) (by simp only [jN_uI, jN_uJ, jN_uR, jK_uI, jK_uJ, jK_uR, jZ_uI, jZ_uJ, jZ_uR, jR_uI, jR_uJ, jr_uI, jr_uJ, jI_uJ, jI_uR, jJ_uI, jJ_uR, jI_uI_eq, jI_uI_ne, jJ_uJ_eq, jJ_uJ_ne, jSh_uI, jSh_uJ, jA_uI, jA_uJ, jA_uR, jI_uIf_eq, jI_uIf_ne, jJ_uIf, jR_uIf, jr_uIf, jZ_uIf, jSh_uIf, jA_uIf, ne_eq, not_false_eq_true, not_true_eq_false, reduceCtorEq, Nat.reduceEqDiff, forall_eq, true_and, and_true, true_implies, forall_const, implies_true, List.mem_cons, List.not_mem_nil, or_false, false_or, or_self, if_true, if_false, reduceIte, Nat.reduceAdd, Nat.reduceMul, Nat.reduceLT, false_implies, Decidable.not_not, bI_eq0, bI_eq1, upd_at, updL_at, Nat.succ_ne_zero, Int32.reduceToNatClampNeg, eq_self, i01, i10])
  exact ⟨r.1, fun z => ⟨shA_14 (f5.sh.mpr hs3), r.2 z⟩⟩
theorem cl_no {G : Nat → List Value → JS → (Option Value → JS → Prop) → Prop} {Q : Int32 → JS → Prop} (hx : Cx t e A B sg vl so bb wo) (h : CC e A sg vl S i l c q) (hq : q ≤ 12) (hn : ¬ (q < 12 ∧ 17 ≤ sg i ∧ sg i ≤ 19)) (hQ : Q 0 S) : wX5_readClause G 14 S Q := by
  obtain ⟨hc, h7⟩ := h
  have h27 := hx.1.sg27 hc.2.2.1.1
  unfold wX5_readClause
  refine ⟨shA_14 hc.1, fun x2 e2 => ?_⟩
  rw [hc.2.1.2.1] at e2
  subst e2
  rw [h7, li_12, nI_le' (by omega) (by omega), li_17, nI_lt' (by omega) (by omega), li_19, nI_le' (by omega) (by omega)]
  exact ⟨fun _ => hQ, fun z1 => ⟨fun _ => hQ, fun z2 => ⟨fun z3 => absurd ⟨by omega, by omega, z3⟩ hn, fun _ => hQ⟩⟩⟩
theorem cl_60 {G : Nat → List Value → JS → (Option Value → JS → Prop) → Prop} {Q : Int32 → JS → Prop} (h : CC e A sg vl S i l c q) (hq : q < 12) (hQ : ∀ S', CFc S S' c q → CC e A sg vl S' i l c (q + 1) → (jI S' 16 = jI S 16 ∧ jI S' 17 = jI S 17 ∧ jI S' 18 = jI S 18 ∧ jI S' 20 = jI S 20) → jI S' 19 q = nI c → Q 1 S') : wX5_readClause_60 G 14 S Q := by
  obtain ⟨hc, h7⟩ := h
  have hs := hc.1
  have h8 := hc.2.1.2.2.2
  unfold wX5_readClause_60
  simp only [shA_14, shA_19, shZ_19, shR_14_0, shr_14_0, shR_14_2, shr_14_2, shR_14_3, shr_14_3, shR_14_4, shr_14_4, shR_14_5, shr_14_5, shR_14_6, shr_14_6, shR_14_9, shr_14_9, shR_14_10, shr_14_10, hs, h7, h8, ne_eq, not_false_eq_true, not_true_eq_false, reduceCtorEq, Nat.reduceEqDiff, forall_eq, true_and, and_true, true_implies, forall_const, implies_true, List.mem_cons, List.not_mem_nil, or_false, false_or, or_self, if_true, if_false, reduceIte, Nat.reduceAdd, Nat.reduceMul, Nat.reduceLT, false_implies, Decidable.not_not, bI_eq0, bI_eq1, upd_at, updL_at, Nat.succ_ne_zero, Int32.reduceToNatClampNeg, eq_self, i01, i10]
  rw [nI_tn (by omega)]
  refine ⟨nI_in2 (by omega) (by omega), ?_⟩
  have f4 : jFr [19] S (uI S 19 q (nI c)) := (jFr.refl _ _).uI (by decide)
  have e4 : jI (uI S 19 q (nI c)) 19 q = nI c := by simp only [jN_uI, jN_uJ, jN_uR, jK_uI, jK_uJ, jK_uR, jZ_uI, jZ_uJ, jZ_uR, jR_uI, jR_uJ, jr_uI, jr_uJ, jI_uJ, jI_uR, jJ_uI, jJ_uR, jI_uI_eq, jI_uI_ne, jJ_uJ_eq, jJ_uJ_ne, jSh_uI, jSh_uJ, jA_uI, jA_uJ, jA_uR, jI_uIf_eq, jI_uIf_ne, jJ_uIf, jR_uIf, jr_uIf, jZ_uIf, jSh_uIf, jA_uIf, ne_eq, not_false_eq_true, not_true_eq_false, reduceCtorEq, Nat.reduceEqDiff, forall_eq, true_and, and_true, true_implies, forall_const, implies_true, List.mem_cons, List.not_mem_nil, or_false, false_or, or_self, if_true, if_false, reduceIte, Nat.reduceAdd, Nat.reduceMul, Nat.reduceLT, false_implies, Decidable.not_not, bI_eq0, bI_eq1, upd_at, updL_at, Nat.succ_ne_zero, Int32.reduceToNatClampNeg, eq_self, i01, i10]
  have n4 : ∀ k, k < q → jI (uI S 19 q (nI c)) 19 k = jI S 19 k := fun k hk => by simp only [jN_uI, jN_uJ, jN_uR, jK_uI, jK_uJ, jK_uR, jZ_uI, jZ_uJ, jZ_uR, jR_uI, jR_uJ, jr_uI, jr_uJ, jI_uJ, jI_uR, jJ_uI, jJ_uR, jI_uI_eq, jI_uI_ne, jJ_uJ_eq, jJ_uJ_ne, jSh_uI, jSh_uJ, jA_uI, jA_uJ, jA_uR, jI_uIf_eq, jI_uIf_ne, jJ_uIf, jR_uIf, jr_uIf, jZ_uIf, jSh_uIf, jA_uIf, ne_eq, not_false_eq_true, not_true_eq_false, reduceCtorEq, Nat.reduceEqDiff, forall_eq, true_and, and_true, true_implies, forall_const, implies_true, List.mem_cons, List.not_mem_nil, or_false, false_or, or_self, if_true, if_false, reduceIte, Nat.reduceAdd, Nat.reduceMul, Nat.reduceLT, false_implies, Decidable.not_not, bI_eq0, bI_eq1, upd_at, updL_at, Nat.succ_ne_zero, Int32.reduceToNatClampNeg, eq_self, i01, i10]; rw [if_neg (by omega)]
  generalize uI S 19 q (nI c) = S4 at f4 e4 n4 ⊢
  have hs4 := f4.sh.mpr hs
  have g7 : jI S4 14 7 = nI q := by rw [f4.I 14 (by decide)]; exact h7
  refine ⟨shA_14 hs4, ?_⟩
  rw [g7, nI_1]
  have f5 : jFr [14] S4 (uI S4 14 7 (nI (q + 1))) := (jFr.refl _ _).uI (by decide)
  have k5 : jFk 14 [7] S4 (uI S4 14 7 (nI (q + 1))) := (jFk.refl _ _ _).sI (by decide)
  refine hQ _ ⟨(f4.mono (by decide)).tr (f5.mono (by decide)), (jFk.of f4 (by decide)).tr (k5.mono (by decide)), fun k hk => by rw [f5.I 20 (by decide), f4.I 20 (by decide)], fun k hk => ?_⟩ ⟨(hc.fr (f4.mono (by decide))).fk f5 k5, by simp only [jN_uI, jN_uJ, jN_uR, jK_uI, jK_uJ, jK_uR, jZ_uI, jZ_uJ, jZ_uR, jR_uI, jR_uJ, jr_uI, jr_uJ, jI_uJ, jI_uR, jJ_uI, jJ_uR, jI_uI_eq, jI_uI_ne, jJ_uJ_eq, jJ_uJ_ne, jSh_uI, jSh_uJ, jA_uI, jA_uJ, jA_uR, jI_uIf_eq, jI_uIf_ne, jJ_uIf, jR_uIf, jr_uIf, jZ_uIf, jSh_uIf, jA_uIf, ne_eq, not_false_eq_true, not_true_eq_false, reduceCtorEq, Nat.reduceEqDiff, forall_eq, true_and, and_true, true_implies, forall_const, implies_true, List.mem_cons, List.not_mem_nil, or_false, false_or, or_self, if_true, if_false, reduceIte, Nat.reduceAdd, Nat.reduceMul, Nat.reduceLT, false_implies, Decidable.not_not, bI_eq0, bI_eq1, upd_at, updL_at, Nat.succ_ne_zero, Int32.reduceToNatClampNeg, eq_self, i01, i10]⟩ ?_ (by rw [f5.I 19 (by decide)]; exact e4)
  · rw [f5.I 16 (by decide), f4.I 16 (by decide), f5.I 17 (by decide), f4.I 17 (by decide), f5.I 18 (by decide), f4.I 18 (by decide), f5.I 19 (by decide)]
    exact ⟨rfl, rfl, rfl, n4 k hk⟩
  · rw [f5.I 16 (by decide), f4.I 16 (by decide), f5.I 17 (by decide), f4.I 17 (by decide), f5.I 18 (by decide), f4.I 18 (by decide), f5.I 20 (by decide), f4.I 20 (by decide)]
    exact ⟨rfl, rfl, rfl, rfl⟩
theorem cl_43 {G : Nat → List Value → JS → (Option Value → JS → Prop) → Prop} {Q : Int32 → JS → Prop} (hx : Cx t e A B sg vl so bb wo) (h : CC e A sg vl S i l c q) (hq : q < 12) (h0 : ¬ sg i = 20 → ∀ S', CFc S S' c q → CC e A sg vl S' i l c q → (jI S' 16 = jI S 16 ∧ jI S' 17 = jI S 17 ∧ jI S' 20 = jI S 20) → jI S' 18 q = nI c → wX5_readClause_60 G 14 S' Q) (h1 : sg i = 20 → ∀ S', CFc S S' c q → CC e A sg vl S' (i + 1) l c q → (jI S' 16 = jI S 16 ∧ jI S' 17 = jI S 17 ∧ jI S' 20 = jI S 20) → jI S' 18 q = nI c → G 36 [.ref 14, .int 0] S' (jqI (fun r31 S30 => (¬ r31 = 0 → wX5_readClause_60 G 14 S30 Q) ∧ (r31 = 0 → Q 0 S30)))) : wX5_readClause_43 G 14 S Q := by
  obtain ⟨hc, h7⟩ := h
  have hs := hc.1
  have h8 := hc.2.1.2.2.2
  unfold wX5_readClause_43
  simp only [shA_14, shA_18, shZ_18, shR_14_0, shr_14_0, shR_14_2, shr_14_2, shR_14_3, shr_14_3, shR_14_4, shr_14_4, shR_14_5, shr_14_5, shR_14_6, shr_14_6, shR_14_9, shr_14_9, shR_14_10, shr_14_10, hs, h7, h8, ne_eq, not_false_eq_true, not_true_eq_false, reduceCtorEq, Nat.reduceEqDiff, forall_eq, true_and, and_true, true_implies, forall_const, implies_true, List.mem_cons, List.not_mem_nil, or_false, false_or, or_self, if_true, if_false, reduceIte, Nat.reduceAdd, Nat.reduceMul, Nat.reduceLT, false_implies, Decidable.not_not, bI_eq0, bI_eq1, upd_at, updL_at, Nat.succ_ne_zero, Int32.reduceToNatClampNeg, eq_self, i01, i10]
  rw [nI_tn (by omega)]
  refine ⟨nI_in2 (by omega) (by omega), ?_⟩
  have f4 : jFr [18] S (uI S 18 q (nI c)) := (jFr.refl _ _).uI (by decide)
  have e4 : jI (uI S 18 q (nI c)) 18 q = nI c := by simp only [jN_uI, jN_uJ, jN_uR, jK_uI, jK_uJ, jK_uR, jZ_uI, jZ_uJ, jZ_uR, jR_uI, jR_uJ, jr_uI, jr_uJ, jI_uJ, jI_uR, jJ_uI, jJ_uR, jI_uI_eq, jI_uI_ne, jJ_uJ_eq, jJ_uJ_ne, jSh_uI, jSh_uJ, jA_uI, jA_uJ, jA_uR, jI_uIf_eq, jI_uIf_ne, jJ_uIf, jR_uIf, jr_uIf, jZ_uIf, jSh_uIf, jA_uIf, ne_eq, not_false_eq_true, not_true_eq_false, reduceCtorEq, Nat.reduceEqDiff, forall_eq, true_and, and_true, true_implies, forall_const, implies_true, List.mem_cons, List.not_mem_nil, or_false, false_or, or_self, if_true, if_false, reduceIte, Nat.reduceAdd, Nat.reduceMul, Nat.reduceLT, false_implies, Decidable.not_not, bI_eq0, bI_eq1, upd_at, updL_at, Nat.succ_ne_zero, Int32.reduceToNatClampNeg, eq_self, i01, i10]
  have n4 : ∀ k, k < q → jI (uI S 18 q (nI c)) 18 k = jI S 18 k := fun k hk => by simp only [jN_uI, jN_uJ, jN_uR, jK_uI, jK_uJ, jK_uR, jZ_uI, jZ_uJ, jZ_uR, jR_uI, jR_uJ, jr_uI, jr_uJ, jI_uJ, jI_uR, jJ_uI, jJ_uR, jI_uI_eq, jI_uI_ne, jJ_uJ_eq, jJ_uJ_ne, jSh_uI, jSh_uJ, jA_uI, jA_uJ, jA_uR, jI_uIf_eq, jI_uIf_ne, jJ_uIf, jR_uIf, jr_uIf, jZ_uIf, jSh_uIf, jA_uIf, ne_eq, not_false_eq_true, not_true_eq_false, reduceCtorEq, Nat.reduceEqDiff, forall_eq, true_and, and_true, true_implies, forall_const, implies_true, List.mem_cons, List.not_mem_nil, or_false, false_or, or_self, if_true, if_false, reduceIte, Nat.reduceAdd, Nat.reduceMul, Nat.reduceLT, false_implies, Decidable.not_not, bI_eq0, bI_eq1, upd_at, updL_at, Nat.succ_ne_zero, Int32.reduceToNatClampNeg, eq_self, i01, i10]; rw [if_neg (by omega)]
  generalize uI S 18 q (nI c) = S4 at f4 e4 n4 ⊢
  have hc4 := hc.fr (f4.mono (by decide))
  have g7 : jI S4 14 7 = nI q := by rw [f4.I 14 (by decide)]; exact h7
  have c4 : CFc S S4 c q := ⟨f4.mono (by decide), jFk.of f4 (by decide), fun k hk => by rw [f4.I 20 (by decide)], fun k hk => by
    rw [f4.I 16 (by decide), f4.I 17 (by decide), f4.I 19 (by decide)]; exact ⟨rfl, rfl, n4 k hk, rfl⟩⟩
  have eq4 : jI S4 16 = jI S 16 ∧ jI S4 17 = jI S 17 ∧ jI S4 20 = jI S 20 := ⟨f4.I 16 (by decide), f4.I 17 (by decide), f4.I 20 (by decide)⟩
  refine ⟨shA_14 hc4.1, sX5_pass (s := 20) hx.1 hc4 (by omega) (fun z S5 f5 k5 h5 => ⟨fun y => absurd y (by decide), fun _ => ⟨shA_14 h5.1, h1 z S5 (c4.tr (CF.go (c0 := c) f5 k5).toc (Nat.le_refl _) (Nat.le_refl _)) ⟨h5, by rw [k5.I 7 (by decide)]; exact g7⟩ ?_ ?_⟩⟩) (fun z => ⟨fun _ => h0 z S4 c4 ⟨hc4, g7⟩ eq4 e4, fun y => absurd rfl y⟩)⟩
  · rw [f5.I 16 (by decide), f5.I 17 (by decide), f5.I 20 (by decide)]; exact eq4
  · rw [f5.I 18 (by decide)]; exact e4
/-! the model -/
theorem hd_roll {Q : JS → Prop} {x y : Int32} (h : ∀ K : Nat → Int32 → Int32 → JS → Prop, (∀ x' y' M', wX12_readClause_4 45 x' y' M' Q → K 45 x' y' M') → bX12_readClause_4 K 45 x y M Q) : wX12_readClause_4 45 x y M Q := by
  unfold wX12_readClause_4
  exact jLoop.roll (h _ (fun _ _ _ h => h))
theorem cw_head (h : CW M) : ∀ k, k < 3 → (jJ M 57 k, k + 17) ∈ wdT := by
  obtain ⟨_, h0, h1, h2⟩ := h
  intro k hk
  rcases (by omega : k = 0 ∨ k = 1 ∨ k = 2) with e | e | e <;> subst e
  · rw [h0]; decide
  · rw [h1]; decide
  · rw [h2]; decide
theorem head_go {Q : JS → Prop} (hx : Cx t e A B sg vl so bb wo) (h : MC t e A B so bb wo M i l n) (hq : wX12_readClause_4 45 (if 17 ≤ sg i ∧ sg i < 20 then nI (sg i - 17) else -1) 3 M Q) : ∀ m k, k + m = 3 → wX12_readClause_4 45 (if 17 ≤ sg i ∧ sg i < 17 + k then nI (sg i - 17) else -1) (nI k) M Q
  | 0, k, e0 => by
    have e1 : k = 3 := by omega
    subst e1
    exact hq
  | m + 1, k, e0 => by
    have hr := head_go hx h hq m (k + 1) (by omega)
    refine hd_roll (fun K hK => ?_)
    have ih := hK _ _ _ hr
    have hs := h.1.1
    unfold bX12_readClause_4 wX12_readClause_17
    simp only [shA_45, shA_57, shZ_57, shR_45_2, shr_45_2, shR_45_3, shr_45_3, shR_45_4, shr_45_4, shR_45_5, shr_45_5, shR_45_7, shr_45_7, shR_45_16, shr_45_16, shR_45_18, shr_45_18, shR_45_19, shr_45_19, shR_45_21, shr_45_21, shR_45_22, shr_45_22, shR_45_25, shr_45_25, shR_45_26, shr_45_26, shR_45_28, shr_45_28, shR_45_29, shr_45_29, shR_45_33, shr_45_33, shR_45_34, shr_45_34, shR_45_35, shr_45_35, shR_45_36, shr_45_36, shR_45_37, shr_45_37, shR_45_38, shr_45_38, shR_45_39, shr_45_39, shR_45_40, shr_45_40, shR_45_42, shr_45_42, hs, ne_eq, not_false_eq_true, not_true_eq_false, reduceCtorEq, Nat.reduceEqDiff, forall_eq, true_and, and_true, true_implies, forall_const, implies_true, List.mem_cons, List.not_mem_nil, or_false, false_or, or_self, if_true, if_false, reduceIte, Nat.reduceAdd, Nat.reduceMul, Nat.reduceLT, false_implies, Decidable.not_not, bI_eq0, bI_eq1, upd_at, updL_at, Nat.succ_ne_zero, Int32.reduceToNatClampNeg, eq_self, i01, i10]
    rw [li_3, nI_le' (by omega) (by omega), nI_tn (by omega), nI_1]
    refine ⟨fun z => by omega, fun _ => ⟨nI_in2 (by omega) (by omega), MC.isWord hx h (cw_head h.1.2 k (by omega)) (fun z => ?_) (fun z => ?_)⟩⟩
    · refine ⟨fun y => absurd y (by decide), fun _ => ?_⟩
      rw [if_pos (by omega), z, show k + 17 - 17 = k by omega] at ih; exact ih
    · refine ⟨fun _ => ?_, fun y => absurd rfl y⟩
      by_cases q : 17 ≤ sg i ∧ sg i < 17 + k
      · rw [if_pos (by omega)] at ih; rw [if_pos q]; exact ih
      · rw [if_neg (by omega)] at ih; rw [if_neg q]; exact ih
theorem zf_roll {Q : JS → Prop} {x y z : Int32} (h : ∀ K : Nat → Int32 → Int32 → Int32 → JS → Prop, (∀ z' M', wX12_readClause_43 45 x y z' M' Q → K 45 x y z' M') → bX12_readClause_43 K 45 x y z M Q) : wX12_readClause_43 45 x y z M Q := by
  unfold wX12_readClause_43
  exact jLoop.roll (h _ (fun _ _ h => h))
theorem zf_go {Q : JS → Prop} {x : Int32} (hs : jSh M) (hq : q < 12) (hQ : ∀ M', jFr [51] M M' → (∀ k, k < 8 * q → jI M' 51 k = jI M 51 k) → wX12_readClause_43 45 x (nI (8 * q)) 8 M' Q) : ∀ m k M1, k + m = 8 → jFr [51] M M1 → (∀ k, k < 8 * q → jI M1 51 k = jI M 51 k) → wX12_readClause_43 45 x (nI (8 * q)) (nI k) M1 Q
  | 0, k, M1, e0, f, g => by
    have e1 : k = 8 := by omega
    subst e1
    exact hQ M1 f g
  | m + 1, k, M1, e0, f, g => by
    have hs1 := f.sh.mpr hs
    refine zf_roll (fun K hK => ?_)
    have ih := hK _ _ (zf_go hs hq hQ m (k + 1) (uI M1 51 (8 * q + k) 0) (by omega) (f.uI (by decide)) (fun j hj => by simp only [jN_uI, jN_uJ, jN_uR, jK_uI, jK_uJ, jK_uR, jZ_uI, jZ_uJ, jZ_uR, jR_uI, jR_uJ, jr_uI, jr_uJ, jI_uJ, jI_uR, jJ_uI, jJ_uR, jI_uI_eq, jI_uI_ne, jJ_uJ_eq, jJ_uJ_ne, jSh_uI, jSh_uJ, jA_uI, jA_uJ, jA_uR, jI_uIf_eq, jI_uIf_ne, jJ_uIf, jR_uIf, jr_uIf, jZ_uIf, jSh_uIf, jA_uIf, ne_eq, not_false_eq_true, not_true_eq_false, reduceCtorEq, Nat.reduceEqDiff, forall_eq, true_and, and_true, true_implies, forall_const, implies_true, List.mem_cons, List.not_mem_nil, or_false, false_or, or_self, if_true, if_false, reduceIte, Nat.reduceAdd, Nat.reduceMul, Nat.reduceLT, false_implies, Decidable.not_not, bI_eq0, bI_eq1, upd_at, updL_at, Nat.succ_ne_zero, Int32.reduceToNatClampNeg, eq_self, i01, i10]; rw [if_neg (by omega)]; exact g j hj))
    unfold bX12_readClause_43
    rw [li_8, nI_le' (by omega) (by omega)]
    refine ⟨fun z => by omega, fun _ => ?_⟩
    simp only [shA_45, shA_51, shZ_51, shR_45_2, shr_45_2, shR_45_3, shr_45_3, shR_45_4, shr_45_4, shR_45_5, shr_45_5, shR_45_7, shr_45_7, shR_45_16, shr_45_16, shR_45_18, shr_45_18, shR_45_19, shr_45_19, shR_45_21, shr_45_21, shR_45_22, shr_45_22, shR_45_25, shr_45_25, shR_45_26, shr_45_26, shR_45_28, shr_45_28, shR_45_29, shr_45_29, shR_45_33, shr_45_33, shR_45_34, shr_45_34, shR_45_35, shr_45_35, shR_45_36, shr_45_36, shR_45_37, shr_45_37, shR_45_38, shr_45_38, shR_45_39, shr_45_39, shR_45_40, shr_45_40, shR_45_42, shr_45_42, hs1, ne_eq, not_false_eq_true, not_true_eq_false, reduceCtorEq, Nat.reduceEqDiff, forall_eq, true_and, and_true, true_implies, forall_const, implies_true, List.mem_cons, List.not_mem_nil, or_false, false_or, or_self, if_true, if_false, reduceIte, Nat.reduceAdd, Nat.reduceMul, Nat.reduceLT, false_implies, Decidable.not_not, bI_eq0, bI_eq1, upd_at, updL_at, Nat.succ_ne_zero, Int32.reduceToNatClampNeg, eq_self, i01, i10]
    rw [nI_add, nI_tn (by omega), nI_1]
    exact ⟨nI_in2 (by omega) (by omega), ih⟩
end CLAUSE
