/-! WHOLE EXPRESSIONS, AND THE CLAUSE'S SMALL STEPS -/
theorem mD_lt {op arg : Nat → Int32} {a b : Nat} {f : JF} (h : mD op arg a b f) : a < b := by
  rcases Nat.lt_or_ge a b with q | q
  · exact q
  · have e : b = a := by have := h.1; omega
    subst e
    have k := h.2 (fun _ => 0) b True (fun k st => k = b → st ≠ []) [] (Nat.le_refl _) ⟨fun k st hk _ _ z => by omega, fun k st hk _ _ _ z => by omega, fun k x y st hk _ _ _ _ z => by omega, fun k x st hk _ _ z => by omega, fun k x j st hk _ _ _ _ _ _ z => by omega, fun k x j st hk _ _ _ _ _ _ z => by omega⟩ (fun _ => trivial) (fun v _ _ => List.cons_ne_nil _ _) rfl
    exact absurd rfl k
theorem cD_lt {code : Nat → Int32} {a b m : Nat} {f : JF} (h : cD code m a b f) (hm : m ≤ 31) : a < b := by
  rcases Nat.lt_or_ge a b with q | q
  · exact q
  · have e : b = a := by have := h.1; omega
    subst e
    have k := h.2 (fun _ => 0) b True (fun k st => k = b → st ≠ []) [] (Nat.le_refl _) (by simpa using hm) ⟨fun k st hk _ _ _ z => by omega, fun k st hk _ _ _ _ z => by omega, fun k x y st hk _ _ _ _ z => by omega, fun k x st hk _ _ z => by omega, fun k x j st hk _ _ _ _ _ _ z => by omega, fun k x j st hk _ _ _ _ _ _ z => by omega⟩ (fun _ => trivial) (fun v _ _ => List.cons_ne_nil _ _) rfl
    exact absurd rfl k
def MC (t e : Nat) (A B so bb : Nat → Nat) (wo : Nat → Int64) (M : JS) (i l n : Nat) : Prop := (jSh M ∧ CW M) ∧ TM t A B so bb wo M i ∧ (jI M 45 14 = 0 ∧ jI M 45 17 = nI n ∧ jI M 45 20 = nI l) ∧ (i ≤ e ∧ n ≤ A i ∧ l ≤ 50)
def MX (M M' : JS) (p : Nat) : Prop := jFr [45, 52, 53, 54, 55] M M' ∧ jFk 45 [9, 10, 11, 12, 13, 14, 17, 20, 23, 24] M M' ∧ jI M' 45 14 = 1 ∧ jI M' 45 13 = nI p
section EXPR
variable {t e i l n b o c : Nat} {A B sg vl so bb : Nat → Nat} {wo : Nat → Int64} {S S' S1 M M' M2 M0 : JS} {f : JF} {test : Int32}
theorem mL_4 {Q : JS → Prop} (hs : jSh M) (h14 : jI M 45 14 = 0) (h : wX12_settle_0 45 (nI 1) M Q) : mL test 4 M Q := by
  refine mL_roll (fun K hK => ?_)
  unfold bX12_readExpression_12 wX12_readExpression_40 wX12_settle
  rw [h14]
  exact ⟨shA_45 hs, fun z => absurd rfl z, fun _ => ⟨fun _ => ⟨shA_45 hs, h⟩, fun z => absurd rfl z⟩⟩
theorem mL_bad {Q : JS → Prop} {tn : Int32} {p : Nat} (h : MB M p) (hq : ∀ M', jFr [45, 52, 53] M M' → jFk 45 [17, 23] M M' → Q M') : mL test tn M Q := by
  obtain ⟨⟨hs, _⟩, h14, _, n, b, g17, g23, h4, hp⟩ := h
  refine mL_roll (fun K hK => ?_)
  unfold bX12_readExpression_12 wX12_readExpression_40 wX12_settle
  rw [h14]
  exact ⟨shA_45 hs, fun _ => ⟨shA_45 hs, st_any (least := 1) hs (by omega) (by omega) b n M (jFr.refl _ _) (jFk.refl _ _ _) g17 g23 h4 hp (fun M' n2 f k _ _ => hq M' f k)⟩, fun z => absurd z (by decide)⟩
theorem MC.start (h : MC t e A B so bb wo M i l n) : MT t e A B so bb wo (uI (uI M 45 23 0) 45 24 0) i l n 0 0 := by
  obtain ⟨⟨hs, hc⟩, ⟨t1, t2, t3, t4, t5, t6⟩, ⟨g1, g2, g3⟩, h1, h2, h3⟩ := h
  have f : jFr [45] M (uI (uI M 45 23 0) 45 24 0) := ((jFr.refl _ _).uI (by decide)).uI (by decide)
  have k : jFk 45 [23, 24] M (uI (uI M 45 23 0) 45 24 0) := ((jFk.refl _ _ _).sI (by decide)).sI (by decide)
  refine ⟨⟨f.sh.mpr hs, hc.fr f (by decide)⟩, ⟨?_, ?_, ?_, ?_, ?_, ?_⟩, ⟨?_, ?_, ?_, ?_, ?_⟩, ⟨h1, by omega, h3, by omega⟩, fun k hk => by omega⟩
  · rw [k.I 8 (by decide)]; exact t1
  · rw [k.I 9 (by decide)]; exact t2
  · rw [k.I 10 (by decide)]; exact t3
  · rw [k.I 11 (by decide)]; exact t4
  · rw [k.J 12 (by decide)]; exact t5
  · exact ⟨by rw [f.I 50 (by decide)]; exact t6.1, by rw [k.I 13 (by decide)]; exact t6.2⟩
  · rw [k.I 14 (by decide)]; exact g1
  · rw [k.I 17 (by decide)]; exact g2
  · rw [k.I 20 (by decide)]; exact g3
  · simp only [jN_uI, jN_uJ, jN_uR, jK_uI, jK_uJ, jK_uR, jZ_uI, jZ_uJ, jZ_uR, jR_uI, jR_uJ, jr_uI, jr_uJ, jI_uJ, jI_uR, jJ_uI, jJ_uR, jI_uI_eq, jI_uI_ne, jJ_uJ_eq, jJ_uJ_ne, jSh_uI, jSh_uJ, jA_uI, jA_uJ, jA_uR, jI_uIf_eq, jI_uIf_ne, jJ_uIf, jR_uIf, jr_uIf, jZ_uIf, jSh_uIf, jA_uIf, ne_eq, not_false_eq_true, not_true_eq_false, reduceCtorEq, Nat.reduceEqDiff, forall_eq, true_and, and_true, true_implies, forall_const, implies_true, List.mem_cons, List.not_mem_nil, or_false, false_or, or_self, if_true, if_false, reduceIte, Nat.reduceAdd, Nat.reduceMul, Nat.reduceLT, false_implies, Decidable.not_not, bI_eq0, bI_eq1, upd_at, updL_at, Nat.succ_ne_zero, Int32.reduceToNatClampNeg, eq_self, i01, i10]; rfl
  · simp only [jN_uI, jN_uJ, jN_uR, jK_uI, jK_uJ, jK_uR, jZ_uI, jZ_uJ, jZ_uR, jR_uI, jR_uJ, jr_uI, jr_uJ, jI_uJ, jI_uR, jJ_uI, jJ_uR, jI_uI_eq, jI_uI_ne, jJ_uJ_eq, jJ_uJ_ne, jSh_uI, jSh_uJ, jA_uI, jA_uJ, jA_uR, jI_uIf_eq, jI_uIf_ne, jJ_uIf, jR_uIf, jr_uIf, jZ_uIf, jSh_uIf, jA_uIf, ne_eq, not_false_eq_true, not_true_eq_false, reduceCtorEq, Nat.reduceEqDiff, forall_eq, true_and, and_true, true_implies, forall_const, implies_true, List.mem_cons, List.not_mem_nil, or_false, false_or, or_self, if_true, if_false, reduceIte, Nat.reduceAdd, Nat.reduceMul, Nat.reduceLT, false_implies, Decidable.not_not, bI_eq0, bI_eq1, upd_at, updL_at, Nat.succ_ne_zero, Int32.reduceToNatClampNeg, eq_self, i01, i10]; rfl
theorem MT.mc (h : MT t e A B so bb wo M i l n b o) : MC t e A B so bb wo M i l n := ⟨h.1, h.2.1, ⟨h.2.2.1.1, h.2.2.1.2.1, h.2.2.1.2.2.1⟩, h.2.2.2.1.1, by have := h.2.2.2.1.2.1; omega, h.2.2.2.1.2.2.1⟩
theorem start_mf (h : jSh M) : MF M (uI (uI M 45 23 0) 45 24 0) n 0 := MF.of45 (((jFr.refl _ _).uI (by decide)).uI (by decide)) (((jFk.refl _ _ _).sI (by decide)).sI (by decide))
theorem MF.mx {p : Nat} (f : MF M M' n b) (h : MB M' p) (g : jFr [45, 52, 53] M' M2) (k : jFk 45 [17, 23] M' M2) : MX M M2 p := ⟨f.1.tr (g.mono (by decide)), f.2.1.tr (k.mono (by decide)), by rw [k.I 14 (by decide)]; exact h.2.1, by rw [k.I 13 (by decide)]; exact h.2.2.1⟩
theorem e_sum (hx : Cx t e A B sg vl so bb wo) (hl : l ≤ 50) (he : i ≤ e) :
    (∃ f i' l', i < i' ∧ i' ≤ e ∧ l' ≤ 50 ∧ fB f ∧ (∀ S c D Q, CT e A sg vl S i l c → 37 ≤ D → CQ e A sg vl S c i i' l' 19 f Q → jCall jmt jbud D 41 [.ref 14, .int 0] S (jqI Q)) ∧ (∀ M n Q, MC t e A B so bb wo M i l n → (∀ M' n', MF M M' n 0 → MC t e A B so bb wo M' i' l' n' → mD (jI M' 52) (jI M' 53) n n' f → Q M') → wX12_readExpression 45 0 M Q))
    ∨ (∃ i', i' ≤ e ∧ (∀ S c D Q, CT e A sg vl S i l c → 37 ≤ D → (∀ S', CX S S' i' → Q 0 S') → jCall jmt jbud D 41 [.ref 14, .int 0] S (jqI Q)) ∧ (∀ M n Q, MC t e A B so bb wo M i l n → (∀ M', MX M M' (A i') → Q M') → wX12_readExpression 45 0 M Q)) := by
  have st : ∀ M n (Q : JS → Prop), MC t e A B so bb wo M i l n → (mL 0 1 (uI (uI M 45 23 0) 45 24 0) Q) → wX12_readExpression 45 0 M Q := by
    intro M n Q h hq
    unfold wX12_readExpression wX12_readExpression_11
    refine ⟨shA_45 h.1.1, fun S2 e2 => ?_⟩
    subst e2
    refine ⟨shA_45 (by simp only [jN_uI, jN_uJ, jN_uR, jK_uI, jK_uJ, jK_uR, jZ_uI, jZ_uJ, jZ_uR, jR_uI, jR_uJ, jr_uI, jr_uJ, jI_uJ, jI_uR, jJ_uI, jJ_uR, jI_uI_eq, jI_uI_ne, jJ_uJ_eq, jJ_uJ_ne, jSh_uI, jSh_uJ, jA_uI, jA_uJ, jA_uR, jI_uIf_eq, jI_uIf_ne, jJ_uIf, jR_uIf, jr_uIf, jZ_uIf, jSh_uIf, jA_uIf]; exact h.1.1), fun S4 e4 => ?_⟩
    subst e4
    exact ⟨fun _ => hq, fun z => absurd rfl z⟩
  rcases j_sums (test := 0) hx i 0 l (by omega) hl he with ⟨f, i1, l1, q1, q2, q3, q4, q5, hC, hM⟩ | ⟨i1, q2, hC, hM⟩
  · refine Or.inl ⟨f, i1, l1, q1, q2, q3, q4, fun S c D Q h hD hQ => hC S c D Q h (by omega) hQ, fun M n Q h hQ => st M n Q h (hM _ n 0 1 Q h.start (Or.inl rfl) (Or.inl rfl) (fun M1 n1 b1 g1 m1 P1 => mL_3 m1.1.1 m1.2.2.1.1 (fun K hK => bs_pick hx m1 (fun z1 z2 => by omega) (fun _ => bs_over hx m1 ?_ rfl (hK _ _ (mL_4 m1.1.1 m1.2.2.1.1 ?_))))))⟩
    · rw [inn_ext b1 (Nat.zero_le _) (fun k k1 k2 => by obtain ⟨q, r1, r2, r3⟩ := P1.wt.2.2 k k1 k2; rw [r3, li_30, nI_lt' (by omega) (by omega)]; omega)]; rfl
    · exact MT.setS (lv := 1) hx m1 (by omega) P1 (Or.inl rfl) (fun M2 n2 g2 _ m2 d2 => hQ M2 n2 (((start_mf h.1.1).tr g1 (Nat.le_refl _) (Nat.le_refl _)).tr g2 (Nat.le_refl _) (Nat.le_refl _)) m2.mc d2)
  · refine Or.inr ⟨i1, q2, fun S c D Q h hD hQ => hC S c D Q h (by omega) hQ, fun M n Q h hQ => st M n Q h (hM _ n 0 1 Q h.start (Or.inl rfl) (Or.inl rfl) (fun M1 tn1 g1 b1 => mL_bad b1 (fun M2 g2 k2 => hQ M2 (((start_mf h.1.1).tr g1 (Nat.le_refl _) (Nat.le_refl _)).mx b1 g2 k2))))⟩
theorem e_test (hx : Cx t e A B sg vl so bb wo) (hl : l ≤ 50) (he : i ≤ e) :
    (∃ f i' l', i < i' ∧ i' ≤ e ∧ l' ≤ 50 ∧ fZ f ∧ (∀ S c D Q, CT e A sg vl S i l c → 41 ≤ D → CQ e A sg vl S c i i' l' 20 f Q → jCall jmt jbud D 36 [.ref 14, .int 0] S (jqI Q)) ∧ (∀ M n Q, MC t e A B so bb wo M i l n → (∀ M' n', MF M M' n 0 → MC t e A B so bb wo M' i' l' n' → mD (jI M' 52) (jI M' 53) n n' f → Q M') → wX12_readExpression 45 1 M Q))
    ∨ (∃ i', i' ≤ e ∧ (∀ S c D Q, CT e A sg vl S i l c → 41 ≤ D → (∀ S', CX S S' i' → Q 0 S') → jCall jmt jbud D 36 [.ref 14, .int 0] S (jqI Q)) ∧ (∀ M n Q, MC t e A B so bb wo M i l n → (∀ M', MX M M' (A i') → Q M') → wX12_readExpression 45 1 M Q)) := by
  have st : ∀ M n (Q : JS → Prop), MC t e A B so bb wo M i l n → (mL 1 0 (uI (uI M 45 23 0) 45 24 0) Q) → wX12_readExpression 45 1 M Q := by
    intro M n Q h hq
    unfold wX12_readExpression wX12_readExpression_11
    refine ⟨shA_45 h.1.1, fun S2 e2 => ?_⟩
    subst e2
    refine ⟨shA_45 (by simp only [jN_uI, jN_uJ, jN_uR, jK_uI, jK_uJ, jK_uR, jZ_uI, jZ_uJ, jZ_uR, jR_uI, jR_uJ, jr_uI, jr_uJ, jI_uJ, jI_uR, jJ_uI, jJ_uR, jI_uI_eq, jI_uI_ne, jJ_uJ_eq, jJ_uJ_ne, jSh_uI, jSh_uJ, jA_uI, jA_uJ, jA_uR, jI_uIf_eq, jI_uIf_ne, jJ_uIf, jR_uIf, jr_uIf, jZ_uIf, jSh_uIf, jA_uIf]; exact h.1.1), fun S4 e4 => ?_⟩
    subst e4
    exact ⟨fun z => absurd z (by decide), fun _ => hq⟩
  have pc : ∀ M, preC 1 1 M 0 := fun M => ⟨Or.inl rfl, by unfold inn; decide, fun _ => by decide⟩
  rcases j_tests (test := 1) hx i 0 l (by omega) hl he with ⟨f, i1, l1, q1, q2, q3, q4, q5, hC, hM⟩ | ⟨i1, q2, hC, hM⟩
  · refine Or.inl ⟨f, i1, l1, q1, q2, q3, q4, fun S c D Q h hD hQ => hC S c D Q h (by omega) hQ, fun M n Q h hQ => st M n Q h (hM _ n 0 0 Q h.start rfl (pc _) (fun M1 n1 b1 g1 m1 P1 => mL_2 m1.1.1 m1.2.2.1.1 (fun K hK => bt_over hx m1 ?_ q5.1 q5.2 (hK _ _ (mL_4 m1.1.1 m1.2.2.1.1 ?_)))))⟩
    · rw [inn_ext b1 (Nat.zero_le _) (fun k k1 k2 => by obtain ⟨q, r1, r3⟩ := P1.wt.2.2 k k1 k2; rw [r3, li_30, nI_lt' (by omega) (by omega)]; omega)]; rfl
    · exact MT.setE (lv := 1) hx m1 (by omega) P1 (Or.inl rfl) (fun M2 n2 g2 _ m2 d2 => hQ M2 n2 (((start_mf h.1.1).tr g1 (Nat.le_refl _) (Nat.le_refl _)).tr g2 (Nat.le_refl _) (Nat.le_refl _)) m2.mc d2)
  · refine Or.inr ⟨i1, q2, fun S c D Q h hD hQ => hC S c D Q h (by omega) hQ, fun M n Q h hQ => st M n Q h (hM _ n 0 0 Q h.start rfl (pc _) (fun M1 tn1 g1 b1 => mL_bad b1 (fun M2 g2 k2 => hQ M2 (((start_mf h.1.1).tr g1 (Nat.le_refl _) (Nat.le_refl _)).mx b1 g2 k2))))⟩
/-! small steps where no pile is known -/
theorem MC.isWord {Q : Int32 → JS → Prop} {w : Int64} {s : Nat} (hx : Cx t e A B sg vl so bb wo) (h : MC t e A B so bb wo M i l n) (hw : (w, s) ∈ wdT) (h1 : sg i = s → Q 1 M) (h0 : ¬ sg i = s → Q 0 M) : wX12_isWord 45 w M Q := by
  obtain ⟨⟨hs, _⟩, ⟨_, _, _, h11, h12, _⟩, _, ⟨hi, _⟩⟩ := h
  obtain ⟨l1, _, l3, _⟩ := hx.2.1 i hi
  have k := l3 _ hw
  unfold wX12_isWord
  rw [h11, h12, li_1, nI_eq' (by omega) (by omega), lg_cmp_eq]
  refine ⟨shA_45 hs, fun z => h0 (fun y => z (k.mpr y).1), fun z => ⟨fun z2 => h0 (fun y => z2 (k.mpr y).2), fun z2 => h1 (k.mp ⟨z, z2⟩)⟩⟩
theorem MC.isSign {Q : Int32 → JS → Prop} {w : Int32} {s : Nat} (hx : Cx t e A B sg vl so bb wo) (h : MC t e A B so bb wo M i l n) (hw : (w, s) ∈ mkT) (h1 : sg i = s → Q 1 M) (h0 : ¬ sg i = s → Q 0 M) : wX12_isSign 45 w M Q := by
  obtain ⟨⟨hs, _⟩, ⟨_, _, _, h11, h12, _⟩, _, ⟨hi, _⟩⟩ := h
  obtain ⟨l1, _, _, l3, _⟩ := hx.2.1 i hi
  have k := l3 _ hw
  unfold wX12_isSign
  rw [h11, h12, li_3, nI_eq' (by omega) (by omega), lg_cmp_eq]
  refine ⟨shA_45 hs, fun z => h0 (fun y => z (k.mpr y).1), fun z => ⟨fun z2 => h0 (fun y => z2 (k.mpr y).2), fun z2 => h1 (k.mp ⟨z, z2⟩)⟩⟩
theorem MC.next {Q : JS → Prop} (hx : Cx t e A B sg vl so bb wo) (h : MC t e A B so bb wo M i l n) (hi : sg i ≠ 26) (hq : ∀ M', jFr [45] M M' → jFk 45 [9, 10, 11, 12] M M' → MC t e A B so bb wo M' (i + 1) l n → Q M') : wX12_next 45 M Q := by
  obtain ⟨⟨hs, hc⟩, hT, ⟨g1, g2, g3⟩, h1, h2, h3⟩ := h
  have hlt := hx.1.lt h1 hi
  have hA := (hx.1.2.1 i hlt).1
  refine hx.2.2 M i Q hs hT hlt (fun M1 f k T1 => hq M1 f k ⟨⟨f.sh.mpr hs, hc.fr f (by decide)⟩, T1, ⟨?_, ?_, ?_⟩, by omega, by omega, h3⟩)
  · rw [k.I 14 (by decide)]; exact g1
  · rw [k.I 17 (by decide)]; exact g2
  · rw [k.I 20 (by decide)]; exact g3
theorem MC.mustN {Q : JS → Prop} {x : Int32} (h : MC t e A B so bb wo M i l n) (hx1 : ¬ x = 0) (hq : wX12_next 45 M Q) : wX12_must 45 x M Q := by
  obtain ⟨⟨hs, hc⟩, hT, ⟨g1, g2, g3⟩, _⟩ := h
  unfold wX12_must wX12_must_12
  rw [g1]
  exact ⟨shA_45 hs, fun z => absurd rfl z, fun _ => ⟨fun _ => ⟨shA_45 hs, fun z => absurd rfl z, fun _ => hq⟩, fun z => absurd z hx1⟩⟩
theorem MC.mustB {Q : JS → Prop} (h : MC t e A B so bb wo M i l n) (hq : ∀ M', MX M M' (A i) → Q M') : wX12_must 45 0 M Q := by
  obtain ⟨⟨hs, hc⟩, hT, ⟨g1, g2, g3⟩, h1, h2, h3⟩ := h
  obtain ⟨_, h9, _⟩ := hT
  unfold wX12_must wX12_must_12
  rw [g1]
  simp only [shA_45 hs, jN_uI, jN_uJ, jN_uR, jK_uI, jK_uJ, jK_uR, jZ_uI, jZ_uJ, jZ_uR, jR_uI, jR_uJ, jr_uI, jr_uJ, jI_uJ, jI_uR, jJ_uI, jJ_uR, jI_uI_eq, jI_uI_ne, jJ_uJ_eq, jJ_uJ_ne, jSh_uI, jSh_uJ, jA_uI, jA_uJ, jA_uR, jI_uIf_eq, jI_uIf_ne, jJ_uIf, jR_uIf, jr_uIf, jZ_uIf, jSh_uIf, jA_uIf, ne_eq, not_false_eq_true, not_true_eq_false, reduceCtorEq, Nat.reduceEqDiff, forall_eq, true_and, and_true, true_implies, forall_const, implies_true, List.mem_cons, List.not_mem_nil, or_false, false_or, or_self, if_true, if_false, reduceIte, Nat.reduceAdd, Nat.reduceMul, Nat.reduceLT, false_implies, Decidable.not_not, bI_eq0, bI_eq1, upd_at, updL_at, Nat.succ_ne_zero, Int32.reduceToNatClampNeg, eq_self, i01, i10]
  rw [h9]
  exact hq _ ⟨((jFr.refl _ _).uI (by decide)).uI (by decide), ((jFk.refl _ _ _).sI (by decide)).sI (by decide), by simp only [jN_uI, jN_uJ, jN_uR, jK_uI, jK_uJ, jK_uR, jZ_uI, jZ_uJ, jZ_uR, jR_uI, jR_uJ, jr_uI, jr_uJ, jI_uJ, jI_uR, jJ_uI, jJ_uR, jI_uI_eq, jI_uI_ne, jJ_uJ_eq, jJ_uJ_ne, jSh_uI, jSh_uJ, jA_uI, jA_uJ, jA_uR, jI_uIf_eq, jI_uIf_ne, jJ_uIf, jR_uIf, jr_uIf, jZ_uIf, jSh_uIf, jA_uIf, ne_eq, not_false_eq_true, not_true_eq_false, reduceCtorEq, Nat.reduceEqDiff, forall_eq, true_and, and_true, true_implies, forall_const, implies_true, List.mem_cons, List.not_mem_nil, or_false, false_or, or_self, if_true, if_false, reduceIte, Nat.reduceAdd, Nat.reduceMul, Nat.reduceLT, false_implies, Decidable.not_not, bI_eq0, bI_eq1, upd_at, updL_at, Nat.succ_ne_zero, Int32.reduceToNatClampNeg, eq_self, i01, i10], by simp only [jN_uI, jN_uJ, jN_uR, jK_uI, jK_uJ, jK_uR, jZ_uI, jZ_uJ, jZ_uR, jR_uI, jR_uJ, jr_uI, jr_uJ, jI_uJ, jI_uR, jJ_uI, jJ_uR, jI_uI_eq, jI_uI_ne, jJ_uJ_eq, jJ_uJ_ne, jSh_uI, jSh_uJ, jA_uI, jA_uJ, jA_uR, jI_uIf_eq, jI_uIf_ne, jJ_uIf, jR_uIf, jr_uIf, jZ_uIf, jSh_uIf, jA_uIf, ne_eq, not_false_eq_true, not_true_eq_false, reduceCtorEq, Nat.reduceEqDiff, forall_eq, true_and, and_true, true_implies, forall_const, implies_true, List.mem_cons, List.not_mem_nil, or_false, false_or, or_self, if_true, if_false, reduceIte, Nat.reduceAdd, Nat.reduceMul, Nat.reduceLT, false_implies, Decidable.not_not, bI_eq0, bI_eq1, upd_at, updL_at, Nat.succ_ne_zero, Int32.reduceToNatClampNeg, eq_self, i01, i10]⟩
end EXPR
