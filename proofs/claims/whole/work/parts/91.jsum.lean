/-! BOTH READERS AT ONCE: parts, terms, sums -/
/-- the class has met a fault at token i -/
def CX (S S' : JS) (i : Nat) : Prop := jFr [14, 20] S S' ∧ jFk 14 [8, 11, 12, 13] S S' ∧ jI S' 14 11 = nI i ∧ ∃ c, c ≤ 400 ∧ jI S' 14 8 = nI c
def CQ (e : Nat) (A sg vl : Nat → Nat) (S : JS) (c i i' l' mx : Nat) (f : JF) (Q : Int32 → JS → Prop) : Prop := ∀ S' c', CF S S' c → CT e A sg vl S' i' l' c' → c' + i ≤ c + i' → cD (jI S' 20) mx c c' f → Q 1 S'
def JJ (t e : Nat) (A B sg vl so bb : Nat → Nat) (wo : Nat → Int64) (test : Int32) (m r mx : Nat) (fp : JF → Prop) (np : Nat → Prop) (tq : Nat → Int32 → Prop) (tn' : Int32) (pre : JS → Nat → Prop) (PD : (Nat → Int32) → (Nat → Int32) → (Nat → Int32) → (Nat → Int32) → Nat → Nat → Nat → Nat → JF → Prop) (i : Nat) : Prop :=
  ∀ d l, d ≤ 8 → l ≤ 50 → i ≤ e →
  (∃ f i' l', i < i' ∧ i' ≤ e ∧ l' ≤ 50 ∧ fp f ∧ np (sg i') ∧ (∀ S c D Q, CT e A sg vl S i l c → r + 4 * (8 - d) ≤ D → CQ e A sg vl S c i i' l' (mx - 2 * d) f Q → jCall jmt jbud D m [.ref 14, .int (nI d)] S (jqI Q)) ∧ (∀ M n b tn Q, MT t e A B so bb wo M i l n b d → tq i tn → pre M b → (∀ M' n' b', MF M M' n b → MT t e A B so bb wo M' i' l' n' b' d → PD (jI M' 52) (jI M' 53) (jI M' 54) (jI M' 55) n b n' b' f → mL test tn' M' Q) → mL test tn M Q))
  ∨ (∃ i', i' ≤ e ∧ (∀ S c D Q, CT e A sg vl S i l c → r + 4 * (8 - d) ≤ D → (∀ S', CX S S' i' → Q 0 S') → jCall jmt jbud D m [.ref 14, .int (nI d)] S (jqI Q)) ∧ (∀ M n b tn Q, MT t e A B so bb wo M i l n b d → tq i tn → pre M b → (∀ M' tn2, MF M M' n b → MB M' (A i') → mL test tn2 M' Q) → mL test tn M Q))
def tq0 (sg : Nat → Nat) (i : Nat) (tn : Int32) : Prop := tn = 1 ∨ (tn = 0 ∧ sg i ≠ 14 ∧ sg i ≠ 22)
def PrP (op arg pl pa : Nat → Int32) (n b n' b' : Nat) (f : JF) : Prop := b' = b ∧ mD op arg n n' f
def JPart (t e : Nat) (A B sg vl so bb : Nat → Nat) (wo : Nat → Int64) (test : Int32) : Nat → Prop := JJ t e A B sg vl so bb wo test 43 3 17 fB (fun _ => True) (tq0 sg) 3 (fun _ _ => True) PrP
def JTerm (t e : Nat) (A B sg vl so bb : Nat → Nat) (wo : Nat → Int64) (test : Int32) : Nat → Prop := JJ t e A B sg vl so bb wo test 42 4 18 fB (fun s => s ≠ 9 ∧ s ≠ 10) (tq0 sg) 3 (fun M b => BP M b 6) (fun op arg pl _ => TmP op arg pl)
def JSum (t e : Nat) (A B sg vl so bb : Nat → Nat) (wo : Nat → Int64) (test : Int32) : Nat → Prop := JJ t e A B sg vl so bb wo test 41 5 19 fB (fun s => s < 7 ∨ 10 < s) (tq0 sg) 3 (fun M b => BP M b 5) (fun op arg pl _ => SmP op arg pl)
theorem cSg_nI {s : Nat} (h : s < 32) : cSg (nI s) = nI s := by
  have := wd_sg (s := s) (v := 0) h
  rw [Nat.mul_zero, Nat.add_zero] at this; exact this
section JSUM
variable {t e i l n b o c : Nat} {A B sg vl so bb : Nat → Nat} {wo : Nat → Int64} {S S' S1 M M' M2 M0 : JS} {f : JF} {test : Int32}
theorem CT.cx (h : CT e A sg vl S i l c) (he : e ≤ 400) : CX S S i := ⟨jFr.refl _ _, jFk.refl _ _ _, h.2.1.1, c, by have := h.2.2.1; omega, h.2.1.2.2.2⟩
theorem CF.cx {c0 : Nat} (f : CF S S1 c0) (g : CX S1 S' i) : CX S S' i := ⟨f.1.tr g.1, f.2.1.tr g.2.1, g.2.2⟩
theorem mL_1 {Q : JS → Prop} (hs : jSh M) (h14 : jI M 45 14 = 0) (h : ∀ K : Nat → Int32 → Int32 → JS → Prop, (∀ tn' M', mL test tn' M' Q → K 45 test tn' M') → wX12_readPart 45 M (fun r S => K 45 test r S)) : mL test 1 M Q := by
  refine mL_roll (fun K hK => ?_)
  unfold bX12_readExpression_12 wX12_readExpression_38
  rw [h14]
  exact ⟨shA_45 hs, fun z => absurd rfl z, fun _ => ⟨fun z => absurd z (by decide), fun _ => ⟨fun _ => ⟨fun z => absurd rfl z, fun _ => h K hK⟩, fun z => absurd z (by decide)⟩⟩⟩
theorem mL_0 {Q : JS → Prop} (hs : jSh M) (h14 : jI M 45 14 = 0) (h : ∀ K : Nat → Int32 → Int32 → JS → Prop, (∀ tn' M', mL test tn' M' Q → K 45 test tn' M') → wX12_readPlain 45 M (fun r S => K 45 test r S)) : mL test 0 M Q := by
  refine mL_roll (fun K hK => ?_)
  unfold bX12_readExpression_12 wX12_readExpression_38
  rw [h14]
  exact ⟨shA_45 hs, fun z => absurd rfl z, fun _ => ⟨fun z => absurd z (by decide), fun _ => ⟨fun z => absurd rfl z, fun _ => h K hK⟩⟩⟩
theorem mL_3 {Q : JS → Prop} (hs : jSh M) (h14 : jI M 45 14 = 0) (h : ∀ K : Nat → Int32 → Int32 → JS → Prop, (∀ tn' M', mL test tn' M' Q → K 45 test tn' M') → wX12_behindSum 45 test M (fun r S => K 45 test r S)) : mL test 3 M Q := by
  refine mL_roll (fun K hK => ?_)
  unfold bX12_readExpression_12 wX12_readExpression_38
  rw [h14]
  exact ⟨shA_45 hs, fun z => absurd rfl z, fun _ => ⟨fun z => absurd z (by decide), fun _ => ⟨fun _ => ⟨fun _ => ⟨fun z => absurd rfl z, fun _ => h K hK⟩, fun z => absurd z (by decide)⟩, fun z => absurd z (by decide)⟩⟩⟩
theorem mL_2 {Q : JS → Prop} (hs : jSh M) (h14 : jI M 45 14 = 0) (h : ∀ K : Nat → Int32 → Int32 → JS → Prop, (∀ tn' M', mL test tn' M' Q → K 45 test tn' M') → wX12_behindTest 45 M (fun r S => K 45 test r S)) : mL test 2 M Q := by
  refine mL_roll (fun K hK => ?_)
  unfold bX12_readExpression_12 wX12_readExpression_38
  rw [h14]
  exact ⟨shA_45 hs, fun z => absurd rfl z, fun _ => ⟨fun z => absurd z (by decide), fun _ => ⟨fun _ => ⟨fun _ => ⟨fun _ => h K hK, fun z => absurd z (by decide)⟩, fun z => absurd z (by decide)⟩, fun z => absurd z (by decide)⟩⟩⟩
/-- a part is asked for -/
theorem mL_part {Q : JS → Prop} {tn : Int32} (hx : Cx t e A B sg vl so bb wo) (h : MT t e A B so bb wo M i l n b o) (ht : tq0 sg i tn) (hp : ∀ K : Nat → Int32 → Int32 → JS → Prop, (∀ tn' M', mL test tn' M' Q → K 45 test tn' M') → wX12_readPart 45 M (fun r S => K 45 test r S)) : mL test tn M Q := by
  have hs := h.1.1
  rcases ht with e0 | ⟨e0, q1, q2⟩
  · subst e0; exact mL_1 hs h.2.2.1.1 hp
  · subst e0
    refine mL_0 hs h.2.2.1.1 (fun K hK => ?_)
    unfold wX12_readPlain
    refine ⟨shA_45 hs, sX12_isWord hx h (show ((14836 : Int64), 14) ∈ wdT by decide) (fun z => absurd z q1) (fun _ => ⟨fun _ => ⟨shA_45 hs, ?_⟩, fun y => absurd rfl y⟩)⟩
    exact sX12_isSign hx h (show ((40 : Int32), 22) ∈ mkT by decide) (fun z => absurd z q2) (fun _ => ⟨fun _ => ⟨shA_45 hs, hp K hK⟩, fun y => absurd rfl y⟩)
theorem j_part (hx : Cx t e A B sg vl so bb wo) (hi : ∀ i', i < i' → JSum t e A B sg vl so bb wo test i') : JPart t e A B sg vl so bb wo test i := by
  intro d l hd hl he
  have h27 := hx.1.sg27 he
  have het := hx.1.1.1
  have ht4 := hx.1.1.2.1
  have hv := hx.1.2.2.2.1 i
  by_cases c24 : sg i = 24
  · by_cases d8 : d < 8
    · have hlt := hx.1.lt he (by omega)
      -- what the class does up to the sum
      have pre : ∀ S c D (Q : Int32 → JS → Prop), CT e A sg vl S i l c → 3 + 4 * (8 - d) ≤ D → (∀ S2, CF S S2 c → CT e A sg vl S2 (i + 1) l c → jCall jmt jbud (D - 1) 41 [.ref 14, .int (nI (d + 1))] S2 (jqI (fun r15 S14 => (r15 = 0 → Q 0 S14) ∧ (¬ r15 = 0 → jA S14 14 5 ∧ (wX5_pass 14 25 S14 (fun r18 S17 => (r18 = 0 → Q 0 S17) ∧ (¬ r18 = 0 → Q 1 S17))))))) → jCall jmt jbud D 43 [.ref 14, .int (nI d)] S (jqI Q) := by
        intro S c D Q h hD hq
        refine vX5_readPart D (by omega) (fun _ _ _ _ z => z) ?_
        unfold wX5_readPart
        rw [h.2.1.2.1, li_24, nI_eq' (by omega) (by omega), li_8, nI_le' (by omega) (by omega), nI_1]
        refine ⟨shA_14 h.1, fun z => absurd c24 z, fun _ => ⟨fun z => by omega, fun _ => ?_⟩⟩
        refine sX5_pass (s := 24) hx.1 h (by omega) (fun _ S2 f2 k2 h2 => ⟨fun z => absurd z (by decide), fun _ => ⟨shA_14 h2.1, hq S2 (CF.go f2 k2) h2⟩⟩) (fun z => absurd c24 z)
      have mpre : ∀ M n b tn Q, MT t e A B so bb wo M i l n b d → tq0 sg i tn → (∀ M1, MF M M1 n b → MT t e A B so bb wo M1 (i + 1) l n (b + 1) (d + 1) → jI M1 54 b = nI 31 → mL test 1 M1 Q) → mL test tn M Q := by
        intro M n b tn Q h ht hq
        refine mL_part hx h ht (fun K hK => MT.part hx h (fun _ _ M1 f1 m1 p1 => hK _ _ (hq M1 f1 m1 p1)) (fun _ z => absurd d8 z) (fun z => by omega) (fun z => absurd c24 z))
      rcases hi (i + 1) (by omega) (d + 1) l (by omega) hl (by omega) with ⟨f, i1, l1, q1, q2, q3, q4, q5, hC, hM⟩ | ⟨i1, q2, hC, hM⟩
      · have h27' := hx.1.sg27 q2
        by_cases c25 : sg i1 = 25
        · have hlt1 := hx.1.lt q2 (by omega)
          refine Or.inl ⟨f, i1 + 1, l1, by omega, by omega, q3, q4, trivial, fun S c D Q h hD hQ => ?_, fun M n b tn Q h ht _ hQ => ?_⟩
          · refine pre S c D Q h hD (fun S2 f2 h2 => hC S2 c (D - 1) _ h2 (by omega) (fun S3 c3 f3 h3 k3 d3 => ⟨fun z => absurd z (by decide), fun _ => ⟨shA_14 h3.1, ?_⟩⟩))
            refine sX5_pass (s := 25) hx.1 h3 (by omega) (fun _ S4 f4 k4 h4 => ⟨fun z => absurd z (by decide), fun _ => hQ S4 c3 ((f2.tr f3 (Nat.le_refl _)).tr (CF.go (c0 := c) f4 k4) (Nat.le_refl _)) h4 (by omega) ?_⟩) (fun z => absurd c25 z)
            rw [f4.I 20 (by decide)]; exact cD_le d3 (by omega)
          · refine mpre M n b tn Q h ht (fun M1 f1 m1 p1 => hM M1 n (b + 1) 1 Q m1 (Or.inl rfl) (BP.at p1 (by omega) (by decide)) (fun M2 n2 b2 f2 m2 P2 => mL_3 m2.1.1 m2.2.2.1.1 (fun K hK => bs_pick hx m2 (fun z1 z2 => by omega) (fun _ => ?_))))
            refine bs_close hx m2 P2 (by rw [(f2.2.2.2 b (by omega)).1]; exact p1) (fun _ M3 n3 f3 m3 d3 => hK _ _ (hQ M3 n3 b ((f1.tr f2 (Nat.le_refl _) (by omega)).tr f3 (Nat.le_refl _) (Nat.le_refl _)) m3 ⟨rfl, d3⟩)) (fun z => absurd c25 z)
        · refine Or.inr ⟨i1, q2, fun S c D Q h hD hQ => ?_, fun M n b tn Q h ht _ hQ => ?_⟩
          · refine pre S c D Q h hD (fun S2 f2 h2 => hC S2 c (D - 1) _ h2 (by omega) (fun S3 c3 f3 h3 k3 d3 => ⟨fun z => absurd z (by decide), fun _ => ⟨shA_14 h3.1, ?_⟩⟩))
            exact sX5_pass (s := 25) hx.1 h3 (by omega) (fun z => absurd z c25) (fun _ => ⟨fun _ => hQ S3 ((f2.tr f3 (Nat.le_refl _)).cx (h3.cx (by omega))), fun z => absurd rfl z⟩)
          · refine mpre M n b tn Q h ht (fun M1 f1 m1 p1 => hM M1 n (b + 1) 1 Q m1 (Or.inl rfl) (BP.at p1 (by omega) (by decide)) (fun M2 n2 b2 f2 m2 P2 => mL_3 m2.1.1 m2.2.2.1.1 (fun K hK => bs_pick hx m2 (fun z1 z2 => by omega) (fun _ => ?_))))
            refine bs_close hx m2 P2 (by rw [(f2.2.2.2 b (by omega)).1]; exact p1) (fun z => absurd z c25) (fun _ M3 f3 b3 => hK _ _ (hQ M3 _ ((f1.tr f2 (Nat.le_refl _) (by omega)).tr f3 (Nat.le_refl _) (Nat.le_refl _)) b3))
      · refine Or.inr ⟨i1, q2, fun S c D Q h hD hQ => ?_, fun M n b tn Q h ht _ hQ => ?_⟩
        · exact pre S c D Q h hD (fun S2 f2 h2 => hC S2 c (D - 1) _ h2 (by omega) (fun S3 x3 => ⟨fun _ => hQ S3 (f2.cx x3), fun z => absurd rfl z⟩))
        · exact mpre M n b tn Q h ht (fun M1 f1 m1 p1 => hM M1 n (b + 1) 1 Q m1 (Or.inl rfl) (BP.at p1 (by omega) (by decide)) (fun M2 tn2 f2 b2 => hQ M2 tn2 (f1.tr f2 (Nat.le_refl _) (by omega)) b2))
    · refine Or.inr ⟨i, he, fun S c D Q h hD hQ => ?_, fun M n b tn Q h ht _ hQ => ?_⟩
      · refine vX5_readPart D (by omega) (fun _ _ _ _ z => z) ?_
        unfold wX5_readPart
        rw [h.2.1.2.1, li_24, nI_eq' (by omega) (by omega), li_8, nI_le' (by omega) (by omega)]
        exact ⟨shA_14 h.1, fun z => absurd c24 z, fun _ => ⟨fun _ => hQ S (h.cx (by omega)), fun z => absurd (by omega) z⟩⟩
      · exact mL_part hx h ht (fun K hK => MT.part hx h (fun _ z => absurd z d8) (fun _ _ M1 f1 b1 => hK _ _ (hQ M1 _ f1 b1)) (fun z => by omega) (fun z => absurd c24 z))
  · by_cases cl : sg i ≤ 6 ∧ l < 50
    · have hlt := hx.1.lt he (by omega)
      have cm : ∀ S c D (Q : Int32 → JS → Prop), CT e A sg vl S i l c → 3 + 4 * (8 - d) ≤ D → (∀ S' c', CF S S' c → CT e A sg vl S' (i + 1) (l + 1) c' → c' = c + 1 → jI S' 20 c = nI (sg i + 32 * vl i) → Q 1 S') → jCall jmt jbud D 43 [.ref 14, .int (nI d)] S (jqI Q) := by
        intro S c D Q h hD hQ
        have hs := h.1
        refine vX5_readPart D (by omega) (fun _ _ _ _ z => z) ?_
        unfold wX5_readPart
        rw [h.2.1.2.1, li_24, nI_eq' (by omega) (by omega), li_6, nI_lt' (by omega) (by omega), h.2.1.2.2.1, show (50 : Int32) = nI 50 from rfl, nI_lt' (by omega) (by omega), nI_1]
        refine ⟨shA_14 hs, fun _ => ⟨fun z => absurd z (nI_pos (by omega)), fun _ => ⟨fun z => by omega, fun _ => ⟨fun _ => ?_, fun z => absurd cl.2 z⟩⟩⟩, fun z => absurd z c24⟩
        intro S2 e2
        have f2 : jFr [14] S S2 := by rw [e2]; exact (jFr.refl _ _).uI (by decide)
        have k2 : jFk 14 [13] S S2 := by rw [e2]; exact (jFk.refl _ _ _).sI (by decide)
        have hs2 := f2.sh.mpr hs
        have h2 : CT e A sg vl S2 i (l + 1) c := by
          obtain ⟨_, ⟨g1, g2, g3, g4⟩, ⟨h5, h6, h7⟩, h8⟩ := h
          refine ⟨hs2, ⟨?_, ?_, ?_, ?_⟩, ⟨h5, h6, by omega⟩, ?_⟩
          · rw [k2.I 11 (by decide)]; exact g1
          · rw [k2.I 12 (by decide)]; exact g2
          · rw [e2]; simp only [jN_uI, jN_uJ, jN_uR, jK_uI, jK_uJ, jK_uR, jZ_uI, jZ_uJ, jZ_uR, jR_uI, jR_uJ, jr_uI, jr_uJ, jI_uJ, jI_uR, jJ_uI, jJ_uR, jI_uI_eq, jI_uI_ne, jJ_uJ_eq, jJ_uJ_ne, jSh_uI, jSh_uJ, jA_uI, jA_uJ, jA_uR, jI_uIf_eq, jI_uIf_ne, jJ_uIf, jR_uIf, jr_uIf, jZ_uIf, jSh_uIf, jA_uIf, ne_eq, not_false_eq_true, not_true_eq_false, reduceCtorEq, Nat.reduceEqDiff, forall_eq, true_and, and_true, true_implies, forall_const, implies_true, List.mem_cons, List.not_mem_nil, or_false, false_or, or_self, if_true, if_false, reduceIte, Nat.reduceAdd, Nat.reduceMul, Nat.reduceLT, false_implies, Decidable.not_not, bI_eq0, bI_eq1, upd_at, updL_at, Nat.succ_ne_zero, Int32.reduceToNatClampNeg, eq_self, i01, i10]
          · rw [k2.I 8 (by decide)]; exact g4
          · rw [f2.I 21 (by decide), f2.I 22 (by decide)]; exact h8
        have hci := h.2.2.1.2.1
        simp only [shA_14, shA_21, shZ_21, shR_14_0, shr_14_0, shR_14_2, shr_14_2, shR_14_3, shr_14_3, shR_14_4, shr_14_4, shR_14_5, shr_14_5, shR_14_6, shr_14_6, shR_14_9, shr_14_9, shR_14_10, shr_14_10, hs2, h2.2.1.1, ne_eq, not_false_eq_true, not_true_eq_false, reduceCtorEq, Nat.reduceEqDiff, forall_eq, true_and, and_true, true_implies, forall_const, implies_true, List.mem_cons, List.not_mem_nil, or_false, false_or, or_self, if_true, if_false, reduceIte, Nat.reduceAdd, Nat.reduceMul, Nat.reduceLT, false_implies, Decidable.not_not, bI_eq0, bI_eq1, upd_at, updL_at, Nat.succ_ne_zero, Int32.reduceToNatClampNeg, eq_self, i01, i10]
        rw [nI_tn (by omega), (h2.2.2.2 i he).1]
        refine ⟨nI_in2 (by omega) (by omega), sX5_emit hs2 h2.2.1.2.2.2 (by omega) ?_⟩
        have f3 : CF S2 (uI (uI S2 20 c (nI (sg i + 32 * vl i))) 14 8 (nI (c + 1))) c := CF.em (Nat.le_refl _)
        -- c words, then one more: one past the token until the class goes on
        obtain ⟨_, ⟨g1, g2, g3, g4⟩, ⟨h5, h6, h7⟩, h8⟩ := h2
        generalize e3 : uI (uI S2 20 c (nI (sg i + 32 * vl i))) 14 8 (nI (c + 1)) = S3 at f3 ⊢
        have hs3 := f3.1.sh.mpr hs2
        refine ⟨shA_14 hs3, ?_⟩
        have a3 : jI S3 14 11 = nI i := by rw [← e3]; simp only [jN_uI, jN_uJ, jN_uR, jK_uI, jK_uJ, jK_uR, jZ_uI, jZ_uJ, jZ_uR, jR_uI, jR_uJ, jr_uI, jr_uJ, jI_uJ, jI_uR, jJ_uI, jJ_uR, jI_uI_eq, jI_uI_ne, jJ_uJ_eq, jJ_uJ_ne, jSh_uI, jSh_uJ, jA_uI, jA_uJ, jA_uR, jI_uIf_eq, jI_uIf_ne, jJ_uIf, jR_uIf, jr_uIf, jZ_uIf, jSh_uIf, jA_uIf, ne_eq, not_false_eq_true, not_true_eq_false, reduceCtorEq, Nat.reduceEqDiff, forall_eq, true_and, and_true, true_implies, forall_const, implies_true, List.mem_cons, List.not_mem_nil, or_false, false_or, or_self, if_true, if_false, reduceIte, Nat.reduceAdd, Nat.reduceMul, Nat.reduceLT, false_implies, Decidable.not_not, bI_eq0, bI_eq1, upd_at, updL_at, Nat.succ_ne_zero, Int32.reduceToNatClampNeg, eq_self, i01, i10]; exact g1
        have b3 : jI S3 14 13 = nI (l + 1) := by rw [← e3]; simp only [jN_uI, jN_uJ, jN_uR, jK_uI, jK_uJ, jK_uR, jZ_uI, jZ_uJ, jZ_uR, jR_uI, jR_uJ, jr_uI, jr_uJ, jI_uJ, jI_uR, jJ_uI, jJ_uR, jI_uI_eq, jI_uI_ne, jJ_uJ_eq, jJ_uJ_ne, jSh_uI, jSh_uJ, jA_uI, jA_uJ, jA_uR, jI_uIf_eq, jI_uIf_ne, jJ_uIf, jR_uIf, jr_uIf, jZ_uIf, jSh_uIf, jA_uIf, ne_eq, not_false_eq_true, not_true_eq_false, reduceCtorEq, Nat.reduceEqDiff, forall_eq, true_and, and_true, true_implies, forall_const, implies_true, List.mem_cons, List.not_mem_nil, or_false, false_or, or_self, if_true, if_false, reduceIte, Nat.reduceAdd, Nat.reduceMul, Nat.reduceLT, false_implies, Decidable.not_not, bI_eq0, bI_eq1, upd_at, updL_at, Nat.succ_ne_zero, Int32.reduceToNatClampNeg, eq_self, i01, i10]; exact g3
        have c3 : jI S3 14 8 = nI (c + 1) := by rw [← e3]; simp only [jN_uI, jN_uJ, jN_uR, jK_uI, jK_uJ, jK_uR, jZ_uI, jZ_uJ, jZ_uR, jR_uI, jR_uJ, jr_uI, jr_uJ, jI_uJ, jI_uR, jJ_uI, jJ_uR, jI_uI_eq, jI_uI_ne, jJ_uJ_eq, jJ_uJ_ne, jSh_uI, jSh_uJ, jA_uI, jA_uJ, jA_uR, jI_uIf_eq, jI_uIf_ne, jJ_uIf, jR_uIf, jr_uIf, jZ_uIf, jSh_uIf, jA_uIf, ne_eq, not_false_eq_true, not_true_eq_false, reduceCtorEq, Nat.reduceEqDiff, forall_eq, true_and, and_true, true_implies, forall_const, implies_true, List.mem_cons, List.not_mem_nil, or_false, false_or, or_self, if_true, if_false, reduceIte, Nat.reduceAdd, Nat.reduceMul, Nat.reduceLT, false_implies, Decidable.not_not, bI_eq0, bI_eq1, upd_at, updL_at, Nat.succ_ne_zero, Int32.reduceToNatClampNeg, eq_self, i01, i10]
        have w3 : jI S3 20 c = nI (sg i + 32 * vl i) := by rw [← e3]; simp only [jN_uI, jN_uJ, jN_uR, jK_uI, jK_uJ, jK_uR, jZ_uI, jZ_uJ, jZ_uR, jR_uI, jR_uJ, jr_uI, jr_uJ, jI_uJ, jI_uR, jJ_uI, jJ_uR, jI_uI_eq, jI_uI_ne, jJ_uJ_eq, jJ_uJ_ne, jSh_uI, jSh_uJ, jA_uI, jA_uJ, jA_uR, jI_uIf_eq, jI_uIf_ne, jJ_uIf, jR_uIf, jr_uIf, jZ_uIf, jSh_uIf, jA_uIf, ne_eq, not_false_eq_true, not_true_eq_false, reduceCtorEq, Nat.reduceEqDiff, forall_eq, true_and, and_true, true_implies, forall_const, implies_true, List.mem_cons, List.not_mem_nil, or_false, false_or, or_self, if_true, if_false, reduceIte, Nat.reduceAdd, Nat.reduceMul, Nat.reduceLT, false_implies, Decidable.not_not, bI_eq0, bI_eq1, upd_at, updL_at, Nat.succ_ne_zero, Int32.reduceToNatClampNeg, eq_self, i01, i10]
        rw [a3, nI_1]
        have s27 := hx.1.sg27 (i := i + 1) (by omega)
        unfold wX5_goTo
        have e1 : ¬ (400 : Int32) < nI (i + 1) := by rw [li_400, nI_lt' (by omega) (by omega)]; omega
        have e2 : ¬ nI (i + 1) < (0 : Int32) := by rw [li_0, nI_lt' (by omega) (by omega)]; omega
        refine ⟨fun z => absurd z e2, fun _ => ⟨fun z => absurd z e1, fun _ => ?_⟩⟩
        have h8' : ∀ j, j ≤ e → jI S3 21 j = nI (sg j + 32 * vl j) ∧ jI S3 22 j = nI (A j) := by rw [f3.1.I 21 (by decide), f3.1.I 22 (by decide)]; exact h8
        simp only [shA_14, shA_21, shZ_21, shR_14_0, shr_14_0, shR_14_2, shr_14_2, shR_14_3, shr_14_3, shR_14_4, shr_14_4, shR_14_5, shr_14_5, shR_14_6, shr_14_6, shR_14_9, shr_14_9, shR_14_10, shr_14_10, hs3, jN_uI, jN_uJ, jN_uR, jK_uI, jK_uJ, jK_uR, jZ_uI, jZ_uJ, jZ_uR, jR_uI, jR_uJ, jr_uI, jr_uJ, jI_uJ, jI_uR, jJ_uI, jJ_uR, jI_uI_eq, jI_uI_ne, jJ_uJ_eq, jJ_uJ_ne, jSh_uI, jSh_uJ, jA_uI, jA_uJ, jA_uR, jI_uIf_eq, jI_uIf_ne, jJ_uIf, jR_uIf, jr_uIf, jZ_uIf, jSh_uIf, jA_uIf, ne_eq, not_false_eq_true, not_true_eq_false, reduceCtorEq, Nat.reduceEqDiff, forall_eq, true_and, and_true, true_implies, forall_const, implies_true, List.mem_cons, List.not_mem_nil, or_false, false_or, or_self, if_true, if_false, reduceIte, Nat.reduceAdd, Nat.reduceMul, Nat.reduceLT, false_implies, Decidable.not_not, bI_eq0, bI_eq1, upd_at, updL_at, Nat.succ_ne_zero, Int32.reduceToNatClampNeg, eq_self, i01, i10]
        rw [nI_tn (by omega), (h8' (i + 1) (by omega)).1, wd_sg (by omega)]
        have f4 : jFr [14] S3 (uI (uI S3 14 11 (nI (i + 1))) 14 12 (nI (sg (i + 1)))) := ((jFr.refl _ _).uI (by decide)).uI (by decide)
        have k4 : jFk 14 [11, 12] S3 (uI (uI S3 14 11 (nI (i + 1))) 14 12 (nI (sg (i + 1)))) := ((jFk.refl _ _ _).sI (by decide)).sI (by decide)
        refine ⟨nI_in2 (by omega) (by omega), hQ _ (c + 1) (((CF.tr (c1 := c) ⟨f2.mono (by decide), k2.mono (by decide), fun k hk => by rw [f2.I 20 (by decide)]⟩ f3 (Nat.le_refl _))).tr (CF.go (c0 := c) f4 k4) (Nat.le_refl _)) ⟨f4.sh.mpr hs3, ⟨?_, ?_, ?_, ?_⟩, ⟨by omega, by omega, by omega⟩, ?_⟩ rfl ?_⟩
        · simp only [jN_uI, jN_uJ, jN_uR, jK_uI, jK_uJ, jK_uR, jZ_uI, jZ_uJ, jZ_uR, jR_uI, jR_uJ, jr_uI, jr_uJ, jI_uJ, jI_uR, jJ_uI, jJ_uR, jI_uI_eq, jI_uI_ne, jJ_uJ_eq, jJ_uJ_ne, jSh_uI, jSh_uJ, jA_uI, jA_uJ, jA_uR, jI_uIf_eq, jI_uIf_ne, jJ_uIf, jR_uIf, jr_uIf, jZ_uIf, jSh_uIf, jA_uIf, ne_eq, not_false_eq_true, not_true_eq_false, reduceCtorEq, Nat.reduceEqDiff, forall_eq, true_and, and_true, true_implies, forall_const, implies_true, List.mem_cons, List.not_mem_nil, or_false, false_or, or_self, if_true, if_false, reduceIte, Nat.reduceAdd, Nat.reduceMul, Nat.reduceLT, false_implies, Decidable.not_not, bI_eq0, bI_eq1, upd_at, updL_at, Nat.succ_ne_zero, Int32.reduceToNatClampNeg, eq_self, i01, i10]
        · simp only [jN_uI, jN_uJ, jN_uR, jK_uI, jK_uJ, jK_uR, jZ_uI, jZ_uJ, jZ_uR, jR_uI, jR_uJ, jr_uI, jr_uJ, jI_uJ, jI_uR, jJ_uI, jJ_uR, jI_uI_eq, jI_uI_ne, jJ_uJ_eq, jJ_uJ_ne, jSh_uI, jSh_uJ, jA_uI, jA_uJ, jA_uR, jI_uIf_eq, jI_uIf_ne, jJ_uIf, jR_uIf, jr_uIf, jZ_uIf, jSh_uIf, jA_uIf, ne_eq, not_false_eq_true, not_true_eq_false, reduceCtorEq, Nat.reduceEqDiff, forall_eq, true_and, and_true, true_implies, forall_const, implies_true, List.mem_cons, List.not_mem_nil, or_false, false_or, or_self, if_true, if_false, reduceIte, Nat.reduceAdd, Nat.reduceMul, Nat.reduceLT, false_implies, Decidable.not_not, bI_eq0, bI_eq1, upd_at, updL_at, Nat.succ_ne_zero, Int32.reduceToNatClampNeg, eq_self, i01, i10]
        · rw [k4.I 13 (by decide)]; exact b3
        · rw [k4.I 8 (by decide)]; exact c3
        · rw [f4.I 21 (by decide), f4.I 22 (by decide)]; exact h8'
        · rw [f4.I 20 (by decide)]; exact w3
      have mm : ∀ M n b tn Q, MT t e A B so bb wo M i l n b d → tq0 sg i tn → (∀ M1, MF M M1 n b → MT t e A B so bb wo M1 (i + 1) (l + 1) (n + 1) b d → jI M1 52 n = nI (sg i) → jI M1 53 n = nI (vl i) → mL test 3 M1 Q) → mL test tn M Q := by
        intro M n b tn Q h ht hq
        exact mL_part hx h ht (fun K hK => MT.part hx h (fun z => absurd z c24) (fun z => absurd z c24) (fun _ _ M1 f1 m1 e1 e2 => hK _ _ (hq M1 f1 m1 e1 e2)) (fun _ z => by omega))
      by_cases c0 : sg i = 0
      · refine Or.inl ⟨fNum (nI (vl i)).toInt64, i + 1, l + 1, by omega, by omega, by omega, ?_, trivial, fun S c D Q h hD hQ => cm S c D Q h hD (fun S' c' f' h' ec w => hQ S' c' f' h' (by omega) ?_), fun M n b tn Q h ht _ hQ => mm M n b tn Q h ht (fun M1 f1 m1 e1 e2 => hQ M1 (n + 1) b f1 m1 ⟨rfl, ?_⟩)⟩
        · have : ∀ v, v < 1001 → 0 ≤ (nI v).toInt64 ∧ (nI v).toInt64 ≤ 1000 := by decide +kernel
          exact fB_num (this _ (by omega)).1 (this _ (by omega)).2
        · subst ec
          have := cD_num (code := jI S' 20) (a := c) (by rw [w]; unfold cSg; rw [wd_sg (by omega), c0]; rfl)
          rw [w, show cWt (nI (sg i + 32 * vl i)) = nI (vl i) from wd_wt (by omega) (by omega)] at this
          exact cD_le this (by omega)
        · have := mD_num (op := jI M1 52) (arg := jI M1 53) (a := n) (by rw [e1, c0]; rfl)
          rw [e2] at this; exact this
      · refine Or.inl ⟨fWord (sg i), i + 1, l + 1, by omega, by omega, by omega, fB_word, trivial, fun S c D Q h hD hQ => cm S c D Q h hD (fun S' c' f' h' ec w => hQ S' c' f' h' (by omega) ?_), fun M n b tn Q h ht _ hQ => mm M n b tn Q h ht (fun M1 f1 m1 e1 e2 => hQ M1 (n + 1) b f1 m1 ⟨rfl, ?_⟩)⟩
        · subst ec
          have es : cSg (jI S' 20 c) = nI (sg i) := by rw [w]; unfold cSg; rw [wd_sg (by omega)]
          have := cD_word (code := jI S' 20) (a := c) (by rw [es, li_0, nI_lt' (by omega) (by omega)]; omega) (by rw [es, li_6, nI_le' (by omega) (by omega)]; omega)
          rw [es, nI_tn (by omega)] at this
          exact cD_le this (by omega)
        · have := mD_word (op := jI M1 52) (arg := jI M1 53) (a := n) (by rw [e1, li_0, nI_lt' (by omega) (by omega)]; omega) (by rw [e1, show (7 : Int32) = nI 7 from rfl, nI_lt' (by omega) (by omega)]; omega)
          rw [e1, nI_tn (by omega)] at this; exact this
    · refine Or.inr ⟨i, he, fun S c D Q h hD hQ => ?_, fun M n b tn Q h ht _ hQ => ?_⟩
      · refine vX5_readPart D (by omega) (fun _ _ _ _ z => z) ?_
        unfold wX5_readPart
        rw [h.2.1.2.1, li_24, nI_eq' (by omega) (by omega), li_6, nI_lt' (by omega) (by omega), h.2.1.2.2.1, show (50 : Int32) = nI 50 from rfl, nI_lt' (by omega) (by omega)]
        have q := hQ S (h.cx (by omega))
        exact ⟨shA_14 h.1, fun _ => ⟨fun _ => q, fun _ => ⟨fun _ => q, fun z => ⟨fun z2 => absurd ⟨by omega, z2⟩ cl, fun _ => q⟩⟩⟩, fun z => absurd z c24⟩
      · exact mL_part hx h ht (fun K hK => MT.part hx h (fun z => absurd z c24) (fun z => absurd z c24) (fun z1 z2 => absurd ⟨z1, z2⟩ cl) (fun _ _ M1 f1 b1 => hK _ _ (hQ M1 _ f1 b1)))
end JSUM
