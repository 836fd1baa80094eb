/-! BOTH READERS AT ONCE: comparisons, brackets, tests -/
def tqz (_ : Nat) (tn : Int32) : Prop := tn = 0
def preC (test : Int32) (x : Nat) (M : JS) (b : Nat) : Prop := BP M b x ∧ IP test M b
def JCmp (t e : Nat) (A B sg vl so bb : Nat → Nat) (wo : Nat → Int64) (test : Int32) (m : Nat) : Nat → Prop := JJ t e A B sg vl so bb wo test m 6 20 fZ (fun _ => True) tqz 2 (preC test 4) (fun op arg pl _ => PlP op arg pl 0)
def JPlain (t e : Nat) (A B sg vl so bb : Nat → Nat) (wo : Nat → Int64) (test : Int32) : Nat → Prop := JJ t e A B sg vl so bb wo test 38 7 20 fZ (fun _ => True) tqz 2 (preC test 4) (fun op arg pl _ n b n' b' f => ∃ k, PlP op arg pl k n b n' b' f)
def JBoth (t e : Nat) (A B sg vl so bb : Nat → Nat) (wo : Nat → Int64) (test : Int32) : Nat → Prop := JJ t e A B sg vl so bb wo test 37 8 20 fZ (fun s => s ≠ 16) tqz 2 (preC test 2) BoP
def JTest (t e : Nat) (A B sg vl so bb : Nat → Nat) (wo : Nat → Int64) (test : Int32) : Nat → Prop := JJ t e A B sg vl so bb wo test 36 9 20 fZ (fun s => s ≠ 15 ∧ s ≠ 16) tqz 2 (preC test 1) TeP
section JTEST
variable {t e i l n b o c : Nat} {A B sg vl so bb : Nat → Nat} {wo : Nat → Int64} {S S' S1 M M' M2 M0 : JS} {f : JF} {test : Int32}
theorem preC.mf {x : Nat} (h : preC test x M b) (f : MF M M' n b) : preC test x M' b := ⟨h.1.cg (fun k hk => (f.2.2.2 k hk).1), h.2.cg (fun k hk => (f.2.2.2 k hk).1)⟩
theorem j_cmp (hx : Cx t e A B sg vl so bb wo) (h14 : sg i ≠ 14) (h22 : sg i ≠ 22) : JCmp t e A B sg vl so bb wo test 40 i := by
  intro d l hd hl he
  have het := hx.1.1.1
  have ht4 := hx.1.1.2.1
  -- up to the end of the first sum
  have cpre : ∀ S c D (Q : Int32 → JS → Prop), CT e A sg vl S i l c → 6 + 4 * (8 - d) ≤ D → jCall jmt jbud (D - 1) 41 [.ref 14, .int (nI d)] S (jqI (fun r2 S1 => (¬ r2 = 0 → jA S1 14 5 ∧ (∀ x5 : Int32, x5 = (jI S1 14 12) → ((x5 < 11 → Q 0 S1) ∧ (¬ (x5 < 11) → (x5 ≤ 13 → wX5_goTo 14 ((jI S1 14 11) + (1 : Int32)) S1 (fun S6 => jA S6 14 5 ∧ (jCall jmt jbud (D - 1) 41 [.ref 14, .int (nI d)] S6 (jqI (fun r9 S8 => jA S8 14 5 ∧ (wX5_emit 14 x5 S8 (fun r12 S11 => jbit r9 ∧ Q r9 S11))))))) ∧ (¬ (x5 ≤ 13) → Q 0 S1))))) ∧ (r2 = 0 → Q 0 S1))) → jCall jmt jbud D 40 [.ref 14, .int (nI d)] S (jqI Q) := by
    intro S c D Q h hD hq
    exact vX5_readComparison D (by omega) (fun _ _ _ _ z => z) ⟨shA_14 h.1, hq⟩
  rcases j_sums (test := test) hx i d l hd hl he with ⟨f1, i1, l1, q1, q2, q3, q4, q5, hC, hM⟩ | ⟨i1, q2, hC, hM⟩
  · have h27 := hx.1.sg27 q2
    by_cases cs : 11 ≤ sg i1 ∧ sg i1 ≤ 13
    · have hlt := hx.1.lt q2 (by omega)
      have mm : ∀ M n b Q, MT t e A B so bb wo M i l n b d → preC test 4 M b → (∀ M2 n2, MF M M2 n b → MT t e A B so bb wo M2 (i1 + 1) l1 n2 (b + 1) d → jI M2 54 b = nI (sg i1 + 13) → mD (jI M2 52) (jI M2 53) n n2 f1 → mL test 1 M2 Q) → mL test 0 M Q := by
        intro M n b Q h hp hq
        refine hM M n b 0 Q h (Or.inr ⟨rfl, h14, h22⟩) (hp.1.le (by omega)) (fun M1 n1 b1 g1 m1 P1 => mL_3 m1.1.1 m1.2.2.1.1 (fun K hK => bs_pick hx m1 (fun z1 z2 => by omega) (fun _ => ?_)))
        exact bs_cmp hx m1 (hp.mf g1).2 (hp.mf g1).1 P1 (fun _ _ M2 n2 g2 m2 p2 d2 => hK _ _ (hq M2 n2 (g1.tr g2 (Nat.le_refl _) (Nat.le_refl _)) m2 p2 d2)) (fun z => by omega)
      have b5 : ∀ (M2 : JS) (b : Nat), jI M2 54 b = nI (sg i1 + 13) → BP M2 (b + 1) 5 := by
        intro M2 b p2
        refine BP.at p2 (by omega) ?_
        rcases (by omega : sg i1 = 11 ∨ sg i1 = 12 ∨ sg i1 = 13) with z | z | z <;> rw [z] <;> decide
      rcases j_sums (test := test) hx (i1 + 1) d l1 hd q3 (by omega) with ⟨f2, i2, l2, s1, s2, s3, s4, s5, tC, tM⟩ | ⟨i2, s2, tC, tM⟩
      · refine Or.inl ⟨fBin (nI (sg i1 + 13)) f1 f2, i2, l2, by omega, s2, s3, fZ_cmp (by rw [li_24, nI_le' (by omega) (by omega)]; omega) (by rw [li_26, nI_le' (by omega) (by omega)]; omega), trivial, fun S c D Q h hD hQ => ?_, fun M n b tn Q h ht hp hQ => ?_⟩
        · refine cpre S c D Q h hD (hC S c (D - 1) _ h (by omega) (fun S2 c2 f2' h2 k2 d2 => ⟨fun _ => ⟨shA_14 h2.1, fun x5 e5 => ?_⟩, fun z => absurd z (by decide)⟩))
          rw [e5, h2.2.1.2.1, show (11 : Int32) = nI 11 from rfl, show (13 : Int32) = nI 13 from rfl, nI_lt' (by omega) (by omega), nI_le' (by omega) (by omega)]
          refine ⟨fun z => by omega, fun _ => ⟨fun _ => ?_, fun z => absurd cs.2 z⟩⟩
          have l2' := d2.1
          have hci := h2.2.2.1.2.1
          refine sX5_next hx.1 h2 (by omega) (fun S3 g3 k3 h3 => ⟨shA_14 h3.1, tC S3 c2 (D - 1) _ h3 (by omega) (fun S4 c4 f4 h4 k4 d4 => ⟨shA_14 h4.1, sX5_emit h4.1 h4.2.1.2.2.2 (by have := h4.2.2.1.2.1; omega) ⟨jb1, ?_⟩⟩)⟩)
          have l4 := d4.1
          have f24 : CF S2 S4 c2 := (CF.go (c0 := c2) g3 k3).tr f4 (Nat.le_refl _)
          refine hQ _ (c4 + 1) (f2'.tr (f24.tr (CF.em (c0 := c2) l4) (Nat.le_refl _)) l2') (h4.em (by omega)) (by omega) ?_
          simp only [jN_uI, jN_uJ, jN_uR, jK_uI, jK_uJ, jK_uR, jZ_uI, jZ_uJ, jZ_uR, jR_uI, jR_uJ, jr_uI, jr_uJ, jI_uJ, jI_uR, jJ_uI, jJ_uR, jI_uI_eq, jI_uI_ne, jJ_uJ_eq, jJ_uJ_ne, jSh_uI, jSh_uJ, jA_uI, jA_uJ, jA_uR, jI_uIf_eq, jI_uIf_ne, jJ_uIf, jR_uIf, jr_uIf, jZ_uIf, jSh_uIf, jA_uIf, ne_eq, not_false_eq_true, not_true_eq_false, reduceCtorEq, Nat.reduceEqDiff, forall_eq, true_and, and_true, true_implies, forall_const, implies_true, List.mem_cons, List.not_mem_nil, or_false, false_or, or_self, if_true, if_false, reduceIte, Nat.reduceAdd, Nat.reduceMul, Nat.reduceLT, false_implies, Decidable.not_not, bI_eq0, bI_eq1, upd_at, updL_at, Nat.succ_ne_zero, Int32.reduceToNatClampNeg, eq_self, i01, i10]
          have e1 : cD (upd (jI S4 20) c4 (nI (sg i1))) (19 - 2 * d + 1) c c2 f1 := by
            refine cD_congr (cD_le d2 (by omega)) (fun k k1 k2 => ?_)
            rw [upd_at, if_neg (by omega)]; exact f24.2.2 k k2
          have e2 : cD (upd (jI S4 20) c4 (nI (sg i1))) (19 - 2 * d) c2 c4 f2 := by
            refine cD_congr d4 (fun k k1 k2 => ?_)
            rw [upd_at, if_neg (by omega)]
          have ec : cSg (upd (jI S4 20) c4 (nI (sg i1)) c4) = nI (sg i1) := by rw [upd_at, if_pos rfl, cSg_nI (by omega)]
          have := cD_bin e1 e2 (by rw [ec, show (7 : Int32) = nI 7 from rfl, nI_le' (by omega) (by omega)]; omega) (by rw [ec, show (13 : Int32) = nI 13 from rfl, nI_le' (by omega) (by omega)]; omega)
          rw [ec, show nI (sg i1) + 13 = nI (sg i1 + 13) from nI_add _ 13] at this
          exact cD_le this (by omega)
        · cases ht
          refine mm M n b Q h hp (fun M2 n2 g2 m2 p2 d2 => tM M2 n2 (b + 1) 1 Q m2 (Or.inl rfl) (b5 M2 b p2) (fun M3 n3 b3 g3 m3 P3 => mL_3 m3.1.1 m3.2.2.1.1 (fun K hK => bs_pick hx m3 (fun z1 z2 => by omega) (fun _ => ?_))))
          have g23 := g2.tr g3 d2.1 (by omega)
          have P : CmP (jI M3 52) (jI M3 53) (jI M3 54) n b n3 b3 (fBin (nI (sg i1 + 13)) f1 f2) := ⟨sg i1 + 13, n2, f1, f2, by omega, by rw [(g3.2.2.2 b (by omega)).1]; exact p2, mD_congr d2 (fun k _ k2 => g3.2.2.1 k k2), P3, rfl⟩
          exact bs_told hx m3 (hp.mf g23).2 P (hK _ _ (hQ M3 n3 b3 g23 m3 (Or.inl P)))
      · refine Or.inr ⟨i2, s2, fun S c D Q h hD hQ => ?_, fun M n b tn Q h ht hp hQ => ?_⟩
        · refine cpre S c D Q h hD (hC S c (D - 1) _ h (by omega) (fun S2 c2 f2' h2 k2 d2 => ⟨fun _ => ⟨shA_14 h2.1, fun x5 e5 => ?_⟩, fun z => absurd z (by decide)⟩))
          rw [e5, h2.2.1.2.1, show (11 : Int32) = nI 11 from rfl, show (13 : Int32) = nI 13 from rfl, nI_lt' (by omega) (by omega), nI_le' (by omega) (by omega)]
          refine ⟨fun z => by omega, fun _ => ⟨fun _ => ?_, fun z => absurd cs.2 z⟩⟩
          exact sX5_next hx.1 h2 (by omega) (fun S3 g3 k3 h3 => ⟨shA_14 h3.1, tC S3 c2 (D - 1) _ h3 (by omega) (fun S4 x4 => ⟨shA_14 (x4.1.sh.mpr h3.1), x4.em h3.1 (fun r S5 x5 => ⟨jb0, hQ S5 (f2'.cx ((CF.go (c0 := 0) g3 k3).cx x5))⟩)⟩)⟩)
        · cases ht
          exact mm M n b Q h hp (fun M2 n2 g2 m2 p2 d2 => tM M2 n2 (b + 1) 1 Q m2 (Or.inl rfl) (b5 M2 b p2) (fun M3 tn3 g3 b3 => hQ M3 tn3 (g2.tr g3 d2.1 (by omega)) b3))
    · refine Or.inr ⟨i1, q2, fun S c D Q h hD hQ => ?_, fun M n b tn Q h ht hp hQ => ?_⟩
      · refine cpre S c D Q h hD (hC S c (D - 1) _ h (by omega) (fun S2 c2 f2' h2 k2 d2 => ⟨fun _ => ⟨shA_14 h2.1, fun x5 e5 => ?_⟩, fun z => absurd z (by decide)⟩))
        rw [e5, h2.2.1.2.1, show (11 : Int32) = nI 11 from rfl, show (13 : Int32) = nI 13 from rfl, nI_lt' (by omega) (by omega), nI_le' (by omega) (by omega)]
        have q := hQ S2 (f2'.cx (h2.cx (by omega)))
        exact ⟨fun _ => q, fun z1 => ⟨fun z2 => absurd ⟨by omega, z2⟩ cs, fun _ => q⟩⟩
      · cases ht
        refine hM M n b 0 Q h (Or.inr ⟨rfl, h14, h22⟩) (hp.1.le (by omega)) (fun M1 n1 b1 g1 m1 P1 => mL_3 m1.1.1 m1.2.2.1.1 (fun K hK => bs_pick hx m1 (fun z1 z2 => by omega) (fun _ => ?_)))
        exact bs_cmp hx m1 (hp.mf g1).2 (hp.mf g1).1 P1 (fun z1 z2 => absurd ⟨z1, z2⟩ cs) (fun _ M2 g2 b2 => hK _ _ (hQ M2 _ (g1.tr g2 (Nat.le_refl _) (Nat.le_refl _)) b2))
  · refine Or.inr ⟨i1, q2, fun S c D Q h hD hQ => ?_, fun M n b tn Q h ht hp hQ => ?_⟩
    · exact cpre S c D Q h hD (hC S c (D - 1) _ h (by omega) (fun S2 x2 => ⟨fun z => absurd rfl z, fun _ => hQ S2 x2⟩))
    · cases ht
      exact hM M n b 0 Q h (Or.inr ⟨rfl, h14, h22⟩) (hp.1.le (by omega)) hQ
theorem mL_open {Q : JS → Prop} (hx : Cx t e A B sg vl so bb wo) (h : MT t e A B so bb wo M i l n b o) (h22 : sg i = 22) (h1 : o < 8 → ∀ M', MF M M' n b → MT t e A B so bb wo M' (i + 1) l n (b + 1) (o + 1) → jI M' 54 b = nI 30 → mL test 0 M' Q) (h0 : ¬ o < 8 → ∀ M', MF M M' n b → MB M' (A i) → mL test 0 M' Q) : mL test 0 M Q := by
  have hs := h.1.1
  refine mL_0 hs h.2.2.1.1 (fun K hK => ?_)
  unfold wX12_readPlain
  refine ⟨shA_45 hs, sX12_isWord hx h (show ((14836 : Int64), 14) ∈ wdT by decide) (fun z => by omega) (fun _ => ⟨fun _ => ⟨shA_45 hs, ?_⟩, fun y => absurd rfl y⟩)⟩
  exact sX12_isSign hx h (show ((40 : Int32), 22) ∈ mkT by decide) (fun _ => ⟨fun y => absurd y (by decide), fun _ => ⟨shA_45 hs, MT.opn (p := 30) hx h (by omega) (by omega) (fun z M1 f1 m1 p1 => hK _ _ (h1 z M1 f1 m1 p1)) (fun z M1 f1 b1 => hK _ _ (h0 z M1 f1 b1))⟩⟩) (fun z => absurd h22 z)
theorem mL_not {Q : JS → Prop} (hx : Cx t e A B sg vl so bb wo) (h : MT t e A B so bb wo M i l n b o) (h14 : sg i = 14) (h1 : ∀ M', MF M M' n b → MT t e A B so bb wo M' (i + 1) l n (b + 1) o → jI M' 54 b = nI 27 → mL test 0 M' Q) : mL test 0 M Q := by
  have hs := h.1.1
  refine mL_0 hs h.2.2.1.1 (fun K hK => ?_)
  unfold wX12_readPlain
  exact ⟨shA_45 hs, sX12_isWord hx h (show ((14836 : Int64), 14) ∈ wdT by decide) (fun _ => ⟨fun y => absurd y (by decide), fun _ => ⟨shA_45 hs, MT.pushN (p := 27) hx h (by omega) (by omega) (fun M1 f1 m1 p1 _ _ => hK _ _ (h1 M1 f1 m1 p1))⟩⟩) (fun z => absurd h14 z)⟩
theorem j_round (hx : Cx t e A B sg vl so bb wo) (h22 : sg i = 22) (hi : ∀ i', i < i' → JTest t e A B sg vl so bb wo test i') : JCmp t e A B sg vl so bb wo test 39 i := by
  intro d l hd hl he
  have het := hx.1.1.1
  have ht4 := hx.1.1.2.1
  have hlt := hx.1.lt he (by omega)
  by_cases d8 : d < 8
  · have pre : ∀ S c D (Q : Int32 → JS → Prop), CT e A sg vl S i l c → 6 + 4 * (8 - d) ≤ D → (∀ S2, CF S S2 c → CT e A sg vl S2 (i + 1) l c → jCall jmt jbud (D - 1) 36 [.ref 14, .int (nI (d + 1))] S2 (jqI (fun r5 S4 => (r5 = 0 → Q 0 S4) ∧ (¬ r5 = 0 → jA S4 14 5 ∧ (wX5_pass 14 23 S4 (fun r8 S7 => (r8 = 0 → Q 0 S7) ∧ (¬ r8 = 0 → Q 1 S7))))))) → jCall jmt jbud D 39 [.ref 14, .int (nI d)] S (jqI Q) := by
      intro S c D Q h hD hq
      refine vX5_readRoundBracket D (by omega) (fun _ _ _ _ z => z) ?_
      unfold wX5_readRoundBracket
      rw [li_8, nI_le' (by omega) (by omega), nI_1]
      refine ⟨fun z => by omega, fun _ => ⟨shA_14 h.1, ?_⟩⟩
      exact sX5_pass (s := 22) hx.1 h (by omega) (fun _ S2 f2 k2 h2 => ⟨fun z => absurd z (by decide), fun _ => ⟨shA_14 h2.1, hq S2 (CF.go f2 k2) h2⟩⟩) (fun z => absurd h22 z)
    have pc : ∀ (M1 : JS) (b : Nat), jI M1 54 b = nI 30 → preC test 1 M1 (b + 1) := by
      intro M1 b p1
      have e1 : inn (jI M1 54) (b + 1) = 30 := by rw [inn, if_neg (by rw [p1]; decide), p1]; rfl
      exact ⟨BP.at p1 (by omega) (by decide), by rw [e1]; decide, fun z => by rw [e1] at z; exact absurd z (by decide)⟩
    rcases hi (i + 1) (by omega) (d + 1) l (by omega) hl (by omega) with ⟨f, i1, l1, q1, q2, q3, q4, q5, hC, hM⟩ | ⟨i1, q2, hC, hM⟩
    · have h27' := hx.1.sg27 q2
      by_cases c23 : sg i1 = 23
      · have hlt1 := hx.1.lt q2 (by omega)
        refine Or.inl ⟨f, i1 + 1, l1, by omega, by omega, q3, q4, trivial, fun S c D Q h hD hQ => ?_, fun M n b tn Q h ht _ hQ => ?_⟩
        · refine pre S c D Q h hD (fun S2 f2 h2 => hC S2 c (D - 1) _ h2 (by omega) (fun S3 c3 f3 h3 k3 d3 => ⟨fun z => absurd z (by decide), fun _ => ⟨shA_14 h3.1, ?_⟩⟩))
          refine sX5_pass (s := 23) hx.1 h3 (by omega) (fun _ S4 f4 k4 h4 => ⟨fun z => absurd z (by decide), fun _ => hQ S4 c3 ((f2.tr f3 (Nat.le_refl _)).tr (CF.go (c0 := c) f4 k4) (Nat.le_refl _)) h4 (by omega) ?_⟩) (fun z => absurd c23 z)
          rw [f4.I 20 (by decide)]; exact cD_le d3 (by omega)
        · cases ht
          refine mL_open hx h h22 (fun _ M1 f1 m1 p1 => hM M1 n (b + 1) 0 Q m1 rfl (pc M1 b p1) (fun M2 n2 b2 f2 m2 P2 => mL_2 m2.1.1 m2.2.2.1.1 (fun K hK => ?_))) (fun z => absurd d8 z)
          exact bt_close hx m2 P2 (by rw [(f2.2.2.2 b (by omega)).1]; exact p1) q5.1 q5.2 (fun _ M3 n3 f3 m3 d3 => hK _ _ (hQ M3 n3 b ((f1.tr f2 (Nat.le_refl _) (by omega)).tr f3 (Nat.le_refl _) (Nat.le_refl _)) m3 (Or.inr ⟨rfl, d3⟩))) (fun z => absurd c23 z)
      · refine Or.inr ⟨i1, q2, fun S c D Q h hD hQ => ?_, fun M n b tn Q h ht _ hQ => ?_⟩
        · refine pre S c D Q h hD (fun S2 f2 h2 => hC S2 c (D - 1) _ h2 (by omega) (fun S3 c3 f3 h3 k3 d3 => ⟨fun z => absurd z (by decide), fun _ => ⟨shA_14 h3.1, ?_⟩⟩))
          exact sX5_pass (s := 23) hx.1 h3 (by omega) (fun z => absurd z c23) (fun _ => ⟨fun _ => hQ S3 ((f2.tr f3 (Nat.le_refl _)).cx (h3.cx (by omega))), fun z => absurd rfl z⟩)
        · cases ht
          refine mL_open hx h h22 (fun _ M1 f1 m1 p1 => hM M1 n (b + 1) 0 Q m1 rfl (pc M1 b p1) (fun M2 n2 b2 f2 m2 P2 => mL_2 m2.1.1 m2.2.2.1.1 (fun K hK => ?_))) (fun z => absurd d8 z)
          exact bt_close hx m2 P2 (by rw [(f2.2.2.2 b (by omega)).1]; exact p1) q5.1 q5.2 (fun z => absurd z c23) (fun _ M3 f3 b3 => hK _ _ (hQ M3 _ ((f1.tr f2 (Nat.le_refl _) (by omega)).tr f3 (Nat.le_refl _) (Nat.le_refl _)) b3))
    · refine Or.inr ⟨i1, q2, fun S c D Q h hD hQ => ?_, fun M n b tn Q h ht _ hQ => ?_⟩
      · exact pre S c D Q h hD (fun S2 f2 h2 => hC S2 c (D - 1) _ h2 (by omega) (fun S3 x3 => ⟨fun _ => hQ S3 (f2.cx x3), fun z => absurd rfl z⟩))
      · cases ht
        exact mL_open hx h h22 (fun _ M1 f1 m1 p1 => hM M1 n (b + 1) 0 Q m1 rfl (pc M1 b p1) (fun M2 tn2 f2 b2 => hQ M2 tn2 (f1.tr f2 (Nat.le_refl _) (by omega)) b2)) (fun z => absurd d8 z)
  · refine Or.inr ⟨i, he, fun S c D Q h hD hQ => ?_, fun M n b tn Q h ht _ hQ => ?_⟩
    · refine vX5_readRoundBracket D (by omega) (fun _ _ _ _ z => z) ?_
      unfold wX5_readRoundBracket
      rw [li_8, nI_le' (by omega) (by omega)]
      exact ⟨fun _ => hQ S (h.cx (by omega)), fun z => absurd (by omega) z⟩
    · cases ht
      exact mL_open hx h h22 (fun z => absurd z d8) (fun _ M1 f1 b1 => hQ M1 _ f1 b1)
/-! nots -/
def JPl0 (t e : Nat) (A B sg vl so bb : Nat → Nat) (wo : Nat → Int64) (test : Int32) (i : Nat) : Prop :=
  ∀ d l, d ≤ 8 → l ≤ 50 → i ≤ e →
  (∃ f i' l', i < i' ∧ i' ≤ e ∧ l' ≤ 50 ∧ fZ f ∧ (∀ S c D tw j (Q : Int32 → JS → Prop), CT e A sg vl S i l c → tw ≤ 1 → c + tw ≤ i → j ≤ i → 7 + 4 * (8 - d) ≤ D → (∀ S' c', CF S S' c → CT e A sg vl S' i' l' c' → c' + i ≤ c + i' + tw → cD (jI S' 20) (20 - 2 * d) c c' (if tw = 1 then fNot f else f) → Q 1 S') → wX5_readPlain_4 (jCall jmt jbud (D - 1)) 14 (nI d) (nI tw) (nI j) S Q) ∧ (∀ M n b Q, MT t e A B so bb wo M i l n b d → preC test 4 M b → (∀ M' n' b', MF M M' n b → MT t e A B so bb wo M' i' l' n' b' d → (∃ k, PlP (jI M' 52) (jI M' 53) (jI M' 54) k n b n' b' f) → mL test 2 M' Q) → mL test 0 M Q))
  ∨ (∃ i', i' ≤ e ∧ (∀ S c D tw j (Q : Int32 → JS → Prop), CT e A sg vl S i l c → tw ≤ 1 → j ≤ i → 7 + 4 * (8 - d) ≤ D → (∀ S', CX S S' i' → Q 0 S') → wX5_readPlain_4 (jCall jmt jbud (D - 1)) 14 (nI d) (nI tw) (nI j) S Q) ∧ (∀ M n b Q, MT t e A B so bb wo M i l n b d → preC test 4 M b → (∀ M' tn2, MF M M' n b → MB M' (A i') → mL test tn2 M' Q) → mL test 0 M Q))
theorem lp_roll {Q : Int32 → JS → Prop} {G : Nat → List Value → JS → (Option Value → JS → Prop) → Prop} {p x y : Int32} (h : ∀ K : Nat → Int32 → Int32 → Int32 → JS → Prop, (∀ x' y' S', wX5_readPlain_4 G 14 p x' y' S' Q → K 14 p x' y' S') → bX5_readPlain_4 G K 14 p x y S Q) : wX5_readPlain_4 G 14 p x y S Q := by
  unfold wX5_readPlain_4
  exact jLoop.roll (h _ (fun _ _ _ h => h))
theorem j_pl_not (hx : Cx t e A B sg vl so bb wo) (h14 : sg i = 14) (hi : JPl0 t e A B sg vl so bb wo test (i + 1)) : JPl0 t e A B sg vl so bb wo test i := by
  intro d l hd hl he
  have het := hx.1.1.1
  have ht4 := hx.1.1.2.1
  have hlt := hx.1.lt he (by omega)
  have cm : ∀ S c D tw j (Q : Int32 → JS → Prop), CT e A sg vl S i l c → tw ≤ 1 → j ≤ i → (∀ S2, CF S S2 c → CT e A sg vl S2 (i + 1) l c → wX5_readPlain_4 (jCall jmt jbud (D - 1)) 14 (nI d) (nI (1 - tw)) (nI (j + 1)) S2 Q) → wX5_readPlain_4 (jCall jmt jbud (D - 1)) 14 (nI d) (nI tw) (nI j) S Q := by
    intro S c D tw j Q h htw hj hq
    refine lp_roll (fun K hK => ?_)
    unfold bX5_readPlain_4 wX5_readPlain_16
    rw [li_400, nI_le' (by omega) (by omega)]
    refine ⟨fun z => by omega, fun _ => ⟨shA_14 h.1, ?_⟩⟩
    refine sX5_pass (s := 14) hx.1 h (by omega) (fun _ S2 f2 k2 h2 => ⟨fun z => absurd z (by decide), fun _ => ?_⟩) (fun z => absurd h14 z)
    have q := hK _ _ _ (hq S2 (CF.go f2 k2) h2)
    rcases (by omega : tw = 0 ∨ tw = 1) with z | z <;> subst z
    · exact ⟨fun y => absurd rfl y, fun _ x e => by rw [e, nI_1]; exact q⟩
    · exact ⟨fun _ x e => by rw [e, nI_1]; exact q, fun y => absurd y (by decide)⟩
  have pc : ∀ (M M1 : JS) (n b : Nat), preC test 4 M b → MF M M1 n b → jI M1 54 b = nI 27 → preC test 4 M1 (b + 1) := by
    intro M M1 n b hp f1 p1
    refine ⟨BP.at p1 (by omega) (by decide), (hp.mf f1).2.ext (by omega) (fun k k1 k2 => ⟨27, by omega, by rw [show k = b by omega]; exact p1⟩)⟩
  rcases hi d l hd hl (by omega) with ⟨f, i1, l1, q1, q2, q3, q4, hC, hM⟩ | ⟨i1, q2, hC, hM⟩
  · refine Or.inl ⟨fNot f, i1, l1, by omega, q2, q3, fZ_not q4, fun S c D tw j Q h htw hc hj hD hQ => ?_, fun M n b Q h hp hQ => ?_⟩
    · refine cm S c D tw j Q h htw hj (fun S2 f2 h2 => hC S2 c D (1 - tw) (j + 1) Q h2 (by omega) (by omega) (by omega) hD (fun S3 c3 f3 h3 k3 d3 => hQ S3 c3 (f2.tr f3 (Nat.le_refl _)) h3 (by omega) ?_))
      rcases (by omega : tw = 0 ∨ tw = 1) with z | z <;> subst z
      · rw [if_pos rfl] at d3; rw [if_neg (by omega)]; exact d3
      · rw [if_neg (by omega)] at d3; rw [if_pos rfl, fNot_not]; exact d3
    · exact mL_not hx h h14 (fun M1 f1 m1 p1 => hM M1 n (b + 1) Q m1 (pc M M1 n b hp f1 p1) (fun M2 n2 b2 f2 m2 ⟨k, P2⟩ => hQ M2 n2 b2 (f1.tr f2 (Nat.le_refl _) (by omega)) m2 ⟨k + 1, by rw [(f2.2.2.2 b (by omega)).1]; exact p1, f, P2, rfl⟩))
  · refine Or.inr ⟨i1, q2, fun S c D tw j Q h htw hj hD hQ => ?_, fun M n b Q h hp hQ => ?_⟩
    · exact cm S c D tw j Q h htw hj (fun S2 f2 h2 => hC S2 c D (1 - tw) (j + 1) Q h2 (by omega) (by omega) hD (fun S3 x3 => hQ S3 (f2.cx x3)))
    · exact mL_not hx h h14 (fun M1 f1 m1 p1 => hM M1 n (b + 1) Q m1 (pc M M1 n b hp f1 p1) (fun M2 tn2 f2 b2 => hQ M2 tn2 (f1.tr f2 (Nat.le_refl _) (by omega)) b2))
theorem j_pl_base {m : Nat} (hx : Cx t e A B sg vl so bb wo) (h14 : sg i ≠ 14) (hm : (m = 39 ∧ sg i = 22) ∨ (m = 40 ∧ sg i ≠ 22)) (hi : JCmp t e A B sg vl so bb wo test m i) : JPl0 t e A B sg vl so bb wo test i := by
  intro d l hd hl he
  have het := hx.1.1.1
  have ht4 := hx.1.1.2.1
  have h27 := hx.1.sg27 he
  have cm : ∀ S c D tw j (Q : Int32 → JS → Prop), CT e A sg vl S i l c → jCall jmt jbud (D - 1) m [.ref 14, .int (nI d)] S (jqI (fun r3 S2 => wX5_readPlain_30 (jCall jmt jbud (D - 1)) 14 (nI tw) r3 S2 Q)) → wX5_readPlain_4 (jCall jmt jbud (D - 1)) 14 (nI d) (nI tw) (nI j) S Q := by
    intro S c D tw j Q h hq
    have q : wX5_readPlain_19 (jCall jmt jbud (D - 1)) 14 (nI d) (nI tw) S Q := by
      unfold wX5_readPlain_19
      rw [h.2.1.2.1, li_22, nI_eq' (by omega) (by omega)]
      rcases hm with ⟨e1, e2⟩ | ⟨e1, e2⟩ <;> subst e1
      · exact ⟨shA_14 h.1, fun z => absurd e2 z, fun _ => hq⟩
      · exact ⟨shA_14 h.1, fun _ => hq, fun z => absurd z e2⟩
    refine lp_roll (fun K hK => ?_)
    unfold bX5_readPlain_4
    exact ⟨fun _ => q, fun _ => ⟨shA_14 h.1, sX5_pass (s := 14) hx.1 h (by omega) (fun z => absurd z h14) (fun _ => ⟨fun _ => q, fun z => absurd rfl z⟩)⟩⟩
  rcases hi d l hd hl he with ⟨f, i1, l1, q1, q2, q3, q4, _, hC, hM⟩ | ⟨i1, q2, hC, hM⟩
  · refine Or.inl ⟨f, i1, l1, q1, q2, q3, q4, fun S c D tw j Q h htw hc hj hD hQ => ?_, fun M n b Q h hp hQ => hM M n b 0 Q h rfl hp (fun M' n' b' g m P => hQ M' n' b' g m ⟨0, P⟩)⟩
    refine cm S c D tw j Q h (hC S c (D - 1) _ h (by omega) (fun S2 c2 f2 h2 k2 d2 => ?_))
    unfold wX5_readPlain_30
    refine ⟨fun z => absurd z (by decide), fun _ => ?_⟩
    have l2 := d2.1
    rcases (by omega : tw = 0 ∨ tw = 1) with z | z <;> subst z
    · exact ⟨fun _ => ⟨jb1, hQ S2 c2 f2 h2 (by omega) (by rw [if_neg (by omega)]; exact d2)⟩, fun y => absurd rfl y⟩
    · refine ⟨fun y => absurd y (by decide), fun _ => ⟨shA_14 h2.1, sX5_emit h2.1 h2.2.1.2.2.2 (by have := h2.2.2.1; omega) ⟨jb1, hQ _ (c2 + 1) (f2.tr (CF.em (c0 := c) l2) (Nat.le_refl _)) (h2.em (by omega)) (by omega) ?_⟩⟩⟩
      rw [if_pos rfl]
      simp only [jN_uI, jN_uJ, jN_uR, jK_uI, jK_uJ, jK_uR, jZ_uI, jZ_uJ, jZ_uR, jR_uI, jR_uJ, jr_uI, jr_uJ, jI_uJ, jI_uR, jJ_uI, jJ_uR, jI_uI_eq, jI_uI_ne, jJ_uJ_eq, jJ_uJ_ne, jSh_uI, jSh_uJ, jA_uI, jA_uJ, jA_uR, jI_uIf_eq, jI_uIf_ne, jJ_uIf, jR_uIf, jr_uIf, jZ_uIf, jSh_uIf, jA_uIf, ne_eq, not_false_eq_true, not_true_eq_false, reduceCtorEq, Nat.reduceEqDiff, forall_eq, true_and, and_true, true_implies, forall_const, implies_true, List.mem_cons, List.not_mem_nil, or_false, false_or, or_self, if_true, if_false, reduceIte, Nat.reduceAdd, Nat.reduceMul, Nat.reduceLT, false_implies, Decidable.not_not, bI_eq0, bI_eq1, upd_at, updL_at, Nat.succ_ne_zero, Int32.reduceToNatClampNeg, eq_self, i01, i10]
      exact cD_not (cD_congr d2 (fun k k1 k2 => by rw [upd_at, if_neg (by omega)])) (by rw [upd_at, if_pos rfl]; rfl)
  · refine Or.inr ⟨i1, q2, fun S c D tw j Q h htw hj hD hQ => ?_, fun M n b Q h hp hQ => hM M n b 0 Q h rfl hp hQ⟩
    refine cm S c D tw j Q h (hC S c (D - 1) _ h (by omega) (fun S2 x2 => ?_))
    unfold wX5_readPlain_30
    exact ⟨fun _ => ⟨jb0, hQ S2 x2⟩, fun z => absurd rfl z⟩
theorem j_pl0 {i0 : Nat} (hx : Cx t e A B sg vl so bb wo) (hi : ∀ i', i0 < i' → JTest t e A B sg vl so bb wo test i') : ∀ k i, e - i ≤ k → i0 ≤ i → JPl0 t e A B sg vl so bb wo test i := by
  intro k
  induction k with
  | zero =>
    intro i h1 h2 d l hd hl he
    have e0 : i = e := by omega
    have e26 : sg i = 26 := by rw [e0]; exact hx.1.1.2.2.2
    exact j_pl_base (m := 40) hx (by omega) (Or.inr ⟨rfl, by omega⟩) (j_cmp hx (by omega) (by omega)) d l hd hl he
  | succ k ih =>
    intro i h1 h2
    by_cases c14 : sg i = 14
    · by_cases ce : i < e
      · exact j_pl_not hx c14 (ih (i + 1) (by omega) (by omega))
      · intro d l hd hl he
        have e0 : i = e := by omega
        have e26 : sg i = 26 := by rw [e0]; exact hx.1.1.2.2.2
        omega
    · by_cases c22 : sg i = 22
      · exact j_pl_base (m := 39) hx c14 (Or.inl ⟨rfl, c22⟩) (j_round hx c22 (fun i' h' => hi i' (by omega)))
      · exact j_pl_base (m := 40) hx c14 (Or.inr ⟨rfl, c22⟩) (j_cmp hx c14 c22)
theorem j_plain {i0 : Nat} (hx : Cx t e A B sg vl so bb wo) (hi : ∀ i', i0 < i' → JTest t e A B sg vl so bb wo test i') : ∀ i, i0 ≤ i → JPlain t e A B sg vl so bb wo test i := by
  intro i h0 d l hd hl he
  rcases j_pl0 hx hi (e - i) i (Nat.le_refl _) h0 d l hd hl he with ⟨f, i1, l1, q1, q2, q3, q4, hC, hM⟩ | ⟨i1, q2, hC, hM⟩
  · refine Or.inl ⟨f, i1, l1, q1, q2, q3, q4, trivial, fun S c D Q h hD hQ => ?_, fun M n b tn Q h ht hp hQ => ?_⟩
    · exact vX5_readPlain D (by omega) (fun _ _ _ _ z => z) (hC S c D 0 0 Q h (by omega) (by have := h.2.2.1.2.1; omega) (by omega) hD (fun S' c' f' h' k' d' => hQ S' c' f' h' k' (by rw [if_neg (by omega)] at d'; exact d')))
    · cases ht; exact hM M n b Q h hp hQ
  · refine Or.inr ⟨i1, q2, fun S c D Q h hD hQ => ?_, fun M n b tn Q h ht hp hQ => ?_⟩
    · exact vX5_readPlain D (by omega) (fun _ _ _ _ z => z) (hC S c D 0 0 Q h (by omega) (by omega) hD hQ)
    · cases ht; exact hM M n b Q h hp hQ
end JTEST
