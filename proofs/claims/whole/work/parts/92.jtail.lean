/-! BOTH READERS AT ONCE: what follows a first reading -/
def JT (t e : Nat) (A B sg vl so bb : Nat → Nat) (wo : Nat → Int64) (test : Int32) (W : Nat → Int32 → Int32 → Int32 → JS → (Int32 → JS → Prop) → Prop) (r mx : Nat) (fp : JF → Prop) (np : Nat → Prop) (tn : Int32) (pre : JS → Nat → Prop) (PD : (Nat → Int32) → (Nat → Int32) → (Nat → Int32) → (Nat → Int32) → Nat → Nat → Nat → Nat → JF → Prop) (i d l : Nat) (f1 : JF) : Prop :=
  (∃ f i' l', i ≤ i' ∧ i' ≤ e ∧ l' ≤ 50 ∧ fp f ∧ np (sg i') ∧ (∀ S c c1 i0 D j Q, CT e A sg vl S i l c1 → c1 + i0 ≤ c + i → j ≤ i → r + 4 * (8 - d) ≤ D → cD (jI S 20) (mx - 2 * d) c c1 f1 → CQ e A sg vl S c i0 i' l' (mx - 2 * d) f Q → W D (nI d) 1 (nI j) S Q) ∧ (∀ M n b n1 b1 Q, MT t e A B so bb wo M i l n1 b1 d → pre M b → PD (jI M 52) (jI M 53) (jI M 54) (jI M 55) n b n1 b1 f1 → (∀ M' n' b', MF M M' n b → MT t e A B so bb wo M' i' l' n' b' d → PD (jI M' 52) (jI M' 53) (jI M' 54) (jI M' 55) n b n' b' f → mL test tn M' Q) → mL test tn M Q))
  ∨ (∃ i', i' ≤ e ∧ (∀ S c1 D j Q, CT e A sg vl S i l c1 → j ≤ i → r + 4 * (8 - d) ≤ D → (∀ S', CX S S' i' → Q 0 S') → W D (nI d) 1 (nI j) S Q) ∧ (∀ M n b n1 b1 Q, MT t e A B so bb wo M i l n1 b1 d → pre M b → PD (jI M 52) (jI M 53) (jI M 54) (jI M 55) n b n1 b1 f1 → (∀ M' tn2, MF M M' n b → MB M' (A i') → mL test tn2 M' Q) → mL test tn M Q))
section JTAIL
variable {t e i l n b o c : Nat} {A B sg vl so bb : Nat → Nat} {wo : Nat → Int64} {S S' S1 M M' M2 M0 : JS} {f : JF} {test : Int32}
theorem CX.em {Q : Int32 → JS → Prop} {w : Int32} (h : CX S S' i) (hs : jSh S) (hq : ∀ r S2, CX S S2 i → Q r S2) : wX5_emit 14 w S' Q := by
  obtain ⟨f, k, a, c, c1, c2⟩ := h
  refine sX5_emitF (f.sh.mpr hs) c2 c1 (fun r S2 c' f2 k2 e2 l2 => hq r S2 ⟨f.tr f2, k.tr (k2.mono (by decide)), ?_, c', l2, e2⟩)
  rw [k2.I 11 (by decide)]; exact a
theorem CX.ld {Q : JS → Prop} {w : Int32} (h : CX S S' i) (hs : jSh S) (hq : ∀ S2, CX S S2 i → Q S2) : wX5_landHere 14 w S' Q := by
  obtain ⟨f, k, a, c, c1, c2⟩ := h
  refine sX5_landF (f.sh.mpr hs) c2 c1 (fun S2 f2 => hq S2 ⟨f.tr (f2.mono (by decide)), k.tr (jFk.of f2 (by decide)), ?_, c, c1, ?_⟩)
  · rw [f2.I 14 (by decide)]; exact a
  · rw [f2.I 14 (by decide)]; exact c2
theorem JT.main {W : Nat → Int32 → Int32 → Int32 → JS → (Int32 → JS → Prop) → Prop} {m1 r1 mx1 m r mx : Nat} {fp : JF → Prop} {np1 np : Nat → Prop} {tq : Nat → Int32 → Prop} {tn : Int32} {pre1 pre : JS → Nat → Prop} {PD1 PD : (Nat → Int32) → (Nat → Int32) → (Nat → Int32) → (Nat → Int32) → Nat → Nat → Nat → Nat → JF → Prop}
    (hfirst : JJ t e A B sg vl so bb wo test m1 r1 mx1 fp np1 tq tn pre1 PD1 i) (hr : r1 + 1 ≤ r) (hmx : mx1 ≤ mx) (hpre : ∀ M b, pre M b → pre1 M b) (hmf : ∀ M M' n b, pre M b → MF M M' n b → pre M' b)
    (hPD : ∀ op arg pl pa n b n' b' f, PD1 op arg pl pa n b n' b' f → PD op arg pl pa n b n' b' f)
    (hle : ∀ op arg pl pa n b n' b' f, PD1 op arg pl pa n b n' b' f → n ≤ n' ∧ b ≤ b')
    (hcall : ∀ D d S (Q : Int32 → JS → Prop), jSh S → r ≤ D → jCall jmt jbud (D - 1) m1 [.ref 14, .int (nI d)] S (jqI (fun r2 S1 => W D (nI d) r2 0 S1 Q)) → jCall jmt jbud D m [.ref 14, .int (nI d)] S (jqI Q))
    (hW0 : ∀ D p j S (Q : Int32 → JS → Prop), Q 0 S → W D p 0 j S Q)
    (htail : ∀ i1 d l f1, i < i1 → i1 ≤ e → d ≤ 8 → l ≤ 50 → fp f1 → np1 (sg i1) → JT t e A B sg vl so bb wo test W r mx fp np tn pre PD i1 d l f1) : JJ t e A B sg vl so bb wo test m r mx fp np tq tn pre PD i := by
  intro d l hd hl he
  rcases hfirst d l hd hl he with ⟨f1, i1, l1, q1, q2, q3, q4, q5, hC, hM⟩ | ⟨i1, q2, hC, hM⟩
  · rcases htail i1 d l1 f1 q1 q2 hd q3 q4 q5 with ⟨f, i2, l2, s1, s2, s3, s4, s5, tC, tM⟩ | ⟨i2, s2, tC, tM⟩
    · refine Or.inl ⟨f, i2, l2, by omega, s2, s3, s4, s5, fun S c D Q h hD hQ => ?_, fun M n b tn0 Q h ht hp hQ => ?_⟩
      · refine hcall D d S Q h.1 (by omega) (hC S c (D - 1) _ h (by omega) (fun S2 c2 f2 h2 k2 d2 => ?_))
        exact tC S2 c c2 i D 0 Q h2 k2 (by omega) hD (cD_le d2 (by omega)) (fun S3 c3 f3 h3 k3 d3 => hQ S3 c3 (f2.tr f3 (Nat.le_refl _)) h3 k3 d3)
      · refine hM M n b tn0 Q h ht (hpre M b hp) (fun M1 n1 b1 f1 m1 P1 => tM M1 n b n1 b1 Q m1 (hmf M M1 n b hp f1) (hPD _ _ _ _ _ _ _ _ _ P1) (fun M2 n2 b2 f2 m2 P2 => hQ M2 n2 b2 (f1.tr f2 (Nat.le_refl _) (Nat.le_refl _)) m2 P2))
    · refine Or.inr ⟨i2, s2, fun S c D Q h hD hQ => ?_, fun M n b tn0 Q h ht hp hQ => ?_⟩
      · refine hcall D d S Q h.1 (by omega) (hC S c (D - 1) _ h (by omega) (fun S2 c2 f2 h2 k2 d2 => ?_))
        exact tC S2 c2 D 0 Q h2 (by omega) hD (fun S3 x3 => hQ S3 (f2.cx x3))
      · exact hM M n b tn0 Q h ht (hpre M b hp) (fun M1 n1 b1 f1 m1 P1 => tM M1 n b n1 b1 Q m1 (hmf M M1 n b hp f1) (hPD _ _ _ _ _ _ _ _ _ P1) (fun M2 tn2 f2 b2 => hQ M2 tn2 (f1.tr f2 (Nat.le_refl _) (Nat.le_refl _)) b2))
  · refine Or.inr ⟨i1, q2, fun S c D Q h hD hQ => ?_, fun M n b tn0 Q h ht hp hQ => ?_⟩
    · exact hcall D d S Q h.1 (by omega) (hC S c (D - 1) _ h (by omega) (fun S2 x2 => hW0 _ _ _ _ _ (hQ S2 x2)))
    · exact hM M n b tn0 Q h ht (hpre M b hp) hQ
theorem JT.bin {W : Nat → Int32 → Int32 → Int32 → JS → (Int32 → JS → Prop) → Prop} {m1 r1 mx1 r mx : Nat} {np1 np st : Nat → Prop} {pre1 pre : JS → Nat → Prop} {PD1 PD : (Nat → Int32) → (Nat → Int32) → (Nat → Int32) → (Nat → Int32) → Nat → Nat → Nat → Nat → JF → Prop} {i0 : Nat} (hx : Cx t e A B sg vl so bb wo)
    (hfirst : ∀ i, i0 ≤ i → JJ t e A B sg vl so bb wo test m1 r1 mx1 fB np1 (tq0 sg) 3 pre1 PD1 i) (hr : r1 + 1 ≤ r) (hmx : mx1 + 1 = mx) (hmx1 : 16 ≤ mx1) (hst : ∀ s, st s → 7 ≤ s ∧ s ≤ 10) (hnp : ∀ s, np1 s → ¬ st s → np s)
    (hmf : ∀ M M' n b, pre M b → MF M M' n b → pre M' b)
    (hpre1 : ∀ M b s, st s → jI M 54 b = nI (s + 13) → pre1 M (b + 1))
    (hle : ∀ op arg pl pa n b n' b' f, PD op arg pl pa n b n' b' f → n ≤ n' ∧ b ≤ b')
    (hPD : ∀ op arg pl pa n b n' b' m s f1 f2, st s → pl b = nI (s + 13) → mD op arg n m f1 → PD1 op arg pl pa m (b + 1) n' b' f2 → PD op arg pl pa n b n' b' (fBin (nI (s + 13)) f1 f2))
    (hset : ∀ i l n b n1 b1 d M f1 (Q : JS → Prop), st (sg i) → MT t e A B so bb wo M i l n1 b1 d → pre M b → PD (jI M 52) (jI M 53) (jI M 54) (jI M 55) n b n1 b1 f1 → (∀ M1 n2, MF M M1 n b → jI M1 54 = jI M 54 → MT t e A B so bb wo M1 i l n2 b d → mD (jI M1 52) (jI M1 53) n n2 f1 → Q M1) → wX12_settle_0 45 (nI (bd (sg i + 13))) M Q)
    (hW0 : ∀ D p j S (Q : Int32 → JS → Prop), Q 0 S → W D p 0 j S Q)
    (hW1 : ∀ D d i l c j S (Q : Int32 → JS → Prop), CT e A sg vl S i l c → ¬ st (sg i) → Q 1 S → W D (nI d) 1 (nI j) S Q)
    (hWg : ∀ D d i l c j S (Q : Int32 → JS → Prop), CT e A sg vl S i l c → st (sg i) → j < 400 → (∀ K : Int32 → JS → Prop, (∀ x S', W D (nI d) x (nI (j + 1)) S' Q → K x S') → wX5_goTo 14 (jI S 14 11 + 1) S (fun S7 => jA S7 14 5 ∧ jCall jmt jbud (D - 1) m1 [.ref 14, .int (nI d)] S7 (jqI (fun r10 S9 => jA S9 14 5 ∧ wX5_emit 14 (nI (sg i)) S9 (fun _ S12 => K r10 S12))))) → W D (nI d) 1 (nI j) S Q) :
    ∀ k i, e - i ≤ k → i0 ≤ i → i ≤ e → ∀ d l f1, d ≤ 8 → l ≤ 50 → fB f1 → np1 (sg i) → JT t e A B sg vl so bb wo test W r mx fB np 3 pre PD i d l f1 := by
  have het := hx.1.1.1
  have ht4 := hx.1.1.2.1
  intro k
  induction k with
  | zero =>
    intro i hk hi he d l f1 hd hl hf hn
    have e0 : i = e := by omega
    have ns : ¬ st (sg i) := by intro z; have := hst _ z; rw [e0, hx.1.1.2.2.2] at this; omega
    exact Or.inl ⟨f1, i, l, Nat.le_refl _, he, hl, hf, hnp _ hn ns, fun S c c1 i0 D j Q h hc hj hD d1 hQ => hW1 D d i l c1 j S Q h ns (hQ S c1 CF.refl h hc d1), fun M n b n1 b1 Q h hp P hQ => hQ M n1 b1 MF.refl h P⟩
  | succ k ih =>
    intro i hk hi he d l f1 hd hl hf hn
    by_cases ns : ¬ st (sg i)
    · exact Or.inl ⟨f1, i, l, Nat.le_refl _, he, hl, hf, hnp _ hn ns, fun S c c1 i0 D j Q h hc hj hD d1 hQ => hW1 D d i l c1 j S Q h ns (hQ S c1 CF.refl h hc d1), fun M n b n1 b1 Q h hp P hQ => hQ M n1 b1 MF.refl h P⟩
    have ys : st (sg i) := Classical.not_not.mp ns
    obtain ⟨s7, s10⟩ := hst _ ys
    have hlt := hx.1.lt he (by omega)
    -- the model: settle, push, go on, read
    have mm : ∀ M n b n1 b1 Q, MT t e A B so bb wo M i l n1 b1 d → pre M b → PD (jI M 52) (jI M 53) (jI M 54) (jI M 55) n b n1 b1 f1 → (∀ M1 n2, MF M M1 n b → MT t e A B so bb wo M1 (i + 1) l n2 (b + 1) d → jI M1 54 b = nI (sg i + 13) → mD (jI M1 52) (jI M1 53) n n2 f1 → mL test 1 M1 Q) → mL test 3 M Q := by
      intro M n b n1 b1 Q h hp P hq
      exact mL_3 h.1.1 h.2.2.1.1 (fun K hK => bs_pick hx h (fun _ _ => bs_op (p := sg i + 13) hx (by omega) (by omega) (fun Q' hQ' => hset i l n b n1 b1 d M f1 Q' ys h hp P hQ') h.1.1 (fun M1 n2 f1 m1 p1 d1 => hK _ _ (hq M1 n2 f1 m1 p1 d1))) (fun z => by omega))
    rcases hfirst (i + 1) (by omega) d l hd hl (by omega) with ⟨f2, i2, l2, q1, q2, q3, q4, q5, hC, hM⟩ | ⟨i2, q2, hC, hM⟩
    · -- the class: go on, read, put the word
      have cm : ∀ S c c1 i0 D j (Q : Int32 → JS → Prop), CT e A sg vl S i l c1 → c1 + i0 ≤ c + i → j ≤ i → r + 4 * (8 - d) ≤ D → (∀ S4 c4, CF S S4 c1 → CT e A sg vl S4 i2 l2 c4 → c4 + i0 ≤ c + i2 → c1 < c4 → (cD (jI S 20) (mx - 2 * d) c c1 f1 → cD (jI S4 20) (mx - 2 * d) c c4 (fBin (nI (sg i + 13)) f1 f2)) → W D (nI d) 1 (nI (j + 1)) S4 Q) → W D (nI d) 1 (nI j) S Q := by
        intro S c c1 i0 D j Q h hc hj hD hq
        have hci := h.2.2.1.2.1
        refine hWg D d i l c1 j S Q h ys (by omega) (fun K hK => sX5_next hx.1 h (by omega) (fun S2 g2 k2 h2 => ⟨shA_14 h2.1, hC S2 c1 (D - 1) _ h2 (by omega) (fun S3 c3 f3 h3 k3 d3 => ⟨shA_14 h3.1, sX5_emit h3.1 h3.2.1.2.2.2 (by have := h3.2.2.1.2.1; omega) ?_⟩)⟩))
        have l3 := d3.1
        have f23 : CF S S3 c1 := (CF.go (c0 := c1) g2 k2).tr f3 (Nat.le_refl _)
        refine hK _ _ (hq _ (c3 + 1) (f23.tr (CF.em (c0 := c1) l3) (Nat.le_refl _)) (h3.em (by omega)) (by omega) (by omega) (fun d1 => ?_))
        have l1 := d1.1
        simp only [jN_uI, jN_uJ, jN_uR, jK_uI, jK_uJ, jK_uR, jZ_uI, jZ_uJ, jZ_uR, jR_uI, jR_uJ, jr_uI, jr_uJ, jI_uJ, jI_uR, jJ_uI, jJ_uR, jI_uI_eq, jI_uI_ne, jJ_uJ_eq, jJ_uJ_ne, jSh_uI, jSh_uJ, jA_uI, jA_uJ, jA_uR, jI_uIf_eq, jI_uIf_ne, jJ_uIf, jR_uIf, jr_uIf, jZ_uIf, jSh_uIf, jA_uIf, ne_eq, not_false_eq_true, not_true_eq_false, reduceCtorEq, Nat.reduceEqDiff, forall_eq, true_and, and_true, true_implies, forall_const, implies_true, List.mem_cons, List.not_mem_nil, or_false, false_or, or_self, if_true, if_false, reduceIte, Nat.reduceAdd, Nat.reduceMul, Nat.reduceLT, false_implies, Decidable.not_not, bI_eq0, bI_eq1, upd_at, updL_at, Nat.succ_ne_zero, Int32.reduceToNatClampNeg, eq_self, i01, i10]
        have e1 : cD (upd (jI S3 20) c3 (nI (sg i))) (mx1 - 2 * d + 1) c c1 f1 := by
          refine cD_congr (cD_le d1 (by omega)) (fun k k1 k2 => ?_)
          rw [upd_at, if_neg (by omega)]; exact f23.2.2 k k2
        have e2 : cD (upd (jI S3 20) c3 (nI (sg i))) (mx1 - 2 * d) c1 c3 f2 := by
          refine cD_congr d3 (fun k k1 k2 => ?_)
          rw [upd_at, if_neg (by omega)]
        have ec : cSg (upd (jI S3 20) c3 (nI (sg i)) c3) = nI (sg i) := by rw [upd_at, if_pos rfl, cSg_nI (by omega)]
        have := cD_bin e1 e2 (by rw [ec, show (7 : Int32) = nI 7 from rfl, nI_le' (by omega) (by omega)]; omega) (by rw [ec, show (13 : Int32) = nI 13 from rfl, nI_le' (by omega) (by omega)]; omega)
        rw [ec, show nI (sg i) + 13 = nI (sg i + 13) from nI_add _ 13] at this
        exact cD_le this (by omega)
      rcases ih i2 (by omega) (by omega) q2 d l2 (fBin (nI (sg i + 13)) f1 f2) hd q3 fB_bin q5 with ⟨f, i3, l3, s1, s2, s3, s4, s5, tC, tM⟩ | ⟨i3, s2, tC, tM⟩
      · refine Or.inl ⟨f, i3, l3, by omega, s2, s3, s4, s5, fun S c c1 i0 D j Q h hc hj hD d1 hQ => ?_, fun M n b n1 b1 Q h hp P hQ => ?_⟩
        · have l1 := d1.1
          exact cm S c c1 i0 D j Q h hc hj hD (fun S4 c4 f4 h4 k4 lt4 d4 => tC S4 c c4 i0 D (j + 1) Q h4 k4 (by omega) hD (d4 d1) (fun S5 c5 f5 h5 k5 d5 => hQ S5 c5 (CF.tr (c1 := c) ⟨f4.1, f4.2.1, fun k hk => f4.2.2 k (by omega)⟩ f5 (Nat.le_refl _)) h5 k5 d5))
        · refine mm M n b n1 b1 Q h hp P (fun M1 n2 g1 m1 p1 e1 => hM M1 n2 (b + 1) 1 Q m1 (Or.inl rfl) (hpre1 M1 b _ ys p1) (fun M2 n3 b3 g2 m2 P2 => tM M2 n b n3 b3 Q m2 (hmf M M2 n b hp (g1.tr g2 e1.1 (by omega))) (hPD _ _ _ _ n b n3 b3 n2 (sg i) f1 f2 ys (by rw [(g2.2.2.2 b (by omega)).1]; exact p1) (mD_congr e1 (fun k _ k2 => g2.2.2.1 k k2)) P2) (fun M3 n4 b4 g3 m3 P3 => hQ M3 n4 b4 ((g1.tr g2 e1.1 (by omega)).tr g3 (Nat.le_refl _) (Nat.le_refl _)) m3 P3)))
      · refine Or.inr ⟨i3, s2, fun S c1 D j Q h hj hD hQ => ?_, fun M n b n1 b1 Q h hp P hQ => ?_⟩
        · exact cm S c1 c1 i D j Q h (by omega) hj hD (fun S4 c4 f4 h4 k4 lt4 d4 => tC S4 c4 D (j + 1) Q h4 (by omega) hD (fun S5 x5 => hQ S5 (f4.cx x5)))
        · refine mm M n b n1 b1 Q h hp P (fun M1 n2 g1 m1 p1 e1 => hM M1 n2 (b + 1) 1 Q m1 (Or.inl rfl) (hpre1 M1 b _ ys p1) (fun M2 n3 b3 g2 m2 P2 => tM M2 n b n3 b3 Q m2 (hmf M M2 n b hp (g1.tr g2 e1.1 (by omega))) (hPD _ _ _ _ n b n3 b3 n2 (sg i) f1 f2 ys (by rw [(g2.2.2.2 b (by omega)).1]; exact p1) (mD_congr e1 (fun k _ k2 => g2.2.2.1 k k2)) P2) (fun M3 tn3 g3 b3 => hQ M3 tn3 ((g1.tr g2 e1.1 (by omega)).tr g3 (Nat.le_refl _) (Nat.le_refl _)) b3)))
    · refine Or.inr ⟨i2, q2, fun S c1 D j Q h hj hD hQ => ?_, fun M n b n1 b1 Q h hp P hQ => ?_⟩
      · have hci := h.2.2.1.2.1
        refine hWg D d i l c1 j S Q h ys (by omega) (fun K hK => sX5_next hx.1 h (by omega) (fun S2 f2 k2 h2 => ⟨shA_14 h2.1, hC S2 c1 (D - 1) _ h2 (by omega) (fun S3 x3 => ⟨shA_14 (x3.1.sh.mpr h2.1), x3.em h2.1 (fun r S4 x4 => hK _ _ (hW0 _ _ _ _ _ (hQ S4 ((CF.go (c0 := 0) f2 k2).cx x4))))⟩)⟩))
      · exact mm M n b n1 b1 Q h hp P (fun M1 n2 g1 m1 p1 e1 => hM M1 n2 (b + 1) 1 Q m1 (Or.inl rfl) (hpre1 M1 b _ ys p1) (fun M2 tn2 g2 b2 => hQ M2 tn2 (g1.tr g2 e1.1 (by omega)) b2))
end JTAIL
/-! the class's loops, a turn -/
section JLOOP
variable {t e i l n b o c : Nat} {A B sg vl so bb : Nat → Nat} {wo : Nat → Int64} {S S' S1 M M' M2 M0 : JS} {f : JF} {test : Int32}
theorem lt_roll {Q : Int32 → JS → Prop} {G : Nat → List Value → JS → (Option Value → JS → Prop) → Prop} {p x y : Int32} (h : ∀ K : Nat → Int32 → Int32 → Int32 → JS → Prop, (∀ x' y' S', wX5_readTerm_6 G 14 p x' y' S' Q → K 14 p x' y' S') → bX5_readTerm_6 G K 14 p x y S Q) : wX5_readTerm_6 G 14 p x y S Q := by
  unfold wX5_readTerm_6
  exact jLoop.roll (h _ (fun _ _ _ h => h))
theorem ls_roll {Q : Int32 → JS → Prop} {G : Nat → List Value → JS → (Option Value → JS → Prop) → Prop} {p x y : Int32} (h : ∀ K : Nat → Int32 → Int32 → Int32 → JS → Prop, (∀ x' y' S', wX5_readSum_6 G 14 p x' y' S' Q → K 14 p x' y' S') → bX5_readSum_6 G K 14 p x y S Q) : wX5_readSum_6 G 14 p x y S Q := by
  unfold wX5_readSum_6
  exact jLoop.roll (h _ (fun _ _ _ h => h))
theorem jb0 : jbit 0 := Or.inl rfl
theorem jb1 : jbit 1 := Or.inr rfl
theorem j_term {i0 : Nat} (hx : Cx t e A B sg vl so bb wo) (hi : ∀ i', i0 ≤ i' → JPart t e A B sg vl so bb wo test i') : ∀ i, i0 ≤ i → JTerm t e A B sg vl so bb wo test i := by
  intro i hi0
  have W0 : ∀ D p j S (Q : Int32 → JS → Prop), Q 0 S → wX5_readTerm_6 (jCall jmt jbud (D - 1)) 14 p 0 j S Q := by
    intro D p j S Q h
    refine lt_roll (fun K hK => ?_)
    unfold bX5_readTerm_6
    exact ⟨fun _ => ⟨jb0, h⟩, fun _ => ⟨fun _ => ⟨jb0, h⟩, fun z => absurd rfl z⟩⟩
  refine JT.main (W := fun D p x y S Q => wX5_readTerm_6 (jCall jmt jbud (D - 1)) 14 p x y S Q) (hi i hi0) (by omega) (by omega) (fun _ _ _ => trivial) (fun M M' n b h f => h.cg (fun k hk => (f.2.2.2 k hk).1)) (fun op arg pl pa n b n' b' f h => Or.inl h) (fun op arg pl pa n b n' b' f h => ⟨h.2.1, Nat.le_of_eq h.1.symm⟩) (fun D d S Q hs hD h => vX5_readTerm D (by omega) (fun _ _ _ _ z => z) ⟨shA_14 hs, h⟩) W0 ?_
  intro i1 d l f1 q1 q2 q3 q4 q5 q6
  refine JT.bin (m1 := 43) (r1 := 3) (mx1 := 17) (np1 := fun _ => True) (st := fun s => s = 9 ∨ s = 10) (pre1 := fun _ _ => True) (PD1 := PrP) (i0 := i0) hx hi (by omega) (by omega) (by omega) (fun s z => by omega) (fun s _ z => by omega) (fun M M' n b h f => h.cg (fun k hk => (f.2.2.2 k hk).1)) (fun _ _ _ _ _ => trivial) (fun op arg pl pa n b n' b' f h => ⟨h.wt.1, h.wt.2.1⟩) (fun op arg pl pa n b n' b' m s f1 f2 z hp d1 h => Or.inr ⟨h.1, s + 13, m, f1, f2, by omega, hp, d1, h.2, rfl⟩) ?_ W0 ?_ ?_ e i1 (by omega) (by omega) q2 d l f1 q3 q4 q5 trivial
  · intro i l n b n1 b1 d M f1 Q z h hp P hq
    rcases z with z | z <;> rw [z] <;> exact MT.setT hx h P hp hq
  · intro D d i l c j S Q h z hq
    refine lt_roll (fun K hK => ?_)
    unfold bX5_readTerm_6
    have := hx.1.sg27 h.2.2.1.1
    rw [h.2.1.2.1, show (9 : Int32) = nI 9 from rfl, show (10 : Int32) = nI 10 from rfl, nI_eq' (by omega) (by omega), nI_eq' (by omega) (by omega)]
    exact ⟨fun _ => ⟨jb1, hq⟩, fun _ => ⟨fun y => absurd y (by decide), fun _ => ⟨shA_14 h.1, fun y => absurd (Or.inl y) z, fun _ => ⟨fun _ => ⟨jb1, hq⟩, fun y => absurd (Or.inr y) z⟩⟩⟩⟩
  · intro D d i l c j S Q h z hj hq
    refine lt_roll (fun K hK => ?_)
    have key : wX5_readTerm_19 (jCall jmt jbud (D - 1)) K 14 (nI d) (nI j) S Q := by
      unfold wX5_readTerm_19
      refine ⟨shA_14 h.1, fun x6 e6 => ?_⟩
      rw [e6, h.2.1.2.1]
      have q := hq (fun x S' => ∀ x15 : Int32, x15 = nI j + 1 → K 14 (nI d) x x15 S') (fun x S' w x15 e15 => by rw [e15, nI_1]; exact hK _ _ _ w)
      exact q
    unfold bX5_readTerm_6
    have := hx.1.sg27 h.2.2.1.1
    rw [h.2.1.2.1, show (9 : Int32) = nI 9 from rfl, show (10 : Int32) = nI 10 from rfl, nI_eq' (by omega) (by omega), nI_eq' (by omega) (by omega), li_400, nI_le' (by omega) (by omega)]
    exact ⟨fun y => by omega, fun _ => ⟨fun y => absurd y (by decide), fun _ => ⟨shA_14 h.1, fun y => key, fun _ => ⟨fun y => by omega, fun y => key⟩⟩⟩⟩
theorem j_sum {i0 : Nat} (hx : Cx t e A B sg vl so bb wo) (hi : ∀ i', i0 ≤ i' → JTerm t e A B sg vl so bb wo test i') : ∀ i, i0 ≤ i → JSum t e A B sg vl so bb wo test i := by
  intro i hi0
  have W0 : ∀ D p j S (Q : Int32 → JS → Prop), Q 0 S → wX5_readSum_6 (jCall jmt jbud (D - 1)) 14 p 0 j S Q := by
    intro D p j S Q h
    refine ls_roll (fun K hK => ?_)
    unfold bX5_readSum_6
    exact ⟨fun _ => ⟨jb0, h⟩, fun _ => ⟨fun _ => ⟨jb0, h⟩, fun z => absurd rfl z⟩⟩
  refine JT.main (W := fun D p x y S Q => wX5_readSum_6 (jCall jmt jbud (D - 1)) 14 p x y S Q) (hi i hi0) (by omega) (by omega) (fun M b h => h.le (by omega)) (fun M M' n b h f => h.cg (fun k hk => (f.2.2.2 k hk).1)) (fun op arg pl pa n b n' b' f h => Or.inl h) (fun op arg pl pa n b n' b' f h => ⟨h.wt.1, h.wt.2.1⟩) (fun D d S Q hs hD h => vX5_readSum D (by omega) (fun _ _ _ _ z => z) ⟨shA_14 hs, h⟩) W0 ?_
  intro i1 d l f1 q1 q2 q3 q4 q5 q6
  refine JT.bin (m1 := 42) (r1 := 4) (mx1 := 18) (np1 := fun s => s ≠ 9 ∧ s ≠ 10) (st := fun s => s = 7 ∨ s = 8) (pre1 := fun M b => BP M b 6) (PD1 := fun op arg pl _ => TmP op arg pl) (i0 := i0) hx hi (by omega) (by omega) (by omega) (fun s z => by omega) (fun s _ z => by omega) (fun M M' n b h f => h.cg (fun k hk => (f.2.2.2 k hk).1)) (fun M b s z hp => BP.at hp (by omega) (by rcases z with z | z <;> rw [z] <;> decide)) (fun op arg pl pa n b n' b' f h => ⟨h.wt.1, h.wt.2.1⟩) (fun op arg pl pa n b n' b' m s f1 f2 z hp d1 h => Or.inr ⟨s + 13, m, f1, f2, by omega, hp, d1, h, rfl⟩) ?_ W0 ?_ ?_ e i1 (by omega) (by omega) q2 d l f1 q3 q4 q5 q6
  · intro i l n b n1 b1 d M f1 Q z h hp P hq
    rcases z with z | z <;> rw [z] <;> exact MT.setS (lv := 5) hx h (by omega) P hp hq
  · intro D d i l c j S Q h z hq
    refine ls_roll (fun K hK => ?_)
    unfold bX5_readSum_6
    have := hx.1.sg27 h.2.2.1.1
    rw [h.2.1.2.1, show (7 : Int32) = nI 7 from rfl, show (8 : Int32) = nI 8 from rfl, nI_eq' (by omega) (by omega), nI_eq' (by omega) (by omega)]
    exact ⟨fun _ => ⟨jb1, hq⟩, fun _ => ⟨fun y => absurd y (by decide), fun _ => ⟨shA_14 h.1, fun y => absurd (Or.inl y) z, fun _ => ⟨fun _ => ⟨jb1, hq⟩, fun y => absurd (Or.inr y) z⟩⟩⟩⟩
  · intro D d i l c j S Q h z hj hq
    refine ls_roll (fun K hK => ?_)
    have key : wX5_readSum_19 (jCall jmt jbud (D - 1)) K 14 (nI d) (nI j) S Q := by
      unfold wX5_readSum_19
      refine ⟨shA_14 h.1, fun x6 e6 => ?_⟩
      rw [e6, h.2.1.2.1]
      have q := hq (fun x S' => ∀ x15 : Int32, x15 = nI j + 1 → K 14 (nI d) x x15 S') (fun x S' w x15 e15 => by rw [e15, nI_1]; exact hK _ _ _ w)
      exact q
    unfold bX5_readSum_6
    have := hx.1.sg27 h.2.2.1.1
    rw [h.2.1.2.1, show (7 : Int32) = nI 7 from rfl, show (8 : Int32) = nI 8 from rfl, nI_eq' (by omega) (by omega), nI_eq' (by omega) (by omega), li_400, nI_le' (by omega) (by omega)]
    exact ⟨fun y => by omega, fun _ => ⟨fun y => absurd y (by decide), fun _ => ⟨shA_14 h.1, fun y => key, fun _ => ⟨fun y => by omega, fun y => key⟩⟩⟩⟩
/-- sums, everywhere -/
theorem j_sums (hx : Cx t e A B sg vl so bb wo) : ∀ i, JSum t e A B sg vl so bb wo test i := by
  have key : ∀ k i, e - i ≤ k → i ≤ e → JSum t e A B sg vl so bb wo test i := by
    intro k
    induction k with
    | zero =>
      intro i h1 h2
      refine j_sum (i0 := i) hx (fun i' h => j_term (i0 := i) hx (fun i'' h' => j_part hx (fun i3 h3 => ?_)) i' h) i (Nat.le_refl _)
      intro d l _ _ z; omega
    | succ k ih =>
      intro i h1 h2
      refine j_sum (i0 := i) hx (fun i' h => j_term (i0 := i) hx (fun i'' h' => j_part hx (fun i3 h3 => ?_)) i' h) i (Nat.le_refl _)
      intro d l q1 q2 z
      exact ih i3 (by omega) z d l q1 q2 z
  intro i d l h1 h2 h3
  exact key (e - i) i (Nat.le_refl _) h3 d l h1 h2 h3
end JLOOP
