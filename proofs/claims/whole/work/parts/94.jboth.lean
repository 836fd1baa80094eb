/-! BOTH READERS AT ONCE: and, or -/
section JBOTH
variable {t e i l n b o c : Nat} {A B sg vl so bb : Nat → Nat} {wo : Nat → Int64} {S S' S1 M M' M2 M0 : JS} {f : JF} {test : Int32}
theorem JT.jmp {W : Nat → Int32 → Int32 → Int32 → JS → (Int32 → JS → Prop) → Prop} {m1 r1 r s p : Nat} {op2 : JF → JF → JF} {np1 np : Nat → Prop} {pre1 pre : JS → Nat → Prop} {PD1 PD : (Nat → Int32) → (Nat → Int32) → (Nat → Int32) → (Nat → Int32) → Nat → Nat → Nat → Nat → JF → Prop} {i0 : Nat} (hx : Cx t e A B sg vl so bb wo)
    (hfirst : ∀ i, i0 ≤ i → JJ t e A B sg vl so bb wo test m1 r1 20 fZ np1 tqz 2 pre1 PD1 i) (hr : r1 + 1 ≤ r) (hsp : (s = 15 ∧ p = 29) ∨ (s = 16 ∧ p = 28)) (hnp : ∀ x, np1 x → x ≠ s → np x)
    (hmf : ∀ M M' n b, pre M b → MF M M' n b → pre M' b)
    (hpre1 : ∀ M M' n b, pre M b → MF M M' n b → jI M' 54 b = nI p → pre1 M' (b + 1))
    (hfz : ∀ f g, fZ f → fZ g → fZ (op2 f g))
    (hcd : ∀ code m a b c f g, cD code m a b f → cSg (code b) = nI s → cWt (code b) = nI c → cD code m (b + 1) c g → cD code m a c (op2 f g))
    (hPD : ∀ op arg pl pa n b n' b' m f1 f2, pl b = nI p → pa b = nI m → m < 400 → mD op arg n m f1 → op m = nI p → PD1 op arg pl pa (m + 1) (b + 1) n' b' f2 → PD op arg pl pa n b n' b' (op2 f1 f2))
    (hset : ∀ i l n b n1 b1 d M f1 (Q : JS → Prop), MT t e A B so bb wo M i l n1 b1 d → pre M b → PD (jI M 52) (jI M 53) (jI M 54) (jI M 55) n b n1 b1 f1 → (∀ M1 n2, MF M M1 n b → jI M1 54 = jI M 54 → MT t e A B so bb wo M1 i l n2 b d → mD (jI M1 52) (jI M1 53) n n2 f1 → Q M1) → wX12_settle_0 45 (nI (bd p)) M Q)
    (hbt : ∀ i l n b d M (Q : Int32 → JS → Prop), sg i = s → MT t e A B so bb wo M i l n b d → wX12_behindTest_10 45 (if p = 28 then 1 else 0) M Q → wX12_behindTest 45 M Q)
    (hW0 : ∀ D p j S (Q : Int32 → JS → Prop), Q 0 S → W D p 0 j S Q)
    (hW1 : ∀ D d i l c j S (Q : Int32 → JS → Prop), CT e A sg vl S i l c → sg i ≠ s → Q 1 S → W D (nI d) 1 (nI j) S Q)
    (hWg : ∀ D d i l c j S (Q : Int32 → JS → Prop), CT e A sg vl S i l c → sg i = s → j < 400 → (∀ K : Int32 → JS → Prop, (∀ x S', W D (nI d) x (nI (j + 1)) S' Q → K x S') → ∀ S4, CF S S4 c → CT e A sg vl S4 (i + 1) l c → wX5_emit 14 (nI s) S4 (fun r8 S7 => jA S7 14 5 ∧ (jCall jmt jbud (D - 1) m1 [.ref 14, .int (nI d)] S7 (jqI (fun r11 S10 => jA S10 14 5 ∧ (wX5_landHere 14 r8 S10 (fun S13 => K r11 S13))))))) → W D (nI d) 1 (nI j) S Q) :
    ∀ k i, e - i ≤ k → i0 ≤ i → i ≤ e → ∀ d l f1, d ≤ 8 → l ≤ 50 → fZ f1 → np1 (sg i) → JT t e A B sg vl so bb wo test W r 20 fZ np 2 pre PD i d l f1 := by
  have het := hx.1.1.1
  have ht4 := hx.1.1.2.1
  intro k
  induction k with
  | zero =>
    intro i hk hi he d l f1 hd hl hf hn
    have e0 : i = e := by omega
    have ns : sg i ≠ s := by rw [e0, hx.1.1.2.2.2]; omega
    exact Or.inl ⟨f1, i, l, Nat.le_refl _, he, hl, hf, hnp _ hn ns, fun S c c1 i0 D j Q h hc hj hD d1 hQ => hW1 D d i l c1 j S Q h ns (hQ S c1 CF.refl h hc d1), fun M n b n1 b1 Q h hp P hQ => hQ M n1 b1 MF.refl h P⟩
  | succ k ih =>
    intro i hk hi he d l f1 hd hl hf hn
    by_cases ns : sg i ≠ s
    · exact Or.inl ⟨f1, i, l, Nat.le_refl _, he, hl, hf, hnp _ hn ns, fun S c c1 i0 D j Q h hc hj hD d1 hQ => hW1 D d i l c1 j S Q h ns (hQ S c1 CF.refl h hc d1), fun M n b n1 b1 Q h hp P hQ => hQ M n1 b1 MF.refl h P⟩
    have ys : sg i = s := Classical.not_not.mp ns
    have hlt := hx.1.lt he (by omega)
    have mm : ∀ M n b n1 b1 Q, MT t e A B so bb wo M i l n1 b1 d → pre M b → PD (jI M 52) (jI M 53) (jI M 54) (jI M 55) n b n1 b1 f1 → (∀ M1 n2, MF M M1 n b → MT t e A B so bb wo M1 (i + 1) l (n2 + 1) (b + 1) d → jI M1 54 b = nI p → jI M1 55 b = nI n2 → n2 < 400 → jI M1 52 n2 = nI p → mD (jI M1 52) (jI M1 53) n n2 f1 → mL test 0 M1 Q) → mL test 2 M Q := by
      intro M n b n1 b1 Q h hp P hq
      exact mL_2 h.1.1 h.2.2.1.1 (fun K hK => hbt i l n1 b1 d M _ ys h (bt_op (p := p) hx (by omega) (by omega) (fun Q' hQ' => hset i l n b n1 b1 d M f1 Q' h hp P hQ') h.1.1 (fun M1 n2 g1 m1 p1 a1 l1 o1 d1 => hK _ _ (hq M1 n2 g1 m1 p1 a1 l1 o1 d1))))
    rcases hfirst (i + 1) (by omega) d l hd hl (by omega) with ⟨f2, i2, l2, q1, q2, q3, q4, q5, hC, hM⟩ | ⟨i2, q2, hC, hM⟩
    · have cm : ∀ S c c1 i0 D j (Q : Int32 → JS → Prop), CT e A sg vl S i l c1 → c1 + i0 ≤ c + i → j ≤ i → r + 4 * (8 - d) ≤ D → (∀ S4 c4, CF S S4 c1 → CT e A sg vl S4 i2 l2 c4 → c4 + i0 ≤ c + i2 → c1 < c4 → (cD (jI S 20) (20 - 2 * d) c c1 f1 → cD (jI S4 20) (20 - 2 * d) c c4 (op2 f1 f2)) → W D (nI d) 1 (nI (j + 1)) S4 Q) → W D (nI d) 1 (nI j) S Q := by
        intro S c c1 i0 D j Q h hc hj hD hq
        have hci := h.2.2.1.2.1
        refine hWg D d i l c1 j S Q h ys (by omega) (fun K hK S2 g2 h2 => sX5_emit h2.1 h2.2.1.2.2.2 (by omega) ?_)
        have h3 := h2.em (w := nI s) (by omega)
        have f3 : CF S2 (uI (uI S2 20 c1 (nI s)) 14 8 (nI (c1 + 1))) c1 := CF.em (Nat.le_refl _)
        have w3 : jI (uI (uI S2 20 c1 (nI s)) 14 8 (nI (c1 + 1))) 20 c1 = nI s := by simp only [jN_uI, jN_uJ, jN_uR, jK_uI, jK_uJ, jK_uR, jZ_uI, jZ_uJ, jZ_uR, jR_uI, jR_uJ, jr_uI, jr_uJ, jI_uJ, jI_uR, jJ_uI, jJ_uR, jI_uI_eq, jI_uI_ne, jJ_uJ_eq, jJ_uJ_ne, jSh_uI, jSh_uJ, jA_uI, jA_uJ, jA_uR, jI_uIf_eq, jI_uIf_ne, jJ_uIf, jR_uIf, jr_uIf, jZ_uIf, jSh_uIf, jA_uIf, ne_eq, not_false_eq_true, not_true_eq_false, reduceCtorEq, Nat.reduceEqDiff, forall_eq, true_and, and_true, true_implies, forall_const, implies_true, List.mem_cons, List.not_mem_nil, or_false, false_or, or_self, if_true, if_false, reduceIte, Nat.reduceAdd, Nat.reduceMul, Nat.reduceLT, false_implies, Decidable.not_not, bI_eq0, bI_eq1, upd_at, updL_at, Nat.succ_ne_zero, Int32.reduceToNatClampNeg, eq_self, i01, i10]
        generalize uI (uI S2 20 c1 (nI s)) 14 8 (nI (c1 + 1)) = S3 at h3 f3 w3 ⊢
        refine ⟨shA_14 h3.1, hC S3 (c1 + 1) (D - 1) _ h3 (by omega) (fun S4 c4 f4 h4 k4 d4 => ⟨shA_14 h4.1, sX5_land h4.1 h4.2.1.2.2.2 (by have := h4.2.2.1; omega) (by have := d4.1; omega) ?_⟩)⟩
        have l4 := d4.1
        have hc4 : c4 < 401 := by have := h4.2.2.1; omega
        have w4 : jI S4 20 c1 = nI s := by rw [f4.2.2 c1 (by omega)]; exact w3
        have w5 : nI s ||| nI (32 * c4) = nI (s + 32 * c4) := by
          rw [nx_or]
          rcases hsp with ⟨z, _⟩ | ⟨z, _⟩ <;> subst z
          · rw [or15 c4 hc4]
          · rw [or16 c4 hc4]
        rw [w4, w5]
        have f5 : CF S4 (uI S4 20 c1 (nI (s + 32 * c4))) c1 := ⟨(jFr.refl _ _).uI (by decide), (jFk.refl _ _ _).oI (by decide), fun k hk => by simp only [jN_uI, jN_uJ, jN_uR, jK_uI, jK_uJ, jK_uR, jZ_uI, jZ_uJ, jZ_uR, jR_uI, jR_uJ, jr_uI, jr_uJ, jI_uJ, jI_uR, jJ_uI, jJ_uR, jI_uI_eq, jI_uI_ne, jJ_uJ_eq, jJ_uJ_ne, jSh_uI, jSh_uJ, jA_uI, jA_uJ, jA_uR, jI_uIf_eq, jI_uIf_ne, jJ_uIf, jR_uIf, jr_uIf, jZ_uIf, jSh_uIf, jA_uIf, ne_eq, not_false_eq_true, not_true_eq_false, reduceCtorEq, Nat.reduceEqDiff, forall_eq, true_and, and_true, true_implies, forall_const, implies_true, List.mem_cons, List.not_mem_nil, or_false, false_or, or_self, if_true, if_false, reduceIte, Nat.reduceAdd, Nat.reduceMul, Nat.reduceLT, false_implies, Decidable.not_not, bI_eq0, bI_eq1, upd_at, updL_at, Nat.succ_ne_zero, Int32.reduceToNatClampNeg, eq_self, i01, i10]; rw [if_neg (by omega)]⟩
        have f05 : CF S S4 c1 := (g2.tr f3 (Nat.le_refl _)).tr f4 (by omega)
        refine hK _ _ (hq _ c4 (f05.tr f5 (Nat.le_refl _)) h4.ld (by omega) (by omega) (fun d1 => ?_))
        have l1 := d1.1
        simp only [jN_uI, jN_uJ, jN_uR, jK_uI, jK_uJ, jK_uR, jZ_uI, jZ_uJ, jZ_uR, jR_uI, jR_uJ, jr_uI, jr_uJ, jI_uJ, jI_uR, jJ_uI, jJ_uR, jI_uI_eq, jI_uI_ne, jJ_uJ_eq, jJ_uJ_ne, jSh_uI, jSh_uJ, jA_uI, jA_uJ, jA_uR, jI_uIf_eq, jI_uIf_ne, jJ_uIf, jR_uIf, jr_uIf, jZ_uIf, jSh_uIf, jA_uIf, ne_eq, not_false_eq_true, not_true_eq_false, reduceCtorEq, Nat.reduceEqDiff, forall_eq, true_and, and_true, true_implies, forall_const, implies_true, List.mem_cons, List.not_mem_nil, or_false, false_or, or_self, if_true, if_false, reduceIte, Nat.reduceAdd, Nat.reduceMul, Nat.reduceLT, false_implies, Decidable.not_not, bI_eq0, bI_eq1, upd_at, updL_at, Nat.succ_ne_zero, Int32.reduceToNatClampNeg, eq_self, i01, i10]
        have e1 : cD (upd (jI S4 20) c1 (nI (s + 32 * c4))) (20 - 2 * d) c c1 f1 := cD_congr d1 (fun k k1 k2 => by rw [upd_at, if_neg (by omega)]; exact f05.2.2 k k2)
        have e2 : cD (upd (jI S4 20) c1 (nI (s + 32 * c4))) (20 - 2 * d) (c1 + 1) c4 f2 := cD_congr d4 (fun k k1 k2 => by rw [upd_at, if_neg (by omega)])
        exact hcd _ _ _ c1 _ _ _ e1 (by rw [upd_at, if_pos rfl]; exact wd_sg (by omega)) (by rw [upd_at, if_pos rfl]; exact wd_wt (by omega) (by omega)) e2
      have mt : ∀ M n b M1 n2 M2 n3 b3, pre M b → MF M M1 n b → jI M1 54 b = nI p → jI M1 55 b = nI n2 → n2 < 400 → jI M1 52 n2 = nI p → mD (jI M1 52) (jI M1 53) n n2 f1 → MF M1 M2 (n2 + 1) (b + 1) → PD1 (jI M2 52) (jI M2 53) (jI M2 54) (jI M2 55) (n2 + 1) (b + 1) n3 b3 f2 → MF M M2 n b ∧ pre M2 b ∧ PD (jI M2 52) (jI M2 53) (jI M2 54) (jI M2 55) n b n3 b3 (op2 f1 f2) := by
        intro M n b M1 n2 M2 n3 b3 hp g1 p1 a1 l1 o1 d1 g2 P2
        have l2 := d1.1
        have g := g1.tr g2 (by omega) (by omega)
        exact ⟨g, hmf M M2 n b hp g, hPD _ _ _ _ n b n3 b3 n2 f1 f2 (by rw [(g2.2.2.2 b (by omega)).1]; exact p1) (by rw [(g2.2.2.2 b (by omega)).2]; exact a1) l1 (mD_congr d1 (fun k _ k2 => g2.2.2.1 k (by omega))) (by rw [(g2.2.2.1 n2 (by omega)).1]; exact o1) P2⟩
      rcases ih i2 (by omega) (by omega) q2 d l2 (op2 f1 f2) hd q3 (hfz _ _ hf q4) q5 with ⟨f, i3, l3, s1, s2, s3, s4, s5, tC, tM⟩ | ⟨i3, s2, tC, tM⟩
      · refine Or.inl ⟨f, i3, l3, by omega, s2, s3, s4, s5, fun S c c1 i0 D j Q h hc hj hD d1 hQ => ?_, fun M n b n1 b1 Q h hp P hQ => ?_⟩
        · have l1 := d1.1
          exact cm S c c1 i0 D j Q h hc hj hD (fun S4 c4 f4 h4 k4 lt4 d4 => tC S4 c c4 i0 D (j + 1) Q h4 k4 (by omega) hD (d4 d1) (fun S5 c5 f5 h5 k5 d5 => hQ S5 c5 (CF.tr (c1 := c) ⟨f4.1, f4.2.1, fun k hk => f4.2.2 k (by omega)⟩ f5 (Nat.le_refl _)) h5 k5 d5))
        · refine mm M n b n1 b1 Q h hp P (fun M1 n2 g1 m1 p1 a1 l1 o1 d1 => hM M1 (n2 + 1) (b + 1) 0 Q m1 rfl (hpre1 M M1 n b hp g1 p1) (fun M2 n3 b3 g2 m2 P2 => ?_))
          obtain ⟨g, hp2, PP⟩ := mt M n b M1 n2 M2 n3 b3 hp g1 p1 a1 l1 o1 d1 g2 P2
          exact tM M2 n b n3 b3 Q m2 hp2 PP (fun M3 n4 b4 g3 m3 P3 => hQ M3 n4 b4 (g.tr g3 (Nat.le_refl _) (Nat.le_refl _)) m3 P3)
      · refine Or.inr ⟨i3, s2, fun S c1 D j Q h hj hD hQ => ?_, fun M n b n1 b1 Q h hp P hQ => ?_⟩
        · exact cm S c1 c1 i D j Q h (by omega) hj hD (fun S4 c4 f4 h4 k4 lt4 d4 => tC S4 c4 D (j + 1) Q h4 (by omega) hD (fun S5 x5 => hQ S5 (f4.cx x5)))
        · refine mm M n b n1 b1 Q h hp P (fun M1 n2 g1 m1 p1 a1 l1 o1 d1 => hM M1 (n2 + 1) (b + 1) 0 Q m1 rfl (hpre1 M M1 n b hp g1 p1) (fun M2 n3 b3 g2 m2 P2 => ?_))
          obtain ⟨g, hp2, PP⟩ := mt M n b M1 n2 M2 n3 b3 hp g1 p1 a1 l1 o1 d1 g2 P2
          exact tM M2 n b n3 b3 Q m2 hp2 PP (fun M3 tn3 g3 b3 => hQ M3 tn3 (g.tr g3 (Nat.le_refl _) (Nat.le_refl _)) b3)
    · refine Or.inr ⟨i2, q2, fun S c1 D j Q h hj hD hQ => ?_, fun M n b n1 b1 Q h hp P hQ => ?_⟩
      · have hci := h.2.2.1.2.1
        refine hWg D d i l c1 j S Q h ys (by omega) (fun K hK S2 g2 h2 => sX5_emit h2.1 h2.2.1.2.2.2 (by omega) ?_)
        have h3 := h2.em (w := nI s) (by omega)
        have f3 : CF S2 (uI (uI S2 20 c1 (nI s)) 14 8 (nI (c1 + 1))) c1 := CF.em (Nat.le_refl _)
        generalize uI (uI S2 20 c1 (nI s)) 14 8 (nI (c1 + 1)) = S3 at h3 f3 ⊢
        exact ⟨shA_14 h3.1, hC S3 (c1 + 1) (D - 1) _ h3 (by omega) (fun S4 x4 => ⟨shA_14 (x4.1.sh.mpr h3.1), x4.ld h3.1 (fun S5 x5 => hK _ _ (hW0 _ _ _ _ _ (hQ S5 ((g2.tr f3 (Nat.le_refl _)).cx x5))))⟩)⟩
      · exact mm M n b n1 b1 Q h hp P (fun M1 n2 g1 m1 p1 a1 l1 o1 d1 => hM M1 (n2 + 1) (b + 1) 0 Q m1 rfl (hpre1 M M1 n b hp g1 p1) (fun M2 tn2 g2 b2 => hQ M2 tn2 (g1.tr g2 (by have := d1.1; omega) (by omega)) b2))
theorem lb_roll {Q : Int32 → JS → Prop} {G : Nat → List Value → JS → (Option Value → JS → Prop) → Prop} {p x y : Int32} (h : ∀ K : Nat → Int32 → Int32 → Int32 → JS → Prop, (∀ x' y' S', wX5_readBoth_6 G 14 p x' y' S' Q → K 14 p x' y' S') → bX5_readBoth_6 G K 14 p x y S Q) : wX5_readBoth_6 G 14 p x y S Q := by
  unfold wX5_readBoth_6
  exact jLoop.roll (h _ (fun _ _ _ h => h))
theorem le_roll {Q : Int32 → JS → Prop} {G : Nat → List Value → JS → (Option Value → JS → Prop) → Prop} {p x y : Int32} (h : ∀ K : Nat → Int32 → Int32 → Int32 → JS → Prop, (∀ x' y' S', wX5_readTest_6 G 14 p x' y' S' Q → K 14 p x' y' S') → bX5_readTest_6 G K 14 p x y S Q) : wX5_readTest_6 G 14 p x y S Q := by
  unfold wX5_readTest_6
  exact jLoop.roll (h _ (fun _ _ _ h => h))
theorem j_both {i0 : Nat} (hx : Cx t e A B sg vl so bb wo) (hi : ∀ i', i0 ≤ i' → JPlain t e A B sg vl so bb wo test i') : ∀ i, i0 ≤ i → JBoth t e A B sg vl so bb wo test i := by
  intro i hi0
  have W0 : ∀ D p j S (Q : Int32 → JS → Prop), Q 0 S → wX5_readBoth_6 (jCall jmt jbud (D - 1)) 14 p 0 j S Q := by
    intro D p j S Q h
    refine lb_roll (fun K hK => ?_)
    unfold bX5_readBoth_6
    exact ⟨fun _ => ⟨jb0, h⟩, fun _ => ⟨fun _ => ⟨jb0, h⟩, fun z => absurd rfl z⟩⟩
  refine JT.main (W := fun D p x y S Q => wX5_readBoth_6 (jCall jmt jbud (D - 1)) 14 p x y S Q) (hi i hi0) (by omega) (by omega) (fun M b h => ⟨h.1.le (by omega), h.2⟩) (fun M M' n b h f => h.mf f) (fun op arg pl pa n b n' b' f h => Or.inl h) (fun op arg pl pa n b n' b' f ⟨k, h⟩ => ⟨(PlP.wt k b f h).1, (PlP.wt k b f h).2.1⟩) (fun D d S Q hs hD h => vX5_readBoth D (by omega) (fun _ _ _ _ z => z) ⟨shA_14 hs, h⟩) W0 ?_
  intro i1 d l f1 q1 q2 q3 q4 q5 q6
  refine JT.jmp (m1 := 38) (r1 := 7) (s := 16) (p := 28) (op2 := fAnd) (np1 := fun _ => True) (pre1 := preC test 4) (PD1 := fun op arg pl _ n b n' b' f => ∃ k, PlP op arg pl k n b n' b' f) (i0 := i0) hx hi (by omega) (Or.inr ⟨rfl, rfl⟩) (fun x _ z => z) (fun M M' n b h f => h.mf f) (fun M M' n b h f p1 => ⟨BP.at p1 (by omega) (by decide), (h.mf f).2.ext (by omega) (fun k k1 k2 => ⟨28, by omega, by rw [show k = b by omega]; exact p1⟩)⟩) (fun _ _ => fZ_and) (fun code m a b c f g h1 h2 h3 h4 => cD_and h1 h2 h3 h4) (fun op arg pl pa n b n' b' m f1 f2 p1 a1 l1 d1 o1 ⟨k, h⟩ => Or.inr ⟨m, k, f1, f2, p1, a1, l1, d1, o1, h, rfl⟩) (fun i l n b n1 b1 d M f1 Q h hp P hq => MT.setB (lv := 2) hx h (by omega) P hp.1 hq) (fun i l n b d M Q z h hq => bt_pick hx h (fun _ => hq) (fun y => by omega) (fun _ y => absurd z y)) W0 ?_ ?_ e i1 (by omega) (by omega) q2 d l f1 q3 q4 q5 trivial
  · intro D d i l c j S Q h z hq
    refine lb_roll (fun K hK => ?_)
    unfold bX5_readBoth_6
    exact ⟨fun _ => ⟨jb1, hq⟩, fun _ => ⟨fun y => absurd y (by decide), fun _ => ⟨shA_14 h.1, sX5_pass (s := 16) hx.1 h (by omega) (fun y => absurd y z) (fun _ => ⟨fun _ => ⟨jb1, hq⟩, fun y => absurd rfl y⟩)⟩⟩⟩
  · intro D d i l c j S Q h z hj hq
    refine lb_roll (fun K hK => ?_)
    have q := hq (fun x S' => ∀ x15 : Int32, x15 = nI j + 1 → K 14 (nI d) x x15 S') (fun x S' w x15 e15 => by rw [e15, nI_1]; exact hK _ _ _ w)
    unfold bX5_readBoth_6
    rw [li_400, nI_le' (by omega) (by omega)]
    exact ⟨fun y => by omega, fun _ => ⟨fun y => absurd y (by decide), fun _ => ⟨shA_14 h.1, sX5_pass (s := 16) hx.1 h (by omega) (fun _ S4 f4 k4 h4 => ⟨fun y => absurd y (by decide), fun _ => ⟨shA_14 h4.1, q S4 (CF.go f4 k4) h4⟩⟩) (fun y => absurd z y)⟩⟩⟩
theorem j_test {i0 : Nat} (hx : Cx t e A B sg vl so bb wo) (hi : ∀ i', i0 ≤ i' → JBoth t e A B sg vl so bb wo test i') : ∀ i, i0 ≤ i → JTest t e A B sg vl so bb wo test i := by
  intro i hi0
  have W0 : ∀ D p j S (Q : Int32 → JS → Prop), Q 0 S → wX5_readTest_6 (jCall jmt jbud (D - 1)) 14 p 0 j S Q := by
    intro D p j S Q h
    refine le_roll (fun K hK => ?_)
    unfold bX5_readTest_6
    exact ⟨fun _ => ⟨jb0, h⟩, fun _ => ⟨fun _ => ⟨jb0, h⟩, fun z => absurd rfl z⟩⟩
  refine JT.main (W := fun D p x y S Q => wX5_readTest_6 (jCall jmt jbud (D - 1)) 14 p x y S Q) (hi i hi0) (by omega) (by omega) (fun M b h => ⟨h.1.le (by omega), h.2⟩) (fun M M' n b h f => h.mf f) (fun op arg pl pa n b n' b' f h => Or.inl h) (fun op arg pl pa n b n' b' f h => ⟨h.wt.1, h.wt.2.1⟩) (fun D d S Q hs hD h => vX5_readTest D (by omega) (fun _ _ _ _ z => z) ⟨shA_14 hs, h⟩) W0 ?_
  intro i1 d l f1 q1 q2 q3 q4 q5 q6
  refine JT.jmp (m1 := 37) (r1 := 8) (s := 15) (p := 29) (op2 := fOr) (np1 := fun s => s ≠ 16) (pre1 := preC test 2) (PD1 := BoP) (i0 := i0) hx hi (by omega) (Or.inl ⟨rfl, rfl⟩) (fun x y z => ⟨z, y⟩) (fun M M' n b h f => h.mf f) (fun M M' n b h f p1 => ⟨BP.at p1 (by omega) (by decide), (h.mf f).2.ext (by omega) (fun k k1 k2 => ⟨29, by omega, by rw [show k = b by omega]; exact p1⟩)⟩) (fun _ _ => fZ_or) (fun code m a b c f g h1 h2 h3 h4 => cD_or h1 h2 h3 h4) (fun op arg pl pa n b n' b' m f1 f2 p1 a1 l1 d1 o1 h => Or.inr ⟨m, f1, f2, p1, a1, l1, d1, o1, h, rfl⟩) (fun i l n b n1 b1 d M f1 Q h hp P hq => MT.setE (lv := 1) hx h (by omega) P hp.1 hq) (fun i l n b d M Q z h hq => bt_pick hx h (fun y => by omega) (fun _ => hq) (fun y _ => absurd z y)) W0 ?_ ?_ e i1 (by omega) (by omega) q2 d l f1 q3 q4 q5 q6
  · intro D d i l c j S Q h z hq
    refine le_roll (fun K hK => ?_)
    unfold bX5_readTest_6
    exact ⟨fun _ => ⟨jb1, hq⟩, fun _ => ⟨fun y => absurd y (by decide), fun _ => ⟨shA_14 h.1, sX5_pass (s := 15) hx.1 h (by omega) (fun y => absurd y z) (fun _ => ⟨fun _ => ⟨jb1, hq⟩, fun y => absurd rfl y⟩)⟩⟩⟩
  · intro D d i l c j S Q h z hj hq
    refine le_roll (fun K hK => ?_)
    have q := hq (fun x S' => ∀ x15 : Int32, x15 = nI j + 1 → K 14 (nI d) x x15 S') (fun x S' w x15 e15 => by rw [e15, nI_1]; exact hK _ _ _ w)
    unfold bX5_readTest_6
    rw [li_400, nI_le' (by omega) (by omega)]
    exact ⟨fun y => by omega, fun _ => ⟨fun y => absurd y (by decide), fun _ => ⟨shA_14 h.1, sX5_pass (s := 15) hx.1 h (by omega) (fun _ S4 f4 k4 h4 => ⟨fun y => absurd y (by decide), fun _ => ⟨shA_14 h4.1, q S4 (CF.go f4 k4) h4⟩⟩) (fun y => absurd z y)⟩⟩⟩
/-- tests, everywhere -/
theorem j_tests (hx : Cx t e A B sg vl so bb wo) : ∀ i, JTest t e A B sg vl so bb wo test i := by
  have key : ∀ k i, e - i ≤ k → i ≤ e → JTest t e A B sg vl so bb wo test i := by
    intro k
    induction k with
    | zero =>
      intro i h1 h2
      refine j_test (i0 := i) hx (j_both (i0 := i) hx (j_plain (i0 := i) hx (fun i3 h3 => ?_))) i (Nat.le_refl _)
      intro d l _ _ z; omega
    | succ k ih =>
      intro i h1 h2
      refine j_test (i0 := i) hx (j_both (i0 := i) hx (j_plain (i0 := i) hx (fun i3 h3 => ?_))) i (Nat.le_refl _)
      intro d l q1 q2 z
      exact ih i3 (by omega) z d l q1 q2 z
  intro i d l h1 h2 h3
  exact key (e - i) i (Nat.le_refl _) h3 d l h1 h2 h3
end JBOTH
