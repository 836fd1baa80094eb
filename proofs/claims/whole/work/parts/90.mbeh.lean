/-! THE MODEL'S READER: behind a sum, behind a test -/
section MBEH
variable {t e i l n b o n1 b1 : Nat} {A B sg vl so bb : Nat → Nat} {wo : Nat → Int64} {M M' M2 M0 : JS} {f : JF} {test : Int32}
theorem MT.settled {Q : JS → Prop} {lv : Nat} (h : MT t e A B so bb wo M i l n1 b1 o) (hn : n ≤ n1) (hb : b ≤ b1) (hA : A i ≤ 400) (hst : (∀ M', SPk M n b n1 b1 f M' → wX12_settle_0 45 (nI lv) M' Q) → wX12_settle_0 45 (nI lv) M Q) (hp : BP M b lv) (hl : lv < 10) (hq : ∀ M1 n2, MF M M1 n b → jI M1 54 = jI M 54 → MT t e A B so bb wo M1 i l n2 b o → mD (jI M1 52) (jI M1 53) n n2 f → Q M1) : wX12_settle_0 45 (nI lv) M Q := by
  obtain ⟨⟨hs, hc⟩, hT, ⟨g1, g2, g3, g4, g5⟩, ⟨h1, h2, h3, h4⟩, hpa⟩ := id h
  refine hst (fun M1 ⟨n2, ⟨f1, k1, g17, g23, hk⟩, hle, d⟩ => ?_)
  have e54 := f1.I 54 (by decide)
  have e55 := f1.I 55 (by decide)
  refine st_stop (f1.sh.mpr hs) g23 (by omega) hl (hp.cg (fun k _ => by rw [e54])) (hq M1 n2 ⟨f1.mono (by decide), k1.mono (by decide), hk, fun k _ => by rw [e54, e55]; exact ⟨rfl, rfl⟩⟩ e54 (h.st (f1.mono (by decide)) (k1.mono (by decide)) g17 ?_ g23 ?_ ?_ (by omega) h3 h4) d)
  · rw [k1.I 20 (by decide)]; exact g3
  · rw [k1.I 24 (by decide)]; exact g5
  · intro k hk; rw [e54, e55]; exact hpa k (by omega)
section SETL
variable {Q : JS → Prop}
theorem MT.setT (hx : Cx t e A B sg vl so bb wo) (h : MT t e A B so bb wo M i l n1 b1 o) (hT : TmP (jI M 52) (jI M 53) (jI M 54) n b n1 b1 f) (hp : BP M b 6) (hq : ∀ M1 n2, MF M M1 n b → jI M1 54 = jI M 54 → MT t e A B so bb wo M1 i l n2 b o → mD (jI M1 52) (jI M1 53) n n2 f → Q M1) : wX12_settle_0 45 (nI 6) M Q := by
  have hA := h.A4 hx
  obtain ⟨⟨hs, hc⟩, _, ⟨g1, g2, g3, g4, g5⟩, ⟨h1, h2, h3, h4⟩, hpa⟩ := id h
  exact h.settled hT.wt.1 hT.wt.2.1 hA (st_Tm hs hT g2 g4 (by omega) (by omega)) hp (by omega) hq
theorem MT.setS {lv : Nat} (hx : Cx t e A B sg vl so bb wo) (h : MT t e A B so bb wo M i l n1 b1 o) (hlv : lv ≤ 5) (hT : SmP (jI M 52) (jI M 53) (jI M 54) n b n1 b1 f) (hp : BP M b lv) (hq : ∀ M1 n2, MF M M1 n b → jI M1 54 = jI M 54 → MT t e A B so bb wo M1 i l n2 b o → mD (jI M1 52) (jI M1 53) n n2 f → Q M1) : wX12_settle_0 45 (nI lv) M Q := by
  have hA := h.A4 hx
  obtain ⟨⟨hs, hc⟩, _, ⟨g1, g2, g3, g4, g5⟩, ⟨h1, h2, h3, h4⟩, hpa⟩ := id h
  exact h.settled hT.wt.1 hT.wt.2.1 hA (st_Sm hs hT g2 g4 (by omega) hlv) hp (by omega) hq
theorem MT.setB {lv : Nat} (hx : Cx t e A B sg vl so bb wo) (h : MT t e A B so bb wo M i l n1 b1 o) (hlv : lv ≤ 2) (hT : BoP (jI M 52) (jI M 53) (jI M 54) (jI M 55) n b n1 b1 f) (hp : BP M b lv) (hq : ∀ M1 n2, MF M M1 n b → jI M1 54 = jI M 54 → MT t e A B so bb wo M1 i l n2 b o → mD (jI M1 52) (jI M1 53) n n2 f → Q M1) : wX12_settle_0 45 (nI lv) M Q := by
  have hA := h.A4 hx
  obtain ⟨⟨hs, hc⟩, _, ⟨g1, g2, g3, g4, g5⟩, ⟨h1, h2, h3, h4⟩, hpa⟩ := id h
  exact h.settled hT.wt.1 hT.wt.2.1 hA (st_Bo hs hT g2 g4 (by omega) hlv) hp (by omega) hq
theorem MT.setE {lv : Nat} (hx : Cx t e A B sg vl so bb wo) (h : MT t e A B so bb wo M i l n1 b1 o) (hlv : lv ≤ 1) (hT : TeP (jI M 52) (jI M 53) (jI M 54) (jI M 55) n b n1 b1 f) (hp : BP M b lv) (hq : ∀ M1 n2, MF M M1 n b → jI M1 54 = jI M 54 → MT t e A B so bb wo M1 i l n2 b o → mD (jI M1 52) (jI M1 53) n n2 f → Q M1) : wX12_settle_0 45 (nI lv) M Q := by
  have hA := h.A4 hx
  obtain ⟨⟨hs, hc⟩, _, ⟨g1, g2, g3, g4, g5⟩, ⟨h1, h2, h3, h4⟩, hpa⟩ := id h
  exact h.settled hT.wt.1 hT.wt.2.1 hA (st_Te hs hT g2 g4 (by omega) hlv) hp (by omega) hq
end SETL
/-- push and go on: the pile may be one too high for the token, not for the next -/
theorem MT.pushN {Q : JS → Prop} {p : Nat} (hx : Cx t e A B sg vl so bb wo) (h : MT t e A B so bb wo M i l n b o) (hi : sg i ≠ 26) (hp : p < 1000) (hq : ∀ M', MF M M' n b → MT t e A B so bb wo M' (i + 1) l n (b + 1) o → jI M' 54 b = nI p → jI M' 52 = jI M 52 → jI M' 53 = jI M 53 → Q M') : wX12_push 45 (nI p) 0 M (fun S => jA S 45 12 ∧ wX12_next 45 S Q) := by
  obtain ⟨⟨hs, hc⟩, hT, ⟨g1, g2, g3, g4, g5⟩, ⟨h1, h2, h3, h4⟩, hpa⟩ := id h
  have hlt := hx.1.lt h1 hi
  have hA := (hx.1.2.1 i hlt).1
  have hA4 := (hx.1.2.2.1 (i + 1) (by omega)).2
  have ht := hx.1.1.2.1
  refine MT.push hs g4 (by omega) ?_
  generalize e6 : uI (uI (uI M 54 b (nI p)) 55 b 0) 45 23 (nI (b + 1)) = S6
  have f6 : jFr [45, 54, 55] M S6 := by rw [← e6]; exact (((jFr.refl _ _).uI (by decide)).uI (by decide)).uI (by decide)
  have k6 : jFk 45 [23] M S6 := by rw [← e6]; exact (((jFk.refl _ _ _).oI (by decide)).oI (by decide)).sI (by decide)
  have pl6 : ∀ k, k < b → jI S6 54 k = jI M 54 k ∧ jI S6 55 k = jI M 55 k := by
    intro k hk; rw [← e6]; simp only [jN_uI, jN_uJ, jN_uR, jK_uI, jK_uJ, jK_uR, jZ_uI, jZ_uJ, jZ_uR, jR_uI, jR_uJ, jr_uI, jr_uJ, jI_uJ, jI_uR, jJ_uI, jJ_uR, jI_uI_eq, jI_uI_ne, jJ_uJ_eq, jJ_uJ_ne, jSh_uI, jSh_uJ, jA_uI, jA_uJ, jA_uR, jI_uIf_eq, jI_uIf_ne, jJ_uIf, jR_uIf, jr_uIf, jZ_uIf, jSh_uIf, jA_uIf, ne_eq, not_false_eq_true, not_true_eq_false, reduceCtorEq, Nat.reduceEqDiff, forall_eq, true_and, and_true, true_implies, forall_const, implies_true, List.mem_cons, List.not_mem_nil, or_false, false_or, or_self, if_true, if_false, reduceIte, Nat.reduceAdd, Nat.reduceMul, Nat.reduceLT, false_implies, Decidable.not_not, bI_eq0, bI_eq1, upd_at, updL_at, Nat.succ_ne_zero, Int32.reduceToNatClampNeg, eq_self, i01, i10]; rw [if_neg (by omega), if_neg (by omega)]; exact ⟨rfl, rfl⟩
  have pb : jI S6 54 b = nI p := by rw [← e6]; simp only [jN_uI, jN_uJ, jN_uR, jK_uI, jK_uJ, jK_uR, jZ_uI, jZ_uJ, jZ_uR, jR_uI, jR_uJ, jr_uI, jr_uJ, jI_uJ, jI_uR, jJ_uI, jJ_uR, jI_uI_eq, jI_uI_ne, jJ_uJ_eq, jJ_uJ_ne, jSh_uI, jSh_uJ, jA_uI, jA_uJ, jA_uR, jI_uIf_eq, jI_uIf_ne, jJ_uIf, jR_uIf, jr_uIf, jZ_uIf, jSh_uIf, jA_uIf, ne_eq, not_false_eq_true, not_true_eq_false, reduceCtorEq, Nat.reduceEqDiff, forall_eq, true_and, and_true, true_implies, forall_const, implies_true, List.mem_cons, List.not_mem_nil, or_false, false_or, or_self, if_true, if_false, reduceIte, Nat.reduceAdd, Nat.reduceMul, Nat.reduceLT, false_implies, Decidable.not_not, bI_eq0, bI_eq1, upd_at, updL_at, Nat.succ_ne_zero, Int32.reduceToNatClampNeg, eq_self, i01, i10]
  have pb5 : jI S6 55 b = nI 0 := by rw [← e6]; simp only [jN_uI, jN_uJ, jN_uR, jK_uI, jK_uJ, jK_uR, jZ_uI, jZ_uJ, jZ_uR, jR_uI, jR_uJ, jr_uI, jr_uJ, jI_uJ, jI_uR, jJ_uI, jJ_uR, jI_uI_eq, jI_uI_ne, jJ_uJ_eq, jJ_uJ_ne, jSh_uI, jSh_uJ, jA_uI, jA_uJ, jA_uR, jI_uIf_eq, jI_uIf_ne, jJ_uIf, jR_uIf, jr_uIf, jZ_uIf, jSh_uIf, jA_uIf, ne_eq, not_false_eq_true, not_true_eq_false, reduceCtorEq, Nat.reduceEqDiff, forall_eq, true_and, and_true, true_implies, forall_const, implies_true, List.mem_cons, List.not_mem_nil, or_false, false_or, or_self, if_true, if_false, reduceIte, Nat.reduceAdd, Nat.reduceMul, Nat.reduceLT, false_implies, Decidable.not_not, bI_eq0, bI_eq1, upd_at, updL_at, Nat.succ_ne_zero, Int32.reduceToNatClampNeg, eq_self, i01, i10]; rfl
  have p23 : jI S6 45 23 = nI (b + 1) := by rw [← e6]; simp only [jN_uI, jN_uJ, jN_uR, jK_uI, jK_uJ, jK_uR, jZ_uI, jZ_uJ, jZ_uR, jR_uI, jR_uJ, jr_uI, jr_uJ, jI_uJ, jI_uR, jJ_uI, jJ_uR, jI_uI_eq, jI_uI_ne, jJ_uJ_eq, jJ_uJ_ne, jSh_uI, jSh_uJ, jA_uI, jA_uJ, jA_uR, jI_uIf_eq, jI_uIf_ne, jJ_uIf, jR_uIf, jr_uIf, jZ_uIf, jSh_uIf, jA_uIf, ne_eq, not_false_eq_true, not_true_eq_false, reduceCtorEq, Nat.reduceEqDiff, forall_eq, true_and, and_true, true_implies, forall_const, implies_true, List.mem_cons, List.not_mem_nil, or_false, false_or, or_self, if_true, if_false, reduceIte, Nat.reduceAdd, Nat.reduceMul, Nat.reduceLT, false_implies, Decidable.not_not, bI_eq0, bI_eq1, upd_at, updL_at, Nat.succ_ne_zero, Int32.reduceToNatClampNeg, eq_self, i01, i10]
  refine ⟨shA_45 (f6.sh.mpr hs), MT.nextF hx h (f6.mono (by decide)) (k6.mono (by decide)) (n := n) (by rw [k6.I 17 (by decide)]; exact g2) p23 (hpa.push pl6 pb pb5 hp (by omega)) hi (by omega) (fun M7 f7 k7 m7 => hq M7 ?_ m7 ?_ ?_ ?_)⟩
  · refine MF.tr (n1 := n) (b1 := b) ⟨f6.mono (by decide), k6.mono (by decide), fun k hk => ?_, pl6⟩ (MF.of45 f7 (k7.mono (by decide))) (Nat.le_refl _) (Nat.le_refl _)
    rw [f6.I 52 (by decide), f6.I 53 (by decide)]; exact ⟨rfl, rfl⟩
  · rw [f7.I 54 (by decide)]; exact pb
  · rw [f7.I 52 (by decide), f6.I 52 (by decide)]
  · rw [f7.I 53 (by decide), f6.I 53 (by decide)]
/-- which operation a token asks for -/
theorem bs_pick {Q : Int32 → JS → Prop} (hx : Cx t e A B sg vl so bb wo) (h : MT t e A B so bb wo M i l n1 b1 o) (h1 : 7 ≤ sg i → sg i ≤ 10 → wX12_behindSum_25 45 test (nI (sg i + 13)) M Q) (h0 : (sg i < 7 ∨ 10 < sg i) → wX12_behindSum_25 45 test (-1) M Q) : wX12_behindSum 45 test M Q := by
  have hs := h.1.1
  have go : ∀ p, 7 ≤ p → p ≤ 10 → sg i = p → wX12_behindSum_25 45 test (nI (p + 13)) M Q := by
    intro p p1 p2 z; rw [← z]; exact h1 (by omega) (by omega)
  unfold wX12_behindSum
  refine ⟨shA_45 hs, sX12_isSign hx h (show ((43 : Int32), 7) ∈ mkT by decide) (fun z => ⟨fun y => absurd y (by decide), fun _ => go 7 (by omega) (by omega) z⟩) (fun z1 => ⟨fun _ => ⟨shA_45 hs, ?_⟩, fun y => absurd rfl y⟩)⟩
  refine sX12_isSign hx h (show ((45 : Int32), 8) ∈ mkT by decide) (fun z => ⟨fun y => absurd y (by decide), fun _ => go 8 (by omega) (by omega) z⟩) (fun z2 => ⟨fun _ => ⟨shA_45 hs, ?_⟩, fun y => absurd rfl y⟩)
  refine sX12_isSign hx h (show ((42 : Int32), 9) ∈ mkT by decide) (fun z => ⟨fun y => absurd y (by decide), fun _ => go 9 (by omega) (by omega) z⟩) (fun z3 => ⟨fun _ => ⟨shA_45 hs, ?_⟩, fun y => absurd rfl y⟩)
  refine sX12_isSign hx h (show ((47 : Int32), 10) ∈ mkT by decide) (fun z => ⟨fun y => absurd y (by decide), fun _ => go 10 (by omega) (by omega) z⟩) (fun z4 => ⟨fun _ => h0 (by omega), fun y => absurd rfl y⟩)
theorem bs_op {Q : Int32 → JS → Prop} {p : Nat} (hx : Cx t e A B sg vl so bb wo) (hp : 20 ≤ p ∧ p ≤ 23) (hi : sg i ≠ 26) (hset : ∀ Q' : JS → Prop, (∀ M1 n2, MF M M1 n b → jI M1 54 = jI M 54 → MT t e A B so bb wo M1 i l n2 b o → mD (jI M1 52) (jI M1 53) n n2 f → Q' M1) → wX12_settle_0 45 (nI (bd p)) M Q') (hs : jSh M) (hq : ∀ M' n2, MF M M' n b → MT t e A B so bb wo M' (i + 1) l n2 (b + 1) o → jI M' 54 b = nI p → mD (jI M' 52) (jI M' 53) n n2 f → Q 1 M') : wX12_behindSum_25 45 test (nI p) M Q := by
  unfold wX12_behindSum_25
  refine ⟨fun z => ?_, fun _ => sX12_binds (by omega) ⟨shA_45 hs, ?_⟩⟩
  · exact absurd z (fun y => by rcases (by omega : p = 20 ∨ p = 21 ∨ p = 22 ∨ p = 23) with q | q | q | q <;> subst q <;> exact absurd y (by decide))
  · unfold wX12_settle
    refine hset _ (fun M1 n2 f1 e54 m1 d1 => ⟨shA_45 m1.1.1, ?_⟩)
    refine MT.pushN hx m1 hi (by omega) (fun M2 f2 m2 p2 e52 e53 => hq M2 n2 (f1.tr f2 d1.1 (Nat.le_refl _)) m2 p2 (by rw [e52, e53]; exact d1))
/-- not an operation: a bracket's end -/
theorem bs_close {Q : Int32 → JS → Prop} (hx : Cx t e A B sg vl so bb wo) (h : MT t e A B so bb wo M i l n1 b1 (o + 1)) (hP : SmP (jI M 52) (jI M 53) (jI M 54) n (b + 1) n1 b1 f) (h31 : jI M 54 b = nI 31) (h1 : sg i = 25 → ∀ M' n2, MF M M' n b → MT t e A B so bb wo M' (i + 1) l n2 b o → mD (jI M' 52) (jI M' 53) n n2 f → Q 3 M') (h0 : sg i ≠ 25 → ∀ M', MF M M' n b → MB M' (A i) → Q 3 M') : wX12_behindSum_25 45 test (-1) M Q := by
  have hs := h.1.1
  obtain ⟨p1, p2, p3⟩ := hP.wt
  have hinn : inn (jI M 54) b1 = 31 := by
    rw [inn_ext b1 p2 (fun k k1 k2 => by obtain ⟨q, q1, q2, q3⟩ := p3 k k1 k2; rw [q3, li_30, nI_lt' (by omega) (by omega)]; omega), inn, if_neg (by rw [h31, li_30, nI_lt' (by omega) (by omega)]; omega), h31]; rfl
  unfold wX12_behindSum_25
  refine ⟨fun _ => ⟨shA_45 hs, sX12_inner h (h.A4 hx) ⟨fun z => absurd hinn z, fun _ => ⟨shA_45 hs, ?_⟩⟩⟩, fun z => absurd rfl z⟩
  refine sX12_isSign hx h (show ((93 : Int32), 25) ∈ mkT by decide) (fun z => ⟨shA_45 hs, MT.mustN h (by decide) (MT.next hx h (by omega) (fun M1 f1 k1 m1 a1 => ⟨shA_45 m1.1.1, fun y => absurd m1.2.2.1.1 y, fun _ => ?_⟩))⟩) (fun z => ⟨shA_45 hs, MT.mustB hx h (fun M1 f1 bb1 => ⟨shA_45 bb1.1.1, fun _ => h0 z M1 (f1.mono p1 (by omega)) bb1, fun y => ?_⟩)⟩)
  · unfold wX12_settle
    refine MT.setS (lv := 5) hx m1 (by omega) (f := f) (n := n) (b := b + 1) (by rw [f1.I 52 (by decide), f1.I 53 (by decide), f1.I 54 (by decide)]; exact hP) (BP.at (p := 31) (by rw [f1.I 54 (by decide)]; exact h31) (by omega) (by decide)) (fun M2 n2 f2 e54 m2 d2 => ⟨shA_45 m2.1.1, fun S3 e3 => ?_⟩)
    obtain ⟨_, _, ⟨g1, g2, g3, g4, g5⟩, ⟨q1, q2, q3, q4⟩, hpa⟩ := id m2
    rw [g4, nI_s1 (by omega), Nat.add_sub_cancel] at e3
    have f3 : jFr [45] M2 S3 := by rw [e3]; exact (jFr.refl _ _).uI (by decide)
    refine ⟨shA_45 (f3.sh.mpr m2.1.1), fun S4 e4 => ?_⟩
    have g5' : jI S3 45 24 = nI (o + 1) := by rw [e3]; simp only [jN_uI, jN_uJ, jN_uR, jK_uI, jK_uJ, jK_uR, jZ_uI, jZ_uJ, jZ_uR, jR_uI, jR_uJ, jr_uI, jr_uJ, jI_uJ, jI_uR, jJ_uI, jJ_uR, jI_uI_eq, jI_uI_ne, jJ_uJ_eq, jJ_uJ_ne, jSh_uI, jSh_uJ, jA_uI, jA_uJ, jA_uR, jI_uIf_eq, jI_uIf_ne, jJ_uIf, jR_uIf, jr_uIf, jZ_uIf, jSh_uIf, jA_uIf, ne_eq, not_false_eq_true, not_true_eq_false, reduceCtorEq, Nat.reduceEqDiff, forall_eq, true_and, and_true, true_implies, forall_const, implies_true, List.mem_cons, List.not_mem_nil, or_false, false_or, or_self, if_true, if_false, reduceIte, Nat.reduceAdd, Nat.reduceMul, Nat.reduceLT, false_implies, Decidable.not_not, bI_eq0, bI_eq1, upd_at, updL_at, Nat.succ_ne_zero, Int32.reduceToNatClampNeg, eq_self, i01, i10]; exact g5
    rw [g5', nI_s1 (by omega), Nat.add_sub_cancel] at e4
    have f4 : jFr [45] M2 S4 := by rw [e4]; exact f3.uI (by decide)
    have k4 : jFk 45 [23, 24] M2 S4 := by rw [e4, e3]; exact ((jFk.refl _ _ _).sI (by decide)).sI (by decide)
    refine h1 z S4 n2 (((MF.of45 f1 (k1.mono (by decide))).tr f2 (Nat.le_refl _) (by omega)).tr (MF.of45 (n := n) (b := b) f4 (k4.mono (by decide))) (Nat.le_refl _) (Nat.le_refl _)) (m2.st (f4.mono (by decide)) (k4.mono (by decide)) ?_ ?_ ?_ ?_ ?_ (by omega) q3 (by omega)) (by rw [f4.I 52 (by decide), f4.I 53 (by decide)]; exact d2)
    · rw [k4.I 17 (by decide)]; exact g2
    · rw [k4.I 20 (by decide)]; exact g3
    · rw [e4, e3]; simp only [jN_uI, jN_uJ, jN_uR, jK_uI, jK_uJ, jK_uR, jZ_uI, jZ_uJ, jZ_uR, jR_uI, jR_uJ, jr_uI, jr_uJ, jI_uJ, jI_uR, jJ_uI, jJ_uR, jI_uI_eq, jI_uI_ne, jJ_uJ_eq, jJ_uJ_ne, jSh_uI, jSh_uJ, jA_uI, jA_uJ, jA_uR, jI_uIf_eq, jI_uIf_ne, jJ_uIf, jR_uIf, jr_uIf, jZ_uIf, jSh_uIf, jA_uIf, ne_eq, not_false_eq_true, not_true_eq_false, reduceCtorEq, Nat.reduceEqDiff, forall_eq, true_and, and_true, true_implies, forall_const, implies_true, List.mem_cons, List.not_mem_nil, or_false, false_or, or_self, if_true, if_false, reduceIte, Nat.reduceAdd, Nat.reduceMul, Nat.reduceLT, false_implies, Decidable.not_not, bI_eq0, bI_eq1, upd_at, updL_at, Nat.succ_ne_zero, Int32.reduceToNatClampNeg, eq_self, i01, i10]
    · rw [e4]; simp only [jN_uI, jN_uJ, jN_uR, jK_uI, jK_uJ, jK_uR, jZ_uI, jZ_uJ, jZ_uR, jR_uI, jR_uJ, jr_uI, jr_uJ, jI_uJ, jI_uR, jJ_uI, jJ_uR, jI_uI_eq, jI_uI_ne, jJ_uJ_eq, jJ_uJ_ne, jSh_uI, jSh_uJ, jA_uI, jA_uJ, jA_uR, jI_uIf_eq, jI_uIf_ne, jJ_uIf, jR_uIf, jr_uIf, jZ_uIf, jSh_uIf, jA_uIf, ne_eq, not_false_eq_true, not_true_eq_false, reduceCtorEq, Nat.reduceEqDiff, forall_eq, true_and, and_true, true_implies, forall_const, implies_true, List.mem_cons, List.not_mem_nil, or_false, false_or, or_self, if_true, if_false, reduceIte, Nat.reduceAdd, Nat.reduceMul, Nat.reduceLT, false_implies, Decidable.not_not, bI_eq0, bI_eq1, upd_at, updL_at, Nat.succ_ne_zero, Int32.reduceToNatClampNeg, eq_self, i01, i10]
    · intro k hk; rw [f4.I 54 (by decide), f4.I 55 (by decide)]; exact hpa k (by omega)
  · rw [bb1.2.1] at y; exact absurd y (by decide)
/-- the end of a told number's sum -/
theorem bs_over {Q : Int32 → JS → Prop} (hx : Cx t e A B sg vl so bb wo) (h : MT t e A B so bb wo M i l n1 b1 o) (hinn : inn (jI M 54) b1 = -1) (ht : test = 0) (hq : Q 4 M) : wX12_behindSum_25 45 test (-1) M Q := by
  have hs := h.1.1
  unfold wX12_behindSum_25
  exact ⟨fun _ => ⟨shA_45 hs, sX12_inner h (h.A4 hx) ⟨fun _ => ⟨fun z => absurd hinn z, fun _ => ⟨fun z => absurd ht z, fun _ => hq⟩⟩, fun z => absurd (hinn.symm.trans z) (by decide)⟩⟩, fun z => absurd rfl z⟩
def IP (test : Int32) (M : JS) (b : Nat) : Prop := ¬ inn (jI M 54) b = 31 ∧ (inn (jI M 54) b = -1 → ¬ test = 0)
theorem IP.cg (h : IP test M b) (g : ∀ k, k < b → jI M' 54 k = jI M 54 k) : IP test M' b := by
  unfold IP; rw [inn_cg b g]; exact h
theorem IP.ext (h : IP test M b) (hb : b ≤ b1) (g : ∀ k, b ≤ k → k < b1 → ∃ o, o < 30 ∧ jI M 54 k = nI o) : IP test M b1 := by
  unfold IP; rw [inn_ext b1 hb (fun k k1 k2 => by obtain ⟨o, q1, q2⟩ := g k k1 k2; rw [q2, li_30, nI_lt' (by omega) (by omega)]; exact q1)]; exact h
theorem bs_79 {Q : Int32 → JS → Prop} (hx : Cx t e A B sg vl so bb wo) (h : MT t e A B so bb wo M i l n1 b1 o) (hI : IP test M b1) (hq : wX12_behindSum_79 45 M Q) : wX12_behindSum_25 45 test (-1) M Q := by
  have hs := h.1.1
  unfold wX12_behindSum_25
  exact ⟨fun _ => ⟨shA_45 hs, sX12_inner h (h.A4 hx) ⟨fun _ => ⟨fun _ => hq, fun z => ⟨fun _ => hq, fun y => absurd y (hI.2 z)⟩⟩, fun z => absurd z hI.1⟩⟩, fun z => absurd rfl z⟩
/-- behind the second sum of a comparison -/
theorem bs_told {Q : Int32 → JS → Prop} (hx : Cx t e A B sg vl so bb wo) (h : MT t e A B so bb wo M i l n1 b1 o) (hI : IP test M b) (hP : CmP (jI M 52) (jI M 53) (jI M 54) n b n1 b1 f) (hq : Q 2 M) : wX12_behindSum_25 45 test (-1) M Q := by
  have hs := h.1.1
  obtain ⟨p1, p2, p3⟩ := hP.wt
  refine bs_79 hx h (hI.ext p2 p3) ?_
  obtain ⟨o2, m, f1, f2, ho, hp, d1, ht, _⟩ := hP
  unfold wX12_behindSum_79
  exact ⟨shA_45 hs, sX12_isC1 h (h.A4 hx) hp (by omega) (by omega) ht.wt.2.1 ht.wt.2.2 ⟨fun z => absurd z (by decide), fun _ => hq⟩⟩
/-- behind the first -/
theorem bs_cmp {Q : Int32 → JS → Prop} (hx : Cx t e A B sg vl so bb wo) (h : MT t e A B so bb wo M i l n1 b1 o) (hI : IP test M b) (hB : BP M b 4) (hP : SmP (jI M 52) (jI M 53) (jI M 54) n b n1 b1 f) (h1 : 11 ≤ sg i → sg i ≤ 13 → ∀ M' n2, MF M M' n b → MT t e A B so bb wo M' (i + 1) l n2 (b + 1) o → jI M' 54 b = nI (sg i + 13) → mD (jI M' 52) (jI M' 53) n n2 f → Q 1 M') (h0 : (sg i < 11 ∨ 13 < sg i) → ∀ M', MF M M' n b → MB M' (A i) → Q 1 M') : wX12_behindSum_25 45 test (-1) M Q := by
  have hs := h.1.1
  obtain ⟨p1, p2, p3⟩ := hP.wt
  refine bs_79 hx h (hI.ext p2 (fun k k1 k2 => by obtain ⟨q, q1, q2, q3⟩ := p3 k k1 k2; exact ⟨q, by omega, q3⟩)) ?_
  have go : ∀ p, 11 ≤ p → p ≤ 13 → sg i = p → wX12_behindSum_106 45 (nI (p + 13)) 45 M Q := by
    intro p q1 q2 z
    unfold wX12_behindSum_106 wX12_behindSum_109
    refine ⟨shA_45 hs, MT.mustN h (by decide) (MT.next hx h (by omega) (fun M1 f1 k1 m1 a1 => ⟨shA_45 m1.1.1, fun y => absurd m1.2.2.1.1 y, fun _ => ?_⟩))⟩
    unfold wX12_settle
    have hb := h.2.2.2.1.2.1
    have hP' : SmP (jI M1 52) (jI M1 53) (jI M1 54) n b n1 b1 f := by rw [f1.I 52 (by decide), f1.I 53 (by decide), f1.I 54 (by decide)]; exact hP
    have hn0 : n1 + b1 ≤ A i := hb
    have hstp : BP M1 b 5 := (hB.cg (fun k _ => by rw [f1.I 54 (by decide)])).le (by omega)
    obtain ⟨⟨hs1, _⟩, _, ⟨_, g2, g3, g4, g5⟩, ⟨c1, c2, c3, c4⟩, hpa⟩ := id m1
    have hA := m1.A4 hx
    refine st_Sm (least := 5) hs1 hP' g2 g4 (by omega) (by omega) (fun M2 ⟨n2, ⟨f2, k2, g17, g23, hk⟩, hle, d⟩ => ?_)
    have e54 := f2.I 54 (by decide)
    have e55 := f2.I 55 (by decide)
    refine st_stop (lev := 5) (f2.sh.mpr hs1) g23 (by omega) (by omega) (hstp.cg (fun k _ => by rw [e54])) ⟨shA_45 (f2.sh.mpr hs1), ?_⟩
    have m2 : MT t e A B so bb wo M2 (i + 1) l n2 b o := by
      refine m1.st (f2.mono (by decide)) (k2.mono (by decide)) g17 ?_ g23 ?_ ?_ (by omega) c3 c4
      · rw [k2.I 20 (by decide)]; exact g3
      · rw [k2.I 24 (by decide)]; exact g5
      · intro k hk; rw [e54, e55]; exact hpa k (by omega)
    refine MT.pushQ (m := 0) hx m2 (by omega) (by omega) (by omega) (fun M3 f3 m3 p3 e52 e53 => h1 (by omega) (by omega) M3 n2 ?_ m3 (by rw [z]; exact p3) (by rw [e52, e53]; exact d))
    refine ((MF.of45 f1 (k1.mono (by decide))).tr (n1 := n) (b1 := b) ⟨f2.mono (by decide), k2.mono (by decide), hk, fun k _ => by rw [e54, e55]; exact ⟨rfl, rfl⟩⟩ (Nat.le_refl _) (Nat.le_refl _)).tr f3 d.1 (Nat.le_refl _)
  have ne : ∀ p, 11 ≤ p → p ≤ 12 → ¬ nI (p + 13) = 26 := by
    intro p q1 q2 z; rcases (by omega : p = 11 ∨ p = 12) with q | q <;> subst q <;> exact absurd z (by decide)
  unfold wX12_behindSum_79 wX12_behindSum_97
  refine ⟨shA_45 hs, sX12_isC0 h (h.A4 hx) hB p2 p3 ⟨fun _ => ⟨shA_45 hs, ?_⟩, fun z => absurd rfl z⟩⟩
  refine sX12_isSign hx h (show ((60 : Int32), 11) ∈ mkT by decide) (fun z => ⟨fun y => absurd y (by decide), fun _ => ⟨fun _ => go 11 (by omega) (by omega) z, fun y => absurd y (by decide)⟩⟩) (fun z1 => ⟨fun _ => ⟨shA_45 hs, ?_⟩, fun y => absurd rfl y⟩)
  refine sX12_isSign hx h (show ((62 : Int32), 12) ∈ mkT by decide) (fun z => ⟨fun y => absurd y (by decide), fun _ => ⟨fun _ => go 12 (by omega) (by omega) z, fun y => absurd y (by decide)⟩⟩) (fun z2 => ⟨fun _ => ⟨fun y => absurd rfl y, fun _ => ⟨shA_45 hs, ?_⟩⟩, fun y => absurd rfl y⟩)
  refine sX12_isSign hx h (show ((61 : Int32), 13) ∈ mkT by decide) (fun z => ⟨fun y => absurd y (by decide), fun _ => go 13 (by omega) (by omega) z⟩) (fun z3 => ⟨fun _ => ?_, fun y => absurd rfl y⟩)
  unfold wX12_behindSum_109
  refine ⟨shA_45 hs, MT.mustB hx h (fun M1 f1 bb1 => ⟨shA_45 bb1.1.1, fun _ => h0 (by omega) M1 (f1.mono p1 p2) bb1, fun y => ?_⟩)⟩
  rw [bb1.2.1] at y; exact absurd y (by decide)
/-- "and", "or": settle, jump, go on -/
theorem bt_op {Q : Int32 → JS → Prop} {p : Nat} (hx : Cx t e A B sg vl so bb wo) (hp : p = 28 ∨ p = 29) (hsg : sg i = 15 ∨ sg i = 16) (hset : ∀ Q' : JS → Prop, (∀ M1 n2, MF M M1 n b → jI M1 54 = jI M 54 → MT t e A B so bb wo M1 i l n2 b o → mD (jI M1 52) (jI M1 53) n n2 f → Q' M1) → wX12_settle_0 45 (nI (bd p)) M Q') (hs : jSh M) (hq : ∀ M' n2, MF M M' n b → MT t e A B so bb wo M' (i + 1) l (n2 + 1) (b + 1) o → jI M' 54 b = nI p → jI M' 55 b = nI n2 → n2 < 400 → jI M' 52 n2 = nI p → mD (jI M' 52) (jI M' 53) n n2 f → Q 0 M') : wX12_behindTest_10 45 (if p = 28 then 1 else 0) M Q := by
  have hb : bd p = if p = 28 then 2 else 1 := by rcases hp with q | q <;> subst q <;> rfl
  have key : wX12_settle_0 45 (nI (bd p)) M (fun S4 => jA S4 45 12 ∧ jA S4 45 12 ∧ wX12_push 45 (nI p) (jI S4 45 17) S4 (fun S8 => wX12_behindTest_32 45 (nI p) 45 S8 Q)) := by
    refine hset _ (fun M1 n2 f1 e54 m1 d1 => ⟨shA_45 m1.1.1, shA_45 m1.1.1, ?_⟩)
    obtain ⟨⟨hs1, _⟩, _, ⟨g1, g2, g3, g4, g5⟩, ⟨c1, c2, c3, c4⟩, hpa⟩ := id m1
    have hlt := hx.1.lt c1 (by omega)
    have hA := (hx.1.2.1 i hlt).2.2.2 hsg
    have hA4 := (hx.1.2.2.1 (i + 1) (by omega)).2
    have ht := hx.1.1.2.1
    refine MT.push hs1 g4 (by omega) ?_
    rw [g2]
    generalize e6 : uI (uI (uI M1 54 b (nI p)) 55 b (nI n2)) 45 23 (nI (b + 1)) = S6
    have f6 : jFr [45, 54, 55] M1 S6 := by rw [← e6]; exact (((jFr.refl _ _).uI (by decide)).uI (by decide)).uI (by decide)
    have k6 : jFk 45 [23] M1 S6 := by rw [← e6]; exact (((jFk.refl _ _ _).oI (by decide)).oI (by decide)).sI (by decide)
    have pl6 : ∀ k, k < b → jI S6 54 k = jI M1 54 k ∧ jI S6 55 k = jI M1 55 k := by
      intro k hk; rw [← e6]; simp only [jN_uI, jN_uJ, jN_uR, jK_uI, jK_uJ, jK_uR, jZ_uI, jZ_uJ, jZ_uR, jR_uI, jR_uJ, jr_uI, jr_uJ, jI_uJ, jI_uR, jJ_uI, jJ_uR, jI_uI_eq, jI_uI_ne, jJ_uJ_eq, jJ_uJ_ne, jSh_uI, jSh_uJ, jA_uI, jA_uJ, jA_uR, jI_uIf_eq, jI_uIf_ne, jJ_uIf, jR_uIf, jr_uIf, jZ_uIf, jSh_uIf, jA_uIf, ne_eq, not_false_eq_true, not_true_eq_false, reduceCtorEq, Nat.reduceEqDiff, forall_eq, true_and, and_true, true_implies, forall_const, implies_true, List.mem_cons, List.not_mem_nil, or_false, false_or, or_self, if_true, if_false, reduceIte, Nat.reduceAdd, Nat.reduceMul, Nat.reduceLT, false_implies, Decidable.not_not, bI_eq0, bI_eq1, upd_at, updL_at, Nat.succ_ne_zero, Int32.reduceToNatClampNeg, eq_self, i01, i10]; rw [if_neg (by omega), if_neg (by omega)]; exact ⟨rfl, rfl⟩
    have pb : jI S6 54 b = nI p := by rw [← e6]; simp only [jN_uI, jN_uJ, jN_uR, jK_uI, jK_uJ, jK_uR, jZ_uI, jZ_uJ, jZ_uR, jR_uI, jR_uJ, jr_uI, jr_uJ, jI_uJ, jI_uR, jJ_uI, jJ_uR, jI_uI_eq, jI_uI_ne, jJ_uJ_eq, jJ_uJ_ne, jSh_uI, jSh_uJ, jA_uI, jA_uJ, jA_uR, jI_uIf_eq, jI_uIf_ne, jJ_uIf, jR_uIf, jr_uIf, jZ_uIf, jSh_uIf, jA_uIf, ne_eq, not_false_eq_true, not_true_eq_false, reduceCtorEq, Nat.reduceEqDiff, forall_eq, true_and, and_true, true_implies, forall_const, implies_true, List.mem_cons, List.not_mem_nil, or_false, false_or, or_self, if_true, if_false, reduceIte, Nat.reduceAdd, Nat.reduceMul, Nat.reduceLT, false_implies, Decidable.not_not, bI_eq0, bI_eq1, upd_at, updL_at, Nat.succ_ne_zero, Int32.reduceToNatClampNeg, eq_self, i01, i10]
    have pb5 : jI S6 55 b = nI n2 := by rw [← e6]; simp only [jN_uI, jN_uJ, jN_uR, jK_uI, jK_uJ, jK_uR, jZ_uI, jZ_uJ, jZ_uR, jR_uI, jR_uJ, jr_uI, jr_uJ, jI_uJ, jI_uR, jJ_uI, jJ_uR, jI_uI_eq, jI_uI_ne, jJ_uJ_eq, jJ_uJ_ne, jSh_uI, jSh_uJ, jA_uI, jA_uJ, jA_uR, jI_uIf_eq, jI_uIf_ne, jJ_uIf, jR_uIf, jr_uIf, jZ_uIf, jSh_uIf, jA_uIf, ne_eq, not_false_eq_true, not_true_eq_false, reduceCtorEq, Nat.reduceEqDiff, forall_eq, true_and, and_true, true_implies, forall_const, implies_true, List.mem_cons, List.not_mem_nil, or_false, false_or, or_self, if_true, if_false, reduceIte, Nat.reduceAdd, Nat.reduceMul, Nat.reduceLT, false_implies, Decidable.not_not, bI_eq0, bI_eq1, upd_at, updL_at, Nat.succ_ne_zero, Int32.reduceToNatClampNeg, eq_self, i01, i10]
    have p23 : jI S6 45 23 = nI (b + 1) := by rw [← e6]; simp only [jN_uI, jN_uJ, jN_uR, jK_uI, jK_uJ, jK_uR, jZ_uI, jZ_uJ, jZ_uR, jR_uI, jR_uJ, jr_uI, jr_uJ, jI_uJ, jI_uR, jJ_uI, jJ_uR, jI_uI_eq, jI_uI_ne, jJ_uJ_eq, jJ_uJ_ne, jSh_uI, jSh_uJ, jA_uI, jA_uJ, jA_uR, jI_uIf_eq, jI_uIf_ne, jJ_uIf, jR_uIf, jr_uIf, jZ_uIf, jSh_uIf, jA_uIf, ne_eq, not_false_eq_true, not_true_eq_false, reduceCtorEq, Nat.reduceEqDiff, forall_eq, true_and, and_true, true_implies, forall_const, implies_true, List.mem_cons, List.not_mem_nil, or_false, false_or, or_self, if_true, if_false, reduceIte, Nat.reduceAdd, Nat.reduceMul, Nat.reduceLT, false_implies, Decidable.not_not, bI_eq0, bI_eq1, upd_at, updL_at, Nat.succ_ne_zero, Int32.reduceToNatClampNeg, eq_self, i01, i10]
    unfold wX12_behindTest_32
    refine ⟨shA_45 (f6.sh.mpr hs1), MT.emit (f6.sh.mpr hs1) (by rw [k6.I 17 (by decide)]; exact g2) (by omega) ?_⟩
    generalize e7 : uI (uI (uI S6 52 n2 (nI p)) 53 n2 0) 45 17 (nI (n2 + 1)) = S7
    have f7 : jFr [45, 52, 53] S6 S7 := by rw [← e7]; exact (((jFr.refl _ _).uI (by decide)).uI (by decide)).uI (by decide)
    have k7 : jFk 45 [17] S6 S7 := by rw [← e7]; exact (((jFk.refl _ _ _).oI (by decide)).oI (by decide)).sI (by decide)
    have c7 : ∀ k, k < n2 → jI S7 52 k = jI M1 52 k ∧ jI S7 53 k = jI M1 53 k := by
      intro k hk; rw [← e7]; simp only [jN_uI, jN_uJ, jN_uR, jK_uI, jK_uJ, jK_uR, jZ_uI, jZ_uJ, jZ_uR, jR_uI, jR_uJ, jr_uI, jr_uJ, jI_uJ, jI_uR, jJ_uI, jJ_uR, jI_uI_eq, jI_uI_ne, jJ_uJ_eq, jJ_uJ_ne, jSh_uI, jSh_uJ, jA_uI, jA_uJ, jA_uR, jI_uIf_eq, jI_uIf_ne, jJ_uIf, jR_uIf, jr_uIf, jZ_uIf, jSh_uIf, jA_uIf, ne_eq, not_false_eq_true, not_true_eq_false, reduceCtorEq, Nat.reduceEqDiff, forall_eq, true_and, and_true, true_implies, forall_const, implies_true, List.mem_cons, List.not_mem_nil, or_false, false_or, or_self, if_true, if_false, reduceIte, Nat.reduceAdd, Nat.reduceMul, Nat.reduceLT, false_implies, Decidable.not_not, bI_eq0, bI_eq1, upd_at, updL_at, Nat.succ_ne_zero, Int32.reduceToNatClampNeg, eq_self, i01, i10]; rw [if_neg (by omega), if_neg (by omega), f6.I 52 (by decide), f6.I 53 (by decide)]; exact ⟨rfl, rfl⟩
    have o7 : jI S7 52 n2 = nI p := by rw [← e7]; simp only [jN_uI, jN_uJ, jN_uR, jK_uI, jK_uJ, jK_uR, jZ_uI, jZ_uJ, jZ_uR, jR_uI, jR_uJ, jr_uI, jr_uJ, jI_uJ, jI_uR, jJ_uI, jJ_uR, jI_uI_eq, jI_uI_ne, jJ_uJ_eq, jJ_uJ_ne, jSh_uI, jSh_uJ, jA_uI, jA_uJ, jA_uR, jI_uIf_eq, jI_uIf_ne, jJ_uIf, jR_uIf, jr_uIf, jZ_uIf, jSh_uIf, jA_uIf, ne_eq, not_false_eq_true, not_true_eq_false, reduceCtorEq, Nat.reduceEqDiff, forall_eq, true_and, and_true, true_implies, forall_const, implies_true, List.mem_cons, List.not_mem_nil, or_false, false_or, or_self, if_true, if_false, reduceIte, Nat.reduceAdd, Nat.reduceMul, Nat.reduceLT, false_implies, Decidable.not_not, bI_eq0, bI_eq1, upd_at, updL_at, Nat.succ_ne_zero, Int32.reduceToNatClampNeg, eq_self, i01, i10]
    have n7 : jI S7 45 17 = nI (n2 + 1) := by rw [← e7]; simp only [jN_uI, jN_uJ, jN_uR, jK_uI, jK_uJ, jK_uR, jZ_uI, jZ_uJ, jZ_uR, jR_uI, jR_uJ, jr_uI, jr_uJ, jI_uJ, jI_uR, jJ_uI, jJ_uR, jI_uI_eq, jI_uI_ne, jJ_uJ_eq, jJ_uJ_ne, jSh_uI, jSh_uJ, jA_uI, jA_uJ, jA_uR, jI_uIf_eq, jI_uIf_ne, jJ_uIf, jR_uIf, jr_uIf, jZ_uIf, jSh_uIf, jA_uIf, ne_eq, not_false_eq_true, not_true_eq_false, reduceCtorEq, Nat.reduceEqDiff, forall_eq, true_and, and_true, true_implies, forall_const, implies_true, List.mem_cons, List.not_mem_nil, or_false, false_or, or_self, if_true, if_false, reduceIte, Nat.reduceAdd, Nat.reduceMul, Nat.reduceLT, false_implies, Decidable.not_not, bI_eq0, bI_eq1, upd_at, updL_at, Nat.succ_ne_zero, Int32.reduceToNatClampNeg, eq_self, i01, i10]
    refine ⟨shA_45 (f7.sh.mpr (f6.sh.mpr hs1)), MT.nextF (n := n2 + 1) (b := b + 1) hx m1 ((f6.mono (by decide)).tr (f7.mono (by decide))) ((k6.mono (by decide)).tr (k7.mono (by decide))) n7 (by rw [k7.I 23 (by decide)]; exact p23) ?_ (by omega) (by omega) (fun M8 f8 k8 m8 => hq M8 n2 ?_ m8 ?_ ?_ (by omega) ?_ ?_)⟩
    · refine hpa.push (p := p) (m := n2) (fun k hk => ?_) ?_ ?_ (by omega) (by omega)
      · rw [f7.I 54 (by decide), f7.I 55 (by decide)]; exact pl6 k hk
      · rw [f7.I 54 (by decide)]; exact pb
      · rw [f7.I 55 (by decide)]; exact pb5
    · have := d1.1
      refine f1.tr (n1 := n) (b1 := b) (MF.tr (n1 := n) (b1 := b) ⟨(f6.mono (by decide)).tr (f7.mono (by decide)), (k6.mono (by decide)).tr (k7.mono (by decide)), fun k hk => c7 k (by omega), fun k hk => ?_⟩ (MF.of45 f8 (k8.mono (by decide))) (Nat.le_refl _) (Nat.le_refl _)) (Nat.le_refl _) (Nat.le_refl _)
      rw [f7.I 54 (by decide), f7.I 55 (by decide)]; exact pl6 k hk
    · rw [f8.I 54 (by decide), f7.I 54 (by decide)]; exact pb
    · rw [f8.I 55 (by decide), f7.I 55 (by decide)]; exact pb5
    · rw [f8.I 52 (by decide)]; exact o7
    · rw [f8.I 52 (by decide), f8.I 53 (by decide)]
      exact mD_congr d1 (fun k _ k2 => c7 k k2)
  unfold wX12_behindTest_10 wX12_behindTest_16 wX12_behindTest_23 wX12_settle
  rw [hb] at key
  rcases hp with q | q <;> subst q
  · rw [if_pos rfl] at key ⊢
    refine ⟨fun z => absurd z (by decide), fun _ => ⟨shA_45 hs, ?_⟩⟩
    refine cast (congrArg (wX12_settle_0 45 (nI 2) M) ?_) key
    funext S4
    refine propext ⟨fun z => ⟨fun y => absurd y (by decide), fun _ => ⟨z.1, z.2.1, ?_⟩⟩, fun z => ⟨(z.2 (by decide)).1, (z.2 (by decide)).2.1, ?_⟩⟩
    · refine cast (congrArg (wX12_push 45 (nI 28) (jI S4 45 17) S4) ?_) z.2.2
      funext S8; exact propext ⟨fun w => ⟨fun y => absurd y (by decide), fun _ => w⟩, fun w => w.2 (by decide)⟩
    · refine cast (congrArg (wX12_push 45 (nI 28) (jI S4 45 17) S4) ?_) (z.2 (by decide)).2.2
      funext S8; exact propext ⟨fun w => w.2 (by decide), fun w => ⟨fun y => absurd y (by decide), fun _ => w⟩⟩
  · rw [if_neg (by omega)] at key ⊢
    refine ⟨fun _ => ⟨shA_45 hs, ?_⟩, fun z => absurd rfl z⟩
    refine cast (congrArg (wX12_settle_0 45 (nI 1) M) ?_) key
    funext S4
    refine propext ⟨fun z => ⟨fun _ => ⟨z.1, z.2.1, ?_⟩, fun y => absurd rfl y⟩, fun z => ⟨(z.1 rfl).1, (z.1 rfl).2.1, ?_⟩⟩
    · refine cast (congrArg (wX12_push 45 (nI 29) (jI S4 45 17) S4) ?_) z.2.2
      funext S8; exact propext ⟨fun w => ⟨fun _ => w, fun y => absurd rfl y⟩, fun w => w.1 rfl⟩
    · refine cast (congrArg (wX12_push 45 (nI 29) (jI S4 45 17) S4) ?_) (z.1 rfl).2.2
      funext S8; exact propext ⟨fun w => w.1 rfl, fun w => ⟨fun _ => w, fun y => absurd rfl y⟩⟩
theorem bt_pick {Q : Int32 → JS → Prop} (hx : Cx t e A B sg vl so bb wo) (h : MT t e A B so bb wo M i l n1 b1 o) (h1 : sg i = 16 → wX12_behindTest_10 45 1 M Q) (h2 : sg i = 15 → wX12_behindTest_10 45 0 M Q) (h0 : ¬ sg i = 15 → ¬ sg i = 16 → wX12_inner 45 M (fun r21 S20 => (¬ r21 = (-1) → jA S20 45 12 ∧ (wX12_isSign 45 41 S20 (fun r24 S23 => jA S23 45 12 ∧ (wX12_must 45 r24 S23 (fun S26 => jA S26 45 12 ∧ ((¬ (jI S26 45 14) = 0 → Q 2 S26) ∧ ((jI S26 45 14) = 0 → wX12_settle 45 1 S26 (fun S30 => jA S30 45 12 ∧ (∀ S33 : JS, S33 = uI S30 45 23 ((jI S30 45 23) - (1 : Int32)) → (jA S33 45 12 ∧ (∀ S35 : JS, S35 = uI S33 45 24 ((jI S33 45 24) - (1 : Int32)) → (Q 2 S35)))))))))))) ∧ (r21 = (-1) → Q 4 S20))) : wX12_behindTest 45 M Q := by
  have hs := h.1.1
  unfold wX12_behindTest
  refine ⟨shA_45 hs, sX12_isWord hx h (show ((1476 : Int64), 16) ∈ wdT by decide) (fun z => ⟨fun _ => h1 z, fun y => absurd y (by decide)⟩) (fun z => ⟨fun y => absurd rfl y, fun _ => ⟨shA_45 hs, ?_⟩⟩)⟩
  exact sX12_isWord hx h (show ((498 : Int64), 15) ∈ wdT by decide) (fun z2 => ⟨fun y => absurd y (by decide), fun _ => h2 z2⟩) (fun z2 => ⟨fun _ => ⟨shA_45 hs, h0 z2 z⟩, fun y => absurd rfl y⟩)
theorem bt_over {Q : Int32 → JS → Prop} (hx : Cx t e A B sg vl so bb wo) (h : MT t e A B so bb wo M i l n1 b1 o) (hinn : inn (jI M 54) b1 = -1) (q1 : ¬ sg i = 15) (q2 : ¬ sg i = 16) (hq : Q 4 M) : wX12_behindTest 45 M Q := by
  refine bt_pick hx h (fun z => absurd z q2) (fun z => absurd z q1) (fun _ _ => sX12_inner h (h.A4 hx) ⟨fun z => absurd hinn z, fun _ => hq⟩)
theorem bt_close {Q : Int32 → JS → Prop} (hx : Cx t e A B sg vl so bb wo) (h : MT t e A B so bb wo M i l n1 b1 (o + 1)) (hP : TeP (jI M 52) (jI M 53) (jI M 54) (jI M 55) n (b + 1) n1 b1 f) (h30 : jI M 54 b = nI 30) (q1 : ¬ sg i = 15) (q2 : ¬ sg i = 16) (h1 : sg i = 23 → ∀ M' n2, MF M M' n b → MT t e A B so bb wo M' (i + 1) l n2 b o → mD (jI M' 52) (jI M' 53) n n2 f → Q 2 M') (h0 : sg i ≠ 23 → ∀ M', MF M M' n b → MB M' (A i) → Q 2 M') : wX12_behindTest 45 M Q := by
  have hs := h.1.1
  obtain ⟨p1, p2, p3⟩ := hP.wt
  have hinn : inn (jI M 54) b1 = 30 := by
    rw [inn_ext b1 p2 (fun k k1 k2 => by obtain ⟨q, q1, q3⟩ := p3 k k1 k2; rw [q3, li_30, nI_lt' (by omega) (by omega)]; omega), inn, if_neg (by rw [h30, li_30, nI_lt' (by omega) (by omega)]; omega), h30]; rfl
  refine bt_pick hx h (fun z => absurd z q2) (fun z => absurd z q1) (fun _ _ => sX12_inner h (h.A4 hx) ⟨fun _ => ⟨shA_45 hs, ?_⟩, fun z => absurd (hinn.symm.trans z) (by decide)⟩)
  refine sX12_isSign hx h (show ((41 : Int32), 23) ∈ mkT by decide) (fun z => ⟨shA_45 hs, MT.mustN h (by decide) (MT.next hx h (by omega) (fun M1 f1 k1 m1 a1 => ⟨shA_45 m1.1.1, fun y => absurd m1.2.2.1.1 y, fun _ => ?_⟩))⟩) (fun z => ⟨shA_45 hs, MT.mustB hx h (fun M1 f1 bb1 => ⟨shA_45 bb1.1.1, fun _ => h0 z M1 (f1.mono p1 (by omega)) bb1, fun y => ?_⟩)⟩)
  · unfold wX12_settle
    refine MT.setE (lv := 1) hx m1 (by omega) (f := f) (n := n) (b := b + 1) (by rw [f1.I 52 (by decide), f1.I 53 (by decide), f1.I 54 (by decide), f1.I 55 (by decide)]; exact hP) (BP.at (p := 30) (by rw [f1.I 54 (by decide)]; exact h30) (by omega) (by decide)) (fun M2 n2 f2 e54 m2 d2 => ⟨shA_45 m2.1.1, fun S3 e3 => ?_⟩)
    obtain ⟨_, _, ⟨g1, g2, g3, g4, g5⟩, ⟨q1, q2, q3, q4⟩, hpa⟩ := id m2
    rw [g4, nI_s1 (by omega), Nat.add_sub_cancel] at e3
    have f3 : jFr [45] M2 S3 := by rw [e3]; exact (jFr.refl _ _).uI (by decide)
    refine ⟨shA_45 (f3.sh.mpr m2.1.1), fun S4 e4 => ?_⟩
    have g5' : jI S3 45 24 = nI (o + 1) := by rw [e3]; simp only [jN_uI, jN_uJ, jN_uR, jK_uI, jK_uJ, jK_uR, jZ_uI, jZ_uJ, jZ_uR, jR_uI, jR_uJ, jr_uI, jr_uJ, jI_uJ, jI_uR, jJ_uI, jJ_uR, jI_uI_eq, jI_uI_ne, jJ_uJ_eq, jJ_uJ_ne, jSh_uI, jSh_uJ, jA_uI, jA_uJ, jA_uR, jI_uIf_eq, jI_uIf_ne, jJ_uIf, jR_uIf, jr_uIf, jZ_uIf, jSh_uIf, jA_uIf, ne_eq, not_false_eq_true, not_true_eq_false, reduceCtorEq, Nat.reduceEqDiff, forall_eq, true_and, and_true, true_implies, forall_const, implies_true, List.mem_cons, List.not_mem_nil, or_false, false_or, or_self, if_true, if_false, reduceIte, Nat.reduceAdd, Nat.reduceMul, Nat.reduceLT, false_implies, Decidable.not_not, bI_eq0, bI_eq1, upd_at, updL_at, Nat.succ_ne_zero, Int32.reduceToNatClampNeg, eq_self, i01, i10]; exact g5
    rw [g5', nI_s1 (by omega), Nat.add_sub_cancel] at e4
    have f4 : jFr [45] M2 S4 := by rw [e4]; exact f3.uI (by decide)
    have k4 : jFk 45 [23, 24] M2 S4 := by rw [e4, e3]; exact ((jFk.refl _ _ _).sI (by decide)).sI (by decide)
    refine h1 z S4 n2 (((MF.of45 f1 (k1.mono (by decide))).tr f2 (Nat.le_refl _) (by omega)).tr (MF.of45 (n := n) (b := b) f4 (k4.mono (by decide))) (Nat.le_refl _) (Nat.le_refl _)) (m2.st (f4.mono (by decide)) (k4.mono (by decide)) ?_ ?_ ?_ ?_ ?_ (by omega) q3 (by omega)) (by rw [f4.I 52 (by decide), f4.I 53 (by decide)]; exact d2)
    · rw [k4.I 17 (by decide)]; exact g2
    · rw [k4.I 20 (by decide)]; exact g3
    · rw [e4, e3]; simp only [jN_uI, jN_uJ, jN_uR, jK_uI, jK_uJ, jK_uR, jZ_uI, jZ_uJ, jZ_uR, jR_uI, jR_uJ, jr_uI, jr_uJ, jI_uJ, jI_uR, jJ_uI, jJ_uR, jI_uI_eq, jI_uI_ne, jJ_uJ_eq, jJ_uJ_ne, jSh_uI, jSh_uJ, jA_uI, jA_uJ, jA_uR, jI_uIf_eq, jI_uIf_ne, jJ_uIf, jR_uIf, jr_uIf, jZ_uIf, jSh_uIf, jA_uIf, ne_eq, not_false_eq_true, not_true_eq_false, reduceCtorEq, Nat.reduceEqDiff, forall_eq, true_and, and_true, true_implies, forall_const, implies_true, List.mem_cons, List.not_mem_nil, or_false, false_or, or_self, if_true, if_false, reduceIte, Nat.reduceAdd, Nat.reduceMul, Nat.reduceLT, false_implies, Decidable.not_not, bI_eq0, bI_eq1, upd_at, updL_at, Nat.succ_ne_zero, Int32.reduceToNatClampNeg, eq_self, i01, i10]
    · rw [e4]; simp only [jN_uI, jN_uJ, jN_uR, jK_uI, jK_uJ, jK_uR, jZ_uI, jZ_uJ, jZ_uR, jR_uI, jR_uJ, jr_uI, jr_uJ, jI_uJ, jI_uR, jJ_uI, jJ_uR, jI_uI_eq, jI_uI_ne, jJ_uJ_eq, jJ_uJ_ne, jSh_uI, jSh_uJ, jA_uI, jA_uJ, jA_uR, jI_uIf_eq, jI_uIf_ne, jJ_uIf, jR_uIf, jr_uIf, jZ_uIf, jSh_uIf, jA_uIf, ne_eq, not_false_eq_true, not_true_eq_false, reduceCtorEq, Nat.reduceEqDiff, forall_eq, true_and, and_true, true_implies, forall_const, implies_true, List.mem_cons, List.not_mem_nil, or_false, false_or, or_self, if_true, if_false, reduceIte, Nat.reduceAdd, Nat.reduceMul, Nat.reduceLT, false_implies, Decidable.not_not, bI_eq0, bI_eq1, upd_at, updL_at, Nat.succ_ne_zero, Int32.reduceToNatClampNeg, eq_self, i01, i10]
    · intro k hk; rw [f4.I 54 (by decide), f4.I 55 (by decide)]; exact hpa k (by omega)
  · rw [bb1.2.1] at y; exact absurd y (by decide)
end MBEH
