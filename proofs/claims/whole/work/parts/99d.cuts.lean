/-! THE CLASS CUTS THE WHOLE TAPE, AND STARTS TO READ -/
section CUTS
variable {t p e : Nat} {bb : Nat → Nat} {S S0 S1 : JS}
theorem skp_b (h : p < t) (hb : bb p = 32) : skp t bb p = skp t bb (p + 1) := by
  unfold skp
  rw [show t - p = (t - (p + 1)) + 1 by omega, rnE, if_pos (decide_eq_true ⟨h, hb⟩)]
theorem skp_n (h : p ≤ t) (hb : p < t → bb p ≠ 32) : skp t bb p = p := by
  unfold skp
  rcases Nat.lt_or_ge p t with z | z
  · rw [show t - p = (t - (p + 1)) + 1 by omega, rnE, if_neg (fun y => hb z (of_decide_eq_true y).2)]
  · rw [show t - p = 0 by omega, rnE]
theorem ct_roll {Q : JS → Prop} {x y : Int32} (h : ∀ K : Nat → Int32 → Int32 → JS → Prop, (∀ x' y' S', wX5_cutTokens_6 14 x' y' S' Q → K 14 x' y' S') → bX5_cutTokens_6 K 14 x y S Q) : wX5_cutTokens_6 14 x y S Q := by
  unfold wX5_cutTokens_6
  exact jLoop.roll (h _ (fun _ _ _ h => h))
def TkS (S : JS) (t : Nat) (bb : Nat → Nat) (i : Nat) : Prop := ∀ j, j < i → jI S 21 j = nI (sgP t bb (tkA t bb j) + 32 * vlP t bb (tkA t bb j)) ∧ jI S 22 j = nI (tkA t bb j)
theorem TkS.add {i : Nat} {a : Int32} {b : Int32} (h : TkS S t bb i) (ha : a = nI (sgP t bb (tkA t bb i) + 32 * vlP t bb (tkA t bb i))) (hb : b = nI (tkA t bb i)) : TkS (uI (uI S 21 i a) 22 i b) t bb (i + 1) := by
  intro j hj
  simp only [jN_uI, jN_uJ, jN_uR, jK_uI, jK_uJ, jK_uR, jZ_uI, jZ_uJ, jZ_uR, jR_uI, jR_uJ, jr_uI, jr_uJ, jI_uJ, jI_uR, jJ_uI, jJ_uR, jI_uI_eq, jI_uI_ne, jJ_uJ_eq, jJ_uJ_ne, jSh_uI, jSh_uJ, jA_uI, jA_uJ, jA_uR, jI_uIf_eq, jI_uIf_ne, jJ_uIf, jR_uIf, jr_uIf, jZ_uIf, jSh_uIf, jA_uIf, ne_eq, not_false_eq_true, not_true_eq_false, reduceCtorEq, Nat.reduceEqDiff, forall_eq, true_and, and_true, true_implies, forall_const, implies_true, List.mem_cons, List.not_mem_nil, or_false, false_or, or_self, if_true, if_false, reduceIte, Nat.reduceAdd, Nat.reduceMul, Nat.reduceLT, false_implies, Decidable.not_not, bI_eq0, bI_eq1, upd_at, updL_at, Nat.succ_ne_zero, Int32.reduceToNatClampNeg, eq_self, i01, i10]
  by_cases z : j = i
  · rw [if_pos z, if_pos z, z]; exact ⟨ha, hb⟩
  · rw [if_neg z, if_neg z]; exact h j (by omega)
theorem BYc.fr (h : BYc S t bb) (f : jFr [21, 22] S S1) : BYc S1 t bb := ⟨fun j hj => by rw [f.I 15 (by decide)]; exact h.1 j hj, h.2.1, by rw [f.I 14 (by decide)]; exact h.2.2⟩
theorem cut_go {Q : JS → Prop} (hs0 : jSh S0) (hb0 : BYc S0 t bb) (he : tkA t bb e = t) (hi : ∀ i, i < e → tkA t bb i < t) (hQ : ∀ S, jFr [21, 22] S0 S → TkS S t bb (e + 1) → Q S) : ∀ m x i S, x + m = t → i ≤ x → i ≤ e → skp t bb x = tkA t bb i → jFr [21, 22] S0 S → TkS S t bb i → wX5_cutTokens_6 14 (nI i) (nI x) S Q := by
  intro m
  induction m using Nat.strongRecOn with
  | ind m ih =>
    intro x i S e0 hix hie hsk f hT
    have hs := f.sh.mpr hs0
    have hb := hb0.fr f
    obtain ⟨hby, ht4, h1⟩ := id hb
    refine ct_roll (fun K hK => ?_)
    unfold bX5_cutTokens_6
    rw [h1, nI_le' (by omega) (by omega), li_400, nI_le' (by omega) (by omega)]
    refine ⟨shA_14 hs, fun z => ?_, fun z => ⟨fun z2 => by omega, fun _ => ?_⟩⟩
    · have xt : x = t := by omega
      have At : tkA t bb i = t := by rw [← hsk, xt]; exact skp_n (Nat.le_refl _) (fun y => absurd y (by omega))
      have ie : i = e := by
        rcases Nat.lt_or_ge i e with y | y
        · have := hi i y; omega
        · omega
      unfold wX5_cutTokens_44
      simp only [shA_14, shA_21, shZ_21, shA_22, shZ_22, shR_14_0, shr_14_0, shR_14_2, shr_14_2, shR_14_3, shr_14_3, shR_14_4, shr_14_4, shR_14_5, shr_14_5, shR_14_6, shr_14_6, shR_14_9, shr_14_9, shR_14_10, shr_14_10, hs, h1, jN_uI, jN_uJ, jN_uR, jK_uI, jK_uJ, jK_uR, jZ_uI, jZ_uJ, jZ_uR, jR_uI, jR_uJ, jr_uI, jr_uJ, jI_uJ, jI_uR, jJ_uI, jJ_uR, jI_uI_eq, jI_uI_ne, jJ_uJ_eq, jJ_uJ_ne, jSh_uI, jSh_uJ, jA_uI, jA_uJ, jA_uR, jI_uIf_eq, jI_uIf_ne, jJ_uIf, jR_uIf, jr_uIf, jZ_uIf, jSh_uIf, jA_uIf, ne_eq, not_false_eq_true, not_true_eq_false, reduceCtorEq, Nat.reduceEqDiff, forall_eq, true_and, and_true, true_implies, forall_const, implies_true, List.mem_cons, List.not_mem_nil, or_false, false_or, or_self, if_true, if_false, reduceIte, Nat.reduceAdd, Nat.reduceMul, Nat.reduceLT, false_implies, Decidable.not_not, bI_eq0, bI_eq1, upd_at, updL_at, Nat.succ_ne_zero, Int32.reduceToNatClampNeg, eq_self, i01, i10]
      rw [nI_tn (by omega)]
      refine ⟨nI_in2 (by omega) (by omega), nI_in2 (by omega) (by omega), hQ _ ((f.uI (by decide)).uI (by decide)) ?_⟩
      rw [← ie]
      refine hT.add ?_ (by rw [At])
      have e1 : sgP t bb (tkA t bb i) = 26 := by unfold sgP; rw [if_pos (by omega)]
      have e2 : vlP t bb (tkA t bb i) = 0 := by unfold vlP; rw [if_pos (by omega)]
      rw [e1, e2]; rfl
    · have xt : x < t := by omega
      have hbx := hby x xt
      obtain ⟨a1, a2, a3, _⟩ := tnd_spec (bb := bb) xt
      refine sX5_eot hs hb xt ?_
      simp only [shA_14, shA_15, shZ_15, shR_14_0, shr_14_0, shR_14_2, shr_14_2, shR_14_3, shr_14_3, shR_14_4, shr_14_4, shR_14_5, shr_14_5, shR_14_6, shr_14_6, shR_14_9, shr_14_9, shR_14_10, shr_14_10, hs, ne_eq, not_false_eq_true, not_true_eq_false, reduceCtorEq, Nat.reduceEqDiff, forall_eq, true_and, and_true, true_implies, forall_const, implies_true, List.mem_cons, List.not_mem_nil, or_false, false_or, or_self, if_true, if_false, reduceIte, Nat.reduceAdd, Nat.reduceMul, Nat.reduceLT, false_implies, Decidable.not_not, bI_eq0, bI_eq1, upd_at, updL_at, Nat.succ_ne_zero, Int32.reduceToNatClampNeg, eq_self, i01, i10]
      rw [nI_tn (by omega), hbx.1, show (32 : Int32) = nI 32 from rfl, nI_eq' (by omega) (by omega)]
      refine ⟨nI_in2 (by omega) (by omega), fun z32 => ?_, fun z32 => ?_⟩
      · have c : cls (bb x) = 3 := by rw [z32]; rfl
        unfold wX5_cutTokens_37
        intro x18 e18
        rw [a3 c, nI_1, if_neg (by rw [nI_lt' (by omega) (by omega)]; omega)] at e18
        rw [e18]
        exact hK _ _ _ (ih (m - 1) (by omega) (x + 1) i S (by omega) (by omega) hie (by rw [← skp_b xt z32]; exact hsk) f hT)
      · have ex : skp t bb x = x := skp_n (by omega) (fun _ => z32)
        have Ax : tkA t bb i = x := by rw [← hsk]; exact ex
        have ie : i < e := by
          rcases Nat.lt_or_ge i e with y | y
          · exact y
          · rw [show i = e by omega, he] at Ax; omega
        refine sX5_tok hs hb xt ?_
        simp only [shA_14, shA_21, shZ_21, shA_22, shZ_22, shR_14_0, shr_14_0, shR_14_2, shr_14_2, shR_14_3, shr_14_3, shR_14_4, shr_14_4, shR_14_5, shr_14_5, shR_14_6, shr_14_6, shR_14_9, shr_14_9, shR_14_10, shr_14_10, hs, jN_uI, jN_uJ, jN_uR, jK_uI, jK_uJ, jK_uR, jZ_uI, jZ_uJ, jZ_uR, jR_uI, jR_uJ, jr_uI, jr_uJ, jI_uJ, jI_uR, jJ_uI, jJ_uR, jI_uI_eq, jI_uI_ne, jJ_uJ_eq, jJ_uJ_ne, jSh_uI, jSh_uJ, jA_uI, jA_uJ, jA_uR, jI_uIf_eq, jI_uIf_ne, jJ_uIf, jR_uIf, jr_uIf, jZ_uIf, jSh_uIf, jA_uIf, ne_eq, not_false_eq_true, not_true_eq_false, reduceCtorEq, Nat.reduceEqDiff, forall_eq, true_and, and_true, true_implies, forall_const, implies_true, List.mem_cons, List.not_mem_nil, or_false, false_or, or_self, if_true, if_false, reduceIte, Nat.reduceAdd, Nat.reduceMul, Nat.reduceLT, false_implies, Decidable.not_not, bI_eq0, bI_eq1, upd_at, updL_at, Nat.succ_ne_zero, Int32.reduceToNatClampNeg, eq_self, i01, i10]
        rw [nI_tn (by omega), nI_1]
        refine ⟨nI_in2 (by omega) (by omega), nI_in2 (by omega) (by omega), ?_⟩
        unfold wX5_cutTokens_37
        intro x18 e18
        have em : (if nI (x + 1) < nI (tnd t bb x) then nI (tnd t bb x) else nI (x + 1)) = nI (tnd t bb x) := by
          by_cases y : x + 1 < tnd t bb x
          · rw [if_pos ((nI_lt' (by omega) (by omega)).mpr y)]
          · rw [if_neg (fun z => y ((nI_lt' (by omega) (by omega)).mp z)), show x + 1 = tnd t bb x by omega]
        rw [nI_1, em] at e18
        rw [e18]
        refine hK _ _ _ (ih (t - tnd t bb x) (by omega) (tnd t bb x) (i + 1) _ (by omega) (by omega) ie ?_ ((f.uI (by decide)).uI (by decide)) (hT.add (by rw [Ax]) (by rw [Ax])))
        rw [tkA, Ax]
/-- the class's reader from its start to the first clause -/
theorem c_start {Q : Option Nat → JS → Prop} {D : Nat} (hs : jSh S) (hb : BYc S t bb) (he : tkA t bb e = t) (hi : ∀ i, i < e → tkA t bb i < t) (hQ : ∀ S', jFr [14, 21, 22] S S' → jFk 14 [7, 8, 11, 12, 13] S S' → CC e (tkA t bb) (fun i => sgP t bb (tkA t bb i)) (fun i => vlP t bb (tkA t bb i)) S' 0 0 0 0 → jCall jmt jbud (D - 1) 35 [.ref 14] S' (jqI (fun r14 S13 => wX5_readLaw_19 (jCall jmt jbud (D - 1)) 14 r14 0 S13 Q))) : wX5_readLaw (jCall jmt jbud (D - 1)) 14 S Q := by
  have ok := tk_ok (e := e) hb.2.1 he hi
  have het := ok.1.1
  have ht4 := hb.2.1
  unfold wX5_readLaw
  refine ⟨shA_14 hs, fun S2 e2 => ?_⟩
  have f2 : jFr [14] S S2 := by rw [e2]; exact (jFr.refl _ _).uI (by decide)
  refine ⟨shA_14 (f2.sh.mpr hs), fun S4 e4 => ?_⟩
  have f4 : jFr [14] S S4 := by rw [e4]; exact f2.uI (by decide)
  refine ⟨shA_14 (f4.sh.mpr hs), fun S6 e6 => ?_⟩
  have f6 : jFr [14] S S6 := by rw [e6]; exact f4.uI (by decide)
  have k6 : jFk 14 [7, 8, 13] S S6 := by rw [e6, e4, e2]; exact (((jFk.refl _ _ _).sI (by decide)).sI (by decide)).sI (by decide)
  have g7 : jI S6 14 7 = 0 := by rw [e6, e4, e2]; simp only [jN_uI, jN_uJ, jN_uR, jK_uI, jK_uJ, jK_uR, jZ_uI, jZ_uJ, jZ_uR, jR_uI, jR_uJ, jr_uI, jr_uJ, jI_uJ, jI_uR, jJ_uI, jJ_uR, jI_uI_eq, jI_uI_ne, jJ_uJ_eq, jJ_uJ_ne, jSh_uI, jSh_uJ, jA_uI, jA_uJ, jA_uR, jI_uIf_eq, jI_uIf_ne, jJ_uIf, jR_uIf, jr_uIf, jZ_uIf, jSh_uIf, jA_uIf, ne_eq, not_false_eq_true, not_true_eq_false, reduceCtorEq, Nat.reduceEqDiff, forall_eq, true_and, and_true, true_implies, forall_const, implies_true, List.mem_cons, List.not_mem_nil, or_false, false_or, or_self, if_true, if_false, reduceIte, Nat.reduceAdd, Nat.reduceMul, Nat.reduceLT, false_implies, Decidable.not_not, bI_eq0, bI_eq1, upd_at, updL_at, Nat.succ_ne_zero, Int32.reduceToNatClampNeg, eq_self, i01, i10]
  have g8 : jI S6 14 8 = 0 := by rw [e6, e4]; simp only [jN_uI, jN_uJ, jN_uR, jK_uI, jK_uJ, jK_uR, jZ_uI, jZ_uJ, jZ_uR, jR_uI, jR_uJ, jr_uI, jr_uJ, jI_uJ, jI_uR, jJ_uI, jJ_uR, jI_uI_eq, jI_uI_ne, jJ_uJ_eq, jJ_uJ_ne, jSh_uI, jSh_uJ, jA_uI, jA_uJ, jA_uR, jI_uIf_eq, jI_uIf_ne, jJ_uIf, jR_uIf, jr_uIf, jZ_uIf, jSh_uIf, jA_uIf, ne_eq, not_false_eq_true, not_true_eq_false, reduceCtorEq, Nat.reduceEqDiff, forall_eq, true_and, and_true, true_implies, forall_const, implies_true, List.mem_cons, List.not_mem_nil, or_false, false_or, or_self, if_true, if_false, reduceIte, Nat.reduceAdd, Nat.reduceMul, Nat.reduceLT, false_implies, Decidable.not_not, bI_eq0, bI_eq1, upd_at, updL_at, Nat.succ_ne_zero, Int32.reduceToNatClampNeg, eq_self, i01, i10]
  have g13 : jI S6 14 13 = 0 := by rw [e6]; simp only [jN_uI, jN_uJ, jN_uR, jK_uI, jK_uJ, jK_uR, jZ_uI, jZ_uJ, jZ_uR, jR_uI, jR_uJ, jr_uI, jr_uJ, jI_uJ, jI_uR, jJ_uI, jJ_uR, jI_uI_eq, jI_uI_ne, jJ_uJ_eq, jJ_uJ_ne, jSh_uI, jSh_uJ, jA_uI, jA_uJ, jA_uR, jI_uIf_eq, jI_uIf_ne, jJ_uIf, jR_uIf, jr_uIf, jZ_uIf, jSh_uIf, jA_uIf, ne_eq, not_false_eq_true, not_true_eq_false, reduceCtorEq, Nat.reduceEqDiff, forall_eq, true_and, and_true, true_implies, forall_const, implies_true, List.mem_cons, List.not_mem_nil, or_false, false_or, or_self, if_true, if_false, reduceIte, Nat.reduceAdd, Nat.reduceMul, Nat.reduceLT, false_implies, Decidable.not_not, bI_eq0, bI_eq1, upd_at, updL_at, Nat.succ_ne_zero, Int32.reduceToNatClampNeg, eq_self, i01, i10]
  have hs6 := f6.sh.mpr hs
  have hb6 : BYc S6 t bb := ⟨fun j hj => by rw [f6.I 15 (by decide)]; exact hb.1 j hj, hb.2.1, by rw [k6.I 1 (by decide)]; exact hb.2.2⟩
  refine ⟨shA_14 hs6, ?_⟩
  unfold wX5_cutTokens
  refine cut_go hs6 hb6 he hi (fun S7 f7 hT => ?_) t 0 0 S6 (by omega) (by omega) (by omega) rfl (jFr.refl _ _) (fun j hj => by omega)
  have hs7 := f7.sh.mpr hs6
  refine ⟨shA_14 hs7, ?_⟩
  unfold wX5_goTo
  refine ⟨fun z => absurd z (by decide), fun _ => ⟨fun z => absurd z (by decide), fun _ => ?_⟩⟩
  have s27 := ok.sg27 (i := 0) (by omega)
  have t0 := hT 0 (by omega)
  simp only [shA_14, shA_21, shZ_21, shR_14_0, shr_14_0, shR_14_2, shr_14_2, shR_14_3, shr_14_3, shR_14_4, shr_14_4, shR_14_5, shr_14_5, shR_14_6, shr_14_6, shR_14_9, shr_14_9, shR_14_10, shr_14_10, hs7, jN_uI, jN_uJ, jN_uR, jK_uI, jK_uJ, jK_uR, jZ_uI, jZ_uJ, jZ_uR, jR_uI, jR_uJ, jr_uI, jr_uJ, jI_uJ, jI_uR, jJ_uI, jJ_uR, jI_uI_eq, jI_uI_ne, jJ_uJ_eq, jJ_uJ_ne, jSh_uI, jSh_uJ, jA_uI, jA_uJ, jA_uR, jI_uIf_eq, jI_uIf_ne, jJ_uIf, jR_uIf, jr_uIf, jZ_uIf, jSh_uIf, jA_uIf, ne_eq, not_false_eq_true, not_true_eq_false, reduceCtorEq, Nat.reduceEqDiff, forall_eq, true_and, and_true, true_implies, forall_const, implies_true, List.mem_cons, List.not_mem_nil, or_false, false_or, or_self, if_true, if_false, reduceIte, Nat.reduceAdd, Nat.reduceMul, Nat.reduceLT, false_implies, Decidable.not_not, bI_eq0, bI_eq1, upd_at, updL_at, Nat.succ_ne_zero, Int32.reduceToNatClampNeg, eq_self, i01, i10]
  rw [t0.1, wd_sg (by have h : sgP t bb (tkA t bb 0) ≤ 27 := s27; omega)]
  have f8 : jFr [14] S7 (uI (uI S7 14 11 0) 14 12 (nI (sgP t bb (tkA t bb 0)))) := ((jFr.refl _ _).uI (by decide)).uI (by decide)
  have k8 : jFk 14 [11, 12] S7 (uI (uI S7 14 11 0) 14 12 (nI (sgP t bb (tkA t bb 0)))) := ((jFk.refl _ _ _).sI (by decide)).sI (by decide)
  refine ⟨nI_in2 (n := 0) (by omega) (by omega), hQ _ ((f6.mono (by decide)).tr ((f7.mono (by decide)).tr (f8.mono (by decide)))) ((k6.mono (by decide)).tr ((jFk.of f7 (by decide)).tr (k8.mono (by decide)))) ⟨⟨f8.sh.mpr hs7, ⟨?_, ?_, ?_, ?_⟩, ⟨by omega, by omega, by omega⟩, fun j hj => ?_⟩, ?_⟩⟩
  · simp only [jN_uI, jN_uJ, jN_uR, jK_uI, jK_uJ, jK_uR, jZ_uI, jZ_uJ, jZ_uR, jR_uI, jR_uJ, jr_uI, jr_uJ, jI_uJ, jI_uR, jJ_uI, jJ_uR, jI_uI_eq, jI_uI_ne, jJ_uJ_eq, jJ_uJ_ne, jSh_uI, jSh_uJ, jA_uI, jA_uJ, jA_uR, jI_uIf_eq, jI_uIf_ne, jJ_uIf, jR_uIf, jr_uIf, jZ_uIf, jSh_uIf, jA_uIf, ne_eq, not_false_eq_true, not_true_eq_false, reduceCtorEq, Nat.reduceEqDiff, forall_eq, true_and, and_true, true_implies, forall_const, implies_true, List.mem_cons, List.not_mem_nil, or_false, false_or, or_self, if_true, if_false, reduceIte, Nat.reduceAdd, Nat.reduceMul, Nat.reduceLT, false_implies, Decidable.not_not, bI_eq0, bI_eq1, upd_at, updL_at, Nat.succ_ne_zero, Int32.reduceToNatClampNeg, eq_self, i01, i10]; rfl
  · simp only [jN_uI, jN_uJ, jN_uR, jK_uI, jK_uJ, jK_uR, jZ_uI, jZ_uJ, jZ_uR, jR_uI, jR_uJ, jr_uI, jr_uJ, jI_uJ, jI_uR, jJ_uI, jJ_uR, jI_uI_eq, jI_uI_ne, jJ_uJ_eq, jJ_uJ_ne, jSh_uI, jSh_uJ, jA_uI, jA_uJ, jA_uR, jI_uIf_eq, jI_uIf_ne, jJ_uIf, jR_uIf, jr_uIf, jZ_uIf, jSh_uIf, jA_uIf, ne_eq, not_false_eq_true, not_true_eq_false, reduceCtorEq, Nat.reduceEqDiff, forall_eq, true_and, and_true, true_implies, forall_const, implies_true, List.mem_cons, List.not_mem_nil, or_false, false_or, or_self, if_true, if_false, reduceIte, Nat.reduceAdd, Nat.reduceMul, Nat.reduceLT, false_implies, Decidable.not_not, bI_eq0, bI_eq1, upd_at, updL_at, Nat.succ_ne_zero, Int32.reduceToNatClampNeg, eq_self, i01, i10]
  · rw [k8.I 13 (by decide), f7.I 14 (by decide), g13]; rfl
  · rw [k8.I 8 (by decide), f7.I 14 (by decide), g8]; rfl
  · rw [f8.I 21 (by decide), f8.I 22 (by decide)]; exact hT j (by omega)
  · rw [k8.I 7 (by decide), f7.I 14 (by decide), g7]; rfl
end CUTS
