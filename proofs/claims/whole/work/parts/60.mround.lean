def dnOk (S : JS) (T last m : Nat) : Prop := ∀ n r s, m ≤ n → n ≤ last → r < gR (jI S 47) → s < 512 → bz (gBd (jI S 47) T last (last - n) r s) (jI S 64 (4608 * n + (512 * r + s)))
theorem sX12_findDone {S : JS} {Q : JS → Prop} {T n0 last : Nat} (hs : jSh S) (hm : MW S) (hT2 : T < 512) (hl : last < 60) (hnl : n0 ≤ last) (hx : nxOk S 59) (h : ∀ S', jFr [64] S S' → dnOk S' T last n0 → Q S') : wX12_findDone 45 (nI n0) (nI last) (nI T) S Q := by
  obtain ⟨R1, R2, R3⟩ := hm.1.1
  unfold wX12_findDone wX12_findDone_2
  refine jLoop.cnt (last + 1 - n0) (fun j q => ∃ S', q = (45, nI n0, nI last, nI T, nI (last + 1 - j) - 1, S') ∧ jFr [64] S S' ∧ dnOk S' T last (last + 1 - j)) 0 (by omega) ?_ ⟨S, by rw [nI_m1 (by omega)]; rfl, jFr.refl _ _, fun n r s q1 q2 => by omega⟩
  rintro j _ hj ⟨S1, rfl, f1, g1⟩
  obtain ⟨n, hn0⟩ : ∃ n, last + 1 - j = n := ⟨_, rfl⟩
  rw [hn0] at g1 ⊢
  unfold bX12_findDone_2
  simp only
  rcases Nat.lt_or_ge n0 n with l | l
  · obtain ⟨m, rfl⟩ : ∃ m, n = m + 1 := ⟨n - 1, by omega⟩
    have hn1 : last + 1 - (j + 1) = m := by omega
    rw [hn1, nI_m1 (by omega), show m + 1 - 1 = m by omega, nI_lt' (by omega) (by omega)]
    refine ⟨fun q => by omega, fun _ => ?_⟩
    unfold wX12_findDone_7
    refine jLoop.cnt (512 * gR (jI S 47)) (fun c q => ∃ S', q = (45, nI n0, nI last, nI T, nI m, nI c, S') ∧ jFr [64] S S' ∧ dnOk S' T last (m + 1) ∧ ∀ r s, r < gR (jI S 47) → s < 512 → 512 * r + s < c → bz (gBd (jI S 47) T last (last - m) r s) (jI S' 64 (4608 * m + (512 * r + s)))) 0 (by omega) ?_ ⟨S1, rfl, f1, g1, fun r s _ _ q => absurd q (Nat.not_lt_zero _)⟩
    rintro c _ hc ⟨S2, rfl, f2, g2, u2⟩
    have hs2 := f2.sh.mpr hs
    have e47 : jI S2 47 = jI S 47 := f2.I 47 (by decide)
    unfold bX12_findDone_7
    refine ⟨shA_45 hs2, rk_of hs hm f2 (by decide) ?_⟩
    rw [k_rem (by omega), li_512, nI_mul, nI_le' (by omega) (by omega), nI_eq' (by omega) (by omega), nI_eq' (by omega) (by omega)]
    refine ⟨fun q => nm_r (e' := nI m - 1) (by lia) ⟨by omega, S2, rfl, f2, fun n' r s q1 q2 q3 q4 => ?_⟩, fun q => ?_⟩
    · by_cases e : n' = m
      · subst e; rw [e47] at q3 ⊢; exact u2 r s q3 q4 (by omega)
      · exact g2 n' r s (by omega) q2 q3 q4
    have hc5 : c / 512 < gR (jI S 47) := by omega
    have fin : ∀ z, bz (gBd (jI S 47) T last (last - m) (c / 512) (c % 512)) z → ∀ X4, wX12_findDone_78 X4 (fun l0 l1 l2 l3 l4 l5 S_1 => c < 512 * gR (jI S 47) ∧ ∃ S', (l0, l1, l2, l3, l4, l5, S_1) = (45, nI n0, nI last, nI T, nI m, nI (c + 1), S') ∧ jFr [64] S S' ∧ dnOk S' T last (m + 1) ∧ ∀ r s, r < gR (jI S 47) → s < 512 → 512 * r + s < c + 1 → bz (gBd (jI S 47) T last (last - m) r s) (jI S' 64 (4608 * m + (512 * r + s)))) 45 (nI n0) (nI last) (nI T) (nI m) (nI c) z S2 Q := by
      intro z hz X4
      unfold wX12_findDone_78
      simp only [shA_45, shA_64, shZ_64, shR_45_2, shr_45_2, shR_45_3, shr_45_3, shR_45_4, shr_45_4, shR_45_5, shr_45_5, shR_45_7, shr_45_7, shR_45_16, shr_45_16, shR_45_18, shr_45_18, shR_45_19, shr_45_19, shR_45_21, shr_45_21, shR_45_22, shr_45_22, shR_45_25, shr_45_25, shR_45_26, shr_45_26, shR_45_28, shr_45_28, shR_45_29, shr_45_29, shR_45_33, shr_45_33, shR_45_34, shr_45_34, shR_45_35, shr_45_35, shR_45_36, shr_45_36, shR_45_37, shr_45_37, shR_45_38, shr_45_38, shR_45_39, shr_45_39, shR_45_40, shr_45_40, shR_45_42, shr_45_42, hs2, ne_eq, not_false_eq_true, not_true_eq_false, reduceCtorEq, Nat.reduceEqDiff, forall_eq, true_and, and_true, true_implies, forall_const, implies_true, List.mem_cons, List.not_mem_nil, or_false, false_or, or_self, if_true, if_false, reduceIte, Nat.reduceAdd, Nat.reduceMul, Nat.reduceLT, false_implies, Decidable.not_not, bI_eq0, bI_eq1, upd_at, updL_at, Nat.succ_ne_zero, Int32.reduceToNatClampNeg, eq_self, i01, i10]
      simp (disch := omega) only [li_4608, nI_add, nI_mul, nI_inT, nI_tn, li_1, ne_eq, not_false_eq_true, not_true_eq_false, reduceCtorEq, Nat.reduceEqDiff, forall_eq, true_and, and_true, true_implies, forall_const, implies_true, List.mem_cons, List.not_mem_nil, or_false, false_or, or_self, if_true, if_false, reduceIte, Nat.reduceAdd, Nat.reduceMul, Nat.reduceLT, false_implies, Decidable.not_not, bI_eq0, bI_eq1, upd_at, updL_at, Nat.succ_ne_zero, Int32.reduceToNatClampNeg, eq_self, i01, i10]
      refine ⟨hz.bit, by omega, _, rfl, f2.uI (by decide), fun n' r s q1 q2 q3 q4 => ?_, fun r s q3 q4 q5 => ?_⟩
      · simp only [jN_uI, jN_uJ, jN_uR, jK_uI, jK_uJ, jK_uR, jZ_uI, jZ_uJ, jZ_uR, jR_uI, jR_uJ, jr_uI, jr_uJ, jI_uJ, jI_uR, jJ_uI, jJ_uR, jI_uI_eq, jI_uI_ne, jJ_uJ_eq, jJ_uJ_ne, jSh_uI, jSh_uJ, jA_uI, jA_uJ, jA_uR, jI_uIf_eq, jI_uIf_ne, jJ_uIf, jR_uIf, jr_uIf, jZ_uIf, jSh_uIf, jA_uIf, ne_eq, not_false_eq_true, not_true_eq_false, reduceCtorEq, Nat.reduceEqDiff, forall_eq, true_and, and_true, true_implies, forall_const, implies_true, List.mem_cons, List.not_mem_nil, or_false, false_or, or_self, if_true, if_false, reduceIte, Nat.reduceAdd, Nat.reduceMul, Nat.reduceLT, false_implies, Decidable.not_not, bI_eq0, bI_eq1, upd_at, updL_at, Nat.succ_ne_zero, Int32.reduceToNatClampNeg, eq_self, i01, i10, e47] at q3 ⊢
        rw [if_neg (by omega)]
        have := g2 n' r s q1 q2 (by rw [e47]; exact q3) q4; rw [e47] at this; exact this
      · simp only [jN_uI, jN_uJ, jN_uR, jK_uI, jK_uJ, jK_uR, jZ_uI, jZ_uJ, jZ_uR, jR_uI, jR_uJ, jr_uI, jr_uJ, jI_uJ, jI_uR, jJ_uI, jJ_uR, jI_uI_eq, jI_uI_ne, jJ_uJ_eq, jJ_uJ_ne, jSh_uI, jSh_uJ, jA_uI, jA_uJ, jA_uR, jI_uIf_eq, jI_uIf_ne, jJ_uIf, jR_uIf, jr_uIf, jZ_uIf, jSh_uIf, jA_uIf, ne_eq, not_false_eq_true, not_true_eq_false, reduceCtorEq, Nat.reduceEqDiff, forall_eq, true_and, and_true, true_implies, forall_const, implies_true, List.mem_cons, List.not_mem_nil, or_false, false_or, or_self, if_true, if_false, reduceIte, Nat.reduceAdd, Nat.reduceMul, Nat.reduceLT, false_implies, Decidable.not_not, bI_eq0, bI_eq1, upd_at, updL_at, Nat.succ_ne_zero, Int32.reduceToNatClampNeg, eq_self, i01, i10]
        split
        · rename_i e
          rw [show r = c / 512 by omega, show s = c % 512 by omega]; exact hz
        · exact u2 r s q3 q4 (by omega)
    unfold wX12_findDone_23 wX12_findDone_24
    rcases Nat.lt_or_ge m last with n1 | n1
    · obtain ⟨k, k1, k2, k3⟩ : ∃ k, last - m = k + 1 ∧ last - (m + 1) = k ∧ last - (k + 1) = m := ⟨last - m - 1, by omega, by omega, by omega⟩
      refine ⟨fun _ => ?_, fun q => by omega⟩
      have hxx := hx m (c / 512) (by omega) hc5
      unfold wX12_findDone_27
      refine jLoop.cnt (gR (jI S 47)) (fun d q => ∃ z, q = (45, nI n0, nI last, nI T, nI m, nI c, z, nI d, S2) ∧ bz (∃ p, p < d ∧ gSt (jI S 47) m (c / 512) p ∧ gBd (jI S 47) T last k p (ad T p (c % 512))) z) 0 (by omega) ?_ ⟨0, rfl, bz_00 (fun ⟨p, w, _⟩ => absurd w (Nat.not_lt_zero _))⟩
      rintro d _ hd ⟨z, rfl, hz⟩
      unfold bX12_findDone_27 wX12_findDone_74 wX12_findDone_75
      refine ⟨shA_45 hs2, rk_of hs hm f2 (by decide) ?_⟩
      rw [nI_le' (by omega) (by omega), nI_le' (by omega) (by omega)]
      refine ⟨fun z1 => fin z (hz.iff ?_) _, fun z1 => ⟨fun z2 => by omega, fun _ => ⟨fun z3 => fin z (Or.inl ?_) _, fun z3 => ?_⟩⟩⟩
      · rw [k1, gBd, k3]
        exact ⟨fun ⟨p, w, y⟩ => ⟨p, y⟩, fun ⟨p, y⟩ => ⟨p, by have := gSt_lt y.1 hc5; omega, y⟩⟩
      · rw [k1, gBd, k3]
        rcases hz with ⟨e, p, w, y⟩ | ⟨e, _⟩
        · exact ⟨e, p, y⟩
        · exact absurd e z3
      · have hno := hz.f z3
        simp only [shA_45, shA_60, shZ_60, shR_45_2, shr_45_2, shR_45_3, shr_45_3, shR_45_4, shr_45_4, shR_45_5, shr_45_5, shR_45_7, shr_45_7, shR_45_16, shr_45_16, shR_45_18, shr_45_18, shR_45_19, shr_45_19, shR_45_21, shr_45_21, shR_45_22, shr_45_22, shR_45_25, shr_45_25, shR_45_26, shr_45_26, shR_45_28, shr_45_28, shR_45_29, shr_45_29, shR_45_33, shr_45_33, shR_45_34, shr_45_34, shR_45_35, shr_45_35, shR_45_36, shr_45_36, shR_45_37, shr_45_37, shR_45_38, shr_45_38, shR_45_39, shr_45_39, shR_45_40, shr_45_40, shR_45_42, shr_45_42, hs2, f2.I 60 (by decide), ne_eq, not_false_eq_true, not_true_eq_false, reduceCtorEq, Nat.reduceEqDiff, forall_eq, true_and, and_true, true_implies, forall_const, implies_true, List.mem_cons, List.not_mem_nil, or_false, false_or, or_self, if_true, if_false, reduceIte, Nat.reduceAdd, Nat.reduceMul, Nat.reduceLT, false_implies, Decidable.not_not, bI_eq0, bI_eq1, upd_at, updL_at, Nat.succ_ne_zero, Int32.reduceToNatClampNeg, eq_self, i01, i10]
        simp (disch := omega) only [k_div, k_rem2, li_9, nI_add, nI_mul, nI_inT, nI_tn, ne_eq, not_false_eq_true, not_true_eq_false, reduceCtorEq, Nat.reduceEqDiff, forall_eq, true_and, and_true, true_implies, forall_const, implies_true, List.mem_cons, List.not_mem_nil, or_false, false_or, or_self, if_true, if_false, reduceIte, Nat.reduceAdd, Nat.reduceMul, Nat.reduceLT, false_implies, Decidable.not_not, bI_eq0, bI_eq1, upd_at, updL_at, Nat.succ_ne_zero, Int32.reduceToNatClampNeg, eq_self, i01, i10]
        refine ⟨by decide, sX12_is (by omega) (fun hb => ?_) (fun hb => ?_)⟩
        · have hst := (hxx d (by omega)).mp hb
          have hal := ad_lt (T := T) (p := d) (s := c % 512) hT2 (by omega)
          have hD := g2 (m + 1) d (ad T d (c % 512)) (by omega) (by omega) (by rw [e47]; omega) hal
          rw [e47, k2] at hD
          simp only [shA_45, shA_64, shZ_64, shR_45_2, shr_45_2, shR_45_3, shr_45_3, shR_45_4, shr_45_4, shR_45_5, shr_45_5, shR_45_7, shr_45_7, shR_45_16, shr_45_16, shR_45_18, shr_45_18, shR_45_19, shr_45_19, shR_45_21, shr_45_21, shR_45_22, shr_45_22, shR_45_25, shr_45_25, shR_45_26, shr_45_26, shR_45_28, shr_45_28, shR_45_29, shr_45_29, shR_45_33, shr_45_33, shR_45_34, shr_45_34, shR_45_35, shr_45_35, shR_45_36, shr_45_36, shR_45_37, shr_45_37, shR_45_38, shr_45_38, shR_45_39, shr_45_39, shR_45_40, shr_45_40, shR_45_42, shr_45_42, hs2, nI_ad (show d < 31 by omega), ne_eq, not_false_eq_true, not_true_eq_false, reduceCtorEq, Nat.reduceEqDiff, forall_eq, true_and, and_true, true_implies, forall_const, implies_true, List.mem_cons, List.not_mem_nil, or_false, false_or, or_self, if_true, if_false, reduceIte, Nat.reduceAdd, Nat.reduceMul, Nat.reduceLT, false_implies, Decidable.not_not, bI_eq0, bI_eq1, upd_at, updL_at, Nat.succ_ne_zero, Int32.reduceToNatClampNeg, eq_self, i01, i10]
          simp (disch := omega) only [li_512, li_4608, li_1, nI_add, nI_mul, nI_inT, nI_tn, ne_eq, not_false_eq_true, not_true_eq_false, reduceCtorEq, Nat.reduceEqDiff, forall_eq, true_and, and_true, true_implies, forall_const, implies_true, List.mem_cons, List.not_mem_nil, or_false, false_or, or_self, if_true, if_false, reduceIte, Nat.reduceAdd, Nat.reduceMul, Nat.reduceLT, false_implies, Decidable.not_not, bI_eq0, bI_eq1, upd_at, updL_at, Nat.succ_ne_zero, Int32.reduceToNatClampNeg, eq_self, i01, i10]
          rw [show 4608 * (m + 1) + 512 * d + ad T d (c % 512) = 4608 * (m + 1) + (512 * d + ad T d (c % 512)) by omega]
          refine ⟨fun z4 => ⟨by omega, _, rfl, bz_00 (fun ⟨p, w, y1, y2⟩ => ?_)⟩, fun z4 => ⟨by omega, _, rfl, bz_01 ⟨d, by omega, hst, hD.t z4⟩⟩⟩
          rcases Nat.lt_or_ge p d with l2 | l2
          · exact hno ⟨p, l2, y1, y2⟩
          · have : p = d := by omega
            subst this; exact hD.f z4 y2
        · simp (disch := omega) only [li_1, nI_add, ne_eq, not_false_eq_true, not_true_eq_false, reduceCtorEq, Nat.reduceEqDiff, forall_eq, true_and, and_true, true_implies, forall_const, implies_true, List.mem_cons, List.not_mem_nil, or_false, false_or, or_self, if_true, if_false, reduceIte, Nat.reduceAdd, Nat.reduceMul, Nat.reduceLT, false_implies, Decidable.not_not, bI_eq0, bI_eq1, upd_at, updL_at, Nat.succ_ne_zero, Int32.reduceToNatClampNeg, eq_self, i01, i10]
          refine ⟨by omega, _, rfl, bz_00 (fun ⟨p, w, y1, y2⟩ => ?_)⟩
          rcases Nat.lt_or_ge p d with l2 | l2
          · exact hno ⟨p, l2, y1, y2⟩
          · have : p = d := by omega
            subst this; exact hb ((hxx p (by omega)).mpr y1)
    · have : m = last := by omega
      subst this
      have go : ∀ z, bz (gBd (jI S 47) T m (m - m) (c / 512) (c % 512)) z → ∀ X4, wX12_findDone_27 X4 (fun l0 l1 l2 l3 l4 l5 S_1 => c < 512 * gR (jI S 47) ∧ ∃ S', (l0, l1, l2, l3, l4, l5, S_1) = (45, nI n0, nI m, nI T, nI m, nI (c + 1), S') ∧ jFr [64] S S' ∧ dnOk S' T m (m + 1) ∧ ∀ r s, r < gR (jI S 47) → s < 512 → 512 * r + s < c + 1 → bz (gBd (jI S 47) T m (m - m) r s) (jI S' 64 (4608 * m + (512 * r + s)))) 45 (nI n0) (nI m) (nI T) (nI m) (nI c) z 0 S2 Q := by
        intro z hz X4
        unfold wX12_findDone_27
        refine jLoop.roll ?_
        unfold bX12_findDone_27
        refine ⟨shA_45 hs2, rk_of hs hm f2 (by decide) ?_⟩
        exact ⟨fun _ => fin z hz _, fun _ => ⟨fun _ => fin z hz _, fun w => absurd ((nI_le' (by omega) (by omega)).mpr (Nat.le_refl _)) w⟩⟩
      rw [Nat.sub_self, gBd] at go
      refine ⟨fun q => absurd rfl q, fun _ => ⟨by decide, fun q2 => ?_, fun q2 => ?_⟩⟩
      · have := go 0 (bz_00 q2); rw [Nat.sub_self]; exact this _
      · have := go 1 (bz_01 q2); rw [Nat.sub_self]; exact this _
  · have : n = n0 := by omega
    subst this
    refine ⟨fun _ => h S1 f1 g1, fun q => absurd ?_ q⟩
    rcases Nat.eq_zero_or_pos n with z | z
    · rw [z]; decide
    · rw [nI_m1 z, nI_lt' (by omega) (by omega)]; omega
theorem rd_walk {S : JS} {Q : Int32 → JS → Prop} {T n0 r0 last i : Nat} (hs : jSh S) (hm : MW S) (hT2 : T < 512) (hl : last < 60) (hi : n0 + i ≤ last) (hr : r0 < gR (jI S 47)) (hx : nxOk S 59) (hd : dnOk S T last n0) (hb : gBd (jI S 47) T last (last - n0) r0 (T &&& 2 ^ r0)) (h : ∀ v g, gWk (jI S 47) T last n0 r0 i v g → Q (nI v) S) : wX12_round_65 45 (nI n0) (nI T) (nI i) (nI r0) (nI (T &&& 2 ^ r0)) (nI n0) S Q := by
  obtain ⟨R1, R2, R3⟩ := hm.1.1
  unfold wX12_round_65
  refine jLoop.cnt i (fun k q => ∃ v g, q = (45, nI n0, nI T, nI i, nI v, nI g, nI (n0 + k), S) ∧ gWk (jI S 47) T last n0 r0 k v g) 0 (by omega) ?_ ⟨r0, _, rfl, rfl, rfl⟩
  rintro k _ hk ⟨v, g, rfl, w1⟩
  obtain ⟨vR, g5, gb⟩ := gWk_ok hT2 hr (by omega) hb (by omega) w1
  unfold bX12_round_65
  simp only
  rw [nI_add, nI_le' (by omega) (by omega)]
  refine ⟨fun z => ?_, fun z => ?_⟩
  · have : k = i := by omega
    subst this; exact h v g w1
  obtain ⟨w, hw⟩ := gWn_ex (show n0 + k < last by omega) gb
  have wR := gSt_lt hw.1.1 vR
  have hxx := hx (n0 + k) v (by omega) vR
  unfold wX12_round_72
  refine jLoop.cnt w (fun d q => q = (45, nI n0, nI T, nI i, nI v, nI g, nI (n0 + k), nI d, S)) 0 (by omega) ?_ rfl
  rintro d _ hd2 rfl
  have skip : ¬ gWn (jI S 47) T last (n0 + k) v g d → d < w := by
    intro y
    rcases Nat.lt_or_ge d w with l | l
    · exact l
    · rw [show d = w by omega] at y; exact absurd hw.1 y
  have hal := ad_lt (T := T) (p := d) (s := g) hT2 g5
  have hD := hd (n0 + k + 1) d (ad T d g) (by omega) (by omega) (by omega) hal
  unfold bX12_round_72 wX12_round_104
  simp only [shA_45, shA_60, shZ_60, shR_45_2, shr_45_2, shR_45_3, shr_45_3, shR_45_4, shr_45_4, shR_45_5, shr_45_5, shR_45_7, shr_45_7, shR_45_16, shr_45_16, shR_45_18, shr_45_18, shR_45_19, shr_45_19, shR_45_21, shr_45_21, shR_45_22, shr_45_22, shR_45_25, shr_45_25, shR_45_26, shr_45_26, shR_45_28, shr_45_28, shR_45_29, shr_45_29, shR_45_33, shr_45_33, shR_45_34, shr_45_34, shR_45_35, shr_45_35, shR_45_36, shr_45_36, shR_45_37, shr_45_37, shR_45_38, shr_45_38, shR_45_39, shr_45_39, shR_45_40, shr_45_40, shR_45_42, shr_45_42, hs, ne_eq, not_false_eq_true, not_true_eq_false, reduceCtorEq, Nat.reduceEqDiff, forall_eq, true_and, and_true, true_implies, forall_const, implies_true, List.mem_cons, List.not_mem_nil, or_false, false_or, or_self, if_true, if_false, reduceIte, Nat.reduceAdd, Nat.reduceMul, Nat.reduceLT, false_implies, Decidable.not_not, bI_eq0, bI_eq1, upd_at, updL_at, Nat.succ_ne_zero, Int32.reduceToNatClampNeg, eq_self, i01, i10]
  simp (disch := omega) only [li_9, nI_add, nI_mul, nI_inT, nI_tn, ne_eq, not_false_eq_true, not_true_eq_false, reduceCtorEq, Nat.reduceEqDiff, forall_eq, true_and, and_true, true_implies, forall_const, implies_true, List.mem_cons, List.not_mem_nil, or_false, false_or, or_self, if_true, if_false, reduceIte, Nat.reduceAdd, Nat.reduceMul, Nat.reduceLT, false_implies, Decidable.not_not, bI_eq0, bI_eq1, upd_at, updL_at, Nat.succ_ne_zero, Int32.reduceToNatClampNeg, eq_self, i01, i10]
  refine sX12_is (by omega) (fun hb2 => ?_) (fun hb2 => ?_)
  · have hst := (hxx d (by omega)).mp hb2
    simp only [shA_45, shA_64, shZ_64, shR_45_2, shr_45_2, shR_45_3, shr_45_3, shR_45_4, shr_45_4, shR_45_5, shr_45_5, shR_45_7, shr_45_7, shR_45_16, shr_45_16, shR_45_18, shr_45_18, shR_45_19, shr_45_19, shR_45_21, shr_45_21, shR_45_22, shr_45_22, shR_45_25, shr_45_25, shR_45_26, shr_45_26, shR_45_28, shr_45_28, shR_45_29, shr_45_29, shR_45_33, shr_45_33, shR_45_34, shr_45_34, shR_45_35, shr_45_35, shR_45_36, shr_45_36, shR_45_37, shr_45_37, shR_45_38, shr_45_38, shR_45_39, shr_45_39, shR_45_40, shr_45_40, shR_45_42, shr_45_42, hs, nI_ad (show d < 31 by omega), ne_eq, not_false_eq_true, not_true_eq_false, reduceCtorEq, Nat.reduceEqDiff, forall_eq, true_and, and_true, true_implies, forall_const, implies_true, List.mem_cons, List.not_mem_nil, or_false, false_or, or_self, if_true, if_false, reduceIte, Nat.reduceAdd, Nat.reduceMul, Nat.reduceLT, false_implies, Decidable.not_not, bI_eq0, bI_eq1, upd_at, updL_at, Nat.succ_ne_zero, Int32.reduceToNatClampNeg, eq_self, i01, i10]
    simp (disch := omega) only [li_512, li_4608, li_1, nI_add, nI_mul, nI_inT, nI_tn, ne_eq, not_false_eq_true, not_true_eq_false, reduceCtorEq, Nat.reduceEqDiff, forall_eq, true_and, and_true, true_implies, forall_const, implies_true, List.mem_cons, List.not_mem_nil, or_false, false_or, or_self, if_true, if_false, reduceIte, Nat.reduceAdd, Nat.reduceMul, Nat.reduceLT, false_implies, Decidable.not_not, bI_eq0, bI_eq1, upd_at, updL_at, Nat.succ_ne_zero, Int32.reduceToNatClampNeg, eq_self, i01, i10]
    rw [show 4608 * (n0 + k + 1) + 512 * d + ad T d g = 4608 * (n0 + k + 1) + (512 * d + ad T d g) by omega]
    refine ⟨fun z3 => ⟨by omega, d, _, rfl, v, g, w1, ?_, rfl⟩, fun z3 => skip (fun y => hD.f z3 y.2)⟩
    rcases Nat.lt_or_ge d w with l | l
    · exact absurd ⟨hst, hD.t z3⟩ (hw.2 d l)
    · rw [show d = w by omega]; exact hw
  · simp (disch := omega) only [li_1, nI_add, ne_eq, not_false_eq_true, not_true_eq_false, reduceCtorEq, Nat.reduceEqDiff, forall_eq, true_and, and_true, true_implies, forall_const, implies_true, List.mem_cons, List.not_mem_nil, or_false, false_or, or_self, if_true, if_false, reduceIte, Nat.reduceAdd, Nat.reduceMul, Nat.reduceLT, false_implies, Decidable.not_not, bI_eq0, bI_eq1, upd_at, updL_at, Nat.succ_ne_zero, Int32.reduceToNatClampNeg, eq_self, i01, i10]
    exact skip (fun y => hb2 ((hxx d (by omega)).mpr y.1))
theorem q_round {S : JS} {Q : Int32 → JS → Prop} {x y z w : Int32} (hI : Inv S) (hq : ∀ r S1, Mdl (wX12_round 45 x y z w) S r S1 → Q r S1) : wX11_round 0 x y z w S Q := by
  have hs := hI.1
  have hm := hI.2.1
  obtain ⟨R1, R2, R3⟩ := hm.1.1
  have h2R : 2 ^ gR (jI S 47) ≤ 512 := Nat.pow_le_pow_right (n := 2) (by omega) R2
  have h2R1 : 1 ≤ 2 ^ gR (jI S 47) := Nat.one_le_two_pow
  have e0 : jI S 1 0 = nI (gR (jI S 47)) := hm.2.1.1.trans R3
  have e1s : (1 : Int32) <<< (nI (gR (jI S 47)) &&& 31) = nI (2 ^ gR (jI S 47)) := one_shl _ (by omega)
  have no : (¬ (0 ≤ x ∧ x < jI S 47 0) ∨ ¬ (0 ≤ y ∧ y ≤ 59) ∨ ¬ (0 ≤ z ∧ z < nI (2 ^ gR (jI S 47))) ∨ ¬ (-1 ≤ w)) → Q (-1) S := by
    intro hx
    refine hq _ _ ⟨hs, fun Q' hq' => ?_⟩
    unfold wX12_round
    simp only [shA_45 hs, jN_uI, jN_uJ, jN_uR, jK_uI, jK_uJ, jK_uR, jZ_uI, jZ_uJ, jZ_uR, jR_uI, jR_uJ, jr_uI, jr_uJ, jI_uJ, jI_uR, jJ_uI, jJ_uR, jI_uI_eq, jI_uI_ne, jJ_uJ_eq, jJ_uJ_ne, jSh_uI, jSh_uJ, jA_uI, jA_uJ, jA_uR, jI_uIf_eq, jI_uIf_ne, jJ_uIf, jR_uIf, jr_uIf, jZ_uIf, jSh_uIf, jA_uIf, ne_eq, not_false_eq_true, not_true_eq_false, reduceCtorEq, Nat.reduceEqDiff, forall_eq, true_and, and_true, true_implies, forall_const, implies_true, List.mem_cons, List.not_mem_nil, or_false, false_or, or_self, if_true, if_false, reduceIte, Nat.reduceAdd, Nat.reduceMul, Nat.reduceLT, false_implies, Decidable.not_not, bI_eq0, bI_eq1, upd_at, updL_at, Nat.succ_ne_zero, Int32.reduceToNatClampNeg, eq_self, i01, i10]
    have hI0 := hI.t0
    have fin := hq' _ hI0 (Nat.le_add_right _ _)
    refine sX12_isRock hI0.1 hI0.2.1 (fun a ha ea => ⟨fun q => absurd q (by decide), fun _ => ?_⟩) (fun _ => ⟨fun _ => fin, fun q => absurd rfl q⟩)
    refine sX12_isNight (fun n hn en => ⟨fun q => absurd q (by decide), fun _ => ⟨shA_45 hs, ?_⟩⟩) (fun _ => ⟨fun _ => fin, fun q => absurd rfl q⟩)
    refine rk_of (S := S) (H := [45]) hs hm ((jFr.refl _ _).uI (by decide)) (by decide) ?_
    rw [e1s]
    refine sX12_in' 0 (nI (2 ^ gR (jI S 47) - 1)) rfl ?_ (fun z1 z2 => ⟨fun q => absurd q (by decide), fun _ => ⟨fun z3 => ?_, fun _ => fin⟩⟩) (fun _ => ⟨fun _ => fin, fun q => absurd rfl q⟩)
    · rw [nI_toL (by omega), nI_toL (by omega), show (1 : Int64) = lN 1 from rfl, lN_sub h2R1]
    rcases hx with hx | hx | hx | hx
    · exact absurd (by rw [ea]; exact rock_of hm.1 ha) hx
    · exact absurd (en ▸ ex59 hn) hx
    · refine absurd ⟨z1, ?_⟩ hx
      obtain ⟨t, ht, rfl⟩ := nI_of (show ¬ z < 0 by lia)
      have := (nI_leI ht (by omega)).mp z2
      exact (nI_ltI ht (by omega)).mpr (by omega)
    · exact absurd z3 hx
  unfold wX11_round
  simp only [shA_0, shA_1, shR_0_0, shr_0_0, shR_0_1, shr_0_1, shR_0_2, shr_0_2, shR_0_3, shr_0_3, shR_0_4, shr_0_4, shR_0_5, shr_0_5, shR_0_6, shr_0_6, shR_0_7, shr_0_7, shR_0_8, shr_0_8, shR_0_9, shr_0_9, shR_1_4, shr_1_4, shR_1_5, shr_1_5, shR_1_6, shr_1_6, shR_1_9, shr_1_9, shR_1_11, shr_1_11, hs, ne_eq, not_false_eq_true, not_true_eq_false, reduceCtorEq, Nat.reduceEqDiff, forall_eq, true_and, and_true, true_implies, forall_const, implies_true, List.mem_cons, List.not_mem_nil, or_false, false_or, or_self, if_true, if_false, reduceIte, Nat.reduceAdd, Nat.reduceMul, Nat.reduceLT, false_implies, Decidable.not_not, bI_eq0, bI_eq1, upd_at, updL_at, Nat.succ_ne_zero, Int32.reduceToNatClampNeg, eq_self, i01, i10]
  refine sX9_hasRock' hs hm (fun r hr er => ⟨fun q => absurd q (by decide), fun _ => ?_⟩) (fun hx => ⟨fun _ => no (Or.inl hx), fun q => absurd rfl q⟩)
  refine sX11_isNight (fun n hn en => ⟨fun q => absurd q (by decide), fun _ => ⟨fun h1 => ⟨fun h2 => no (Or.inr (Or.inr (Or.inl (fun q => by have := q.1; lia)))), fun h2 => ?_⟩, fun h1 => no (Or.inr (Or.inr (Or.inr h1)))⟩⟩) (fun hx => ⟨fun _ => no (Or.inr (Or.inl hx)), fun q => absurd rfl q⟩)
  simp only [shA_0, shA_1, shA_23, shR_0_0, shr_0_0, shR_0_1, shr_0_1, shR_0_2, shr_0_2, shR_0_3, shr_0_3, shR_0_4, shr_0_4, shR_0_5, shr_0_5, shR_0_6, shr_0_6, shR_0_7, shr_0_7, shR_0_8, shr_0_8, shR_0_9, shr_0_9, shR_1_4, shr_1_4, shR_1_5, shr_1_5, shR_1_6, shr_1_6, shR_1_9, shr_1_9, shR_1_11, shr_1_11, shR_23_0, shr_23_0, shR_23_1, shr_23_1, shR_23_2, shr_23_2, hs, e0, e1s, ne_eq, not_false_eq_true, not_true_eq_false, reduceCtorEq, Nat.reduceEqDiff, forall_eq, true_and, and_true, true_implies, forall_const, implies_true, List.mem_cons, List.not_mem_nil, or_false, false_or, or_self, if_true, if_false, reduceIte, Nat.reduceAdd, Nat.reduceMul, Nat.reduceLT, false_implies, Decidable.not_not, bI_eq0, bI_eq1, upd_at, updL_at, Nat.succ_ne_zero, Int32.reduceToNatClampNeg, eq_self, i01, i10]
  refine ⟨fun h3 => ?_, fun h3 => no (Or.inr (Or.inr (Or.inl (fun q => h3 q.2))))⟩
  obtain ⟨T, hT0, rfl⟩ := nI_of h2
  have hTR : T < 2 ^ gR (jI S 47) := (nI_ltI hT0 (by omega)).mp h3
  have hT2 : T < 512 := by omega
  subst er en
  refine sX1_learnAll (b := 59) hs hm hI.2.2.1 hn (by omega) (fun S1 f1 B1 s1 => ?_)
  have hs1 := f1.sh.mpr hs
  have hm1 : MW S1 := hm.fr f1 (by decide) (by decide)
  have e1 : jI S1 47 = jI S 47 := f1.I 47 (by decide)
  simp only [shA_0, shA_23, shA_35, shR_0_0, shr_0_0, shR_0_1, shr_0_1, shR_0_2, shr_0_2, shR_0_3, shr_0_3, shR_0_4, shr_0_4, shR_0_5, shr_0_5, shR_0_6, shr_0_6, shR_0_7, shr_0_7, shR_0_8, shr_0_8, shR_0_9, shr_0_9, shR_23_0, shr_23_0, shR_23_1, shr_23_1, shR_23_2, shr_23_2, shR_35_0, shr_35_0, hs1, ne_eq, not_false_eq_true, not_true_eq_false, reduceCtorEq, Nat.reduceEqDiff, forall_eq, true_and, and_true, true_implies, forall_const, implies_true, List.mem_cons, List.not_mem_nil, or_false, false_or, or_self, if_true, if_false, reduceIte, Nat.reduceAdd, Nat.reduceMul, Nat.reduceLT, false_implies, Decidable.not_not, bI_eq0, bI_eq1, upd_at, updL_at, Nat.succ_ne_zero, Int32.reduceToNatClampNeg, eq_self, i01, i10]
  refine sX6_earliest hs1 hm1 hT2 hn (by rw [e1]; exact hr) s1 (fun S2 v f2 hv => ?_)
  rw [e1] at hv
  have hs2 := f2.sh.mpr hs1
  have hm2 : MW S2 := hm1.fr f2 (by decide) (by decide)
  have e2 : jI S2 47 = jI S 47 := by rw [f2.I 47 (by decide), e1]
  have s2 : knS S2 n 60 := by unfold knS at s1 ⊢; rw [f2.I 47 (by decide), f2.I 27 (by decide)]; exact s1
  have B2 : BC S2 := B1.fr f2 (by decide)
  have f02 : jFr [24, 25, 26, 27, 35, 36] S S2 := (f1.mono (by decide)).tr (f2.mono (by decide))
  -- the model's road, from a state of the class
  have road : ∀ S3 u, jFr [24, 25, 26, 27, 35, 36] S S3 → BC S3 → (w = -1 → u = v) → (v = -1 → u = v) → (∀ k i, v = nI (n + k) → n + k ≤ 59 → w = nI i → i < 2147483648 → (k < i → u = -1) ∧ (i ≤ k → ∃ q g, gWk (jI S 47) T (n + k) n r i q g ∧ u = nI q)) → Q u S3 := by
    intro S1 u f3 B3 u1 u2 u3
    have hs1 := f3.sh.mpr hs
    have hI1 : Inv S1 := hI.c (f3.mono (by decide)) (jFk.of f3 (by decide)) B3 (hI.2.2.2.1.fr f3 (by decide) (by rw [f3.I 0 (by decide)]))
    have e3 : jI S1 47 = jI S 47 := f3.I 47 (by decide)
    have n3 : jN S1 = jN S := f3.N
    refine hq _ _ ⟨hs1, fun Q' hq' => ?_⟩
    unfold wX12_round
    simp only [shA_45 hs1, jN_uI, jN_uJ, jN_uR, jK_uI, jK_uJ, jK_uR, jZ_uI, jZ_uJ, jZ_uR, jR_uI, jR_uJ, jr_uI, jr_uJ, jI_uJ, jI_uR, jJ_uI, jJ_uR, jI_uI_eq, jI_uI_ne, jJ_uJ_eq, jJ_uJ_ne, jSh_uI, jSh_uJ, jA_uI, jA_uJ, jA_uR, jI_uIf_eq, jI_uIf_ne, jJ_uIf, jR_uIf, jr_uIf, jZ_uIf, jSh_uIf, jA_uIf, ne_eq, not_false_eq_true, not_true_eq_false, reduceCtorEq, Nat.reduceEqDiff, forall_eq, true_and, and_true, true_implies, forall_const, implies_true, List.mem_cons, List.not_mem_nil, or_false, false_or, or_self, if_true, if_false, reduceIte, Nat.reduceAdd, Nat.reduceMul, Nat.reduceLT, false_implies, Decidable.not_not, bI_eq0, bI_eq1, upd_at, updL_at, Nat.succ_ne_zero, Int32.reduceToNatClampNeg, eq_self, i01, i10]
    have hI0 : Inv (uI S1 45 0 0) := hI1.m ((jFr.refl _ _).uI (by decide)) ((jFk.refl _ _ _).sI (by decide))
    generalize eM : uI S1 45 0 0 = M at hI0 ⊢
    have eMI : ∀ h, h ≠ 45 → jI M h = jI S1 h := fun h hh => by rw [← eM]; exact jI_uI_ne hh
    have eMJ : jJ M = jJ S1 := by rw [← eM]; rfl
    have eMN : jN M = jN S1 := by rw [← eM]; rfl
    have hsM := hI0.1
    have hmM := hI0.2.1
    have eM47 : jI M 47 = jI S 47 := by rw [eMI 47 (by decide), e3]
    refine sX12_isRock hsM hmM (fun _ _ _ => ⟨fun q => absurd q (by decide), fun _ => ?_⟩) (fun hx => absurd (rock_of hmM.1 (by rw [eM47]; exact hr)) hx)
    refine sX12_isNight (fun _ _ _ => ⟨fun q => absurd q (by decide), fun _ => ⟨shA_45 hsM, ?_⟩⟩) (fun hx => absurd (ex59 hn) hx)
    refine rk_of (H := []) hsM hmM (jFr.refl _ _) (by decide) ?_
    rw [eM47, e1s]
    refine sX12_in' 0 (nI (2 ^ gR (jI S 47) - 1)) rfl ?_ (fun _ _ => ⟨fun q => absurd q (by decide), fun _ => ⟨fun _ => ⟨shA_45 hsM, ?_⟩, fun q => absurd h1 q⟩⟩) (fun hx => absurd ⟨nI_nn (by omega), (nI_le' (by omega) (by omega)).mpr (by omega)⟩ hx)
    · rw [nI_toL (by omega), nI_toL (by omega), show (1 : Int64) = lN 1 from rfl, lN_sub h2R1]
    refine sX12_layOut hsM hmM (fun S4 f4 k4 x4 => ?_)
    have hs4 := f4.sh.mpr hsM
    have hm4 : MW S4 := hmM.fr f4 (by decide) (by decide)
    have e4 : jI S4 47 = jI S 47 := by rw [f4.I 47 (by decide), eM47]
    refine ⟨shA_45 hs4, sX12_earliest hs4 hm4 hT2 (by rw [e4]; exact hr) hn x4 (fun S5 v' f5 hv' => ?_)⟩
    rw [e4] at hv'
    have := hv'.uniq hv
    subst this
    have hs5 := f5.sh.mpr hs4
    have hm5 : MW S5 := hm4.fr f5 (by decide) (by decide)
    have e5 : jI S5 47 = jI S 47 := by rw [f5.I 47 (by decide), e4]
    have hI5 : Inv S5 := hI0.m ((f4.mono (by decide)).tr (f5.mono (by decide))) ((k4.tr (jFk.of f5 (by decide))).mono (by decide))
    have n5 : jN S5 = jN S := by rw [f5.N, f4.N, eMN, n3]
    have fin5 : ∀ u', u = u' → Q' u' S5 := fun u' e => e ▸ hq' S5 hI5 (by omega)
    refine ⟨fun q => fin5 _ (u1 q), fun q => ⟨fun q2 => ?_, fun q2 => fin5 _ (u2 q2)⟩⟩
    obtain ⟨i, hi, rfl⟩ : ∃ i : Nat, i < 2147483648 ∧ w = nI i := nI_of (by lia)
    rcases hv with ⟨k, k1, k2, k3⟩ | ⟨_, k2⟩
    · subst k3
      obtain ⟨u4, u5⟩ := u3 k i rfl k2 rfl hi
      rw [nI_sub (by omega), show n + k - n = k by omega, nI_leI (by omega) (by omega)]
      refine ⟨fun q3 => ⟨shA_45 hs5, ?_⟩, fun q3 => fin5 _ (u4 (by omega))⟩
      obtain ⟨q', g', w1, w2⟩ := u5 q3
      have hB0 : gBd (jI S 47) T (n + k) (n + k - n) r (T &&& 2 ^ r) := by
        obtain ⟨q, q1⟩ := k1.1
        have := gRd_Bd (K := k) hT2 hr k q T (Nat.le_refl _) q1 (by rw [Nat.sub_self]; rfl)
        rw [show n + k - n = k by omega]; exact this
      refine sX12_findDone hs5 hm5 hT2 (show n + k < 60 by omega) (by omega) (x4.fr f5 (by decide)) (fun S6 f6 d6 => ?_)
      have hs6 := f6.sh.mpr hs5
      have hm6 : MW S6 := hm5.fr f6 (by decide) (by decide)
      have e6 : jI S6 47 = jI S 47 := by rw [f6.I 47 (by decide), e5]
      rw [nI_tp (by omega)]
      refine rd_walk hs6 hm6 hT2 (show n + k < 60 by omega) (by omega) (by rw [e6]; exact hr) ((x4.fr f5 (by decide)).fr f6 (by decide)) d6 (by rw [e6]; exact hB0) (fun a b ab => ?_)
      rw [e6] at ab
      obtain ⟨rfl, rfl⟩ := gWk_uniq ab w1
      rw [← w2]
      exact hq' S6 (hI5.m (f6.mono (by decide)) (jFk.of f6 (by decide))) (by rw [f6.N, n5]; omega)
    · exact absurd k2 q2
  refine ⟨fun q => ?_, fun q => ⟨fun q2 => ?_, fun q2 => ?_⟩⟩
  · refine road S2 v f02 B2 (fun _ => rfl) (fun _ => rfl) (fun k i e1 e2 => ?_)
    rw [q] at e1
    have := nI_nn (n := n + k) (by omega)
    rw [← e1] at this; exact absurd this (by decide)
  · rcases hv with ⟨k, k1, k2, k3⟩ | ⟨_, k2⟩
    · subst k3
      obtain ⟨i, hi, rfl⟩ : ∃ i : Nat, i < 2147483648 ∧ w = nI i := nI_of (by lia)
      rw [nI_sub (by omega), show n + k - n = k by omega, nI_leI (by omega) (by omega)]
      refine ⟨fun q3 => ?_, fun q3 => road S2 _ f02 B2 (fun e => absurd e q2) (fun e => absurd e q) (fun k' i' e3 e4 e5 e6 => ?_)⟩
      · have hB0 : gBd (jI S 47) T (n + k) (n + k - n) r (T &&& 2 ^ r) := by
          obtain ⟨q, q1⟩ := k1.1
          have := gRd_Bd (K := k) hT2 hr k q T (Nat.le_refl _) q1 (by rw [Nat.sub_self]; rfl)
          rw [show n + k - n = k by omega]; exact this
        simp only [shA_0, shA_23, shA_35, shR_0_0, shr_0_0, shR_0_1, shr_0_1, shR_0_2, shr_0_2, shR_0_3, shr_0_3, shR_0_4, shr_0_4, shR_0_5, shr_0_5, shR_0_6, shr_0_6, shR_0_7, shr_0_7, shR_0_8, shr_0_8, shR_0_9, shr_0_9, shR_23_0, shr_23_0, shR_23_1, shr_23_1, shR_23_2, shr_23_2, shR_35_0, shr_35_0, hs2, ne_eq, not_false_eq_true, not_true_eq_false, reduceCtorEq, Nat.reduceEqDiff, forall_eq, true_and, and_true, true_implies, forall_const, implies_true, List.mem_cons, List.not_mem_nil, or_false, false_or, or_self, if_true, if_false, reduceIte, Nat.reduceAdd, Nat.reduceMul, Nat.reduceLT, false_implies, Decidable.not_not, bI_eq0, bI_eq1, upd_at, updL_at, Nat.succ_ne_zero, Int32.reduceToNatClampNeg, eq_self, i01, i10]
        refine sX6_rockOfWay hs2 hm2 hT2 (show n + k < 60 by omega) (by omega) (by rw [e2]; exact hr) s2 (by rw [e2]; exact hB0) (fun S3 a b f3 ab => ?_)
        rw [e2] at ab
        refine road S3 _ (f02.tr (f3.mono (by decide))) (B2.fr f3 (by decide)) (fun e => absurd e q2) (fun e => absurd e q) (fun k' i' e3 e4 e5 e6 => ?_)
        have ek : k = k' := by have := (nI_eq' (a := n + k) (b := n + k') (by omega) (by omega)).mp e3; omega
        have ei : i = i' := (nI_eq (by omega) (by omega)).mp e5
        subst ek; subst ei
        exact ⟨fun e => by omega, fun _ => ⟨a, b, ab, rfl⟩⟩
      · have ek : k = k' := by have := (nI_eq' (a := n + k) (b := n + k') (by omega) (by omega)).mp e3; omega
        have ei : i = i' := (nI_eq (by omega) (by omega)).mp e5
        subst ek; subst ei
        exact ⟨fun _ => rfl, fun e => by omega⟩
    · exact absurd k2 q
  · refine road S2 v f02 B2 (fun _ => rfl) (fun _ => rfl) (fun k i e1 e2 e3 e4 => ?_)
    rw [q2] at e3
    have := nI_pos' (n := i) (by omega)
    rw [← e3] at this; exact absurd this (by decide)
