/-! THE MODEL'S BOATS -/
theorem i64_le {x y : Int32} : x.toInt64 ≤ y.toInt64 ↔ x ≤ y := by
  rw [Int64.le_iff_toInt_le, Int32.le_iff_toInt_le, Int32.toInt_toInt64, Int32.toInt_toInt64]
theorem sX12_in' {S : JS} {Q : Int32 → JS → Prop} {x : Int32} {lo hi : Int64} (a b : Int32) (ha : lo = a.toInt64) (hb : hi = b.toInt64) (h1 : a ≤ x → x ≤ b → Q 1 S) (h0 : ¬ (a ≤ x ∧ x ≤ b) → Q 0 S) : wX12_in x.toInt64 lo hi S Q := by
  subst ha hb
  unfold wX12_in
  rw [lg_cmp_lt, lg_cmp_gt]
  have e1 := i64_le (x := a) (y := x)
  have e2 := i64_le (x := x) (y := b)
  refine ⟨fun q => h0 (fun z => ?_), fun q => ⟨fun q2 => h0 (fun z => ?_), fun q2 => h1 (e1.mp (by lia)) (e2.mp (by lia))⟩⟩
  · have := e1.mpr z.1; lia
  · have := e2.mpr z.2; lia
theorem sX12_is {S : JS} {Q : Int32 → JS → Prop} {x : Int32} {k : Nat} (hk : k < 32) (h1 : bt x k = true → Q 1 S) (h0 : ¬ bt x k = true → Q 0 S) : wX12_is x (nI k) S Q := by
  unfold wX12_is
  rw [hb_iff hk]
  exact ⟨h0, h1⟩
theorem sX12_isWedding {S : JS} {Q : Int32 → JS → Prop} {r n : Nat} (hs : jSh S) (hm : MW S) (hn : n < 60) (h1 : gWd (jI S 47) r n → Q 1 S) (h0 : ¬ gWd (jI S 47) r n → Q 0 S) : wX12_isWedding 45 (nI r) (nI n) S Q := by
  obtain ⟨w, w1, w2, w3⟩ := hm.1.2.2.2.2.1
  unfold wX12_isWedding wX12_isWedding_4
  refine jLoop.cnt w (fun c q => ∃ z, q = (45, nI r, nI n, z, nI c, S) ∧ ((z = 0 ∧ ∀ i, i < c → ¬ (jI S 47 (68 + 3 * i) = nI r ∧ jI S 47 (68 + 3 * i + 1) ≤ nI n ∧ nI n ≤ jI S 47 (68 + 3 * i + 2))) ∨ (z = 1 ∧ gWd (jI S 47) r n))) 0 (Nat.zero_le _) ?_ ⟨0, rfl, Or.inl ⟨rfl, fun i hi => absurd hi (Nat.not_lt_zero _)⟩⟩
  rintro c _ hc ⟨z, rfl, hi⟩
  unfold bX12_isWedding_4 wX12_isWedding_42 wX12_isWedding_44 wX12_isWedding_45
  simp only [shA_45, shA_47, shZ_47, shR_45_2, shr_45_2, shR_45_3, shr_45_3, shR_45_4, shr_45_4, shR_45_5, shr_45_5, shR_45_7, shr_45_7, shR_45_16, shr_45_16, shR_45_18, shr_45_18, shR_45_19, shr_45_19, shR_45_21, shr_45_21, shR_45_22, shr_45_22, shR_45_25, shr_45_25, shR_45_26, shr_45_26, shR_45_28, shr_45_28, shR_45_29, shr_45_29, shR_45_33, shr_45_33, shR_45_34, shr_45_34, shR_45_35, shr_45_35, shR_45_36, shr_45_36, shR_45_37, shr_45_37, shR_45_38, shr_45_38, shR_45_39, shr_45_39, shR_45_40, shr_45_40, shR_45_42, shr_45_42, hs, w2, ne_eq, not_false_eq_true, not_true_eq_false, reduceCtorEq, Nat.reduceEqDiff, forall_eq, true_and, and_true, true_implies, forall_const, implies_true, List.mem_cons, List.not_mem_nil, or_false, false_or, or_self, if_true, if_false, reduceIte, Nat.reduceAdd, Nat.reduceMul, Nat.reduceLT, false_implies, Decidable.not_not, bI_eq0, bI_eq1, upd_at, updL_at, Nat.succ_ne_zero, Int32.reduceToNatClampNeg]
  simp (disch := omega) only [li_0, li_1, li_2, li_3, li_4, li_5, li_6, li_7, li_8, li_9, li_10, li_11, li_12, li_13, li_14, li_15, li_16, li_17, li_18, li_19, li_20, li_21, li_22, li_23, li_24, li_25, li_26, li_27, li_31, li_32, li_45, li_47, li_48, li_50, li_57, li_58, li_59, li_60, li_63, li_64, li_68, li_69, li_70, li_80, li_90, li_91, li_93, li_96, li_97, li_98, li_99, li_100, li_122, li_140, li_141, li_142, li_188, li_200, li_255, li_400, li_511, li_512, li_900, li_1000, li_4320, li_4608, li_5600, li_1000000, nI_add, nI_mul, nI_le', nI_lt', nI_eq', nI_tn, nI_inT, nI_sub, nI_eqm1, nI_ltm, ne_eq, not_false_eq_true, not_true_eq_false, reduceCtorEq, Nat.reduceEqDiff, forall_eq, true_and, and_true, true_implies, forall_const, implies_true, List.mem_cons, List.not_mem_nil, or_false, false_or, or_self, if_true, if_false, reduceIte, Nat.reduceAdd, Nat.reduceMul, Nat.reduceLT, false_implies, Decidable.not_not, bI_eq0, bI_eq1, upd_at, updL_at, Nat.succ_ne_zero, Int32.reduceToNatClampNeg]
  refine ⟨fun q => ?_, fun q => ⟨fun q2 => ?_, fun q2 => ?_⟩⟩
  · rcases hi with ⟨e, hi⟩ | ⟨e, hi⟩ <;> subst e
    · refine ⟨Or.inl rfl, h0 ?_⟩
      rintro ⟨i, i1, i2⟩
      rw [w2, nI_tn (by omega)] at i1
      exact hi i (by omega) i2
    · exact ⟨Or.inr rfl, h1 hi⟩
  · rcases hi with ⟨e, hi⟩ | ⟨e, hi⟩
    · exact absurd e q2
    · exact ⟨by omega, 1, rfl, Or.inr ⟨rfl, hi⟩⟩
  · rcases hi with ⟨e, hi⟩ | ⟨e, hi⟩
    · have nx : ¬ (jI S 47 (68 + 3 * c) = nI r ∧ jI S 47 (68 + 3 * c + 1) ≤ nI n ∧ nI n ≤ jI S 47 (68 + 3 * c + 2)) → ∀ i, i < c + 1 → ¬ (jI S 47 (68 + 3 * i) = nI r ∧ jI S 47 (68 + 3 * i + 1) ≤ nI n ∧ nI n ≤ jI S 47 (68 + 3 * i + 2)) := by
        intro z i i1
        rcases Nat.lt_or_ge i c with l | l
        · exact hi i l
        · have : i = c := by omega
          subst this; exact z
      refine ⟨fun q3 => ⟨by omega, 0, rfl, Or.inl ⟨rfl, nx (fun y => q3 y.1)⟩⟩, fun q3 => ?_⟩
      refine sX12_in' _ _ rfl rfl (fun q4 q5 => ⟨fun z => absurd z (by decide), fun _ => ⟨by omega, 1, rfl, Or.inr ⟨rfl, c, by rw [w2, nI_tn (by omega)]; omega, q3, q4, q5⟩⟩⟩) (fun q4 => ⟨fun _ => ⟨by omega, 0, rfl, Or.inl ⟨rfl, nx (fun y => q4 y.2)⟩⟩, fun z => absurd rfl z⟩)
    · exact absurd (e.symm.trans q2) (by decide)
theorem sX12_isBoat {S : JS} {Q : Int32 → JS → Prop} {a b n : Nat} (hs : jSh S) (hm : MW S) (hn : n < 60) (h1 : gGo (jI S 47) n a b → ∀ S', jFr [45, 58, 59] S S' → jFk 45 [27, 30, 31, 32] S S' → Q 1 S') (h0 : ¬ gGo (jI S 47) n a b → ∀ S', jFr [45, 58, 59] S S' → jFk 45 [27, 30, 31, 32] S S' → Q 0 S') : wX12_isBoat 45 (nI a) (nI b) (nI n) S Q := by
  unfold wX12_isBoat
  simp only [shA_45, shA_47, shZ_47, shR_45_2, shr_45_2, shR_45_3, shr_45_3, shR_45_4, shr_45_4, shR_45_5, shr_45_5, shR_45_7, shr_45_7, shR_45_16, shr_45_16, shR_45_18, shr_45_18, shR_45_19, shr_45_19, shR_45_21, shr_45_21, shR_45_22, shr_45_22, shR_45_25, shr_45_25, shR_45_26, shr_45_26, shR_45_28, shr_45_28, shR_45_29, shr_45_29, shR_45_33, shr_45_33, shR_45_34, shr_45_34, shR_45_35, shr_45_35, shR_45_36, shr_45_36, shR_45_37, shr_45_37, shR_45_38, shr_45_38, shR_45_39, shr_45_39, shR_45_40, shr_45_40, shR_45_42, shr_45_42, hs, ne_eq, not_false_eq_true, not_true_eq_false, reduceCtorEq, Nat.reduceEqDiff, forall_eq, true_and, and_true, true_implies, forall_const, implies_true, List.mem_cons, List.not_mem_nil, or_false, false_or, or_self, if_true, if_false, reduceIte, Nat.reduceAdd, Nat.reduceMul, Nat.reduceLT, false_implies, Decidable.not_not, bI_eq0, bI_eq1, upd_at, updL_at, Nat.succ_ne_zero, Int32.reduceToNatClampNeg]
  simp (disch := omega) only [li_8, nI_add, nI_inT, nI_tn, ne_eq, not_false_eq_true, not_true_eq_false, reduceCtorEq, Nat.reduceEqDiff, forall_eq, true_and, and_true, true_implies, forall_const, implies_true, List.mem_cons, List.not_mem_nil, or_false, false_or, or_self, if_true, if_false, reduceIte, Nat.reduceAdd, Nat.reduceMul, Nat.reduceLT, false_implies, Decidable.not_not, bI_eq0, bI_eq1, upd_at, updL_at, Nat.succ_ne_zero, Int32.reduceToNatClampNeg]
  refine ⟨fun q => h0 (fun z => q z.1) S (jFr.refl _ _) (jFk.refl _ _ _), fun q => ?_⟩
  refine sX12_isWedding hs hm hn (fun hw => ⟨fun _ => h0 (fun z => z.2.1 hw) S (jFr.refl _ _) (jFk.refl _ _ _), fun z => absurd z (by decide)⟩) (fun hw => ⟨fun z => absurd rfl z, fun _ => ⟨shA_45 hs, ?_⟩⟩)
  refine sX12_tells hs hn hm.lf (fun S1 f1 k1 => ⟨fun z => h0 (fun y => z y.2.2) S1 f1 k1, fun z => h1 ⟨q, hw, z⟩ S1 f1 k1⟩)
def nxOk (S : JS) (m : Nat) : Prop := ∀ n a, n < m → a < gR (jI S 47) → stOk (jI S 47) n a (jI S 60 (9 * n + a))
theorem sX12_layOut {S : JS} {Q : JS → Prop} (hs : jSh S) (hm : MW S) (h : ∀ S', jFr [45, 58, 59, 60] S S' → jFk 45 [27, 30, 31, 32] S S' → nxOk S' 59 → Q S') : wX12_layOut 45 S Q := by
  obtain ⟨R1, R2, R3⟩ := hm.1.1
  have rk : ∀ {S1 : JS} {Q : Int32 → JS → Prop}, jFr [45, 58, 59, 60] S S1 → Q (nI (gR (jI S 47))) S1 → wX12_rocks 45 S1 Q := by
    intro S1 Q f1 hq
    refine sX12_rocks (f1.sh.mpr hs) ?_
    rw [f1.I 47 (by decide), R3]; exact hq
  unfold wX12_layOut wX12_layOut_2
  refine jLoop.cnt 59 (fun n q => ∃ S', q = (45, nI n, S') ∧ jFr [45, 58, 59, 60] S S' ∧ jFk 45 [27, 30, 31, 32] S S' ∧ nxOk S' n) 0 (by omega) ?_ ⟨S, rfl, jFr.refl _ _, jFk.refl _ _ _, fun n a q => absurd q (Nat.not_lt_zero _)⟩
  rintro n _ hn ⟨S1, rfl, f1, k1, x1⟩
  unfold bX12_layOut_2
  simp only
  rw [li_59, nI_le' (by omega) (by omega)]
  refine ⟨fun q => h S1 f1 k1 (by rw [show n = 59 by omega] at x1; exact x1), fun q => ?_⟩
  unfold wX12_layOut_7
  refine jLoop.cnt (gR (jI S 47)) (fun a q => ∃ S', q = (45, nI n, nI a, S') ∧ jFr [45, 58, 59, 60] S S' ∧ jFk 45 [27, 30, 31, 32] S S' ∧ nxOk S' n ∧ ∀ b, b < a → stOk (jI S 47) n b (jI S' 60 (9 * n + b))) 0 (by omega) ?_ ⟨S1, rfl, f1, k1, x1, fun b q => absurd q (Nat.not_lt_zero _)⟩
  rintro a _ ha ⟨S2, rfl, f2, k2, x2, y2⟩
  have hs2 : jSh S2 := f2.sh.mpr hs
  have e47 : jI S2 47 = jI S 47 := f2.I 47 (by decide)
  unfold bX12_layOut_7
  refine ⟨shA_45 hs2, rk f2 ?_⟩
  rw [nI_le' (by omega) (by omega)]
  refine ⟨fun q2 => nm_r (nI_1 n) ⟨by omega, S2, rfl, f2, k2, fun m b m1 b1 => ?_⟩, fun q2 => ?_⟩
  · rw [e47] at b1 ⊢
    by_cases e : m = n
    · subst e; exact y2 b (by omega)
    · have := x2 m b (by omega) (by rw [e47]; exact b1); rw [e47] at this; exact this
  simp only [shA_45, shA_60, shZ_60, shR_45_2, shr_45_2, shR_45_3, shr_45_3, shR_45_4, shr_45_4, shR_45_5, shr_45_5, shR_45_7, shr_45_7, shR_45_16, shr_45_16, shR_45_18, shr_45_18, shR_45_19, shr_45_19, shR_45_21, shr_45_21, shR_45_22, shr_45_22, shR_45_25, shr_45_25, shR_45_26, shr_45_26, shR_45_28, shr_45_28, shR_45_29, shr_45_29, shR_45_33, shr_45_33, shR_45_34, shr_45_34, shR_45_35, shr_45_35, shR_45_36, shr_45_36, shR_45_37, shr_45_37, shR_45_38, shr_45_38, shR_45_39, shr_45_39, shR_45_40, shr_45_40, shR_45_42, shr_45_42, hs2, ne_eq, not_false_eq_true, not_true_eq_false, reduceCtorEq, Nat.reduceEqDiff, forall_eq, true_and, and_true, true_implies, forall_const, implies_true, List.mem_cons, List.not_mem_nil, or_false, false_or, or_self, if_true, if_false, reduceIte, Nat.reduceAdd, Nat.reduceMul, Nat.reduceLT, false_implies, Decidable.not_not, bI_eq0, bI_eq1, upd_at, updL_at, Nat.succ_ne_zero, Int32.reduceToNatClampNeg]
  simp (disch := omega) only [li_9, nI_add, nI_mul, nI_inT, nI_tn, ne_eq, not_false_eq_true, not_true_eq_false, reduceCtorEq, Nat.reduceEqDiff, forall_eq, true_and, and_true, true_implies, forall_const, implies_true, List.mem_cons, List.not_mem_nil, or_false, false_or, or_self, if_true, if_false, reduceIte, Nat.reduceAdd, Nat.reduceMul, Nat.reduceLT, false_implies, Decidable.not_not, bI_eq0, bI_eq1, upd_at, updL_at, Nat.succ_ne_zero, Int32.reduceToNatClampNeg]
  unfold wX12_layOut_24
  refine jLoop.cnt (gR (jI S 47)) (fun c q => ∃ S', q = (45, nI n, nI a, nI c, S') ∧ jFr [45, 58, 59, 60] S S' ∧ jFk 45 [27, 30, 31, 32] S S' ∧ nxOk S' n ∧ (∀ b, b < a → stOk (jI S 47) n b (jI S' 60 (9 * n + b))) ∧ ∀ i, i < 32 → (bt (jI S' 60 (9 * n + a)) i = true ↔ i = a ∨ (i < c ∧ gSl (jI S 47) n a i))) 0 (by omega) ?_ ⟨_, rfl, f2.uI (by decide), k2.oI (by decide), ?_, ?_, ?_⟩
  · rintro c _ hc ⟨S3, rfl, f3, k3, x3, y3, z3⟩
    have hs3 : jSh S3 := f3.sh.mpr hs
    have hm3 : MW S3 := hm.fr f3 (by decide) (by decide)
    have e47 : jI S3 47 = jI S 47 := f3.I 47 (by decide)
    unfold bX12_layOut_24
    refine ⟨shA_45 hs3, rk f3 ?_⟩
    rw [nI_le' (by omega) (by omega)]
    refine ⟨fun q3 => nm_r (nI_1 a) ⟨by omega, S3, rfl, f3, k3, x3, fun b hb => ?_⟩, fun q3 => ?_⟩
    · by_cases e : b = a
      · subst e
        intro i hi
        rw [z3 i hi]
        unfold gSt
        constructor
        · rintro (z | z)
          · exact Or.inl z
          · exact Or.inr z.2
        · rintro (z | z)
          · exact Or.inl z
          · exact Or.inr ⟨by have := z.2.1; omega, z⟩
      · exact y3 b (by omega)
    simp only [shA_45, shA_60, shZ_60, shR_45_2, shr_45_2, shR_45_3, shr_45_3, shR_45_4, shr_45_4, shR_45_5, shr_45_5, shR_45_7, shr_45_7, shR_45_16, shr_45_16, shR_45_18, shr_45_18, shR_45_19, shr_45_19, shR_45_21, shr_45_21, shR_45_22, shr_45_22, shR_45_25, shr_45_25, shR_45_26, shr_45_26, shR_45_28, shr_45_28, shR_45_29, shr_45_29, shR_45_33, shr_45_33, shR_45_34, shr_45_34, shR_45_35, shr_45_35, shR_45_36, shr_45_36, shR_45_37, shr_45_37, shR_45_38, shr_45_38, shR_45_39, shr_45_39, shR_45_40, shr_45_40, shR_45_42, shr_45_42, hs3, ne_eq, not_false_eq_true, not_true_eq_false, reduceCtorEq, Nat.reduceEqDiff, forall_eq, true_and, and_true, true_implies, forall_const, implies_true, List.mem_cons, List.not_mem_nil, or_false, false_or, or_self, if_true, if_false, reduceIte, Nat.reduceAdd, Nat.reduceMul, Nat.reduceLT, false_implies, Decidable.not_not, bI_eq0, bI_eq1, upd_at, updL_at, Nat.succ_ne_zero, Int32.reduceToNatClampNeg]
    simp (disch := omega) only [li_9, nI_add, nI_mul, nI_inT, nI_tn, nI_eq', ne_eq, not_false_eq_true, not_true_eq_false, reduceCtorEq, Nat.reduceEqDiff, forall_eq, true_and, and_true, true_implies, forall_const, implies_true, List.mem_cons, List.not_mem_nil, or_false, false_or, or_self, if_true, if_false, reduceIte, Nat.reduceAdd, Nat.reduceMul, Nat.reduceLT, false_implies, Decidable.not_not, bI_eq0, bI_eq1, upd_at, updL_at, Nat.succ_ne_zero, Int32.reduceToNatClampNeg]
    -- the cell grows by y
    have grow : ∀ S4 y, jFr [45, 58, 59, 60] S S4 → jFk 45 [27, 30, 31, 32] S S4 → jI S4 60 = jI S3 60 → (∀ i, i < 32 → (bt y i = true ↔ i = c ∧ c ≠ a ∧ gSl (jI S 47) n a c)) → ∀ X2 X7, wX12_layOut_51 X2 X7 (fun l0 l1 l2 l3 S_1 => c < gR (jI S 47) ∧ ∃ S', (l0, l1, l2, l3, S_1) = (45, nI n, nI a, nI (c + 1), S') ∧ jFr [45, 58, 59, 60] S S' ∧ jFk 45 [27, 30, 31, 32] S S' ∧ nxOk S' n ∧ (∀ b, b < a → stOk (jI S 47) n b (jI S' 60 (9 * n + b))) ∧ ∀ i, i < 32 → (bt (jI S' 60 (9 * n + a)) i = true ↔ i = a ∨ (i < c + 1 ∧ gSl (jI S 47) n a i))) 45 (nI n) (nI a) (nI c) y (jI S3 60 (9 * n + a)) (nI (9 * n + a)) 60 S4 Q := by
      intro S4 y f4 k4 e4 hy X2 X7
      have hs4 : jSh S4 := f4.sh.mpr hs
      unfold wX12_layOut_51
      simp only [shA_60, shZ_60, hs4, ne_eq, not_false_eq_true, not_true_eq_false, reduceCtorEq, Nat.reduceEqDiff, forall_eq, true_and, and_true, true_implies, forall_const, implies_true, List.mem_cons, List.not_mem_nil, or_false, false_or, or_self, if_true, if_false, reduceIte, Nat.reduceAdd, Nat.reduceMul, Nat.reduceLT, false_implies, Decidable.not_not, bI_eq0, bI_eq1, upd_at, updL_at, Nat.succ_ne_zero, Int32.reduceToNatClampNeg]
      simp (disch := omega) only [nI_inT, nI_tn, li_1, nI_add, ne_eq, not_false_eq_true, not_true_eq_false, reduceCtorEq, Nat.reduceEqDiff, forall_eq, true_and, and_true, true_implies, forall_const, implies_true, List.mem_cons, List.not_mem_nil, or_false, false_or, or_self, if_true, if_false, reduceIte, Nat.reduceAdd, Nat.reduceMul, Nat.reduceLT, false_implies, Decidable.not_not, bI_eq0, bI_eq1, upd_at, updL_at, Nat.succ_ne_zero, Int32.reduceToNatClampNeg]
      have e47 : jI S4 47 = jI S 47 := f4.I 47 (by decide)
      refine ⟨by omega, _, rfl, f4.uI (by decide), k4.oI (by decide), fun m b m1 b1 => ?_, fun b hb => ?_, fun i hi => ?_⟩
      · simp only [jN_uI, jN_uJ, jN_uR, jK_uI, jK_uJ, jK_uR, jZ_uI, jZ_uJ, jZ_uR, jR_uI, jR_uJ, jr_uI, jr_uJ, jI_uJ, jI_uR, jJ_uI, jJ_uR, jI_uI_eq, jI_uI_ne, jJ_uJ_eq, jJ_uJ_ne, jSh_uI, jSh_uJ, jA_uI, jA_uJ, jA_uR, jI_uIf_eq, jI_uIf_ne, jJ_uIf, jR_uIf, jr_uIf, jZ_uIf, jSh_uIf, jA_uIf, ne_eq, not_false_eq_true, not_true_eq_false, reduceCtorEq, Nat.reduceEqDiff, forall_eq, true_and, and_true, true_implies, forall_const, implies_true, List.mem_cons, List.not_mem_nil, or_false, false_or, or_self, if_true, if_false, reduceIte, Nat.reduceAdd, Nat.reduceMul, Nat.reduceLT, false_implies, Decidable.not_not, bI_eq0, bI_eq1, upd_at, updL_at, Nat.succ_ne_zero, Int32.reduceToNatClampNeg, e47] at b1 ⊢
        rw [if_neg (by omega), e4]
        have := x3 m b m1 (by rw [f3.I 47 (by decide)]; exact b1)
        rw [f3.I 47 (by decide)] at this; exact this
      · simp only [jN_uI, jN_uJ, jN_uR, jK_uI, jK_uJ, jK_uR, jZ_uI, jZ_uJ, jZ_uR, jR_uI, jR_uJ, jr_uI, jr_uJ, jI_uJ, jI_uR, jJ_uI, jJ_uR, jI_uI_eq, jI_uI_ne, jJ_uJ_eq, jJ_uJ_ne, jSh_uI, jSh_uJ, jA_uI, jA_uJ, jA_uR, jI_uIf_eq, jI_uIf_ne, jJ_uIf, jR_uIf, jr_uIf, jZ_uIf, jSh_uIf, jA_uIf, ne_eq, not_false_eq_true, not_true_eq_false, reduceCtorEq, Nat.reduceEqDiff, forall_eq, true_and, and_true, true_implies, forall_const, implies_true, List.mem_cons, List.not_mem_nil, or_false, false_or, or_self, if_true, if_false, reduceIte, Nat.reduceAdd, Nat.reduceMul, Nat.reduceLT, false_implies, Decidable.not_not, bI_eq0, bI_eq1, upd_at, updL_at, Nat.succ_ne_zero, Int32.reduceToNatClampNeg]
        rw [if_neg (by omega), e4]; exact y3 b hb
      · simp only [jN_uI, jN_uJ, jN_uR, jK_uI, jK_uJ, jK_uR, jZ_uI, jZ_uJ, jZ_uR, jR_uI, jR_uJ, jr_uI, jr_uJ, jI_uJ, jI_uR, jJ_uI, jJ_uR, jI_uI_eq, jI_uI_ne, jJ_uJ_eq, jJ_uJ_ne, jSh_uI, jSh_uJ, jA_uI, jA_uJ, jA_uR, jI_uIf_eq, jI_uIf_ne, jJ_uIf, jR_uIf, jr_uIf, jZ_uIf, jSh_uIf, jA_uIf, ne_eq, not_false_eq_true, not_true_eq_false, reduceCtorEq, Nat.reduceEqDiff, forall_eq, true_and, and_true, true_implies, forall_const, implies_true, List.mem_cons, List.not_mem_nil, or_false, false_or, or_self, if_true, if_false, reduceIte, Nat.reduceAdd, Nat.reduceMul, Nat.reduceLT, false_implies, Decidable.not_not, bI_eq0, bI_eq1, upd_at, updL_at, Nat.succ_ne_zero, Int32.reduceToNatClampNeg]
        rw [b_or, Bool.or_eq_true, z3 i hi, hy i hi]
        constructor
        · rintro ((z | z) | z)
          · exact Or.inl z
          · exact Or.inr ⟨by omega, z.2⟩
          · exact Or.inr ⟨by omega, by rw [z.1]; exact z.2.2⟩
        · rintro (z | z)
          · exact Or.inl (Or.inl z)
          · rcases Nat.lt_or_ge i c with l | l
            · exact Or.inl (Or.inr ⟨l, z.2⟩)
            · have : i = c := by omega
              subst this
              exact Or.inr ⟨rfl, z.2.2.2.1, z.2⟩
    unfold wX12_layOut_50
    refine ⟨fun q4 => grow S3 0 f3 k3 rfl (fun i hi => ?_) _ _, fun q4 => ?_⟩
    · rw [b_0]; exact ⟨fun z => by (cases z), fun z => absurd q4.symm z.2.1⟩
    · refine sX12_isBoat hs3 hm3 (by omega) (fun hg S4 f4 g4 => ?_) (fun hg S4 f4 g4 => ?_)
      · refine ⟨fun z => absurd z (by decide), fun _ => grow S4 _ (f3.tr (f4.mono (by decide))) (k3.tr g4) (f4.I 60 (by decide)) (fun i hi => ?_) _ _⟩
        rw [b_one (by omega) hi, decide_eq_true_iff]
        rw [e47] at hg
        exact ⟨fun z => ⟨z, fun y => q4 y.symm, by omega, by omega, fun y => q4 y.symm, by omega, hg⟩, fun z => z.1⟩
      · refine ⟨fun _ => grow S4 0 (f3.tr (f4.mono (by decide))) (k3.tr g4) (f4.I 60 (by decide)) (fun i hi => ?_) _ _, fun z => absurd rfl z⟩
        rw [e47] at hg
        rw [b_0]; exact ⟨fun z => by (cases z), fun z => absurd z.2.2.2.2.2.2 hg⟩
  · intro m b m1 b1
    simp only [jN_uI, jN_uJ, jN_uR, jK_uI, jK_uJ, jK_uR, jZ_uI, jZ_uJ, jZ_uR, jR_uI, jR_uJ, jr_uI, jr_uJ, jI_uJ, jI_uR, jJ_uI, jJ_uR, jI_uI_eq, jI_uI_ne, jJ_uJ_eq, jJ_uJ_ne, jSh_uI, jSh_uJ, jA_uI, jA_uJ, jA_uR, jI_uIf_eq, jI_uIf_ne, jJ_uIf, jR_uIf, jr_uIf, jZ_uIf, jSh_uIf, jA_uIf, ne_eq, not_false_eq_true, not_true_eq_false, reduceCtorEq, Nat.reduceEqDiff, forall_eq, true_and, and_true, true_implies, forall_const, implies_true, List.mem_cons, List.not_mem_nil, or_false, false_or, or_self, if_true, if_false, reduceIte, Nat.reduceAdd, Nat.reduceMul, Nat.reduceLT, false_implies, Decidable.not_not, bI_eq0, bI_eq1, upd_at, updL_at, Nat.succ_ne_zero, Int32.reduceToNatClampNeg] at b1 ⊢
    rw [if_neg (by rw [e47] at b1; omega)]; exact x2 m b m1 b1
  · intro b hb
    simp only [jN_uI, jN_uJ, jN_uR, jK_uI, jK_uJ, jK_uR, jZ_uI, jZ_uJ, jZ_uR, jR_uI, jR_uJ, jr_uI, jr_uJ, jI_uJ, jI_uR, jJ_uI, jJ_uR, jI_uI_eq, jI_uI_ne, jJ_uJ_eq, jJ_uJ_ne, jSh_uI, jSh_uJ, jA_uI, jA_uJ, jA_uR, jI_uIf_eq, jI_uIf_ne, jJ_uIf, jR_uIf, jr_uIf, jZ_uIf, jSh_uIf, jA_uIf, ne_eq, not_false_eq_true, not_true_eq_false, reduceCtorEq, Nat.reduceEqDiff, forall_eq, true_and, and_true, true_implies, forall_const, implies_true, List.mem_cons, List.not_mem_nil, or_false, false_or, or_self, if_true, if_false, reduceIte, Nat.reduceAdd, Nat.reduceMul, Nat.reduceLT, false_implies, Decidable.not_not, bI_eq0, bI_eq1, upd_at, updL_at, Nat.succ_ne_zero, Int32.reduceToNatClampNeg]
    rw [if_neg (by omega)]; exact y2 b hb
  · intro i hi
    simp only [jN_uI, jN_uJ, jN_uR, jK_uI, jK_uJ, jK_uR, jZ_uI, jZ_uJ, jZ_uR, jR_uI, jR_uJ, jr_uI, jr_uJ, jI_uJ, jI_uR, jJ_uI, jJ_uR, jI_uI_eq, jI_uI_ne, jJ_uJ_eq, jJ_uJ_ne, jSh_uI, jSh_uJ, jA_uI, jA_uJ, jA_uR, jI_uIf_eq, jI_uIf_ne, jJ_uIf, jR_uIf, jr_uIf, jZ_uIf, jSh_uIf, jA_uIf, ne_eq, not_false_eq_true, not_true_eq_false, reduceCtorEq, Nat.reduceEqDiff, forall_eq, true_and, and_true, true_implies, forall_const, implies_true, List.mem_cons, List.not_mem_nil, or_false, false_or, or_self, if_true, if_false, reduceIte, Nat.reduceAdd, Nat.reduceMul, Nat.reduceLT, false_implies, Decidable.not_not, bI_eq0, bI_eq1, upd_at, updL_at, Nat.succ_ne_zero, Int32.reduceToNatClampNeg]
    rw [b_one (by omega) hi, decide_eq_true_iff]
    exact ⟨Or.inl, fun z => by rcases z with z | z; exact z; exact absurd z.1 (Nat.not_lt_zero _)⟩
