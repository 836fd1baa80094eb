/-! THE MODEL'S ROUNDS -/
theorem k_div {k : Nat} (h : k < 1000000) : nI k / 512 = nI (k / 512) := by
  rw [li_512]; exact pk_div (by omega) (by omega) (by omega)
theorem k_rem {k : Nat} (h : k < 1000000) : nI k - nI k / 512 * 512 = nI (k % 512) := by
  rw [li_512]; exact pk_rem (by omega) (by omega) (by omega)
theorem k_rem2 {k : Nat} (h : k < 1000000) : nI k - nI (k / 512) * 512 = nI (k % 512) := by rw [← k_div h, k_rem h]
/-- a row of booleans that tells P -/
def bz (P : Prop) (x : Int32) : Prop := (x = 1 ∧ P) ∨ (x = 0 ∧ ¬ P)
theorem bz.bit {P : Prop} {x : Int32} (h : bz P x) : jbit x := by rcases h with h | h; exact Or.inr h.1; exact Or.inl h.1
theorem bz.t {P : Prop} {x : Int32} (h : bz P x) (q : ¬ x = 0) : P := by rcases h with h | h; exact h.2; exact absurd h.1 q
theorem bz.f {P : Prop} {x : Int32} (h : bz P x) (q : x = 0) : ¬ P := by rcases h with h | h; rw [h.1] at q; exact absurd q (by decide); exact h.2
theorem bz.iff {P P' : Prop} {x : Int32} (h : bz P x) (e : P ↔ P') : bz P' x := by rcases h with h | h; exact Or.inl ⟨h.1, e.mp h.2⟩; exact Or.inr ⟨h.1, fun w => h.2 (e.mpr w)⟩
def nwOk (S : JS) (h : Nat) (P : Nat → Nat → Prop) : Prop := ∀ r s, r < 9 → s < 512 → bz (P r s) (jI S h (512 * r + s))
theorem bz_01 {P : Prop} (h : P) : bz P 1 := Or.inl ⟨rfl, h⟩
theorem bz_00 {P : Prop} (h : ¬ P) : bz P 0 := Or.inr ⟨rfl, h⟩
theorem em_step {S : JS} {Q : Int32 → JS → Prop} {T n r0 k : Nat} (hs : jSh S) (hm : MW S) (hT2 : T < 512) (hr : r0 < gR (jI S 47)) (hk : n + k < 59) (hx : nxOk S 59) (hN : nwOk S 65 (gRd (jI S 47) T n r0 k)) (hE : nwOk S 66 (fun _ _ => False)) {X27 : Nat → Int32 → Int32 → JS → Prop} (h : ∀ S', jFr [66] S S' → nwOk S' 66 (gRd (jI S 47) T n r0 (k + 1)) → wX12_earliest_117 X27 45 (nI T) (nI (n + k)) S' Q) : wX12_earliest_63 X27 45 (nI T) (nI (n + k)) 0 S Q := by
  obtain ⟨R1, R2, R3⟩ := hm.1.1
  unfold wX12_earliest_63
  refine jLoop.cnt (512 * gR (jI S 47)) (fun c q => ∃ S', q = (45, nI T, nI (n + k), nI c, S') ∧ jFr [66] S S' ∧ nwOk S' 66 (fun p t => ∃ j, j < c ∧ gRd (jI S 47) T n r0 k (j / 512) (j % 512) ∧ gSt (jI S 47) (n + k) (j / 512) p ∧ t = ad T p (j % 512))) 0 (by omega) ?_ ⟨S, rfl, jFr.refl _ _, fun r s a b => (hE r s a b).iff ⟨fun w => w.elim, fun ⟨j, w, _⟩ => absurd w (Nat.not_lt_zero _)⟩⟩
  rintro c _ hc ⟨S1, rfl, f1, b1⟩
  have hs1 := f1.sh.mpr hs
  unfold bX12_earliest_63
  refine ⟨shA_45 hs1, rk_of hs hm f1 (by decide) ?_⟩
  rw [li_512, nI_mul, nI_le' (by omega) (by omega), li_59, nI_le' (by omega) (by omega)]
  refine ⟨fun z => h S1 f1 (fun r s a b => (b1 r s a b).iff ?_), fun z => ⟨fun z2 => by omega, fun _ => ?_⟩⟩
  · rw [gRd]
    constructor
    · rintro ⟨j, j1, j2, j3, j4⟩
      exact ⟨j / 512, j % 512, by omega, j2, j3, j4⟩
    · rintro ⟨q, u, q1, q2, q3, q4⟩
      have := (gRd_lt hT2 hr q2).2
      refine ⟨512 * q + u, by omega, ?_⟩
      rw [show (512 * q + u) / 512 = q by omega, show (512 * q + u) % 512 = u by omega]
      exact ⟨q2, q3, q4⟩
  have hc5 : c / 512 < gR (jI S 47) := by omega
  have hN1 := hN (c / 512) (c % 512) (by omega) (by omega)
  rw [show 512 * (c / 512) + c % 512 = c by omega] at hN1
  have hxx := hx (n + k) (c / 512) (by omega) hc5
  have out : ∀ S2, jFr [66] S S2 → nwOk S2 66 (fun p t => ∃ j, j < c + 1 ∧ gRd (jI S 47) T n r0 k (j / 512) (j % 512) ∧ gSt (jI S 47) (n + k) (j / 512) p ∧ t = ad T p (j % 512)) → ∀ X, wX12_earliest_115 X (fun l0 l3 l4 l5 S_1 => c < 512 * gR (jI S 47) ∧ ∃ S', (l0, l3, l4, l5, S_1) = (45, nI T, nI (n + k), nI (c + 1), S') ∧ jFr [66] S S' ∧ nwOk S' 66 (fun p t => ∃ j, j < c + 1 ∧ gRd (jI S 47) T n r0 k (j / 512) (j % 512) ∧ gSt (jI S 47) (n + k) (j / 512) p ∧ t = ad T p (j % 512))) 45 (nI T) (nI (n + k)) (nI c) S2 Q := by
    intro S2 f2 b2 X
    unfold wX12_earliest_115
    rw [nI_1]
    exact nm_e ⟨by omega, S2, rfl, f2, b2⟩
  unfold wX12_earliest_74
  refine jLoop.cnt (gR (jI S 47)) (fun d q => ∃ S', q = (45, nI T, nI (n + k), nI c, nI d, S') ∧ jFr [66] S S' ∧ nwOk S' 66 (fun p t => ∃ j, (j < c ∨ (j = c ∧ p < d)) ∧ gRd (jI S 47) T n r0 k (j / 512) (j % 512) ∧ gSt (jI S 47) (n + k) (j / 512) p ∧ t = ad T p (j % 512))) 0 (by omega) ?_ ⟨S1, rfl, f1, fun r s a b => (b1 r s a b).iff ⟨fun ⟨j, w, y⟩ => ⟨j, Or.inl w, y⟩, fun ⟨j, w, y⟩ => ⟨j, by omega, y⟩⟩⟩
  rintro d _ hd ⟨S2, rfl, f2, b2⟩
  have hs2 := f2.sh.mpr hs
  unfold bX12_earliest_74 wX12_earliest_113
  refine ⟨shA_45 hs2, rk_of hs hm f2 (by decide) ?_⟩
  rw [nI_le' (by omega) (by omega)]
  refine ⟨fun z => out S2 f2 (fun r s a b => (b2 r s a b).iff ⟨fun ⟨j, w, y⟩ => ⟨j, by omega, y⟩, fun ⟨j, w, y⟩ => ⟨j, ?_, y⟩⟩) _, fun z => ?_⟩
  · rcases Nat.lt_or_ge j c with l | l
    · exact Or.inl l
    · have e : j = c := by omega
      refine Or.inr ⟨e, ?_⟩
      subst e
      have := gSt_lt y.2.1 hc5; omega
  simp only [shA_45, shA_60, shZ_60, shA_65, shZ_65, shR_45_2, shr_45_2, shR_45_3, shr_45_3, shR_45_4, shr_45_4, shR_45_5, shr_45_5, shR_45_7, shr_45_7, shR_45_16, shr_45_16, shR_45_18, shr_45_18, shR_45_19, shr_45_19, shR_45_21, shr_45_21, shR_45_22, shr_45_22, shR_45_25, shr_45_25, shR_45_26, shr_45_26, shR_45_28, shr_45_28, shR_45_29, shr_45_29, shR_45_33, shr_45_33, shR_45_34, shr_45_34, shR_45_35, shr_45_35, shR_45_36, shr_45_36, shR_45_37, shr_45_37, shR_45_38, shr_45_38, shR_45_39, shr_45_39, shR_45_40, shr_45_40, shR_45_42, shr_45_42, hs2, f2.I 65 (by decide), f2.I 60 (by decide), ne_eq, not_false_eq_true, not_true_eq_false, reduceCtorEq, Nat.reduceEqDiff, forall_eq, true_and, and_true, true_implies, forall_const, implies_true, List.mem_cons, List.not_mem_nil, or_false, false_or, or_self, if_true, if_false, reduceIte, Nat.reduceAdd, Nat.reduceMul, Nat.reduceLT, false_implies, Decidable.not_not, bI_eq0, bI_eq1, upd_at, updL_at, Nat.succ_ne_zero, Int32.reduceToNatClampNeg, eq_self, i01, i10]
  simp (disch := omega) only [k_div, k_rem2, li_9, nI_add, nI_mul, nI_inT, nI_tn, ne_eq, not_false_eq_true, not_true_eq_false, reduceCtorEq, Nat.reduceEqDiff, forall_eq, true_and, and_true, true_implies, forall_const, implies_true, List.mem_cons, List.not_mem_nil, or_false, false_or, or_self, if_true, if_false, reduceIte, Nat.reduceAdd, Nat.reduceMul, Nat.reduceLT, false_implies, Decidable.not_not, bI_eq0, bI_eq1, upd_at, updL_at, Nat.succ_ne_zero, Int32.reduceToNatClampNeg, eq_self, i01, i10]
  refine ⟨fun z2 => out S2 f2 (fun r s a b => (b2 r s a b).iff ⟨fun ⟨j, w, y⟩ => ⟨j, by omega, y⟩, fun ⟨j, w, y⟩ => ⟨j, ?_, y⟩⟩) _, fun z2 => ⟨by decide, ?_⟩⟩
  · rcases Nat.lt_or_ge j c with l | l
    · exact Or.inl l
    · have e : j = c := by omega
      subst e; exact absurd y.1 (hN1.f z2)
  · have hg := hN1.t z2
    refine sX12_is (by omega) (fun hb => ?_) (fun hb => ?_)
    · have hst := (hxx d (by omega)).mp hb
      have hal := ad_lt (T := T) (p := d) (s := c % 512) hT2 (by omega)
      simp only [shA_45, shA_66, shZ_66, shR_45_2, shr_45_2, shR_45_3, shr_45_3, shR_45_4, shr_45_4, shR_45_5, shr_45_5, shR_45_7, shr_45_7, shR_45_16, shr_45_16, shR_45_18, shr_45_18, shR_45_19, shr_45_19, shR_45_21, shr_45_21, shR_45_22, shr_45_22, shR_45_25, shr_45_25, shR_45_26, shr_45_26, shR_45_28, shr_45_28, shR_45_29, shr_45_29, shR_45_33, shr_45_33, shR_45_34, shr_45_34, shR_45_35, shr_45_35, shR_45_36, shr_45_36, shR_45_37, shr_45_37, shR_45_38, shr_45_38, shR_45_39, shr_45_39, shR_45_40, shr_45_40, shR_45_42, shr_45_42, hs2, nI_ad (show d < 31 by omega), ne_eq, not_false_eq_true, not_true_eq_false, reduceCtorEq, Nat.reduceEqDiff, forall_eq, true_and, and_true, true_implies, forall_const, implies_true, List.mem_cons, List.not_mem_nil, or_false, false_or, or_self, if_true, if_false, reduceIte, Nat.reduceAdd, Nat.reduceMul, Nat.reduceLT, false_implies, Decidable.not_not, bI_eq0, bI_eq1, upd_at, updL_at, Nat.succ_ne_zero, Int32.reduceToNatClampNeg, eq_self, i01, i10]
      simp (disch := omega) only [li_512, nI_add, nI_mul, nI_inT, nI_tn, li_1, ne_eq, not_false_eq_true, not_true_eq_false, reduceCtorEq, Nat.reduceEqDiff, forall_eq, true_and, and_true, true_implies, forall_const, implies_true, List.mem_cons, List.not_mem_nil, or_false, false_or, or_self, if_true, if_false, reduceIte, Nat.reduceAdd, Nat.reduceMul, Nat.reduceLT, false_implies, Decidable.not_not, bI_eq0, bI_eq1, upd_at, updL_at, Nat.succ_ne_zero, Int32.reduceToNatClampNeg, eq_self, i01, i10]
      refine ⟨by omega, _, rfl, f2.uI (by decide), fun r s a b => ?_⟩
      simp only [jN_uI, jN_uJ, jN_uR, jK_uI, jK_uJ, jK_uR, jZ_uI, jZ_uJ, jZ_uR, jR_uI, jR_uJ, jr_uI, jr_uJ, jI_uJ, jI_uR, jJ_uI, jJ_uR, jI_uI_eq, jI_uI_ne, jJ_uJ_eq, jJ_uJ_ne, jSh_uI, jSh_uJ, jA_uI, jA_uJ, jA_uR, jI_uIf_eq, jI_uIf_ne, jJ_uIf, jR_uIf, jr_uIf, jZ_uIf, jSh_uIf, jA_uIf, ne_eq, not_false_eq_true, not_true_eq_false, reduceCtorEq, Nat.reduceEqDiff, forall_eq, true_and, and_true, true_implies, forall_const, implies_true, List.mem_cons, List.not_mem_nil, or_false, false_or, or_self, if_true, if_false, reduceIte, Nat.reduceAdd, Nat.reduceMul, Nat.reduceLT, false_implies, Decidable.not_not, bI_eq0, bI_eq1, upd_at, updL_at, Nat.succ_ne_zero, Int32.reduceToNatClampNeg, eq_self, i01, i10]
      split
      · rename_i e
        have : r = d ∧ s = ad T d (c % 512) := by omega
        obtain ⟨rfl, rfl⟩ := this
        exact bz_01 ⟨c, by omega, hg, hst, rfl⟩
      · rename_i e
        refine (b2 r s a b).iff ⟨fun ⟨j, w, y⟩ => ⟨j, by omega, y⟩, fun ⟨j, w, y⟩ => ⟨j, ?_, y⟩⟩
        rcases Nat.lt_or_ge j c with l | l
        · exact Or.inl l
        · have e2 : j = c := by omega
          refine Or.inr ⟨e2, ?_⟩
          rcases Nat.lt_or_ge r d with l2 | l2
          · exact l2
          · have : r = d := by omega
            subst this; subst e2
            rw [y.2.2] at e; exact absurd rfl e
    · simp (disch := omega) only [li_1, nI_add, ne_eq, not_false_eq_true, not_true_eq_false, reduceCtorEq, Nat.reduceEqDiff, forall_eq, true_and, and_true, true_implies, forall_const, implies_true, List.mem_cons, List.not_mem_nil, or_false, false_or, or_self, if_true, if_false, reduceIte, Nat.reduceAdd, Nat.reduceMul, Nat.reduceLT, false_implies, Decidable.not_not, bI_eq0, bI_eq1, upd_at, updL_at, Nat.succ_ne_zero, Int32.reduceToNatClampNeg, eq_self, i01, i10]
      refine ⟨by omega, S2, rfl, f2, fun r s a b => (b2 r s a b).iff ⟨fun ⟨j, w, y⟩ => ⟨j, by omega, y⟩, fun ⟨j, w, y⟩ => ⟨j, ?_, y⟩⟩⟩
      rcases Nat.lt_or_ge j c with l | l
      · exact Or.inl l
      · have e2 : j = c := by omega
        refine Or.inr ⟨e2, ?_⟩
        rcases Nat.lt_or_ge r d with l2 | l2
        · exact l2
        · have : r = d := by omega
          subst this; subst e2
          exact absurd ((hxx r (by omega)).mpr y.2.1) hb
theorem sX12_earliest {S : JS} {Q : Int32 → JS → Prop} {T n r0 : Nat} (hs : jSh S) (hm : MW S) (hT2 : T < 512) (hr : r0 < gR (jI S 47)) (hn : n < 60) (hx : nxOk S 59) (h : ∀ S' v, jFr [65, 66] S S' → rdP (jI S 47) T n r0 v → Q v S') : wX12_earliest 45 (nI r0) (nI n) (nI T) S Q := by
  obtain ⟨R1, R2, R3⟩ := hm.1.1
  have h5 := and_lt (b := 2 ^ r0) hT2
  unfold wX12_earliest wX12_earliest_2
  refine jLoop.cnt 4608 (fun c q => ∃ S', q = (45, nI r0, nI n, nI T, nI c, S') ∧ jFr [65, 66] S S' ∧ ∀ i, i < c → jI S' 65 i = 0) 0 (by omega) ?_ ⟨S, rfl, jFr.refl _ _, fun i q => absurd q (Nat.not_lt_zero _)⟩
  rintro c _ hc ⟨S1, rfl, f1, z1⟩
  have hs1 := f1.sh.mpr hs
  unfold bX12_earliest_2
  simp only [shA_45, shA_65, shZ_65, shR_45_2, shr_45_2, shR_45_3, shr_45_3, shR_45_4, shr_45_4, shR_45_5, shr_45_5, shR_45_7, shr_45_7, shR_45_16, shr_45_16, shR_45_18, shr_45_18, shR_45_19, shr_45_19, shR_45_21, shr_45_21, shR_45_22, shr_45_22, shR_45_25, shr_45_25, shR_45_26, shr_45_26, shR_45_28, shr_45_28, shR_45_29, shr_45_29, shR_45_33, shr_45_33, shR_45_34, shr_45_34, shR_45_35, shr_45_35, shR_45_36, shr_45_36, shR_45_37, shr_45_37, shR_45_38, shr_45_38, shR_45_39, shr_45_39, shR_45_40, shr_45_40, shR_45_42, shr_45_42, hs1, nI_tp (show r0 < 31 by omega), ne_eq, not_false_eq_true, not_true_eq_false, reduceCtorEq, Nat.reduceEqDiff, forall_eq, true_and, and_true, true_implies, forall_const, implies_true, List.mem_cons, List.not_mem_nil, or_false, false_or, or_self, if_true, if_false, reduceIte, Nat.reduceAdd, Nat.reduceMul, Nat.reduceLT, false_implies, Decidable.not_not, bI_eq0, bI_eq1, upd_at, updL_at, Nat.succ_ne_zero, Int32.reduceToNatClampNeg, eq_self, i01, i10]
  simp (disch := omega) only [li_4608, li_512, nI_add, nI_mul, nI_inT, nI_tn, nI_le', li_1, ne_eq, not_false_eq_true, not_true_eq_false, reduceCtorEq, Nat.reduceEqDiff, forall_eq, true_and, and_true, true_implies, forall_const, implies_true, List.mem_cons, List.not_mem_nil, or_false, false_or, or_self, if_true, if_false, reduceIte, Nat.reduceAdd, Nat.reduceMul, Nat.reduceLT, false_implies, Decidable.not_not, bI_eq0, bI_eq1, upd_at, updL_at, Nat.succ_ne_zero, Int32.reduceToNatClampNeg, eq_self, i01, i10]
  refine ⟨fun z => ?_, fun z => ?_⟩
  · have : c = 4608 := by omega
    subst this
    unfold wX12_earliest_27
    refine jLoop.cnt (60 - n) (fun k q => ∃ S', q = (45, nI T, nI (n + k), S') ∧ jFr [65, 66] S S' ∧ (∀ j, j < k → ¬ gEd (jI S 47) T n r0 j) ∧ (n + k < 60 → nwOk S' 65 (gRd (jI S 47) T n r0 k))) 0 (by omega) ?_ ⟨_, rfl, f1.uI (by decide), fun j q => absurd q (Nat.not_lt_zero _), fun _ r s a b => ?_⟩
    · rintro k _ hk ⟨S2, rfl, f2, no2, b2⟩
      have hs2 := f2.sh.mpr hs
      have hm2 : MW S2 := hm.fr f2 (by decide) (by decide)
      have e47 : jI S2 47 = jI S 47 := f2.I 47 (by decide)
      unfold bX12_earliest_27
      simp only
      rw [li_59, nI_lt' (by omega) (by omega)]
      refine ⟨fun z => h S2 _ f2 (Or.inr ⟨fun j hj => no2 j (by omega), rfl⟩), fun z => ?_⟩
      have b2 := b2 (by omega)
      unfold wX12_earliest_32
      refine jLoop.cnt (gR (jI S 47)) (fun d q => q = (45, nI T, nI (n + k), nI d, S2) ∧ ∀ r, r < d → ¬ gRd (jI S 47) T n r0 k r T) 0 (by omega) ?_ ⟨rfl, fun r q => absurd q (Nat.not_lt_zero _)⟩
      rintro d _ hd ⟨rfl, no3⟩
      unfold bX12_earliest_32
      refine ⟨shA_45 hs2, rk_of hs hm f2 (by decide) ?_⟩
      rw [nI_le' (by omega) (by omega)]
      refine ⟨fun z2 => ?_, fun z2 => ?_⟩
      · have no4 : ∀ j, j < k + 1 → ¬ gEd (jI S 47) T n r0 j := fun j hj => by
          rcases Nat.lt_or_ge j k with l | l
          · exact no2 j l
          · rw [show j = k by omega]
            rintro ⟨q, q1⟩
            exact no3 q (by have := (gRd_lt hT2 hr q1).1; omega) q1
        -- the new row is emptied
        unfold wX12_earliest_51
        refine jLoop.cnt 4608 (fun c q => ∃ S', q = (45, nI T, nI (n + k), nI c, S') ∧ jFr [66] S2 S' ∧ ∀ i, i < c → jI S' 66 i = 0) 0 (by omega) ?_ ⟨S2, rfl, jFr.refl _ _, fun i q => absurd q (Nat.not_lt_zero _)⟩
        rintro c _ hc ⟨S3, rfl, f3, z3⟩
        have hs3 := f3.sh.mpr hs2
        have hm3 : MW S3 := hm2.fr f3 (by decide) (by decide)
        have e37 : jI S3 47 = jI S 47 := by rw [f3.I 47 (by decide), e47]
        unfold bX12_earliest_51
        simp only [shA_45, shA_66, shZ_66, shR_45_2, shr_45_2, shR_45_3, shr_45_3, shR_45_4, shr_45_4, shR_45_5, shr_45_5, shR_45_7, shr_45_7, shR_45_16, shr_45_16, shR_45_18, shr_45_18, shR_45_19, shr_45_19, shR_45_21, shr_45_21, shR_45_22, shr_45_22, shR_45_25, shr_45_25, shR_45_26, shr_45_26, shR_45_28, shr_45_28, shR_45_29, shr_45_29, shR_45_33, shr_45_33, shR_45_34, shr_45_34, shR_45_35, shr_45_35, shR_45_36, shr_45_36, shR_45_37, shr_45_37, shR_45_38, shr_45_38, shR_45_39, shr_45_39, shR_45_40, shr_45_40, shR_45_42, shr_45_42, hs3, ne_eq, not_false_eq_true, not_true_eq_false, reduceCtorEq, Nat.reduceEqDiff, forall_eq, true_and, and_true, true_implies, forall_const, implies_true, List.mem_cons, List.not_mem_nil, or_false, false_or, or_self, if_true, if_false, reduceIte, Nat.reduceAdd, Nat.reduceMul, Nat.reduceLT, false_implies, Decidable.not_not, bI_eq0, bI_eq1, upd_at, updL_at, Nat.succ_ne_zero, Int32.reduceToNatClampNeg, eq_self, i01, i10]
        simp (disch := omega) only [li_4608, nI_inT, nI_tn, nI_le', li_1, nI_add, ne_eq, not_false_eq_true, not_true_eq_false, reduceCtorEq, Nat.reduceEqDiff, forall_eq, true_and, and_true, true_implies, forall_const, implies_true, List.mem_cons, List.not_mem_nil, or_false, false_or, or_self, if_true, if_false, reduceIte, Nat.reduceAdd, Nat.reduceMul, Nat.reduceLT, false_implies, Decidable.not_not, bI_eq0, bI_eq1, upd_at, updL_at, Nat.succ_ne_zero, Int32.reduceToNatClampNeg, eq_self, i01, i10]
        refine ⟨fun z3' => ?_, fun z3' => ⟨nI_in2 (by omega) (by omega), by omega, _, rfl, f3.uI (by decide), fun i hi => ?_⟩⟩
        · have cp : ∀ S4, jFr [66] S2 S4 → (n + k < 59 → nwOk S4 66 (gRd (jI S 47) T n r0 (k + 1))) → nwOk S4 66 (fun r s => jI S4 66 (512 * r + s) = 1) → wX12_earliest_117 (fun l0 l3 l4 S_1 => k < 60 - n ∧ ∃ S', (l0, l3, l4, S_1) = (45, nI T, nI (n + (k + 1)), S') ∧ jFr [65, 66] S S' ∧ (∀ j, j < k + 1 → ¬ gEd (jI S 47) T n r0 j) ∧ (n + (k + 1) < 60 → nwOk S' 65 (gRd (jI S 47) T n r0 (k + 1)))) 45 (nI T) (nI (n + k)) S4 Q := by
            intro S4 f4 b4 j4
            have f04 := f2.tr (f4.mono (H' := [65, 66]) (by decide))
            unfold wX12_earliest_117 wX12_earliest_119
            refine jLoop.cnt 4608 (fun c q => ∃ S', q = (45, nI T, nI (n + k), nI c, S') ∧ jFr [65, 66] S S' ∧ jI S' 66 = jI S4 66 ∧ ∀ i, i < c → jI S' 65 i = jI S4 66 i) 0 (by omega) ?_ ⟨S4, rfl, f04, rfl, fun i q => absurd q (Nat.not_lt_zero _)⟩
            rintro c _ hc ⟨S5, rfl, f5, g5, z5⟩
            have hs5 := f5.sh.mpr hs
            unfold bX12_earliest_119
            simp only [shA_45, shA_65, shZ_65, shA_66, shZ_66, shR_45_2, shr_45_2, shR_45_3, shr_45_3, shR_45_4, shr_45_4, shR_45_5, shr_45_5, shR_45_7, shr_45_7, shR_45_16, shr_45_16, shR_45_18, shr_45_18, shR_45_19, shr_45_19, shR_45_21, shr_45_21, shR_45_22, shr_45_22, shR_45_25, shr_45_25, shR_45_26, shr_45_26, shR_45_28, shr_45_28, shR_45_29, shr_45_29, shR_45_33, shr_45_33, shR_45_34, shr_45_34, shR_45_35, shr_45_35, shR_45_36, shr_45_36, shR_45_37, shr_45_37, shR_45_38, shr_45_38, shR_45_39, shr_45_39, shR_45_40, shr_45_40, shR_45_42, shr_45_42, hs5, g5, ne_eq, not_false_eq_true, not_true_eq_false, reduceCtorEq, Nat.reduceEqDiff, forall_eq, true_and, and_true, true_implies, forall_const, implies_true, List.mem_cons, List.not_mem_nil, or_false, false_or, or_self, if_true, if_false, reduceIte, Nat.reduceAdd, Nat.reduceMul, Nat.reduceLT, false_implies, Decidable.not_not, bI_eq0, bI_eq1, upd_at, updL_at, Nat.succ_ne_zero, Int32.reduceToNatClampNeg, eq_self, i01, i10]
            simp (disch := omega) only [li_4608, nI_inT, nI_tn, nI_le', li_1, nI_add, ne_eq, not_false_eq_true, not_true_eq_false, reduceCtorEq, Nat.reduceEqDiff, forall_eq, true_and, and_true, true_implies, forall_const, implies_true, List.mem_cons, List.not_mem_nil, or_false, false_or, or_self, if_true, if_false, reduceIte, Nat.reduceAdd, Nat.reduceMul, Nat.reduceLT, false_implies, Decidable.not_not, bI_eq0, bI_eq1, upd_at, updL_at, Nat.succ_ne_zero, Int32.reduceToNatClampNeg, eq_self, i01, i10]
            refine ⟨fun z6 => ⟨by omega, S5, rfl, f5, no4, fun h60 r s a b => ?_⟩, fun z6 => ?_⟩
            · rw [z5 _ (by omega)]; exact b4 (by omega) r s a b
            · have j5 := (j4 (c / 512) (c % 512) (by omega) (by omega)).bit
              rw [show 512 * (c / 512) + c % 512 = c by omega] at j5
              refine ⟨nI_in2 (by omega) (by omega), nI_in2 (by omega) (by omega), j5, by omega, _, rfl, f5.uI (by decide), by simp only [jN_uI, jN_uJ, jN_uR, jK_uI, jK_uJ, jK_uR, jZ_uI, jZ_uJ, jZ_uR, jR_uI, jR_uJ, jr_uI, jr_uJ, jI_uJ, jI_uR, jJ_uI, jJ_uR, jI_uI_eq, jI_uI_ne, jJ_uJ_eq, jJ_uJ_ne, jSh_uI, jSh_uJ, jA_uI, jA_uJ, jA_uR, jI_uIf_eq, jI_uIf_ne, jJ_uIf, jR_uIf, jr_uIf, jZ_uIf, jSh_uIf, jA_uIf, ne_eq, not_false_eq_true, not_true_eq_false, reduceCtorEq, Nat.reduceEqDiff, forall_eq, true_and, and_true, true_implies, forall_const, implies_true, List.mem_cons, List.not_mem_nil, or_false, false_or, or_self, if_true, if_false, reduceIte, Nat.reduceAdd, Nat.reduceMul, Nat.reduceLT, false_implies, Decidable.not_not, bI_eq0, bI_eq1, upd_at, updL_at, Nat.succ_ne_zero, Int32.reduceToNatClampNeg, eq_self, i01, i10]; exact g5, fun i hi => ?_⟩
              simp only [jN_uI, jN_uJ, jN_uR, jK_uI, jK_uJ, jK_uR, jZ_uI, jZ_uJ, jZ_uR, jR_uI, jR_uJ, jr_uI, jr_uJ, jI_uJ, jI_uR, jJ_uI, jJ_uR, jI_uI_eq, jI_uI_ne, jJ_uJ_eq, jJ_uJ_ne, jSh_uI, jSh_uJ, jA_uI, jA_uJ, jA_uR, jI_uIf_eq, jI_uIf_ne, jJ_uIf, jR_uIf, jr_uIf, jZ_uIf, jSh_uIf, jA_uIf, ne_eq, not_false_eq_true, not_true_eq_false, reduceCtorEq, Nat.reduceEqDiff, forall_eq, true_and, and_true, true_implies, forall_const, implies_true, List.mem_cons, List.not_mem_nil, or_false, false_or, or_self, if_true, if_false, reduceIte, Nat.reduceAdd, Nat.reduceMul, Nat.reduceLT, false_implies, Decidable.not_not, bI_eq0, bI_eq1, upd_at, updL_at, Nat.succ_ne_zero, Int32.reduceToNatClampNeg, eq_self, i01, i10]
              split
              · rename_i e; rw [e]
              · exact z5 i (by omega)
          have E3 : nwOk S3 66 (fun _ _ => False) := fun r s a b => by rw [z3 _ (by omega)]; exact bz_00 id
          rcases Nat.lt_or_ge (n + k) 59 with l | l
          · refine em_step (S := S3) (T := T) (n := n) (r0 := r0) (k := k) hs3 hm3 hT2 (by rw [e37]; exact hr) l ((hx.fr f2 (by decide)).fr f3 (by decide)) ?_ E3 (fun S4 f4 b4 => ?_)
            · unfold nwOk; rw [e37, f3.I 65 (by decide)]; exact b2
            · rw [e37] at b4
              exact cp S4 (f3.tr f4) (fun _ => b4) (fun r s a b => by
                rcases b4 r s a b with w | w
                · exact Or.inl ⟨w.1, w.1⟩
                · exact Or.inr ⟨w.1, fun y => by have y : jI S4 66 (512 * r + s) = 1 := y; rw [w.1] at y; exact absurd y (by decide)⟩)
          · unfold wX12_earliest_63
            refine jLoop.roll ?_
            unfold bX12_earliest_63
            have c3 := cp S3 f3 (fun q => by omega) (fun r s a b => by
              refine Or.inr ⟨z3 _ (by omega), fun y => ?_⟩
              have y : jI S3 66 (512 * r + s) = 1 := y
              rw [z3 _ (by omega)] at y; exact absurd y (by decide))
            refine ⟨shA_45 hs3, rk_of hs2 hm2 f3 (by decide) ?_⟩
            refine ⟨fun _ => c3, fun _ => ⟨fun _ => c3, fun w => absurd ?_ w⟩⟩
            show (59 : Int32) ≤ nI (n + k)
            rw [li_59, nI_le' (by omega) (by omega)]; omega
        · simp only [jN_uI, jN_uJ, jN_uR, jK_uI, jK_uJ, jK_uR, jZ_uI, jZ_uJ, jZ_uR, jR_uI, jR_uJ, jr_uI, jr_uJ, jI_uJ, jI_uR, jJ_uI, jJ_uR, jI_uI_eq, jI_uI_ne, jJ_uJ_eq, jJ_uJ_ne, jSh_uI, jSh_uJ, jA_uI, jA_uJ, jA_uR, jI_uIf_eq, jI_uIf_ne, jJ_uIf, jR_uIf, jr_uIf, jZ_uIf, jSh_uIf, jA_uIf, ne_eq, not_false_eq_true, not_true_eq_false, reduceCtorEq, Nat.reduceEqDiff, forall_eq, true_and, and_true, true_implies, forall_const, implies_true, List.mem_cons, List.not_mem_nil, or_false, false_or, or_self, if_true, if_false, reduceIte, Nat.reduceAdd, Nat.reduceMul, Nat.reduceLT, false_implies, Decidable.not_not, bI_eq0, bI_eq1, upd_at, updL_at, Nat.succ_ne_zero, Int32.reduceToNatClampNeg, eq_self, i01, i10]
          split
          · rfl
          · exact z3 i (by omega)
      · have bd := b2 d T (by omega) hT2
        simp only [shA_45, shA_65, shZ_65, shR_45_2, shr_45_2, shR_45_3, shr_45_3, shR_45_4, shr_45_4, shR_45_5, shr_45_5, shR_45_7, shr_45_7, shR_45_16, shr_45_16, shR_45_18, shr_45_18, shR_45_19, shr_45_19, shR_45_21, shr_45_21, shR_45_22, shr_45_22, shR_45_25, shr_45_25, shR_45_26, shr_45_26, shR_45_28, shr_45_28, shR_45_29, shr_45_29, shR_45_33, shr_45_33, shR_45_34, shr_45_34, shR_45_35, shr_45_35, shR_45_36, shr_45_36, shR_45_37, shr_45_37, shR_45_38, shr_45_38, shR_45_39, shr_45_39, shR_45_40, shr_45_40, shR_45_42, shr_45_42, hs2, ne_eq, not_false_eq_true, not_true_eq_false, reduceCtorEq, Nat.reduceEqDiff, forall_eq, true_and, and_true, true_implies, forall_const, implies_true, List.mem_cons, List.not_mem_nil, or_false, false_or, or_self, if_true, if_false, reduceIte, Nat.reduceAdd, Nat.reduceMul, Nat.reduceLT, false_implies, Decidable.not_not, bI_eq0, bI_eq1, upd_at, updL_at, Nat.succ_ne_zero, Int32.reduceToNatClampNeg, eq_self, i01, i10]
        simp (disch := omega) only [li_512, nI_add, nI_mul, nI_inT, nI_tn, li_1, ne_eq, not_false_eq_true, not_true_eq_false, reduceCtorEq, Nat.reduceEqDiff, forall_eq, true_and, and_true, true_implies, forall_const, implies_true, List.mem_cons, List.not_mem_nil, or_false, false_or, or_self, if_true, if_false, reduceIte, Nat.reduceAdd, Nat.reduceMul, Nat.reduceLT, false_implies, Decidable.not_not, bI_eq0, bI_eq1, upd_at, updL_at, Nat.succ_ne_zero, Int32.reduceToNatClampNeg, eq_self, i01, i10]
        refine ⟨fun z3 => ⟨by omega, fun r hr3 => ?_⟩, fun z3 => h S2 _ f2 (Or.inl ⟨k, ⟨⟨d, bd.t z3⟩, no2⟩, by omega, rfl⟩)⟩
        rcases Nat.lt_or_ge r d with l | l
        · exact no3 r l
        · rw [show r = d by omega]; exact bd.f z3
    · simp only [jN_uI, jN_uJ, jN_uR, jK_uI, jK_uJ, jK_uR, jZ_uI, jZ_uJ, jZ_uR, jR_uI, jR_uJ, jr_uI, jr_uJ, jI_uJ, jI_uR, jJ_uI, jJ_uR, jI_uI_eq, jI_uI_ne, jJ_uJ_eq, jJ_uJ_ne, jSh_uI, jSh_uJ, jA_uI, jA_uJ, jA_uR, jI_uIf_eq, jI_uIf_ne, jJ_uIf, jR_uIf, jr_uIf, jZ_uIf, jSh_uIf, jA_uIf, ne_eq, not_false_eq_true, not_true_eq_false, reduceCtorEq, Nat.reduceEqDiff, forall_eq, true_and, and_true, true_implies, forall_const, implies_true, List.mem_cons, List.not_mem_nil, or_false, false_or, or_self, if_true, if_false, reduceIte, Nat.reduceAdd, Nat.reduceMul, Nat.reduceLT, false_implies, Decidable.not_not, bI_eq0, bI_eq1, upd_at, updL_at, Nat.succ_ne_zero, Int32.reduceToNatClampNeg, eq_self, i01, i10]
      rw [gRd]
      split
      · exact bz_01 (by omega)
      · rw [z1 _ (by omega)]; exact bz_00 (by omega)
  · refine ⟨nI_in2 (by omega) (by omega), by omega, _, rfl, f1.uI (by decide), fun i hi => ?_⟩
    simp only [jN_uI, jN_uJ, jN_uR, jK_uI, jK_uJ, jK_uR, jZ_uI, jZ_uJ, jZ_uR, jR_uI, jR_uJ, jr_uI, jr_uJ, jI_uJ, jI_uR, jJ_uI, jJ_uR, jI_uI_eq, jI_uI_ne, jJ_uJ_eq, jJ_uJ_ne, jSh_uI, jSh_uJ, jA_uI, jA_uJ, jA_uR, jI_uIf_eq, jI_uIf_ne, jJ_uIf, jR_uIf, jr_uIf, jZ_uIf, jSh_uIf, jA_uIf, ne_eq, not_false_eq_true, not_true_eq_false, reduceCtorEq, Nat.reduceEqDiff, forall_eq, true_and, and_true, true_implies, forall_const, implies_true, List.mem_cons, List.not_mem_nil, or_false, false_or, or_self, if_true, if_false, reduceIte, Nat.reduceAdd, Nat.reduceMul, Nat.reduceLT, false_implies, Decidable.not_not, bI_eq0, bI_eq1, upd_at, updL_at, Nat.succ_ne_zero, Int32.reduceToNatClampNeg, eq_self, i01, i10]
    split
    · rfl
    · exact z1 i (by omega)
