/-! THE CLASS'S SIGHTINGS -/
theorem MW.rep {S : JS} (hm : MW S) : ∃ q, q ≤ 16 ∧ jI S 47 6 = nI q ∧ jI S 6 3 = nI q ∧ (jI S 47 6).toNatClampNeg = q ∧ ∀ i, i < q → ∃ r n z, r < gR (jI S 47) ∧ n < 60 ∧ z < 2 ∧ jI S 47 (140 + 3 * i) = nI r ∧ jI S 47 (140 + 3 * i + 1) = nI n ∧ jI S 47 (140 + 3 * i + 2) = nI z ∧ jI S 7 i = nI r ∧ jI S 8 i = nI n ∧ jI S 9 i = nI z := by
  obtain ⟨q, q1, q2, q3⟩ := hm.1.2.2.2.2.2.1
  obtain ⟨v1, v2⟩ := hm.2.2.2.2.1
  have e : (jI S 47 6).toNatClampNeg = q := by rw [q2, nI_tn (by omega)]
  refine ⟨q, q1, q2, v1.trans q2, e, fun i hi => ?_⟩
  obtain ⟨r, n, z, a1, a2, a3, a4, a5, a6⟩ := q3 i hi
  obtain ⟨b1, b2, b3⟩ := v2 i (by rw [e]; exact hi)
  exact ⟨r, n, z, a1, a2, a3, a4, a5, a6, b1.trans a4, b2.trans a5, b3.trans a6⟩
theorem sX7_countLying {S : JS} {Q : JS → Prop} (hs : jSh S) (hm : MW S) (h : ∀ S', jFr [30] S S' → (∀ n r, n < 60 → r < gR (jI S 47) → jI S' 30 (n * 9 + r) = nI (gLs (jI S 47) n r)) → Q S') : wX7_countLying 29 1 S Q := by
  obtain ⟨R1, R2, R3⟩ := hm.1.1
  have e0 : jI S 1 0 = nI (gR (jI S 47)) := hm.2.1.1.trans R3
  obtain ⟨q, q1, q2, q3, q4, q5⟩ := hm.rep
  unfold wX7_countLying
  simp only [shA_29, shR_29_0, shr_29_0, shR_29_1, shr_29_1, shR_29_2, shr_29_2, shR_29_3, shr_29_3, shR_29_4, shr_29_4, hs, ne_eq, not_false_eq_true, not_true_eq_false, reduceCtorEq, Nat.reduceEqDiff, forall_eq, true_and, and_true, true_implies, forall_const, implies_true, List.mem_cons, List.not_mem_nil, or_false, false_or, or_self, if_true, if_false, reduceIte, Nat.reduceAdd, Nat.reduceMul, Nat.reduceLT, false_implies, Decidable.not_not, bI_eq0, bI_eq1, upd_at, updL_at, Nat.succ_ne_zero, Int32.reduceToNatClampNeg, eq_self, i01, i10]
  refine sJ7_fill (shA_30 hs) (shZ_30 hs) (by omega) (fun S1 f1 z1 => ?_)
  unfold wX7_countLying_6
  refine jLoop.cnt q (fun i s => ∃ S', s = (29, 1, nI i, S') ∧ jFr [30] S S' ∧ ∀ n r, n < 60 → r < gR (jI S 47) → jI S' 30 (n * 9 + r) = nI (gL (jI S 47) n r i)) 0 (Nat.zero_le _) ?_ ⟨S1, rfl, f1, fun n r hn hr => by rw [z1 _ (by omega)]; rfl⟩
  rintro i _ hi ⟨S2, rfl, f2, y2⟩
  have hs2 : jSh S2 := f2.sh.mpr hs
  unfold bX7_countLying_6
  simp only [shA_1, shA_6, shR_1_4, shr_1_4, shR_1_5, shr_1_5, shR_1_6, shr_1_6, shR_1_9, shr_1_9, shR_1_11, shr_1_11, shR_6_0, shr_6_0, shR_6_1, shr_6_1, shR_6_2, shr_6_2, hs2, f2.I 6 (by decide), q3, ne_eq, not_false_eq_true, not_true_eq_false, reduceCtorEq, Nat.reduceEqDiff, forall_eq, true_and, and_true, true_implies, forall_const, implies_true, List.mem_cons, List.not_mem_nil, or_false, false_or, or_self, if_true, if_false, reduceIte, Nat.reduceAdd, Nat.reduceMul, Nat.reduceLT, false_implies, Decidable.not_not, bI_eq0, bI_eq1, upd_at, updL_at, Nat.succ_ne_zero, Int32.reduceToNatClampNeg, eq_self, i01, i10]
  rw [nI_le' (by omega) (by omega)]
  refine ⟨fun z => h S2 f2 (fun n r hn hr => by rw [y2 n r hn hr, gLs, q4, show i = q by omega]), fun z => ?_⟩
  obtain ⟨a, m, b, a1, m1, b1, e1, e2, e3, e4, e5, e6⟩ := q5 i (by omega)
  unfold wX7_countLying_13
  refine jLoop.cnt (gR (jI S 47)) (fun c s => ∃ S', s = (29, 1, nI i, nI c, S') ∧ jFr [30] S S' ∧ ∀ n r, n < 60 → r < gR (jI S 47) → jI S' 30 (n * 9 + r) = nI (gL (jI S 47) n r (if r < c then i + 1 else i))) 0 (Nat.zero_le _) ?_ ⟨S2, rfl, f2, fun n r hn hr => by rw [if_neg (Nat.not_lt_zero _)]; exact y2 n r hn hr⟩
  rintro c _ hc ⟨S3, rfl, f3, y3⟩
  have hs3 : jSh S3 := f3.sh.mpr hs
  unfold bX7_countLying_13 wX7_countLying_27 wX7_countLying_39 wX7_countLying_54 wX11_placeOf
  simp only [shA_1, shA_6, shA_7, shZ_7, shA_8, shZ_8, shA_9, shZ_9, shA_29, shA_30, shZ_30, shR_1_4, shr_1_4, shR_1_5, shr_1_5, shR_1_6, shr_1_6, shR_1_9, shr_1_9, shR_1_11, shr_1_11, shR_6_0, shr_6_0, shR_6_1, shr_6_1, shR_6_2, shr_6_2, shR_29_0, shr_29_0, shR_29_1, shr_29_1, shR_29_2, shr_29_2, shR_29_3, shr_29_3, shR_29_4, shr_29_4, hs3, f3.I 1 (by decide), e0, f3.I 7 (by decide), f3.I 8 (by decide), f3.I 9 (by decide), ne_eq, not_false_eq_true, not_true_eq_false, reduceCtorEq, Nat.reduceEqDiff, forall_eq, true_and, and_true, true_implies, forall_const, implies_true, List.mem_cons, List.not_mem_nil, or_false, false_or, or_self, if_true, if_false, reduceIte, Nat.reduceAdd, Nat.reduceMul, Nat.reduceLT, false_implies, Decidable.not_not, bI_eq0, bI_eq1, upd_at, updL_at, Nat.succ_ne_zero, Int32.reduceToNatClampNeg, eq_self, i01, i10]
  rw [nI_le' (by omega) (by omega), nI_tn (by omega), e4, e5, e6, pl_nI, nI_tn (by omega)]
  simp (disch := omega) only [nI_inT, nI_eq', li_1, nI_add, ne_eq, not_false_eq_true, not_true_eq_false, reduceCtorEq, Nat.reduceEqDiff, forall_eq, true_and, and_true, true_implies, forall_const, implies_true, List.mem_cons, List.not_mem_nil, or_false, false_or, or_self, if_true, if_false, reduceIte, Nat.reduceAdd, Nat.reduceMul, Nat.reduceLT, false_implies, Decidable.not_not, bI_eq0, bI_eq1, upd_at, updL_at, Nat.succ_ne_zero, Int32.reduceToNatClampNeg, eq_self, i01, i10]
  have st : ∀ n r, n < 60 → r < gR (jI S 47) → gL (jI S 47) n r (if r < c + 1 then i + 1 else i) = gL (jI S 47) n r (if r < c then i + 1 else i) + if r = c ∧ m = n ∧ ¬ (a = r ↔ b = 1) then 1 else 0 := by
    intro n r hn hr
    rcases Nat.lt_trichotomy r c with l | l | l
    · rw [if_pos (by omega), if_pos (by omega), if_neg (by omega)]; rfl
    · rw [if_pos (by omega), if_neg (by omega), gL, e1, e2, e3]
      simp (disch := omega) only [nI_eq', li_1]
      congr 1
      subst l
      simp only [true_and]
    · rw [if_neg (by omega), if_neg (by omega), if_neg (by omega)]; rfl
  refine ⟨fun z2 => ⟨by omega, S3, rfl, f3, fun n r hn hr => ?_⟩, fun z2 => ?_⟩
  · rw [y3 n r hn hr, if_pos (by omega)]
  · have fin1 : (a = c ↔ b = 1) → ∀ n r, n < 60 → r < gR (jI S 47) → jI S3 30 (n * 9 + r) = nI (gL (jI S 47) n r (if r < c + 1 then i + 1 else i)) := by
      intro hiff n r hn hr
      rw [y3 n r hn hr, st n r hn hr, if_neg (show ¬ (r = c ∧ m = n ∧ ¬ (a = r ↔ b = 1)) from by rintro ⟨rfl, _, z⟩; exact z hiff)]; rfl
    have fin2 : ¬ (a = c ↔ b = 1) → ∀ n r, n < 60 → r < gR (jI S 47) → jI (uI S3 30 (m * 9 + c) (jI S3 30 (m * 9 + c) + nI 1)) 30 (n * 9 + r) = nI (gL (jI S 47) n r (if r < c + 1 then i + 1 else i)) := by
      intro hiff n r hn hr
      simp only [jN_uI, jN_uJ, jN_uR, jK_uI, jK_uJ, jK_uR, jZ_uI, jZ_uJ, jZ_uR, jR_uI, jR_uJ, jr_uI, jr_uJ, jI_uJ, jI_uR, jJ_uI, jJ_uR, jI_uI_eq, jI_uI_ne, jJ_uJ_eq, jJ_uJ_ne, jSh_uI, jSh_uJ, jA_uI, jA_uJ, jA_uR, jI_uIf_eq, jI_uIf_ne, jJ_uIf, jR_uIf, jr_uIf, jZ_uIf, jSh_uIf, jA_uIf, ne_eq, not_false_eq_true, not_true_eq_false, reduceCtorEq, Nat.reduceEqDiff, forall_eq, true_and, and_true, true_implies, forall_const, implies_true, List.mem_cons, List.not_mem_nil, or_false, false_or, or_self, if_true, if_false, reduceIte, Nat.reduceAdd, Nat.reduceMul, Nat.reduceLT, false_implies, Decidable.not_not, bI_eq0, bI_eq1, upd_at, updL_at, Nat.succ_ne_zero, Int32.reduceToNatClampNeg, eq_self, i01, i10, pl_inj (show r < 9 by omega) (show c < 9 by omega)]
      rw [st n r hn hr]
      split
      · rename_i q; obtain ⟨rfl, rfl⟩ := q
        rw [y3 n r hn hr, nI_add, if_pos (show r = r ∧ n = n ∧ ¬ (a = r ↔ b = 1) from ⟨rfl, rfl, hiff⟩)]
      · rename_i q
        rw [y3 n r hn hr, if_neg (show ¬ (r = c ∧ m = n ∧ ¬ (a = r ↔ b = 1)) from by rintro ⟨rfl, rfl, _⟩; exact q ⟨rfl, rfl⟩)]; rfl
    exact ⟨fun z3 => ⟨fun z4 => ⟨by omega, _, rfl, f3, fin1 (by omega)⟩, fun z4 => ⟨nI_in2 (by omega) (by omega), by omega, _, rfl, f3.uI (by decide), fin2 (by omega)⟩⟩, fun z3 => ⟨fun z4 => ⟨nI_in2 (by omega) (by omega), by omega, _, rfl, f3.uI (by decide), fin2 (by omega)⟩, fun z4 => ⟨by omega, _, rfl, f3, fin1 (by omega)⟩⟩⟩
/-- the rows that are weighed, from a night on -/
def lsOk (S : JS) (m : Nat) : Prop := ∀ n r, m ≤ n → n < 60 → r < gR (jI S 47) → jI S 31 (n * 9 + r) = nI (gD (jI S 47) (59 - n) r) ∧ jJ S 32 (n * 9 + r) = lN (gW (jI S 47) (59 - n) r)
theorem sX7_weigh {S : JS} {Q : JS → Prop} {r n : Nat} {x : Int32} (hs : jSh S) (hm : MW S) (hr : r < gR (jI S 47)) (hn : n < 59) (hx : stOk (jI S 47) n r x) (hl : jI S 30 (n * 9 + r) = nI (gLs (jI S 47) n r)) (hk : lsOk S (n + 1)) (h : Q (uJ (uI S 31 (n * 9 + r) (nI (gD (jI S 47) (59 - n) r))) 32 (n * 9 + r) (lN (gW (jI S 47) (59 - n) r)))) : wX7_weigh 29 (nI r) (nI n) x S Q := by
  obtain ⟨R1, R2, R3⟩ := hm.1.1
  obtain ⟨k, e1, e2, e3⟩ : ∃ k, 59 - n = k + 1 ∧ 59 - (n + 1) = k ∧ 58 - k = n := ⟨58 - n, by omega, by omega, by omega⟩
  have hP : ∀ p, gSt (jI S 47) n r p → p < gR (jI S 47) := fun p hp => gSt_lt hp hr
  have hf : ∀ p, p < gR (jI S 47) → jI S 31 ((n + 1) * 9 + p) = nI (gD (jI S 47) k p) ∧ jJ S 32 ((n + 1) * 9 + p) = lN (gW (jI S 47) k p) ∧ gD (jI S 47) k p ≤ 16 := fun p hp => by
    obtain ⟨a, b⟩ := hk (n + 1) p (Nat.le_refl _) (by omega) hp
    rw [e2] at a b
    exact ⟨a, b, gD_16 hm.1 (by omega) hp⟩
  have gb : ∀ c, gws (gSt (jI S 47) n r) (gD (jI S 47) k) (gW (jI S 47) k) c ≤ c * 1000000000000 := fun c => gws_b (fun p _ _ => gW_b _ _ _)
  unfold wX7_weigh wX7_weigh_6
  refine jLoop.cnt 9 (fun c q => ∃ m w, q = (29, nI r, nI n, x, m, w, nI c, S) ∧ ((m = nI 17 ∧ w = lN 0 ∧ (∀ p, p < c → ¬ gSt (jI S 47) n r p)) ∨ (m = nI (mn (gSt (jI S 47) n r) (gD (jI S 47) k) c) ∧ w = lN (gws (gSt (jI S 47) n r) (gD (jI S 47) k) (gW (jI S 47) k) c) ∧ mn (gSt (jI S 47) n r) (gD (jI S 47) k) c ≤ 16))) 0 (by omega) ?_ ⟨17, 0, rfl, Or.inl ⟨rfl, rfl, fun p hp => absurd hp (Nat.not_lt_zero _)⟩⟩
  rintro c _ hc ⟨m, w, rfl, hi⟩
  unfold bX7_weigh_6 wX7_weigh_42 wX7_weigh_48 wX11_placeOf
  simp only [shA_29, shA_30, shZ_30, shA_31, shZ_31, shA_32, shZ_32, shR_29_0, shr_29_0, shR_29_1, shr_29_1, shR_29_2, shr_29_2, shR_29_3, shr_29_3, shR_29_4, shr_29_4, hs, nI_1, pl_nI, jN_uI, jN_uJ, jN_uR, jK_uI, jK_uJ, jK_uR, jZ_uI, jZ_uJ, jZ_uR, jR_uI, jR_uJ, jr_uI, jr_uJ, jI_uJ, jI_uR, jJ_uI, jJ_uR, jI_uI_eq, jI_uI_ne, jJ_uJ_eq, jJ_uJ_ne, jSh_uI, jSh_uJ, jA_uI, jA_uJ, jA_uR, jI_uIf_eq, jI_uIf_ne, jJ_uIf, jR_uIf, jr_uIf, jZ_uIf, jSh_uIf, jA_uIf, ne_eq, not_false_eq_true, not_true_eq_false, reduceCtorEq, Nat.reduceEqDiff, forall_eq, true_and, and_true, true_implies, forall_const, implies_true, List.mem_cons, List.not_mem_nil, or_false, false_or, or_self, if_true, if_false, reduceIte, Nat.reduceAdd, Nat.reduceMul, Nat.reduceLT, false_implies, Decidable.not_not, bI_eq0, bI_eq1, upd_at, updL_at, Nat.succ_ne_zero, Int32.reduceToNatClampNeg, eq_self, i01, i10]
  rw [li_9, nI_le' (by omega) (by omega)]
  refine ⟨fun q => ?_, fun q => ?_⟩
  · rw [show c = 9 by omega] at hi
    rw [nI_tn (by omega)]
    refine ⟨nI_in2 (by omega) (by omega), nI_in2 (by omega) (by omega), nI_in2 (by omega) (by omega), ?_⟩
    rcases hi with ⟨_, _, z⟩ | ⟨z1, z2, z3⟩
    · exact absurd (Or.inl rfl) (z r (by omega))
    · have m9 : mn (gSt (jI S 47) n r) (gD (jI S 47) k) 9 = mn (gSt (jI S 47) n r) (gD (jI S 47) k) (gR (jI S 47)) := by
        have := mn_ext (f := gD (jI S 47) k) hP (9 - gR (jI S 47))
        rw [show gR (jI S 47) + (9 - gR (jI S 47)) = 9 by omega] at this; exact this
      have w9 : gws (gSt (jI S 47) n r) (gD (jI S 47) k) (gW (jI S 47) k) 9 = gws (gSt (jI S 47) n r) (gD (jI S 47) k) (gW (jI S 47) k) (gR (jI S 47)) := by
        have := gws_ext (f := gD (jI S 47) k) (g := gW (jI S 47) k) hP (9 - gR (jI S 47))
        rw [show gR (jI S 47) + (9 - gR (jI S 47)) = 9 by omega] at this; exact this
      have g9 := gb 9
      have h1 : jI S 30 (n * 9 + r) + m = nI (gD (jI S 47) (59 - n) r) := by
        rw [hl, z1, nI_add, e1, gD, e3, m9, Nat.add_comm]
      have h2 : (if w < 1000000000000 then w else 1000000000000) = lN (gW (jI S 47) (59 - n) r) := by
        rw [e1, gW, e3, ← w9, z2, lil]
        generalize gws (gSt (jI S 47) n r) (gD (jI S 47) k) (gW (jI S 47) k) 9 = W at g9
        have h9 : W < 9000000000000000 := Nat.lt_of_le_of_lt g9 (by decide)
        simp only [lN_lt' h9 (show 1000000000000 < 9000000000000000 by decide)]
        split
        · congr 1; omega
        · congr 1; omega
      rw [h1, h2]; exact h
  · have hc32 : c < 32 := by omega
    refine sX11_hasBit hc32 (fun hb => ?_) (fun hb => ?_)
    · have hg := (hx c hc32).mp hb
      have hcR := hP c hg
      obtain ⟨a1, a2, a3⟩ := hf c hcR
      simp only [shA_29, shA_30, shZ_30, shA_31, shZ_31, shA_32, shZ_32, shR_29_0, shr_29_0, shR_29_1, shr_29_1, shR_29_2, shr_29_2, shR_29_3, shr_29_3, shR_29_4, shr_29_4, hs, ne_eq, not_false_eq_true, not_true_eq_false, reduceCtorEq, Nat.reduceEqDiff, forall_eq, true_and, and_true, true_implies, forall_const, implies_true, List.mem_cons, List.not_mem_nil, or_false, false_or, or_self, if_true, if_false, reduceIte, Nat.reduceAdd, Nat.reduceMul, Nat.reduceLT, false_implies, Decidable.not_not, bI_eq0, bI_eq1, upd_at, updL_at, Nat.succ_ne_zero, Int32.reduceToNatClampNeg, eq_self, i01, i10]
      rw [nI_tn (by omega), a1, a2]
      refine ⟨nI_in2 (by omega) (by omega), ?_⟩
      have mt := mn_top (gSt (jI S 47) n r) (gD (jI S 47) k) c
      rcases hi with ⟨rfl, rfl, z3⟩ | ⟨rfl, rfl, z3⟩
      · have m0 := mn_none (f := gD (jI S 47) k) z3
        have m1 : mn (gSt (jI S 47) n r) (gD (jI S 47) k) (c + 1) = gD (jI S 47) k c := by rw [mn, pick_t ⟨hg, by omega⟩]
        have w1 : gws (gSt (jI S 47) n r) (gD (jI S 47) k) (gW (jI S 47) k) (c + 1) = gW (jI S 47) k c := by rw [gws, pick_t hg, if_pos (by omega)]
        rw [nI_lt' (by omega) (by omega), nI_le' (by omega) (by omega)]
        exact ⟨fun z => by omega, fun _ => ⟨fun z => by omega, fun _ => ⟨nI_in2 (by omega) (by omega), nI_in2 (by omega) (by omega), by omega, _, _, rfl, Or.inr ⟨by rw [m1], by rw [w1], by omega⟩⟩⟩⟩
      · rw [nI_lt' (by omega) (by omega), nI_le' (by omega) (by omega), lN_add]
        refine ⟨fun z => ?_, fun z => ⟨fun z2 => ⟨nI_in2 (by omega) (by omega), nI_in2 (by omega) (by omega), ?_⟩, fun z2 => ⟨nI_in2 (by omega) (by omega), nI_in2 (by omega) (by omega), ?_⟩⟩⟩
        · refine ⟨by omega, _, _, rfl, Or.inr ⟨?_, ?_, ?_⟩⟩
          · rw [mn, pick_f (by omega)]
          · rw [gws, pick_t hg, if_neg (by omega), if_neg (by omega)]
          · rw [mn, pick_f (by omega)]; exact z3
        · refine ⟨by omega, _, _, rfl, Or.inr ⟨?_, ?_, ?_⟩⟩
          · rw [mn, pick_f (by omega)]; congr 1; omega
          · rw [gws, pick_t hg, if_neg (by omega), if_pos (by omega)]
          · rw [mn, pick_f (by omega)]; exact z3
        · refine ⟨by omega, _, _, rfl, Or.inr ⟨?_, ?_, ?_⟩⟩
          · rw [mn, pick_t ⟨hg, by omega⟩]
          · rw [gws, pick_t hg, if_pos (by omega)]
          · rw [mn, pick_t ⟨hg, by omega⟩]; omega
    · have hg : ¬ gSt (jI S 47) n r c := fun z => hb ((hx c hc32).mpr z)
      refine ⟨fun _ => ⟨by omega, _, _, rfl, ?_⟩, fun z => absurd rfl z⟩
      rcases hi with ⟨z1, z2, z3⟩ | ⟨z1, z2, z3⟩
      · refine Or.inl ⟨z1, z2, fun p hp => ?_⟩
        rcases Nat.lt_or_ge p c with l | l
        · exact z3 p l
        · rw [show p = c by omega]; exact hg
      · refine Or.inr ⟨?_, ?_, ?_⟩
        · rw [mn, pick_f (fun z => hg z.1)]; exact z1
        · rw [gws, pick_f hg]; exact z2
        · rw [mn, pick_f (fun z => hg z.1)]; exact z3
