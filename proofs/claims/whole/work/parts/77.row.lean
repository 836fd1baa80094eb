/-! ROW -/
section ROW
theorem uI_same {S : JS} {h i : Nat} {v : Int32} (e : jI S h i = v) : uI S h i v = S := by
  have e2 : upd (jI S h) i v = jI S h := by
    funext k; rw [upd_at]; split
    · rename_i q; rw [q, e]
    · rfl
  have e3 : va_up (jI S) h (jI S h) = jI S := by
    funext k; unfold va_up; split
    · rename_i q; rw [q]
    · rfl
  unfold uI uIf
  rw [e2, e3]; rfl
/-- a storm after i of the bytes b -/
def rwB (b : Nat → Nat) (s : Nat → Prop) (i n : Nat) : Prop := s n ∨ ∃ k, k < i ∧ b k = n
noncomputable def rwC (b : Nat → Nat) (s : Nat → Prop) : Nat → Nat
  | 0 => 0
  | i + 1 => rwC b s i + pick (b i < 60 ∧ ¬ rwB b s i (b i)) 1 0
def rwX (b : Nat → Nat) : Nat → Nat
  | 0 => 0
  | i + 1 => rwX b i + if b i < 60 then 0 else 1
theorem rwC_le (b : Nat → Nat) (s : Nat → Prop) : ∀ i, rwC b s i ≤ i
  | 0 => Nat.le_refl _
  | i + 1 => by
    have := rwC_le b s i
    rw [rwC]
    rcases Classical.em (b i < 60 ∧ ¬ rwB b s i (b i)) with h | h
    · rw [pick_t h]; omega
    · rw [pick_f h]; omega
theorem rwX_le (b : Nat → Nat) : ∀ i, rwX b i ≤ i
  | 0 => Nat.le_refl _
  | i + 1 => by have := rwX_le b i; rw [rwX]; split <;> omega
theorem rwB_s {b : Nat → Nat} {s : Nat → Prop} {i n : Nat} : rwB b s (i + 1) n ↔ rwB b s i n ∨ b i = n := by
  unfold rwB
  constructor
  · rintro (h | ⟨k, k1, k2⟩)
    · exact Or.inl (Or.inl h)
    · rcases Nat.lt_or_ge k i with l | l
      · exact Or.inl (Or.inr ⟨k, l, k2⟩)
      · exact Or.inr (by rw [show i = k by omega]; exact k2)
  · rintro ((h | ⟨k, k1, k2⟩) | h)
    · exact Or.inl h
    · exact Or.inr ⟨k, by omega, k2⟩
    · exact Or.inr ⟨i, by omega, h⟩
theorem rwB_0 {b : Nat → Nat} {s : Nat → Prop} {n : Nat} : rwB b s 0 n ↔ s n := by
  unfold rwB
  exact ⟨fun h => h.elim id (fun ⟨k, k1, _⟩ => absurd k1 (Nat.not_lt_zero _)), Or.inl⟩
theorem Inv.accG {S S' : JS} (hI : Inv S) (f : jFr [0, 1, 2, 3, 4, 5, 6, 7, 8, 9, 11, 12, 14, 24, 25, 26, 27, 28, 45, 47, 51, 52, 53, 54, 55, 58, 59, 60, 61, 62, 63, 64, 65, 66, 67] S S') (e43 : jI S' 45 43 = jI S 45 43) (hM : MW S') (hB : BC S') (hT : TP S') (hF : SF S') (e13 : jI S' 0 13 = 0) (e12 : jI S' 0 12 = 0) (e1 : jI S' 45 1 = 0) : Inv S' := by
  obtain ⟨i1, i2, i3, i4, i5, i6, i7, i8, i9, i10, i11⟩ := hI
  refine ⟨f.sh.mpr i1, hM, hB, SV.no e13, hT, ⟨?_, e12.trans e1.symm⟩, hF, i8.fr f (by decide) e43, i9.fr f (by decide), i10.fr f (by decide) (by decide), i11.fr f⟩
  rw [f.I 44 (by decide), f.I 46 (by decide)]; exact i6.1
theorem in60 {b : Nat} (hb : b < 256) : (0 ≤ nI b ∧ nI b ≤ 59) ↔ b < 60 := by
  rw [li_0, li_59, nI_le' (by omega) (by omega), nI_le' (by omega) (by omega)]; omega
/-- the class's loop -/
theorem cl_row {S : JS} {Q : Int32 → JS → Prop} {t : Nat} {b : Nat → Nat} (hs : jSh S) (q8 : pS S (jI S 47)) (ht : t ≤ 400) (h1 : jI S 14 1 = nI t) (hb : ∀ i, i < t → b i < 256 ∧ jI S 15 i = nI (b i)) (h10 : jI S 0 10 = 0) (hq : ∀ S', jFr [0, 1, 27, 28] S S' → jFk 0 [10] S S' → jFk 1 [3] S S' → (∀ m, m < 60 → (bj (jJ S' 1 3) m = true ↔ rwB b (fun n => jI S 47 (8 + n) = 1) t m)) → (∀ m, 60 ≤ m → m < 64 → bj (jJ S' 1 3) m = false) → jI S' 0 10 = nI (rwX b t) → (∀ p, jI S' 27 p = -1 ∨ jI S' 27 p = jI S 27 p) → (∀ p, jI S' 28 p = -1 ∨ jI S' 28 p = jI S 28 p) → (∀ n r, n < 60 → r < 9 → rwB b (fun n => jI S 47 (8 + n) = 1) t n → ¬ jI S 47 (8 + n) = 1 → jI S' 27 (n * 9 + r) = -1 ∧ jI S' 28 (n * 9 + r) = -1) → wX11_accept 0 (nI (rwC b (fun n => jI S 47 (8 + n) = 1) t)) (uI S' 14 1 0) Q) : wX11_row_15 0 0 0 S Q := by
  generalize hsd : (fun n => jI S 47 (8 + n) = 1) = s at hq
  have hsn : ∀ n, s n ↔ jI S 47 (8 + n) = 1 := fun n => by rw [← hsd]
  unfold wX11_row_15
  refine jLoop.cnt t (fun c q => ∃ S', q = (0, nI (rwC b s c), nI c, S') ∧ jFr [0, 1, 27, 28] S S' ∧ jFk 0 [10] S S' ∧ jFk 1 [3] S S' ∧ (∀ m, m < 60 → (bj (jJ S' 1 3) m = true ↔ rwB b s c m)) ∧ (∀ m, 60 ≤ m → m < 64 → bj (jJ S' 1 3) m = false) ∧ jI S' 0 10 = nI (rwX b c) ∧ (∀ p, jI S' 27 p = -1 ∨ jI S' 27 p = jI S 27 p) ∧ (∀ p, jI S' 28 p = -1 ∨ jI S' 28 p = jI S 28 p) ∧ (∀ n r, n < 60 → r < 9 → rwB b s c n → ¬ s n → jI S' 27 (n * 9 + r) = -1 ∧ jI S' 28 (n * 9 + r) = -1)) 0 (by omega) ?_ ⟨S, rfl, jFr.refl _ _, jFk.refl _ _ _, jFk.refl _ _ _, fun m hm => ?_, q8.2.2, h10, fun _ => Or.inr rfl, fun _ => Or.inr rfl, fun n r _ _ g h => absurd (rwB_0.mp g) h⟩
  · rintro c _ hc ⟨S1, rfl, f1, k0, k1, b1, b2, x1, p1, p2, p3⟩
    have hs1 := f1.sh.mpr hs
    have cl := rwC_le b s c
    have xl := rwX_le b c
    unfold bX11_row_15 wX11_row_52
    simp only [shA_0, shA_14, shA_15, shZ_15, shR_0_0, shr_0_0, shR_0_1, shr_0_1, shR_0_2, shr_0_2, shR_0_3, shr_0_3, shR_0_4, shr_0_4, shR_0_5, shr_0_5, shR_0_6, shr_0_6, shR_0_7, shr_0_7, shR_0_8, shr_0_8, shR_0_9, shr_0_9, shR_14_0, shr_14_0, shR_14_2, shr_14_2, shR_14_3, shr_14_3, shR_14_4, shr_14_4, shR_14_5, shr_14_5, shR_14_6, shr_14_6, shR_14_9, shr_14_9, shR_14_10, shr_14_10, hs1, f1.I 14 (by decide), f1.I 15 (by decide), h1, ne_eq, not_false_eq_true, not_true_eq_false, reduceCtorEq, Nat.reduceEqDiff, forall_eq, true_and, and_true, true_implies, forall_const, implies_true, List.mem_cons, List.not_mem_nil, or_false, false_or, or_self, if_true, if_false, reduceIte, Nat.reduceAdd, Nat.reduceMul, Nat.reduceLT, false_implies, Decidable.not_not, bI_eq0, bI_eq1, upd_at, updL_at, Nat.succ_ne_zero, Int32.reduceToNatClampNeg, eq_self, i01, i10]
    rw [nI_le' (by omega) (by omega), nI_tn (by omega)]
    refine ⟨fun z => ?_, fun z => ?_⟩
    · have : c = t := by omega
      subst this
      rw [hsd] at *
      exact ⟨shA_0 hs1, hq S1 f1 k0 k1 b1 b2 x1 p1 p2 (fun n r h1 h2 h3 h4 => p3 n r h1 h2 h3 (fun y => h4 ((hsn n).mp y)))⟩
    · obtain ⟨hb1, hb2⟩ := hb c (by omega)
      refine ⟨nI_in2 (by omega) (by omega), ?_⟩
      rw [hb2]
      refine sX11_isNight (fun n hn en => ⟨fun _ => ?_, fun y => absurd y (by decide)⟩) (fun hx => ⟨fun y => absurd rfl y, fun _ => ?_⟩)
      · have hbn : b c = n := by rw [nI_eq' (by omega) (by omega)] at en; exact en
        have hX : rwX b (c + 1) = rwX b c := by rw [rwX, if_pos (by omega), Nat.add_zero]
        simp only [shA_0, shA_1, shR_0_0, shr_0_0, shR_0_1, shr_0_1, shR_0_2, shr_0_2, shR_0_3, shr_0_3, shR_0_4, shr_0_4, shR_0_5, shr_0_5, shR_0_6, shr_0_6, shR_0_7, shr_0_7, shR_0_8, shr_0_8, shR_0_9, shr_0_9, shR_1_4, shr_1_4, shR_1_5, shr_1_5, shR_1_6, shr_1_6, shR_1_9, shr_1_9, shR_1_11, shr_1_11, hs1, ne_eq, not_false_eq_true, not_true_eq_false, reduceCtorEq, Nat.reduceEqDiff, forall_eq, true_and, and_true, true_implies, forall_const, implies_true, List.mem_cons, List.not_mem_nil, or_false, false_or, or_self, if_true, if_false, reduceIte, Nat.reduceAdd, Nat.reduceMul, Nat.reduceLT, false_implies, Decidable.not_not, bI_eq0, bI_eq1, upd_at, updL_at, Nat.succ_ne_zero, Int32.reduceToNatClampNeg, eq_self, i01, i10]
        unfold wX9_stormOn
        refine ⟨shA_1 hs1, ?_⟩
        rw [hbn, show ((jJ S1 1 3 >>> ((nI n).toInt64 &&& 63)) &&& 1).toInt32 = if bj (jJ S1 1 3) n then 1 else 0 from cSt_eq (by omega)]
        refine ⟨fun y => ?_, fun y => ?_⟩
        · have hbit : bj (jJ S1 1 3) n = true := by
            cases e : bj (jJ S1 1 3) n with
            | true => rfl
            | false => rw [e] at y; exact absurd rfl y
          have hg := (b1 n hn).mp hbit
          rw [nI_1]
          refine ⟨by omega, S1, ?_, f1, k0, k1, fun m hm => ?_, b2, by rw [hX]; exact x1, p1, p2, fun n' r h1 h2 h3 h4 => ?_⟩
          · rw [rwC, pick_f (fun w => w.2 (by rw [hbn]; exact hg))]; rfl
          · rw [b1 m hm, rwB_s, hbn]
            exact ⟨Or.inl, fun w => w.elim id (fun e => e ▸ hg)⟩
          · refine p3 n' r h1 h2 ?_ h4
            rcases rwB_s.mp h3 with w | w
            · exact w
            · rw [← w, hbn]; exact hg
        · have hbit : ¬ bj (jJ S1 1 3) n = true := fun e => by rw [e] at y; exact absurd y (by decide)
          have hg : ¬ rwB b s c n := fun w => hbit ((b1 n hn).mpr w)
          simp only [shA_0, shA_1, shR_0_0, shr_0_0, shR_0_1, shr_0_1, shR_0_2, shr_0_2, shR_0_3, shr_0_3, shR_0_4, shr_0_4, shR_0_5, shr_0_5, shR_0_6, shr_0_6, shR_0_7, shr_0_7, shR_0_8, shr_0_8, shR_0_9, shr_0_9, shR_1_4, shr_1_4, shR_1_5, shr_1_5, shR_1_6, shr_1_6, shR_1_9, shr_1_9, shR_1_11, shr_1_11, hs1, ne_eq, not_false_eq_true, not_true_eq_false, reduceCtorEq, Nat.reduceEqDiff, forall_eq, true_and, and_true, true_implies, forall_const, implies_true, List.mem_cons, List.not_mem_nil, or_false, false_or, or_self, if_true, if_false, reduceIte, Nat.reduceAdd, Nat.reduceMul, Nat.reduceLT, false_implies, Decidable.not_not, bI_eq0, bI_eq1, upd_at, updL_at, Nat.succ_ne_zero, Int32.reduceToNatClampNeg, eq_self, i01, i10]
          refine sX9_setStorm (b := 1) hs1 hn (by omega) (fun J' hJ => ?_)
          simp only [shA_0, shA_23, shR_0_0, shr_0_0, shR_0_1, shr_0_1, shR_0_2, shr_0_2, shR_0_3, shr_0_3, shR_0_4, shr_0_4, shR_0_5, shr_0_5, shR_0_6, shr_0_6, shR_0_7, shr_0_7, shR_0_8, shr_0_8, shR_0_9, shr_0_9, shR_23_0, shr_23_0, shR_23_1, shr_23_1, shR_23_2, shr_23_2, hs1, jN_uI, jN_uJ, jN_uR, jK_uI, jK_uJ, jK_uR, jZ_uI, jZ_uJ, jZ_uR, jR_uI, jR_uJ, jr_uI, jr_uJ, jI_uJ, jI_uR, jJ_uI, jJ_uR, jI_uI_eq, jI_uI_ne, jJ_uJ_eq, jJ_uJ_ne, jSh_uI, jSh_uJ, jA_uI, jA_uJ, jA_uR, jI_uIf_eq, jI_uIf_ne, jJ_uIf, jR_uIf, jr_uIf, jZ_uIf, jSh_uIf, jA_uIf, ne_eq, not_false_eq_true, not_true_eq_false, reduceCtorEq, Nat.reduceEqDiff, forall_eq, true_and, and_true, true_implies, forall_const, implies_true, List.mem_cons, List.not_mem_nil, or_false, false_or, or_self, if_true, if_false, reduceIte, Nat.reduceAdd, Nat.reduceMul, Nat.reduceLT, false_implies, Decidable.not_not, bI_eq0, bI_eq1, upd_at, updL_at, Nat.succ_ne_zero, Int32.reduceToNatClampNeg, eq_self, i01, i10]
          refine sX1_forget hs1 hn hn (fun S2 ⟨f2, a2, a3, a4⟩ => ?_)
          rw [nI_1, nI_1]
          refine ⟨by omega, S2, ?_, ?_, ?_, ?_, fun m hm => ?_, fun m m1 m2 => ?_, ?_, fun p => ?_, fun p => ?_, fun n' r h1 h2 h3 h4 => ?_⟩
          · rw [rwC, pick_t ⟨by omega, by rw [hbn]; exact hg⟩]
          · exact (f1.uJ (by decide)).tr (f2.mono (by decide))
          · exact (k0.oJ (by decide)).tr (jFk.of f2 (by decide))
          · exact (k1.sJ (by decide)).tr (jFk.of f2 (by decide))
          · rw [f2.J 1 (by decide)]
            simp only [jN_uI, jN_uJ, jN_uR, jK_uI, jK_uJ, jK_uR, jZ_uI, jZ_uJ, jZ_uR, jR_uI, jR_uJ, jr_uI, jr_uJ, jI_uJ, jI_uR, jJ_uI, jJ_uR, jI_uI_eq, jI_uI_ne, jJ_uJ_eq, jJ_uJ_ne, jSh_uI, jSh_uJ, jA_uI, jA_uJ, jA_uR, jI_uIf_eq, jI_uIf_ne, jJ_uIf, jR_uIf, jr_uIf, jZ_uIf, jSh_uIf, jA_uIf, ne_eq, not_false_eq_true, not_true_eq_false, reduceCtorEq, Nat.reduceEqDiff, forall_eq, true_and, and_true, true_implies, forall_const, implies_true, List.mem_cons, List.not_mem_nil, or_false, false_or, or_self, if_true, if_false, reduceIte, Nat.reduceAdd, Nat.reduceMul, Nat.reduceLT, false_implies, Decidable.not_not, bI_eq0, bI_eq1, upd_at, updL_at, Nat.succ_ne_zero, Int32.reduceToNatClampNeg, eq_self, i01, i10, updL_at]
            rw [hJ m (by omega), rwB_s, hbn]
            by_cases e : m = n
            · subst e; simp
            · rw [if_neg e, b1 m hm]
              exact ⟨Or.inl, fun w => w.elim id (fun z => absurd z.symm e)⟩
          · rw [f2.J 1 (by decide)]
            simp only [jN_uI, jN_uJ, jN_uR, jK_uI, jK_uJ, jK_uR, jZ_uI, jZ_uJ, jZ_uR, jR_uI, jR_uJ, jr_uI, jr_uJ, jI_uJ, jI_uR, jJ_uI, jJ_uR, jI_uI_eq, jI_uI_ne, jJ_uJ_eq, jJ_uJ_ne, jSh_uI, jSh_uJ, jA_uI, jA_uJ, jA_uR, jI_uIf_eq, jI_uIf_ne, jJ_uIf, jR_uIf, jr_uIf, jZ_uIf, jSh_uIf, jA_uIf, ne_eq, not_false_eq_true, not_true_eq_false, reduceCtorEq, Nat.reduceEqDiff, forall_eq, true_and, and_true, true_implies, forall_const, implies_true, List.mem_cons, List.not_mem_nil, or_false, false_or, or_self, if_true, if_false, reduceIte, Nat.reduceAdd, Nat.reduceMul, Nat.reduceLT, false_implies, Decidable.not_not, bI_eq0, bI_eq1, upd_at, updL_at, Nat.succ_ne_zero, Int32.reduceToNatClampNeg, eq_self, i01, i10, updL_at]
            rw [hJ m (by omega), if_neg (by omega)]; exact b2 m m1 m2
          · rw [hX, f2.I 0 (by decide)]; simp only [jN_uI, jN_uJ, jN_uR, jK_uI, jK_uJ, jK_uR, jZ_uI, jZ_uJ, jZ_uR, jR_uI, jR_uJ, jr_uI, jr_uJ, jI_uJ, jI_uR, jJ_uI, jJ_uR, jI_uI_eq, jI_uI_ne, jJ_uJ_eq, jJ_uJ_ne, jSh_uI, jSh_uJ, jA_uI, jA_uJ, jA_uR, jI_uIf_eq, jI_uIf_ne, jJ_uIf, jR_uIf, jr_uIf, jZ_uIf, jSh_uIf, jA_uIf, ne_eq, not_false_eq_true, not_true_eq_false, reduceCtorEq, Nat.reduceEqDiff, forall_eq, true_and, and_true, true_implies, forall_const, implies_true, List.mem_cons, List.not_mem_nil, or_false, false_or, or_self, if_true, if_false, reduceIte, Nat.reduceAdd, Nat.reduceMul, Nat.reduceLT, false_implies, Decidable.not_not, bI_eq0, bI_eq1, upd_at, updL_at, Nat.succ_ne_zero, Int32.reduceToNatClampNeg, eq_self, i01, i10]; exact x1
          · rcases a2 p with w | w
            · exact Or.inl w
            · rw [w]; simp only [jN_uI, jN_uJ, jN_uR, jK_uI, jK_uJ, jK_uR, jZ_uI, jZ_uJ, jZ_uR, jR_uI, jR_uJ, jr_uI, jr_uJ, jI_uJ, jI_uR, jJ_uI, jJ_uR, jI_uI_eq, jI_uI_ne, jJ_uJ_eq, jJ_uJ_ne, jSh_uI, jSh_uJ, jA_uI, jA_uJ, jA_uR, jI_uIf_eq, jI_uIf_ne, jJ_uIf, jR_uIf, jr_uIf, jZ_uIf, jSh_uIf, jA_uIf, ne_eq, not_false_eq_true, not_true_eq_false, reduceCtorEq, Nat.reduceEqDiff, forall_eq, true_and, and_true, true_implies, forall_const, implies_true, List.mem_cons, List.not_mem_nil, or_false, false_or, or_self, if_true, if_false, reduceIte, Nat.reduceAdd, Nat.reduceMul, Nat.reduceLT, false_implies, Decidable.not_not, bI_eq0, bI_eq1, upd_at, updL_at, Nat.succ_ne_zero, Int32.reduceToNatClampNeg, eq_self, i01, i10]; exact p1 p
          · rcases a3 p with w | w
            · exact Or.inl w
            · rw [w]; simp only [jN_uI, jN_uJ, jN_uR, jK_uI, jK_uJ, jK_uR, jZ_uI, jZ_uJ, jZ_uR, jR_uI, jR_uJ, jr_uI, jr_uJ, jI_uJ, jI_uR, jJ_uI, jJ_uR, jI_uI_eq, jI_uI_ne, jJ_uJ_eq, jJ_uJ_ne, jSh_uI, jSh_uJ, jA_uI, jA_uJ, jA_uR, jI_uIf_eq, jI_uIf_ne, jJ_uIf, jR_uIf, jr_uIf, jZ_uIf, jSh_uIf, jA_uIf, ne_eq, not_false_eq_true, not_true_eq_false, reduceCtorEq, Nat.reduceEqDiff, forall_eq, true_and, and_true, true_implies, forall_const, implies_true, List.mem_cons, List.not_mem_nil, or_false, false_or, or_self, if_true, if_false, reduceIte, Nat.reduceAdd, Nat.reduceMul, Nat.reduceLT, false_implies, Decidable.not_not, bI_eq0, bI_eq1, upd_at, updL_at, Nat.succ_ne_zero, Int32.reduceToNatClampNeg, eq_self, i01, i10]; exact p2 p
          · by_cases e : n' = n
            · subst e; exact a4 n' r (by omega) (by omega) h2
            · have g' : rwB b s c n' := by
                rcases rwB_s.mp h3 with w | w
                · exact w
                · rw [hbn] at w; exact absurd w.symm e
              obtain ⟨u1, u2⟩ := p3 n' r h1 h2 g' h4
              constructor
              · rcases a2 (n' * 9 + r) with w | w
                · exact w
                · rw [w]; simp only [jN_uI, jN_uJ, jN_uR, jK_uI, jK_uJ, jK_uR, jZ_uI, jZ_uJ, jZ_uR, jR_uI, jR_uJ, jr_uI, jr_uJ, jI_uJ, jI_uR, jJ_uI, jJ_uR, jI_uI_eq, jI_uI_ne, jJ_uJ_eq, jJ_uJ_ne, jSh_uI, jSh_uJ, jA_uI, jA_uJ, jA_uR, jI_uIf_eq, jI_uIf_ne, jJ_uIf, jR_uIf, jr_uIf, jZ_uIf, jSh_uIf, jA_uIf, ne_eq, not_false_eq_true, not_true_eq_false, reduceCtorEq, Nat.reduceEqDiff, forall_eq, true_and, and_true, true_implies, forall_const, implies_true, List.mem_cons, List.not_mem_nil, or_false, false_or, or_self, if_true, if_false, reduceIte, Nat.reduceAdd, Nat.reduceMul, Nat.reduceLT, false_implies, Decidable.not_not, bI_eq0, bI_eq1, upd_at, updL_at, Nat.succ_ne_zero, Int32.reduceToNatClampNeg, eq_self, i01, i10]; exact u1
              · rcases a3 (n' * 9 + r) with w | w
                · exact w
                · rw [w]; simp only [jN_uI, jN_uJ, jN_uR, jK_uI, jK_uJ, jK_uR, jZ_uI, jZ_uJ, jZ_uR, jR_uI, jR_uJ, jr_uI, jr_uJ, jI_uJ, jI_uR, jJ_uI, jJ_uR, jI_uI_eq, jI_uI_ne, jJ_uJ_eq, jJ_uJ_ne, jSh_uI, jSh_uJ, jA_uI, jA_uJ, jA_uR, jI_uIf_eq, jI_uIf_ne, jJ_uIf, jR_uIf, jr_uIf, jZ_uIf, jSh_uIf, jA_uIf, ne_eq, not_false_eq_true, not_true_eq_false, reduceCtorEq, Nat.reduceEqDiff, forall_eq, true_and, and_true, true_implies, forall_const, implies_true, List.mem_cons, List.not_mem_nil, or_false, false_or, or_self, if_true, if_false, reduceIte, Nat.reduceAdd, Nat.reduceMul, Nat.reduceLT, false_implies, Decidable.not_not, bI_eq0, bI_eq1, upd_at, updL_at, Nat.succ_ne_zero, Int32.reduceToNatClampNeg, eq_self, i01, i10]; exact u2
      · have hbn : ¬ b c < 60 := fun w => hx ((in60 hb1).mpr w)
        have hX : rwX b (c + 1) = rwX b c + 1 := by rw [rwX, if_neg hbn]
        have hC : rwC b s (c + 1) = rwC b s c := by rw [rwC, pick_f (fun w => hbn w.1), Nat.add_zero]
        simp only [shA_0, shR_0_0, shr_0_0, shR_0_1, shr_0_1, shR_0_2, shr_0_2, shR_0_3, shr_0_3, shR_0_4, shr_0_4, shR_0_5, shr_0_5, shR_0_6, shr_0_6, shR_0_7, shr_0_7, shR_0_8, shr_0_8, shR_0_9, shr_0_9, hs1, x1, nI_1, ne_eq, not_false_eq_true, not_true_eq_false, reduceCtorEq, Nat.reduceEqDiff, forall_eq, true_and, and_true, true_implies, forall_const, implies_true, List.mem_cons, List.not_mem_nil, or_false, false_or, or_self, if_true, if_false, reduceIte, Nat.reduceAdd, Nat.reduceMul, Nat.reduceLT, false_implies, Decidable.not_not, bI_eq0, bI_eq1, upd_at, updL_at, Nat.succ_ne_zero, Int32.reduceToNatClampNeg, eq_self, i01, i10]
        refine ⟨by omega, _, by rw [hC], f1.uI (by decide), k0.sI (by decide), k1.oI (by decide), fun m hm => ?_, ?_, ?_, ?_, ?_, ?_⟩
        · simp only [jN_uI, jN_uJ, jN_uR, jK_uI, jK_uJ, jK_uR, jZ_uI, jZ_uJ, jZ_uR, jR_uI, jR_uJ, jr_uI, jr_uJ, jI_uJ, jI_uR, jJ_uI, jJ_uR, jI_uI_eq, jI_uI_ne, jJ_uJ_eq, jJ_uJ_ne, jSh_uI, jSh_uJ, jA_uI, jA_uJ, jA_uR, jI_uIf_eq, jI_uIf_ne, jJ_uIf, jR_uIf, jr_uIf, jZ_uIf, jSh_uIf, jA_uIf, ne_eq, not_false_eq_true, not_true_eq_false, reduceCtorEq, Nat.reduceEqDiff, forall_eq, true_and, and_true, true_implies, forall_const, implies_true, List.mem_cons, List.not_mem_nil, or_false, false_or, or_self, if_true, if_false, reduceIte, Nat.reduceAdd, Nat.reduceMul, Nat.reduceLT, false_implies, Decidable.not_not, bI_eq0, bI_eq1, upd_at, updL_at, Nat.succ_ne_zero, Int32.reduceToNatClampNeg, eq_self, i01, i10]
          rw [b1 m hm, rwB_s]
          exact ⟨Or.inl, fun w => w.elim id (fun e => absurd (by omega) hbn)⟩
        · simp only [jN_uI, jN_uJ, jN_uR, jK_uI, jK_uJ, jK_uR, jZ_uI, jZ_uJ, jZ_uR, jR_uI, jR_uJ, jr_uI, jr_uJ, jI_uJ, jI_uR, jJ_uI, jJ_uR, jI_uI_eq, jI_uI_ne, jJ_uJ_eq, jJ_uJ_ne, jSh_uI, jSh_uJ, jA_uI, jA_uJ, jA_uR, jI_uIf_eq, jI_uIf_ne, jJ_uIf, jR_uIf, jr_uIf, jZ_uIf, jSh_uIf, jA_uIf, ne_eq, not_false_eq_true, not_true_eq_false, reduceCtorEq, Nat.reduceEqDiff, forall_eq, true_and, and_true, true_implies, forall_const, implies_true, List.mem_cons, List.not_mem_nil, or_false, false_or, or_self, if_true, if_false, reduceIte, Nat.reduceAdd, Nat.reduceMul, Nat.reduceLT, false_implies, Decidable.not_not, bI_eq0, bI_eq1, upd_at, updL_at, Nat.succ_ne_zero, Int32.reduceToNatClampNeg, eq_self, i01, i10]; exact b2
        · simp only [jN_uI, jN_uJ, jN_uR, jK_uI, jK_uJ, jK_uR, jZ_uI, jZ_uJ, jZ_uR, jR_uI, jR_uJ, jr_uI, jr_uJ, jI_uJ, jI_uR, jJ_uI, jJ_uR, jI_uI_eq, jI_uI_ne, jJ_uJ_eq, jJ_uJ_ne, jSh_uI, jSh_uJ, jA_uI, jA_uJ, jA_uR, jI_uIf_eq, jI_uIf_ne, jJ_uIf, jR_uIf, jr_uIf, jZ_uIf, jSh_uIf, jA_uIf, ne_eq, not_false_eq_true, not_true_eq_false, reduceCtorEq, Nat.reduceEqDiff, forall_eq, true_and, and_true, true_implies, forall_const, implies_true, List.mem_cons, List.not_mem_nil, or_false, false_or, or_self, if_true, if_false, reduceIte, Nat.reduceAdd, Nat.reduceMul, Nat.reduceLT, false_implies, Decidable.not_not, bI_eq0, bI_eq1, upd_at, updL_at, Nat.succ_ne_zero, Int32.reduceToNatClampNeg, eq_self, i01, i10]; rw [hX]
        · simp only [jN_uI, jN_uJ, jN_uR, jK_uI, jK_uJ, jK_uR, jZ_uI, jZ_uJ, jZ_uR, jR_uI, jR_uJ, jr_uI, jr_uJ, jI_uJ, jI_uR, jJ_uI, jJ_uR, jI_uI_eq, jI_uI_ne, jJ_uJ_eq, jJ_uJ_ne, jSh_uI, jSh_uJ, jA_uI, jA_uJ, jA_uR, jI_uIf_eq, jI_uIf_ne, jJ_uIf, jR_uIf, jr_uIf, jZ_uIf, jSh_uIf, jA_uIf, ne_eq, not_false_eq_true, not_true_eq_false, reduceCtorEq, Nat.reduceEqDiff, forall_eq, true_and, and_true, true_implies, forall_const, implies_true, List.mem_cons, List.not_mem_nil, or_false, false_or, or_self, if_true, if_false, reduceIte, Nat.reduceAdd, Nat.reduceMul, Nat.reduceLT, false_implies, Decidable.not_not, bI_eq0, bI_eq1, upd_at, updL_at, Nat.succ_ne_zero, Int32.reduceToNatClampNeg, eq_self, i01, i10]; exact p1
        · simp only [jN_uI, jN_uJ, jN_uR, jK_uI, jK_uJ, jK_uR, jZ_uI, jZ_uJ, jZ_uR, jR_uI, jR_uJ, jr_uI, jr_uJ, jI_uJ, jI_uR, jJ_uI, jJ_uR, jI_uI_eq, jI_uI_ne, jJ_uJ_eq, jJ_uJ_ne, jSh_uI, jSh_uJ, jA_uI, jA_uJ, jA_uR, jI_uIf_eq, jI_uIf_ne, jJ_uIf, jR_uIf, jr_uIf, jZ_uIf, jSh_uIf, jA_uIf, ne_eq, not_false_eq_true, not_true_eq_false, reduceCtorEq, Nat.reduceEqDiff, forall_eq, true_and, and_true, true_implies, forall_const, implies_true, List.mem_cons, List.not_mem_nil, or_false, false_or, or_self, if_true, if_false, reduceIte, Nat.reduceAdd, Nat.reduceMul, Nat.reduceLT, false_implies, Decidable.not_not, bI_eq0, bI_eq1, upd_at, updL_at, Nat.succ_ne_zero, Int32.reduceToNatClampNeg, eq_self, i01, i10]; exact p2
        · simp only [jN_uI, jN_uJ, jN_uR, jK_uI, jK_uJ, jK_uR, jZ_uI, jZ_uJ, jZ_uR, jR_uI, jR_uJ, jr_uI, jr_uJ, jI_uJ, jI_uR, jJ_uI, jJ_uR, jI_uI_eq, jI_uI_ne, jJ_uJ_eq, jJ_uJ_ne, jSh_uI, jSh_uJ, jA_uI, jA_uJ, jA_uR, jI_uIf_eq, jI_uIf_ne, jJ_uIf, jR_uIf, jr_uIf, jZ_uIf, jSh_uIf, jA_uIf, ne_eq, not_false_eq_true, not_true_eq_false, reduceCtorEq, Nat.reduceEqDiff, forall_eq, true_and, and_true, true_implies, forall_const, implies_true, List.mem_cons, List.not_mem_nil, or_false, false_or, or_self, if_true, if_false, reduceIte, Nat.reduceAdd, Nat.reduceMul, Nat.reduceLT, false_implies, Decidable.not_not, bI_eq0, bI_eq1, upd_at, updL_at, Nat.succ_ne_zero, Int32.reduceToNatClampNeg, eq_self, i01, i10]
          intro n' r h1 h2 h3 h4
          refine p3 n' r h1 h2 ?_ h4
          rcases rwB_s.mp h3 with w | w
          · exact w
          · exact absurd (by omega) hbn
  · have := q8.2.1 m hm
    rw [cSt_eq (by omega)] at this
    rw [rwB_0, hsn, ← this]
    cases bj (jJ S 1 3) m <;> simp
/-- the model's loop -/
theorem ml_row {M : JS} {Q : Int32 → JS → Prop} {t : Nat} {b : Nat → Nat} {s : Nat → Prop} (hs : jSh M) (ht : t ≤ 400) (hb : ∀ i, i < t → b i < 256 ∧ jI M 50 i = nI (b i)) (h6 : jI M 45 6 = 0) (hr : ∀ n, n < 60 → jI M 47 (8 + n) = pick (s n) 1 0) (hq : ∀ X, jFr [45, 47] M X → jFk 45 [6] M X → jI X 45 6 = nI (rwX b t) → (∀ n, n < 60 → jI X 47 (8 + n) = pick (rwB b s t n) 1 0) → (∀ k, k < 8 ∨ 68 ≤ k → jI X 47 k = jI M 47 k) → Q (nI (rwC b s t)) (uI X 45 1 0)) : wX12_row_22 45 (nI t) 0 0 M Q := by
  unfold wX12_row_22
  refine jLoop.cnt t (fun c q => ∃ X, q = (45, nI t, nI (rwC b s c), nI c, X) ∧ jFr [45, 47] M X ∧ jFk 45 [6] M X ∧ jI X 45 6 = nI (rwX b c) ∧ (∀ n, n < 60 → jI X 47 (8 + n) = pick (rwB b s c n) 1 0) ∧ ∀ k, k < 8 ∨ 68 ≤ k → jI X 47 k = jI M 47 k) 0 (by omega) ?_ ⟨M, rfl, jFr.refl _ _, jFk.refl _ _ _, h6, fun n hn => by rw [hr n hn]; simp only [rwB_0], fun _ _ => rfl⟩
  rintro c _ hc ⟨X, rfl, f1, k1, x1, r1, r2⟩
  have hs1 := f1.sh.mpr hs
  have cl := rwC_le b s c
  have xl := rwX_le b c
  unfold bX12_row_22 wX12_row_45 wX12_row_64
  simp only [shA_45, shA_50, shZ_50, shR_45_2, shr_45_2, shR_45_3, shr_45_3, shR_45_4, shr_45_4, shR_45_5, shr_45_5, shR_45_7, shr_45_7, shR_45_16, shr_45_16, shR_45_18, shr_45_18, shR_45_19, shr_45_19, shR_45_21, shr_45_21, shR_45_22, shr_45_22, shR_45_25, shr_45_25, shR_45_26, shr_45_26, shR_45_28, shr_45_28, shR_45_29, shr_45_29, shR_45_33, shr_45_33, shR_45_34, shr_45_34, shR_45_35, shr_45_35, shR_45_36, shr_45_36, shR_45_37, shr_45_37, shR_45_38, shr_45_38, shR_45_39, shr_45_39, shR_45_40, shr_45_40, shR_45_42, shr_45_42, hs1, f1.I 50 (by decide), ne_eq, not_false_eq_true, not_true_eq_false, reduceCtorEq, Nat.reduceEqDiff, forall_eq, true_and, and_true, true_implies, forall_const, implies_true, List.mem_cons, List.not_mem_nil, or_false, false_or, or_self, if_true, if_false, reduceIte, Nat.reduceAdd, Nat.reduceMul, Nat.reduceLT, false_implies, Decidable.not_not, bI_eq0, bI_eq1, upd_at, updL_at, Nat.succ_ne_zero, Int32.reduceToNatClampNeg, eq_self, i01, i10]
  rw [nI_le' (by omega) (by omega), nI_tn (by omega)]
  refine ⟨fun z => ?_, fun z => ?_⟩
  · have : c = t := by omega
    subst this
    exact sX12_tell0 (by omega) hs1 (hq X f1 k1 x1 r1 r2)
  · obtain ⟨hb1, hb2⟩ := hb c (by omega)
    refine ⟨nI_in2 (by omega) (by omega), ?_⟩
    rw [hb2]
    refine sX12_isNight (fun n hn en => ⟨fun y => absurd y (by decide), fun _ => ?_⟩) (fun hx => ⟨fun _ => ?_, fun y => absurd rfl y⟩)
    · have hbn : b c = n := by rw [nI_eq' (by omega) (by omega)] at en; exact en
      have hX : rwX b (c + 1) = rwX b c := by rw [rwX, if_pos (by omega), Nat.add_zero]
      simp only [shA_45, shA_47, shZ_47, shA_50, shZ_50, shR_45_2, shr_45_2, shR_45_3, shr_45_3, shR_45_4, shr_45_4, shR_45_5, shr_45_5, shR_45_7, shr_45_7, shR_45_16, shr_45_16, shR_45_18, shr_45_18, shR_45_19, shr_45_19, shR_45_21, shr_45_21, shR_45_22, shr_45_22, shR_45_25, shr_45_25, shR_45_26, shr_45_26, shR_45_28, shr_45_28, shR_45_29, shr_45_29, shR_45_33, shr_45_33, shR_45_34, shr_45_34, shR_45_35, shr_45_35, shR_45_36, shr_45_36, shR_45_37, shr_45_37, shR_45_38, shr_45_38, shR_45_39, shr_45_39, shR_45_40, shr_45_40, shR_45_42, shr_45_42, hs1, f1.I 50 (by decide), hb2, hbn, jN_uI, jN_uJ, jN_uR, jK_uI, jK_uJ, jK_uR, jZ_uI, jZ_uJ, jZ_uR, jR_uI, jR_uJ, jr_uI, jr_uJ, jI_uJ, jI_uR, jJ_uI, jJ_uR, jI_uI_eq, jI_uI_ne, jJ_uJ_eq, jJ_uJ_ne, jSh_uI, jSh_uJ, jA_uI, jA_uJ, jA_uR, jI_uIf_eq, jI_uIf_ne, jJ_uIf, jR_uIf, jr_uIf, jZ_uIf, jSh_uIf, jA_uIf, ne_eq, not_false_eq_true, not_true_eq_false, reduceCtorEq, Nat.reduceEqDiff, forall_eq, true_and, and_true, true_implies, forall_const, implies_true, List.mem_cons, List.not_mem_nil, or_false, false_or, or_self, if_true, if_false, reduceIte, Nat.reduceAdd, Nat.reduceMul, Nat.reduceLT, false_implies, Decidable.not_not, bI_eq0, bI_eq1, upd_at, updL_at, Nat.succ_ne_zero, Int32.reduceToNatClampNeg, eq_self, i01, i10]
      simp (disch := omega) only [li_8, nI_add, nI_tn, nI_inT, hb2, hbn, nI_1, ne_eq, not_false_eq_true, not_true_eq_false, reduceCtorEq, Nat.reduceEqDiff, forall_eq, true_and, and_true, true_implies, forall_const, implies_true, List.mem_cons, List.not_mem_nil, or_false, false_or, or_self, if_true, if_false, reduceIte, Nat.reduceAdd, Nat.reduceMul, Nat.reduceLT, false_implies, Decidable.not_not, bI_eq0, bI_eq1, upd_at, updL_at, Nat.succ_ne_zero, Int32.reduceToNatClampNeg, eq_self, i01, i10]
      have nxt : ∀ v, v = nI (rwC b s (c + 1)) → (c < t ∧ ∃ X', (45, nI t, v, nI (c + 1), uI X 47 (8 + n) 1) = (45, nI t, nI (rwC b s (c + 1)), nI (c + 1), X') ∧ jFr [45, 47] M X' ∧ jFk 45 [6] M X' ∧ jI X' 45 6 = nI (rwX b (c + 1)) ∧ (∀ n, n < 60 → jI X' 47 (8 + n) = pick (rwB b s (c + 1) n) 1 0) ∧ ∀ k, k < 8 ∨ 68 ≤ k → jI X' 47 k = jI M 47 k) := by
        intro v hv
        refine ⟨by omega, _, by rw [hv], f1.uI (by decide), k1.oI (by decide), ?_, fun m hm => ?_, fun k hk => ?_⟩
        · simp only [jN_uI, jN_uJ, jN_uR, jK_uI, jK_uJ, jK_uR, jZ_uI, jZ_uJ, jZ_uR, jR_uI, jR_uJ, jr_uI, jr_uJ, jI_uJ, jI_uR, jJ_uI, jJ_uR, jI_uI_eq, jI_uI_ne, jJ_uJ_eq, jJ_uJ_ne, jSh_uI, jSh_uJ, jA_uI, jA_uJ, jA_uR, jI_uIf_eq, jI_uIf_ne, jJ_uIf, jR_uIf, jr_uIf, jZ_uIf, jSh_uIf, jA_uIf, ne_eq, not_false_eq_true, not_true_eq_false, reduceCtorEq, Nat.reduceEqDiff, forall_eq, true_and, and_true, true_implies, forall_const, implies_true, List.mem_cons, List.not_mem_nil, or_false, false_or, or_self, if_true, if_false, reduceIte, Nat.reduceAdd, Nat.reduceMul, Nat.reduceLT, false_implies, Decidable.not_not, bI_eq0, bI_eq1, upd_at, updL_at, Nat.succ_ne_zero, Int32.reduceToNatClampNeg, eq_self, i01, i10]; rw [hX]; exact x1
        · simp only [jN_uI, jN_uJ, jN_uR, jK_uI, jK_uJ, jK_uR, jZ_uI, jZ_uJ, jZ_uR, jR_uI, jR_uJ, jr_uI, jr_uJ, jI_uJ, jI_uR, jJ_uI, jJ_uR, jI_uI_eq, jI_uI_ne, jJ_uJ_eq, jJ_uJ_ne, jSh_uI, jSh_uJ, jA_uI, jA_uJ, jA_uR, jI_uIf_eq, jI_uIf_ne, jJ_uIf, jR_uIf, jr_uIf, jZ_uIf, jSh_uIf, jA_uIf, ne_eq, not_false_eq_true, not_true_eq_false, reduceCtorEq, Nat.reduceEqDiff, forall_eq, true_and, and_true, true_implies, forall_const, implies_true, List.mem_cons, List.not_mem_nil, or_false, false_or, or_self, if_true, if_false, reduceIte, Nat.reduceAdd, Nat.reduceMul, Nat.reduceLT, false_implies, Decidable.not_not, bI_eq0, bI_eq1, upd_at, updL_at, Nat.succ_ne_zero, Int32.reduceToNatClampNeg, eq_self, i01, i10, upd_at]
          by_cases e : m = n
          · subst e; rw [if_pos rfl, pick_t (rwB_s.mpr (Or.inr hbn))]
          · rw [if_neg (by omega), r1 m hm]
            have : rwB b s (c + 1) m ↔ rwB b s c m := by
              rw [rwB_s, hbn]; exact ⟨fun w => w.elim id (fun y => absurd y.symm e), Or.inl⟩
            simp only [this]
        · simp only [jN_uI, jN_uJ, jN_uR, jK_uI, jK_uJ, jK_uR, jZ_uI, jZ_uJ, jZ_uR, jR_uI, jR_uJ, jr_uI, jr_uJ, jI_uJ, jI_uR, jJ_uI, jJ_uR, jI_uI_eq, jI_uI_ne, jJ_uJ_eq, jJ_uJ_ne, jSh_uI, jSh_uJ, jA_uI, jA_uJ, jA_uR, jI_uIf_eq, jI_uIf_ne, jJ_uIf, jR_uIf, jr_uIf, jZ_uIf, jSh_uIf, jA_uIf, ne_eq, not_false_eq_true, not_true_eq_false, reduceCtorEq, Nat.reduceEqDiff, forall_eq, true_and, and_true, true_implies, forall_const, implies_true, List.mem_cons, List.not_mem_nil, or_false, false_or, or_self, if_true, if_false, reduceIte, Nat.reduceAdd, Nat.reduceMul, Nat.reduceLT, false_implies, Decidable.not_not, bI_eq0, bI_eq1, upd_at, updL_at, Nat.succ_ne_zero, Int32.reduceToNatClampNeg, eq_self, i01, i10, upd_at]
          rw [if_neg (by omega)]; exact r2 k hk
      rw [r1 n hn]
      refine ⟨fun y => ?_, fun y => ?_⟩
      · have hg : rwB b s c n := Classical.byContradiction (fun w => y (pick_f w))
        refine nxt _ ?_
        rw [rwC, pick_f (fun w => w.2 (by rw [hbn]; exact hg)), Nat.add_zero, show (0 : Int32) = nI 0 from rfl, nI_add, Nat.add_zero]
      · have hg : ¬ rwB b s c n := fun w => by rw [pick_t w] at y; exact absurd y (by decide)
        refine nxt _ ?_
        rw [rwC, pick_t ⟨by omega, by rw [hbn]; exact hg⟩]
    · have hbn : ¬ b c < 60 := fun w => hx ((in60 hb1).mpr w)
      have hX : rwX b (c + 1) = rwX b c + 1 := by rw [rwX, if_neg hbn]
      have hC : rwC b s (c + 1) = rwC b s c := by rw [rwC, pick_f (fun w => hbn w.1), Nat.add_zero]
      simp only [shA_45, shR_45_2, shr_45_2, shR_45_3, shr_45_3, shR_45_4, shr_45_4, shR_45_5, shr_45_5, shR_45_7, shr_45_7, shR_45_16, shr_45_16, shR_45_18, shr_45_18, shR_45_19, shr_45_19, shR_45_21, shr_45_21, shR_45_22, shr_45_22, shR_45_25, shr_45_25, shR_45_26, shr_45_26, shR_45_28, shr_45_28, shR_45_29, shr_45_29, shR_45_33, shr_45_33, shR_45_34, shr_45_34, shR_45_35, shr_45_35, shR_45_36, shr_45_36, shR_45_37, shr_45_37, shR_45_38, shr_45_38, shR_45_39, shr_45_39, shR_45_40, shr_45_40, shR_45_42, shr_45_42, hs1, x1, nI_1, jN_uI, jN_uJ, jN_uR, jK_uI, jK_uJ, jK_uR, jZ_uI, jZ_uJ, jZ_uR, jR_uI, jR_uJ, jr_uI, jr_uJ, jI_uJ, jI_uR, jJ_uI, jJ_uR, jI_uI_eq, jI_uI_ne, jJ_uJ_eq, jJ_uJ_ne, jSh_uI, jSh_uJ, jA_uI, jA_uJ, jA_uR, jI_uIf_eq, jI_uIf_ne, jJ_uIf, jR_uIf, jr_uIf, jZ_uIf, jSh_uIf, jA_uIf, ne_eq, not_false_eq_true, not_true_eq_false, reduceCtorEq, Nat.reduceEqDiff, forall_eq, true_and, and_true, true_implies, forall_const, implies_true, List.mem_cons, List.not_mem_nil, or_false, false_or, or_self, if_true, if_false, reduceIte, Nat.reduceAdd, Nat.reduceMul, Nat.reduceLT, false_implies, Decidable.not_not, bI_eq0, bI_eq1, upd_at, updL_at, Nat.succ_ne_zero, Int32.reduceToNatClampNeg, eq_self, i01, i10]
      refine ⟨by omega, _, by rw [hC], f1.uI (by decide), k1.sI (by decide), by simp only [jN_uI, jN_uJ, jN_uR, jK_uI, jK_uJ, jK_uR, jZ_uI, jZ_uJ, jZ_uR, jR_uI, jR_uJ, jr_uI, jr_uJ, jI_uJ, jI_uR, jJ_uI, jJ_uR, jI_uI_eq, jI_uI_ne, jJ_uJ_eq, jJ_uJ_ne, jSh_uI, jSh_uJ, jA_uI, jA_uJ, jA_uR, jI_uIf_eq, jI_uIf_ne, jJ_uIf, jR_uIf, jr_uIf, jZ_uIf, jSh_uIf, jA_uIf, ne_eq, not_false_eq_true, not_true_eq_false, reduceCtorEq, Nat.reduceEqDiff, forall_eq, true_and, and_true, true_implies, forall_const, implies_true, List.mem_cons, List.not_mem_nil, or_false, false_or, or_self, if_true, if_false, reduceIte, Nat.reduceAdd, Nat.reduceMul, Nat.reduceLT, false_implies, Decidable.not_not, bI_eq0, bI_eq1, upd_at, updL_at, Nat.succ_ne_zero, Int32.reduceToNatClampNeg, eq_self, i01, i10]; rw [hX], fun m hm => ?_, fun k hk => ?_⟩
      · simp only [jN_uI, jN_uJ, jN_uR, jK_uI, jK_uJ, jK_uR, jZ_uI, jZ_uJ, jZ_uR, jR_uI, jR_uJ, jr_uI, jr_uJ, jI_uJ, jI_uR, jJ_uI, jJ_uR, jI_uI_eq, jI_uI_ne, jJ_uJ_eq, jJ_uJ_ne, jSh_uI, jSh_uJ, jA_uI, jA_uJ, jA_uR, jI_uIf_eq, jI_uIf_ne, jJ_uIf, jR_uIf, jr_uIf, jZ_uIf, jSh_uIf, jA_uIf, ne_eq, not_false_eq_true, not_true_eq_false, reduceCtorEq, Nat.reduceEqDiff, forall_eq, true_and, and_true, true_implies, forall_const, implies_true, List.mem_cons, List.not_mem_nil, or_false, false_or, or_self, if_true, if_false, reduceIte, Nat.reduceAdd, Nat.reduceMul, Nat.reduceLT, false_implies, Decidable.not_not, bI_eq0, bI_eq1, upd_at, updL_at, Nat.succ_ne_zero, Int32.reduceToNatClampNeg, eq_self, i01, i10]
        rw [r1 m hm]
        have : rwB b s (c + 1) m ↔ rwB b s c m := by
          rw [rwB_s]; exact ⟨fun w => w.elim id (fun y => absurd (by omega) hbn), Or.inl⟩
        simp only [this]
      · simp only [jN_uI, jN_uJ, jN_uR, jK_uI, jK_uJ, jK_uR, jZ_uI, jZ_uJ, jZ_uR, jR_uI, jR_uJ, jr_uI, jr_uJ, jI_uJ, jI_uR, jJ_uI, jJ_uR, jI_uI_eq, jI_uI_ne, jJ_uJ_eq, jJ_uJ_ne, jSh_uI, jSh_uJ, jA_uI, jA_uJ, jA_uR, jI_uIf_eq, jI_uIf_ne, jJ_uIf, jR_uIf, jr_uIf, jZ_uIf, jSh_uIf, jA_uIf, ne_eq, not_false_eq_true, not_true_eq_false, reduceCtorEq, Nat.reduceEqDiff, forall_eq, true_and, and_true, true_implies, forall_const, implies_true, List.mem_cons, List.not_mem_nil, or_false, false_or, or_self, if_true, if_false, reduceIte, Nat.reduceAdd, Nat.reduceMul, Nat.reduceLT, false_implies, Decidable.not_not, bI_eq0, bI_eq1, upd_at, updL_at, Nat.succ_ne_zero, Int32.reduceToNatClampNeg, eq_self, i01, i10]; exact r2 k hk
theorem q_row {S : JS} {Q : Int32 → JS → Prop} (hI : Inv S) (hq : ∀ r S1, Mdl (wX12_row 45) S r S1 → Q r S1) : wX11_row 0 S Q := by
  have hs := hI.1
  obtain ⟨t, t1, t2, t3, t4⟩ := hI.2.2.2.2.1
  unfold wX11_row
  simp only [shA_0, shA_14, shR_0_0, shr_0_0, shR_0_1, shr_0_1, shR_0_2, shr_0_2, shR_0_3, shr_0_3, shR_0_4, shr_0_4, shR_0_5, shr_0_5, shR_0_6, shr_0_6, shR_0_7, shr_0_7, shR_0_8, shr_0_8, shR_0_9, shr_0_9, shR_14_0, shr_14_0, shR_14_2, shr_14_2, shR_14_3, shr_14_3, shR_14_4, shr_14_4, shR_14_5, shr_14_5, shR_14_6, shr_14_6, shR_14_9, shr_14_9, shR_14_10, shr_14_10, hs, t2, ne_eq, not_false_eq_true, not_true_eq_false, reduceCtorEq, Nat.reduceEqDiff, forall_eq, true_and, and_true, true_implies, forall_const, implies_true, List.mem_cons, List.not_mem_nil, or_false, false_or, or_self, if_true, if_false, reduceIte, Nat.reduceAdd, Nat.reduceMul, Nat.reduceLT, false_implies, Decidable.not_not, bI_eq0, bI_eq1, upd_at, updL_at, Nat.succ_ne_zero, Int32.reduceToNatClampNeg, eq_self, i01, i10]
  rw [nI_eq0 (by omega)]
  refine ⟨fun z => ?_, fun z => ?_⟩
  · -- the bytes
    have hb : ∃ b : Nat → Nat, ∀ i, i < t → b i < 256 ∧ jI S 15 i = nI (b i) ∧ jI S 50 i = nI (b i) := by
      refine ⟨fun i => (jI S 50 i).toNatClampNeg, fun i hi => ?_⟩
      obtain ⟨e1, c, c1, c2⟩ := t4 i hi
      have e : (jI S 50 i).toNatClampNeg = c := by rw [c2, nI_tn (by omega)]
      show (jI S 50 i).toNatClampNeg < 256 ∧ jI S 15 i = nI (jI S 50 i).toNatClampNeg ∧ jI S 50 i = nI (jI S 50 i).toNatClampNeg
      rw [e, e1]
      exact ⟨c1, c2, c2⟩
    obtain ⟨b, hb⟩ := hb
    have g0 : jFr [0] S (uI S 0 10 0) := (jFr.refl _ _).uI (by decide)
    have h0 : jFk 0 [10] S (uI S 0 10 0) := (jFk.refl _ _ _).sI (by decide)
    have z10 : jI (uI S 0 10 0) 0 10 = 0 := by simp only [jN_uI, jN_uJ, jN_uR, jK_uI, jK_uJ, jK_uR, jZ_uI, jZ_uJ, jZ_uR, jR_uI, jR_uJ, jr_uI, jr_uJ, jI_uJ, jI_uR, jJ_uI, jJ_uR, jI_uI_eq, jI_uI_ne, jJ_uJ_eq, jJ_uJ_ne, jSh_uI, jSh_uJ, jA_uI, jA_uJ, jA_uR, jI_uIf_eq, jI_uIf_ne, jJ_uIf, jR_uIf, jr_uIf, jZ_uIf, jSh_uIf, jA_uIf, ne_eq, not_false_eq_true, not_true_eq_false, reduceCtorEq, Nat.reduceEqDiff, forall_eq, true_and, and_true, true_implies, forall_const, implies_true, List.mem_cons, List.not_mem_nil, or_false, false_or, or_self, if_true, if_false, reduceIte, Nat.reduceAdd, Nat.reduceMul, Nat.reduceLT, false_implies, Decidable.not_not, bI_eq0, bI_eq1, upd_at, updL_at, Nat.succ_ne_zero, Int32.reduceToNatClampNeg, eq_self, i01, i10]
    generalize uI S 0 10 0 = S0 at g0 h0 z10 ⊢
    have e47 : jI S0 47 = jI S 47 := g0.I 47 (by decide)
    obtain ⟨q1, q2, q3, q4, q5, q6, q7, q8, q9⟩ := MW_iff.mp hI.2.1
    refine cl_row (b := b) (t := t) (g0.sh.mpr hs) (by rw [e47]; exact pS.c q8 (fun _ _ _ => rfl) (by rw [g0.J 1 (by decide)])) t1 (by rw [g0.I 14 (by decide)]; exact t2) (fun i hi => ⟨(hb i hi).1, by rw [g0.I 15 (by decide)]; exact (hb i hi).2.1⟩) z10 (fun S1 f1 k0 k1 b1 b2 x1 p1 p2 p3 => ?_)
    rw [e47] at b1 p3 ⊢
    rw [g0.I 27 (by decide)] at p1
    rw [g0.I 28 (by decide)] at p2
    generalize hsd : (fun n => jI S 47 (8 + n) = 1) = s at b1 p3 ⊢
    have hsn : ∀ n, s n ↔ jI S 47 (8 + n) = 1 := fun n => by rw [← hsd]
    have cl := rwC_le b s t
    have g1 : jFr [0, 1, 14, 27, 28] S (uI S1 14 1 0) := ((g0.mono (by decide)).tr (f1.mono (by decide))).uI (by decide)
    have g1' : jFr [14] S1 (uI S1 14 1 0) := (jFr.refl _ _).uI (by decide)
    have i14 : jI (uI S1 14 1 0) 14 1 = 0 := by simp only [jN_uI, jN_uJ, jN_uR, jK_uI, jK_uJ, jK_uR, jZ_uI, jZ_uJ, jZ_uR, jR_uI, jR_uJ, jr_uI, jr_uJ, jI_uJ, jI_uR, jJ_uI, jJ_uR, jI_uI_eq, jI_uI_ne, jJ_uJ_eq, jJ_uJ_ne, jSh_uI, jSh_uJ, jA_uI, jA_uJ, jA_uR, jI_uIf_eq, jI_uIf_ne, jJ_uIf, jR_uIf, jr_uIf, jZ_uIf, jSh_uIf, jA_uIf, ne_eq, not_false_eq_true, not_true_eq_false, reduceCtorEq, Nat.reduceEqDiff, forall_eq, true_and, and_true, true_implies, forall_const, implies_true, List.mem_cons, List.not_mem_nil, or_false, false_or, or_self, if_true, if_false, reduceIte, Nat.reduceAdd, Nat.reduceMul, Nat.reduceLT, false_implies, Decidable.not_not, bI_eq0, bI_eq1, upd_at, updL_at, Nat.succ_ne_zero, Int32.reduceToNatClampNeg, eq_self, i01, i10]
    generalize uI S1 14 1 0 = S2 at g1 g1' i14 ⊢
    refine sX11_acc hI g1 hq (fun S3 Q' hA k hq' => ?_)
    unfold wX12_row
    refine ⟨hA, fun M eM => ?_⟩
    have hM := k M eM
    obtain ⟨hsM, fM, kM0, kM5, z12, z13⟩ := id hM
    have m8 : jI M 45 8 = nI t := by rw [kM5.I 8 (by decide), g1.I 45 (by decide)]; exact t3
    have eM47 : jI M 47 = jI S 47 := by rw [fM.I 47 (by decide), g1.I 47 (by decide)]
    simp only [shA_45 hsM, m8, jN_uI, jN_uJ, jN_uR, jK_uI, jK_uJ, jK_uR, jZ_uI, jZ_uJ, jZ_uR, jR_uI, jR_uJ, jr_uI, jr_uJ, jI_uJ, jI_uR, jJ_uI, jJ_uR, jI_uI_eq, jI_uI_ne, jJ_uJ_eq, jJ_uJ_ne, jSh_uI, jSh_uJ, jA_uI, jA_uJ, jA_uR, jI_uIf_eq, jI_uIf_ne, jJ_uIf, jR_uIf, jr_uIf, jZ_uIf, jSh_uIf, jA_uIf, ne_eq, not_false_eq_true, not_true_eq_false, reduceCtorEq, Nat.reduceEqDiff, forall_eq, true_and, and_true, true_implies, forall_const, implies_true, List.mem_cons, List.not_mem_nil, or_false, false_or, or_self, if_true, if_false, reduceIte, Nat.reduceAdd, Nat.reduceMul, Nat.reduceLT, false_implies, Decidable.not_not, bI_eq0, bI_eq1, upd_at, updL_at, Nat.succ_ne_zero, Int32.reduceToNatClampNeg, eq_self, i01, i10]
    rw [nI_eq0 (by omega)]
    refine ⟨fun _ => ?_, fun y => absurd y z⟩
    have fN : jFr [45] M (uI (uI M 45 8 0) 45 6 0) := ((jFr.refl _ _).uI (by decide)).uI (by decide)
    have kN : jFk 45 [6, 8] M (uI (uI M 45 8 0) 45 6 0) := ((jFk.refl _ _ _).sI (by decide)).sI (by decide)
    have n8 : jI (uI (uI M 45 8 0) 45 6 0) 45 8 = 0 := by simp only [jN_uI, jN_uJ, jN_uR, jK_uI, jK_uJ, jK_uR, jZ_uI, jZ_uJ, jZ_uR, jR_uI, jR_uJ, jr_uI, jr_uJ, jI_uJ, jI_uR, jJ_uI, jJ_uR, jI_uI_eq, jI_uI_ne, jJ_uJ_eq, jJ_uJ_ne, jSh_uI, jSh_uJ, jA_uI, jA_uJ, jA_uR, jI_uIf_eq, jI_uIf_ne, jJ_uIf, jR_uIf, jr_uIf, jZ_uIf, jSh_uIf, jA_uIf, ne_eq, not_false_eq_true, not_true_eq_false, reduceCtorEq, Nat.reduceEqDiff, forall_eq, true_and, and_true, true_implies, forall_const, implies_true, List.mem_cons, List.not_mem_nil, or_false, false_or, or_self, if_true, if_false, reduceIte, Nat.reduceAdd, Nat.reduceMul, Nat.reduceLT, false_implies, Decidable.not_not, bI_eq0, bI_eq1, upd_at, updL_at, Nat.succ_ne_zero, Int32.reduceToNatClampNeg, eq_self, i01, i10]
    have n6 : jI (uI (uI M 45 8 0) 45 6 0) 45 6 = 0 := by simp only [jN_uI, jN_uJ, jN_uR, jK_uI, jK_uJ, jK_uR, jZ_uI, jZ_uJ, jZ_uR, jR_uI, jR_uJ, jr_uI, jr_uJ, jI_uJ, jI_uR, jJ_uI, jJ_uR, jI_uI_eq, jI_uI_ne, jJ_uJ_eq, jJ_uJ_ne, jSh_uI, jSh_uJ, jA_uI, jA_uJ, jA_uR, jI_uIf_eq, jI_uIf_ne, jJ_uIf, jR_uIf, jr_uIf, jZ_uIf, jSh_uIf, jA_uIf, ne_eq, not_false_eq_true, not_true_eq_false, reduceCtorEq, Nat.reduceEqDiff, forall_eq, true_and, and_true, true_implies, forall_const, implies_true, List.mem_cons, List.not_mem_nil, or_false, false_or, or_self, if_true, if_false, reduceIte, Nat.reduceAdd, Nat.reduceMul, Nat.reduceLT, false_implies, Decidable.not_not, bI_eq0, bI_eq1, upd_at, updL_at, Nat.succ_ne_zero, Int32.reduceToNatClampNeg, eq_self, i01, i10]
    generalize uI (uI M 45 8 0) 45 6 0 = N at fN kN n8 n6 ⊢
    refine ml_row (b := b) (s := s) (fN.sh.mpr hsM) t1 (fun i hi => ⟨(hb i hi).1, by rw [fN.I 50 (by decide), fM.I 50 (by decide), g1.I 50 (by decide)]; exact (hb i hi).2.2⟩) n6 (fun n hn => ?_) (fun X fX kX x6 r1 r2 => ?_)
    · rw [fN.I 47 (by decide), eM47]
      rcases q8.1 n hn with e | e
      · rw [pick_f (fun w => by rw [hsn, e] at w; exact absurd w (by decide))]; exact e
      · rw [pick_t ((hsn n).mpr e)]; exact e
    · have eN47 : jI N 47 = jI S 47 := by rw [fN.I 47 (by decide), eM47]
      rw [eN47] at r2
      have g2 : jFr [0, 45, 47] S2 (uI X 45 1 0) := (((fM.mono (by decide)).tr (fN.mono (by decide))).tr (fX.mono (by decide))).uI (by decide)
      have f : jFr [0, 1, 14, 27, 28, 45, 47] S (uI X 45 1 0) := (g1.mono (by decide)).tr (g2.mono (by decide))
      have k45 : jFk 45 [0, 1, 6, 8] S (uI X 45 1 0) := (((((jFk.of g1 (by decide)).tr (kM5.mono (by decide))).tr (kN.mono (by decide))).tr (kX.mono (by decide))).sI (by decide))
      have kk0 : jFk 0 [12, 13] S2 (uI X 45 1 0) := ((kM0.tr (jFk.of fN (by decide))).tr (jFk.of fX (by decide))).oI (by decide)
      have r1' : ∀ n, n < 60 → jI (uI X 45 1 0) 47 (8 + n) = pick (rwB b s t n) 1 0 := fun n hn => by simp only [jN_uI, jN_uJ, jN_uR, jK_uI, jK_uJ, jK_uR, jZ_uI, jZ_uJ, jZ_uR, jR_uI, jR_uJ, jr_uI, jr_uJ, jI_uJ, jI_uR, jJ_uI, jJ_uR, jI_uI_eq, jI_uI_ne, jJ_uJ_eq, jJ_uJ_ne, jSh_uI, jSh_uJ, jA_uI, jA_uJ, jA_uR, jI_uIf_eq, jI_uIf_ne, jJ_uIf, jR_uIf, jr_uIf, jZ_uIf, jSh_uIf, jA_uIf, ne_eq, not_false_eq_true, not_true_eq_false, reduceCtorEq, Nat.reduceEqDiff, forall_eq, true_and, and_true, true_implies, forall_const, implies_true, List.mem_cons, List.not_mem_nil, or_false, false_or, or_self, if_true, if_false, reduceIte, Nat.reduceAdd, Nat.reduceMul, Nat.reduceLT, false_implies, Decidable.not_not, bI_eq0, bI_eq1, upd_at, updL_at, Nat.succ_ne_zero, Int32.reduceToNatClampNeg, eq_self, i01, i10]; exact r1 n hn
      have r2' : ∀ k, k < 8 ∨ 68 ≤ k → jI (uI X 45 1 0) 47 k = jI S 47 k := fun k hk => by simp only [jN_uI, jN_uJ, jN_uR, jK_uI, jK_uJ, jK_uR, jZ_uI, jZ_uJ, jZ_uR, jR_uI, jR_uJ, jr_uI, jr_uJ, jI_uJ, jI_uR, jJ_uI, jJ_uR, jI_uI_eq, jI_uI_ne, jJ_uJ_eq, jJ_uJ_ne, jSh_uI, jSh_uJ, jA_uI, jA_uJ, jA_uR, jI_uIf_eq, jI_uIf_ne, jJ_uIf, jR_uIf, jr_uIf, jZ_uIf, jSh_uIf, jA_uIf, ne_eq, not_false_eq_true, not_true_eq_false, reduceCtorEq, Nat.reduceEqDiff, forall_eq, true_and, and_true, true_implies, forall_const, implies_true, List.mem_cons, List.not_mem_nil, or_false, false_or, or_self, if_true, if_false, reduceIte, Nat.reduceAdd, Nat.reduceMul, Nat.reduceLT, false_implies, Decidable.not_not, bI_eq0, bI_eq1, upd_at, updL_at, Nat.succ_ne_zero, Int32.reduceToNatClampNeg, eq_self, i01, i10]; exact r2 k hk
      have y6 : jI (uI X 45 1 0) 45 6 = nI (rwX b t) := by simp only [jN_uI, jN_uJ, jN_uR, jK_uI, jK_uJ, jK_uR, jZ_uI, jZ_uJ, jZ_uR, jR_uI, jR_uJ, jr_uI, jr_uJ, jI_uJ, jI_uR, jJ_uI, jJ_uR, jI_uI_eq, jI_uI_ne, jJ_uJ_eq, jJ_uJ_ne, jSh_uI, jSh_uJ, jA_uI, jA_uJ, jA_uR, jI_uIf_eq, jI_uIf_ne, jJ_uIf, jR_uIf, jr_uIf, jZ_uIf, jSh_uIf, jA_uIf, ne_eq, not_false_eq_true, not_true_eq_false, reduceCtorEq, Nat.reduceEqDiff, forall_eq, true_and, and_true, true_implies, forall_const, implies_true, List.mem_cons, List.not_mem_nil, or_false, false_or, or_self, if_true, if_false, reduceIte, Nat.reduceAdd, Nat.reduceMul, Nat.reduceLT, false_implies, Decidable.not_not, bI_eq0, bI_eq1, upd_at, updL_at, Nat.succ_ne_zero, Int32.reduceToNatClampNeg, eq_self, i01, i10]; exact x6
      have y8 : jI (uI X 45 1 0) 45 8 = 0 := by simp only [jN_uI, jN_uJ, jN_uR, jK_uI, jK_uJ, jK_uR, jZ_uI, jZ_uJ, jZ_uR, jR_uI, jR_uJ, jr_uI, jr_uJ, jI_uJ, jI_uR, jJ_uI, jJ_uR, jI_uI_eq, jI_uI_ne, jJ_uJ_eq, jJ_uJ_ne, jSh_uI, jSh_uJ, jA_uI, jA_uJ, jA_uR, jI_uIf_eq, jI_uIf_ne, jJ_uIf, jR_uIf, jr_uIf, jZ_uIf, jSh_uIf, jA_uIf, ne_eq, not_false_eq_true, not_true_eq_false, reduceCtorEq, Nat.reduceEqDiff, forall_eq, true_and, and_true, true_implies, forall_const, implies_true, List.mem_cons, List.not_mem_nil, or_false, false_or, or_self, if_true, if_false, reduceIte, Nat.reduceAdd, Nat.reduceMul, Nat.reduceLT, false_implies, Decidable.not_not, bI_eq0, bI_eq1, upd_at, updL_at, Nat.succ_ne_zero, Int32.reduceToNatClampNeg, eq_self, i01, i10]; rw [kX.I 8 (by decide)]; exact n8
      have y1 : jI (uI X 45 1 0) 45 1 = 0 := by simp only [jN_uI, jN_uJ, jN_uR, jK_uI, jK_uJ, jK_uR, jZ_uI, jZ_uJ, jZ_uR, jR_uI, jR_uJ, jr_uI, jr_uJ, jI_uJ, jI_uR, jJ_uI, jJ_uR, jI_uI_eq, jI_uI_ne, jJ_uJ_eq, jJ_uJ_ne, jSh_uI, jSh_uJ, jA_uI, jA_uJ, jA_uR, jI_uIf_eq, jI_uIf_ne, jJ_uIf, jR_uIf, jr_uIf, jZ_uIf, jSh_uIf, jA_uIf, ne_eq, not_false_eq_true, not_true_eq_false, reduceCtorEq, Nat.reduceEqDiff, forall_eq, true_and, and_true, true_implies, forall_const, implies_true, List.mem_cons, List.not_mem_nil, or_false, false_or, or_self, if_true, if_false, reduceIte, Nat.reduceAdd, Nat.reduceMul, Nat.reduceLT, false_implies, Decidable.not_not, bI_eq0, bI_eq1, upd_at, updL_at, Nat.succ_ne_zero, Int32.reduceToNatClampNeg, eq_self, i01, i10]
      have y13 : jI (uI X 45 1 0) 45 13 = jI S 45 13 := k45.I 13 (by decide)
      have w12 : jI (uI X 45 1 0) 0 12 = 0 := by simp only [jN_uI, jN_uJ, jN_uR, jK_uI, jK_uJ, jK_uR, jZ_uI, jZ_uJ, jZ_uR, jR_uI, jR_uJ, jr_uI, jr_uJ, jI_uJ, jI_uR, jJ_uI, jJ_uR, jI_uI_eq, jI_uI_ne, jJ_uJ_eq, jJ_uJ_ne, jSh_uI, jSh_uJ, jA_uI, jA_uJ, jA_uR, jI_uIf_eq, jI_uIf_ne, jJ_uIf, jR_uIf, jr_uIf, jZ_uIf, jSh_uIf, jA_uIf, ne_eq, not_false_eq_true, not_true_eq_false, reduceCtorEq, Nat.reduceEqDiff, forall_eq, true_and, and_true, true_implies, forall_const, implies_true, List.mem_cons, List.not_mem_nil, or_false, false_or, or_self, if_true, if_false, reduceIte, Nat.reduceAdd, Nat.reduceMul, Nat.reduceLT, false_implies, Decidable.not_not, bI_eq0, bI_eq1, upd_at, updL_at, Nat.succ_ne_zero, Int32.reduceToNatClampNeg, eq_self, i01, i10]; rw [fX.I 0 (by decide), fN.I 0 (by decide)]; exact z12
      have w13 : jI (uI X 45 1 0) 0 13 = 0 := by simp only [jN_uI, jN_uJ, jN_uR, jK_uI, jK_uJ, jK_uR, jZ_uI, jZ_uJ, jZ_uR, jR_uI, jR_uJ, jr_uI, jr_uJ, jI_uJ, jI_uR, jJ_uI, jJ_uR, jI_uI_eq, jI_uI_ne, jJ_uJ_eq, jJ_uJ_ne, jSh_uI, jSh_uJ, jA_uI, jA_uJ, jA_uR, jI_uIf_eq, jI_uIf_ne, jJ_uIf, jR_uIf, jr_uIf, jZ_uIf, jSh_uIf, jA_uIf, ne_eq, not_false_eq_true, not_true_eq_false, reduceCtorEq, Nat.reduceEqDiff, forall_eq, true_and, and_true, true_implies, forall_const, implies_true, List.mem_cons, List.not_mem_nil, or_false, false_or, or_self, if_true, if_false, reduceIte, Nat.reduceAdd, Nat.reduceMul, Nat.reduceLT, false_implies, Decidable.not_not, bI_eq0, bI_eq1, upd_at, updL_at, Nat.succ_ne_zero, Int32.reduceToNatClampNeg, eq_self, i01, i10]; rw [fX.I 0 (by decide), fN.I 0 (by decide)]; exact z13
      generalize uI X 45 1 0 = Y at g2 f k45 kk0 r1' r2' y6 y8 y1 y13 w12 w13 ⊢
      refine hq' _ (hI.accG (f.mono (by decide)) (k45.I 43 (by decide)) ?_ ?_ ⟨0, by omega, by rw [g2.I 14 (by decide)]; exact i14, y8, fun i hi => absurd hi (Nat.not_lt_zero _)⟩ ⟨?_, ?_⟩ w13 w12 y1) (by rw [f.N]; omega)
      · have kk1 : jFk 1 [3] S Y := ((((jFk.of g0 (by decide)).tr k1).tr (jFk.of g1' (by decide))).tr (jFk.of g2 (by decide)))
        have er : ∀ k, (k < 8 ∨ 68 ≤ k) → jI Y 47 k = jI S 47 k := r2'
        have j3 : jJ Y 1 3 = jJ S1 1 3 := by rw [g2.J 1 (by decide), g1'.J 1 (by decide)]
        refine MW_iff.mpr ⟨pR.c q1 (er 0 (by omega)) (kk1.I 0 (by decide)), pM.c q2 (er 1 (by omega)) (kk1.I 1 (by decide)), pU.c q3 (er 2 (by omega)) (kk1.I 2 (by decide)), pL.c q4 f (by decide) (fun k _ => er k (by omega)) (er 3 (by omega)) (er 4 (by omega)) (kk1.I 7 (by decide)) (kk1.I 8 (by decide)), pW.c q5 f (by decide) (er 0 (by omega)) (er 5 (by omega)) (fun k _ _ => er k (by omega)), pQ.c q6 f (by decide) (er 0 (by omega)) (er 6 (by omega)) (fun k _ _ => er k (by omega)), pT.c q7 (er 0 (by omega)) (er 7 (by omega)) (fun k _ _ => er k (by omega)) (kk1.I 10 (by decide)) (f.I 11 (by decide)), ?_, pG.c q9 (fun k _ _ => er k (by omega)) (f.I 12 (by decide))⟩
        refine ⟨fun n hn => ?_, fun n hn => ?_, fun n h1 h2 => ?_⟩
        · rw [r1' n hn]
          rcases Classical.em (rwB b s t n) with h | h
          · rw [pick_t h]; exact Or.inr rfl
          · rw [pick_f h]; exact Or.inl rfl
        · rw [r1' n hn, j3, cSt_eq (by omega)]
          rcases Classical.em (rwB b s t n) with h | h
          · rw [pick_t h, (b1 n hn).mpr h]; rfl
          · rw [pick_f h]
            cases e : bj (jJ S1 1 3) n with
            | false => rfl
            | true => exact absurd ((b1 n hn).mp e) h
        · rw [j3]; exact b2 n h1 h2
      · have e27 : jI Y 27 = jI S1 27 := by rw [g2.I 27 (by decide), g1'.I 27 (by decide)]
        have e28 : jI Y 28 = jI S1 28 := by rw [g2.I 28 (by decide), g1'.I 28 (by decide)]
        obtain ⟨w, w1, w2, _⟩ := hI.2.1.1.2.2.2.2.1
        refine hI.2.2.1.chg (fun m a hm ha => ?_)
        rw [e27, e28]
        rcases Classical.em (rwB b s t m ∧ ¬ s m) with h | h
        · have hh := p3 m a hm ha h.1 (fun y => h.2 ((hsn m).mpr y))
          exact ⟨Or.inl hh.1, Or.inl hh.2⟩
        · have e8 : jI Y 47 (8 + m) = jI S 47 (8 + m) := by
            rw [r1' m hm]
            rcases q8.1 m hm with e | e
            · rw [e, pick_f]
              intro y
              exact h ⟨y, fun w => by rw [hsn, e] at w; exact absurd w (by decide)⟩
            · rw [e, pick_t]
              exact Or.inl ((hsn m).mpr e)
          refine ⟨(p1 _).imp id (fun z => ⟨z, fun i => ?_⟩), (p2 _).imp id (fun z => ⟨z, ?_⟩)⟩
          · exact gSl_c hI.2.1.lf hm (r2' 0 (by omega)) (r2' 1 (by omega)) (r2' 4 (by omega)) e8 (fun j _ _ k _ _ => r2' k (by omega)) (gWd_c (by rw [w2, nI_tn (by omega)]; exact w1) (r2' 5 (by omega)) (fun k _ _ => r2' k (by omega)) a m) i
          · exact gTell_c hI.2.1.lf hm (r2' 0 (by omega)) (r2' 1 (by omega)) (r2' 4 (by omega)) e8 (fun j _ _ k _ _ => r2' k (by omega)) _ _ _
      · rw [kk0.I 10 (by decide), g1'.I 0 (by decide), x1, y6]
      · rw [kk0.I 11 (by decide), g1'.I 0 (by decide), k0.I 11 (by decide), h0.I 11 (by decide), y13]
        exact hI.2.2.2.2.2.2.1.2
  · subst z
    refine sX11_ref 4 6 (Or.inr (Or.inr (Or.inr (Or.inr ⟨rfl, rfl, rfl⟩)))) hI hq (fun S1 Q' hA k => ?_)
    unfold wX12_row
    refine ⟨hA, fun M eM => ?_⟩
    obtain ⟨hsM, hmM, eMI, kM, htl⟩ := k M eM
    have m8 : jI M 45 8 = 0 := by rw [kM.I 8 (by decide)]; exact t3
    simp only [shA_45 hsM, m8, uI_same m8, ne_eq, not_false_eq_true, not_true_eq_false, reduceCtorEq, Nat.reduceEqDiff, forall_eq, true_and, and_true, true_implies, forall_const, implies_true, List.mem_cons, List.not_mem_nil, or_false, false_or, or_self, if_true, if_false, reduceIte, Nat.reduceAdd, Nat.reduceMul, Nat.reduceLT, false_implies, Decidable.not_not, bI_eq0, bI_eq1, upd_at, updL_at, Nat.succ_ne_zero, Int32.reduceToNatClampNeg, eq_self, i01, i10]
    exact htl
end ROW
