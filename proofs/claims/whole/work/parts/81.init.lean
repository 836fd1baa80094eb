/-! A NEW WORLD -/
/-- one array more, and a field that holds it -/
theorem new1 {S S' : JS} {a i m b : Nat} (hb : b = jN S) (e : S' = uR (uNew S 13 m) a i (some b)) (ha : a < jN S) : jEx (fun _ => False) (fun h => h = a) S S' ∧ jN S' = jN S + 1 ∧ jK S' (jN S) = 13 ∧ jZ S' (jN S) = m ∧ jR S' a i = some (jN S) ∧ ∀ k, k ≠ i → jR S' a k = jR S a k := by
  subst e hb
  refine ⟨jEx.refl.new.uR (fun _ => rfl), rfl, ?_, ?_, ?_, fun k hk => ?_⟩
  · rw [jK_uR, jK_uNew, if_pos rfl]
  · rw [jZ_uR, jZ_uNew, if_pos rfl]
  · rw [jR_uR_eq, va_up, if_pos rfl]
  · rw [jR_uR_eq, va_up, if_neg hk, jR_uNew, if_neg (by omega)]
theorem sX8_init {S : JS} {Q : JS → Prop} {a m : Nat} (hA : jA S a 8) (hm : m ≤ 16) (hN : jN S < 999000) (h : ∀ S', jEx (fun _ => False) (fun h => h = a) S S' → jN S' = jN S + 3 → (∀ i, i < 3 → jK S' (jN S + i) = 13 ∧ jZ S' (jN S + i) = m ∧ jR S' a i = some (jN S + i)) → Q S') : wX8_init a (nI m) S Q := by
  unfold wX8_init
  rw [nI_tn (by omega)]
  have hlt : a < jN S := hA.1
  have nw : ∀ {X : JS} {k z : Nat}, jA X a 8 → jA (uNew X k z) a 8 := fun q => (jEx.refl (PI := fun _ => False) (PR := fun _ => False)).new.A q
  refine ⟨nI_pos (by omega), by omega, by omega, by omega, fun h6 e6 S1 e1 => ⟨by rw [e1]; exact nw hA, fun S8 e8 => ?_⟩⟩
  rw [e1] at e8
  obtain ⟨x8, n8, k8, z8, r8, o8⟩ := new1 e6 e8 hlt
  refine ⟨by omega, by omega, fun h12 e12 S9 e9 => ⟨by rw [e9]; exact nw (x8.A hA), fun S14 e14 => ?_⟩⟩
  rw [e9] at e14
  obtain ⟨x14, n14, k14, z14, r14, o14⟩ := new1 e12 e14 (by omega)
  refine ⟨by omega, by omega, fun h18 e18 S15 e15 => ⟨by rw [e15]; exact nw (x14.A (x8.A hA)), fun S20 e20 => ?_⟩⟩
  rw [e15] at e20
  obtain ⟨x20, n20, k20, z20, r20, o20⟩ := new1 e18 e20 (by omega)
  refine h S20 ((x8.tr x14).tr x20) (by omega) (fun i hi => ?_)
  rw [n8] at k14 z14 r14
  rw [n14, n8] at k20 z20 r20
  rcases (by omega : i = 0 ∨ i = 1 ∨ i = 2) with e | e | e <;> subst e
  · rw [Nat.add_zero, x20.K (by omega), x14.K (by omega), x20.Z (by omega), x14.Z (by omega), o20 0 (by omega), o14 0 (by omega)]
    exact ⟨k8, z8, r8⟩
  · rw [x20.K (by omega), x20.Z (by omega), o20 1 (by omega)]
    exact ⟨k14, z14, r14⟩
  · exact ⟨k20, z20, r20⟩
set_option maxRecDepth 20000 in
theorem sX9_init {S : JS} {Q : JS → Prop} {w : Nat} (hw : jN S = w + 1) (hK : jK S w = 9) (hZ : jZ S w = 12) (hN : w < 990000) (h : ∀ S', jEx (fun h => h = w) (fun h => h = w) S S' → jN S' = w + 12 → WS S' w → (∀ i, jR S' (w + 9) i = none) → jI S' w 0 = 9 → jI S' w 1 = jI S w 1 → jI S' w 2 = 50 → jI S' w 7 = jI S w 7 → jI S' w 8 = -1 → jI S' w 10 = jI S w 10 → jJ S' w = jJ S w → (∀ i, jI S' (w + 1) i = 0 ∧ jI S' (w + 5) i = 0 ∧ jI S' (w + 10) i = 0 ∧ jI S' (w + 11) i = 0) → Q S') : wX9_init w S Q := by
  have hA : jA S w 9 := ⟨by omega, hK⟩
  unfold wX9_init
  refine ⟨hA, fun S2 e2 => ⟨by rw [e2]; exact hA, fun S4 e4 => ?_⟩⟩
  have x4 : jEx (fun h => h = w) (fun h => h = w) S S4 := by rw [e4, e2]; exact ((jEx.refl (PI := fun h => h = w) (PR := fun h => h = w)).uI (fun _ => rfl)).uI (fun _ => rfl)
  have n4 : jN S4 = w + 1 := by rw [e4, e2]; exact hw
  have i40 : jI S4 w = upd (upd (jI S w) 0 9) 2 50 := by rw [e4, e2]; simp only [jN_uI, jN_uJ, jN_uR, jK_uI, jK_uJ, jK_uR, jZ_uI, jZ_uJ, jZ_uR, jR_uI, jR_uJ, jr_uI, jr_uJ, jI_uJ, jI_uR, jJ_uI, jJ_uR, jI_uI_eq, jI_uI_ne, jJ_uJ_eq, jJ_uJ_ne, jSh_uI, jSh_uJ, jA_uI, jA_uJ, jA_uR, jI_uIf_eq, jI_uIf_ne, jJ_uIf, jR_uIf, jr_uIf, jZ_uIf, jSh_uIf, jA_uIf, ne_eq, not_false_eq_true, not_true_eq_false, reduceCtorEq, Nat.reduceEqDiff, forall_eq, true_and, and_true, true_implies, forall_const, implies_true, List.mem_cons, List.not_mem_nil, or_false, false_or, or_self, if_true, if_false, reduceIte, Nat.reduceAdd, Nat.reduceMul, Nat.reduceLT, false_implies, Decidable.not_not, bI_eq0, bI_eq1, upd_at, updL_at, Nat.succ_ne_zero, Int32.reduceToNatClampNeg, eq_self, i01, i10]
  have j4 : jJ S4 w = jJ S w := by rw [e4, e2]; rfl
  clear e2 e4
  refine ⟨by omega, fun a ea S5 e5 => ?_⟩
  rw [n4] at ea
  subst ea
  have x5 : jEx (fun h => h = w) (fun h => h = w) S4 S5 := by rw [e5]; exact jEx.refl.new
  have n5 : jN S5 = w + 2 := by rw [e5, jN_uNew, n4]
  have k5 : jK S5 (w + 1) = 8 ∧ jZ S5 (w + 1) = 4 ∧ jI S5 (w + 1) = fun _ => 0 := by rw [e5, jK_uNew, jZ_uNew, jI_uNew, n4, if_pos rfl, if_pos rfl, if_pos rfl]; exact ⟨rfl, rfl, rfl⟩
  have i5 : jI S5 w = jI S4 w ∧ jJ S5 w = jJ S4 w := by rw [e5, jI_uNew, jJ_uNew, if_neg (by omega), if_neg (by omega)]; exact ⟨rfl, rfl⟩
  clear e5
  refine ⟨⟨by omega, k5.1⟩, sX8_init (m := 4) ⟨by omega, k5.1⟩ (by omega) (by omega) (fun S8 x8 n8 s8 => ⟨x8.A ((x4.tr x5).A hA), fun S12 e12 => ?_⟩)⟩
  rw [n5] at n8 s8
  have x12 : jEx (fun _ => False) (fun h => h = w ∨ h = w + 1) S5 S12 := by rw [e12]; exact (x8.mono (fun _ _ z => z) (fun _ _ z => Or.inr z)).uR (fun _ => Or.inl rfl)
  have n12 : jN S12 = w + 5 := by rw [e12]; show jN S8 = _; omega
  have s12 : ∀ i, i < 3 → jK S12 (w + 2 + i) = 13 ∧ jZ S12 (w + 2 + i) = 4 ∧ jR S12 (w + 1) i = some (w + 2 + i) := by rw [e12, jK_uR, jZ_uR, jR_uR_ne (by omega)]; exact s8
  have r12 : jR S12 w 4 = some (w + 1) := by rw [e12, jR_uR_eq]; rfl
  clear e12 s8 n8 x8
  refine ⟨by omega, fun b eb S13 e13 => ?_⟩
  rw [n12] at eb
  subst eb
  have x13 : jEx (fun _ => False) (fun _ => False) S12 S13 := by rw [e13]; exact jEx.refl.new
  have n13 : jN S13 = w + 6 := by rw [e13, jN_uNew, n12]
  have k13 : jK S13 (w + 5) = 8 ∧ jZ S13 (w + 5) = 4 ∧ jI S13 (w + 5) = fun _ => 0 := by rw [e13, jK_uNew, jZ_uNew, jI_uNew, n12, if_pos rfl, if_pos rfl, if_pos rfl]; exact ⟨rfl, rfl, rfl⟩
  clear e13
  have A13 : jA S13 w 9 := x13.A (x12.A ((x4.tr x5).A hA))
  refine ⟨⟨by omega, k13.1⟩, sX8_init (m := 16) ⟨by omega, k13.1⟩ (by omega) (by omega) (fun S16 x16 n16 s16 => ⟨x16.A A13, fun S20 e20 => ?_⟩)⟩
  rw [n13] at n16 s16
  have x20 : jEx (fun _ => False) (fun h => h = w ∨ h = w + 5) S13 S20 := by rw [e20]; exact (x16.mono (fun _ _ z => z) (fun _ _ z => Or.inr z)).uR (fun _ => Or.inl rfl)
  have n20 : jN S20 = w + 9 := by rw [e20]; show jN S16 = _; omega
  have s20 : ∀ i, i < 3 → jK S20 (w + 6 + i) = 13 ∧ jZ S20 (w + 6 + i) = 16 ∧ jR S20 (w + 5) i = some (w + 6 + i) := by rw [e20, jK_uR, jZ_uR, jR_uR_ne (by omega)]; exact s16
  have r20 : jR S20 w 5 = some (w + 5) ∧ jR S20 w 4 = some (w + 1) := by
    rw [e20, jR_uR_eq]
    refine ⟨rfl, ?_⟩
    show jR S16 w 4 = _
    rw [x16.R (by omega) (by omega), x13.R (by omega) id]; exact r12
  clear e20 s16 n16 x16 r12
  refine ⟨by omega, fun c ec S21 e21 => ?_⟩
  rw [n20] at ec
  subst ec
  refine ⟨by rw [e21]; exact jEx.new (PI := fun _ => False) (PR := fun _ => False) jEx.refl |>.A (x20.A A13), fun S25 e25 => ⟨?_, fun S27 e27 => ?_⟩⟩
  · rw [e25, jA_uR, e21]; exact jEx.new (PI := fun _ => False) (PR := fun _ => False) jEx.refl |>.A (x20.A A13)
  have x27 : jEx (fun h => h = w) (fun h => h = w) S20 S27 := by rw [e27, e25, e21]; exact ((jEx.refl (PI := fun h => h = w) (PR := fun h => h = w)).new.uR (fun _ => rfl)).uI (fun _ => rfl)
  have n27 : jN S27 = w + 10 := by rw [e27, e25, e21]; show jN S20 + 1 = _; omega
  have k27 : jK S27 (w + 9) = 16 ∧ jZ S27 (w + 9) = 6 ∧ ∀ i, jR S27 (w + 9) i = none := by
    rw [e27, e25, e21]
    simp only [jN_uI, jN_uJ, jN_uR, jK_uI, jK_uJ, jK_uR, jZ_uI, jZ_uJ, jZ_uR, jR_uI, jR_uJ, jr_uI, jr_uJ, jI_uJ, jI_uR, jJ_uI, jJ_uR, jI_uI_eq, jI_uI_ne, jJ_uJ_eq, jJ_uJ_ne, jSh_uI, jSh_uJ, jA_uI, jA_uJ, jA_uR, jI_uIf_eq, jI_uIf_ne, jJ_uIf, jR_uIf, jr_uIf, jZ_uIf, jSh_uIf, jA_uIf, jK_uNew, jZ_uNew, n20, if_pos]
    rw [jR_uR_ne (by omega), jR_uNew, n20, if_pos rfl]
    exact ⟨trivial, trivial, fun _ => rfl⟩
  have r27 : jR S27 w 6 = some (w + 9) ∧ jR S27 w 5 = some (w + 5) ∧ jR S27 w 4 = some (w + 1) := by
    rw [e27, e25, e21]
    simp only [jN_uI, jN_uJ, jN_uR, jK_uI, jK_uJ, jK_uR, jZ_uI, jZ_uJ, jZ_uR, jR_uI, jR_uJ, jr_uI, jr_uJ, jI_uJ, jI_uR, jJ_uI, jJ_uR, jI_uI_eq, jI_uI_ne, jJ_uJ_eq, jJ_uJ_ne, jSh_uI, jSh_uJ, jA_uI, jA_uJ, jA_uR, jI_uIf_eq, jI_uIf_ne, jJ_uIf, jR_uIf, jr_uIf, jZ_uIf, jSh_uIf, jA_uIf, jR_uR_eq, va_up, jR_uNew, n20, if_neg (show ¬ w = w + 9 by omega), ne_eq, not_false_eq_true, not_true_eq_false, reduceCtorEq, Nat.reduceEqDiff, forall_eq, true_and, and_true, true_implies, forall_const, implies_true, List.mem_cons, List.not_mem_nil, or_false, false_or, or_self, if_true, if_false, reduceIte, Nat.reduceAdd, Nat.reduceMul, Nat.reduceLT, false_implies, Decidable.not_not, bI_eq0, bI_eq1, upd_at, updL_at, Nat.succ_ne_zero, Int32.reduceToNatClampNeg, eq_self, i01, i10]
    exact r20
  have i27 : jI S27 w = upd (jI S20 w) 8 (-1) ∧ jJ S27 w = jJ S20 w := by
    rw [e27, e25, e21, jI_uI_eq]
    simp only [jN_uI, jN_uJ, jN_uR, jK_uI, jK_uJ, jK_uR, jZ_uI, jZ_uJ, jZ_uR, jR_uI, jR_uJ, jr_uI, jr_uJ, jI_uJ, jI_uR, jJ_uI, jJ_uR, jI_uI_eq, jI_uI_ne, jJ_uJ_eq, jJ_uJ_ne, jSh_uI, jSh_uJ, jA_uI, jA_uJ, jA_uR, jI_uIf_eq, jI_uIf_ne, jJ_uIf, jR_uIf, jr_uIf, jZ_uIf, jSh_uIf, jA_uIf, jI_uNew, jJ_uNew, n20, if_neg (show ¬ w = w + 9 by omega), ne_eq, not_false_eq_true, not_true_eq_false, reduceCtorEq, Nat.reduceEqDiff, forall_eq, true_and, and_true, true_implies, forall_const, implies_true, List.mem_cons, List.not_mem_nil, or_false, false_or, or_self, if_true, if_false, reduceIte, Nat.reduceAdd, Nat.reduceMul, Nat.reduceLT, false_implies, Decidable.not_not, bI_eq0, bI_eq1, upd_at, updL_at, Nat.succ_ne_zero, Int32.reduceToNatClampNeg, eq_self, i01, i10]
  have A27 : jA S27 w 9 := x27.A (x20.A A13)
  clear e27 e25 e21 r20
  refine ⟨by omega, fun d ed S28 e28 => ?_⟩
  rw [n27] at ed
  subst ed
  refine ⟨by rw [e28]; exact jEx.new (PI := fun _ => False) (PR := fun _ => False) jEx.refl |>.A A27, fun S32 e32 => ?_⟩
  have x32 : jEx (fun _ => False) (fun h => h = w) S27 S32 := by rw [e32, e28]; exact jEx.refl.new.uR (fun _ => rfl)
  have n32 : jN S32 = w + 11 := by rw [e32, e28]; show jN S27 + 1 = _; omega
  have k32 : jK S32 (w + 10) = 13 ∧ jZ S32 (w + 10) = 60 ∧ jI S32 (w + 10) = fun _ => 0 := by
    rw [e32, e28]
    simp only [jN_uI, jN_uJ, jN_uR, jK_uI, jK_uJ, jK_uR, jZ_uI, jZ_uJ, jZ_uR, jR_uI, jR_uJ, jr_uI, jr_uJ, jI_uJ, jI_uR, jJ_uI, jJ_uR, jI_uI_eq, jI_uI_ne, jJ_uJ_eq, jJ_uJ_ne, jSh_uI, jSh_uJ, jA_uI, jA_uJ, jA_uR, jI_uIf_eq, jI_uIf_ne, jJ_uIf, jR_uIf, jr_uIf, jZ_uIf, jSh_uIf, jA_uIf, jK_uNew, jZ_uNew, jI_uNew, n27, if_pos]
    exact ⟨trivial, trivial, trivial⟩
  have r32 : jR S32 w 9 = some (w + 10) ∧ jR S32 w 6 = some (w + 9) ∧ jR S32 w 5 = some (w + 5) ∧ jR S32 w 4 = some (w + 1) := by
    rw [e32, e28]
    simp only [jN_uI, jN_uJ, jN_uR, jK_uI, jK_uJ, jK_uR, jZ_uI, jZ_uJ, jZ_uR, jR_uI, jR_uJ, jr_uI, jr_uJ, jI_uJ, jI_uR, jJ_uI, jJ_uR, jI_uI_eq, jI_uI_ne, jJ_uJ_eq, jJ_uJ_ne, jSh_uI, jSh_uJ, jA_uI, jA_uJ, jA_uR, jI_uIf_eq, jI_uIf_ne, jJ_uIf, jR_uIf, jr_uIf, jZ_uIf, jSh_uIf, jA_uIf, jR_uR_eq, va_up, jR_uNew, n27, if_neg (show ¬ w = w + 10 by omega), ne_eq, not_false_eq_true, not_true_eq_false, reduceCtorEq, Nat.reduceEqDiff, forall_eq, true_and, and_true, true_implies, forall_const, implies_true, List.mem_cons, List.not_mem_nil, or_false, false_or, or_self, if_true, if_false, reduceIte, Nat.reduceAdd, Nat.reduceMul, Nat.reduceLT, false_implies, Decidable.not_not, bI_eq0, bI_eq1, upd_at, updL_at, Nat.succ_ne_zero, Int32.reduceToNatClampNeg, eq_self, i01, i10]
    exact r27
  have A32 : jA S32 w 9 := x32.A A27
  clear e32 e28 r27
  refine ⟨by omega, fun g eg S33 e33 => ?_⟩
  rw [n32] at eg
  subst eg
  refine ⟨by rw [e33]; exact jEx.new (PI := fun _ => False) (PR := fun _ => False) jEx.refl |>.A A32, fun S37 e37 => ?_⟩
  have x37 : jEx (fun _ => False) (fun h => h = w) S32 S37 := by rw [e37, e33]; exact jEx.refl.new.uR (fun _ => rfl)
  have n37 : jN S37 = w + 12 := by rw [e37, e33]; show jN S32 + 1 = _; omega
  have k37 : jK S37 (w + 11) = 13 ∧ jZ S37 (w + 11) = 12 ∧ jI S37 (w + 11) = fun _ => 0 := by
    rw [e37, e33]
    simp only [jN_uI, jN_uJ, jN_uR, jK_uI, jK_uJ, jK_uR, jZ_uI, jZ_uJ, jZ_uR, jR_uI, jR_uJ, jr_uI, jr_uJ, jI_uJ, jI_uR, jJ_uI, jJ_uR, jI_uI_eq, jI_uI_ne, jJ_uJ_eq, jJ_uJ_ne, jSh_uI, jSh_uJ, jA_uI, jA_uJ, jA_uR, jI_uIf_eq, jI_uIf_ne, jJ_uIf, jR_uIf, jr_uIf, jZ_uIf, jSh_uIf, jA_uIf, jK_uNew, jZ_uNew, jI_uNew, n32, if_pos]
    exact ⟨trivial, trivial, trivial⟩
  have r37 : jR S37 w 11 = some (w + 11) ∧ jR S37 w 9 = some (w + 10) ∧ jR S37 w 6 = some (w + 9) ∧ jR S37 w 5 = some (w + 5) ∧ jR S37 w 4 = some (w + 1) := by
    rw [e37, e33]
    simp only [jN_uI, jN_uJ, jN_uR, jK_uI, jK_uJ, jK_uR, jZ_uI, jZ_uJ, jZ_uR, jR_uI, jR_uJ, jr_uI, jr_uJ, jI_uJ, jI_uR, jJ_uI, jJ_uR, jI_uI_eq, jI_uI_ne, jJ_uJ_eq, jJ_uJ_ne, jSh_uI, jSh_uJ, jA_uI, jA_uJ, jA_uR, jI_uIf_eq, jI_uIf_ne, jJ_uIf, jR_uIf, jr_uIf, jZ_uIf, jSh_uIf, jA_uIf, jR_uR_eq, va_up, jR_uNew, n32, if_neg (show ¬ w = w + 11 by omega), ne_eq, not_false_eq_true, not_true_eq_false, reduceCtorEq, Nat.reduceEqDiff, forall_eq, true_and, and_true, true_implies, forall_const, implies_true, List.mem_cons, List.not_mem_nil, or_false, false_or, or_self, if_true, if_false, reduceIte, Nat.reduceAdd, Nat.reduceMul, Nat.reduceLT, false_implies, Decidable.not_not, bI_eq0, bI_eq1, upd_at, updL_at, Nat.succ_ne_zero, Int32.reduceToNatClampNeg, eq_self, i01, i10]
    exact r32
  clear e37 e33 r32
  -- gathered
  have y27 : jEx (fun _ => False) (fun h => h = w) S27 S37 := x32.tr x37
  have y20 : jEx (fun h => h = w) (fun h => h = w) S20 S37 := x27.tr (y27.mono (fun _ _ z => z.elim) (fun _ _ z => z))
  have y13 : jEx (fun h => h = w) (fun h => h = w ∨ h = w + 5) S13 S37 := (x20.mono (fun _ _ z => z.elim) (fun _ _ z => z)).tr (y20.mono (fun _ _ z => z) (fun _ _ z => Or.inl z))
  have y12 : jEx (fun h => h = w) (fun h => h = w ∨ h = w + 5) S12 S37 := (x13.mono (fun _ _ z => z.elim) (fun _ _ z => z.elim)).tr y13
  have y5 : jEx (fun h => h = w) (fun h => h = w ∨ h = w + 1 ∨ h = w + 5) S5 S37 := (x12.mono (fun _ _ z => z.elim) (fun _ _ z => by omega)).tr (y12.mono (fun _ _ z => z) (fun _ _ z => by omega))
  have yS : jEx (fun h => h = w) (fun h => h = w ∨ h = w + 1 ∨ h = w + 5) S S37 := ((x4.tr x5).mono (fun _ _ z => z) (fun _ _ z => Or.inl z)).tr y5
  have iw : jI S37 w = upd (jI S4 w) 8 (-1) ∧ jJ S37 w = jJ S w := by
    rw [y27.I (by omega) id, y27.J (by omega) id, i27.1, i27.2, x20.I (by omega) id, x20.J (by omega) id, x13.I (by omega) id, x13.J (by omega) id, x12.I (by omega) id, x12.J (by omega) id, i5.1, i5.2, j4]
    exact ⟨rfl, rfl⟩
  have w0 : jK S37 w = 9 ∧ jZ S37 w = 12 := by rw [yS.K (by omega), yS.Z (by omega)]; exact ⟨hK, hZ⟩
  have w1 : jK S37 (w + 1) = 8 ∧ jZ S37 (w + 1) = 4 := by rw [y5.K (by omega), y5.Z (by omega)]; exact ⟨k5.1, k5.2.1⟩
  have w2 : ∀ i, i < 3 → jK S37 (w + 2 + i) = 13 ∧ jZ S37 (w + 2 + i) = 4 ∧ jR S37 (w + 1) i = some (w + 2 + i) := fun i hi => by
    rw [y12.K (by omega), y12.Z (by omega), y12.R (by omega) (by omega)]; exact s12 i hi
  have w5 : jK S37 (w + 5) = 8 ∧ jZ S37 (w + 5) = 4 := by rw [y13.K (by omega), y13.Z (by omega)]; exact ⟨k13.1, k13.2.1⟩
  have w6 : ∀ i, i < 3 → jK S37 (w + 6 + i) = 13 ∧ jZ S37 (w + 6 + i) = 16 ∧ jR S37 (w + 5) i = some (w + 6 + i) := fun i hi => by
    rw [y20.K (by omega), y20.Z (by omega), y20.R (by omega) (by omega)]; exact s20 i hi
  have w9 : jK S37 (w + 9) = 16 ∧ jZ S37 (w + 9) = 6 ∧ ∀ i, jR S37 (w + 9) i = none := by
    rw [y27.K (by omega), y27.Z (by omega), y27.R (by omega) (by omega)]; exact k27
  have w10 : jK S37 (w + 10) = 13 ∧ jZ S37 (w + 10) = 60 := by rw [x37.K (by omega), x37.Z (by omega)]; exact ⟨k32.1, k32.2.1⟩
  refine h S37 (yS.mono (fun _ _ z => z) (fun g hg z => by omega)) n37 ⟨by omega, fun q hq => ?_, fun q hq => ?_⟩ w9.2.2 ?_ ?_ ?_ ?_ ?_ ?_ iw.2 (fun i => ⟨?_, ?_, ?_, ?_⟩)
  · simp only [wdKZ, List.mem_cons, List.not_mem_nil, or_false] at hq
    rcases hq with e | e | e | e | e | e | e | e | e | e | e | e <;> subst e
    · exact w0
    · exact w1
    · exact ⟨(w2 0 (by omega)).1, (w2 0 (by omega)).2.1⟩
    · exact ⟨(w2 1 (by omega)).1, (w2 1 (by omega)).2.1⟩
    · exact ⟨(w2 2 (by omega)).1, (w2 2 (by omega)).2.1⟩
    · exact w5
    · exact ⟨(w6 0 (by omega)).1, (w6 0 (by omega)).2.1⟩
    · exact ⟨(w6 1 (by omega)).1, (w6 1 (by omega)).2.1⟩
    · exact ⟨(w6 2 (by omega)).1, (w6 2 (by omega)).2.1⟩
    · exact ⟨w9.1, w9.2.1⟩
    · exact w10
    · exact ⟨k37.1, k37.2.1⟩
  · simp only [wdRR, List.mem_cons, List.not_mem_nil, or_false] at hq
    rcases hq with e | e | e | e | e | e | e | e | e | e | e <;> subst e
    · exact r37.2.2.2.2
    · exact r37.2.2.2.1
    · exact r37.2.2.1
    · exact r37.2.1
    · exact r37.1
    · exact (w2 0 (by omega)).2.2
    · exact (w2 1 (by omega)).2.2
    · exact (w2 2 (by omega)).2.2
    · exact (w6 0 (by omega)).2.2
    · exact (w6 1 (by omega)).2.2
    · exact (w6 2 (by omega)).2.2
  · rw [iw.1, i40]; rfl
  · rw [iw.1, i40]; rfl
  · rw [iw.1, i40]; rfl
  · rw [iw.1, i40]; rfl
  · rw [iw.1, i40]; rfl
  · rw [iw.1, i40]; rfl
  · rw [y5.I (by omega) (by omega), k5.2.2]
  · rw [y13.I (by omega) (by omega), k13.2.2]
  · rw [x37.I (by omega) id, k32.2.2]
  · rw [k37.2.2]
