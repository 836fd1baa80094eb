/-! A LAW OF THE CLASS IS MADE -/
section MAKE
variable {S S1 F : JS}
theorem sJ7_copy {Q : Option Nat → JS → Prop} {x z m : Nat} (hA : jA S x 13) (hz : jZ S x = z) (hz4 : z ≤ 400) (hm : m ≤ z) (hN : jN S < 990020) (hQ : ∀ S', jEx (fun _ => False) (fun _ => False) S S' → jN S' = jN S + 1 → jK S' (jN S) = 13 → jZ S' (jN S) = m → (∀ j, j < m → jI S' (jN S) j = jI S x j) → Q (some (jN S)) S') : wJ7_copyOf_59c91 x (nI m) S Q := by
  have hx := hA.1
  have x2 : jEx (fun _ => False) (fun _ => False) S (uNew S 13 m) := jEx.refl.new
  unfold wJ7_copyOf_59c91
  rw [hz, show Int32.ofNat z = nI z from rfl, nI_eq' (by omega) (by omega), nI_tn (by omega)]
  refine ⟨hA, fun q => ⟨nI_pos (by omega), by omega, by omega, by omega, ?_⟩, fun q => ⟨by omega, by omega, ?_⟩⟩
  · intro h7 e7 S2 e2
    subst e7 e2
    have Zx : jZ (uNew S 13 m) x = z := by rw [jZ_uNew, if_neg (by omega)]; exact hz
    have Zn : jZ (uNew S 13 m) (jN S) = m := by rw [jZ_uNew, if_pos rfl]
    have Kn : jK (uNew S 13 m) (jN S) = 13 := by rw [jK_uNew, if_pos rfl]
    have em : (if nI m < Int32.ofNat (jZ (uNew S 13 m) x) then nI m else Int32.ofNat (jZ (uNew S 13 m) x)) = nI m := by
      rw [Zx, if_pos]; exact (nI_lt' (a := m) (b := z) (by omega) (by omega)).mpr (by omega)
    rw [em, nI_tn (by omega), Zx, Zn, show (0 : Int32).toNatClampNeg = 0 from rfl]
    refine ⟨x2.A hA, ⟨by rw [jN_uNew]; omega, Kn⟩, by decide, nI_pos (by omega), by omega, by omega, fun S14 e14 => ?_⟩
    subst e14
    refine hQ _ (x2.uIf (fun y => absurd y (by omega))) rfl ?_ ?_ (fun j hj => ?_)
    · exact Kn
    · rw [jZ_uIf]; exact Zn
    · rw [jI_uIf_eq, jI_uNew, if_neg (show x ≠ jN S by omega), jI_uNew, if_pos rfl]
      unfold va_cpy; rw [if_pos (by omega)]; congr 1; omega
  · subst q
    intro h18 e18 S15 e15
    subst e18 e15
    have Kn : jK (uNew S 13 m) (jN S) = 13 := by rw [jK_uNew, if_pos rfl]
    refine ⟨⟨by show jN S < jN S + 1; omega, Kn⟩, hQ _ (x2.uIf (fun y => absurd y (by omega))) rfl Kn ?_ (fun j hj => ?_)⟩
    · rw [jZ_uIf, jZ_uNew, if_pos rfl]
    · rw [jI_uIf_eq]
theorem mk_step {R : JS → Prop} {T : JS} {h k src z m : Nat} (hA : jA T h 3) (hN : jN T = h + k) (hk : 0 < k) (hr : h + k < 990020) (hsrc : jA T src 13) (hz : jZ T src = z) (hz4 : z ≤ 400) (hm : m ≤ z) (hR : ∀ T', jEx (fun x => x = h) (fun x => x = h) T T' → jN T' = h + k + 1 → jI T' h = jI T h → jR T' h k = some (h + k) → (∀ j, j ≠ k → jR T' h j = jR T h j) → jK T' (h + k) = 13 → jZ T' (h + k) = m → (∀ j, j < m → jI T' (h + k) j = jI T src j) → R T') : wJ7_copyOf_59c91 src (nI m) T (fun o S7 => ∃ r8, o = some r8 ∧ (jA S7 h 3 ∧ (∀ S10 : JS, S10 = uR S7 h k (some r8) → R S10))) := by
  refine sJ7_copy hsrc hz hz4 hm (by omega) (fun S7 x7 n7 k7 z7 c7 => ⟨_, rfl, x7.A hA, fun S10 e10 => ?_⟩)
  rw [hN] at n7 k7 z7 c7 e10
  subst e10
  have y : jEx (fun x => x = h) (fun x => x = h) T S7 := x7.mono (fun _ _ z => z.elim) (fun _ _ z => z.elim)
  refine hR _ (y.uR (fun _ => rfl)) n7 ?_ ?_ (fun j hj => ?_) k7 z7 c7
  · rw [jI_uR]; exact x7.I (by omega) (fun z => z)
  · rw [jR_uR_eq, va_up, if_pos rfl]
  · rw [jR_uR_eq, va_up, if_neg hj, x7.R (by omega) (fun z => z)]
theorem sX3_init {Q : JS → Prop} {h q c : Nat} (hs : jSh S) (h69 : 69 ≤ h) (hN : jN S = h + 1) (hr : h < 990000) (hK : jK S h = 3) (g7 : jI S 14 7 = nI q) (hq : q ≤ 12) (g8 : jI S 14 8 = nI c) (hc : c ≤ 400) (hQ : ∀ F, jEx (fun x => x = h) (fun x => x = h) S F → jN F = h + 6 → jI F h 0 = nI q → (∀ i, 0 < i → i < 6 → jK F (h + i) = 13 ∧ jR F h i = some (h + i)) → (jZ F (h + 1) = q ∧ jZ F (h + 2) = q ∧ jZ F (h + 3) = q ∧ jZ F (h + 4) = q ∧ jZ F (h + 5) = c) → (∀ j, j < q → jI F (h + 1) j = jI S 16 j ∧ jI F (h + 2) j = jI S 17 j ∧ jI F (h + 3) j = jI S 18 j ∧ jI F (h + 4) j = jI S 19 j) → (∀ j, j < c → jI F (h + 5) j = jI S 20 j) → Q F) : wX3_init h 14 S Q := by
  have nn : ∀ a : Nat, ¬ some a = none := fun a z => by cases z
  have hA0 : jA S h 3 := ⟨by omega, hK⟩
  unfold wX3_init
  refine ⟨shA_14 hs, hA0, fun S3 e3 => ?_⟩
  rw [g7] at e3
  have x3 : jEx (fun x => x = h) (fun x => x = h) S S3 := by rw [e3]; exact (jEx.refl (PI := fun x => x = h) (PR := fun x => x = h)).uI (fun _ => rfl)
  have n3 : jN S3 = h + 1 := by rw [e3]; exact hN
  have i3 : jI S3 h 0 = nI q := by rw [e3]; simp only [jN_uI, jN_uJ, jN_uR, jK_uI, jK_uJ, jK_uR, jZ_uI, jZ_uJ, jZ_uR, jR_uI, jR_uJ, jr_uI, jr_uJ, jI_uJ, jI_uR, jJ_uI, jJ_uR, jI_uI_eq, jI_uI_ne, jJ_uJ_eq, jJ_uJ_ne, jSh_uI, jSh_uJ, jA_uI, jA_uJ, jA_uR, jI_uIf_eq, jI_uIf_ne, jJ_uIf, jR_uIf, jr_uIf, jZ_uIf, jSh_uIf, jA_uIf, ne_eq, not_false_eq_true, not_true_eq_false, reduceCtorEq, Nat.reduceEqDiff, forall_eq, true_and, and_true, true_implies, forall_const, implies_true, List.mem_cons, List.not_mem_nil, or_false, false_or, or_self, if_true, if_false, reduceIte, Nat.reduceAdd, Nat.reduceMul, Nat.reduceLT, false_implies, Decidable.not_not, bI_eq0, bI_eq1, upd_at, updL_at, Nat.succ_ne_zero, Int32.reduceToNatClampNeg, eq_self, i01, i10]
  clear e3
  have sh : ∀ T, jEx (fun x => x = h) (fun x => x = h) S T → jSh T := fun T f => f.sh hs (fun y y1 y2 => by omega)
  have oI : ∀ T, jEx (fun x => x = h) (fun x => x = h) S T → ∀ g, g < 69 → jI T g = jI S g := fun T f g hg => f.I (by omega) (by omega)
  have s3 := sh S3 x3
  refine ⟨shA_14 s3, by rw [shR_14_2 s3]; exact nn 16, x3.A hA0, ?_⟩
  rw [shr_14_2 s3, i3]
  refine mk_step (k := 1) (x3.A hA0) n3 (by omega) (by omega) (shA_16 s3) (shZ_16 s3) (by omega) hq (fun S4 f4 n4 i4 r4 o4 k4 z4 c4 => ?_)
  have x4 := x3.tr f4
  have s4 := sh S4 x4
  refine ⟨shA_14 s4, by rw [shR_14_3 s4]; exact nn 17, x4.A hA0, ?_⟩
  rw [shr_14_3 s4, i4, i3]
  refine mk_step (k := 2) (x4.A hA0) n4 (by omega) (by omega) (shA_17 s4) (shZ_17 s4) (by omega) hq (fun S5 f5 n5 i5 r5 o5 k5 z5 c5 => ?_)
  have x5 := x4.tr f5
  have s5 := sh S5 x5
  refine ⟨shA_14 s5, by rw [shR_14_4 s5]; exact nn 18, x5.A hA0, ?_⟩
  rw [shr_14_4 s5, i5, i4, i3]
  refine mk_step (k := 3) (x5.A hA0) n5 (by omega) (by omega) (shA_18 s5) (shZ_18 s5) (by omega) hq (fun S6 f6 n6 i6 r6 o6 k6 z6 c6 => ?_)
  have x6 := x5.tr f6
  have s6 := sh S6 x6
  refine ⟨shA_14 s6, by rw [shR_14_5 s6]; exact nn 19, x6.A hA0, ?_⟩
  rw [shr_14_5 s6, i6, i5, i4, i3]
  refine mk_step (k := 4) (x6.A hA0) n6 (by omega) (by omega) (shA_19 s6) (shZ_19 s6) (by omega) hq (fun S7 f7 n7 i7 r7 o7 k7 z7 c7 => ?_)
  have x7 := x6.tr f7
  have s7 := sh S7 x7
  refine ⟨shA_14 s7, by rw [shR_14_6 s7]; exact nn 20, ?_⟩
  rw [shr_14_6 s7, oI S7 x7 14 (by omega), g8]
  refine mk_step (k := 5) (x7.A hA0) n7 (by omega) (by omega) (shA_20 s7) (shZ_20 s7) (by omega) hc (fun S8 f8 n8 i8 r8 o8 k8 z8 c8 => ?_)
  have x8 := x7.tr f8
  have y5 := f5.tr (f6.tr (f7.tr f8))
  have y6 := f6.tr (f7.tr f8)
  have y7 := f7.tr f8
  refine hQ S8 x8 n8 (by rw [i8, i7, i6, i5, i4]; exact i3) (fun i i1 i2 => ?_) ⟨?_, ?_, ?_, ?_, z8⟩ (fun j hj => ⟨?_, ?_, ?_, ?_⟩) (fun j hj => ?_)
  · rcases (by omega : i = 1 ∨ i = 2 ∨ i = 3 ∨ i = 4 ∨ i = 5) with e | e | e | e | e <;> subst e
    · rw [y5.K (by omega), o8 1 (by omega), o7 1 (by omega), o6 1 (by omega), o5 1 (by omega)]; exact ⟨k4, r4⟩
    · rw [y6.K (by omega), o8 2 (by omega), o7 2 (by omega), o6 2 (by omega)]; exact ⟨k5, r5⟩
    · rw [y7.K (by omega), o8 3 (by omega), o7 3 (by omega)]; exact ⟨k6, r6⟩
    · rw [f8.K (by omega), o8 4 (by omega)]; exact ⟨k7, r7⟩
    · exact ⟨k8, r8⟩
  · rw [y5.Z (by omega)]; exact z4
  · rw [y6.Z (by omega)]; exact z5
  · rw [y7.Z (by omega)]; exact z6
  · rw [f8.Z (by omega)]; exact z7
  · rw [y5.I (by omega) (by omega), c4 j hj, oI S3 x3 16 (by omega)]
  · rw [y6.I (by omega) (by omega), c5 j hj, oI S4 x4 17 (by omega)]
  · rw [y7.I (by omega) (by omega), c6 j hj, oI S5 x5 18 (by omega)]
  · rw [f8.I (by omega) (by omega), c7 j hj, oI S6 x6 19 (by omega)]
  · rw [c8 j hj, oI S7 x7 20 (by omega)]
end MAKE
