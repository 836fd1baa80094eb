/-! IMAGE -/
theorem im_tail {S Z : JS} {Q : Int32 → JS → Prop} {k w : Nat} (hI : Inv S) (hk : k < 2) (f : jEx (fun _ => False) (fun h => h = 13) S Z) (hN : jN Z ≤ jN S + 12) (qw : WS Z w) (hw : 69 ≤ w) (rk : jR Z 13 k = some w) (ro : ∀ i, i ≠ k → jR Z 13 i = jR S 13 i) (hG : GT Z) (hne : ∀ i b, i < 2 → i ≠ k → jR S 13 i = some b → b ≠ w) (hq : ∀ r S1, Mdl (wX12_image 45 (nI k)) S r S1 → Q r S1) : wX11_image_25 0 w Z Q := by
  have hs := hI.1
  have hN69 := hs.1
  have hsZ : jSh Z := f.sh hs (fun h _ z => Or.inr z)
  have hGS := hI.2.2.2.2.2.2.2.2.2.2
  have law1 := hGS.law hs (WS_1 hs)
  have lawZ : ∀ i h, jR S 10 i = some h → 69 ≤ h ∧ LawB S h ∧ LawB Z h ∧ (h + 6 ≤ w ∨ w + 12 ≤ h) := fun i h e => by
    obtain ⟨a, b⟩ := law1 i h e
    have c := b.ex f (by omega)
    exact ⟨a, b, c, c.off qw⟩
  have hmZ : MW Z := MW.ex f hI (fun _ _ z => z.elim) (fun _ _ z => z) (fun i h e => ⟨by have := (lawZ i h e).1; omega, fun _ _ z => z⟩)
  have e47 : jI Z 47 = jI S 47 := f.I (by omega) id
  unfold wX11_image_25
  simp only [shA_0, shA_1, shR_0_0, shr_0_0, shR_0_1, shr_0_1, shR_0_2, shr_0_2, shR_0_3, shr_0_3, shR_0_4, shr_0_4, shR_0_5, shr_0_5, shR_0_6, shr_0_6, shR_0_7, shr_0_7, shR_0_8, shr_0_8, shR_0_9, shr_0_9, shR_1_4, shr_1_4, shR_1_5, shr_1_5, shR_1_6, shr_1_6, shR_1_9, shr_1_9, shR_1_11, shr_1_11, hsZ, ne_eq, not_false_eq_true, not_true_eq_false, reduceCtorEq, Nat.reduceEqDiff, forall_eq, true_and, and_true, true_implies, forall_const, implies_true, List.mem_cons, List.not_mem_nil, or_false, false_or, or_self, if_true, if_false, reduceIte, Nat.reduceAdd, Nat.reduceMul, Nat.reduceLT, false_implies, Decidable.not_not, bI_eq0, bI_eq1, upd_at, updL_at, Nat.succ_ne_zero, Int32.reduceToNatClampNeg, eq_self, i01, i10]
  refine ⟨(qw.A (j := 0) (k := 9) (z := 12) (by decide)).1, sX9_become qw (WS_1 hsZ) (Or.inl (by omega)) hmZ.1 hmZ.2 (fun i h e => (hG.law hsZ (WS_1 hsZ) i h e).2) (fun S1 x1 n1 r1 r2 W1 => ?_)⟩
  rw [e47] at W1
  have hs1 : jSh S1 := x1.sh hsZ (fun h h1 z => by omega)
  refine ⟨shA_0 hs1, sX11_acc' hs1 hq (fun S2 Q' hA kk hq' => ?_)⟩
  unfold wX12_image
  refine ⟨hA, fun M eM => ?_⟩
  obtain ⟨hsM, fM, k0, k5, z12, z13⟩ := kk M eM
  refine sX12_in' 0 1 rfl rfl (fun _ _ => ⟨fun _ => ?_, fun z => absurd z (by decide)⟩) (fun h => absurd (ex1 hk) h)
  refine ml_image hsM hk (fun X fX kX z1 e48 e49 => hq' X ?_ ?_)
  · -- everything
    have hNZ := f.N
    have s0 : ∀ {h}, h < 69 → h < jN Z := fun hh => Nat.lt_of_lt_of_le hh (Nat.le_trans hN69 hNZ)
    have xe : jEx (fun h => h = 0 ∨ h = 45 ∨ h = 48 ∨ h = 49 ∨ (w ≤ h ∧ h < w + 12)) (fun h => h = 13 ∨ h = w + 9) S X := by
      refine (((f.mono (fun _ _ z => z.elim) (fun _ _ z => Or.inl z)).tr (x1.mono (fun _ _ z => Or.inr (Or.inr (Or.inr (Or.inr z)))) (fun _ _ z => Or.inr z))).tr (jEx.of fM (fun h hh => ?_))).tr (jEx.of fX (fun h hh => ?_))
      · simp only [List.mem_cons, List.not_mem_nil, or_false] at hh; omega
      · simp only [List.mem_cons, List.not_mem_nil, or_false] at hh; omega
    have old : ∀ h, h < 69 → h ≠ 0 → h ≠ 45 → h ≠ 48 → h ≠ 49 → jI X h = jI S h := fun h a b c d e => xe.I (by omega) (by omega)
    have o45 : jI S1 45 = jI S 45 := by rw [x1.I (s0 (by omega)) (by omega), f.I (by omega) id]
    have o0 : jI S1 0 = jI S 0 := by rw [x1.I (s0 (by omega)) (by omega), f.I (by omega) id]
    have o49 : ∀ j, jI M 49 j = jI S 49 j := fun j => by rw [fM.I 49 (by decide), x1.I (s0 (by omega)) (by omega), f.I (by omega) id]
    have o48 : ∀ j, jI M 48 j = jI S 48 j := fun j => by rw [fM.I 48 (by decide), x1.I (s0 (by omega)) (by omega), f.I (by omega) id]
    have oM47 : jI M 47 = jI S 47 := by rw [fM.I 47 (by decide), x1.I (s0 (by omega)) (by omega), f.I (by omega) id]
    have x45 : ∀ j, j ≠ 0 → j ≠ 1 → jI X 45 j = jI S 45 j := fun j a b => by
      rw [kX.I j (by simp only [List.mem_cons, List.not_mem_nil, or_false]; omega), k5.I j (by simp only [List.mem_cons, List.not_mem_nil, or_false]; omega), o45]
    have x0 : ∀ j, j ≠ 12 → j ≠ 13 → jI X 0 j = jI S 0 j := fun j a b => by
      rw [fX.I 0 (by decide), k0.I j (by simp only [List.mem_cons, List.not_mem_nil, or_false]; omega), o0]
    have xR : jR X = jR S1 := by rw [fX.R, fM.R]
    have r13 : jR X 13 = jR Z 13 := by rw [xR, x1.R (s0 (by omega)) (by omega)]
    have imk : IMk X k := by
      refine Or.inr ⟨by rw [e49, if_pos rfl], w, hw, by rw [r13]; exact rk, ((qw.ex x1 (fun j _ h9 => by omega)).fr fM).fr fX, ?_, ?_⟩
      · refine hI.2.1.1.c (fun i hi => ?_)
        rw [e48, if_pos (by omega), oM47, Nat.add_sub_cancel_left]
      · refine WRw.c hI.2.1.1 ((W1.fr fM (by decide) hw).fr fX (by decide) hw) (fun i hi => ?_)
        rw [e48, if_pos (by omega), oM47, Nat.add_sub_cancel_left]
    have imo : ∀ i, i < 2 → i ≠ k → IMk S i → IMk X i := by
      intro i hi hik q
      have e9 : jI X 49 i = jI S 49 i := by rw [e49, if_neg hik, o49]
      have e13 : jR X 13 i = jR S 13 i := by rw [r13, ro i hik]
      have e8 : ∀ j, j < 5600 → jI X 48 (5600 * i + j) = jI S 48 (5600 * i + j) := fun j hj => by
        rw [e48, if_neg (by omega), o48]
      rcases q with ⟨a1, a2⟩ | ⟨a1, v, a2, a3, a4, a5, a6⟩
      · exact Or.inl ⟨by rw [e9]; exact a1, by rw [e13]; exact a2⟩
      · have off := (a4.ex f (fun j hj _ => by omega)).off qw (hne i v hi hik a3)
        refine Or.inr ⟨by rw [e9]; exact a1, v, a2, by rw [e13]; exact a3, a4.ex xe (fun j hj h9 => by omega), a5.c e8, ?_⟩
        refine WRw.c a5 (WRw.ex xe a4 a6 (fun i h e => (hGS.law hs a4 i h e).2) (fun j hj => by omega) (by omega) (fun i h e => ?_)) e8
        obtain ⟨g1, g2⟩ := hGS.law hs a4 i h e
        have := (g2.ex f (by omega)).off qw
        exact ⟨by omega, fun j hj => by omega⟩
    obtain ⟨im0, im1, imd⟩ := hI.2.2.2.2.2.2.2.2.2.1
    refine Inv.ex xe hI (fun h h1 z => by omega) (fun h h1 z => by omega) (x45 43 (by omega) (by omega)) (MW.ex xe hI (fun h h1 z => by omega) (fun h h1 z => by omega) (fun i h e => ?_)) ?_ ?_ ⟨?_, ?_⟩ ⟨?_, ?_, ?_⟩ ?_ ?_ ?_ z1
    · obtain ⟨g1, g2, g3, g4⟩ := lawZ i h e
      exact ⟨by omega, fun j hj => by omega⟩
    · have := hI.2.2.1
      unfold BC at this ⊢
      rw [old 27 (by omega) (by omega) (by omega) (by omega) (by omega), old 28 (by omega) (by omega) (by omega) (by omega) (by omega), old 47 (by omega) (by omega) (by omega) (by omega) (by omega)]; exact this
    · have := hI.2.2.2.2.1
      unfold TP at this ⊢
      rw [old 14 (by omega) (by omega) (by omega) (by omega) (by omega), old 15 (by omega) (by omega) (by omega) (by omega) (by omega), old 50 (by omega) (by omega) (by omega) (by omega) (by omega), x45 8 (by omega) (by omega)]; exact this
    · rw [x0 10 (by omega) (by omega), x45 6 (by omega) (by omega)]; exact hI.2.2.2.2.2.2.1.1
    · rw [x0 11 (by omega) (by omega), x45 13 (by omega) (by omega)]; exact hI.2.2.2.2.2.2.1.2
    · by_cases e : k = 0
      · subst e; exact imk
      · exact imo 0 (by omega) (fun z => e z.symm) im0
    · by_cases e : k = 1
      · subst e; exact imk
      · exact imo 1 (by omega) (fun z => e z.symm) im1
    · intro a b ea eb
      rw [r13] at ea eb
      rcases (by omega : k = 0 ∨ k = 1) with e | e <;> subst e
      · rw [rk] at ea; cases ea
        rw [ro 1 (by omega)] at eb
        exact (hne 1 b (by omega) (by omega) eb).symm
      · rw [rk] at eb; cases eb
        rw [ro 0 (by omega)] at ea
        exact hne 0 a (by omega) (by omega) ea
    · -- the laws that Worlds hold
      have trans : ∀ h, LawB Z h → 69 ≤ h → 69 ≤ h ∧ LawB X h := fun h hB h69 => by
        have := hB.off qw
        have h1 := hB.ex x1 (by omega)
        refine ⟨h69, ?_⟩
        unfold LawB at h1 ⊢
        rw [xR, fX.N, fM.N, fX.K, fM.K]; exact h1
      intro g i h hg hk16 he
      have hg1 : g < jN Z := by rw [fX.N, fM.N, n1] at hg; exact hg
      have hkZ : jK Z g = 16 := by rw [fX.K, fM.K, x1.K hg1] at hk16; exact hk16
      rw [xR] at he
      by_cases e : g = w + 9
      · subst e
        rcases Nat.lt_or_ge i 6 with l | l
        · rw [r1 i l] at he
          obtain ⟨u1, u2⟩ := hG.law hsZ (WS_1 hsZ) i h he
          exact trans h u2 u1
        · rw [r2 i l] at he
          obtain ⟨u1, u2⟩ := hG (w + 9) i h hg1 hkZ he
          exact trans h u2 u1
      · rw [x1.R hg1 e] at he
        obtain ⟨u1, u2⟩ := hG g i h hg1 hkZ he
        exact trans h u2 u1
    · rw [fX.I 0 (by decide)]; exact z13
    · rw [fX.I 0 (by decide)]; exact z12
  · rw [fX.N, fM.N, n1]; exact hN
theorem q_image {S : JS} {Q : Int32 → JS → Prop} {x : Int32} (hI : Inv S) (hroom : jN S < 990000) (hq : ∀ r S1, Mdl (wX12_image 45 x) S r S1 → Q r S1) : wX11_image 0 x S Q := by
  have hs := hI.1
  have hN69 := hs.1
  have no : ¬ (0 ≤ x ∧ x ≤ 1) → wX11_image_5 0 S Q := by
    intro hx
    unfold wX11_image_5
    refine ⟨shA_0 hs, sX11_ref 0 1 (Or.inl ⟨rfl, rfl, rfl⟩) hI hq (fun S1 Q' hA k => ?_)⟩
    unfold wX12_image
    refine ⟨hA, fun M eM => ?_⟩
    obtain ⟨hsM, hmM, eMI, kM, ht⟩ := k M eM
    exact sX12_in' 0 1 rfl rfl (fun h3 h4 => absurd ⟨h3, h4⟩ hx) (fun _ => ⟨fun q => absurd rfl q, fun _ => ⟨shA_45 hsM, ht⟩⟩)
  unfold wX11_image
  refine ⟨fun z => no (fun w => by have := w.1; lia), fun z => ⟨fun z2 => ?_, fun z2 => no (fun w => z2 (by have := w.2; lia))⟩⟩
  obtain ⟨k, hk, rfl⟩ := nI_of2 (M := 1) (n := 1) rfl z (by lia)
  have hk2 : k < 2 := by omega
  obtain ⟨im0, im1, imd⟩ := hI.2.2.2.2.2.2.2.2.2.1
  have imk : ∀ i, i < 2 → IMk S i := fun i hi => by
    rcases (by omega : i = 0 ∨ i = 1) with e | e <;> subst e
    · exact im0
    · exact im1
  simp only [shA_0, shA_13, shZ_13, shR_0_0, shr_0_0, shR_0_1, shr_0_1, shR_0_2, shr_0_2, shR_0_3, shr_0_3, shR_0_4, shr_0_4, shR_0_5, shr_0_5, shR_0_6, shr_0_6, shR_0_7, shr_0_7, shR_0_8, shr_0_8, shR_0_9, shr_0_9, hs, ne_eq, not_false_eq_true, not_true_eq_false, reduceCtorEq, Nat.reduceEqDiff, forall_eq, true_and, and_true, true_implies, forall_const, implies_true, List.mem_cons, List.not_mem_nil, or_false, false_or, or_self, if_true, if_false, reduceIte, Nat.reduceAdd, Nat.reduceMul, Nat.reduceLT, false_implies, Decidable.not_not, bI_eq0, bI_eq1, upd_at, updL_at, Nat.succ_ne_zero, Int32.reduceToNatClampNeg, eq_self, i01, i10]
  rw [nI_tn (by omega)]
  refine ⟨nI_in2 (by omega) (by omega), fun en => ⟨by omega, ?_⟩, fun en => ?_⟩
  · -- a new World
    have hG := hI.2.2.2.2.2.2.2.2.2.2
    have eN : jN (uNew S 9 12) = jN S + 1 := rfl
    have x6 : jEx (fun _ => False) (fun _ => False) S (uNew S 9 12) := jEx.refl.new
    have K6 : jK (uNew S 9 12) (jN S) = 9 := by rw [jK_uNew, if_pos rfl]
    have Z6 : jZ (uNew S 9 12) (jN S) = 12 := by rw [jZ_uNew, if_pos rfl]
    generalize uNew S 9 12 = S6 at eN x6 K6 Z6 ⊢
    refine ⟨⟨by omega, K6⟩, sX9_init eN K6 Z6 hroom (fun S9 x9 n9 q9 r9 _ _ _ _ _ _ _ _ => ?_)⟩
    have y9 : jEx (fun h => h = jN S) (fun h => h = jN S) S S9 := (x6.mono (fun _ _ z => z.elim) (fun _ _ z => z.elim)).tr x9
    have hs9 : jSh S9 := y9.sh hs (fun h h1 z => by omega)
    simp only [shA_0, shA_13, shZ_13, shR_0_0, shr_0_0, shR_0_1, shr_0_1, shR_0_2, shr_0_2, shR_0_3, shr_0_3, shR_0_4, shr_0_4, shR_0_5, shr_0_5, shR_0_6, shr_0_6, shR_0_7, shr_0_7, shR_0_8, shr_0_8, shR_0_9, shr_0_9, hs9, ne_eq, not_false_eq_true, not_true_eq_false, reduceCtorEq, Nat.reduceEqDiff, forall_eq, true_and, and_true, true_implies, forall_const, implies_true, List.mem_cons, List.not_mem_nil, or_false, false_or, or_self, if_true, if_false, reduceIte, Nat.reduceAdd, Nat.reduceMul, Nat.reduceLT, false_implies, Decidable.not_not, bI_eq0, bI_eq1, upd_at, updL_at, Nat.succ_ne_zero, Int32.reduceToNatClampNeg, eq_self, i01, i10]
    refine ⟨(q9.A (j := 0) (k := 9) (z := 12) (by decide)).1, nI_in2 (by omega) (by omega), ?_⟩
    have y17 : jEx (fun _ => False) (fun h => h = 13) S (uR S9 13 k (some (jN S))) := (y9.mono (fun h h1 z => by omega) (fun h h1 z => by omega)).uR (fun _ => rfl)
    have w17 : jEx (fun _ => False) (fun h => h = 13) S9 (uR S9 13 k (some (jN S))) := jEx.refl.uR (fun _ => rfl)
    have n17 : jN (uR S9 13 k (some (jN S))) = jN S + 12 := n9
    have r17 : jR (uR S9 13 k (some (jN S))) 13 k = some (jN S) := by rw [jR_uR_eq, va_up, if_pos rfl]
    have o17 : ∀ i, i ≠ k → jR (uR S9 13 k (some (jN S))) 13 i = jR S 13 i := fun i hi => by rw [jR_uR_eq, va_up, if_neg hi, y9.R (by omega) (by omega)]
    have g17 : ∀ g, g ≠ 13 → jR (uR S9 13 k (some (jN S))) g = jR S9 g := fun g hg => jR_uR_ne hg
    have k17 : jK (uR S9 13 k (some (jN S))) = jK S9 := rfl
    generalize uR S9 13 k (some (jN S)) = Z at y17 w17 n17 r17 o17 g17 k17 ⊢
    refine im_tail hI hk2 y17 (by omega) (q9.ex w17 (fun j _ _ => by omega)) hN69 r17 o17 (fun g i h hg hk16 he => ?_) (fun i b hi hik eb hb => ?_) hq
    · rw [n17] at hg
      rw [k17] at hk16
      have hg13 : g ≠ 13 := fun e => by
        rw [e] at hk16
        have := (shA_13 hs9).2
        rw [this] at hk16; exact absurd hk16 (by decide)
      rw [g17 g hg13] at he
      rcases Nat.lt_or_ge g (jN S) with l | l
      · rw [y9.R l (by omega)] at he
        rw [y9.K l] at hk16
        obtain ⟨u1, u2⟩ := hG g i h l hk16 he
        exact ⟨u1, u2.ex y17 (by omega)⟩
      · obtain ⟨j, hj, rfl⟩ : ∃ j, j < 12 ∧ g = jN S + j := ⟨g - jN S, by omega, by omega⟩
        rcases (by omega : j = 0 ∨ j = 1 ∨ j = 2 ∨ j = 3 ∨ j = 4 ∨ j = 5 ∨ j = 6 ∨ j = 7 ∨ j = 8 ∨ j = 9 ∨ j = 10 ∨ j = 11) with e | e | e | e | e | e | e | e | e | e | e | e <;> subst e
        · rw [(q9.2.1 (0, 9, 12) (by decide)).1] at hk16; exact absurd hk16 (by decide)
        · rw [(q9.2.1 (1, 8, 4) (by decide)).1] at hk16; exact absurd hk16 (by decide)
        · rw [(q9.2.1 (2, 13, 4) (by decide)).1] at hk16; exact absurd hk16 (by decide)
        · rw [(q9.2.1 (3, 13, 4) (by decide)).1] at hk16; exact absurd hk16 (by decide)
        · rw [(q9.2.1 (4, 13, 4) (by decide)).1] at hk16; exact absurd hk16 (by decide)
        · rw [(q9.2.1 (5, 8, 4) (by decide)).1] at hk16; exact absurd hk16 (by decide)
        · rw [(q9.2.1 (6, 13, 16) (by decide)).1] at hk16; exact absurd hk16 (by decide)
        · rw [(q9.2.1 (7, 13, 16) (by decide)).1] at hk16; exact absurd hk16 (by decide)
        · rw [(q9.2.1 (8, 13, 16) (by decide)).1] at hk16; exact absurd hk16 (by decide)
        · rw [r9 i] at he; cases he
        · rw [(q9.2.1 (10, 13, 60) (by decide)).1] at hk16; exact absurd hk16 (by decide)
        · rw [(q9.2.1 (11, 13, 12) (by decide)).1] at hk16; exact absurd hk16 (by decide)
    · rcases imk i hi with ⟨_, a⟩ | ⟨_, v, a2, a3, a4, _⟩
      · rw [a] at eb; cases eb
      · rw [a3] at eb; cases eb
        have := a4.1; omega
  · -- the World that was kept
    rcases imk k hk2 with ⟨_, a⟩ | ⟨_, w, a2, a3, a4, _⟩
    · exact absurd a en
    · rw [jr_of a3]
      exact im_tail hI hk2 jEx.refl (Nat.le_add_right _ _) a4 a2 a3 (fun _ _ => rfl) hI.2.2.2.2.2.2.2.2.2.2 (fun i b hi hik eb hb => by
        subst hb
        rcases (by omega : k = 0 ∧ i = 1 ∨ k = 1 ∧ i = 0) with ⟨e1, e2⟩ | ⟨e1, e2⟩ <;> subst e1 <;> subst e2
        · exact imd _ _ a3 eb rfl
        · exact imd _ _ eb a3 rfl) hq
