/-! GUARDS, pure -/
noncomputable def gGu (row : Nat → Int32) (b : Nat) : Nat → Nat → Nat
  | 0, r => gUn row b r (gR row)
  | k + 1, r => mn (gSt row (b - (k + 1)) r) (gGu row b k) (gR row) + gUn row (b - (k + 1)) r (gR row)
def gSm (row : Nat → Int32) (a : Nat) : Nat → Nat
  | 0 => 0
  | c + 1 => gSm row a c + gAl row (a + c) (gR row)
theorem gSm_cons {row : Nat → Int32} {a : Nat} : ∀ c, gSm row a (c + 1) = gAl row a (gR row) + gSm row (a + 1) c
  | 0 => by rw [gSm, gSm, gSm]; simp
  | c + 1 => by rw [gSm, gSm_cons c, gSm, show a + (c + 1) = a + 1 + c by omega]; omega
theorem gSm_b {row : Nat → Int32} {a : Nat} (hR : gR row ≤ 9) : ∀ c, gSm row a c ≤ 891 * c
  | 0 => Nat.le_refl _
  | c + 1 => by have := gSm_b (a := a) hR c; have := gAl_b (row := row) (n := a + c) (gR row); rw [gSm]; omega
def gTt (row : Nat → Int32) (b k : Nat) : Nat := gSm row (b - k) (k + 1)
theorem gTt_s {row : Nat → Int32} {b k : Nat} (h : k + 1 ≤ b) : gTt row b (k + 1) = gAl row (b - (k + 1)) (gR row) + gTt row b k := by
  unfold gTt
  rw [gSm_cons, show b - (k + 1) + 1 = b - k by omega]
theorem gTt_b {row : Nat → Int32} {b k : Nat} (hR : gR row ≤ 9) (hk : k < 60) : gTt row b k ≤ 53460 := by
  have := gSm_b (a := b - k) hR (k + 1)
  unfold gTt; omega
theorem gUn_le {row : Nat → Int32} {n r k : Nat} : gUn row n r k ≤ gAl row n k := by
  rcases Nat.lt_or_ge r k with l | l
  · have := gUn_lo (row := row) (n := n) k l; omega
  · rw [gUn_hi k l]; exact Nat.le_refl _
theorem gGu_le {row : Nat → Int32} {b : Nat} : ∀ k r, k ≤ b → r < gR row → gGu row b k r ≤ gTt row b k
  | 0, r, _, h => by
    have := gUn_le (row := row) (n := b) (r := r) (k := gR row)
    unfold gTt; rw [gGu, gSm, gSm]; simpa using this
  | k + 1, r, hk, h => by
    have ih := gGu_le (row := row) (b := b) k r (by omega) h
    have m := mn_le (f := gGu row b k) h (show gSt row (b - (k + 1)) r r from Or.inl rfl)
    have := gUn_le (row := row) (n := b - (k + 1)) (r := r) (k := gR row)
    rw [gGu, gTt_s hk]; omega
/-- a best step on guard -/
def gBg (row : Nat → Int32) (b n r p : Nat) : Prop := gSt row n r p ∧ gGu row b (b - n) r = gGu row b (b - (n + 1)) p + gUn row n r (gR row)
theorem gGu_step {row : Nat → Int32} {b n r : Nat} (hR : gR row ≤ 9) (hb : b < 60) (hn : n < b) (h : r < gR row) : (∀ p, gSt row n r p → gGu row b (b - n) r ≤ gGu row b (b - (n + 1)) p + gUn row n r (gR row)) ∧ ∃ p, gBg row b n r p := by
  obtain ⟨k, e1, e2, e3⟩ : ∃ k, b - n = k + 1 ∧ b - (n + 1) = k ∧ b - (k + 1) = n := ⟨b - n - 1, by omega, by omega, by omega⟩
  unfold gBg
  rw [e1, e2, gGu, e3]
  refine ⟨fun p hp => ?_, ?_⟩
  · have := mn_le (f := gGu row b k) (gSt_lt hp h) hp; omega
  · have m := mn_le (f := gGu row b k) h (show gSt row n r r from Or.inl rfl)
    have l := gGu_le (row := row) (b := b) k r (by omega) h
    have t := gTt_b (row := row) (b := b) (k := k) hR (by omega)
    obtain ⟨p, p1, p2, p3⟩ := mn_ex (P := gSt row n r) (f := gGu row b k) (k := gR row) (by omega)
    exact ⟨p, p2, by omega⟩
def gGw (row : Nat → Int32) (b a r : Nat) : Nat → Nat → Prop
  | 0, v => v = r
  | k + 1, v => ∃ u, gGw row b a r k u ∧ IsLow (gBg row b (a + k) u) v
theorem gGw_lt {row : Nat → Int32} {b a r : Nat} (hr : r < gR row) : ∀ {k v : Nat}, gGw row b a r k v → v < gR row
  | 0, _, h => h ▸ hr
  | _ + 1, _, ⟨_, h1, h2⟩ => gSt_lt h2.1.1 (gGw_lt hr h1)
theorem gGw_uniq {row : Nat → Int32} {b a r : Nat} : ∀ {k v v' : Nat}, gGw row b a r k v → gGw row b a r k v' → v = v'
  | 0, _, _, h, h' => h.trans h'.symm
  | _ + 1, _, _, ⟨u, h1, h2⟩, ⟨u', h1', h2'⟩ => by
    have := gGw_uniq h1 h1'
    subst this
    exact h2.uniq h2'
/-! the class -/
def gdOk (S : JS) (b m : Nat) : Prop := ∀ n r, m ≤ n → n ≤ b → r < gR (jI S 47) → jI S 38 (n * 9 + r) = nI (gTt (jI S 47) b (b - n) - gGu (jI S 47) b (b - n) r)
theorem sX2_bestStep {S : JS} {Q : Int32 → JS → Prop} {b n r : Nat} (hs : jSh S) (hm : MW S) (hb : b < 60) (hn : n < b) (hr : r < gR (jI S 47)) (hx : slOk (jI S 47) n r (jI S 27 (n * 9 + r))) (hg : gdOk S b (n + 1)) (h : ∀ p, IsLow (gBg (jI S 47) b n r) p → p < gR (jI S 47) → Q (nI p) S) : wX2_bestStep 37 23 (nI r) (nI n) S Q := by
  obtain ⟨R1, R2, R3⟩ := hm.1.1
  have tb := gTt_b (row := jI S 47) (b := b) (k := b - (n + 1)) R2 (by omega)
  have hle : ∀ p, p < gR (jI S 47) → gGu (jI S 47) b (b - (n + 1)) p ≤ gTt (jI S 47) b (b - (n + 1)) := fun p hp => gGu_le _ p (by omega) hp
  obtain ⟨s1, q0, s2⟩ := gGu_step (row := jI S 47) (b := b) R2 hb hn hr
  unfold wX2_bestStep
  refine ⟨shA_23 hs, sX1_steps hs (by omega) (by omega) hx (fun x hx => ?_)⟩
  unfold wX2_bestStep_9
  refine jLoop.cnt 9 (fun c q => ∃ v, q = (37, nI r, nI n, x, v, nI c, S) ∧ ((v = -1 ∧ ∀ p, p < c → ¬ gSt (jI S 47) n r p) ∨ ∃ p, v = nI p ∧ p < c ∧ gSt (jI S 47) n r p ∧ (∀ p', p' < c → gSt (jI S 47) n r p' → gGu (jI S 47) b (b - (n + 1)) p ≤ gGu (jI S 47) b (b - (n + 1)) p') ∧ (∀ p', p' < p → gSt (jI S 47) n r p' → gGu (jI S 47) b (b - (n + 1)) p < gGu (jI S 47) b (b - (n + 1)) p'))) 0 (by omega) ?_ ⟨-1, rfl, Or.inl ⟨rfl, fun p q => absurd q (Nat.not_lt_zero _)⟩⟩
  rintro c _ hc ⟨v, rfl, hv⟩
  unfold bX2_bestStep_9 wX2_bestStep_36 wX2_bestStep_38
  simp only
  rw [li_9, nI_le' (by omega) (by omega)]
  refine ⟨fun z => ?_, fun z => ?_⟩
  · rcases hv with ⟨_, v2⟩ | ⟨p, v1, v2, v3, v4, v5⟩
    · exact absurd (Or.inl rfl) (v2 r (by omega))
    · have pR := gSt_lt v3 hr
      have e : gGu (jI S 47) b (b - n) r = gGu (jI S 47) b (b - (n + 1)) p + gUn (jI S 47) n r (gR (jI S 47)) := by
        have a1 := s1 p v3
        have a2 := v4 q0 (by have := gSt_lt s2.1 hr; omega) s2.1
        have a3 := s2.2
        omega
      have := h p ⟨⟨v3, e⟩, fun j hj w => by have := v5 j hj w.1; have := w.2; omega⟩ pR
      subst v1
      exact ⟨fun _ => this, fun w => absurd w (by have := nI_nn (n := p) (by omega); lia)⟩
  · refine sX11_hasBit (by omega) (fun hb2 => ⟨fun q => absurd q (by decide), fun _ => ?_⟩) (fun hb2 => ⟨fun _ => ?_, fun q => absurd rfl q⟩)
    · have hst := (hx c (by omega)).mp hb2
      have cR := gSt_lt hst hr
      have hle1 := hle c cR
      have ec := hg (n + 1) c (by omega) (by omega) cR
      rw [nI_1]
      rcases hv with ⟨v1, v2⟩ | ⟨p, v1, v2, v3, v4, v5⟩
      · subst v1
        refine ⟨fun _ => nm_e ⟨by omega, _, rfl, Or.inr ⟨c, rfl, by omega, hst, fun p' hp' w => ?_, fun p' hp' w => absurd w (v2 p' hp')⟩⟩, fun w => absurd rfl w⟩
        rcases Nat.lt_or_ge p' c with l | l
        · exact absurd w (v2 p' l)
        · rw [show p' = c by omega]; exact Nat.le_refl _
      · subst v1
        have pR := gSt_lt v3 hr
        have hle2 := hle p pR
        have ep := hg (n + 1) p (by omega) (by omega) pR
        refine ⟨fun w => absurd w (by have := nI_nn (n := p) (by omega); lia), fun _ => ?_⟩
        unfold wX11_placeOf
        simp only [shA_37, shA_38, shZ_38, shR_37_0, shr_37_0, hs, nI_1, pl_nI, ne_eq, not_false_eq_true, not_true_eq_false, reduceCtorEq, Nat.reduceEqDiff, forall_eq, true_and, and_true, true_implies, forall_const, implies_true, List.mem_cons, List.not_mem_nil, or_false, false_or, or_self, if_true, if_false, reduceIte, Nat.reduceAdd, Nat.reduceMul, Nat.reduceLT, false_implies, Decidable.not_not, bI_eq0, bI_eq1, upd_at, updL_at, Nat.succ_ne_zero, Int32.reduceToNatClampNeg, eq_self, i01, i10]
        rw [nI_tn (by omega), nI_tn (by omega), ec, ep, nI_le' (by omega) (by omega)]
        refine ⟨nI_in2 (by omega) (by omega), nI_in2 (by omega) (by omega), fun w => ⟨by omega, _, rfl, Or.inr ⟨p, rfl, by omega, v3, fun p' hp' w2 => ?_, v5⟩⟩, fun w => ⟨by omega, _, rfl, Or.inr ⟨c, rfl, by omega, hst, fun p' hp' w2 => ?_, fun p' hp' w2 => ?_⟩⟩⟩
        · rcases Nat.lt_or_ge p' c with l | l
          · exact v4 p' l w2
          · rw [show p' = c by omega]; omega
        · rcases Nat.lt_or_ge p' c with l | l
          · have := v4 p' l w2; omega
          · rw [show p' = c by omega]; exact Nat.le_refl _
        · have := v4 p' hp' w2; omega
    · rw [nI_1]
      have hst : ¬ gSt (jI S 47) n r c := fun w => hb2 ((hx c (by omega)).mpr w)
      refine nm_e ⟨by omega, v, rfl, ?_⟩
      rcases hv with ⟨v1, v2⟩ | ⟨p, v1, v2, v3, v4, v5⟩
      · refine Or.inl ⟨v1, fun p hp => ?_⟩
        rcases Nat.lt_or_ge p c with l | l
        · exact v2 p l
        · rw [show p = c by omega]; exact hst
      · refine Or.inr ⟨p, v1, by omega, v3, fun p' hp' w => ?_, v5⟩
        rcases Nat.lt_or_ge p' c with l | l
        · exact v4 p' l w
        · rw [show p' = c by omega] at w; exact absurd w hst
theorem sX2_weigh {S : JS} {Q : JS → Prop} {a b : Nat} (hs : jSh S) (hm : MW S) (hab : a ≤ b) (hb : b < 60) (hx : knS S a (b + 1)) (hd : knD S a (b + 1)) (h : ∀ S', jFr [38] S S' → gdOk S' b a → Q S') : wX2_weigh 37 1 23 (nI a) (nI b) S Q := by
  obtain ⟨R1, R2, R3⟩ := hm.1.1
  have e0 : jI S 1 0 = nI (gR (jI S 47)) := hm.2.1.1.trans R3
  unfold wX2_weigh wX2_weigh_2
  refine jLoop.cnt (b + 1 - a) (fun j q => ∃ S', q = (37, 1, 23, nI a, nI b, nI (b + 1 - j) - 1, S') ∧ jFr [38] S S' ∧ gdOk S' b (b + 1 - j)) 0 (by omega) ?_ ⟨S, by rw [nI_m1 (by omega)]; rfl, jFr.refl _ _, fun n r q1 q2 => by omega⟩
  rintro j _ hj ⟨S1, rfl, f1, g1⟩
  obtain ⟨n, hn0⟩ : ∃ n, b + 1 - j = n := ⟨_, rfl⟩
  rw [hn0] at g1 ⊢
  unfold bX2_weigh_2
  simp only
  rcases Nat.lt_or_ge a n with l | l
  · obtain ⟨m, rfl⟩ : ∃ m, n = m + 1 := ⟨n - 1, by omega⟩
    have hn1 : b + 1 - (j + 1) = m := by omega
    rw [hn1, nI_m1 (by omega), show m + 1 - 1 = m by omega, nI_lt' (by omega) (by omega)]
    refine ⟨fun q => by omega, fun _ => ?_⟩
    unfold wX2_weigh_7
    refine jLoop.cnt (gR (jI S 47)) (fun r q => ∃ S', q = (37, 1, 23, nI a, nI b, nI m, nI r, S') ∧ jFr [38] S S' ∧ gdOk S' b (m + 1) ∧ ∀ p, p < r → jI S' 38 (m * 9 + p) = nI (gTt (jI S 47) b (b - m) - gGu (jI S 47) b (b - m) p)) 0 (by omega) ?_ ⟨S1, rfl, f1, g1, fun p q => absurd q (Nat.not_lt_zero _)⟩
    rintro r _ hr ⟨S2, rfl, f2, g2, u2⟩
    have hs2 := f2.sh.mpr hs
    have hm2 : MW S2 := hm.fr f2 (by decide) (by decide)
    have e47 : jI S2 47 = jI S 47 := f2.I 47 (by decide)
    unfold bX2_weigh_7
    simp only [shA_1, shA_37, shR_1_4, shr_1_4, shR_1_5, shr_1_5, shR_1_6, shr_1_6, shR_1_9, shr_1_9, shR_1_11, shr_1_11, shR_37_0, shr_37_0, hs2, f2.I 1 (by decide), e0, ne_eq, not_false_eq_true, not_true_eq_false, reduceCtorEq, Nat.reduceEqDiff, forall_eq, true_and, and_true, true_implies, forall_const, implies_true, List.mem_cons, List.not_mem_nil, or_false, false_or, or_self, if_true, if_false, reduceIte, Nat.reduceAdd, Nat.reduceMul, Nat.reduceLT, false_implies, Decidable.not_not, bI_eq0, bI_eq1, upd_at, updL_at, Nat.succ_ne_zero, Int32.reduceToNatClampNeg, eq_self, i01, i10]
    rw [nI_le' (by omega) (by omega), nI_le' (by omega) (by omega)]
    have fin : ∀ v, v < 1000000 → gDn (jI S 47) m r + v = gTt (jI S 47) b (b - m) - gGu (jI S 47) b (b - m) r → r < gR (jI S 47) → ∀ X2, wX2_weigh_21 X2 (fun l0 l1 l2 l3 l4 l5 l6 S_1 => r < gR (jI S 47) ∧ ∃ S', (l0, l1, l2, l3, l4, l5, l6, S_1) = (37, 1, 23, nI a, nI b, nI m, nI (r + 1), S') ∧ jFr [38] S S' ∧ gdOk S' b (m + 1) ∧ ∀ p, p < r + 1 → jI S' 38 (m * 9 + p) = nI (gTt (jI S 47) b (b - m) - gGu (jI S 47) b (b - m) p)) 37 1 23 (nI a) (nI b) (nI m) (nI r) (nI v) S2 Q := by
      intro v hv hv2 hrR X2
      unfold wX2_weigh_21 wX11_placeOf
      simp only [shA_23, shA_37, shR_23_0, shr_23_0, shR_23_1, shr_23_1, shR_23_2, shr_23_2, shR_37_0, shr_37_0, hs2, pl_nI, ne_eq, not_false_eq_true, not_true_eq_false, reduceCtorEq, Nat.reduceEqDiff, forall_eq, true_and, and_true, true_implies, forall_const, implies_true, List.mem_cons, List.not_mem_nil, or_false, false_or, or_self, if_true, if_false, reduceIte, Nat.reduceAdd, Nat.reduceMul, Nat.reduceLT, false_implies, Decidable.not_not, bI_eq0, bI_eq1, upd_at, updL_at, Nat.succ_ne_zero, Int32.reduceToNatClampNeg, eq_self, i01, i10]
      refine sX1_danger hs2 (by omega) (by omega) ?_
      have ed : jI S2 28 (m * 9 + r) = nI (gDn (jI S 47) m r) := by
        rw [f2.I 28 (by decide), hd m r (by omega) (by omega) hrR]; exact (gDn_eq _ _ _).1
      simp only [shA_38, shZ_38, hs2, ed, nI_add, hv2, nI_1, ne_eq, not_false_eq_true, not_true_eq_false, reduceCtorEq, Nat.reduceEqDiff, forall_eq, true_and, and_true, true_implies, forall_const, implies_true, List.mem_cons, List.not_mem_nil, or_false, false_or, or_self, if_true, if_false, reduceIte, Nat.reduceAdd, Nat.reduceMul, Nat.reduceLT, false_implies, Decidable.not_not, bI_eq0, bI_eq1, upd_at, updL_at, Nat.succ_ne_zero, Int32.reduceToNatClampNeg, eq_self, i01, i10]
      rw [nI_tn (by omega)]
      refine ⟨nI_in2 (by omega) (by omega), by omega, _, rfl, f2.uI (by decide), fun n' p q1 q2 q3 => ?_, fun p hp => ?_⟩
      · simp only [jN_uI, jN_uJ, jN_uR, jK_uI, jK_uJ, jK_uR, jZ_uI, jZ_uJ, jZ_uR, jR_uI, jR_uJ, jr_uI, jr_uJ, jI_uJ, jI_uR, jJ_uI, jJ_uR, jI_uI_eq, jI_uI_ne, jJ_uJ_eq, jJ_uJ_ne, jSh_uI, jSh_uJ, jA_uI, jA_uJ, jA_uR, jI_uIf_eq, jI_uIf_ne, jJ_uIf, jR_uIf, jr_uIf, jZ_uIf, jSh_uIf, jA_uIf, ne_eq, not_false_eq_true, not_true_eq_false, reduceCtorEq, Nat.reduceEqDiff, forall_eq, true_and, and_true, true_implies, forall_const, implies_true, List.mem_cons, List.not_mem_nil, or_false, false_or, or_self, if_true, if_false, reduceIte, Nat.reduceAdd, Nat.reduceMul, Nat.reduceLT, false_implies, Decidable.not_not, bI_eq0, bI_eq1, upd_at, updL_at, Nat.succ_ne_zero, Int32.reduceToNatClampNeg, eq_self, i01, i10, e47] at q3 ⊢
        rw [if_neg (by omega)]
        have := g2 n' p q1 q2 (by rw [e47]; exact q3); rw [e47] at this; exact this
      · simp only [jN_uI, jN_uJ, jN_uR, jK_uI, jK_uJ, jK_uR, jZ_uI, jZ_uJ, jZ_uR, jR_uI, jR_uJ, jr_uI, jr_uJ, jI_uJ, jI_uR, jJ_uI, jJ_uR, jI_uI_eq, jI_uI_ne, jJ_uJ_eq, jJ_uJ_ne, jSh_uI, jSh_uJ, jA_uI, jA_uJ, jA_uR, jI_uIf_eq, jI_uIf_ne, jJ_uIf, jR_uIf, jr_uIf, jZ_uIf, jSh_uIf, jA_uIf, ne_eq, not_false_eq_true, not_true_eq_false, reduceCtorEq, Nat.reduceEqDiff, forall_eq, true_and, and_true, true_implies, forall_const, implies_true, List.mem_cons, List.not_mem_nil, or_false, false_or, or_self, if_true, if_false, reduceIte, Nat.reduceAdd, Nat.reduceMul, Nat.reduceLT, false_implies, Decidable.not_not, bI_eq0, bI_eq1, upd_at, updL_at, Nat.succ_ne_zero, Int32.reduceToNatClampNeg, eq_self, i01, i10]
        by_cases e : p = r
        · subst e; rw [if_pos rfl]
        · rw [if_neg (by omega)]; exact u2 p (by omega)
    refine ⟨fun q => ⟨by omega, S2, by rw [show nI m + -1 = nI m - 1 by lia], f2, fun n' p q1 q2 q3 => ?_⟩, fun q => ⟨fun q2 => ?_, fun q2 => ?_⟩⟩
    · rw [e47] at q3 ⊢
      by_cases e : n' = m
      · subst e; exact u2 p (by omega)
      · have := g2 n' p (by omega) q2 (by rw [e47]; exact q3); rw [e47] at this; exact this
    · have : m = b := by omega
      subst this
      refine fin 0 (by omega) ?_ (by omega) _
      have := gUn_lo (row := jI S 47) (n := m) (b := r) (gR (jI S 47)) (by omega)
      rw [Nat.sub_self]
      unfold gTt
      rw [gGu, gSm, gSm]; simp only [Nat.sub_zero, Nat.add_zero, Nat.zero_add]; omega
    · unfold wX2_mostBehind
      simp only [shA_37, shR_37_0, shr_37_0, hs2, ne_eq, not_false_eq_true, not_true_eq_false, reduceCtorEq, Nat.reduceEqDiff, forall_eq, true_and, and_true, true_implies, forall_const, implies_true, List.mem_cons, List.not_mem_nil, or_false, false_or, or_self, if_true, if_false, reduceIte, Nat.reduceAdd, Nat.reduceMul, Nat.reduceLT, false_implies, Decidable.not_not, bI_eq0, bI_eq1, upd_at, updL_at, Nat.succ_ne_zero, Int32.reduceToNatClampNeg, eq_self, i01, i10]
      refine sX2_bestStep hs2 hm2 hb (show m < b by omega) (by rw [e47]; omega) (by rw [e47, f2.I 27 (by decide)]; exact hx m r (by omega) (by omega) (by omega)) g2 (fun p hp pR => ?_)
      rw [e47] at hp pR
      unfold wX11_placeOf
      simp only [shA_37, shA_38, shZ_38, shR_37_0, shr_37_0, hs2, nI_1, pl_nI, ne_eq, not_false_eq_true, not_true_eq_false, reduceCtorEq, Nat.reduceEqDiff, forall_eq, true_and, and_true, true_implies, forall_const, implies_true, List.mem_cons, List.not_mem_nil, or_false, false_or, or_self, if_true, if_false, reduceIte, Nat.reduceAdd, Nat.reduceMul, Nat.reduceLT, false_implies, Decidable.not_not, bI_eq0, bI_eq1, upd_at, updL_at, Nat.succ_ne_zero, Int32.reduceToNatClampNeg, eq_self, i01, i10]
      rw [nI_tn (by omega)]
      refine ⟨nI_in2 (by omega) (by omega), ?_⟩
      have ep := g2 (m + 1) p (by omega) (by omega) (by rw [e47]; exact pR)
      rw [e47] at ep
      have tb := gTt_b (row := jI S 47) (b := b) (k := b - (m + 1)) R2 (by omega)
      have hle := gGu_le (row := jI S 47) (b := b) (b - (m + 1)) p (by omega) pR
      rw [ep]
      refine fin _ (by omega) ?_ (by omega) _
      have := gUn_lo (row := jI S 47) (n := m) (b := r) (gR (jI S 47)) (by omega)
      have e3 := hp.1.2
      have ts := gTt_s (row := jI S 47) (b := b) (k := b - (m + 1)) (by omega)
      rw [show b - (m + 1) + 1 = b - m by omega, show b - (b - m) = m by omega] at ts
      omega
  · have : n = a := by omega
    subst this
    refine ⟨fun _ => h S1 f1 g1, fun q => absurd ?_ q⟩
    rcases Nat.eq_zero_or_pos n with z | z
    · rw [z]; decide
    · rw [nI_m1 z, nI_lt' (by omega) (by omega)]; omega
/-! the model -/
def ogOk (S : JS) (b m : Nat) : Prop := ∀ n r, m ≤ n → n ≤ b → r < gR (jI S 47) → jI S 62 (9 * n + r) = nI (gGu (jI S 47) b (b - n) r)
theorem gd_weigh {S : JS} {Q : Int32 → JS → Prop} {a b : Nat} {x y : Int32} (hs : jSh S) (hm : MW S) (hab : a ≤ b) (hb : b < 60) (hx : nxOk S 59) (h : ∀ S', jFr [45, 58, 59, 62] S S' → jFk 45 [27, 30, 31, 32] S S' → ogOk S' b a → (¬ y = -1 → wX12_guard_123 45 (nI a) y x (nI a) S' Q) ∧ (y = -1 → jA S' 45 12 ∧ (¬ jR S' 45 35 = none ∧ (jA S' (jr S' 45 35) 13 ∧ (vp_in (((9 : Int32) * nI a) + x) (jZ S' (jr S' 45 35)) ∧ (Q (jI S' (jr S' 45 35) (((9 : Int32) * nI a) + x).toNatClampNeg) S')))))) : wX12_guard_31 45 x (nI a) (nI b) y (nI b) S Q := by
  obtain ⟨R1, R2, R3⟩ := hm.1.1
  unfold wX12_guard_31
  refine jLoop.cnt (b + 1 - a) (fun j q => ∃ S', q = (45, x, nI a, nI b, y, nI (b + 1 - j) - 1, S') ∧ jFr [45, 58, 59, 62] S S' ∧ jFk 45 [27, 30, 31, 32] S S' ∧ ogOk S' b (b + 1 - j)) 0 (by omega) ?_ ⟨S, by rw [nI_m1 (by omega)]; rfl, jFr.refl _ _, jFk.refl _ _ _, fun n r q1 q2 => by omega⟩
  rintro j _ hj ⟨S1, rfl, f1, k1, g1⟩
  obtain ⟨n, hn0⟩ : ∃ n, b + 1 - j = n := ⟨_, rfl⟩
  rw [hn0] at g1 ⊢
  unfold bX12_guard_31
  simp only
  rcases Nat.lt_or_ge a n with l | l
  · obtain ⟨m, rfl⟩ : ∃ m, n = m + 1 := ⟨n - 1, by omega⟩
    have hn1 : b + 1 - (j + 1) = m := by omega
    rw [hn1, nI_m1 (by omega), show m + 1 - 1 = m by omega, nI_lt' (by omega) (by omega)]
    refine ⟨fun q => by omega, fun _ => ?_⟩
    unfold wX12_guard_36
    refine jLoop.cnt (gR (jI S 47)) (fun r q => ∃ S', q = (45, x, nI a, nI b, y, nI m, nI r, S') ∧ jFr [45, 58, 59, 62] S S' ∧ jFk 45 [27, 30, 31, 32] S S' ∧ ogOk S' b (m + 1) ∧ ∀ p, p < r → jI S' 62 (9 * m + p) = nI (gGu (jI S 47) b (b - m) p)) 0 (by omega) ?_ ⟨S1, rfl, f1, k1, g1, fun p q => absurd q (Nat.not_lt_zero _)⟩
    rintro r _ hr ⟨S2, rfl, f2, k2, g2, u2⟩
    have hs2 := f2.sh.mpr hs
    have hm2 : MW S2 := hm.fr f2 (by decide) (by decide)
    have e47 : jI S2 47 = jI S 47 := f2.I 47 (by decide)
    unfold bX12_guard_36
    refine ⟨shA_45 hs2, rk_of hs hm f2 (by decide) ?_⟩
    rw [nI_le' (by omega) (by omega)]
    refine ⟨fun q => nm_r (e' := nI m - 1) (by lia) ⟨by omega, S2, rfl, f2, k2, fun n' p q1 q2 q3 => ?_⟩, fun q => ?_⟩
    · rw [e47] at q3 ⊢
      by_cases e : n' = m
      · subst e; exact u2 p (by omega)
      · have := g2 n' p (by omega) q2 (by rw [e47]; exact q3); rw [e47] at this; exact this
    have fin : ∀ v, v + nI (gUn (jI S 47) m r (gR (jI S 47))) = nI (gGu (jI S 47) b (b - m) r) → ∀ X4, wX12_guard_89 X4 (fun l0 l1 l2 l3 l4 l5 l6 S_1 => r < gR (jI S 47) ∧ ∃ S', (l0, l1, l2, l3, l4, l5, l6, S_1) = (45, x, nI a, nI b, y, nI m, nI (r + 1), S') ∧ jFr [45, 58, 59, 62] S S' ∧ jFk 45 [27, 30, 31, 32] S S' ∧ ogOk S' b (m + 1) ∧ ∀ p, p < r + 1 → jI S' 62 (9 * m + p) = nI (gGu (jI S 47) b (b - m) p)) 45 x (nI a) (nI b) y (nI m) (nI r) v S2 Q := by
      intro v hv X4
      unfold wX12_guard_89
      simp only [shA_45, shR_45_2, shr_45_2, shR_45_3, shr_45_3, shR_45_4, shr_45_4, shR_45_5, shr_45_5, shR_45_7, shr_45_7, shR_45_16, shr_45_16, shR_45_18, shr_45_18, shR_45_19, shr_45_19, shR_45_21, shr_45_21, shR_45_22, shr_45_22, shR_45_25, shr_45_25, shR_45_26, shr_45_26, shR_45_28, shr_45_28, shR_45_29, shr_45_29, shR_45_33, shr_45_33, shR_45_34, shr_45_34, shR_45_35, shr_45_35, shR_45_36, shr_45_36, shR_45_37, shr_45_37, shR_45_38, shr_45_38, shR_45_39, shr_45_39, shR_45_40, shr_45_40, shR_45_42, shr_45_42, hs2, ne_eq, not_false_eq_true, not_true_eq_false, reduceCtorEq, Nat.reduceEqDiff, forall_eq, true_and, and_true, true_implies, forall_const, implies_true, List.mem_cons, List.not_mem_nil, or_false, false_or, or_self, if_true, if_false, reduceIte, Nat.reduceAdd, Nat.reduceMul, Nat.reduceLT, false_implies, Decidable.not_not, bI_eq0, bI_eq1, upd_at, updL_at, Nat.succ_ne_zero, Int32.reduceToNatClampNeg, eq_self, i01, i10]
      refine sX12_unwarnedIn hs2 hm2 (by omega) (by omega) (fun S3 f3 k3 => ?_)
      have hs3 := f3.sh.mpr hs2
      simp only [shA_62, shZ_62, hs3, e47, hv, ne_eq, not_false_eq_true, not_true_eq_false, reduceCtorEq, Nat.reduceEqDiff, forall_eq, true_and, and_true, true_implies, forall_const, implies_true, List.mem_cons, List.not_mem_nil, or_false, false_or, or_self, if_true, if_false, reduceIte, Nat.reduceAdd, Nat.reduceMul, Nat.reduceLT, false_implies, Decidable.not_not, bI_eq0, bI_eq1, upd_at, updL_at, Nat.succ_ne_zero, Int32.reduceToNatClampNeg, eq_self, i01, i10]
      simp (disch := omega) only [li_9, li_1, nI_add, nI_mul, nI_inT, nI_tn, ne_eq, not_false_eq_true, not_true_eq_false, reduceCtorEq, Nat.reduceEqDiff, forall_eq, true_and, and_true, true_implies, forall_const, implies_true, List.mem_cons, List.not_mem_nil, or_false, false_or, or_self, if_true, if_false, reduceIte, Nat.reduceAdd, Nat.reduceMul, Nat.reduceLT, false_implies, Decidable.not_not, bI_eq0, bI_eq1, upd_at, updL_at, Nat.succ_ne_zero, Int32.reduceToNatClampNeg, eq_self, i01, i10]
      have e62 : jI S3 62 = jI S2 62 := f3.I 62 (by decide)
      have e347 : jI S3 47 = jI S 47 := by rw [f3.I 47 (by decide), e47]
      refine ⟨by omega, _, rfl, (f2.tr (f3.mono (by decide))).uI (by decide), (k2.tr k3).oI (by decide), fun n' p q1 q2 q3 => ?_, fun p hp => ?_⟩
      · simp only [jN_uI, jN_uJ, jN_uR, jK_uI, jK_uJ, jK_uR, jZ_uI, jZ_uJ, jZ_uR, jR_uI, jR_uJ, jr_uI, jr_uJ, jI_uJ, jI_uR, jJ_uI, jJ_uR, jI_uI_eq, jI_uI_ne, jJ_uJ_eq, jJ_uJ_ne, jSh_uI, jSh_uJ, jA_uI, jA_uJ, jA_uR, jI_uIf_eq, jI_uIf_ne, jJ_uIf, jR_uIf, jr_uIf, jZ_uIf, jSh_uIf, jA_uIf, ne_eq, not_false_eq_true, not_true_eq_false, reduceCtorEq, Nat.reduceEqDiff, forall_eq, true_and, and_true, true_implies, forall_const, implies_true, List.mem_cons, List.not_mem_nil, or_false, false_or, or_self, if_true, if_false, reduceIte, Nat.reduceAdd, Nat.reduceMul, Nat.reduceLT, false_implies, Decidable.not_not, bI_eq0, bI_eq1, upd_at, updL_at, Nat.succ_ne_zero, Int32.reduceToNatClampNeg, eq_self, i01, i10, e347, e62] at q3 ⊢
        rw [if_neg (by omega)]
        have := g2 n' p q1 q2 (by rw [e47]; exact q3); rw [e47] at this; exact this
      · simp only [jN_uI, jN_uJ, jN_uR, jK_uI, jK_uJ, jK_uR, jZ_uI, jZ_uJ, jZ_uR, jR_uI, jR_uJ, jr_uI, jr_uJ, jI_uJ, jI_uR, jJ_uI, jJ_uR, jI_uI_eq, jI_uI_ne, jJ_uJ_eq, jJ_uJ_ne, jSh_uI, jSh_uJ, jA_uI, jA_uJ, jA_uR, jI_uIf_eq, jI_uIf_ne, jJ_uIf, jR_uIf, jr_uIf, jZ_uIf, jSh_uIf, jA_uIf, ne_eq, not_false_eq_true, not_true_eq_false, reduceCtorEq, Nat.reduceEqDiff, forall_eq, true_and, and_true, true_implies, forall_const, implies_true, List.mem_cons, List.not_mem_nil, or_false, false_or, or_self, if_true, if_false, reduceIte, Nat.reduceAdd, Nat.reduceMul, Nat.reduceLT, false_implies, Decidable.not_not, bI_eq0, bI_eq1, upd_at, updL_at, Nat.succ_ne_zero, Int32.reduceToNatClampNeg, eq_self, i01, i10, e62]
        by_cases e : p = r
        · subst e; rw [if_pos rfl]
        · rw [if_neg (by omega)]; exact u2 p (by omega)
    unfold wX12_guard_46
    rw [nI_eq' (by omega) (by omega)]
    rcases Nat.lt_or_ge m b with n0 | n0
    · obtain ⟨k, e1, e2, e3⟩ : ∃ k, b - m = k + 1 ∧ b - (m + 1) = k ∧ b - (k + 1) = m := ⟨b - m - 1, by omega, by omega, by omega⟩
      refine ⟨fun _ => ?_, fun q => by omega⟩
      unfold wX12_guard_49
      refine jLoop.cnt (gR (jI S 47)) (fun c q => q = (45, x, nI a, nI b, y, nI m, nI r, nI (mn (gSt (jI S 47) m r) (gGu (jI S 47) b k) c), nI c, S2)) 0 (by omega) ?_ rfl
      rintro c _ hc rfl
      unfold bX12_guard_49 wX12_guard_79 wX12_guard_86
      have mt := mn_top (gSt (jI S 47) m r) (gGu (jI S 47) b k) c
      refine ⟨shA_45 hs2, rk_of hs hm f2 (by decide) ?_⟩
      rw [nI_le' (by omega) (by omega), nI_le' (by omega) (by omega)]
      refine ⟨fun z => fin _ ?_ _, fun z => ⟨fun z2 => by omega, fun z2 => ?_⟩⟩
      · rw [nI_add, e1, gGu, e3, show c = gR (jI S 47) by omega]
      · have tb := gTt_b (row := jI S 47) (b := b) (k := k) R2 (by omega)
        have hle := gGu_le (row := jI S 47) (b := b) k c (by omega) (by omega)
        have ht : jI S2 62 (9 * (m + 1) + c) = nI (gGu (jI S 47) b k c) := by
          have := g2 (m + 1) c (by omega) (by omega) (by rw [e47]; omega); rw [e47, e2] at this; exact this
        have hxx := hx m r (by omega) (by omega)
        simp only [shA_45, shA_60, shZ_60, shR_45_2, shr_45_2, shR_45_3, shr_45_3, shR_45_4, shr_45_4, shR_45_5, shr_45_5, shR_45_7, shr_45_7, shR_45_16, shr_45_16, shR_45_18, shr_45_18, shR_45_19, shr_45_19, shR_45_21, shr_45_21, shR_45_22, shr_45_22, shR_45_25, shr_45_25, shR_45_26, shr_45_26, shR_45_28, shr_45_28, shR_45_29, shr_45_29, shR_45_33, shr_45_33, shR_45_34, shr_45_34, shR_45_35, shr_45_35, shR_45_36, shr_45_36, shR_45_37, shr_45_37, shR_45_38, shr_45_38, shR_45_39, shr_45_39, shR_45_40, shr_45_40, shR_45_42, shr_45_42, hs2, f2.I 60 (by decide), ne_eq, not_false_eq_true, not_true_eq_false, reduceCtorEq, Nat.reduceEqDiff, forall_eq, true_and, and_true, true_implies, forall_const, implies_true, List.mem_cons, List.not_mem_nil, or_false, false_or, or_self, if_true, if_false, reduceIte, Nat.reduceAdd, Nat.reduceMul, Nat.reduceLT, false_implies, Decidable.not_not, bI_eq0, bI_eq1, upd_at, updL_at, Nat.succ_ne_zero, Int32.reduceToNatClampNeg, eq_self, i01, i10]
        simp (disch := omega) only [li_9, li_1, nI_add, nI_mul, nI_inT, nI_tn, ne_eq, not_false_eq_true, not_true_eq_false, reduceCtorEq, Nat.reduceEqDiff, forall_eq, true_and, and_true, true_implies, forall_const, implies_true, List.mem_cons, List.not_mem_nil, or_false, false_or, or_self, if_true, if_false, reduceIte, Nat.reduceAdd, Nat.reduceMul, Nat.reduceLT, false_implies, Decidable.not_not, bI_eq0, bI_eq1, upd_at, updL_at, Nat.succ_ne_zero, Int32.reduceToNatClampNeg, eq_self, i01, i10]
        rw [show 9 * m + 9 + c = 9 * (m + 1) + c by omega]
        refine sX12_is (by omega) (fun hb2 => ?_) (fun hb2 => ?_)
        · have hg := (hxx c (by omega)).mp hb2
          simp only [shA_45, shA_62, shZ_62, shR_45_2, shr_45_2, shR_45_3, shr_45_3, shR_45_4, shr_45_4, shR_45_5, shr_45_5, shR_45_7, shr_45_7, shR_45_16, shr_45_16, shR_45_18, shr_45_18, shR_45_19, shr_45_19, shR_45_21, shr_45_21, shR_45_22, shr_45_22, shR_45_25, shr_45_25, shR_45_26, shr_45_26, shR_45_28, shr_45_28, shR_45_29, shr_45_29, shR_45_33, shr_45_33, shR_45_34, shr_45_34, shR_45_35, shr_45_35, shR_45_36, shr_45_36, shR_45_37, shr_45_37, shR_45_38, shr_45_38, shR_45_39, shr_45_39, shR_45_40, shr_45_40, shR_45_42, shr_45_42, hs2, ht, ne_eq, not_false_eq_true, not_true_eq_false, reduceCtorEq, Nat.reduceEqDiff, forall_eq, true_and, and_true, true_implies, forall_const, implies_true, List.mem_cons, List.not_mem_nil, or_false, false_or, or_self, if_true, if_false, reduceIte, Nat.reduceAdd, Nat.reduceMul, Nat.reduceLT, false_implies, Decidable.not_not, bI_eq0, bI_eq1, upd_at, updL_at, Nat.succ_ne_zero, Int32.reduceToNatClampNeg, eq_self, i01, i10]
          simp (disch := omega) only [nI_inT, nI_leB, ne_eq, not_false_eq_true, not_true_eq_false, reduceCtorEq, Nat.reduceEqDiff, forall_eq, true_and, and_true, true_implies, forall_const, implies_true, List.mem_cons, List.not_mem_nil, or_false, false_or, or_self, if_true, if_false, reduceIte, Nat.reduceAdd, Nat.reduceMul, Nat.reduceLT, false_implies, Decidable.not_not, bI_eq0, bI_eq1, upd_at, updL_at, Nat.succ_ne_zero, Int32.reduceToNatClampNeg, eq_self, i01, i10]
          refine ⟨fun z3 => ⟨by omega, ?_⟩, fun z3 => ⟨by omega, ?_⟩⟩
          · rw [mn, pick_f (by omega)]
          · rw [mn, pick_t ⟨hg, by omega⟩]
        · simp (disch := omega) only [li_1000000, nI_leB, ne_eq, not_false_eq_true, not_true_eq_false, reduceCtorEq, Nat.reduceEqDiff, forall_eq, true_and, and_true, true_implies, forall_const, implies_true, List.mem_cons, List.not_mem_nil, or_false, false_or, or_self, if_true, if_false, reduceIte, Nat.reduceAdd, Nat.reduceMul, Nat.reduceLT, false_implies, Decidable.not_not, bI_eq0, bI_eq1, upd_at, updL_at, Nat.succ_ne_zero, Int32.reduceToNatClampNeg, eq_self, i01, i10]
          have hg : ¬ gSt (jI S 47) m r c := fun y => hb2 ((hxx c (by omega)).mpr y)
          refine ⟨fun z3 => ⟨by omega, ?_⟩, fun z3 => by omega⟩
          rw [mn, pick_f (fun y => hg y.1)]
    · have : m = b := by omega
      subst this
      refine ⟨fun q => absurd rfl q, fun _ => ?_⟩
      unfold wX12_guard_49
      refine jLoop.roll ?_
      unfold bX12_guard_49
      refine ⟨shA_45 hs2, rk_of hs hm f2 (by decide) ?_⟩
      have f0 := fin 0 (by rw [li_0, nI_add, Nat.zero_add, Nat.sub_self, gGu])
      exact ⟨fun _ => f0 _, fun _ => ⟨fun _ => f0 _, fun z => absurd ((nI_le' (by omega) (by omega)).mpr (Nat.le_refl _)) z⟩⟩
  · have : n = a := by omega
    subst this
    refine ⟨fun _ => h S1 f1 k1 g1, fun q => absurd ?_ q⟩
    rcases Nat.eq_zero_or_pos n with z | z
    · rw [z]; decide
    · rw [nI_m1 z, nI_lt' (by omega) (by omega)]; omega
theorem gd_walk {S : JS} {Q : Int32 → JS → Prop} {a b r i : Nat} (hs : jSh S) (hm : MW S) (hb : b < 60) (hi : a + i ≤ b) (hr : r < gR (jI S 47)) (hx : nxOk S 59) (hg : ogOk S b a) (h : ∀ S' v, jFr [45, 58, 59] S S' → jFk 45 [27, 30, 31, 32] S S' → gGw (jI S 47) b a r i v → Q (nI v) S') : wX12_guard_123 45 (nI a) (nI i) (nI r) (nI a) S Q := by
  obtain ⟨R1, R2, R3⟩ := hm.1.1
  unfold wX12_guard_123
  refine jLoop.cnt i (fun k q => ∃ S' u, q = (45, nI a, nI i, nI u, nI (a + k), S') ∧ jFr [45, 58, 59] S S' ∧ jFk 45 [27, 30, 31, 32] S S' ∧ gGw (jI S 47) b a r k u) 0 (by omega) ?_ ⟨S, r, rfl, jFr.refl _ _, jFk.refl _ _ _, rfl⟩
  rintro k _ hk ⟨S1, u, rfl, f1, k1, u1⟩
  have hs1 := f1.sh.mpr hs
  have hm1 : MW S1 := hm.fr f1 (by decide) (by decide)
  have e47 : jI S1 47 = jI S 47 := f1.I 47 (by decide)
  have uR := gGw_lt hr u1
  have hD := hg (a + k) u (by omega) (by omega) uR
  unfold bX12_guard_123
  simp only [shA_45, shA_62, shZ_62, shR_45_2, shr_45_2, shR_45_3, shr_45_3, shR_45_4, shr_45_4, shR_45_5, shr_45_5, shR_45_7, shr_45_7, shR_45_16, shr_45_16, shR_45_18, shr_45_18, shR_45_19, shr_45_19, shR_45_21, shr_45_21, shR_45_22, shr_45_22, shR_45_25, shr_45_25, shR_45_26, shr_45_26, shR_45_28, shr_45_28, shR_45_29, shr_45_29, shR_45_33, shr_45_33, shR_45_34, shr_45_34, shR_45_35, shr_45_35, shR_45_36, shr_45_36, shR_45_37, shr_45_37, shR_45_38, shr_45_38, shR_45_39, shr_45_39, shR_45_40, shr_45_40, shR_45_42, shr_45_42, hs1, f1.I 62 (by decide), ne_eq, not_false_eq_true, not_true_eq_false, reduceCtorEq, Nat.reduceEqDiff, forall_eq, true_and, and_true, true_implies, forall_const, implies_true, List.mem_cons, List.not_mem_nil, or_false, false_or, or_self, if_true, if_false, reduceIte, Nat.reduceAdd, Nat.reduceMul, Nat.reduceLT, false_implies, Decidable.not_not, bI_eq0, bI_eq1, upd_at, updL_at, Nat.succ_ne_zero, Int32.reduceToNatClampNeg, eq_self, i01, i10]
  simp (disch := omega) only [li_9, nI_add, nI_mul, nI_inT, nI_tn, nI_le', ne_eq, not_false_eq_true, not_true_eq_false, reduceCtorEq, Nat.reduceEqDiff, forall_eq, true_and, and_true, true_implies, forall_const, implies_true, List.mem_cons, List.not_mem_nil, or_false, false_or, or_self, if_true, if_false, reduceIte, Nat.reduceAdd, Nat.reduceMul, Nat.reduceLT, false_implies, Decidable.not_not, bI_eq0, bI_eq1, upd_at, updL_at, Nat.succ_ne_zero, Int32.reduceToNatClampNeg, eq_self, i01, i10]
  refine ⟨fun z => ?_, fun z => ?_⟩
  · have : k = i := by omega
    subst this; exact h S1 u f1 k1 u1
  · refine sX12_unwarnedIn hs1 hm1 (by omega) (by omega) (fun S2 f2 k2 => ?_)
    have hs2 := f2.sh.mpr hs1
    have e60 : jI S2 60 = jI S 60 := by rw [f2.I 60 (by decide), f1.I 60 (by decide)]
    have e62 : jI S2 62 = jI S 62 := by rw [f2.I 62 (by decide), f1.I 62 (by decide)]
    obtain ⟨s1, q0, s2⟩ := gGu_step (row := jI S 47) (b := b) (n := a + k) R2 hb (by omega) uR
    obtain ⟨w, hw⟩ := low_ex ⟨q0, s2⟩
    have wR := gSt_lt hw.1.1 uR
    have hle : gUn (jI S 47) (a + k) u (gR (jI S 47)) ≤ gGu (jI S 47) b (b - (a + k)) u := by have := s2.2; omega
    have tb := gTt_b (row := jI S 47) (b := b) (k := b - (a + k)) R2 (by omega)
    have hle1 := gGu_le (row := jI S 47) (b := b) (b - (a + k)) u (by omega) uR
    rw [hD, e47, nI_sub hle]
    unfold wX12_guard_144
    refine jLoop.cnt w (fun d q => q = (45, nI a, nI i, nI u, nI (a + k), nI (gGu (jI S 47) b (b - (a + k)) u - gUn (jI S 47) (a + k) u (gR (jI S 47))), nI d, S2)) 0 (by omega) ?_ rfl
    rintro d _ hd rfl
    have hxx := hx (a + k) u (by omega) uR
    have hDd := hg (a + k + 1) d (by omega) (by omega) (by omega)
    have tb2 := gTt_b (row := jI S 47) (b := b) (k := b - (a + k + 1)) R2 (by omega)
    have hle2 := gGu_le (row := jI S 47) (b := b) (b - (a + k + 1)) d (by omega) (by omega)
    have skip : ¬ gBg (jI S 47) b (a + k) u d → d < w := by
      intro hg
      rcases Nat.lt_or_ge d w with l | l
      · exact l
      · rw [show d = w by omega] at hg; exact absurd hw.1 hg
    unfold bX12_guard_144 wX12_guard_167
    simp only [shA_45, shA_60, shZ_60, shR_45_2, shr_45_2, shR_45_3, shr_45_3, shR_45_4, shr_45_4, shR_45_5, shr_45_5, shR_45_7, shr_45_7, shR_45_16, shr_45_16, shR_45_18, shr_45_18, shR_45_19, shr_45_19, shR_45_21, shr_45_21, shR_45_22, shr_45_22, shR_45_25, shr_45_25, shR_45_26, shr_45_26, shR_45_28, shr_45_28, shR_45_29, shr_45_29, shR_45_33, shr_45_33, shR_45_34, shr_45_34, shR_45_35, shr_45_35, shR_45_36, shr_45_36, shR_45_37, shr_45_37, shR_45_38, shr_45_38, shR_45_39, shr_45_39, shR_45_40, shr_45_40, shR_45_42, shr_45_42, hs2, e60, ne_eq, not_false_eq_true, not_true_eq_false, reduceCtorEq, Nat.reduceEqDiff, forall_eq, true_and, and_true, true_implies, forall_const, implies_true, List.mem_cons, List.not_mem_nil, or_false, false_or, or_self, if_true, if_false, reduceIte, Nat.reduceAdd, Nat.reduceMul, Nat.reduceLT, false_implies, Decidable.not_not, bI_eq0, bI_eq1, upd_at, updL_at, Nat.succ_ne_zero, Int32.reduceToNatClampNeg, eq_self, i01, i10]
    simp (disch := omega) only [li_9, li_1, nI_add, nI_mul, nI_inT, nI_tn, ne_eq, not_false_eq_true, not_true_eq_false, reduceCtorEq, Nat.reduceEqDiff, forall_eq, true_and, and_true, true_implies, forall_const, implies_true, List.mem_cons, List.not_mem_nil, or_false, false_or, or_self, if_true, if_false, reduceIte, Nat.reduceAdd, Nat.reduceMul, Nat.reduceLT, false_implies, Decidable.not_not, bI_eq0, bI_eq1, upd_at, updL_at, Nat.succ_ne_zero, Int32.reduceToNatClampNeg, eq_self, i01, i10]
    refine sX12_is (by omega) (fun hb2 => ?_) (fun hb2 => ?_)
    · have hg2 := (hxx d (by omega)).mp hb2
      simp only [shA_45, shA_62, shZ_62, shR_45_2, shr_45_2, shR_45_3, shr_45_3, shR_45_4, shr_45_4, shR_45_5, shr_45_5, shR_45_7, shr_45_7, shR_45_16, shr_45_16, shR_45_18, shr_45_18, shR_45_19, shr_45_19, shR_45_21, shr_45_21, shR_45_22, shr_45_22, shR_45_25, shr_45_25, shR_45_26, shr_45_26, shR_45_28, shr_45_28, shR_45_29, shr_45_29, shR_45_33, shr_45_33, shR_45_34, shr_45_34, shR_45_35, shr_45_35, shR_45_36, shr_45_36, shR_45_37, shr_45_37, shR_45_38, shr_45_38, shR_45_39, shr_45_39, shR_45_40, shr_45_40, shR_45_42, shr_45_42, hs2, e62, ne_eq, not_false_eq_true, not_true_eq_false, reduceCtorEq, Nat.reduceEqDiff, forall_eq, true_and, and_true, true_implies, forall_const, implies_true, List.mem_cons, List.not_mem_nil, or_false, false_or, or_self, if_true, if_false, reduceIte, Nat.reduceAdd, Nat.reduceMul, Nat.reduceLT, false_implies, Decidable.not_not, bI_eq0, bI_eq1, upd_at, updL_at, Nat.succ_ne_zero, Int32.reduceToNatClampNeg, eq_self, i01, i10]
      rw [show 9 * (a + k) + 9 + d = 9 * (a + k + 1) + d by omega, hDd]
      simp (disch := omega) only [nI_inT, nI_eq', ne_eq, not_false_eq_true, not_true_eq_false, reduceCtorEq, Nat.reduceEqDiff, forall_eq, true_and, and_true, true_implies, forall_const, implies_true, List.mem_cons, List.not_mem_nil, or_false, false_or, or_self, if_true, if_false, reduceIte, Nat.reduceAdd, Nat.reduceMul, Nat.reduceLT, false_implies, Decidable.not_not, bI_eq0, bI_eq1, upd_at, updL_at, Nat.succ_ne_zero, Int32.reduceToNatClampNeg, eq_self, i01, i10]
      refine ⟨fun z3 => ⟨by omega, S2, d, rfl, f1.tr f2, k1.tr k2, u, u1, ?_⟩, fun z3 => skip (fun y => by have := y.2; omega)⟩
      rcases Nat.lt_or_ge d w with l | l
      · exact absurd ⟨hg2, by omega⟩ (hw.2 d l)
      · rw [show d = w by omega]; exact hw
    · simp only [ne_eq, not_false_eq_true, not_true_eq_false, reduceCtorEq, Nat.reduceEqDiff, forall_eq, true_and, and_true, true_implies, forall_const, implies_true, List.mem_cons, List.not_mem_nil, or_false, false_or, or_self, if_true, if_false, reduceIte, Nat.reduceAdd, Nat.reduceMul, Nat.reduceLT, false_implies, Decidable.not_not, bI_eq0, bI_eq1, upd_at, updL_at, Nat.succ_ne_zero, Int32.reduceToNatClampNeg, eq_self, i01, i10]
      exact skip (fun y => hb2 ((hxx d (by omega)).mpr y.1))
