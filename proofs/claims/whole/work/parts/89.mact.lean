/-! THE MODEL'S READER: what it does at a token -/
def mL (test tn : Int32) (M : JS) (Q : JS → Prop) : Prop := wX12_readExpression_12 45 test tn M Q
def BP (M : JS) (b x : Nat) : Prop := b = 0 ∨ ∃ p, p < 1000 ∧ jI M 54 (b - 1) = nI p ∧ bd p < x
def inn (pl : Nat → Int32) : Nat → Int32
  | 0 => -1
  | b + 1 => if pl b < 30 then inn pl b else pl b
theorem inn_ext {pl : Nat → Int32} {b : Nat} : ∀ b', b ≤ b' → (∀ k, b ≤ k → k < b' → pl k < 30) → inn pl b' = inn pl b
  | 0, h, _ => by rw [show b = 0 by omega]
  | b' + 1, h, q => by
    rcases Nat.lt_or_ge b' b with l | l
    · rw [show b = b' + 1 by omega]
    · rw [inn, if_pos (q b' l (by omega))]; exact inn_ext b' l (fun k k1 k2 => q k k1 (by omega))
theorem inn_cg {pl pl' : Nat → Int32} : ∀ b, (∀ k, k < b → pl' k = pl k) → inn pl' b = inn pl b
  | 0, _ => rfl
  | b + 1, q => by rw [inn, inn, q b (by omega), inn_cg b (fun k hk => q k (by omega))]
section PLS
variable {op arg pl pa : Nat → Int32} {n b n' b' k : Nat} {f : JF}
theorem TmP.wt (h : TmP op arg pl n b n' b' f) : n ≤ n' ∧ b ≤ b' ∧ ∀ k, b ≤ k → k < b' → ∃ o, 20 ≤ o ∧ o ≤ 23 ∧ pl k = nI o := by
  rcases h with ⟨e, d⟩ | ⟨e, o, m, f1, f2, ho, hp, d1, d2, _⟩
  · exact ⟨d.1, by omega, fun k k1 k2 => by omega⟩
  · have := d1.1; have := d2.1
    exact ⟨by omega, by omega, fun k k1 k2 => ⟨o, by omega, by omega, by rw [show k = b by omega]; exact hp⟩⟩
theorem SmP.wt (h : SmP op arg pl n b n' b' f) : n ≤ n' ∧ b ≤ b' ∧ ∀ k, b ≤ k → k < b' → ∃ o, 20 ≤ o ∧ o ≤ 23 ∧ pl k = nI o := by
  rcases h with h | ⟨o, m, f1, f2, ho, hp, d1, ht, _⟩
  · exact h.wt
  · have := d1.1
    obtain ⟨a1, a2, a3⟩ := ht.wt
    refine ⟨by omega, by omega, fun k k1 k2 => ?_⟩
    rcases Nat.lt_or_ge b k with l | l
    · exact a3 k (by omega) k2
    · exact ⟨o, by omega, by omega, by rw [show k = b by omega]; exact hp⟩
theorem CmP.wt (h : CmP op arg pl n b n' b' f) : n ≤ n' ∧ b ≤ b' ∧ ∀ k, b ≤ k → k < b' → ∃ o, o < 30 ∧ pl k = nI o := by
  obtain ⟨o, m, f1, f2, ho, hp, d1, ht, _⟩ := h
  have := d1.1
  obtain ⟨a1, a2, a3⟩ := ht.wt
  refine ⟨by omega, by omega, fun k k1 k2 => ?_⟩
  rcases Nat.lt_or_ge b k with l | l
  · obtain ⟨o2, q1, q2, q3⟩ := a3 k (by omega) k2
    exact ⟨o2, by omega, q3⟩
  · exact ⟨o, by omega, by rw [show k = b by omega]; exact hp⟩
theorem PlP.wt : ∀ (j b : Nat) (f : JF), PlP op arg pl j n b n' b' f → n ≤ n' ∧ b ≤ b' ∧ ∀ k, b ≤ k → k < b' → ∃ o, o < 30 ∧ pl k = nI o
  | 0, b, f, h => by
    rcases h with h | ⟨e, d⟩
    · exact h.wt
    · exact ⟨d.1, by omega, fun k k1 k2 => by omega⟩
  | j + 1, b, f, h => by
    obtain ⟨hp, f', h', _⟩ := h
    obtain ⟨a1, a2, a3⟩ := PlP.wt j (b + 1) f' h'
    refine ⟨by omega, by omega, fun k k1 k2 => ?_⟩
    rcases Nat.lt_or_ge b k with l | l
    · exact a3 k (by omega) k2
    · exact ⟨27, by omega, by rw [show k = b by omega]; exact hp⟩
theorem BoP.wt (h : BoP op arg pl pa n b n' b' f) : n ≤ n' ∧ b ≤ b' ∧ ∀ k, b ≤ k → k < b' → ∃ o, o < 30 ∧ pl k = nI o := by
  rcases h with ⟨j, h⟩ | ⟨m, j, f1, f2, hp, ha, hm, d1, eo, ht, _⟩
  · exact PlP.wt j b f h
  · have := d1.1
    obtain ⟨a1, a2, a3⟩ := PlP.wt j (b + 1) f2 ht
    refine ⟨by omega, by omega, fun k k1 k2 => ?_⟩
    rcases Nat.lt_or_ge b k with l | l
    · exact a3 k (by omega) k2
    · exact ⟨28, by omega, by rw [show k = b by omega]; exact hp⟩
theorem TeP.wt (h : TeP op arg pl pa n b n' b' f) : n ≤ n' ∧ b ≤ b' ∧ ∀ k, b ≤ k → k < b' → ∃ o, o < 30 ∧ pl k = nI o := by
  rcases h with h | ⟨m, f1, f2, hp, ha, hm, d1, eo, ht, _⟩
  · exact h.wt
  · have := d1.1
    obtain ⟨a1, a2, a3⟩ := ht.wt
    refine ⟨by omega, by omega, fun k k1 k2 => ?_⟩
    rcases Nat.lt_or_ge b k with l | l
    · exact a3 k (by omega) k2
    · exact ⟨29, by omega, by rw [show k = b by omega]; exact hp⟩
end PLS
section MACT
variable {t e i l n b o : Nat} {A B sg vl so bb : Nat → Nat} {wo : Nat → Int64} {M M' M2 M0 : JS} {f : JF}
theorem BP.cg {x : Nat} (h : BP M b x) (g : ∀ k, k < b → jI M' 54 k = jI M 54 k) : BP M' b x := by
  rcases h with h | ⟨p, p0, p1, p2⟩
  · exact Or.inl h
  · by_cases e : b = 0
    · exact Or.inl e
    · exact Or.inr ⟨p, p0, by rw [g (b - 1) (by omega)]; exact p1, p2⟩
theorem BP.le {x y : Nat} (h : BP M b x) (q : x ≤ y) : BP M b y := by
  rcases h with h | ⟨p, p0, p1, p2⟩
  · exact Or.inl h
  · exact Or.inr ⟨p, p0, p1, by omega⟩
theorem BP.at {p x : Nat} (h : jI M 54 b = nI p) (hp : p < 1000) (hx : bd p < x) : BP M (b + 1) x := Or.inr ⟨p, hp, by rw [Nat.add_sub_cancel]; exact h, hx⟩
theorem MF.mono {n1 b1 : Nat} (f : MF M M' n1 b1) (h : n ≤ n1) (h2 : b ≤ b1) : MF M M' n b := MF.tr MF.refl f h h2
theorem mL_roll {Q : JS → Prop} {test tn : Int32} (h : ∀ K : Nat → Int32 → Int32 → JS → Prop, (∀ tn' M', mL test tn' M' Q → K 45 test tn' M') → bX12_readExpression_12 K 45 test tn M Q) : mL test tn M Q := by
  unfold mL wX12_readExpression_12
  exact jLoop.roll (h _ (fun _ _ h => h))
theorem in_roll {Q : Int32 → JS → Prop} {x y : Int32} (h : ∀ K : Nat → Int32 → Int32 → JS → Prop, (∀ x' y' M', wX12_inner_4 45 x' y' M' Q → K 45 x' y' M') → bX12_inner_4 K 45 x y M Q) : wX12_inner_4 45 x y M Q := by
  unfold wX12_inner_4
  exact jLoop.roll (h _ (fun _ _ _ h => h))
theorem inner_go {Q : Int32 → JS → Prop} (hs : jSh M) (g : jI M 45 23 = nI b) (hb : b ≤ 400) (hq : Q (inn (jI M 54) b) M) : ∀ m k, k + m = b → wX12_inner_4 45 (inn (jI M 54) k) (nI k) M Q
  | 0, k, e => by
    refine in_roll (fun K _ => ?_)
    unfold bX12_inner_4
    rw [g, nI_le' (by omega) (by omega)]
    exact ⟨shA_45 hs, fun _ => by rw [show k = b by omega]; exact hq, fun z => by omega⟩
  | m + 1, k, e => by
    refine in_roll (fun K hK => ?_)
    have ih := hK _ _ _ (inner_go hs g hb hq m (k + 1) (by omega))
    rw [inn] at ih
    unfold bX12_inner_4 wX12_inner_20
    simp only [shA_45, shA_54, shZ_54, shR_45_2, shr_45_2, shR_45_3, shr_45_3, shR_45_4, shr_45_4, shR_45_5, shr_45_5, shR_45_7, shr_45_7, shR_45_16, shr_45_16, shR_45_18, shr_45_18, shR_45_19, shr_45_19, shR_45_21, shr_45_21, shR_45_22, shr_45_22, shR_45_25, shr_45_25, shR_45_26, shr_45_26, shR_45_28, shr_45_28, shR_45_29, shr_45_29, shR_45_33, shr_45_33, shR_45_34, shr_45_34, shR_45_35, shr_45_35, shR_45_36, shr_45_36, shR_45_37, shr_45_37, shR_45_38, shr_45_38, shR_45_39, shr_45_39, shR_45_40, shr_45_40, shR_45_42, shr_45_42, hs, g, ne_eq, not_false_eq_true, not_true_eq_false, reduceCtorEq, Nat.reduceEqDiff, forall_eq, true_and, and_true, true_implies, forall_const, implies_true, List.mem_cons, List.not_mem_nil, or_false, false_or, or_self, if_true, if_false, reduceIte, Nat.reduceAdd, Nat.reduceMul, Nat.reduceLT, false_implies, Decidable.not_not, bI_eq0, bI_eq1, upd_at, updL_at, Nat.succ_ne_zero, Int32.reduceToNatClampNeg, eq_self, i01, i10]
    rw [nI_le' (by omega) (by omega), nI_tn (by omega), nI_1]
    refine ⟨fun z => by omega, fun _ => ⟨nI_in2 (by omega) (by omega), fun z => ?_, fun z => ?_⟩⟩
    · rw [if_pos z] at ih; exact ih
    · rw [if_neg z] at ih; exact ih
theorem sX12_inner {Q : Int32 → JS → Prop} (h : MT t e A B so bb wo M i l n b o) (hA : A i ≤ 400) (hq : Q (inn (jI M 54) b) M) : wX12_inner 45 M Q := by
  obtain ⟨⟨hs, _⟩, _, ⟨_, _, _, g, _⟩, ⟨_, hb, _⟩, _⟩ := h
  unfold wX12_inner
  exact inner_go hs g (by omega) hq b 0 (by omega)
theorem ic_roll {Q : Int32 → JS → Prop} {x : Int32} (h : ∀ K : Nat → Int32 → JS → Prop, (∀ x' M', wX12_isCompared_5 45 x' M' Q → K 45 x' M') → bX12_isCompared_5 K 45 x M Q) : wX12_isCompared_5 45 x M Q := by
  unfold wX12_isCompared_5
  exact jLoop.roll (h _ (fun _ _ h => h))
theorem isC_go {Q : Int32 → JS → Prop} (hs : jSh M) (hops : ∀ k, b ≤ k → k < b + n → ∃ p, 20 ≤ p ∧ p ≤ 23 ∧ jI M 54 k = nI p) (hb : b + n ≤ 400) (hq : wX12_isCompared_5 45 (nI b - 1) M Q) : ∀ m, m ≤ n → wX12_isCompared_5 45 (nI (b + m) - 1) M Q
  | 0, _ => hq
  | m + 1, hm => by
    have ih := isC_go hs hops hb hq m (by omega)
    refine ic_roll (fun K hK => ?_)
    have ih := hK _ _ ih
    obtain ⟨p, p1, p2, p3⟩ := hops (b + m) (by omega) (by omega)
    unfold bX12_isCompared_5
    rw [show b + (m + 1) = b + m + 1 by omega, nI_s1 (by omega), Nat.add_sub_cancel]
    simp only [shA_45, shA_54, shZ_54, shR_45_2, shr_45_2, shR_45_3, shr_45_3, shR_45_4, shr_45_4, shR_45_5, shr_45_5, shR_45_7, shr_45_7, shR_45_16, shr_45_16, shR_45_18, shr_45_18, shR_45_19, shr_45_19, shR_45_21, shr_45_21, shR_45_22, shr_45_22, shR_45_25, shr_45_25, shR_45_26, shr_45_26, shR_45_28, shr_45_28, shR_45_29, shr_45_29, shR_45_33, shr_45_33, shR_45_34, shr_45_34, shR_45_35, shr_45_35, shR_45_36, shr_45_36, shR_45_37, shr_45_37, shR_45_38, shr_45_38, shR_45_39, shr_45_39, shR_45_40, shr_45_40, shR_45_42, shr_45_42, hs, ne_eq, not_false_eq_true, not_true_eq_false, reduceCtorEq, Nat.reduceEqDiff, forall_eq, true_and, and_true, true_implies, forall_const, implies_true, List.mem_cons, List.not_mem_nil, or_false, false_or, or_self, if_true, if_false, reduceIte, Nat.reduceAdd, Nat.reduceMul, Nat.reduceLT, false_implies, Decidable.not_not, bI_eq0, bI_eq1, upd_at, updL_at, Nat.succ_ne_zero, Int32.reduceToNatClampNeg, eq_self, i01, i10]
    rw [nI_tn (by omega), p3]
    refine ⟨fun z => absurd z (nI_pos (by omega)), fun _ => ⟨nI_in2 (by omega) (by omega), sX12_in' 20 23 rfl rfl (fun _ _ => ?_) (fun z => absurd ?_ z)⟩⟩
    · refine ⟨fun z => absurd z (by decide), fun _ => ?_⟩
      rw [show nI (b + m) + -1 = nI (b + m) - 1 by lia]; exact ih
    · rw [li_20, li_23, nI_le' (by omega) (by omega), nI_le' (by omega) (by omega)]; omega
theorem isC_base {Q : Int32 → JS → Prop} {p : Nat} (hs : jSh M) (hb : b < 400) (hp : jI M 54 b = nI p) (p0 : p < 1000) (p1 : 24 ≤ p) (h1 : p ≤ 26 → Q 1 M) (h0 : ¬ p ≤ 26 → Q 0 M) : wX12_isCompared_5 45 (nI (b + 1) - 1) M Q := by
  refine ic_roll (fun K hK => ?_)
  unfold bX12_isCompared_5 wX12_isCompared_18
  rw [nI_s1 (by omega), Nat.add_sub_cancel]
  simp only [shA_45, shA_54, shZ_54, shR_45_2, shr_45_2, shR_45_3, shr_45_3, shR_45_4, shr_45_4, shR_45_5, shr_45_5, shR_45_7, shr_45_7, shR_45_16, shr_45_16, shR_45_18, shr_45_18, shR_45_19, shr_45_19, shR_45_21, shr_45_21, shR_45_22, shr_45_22, shR_45_25, shr_45_25, shR_45_26, shr_45_26, shR_45_28, shr_45_28, shR_45_29, shr_45_29, shR_45_33, shr_45_33, shR_45_34, shr_45_34, shR_45_35, shr_45_35, shR_45_36, shr_45_36, shR_45_37, shr_45_37, shR_45_38, shr_45_38, shR_45_39, shr_45_39, shR_45_40, shr_45_40, shR_45_42, shr_45_42, hs, ne_eq, not_false_eq_true, not_true_eq_false, reduceCtorEq, Nat.reduceEqDiff, forall_eq, true_and, and_true, true_implies, forall_const, implies_true, List.mem_cons, List.not_mem_nil, or_false, false_or, or_self, if_true, if_false, reduceIte, Nat.reduceAdd, Nat.reduceMul, Nat.reduceLT, false_implies, Decidable.not_not, bI_eq0, bI_eq1, upd_at, updL_at, Nat.succ_ne_zero, Int32.reduceToNatClampNeg, eq_self, i01, i10]
  rw [nI_tn (by omega), hp]
  refine ⟨fun z => absurd z (nI_pos (by omega)), fun _ => ⟨nI_in2 (by omega) (by omega), sX12_in' 20 23 rfl rfl (fun z1 z2 => ?_) (fun _ => ⟨fun _ => ⟨fun z => absurd z (nI_pos (by omega)), fun _ => ?_⟩, fun z => absurd rfl z⟩)⟩⟩
  · rw [li_23, nI_le' (by omega) (by omega)] at z2; omega
  · simp only [shA_45, shA_54, shZ_54, shR_45_2, shr_45_2, shR_45_3, shr_45_3, shR_45_4, shr_45_4, shR_45_5, shr_45_5, shR_45_7, shr_45_7, shR_45_16, shr_45_16, shR_45_18, shr_45_18, shR_45_19, shr_45_19, shR_45_21, shr_45_21, shR_45_22, shr_45_22, shR_45_25, shr_45_25, shR_45_26, shr_45_26, shR_45_28, shr_45_28, shR_45_29, shr_45_29, shR_45_33, shr_45_33, shR_45_34, shr_45_34, shR_45_35, shr_45_35, shR_45_36, shr_45_36, shR_45_37, shr_45_37, shR_45_38, shr_45_38, shR_45_39, shr_45_39, shR_45_40, shr_45_40, shR_45_42, shr_45_42, hs, ne_eq, not_false_eq_true, not_true_eq_false, reduceCtorEq, Nat.reduceEqDiff, forall_eq, true_and, and_true, true_implies, forall_const, implies_true, List.mem_cons, List.not_mem_nil, or_false, false_or, or_self, if_true, if_false, reduceIte, Nat.reduceAdd, Nat.reduceMul, Nat.reduceLT, false_implies, Decidable.not_not, bI_eq0, bI_eq1, upd_at, updL_at, Nat.succ_ne_zero, Int32.reduceToNatClampNeg, eq_self, i01, i10]
    rw [hp]
    refine ⟨nI_in2 (by omega) (by omega), sX12_in' 24 26 rfl rfl (fun z1 z2 => ?_) (fun z => ?_)⟩
    · rw [li_26, nI_le' (by omega) (by omega)] at z2
      exact ⟨fun y => absurd y (by decide), fun _ => h1 z2⟩
    · rw [li_24, li_26, nI_le' (by omega) (by omega), nI_le' (by omega) (by omega)] at z
      exact ⟨fun _ => h0 (by omega), fun y => absurd rfl y⟩
/-- compared already: above the comparison only sums wait -/
theorem sX12_isC1 {Q : Int32 → JS → Prop} {b1 p : Nat} (h : MT t e A B so bb wo M i l n b1 o) (hA : A i ≤ 400) (hp : jI M 54 b = nI p) (p1 : 24 ≤ p) (p2 : p ≤ 26) (hb : b + 1 ≤ b1) (hops : ∀ k, b + 1 ≤ k → k < b1 → ∃ p, 20 ≤ p ∧ p ≤ 23 ∧ jI M 54 k = nI p) (hq : Q 1 M) : wX12_isCompared 45 M Q := by
  obtain ⟨⟨hs, _⟩, _, ⟨_, _, _, g, _⟩, ⟨_, hbb, _⟩, _⟩ := h
  unfold wX12_isCompared
  rw [g]
  refine ⟨shA_45 hs, fun x hx => ?_⟩
  have := isC_go (n := b1 - (b + 1)) hs (b := b + 1) (fun k k1 k2 => hops k k1 (by omega)) (by omega) (isC_base hs (by omega) hp (by omega) p1 (fun _ => hq) (fun z => absurd p2 z)) (b1 - (b + 1)) (by omega)
  rw [show b + 1 + (b1 - (b + 1)) = b1 by omega] at this
  rw [hx]; exact this
/-- not compared yet -/
theorem sX12_isC0 {Q : Int32 → JS → Prop} {b1 : Nat} (h : MT t e A B so bb wo M i l n b1 o) (hA : A i ≤ 400) (hp : BP M b 4) (hb : b ≤ b1) (hops : ∀ k, b ≤ k → k < b1 → ∃ p, 20 ≤ p ∧ p ≤ 23 ∧ jI M 54 k = nI p) (hq : Q 0 M) : wX12_isCompared 45 M Q := by
  obtain ⟨⟨hs, _⟩, _, ⟨_, _, _, g, _⟩, ⟨_, hbb, _⟩, _⟩ := h
  unfold wX12_isCompared
  rw [g]
  refine ⟨shA_45 hs, fun x hx => ?_⟩
  have base : wX12_isCompared_5 45 (nI b - 1) M Q := by
    rcases hp with e0 | ⟨p, p0, p1, p2⟩
    · subst e0
      refine ic_roll (fun K hK => ?_)
      unfold bX12_isCompared_5 wX12_isCompared_18
      exact ⟨fun _ => ⟨fun _ => hq, fun z => absurd (by decide) z⟩, fun z => absurd (by decide) z⟩
    · by_cases e0 : b = 0
      · subst e0
        refine ic_roll (fun K hK => ?_)
        unfold bX12_isCompared_5 wX12_isCompared_18
        exact ⟨fun _ => ⟨fun _ => hq, fun z => absurd (by decide) z⟩, fun z => absurd (by decide) z⟩
      · obtain ⟨c, rfl⟩ : ∃ c, b = c + 1 := ⟨b - 1, by omega⟩
        rw [Nat.add_sub_cancel] at p1
        have hp27 : 27 ≤ p := by
          unfold bd at p2
          by_cases q : 27 ≤ p
          · exact q
          · rw [if_neg (by omega), if_neg (by omega), if_neg (by omega), if_neg (by omega)] at p2
            split at p2
            · omega
            · split at p2 <;> omega
        exact isC_base hs (by omega) p1 p0 (by omega) (fun z => by omega) (fun _ => hq)
  have := isC_go (n := b1 - b) hs (b := b) (fun k k1 k2 => hops k k1 (by omega)) (by omega) base (b1 - b) (by omega)
  rw [show b + (b1 - b) = b1 by omega] at this
  rw [hx]; exact this
theorem pa_roll {Q : Int32 → JS → Prop} {x y : Int32} (h : ∀ K : Nat → Int32 → Int32 → JS → Prop, (∀ x' y' M', wX12_partAt_4 45 x' y' M' Q → K 45 x' y' M') → bX12_partAt_4 K 45 x y M Q) : wX12_partAt_4 45 x y M Q := by
  unfold wX12_partAt_4
  exact jLoop.roll (h _ (fun _ _ _ h => h))
theorem cw_mem (h : CW M) : ∀ k, k < 6 → (jJ M 56 k, k + 1) ∈ wdT := by
  obtain ⟨⟨h0, h1, h2, h3, h4, h5⟩, _⟩ := h
  intro k hk
  rcases (by omega : k = 0 ∨ k = 1 ∨ k = 2 ∨ k = 3 ∨ k = 4 ∨ k = 5) with e | e | e | e | e | e <;> subst e
  · rw [h0]; decide
  · rw [h1]; decide
  · rw [h2]; decide
  · rw [h3]; decide
  · rw [h4]; decide
  · rw [h5]; decide
theorem partAt_go {Q : Int32 → JS → Prop} (hx : Cx t e A B sg vl so bb wo) (h : MT t e A B so bb wo M i l n b o) (hq : Q (if 1 ≤ sg i ∧ sg i ≤ 6 then nI (sg i) else -1) M) : ∀ m k, k + m = 6 → wX12_partAt_4 45 (if 1 ≤ sg i ∧ sg i ≤ k then nI (sg i) else -1) (nI k) M Q
  | 0, k, e0 => by
    have e1 : k = 6 := by omega
    subst e1
    refine pa_roll (fun K _ => ?_)
    unfold bX12_partAt_4
    exact ⟨fun _ => hq, fun z => absurd (by decide) z⟩
  | m + 1, k, e0 => by
    refine pa_roll (fun K hK => ?_)
    have ih := hK _ _ _ (partAt_go hx h hq m (k + 1) (by omega))
    have hs := h.1.1
    unfold bX12_partAt_4 wX12_partAt_19
    simp only [shA_45, shA_56, shZ_56, shR_45_2, shr_45_2, shR_45_3, shr_45_3, shR_45_4, shr_45_4, shR_45_5, shr_45_5, shR_45_7, shr_45_7, shR_45_16, shr_45_16, shR_45_18, shr_45_18, shR_45_19, shr_45_19, shR_45_21, shr_45_21, shR_45_22, shr_45_22, shR_45_25, shr_45_25, shR_45_26, shr_45_26, shR_45_28, shr_45_28, shR_45_29, shr_45_29, shR_45_33, shr_45_33, shR_45_34, shr_45_34, shR_45_35, shr_45_35, shR_45_36, shr_45_36, shR_45_37, shr_45_37, shR_45_38, shr_45_38, shR_45_39, shr_45_39, shR_45_40, shr_45_40, shR_45_42, shr_45_42, hs, ne_eq, not_false_eq_true, not_true_eq_false, reduceCtorEq, Nat.reduceEqDiff, forall_eq, true_and, and_true, true_implies, forall_const, implies_true, List.mem_cons, List.not_mem_nil, or_false, false_or, or_self, if_true, if_false, reduceIte, Nat.reduceAdd, Nat.reduceMul, Nat.reduceLT, false_implies, Decidable.not_not, bI_eq0, bI_eq1, upd_at, updL_at, Nat.succ_ne_zero, Int32.reduceToNatClampNeg, eq_self, i01, i10]
    rw [li_6, nI_le' (by omega) (by omega), nI_tn (by omega), nI_1]
    refine ⟨fun z => by omega, fun _ => ⟨nI_in2 (by omega) (by omega), sX12_isWord hx h (cw_mem h.1.2 k (by omega)) (fun z => ?_) (fun z => ?_)⟩⟩
    · refine ⟨fun y => absurd y (by decide), fun _ => ?_⟩
      rw [if_pos (by omega), z] at ih; exact ih
    · refine ⟨fun _ => ?_, fun y => absurd rfl y⟩
      by_cases q : 1 ≤ sg i ∧ sg i ≤ k
      · rw [if_pos (by omega)] at ih; rw [if_pos q]; exact ih
      · rw [if_neg (by omega)] at ih; rw [if_neg q]; exact ih
theorem sX12_partAt {Q : Int32 → JS → Prop} (hx : Cx t e A B sg vl so bb wo) (h : MT t e A B so bb wo M i l n b o) (hq : Q (if 1 ≤ sg i ∧ sg i ≤ 6 then nI (sg i) else -1) M) : wX12_partAt 45 M Q := by
  unfold wX12_partAt
  have := partAt_go hx h hq 6 0 (by omega)
  rw [if_neg (by omega)] at this
  exact this
theorem MT.nextF {Q : JS → Prop} {n0 b0 : Nat} (hx : Cx t e A B sg vl so bb wo) (h : MT t e A B so bb wo M0 i l n0 b0 o) (hf : jFr [45, 52, 53, 54, 55] M0 M) (hk : jFk 45 [17, 23] M0 M) (g17 : jI M 45 17 = nI n) (g23 : jI M 45 23 = nI b) (hp : PA M b) (hi : sg i ≠ 26) (hb : n + b ≤ A (i + 1)) (hq : ∀ M', jFr [45] M M' → jFk 45 [9, 10, 11, 12] M M' → MT t e A B so bb wo M' (i + 1) l n b o → Q M') : wX12_next 45 M Q := by
  obtain ⟨⟨hs, hc⟩, ⟨t1, t2, t3, t4, t5, t6⟩, ⟨g1, g2, g3, g4, g5⟩, ⟨h1, h2, h3, h4⟩, _⟩ := h
  have hlt := hx.1.lt h1 hi
  have hA := (hx.1.2.1 i hlt).1
  have hs' := hf.sh.mpr hs
  have hc' := hc.fr hf (by decide)
  refine hx.2.2 M i Q hs' ⟨?_, ?_, ?_, ?_, ?_, ?_⟩ hlt (fun M1 f k T1 => hq M1 f k ⟨⟨f.sh.mpr hs', hc'.fr f (by decide)⟩, T1, ⟨?_, ?_, ?_, ?_, ?_⟩, ⟨by omega, by omega, h3, h4⟩, ?_⟩)
  · rw [hk.I 8 (by decide)]; exact t1
  · rw [hk.I 9 (by decide)]; exact t2
  · rw [hk.I 10 (by decide)]; exact t3
  · rw [hk.I 11 (by decide)]; exact t4
  · rw [hk.J 12 (by decide)]; exact t5
  · exact ⟨by rw [hf.I 50 (by decide)]; exact t6.1, by rw [hk.I 13 (by decide)]; exact t6.2⟩
  · rw [k.I 14 (by decide), hk.I 14 (by decide)]; exact g1
  · rw [k.I 17 (by decide)]; exact g17
  · rw [k.I 20 (by decide), hk.I 20 (by decide)]; exact g3
  · rw [k.I 23 (by decide)]; exact g23
  · rw [k.I 24 (by decide), hk.I 24 (by decide)]; exact g5
  · intro j hj; rw [f.I 55 (by decide), f.I 54 (by decide)]; exact hp j hj
/-- a step of the model that keeps its token -/
theorem MT.st {n0 b0 o0 l0 : Nat} (h : MT t e A B so bb wo M0 i l0 n0 b0 o0) (hf : jFr [45, 52, 53, 54, 55] M0 M) (hk : jFk 45 [17, 20, 23, 24] M0 M) (g17 : jI M 45 17 = nI n) (g20 : jI M 45 20 = nI l) (g23 : jI M 45 23 = nI b) (g24 : jI M 45 24 = nI o) (hp : PA M b) (hb : n + b ≤ A i) (hl : l ≤ 50) (ho : o ≤ 8) : MT t e A B so bb wo M i l n b o := by
  obtain ⟨⟨hs, hc⟩, ⟨t1, t2, t3, t4, t5, t6⟩, ⟨g1, g2, g3, g4, g5⟩, ⟨h1, h2, h3, h4⟩, _⟩ := h
  refine ⟨⟨hf.sh.mpr hs, hc.fr hf (by decide)⟩, ⟨?_, ?_, ?_, ?_, ?_, ?_⟩, ⟨?_, g17, g20, g23, g24⟩, ⟨h1, hb, hl, ho⟩, hp⟩
  · rw [hk.I 8 (by decide)]; exact t1
  · rw [hk.I 9 (by decide)]; exact t2
  · rw [hk.I 10 (by decide)]; exact t3
  · rw [hk.I 11 (by decide)]; exact t4
  · rw [hk.J 12 (by decide)]; exact t5
  · exact ⟨by rw [hf.I 50 (by decide)]; exact t6.1, by rw [hk.I 13 (by decide)]; exact t6.2⟩
  · rw [hk.I 14 (by decide)]; exact g1
theorem MT.A4 (hx : Cx t e A B sg vl so bb wo) (h : MT t e A B so bb wo M i l n b o) : A i ≤ 400 := by
  have := (hx.1.2.2.1 i h.2.2.2.1.1).2
  have := hx.1.1.2.1
  omega
theorem PA.push {p m : Nat} (h : PA M b) (hf : ∀ k, k < b → jI M' 54 k = jI M 54 k ∧ jI M' 55 k = jI M 55 k) (h54 : jI M' 54 b = nI p) (h55 : jI M' 55 b = nI m) (hp : p < 1000) (hm : m < 400) : PA M' (b + 1) := by
  intro k hk
  rcases Nat.lt_or_ge k b with q | q
  · rw [(hf k q).1, (hf k q).2]; exact h k q
  · rw [show k = b by omega]; exact ⟨⟨m, hm, h55⟩, p, hp, h54⟩
theorem MT.pushQ {Q : JS → Prop} {p m : Nat} (hx : Cx t e A B sg vl so bb wo) (h : MT t e A B so bb wo M i l n b o) (hb : n + (b + 1) ≤ A i) (hp : p < 1000) (hm : m < 400) (hq : ∀ M', MF M M' n b → MT t e A B so bb wo M' i l n (b + 1) o → jI M' 54 b = nI p → jI M' 52 = jI M 52 → jI M' 53 = jI M 53 → Q M') : wX12_push 45 (nI p) (nI m) M Q := by
  have hA := h.A4 hx
  obtain ⟨⟨hs, hc⟩, hT, ⟨g1, g2, g3, g4, g5⟩, ⟨h1, h2, h3, h4⟩, hpa⟩ := id h
  refine MT.push hs g4 (by omega) (hq _ ⟨(((jFr.refl _ _).uI (by decide)).uI (by decide)).uI (by decide), (((jFk.refl _ _ _).oI (by decide)).oI (by decide)).sI (by decide), fun k hk => by simp only [jN_uI, jN_uJ, jN_uR, jK_uI, jK_uJ, jK_uR, jZ_uI, jZ_uJ, jZ_uR, jR_uI, jR_uJ, jr_uI, jr_uJ, jI_uJ, jI_uR, jJ_uI, jJ_uR, jI_uI_eq, jI_uI_ne, jJ_uJ_eq, jJ_uJ_ne, jSh_uI, jSh_uJ, jA_uI, jA_uJ, jA_uR, jI_uIf_eq, jI_uIf_ne, jJ_uIf, jR_uIf, jr_uIf, jZ_uIf, jSh_uIf, jA_uIf, ne_eq, not_false_eq_true, not_true_eq_false, reduceCtorEq, Nat.reduceEqDiff, forall_eq, true_and, and_true, true_implies, forall_const, implies_true, List.mem_cons, List.not_mem_nil, or_false, false_or, or_self, if_true, if_false, reduceIte, Nat.reduceAdd, Nat.reduceMul, Nat.reduceLT, false_implies, Decidable.not_not, bI_eq0, bI_eq1, upd_at, updL_at, Nat.succ_ne_zero, Int32.reduceToNatClampNeg, eq_self, i01, i10], fun k hk => ?_⟩ (h.st ((((jFr.refl _ _).uI (by decide)).uI (by decide)).uI (by decide)) ((((jFk.refl _ _ _).oI (by decide)).oI (by decide)).sI (by decide)) ?_ ?_ ?_ ?_ ?_ hb h3 h4) ?_ ?_ ?_)
  · simp only [jN_uI, jN_uJ, jN_uR, jK_uI, jK_uJ, jK_uR, jZ_uI, jZ_uJ, jZ_uR, jR_uI, jR_uJ, jr_uI, jr_uJ, jI_uJ, jI_uR, jJ_uI, jJ_uR, jI_uI_eq, jI_uI_ne, jJ_uJ_eq, jJ_uJ_ne, jSh_uI, jSh_uJ, jA_uI, jA_uJ, jA_uR, jI_uIf_eq, jI_uIf_ne, jJ_uIf, jR_uIf, jr_uIf, jZ_uIf, jSh_uIf, jA_uIf, ne_eq, not_false_eq_true, not_true_eq_false, reduceCtorEq, Nat.reduceEqDiff, forall_eq, true_and, and_true, true_implies, forall_const, implies_true, List.mem_cons, List.not_mem_nil, or_false, false_or, or_self, if_true, if_false, reduceIte, Nat.reduceAdd, Nat.reduceMul, Nat.reduceLT, false_implies, Decidable.not_not, bI_eq0, bI_eq1, upd_at, updL_at, Nat.succ_ne_zero, Int32.reduceToNatClampNeg, eq_self, i01, i10]; rw [if_neg (by omega), if_neg (by omega)]; exact ⟨rfl, rfl⟩
  · simp only [jN_uI, jN_uJ, jN_uR, jK_uI, jK_uJ, jK_uR, jZ_uI, jZ_uJ, jZ_uR, jR_uI, jR_uJ, jr_uI, jr_uJ, jI_uJ, jI_uR, jJ_uI, jJ_uR, jI_uI_eq, jI_uI_ne, jJ_uJ_eq, jJ_uJ_ne, jSh_uI, jSh_uJ, jA_uI, jA_uJ, jA_uR, jI_uIf_eq, jI_uIf_ne, jJ_uIf, jR_uIf, jr_uIf, jZ_uIf, jSh_uIf, jA_uIf, ne_eq, not_false_eq_true, not_true_eq_false, reduceCtorEq, Nat.reduceEqDiff, forall_eq, true_and, and_true, true_implies, forall_const, implies_true, List.mem_cons, List.not_mem_nil, or_false, false_or, or_self, if_true, if_false, reduceIte, Nat.reduceAdd, Nat.reduceMul, Nat.reduceLT, false_implies, Decidable.not_not, bI_eq0, bI_eq1, upd_at, updL_at, Nat.succ_ne_zero, Int32.reduceToNatClampNeg, eq_self, i01, i10]; exact g2
  · simp only [jN_uI, jN_uJ, jN_uR, jK_uI, jK_uJ, jK_uR, jZ_uI, jZ_uJ, jZ_uR, jR_uI, jR_uJ, jr_uI, jr_uJ, jI_uJ, jI_uR, jJ_uI, jJ_uR, jI_uI_eq, jI_uI_ne, jJ_uJ_eq, jJ_uJ_ne, jSh_uI, jSh_uJ, jA_uI, jA_uJ, jA_uR, jI_uIf_eq, jI_uIf_ne, jJ_uIf, jR_uIf, jr_uIf, jZ_uIf, jSh_uIf, jA_uIf, ne_eq, not_false_eq_true, not_true_eq_false, reduceCtorEq, Nat.reduceEqDiff, forall_eq, true_and, and_true, true_implies, forall_const, implies_true, List.mem_cons, List.not_mem_nil, or_false, false_or, or_self, if_true, if_false, reduceIte, Nat.reduceAdd, Nat.reduceMul, Nat.reduceLT, false_implies, Decidable.not_not, bI_eq0, bI_eq1, upd_at, updL_at, Nat.succ_ne_zero, Int32.reduceToNatClampNeg, eq_self, i01, i10]; exact g3
  · simp only [jN_uI, jN_uJ, jN_uR, jK_uI, jK_uJ, jK_uR, jZ_uI, jZ_uJ, jZ_uR, jR_uI, jR_uJ, jr_uI, jr_uJ, jI_uJ, jI_uR, jJ_uI, jJ_uR, jI_uI_eq, jI_uI_ne, jJ_uJ_eq, jJ_uJ_ne, jSh_uI, jSh_uJ, jA_uI, jA_uJ, jA_uR, jI_uIf_eq, jI_uIf_ne, jJ_uIf, jR_uIf, jr_uIf, jZ_uIf, jSh_uIf, jA_uIf, ne_eq, not_false_eq_true, not_true_eq_false, reduceCtorEq, Nat.reduceEqDiff, forall_eq, true_and, and_true, true_implies, forall_const, implies_true, List.mem_cons, List.not_mem_nil, or_false, false_or, or_self, if_true, if_false, reduceIte, Nat.reduceAdd, Nat.reduceMul, Nat.reduceLT, false_implies, Decidable.not_not, bI_eq0, bI_eq1, upd_at, updL_at, Nat.succ_ne_zero, Int32.reduceToNatClampNeg, eq_self, i01, i10]
  · simp only [jN_uI, jN_uJ, jN_uR, jK_uI, jK_uJ, jK_uR, jZ_uI, jZ_uJ, jZ_uR, jR_uI, jR_uJ, jr_uI, jr_uJ, jI_uJ, jI_uR, jJ_uI, jJ_uR, jI_uI_eq, jI_uI_ne, jJ_uJ_eq, jJ_uJ_ne, jSh_uI, jSh_uJ, jA_uI, jA_uJ, jA_uR, jI_uIf_eq, jI_uIf_ne, jJ_uIf, jR_uIf, jr_uIf, jZ_uIf, jSh_uIf, jA_uIf, ne_eq, not_false_eq_true, not_true_eq_false, reduceCtorEq, Nat.reduceEqDiff, forall_eq, true_and, and_true, true_implies, forall_const, implies_true, List.mem_cons, List.not_mem_nil, or_false, false_or, or_self, if_true, if_false, reduceIte, Nat.reduceAdd, Nat.reduceMul, Nat.reduceLT, false_implies, Decidable.not_not, bI_eq0, bI_eq1, upd_at, updL_at, Nat.succ_ne_zero, Int32.reduceToNatClampNeg, eq_self, i01, i10]; exact g5
  · refine hpa.push (fun k hk => ?_) (p := p) (m := m) ?_ ?_ hp hm
    · simp only [jN_uI, jN_uJ, jN_uR, jK_uI, jK_uJ, jK_uR, jZ_uI, jZ_uJ, jZ_uR, jR_uI, jR_uJ, jr_uI, jr_uJ, jI_uJ, jI_uR, jJ_uI, jJ_uR, jI_uI_eq, jI_uI_ne, jJ_uJ_eq, jJ_uJ_ne, jSh_uI, jSh_uJ, jA_uI, jA_uJ, jA_uR, jI_uIf_eq, jI_uIf_ne, jJ_uIf, jR_uIf, jr_uIf, jZ_uIf, jSh_uIf, jA_uIf, ne_eq, not_false_eq_true, not_true_eq_false, reduceCtorEq, Nat.reduceEqDiff, forall_eq, true_and, and_true, true_implies, forall_const, implies_true, List.mem_cons, List.not_mem_nil, or_false, false_or, or_self, if_true, if_false, reduceIte, Nat.reduceAdd, Nat.reduceMul, Nat.reduceLT, false_implies, Decidable.not_not, bI_eq0, bI_eq1, upd_at, updL_at, Nat.succ_ne_zero, Int32.reduceToNatClampNeg, eq_self, i01, i10]; rw [if_neg (by omega), if_neg (by omega)]; exact ⟨rfl, rfl⟩
    · simp only [jN_uI, jN_uJ, jN_uR, jK_uI, jK_uJ, jK_uR, jZ_uI, jZ_uJ, jZ_uR, jR_uI, jR_uJ, jr_uI, jr_uJ, jI_uJ, jI_uR, jJ_uI, jJ_uR, jI_uI_eq, jI_uI_ne, jJ_uJ_eq, jJ_uJ_ne, jSh_uI, jSh_uJ, jA_uI, jA_uJ, jA_uR, jI_uIf_eq, jI_uIf_ne, jJ_uIf, jR_uIf, jr_uIf, jZ_uIf, jSh_uIf, jA_uIf, ne_eq, not_false_eq_true, not_true_eq_false, reduceCtorEq, Nat.reduceEqDiff, forall_eq, true_and, and_true, true_implies, forall_const, implies_true, List.mem_cons, List.not_mem_nil, or_false, false_or, or_self, if_true, if_false, reduceIte, Nat.reduceAdd, Nat.reduceMul, Nat.reduceLT, false_implies, Decidable.not_not, bI_eq0, bI_eq1, upd_at, updL_at, Nat.succ_ne_zero, Int32.reduceToNatClampNeg, eq_self, i01, i10]
    · simp only [jN_uI, jN_uJ, jN_uR, jK_uI, jK_uJ, jK_uR, jZ_uI, jZ_uJ, jZ_uR, jR_uI, jR_uJ, jr_uI, jr_uJ, jI_uJ, jI_uR, jJ_uI, jJ_uR, jI_uI_eq, jI_uI_ne, jJ_uJ_eq, jJ_uJ_ne, jSh_uI, jSh_uJ, jA_uI, jA_uJ, jA_uR, jI_uIf_eq, jI_uIf_ne, jJ_uIf, jR_uIf, jr_uIf, jZ_uIf, jSh_uIf, jA_uIf, ne_eq, not_false_eq_true, not_true_eq_false, reduceCtorEq, Nat.reduceEqDiff, forall_eq, true_and, and_true, true_implies, forall_const, implies_true, List.mem_cons, List.not_mem_nil, or_false, false_or, or_self, if_true, if_false, reduceIte, Nat.reduceAdd, Nat.reduceMul, Nat.reduceLT, false_implies, Decidable.not_not, bI_eq0, bI_eq1, upd_at, updL_at, Nat.succ_ne_zero, Int32.reduceToNatClampNeg, eq_self, i01, i10]
  · simp only [jN_uI, jN_uJ, jN_uR, jK_uI, jK_uJ, jK_uR, jZ_uI, jZ_uJ, jZ_uR, jR_uI, jR_uJ, jr_uI, jr_uJ, jI_uJ, jI_uR, jJ_uI, jJ_uR, jI_uI_eq, jI_uI_ne, jJ_uJ_eq, jJ_uJ_ne, jSh_uI, jSh_uJ, jA_uI, jA_uJ, jA_uR, jI_uIf_eq, jI_uIf_ne, jJ_uIf, jR_uIf, jr_uIf, jZ_uIf, jSh_uIf, jA_uIf, ne_eq, not_false_eq_true, not_true_eq_false, reduceCtorEq, Nat.reduceEqDiff, forall_eq, true_and, and_true, true_implies, forall_const, implies_true, List.mem_cons, List.not_mem_nil, or_false, false_or, or_self, if_true, if_false, reduceIte, Nat.reduceAdd, Nat.reduceMul, Nat.reduceLT, false_implies, Decidable.not_not, bI_eq0, bI_eq1, upd_at, updL_at, Nat.succ_ne_zero, Int32.reduceToNatClampNeg, eq_self, i01, i10]
  · funext k; simp only [jN_uI, jN_uJ, jN_uR, jK_uI, jK_uJ, jK_uR, jZ_uI, jZ_uJ, jZ_uR, jR_uI, jR_uJ, jr_uI, jr_uJ, jI_uJ, jI_uR, jJ_uI, jJ_uR, jI_uI_eq, jI_uI_ne, jJ_uJ_eq, jJ_uJ_ne, jSh_uI, jSh_uJ, jA_uI, jA_uJ, jA_uR, jI_uIf_eq, jI_uIf_ne, jJ_uIf, jR_uIf, jr_uIf, jZ_uIf, jSh_uIf, jA_uIf, ne_eq, not_false_eq_true, not_true_eq_false, reduceCtorEq, Nat.reduceEqDiff, forall_eq, true_and, and_true, true_implies, forall_const, implies_true, List.mem_cons, List.not_mem_nil, or_false, false_or, or_self, if_true, if_false, reduceIte, Nat.reduceAdd, Nat.reduceMul, Nat.reduceLT, false_implies, Decidable.not_not, bI_eq0, bI_eq1, upd_at, updL_at, Nat.succ_ne_zero, Int32.reduceToNatClampNeg, eq_self, i01, i10]
  · funext k; simp only [jN_uI, jN_uJ, jN_uR, jK_uI, jK_uJ, jK_uR, jZ_uI, jZ_uJ, jZ_uR, jR_uI, jR_uJ, jr_uI, jr_uJ, jI_uJ, jI_uR, jJ_uI, jJ_uR, jI_uI_eq, jI_uI_ne, jJ_uJ_eq, jJ_uJ_ne, jSh_uI, jSh_uJ, jA_uI, jA_uJ, jA_uR, jI_uIf_eq, jI_uIf_ne, jJ_uIf, jR_uIf, jr_uIf, jZ_uIf, jSh_uIf, jA_uIf, ne_eq, not_false_eq_true, not_true_eq_false, reduceCtorEq, Nat.reduceEqDiff, forall_eq, true_and, and_true, true_implies, forall_const, implies_true, List.mem_cons, List.not_mem_nil, or_false, false_or, or_self, if_true, if_false, reduceIte, Nat.reduceAdd, Nat.reduceMul, Nat.reduceLT, false_implies, Decidable.not_not, bI_eq0, bI_eq1, upd_at, updL_at, Nat.succ_ne_zero, Int32.reduceToNatClampNeg, eq_self, i01, i10]
theorem MT.emitQ {Q : JS → Prop} {x y : Int32} (hx : Cx t e A B sg vl so bb wo) (h : MT t e A B so bb wo M i l n b o) (hb : n + 1 + b ≤ A i) (hq : ∀ M', MF M M' n b → MT t e A B so bb wo M' i l (n + 1) b o → jI M' 52 n = x → jI M' 53 n = y → Q M') : wX12_emit 45 x y M Q := by
  have hA := h.A4 hx
  obtain ⟨⟨hs, hc⟩, hT, ⟨g1, g2, g3, g4, g5⟩, ⟨h1, h2, h3, h4⟩, hpa⟩ := id h
  refine MT.emit hs g2 (by omega) (hq _ ⟨(((jFr.refl _ _).uI (by decide)).uI (by decide)).uI (by decide), (((jFk.refl _ _ _).oI (by decide)).oI (by decide)).sI (by decide), fun k hk => ?_, fun k hk => by simp only [jN_uI, jN_uJ, jN_uR, jK_uI, jK_uJ, jK_uR, jZ_uI, jZ_uJ, jZ_uR, jR_uI, jR_uJ, jr_uI, jr_uJ, jI_uJ, jI_uR, jJ_uI, jJ_uR, jI_uI_eq, jI_uI_ne, jJ_uJ_eq, jJ_uJ_ne, jSh_uI, jSh_uJ, jA_uI, jA_uJ, jA_uR, jI_uIf_eq, jI_uIf_ne, jJ_uIf, jR_uIf, jr_uIf, jZ_uIf, jSh_uIf, jA_uIf, ne_eq, not_false_eq_true, not_true_eq_false, reduceCtorEq, Nat.reduceEqDiff, forall_eq, true_and, and_true, true_implies, forall_const, implies_true, List.mem_cons, List.not_mem_nil, or_false, false_or, or_self, if_true, if_false, reduceIte, Nat.reduceAdd, Nat.reduceMul, Nat.reduceLT, false_implies, Decidable.not_not, bI_eq0, bI_eq1, upd_at, updL_at, Nat.succ_ne_zero, Int32.reduceToNatClampNeg, eq_self, i01, i10]⟩ (h.st ((((jFr.refl _ _).uI (by decide)).uI (by decide)).uI (by decide)) ((((jFk.refl _ _ _).oI (by decide)).oI (by decide)).sI (by decide)) ?_ ?_ ?_ ?_ ?_ hb h3 h4) ?_ ?_)
  · simp only [jN_uI, jN_uJ, jN_uR, jK_uI, jK_uJ, jK_uR, jZ_uI, jZ_uJ, jZ_uR, jR_uI, jR_uJ, jr_uI, jr_uJ, jI_uJ, jI_uR, jJ_uI, jJ_uR, jI_uI_eq, jI_uI_ne, jJ_uJ_eq, jJ_uJ_ne, jSh_uI, jSh_uJ, jA_uI, jA_uJ, jA_uR, jI_uIf_eq, jI_uIf_ne, jJ_uIf, jR_uIf, jr_uIf, jZ_uIf, jSh_uIf, jA_uIf, ne_eq, not_false_eq_true, not_true_eq_false, reduceCtorEq, Nat.reduceEqDiff, forall_eq, true_and, and_true, true_implies, forall_const, implies_true, List.mem_cons, List.not_mem_nil, or_false, false_or, or_self, if_true, if_false, reduceIte, Nat.reduceAdd, Nat.reduceMul, Nat.reduceLT, false_implies, Decidable.not_not, bI_eq0, bI_eq1, upd_at, updL_at, Nat.succ_ne_zero, Int32.reduceToNatClampNeg, eq_self, i01, i10]; rw [if_neg (by omega), if_neg (by omega)]; exact ⟨rfl, rfl⟩
  · simp only [jN_uI, jN_uJ, jN_uR, jK_uI, jK_uJ, jK_uR, jZ_uI, jZ_uJ, jZ_uR, jR_uI, jR_uJ, jr_uI, jr_uJ, jI_uJ, jI_uR, jJ_uI, jJ_uR, jI_uI_eq, jI_uI_ne, jJ_uJ_eq, jJ_uJ_ne, jSh_uI, jSh_uJ, jA_uI, jA_uJ, jA_uR, jI_uIf_eq, jI_uIf_ne, jJ_uIf, jR_uIf, jr_uIf, jZ_uIf, jSh_uIf, jA_uIf, ne_eq, not_false_eq_true, not_true_eq_false, reduceCtorEq, Nat.reduceEqDiff, forall_eq, true_and, and_true, true_implies, forall_const, implies_true, List.mem_cons, List.not_mem_nil, or_false, false_or, or_self, if_true, if_false, reduceIte, Nat.reduceAdd, Nat.reduceMul, Nat.reduceLT, false_implies, Decidable.not_not, bI_eq0, bI_eq1, upd_at, updL_at, Nat.succ_ne_zero, Int32.reduceToNatClampNeg, eq_self, i01, i10]
  · simp only [jN_uI, jN_uJ, jN_uR, jK_uI, jK_uJ, jK_uR, jZ_uI, jZ_uJ, jZ_uR, jR_uI, jR_uJ, jr_uI, jr_uJ, jI_uJ, jI_uR, jJ_uI, jJ_uR, jI_uI_eq, jI_uI_ne, jJ_uJ_eq, jJ_uJ_ne, jSh_uI, jSh_uJ, jA_uI, jA_uJ, jA_uR, jI_uIf_eq, jI_uIf_ne, jJ_uIf, jR_uIf, jr_uIf, jZ_uIf, jSh_uIf, jA_uIf, ne_eq, not_false_eq_true, not_true_eq_false, reduceCtorEq, Nat.reduceEqDiff, forall_eq, true_and, and_true, true_implies, forall_const, implies_true, List.mem_cons, List.not_mem_nil, or_false, false_or, or_self, if_true, if_false, reduceIte, Nat.reduceAdd, Nat.reduceMul, Nat.reduceLT, false_implies, Decidable.not_not, bI_eq0, bI_eq1, upd_at, updL_at, Nat.succ_ne_zero, Int32.reduceToNatClampNeg, eq_self, i01, i10]; exact g3
  · simp only [jN_uI, jN_uJ, jN_uR, jK_uI, jK_uJ, jK_uR, jZ_uI, jZ_uJ, jZ_uR, jR_uI, jR_uJ, jr_uI, jr_uJ, jI_uJ, jI_uR, jJ_uI, jJ_uR, jI_uI_eq, jI_uI_ne, jJ_uJ_eq, jJ_uJ_ne, jSh_uI, jSh_uJ, jA_uI, jA_uJ, jA_uR, jI_uIf_eq, jI_uIf_ne, jJ_uIf, jR_uIf, jr_uIf, jZ_uIf, jSh_uIf, jA_uIf, ne_eq, not_false_eq_true, not_true_eq_false, reduceCtorEq, Nat.reduceEqDiff, forall_eq, true_and, and_true, true_implies, forall_const, implies_true, List.mem_cons, List.not_mem_nil, or_false, false_or, or_self, if_true, if_false, reduceIte, Nat.reduceAdd, Nat.reduceMul, Nat.reduceLT, false_implies, Decidable.not_not, bI_eq0, bI_eq1, upd_at, updL_at, Nat.succ_ne_zero, Int32.reduceToNatClampNeg, eq_self, i01, i10]; exact g4
  · simp only [jN_uI, jN_uJ, jN_uR, jK_uI, jK_uJ, jK_uR, jZ_uI, jZ_uJ, jZ_uR, jR_uI, jR_uJ, jr_uI, jr_uJ, jI_uJ, jI_uR, jJ_uI, jJ_uR, jI_uI_eq, jI_uI_ne, jJ_uJ_eq, jJ_uJ_ne, jSh_uI, jSh_uJ, jA_uI, jA_uJ, jA_uR, jI_uIf_eq, jI_uIf_ne, jJ_uIf, jR_uIf, jr_uIf, jZ_uIf, jSh_uIf, jA_uIf, ne_eq, not_false_eq_true, not_true_eq_false, reduceCtorEq, Nat.reduceEqDiff, forall_eq, true_and, and_true, true_implies, forall_const, implies_true, List.mem_cons, List.not_mem_nil, or_false, false_or, or_self, if_true, if_false, reduceIte, Nat.reduceAdd, Nat.reduceMul, Nat.reduceLT, false_implies, Decidable.not_not, bI_eq0, bI_eq1, upd_at, updL_at, Nat.succ_ne_zero, Int32.reduceToNatClampNeg, eq_self, i01, i10]; exact g5
  · intro k hk; simp only [jN_uI, jN_uJ, jN_uR, jK_uI, jK_uJ, jK_uR, jZ_uI, jZ_uJ, jZ_uR, jR_uI, jR_uJ, jr_uI, jr_uJ, jI_uJ, jI_uR, jJ_uI, jJ_uR, jI_uI_eq, jI_uI_ne, jJ_uJ_eq, jJ_uJ_ne, jSh_uI, jSh_uJ, jA_uI, jA_uJ, jA_uR, jI_uIf_eq, jI_uIf_ne, jJ_uIf, jR_uIf, jr_uIf, jZ_uIf, jSh_uIf, jA_uIf, ne_eq, not_false_eq_true, not_true_eq_false, reduceCtorEq, Nat.reduceEqDiff, forall_eq, true_and, and_true, true_implies, forall_const, implies_true, List.mem_cons, List.not_mem_nil, or_false, false_or, or_self, if_true, if_false, reduceIte, Nat.reduceAdd, Nat.reduceMul, Nat.reduceLT, false_implies, Decidable.not_not, bI_eq0, bI_eq1, upd_at, updL_at, Nat.succ_ne_zero, Int32.reduceToNatClampNeg, eq_self, i01, i10]; exact hpa k hk
  · simp only [jN_uI, jN_uJ, jN_uR, jK_uI, jK_uJ, jK_uR, jZ_uI, jZ_uJ, jZ_uR, jR_uI, jR_uJ, jr_uI, jr_uJ, jI_uJ, jI_uR, jJ_uI, jJ_uR, jI_uI_eq, jI_uI_ne, jJ_uJ_eq, jJ_uJ_ne, jSh_uI, jSh_uJ, jA_uI, jA_uJ, jA_uR, jI_uIf_eq, jI_uIf_ne, jJ_uIf, jR_uIf, jr_uIf, jZ_uIf, jSh_uIf, jA_uIf, ne_eq, not_false_eq_true, not_true_eq_false, reduceCtorEq, Nat.reduceEqDiff, forall_eq, true_and, and_true, true_implies, forall_const, implies_true, List.mem_cons, List.not_mem_nil, or_false, false_or, or_self, if_true, if_false, reduceIte, Nat.reduceAdd, Nat.reduceMul, Nat.reduceLT, false_implies, Decidable.not_not, bI_eq0, bI_eq1, upd_at, updL_at, Nat.succ_ne_zero, Int32.reduceToNatClampNeg, eq_self, i01, i10]
  · simp only [jN_uI, jN_uJ, jN_uR, jK_uI, jK_uJ, jK_uR, jZ_uI, jZ_uJ, jZ_uR, jR_uI, jR_uJ, jr_uI, jr_uJ, jI_uJ, jI_uR, jJ_uI, jJ_uR, jI_uI_eq, jI_uI_ne, jJ_uJ_eq, jJ_uJ_ne, jSh_uI, jSh_uJ, jA_uI, jA_uJ, jA_uR, jI_uIf_eq, jI_uIf_ne, jJ_uIf, jR_uIf, jr_uIf, jZ_uIf, jSh_uIf, jA_uIf, ne_eq, not_false_eq_true, not_true_eq_false, reduceCtorEq, Nat.reduceEqDiff, forall_eq, true_and, and_true, true_implies, forall_const, implies_true, List.mem_cons, List.not_mem_nil, or_false, false_or, or_self, if_true, if_false, reduceIte, Nat.reduceAdd, Nat.reduceMul, Nat.reduceLT, false_implies, Decidable.not_not, bI_eq0, bI_eq1, upd_at, updL_at, Nat.succ_ne_zero, Int32.reduceToNatClampNeg, eq_self, i01, i10]
theorem MT.opn {Q : JS → Prop} {p : Nat} (hx : Cx t e A B sg vl so bb wo) (h : MT t e A B so bb wo M i l n b o) (hi : sg i ≠ 26) (hp : p < 1000) (h1 : o < 8 → ∀ M', MF M M' n b → MT t e A B so bb wo M' (i + 1) l n (b + 1) (o + 1) → jI M' 54 b = nI p → Q M') (h0 : ¬ o < 8 → ∀ M', MF M M' n b → MB M' (A i) → Q M') : wX12_openBracket 45 (nI p) M Q := by
  have hs := h.1.1
  have h8 := h.2.2.2.1.2.2.2
  unfold wX12_openBracket wX12_openBracket_8
  rw [h.2.2.1.2.2.2.2, li_8, nI_le' (by omega) (by omega)]
  refine ⟨shA_45 hs, fun z => ⟨shA_45 hs, MT.mustB hx h (fun M1 f1 b1 => ⟨shA_45 b1.1.1, fun _ => h0 (by omega) M1 f1 b1, fun y => ?_⟩)⟩, fun z => ⟨shA_45 hs, MT.mustN h (by decide) (MT.next hx h hi (fun M1 f1 k1 m1 a1 => ⟨shA_45 m1.1.1, fun y => absurd m1.2.2.1.1 y, fun _ => ?_⟩))⟩⟩
  · rw [b1.2.1] at y; exact absurd y (by decide)
  · intro S6 e6
    rw [m1.2.2.1.2.2.2.2, nI_1] at e6
    have f6 : jFr [45] M1 S6 := by rw [e6]; exact (jFr.refl _ _).uI (by decide)
    have k6 : jFk 45 [24] M1 S6 := by rw [e6]; exact (jFk.refl _ _ _).sI (by decide)
    obtain ⟨_, _, ⟨g1, g2, g3, g4, g5⟩, ⟨q1, q2, q3, q4⟩, hpa⟩ := id m1
    have hb := h.2.2.2.1.2.1
    have m6 : MT t e A B so bb wo S6 (i + 1) l n b (o + 1) := by
      refine m1.st (f6.mono (by decide)) (k6.mono (by decide)) ?_ ?_ ?_ ?_ ?_ q2 q3 (by omega)
      · rw [k6.I 17 (by decide)]; exact g2
      · rw [k6.I 20 (by decide)]; exact g3
      · rw [k6.I 23 (by decide)]; exact g4
      · rw [e6]; simp only [jN_uI, jN_uJ, jN_uR, jK_uI, jK_uJ, jK_uR, jZ_uI, jZ_uJ, jZ_uR, jR_uI, jR_uJ, jr_uI, jr_uJ, jI_uJ, jI_uR, jJ_uI, jJ_uR, jI_uI_eq, jI_uI_ne, jJ_uJ_eq, jJ_uJ_ne, jSh_uI, jSh_uJ, jA_uI, jA_uJ, jA_uR, jI_uIf_eq, jI_uIf_ne, jJ_uIf, jR_uIf, jr_uIf, jZ_uIf, jSh_uIf, jA_uIf, ne_eq, not_false_eq_true, not_true_eq_false, reduceCtorEq, Nat.reduceEqDiff, forall_eq, true_and, and_true, true_implies, forall_const, implies_true, List.mem_cons, List.not_mem_nil, or_false, false_or, or_self, if_true, if_false, reduceIte, Nat.reduceAdd, Nat.reduceMul, Nat.reduceLT, false_implies, Decidable.not_not, bI_eq0, bI_eq1, upd_at, updL_at, Nat.succ_ne_zero, Int32.reduceToNatClampNeg, eq_self, i01, i10]
      · intro k hk; rw [f6.I 54 (by decide), f6.I 55 (by decide)]; exact hpa k hk
    refine ⟨shA_45 m6.1.1, ?_⟩
    exact MT.pushQ (m := 0) hx m6 (by omega) hp (by omega) (fun M7 f7 m7 p7 _ _ => h1 (by omega) M7 (((MF.of45 f1 (k1.mono (by decide))).tr (MF.of45 f6 (k6.mono (by decide))) (Nat.le_refl _) (Nat.le_refl _)).tr f7 (Nat.le_refl _) (Nat.le_refl _)) m7 p7)
theorem MT.leaf {Q : JS → Prop} {p1 x y : Int32} (hx : Cx t e A B sg vl so bb wo) (h : MT t e A B so bb wo M i l n b o) (hi : ¬ p1 = 0 → sg i ≠ 26) (h1 : ¬ p1 = 0 → l < 50 → ∀ M', MF M M' n b → MT t e A B so bb wo M' (i + 1) (l + 1) (n + 1) b o → jI M' 52 n = x → jI M' 53 n = y → Q M') (h0 : (p1 = 0 ∨ ¬ l < 50) → ∀ M', MF M M' n b → MB M' (A i) → Q M') : wX12_leaf 45 p1 x y M Q := by
  have hs := h.1.1
  have h50 := h.2.2.2.1.2.2.1
  have bad : (p1 = 0 ∨ ¬ l < 50) → wX12_leaf_9 45 x y 45 M Q := by
    intro z
    unfold wX12_leaf_9 wX12_leaf_10
    refine ⟨shA_45 hs, MT.mustB hx h (fun M1 f1 b1 => ⟨shA_45 b1.1.1, fun _ => h0 z M1 f1 b1, fun y => ?_⟩)⟩
    rw [b1.2.1] at y; exact absurd y (by decide)
  unfold wX12_leaf
  rw [h.2.2.1.2.2.1, show (50 : Int32) = nI 50 from rfl, nI_le' (by omega) (by omega)]
  refine ⟨fun z => bad (Or.inl z), fun z => ⟨shA_45 hs, fun z2 => bad (Or.inr (by omega)), fun z2 => ?_⟩⟩
  unfold wX12_leaf_10
  refine ⟨shA_45 hs, MT.mustN h (by decide) (MT.next hx h (hi z) (fun M1 f1 k1 m1 a1 => ⟨shA_45 m1.1.1, fun y => absurd m1.2.2.1.1 y, fun _ => ?_⟩))⟩
  have hb := h.2.2.2.1.2.1
  refine MT.emitQ hx m1 (by omega) (fun M2 f2 m2 e1 e2 => ⟨shA_45 m2.1.1, fun S8 e8 => ?_⟩)
  rw [m2.2.2.1.2.2.1, nI_1] at e8
  have f8 : jFr [45] M2 S8 := by rw [e8]; exact (jFr.refl _ _).uI (by decide)
  have k8 : jFk 45 [20] M2 S8 := by rw [e8]; exact (jFk.refl _ _ _).sI (by decide)
  obtain ⟨_, _, ⟨g1, g2, g3, g4, g5⟩, ⟨q1, q2, q3, q4⟩, hpa⟩ := id m2
  refine h1 z (by omega) S8 (((MF.of45 f1 (k1.mono (by decide))).tr f2 (Nat.le_refl _) (Nat.le_refl _)).tr (MF.of45 (n := n) f8 (k8.mono (by decide))) (Nat.le_refl _) (Nat.le_refl _)) (m2.st (f8.mono (by decide)) (k8.mono (by decide)) ?_ ?_ ?_ ?_ ?_ q2 (by omega) q4) ?_ ?_
  · rw [k8.I 17 (by decide)]; exact g2
  · rw [e8]; simp only [jN_uI, jN_uJ, jN_uR, jK_uI, jK_uJ, jK_uR, jZ_uI, jZ_uJ, jZ_uR, jR_uI, jR_uJ, jr_uI, jr_uJ, jI_uJ, jI_uR, jJ_uI, jJ_uR, jI_uI_eq, jI_uI_ne, jJ_uJ_eq, jJ_uJ_ne, jSh_uI, jSh_uJ, jA_uI, jA_uJ, jA_uR, jI_uIf_eq, jI_uIf_ne, jJ_uIf, jR_uIf, jr_uIf, jZ_uIf, jSh_uIf, jA_uIf, ne_eq, not_false_eq_true, not_true_eq_false, reduceCtorEq, Nat.reduceEqDiff, forall_eq, true_and, and_true, true_implies, forall_const, implies_true, List.mem_cons, List.not_mem_nil, or_false, false_or, or_self, if_true, if_false, reduceIte, Nat.reduceAdd, Nat.reduceMul, Nat.reduceLT, false_implies, Decidable.not_not, bI_eq0, bI_eq1, upd_at, updL_at, Nat.succ_ne_zero, Int32.reduceToNatClampNeg, eq_self, i01, i10]
  · rw [k8.I 23 (by decide)]; exact g4
  · rw [k8.I 24 (by decide)]; exact g5
  · intro k hk; rw [f8.I 54 (by decide), f8.I 55 (by decide)]; exact hpa k hk
  · rw [f8.I 52 (by decide)]; exact e1
  · rw [f8.I 53 (by decide)]; exact e2
theorem lN_i32 {v : Nat} (h : v ≤ 1000) : (lN v).toInt32 = nI v := by
  have : ∀ v, v < 1001 → (lN v).toInt32 = nI v := by decide +kernel
  exact this v (by omega)
theorem MT.part {Q : Int32 → JS → Prop} (hx : Cx t e A B sg vl so bb wo) (h : MT t e A B so bb wo M i l n b o) (ho : sg i = 24 → o < 8 → ∀ M', MF M M' n b → MT t e A B so bb wo M' (i + 1) l n (b + 1) (o + 1) → jI M' 54 b = nI 31 → Q 1 M') (ho0 : sg i = 24 → ¬ o < 8 → ∀ M', MF M M' n b → MB M' (A i) → Q 1 M') (hl : sg i ≤ 6 → l < 50 → ∀ M', MF M M' n b → MT t e A B so bb wo M' (i + 1) (l + 1) (n + 1) b o → jI M' 52 n = nI (sg i) → jI M' 53 n = nI (vl i) → Q 3 M') (hl0 : sg i ≠ 24 → (6 < sg i ∨ ¬ l < 50) → ∀ M', MF M M' n b → MB M' (A i) → Q 3 M') : wX12_readPart 45 M Q := by
  have hs := h.1.1
  have h11 := h.2.1.2.2.2.1
  have h12 := h.2.1.2.2.2.2.1
  obtain ⟨l1, l0, lw, lm, ln, lv⟩ := hx.2.1 i h.2.2.2.1.1
  have hv := hx.1.2.2.2.1 i
  have hv0 := hx.1.2.2.2.2 i
  unfold wX12_readPart
  refine ⟨shA_45 hs, sX12_isSign hx h (show ((91 : Int32), 24) ∈ mkT by decide) (fun z => ⟨fun y => absurd y (by decide), fun _ => ⟨shA_45 hs, MT.opn (p := 31) hx h (by omega) (by omega) (ho z) (ho0 z)⟩⟩) (fun z => ⟨fun _ => ⟨shA_45 hs, sX12_partAt hx h ⟨shA_45 hs, ?_⟩⟩, fun y => absurd rfl y⟩)⟩
  by_cases c0 : sg i = 0
  · rw [if_neg (by omega)]
    obtain ⟨s2, w2⟩ := ln.mpr c0
    rw [h11, h12, lg_cmp_gt, s2]
    refine ⟨fun y => absurd rfl y, fun _ => ⟨fun y => ?_, fun _ => ?_⟩⟩
    · exact absurd w2 (by rw [Int64.not_le]; exact y)
    · unfold wX12_readPart_24 wX12_readPart_31 wX12_readPart_34 wX12_readPart_40 wX12_readPart_47
      refine ⟨fun y => absurd rfl y, fun _ => ⟨fun y => absurd y (by decide), fun _ => ⟨fun y => absurd rfl y, fun _ => ⟨fun y => absurd y (by decide), fun _ => ⟨shA_45 hs, shA_45 hs, ?_⟩⟩⟩⟩⟩
      refine MT.leaf hx h (fun _ => by omega) (fun _ q M1 f1 m1 e1 e2 => hl (by omega) q M1 f1 m1 (by rw [c0]; exact e1) ?_) (fun q M1 f1 b1 => hl0 z (Or.inr ?_) M1 f1 b1)
      · rw [e2, h12, lv c0, lN_i32 hv]
      · rcases q with q | q
        · exact absurd q (by decide)
        · exact q
  · have no24 : ∀ r : Int32, (wX12_readPart_24 45 r 0 M Q) → (¬ jI M 45 11 = 2 → wX12_readPart_23 45 r M Q) ∧ (jI M 45 11 = 2 → (0 < lg_cmp (jJ M 45 12) 1000 → wX12_readPart_23 45 r M Q) ∧ (¬ 0 < lg_cmp (jJ M 45 12) 1000 → wX12_readPart_24 45 r 1 M Q)) := by
      intro r hr
      refine ⟨fun _ => hr, fun y => ⟨fun _ => hr, fun y2 => ?_⟩⟩
      rw [h11, li_2, nI_eq' (by omega) (by omega)] at y
      rw [h12, lg_cmp_gt] at y2
      exact absurd (ln.mp ⟨y, by rw [← Int64.not_lt]; exact y2⟩) c0
    refine no24 _ ?_
    by_cases c6 : sg i ≤ 6
    · rw [if_pos (by omega)]
      have ne : ¬ nI (sg i) = -1 := by
        rcases (by omega : sg i = 1 ∨ sg i = 2 ∨ sg i = 3 ∨ sg i = 4 ∨ sg i = 5 ∨ sg i = 6) with q | q | q | q | q | q <;> rw [q] <;> decide
      unfold wX12_readPart_24 wX12_readPart_31 wX12_readPart_34 wX12_readPart_40 wX12_readPart_47
      refine ⟨fun _ => ⟨fun _ => ⟨fun _ => ⟨shA_45 hs, ?_⟩, fun y => absurd rfl y⟩, fun y => absurd y ne⟩, fun y => absurd y ne⟩
      refine MT.leaf hx h (fun _ => by omega) (fun _ q M1 f1 m1 e1 e2 => hl c6 q M1 f1 m1 e1 ?_) (fun q M1 f1 b1 => hl0 z (Or.inr ?_) M1 f1 b1)
      · rw [e2, hv0 c0]; rfl
      · rcases q with q | q
        · exact absurd q (by decide)
        · exact q
    · rw [if_neg (by omega)]
      unfold wX12_readPart_24 wX12_readPart_34 wX12_readPart_40 wX12_readPart_47
      refine ⟨fun y => absurd rfl y, fun _ => ⟨fun _ => ⟨fun y => absurd rfl y, fun _ => ⟨fun _ => ⟨shA_45 hs, ?_⟩, fun y => absurd rfl y⟩⟩, fun y => absurd rfl y⟩⟩
      exact MT.leaf hx h (fun q => absurd rfl q) (fun q => absurd rfl q) (fun _ M1 f1 b1 => hl0 z (Or.inl (by omega)) M1 f1 b1)
end MACT
