theorem sX6_fetch {S : JS} {Q : JS → Prop} {A B p T : Nat} (hs : jSh S) (hT : jI S 35 1 = nI T) (hT2 : T < 512) (hp : p < 9) (hA : A + 8 ≤ 4320) (hB : B + 8 ≤ 4320) (hd : A + 8 ≤ B ∨ B + 8 ≤ A) (h : ∀ S', jFr [36] S S' → (∀ i, (i < B ∨ B + 8 ≤ i) → jJ S' 36 i = jJ S 36 i) → (∀ s, s < 512 → (rb S' B s ↔ rb S B s ∨ rb S A (ad T p s))) → Q S') : wX6_fetch 35 (nI A) (nI B) (nI p) S Q := by
  unfold wX6_fetch
  refine ⟨shA_35 hs, ?_⟩
  rw [hT]
  have main : ∀ t : Int32, (t = 0 ∧ T.testBit p = false) ∨ (t = 1 ∧ T.testBit p = true) → wX6_fetch_7 35 (nI A) (nI B) (nI p) t 0 S Q := by
    intro t ht
    unfold wX6_fetch_7
    refine jLoop.cnt 8 (fun c q => ∃ S', q = (35, nI A, nI B, nI p, t, nI c, S') ∧ jFr [36] S S' ∧ (∀ i, (i < B ∨ B + 8 ≤ i) → jJ S' 36 i = jJ S 36 i) ∧ (∀ s, s < 512 → (rb S' B s ↔ rb S B s ∨ (ad T p s / 64 < c ∧ rb S A (ad T p s))))) 0 (by omega) ?_ ⟨S, rfl, jFr.refl _ _, fun _ _ => rfl, fun s hse => ⟨Or.inl, fun w => w.elim id (fun y => absurd y.1 (Nat.not_lt_zero _))⟩⟩
    rintro c _ hc ⟨S1, rfl, f1, o1, b1⟩
    have hs1 := f1.sh.mpr hs
    have up : ∀ S2, jFr [36] S S2 → (∀ i, (i < B ∨ B + 8 ≤ i) → jJ S2 36 i = jJ S 36 i) → c < 8 → (∀ s, s < 512 → (rb S2 B s ↔ rb S1 B s ∨ (ad T p s / 64 = c ∧ bj (jJ S 36 (A + c)) (ad T p s % 64) = true))) → (c < 8 ∧ ∃ S', (35, nI A, nI B, nI p, t, nI (c + 1), S2) = (35, nI A, nI B, nI p, t, nI (c + 1), S') ∧ jFr [36] S S' ∧ (∀ i, (i < B ∨ B + 8 ≤ i) → jJ S' 36 i = jJ S 36 i) ∧ (∀ s, s < 512 → (rb S' B s ↔ rb S B s ∨ (ad T p s / 64 < c + 1 ∧ rb S A (ad T p s))))) := by
      intro S2 f2 o2 hc8 h2
      refine ⟨hc8, S2, rfl, f2, o2, fun s hse => ?_⟩
      rw [h2 s hse, b1 s hse]
      constructor
      · rintro ((w | w) | ⟨w1, w2⟩)
        · exact Or.inl w
        · exact Or.inr ⟨by omega, w.2⟩
        · refine Or.inr ⟨by omega, ?_⟩
          unfold rb; rw [w1]; exact w2
      · rintro (w | ⟨w1, w2⟩)
        · exact Or.inl (Or.inl w)
        · rcases Nat.lt_or_ge (ad T p s / 64) c with l | l
          · exact Or.inl (Or.inr ⟨l, w2⟩)
          · have e : ad T p s / 64 = c := by omega
            unfold rb at w2; rw [e] at w2
            exact Or.inr ⟨e, w2⟩
    unfold bX6_fetch_7 wX6_fetch_23 wX6_fetch_94
    simp only [shA_35, shA_36, shZ_36, shR_35_0, shr_35_0, hs1, lg_cmp_eq, ne_eq, not_false_eq_true, not_true_eq_false, reduceCtorEq, Nat.reduceEqDiff, forall_eq, true_and, and_true, true_implies, forall_const, implies_true, List.mem_cons, List.not_mem_nil, or_false, false_or, or_self, if_true, if_false, reduceIte, Nat.reduceAdd, Nat.reduceMul, Nat.reduceLT, false_implies, Decidable.not_not, bI_eq0, bI_eq1, upd_at, updL_at, Nat.succ_ne_zero, Int32.reduceToNatClampNeg, eq_self, i01, i10]
    simp (disch := omega) only [nI_add, li_8, li_1, li_6, nI_le', ne_eq, not_false_eq_true, not_true_eq_false, reduceCtorEq, Nat.reduceEqDiff, forall_eq, true_and, and_true, true_implies, forall_const, implies_true, List.mem_cons, List.not_mem_nil, or_false, false_or, or_self, if_true, if_false, reduceIte, Nat.reduceAdd, Nat.reduceMul, Nat.reduceLT, false_implies, Decidable.not_not, bI_eq0, bI_eq1, upd_at, updL_at, Nat.succ_ne_zero, Int32.reduceToNatClampNeg, eq_self, i01, i10]
    refine ⟨fun z => ?_, fun z => ?_⟩
    · have : c = 8 := by omega
      subst this
      refine h S1 f1 o1 (fun s hse => (b1 s hse).trans ⟨fun w => w.elim Or.inl (fun y => Or.inr y.2), fun w => w.elim Or.inl (fun y => Or.inr ⟨?_, y⟩)⟩)
      have := ad_lt (p := p) hT2 hse; omega
    · simp (disch := omega) only [nI_tn, nI_inT, ne_eq, not_false_eq_true, not_true_eq_false, reduceCtorEq, Nat.reduceEqDiff, forall_eq, true_and, and_true, true_implies, forall_const, implies_true, List.mem_cons, List.not_mem_nil, or_false, false_or, or_self, if_true, if_false, reduceIte, Nat.reduceAdd, Nat.reduceMul, Nat.reduceLT, false_implies, Decidable.not_not, bI_eq0, bI_eq1, upd_at, updL_at, Nat.succ_ne_zero, Int32.reduceToNatClampNeg, eq_self, i01, i10]
      have ex : jJ S1 36 (A + c) = jJ S 36 (A + c) := o1 _ (by omega)
      rw [ex]
      have o2 : ∀ S3, (∀ i, (i < B ∨ B + 8 ≤ i) → jJ S3 36 i = jJ S 36 i) → ∀ w y, w < 8 → ∀ i, (i < B ∨ B + 8 ≤ i) → jJ (uJ S3 36 (B + w) y) 36 i = jJ S 36 i := fun S3 o3 w y hw i hi => by
        rw [jJ_uJ_eq, updL_at, if_neg (by omega)]; exact o3 i hi
      have plain : (T.testBit p = false ∨ jJ S 36 (A + c) = 0) → (c < 8 ∧ ∃ S', (35, nI A, nI B, nI p, t, nI (c + 1), uJ S1 36 (B + c) (jJ S1 36 (B + c) ||| jJ S 36 (A + c))) = (35, nI A, nI B, nI p, t, nI (c + 1), S') ∧ jFr [36] S S' ∧ (∀ i, (i < B ∨ B + 8 ≤ i) → jJ S' 36 i = jJ S 36 i) ∧ (∀ s, s < 512 → (rb S' B s ↔ rb S B s ∨ (ad T p s / 64 < c + 1 ∧ rb S A (ad T p s))))) := by
        intro hpl
        refine up _ (f1.uJ (by decide)) (o2 S1 o1 c _ (by omega)) (by omega) (fun s hse => ?_)
        rw [rb_or (by omega) hse]
        rcases hpl with hpl | hpl
        · simp only [ad_f hpl]
        · have := j_z hpl
          exact ⟨fun w => w.elim Or.inl (fun y => absurd y.2 (this _)), fun w => w.elim Or.inl (fun y => absurd y.2 (this _))⟩
      have tld : ¬ t = 0 → T.testBit p = true := fun z2 => by
        rcases ht with ht | ht
        · exact absurd ht.1 z2
        · exact ht.2
      refine ⟨fun z2 => plain (Or.inl ?_), fun z2 => ⟨fun z3 => ⟨fun z4 => ?_, fun z4 => ?_⟩, fun z3 => plain (Or.inr z3)⟩⟩
      · rcases ht with ht | ht
        · exact ht.2
        · rw [ht.1] at z2; exact absurd z2 (by decide)
      · have hTp := tld z2
        obtain ⟨q, rfl⟩ : ∃ q, p = q + 6 := ⟨p - 6, by omega⟩
        have h8 := xor_in8 q (by omega) c (by omega)
        rw [nI_sub (by omega), show q + 6 - 6 = q by omega]
        have e8 : nI B + (nI c ^^^ (nI 1 <<< (nI q &&& 31))) = nI (B + (c ^^^ 2 ^ q)) := by
          rw [show nI 1 = (1 : Int32) from rfl, one_shl q (by omega), nx_xor, nI_add]
        have adq : ∀ s, s < 512 → ad T (q + 6) s / 64 = (s / 64 ||| 2 ^ q) ∧ ad T (q + 6) s % 64 = s % 64 := by
          intro s hse
          have := or_hi q (by omega) (s / 64) (by omega) (s % 64) (by omega)
          rw [show 64 * (s / 64) + s % 64 = s by omega] at this
          rw [ad_t hTp, this]; omega
        refine sX11_hasBit (by omega) (fun hb => ?_) (fun hb => ?_)
        · rw [bt_nI (by omega)] at hb
          simp only [shA_35, shA_36, shZ_36, shR_35_0, shr_35_0, hs1, jN_uI, jN_uJ, jN_uR, jK_uI, jK_uJ, jK_uR, jZ_uI, jZ_uJ, jZ_uR, jR_uI, jR_uJ, jr_uI, jr_uJ, jI_uJ, jI_uR, jJ_uI, jJ_uR, jI_uI_eq, jI_uI_ne, jJ_uJ_eq, jJ_uJ_ne, jSh_uI, jSh_uJ, jA_uI, jA_uJ, jA_uR, jI_uIf_eq, jI_uIf_ne, jJ_uIf, jR_uIf, jr_uIf, jZ_uIf, jSh_uIf, jA_uIf, ne_eq, not_false_eq_true, not_true_eq_false, reduceCtorEq, Nat.reduceEqDiff, forall_eq, true_and, and_true, true_implies, forall_const, implies_true, List.mem_cons, List.not_mem_nil, or_false, false_or, or_self, if_true, if_false, reduceIte, Nat.reduceAdd, Nat.reduceMul, Nat.reduceLT, false_implies, Decidable.not_not, bI_eq0, bI_eq1, upd_at, updL_at, Nat.succ_ne_zero, Int32.reduceToNatClampNeg, eq_self, i01, i10]
          rw [e8, nI_tn (by omega)]
          refine ⟨nI_in2 (by omega) (by omega), nI_in2 (by omega) (by omega), ?_⟩
          have hne : ¬ B + (c ^^^ 2 ^ q) = B + c := by
            intro e
            have e1 : c ^^^ 2 ^ q = c := by omega
            have := congrArg (fun z => z.testBit q) e1
            simp [Nat.testBit_xor, Nat.testBit_two_pow, hb] at this
          have hrd : (if B + (c ^^^ 2 ^ q) = B + c then jJ S1 36 (B + c) ||| jJ S 36 (A + c) else jJ S1 36 (B + (c ^^^ 2 ^ q))) = jJ (uJ S1 36 (B + c) (jJ S1 36 (B + c) ||| jJ S 36 (A + c))) 36 (B + (c ^^^ 2 ^ q)) := by
            rw [jJ_uJ_eq, updL_at]
          rw [hrd]
          refine up _ ((f1.uJ (by decide)).uJ (by decide)) (o2 _ (o2 S1 o1 c _ (by omega)) _ _ h8) (by omega) (fun s hse => ?_)
          rw [rb_or h8 hse, rb_or (by omega) hse, (adq s hse).1, (adq s hse).2, xr_ft q (by omega) c (by omega) (s / 64) (by omega)]
          constructor
          · rintro ((w | w) | w)
            · exact Or.inl w
            · exact Or.inr ⟨⟨hb, Or.inl w.1⟩, w.2⟩
            · exact Or.inr ⟨⟨hb, Or.inr w.1⟩, w.2⟩
          · rintro (w | ⟨⟨_, w1 | w1⟩, w2⟩)
            · exact Or.inl (Or.inl w)
            · exact Or.inl (Or.inr ⟨w1, w2⟩)
            · exact Or.inr ⟨w1, w2⟩
        · rw [bt_nI (by omega)] at hb
          simp only [ne_eq, not_false_eq_true, not_true_eq_false, reduceCtorEq, Nat.reduceEqDiff, forall_eq, true_and, and_true, true_implies, forall_const, implies_true, List.mem_cons, List.not_mem_nil, or_false, false_or, or_self, if_true, if_false, reduceIte, Nat.reduceAdd, Nat.reduceMul, Nat.reduceLT, false_implies, Decidable.not_not, bI_eq0, bI_eq1, upd_at, updL_at, Nat.succ_ne_zero, Int32.reduceToNatClampNeg, eq_self, i01, i10]
          refine up S1 f1 o1 (by omega) (fun s hse => ?_)
          rw [(adq s hse).1, (adq s hse).2, xr_ft q (by omega) c (by omega) (s / 64) (by omega)]
          exact ⟨Or.inl, fun w => w.elim id (fun y => absurd y.1.1 hb)⟩
      · have hTp := tld z2
        rw [show nI 1 <<< (nI p &&& 31) = nI (2 ^ p) from one_shl p (by omega)]
        simp (disch := omega) only [nI_tn, nI_inT, ne_eq, not_false_eq_true, not_true_eq_false, reduceCtorEq, Nat.reduceEqDiff, forall_eq, true_and, and_true, true_implies, forall_const, implies_true, List.mem_cons, List.not_mem_nil, or_false, false_or, or_self, if_true, if_false, reduceIte, Nat.reduceAdd, Nat.reduceMul, Nat.reduceLT, false_implies, Decidable.not_not, bI_eq0, bI_eq1, upd_at, updL_at, Nat.succ_ne_zero, Int32.reduceToNatClampNeg, eq_self, i01, i10]
        refine up _ (f1.uJ (by decide)) (o2 S1 o1 _ _ (by omega)) (by omega) (fun s hse => ?_)
        rw [rb_or (by omega) hse, ft_word (by omega) (by omega)]
        have := or_lo p (by omega) (s / 64) (by omega) (s % 64) (by omega)
        rw [show 64 * (s / 64) + s % 64 = s by omega] at this
        have h64 := or_in p (by omega) (s % 64) (by omega)
        rw [ad_t hTp, this, show (64 * (s / 64) + (s % 64 ||| 2 ^ p)) / 64 = s / 64 by omega, show (64 * (s / 64) + (s % 64 ||| 2 ^ p)) % 64 = (s % 64 ||| 2 ^ p) by omega]
  refine sX11_hasBit (by omega) (fun hb => main 1 (Or.inr ⟨rfl, ?_⟩)) (fun hb => main 0 (Or.inl ⟨rfl, ?_⟩))
  · rw [bt_nI (by omega)] at hb; exact hb
  · rw [bt_nI (by omega)] at hb; simpa using hb
/-! ROUNDS, pure -/
def gRd (row : Nat → Int32) (T n0 r0 : Nat) : Nat → Nat → Nat → Prop
  | 0, i, s => i = r0 ∧ s = T &&& 2 ^ r0
  | k + 1, p, s => ∃ r u, r < gR row ∧ gRd row T n0 r0 k r u ∧ gSt row (n0 + k) r p ∧ s = ad T p u
theorem gRd_lt {row : Nat → Int32} {T n0 r0 : Nat} (hT : T < 512) (h0 : r0 < gR row) : ∀ {k i s : Nat}, gRd row T n0 r0 k i s → i < gR row ∧ s < 512
  | 0, _, _, ⟨h1, h2⟩ => ⟨h1 ▸ h0, h2 ▸ and_lt hT⟩
  | _ + 1, _, _, ⟨_, _, h1, h2, h3, h4⟩ => ⟨gSt_lt h3 h1, h4 ▸ ad_lt hT (gRd_lt hT h0 h2).2⟩
def gEd (row : Nat → Int32) (T n0 r0 k : Nat) : Prop := ∃ r, gRd row T n0 r0 k r T
def rdP (row : Nat → Int32) (T n0 r0 : Nat) (v : Int32) : Prop := (∃ k, IsLow (gEd row T n0 r0) k ∧ n0 + k ≤ 59 ∧ v = nI (n0 + k)) ∨ ((∀ k, n0 + k ≤ 59 → ¬ gEd row T n0 r0 k) ∧ v = -1)
theorem rdP.uniq {row : Nat → Int32} {T n0 r0 : Nat} {r r' : Int32} (h : rdP row T n0 r0 r) (h' : rdP row T n0 r0 r') : r = r' := by
  rcases h with ⟨k, k1, k2, k3⟩ | ⟨k1, k2⟩ <;> rcases h' with ⟨l, l1, l2, l3⟩ | ⟨l1, l2⟩
  · rw [k3, l3, k1.uniq l1]
  · exact absurd k1.1 (l1 k k2)
  · exact absurd l1.1 (k1 l l2)
  · rw [k2, l2]
/-- from which sets it can be ended in time -/
def gBd (row : Nat → Int32) (T last : Nat) : Nat → Nat → Nat → Prop
  | 0, _, s => s = T
  | k + 1, r, s => ∃ p, gSt row (last - (k + 1)) r p ∧ gBd row T last k p (ad T p s)
theorem gRd_Bd {row : Nat → Int32} {T n0 r0 K : Nat} (hT : T < 512) (h0 : r0 < gR row) : ∀ k r s, k ≤ K → gRd row T n0 r0 k r s → gBd row T (n0 + K) (K - k) r s → gBd row T (n0 + K) K r0 (T &&& 2 ^ r0)
  | 0, r, s, _, ⟨h1, h2⟩, hb => by subst h1; subst h2; exact hb
  | k + 1, p, s, hk, ⟨r, u, h1, h2, h3, h4⟩, hb => by
    refine gRd_Bd hT h0 k r u (by omega) h2 ?_
    obtain ⟨m, e1, e2⟩ : ∃ m, K - k = m + 1 ∧ K - (k + 1) = m := ⟨K - k - 1, by omega, by omega⟩
    rw [e1, gBd]
    rw [e2] at hb
    refine ⟨p, ?_, by rw [← h4]; exact hb⟩
    rw [show n0 + K - (m + 1) = n0 + k by omega]; exact h3
/-- the first way -/
def gWn (row : Nat → Int32) (T last n v h : Nat) (p : Nat) : Prop := gSt row n v p ∧ gBd row T last (last - (n + 1)) p (ad T p h)
def gWk (row : Nat → Int32) (T last n0 r0 : Nat) : Nat → Nat → Nat → Prop
  | 0, v, h => v = r0 ∧ h = T &&& 2 ^ r0
  | k + 1, v, h => ∃ u g, gWk row T last n0 r0 k u g ∧ IsLow (gWn row T last (n0 + k) u g) v ∧ h = ad T v g
theorem gWk_uniq {row : Nat → Int32} {T last n0 r0 : Nat} : ∀ {k v h v' h' : Nat}, gWk row T last n0 r0 k v h → gWk row T last n0 r0 k v' h' → v = v' ∧ h = h'
  | 0, _, _, _, _, ⟨a, b⟩, ⟨c, d⟩ => ⟨a.trans c.symm, b.trans d.symm⟩
  | _ + 1, _, _, _, _, ⟨u, g, a, b, c⟩, ⟨u', g', a', b', c'⟩ => by
    obtain ⟨rfl, rfl⟩ := gWk_uniq a a'
    have := b.uniq b'
    subst this
    exact ⟨rfl, c.trans c'.symm⟩
theorem gWk_ok {row : Nat → Int32} {T last n0 r0 : Nat} (hT : T < 512) (h0 : r0 < gR row) (hl : n0 ≤ last) (hb : gBd row T last (last - n0) r0 (T &&& 2 ^ r0)) : ∀ {k v h : Nat}, n0 + k ≤ last → gWk row T last n0 r0 k v h → v < gR row ∧ h < 512 ∧ gBd row T last (last - (n0 + k)) v h
  | 0, _, _, _, ⟨a, b⟩ => by subst a; subst b; exact ⟨h0, and_lt hT, hb⟩
  | k + 1, v, h, hk, ⟨u, g, a, b, c⟩ => by
    obtain ⟨q1, q2, q3⟩ := gWk_ok hT h0 hl hb (by omega) a
    exact ⟨gSt_lt b.1.1 q1, c ▸ ad_lt hT q2, by rw [c]; exact b.1.2⟩
theorem gWn_ex {row : Nat → Int32} {T last n v h : Nat} (hn : n < last) (hb : gBd row T last (last - n) v h) : ∃ p, IsLow (gWn row T last n v h) p := by
  obtain ⟨m, e1, e2⟩ : ∃ m, last - n = m + 1 ∧ last - (n + 1) = m := ⟨last - n - 1, by omega, by omega⟩
  rw [e1, gBd] at hb
  obtain ⟨p, p1, p2⟩ := hb
  rw [show last - (m + 1) = n by omega] at p1
  refine low_ex ⟨p, p1, ?_⟩
  rw [e2]; exact p2
