/-! THE CLASS'S LAYERS -/
def rb (S : JS) (A s : Nat) : Prop := bj (jJ S 36 (A + s / 64)) (s % 64) = true
theorem rb_or {S : JS} {B w s : Nat} {y : Int64} (hw : w < 8) (hs : s < 512) : rb (uJ S 36 (B + w) (jJ S 36 (B + w) ||| y)) B s ↔ rb S B s ∨ (s / 64 = w ∧ bj y (s % 64) = true) := by
  unfold rb
  rw [jJ_uJ_eq, updL_at]
  by_cases e : s / 64 = w
  · subst e; rw [if_pos rfl, j_or, Bool.or_eq_true]; simp
  · rw [if_neg (by omega)]; simp [e]
theorem rb_fr {S S' : JS} {A s : Nat} (h : ∀ i, A ≤ i → i < A + 8 → jJ S' 36 i = jJ S 36 i) (hs : s < 512) : rb S' A s ↔ rb S A s := by
  unfold rb; rw [h _ (by omega) (by omega)]
theorem sJ7_fillL {S : JS} {Q : JS → Prop} {h z : Nat} {v : Int64} (hA : jA S h 14) (hz : jZ S h = z) (hz2 : z < 1000000) (hq : ∀ S', jFr [h] S S' → (∀ i, i < z → jJ S' h i = v) → Q S') : wJ7_fill_d0a16 h v S Q := by
  unfold wJ7_fill_d0a16
  refine ⟨hA, ?_⟩
  rw [hz]
  refine nm_e ?_
  unfold wJ7_fill_d0a16_5
  refine jLoop.cnt z (fun c q => ∃ S', q = (h, v, nI c, nI z, S') ∧ jFr [h] S S' ∧ ∀ i, i < c → jJ S' h i = v) 0 (Nat.zero_le _) ?_ ⟨S, rfl, jFr.refl _ _, fun i hi => absurd hi (Nat.not_lt_zero _)⟩
  rintro c _ hc ⟨S1, rfl, f1, i1⟩
  unfold bJ7_fill_d0a16_5
  simp only [f1.A, hA, f1.Z, hz, nI_1, ne_eq, not_false_eq_true, not_true_eq_false, reduceCtorEq, Nat.reduceEqDiff, forall_eq, true_and, and_true, true_implies, forall_const, implies_true, List.mem_cons, List.not_mem_nil, or_false, false_or, or_self, if_true, if_false, reduceIte, Nat.reduceAdd, Nat.reduceMul, Nat.reduceLT, false_implies, Decidable.not_not, bI_eq0, bI_eq1, upd_at, updL_at, Nat.succ_ne_zero, Int32.reduceToNatClampNeg, eq_self, i01, i10]
  rw [nI_le' (by omega) (by omega), nI_tn (by omega)]
  refine ⟨fun q => hq S1 f1 (fun i hi => i1 i (by omega)), fun q => ⟨nI_in2 (by omega) hz2, by omega, _, rfl, f1.uJ (by simp), fun i hi => ?_⟩⟩
  rw [jJ_uJ_eq, updL_at]
  split
  · rfl
  · exact i1 i (by omega)
theorem sX6_isIn {S : JS} {Q : Int32 → JS → Prop} {r n s : Nat} (hs : jSh S) (hr : r < 9) (hn : n < 60) (hse : s < 512) (h1 : rb S (n * 72 + r * 8) s → Q 1 S) (h0 : ¬ rb S (n * 72 + r * 8) s → Q 0 S) : wX6_isIn 35 (nI r) (nI n) (nI s) S Q := by
  unfold wX6_isIn wX6_wordOf
  simp only [shA_35, shA_36, shZ_36, shR_35_0, shr_35_0, hs, wd_eq hse, st_lo s hse, lg_cmp_eq, ne_eq, not_false_eq_true, not_true_eq_false, reduceCtorEq, Nat.reduceEqDiff, forall_eq, true_and, and_true, true_implies, forall_const, implies_true, List.mem_cons, List.not_mem_nil, or_false, false_or, or_self, if_true, if_false, reduceIte, Nat.reduceAdd, Nat.reduceMul, Nat.reduceLT, false_implies, Decidable.not_not, bI_eq0, bI_eq1, upd_at, updL_at, Nat.succ_ne_zero, Int32.reduceToNatClampNeg, eq_self, i01, i10]
  rw [nI_tn (by omega)]
  refine ⟨nI_in2 (by omega) (by omega), ?_⟩
  have e : (jlushr (jJ S 36 (n * 72 + r * 8 + s / 64)) (nI (s % 64)) &&& 1 = 1) ↔ rb S (n * 72 + r * 8) s := by
    unfold rb
    have := jlu_bit (x := jJ S 36 (n * 72 + r * 8 + s / 64)) (k := s % 64) (i := 0) (by omega)
    rw [j_and1, this, Nat.add_zero]
    cases bj (jJ S 36 (n * 72 + r * 8 + s / 64)) (s % 64) <;> decide
  rw [e]
  exact ⟨h0, h1⟩
theorem one_bit {k i : Nat} (hk : k < 64) (hi : i < 64) : bj ((1 : Int64) <<< ((nI k).toInt64 &&& 63)) i = decide (i = k) := by
  rw [j_shl k hk 1 hi, j_1, ← Bool.decide_and, decide_eq_decide]; omega
theorem sX6_put {S : JS} {Q : JS → Prop} {r n s : Nat} (hs : jSh S) (hr : r < 9) (hn : n < 60) (hse : s < 512) (h : ∀ S', jFr [36] S S' → (∀ m q t, m < 60 → q < 9 → t < 512 → (rb S' (m * 72 + q * 8) t ↔ rb S (m * 72 + q * 8) t ∨ (m = n ∧ q = r ∧ t = s))) → Q S') : wX6_put 35 (nI r) (nI n) (nI s) S Q := by
  unfold wX6_put wX6_wordOf
  simp only [shA_35, shA_36, shZ_36, shR_35_0, shr_35_0, hs, wd_eq hse, st_lo s hse, ne_eq, not_false_eq_true, not_true_eq_false, reduceCtorEq, Nat.reduceEqDiff, forall_eq, true_and, and_true, true_implies, forall_const, implies_true, List.mem_cons, List.not_mem_nil, or_false, false_or, or_self, if_true, if_false, reduceIte, Nat.reduceAdd, Nat.reduceMul, Nat.reduceLT, false_implies, Decidable.not_not, bI_eq0, bI_eq1, upd_at, updL_at, Nat.succ_ne_zero, Int32.reduceToNatClampNeg, eq_self, i01, i10]
  rw [nI_tn (by omega)]
  refine ⟨nI_in2 (by omega) (by omega), h _ ((jFr.refl _ _).uJ (by decide)) (fun m q t hm hq ht => ?_)⟩
  by_cases e : m = n ∧ q = r
  · obtain ⟨rfl, rfl⟩ := e
    rw [rb_or (by omega) ht, one_bit (by omega) (by omega), decide_eq_true_iff]
    constructor
    · rintro (w | w)
      · exact Or.inl w
      · exact Or.inr ⟨rfl, rfl, by omega⟩
    · rintro (w | w)
      · exact Or.inl w
      · exact Or.inr (by omega)
  · rw [rb_fr (S := S) (fun i q1 q2 => ?_) ht]
    · exact ⟨Or.inl, fun w => w.elim id (fun y => absurd ⟨y.1, y.2.1⟩ e)⟩
    · rw [jJ_uJ_eq, updL_at, if_neg (by omega)]
theorem j_z {x : Int64} : x = 0 → ∀ j, ¬ bj x j = true := by intro h j; rw [h, j_0]; decide
/-- the word of the sets carried, with a low rock -/
theorem cr_word {x : Int64} {p j : Nat} (hp : p < 6) (hj : j < 64) : bj ((x &&& (jTW p ^^^ -1)) ||| ((x &&& jTW p) <<< ((nI (2 ^ p)).toInt64 &&& 63))) j = true ↔ ∃ u, u < 64 ∧ bj x u = true ∧ j = u ||| 2 ^ p := by
  have h2 := pow64 p hp
  rw [j_or, Bool.or_eq_true, j_shl _ h2 _ hj, j_and, j_xor, j_m1 j hj, tw_bit p hp j hj, Bool.and_eq_true, Bool.and_eq_true, j_and, Bool.and_eq_true, decide_eq_true_iff]
  constructor
  · rintro (⟨w1, w2⟩ | ⟨w1, w2, w3⟩)
    · exact ⟨j, hj, w1, (or_cr p hp j hj j hj).mpr (Or.inl ⟨rfl, by simpa using w2⟩)⟩
    · have hl : j - 2 ^ p < 64 := Nat.lt_of_le_of_lt (Nat.sub_le _ _) hj
      rw [tw_bit p hp _ hl] at w3
      exact ⟨j - 2 ^ p, hl, w2, (or_cr p hp j hj _ hl).mpr (Or.inr ⟨w1, rfl, by simpa using w3⟩)⟩
  · rintro ⟨u, u1, u2, u3⟩
    rcases (or_cr p hp j hj u u1).mp u3 with ⟨e, w⟩ | ⟨w1, e, w2⟩
    · subst e; exact Or.inl ⟨u2, by simp [w]⟩
    · subst e
      refine Or.inr ⟨w1, u2, ?_⟩
      rw [tw_bit p hp _ u1, w2]; rfl
theorem ft_word {x : Int64} {p j : Nat} (hp : p < 6) (hj : j < 64) : bj ((x &&& (jTW p ^^^ -1)) ||| jlushr (x &&& (jTW p ^^^ -1)) (nI (2 ^ p))) j = true ↔ bj x (j ||| 2 ^ p) = true := by
  have h2 := pow64 p hp
  rw [j_or, Bool.or_eq_true, jlu_bit h2, Nat.add_comm (2 ^ p) j, j_and, j_xor, j_m1 j hj, tw_bit p hp j hj, j_and, Bool.and_eq_true, Bool.and_eq_true]
  obtain ⟨o1, o2⟩ := or_ft p hp j hj
  cases hb : j.testBit p with
  | true =>
    obtain ⟨o3, o4⟩ := o1 hb
    rw [o3]
    refine ⟨fun w => ?_, fun w => Or.inl ⟨w, by simp⟩⟩
    rcases w with ⟨w1, _⟩ | ⟨w1, w2⟩
    · exact w1
    · rcases Nat.lt_or_ge (j + 2 ^ p) 64 with l | l
      · rw [j_xor, j_m1 _ l, tw_bit p hp _ l, o4 l] at w2; cases w2
      · rw [j_big l] at w1; cases w1
  | false =>
    obtain ⟨o3, o4, o5⟩ := o2 hb
    rw [o3]
    refine ⟨fun w => ?_, fun w => Or.inr ⟨w, ?_⟩⟩
    · rcases w with ⟨_, w2⟩ | ⟨w1, _⟩
      · cases w2
      · exact w1
    · rw [j_xor, j_m1 _ o4, tw_bit p hp _ o4, o5]; rfl
theorem sX6_carry {S : JS} {Q : JS → Prop} {A B p T : Nat} (hs : jSh S) (hT : jI S 35 1 = nI T) (hT2 : T < 512) (hp : p < 9) (hA : A + 8 ≤ 4320) (hB : B + 8 ≤ 4320) (hd : A + 8 ≤ B ∨ B + 8 ≤ A) (h : ∀ S', jFr [36] S S' → (∀ i, (i < B ∨ B + 8 ≤ i) → jJ S' 36 i = jJ S 36 i) → (∀ s, s < 512 → (rb S' B s ↔ rb S B s ∨ ∃ u, u < 512 ∧ rb S A u ∧ s = ad T p u)) → Q S') : wX6_carry 35 (nI A) (nI B) (nI p) S Q := by
  unfold wX6_carry
  refine ⟨shA_35 hs, ?_⟩
  rw [hT]
  have main : ∀ t : Int32, (t = 0 ∧ T.testBit p = false) ∨ (t = 1 ∧ T.testBit p = true) → wX6_carry_7 35 (nI A) (nI B) (nI p) t 0 S Q := by
    intro t ht
    unfold wX6_carry_7
    refine jLoop.cnt 8 (fun c q => ∃ S', q = (35, nI A, nI B, nI p, t, nI c, S') ∧ jFr [36] S S' ∧ (∀ i, (i < B ∨ B + 8 ≤ i) → jJ S' 36 i = jJ S 36 i) ∧ (∀ s, s < 512 → (rb S' B s ↔ rb S B s ∨ ∃ u, u < 64 * c ∧ rb S A u ∧ s = ad T p u))) 0 (by omega) ?_ ⟨S, rfl, jFr.refl _ _, fun _ _ => rfl, fun s hse => ⟨Or.inl, fun w => w.elim id (fun ⟨u, u1, _⟩ => absurd u1 (Nat.not_lt_zero _))⟩⟩
    rintro c _ hc ⟨S1, rfl, f1, o1, b1⟩
    have hs1 := f1.sh.mpr hs
    -- a word more
    have up : ∀ S2, jFr [36] S S2 → (∀ i, (i < B ∨ B + 8 ≤ i) → jJ S2 36 i = jJ S 36 i) → c < 8 → (∀ s, s < 512 → (rb S2 B s ↔ rb S1 B s ∨ ∃ j, j < 64 ∧ bj (jJ S 36 (A + c)) j = true ∧ s = ad T p (64 * c + j))) → (c < 8 ∧ ∃ S', (35, nI A, nI B, nI p, t, nI (c + 1), S2) = (35, nI A, nI B, nI p, t, nI (c + 1), S') ∧ jFr [36] S S' ∧ (∀ i, (i < B ∨ B + 8 ≤ i) → jJ S' 36 i = jJ S 36 i) ∧ (∀ s, s < 512 → (rb S' B s ↔ rb S B s ∨ ∃ u, u < 64 * (c + 1) ∧ rb S A u ∧ s = ad T p u))) := by
      intro S2 f2 o2 hc8 h2
      refine ⟨hc8, S2, rfl, f2, o2, fun s hse => ?_⟩
      rw [h2 s hse, b1 s hse]
      constructor
      · rintro ((w | ⟨u, u1, u2⟩) | ⟨j, j1, j2, j3⟩)
        · exact Or.inl w
        · exact Or.inr ⟨u, by omega, u2⟩
        · refine Or.inr ⟨64 * c + j, by omega, ?_, j3⟩
          unfold rb; rw [show (64 * c + j) / 64 = c by omega, show (64 * c + j) % 64 = j by omega]; exact j2
      · rintro (w | ⟨u, u1, u2, u3⟩)
        · exact Or.inl (Or.inl w)
        · rcases Nat.lt_or_ge u (64 * c) with l | l
          · exact Or.inl (Or.inr ⟨u, l, u2, u3⟩)
          · refine Or.inr ⟨u - 64 * c, by omega, ?_, by rw [show 64 * c + (u - 64 * c) = u by omega]; exact u3⟩
            unfold rb at u2; rw [show u / 64 = c by omega, show u % 64 = u - 64 * c by omega] at u2; exact u2
    unfold bX6_carry_7 wX6_carry_23 wX6_carry_80
    simp only [shA_35, shA_36, shZ_36, shR_35_0, shr_35_0, hs1, lg_cmp_eq, ne_eq, not_false_eq_true, not_true_eq_false, reduceCtorEq, Nat.reduceEqDiff, forall_eq, true_and, and_true, true_implies, forall_const, implies_true, List.mem_cons, List.not_mem_nil, or_false, false_or, or_self, if_true, if_false, reduceIte, Nat.reduceAdd, Nat.reduceMul, Nat.reduceLT, false_implies, Decidable.not_not, bI_eq0, bI_eq1, upd_at, updL_at, Nat.succ_ne_zero, Int32.reduceToNatClampNeg, eq_self, i01, i10]
    simp (disch := omega) only [nI_add, li_8, li_1, li_6, nI_le', ne_eq, not_false_eq_true, not_true_eq_false, reduceCtorEq, Nat.reduceEqDiff, forall_eq, true_and, and_true, true_implies, forall_const, implies_true, List.mem_cons, List.not_mem_nil, or_false, false_or, or_self, if_true, if_false, reduceIte, Nat.reduceAdd, Nat.reduceMul, Nat.reduceLT, false_implies, Decidable.not_not, bI_eq0, bI_eq1, upd_at, updL_at, Nat.succ_ne_zero, Int32.reduceToNatClampNeg, eq_self, i01, i10]
    refine ⟨fun z => ?_, fun z => ?_⟩
    · have : c = 8 := by omega
      subst this; exact h S1 f1 o1 b1
    · simp (disch := omega) only [nI_tn, nI_inT, ne_eq, not_false_eq_true, not_true_eq_false, reduceCtorEq, Nat.reduceEqDiff, forall_eq, true_and, and_true, true_implies, forall_const, implies_true, List.mem_cons, List.not_mem_nil, or_false, false_or, or_self, if_true, if_false, reduceIte, Nat.reduceAdd, Nat.reduceMul, Nat.reduceLT, false_implies, Decidable.not_not, bI_eq0, bI_eq1, upd_at, updL_at, Nat.succ_ne_zero, Int32.reduceToNatClampNeg, eq_self, i01, i10]
      have ex : jJ S1 36 (A + c) = jJ S 36 (A + c) := o1 _ (by omega)
      rw [ex]
      have o2 : ∀ w y, w < 8 → ∀ i, (i < B ∨ B + 8 ≤ i) → jJ (uJ S1 36 (B + w) y) 36 i = jJ S 36 i := fun w y hw i hi => by
        rw [jJ_uJ_eq, updL_at, if_neg (by omega)]; exact o1 i hi
      have plain : (T.testBit p = false ∨ jJ S 36 (A + c) = 0) → (c < 8 ∧ ∃ S', (35, nI A, nI B, nI p, t, nI (c + 1), uJ S1 36 (B + c) (jJ S1 36 (B + c) ||| jJ S 36 (A + c))) = (35, nI A, nI B, nI p, t, nI (c + 1), S') ∧ jFr [36] S S' ∧ (∀ i, (i < B ∨ B + 8 ≤ i) → jJ S' 36 i = jJ S 36 i) ∧ (∀ s, s < 512 → (rb S' B s ↔ rb S B s ∨ ∃ u, u < 64 * (c + 1) ∧ rb S A u ∧ s = ad T p u))) := by
        intro hpl
        refine up _ (f1.uJ (by decide)) (o2 c _ (by omega)) (by omega) (fun s hse => ?_)
        rw [rb_or (by omega) hse]
        rcases hpl with hpl | hpl
        · simp only [ad_f hpl]
          constructor
          · rintro (w | ⟨w1, w2⟩)
            · exact Or.inl w
            · exact Or.inr ⟨s % 64, by omega, w2, by omega⟩
          · rintro (w | ⟨j, j1, j2, j3⟩)
            · exact Or.inl w
            · exact Or.inr ⟨by omega, by rw [show s % 64 = j by omega]; exact j2⟩
        · have := j_z hpl
          exact ⟨fun w => w.elim Or.inl (fun y => absurd y.2 (this _)), fun w => w.elim Or.inl (fun ⟨j, _, y, _⟩ => absurd y (this _))⟩
      have tld : ¬ t = 0 → T.testBit p = true := fun z2 => by
        rcases ht with ht | ht
        · exact absurd ht.1 z2
        · exact ht.2
      refine ⟨fun z2 => plain (Or.inl ?_), fun z2 => ⟨fun z3 => ⟨fun z4 => ?_, fun z4 => ?_⟩, fun z3 => plain (Or.inr z3)⟩⟩
      · rcases ht with ht | ht
        · exact ht.2
        · rw [ht.1] at z2; exact absurd z2 (by decide)
      · have hTp := tld z2
        obtain ⟨q, rfl⟩ : ∃ q, p = q + 6 := ⟨p - 6, by omega⟩
        have h8 := or_in8 q (by omega) c (by omega)
        have e8 : nI B + (nI c ||| (nI 1 <<< ((nI (q + 6) - nI 6) &&& 31))) = nI (B + (c ||| 2 ^ q)) := by
          rw [nI_sub (by omega), show q + 6 - 6 = q by omega, show nI 1 = (1 : Int32) from rfl, one_shl q (by omega), nx_or, nI_add]
        rw [e8, nI_tn (by omega)]
        refine ⟨nI_in2 (by omega) (by omega), up _ (f1.uJ (by decide)) (o2 _ _ h8) (by omega) (fun s hse => ?_)⟩
        rw [rb_or h8 hse]
        simp only [ad_t hTp]
        constructor
        · rintro (w | ⟨w1, w2⟩)
          · exact Or.inl w
          · refine Or.inr ⟨s % 64, by omega, w2, ?_⟩
            rw [or_hi q (by omega) c (by omega) _ (by omega)]; omega
        · rintro (w | ⟨j, j1, j2, j3⟩)
          · exact Or.inl w
          · rw [or_hi q (by omega) c (by omega) _ j1] at j3
            exact Or.inr ⟨by omega, by rw [show s % 64 = j by omega]; exact j2⟩
      · have hTp := tld z2
        rw [show nI 1 <<< (nI p &&& 31) = nI (2 ^ p) from one_shl p (by omega)]
        simp (disch := omega) only [nI_tn, nI_inT, ne_eq, not_false_eq_true, not_true_eq_false, reduceCtorEq, Nat.reduceEqDiff, forall_eq, true_and, and_true, true_implies, forall_const, implies_true, List.mem_cons, List.not_mem_nil, or_false, false_or, or_self, if_true, if_false, reduceIte, Nat.reduceAdd, Nat.reduceMul, Nat.reduceLT, false_implies, Decidable.not_not, bI_eq0, bI_eq1, upd_at, updL_at, Nat.succ_ne_zero, Int32.reduceToNatClampNeg, eq_self, i01, i10]
        refine up _ (f1.uJ (by decide)) (o2 _ _ (by omega)) (by omega) (fun s hse => ?_)
        rw [rb_or (by omega) hse, cr_word (by omega) (by omega)]
        simp only [ad_t hTp]
        constructor
        · rintro (w | ⟨w1, u, u1, u2, u3⟩)
          · exact Or.inl w
          · refine Or.inr ⟨u, u1, u2, ?_⟩
            rw [or_lo p (by omega) c (by omega) u u1]; omega
        · rintro (w | ⟨j, j1, j2, j3⟩)
          · exact Or.inl w
          · rw [or_lo p (by omega) c (by omega) j j1] at j3
            have := or_in p (by omega) j j1
            exact Or.inr ⟨by omega, j, j1, j2, by omega⟩
  refine sX11_hasBit (by omega) (fun hb => main 1 (Or.inr ⟨rfl, ?_⟩)) (fun hb => main 0 (Or.inl ⟨rfl, ?_⟩))
  · rw [bt_nI (by omega)] at hb; exact hb
  · rw [bt_nI (by omega)] at hb; simpa using hb
