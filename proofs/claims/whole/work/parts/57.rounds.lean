/-! THE CLASS'S ROUNDS -/
theorem gSt_lt9 {row : Nat → Int32} (hr : RowOk row) {n a b : Nat} (h : gSt row n a b) (ha : a < 9) : b < 9 := by
  rcases h with e | e
  · omega
  · have := e.2.1; have := hr.1.2.1; omega
theorem sX6_isEndedIn {S : JS} {Q : Int32 → JS → Prop} {n T : Nat} (hs : jSh S) (hT : jI S 35 1 = nI T) (hT2 : T < 512) (hn : n < 60) (h1 : (∃ r, r < 9 ∧ rb S (n * 72 + r * 8) T) → Q 1 S) (h0 : (¬ ∃ r, r < 9 ∧ rb S (n * 72 + r * 8) T) → Q 0 S) : wX6_isEndedIn 35 (nI n) S Q := by
  unfold wX6_isEndedIn wX6_isEndedIn_2
  refine jLoop.cnt 9 (fun c q => q = (35, nI n, nI c, S) ∧ ∀ r, r < c → ¬ rb S (n * 72 + r * 8) T) 0 (by omega) ?_ ⟨rfl, fun r q => absurd q (Nat.not_lt_zero _)⟩
  rintro c _ hc ⟨rfl, hno⟩
  unfold bX6_isEndedIn_2
  simp only
  rw [li_9, nI_le' (by omega) (by omega), hT]
  refine ⟨fun z => h0 (fun ⟨r, r1, r2⟩ => hno r (by omega) r2), fun z => ⟨shA_35 hs, ?_⟩⟩
  refine sX6_isIn hs (by omega) hn hT2 (fun hb => ⟨fun q => absurd q (by decide), fun _ => h1 ⟨c, by omega, hb⟩⟩) (fun hb => ⟨fun _ => nm_r (nI_1 c) ⟨by omega, rfl, fun r hr => ?_⟩, fun q => absurd rfl q⟩)
  rcases Nat.lt_or_ge r c with l | l
  · exact hno r l
  · rw [show r = c by omega]; exact hb
theorem sX6_wordOf0 {S : JS} {Q : Int32 → JS → Prop} {r n : Nat} (h : Q (nI (n * 72 + r * 8)) S) : wX6_wordOf (nI r) (nI n) 0 S Q := by
  unfold wX6_wordOf
  have := wd_eq (n := n) (r := r) (s := 0) (by omega)
  rw [show (0 : Int32) = nI 0 from rfl, this]; exact h
theorem sX6_spread {S : JS} {Q : JS → Prop} {n T : Nat} (hs : jSh S) (hm : MW S) (hT : jI S 35 1 = nI T) (hT2 : T < 512) (hn : n < 59) (hx : ∀ r, r < 9 → slOk (jI S 47) n r (jI S 27 (n * 9 + r))) (he : ∀ p t, p < 9 → t < 512 → ¬ rb S ((n + 1) * 72 + p * 8) t) (h : ∀ S', jFr [36] S S' → (∀ i, (i < (n + 1) * 72 ∨ (n + 2) * 72 ≤ i) → jJ S' 36 i = jJ S 36 i) → (∀ p t, p < 9 → t < 512 → (rb S' ((n + 1) * 72 + p * 8) t ↔ ∃ r u, r < 9 ∧ u < 512 ∧ rb S (n * 72 + r * 8) u ∧ gSt (jI S 47) n r p ∧ t = ad T p u)) → Q S') : wX6_spread 35 23 (nI n) S Q := by
  unfold wX6_spread wX6_spread_2
  refine jLoop.cnt 9 (fun a q => ∃ S', q = (35, 23, nI n, nI a, S') ∧ jFr [36] S S' ∧ (∀ i, (i < (n + 1) * 72 ∨ (n + 2) * 72 ≤ i) → jJ S' 36 i = jJ S 36 i) ∧ (∀ p t, p < 9 → t < 512 → (rb S' ((n + 1) * 72 + p * 8) t ↔ ∃ r u, r < a ∧ u < 512 ∧ rb S (n * 72 + r * 8) u ∧ gSt (jI S 47) n r p ∧ t = ad T p u))) 0 (by omega) ?_ ⟨S, rfl, jFr.refl _ _, fun _ _ => rfl, fun p t hp ht => ⟨fun w => absurd w (he p t hp ht), fun ⟨r, u, w, _⟩ => absurd w (Nat.not_lt_zero _)⟩⟩
  rintro a _ ha ⟨S1, rfl, f1, o1, b1⟩
  have hs1 := f1.sh.mpr hs
  unfold bX6_spread_2
  simp only
  rw [li_9, nI_le' (by omega) (by omega)]
  refine ⟨fun z => ?_, fun z => ⟨shA_23 hs1, ?_⟩⟩
  · have : a = 9 := by omega
    subst this; exact h S1 f1 o1 b1
  refine sX1_steps hs1 (by omega) (by omega) (by rw [f1.I 47 (by decide), f1.I 27 (by decide)]; exact hx a (by omega)) (fun x hx2 => ?_)
  rw [f1.I 47 (by decide)] at hx2
  unfold wX6_spread_12
  refine jLoop.cnt 9 (fun c q => ∃ S', q = (35, 23, nI n, nI a, x, nI c, S') ∧ jFr [36] S S' ∧ (∀ i, (i < (n + 1) * 72 ∨ (n + 2) * 72 ≤ i) → jJ S' 36 i = jJ S 36 i) ∧ (∀ p t, p < 9 → t < 512 → (rb S' ((n + 1) * 72 + p * 8) t ↔ ∃ r u, (r < a ∨ (r = a ∧ p < c)) ∧ u < 512 ∧ rb S (n * 72 + r * 8) u ∧ gSt (jI S 47) n r p ∧ t = ad T p u))) 0 (by omega) ?_ ⟨S1, rfl, f1, o1, fun p t hp ht => (b1 p t hp ht).trans ⟨fun ⟨r, u, w, y⟩ => ⟨r, u, Or.inl w, y⟩, fun ⟨r, u, w, y⟩ => ⟨r, u, by omega, y⟩⟩⟩
  rintro c _ hc ⟨S2, rfl, f2, o2, b2⟩
  have hs2 := f2.sh.mpr hs
  unfold bX6_spread_12 wX6_spread_32
  simp only
  rw [li_9, nI_le' (by omega) (by omega)]
  refine ⟨fun z2 => nm_r (nI_1 a) ⟨by omega, S2, rfl, f2, o2, fun p t hp ht => (b2 p t hp ht).trans ⟨fun ⟨r, u, w, y⟩ => ⟨r, u, by omega, y⟩, fun ⟨r, u, w, y⟩ => ⟨r, u, by omega, y⟩⟩⟩, fun z2 => ?_⟩
  refine sX11_hasBit (by omega) (fun hb => ⟨fun q => absurd q (by decide), fun _ => ?_⟩) (fun hb => ⟨fun _ => nm_r (nI_1 c) ⟨by omega, S2, rfl, f2, o2, fun p t hp ht => (b2 p t hp ht).trans ⟨fun ⟨r, u, w, y⟩ => ⟨r, u, by omega, y⟩, fun ⟨r, u, w, y⟩ => ⟨r, u, ?_, y⟩⟩⟩, fun q => absurd rfl q⟩)
  · have hst := (hx2 c (by omega)).mp hb
    refine sX6_wordOf0 ?_
    rw [nI_1]
    refine sX6_wordOf0 ⟨shA_35 hs2, ?_⟩
    refine sX6_carry (T := T) hs2 (by rw [f2.I 35 (by decide)]; exact hT) hT2 (by omega) (by omega) (by omega) (by omega) (fun S3 f3 o3 b3 => nm_r (nI_1 c) ⟨by omega, S3, rfl, f2.tr f3, fun i hi => ?_, fun p t hp ht => ?_⟩)
    · rw [o3 i (by omega)]; exact o2 i hi
    · by_cases e : p = c
      · subst e
        rw [b3 t ht, b2 p t hp ht]
        have eA : ∀ u, u < 512 → (rb S2 (n * 72 + a * 8) u ↔ rb S (n * 72 + a * 8) u) := fun u hu => rb_fr (fun i q1 q2 => o2 i (by omega)) hu
        constructor
        · rintro (⟨r, u, w, y⟩ | ⟨u, u1, u2, u3⟩)
          · exact ⟨r, u, by omega, y⟩
          · exact ⟨a, u, by omega, u1, (eA u u1).mp u2, hst, u3⟩
        · rintro ⟨r, u, w, y1, y2, y3, y4⟩
          rcases Nat.lt_or_ge r a with l | l
          · exact Or.inl ⟨r, u, Or.inl l, y1, y2, y3, y4⟩
          · have : r = a := by omega
            subst this
            exact Or.inr ⟨u, y1, (eA u y1).mpr y2, y4⟩
      · rw [rb_fr (S := S2) (fun i q1 q2 => o3 i (by omega)) ht, b2 p t hp ht]
        exact ⟨fun ⟨r, u, w, y⟩ => ⟨r, u, by omega, y⟩, fun ⟨r, u, w, y⟩ => ⟨r, u, by omega, y⟩⟩
  · rcases w with w | ⟨w1, w2⟩
    · exact Or.inl w
    · refine Or.inr ⟨w1, ?_⟩
      rcases Nat.lt_or_ge p c with l | l
      · exact l
      · have : p = c := by omega
        subst this; subst w1
        exact absurd ((hx2 p (by omega)).mpr y.2.2.1) hb
theorem sX6_earliest {S : JS} {Q : Int32 → JS → Prop} {n r T : Nat} (hs : jSh S) (hm : MW S) (hT2 : T < 512) (hn : n < 60) (hr : r < gR (jI S 47)) (hx : knS S n 60) (h : ∀ S' v, jFr [35, 36] S S' → rdP (jI S 47) T n r v → Q v S') : wX6_earliest 35 23 (nI r) (nI n) (nI T) S Q := by
  have hR := hm.1.1.2.1
  unfold wX6_earliest
  simp only [shA_35, shR_35_0, shr_35_0, hs, jN_uI, jN_uJ, jN_uR, jK_uI, jK_uJ, jK_uR, jZ_uI, jZ_uJ, jZ_uR, jR_uI, jR_uJ, jr_uI, jr_uJ, jI_uJ, jI_uR, jJ_uI, jJ_uR, jI_uI_eq, jI_uI_ne, jJ_uJ_eq, jJ_uJ_ne, jSh_uI, jSh_uJ, jA_uI, jA_uJ, jA_uR, jI_uIf_eq, jI_uIf_ne, jJ_uIf, jR_uIf, jr_uIf, jZ_uIf, jSh_uIf, jA_uIf, ne_eq, not_false_eq_true, not_true_eq_false, reduceCtorEq, Nat.reduceEqDiff, forall_eq, true_and, and_true, true_implies, forall_const, implies_true, List.mem_cons, List.not_mem_nil, or_false, false_or, or_self, if_true, if_false, reduceIte, Nat.reduceAdd, Nat.reduceMul, Nat.reduceLT, false_implies, Decidable.not_not, bI_eq0, bI_eq1, upd_at, updL_at, Nat.succ_ne_zero, Int32.reduceToNatClampNeg, eq_self, i01, i10]
  have f0 : jFr [35, 36] S (uI S 35 1 (nI T)) := (jFr.refl _ _).uI (by decide)
  have t0 : jI (uI S 35 1 (nI T)) 35 1 = nI T := by simp only [jN_uI, jN_uJ, jN_uR, jK_uI, jK_uJ, jK_uR, jZ_uI, jZ_uJ, jZ_uR, jR_uI, jR_uJ, jr_uI, jr_uJ, jI_uJ, jI_uR, jJ_uI, jJ_uR, jI_uI_eq, jI_uI_ne, jJ_uJ_eq, jJ_uJ_ne, jSh_uI, jSh_uJ, jA_uI, jA_uJ, jA_uR, jI_uIf_eq, jI_uIf_ne, jJ_uIf, jR_uIf, jr_uIf, jZ_uIf, jSh_uIf, jA_uIf, ne_eq, not_false_eq_true, not_true_eq_false, reduceCtorEq, Nat.reduceEqDiff, forall_eq, true_and, and_true, true_implies, forall_const, implies_true, List.mem_cons, List.not_mem_nil, or_false, false_or, or_self, if_true, if_false, reduceIte, Nat.reduceAdd, Nat.reduceMul, Nat.reduceLT, false_implies, Decidable.not_not, bI_eq0, bI_eq1, upd_at, updL_at, Nat.succ_ne_zero, Int32.reduceToNatClampNeg, eq_self, i01, i10]
  generalize uI S 35 1 (nI T) = S0 at f0 t0 ⊢
  have hs0 := f0.sh.mpr hs
  refine sJ7_fillL (shA_36 hs0) (shZ_36 hs0) (by omega) (fun S1 f1 z1 => ?_)
  have f01 : jFr [35, 36] S S1 := f0.tr (f1.mono (by decide))
  have hs1 := f01.sh.mpr hs
  rw [nI_tp (by omega)]
  refine ⟨shA_35 hs1, sX6_put hs1 (by omega) hn (and_lt hT2) (fun S2 f2 b2 => ?_)⟩
  have f02 : jFr [35, 36] S S2 := f01.tr (f2.mono (by decide))
  have t2 : jI S2 35 1 = nI T := by rw [f2.I 35 (by decide), f1.I 35 (by decide)]; exact t0
  unfold wX6_earliest_18
  refine jLoop.cnt (60 - n) (fun k q => ∃ S', q = (35, 23, nI (n + k), S') ∧ jFr [35, 36] S S' ∧ jI S' 35 1 = nI T ∧ (∀ j, j < k → ¬ gEd (jI S 47) T n r j) ∧ (n + k < 60 → ∀ p t, p < 9 → t < 512 → (rb S' ((n + k) * 72 + p * 8) t ↔ gRd (jI S 47) T n r k p t)) ∧ (∀ m p t, n + k < m → m < 60 → p < 9 → t < 512 → ¬ rb S' (m * 72 + p * 8) t)) 0 (by omega) ?_ ⟨S2, rfl, f02, t2, fun j q => absurd q (Nat.not_lt_zero _), fun _ p t hp ht => ?_, fun m p t q1 q2 hp ht w => ?_⟩
  · rintro k _ hk ⟨S3, rfl, f3, t3, no3, b3, e3⟩
    have hs3 := f3.sh.mpr hs
    have hm3 : MW S3 := hm.fr f3 (by decide) (by decide)
    have e47 : jI S3 47 = jI S 47 := f3.I 47 (by decide)
    unfold bX6_earliest_18 wX6_earliest_34
    simp only
    rw [li_60, nI_le' (by omega) (by omega)]
    refine ⟨fun z => h S3 _ f3 (Or.inr ⟨fun j hj => no3 j (by omega), rfl⟩), fun z => ⟨shA_35 hs3, ?_⟩⟩
    have b3 := b3 (by omega)
    refine sX6_isEndedIn hs3 t3 hT2 (by omega) (fun ⟨q, q1, q2⟩ => ⟨fun w => absurd w (by decide), fun _ => h S3 _ f3 (Or.inl ⟨k, ⟨⟨q, (b3 q T q1 hT2).mp q2⟩, no3⟩, by omega, rfl⟩)⟩) (fun hno => ⟨fun _ => ?_, fun w => absurd rfl w⟩)
    have no4 : ∀ j, j < k + 1 → ¬ gEd (jI S 47) T n r j := fun j hj => by
      rcases Nat.lt_or_ge j k with l | l
      · exact no3 j l
      · rw [show j = k by omega]
        rintro ⟨q, q1⟩
        have := (gRd_lt hT2 hr q1).1
        exact hno ⟨q, by omega, (b3 q T (by omega) hT2).mpr q1⟩
    rw [li_59, nI_le' (by omega) (by omega)]
    refine ⟨fun z2 => nm_r (nI_1 (n + k)) ⟨by omega, S3, rfl, f3, t3, no4, fun q => by omega, fun m p t q1 q2 => e3 m p t (by omega) q2⟩, fun z2 => ⟨shA_35 hs3, ?_⟩⟩
    refine sX6_spread hs3 hm3 t3 hT2 (by omega) (fun q hq => by rw [e47, f3.I 27 (by decide)]; exact hx (n + k) q (by omega) (by omega) hq) (fun p t hp ht => e3 (n + k + 1) p t (by omega) (by omega) hp ht) (fun S4 f4 o4 b4 => nm_r (nI_1 (n + k)) ⟨by omega, S4, rfl, f3.tr (f4.mono (by decide)), by rw [f4.I 35 (by decide)]; exact t3, no4, fun _ p t hp ht => ?_, fun m p t q1 q2 hp ht => ?_⟩)
    · have := b4 p t hp ht
      rw [show n + (k + 1) = n + k + 1 by omega, this, e47, gRd]
      constructor
      · rintro ⟨q, u, q1, q2, q3, q4, q5⟩
        have q6 := (b3 q u q1 q2).mp q3
        exact ⟨q, u, (gRd_lt hT2 hr q6).1, q6, q4, q5⟩
      · rintro ⟨q, u, q1, q2, q4, q5⟩
        have q6 := (gRd_lt hT2 hr q2).2
        exact ⟨q, u, by omega, q6, (b3 q u (by omega) q6).mpr q2, q4, q5⟩
    · rw [rb_fr (S := S3) (fun i w1 w2 => o4 i (by omega)) ht]
      exact e3 m p t (by omega) q2 hp ht
  · rw [b2 (n + 0) p t (by omega) hp ht, gRd]
    constructor
    · rintro (w | w)
      · unfold rb at w; rw [z1 _ (by omega), j_0] at w; cases w
      · exact ⟨w.2.1, w.2.2⟩
    · intro w; exact Or.inr ⟨rfl, w.1, w.2⟩
  · rcases (b2 m p t q2 hp ht).mp w with w | w
    · unfold rb at w; rw [z1 _ (by omega), j_0] at w; cases w
    · omega
