/-- the layers, looked back -/
def lbOk (S : JS) (T last m : Nat) : Prop := ∀ n r s, m ≤ n → n ≤ last → r < 9 → s < 512 → (rb S (n * 72 + r * 8) s ↔ gBd (jI S 47) T last (last - n) r s)
theorem sX6_lookBack {S : JS} {Q : JS → Prop} {n0 last T : Nat} (hs : jSh S) (hm : MW S) (hT : jI S 35 1 = nI T) (hT2 : T < 512) (hl : last < 60) (hnl : n0 ≤ last) (hx : knS S n0 60) (h : ∀ S', jFr [36] S S' → lbOk S' T last n0 → Q S') : wX6_lookBack 35 23 (nI n0) (nI last) S Q := by
  unfold wX6_lookBack
  simp only [shA_35, shR_35_0, shr_35_0, hs, ne_eq, not_false_eq_true, not_true_eq_false, reduceCtorEq, Nat.reduceEqDiff, forall_eq, true_and, and_true, true_implies, forall_const, implies_true, List.mem_cons, List.not_mem_nil, or_false, false_or, or_self, if_true, if_false, reduceIte, Nat.reduceAdd, Nat.reduceMul, Nat.reduceLT, false_implies, Decidable.not_not, bI_eq0, bI_eq1, upd_at, updL_at, Nat.succ_ne_zero, Int32.reduceToNatClampNeg, eq_self, i01, i10]
  refine sJ7_fillL (shA_36 hs) (shZ_36 hs) (by omega) (fun S1 f1 z1 => ?_)
  unfold wX6_lookBack_6
  refine jLoop.cnt 9 (fun c q => ∃ S', q = (35, 23, nI n0, nI last, nI c, S') ∧ jFr [36] S S' ∧ (∀ m q t, m < 60 → q < 9 → t < 512 → (rb S' (m * 72 + q * 8) t ↔ m = last ∧ q < c ∧ t = T))) 0 (by omega) ?_ ⟨S1, rfl, f1, fun m q t hm hq ht => ⟨fun w => by (unfold rb at w; rw [z1 _ (by omega), j_0] at w; cases w), fun w => absurd w.2.1 (Nat.not_lt_zero _)⟩⟩
  rintro c _ hc ⟨S2, rfl, f2, b2⟩
  have hs2 := f2.sh.mpr hs
  unfold bX6_lookBack_6
  simp only
  rw [li_9, nI_le' (by omega) (by omega), f2.I 35 (by decide), hT]
  refine ⟨fun z => ?_, fun z => ⟨shA_35 hs2, sX6_put hs2 (by omega) hl hT2 (fun S3 f3 b3 => nm_r (nI_1 c) ⟨by omega, S3, rfl, f2.tr f3, fun m q t hm hq ht => ?_⟩)⟩⟩
  · have : c = 9 := by omega
    subst this
    refine nm_e ?_
    unfold wX6_lookBack_21
    refine jLoop.cnt (last - n0) (fun j q => ∃ S', q = (35, 23, nI n0, nI (last - j) - 1, S') ∧ jFr [36] S S' ∧ lbOk S' T last (last - j) ∧ (∀ m q t, m < last - j → q < 9 → t < 512 → ¬ rb S' (m * 72 + q * 8) t)) 0 (by omega) ?_ ⟨S2, rfl, f2, fun n r s q1 q2 q3 q4 => ?_, fun m q t q1 q2 q3 w => ?_⟩
    · rintro j _ hj ⟨S3, rfl, f3, l3, e3⟩
      obtain ⟨n, hn0⟩ : ∃ n, last - j = n := ⟨_, rfl⟩
      rw [hn0] at l3 e3 ⊢
      unfold bX6_lookBack_21
      simp only
      rcases Nat.lt_or_ge n0 n with l | l
      · obtain ⟨m, rfl⟩ : ∃ m, n = m + 1 := ⟨n - 1, by omega⟩
        have hn1 : last - (j + 1) = m := by omega
        rw [hn1, nI_m1 (by omega), show m + 1 - 1 = m by omega, nI_lt' (by omega) (by omega)]
        refine ⟨fun q => by omega, fun _ => ?_⟩
        unfold wX6_lookBack_26
        refine jLoop.cnt 9 (fun a q => ∃ S', q = (35, 23, nI n0, nI m, nI a, S') ∧ jFr [36] S S' ∧ lbOk S' T last (m + 1) ∧ (∀ n q t, n < m → q < 9 → t < 512 → ¬ rb S' (n * 72 + q * 8) t) ∧ (∀ q t, q < 9 → t < 512 → (rb S' (m * 72 + q * 8) t ↔ q < a ∧ gBd (jI S 47) T last (last - m) q t))) 0 (by omega) ?_ ⟨S3, rfl, f3, l3, fun n q t w => e3 n q t (by omega), fun q t hq ht => ⟨fun w => absurd w (e3 m q t (by omega) hq ht), fun w => absurd w.1 (Nat.not_lt_zero _)⟩⟩
        rintro a _ ha ⟨S4, rfl, f4, l4, e4, b4⟩
        have hs4 := f4.sh.mpr hs
        have e47 : jI S4 47 = jI S 47 := f4.I 47 (by decide)
        unfold bX6_lookBack_26
        simp only
        rw [li_9, nI_le' (by omega) (by omega)]
        refine ⟨fun z2 => nm_r (e' := nI m - 1) (by lia) ⟨by omega, S4, rfl, f4, fun n r s q1 q2 q3 q4 => ?_, fun n q t w => e4 n q t (by omega)⟩, fun z2 => ⟨shA_23 hs4, ?_⟩⟩
        · by_cases e : n = m
          · subst e; rw [e47]; exact (b4 r s q3 q4).trans ⟨fun w => w.2, fun w => ⟨by omega, w⟩⟩
          · exact l4 n r s (by omega) q2 q3 q4
        refine sX1_steps hs4 (by omega) (by omega) (by rw [e47, f4.I 27 (by decide)]; exact hx m a (by omega) (by omega) (by omega)) (fun x hx2 => ?_)
        rw [e47] at hx2
        obtain ⟨k, k1, k2, k3⟩ : ∃ k, last - m = k + 1 ∧ last - (m + 1) = k ∧ last - (k + 1) = m := ⟨last - m - 1, by omega, by omega, by omega⟩
        unfold wX6_lookBack_36
        refine jLoop.cnt 9 (fun c q => ∃ S', q = (35, 23, nI n0, nI m, nI a, x, nI c, S') ∧ jFr [36] S S' ∧ lbOk S' T last (m + 1) ∧ (∀ n q t, n < m → q < 9 → t < 512 → ¬ rb S' (n * 72 + q * 8) t) ∧ (∀ q t, q < 9 → q ≠ a → t < 512 → (rb S' (m * 72 + q * 8) t ↔ q < a ∧ gBd (jI S 47) T last (last - m) q t)) ∧ (∀ t, t < 512 → (rb S' (m * 72 + a * 8) t ↔ ∃ p, p < c ∧ gSt (jI S 47) m a p ∧ gBd (jI S 47) T last k p (ad T p t)))) 0 (by omega) ?_ ⟨S4, rfl, f4, l4, e4, fun q t hq _ ht => b4 q t hq ht, fun t ht => ⟨fun w => absurd ((b4 a t (by omega) ht).mp w).1 (Nat.lt_irrefl _), fun ⟨p, w, _⟩ => absurd w (Nat.not_lt_zero _)⟩⟩
        rintro d _ hd ⟨S5, rfl, f5, l5, e5, b5, g5⟩
        have hs5 := f5.sh.mpr hs
        have e57 : jI S5 47 = jI S 47 := f5.I 47 (by decide)
        unfold bX6_lookBack_36 wX6_lookBack_56
        simp only
        rw [li_9, nI_le' (by omega) (by omega)]
        refine ⟨fun z3 => nm_r (nI_1 a) ⟨by omega, S5, rfl, f5, l5, e5, fun q t hq ht => ?_⟩, fun z3 => ?_⟩
        · by_cases e : q = a
          · subst e
            rw [g5 t ht, k1, gBd, k3]
            exact ⟨fun ⟨p, p1, p2, p3⟩ => ⟨by omega, p, p2, p3⟩, fun ⟨_, p, p2, p3⟩ => ⟨p, by have := gSt_lt9 hm.1 p2 hq; omega, p2, p3⟩⟩
          · rw [b5 q t hq e ht]; exact ⟨fun w => ⟨by omega, w.2⟩, fun w => ⟨by omega, w.2⟩⟩
        refine sX11_hasBit (by omega) (fun hb => ⟨fun q => absurd q (by decide), fun _ => ?_⟩) (fun hb => ⟨fun _ => nm_r (nI_1 d) ⟨by omega, S5, rfl, f5, l5, e5, b5, fun t ht => (g5 t ht).trans ⟨fun ⟨p, w, y⟩ => ⟨p, by omega, y⟩, fun ⟨p, w, y⟩ => ⟨p, ?_, y⟩⟩⟩, fun q => absurd rfl q⟩)
        · have hst := (hx2 d (by omega)).mp hb
          rw [nI_1]
          refine sX6_wordOf0 (sX6_wordOf0 ⟨shA_35 hs5, ?_⟩)
          refine sX6_fetch (T := T) hs5 (by rw [f5.I 35 (by decide)]; exact hT) hT2 (by omega) (by omega) (by omega) (by omega) (fun S6 f6 o6 b6 => nm_r (nI_1 d) ⟨by omega, S6, rfl, f5.tr f6, fun n r s q1 q2 q3 q4 => ?_, fun n q t q1 q2 q3 => ?_, fun q t q1 q2 q3 => ?_, fun t ht => ?_⟩)
          · rw [rb_fr (S := S5) (fun i w1 w2 => o6 i (by omega)) q4, f6.I 47 (by decide)]; exact l5 n r s q1 q2 q3 q4
          · rw [rb_fr (S := S5) (fun i w1 w2 => o6 i (by omega)) q3]; exact e5 n q t q1 q2 q3
          · rw [rb_fr (S := S5) (fun i w1 w2 => o6 i (by omega)) q3]; exact b5 q t q1 q2 q3
          · have hl5 := l5 (m + 1) d (ad T d t) (by omega) (by omega) (by omega) (ad_lt hT2 ht)
            rw [e57, k2] at hl5
            rw [b6 t ht, g5 t ht, hl5]
            constructor
            · rintro (⟨p, p1, p2⟩ | w)
              · exact ⟨p, by omega, p2⟩
              · exact ⟨d, by omega, hst, w⟩
            · rintro ⟨p, p1, p2, p3⟩
              rcases Nat.lt_or_ge p d with y | y
              · exact Or.inl ⟨p, y, p2, p3⟩
              · have : p = d := by omega
                subst this; exact Or.inr p3
        · rcases Nat.lt_or_ge p d with y2 | y2
          · exact y2
          · have : p = d := by omega
            subst this; exact absurd ((hx2 p (by omega)).mpr y.1) hb
      · have : n = n0 := by omega
        subst this
        refine ⟨fun _ => h S3 f3 l3, fun q => absurd ?_ q⟩
        rcases Nat.eq_zero_or_pos n with z | z
        · rw [z]; decide
        · rw [nI_m1 z, nI_lt' (by omega) (by omega)]; omega
    · have : n = last := by omega
      subst this
      rw [b2 n r s (by omega) q3 q4, Nat.sub_self, gBd]
      exact ⟨fun w => w.2.2, fun w => ⟨rfl, q3, w⟩⟩
    · have := (b2 m q t (by omega) q2 q3).mp w; omega
  · rw [b3 m q t hm hq ht, b2 m q t hm hq ht]
    constructor
    · rintro (w | w)
      · exact ⟨w.1, by omega, w.2.2⟩
      · exact ⟨w.1, by omega, w.2.2⟩
    · intro w
      rcases Nat.lt_or_ge q c with l | l
      · exact Or.inl ⟨w.1, l, w.2.2⟩
      · exact Or.inr ⟨w.1, by omega, w.2.2⟩
theorem sX6_firstStep {S : JS} {Q : Int32 → JS → Prop} {n v g p T last : Nat} {x z : Int32} (hs : jSh S) (hT : jI S 35 1 = nI T) (hT2 : T < 512) (hn : n < last) (hl : last < 60) (hg : g < 512) (hx : stOk (jI S 47) n v x) (hb : lbOk S T last (n + 1)) (hp : IsLow (gWn (jI S 47) T last n v g) p) (hp9 : p < 9) (h : Q (nI p) S) : wX6_firstStep 35 x (nI n) (nI g) z S Q := by
  unfold wX6_firstStep wX6_firstStep_2
  refine jLoop.cnt p (fun c q => q = (35, x, nI n, nI g, z, nI c, S)) 0 (by omega) ?_ rfl
  rintro c _ hc rfl
  have skip : ¬ gWn (jI S 47) T last n v g c → c < p := by
    intro w
    rcases Nat.lt_or_ge c p with l | l
    · exact l
    · rw [show c = p by omega] at w; exact absurd hp.1 w
  unfold bX6_firstStep_2 wX6_firstStep_26
  simp only
  rw [li_9, nI_le' (by omega) (by omega)]
  refine ⟨fun q => by omega, fun q => ?_⟩
  refine sX11_hasBit (by omega) (fun hb2 => ⟨fun q => absurd q (by decide), fun _ => ⟨shA_35 hs, ?_⟩⟩) (fun hb2 => ⟨fun _ => nm_r (nI_1 c) ⟨skip (fun w => hb2 ((hx c (by omega)).mpr w.1)), rfl⟩, fun q => absurd rfl q⟩)
  have hst := (hx c (by omega)).mp hb2
  rw [hT, nI_ad (by omega), nI_1]
  have hl5 := hb (n + 1) c (ad T c g) (by omega) (by omega) (by omega) (ad_lt hT2 hg)
  refine sX6_isIn hs (by omega) (by omega) (ad_lt hT2 hg) (fun hb3 => ⟨fun q => absurd q (by decide), fun _ => ?_⟩) (fun hb3 => ⟨fun _ => nm_r (nI_1 c) ⟨skip (fun w => hb3 (hl5.mpr w.2)), rfl⟩, fun q => absurd rfl q⟩)
  rcases Nat.lt_or_ge c p with l | l
  · exact absurd ⟨hst, hl5.mp hb3⟩ (hp.2 c l)
  · rw [show c = p by omega]; exact h
theorem sX6_rockOfWay {S : JS} {Q : Int32 → JS → Prop} {n0 r0 last T i : Nat} (hs : jSh S) (hm : MW S) (hT2 : T < 512) (hl : last < 60) (hi : n0 + i ≤ last) (hr : r0 < gR (jI S 47)) (hx : knS S n0 60) (hb : gBd (jI S 47) T last (last - n0) r0 (T &&& 2 ^ r0)) (h : ∀ S' v g, jFr [35, 36] S S' → gWk (jI S 47) T last n0 r0 i v g → Q (nI v) S') : wX6_rockOfWay 35 23 (nI r0) (nI n0) (nI last) (nI T) (nI i) S Q := by
  have hR := hm.1.1.2.1
  unfold wX6_rockOfWay
  simp only [shA_35, shR_35_0, shr_35_0, hs, jN_uI, jN_uJ, jN_uR, jK_uI, jK_uJ, jK_uR, jZ_uI, jZ_uJ, jZ_uR, jR_uI, jR_uJ, jr_uI, jr_uJ, jI_uJ, jI_uR, jJ_uI, jJ_uR, jI_uI_eq, jI_uI_ne, jJ_uJ_eq, jJ_uJ_ne, jSh_uI, jSh_uJ, jA_uI, jA_uJ, jA_uR, jI_uIf_eq, jI_uIf_ne, jJ_uIf, jR_uIf, jr_uIf, jZ_uIf, jSh_uIf, jA_uIf, ne_eq, not_false_eq_true, not_true_eq_false, reduceCtorEq, Nat.reduceEqDiff, forall_eq, true_and, and_true, true_implies, forall_const, implies_true, List.mem_cons, List.not_mem_nil, or_false, false_or, or_self, if_true, if_false, reduceIte, Nat.reduceAdd, Nat.reduceMul, Nat.reduceLT, false_implies, Decidable.not_not, bI_eq0, bI_eq1, upd_at, updL_at, Nat.succ_ne_zero, Int32.reduceToNatClampNeg, eq_self, i01, i10]
  have f0 : jFr [35, 36] S (uI S 35 1 (nI T)) := (jFr.refl _ _).uI (by decide)
  have t0 : jI (uI S 35 1 (nI T)) 35 1 = nI T := by simp only [jN_uI, jN_uJ, jN_uR, jK_uI, jK_uJ, jK_uR, jZ_uI, jZ_uJ, jZ_uR, jR_uI, jR_uJ, jr_uI, jr_uJ, jI_uJ, jI_uR, jJ_uI, jJ_uR, jI_uI_eq, jI_uI_ne, jJ_uJ_eq, jJ_uJ_ne, jSh_uI, jSh_uJ, jA_uI, jA_uJ, jA_uR, jI_uIf_eq, jI_uIf_ne, jJ_uIf, jR_uIf, jr_uIf, jZ_uIf, jSh_uIf, jA_uIf, ne_eq, not_false_eq_true, not_true_eq_false, reduceCtorEq, Nat.reduceEqDiff, forall_eq, true_and, and_true, true_implies, forall_const, implies_true, List.mem_cons, List.not_mem_nil, or_false, false_or, or_self, if_true, if_false, reduceIte, Nat.reduceAdd, Nat.reduceMul, Nat.reduceLT, false_implies, Decidable.not_not, bI_eq0, bI_eq1, upd_at, updL_at, Nat.succ_ne_zero, Int32.reduceToNatClampNeg, eq_self, i01, i10]
  generalize uI S 35 1 (nI T) = S0 at f0 t0 ⊢
  have hs0 := f0.sh.mpr hs
  have hm0 : MW S0 := hm.fr f0 (by decide) (by decide)
  have e0 : jI S0 47 = jI S 47 := f0.I 47 (by decide)
  have x0 : knS S0 n0 60 := by unfold knS at hx ⊢; rw [e0, f0.I 27 (by decide)]; exact hx
  refine sX6_lookBack hs0 hm0 t0 hT2 hl (by omega) x0 (fun S1 f1 l1 => ?_)
  have f01 : jFr [35, 36] S S1 := f0.tr (f1.mono (by decide))
  have hs1 := f01.sh.mpr hs
  have e1 : jI S1 47 = jI S 47 := f01.I 47 (by decide)
  have t1 : jI S1 35 1 = nI T := by rw [f1.I 35 (by decide)]; exact t0
  simp only [shA_35, shR_35_0, shr_35_0, hs1, t1, ne_eq, not_false_eq_true, not_true_eq_false, reduceCtorEq, Nat.reduceEqDiff, forall_eq, true_and, and_true, true_implies, forall_const, implies_true, List.mem_cons, List.not_mem_nil, or_false, false_or, or_self, if_true, if_false, reduceIte, Nat.reduceAdd, Nat.reduceMul, Nat.reduceLT, false_implies, Decidable.not_not, bI_eq0, bI_eq1, upd_at, updL_at, Nat.succ_ne_zero, Int32.reduceToNatClampNeg, eq_self, i01, i10]
  rw [nI_tp (by omega)]
  unfold wX6_rockOfWay_19
  refine jLoop.cnt i (fun k q => ∃ v g, q = (35, 23, nI n0, nI last, nI i, nI v, nI g, nI (n0 + k), S1) ∧ gWk (jI S 47) T last n0 r0 k v g) 0 (by omega) ?_ ⟨r0, _, rfl, rfl, rfl⟩
  rintro k _ hk ⟨v, g, rfl, w1⟩
  obtain ⟨vR, g5, gb⟩ := gWk_ok hT2 hr (by omega) hb (by omega) w1
  unfold bX6_rockOfWay_19
  simp only
  rw [nI_add, nI_le' (by omega) (by omega), nI_le' (by omega) (by omega)]
  have fin : k = i → Q (nI v) S1 := fun e => h S1 v g f01 (e ▸ w1)
  refine ⟨fun z => fin (by omega), fun z => ⟨fun z2 => by omega, fun z2 => ⟨shA_23 hs1, ?_⟩⟩⟩
  refine sX1_steps hs1 (by omega) (by omega) (by rw [e1, f01.I 27 (by decide)]; exact hx (n0 + k) v (by omega) (by omega) (by omega)) (fun x hx2 => ⟨shA_35 hs1, ?_⟩)
  obtain ⟨p, hp⟩ := gWn_ex (show n0 + k < last by omega) gb
  have pR := gSt_lt hp.1.1 vR
  refine sX6_firstStep hs1 t1 hT2 (show n0 + k < last by omega) hl g5 hx2 (fun n r s q1 => l1 n r s (by omega)) (by rw [e1]; exact hp) (by omega) ?_
  rw [t1, nI_ad (by omega), nI_1]
  exact ⟨shA_35 hs1, nm_e (nm_e ⟨by omega, p, _, rfl, v, g, w1, hp, rfl⟩)⟩
