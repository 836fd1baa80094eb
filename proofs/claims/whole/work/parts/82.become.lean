/-! BECOME -/
theorem sX8_become {S : JS} {Q : JS → Prop} {a a1 a2 a3 b b1 b2 b3 m n : Nat} (qa : T8 S a a1 a2 a3 m) (qb : T8 S b b1 b2 b3 m) (hd : ∀ x ∈ [b, b1, b2, b3], x ∉ [a, a1, a2, a3]) (hb : jI S b 3 = nI n) (hn : n ≤ m) (h : ∀ S', jFr [a, a1, a2, a3] S S' → jI S' a 3 = nI n → (∀ i, i < n → jI S' a1 i = jI S b1 i ∧ jI S' a2 i = jI S b2 i ∧ jI S' a3 i = jI S b3 i) → Q S') : wX8_become a b S Q := by
  obtain ⟨A, _, _, _, ⟨d1, d2, d3, d4, d5, d6⟩, hm⟩ := id qa
  have hb0 := hd b (by simp)
  have hb1 := hd b1 (by simp)
  have hb2 := hd b2 (by simp)
  have hb3 := hd b3 (by simp)
  unfold wX8_become wX8_become_5
  refine ⟨A, fun S2 e2 => ?_⟩
  have g2 : jFr [a, a1, a2, a3] S S2 := by rw [e2]; exact (jFr.refl _ _).uI (by simp)
  have i2 : jI S2 a 3 = nI 0 := by rw [e2, jI_uI_eq]; rfl
  refine jLoop.cnt n (fun c q => ∃ S', q = (a, b, nI c, S') ∧ jFr [a, a1, a2, a3] S S' ∧ jI S' a 3 = nI c ∧ ∀ i, i < c → jI S' a1 i = jI S b1 i ∧ jI S' a2 i = jI S b2 i ∧ jI S' a3 i = jI S b3 i) 0 (by omega) ?_ ⟨S2, rfl, g2, i2, fun i hi => absurd hi (Nat.not_lt_zero _)⟩
  rintro c _ hc ⟨S1, rfl, f1, i1, e1⟩
  obtain ⟨B, ⟨r1, r2, r3⟩, ⟨B1, B2, B3⟩, ⟨z1, z2, z3⟩, _, _⟩ := qb.fr f1
  have q1 := qa.fr f1
  unfold bX8_become_5
  simp only [B, r1, r2, r3, jr_of r1, jr_of r2, jr_of r3, B1, B2, B3, z1, z2, z3, f1.I b hb0, f1.I b1 hb1, f1.I b2 hb2, f1.I b3 hb3, hb, q1.1, ne_eq, not_false_eq_true, not_true_eq_false, reduceCtorEq, Nat.reduceEqDiff, forall_eq, true_and, and_true, true_implies, forall_const, implies_true, List.mem_cons, List.not_mem_nil, or_false, false_or, or_self, if_true, if_false, reduceIte, Nat.reduceAdd, Nat.reduceMul, Nat.reduceLT, false_implies, Decidable.not_not, bI_eq0, bI_eq1, upd_at, updL_at, Nat.succ_ne_zero, Int32.reduceToNatClampNeg, eq_self, i01, i10]
  rw [nI_le' (by omega) (by omega), nI_tn (by omega)]
  refine ⟨fun z => ?_, fun z => ⟨nI_in2 (by omega) (by omega), nI_in2 (by omega) (by omega), nI_in2 (by omega) (by omega), ?_⟩⟩
  · have : c = n := by omega
    subst this
    exact h S1 f1 i1 e1
  · refine sX8_put q1 i1 (by omega) ?_
    rw [nI_1]
    refine ⟨by omega, _, rfl, (((f1.uI (by simp)).uI (by simp)).uI (by simp)).uI (by simp), by rw [jI_uI_eq]; rfl, fun i hi => ?_⟩
    simp only [jI_uI_ne d1.symm, jI_uI_ne d2.symm, jI_uI_ne d3.symm, jI_uI_ne d4, jI_uI_ne d5, jI_uI_ne d6, jI_uI_ne d4.symm, jI_uI_ne d5.symm, jI_uI_ne d6.symm, jI_uI_eq, upd_at]
    by_cases e : i = c
    · subst e; simp
    · rw [if_neg e, if_neg e, if_neg e]; exact e1 i (by omega)
theorem WS.T8w {S : JS} {w : Nat} (q : WS S w) : T8 S (w + 1) (w + 2) (w + 3) (w + 4) 4 := ⟨(q.A (j := 1) (k := 8) (z := 4) (by decide)).1, ⟨q.R (by decide), q.R (by decide), q.R (by decide)⟩, ⟨(q.A (j := 2) (k := 13) (z := 4) (by decide)).1, (q.A (j := 3) (k := 13) (z := 4) (by decide)).1, (q.A (j := 4) (k := 13) (z := 4) (by decide)).1⟩, ⟨(q.A (j := 2) (k := 13) (z := 4) (by decide)).2, (q.A (j := 3) (k := 13) (z := 4) (by decide)).2, (q.A (j := 4) (k := 13) (z := 4) (by decide)).2⟩, by omega, by omega⟩
theorem WS.T8q {S : JS} {w : Nat} (q : WS S w) : T8 S (w + 5) (w + 6) (w + 7) (w + 8) 16 := ⟨(q.A (j := 5) (k := 8) (z := 4) (by decide)).1, ⟨q.R (by decide), q.R (by decide), q.R (by decide)⟩, ⟨(q.A (j := 6) (k := 13) (z := 16) (by decide)).1, (q.A (j := 7) (k := 13) (z := 16) (by decide)).1, (q.A (j := 8) (k := 13) (z := 16) (by decide)).1⟩, ⟨(q.A (j := 6) (k := 13) (z := 16) (by decide)).2, (q.A (j := 7) (k := 13) (z := 16) (by decide)).2, (q.A (j := 8) (k := 13) (z := 16) (by decide)).2⟩, by omega, by omega⟩
theorem jK_uIf {S : JS} {h : Nat} {f : Nat → Int32} : jK (uIf S h f) = jK S := rfl
theorem bc_end {T : JS} {Q : JS → Prop} {X7 : Nat → Nat → Int32 → JS → Prop} {w v : Nat} (hd : v + 12 ≤ w ∨ w + 12 ≤ v) (qw : WS T w) (qv : WS T v) (h : ∀ Y, (jN Y = jN T ∧ jK Y = jK T ∧ jZ Y = jZ T ∧ jJ Y = jJ T ∧ jR Y = jR T) → (∀ g, g ≠ w → g ≠ w + 10 → g ≠ w + 11 → jI Y g = jI T g) → jI Y w = upd (upd (upd (jI T w) 7 (jI T v 7)) 8 (jI T v 8)) 10 (jI T v 10) → (∀ k, k < 60 → jI Y (w + 10) k = jI T (v + 10) k) → (∀ k, k < 12 → jI Y (w + 11) k = jI T (v + 11) k) → Q Y) : bX9_become_28 X7 w v (nI 6) T Q := by
  have Tw9 : jR T w 9 = some (w + 10) := qw.R (j := 0) (k := 9) (z := 10) (by decide)
  have Twb : jR T w 11 = some (w + 11) := qw.R (j := 0) (k := 11) (z := 11) (by decide)
  have Tv9 : jR T v 9 = some (v + 10) := qv.R (j := 0) (k := 9) (z := 10) (by decide)
  have Tvb : jR T v 11 = some (v + 11) := qv.R (j := 0) (k := 11) (z := 11) (by decide)
  have Aw : jA T w 9 := (qw.A (j := 0) (k := 9) (z := 12) (by decide)).1
  have Av : jA T v 9 := (qv.A (j := 0) (k := 9) (z := 12) (by decide)).1
  have A10 := (qw.A (j := 10) (k := 13) (z := 60) (by decide))
  have B10 := (qv.A (j := 10) (k := 13) (z := 60) (by decide))
  have A11 := (qw.A (j := 11) (k := 13) (z := 12) (by decide))
  have B11 := (qv.A (j := 11) (k := 13) (z := 12) (by decide))
  have vw : v ≠ w := by omega
  have vw10 : v ≠ w + 10 := by omega
  have tn60 : (60 : Int32).toNatClampNeg = 60 := rfl
  have tn12 : (12 : Int32).toNatClampNeg = 12 := rfl
  have tn0 : (0 : Int32).toNatClampNeg = 0 := rfl
  have g1 : ¬ (0 : Int32) < 0 := by decide
  have g2 : ¬ (60 : Int32) < 0 := by decide
  have g3 : ¬ (12 : Int32) < 0 := by decide
  unfold bX9_become_28
  refine ⟨fun _ => ?_, fun z => absurd (by decide) z⟩
  simp only [jr_of Tw9, jr_of Tv9, jr_of Twb, jr_of Tvb, Tw9, Tv9, Twb, Tvb, jA_uI, jA_uIf, jR_uI, jR_uIf, jr_uI, jr_uIf, jZ_uI, jZ_uIf, Aw, Av, A10.1, B10.1, A11.1, B11.1, A10.2, B10.2, A11.2, B11.2, tn60, tn12, tn0, jI_uI_ne vw, jI_uIf_ne vw10, g1, g2, g3, Nat.le_refl, Nat.zero_add, ne_eq, not_false_eq_true, not_true_eq_false, reduceCtorEq, Nat.reduceEqDiff, forall_eq, true_and, and_true, true_implies, forall_const, implies_true, List.mem_cons, List.not_mem_nil, or_false, false_or, or_self, if_true, if_false, reduceIte, Nat.reduceAdd, Nat.reduceMul, Nat.reduceLT, false_implies, Decidable.not_not, bI_eq0, bI_eq1, upd_at, updL_at, Nat.succ_ne_zero, Int32.reduceToNatClampNeg, eq_self, i01, i10]
  generalize jI T v 7 = r3 at h ⊢
  generalize jI T v 8 = r4 at h ⊢
  generalize jI T v 10 = r7 at h ⊢
  generalize eU : uI (uI T w 7 r3) w 8 r4 = U
  have uI' : ∀ g, g ≠ w → jI U g = jI T g := fun g hg => by rw [← eU, jI_uI_ne hg, jI_uI_ne hg]
  have uw : jI U w = upd (upd (jI T w) 7 r3) 8 r4 := by rw [← eU]; simp only [jI_uI_eq]
  have uO : jN U = jN T ∧ jK U = jK T ∧ jZ U = jZ T ∧ jJ U = jJ T ∧ jR U = jR T := by rw [← eU, jN_uI, jN_uI, jK_uI, jK_uI, jZ_uI, jZ_uI, jJ_uI, jJ_uI, jR_uI, jR_uI]; exact ⟨rfl, rfl, rfl, rfl, rfl⟩
  generalize eV : uI (uIf U (w + 10) (va_cpy (jI U (v + 10)) (jI U (w + 10)) 0 0 60)) w 10 r7 = V
  have v10 : ∀ k, k < 60 → jI V (w + 10) k = jI U (v + 10) k := fun k hk => by
    rw [← eV, jI_uI_ne (by omega), jI_uIf_eq, va_cpy, if_pos (by omega), Nat.zero_add, Nat.sub_zero]
  have vI : ∀ g, g ≠ w → g ≠ w + 10 → jI V g = jI U g := fun g hg hg2 => by rw [← eV, jI_uI_ne hg, jI_uIf_ne hg2]
  have vw' : jI V w = upd (jI U w) 10 r7 := by rw [← eV, jI_uI_eq, jI_uIf_ne (by omega)]
  have vO : jN V = jN U ∧ jK V = jK U ∧ jZ V = jZ U ∧ jJ V = jJ U ∧ jR V = jR U := by rw [← eV, jN_uI, jN_uIf, jK_uI, jK_uIf, jZ_uI, jZ_uIf, jJ_uI, jJ_uIf, jR_uI, jR_uIf]; exact ⟨rfl, rfl, rfl, rfl, rfl⟩
  generalize eX : uIf V (w + 11) (va_cpy (jI V (v + 11)) (jI V (w + 11)) 0 0 12) = X
  have x11 : ∀ k, k < 12 → jI X (w + 11) k = jI V (v + 11) k := fun k hk => by
    rw [← eX, jI_uIf_eq, va_cpy, if_pos (by omega), Nat.zero_add, Nat.sub_zero]
  have xI : ∀ g, g ≠ w + 11 → jI X g = jI V g := fun g hg => by rw [← eX, jI_uIf_ne hg]
  have xO : jN X = jN V ∧ jK X = jK V ∧ jZ X = jZ V ∧ jJ X = jJ V ∧ jR X = jR V := by rw [← eX, jN_uIf, jK_uIf, jZ_uIf, jJ_uIf, jR_uIf]; exact ⟨rfl, rfl, rfl, rfl, rfl⟩
  obtain ⟨u1, u2, u3, u4, u5⟩ := uO
  obtain ⟨v1, v2, v3, v4, v5⟩ := vO
  obtain ⟨x1, x2, x3, x4, x5⟩ := xO
  refine h X ⟨by rw [x1, v1, u1], by rw [x2, v2, u2], by rw [x3, v3, u3], by rw [x4, v4, u4], by rw [x5, v5, u5]⟩ (fun g h1 h2 h3 => by rw [xI g h3, vI g h1 h2, uI' g h1]) (by rw [xI w (by omega), vw', uw]) (fun k hk => by rw [xI _ (by omega), v10 k hk, uI' _ (by omega)]) (fun k hk => by rw [x11 k hk, vI _ (by omega) (by omega), uI' _ (by omega)])
theorem sX9_become {S : JS} {Q : JS → Prop} {w v : Nat} {row : Nat → Int32} (qw : WS S w) (qv : WS S v) (hd : v + 12 ≤ w ∨ w + 12 ≤ v) (hr : RowOk row) (hW : WRw S v row) (hG : ∀ i h, jR S (v + 9) i = some h → LawB S h) (h : ∀ S', jEx (fun h => w ≤ h ∧ h < w + 12) (fun h => h = w + 9) S S' → jN S' = jN S → (∀ i, i < 6 → jR S' (w + 9) i = jR S (v + 9) i) → (∀ i, 6 ≤ i → jR S' (w + 9) i = jR S (w + 9) i) → WRw S' w row → Q S') : wX9_become w v S Q := by
  obtain ⟨⟨b1, b2, b3, b4, b5, b6⟩, ⟨c1, c2⟩, ⟨d1, d2⟩, ⟨e1, e2⟩, hl, ht, hg⟩ := hW
  obtain ⟨n, n1, n2, _⟩ := hr.2.2.2.2.1
  obtain ⟨m, m1, m2, _⟩ := hr.2.2.2.2.2.1
  have Aw : jA S w 9 := (qw.A (j := 0) (k := 9) (z := 12) (by decide)).1
  have Av : jA S v 9 := (qv.A (j := 0) (k := 9) (z := 12) (by decide)).1
  have vw : v ≠ w := by omega
  have Rw4 : jR S w 4 = some (w + 1) := qw.R (j := 0) (k := 4) (z := 1) (by decide)
  have Rw5 : jR S w 5 = some (w + 5) := qw.R (j := 0) (k := 5) (z := 5) (by decide)
  have Rw6 : jR S w 6 = some (w + 9) := qw.R (j := 0) (k := 6) (z := 9) (by decide)
  have Rw9 : jR S w 9 = some (w + 10) := qw.R (j := 0) (k := 9) (z := 10) (by decide)
  have Rwb : jR S w 11 = some (w + 11) := qw.R (j := 0) (k := 11) (z := 11) (by decide)
  have Rv4 : jR S v 4 = some (v + 1) := qv.R (j := 0) (k := 4) (z := 1) (by decide)
  have Rv5 : jR S v 5 = some (v + 5) := qv.R (j := 0) (k := 5) (z := 5) (by decide)
  have Rv6 : jR S v 6 = some (v + 9) := qv.R (j := 0) (k := 6) (z := 9) (by decide)
  have Rv9 : jR S v 9 = some (v + 10) := qv.R (j := 0) (k := 9) (z := 10) (by decide)
  have Rvb : jR S v 11 = some (v + 11) := qv.R (j := 0) (k := 11) (z := 11) (by decide)
  unfold wX9_become
  refine ⟨Av, Aw, fun S3 e3 => ⟨by rw [e3]; exact Av, by rw [e3]; exact Aw, fun S6 e6 => ⟨by rw [e6, e3]; exact Av, by rw [e6, e3]; exact Aw, fun S9 e9 => ⟨by rw [e9, e6, e3]; exact Av, by rw [e9, e6, e3]; exact Aw, fun S12 e12 => ?_⟩⟩⟩⟩
  have g12 : jFr [w] S S12 := by rw [e12, e9, e6, e3]; exact ((((jFr.refl _ _).uI (by simp)).uI (by simp)).uI (by simp)).uJ (by simp)
  have i12 : jI S12 w = upd (upd (upd (jI S w) 0 (row 0)) 1 (row 1)) 2 (row 2) ∧ jJ S12 w 3 = jJ S v 3 := by
    rw [e12, e9, e6, e3]
    simp only [jI_uJ, jJ_uI, jJ_uJ_eq, updL_at, if_pos, jI_uI_eq, jI_uI_ne vw, b1, b2, b3]
    exact ⟨trivial, trivial⟩
  clear e12 e9 e6 e3 S9 S6 S3
  have qw12 := qw.fr g12
  have qv12 := qv.fr g12
  have nv : ∀ j, j < 12 → v + j ∉ [w] := fun j hj => by simp only [List.mem_cons, List.not_mem_nil, or_false]; omega
  refine ⟨(g12.A _ _).mpr Aw, by rw [g12.R, Rw4]; simp, (g12.A _ _).mpr Av, by rw [g12.R, Rv4]; simp, ?_⟩
  rw [g12.r, jr_of Rw4, jr_of Rv4]
  refine ⟨qw12.T8w.1, sX8_become (n := n) qw12.T8w qv12.T8w (fun x hx => ?_) (by rw [g12.I _ (nv 1 (by omega)), d1, n2]) n1 (fun S17 f17 i17 j17 => ?_)⟩
  · simp only [List.mem_cons, List.not_mem_nil, or_false] at hx ⊢; omega
  have qw17 := qw12.fr f17
  have qv17 := qv12.fr f17
  refine ⟨(f17.A _ _).mpr ((g12.A _ _).mpr Aw), by rw [f17.R, g12.R, Rw5]; simp, (f17.A _ _).mpr ((g12.A _ _).mpr Av), by rw [f17.R, g12.R, Rv5]; simp, ?_⟩
  rw [f17.r, g12.r, jr_of Rw5, jr_of Rv5]
  refine ⟨qw17.T8q.1, sX8_become (n := m) qw17.T8q qv17.T8q (fun x hx => ?_) (by rw [f17.I _ (by simp only [List.mem_cons, List.not_mem_nil, or_false]; omega), g12.I _ (nv 5 (by omega)), e1, m2]) m1 (fun S24 f24 i24 j24 => ?_)⟩
  · simp only [List.mem_cons, List.not_mem_nil, or_false] at hx ⊢; omega
  -- gathered so far
  have gS : jFr [w, w + 1, w + 2, w + 3, w + 4, w + 5, w + 6, w + 7, w + 8] S S24 := ((g12.mono (by simp)).tr (f17.mono (by simp))).tr (f24.mono (by simp))
  have ws : ∀ x, w ≤ x → x < w + 9 → x ∈ [w, w + 1, w + 2, w + 3, w + 4, w + 5, w + 6, w + 7, w + 8] := fun x h1 h2 => by
    simp only [List.mem_cons, List.not_mem_nil, or_false]; omega
  have wn : ∀ x, x < w ∨ w + 9 ≤ x → x ∉ [w, w + 1, w + 2, w + 3, w + 4, w + 5, w + 6, w + 7, w + 8] := fun x h1 => by
    simp only [List.mem_cons, List.not_mem_nil, or_false]; omega
  have iw : jI S24 w = upd (upd (upd (jI S w) 0 (row 0)) 1 (row 1)) 2 (row 2) ∧ jJ S24 w 3 = jJ S v 3 := by
    rw [f24.I w (by simp), f17.I w (by simp), f24.J w (by simp), f17.J w (by simp)]; exact i12
  have iwd : jI S24 (w + 1) 3 = row 5 ∧ ∀ i, i < n → jI S24 (w + 2) i = row (68 + 3 * i) ∧ jI S24 (w + 3) i = row (68 + 3 * i + 1) ∧ jI S24 (w + 4) i = row (68 + 3 * i + 2) := by
    rw [f24.I (w + 1) (by simp), f24.I (w + 2) (by simp), f24.I (w + 3) (by simp), f24.I (w + 4) (by simp), n2]
    refine ⟨i17, fun i hi => ?_⟩
    obtain ⟨u1, u2, u3⟩ := j17 i hi
    rw [u1, u2, u3, g12.I _ (nv 2 (by omega)), g12.I _ (nv 3 (by omega)), g12.I _ (nv 4 (by omega))]
    exact d2 i (by rw [n2, nI_tn (by omega)]; exact hi)
  have iwq : jI S24 (w + 5) 3 = row 6 ∧ ∀ i, i < m → jI S24 (w + 6) i = row (140 + 3 * i) ∧ jI S24 (w + 7) i = row (140 + 3 * i + 1) ∧ jI S24 (w + 8) i = row (140 + 3 * i + 2) := by
    rw [m2]
    refine ⟨i24, fun i hi => ?_⟩
    obtain ⟨u1, u2, u3⟩ := j24 i hi
    rw [u1, u2, u3, f17.I _ (by simp only [List.mem_cons, List.not_mem_nil, or_false]; omega), f17.I _ (by simp only [List.mem_cons, List.not_mem_nil, or_false]; omega), f17.I _ (by simp only [List.mem_cons, List.not_mem_nil, or_false]; omega), g12.I _ (nv 6 (by omega)), g12.I _ (nv 7 (by omega)), g12.I _ (nv 8 (by omega))]
    exact e2 i (by rw [m2, nI_tn (by omega)]; exact hi)
  clear f17 f24 g12 i12 i17 j17 i24 j24 qw12 qv12 qw17 qv17 nv
  have qw24 := qw.fr gS
  have qv24 := qv.fr gS
  have A9 := (qw24.A (j := 9) (k := 16) (z := 6) (by decide))
  have B9 := (qv24.A (j := 9) (k := 16) (z := 6) (by decide))
  have A10 := (qw24.A (j := 10) (k := 13) (z := 60) (by decide))
  have B10 := (qv24.A (j := 10) (k := 13) (z := 60) (by decide))
  have A11 := (qw24.A (j := 11) (k := 13) (z := 12) (by decide))
  have B11 := (qv24.A (j := 11) (k := 13) (z := 12) (by decide))
  have Aw24 : jA S24 w 9 := (gS.A _ _).mpr Aw
  have Av24 : jA S24 v 9 := (gS.A _ _).mpr Av
  -- the laws
  unfold wX9_become_28
  refine jLoop.cnt 6 (fun c q => ∃ S', q = (w, v, nI c, S') ∧ (jN S' = jN S24 ∧ jK S' = jK S24 ∧ jZ S' = jZ S24 ∧ jI S' = jI S24 ∧ jJ S' = jJ S24) ∧ (∀ g, g ≠ w + 9 → jR S' g = jR S24 g) ∧ ∀ i, jR S' (w + 9) i = if i < c then jR S24 (v + 9) i else jR S24 (w + 9) i) 0 (by omega) ?_ ⟨S24, rfl, ⟨rfl, rfl, rfl, rfl, rfl⟩, fun _ _ => rfl, fun i => by rw [if_neg (Nat.not_lt_zero _)]⟩
  rintro c _ hc ⟨T, rfl, ⟨tN, tK, tZ, tI, tJ⟩, tR, t9⟩
  have tA : ∀ {x k}, jA S24 x k → jA T x k := fun q => by unfold jA; rw [tN, tK]; exact q
  have tR' : ∀ g, g ≠ w + 9 → jR T g = jR S g := fun g hg => by rw [tR g hg, gS.R]
  have Tw6 : jR T w 6 = some (w + 9) := by rw [tR' _ (by omega)]; exact Rw6
  have Tv6 : jR T v 6 = some (v + 9) := by rw [tR' _ (by omega)]; exact Rv6
  have Tw9 : jR T w 9 = some (w + 10) := by rw [tR' _ (by omega)]; exact Rw9
  have Tv9 : jR T v 9 = some (v + 10) := by rw [tR' _ (by omega)]; exact Rv9
  have Twb : jR T w 11 = some (w + 11) := by rw [tR' _ (by omega)]; exact Rwb
  have Tvb : jR T v 11 = some (v + 11) := by rw [tR' _ (by omega)]; exact Rvb
  rcases Nat.lt_or_ge c 6 with z | z
  rotate_left
  · have : c = 6 := by omega
    subst this
    have qwT : WS T w := by
      have fT : jEx (fun _ => False) (fun h => h = w + 9) S24 T := ⟨by rw [tN]; exact Nat.le_refl _, fun g _ => ⟨⟨by rw [tK], by rw [tZ]⟩, fun _ => ⟨by rw [tI], by rw [tJ]⟩, fun hn => tR g hn⟩⟩
      exact qw24.ex fT (fun j _ h9 => by omega)
    have qvT : WS T v := by
      have fT : jEx (fun _ => False) (fun h => h = w + 9) S24 T := ⟨by rw [tN]; exact Nat.le_refl _, fun g _ => ⟨⟨by rw [tK], by rw [tZ]⟩, fun _ => ⟨by rw [tI], by rw [tJ]⟩, fun hn => tR g hn⟩⟩
      exact qv24.ex fT (fun j _ h9 => by omega)
    have T7 : jI T v 7 = row 3 := by rw [tI, gS.I v (wn v (by omega))]; exact b4
    have T8' : jI T v 8 = row 4 := by rw [tI, gS.I v (wn v (by omega))]; exact b5
    have T10 : jI T v 10 = row 7 := by rw [tI, gS.I v (wn v (by omega))]; exact b6
    refine bc_end hd qwT qvT (fun X xO xI xw x10 x11 => ?_)
    rw [T7, T8', T10] at xw
    obtain ⟨xN, xK, xZ, xJ, xR⟩ := xO
    have off : ∀ g, g < w ∨ w + 12 ≤ g → jI X g = jI S g := fun g hg => by
      rw [xI g (by omega) (by omega) (by omega), tI, gS.I g (wn g (by omega))]
    have mid : ∀ j, 0 < j → j < 9 → jI X (w + j) = jI S24 (w + j) := fun j h1 h2 => by
      rw [xI _ (by omega) (by omega) (by omega), tI]
    rw [tI] at xw
    have ex : jEx (fun h => w ≤ h ∧ h < w + 12) (fun h => h = w + 9) S X := by
      refine ⟨by rw [xN, tN, gS.N]; exact Nat.le_refl _, fun g hg => ⟨⟨by rw [xK, tK, gS.K], by rw [xZ, tZ, gS.Z]⟩, fun hn => ⟨off g (by omega), ?_⟩, fun hn => ?_⟩⟩
      · rw [xJ, tJ, gS.J g (wn g (by omega))]
      · rw [xR, tR g hn, gS.R]
    refine h X ex (by rw [xN, tN, gS.N]) (fun i hi => by rw [xR, t9, if_pos hi, gS.R]) (fun i hi => by rw [xR, t9, if_neg (by omega), gS.R]) ⟨⟨?_, ?_, ?_, ?_, ?_, ?_⟩, ⟨?_, ?_⟩, ⟨?_, fun i hi => ?_⟩, ⟨?_, fun i hi => ?_⟩, fun i hi => ?_, fun k hk => ?_, fun k hk => ?_⟩
    · rw [xw, iw.1]; rfl
    · rw [xw, iw.1]; rfl
    · rw [xw, iw.1]; rfl
    · rw [xw, iw.1]; rfl
    · rw [xw, iw.1]; rfl
    · rw [xw, iw.1]; rfl
    · rw [xJ, tJ, iw.2]; exact c1
    · rw [xJ, tJ, iw.2]; exact c2
    · rw [mid 1 (by omega) (by omega)]; exact iwd.1
    · rw [n2, nI_tn (by omega)] at hi
      rw [mid 2 (by omega) (by omega), mid 3 (by omega) (by omega), mid 4 (by omega) (by omega)]; exact iwd.2 i hi
    · rw [mid 5 (by omega) (by omega)]; exact iwq.1
    · rw [m2, nI_tn (by omega)] at hi
      rw [mid 6 (by omega) (by omega), mid 7 (by omega) (by omega), mid 8 (by omega) (by omega)]; exact iwq.2 i hi
    · obtain ⟨g, g1, g2⟩ := hl i hi
      obtain ⟨l, l1, l2, _⟩ := hr.2.2.2.1
      rw [l2, nI_tn (by omega)] at hi
      have hB := hG i g g1
      refine ⟨g, by rw [xR, t9, if_pos (by omega), gS.R]; exact g1, g2.ex ex hB ?_ (fun j hj => ?_)⟩
      · have := hB.off qw; omega
      · have := hB.off qw; omega
    · rw [x10 k hk, tI, gS.I (v + 10) (wn (v + 10) (by omega))]; exact ht k hk
    · rw [x11 k hk, tI, gS.I (v + 11) (wn (v + 11) (by omega))]; exact hg k hk
  · unfold bX9_become_28
    refine ⟨fun y => by rw [li_6, nI_le' (by omega) (by omega)] at y; omega, fun _ => ?_⟩
    have z9 : jZ T (w + 9) = 6 := by rw [tZ]; exact A9.2
    have y9 : jZ T (v + 9) = 6 := by rw [tZ]; exact B9.2
    have nx : ∀ o, o = jR S24 (v + 9) c → (c < 6 ∧ ∃ S', (w, v, nI (c + 1), uR T (w + 9) c o) = (w, v, nI (c + 1), S') ∧ (jN S' = jN S24 ∧ jK S' = jK S24 ∧ jZ S' = jZ S24 ∧ jI S' = jI S24 ∧ jJ S' = jJ S24) ∧ (∀ g, g ≠ w + 9 → jR S' g = jR S24 g) ∧ ∀ i, jR S' (w + 9) i = if i < c + 1 then jR S24 (v + 9) i else jR S24 (w + 9) i) := by
      intro o ho
      refine ⟨by omega, _, rfl, ⟨tN, tK, tZ, tI, tJ⟩, fun g hg => by rw [jR_uR_ne hg]; exact tR g hg, fun i => ?_⟩
      rw [jR_uR_eq, va_up]
      by_cases e : i = c
      · subst e; rw [if_pos rfl, if_pos (by omega), ho]
      · rw [if_neg e, t9]
        have : i < c + 1 ↔ i < c := by omega
        simp only [this]
    have tv : jR T (v + 9) = jR S24 (v + 9) := tR _ (by omega)
    simp only [Tw6, Tv6, jr_of Tw6, jr_of Tv6, tA Aw24, tA Av24, tA A9.1, tA B9.1, z9, y9, nI_1, ne_eq, not_false_eq_true, not_true_eq_false, reduceCtorEq, Nat.reduceEqDiff, forall_eq, true_and, and_true, true_implies, forall_const, implies_true, List.mem_cons, List.not_mem_nil, or_false, false_or, or_self, if_true, if_false, reduceIte, Nat.reduceAdd, Nat.reduceMul, Nat.reduceLT, false_implies, Decidable.not_not, bI_eq0, bI_eq1, upd_at, updL_at, Nat.succ_ne_zero, Int32.reduceToNatClampNeg, eq_self, i01, i10]
    rw [nI_tn (by omega)]
    refine ⟨nI_in2 (by omega) (by omega), fun e => ⟨nI_in2 (by omega) (by omega), nx _ (by rw [← tv, e])⟩, fun e => ?_⟩
    cases eo : jR T (v + 9) c with
    | none => exact absurd eo e
    | some g =>
      rw [jr_of eo]
      have hB := hG c g (by rw [tv, gS.R] at eo; exact eo)
      refine ⟨tA ⟨by rw [gS.N]; have := hB.1; omega, by rw [gS.K]; exact hB.2.1⟩, nI_in2 (by omega) (by omega), nx _ (by rw [← tv, eo])⟩
