/-! THE WORLD IN NINE PARTS, and what a change of one leaves -/
def pR (S : JS) (row : Nat → Int32) : Prop := (1 ≤ gR row ∧ gR row ≤ 9 ∧ row 0 = nI (gR row)) ∧ jI S 1 0 = row 0
def pM (S : JS) (row : Nat → Int32) : Prop := (∃ m, m ≤ 9 ∧ row 1 = nI m) ∧ jI S 1 1 = row 1
def pU (S : JS) (row : Nat → Int32) : Prop := (∃ s, 1 ≤ s ∧ s ≤ 100 ∧ row 2 = nI s) ∧ jI S 1 2 = row 2
def pL (S : JS) (row : Nat → Int32) : Prop := (∃ l, l ≤ 6 ∧ row 3 = nI l ∧ (row 4 = -1 ∨ ∃ j, j < l ∧ row 4 = nI j)) ∧ jI S 1 7 = row 3 ∧ jI S 1 8 = row 4 ∧ ∀ i, i < (row 3).toNatClampNeg → ∃ h, jR S 10 i = some h ∧ LawR S h row (200 + 900 * i)
def pW (S : JS) (row : Nat → Int32) : Prop := (∃ w, w ≤ 4 ∧ row 5 = nI w ∧ ∀ i, i < w → ∃ r a b, r < gR row ∧ a ≤ b ∧ b < 60 ∧ row (68 + 3 * i) = nI r ∧ row (68 + 3 * i + 1) = nI a ∧ row (68 + 3 * i + 2) = nI b) ∧ jI S 2 3 = row 5 ∧ ∀ i, i < (row 5).toNatClampNeg → jI S 3 i = row (68 + 3 * i) ∧ jI S 4 i = row (68 + 3 * i + 1) ∧ jI S 5 i = row (68 + 3 * i + 2)
def pQ (S : JS) (row : Nat → Int32) : Prop := (∃ q, q ≤ 16 ∧ row 6 = nI q ∧ ∀ i, i < q → ∃ r n z, r < gR row ∧ n < 60 ∧ z < 2 ∧ row (140 + 3 * i) = nI r ∧ row (140 + 3 * i + 1) = nI n ∧ row (140 + 3 * i + 2) = nI z) ∧ jI S 6 3 = row 6 ∧ ∀ i, i < (row 6).toNatClampNeg → jI S 7 i = row (140 + 3 * i) ∧ jI S 8 i = row (140 + 3 * i + 1) ∧ jI S 9 i = row (140 + 3 * i + 2)
def pT (S : JS) (row : Nat → Int32) : Prop := (∃ t, t < 60 ∧ row 7 = nI t ∧ ∀ n, n ≤ t → ∃ r, r < gR row ∧ row (80 + n) = nI r) ∧ jI S 1 10 = row 7 ∧ ∀ n, n < 60 → jI S 11 n = row (80 + n)
def pS (S : JS) (row : Nat → Int32) : Prop := (∀ n, n < 60 → row (8 + n) = 0 ∨ row (8 + n) = 1) ∧ (∀ n, n < 60 → cSt (jJ S 1 3) n = row (8 + n)) ∧ ∀ n, 60 ≤ n → n < 64 → bj (jJ S 1 3) n = false
def pG (S : JS) (row : Nat → Int32) : Prop := (∀ c, c < 12 → ∃ w, w ≤ 99 ∧ row (188 + c) = nI w) ∧ ∀ c, c < 12 → jI S 12 c = row (188 + c)
theorem MW_iff {S : JS} : MW S ↔ pR S (jI S 47) ∧ pM S (jI S 47) ∧ pU S (jI S 47) ∧ pL S (jI S 47) ∧ pW S (jI S 47) ∧ pQ S (jI S 47) ∧ pT S (jI S 47) ∧ pS S (jI S 47) ∧ pG S (jI S 47) := by
  constructor
  · rintro ⟨⟨a1, a2, a3, a4, a5, a6, a7, a8, a9⟩, ⟨b1, b2, b3, b4, b5, b6⟩, ⟨c1, c2⟩, ⟨d1, d2⟩, ⟨e1, e2⟩, l, t, g⟩
    exact ⟨⟨a1, b1⟩, ⟨a2, b2⟩, ⟨a3, b3⟩, ⟨a4, b4, b5, l⟩, ⟨a5, d1, d2⟩, ⟨a6, e1, e2⟩, ⟨a7, b6, t⟩, ⟨a8, c1, c2⟩, ⟨a9, g⟩⟩
  · rintro ⟨⟨a1, b1⟩, ⟨a2, b2⟩, ⟨a3, b3⟩, ⟨a4, b4, b5, l⟩, ⟨a5, d1, d2⟩, ⟨a6, e1, e2⟩, ⟨a7, b6, t⟩, ⟨a8, c1, c2⟩, ⟨a9, g⟩⟩
    exact ⟨⟨a1, a2, a3, a4, a5, a6, a7, a8, a9⟩, ⟨b1, b2, b3, b4, b5, b6⟩, ⟨c1, c2⟩, ⟨d1, d2⟩, ⟨e1, e2⟩, l, t, g⟩
theorem LawR.row {S : JS} {h : Nat} {row row' : Nat → Int32} {base : Nat} (q : LawR S h row base) (e : ∀ k, base ≤ k → k < base + 900 → row' k = row k) : LawR S h row' base := by
  obtain ⟨h69, hA, hk, h2, ht, h4, hc, n, l, r, A, z, hn, en, e0, hC⟩ := q
  refine ⟨h69, hA, hk, h2, ht, h4, hc, n, l, r, A, z, hn, (e _ (by omega) (by omega)).trans en, e0, fun i hi => ?_⟩
  obtain ⟨m, hm, e1, e2, a, b, c, a', b', c', ⟨q1, q2, q3, q4, q5, q6⟩, ⟨r3, r4, r5, r6⟩, s, hf, hg⟩ := hC i hi
  refine ⟨m, hm, (e _ (by omega) (by omega)).trans e1, e2, a, b, c, a', b', c', ⟨q1, q2, q3, q4, q5, q6⟩, ⟨(e _ (by omega) (by omega)).trans r3, (e _ (by omega) (by omega)).trans r4, (e _ (by omega) (by omega)).trans r5, (e _ (by omega) (by omega)).trans r6⟩, s, fun z => ?_, ?_⟩
  · obtain ⟨f, f1, f2⟩ := hf z
    exact ⟨f, mD_congr f1 (fun k k1 k2 => ⟨e _ (by omega) (by omega), e _ (by omega) (by omega)⟩), f2⟩
  · rcases hg with g | ⟨g1, g2, g, g3, g4⟩
    · exact Or.inl g
    · exact Or.inr ⟨g1, g2, g, mD_congr g3 (fun k k1 k2 => ⟨e _ (by omega) (by omega), e _ (by omega) (by omega)⟩), g4⟩
section PC
variable {S S' : JS} {row row' : Nat → Int32} {H : List Nat}
theorem gR_c (e : row' 0 = row 0) : gR row' = gR row := by rw [gR, gR, e]
theorem pR.c (q : pR S row) (e : row' 0 = row 0) (c : jI S' 1 0 = jI S 1 0) : pR S' row' := by
  unfold pR at q ⊢; rw [gR_c e, e, c]; exact q
theorem pM.c (q : pM S row) (e : row' 1 = row 1) (c : jI S' 1 1 = jI S 1 1) : pM S' row' := by
  unfold pM at q ⊢; rw [e, c]; exact q
theorem pU.c (q : pU S row) (e : row' 2 = row 2) (c : jI S' 1 2 = jI S 1 2) : pU S' row' := by
  unfold pU at q ⊢; rw [e, c]; exact q
theorem pL.laws (q : pL S row) (f : jFr H S S') (hH : ∀ x ∈ H, x < 69) (e : ∀ k, 200 ≤ k → row' k = row k) (e3 : row' 3 = row 3) : ∀ i, i < (row' 3).toNatClampNeg → ∃ h, jR S' 10 i = some h ∧ LawR S' h row' (200 + 900 * i) := by
  rw [f.R, e3]
  intro i hi
  obtain ⟨h, h1, h2⟩ := q.2.2.2 i hi
  exact ⟨h, h1, (h2.fr f hH).row (fun k k1 _ => e k (by omega))⟩
theorem pL.c (q : pL S row) (f : jFr H S S') (hH : ∀ x ∈ H, x < 69) (e : ∀ k, 200 ≤ k → row' k = row k) (e3 : row' 3 = row 3) (e4 : row' 4 = row 4) (c7 : jI S' 1 7 = jI S 1 7) (c8 : jI S' 1 8 = jI S 1 8) : pL S' row' :=
  ⟨by rw [e3, e4]; exact q.1, by rw [e3, c7]; exact q.2.1, by rw [e4, c8]; exact q.2.2.1, q.laws f hH e e3⟩
theorem pW.c (q : pW S row) (f : jFr H S S') (hd : ∀ x ∈ [2, 3, 4, 5], x ∉ H) (e0 : row' 0 = row 0) (e5 : row' 5 = row 5) (e : ∀ k, 68 ≤ k → k < 80 → row' k = row k) : pW S' row' := by
  obtain ⟨⟨w, w1, w2, w3⟩, c3, c⟩ := q
  refine ⟨⟨w, w1, e5.trans w2, fun i hi => ?_⟩, ?_, fun i hi => ?_⟩
  · obtain ⟨r, a, b, x1, x2, x3, x4, x5, x6⟩ := w3 i hi
    exact ⟨r, a, b, by rw [gR_c e0]; exact x1, x2, x3, (e _ (by omega) (by omega)).trans x4, (e _ (by omega) (by omega)).trans x5, (e _ (by omega) (by omega)).trans x6⟩
  · rw [f.I 2 (hd 2 (by decide)), e5]; exact c3
  · rw [e5] at hi
    have hw : i < w := by rw [w2, nI_tn (by omega)] at hi; exact hi
    rw [f.I 3 (hd 3 (by decide)), f.I 4 (hd 4 (by decide)), f.I 5 (hd 5 (by decide)), e _ (by omega) (by omega), e _ (by omega) (by omega), e _ (by omega) (by omega)]
    exact c i hi
theorem pQ.c (q : pQ S row) (f : jFr H S S') (hd : ∀ x ∈ [6, 7, 8, 9], x ∉ H) (e0 : row' 0 = row 0) (e5 : row' 6 = row 6) (e : ∀ k, 140 ≤ k → k < 188 → row' k = row k) : pQ S' row' := by
  obtain ⟨⟨w, w1, w2, w3⟩, c3, c⟩ := q
  refine ⟨⟨w, w1, e5.trans w2, fun i hi => ?_⟩, ?_, fun i hi => ?_⟩
  · obtain ⟨r, a, b, x1, x2, x3, x4, x5, x6⟩ := w3 i hi
    exact ⟨r, a, b, by rw [gR_c e0]; exact x1, x2, x3, (e _ (by omega) (by omega)).trans x4, (e _ (by omega) (by omega)).trans x5, (e _ (by omega) (by omega)).trans x6⟩
  · rw [f.I 6 (hd 6 (by decide)), e5]; exact c3
  · rw [e5] at hi
    have hw : i < w := by rw [w2, nI_tn (by omega)] at hi; exact hi
    rw [f.I 7 (hd 7 (by decide)), f.I 8 (hd 8 (by decide)), f.I 9 (hd 9 (by decide)), e _ (by omega) (by omega), e _ (by omega) (by omega), e _ (by omega) (by omega)]
    exact c i hi
theorem pT.c (q : pT S row) (e0 : row' 0 = row 0) (e7 : row' 7 = row 7) (e : ∀ k, 80 ≤ k → k < 140 → row' k = row k) (c10 : jI S' 1 10 = jI S 1 10) (c11 : jI S' 11 = jI S 11) : pT S' row' := by
  obtain ⟨⟨t, t1, t2, t3⟩, c1, c⟩ := q
  refine ⟨⟨t, t1, e7.trans t2, fun n hn => ?_⟩, by rw [c10, e7]; exact c1, fun n hn => by rw [c11, e _ (by omega) (by omega)]; exact c n hn⟩
  obtain ⟨r, r1, r2⟩ := t3 n hn
  exact ⟨r, by rw [gR_c e0]; exact r1, (e _ (by omega) (by omega)).trans r2⟩
theorem pS.c (q : pS S row) (e : ∀ k, 8 ≤ k → k < 68 → row' k = row k) (c : jJ S' 1 3 = jJ S 1 3) : pS S' row' := by
  refine ⟨fun n hn => by rw [e _ (by omega) (by omega)]; exact q.1 n hn, fun n hn => by rw [c, e _ (by omega) (by omega)]; exact q.2.1 n hn, by rw [c]; exact q.2.2⟩
theorem pG.c (q : pG S row) (e : ∀ k, 188 ≤ k → k < 200 → row' k = row k) (c : jI S' 12 = jI S 12) : pG S' row' := by
  refine ⟨fun n hn => by rw [e _ (by omega) (by omega)]; exact q.1 n hn, fun n hn => by rw [c, e _ (by omega) (by omega)]; exact q.2 n hn⟩
/-! what a law tells, of another row -/
theorem gT_c {base : Nat} (ht : TOk row base) (e : ∀ k, base ≤ k → k < base + 900 → row' k = row k) (head : Int32) (env : Nat → Int64) (n : Nat) (h : ∃ m, m ≤ 12 ∧ row (base + 1) = nI m ∧ n ≤ m) : gT row' base head env n = gT row base head env n := by
  obtain ⟨m, m1, m2, m3⟩ := ht
  obtain ⟨m', y1, y2, y3⟩ := h
  have : m' = m := by rw [y2, nI_eq' (by omega) (by omega)] at m2; exact m2
  subst this
  induction n with
  | zero => rfl
  | succ n ih =>
    rw [gT, gT, ih (by omega), e _ (by omega) (by omega)]
    obtain ⟨hk, a, b, c, h1, h2, h3, e3, e4, e5, e6, hf, hg⟩ := m3 n (by omega)
    have sm : gSum row' base n env = gSum row base n env := by
      rw [gSum, gSum, e (base + 2 + 8 * n) (by omega) (by omega), e (base + 2 + 8 * n + 3) (by omega) (by omega), e (base + 2 + 8 * n + 4) (by omega) (by omega)]
      split
      · rfl
      · rename_i z
        obtain ⟨f, f1⟩ := hf z
        rw [e3, e4, gEv_of f1 (by omega), gEv_of (mD_congr f1 (fun k k1 k2 => ⟨e _ (by omega) (by omega), e _ (by omega) (by omega)⟩)) (by omega)]
    have so : gSo row' base n env = gSo row base n env := by
      rw [gSo, gSo, sm, e (base + 2 + 8 * n + 5) (by omega) (by omega), e (base + 2 + 8 * n + 6) (by omega) (by omega), e5, e6]
      split
      · rename_i z
        rw [nI_lt' (by omega) (by omega)] at z
        obtain ⟨f, f1⟩ := hg z
        rw [gEv_of f1 (by omega), gEv_of (mD_congr f1 (fun k k1 k2 => ⟨e _ (by omega) (by omega), e _ (by omega) (by omega)⟩)) (by omega)]
      · rfl
    rw [so]
theorem gTell_c (hf : LF row) {n : Nat} (hn : n < 60) (e0 : row' 0 = row 0) (e1 : row' 1 = row 1) (e4 : row' 4 = row 4) (en : row' (8 + n) = row (8 + n)) (e : ∀ j, row 4 = nI j → j < 6 → ∀ k, 200 + 900 * j ≤ k → k < 200 + 900 * j + 900 → row' k = row k) (head rock to : Int32) : gTell row' head rock (nI n) to = gTell row head rock (nI n) to := by
  rcases hf with h | ⟨j, j1, j2, j3⟩
  · rw [gTell_none h, gTell_none (e4.trans h)]
  · obtain ⟨m, m1, m2, m3⟩ := id j3
    have ee := e j j2 j1
    rw [gTell_some j2 j1 m1 m2, gTell_some (e4.trans j2) j1 m1 ((ee _ (by omega) (by omega)).trans m2), gT_c j3 ee _ _ _ ⟨m, m1, m2, Nat.le_refl _⟩]
    have : gEnv row' rock (nI n) to = gEnv row rock (nI n) to := by
      funext k
      unfold gEnv
      rw [nI_tn (by omega), en, e1, e0]
    rw [this]
theorem gWd_c (h5 : (row 5).toNatClampNeg ≤ 4) (e5 : row' 5 = row 5) (e : ∀ k, 68 ≤ k → k < 80 → row' k = row k) (r n : Nat) : gWd row' r n ↔ gWd row r n := by
  unfold gWd
  rw [e5]
  refine exists_congr fun i => ?_
  refine and_congr_right fun hi => ?_
  rw [e _ (by omega) (by omega), e _ (by omega) (by omega), e _ (by omega) (by omega)]
theorem gSl_c (hf : LF row) {n a : Nat} (hn : n < 60) (e0 : row' 0 = row 0) (e1 : row' 1 = row 1) (e4 : row' 4 = row 4) (en : row' (8 + n) = row (8 + n)) (e : ∀ j, row 4 = nI j → j < 6 → ∀ k, 200 + 900 * j ≤ k → k < 200 + 900 * j + 900 → row' k = row k) (hw : gWd row' a n ↔ gWd row a n) (i : Nat) : gSl row' n a i ↔ gSl row n a i := by
  unfold gSl gGo
  rw [gR_c e0, en, hw, gTell_c hf hn e0 e1 e4 en e]
/-- what is still known, is right of the new row -/
theorem BC.chg (hB : BC S) (h : ∀ n a, n < 60 → a < 9 → (jI S' 27 (n * 9 + a) = -1 ∨ (jI S' 27 (n * 9 + a) = jI S 27 (n * 9 + a) ∧ ∀ i, gSl (jI S' 47) n a i ↔ gSl (jI S 47) n a i)) ∧ (jI S' 28 (n * 9 + a) = -1 ∨ (jI S' 28 (n * 9 + a) = jI S 28 (n * 9 + a) ∧ gTell (jI S' 47) 0 (nI a) (nI n) (-1) = gTell (jI S 47) 0 (nI a) (nI n) (-1)))) : BC S' := by
  refine ⟨fun n a hn ha => ?_, fun n a hn ha => ?_⟩
  · rcases (h n a hn ha).1 with q | ⟨q1, q2⟩
    · exact Or.inl q
    · rcases hB.1 n a hn ha with z | z
      · exact Or.inl (q1.trans z)
      · exact Or.inr (fun i hi => by rw [q1, q2]; exact z i hi)
  · rcases (h n a hn ha).2 with q | ⟨q1, q2⟩
    · exact Or.inl q
    · rw [q1, q2]; exact hB.2 n a hn ha
theorem BC.all (h : ∀ n a, n < 60 → a < 9 → jI S' 27 (n * 9 + a) = -1 ∧ jI S' 28 (n * 9 + a) = -1) : BC S' := ⟨fun n a hn ha => Or.inl (h n a hn ha).1, fun n a hn ha => Or.inl (h n a hn ha).2⟩
/-- nothing that boats hang on has changed -/
theorem BC.keep (hB : BC S) (hm : MW S) (e27 : jI S' 27 = jI S 27) (e28 : jI S' 28 = jI S 28) (e0 : jI S' 47 0 = jI S 47 0) (e1 : jI S' 47 1 = jI S 47 1) (e4 : jI S' 47 4 = jI S 47 4) (e5 : jI S' 47 5 = jI S 47 5) (e8 : ∀ k, 8 ≤ k → k < 80 → jI S' 47 k = jI S 47 k) (e : ∀ j, jI S 47 4 = nI j → j < 6 → ∀ k, 200 + 900 * j ≤ k → k < 200 + 900 * j + 900 → jI S' 47 k = jI S 47 k) : BC S' := by
  obtain ⟨w, w1, w2, _⟩ := hm.1.2.2.2.2.1
  refine hB.chg (fun n a hn ha => ⟨Or.inr ⟨by rw [e27], fun i => ?_⟩, Or.inr ⟨by rw [e28], ?_⟩⟩)
  · exact gSl_c hm.lf hn e0 e1 e4 (e8 _ (by omega) (by omega)) e (gWd_c (by rw [w2, nI_tn (by omega)]; exact w1) e5 (fun k k1 k2 => e8 k (by omega) k2) a n) i
  · exact gTell_c hm.lf hn e0 e1 e4 (e8 _ (by omega) (by omega)) e _ _ _
/-- accepted by both -/
theorem Inv.acc (hI : Inv S) (f : jFr [0, 1, 2, 3, 4, 5, 6, 7, 8, 9, 11, 12, 24, 25, 26, 27, 28, 45, 47, 51, 52, 53, 54, 55, 58, 59, 60, 61, 62, 63, 64, 65, 66, 67] S S') (k0 : jFk 0 [12, 13] S S') (k5 : jFk 45 [0, 1, 9, 10, 11, 12, 14, 15, 17, 20, 23, 24, 27, 30, 31, 32, 41] S S') (hM : MW S') (hB : BC S') (e13 : jI S' 0 13 = 0) (e12 : jI S' 0 12 = 0) (e1 : jI S' 45 1 = 0) : Inv S' := by
  obtain ⟨i1, i2, i3, i4, i5, i6, i7, i8, i9, i10, i11⟩ := hI
  refine ⟨f.sh.mpr i1, hM, hB, SV.no e13, i5.fr f (by decide) (by rw [f.I 14 (by decide)]) (k5.I 8 (by decide)), ⟨?_, e12.trans e1.symm⟩, i7.fr (k0.I 10 (by decide)) (k5.I 6 (by decide)) (k0.I 11 (by decide)) (k5.I 13 (by decide)), i8.fr f (by decide) (k5.I 43 (by decide)), i9.fr f (by decide), i10.fr f (by decide) (by decide), i11.fr f⟩
  rw [f.I 44 (by decide), f.I 46 (by decide)]; exact i6.1
end PC
