/-! THE WORLD, by the model's row -/
def gR (row : Nat → Int32) : Nat := (row 0).toNatClampNeg
def gWd (row : Nat → Int32) (r n : Nat) : Prop := ∃ i, i < (row 5).toNatClampNeg ∧ row (68 + 3 * i) = nI r ∧ row (68 + 3 * i + 1) ≤ nI n ∧ nI n ≤ row (68 + 3 * i + 2)
def gGo (row : Nat → Int32) (n a b : Nat) : Prop := row (8 + n) = 0 ∧ ¬ gWd row a n ∧ gTell row 2 (nI a) (nI n) (nI b) = 0
def gSl (row : Nat → Int32) (n a k : Nat) : Prop := a < gR row ∧ k < gR row ∧ k ≠ a ∧ n < 59 ∧ gGo row n a k
def gSt (row : Nat → Int32) (n a k : Nat) : Prop := k = a ∨ gSl row n a k
def RowOk (row : Nat → Int32) : Prop := (1 ≤ gR row ∧ gR row ≤ 9 ∧ row 0 = nI (gR row)) ∧ (∃ m, m ≤ 9 ∧ row 1 = nI m) ∧ (∃ s, 1 ≤ s ∧ s ≤ 100 ∧ row 2 = nI s) ∧ (∃ l, l ≤ 6 ∧ row 3 = nI l ∧ (row 4 = -1 ∨ ∃ j, j < l ∧ row 4 = nI j)) ∧ (∃ w, w ≤ 4 ∧ row 5 = nI w ∧ ∀ i, i < w → ∃ r a b, r < gR row ∧ a ≤ b ∧ b < 60 ∧ row (68 + 3 * i) = nI r ∧ row (68 + 3 * i + 1) = nI a ∧ row (68 + 3 * i + 2) = nI b) ∧ (∃ q, q ≤ 16 ∧ row 6 = nI q ∧ ∀ i, i < q → ∃ r n z, r < gR row ∧ n < 60 ∧ z < 2 ∧ row (140 + 3 * i) = nI r ∧ row (140 + 3 * i + 1) = nI n ∧ row (140 + 3 * i + 2) = nI z) ∧ (∃ t, t < 60 ∧ row 7 = nI t ∧ ∀ n, n ≤ t → ∃ r, r < gR row ∧ row (80 + n) = nI r) ∧ (∀ n, n < 60 → row (8 + n) = 0 ∨ row (8 + n) = 1) ∧ (∀ c, c < 12 → ∃ w, w ≤ 99 ∧ row (188 + c) = nI w)
/-- a World of the class: itself w, weddings a a1 a2 a3, reports b b1 b2 b3, laws l, trail t, weights g -/
def WR (S : JS) (w a a1 a2 a3 b b1 b2 b3 l t g : Nat) (row : Nat → Int32) : Prop := (jI S w 0 = row 0 ∧ jI S w 1 = row 1 ∧ jI S w 2 = row 2 ∧ jI S w 7 = row 3 ∧ jI S w 8 = row 4 ∧ jI S w 10 = row 7) ∧ ((∀ n, n < 60 → cSt (jJ S w 3) n = row (8 + n)) ∧ ∀ n, 60 ≤ n → n < 64 → bj (jJ S w 3) n = false) ∧ (jI S a 3 = row 5 ∧ ∀ i, i < (row 5).toNatClampNeg → jI S a1 i = row (68 + 3 * i) ∧ jI S a2 i = row (68 + 3 * i + 1) ∧ jI S a3 i = row (68 + 3 * i + 2)) ∧ (jI S b 3 = row 6 ∧ ∀ i, i < (row 6).toNatClampNeg → jI S b1 i = row (140 + 3 * i) ∧ jI S b2 i = row (140 + 3 * i + 1) ∧ jI S b3 i = row (140 + 3 * i + 2)) ∧ (∀ i, i < (row 3).toNatClampNeg → ∃ h, jR S l i = some h ∧ LawR S h row (200 + 900 * i)) ∧ (∀ n, n < 60 → jI S t n = row (80 + n)) ∧ (∀ c, c < 12 → jI S g c = row (188 + c))
def MW (S : JS) : Prop := RowOk (jI S 47) ∧ WR S 1 2 3 4 5 6 7 8 9 10 11 12 (jI S 47)
theorem LawR.fr {S S' : JS} {H : List Nat} {h : Nat} {row : Nat → Int32} {base : Nat} (f : jFr H S S') (hH : ∀ x ∈ H, x < 69) (q : LawR S h row base) : LawR S' h row base := by
  have i1 : ∀ x, 69 ≤ x → jI S' x = jI S x := fun x hx => f.I x (fun z => by have := hH x z; omega)
  obtain ⟨h69, hA, hk, h2, ht, h4, hc, n, ⟨l1, l2, l3, l4, l5⟩, r, A, z, hn, en, e0, hC⟩ := q
  refine ⟨h69, (f.A _ _).mpr hA, hk, h2, ht, h4, hc, n, ⟨l1, l2, l3, l4, l5⟩, ?_, ?_, ?_, hn, en, ?_, ?_⟩
  · rw [f.R]; exact r
  · simp only [f.A]; exact A
  · rw [f.Z]; exact z
  · rw [i1 h h69]; exact e0
  · intro i hi
    have := hC i hi
    unfold LawC at this ⊢
    rw [i1 hk l1, i1 h2 l2, i1 ht l3, i1 h4 l4, i1 hc l5, f.Z]; exact this
theorem WR.fr {S S' : JS} {H : List Nat} {w a a1 a2 a3 b b1 b2 b3 l t g : Nat} {row : Nat → Int32} (f : jFr H S S') (hH : ∀ x ∈ H, x < 69) (hd : ∀ x ∈ [w, a, a1, a2, a3, b, b1, b2, b3, l, t, g], x ∉ H) (q : WR S w a a1 a2 a3 b b1 b2 b3 l t g row) : WR S' w a a1 a2 a3 b b1 b2 b3 l t g row := by
  simp only [List.mem_cons, List.not_mem_nil, or_false, forall_eq_or_imp, forall_eq] at hd
  obtain ⟨d1, d2, d3, d4, d5, d6, d7, d8, d9, d10, d11, d12⟩ := hd
  unfold WR at q ⊢
  rw [f.I w d1, f.J w d1, f.I a d2, f.I a1 d3, f.I a2 d4, f.I a3 d5, f.I b d6, f.I b1 d7, f.I b2 d8, f.I b3 d9, f.I t d11, f.I g d12, f.R]
  obtain ⟨q1, q2, q3, q4, q5, q6⟩ := q
  exact ⟨q1, q2, q3, q4, fun i hi => by obtain ⟨h, e, z⟩ := q5 i hi; exact ⟨h, e, z.fr f hH⟩, q6⟩
theorem MW.fr {S S' : JS} {H : List Nat} (f : jFr H S S') (hH : ∀ x ∈ H, x < 69) (hd : ∀ x ∈ [1, 2, 3, 4, 5, 6, 7, 8, 9, 10, 11, 12, 47], x ∉ H) (q : MW S) : MW S' := by
  have e : jI S' 47 = jI S 47 := f.I 47 (hd 47 (by decide))
  unfold MW at q ⊢
  rw [e]
  exact ⟨q.1, q.2.fr f hH (fun x hx => hd x (by simp only [List.mem_cons, List.not_mem_nil, or_false] at hx ⊢; omega))⟩
theorem LawR.tok {S : JS} {h : Nat} {row : Nat → Int32} {base : Nat} (q : LawR S h row base) : TOk row base := by
  obtain ⟨h69, hA, hk, h2, ht, h4, hc, n, l, r, A, z, hn, en, e0, hC⟩ := q
  refine ⟨n, hn, en, fun c hc => ?_⟩
  obtain ⟨m, hm, e1, e2, a, b, e, a', b', e', ⟨q1, q2, q3, q4, q5, q6⟩, ⟨r3, r4, r5, r6⟩, s, hf, hg⟩ := hC c hc
  have e2' : (row (base + 2 + 8 * c) = 2) ↔ m = 2 := by rw [e1, li_2, nI_eq' (by omega) (by omega)]
  refine ⟨?_, a, b, e, q1, q2, q3, r3, r4, r5, r6, fun z => ?_, fun z => ?_⟩
  · rw [e1]
    rcases (by omega : m = 0 ∨ m = 1 ∨ m = 2) with e | e | e <;> subst e
    · exact Or.inl rfl
    · exact Or.inr (Or.inl rfl)
    · exact Or.inr (Or.inr rfl)
  · obtain ⟨f, f1, _⟩ := hf (fun y => z (e2'.mpr y)); exact ⟨f, f1⟩
  · rcases hg with ⟨g1, _⟩ | ⟨_, _, g, g2, _⟩
    · omega
    · exact ⟨g, g2⟩
theorem LawR.n {S : JS} {h : Nat} {row : Nat → Int32} {base : Nat} (q : LawR S h row base) : ∃ n, n ≤ 12 ∧ row (base + 1) = nI n := by
  obtain ⟨h69, hA, hk, h2, ht, h4, hc, n, l, r, A, z, hn, en, e0, hC⟩ := q
  exact ⟨n, hn, en⟩
/-- the law in force, as both see it -/
theorem MW.law {S : JS} (hm : MW S) : (jI S 47 4 = -1 ∧ jI S 1 8 = -1) ∨ ∃ j h n, j < 6 ∧ jI S 47 4 = nI j ∧ jI S 1 8 = nI j ∧ (∃ l, l ≤ 6 ∧ j < l ∧ jI S 1 7 = nI l) ∧ jR S 10 j = some h ∧ LawR S h (jI S 47) (200 + 900 * j) ∧ n ≤ 12 ∧ jI S 47 (200 + 900 * j + 1) = nI n := by
  obtain ⟨⟨_, _, _, ⟨l, l1, l2, l3⟩, _⟩, ⟨⟨_, _, _, e7, e8, _⟩, _, _, _, hl, _⟩⟩ := hm
  rcases l3 with q | ⟨j, j1, j2⟩
  · exact Or.inl ⟨q, e8.trans q⟩
  · obtain ⟨h, h1, h2⟩ := hl j (by rw [l2, nI_tn (by omega)]; exact j1)
    obtain ⟨n, n1, n2⟩ := h2.n
    exact Or.inr ⟨j, h, n, by omega, j2, e8.trans j2, ⟨l, l1, j1, e7.trans l2⟩, h1, h2, n1, n2⟩
theorem MW.lf {S : JS} (hm : MW S) : LF (jI S 47) := by
  rcases hm.law with q | ⟨j, h, n, j1, j2, _, _, _, h2, _⟩
  · exact Or.inl q.1
  · exact Or.inr ⟨j, j1, j2, h2.tok⟩
theorem gTell_none {row : Nat → Int32} {head rock night to : Int32} (h : row 4 = -1) : gTell row head rock night to = if head = 2 then 0 else 1 := by
  rw [gTell, if_pos h]
  split <;> rfl
theorem gTell_some {row : Nat → Int32} {head rock night to : Int32} {j n : Nat} (h : row 4 = nI j) (hj : j < 6) (hn : n ≤ 12) (h2 : row (200 + 900 * j + 1) = nI n) : gTell row head rock night to = gCut (gT row (200 + 900 * j) head (gEnv row rock night to) n) := by
  have e : gBase row = 200 + 900 * j := by rw [gBase, h, nI_tn (by omega)]
  have e1 : ¬ row 4 = -1 := by rw [h]; have := nI_nn (n := j) (by omega); lia
  rw [gTell, if_neg e1, e, h2, nI_tn (by omega)]
theorem gCut_b (v : Int64) : 0 ≤ gCut v ∧ gCut v ≤ 99 := by
  unfold gCut
  split
  · decide
  · split
    · decide
    · rename_i h1 h2
      obtain ⟨n, hn, rfl⟩ := pk_lOf h1
      have : n ≤ 99 := by
        have : ¬ 99 < n := fun z => h2 ((pk_lLT (a := 99) (b := n) (by omega) hn).mpr z)
        omega
      rw [lN_i, li_0, li_99, nI_le' (by omega) (by omega), nI_le' (by omega) (by omega)]; omega
theorem gTell_b (row : Nat → Int32) (head rock night to : Int32) : 0 ≤ gTell row head rock night to ∧ gTell row head rock night to ≤ 99 := gCut_b _
theorem gTell_n (row : Nat → Int32) (head rock night to : Int32) : ∃ n, n ≤ 99 ∧ gTell row head rock night to = nI n := by
  have h := gTell_b row head rock night to
  obtain ⟨n, hn, e⟩ := nI_of2 (M := 99) (n := 99) rfl (show ¬ gTell row head rock night to < 0 by lia) h.2
  exact ⟨n, hn, e⟩
theorem i64_b {x : Int32} (h1 : -1 ≤ x) (h2 : x ≤ 1000) : -1000 ≤ x.toInt64 ∧ x.toInt64 ≤ 1000 := by
  have a1 := Int32.le_iff_toInt_le.mp h1
  have a2 := Int32.le_iff_toInt_le.mp h2
  have e1 : (-1 : Int32).toInt = -1 := by decide
  have e2 : (1000 : Int32).toInt = 1000 := by decide
  have e3 : (-1000 : Int64).toInt = -1000 := by decide
  have e4 : (1000 : Int64).toInt = 1000 := by decide
  rw [Int64.le_iff_toInt_le, Int64.le_iff_toInt_le, Int32.toInt_toInt64, e3, e4]
  omega
theorem nI_b {n : Nat} (h : n ≤ 1000) : -1 ≤ nI n ∧ nI n ≤ 1000 := by
  have := nI_nn (n := n) (by omega)
  refine ⟨by lia, ?_⟩
  rw [li_1000, nI_le' (by omega) (by omega)]; exact h
theorem gFar_n {R a b : Nat} (hR : R ≤ 9) (ha : a < R) (hb : b < R) : ∃ k, k ≤ 9 ∧ gFar (nI R) (nI a) (nI b) = nI k := by
  unfold gFar
  have e : ∃ k, k < R ∧ (if nI a < nI b then nI b - nI a else nI a - nI b) = nI k := by
    split
    · rename_i q; rw [nI_lt' (by omega) (by omega)] at q
      exact ⟨b - a, by omega, nI_sub (by omega)⟩
    · rename_i q; rw [nI_lt' (by omega) (by omega)] at q
      exact ⟨a - b, by omega, nI_sub (by omega)⟩
  obtain ⟨k, hk, e⟩ := e
  rw [e]
  split
  · exact ⟨k, by omega, rfl⟩
  · exact ⟨R - k, by omega, nI_sub (by omega)⟩
theorem gEnv_b {row : Nat → Int32} (hr : RowOk row) {rock night : Nat} {to : Int32} (h1 : rock < gR row) (h2 : night < 60) (h3 : to = -1 ∨ ∃ b, b < gR row ∧ to = nI b) : ∀ k, -1000 ≤ gEnv row (nI rock) (nI night) to k ∧ gEnv row (nI rock) (nI night) to k ≤ 1000 := by
  obtain ⟨⟨R1, R2, R3⟩, ⟨m, m1, m2⟩, _, _, _, _, _, st, _⟩ := hr
  intro k
  have h0 : -1000 ≤ (0 : Int64) ∧ (0 : Int64) ≤ 1000 := by decide
  have ht : -1 ≤ to ∧ to ≤ 1000 := by
    rcases h3 with e | ⟨b, b1, e⟩ <;> subst e
    · decide
    · exact nI_b (by omega)
  have hf : -1 ≤ (if to = -1 then (-1) else gFar (row 0) (nI rock) to) ∧ (if to = -1 then (-1) else gFar (row 0) (nI rock) to) ≤ 1000 := by
    split
    · decide
    · rcases h3 with e | ⟨b, b1, e⟩
      · rename_i q; exact absurd e q
      · subst e
        rw [R3]
        obtain ⟨k, k1, k2⟩ := gFar_n R2 h1 b1
        rw [k2]; exact nI_b (by omega)
  unfold gEnv
  rw [nI_tn (by omega)]
  split
  · exact i64_b (nI_b (by omega)).1 (nI_b (by omega)).2
  · split
    · exact i64_b ht.1 ht.2
    · split
      · exact i64_b (nI_b (by omega)).1 (nI_b (by omega)).2
      · split
        · rcases st night h2 with e | e <;> rw [e] <;> decide
        · split
          · rw [m2]; exact i64_b (nI_b (by omega)).1 (nI_b (by omega)).2
          · split
            · exact i64_b hf.1 hf.2
            · exact h0
