/-! PURE: the fewest lies -/
noncomputable def pick {α : Type} (P : Prop) (a b : α) : α := @ite α P (Classical.propDecidable P) a b
theorem pick_t {α : Type} {P : Prop} {a b : α} (h : P) : pick P a b = a := by unfold pick; rw [if_pos h]
theorem pick_f {α : Type} {P : Prop} {a b : α} (h : ¬ P) : pick P a b = b := by unfold pick; rw [if_neg h]
noncomputable def mn (P : Nat → Prop) (f : Nat → Nat) : Nat → Nat
  | 0 => 1000000
  | k + 1 => pick (P k ∧ f k < mn P f k) (f k) (mn P f k)
theorem mn_top (P : Nat → Prop) (f : Nat → Nat) : ∀ k, mn P f k ≤ 1000000
  | 0 => Nat.le_refl _
  | k + 1 => by
    have := mn_top P f k
    rw [mn]
    by_cases h : P k ∧ f k < mn P f k
    · rw [pick_t h]; omega
    · rw [pick_f h]; exact this
theorem mn_le {P : Nat → Prop} {f : Nat → Nat} {p : Nat} : ∀ {k : Nat}, p < k → P p → mn P f k ≤ f p
  | 0, h, _ => absurd h (Nat.not_lt_zero _)
  | k + 1, h, hp => by
    rw [mn]
    by_cases c : P k ∧ f k < mn P f k
    · rw [pick_t c]
      rcases Nat.lt_or_ge p k with l | l
      · have := mn_le (f := f) l hp; omega
      · rw [show p = k by omega]; omega
    · rw [pick_f c]
      rcases Nat.lt_or_ge p k with l | l
      · exact mn_le l hp
      · have : p = k := by omega
        subst this
        exact Nat.le_of_not_lt (fun z => c ⟨hp, z⟩)
theorem mn_ex {P : Nat → Prop} {f : Nat → Nat} : ∀ {k : Nat}, mn P f k < 1000000 → ∃ p, p < k ∧ P p ∧ f p = mn P f k
  | 0, h => absurd h (by rw [mn]; omega)
  | k + 1, h => by
    rw [mn] at h ⊢
    by_cases c : P k ∧ f k < mn P f k
    · rw [pick_t c]; exact ⟨k, by omega, c.1, rfl⟩
    · rw [pick_f c] at h ⊢
      obtain ⟨p, p1, p2, p3⟩ := mn_ex h
      exact ⟨p, by omega, p2, p3⟩
theorem mn_ext {P : Nat → Prop} {f : Nat → Nat} {R : Nat} (h : ∀ p, P p → p < R) : ∀ k, mn P f (R + k) = mn P f R
  | 0 => rfl
  | k + 1 => by
    rw [show R + (k + 1) = R + k + 1 by omega, mn, pick_f (fun z => by have := h _ z.1; omega)]
    exact mn_ext h k
theorem mn_none {P : Nat → Prop} {f : Nat → Nat} : ∀ {k : Nat}, (∀ p, p < k → ¬ P p) → mn P f k = 1000000
  | 0, _ => rfl
  | k + 1, h => by rw [mn, pick_f (fun z => h k (by omega) z.1)]; exact mn_none (fun p hp => h p (by omega))
/-- lies of the reports at a place -/
def gL (row : Nat → Int32) (n r : Nat) : Nat → Nat
  | 0 => 0
  | k + 1 => gL row n r k + if row (140 + 3 * k + 1) = nI n ∧ ¬ (row (140 + 3 * k) = nI r ↔ row (140 + 3 * k + 2) = 1) then 1 else 0
def gLs (row : Nat → Int32) (n r : Nat) : Nat := gL row n r (row 6).toNatClampNeg
def gC (row : Nat → Int32) (n : Nat) : Nat → Nat
  | 0 => 0
  | k + 1 => gC row n k + if nI n ≤ row (140 + 3 * k + 1) then 1 else 0
theorem gC_le (row : Nat → Int32) (n : Nat) : ∀ k, gC row n k ≤ k
  | 0 => Nat.le_refl _
  | k + 1 => by have := gC_le row n k; rw [gC]; split <;> omega
theorem gL_C {row : Nat → Int32} {n r : Nat} (hn : n < 1000) : ∀ k, (∀ i, i < k → ∃ m, m < 60 ∧ row (140 + 3 * i + 1) = nI m) → gL row n r k + gC row (n + 1) k ≤ gC row n k
  | 0, _ => Nat.le_refl _
  | k + 1, h => by
    have ih := gL_C (r := r) hn k (fun i hi => h i (by omega))
    obtain ⟨m, m1, m2⟩ := h k (by omega)
    rw [gL, gC, gC, m2]
    simp (disch := omega) only [nI_eq', nI_le']
    split
    · rename_i q; rw [if_neg (by omega), if_pos (by omega)]; omega
    · split
      · rw [if_pos (by omega)]; omega
      · omega
theorem gL_le {row : Nat → Int32} {n r : Nat} : ∀ k, gL row n r k ≤ k
  | 0 => Nat.le_refl _
  | k + 1 => by have := gL_le (row := row) (n := n) (r := r) k; rw [gL]; split <;> omega
/-- the fewest from a night on, by nights left -/
noncomputable def gD (row : Nat → Int32) : Nat → Nat → Nat
  | 0, r => gLs row 59 r
  | k + 1, r => mn (gSt row (58 - k) r) (gD row k) (gR row) + gLs row (58 - k) r
theorem gSt_lt {row : Nat → Int32} {n a b : Nat} (h : gSt row n a b) (ha : a < gR row) : b < gR row := by
  rcases h with e | e
  · omega
  · exact e.2.1
theorem gD_C {row : Nat → Int32} (hr : RowOk row) : ∀ k r, k ≤ 59 → r < gR row → gD row k r ≤ gC row (59 - k) (row 6).toNatClampNeg
  | 0, r, _, _ => by
    obtain ⟨q, q1, q2, q3⟩ := hr.2.2.2.2.2.1
    have := gL_C (row := row) (n := 59) (r := r) (by omega) q (fun i hi => by obtain ⟨_, n, _, _, n1, _, _, n2, _⟩ := q3 i hi; exact ⟨n, n1, n2⟩)
    rw [gD, gLs, q2, nI_tn (by omega)]; show _ ≤ gC row 59 q; omega
  | k + 1, r, hk, h => by
    obtain ⟨q, q1, q2, q3⟩ := hr.2.2.2.2.2.1
    have ih := gD_C hr k r (by omega) h
    have := gL_C (row := row) (n := 58 - k) (r := r) (by omega) q (fun i hi => by obtain ⟨_, n, _, _, n1, _, _, n2, _⟩ := q3 i hi; exact ⟨n, n1, n2⟩)
    have m := mn_le (f := gD row k) h (show gSt row (58 - k) r r from Or.inl rfl)
    rw [gD, gLs]
    rw [q2, nI_tn (by omega)] at ih ⊢
    rw [show 58 - k + 1 = 59 - k by omega] at this
    rw [show 59 - (k + 1) = 58 - k by omega]; omega
theorem gD_16 {row : Nat → Int32} (hr : RowOk row) {k r : Nat} (hk : k ≤ 59) (h : r < gR row) : gD row k r ≤ 16 := by
  obtain ⟨q, q1, q2, q3⟩ := hr.2.2.2.2.2.1
  have := gD_C hr k r hk h
  have c := gC_le row (59 - k) (row 6).toNatClampNeg
  rw [q2, nI_tn (by omega)] at c this; omega
theorem gLs_16 {row : Nat → Int32} (hr : RowOk row) (n r : Nat) : gLs row n r ≤ 16 := by
  obtain ⟨q, q1, q2, q3⟩ := hr.2.2.2.2.2.1
  have := gL_le (row := row) (n := n) (r := r) q
  rw [gLs, q2, nI_tn (by omega)]; omega
/-- the step that leaves the fewest -/
theorem gD_step {row : Nat → Int32} (hr : RowOk row) {n r : Nat} (hn : n < 59) (h : r < gR row) : (∀ b, gSt row n r b → gD row (59 - n) r ≤ gD row (59 - (n + 1)) b + gLs row n r) ∧ ∃ b, b < gR row ∧ gSt row n r b ∧ gD row (59 - n) r = gD row (59 - (n + 1)) b + gLs row n r := by
  obtain ⟨k, rfl, hk⟩ : ∃ k, n = 58 - k ∧ k ≤ 58 := ⟨58 - n, by omega, by omega⟩
  rw [show 59 - (58 - k) = k + 1 by omega, show 59 - (58 - k + 1) = k by omega, gD]
  refine ⟨fun b hb => ?_, ?_⟩
  · have := mn_le (f := gD row k) (gSt_lt hb h) hb; omega
  · have m := mn_le (f := gD row k) h (show gSt row (58 - k) r r from Or.inl rfl)
    have l := gD_16 hr (k := k) (by omega) h
    obtain ⟨p, p1, p2, p3⟩ := mn_ex (P := gSt row (58 - k) r) (f := gD row k) (k := gR row) (by omega)
    exact ⟨p, p1, p2, by omega⟩
/-- the fewest till a night -/
noncomputable def gTl (row : Nat → Int32) : Nat → Nat → Nat
  | 0, r => gLs row 0 r
  | n + 1, r => mn (fun p => gSt row n p r) (gTl row n) (gR row) + gLs row (n + 1) r
theorem gTl_b {row : Nat → Int32} (hr : RowOk row) : ∀ n r, r < gR row → gTl row n r ≤ 16 * (n + 1)
  | 0, r, _ => by have := gLs_16 hr 0 r; rw [gTl]; omega
  | n + 1, r, h => by
    have := gTl_b hr n r h
    have l := gLs_16 hr (n + 1) r
    have m := mn_le (P := fun p => gSt row n p r) (f := gTl row n) h (Or.inl rfl)
    rw [gTl]; omega
theorem gTl_step {row : Nat → Int32} (hr : RowOk row) {n b : Nat} (hn : n < 59) (h : b < gR row) : (∀ r, r < gR row → gSt row n r b → gTl row (n + 1) b ≤ gTl row n r + gLs row (n + 1) b) ∧ ∃ r, r < gR row ∧ gSt row n r b ∧ gTl row (n + 1) b = gTl row n r + gLs row (n + 1) b := by
  rw [gTl]
  refine ⟨fun r hr2 hb => ?_, ?_⟩
  · have := mn_le (P := fun p => gSt row n p b) (f := gTl row n) hr2 hb; omega
  · have m := mn_le (P := fun p => gSt row n p b) (f := gTl row n) h (Or.inl rfl)
    have l := gTl_b hr n b h
    obtain ⟨p, p1, p2, p3⟩ := mn_ex (P := fun p => gSt row n p b) (f := gTl row n) (k := gR row) (by omega)
    exact ⟨p, p1, p2, by omega⟩
noncomputable def gF (row : Nat → Int32) : Nat := mn (fun _ => True) (gD row 59) (gR row)
theorem gF_le {row : Nat → Int32} {r : Nat} (h : r < gR row) : gF row ≤ gD row 59 r := mn_le h trivial
theorem gF_16 {row : Nat → Int32} (hr : RowOk row) : gF row ≤ 16 := by
  have h : 0 < gR row := hr.1.1
  have := gF_le h; have := gD_16 hr (k := 59) (by omega) h; omega
theorem gF_ex {row : Nat → Int32} (hr : RowOk row) : ∃ r, r < gR row ∧ gD row 59 r = gF row := by
  have := gF_16 hr
  obtain ⟨p, p1, _, p3⟩ := mn_ex (P := fun _ => True) (f := gD row 59) (k := gR row) (by unfold gF at this; omega)
  exact ⟨p, p1, p3⟩
/-- followed from the starts on by the best steps -/
def gFo (row : Nat → Int32) : Nat → Nat → Prop
  | 0, r => r < gR row ∧ gD row 59 r = gF row
  | n + 1, b => ∃ r, r < gR row ∧ gFo row n r ∧ gSt row n r b ∧ gD row (59 - n) r = gD row (59 - (n + 1)) b + gLs row n r
theorem gFo_lt {row : Nat → Int32} : ∀ {n r : Nat}, gFo row n r → r < gR row
  | 0, _, h => h.1
  | _ + 1, _, ⟨_, h1, _, h2, _⟩ => gSt_lt h2 h1
theorem gTD_ge {row : Nat → Int32} (hr : RowOk row) : ∀ n r, n ≤ 59 → r < gR row → gF row + gLs row n r ≤ gTl row n r + gD row (59 - n) r
  | 0, r, _, h => by have := gF_le h; rw [gTl]; show _ ≤ _ + gD row 59 r; omega
  | n + 1, b, hn, h => by
    obtain ⟨_, p, p1, p2, p3⟩ := gTl_step hr (n := n) (by omega) h
    have ih := gTD_ge hr n p (by omega) p1
    have := (gD_step hr (n := n) (by omega) p1).1 b p2
    omega
theorem gFo_iff {row : Nat → Int32} (hr : RowOk row) : ∀ n r, n ≤ 59 → r < gR row → (gFo row n r ↔ gTl row n r + gD row (59 - n) r = gF row + gLs row n r)
  | 0, r, _, h => by
    rw [gFo, gTl]; show _ ↔ _ + gD row 59 r = _
    exact ⟨fun q => by omega, fun q => ⟨h, by omega⟩⟩
  | n + 1, b, hn, h => by
    obtain ⟨t1, p, p1, p2, p3⟩ := gTl_step hr (n := n) (by omega) h
    rw [gFo]
    constructor
    · rintro ⟨r, r1, r2, r3, r4⟩
      have ih := (gFo_iff hr n r (by omega) r1).mp r2
      have := t1 r r1 r3
      have := gTD_ge hr (n + 1) b hn h
      omega
    · intro q
      have ih := gTD_ge hr n p (by omega) p1
      have := (gD_step hr (n := n) (by omega) p1).1 b p2
      refine ⟨p, p1, (gFo_iff hr n p (by omega) p1).mpr (by omega), p2, by omega⟩
/-- the first way of the fewest -/
def IsLow (P : Nat → Prop) (k : Nat) : Prop := P k ∧ ∀ j, j < k → ¬ P j
theorem IsLow.uniq {P : Nat → Prop} {a b : Nat} (ha : IsLow P a) (hb : IsLow P b) : a = b := by
  rcases Nat.lt_trichotomy a b with l | l | l
  · exact absurd ha.1 (hb.2 a l)
  · exact l
  · exact absurd hb.1 (ha.2 b l)
def gBs (row : Nat → Int32) (n r b : Nat) : Prop := gSt row n r b ∧ gD row (59 - n) r = gD row (59 - (n + 1)) b + gLs row n r
def FwOk (row : Nat → Int32) (w : Nat → Nat) (m : Nat) : Prop := IsLow (gFo row 0) (w 0) ∧ ∀ n, n < m → IsLow (gBs row n (w n)) (w (n + 1))
theorem FwOk.lt {row : Nat → Int32} {w : Nat → Nat} {m : Nat} (h : FwOk row w m) : ∀ n, n ≤ m → w n < gR row
  | 0, _ => h.1.1.1
  | n + 1, hn => gSt_lt (h.2 n (by omega)).1.1 (h.lt n (by omega))
theorem FwOk.uniq {row : Nat → Int32} {w v : Nat → Nat} {m m' : Nat} (h : FwOk row w m) (h' : FwOk row v m') : ∀ n, n ≤ m → n ≤ m' → w n = v n
  | 0, _, _ => h.1.uniq h'.1
  | n + 1, h1, h2 => by
    have ih := h.uniq h' n (by omega) (by omega)
    have a := h.2 n (by omega)
    have b := h'.2 n (by omega)
    rw [ih] at a
    exact a.uniq b
/-- in how many ways -/
noncomputable def gws (P : Nat → Prop) (f g : Nat → Nat) : Nat → Nat
  | 0 => 0
  | k + 1 => pick (P k) (if f k < mn P f k then g k else if f k = mn P f k then gws P f g k + g k else gws P f g k) (gws P f g k)
theorem gws_b {P : Nat → Prop} {f g : Nat → Nat} {M : Nat} : ∀ {k : Nat}, (∀ p, p < k → P p → g p ≤ M) → gws P f g k ≤ k * M
  | 0, _ => by rw [gws]; omega
  | k + 1, hg => by
    have ih := gws_b (f := f) (k := k) (fun p hp => hg p (by omega))
    rw [gws, Nat.succ_mul]
    by_cases h : P k
    · have := hg k (by omega) h
      rw [pick_t h]
      split
      · omega
      · split <;> omega
    · rw [pick_f h]; omega
theorem gws_ext {P : Nat → Prop} {f g : Nat → Nat} {R : Nat} (h : ∀ p, P p → p < R) : ∀ k, gws P f g (R + k) = gws P f g R
  | 0 => rfl
  | k + 1 => by
    rw [show R + (k + 1) = R + k + 1 by omega, gws, pick_f (fun z => by have := h _ z; omega)]
    exact gws_ext h k
noncomputable def gW (row : Nat → Int32) : Nat → Nat → Nat
  | 0, _ => 1
  | k + 1, r => min 1000000000000 (gws (gSt row (58 - k) r) (gD row k) (gW row k) (gR row))
theorem gW_b (row : Nat → Int32) : ∀ k r, gW row k r ≤ 1000000000000
  | 0, _ => by rw [gW]; omega
  | k + 1, r => by rw [gW]; omega
/-- the ways of all starts: added with a lid, and without one -/
noncomputable def gNu (row : Nat → Int32) : Nat → Nat
  | 0 => 0
  | k + 1 => pick (gD row 59 k = gF row) (min 1000000000000 (gNu row k + gW row 59 k)) (gNu row k)
noncomputable def gNv (row : Nat → Int32) : Nat → Nat
  | 0 => 0
  | k + 1 => gNv row k + pick (gD row 59 k = gF row) (gW row 59 k) 0
theorem gNv_b (row : Nat → Int32) {M : Nat} (hM : ∀ r, gW row 59 r ≤ M) : ∀ k, gNv row k ≤ k * M
  | 0 => by rw [gNv]; omega
  | k + 1 => by
    have := gNv_b row hM k
    have w := hM k
    rw [gNv, Nat.succ_mul]
    by_cases h : gD row 59 k = gF row
    · rw [pick_t h]; omega
    · rw [pick_f h]; omega
theorem gNu_v (row : Nat → Int32) : ∀ k, gNu row k = min 1000000000000 (gNv row k)
  | 0 => by rw [gNu, gNv]; omega
  | k + 1 => by
    have := gNu_v row k
    rw [gNu, gNv]
    by_cases h : gD row 59 k = gF row
    · rw [pick_t h, pick_t h]; omega
    · rw [pick_f h, pick_f h]; omega
/-- what the class has solved -/
def SvOk (row : Nat → Int32) (fw : Int32) (nu : Int64) (lk fi : Nat → Int32) : Prop := fw = nI (gF row) ∧ nu = lN (gNu row (gR row)) ∧ (∀ n, n < 60 → ∀ i, i < 32 → (bt (lk n) i = true ↔ gFo row n i)) ∧ ∃ w, FwOk row w 59 ∧ ∀ n, n < 60 → fi n = nI (w n)
