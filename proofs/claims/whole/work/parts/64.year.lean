/-! A YEAR -/
noncomputable def gWl (row : Nat → Int32) (n a p : Nat) : Nat := pick (gSl row n a p) ((gTell row 1 (nI a) (nI n) (nI p)).toNatClampNeg) 0
theorem gWl_t {row : Nat → Int32} {n a p : Nat} (h : gSl row n a p) : gTell row 1 (nI a) (nI n) (nI p) = nI (gWl row n a p) ∧ gWl row n a p ≤ 99 := by
  obtain ⟨k, k1, k2⟩ := gTell_n row 1 (nI a) (nI n) (nI p)
  unfold gWl
  rw [pick_t h, k2, nI_tn (by omega)]; exact ⟨rfl, k1⟩
theorem gWl_f {row : Nat → Int32} {n a p : Nat} (h : ¬ gSl row n a p) : gWl row n a p = 0 := by unfold gWl; rw [pick_f h]
theorem gWl_b (row : Nat → Int32) (n a p : Nat) : gWl row n a p ≤ 99 := by
  by_cases h : gSl row n a p
  · exact (gWl_t h).2
  · rw [gWl_f h]; omega
noncomputable def gWt (row : Nat → Int32) (n a : Nat) : Nat → Nat
  | 0 => 0
  | k + 1 => gWt row n a k + gWl row n a k
theorem gWt_b {row : Nat → Int32} {n a : Nat} : ∀ k, gWt row n a k ≤ 99 * k
  | 0 => Nat.le_refl _
  | k + 1 => by have := gWt_b (row := row) (n := n) (a := a) k; have := gWl_b row n a k; rw [gWt]; omega
theorem gWt_hi {row : Nat → Int32} {n a : Nat} : ∀ k, gWt row n a (gR row + k) = gWt row n a (gR row)
  | 0 => rfl
  | k + 1 => by
    rw [show gR row + (k + 1) = gR row + k + 1 by omega, gWt, gWt_hi k, gWl_f (fun z => by have := z.2.1; omega)]; rfl
theorem gWt_mono {row : Nat → Int32} {n a j : Nat} : ∀ k, gWt row n a j ≤ gWt row n a (j + k)
  | 0 => Nat.le_refl _
  | k + 1 => by have := gWt_mono (row := row) (n := n) (a := a) (j := j) k; rw [show j + (k + 1) = j + k + 1 by omega, gWt]; omega
/-- the next rock by a draw -/
def nxP (row : Nat → Int32) (n a t q : Nat) : Prop := (IsLow (fun p => t < gWt row n a (p + 1)) q ∧ q < gR row) ∨ (gWt row n a (gR row) ≤ t ∧ q = a)
theorem nxP.uniq {row : Nat → Int32} {n a t q q' : Nat} (h : nxP row n a t q) (h' : nxP row n a t q') : q = q' := by
  have key : ∀ p, IsLow (fun p => t < gWt row n a (p + 1)) p → p < gR row → gWt row n a (gR row) ≤ t → False := by
    intro p h1 h2 h3
    have a1 : t < gWt row n a (p + 1) := h1.1
    have a2 := gWt_mono (row := row) (n := n) (a := a) (j := p + 1) (gR row - (p + 1))
    rw [show p + 1 + (gR row - (p + 1)) = gR row by omega] at a2
    omega
  rcases h with ⟨h1, h2⟩ | ⟨h1, h2⟩ <;> rcases h' with ⟨g1, g2⟩ | ⟨g1, g2⟩
  · exact h1.uniq g1
  · exact (key q h1 h2 g1).elim
  · exact (key q' g1 g2 h1).elim
  · omega
def gDr (s : Nat) : Nat := (s * 1103 + 12345) % 1000003
def gYk (row : Nat → Int32) (seed r0 : Nat) : Nat → Nat → Nat → Prop
  | 0, s, v => s = seed ∧ v = r0
  | k + 1, s, v => ∃ s0 v0, gYk row seed r0 k s0 v0 ∧ s = gDr s0 ∧ nxP row k v0 (gDr s0 % (10 + gWt row k v0 (gR row))) v
theorem gYk_uniq {row : Nat → Int32} {seed r0 : Nat} : ∀ {k s v s' v' : Nat}, gYk row seed r0 k s v → gYk row seed r0 k s' v' → s = s' ∧ v = v'
  | 0, _, _, _, _, ⟨a, b⟩, ⟨c, d⟩ => ⟨a.trans c.symm, b.trans d.symm⟩
  | _ + 1, _, _, _, _, ⟨s0, v0, a, b, c⟩, ⟨s1, v1, a', b', c'⟩ => by
    obtain ⟨rfl, rfl⟩ := gYk_uniq a a'
    exact ⟨b.trans b'.symm, c.uniq c'⟩
theorem gYk_lt {row : Nat → Int32} {seed r0 : Nat} (h0 : r0 < gR row) (h1 : seed ≤ 1000003) : ∀ {k s v : Nat}, gYk row seed r0 k s v → v < gR row ∧ s ≤ 1000003
  | 0, _, _, ⟨a, b⟩ => ⟨b ▸ h0, a ▸ h1⟩
  | _ + 1, _, _, ⟨s0, v0, a, b, c⟩ => by
    refine ⟨?_, by rw [b]; unfold gDr; omega⟩
    rcases c with ⟨_, c⟩ | ⟨_, c⟩
    · exact c
    · rw [c]; exact (gYk_lt h0 h1 a).1
theorem dr_l {s : Nat} (h : s ≤ 1000003) : lN s * 1103 + 12345 - (lN s * 1103 + 12345) / 1000003 * 1000003 = lN (gDr s) := by
  have e : lN s * 1103 + 12345 = lN (s * 1103 + 12345) := by
    rw [show (1103 : Int64) = lN 1103 from rfl, show (12345 : Int64) = lN 12345 from rfl, lN_mul, lN_add]
  rw [e, show (1000003 : Int64) = lN 1000003 from rfl]
  exact pk_lRem (by omega) (by omega) (by omega)
theorem dr_t {s w : Nat} (h : s ≤ 1000003) (h1 : 0 < w) (h2 : w < 1000) : (lN s - lN s / (nI w).toInt64 * (nI w).toInt64).toInt32 = nI (s % w) := by
  rw [nI_toL (by omega), pk_lRem (by omega) h1 (by omega), lN_i]
theorem sX10_nextRock {S : JS} {Q : Int32 → JS → Prop} {a n s : Nat} (hs : jSh S) (hm : MW S) (hB : BC S) (ha : a < gR (jI S 47)) (hn : n < 59) (hse : jJ S 41 3 = lN s) (hs2 : s ≤ 1000003) (h : ∀ S' q, jFr [24, 25, 26, 27, 41, 43] S S' → jFk 41 [3] S S' → BC S' → jJ S' 41 3 = lN (gDr s) → nxP (jI S 47) n a (gDr s % (10 + gWt (jI S 47) n a (gR (jI S 47)))) q → Q (nI q) S') : wX10_nextRock 41 1 23 (nI a) (nI n) S Q := by
  obtain ⟨R1, R2, R3⟩ := hm.1.1
  unfold wX10_nextRock
  refine ⟨shA_23 hs, sX1_learnFrom hs hm hB (by omega) (by omega) (fun S1 f1 B1 _ l1 => ?_)⟩
  have hs1 := f1.sh.mpr hs
  refine ⟨shA_23 hs1, sX1_sails hs1 (by omega) (by omega) ?_⟩
  generalize jI S1 27 (n * 9 + a) = x at l1 ⊢
  have f1 : jFr [24, 25, 26, 27, 41, 43] S S1 := f1.mono (by decide)
  unfold wX10_nextRock_14
  refine jLoop.cnt 9 (fun c q => ∃ S', q = (41, 1, 23, nI a, nI n, x, nI (10 + gWt (jI S 47) n a c), nI c, S') ∧ jFr [24, 25, 26, 27, 41, 43] S S' ∧ jFk 41 [3] S S' ∧ BC S' ∧ jJ S' 41 3 = lN s ∧ ∀ p, p < c → jI S' 43 p = nI (gWl (jI S 47) n a p)) 0 (by omega) ?_ ⟨S1, rfl, f1, sorry, B1, sorry, fun p q => absurd q (Nat.not_lt_zero _)⟩
  sorry
