/-! TOKENS: what both readers cut the tape into -/
def cls (b : Nat) : Nat := if 97 ≤ b ∧ b ≤ 122 then 1 else if 48 ≤ b ∧ b ≤ 57 then 2 else 3
def rnE (P : Nat → Bool) : Nat → Nat → Nat
  | 0, p => p
  | k + 1, p => if P p = true then rnE P k (p + 1) else p
theorem rnE_spec {P : Nat → Bool} {t : Nat} (hP : ∀ x, P x = true → x < t) : ∀ k p, p ≤ t → t ≤ p + k → p ≤ rnE P k p ∧ rnE P k p ≤ t ∧ (∀ x, p ≤ x → x < rnE P k p → P x = true) ∧ ¬ P (rnE P k p) = true
  | 0, p, h, h2 => ⟨Nat.le_refl _, h, fun x x1 x2 => by unfold rnE at x2; omega, fun z => by have := hP _ z; unfold rnE at this; omega⟩
  | k + 1, p, h, h2 => by
    by_cases c : P p = true
    · have := hP _ c
      obtain ⟨a1, a2, a3, a4⟩ := rnE_spec hP k (p + 1) (by omega) (by omega)
      rw [rnE, if_pos c]
      refine ⟨by omega, a2, fun x x1 x2 => ?_, a4⟩
      by_cases z : x = p
      · rw [z]; exact c
      · exact a3 x (by omega) x2
    · rw [rnE, if_neg c]
      exact ⟨Nat.le_refl _, h, fun x x1 x2 => by omega, c⟩
def skp (t : Nat) (bb : Nat → Nat) (p : Nat) : Nat := rnE (fun x => decide (x < t ∧ bb x = 32)) (t - p) p
def rwE (t : Nat) (bb : Nat → Nat) (p : Nat) : Nat := rnE (fun x => decide (x < t ∧ cls (bb x) = cls (bb p))) (t - p) p
def tnd (t : Nat) (bb : Nat → Nat) (p : Nat) : Nat := if t ≤ p then p else if cls (bb p) = 3 then p + 1 else rwE t bb p
def tkA (t : Nat) (bb : Nat → Nat) : Nat → Nat
  | 0 => skp t bb 0
  | i + 1 => skp t bb (tnd t bb (tkA t bb i))
def wcF (f : Nat → Nat) : Nat → Nat
  | 0 => 0
  | n + 1 => wcF f n * 32 + (f n - 96)
def nvF (f : Nat → Nat) : Nat → Nat
  | 0 => 0
  | n + 1 => if 1000 < nvF f n then nvF f n else nvF f n * 10 + (f n - 48)
def mvF (f : Nat → Nat) : Nat → Nat
  | 0 => 0
  | n + 1 => if 1000000 < mvF f n then mvF f n else mvF f n * 10 + (f n - 48)
def sgW (x : Nat) : Nat := if x = 135732402 then 17 else if x = 763276 then 18 else if x = 67155 then 19 else if x = 294 then 20 else if x = 498 then 15 else if x = 1476 then 16 else if x = 14836 then 14 else if x = 605291 then 1 else if x = 655 then 2 else if x = 14982420 then 3 else if x = 20594253 then 4 else if x = 441828 then 5 else if x = 6194 then 6 else 27
def sgM (b : Nat) : Nat := if b = 40 then 22 else if b = 41 then 23 else if b = 42 then 9 else if b = 43 then 7 else if b = 45 then 8 else if b = 47 then 10 else if b = 59 then 21 else if b = 60 then 11 else if b = 61 then 13 else if b = 62 then 12 else if b = 91 then 24 else if b = 93 then 25 else 27
def wxP (t : Nat) (bb : Nat → Nat) (p : Nat) : Nat := if tnd t bb p - p ≤ 10 then wcF (fun k => bb (p + k)) (tnd t bb p - p) else 0
def soP (t : Nat) (bb : Nat → Nat) (p : Nat) : Nat := if t ≤ p then 0 else cls (bb p)
def woP (t : Nat) (bb : Nat → Nat) (p : Nat) : Int64 := if t ≤ p then 0 else if cls (bb p) = 1 then (if tnd t bb p - p ≤ 10 then lN (wcF (fun k => bb (p + k)) (tnd t bb p - p)) else -1) else if cls (bb p) = 2 then lN (mvF (fun k => bb (p + k)) (tnd t bb p - p)) else lN (bb p)
def sgP (t : Nat) (bb : Nat → Nat) (p : Nat) : Nat := if t ≤ p then 26 else if cls (bb p) = 1 then sgW (wxP t bb p) else if cls (bb p) = 2 then (if nvF (fun k => bb (p + k)) (tnd t bb p - p) ≤ 1000 then 0 else 27) else sgM (bb p)
def vlP (t : Nat) (bb : Nat → Nat) (p : Nat) : Nat := if t ≤ p then 0 else if cls (bb p) = 2 then (if nvF (fun k => bb (p + k)) (tnd t bb p - p) ≤ 1000 then nvF (fun k => bb (p + k)) (tnd t bb p - p) else 0) else 0
theorem cls3 (b : Nat) : 1 ≤ cls b ∧ cls b ≤ 3 := by unfold cls; split <;> (try omega); split <;> omega
theorem sgW_r (x : Nat) : (1 ≤ sgW x ∧ sgW x ≤ 6) ∨ (14 ≤ sgW x ∧ sgW x ≤ 20) ∨ sgW x = 27 := by
  generalize e : sgW x = s
  unfold sgW at e
  (repeat' (split at e))
  all_goals omega
theorem sgM_r (x : Nat) : (7 ≤ sgM x ∧ sgM x ≤ 13) ∨ (21 ≤ sgM x ∧ sgM x ≤ 25) ∨ sgM x = 27 := by
  generalize e : sgM x = s
  unfold sgM at e
  (repeat' (split at e))
  all_goals omega
theorem wdT_r : ∀ p ∈ wdT, ((1 ≤ p.2 ∧ p.2 ≤ 6) ∨ (14 ≤ p.2 ∧ p.2 ≤ 20)) ∧ p.1 ≠ -1 := by decide
theorem mkT_r : ∀ p ∈ mkT, (7 ≤ p.2 ∧ p.2 ≤ 13) ∨ (21 ≤ p.2 ∧ p.2 ≤ 25) := by decide
def wdN : List (Nat × Nat) := [(135732402, 17), (763276, 18), (67155, 19), (294, 20), (498, 15), (1476, 16), (14836, 14), (605291, 1), (655, 2), (14982420, 3), (20594253, 4), (441828, 5), (6194, 6)]
theorem sgW_f : ∀ p ∈ wdN, sgW p.1 = p.2 := by decide +kernel
theorem wdN_inj : ∀ p ∈ wdN, ∀ q ∈ wdN, p.2 = q.2 → p.1 = q.1 := by decide +kernel
theorem wdT_N : ∀ p ∈ wdT, ∃ q ∈ wdN, p.1 = lN q.1 ∧ p.2 = q.2 ∧ q.1 < 9000000000000000 ∧ q.2 ≠ 27 := by decide +kernel
theorem sgW_b (x : Nat) : sgW x = 27 ∨ (x, sgW x) ∈ wdN := by
  by_cases c0 : x = 135732402
  · subst c0; exact Or.inr (by decide +kernel)
  by_cases c1 : x = 763276
  · subst c1; exact Or.inr (by decide +kernel)
  by_cases c2 : x = 67155
  · subst c2; exact Or.inr (by decide +kernel)
  by_cases c3 : x = 294
  · subst c3; exact Or.inr (by decide +kernel)
  by_cases c4 : x = 498
  · subst c4; exact Or.inr (by decide +kernel)
  by_cases c5 : x = 1476
  · subst c5; exact Or.inr (by decide +kernel)
  by_cases c6 : x = 14836
  · subst c6; exact Or.inr (by decide +kernel)
  by_cases c7 : x = 605291
  · subst c7; exact Or.inr (by decide +kernel)
  by_cases c8 : x = 655
  · subst c8; exact Or.inr (by decide +kernel)
  by_cases c9 : x = 14982420
  · subst c9; exact Or.inr (by decide +kernel)
  by_cases c10 : x = 20594253
  · subst c10; exact Or.inr (by decide +kernel)
  by_cases c11 : x = 441828
  · subst c11; exact Or.inr (by decide +kernel)
  by_cases c12 : x = 6194
  · subst c12; exact Or.inr (by decide +kernel)
  exact Or.inl (by unfold sgW; rw [if_neg c0, if_neg c1, if_neg c2, if_neg c3, if_neg c4, if_neg c5, if_neg c6, if_neg c7, if_neg c8, if_neg c9, if_neg c10, if_neg c11, if_neg c12])
theorem sgW_iff {x : Nat} (hx : x < 9000000000000000) : ∀ p ∈ wdT, lN x = p.1 ↔ sgW x = p.2 := by
  intro p hp
  obtain ⟨q, hq, e1, e2, l1, l2⟩ := wdT_N p hp
  rw [e1, lN_eq' hx l1, e2]
  refine ⟨fun h => by rw [h]; exact sgW_f q hq, fun h => ?_⟩
  rcases sgW_b x with z | z
  · omega
  · exact wdN_inj _ z q hq h
theorem sgM_iff : ∀ b, b < 256 → ∀ p ∈ mkT, lN b = p.1.toInt64 ↔ sgM b = p.2 := by decide +kernel
section LEXP
variable {t : Nat} {bb : Nat → Nat}
theorem skp_spec {p : Nat} (h : p ≤ t) : p ≤ skp t bb p ∧ skp t bb p ≤ t ∧ (∀ x, p ≤ x → x < skp t bb p → bb x = 32) ∧ (skp t bb p < t → bb (skp t bb p) ≠ 32) := by
  obtain ⟨a1, a2, a3, a4⟩ := rnE_spec (P := fun x => decide (x < t ∧ bb x = 32)) (t := t) (fun x z => (of_decide_eq_true z).1) (t - p) p h (by omega)
  exact ⟨a1, a2, fun x x1 x2 => (of_decide_eq_true (a3 x x1 x2)).2, fun z y => a4 (decide_eq_true ⟨z, y⟩)⟩
theorem rwE_spec {p : Nat} (h : p < t) : p < rwE t bb p ∧ rwE t bb p ≤ t ∧ (∀ x, p ≤ x → x < rwE t bb p → cls (bb x) = cls (bb p)) ∧ (rwE t bb p < t → cls (bb (rwE t bb p)) ≠ cls (bb p)) := by
  obtain ⟨a1, a2, a3, a4⟩ := rnE_spec (P := fun x => decide (x < t ∧ cls (bb x) = cls (bb p))) (t := t) (fun x z => (of_decide_eq_true z).1) (t - p) p (by omega) (by omega)
  refine ⟨?_, a2, fun x x1 x2 => (of_decide_eq_true (a3 x x1 x2)).2, fun z y => a4 (decide_eq_true ⟨z, y⟩)⟩
  rcases Nat.lt_or_ge p (rwE t bb p) with z | z
  · exact z
  · have e : rwE t bb p = p := Nat.le_antisymm z a1
    exact absurd (decide_eq_true ⟨by rw [show rnE _ _ _ = rwE t bb p from rfl, e]; exact h, by rw [show rnE _ _ _ = rwE t bb p from rfl, e]⟩) a4
theorem tnd_spec {p : Nat} (h : p < t) : p < tnd t bb p ∧ tnd t bb p ≤ t ∧ (cls (bb p) = 3 → tnd t bb p = p + 1) ∧ (∀ x, p ≤ x → x < tnd t bb p → cls (bb x) = cls (bb p)) ∧ (cls (bb p) ≠ 3 → tnd t bb p < t → cls (bb (tnd t bb p)) ≠ cls (bb p)) := by
  unfold tnd
  rw [if_neg (by omega)]
  by_cases c : cls (bb p) = 3
  · rw [if_pos c]; exact ⟨by omega, by omega, fun _ => rfl, fun x x1 x2 => by rw [show x = p by omega], fun z => absurd c z⟩
  · rw [if_neg c]
    obtain ⟨a1, a2, a3, a4⟩ := rwE_spec (bb := bb) h
    exact ⟨a1, a2, fun z => absurd z c, a3, fun _ => a4⟩
theorem tnd_t {p : Nat} (h : t ≤ p) : tnd t bb p = p := by unfold tnd; rw [if_pos h]
theorem wcF_lt {f : Nat → Nat} : ∀ n, (∀ k, k < n → f k ≤ 122) → wcF f n < 32 ^ n
  | 0, _ => by unfold wcF; omega
  | n + 1, h => by
    have := wcF_lt n (fun k hk => h k (by omega))
    have := h n (by omega)
    rw [wcF, Nat.pow_succ]; omega
theorem wcF_10 {f : Nat → Nat} {n : Nat} (hn : n ≤ 10) (h : ∀ k, k < n → f k ≤ 122) : wcF f n < 1125899906842625 := by
  have := wcF_lt n h
  have : 32 ^ n ≤ 32 ^ 10 := Nat.pow_le_pow_right (by omega) hn
  omega
theorem wcF_inj {f g : Nat → Nat} : ∀ n m, (∀ k, k < n → 97 ≤ f k ∧ f k ≤ 122) → (∀ k, k < m → 97 ≤ g k ∧ g k ≤ 122) → wcF f n = wcF g m → n = m ∧ ∀ k, k < n → f k = g k
  | 0, 0, _, _, _ => ⟨rfl, fun k hk => by omega⟩
  | 0, m + 1, _, hg, e => by have := hg m (by omega); rw [wcF, wcF] at e; omega
  | n + 1, 0, hf, _, e => by have := hf n (by omega); rw [wcF, wcF] at e; omega
  | n + 1, m + 1, hf, hg, e => by
    have h1 := hf n (by omega)
    have h2 := hg m (by omega)
    rw [wcF, wcF] at e
    obtain ⟨e1, e2⟩ := wcF_inj n m (fun k hk => hf k (by omega)) (fun k hk => hg k (by omega)) (by omega)
    subst e1
    refine ⟨rfl, fun k hk => ?_⟩
    by_cases z : k = n
    · rw [z]; omega
    · exact e2 k (by omega)
theorem wcF_cg {f g : Nat → Nat} : ∀ n, (∀ k, k < n → f k = g k) → wcF f n = wcF g n
  | 0, _ => rfl
  | n + 1, h => by rw [wcF, wcF, h n (by omega), wcF_cg n (fun k hk => h k (by omega))]
theorem nvF_le {f : Nat → Nat} : ∀ n, (∀ k, k < n → f k ≤ 57) → nvF f n ≤ 10009
  | 0, _ => by unfold nvF; omega
  | n + 1, h => by
    have := nvF_le n (fun k hk => h k (by omega))
    have := h n (by omega)
    rw [nvF]; split <;> omega
theorem mvF_le {f : Nat → Nat} : ∀ n, (∀ k, k < n → f k ≤ 57) → mvF f n ≤ 10000009
  | 0, _ => by unfold mvF; omega
  | n + 1, h => by
    have := mvF_le n (fun k hk => h k (by omega))
    have := h n (by omega)
    rw [mvF]; split <;> omega
theorem nv_mv {f : Nat → Nat} : ∀ n, (nvF f n ≤ 1000 ∧ mvF f n = nvF f n) ∨ (1000 < nvF f n ∧ 1000 < mvF f n)
  | 0 => Or.inl ⟨by unfold nvF; omega, rfl⟩
  | n + 1 => by
    rw [nvF, mvF]
    rcases nv_mv (f := f) n with ⟨a, b⟩ | ⟨a, b⟩
    · rw [if_neg (by omega), if_neg (by omega), b]; omega
    · rw [if_pos a]; split <;> omega
theorem cls_1 {b : Nat} (h : cls b = 1) : 97 ≤ b ∧ b ≤ 122 := by unfold cls at h; split at h <;> (try assumption); split at h <;> omega
theorem cls_2 {b : Nat} (h : cls b = 2) : 48 ≤ b ∧ b ≤ 57 := by unfold cls at h; split at h <;> (try omega); split at h <;> (try assumption); omega
theorem let_of {p : Nat} (h : p < t) (c : cls (bb p) = 1) : ∀ k, k < tnd t bb p - p → 97 ≤ bb (p + k) ∧ bb (p + k) ≤ 122 := fun k hk => cls_1 (by rw [(tnd_spec h).2.2.2.1 (p + k) (by omega) (by omega)]; exact c)
theorem dig_of {p : Nat} (h : p < t) (c : cls (bb p) = 2) : ∀ k, k < tnd t bb p - p → 48 ≤ bb (p + k) ∧ bb (p + k) ≤ 57 := fun k hk => cls_2 (by rw [(tnd_spec h).2.2.2.1 (p + k) (by omega) (by omega)]; exact c)
theorem lx_at (hb : ∀ j, j < t → bb j < 256) (p : Nat) : soP t bb p ≤ 3 ∧ (soP t bb p = 0 ↔ sgP t bb p = 26) ∧ (∀ q ∈ wdT, (soP t bb p = 1 ∧ woP t bb p = q.1) ↔ sgP t bb p = q.2) ∧ (∀ q ∈ mkT, (soP t bb p = 3 ∧ woP t bb p = q.1.toInt64) ↔ sgP t bb p = q.2) ∧ ((soP t bb p = 2 ∧ woP t bb p ≤ 1000) ↔ sgP t bb p = 0) ∧ (sgP t bb p = 0 → woP t bb p = lN (vlP t bb p)) := by
  by_cases ht : t ≤ p
  · have e1 : soP t bb p = 0 := by unfold soP; rw [if_pos ht]
    have e2 : sgP t bb p = 26 := by unfold sgP; rw [if_pos ht]
    rw [e1, e2]
    refine ⟨by omega, ⟨fun _ => rfl, fun _ => rfl⟩, fun q hq => ⟨fun z => by omega, fun z => ?_⟩, fun q hq => ⟨fun z => by omega, fun z => ?_⟩, ⟨fun z => by omega, fun z => by omega⟩, fun z => by omega⟩
    · have := (wdT_r q hq).1; omega
    · have := mkT_r q hq; omega
  · have hp : p < t := by omega
    have c3 := cls3 (bb p)
    rcases (by omega : cls (bb p) = 1 ∨ cls (bb p) = 2 ∨ cls (bb p) = 3) with c | c | c
    · have e1 : soP t bb p = 1 := by unfold soP; rw [if_neg ht]; exact c
      have e2 : sgP t bb p = sgW (wxP t bb p) := by unfold sgP; rw [if_neg ht, if_pos c]
      have e3 : woP t bb p = if tnd t bb p - p ≤ 10 then lN (wcF (fun k => bb (p + k)) (tnd t bb p - p)) else -1 := by unfold woP; rw [if_neg ht, if_pos c]
      have r := sgW_r (wxP t bb p)
      rw [e1, e2, e3]
      refine ⟨by omega, ⟨fun z => by omega, fun z => by omega⟩, fun q hq => ?_, fun q hq => ⟨fun z => by omega, fun z => ?_⟩, ⟨fun z => by omega, fun z => by omega⟩, fun z => by omega⟩
      · unfold wxP at r ⊢
        by_cases l : tnd t bb p - p ≤ 10
        · rw [if_pos l, if_pos l]
          have := sgW_iff (x := wcF (fun k => bb (p + k)) (tnd t bb p - p)) (by have := wcF_10 (f := fun k => bb (p + k)) l (fun k hk => (let_of hp c k hk).2); omega) q hq
          exact ⟨fun z => this.mp z.2, fun z => ⟨rfl, this.mpr z⟩⟩
        · rw [if_neg l, if_neg l]
          have w := wdT_r q hq
          refine ⟨fun z => absurd z.2.symm w.2, fun z => ?_⟩
          have : sgW 0 = 27 := by decide +kernel
          omega
      · have := mkT_r q hq; omega
    · have e1 : soP t bb p = 2 := by unfold soP; rw [if_neg ht]; exact c
      have e3 : woP t bb p = lN (mvF (fun k => bb (p + k)) (tnd t bb p - p)) := by unfold woP; rw [if_neg ht, if_neg (by omega), if_pos c]
      have nm := nv_mv (f := fun k => bb (p + k)) (tnd t bb p - p)
      have ml := mvF_le (f := fun k => bb (p + k)) (tnd t bb p - p) (fun k hk => (dig_of hp c k hk).2)
      rw [e1, e3]
      rcases nm with ⟨a, b⟩ | ⟨a, b⟩
      · have e2 : sgP t bb p = 0 := by unfold sgP; rw [if_neg ht, if_neg (by omega), if_pos c, if_pos a]
        have e4 : vlP t bb p = nvF (fun k => bb (p + k)) (tnd t bb p - p) := by unfold vlP; rw [if_neg ht, if_pos c, if_pos a]
        rw [e2, e4, b]
        refine ⟨by omega, ⟨fun z => by omega, fun z => by omega⟩, fun q hq => ⟨fun z => by omega, fun z => ?_⟩, fun q hq => ⟨fun z => by omega, fun z => ?_⟩, ⟨fun _ => rfl, fun _ => ⟨rfl, ?_⟩⟩, fun _ => rfl⟩
        · have := (wdT_r q hq).1; omega
        · have := mkT_r q hq; omega
        · rw [show (1000 : Int64) = lN 1000 from rfl, lN_le' (by omega) (by omega)]; exact a
      · have e2 : sgP t bb p = 27 := by unfold sgP; rw [if_neg ht, if_neg (by omega), if_pos c, if_neg (by omega)]
        rw [e2]
        refine ⟨by omega, ⟨fun z => by omega, fun z => by omega⟩, fun q hq => ⟨fun z => by omega, fun z => ?_⟩, fun q hq => ⟨fun z => by omega, fun z => ?_⟩, ⟨fun z => ?_, fun z => by omega⟩, fun z => by omega⟩
        · have := (wdT_r q hq).1; omega
        · have := mkT_r q hq; omega
        · have := z.2; rw [show (1000 : Int64) = lN 1000 from rfl, lN_le' (by omega) (by omega)] at this; omega
    · have e1 : soP t bb p = 3 := by unfold soP; rw [if_neg ht]; exact c
      have e2 : sgP t bb p = sgM (bb p) := by unfold sgP; rw [if_neg ht, if_neg (by omega), if_neg (by omega)]
      have e3 : woP t bb p = lN (bb p) := by unfold woP; rw [if_neg ht, if_neg (by omega), if_neg (by omega)]
      have r := sgM_r (bb p)
      rw [e1, e2, e3]
      refine ⟨by omega, ⟨fun z => by omega, fun z => by omega⟩, fun q hq => ⟨fun z => by omega, fun z => ?_⟩, fun q hq => ?_, ⟨fun z => by omega, fun z => by omega⟩, fun z => by omega⟩
      · have := (wdT_r q hq).1; omega
      · have := sgM_iff (bb p) (hb p hp) q hq
        exact ⟨fun z => this.mp z.2, fun z => ⟨rfl, this.mpr z⟩⟩
theorem tkA_spec (i : Nat) : tkA t bb i ≤ t := by
  induction i with
  | zero => exact (skp_spec (Nat.zero_le _)).2.1
  | succ i ih =>
    have : tnd t bb (tkA t bb i) ≤ t := by
      rcases Nat.lt_or_ge (tkA t bb i) t with z | z
      · exact (tnd_spec z).2.1
      · rw [tnd_t z]; exact ih
    exact (skp_spec this).2.1
theorem tkA_lt {i : Nat} (h : tkA t bb i < t) : tkA t bb i < tnd t bb (tkA t bb i) ∧ tnd t bb (tkA t bb i) ≤ tkA t bb (i + 1) ∧ tnd t bb (tkA t bb i) ≤ t := by
  obtain ⟨a1, a2, _⟩ := tnd_spec (bb := bb) h
  exact ⟨a1, (skp_spec a2).1, a2⟩
/-- the end comes -/
theorem tk_end : ∃ e, tkA t bb e = t ∧ ∀ i, i < e → tkA t bb i < t := by
  have key : ∀ n, (∃ e, tkA t bb e = t ∧ ∀ i, i < e → tkA t bb i < t) ∨ ∀ i, i ≤ n → tkA t bb i < t ∧ i ≤ tkA t bb i := by
    intro n
    induction n with
    | zero =>
      rcases Nat.lt_or_ge (tkA t bb 0) t with z | z
      · exact Or.inr (fun i hi => by rw [show i = 0 by omega]; exact ⟨z, Nat.zero_le _⟩)
      · exact Or.inl ⟨0, Nat.le_antisymm (tkA_spec 0) z, fun i hi => by omega⟩
    | succ n ih =>
      rcases ih with ih | ih
      · exact Or.inl ih
      · have l := tkA_lt (ih n (Nat.le_refl _)).1
        have := (ih n (Nat.le_refl _)).2
        rcases Nat.lt_or_ge (tkA t bb (n + 1)) t with z | z
        · refine Or.inr (fun i hi => ?_)
          by_cases q : i ≤ n
          · exact ih i q
          · rw [show i = n + 1 by omega]; exact ⟨z, by omega⟩
        · exact Or.inl ⟨n + 1, Nat.le_antisymm (tkA_spec _) z, fun i hi => (ih i (by omega)).1⟩
  rcases key t with h | h
  · exact h
  · have := h t (Nat.le_refl _); omega
theorem tk_ok {e : Nat} (ht : t ≤ 400) (he : tkA t bb e = t) (hi : ∀ i, i < e → tkA t bb i < t) : TkOk t e (tkA t bb) (fun i => sgP t bb (tkA t bb i)) (fun i => vlP t bb (tkA t bb i)) := by
  have up : ∀ i, i ≤ e → i ≤ tkA t bb i := by
    intro i
    induction i with
    | zero => intro _; omega
    | succ i ih => intro h; have := ih (by omega); have := tkA_lt (hi i (by omega)); omega
  have ev : ∀ p, vlP t bb p ≤ 1000 := by
    intro p; unfold vlP; split <;> (try omega); split <;> (try omega); split <;> omega
  have ez : ∀ p, sgP t bb p ≠ 0 → vlP t bb p = 0 := by
    intro p h; unfold sgP at h; unfold vlP
    by_cases c1 : t ≤ p
    · rw [if_pos c1]
    · rw [if_neg c1] at h ⊢
      by_cases c2 : cls (bb p) = 2
      · rw [if_neg (by omega), if_pos c2] at h; rw [if_pos c2]
        split at h
        · exact absurd rfl h
        · rename_i z; rw [if_neg z]
      · rw [if_neg c2]
  refine ⟨⟨?_, ht, he, ?_⟩, fun i hie => ?_, fun i hie => ⟨up i hie, tkA_spec i⟩, fun i => ev _, fun i h => ez _ h⟩
  · have := up e (Nat.le_refl _); omega
  · show sgP t bb (tkA t bb e) = 26
    unfold sgP; rw [if_pos (by omega)]
  · have l := hi i hie
    have tl := tkA_lt l
    have c3 := cls3 (bb (tkA t bb i))
    refine ⟨by omega, ?_⟩
    show sgP t bb (tkA t bb i) ≤ 27 ∧ sgP t bb (tkA t bb i) ≠ 26 ∧ _
    have hs : ∀ s, s = sgP t bb (tkA t bb i) → s ≤ 27 ∧ s ≠ 26 ∧ (s = 15 ∨ s = 16 → tkA t bb i + 2 ≤ tkA t bb (i + 1)) := by
      intro s es
      unfold sgP at es
      rw [if_neg (by omega)] at es
      rcases (by omega : cls (bb (tkA t bb i)) = 1 ∨ cls (bb (tkA t bb i)) = 2 ∨ cls (bb (tkA t bb i)) = 3) with c | c | c
      · rw [if_pos c] at es
        have r := sgW_r (wxP t bb (tkA t bb i))
        refine ⟨by omega, by omega, fun z => ?_⟩
        rcases Nat.lt_or_ge (tnd t bb (tkA t bb i) - tkA t bb i) 2 with y | y
        · exfalso
          have w := let_of l c 0 (by omega)
          rw [Nat.add_zero] at w
          have ex : wxP t bb (tkA t bb i) = bb (tkA t bb i) - 96 := by
            unfold wxP
            rw [show tnd t bb (tkA t bb i) - tkA t bb i = 1 by omega, if_pos (by omega), wcF, wcF]; simp only [Nat.add_zero, Nat.zero_mul, Nat.zero_add]
          rw [ex] at es
          have : ∀ x, x < 27 → sgW x = 27 := by decide
          rw [this _ (by omega)] at es
          omega
        · omega
      · rw [if_neg (by omega), if_pos c] at es
        split at es <;> exact ⟨by omega, by omega, fun z => by omega⟩
      · rw [if_neg (by omega), if_neg (by omega)] at es
        have r := sgM_r (bb (tkA t bb i))
        exact ⟨by omega, by omega, fun z => by omega⟩
    exact hs _ rfl
end LEXP
