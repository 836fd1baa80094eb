/-! THE LAW'S LOOP: every call of every script -/
section LOOP
variable {L : Nat} {xs : Nat → Int32}
theorem law_roll {G : Nat → List Value → JS → (Option Value → JS → Prop) → Prop} {l3 : Int32} {rc rs : Nat} {S : JS} {Q : Int32 → JS → Prop} (h : ∀ K : Nat → Nat → Int32 → Nat → Nat → JS → Prop, (∀ l3' rc' rs' S', wL_law_10 G 0 45 l3' rc' rs' L xs S' Q → K 0 45 l3' rc' rs' S') → bL_law_10 G K 0 45 l3 rc rs L xs S Q) : wL_law_10 G 0 45 l3 rc rs L xs S Q := by
  unfold wL_law_10
  exact jLoop.roll (h _ (fun _ _ _ _ h => h))
theorem law_go {Q : Int32 → JS → Prop} (hL : L ≤ 3072) (hQ : ∀ S, Q 1 S) : ∀ m k S rc rs, k + m = 512 → Inv S → jN S ≤ 69 + 12 * k → 12 * m ≤ rc → 2006 * m ≤ rs → wL_law_10 (jCall jmt jbud 100) 0 45 (nI (6 * k)) rc rs L xs S Q := by
  intro m
  induction m with
  | zero =>
    intro k S rc rs e0 hI hN h1 h2
    refine law_roll (fun K hK => ?_)
    unfold bL_law_10
    refine ⟨fun _ => hQ S, fun z => absurd ?_ z⟩
    rcases Nat.lt_or_ge L 6 with q | q
    · rcases (by omega : L = 0 ∨ L = 1 ∨ L = 2 ∨ L = 3 ∨ L = 4 ∨ L = 5) with e | e | e | e | e | e <;> subst e <;> rw [show k = 512 by omega] <;> decide
    · rw [show Int32.ofNat L = nI L from rfl, li_6, nI_sub q, nI_lt' (by omega) (by omega)]; omega
  | succ m ih =>
    intro k S rc rs e0 hI hN h1 h2
    have hs := hI.1
    refine law_roll (fun K hK => ?_)
    rcases Nat.lt_or_ge L (6 * k + 6) with q | q
    · unfold bL_law_10
      refine ⟨fun _ => hQ S, fun z => absurd ?_ z⟩
      rcases Nat.lt_or_ge L 6 with q2 | q2
      · have neg : Int32.ofNat L - 6 < 0 := by
          rcases (by omega : L = 0 ∨ L = 1 ∨ L = 2 ∨ L = 3 ∨ L = 4 ∨ L = 5) with e | e | e | e | e | e <;> subst e <;> decide
        have pos : ¬ nI (6 * k) < 0 := nI_pos (by omega)
        lia
      · rw [show Int32.ofNat L = nI L from rfl, li_6, nI_sub q2, nI_lt' (by omega) (by omega)]; omega
    have go : ∀ rc' rs', 12 * m ≤ rc' → 2006 * m ≤ rs' → ∀ S2, Inv S2 → jN S2 ≤ jN S + 12 → wL_law_826 (jCall jmt jbud 100) K 0 45 (nI (6 * k)) rc' rs' L xs S2 Q := by
      intro rc' rs' a1 a2 S2 i2 n2 x19 e19
      rw [e19, li_6, nI_add, show 6 * k + 6 = 6 * (k + 1) by omega]
      exact hK _ _ _ _ (ih (k + 1) S2 rc' rs' (by omega) i2 (by omega) a1 a2)
    have g := go rc rs (by omega) (by omega)
    have v0 : vp_in (nI (6 * k)) L := nI_in2 (by omega) (by omega)
    have v1 : vp_in (nI (6 * k) + 1) L := by rw [nI_1]; exact nI_in2 (by omega) (by omega)
    have v2 : vp_in (nI (6 * k) + 2) L := by rw [li_2, nI_add]; exact nI_in2 (by omega) (by omega)
    have v3 : vp_in (nI (6 * k) + 3) L := by rw [li_3, nI_add]; exact nI_in2 (by omega) (by omega)
    have v4 : vp_in (nI (6 * k) + 4) L := by rw [show (4 : Int32) = nI 4 from rfl, nI_add]; exact nI_in2 (by omega) (by omega)
    have v5 : vp_in (nI (6 * k) + 5) L := by rw [li_5, nI_add]; exact nI_in2 (by omega) (by omega)
    have a0 := shA_0 hs
    unfold bL_law_10
    refine ⟨fun _ => hQ S, fun _ => ⟨v0, ?_⟩⟩
    refine ⟨fun _ => ⟨v1, v2, a0, q_terms hI (fun r S1 m => ⟨v1, v2, shA_45 m.1, m.2 _ (fun S2 i2 n2 => ⟨fun _ => g S2 i2 n2, fun z => absurd rfl z⟩)⟩)⟩, fun _ => ?_⟩
    refine ⟨fun _ => ⟨v1, v2, a0, q_storm hI (fun r S1 m => ⟨v1, v2, shA_45 m.1, m.2 _ (fun S2 i2 n2 => ⟨fun _ => g S2 i2 n2, fun z => absurd rfl z⟩)⟩)⟩, fun _ => ?_⟩
    refine ⟨fun _ => ⟨v1, v2, v3, a0, q_wed hI (fun r S1 m => ⟨v1, v2, v3, shA_45 m.1, m.2 _ (fun S2 i2 n2 => ⟨fun _ => g S2 i2 n2, fun z => absurd rfl z⟩)⟩)⟩, fun _ => ?_⟩
    refine ⟨fun _ => ⟨v1, a0, q_jilt hI (fun r S1 m => ⟨v1, shA_45 m.1, m.2 _ (fun S2 i2 n2 => ⟨fun _ => g S2 i2 n2, fun z => absurd rfl z⟩)⟩)⟩, fun _ => ?_⟩
    refine ⟨fun _ => ⟨v1, v2, v3, v4, v5, a0, q_feed hI (fun r S1 m => ⟨v1, v2, v3, v4, v5, shA_45 m.1, m.2 _ (fun S2 i2 n2 => ⟨fun _ => g S2 i2 n2, fun z => absurd rfl z⟩)⟩)⟩, fun _ => ?_⟩
    refine ⟨fun _ => ⟨v1, a0, q_end hI (fun r S1 m => ⟨v1, shA_45 m.1, m.2 _ (fun S2 i2 n2 => ⟨fun _ => g S2 i2 n2, fun z => absurd rfl z⟩)⟩)⟩, fun _ => ?_⟩
    refine ⟨fun _ => ⟨a0, q_row hI (fun r S1 m => ⟨shA_45 m.1, m.2 _ (fun S2 i2 n2 => ⟨fun _ => g S2 i2 n2, fun z => absurd rfl z⟩)⟩)⟩, fun _ => ?_⟩
    refine ⟨fun _ => ⟨a0, q_spray hI (fun r S1 m => ⟨shA_45 m.1, m.2 _ (fun S2 i2 n2 => ⟨fun _ => g S2 i2 n2, fun z => absurd rfl z⟩)⟩)⟩, fun _ => ?_⟩
    refine ⟨fun _ => ⟨a0, by omega, by omega, vX11_law 100 (by omega) (fun _ _ _ _ z => z) (q_law (D := 99) hI (by omega) (by omega) (fun r S1 m => ⟨shA_45 m.1, m.2 _ (fun S2 i2 n2 => ⟨fun _ => go (rc - 6) (rs - 2006) (by omega) (by omega) S2 i2 n2, fun z => absurd rfl z⟩)⟩))⟩, fun _ => ?_⟩
    refine ⟨fun _ => ⟨a0, q_fault hI (fun r S1 m => ⟨shA_45 m.1, m.2 _ (fun S2 i2 n2 => ⟨fun _ => g S2 i2 n2, fun z => absurd rfl z⟩)⟩)⟩, fun _ => ?_⟩
    refine ⟨fun _ => ⟨v1, a0, q_force hI (fun r S1 m => ⟨v1, shA_45 m.1, m.2 _ (fun S2 i2 n2 => ⟨fun _ => g S2 i2 n2, fun z => absurd rfl z⟩)⟩)⟩, fun _ => ?_⟩
    refine ⟨fun _ => ⟨v1, v2, v3, a0, q_goes hI (fun r S1 m => ⟨v1, v2, v3, shA_45 m.1, m.2 _ (fun S2 i2 n2 => ⟨fun _ => g S2 i2 n2, fun z => absurd rfl z⟩)⟩)⟩, fun _ => ?_⟩
    refine ⟨fun _ => ⟨v1, v2, v3, a0, q_of hI (fun r S1 m => ⟨v1, v2, v3, shA_45 m.1, m.2 _ (fun S2 i2 n2 => ⟨fun _ => g S2 i2 n2, fun z => absurd rfl z⟩)⟩)⟩, fun _ => ?_⟩
    refine ⟨fun _ => ⟨v1, v2, v3, a0, q_will hI (fun r S1 m => ⟨v1, v2, v3, shA_45 m.1, m.2 _ (fun S2 i2 n2 => ⟨fun _ => g S2 i2 n2, fun z => absurd rfl z⟩)⟩)⟩, fun _ => ?_⟩
    refine ⟨fun _ => ⟨v1, a0, q_oar hI (fun r S1 m => ⟨v1, shA_45 m.1, m.2 _ (fun S2 i2 n2 => ⟨fun _ => g S2 i2 n2, fun z => absurd rfl z⟩)⟩)⟩, fun _ => ?_⟩
    refine ⟨fun _ => ⟨a0, q_unrow hI (fun r S1 m => ⟨shA_45 m.1, m.2 _ (fun S2 i2 n2 => ⟨fun _ => g S2 i2 n2, fun z => absurd rfl z⟩)⟩)⟩, fun _ => ?_⟩
    refine ⟨fun _ => ⟨v1, a0, q_trail hI (fun r S1 m => ⟨v1, shA_45 m.1, m.2 _ (fun S2 i2 n2 => ⟨fun _ => g S2 i2 n2, fun z => absurd rfl z⟩)⟩)⟩, fun _ => ?_⟩
    refine ⟨fun _ => ⟨a0, q_unwarned hI (fun r S1 m => ⟨shA_45 m.1, m.2 _ (fun S2 i2 n2 => ⟨fun _ => g S2 i2 n2, fun z => absurd rfl z⟩)⟩)⟩, fun _ => ?_⟩
    refine ⟨fun _ => ⟨v1, v2, v3, a0, q_report hI (fun r S1 m => ⟨v1, v2, v3, shA_45 m.1, m.2 _ (fun S2 i2 n2 => ⟨fun _ => g S2 i2 n2, fun z => absurd rfl z⟩)⟩)⟩, fun _ => ?_⟩
    refine ⟨fun _ => ⟨v1, a0, q_burn hI (fun r S1 m => ⟨v1, shA_45 m.1, m.2 _ (fun S2 i2 n2 => ⟨fun _ => g S2 i2 n2, fun z => absurd rfl z⟩)⟩)⟩, fun _ => ?_⟩
    refine ⟨fun _ => ⟨v1, a0, q_could hI (fun r S1 m => ⟨v1, shA_45 m.1, m.2 _ (fun S2 i2 n2 => ⟨fun _ => g S2 i2 n2, fun z => absurd rfl z⟩)⟩)⟩, fun _ => ?_⟩
    refine ⟨fun _ => ⟨a0, q_lies hI (fun r S1 m => ⟨shA_45 m.1, m.2 _ (fun S2 i2 n2 => ⟨fun _ => g S2 i2 n2, fun z => absurd rfl z⟩)⟩)⟩, fun _ => ?_⟩
    refine ⟨fun _ => ⟨a0, q_ways hI (fun r S1 m => ⟨shA_45 m.1, m.2 _ (fun S2 i2 n2 => ⟨fun _ => g S2 i2 n2, fun z => absurd ((lg_cmp_eq _ _).mpr rfl) z⟩)⟩)⟩, fun _ => ?_⟩
    refine ⟨fun _ => ⟨v1, v2, a0, q_likely hI (fun r S1 m => ⟨v1, v2, shA_45 m.1, m.2 _ (fun S2 i2 n2 => ⟨fun _ => g S2 i2 n2, fun z => absurd rfl z⟩)⟩)⟩, fun _ => ?_⟩
    refine ⟨fun _ => ⟨v1, a0, q_liars hI (fun r S1 m => ⟨v1, shA_45 m.1, m.2 _ (fun S2 i2 n2 => ⟨fun _ => g S2 i2 n2, fun z => absurd rfl z⟩)⟩)⟩, fun _ => ?_⟩
    refine ⟨fun _ => ⟨v1, v2, v3, v4, a0, q_round hI (fun r S1 m => ⟨v1, v2, v3, v4, shA_45 m.1, m.2 _ (fun S2 i2 n2 => ⟨fun _ => g S2 i2 n2, fun z => absurd rfl z⟩)⟩)⟩, fun _ => ?_⟩
    refine ⟨fun _ => ⟨v1, v2, v3, a0, q_reach hI (fun r S1 m => ⟨v1, v2, v3, shA_45 m.1, m.2 _ (fun S2 i2 n2 => ⟨fun _ => g S2 i2 n2, fun z => absurd rfl z⟩)⟩)⟩, fun _ => ?_⟩
    refine ⟨fun _ => ⟨v1, v2, v3, v4, a0, q_guard hI (fun r S1 m => ⟨v1, v2, v3, v4, shA_45 m.1, m.2 _ (fun S2 i2 n2 => ⟨fun _ => g S2 i2 n2, fun z => absurd rfl z⟩)⟩)⟩, fun _ => ?_⟩
    refine ⟨fun _ => ⟨v1, v2, a0, q_sea hI (fun r S1 m => ⟨v1, v2, shA_45 m.1, m.2 _ (fun S2 i2 n2 => ⟨fun _ => g S2 i2 n2, fun z => absurd rfl z⟩)⟩)⟩, fun _ => ?_⟩
    refine ⟨fun _ => ⟨v1, v2, a0, q_search hI (fun r S1 m => ⟨v1, v2, shA_45 m.1, m.2 _ (fun S2 i2 n2 => ⟨fun _ => g S2 i2 n2, fun z => absurd ((lg_cmp_eq _ _).mpr rfl) z⟩)⟩)⟩, fun _ => ?_⟩
    refine ⟨fun _ => ⟨v1, v2, a0, q_year hI (fun r S1 m => ⟨v1, v2, shA_45 m.1, m.2 _ (fun S2 i2 n2 => ⟨fun _ => g S2 i2 n2, fun z => absurd rfl z⟩)⟩)⟩, fun _ => ?_⟩
    refine ⟨fun _ => ⟨v1, a0, q_drawn hI (fun r S1 m => ⟨v1, shA_45 m.1, m.2 _ (fun S2 i2 n2 => ⟨fun _ => g S2 i2 n2, fun z => absurd rfl z⟩)⟩)⟩, fun _ => ?_⟩
    refine ⟨fun _ => ⟨v1, a0, by omega, by omega, q_image hI (by omega) (fun r S1 m => ⟨v1, shA_45 m.1, m.2 _ (fun S2 i2 n2 => ⟨fun _ => go (rc - 12) (rs - 194) (by omega) (by omega) S2 i2 n2, fun z => absurd rfl z⟩)⟩)⟩, fun _ => ?_⟩
    refine ⟨fun _ => ⟨v1, a0, q_back hI (fun r S1 m => ⟨v1, shA_45 m.1, m.2 _ (fun S2 i2 n2 => ⟨fun _ => g S2 i2 n2, fun z => absurd rfl z⟩)⟩)⟩, fun _ => ?_⟩
    refine ⟨fun _ => ⟨v1, a0, q_count hI (fun r S1 m => ⟨v1, shA_45 m.1, m.2 _ (fun S2 i2 n2 => ⟨fun _ => g S2 i2 n2, fun z => absurd rfl z⟩)⟩)⟩, fun _ => ?_⟩
    refine ⟨fun _ => ⟨a0, q_status hI (fun r S1 m => ⟨shA_45 m.1, m.2 _ (fun S2 i2 n2 => ⟨fun _ => g S2 i2 n2, fun z => absurd rfl z⟩)⟩)⟩, fun _ => ?_⟩
    exact g S hI (Nat.le_add_right _ _)
end LOOP
