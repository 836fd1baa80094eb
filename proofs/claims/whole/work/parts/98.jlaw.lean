/-! BOTH READERS AT ONCE: the clauses of a law -/
section JLAW
variable {t e i l n b o c q : Nat} {A B sg vl so bb : Nat → Nat} {wo : Nat → Int64} {S S' S1 S2 M M' M2 M0 : JS} {f g : JF} {test : Int32}
theorem ClS.keep {k c' q' m h : Nat} (w : ClS S k c m h f g) (hf : CFc S S' c q') (hk : k < q') (hc : c ≤ c') : ClS S' k c' m h f g := by
  obtain ⟨w1, a, b, e, ⟨w2, w3, w4⟩, ⟨w5, w6, w7⟩, w8, w9⟩ := w
  obtain ⟨g1, g2, g3, g4⟩ := hf.2.2.2 k hk
  refine ⟨by rw [g1]; exact w1, a, b, e, ⟨w2, w3, by omega⟩, ⟨by rw [g2]; exact w5, by rw [g3]; exact w6, by rw [g4]; exact w7⟩, fun z => cD_congr (w8 z) (fun j _ j2 => hf.2.2.1 j (by omega)), ?_⟩
  rcases w9 with z | ⟨z1, z2, z3⟩
  · exact Or.inl z
  · exact Or.inr ⟨z1, z2, cD_congr z3 (fun j _ j2 => hf.2.2.1 j (by omega))⟩
theorem ClM.keep {k n' q' m h : Nat} (w : ClM M k n m h f g) (hf : MFc M M' n q') (hk : k < q') (hc : n ≤ n') : ClM M' k n' m h f g := by
  obtain ⟨w1, a, b, e, ⟨w2, w3, w4⟩, ⟨w5, w6, w7, w8⟩, w9, w10⟩ := w
  have g := hf.2.2.2
  refine ⟨by rw [g _ (by omega)]; exact w1, a, b, e, ⟨w2, w3, by omega⟩, ⟨by rw [g _ (by omega)]; exact w5, by rw [g _ (by omega)]; exact w6, by rw [g _ (by omega)]; exact w7, by rw [g _ (by omega)]; exact w8⟩, fun z => mD_congr (w9 z) (fun j _ j2 => hf.2.2.1 j (by omega)), ?_⟩
  rcases w10 with z | ⟨z1, z2, z3⟩
  · exact Or.inl z
  · exact Or.inr ⟨z1, z2, mD_congr z3 (fun j _ j2 => hf.2.2.1 j (by omega))⟩
theorem ll_roll {Q : Option Nat → JS → Prop} {G : Nat → List Value → JS → (Option Value → JS → Prop) → Prop} {x y : Int32} (h : ∀ K : Nat → Int32 → Int32 → JS → Prop, (∀ x' y' S', wX5_readLaw_19 G 14 x' y' S' Q → K 14 x' y' S') → bX5_readLaw_19 G K 14 x y S Q) : wX5_readLaw_19 G 14 x y S Q := by
  unfold wX5_readLaw_19
  exact jLoop.roll (h _ (fun _ _ _ h => h))
theorem ml_roll {Q : Int32 → JS → Prop} (h : ∀ K : Nat → JS → Prop, (∀ M', wX12_law_29 45 M' Q → K 45 M') → bX12_law_29 K 45 M Q) : wX12_law_29 45 M Q := by
  unfold wX12_law_29
  exact jLoop.roll (h _ (fun _ h => h))
theorem ll_0 {Q : Option Nat → JS → Prop} {G : Nat → List Value → JS → (Option Value → JS → Prop) → Prop} {y : Int32} (h : Q none S) : wX5_readLaw_19 G 14 0 y S Q := by
  refine ll_roll (fun K hK => ?_)
  unfold bX5_readLaw_19 wX5_readLaw_33
  exact ⟨fun _ => ⟨fun _ => h, fun z => absurd rfl z⟩, fun _ => ⟨fun _ => ⟨fun _ => h, fun z => absurd rfl z⟩, fun z => absurd rfl z⟩⟩
theorem ml_bad {Q : Int32 → JS → Prop} (hs : jSh M) (h14 : jI M 45 14 = 1) (h : wX12_law_50 45 M Q) : wX12_law_29 45 M Q := by
  refine ml_roll (fun K hK => ?_)
  unfold bX12_law_29 wX12_law_41
  rw [h14]
  exact ⟨shA_45 hs, fun _ => ⟨shA_45 hs, fun _ => h, fun z => absurd z (by decide)⟩, fun z => absurd z (by decide)⟩
def JLaw (t e : Nat) (A B sg vl so bb : Nat → Nat) (wo : Nat → Int64) (i l q : Nat) (Wc : Nat → JS → (Option Nat → JS → Prop) → Prop) (Wm : JS → (Int32 → JS → Prop) → Prop) : Prop :=
  (∃ (q' : Nat) (ms hs : Nat → Nat) (fs gs : Nat → JF) (l' : Nat), q ≤ q' ∧ q' ≤ 12 ∧ (∀ k, q ≤ k → k < q' → ms k < 3 ∧ fB (fs k) ∧ fZ (gs k)) ∧
    (∀ S c D Q, CC e A sg vl S i l c q → 43 ≤ D → (∀ S' c', CFc S S' c q → CC e A sg vl S' e l' c' q' → c ≤ c' → (∀ k, q ≤ k → k < q' → ClS S' k c' (ms k) (hs k) (fs k) (gs k)) → wX5_readLaw_33 (jCall jmt jbud (D - 1)) 14 1 S' Q) → Wc D S Q) ∧
    (∀ M n Q, MC t e A B so bb wo M i l n → jI M 45 15 = nI q → (∀ M' n', MFc M M' n q → MC t e A B so bb wo M' e l' n' → jI M' 45 15 = nI q' → n ≤ n' → (∀ k, q ≤ k → k < q' → ClM M' k n' (ms k) (hs k) (fs k) (gs k)) → wX12_law_50 45 M' Q) → Wm M Q))
  ∨ (∃ i', i' ≤ e ∧ (∀ S c D Q, CC e A sg vl S i l c q → 43 ≤ D → (∀ S', CXc S S' i' → Q none S') → Wc D S Q) ∧ (∀ M n Q, MC t e A B so bb wo M i l n → jI M 45 15 = nI q → (∀ M', MXc M M' (A i') → wX12_law_50 45 M' Q) → Wm M Q))
def WcC (i D : Nat) (S : JS) (Q : Option Nat → JS → Prop) : Prop := ∀ jj, jj ≤ i → ∀ K : Int32 → JS → Prop, (∀ x S', wX5_readLaw_19 (jCall jmt jbud (D - 1)) 14 x (nI jj) S' Q → K x S') → jCall jmt jbud (D - 1) 35 [.ref 14] S (jqI K)
def WmC (M : JS) (Q : Int32 → JS → Prop) : Prop := ∀ K : JS → Prop, (∀ M', wX12_law_29 45 M' Q → K M') → wX12_readClause 45 M K
def WcL (i D : Nat) (S : JS) (Q : Option Nat → JS → Prop) : Prop := ∀ j, j ≤ i → wX5_readLaw_19 (jCall jmt jbud (D - 1)) 14 1 (nI j) S Q
/-- a clause, and then the loop -/
theorem j_cl_then (hx : Cx t e A B sg vl so bb wo) (hl : l ≤ 50) (he : i ≤ e) (hq : q ≤ 12)
    (htail : ∀ i1 l1, i < i1 → i1 ≤ e → l1 ≤ 50 → q < 12 → JLaw t e A B sg vl so bb wo i1 l1 (q + 1) (WcL i1) (wX12_law_29 45)) : JLaw t e A B sg vl so bb wo i l q (WcC i) WmC := by
  rcases j_clause hx hl he hq with ⟨m, h, f, g, i1, l1, u1, u2, u3, u4, u5, u6, u7, hC, hM⟩ | ⟨i1, u2, hC, hM⟩
  · rcases htail i1 l1 u1 u2 u3 u4 with ⟨q', ms, hs, fs, gs, l', v1, v2, v3, tC, tM⟩ | ⟨i2, v2, tC, tM⟩
    · refine Or.inl ⟨q', fun k => if k = q then m else ms k, fun k => if k = q then h else hs k, fun k => if k = q then f else fs k, fun k => if k = q then g else gs k, l', by omega, v2, fun k k1 k2 => ?_, fun S c D Q hh hD hQ jj hj K hK => ?_, fun M n Q hh h15 hQ K hK => ?_⟩
      · dsimp only; by_cases z : k = q
        · rw [if_pos z, if_pos z, if_pos z]; exact ⟨u5, u6, u7⟩
        · rw [if_neg z, if_neg z, if_neg z]; exact v3 k (by omega) k2
      · refine hC S c (D - 1) K hh (by omega) (fun S1 c1 f1 h1 le1 cl1 => hK _ _ (tC S1 c1 D Q h1 hD (fun S2 c2 f2 h2 le2 cl2 => hQ S2 c2 (f1.tr f2 le1 (by omega)) h2 (by omega) (fun k k1 k2 => ?_)) jj (by omega)))
        dsimp only; by_cases z : k = q
        · rw [if_pos z, if_pos z, if_pos z, if_pos z, z]; exact cl1.keep f2 (by omega) le2
        · rw [if_neg z, if_neg z, if_neg z, if_neg z]; exact cl2 k (by omega) k2
      · refine hM M n K hh h15 (fun M1 n1 f1 m1 g1 le1 cl1 => hK _ (tM M1 n1 Q m1 g1 (fun M2 n2 f2 m2 g2 le2 cl2 => hQ M2 n2 (f1.tr f2 le1 (by omega)) m2 g2 (by omega) (fun k k1 k2 => ?_))))
        dsimp only; by_cases z : k = q
        · rw [if_pos z, if_pos z, if_pos z, if_pos z, z]; exact cl1.keep f2 (by omega) le2
        · rw [if_neg z, if_neg z, if_neg z, if_neg z]; exact cl2 k (by omega) k2
    · refine Or.inr ⟨i2, v2, fun S c D Q hh hD hQ jj hj K hK => ?_, fun M n Q hh h15 hQ K hK => ?_⟩
      · exact hC S c (D - 1) K hh (by omega) (fun S1 c1 f1 h1 le1 cl1 => hK _ _ (tC S1 c1 D Q h1 hD (fun S2 x2 => hQ S2 (f1.cx x2)) jj (by omega)))
      · exact hM M n K hh h15 (fun M1 n1 f1 m1 g1 le1 cl1 => hK _ (tM M1 n1 Q m1 g1 (fun M2 x2 => hQ M2 (f1.mx x2))))
  · refine Or.inr ⟨i1, u2, fun S c D Q hh hD hQ jj hj K hK => ?_, fun M n Q hh h15 hQ K hK => ?_⟩
    · exact hC S c (D - 1) K hh (by omega) (fun S1 x1 => hK _ _ (ll_0 (hQ S1 x1)))
    · exact hM M n K hh h15 (fun M1 x1 => hK _ (ml_bad (x1.1.sh.mpr hh.1.1) x1.2.2.1 (hQ M1 x1)))
theorem j_loop (hx : Cx t e A B sg vl so bb wo) : ∀ k i, e - i ≤ k → ∀ l q, i ≤ e → l ≤ 50 → q ≤ 12 → JLaw t e A B sg vl so bb wo i l q (WcL i) (wX12_law_29 45) := by
  have het := hx.1.1.1
  have ht4 := hx.1.1.2.1
  -- no semicolon
  have no : ∀ i l q, i ≤ e → l ≤ 50 → q ≤ 12 → ¬ sg i = 21 → JLaw t e A B sg vl so bb wo i l q (WcL i) (wX12_law_29 45) := by
    intro i l q he hl hq n21
    have h27 := hx.1.sg27 he
    have cgo : ∀ S c D Q, CC e A sg vl S i l c q → wX5_readLaw_33 (jCall jmt jbud (D - 1)) 14 1 S Q → WcL i D S Q := by
      intro S c D Q h hQ j hj
      refine ll_roll (fun K hK => ?_)
      unfold bX5_readLaw_19
      exact ⟨fun _ => hQ, fun _ => ⟨fun z => absurd z (by decide), fun _ => ⟨shA_14 h.1.1, sX5_pass (s := 21) hx.1 h.1 (by omega) (fun z => absurd z n21) (fun _ => ⟨fun _ => hQ, fun z => absurd rfl z⟩)⟩⟩⟩
    have mgo : ∀ M n Q, MC t e A B so bb wo M i l n → wX12_law_41 45 M Q → wX12_law_29 45 M Q := by
      intro M n Q h hQ
      refine ml_roll (fun K hK => ?_)
      unfold bX12_law_29
      exact ⟨shA_45 h.1.1, fun z => absurd h.2.2.1.1 z, fun _ => MC.isSign hx h (show ((59 : Int32), 21) ∈ mkT by decide) (fun z => absurd z n21) (fun _ => ⟨fun _ => hQ, fun z => absurd rfl z⟩)⟩
    by_cases c26 : sg i = 26
    · have ie : i = e := by
        rcases Nat.lt_or_ge i e with z | z
        · exact absurd c26 (hx.1.2.1 i z).2.2.1
        · omega
      refine Or.inl ⟨q, fun _ => 0, fun _ => 0, fun _ => fWord 0, fun _ => fWord 0, l, Nat.le_refl _, hq, fun k k1 k2 => by omega, fun S c D Q h hD hQ => cgo S c D Q h (hQ S c CFc.refl (ie ▸ h) (Nat.le_refl _) (fun k k1 k2 => by omega)), fun M n Q h h15 hQ => mgo M n Q h ?_⟩
      unfold wX12_law_41
      have s0 := (hx.2.1 i he).2.1.mpr c26
      have h11 : jI M 45 11 = 0 := by rw [h.2.1.2.2.2.1, s0]; rfl
      rw [h11]
      exact ⟨shA_45 h.1.1, fun z => absurd h.2.2.1.1 z, fun _ => ⟨fun _ => hQ M n ⟨jFr.refl _ _, jFk.refl _ _ _, fun _ _ => ⟨rfl, rfl⟩, fun _ _ => rfl⟩ (ie ▸ h) h15 (Nat.le_refl _) (fun k k1 k2 => by omega), fun z => absurd rfl z⟩⟩
    · refine Or.inr ⟨i, he, fun S c D Q h hD hQ => cgo S c D Q h ?_, fun M n Q h h15 hQ => mgo M n Q h ?_⟩
      · unfold wX5_readLaw_33
        have q0 := hQ S ⟨jFr.refl _ _, jFk.refl _ _ _, h.1.2.1.1⟩
        rw [h.1.2.1.2.1, li_26, nI_eq' (by omega) (by omega)]
        exact ⟨fun _ => q0, fun _ => ⟨shA_14 h.1.1, fun _ => q0, fun z => absurd z c26⟩⟩
      · unfold wX12_law_41
        have s0 := (hx.2.1 i he)
        have h11 : ¬ jI M 45 11 = 0 := by
          rw [h.2.1.2.2.2.1, li_0, nI_eq' (by omega) (by omega)]
          exact fun z => c26 (s0.2.1.mp z)
        exact ⟨shA_45 h.1.1, fun z => absurd h.2.2.1.1 z, fun _ => ⟨fun z => absurd z h11, fun _ => MC.mustB h (fun M1 x1 => hQ M1 x1.toc)⟩⟩
  intro k
  induction k with
  | zero =>
    intro i hk l q he hl hq
    have ie : i = e := by omega
    exact no i l q he hl hq (by rw [ie, hx.1.1.2.2.2]; omega)
  | succ k ih =>
    intro i hk l q he hl hq
    by_cases n21 : ¬ sg i = 21
    · exact no i l q he hl hq n21
    have c21 : sg i = 21 := Classical.not_not.mp n21
    have hlt := hx.1.lt he (by omega)
    have cgo : ∀ S c D Q, CC e A sg vl S i l c q → (∀ S2, CFc S S2 c q → CC e A sg vl S2 (i + 1) l c q → WcC (i + 1) D S2 Q) → WcL i D S Q := by
      intro S c D Q h hQ j hj
      refine ll_roll (fun K hK => ?_)
      unfold bX5_readLaw_19
      rw [li_400, nI_le' (by omega) (by omega)]
      refine ⟨fun z => by omega, fun _ => ⟨fun z => absurd z (by decide), fun _ => ⟨shA_14 h.1.1, sX5_pass (s := 21) hx.1 h.1 (by omega) (fun _ S2 f2 k2 h2 => ⟨fun z => absurd z (by decide), fun _ => ⟨shA_14 h2.1, ?_⟩⟩) (fun z => absurd c21 z)⟩⟩⟩
      have r := hQ S2 (CF.go (c0 := c) f2 k2).toc ⟨h2, by rw [k2.I 7 (by decide)]; exact h.2⟩ (j + 1) (by omega) (fun x S' => ∀ x29 : Int32, x29 = nI j + 1 → K 14 x x29 S') (fun x S' w x29 e29 => by rw [e29, nI_1]; exact hK _ _ _ w)
      exact r
    have mgo : ∀ M n Q, MC t e A B so bb wo M i l n → jI M 45 15 = nI q → (∀ M2, MFc M M2 n q → MC t e A B so bb wo M2 (i + 1) l n → jI M2 45 15 = nI q → WmC M2 Q) → wX12_law_29 45 M Q := by
      intro M n Q h h15 hQ
      refine ml_roll (fun K hK => ?_)
      unfold bX12_law_29
      refine ⟨shA_45 h.1.1, fun z => absurd h.2.2.1.1 z, fun _ => MC.isSign hx h (show ((59 : Int32), 21) ∈ mkT by decide) (fun _ => ⟨fun z => absurd z (by decide), fun _ => ⟨shA_45 h.1.1, MC.next hx h (by omega) (fun M2 f2 k2 m2 => ⟨shA_45 m2.1.1, ?_⟩)⟩⟩) (fun z => absurd c21 z)⟩
      exact hQ M2 ⟨f2.mono (by decide), k2.mono (by decide), fun k hk => by rw [f2.I 52 (by decide), f2.I 53 (by decide)]; exact ⟨rfl, rfl⟩, fun k hk => by rw [f2.I 51 (by decide)]⟩ m2 (by rw [k2.I 15 (by decide)]; exact h15) (fun S => K 45 S) hK
    rcases j_cl_then (i := i + 1) hx hl (by omega) hq (fun i1 l1 z1 z2 z3 z4 => ih i1 (by omega) l1 (q + 1) z2 z3 (by omega)) with ⟨q', ms, hs, fs, gs, l', v1, v2, v3, tC, tM⟩ | ⟨i2, v2, tC, tM⟩
    · refine Or.inl ⟨q', ms, hs, fs, gs, l', v1, v2, v3, fun S c D Q h hD hQ => cgo S c D Q h (fun S2 f2 h2 => tC S2 c D Q h2 hD (fun S3 c3 f3 h3 le3 cl3 => hQ S3 c3 (f2.tr f3 (Nat.le_refl _) (Nat.le_refl _)) h3 le3 cl3)), fun M n Q h h15 hQ => mgo M n Q h h15 (fun M2 f2 m2 g2 => tM M2 n Q m2 g2 (fun M3 n3 f3 m3 g3 le3 cl3 => hQ M3 n3 (f2.tr f3 (Nat.le_refl _) (Nat.le_refl _)) m3 g3 le3 cl3))⟩
    · exact Or.inr ⟨i2, v2, fun S c D Q h hD hQ => cgo S c D Q h (fun S2 f2 h2 => tC S2 c D Q h2 hD (fun S3 x3 => hQ S3 (f2.cx x3))), fun M n Q h h15 hQ => mgo M n Q h h15 (fun M2 f2 m2 g2 => tM M2 n Q m2 g2 (fun M3 x3 => hQ M3 (f2.mx x3)))⟩
theorem j_top (hx : Cx t e A B sg vl so bb wo) : JLaw t e A B sg vl so bb wo 0 0 0 (WcC 0) WmC := j_cl_then hx (by omega) (by omega) (by omega) (fun i1 l1 z1 z2 z3 _ => j_loop hx (e - i1) i1 (Nat.le_refl _) l1 1 z2 z3 (by omega))
end JLAW
