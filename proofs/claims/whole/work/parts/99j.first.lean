/-! THE FIRST STATE: both constructors, by program -/
def vU (V : Nat → Nat → Int32) (h i : Nat) (v : Int32) : Nat → Nat → Int32 := fun a b => if a = h ∧ b = i then v else V a b
def wU (V : Nat → Nat → Int64) (h i : Nat) (v : Int64) : Nat → Nat → Int64 := fun a b => if a = h ∧ b = i then v else V a b
def HD (S : JS) (n : Nat) (KZ RR : List (Nat × Nat × Nat)) (V : Nat → Nat → Int32) (W : Nat → Nat → Int64) (D : List Nat) : Prop := jN S = n ∧ (∀ q ∈ KZ, q.1 < n ∧ jK S q.1 = q.2.1 ∧ jZ S q.1 = q.2.2) ∧ ((∀ q ∈ RR, q.1 < n ∧ jR S q.1 q.2.1 = some q.2.2) ∧ ∀ h i, (∀ q ∈ RR, ¬ (q.1 = h ∧ q.2.1 = i)) → jR S h i = none) ∧ (∀ h, h ∉ D → jI S h = V h) ∧ (∀ h, h ∉ D → jJ S h = W h) ∧ (∀ h ∈ D, h < n ∧ ∀ i, i < 540 → jI S h i = -1) ∧ ∀ h, n ≤ h → jI S h = (fun _ => 0) ∧ jJ S h = (fun _ => 0)
section FIRST
variable {S : JS} {n : Nat} {KZ RR : List (Nat × Nat × Nat)} {V : Nat → Nat → Int32} {W : Nat → Nat → Int64} {D : List Nat}
theorem HD.A {h k : Nat} (H : HD S n KZ RR V W D) (z : Nat) (m : (h, k, z) ∈ KZ) : jA S h k := ⟨by rw [H.1]; exact (H.2.1 _ m).1, (H.2.1 _ m).2.1⟩
theorem st_N {k z n' : Nat} {P : Nat → JS → Prop} (H : HD S n KZ RR V W D) (e' : n' = n + 1) (hn : n < 1000000) (hq : ∀ S1, HD S1 n' ((n, k, z) :: KZ) RR V W D → P n S1) : jN S < 1000000 ∧ (∀ h : Nat, h = jN S → (∀ S1 : JS, S1 = uNew S k z → P h S1)) := by
  obtain ⟨h1, h2, ⟨h3, h4⟩, h5, h6, h7, h8⟩ := H
  subst e'
  refine ⟨by omega, fun h e S1 e1 => ?_⟩
  rw [h1] at e
  subst e
  refine hq S1 ⟨by rw [e1, jN_uNew, h1], fun q hq => ?_, ⟨fun q hq => ?_, fun a i z => ?_⟩, fun a ha => ?_, fun a ha => ?_, fun a ha => ?_, fun a ha => ?_⟩
  · rcases List.mem_cons.mp hq with e | hq
    · subst e
      rw [e1, jK_uNew, jZ_uNew, h1, if_pos rfl, if_pos rfl]; exact ⟨Nat.lt_succ_self _, rfl, rfl⟩
    · have := h2 q hq
      rw [e1, jK_uNew, jZ_uNew, h1, if_neg (by omega), if_neg (by omega)]; exact ⟨by omega, this.2⟩
  · have := h3 q hq
    rw [e1, jR_uNew, h1, if_neg (by omega)]; exact ⟨by omega, this.2⟩
  · rw [e1, jR_uNew, h1]
    split
    · rfl
    · exact h4 a i z
  · rw [e1, jI_uNew, h1]
    split
    · rename_i w; rw [w, ← (h8 h (Nat.le_refl _)).1, ← w]; exact h5 a ha
    · exact h5 a ha
  · rw [e1, jJ_uNew, h1]
    split
    · rename_i w; rw [w, ← (h8 h (Nat.le_refl _)).2, ← w]; exact h6 a ha
    · exact h6 a ha
  · have := h7 a ha
    rw [e1, jI_uNew, h1, if_neg (by omega)]; exact ⟨by omega, this.2⟩
  · rw [e1, jI_uNew, jJ_uNew, h1, if_neg (by omega), if_neg (by omega)]; exact h8 a (by omega)
theorem st_R {h i v : Nat} {P : JS → Prop} (H : HD S n KZ RR V W D) (hn : h < n) (hne : ∀ q ∈ RR, ¬ (q.1 = h ∧ q.2.1 = i)) (hq : ∀ S1, HD S1 n KZ ((h, i, v) :: RR) V W D → P S1) : ∀ S1 : JS, S1 = uR S h i (some v) → P S1 := by
  obtain ⟨h1, h2, ⟨h3, h4⟩, h5, h6, h7, h8⟩ := H
  intro S1 e1
  have eo : ∀ a b, ¬ (a = h ∧ b = i) → jR S1 a b = jR S a b := fun a b z => by
    rw [e1]
    by_cases w : a = h
    · rw [w, jR_uR_eq, va_up, if_neg (fun y => z ⟨w, y⟩)]
    · rw [jR_uR_ne w]
  refine hq S1 ⟨by rw [e1]; exact h1, fun q hq => by rw [e1]; exact h2 q hq, ⟨fun q hq => ?_, fun a b z => ?_⟩, fun a ha => by rw [e1]; exact h5 a ha, fun a ha => by rw [e1]; exact h6 a ha, fun a ha => by rw [e1]; exact h7 a ha, fun a ha => by rw [e1]; exact h8 a ha⟩
  · rcases List.mem_cons.mp hq with e | hq
    · subst e
      exact ⟨hn, by rw [e1, jR_uR_eq, va_up, if_pos rfl]⟩
    · rw [eo _ _ (hne q hq)]; exact h3 q hq
  · rw [eo a b (fun w => z (h, i, v) List.mem_cons_self ⟨w.1.symm, w.2.symm⟩)]
    exact h4 a b (fun q hq => z q (List.mem_cons_of_mem _ hq))
theorem st_I {h i : Nat} {v : Int32} {P : JS → Prop} (H : HD S n KZ RR V W D) (hn : h < n) (hd : h ∉ D) (hq : ∀ S1, HD S1 n KZ RR (vU V h i v) W D → P S1) : ∀ S1 : JS, S1 = uI S h i v → P S1 := by
  obtain ⟨h1, h2, h3, h5, h6, h7, h8⟩ := H
  intro S1 e1
  have eo : ∀ a, a ≠ h → jI S1 a = jI S a := fun a z => by rw [e1, jI_uI_ne z]
  refine hq S1 ⟨by rw [e1]; exact h1, fun q hq => by rw [e1]; exact h2 q hq, by rw [e1]; exact h3, fun a ha => ?_, fun a ha => by rw [e1]; exact h6 a ha, fun a ha => ?_, fun a ha => ?_⟩
  · by_cases w : a = h
    · subst w
      rw [e1, jI_uI_eq, h5 a ha]
      funext b
      rw [upd_at]; unfold vU
      by_cases y : b = i
      · rw [if_pos y, if_pos ⟨rfl, y⟩]
      · rw [if_neg y, if_neg (fun x => y x.2)]
    · rw [eo a w, h5 a ha]
      funext b
      unfold vU; rw [if_neg (fun x => w x.1)]
  · rw [eo a (fun z => hd (z ▸ ha))]; exact h7 a ha
  · rw [eo a (by omega), show jJ S1 a = jJ S a by rw [e1]; rfl]; exact h8 a ha
theorem st_J {h z : Nat} {x : Int32} {v : Int64} {P : JS → Prop} (H : HD S n KZ RR V W D) (m : (h, 14, z) ∈ KZ) (hv : vp_in x z) (hq : ∀ S1, HD S1 n KZ RR V (wU W h x.toNatClampNeg v) D → P S1) : vp_in x (jZ S h) ∧ ∀ S1 : JS, S1 = uJ S h x.toNatClampNeg v → P S1 := by
  have hz := (H.2.1 _ m)
  obtain ⟨h1, h2, h3, h5, h6, h7, h8⟩ := H
  refine ⟨by rw [hz.2.2]; exact hv, fun S1 e1 => ?_⟩
  have hlt : h < n := hz.1
  refine hq S1 ⟨by rw [e1]; exact h1, fun q hq => by rw [e1]; exact h2 q hq, by rw [e1]; exact h3, fun a ha => by rw [e1]; exact h5 a ha, fun a ha => ?_, fun a ha => by rw [e1]; exact h7 a ha, fun a ha => ?_⟩
  · by_cases w : a = h
    · subst w
      rw [e1, jJ_uJ_eq, h6 a ha]
      funext b
      rw [updL_at]; unfold wU
      by_cases y : b = x.toNatClampNeg
      · rw [if_pos y, if_pos ⟨rfl, y⟩]
      · rw [if_neg y, if_neg (fun x => y x.2)]
    · rw [e1, jJ_uJ_ne w, h6 a ha]
      funext b
      unfold wU; rw [if_neg (fun x => w x.1)]
  · rw [e1, jJ_uJ_ne (by omega)]; exact h8 a ha
theorem HD.r {a i h : Nat} (H : HD S n KZ RR V W D) (m : (a, i, h) ∈ RR) : ¬ jR S a i = none ∧ jr S a i = h := by
  have := (H.2.2.1.1 _ m).2
  exact ⟨by rw [this]; exact (fun z => by cases z), jr_of this⟩
theorem st_F {a i h : Nat} {Q : JS → Prop} (H : HD S n KZ RR V W D) (r : (a, i, h) ∈ RR) (m : (h, 13, 540) ∈ KZ) (hq : ∀ S1, HD S1 n KZ RR V W (h :: D) → Q S1) : ¬ jR S a i = none ∧ wJ7_fill_53178 (jr S a i) (-1) S Q := by
  have hr := H.r r
  have hz := H.2.1 _ m
  refine ⟨hr.1, ?_⟩
  rw [hr.2]
  refine sJ7_fill (z := 540) (H.A 540 m) hz.2.2 (by omega) (fun S1 f1 i1 => hq S1 ?_)
  obtain ⟨h1, h2, h3, h5, h6, h7, h8⟩ := H
  have hlt : h < n := hz.1
  refine ⟨by rw [f1.N]; exact h1, fun q hq => by rw [f1.K, f1.Z]; exact h2 q hq, by rw [f1.R]; exact h3, fun b hb => ?_, fun b hb => ?_, fun b hb => ?_, fun b hb => ?_⟩
  · rw [f1.I b (fun z => hb (by rw [List.mem_singleton] at z; rw [z]; exact List.mem_cons_self))]
    exact h5 b (fun z => hb (List.mem_cons_of_mem _ z))
  · rw [f1.J b (fun z => hb (by rw [List.mem_singleton] at z; rw [z]; exact List.mem_cons_self))]
    exact h6 b (fun z => hb (List.mem_cons_of_mem _ z))
  · by_cases w : b = h
    · rw [w]; exact ⟨hlt, i1⟩
    · rcases List.mem_cons.mp hb with e | hb
      · exact absurd e w
      · rw [f1.I b (fun z => w (List.mem_singleton.mp z))]; exact h7 b hb
  · rw [f1.I b (fun z => by rw [List.mem_singleton] at z; omega), f1.J b (fun z => by rw [List.mem_singleton] at z; omega)]; exact h8 b hb
theorem st_X {h j z : Nat} {a i : Nat} {x v : Int32} {P : JS → Prop} (H : HD S n KZ RR V W D) (r : (a, i, h) ∈ RR) (m : (h, 13, z) ∈ KZ) (hv : vp_in x z) (hj : x.toNatClampNeg = j) (hd : h ∉ D) (hq : ∀ S1, HD S1 n KZ RR (vU V h j v) W D → P S1) : ¬ jR S a i = none ∧ (jA S (jr S a i) 13 ∧ (vp_in x (jZ S (jr S a i)) ∧ (∀ S1 : JS, S1 = uI S (jr S a i) x.toNatClampNeg v → P S1))) := by
  have hr := H.r r
  have hz := H.2.1 _ m
  rw [hr.2, hj]
  exact ⟨hr.1, H.A z m, by rw [hz.2.2]; exact hv, st_I H hz.1 hd hq⟩
theorem HD.inv (H : HD S 69 KZ RR V W [28, 27]) (hk : ∀ q ∈ shKZ, q ∈ KZ) (hr : ∀ q ∈ shRR, q ∈ RR) (hn : ∀ q ∈ RR, q.1 ≠ 10 ∧ q.1 ≠ 13) (v47 : ∀ i, V 47 i = if i = 0 then 9 else if i = 2 then 50 else if i = 4 then -1 else 0) (v1 : ∀ i, V 1 i = if i = 0 then 9 else if i = 2 then 50 else if i = 8 then -1 else 0) (v0 : ∀ i, V 0 i = if i = 11 then -1 else 0) (v45 : ∀ i, V 45 i = if i = 13 then -1 else 0) (vz : ∀ h, h ≠ 0 → h ≠ 1 → h ≠ 45 → h ≠ 47 → ∀ i, V h i = 0) (w1 : W 1 3 = 0) (w56 : W 56 0 = 605291 ∧ W 56 1 = 655 ∧ W 56 2 = 14982420 ∧ W 56 3 = 20594253 ∧ W 56 4 = 441828 ∧ W 56 5 = 6194) (w57 : W 57 0 = 135732402 ∧ W 57 1 = 763276 ∧ W 57 2 = 67155) : Inv S := by
  obtain ⟨h1, h2, ⟨h3, h4⟩, h5, h6, h7, h8⟩ := H
  have hs : jSh S := ⟨by omega, fun q hq => (h2 q (hk q hq)).2, fun q hq => (h3 q (hr q hq)).2⟩
  have r : ∀ i, jI S 47 i = if i = 0 then 9 else if i = 2 then 50 else if i = 4 then -1 else 0 := fun i => by rw [h5 47 (by decide)]; exact v47 i
  have c : ∀ i, jI S 1 i = if i = 0 then 9 else if i = 2 then 50 else if i = 8 then -1 else 0 := fun i => by rw [h5 1 (by decide)]; exact v1 i
  have z : ∀ h, h ≠ 0 → h ≠ 1 → h ≠ 45 → h ≠ 47 → h ≠ 27 → h ≠ 28 → ∀ i, jI S h i = 0 := fun h a b d e f g i => by rw [h5 h (by simp only [List.mem_cons, List.not_mem_nil, or_false]; omega)]; exact vz h a b d e i
  have g0 : ∀ i, jI S 0 i = if i = 11 then -1 else 0 := fun i => by rw [h5 0 (by decide)]; exact v0 i
  have g45 : ∀ i, jI S 45 i = if i = 13 then -1 else 0 := fun i => by rw [h5 45 (by decide)]; exact v45 i
  have r0 : ∀ i, i ≠ 0 → i ≠ 2 → i ≠ 4 → jI S 47 i = 0 := fun i a b d => by rw [r i, if_neg a, if_neg b, if_neg d]
  have eR : gR (jI S 47) = 9 := by unfold gR; rw [r 0]; rfl
  have j1 : jJ S 1 3 = 0 := by rw [h6 1 (by decide)]; exact w1
  have st0 : ∀ n, n < 60 → cSt 0 n = 0 := by decide +kernel
  have bj0 : ∀ n, n < 64 → bj 0 n = false := by decide +kernel
  have none10 : ∀ h i, h = 10 ∨ h = 13 → jR S h i = none := fun h i hh => h4 h i (fun q hq w => by have := hn q hq; omega)
  refine ⟨hs, MW_iff.mpr ⟨?_, ?_, ?_, ?_, ?_, ?_, ?_, ?_, ?_⟩, BC.all (fun n a hn ha => ⟨(h7 27 (by decide)).2 _ (by omega), (h7 28 (by decide)).2 _ (by omega)⟩), SV.no (by rw [g0]; rfl), ⟨0, by omega, by rw [z 14 (by omega) (by omega) (by omega) (by omega) (by omega) (by omega)]; rfl, by rw [g45]; rfl, fun i hi => by omega⟩, ?_, ⟨by rw [g0, g45]; rfl, by rw [g0, g45]; rfl⟩, ⟨Or.inl (z 41 (by omega) (by omega) (by omega) (by omega) (by omega) (by omega) 1), by rw [g45, z 41 (by omega) (by omega) (by omega) (by omega) (by omega) (by omega)]; rfl, fun w => absurd w (by rw [z 41 (by omega) (by omega) (by omega) (by omega) (by omega) (by omega)]; decide)⟩, ?_, ⟨Or.inl ⟨z 49 (by omega) (by omega) (by omega) (by omega) (by omega) (by omega) 0, none10 13 0 (Or.inr rfl)⟩, Or.inl ⟨z 49 (by omega) (by omega) (by omega) (by omega) (by omega) (by omega) 1, none10 13 1 (Or.inr rfl)⟩, fun a b e => by rw [none10 13 0 (Or.inr rfl)] at e; cases e⟩, ?_⟩
  · exact ⟨⟨by omega, by omega, by rw [eR, r 0]; rfl⟩, by rw [c 0, r 0]; rfl⟩
  · exact ⟨⟨0, by omega, by rw [r0 1 (by omega) (by omega) (by omega)]; rfl⟩, by rw [c 1, r0 1 (by omega) (by omega) (by omega)]; rfl⟩
  · exact ⟨⟨50, by omega, by omega, by rw [r 2]; rfl⟩, by rw [c 2, r 2]; rfl⟩
  · refine ⟨⟨0, by omega, by rw [r0 3 (by omega) (by omega) (by omega)]; rfl, Or.inl (by rw [r 4]; rfl)⟩, by rw [c 7, r0 3 (by omega) (by omega) (by omega)]; rfl, by rw [c 8, r 4]; rfl, fun i hi => ?_⟩
    rw [r0 3 (by omega) (by omega) (by omega)] at hi
    exact absurd hi (Nat.not_lt_zero i)
  · refine ⟨⟨0, by omega, by rw [r0 5 (by omega) (by omega) (by omega)]; rfl, fun i hi => by omega⟩, by rw [z 2 (by omega) (by omega) (by omega) (by omega) (by omega) (by omega), r0 5 (by omega) (by omega) (by omega)], fun i hi => ?_⟩
    rw [r0 5 (by omega) (by omega) (by omega)] at hi
    exact absurd hi (Nat.not_lt_zero i)
  · refine ⟨⟨0, by omega, by rw [r0 6 (by omega) (by omega) (by omega)]; rfl, fun i hi => by omega⟩, by rw [z 6 (by omega) (by omega) (by omega) (by omega) (by omega) (by omega), r0 6 (by omega) (by omega) (by omega)], fun i hi => ?_⟩
    rw [r0 6 (by omega) (by omega) (by omega)] at hi
    exact absurd hi (Nat.not_lt_zero i)
  · refine ⟨⟨0, by omega, by rw [r0 7 (by omega) (by omega) (by omega)]; rfl, fun n hn => ⟨0, by omega, by rw [r0 (80 + n) (by omega) (by omega) (by omega)]; rfl⟩⟩, by rw [c 10, r0 7 (by omega) (by omega) (by omega)]; rfl, fun n hn => by rw [z 11 (by omega) (by omega) (by omega) (by omega) (by omega) (by omega), r0 (80 + n) (by omega) (by omega) (by omega)]⟩
  · refine ⟨fun n hn => Or.inl (r0 (8 + n) (by omega) (by omega) (by omega)), fun n hn => by rw [j1, st0 n hn, r0 (8 + n) (by omega) (by omega) (by omega)], fun n n1 n2 => by rw [j1]; exact bj0 n n2⟩
  · exact ⟨fun i hi => ⟨0, by omega, by rw [r0 (188 + i) (by omega) (by omega) (by omega)]; rfl⟩, fun i hi => by rw [z 12 (by omega) (by omega) (by omega) (by omega) (by omega) (by omega), r0 (188 + i) (by omega) (by omega) (by omega)]⟩
  · have a : ∀ k, jI S 44 k = 0 := z 44 (by omega) (by omega) (by omega) (by omega) (by omega) (by omega)
    have b : ∀ k, jI S 46 k = 0 := z 46 (by omega) (by omega) (by omega) (by omega) (by omega) (by omega)
    exact ⟨⟨by rw [a, b], by rw [a, b], by rw [a, b], by rw [a, b], by rw [a, b]⟩, by rw [g0, g45]; rfl⟩
  · unfold CW
    rw [h6 56 (by decide), h6 57 (by decide)]; exact ⟨w56, w57⟩
  · intro g i h hg hk16 he
    have hc : ∀ g, g < 69 → ∃ q ∈ shKZ, q.1 = g := by decide
    obtain ⟨q, q1, q2⟩ := hc g (by omega)
    have h16 : ∀ q ∈ shKZ, q.2.1 = 16 → q.1 = 10 := by decide
    have kq := (h2 q (hk q q1)).2.1
    rw [q2, hk16] at kq
    have := h16 q q1 kq.symm
    rw [none10 g i (Or.inl (by omega))] at he; cases he
set_option maxRecDepth 20000 in
theorem first_go {L : Nat} {xs : Nat → Int32} {Q : Int32 → JS → Prop} {G : Nat → List Value → JS → (Option Value → JS → Prop) → Prop} (H : HD S 0 [] [] (fun _ _ => 0) (fun _ _ => 0) []) (hq : ∀ S, Inv S → jN S = 69 → wL_law_10 G 0 45 0 599931 6985248 L xs S Q) : wL_law G L xs S Q := by
  unfold wL_law
  refine st_N (n' := 1) H rfl (by decide) ?_
  clear H
  intro S H
  refine ⟨H.A 14 (by decide), ?_⟩
  unfold wX11_init
  refine st_N (n' := 2) H rfl (by decide) ?_
  clear H
  intro S H
  refine ⟨H.A 12 (by decide), ?_⟩
  unfold wX9_init
  refine ⟨H.A 12 (by decide), ?_⟩
  refine st_I H (by decide) (by decide) ?_
  clear H
  intro S H
  refine ⟨H.A 12 (by decide), ?_⟩
  refine st_I H (by decide) (by decide) ?_
  clear H
  intro S H
  refine st_N (n' := 3) H rfl (by decide) ?_
  clear H
  intro S H
  refine ⟨H.A 4 (by decide), ?_⟩
  unfold wX8_init
  rw [show (4 : Int32).toNatClampNeg = 4 from rfl]
  refine ⟨by decide, by decide, by decide, ?_⟩
  refine st_N (n' := 4) H rfl (by decide) ?_
  clear H
  intro S H
  refine ⟨H.A 4 (by decide), ?_⟩
  refine st_R H (by decide) (by decide) ?_
  clear H
  intro S H
  refine ⟨by decide, ?_⟩
  refine st_N (n' := 5) H rfl (by decide) ?_
  clear H
  intro S H
  refine ⟨H.A 4 (by decide), ?_⟩
  refine st_R H (by decide) (by decide) ?_
  clear H
  intro S H
  refine ⟨by decide, ?_⟩
  refine st_N (n' := 6) H rfl (by decide) ?_
  clear H
  intro S H
  refine ⟨H.A 4 (by decide), ?_⟩
  refine st_R H (by decide) (by decide) ?_
  clear H
  intro S H
  refine ⟨H.A 12 (by decide), ?_⟩
  refine st_R H (by decide) (by decide) ?_
  clear H
  intro S H
  refine st_N (n' := 7) H rfl (by decide) ?_
  clear H
  intro S H
  refine ⟨H.A 4 (by decide), ?_⟩
  rw [show (16 : Int32).toNatClampNeg = 16 from rfl]
  refine ⟨by decide, by decide, by decide, ?_⟩
  refine st_N (n' := 8) H rfl (by decide) ?_
  clear H
  intro S H
  refine ⟨H.A 4 (by decide), ?_⟩
  refine st_R H (by decide) (by decide) ?_
  clear H
  intro S H
  refine ⟨by decide, ?_⟩
  refine st_N (n' := 9) H rfl (by decide) ?_
  clear H
  intro S H
  refine ⟨H.A 4 (by decide), ?_⟩
  refine st_R H (by decide) (by decide) ?_
  clear H
  intro S H
  refine ⟨by decide, ?_⟩
  refine st_N (n' := 10) H rfl (by decide) ?_
  clear H
  intro S H
  refine ⟨H.A 4 (by decide), ?_⟩
  refine st_R H (by decide) (by decide) ?_
  clear H
  intro S H
  refine ⟨H.A 12 (by decide), ?_⟩
  refine st_R H (by decide) (by decide) ?_
  clear H
  intro S H
  refine st_N (n' := 11) H rfl (by decide) ?_
  clear H
  intro S H
  refine ⟨H.A 12 (by decide), ?_⟩
  refine st_R H (by decide) (by decide) ?_
  clear H
  intro S H
  refine ⟨H.A 12 (by decide), ?_⟩
  refine st_I H (by decide) (by decide) ?_
  clear H
  intro S H
  refine st_N (n' := 12) H rfl (by decide) ?_
  clear H
  intro S H
  refine ⟨H.A 12 (by decide), ?_⟩
  refine st_R H (by decide) (by decide) ?_
  clear H
  intro S H
  refine st_N (n' := 13) H rfl (by decide) ?_
  clear H
  intro S H
  refine ⟨H.A 12 (by decide), ?_⟩
  refine st_R H (by decide) (by decide) ?_
  clear H
  intro S H
  refine ⟨H.A 14 (by decide), ?_⟩
  refine st_R H (by decide) (by decide) ?_
  clear H
  intro S H
  refine st_N (n' := 14) H rfl (by decide) ?_
  clear H
  intro S H
  refine ⟨H.A 14 (by decide), ?_⟩
  refine st_R H (by decide) (by decide) ?_
  clear H
  intro S H
  refine st_N (n' := 15) H rfl (by decide) ?_
  clear H
  intro S H
  refine ⟨H.A 14 (by decide), ?_⟩
  unfold wX5_init
  refine st_N (n' := 16) H rfl (by decide) ?_
  clear H
  intro S H
  refine ⟨H.A 14 (by decide), ?_⟩
  refine st_R H (by decide) (by decide) ?_
  clear H
  intro S H
  refine st_N (n' := 17) H rfl (by decide) ?_
  clear H
  intro S H
  refine ⟨H.A 14 (by decide), ?_⟩
  refine st_R H (by decide) (by decide) ?_
  clear H
  intro S H
  refine st_N (n' := 18) H rfl (by decide) ?_
  clear H
  intro S H
  refine ⟨H.A 14 (by decide), ?_⟩
  refine st_R H (by decide) (by decide) ?_
  clear H
  intro S H
  refine st_N (n' := 19) H rfl (by decide) ?_
  clear H
  intro S H
  refine ⟨H.A 14 (by decide), ?_⟩
  refine st_R H (by decide) (by decide) ?_
  clear H
  intro S H
  refine st_N (n' := 20) H rfl (by decide) ?_
  clear H
  intro S H
  refine ⟨H.A 14 (by decide), ?_⟩
  refine st_R H (by decide) (by decide) ?_
  clear H
  intro S H
  refine st_N (n' := 21) H rfl (by decide) ?_
  clear H
  intro S H
  refine ⟨H.A 14 (by decide), ?_⟩
  refine st_R H (by decide) (by decide) ?_
  clear H
  intro S H
  refine st_N (n' := 22) H rfl (by decide) ?_
  clear H
  intro S H
  refine ⟨H.A 14 (by decide), ?_⟩
  refine st_R H (by decide) (by decide) ?_
  clear H
  intro S H
  refine st_N (n' := 23) H rfl (by decide) ?_
  clear H
  intro S H
  refine ⟨H.A 14 (by decide), ?_⟩
  refine st_R H (by decide) (by decide) ?_
  clear H
  intro S H
  refine ⟨H.A 14 (by decide), ?_⟩
  refine st_R H (by decide) (by decide) ?_
  clear H
  intro S H
  refine st_N (n' := 24) H rfl (by decide) ?_
  clear H
  intro S H
  refine ⟨H.A 3 (by decide), ?_⟩
  unfold wX1_init
  refine st_N (n' := 25) H rfl (by decide) ?_
  clear H
  intro S H
  refine ⟨H.A 3 (by decide), ?_⟩
  unfold wX0_init
  refine st_N (n' := 26) H rfl (by decide) ?_
  clear H
  intro S H
  refine ⟨H.A 3 (by decide), ?_⟩
  refine st_R H (by decide) (by decide) ?_
  clear H
  intro S H
  refine st_N (n' := 27) H rfl (by decide) ?_
  clear H
  intro S H
  refine ⟨H.A 3 (by decide), ?_⟩
  refine st_R H (by decide) (by decide) ?_
  clear H
  intro S H
  refine ⟨H.A 3 (by decide), ?_⟩
  refine st_R H (by decide) (by decide) ?_
  clear H
  intro S H
  refine st_N (n' := 28) H rfl (by decide) ?_
  clear H
  intro S H
  refine ⟨H.A 3 (by decide), ?_⟩
  refine st_R H (by decide) (by decide) ?_
  clear H
  intro S H
  refine st_N (n' := 29) H rfl (by decide) ?_
  clear H
  intro S H
  refine ⟨H.A 3 (by decide), ?_⟩
  refine st_R H (by decide) (by decide) ?_
  clear H
  intro S H
  refine ⟨H.A 3 (by decide), ?_⟩
  refine st_F (h := 27) H (by decide) (by decide) ?_
  clear H
  intro S H
  refine ⟨H.A 3 (by decide), ?_⟩
  refine st_F (h := 28) H (by decide) (by decide) ?_
  clear H
  intro S H
  refine ⟨H.A 14 (by decide), ?_⟩
  refine st_R H (by decide) (by decide) ?_
  clear H
  intro S H
  refine st_N (n' := 30) H rfl (by decide) ?_
  clear H
  intro S H
  refine ⟨H.A 7 (by decide), ?_⟩
  unfold wX7_init
  refine st_N (n' := 31) H rfl (by decide) ?_
  clear H
  intro S H
  refine ⟨H.A 7 (by decide), ?_⟩
  refine st_R H (by decide) (by decide) ?_
  clear H
  intro S H
  refine st_N (n' := 32) H rfl (by decide) ?_
  clear H
  intro S H
  refine ⟨H.A 7 (by decide), ?_⟩
  refine st_R H (by decide) (by decide) ?_
  clear H
  intro S H
  refine st_N (n' := 33) H rfl (by decide) ?_
  clear H
  intro S H
  refine ⟨H.A 7 (by decide), ?_⟩
  refine st_R H (by decide) (by decide) ?_
  clear H
  intro S H
  refine st_N (n' := 34) H rfl (by decide) ?_
  clear H
  intro S H
  refine ⟨H.A 7 (by decide), ?_⟩
  refine st_R H (by decide) (by decide) ?_
  clear H
  intro S H
  refine st_N (n' := 35) H rfl (by decide) ?_
  clear H
  intro S H
  refine ⟨H.A 7 (by decide), ?_⟩
  refine st_R H (by decide) (by decide) ?_
  clear H
  intro S H
  refine ⟨H.A 14 (by decide), ?_⟩
  refine st_R H (by decide) (by decide) ?_
  clear H
  intro S H
  refine st_N (n' := 36) H rfl (by decide) ?_
  clear H
  intro S H
  refine ⟨H.A 2 (by decide), ?_⟩
  unfold wX6_init
  refine st_N (n' := 37) H rfl (by decide) ?_
  clear H
  intro S H
  refine ⟨H.A 2 (by decide), ?_⟩
  refine st_R H (by decide) (by decide) ?_
  clear H
  intro S H
  refine ⟨H.A 14 (by decide), ?_⟩
  refine st_R H (by decide) (by decide) ?_
  clear H
  intro S H
  refine st_N (n' := 38) H rfl (by decide) ?_
  clear H
  intro S H
  refine ⟨H.A 1 (by decide), ?_⟩
  unfold wX2_init
  refine st_N (n' := 39) H rfl (by decide) ?_
  clear H
  intro S H
  refine ⟨H.A 1 (by decide), ?_⟩
  refine st_R H (by decide) (by decide) ?_
  clear H
  intro S H
  refine ⟨H.A 14 (by decide), ?_⟩
  refine st_R H (by decide) (by decide) ?_
  clear H
  intro S H
  refine st_N (n' := 40) H rfl (by decide) ?_
  clear H
  intro S H
  refine ⟨H.A 4 (by decide), ?_⟩
  unfold wX4_init
  refine st_N (n' := 41) H rfl (by decide) ?_
  clear H
  intro S H
  refine ⟨H.A 4 (by decide), ?_⟩
  refine st_R H (by decide) (by decide) ?_
  clear H
  intro S H
  refine ⟨H.A 14 (by decide), ?_⟩
  refine st_R H (by decide) (by decide) ?_
  clear H
  intro S H
  refine st_N (n' := 42) H rfl (by decide) ?_
  clear H
  intro S H
  refine ⟨H.A 4 (by decide), ?_⟩
  unfold wX10_init
  refine st_N (n' := 43) H rfl (by decide) ?_
  clear H
  intro S H
  refine ⟨H.A 4 (by decide), ?_⟩
  refine st_R H (by decide) (by decide) ?_
  clear H
  intro S H
  refine st_N (n' := 44) H rfl (by decide) ?_
  clear H
  intro S H
  refine ⟨H.A 4 (by decide), ?_⟩
  refine st_R H (by decide) (by decide) ?_
  clear H
  intro S H
  refine ⟨H.A 14 (by decide), ?_⟩
  refine st_R H (by decide) (by decide) ?_
  clear H
  intro S H
  refine st_N (n' := 45) H rfl (by decide) ?_
  clear H
  intro S H
  refine ⟨H.A 14 (by decide), ?_⟩
  refine st_R H (by decide) (by decide) ?_
  clear H
  intro S H
  refine ⟨H.A 14 (by decide), ?_⟩
  refine st_I H (by decide) (by decide) ?_
  clear H
  intro S H
  refine st_N (n' := 46) H rfl (by decide) ?_
  clear H
  intro S H
  refine ⟨H.A 44 (by decide), ?_⟩
  unfold wX12_init
  refine st_N (n' := 47) H rfl (by decide) ?_
  clear H
  intro S H
  refine ⟨H.A 44 (by decide), ?_⟩
  refine st_R H (by decide) (by decide) ?_
  clear H
  intro S H
  refine st_N (n' := 48) H rfl (by decide) ?_
  clear H
  intro S H
  refine ⟨H.A 44 (by decide), ?_⟩
  refine st_R H (by decide) (by decide) ?_
  clear H
  intro S H
  refine st_N (n' := 49) H rfl (by decide) ?_
  clear H
  intro S H
  refine ⟨H.A 44 (by decide), ?_⟩
  refine st_R H (by decide) (by decide) ?_
  clear H
  intro S H
  refine st_N (n' := 50) H rfl (by decide) ?_
  clear H
  intro S H
  refine ⟨H.A 44 (by decide), ?_⟩
  refine st_R H (by decide) (by decide) ?_
  clear H
  intro S H
  refine st_N (n' := 51) H rfl (by decide) ?_
  clear H
  intro S H
  refine ⟨H.A 44 (by decide), ?_⟩
  refine st_R H (by decide) (by decide) ?_
  clear H
  intro S H
  refine ⟨H.A 44 (by decide), ?_⟩
  refine st_I H (by decide) (by decide) ?_
  clear H
  intro S H
  refine st_N (n' := 52) H rfl (by decide) ?_
  clear H
  intro S H
  refine ⟨H.A 44 (by decide), ?_⟩
  refine st_R H (by decide) (by decide) ?_
  clear H
  intro S H
  refine st_N (n' := 53) H rfl (by decide) ?_
  clear H
  intro S H
  refine ⟨H.A 44 (by decide), ?_⟩
  refine st_R H (by decide) (by decide) ?_
  clear H
  intro S H
  refine st_N (n' := 54) H rfl (by decide) ?_
  clear H
  intro S H
  refine ⟨H.A 44 (by decide), ?_⟩
  refine st_R H (by decide) (by decide) ?_
  clear H
  intro S H
  refine st_N (n' := 55) H rfl (by decide) ?_
  clear H
  intro S H
  refine ⟨H.A 44 (by decide), ?_⟩
  refine st_R H (by decide) (by decide) ?_
  clear H
  intro S H
  refine st_N (n' := 56) H rfl (by decide) ?_
  clear H
  intro S H
  refine ⟨H.A 44 (by decide), ?_⟩
  refine st_R H (by decide) (by decide) ?_
  clear H
  intro S H
  refine st_N (n' := 57) H rfl (by decide) ?_
  clear H
  intro S H
  refine ⟨H.A 6 (by decide), ?_⟩
  refine st_J (z := 6) H (by decide) (nI_in2 (n := 0) (by decide) (by decide)) ?_
  clear H
  intro S H
  refine ⟨H.A 6 (by decide), ?_⟩
  refine st_J (z := 6) H (by decide) (nI_in2 (n := 1) (by decide) (by decide)) ?_
  clear H
  intro S H
  refine ⟨H.A 6 (by decide), ?_⟩
  refine st_J (z := 6) H (by decide) (nI_in2 (n := 2) (by decide) (by decide)) ?_
  clear H
  intro S H
  refine ⟨H.A 6 (by decide), ?_⟩
  refine st_J (z := 6) H (by decide) (nI_in2 (n := 3) (by decide) (by decide)) ?_
  clear H
  intro S H
  refine ⟨H.A 6 (by decide), ?_⟩
  refine st_J (z := 6) H (by decide) (nI_in2 (n := 4) (by decide) (by decide)) ?_
  clear H
  intro S H
  refine ⟨H.A 6 (by decide), ?_⟩
  refine st_J (z := 6) H (by decide) (nI_in2 (n := 5) (by decide) (by decide)) ?_
  clear H
  intro S H
  refine ⟨H.A 44 (by decide), ?_⟩
  refine st_R H (by decide) (by decide) ?_
  clear H
  intro S H
  refine st_N (n' := 58) H rfl (by decide) ?_
  clear H
  intro S H
  refine ⟨H.A 3 (by decide), ?_⟩
  refine st_J (z := 3) H (by decide) (nI_in2 (n := 0) (by decide) (by decide)) ?_
  clear H
  intro S H
  refine ⟨H.A 3 (by decide), ?_⟩
  refine st_J (z := 3) H (by decide) (nI_in2 (n := 1) (by decide) (by decide)) ?_
  clear H
  intro S H
  refine ⟨H.A 3 (by decide), ?_⟩
  refine st_J (z := 3) H (by decide) (nI_in2 (n := 2) (by decide) (by decide)) ?_
  clear H
  intro S H
  refine ⟨H.A 44 (by decide), ?_⟩
  refine st_R H (by decide) (by decide) ?_
  clear H
  intro S H
  refine st_N (n' := 59) H rfl (by decide) ?_
  clear H
  intro S H
  refine ⟨H.A 44 (by decide), ?_⟩
  refine st_R H (by decide) (by decide) ?_
  clear H
  intro S H
  refine st_N (n' := 60) H rfl (by decide) ?_
  clear H
  intro S H
  refine ⟨H.A 44 (by decide), ?_⟩
  refine st_R H (by decide) (by decide) ?_
  clear H
  intro S H
  refine st_N (n' := 61) H rfl (by decide) ?_
  clear H
  intro S H
  refine ⟨H.A 44 (by decide), ?_⟩
  refine st_R H (by decide) (by decide) ?_
  clear H
  intro S H
  refine st_N (n' := 62) H rfl (by decide) ?_
  clear H
  intro S H
  refine ⟨H.A 44 (by decide), ?_⟩
  refine st_R H (by decide) (by decide) ?_
  clear H
  intro S H
  refine st_N (n' := 63) H rfl (by decide) ?_
  clear H
  intro S H
  refine ⟨H.A 44 (by decide), ?_⟩
  refine st_R H (by decide) (by decide) ?_
  clear H
  intro S H
  refine st_N (n' := 64) H rfl (by decide) ?_
  clear H
  intro S H
  refine ⟨H.A 44 (by decide), ?_⟩
  refine st_R H (by decide) (by decide) ?_
  clear H
  intro S H
  refine st_N (n' := 65) H rfl (by decide) ?_
  clear H
  intro S H
  refine ⟨H.A 44 (by decide), ?_⟩
  refine st_R H (by decide) (by decide) ?_
  clear H
  intro S H
  refine st_N (n' := 66) H rfl (by decide) ?_
  clear H
  intro S H
  refine ⟨H.A 44 (by decide), ?_⟩
  refine st_R H (by decide) (by decide) ?_
  clear H
  intro S H
  refine st_N (n' := 67) H rfl (by decide) ?_
  clear H
  intro S H
  refine ⟨H.A 44 (by decide), ?_⟩
  refine st_R H (by decide) (by decide) ?_
  clear H
  intro S H
  refine st_N (n' := 68) H rfl (by decide) ?_
  clear H
  intro S H
  refine ⟨H.A 44 (by decide), ?_⟩
  refine st_R H (by decide) (by decide) ?_
  clear H
  intro S H
  refine st_N (n' := 69) H rfl (by decide) ?_
  clear H
  intro S H
  refine ⟨H.A 44 (by decide), ?_⟩
  refine st_R H (by decide) (by decide) ?_
  clear H
  intro S H
  refine ⟨H.A 44 (by decide), ?_⟩
  refine st_X (h := 47) (z := 5600) (j := 4) H (by decide) (by decide) (nI_in2 (n := 4) (by decide) (by decide)) rfl (by decide) ?_
  clear H
  intro S H
  refine ⟨H.A 44 (by decide), ?_⟩
  refine st_X (h := 47) (z := 5600) (j := 0) H (by decide) (by decide) (nI_in2 (n := 0) (by decide) (by decide)) rfl (by decide) ?_
  clear H
  intro S H
  refine ⟨H.A 44 (by decide), ?_⟩
  refine st_X (h := 47) (z := 5600) (j := 2) H (by decide) (by decide) (nI_in2 (n := 2) (by decide) (by decide)) rfl (by decide) ?_
  clear H
  intro S H
  refine hq S (H.inv (by decide) (by decide) (by decide) (fun i => ?_) (fun i => ?_) (fun i => ?_) (fun i => ?_) (fun h a b c d i => ?_) (by decide) (by decide) (by decide)) H.1
  · unfold vU; simp only [show ¬ ((47 : Nat) = 45) by omega, show ¬ ((47 : Nat) = 0) by omega, show ¬ ((47 : Nat) = 1) by omega, false_and, true_and, if_false]; split <;> (try split) <;> (try split) <;> first | rfl | omega
  · unfold vU; simp only [show ¬ ((1 : Nat) = 0) by omega, show ¬ ((1 : Nat) = 45) by omega, show ¬ ((1 : Nat) = 47) by omega, false_and, true_and, if_false]; split <;> (try split) <;> (try split) <;> first | rfl | omega
  · unfold vU; simp only [show ¬ ((0 : Nat) = 1) by omega, show ¬ ((0 : Nat) = 45) by omega, show ¬ ((0 : Nat) = 47) by omega, false_and, true_and, if_false]
  · unfold vU; simp only [show ¬ ((45 : Nat) = 0) by omega, show ¬ ((45 : Nat) = 1) by omega, show ¬ ((45 : Nat) = 47) by omega, false_and, true_and, if_false]
  · unfold vU; simp only [a, b, c, d, false_and, if_false]
end FIRST
