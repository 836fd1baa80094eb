/-! FIELDS AND ARRAYS over the machine -/
theorem jbit_nar {x : Int32} (h : jbit x) : narrow .boolean (.int x) = .int x ∧ fits .boolean (.int x) = true ∧ vp_nar .boolean x = x := by
  rcases h with rfl | rfl <;> exact ⟨by decide +kernel, by decide +kernel, by decide +kernel⟩
theorem jtc_ref {ty : FieldType} (h : jtc ty = 2) (a : Nat) : narrow ty (.ref a) = .ref a := by cases ty <;> first | rfl | (simp [jtc] at h)
theorem jTy_ref {c k : Nat} (hc : c < 13) (h : ftc c k = 2) (a : Nat) : narrow (jTy c k) (.ref a) = .ref a := jtc_ref h a
section JS3
variable {p : Program} {l : Launch} {e : Env} {R : Room} {s : State} {m : MethodId} {args : Array Value} {below : List Frame} {meth : Method} {c : Code} {E : JE} {M : JM} {ad0 : Nat → Nat} {n0 : Nat} {Qf : State → Prop}
theorem jfit_ref : ∀ c, c < 13 → ∀ k, k < fnum c → ftc c k = 2 → ∀ a : Nat, fits (jTy c k) (.ref a) = true := by
  have key : ∀ ty : FieldType, ((∃ n, ty = .object n) ∨ ∃ t, ty = .array t) → ∀ a : Nat, fits ty (.ref a) = true := by
    intro ty h a
    rcases h with ⟨n, rfl⟩ | ⟨t, rfl⟩ <;> rfl
  have k2 : ∀ c, c < 13 → ∀ k, k < fnum c → ftc c k = 2 → (match jTy c k with | .object _ => true | .array _ => true | _ => false) = true := by decide +kernel
  intro c hc k hk h a
  apply key
  have := k2 c hc k hk h
  split at this
  · rename_i n e; exact Or.inl ⟨n, e⟩
  · rename_i t e; exact Or.inr ⟨t, e⟩
  · cases this
theorem jty_0 : ∀ c, c < 13 → ∀ k, k < fnum c → ftc c k = 0 → jTy c k = .int := by decide +kernel
theorem jty_1 : ∀ c, c < 13 → ∀ k, k < fnum c → ftc c k = 1 → jTy c k = .long := by decide +kernel
theorem jty_3 : ∀ c, c < 13 → ∀ k, k < fnum c → ftc c k = 3 → jTy c k = .boolean := by decide +kernel
theorem jF_2 {ad : Nat → Nat} {S : JS} {h k : Nat} (hr : ¬ jR S h k = none) : jF ad S h 2 k = jcv ad (.ref (jr S h k)) := by
  cases hv : jR S h k with
  | none => exact absurd hv hr
  | some r => simp [jF, hv, jr, jcv, va_rf]
theorem jget_inv {c k : Nat} {lv : JL} {st : List Value} {S : JS} {ad : Nat → Nat} (h : jgd (jget c k lv st S).1) : ∃ g r v, st = .ref g :: r ∧ jA S g c ∧ jget c k lv st S = ((jget c k lv st S).1, lv, v :: r, S) ∧ jF ad S g (ftc c k) k = jcv ad v ∧ (jwf S → jok (jN S) v) := by
  unfold jget at h ⊢
  split at h
  · rename_i g r
    refine ⟨g, r, ?_⟩
    split at h
    · rename_i ht
      exact ⟨_, rfl, h _ List.mem_cons_self, rfl, by rw [ht]; rfl, fun _ => jok_long _ _⟩
    · rename_i ht
      have hA : jA S g c := h _ List.mem_cons_self
      have hr : ¬ jR S g k = none := h _ (List.mem_cons_of_mem _ List.mem_cons_self)
      refine ⟨_, rfl, hA, rfl, by rw [ht]; exact jF_2 hr, fun hw q eq => ?_⟩
      cases eq
      cases hv : jR S g k with
      | none => exact absurd hv hr
      | some x =>
        have := hw g k x hA.1 hv
        simpa [jr, hv] using this
    · rename_i h1 h2
      refine ⟨_, rfl, h _ List.mem_cons_self, rfl, ?_, fun _ => jok_int _ _⟩
      unfold jF
      rw [if_neg h1, if_neg h2]
      rfl
  · exact jgd_bad h
set_option maxHeartbeats 4000000 in
theorem jsnd_get (hC : jCx p s m args meth c R E M) {i : Nat} {t : JIt} (hi : M.its[i]? = some t) {lv : JL} {st : List Value} {S : JS} {rc rs : Nat} {idx : Nat} (hq : t.ins = .getfield idx)
    (hg : jgd (jx1 t lv st S).1) (h : jWC p l e R s m args below meth c E M ad0 n0 Qf (i + 1, (jx1 t lv st S).2.1, (jx1 t lv st S).2.2.1, (jx1 t lv st S).2.2.2, rc, rs)) : jWC p l e R s m args below meth c E M ad0 n0 Qf (i, lv, st, S, rc, rs) := by
  obtain ⟨hx, hb, hml, hown, hts, hE, hz, hnm, hfr, hlo, hmk⟩ := hC
  have hk := jMok_at hmk hi
  have hon := jMok_own hmk
  intro ad H locs ls cells slots hP hS hl hlo2 hso he hn hc hsl
  simp only at hP hl hlo2 hso hn hc hsl ⊢
  rw [jpc_at hi]
  obtain ⟨pc, ins, len, a, b, v, w, tl⟩ := t
  unfold jchk at hk
  rw [Bool.and_eq_true, Bool.and_eq_true, Bool.and_eq_true] at hk
  obtain ⟨⟨⟨hd, hnx⟩, hln⟩, hk⟩ := hk
  have hd := of_decide_eq_true hd
  try simp only at hd hnx hln hk hq hg h ⊢
  subst hq
  have hln : len = 3 := by simpa [jln] using hln
  subst hln
  have hnx2 : jpc M (i + 1) = pc + 3 := by simpa [jthru] using hnx
  simp only [jck1, Bool.and_eq_true, decide_eq_true_eq] at hk
  obtain ⟨⟨hk1, hk2⟩, hk3⟩ := hk
  obtain ⟨g, r, v2, rfl, hA, ho, hv, hokv⟩ := jget_inv (ad := ad) hg
  obtain ⟨c1, c2, c3, c4⟩ := jcls a hk2
  have hw := hts _ (jFL_ok _ (jmem4_of hk1))
  unfold jFLw at hw
  simp only at hw
  rw [← hon] at hw
  simp only [jx1] at h
  rw [ho] at h
  have h2 := h ad H locs ls cells slots hP hS hl hlo2 (jso_cons (hokv hP.2.2.1) (jso_tail hso)) he hn hc hsl
  rw [hnx2] at h2
  refine va_get (D := E.D) (ci := a) (C := jRX a) (T := jT a) (N := fnum a) hx hb hts c2 hown hE.1 hP.1 g ((jW_at hA.1).trans (by rw [jC_obj hA.2 hk2])) c1 b hk3 hw (fun _ q => q) (v := jcv ad v2) ?_ hd h2
  simp [hk3, hv]
theorem jput_inv {c k : Nat} {lv : JL} {st : List Value} {S : JS} (h : jgd (jput c k lv st S).1) : ∃ g r v S', st = v :: .ref g :: r ∧ jA S g c ∧ (jput c k lv st S).2 = (lv, r, S') ∧
    ((∃ x, v = .int x ∧ S' = uI S g k x ∧ (ftc c k = 0 ∨ (ftc c k = 3 ∧ jbit x))) ∨ (∃ x, v = .long x ∧ S' = uJ S g k x ∧ ftc c k = 1) ∨ ∃ x, v = .ref x ∧ S' = uR S g k (some x) ∧ ftc c k = 2) := by
  unfold jput at h ⊢
  split at h
  · split at h
    · rename_i ht
      exact ⟨_, _, _, _, rfl, h _ List.mem_cons_self, rfl, Or.inl ⟨_, rfl, rfl, Or.inl ht⟩⟩
    · rename_i ht
      exact ⟨_, _, _, _, rfl, h _ List.mem_cons_self, rfl, Or.inl ⟨_, rfl, rfl, Or.inr ⟨ht, h _ (List.mem_cons_of_mem _ List.mem_cons_self)⟩⟩⟩
    · exact jgd_bad h
  · split at h
    · rename_i ht
      exact ⟨_, _, _, _, rfl, h _ List.mem_cons_self, rfl, Or.inr (Or.inl ⟨_, rfl, rfl, ht⟩)⟩
    · exact jgd_bad h
  · split at h
    · rename_i ht
      exact ⟨_, _, _, _, rfl, h _ List.mem_cons_self, rfl, Or.inr (Or.inr ⟨_, rfl, rfl, ht⟩)⟩
    · exact jgd_bad h
  · exact jgd_bad h
/-- the pool behind a write -/
theorem jPool_set {ad : Nat → Nat} {S S' : JS} {H H1 : Heap} {g : Nat} {e : va_E} (hP : jPool E ad S H) (hn : jN S' = jN S) (he : jC E.cy ad S' g = e) (ho : ∀ q, q ≠ g → jC E.cy ad S' q = jC E.cy ad S q) (hw : jwf S') (h1 : va_P E.D vwCl ((jW E.cy ad S).set g (ad g, e)) H1) (h2 : va_D E.A ((jW E.cy ad S).set g (ad g, e))) : jPool E ad S' H1 := by
  rw [jW_set hn he ho] at h1 h2
  exact ⟨h1, h2, hw, hP.2.2.2⟩
set_option maxHeartbeats 4000000 in
theorem jsnd_put (hC : jCx p s m args meth c R E M) {i : Nat} {t : JIt} (hi : M.its[i]? = some t) {lv : JL} {st : List Value} {S : JS} {rc rs : Nat} {idx : Nat} (hq : t.ins = .putfield idx)
    (hg : jgd (jx1 t lv st S).1) (h : jWC p l e R s m args below meth c E M ad0 n0 Qf (i + 1, (jx1 t lv st S).2.1, (jx1 t lv st S).2.2.1, (jx1 t lv st S).2.2.2, rc, rs)) : jWC p l e R s m args below meth c E M ad0 n0 Qf (i, lv, st, S, rc, rs) := by
  obtain ⟨hx, hb, hml, hown, hts, hE, hz, hnm, hfr, hlo, hmk⟩ := hC
  have hk := jMok_at hmk hi
  have hon := jMok_own hmk
  intro ad H locs ls cells slots hP hS hl hlo2 hso he hn hc hsl
  simp only at hP hl hlo2 hso hn hc hsl ⊢
  rw [jpc_at hi]
  obtain ⟨pc, ins, len, a, b, v, w, tl⟩ := t
  unfold jchk at hk
  rw [Bool.and_eq_true, Bool.and_eq_true, Bool.and_eq_true] at hk
  obtain ⟨⟨⟨hd, hnx⟩, hln⟩, hk⟩ := hk
  have hd := of_decide_eq_true hd
  try simp only at hd hnx hln hk hq hg h ⊢
  subst hq
  have hln : len = 3 := by simpa [jln] using hln
  subst hln
  have hnx2 : jpc M (i + 1) = pc + 3 := by simpa [jthru] using hnx
  simp only [jck1, Bool.and_eq_true, Bool.or_eq_true, decide_eq_true_eq] at hk
  obtain ⟨⟨⟨hk1, hk2⟩, hk3⟩, hk4⟩ := hk
  obtain ⟨c1, c2, c3, c4⟩ := jcls a hk2
  have hw := hts _ (jFL_ok _ (jmem4_of hk1))
  unfold jFLw at hw
  simp only at hw
  rw [← hon] at hw
  obtain ⟨g, r, v2, S', rfl, hA, ho, hcase⟩ := jput_inv hg
  simp only [jx1] at h
  rw [ho] at h
  simp only at h
  have hso2 : jso (jN S) r := jso_tail (jso_tail hso)
  -- what the write does to the pool
  have key : ∃ vv : Value, jcv ad v2 = vv ∧ jN S' = jN S ∧ jwf S' ∧ jC E.cy ad S' g = .inr (a, ((List.range (fnum a)).map fun k => jF ad S g (ftc a k) k).set b vv) ∧ (∀ q, q ≠ g → jC E.cy ad S' q = jC E.cy ad S q) ∧ narrow (jTy a b) vv = vv ∧ fits (jTy a b) vv = true := by
    rcases hcase with ⟨x, rfl, rfl, ht⟩ | ⟨x, rfl, rfl, ht⟩ | ⟨x, rfl, rfl, ht⟩
    · refine ⟨_, rfl, rfl, hP.2.2.1, jC_setI hA.2 hk2 (by rcases ht with ht | ⟨ht, _⟩ <;> rw [ht] <;> exact ⟨by decide, by decide⟩), fun q hq => jC_uIf hq, ?_⟩
      rcases ht with ht | ⟨ht, hbit⟩
      · rw [jty_0 a hk2 b hk3 ht]; exact ⟨rfl, rfl⟩
      · rw [jty_3 a hk2 b hk3 ht]; exact ⟨(jbit_nar hbit).1, (jbit_nar hbit).2.1⟩
    · refine ⟨_, rfl, rfl, hP.2.2.1, jC_setJ hA.2 hk2 ht, fun q hq => jC_uJf hq, ?_⟩
      rw [jty_1 a hk2 b hk3 ht]; exact ⟨rfl, rfl⟩
    · refine ⟨_, rfl, rfl, jwf_uR hP.2.2.1 (fun r2 e2 => by cases e2; exact jso_head hso x rfl), jC_setR hA.2 hk2 ht, fun q hq => jC_uRf hq, jTy_ref hk2 ht _, jfit_ref a hk2 b hk3 ht _⟩
  obtain ⟨vv, e1, e2, e3, e4, e5, e6, e7⟩ := key
  have hfl : b < ((List.range (fnum a)).map fun k => jF ad S g (ftc a k) k).length := by simpa using hk3
  have fin : ∀ (H1 : Heap) (locs1 : List Loc), va_P E.D vwCl ((jW E.cy ad S).set g (ad g, .inr (a, ((List.range (fnum a)).map fun k => jF ad S g (ftc a k) k).set b vv))) H1 → va_D E.A ((jW E.cy ad S).set g (ad g, .inr (a, ((List.range (fnum a)).map fun k => jF ad S g (ftc a k) k).set b vv))) → va_S E.A s.heap H1 locs1 → W p l e R s m args below meth c H1 locs1 cells slots Qf (F0 m (pc + 3) ls (r.map (jcv ad))) := by
    intro H1 locs1 hP1 hD1 hS1
    have h2 := h ad H1 locs1 ls cells slots (jPool_set hP e2 e4 e5 e3 hP1 hD1) hS1 hl (by rw [e2]; exact hlo2) (by rw [e2]; exact hso2) he (by rw [e2]; exact hn) hc hsl
    rw [hnx2] at h2
    exact h2
  show W p l e R s m args below meth c H locs cells slots Qf (F0 m pc ls (jcv ad v2 :: .ref (ad g) :: r.map (jcv ad)))
  rw [e1]
  rcases hk4 with hk4 | ⟨⟨hk4, hk5⟩, hk6⟩
  · exact va_put (D := E.D) (ci := a) (C := jRX a) (T := jT a) (N := fnum a) hx hb hts c2 (jTy a) c3 c4 hown hE.1 hP.1 hP.2.1 hS g ((jW_at hA.1).trans (by rw [jC_obj hA.2 hk2])) c1 b hk3 hw (fun _ q => q) hk4 (c3 b hk3) e6 e7 hfl hd fin
  · exact va_putF (D := E.D) (ci := a) (C := jRX a) (T := jT a) (N := fnum a) hx hb hts c2 (jTy a) c3 c4 hown hE.1 hP.1 hP.2.1 hS g ((jW_at hA.1).trans (by rw [jC_obj hA.2 hk2])) c1 b hk3 hw (fun _ q => q) hk4 (hnm hk5) hk6 (c3 b hk3) e6 e7 hfl hd fin
end JS3
