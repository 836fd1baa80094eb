/-! FROM A CALL OF THE ABSTRACT MACHINE TO A CONTRACT -/
theorem jsl_len (ad : Nat → Nat) : ∀ vs : List Value, (lg_sl (vs.map (jcv ad))).length = (vs.map fun v => v.category).sum
  | [] => rfl
  | v :: vs => by
    have ih := jsl_len ad vs
    unfold lg_sl at ih ⊢
    rw [List.map_cons, List.flatMap_cons, List.length_append, ih, List.map_cons, List.sum_cons]
    congr 1
    cases v <;> rfl
theorem jargs_mem (ad : Nat → Nat) : ∀ (vs : List Value) (o i : Nat) (v : Value), (vs.flatMap fun v => if v.category = 2 then [some v, none] else [some v])[i]? = some (some v) → (o + i, jcv ad v) ∈ lv_args o (vs.map (jcv ad))
  | [], o, i, v, h => by simp at h
  | a :: vs, o, i, v, h => by
    rw [List.flatMap_cons] at h
    rw [List.map_cons]
    unfold lv_args
    by_cases hc : a.category = 2
    · rw [if_pos hc] at h
      rw [jcv_cat, if_pos hc]
      match i, h with
      | 0, h => simp at h; subst h; exact List.mem_cons_self
      | 1, h => simp at h
      | i + 2, h =>
        have := jargs_mem ad vs (o + 2) i v (by simpa using h)
        rw [show o + 2 + i = o + (i + 2) by omega] at this
        exact List.mem_cons_of_mem _ this
    · rw [if_neg hc] at h
      rw [jcv_cat, if_neg hc]
      match i, h with
      | 0, h => simp at h; subst h; exact List.mem_cons_self
      | i + 1, h =>
        have := jargs_mem ad vs (o + 1) i v (by simpa using h)
        rw [show o + 1 + i = o + (i + 1) by omega] at this
        exact List.mem_cons_of_mem _ this
theorem jargs_get {n : Nat} {vs : List Value} {i : Nat} {v : Value} (h : (jargs n vs)[i]? = some (some v)) : (vs.flatMap fun v => if v.category = 2 then [some v, none] else [some v])[i]? = some (some v) := by
  unfold jargs at h
  simp only at h
  by_cases hl : i < (vs.flatMap fun v => if v.category = 2 then [some v, none] else [some v]).length
  · rwa [List.getElem?_append_left hl] at h
  · rw [List.getElem?_append_right (by omega), List.getElem?_replicate] at h
    split at h <;> simp at h
theorem jargs_in : ∀ (vs : List Value) (i : Nat) (v : Value), (vs.flatMap fun v => if v.category = 2 then [some v, none] else [some v])[i]? = some (some v) → v ∈ vs
  | [], i, v, h => by simp at h
  | a :: vs, i, v, h => by
    rw [List.flatMap_cons] at h
    by_cases hc : a.category = 2
    · rw [if_pos hc] at h
      match i, h with
      | 0, h => simp at h; subst h; exact List.mem_cons_self
      | 1, h => simp at h
      | i + 2, h => exact List.mem_cons_of_mem _ (jargs_in vs i v (by simpa using h))
    · rw [if_neg hc] at h
      match i, h with
      | 0, h => simp at h; subst h; exact List.mem_cons_self
      | i + 1, h => exact List.mem_cons_of_mem _ (jargs_in vs i v (by simpa using h))
theorem jentry {ad : Nat → Nat} {vs : List Value} {n : Nat} (h : (vs.map fun v => v.category).sum ≤ n) (m : MethodId) : ∃ ls, entryFrame m (vs.map (jcv ad)).toArray n = F0 m 0 ls [] ∧ jlh ad ls n (jargs n vs) := by
  refine ⟨_, lg_entry_eq m (vs.map (jcv ad)) n, ?_⟩
  have hl := lv_entry (vs.map (jcv ad)) (n := n) (by rw [jsl_len]; exact h)
  refine ⟨hl.1, hl.2.1, fun i v hi => ?_⟩
  have := jargs_mem ad vs 0 i v (jargs_get hi)
  rw [Nat.zero_add] at this
  exact hl.2.2 _ this
set_option maxHeartbeats 4000000 in
theorem jret {p : Program} {l : Launch} {e : Env} {R : Room} {s : State} {m : MethodId} {args : Array Value} {below : List Frame} {meth : Method} {c : Code} {E : JE} {M : JM} {ad0 : Nat → Nat} {n0 : Nat} {Q : Option Value → JS → Prop} (hC : jCx p s m args meth c R E M) (hr : meth.sig.returnType = M.ret) (hlocks : meth.locks = false) : jRetOK p l e R s m args below meth c E M ad0 n0 (MQ below (jQc E ad0 n0 Q) args s R.cells R.slots E.A) Q := by
  obtain ⟨hx, hb, hml, hown, hts, hE, hz, hnm, hfr, hlo, hmk⟩ := hC
  intro i t lv S rc rs hi
  have hk := jMok_at hmk hi
  obtain ⟨pc, ins, len, a, b, v0, w, tl⟩ := t
  unfold jchk at hk
  rw [Bool.and_eq_true, Bool.and_eq_true, Bool.and_eq_true] at hk
  obtain ⟨⟨⟨hd, hnx⟩, hln⟩, hk⟩ := hk
  have hd := of_decide_eq_true hd
  refine ⟨fun v hins hrt hq => ?_, fun hins hrt hq => ?_⟩
  · intro ad H locs ls cells slots hP hS hl hlo2 hso he hn hc hsl
    simp only at hP hl hlo2 hso hn hc hsl ⊢
    rw [jpc_at hi]
    have hln2 : len = 1 := by
      rcases hins with h | h | h <;> (have h : ins = _ := h; subst h; simpa [jln] using hln)
    subst hln2
    have hQ : ∀ tt : State, tt.heap = H → s.WarmedH tt.vm → jQc E ad0 n0 Q args s (.returned (some (jcv ad v))) tt := fun tt ht _ => ⟨⟨some v, S, ad, rfl, hq, by rw [ht]; exact hP, fun w hw => by cases hw; exact jso_head hso, he, hn⟩, hS.F ht⟩
    refine W.widen (k := R.cells) (n := R.slots) (by omega) (by omega) ?_
    show W p l e R s m args below meth c H locs R.cells R.slots _ (F0 m pc ls [jcv ad v])
    rcases hins with h | h | h
    · have h : ins = .ireturn := h
      subst h
      have hk : M.ret = some .int ∨ M.ret = some .boolean := by simpa [jck1] using hk
      rcases hk with hk | hk
      · rw [hk] at hrt
        cases v with
        | int x => exact W.iret hx hb (hr.trans hk) hQ hS.2.2 hd
        | _ => exact absurd hrt (by simp [jrt])
      · rw [hk] at hrt
        cases v with
        | int x => exact W.zret hx hb (hr.trans hk) (jbit_nar hrt).1 hQ hS.2.2 hd
        | _ => exact absurd hrt (by simp [jrt])
    · have h : ins = .lreturn := h
      subst h
      have hk : M.ret = some .long := by simpa [jck1] using hk
      rw [hk] at hrt
      cases v with
      | long x => exact W.lret hx hb (hr.trans hk) hQ hS.2.2 hd
      | _ => exact absurd hrt (by simp [jrt])
    · have h : ins = .areturn := h
      subst h
      have hk2 : ∃ rt, M.ret = some rt ∧ ((∃ n, rt = .object n) ∨ ∃ t, rt = .array t) := by
        simp only [jck1] at hk
        split at hk
        · rename_i n e1; exact ⟨_, e1, Or.inl ⟨n, rfl⟩⟩
        · rename_i n e1; exact ⟨_, e1, Or.inr ⟨n, rfl⟩⟩
        · cases hk
      obtain ⟨rt, e1, e2⟩ := hk2
      rw [e1] at hrt
      refine W.aret hx hb (hr.trans e1) e2 ?_ hQ hS.2.2 hd
      rcases e2 with ⟨n, rfl⟩ | ⟨n, rfl⟩
      · cases v with
        | ref x => exact Or.inr ⟨_, rfl⟩
        | null => exact Or.inl rfl
        | _ => exact absurd hrt (by simp [jrt])
      · cases v with
        | ref x => exact Or.inr ⟨_, rfl⟩
        | _ => exact absurd hrt (by simp [jrt])
  · intro ad H locs ls cells slots hP hS hl hlo2 hso he hn hc hsl
    simp only at hP hl hlo2 hso hn hc hsl ⊢
    rw [jpc_at hi]
    have hins : ins = .return_ := hins
    subst hins
    have hln2 : len = 1 := by simpa [jln] using hln
    subst hln2
    have hk : M.ret = none := by simpa [jck1] using hk
    have hQ : ∀ tt : State, tt.heap = H → s.WarmedH tt.vm → jQc E ad0 n0 Q args s (.returned none) tt := fun tt ht _ => ⟨⟨none, S, ad, rfl, hq, by rw [ht]; exact hP, fun w hw => (by cases hw), he, hn⟩, hS.F ht⟩
    refine W.widen (k := R.cells) (n := R.slots) (by omega) (by omega) ?_
    exact W.vret hx hb (hr.trans hk) hQ hS.2.2 hd
set_option maxHeartbeats 4000000 in
/-- a call of the abstract machine, d deep, is a contract of the method -/
theorem jmet (l : Launch) (E : JE) (bud : Nat → Nat × Nat) (hok : ∀ k, jMok (jmt k) = true) : ∀ (d k : Nat) (args : List Value) (S : JS) (Q : Option Value → JS → Prop), jCall jmt bud d k args S Q → jMet l E d bud k args S Q
  | 0, _, _, _, _, h => h.elim
  | d + 1, k, args, S, Q, h => by
    intro ad hargs
    obtain ⟨hsum, h⟩ := h
    obtain ⟨hcl, hpl, hpc⟩ := jMok_cls (hok k)
    refine Met.ofW (cc := (jmt k).cc) (maxL := (jmt k).nL) (ret := (jmt k).ret) hpl rfl ?_
    intro p e s m args' below meth c s₁ B hml hv
    obtain ⟨rfl, hE, hP, hz⟩ := hv
    have hts0 := atoms_spec (ws := jws (jmt k)) B.pre
    have hC : jCx p s m (args.map (jcv ad)).toArray meth c (jrm (d + 1) (bud k)) E (jmt k) := ⟨B.exec, B.bytes, hml, by rw [hcl]; exact findClass_of_methodNamed B.named, fun w hw => hts0 w (List.mem_cons_of_mem _ hw), hE, hz, fun h => (name_of_methodNamed B.named B.method).1.trans h, by show 8 ≤ d + 1 + 8; omega, by show 512 ≤ 64 * (d + 1 + 8); omega, hok k⟩
    obtain ⟨ls, e1, hl⟩ := jentry (ad := ad) hsum m
    rw [e1]
    have hfr9 : d + 9 ≤ (jrm (d + 1) (bud k)).frames ∧ 64 * (d + 9) ≤ (jrm (d + 1) (bud k)).locals := ⟨by show d + 9 ≤ d + 1 + 8; omega, by show 64 * (d + 9) ≤ 64 * (d + 1 + 8); rw [show d + 1 + 8 = d + 9 by omega]; exact Nat.le_refl _⟩
    have hW := jsnd_L (l := l) (e := e) (below := below) (ad0 := ad) (n0 := jN S) hC hfr9 (jmet l E bud hok d) (X := none) (fun L xs hx => by cases hx) (jret hC B.returns B.notSynchronized) h
    have h2 := hW ad s.heap [] ls 0 0 hP va_S.rf hl (fun i v hi => hargs v (jargs_in _ _ _ (jargs_get hi))) (fun v hv => by cases hv) (fun _ _ => rfl) (Nat.le_refl _) (by show 0 + (bud k).1 ≤ (bud k).1; omega) (by show 0 + (bud k).2 ≤ (bud k).2; omega)
    simp only at h2
    rw [hpc] at h2
    exact h2
