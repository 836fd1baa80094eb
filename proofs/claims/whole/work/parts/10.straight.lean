/-! STRAIGHT INSTRUCTIONS over the machine -/
theorem jgd_bad {lv : JL} {st : List Value} {S : JS} {α : Prop} (h : jgd (jbad lv st S).1) : α := absurd (h False (by simp [jbad])) id
theorem jII_inv {f : Int32 → Int32 → Int32} {lv : JL} {st : List Value} {S : JS} (h : jgd (jII f lv st S).1) : ∃ x y r, st = .int y :: .int x :: r := by
  unfold jII at h; split at h
  · exact ⟨_, _, _, rfl⟩
  · exact jgd_bad h
theorem jLL_inv {f : Int64 → Int64 → Int64} {lv : JL} {st : List Value} {S : JS} (h : jgd (jLL f lv st S).1) : ∃ x y r, st = .long y :: .long x :: r := by
  unfold jLL at h; split at h
  · exact ⟨_, _, _, rfl⟩
  · exact jgd_bad h
theorem jIId_inv {f : Int32 → Int32 → Int32} {lv : JL} {st : List Value} {S : JS} (h : jgd (jIId f lv st S).1) : ∃ x y r, st = .int y :: .int x :: r ∧ ¬ y = 0 := by
  unfold jIId at h; split at h
  · exact ⟨_, _, _, rfl, h _ List.mem_cons_self⟩
  · exact jgd_bad h
theorem jLLd_inv {f : Int64 → Int64 → Int64} {lv : JL} {st : List Value} {S : JS} (h : jgd (jLLd f lv st S).1) : ∃ x y r, st = .long y :: .long x :: r ∧ ¬ y = 0 := by
  unfold jLLd at h; split at h
  · exact ⟨_, _, _, rfl, h _ List.mem_cons_self⟩
  · exact jgd_bad h
theorem jLI_inv {f : Int64 → Int32 → Int64} {lv : JL} {st : List Value} {S : JS} (h : jgd (jLI f lv st S).1) : ∃ x y r, st = .int y :: .long x :: r := by
  unfold jLI at h; split at h
  · exact ⟨_, _, _, rfl⟩
  · exact jgd_bad h
theorem jldI_inv {lv : JL} {st : List Value} {S : JS} {i : Nat} (h : jgd (jldI lv st S i).1) : ∃ x, lv[i]? = some (some (.int x)) ∧ jldI lv st S i = ([], lv, .int x :: st, S) := by
  unfold jldI at h ⊢; split at h
  · rename_i x hx
    refine ⟨x, ?_, rfl⟩
    rw [List.getD_eq_getElem?_getD] at hx
    cases hl : lv[i]? with
    | none => rw [hl] at hx; cases hx
    | some v => rw [hl] at hx; simp at hx; rw [hx]
  · exact jgd_bad h
theorem jldL_inv {lv : JL} {st : List Value} {S : JS} {i : Nat} (h : jgd (jldL lv st S i).1) : ∃ x, lv[i]? = some (some (.long x)) ∧ jldL lv st S i = ([], lv, .long x :: st, S) := by
  unfold jldL at h ⊢; split at h
  · rename_i x hx
    refine ⟨x, ?_, rfl⟩
    rw [List.getD_eq_getElem?_getD] at hx
    cases hl : lv[i]? with
    | none => rw [hl] at hx; cases hx
    | some v => rw [hl] at hx; simp at hx; rw [hx]
  · exact jgd_bad h
theorem jldA_inv {lv : JL} {st : List Value} {S : JS} {i : Nat} (h : jgd (jldA lv st S i).1) : (∃ x, lv[i]? = some (some (.ref x)) ∧ jldA lv st S i = ([], lv, .ref x :: st, S)) ∨ (lv[i]? = some (some .null) ∧ jldA lv st S i = ([], lv, .null :: st, S)) := by
  unfold jldA at h ⊢; split at h
  · rename_i x hx
    refine Or.inl ⟨x, ?_, rfl⟩
    rw [List.getD_eq_getElem?_getD] at hx
    cases hl : lv[i]? with
    | none => rw [hl] at hx; cases hx
    | some v => rw [hl] at hx; simp at hx; rw [hx]
  · rename_i hx
    refine Or.inr ⟨?_, rfl⟩
    rw [List.getD_eq_getElem?_getD] at hx
    cases hl : lv[i]? with
    | none => rw [hl] at hx; cases hx
    | some v => rw [hl] at hx; simp at hx; rw [hx]
  · exact jgd_bad h
theorem jinc_inv {lv : JL} {st : List Value} {S : JS} {i : Nat} {v : Int32} (h : jgd (jinc i v lv st S).1) : ∃ x, lv[i]? = some (some (.int x)) ∧ jinc i v lv st S = ([], jst1 lv i (.int (x + v)), st, S) := by
  unfold jinc at h ⊢; split at h
  · rename_i x hx
    refine ⟨x, ?_, rfl⟩
    rw [List.getD_eq_getElem?_getD] at hx
    cases hl : lv[i]? with
    | none => rw [hl] at hx; cases hx
    | some v => rw [hl] at hx; simp at hx; rw [hx]
  · exact jgd_bad h
theorem jstI_inv {lv : JL} {st : List Value} {S : JS} {i : Nat} (h : jgd (jstI lv st S i).1) : ∃ x r, st = .int x :: r := by
  unfold jstI at h; split at h
  · exact ⟨_, _, rfl⟩
  · exact jgd_bad h
theorem jstL_inv {lv : JL} {st : List Value} {S : JS} {i : Nat} (h : jgd (jstL lv st S i).1) : ∃ x r, st = .long x :: r := by
  unfold jstL at h; split at h
  · exact ⟨_, _, rfl⟩
  · exact jgd_bad h
theorem jstA_inv {lv : JL} {st : List Value} {S : JS} {i : Nat} (h : jgd (jstA lv st S i).1) : (∃ x r, st = .ref x :: r) ∨ ∃ r, st = .null :: r := by
  unfold jstA at h; split at h
  · exact Or.inl ⟨_, _, rfl⟩
  · exact Or.inr ⟨_, rfl⟩
  · exact jgd_bad h
/-- where the machine is -/
def jCx (p : Program) (s : State) (m : MethodId) (args : Array Value) (meth : Method) (c : Code) (R : Room) (E : JE) (M : JM) : Prop :=
  p.tables.exec = Jvm.exec ∧ c.code = M.cc ∧ c.maxLocals = M.nL ∧ s.vm.findClass M.own = some m.cls ∧ (∀ w ∈ jBIG, w.before args s = true) ∧ jEnv E s s.heap ∧ E.z ≤ s.heap.size ∧ (M.y.name = "<init>" → meth.name = "<init>") ∧ 8 ≤ R.frames ∧ 512 ≤ R.locals ∧ jMok M = true
/-- the machine, from a configuration on, comes to Qf -/
def jWC (p : Program) (l : Launch) (e : Env) (R : Room) (s : State) (m : MethodId) (args : Array Value) (below : List Frame) (meth : Method) (c : Code) (E : JE) (M : JM) (ad0 : Nat → Nat) (n0 : Nat) (Qf : State → Prop) (cf : JC) : Prop :=
  ∀ (ad : Nat → Nat) (H : Heap) (locs : List Loc) (ls : Array Slot) (cells slots : Nat), jPool E ad cf.2.2.2.1 H → va_S E.A s.heap H locs → jlh ad ls M.nL cf.2.1 → jlo (jN cf.2.2.2.1) cf.2.1 → jso (jN cf.2.2.2.1) cf.2.2.1 → (∀ r, r < n0 ∨ jX ≤ r → ad r = ad0 r) → n0 ≤ jN cf.2.2.2.1 → cells + cf.2.2.2.2.1 ≤ R.cells → slots + cf.2.2.2.2.2 ≤ R.slots →
    W p l e R s m args below meth c H locs cells slots Qf (F0 m (jpc M cf.1) ls (cf.2.2.1.map (jcv ad)))
section JS1
variable {p : Program} {l : Launch} {e : Env} {R : Room} {s : State} {m : MethodId} {args : Array Value} {below : List Frame} {meth : Method} {c : Code} {E : JE} {M : JM} {ad0 : Nat → Nat} {n0 : Nat} {Qf : State → Prop}
theorem jpc_at {i : Nat} {t : JIt} (hi : M.its[i]? = some t) : jpc M i = t.pc := by unfold jpc; rw [hi]
set_option maxHeartbeats 4000000 in
theorem jsnd_num (hC : jCx p s m args meth c R E M) {i : Nat} {t : JIt} (hi : M.its[i]? = some t) {lv : JL} {st : List Value} {S : JS} {rc rs : Nat} (hs : jstr t = true)
    (hq : match t.ins with
      | .iconst _ | .bipush _ | .sipush _ | .ldc_w _ | .lconst _ | .ldc2_w _ | .aconst_null | .iadd | .isub | .imul | .iand | .ior | .ixor | .ishl | .ishr | .iushr | .idiv | .irem | .ineg | .ladd | .lsub | .lmul | .land | .lor | .lxor | .ldiv | .lrem | .lshl | .lshr | .lushr | .i2l | .l2i | .lcmp | .dup | .dup2 | .pop => True
      | _ => False)
    (hg : jgd (jx1 t lv st S).1) (h : jWC p l e R s m args below meth c E M ad0 n0 Qf (i + 1, (jx1 t lv st S).2.1, (jx1 t lv st S).2.2.1, (jx1 t lv st S).2.2.2, rc, rs)) : jWC p l e R s m args below meth c E M ad0 n0 Qf (i, lv, st, S, rc, rs) := by
  obtain ⟨hx, hb, hml, hown, hts, hE, hz, hnm, hfr, hlo, hmk⟩ := hC
  have hk := jMok_at hmk hi
  have hon := jMok_own hmk
  intro ad H locs ls cells slots hP hS hl hlo2 hso he hn hc hsl
  simp only at hP hl hlo2 hso hn hc hsl ⊢
  rw [jpc_at hi]
  obtain ⟨pc, ins, len, a, b, v, w, tl⟩ := t
  unfold jchk at hk
  rw [Bool.and_eq_true, Bool.and_eq_true, Bool.and_eq_true] at hk
  obtain ⟨⟨⟨hd, hnx⟩, hln⟩, hk⟩ := hk
  have hd := of_decide_eq_true hd
  simp only at hd hnx hln hk hq hg h hs ⊢
  cases ins with
  | iconst n =>
    have hln : len = 1 := by simpa [jln] using hln
    subst hln
    have hnx : jpc M (i + 1) = pc + 1 := by simpa [jthru] using hnx
    have h2 := h ad H locs ls cells slots hP hS hl hlo2 (jso_cons (jok_int _ _) hso) he hn hc hsl
    rw [hnx] at h2
    exact lv_iconst hx hb hd (of_decide_eq_true hk) h2
  | bipush n =>
    have hln : len = 2 := by simpa [jln] using hln
    subst hln
    have hnx : jpc M (i + 1) = pc + 2 := by simpa [jthru] using hnx
    have h2 := h ad H locs ls cells slots hP hS hl hlo2 (jso_cons (jok_int _ _) hso) he hn hc hsl
    rw [hnx] at h2
    exact lv_bipush hx hb hd (of_decide_eq_true hk) h2
  | sipush n =>
    have hln : len = 3 := by simpa [jln] using hln
    subst hln
    have hnx : jpc M (i + 1) = pc + 3 := by simpa [jthru] using hnx
    have h2 := h ad H locs ls cells slots hP hS hl hlo2 (jso_cons (jok_int _ _) hso) he hn hc hsl
    rw [hnx] at h2
    exact lv_sipush hx hb hd (of_decide_eq_true hk) h2
  | ldc_w idx =>
    have hln : len = 3 := by simpa [jln] using hln
    subst hln
    have hnx : jpc M (i + 1) = pc + 3 := by simpa [jthru] using hnx
    have h2 := h ad H locs ls cells slots hP hS hl hlo2 (jso_cons (jok_int _ _) hso) he hn hc hsl
    rw [hnx] at h2
    have hm : (M.oi, idx, v) ∈ jKL := by simpa [jck1] using hk
    have hw := hts _ (jKL_ok _ hm)
    unfold jKLw at hw
    rw [← hon] at hw
    exact lv_ldcw hx hb hown hw hd h2
  | lconst n =>
    have hln : len = 1 := by simpa [jln] using hln
    subst hln
    have hnx : jpc M (i + 1) = pc + 1 := by simpa [jthru] using hnx
    have h2 := h ad H locs ls cells slots hP hS hl hlo2 (jso_cons (jok_long _ _) hso) he hn hc hsl
    rw [hnx] at h2
    exact lv_lconst hx hb hd (of_decide_eq_true hk) h2
  | ldc2_w idx =>
    have hln : len = 3 := by simpa [jln] using hln
    subst hln
    have hnx : jpc M (i + 1) = pc + 3 := by simpa [jthru] using hnx
    have h2 := h ad H locs ls cells slots hP hS hl hlo2 (jso_cons (jok_long _ _) hso) he hn hc hsl
    rw [hnx] at h2
    have hm : (M.oi, idx, w) ∈ jLLt := by simpa [jck1] using hk
    have hw := hts _ (jLLt_ok _ hm)
    unfold jLLtw at hw
    rw [← hon] at hw
    exact lv_ldc2 hx hb hown hw hd h2
  | aconst_null =>
    have hln : len = 1 := by simpa [jln] using hln
    subst hln
    have hnx : jpc M (i + 1) = pc + 1 := by simpa [jthru] using hnx
    have h2 := h ad H locs ls cells slots hP hS hl hlo2 (jso_cons (jok_null _) hso) he hn hc hsl
    rw [hnx] at h2
    exact lv_null hx hb hd h2
  | iadd =>
    have hln : len = 1 := by simpa [jln] using hln
    subst hln
    have hnx : jpc M (i + 1) = pc + 1 := by simpa [jthru] using hnx
    obtain ⟨x, y, r, rfl⟩ := jII_inv hg
    have h2 := h ad H locs ls cells slots hP hS hl hlo2 (jso_cons (jok_int _ _) (jso_tail (jso_tail hso))) he hn hc hsl
    rw [hnx] at h2
    exact lv_iadd hx hb hd h2
  | isub =>
    have hln : len = 1 := by simpa [jln] using hln
    subst hln
    have hnx : jpc M (i + 1) = pc + 1 := by simpa [jthru] using hnx
    obtain ⟨x, y, r, rfl⟩ := jII_inv hg
    have h2 := h ad H locs ls cells slots hP hS hl hlo2 (jso_cons (jok_int _ _) (jso_tail (jso_tail hso))) he hn hc hsl
    rw [hnx] at h2
    exact lv_isub hx hb hd h2
  | imul =>
    have hln : len = 1 := by simpa [jln] using hln
    subst hln
    have hnx : jpc M (i + 1) = pc + 1 := by simpa [jthru] using hnx
    obtain ⟨x, y, r, rfl⟩ := jII_inv hg
    have h2 := h ad H locs ls cells slots hP hS hl hlo2 (jso_cons (jok_int _ _) (jso_tail (jso_tail hso))) he hn hc hsl
    rw [hnx] at h2
    exact lv_imul hx hb hd h2
  | iand =>
    have hln : len = 1 := by simpa [jln] using hln
    subst hln
    have hnx : jpc M (i + 1) = pc + 1 := by simpa [jthru] using hnx
    obtain ⟨x, y, r, rfl⟩ := jII_inv hg
    have h2 := h ad H locs ls cells slots hP hS hl hlo2 (jso_cons (jok_int _ _) (jso_tail (jso_tail hso))) he hn hc hsl
    rw [hnx] at h2
    exact lv_iand hx hb hd h2
  | ior =>
    have hln : len = 1 := by simpa [jln] using hln
    subst hln
    have hnx : jpc M (i + 1) = pc + 1 := by simpa [jthru] using hnx
    obtain ⟨x, y, r, rfl⟩ := jII_inv hg
    have h2 := h ad H locs ls cells slots hP hS hl hlo2 (jso_cons (jok_int _ _) (jso_tail (jso_tail hso))) he hn hc hsl
    rw [hnx] at h2
    exact lv_ior hx hb hd h2
  | ixor =>
    have hln : len = 1 := by simpa [jln] using hln
    subst hln
    have hnx : jpc M (i + 1) = pc + 1 := by simpa [jthru] using hnx
    obtain ⟨x, y, r, rfl⟩ := jII_inv hg
    have h2 := h ad H locs ls cells slots hP hS hl hlo2 (jso_cons (jok_int _ _) (jso_tail (jso_tail hso))) he hn hc hsl
    rw [hnx] at h2
    exact lv_ixor hx hb hd h2
  | ishl =>
    have hln : len = 1 := by simpa [jln] using hln
    subst hln
    have hnx : jpc M (i + 1) = pc + 1 := by simpa [jthru] using hnx
    obtain ⟨x, y, r, rfl⟩ := jII_inv hg
    have h2 := h ad H locs ls cells slots hP hS hl hlo2 (jso_cons (jok_int _ _) (jso_tail (jso_tail hso))) he hn hc hsl
    rw [hnx] at h2
    exact lv_ishl hx hb hd h2
  | ishr =>
    have hln : len = 1 := by simpa [jln] using hln
    subst hln
    have hnx : jpc M (i + 1) = pc + 1 := by simpa [jthru] using hnx
    obtain ⟨x, y, r, rfl⟩ := jII_inv hg
    have h2 := h ad H locs ls cells slots hP hS hl hlo2 (jso_cons (jok_int _ _) (jso_tail (jso_tail hso))) he hn hc hsl
    rw [hnx] at h2
    exact lv_ishr hx hb hd h2
  | iushr =>
    have hln : len = 1 := by simpa [jln] using hln
    subst hln
    have hnx : jpc M (i + 1) = pc + 1 := by simpa [jthru] using hnx
    obtain ⟨x, y, r, rfl⟩ := jII_inv hg
    have h2 := h ad H locs ls cells slots hP hS hl hlo2 (jso_cons (jok_int _ _) (jso_tail (jso_tail hso))) he hn hc hsl
    rw [hnx] at h2
    exact lv_iushr hx hb hd rfl h2
  | idiv =>
    have hln : len = 1 := by simpa [jln] using hln
    subst hln
    have hnx : jpc M (i + 1) = pc + 1 := by simpa [jthru] using hnx
    obtain ⟨x, y, r, rfl, hne⟩ := jIId_inv hg
    have h2 := h ad H locs ls cells slots hP hS hl hlo2 (jso_cons (jok_int _ _) (jso_tail (jso_tail hso))) he hn hc hsl
    rw [hnx] at h2
    exact lv_idiv hx hb hd (by exact hne) h2
  | irem =>
    have hln : len = 1 := by simpa [jln] using hln
    subst hln
    have hnx : jpc M (i + 1) = pc + 1 := by simpa [jthru] using hnx
    obtain ⟨x, y, r, rfl, hne⟩ := jIId_inv hg
    have h2 := h ad H locs ls cells slots hP hS hl hlo2 (jso_cons (jok_int _ _) (jso_tail (jso_tail hso))) he hn hc hsl
    rw [hnx] at h2
    exact lv_irem hx hb hd (by exact hne) h2
  | ladd =>
    have hln : len = 1 := by simpa [jln] using hln
    subst hln
    have hnx : jpc M (i + 1) = pc + 1 := by simpa [jthru] using hnx
    obtain ⟨x, y, r, rfl⟩ := jLL_inv hg
    have h2 := h ad H locs ls cells slots hP hS hl hlo2 (jso_cons (jok_long _ _) (jso_tail (jso_tail hso))) he hn hc hsl
    rw [hnx] at h2
    exact lv_ladd hx hb hd h2
  | lsub =>
    have hln : len = 1 := by simpa [jln] using hln
    subst hln
    have hnx : jpc M (i + 1) = pc + 1 := by simpa [jthru] using hnx
    obtain ⟨x, y, r, rfl⟩ := jLL_inv hg
    have h2 := h ad H locs ls cells slots hP hS hl hlo2 (jso_cons (jok_long _ _) (jso_tail (jso_tail hso))) he hn hc hsl
    rw [hnx] at h2
    exact lv_lsub hx hb hd h2
  | lmul =>
    have hln : len = 1 := by simpa [jln] using hln
    subst hln
    have hnx : jpc M (i + 1) = pc + 1 := by simpa [jthru] using hnx
    obtain ⟨x, y, r, rfl⟩ := jLL_inv hg
    have h2 := h ad H locs ls cells slots hP hS hl hlo2 (jso_cons (jok_long _ _) (jso_tail (jso_tail hso))) he hn hc hsl
    rw [hnx] at h2
    exact lv_lmul hx hb hd h2
  | land =>
    have hln : len = 1 := by simpa [jln] using hln
    subst hln
    have hnx : jpc M (i + 1) = pc + 1 := by simpa [jthru] using hnx
    obtain ⟨x, y, r, rfl⟩ := jLL_inv hg
    have h2 := h ad H locs ls cells slots hP hS hl hlo2 (jso_cons (jok_long _ _) (jso_tail (jso_tail hso))) he hn hc hsl
    rw [hnx] at h2
    exact lv_land hx hb hd h2
  | lor =>
    have hln : len = 1 := by simpa [jln] using hln
    subst hln
    have hnx : jpc M (i + 1) = pc + 1 := by simpa [jthru] using hnx
    obtain ⟨x, y, r, rfl⟩ := jLL_inv hg
    have h2 := h ad H locs ls cells slots hP hS hl hlo2 (jso_cons (jok_long _ _) (jso_tail (jso_tail hso))) he hn hc hsl
    rw [hnx] at h2
    exact lv_lor hx hb hd h2
  | lxor =>
    have hln : len = 1 := by simpa [jln] using hln
    subst hln
    have hnx : jpc M (i + 1) = pc + 1 := by simpa [jthru] using hnx
    obtain ⟨x, y, r, rfl⟩ := jLL_inv hg
    have h2 := h ad H locs ls cells slots hP hS hl hlo2 (jso_cons (jok_long _ _) (jso_tail (jso_tail hso))) he hn hc hsl
    rw [hnx] at h2
    exact lv_lxor hx hb hd h2
  | ldiv =>
    have hln : len = 1 := by simpa [jln] using hln
    subst hln
    have hnx : jpc M (i + 1) = pc + 1 := by simpa [jthru] using hnx
    obtain ⟨x, y, r, rfl, hne⟩ := jLLd_inv hg
    have h2 := h ad H locs ls cells slots hP hS hl hlo2 (jso_cons (jok_long _ _) (jso_tail (jso_tail hso))) he hn hc hsl
    rw [hnx] at h2
    exact lv_ldiv hx hb hd (by exact hne) h2
  | lrem =>
    have hln : len = 1 := by simpa [jln] using hln
    subst hln
    have hnx : jpc M (i + 1) = pc + 1 := by simpa [jthru] using hnx
    obtain ⟨x, y, r, rfl, hne⟩ := jLLd_inv hg
    have h2 := h ad H locs ls cells slots hP hS hl hlo2 (jso_cons (jok_long _ _) (jso_tail (jso_tail hso))) he hn hc hsl
    rw [hnx] at h2
    exact lv_lrem hx hb hd (by exact hne) h2
  | lshl =>
    have hln : len = 1 := by simpa [jln] using hln
    subst hln
    have hnx : jpc M (i + 1) = pc + 1 := by simpa [jthru] using hnx
    obtain ⟨x, y, r, rfl⟩ := jLI_inv hg
    have h2 := h ad H locs ls cells slots hP hS hl hlo2 (jso_cons (jok_long _ _) (jso_tail (jso_tail hso))) he hn hc hsl
    rw [hnx] at h2
    exact lv_lshl hx hb hd rfl h2
  | lshr =>
    have hln : len = 1 := by simpa [jln] using hln
    subst hln
    have hnx : jpc M (i + 1) = pc + 1 := by simpa [jthru] using hnx
    obtain ⟨x, y, r, rfl⟩ := jLI_inv hg
    have h2 := h ad H locs ls cells slots hP hS hl hlo2 (jso_cons (jok_long _ _) (jso_tail (jso_tail hso))) he hn hc hsl
    rw [hnx] at h2
    exact lv_lshr hx hb hd rfl h2
  | lushr =>
    have hln : len = 1 := by simpa [jln] using hln
    subst hln
    have hnx : jpc M (i + 1) = pc + 1 := by simpa [jthru] using hnx
    obtain ⟨x, y, r, rfl⟩ := jLI_inv hg
    have h2 := h ad H locs ls cells slots hP hS hl hlo2 (jso_cons (jok_long _ _) (jso_tail (jso_tail hso))) he hn hc hsl
    rw [hnx] at h2
    exact lv_lushr hx hb hd rfl h2
  | ineg =>
    have hln : len = 1 := by simpa [jln] using hln
    subst hln
    have hnx : jpc M (i + 1) = pc + 1 := by simpa [jthru] using hnx
    have hg' : jgd (jneg lv st S).1 := hg
    obtain ⟨x, r, rfl⟩ : ∃ x r, st = .int x :: r := by
      unfold jneg at hg'; split at hg'
      · exact ⟨_, _, rfl⟩
      · exact jgd_bad hg'
    have h2 := h ad H locs ls cells slots hP hS hl hlo2 (jso_cons (jok_int _ _) (jso_tail hso)) he hn hc hsl
    rw [hnx] at h2
    exact lv_ineg hx hb hd h2
  | i2l =>
    have hln : len = 1 := by simpa [jln] using hln
    subst hln
    have hnx : jpc M (i + 1) = pc + 1 := by simpa [jthru] using hnx
    have hg' : jgd (jconv lv st S true).1 := hg
    obtain ⟨x, r, rfl⟩ : ∃ x r, st = .int x :: r := by
      unfold jconv at hg'; split at hg'
      · exact ⟨_, _, rfl⟩
      · rename_i e; cases e
      · exact jgd_bad hg'
    have h2 := h ad H locs ls cells slots hP hS hl hlo2 (jso_cons (jok_long _ _) (jso_tail hso)) he hn hc hsl
    rw [hnx] at h2
    exact lv_i2l hx hb hd rfl h2
  | l2i =>
    have hln : len = 1 := by simpa [jln] using hln
    subst hln
    have hnx : jpc M (i + 1) = pc + 1 := by simpa [jthru] using hnx
    have hg' : jgd (jconv lv st S false).1 := hg
    obtain ⟨x, r, rfl⟩ : ∃ x r, st = .long x :: r := by
      unfold jconv at hg'; split at hg'
      · rename_i e; cases e
      · exact ⟨_, _, rfl⟩
      · exact jgd_bad hg'
    have h2 := h ad H locs ls cells slots hP hS hl hlo2 (jso_cons (jok_int _ _) (jso_tail hso)) he hn hc hsl
    rw [hnx] at h2
    exact lv_l2i hx hb hd rfl h2
  | lcmp =>
    have hln : len = 1 := by simpa [jln] using hln
    subst hln
    have hnx : jpc M (i + 1) = pc + 1 := by simpa [jthru] using hnx
    have hg' : jgd (jcmpL lv st S).1 := hg
    obtain ⟨x, y, r, rfl⟩ : ∃ x y r, st = .long y :: .long x :: r := by
      unfold jcmpL at hg'; split at hg'
      · exact ⟨_, _, _, rfl⟩
      · exact jgd_bad hg'
    have h2 := h ad H locs ls cells slots hP hS hl hlo2 (jso_cons (jok_int _ _) (jso_tail (jso_tail hso))) he hn hc hsl
    rw [hnx] at h2
    exact W.lcmp hx hb hd h2
  | dup =>
    have hln : len = 1 := by simpa [jln] using hln
    subst hln
    have hnx : jpc M (i + 1) = pc + 1 := by simpa [jthru] using hnx
    have hg' : jgd (jdup lv st S).1 := hg
    obtain ⟨x, r, rfl, hcat⟩ : ∃ x r, st = x :: r ∧ x.category = 1 := by
      unfold jdup at hg'; split at hg'
      · exact ⟨_, _, rfl, hg' _ List.mem_cons_self⟩
      · exact jgd_bad hg'
    have h2 := h ad H locs ls cells slots hP hS hl hlo2 (jso_cons (jso_head hso) hso) he hn hc hsl
    rw [hnx] at h2
    exact lv_dup hx hb hd (by rw [jcv_cat]; exact hcat) h2
  | pop =>
    have hln : len = 1 := by simpa [jln] using hln
    subst hln
    have hnx : jpc M (i + 1) = pc + 1 := by simpa [jthru] using hnx
    have hg' : jgd (jpop lv st S).1 := hg
    obtain ⟨x, r, rfl, hcat⟩ : ∃ x r, st = x :: r ∧ x.category = 1 := by
      unfold jpop at hg'; split at hg'
      · exact ⟨_, _, rfl, hg' _ List.mem_cons_self⟩
      · exact jgd_bad hg'
    have h2 := h ad H locs ls cells slots hP hS hl hlo2 (jso_tail hso) he hn hc hsl
    rw [hnx] at h2
    exact lv_pop hx hb hd (by rw [jcv_cat]; exact hcat) h2
  | dup2 =>
    have hln : len = 1 := by simpa [jln] using hln
    subst hln
    have hnx : jpc M (i + 1) = pc + 1 := by simpa [jthru] using hnx
    have hg' : jgd (jdup2 lv st S).1 := hg
    have hsh : (∃ x y r, st = .int y :: .int x :: r) ∨ (∃ x y r, st = .int y :: .ref x :: r) := by
      unfold jdup2 at hg'; split at hg'
      · exact Or.inl ⟨_, _, _, rfl⟩
      · exact Or.inr ⟨_, _, _, rfl⟩
      · exact jgd_bad hg'
    rcases hsh with ⟨x, y, r, rfl⟩ | ⟨x, y, r, rfl⟩
    · have h2 := h ad H locs ls cells slots hP hS hl hlo2 (jso_cons (jso_head hso) (jso_cons (jso_head (jso_tail hso)) hso)) he hn hc hsl
      rw [hnx] at h2
      exact lv_dup2_11 hx hb hd rfl rfl h2
    · have h2 := h ad H locs ls cells slots hP hS hl hlo2 (jso_cons (jso_head hso) (jso_cons (jso_head (jso_tail hso)) hso)) he hn hc hsl
      rw [hnx] at h2
      exact lv_dup2_11 hx hb hd rfl rfl h2
  | _ => exact absurd hq (by simp)
end JS1
