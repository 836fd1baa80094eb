/-! WHAT STANDS AROUND the abstract heap: classes, nest mates, the table, the String constants -/
def jST (i : Nat) : String := ["danger", "will", "bars", "if", "or", "and", "not", "rock", "to", "night", "storm", "mood", "far"].getD i ""
def jSlen : List Nat := jSL.map List.length
def jSbyt : List (List Int32) := jSL.map fun l => l.map fun c => Int32.ofNat c
def jEnv (E : JE) (U : State) (H : Heap) : Prop :=
  va_K E.D vwCl (jtys E.cy) U ∧ (∀ e ∈ jNE, va_Nw (jNEw e) U) ∧ va_AO "RedGlass$Law" U ∧ va_AO "RedGlass$World" U ∧ va_Z RX6 "WITHOUT" "[J" (.ref E.tW) E.A U H ∧ va_T .long E.tW 6 (fun i => .long (jTW i)) E.A U H ∧
  (∀ e ∈ jSL5, vk_R (jON e.1) e.2.1 (jST e.2.2) (E.aK e.2.2) U) ∧ vk_S 13 jSlen jSbyt E.aK E.aV E.A U H ∧ va_Z "java/lang/String" "COMPACT_STRINGS" "Z" (.int 1) E.A U H ∧ va_Zq "jdk/internal/util/Preconditions" "SIOOBE_FORMATTER" "Ljava/util/function/BiFunction;" E.A U H ∧ va_Nw (.castable "[I" "java/lang/Cloneable") U
theorem jEnv.kept {E : JE} {U : State} {H H1 : Heap} (h : jEnv E U H) (hq : ∀ a : Nat, a < H.size → ¬ E.A a → H1[a]? = H[a]?) : jEnv E U H1 := by
  obtain ⟨h1, h2, h3, h4, h5, h6, h7, h8, h9, h10, h11⟩ := h
  exact ⟨h1, h2, h3, h4, h5.kept hq, h6.kept hq, h7, h8.kept hq, h9.kept hq, h10.kept hq, h11⟩
theorem jEnv.same {E : JE} {u U : State} {H : Heap} (hvm : u.vm = U.vm) (h : jEnv E u H) : jEnv E U H := by
  obtain ⟨h1, h2, h3, h4, h5, h6, h7, h8, h9, h10, h11⟩ := h
  have ha : u.vm.Alike U.vm := by rw [hvm]; exact Vm.Alike.refl U.vm
  exact ⟨h1.moved ha, fun e he => va_Nw.same rfl hvm (h2 e he), h3.moved ha, h4.moved ha, va_Z.moved ha h5, va_T.moved ha h6, fun e he => vk_R.same hvm.symm (h7 e he), vk_S.moved ha h8, va_Z.moved ha h9, va_Zq.moved ha h10, va_Nw.same rfl hvm h11⟩
theorem jEnv.warm {E : JE} {s U : State} {H : Heap} (hW : s.WarmedH U.vm) (h : jEnv E s H) : jEnv E U H := by
  obtain ⟨h1, h2, h3, h4, h5, h6, h7, h8, h9, h10, h11⟩ := h
  have ha := hW.alike
  exact ⟨h1.moved ha, fun e he => va_Nw.warmM hW (h2 e he), h3.moved ha, h4.moved ha, va_Z.moved ha h5, va_T.moved ha h6, fun e he => vk_R.warm hW (h7 e he), vk_S.moved ha h8, va_Z.moved ha h9, va_Zq.moved ha h10, va_Nw.warmC hW h11⟩
theorem jcls : ∀ c, c < 13 → vwCl[c]? = some (jRX c, jT c, fnum c) ∧ (∀ w ∈ u_ws (jRX c) (jT c) (fnum c), w ∈ jBIG) ∧ (∀ k, k < fnum c → parseFieldDescriptor (jT c k).2.2.1 = some (jTy c k)) ∧ (∀ a, a < fnum c → ∀ b, b < fnum c → a ≠ b → (jT c a).2.1 ≠ (jT c b).2.1) := by
  have key : ∀ {C : String} {T : u_T} {N : Nat}, (∀ e ∈ List.range N, u_lay C T e ∈ jBIG) → ∀ w ∈ u_ws C T N, w ∈ jBIG := by
    intro C T N h w hw
    obtain ⟨e, he, rfl⟩ := List.mem_map.mp hw
    exact h e he
  intro c hc
  match c, hc with
  | 0, _ => exact ⟨rfl, key jLY0, tyX0_ok, nmX0⟩
  | 1, _ => exact ⟨rfl, key jLY1, tyX1_ok, nmX1⟩
  | 2, _ => exact ⟨rfl, key jLY2, tyX2_ok, nmX2⟩
  | 3, _ => exact ⟨rfl, key jLY3, tyX3_ok, nmX3⟩
  | 4, _ => exact ⟨rfl, key jLY4, tyX4_ok, nmX4⟩
  | 5, _ => exact ⟨rfl, key jLY5, tyX5_ok, nmX5⟩
  | 6, _ => exact ⟨rfl, key jLY6, tyX6_ok, nmX6⟩
  | 7, _ => exact ⟨rfl, key jLY7, tyX7_ok, nmX7⟩
  | 8, _ => exact ⟨rfl, key jLY8, tyX8_ok, nmX8⟩
  | 9, _ => exact ⟨rfl, key jLY9, tyX9_ok, nmX9⟩
  | 10, _ => exact ⟨rfl, key jLY10, tyX10_ok, nmX10⟩
  | 11, _ => exact ⟨rfl, key jLY11, tyX11_ok, nmX11⟩
  | 12, _ => exact ⟨rfl, key jLY12, tyX12_ok, nmX12⟩
  | c + 13, h => exact absurd h (by omega)
/-- the place of an item in the bytes -/
def jpc (M : JM) (i : Nat) : Nat := match M.its[i]? with
  | some t => t.pc
  | none => 0
def jmem4 (l : List (Nat × Nat × Nat × Nat)) (a b c d : Nat) : Bool := l.any fun q => q.1 == a && q.2.1 == b && q.2.2.1 == c && q.2.2.2 == d
def jmem3 (l : List (Nat × Nat × Nat)) (a b c : Nat) : Bool := l.any fun q => q.1 == a && q.2.1 == b && q.2.2 == c
def jmem2 (l : List (Nat × Nat)) (a b : Nat) : Bool := l.any fun q => q.1 == a && q.2 == b
theorem jmem4_of {l : List (Nat × Nat × Nat × Nat)} {a b c d : Nat} (h : jmem4 l a b c d = true) : (a, b, c, d) ∈ l := by
  obtain ⟨q, hq, h1⟩ := List.any_eq_true.mp h
  obtain ⟨x, y, z, w⟩ := q
  simp only [Bool.and_eq_true, beq_iff_eq] at h1
  obtain ⟨⟨⟨rfl, rfl⟩, rfl⟩, rfl⟩ := h1
  exact hq
theorem jmem3_of {l : List (Nat × Nat × Nat)} {a b c : Nat} (h : jmem3 l a b c = true) : (a, b, c) ∈ l := by
  obtain ⟨q, hq, h1⟩ := List.any_eq_true.mp h
  obtain ⟨x, y, z⟩ := q
  simp only [Bool.and_eq_true, beq_iff_eq] at h1
  obtain ⟨⟨rfl, rfl⟩, rfl⟩ := h1
  exact hq
theorem jmem2_of {l : List (Nat × Nat)} {a b : Nat} (h : jmem2 l a b = true) : (a, b) ∈ l := by
  obtain ⟨q, hq, h1⟩ := List.any_eq_true.mp h
  obtain ⟨x, y⟩ := q
  simp only [Bool.and_eq_true, beq_iff_eq] at h1
  obtain ⟨rfl, rfl⟩ := h1
  exact hq
/-- does the item go on to the next one? -/
def jthru (ins : Instr) : Bool := match ins with
  | .goto _ | .ireturn | .lreturn | .areturn | .return_ | .tableswitch _ _ _ _ | .lookupswitch _ _ => false
  | _ => true
def jln (ins : Instr) : Nat := match ins with
  | .bipush _ | .ldc _ | .iload _ | .lload _ | .aload _ | .istore _ | .lstore _ | .astore _ | .newarray _ => 2
  | .sipush _ | .ldc_w _ | .ldc2_w _ | .iinc _ _ | .getfield _ | .putfield _ | .getstatic _ | .invokestatic _ | .invokespecial _ | .invokevirtual _ | .ifCond _ _ | .if_icmp _ _ | .goto _ | .ifnull _ | .ifnonnull _ | .new _ | .anewarray _ | .checkcast _ => 3
  | _ => 1
def jnargs (y : MethodName) : Option Nat := (parseMethodDescriptor y.desc).map fun d => d.parameters.length
def jckc (M : JM) (idx k b m : Nat) (sta : Bool) : Bool := (jmem4 jML M.oi idx k m || jmem4 jNE M.oi idx k (m + 1)) && decide ((jmt k).y.cls ≠ "java/lang/invoke/MethodHandle") && decide ((jmt k).y.cls ≠ "java/lang/invoke/VarHandle") && decide (jnargs (jmt k).y = some (if sta then b else b - 1)) && decide ((jmt k).nL ≤ 40) && (sta || (decide (1 ≤ b) && decide ((jmt k).rk < 13) && decide ((jmt k).y.cls = jRX (jmt k).rk)))
/-- what a program looks at, of an item -/
def jck1 (M : JM) (t : JIt) : Bool := match t.ins with
  | .iconst n => decide (Int32.ofInt n = t.v)
  | .bipush n => decide ((Int8.ofInt n).toInt32 = t.v)
  | .sipush n => decide ((Int16.ofInt n).toInt32 = t.v)
  | .ldc idx => if t.b = 1 then jmem3 jSL5 M.oi idx t.a && decide (t.a < 13) else jKL.contains (M.oi, idx, t.v)
  | .ldc_w idx => jKL.contains (M.oi, idx, t.v)
  | .lconst n => decide (Int64.ofNat n.val = t.w)
  | .ldc2_w idx => jLLt.contains (M.oi, idx, t.w)
  | .iload_n k => k.val == t.a
  | .lload_n k => k.val == t.a
  | .aload_n k => k.val == t.a
  | .iload k => k == t.a
  | .lload k => k == t.a
  | .aload k => k == t.a
  | .istore_n k => k.val == t.a && decide (t.a < M.nL)
  | .astore_n k => k.val == t.a && decide (t.a < M.nL)
  | .lstore_n k => k.val == t.a && decide (t.a + 1 < M.nL)
  | .istore k => k == t.a && decide (t.a < M.nL)
  | .astore k => k == t.a && decide (t.a < M.nL)
  | .lstore k => k == t.a && decide (t.a + 1 < M.nL)
  | .iinc k n => k == t.a && decide (t.a < M.nL) && decide (Int32.ofInt n = t.v)
  | .getfield idx => jmem4 jFL M.oi idx t.a t.b && decide (t.a < 13) && decide (t.b < fnum t.a)
  | .putfield idx => jmem4 jFL M.oi idx t.a t.b && decide (t.a < 13) && decide (t.b < fnum t.a) && (decide ((jT t.a t.b).2.2.2 = false) || (decide ((jT t.a t.b).2.2.2 = true) && decide (M.y.name = "<init>") && decide ((jT t.a t.b).1 = M.own)))
  | .aastore => (t.a == 16 && t.b == 3) || (t.a == 17 && t.b == 9)
  | .aaload => t.a == 16 || t.a == 17
  | .arraylength => t.a == 13 || t.a == 14 || t.a == 7
  | .invokestatic idx => if t.a = 9000 then jmem2 jAL M.oi idx else if 9000 ≤ t.a then jmem3 jMT M.oi idx t.a && jMS.contains t.a else jckc M idx t.a t.b 2 true && jSTA.contains t.a && jCO.contains t.a && jINI.contains t.a
  | .invokespecial idx => if t.a = 9001 then jmem2 jOL M.oi idx else jckc M idx t.a t.b 4 false && jIM.contains t.a && jCO.contains t.a && jINI.contains t.a && decide ((jmt t.a).y.name = "<init>") && decide ((jmt t.a).ret = none)
  | .invokevirtual idx => (t.a == 9002 && M.oi == 5 && idx == 166) || (t.a == 9003 && M.oi == 5 && idx == 172) || (t.a == 9004 && M.oi == 17 && idx == 316) || (jckc M idx t.a t.b 0 false && jIM.contains t.a && jSE.contains t.a && jCO.contains t.a && jINI.contains t.a)
  | .new idx => jmem3 jNL M.oi idx t.a && decide (t.a < 13)
  | .newarray ty => decide (13 ≤ t.a) && decide (t.a < 16) && decide (newarray.typeOf ty = jat t.a)
  | .anewarray idx => jmem3 jQL M.oi idx t.a && (t.a == 16 || t.a == 17)
  | .ifCond _ off => decide ((t.pc : Int) + off = (jpc M t.a : Int))
  | .if_icmp _ off => decide ((t.pc : Int) + off = (jpc M t.a : Int))
  | .goto off => decide ((t.pc : Int) + off = (jpc M t.a : Int))
  | .ifnull off => decide ((t.pc : Int) + off = (jpc M t.a : Int))
  | .ifnonnull off => decide ((t.pc : Int) + off = (jpc M t.a : Int))
  | .tableswitch d lo hi offs => decide ((t.pc : Int) + d = (jpc M t.a : Int)) && decide (lo ≤ hi) && decide (-1000 ≤ lo) && decide (hi ≤ 1000) && decide (t.tl.length = (hi - lo + 1).toNat) && decide (offs.size = t.tl.length) && (List.range t.tl.length).all fun j => match t.tl[j]?, offs[j]? with
      | some q, some o => decide (q.1 = Int32.ofInt (lo + j)) && decide ((t.pc : Int) + o = (jpc M q.2 : Int))
      | _, _ => false
  | .lookupswitch d ps => decide ((t.pc : Int) + d = (jpc M t.a : Int)) && (ps.toList.zip (ps.toList.drop 1)).all (fun (a, next) => a.1 < next.1) && decide (t.tl.length = ps.size) && (List.range t.tl.length).all fun j => match t.tl[j]?, ps[j]? with
      | some q, some o => decide (q.1.toInt = o.1) && decide ((t.pc : Int) + o.2 = (jpc M q.2 : Int))
      | _, _ => false
  | .getstatic idx => M.oi == 6 && idx == 58
  | .ireturn => decide (M.ret = some .int) || decide (M.ret = some .boolean)
  | .lreturn => decide (M.ret = some .long)
  | .areturn => (match M.ret with
      | some (.object _) => true
      | some (.array _) => true
      | _ => false)
  | .return_ => decide (M.ret = none)
  | .checkcast idx => M.oi == 17 && idx == 317
  | _ => true
def jchk (M : JM) (i : Nat) (t : JIt) : Bool := decide (decode M.cc t.pc = .ok (t.ins, t.len)) && (!(jthru t.ins) || jpc M (i + 1) == t.pc + t.len) && (match t.ins with
  | .tableswitch _ _ _ _ | .lookupswitch _ _ => true
  | _ => t.len == jln t.ins) && jck1 M t
def jMok (M : JM) : Bool := (decide (M.own = jON M.oi) && decide (M.own = M.y.cls) && plainName M.y.cls && (jpc M 0 == 0)) && (List.range M.its.length).all fun i => match M.its[i]? with
  | some t => jchk M i t
  | none => false
theorem jMok_at {M : JM} (h : jMok M = true) {i : Nat} {t : JIt} (hi : M.its[i]? = some t) : jchk M i t = true := by
  unfold jMok at h
  rw [Bool.and_eq_true] at h
  have h2 := List.all_eq_true.mp h.2 i (List.mem_range.mpr (List.getElem?_eq_some_iff.mp hi).1)
  simp only [hi] at h2
  exact h2
theorem jMok_own {M : JM} (h : jMok M = true) : M.own = jON M.oi := by
  unfold jMok at h
  simp only [Bool.and_eq_true] at h
  exact of_decide_eq_true h.1.1.1.1
theorem jMok_cls {M : JM} (h : jMok M = true) : M.own = M.y.cls ∧ plainName M.y.cls = true ∧ jpc M 0 = 0 := by
  unfold jMok at h
  simp only [Bool.and_eq_true] at h
  exact ⟨of_decide_eq_true h.1.1.1.2, h.1.1.2, by simpa using h.1.2⟩
