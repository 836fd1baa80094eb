/-! WHAT A LAW TELLS, of the model's row alone -/
theorem nIa_1 (n : Nat) : nI n + 1 = nI (n + 1) := nI_add n 1
theorem nIa_2 (n : Nat) : nI n + 2 = nI (n + 2) := nI_add n 2
theorem nIa_3 (n : Nat) : nI n + 3 = nI (n + 3) := nI_add n 3
theorem nIa_4 (n : Nat) : nI n + 4 = nI (n + 4) := nI_add n 4
theorem nIa_5 (n : Nat) : nI n + 5 = nI (n + 5) := nI_add n 5
theorem nIa_6 (n : Nat) : nI n + 6 = nI (n + 6) := nI_add n 6
theorem nIa_8 (n : Nat) : nI n + 8 = nI (n + 8) := nI_add n 8
theorem nIa_9 (n : Nat) : nI n + 9 = nI (n + 9) := nI_add n 9
theorem nIa_20 (n : Nat) : nI n + 20 = nI (n + 20) := nI_add n 20
theorem nIa_45 (n : Nat) : nI n + 45 = nI (n + 45) := nI_add n 45
theorem nIa_59 (n : Nat) : nI n + 59 = nI (n + 59) := nI_add n 59
theorem nIa_60 (n : Nat) : nI n + 60 = nI (n + 60) := nI_add n 60
theorem nIa_98 (n : Nat) : nI n + 98 = nI (n + 98) := nI_add n 98
theorem nIb_8 (n : Nat) : 8 + nI n = nI (8 + n) := nI_add 8 n
theorem nIm_8 (n : Nat) : 8 * nI n = nI (8 * n) := nI_mul 8 n
theorem nIm_900 (n : Nat) : 900 * nI n = nI (900 * n) := nI_mul 900 n
theorem nIb_200 (n : Nat) : 200 + nI n = nI (200 + n) := nI_add 200 n
def gOp (row : Nat → Int32) (base : Nat) : Nat → Int32 := fun k => row (base + 98 + 2 * k)
def gArg (row : Nat → Int32) (base : Nat) : Nat → Int32 := fun k => row (base + 98 + 2 * k + 1)
def gEv (row : Nat → Int32) (base a b : Nat) (env : Nat → Int64) : Option Int64 := mEv (gOp row base) (gArg row base) env b (b - a) a []
def gFar (R a b : Int32) : Int32 := if (if a < b then b - a else a - b) < R - (if a < b then b - a else a - b) then (if a < b then b - a else a - b) else R - (if a < b then b - a else a - b)
def gEnv (row : Nat → Int32) (rock night to : Int32) (k : Nat) : Int64 := if k = 1 then rock.toInt64 else if k = 2 then to.toInt64 else if k = 3 then night.toInt64 else if k = 4 then (row (8 + night.toNatClampNeg)).toInt64 else if k = 5 then (row 1).toInt64 else if k = 6 then (if to = -1 then (-1) else gFar (row 0) rock to).toInt64 else 0
def gSum (row : Nat → Int32) (base c : Nat) (env : Nat → Int64) : Option Int64 := if row (base + 2 + 8 * c) = 2 then some 1 else gEv row base (row (base + 2 + 8 * c + 3)).toNatClampNeg (row (base + 2 + 8 * c + 4)).toNatClampNeg env
def gSo (row : Nat → Int32) (base c : Nat) (env : Nat → Int64) : Option Int64 := if row (base + 2 + 8 * c + 5) < row (base + 2 + 8 * c + 6) then (gEv row base (row (base + 2 + 8 * c + 5)).toNatClampNeg (row (base + 2 + 8 * c + 6)).toNatClampNeg env).bind (fun v => if v = 0 then none else gSum row base c env) else gSum row base c env
def gT (row : Nat → Int32) (base : Nat) (head : Int32) (env : Nat → Int64) : Nat → Int64
  | 0 => if head = 2 then 0 else 1
  | n + 1 => if row (base + 2 + 8 * n) = head then (gSo row base n env).getD (gT row base head env n) else gT row base head env n
def gCut (v : Int64) : Int32 := if v < 0 then 0 else if 99 < v then 99 else v.toInt32
def gBase (row : Nat → Int32) : Nat := 200 + 900 * (row 4).toNatClampNeg
def gTell (row : Nat → Int32) (head rock night to : Int32) : Int32 := gCut (if row 4 = -1 then (if head = 2 then 0 else 1) else gT row (gBase row) head (gEnv row rock night to) (row (gBase row + 1)).toNatClampNeg)
/-- a clause of the model's text is sound -/
def TC (row : Nat → Int32) (base c : Nat) : Prop := (row (base + 2 + 8 * c) = 0 ∨ row (base + 2 + 8 * c) = 1 ∨ row (base + 2 + 8 * c) = 2) ∧ ∃ a b e : Nat, a ≤ b ∧ b ≤ e ∧ e ≤ 400 ∧ row (base + 2 + 8 * c + 3) = nI a ∧ row (base + 2 + 8 * c + 4) = nI b ∧ row (base + 2 + 8 * c + 5) = nI b ∧ row (base + 2 + 8 * c + 6) = nI e ∧ (¬ row (base + 2 + 8 * c) = 2 → ∃ f, mD (gOp row base) (gArg row base) a b f) ∧ (b < e → ∃ g, mD (gOp row base) (gArg row base) b e g)
def TOk (row : Nat → Int32) (base : Nat) : Prop := ∃ n : Nat, n ≤ 12 ∧ row (base + 1) = nI n ∧ ∀ c, c < n → TC row base c
theorem gEv_of {row : Nat → Int32} {base a b : Nat} {f : JF} {env : Nat → Int64} (h : mD (gOp row base) (gArg row base) a b f) (hb : b ≤ 400) : gEv row base (nI a).toNatClampNeg (nI b).toNatClampNeg env = f env := by
  have := h.1
  rw [nI_tn (by omega), nI_tn (by omega)]; exact mD_ev h (by omega)
theorem sX12_isSo {S : JS} {Q : Int32 → JS → Prop} {base c : Nat} {env : Nat → Int64} (hs : jSh S) (hl : jI S 45 27 = nI base) (hbase : base ≤ 4700) (hc : c < 12) (ht : TC (jI S 47) base c) (he : ∀ k, 0 < k → k < 7 → jJ S 58 k = env k) (h : ∀ r S', jFr [45, 59] S S' → jFk 45 [30, 31, 32] S S' → (gSo (jI S 47) base c env = none → r = 0) → (∀ v, gSo (jI S 47) base c env = some v → r = 1 ∧ (¬ jI S 47 (base + 2 + 8 * c) = 2 → jJ S' 45 32 = v)) → Q r S') : wX12_isSo 45 (nI (base + 2 + 8 * c)) S Q := by
  obtain ⟨hk, a, b, e, h1, h2, h3, e3, e4, e5, e6, hf, hg⟩ := ht
  have sums : ∀ S1, jFr [45, 59] S S1 → jFk 45 [30, 31, 32] S S1 → (∀ r S', jFr [45, 59] S S' → jFk 45 [30, 31, 32] S S' → (gSum (jI S 47) base c env = none → r = 0) → (∀ v, gSum (jI S 47) base c env = some v → r = 1 ∧ (¬ jI S 47 (base + 2 + 8 * c) = 2 → jJ S' 45 32 = v)) → Q r S') → wX12_isSo_37 45 (nI (base + 2 + 8 * c)) S1 Q := by
    intro S1 f1 k1 h
    have hs1 : jSh S1 := f1.sh.mpr hs
    unfold wX12_isSo_37
    simp only [shA_45, shA_47, shZ_47, shR_45_2, shr_45_2, shR_45_3, shr_45_3, shR_45_4, shr_45_4, shR_45_5, shr_45_5, shR_45_7, shr_45_7, shR_45_16, shr_45_16, shR_45_18, shr_45_18, shR_45_19, shr_45_19, shR_45_21, shr_45_21, shR_45_22, shr_45_22, shR_45_25, shr_45_25, shR_45_26, shr_45_26, shR_45_28, shr_45_28, shR_45_29, shr_45_29, shR_45_33, shr_45_33, shR_45_34, shr_45_34, shR_45_35, shr_45_35, shR_45_36, shr_45_36, shR_45_37, shr_45_37, shR_45_38, shr_45_38, shR_45_39, shr_45_39, shR_45_40, shr_45_40, shR_45_42, shr_45_42, hs1, f1.I 47 (by decide), nIa_1, nIa_2, nIa_3, nIa_4, nIa_5, nIa_6, nIa_8, nIa_9, nIa_20, nIa_45, nIa_59, nIa_60, nIa_98, nIb_8, nIm_8, nIm_900, nIb_200, nI_add, ne_eq, not_false_eq_true, not_true_eq_false, reduceCtorEq, Nat.reduceEqDiff, forall_eq, true_and, and_true, true_implies, forall_const, implies_true, List.mem_cons, List.not_mem_nil, or_false, false_or, or_self, if_true, if_false, reduceIte, Nat.reduceAdd, Nat.reduceMul, Nat.reduceLT, false_implies, Decidable.not_not, bI_eq0, bI_eq1, upd_at, updL_at, Nat.succ_ne_zero, Int32.reduceToNatClampNeg]
    refine ⟨nI_in2 (by omega) (by omega), ?_⟩
    rw [nI_tn (by omega), nI_tn (by omega), nI_tn (by omega), e3, e4]
    refine ⟨fun q => h 1 S1 f1 k1 (fun z => by simp [gSum, q] at z) (fun v hv => ⟨rfl, fun z => absurd q z⟩), fun q => ⟨nI_in2 (by omega) (by omega), nI_in2 (by omega) (by omega), ?_⟩⟩
    obtain ⟨f, hf⟩ := hf q
    have eq : gSum (jI S 47) base c env = f env := by rw [gSum, if_neg q, e3, e4]; exact gEv_of hf (by omega)
    refine sX12_reckonAll (env := env) hs1 (by rw [k1.I 27 (by decide)]; exact hl) hbase (by omega) (f := f) (by rw [f1.I 47 (by decide)]; exact hf) (fun k q1 q2 => by rw [f1.J 58 (by decide)]; exact he k q1 q2) (fun S2 f2 k2 v2 n2 => ?_)
    have f3 := f1.tr f2
    have k3 := k1.tr (k2.mono (by decide))
    simp only [shA_45 (f3.sh.mpr hs), jN_uI, jN_uJ, jN_uR, jK_uI, jK_uJ, jK_uR, jZ_uI, jZ_uJ, jZ_uR, jR_uI, jR_uJ, jr_uI, jr_uJ, jI_uJ, jI_uR, jJ_uI, jJ_uR, jI_uI_eq, jI_uI_ne, jJ_uJ_eq, jJ_uJ_ne, jSh_uI, jSh_uJ, jA_uI, jA_uJ, jA_uR, jI_uIf_eq, jI_uIf_ne, jJ_uIf, jR_uIf, jr_uIf, jZ_uIf, jSh_uIf, jA_uIf, ne_eq, not_false_eq_true, not_true_eq_false, reduceCtorEq, Nat.reduceEqDiff, forall_eq, true_and, and_true, true_implies, forall_const, implies_true, List.mem_cons, List.not_mem_nil, or_false, false_or, or_self, if_true, if_false, reduceIte, Nat.reduceAdd, Nat.reduceMul, Nat.reduceLT, false_implies, Decidable.not_not, bI_eq0, bI_eq1, upd_at, updL_at, Nat.succ_ne_zero, Int32.reduceToNatClampNeg]
    refine ⟨fun z => h 0 _ (f3.uJ (by decide)) (k3.sJ (by decide)) (fun _ => rfl) (fun v hv => ?_), fun z => h 1 _ (f3.uJ (by decide)) (k3.sJ (by decide)) (fun hv => ?_) (fun v hv => ⟨rfl, fun _ => ?_⟩)⟩
    · rw [eq] at hv; exact absurd (v2 v hv).1 z
    · rw [eq] at hv; rw [n2 hv] at z; exact absurd z (by decide)
    · rw [eq] at hv; simp only [jN_uI, jN_uJ, jN_uR, jK_uI, jK_uJ, jK_uR, jZ_uI, jZ_uJ, jZ_uR, jR_uI, jR_uJ, jr_uI, jr_uJ, jI_uJ, jI_uR, jJ_uI, jJ_uR, jI_uI_eq, jI_uI_ne, jJ_uJ_eq, jJ_uJ_ne, jSh_uI, jSh_uJ, jA_uI, jA_uJ, jA_uR, jI_uIf_eq, jI_uIf_ne, jJ_uIf, jR_uIf, jr_uIf, jZ_uIf, jSh_uIf, jA_uIf, ne_eq, not_false_eq_true, not_true_eq_false, reduceCtorEq, Nat.reduceEqDiff, forall_eq, true_and, and_true, true_implies, forall_const, implies_true, List.mem_cons, List.not_mem_nil, or_false, false_or, or_self, if_true, if_false, reduceIte, Nat.reduceAdd, Nat.reduceMul, Nat.reduceLT, false_implies, Decidable.not_not, bI_eq0, bI_eq1, upd_at, updL_at, Nat.succ_ne_zero, Int32.reduceToNatClampNeg]; exact (v2 v hv).2
  unfold wX12_isSo
  simp only [shA_45, shA_47, shZ_47, shR_45_2, shr_45_2, shR_45_3, shr_45_3, shR_45_4, shr_45_4, shR_45_5, shr_45_5, shR_45_7, shr_45_7, shR_45_16, shr_45_16, shR_45_18, shr_45_18, shR_45_19, shr_45_19, shR_45_21, shr_45_21, shR_45_22, shr_45_22, shR_45_25, shr_45_25, shR_45_26, shr_45_26, shR_45_28, shr_45_28, shR_45_29, shr_45_29, shR_45_33, shr_45_33, shR_45_34, shr_45_34, shR_45_35, shr_45_35, shR_45_36, shr_45_36, shR_45_37, shr_45_37, shR_45_38, shr_45_38, shR_45_39, shr_45_39, shR_45_40, shr_45_40, shR_45_42, shr_45_42, hs, nIa_1, nIa_2, nIa_3, nIa_4, nIa_5, nIa_6, nIa_8, nIa_9, nIa_20, nIa_45, nIa_59, nIa_60, nIa_98, nIb_8, nIm_8, nIm_900, nIb_200, nI_add, ne_eq, not_false_eq_true, not_true_eq_false, reduceCtorEq, Nat.reduceEqDiff, forall_eq, true_and, and_true, true_implies, forall_const, implies_true, List.mem_cons, List.not_mem_nil, or_false, false_or, or_self, if_true, if_false, reduceIte, Nat.reduceAdd, Nat.reduceMul, Nat.reduceLT, false_implies, Decidable.not_not, bI_eq0, bI_eq1, upd_at, updL_at, Nat.succ_ne_zero, Int32.reduceToNatClampNeg]
  rw [nI_tn (by omega), nI_tn (by omega), e5, e6, nI_le' (by omega) (by omega)]
  refine ⟨nI_in2 (by omega) (by omega), nI_in2 (by omega) (by omega), fun q => ?_, fun q => ?_⟩
  · have eq : gSo (jI S 47) base c env = gSum (jI S 47) base c env := by rw [gSo, e5, e6, if_neg]; rw [nI_lt' (by omega) (by omega)]; omega
    refine sums S (jFr.refl _ _) (jFk.refl _ _ _) ?_
    rw [← eq]; exact h
  · obtain ⟨g, hg⟩ := hg (by omega)
    have eq : gSo (jI S 47) base c env = (g env).bind (fun v => if v = 0 then none else gSum (jI S 47) base c env) := by
      rw [gSo, e5, e6, if_pos, gEv_of hg (by omega)]; rw [nI_lt' (by omega) (by omega)]; omega
    refine sX12_reckonAll (env := env) hs hl hbase (by omega) hg he (fun S2 f2 k2 v2 n2 => ?_)
    have k2 := k2.mono (E' := [30, 31, 32]) (by decide)
    simp only [shA_45 (f2.sh.mpr hs), lg_cmp_eq, ne_eq, not_false_eq_true, not_true_eq_false, reduceCtorEq, Nat.reduceEqDiff, forall_eq, true_and, and_true, true_implies, forall_const, implies_true, List.mem_cons, List.not_mem_nil, or_false, false_or, or_self, if_true, if_false, reduceIte, Nat.reduceAdd, Nat.reduceMul, Nat.reduceLT, false_implies, Decidable.not_not, bI_eq0, bI_eq1, upd_at, updL_at, Nat.succ_ne_zero, Int32.reduceToNatClampNeg]
    cases eg : g env with
    | none => 
      rw [n2 eg]
      exact ⟨fun _ => h 0 _ f2 k2 (fun _ => rfl) (fun v hv => by rw [eq, eg] at hv; cases hv), fun z => absurd z (by decide)⟩
    | some w =>
      rw [(v2 w eg).1, (v2 w eg).2]
      refine ⟨fun z => absurd rfl z, fun _ => ⟨fun z => ?_, fun z => h 0 _ f2 k2 (fun _ => rfl) (fun v hv => by rw [eq, eg] at hv; simp [z] at hv)⟩⟩
      have eq : gSo (jI S 47) base c env = gSum (jI S 47) base c env := by rw [eq, eg]; simp [z]
      refine sums S2 f2 k2 ?_
      rw [← eq]; exact h
theorem sX12_rocks {S : JS} {Q : Int32 → JS → Prop} (hs : jSh S) (h : Q (jI S 47 0) S) : wX12_rocks 45 S Q := by
  unfold wX12_rocks
  simp only [shA_45, shA_47, shZ_47, shR_45_2, shr_45_2, shR_45_3, shr_45_3, shR_45_4, shr_45_4, shR_45_5, shr_45_5, shR_45_7, shr_45_7, shR_45_16, shr_45_16, shR_45_18, shr_45_18, shR_45_19, shr_45_19, shR_45_21, shr_45_21, shR_45_22, shr_45_22, shR_45_25, shr_45_25, shR_45_26, shr_45_26, shR_45_28, shr_45_28, shR_45_29, shr_45_29, shR_45_33, shr_45_33, shR_45_34, shr_45_34, shR_45_35, shr_45_35, shR_45_36, shr_45_36, shR_45_37, shr_45_37, shR_45_38, shr_45_38, shR_45_39, shr_45_39, shR_45_40, shr_45_40, shR_45_42, shr_45_42, hs, vpin_2, vpin_3, vpin_4, vpin_5, vpin_6, vpin_7, vpin_9, vpin_12, vpin_13, vpin_16, vpin_32, vpin_60, vpin_96, vpin_400, vpin_401, vpin_540, vpin_4320, vpin_4608, vpin_5600, vpin_11200, vpin_276480, ne_eq, not_false_eq_true, not_true_eq_false, reduceCtorEq, Nat.reduceEqDiff, forall_eq, true_and, and_true, true_implies, forall_const, implies_true, List.mem_cons, List.not_mem_nil, or_false, false_or, or_self, if_true, if_false, reduceIte, Nat.reduceAdd, Nat.reduceMul, Nat.reduceLT, false_implies, Decidable.not_not, bI_eq0, bI_eq1, upd_at, updL_at, Nat.succ_ne_zero, Int32.reduceToNatClampNeg]
  exact ⟨by decide, h⟩
theorem sX12_farBetween {S : JS} {Q : Int32 → JS → Prop} {a b : Int32} (hs : jSh S) (h : Q (gFar (jI S 47 0) a b) S) : wX12_farBetween 45 a b S Q := by
  unfold wX12_farBetween wX12_farBetween_10
  unfold gFar at h
  have A : ∀ o, (o = if a < b then b - a else a - b) → (wX12_rocks 45 S fun r2 S1 => (r2 - o ≤ o → jA S1 45 12 ∧ wX12_rocks 45 S1 fun r5 S4 => Q (r5 - o) S4) ∧ (¬ r2 - o ≤ o → Q o S1)) := by
    intro o ho
    rw [← ho] at h
    refine sX12_rocks hs ⟨fun q => ⟨shA_45 hs, sX12_rocks hs ?_⟩, fun q => ?_⟩
    · rw [if_neg (by lia)] at h; exact h
    · rw [if_pos (by lia)] at h; exact h
  refine ⟨fun q => ⟨shA_45 hs, A _ ?_⟩, fun q => ⟨shA_45 hs, A _ ?_⟩⟩
  · rw [if_neg (by lia)]
  · rw [if_pos (by lia)]
theorem gCut_q {S : JS} {v : Int64} {Q : Int32 → JS → Prop} (h : Q (gCut v) S) : wX12_tells_115 v S Q := by
  unfold wX12_tells_115
  simp only [lg_cmp_ge, lg_cmp_le]
  unfold gCut at h
  refine ⟨fun q => ⟨fun q2 => ?_, fun q2 => ?_⟩, fun q => ?_⟩
  · rw [if_neg (by lia), if_neg (by lia)] at h; exact h
  · rw [if_neg (by lia), if_pos (by lia)] at h; exact h
  · rw [if_pos (by lia)] at h; exact h
/-- the law in force is sound, of the model's side -/
def LF (row : Nat → Int32) : Prop := row 4 = -1 ∨ ∃ j : Nat, j < 6 ∧ row 4 = nI j ∧ TOk row (200 + 900 * j)
set_option maxRecDepth 20000 in
theorem sX12_tells {S : JS} {Q : Int32 → JS → Prop} {head rock to : Int32} {night : Nat} (hs : jSh S) (hn : night < 60) (hf : LF (jI S 47)) (h : ∀ S', jFr [45, 58, 59] S S' → jFk 45 [27, 30, 31, 32] S S' → Q (gTell (jI S 47) head rock (nI night) to) S') : wX12_tells 45 head rock (nI night) to S Q := by
  have st : ∀ v0 : Int64, v0 = (if head = 2 then 0 else 1) → wX12_tells_6 45 head rock (nI night) to v0 S Q := by
    intro v0 hv0
    unfold wX12_tells_6
    rcases hf with hf | ⟨j, hj, hf, n, hn12, hnc, hT⟩
    · simp only [shA_45, shA_47, shZ_47, shR_45_2, shr_45_2, shR_45_3, shr_45_3, shR_45_4, shr_45_4, shR_45_5, shr_45_5, shR_45_7, shr_45_7, shR_45_16, shr_45_16, shR_45_18, shr_45_18, shR_45_19, shr_45_19, shR_45_21, shr_45_21, shR_45_22, shr_45_22, shR_45_25, shr_45_25, shR_45_26, shr_45_26, shR_45_28, shr_45_28, shR_45_29, shr_45_29, shR_45_33, shr_45_33, shR_45_34, shr_45_34, shR_45_35, shr_45_35, shR_45_36, shr_45_36, shR_45_37, shr_45_37, shR_45_38, shr_45_38, shR_45_39, shr_45_39, shR_45_40, shr_45_40, shR_45_42, shr_45_42, hs, vpin_2, vpin_3, vpin_4, vpin_5, vpin_6, vpin_7, vpin_9, vpin_12, vpin_13, vpin_16, vpin_32, vpin_60, vpin_96, vpin_400, vpin_401, vpin_540, vpin_4320, vpin_4608, vpin_5600, vpin_11200, vpin_276480, hf, ne_eq, not_false_eq_true, not_true_eq_false, reduceCtorEq, Nat.reduceEqDiff, forall_eq, true_and, and_true, true_implies, forall_const, implies_true, List.mem_cons, List.not_mem_nil, or_false, false_or, or_self, if_true, if_false, reduceIte, Nat.reduceAdd, Nat.reduceMul, Nat.reduceLT, false_implies, Decidable.not_not, bI_eq0, bI_eq1, upd_at, updL_at, Nat.succ_ne_zero, Int32.reduceToNatClampNeg]
      refine ⟨by decide, gCut_q ?_⟩
      have := h S (jFr.refl _ _) (jFk.refl _ _ _)
      rw [gTell, if_pos hf, ← hv0] at this; exact this
    · have hf1 : ¬ nI j = -1 := by have := nI_nn (n := j) (by omega); lia
      have eb : gBase (jI S 47) = 200 + 900 * j := by rw [gBase, hf, nI_tn (by omega)]
      simp only [shA_45, shA_47, shZ_47, shA_58, shZ_58, shR_45_2, shr_45_2, shR_45_3, shr_45_3, shR_45_4, shr_45_4, shR_45_5, shr_45_5, shR_45_7, shr_45_7, shR_45_16, shr_45_16, shR_45_18, shr_45_18, shR_45_19, shr_45_19, shR_45_21, shr_45_21, shR_45_22, shr_45_22, shR_45_25, shr_45_25, shR_45_26, shr_45_26, shR_45_28, shr_45_28, shR_45_29, shr_45_29, shR_45_33, shr_45_33, shR_45_34, shr_45_34, shR_45_35, shr_45_35, shR_45_36, shr_45_36, shR_45_37, shr_45_37, shR_45_38, shr_45_38, shR_45_39, shr_45_39, shR_45_40, shr_45_40, shR_45_42, shr_45_42, hs, vpin_2, vpin_3, vpin_4, vpin_5, vpin_6, vpin_7, vpin_9, vpin_12, vpin_13, vpin_16, vpin_32, vpin_60, vpin_96, vpin_400, vpin_401, vpin_540, vpin_4320, vpin_4608, vpin_5600, vpin_11200, vpin_276480, hf, hf1, nIa_1, nIa_2, nIa_3, nIa_4, nIa_5, nIa_6, nIa_8, nIa_9, nIa_20, nIa_45, nIa_59, nIa_60, nIa_98, nIb_8, nIm_8, nIm_900, nIb_200, nI_add, jN_uI, jN_uJ, jN_uR, jK_uI, jK_uJ, jK_uR, jZ_uI, jZ_uJ, jZ_uR, jR_uI, jR_uJ, jr_uI, jr_uJ, jI_uJ, jI_uR, jJ_uI, jJ_uR, jI_uI_eq, jI_uI_ne, jJ_uJ_eq, jJ_uJ_ne, jSh_uI, jSh_uJ, jA_uI, jA_uJ, jA_uR, jI_uIf_eq, jI_uIf_ne, jJ_uIf, jR_uIf, jr_uIf, jZ_uIf, jSh_uIf, jA_uIf, ne_eq, not_false_eq_true, not_true_eq_false, reduceCtorEq, Nat.reduceEqDiff, forall_eq, true_and, and_true, true_implies, forall_const, implies_true, List.mem_cons, List.not_mem_nil, or_false, false_or, or_self, if_true, if_false, reduceIte, Nat.reduceAdd, Nat.reduceMul, Nat.reduceLT, false_implies, Decidable.not_not, bI_eq0, bI_eq1, upd_at, updL_at, Nat.succ_ne_zero, Int32.reduceToNatClampNeg]
      generalize hbs : 200 + 900 * j = base at *
      rw [nI_tn (by omega)]
      -- the loop over the clauses
      have loop : ∀ v6 : Int32, v6 = (if to = -1 then (-1) else gFar (jI S 47 0) rock to) → ∀ S1, S1 = uJ (uJ (uJ (uJ (uJ (uJ (uI S 45 27 (nI base)) 58 1 rock.toInt64) 58 2 to.toInt64) 58 3 (nI night).toInt64) 58 4 (jI S 47 (8 + night)).toInt64) 58 5 (jI S 47 1).toInt64) 58 6 v6.toInt64 → wX12_tells_77 45 head v0 0 S1 Q := by
        intro v6 h6 S1 e1
        have f1 : jFr [45, 58, 59] S S1 := by
          rw [e1]; exact ((((((((jFr.refl _ _).uI (by decide)).uJ (by decide)).uJ (by decide)).uJ (by decide)).uJ (by decide)).uJ (by decide)).uJ (by decide))
        have k1 : jFk 45 [27, 30, 31, 32] S S1 := by
          rw [e1]; exact ((((((((jFk.refl _ _ _).sI (by decide)).oJ (by decide)).oJ (by decide)).oJ (by decide)).oJ (by decide)).oJ (by decide)).oJ (by decide))
        have l1 : jI S1 45 27 = nI base := by rw [e1]; simp only [jN_uI, jN_uJ, jN_uR, jK_uI, jK_uJ, jK_uR, jZ_uI, jZ_uJ, jZ_uR, jR_uI, jR_uJ, jr_uI, jr_uJ, jI_uJ, jI_uR, jJ_uI, jJ_uR, jI_uI_eq, jI_uI_ne, jJ_uJ_eq, jJ_uJ_ne, jSh_uI, jSh_uJ, jA_uI, jA_uJ, jA_uR, jI_uIf_eq, jI_uIf_ne, jJ_uIf, jR_uIf, jr_uIf, jZ_uIf, jSh_uIf, jA_uIf, ne_eq, not_false_eq_true, not_true_eq_false, reduceCtorEq, Nat.reduceEqDiff, forall_eq, true_and, and_true, true_implies, forall_const, implies_true, List.mem_cons, List.not_mem_nil, or_false, false_or, or_self, if_true, if_false, reduceIte, Nat.reduceAdd, Nat.reduceMul, Nat.reduceLT, false_implies, Decidable.not_not, bI_eq0, bI_eq1, upd_at, updL_at, Nat.succ_ne_zero, Int32.reduceToNatClampNeg]
        have he : ∀ k, 0 < k → k < 7 → jJ S1 58 k = gEnv (jI S 47) rock (nI night) to k := by
          intro k q1 q2
          rw [e1]; simp only [jN_uI, jN_uJ, jN_uR, jK_uI, jK_uJ, jK_uR, jZ_uI, jZ_uJ, jZ_uR, jR_uI, jR_uJ, jr_uI, jr_uJ, jI_uJ, jI_uR, jJ_uI, jJ_uR, jI_uI_eq, jI_uI_ne, jJ_uJ_eq, jJ_uJ_ne, jSh_uI, jSh_uJ, jA_uI, jA_uJ, jA_uR, jI_uIf_eq, jI_uIf_ne, jJ_uIf, jR_uIf, jr_uIf, jZ_uIf, jSh_uIf, jA_uIf, ne_eq, not_false_eq_true, not_true_eq_false, reduceCtorEq, Nat.reduceEqDiff, forall_eq, true_and, and_true, true_implies, forall_const, implies_true, List.mem_cons, List.not_mem_nil, or_false, false_or, or_self, if_true, if_false, reduceIte, Nat.reduceAdd, Nat.reduceMul, Nat.reduceLT, false_implies, Decidable.not_not, bI_eq0, bI_eq1, upd_at, updL_at, Nat.succ_ne_zero, Int32.reduceToNatClampNeg]
          unfold gEnv
          rw [nI_tn (by omega), h6]
          rcases (by omega : k = 1 ∨ k = 2 ∨ k = 3 ∨ k = 4 ∨ k = 5 ∨ k = 6) with e | e | e | e | e | e <;> subst e <;> simp
        unfold wX12_tells_77
        refine jLoop.ind (fun q => ∃ c S', q = (45, head, gT (jI S 47) base head (gEnv (jI S 47) rock (nI night) to) c, nI c, S') ∧ c ≤ n ∧ jFr [45, 58, 59] S S' ∧ jFk 45 [27, 30, 31, 32] S S' ∧ jI S' 45 27 = nI base ∧ jJ S' 58 = jJ S1 58) (fun q => 13 - q.2.2.2.1.toNatClampNeg) ?_ ⟨0, S1, by rw [gT, hv0]; rfl, by omega, f1, k1, l1, rfl⟩
        rintro _ ⟨c, S2, rfl, h2, f2, k2, l2, j2⟩
        have hs2 : jSh S2 := f2.sh.mpr hs
        unfold bX12_tells_77
        simp only [shA_45, shA_47, shZ_47, shA_58, shZ_58, shR_45_2, shr_45_2, shR_45_3, shr_45_3, shR_45_4, shr_45_4, shR_45_5, shr_45_5, shR_45_7, shr_45_7, shR_45_16, shr_45_16, shR_45_18, shr_45_18, shR_45_19, shr_45_19, shR_45_21, shr_45_21, shR_45_22, shr_45_22, shR_45_25, shr_45_25, shR_45_26, shr_45_26, shR_45_28, shr_45_28, shR_45_29, shr_45_29, shR_45_33, shr_45_33, shR_45_34, shr_45_34, shR_45_35, shr_45_35, shR_45_36, shr_45_36, shR_45_37, shr_45_37, shR_45_38, shr_45_38, shR_45_39, shr_45_39, shR_45_40, shr_45_40, shR_45_42, shr_45_42, hs2, l2, f2.I 47 (by decide), nIa_1, nIa_2, nIa_3, nIa_4, nIa_5, nIa_6, nIa_8, nIa_9, nIa_20, nIa_45, nIa_59, nIa_60, nIa_98, nIb_8, nIm_8, nIm_900, nIb_200, nI_add, jN_uI, jN_uJ, jN_uR, jK_uI, jK_uJ, jK_uR, jZ_uI, jZ_uJ, jZ_uR, jR_uI, jR_uJ, jr_uI, jr_uJ, jI_uJ, jI_uR, jJ_uI, jJ_uR, jI_uI_eq, jI_uI_ne, jJ_uJ_eq, jJ_uJ_ne, jSh_uI, jSh_uJ, jA_uI, jA_uJ, jA_uR, jI_uIf_eq, jI_uIf_ne, jJ_uIf, jR_uIf, jr_uIf, jZ_uIf, jSh_uIf, jA_uIf, ne_eq, not_false_eq_true, not_true_eq_false, reduceCtorEq, Nat.reduceEqDiff, forall_eq, true_and, and_true, true_implies, forall_const, implies_true, List.mem_cons, List.not_mem_nil, or_false, false_or, or_self, if_true, if_false, reduceIte, Nat.reduceAdd, Nat.reduceMul, Nat.reduceLT, false_implies, Decidable.not_not, bI_eq0, bI_eq1, upd_at, updL_at, Nat.succ_ne_zero, Int32.reduceToNatClampNeg]
        rw [nI_tn (by omega), hnc, nI_le' (by omega) (by omega), nI_tn (by omega)]
        refine ⟨nI_in2 (by omega) (by omega), fun q => gCut_q ?_, fun q => ⟨nI_in2 (by omega) (by omega), fun q2 => ?_, fun q2 => ?_⟩⟩
        · have e : c = n := by omega
          subst e
          have := h S2 f2 k2
          rw [gTell, if_neg (by rw [hf]; exact hf1), eb, hnc, nI_tn (by omega)] at this; exact this
        · unfold wX12_tells_113
          intro x hx; rw [nI_1] at hx; subst hx
          refine ⟨⟨c + 1, S2, by rw [gT, if_neg q2], by omega, f2, k2, l2, j2⟩, ?_⟩
          rw [nI_tn (by omega), nI_tn (by omega)]; omega
        · refine sX12_isSo (env := gEnv (jI S 47) rock (nI night) to) hs2 l2 (by omega) (by omega) (by rw [f2.I 47 (by decide)]; exact hT c (by omega)) (fun k q3 q4 => by rw [j2]; exact he k q3 q4) (fun r S3 f3 k3 n3 v3 => ?_)
          rw [f2.I 47 (by decide)] at n3 v3
          have f4 := f2.tr (f3.mono (H' := [45, 58, 59]) (by decide))
          have k4 := k2.tr (k3.mono (E' := [27, 30, 31, 32]) (by decide))
          have l4 : jI S3 45 27 = nI base := by rw [k3.I 27 (by decide)]; exact l2
          have j4 : jJ S3 58 = jJ S1 58 := by rw [f3.J 58 (by decide)]; exact j2
          unfold wX12_tells_112 wX12_tells_113
          simp only [nI_1, shA_45 (f4.sh.mpr hs), ne_eq, not_false_eq_true, not_true_eq_false, reduceCtorEq, Nat.reduceEqDiff, forall_eq, true_and, and_true, true_implies, forall_const, implies_true, List.mem_cons, List.not_mem_nil, or_false, false_or, or_self, if_true, if_false, reduceIte, Nat.reduceAdd, Nat.reduceMul, Nat.reduceLT, false_implies, Decidable.not_not, bI_eq0, bI_eq1, upd_at, updL_at, Nat.succ_ne_zero, Int32.reduceToNatClampNeg]
          have mu : 13 - (nI (c + 1)).toNatClampNeg < 13 - (nI c).toNatClampNeg := by rw [nI_tn (by omega), nI_tn (by omega)]; omega
          cases eg : gSo (jI S 47) base c (gEnv (jI S 47) rock (nI night) to) with
          | none => 
            rw [n3 eg]
            refine ⟨fun _ => ⟨⟨c + 1, S3, by rw [gT, if_pos q2, eg]; rfl, by omega, f4, k4, l4, j4⟩, mu⟩, fun z => absurd rfl z⟩
          | some v => 
            rw [(v3 v eg).1]
            refine ⟨fun z => absurd z (by decide), fun _ => ⟨fun z => ⟨⟨c + 1, S3, ?_, by omega, f4, k4, l4, j4⟩, mu⟩, fun z => ⟨⟨c + 1, S3, ?_, by omega, f4, k4, l4, j4⟩, mu⟩⟩⟩
            · rw [gT, if_pos q2, eg, (v3 v eg).2 (by rw [q2]; exact z)]; rfl
            · rw [gT, if_pos q2, eg]
              have : v = 1 := by
                have ek : jI S 47 (base + 2 + 8 * c) = 2 := q2.trans z
                unfold gSo gSum at eg
                rw [if_pos ek] at eg
                split at eg
                · cases eh : gEv (jI S 47) base (jI S 47 (base + 2 + 8 * c + 5)).toNatClampNeg (jI S 47 (base + 2 + 8 * c + 6)).toNatClampNeg (gEnv (jI S 47) rock (nI night) to) with
                  | none => rw [eh] at eg; cases eg
                  | some w => 
                    rw [eh] at eg; simp only [Option.bind_some] at eg
                    split at eg
                    · cases eg
                    · cases eg; rfl
                · cases eg; rfl
              rw [this]; rfl
      have i8 : (0 : Int32) ≤ nI (8 + night) ∧ nI (8 + night) < 5600 := ⟨nI_nn (by omega), (nI_lt' (b := 5600) (by omega) (by omega)).mpr (by omega)⟩
      refine ⟨by decide, by decide, by decide, by decide, i8, by decide, by decide, by decide, fun q => ?_, fun q => ?_⟩
      · refine sX12_farBetween (by simp only [jN_uI, jN_uJ, jN_uR, jK_uI, jK_uJ, jK_uR, jZ_uI, jZ_uJ, jZ_uR, jR_uI, jR_uJ, jr_uI, jr_uJ, jI_uJ, jI_uR, jJ_uI, jJ_uR, jI_uI_eq, jI_uI_ne, jJ_uJ_eq, jJ_uJ_ne, jSh_uI, jSh_uJ, jA_uI, jA_uJ, jA_uR, jI_uIf_eq, jI_uIf_ne, jJ_uIf, jR_uIf, jr_uIf, jZ_uIf, jSh_uIf, jA_uIf]; exact hs) ?_
        unfold wX12_tells_74
        simp only [shA_58, shZ_58, hs, vpin_2, vpin_3, vpin_4, vpin_5, vpin_6, vpin_7, vpin_9, vpin_12, vpin_13, vpin_16, vpin_32, vpin_60, vpin_96, vpin_400, vpin_401, vpin_540, vpin_4320, vpin_4608, vpin_5600, vpin_11200, vpin_276480, jN_uI, jN_uJ, jN_uR, jK_uI, jK_uJ, jK_uR, jZ_uI, jZ_uJ, jZ_uR, jR_uI, jR_uJ, jr_uI, jr_uJ, jI_uJ, jI_uR, jJ_uI, jJ_uR, jI_uI_eq, jI_uI_ne, jJ_uJ_eq, jJ_uJ_ne, jSh_uI, jSh_uJ, jA_uI, jA_uJ, jA_uR, jI_uIf_eq, jI_uIf_ne, jJ_uIf, jR_uIf, jr_uIf, jZ_uIf, jSh_uIf, jA_uIf, ne_eq, not_false_eq_true, not_true_eq_false, reduceCtorEq, Nat.reduceEqDiff, forall_eq, true_and, and_true, true_implies, forall_const, implies_true, List.mem_cons, List.not_mem_nil, or_false, false_or, or_self, if_true, if_false, reduceIte, Nat.reduceAdd, Nat.reduceMul, Nat.reduceLT, false_implies, Decidable.not_not, bI_eq0, bI_eq1, upd_at, updL_at, Nat.succ_ne_zero, Int32.reduceToNatClampNeg]
        exact ⟨by decide, loop _ (by rw [if_neg q]) _ rfl⟩
      · unfold wX12_tells_74
        simp only [shA_58, shZ_58, hs, vpin_2, vpin_3, vpin_4, vpin_5, vpin_6, vpin_7, vpin_9, vpin_12, vpin_13, vpin_16, vpin_32, vpin_60, vpin_96, vpin_400, vpin_401, vpin_540, vpin_4320, vpin_4608, vpin_5600, vpin_11200, vpin_276480, jN_uI, jN_uJ, jN_uR, jK_uI, jK_uJ, jK_uR, jZ_uI, jZ_uJ, jZ_uR, jR_uI, jR_uJ, jr_uI, jr_uJ, jI_uJ, jI_uR, jJ_uI, jJ_uR, jI_uI_eq, jI_uI_ne, jJ_uJ_eq, jJ_uJ_ne, jSh_uI, jSh_uJ, jA_uI, jA_uJ, jA_uR, jI_uIf_eq, jI_uIf_ne, jJ_uIf, jR_uIf, jr_uIf, jZ_uIf, jSh_uIf, jA_uIf, ne_eq, not_false_eq_true, not_true_eq_false, reduceCtorEq, Nat.reduceEqDiff, forall_eq, true_and, and_true, true_implies, forall_const, implies_true, List.mem_cons, List.not_mem_nil, or_false, false_or, or_self, if_true, if_false, reduceIte, Nat.reduceAdd, Nat.reduceMul, Nat.reduceLT, false_implies, Decidable.not_not, bI_eq0, bI_eq1, upd_at, updL_at, Nat.succ_ne_zero, Int32.reduceToNatClampNeg]
        exact ⟨by decide, loop (-1) (by rw [if_pos q]) _ rfl⟩
  unfold wX12_tells
  exact ⟨fun q => st 1 (by rw [if_neg q]), fun q => st 0 (by rw [if_pos q])⟩
