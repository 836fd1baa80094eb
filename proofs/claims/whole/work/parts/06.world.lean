/-! THE MACHINE BEHIND IT -/
def jBIG : List Cond := lw_tbl.filter goodWord
theorem jBIG_good {w : Cond} (h : w ∈ jBIG) : (w.onTables && w.keeps) = true ∨ ∃ ty, w = .arrayClass ty := good_of_word (List.mem_filter.mp h).2
theorem jBIG_mem {w : Cond} (h : w ∈ lw_tbl) (hg : goodWord w = true) : w ∈ jBIG := List.mem_filter.mpr ⟨h, hg⟩
def jws (M : JM) : List Cond := .code M.y M.cc M.nL M.ret :: jBIG
def jcv (ad : Nat → Nat) (v : Value) : Value := match v with
  | .ref h => .ref (ad h)
  | v => v
theorem jcv_cat (ad : Nat → Nat) (v : Value) : (jcv ad v).category = v.category := by cases v <;> rfl
theorem jcv_cats (ad : Nat → Nat) (l : List Value) : ((l.map (jcv ad)).map fun v => v.category).sum = (l.map fun v => v.category).sum := by
  induction l with
  | nil => rfl
  | cons v l ih => simp only [List.map_cons, List.sum_cons, jcv_cat, ih]
theorem jcv_ext {ad ad' : Nat → Nat} {n : Nat} (he : ∀ r, r < n ∨ jX ≤ r → ad' r = ad r) {v : Value} (hv : jok n v) : jcv ad' v = jcv ad v := by
  cases v <;> try rfl
  rename_i r
  show Value.ref (ad' r) = Value.ref (ad r)
  rw [he r (hv r rfl)]
theorem jok_le {n n' : Nat} (h : n ≤ n') {v : Value} (hv : jok n v) : jok n' v := fun r e => by
  exact (hv r e).imp (fun h2 => Nat.lt_of_lt_of_le h2 h) id
theorem jok_int (n : Nat) (x : Int32) : jok n (.int x) := fun r e => by cases e
theorem jok_long (n : Nat) (x : Int64) : jok n (.long x) := fun r e => by cases e
theorem jok_null (n : Nat) : jok n .null := fun r e => by cases e
/-- the locals -/
def jlh (ad : Nat → Nat) (ls : Array Slot) (n : Nat) (lv : JL) : Prop := ls.size = n ∧ lv_wf ls ∧ ∀ (i : Nat) (v : Value), lv[i]? = some (some v) → ls[i]? = some (.val (jcv ad v))
def jas (ad : Nat → Nat) (lv : JL) : List (Nat × Value) := (List.range lv.length).filterMap fun i => match lv[i]? with
  | some (some v) => some (i, jcv ad v)
  | _ => none
theorem jas_mem {ad : Nat → Nat} {lv : JL} {i : Nat} {v : Value} (h : lv[i]? = some (some v)) : (i, jcv ad v) ∈ jas ad lv := by
  refine List.mem_filterMap.mpr ⟨i, List.mem_range.mpr (List.getElem?_eq_some_iff.mp h).1, ?_⟩
  simp [h]
theorem jas_of {ad : Nat → Nat} {lv : JL} {q : Nat × Value} (h : q ∈ jas ad lv) : ∃ v, lv[q.1]? = some (some v) ∧ q.2 = jcv ad v := by
  obtain ⟨i, -, hi⟩ := List.mem_filterMap.mp h
  split at hi
  · rename_i v hv
    cases hi
    exact ⟨v, hv, rfl⟩
  · cases hi
theorem jlh_has {ad : Nat → Nat} {ls : Array Slot} {n : Nat} {lv : JL} (h : jlh ad ls n lv) : lv_has ls n (jas ad lv) := ⟨h.1, h.2.1, fun q hq => by
  obtain ⟨v, h1, h2⟩ := jas_of hq
  rw [h2]
  exact h.2.2 _ _ h1⟩
theorem jclr_get {lv : JL} {i j : Nat} {v : Value} (h : (jclr lv i)[j]? = some (some v)) : lv[j]? = some (some v) ∧ ¬ (j + 1 = i ∧ v.category = 2) := by
  unfold jclr at h
  cases i with
  | zero => exact ⟨h, fun z => by omega⟩
  | succ k =>
    simp only at h
    split at h
    · rename_i w hw
      by_cases hc : w.category = 2
      · rw [if_pos hc] at h
        by_cases hj : j = k
        · subst hj
          by_cases hl : j < lv.length
          · simp [hl] at h
          · simp [hl] at h
        · rw [List.getElem?_set_ne (Ne.symm hj)] at h
          exact ⟨h, fun z => by omega⟩
      · rw [if_neg hc] at h
        refine ⟨h, fun z => ?_⟩
        have hj : j = k := by omega
        subst hj
        rw [List.getD_eq_getElem?_getD, h] at hw
        simp at hw
        rw [hw] at z
        exact hc z.2
    · rename_i hw
      refine ⟨h, fun z => ?_⟩
      have hj : j = k := by omega
      subst hj
      rw [List.getD_eq_getElem?_getD, h] at hw
      simp at hw
theorem jlh_st1 {ad : Nat → Nat} {ls' : Array Slot} {n i : Nat} {lv : JL} {v : Value} (h : lv_has ls' n ((i, jcv ad v) :: (jas ad lv).filter (fun q => !(q.1 == i) && !(q.1 + 1 == i && q.2.category == 2)))) : jlh ad ls' n (jst1 lv i v) := by
  refine ⟨h.1, h.2.1, fun j w hj => ?_⟩
  unfold jst1 at hj
  by_cases e : j = i
  · subst e
    by_cases hl : j < (jclr lv j).length
    · simp [hl] at hj
      rw [← hj]
      exact h.2.2 _ List.mem_cons_self
    · simp [hl] at hj
  · rw [List.getElem?_set_ne (Ne.symm e)] at hj
    obtain ⟨h1, h2⟩ := jclr_get hj
    refine h.2.2 (j, jcv ad w) (List.mem_cons_of_mem _ (List.mem_filter.mpr ⟨jas_mem h1, ?_⟩))
    simp only [jcv_cat, Bool.and_eq_true, Bool.not_eq_true', beq_eq_false_iff_ne, Bool.and_eq_false_iff]
    refine ⟨e, ?_⟩
    by_cases h3 : j + 1 = i
    · exact Or.inr (fun z => h2 ⟨h3, z⟩)
    · exact Or.inl h3
theorem jlh_st2 {ad : Nat → Nat} {ls' : Array Slot} {n i : Nat} {lv : JL} {v : Value} (h : lv_has ls' n ((i, jcv ad v) :: (jas ad lv).filter (fun q => !(q.1 == i) && (!(q.1 == i + 1) && !(q.1 + 1 == i && q.2.category == 2))))) : jlh ad ls' n (jst2 lv i v) := by
  refine ⟨h.1, h.2.1, fun j w hj => ?_⟩
  unfold jst2 at hj
  by_cases e1 : j = i + 1
  · subst e1
    by_cases hl : i + 1 < ((jclr lv i).set i (some v)).length
    · rw [List.getElem?_set_self hl] at hj; simp at hj
    · rw [List.getElem?_eq_none (by simpa using hl)] at hj; cases hj
  rw [List.getElem?_set_ne (Ne.symm e1)] at hj
  by_cases e : j = i
  · subst e
    by_cases hl : j < (jclr lv j).length
    · simp [hl] at hj
      rw [← hj]
      exact h.2.2 _ List.mem_cons_self
    · simp [hl] at hj
  · rw [List.getElem?_set_ne (Ne.symm e)] at hj
    obtain ⟨h1, h2⟩ := jclr_get hj
    refine h.2.2 (j, jcv ad w) (List.mem_cons_of_mem _ (List.mem_filter.mpr ⟨jas_mem h1, ?_⟩))
    simp only [jcv_cat, Bool.and_eq_true, Bool.not_eq_true', beq_eq_false_iff_ne, Bool.and_eq_false_iff]
    refine ⟨e, e1, ?_⟩
    by_cases h3 : j + 1 = i
    · exact Or.inr (fun z => h2 ⟨h3, z⟩)
    · exact Or.inl h3
theorem jlh_ext {ad ad' : Nat → Nat} {ls : Array Slot} {n N : Nat} {lv : JL} (he : ∀ r, r < N ∨ jX ≤ r → ad' r = ad r) (hok : ∀ (i : Nat) (v : Value), lv[i]? = some (some v) → jok N v) (h : jlh ad ls n lv) : jlh ad' ls n lv := ⟨h.1, h.2.1, fun i v hi => by rw [jcv_ext he (hok i v hi)]; exact h.2.2 i v hi⟩
theorem jst_ext {ad ad' : Nat → Nat} {N : Nat} {st : List Value} (he : ∀ r, r < N ∨ jX ≤ r → ad' r = ad r) (hok : ∀ v ∈ st, jok N v) : st.map (jcv ad') = st.map (jcv ad) := List.map_congr_left fun v hv => jcv_ext he (hok v hv)
def jlo (N : Nat) (lv : JL) : Prop := ∀ (i : Nat) (v : Value), lv[i]? = some (some v) → jok N v
def jso (N : Nat) (st : List Value) : Prop := ∀ v ∈ st, jok N v
theorem jso_cons {N : Nat} {v : Value} {l : List Value} (h : jok N v) (hl : jso N l) : jso N (v :: l) := fun w hw => by
  rcases List.mem_cons.mp hw with e | e
  · rw [e]; exact h
  · exact hl w e
theorem jso_tail {N : Nat} {v : Value} {l : List Value} (h : jso N (v :: l)) : jso N l := fun w hw => h w (List.mem_cons_of_mem _ hw)
theorem jso_head {N : Nat} {v : Value} {l : List Value} (h : jso N (v :: l)) : jok N v := h v List.mem_cons_self
theorem jlo_st1 {N : Nat} {lv : JL} {i : Nat} {v : Value} (h : jlo N lv) (hv : jok N v) : jlo N (jst1 lv i v) := fun j w hj => by
  unfold jst1 at hj
  by_cases e : j = i
  · subst e
    by_cases hl : j < (jclr lv j).length
    · simp [hl] at hj; rw [← hj]; exact hv
    · simp [hl] at hj
  · rw [List.getElem?_set_ne (Ne.symm e)] at hj
    exact h j w (jclr_get hj).1
theorem jlo_st2 {N : Nat} {lv : JL} {i : Nat} {v : Value} (h : jlo N lv) (hv : jok N v) : jlo N (jst2 lv i v) := fun j w hj => by
  unfold jst2 at hj
  by_cases e1 : j = i + 1
  · subst e1
    by_cases hl : i + 1 < ((jclr lv i).set i (some v)).length
    · rw [List.getElem?_set_self hl] at hj; simp at hj
    · rw [List.getElem?_eq_none (by simpa using hl)] at hj; cases hj
  rw [List.getElem?_set_ne (Ne.symm e1)] at hj
  exact jlo_st1 h hv j w hj
theorem jlo_le {N N' : Nat} {lv : JL} (hN : N ≤ N') (h : jlo N lv) : jlo N' lv := fun i v hi => jok_le hN (h i v hi)
theorem jso_le {N N' : Nat} {st : List Value} (hN : N ≤ N') (h : jso N st) : jso N' st := fun v hv => jok_le hN (h v hv)
/-- the addresses: the classes' numbers, array classes, the heap's size at the start, the table, the String constants -/
abbrev JE : Type := va_G × (Nat → ClassId) × Nat × Nat × (Nat → Nat) × (Nat → Nat)
abbrev JE.D (E : JE) : va_G := E.1
abbrev JE.cy (E : JE) : Nat → ClassId := E.2.1
abbrev JE.z (E : JE) : Nat := E.2.2.1
abbrev JE.tW (E : JE) : Nat := E.2.2.2.1
abbrev JE.aK (E : JE) : Nat → Nat := E.2.2.2.2.1
abbrev JE.aV (E : JE) : Nat → Nat := E.2.2.2.2.2
abbrev JE.A (E : JE) : Nat → Prop := fun q => E.2.2.1 ≤ q
def jtys (cy : Nat → ClassId) : List (ClassId × FieldType) := [(cy 13, .int), (cy 14, .long), (cy 15, .boolean), (cy 16, .object "RedGlass$Law"), (cy 17, .object "RedGlass$World")]
def jPool (E : JE) (ad : Nat → Nat) (S : JS) (H : Heap) : Prop := va_P E.D vwCl (jW E.cy ad S) H ∧ va_D E.A (jW E.cy ad S) ∧ jwf S ∧ ad (jX + 1) = E.tW ∧ (∀ i, i < 13 → ad (jX + 10 + i) = E.aK i)
