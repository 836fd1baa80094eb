/-! THE ABSTRACT HEAP: handles 0 .. n-1 in the order of making; a kind, a length, int, long and reference slots by handle. -/
abbrev JS : Type := Nat × (Nat → Nat) × (Nat → Nat) × (Nat → Nat → Int32) × (Nat → Nat → Int64) × (Nat → Nat → Option Nat)
def jN (S : JS) : Nat := S.1
def jK (S : JS) : Nat → Nat := S.2.1
def jZ (S : JS) : Nat → Nat := S.2.2.1
def jI (S : JS) : Nat → Nat → Int32 := S.2.2.2.1
def jJ (S : JS) : Nat → Nat → Int64 := S.2.2.2.2.1
def jR (S : JS) : Nat → Nat → Option Nat := S.2.2.2.2.2
def jr (S : JS) (h k : Nat) : Nat := (jR S h k).getD 0
def uIf (S : JS) (h : Nat) (f : Nat → Int32) : JS := (jN S, jK S, jZ S, va_up (jI S) h f, jJ S, jR S)
def uJf (S : JS) (h : Nat) (f : Nat → Int64) : JS := (jN S, jK S, jZ S, jI S, va_up (jJ S) h f, jR S)
def uRf (S : JS) (h : Nat) (f : Nat → Option Nat) : JS := (jN S, jK S, jZ S, jI S, jJ S, va_up (jR S) h f)
def uI (S : JS) (h i : Nat) (v : Int32) : JS := uIf S h (upd (jI S h) i v)
def uJ (S : JS) (h i : Nat) (v : Int64) : JS := uJf S h (vp_updL (jJ S h) i v)
def uR (S : JS) (h i : Nat) (v : Option Nat) : JS := uRf S h (va_up (jR S h) i v)
def uNew (S : JS) (kd len : Nat) : JS := (jN S + 1, va_up (jK S) (jN S) kd, va_up (jZ S) (jN S) len, va_up (jI S) (jN S) (fun _ => 0), va_up (jJ S) (jN S) (fun _ => 0), va_up (jR S) (jN S) (fun _ => none))
/-- a handle that is, of a kind -/
def jA (S : JS) (h kd : Nat) : Prop := h < jN S ∧ jK S h = kd
/-- special references: the script (0), the table (1), String constants (10 + i) -/
abbrev jX : Nat := 1000000000
def jok (n : Nat) (v : Value) : Prop := ∀ r, v = .ref r → r < n ∨ jX ≤ r
def jwf (S : JS) : Prop := ∀ h k r, h < jN S → jR S h k = some r → r < jN S ∨ jX ≤ r
/-- types of fields: 0 int, 1 long, 2 reference, 3 boolean -/
def jTy (c : Nat) : Nat → FieldType := match c with
  | 0 => tyX0 | 1 => tyX1 | 2 => tyX2 | 3 => tyX3 | 4 => tyX4 | 5 => tyX5 | 6 => tyX6 | 7 => tyX7 | 8 => tyX8 | 9 => tyX9 | 10 => tyX10 | 11 => tyX11 | _ => tyX12
def jtc (ty : FieldType) : Nat := match ty with
  | .int => 0 | .long => 1 | .boolean => 3 | _ => 2
def ftc (c k : Nat) : Nat := jtc (jTy c k)
def fnum (c : Nat) : Nat := match vwCl[c]? with
  | some q => q.2.2
  | none => 0
def jF (ad : Nat → Nat) (S : JS) (h t k : Nat) : Value := if t = 1 then .long (jJ S h k) else if t = 2 then va_rf ((jR S h k).map ad) else .int (jI S h k)
def jC (cy : Nat → ClassId) (ad : Nat → Nat) (S : JS) (h : Nat) : va_E :=
  if jK S h < 13 then .inr (jK S h, (List.range (fnum (jK S h))).map fun k => jF ad S h (ftc (jK S h) k) k)
  else if jK S h = 14 then .inl (cy 14, jZ S h, .inr (.inl (jJ S h)))
  else if jK S h = 16 ∨ jK S h = 17 then .inl (cy (jK S h), jZ S h, .inr (.inr (.inr (.inr (fun i => (jR S h i).map ad)))))
  else .inl (cy (jK S h), jZ S h, .inl (jI S h))
def jW (cy : Nat → ClassId) (ad : Nat → Nat) (S : JS) : va_W := (List.range (jN S)).map fun h => (ad h, jC cy ad S h)
theorem jW_at {cy : Nat → ClassId} {ad : Nat → Nat} {S : JS} {h : Nat} (hh : h < jN S) : (jW cy ad S)[h]? = some (ad h, jC cy ad S h) := by
  simp [jW, hh]
theorem jW_set {cy : Nat → ClassId} {ad : Nat → Nat} {S S' : JS} {h : Nat} {e : va_E} (hn : jN S' = jN S) (he : jC cy ad S' h = e) (ho : ∀ g, g ≠ h → jC cy ad S' g = jC cy ad S g) : (jW cy ad S).set h (ad h, e) = jW cy ad S' := by
  apply List.ext_getElem?
  intro i
  by_cases hi : i = h
  · subst hi
    by_cases hl : i < jN S
    · simp [jW, hn, hl, he]
    · simp [jW, hn, hl]
  · by_cases hl : i < jN S
    · simp [jW, hn, hl, List.getElem?_set, Ne.symm hi, ho i hi]
    · simp [jW, hn, hl, List.getElem?_set, Ne.symm hi]
theorem jW_new {cy : Nat → ClassId} {ad : Nat → Nat} {S S' : JS} {q : Nat} {e : va_E} (hn : jN S' = jN S + 1) (he : jC cy (va_up ad (jN S) q) S' (jN S) = e) (ho : ∀ g, g < jN S → jC cy (va_up ad (jN S) q) S' g = jC cy ad S g) : jW cy ad S ++ [(q, e)] = jW cy (va_up ad (jN S) q) S' := by
  unfold jW
  rw [hn, List.range_succ, List.map_append, List.map_cons, List.map_nil, he]
  congr 1
  · apply List.map_congr_left
    intro g hg
    have hg := List.mem_range.mp hg
    rw [ho g hg, va_up_ne _ _ (Nat.ne_of_lt hg)]
  · simp [va_up]
theorem jN_uIf (S : JS) (h : Nat) (f : Nat → Int32) : jN (uIf S h f) = jN S := rfl
theorem jC_uIf {cy : Nat → ClassId} {ad : Nat → Nat} {S : JS} {h : Nat} {f : Nat → Int32} {g : Nat} (hg : g ≠ h) : jC cy ad (uIf S h f) g = jC cy ad S g := by
  have e : jI (uIf S h f) g = jI S g := va_up_ne _ _ hg
  have e2 : ∀ t k, jF ad (uIf S h f) g t k = jF ad S g t k := fun t k => by
    show (if t = 1 then _ else if t = 2 then _ else Value.int (jI (uIf S h f) g k)) = _
    rw [e]; rfl
  have k1 : jK (uIf S h f) = jK S := rfl
  have z1 : jZ (uIf S h f) = jZ S := rfl
  have j1 : jJ (uIf S h f) = jJ S := rfl
  have r1 : jR (uIf S h f) = jR S := rfl
  simp only [jC, k1, z1, j1, r1, e, e2]
theorem jC_uJf {cy : Nat → ClassId} {ad : Nat → Nat} {S : JS} {h : Nat} {f : Nat → Int64} {g : Nat} (hg : g ≠ h) : jC cy ad (uJf S h f) g = jC cy ad S g := by
  have e : jJ (uJf S h f) g = jJ S g := va_up_ne _ _ hg
  have e2 : ∀ t k, jF ad (uJf S h f) g t k = jF ad S g t k := fun t k => by
    show (if t = 1 then Value.long (jJ (uJf S h f) g k) else _) = _
    rw [e]; rfl
  have k1 : jK (uJf S h f) = jK S := rfl
  have z1 : jZ (uJf S h f) = jZ S := rfl
  have j1 : jI (uJf S h f) = jI S := rfl
  have r1 : jR (uJf S h f) = jR S := rfl
  simp only [jC, k1, z1, j1, r1, e, e2]
theorem jC_uRf {cy : Nat → ClassId} {ad : Nat → Nat} {S : JS} {h : Nat} {f : Nat → Option Nat} {g : Nat} (hg : g ≠ h) : jC cy ad (uRf S h f) g = jC cy ad S g := by
  have e : jR (uRf S h f) g = jR S g := va_up_ne _ _ hg
  have e2 : ∀ t k, jF ad (uRf S h f) g t k = jF ad S g t k := fun t k => by
    show (if t = 1 then _ else if t = 2 then va_rf ((jR (uRf S h f) g k).map ad) else _) = _
    rw [e]; rfl
  have k1 : jK (uRf S h f) = jK S := rfl
  have z1 : jZ (uRf S h f) = jZ S := rfl
  have j1 : jI (uRf S h f) = jI S := rfl
  have r1 : jJ (uRf S h f) = jJ S := rfl
  simp only [jC, k1, z1, j1, r1, e, e2]
theorem jset_map {n k : Nat} {f : Nat → Value} {v : Value} : ((List.range n).map f).set k v = (List.range n).map (fun j => if j = k then v else f j) := by
  apply List.ext_getElem?
  intro i
  by_cases hi : i = k
  · subst hi
    by_cases hl : i < n
    · simp [hl]
    · simp [hl]
  · by_cases hl : i < n
    · simp [hl, List.getElem?_set, Ne.symm hi, hi]
    · simp [hl, List.getElem?_set, Ne.symm hi]
/-- the cell of an object, behind a write to one of its slots -/
theorem jC_obj {cy : Nat → ClassId} {ad : Nat → Nat} {S : JS} {h c : Nat} (hk : jK S h = c) (hc : c < 13) : jC cy ad S h = .inr (c, (List.range (fnum c)).map fun k => jF ad S h (ftc c k) k) := by
  unfold jC; rw [hk, if_pos hc]
theorem jC_setI {cy : Nat → ClassId} {ad : Nat → Nat} {S : JS} {h c k : Nat} {v : Int32} (hk : jK S h = c) (hc : c < 13) (ht : ftc c k ≠ 1 ∧ ftc c k ≠ 2) : jC cy ad (uI S h k v) h = .inr (c, ((List.range (fnum c)).map fun k => jF ad S h (ftc c k) k).set k (.int v)) := by
  rw [jC_obj (S := uI S h k v) (by exact hk) hc, jset_map]
  congr 2
  apply List.map_congr_left
  intro j _
  have e : jI (uI S h k v) h = upd (jI S h) k v := by simp [uI, uIf, jI, va_up]
  by_cases hj : j = k
  · subst hj
    rw [if_pos rfl]; unfold jF; rw [if_neg ht.1, if_neg ht.2, e]; simp [upd]
  · rw [if_neg hj]; unfold jF; rw [e]
    have e2 : upd (jI S h) k v j = jI S h j := by simp [upd, hj]
    rw [e2]; rfl
theorem jC_setJ {cy : Nat → ClassId} {ad : Nat → Nat} {S : JS} {h c k : Nat} {v : Int64} (hk : jK S h = c) (hc : c < 13) (ht : ftc c k = 1) : jC cy ad (uJ S h k v) h = .inr (c, ((List.range (fnum c)).map fun k => jF ad S h (ftc c k) k).set k (.long v)) := by
  rw [jC_obj (S := uJ S h k v) (by exact hk) hc, jset_map]
  congr 2
  apply List.map_congr_left
  intro j _
  have e : jJ (uJ S h k v) h = vp_updL (jJ S h) k v := by simp [uJ, uJf, jJ, va_up]
  by_cases hj : j = k
  · subst hj
    rw [if_pos rfl]; unfold jF; rw [if_pos ht, e]; simp [vp_updL]
  · rw [if_neg hj]; unfold jF; rw [e]
    have e2 : vp_updL (jJ S h) k v j = jJ S h j := by simp [vp_updL, hj]
    rw [e2]; rfl
theorem jC_setR {cy : Nat → ClassId} {ad : Nat → Nat} {S : JS} {h c k : Nat} {v : Option Nat} (hk : jK S h = c) (hc : c < 13) (ht : ftc c k = 2) : jC cy ad (uR S h k v) h = .inr (c, ((List.range (fnum c)).map fun k => jF ad S h (ftc c k) k).set k (va_rf (v.map ad))) := by
  rw [jC_obj (S := uR S h k v) (by exact hk) hc, jset_map]
  congr 2
  apply List.map_congr_left
  intro j _
  have e : jR (uR S h k v) h = va_up (jR S h) k v := by simp [uR, uRf, jR, va_up]
  by_cases hj : j = k
  · subst hj
    rw [if_pos rfl]; unfold jF; rw [if_neg (by omega), if_pos ht, e]; simp [va_up]
  · rw [if_neg hj]; unfold jF; rw [e]
    have e2 : va_up (jR S h) k v j = jR S h j := by simp [va_up, hj]
    rw [e2]; rfl
theorem jC_new {cy : Nat → ClassId} {ad : Nat → Nat} {S : JS} {kd len q g : Nat} (hw : jwf S) (hX : jN S < jX) (hg : g < jN S) : jC cy (va_up ad (jN S) q) (uNew S kd len) g = jC cy ad S g := by
  have hne : g ≠ jN S := Nat.ne_of_lt hg
  have k1 : jK (uNew S kd len) g = jK S g := va_up_ne _ _ hne
  have z1 : jZ (uNew S kd len) g = jZ S g := va_up_ne _ _ hne
  have i1 : jI (uNew S kd len) g = jI S g := va_up_ne _ _ hne
  have j1 : jJ (uNew S kd len) g = jJ S g := va_up_ne _ _ hne
  have r1 : jR (uNew S kd len) g = jR S g := va_up_ne _ _ hne
  have m1 : ∀ k, (jR S g k).map (va_up ad (jN S) q) = (jR S g k).map ad := fun k => by
    cases hr : jR S g k with
    | none => rfl
    | some r =>
      have := hw g k r hg hr
      simp only [Option.map_some]
      rw [va_up_ne _ _ (by unfold jX at *; omega)]
  have e2 : ∀ t k, jF (va_up ad (jN S) q) (uNew S kd len) g t k = jF ad S g t k := fun t k => by
    unfold jF; rw [i1, j1, r1, m1]
  simp only [jC, k1, z1, i1, j1, r1, e2, m1]
theorem jwf_uI {S : JS} {h i : Nat} {v : Int32} (hw : jwf S) : jwf (uI S h i v) := hw
theorem jwf_uIf {S : JS} {h : Nat} {f : Nat → Int32} (hw : jwf S) : jwf (uIf S h f) := hw
theorem jwf_uJ {S : JS} {h i : Nat} {v : Int64} (hw : jwf S) : jwf (uJ S h i v) := hw
theorem jwf_uR {S : JS} {h i : Nat} {v : Option Nat} (hw : jwf S) (hv : ∀ r, v = some r → r < jN S ∨ jX ≤ r) : jwf (uR S h i v) := by
  intro g k r hg hr
  have hr : va_up (jR S) h (va_up (jR S h) i v) g k = some r := hr
  by_cases e : g = h
  · subst e
    simp only [va_up, if_true] at hr
    by_cases e2 : k = i
    · simp only [e2, if_true] at hr; exact hv r hr
    · simp only [e2, if_false] at hr; exact hw g k r hg hr
  · rw [va_up_ne _ _ e] at hr; exact hw g k r hg hr
theorem jwf_uNew {S : JS} {kd len : Nat} (hw : jwf S) : jwf (uNew S kd len) := by
  intro g k r hg hr
  have hr : va_up (jR S) (jN S) (fun _ => none) g k = some r := hr
  have hg : g < jN S + 1 := hg
  show r < jN S + 1 ∨ _
  by_cases e : g = jN S
  · subst e; simp [va_up] at hr
  · rw [va_up_ne _ _ e] at hr
    have := hw g k r (by omega) hr
    omega
