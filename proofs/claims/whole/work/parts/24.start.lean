/-! THE LAW'S START -/
def jSI (i : Nat) : Nat := [133, 139, 141, 143, 145, 147, 149, 154, 156, 158, 160, 162, 164].getD i 0
def jStm (i : Nat) : Term := .string "RedGlass$Reader" (jSI i)
abbrev jGv : List Cond := flatC (Jvm.Cond.and given_1 narrow_1)
set_option maxRecDepth 100000 in
theorem jg_ex : ∀ i, i < 13 → Cond.exactly (jStm i) "java/lang/String" ∈ jGv := by decide +kernel
set_option maxRecDepth 100000 in
theorem jg_co : ∀ i, i < 13 → Cond.eq (.field (jStm i) "java/lang/String" "coder" "B") (.int 0) ∈ jGv := by decide +kernel
set_option maxRecDepth 100000 in
theorem jg_ar : ∀ i, i < 13 → Cond.arrayOf (.field (jStm i) "java/lang/String" "value" "[B") .byte ∈ jGv := by decide +kernel
set_option maxRecDepth 100000 in
theorem jg_le : ∀ i, i < 13 → Cond.eq (.length (.field (jStm i) "java/lang/String" "value" "[B")) (.int (Int32.ofNat (jSlen.getD i 0))) ∈ jGv := by decide +kernel
set_option maxRecDepth 100000 in
theorem jg_el : ∀ i, i < 13 → ∀ j, j < jSlen.getD i 0 → Cond.eq (.elem (.field (jStm i) "java/lang/String" "value" "[B") (.int (Int32.ofNat j))) (.int ((jSbyt.getD i []).getD j 0)) ∈ jGv := by decide +kernel
def jNi : List (List Nat) := [[0, 62, 71, 79, 88, 99, 111, 125, 138, 155, 173, 191, 209], [0, 0, 72, 80, 89, 100, 112, 126, 139, 156, 174, 192, 210], [0, 0, 0, 81, 90, 101, 113, 127, 140, 157, 175, 193, 211], [0, 0, 0, 0, 91, 102, 114, 128, 141, 158, 176, 194, 212], [0, 0, 0, 0, 0, 103, 115, 129, 142, 159, 177, 195, 213], [0, 0, 0, 0, 0, 0, 116, 130, 143, 160, 178, 196, 214], [0, 0, 0, 0, 0, 0, 0, 131, 144, 161, 179, 197, 215], [0, 0, 0, 0, 0, 0, 0, 0, 145, 162, 180, 198, 216], [0, 0, 0, 0, 0, 0, 0, 0, 0, 163, 181, 199, 217], [0, 0, 0, 0, 0, 0, 0, 0, 0, 0, 182, 200, 218], [0, 0, 0, 0, 0, 0, 0, 0, 0, 0, 0, 201, 219], [0, 0, 0, 0, 0, 0, 0, 0, 0, 0, 0, 0, 220], [0, 0, 0, 0, 0, 0, 0, 0, 0, 0, 0, 0, 0]]
set_option maxRecDepth 100000 in
theorem jg_n0 : ∀ j, j < 13 → 0 < j → jGv[(jNi.getD 0 []).getD j 0]? = some (Cond.not (Cond.eq (jStm 0) (jStm j))) := by decide +kernel
set_option maxRecDepth 100000 in
theorem jg_n1 : ∀ j, j < 13 → 1 < j → jGv[(jNi.getD 1 []).getD j 0]? = some (Cond.not (Cond.eq (jStm 1) (jStm j))) := by decide +kernel
set_option maxRecDepth 100000 in
theorem jg_n2 : ∀ j, j < 13 → 2 < j → jGv[(jNi.getD 2 []).getD j 0]? = some (Cond.not (Cond.eq (jStm 2) (jStm j))) := by decide +kernel
set_option maxRecDepth 100000 in
theorem jg_n3 : ∀ j, j < 13 → 3 < j → jGv[(jNi.getD 3 []).getD j 0]? = some (Cond.not (Cond.eq (jStm 3) (jStm j))) := by decide +kernel
set_option maxRecDepth 100000 in
theorem jg_n4 : ∀ j, j < 13 → 4 < j → jGv[(jNi.getD 4 []).getD j 0]? = some (Cond.not (Cond.eq (jStm 4) (jStm j))) := by decide +kernel
set_option maxRecDepth 100000 in
theorem jg_n5 : ∀ j, j < 13 → 5 < j → jGv[(jNi.getD 5 []).getD j 0]? = some (Cond.not (Cond.eq (jStm 5) (jStm j))) := by decide +kernel
set_option maxRecDepth 100000 in
theorem jg_n6 : ∀ j, j < 13 → 6 < j → jGv[(jNi.getD 6 []).getD j 0]? = some (Cond.not (Cond.eq (jStm 6) (jStm j))) := by decide +kernel
set_option maxRecDepth 100000 in
theorem jg_n7 : ∀ j, j < 13 → 7 < j → jGv[(jNi.getD 7 []).getD j 0]? = some (Cond.not (Cond.eq (jStm 7) (jStm j))) := by decide +kernel
set_option maxRecDepth 100000 in
theorem jg_n8 : ∀ j, j < 13 → 8 < j → jGv[(jNi.getD 8 []).getD j 0]? = some (Cond.not (Cond.eq (jStm 8) (jStm j))) := by decide +kernel
set_option maxRecDepth 100000 in
theorem jg_n9 : ∀ j, j < 13 → 9 < j → jGv[(jNi.getD 9 []).getD j 0]? = some (Cond.not (Cond.eq (jStm 9) (jStm j))) := by decide +kernel
set_option maxRecDepth 100000 in
theorem jg_n10 : ∀ j, j < 13 → 10 < j → jGv[(jNi.getD 10 []).getD j 0]? = some (Cond.not (Cond.eq (jStm 10) (jStm j))) := by decide +kernel
set_option maxRecDepth 100000 in
theorem jg_n11 : ∀ j, j < 13 → 11 < j → jGv[(jNi.getD 11 []).getD j 0]? = some (Cond.not (Cond.eq (jStm 11) (jStm j))) := by decide +kernel
theorem jg_lt : ∀ i, i < 13 → ∀ j, j < 13 → i < j → Cond.not (Cond.eq (jStm i) (jStm j)) ∈ jGv := by
  intro i hi j hj hij
  match i, hi, hij with
  | 0, _, h => exact List.mem_of_getElem? (jg_n0 j hj h)
  | 1, _, h => exact List.mem_of_getElem? (jg_n1 j hj h)
  | 2, _, h => exact List.mem_of_getElem? (jg_n2 j hj h)
  | 3, _, h => exact List.mem_of_getElem? (jg_n3 j hj h)
  | 4, _, h => exact List.mem_of_getElem? (jg_n4 j hj h)
  | 5, _, h => exact List.mem_of_getElem? (jg_n5 j hj h)
  | 6, _, h => exact List.mem_of_getElem? (jg_n6 j hj h)
  | 7, _, h => exact List.mem_of_getElem? (jg_n7 j hj h)
  | 8, _, h => exact List.mem_of_getElem? (jg_n8 j hj h)
  | 9, _, h => exact List.mem_of_getElem? (jg_n9 j hj h)
  | 10, _, h => exact List.mem_of_getElem? (jg_n10 j hj h)
  | 11, _, h => exact List.mem_of_getElem? (jg_n11 j hj h)
  | i + 12, h, h2 => exact absurd h2 (by omega)
theorem jg_ne : ∀ i, i < 13 → ∀ j, j < 13 → i ≠ j → Cond.not (Cond.eq (jStm i) (jStm j)) ∈ jGv ∨ Cond.not (Cond.eq (jStm j) (jStm i)) ∈ jGv := by
  intro i hi j hj hij
  rcases Nat.lt_or_gt_of_ne hij with h | h
  · exact Or.inl (jg_lt i hi j hj h)
  · exact Or.inr (jg_lt j hj i hi h)
set_option maxRecDepth 100000 in
theorem jg_w1 : Cond.arrayOf (.static "RedGlass$Rounds" "WITHOUT" "[J") .long ∈ jGv := by decide +kernel
set_option maxRecDepth 100000 in
theorem jg_w2 : Cond.eq (.length (.static "RedGlass$Rounds" "WITHOUT" "[J")) (.int (Int32.ofNat 6)) ∈ jGv := by decide +kernel
set_option maxRecDepth 100000 in
theorem jg_w3 : ∀ j, j < 6 → Cond.eq (.elem (.static "RedGlass$Rounds" "WITHOUT" "[J") (.int (Int32.ofNat j))) (.long (jTW j)) ∈ jGv := by decide +kernel
set_option maxRecDepth 100000 in
theorem jg_cs : Cond.eq (.static "java/lang/String" "COMPACT_STRINGS" "Z") (.int 1) ∈ jGv := by decide +kernel
set_option maxRecDepth 100000 in
theorem jg_sf : Cond.isRef (.static "jdk/internal/util/Preconditions" "SIOOBE_FORMATTER" "Ljava/util/function/BiFunction;") ∈ jGv := by decide +kernel
set_option maxRecDepth 100000 in
theorem jt_ne : ∀ e ∈ jNE, jNEw e ∈ lw_tbl := by decide +kernel
set_option maxRecDepth 100000 in
theorem jt_sr : ∀ e ∈ jSL5, Cond.stringRef (jON e.1) e.2.1 (jST e.2.2) ∈ lw_tbl := by decide +kernel
set_option maxRecDepth 100000 in
theorem jt_si : ∀ e ∈ jSL5, e.2.2 < 13 ∧ Term.string (jON e.1) e.2.1 = jStm e.2.2 := by decide +kernel
set_option maxRecDepth 100000 in
theorem jt_m1 : Cond.arrayOver (.object "RedGlass$Law") ∈ lw_tbl := by decide +kernel
set_option maxRecDepth 100000 in
theorem jt_m2 : Cond.arrayOver (.object "RedGlass$World") ∈ lw_tbl := by decide +kernel
set_option maxRecDepth 100000 in
theorem jt_m3 : Cond.laysStatic "RedGlass$Rounds" "WITHOUT" "[J" ∈ lw_tbl := by decide +kernel
set_option maxRecDepth 100000 in
theorem jt_m4 : Cond.initialized "RedGlass$Rounds" ∈ lw_tbl := by decide +kernel
set_option maxRecDepth 100000 in
theorem jt_m5 : Cond.laysStatic "java/lang/String" "COMPACT_STRINGS" "Z" ∈ lw_tbl := by decide +kernel
set_option maxRecDepth 100000 in
theorem jt_m6 : Cond.initialized "java/lang/String" ∈ lw_tbl := by decide +kernel
set_option maxRecDepth 100000 in
theorem jt_m7 : Cond.laysStatic "jdk/internal/util/Preconditions" "SIOOBE_FORMATTER" "Ljava/util/function/BiFunction;" ∈ lw_tbl := by decide +kernel
set_option maxRecDepth 100000 in
theorem jt_m8 : Cond.initialized "jdk/internal/util/Preconditions" ∈ lw_tbl := by decide +kernel
set_option maxRecDepth 100000 in
theorem jt_m9 : Cond.castable "[I" "java/lang/Cloneable" ∈ lw_tbl := by decide +kernel
theorem jBIG_tbl {w : Cond} (h : w ∈ jBIG) : w ∈ lw_tbl := (List.mem_filter.mp h).1
set_option maxHeartbeats 4000000 in
theorem jenv_of {s : State} {b : Nat} (hts : ∀ w ∈ lw_tbl, w.before #[Value.ref b] s = true) (hgv : (Jvm.Cond.and given_1 narrow_1).before #[Value.ref b] s = true) : ∃ E : JE, E.z = s.heap.size ∧ jEnv E s s.heap := by
  have hg := flat_of_before _ hgv
  have hA : ∀ a : Nat, a < s.heap.size → ¬ (fun q : Nat => s.heap.size ≤ q) a := fun a h z => Nat.not_le.mpr h z
  -- classes
  have hK0 : ∀ k, ∃ q : ClassId × (Nat → Nat), k < 13 → u_Kn s (jRX k) (jT k) (fnum k) q.1 q.2 := by
    intro k
    by_cases hk : k < 13
    · obtain ⟨c1, c2, c3, c4⟩ := jcls k hk
      obtain ⟨cC, iS, h⟩ := u_known (n := fnum k) hts (fun w hw => jBIG_tbl (c2 w hw)) (hts _ (jBIG_tbl (jINS_ok k (List.mem_range.mpr hk))))
      exact ⟨(cC, iS), fun _ => h⟩
    · exact ⟨(0, fun _ => 0), fun h => absurd h hk⟩
  obtain ⟨dq, hdq⟩ := Classical.axiomOfChoice hK0
  -- arrays
  have hR0 : ∀ k, ∃ cA : ClassId, 13 ≤ k → k < 18 → ∃ ty, (jtys (fun _ => cA))[k - 13]? = some (cA, ty) ∧ ArrOfT s cA ty ∧ va_RA s cA ty := by
    intro k
    by_cases hk : 13 ≤ k ∧ k < 18
    · have h5 : k = 13 ∨ k = 14 ∨ k = 15 ∨ k = 16 ∨ k = 17 := by omega
      have prim : ∀ (ty : FieldType), Cond.arrayClass ty ∈ jBIG → ∃ cA kA comp, s.vm.findClass ("[" ++ ty.toString) = some cA ∧ s.vm.classes[cA]? = some kA ∧ kA.kind = .array comp ty := fun ty h => Cond.arrayClass_spec (hts _ (jBIG_tbl h))
      have obj : ∀ (C : String), Cond.arrayOver (.object C) ∈ lw_tbl → ∃ cA, ArrOfT s cA (.object C) ∧ va_RA s cA (.object C) := by
        intro C h
        obtain ⟨comp, cA, kA, f1, f2, f3, f4, f5⟩ := Cond.arrayOver_spec (hts _ h)
        exact ⟨cA, fun N z => ⟨(fun k h => by cases h), kA, f3, comp, f4⟩, kA, comp, f3, f4, f1, f5⟩
      rcases h5 with rfl | rfl | rfl | rfl | rfl
      · obtain ⟨cA, kA, comp, h1, h2, h3⟩ := prim .int (jARR_ok 13 (by simp [jARR]))
        exact ⟨cA, fun _ _ => ⟨.int, rfl, fun N z => ⟨(fun k h => by cases h), kA, h2, comp, h3⟩, h1⟩⟩
      · obtain ⟨cA, kA, comp, h1, h2, h3⟩ := prim .long (jARR_ok 14 (by simp [jARR]))
        exact ⟨cA, fun _ _ => ⟨.long, rfl, fun N z => ⟨(fun k h => by cases h), kA, h2, comp, h3⟩, h1⟩⟩
      · obtain ⟨cA, kA, comp, h1, h2, h3⟩ := prim .boolean (jARR_ok 15 (by simp [jARR]))
        exact ⟨cA, fun _ _ => ⟨.boolean, rfl, fun N z => ⟨(fun k h => by cases h), kA, h2, comp, h3⟩, h1⟩⟩
      · obtain ⟨cA, h1, h2⟩ := obj _ jt_m1
        exact ⟨cA, fun _ _ => ⟨_, rfl, h1, h2⟩⟩
      · obtain ⟨cA, h1, h2⟩ := obj _ jt_m2
        exact ⟨cA, fun _ _ => ⟨_, rfl, h1, h2⟩⟩
    · exact ⟨0, fun h1 h2 => absurd ⟨h1, h2⟩ hk⟩
  obtain ⟨cy, hcy⟩ := Classical.axiomOfChoice hR0
  -- the table and the strings
  obtain ⟨tW, ht1, ht2⟩ := va_Tof (N := 6) (f := fun j => .long (jTW j)) (A := fun q : Nat => s.heap.size ≤ q) (by decide) (hg _ jg_w1) (va_eqt (hg _ jg_w2)) (fun j hj => va_eqtl (hg _ (jg_w3 j hj))) hA
  obtain ⟨aK, aV, hSt, hSe⟩ := vk_Sof (N := 13) (tm := jStm) (len := jSlen) (byt := jSbyt) (A := fun q : Nat => s.heap.size ≤ q) (by decide +kernel) (fun i hi => hg _ (jg_ex i hi)) (fun i hi => hg _ (jg_co i hi)) (fun i hi => hg _ (jg_ar i hi)) (fun i hi => hg _ (jg_le i hi)) (fun i hi j hj => hg _ (jg_el i hi j hj)) (fun i j hi hj hij => (jg_ne i hi j hj hij).imp (fun z => hg _ z) (fun z => hg _ z)) hA
  refine ⟨((fun k => (dq k).1, fun k => (dq k).2), cy, s.heap.size, tW, aK, aV), rfl, ⟨?_, ?_⟩, ?_, ?_, ?_, ?_, ht2, ?_, hSt, ?_, ?_, ?_⟩
  · intro k q hq
    have hk : k < 13 := by
      have := (List.getElem?_eq_some_iff.mp hq).1
      simpa [vwCl] using this
    have h1 := (jcls k hk).1
    rw [h1] at hq
    cases hq
    exact hdq k hk
  · intro k q hq
    have hk : k < 5 := by
      have := (List.getElem?_eq_some_iff.mp hq).1
      simpa [jtys] using this
    obtain ⟨ty, e1, e2, e3⟩ := hcy (k + 13) (by omega) (by omega)
    have e4 : q = (cy (k + 13), ty) := by
      have h5 : k = 0 ∨ k = 1 ∨ k = 2 ∨ k = 3 ∨ k = 4 := by omega
      rcases h5 with rfl | rfl | rfl | rfl | rfl <;> (simp [jtys] at e1 hq; rw [← hq, ← e1])
    rw [e4]
    exact ⟨e2, e3⟩
  · exact fun e he => va_Nw.of rfl (hts _ (jt_ne e he))
  · exact va_AO.of (hts _ jt_m1)
  · exact va_AO.of (hts _ jt_m2)
  · exact va_Zof (hts _ jt_m3) (hts _ jt_m4) ht1 hA
  · intro e he
    obtain ⟨h1, h2⟩ := jt_si e he
    refine vk_R.of (hts _ (jt_sr e he)) ?_
    rw [h2]
    exact hSe _ h1
  · exact va_Zof (hts _ jt_m5) (hts _ jt_m6) (va_eqi (hg _ jg_cs)) hA
  · exact va_Zqof (hts _ jt_m7) (hts _ jt_m8) (hg _ jg_sf) hA
  · exact va_Nw.of rfl (hts _ jt_m9)
def jS0 : JS := (0, fun _ => 99, fun _ => 0, fun _ _ => 0, fun _ _ => 0, fun _ _ => none)
/-- what is owed of the abstract machine: the law answers 1 -/
def jLawGoal (bud : Nat → Nat × Nat) (D : Nat) : Prop := ∀ (L : Nat) (xs : Nat → Int32), L ≤ 3072 → jLf (jCall jmt bud D) bud (fun j => (jmt j).rk) (some (L, xs)) mL_law (fun v _ => v = some (.int 1)) (0, jargs 4 [.ref jX], [], jS0, 600000, 7302250)
set_option maxHeartbeats 4000000 in
theorem jret_law {p : Program} {l : Launch} {e : Env} {s : State} {m : MethodId} {below : List Frame} {meth : Method} {c : Code} {E : JE} {b : Nat} {ad0 : Nat → Nat} {n0 : Nat} (hC : jCx p s m #[Value.ref b] meth c room_1 E mL_law) (hz : E.z = s.heap.size) (hr : meth.sig.returnType = ret) (hlocks : meth.locks = false) : jRetOK p l e room_1 s m #[Value.ref b] below meth c E mL_law ad0 n0 (lw_Z below #[Value.ref b] s) (fun v _ => v = some (.int 1)) := by
  obtain ⟨hx, hb, hml, hown, hts, hE, hz0, hnm, hfr, hlo, hmk⟩ := hC
  intro i t lv S rc rs hi
  have hk := jMok_at hmk hi
  obtain ⟨pc, ins, len, a, b2, v0, w, tl⟩ := t
  unfold jchk at hk
  rw [Bool.and_eq_true, Bool.and_eq_true, Bool.and_eq_true] at hk
  obtain ⟨⟨⟨hd, hnx⟩, hln⟩, hk⟩ := hk
  have hd := of_decide_eq_true hd
  refine ⟨fun v hins hrt hq => ?_, fun hins hrt hq => by cases hq⟩
  cases hq
  intro ad H locs ls cells slots hP hS hl hlo2 hso he hn hc hsl
  simp only at hP hl hlo2 hso hn hc hsl ⊢
  rw [jpc_at hi]
  have hins2 : ins = .ireturn := by
    rcases hins with h | h | h
    · exact h
    · have h : ins = .lreturn := h
      subst h
      have : mL_law.ret = some .long := by simpa [jck1] using hk
      cases this
    · have h : ins = .areturn := h
      subst h
      simp only [jck1] at hk
      cases hk
  subst hins2
  have hln2 : len = 1 := by simpa [jln] using hln
  subst hln2
  refine va_forget (fun q hq => ?_) ?_
  · have := hS.2.2 q hq
    show s.heap.size ≤ q.base
    rw [← hz]
    exact this
  refine W.widen (k := 600000) (n := 7302250) (by have : cells + rc ≤ 600000 := hc; omega) (by have : slots + rs ≤ 7302250 := hsl; omega) ?_
  exact lw_ret hx hb hr hlocks hd
set_option maxHeartbeats 4000000 in
theorem whole_of {bud : Nat → Nat × Nat} {D : Nat} (hgoal : jLawGoal bud D) (hD : D ≤ 500) {p : Program} {e : Env} {s : State} {m : MethodId} {below : List Frame} {meth : Method} {c : Code} (l : Launch) {b L : Nat} {xs : Nat → Int32} (hL : L ≤ 3072) (C0 : lw_At p s m meth c b L xs) : W p l e room_1 s m #[Value.ref b] below meth c s.heap [] 0 0 (lw_Z below #[Value.ref b] s) (entryFrame m ([Value.ref b] : List Value).toArray 4) := by
  obtain ⟨hx, hb, hr, hml, hown, hts, hX, hbl, hlocks, hgv⟩ := C0
  obtain ⟨E, hz, hE⟩ := jenv_of hts hgv
  have hC : jCx p s m #[Value.ref b] meth c room_1 E mL_law := ⟨hx, hb, hml, hown, fun w hw => hts _ (jBIG_tbl hw), hE, by rw [hz]; exact Nat.le_refl _, fun h => absurd h (by decide), by decide, by decide, okL_law⟩
  obtain ⟨ad0, had⟩ : ∃ ad0 : Nat → Nat, ad0 = fun r => if r = jX then b else if r = jX + 1 then E.tW else E.aK (r - (jX + 10)) := ⟨_, rfl⟩
  have a0 : ad0 jX = b := by rw [had]; simp
  have a1 : ad0 (jX + 1) = E.tW := by rw [had]; simp
  have a2 : ∀ i, i < 13 → ad0 (jX + 10 + i) = E.aK i := fun i hi => by
    rw [had]
    simp only
    rw [if_neg (by omega), if_neg (by omega), show jX + 10 + i - (jX + 10) = i by omega]
  obtain ⟨ls, e1, hl⟩ := jentry (ad := ad0) (vs := [.ref jX]) (n := 4) (by decide) m
  have e2 : ([Value.ref jX].map (jcv ad0)).toArray = ([Value.ref b] : List Value).toArray := by simp [jcv, a0]
  rw [e2] at e1
  rw [e1]
  have hW := jsnd_L (l := l) (e := e) (below := below) (ad0 := ad0) (n0 := 0) (d := D) hC ⟨by show D + 9 ≤ 2048; omega, by show 64 * (D + 9) ≤ 84000; omega⟩ (jmet l E bud jok_all D) (X := some (L, xs)) (fun L2 xs2 h => by
    cases h
    rw [a0]
    exact ⟨hX, hbl, fun z => by have : E.z ≤ b := z; omega⟩) (jret_law hC hz hr hlocks) (hgoal L xs hL)
  have hpool : jPool E ad0 jS0 s.heap := ⟨fun k q h => by simp [jW, jS0, jN] at h, ⟨fun i j p q h => by simp [jW, jS0, jN] at h, fun k q h => by simp [jW, jS0, jN] at h⟩, fun h k r hh => by simp [jS0, jN] at hh, a1, a2⟩
  have h2 := hW ad0 s.heap [] ls 0 0 hpool va_S.rf hl (fun i v hi => by
    have := jargs_in _ _ _ (jargs_get hi)
    simp at this
    subst this
    exact fun r er => by cases er; exact Or.inr (Nat.le_refl _)) (fun v hv => by cases hv) (fun _ _ => rfl) (Nat.zero_le _) (by decide) (by decide)
  exact h2
