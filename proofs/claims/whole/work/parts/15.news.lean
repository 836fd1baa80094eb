/-! NEW CELLS, REFERENCES OUT OF ARRAYS, THE TABLE, THE SCRIPT over the machine -/
theorem jwf_le {S : JS} {ad : Nat → Nat} {q kd len : Nat} (hX : jN S < 1000000) : ∀ r, r < jN S ∨ jX ≤ r → va_up ad (jN S) q r = ad r := by
  intro r hr
  refine va_up_ne _ _ ?_
  unfold jX at hr
  omega
theorem jdef (c : Nat) (k : Nat) : defaultValue (jTy c k) = (if ftc c k = 1 then .long 0 else if ftc c k = 2 then .null else .int 0) ∨ True := Or.inr trivial
theorem jdefault : ∀ c, c < 13 → ∀ k, k < fnum c → defaultValue (jTy c k) = (if ftc c k = 1 then .long 0 else if ftc c k = 2 then .null else .int 0) := by decide +kernel
section JS6
variable {p : Program} {l : Launch} {e : Env} {R : Room} {s : State} {m : MethodId} {args : Array Value} {below : List Frame} {meth : Method} {c : Code} {E : JE} {M : JM} {ad0 : Nat → Nat} {n0 : Nat} {Qf : State → Prop}
theorem jK_new (S : JS) (kd len : Nat) : jK (uNew S kd len) (jN S) = kd := by simp [uNew, jK, va_up]
theorem jZ_new (S : JS) (kd len : Nat) : jZ (uNew S kd len) (jN S) = len := by simp [uNew, jZ, va_up]
theorem jI_new (S : JS) (kd len : Nat) : jI (uNew S kd len) (jN S) = fun _ => 0 := by simp [uNew, jI, va_up]
theorem jJ_new (S : JS) (kd len : Nat) : jJ (uNew S kd len) (jN S) = fun _ => 0 := by simp [uNew, jJ, va_up]
theorem jR_new (S : JS) (kd len : Nat) : jR (uNew S kd len) (jN S) = fun _ => none := by simp [uNew, jR, va_up]
theorem jPool_new {ad : Nat → Nat} {S : JS} {H1 : Heap} {q kd len : Nat} {e : va_E} {H : Heap} (hP : jPool E ad S H) (hX : jN S < 1000000) (he : jC E.cy (va_up ad (jN S) q) (uNew S kd len) (jN S) = e) (h1 : va_P E.D vwCl (jW E.cy ad S ++ [(q, e)]) H1) (h2 : va_D E.A (jW E.cy ad S ++ [(q, e)])) : jPool E (va_up ad (jN S) q) (uNew S kd len) H1 := by
  have hX2 : jN S < jX := by unfold jX; omega
  rw [jW_new rfl he (fun g hg => jC_new hP.2.2.1 hX2 hg)] at h1 h2
  refine ⟨h1, h2, jwf_uNew hP.2.2.1, ?_, fun i hi => ?_⟩
  · rw [va_up_ne _ _ (by unfold jX at *; omega)]; exact hP.2.2.2.1
  · rw [va_up_ne _ _ (by unfold jX at *; omega)]; exact hP.2.2.2.2 i hi
set_option maxHeartbeats 4000000 in
theorem jsnd_new (hC : jCx p s m args meth c R E M) {i : Nat} {t : JIt} (hi : M.its[i]? = some t) {lv : JL} {st : List Value} {S : JS} {rc rs idx : Nat} (hq : t.ins = .new idx) (g1 : 1 ≤ rc) (g2 : fnum t.a ≤ rs) (g3 : jN S < 1000000)
    (h : jWC p l e R s m args below meth c E M ad0 n0 Qf (i + 1, lv, .ref (jN S) :: st, uNew S t.a (fnum t.a), rc - 1, rs - fnum t.a)) : jWC p l e R s m args below meth c E M ad0 n0 Qf (i, lv, st, S, rc, rs) := by
  obtain ⟨hx, hb, hml, hown, hts, hE, hz, hnm, hfr, hlo, hmk⟩ := hC
  have hk := jMok_at hmk hi
  have hon := jMok_own hmk
  intro ad H locs ls cells slots hP hS hl hlo2 hso he hn hc hsl
  simp only at hP hl hlo2 hso hn hc hsl ⊢
  rw [jpc_at hi]
  obtain ⟨pc, ins, len, a, b, v, w, tl⟩ := t
  unfold jchk at hk
  rw [Bool.and_eq_true, Bool.and_eq_true, Bool.and_eq_true] at hk
  obtain ⟨⟨⟨hd, hnx⟩, hln⟩, hk⟩ := hk
  have hd := of_decide_eq_true hd
  try simp only at hq g2 h
  subst hq
  have hln2 : len = 3 := by simpa [jln] using hln
  subst hln2
  have hnx2 : jpc M (i + 1) = pc + 3 := by simpa [jthru] using hnx
  simp only [jck1, Bool.and_eq_true, decide_eq_true_eq] at hk
  obtain ⟨k1, k2⟩ := hk
  have g2 : fnum a ≤ rs := g2
  have hw := hts _ (jNL_ok _ (jmem3_of k1))
  unfold jNLw at hw
  simp only at hw
  rw [← hon] at hw
  obtain ⟨c1, c2, c3, c4⟩ := jcls a k2
  have hmem : a ∈ List.range 13 := List.mem_range.mpr k2
  have w1 := hts _ (jINS_ok a (by exact hmem))
  have w2 := hts _ (jICL_ok a (by exact hmem))
  have hfs : ∀ j, j < fnum a → defaultValue (jTy a j) = vp_V ((List.range (fnum a)).map fun k => jF ad0 (uNew S a (fnum a)) (jN S) (ftc a k) k) j := by
    intro j hj
    rw [jdefault a k2 j hj]
    simp [vp_V, hj, jF, jI_new, jJ_new, jR_new, va_rf]
  refine va_new (fs := (List.range (fnum a)).map fun k => jF ad0 (uNew S a (fnum a)) (jN S) (ftc a k) k) (C := jRX a) (T := jT a) (N := fnum a) hx hb hts c2 (jTy a) c3 hown hw w1 w2 hE.1 hP.1 hP.2.1 hS (fun q hq2 => Nat.le_trans hz hq2) c1 hfs (by omega) (by omega) hd (fun q H1 hP1 hD1 hS1 => ?_)
  have hC2 : jC E.cy (va_up ad (jN S) q) (uNew S a (fnum a)) (jN S) = .inr (a, (List.range (fnum a)).map fun k => jF ad0 (uNew S a (fnum a)) (jN S) (ftc a k) k) := by
    rw [jC_obj (jK_new S a (fnum a)) k2]
    congr 2
    apply List.map_congr_left
    intro j _
    simp only [jF, jR_new, jI_new, jJ_new]
    rfl
  have hext := jwf_le (S := S) (ad := ad) (q := q) (kd := 0) (len := 0) g3
  have h2 := h (va_up ad (jN S) q) H1 locs ls (cells + 1) (slots + fnum a) (jPool_new hP g3 hC2 hP1 hD1) hS1 (jlh_ext hext hlo2 hl) (jlo_le (Nat.le_succ _) hlo2) (jso_cons (fun r er => by cases er; exact Or.inl (Nat.lt_succ_self _)) (jso_le (Nat.le_succ _) hso)) (fun r hr => by rw [hext r (hr.imp (fun z => by omega) id)]; exact he r hr) (Nat.le_succ_of_le hn) (by simp only; omega) (by show slots + fnum a + (rs - fnum a) ≤ _; omega)
  rw [hnx2] at h2
  have e1 : (Value.ref (jN S) :: st).map (jcv (va_up ad (jN S) q)) = .ref q :: st.map (jcv ad) := by
    rw [List.map_cons, jst_ext hext hso]
    simp [jcv, va_up]
  simp only at h2
  rw [e1] at h2
  exact h2
theorem jarr_default {k : Nat} (h : k = 13 ∨ k = 14 ∨ k = 15) (cy : Nat → ClassId) (ad : Nat → Nat) (S : JS) (n : Nat) : ∃ a0 : vp_A, jC cy ad (uNew S k n) (jN S) = .inl (cy k, a0) ∧ ∀ cA : ClassId, vp_cell cA a0 = arrV cA n (fun _ => defaultValue (jat k)) := by
  rcases h with rfl | rfl | rfl
  · exact ⟨(n, .inl (fun _ => 0)), by rw [jC_13 (jK_new S 13 n), jZ_new, jI_new], fun cA => rfl⟩
  · exact ⟨(n, .inr (.inl (fun _ => 0))), by rw [jC_14 (jK_new S 14 n), jZ_new, jJ_new], fun cA => rfl⟩
  · exact ⟨(n, .inl (fun _ => 0)), by rw [jC_15 (jK_new S 15 n), jZ_new, jI_new], fun cA => rfl⟩
set_option maxHeartbeats 4000000 in
theorem jsnd_newa (hC : jCx p s m args meth c R E M) {i : Nat} {t : JIt} (hi : M.its[i]? = some t) {lv : JL} {n : Int32} {st : List Value} {S : JS} {rc rs : Nat} {ty : ArrayType} (hq : t.ins = .newarray ty) (g0 : ¬ n < 0) (g4 : n.toNatClampNeg ≤ 1000000) (g1 : 1 ≤ rc) (g2 : n.toNatClampNeg ≤ rs) (g3 : jN S < 1000000)
    (h : jWC p l e R s m args below meth c E M ad0 n0 Qf (i + 1, lv, .ref (jN S) :: st, uNew S t.a n.toNatClampNeg, rc - 1, rs - n.toNatClampNeg)) : jWC p l e R s m args below meth c E M ad0 n0 Qf (i, lv, .int n :: st, S, rc, rs) := by
  obtain ⟨hx, hb, hml, hown, hts, hE, hz, hnm, hfr, hlo, hmk⟩ := hC
  have hk := jMok_at hmk hi
  intro ad H locs ls cells slots hP hS hl hlo2 hso he hn hc hsl
  simp only at hP hl hlo2 hso hn hc hsl ⊢
  rw [jpc_at hi]
  obtain ⟨pc, ins, len, a, b, v, w, tl⟩ := t
  unfold jchk at hk
  rw [Bool.and_eq_true, Bool.and_eq_true, Bool.and_eq_true] at hk
  obtain ⟨⟨⟨hd, hnx⟩, hln⟩, hk⟩ := hk
  have hd := of_decide_eq_true hd
  try simp only at hq h
  subst hq
  have hln2 : len = 2 := by simpa [jln] using hln
  subst hln2
  have hnx2 : jpc M (i + 1) = pc + 2 := by simpa [jthru] using hnx
  simp only [jck1, Bool.and_eq_true, decide_eq_true_eq] at hk
  obtain ⟨⟨k1, k2⟩, k3⟩ := hk
  have k1 : 13 ≤ a := k1
  have k2 : a < 16 := k2
  have k3 : newarray.typeOf ty = jat a := k3
  have hk3 : a = 13 ∨ a = 14 ∨ a = 15 := by omega
  have hmem : a ∈ [13, 14, 15] := by rcases hk3 with rfl | rfl | rfl <;> simp
  have w1 := hts _ (jARR_ok a hmem)
  unfold jARRw at w1
  rw [← k3] at w1
  have hcb : componentBytes (jat a) ≤ 8 := by rcases hk3 with rfl | rfl | rfl <;> decide
  obtain ⟨a0, ha1, ha2⟩ := jarr_default hk3 E.cy ad S n.toNatClampNeg
  have hkt : (jtys E.cy)[a - 13]? = some (E.cy a, jat a) := by rcases hk3 with rfl | rfl | rfl <;> rfl
  refine va_newa (a0 := a0) hx hb w1 k3 hE.1 hP.1 hP.2.1 hS (fun q hq2 => Nat.le_trans hz hq2) ha2 g0 rfl (by have := Nat.mul_le_mul g4 hcb; omega) (by omega) (by omega) hd (fun q cA H1 hK1 hP1 hD1 hS1 => ?_)
  have hcA : cA = E.cy a := by
    have q1 := (hK1.2 5 (cA, jat a) (by rfl)).2
    have q2 := (hE.1.2 (a - 13) (E.cy a, jat a) hkt).2
    rcases hk3 with rfl | rfl | rfl <;> exact Option.some.inj (q1.symm.trans q2)
  subst hcA
  have hC2 : jC E.cy (va_up ad (jN S) q) (uNew S a n.toNatClampNeg) (jN S) = .inl (E.cy a, a0) := by
    rw [← ha1]
    rcases hk3 with rfl | rfl | rfl
    · rw [jC_13 (jK_new _ _ _), jC_13 (jK_new _ _ _)]
    · rw [jC_14 (jK_new _ _ _), jC_14 (jK_new _ _ _)]
    · rw [jC_15 (jK_new _ _ _), jC_15 (jK_new _ _ _)]
  have hext := jwf_le (S := S) (ad := ad) (q := q) (kd := 0) (len := 0) g3
  have hso := jso_tail hso
  have h2 := h (va_up ad (jN S) q) H1 locs ls (cells + 1) (slots + n.toNatClampNeg) (jPool_new hP g3 hC2 hP1 hD1) hS1 (jlh_ext hext hlo2 hl) (jlo_le (Nat.le_succ _) hlo2) (jso_cons (fun r er => by cases er; exact Or.inl (Nat.lt_succ_self _)) (jso_le (Nat.le_succ _) hso)) (fun r hr => by rw [hext r (hr.imp (fun z => by omega) id)]; exact he r hr) (Nat.le_succ_of_le hn) (by simp only; omega) (by simp only; omega)
  rw [hnx2] at h2
  have e1 : (Value.ref (jN S) :: st).map (jcv (va_up ad (jN S) q)) = .ref q :: st.map (jcv ad) := by
    rw [List.map_cons, jst_ext hext hso]
    simp [jcv, va_up]
  simp only at h2
  rw [e1] at h2
  exact h2
set_option maxHeartbeats 4000000 in
theorem jsnd_newq (hC : jCx p s m args meth c R E M) {i : Nat} {t : JIt} (hi : M.its[i]? = some t) {lv : JL} {n : Int32} {st : List Value} {S : JS} {rc rs idx : Nat} (hq : t.ins = .anewarray idx) (g0 : ¬ n < 0) (g4 : n.toNatClampNeg ≤ 1000000) (g1 : 1 ≤ rc) (g2 : n.toNatClampNeg ≤ rs) (g3 : jN S < 1000000)
    (h : jWC p l e R s m args below meth c E M ad0 n0 Qf (i + 1, lv, .ref (jN S) :: st, uNew S t.a n.toNatClampNeg, rc - 1, rs - n.toNatClampNeg)) : jWC p l e R s m args below meth c E M ad0 n0 Qf (i, lv, .int n :: st, S, rc, rs) := by
  obtain ⟨hx, hb, hml, hown, hts, hE, hz, hnm, hfr, hlo, hmk⟩ := hC
  have hk := jMok_at hmk hi
  have hon := jMok_own hmk
  intro ad H locs ls cells slots hP hS hl hlo2 hso he hn hc hsl
  simp only at hP hl hlo2 hso hn hc hsl ⊢
  rw [jpc_at hi]
  obtain ⟨pc, ins, len, a, b, v, w, tl⟩ := t
  unfold jchk at hk
  rw [Bool.and_eq_true, Bool.and_eq_true, Bool.and_eq_true] at hk
  obtain ⟨⟨⟨hd, hnx⟩, hln⟩, hk⟩ := hk
  have hd := of_decide_eq_true hd
  try simp only at hq h
  subst hq
  have hln2 : len = 3 := by simpa [jln] using hln
  subst hln2
  have hnx2 : jpc M (i + 1) = pc + 3 := by simpa [jthru] using hnx
  simp only [jck1, Bool.and_eq_true, Bool.or_eq_true, beq_iff_eq] at hk
  obtain ⟨k1, k2⟩ := hk
  have k2 : a = 16 ∨ a = 17 := k2
  have hw := hts _ (jQL_ok _ (jmem3_of k1))
  unfold jQLw at hw
  simp only at hw
  rw [← hon] at hw
  have hAO : va_AO (jQN a) s := by
    rcases k2 with rfl | rfl
    · exact hE.2.2.1
    · exact hE.2.2.2.1
  refine va_newq hx hb hown hw hAO hE.1 hP.1 hP.2.1 hS (fun q hq2 => Nat.le_trans hz hq2) g0 rfl (by omega) (by omega) (by omega) hd (fun q cA H1 hK1 hP1 hD1 hS1 => ?_)
  have hcA : cA = E.cy a := by
    have q1 := (hK1.2 5 (cA, .object (jQN a)) (by rfl)).2
    have q2 := (hE.1.2 (a - 13) (E.cy a, .object (jQN a)) (jtys_1x _ k2)).2
    obtain ⟨_, _, _, _, _, z1⟩ := q1
    obtain ⟨_, _, _, _, _, z2⟩ := q2
    exact Option.some.inj (z1.symm.trans z2)
  subst hcA
  have hC2 : jC E.cy (va_up ad (jN S) q) (uNew S a n.toNatClampNeg) (jN S) = .inl (E.cy a, n.toNatClampNeg, .inr (.inr (.inr (.inr (fun _ => none))))) := by
    rw [jC_1x (jK_new _ _ _) k2, jZ_new, jR_new]
    rfl
  have hext := jwf_le (S := S) (ad := ad) (q := q) (kd := 0) (len := 0) g3
  have hso := jso_tail hso
  have h2 := h (va_up ad (jN S) q) H1 locs ls (cells + 1) (slots + n.toNatClampNeg) (jPool_new hP g3 hC2 hP1 hD1) hS1 (jlh_ext hext hlo2 hl) (jlo_le (Nat.le_succ _) hlo2) (jso_cons (fun r er => by cases er; exact Or.inl (Nat.lt_succ_self _)) (jso_le (Nat.le_succ _) hso)) (fun r hr => by rw [hext r (hr.imp (fun z => by omega) id)]; exact he r hr) (Nat.le_succ_of_le hn) (by simp only; omega) (by simp only; omega)
  rw [hnx2] at h2
  have e1 : (Value.ref (jN S) :: st).map (jcv (va_up ad (jN S) q)) = .ref q :: st.map (jcv ad) := by
    rw [List.map_cons, jst_ext hext hso]
    simp [jcv, va_up]
  simp only at h2
  rw [e1] at h2
  exact h2
end JS6
