/-! REFERENCES OUT OF ARRAYS, THE TABLE, THE SCRIPT, clone, checkcast over the machine -/
section JS8
variable {p : Program} {l : Launch} {e : Env} {R : Room} {s : State} {m : MethodId} {args : Array Value} {below : List Frame} {meth : Method} {c : Code} {E : JE} {M : JM} {ad0 : Nat → Nat} {n0 : Nat} {Qf : State → Prop}
set_option maxHeartbeats 4000000 in
theorem jsnd_aald (hC : jCx p s m args meth c R E M) {i : Nat} {t : JIt} (hi : M.its[i]? = some t) {lv : JL} {k : Int32} {g : Nat} {r : List Value} {S : JS} {rc rs : Nat} (hq : t.ins = .aaload) (hA : jA S g t.a) (hin : vp_in k (jZ S g))
    (h1 : jR S g k.toNatClampNeg = none → jWC p l e R s m args below meth c E M ad0 n0 Qf (i + 1, lv, .null :: r, S, rc, rs)) (h2 : ¬ jR S g k.toNatClampNeg = none → jWC p l e R s m args below meth c E M ad0 n0 Qf (i + 1, lv, .ref (jr S g k.toNatClampNeg) :: r, S, rc, rs)) : jWC p l e R s m args below meth c E M ad0 n0 Qf (i, lv, .int k :: .ref g :: r, S, rc, rs) := by
  obtain ⟨hx, hb, hml, hown, hts, hE, hz, hnm, hfr, hlo, hmk⟩ := hC
  have hk := jMok_at hmk hi
  intro ad H locs ls cells slots hP hS hl hlo2 hso he hn hc hsl
  simp only at hP hl hlo2 hso hn hc hsl ⊢
  rw [jpc_at hi]
  obtain ⟨pc, ins, len, a, b, v, w, tl⟩ := t
  unfold jchk at hk
  rw [Bool.and_eq_true, Bool.and_eq_true, Bool.and_eq_true] at hk
  obtain ⟨⟨⟨hd, hnx⟩, hln⟩, hk⟩ := hk
  have hd := of_decide_eq_true hd
  try simp only at hq hA
  subst hq
  have hln2 : len = 1 := by simpa [jln] using hln
  subst hln2
  have hnx2 : jpc M (i + 1) = pc + 1 := by simpa [jthru] using hnx
  have ha : a = 16 ∨ a = 17 := by simpa [jck1] using hk
  have hA : jA S g a := hA
  refine va_aldq hx hb hE.1 hP.1 g (a - 13) ((jW_at hA.1).trans (by rw [jC_1x hA.2 ha])) (jtys_1x _ ha) hin hd ?_
  have hso2 := jso_tail (jso_tail hso)
  cases hr : jR S g k.toNatClampNeg with
  | none =>
    have h3 := h1 hr ad H locs ls cells slots hP hS hl hlo2 (jso_cons (jok_null _) hso2) he hn hc hsl
    rw [hnx2] at h3
    exact h3
  | some x =>
    have h3 := h2 (by rw [hr]; simp) ad H locs ls cells slots hP hS hl hlo2 (jso_cons (fun q eq => by
      cases eq
      have := hP.2.2.1 g k.toNatClampNeg x hA.1 hr
      simpa [jr, hr] using this) hso2) he hn hc hsl
    rw [hnx2] at h3
    have e1 : jr S g k.toNatClampNeg = x := by simp [jr, hr]
    rw [e1] at h3
    exact h3
set_option maxHeartbeats 4000000 in
theorem jsnd_gets (hC : jCx p s m args meth c R E M) {i : Nat} {t : JIt} (hi : M.its[i]? = some t) {lv : JL} {st : List Value} {S : JS} {rc rs idx : Nat} (hq : t.ins = .getstatic idx)
    (h : jWC p l e R s m args below meth c E M ad0 n0 Qf (i + 1, lv, .ref (jX + 1) :: st, S, rc, rs)) : jWC p l e R s m args below meth c E M ad0 n0 Qf (i, lv, st, S, rc, rs) := by
  obtain ⟨hx, hb, hml, hown, hts, hE, hz, hnm, hfr, hlo, hmk⟩ := hC
  have hk := jMok_at hmk hi
  have hon := jMok_own hmk
  intro ad H locs ls cells slots hP hS hl hlo2 hso he hn hc hsl
  simp only at hP hl hlo2 hso hn hc hsl ⊢
  rw [jpc_at hi]
  obtain ⟨pc, ins, len, a, b, v, w, tl⟩ := t
  unfold jchk at hk
  rw [Bool.and_eq_true, Bool.and_eq_true, Bool.and_eq_true] at hk
  obtain ⟨⟨⟨hd, hnx⟩, hln⟩, hk⟩ := hk
  have hd := of_decide_eq_true hd
  try simp only at hq
  subst hq
  have hln2 : len = 3 := by simpa [jln] using hln
  subst hln2
  have hnx2 : jpc M (i + 1) = pc + 3 := by simpa [jthru] using hnx
  simp only [jck1, Bool.and_eq_true, beq_iff_eq] at hk
  obtain ⟨k1, rfl⟩ := hk
  rw [k1] at hon
  have hown : s.vm.findClass RX6 = some m.cls := by rw [hon] at hown; exact hown
  have h3 := h ad H locs ls cells slots hP hS hl hlo2 (jso_cons (fun q eq => by cases eq; exact Or.inr (Nat.le_add_right _ _)) hso) he hn hc hsl
  rw [hnx2] at h3
  have e1 : (Value.ref (jX + 1) :: st).map (jcv ad) = .ref E.tW :: st.map (jcv ad) := by
    rw [List.map_cons]; simp only [jcv]; rw [hP.2.2.2.1]
  simp only at h3
  rw [e1] at h3
  exact va_gets hx hb hE.2.2.2.2.1 hS hown (hts _ jw_wi) (fun _ z => z) hd h3
set_option maxHeartbeats 4000000 in
theorem jsnd_tab (hC : jCx p s m args meth c R E M) {i : Nat} {t : JIt} (hi : M.its[i]? = some t) {lv : JL} {k : Int32} {g : Nat} {r : List Value} {S : JS} {rc rs : Nat} (hq : t.ins = .laload) (hg : g = jX + 1) (hin : vp_in k 6)
    (h : jWC p l e R s m args below meth c E M ad0 n0 Qf (i + 1, lv, .long (jTW k.toNatClampNeg) :: r, S, rc, rs)) : jWC p l e R s m args below meth c E M ad0 n0 Qf (i, lv, .int k :: .ref g :: r, S, rc, rs) := by
  obtain ⟨hx, hb, hml, hown, hts, hE, hz, hnm, hfr, hlo, hmk⟩ := hC
  have hk := jMok_at hmk hi
  intro ad H locs ls cells slots hP hS hl hlo2 hso he hn hc hsl
  simp only at hP hl hlo2 hso hn hc hsl ⊢
  rw [jpc_at hi]
  obtain ⟨pc, ins, len, a, b, v, w, tl⟩ := t
  unfold jchk at hk
  rw [Bool.and_eq_true, Bool.and_eq_true, Bool.and_eq_true] at hk
  obtain ⟨⟨⟨hd, hnx⟩, hln⟩, hk⟩ := hk
  have hd := of_decide_eq_true hd
  try simp only at hq
  subst hq
  have hln2 : len = 1 := by simpa [jln] using hln
  subst hln2
  have hnx2 : jpc M (i + 1) = pc + 1 := by simpa [jthru] using hnx
  subst hg
  have h3 := h ad H locs ls cells slots hP hS hl hlo2 (jso_cons (jok_long _ _) (jso_tail (jso_tail hso))) he hn hc hsl
  rw [hnx2] at h3
  show W p l e R s m args below meth c H locs cells slots Qf (F0 m pc ls (.int k :: .ref (ad (jX + 1)) :: r.map (jcv ad)))
  rw [hP.2.2.2.1]
  exact va_tl hx hb hE.2.2.2.2.2.1 hS hin rfl hd h3
set_option maxHeartbeats 4000000 in
theorem jsnd_scr (hC : jCx p s m args meth c R E M) {i : Nat} {t : JIt} (hi : M.its[i]? = some t) {lv : JL} {k : Int32} {g : Nat} {r : List Value} {S : JS} {rc rs L : Nat} {xs : Nat → Int32} (hX : va_X (ad0 jX) L xs s s.heap ∧ ad0 jX < s.heap.size ∧ ¬ E.A (ad0 jX)) (hq : t.ins = .iaload) (hg : g = jX) (hin : vp_in k L)
    (h : jWC p l e R s m args below meth c E M ad0 n0 Qf (i + 1, lv, .int (xs k.toNatClampNeg) :: r, S, rc, rs)) : jWC p l e R s m args below meth c E M ad0 n0 Qf (i, lv, .int k :: .ref g :: r, S, rc, rs) := by
  obtain ⟨hx, hb, hml, hown, hts, hE, hz, hnm, hfr, hlo, hmk⟩ := hC
  have hk := jMok_at hmk hi
  intro ad H locs ls cells slots hP hS hl hlo2 hso he hn hc hsl
  simp only at hP hl hlo2 hso hn hc hsl ⊢
  rw [jpc_at hi]
  obtain ⟨pc, ins, len, a, b, v, w, tl⟩ := t
  unfold jchk at hk
  rw [Bool.and_eq_true, Bool.and_eq_true, Bool.and_eq_true] at hk
  obtain ⟨⟨⟨hd, hnx⟩, hln⟩, hk⟩ := hk
  have hd := of_decide_eq_true hd
  try simp only at hq
  subst hq
  have hln2 : len = 1 := by simpa [jln] using hln
  subst hln2
  have hnx2 : jpc M (i + 1) = pc + 1 := by simpa [jthru] using hnx
  subst hg
  have h3 := h ad H locs ls cells slots hP hS hl hlo2 (jso_cons (jok_int _ _) (jso_tail (jso_tail hso))) he hn hc hsl
  rw [hnx2] at h3
  show W p l e R s m args below meth c H locs cells slots Qf (F0 m pc ls (.int k :: .ref (ad jX) :: r.map (jcv ad)))
  rw [he jX (Or.inr (Nat.le_refl _))]
  exact va_sld hx hb hX.1 hX.2.1 hX.2.2 hS hin hd h3
set_option maxHeartbeats 4000000 in
theorem jsnd_scl (hC : jCx p s m args meth c R E M) {i : Nat} {t : JIt} (hi : M.its[i]? = some t) {lv : JL} {g : Nat} {r : List Value} {S : JS} {rc rs L : Nat} {xs : Nat → Int32} (hX : va_X (ad0 jX) L xs s s.heap ∧ ad0 jX < s.heap.size ∧ ¬ E.A (ad0 jX)) (hq : t.ins = .arraylength) (hg : g = jX)
    (h : jWC p l e R s m args below meth c E M ad0 n0 Qf (i + 1, lv, .int (Int32.ofNat L) :: r, S, rc, rs)) : jWC p l e R s m args below meth c E M ad0 n0 Qf (i, lv, .ref g :: r, S, rc, rs) := by
  obtain ⟨hx, hb, hml, hown, hts, hE, hz, hnm, hfr, hlo, hmk⟩ := hC
  have hk := jMok_at hmk hi
  intro ad H locs ls cells slots hP hS hl hlo2 hso he hn hc hsl
  simp only at hP hl hlo2 hso hn hc hsl ⊢
  rw [jpc_at hi]
  obtain ⟨pc, ins, len, a, b, v, w, tl⟩ := t
  unfold jchk at hk
  rw [Bool.and_eq_true, Bool.and_eq_true, Bool.and_eq_true] at hk
  obtain ⟨⟨⟨hd, hnx⟩, hln⟩, hk⟩ := hk
  have hd := of_decide_eq_true hd
  try simp only at hq
  subst hq
  have hln2 : len = 1 := by simpa [jln] using hln
  subst hln2
  have hnx2 : jpc M (i + 1) = pc + 1 := by simpa [jthru] using hnx
  subst hg
  have h3 := h ad H locs ls cells slots hP hS hl hlo2 (jso_cons (jok_int _ _) (jso_tail hso)) he hn hc hsl
  rw [hnx2] at h3
  show W p l e R s m args below meth c H locs cells slots Qf (F0 m pc ls (.ref (ad jX) :: r.map (jcv ad)))
  rw [he jX (Or.inr (Nat.le_refl _))]
  exact va_slen hx hb hX.1 hX.2.1 hX.2.2 hS hd h3
set_option maxHeartbeats 4000000 in
theorem jsnd_cast (hC : jCx p s m args meth c R E M) {i : Nat} {t : JIt} (hi : M.its[i]? = some t) {lv : JL} {st : List Value} {S : JS} {rc rs idx : Nat} (hq : t.ins = .checkcast idx)
    (hg : jgd (jx1 t lv st S).1) (h : jWC p l e R s m args below meth c E M ad0 n0 Qf (i + 1, (jx1 t lv st S).2.1, (jx1 t lv st S).2.2.1, (jx1 t lv st S).2.2.2, rc, rs)) : jWC p l e R s m args below meth c E M ad0 n0 Qf (i, lv, st, S, rc, rs) := by
  obtain ⟨hx, hb, hml, hown, hts, hE, hz, hnm, hfr, hlo, hmk⟩ := hC
  have hk := jMok_at hmk hi
  have hon := jMok_own hmk
  intro ad H locs ls cells slots hP hS hl hlo2 hso he hn hc hsl
  simp only at hP hl hlo2 hso hn hc hsl ⊢
  rw [jpc_at hi]
  obtain ⟨pc, ins, len, a, b, v, w, tl⟩ := t
  unfold jchk at hk
  rw [Bool.and_eq_true, Bool.and_eq_true, Bool.and_eq_true] at hk
  obtain ⟨⟨⟨hd, hnx⟩, hln⟩, hk⟩ := hk
  have hd := of_decide_eq_true hd
  try simp only at hq
  subst hq
  have hln2 : len = 3 := by simpa [jln] using hln
  subst hln2
  have hnx2 : jpc M (i + 1) = pc + 3 := by simpa [jthru] using hnx
  simp only [jck1, Bool.and_eq_true, beq_iff_eq] at hk
  obtain ⟨k1, rfl⟩ := hk
  rw [k1] at hon
  have hown : s.vm.findClass RJ7 = some m.cls := by rw [hon] at hown; exact hown
  obtain ⟨g, r, rfl, hA⟩ : ∃ g r, st = .ref g :: r ∧ jA S g 13 := by
    simp only [jx1] at hg
    split at hg
    · exact ⟨_, _, rfl, hg _ List.mem_cons_self⟩
    · exact jgd_bad hg
  have h3 := h ad H locs ls cells slots hP hS hl hlo2 hso he hn hc hsl
  rw [hnx2] at h3
  have hnmI : s.vm.findClass "[I" = some (E.cy 13) := (hE.1.2 0 _ (jtys_13 _)).2
  exact va_castA hx hb hown (hts _ jw_cc) hP.1 g ((jW_at hA.1).trans (by rw [jC_13 hA.2])) hnmI hd h3
set_option maxHeartbeats 4000000 in
theorem jsnd_clone (hC : jCx p s m args meth c R E M) {i : Nat} {t : JIt} (hi : M.its[i]? = some t) {lv : JL} {g : Nat} {r : List Value} {S : JS} {rc rs idx : Nat} (hq : t.ins = .invokevirtual idx) (ht : t.a = 9004) (hA : jA S g 13) (g1 : 1 ≤ rc) (g2 : jZ S g ≤ rs) (g3 : jN S < 1000000) (hcat : (r.map fun v => v.category).sum ≤ 8)
    (h : jWC p l e R s m args below meth c E M ad0 n0 Qf (i + 1, lv, .ref (jN S) :: r, uIf (uNew S 13 (jZ S g)) (jN S) (jI S g), rc - 1, rs - jZ S g)) : jWC p l e R s m args below meth c E M ad0 n0 Qf (i, lv, .ref g :: r, S, rc, rs) := by
  obtain ⟨hx, hb, hml, hown, hts, hE, hz, hnm, hfr, hlo, hmk⟩ := hC
  have hk := jMok_at hmk hi
  have hon := jMok_own hmk
  intro ad H locs ls cells slots hP hS hl hlo2 hso he hn hc hsl
  simp only at hP hl hlo2 hso hn hc hsl ⊢
  rw [jpc_at hi]
  obtain ⟨pc, ins, len, a, b, v, w, tl⟩ := t
  unfold jchk at hk
  rw [Bool.and_eq_true, Bool.and_eq_true, Bool.and_eq_true] at hk
  obtain ⟨⟨⟨hd, hnx⟩, hln⟩, hk⟩ := hk
  have hd := of_decide_eq_true hd
  try simp only at hq ht
  subst hq
  have ht : a = 9004 := ht
  subst ht
  have hln2 : len = 3 := by simpa [jln] using hln
  subst hln2
  have hnx2 : jpc M (i + 1) = pc + 3 := by simpa [jthru] using hnx
  have hk2 : M.oi = 17 ∧ idx = 316 := by
    simp only [jck1, Bool.or_eq_true, Bool.and_eq_true, beq_iff_eq] at hk
    rcases hk with ((hk | hk) | hk) | hk
    · have z : (9004 : Nat) = 9002 := hk.1.1
      exact absurd z (by decide)
    · have z : (9004 : Nat) = 9003 := hk.1.1
      exact absurd z (by decide)
    · exact ⟨hk.1.2, hk.2⟩
    · have : jIM.contains 9004 = true := hk.1.1.1.2
      exact absurd this (by decide +kernel)
  obtain ⟨k1, rfl⟩ := hk2
  rw [k1] at hon
  have hown : s.vm.findClass RJ7 = some m.cls := by rw [hon] at hown; exact hown
  have hnmI : s.vm.findClass "[I" = some (E.cy 13) := (hE.1.2 0 _ (jtys_13 _)).2
  refine va_clone (x := (jZ S g, .inl (jI S g))) hx hb (hml.trans hl.1.symm) hown (hts _ jw_cl) (hts _ jw_csm) (hts _ jw_cn) (hts _ jw_ci) (hts _ jw_cse) hE.2.2.2.2.2.2.2.2.2.2 hE.1 hP.1 hP.2.1 hS (fun q hq2 => Nat.le_trans hz hq2) g 0 ((jW_at hA.1).trans (by rw [jC_13 hA.2])) (jtys_13 _) hnmI ?_ (by omega) (by rw [jcv_cats]; omega) (by omega) (by show slots + jZ S g ≤ _; omega) hd (fun q H1 hK1 hP1 hD1 hS1 => ?_)
  · intro i2 v2 hv2
    refine va_fit (n := jZ S g) (F := fun j => .int (jI S g j)) (fun _ _ => rfl) i2 v2 hv2
  have hext := jwf_le (S := S) (ad := ad) (q := q) (kd := 0) (len := 0) g3
  have hC2 : jC E.cy (va_up ad (jN S) q) (uIf (uNew S 13 (jZ S g)) (jN S) (jI S g)) (jN S) = .inl (E.cy 13, jZ S g, .inl (jI S g)) := by
    rw [jC_13 (S := uIf (uNew S 13 (jZ S g)) (jN S) (jI S g)) (jK_new S 13 (jZ S g)), jget_i]
    have : jZ (uIf (uNew S 13 (jZ S g)) (jN S) (jI S g)) (jN S) = jZ S g := jZ_new S 13 (jZ S g)
    rw [this]
  have hX2 : jN S < jX := by unfold jX; omega
  have hpool : jPool E (va_up ad (jN S) q) (uIf (uNew S 13 (jZ S g)) (jN S) (jI S g)) H1 := by
    rw [jW_new (S' := uIf (uNew S 13 (jZ S g)) (jN S) (jI S g)) rfl hC2 (fun q2 hg2 => by rw [jC_uIf (Nat.ne_of_lt hg2)]; exact jC_new hP.2.2.1 hX2 hg2)] at hP1 hD1
    refine ⟨hP1, hD1, jwf_uIf (jwf_uNew hP.2.2.1), ?_, fun i2 hi2 => ?_⟩
    · rw [va_up_ne _ _ (by unfold jX at *; omega)]; exact hP.2.2.2.1
    · rw [va_up_ne _ _ (by unfold jX at *; omega)]; exact hP.2.2.2.2 i2 hi2
  have hso := jso_tail hso
  have h2 := h (va_up ad (jN S) q) H1 locs ls (cells + 1) (slots + jZ S g) hpool hS1 (jlh_ext hext hlo2 hl) (jlo_le (Nat.le_succ _) hlo2) (jso_cons (fun r er => by cases er; exact Or.inl (Nat.lt_succ_self _)) (jso_le (Nat.le_succ _) hso)) (fun r hr => by rw [hext r (hr.imp (fun z => by omega) id)]; exact he r hr) (Nat.le_succ_of_le hn) (by simp only; omega) (by show slots + jZ S g + (rs - jZ S g) ≤ _; omega)
  rw [hnx2] at h2
  have e1 : (Value.ref (jN S) :: r).map (jcv (va_up ad (jN S) q)) = .ref q :: r.map (jcv ad) := by
    rw [List.map_cons, jst_ext hext hso]
    simp [jcv, va_up]
  simp only at h2
  rw [e1] at h2
  exact h2
end JS8
