/-! CALLS over the machine -/
def jrm (d : Nat) (bd : Nat × Nat) : Room := { frames := d + 8, cells := bd.1, slots := bd.2, locals := 64 * (d + 8) }
def jPc (E : JE) (ad : Nat → Nat) (S : JS) (args : List Value) : Array Value → State → Prop := va_Pc (args.map (jcv ad)) (fun U => jEnv E U U.heap ∧ jPool E ad S U.heap ∧ E.z ≤ U.heap.size)
def jQc (E : JE) (ad : Nat → Nat) (n : Nat) (Q : Option Value → JS → Prop) : Array Value → State → Outcome → State → Prop := fun _ st oc t =>
  (∃ (v : Option Value) (S' : JS) (ad' : Nat → Nat), oc = .returned (v.map (jcv ad')) ∧ Q v S' ∧ jPool E ad' S' t.heap ∧ (∀ w, v = some w → jok (jN S') w) ∧ (∀ r, r < n ∨ jX ≤ r → ad' r = ad r) ∧ n ≤ jN S') ∧ va_F E.A st t
def jMet (l : Launch) (E : JE) (d : Nat) (bud : Nat → Nat × Nat) (k : Nat) (args : List Value) (S : JS) (Q : Option Value → JS → Prop) : Prop :=
  ∀ ad : Nat → Nat, (∀ v ∈ args, jok (jN S) v) → Met l (jmt k).y (jws (jmt k)) (jrm d (bud k)) (jPc E ad S args) (jQc E ad (jN S) Q) (bud k).1 (bud k).2 E.A
theorem jPc_blind {E : JE} {ad : Nat → Nat} {S : JS} {args : List Value} : FrameBlind (jPc E ad S args) := fun a U g mk h => by
  obtain ⟨h1, h2, h3, h4⟩ := h
  exact ⟨h1, jEnv.same (u := U) rfl h2, h3, h4⟩
theorem jroom {d nl RL : Nat} (h9 : 64 * (d + 9) ≤ RL) (c5 : nl ≤ 40) : 8 + (nl + 11) + 64 * (d + 8) ≤ RL := by
  rw [show d + 9 = (d + 8) + 1 from rfl, Nat.mul_add] at h9
  generalize 64 * (d + 8) = z at h9 ⊢
  omega
section JS7
variable {p : Program} {l : Launch} {e : Env} {R : Room} {s : State} {m : MethodId} {args : Array Value} {below : List Frame} {meth : Method} {c : Code} {E : JE} {M : JM} {ad0 : Nat → Nat} {n0 : Nat} {Qf : State → Prop}
theorem jcall_W {H : Heap} {locs : List Loc} {cells slots mc ms pc : Nat} {ls : Array Slot} {st0 rest : List Value} {a : Array Value} {ad : Nat → Nat} {n : Nat} {Q0 : Option Value → JS → Prop} (hr : va_Run p l e R s m args below meth c H locs cells slots mc ms (F0 m pc ls st0) rest (jQc E ad n Q0 a) E.A) (hS : va_S E.A s.heap H locs)
    (kk : ∀ (v : Option Value) (S' : JS) (ad' : Nat → Nat) (H1 : Heap) (locs1 : List Loc), Q0 v S' → jPool E ad' S' H1 → (∀ w, v = some w → jok (jN S') w) → (∀ r, r < n ∨ jX ≤ r → ad' r = ad r) → n ≤ jN S' → va_S E.A s.heap H1 locs1 → W p l e R s m args below meth c H1 locs1 (cells + mc) (slots + ms) Qf (F0 m (pc + 3) ls ((v.map (jcv ad')).toList ++ rest))) : W p l e R s m args below meth c H locs cells slots Qf (F0 m pc ls st0) := by
  intro T hT X
  obtain ⟨v, st₀, t, T', L, h0, X', hL, e1, e2, ⟨⟨v2, S', ad', hv, hq, hp, hok, hext, hnn⟩, hz, hk⟩, st⟩ := hr T hT X
  cases hv
  rw [h0] at hz hk
  obtain ⟨t2, a1, b1⟩ := kk v2 S' ad' T'.heap (locs ++ L) hq (by rw [e1]; exact hp) hok hext hnn
    ⟨Nat.le_trans hS.1 (by rw [e1]; exact hz), fun q h1 h2 => by rw [e1, hk q (Nat.lt_of_lt_of_le h1 hS.1) h2]; exact hS.2.1 q h1 h2, fun q hq => by
      rcases List.mem_append.mp hq with h | h
      · exact hS.2.2 q h
      · exact hL q h⟩ T' rfl X'
  exact ⟨t2, st t2 a1, b1⟩
theorem jwsIn {k : Nat} (hk : k ∈ jCO) {Ts : List Cond} (hT : ∀ w ∈ jBIG, w ∈ Ts) : GoodIn Ts (jws (jmt k)) := by
  intro w hw
  have hb : w ∈ jBIG := by
    rcases List.mem_cons.mp hw with e1 | e1
    · rw [e1]; exact jCO_ok k hk
    · exact e1
  exact ⟨hT w hb, jBIG_good hb⟩
theorem jPre {H : Heap} {locs : List Loc} {ad : Nat → Nat} {S : JS} {As : List Value} (hE : jEnv E s s.heap) (hz : E.z ≤ s.heap.size) (hP : jPool E ad S H) (hS : va_S E.A s.heap H locs) : ∀ U : State, U.heap = H → s.WarmedH U.vm → jPc E ad S As (As.map (jcv ad)).toArray U := by
  intro U hU hW
  refine ⟨rfl, ?_, by rw [hU]; exact hP, by rw [hU]; exact Nat.le_trans hz hS.1⟩
  rw [hU]
  exact (hE.kept hS.2.1).warm hW
/-- what is behind a call: the caller's frame with the callee's heap -/
theorem jafter {i : Nat} {lv : JL} {r : List Value} {S : JS} {rc rs pc mc ms : Nat} {ad : Nat → Nat} {ls : Array Slot} {cells slots : Nat} {Q0 : Option Value → JS → Prop} (hnx2 : jpc M (i + 1) = pc + 3) (hl : jlh ad ls M.nL lv) (hlo2 : jlo (jN S) lv) (hso : jso (jN S) r) (he : ∀ r, r < n0 ∨ jX ≤ r → ad r = ad0 r) (hn : n0 ≤ jN S) (hc : cells + rc ≤ R.cells) (hsl : slots + rs ≤ R.slots) (b1 : mc ≤ rc) (b2 : ms ≤ rs)
    (h : ∀ v S', Q0 v S' → jWC p l e R s m args below meth c E M ad0 n0 Qf (i + 1, lv, v.toList ++ r, S', rc - mc, rs - ms)) (v : Option Value) (S' : JS) (ad' : Nat → Nat) (H1 : Heap) (locs1 : List Loc) (hq : Q0 v S') (hp : jPool E ad' S' H1) (hok : ∀ w, v = some w → jok (jN S') w) (hext : ∀ r, r < jN S ∨ jX ≤ r → ad' r = ad r) (hnn : jN S ≤ jN S') (hS1 : va_S E.A s.heap H1 locs1) : W p l e R s m args below meth c H1 locs1 (cells + mc) (slots + ms) Qf (F0 m (pc + 3) ls ((v.map (jcv ad')).toList ++ r.map (jcv ad))) := by
  have h2 := h v S' hq ad' H1 locs1 ls (cells + mc) (slots + ms) hp hS1 (jlh_ext hext hlo2 hl) (jlo_le hnn hlo2) (fun w hw => by
    rcases List.mem_append.mp hw with e1 | e1
    · exact hok w (by simpa using e1)
    · exact jok_le hnn (hso w e1)) (fun r2 hr2 => by rw [hext r2 (hr2.imp (fun z => by omega) id)]; exact he r2 hr2) (Nat.le_trans hn hnn) (by show cells + mc + (rc - mc) ≤ _; omega) (by show slots + ms + (rs - ms) ≤ _; omega)
  rw [hnx2] at h2
  have e1 : (v.toList ++ r).map (jcv ad') = (v.map (jcv ad')).toList ++ r.map (jcv ad) := by
    rw [List.map_append, jst_ext hext hso]
    cases v <;> rfl
  simp only at h2
  rw [e1] at h2
  exact h2
set_option maxHeartbeats 4000000 in
theorem jsnd_callv (hC : jCx p s m args meth c R E M) {d : Nat} {bud : Nat → Nat × Nat} (hfr9 : d + 9 ≤ R.frames ∧ 64 * (d + 9) ≤ R.locals) {i : Nat} {t : JIt} (hi : M.its[i]? = some t) {lv : JL} {st As : List Value} {g : Nat} {r : List Value} {S : JS} {rc rs idx : Nat} (hq : t.ins = .invokevirtual idx) (hst : st = As.reverse ++ .ref g :: r) (hAl : As.length = t.b - 1) (hpm : t.a ≠ 9002 ∧ t.a ≠ 9003 ∧ t.a ≠ 9004) (hA : jA S g (jmt t.a).rk) (hcat : (r.map fun v => v.category).sum ≤ 8) (b1 : (bud t.a).1 ≤ rc) (b2 : (bud t.a).2 ≤ rs) {Q0 : Option Value → JS → Prop} (hM : jMet l E d bud t.a (.ref g :: As) S Q0)
    (h : ∀ v S', Q0 v S' → jWC p l e R s m args below meth c E M ad0 n0 Qf (i + 1, lv, v.toList ++ r, S', rc - (bud t.a).1, rs - (bud t.a).2)) : jWC p l e R s m args below meth c E M ad0 n0 Qf (i, lv, st, S, rc, rs) := by
  obtain ⟨hx, hb, hml, hown, hts, hE, hz, hnm, hfr, hlo, hmk⟩ := hC
  have hk := jMok_at hmk hi
  have hon := jMok_own hmk
  intro ad H locs ls cells slots hP hS hl hlo2 hso he hn hc hsl
  simp only at hP hl hlo2 hso hn hc hsl ⊢
  rw [jpc_at hi]
  obtain ⟨pc, ins, len, a, b, v, w, tl⟩ := t
  unfold jchk at hk
  rw [Bool.and_eq_true, Bool.and_eq_true, Bool.and_eq_true] at hk
  obtain ⟨⟨⟨hd, hnx⟩, hln⟩, hk⟩ := hk
  have hd := of_decide_eq_true hd
  try simp only at hq h hM b1 b2 hA hpm hAl
  subst hq
  have hln2 : len = 3 := by simpa [jln] using hln
  subst hln2
  have hnx2 : jpc M (i + 1) = pc + 3 := by simpa [jthru] using hnx
  simp only [jck1, Bool.or_eq_true, Bool.and_eq_true, beq_iff_eq] at hk
  have hk2 : (((jckc M idx a b 0 false = true ∧ jIM.contains a = true) ∧ jSE.contains a = true) ∧ jCO.contains a = true) ∧ jINI.contains a = true := by
    rcases hk with ((hk | hk) | hk) | hk
    · exact absurd hk.1.1 hpm.1
    · exact absurd hk.1.1 hpm.2.1
    · exact absurd hk.1.1 hpm.2.2
    · exact hk
  obtain ⟨⟨⟨⟨k1, k2⟩, k3⟩, k4⟩, k5⟩ := hk2
  have k2 : a ∈ jIM := by simpa using k2
  have k3 : a ∈ jSE := by simpa using k3
  have k4 : a ∈ jCO := by simpa using k4
  have k5 : a ∈ jINI := by simpa using k5
  unfold jckc at k1
  simp only [Bool.and_eq_true, Bool.or_eq_true, decide_eq_true_eq] at k1
  obtain ⟨⟨⟨⟨⟨c1, c2⟩, c3⟩, c4⟩, c5⟩, c6⟩ := k1
  have c4 : jnargs (jmt a).y = some (b - 1) := by simpa using c4
  obtain ⟨⟨c7, c8⟩, c9⟩ : (1 ≤ b ∧ (jmt a).rk < 13) ∧ (jmt a).y.cls = jRX (jmt a).rk := by simpa using c6
  obtain ⟨d1, d2, d3, d4⟩ := jcls (jmt a).rk c8
  subst hst
  have hsor : jso (jN S) r := fun w hw => hso w (List.mem_append_right _ (List.mem_cons_of_mem _ hw))
  have hargs : ∀ v ∈ (Value.ref g :: As), jok (jN S) v := fun v hv => by
    rcases List.mem_cons.mp hv with e1 | e1
    · rw [e1]; exact hso _ (List.mem_append_right _ List.mem_cons_self)
    · exact hso v (List.mem_append_left _ (List.mem_reverse.mpr e1))
  have hMet := hM ad hargs
  have wI := hts _ (jIM_ok a k2)
  have wS := hts _ (jSE_ok a k3)
  have wN := hts _ (jINI_ok a k5)
  have wC := hts _ (jCO_ok a k4)
  unfold jIMw at wI
  unfold jSEw at wS
  unfold jINIw at wN
  unfold jCOw at wC
  obtain ⟨cell, r1, r2, r3⟩ := va_recv (q := (jRX (jmt a).rk, jT (jmt a).rk, fnum (jmt a).rk)) (a := ad g) hE.1 hP.1 d1 ((jW_at hA.1).trans (by rw [jC_obj hA.2 c8]))
  have pre : PreV s H (jmt a).y.cls (ad g) (jPc E ad S (.ref g :: As)) (As.map (jcv ad)) := ⟨jPc_blind, ⟨cell, r1, r2, by rw [c9]; exact r3⟩, jPre hE hz hP hS⟩
  have hlen : (As.map (jcv ad)).length = b - 1 := by simpa using hAl
  have hstk : ((As.reverse ++ .ref g :: r).map (jcv ad)) = (As.map (jcv ad)).reverse ++ .ref (ad g) :: r.map (jcv ad) := by simp [jcv]
  have hrm : (jrm d (bud a)).frames + 1 ≤ R.frames ∧ 8 + ((jmt a).nL + 11) + (jrm d (bud a)).locals ≤ R.locals := by
    exact ⟨hfr9.1, jroom hfr9.2 c5⟩
  have hW8 : 2 * (F0 m pc ls ((As.reverse ++ .ref g :: r).map (jcv ad))).monitorRoom + ((r.map (jcv ad)).map fun v => v.category).sum ≤ 8 := lv_room (by rw [jcv_cats]; exact hcat)
  have hCF : CallFix p m c M.cc M.nL s args jBIG M.own := ⟨hx, hb, hml, hown, hts⟩
  refine jcall_W (ad := ad) (n := jN S) (Q0 := Q0) (rest := r.map (jcv ad)) (mc := (bud a).1) (ms := (bud a).2) (a := (Value.ref (ad g) :: As.map (jcv ad)).toArray) ?_ hS (jafter hnx2 hl hlo2 hsor he hn hc hsl b1 b2 h)
  rcases c1 with c1 | c1
  · have wL := hts _ (jML_ok _ (jmem4_of c1))
    unfold jMLw at wL
    simp only at wL
    rw [← hon] at wL
    refine va_runV (As := As.map (jcv ad)) (bytes := (jmt a).cc) (maxL := (jmt a).nL) (ret := (jmt a).ret) (n := b - 1) hCF hMet ⟨callB_of (b - 1) hts (jwsIn k4 (fun _ z => z)) rfl rfl rfl wN wL ⟨c2, c3, c4⟩ hrm, wI, wS⟩ pre rfl hlen hl.1 hstk hW8 hd ⟨by show cells + (bud a).1 ≤ _; have : (bud a).1 ≤ rc := b1; omega, by show slots + (bud a).2 ≤ _; have : (bud a).2 ≤ rs := b2; omega⟩
  · have wL := hE.2.1 _ (jmem4_of c1)
    unfold jNEw at wL
    simp only at wL
    rw [← hon] at wL
    refine va_runVN (As := As.map (jcv ad)) (bytes := (jmt a).cc) (maxL := (jmt a).nL) (ret := (jmt a).ret) (n := b - 1) hCF hMet ⟨va_cnB (b - 1) hts (jwsIn k4 (fun _ z => z)) rfl rfl rfl wL wN ⟨c2, c3, c4⟩ hrm, wI, wS⟩ pre rfl hlen hl.1 hstk hW8 hd ⟨by show cells + (bud a).1 ≤ _; have : (bud a).1 ≤ rc := b1; omega, by show slots + (bud a).2 ≤ _; have : (bud a).2 ≤ rs := b2; omega⟩
set_option maxHeartbeats 4000000 in
theorem jsnd_calli (hC : jCx p s m args meth c R E M) {d : Nat} {bud : Nat → Nat × Nat} (hfr9 : d + 9 ≤ R.frames ∧ 64 * (d + 9) ≤ R.locals) {i : Nat} {t : JIt} (hi : M.its[i]? = some t) {lv : JL} {st As : List Value} {g : Nat} {r : List Value} {S : JS} {rc rs idx : Nat} (hq : t.ins = .invokespecial idx) (hst : st = As.reverse ++ .ref g :: r) (hAl : As.length = t.b - 1) (hpm : t.a ≠ 9001) (hA : jA S g (jmt t.a).rk) (hcat : (r.map fun v => v.category).sum ≤ 8) (b1 : (bud t.a).1 ≤ rc) (b2 : (bud t.a).2 ≤ rs) {Q0 : Option Value → JS → Prop} (hM : jMet l E d bud t.a (.ref g :: As) S Q0)
    (h : ∀ v S', Q0 v S' → jWC p l e R s m args below meth c E M ad0 n0 Qf (i + 1, lv, v.toList ++ r, S', rc - (bud t.a).1, rs - (bud t.a).2)) : jWC p l e R s m args below meth c E M ad0 n0 Qf (i, lv, st, S, rc, rs) := by
  obtain ⟨hx, hb, hml, hown, hts, hE, hz, hnm, hfr, hlo, hmk⟩ := hC
  have hk := jMok_at hmk hi
  have hon := jMok_own hmk
  intro ad H locs ls cells slots hP hS hl hlo2 hso he hn hc hsl
  simp only at hP hl hlo2 hso hn hc hsl ⊢
  rw [jpc_at hi]
  obtain ⟨pc, ins, len, a, b, v, w, tl⟩ := t
  unfold jchk at hk
  rw [Bool.and_eq_true, Bool.and_eq_true, Bool.and_eq_true] at hk
  obtain ⟨⟨⟨hd, hnx⟩, hln⟩, hk⟩ := hk
  have hd := of_decide_eq_true hd
  try simp only at hq h hM b1 b2 hA hpm hAl
  subst hq
  have hln2 : len = 3 := by simpa [jln] using hln
  subst hln2
  have hnx2 : jpc M (i + 1) = pc + 3 := by simpa [jthru] using hnx
  have hpm : ¬ a = 9001 := hpm
  simp only [jck1, hpm, if_false, Bool.and_eq_true, decide_eq_true_eq] at hk
  obtain ⟨⟨⟨⟨⟨k1, k2⟩, k4⟩, k5⟩, k6⟩, k7⟩ := hk
  have k1 : jckc M idx a b 4 false = true := k1
  have k2 : a ∈ jIM := by simpa using k2
  have k4 : a ∈ jCO := by simpa using k4
  have k5 : a ∈ jINI := by simpa using k5
  have k6 : (jmt a).y.name = "<init>" := k6
  have k7 : (jmt a).ret = none := k7
  unfold jckc at k1
  simp only [Bool.and_eq_true, Bool.or_eq_true, decide_eq_true_eq] at k1
  obtain ⟨⟨⟨⟨⟨c1, c2⟩, c3⟩, c4⟩, c5⟩, c6⟩ := k1
  have c4 : jnargs (jmt a).y = some (b - 1) := by simpa using c4
  obtain ⟨⟨c7, c8⟩, c9⟩ : (1 ≤ b ∧ (jmt a).rk < 13) ∧ (jmt a).y.cls = jRX (jmt a).rk := by simpa using c6
  obtain ⟨d1, d2, d3, d4⟩ := jcls (jmt a).rk c8
  subst hst
  have hsor : jso (jN S) r := fun w hw => hso w (List.mem_append_right _ (List.mem_cons_of_mem _ hw))
  have hargs : ∀ v ∈ (Value.ref g :: As), jok (jN S) v := fun v hv => by
    rcases List.mem_cons.mp hv with e1 | e1
    · rw [e1]; exact hso _ (List.mem_append_right _ List.mem_cons_self)
    · exact hso v (List.mem_append_left _ (List.mem_reverse.mpr e1))
  have hMet := hM ad hargs
  have wI := hts _ (jIM_ok a k2)
  have wN := hts _ (jINI_ok a k5)
  have wC := hts _ (jCO_ok a k4)
  unfold jIMw at wI
  unfold jINIw at wN
  unfold jCOw at wC
  obtain ⟨cell, r1, r2, r3⟩ := va_recv (q := (jRX (jmt a).rk, jT (jmt a).rk, fnum (jmt a).rk)) (a := ad g) hE.1 hP.1 d1 ((jW_at hA.1).trans (by rw [jC_obj hA.2 c8]))
  have pre : PreS s H (jPc E ad S (.ref g :: As)) (.ref (ad g) :: As.map (jcv ad)) := ⟨jPc_blind, jPre hE hz hP hS⟩
  have hlen : (As.map (jcv ad)).length = b - 1 := by simpa using hAl
  have hstk : ((As.reverse ++ .ref g :: r).map (jcv ad)) = (As.map (jcv ad)).reverse ++ .ref (ad g) :: r.map (jcv ad) := by simp [jcv]
  have hrm : (jrm d (bud a)).frames + 1 ≤ R.frames ∧ 8 + ((jmt a).nL + 11) + (jrm d (bud a)).locals ≤ R.locals := by
    exact ⟨hfr9.1, jroom hfr9.2 c5⟩
  have hW8 : 2 * (F0 m pc ls ((As.reverse ++ .ref g :: r).map (jcv ad))).monitorRoom + ((r.map (jcv ad)).map fun v => v.category).sum ≤ 8 := lv_room (by rw [jcv_cats]; exact hcat)
  have hCF : CallFix p m c M.cc M.nL s args jBIG M.own := ⟨hx, hb, hml, hown, hts⟩
  refine jcall_W (ad := ad) (n := jN S) (Q0 := Q0) (rest := r.map (jcv ad)) (mc := (bud a).1) (ms := (bud a).2) (a := (Value.ref (ad g) :: As.map (jcv ad)).toArray) ?_ hS (jafter hnx2 hl hlo2 hsor he hn hc hsl b1 b2 h)
  have hwd : jws (jmt a) = Cond.code (jmt a).y (jmt a).cc (jmt a).nL none :: jBIG := by unfold jws; rw [k7]
  rcases c1 with c1 | c1
  · have wL := hts _ (jML_ok _ (jmem4_of c1))
    unfold jMLw at wL
    simp only at wL
    rw [← hon] at wL
    refine va_runI (As := As.map (jcv ad)) (bytes := (jmt a).cc) (maxL := (jmt a).nL) (n := b - 1) hCF hMet ⟨callB_of (b - 1) hts (jwsIn k4 (fun _ z => z)) hwd rfl rfl wN wL ⟨c2, c3, c4⟩ hrm, k6, wI⟩ pre rfl hlen hl.1 hstk hW8 hd ⟨by show cells + (bud a).1 ≤ _; have : (bud a).1 ≤ rc := b1; omega, by show slots + (bud a).2 ≤ _; have : (bud a).2 ≤ rs := b2; omega⟩
  · have wL := hE.2.1 _ (jmem4_of c1)
    unfold jNEw at wL
    simp only at wL
    rw [← hon] at wL
    refine va_runIN (As := As.map (jcv ad)) (bytes := (jmt a).cc) (maxL := (jmt a).nL) (n := b - 1) hCF hMet ⟨va_cnB (b - 1) hts (jwsIn k4 (fun _ z => z)) hwd rfl rfl wL wN ⟨c2, c3, c4⟩ hrm, k6, wI⟩ pre rfl hlen hl.1 hstk hW8 hd ⟨by show cells + (bud a).1 ≤ _; have : (bud a).1 ≤ rc := b1; omega, by show slots + (bud a).2 ≤ _; have : (bud a).2 ≤ rs := b2; omega⟩
set_option maxHeartbeats 4000000 in
theorem jsnd_calls (hC : jCx p s m args meth c R E M) {d : Nat} {bud : Nat → Nat × Nat} (hfr9 : d + 9 ≤ R.frames ∧ 64 * (d + 9) ≤ R.locals) {i : Nat} {t : JIt} (hi : M.its[i]? = some t) {lv : JL} {st As : List Value} {r : List Value} {S : JS} {rc rs idx : Nat} (hq : t.ins = .invokestatic idx) (hst : st = As.reverse ++ r) (hAl : As.length = t.b) (hpm : ¬ 9000 ≤ t.a) (hcat : (r.map fun v => v.category).sum ≤ 8) (b1 : (bud t.a).1 ≤ rc) (b2 : (bud t.a).2 ≤ rs) {Q0 : Option Value → JS → Prop} (hM : jMet l E d bud t.a As S Q0)
    (h : ∀ v S', Q0 v S' → jWC p l e R s m args below meth c E M ad0 n0 Qf (i + 1, lv, v.toList ++ r, S', rc - (bud t.a).1, rs - (bud t.a).2)) : jWC p l e R s m args below meth c E M ad0 n0 Qf (i, lv, st, S, rc, rs) := by
  obtain ⟨hx, hb, hml, hown, hts, hE, hz, hnm, hfr, hlo, hmk⟩ := hC
  have hk := jMok_at hmk hi
  have hon := jMok_own hmk
  intro ad H locs ls cells slots hP hS hl hlo2 hso he hn hc hsl
  simp only at hP hl hlo2 hso hn hc hsl ⊢
  rw [jpc_at hi]
  obtain ⟨pc, ins, len, a, b, v, w, tl⟩ := t
  unfold jchk at hk
  rw [Bool.and_eq_true, Bool.and_eq_true, Bool.and_eq_true] at hk
  obtain ⟨⟨⟨hd, hnx⟩, hln⟩, hk⟩ := hk
  have hd := of_decide_eq_true hd
  try simp only at hq h hM b1 b2 hpm hAl
  subst hq
  have hln2 : len = 3 := by simpa [jln] using hln
  subst hln2
  have hnx2 : jpc M (i + 1) = pc + 3 := by simpa [jthru] using hnx
  have hpm : ¬ 9000 ≤ a := hpm
  have hpm0 : ¬ a = 9000 := fun z => hpm (by omega)
  simp only [jck1, hpm, hpm0, if_false, Bool.and_eq_true] at hk
  obtain ⟨⟨⟨k1, k2⟩, k4⟩, k5⟩ := hk
  have k1 : jckc M idx a b 2 true = true := k1
  have k2 : a ∈ jSTA := by simpa using k2
  have k4 : a ∈ jCO := by simpa using k4
  have k5 : a ∈ jINI := by simpa using k5
  unfold jckc at k1
  simp only [Bool.and_eq_true, Bool.or_eq_true, decide_eq_true_eq] at k1
  obtain ⟨⟨⟨⟨⟨c1, c2⟩, c3⟩, c4⟩, c5⟩, c6⟩ := k1
  have c4 : jnargs (jmt a).y = some b := by simpa using c4
  subst hst
  have hsor : jso (jN S) r := fun w hw => hso w (List.mem_append_right _ hw)
  have hargs : ∀ v ∈ As, jok (jN S) v := fun v hv => hso v (List.mem_append_left _ (List.mem_reverse.mpr hv))
  have hMet := hM ad hargs
  have wI := hts _ (jSTA_ok a k2)
  have wN := hts _ (jINI_ok a k5)
  have wC := hts _ (jCO_ok a k4)
  unfold jSTAw at wI
  unfold jINIw at wN
  unfold jCOw at wC
  have pre : PreS s H (jPc E ad S As) (As.map (jcv ad)) := ⟨jPc_blind, jPre hE hz hP hS⟩
  have hlen : (As.map (jcv ad)).length = b := by simpa using hAl
  have hstk : ((As.reverse ++ r).map (jcv ad)) = (As.map (jcv ad)).reverse ++ r.map (jcv ad) := by simp
  have hrm : (jrm d (bud a)).frames + 1 ≤ R.frames ∧ 8 + ((jmt a).nL + 11) + (jrm d (bud a)).locals ≤ R.locals := by
    exact ⟨hfr9.1, jroom hfr9.2 c5⟩
  have hW8 : 2 * (F0 m pc ls ((As.reverse ++ r).map (jcv ad))).monitorRoom + ((r.map (jcv ad)).map fun v => v.category).sum ≤ 8 := lv_room (by rw [jcv_cats]; exact hcat)
  have hCF : CallFix p m c M.cc M.nL s args jBIG M.own := ⟨hx, hb, hml, hown, hts⟩
  refine jcall_W (ad := ad) (n := jN S) (Q0 := Q0) (rest := r.map (jcv ad)) (mc := (bud a).1) (ms := (bud a).2) (a := (As.map (jcv ad)).toArray) ?_ hS (jafter hnx2 hl hlo2 hsor he hn hc hsl b1 b2 h)
  rcases c1 with c1 | c1
  · have wL := hts _ (jML_ok _ (jmem4_of c1))
    unfold jMLw at wL
    simp only at wL
    rw [← hon] at wL
    refine va_runS (As := As.map (jcv ad)) (bytes := (jmt a).cc) (maxL := (jmt a).nL) (ret := (jmt a).ret) (n := b) hCF hMet ⟨callB_of b hts (jwsIn k4 (fun _ z => z)) rfl rfl rfl wN wL ⟨c2, c3, c4⟩ hrm, wI⟩ pre rfl hlen hl.1 hstk hW8 hd ⟨by show cells + (bud a).1 ≤ _; have : (bud a).1 ≤ rc := b1; omega, by show slots + (bud a).2 ≤ _; have : (bud a).2 ≤ rs := b2; omega⟩
  · have wL := hE.2.1 _ (jmem4_of c1)
    unfold jNEw at wL
    simp only at wL
    rw [← hon] at wL
    refine va_runSN (As := As.map (jcv ad)) (bytes := (jmt a).cc) (maxL := (jmt a).nL) (ret := (jmt a).ret) (n := b) hCF hMet ⟨va_cnB b hts (jwsIn k4 (fun _ z => z)) rfl rfl rfl wL wN ⟨c2, c3, c4⟩ hrm, wI, trivial⟩ pre rfl hlen hl.1 hstk hW8 hd ⟨by show cells + (bud a).1 ≤ _; have : (bud a).1 ≤ rc := b1; omega, by show slots + (bud a).2 ≤ _; have : (bud a).2 ≤ rs := b2; omega⟩
end JS7
