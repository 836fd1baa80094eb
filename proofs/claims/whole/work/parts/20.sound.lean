/-! THE ABSTRACT MACHINE IS SOUND -/
section JSA
variable {p : Program} {l : Launch} {e : Env} {R : Room} {s : State} {m : MethodId} {args : Array Value} {below : List Frame} {meth : Method} {c : Code} {E : JE} {M : JM} {ad0 : Nat → Nat} {n0 : Nat} {Qf : State → Prop}
set_option maxHeartbeats 4000000 in
theorem jsnd_sl (hC : jCx p s m args meth c R E M) {i : Nat} {t : JIt} (hi : M.its[i]? = some t) {lv : JL} {g : Nat} {r : List Value} {S : JS} {rc rs idx : Nat} (hq : t.ins = .invokevirtual idx) (ht : t.a = 9002) (g1 : jX + 10 ≤ g) (g2 : g < jX + 23) (hcat : (r.map fun v => v.category).sum ≤ 8)
    (h : jWC p l e R s m args below meth c E M ad0 n0 Qf (i + 1, lv, .int (Int32.ofNat (jSL.getD (g - (jX + 10)) []).length) :: r, S, rc, rs)) : jWC p l e R s m args below meth c E M ad0 n0 Qf (i, lv, .ref g :: r, S, rc, rs) := by
  obtain ⟨hx, hb, hml, hown, hts, hE, hz, hnm, hfr, hlo, hmk⟩ := hC
  have hk := jMok_at hmk hi
  have hon := jMok_own hmk
  intro ad H locs ls cells slots hP hS hl hlo2 hso he hn hc hsl
  simp only at hP hl hlo2 hso hn hc hsl ⊢
  rw [jpc_at hi]
  obtain ⟨pc, ins, len, a, b, v, w, tl⟩ := t
  unfold jchk at hk
  rw [Bool.and_eq_true, Bool.and_eq_true, Bool.and_eq_true] at hk
  obtain ⟨⟨⟨hd, hnx⟩, hln⟩, hk⟩ := hk
  have hd := of_decide_eq_true hd
  try simp only at hq ht
  subst hq
  have ht : a = 9002 := ht
  subst ht
  have hln2 : len = 3 := by simpa [jln] using hln
  subst hln2
  have hnx2 : jpc M (i + 1) = pc + 3 := by simpa [jthru] using hnx
  have hk2 : M.oi = 5 ∧ idx = 166 := by
    simp only [jck1, Bool.or_eq_true, Bool.and_eq_true, beq_iff_eq] at hk
    rcases hk with ((hk | hk) | hk) | hk
    · exact ⟨hk.1.2, hk.2⟩
    · have z : (9002 : Nat) = 9003 := hk.1.1
      exact absurd z (by decide)
    · have z : (9002 : Nat) = 9004 := hk.1.1
      exact absurd z (by decide)
    · have : jIM.contains 9002 = true := hk.1.1.1.2
      exact absurd this (by decide +kernel)
  obtain ⟨k1, rfl⟩ := hk2
  rw [k1] at hon
  have hown : s.vm.findClass RX5 = some m.cls := by rw [hon] at hown; exact hown
  obtain ⟨q, hq1, rfl⟩ : ∃ q, q < 13 ∧ g = jX + 10 + q := ⟨g - (jX + 10), by omega, by omega⟩
  rw [show jX + 10 + q - (jX + 10) = q by omega] at h
  have h3 := h ad H locs ls cells slots hP hS hl hlo2 (jso_cons (jok_int _ _) (jso_tail hso)) he hn hc hsl
  rw [hnx2] at h3
  show W p l e R s m args below meth c H locs cells slots Qf (F0 m pc ls (.ref (ad (jX + 10 + q)) :: r.map (jcv ad)))
  rw [hP.2.2.2.2 q hq1]
  refine jsame (rest := r.map (jcv ad)) (va_runV (As := []) (C := RJ0) (bytes := cJ0_length_8abf5) (maxL := 1) (ret := some .int) (n := 0) ⟨hx, hb, hml, hown, hts⟩ (sm_len l E q hq1) ⟨callB_of 0 hts (jSMin js_cJ0_length_8abf5 (fun _ z => z)) rfl rfl rfl (hts _ js_nJ0_length_8abf5) (hts _ js_l166) (by decide +kernel) ⟨by show 1 + 1 ≤ _; omega, by show 8 + (1 + 11) + 64 ≤ _; omega⟩, hts _ js_iJ0_length_8abf5, hts _ js_eJ0_length_8abf5⟩ ⟨jSMblind, vk_recv hE.2.2.2.2.2.2.2.1 hq1 hS, jSMpre hE hS⟩ rfl rfl hl.1 rfl (lv_room (by rw [jcv_cats]; exact hcat)) hd ⟨by omega, by omega⟩) (fun v2 hv2 => ?_)
  subst hv2
  exact h3
set_option maxHeartbeats 4000000 in
theorem jsnd_sc (hC : jCx p s m args meth c R E M) {i : Nat} {t : JIt} (hi : M.its[i]? = some t) {lv : JL} {k : Int32} {g : Nat} {r : List Value} {S : JS} {rc rs idx : Nat} (hq : t.ins = .invokevirtual idx) (ht : t.a = 9003) (g1 : jX + 10 ≤ g) (g2 : g < jX + 23) (hin : vp_in k (jSL.getD (g - (jX + 10)) []).length) (hcat : (r.map fun v => v.category).sum ≤ 8)
    (h : jWC p l e R s m args below meth c E M ad0 n0 Qf (i + 1, lv, .int (Int32.ofNat ((jSL.getD (g - (jX + 10)) []).getD k.toNatClampNeg 0)) :: r, S, rc, rs)) : jWC p l e R s m args below meth c E M ad0 n0 Qf (i, lv, .int k :: .ref g :: r, S, rc, rs) := by
  obtain ⟨hx, hb, hml, hown, hts, hE, hz, hnm, hfr, hlo, hmk⟩ := hC
  have hk := jMok_at hmk hi
  have hon := jMok_own hmk
  intro ad H locs ls cells slots hP hS hl hlo2 hso he hn hc hsl
  simp only at hP hl hlo2 hso hn hc hsl ⊢
  rw [jpc_at hi]
  obtain ⟨pc, ins, len, a, b, v, w, tl⟩ := t
  unfold jchk at hk
  rw [Bool.and_eq_true, Bool.and_eq_true, Bool.and_eq_true] at hk
  obtain ⟨⟨⟨hd, hnx⟩, hln⟩, hk⟩ := hk
  have hd := of_decide_eq_true hd
  try simp only at hq ht
  subst hq
  have ht : a = 9003 := ht
  subst ht
  have hln2 : len = 3 := by simpa [jln] using hln
  subst hln2
  have hnx2 : jpc M (i + 1) = pc + 3 := by simpa [jthru] using hnx
  have hk2 : M.oi = 5 ∧ idx = 172 := by
    simp only [jck1, Bool.or_eq_true, Bool.and_eq_true, beq_iff_eq] at hk
    rcases hk with ((hk | hk) | hk) | hk
    · have z : (9003 : Nat) = 9002 := hk.1.1
      exact absurd z (by decide)
    · exact ⟨hk.1.2, hk.2⟩
    · have z : (9003 : Nat) = 9004 := hk.1.1
      exact absurd z (by decide)
    · have : jIM.contains 9003 = true := hk.1.1.1.2
      exact absurd this (by decide +kernel)
  obtain ⟨k1, rfl⟩ := hk2
  rw [k1] at hon
  have hown : s.vm.findClass RX5 = some m.cls := by rw [hon] at hown; exact hown
  obtain ⟨q, hq1, rfl⟩ : ∃ q, q < 13 ∧ g = jX + 10 + q := ⟨g - (jX + 10), by omega, by omega⟩
  rw [show jX + 10 + q - (jX + 10) = q by omega] at h hin
  have h3 := h ad H locs ls cells slots hP hS hl hlo2 (jso_cons (jok_int _ _) (jso_tail (jso_tail hso))) he hn hc hsl
  rw [hnx2] at h3
  show W p l e R s m args below meth c H locs cells slots Qf (F0 m pc ls (.int k :: .ref (ad (jX + 10 + q)) :: r.map (jcv ad)))
  rw [hP.2.2.2.2 q hq1]
  refine jsame (rest := r.map (jcv ad)) (va_runV (As := [.int k]) (C := RJ0) (bytes := cJ0_charAt_5068e) (maxL := 2) (ret := some .char) (n := 1) ⟨hx, hb, hml, hown, hts⟩ (sm_chr l E q hq1 k hin) ⟨callB_of 1 hts (jSMin js_cJ0_charAt_5068e (fun _ z => z)) rfl rfl rfl (hts _ js_nJ0_charAt_5068e) (hts _ js_l172) (by decide +kernel) ⟨by show 3 + 1 ≤ _; omega, by show 8 + (2 + 11) + 192 ≤ _; omega⟩, hts _ js_iJ0_charAt_5068e, hts _ js_eJ0_charAt_5068e⟩ ⟨jSMblind, vk_recv hE.2.2.2.2.2.2.2.1 hq1 hS, jSMpre hE hS⟩ rfl rfl hl.1 rfl (lv_room (by rw [jcv_cats]; exact hcat)) hd ⟨by omega, by omega⟩) (fun v2 hv2 => ?_)
  subst hv2
  exact h3
/-- a straight item -/
theorem jsnd_x (hC : jCx p s m args meth c R E M) {i : Nat} {t : JIt} (hi : M.its[i]? = some t) {lv : JL} {st : List Value} {S : JS} {rc rs : Nat} (hs : jstr t = true)
    (hg : jgd (jx1 t lv st S).1) (h : jWC p l e R s m args below meth c E M ad0 n0 Qf (i + 1, (jx1 t lv st S).2.1, (jx1 t lv st S).2.2.1, (jx1 t lv st S).2.2.2, rc, rs)) : jWC p l e R s m args below meth c E M ad0 n0 Qf (i, lv, st, S, rc, rs) := by
  cases hins : t.ins
  case getfield idx => exact jsnd_get hC hi hins hg h
  case putfield idx => exact jsnd_put hC hi hins hg h
  case checkcast idx => exact jsnd_cast hC hi hins hg h
  all_goals first
    | exact jsnd_num hC hi hs (by rw [hins]; trivial) hg h
    | exact jsnd_loc hC hi hs (by rw [hins]; trivial) hg h
    | exact jsnd_arr hC hi hs (by rw [hins]; trivial) hg h
    | (exfalso; simp only [jx1, hins] at hg; exact jgd_bad hg)
/-- the last instruction of a method: what it needs -/
def jRetOK (p : Program) (l : Launch) (e : Env) (R : Room) (s : State) (m : MethodId) (args : Array Value) (below : List Frame) (meth : Method) (c : Code) (E : JE) (M : JM) (ad0 : Nat → Nat) (n0 : Nat) (Qf : State → Prop) (Q : Option Value → JS → Prop) : Prop :=
  ∀ (i : Nat) (t : JIt) (lv : JL) (S : JS) (rc rs : Nat), M.its[i]? = some t →
    (∀ v, (t.ins = .ireturn ∨ t.ins = .lreturn ∨ t.ins = .areturn) → jrt M.ret (some v) → Q (some v) S → jWC p l e R s m args below meth c E M ad0 n0 Qf (i, lv, [v], S, rc, rs)) ∧
    (t.ins = .return_ → jrt M.ret none → Q none S → jWC p l e R s m args below meth c E M ad0 n0 Qf (i, lv, [], S, rc, rs))
theorem jBv_inv {bud : Nat → Nat × Nat} {rk : Nat → Nat} {k b : Nat} {st : List Value} {S : JS} {rc rs : Nat} (h : jgd (jBv bud rk k b st S rc rs).1) : ∃ g r, st.drop (b - 1) = .ref g :: r ∧ jBv bud rk k b st S rc rs = ([jA S g (rk k), (r.map fun v => v.category).sum ≤ 8, (bud k).1 ≤ rc, (bud k).2 ≤ rs], [], none, some (k, .ref g :: (st.take (b - 1)).reverse, r, rc - (bud k).1, rs - (bud k).2)) := by
  unfold jBv at h ⊢
  split at h
  · rename_i g r e1
    exact ⟨g, r, e1, rfl⟩
  · exact absurd (h False (by simp [jB0])) id
theorem jgd_0 {α : Prop} (h : jgd jB0.1) : α := absurd (h False (by simp [jB0])) id
set_option maxHeartbeats 8000000 in
theorem jsnd_step (hC : jCx p s m args meth c R E M) {d : Nat} {bud : Nat → Nat × Nat} (hfr9 : d + 9 ≤ R.frames ∧ 64 * (d + 9) ≤ R.locals) {call : Nat → List Value → JS → (Option Value → JS → Prop) → Prop} (hcall : ∀ k args S Q0, call k args S Q0 → jMet l E d bud k args S Q0) {X : Option (Nat × (Nat → Int32))} (hX : ∀ L xs, X = some (L, xs) → va_X (ad0 jX) L xs s s.heap ∧ ad0 jX < s.heap.size ∧ ¬ E.A (ad0 jX)) {Q : Option Value → JS → Prop} (hR : jRetOK p l e R s m args below meth c E M ad0 n0 Qf Q)
    {i : Nat} {lv : JL} {st : List Value} {S : JS} {rc rs : Nat} (h : jStep call bud (fun j => (jmt j).rk) X M Q (jWC p l e R s m args below meth c E M ad0 n0 Qf) i lv st S rc rs) : jWC p l e R s m args below meth c E M ad0 n0 Qf (i, lv, st, S, rc, rs) := by
  obtain ⟨t, hi, hg, ha, hq, hk⟩ := h
  by_cases hs : jstr t = true
  · rw [jOut_str hs] at hg ha
    exact jsnd_x hC hi hs hg (ha _ List.mem_cons_self trivial)
  have hst : jstr t = false := by simpa using hs
  cases hins : t.ins
  case ifCond k off =>
    simp only [jOut, hins] at hg ha
    unfold jBr at hg ha
    split at hg
    · rename_i cd r e1
      simp only [e1] at ha
      exact jsnd_if hC hi e1 (fun z => ha _ List.mem_cons_self z) (fun z => ha _ (List.mem_cons_of_mem _ List.mem_cons_self) z)
    · exact jgd_0 hg
  case if_icmp k off =>
    simp only [jOut, hins] at hg ha
    unfold jBr at hg ha
    split at hg
    · rename_i cd r e1
      simp only [e1] at ha
      exact jsnd_if hC hi e1 (fun z => ha _ List.mem_cons_self z) (fun z => ha _ (List.mem_cons_of_mem _ List.mem_cons_self) z)
    · exact jgd_0 hg
  case goto off =>
    simp only [jOut, hins] at hg ha
    unfold jBg at hg ha
    split at hg
    · rename_i j r e1
      simp only [e1, jB1] at ha
      exact jsnd_go hC hi e1 (ha _ List.mem_cons_self trivial)
    · exact jgd_0 hg
  case ifnull off =>
    simp only [jOut, hins] at hg ha
    unfold jBg at hg ha
    split at hg
    · rename_i j r e1
      simp only [e1, jB1] at ha
      exact jsnd_go hC hi e1 (ha _ List.mem_cons_self trivial)
    · exact jgd_0 hg
  case ifnonnull off =>
    simp only [jOut, hins] at hg ha
    unfold jBg at hg ha
    split at hg
    · rename_i j r e1
      simp only [e1, jB1] at ha
      exact jsnd_go hC hi e1 (ha _ List.mem_cons_self trivial)
    · exact jgd_0 hg
  case tableswitch dd lo hi2 offs =>
    simp only [jOut, hins] at hg ha
    unfold jBs at hg ha
    split at hg
    · rename_i x r
      refine jsnd_sw hC hi (Or.inl ⟨_, _, _, _, hins⟩) (fun q hq2 hx2 => ?_) (fun z => ?_)
      · exact ha (x = q.1, (q.2, lv, r, S, rc, rs)) (List.mem_append_left _ (List.mem_map_of_mem (f := fun q : Int32 × Nat => (x = q.1, ((q.2, lv, r, S, rc, rs) : JC))) hq2)) hx2
      · exact ha _ (List.mem_append_right _ List.mem_cons_self) z
    · exact jgd_0 hg
  case lookupswitch dd ps =>
    simp only [jOut, hins] at hg ha
    unfold jBs at hg ha
    split at hg
    · rename_i x r
      refine jsnd_sw hC hi (Or.inr ⟨_, _, hins⟩) (fun q hq2 hx2 => ?_) (fun z => ?_)
      · exact ha (x = q.1, (q.2, lv, r, S, rc, rs)) (List.mem_append_left _ (List.mem_map_of_mem (f := fun q : Int32 × Nat => (x = q.1, ((q.2, lv, r, S, rc, rs) : JC))) hq2)) hx2
      · exact ha _ (List.mem_append_right _ List.mem_cons_self) z
    · exact jgd_0 hg
  case ireturn =>
    simp only [jOut, hins] at hg ha hq
    unfold jBt at hg ha hq
    split at hg
    · rename_i v
      exact (hR i t lv S rc rs hi).1 v (Or.inl hins) (hg _ List.mem_cons_self) (hq _ rfl)
    · exact jgd_0 hg
  case lreturn =>
    simp only [jOut, hins] at hg ha hq
    unfold jBt at hg ha hq
    split at hg
    · rename_i v
      exact (hR i t lv S rc rs hi).1 v (Or.inr (Or.inl hins)) (hg _ List.mem_cons_self) (hq _ rfl)
    · exact jgd_0 hg
  case areturn =>
    simp only [jOut, hins] at hg ha hq
    unfold jBt at hg ha hq
    split at hg
    · rename_i v
      exact (hR i t lv S rc rs hi).1 v (Or.inr (Or.inr hins)) (hg _ List.mem_cons_self) (hq _ rfl)
    · exact jgd_0 hg
  case return_ =>
    simp only [jOut, hins] at hg ha hq
    unfold jBt0 at hg ha hq
    split at hg
    · exact (hR i t lv S rc rs hi).2 hins (hg _ List.mem_cons_self) (hq _ rfl)
    · exact jgd_0 hg
  case new idx =>
    simp only [jOut, hins] at hg ha
    unfold jBn at hg ha
    exact jsnd_new hC hi hins (hg _ List.mem_cons_self) (hg _ (List.mem_cons_of_mem _ List.mem_cons_self)) (hg _ (List.mem_cons_of_mem _ (List.mem_cons_of_mem _ List.mem_cons_self))) (ha _ List.mem_cons_self trivial)
  case newarray ty =>
    simp only [jOut, hins] at hg ha
    unfold jBa at hg ha
    split at hg
    · refine jsnd_newa hC hi hins (hg _ ?_) (hg _ ?_) (hg _ ?_) (hg _ ?_) (hg _ ?_) (ha _ List.mem_cons_self trivial) <;> simp
    · exact jgd_0 hg
  case anewarray idx =>
    simp only [jOut, hins] at hg ha
    unfold jBa at hg ha
    split at hg
    · refine jsnd_newq hC hi hins (hg _ ?_) (hg _ ?_) (hg _ ?_) (hg _ ?_) (hg _ ?_) (ha _ List.mem_cons_self trivial) <;> simp
    · exact jgd_0 hg
  case aaload =>
    simp only [jOut, hins] at hg ha
    unfold jBl at hg ha
    split at hg
    · exact jsnd_aald hC hi hins (hg _ List.mem_cons_self) (hg _ (List.mem_cons_of_mem _ List.mem_cons_self)) (fun z => ha _ List.mem_cons_self z) (fun z => ha _ (List.mem_cons_of_mem _ List.mem_cons_self) z)
    · exact jgd_0 hg
  case getstatic idx =>
    simp only [jOut, hins] at hg ha
    exact jsnd_gets hC hi hins (ha _ List.mem_cons_self trivial)
  case laload =>
    have h7 : t.a = 7 := by simpa [jstr, hins] using hst
    simp only [jOut, hins, h7, if_true] at hg ha
    unfold jBw at hg ha
    split at hg
    · exact jsnd_tab hC hi hins (hg _ List.mem_cons_self) (hg _ (List.mem_cons_of_mem _ List.mem_cons_self)) (ha _ List.mem_cons_self trivial)
    · exact jgd_0 hg
  case iaload =>
    have h7 : t.a = 7 := by simpa [jstr, hins] using hst
    simp only [jOut, hins, h7, if_true] at hg ha
    unfold jBc at hg ha
    split at hg
    · rename_i L xs k g r
      exact jsnd_scr hC hi (hX _ _ rfl) hins (hg _ List.mem_cons_self) (hg _ (List.mem_cons_of_mem _ List.mem_cons_self)) (ha _ List.mem_cons_self trivial)
    · exact jgd_0 hg
  case arraylength =>
    have h7 : t.a = 7 := by simpa [jstr, hins] using hst
    simp only [jOut, hins, h7, if_true] at hg ha
    unfold jBcl at hg ha
    split at hg
    · rename_i L xs g r
      exact jsnd_scl hC hi (hX _ _ rfl) hins (hg _ List.mem_cons_self) (ha _ List.mem_cons_self trivial)
    · exact jgd_0 hg
  case invokevirtual idx =>
    by_cases h2 : t.a = 9002
    · simp only [jOut, hins, h2, if_true] at hg ha
      unfold jBsl at hg ha
      split at hg
      · refine jsnd_sl hC hi hins h2 (hg _ ?_) (hg _ ?_) (hg _ ?_) (ha _ List.mem_cons_self trivial) <;> simp
      · exact jgd_0 hg
    by_cases h3 : t.a = 9003
    · simp only [jOut, hins, h3, if_true] at hg ha
      rw [if_neg (by decide)] at hg ha
      unfold jBsc at hg ha
      split at hg
      · refine jsnd_sc hC hi hins h3 (hg _ ?_) (hg _ ?_) (hg _ ?_) (hg _ ?_) (ha _ List.mem_cons_self trivial) <;> simp
      · exact jgd_0 hg
    by_cases h4 : t.a = 9004
    · simp only [jOut, hins, h4, if_true] at hg ha
      rw [if_neg (by decide), if_neg (by decide)] at hg ha
      unfold jBk at hg ha
      split at hg
      · refine jsnd_clone hC hi hins h4 (hg _ ?_) (hg _ ?_) (hg _ ?_) (hg _ ?_) (hg _ ?_) (ha _ List.mem_cons_self trivial) <;> simp
      · exact jgd_0 hg
    simp only [jOut, hins, h2, h3, h4, if_false] at hg ha hk
    obtain ⟨g, r, e1, e2⟩ := jBv_inv hg
    rw [e2] at hg hk
    have hlen : (st.take (t.b - 1)).length = t.b - 1 := by
      have : (t.b - 1) < st.length := by
        have := congrArg List.length e1
        simp at this
        omega
      simp; omega
    refine jsnd_callv hC hfr9 hi hins (As := (st.take (t.b - 1)).reverse) (g := g) (r := r) ?_ (by simpa using hlen) ⟨h2, h3, h4⟩ (hg _ List.mem_cons_self) (hg _ (by simp)) (hg _ (by simp)) (hg _ (by simp)) (hcall _ _ _ _ (hk _ _ _ _ _ rfl)) (fun v S' z => z)
    rw [List.reverse_reverse, ← e1, List.take_append_drop]
  case invokespecial idx =>
    have h1 : ¬ t.a = 9001 := by simpa [jstr, hins] using hst
    simp only [jOut, hins, h1, if_false] at hg ha hk
    obtain ⟨g, r, e1, e2⟩ := jBv_inv hg
    rw [e2] at hg hk
    have hlen : (st.take (t.b - 1)).length = t.b - 1 := by
      have : (t.b - 1) < st.length := by
        have := congrArg List.length e1
        simp at this
        omega
      simp; omega
    refine jsnd_calli hC hfr9 hi hins (As := (st.take (t.b - 1)).reverse) (g := g) (r := r) ?_ (by simpa using hlen) h1 (hg _ List.mem_cons_self) (hg _ (by simp)) (hg _ (by simp)) (hg _ (by simp)) (hcall _ _ _ _ (hk _ _ _ _ _ rfl)) (fun v S' z => z)
    rw [List.reverse_reverse, ← e1, List.take_append_drop]
  case invokestatic idx =>
    have h1 : ¬ 9000 ≤ t.a := by simpa [jstr, hins] using hst
    simp only [jOut, hins, h1, if_false] at hg ha hk
    unfold jBz at hg hk
    have hb : t.b ≤ st.length := hg _ List.mem_cons_self
    refine jsnd_calls hC hfr9 hi hins (As := (st.take t.b).reverse) (r := st.drop t.b) ?_ (by simp; omega) h1 (hg _ (by simp)) (hg _ (by simp)) (hg _ (by simp)) (hcall _ _ _ _ (hk _ _ _ _ _ rfl)) (fun v S' z => z)
    rw [List.reverse_reverse, List.take_append_drop]
  all_goals (exfalso; simp [jstr, hins] at hst)
/-- from the least predicate to the machine -/
theorem jsnd_L (hC : jCx p s m args meth c R E M) {d : Nat} {bud : Nat → Nat × Nat} (hfr9 : d + 9 ≤ R.frames ∧ 64 * (d + 9) ≤ R.locals) {call : Nat → List Value → JS → (Option Value → JS → Prop) → Prop} (hcall : ∀ k args S Q0, call k args S Q0 → jMet l E d bud k args S Q0) {X : Option (Nat × (Nat → Int32))} (hX : ∀ L xs, X = some (L, xs) → va_X (ad0 jX) L xs s s.heap ∧ ad0 jX < s.heap.size ∧ ¬ E.A (ad0 jX)) {Q : Option Value → JS → Prop} (hR : jRetOK p l e R s m args below meth c E M ad0 n0 Qf Q) {cf : JC} (h : jLf call bud (fun j => (jmt j).rk) X M Q cf) : jWC p l e R s m args below meth c E M ad0 n0 Qf cf :=
  h _ (fun i lv st S rc rs hs => jsnd_step hC hfr9 hcall hX hR hs) (fun i lv lv' st S rc rs hle hw ad H locs ls cells slots hP hS hl hlo2 hso he hn hc hsl => hw ad H locs ls cells slots hP hS ⟨hl.1, hl.2.1, fun j v hv => hl.2.2 j v (hle j v hv)⟩ (fun j v hv => hlo2 j v (hle j v hv)) hso he hn hc hsl)
end JSA
