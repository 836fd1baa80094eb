/-! FORKS, JUMPS, SWITCHES over the machine -/
section JS5
variable {p : Program} {l : Launch} {e : Env} {R : Room} {s : State} {m : MethodId} {args : Array Value} {below : List Frame} {meth : Method} {c : Code} {E : JE} {M : JM} {ad0 : Nat → Nat} {n0 : Nat} {Qf : State → Prop}
theorem jbr_cmp {t : JIt} {st : List Value} {cd : Prop} {r : List Value} (h : jbr t st = some (cd, r)) : (∃ k off x, t.ins = .ifCond k off ∧ st = .int x :: r) ∨ (∃ k off x y, t.ins = .if_icmp k off ∧ st = .int y :: .int x :: r) := by
  unfold jbr at h
  split at h <;> first | (cases h; rename_i h1; exact Or.inl ⟨_, _, _, h1, rfl⟩) | (cases h; rename_i h1; exact Or.inr ⟨_, _, _, _, h1, rfl⟩) | cases h
set_option maxHeartbeats 4000000 in
theorem jsnd_if (hC : jCx p s m args meth c R E M) {i : Nat} {t : JIt} (hi : M.its[i]? = some t) {lv : JL} {st : List Value} {S : JS} {rc rs : Nat} {cd : Prop} {r : List Value} (ho : jbr t st = some (cd, r))
    (h1 : cd → jWC p l e R s m args below meth c E M ad0 n0 Qf (t.a, lv, r, S, rc, rs)) (h0 : ¬ cd → jWC p l e R s m args below meth c E M ad0 n0 Qf (i + 1, lv, r, S, rc, rs)) : jWC p l e R s m args below meth c E M ad0 n0 Qf (i, lv, st, S, rc, rs) := by
  obtain ⟨hx, hb, hml, hown, hts, hE, hz, hnm, hfr, hlo, hmk⟩ := hC
  have hk := jMok_at hmk hi
  intro ad H locs ls cells slots hP hS hl hlo2 hso he hn hc hsl
  simp only at hP hl hlo2 hso hn hc hsl ⊢
  rw [jpc_at hi]
  have hso2 : jso (jN S) r := by
    rcases jbr_cmp ho with ⟨_, _, _, _, rfl⟩ | ⟨_, _, _, _, _, rfl⟩
    · exact jso_tail hso
    · exact jso_tail (jso_tail hso)
  have g1 : cd → W p l e R s m args below meth c H locs cells slots Qf (F0 m (jpc M t.a) ls (r.map (jcv ad))) := fun q => h1 q ad H locs ls cells slots hP hS hl hlo2 hso2 he hn hc hsl
  have g0 : ¬ cd → W p l e R s m args below meth c H locs cells slots Qf (F0 m (jpc M (i + 1)) ls (r.map (jcv ad))) := fun q => h0 q ad H locs ls cells slots hP hS hl hlo2 hso2 he hn hc hsl
  clear h1 h0
  obtain ⟨pc, ins, len, a, b, v, w, tl⟩ := t
  unfold jchk at hk
  rw [Bool.and_eq_true, Bool.and_eq_true, Bool.and_eq_true] at hk
  obtain ⟨⟨⟨hd, hnx⟩, hln⟩, hk⟩ := hk
  have hd := of_decide_eq_true hd
  cases ins with
  | ifCond k off =>
    have hln2 : len = 3 := by simpa [jln] using hln
    subst hln2
    have hnx2 : jpc M (i + 1) = pc + 3 := by simpa [jthru] using hnx
    have ht : (pc : Int) + off = (jpc M a : Int) := by simpa [jck1] using hk
    rw [hnx2] at g0
    obtain ⟨x, rfl⟩ : ∃ x, st = .int x :: r := by
      rcases jbr_cmp ho with ⟨_, _, x, _, e1⟩ | ⟨_, _, _, _, e1, _⟩
      · exact ⟨x, e1⟩
      · cases e1
    cases k <;> (simp only [jbr, Option.some.injEq, Prod.mk.injEq, and_true] at ho; subst ho)
    · exact lv_if_eq hx hb hd ht g1 g0
    · exact lv_if_ne hx hb hd ht g1 (fun q => g0 (fun z => z q))
    · exact lv_if_lt hx hb hd ht g1 g0
    · exact lv_if_ge hx hb hd ht g1 g0
    · exact lv_if_gt hx hb hd ht g1 g0
    · exact lv_if_le hx hb hd ht g1 g0
  | if_icmp k off =>
    have hln2 : len = 3 := by simpa [jln] using hln
    subst hln2
    have hnx2 : jpc M (i + 1) = pc + 3 := by simpa [jthru] using hnx
    have ht : (pc : Int) + off = (jpc M a : Int) := by simpa [jck1] using hk
    rw [hnx2] at g0
    obtain ⟨x, y, rfl⟩ : ∃ x y, st = .int y :: .int x :: r := by
      rcases jbr_cmp ho with ⟨_, _, _, e1, _⟩ | ⟨_, _, x, y, _, e1⟩
      · cases e1
      · exact ⟨x, y, e1⟩
    cases k <;> (simp only [jbr, Option.some.injEq, Prod.mk.injEq, and_true] at ho; subst ho)
    · exact lv_icmp_eq hx hb hd ht g1 g0
    · exact lv_icmp_ne hx hb hd ht g1 (fun q => g0 (fun z => z q))
    · exact lv_icmp_lt hx hb hd ht g1 g0
    · exact lv_icmp_ge hx hb hd ht g1 g0
    · exact lv_icmp_gt hx hb hd ht g1 g0
    · exact lv_icmp_le hx hb hd ht g1 g0
  | _ =>
    exfalso
    rcases jbr_cmp ho with ⟨_, _, _, e1, _⟩ | ⟨_, _, _, _, e1, _⟩ <;> cases e1
set_option maxHeartbeats 4000000 in
theorem jsnd_go (hC : jCx p s m args meth c R E M) {i : Nat} {t : JIt} (hi : M.its[i]? = some t) {lv : JL} {st : List Value} {S : JS} {rc rs : Nat} {j : Nat} {r : List Value} (ho : jgo t i st = some (j, r))
    (h1 : jWC p l e R s m args below meth c E M ad0 n0 Qf (j, lv, r, S, rc, rs)) : jWC p l e R s m args below meth c E M ad0 n0 Qf (i, lv, st, S, rc, rs) := by
  obtain ⟨hx, hb, hml, hown, hts, hE, hz, hnm, hfr, hlo, hmk⟩ := hC
  have hk := jMok_at hmk hi
  intro ad H locs ls cells slots hP hS hl hlo2 hso he hn hc hsl
  simp only at hP hl hlo2 hso hn hc hsl ⊢
  rw [jpc_at hi]
  obtain ⟨pc, ins, len, a, b, v, w, tl⟩ := t
  unfold jchk at hk
  rw [Bool.and_eq_true, Bool.and_eq_true, Bool.and_eq_true] at hk
  obtain ⟨⟨⟨hd, hnx⟩, hln⟩, hk⟩ := hk
  have hd := of_decide_eq_true hd
  have fin : jso (jN S) r → W p l e R s m args below meth c H locs cells slots Qf (F0 m (jpc M j) ls (r.map (jcv ad))) := fun q => h1 ad H locs ls cells slots hP hS hl hlo2 q he hn hc hsl
  unfold jgo at ho
  split at ho
  · rename_i off _ e1
    cases ho
    try simp only at e1
    subst e1
    have hln2 : len = 3 := by simpa [jln] using hln
    subst hln2
    exact lv_goto hx hb hd (by simpa [jck1] using hk) (fin hso)
  · rename_i off _ e1
    cases ho
    try simp only at e1
    subst e1
    have hln2 : len = 3 := by simpa [jln] using hln
    subst hln2
    exact lv_ifnullN hx hb hd (by simpa [jck1] using hk) (fin (jso_tail hso))
  · rename_i off _ _ e1
    cases ho
    try simp only at e1
    subst e1
    have hln2 : len = 3 := by simpa [jln] using hln
    subst hln2
    have hnx2 : jpc M (i + 1) = pc + 3 := by simpa [jthru] using hnx
    rw [hnx2] at fin
    exact lv_ifnull hx hb hd (fin (jso_tail hso))
  · rename_i off _ e1
    cases ho
    try simp only at e1
    subst e1
    have hln2 : len = 3 := by simpa [jln] using hln
    subst hln2
    have hnx2 : jpc M (i + 1) = pc + 3 := by simpa [jthru] using hnx
    rw [hnx2] at fin
    exact lv_ifnonnullN hx hb hd (fin (jso_tail hso))
  · rename_i off _ _ e1
    cases ho
    try simp only at e1
    subst e1
    have hln2 : len = 3 := by simpa [jln] using hln
    subst hln2
    exact lv_ifnonnull hx hb hd (by simpa [jck1] using hk) (fin (jso_tail hso))
  · cases ho
theorem jofInt {n : Int} (h1 : -1000 ≤ n) (h2 : n ≤ 1000) : (Int32.ofInt n).toInt = n := by
  apply Int32.toInt_ofInt_of_le <;> omega
set_option maxHeartbeats 4000000 in
theorem jsnd_sw (hC : jCx p s m args meth c R E M) {i : Nat} {t : JIt} (hi : M.its[i]? = some t) {lv : JL} {x : Int32} {r : List Value} {S : JS} {rc rs : Nat} (hq : (∃ d lo hi offs, t.ins = .tableswitch d lo hi offs) ∨ ∃ d ps, t.ins = .lookupswitch d ps)
    (h1 : ∀ q ∈ t.tl, x = q.1 → jWC p l e R s m args below meth c E M ad0 n0 Qf (q.2, lv, r, S, rc, rs)) (h0 : (∀ q ∈ t.tl, ¬ x = q.1) → jWC p l e R s m args below meth c E M ad0 n0 Qf (t.a, lv, r, S, rc, rs)) : jWC p l e R s m args below meth c E M ad0 n0 Qf (i, lv, .int x :: r, S, rc, rs) := by
  obtain ⟨hx, hb, hml, hown, hts, hE, hz, hnm, hfr, hlo, hmk⟩ := hC
  have hk := jMok_at hmk hi
  intro ad H locs ls cells slots hP hS hl hlo2 hso he hn hc hsl
  simp only at hP hl hlo2 hso hn hc hsl ⊢
  rw [jpc_at hi]
  have hso2 : jso (jN S) r := jso_tail hso
  have g1 : ∀ q ∈ t.tl, x = q.1 → W p l e R s m args below meth c H locs cells slots Qf (F0 m (jpc M q.2) ls (r.map (jcv ad))) := fun q hq2 hx2 => h1 q hq2 hx2 ad H locs ls cells slots hP hS hl hlo2 hso2 he hn hc hsl
  have g0 : (∀ q ∈ t.tl, ¬ x = q.1) → W p l e R s m args below meth c H locs cells slots Qf (F0 m (jpc M t.a) ls (r.map (jcv ad))) := fun q => h0 q ad H locs ls cells slots hP hS hl hlo2 hso2 he hn hc hsl
  clear h1 h0
  obtain ⟨pc, ins, len, a, b, v, w, tl⟩ := t
  unfold jchk at hk
  rw [Bool.and_eq_true, Bool.and_eq_true, Bool.and_eq_true] at hk
  obtain ⟨⟨⟨hd, hnx⟩, hln⟩, hk⟩ := hk
  have hd := of_decide_eq_true hd
  try simp only at hd hk g1 g0 ⊢
  rcases hq with ⟨d, lo, hi2, offs, e1⟩ | ⟨d, ps, e1⟩
  · try simp only at e1
    subst e1
    simp only [jck1, Bool.and_eq_true, decide_eq_true_eq] at hk
    obtain ⟨⟨⟨⟨⟨⟨k1, k2⟩, k3⟩, k4⟩, k5⟩, k6⟩, k7⟩ := hk
    have k7 := List.all_eq_true.mp k7
    have k5 : tl.length = (hi2 - lo + 1).toNat := k5
    have k6 : offs.size = tl.length := k6
    have k1 : (pc : Int) + d = (jpc M a : Int) := k1
    have row : ∀ j : Nat, j < tl.length → ∃ q o, tl[j]? = some q ∧ offs[j]? = some o ∧ q.1 = Int32.ofInt (lo + j) ∧ (pc : Int) + o = (jpc M q.2 : Int) := by
      intro j hj
      have := k7 j (List.mem_range.mpr hj)
      have e2 : tl[j]? = some tl[j] := List.getElem?_eq_getElem hj
      have e3 : offs[j]? = some (offs[j]'(by omega)) := Array.getElem?_eq_getElem (by omega)
      rw [e2, e3] at this
      simp only [Bool.and_eq_true, decide_eq_true_eq] at this
      exact ⟨_, _, e2, e3, this.1, this.2⟩
    by_cases hin : x.toInt < lo ∨ hi2 < x.toInt
    · refine lv_tableOut hx hb hd hin k1 (g0 fun q hq2 hx2 => ?_)
      obtain ⟨j, hj, hj2⟩ := List.getElem_of_mem hq2
      obtain ⟨q2, o, e2, e3, e4, e5⟩ := row j hj
      rw [List.getElem?_eq_getElem hj, hj2] at e2
      cases e2
      have := congrArg Int32.toInt (hx2.trans e4)
      rw [jofInt (by omega) (by omega)] at this
      omega
    · have hj : (x.toInt - lo).toNat < tl.length := by omega
      obtain ⟨q2, o, e2, e3, e4, e5⟩ := row _ hj
      refine lv_tableIn hx hb hd (fun z => hin (Or.inl z)) (fun z => hin (Or.inr z)) e3 e5 (g1 q2 (List.mem_of_getElem? e2) ?_)
      rw [e4]
      apply Int32.toInt_inj.mp
      rw [jofInt (by omega) (by omega)]
      omega
  · try simp only at e1
    subst e1
    simp only [jck1, Bool.and_eq_true, decide_eq_true_eq] at hk
    obtain ⟨⟨⟨k1, k2⟩, k3⟩, k4⟩ := hk
    have k4 := List.all_eq_true.mp k4
    have k3 : tl.length = ps.size := k3
    have k1 : (pc : Int) + d = (jpc M a : Int) := k1
    have row : ∀ j : Nat, j < tl.length → ∃ q o, tl[j]? = some q ∧ ps[j]? = some o ∧ q.1.toInt = o.1 ∧ (pc : Int) + o.2 = (jpc M q.2 : Int) := by
      intro j hj
      have := k4 j (List.mem_range.mpr hj)
      have e2 : tl[j]? = some tl[j] := List.getElem?_eq_getElem hj
      have e3 : ps[j]? = some (ps[j]'(by omega)) := Array.getElem?_eq_getElem (by omega)
      rw [e2, e3] at this
      simp only [Bool.and_eq_true, decide_eq_true_eq] at this
      exact ⟨_, _, e2, e3, this.1, this.2⟩
    have walk : ∀ (n : Nat) (l1 : List (Int32 × Nat)) (l2 : List (Int × Int)), l1.length = n → l2.length = n → (∀ q ∈ l1, q ∈ tl) → (∀ j : Nat, j < n → ∃ q o, l1[j]? = some q ∧ l2[j]? = some o ∧ q.1.toInt = o.1 ∧ (pc : Int) + o.2 = (jpc M q.2 : Int)) → (∀ q ∈ tl, x = q.1 → q ∈ l1) → ∃ tgt : Nat, (pc : Int) + Op.lookupswitch.offset l2 d x.toInt = (tgt : Int) ∧ W p l e R s m args below meth c H locs cells slots Qf (F0 m tgt ls (r.map (jcv ad))) := by
      intro n
      induction n with
      | zero =>
        intro l1 l2 e2 e3 _ _ hall
        have : l2 = [] := List.length_eq_zero_iff.mp e3
        subst this
        have : l1 = [] := List.length_eq_zero_iff.mp e2
        subst this
        refine ⟨jpc M a, ?_, g0 fun q hq2 hx2 => by have := hall q hq2 hx2; cases this⟩
        rw [Op.lookupswitch.offset_nil]
        exact k1
      | succ n ih =>
        intro l1 l2 e2 e3 hsub hrow hall
        obtain ⟨q, o, f1, f2, f3, f4⟩ := hrow 0 (by omega)
        match l1, l2, f1, f2 with
        | q' :: l1, o' :: l2, f1, f2 =>
          simp only [List.getElem?_cons_zero, Option.some.injEq] at f1 f2
          subst f1; subst f2
          by_cases hxq : x = q'.1
          · refine ⟨jpc M q'.2, ?_, g1 q' (hsub _ List.mem_cons_self) hxq⟩
            rw [Op.lookupswitch.offset_cons, if_pos (by rw [hxq]; exact f3.symm)]
            exact f4
          · obtain ⟨tgt, t1, t2⟩ := ih l1 l2 (by simpa using e2) (by simpa using e3) (fun z hz => hsub z (List.mem_cons_of_mem _ hz)) (fun j hj => by simpa using hrow (j + 1) (by omega)) (fun z hz hz2 => by
              rcases List.mem_cons.mp (hall z hz hz2) with e9 | e9
              · rw [e9] at hz2; exact absurd hz2 hxq
              · exact e9)
            refine ⟨tgt, ?_, t2⟩
            rw [Op.lookupswitch.offset_cons, if_neg (fun z => hxq (Int32.toInt_inj.mp (by rw [f3]; exact z.symm)))]
            exact t1
    obtain ⟨tgt, t1, t2⟩ := walk tl.length tl ps.toList rfl (by simpa using k3.symm) (fun _ h => h) (fun j hj => by
      obtain ⟨q, o, f1, f2, f3, f4⟩ := row j hj
      exact ⟨q, o, f1, by rw [Array.getElem?_toList]; exact f2, f3, f4⟩) (fun _ h _ => h)
    exact lv_lookup hx hb hd k2 rfl t1 t2
end JS5
