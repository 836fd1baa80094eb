/-! LOCALS, FIELDS, ARRAYS over the machine -/
section JS2
variable {p : Program} {l : Launch} {e : Env} {R : Room} {s : State} {m : MethodId} {args : Array Value} {below : List Frame} {meth : Method} {c : Code} {E : JE} {M : JM} {ad0 : Nat → Nat} {n0 : Nat} {Qf : State → Prop}
set_option maxHeartbeats 4000000 in
theorem jsnd_loc (hC : jCx p s m args meth c R E M) {i : Nat} {t : JIt} (hi : M.its[i]? = some t) {lv : JL} {st : List Value} {S : JS} {rc rs : Nat} (hs : jstr t = true)
    (hq : match t.ins with
      | .iload_n _ | .iload _ | .lload_n _ | .lload _ | .aload_n _ | .aload _ | .istore_n _ | .istore _ | .lstore_n _ | .lstore _ | .astore_n _ | .astore _ | .iinc _ _ | .ldc _ => True
      | _ => False)
    (hg : jgd (jx1 t lv st S).1) (h : jWC p l e R s m args below meth c E M ad0 n0 Qf (i + 1, (jx1 t lv st S).2.1, (jx1 t lv st S).2.2.1, (jx1 t lv st S).2.2.2, rc, rs)) : jWC p l e R s m args below meth c E M ad0 n0 Qf (i, lv, st, S, rc, rs) := by
  obtain ⟨hx, hb, hml, hown, hts, hE, hz, hnm, hfr, hlo, hmk⟩ := hC
  have hk := jMok_at hmk hi
  have hon := jMok_own hmk
  intro ad H locs ls cells slots hP hS hl hlo2 hso he hn hc hsl
  simp only at hP hl hlo2 hso hn hc hsl ⊢
  rw [jpc_at hi]
  obtain ⟨pc, ins, len, a, b, v, w, tl⟩ := t
  unfold jchk at hk
  rw [Bool.and_eq_true, Bool.and_eq_true, Bool.and_eq_true] at hk
  obtain ⟨⟨⟨hd, hnx⟩, hln⟩, hk⟩ := hk
  have hd := of_decide_eq_true hd
  simp only at hd hnx hln hk hq hg h hs ⊢
  cases ins with
  | ldc idx =>
    have hln : len = 2 := by simpa [jln] using hln
    subst hln
    have hnx2 : jpc M (i + 1) = pc + 2 := by simpa [jthru] using hnx
    by_cases hb1 : b = 1
    · simp only [jx1, jck1, hb1, if_true] at h hk
      rw [Bool.and_eq_true] at hk
      have hm := jmem3_of hk.1
      have ha := of_decide_eq_true hk.2
      have h2 := h ad H locs ls cells slots hP hS hl hlo2 (jso_cons (fun r er => by cases er; exact Or.inr (by unfold jX; omega)) hso) he hn hc hsl
      rw [hnx2] at h2
      have hR := hE.2.2.2.2.2.2.1 _ hm
      simp only at hR
      rw [← hon] at hR
      refine va_ldcS hx hb hown hR hd ?_
      rw [← hP.2.2.2.2 a ha]
      exact h2
    · simp only [jx1, jck1, hb1, if_false] at h hk
      have h2 := h ad H locs ls cells slots hP hS hl hlo2 (jso_cons (jok_int _ _) hso) he hn hc hsl
      rw [hnx2] at h2
      have hm : (M.oi, idx, v) ∈ jKL := by simpa using hk
      have hw := hts _ (jKL_ok _ hm)
      unfold jKLw at hw
      rw [← hon] at hw
      exact lv_ldc hx hb hown hw hd h2
  | iload_n k =>
    have hln : len = 1 := by simpa [jln] using hln
    subst hln
    have hnx2 : jpc M (i + 1) = pc + 1 := by simpa [jthru] using hnx
    have hka : k.val = a := by simpa [jck1] using hk
    obtain ⟨x, hv, ho⟩ := jldI_inv hg
    simp only [jx1, ho] at h
    have h2 := h ad H locs ls cells slots hP hS hl hlo2 (jso_cons (jok_int _ _) hso) he hn hc hsl
    rw [hnx2] at h2
    exact lv_iload_n hx hb hd hka (hl.2.2 _ _ hv) h2
  | iload k =>
    have hln : len = 2 := by simpa [jln] using hln
    subst hln
    have hnx2 : jpc M (i + 1) = pc + 2 := by simpa [jthru] using hnx
    have hka : k = a := by simpa [jck1] using hk
    obtain ⟨x, hv, ho⟩ := jldI_inv hg
    simp only [jx1, ho] at h
    have h2 := h ad H locs ls cells slots hP hS hl hlo2 (jso_cons (jok_int _ _) hso) he hn hc hsl
    rw [hnx2] at h2
    subst hka
    exact lv_iload hx hb hd (hl.2.2 _ _ hv) h2
  | lload_n k =>
    have hln : len = 1 := by simpa [jln] using hln
    subst hln
    have hnx2 : jpc M (i + 1) = pc + 1 := by simpa [jthru] using hnx
    have hka : k.val = a := by simpa [jck1] using hk
    obtain ⟨x, hv, ho⟩ := jldL_inv hg
    simp only [jx1, ho] at h
    have h2 := h ad H locs ls cells slots hP hS hl hlo2 (jso_cons (jok_long _ _) hso) he hn hc hsl
    rw [hnx2] at h2
    exact lv_lload_n hx hb hd hka (hl.2.2 _ _ hv) h2
  | lload k =>
    have hln : len = 2 := by simpa [jln] using hln
    subst hln
    have hnx2 : jpc M (i + 1) = pc + 2 := by simpa [jthru] using hnx
    have hka : k = a := by simpa [jck1] using hk
    obtain ⟨x, hv, ho⟩ := jldL_inv hg
    simp only [jx1, ho] at h
    have h2 := h ad H locs ls cells slots hP hS hl hlo2 (jso_cons (jok_long _ _) hso) he hn hc hsl
    rw [hnx2] at h2
    subst hka
    exact lv_lload hx hb hd (hl.2.2 _ _ hv) h2
  | aload_n k =>
    have hln : len = 1 := by simpa [jln] using hln
    subst hln
    have hnx2 : jpc M (i + 1) = pc + 1 := by simpa [jthru] using hnx
    have hka : k.val = a := by simpa [jck1] using hk
    rcases jldA_inv hg with ⟨x, hv, ho⟩ | ⟨hv, ho⟩
    · simp only [jx1, ho] at h
      have h2 := h ad H locs ls cells slots hP hS hl hlo2 (jso_cons (hlo2 _ _ hv) hso) he hn hc hsl
      rw [hnx2] at h2
      exact lv_aload_n hx hb hd hka (hl.2.2 _ _ hv) h2
    · simp only [jx1, ho] at h
      have h2 := h ad H locs ls cells slots hP hS hl hlo2 (jso_cons (jok_null _) hso) he hn hc hsl
      rw [hnx2] at h2
      exact lv_aload_nN hx hb hd hka (hl.2.2 _ _ hv) h2
  | aload k =>
    have hln : len = 2 := by simpa [jln] using hln
    subst hln
    have hnx2 : jpc M (i + 1) = pc + 2 := by simpa [jthru] using hnx
    have hka : k = a := by simpa [jck1] using hk
    subst hka
    rcases jldA_inv hg with ⟨x, hv, ho⟩ | ⟨hv, ho⟩
    · simp only [jx1, ho] at h
      have h2 := h ad H locs ls cells slots hP hS hl hlo2 (jso_cons (hlo2 _ _ hv) hso) he hn hc hsl
      rw [hnx2] at h2
      exact lv_aload hx hb hd (hl.2.2 _ _ hv) h2
    · simp only [jx1, ho] at h
      have h2 := h ad H locs ls cells slots hP hS hl hlo2 (jso_cons (jok_null _) hso) he hn hc hsl
      rw [hnx2] at h2
      exact lv_aloadN hx hb hd (hl.2.2 _ _ hv) h2
  | istore_n k =>
    have hln : len = 1 := by simpa [jln] using hln
    subst hln
    have hnx2 : jpc M (i + 1) = pc + 1 := by simpa [jthru] using hnx
    simp only [jck1, Bool.and_eq_true, decide_eq_true_eq, beq_iff_eq] at hk
    obtain ⟨hk1, hk2⟩ := hk
    obtain ⟨x, r, rfl⟩ := jstI_inv hg
    refine lv_istore_n hx hb hd hk1 (jlh_has hl) hk2 rfl (fun ls' hl' => ?_)
    have h2 := h ad H locs ls' cells slots hP hS (jlh_st1 (v := .int x) hl') (jlo_st1 hlo2 (jok_int _ _)) (jso_tail hso) he hn hc hsl
    rw [hnx2] at h2
    exact h2
  | istore k =>
    have hln : len = 2 := by simpa [jln] using hln
    subst hln
    have hnx2 : jpc M (i + 1) = pc + 2 := by simpa [jthru] using hnx
    simp only [jck1, Bool.and_eq_true, decide_eq_true_eq, beq_iff_eq] at hk
    obtain ⟨hk1, hk2⟩ := hk
    subst hk1
    obtain ⟨x, r, rfl⟩ := jstI_inv hg
    refine lv_istore hx hb hd (jlh_has hl) hk2 rfl (fun ls' hl' => ?_)
    have h2 := h ad H locs ls' cells slots hP hS (jlh_st1 (v := .int x) hl') (jlo_st1 hlo2 (jok_int _ _)) (jso_tail hso) he hn hc hsl
    rw [hnx2] at h2
    exact h2
  | lstore_n k =>
    have hln : len = 1 := by simpa [jln] using hln
    subst hln
    have hnx2 : jpc M (i + 1) = pc + 1 := by simpa [jthru] using hnx
    simp only [jck1, Bool.and_eq_true, decide_eq_true_eq, beq_iff_eq] at hk
    obtain ⟨hk1, hk2⟩ := hk
    obtain ⟨x, r, rfl⟩ := jstL_inv hg
    refine lv_lstore_n hx hb hd hk1 (jlh_has hl) hk2 rfl (fun ls' hl' => ?_)
    have h2 := h ad H locs ls' cells slots hP hS (jlh_st2 (v := .long x) hl') (jlo_st2 hlo2 (jok_long _ _)) (jso_tail hso) he hn hc hsl
    rw [hnx2] at h2
    exact h2
  | lstore k =>
    have hln : len = 2 := by simpa [jln] using hln
    subst hln
    have hnx2 : jpc M (i + 1) = pc + 2 := by simpa [jthru] using hnx
    simp only [jck1, Bool.and_eq_true, decide_eq_true_eq, beq_iff_eq] at hk
    obtain ⟨hk1, hk2⟩ := hk
    subst hk1
    obtain ⟨x, r, rfl⟩ := jstL_inv hg
    refine lv_lstore hx hb hd (jlh_has hl) hk2 rfl (fun ls' hl' => ?_)
    have h2 := h ad H locs ls' cells slots hP hS (jlh_st2 (v := .long x) hl') (jlo_st2 hlo2 (jok_long _ _)) (jso_tail hso) he hn hc hsl
    rw [hnx2] at h2
    exact h2
  | astore_n k =>
    have hln : len = 1 := by simpa [jln] using hln
    subst hln
    have hnx2 : jpc M (i + 1) = pc + 1 := by simpa [jthru] using hnx
    simp only [jck1, Bool.and_eq_true, decide_eq_true_eq, beq_iff_eq] at hk
    rcases jstA_inv hg with ⟨x, r, rfl⟩ | ⟨r, rfl⟩
    · refine lv_astore_n hx hb hd hk.1 (jlh_has hl) hk.2 rfl (fun ls' hl' => ?_)
      have h2 := h ad H locs ls' cells slots hP hS (jlh_st1 (v := .ref x) hl') (jlo_st1 hlo2 (jso_head hso)) (jso_tail hso) he hn hc hsl
      rw [hnx2] at h2
      exact h2
    · refine lv_astore_nN hx hb hd hk.1 (jlh_has hl) hk.2 rfl (fun ls' hl' => ?_)
      have h2 := h ad H locs ls' cells slots hP hS (jlh_st1 (v := .null) hl') (jlo_st1 hlo2 (jso_head hso)) (jso_tail hso) he hn hc hsl
      rw [hnx2] at h2
      exact h2
  | astore k =>
    have hln : len = 2 := by simpa [jln] using hln
    subst hln
    have hnx2 : jpc M (i + 1) = pc + 2 := by simpa [jthru] using hnx
    simp only [jck1, Bool.and_eq_true, decide_eq_true_eq, beq_iff_eq] at hk
    obtain ⟨rfl, hk2⟩ := hk
    rcases jstA_inv hg with ⟨x, r, rfl⟩ | ⟨r, rfl⟩
    · refine lv_astore hx hb hd (jlh_has hl) hk2 rfl (fun ls' hl' => ?_)
      have h2 := h ad H locs ls' cells slots hP hS (jlh_st1 (v := .ref x) hl') (jlo_st1 hlo2 (jso_head hso)) (jso_tail hso) he hn hc hsl
      rw [hnx2] at h2
      exact h2
    · refine lv_astoreN hx hb hd (jlh_has hl) hk2 rfl (fun ls' hl' => ?_)
      have h2 := h ad H locs ls' cells slots hP hS (jlh_st1 (v := .null) hl') (jlo_st1 hlo2 (jso_head hso)) (jso_tail hso) he hn hc hsl
      rw [hnx2] at h2
      exact h2
  | iinc k n =>
    have hln : len = 3 := by simpa [jln] using hln
    subst hln
    have hnx2 : jpc M (i + 1) = pc + 3 := by simpa [jthru] using hnx
    simp only [jck1, Bool.and_eq_true, decide_eq_true_eq, beq_iff_eq] at hk
    obtain ⟨⟨rfl, hk2⟩, hk3⟩ := hk
    obtain ⟨x, hv, ho⟩ := jinc_inv hg
    simp only [jx1, ho] at h
    obtain ⟨q, hq1⟩ := List.getElem?_of_mem (jas_mem (ad := ad) hv)
    refine lv_iinc (v := x + v) hx hb hd (jlh_has hl) hq1 (by rw [hk3]) hk2 rfl (fun ls' hl' => ?_)
    have h2 := h ad H locs ls' cells slots hP hS (jlh_st1 (v := .int (x + v)) hl') (jlo_st1 hlo2 (jok_int _ _)) hso he hn hc hsl
    rw [hnx2] at h2
    exact h2
  | _ => exact absurd hq (by simp)
end JS2
