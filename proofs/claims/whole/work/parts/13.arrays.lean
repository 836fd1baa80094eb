/-! ARRAYS over the machine -/
theorem jC_13 {cy : Nat → ClassId} {ad : Nat → Nat} {S : JS} {h : Nat} (hk : jK S h = 13) : jC cy ad S h = .inl (cy 13, jZ S h, .inl (jI S h)) := by simp [jC, hk]
theorem jC_15 {cy : Nat → ClassId} {ad : Nat → Nat} {S : JS} {h : Nat} (hk : jK S h = 15) : jC cy ad S h = .inl (cy 15, jZ S h, .inl (jI S h)) := by simp [jC, hk]
theorem jC_14 {cy : Nat → ClassId} {ad : Nat → Nat} {S : JS} {h : Nat} (hk : jK S h = 14) : jC cy ad S h = .inl (cy 14, jZ S h, .inr (.inl (jJ S h))) := by simp [jC, hk]
theorem jC_1x {cy : Nat → ClassId} {ad : Nat → Nat} {S : JS} {h k : Nat} (hk : jK S h = k) (h2 : k = 16 ∨ k = 17) : jC cy ad S h = .inl (cy k, jZ S h, .inr (.inr (.inr (.inr (fun i => (jR S h i).map ad))))) := by
  rcases h2 with rfl | rfl <;> simp [jC, hk]
theorem jtys_13 (cy : Nat → ClassId) : (jtys cy)[0]? = some (cy 13, .int) := rfl
theorem jtys_14 (cy : Nat → ClassId) : (jtys cy)[1]? = some (cy 14, .long) := rfl
theorem jtys_15 (cy : Nat → ClassId) : (jtys cy)[2]? = some (cy 15, .boolean) := rfl
theorem jtys_1x (cy : Nat → ClassId) {k : Nat} (h : k = 16 ∨ k = 17) : (jtys cy)[k - 13]? = some (cy k, .object (jQN k)) := by rcases h with rfl | rfl <;> rfl
theorem jget_i (S : JS) (h : Nat) (f : Nat → Int32) : jI (uIf S h f) h = f := by simp [jI, uIf, va_up]
theorem jget_j (S : JS) (h : Nat) (f : Nat → Int64) : jJ (uJf S h f) h = f := by simp [jJ, uJf, va_up]
theorem jget_r (S : JS) (h : Nat) (f : Nat → Option Nat) : jR (uRf S h f) h = f := by simp [jR, uRf, va_up]
section JS4
variable {p : Program} {l : Launch} {e : Env} {R : Room} {s : State} {m : MethodId} {args : Array Value} {below : List Frame} {meth : Method} {c : Code} {E : JE} {M : JM} {ad0 : Nat → Nat} {n0 : Nat} {Qf : State → Prop}
set_option maxHeartbeats 4000000 in
theorem jsnd_arr (hC : jCx p s m args meth c R E M) {i : Nat} {t : JIt} (hi : M.its[i]? = some t) {lv : JL} {st : List Value} {S : JS} {rc rs : Nat} (hs : jstr t = true)
    (hq : match t.ins with
      | .iaload | .laload | .baload | .iastore | .lastore | .bastore | .aastore | .arraylength | .invokestatic _ | .invokespecial _ => True
      | _ => False)
    (hg : jgd (jx1 t lv st S).1) (h : jWC p l e R s m args below meth c E M ad0 n0 Qf (i + 1, (jx1 t lv st S).2.1, (jx1 t lv st S).2.2.1, (jx1 t lv st S).2.2.2, rc, rs)) : jWC p l e R s m args below meth c E M ad0 n0 Qf (i, lv, st, S, rc, rs) := by
  obtain ⟨hx, hb, hml, hown, hts, hE, hz, hnm, hfr, hlo, hmk⟩ := hC
  have hk := jMok_at hmk hi
  have hon := jMok_own hmk
  intro ad H locs ls cells slots hP hS hl hlo2 hso he hn hc hsl
  simp only at hP hl hlo2 hso hn hc hsl ⊢
  rw [jpc_at hi]
  obtain ⟨pc, ins, len, a, b, v, w, tl⟩ := t
  unfold jchk at hk
  rw [Bool.and_eq_true, Bool.and_eq_true, Bool.and_eq_true] at hk
  obtain ⟨⟨⟨hd, hnx⟩, hln⟩, hk⟩ := hk
  have hd := of_decide_eq_true hd
  try simp only at hd hnx hln hk hq hg h hs ⊢
  cases ins with
  | iaload =>
    have hln : len = 1 := by simpa [jln] using hln
    subst hln
    have hnx2 : jpc M (i + 1) = pc + 1 := by simpa [jthru] using hnx
    have hg' : jgd (jaldI lv st S).1 := hg
    obtain ⟨j, g, r, rfl, hA, hin⟩ : ∃ j g r, st = .int j :: .ref g :: r ∧ jA S g 13 ∧ vp_in j (jZ S g) := by
      unfold jaldI at hg'; split at hg'
      · exact ⟨_, _, _, rfl, hg' _ List.mem_cons_self, hg' _ (List.mem_cons_of_mem _ List.mem_cons_self)⟩
      · exact jgd_bad hg'
    have h2 := h ad H locs ls cells slots hP hS hl hlo2 (jso_cons (jok_int _ _) (jso_tail (jso_tail hso))) he hn hc hsl
    rw [hnx2] at h2
    exact va_iald hx hb hE.1 hP.1 g 0 ((jW_at hA.1).trans (by rw [jC_13 hA.2])) (jtys_13 _) hin hd h2
  | laload =>
    have hln : len = 1 := by simpa [jln] using hln
    subst hln
    have hnx2 : jpc M (i + 1) = pc + 1 := by simpa [jthru] using hnx
    have hg' : jgd (jaldL lv st S).1 := hg
    obtain ⟨j, g, r, rfl, hA, hin⟩ : ∃ j g r, st = .int j :: .ref g :: r ∧ jA S g 14 ∧ vp_in j (jZ S g) := by
      unfold jaldL at hg'; split at hg'
      · exact ⟨_, _, _, rfl, hg' _ List.mem_cons_self, hg' _ (List.mem_cons_of_mem _ List.mem_cons_self)⟩
      · exact jgd_bad hg'
    have h2 := h ad H locs ls cells slots hP hS hl hlo2 (jso_cons (jok_long _ _) (jso_tail (jso_tail hso))) he hn hc hsl
    rw [hnx2] at h2
    exact va_lald hx hb hE.1 hP.1 g 1 ((jW_at hA.1).trans (by rw [jC_14 hA.2])) (jtys_14 _) hin hd h2
  | baload =>
    have hln : len = 1 := by simpa [jln] using hln
    subst hln
    have hnx2 : jpc M (i + 1) = pc + 1 := by simpa [jthru] using hnx
    have hg' : jgd (jaldZ lv st S).1 := hg
    obtain ⟨j, g, r, rfl, hA, hin⟩ : ∃ j g r, st = .int j :: .ref g :: r ∧ jA S g 15 ∧ vp_in j (jZ S g) := by
      unfold jaldZ at hg'; split at hg'
      · exact ⟨_, _, _, rfl, hg' _ List.mem_cons_self, hg' _ (List.mem_cons_of_mem _ List.mem_cons_self)⟩
      · exact jgd_bad hg'
    have h2 := h ad H locs ls cells slots hP hS hl hlo2 (jso_cons (jok_int _ _) (jso_tail (jso_tail hso))) he hn hc hsl
    rw [hnx2] at h2
    exact va_zald hx hb hE.1 hP.1 g 2 ((jW_at hA.1).trans (by rw [jC_15 hA.2])) (jtys_15 _) hin hd h2
  | iastore =>
    have hln : len = 1 := by simpa [jln] using hln
    subst hln
    have hnx2 : jpc M (i + 1) = pc + 1 := by simpa [jthru] using hnx
    have hg' : jgd (jastI lv st S).1 := hg
    obtain ⟨x, j, g, r, rfl, hA, hin⟩ : ∃ x j g r, st = .int x :: .int j :: .ref g :: r ∧ jA S g 13 ∧ vp_in j (jZ S g) := by
      unfold jastI at hg'; split at hg'
      · exact ⟨_, _, _, _, rfl, hg' _ List.mem_cons_self, hg' _ (List.mem_cons_of_mem _ List.mem_cons_self)⟩
      · exact jgd_bad hg'
    refine va_iast hx hb hE.1 hP.1 hP.2.1 hS g 0 ((jW_at hA.1).trans (by rw [jC_13 hA.2])) (jtys_13 _) hin hd (fun H1 locs1 hP1 hD1 hS1 => ?_)
    have h2 := h ad H1 locs1 ls cells slots (jPool_set (S' := uI S g j.toNatClampNeg x) hP rfl (by rw [jC_13 (S := uI S g j.toNatClampNeg x) hA.2]; simp only [uI, jget_i]; rfl) (fun q hq => jC_uIf hq) hP.2.2.1 hP1 hD1) hS1 hl hlo2 (jso_tail (jso_tail (jso_tail hso))) he hn hc hsl
    rw [hnx2] at h2
    exact h2
  | lastore =>
    have hln : len = 1 := by simpa [jln] using hln
    subst hln
    have hnx2 : jpc M (i + 1) = pc + 1 := by simpa [jthru] using hnx
    have hg' : jgd (jastL lv st S).1 := hg
    obtain ⟨x, j, g, r, rfl, hA, hin⟩ : ∃ x j g r, st = .long x :: .int j :: .ref g :: r ∧ jA S g 14 ∧ vp_in j (jZ S g) := by
      unfold jastL at hg'; split at hg'
      · exact ⟨_, _, _, _, rfl, hg' _ List.mem_cons_self, hg' _ (List.mem_cons_of_mem _ List.mem_cons_self)⟩
      · exact jgd_bad hg'
    refine va_last hx hb hE.1 hP.1 hP.2.1 hS g 1 ((jW_at hA.1).trans (by rw [jC_14 hA.2])) (jtys_14 _) hin hd (fun H1 locs1 hP1 hD1 hS1 => ?_)
    have h2 := h ad H1 locs1 ls cells slots (jPool_set (S' := uJ S g j.toNatClampNeg x) hP rfl (by rw [jC_14 (S := uJ S g j.toNatClampNeg x) hA.2]; simp only [uJ, jget_j]; rfl) (fun q hq => jC_uJf hq) hP.2.2.1 hP1 hD1) hS1 hl hlo2 (jso_tail (jso_tail (jso_tail hso))) he hn hc hsl
    rw [hnx2] at h2
    exact h2
  | bastore =>
    have hln : len = 1 := by simpa [jln] using hln
    subst hln
    have hnx2 : jpc M (i + 1) = pc + 1 := by simpa [jthru] using hnx
    have hg' : jgd (jastZ lv st S).1 := hg
    obtain ⟨x, j, g, r, rfl, hA, hin, hbit⟩ : ∃ x j g r, st = .int x :: .int j :: .ref g :: r ∧ jA S g 15 ∧ vp_in j (jZ S g) ∧ jbit x := by
      unfold jastZ at hg'; split at hg'
      · exact ⟨_, _, _, _, rfl, hg' _ List.mem_cons_self, hg' _ (List.mem_cons_of_mem _ List.mem_cons_self), hg' _ (List.mem_cons_of_mem _ (List.mem_cons_of_mem _ List.mem_cons_self))⟩
      · exact jgd_bad hg'
    refine va_zast hx hb hE.1 hP.1 hP.2.1 hS g 2 ((jW_at hA.1).trans (by rw [jC_15 hA.2])) (jtys_15 _) hin hd (fun H1 locs1 hP1 hD1 hS1 => ?_)
    rw [(jbit_nar hbit).2.2] at hP1 hD1
    have h2 := h ad H1 locs1 ls cells slots (jPool_set (S' := uI S g j.toNatClampNeg x) hP rfl (by rw [jC_15 (S := uI S g j.toNatClampNeg x) hA.2]; simp only [uI, jget_i]; rfl) (fun q hq => jC_uIf hq) hP.2.2.1 hP1 hD1) hS1 hl hlo2 (jso_tail (jso_tail (jso_tail hso))) he hn hc hsl
    rw [hnx2] at h2
    exact h2
  | aastore =>
    have hln : len = 1 := by simpa [jln] using hln
    subst hln
    have hnx2 : jpc M (i + 1) = pc + 1 := by simpa [jthru] using hnx
    have hg' : jgd (jastA a b lv st S).1 := hg
    simp only [jck1, Bool.or_eq_true, Bool.and_eq_true, beq_iff_eq] at hk
    have hab : (a = 16 ∨ a = 17) ∧ b < 13 ∧ jRX b = jQN a ∧ vwCl[b]? = some (jRX b, jT b, fnum b) := by
      rcases hk with ⟨rfl, rfl⟩ | ⟨rfl, rfl⟩
      · exact ⟨Or.inl rfl, by decide, rfl, rfl⟩
      · exact ⟨Or.inr rfl, by decide, rfl, rfl⟩
    have hsh : (∃ x j g r, st = .ref x :: .int j :: .ref g :: r ∧ jA S g a ∧ jA S x b ∧ vp_in j (jZ S g)) ∨ (∃ j g r, st = .null :: .int j :: .ref g :: r ∧ jA S g a ∧ vp_in j (jZ S g)) := by
      unfold jastA at hg'; split at hg'
      · exact Or.inl ⟨_, _, _, _, rfl, hg' _ List.mem_cons_self, hg' _ (List.mem_cons_of_mem _ List.mem_cons_self), hg' _ (List.mem_cons_of_mem _ (List.mem_cons_of_mem _ List.mem_cons_self))⟩
      · exact Or.inr ⟨_, _, _, rfl, hg' _ List.mem_cons_self, hg' _ (List.mem_cons_of_mem _ List.mem_cons_self)⟩
      · exact jgd_bad hg'
    have up : ∀ (f : Nat → Option Nat) (k : Nat) (o : Option Nat), (fun i => (va_up f k o i).map ad) = va_up (fun i => (f i).map ad) k (o.map ad) := by
      intro f k o; funext i; unfold va_up; split <;> rfl
    rcases hsh with ⟨x, j, g, r, rfl, hA, hA2, hin⟩ | ⟨j, g, r, rfl, hA, hin⟩
    · refine va_astq (r := (jRX b, jT b, fnum b)) hx hb hE.1 hP.1 hP.2.1 hS g (a - 13) x b ((jW_at hA.1).trans (by rw [jC_1x hA.2 hab.1])) (by rw [jtys_1x _ hab.1]; simp only [hab.2.2.1]) ((jW_at hA2.1).trans (by rw [jC_obj hA2.2 hab.2.1])) hab.2.2.2 hin hd (fun H1 locs1 hP1 hD1 hS1 => ?_)
      have h2 := h ad H1 locs1 ls cells slots (jPool_set (S' := uR S g j.toNatClampNeg (some x)) hP rfl (by rw [jC_1x (S := uR S g j.toNatClampNeg (some x)) hA.2 hab.1]; simp only [uR, jget_r]; rw [up]; rfl) (fun q hq => jC_uRf hq) (jwf_uR hP.2.2.1 (fun r2 e2 => by cases e2; exact jso_head hso x rfl)) hP1 hD1) hS1 hl hlo2 (jso_tail (jso_tail (jso_tail hso))) he hn hc hsl
      rw [hnx2] at h2
      exact h2
    · refine va_astqN hx hb hE.1 hP.1 hP.2.1 hS g (a - 13) ((jW_at hA.1).trans (by rw [jC_1x hA.2 hab.1])) (jtys_1x _ hab.1) hin hd (fun H1 locs1 hP1 hD1 hS1 => ?_)
      have h2 := h ad H1 locs1 ls cells slots (jPool_set (S' := uR S g j.toNatClampNeg none) hP rfl (by rw [jC_1x (S := uR S g j.toNatClampNeg none) hA.2 hab.1]; simp only [uR, jget_r]; rw [up]; rfl) (fun q hq => jC_uRf hq) (jwf_uR hP.2.2.1 (fun r2 e2 => by cases e2)) hP1 hD1) hS1 hl hlo2 (jso_tail (jso_tail (jso_tail hso))) he hn hc hsl
      rw [hnx2] at h2
      exact h2
  | arraylength =>
    have hln : len = 1 := by simpa [jln] using hln
    subst hln
    have hnx2 : jpc M (i + 1) = pc + 1 := by simpa [jthru] using hnx
    have hg' : jgd (jalen a lv st S).1 := hg
    have ha : a = 13 ∨ a = 14 := by
      simp only [jck1, Bool.or_eq_true, beq_iff_eq] at hk
      have h7 : ¬ a = 7 := by simpa [jstr] using hs
      rcases hk with (h | h) | h
      · exact Or.inl h
      · exact Or.inr h
      · exact absurd h h7
    obtain ⟨g, r, rfl, hA⟩ : ∃ g r, st = .ref g :: r ∧ jA S g a := by
      unfold jalen at hg'; split at hg'
      · exact ⟨_, _, rfl, hg' _ List.mem_cons_self⟩
      · exact jgd_bad hg'
    have h2 := h ad H locs ls cells slots hP hS hl hlo2 (jso_cons (jok_int _ _) (jso_tail hso)) he hn hc hsl
    rw [hnx2] at h2
    rcases ha with rfl | rfl
    · exact va_alen (x := (jZ S g, .inl (jI S g))) hx hb hE.1 hP.1 g 0 ((jW_at hA.1).trans (by rw [jC_13 hA.2])) (jtys_13 _) rfl hd h2
    · exact va_alen (x := (jZ S g, .inr (.inl (jJ S g)))) hx hb hE.1 hP.1 g 1 ((jW_at hA.1).trans (by rw [jC_14 hA.2])) (jtys_14 _) rfl hd h2
  | invokestatic idx =>
    have hln : len = 3 := by simpa [jln] using hln
    subst hln
    have hnx2 : jpc M (i + 1) = pc + 3 := by simpa [jthru] using hnx
    have ha9 : 9000 ≤ a := by simpa [jstr] using hs
    by_cases ha : a = 9000
    · subst ha
      have hg' : jgd (jcopy lv st S).1 := hg
      have hm : (M.oi, idx) ∈ jAL := jmem2_of (by simpa [jck1] using hk)
      have hw := hts _ (jAL_ok _ hm)
      unfold jALw at hw
      simp only at hw
      rw [← hon] at hw
      obtain ⟨n, dp, g1, sp, g0, r, rfl, hA0, hA1, h1, h2, h3, h4, h5, h6⟩ : ∃ n dp g1 sp g0 r, st = .int n :: .int dp :: .ref g1 :: .int sp :: .ref g0 :: r ∧ jA S g0 13 ∧ jA S g1 13 ∧ ¬ sp < 0 ∧ ¬ dp < 0 ∧ ¬ n < 0 ∧ sp.toNatClampNeg + n.toNatClampNeg ≤ jZ S g0 ∧ dp.toNatClampNeg + n.toNatClampNeg ≤ jZ S g1 ∧ (r.map fun v => v.category).sum ≤ 8 := by
        unfold jcopy at hg'; split at hg'
        · refine ⟨_, _, _, _, _, _, rfl, hg' _ ?_, hg' _ ?_, hg' _ ?_, hg' _ ?_, hg' _ ?_, hg' _ ?_, hg' _ ?_, hg' _ ?_⟩ <;> simp
        · exact jgd_bad hg'
      refine va_copyi (ty := .int) hx hb (hml.trans hl.1.symm) hown hw (hts _ jw_an) (hts _ jw_as) (hts _ jw_ai) hE.1 hP.1 hP.2.1 hS g0 g1 0 0 ((jW_at hA0.1).trans (by rw [jC_13 hA0.2])) ((jW_at hA1.1).trans (by rw [jC_13 hA1.2])) (jtys_13 _) (jtys_13 _) rfl h1 h2 h3 h4 h5 (fun _ _ => rfl) (by omega) (by rw [jcv_cats]; simp only [nativeFrameWords]; simp; omega) hd (fun H1 locs1 hP1 hD1 hS1 => ?_)
      have h7 := h ad H1 locs1 ls cells slots (jPool_set (S' := uIf S g1 (va_cpy (jI S g0) (jI S g1) sp.toNatClampNeg dp.toNatClampNeg n.toNatClampNeg)) hP rfl (by rw [jC_13 (S := uIf S g1 _) hA1.2]; simp only [jget_i]; rfl) (fun q hq => jC_uIf hq) hP.2.2.1 hP1 hD1) hS1 hl hlo2 (jso_tail (jso_tail (jso_tail (jso_tail (jso_tail hso))))) he hn hc hsl
      rw [hnx2] at h7
      exact h7
    · have h9 : ¬ (JIt.a (pc, Instr.invokestatic idx, 3, a, b, v, w, tl)) = 9000 := ha
      simp only [jck1, ha, ha9, if_false, if_true, Bool.and_eq_true] at hk
      have k1 : jmem3 jMT M.oi idx a = true := hk.1
      have k2 : a ∈ jMS := by simpa using hk.2
      have hg' : jgd (jmath a lv st S).1 := by simpa only [jx1, ha, if_false] using hg
      have hL := hts _ (jMT_ok _ (jmem3_of k1))
      have hSt := hts _ (jMS_ok _ k2)
      unfold jMTw at hL
      unfold jMSw at hSt
      simp only at hL
      rw [← hon] at hL
      simp only [jx1, ha, if_false] at h
      have hmm : a = 9010 ∨ a = 9011 ∨ a = 9012 ∨ a = 9013 ∨ a = 9014 := by simpa [jMS] using k2
      rcases hmm with rfl | rfl | rfl | rfl | rfl
      · obtain ⟨x, r, rfl, hcat⟩ : ∃ x r, st = .int x :: r ∧ (r.map fun v => v.category).sum ≤ 8 := by
          unfold jmath at hg'
          split at hg'
          · exact ⟨_, _, rfl, hg' _ (by simp)⟩
          · exact jgd_bad (by simpa using hg')
          · exact jgd_bad hg'
        have h2 := h ad H locs ls cells slots hP hS hl hlo2 (jso_cons (jok_int _ _) (jso_tail hso)) he hn hc hsl
        rw [hnx2] at h2
        exact va_mabs hx hb (hml.trans hl.1.symm) hown hL hSt (hts _ jw_mi) (hts _ jw_m9010) (by omega) (by rw [jcv_cats]; omega) (by omega) (by omega) hd h2
      · obtain ⟨x, z, r, rfl, hcat⟩ : ∃ x z r, st = .int x :: .int z :: r ∧ (r.map fun v => v.category).sum ≤ 8 := by
          unfold jmath at hg'
          split at hg'
          · rw [if_neg (by decide)] at hg'
            split at hg'
            · exact ⟨_, _, _, rfl, hg' _ (by simp)⟩
            · exact jgd_bad hg'
          · exact jgd_bad (by simpa using hg')
          · exact jgd_bad hg'
        have h2 := h ad H locs ls cells slots hP hS hl hlo2 (jso_cons (jok_int _ _) (jso_tail (jso_tail hso))) he hn hc hsl
        rw [hnx2] at h2
        exact va_mmax hx hb (hml.trans hl.1.symm) hown hL hSt (hts _ jw_mi) (hts _ jw_m9011) (by omega) (by rw [jcv_cats]; omega) (by omega) (by omega) hd h2
      · obtain ⟨x, z, r, rfl, hcat⟩ : ∃ x z r, st = .int x :: .int z :: r ∧ (r.map fun v => v.category).sum ≤ 8 := by
          unfold jmath at hg'
          split at hg'
          · rw [if_neg (by decide)] at hg'
            split at hg'
            · exact ⟨_, _, _, rfl, hg' _ (by simp)⟩
            · exact jgd_bad hg'
          · exact jgd_bad (by simpa using hg')
          · exact jgd_bad hg'
        have h2 := h ad H locs ls cells slots hP hS hl hlo2 (jso_cons (jok_int _ _) (jso_tail (jso_tail hso))) he hn hc hsl
        rw [hnx2] at h2
        exact va_mmin hx hb (hml.trans hl.1.symm) hown hL hSt (hts _ jw_mi) (hts _ jw_m9012) (by omega) (by rw [jcv_cats]; omega) (by omega) (by omega) hd h2
      · obtain ⟨x, z, r, rfl, hcat⟩ : ∃ x z r, st = .long x :: .long z :: r ∧ (r.map fun v => v.category).sum ≤ 8 := by
          unfold jmath at hg'
          split at hg'
          · rw [if_neg (by decide)] at hg'
            split at hg'
            · exact jgd_bad (by simpa using hg')
            · exact jgd_bad hg'
          · exact ⟨_, _, _, rfl, hg' _ (by simp)⟩
          · exact jgd_bad hg'
        have h2 := h ad H locs ls cells slots hP hS hl hlo2 (jso_cons (jok_long _ _) (jso_tail (jso_tail hso))) he hn hc hsl
        rw [hnx2] at h2
        exact va_mmax_long hx hb (hml.trans hl.1.symm) hown hL hSt (hts _ jw_mi) (hts _ jw_m9013) (by omega) (by rw [jcv_cats]; omega) (by omega) (by omega) hd h2
      · obtain ⟨x, z, r, rfl, hcat⟩ : ∃ x z r, st = .long x :: .long z :: r ∧ (r.map fun v => v.category).sum ≤ 8 := by
          unfold jmath at hg'
          split at hg'
          · rw [if_neg (by decide)] at hg'
            split at hg'
            · exact jgd_bad (by simpa using hg')
            · exact jgd_bad hg'
          · exact ⟨_, _, _, rfl, hg' _ (by simp)⟩
          · exact jgd_bad hg'
        have h2 := h ad H locs ls cells slots hP hS hl hlo2 (jso_cons (jok_long _ _) (jso_tail (jso_tail hso))) he hn hc hsl
        rw [hnx2] at h2
        exact va_mmin_long hx hb (hml.trans hl.1.symm) hown hL hSt (hts _ jw_mi) (hts _ jw_m9014) (by omega) (by rw [jcv_cats]; omega) (by omega) (by omega) hd h2
  | invokespecial idx =>
    have hln : len = 3 := by simpa [jln] using hln
    subst hln
    have hnx2 : jpc M (i + 1) = pc + 3 := by simpa [jthru] using hnx
    have ha : a = 9001 := by simpa [jstr] using hs
    subst ha
    have hm : (M.oi, idx) ∈ jOL := jmem2_of (by simpa [jck1] using hk)
    have hw := hts _ (jOL_ok _ hm)
    unfold jOLw at hw
    simp only at hw
    rw [← hon] at hw
    obtain ⟨g, r, rfl, hr⟩ : ∃ g r, st = .ref g :: r ∧ (r.map fun v => v.category).sum ≤ 8 := by
      simp only [jx1] at hg
      simp only [if_true] at hg
      split at hg
      · exact ⟨_, _, rfl, hg _ List.mem_cons_self⟩
      · exact jgd_bad hg
    have h2 := h ad H locs ls cells slots hP hS hl hlo2 (jso_tail hso) he hn hc hsl
    rw [hnx2] at h2
    have h0 : 2 * (F0 m pc ls (.ref (ad g) :: r.map (jcv ad))).monitorRoom + ((r.map (jcv ad)).map fun v => v.category).sum ≤ 8 := lv_room (by rw [jcv_cats]; exact hr)
    exact W.objInit hx hb hown hw (hts _ jw_oi) (hts _ jw_oc) rfl (by rw [hml]; exact hl.1) rfl hd (by omega) (by have := h0; simp only at this ⊢; omega) h2
  | _ => exact absurd hq (by simp)
end JS4
