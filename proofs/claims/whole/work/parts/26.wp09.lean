/-! weakest preconditions, by program: X12_earliest X12_findDone X12_round X12_reach X12_guard X12_sea X12_search -/
def bX12_earliest_119  (X27 : Nat → Int32 → Int32 → JS → Prop) (X119 : Nat → Int32 → Int32 → Int32 → JS → Prop) (l0 : Nat) (l3 : Int32) (l4 : Int32) (l5 : Int32) (S : JS) (Q : Int32 → JS → Prop) : Prop :=
  (4608 ≤ l5 → ∀ x12 : Int32, x12 = (l4 + 1) → (X27 l0 l3 x12 S)) ∧ (¬ (4608 ≤ l5) → jA S l0 12 ∧ (¬ jR S l0 38 = none ∧ (¬ jR S l0 39 = none ∧ (jA S (jr S l0 39) 15 ∧ (vp_in l5 (jZ S (jr S l0 39)) ∧ (jA S (jr S l0 38) 15 ∧ (vp_in l5 (jZ S (jr S l0 38)) ∧ (jbit (jI S (jr S l0 39) l5.toNatClampNeg) ∧ (∀ S21 : JS, S21 = uI S (jr S l0 38) l5.toNatClampNeg (jI S (jr S l0 39) l5.toNatClampNeg) → (∀ x22 : Int32, x22 = (l5 + 1) → (X119 l0 l3 l4 x22 S21)))))))))))
set_option maxRecDepth 20000 in
theorem uX12_earliest_119 {Q : Int32 → JS → Prop} {X27 : Nat → Int32 → Int32 → JS → Prop} (d : Nat) (hd : 1 ≤ d) (hX27 : ∀ l0 l3 l4 S, X27 l0 l3 l4 S → jLf (jCall jmt jbud d) jbud (fun j => (jmt j).rk) none mX12_earliest (jqI Q) (27, [some (.ref l0), none, none, some (.int l3), some (.int l4), none, none], [], S, 0, 0)) {X119 : Nat → Int32 → Int32 → Int32 → JS → Prop} (hX119 : ∀ l0 l3 l4 l5 S, X119 l0 l3 l4 l5 S → jLf (jCall jmt jbud d) jbud (fun j => (jmt j).rk) none mX12_earliest (jqI Q) (119, [some (.ref l0), none, none, some (.int l3), some (.int l4), some (.int l5), none], [], S, 0, 0)) {l0 : Nat} {l3 : Int32} {l4 : Int32} {l5 : Int32} {S : JS} (h : bX12_earliest_119 X27 X119 l0 l3 l4 l5 S Q) : jLf (jCall jmt jbud d) jbud (fun j => (jmt j).rk) none mX12_earliest (jqI Q) (119, [some (.ref l0), none, none, some (.int l3), some (.int l4), some (.int l5), none], [], S, 0, 0) := by
  have hc := jCall_mono jmt jbud d
  unfold bX12_earliest_119 at h
  refine jLf.bk hc 2 [] [some (.ref l0), none, none, some (.int l3), some (.int l4), some (.int l5), none] [.int 4608, .int l5] S rfl rfl rfl trivial ?_
  refine jLf.two hc _ rfl (gs := []) (p1 := 4608 ≤ l5) (p2 := ¬ (4608 ≤ l5)) (c1 := (132, [some (.ref l0), none, none, some (.int l3), some (.int l4), some (.int l5), none], [], S, 0, 0)) (c2 := (122, [some (.ref l0), none, none, some (.int l3), some (.int l4), some (.int l5), none], [], S, 0, 0)) rfl trivial (fun hz => ?_) (fun hz => ?_)
  · have h := h.1 hz
    refine jLf.bk hc 1 [] [some (.ref l0), none, none, some (.int l3), some (.int (l4 + 1)), some (.int l5), none] [] S rfl rfl rfl trivial ?_
    generalize ex12 : (l4 + 1 : Int32) = x12
    have h := h x12 ex12.symm
    refine jLf.one hc _ rfl (gs := []) (c := (27, [some (.ref l0), none, none, some (.int l3), some (.int x12), some (.int l5), none], [], S, 0, 0)) rfl trivial ?_
    refine jLf.sub [some (.ref l0), none, none, some (.int l3), some (.int x12), none, none] (jle_same (jle_same (jle_same (jle_same (jle_same (jle_none (jle_same (jle_nil _)))))))) ?_
    exact hX27 _ _ _ _ h
  · have h := h.2 hz
    obtain ⟨g13, g14, g15, g16, g17, g18, g19, g20, h⟩ := h
    refine jLf.bk hc 8 [jA S l0 12, ¬ jR S l0 38 = none, jA S l0 12, ¬ jR S l0 39 = none, jA S (jr S l0 39) 15, vp_in l5 (jZ S (jr S l0 39)), jA S (jr S l0 38) 15, vp_in l5 (jZ S (jr S l0 38)), jbit (jI S (jr S l0 39) l5.toNatClampNeg)] [some (.ref l0), none, none, some (.int l3), some (.int l4), some (.int l5), none] [] (uI S (jr S l0 38) l5.toNatClampNeg (jI S (jr S l0 39) l5.toNatClampNeg)) rfl rfl rfl ⟨g13, g14, g13, g15, g16, g17, g18, g19, g20⟩ ?_
    generalize eS21 : uI S (jr S l0 38) l5.toNatClampNeg (jI S (jr S l0 39) l5.toNatClampNeg) = S21
    have h := h S21 eS21.symm
    refine jLf.bk hc 1 [] [some (.ref l0), none, none, some (.int l3), some (.int l4), some (.int (l5 + 1)), none] [] S21 rfl rfl rfl trivial ?_
    generalize ex22 : (l5 + 1 : Int32) = x22
    have h := h x22 ex22.symm
    refine jLf.one hc _ rfl (gs := []) (c := (119, [some (.ref l0), none, none, some (.int l3), some (.int l4), some (.int x22), none], [], S21, 0, 0)) rfl trivial ?_
    exact hX119 _ _ _ _ _ h
def wX12_earliest_119  (X27 : Nat → Int32 → Int32 → JS → Prop) (l0 : Nat) (l3 : Int32) (l4 : Int32) (l5 : Int32) (S : JS) (Q : Int32 → JS → Prop) : Prop :=
  jLoop (fun (X119 : Nat × Int32 × Int32 × Int32 × JS → Prop) q => bX12_earliest_119 X27 (fun l0 l3 l4 l5 S => X119 (l0, l3, l4, l5, S)) q.1 q.2.1 q.2.2.1 q.2.2.2.1 q.2.2.2.2 Q) (l0, l3, l4, l5, S)
set_option maxRecDepth 20000 in
theorem tX12_earliest_119 {Q : Int32 → JS → Prop} {X27 : Nat → Int32 → Int32 → JS → Prop} (d : Nat) (hd : 1 ≤ d) (hX27 : ∀ l0 l3 l4 S, X27 l0 l3 l4 S → jLf (jCall jmt jbud d) jbud (fun j => (jmt j).rk) none mX12_earliest (jqI Q) (27, [some (.ref l0), none, none, some (.int l3), some (.int l4), none, none], [], S, 0, 0)) {l0 : Nat} {l3 : Int32} {l4 : Int32} {l5 : Int32} {S : JS} (h : wX12_earliest_119 X27 l0 l3 l4 l5 S Q) : jLf (jCall jmt jbud d) jbud (fun j => (jmt j).rk) none mX12_earliest (jqI Q) (119, [some (.ref l0), none, none, some (.int l3), some (.int l4), some (.int l5), none], [], S, 0, 0) := by
  have := h (fun q : Nat × Int32 × Int32 × Int32 × JS => jLf (jCall jmt jbud d) jbud (fun j => (jmt j).rk) none mX12_earliest (jqI Q) (119, [some (.ref (q.1)), none, none, some (.int (q.2.1)), some (.int (q.2.2.1)), some (.int (q.2.2.2.1)), none], [], q.2.2.2.2, 0, 0)) (fun q R hb hR => uX12_earliest_119 d hd hX27 (fun _ _ _ _ _ => hR _) hb)
  exact this
def wX12_earliest_117  (X27 : Nat → Int32 → Int32 → JS → Prop) (l0 : Nat) (l3 : Int32) (l4 : Int32) (S : JS) (Q : Int32 → JS → Prop) : Prop :=
  wX12_earliest_119 X27 l0 l3 l4 0 S Q
set_option maxRecDepth 20000 in
theorem tX12_earliest_117 {Q : Int32 → JS → Prop} {X27 : Nat → Int32 → Int32 → JS → Prop} (d : Nat) (hd : 1 ≤ d) (hX27 : ∀ l0 l3 l4 S, X27 l0 l3 l4 S → jLf (jCall jmt jbud d) jbud (fun j => (jmt j).rk) none mX12_earliest (jqI Q) (27, [some (.ref l0), none, none, some (.int l3), some (.int l4), none, none], [], S, 0, 0)) {l0 : Nat} {l3 : Int32} {l4 : Int32} {S : JS} (h : wX12_earliest_117 X27 l0 l3 l4 S Q) : jLf (jCall jmt jbud d) jbud (fun j => (jmt j).rk) none mX12_earliest (jqI Q) (117, [some (.ref l0), none, none, some (.int l3), some (.int l4), none, none], [], S, 0, 0) := by
  have hc := jCall_mono jmt jbud d
  unfold wX12_earliest_117 at h
  refine jLf.bk hc 2 [] [some (.ref l0), none, none, some (.int l3), some (.int l4), some (.int 0), none] [] S rfl rfl rfl trivial ?_
  exact tX12_earliest_119 d hd hX27 h
def wX12_earliest_115  (X27 : Nat → Int32 → Int32 → JS → Prop) (X63 : Nat → Int32 → Int32 → Int32 → JS → Prop) (l0 : Nat) (l3 : Int32) (l4 : Int32) (l5 : Int32) (S : JS) (Q : Int32 → JS → Prop) : Prop :=
  ∀ x26 : Int32, x26 = (l5 + 1) → (X63 l0 l3 l4 x26 S)
set_option maxRecDepth 20000 in
theorem tX12_earliest_115 {Q : Int32 → JS → Prop} {X27 : Nat → Int32 → Int32 → JS → Prop} {X63 : Nat → Int32 → Int32 → Int32 → JS → Prop} (d : Nat) (hd : 1 ≤ d) (hX27 : ∀ l0 l3 l4 S, X27 l0 l3 l4 S → jLf (jCall jmt jbud d) jbud (fun j => (jmt j).rk) none mX12_earliest (jqI Q) (27, [some (.ref l0), none, none, some (.int l3), some (.int l4), none, none], [], S, 0, 0)) (hX63 : ∀ l0 l3 l4 l5 S, X63 l0 l3 l4 l5 S → jLf (jCall jmt jbud d) jbud (fun j => (jmt j).rk) none mX12_earliest (jqI Q) (63, [some (.ref l0), none, none, some (.int l3), some (.int l4), some (.int l5), none], [], S, 0, 0)) {l0 : Nat} {l3 : Int32} {l4 : Int32} {l5 : Int32} {S : JS} (h : wX12_earliest_115 X27 X63 l0 l3 l4 l5 S Q) : jLf (jCall jmt jbud d) jbud (fun j => (jmt j).rk) none mX12_earliest (jqI Q) (115, [some (.ref l0), none, none, some (.int l3), some (.int l4), some (.int l5), none], [], S, 0, 0) := by
  have hc := jCall_mono jmt jbud d
  unfold wX12_earliest_115 at h
  refine jLf.bk hc 1 [] [some (.ref l0), none, none, some (.int l3), some (.int l4), some (.int (l5 + 1)), none] [] S rfl rfl rfl trivial ?_
  generalize ex26 : (l5 + 1 : Int32) = x26
  have h := h x26 ex26.symm
  refine jLf.one hc _ rfl (gs := []) (c := (63, [some (.ref l0), none, none, some (.int l3), some (.int l4), some (.int x26), none], [], S, 0, 0)) rfl trivial ?_
  exact hX63 _ _ _ _ _ h
def wX12_earliest_113  (X27 : Nat → Int32 → Int32 → JS → Prop) (X63 : Nat → Int32 → Int32 → Int32 → JS → Prop) (X74 : Nat → Int32 → Int32 → Int32 → Int32 → JS → Prop) (l0 : Nat) (l3 : Int32) (l4 : Int32) (l5 : Int32) (l6 : Int32) (S : JS) (Q : Int32 → JS → Prop) : Prop :=
  ∀ x37 : Int32, x37 = (l6 + 1) → (X74 l0 l3 l4 l5 x37 S)
set_option maxRecDepth 20000 in
theorem tX12_earliest_113 {Q : Int32 → JS → Prop} {X27 : Nat → Int32 → Int32 → JS → Prop} {X63 : Nat → Int32 → Int32 → Int32 → JS → Prop} {X74 : Nat → Int32 → Int32 → Int32 → Int32 → JS → Prop} (d : Nat) (hd : 1 ≤ d) (hX27 : ∀ l0 l3 l4 S, X27 l0 l3 l4 S → jLf (jCall jmt jbud d) jbud (fun j => (jmt j).rk) none mX12_earliest (jqI Q) (27, [some (.ref l0), none, none, some (.int l3), some (.int l4), none, none], [], S, 0, 0)) (hX63 : ∀ l0 l3 l4 l5 S, X63 l0 l3 l4 l5 S → jLf (jCall jmt jbud d) jbud (fun j => (jmt j).rk) none mX12_earliest (jqI Q) (63, [some (.ref l0), none, none, some (.int l3), some (.int l4), some (.int l5), none], [], S, 0, 0)) (hX74 : ∀ l0 l3 l4 l5 l6 S, X74 l0 l3 l4 l5 l6 S → jLf (jCall jmt jbud d) jbud (fun j => (jmt j).rk) none mX12_earliest (jqI Q) (74, [some (.ref l0), none, none, some (.int l3), some (.int l4), some (.int l5), some (.int l6)], [], S, 0, 0)) {l0 : Nat} {l3 : Int32} {l4 : Int32} {l5 : Int32} {l6 : Int32} {S : JS} (h : wX12_earliest_113 X27 X63 X74 l0 l3 l4 l5 l6 S Q) : jLf (jCall jmt jbud d) jbud (fun j => (jmt j).rk) none mX12_earliest (jqI Q) (113, [some (.ref l0), none, none, some (.int l3), some (.int l4), some (.int l5), some (.int l6)], [], S, 0, 0) := by
  have hc := jCall_mono jmt jbud d
  unfold wX12_earliest_113 at h
  refine jLf.bk hc 1 [] [some (.ref l0), none, none, some (.int l3), some (.int l4), some (.int l5), some (.int (l6 + 1))] [] S rfl rfl rfl trivial ?_
  generalize ex37 : (l6 + 1 : Int32) = x37
  have h := h x37 ex37.symm
  refine jLf.one hc _ rfl (gs := []) (c := (74, [some (.ref l0), none, none, some (.int l3), some (.int l4), some (.int l5), some (.int x37)], [], S, 0, 0)) rfl trivial ?_
  exact hX74 _ _ _ _ _ _ h
def bX12_earliest_74  (X27 : Nat → Int32 → Int32 → JS → Prop) (X63 : Nat → Int32 → Int32 → Int32 → JS → Prop) (X74 : Nat → Int32 → Int32 → Int32 → Int32 → JS → Prop) (l0 : Nat) (l3 : Int32) (l4 : Int32) (l5 : Int32) (l6 : Int32) (S : JS) (Q : Int32 → JS → Prop) : Prop :=
  jA S l0 12 ∧ (wX12_rocks l0 S (fun r24 S23 => (r24 ≤ l6 → wX12_earliest_115 X27 X63 l0 l3 l4 l5 S23 Q) ∧ (¬ (r24 ≤ l6) → jA S23 l0 12 ∧ (¬ jR S23 l0 38 = none ∧ (jA S23 (jr S23 l0 38) 15 ∧ (vp_in l5 (jZ S23 (jr S23 l0 38)) ∧ (((jI S23 (jr S23 l0 38) l5.toNatClampNeg) = 0 → wX12_earliest_115 X27 X63 l0 l3 l4 l5 S23 Q) ∧ (¬ (jI S23 (jr S23 l0 38) l5.toNatClampNeg) = 0 → ¬ jR S23 l0 33 = none ∧ (¬ (512 : Int32) = 0 ∧ (jA S23 (jr S23 l0 33) 13 ∧ (vp_in (((9 : Int32) * l4) + (l5 / (512 : Int32))) (jZ S23 (jr S23 l0 33)) ∧ (wX12_is (jI S23 (jr S23 l0 33) (((9 : Int32) * l4) + (l5 / (512 : Int32))).toNatClampNeg) l6 S23 (fun r36 S35 => (r36 = 0 → wX12_earliest_113 X27 X63 X74 l0 l3 l4 l5 l6 S35 Q) ∧ (¬ r36 = 0 → jA S35 l0 12 ∧ (¬ jR S35 l0 39 = none ∧ (jA S35 (jr S35 l0 39) 15 ∧ (vp_in (((512 : Int32) * l6) + ((l5 - l5 / (512 : Int32) * (512 : Int32)) ||| (l3 &&& ((1 : Int32) <<< (l6 &&& 31))))) (jZ S35 (jr S35 l0 39)) ∧ (∀ S42 : JS, S42 = uI S35 (jr S35 l0 39) (((512 : Int32) * l6) + ((l5 - l5 / (512 : Int32) * (512 : Int32)) ||| (l3 &&& ((1 : Int32) <<< (l6 &&& 31))))).toNatClampNeg 1 → (wX12_earliest_113 X27 X63 X74 l0 l3 l4 l5 l6 S42 Q)))))))))))))))))))
set_option maxRecDepth 20000 in
theorem uX12_earliest_74 {Q : Int32 → JS → Prop} {X27 : Nat → Int32 → Int32 → JS → Prop} {X63 : Nat → Int32 → Int32 → Int32 → JS → Prop} (d : Nat) (hd : 1 ≤ d) (hX27 : ∀ l0 l3 l4 S, X27 l0 l3 l4 S → jLf (jCall jmt jbud d) jbud (fun j => (jmt j).rk) none mX12_earliest (jqI Q) (27, [some (.ref l0), none, none, some (.int l3), some (.int l4), none, none], [], S, 0, 0)) (hX63 : ∀ l0 l3 l4 l5 S, X63 l0 l3 l4 l5 S → jLf (jCall jmt jbud d) jbud (fun j => (jmt j).rk) none mX12_earliest (jqI Q) (63, [some (.ref l0), none, none, some (.int l3), some (.int l4), some (.int l5), none], [], S, 0, 0)) {X74 : Nat → Int32 → Int32 → Int32 → Int32 → JS → Prop} (hX74 : ∀ l0 l3 l4 l5 l6 S, X74 l0 l3 l4 l5 l6 S → jLf (jCall jmt jbud d) jbud (fun j => (jmt j).rk) none mX12_earliest (jqI Q) (74, [some (.ref l0), none, none, some (.int l3), some (.int l4), some (.int l5), some (.int l6)], [], S, 0, 0)) {l0 : Nat} {l3 : Int32} {l4 : Int32} {l5 : Int32} {l6 : Int32} {S : JS} (h : bX12_earliest_74 X27 X63 X74 l0 l3 l4 l5 l6 S Q) : jLf (jCall jmt jbud d) jbud (fun j => (jmt j).rk) none mX12_earliest (jqI Q) (74, [some (.ref l0), none, none, some (.int l3), some (.int l4), some (.int l5), some (.int l6)], [], S, 0, 0) := by
  have hc := jCall_mono jmt jbud d
  unfold bX12_earliest_74 at h
  refine jLf.bk hc 2 [] [some (.ref l0), none, none, some (.int l3), some (.int l4), some (.int l5), some (.int l6)] [.ref l0, .int l6] S rfl rfl rfl trivial ?_
  obtain ⟨g25, h⟩ := h
  refine jLf.inv hc _ rfl (gs := [jA S l0 12, (([.int l6] : List Value).map fun v => v.category).sum ≤ 8, 0 ≤ 0, 0 ≤ 0]) (k := 154) (args := [.ref l0]) (r := [.int l6]) (a := 0) (b := 0) rfl ⟨g25, Nat.le_of_ble_eq_true rfl, Nat.zero_le _, Nat.zero_le _⟩ (vX12_rocks d (by omega) h) ?_
  rintro v S23 ⟨r24, rfl, h⟩
  show jLf (jCall jmt jbud d) jbud (fun j => (jmt j).rk) none mX12_earliest (jqI Q) (77, [some (.ref l0), none, none, some (.int l3), some (.int l4), some (.int l5), some (.int l6)], [.int r24, .int l6], S23, 0, 0)
  refine jLf.two hc _ rfl (gs := []) (p1 := r24 ≤ l6) (p2 := ¬ (r24 ≤ l6)) (c1 := (115, [some (.ref l0), none, none, some (.int l3), some (.int l4), some (.int l5), some (.int l6)], [], S23, 0, 0)) (c2 := (78, [some (.ref l0), none, none, some (.int l3), some (.int l4), some (.int l5), some (.int l6)], [], S23, 0, 0)) rfl trivial (fun hz => ?_) (fun hz => ?_)
  · have h := h.1 hz
    refine jLf.sub [some (.ref l0), none, none, some (.int l3), some (.int l4), some (.int l5), none] (jle_same (jle_same (jle_same (jle_same (jle_same (jle_same (jle_none (jle_nil _)))))))) ?_
    exact tX12_earliest_115 d hd hX27 hX63 h
  · have h := h.2 hz
    obtain ⟨g27, g28, g29, g30, h⟩ := h
    refine jLf.bk hc 4 [jA S23 l0 12, ¬ jR S23 l0 38 = none, jA S23 (jr S23 l0 38) 15, vp_in l5 (jZ S23 (jr S23 l0 38))] [some (.ref l0), none, none, some (.int l3), some (.int l4), some (.int l5), some (.int l6)] [.int (jI S23 (jr S23 l0 38) l5.toNatClampNeg)] S23 rfl rfl rfl ⟨g27, g28, g29, g30⟩ ?_
    refine jLf.two hc _ rfl (gs := []) (p1 := (jI S23 (jr S23 l0 38) l5.toNatClampNeg) = 0) (p2 := ¬ ((jI S23 (jr S23 l0 38) l5.toNatClampNeg) = 0)) (c1 := (115, [some (.ref l0), none, none, some (.int l3), some (.int l4), some (.int l5), some (.int l6)], [], S23, 0, 0)) (c2 := (83, [some (.ref l0), none, none, some (.int l3), some (.int l4), some (.int l5), some (.int l6)], [], S23, 0, 0)) rfl trivial (fun hz => ?_) (fun hz => ?_)
    · have h := h.1 hz
      refine jLf.sub [some (.ref l0), none, none, some (.int l3), some (.int l4), some (.int l5), none] (jle_same (jle_same (jle_same (jle_same (jle_same (jle_same (jle_none (jle_nil _)))))))) ?_
      exact tX12_earliest_115 d hd hX27 hX63 h
    · have h := h.2 hz
      obtain ⟨g31, g32, g33, g34, h⟩ := h
      refine jLf.bk hc 11 [jA S23 l0 12, ¬ jR S23 l0 33 = none, ¬ (512 : Int32) = 0, jA S23 (jr S23 l0 33) 13, vp_in (((9 : Int32) * l4) + (l5 / (512 : Int32))) (jZ S23 (jr S23 l0 33))] [some (.ref l0), none, none, some (.int l3), some (.int l4), some (.int l5), some (.int l6)] [.int l6, .int (jI S23 (jr S23 l0 33) (((9 : Int32) * l4) + (l5 / (512 : Int32))).toNatClampNeg)] S23 rfl rfl rfl ⟨g27, g31, g32, g33, g34⟩ ?_
      refine jLf.inv hc _ rfl (gs := [2 ≤ ([.int l6, .int (jI S23 (jr S23 l0 33) (((9 : Int32) * l4) + (l5 / (512 : Int32))).toNatClampNeg)] : List Value).length, (([] : List Value).map fun v => v.category).sum ≤ 8, 0 ≤ 0, 0 ≤ 0]) (k := 149) (args := [.int (jI S23 (jr S23 l0 33) (((9 : Int32) * l4) + (l5 / (512 : Int32))).toNatClampNeg), .int l6]) (r := []) (a := 0) (b := 0) rfl ⟨Nat.le_of_ble_eq_true rfl, Nat.le_of_ble_eq_true rfl, Nat.zero_le _, Nat.zero_le _⟩ (vX12_is d (by omega) h) ?_
      rintro v S35 ⟨r36, rfl, h⟩
      show jLf (jCall jmt jbud d) jbud (fun j => (jmt j).rk) none mX12_earliest (jqI Q) (95, [some (.ref l0), none, none, some (.int l3), some (.int l4), some (.int l5), some (.int l6)], [.int r36], S35, 0, 0)
      refine jLf.two hc _ rfl (gs := []) (p1 := r36 = 0) (p2 := ¬ (r36 = 0)) (c1 := (113, [some (.ref l0), none, none, some (.int l3), some (.int l4), some (.int l5), some (.int l6)], [], S35, 0, 0)) (c2 := (96, [some (.ref l0), none, none, some (.int l3), some (.int l4), some (.int l5), some (.int l6)], [], S35, 0, 0)) rfl trivial (fun hz => ?_) (fun hz => ?_)
      · have h := h.1 hz
        exact tX12_earliest_113 d hd hX27 hX63 hX74 h
      · have h := h.2 hz
        obtain ⟨g38, g39, g40, g41, h⟩ := h
        refine jLf.bk hc 17 [jA S35 l0 12, ¬ jR S35 l0 39 = none, ¬ (512 : Int32) = 0, jA S35 (jr S35 l0 39) 15, vp_in (((512 : Int32) * l6) + ((l5 - l5 / (512 : Int32) * (512 : Int32)) ||| (l3 &&& ((1 : Int32) <<< (l6 &&& 31))))) (jZ S35 (jr S35 l0 39)), jbit 1] [some (.ref l0), none, none, some (.int l3), some (.int l4), some (.int l5), some (.int l6)] [] (uI S35 (jr S35 l0 39) (((512 : Int32) * l6) + ((l5 - l5 / (512 : Int32) * (512 : Int32)) ||| (l3 &&& ((1 : Int32) <<< (l6 &&& 31))))).toNatClampNeg 1) rfl rfl rfl ⟨g38, g39, g32, g40, g41, (Or.inr rfl)⟩ ?_
        generalize eS42 : uI S35 (jr S35 l0 39) (((512 : Int32) * l6) + ((l5 - l5 / (512 : Int32) * (512 : Int32)) ||| (l3 &&& ((1 : Int32) <<< (l6 &&& 31))))).toNatClampNeg 1 = S42
        have h := h S42 eS42.symm
        exact tX12_earliest_113 d hd hX27 hX63 hX74 h
def wX12_earliest_74  (X27 : Nat → Int32 → Int32 → JS → Prop) (X63 : Nat → Int32 → Int32 → Int32 → JS → Prop) (l0 : Nat) (l3 : Int32) (l4 : Int32) (l5 : Int32) (l6 : Int32) (S : JS) (Q : Int32 → JS → Prop) : Prop :=
  jLoop (fun (X74 : Nat × Int32 × Int32 × Int32 × Int32 × JS → Prop) q => bX12_earliest_74 X27 X63 (fun l0 l3 l4 l5 l6 S => X74 (l0, l3, l4, l5, l6, S)) q.1 q.2.1 q.2.2.1 q.2.2.2.1 q.2.2.2.2.1 q.2.2.2.2.2 Q) (l0, l3, l4, l5, l6, S)
set_option maxRecDepth 20000 in
theorem tX12_earliest_74 {Q : Int32 → JS → Prop} {X27 : Nat → Int32 → Int32 → JS → Prop} {X63 : Nat → Int32 → Int32 → Int32 → JS → Prop} (d : Nat) (hd : 1 ≤ d) (hX27 : ∀ l0 l3 l4 S, X27 l0 l3 l4 S → jLf (jCall jmt jbud d) jbud (fun j => (jmt j).rk) none mX12_earliest (jqI Q) (27, [some (.ref l0), none, none, some (.int l3), some (.int l4), none, none], [], S, 0, 0)) (hX63 : ∀ l0 l3 l4 l5 S, X63 l0 l3 l4 l5 S → jLf (jCall jmt jbud d) jbud (fun j => (jmt j).rk) none mX12_earliest (jqI Q) (63, [some (.ref l0), none, none, some (.int l3), some (.int l4), some (.int l5), none], [], S, 0, 0)) {l0 : Nat} {l3 : Int32} {l4 : Int32} {l5 : Int32} {l6 : Int32} {S : JS} (h : wX12_earliest_74 X27 X63 l0 l3 l4 l5 l6 S Q) : jLf (jCall jmt jbud d) jbud (fun j => (jmt j).rk) none mX12_earliest (jqI Q) (74, [some (.ref l0), none, none, some (.int l3), some (.int l4), some (.int l5), some (.int l6)], [], S, 0, 0) := by
  have := h (fun q : Nat × Int32 × Int32 × Int32 × Int32 × JS => jLf (jCall jmt jbud d) jbud (fun j => (jmt j).rk) none mX12_earliest (jqI Q) (74, [some (.ref (q.1)), none, none, some (.int (q.2.1)), some (.int (q.2.2.1)), some (.int (q.2.2.2.1)), some (.int (q.2.2.2.2.1))], [], q.2.2.2.2.2, 0, 0)) (fun q R hb hR => uX12_earliest_74 d hd hX27 hX63 (fun _ _ _ _ _ _ => hR _) hb)
  exact this
def bX12_earliest_63  (X27 : Nat → Int32 → Int32 → JS → Prop) (X63 : Nat → Int32 → Int32 → Int32 → JS → Prop) (l0 : Nat) (l3 : Int32) (l4 : Int32) (l5 : Int32) (S : JS) (Q : Int32 → JS → Prop) : Prop :=
  jA S l0 12 ∧ (wX12_rocks l0 S (fun r10 S9 => (((512 : Int32) * r10) ≤ l5 → wX12_earliest_117 X27 l0 l3 l4 S9 Q) ∧ (¬ (((512 : Int32) * r10) ≤ l5) → (59 ≤ l4 → wX12_earliest_117 X27 l0 l3 l4 S9 Q) ∧ (¬ (59 ≤ l4) → wX12_earliest_74 X27 X63 l0 l3 l4 l5 0 S9 Q))))
set_option maxRecDepth 20000 in
theorem uX12_earliest_63 {Q : Int32 → JS → Prop} {X27 : Nat → Int32 → Int32 → JS → Prop} (d : Nat) (hd : 1 ≤ d) (hX27 : ∀ l0 l3 l4 S, X27 l0 l3 l4 S → jLf (jCall jmt jbud d) jbud (fun j => (jmt j).rk) none mX12_earliest (jqI Q) (27, [some (.ref l0), none, none, some (.int l3), some (.int l4), none, none], [], S, 0, 0)) {X63 : Nat → Int32 → Int32 → Int32 → JS → Prop} (hX63 : ∀ l0 l3 l4 l5 S, X63 l0 l3 l4 l5 S → jLf (jCall jmt jbud d) jbud (fun j => (jmt j).rk) none mX12_earliest (jqI Q) (63, [some (.ref l0), none, none, some (.int l3), some (.int l4), some (.int l5), none], [], S, 0, 0)) {l0 : Nat} {l3 : Int32} {l4 : Int32} {l5 : Int32} {S : JS} (h : bX12_earliest_63 X27 X63 l0 l3 l4 l5 S Q) : jLf (jCall jmt jbud d) jbud (fun j => (jmt j).rk) none mX12_earliest (jqI Q) (63, [some (.ref l0), none, none, some (.int l3), some (.int l4), some (.int l5), none], [], S, 0, 0) := by
  have hc := jCall_mono jmt jbud d
  unfold bX12_earliest_63 at h
  refine jLf.bk hc 3 [] [some (.ref l0), none, none, some (.int l3), some (.int l4), some (.int l5), none] [.ref l0, .int 512, .int l5] S rfl rfl rfl trivial ?_
  obtain ⟨g11, h⟩ := h
  refine jLf.inv hc _ rfl (gs := [jA S l0 12, (([.int 512, .int l5] : List Value).map fun v => v.category).sum ≤ 8, 0 ≤ 0, 0 ≤ 0]) (k := 154) (args := [.ref l0]) (r := [.int 512, .int l5]) (a := 0) (b := 0) rfl ⟨g11, Nat.le_of_ble_eq_true rfl, Nat.zero_le _, Nat.zero_le _⟩ (vX12_rocks d (by omega) h) ?_
  rintro v S9 ⟨r10, rfl, h⟩
  show jLf (jCall jmt jbud d) jbud (fun j => (jmt j).rk) none mX12_earliest (jqI Q) (67, [some (.ref l0), none, none, some (.int l3), some (.int l4), some (.int l5), none], [.int r10, .int 512, .int l5], S9, 0, 0)
  refine jLf.bk hc 1 [] [some (.ref l0), none, none, some (.int l3), some (.int l4), some (.int l5), none] [.int ((512 : Int32) * r10), .int l5] S9 rfl rfl rfl trivial ?_
  refine jLf.two hc _ rfl (gs := []) (p1 := ((512 : Int32) * r10) ≤ l5) (p2 := ¬ (((512 : Int32) * r10) ≤ l5)) (c1 := (117, [some (.ref l0), none, none, some (.int l3), some (.int l4), some (.int l5), none], [], S9, 0, 0)) (c2 := (69, [some (.ref l0), none, none, some (.int l3), some (.int l4), some (.int l5), none], [], S9, 0, 0)) rfl trivial (fun hz => ?_) (fun hz => ?_)
  · have h := h.1 hz
    refine jLf.sub [some (.ref l0), none, none, some (.int l3), some (.int l4), none, none] (jle_same (jle_same (jle_same (jle_same (jle_same (jle_none (jle_same (jle_nil _)))))))) ?_
    exact tX12_earliest_117 d hd hX27 h
  · have h := h.2 hz
    refine jLf.bk hc 2 [] [some (.ref l0), none, none, some (.int l3), some (.int l4), some (.int l5), none] [.int 59, .int l4] S9 rfl rfl rfl trivial ?_
    refine jLf.two hc _ rfl (gs := []) (p1 := 59 ≤ l4) (p2 := ¬ (59 ≤ l4)) (c1 := (117, [some (.ref l0), none, none, some (.int l3), some (.int l4), some (.int l5), none], [], S9, 0, 0)) (c2 := (72, [some (.ref l0), none, none, some (.int l3), some (.int l4), some (.int l5), none], [], S9, 0, 0)) rfl trivial (fun hz => ?_) (fun hz => ?_)
    · have h := h.1 hz
      refine jLf.sub [some (.ref l0), none, none, some (.int l3), some (.int l4), none, none] (jle_same (jle_same (jle_same (jle_same (jle_same (jle_none (jle_same (jle_nil _)))))))) ?_
      exact tX12_earliest_117 d hd hX27 h
    · have h := h.2 hz
      refine jLf.bk hc 2 [] [some (.ref l0), none, none, some (.int l3), some (.int l4), some (.int l5), some (.int 0)] [] S9 rfl rfl rfl trivial ?_
      exact tX12_earliest_74 d hd hX27 hX63 h
def wX12_earliest_63  (X27 : Nat → Int32 → Int32 → JS → Prop) (l0 : Nat) (l3 : Int32) (l4 : Int32) (l5 : Int32) (S : JS) (Q : Int32 → JS → Prop) : Prop :=
  jLoop (fun (X63 : Nat × Int32 × Int32 × Int32 × JS → Prop) q => bX12_earliest_63 X27 (fun l0 l3 l4 l5 S => X63 (l0, l3, l4, l5, S)) q.1 q.2.1 q.2.2.1 q.2.2.2.1 q.2.2.2.2 Q) (l0, l3, l4, l5, S)
set_option maxRecDepth 20000 in
theorem tX12_earliest_63 {Q : Int32 → JS → Prop} {X27 : Nat → Int32 → Int32 → JS → Prop} (d : Nat) (hd : 1 ≤ d) (hX27 : ∀ l0 l3 l4 S, X27 l0 l3 l4 S → jLf (jCall jmt jbud d) jbud (fun j => (jmt j).rk) none mX12_earliest (jqI Q) (27, [some (.ref l0), none, none, some (.int l3), some (.int l4), none, none], [], S, 0, 0)) {l0 : Nat} {l3 : Int32} {l4 : Int32} {l5 : Int32} {S : JS} (h : wX12_earliest_63 X27 l0 l3 l4 l5 S Q) : jLf (jCall jmt jbud d) jbud (fun j => (jmt j).rk) none mX12_earliest (jqI Q) (63, [some (.ref l0), none, none, some (.int l3), some (.int l4), some (.int l5), none], [], S, 0, 0) := by
  have := h (fun q : Nat × Int32 × Int32 × Int32 × JS => jLf (jCall jmt jbud d) jbud (fun j => (jmt j).rk) none mX12_earliest (jqI Q) (63, [some (.ref (q.1)), none, none, some (.int (q.2.1)), some (.int (q.2.2.1)), some (.int (q.2.2.2.1)), none], [], q.2.2.2.2, 0, 0)) (fun q R hb hR => uX12_earliest_63 d hd hX27 (fun _ _ _ _ _ => hR _) hb)
  exact this
def bX12_earliest_51  (X27 : Nat → Int32 → Int32 → JS → Prop) (X51 : Nat → Int32 → Int32 → Int32 → JS → Prop) (l0 : Nat) (l3 : Int32) (l4 : Int32) (l5 : Int32) (S : JS) (Q : Int32 → JS → Prop) : Prop :=
  (4608 ≤ l5 → wX12_earliest_63 X27 l0 l3 l4 0 S Q) ∧ (¬ (4608 ≤ l5) → jA S l0 12 ∧ (¬ jR S l0 39 = none ∧ (jA S (jr S l0 39) 15 ∧ (vp_in l5 (jZ S (jr S l0 39)) ∧ (∀ S47 : JS, S47 = uI S (jr S l0 39) l5.toNatClampNeg 0 → (∀ x48 : Int32, x48 = (l5 + 1) → (X51 l0 l3 l4 x48 S47)))))))
set_option maxRecDepth 20000 in
theorem uX12_earliest_51 {Q : Int32 → JS → Prop} {X27 : Nat → Int32 → Int32 → JS → Prop} (d : Nat) (hd : 1 ≤ d) (hX27 : ∀ l0 l3 l4 S, X27 l0 l3 l4 S → jLf (jCall jmt jbud d) jbud (fun j => (jmt j).rk) none mX12_earliest (jqI Q) (27, [some (.ref l0), none, none, some (.int l3), some (.int l4), none, none], [], S, 0, 0)) {X51 : Nat → Int32 → Int32 → Int32 → JS → Prop} (hX51 : ∀ l0 l3 l4 l5 S, X51 l0 l3 l4 l5 S → jLf (jCall jmt jbud d) jbud (fun j => (jmt j).rk) none mX12_earliest (jqI Q) (51, [some (.ref l0), none, none, some (.int l3), some (.int l4), some (.int l5), none], [], S, 0, 0)) {l0 : Nat} {l3 : Int32} {l4 : Int32} {l5 : Int32} {S : JS} (h : bX12_earliest_51 X27 X51 l0 l3 l4 l5 S Q) : jLf (jCall jmt jbud d) jbud (fun j => (jmt j).rk) none mX12_earliest (jqI Q) (51, [some (.ref l0), none, none, some (.int l3), some (.int l4), some (.int l5), none], [], S, 0, 0) := by
  have hc := jCall_mono jmt jbud d
  unfold bX12_earliest_51 at h
  refine jLf.bk hc 2 [] [some (.ref l0), none, none, some (.int l3), some (.int l4), some (.int l5), none] [.int 4608, .int l5] S rfl rfl rfl trivial ?_
  refine jLf.two hc _ rfl (gs := []) (p1 := 4608 ≤ l5) (p2 := ¬ (4608 ≤ l5)) (c1 := (61, [some (.ref l0), none, none, some (.int l3), some (.int l4), some (.int l5), none], [], S, 0, 0)) (c2 := (54, [some (.ref l0), none, none, some (.int l3), some (.int l4), some (.int l5), none], [], S, 0, 0)) rfl trivial (fun hz => ?_) (fun hz => ?_)
  · have h := h.1 hz
    refine jLf.bk hc 2 [] [some (.ref l0), none, none, some (.int l3), some (.int l4), some (.int 0), none] [] S rfl rfl rfl trivial ?_
    exact tX12_earliest_63 d hd hX27 h
  · have h := h.2 hz
    obtain ⟨g43, g44, g45, g46, h⟩ := h
    refine jLf.bk hc 5 [jA S l0 12, ¬ jR S l0 39 = none, jA S (jr S l0 39) 15, vp_in l5 (jZ S (jr S l0 39)), jbit 0] [some (.ref l0), none, none, some (.int l3), some (.int l4), some (.int l5), none] [] (uI S (jr S l0 39) l5.toNatClampNeg 0) rfl rfl rfl ⟨g43, g44, g45, g46, (Or.inl rfl)⟩ ?_
    generalize eS47 : uI S (jr S l0 39) l5.toNatClampNeg 0 = S47
    have h := h S47 eS47.symm
    refine jLf.bk hc 1 [] [some (.ref l0), none, none, some (.int l3), some (.int l4), some (.int (l5 + 1)), none] [] S47 rfl rfl rfl trivial ?_
    generalize ex48 : (l5 + 1 : Int32) = x48
    have h := h x48 ex48.symm
    refine jLf.one hc _ rfl (gs := []) (c := (51, [some (.ref l0), none, none, some (.int l3), some (.int l4), some (.int x48), none], [], S47, 0, 0)) rfl trivial ?_
    exact hX51 _ _ _ _ _ h
def wX12_earliest_51  (X27 : Nat → Int32 → Int32 → JS → Prop) (l0 : Nat) (l3 : Int32) (l4 : Int32) (l5 : Int32) (S : JS) (Q : Int32 → JS → Prop) : Prop :=
  jLoop (fun (X51 : Nat × Int32 × Int32 × Int32 × JS → Prop) q => bX12_earliest_51 X27 (fun l0 l3 l4 l5 S => X51 (l0, l3, l4, l5, S)) q.1 q.2.1 q.2.2.1 q.2.2.2.1 q.2.2.2.2 Q) (l0, l3, l4, l5, S)
set_option maxRecDepth 20000 in
theorem tX12_earliest_51 {Q : Int32 → JS → Prop} {X27 : Nat → Int32 → Int32 → JS → Prop} (d : Nat) (hd : 1 ≤ d) (hX27 : ∀ l0 l3 l4 S, X27 l0 l3 l4 S → jLf (jCall jmt jbud d) jbud (fun j => (jmt j).rk) none mX12_earliest (jqI Q) (27, [some (.ref l0), none, none, some (.int l3), some (.int l4), none, none], [], S, 0, 0)) {l0 : Nat} {l3 : Int32} {l4 : Int32} {l5 : Int32} {S : JS} (h : wX12_earliest_51 X27 l0 l3 l4 l5 S Q) : jLf (jCall jmt jbud d) jbud (fun j => (jmt j).rk) none mX12_earliest (jqI Q) (51, [some (.ref l0), none, none, some (.int l3), some (.int l4), some (.int l5), none], [], S, 0, 0) := by
  have := h (fun q : Nat × Int32 × Int32 × Int32 × JS => jLf (jCall jmt jbud d) jbud (fun j => (jmt j).rk) none mX12_earliest (jqI Q) (51, [some (.ref (q.1)), none, none, some (.int (q.2.1)), some (.int (q.2.2.1)), some (.int (q.2.2.2.1)), none], [], q.2.2.2.2, 0, 0)) (fun q R hb hR => uX12_earliest_51 d hd hX27 (fun _ _ _ _ _ => hR _) hb)
  exact this
def bX12_earliest_32  (X27 : Nat → Int32 → Int32 → JS → Prop) (X32 : Nat → Int32 → Int32 → Int32 → JS → Prop) (l0 : Nat) (l3 : Int32) (l4 : Int32) (l5 : Int32) (S : JS) (Q : Int32 → JS → Prop) : Prop :=
  jA S l0 12 ∧ (wX12_rocks l0 S (fun r7 S6 => (r7 ≤ l5 → wX12_earliest_51 X27 l0 l3 l4 0 S6 Q) ∧ (¬ (r7 ≤ l5) → jA S6 l0 12 ∧ (¬ jR S6 l0 38 = none ∧ (jA S6 (jr S6 l0 38) 15 ∧ (vp_in (((512 : Int32) * l5) + l3) (jZ S6 (jr S6 l0 38)) ∧ (((jI S6 (jr S6 l0 38) (((512 : Int32) * l5) + l3).toNatClampNeg) = 0 → ∀ x53 : Int32, x53 = (l5 + 1) → (X32 l0 l3 l4 x53 S6)) ∧ (¬ (jI S6 (jr S6 l0 38) (((512 : Int32) * l5) + l3).toNatClampNeg) = 0 → Q l4 S6))))))))
set_option maxRecDepth 20000 in
theorem uX12_earliest_32 {Q : Int32 → JS → Prop} {X27 : Nat → Int32 → Int32 → JS → Prop} (d : Nat) (hd : 1 ≤ d) (hX27 : ∀ l0 l3 l4 S, X27 l0 l3 l4 S → jLf (jCall jmt jbud d) jbud (fun j => (jmt j).rk) none mX12_earliest (jqI Q) (27, [some (.ref l0), none, none, some (.int l3), some (.int l4), none, none], [], S, 0, 0)) {X32 : Nat → Int32 → Int32 → Int32 → JS → Prop} (hX32 : ∀ l0 l3 l4 l5 S, X32 l0 l3 l4 l5 S → jLf (jCall jmt jbud d) jbud (fun j => (jmt j).rk) none mX12_earliest (jqI Q) (32, [some (.ref l0), none, none, some (.int l3), some (.int l4), some (.int l5), none], [], S, 0, 0)) {l0 : Nat} {l3 : Int32} {l4 : Int32} {l5 : Int32} {S : JS} (h : bX12_earliest_32 X27 X32 l0 l3 l4 l5 S Q) : jLf (jCall jmt jbud d) jbud (fun j => (jmt j).rk) none mX12_earliest (jqI Q) (32, [some (.ref l0), none, none, some (.int l3), some (.int l4), some (.int l5), none], [], S, 0, 0) := by
  have hc := jCall_mono jmt jbud d
  unfold bX12_earliest_32 at h
  refine jLf.bk hc 2 [] [some (.ref l0), none, none, some (.int l3), some (.int l4), some (.int l5), none] [.ref l0, .int l5] S rfl rfl rfl trivial ?_
  obtain ⟨g8, h⟩ := h
  refine jLf.inv hc _ rfl (gs := [jA S l0 12, (([.int l5] : List Value).map fun v => v.category).sum ≤ 8, 0 ≤ 0, 0 ≤ 0]) (k := 154) (args := [.ref l0]) (r := [.int l5]) (a := 0) (b := 0) rfl ⟨g8, Nat.le_of_ble_eq_true rfl, Nat.zero_le _, Nat.zero_le _⟩ (vX12_rocks d (by omega) h) ?_
  rintro v S6 ⟨r7, rfl, h⟩
  show jLf (jCall jmt jbud d) jbud (fun j => (jmt j).rk) none mX12_earliest (jqI Q) (35, [some (.ref l0), none, none, some (.int l3), some (.int l4), some (.int l5), none], [.int r7, .int l5], S6, 0, 0)
  refine jLf.two hc _ rfl (gs := []) (p1 := r7 ≤ l5) (p2 := ¬ (r7 ≤ l5)) (c1 := (49, [some (.ref l0), none, none, some (.int l3), some (.int l4), some (.int l5), none], [], S6, 0, 0)) (c2 := (36, [some (.ref l0), none, none, some (.int l3), some (.int l4), some (.int l5), none], [], S6, 0, 0)) rfl trivial (fun hz => ?_) (fun hz => ?_)
  · have h := h.1 hz
    refine jLf.bk hc 2 [] [some (.ref l0), none, none, some (.int l3), some (.int l4), some (.int 0), none] [] S6 rfl rfl rfl trivial ?_
    exact tX12_earliest_51 d hd hX27 h
  · have h := h.2 hz
    obtain ⟨g49, g50, g51, g52, h⟩ := h
    refine jLf.bk hc 8 [jA S6 l0 12, ¬ jR S6 l0 38 = none, jA S6 (jr S6 l0 38) 15, vp_in (((512 : Int32) * l5) + l3) (jZ S6 (jr S6 l0 38))] [some (.ref l0), none, none, some (.int l3), some (.int l4), some (.int l5), none] [.int (jI S6 (jr S6 l0 38) (((512 : Int32) * l5) + l3).toNatClampNeg)] S6 rfl rfl rfl ⟨g49, g50, g51, g52⟩ ?_
    refine jLf.two hc _ rfl (gs := []) (p1 := (jI S6 (jr S6 l0 38) (((512 : Int32) * l5) + l3).toNatClampNeg) = 0) (p2 := ¬ ((jI S6 (jr S6 l0 38) (((512 : Int32) * l5) + l3).toNatClampNeg) = 0)) (c1 := (47, [some (.ref l0), none, none, some (.int l3), some (.int l4), some (.int l5), none], [], S6, 0, 0)) (c2 := (45, [some (.ref l0), none, none, some (.int l3), some (.int l4), some (.int l5), none], [], S6, 0, 0)) rfl trivial (fun hz => ?_) (fun hz => ?_)
    · have h := h.1 hz
      refine jLf.bk hc 1 [] [some (.ref l0), none, none, some (.int l3), some (.int l4), some (.int (l5 + 1)), none] [] S6 rfl rfl rfl trivial ?_
      generalize ex53 : (l5 + 1 : Int32) = x53
      have h := h x53 ex53.symm
      refine jLf.one hc _ rfl (gs := []) (c := (32, [some (.ref l0), none, none, some (.int l3), some (.int l4), some (.int x53), none], [], S6, 0, 0)) rfl trivial ?_
      exact hX32 _ _ _ _ _ h
    · have h := h.2 hz
      refine jLf.bk hc 1 [] [some (.ref l0), none, none, some (.int l3), some (.int l4), some (.int l5), none] [.int l4] S6 rfl rfl rfl trivial ?_
      exact jLf.ret hc _ rfl (gs := [True]) (v := some (.int l4)) rfl trivial ⟨l4, rfl, h⟩
def wX12_earliest_32  (X27 : Nat → Int32 → Int32 → JS → Prop) (l0 : Nat) (l3 : Int32) (l4 : Int32) (l5 : Int32) (S : JS) (Q : Int32 → JS → Prop) : Prop :=
  jLoop (fun (X32 : Nat × Int32 × Int32 × Int32 × JS → Prop) q => bX12_earliest_32 X27 (fun l0 l3 l4 l5 S => X32 (l0, l3, l4, l5, S)) q.1 q.2.1 q.2.2.1 q.2.2.2.1 q.2.2.2.2 Q) (l0, l3, l4, l5, S)
set_option maxRecDepth 20000 in
theorem tX12_earliest_32 {Q : Int32 → JS → Prop} {X27 : Nat → Int32 → Int32 → JS → Prop} (d : Nat) (hd : 1 ≤ d) (hX27 : ∀ l0 l3 l4 S, X27 l0 l3 l4 S → jLf (jCall jmt jbud d) jbud (fun j => (jmt j).rk) none mX12_earliest (jqI Q) (27, [some (.ref l0), none, none, some (.int l3), some (.int l4), none, none], [], S, 0, 0)) {l0 : Nat} {l3 : Int32} {l4 : Int32} {l5 : Int32} {S : JS} (h : wX12_earliest_32 X27 l0 l3 l4 l5 S Q) : jLf (jCall jmt jbud d) jbud (fun j => (jmt j).rk) none mX12_earliest (jqI Q) (32, [some (.ref l0), none, none, some (.int l3), some (.int l4), some (.int l5), none], [], S, 0, 0) := by
  have := h (fun q : Nat × Int32 × Int32 × Int32 × JS => jLf (jCall jmt jbud d) jbud (fun j => (jmt j).rk) none mX12_earliest (jqI Q) (32, [some (.ref (q.1)), none, none, some (.int (q.2.1)), some (.int (q.2.2.1)), some (.int (q.2.2.2.1)), none], [], q.2.2.2.2, 0, 0)) (fun q R hb hR => uX12_earliest_32 d hd hX27 (fun _ _ _ _ _ => hR _) hb)
  exact this
def bX12_earliest_27   (X27 : Nat → Int32 → Int32 → JS → Prop) (l0 : Nat) (l3 : Int32) (l4 : Int32) (S : JS) (Q : Int32 → JS → Prop) : Prop :=
  (59 < l4 → Q (-1) S) ∧ (¬ (59 < l4) → wX12_earliest_32 X27 l0 l3 l4 0 S Q)
set_option maxRecDepth 20000 in
theorem uX12_earliest_27 {Q : Int32 → JS → Prop}  (d : Nat) (hd : 1 ≤ d) {X27 : Nat → Int32 → Int32 → JS → Prop} (hX27 : ∀ l0 l3 l4 S, X27 l0 l3 l4 S → jLf (jCall jmt jbud d) jbud (fun j => (jmt j).rk) none mX12_earliest (jqI Q) (27, [some (.ref l0), none, none, some (.int l3), some (.int l4), none, none], [], S, 0, 0)) {l0 : Nat} {l3 : Int32} {l4 : Int32} {S : JS} (h : bX12_earliest_27 X27 l0 l3 l4 S Q) : jLf (jCall jmt jbud d) jbud (fun j => (jmt j).rk) none mX12_earliest (jqI Q) (27, [some (.ref l0), none, none, some (.int l3), some (.int l4), none, none], [], S, 0, 0) := by
  have hc := jCall_mono jmt jbud d
  unfold bX12_earliest_27 at h
  refine jLf.bk hc 2 [] [some (.ref l0), none, none, some (.int l3), some (.int l4), none, none] [.int 59, .int l4] S rfl rfl rfl trivial ?_
  refine jLf.two hc _ rfl (gs := []) (p1 := 59 < l4) (p2 := ¬ (59 < l4)) (c1 := (134, [some (.ref l0), none, none, some (.int l3), some (.int l4), none, none], [], S, 0, 0)) (c2 := (30, [some (.ref l0), none, none, some (.int l3), some (.int l4), none, none], [], S, 0, 0)) rfl trivial (fun hz => ?_) (fun hz => ?_)
  · have h := h.1 hz
    refine jLf.bk hc 1 [] [some (.ref l0), none, none, some (.int l3), some (.int l4), none, none] [.int (-1)] S rfl rfl rfl trivial ?_
    exact jLf.ret hc _ rfl (gs := [True]) (v := some (.int (-1))) rfl trivial ⟨(-1), rfl, h⟩
  · have h := h.2 hz
    refine jLf.bk hc 2 [] [some (.ref l0), none, none, some (.int l3), some (.int l4), some (.int 0), none] [] S rfl rfl rfl trivial ?_
    exact tX12_earliest_32 d hd hX27 h
def wX12_earliest_27   (l0 : Nat) (l3 : Int32) (l4 : Int32) (S : JS) (Q : Int32 → JS → Prop) : Prop :=
  jLoop (fun (X27 : Nat × Int32 × Int32 × JS → Prop) q => bX12_earliest_27 (fun l0 l3 l4 S => X27 (l0, l3, l4, S)) q.1 q.2.1 q.2.2.1 q.2.2.2 Q) (l0, l3, l4, S)
set_option maxRecDepth 20000 in
theorem tX12_earliest_27 {Q : Int32 → JS → Prop}  (d : Nat) (hd : 1 ≤ d) {l0 : Nat} {l3 : Int32} {l4 : Int32} {S : JS} (h : wX12_earliest_27 l0 l3 l4 S Q) : jLf (jCall jmt jbud d) jbud (fun j => (jmt j).rk) none mX12_earliest (jqI Q) (27, [some (.ref l0), none, none, some (.int l3), some (.int l4), none, none], [], S, 0, 0) := by
  have := h (fun q : Nat × Int32 × Int32 × JS => jLf (jCall jmt jbud d) jbud (fun j => (jmt j).rk) none mX12_earliest (jqI Q) (27, [some (.ref (q.1)), none, none, some (.int (q.2.1)), some (.int (q.2.2.1)), none, none], [], q.2.2.2, 0, 0)) (fun q R hb hR => uX12_earliest_27 d hd  (fun _ _ _ _ => hR _) hb)
  exact this
def bX12_earliest_2   (X2 : Nat → Int32 → Int32 → Int32 → Int32 → JS → Prop) (l0 : Nat) (l1 : Int32) (l2 : Int32) (l3 : Int32) (l4 : Int32) (S : JS) (Q : Int32 → JS → Prop) : Prop :=
  (4608 ≤ l4 → jA S l0 12 ∧ (¬ jR S l0 38 = none ∧ (jA S (jr S l0 38) 15 ∧ (vp_in (((512 : Int32) * l1) + (l3 &&& ((1 : Int32) <<< (l1 &&& 31)))) (jZ S (jr S l0 38)) ∧ (∀ S5 : JS, S5 = uI S (jr S l0 38) (((512 : Int32) * l1) + (l3 &&& ((1 : Int32) <<< (l1 &&& 31)))).toNatClampNeg 1 → (wX12_earliest_27 l0 l3 l2 S5 Q)))))) ∧ (¬ (4608 ≤ l4) → jA S l0 12 ∧ (¬ jR S l0 38 = none ∧ (jA S (jr S l0 38) 15 ∧ (vp_in l4 (jZ S (jr S l0 38)) ∧ (∀ S58 : JS, S58 = uI S (jr S l0 38) l4.toNatClampNeg 0 → (∀ x59 : Int32, x59 = (l4 + 1) → (X2 l0 l1 l2 l3 x59 S58)))))))
set_option maxRecDepth 20000 in
theorem uX12_earliest_2 {Q : Int32 → JS → Prop}  (d : Nat) (hd : 1 ≤ d) {X2 : Nat → Int32 → Int32 → Int32 → Int32 → JS → Prop} (hX2 : ∀ l0 l1 l2 l3 l4 S, X2 l0 l1 l2 l3 l4 S → jLf (jCall jmt jbud d) jbud (fun j => (jmt j).rk) none mX12_earliest (jqI Q) (2, [some (.ref l0), some (.int l1), some (.int l2), some (.int l3), some (.int l4), none, none], [], S, 0, 0)) {l0 : Nat} {l1 : Int32} {l2 : Int32} {l3 : Int32} {l4 : Int32} {S : JS} (h : bX12_earliest_2 X2 l0 l1 l2 l3 l4 S Q) : jLf (jCall jmt jbud d) jbud (fun j => (jmt j).rk) none mX12_earliest (jqI Q) (2, [some (.ref l0), some (.int l1), some (.int l2), some (.int l3), some (.int l4), none, none], [], S, 0, 0) := by
  have hc := jCall_mono jmt jbud d
  unfold bX12_earliest_2 at h
  refine jLf.bk hc 2 [] [some (.ref l0), some (.int l1), some (.int l2), some (.int l3), some (.int l4), none, none] [.int 4608, .int l4] S rfl rfl rfl trivial ?_
  refine jLf.two hc _ rfl (gs := []) (p1 := 4608 ≤ l4) (p2 := ¬ (4608 ≤ l4)) (c1 := (12, [some (.ref l0), some (.int l1), some (.int l2), some (.int l3), some (.int l4), none, none], [], S, 0, 0)) (c2 := (5, [some (.ref l0), some (.int l1), some (.int l2), some (.int l3), some (.int l4), none, none], [], S, 0, 0)) rfl trivial (fun hz => ?_) (fun hz => ?_)
  · have h := h.1 hz
    obtain ⟨g1, g2, g3, g4, h⟩ := h
    refine jLf.bk hc 13 [jA S l0 12, ¬ jR S l0 38 = none, jA S (jr S l0 38) 15, vp_in (((512 : Int32) * l1) + (l3 &&& ((1 : Int32) <<< (l1 &&& 31)))) (jZ S (jr S l0 38)), jbit 1] [some (.ref l0), some (.int l1), some (.int l2), some (.int l3), some (.int l4), none, none] [] (uI S (jr S l0 38) (((512 : Int32) * l1) + (l3 &&& ((1 : Int32) <<< (l1 &&& 31)))).toNatClampNeg 1) rfl rfl rfl ⟨g1, g2, g3, g4, (Or.inr rfl)⟩ ?_
    generalize eS5 : uI S (jr S l0 38) (((512 : Int32) * l1) + (l3 &&& ((1 : Int32) <<< (l1 &&& 31)))).toNatClampNeg 1 = S5
    have h := h S5 eS5.symm
    refine jLf.bk hc 2 [] [some (.ref l0), some (.int l1), some (.int l2), some (.int l3), some (.int l2), none, none] [] S5 rfl rfl rfl trivial ?_
    refine jLf.sub [some (.ref l0), none, none, some (.int l3), some (.int l2), none, none] (jle_same (jle_none (jle_none (jle_same (jle_same (jle_same (jle_same (jle_nil _)))))))) ?_
    exact tX12_earliest_27 d hd  h
  · have h := h.2 hz
    obtain ⟨g54, g55, g56, g57, h⟩ := h
    refine jLf.bk hc 5 [jA S l0 12, ¬ jR S l0 38 = none, jA S (jr S l0 38) 15, vp_in l4 (jZ S (jr S l0 38)), jbit 0] [some (.ref l0), some (.int l1), some (.int l2), some (.int l3), some (.int l4), none, none] [] (uI S (jr S l0 38) l4.toNatClampNeg 0) rfl rfl rfl ⟨g54, g55, g56, g57, (Or.inl rfl)⟩ ?_
    generalize eS58 : uI S (jr S l0 38) l4.toNatClampNeg 0 = S58
    have h := h S58 eS58.symm
    refine jLf.bk hc 1 [] [some (.ref l0), some (.int l1), some (.int l2), some (.int l3), some (.int (l4 + 1)), none, none] [] S58 rfl rfl rfl trivial ?_
    generalize ex59 : (l4 + 1 : Int32) = x59
    have h := h x59 ex59.symm
    refine jLf.one hc _ rfl (gs := []) (c := (2, [some (.ref l0), some (.int l1), some (.int l2), some (.int l3), some (.int x59), none, none], [], S58, 0, 0)) rfl trivial ?_
    exact hX2 _ _ _ _ _ _ h
def wX12_earliest_2   (l0 : Nat) (l1 : Int32) (l2 : Int32) (l3 : Int32) (l4 : Int32) (S : JS) (Q : Int32 → JS → Prop) : Prop :=
  jLoop (fun (X2 : Nat × Int32 × Int32 × Int32 × Int32 × JS → Prop) q => bX12_earliest_2 (fun l0 l1 l2 l3 l4 S => X2 (l0, l1, l2, l3, l4, S)) q.1 q.2.1 q.2.2.1 q.2.2.2.1 q.2.2.2.2.1 q.2.2.2.2.2 Q) (l0, l1, l2, l3, l4, S)
set_option maxRecDepth 20000 in
theorem tX12_earliest_2 {Q : Int32 → JS → Prop}  (d : Nat) (hd : 1 ≤ d) {l0 : Nat} {l1 : Int32} {l2 : Int32} {l3 : Int32} {l4 : Int32} {S : JS} (h : wX12_earliest_2 l0 l1 l2 l3 l4 S Q) : jLf (jCall jmt jbud d) jbud (fun j => (jmt j).rk) none mX12_earliest (jqI Q) (2, [some (.ref l0), some (.int l1), some (.int l2), some (.int l3), some (.int l4), none, none], [], S, 0, 0) := by
  have := h (fun q : Nat × Int32 × Int32 × Int32 × Int32 × JS => jLf (jCall jmt jbud d) jbud (fun j => (jmt j).rk) none mX12_earliest (jqI Q) (2, [some (.ref (q.1)), some (.int (q.2.1)), some (.int (q.2.2.1)), some (.int (q.2.2.2.1)), some (.int (q.2.2.2.2.1)), none, none], [], q.2.2.2.2.2, 0, 0)) (fun q R hb hR => uX12_earliest_2 d hd  (fun _ _ _ _ _ _ => hR _) hb)
  exact this
def wX12_earliest  (this : Nat) (p1 : Int32) (p2 : Int32) (p3 : Int32) (S : JS) (Q : Int32 → JS → Prop) : Prop :=
  wX12_earliest_2 this p1 p2 p3 0 S Q
set_option maxRecDepth 20000 in
theorem vX12_earliest {Q : Int32 → JS → Prop} (d : Nat) (hd : 2 ≤ d) {this : Nat} {p1 : Int32} {p2 : Int32} {p3 : Int32} {S : JS} (h : wX12_earliest this p1 p2 p3 S Q) : jCall jmt jbud d 220 [.ref this, .int p1, .int p2, .int p3] S (jqI Q) := by
  obtain ⟨d, rfl⟩ : ∃ d2, d = d2 + 1 := ⟨d - 1, by omega⟩
  have hd : 1 ≤ d := by omega
  have hc := jCall_mono jmt jbud d
  unfold wX12_earliest at h
  refine ⟨Nat.le_of_ble_eq_true rfl, ?_⟩
  show jLf (jCall jmt jbud d) jbud (fun j => (jmt j).rk) none mX12_earliest (jqI Q) (0, [some (.ref this), some (.int p1), some (.int p2), some (.int p3), none, none, none], [], S, 0, 0)
  refine jLf.bk hc 2 [] [some (.ref this), some (.int p1), some (.int p2), some (.int p3), some (.int 0), none, none] [] S rfl rfl rfl trivial ?_
  exact tX12_earliest_2 d hd  h
def wX12_findDone_78  (X2 : Nat → Int32 → Int32 → Int32 → Int32 → JS → Prop) (X7 : Nat → Int32 → Int32 → Int32 → Int32 → Int32 → JS → Prop) (l0 : Nat) (l1 : Int32) (l2 : Int32) (l3 : Int32) (l4 : Int32) (l5 : Int32) (l6 : Int32) (S : JS) (Q : JS → Prop) : Prop :=
  jA S l0 12 ∧ (¬ jR S l0 37 = none ∧ (jA S (jr S l0 37) 15 ∧ (vp_in (((4608 : Int32) * l4) + l5) (jZ S (jr S l0 37)) ∧ (jbit l6 ∧ (∀ S13 : JS, S13 = uI S (jr S l0 37) (((4608 : Int32) * l4) + l5).toNatClampNeg l6 → (∀ x14 : Int32, x14 = (l5 + 1) → (X7 l0 l1 l2 l3 l4 x14 S13)))))))
set_option maxRecDepth 20000 in
theorem tX12_findDone_78 {Q : JS → Prop} {X2 : Nat → Int32 → Int32 → Int32 → Int32 → JS → Prop} {X7 : Nat → Int32 → Int32 → Int32 → Int32 → Int32 → JS → Prop} (d : Nat) (hd : 1 ≤ d) (hX2 : ∀ l0 l1 l2 l3 l4 S, X2 l0 l1 l2 l3 l4 S → jLf (jCall jmt jbud d) jbud (fun j => (jmt j).rk) none mX12_findDone (jqV Q) (2, [some (.ref l0), some (.int l1), some (.int l2), some (.int l3), some (.int l4), none, none, none], [], S, 0, 0)) (hX7 : ∀ l0 l1 l2 l3 l4 l5 S, X7 l0 l1 l2 l3 l4 l5 S → jLf (jCall jmt jbud d) jbud (fun j => (jmt j).rk) none mX12_findDone (jqV Q) (7, [some (.ref l0), some (.int l1), some (.int l2), some (.int l3), some (.int l4), some (.int l5), none, none], [], S, 0, 0)) {l0 : Nat} {l1 : Int32} {l2 : Int32} {l3 : Int32} {l4 : Int32} {l5 : Int32} {l6 : Int32} {S : JS} (h : wX12_findDone_78 X2 X7 l0 l1 l2 l3 l4 l5 l6 S Q) : jLf (jCall jmt jbud d) jbud (fun j => (jmt j).rk) none mX12_findDone (jqV Q) (78, [some (.ref l0), some (.int l1), some (.int l2), some (.int l3), some (.int l4), some (.int l5), some (.int l6), none], [], S, 0, 0) := by
  have hc := jCall_mono jmt jbud d
  unfold wX12_findDone_78 at h
  obtain ⟨g8, g9, g10, g11, g12, h⟩ := h
  refine jLf.bk hc 9 [jA S l0 12, ¬ jR S l0 37 = none, jA S (jr S l0 37) 15, vp_in (((4608 : Int32) * l4) + l5) (jZ S (jr S l0 37)), jbit l6] [some (.ref l0), some (.int l1), some (.int l2), some (.int l3), some (.int l4), some (.int l5), some (.int l6), none] [] (uI S (jr S l0 37) (((4608 : Int32) * l4) + l5).toNatClampNeg l6) rfl rfl rfl ⟨g8, g9, g10, g11, g12⟩ ?_
  generalize eS13 : uI S (jr S l0 37) (((4608 : Int32) * l4) + l5).toNatClampNeg l6 = S13
  have h := h S13 eS13.symm
  refine jLf.bk hc 1 [] [some (.ref l0), some (.int l1), some (.int l2), some (.int l3), some (.int l4), some (.int (l5 + 1)), some (.int l6), none] [] S13 rfl rfl rfl trivial ?_
  generalize ex14 : (l5 + 1 : Int32) = x14
  have h := h x14 ex14.symm
  refine jLf.one hc _ rfl (gs := []) (c := (7, [some (.ref l0), some (.int l1), some (.int l2), some (.int l3), some (.int l4), some (.int x14), some (.int l6), none], [], S13, 0, 0)) rfl trivial ?_
  refine jLf.sub [some (.ref l0), some (.int l1), some (.int l2), some (.int l3), some (.int l4), some (.int x14), none, none] (jle_same (jle_same (jle_same (jle_same (jle_same (jle_same (jle_none (jle_same (jle_nil _))))))))) ?_
  exact hX7 _ _ _ _ _ _ _ h
def wX12_findDone_75  (X2 : Nat → Int32 → Int32 → Int32 → Int32 → JS → Prop) (X7 : Nat → Int32 → Int32 → Int32 → Int32 → Int32 → JS → Prop) (X27 : Nat → Int32 → Int32 → Int32 → Int32 → Int32 → Int32 → Int32 → JS → Prop) (l0 : Nat) (l1 : Int32) (l2 : Int32) (l3 : Int32) (l4 : Int32) (l5 : Int32) (l7 : Int32) (s0 : Int32) (S : JS) (Q : JS → Prop) : Prop :=
  ∀ x22 : Int32, x22 = (l7 + 1) → (X27 l0 l1 l2 l3 l4 l5 s0 x22 S)
set_option maxRecDepth 20000 in
theorem tX12_findDone_75 {Q : JS → Prop} {X2 : Nat → Int32 → Int32 → Int32 → Int32 → JS → Prop} {X7 : Nat → Int32 → Int32 → Int32 → Int32 → Int32 → JS → Prop} {X27 : Nat → Int32 → Int32 → Int32 → Int32 → Int32 → Int32 → Int32 → JS → Prop} (d : Nat) (hd : 1 ≤ d) (hX2 : ∀ l0 l1 l2 l3 l4 S, X2 l0 l1 l2 l3 l4 S → jLf (jCall jmt jbud d) jbud (fun j => (jmt j).rk) none mX12_findDone (jqV Q) (2, [some (.ref l0), some (.int l1), some (.int l2), some (.int l3), some (.int l4), none, none, none], [], S, 0, 0)) (hX7 : ∀ l0 l1 l2 l3 l4 l5 S, X7 l0 l1 l2 l3 l4 l5 S → jLf (jCall jmt jbud d) jbud (fun j => (jmt j).rk) none mX12_findDone (jqV Q) (7, [some (.ref l0), some (.int l1), some (.int l2), some (.int l3), some (.int l4), some (.int l5), none, none], [], S, 0, 0)) (hX27 : ∀ l0 l1 l2 l3 l4 l5 l6 l7 S, X27 l0 l1 l2 l3 l4 l5 l6 l7 S → jLf (jCall jmt jbud d) jbud (fun j => (jmt j).rk) none mX12_findDone (jqV Q) (27, [some (.ref l0), some (.int l1), some (.int l2), some (.int l3), some (.int l4), some (.int l5), some (.int l6), some (.int l7)], [], S, 0, 0)) {l0 : Nat} {l1 : Int32} {l2 : Int32} {l3 : Int32} {l4 : Int32} {l5 : Int32} {l7 : Int32} {s0 : Int32} {S : JS} (h : wX12_findDone_75 X2 X7 X27 l0 l1 l2 l3 l4 l5 l7 s0 S Q) : jLf (jCall jmt jbud d) jbud (fun j => (jmt j).rk) none mX12_findDone (jqV Q) (75, [some (.ref l0), some (.int l1), some (.int l2), some (.int l3), some (.int l4), some (.int l5), none, some (.int l7)], [.int s0], S, 0, 0) := by
  have hc := jCall_mono jmt jbud d
  unfold wX12_findDone_75 at h
  refine jLf.bk hc 2 [] [some (.ref l0), some (.int l1), some (.int l2), some (.int l3), some (.int l4), some (.int l5), some (.int s0), some (.int (l7 + 1))] [] S rfl rfl rfl trivial ?_
  generalize ex22 : (l7 + 1 : Int32) = x22
  have h := h x22 ex22.symm
  refine jLf.one hc _ rfl (gs := []) (c := (27, [some (.ref l0), some (.int l1), some (.int l2), some (.int l3), some (.int l4), some (.int l5), some (.int s0), some (.int x22)], [], S, 0, 0)) rfl trivial ?_
  exact hX27 _ _ _ _ _ _ _ _ _ h
def wX12_findDone_74  (X2 : Nat → Int32 → Int32 → Int32 → Int32 → JS → Prop) (X7 : Nat → Int32 → Int32 → Int32 → Int32 → Int32 → JS → Prop) (X27 : Nat → Int32 → Int32 → Int32 → Int32 → Int32 → Int32 → Int32 → JS → Prop) (l0 : Nat) (l1 : Int32) (l2 : Int32) (l3 : Int32) (l4 : Int32) (l5 : Int32) (l7 : Int32) (S : JS) (Q : JS → Prop) : Prop :=
  wX12_findDone_75 X2 X7 X27 l0 l1 l2 l3 l4 l5 l7 0 S Q
set_option maxRecDepth 20000 in
theorem tX12_findDone_74 {Q : JS → Prop} {X2 : Nat → Int32 → Int32 → Int32 → Int32 → JS → Prop} {X7 : Nat → Int32 → Int32 → Int32 → Int32 → Int32 → JS → Prop} {X27 : Nat → Int32 → Int32 → Int32 → Int32 → Int32 → Int32 → Int32 → JS → Prop} (d : Nat) (hd : 1 ≤ d) (hX2 : ∀ l0 l1 l2 l3 l4 S, X2 l0 l1 l2 l3 l4 S → jLf (jCall jmt jbud d) jbud (fun j => (jmt j).rk) none mX12_findDone (jqV Q) (2, [some (.ref l0), some (.int l1), some (.int l2), some (.int l3), some (.int l4), none, none, none], [], S, 0, 0)) (hX7 : ∀ l0 l1 l2 l3 l4 l5 S, X7 l0 l1 l2 l3 l4 l5 S → jLf (jCall jmt jbud d) jbud (fun j => (jmt j).rk) none mX12_findDone (jqV Q) (7, [some (.ref l0), some (.int l1), some (.int l2), some (.int l3), some (.int l4), some (.int l5), none, none], [], S, 0, 0)) (hX27 : ∀ l0 l1 l2 l3 l4 l5 l6 l7 S, X27 l0 l1 l2 l3 l4 l5 l6 l7 S → jLf (jCall jmt jbud d) jbud (fun j => (jmt j).rk) none mX12_findDone (jqV Q) (27, [some (.ref l0), some (.int l1), some (.int l2), some (.int l3), some (.int l4), some (.int l5), some (.int l6), some (.int l7)], [], S, 0, 0)) {l0 : Nat} {l1 : Int32} {l2 : Int32} {l3 : Int32} {l4 : Int32} {l5 : Int32} {l7 : Int32} {S : JS} (h : wX12_findDone_74 X2 X7 X27 l0 l1 l2 l3 l4 l5 l7 S Q) : jLf (jCall jmt jbud d) jbud (fun j => (jmt j).rk) none mX12_findDone (jqV Q) (74, [some (.ref l0), some (.int l1), some (.int l2), some (.int l3), some (.int l4), some (.int l5), none, some (.int l7)], [], S, 0, 0) := by
  have hc := jCall_mono jmt jbud d
  unfold wX12_findDone_74 at h
  refine jLf.bk hc 1 [] [some (.ref l0), some (.int l1), some (.int l2), some (.int l3), some (.int l4), some (.int l5), none, some (.int l7)] [.int 0] S rfl rfl rfl trivial ?_
  exact tX12_findDone_75 d hd hX2 hX7 hX27 h
def bX12_findDone_27  (X2 : Nat → Int32 → Int32 → Int32 → Int32 → JS → Prop) (X7 : Nat → Int32 → Int32 → Int32 → Int32 → Int32 → JS → Prop) (X27 : Nat → Int32 → Int32 → Int32 → Int32 → Int32 → Int32 → Int32 → JS → Prop) (l0 : Nat) (l1 : Int32) (l2 : Int32) (l3 : Int32) (l4 : Int32) (l5 : Int32) (l6 : Int32) (l7 : Int32) (S : JS) (Q : JS → Prop) : Prop :=
  jA S l0 12 ∧ (wX12_rocks l0 S (fun r6 S5 => (r6 ≤ l7 → wX12_findDone_78 X2 X7 l0 l1 l2 l3 l4 l5 l6 S5 Q) ∧ (¬ (r6 ≤ l7) → (l2 ≤ l4 → wX12_findDone_78 X2 X7 l0 l1 l2 l3 l4 l5 l6 S5 Q) ∧ (¬ (l2 ≤ l4) → (¬ l6 = 0 → wX12_findDone_78 X2 X7 l0 l1 l2 l3 l4 l5 l6 S5 Q) ∧ (l6 = 0 → jA S5 l0 12 ∧ (¬ jR S5 l0 33 = none ∧ (¬ (512 : Int32) = 0 ∧ (jA S5 (jr S5 l0 33) 13 ∧ (vp_in (((9 : Int32) * l4) + (l5 / (512 : Int32))) (jZ S5 (jr S5 l0 33)) ∧ (wX12_is (jI S5 (jr S5 l0 33) (((9 : Int32) * l4) + (l5 / (512 : Int32))).toNatClampNeg) l7 S5 (fun r21 S20 => (r21 = 0 → wX12_findDone_74 X2 X7 X27 l0 l1 l2 l3 l4 l5 l7 S20 Q) ∧ (¬ r21 = 0 → jA S20 l0 12 ∧ (¬ jR S20 l0 37 = none ∧ (jA S20 (jr S20 l0 37) 15 ∧ (vp_in ((((4608 : Int32) * (l4 + (1 : Int32))) + ((512 : Int32) * l7)) + ((l5 - l5 / (512 : Int32) * (512 : Int32)) ||| (l3 &&& ((1 : Int32) <<< (l7 &&& 31))))) (jZ S20 (jr S20 l0 37)) ∧ (((jI S20 (jr S20 l0 37) ((((4608 : Int32) * (l4 + (1 : Int32))) + ((512 : Int32) * l7)) + ((l5 - l5 / (512 : Int32) * (512 : Int32)) ||| (l3 &&& ((1 : Int32) <<< (l7 &&& 31))))).toNatClampNeg) = 0 → wX12_findDone_74 X2 X7 X27 l0 l1 l2 l3 l4 l5 l7 S20 Q) ∧ (¬ (jI S20 (jr S20 l0 37) ((((4608 : Int32) * (l4 + (1 : Int32))) + ((512 : Int32) * l7)) + ((l5 - l5 / (512 : Int32) * (512 : Int32)) ||| (l3 &&& ((1 : Int32) <<< (l7 &&& 31))))).toNatClampNeg) = 0 → wX12_findDone_75 X2 X7 X27 l0 l1 l2 l3 l4 l5 l7 1 S20 Q)))))))))))))))))
set_option maxRecDepth 20000 in
theorem uX12_findDone_27 {Q : JS → Prop} {X2 : Nat → Int32 → Int32 → Int32 → Int32 → JS → Prop} {X7 : Nat → Int32 → Int32 → Int32 → Int32 → Int32 → JS → Prop} (d : Nat) (hd : 1 ≤ d) (hX2 : ∀ l0 l1 l2 l3 l4 S, X2 l0 l1 l2 l3 l4 S → jLf (jCall jmt jbud d) jbud (fun j => (jmt j).rk) none mX12_findDone (jqV Q) (2, [some (.ref l0), some (.int l1), some (.int l2), some (.int l3), some (.int l4), none, none, none], [], S, 0, 0)) (hX7 : ∀ l0 l1 l2 l3 l4 l5 S, X7 l0 l1 l2 l3 l4 l5 S → jLf (jCall jmt jbud d) jbud (fun j => (jmt j).rk) none mX12_findDone (jqV Q) (7, [some (.ref l0), some (.int l1), some (.int l2), some (.int l3), some (.int l4), some (.int l5), none, none], [], S, 0, 0)) {X27 : Nat → Int32 → Int32 → Int32 → Int32 → Int32 → Int32 → Int32 → JS → Prop} (hX27 : ∀ l0 l1 l2 l3 l4 l5 l6 l7 S, X27 l0 l1 l2 l3 l4 l5 l6 l7 S → jLf (jCall jmt jbud d) jbud (fun j => (jmt j).rk) none mX12_findDone (jqV Q) (27, [some (.ref l0), some (.int l1), some (.int l2), some (.int l3), some (.int l4), some (.int l5), some (.int l6), some (.int l7)], [], S, 0, 0)) {l0 : Nat} {l1 : Int32} {l2 : Int32} {l3 : Int32} {l4 : Int32} {l5 : Int32} {l6 : Int32} {l7 : Int32} {S : JS} (h : bX12_findDone_27 X2 X7 X27 l0 l1 l2 l3 l4 l5 l6 l7 S Q) : jLf (jCall jmt jbud d) jbud (fun j => (jmt j).rk) none mX12_findDone (jqV Q) (27, [some (.ref l0), some (.int l1), some (.int l2), some (.int l3), some (.int l4), some (.int l5), some (.int l6), some (.int l7)], [], S, 0, 0) := by
  have hc := jCall_mono jmt jbud d
  unfold bX12_findDone_27 at h
  refine jLf.bk hc 2 [] [some (.ref l0), some (.int l1), some (.int l2), some (.int l3), some (.int l4), some (.int l5), some (.int l6), some (.int l7)] [.ref l0, .int l7] S rfl rfl rfl trivial ?_
  obtain ⟨g7, h⟩ := h
  refine jLf.inv hc _ rfl (gs := [jA S l0 12, (([.int l7] : List Value).map fun v => v.category).sum ≤ 8, 0 ≤ 0, 0 ≤ 0]) (k := 154) (args := [.ref l0]) (r := [.int l7]) (a := 0) (b := 0) rfl ⟨g7, Nat.le_of_ble_eq_true rfl, Nat.zero_le _, Nat.zero_le _⟩ (vX12_rocks d (by omega) h) ?_
  rintro v S5 ⟨r6, rfl, h⟩
  show jLf (jCall jmt jbud d) jbud (fun j => (jmt j).rk) none mX12_findDone (jqV Q) (30, [some (.ref l0), some (.int l1), some (.int l2), some (.int l3), some (.int l4), some (.int l5), some (.int l6), some (.int l7)], [.int r6, .int l7], S5, 0, 0)
  refine jLf.two hc _ rfl (gs := []) (p1 := r6 ≤ l7) (p2 := ¬ (r6 ≤ l7)) (c1 := (78, [some (.ref l0), some (.int l1), some (.int l2), some (.int l3), some (.int l4), some (.int l5), some (.int l6), some (.int l7)], [], S5, 0, 0)) (c2 := (31, [some (.ref l0), some (.int l1), some (.int l2), some (.int l3), some (.int l4), some (.int l5), some (.int l6), some (.int l7)], [], S5, 0, 0)) rfl trivial (fun hz => ?_) (fun hz => ?_)
  · have h := h.1 hz
    refine jLf.sub [some (.ref l0), some (.int l1), some (.int l2), some (.int l3), some (.int l4), some (.int l5), some (.int l6), none] (jle_same (jle_same (jle_same (jle_same (jle_same (jle_same (jle_same (jle_none (jle_nil _))))))))) ?_
    exact tX12_findDone_78 d hd hX2 hX7 h
  · have h := h.2 hz
    refine jLf.bk hc 2 [] [some (.ref l0), some (.int l1), some (.int l2), some (.int l3), some (.int l4), some (.int l5), some (.int l6), some (.int l7)] [.int l2, .int l4] S5 rfl rfl rfl trivial ?_
    refine jLf.two hc _ rfl (gs := []) (p1 := l2 ≤ l4) (p2 := ¬ (l2 ≤ l4)) (c1 := (78, [some (.ref l0), some (.int l1), some (.int l2), some (.int l3), some (.int l4), some (.int l5), some (.int l6), some (.int l7)], [], S5, 0, 0)) (c2 := (34, [some (.ref l0), some (.int l1), some (.int l2), some (.int l3), some (.int l4), some (.int l5), some (.int l6), some (.int l7)], [], S5, 0, 0)) rfl trivial (fun hz => ?_) (fun hz => ?_)
    · have h := h.1 hz
      refine jLf.sub [some (.ref l0), some (.int l1), some (.int l2), some (.int l3), some (.int l4), some (.int l5), some (.int l6), none] (jle_same (jle_same (jle_same (jle_same (jle_same (jle_same (jle_same (jle_none (jle_nil _))))))))) ?_
      exact tX12_findDone_78 d hd hX2 hX7 h
    · have h := h.2 hz
      refine jLf.bk hc 1 [] [some (.ref l0), some (.int l1), some (.int l2), some (.int l3), some (.int l4), some (.int l5), some (.int l6), some (.int l7)] [.int l6] S5 rfl rfl rfl trivial ?_
      refine jLf.two hc _ rfl (gs := []) (p1 := ¬ l6 = 0) (p2 := ¬ (¬ l6 = 0)) (c1 := (78, [some (.ref l0), some (.int l1), some (.int l2), some (.int l3), some (.int l4), some (.int l5), some (.int l6), some (.int l7)], [], S5, 0, 0)) (c2 := (36, [some (.ref l0), some (.int l1), some (.int l2), some (.int l3), some (.int l4), some (.int l5), some (.int l6), some (.int l7)], [], S5, 0, 0)) rfl trivial (fun hz => ?_) (fun hz => ?_)
      · have h := h.1 hz
        refine jLf.sub [some (.ref l0), some (.int l1), some (.int l2), some (.int l3), some (.int l4), some (.int l5), some (.int l6), none] (jle_same (jle_same (jle_same (jle_same (jle_same (jle_same (jle_same (jle_none (jle_nil _))))))))) ?_
        exact tX12_findDone_78 d hd hX2 hX7 h
      · have h := h.2 (Classical.not_not.mp hz)
        obtain ⟨g15, g16, g17, g18, g19, h⟩ := h
        refine jLf.bk hc 11 [jA S5 l0 12, ¬ jR S5 l0 33 = none, ¬ (512 : Int32) = 0, jA S5 (jr S5 l0 33) 13, vp_in (((9 : Int32) * l4) + (l5 / (512 : Int32))) (jZ S5 (jr S5 l0 33))] [some (.ref l0), some (.int l1), some (.int l2), some (.int l3), some (.int l4), some (.int l5), some (.int l6), some (.int l7)] [.int l7, .int (jI S5 (jr S5 l0 33) (((9 : Int32) * l4) + (l5 / (512 : Int32))).toNatClampNeg)] S5 rfl rfl rfl ⟨g15, g16, g17, g18, g19⟩ ?_
        refine jLf.inv hc _ rfl (gs := [2 ≤ ([.int l7, .int (jI S5 (jr S5 l0 33) (((9 : Int32) * l4) + (l5 / (512 : Int32))).toNatClampNeg)] : List Value).length, (([] : List Value).map fun v => v.category).sum ≤ 8, 0 ≤ 0, 0 ≤ 0]) (k := 149) (args := [.int (jI S5 (jr S5 l0 33) (((9 : Int32) * l4) + (l5 / (512 : Int32))).toNatClampNeg), .int l7]) (r := []) (a := 0) (b := 0) rfl ⟨Nat.le_of_ble_eq_true rfl, Nat.le_of_ble_eq_true rfl, Nat.zero_le _, Nat.zero_le _⟩ (vX12_is d (by omega) h) ?_
        rintro v S20 ⟨r21, rfl, h⟩
        show jLf (jCall jmt jbud d) jbud (fun j => (jmt j).rk) none mX12_findDone (jqV Q) (48, [some (.ref l0), some (.int l1), some (.int l2), some (.int l3), some (.int l4), some (.int l5), some (.int l6), some (.int l7)], [.int r21], S20, 0, 0)
        refine jLf.two hc _ rfl (gs := []) (p1 := r21 = 0) (p2 := ¬ (r21 = 0)) (c1 := (74, [some (.ref l0), some (.int l1), some (.int l2), some (.int l3), some (.int l4), some (.int l5), some (.int l6), some (.int l7)], [], S20, 0, 0)) (c2 := (49, [some (.ref l0), some (.int l1), some (.int l2), some (.int l3), some (.int l4), some (.int l5), some (.int l6), some (.int l7)], [], S20, 0, 0)) rfl trivial (fun hz => ?_) (fun hz => ?_)
        · have h := h.1 hz
          refine jLf.sub [some (.ref l0), some (.int l1), some (.int l2), some (.int l3), some (.int l4), some (.int l5), none, some (.int l7)] (jle_same (jle_same (jle_same (jle_same (jle_same (jle_same (jle_none (jle_same (jle_nil _))))))))) ?_
          exact tX12_findDone_74 d hd hX2 hX7 hX27 h
        · have h := h.2 hz
          obtain ⟨g23, g24, g25, g26, h⟩ := h
          refine jLf.bk hc 22 [jA S20 l0 12, ¬ jR S20 l0 37 = none, ¬ (512 : Int32) = 0, jA S20 (jr S20 l0 37) 15, vp_in ((((4608 : Int32) * (l4 + (1 : Int32))) + ((512 : Int32) * l7)) + ((l5 - l5 / (512 : Int32) * (512 : Int32)) ||| (l3 &&& ((1 : Int32) <<< (l7 &&& 31))))) (jZ S20 (jr S20 l0 37))] [some (.ref l0), some (.int l1), some (.int l2), some (.int l3), some (.int l4), some (.int l5), some (.int l6), some (.int l7)] [.int (jI S20 (jr S20 l0 37) ((((4608 : Int32) * (l4 + (1 : Int32))) + ((512 : Int32) * l7)) + ((l5 - l5 / (512 : Int32) * (512 : Int32)) ||| (l3 &&& ((1 : Int32) <<< (l7 &&& 31))))).toNatClampNeg)] S20 rfl rfl rfl ⟨g23, g24, g17, g25, g26⟩ ?_
          refine jLf.two hc _ rfl (gs := []) (p1 := (jI S20 (jr S20 l0 37) ((((4608 : Int32) * (l4 + (1 : Int32))) + ((512 : Int32) * l7)) + ((l5 - l5 / (512 : Int32) * (512 : Int32)) ||| (l3 &&& ((1 : Int32) <<< (l7 &&& 31))))).toNatClampNeg) = 0) (p2 := ¬ ((jI S20 (jr S20 l0 37) ((((4608 : Int32) * (l4 + (1 : Int32))) + ((512 : Int32) * l7)) + ((l5 - l5 / (512 : Int32) * (512 : Int32)) ||| (l3 &&& ((1 : Int32) <<< (l7 &&& 31))))).toNatClampNeg) = 0)) (c1 := (74, [some (.ref l0), some (.int l1), some (.int l2), some (.int l3), some (.int l4), some (.int l5), some (.int l6), some (.int l7)], [], S20, 0, 0)) (c2 := (72, [some (.ref l0), some (.int l1), some (.int l2), some (.int l3), some (.int l4), some (.int l5), some (.int l6), some (.int l7)], [], S20, 0, 0)) rfl trivial (fun hz => ?_) (fun hz => ?_)
          · have h := h.1 hz
            refine jLf.sub [some (.ref l0), some (.int l1), some (.int l2), some (.int l3), some (.int l4), some (.int l5), none, some (.int l7)] (jle_same (jle_same (jle_same (jle_same (jle_same (jle_same (jle_none (jle_same (jle_nil _))))))))) ?_
            exact tX12_findDone_74 d hd hX2 hX7 hX27 h
          · have h := h.2 hz
            refine jLf.bk hc 1 [] [some (.ref l0), some (.int l1), some (.int l2), some (.int l3), some (.int l4), some (.int l5), some (.int l6), some (.int l7)] [.int 1] S20 rfl rfl rfl trivial ?_
            refine jLf.one hc _ rfl (gs := []) (c := (75, [some (.ref l0), some (.int l1), some (.int l2), some (.int l3), some (.int l4), some (.int l5), some (.int l6), some (.int l7)], [.int 1], S20, 0, 0)) rfl trivial ?_
            refine jLf.sub [some (.ref l0), some (.int l1), some (.int l2), some (.int l3), some (.int l4), some (.int l5), none, some (.int l7)] (jle_same (jle_same (jle_same (jle_same (jle_same (jle_same (jle_none (jle_same (jle_nil _))))))))) ?_
            exact tX12_findDone_75 d hd hX2 hX7 hX27 h
def wX12_findDone_27  (X2 : Nat → Int32 → Int32 → Int32 → Int32 → JS → Prop) (X7 : Nat → Int32 → Int32 → Int32 → Int32 → Int32 → JS → Prop) (l0 : Nat) (l1 : Int32) (l2 : Int32) (l3 : Int32) (l4 : Int32) (l5 : Int32) (l6 : Int32) (l7 : Int32) (S : JS) (Q : JS → Prop) : Prop :=
  jLoop (fun (X27 : Nat × Int32 × Int32 × Int32 × Int32 × Int32 × Int32 × Int32 × JS → Prop) q => bX12_findDone_27 X2 X7 (fun l0 l1 l2 l3 l4 l5 l6 l7 S => X27 (l0, l1, l2, l3, l4, l5, l6, l7, S)) q.1 q.2.1 q.2.2.1 q.2.2.2.1 q.2.2.2.2.1 q.2.2.2.2.2.1 q.2.2.2.2.2.2.1 q.2.2.2.2.2.2.2.1 q.2.2.2.2.2.2.2.2 Q) (l0, l1, l2, l3, l4, l5, l6, l7, S)
set_option maxRecDepth 20000 in
theorem tX12_findDone_27 {Q : JS → Prop} {X2 : Nat → Int32 → Int32 → Int32 → Int32 → JS → Prop} {X7 : Nat → Int32 → Int32 → Int32 → Int32 → Int32 → JS → Prop} (d : Nat) (hd : 1 ≤ d) (hX2 : ∀ l0 l1 l2 l3 l4 S, X2 l0 l1 l2 l3 l4 S → jLf (jCall jmt jbud d) jbud (fun j => (jmt j).rk) none mX12_findDone (jqV Q) (2, [some (.ref l0), some (.int l1), some (.int l2), some (.int l3), some (.int l4), none, none, none], [], S, 0, 0)) (hX7 : ∀ l0 l1 l2 l3 l4 l5 S, X7 l0 l1 l2 l3 l4 l5 S → jLf (jCall jmt jbud d) jbud (fun j => (jmt j).rk) none mX12_findDone (jqV Q) (7, [some (.ref l0), some (.int l1), some (.int l2), some (.int l3), some (.int l4), some (.int l5), none, none], [], S, 0, 0)) {l0 : Nat} {l1 : Int32} {l2 : Int32} {l3 : Int32} {l4 : Int32} {l5 : Int32} {l6 : Int32} {l7 : Int32} {S : JS} (h : wX12_findDone_27 X2 X7 l0 l1 l2 l3 l4 l5 l6 l7 S Q) : jLf (jCall jmt jbud d) jbud (fun j => (jmt j).rk) none mX12_findDone (jqV Q) (27, [some (.ref l0), some (.int l1), some (.int l2), some (.int l3), some (.int l4), some (.int l5), some (.int l6), some (.int l7)], [], S, 0, 0) := by
  have := h (fun q : Nat × Int32 × Int32 × Int32 × Int32 × Int32 × Int32 × Int32 × JS => jLf (jCall jmt jbud d) jbud (fun j => (jmt j).rk) none mX12_findDone (jqV Q) (27, [some (.ref (q.1)), some (.int (q.2.1)), some (.int (q.2.2.1)), some (.int (q.2.2.2.1)), some (.int (q.2.2.2.2.1)), some (.int (q.2.2.2.2.2.1)), some (.int (q.2.2.2.2.2.2.1)), some (.int (q.2.2.2.2.2.2.2.1))], [], q.2.2.2.2.2.2.2.2, 0, 0)) (fun q R hb hR => uX12_findDone_27 d hd hX2 hX7 (fun _ _ _ _ _ _ _ _ _ => hR _) hb)
  exact this
def wX12_findDone_24  (X2 : Nat → Int32 → Int32 → Int32 → Int32 → JS → Prop) (X7 : Nat → Int32 → Int32 → Int32 → Int32 → Int32 → JS → Prop) (l0 : Nat) (l1 : Int32) (l2 : Int32) (l3 : Int32) (l4 : Int32) (l5 : Int32) (s0 : Int32) (S : JS) (Q : JS → Prop) : Prop :=
  wX12_findDone_27 X2 X7 l0 l1 l2 l3 l4 l5 s0 0 S Q
set_option maxRecDepth 20000 in
theorem tX12_findDone_24 {Q : JS → Prop} {X2 : Nat → Int32 → Int32 → Int32 → Int32 → JS → Prop} {X7 : Nat → Int32 → Int32 → Int32 → Int32 → Int32 → JS → Prop} (d : Nat) (hd : 1 ≤ d) (hX2 : ∀ l0 l1 l2 l3 l4 S, X2 l0 l1 l2 l3 l4 S → jLf (jCall jmt jbud d) jbud (fun j => (jmt j).rk) none mX12_findDone (jqV Q) (2, [some (.ref l0), some (.int l1), some (.int l2), some (.int l3), some (.int l4), none, none, none], [], S, 0, 0)) (hX7 : ∀ l0 l1 l2 l3 l4 l5 S, X7 l0 l1 l2 l3 l4 l5 S → jLf (jCall jmt jbud d) jbud (fun j => (jmt j).rk) none mX12_findDone (jqV Q) (7, [some (.ref l0), some (.int l1), some (.int l2), some (.int l3), some (.int l4), some (.int l5), none, none], [], S, 0, 0)) {l0 : Nat} {l1 : Int32} {l2 : Int32} {l3 : Int32} {l4 : Int32} {l5 : Int32} {s0 : Int32} {S : JS} (h : wX12_findDone_24 X2 X7 l0 l1 l2 l3 l4 l5 s0 S Q) : jLf (jCall jmt jbud d) jbud (fun j => (jmt j).rk) none mX12_findDone (jqV Q) (24, [some (.ref l0), some (.int l1), some (.int l2), some (.int l3), some (.int l4), some (.int l5), none, none], [.int s0], S, 0, 0) := by
  have hc := jCall_mono jmt jbud d
  unfold wX12_findDone_24 at h
  refine jLf.bk hc 3 [] [some (.ref l0), some (.int l1), some (.int l2), some (.int l3), some (.int l4), some (.int l5), some (.int s0), some (.int 0)] [] S rfl rfl rfl trivial ?_
  exact tX12_findDone_27 d hd hX2 hX7 h
def wX12_findDone_23  (X2 : Nat → Int32 → Int32 → Int32 → Int32 → JS → Prop) (X7 : Nat → Int32 → Int32 → Int32 → Int32 → Int32 → JS → Prop) (l0 : Nat) (l1 : Int32) (l2 : Int32) (l3 : Int32) (l4 : Int32) (l5 : Int32) (S : JS) (Q : JS → Prop) : Prop :=
  wX12_findDone_24 X2 X7 l0 l1 l2 l3 l4 l5 0 S Q
set_option maxRecDepth 20000 in
theorem tX12_findDone_23 {Q : JS → Prop} {X2 : Nat → Int32 → Int32 → Int32 → Int32 → JS → Prop} {X7 : Nat → Int32 → Int32 → Int32 → Int32 → Int32 → JS → Prop} (d : Nat) (hd : 1 ≤ d) (hX2 : ∀ l0 l1 l2 l3 l4 S, X2 l0 l1 l2 l3 l4 S → jLf (jCall jmt jbud d) jbud (fun j => (jmt j).rk) none mX12_findDone (jqV Q) (2, [some (.ref l0), some (.int l1), some (.int l2), some (.int l3), some (.int l4), none, none, none], [], S, 0, 0)) (hX7 : ∀ l0 l1 l2 l3 l4 l5 S, X7 l0 l1 l2 l3 l4 l5 S → jLf (jCall jmt jbud d) jbud (fun j => (jmt j).rk) none mX12_findDone (jqV Q) (7, [some (.ref l0), some (.int l1), some (.int l2), some (.int l3), some (.int l4), some (.int l5), none, none], [], S, 0, 0)) {l0 : Nat} {l1 : Int32} {l2 : Int32} {l3 : Int32} {l4 : Int32} {l5 : Int32} {S : JS} (h : wX12_findDone_23 X2 X7 l0 l1 l2 l3 l4 l5 S Q) : jLf (jCall jmt jbud d) jbud (fun j => (jmt j).rk) none mX12_findDone (jqV Q) (23, [some (.ref l0), some (.int l1), some (.int l2), some (.int l3), some (.int l4), some (.int l5), none, none], [], S, 0, 0) := by
  have hc := jCall_mono jmt jbud d
  unfold wX12_findDone_23 at h
  refine jLf.bk hc 1 [] [some (.ref l0), some (.int l1), some (.int l2), some (.int l3), some (.int l4), some (.int l5), none, none] [.int 0] S rfl rfl rfl trivial ?_
  exact tX12_findDone_24 d hd hX2 hX7 h
def bX12_findDone_7  (X2 : Nat → Int32 → Int32 → Int32 → Int32 → JS → Prop) (X7 : Nat → Int32 → Int32 → Int32 → Int32 → Int32 → JS → Prop) (l0 : Nat) (l1 : Int32) (l2 : Int32) (l3 : Int32) (l4 : Int32) (l5 : Int32) (S : JS) (Q : JS → Prop) : Prop :=
  jA S l0 12 ∧ (wX12_rocks l0 S (fun r2 S1 => (((512 : Int32) * r2) ≤ l5 → ∀ x4 : Int32, x4 = (l4 + (-1)) → (X2 l0 l1 l2 l3 x4 S1)) ∧ (¬ (((512 : Int32) * r2) ≤ l5) → (¬ l4 = l2 → wX12_findDone_23 X2 X7 l0 l1 l2 l3 l4 l5 S1 Q) ∧ (l4 = l2 → ¬ (512 : Int32) = 0 ∧ ((¬ (l5 - l5 / (512 : Int32) * (512 : Int32)) = l3 → wX12_findDone_23 X2 X7 l0 l1 l2 l3 l4 l5 S1 Q) ∧ ((l5 - l5 / (512 : Int32) * (512 : Int32)) = l3 → wX12_findDone_24 X2 X7 l0 l1 l2 l3 l4 l5 1 S1 Q))))))
set_option maxRecDepth 20000 in
theorem uX12_findDone_7 {Q : JS → Prop} {X2 : Nat → Int32 → Int32 → Int32 → Int32 → JS → Prop} (d : Nat) (hd : 1 ≤ d) (hX2 : ∀ l0 l1 l2 l3 l4 S, X2 l0 l1 l2 l3 l4 S → jLf (jCall jmt jbud d) jbud (fun j => (jmt j).rk) none mX12_findDone (jqV Q) (2, [some (.ref l0), some (.int l1), some (.int l2), some (.int l3), some (.int l4), none, none, none], [], S, 0, 0)) {X7 : Nat → Int32 → Int32 → Int32 → Int32 → Int32 → JS → Prop} (hX7 : ∀ l0 l1 l2 l3 l4 l5 S, X7 l0 l1 l2 l3 l4 l5 S → jLf (jCall jmt jbud d) jbud (fun j => (jmt j).rk) none mX12_findDone (jqV Q) (7, [some (.ref l0), some (.int l1), some (.int l2), some (.int l3), some (.int l4), some (.int l5), none, none], [], S, 0, 0)) {l0 : Nat} {l1 : Int32} {l2 : Int32} {l3 : Int32} {l4 : Int32} {l5 : Int32} {S : JS} (h : bX12_findDone_7 X2 X7 l0 l1 l2 l3 l4 l5 S Q) : jLf (jCall jmt jbud d) jbud (fun j => (jmt j).rk) none mX12_findDone (jqV Q) (7, [some (.ref l0), some (.int l1), some (.int l2), some (.int l3), some (.int l4), some (.int l5), none, none], [], S, 0, 0) := by
  have hc := jCall_mono jmt jbud d
  unfold bX12_findDone_7 at h
  refine jLf.bk hc 3 [] [some (.ref l0), some (.int l1), some (.int l2), some (.int l3), some (.int l4), some (.int l5), none, none] [.ref l0, .int 512, .int l5] S rfl rfl rfl trivial ?_
  obtain ⟨g3, h⟩ := h
  refine jLf.inv hc _ rfl (gs := [jA S l0 12, (([.int 512, .int l5] : List Value).map fun v => v.category).sum ≤ 8, 0 ≤ 0, 0 ≤ 0]) (k := 154) (args := [.ref l0]) (r := [.int 512, .int l5]) (a := 0) (b := 0) rfl ⟨g3, Nat.le_of_ble_eq_true rfl, Nat.zero_le _, Nat.zero_le _⟩ (vX12_rocks d (by omega) h) ?_
  rintro v S1 ⟨r2, rfl, h⟩
  show jLf (jCall jmt jbud d) jbud (fun j => (jmt j).rk) none mX12_findDone (jqV Q) (11, [some (.ref l0), some (.int l1), some (.int l2), some (.int l3), some (.int l4), some (.int l5), none, none], [.int r2, .int 512, .int l5], S1, 0, 0)
  refine jLf.bk hc 1 [] [some (.ref l0), some (.int l1), some (.int l2), some (.int l3), some (.int l4), some (.int l5), none, none] [.int ((512 : Int32) * r2), .int l5] S1 rfl rfl rfl trivial ?_
  refine jLf.two hc _ rfl (gs := []) (p1 := ((512 : Int32) * r2) ≤ l5) (p2 := ¬ (((512 : Int32) * r2) ≤ l5)) (c1 := (89, [some (.ref l0), some (.int l1), some (.int l2), some (.int l3), some (.int l4), some (.int l5), none, none], [], S1, 0, 0)) (c2 := (13, [some (.ref l0), some (.int l1), some (.int l2), some (.int l3), some (.int l4), some (.int l5), none, none], [], S1, 0, 0)) rfl trivial (fun hz => ?_) (fun hz => ?_)
  · have h := h.1 hz
    refine jLf.bk hc 1 [] [some (.ref l0), some (.int l1), some (.int l2), some (.int l3), some (.int (l4 + (-1))), some (.int l5), none, none] [] S1 rfl rfl rfl trivial ?_
    generalize ex4 : (l4 + (-1) : Int32) = x4
    have h := h x4 ex4.symm
    refine jLf.one hc _ rfl (gs := []) (c := (2, [some (.ref l0), some (.int l1), some (.int l2), some (.int l3), some (.int x4), some (.int l5), none, none], [], S1, 0, 0)) rfl trivial ?_
    refine jLf.sub [some (.ref l0), some (.int l1), some (.int l2), some (.int l3), some (.int x4), none, none, none] (jle_same (jle_same (jle_same (jle_same (jle_same (jle_none (jle_same (jle_same (jle_nil _))))))))) ?_
    exact hX2 _ _ _ _ _ _ h
  · have h := h.2 hz
    refine jLf.bk hc 2 [] [some (.ref l0), some (.int l1), some (.int l2), some (.int l3), some (.int l4), some (.int l5), none, none] [.int l2, .int l4] S1 rfl rfl rfl trivial ?_
    refine jLf.two hc _ rfl (gs := []) (p1 := ¬ l4 = l2) (p2 := ¬ (¬ l4 = l2)) (c1 := (23, [some (.ref l0), some (.int l1), some (.int l2), some (.int l3), some (.int l4), some (.int l5), none, none], [], S1, 0, 0)) (c2 := (16, [some (.ref l0), some (.int l1), some (.int l2), some (.int l3), some (.int l4), some (.int l5), none, none], [], S1, 0, 0)) rfl trivial (fun hz => ?_) (fun hz => ?_)
    · have h := h.1 hz
      exact tX12_findDone_23 d hd hX2 hX7 h
    · have h := h.2 (Classical.not_not.mp hz)
      obtain ⟨g27, h⟩ := h
      refine jLf.bk hc 4 [¬ (512 : Int32) = 0] [some (.ref l0), some (.int l1), some (.int l2), some (.int l3), some (.int l4), some (.int l5), none, none] [.int l3, .int (l5 - l5 / (512 : Int32) * (512 : Int32))] S1 rfl rfl rfl g27 ?_
      refine jLf.two hc _ rfl (gs := []) (p1 := ¬ (l5 - l5 / (512 : Int32) * (512 : Int32)) = l3) (p2 := ¬ (¬ (l5 - l5 / (512 : Int32) * (512 : Int32)) = l3)) (c1 := (23, [some (.ref l0), some (.int l1), some (.int l2), some (.int l3), some (.int l4), some (.int l5), none, none], [], S1, 0, 0)) (c2 := (21, [some (.ref l0), some (.int l1), some (.int l2), some (.int l3), some (.int l4), some (.int l5), none, none], [], S1, 0, 0)) rfl trivial (fun hz => ?_) (fun hz => ?_)
      · have h := h.1 hz
        exact tX12_findDone_23 d hd hX2 hX7 h
      · have h := h.2 (Classical.not_not.mp hz)
        refine jLf.bk hc 1 [] [some (.ref l0), some (.int l1), some (.int l2), some (.int l3), some (.int l4), some (.int l5), none, none] [.int 1] S1 rfl rfl rfl trivial ?_
        refine jLf.one hc _ rfl (gs := []) (c := (24, [some (.ref l0), some (.int l1), some (.int l2), some (.int l3), some (.int l4), some (.int l5), none, none], [.int 1], S1, 0, 0)) rfl trivial ?_
        exact tX12_findDone_24 d hd hX2 hX7 h
def wX12_findDone_7  (X2 : Nat → Int32 → Int32 → Int32 → Int32 → JS → Prop) (l0 : Nat) (l1 : Int32) (l2 : Int32) (l3 : Int32) (l4 : Int32) (l5 : Int32) (S : JS) (Q : JS → Prop) : Prop :=
  jLoop (fun (X7 : Nat × Int32 × Int32 × Int32 × Int32 × Int32 × JS → Prop) q => bX12_findDone_7 X2 (fun l0 l1 l2 l3 l4 l5 S => X7 (l0, l1, l2, l3, l4, l5, S)) q.1 q.2.1 q.2.2.1 q.2.2.2.1 q.2.2.2.2.1 q.2.2.2.2.2.1 q.2.2.2.2.2.2 Q) (l0, l1, l2, l3, l4, l5, S)
set_option maxRecDepth 20000 in
theorem tX12_findDone_7 {Q : JS → Prop} {X2 : Nat → Int32 → Int32 → Int32 → Int32 → JS → Prop} (d : Nat) (hd : 1 ≤ d) (hX2 : ∀ l0 l1 l2 l3 l4 S, X2 l0 l1 l2 l3 l4 S → jLf (jCall jmt jbud d) jbud (fun j => (jmt j).rk) none mX12_findDone (jqV Q) (2, [some (.ref l0), some (.int l1), some (.int l2), some (.int l3), some (.int l4), none, none, none], [], S, 0, 0)) {l0 : Nat} {l1 : Int32} {l2 : Int32} {l3 : Int32} {l4 : Int32} {l5 : Int32} {S : JS} (h : wX12_findDone_7 X2 l0 l1 l2 l3 l4 l5 S Q) : jLf (jCall jmt jbud d) jbud (fun j => (jmt j).rk) none mX12_findDone (jqV Q) (7, [some (.ref l0), some (.int l1), some (.int l2), some (.int l3), some (.int l4), some (.int l5), none, none], [], S, 0, 0) := by
  have := h (fun q : Nat × Int32 × Int32 × Int32 × Int32 × Int32 × JS => jLf (jCall jmt jbud d) jbud (fun j => (jmt j).rk) none mX12_findDone (jqV Q) (7, [some (.ref (q.1)), some (.int (q.2.1)), some (.int (q.2.2.1)), some (.int (q.2.2.2.1)), some (.int (q.2.2.2.2.1)), some (.int (q.2.2.2.2.2.1)), none, none], [], q.2.2.2.2.2.2, 0, 0)) (fun q R hb hR => uX12_findDone_7 d hd hX2 (fun _ _ _ _ _ _ _ => hR _) hb)
  exact this
def bX12_findDone_2   (X2 : Nat → Int32 → Int32 → Int32 → Int32 → JS → Prop) (l0 : Nat) (l1 : Int32) (l2 : Int32) (l3 : Int32) (l4 : Int32) (S : JS) (Q : JS → Prop) : Prop :=
  (l4 < l1 → Q S) ∧ (¬ (l4 < l1) → wX12_findDone_7 X2 l0 l1 l2 l3 l4 0 S Q)
set_option maxRecDepth 20000 in
theorem uX12_findDone_2 {Q : JS → Prop}  (d : Nat) (hd : 1 ≤ d) {X2 : Nat → Int32 → Int32 → Int32 → Int32 → JS → Prop} (hX2 : ∀ l0 l1 l2 l3 l4 S, X2 l0 l1 l2 l3 l4 S → jLf (jCall jmt jbud d) jbud (fun j => (jmt j).rk) none mX12_findDone (jqV Q) (2, [some (.ref l0), some (.int l1), some (.int l2), some (.int l3), some (.int l4), none, none, none], [], S, 0, 0)) {l0 : Nat} {l1 : Int32} {l2 : Int32} {l3 : Int32} {l4 : Int32} {S : JS} (h : bX12_findDone_2 X2 l0 l1 l2 l3 l4 S Q) : jLf (jCall jmt jbud d) jbud (fun j => (jmt j).rk) none mX12_findDone (jqV Q) (2, [some (.ref l0), some (.int l1), some (.int l2), some (.int l3), some (.int l4), none, none, none], [], S, 0, 0) := by
  have hc := jCall_mono jmt jbud d
  unfold bX12_findDone_2 at h
  refine jLf.bk hc 2 [] [some (.ref l0), some (.int l1), some (.int l2), some (.int l3), some (.int l4), none, none, none] [.int l1, .int l4] S rfl rfl rfl trivial ?_
  refine jLf.two hc _ rfl (gs := []) (p1 := l4 < l1) (p2 := ¬ (l4 < l1)) (c1 := (91, [some (.ref l0), some (.int l1), some (.int l2), some (.int l3), some (.int l4), none, none, none], [], S, 0, 0)) (c2 := (5, [some (.ref l0), some (.int l1), some (.int l2), some (.int l3), some (.int l4), none, none, none], [], S, 0, 0)) rfl trivial (fun hz => ?_) (fun hz => ?_)
  · have h := h.1 hz
    exact jLf.ret hc _ rfl (gs := [jrt none none]) (v := none) rfl trivial ⟨rfl, h⟩
  · have h := h.2 hz
    refine jLf.bk hc 2 [] [some (.ref l0), some (.int l1), some (.int l2), some (.int l3), some (.int l4), some (.int 0), none, none] [] S rfl rfl rfl trivial ?_
    exact tX12_findDone_7 d hd hX2 h
def wX12_findDone_2   (l0 : Nat) (l1 : Int32) (l2 : Int32) (l3 : Int32) (l4 : Int32) (S : JS) (Q : JS → Prop) : Prop :=
  jLoop (fun (X2 : Nat × Int32 × Int32 × Int32 × Int32 × JS → Prop) q => bX12_findDone_2 (fun l0 l1 l2 l3 l4 S => X2 (l0, l1, l2, l3, l4, S)) q.1 q.2.1 q.2.2.1 q.2.2.2.1 q.2.2.2.2.1 q.2.2.2.2.2 Q) (l0, l1, l2, l3, l4, S)
set_option maxRecDepth 20000 in
theorem tX12_findDone_2 {Q : JS → Prop}  (d : Nat) (hd : 1 ≤ d) {l0 : Nat} {l1 : Int32} {l2 : Int32} {l3 : Int32} {l4 : Int32} {S : JS} (h : wX12_findDone_2 l0 l1 l2 l3 l4 S Q) : jLf (jCall jmt jbud d) jbud (fun j => (jmt j).rk) none mX12_findDone (jqV Q) (2, [some (.ref l0), some (.int l1), some (.int l2), some (.int l3), some (.int l4), none, none, none], [], S, 0, 0) := by
  have := h (fun q : Nat × Int32 × Int32 × Int32 × Int32 × JS => jLf (jCall jmt jbud d) jbud (fun j => (jmt j).rk) none mX12_findDone (jqV Q) (2, [some (.ref (q.1)), some (.int (q.2.1)), some (.int (q.2.2.1)), some (.int (q.2.2.2.1)), some (.int (q.2.2.2.2.1)), none, none, none], [], q.2.2.2.2.2, 0, 0)) (fun q R hb hR => uX12_findDone_2 d hd  (fun _ _ _ _ _ _ => hR _) hb)
  exact this
def wX12_findDone  (this : Nat) (p1 : Int32) (p2 : Int32) (p3 : Int32) (S : JS) (Q : JS → Prop) : Prop :=
  wX12_findDone_2 this p1 p2 p3 p2 S Q
set_option maxRecDepth 20000 in
theorem vX12_findDone {Q : JS → Prop} (d : Nat) (hd : 2 ≤ d) {this : Nat} {p1 : Int32} {p2 : Int32} {p3 : Int32} {S : JS} (h : wX12_findDone this p1 p2 p3 S Q) : jCall jmt jbud d 221 [.ref this, .int p1, .int p2, .int p3] S (jqV Q) := by
  obtain ⟨d, rfl⟩ : ∃ d2, d = d2 + 1 := ⟨d - 1, by omega⟩
  have hd : 1 ≤ d := by omega
  have hc := jCall_mono jmt jbud d
  unfold wX12_findDone at h
  refine ⟨Nat.le_of_ble_eq_true rfl, ?_⟩
  show jLf (jCall jmt jbud d) jbud (fun j => (jmt j).rk) none mX12_findDone (jqV Q) (0, [some (.ref this), some (.int p1), some (.int p2), some (.int p3), none, none, none, none], [], S, 0, 0)
  refine jLf.bk hc 2 [] [some (.ref this), some (.int p1), some (.int p2), some (.int p3), some (.int p2), none, none, none] [] S rfl rfl rfl trivial ?_
  exact tX12_findDone_2 d hd  h
def wX12_round_104  (X65 : Nat → Int32 → Int32 → Int32 → Int32 → Int32 → Int32 → JS → Prop) (X72 : Nat → Int32 → Int32 → Int32 → Int32 → Int32 → Int32 → Int32 → JS → Prop) (l0 : Nat) (l2 : Int32) (l3 : Int32) (l4 : Int32) (l6 : Int32) (l7 : Int32) (l8 : Int32) (l9 : Int32) (S : JS) (Q : Int32 → JS → Prop) : Prop :=
  ∀ x29 : Int32, x29 = (l9 + 1) → (X72 l0 l2 l3 l4 l6 l7 l8 x29 S)
set_option maxRecDepth 20000 in
theorem tX12_round_104 {Q : Int32 → JS → Prop} {X65 : Nat → Int32 → Int32 → Int32 → Int32 → Int32 → Int32 → JS → Prop} {X72 : Nat → Int32 → Int32 → Int32 → Int32 → Int32 → Int32 → Int32 → JS → Prop} (d : Nat) (hd : 6 ≤ d) (hX65 : ∀ l0 l2 l3 l4 l6 l7 l8 S, X65 l0 l2 l3 l4 l6 l7 l8 S → jLf (jCall jmt jbud d) jbud (fun j => (jmt j).rk) none mX12_round (jqI Q) (65, [some (.ref l0), none, some (.int l2), some (.int l3), some (.int l4), none, some (.int l6), some (.int l7), some (.int l8), none], [], S, 0, 0)) (hX72 : ∀ l0 l2 l3 l4 l6 l7 l8 l9 S, X72 l0 l2 l3 l4 l6 l7 l8 l9 S → jLf (jCall jmt jbud d) jbud (fun j => (jmt j).rk) none mX12_round (jqI Q) (72, [some (.ref l0), none, some (.int l2), some (.int l3), some (.int l4), none, some (.int l6), some (.int l7), some (.int l8), some (.int l9)], [], S, 0, 0)) {l0 : Nat} {l2 : Int32} {l3 : Int32} {l4 : Int32} {l6 : Int32} {l7 : Int32} {l8 : Int32} {l9 : Int32} {S : JS} (h : wX12_round_104 X65 X72 l0 l2 l3 l4 l6 l7 l8 l9 S Q) : jLf (jCall jmt jbud d) jbud (fun j => (jmt j).rk) none mX12_round (jqI Q) (104, [some (.ref l0), none, some (.int l2), some (.int l3), some (.int l4), none, some (.int l6), some (.int l7), some (.int l8), some (.int l9)], [], S, 0, 0) := by
  have hc := jCall_mono jmt jbud d
  unfold wX12_round_104 at h
  refine jLf.bk hc 1 [] [some (.ref l0), none, some (.int l2), some (.int l3), some (.int l4), none, some (.int l6), some (.int l7), some (.int l8), some (.int (l9 + 1))] [] S rfl rfl rfl trivial ?_
  generalize ex29 : (l9 + 1 : Int32) = x29
  have h := h x29 ex29.symm
  refine jLf.one hc _ rfl (gs := []) (c := (72, [some (.ref l0), none, some (.int l2), some (.int l3), some (.int l4), none, some (.int l6), some (.int l7), some (.int l8), some (.int x29)], [], S, 0, 0)) rfl trivial ?_
  exact hX72 _ _ _ _ _ _ _ _ _ h
def bX12_round_72  (X65 : Nat → Int32 → Int32 → Int32 → Int32 → Int32 → Int32 → JS → Prop) (X72 : Nat → Int32 → Int32 → Int32 → Int32 → Int32 → Int32 → Int32 → JS → Prop) (l0 : Nat) (l2 : Int32) (l3 : Int32) (l4 : Int32) (l6 : Int32) (l7 : Int32) (l8 : Int32) (l9 : Int32) (S : JS) (Q : Int32 → JS → Prop) : Prop :=
  jA S l0 12 ∧ (¬ jR S l0 33 = none ∧ (jA S (jr S l0 33) 13 ∧ (vp_in (((9 : Int32) * l8) + l6) (jZ S (jr S l0 33)) ∧ (wX12_is (jI S (jr S l0 33) (((9 : Int32) * l8) + l6).toNatClampNeg) l9 S (fun r28 S27 => (r28 = 0 → wX12_round_104 X65 X72 l0 l2 l3 l4 l6 l7 l8 l9 S27 Q) ∧ (¬ r28 = 0 → jA S27 l0 12 ∧ (¬ jR S27 l0 37 = none ∧ (jA S27 (jr S27 l0 37) 15 ∧ (vp_in ((((4608 : Int32) * (l8 + (1 : Int32))) + ((512 : Int32) * l9)) + (l7 ||| (l3 &&& ((1 : Int32) <<< (l9 &&& 31))))) (jZ S27 (jr S27 l0 37)) ∧ ((¬ (jI S27 (jr S27 l0 37) ((((4608 : Int32) * (l8 + (1 : Int32))) + ((512 : Int32) * l9)) + (l7 ||| (l3 &&& ((1 : Int32) <<< (l9 &&& 31))))).toNatClampNeg) = 0 → ∀ x34 : Int32, x34 = (l7 ||| (l3 &&& ((1 : Int32) <<< (l9 &&& 31)))) → (∀ x35 : Int32, x35 = (l8 + 1) → (X65 l0 l2 l3 l4 l9 x34 x35 S27))) ∧ ((jI S27 (jr S27 l0 37) ((((4608 : Int32) * (l8 + (1 : Int32))) + ((512 : Int32) * l9)) + (l7 ||| (l3 &&& ((1 : Int32) <<< (l9 &&& 31))))).toNatClampNeg) = 0 → wX12_round_104 X65 X72 l0 l2 l3 l4 l6 l7 l8 l9 S27 Q)))))))))))
set_option maxRecDepth 20000 in
theorem uX12_round_72 {Q : Int32 → JS → Prop} {X65 : Nat → Int32 → Int32 → Int32 → Int32 → Int32 → Int32 → JS → Prop} (d : Nat) (hd : 6 ≤ d) (hX65 : ∀ l0 l2 l3 l4 l6 l7 l8 S, X65 l0 l2 l3 l4 l6 l7 l8 S → jLf (jCall jmt jbud d) jbud (fun j => (jmt j).rk) none mX12_round (jqI Q) (65, [some (.ref l0), none, some (.int l2), some (.int l3), some (.int l4), none, some (.int l6), some (.int l7), some (.int l8), none], [], S, 0, 0)) {X72 : Nat → Int32 → Int32 → Int32 → Int32 → Int32 → Int32 → Int32 → JS → Prop} (hX72 : ∀ l0 l2 l3 l4 l6 l7 l8 l9 S, X72 l0 l2 l3 l4 l6 l7 l8 l9 S → jLf (jCall jmt jbud d) jbud (fun j => (jmt j).rk) none mX12_round (jqI Q) (72, [some (.ref l0), none, some (.int l2), some (.int l3), some (.int l4), none, some (.int l6), some (.int l7), some (.int l8), some (.int l9)], [], S, 0, 0)) {l0 : Nat} {l2 : Int32} {l3 : Int32} {l4 : Int32} {l6 : Int32} {l7 : Int32} {l8 : Int32} {l9 : Int32} {S : JS} (h : bX12_round_72 X65 X72 l0 l2 l3 l4 l6 l7 l8 l9 S Q) : jLf (jCall jmt jbud d) jbud (fun j => (jmt j).rk) none mX12_round (jqI Q) (72, [some (.ref l0), none, some (.int l2), some (.int l3), some (.int l4), none, some (.int l6), some (.int l7), some (.int l8), some (.int l9)], [], S, 0, 0) := by
  have hc := jCall_mono jmt jbud d
  unfold bX12_round_72 at h
  obtain ⟨g23, g24, g25, g26, h⟩ := h
  refine jLf.bk hc 9 [jA S l0 12, ¬ jR S l0 33 = none, jA S (jr S l0 33) 13, vp_in (((9 : Int32) * l8) + l6) (jZ S (jr S l0 33))] [some (.ref l0), none, some (.int l2), some (.int l3), some (.int l4), none, some (.int l6), some (.int l7), some (.int l8), some (.int l9)] [.int l9, .int (jI S (jr S l0 33) (((9 : Int32) * l8) + l6).toNatClampNeg)] S rfl rfl rfl ⟨g23, g24, g25, g26⟩ ?_
  refine jLf.inv hc _ rfl (gs := [2 ≤ ([.int l9, .int (jI S (jr S l0 33) (((9 : Int32) * l8) + l6).toNatClampNeg)] : List Value).length, (([] : List Value).map fun v => v.category).sum ≤ 8, 0 ≤ 0, 0 ≤ 0]) (k := 149) (args := [.int (jI S (jr S l0 33) (((9 : Int32) * l8) + l6).toNatClampNeg), .int l9]) (r := []) (a := 0) (b := 0) rfl ⟨Nat.le_of_ble_eq_true rfl, Nat.le_of_ble_eq_true rfl, Nat.zero_le _, Nat.zero_le _⟩ (vX12_is d (by omega) h) ?_
  rintro v S27 ⟨r28, rfl, h⟩
  show jLf (jCall jmt jbud d) jbud (fun j => (jmt j).rk) none mX12_round (jqI Q) (82, [some (.ref l0), none, some (.int l2), some (.int l3), some (.int l4), none, some (.int l6), some (.int l7), some (.int l8), some (.int l9)], [.int r28], S27, 0, 0)
  refine jLf.two hc _ rfl (gs := []) (p1 := r28 = 0) (p2 := ¬ (r28 = 0)) (c1 := (104, [some (.ref l0), none, some (.int l2), some (.int l3), some (.int l4), none, some (.int l6), some (.int l7), some (.int l8), some (.int l9)], [], S27, 0, 0)) (c2 := (83, [some (.ref l0), none, some (.int l2), some (.int l3), some (.int l4), none, some (.int l6), some (.int l7), some (.int l8), some (.int l9)], [], S27, 0, 0)) rfl trivial (fun hz => ?_) (fun hz => ?_)
  · have h := h.1 hz
    exact tX12_round_104 d hd hX65 hX72 h
  · have h := h.2 hz
    obtain ⟨g30, g31, g32, g33, h⟩ := h
    refine jLf.bk hc 20 [jA S27 l0 12, ¬ jR S27 l0 37 = none, jA S27 (jr S27 l0 37) 15, vp_in ((((4608 : Int32) * (l8 + (1 : Int32))) + ((512 : Int32) * l9)) + (l7 ||| (l3 &&& ((1 : Int32) <<< (l9 &&& 31))))) (jZ S27 (jr S27 l0 37))] [some (.ref l0), none, some (.int l2), some (.int l3), some (.int l4), none, some (.int l6), some (.int l7), some (.int l8), some (.int l9)] [.int (jI S27 (jr S27 l0 37) ((((4608 : Int32) * (l8 + (1 : Int32))) + ((512 : Int32) * l9)) + (l7 ||| (l3 &&& ((1 : Int32) <<< (l9 &&& 31))))).toNatClampNeg)] S27 rfl rfl rfl ⟨g30, g31, g32, g33⟩ ?_
    refine jLf.two hc _ rfl (gs := []) (p1 := ¬ (jI S27 (jr S27 l0 37) ((((4608 : Int32) * (l8 + (1 : Int32))) + ((512 : Int32) * l9)) + (l7 ||| (l3 &&& ((1 : Int32) <<< (l9 &&& 31))))).toNatClampNeg) = 0) (p2 := ¬ (¬ (jI S27 (jr S27 l0 37) ((((4608 : Int32) * (l8 + (1 : Int32))) + ((512 : Int32) * l9)) + (l7 ||| (l3 &&& ((1 : Int32) <<< (l9 &&& 31))))).toNatClampNeg) = 0)) (c1 := (106, [some (.ref l0), none, some (.int l2), some (.int l3), some (.int l4), none, some (.int l6), some (.int l7), some (.int l8), some (.int l9)], [], S27, 0, 0)) (c2 := (104, [some (.ref l0), none, some (.int l2), some (.int l3), some (.int l4), none, some (.int l6), some (.int l7), some (.int l8), some (.int l9)], [], S27, 0, 0)) rfl trivial (fun hz => ?_) (fun hz => ?_)
    · have h := h.1 hz
      refine jLf.bk hc 10 [] [some (.ref l0), none, some (.int l2), some (.int l3), some (.int l4), none, some (.int l9), some (.int (l7 ||| (l3 &&& ((1 : Int32) <<< (l9 &&& 31))))), some (.int l8), some (.int l9)] [] S27 rfl rfl rfl trivial ?_
      generalize ex34 : (l7 ||| (l3 &&& ((1 : Int32) <<< (l9 &&& 31))) : Int32) = x34
      have h := h x34 ex34.symm
      refine jLf.bk hc 1 [] [some (.ref l0), none, some (.int l2), some (.int l3), some (.int l4), none, some (.int l9), some (.int x34), some (.int (l8 + 1)), some (.int l9)] [] S27 rfl rfl rfl trivial ?_
      generalize ex35 : (l8 + 1 : Int32) = x35
      have h := h x35 ex35.symm
      refine jLf.one hc _ rfl (gs := []) (c := (65, [some (.ref l0), none, some (.int l2), some (.int l3), some (.int l4), none, some (.int l9), some (.int x34), some (.int x35), some (.int l9)], [], S27, 0, 0)) rfl trivial ?_
      refine jLf.sub [some (.ref l0), none, some (.int l2), some (.int l3), some (.int l4), none, some (.int l9), some (.int x34), some (.int x35), none] (jle_same (jle_same (jle_same (jle_same (jle_same (jle_same (jle_same (jle_same (jle_same (jle_none (jle_nil _))))))))))) ?_
      exact hX65 _ _ _ _ _ _ _ _ h
    · have h := h.2 (Classical.not_not.mp hz)
      exact tX12_round_104 d hd hX65 hX72 h
def wX12_round_72  (X65 : Nat → Int32 → Int32 → Int32 → Int32 → Int32 → Int32 → JS → Prop) (l0 : Nat) (l2 : Int32) (l3 : Int32) (l4 : Int32) (l6 : Int32) (l7 : Int32) (l8 : Int32) (l9 : Int32) (S : JS) (Q : Int32 → JS → Prop) : Prop :=
  jLoop (fun (X72 : Nat × Int32 × Int32 × Int32 × Int32 × Int32 × Int32 × Int32 × JS → Prop) q => bX12_round_72 X65 (fun l0 l2 l3 l4 l6 l7 l8 l9 S => X72 (l0, l2, l3, l4, l6, l7, l8, l9, S)) q.1 q.2.1 q.2.2.1 q.2.2.2.1 q.2.2.2.2.1 q.2.2.2.2.2.1 q.2.2.2.2.2.2.1 q.2.2.2.2.2.2.2.1 q.2.2.2.2.2.2.2.2 Q) (l0, l2, l3, l4, l6, l7, l8, l9, S)
set_option maxRecDepth 20000 in
theorem tX12_round_72 {Q : Int32 → JS → Prop} {X65 : Nat → Int32 → Int32 → Int32 → Int32 → Int32 → Int32 → JS → Prop} (d : Nat) (hd : 6 ≤ d) (hX65 : ∀ l0 l2 l3 l4 l6 l7 l8 S, X65 l0 l2 l3 l4 l6 l7 l8 S → jLf (jCall jmt jbud d) jbud (fun j => (jmt j).rk) none mX12_round (jqI Q) (65, [some (.ref l0), none, some (.int l2), some (.int l3), some (.int l4), none, some (.int l6), some (.int l7), some (.int l8), none], [], S, 0, 0)) {l0 : Nat} {l2 : Int32} {l3 : Int32} {l4 : Int32} {l6 : Int32} {l7 : Int32} {l8 : Int32} {l9 : Int32} {S : JS} (h : wX12_round_72 X65 l0 l2 l3 l4 l6 l7 l8 l9 S Q) : jLf (jCall jmt jbud d) jbud (fun j => (jmt j).rk) none mX12_round (jqI Q) (72, [some (.ref l0), none, some (.int l2), some (.int l3), some (.int l4), none, some (.int l6), some (.int l7), some (.int l8), some (.int l9)], [], S, 0, 0) := by
  have := h (fun q : Nat × Int32 × Int32 × Int32 × Int32 × Int32 × Int32 × Int32 × JS => jLf (jCall jmt jbud d) jbud (fun j => (jmt j).rk) none mX12_round (jqI Q) (72, [some (.ref (q.1)), none, some (.int (q.2.1)), some (.int (q.2.2.1)), some (.int (q.2.2.2.1)), none, some (.int (q.2.2.2.2.1)), some (.int (q.2.2.2.2.2.1)), some (.int (q.2.2.2.2.2.2.1)), some (.int (q.2.2.2.2.2.2.2.1))], [], q.2.2.2.2.2.2.2.2, 0, 0)) (fun q R hb hR => uX12_round_72 d hd hX65 (fun _ _ _ _ _ _ _ _ _ => hR _) hb)
  exact this
def bX12_round_65   (X65 : Nat → Int32 → Int32 → Int32 → Int32 → Int32 → Int32 → JS → Prop) (l0 : Nat) (l2 : Int32) (l3 : Int32) (l4 : Int32) (l6 : Int32) (l7 : Int32) (l8 : Int32) (S : JS) (Q : Int32 → JS → Prop) : Prop :=
  ((l2 + l4) ≤ l8 → Q l6 S) ∧ (¬ ((l2 + l4) ≤ l8) → wX12_round_72 X65 l0 l2 l3 l4 l6 l7 l8 0 S Q)
set_option maxRecDepth 20000 in
theorem uX12_round_65 {Q : Int32 → JS → Prop}  (d : Nat) (hd : 6 ≤ d) {X65 : Nat → Int32 → Int32 → Int32 → Int32 → Int32 → Int32 → JS → Prop} (hX65 : ∀ l0 l2 l3 l4 l6 l7 l8 S, X65 l0 l2 l3 l4 l6 l7 l8 S → jLf (jCall jmt jbud d) jbud (fun j => (jmt j).rk) none mX12_round (jqI Q) (65, [some (.ref l0), none, some (.int l2), some (.int l3), some (.int l4), none, some (.int l6), some (.int l7), some (.int l8), none], [], S, 0, 0)) {l0 : Nat} {l2 : Int32} {l3 : Int32} {l4 : Int32} {l6 : Int32} {l7 : Int32} {l8 : Int32} {S : JS} (h : bX12_round_65 X65 l0 l2 l3 l4 l6 l7 l8 S Q) : jLf (jCall jmt jbud d) jbud (fun j => (jmt j).rk) none mX12_round (jqI Q) (65, [some (.ref l0), none, some (.int l2), some (.int l3), some (.int l4), none, some (.int l6), some (.int l7), some (.int l8), none], [], S, 0, 0) := by
  have hc := jCall_mono jmt jbud d
  unfold bX12_round_65 at h
  refine jLf.bk hc 4 [] [some (.ref l0), none, some (.int l2), some (.int l3), some (.int l4), none, some (.int l6), some (.int l7), some (.int l8), none] [.int (l2 + l4), .int l8] S rfl rfl rfl trivial ?_
  refine jLf.two hc _ rfl (gs := []) (p1 := (l2 + l4) ≤ l8) (p2 := ¬ ((l2 + l4) ≤ l8)) (c1 := (118, [some (.ref l0), none, some (.int l2), some (.int l3), some (.int l4), none, some (.int l6), some (.int l7), some (.int l8), none], [], S, 0, 0)) (c2 := (70, [some (.ref l0), none, some (.int l2), some (.int l3), some (.int l4), none, some (.int l6), some (.int l7), some (.int l8), none], [], S, 0, 0)) rfl trivial (fun hz => ?_) (fun hz => ?_)
  · have h := h.1 hz
    refine jLf.bk hc 1 [] [some (.ref l0), none, some (.int l2), some (.int l3), some (.int l4), none, some (.int l6), some (.int l7), some (.int l8), none] [.int l6] S rfl rfl rfl trivial ?_
    exact jLf.ret hc _ rfl (gs := [True]) (v := some (.int l6)) rfl trivial ⟨l6, rfl, h⟩
  · have h := h.2 hz
    refine jLf.bk hc 2 [] [some (.ref l0), none, some (.int l2), some (.int l3), some (.int l4), none, some (.int l6), some (.int l7), some (.int l8), some (.int 0)] [] S rfl rfl rfl trivial ?_
    exact tX12_round_72 d hd hX65 h
def wX12_round_65   (l0 : Nat) (l2 : Int32) (l3 : Int32) (l4 : Int32) (l6 : Int32) (l7 : Int32) (l8 : Int32) (S : JS) (Q : Int32 → JS → Prop) : Prop :=
  jLoop (fun (X65 : Nat × Int32 × Int32 × Int32 × Int32 × Int32 × Int32 × JS → Prop) q => bX12_round_65 (fun l0 l2 l3 l4 l6 l7 l8 S => X65 (l0, l2, l3, l4, l6, l7, l8, S)) q.1 q.2.1 q.2.2.1 q.2.2.2.1 q.2.2.2.2.1 q.2.2.2.2.2.1 q.2.2.2.2.2.2.1 q.2.2.2.2.2.2.2 Q) (l0, l2, l3, l4, l6, l7, l8, S)
set_option maxRecDepth 20000 in
theorem tX12_round_65 {Q : Int32 → JS → Prop}  (d : Nat) (hd : 6 ≤ d) {l0 : Nat} {l2 : Int32} {l3 : Int32} {l4 : Int32} {l6 : Int32} {l7 : Int32} {l8 : Int32} {S : JS} (h : wX12_round_65 l0 l2 l3 l4 l6 l7 l8 S Q) : jLf (jCall jmt jbud d) jbud (fun j => (jmt j).rk) none mX12_round (jqI Q) (65, [some (.ref l0), none, some (.int l2), some (.int l3), some (.int l4), none, some (.int l6), some (.int l7), some (.int l8), none], [], S, 0, 0) := by
  have := h (fun q : Nat × Int32 × Int32 × Int32 × Int32 × Int32 × Int32 × JS => jLf (jCall jmt jbud d) jbud (fun j => (jmt j).rk) none mX12_round (jqI Q) (65, [some (.ref (q.1)), none, some (.int (q.2.1)), some (.int (q.2.2.1)), some (.int (q.2.2.2.1)), none, some (.int (q.2.2.2.2.1)), some (.int (q.2.2.2.2.2.1)), some (.int (q.2.2.2.2.2.2.1)), none], [], q.2.2.2.2.2.2.2, 0, 0)) (fun q R hb hR => uX12_round_65 d hd  (fun _ _ _ _ _ _ _ _ => hR _) hb)
  exact this
def wX12_round  (this : Nat) (p1 : Int32) (p2 : Int32) (p3 : Int32) (p4 : Int32) (S : JS) (Q : Int32 → JS → Prop) : Prop :=
  jA S this 12 ∧ (∀ S2 : JS, S2 = uI S this 0 0 → (jA S2 this 12 ∧ (wX12_isRock this p1 S2 (fun r4 S3 => (r4 = 0 → Q (-1) S3) ∧ (¬ r4 = 0 → wX12_isNight p2 S3 (fun r7 S6 => (r7 = 0 → Q (-1) S6) ∧ (¬ r7 = 0 → jA S6 this 12 ∧ (wX12_rocks this S6 (fun r9 S8 => wX12_in (p3.toInt64) 0 ((((1 : Int32) <<< (r9 &&& 31)).toInt64) - (1 : Int64)) S8 (fun r12 S11 => (r12 = 0 → Q (-1) S11) ∧ (¬ r12 = 0 → ((-1) ≤ p4 → jA S11 this 12 ∧ (wX12_layOut this S11 (fun S13 => jA S13 this 12 ∧ (wX12_earliest this p1 p2 p3 S13 (fun r17 S16 => (p4 = (-1) → Q r17 S16) ∧ (¬ p4 = (-1) → (¬ r17 = (-1) → (p4 ≤ (r17 - p2) → jA S16 this 12 ∧ (wX12_findDone this p2 r17 p3 S16 (fun S19 => ∀ x22 : Int32, x22 = (p3 &&& ((1 : Int32) <<< (p1 &&& 31))) → (wX12_round_65 this p2 p3 p4 p1 x22 p2 S19 Q)))) ∧ (¬ (p4 ≤ (r17 - p2)) → Q (-1) S16)) ∧ (r17 = (-1) → Q r17 S16))))))) ∧ (¬ ((-1) ≤ p4) → Q (-1) S11))))))))))))
set_option maxRecDepth 20000 in
theorem vX12_round {Q : Int32 → JS → Prop} (d : Nat) (hd : 7 ≤ d) {this : Nat} {p1 : Int32} {p2 : Int32} {p3 : Int32} {p4 : Int32} {S : JS} (h : wX12_round this p1 p2 p3 p4 S Q) : jCall jmt jbud d 222 [.ref this, .int p1, .int p2, .int p3, .int p4] S (jqI Q) := by
  obtain ⟨d, rfl⟩ : ∃ d2, d = d2 + 1 := ⟨d - 1, by omega⟩
  have hd : 6 ≤ d := by omega
  have hc := jCall_mono jmt jbud d
  unfold wX12_round at h
  refine ⟨Nat.le_of_ble_eq_true rfl, ?_⟩
  show jLf (jCall jmt jbud d) jbud (fun j => (jmt j).rk) none mX12_round (jqI Q) (0, [some (.ref this), some (.int p1), some (.int p2), some (.int p3), some (.int p4), none, none, none, none, none], [], S, 0, 0)
  obtain ⟨g1, h⟩ := h
  refine jLf.bk hc 3 [jA S this 12] [some (.ref this), some (.int p1), some (.int p2), some (.int p3), some (.int p4), none, none, none, none, none] [] (uI S this 0 0) rfl rfl rfl g1 ?_
  generalize eS2 : uI S this 0 0 = S2
  have h := h S2 eS2.symm
  refine jLf.bk hc 2 [] [some (.ref this), some (.int p1), some (.int p2), some (.int p3), some (.int p4), none, none, none, none, none] [.int p1, .ref this] S2 rfl rfl rfl trivial ?_
  obtain ⟨g5, h⟩ := h
  refine jLf.inv hc _ rfl (gs := [jA S2 this 12, (([] : List Value).map fun v => v.category).sum ≤ 8, 0 ≤ 0, 0 ≤ 0]) (k := 155) (args := [.ref this, .int p1]) (r := []) (a := 0) (b := 0) rfl ⟨g5, Nat.le_of_ble_eq_true rfl, Nat.zero_le _, Nat.zero_le _⟩ (vX12_isRock d (by omega) h) ?_
  rintro v S3 ⟨r4, rfl, h⟩
  show jLf (jCall jmt jbud d) jbud (fun j => (jmt j).rk) none mX12_round (jqI Q) (6, [some (.ref this), some (.int p1), some (.int p2), some (.int p3), some (.int p4), none, none, none, none, none], [.int r4], S3, 0, 0)
  refine jLf.two hc _ rfl (gs := []) (p1 := r4 = 0) (p2 := ¬ (r4 = 0)) (c1 := (25, [some (.ref this), some (.int p1), some (.int p2), some (.int p3), some (.int p4), none, none, none, none, none], [], S3, 0, 0)) (c2 := (7, [some (.ref this), some (.int p1), some (.int p2), some (.int p3), some (.int p4), none, none, none, none, none], [], S3, 0, 0)) rfl trivial (fun hz => ?_) (fun hz => ?_)
  · have h := h.1 hz
    refine jLf.bk hc 1 [] [some (.ref this), some (.int p1), some (.int p2), some (.int p3), some (.int p4), none, none, none, none, none] [.int (-1)] S3 rfl rfl rfl trivial ?_
    exact jLf.ret hc _ rfl (gs := [True]) (v := some (.int (-1))) rfl trivial ⟨(-1), rfl, h⟩
  · have h := h.2 hz
    refine jLf.bk hc 1 [] [some (.ref this), some (.int p1), some (.int p2), some (.int p3), some (.int p4), none, none, none, none, none] [.int p2] S3 rfl rfl rfl trivial ?_
    refine jLf.inv hc _ rfl (gs := [1 ≤ ([.int p2] : List Value).length, (([] : List Value).map fun v => v.category).sum ≤ 8, 0 ≤ 0, 0 ≤ 0]) (k := 156) (args := [.int p2]) (r := []) (a := 0) (b := 0) rfl ⟨Nat.le_of_ble_eq_true rfl, Nat.le_of_ble_eq_true rfl, Nat.zero_le _, Nat.zero_le _⟩ (vX12_isNight d (by omega) h) ?_
    rintro v S6 ⟨r7, rfl, h⟩
    show jLf (jCall jmt jbud d) jbud (fun j => (jmt j).rk) none mX12_round (jqI Q) (9, [some (.ref this), some (.int p1), some (.int p2), some (.int p3), some (.int p4), none, none, none, none, none], [.int r7], S6, 0, 0)
    refine jLf.two hc _ rfl (gs := []) (p1 := r7 = 0) (p2 := ¬ (r7 = 0)) (c1 := (25, [some (.ref this), some (.int p1), some (.int p2), some (.int p3), some (.int p4), none, none, none, none, none], [], S6, 0, 0)) (c2 := (10, [some (.ref this), some (.int p1), some (.int p2), some (.int p3), some (.int p4), none, none, none, none, none], [], S6, 0, 0)) rfl trivial (fun hz => ?_) (fun hz => ?_)
    · have h := h.1 hz
      refine jLf.bk hc 1 [] [some (.ref this), some (.int p1), some (.int p2), some (.int p3), some (.int p4), none, none, none, none, none] [.int (-1)] S6 rfl rfl rfl trivial ?_
      exact jLf.ret hc _ rfl (gs := [True]) (v := some (.int (-1))) rfl trivial ⟨(-1), rfl, h⟩
    · have h := h.2 hz
      refine jLf.bk hc 5 [] [some (.ref this), some (.int p1), some (.int p2), some (.int p3), some (.int p4), none, none, none, none, none] [.ref this, .int 1, .long 0, .long (p3.toInt64)] S6 rfl rfl rfl trivial ?_
      obtain ⟨g10, h⟩ := h
      refine jLf.inv hc _ rfl (gs := [jA S6 this 12, (([.int 1, .long 0, .long (p3.toInt64)] : List Value).map fun v => v.category).sum ≤ 8, 0 ≤ 0, 0 ≤ 0]) (k := 154) (args := [.ref this]) (r := [.int 1, .long 0, .long (p3.toInt64)]) (a := 0) (b := 0) rfl ⟨g10, Nat.le_of_ble_eq_true rfl, Nat.zero_le _, Nat.zero_le _⟩ (vX12_rocks d (by omega) h) ?_
      rintro v S8 ⟨r9, rfl, h⟩
      show jLf (jCall jmt jbud d) jbud (fun j => (jmt j).rk) none mX12_round (jqI Q) (16, [some (.ref this), some (.int p1), some (.int p2), some (.int p3), some (.int p4), none, none, none, none, none], [.int r9, .int 1, .long 0, .long (p3.toInt64)], S8, 0, 0)
      refine jLf.bk hc 4 [] [some (.ref this), some (.int p1), some (.int p2), some (.int p3), some (.int p4), none, none, none, none, none] [.long ((((1 : Int32) <<< (r9 &&& 31)).toInt64) - (1 : Int64)), .long 0, .long (p3.toInt64)] S8 rfl rfl rfl trivial ?_
      refine jLf.inv hc _ rfl (gs := [3 ≤ ([.long ((((1 : Int32) <<< (r9 &&& 31)).toInt64) - (1 : Int64)), .long 0, .long (p3.toInt64)] : List Value).length, (([] : List Value).map fun v => v.category).sum ≤ 8, 0 ≤ 0, 0 ≤ 0]) (k := 148) (args := [.long (p3.toInt64), .long 0, .long ((((1 : Int32) <<< (r9 &&& 31)).toInt64) - (1 : Int64))]) (r := []) (a := 0) (b := 0) rfl ⟨Nat.le_of_ble_eq_true rfl, Nat.le_of_ble_eq_true rfl, Nat.zero_le _, Nat.zero_le _⟩ (vX12_in d (by omega) h) ?_
      rintro v S11 ⟨r12, rfl, h⟩
      show jLf (jCall jmt jbud d) jbud (fun j => (jmt j).rk) none mX12_round (jqI Q) (21, [some (.ref this), some (.int p1), some (.int p2), some (.int p3), some (.int p4), none, none, none, none, none], [.int r12], S11, 0, 0)
      refine jLf.two hc _ rfl (gs := []) (p1 := r12 = 0) (p2 := ¬ (r12 = 0)) (c1 := (25, [some (.ref this), some (.int p1), some (.int p2), some (.int p3), some (.int p4), none, none, none, none, none], [], S11, 0, 0)) (c2 := (22, [some (.ref this), some (.int p1), some (.int p2), some (.int p3), some (.int p4), none, none, none, none, none], [], S11, 0, 0)) rfl trivial (fun hz => ?_) (fun hz => ?_)
      · have h := h.1 hz
        refine jLf.bk hc 1 [] [some (.ref this), some (.int p1), some (.int p2), some (.int p3), some (.int p4), none, none, none, none, none] [.int (-1)] S11 rfl rfl rfl trivial ?_
        exact jLf.ret hc _ rfl (gs := [True]) (v := some (.int (-1))) rfl trivial ⟨(-1), rfl, h⟩
      · have h := h.2 hz
        refine jLf.bk hc 2 [] [some (.ref this), some (.int p1), some (.int p2), some (.int p3), some (.int p4), none, none, none, none, none] [.int (-1), .int p4] S11 rfl rfl rfl trivial ?_
        refine jLf.two hc _ rfl (gs := []) (p1 := (-1) ≤ p4) (p2 := ¬ ((-1) ≤ p4)) (c1 := (27, [some (.ref this), some (.int p1), some (.int p2), some (.int p3), some (.int p4), none, none, none, none, none], [], S11, 0, 0)) (c2 := (25, [some (.ref this), some (.int p1), some (.int p2), some (.int p3), some (.int p4), none, none, none, none, none], [], S11, 0, 0)) rfl trivial (fun hz => ?_) (fun hz => ?_)
        · have h := h.1 hz
          refine jLf.bk hc 1 [] [some (.ref this), some (.int p1), some (.int p2), some (.int p3), some (.int p4), none, none, none, none, none] [.ref this] S11 rfl rfl rfl trivial ?_
          obtain ⟨g15, h⟩ := h
          refine jLf.inv hc _ rfl (gs := [jA S11 this 12, (([] : List Value).map fun v => v.category).sum ≤ 8, 0 ≤ 0, 0 ≤ 0]) (k := 210) (args := [.ref this]) (r := []) (a := 0) (b := 0) rfl ⟨g15, Nat.le_of_ble_eq_true rfl, Nat.zero_le _, Nat.zero_le _⟩ (vX12_layOut d (by omega) h) ?_
          rintro v S13 ⟨rfl, h⟩
          show jLf (jCall jmt jbud d) jbud (fun j => (jmt j).rk) none mX12_round (jqI Q) (29, [some (.ref this), some (.int p1), some (.int p2), some (.int p3), some (.int p4), none, none, none, none, none], [], S13, 0, 0)
          refine jLf.bk hc 4 [] [some (.ref this), some (.int p1), some (.int p2), some (.int p3), some (.int p4), none, none, none, none, none] [.int p3, .int p2, .int p1, .ref this] S13 rfl rfl rfl trivial ?_
          obtain ⟨g18, h⟩ := h
          refine jLf.inv hc _ rfl (gs := [jA S13 this 12, (([] : List Value).map fun v => v.category).sum ≤ 8, 0 ≤ 0, 0 ≤ 0]) (k := 220) (args := [.ref this, .int p1, .int p2, .int p3]) (r := []) (a := 0) (b := 0) rfl ⟨g18, Nat.le_of_ble_eq_true rfl, Nat.zero_le _, Nat.zero_le _⟩ (vX12_earliest d (by omega) h) ?_
          rintro v S16 ⟨r17, rfl, h⟩
          show jLf (jCall jmt jbud d) jbud (fun j => (jmt j).rk) none mX12_round (jqI Q) (34, [some (.ref this), some (.int p1), some (.int p2), some (.int p3), some (.int p4), none, none, none, none, none], [.int r17], S16, 0, 0)
          refine jLf.bk hc 3 [] [some (.ref this), some (.int p1), some (.int p2), some (.int p3), some (.int p4), some (.int r17), none, none, none, none] [.int (-1), .int p4] S16 rfl rfl rfl trivial ?_
          refine jLf.two hc _ rfl (gs := []) (p1 := p4 = (-1)) (p2 := ¬ (p4 = (-1))) (c1 := (41, [some (.ref this), some (.int p1), some (.int p2), some (.int p3), some (.int p4), some (.int r17), none, none, none, none], [], S16, 0, 0)) (c2 := (38, [some (.ref this), some (.int p1), some (.int p2), some (.int p3), some (.int p4), some (.int r17), none, none, none, none], [], S16, 0, 0)) rfl trivial (fun hz => ?_) (fun hz => ?_)
          · have h := h.1 hz
            refine jLf.bk hc 1 [] [some (.ref this), some (.int p1), some (.int p2), some (.int p3), some (.int p4), some (.int r17), none, none, none, none] [.int r17] S16 rfl rfl rfl trivial ?_
            exact jLf.ret hc _ rfl (gs := [True]) (v := some (.int r17)) rfl trivial ⟨r17, rfl, h⟩
          · have h := h.2 hz
            refine jLf.bk hc 2 [] [some (.ref this), some (.int p1), some (.int p2), some (.int p3), some (.int p4), some (.int r17), none, none, none, none] [.int (-1), .int r17] S16 rfl rfl rfl trivial ?_
            refine jLf.two hc _ rfl (gs := []) (p1 := ¬ r17 = (-1)) (p2 := ¬ (¬ r17 = (-1))) (c1 := (43, [some (.ref this), some (.int p1), some (.int p2), some (.int p3), some (.int p4), some (.int r17), none, none, none, none], [], S16, 0, 0)) (c2 := (41, [some (.ref this), some (.int p1), some (.int p2), some (.int p3), some (.int p4), some (.int r17), none, none, none, none], [], S16, 0, 0)) rfl trivial (fun hz => ?_) (fun hz => ?_)
            · have h := h.1 hz
              refine jLf.bk hc 4 [] [some (.ref this), some (.int p1), some (.int p2), some (.int p3), some (.int p4), some (.int r17), none, none, none, none] [.int (r17 - p2), .int p4] S16 rfl rfl rfl trivial ?_
              refine jLf.two hc _ rfl (gs := []) (p1 := p4 ≤ (r17 - p2)) (p2 := ¬ (p4 ≤ (r17 - p2))) (c1 := (50, [some (.ref this), some (.int p1), some (.int p2), some (.int p3), some (.int p4), some (.int r17), none, none, none, none], [], S16, 0, 0)) (c2 := (48, [some (.ref this), some (.int p1), some (.int p2), some (.int p3), some (.int p4), some (.int r17), none, none, none, none], [], S16, 0, 0)) rfl trivial (fun hz => ?_) (fun hz => ?_)
              · have h := h.1 hz
                refine jLf.bk hc 4 [] [some (.ref this), some (.int p1), some (.int p2), some (.int p3), some (.int p4), some (.int r17), none, none, none, none] [.int p3, .int r17, .int p2, .ref this] S16 rfl rfl rfl trivial ?_
                obtain ⟨g21, h⟩ := h
                refine jLf.inv hc _ rfl (gs := [jA S16 this 12, (([] : List Value).map fun v => v.category).sum ≤ 8, 0 ≤ 0, 0 ≤ 0]) (k := 221) (args := [.ref this, .int p2, .int r17, .int p3]) (r := []) (a := 0) (b := 0) rfl ⟨g21, Nat.le_of_ble_eq_true rfl, Nat.zero_le _, Nat.zero_le _⟩ (vX12_findDone d (by omega) h) ?_
                rintro v S19 ⟨rfl, h⟩
                show jLf (jCall jmt jbud d) jbud (fun j => (jmt j).rk) none mX12_round (jqI Q) (55, [some (.ref this), some (.int p1), some (.int p2), some (.int p3), some (.int p4), some (.int r17), none, none, none, none], [], S19, 0, 0)
                refine jLf.bk hc 8 [] [some (.ref this), some (.int p1), some (.int p2), some (.int p3), some (.int p4), some (.int r17), some (.int p1), some (.int (p3 &&& ((1 : Int32) <<< (p1 &&& 31)))), none, none] [] S19 rfl rfl rfl trivial ?_
                generalize ex22 : (p3 &&& ((1 : Int32) <<< (p1 &&& 31)) : Int32) = x22
                have h := h x22 ex22.symm
                refine jLf.bk hc 2 [] [some (.ref this), some (.int p1), some (.int p2), some (.int p3), some (.int p4), some (.int r17), some (.int p1), some (.int x22), some (.int p2), none] [] S19 rfl rfl rfl trivial ?_
                refine jLf.sub [some (.ref this), none, some (.int p2), some (.int p3), some (.int p4), none, some (.int p1), some (.int x22), some (.int p2), none] (jle_same (jle_none (jle_same (jle_same (jle_same (jle_none (jle_same (jle_same (jle_same (jle_same (jle_nil _))))))))))) ?_
                exact tX12_round_65 d hd  h
              · have h := h.2 hz
                refine jLf.bk hc 1 [] [some (.ref this), some (.int p1), some (.int p2), some (.int p3), some (.int p4), some (.int r17), none, none, none, none] [.int (-1)] S16 rfl rfl rfl trivial ?_
                exact jLf.ret hc _ rfl (gs := [True]) (v := some (.int (-1))) rfl trivial ⟨(-1), rfl, h⟩
            · have h := h.2 (Classical.not_not.mp hz)
              refine jLf.bk hc 1 [] [some (.ref this), some (.int p1), some (.int p2), some (.int p3), some (.int p4), some (.int r17), none, none, none, none] [.int r17] S16 rfl rfl rfl trivial ?_
              exact jLf.ret hc _ rfl (gs := [True]) (v := some (.int r17)) rfl trivial ⟨r17, rfl, h⟩
        · have h := h.2 hz
          refine jLf.bk hc 1 [] [some (.ref this), some (.int p1), some (.int p2), some (.int p3), some (.int p4), none, none, none, none, none] [.int (-1)] S11 rfl rfl rfl trivial ?_
          exact jLf.ret hc _ rfl (gs := [True]) (v := some (.int (-1))) rfl trivial ⟨(-1), rfl, h⟩
def wX12_reach_63  (X24 : Nat → Int32 → Int32 → Int32 → JS → Prop) (l0 : Nat) (l3 : Int32) (l5 : Int32) (l6 : Int32) (S : JS) (Q : Int32 → JS → Prop) : Prop :=
  ∀ x20 : Int32, x20 = (l5 + 1) → (X24 l0 l3 l6 x20 S)
set_option maxRecDepth 20000 in
theorem tX12_reach_63 {Q : Int32 → JS → Prop} {X24 : Nat → Int32 → Int32 → Int32 → JS → Prop} (d : Nat) (hd : 6 ≤ d) (hX24 : ∀ l0 l3 l4 l5 S, X24 l0 l3 l4 l5 S → jLf (jCall jmt jbud d) jbud (fun j => (jmt j).rk) none mX12_reach (jqI Q) (24, [some (.ref l0), none, none, some (.int l3), some (.int l4), some (.int l5), none, none], [], S, 0, 0)) {l0 : Nat} {l3 : Int32} {l5 : Int32} {l6 : Int32} {S : JS} (h : wX12_reach_63 X24 l0 l3 l5 l6 S Q) : jLf (jCall jmt jbud d) jbud (fun j => (jmt j).rk) none mX12_reach (jqI Q) (63, [some (.ref l0), none, none, some (.int l3), none, some (.int l5), some (.int l6), none], [], S, 0, 0) := by
  have hc := jCall_mono jmt jbud d
  unfold wX12_reach_63 at h
  refine jLf.bk hc 3 [] [some (.ref l0), none, none, some (.int l3), some (.int l6), some (.int (l5 + 1)), some (.int l6), none] [] S rfl rfl rfl trivial ?_
  generalize ex20 : (l5 + 1 : Int32) = x20
  have h := h x20 ex20.symm
  refine jLf.one hc _ rfl (gs := []) (c := (24, [some (.ref l0), none, none, some (.int l3), some (.int l6), some (.int x20), some (.int l6), none], [], S, 0, 0)) rfl trivial ?_
  refine jLf.sub [some (.ref l0), none, none, some (.int l3), some (.int l6), some (.int x20), none, none] (jle_same (jle_same (jle_same (jle_same (jle_same (jle_same (jle_none (jle_same (jle_nil _))))))))) ?_
  exact hX24 _ _ _ _ _ h
def wX12_reach_59  (X24 : Nat → Int32 → Int32 → Int32 → JS → Prop) (X37 : Nat → Int32 → Int32 → Int32 → Int32 → Int32 → JS → Prop) (l0 : Nat) (l3 : Int32) (l4 : Int32) (l5 : Int32) (l7 : Int32) (s0 : Int32) (s1 : Int32) (S : JS) (Q : Int32 → JS → Prop) : Prop :=
  ∀ x23 : Int32, x23 = (s1 ||| s0) → (∀ x24 : Int32, x24 = (l7 + 1) → (X37 l0 l3 l4 l5 x23 x24 S))
set_option maxRecDepth 20000 in
theorem tX12_reach_59 {Q : Int32 → JS → Prop} {X24 : Nat → Int32 → Int32 → Int32 → JS → Prop} {X37 : Nat → Int32 → Int32 → Int32 → Int32 → Int32 → JS → Prop} (d : Nat) (hd : 6 ≤ d) (hX24 : ∀ l0 l3 l4 l5 S, X24 l0 l3 l4 l5 S → jLf (jCall jmt jbud d) jbud (fun j => (jmt j).rk) none mX12_reach (jqI Q) (24, [some (.ref l0), none, none, some (.int l3), some (.int l4), some (.int l5), none, none], [], S, 0, 0)) (hX37 : ∀ l0 l3 l4 l5 l6 l7 S, X37 l0 l3 l4 l5 l6 l7 S → jLf (jCall jmt jbud d) jbud (fun j => (jmt j).rk) none mX12_reach (jqI Q) (37, [some (.ref l0), none, none, some (.int l3), some (.int l4), some (.int l5), some (.int l6), some (.int l7)], [], S, 0, 0)) {l0 : Nat} {l3 : Int32} {l4 : Int32} {l5 : Int32} {l7 : Int32} {s0 : Int32} {s1 : Int32} {S : JS} (h : wX12_reach_59 X24 X37 l0 l3 l4 l5 l7 s0 s1 S Q) : jLf (jCall jmt jbud d) jbud (fun j => (jmt j).rk) none mX12_reach (jqI Q) (59, [some (.ref l0), none, none, some (.int l3), some (.int l4), some (.int l5), none, some (.int l7)], [.int s0, .int s1], S, 0, 0) := by
  have hc := jCall_mono jmt jbud d
  unfold wX12_reach_59 at h
  refine jLf.bk hc 2 [] [some (.ref l0), none, none, some (.int l3), some (.int l4), some (.int l5), some (.int (s1 ||| s0)), some (.int l7)] [] S rfl rfl rfl trivial ?_
  generalize ex23 : (s1 ||| s0 : Int32) = x23
  have h := h x23 ex23.symm
  refine jLf.bk hc 1 [] [some (.ref l0), none, none, some (.int l3), some (.int l4), some (.int l5), some (.int x23), some (.int (l7 + 1))] [] S rfl rfl rfl trivial ?_
  generalize ex24 : (l7 + 1 : Int32) = x24
  have h := h x24 ex24.symm
  refine jLf.one hc _ rfl (gs := []) (c := (37, [some (.ref l0), none, none, some (.int l3), some (.int l4), some (.int l5), some (.int x23), some (.int x24)], [], S, 0, 0)) rfl trivial ?_
  exact hX37 _ _ _ _ _ _ _ h
def bX12_reach_37  (X24 : Nat → Int32 → Int32 → Int32 → JS → Prop) (X37 : Nat → Int32 → Int32 → Int32 → Int32 → Int32 → JS → Prop) (l0 : Nat) (l3 : Int32) (l4 : Int32) (l5 : Int32) (l6 : Int32) (l7 : Int32) (S : JS) (Q : Int32 → JS → Prop) : Prop :=
  jA S l0 12 ∧ (wX12_rocks l0 S (fun r18 S17 => (r18 ≤ l7 → wX12_reach_63 X24 l0 l3 l5 l6 S17 Q) ∧ (¬ (r18 ≤ l7) → (59 ≤ l5 → wX12_reach_63 X24 l0 l3 l5 l6 S17 Q) ∧ (¬ (59 ≤ l5) → wX12_is l4 l7 S17 (fun r22 S21 => (r22 = 0 → wX12_reach_59 X24 X37 l0 l3 l4 l5 l7 0 l6 S21 Q) ∧ (¬ r22 = 0 → jA S21 l0 12 ∧ (¬ jR S21 l0 33 = none ∧ (jA S21 (jr S21 l0 33) 13 ∧ (vp_in (((9 : Int32) * l5) + l7) (jZ S21 (jr S21 l0 33)) ∧ (wX12_reach_59 X24 X37 l0 l3 l4 l5 l7 (jI S21 (jr S21 l0 33) (((9 : Int32) * l5) + l7).toNatClampNeg) l6 S21 Q))))))))))
set_option maxRecDepth 20000 in
theorem uX12_reach_37 {Q : Int32 → JS → Prop} {X24 : Nat → Int32 → Int32 → Int32 → JS → Prop} (d : Nat) (hd : 6 ≤ d) (hX24 : ∀ l0 l3 l4 l5 S, X24 l0 l3 l4 l5 S → jLf (jCall jmt jbud d) jbud (fun j => (jmt j).rk) none mX12_reach (jqI Q) (24, [some (.ref l0), none, none, some (.int l3), some (.int l4), some (.int l5), none, none], [], S, 0, 0)) {X37 : Nat → Int32 → Int32 → Int32 → Int32 → Int32 → JS → Prop} (hX37 : ∀ l0 l3 l4 l5 l6 l7 S, X37 l0 l3 l4 l5 l6 l7 S → jLf (jCall jmt jbud d) jbud (fun j => (jmt j).rk) none mX12_reach (jqI Q) (37, [some (.ref l0), none, none, some (.int l3), some (.int l4), some (.int l5), some (.int l6), some (.int l7)], [], S, 0, 0)) {l0 : Nat} {l3 : Int32} {l4 : Int32} {l5 : Int32} {l6 : Int32} {l7 : Int32} {S : JS} (h : bX12_reach_37 X24 X37 l0 l3 l4 l5 l6 l7 S Q) : jLf (jCall jmt jbud d) jbud (fun j => (jmt j).rk) none mX12_reach (jqI Q) (37, [some (.ref l0), none, none, some (.int l3), some (.int l4), some (.int l5), some (.int l6), some (.int l7)], [], S, 0, 0) := by
  have hc := jCall_mono jmt jbud d
  unfold bX12_reach_37 at h
  refine jLf.bk hc 2 [] [some (.ref l0), none, none, some (.int l3), some (.int l4), some (.int l5), some (.int l6), some (.int l7)] [.ref l0, .int l7] S rfl rfl rfl trivial ?_
  obtain ⟨g19, h⟩ := h
  refine jLf.inv hc _ rfl (gs := [jA S l0 12, (([.int l7] : List Value).map fun v => v.category).sum ≤ 8, 0 ≤ 0, 0 ≤ 0]) (k := 154) (args := [.ref l0]) (r := [.int l7]) (a := 0) (b := 0) rfl ⟨g19, Nat.le_of_ble_eq_true rfl, Nat.zero_le _, Nat.zero_le _⟩ (vX12_rocks d (by omega) h) ?_
  rintro v S17 ⟨r18, rfl, h⟩
  show jLf (jCall jmt jbud d) jbud (fun j => (jmt j).rk) none mX12_reach (jqI Q) (40, [some (.ref l0), none, none, some (.int l3), some (.int l4), some (.int l5), some (.int l6), some (.int l7)], [.int r18, .int l7], S17, 0, 0)
  refine jLf.two hc _ rfl (gs := []) (p1 := r18 ≤ l7) (p2 := ¬ (r18 ≤ l7)) (c1 := (63, [some (.ref l0), none, none, some (.int l3), some (.int l4), some (.int l5), some (.int l6), some (.int l7)], [], S17, 0, 0)) (c2 := (41, [some (.ref l0), none, none, some (.int l3), some (.int l4), some (.int l5), some (.int l6), some (.int l7)], [], S17, 0, 0)) rfl trivial (fun hz => ?_) (fun hz => ?_)
  · have h := h.1 hz
    refine jLf.sub [some (.ref l0), none, none, some (.int l3), none, some (.int l5), some (.int l6), none] (jle_same (jle_same (jle_same (jle_same (jle_none (jle_same (jle_same (jle_none (jle_nil _))))))))) ?_
    exact tX12_reach_63 d hd hX24 h
  · have h := h.2 hz
    refine jLf.bk hc 2 [] [some (.ref l0), none, none, some (.int l3), some (.int l4), some (.int l5), some (.int l6), some (.int l7)] [.int 59, .int l5] S17 rfl rfl rfl trivial ?_
    refine jLf.two hc _ rfl (gs := []) (p1 := 59 ≤ l5) (p2 := ¬ (59 ≤ l5)) (c1 := (63, [some (.ref l0), none, none, some (.int l3), some (.int l4), some (.int l5), some (.int l6), some (.int l7)], [], S17, 0, 0)) (c2 := (44, [some (.ref l0), none, none, some (.int l3), some (.int l4), some (.int l5), some (.int l6), some (.int l7)], [], S17, 0, 0)) rfl trivial (fun hz => ?_) (fun hz => ?_)
    · have h := h.1 hz
      refine jLf.sub [some (.ref l0), none, none, some (.int l3), none, some (.int l5), some (.int l6), none] (jle_same (jle_same (jle_same (jle_same (jle_none (jle_same (jle_same (jle_none (jle_nil _))))))))) ?_
      exact tX12_reach_63 d hd hX24 h
    · have h := h.2 hz
      refine jLf.bk hc 3 [] [some (.ref l0), none, none, some (.int l3), some (.int l4), some (.int l5), some (.int l6), some (.int l7)] [.int l7, .int l4, .int l6] S17 rfl rfl rfl trivial ?_
      refine jLf.inv hc _ rfl (gs := [2 ≤ ([.int l7, .int l4, .int l6] : List Value).length, (([.int l6] : List Value).map fun v => v.category).sum ≤ 8, 0 ≤ 0, 0 ≤ 0]) (k := 149) (args := [.int l4, .int l7]) (r := [.int l6]) (a := 0) (b := 0) rfl ⟨Nat.le_of_ble_eq_true rfl, Nat.le_of_ble_eq_true rfl, Nat.zero_le _, Nat.zero_le _⟩ (vX12_is d (by omega) h) ?_
      rintro v S21 ⟨r22, rfl, h⟩
      show jLf (jCall jmt jbud d) jbud (fun j => (jmt j).rk) none mX12_reach (jqI Q) (48, [some (.ref l0), none, none, some (.int l3), some (.int l4), some (.int l5), some (.int l6), some (.int l7)], [.int r22, .int l6], S21, 0, 0)
      refine jLf.two hc _ rfl (gs := []) (p1 := r22 = 0) (p2 := ¬ (r22 = 0)) (c1 := (58, [some (.ref l0), none, none, some (.int l3), some (.int l4), some (.int l5), some (.int l6), some (.int l7)], [.int l6], S21, 0, 0)) (c2 := (49, [some (.ref l0), none, none, some (.int l3), some (.int l4), some (.int l5), some (.int l6), some (.int l7)], [.int l6], S21, 0, 0)) rfl trivial (fun hz => ?_) (fun hz => ?_)
      · have h := h.1 hz
        refine jLf.bk hc 1 [] [some (.ref l0), none, none, some (.int l3), some (.int l4), some (.int l5), some (.int l6), some (.int l7)] [.int 0, .int l6] S21 rfl rfl rfl trivial ?_
        refine jLf.sub [some (.ref l0), none, none, some (.int l3), some (.int l4), some (.int l5), none, some (.int l7)] (jle_same (jle_same (jle_same (jle_same (jle_same (jle_same (jle_none (jle_same (jle_nil _))))))))) ?_
        exact tX12_reach_59 d hd hX24 hX37 h
      · have h := h.2 hz
        obtain ⟨g25, g26, g27, g28, h⟩ := h
        refine jLf.bk hc 8 [jA S21 l0 12, ¬ jR S21 l0 33 = none, jA S21 (jr S21 l0 33) 13, vp_in (((9 : Int32) * l5) + l7) (jZ S21 (jr S21 l0 33))] [some (.ref l0), none, none, some (.int l3), some (.int l4), some (.int l5), some (.int l6), some (.int l7)] [.int (jI S21 (jr S21 l0 33) (((9 : Int32) * l5) + l7).toNatClampNeg), .int l6] S21 rfl rfl rfl ⟨g25, g26, g27, g28⟩ ?_
        refine jLf.one hc _ rfl (gs := []) (c := (59, [some (.ref l0), none, none, some (.int l3), some (.int l4), some (.int l5), some (.int l6), some (.int l7)], [.int (jI S21 (jr S21 l0 33) (((9 : Int32) * l5) + l7).toNatClampNeg), .int l6], S21, 0, 0)) rfl trivial ?_
        refine jLf.sub [some (.ref l0), none, none, some (.int l3), some (.int l4), some (.int l5), none, some (.int l7)] (jle_same (jle_same (jle_same (jle_same (jle_same (jle_same (jle_none (jle_same (jle_nil _))))))))) ?_
        exact tX12_reach_59 d hd hX24 hX37 h
def wX12_reach_37  (X24 : Nat → Int32 → Int32 → Int32 → JS → Prop) (l0 : Nat) (l3 : Int32) (l4 : Int32) (l5 : Int32) (l6 : Int32) (l7 : Int32) (S : JS) (Q : Int32 → JS → Prop) : Prop :=
  jLoop (fun (X37 : Nat × Int32 × Int32 × Int32 × Int32 × Int32 × JS → Prop) q => bX12_reach_37 X24 (fun l0 l3 l4 l5 l6 l7 S => X37 (l0, l3, l4, l5, l6, l7, S)) q.1 q.2.1 q.2.2.1 q.2.2.2.1 q.2.2.2.2.1 q.2.2.2.2.2.1 q.2.2.2.2.2.2 Q) (l0, l3, l4, l5, l6, l7, S)
set_option maxRecDepth 20000 in
theorem tX12_reach_37 {Q : Int32 → JS → Prop} {X24 : Nat → Int32 → Int32 → Int32 → JS → Prop} (d : Nat) (hd : 6 ≤ d) (hX24 : ∀ l0 l3 l4 l5 S, X24 l0 l3 l4 l5 S → jLf (jCall jmt jbud d) jbud (fun j => (jmt j).rk) none mX12_reach (jqI Q) (24, [some (.ref l0), none, none, some (.int l3), some (.int l4), some (.int l5), none, none], [], S, 0, 0)) {l0 : Nat} {l3 : Int32} {l4 : Int32} {l5 : Int32} {l6 : Int32} {l7 : Int32} {S : JS} (h : wX12_reach_37 X24 l0 l3 l4 l5 l6 l7 S Q) : jLf (jCall jmt jbud d) jbud (fun j => (jmt j).rk) none mX12_reach (jqI Q) (37, [some (.ref l0), none, none, some (.int l3), some (.int l4), some (.int l5), some (.int l6), some (.int l7)], [], S, 0, 0) := by
  have := h (fun q : Nat × Int32 × Int32 × Int32 × Int32 × Int32 × JS => jLf (jCall jmt jbud d) jbud (fun j => (jmt j).rk) none mX12_reach (jqI Q) (37, [some (.ref (q.1)), none, none, some (.int (q.2.1)), some (.int (q.2.2.1)), some (.int (q.2.2.2.1)), some (.int (q.2.2.2.2.1)), some (.int (q.2.2.2.2.2.1))], [], q.2.2.2.2.2.2, 0, 0)) (fun q R hb hR => uX12_reach_37 d hd hX24 (fun _ _ _ _ _ _ _ => hR _) hb)
  exact this
def bX12_reach_24   (X24 : Nat → Int32 → Int32 → Int32 → JS → Prop) (l0 : Nat) (l3 : Int32) (l4 : Int32) (l5 : Int32) (S : JS) (Q : Int32 → JS → Prop) : Prop :=
  (59 < l5 → Q (-1) S) ∧ (¬ (59 < l5) → wX12_is l4 l3 S (fun r16 S15 => (r16 = 0 → wX12_reach_37 X24 l0 l3 l4 l5 0 0 S15 Q) ∧ (¬ r16 = 0 → Q l5 S15)))
set_option maxRecDepth 20000 in
theorem uX12_reach_24 {Q : Int32 → JS → Prop}  (d : Nat) (hd : 6 ≤ d) {X24 : Nat → Int32 → Int32 → Int32 → JS → Prop} (hX24 : ∀ l0 l3 l4 l5 S, X24 l0 l3 l4 l5 S → jLf (jCall jmt jbud d) jbud (fun j => (jmt j).rk) none mX12_reach (jqI Q) (24, [some (.ref l0), none, none, some (.int l3), some (.int l4), some (.int l5), none, none], [], S, 0, 0)) {l0 : Nat} {l3 : Int32} {l4 : Int32} {l5 : Int32} {S : JS} (h : bX12_reach_24 X24 l0 l3 l4 l5 S Q) : jLf (jCall jmt jbud d) jbud (fun j => (jmt j).rk) none mX12_reach (jqI Q) (24, [some (.ref l0), none, none, some (.int l3), some (.int l4), some (.int l5), none, none], [], S, 0, 0) := by
  have hc := jCall_mono jmt jbud d
  unfold bX12_reach_24 at h
  refine jLf.bk hc 2 [] [some (.ref l0), none, none, some (.int l3), some (.int l4), some (.int l5), none, none] [.int 59, .int l5] S rfl rfl rfl trivial ?_
  refine jLf.two hc _ rfl (gs := []) (p1 := 59 < l5) (p2 := ¬ (59 < l5)) (c1 := (67, [some (.ref l0), none, none, some (.int l3), some (.int l4), some (.int l5), none, none], [], S, 0, 0)) (c2 := (27, [some (.ref l0), none, none, some (.int l3), some (.int l4), some (.int l5), none, none], [], S, 0, 0)) rfl trivial (fun hz => ?_) (fun hz => ?_)
  · have h := h.1 hz
    refine jLf.bk hc 1 [] [some (.ref l0), none, none, some (.int l3), some (.int l4), some (.int l5), none, none] [.int (-1)] S rfl rfl rfl trivial ?_
    exact jLf.ret hc _ rfl (gs := [True]) (v := some (.int (-1))) rfl trivial ⟨(-1), rfl, h⟩
  · have h := h.2 hz
    refine jLf.bk hc 2 [] [some (.ref l0), none, none, some (.int l3), some (.int l4), some (.int l5), none, none] [.int l3, .int l4] S rfl rfl rfl trivial ?_
    refine jLf.inv hc _ rfl (gs := [2 ≤ ([.int l3, .int l4] : List Value).length, (([] : List Value).map fun v => v.category).sum ≤ 8, 0 ≤ 0, 0 ≤ 0]) (k := 149) (args := [.int l4, .int l3]) (r := []) (a := 0) (b := 0) rfl ⟨Nat.le_of_ble_eq_true rfl, Nat.le_of_ble_eq_true rfl, Nat.zero_le _, Nat.zero_le _⟩ (vX12_is d (by omega) h) ?_
    rintro v S15 ⟨r16, rfl, h⟩
    show jLf (jCall jmt jbud d) jbud (fun j => (jmt j).rk) none mX12_reach (jqI Q) (30, [some (.ref l0), none, none, some (.int l3), some (.int l4), some (.int l5), none, none], [.int r16], S15, 0, 0)
    refine jLf.two hc _ rfl (gs := []) (p1 := r16 = 0) (p2 := ¬ (r16 = 0)) (c1 := (33, [some (.ref l0), none, none, some (.int l3), some (.int l4), some (.int l5), none, none], [], S15, 0, 0)) (c2 := (31, [some (.ref l0), none, none, some (.int l3), some (.int l4), some (.int l5), none, none], [], S15, 0, 0)) rfl trivial (fun hz => ?_) (fun hz => ?_)
    · have h := h.1 hz
      refine jLf.bk hc 4 [] [some (.ref l0), none, none, some (.int l3), some (.int l4), some (.int l5), some (.int 0), some (.int 0)] [] S15 rfl rfl rfl trivial ?_
      exact tX12_reach_37 d hd hX24 h
    · have h := h.2 hz
      refine jLf.bk hc 1 [] [some (.ref l0), none, none, some (.int l3), some (.int l4), some (.int l5), none, none] [.int l5] S15 rfl rfl rfl trivial ?_
      exact jLf.ret hc _ rfl (gs := [True]) (v := some (.int l5)) rfl trivial ⟨l5, rfl, h⟩
def wX12_reach_24   (l0 : Nat) (l3 : Int32) (l4 : Int32) (l5 : Int32) (S : JS) (Q : Int32 → JS → Prop) : Prop :=
  jLoop (fun (X24 : Nat × Int32 × Int32 × Int32 × JS → Prop) q => bX12_reach_24 (fun l0 l3 l4 l5 S => X24 (l0, l3, l4, l5, S)) q.1 q.2.1 q.2.2.1 q.2.2.2.1 q.2.2.2.2 Q) (l0, l3, l4, l5, S)
set_option maxRecDepth 20000 in
theorem tX12_reach_24 {Q : Int32 → JS → Prop}  (d : Nat) (hd : 6 ≤ d) {l0 : Nat} {l3 : Int32} {l4 : Int32} {l5 : Int32} {S : JS} (h : wX12_reach_24 l0 l3 l4 l5 S Q) : jLf (jCall jmt jbud d) jbud (fun j => (jmt j).rk) none mX12_reach (jqI Q) (24, [some (.ref l0), none, none, some (.int l3), some (.int l4), some (.int l5), none, none], [], S, 0, 0) := by
  have := h (fun q : Nat × Int32 × Int32 × Int32 × JS => jLf (jCall jmt jbud d) jbud (fun j => (jmt j).rk) none mX12_reach (jqI Q) (24, [some (.ref (q.1)), none, none, some (.int (q.2.1)), some (.int (q.2.2.1)), some (.int (q.2.2.2.1)), none, none], [], q.2.2.2.2, 0, 0)) (fun q R hb hR => uX12_reach_24 d hd  (fun _ _ _ _ _ => hR _) hb)
  exact this
def wX12_reach  (this : Nat) (p1 : Int32) (p2 : Int32) (p3 : Int32) (S : JS) (Q : Int32 → JS → Prop) : Prop :=
  jA S this 12 ∧ (∀ S2 : JS, S2 = uI S this 0 0 → (jA S2 this 12 ∧ (wX12_isRock this p1 S2 (fun r4 S3 => (r4 = 0 → Q (-1) S3) ∧ (¬ r4 = 0 → jA S3 this 12 ∧ (wX12_isRock this p3 S3 (fun r7 S6 => (r7 = 0 → Q (-1) S6) ∧ (¬ r7 = 0 → wX12_isNight p2 S6 (fun r10 S9 => (¬ r10 = 0 → jA S9 this 12 ∧ (wX12_layOut this S9 (fun S11 => ∀ x14 : Int32, x14 = ((1 : Int32) <<< (p1 &&& 31)) → (wX12_reach_24 this p3 x14 p2 S11 Q)))) ∧ (r10 = 0 → Q (-1) S9))))))))))
set_option maxRecDepth 20000 in
theorem vX12_reach {Q : Int32 → JS → Prop} (d : Nat) (hd : 7 ≤ d) {this : Nat} {p1 : Int32} {p2 : Int32} {p3 : Int32} {S : JS} (h : wX12_reach this p1 p2 p3 S Q) : jCall jmt jbud d 223 [.ref this, .int p1, .int p2, .int p3] S (jqI Q) := by
  obtain ⟨d, rfl⟩ : ∃ d2, d = d2 + 1 := ⟨d - 1, by omega⟩
  have hd : 6 ≤ d := by omega
  have hc := jCall_mono jmt jbud d
  unfold wX12_reach at h
  refine ⟨Nat.le_of_ble_eq_true rfl, ?_⟩
  show jLf (jCall jmt jbud d) jbud (fun j => (jmt j).rk) none mX12_reach (jqI Q) (0, [some (.ref this), some (.int p1), some (.int p2), some (.int p3), none, none, none, none], [], S, 0, 0)
  obtain ⟨g1, h⟩ := h
  refine jLf.bk hc 3 [jA S this 12] [some (.ref this), some (.int p1), some (.int p2), some (.int p3), none, none, none, none] [] (uI S this 0 0) rfl rfl rfl g1 ?_
  generalize eS2 : uI S this 0 0 = S2
  have h := h S2 eS2.symm
  refine jLf.bk hc 2 [] [some (.ref this), some (.int p1), some (.int p2), some (.int p3), none, none, none, none] [.int p1, .ref this] S2 rfl rfl rfl trivial ?_
  obtain ⟨g5, h⟩ := h
  refine jLf.inv hc _ rfl (gs := [jA S2 this 12, (([] : List Value).map fun v => v.category).sum ≤ 8, 0 ≤ 0, 0 ≤ 0]) (k := 155) (args := [.ref this, .int p1]) (r := []) (a := 0) (b := 0) rfl ⟨g5, Nat.le_of_ble_eq_true rfl, Nat.zero_le _, Nat.zero_le _⟩ (vX12_isRock d (by omega) h) ?_
  rintro v S3 ⟨r4, rfl, h⟩
  show jLf (jCall jmt jbud d) jbud (fun j => (jmt j).rk) none mX12_reach (jqI Q) (6, [some (.ref this), some (.int p1), some (.int p2), some (.int p3), none, none, none, none], [.int r4], S3, 0, 0)
  refine jLf.two hc _ rfl (gs := []) (p1 := r4 = 0) (p2 := ¬ (r4 = 0)) (c1 := (14, [some (.ref this), some (.int p1), some (.int p2), some (.int p3), none, none, none, none], [], S3, 0, 0)) (c2 := (7, [some (.ref this), some (.int p1), some (.int p2), some (.int p3), none, none, none, none], [], S3, 0, 0)) rfl trivial (fun hz => ?_) (fun hz => ?_)
  · have h := h.1 hz
    refine jLf.bk hc 1 [] [some (.ref this), some (.int p1), some (.int p2), some (.int p3), none, none, none, none] [.int (-1)] S3 rfl rfl rfl trivial ?_
    exact jLf.ret hc _ rfl (gs := [True]) (v := some (.int (-1))) rfl trivial ⟨(-1), rfl, h⟩
  · have h := h.2 hz
    refine jLf.bk hc 2 [] [some (.ref this), some (.int p1), some (.int p2), some (.int p3), none, none, none, none] [.int p3, .ref this] S3 rfl rfl rfl trivial ?_
    obtain ⟨g8, h⟩ := h
    refine jLf.inv hc _ rfl (gs := [jA S3 this 12, (([] : List Value).map fun v => v.category).sum ≤ 8, 0 ≤ 0, 0 ≤ 0]) (k := 155) (args := [.ref this, .int p3]) (r := []) (a := 0) (b := 0) rfl ⟨g8, Nat.le_of_ble_eq_true rfl, Nat.zero_le _, Nat.zero_le _⟩ (vX12_isRock d (by omega) h) ?_
    rintro v S6 ⟨r7, rfl, h⟩
    show jLf (jCall jmt jbud d) jbud (fun j => (jmt j).rk) none mX12_reach (jqI Q) (10, [some (.ref this), some (.int p1), some (.int p2), some (.int p3), none, none, none, none], [.int r7], S6, 0, 0)
    refine jLf.two hc _ rfl (gs := []) (p1 := r7 = 0) (p2 := ¬ (r7 = 0)) (c1 := (14, [some (.ref this), some (.int p1), some (.int p2), some (.int p3), none, none, none, none], [], S6, 0, 0)) (c2 := (11, [some (.ref this), some (.int p1), some (.int p2), some (.int p3), none, none, none, none], [], S6, 0, 0)) rfl trivial (fun hz => ?_) (fun hz => ?_)
    · have h := h.1 hz
      refine jLf.bk hc 1 [] [some (.ref this), some (.int p1), some (.int p2), some (.int p3), none, none, none, none] [.int (-1)] S6 rfl rfl rfl trivial ?_
      exact jLf.ret hc _ rfl (gs := [True]) (v := some (.int (-1))) rfl trivial ⟨(-1), rfl, h⟩
    · have h := h.2 hz
      refine jLf.bk hc 1 [] [some (.ref this), some (.int p1), some (.int p2), some (.int p3), none, none, none, none] [.int p2] S6 rfl rfl rfl trivial ?_
      refine jLf.inv hc _ rfl (gs := [1 ≤ ([.int p2] : List Value).length, (([] : List Value).map fun v => v.category).sum ≤ 8, 0 ≤ 0, 0 ≤ 0]) (k := 156) (args := [.int p2]) (r := []) (a := 0) (b := 0) rfl ⟨Nat.le_of_ble_eq_true rfl, Nat.le_of_ble_eq_true rfl, Nat.zero_le _, Nat.zero_le _⟩ (vX12_isNight d (by omega) h) ?_
      rintro v S9 ⟨r10, rfl, h⟩
      show jLf (jCall jmt jbud d) jbud (fun j => (jmt j).rk) none mX12_reach (jqI Q) (13, [some (.ref this), some (.int p1), some (.int p2), some (.int p3), none, none, none, none], [.int r10], S9, 0, 0)
      refine jLf.two hc _ rfl (gs := []) (p1 := ¬ r10 = 0) (p2 := ¬ (¬ r10 = 0)) (c1 := (16, [some (.ref this), some (.int p1), some (.int p2), some (.int p3), none, none, none, none], [], S9, 0, 0)) (c2 := (14, [some (.ref this), some (.int p1), some (.int p2), some (.int p3), none, none, none, none], [], S9, 0, 0)) rfl trivial (fun hz => ?_) (fun hz => ?_)
      · have h := h.1 hz
        refine jLf.bk hc 1 [] [some (.ref this), some (.int p1), some (.int p2), some (.int p3), none, none, none, none] [.ref this] S9 rfl rfl rfl trivial ?_
        obtain ⟨g13, h⟩ := h
        refine jLf.inv hc _ rfl (gs := [jA S9 this 12, (([] : List Value).map fun v => v.category).sum ≤ 8, 0 ≤ 0, 0 ≤ 0]) (k := 210) (args := [.ref this]) (r := []) (a := 0) (b := 0) rfl ⟨g13, Nat.le_of_ble_eq_true rfl, Nat.zero_le _, Nat.zero_le _⟩ (vX12_layOut d (by omega) h) ?_
        rintro v S11 ⟨rfl, h⟩
        show jLf (jCall jmt jbud d) jbud (fun j => (jmt j).rk) none mX12_reach (jqI Q) (18, [some (.ref this), some (.int p1), some (.int p2), some (.int p3), none, none, none, none], [], S11, 0, 0)
        refine jLf.bk hc 4 [] [some (.ref this), some (.int p1), some (.int p2), some (.int p3), some (.int ((1 : Int32) <<< (p1 &&& 31))), none, none, none] [] S11 rfl rfl rfl trivial ?_
        generalize ex14 : ((1 : Int32) <<< (p1 &&& 31) : Int32) = x14
        have h := h x14 ex14.symm
        refine jLf.bk hc 2 [] [some (.ref this), some (.int p1), some (.int p2), some (.int p3), some (.int x14), some (.int p2), none, none] [] S11 rfl rfl rfl trivial ?_
        refine jLf.sub [some (.ref this), none, none, some (.int p3), some (.int x14), some (.int p2), none, none] (jle_same (jle_none (jle_none (jle_same (jle_same (jle_same (jle_same (jle_same (jle_nil _))))))))) ?_
        exact tX12_reach_24 d hd  h
      · have h := h.2 (Classical.not_not.mp hz)
        refine jLf.bk hc 1 [] [some (.ref this), some (.int p1), some (.int p2), some (.int p3), none, none, none, none] [.int (-1)] S9 rfl rfl rfl trivial ?_
        exact jLf.ret hc _ rfl (gs := [True]) (v := some (.int (-1))) rfl trivial ⟨(-1), rfl, h⟩
def wX12_guard_167  (X123 : Nat → Int32 → Int32 → Int32 → Int32 → JS → Prop) (X144 : Nat → Int32 → Int32 → Int32 → Int32 → Int32 → Int32 → JS → Prop) (l0 : Nat) (l2 : Int32) (l4 : Int32) (l5 : Int32) (l6 : Int32) (l7 : Int32) (l8 : Int32) (S : JS) (Q : Int32 → JS → Prop) : Prop :=
  ∀ x28 : Int32, x28 = (l8 + 1) → (X144 l0 l2 l4 l5 l6 l7 x28 S)
set_option maxRecDepth 20000 in
theorem tX12_guard_167 {Q : Int32 → JS → Prop} {X123 : Nat → Int32 → Int32 → Int32 → Int32 → JS → Prop} {X144 : Nat → Int32 → Int32 → Int32 → Int32 → Int32 → Int32 → JS → Prop} (d : Nat) (hd : 6 ≤ d) (hX123 : ∀ l0 l2 l4 l5 l6 S, X123 l0 l2 l4 l5 l6 S → jLf (jCall jmt jbud d) jbud (fun j => (jmt j).rk) none mX12_guard (jqI Q) (123, [some (.ref l0), none, some (.int l2), none, some (.int l4), some (.int l5), some (.int l6), none, none, none], [], S, 0, 0)) (hX144 : ∀ l0 l2 l4 l5 l6 l7 l8 S, X144 l0 l2 l4 l5 l6 l7 l8 S → jLf (jCall jmt jbud d) jbud (fun j => (jmt j).rk) none mX12_guard (jqI Q) (144, [some (.ref l0), none, some (.int l2), none, some (.int l4), some (.int l5), some (.int l6), some (.int l7), some (.int l8), none], [], S, 0, 0)) {l0 : Nat} {l2 : Int32} {l4 : Int32} {l5 : Int32} {l6 : Int32} {l7 : Int32} {l8 : Int32} {S : JS} (h : wX12_guard_167 X123 X144 l0 l2 l4 l5 l6 l7 l8 S Q) : jLf (jCall jmt jbud d) jbud (fun j => (jmt j).rk) none mX12_guard (jqI Q) (167, [some (.ref l0), none, some (.int l2), none, some (.int l4), some (.int l5), some (.int l6), some (.int l7), some (.int l8), none], [], S, 0, 0) := by
  have hc := jCall_mono jmt jbud d
  unfold wX12_guard_167 at h
  refine jLf.bk hc 1 [] [some (.ref l0), none, some (.int l2), none, some (.int l4), some (.int l5), some (.int l6), some (.int l7), some (.int (l8 + 1)), none] [] S rfl rfl rfl trivial ?_
  generalize ex28 : (l8 + 1 : Int32) = x28
  have h := h x28 ex28.symm
  refine jLf.one hc _ rfl (gs := []) (c := (144, [some (.ref l0), none, some (.int l2), none, some (.int l4), some (.int l5), some (.int l6), some (.int l7), some (.int x28), none], [], S, 0, 0)) rfl trivial ?_
  exact hX144 _ _ _ _ _ _ _ _ h
def bX12_guard_144  (X123 : Nat → Int32 → Int32 → Int32 → Int32 → JS → Prop) (X144 : Nat → Int32 → Int32 → Int32 → Int32 → Int32 → Int32 → JS → Prop) (l0 : Nat) (l2 : Int32) (l4 : Int32) (l5 : Int32) (l6 : Int32) (l7 : Int32) (l8 : Int32) (S : JS) (Q : Int32 → JS → Prop) : Prop :=
  jA S l0 12 ∧ (¬ jR S l0 33 = none ∧ (jA S (jr S l0 33) 13 ∧ (vp_in (((9 : Int32) * l6) + l5) (jZ S (jr S l0 33)) ∧ (wX12_is (jI S (jr S l0 33) (((9 : Int32) * l6) + l5).toNatClampNeg) l8 S (fun r27 S26 => (r27 = 0 → wX12_guard_167 X123 X144 l0 l2 l4 l5 l6 l7 l8 S26 Q) ∧ (¬ r27 = 0 → jA S26 l0 12 ∧ (¬ jR S26 l0 35 = none ∧ (jA S26 (jr S26 l0 35) 13 ∧ (vp_in ((((9 : Int32) * l6) + (9 : Int32)) + l8) (jZ S26 (jr S26 l0 35)) ∧ (((jI S26 (jr S26 l0 35) ((((9 : Int32) * l6) + (9 : Int32)) + l8).toNatClampNeg) = l7 → ∀ x33 : Int32, x33 = (l6 + 1) → (X123 l0 l2 l4 l8 x33 S26)) ∧ (¬ (jI S26 (jr S26 l0 35) ((((9 : Int32) * l6) + (9 : Int32)) + l8).toNatClampNeg) = l7 → wX12_guard_167 X123 X144 l0 l2 l4 l5 l6 l7 l8 S26 Q)))))))))))
set_option maxRecDepth 20000 in
theorem uX12_guard_144 {Q : Int32 → JS → Prop} {X123 : Nat → Int32 → Int32 → Int32 → Int32 → JS → Prop} (d : Nat) (hd : 6 ≤ d) (hX123 : ∀ l0 l2 l4 l5 l6 S, X123 l0 l2 l4 l5 l6 S → jLf (jCall jmt jbud d) jbud (fun j => (jmt j).rk) none mX12_guard (jqI Q) (123, [some (.ref l0), none, some (.int l2), none, some (.int l4), some (.int l5), some (.int l6), none, none, none], [], S, 0, 0)) {X144 : Nat → Int32 → Int32 → Int32 → Int32 → Int32 → Int32 → JS → Prop} (hX144 : ∀ l0 l2 l4 l5 l6 l7 l8 S, X144 l0 l2 l4 l5 l6 l7 l8 S → jLf (jCall jmt jbud d) jbud (fun j => (jmt j).rk) none mX12_guard (jqI Q) (144, [some (.ref l0), none, some (.int l2), none, some (.int l4), some (.int l5), some (.int l6), some (.int l7), some (.int l8), none], [], S, 0, 0)) {l0 : Nat} {l2 : Int32} {l4 : Int32} {l5 : Int32} {l6 : Int32} {l7 : Int32} {l8 : Int32} {S : JS} (h : bX12_guard_144 X123 X144 l0 l2 l4 l5 l6 l7 l8 S Q) : jLf (jCall jmt jbud d) jbud (fun j => (jmt j).rk) none mX12_guard (jqI Q) (144, [some (.ref l0), none, some (.int l2), none, some (.int l4), some (.int l5), some (.int l6), some (.int l7), some (.int l8), none], [], S, 0, 0) := by
  have hc := jCall_mono jmt jbud d
  unfold bX12_guard_144 at h
  obtain ⟨g22, g23, g24, g25, h⟩ := h
  refine jLf.bk hc 9 [jA S l0 12, ¬ jR S l0 33 = none, jA S (jr S l0 33) 13, vp_in (((9 : Int32) * l6) + l5) (jZ S (jr S l0 33))] [some (.ref l0), none, some (.int l2), none, some (.int l4), some (.int l5), some (.int l6), some (.int l7), some (.int l8), none] [.int l8, .int (jI S (jr S l0 33) (((9 : Int32) * l6) + l5).toNatClampNeg)] S rfl rfl rfl ⟨g22, g23, g24, g25⟩ ?_
  refine jLf.inv hc _ rfl (gs := [2 ≤ ([.int l8, .int (jI S (jr S l0 33) (((9 : Int32) * l6) + l5).toNatClampNeg)] : List Value).length, (([] : List Value).map fun v => v.category).sum ≤ 8, 0 ≤ 0, 0 ≤ 0]) (k := 149) (args := [.int (jI S (jr S l0 33) (((9 : Int32) * l6) + l5).toNatClampNeg), .int l8]) (r := []) (a := 0) (b := 0) rfl ⟨Nat.le_of_ble_eq_true rfl, Nat.le_of_ble_eq_true rfl, Nat.zero_le _, Nat.zero_le _⟩ (vX12_is d (by omega) h) ?_
  rintro v S26 ⟨r27, rfl, h⟩
  show jLf (jCall jmt jbud d) jbud (fun j => (jmt j).rk) none mX12_guard (jqI Q) (154, [some (.ref l0), none, some (.int l2), none, some (.int l4), some (.int l5), some (.int l6), some (.int l7), some (.int l8), none], [.int r27], S26, 0, 0)
  refine jLf.two hc _ rfl (gs := []) (p1 := r27 = 0) (p2 := ¬ (r27 = 0)) (c1 := (167, [some (.ref l0), none, some (.int l2), none, some (.int l4), some (.int l5), some (.int l6), some (.int l7), some (.int l8), none], [], S26, 0, 0)) (c2 := (155, [some (.ref l0), none, some (.int l2), none, some (.int l4), some (.int l5), some (.int l6), some (.int l7), some (.int l8), none], [], S26, 0, 0)) rfl trivial (fun hz => ?_) (fun hz => ?_)
  · have h := h.1 hz
    exact tX12_guard_167 d hd hX123 hX144 h
  · have h := h.2 hz
    obtain ⟨g29, g30, g31, g32, h⟩ := h
    refine jLf.bk hc 11 [jA S26 l0 12, ¬ jR S26 l0 35 = none, jA S26 (jr S26 l0 35) 13, vp_in ((((9 : Int32) * l6) + (9 : Int32)) + l8) (jZ S26 (jr S26 l0 35))] [some (.ref l0), none, some (.int l2), none, some (.int l4), some (.int l5), some (.int l6), some (.int l7), some (.int l8), none] [.int l7, .int (jI S26 (jr S26 l0 35) ((((9 : Int32) * l6) + (9 : Int32)) + l8).toNatClampNeg)] S26 rfl rfl rfl ⟨g29, g30, g31, g32⟩ ?_
    refine jLf.two hc _ rfl (gs := []) (p1 := (jI S26 (jr S26 l0 35) ((((9 : Int32) * l6) + (9 : Int32)) + l8).toNatClampNeg) = l7) (p2 := ¬ ((jI S26 (jr S26 l0 35) ((((9 : Int32) * l6) + (9 : Int32)) + l8).toNatClampNeg) = l7)) (c1 := (169, [some (.ref l0), none, some (.int l2), none, some (.int l4), some (.int l5), some (.int l6), some (.int l7), some (.int l8), none], [], S26, 0, 0)) (c2 := (167, [some (.ref l0), none, some (.int l2), none, some (.int l4), some (.int l5), some (.int l6), some (.int l7), some (.int l8), none], [], S26, 0, 0)) rfl trivial (fun hz => ?_) (fun hz => ?_)
    · have h := h.1 hz
      refine jLf.bk hc 3 [] [some (.ref l0), none, some (.int l2), none, some (.int l4), some (.int l8), some (.int (l6 + 1)), some (.int l7), some (.int l8), none] [] S26 rfl rfl rfl trivial ?_
      generalize ex33 : (l6 + 1 : Int32) = x33
      have h := h x33 ex33.symm
      refine jLf.one hc _ rfl (gs := []) (c := (123, [some (.ref l0), none, some (.int l2), none, some (.int l4), some (.int l8), some (.int x33), some (.int l7), some (.int l8), none], [], S26, 0, 0)) rfl trivial ?_
      refine jLf.sub [some (.ref l0), none, some (.int l2), none, some (.int l4), some (.int l8), some (.int x33), none, none, none] (jle_same (jle_same (jle_same (jle_same (jle_same (jle_same (jle_same (jle_none (jle_none (jle_same (jle_nil _))))))))))) ?_
      exact hX123 _ _ _ _ _ _ h
    · have h := h.2 hz
      exact tX12_guard_167 d hd hX123 hX144 h
def wX12_guard_144  (X123 : Nat → Int32 → Int32 → Int32 → Int32 → JS → Prop) (l0 : Nat) (l2 : Int32) (l4 : Int32) (l5 : Int32) (l6 : Int32) (l7 : Int32) (l8 : Int32) (S : JS) (Q : Int32 → JS → Prop) : Prop :=
  jLoop (fun (X144 : Nat × Int32 × Int32 × Int32 × Int32 × Int32 × Int32 × JS → Prop) q => bX12_guard_144 X123 (fun l0 l2 l4 l5 l6 l7 l8 S => X144 (l0, l2, l4, l5, l6, l7, l8, S)) q.1 q.2.1 q.2.2.1 q.2.2.2.1 q.2.2.2.2.1 q.2.2.2.2.2.1 q.2.2.2.2.2.2.1 q.2.2.2.2.2.2.2 Q) (l0, l2, l4, l5, l6, l7, l8, S)
set_option maxRecDepth 20000 in
theorem tX12_guard_144 {Q : Int32 → JS → Prop} {X123 : Nat → Int32 → Int32 → Int32 → Int32 → JS → Prop} (d : Nat) (hd : 6 ≤ d) (hX123 : ∀ l0 l2 l4 l5 l6 S, X123 l0 l2 l4 l5 l6 S → jLf (jCall jmt jbud d) jbud (fun j => (jmt j).rk) none mX12_guard (jqI Q) (123, [some (.ref l0), none, some (.int l2), none, some (.int l4), some (.int l5), some (.int l6), none, none, none], [], S, 0, 0)) {l0 : Nat} {l2 : Int32} {l4 : Int32} {l5 : Int32} {l6 : Int32} {l7 : Int32} {l8 : Int32} {S : JS} (h : wX12_guard_144 X123 l0 l2 l4 l5 l6 l7 l8 S Q) : jLf (jCall jmt jbud d) jbud (fun j => (jmt j).rk) none mX12_guard (jqI Q) (144, [some (.ref l0), none, some (.int l2), none, some (.int l4), some (.int l5), some (.int l6), some (.int l7), some (.int l8), none], [], S, 0, 0) := by
  have := h (fun q : Nat × Int32 × Int32 × Int32 × Int32 × Int32 × Int32 × JS => jLf (jCall jmt jbud d) jbud (fun j => (jmt j).rk) none mX12_guard (jqI Q) (144, [some (.ref (q.1)), none, some (.int (q.2.1)), none, some (.int (q.2.2.1)), some (.int (q.2.2.2.1)), some (.int (q.2.2.2.2.1)), some (.int (q.2.2.2.2.2.1)), some (.int (q.2.2.2.2.2.2.1)), none], [], q.2.2.2.2.2.2.2, 0, 0)) (fun q R hb hR => uX12_guard_144 d hd hX123 (fun _ _ _ _ _ _ _ _ => hR _) hb)
  exact this
def bX12_guard_123   (X123 : Nat → Int32 → Int32 → Int32 → Int32 → JS → Prop) (l0 : Nat) (l2 : Int32) (l4 : Int32) (l5 : Int32) (l6 : Int32) (S : JS) (Q : Int32 → JS → Prop) : Prop :=
  ((l2 + l4) ≤ l6 → Q l5 S) ∧ (¬ ((l2 + l4) ≤ l6) → jA S l0 12 ∧ (¬ jR S l0 35 = none ∧ (jA S (jr S l0 35) 13 ∧ (vp_in (((9 : Int32) * l6) + l5) (jZ S (jr S l0 35)) ∧ (wX12_unwarnedIn l0 l6 l5 S (fun r20 S19 => ∀ x21 : Int32, x21 = ((jI S (jr S l0 35) (((9 : Int32) * l6) + l5).toNatClampNeg) - r20) → (wX12_guard_144 X123 l0 l2 l4 l5 l6 x21 0 S19 Q)))))))
set_option maxRecDepth 20000 in
theorem uX12_guard_123 {Q : Int32 → JS → Prop}  (d : Nat) (hd : 6 ≤ d) {X123 : Nat → Int32 → Int32 → Int32 → Int32 → JS → Prop} (hX123 : ∀ l0 l2 l4 l5 l6 S, X123 l0 l2 l4 l5 l6 S → jLf (jCall jmt jbud d) jbud (fun j => (jmt j).rk) none mX12_guard (jqI Q) (123, [some (.ref l0), none, some (.int l2), none, some (.int l4), some (.int l5), some (.int l6), none, none, none], [], S, 0, 0)) {l0 : Nat} {l2 : Int32} {l4 : Int32} {l5 : Int32} {l6 : Int32} {S : JS} (h : bX12_guard_123 X123 l0 l2 l4 l5 l6 S Q) : jLf (jCall jmt jbud d) jbud (fun j => (jmt j).rk) none mX12_guard (jqI Q) (123, [some (.ref l0), none, some (.int l2), none, some (.int l4), some (.int l5), some (.int l6), none, none, none], [], S, 0, 0) := by
  have hc := jCall_mono jmt jbud d
  unfold bX12_guard_123 at h
  refine jLf.bk hc 4 [] [some (.ref l0), none, some (.int l2), none, some (.int l4), some (.int l5), some (.int l6), none, none, none] [.int (l2 + l4), .int l6] S rfl rfl rfl trivial ?_
  refine jLf.two hc _ rfl (gs := []) (p1 := (l2 + l4) ≤ l6) (p2 := ¬ ((l2 + l4) ≤ l6)) (c1 := (173, [some (.ref l0), none, some (.int l2), none, some (.int l4), some (.int l5), some (.int l6), none, none, none], [], S, 0, 0)) (c2 := (128, [some (.ref l0), none, some (.int l2), none, some (.int l4), some (.int l5), some (.int l6), none, none, none], [], S, 0, 0)) rfl trivial (fun hz => ?_) (fun hz => ?_)
  · have h := h.1 hz
    refine jLf.bk hc 1 [] [some (.ref l0), none, some (.int l2), none, some (.int l4), some (.int l5), some (.int l6), none, none, none] [.int l5] S rfl rfl rfl trivial ?_
    exact jLf.ret hc _ rfl (gs := [True]) (v := some (.int l5)) rfl trivial ⟨l5, rfl, h⟩
  · have h := h.2 hz
    obtain ⟨g15, g16, g17, g18, h⟩ := h
    refine jLf.bk hc 11 [jA S l0 12, ¬ jR S l0 35 = none, jA S (jr S l0 35) 13, vp_in (((9 : Int32) * l6) + l5) (jZ S (jr S l0 35))] [some (.ref l0), none, some (.int l2), none, some (.int l4), some (.int l5), some (.int l6), none, none, none] [.int l5, .int l6, .ref l0, .int (jI S (jr S l0 35) (((9 : Int32) * l6) + l5).toNatClampNeg)] S rfl rfl rfl ⟨g15, g16, g17, g18⟩ ?_
    refine jLf.inv hc _ rfl (gs := [jA S l0 12, (([.int (jI S (jr S l0 35) (((9 : Int32) * l6) + l5).toNatClampNeg)] : List Value).map fun v => v.category).sum ≤ 8, 0 ≤ 0, 0 ≤ 0]) (k := 206) (args := [.ref l0, .int l6, .int l5]) (r := [.int (jI S (jr S l0 35) (((9 : Int32) * l6) + l5).toNatClampNeg)]) (a := 0) (b := 0) rfl ⟨g15, Nat.le_of_ble_eq_true rfl, Nat.zero_le _, Nat.zero_le _⟩ (vX12_unwarnedIn d (by omega) h) ?_
    rintro v S19 ⟨r20, rfl, h⟩
    show jLf (jCall jmt jbud d) jbud (fun j => (jmt j).rk) none mX12_guard (jqI Q) (140, [some (.ref l0), none, some (.int l2), none, some (.int l4), some (.int l5), some (.int l6), none, none, none], [.int r20, .int (jI S (jr S l0 35) (((9 : Int32) * l6) + l5).toNatClampNeg)], S19, 0, 0)
    refine jLf.bk hc 2 [] [some (.ref l0), none, some (.int l2), none, some (.int l4), some (.int l5), some (.int l6), some (.int ((jI S (jr S l0 35) (((9 : Int32) * l6) + l5).toNatClampNeg) - r20)), none, none] [] S19 rfl rfl rfl trivial ?_
    generalize ex21 : ((jI S (jr S l0 35) (((9 : Int32) * l6) + l5).toNatClampNeg) - r20 : Int32) = x21
    have h := h x21 ex21.symm
    refine jLf.bk hc 2 [] [some (.ref l0), none, some (.int l2), none, some (.int l4), some (.int l5), some (.int l6), some (.int x21), some (.int 0), none] [] S19 rfl rfl rfl trivial ?_
    exact tX12_guard_144 d hd hX123 h
def wX12_guard_123   (l0 : Nat) (l2 : Int32) (l4 : Int32) (l5 : Int32) (l6 : Int32) (S : JS) (Q : Int32 → JS → Prop) : Prop :=
  jLoop (fun (X123 : Nat × Int32 × Int32 × Int32 × Int32 × JS → Prop) q => bX12_guard_123 (fun l0 l2 l4 l5 l6 S => X123 (l0, l2, l4, l5, l6, S)) q.1 q.2.1 q.2.2.1 q.2.2.2.1 q.2.2.2.2.1 q.2.2.2.2.2 Q) (l0, l2, l4, l5, l6, S)
set_option maxRecDepth 20000 in
theorem tX12_guard_123 {Q : Int32 → JS → Prop}  (d : Nat) (hd : 6 ≤ d) {l0 : Nat} {l2 : Int32} {l4 : Int32} {l5 : Int32} {l6 : Int32} {S : JS} (h : wX12_guard_123 l0 l2 l4 l5 l6 S Q) : jLf (jCall jmt jbud d) jbud (fun j => (jmt j).rk) none mX12_guard (jqI Q) (123, [some (.ref l0), none, some (.int l2), none, some (.int l4), some (.int l5), some (.int l6), none, none, none], [], S, 0, 0) := by
  have := h (fun q : Nat × Int32 × Int32 × Int32 × Int32 × JS => jLf (jCall jmt jbud d) jbud (fun j => (jmt j).rk) none mX12_guard (jqI Q) (123, [some (.ref (q.1)), none, some (.int (q.2.1)), none, some (.int (q.2.2.1)), some (.int (q.2.2.2.1)), some (.int (q.2.2.2.2.1)), none, none, none], [], q.2.2.2.2.2, 0, 0)) (fun q R hb hR => uX12_guard_123 d hd  (fun _ _ _ _ _ _ => hR _) hb)
  exact this
def wX12_guard_89  (X31 : Nat → Int32 → Int32 → Int32 → Int32 → Int32 → JS → Prop) (X36 : Nat → Int32 → Int32 → Int32 → Int32 → Int32 → Int32 → JS → Prop) (l0 : Nat) (l1 : Int32) (l2 : Int32) (l3 : Int32) (l4 : Int32) (l5 : Int32) (l6 : Int32) (l7 : Int32) (S : JS) (Q : Int32 → JS → Prop) : Prop :=
  jA S l0 12 ∧ (¬ jR S l0 35 = none ∧ (wX12_unwarnedIn l0 l5 l6 S (fun r48 S47 => jA S47 (jr S l0 35) 13 ∧ (vp_in (((9 : Int32) * l5) + l6) (jZ S47 (jr S l0 35)) ∧ (∀ S51 : JS, S51 = uI S47 (jr S l0 35) (((9 : Int32) * l5) + l6).toNatClampNeg (l7 + r48) → (∀ x52 : Int32, x52 = (l6 + 1) → (X36 l0 l1 l2 l3 l4 l5 x52 S51)))))))
set_option maxRecDepth 20000 in
theorem tX12_guard_89 {Q : Int32 → JS → Prop} {X31 : Nat → Int32 → Int32 → Int32 → Int32 → Int32 → JS → Prop} {X36 : Nat → Int32 → Int32 → Int32 → Int32 → Int32 → Int32 → JS → Prop} (d : Nat) (hd : 6 ≤ d) (hX31 : ∀ l0 l1 l2 l3 l4 l5 S, X31 l0 l1 l2 l3 l4 l5 S → jLf (jCall jmt jbud d) jbud (fun j => (jmt j).rk) none mX12_guard (jqI Q) (31, [some (.ref l0), some (.int l1), some (.int l2), some (.int l3), some (.int l4), some (.int l5), none, none, none, none], [], S, 0, 0)) (hX36 : ∀ l0 l1 l2 l3 l4 l5 l6 S, X36 l0 l1 l2 l3 l4 l5 l6 S → jLf (jCall jmt jbud d) jbud (fun j => (jmt j).rk) none mX12_guard (jqI Q) (36, [some (.ref l0), some (.int l1), some (.int l2), some (.int l3), some (.int l4), some (.int l5), some (.int l6), none, none, none], [], S, 0, 0)) {l0 : Nat} {l1 : Int32} {l2 : Int32} {l3 : Int32} {l4 : Int32} {l5 : Int32} {l6 : Int32} {l7 : Int32} {S : JS} (h : wX12_guard_89 X31 X36 l0 l1 l2 l3 l4 l5 l6 l7 S Q) : jLf (jCall jmt jbud d) jbud (fun j => (jmt j).rk) none mX12_guard (jqI Q) (89, [some (.ref l0), some (.int l1), some (.int l2), some (.int l3), some (.int l4), some (.int l5), some (.int l6), some (.int l7), none, none], [], S, 0, 0) := by
  have hc := jCall_mono jmt jbud d
  unfold wX12_guard_89 at h
  obtain ⟨g45, g46, h⟩ := h
  refine jLf.bk hc 11 [jA S l0 12, ¬ jR S l0 35 = none] [some (.ref l0), some (.int l1), some (.int l2), some (.int l3), some (.int l4), some (.int l5), some (.int l6), some (.int l7), none, none] [.int l6, .int l5, .ref l0, .int l7, .int (((9 : Int32) * l5) + l6), .ref (jr S l0 35)] S rfl rfl rfl ⟨g45, g46⟩ ?_
  refine jLf.inv hc _ rfl (gs := [jA S l0 12, (([.int l7, .int (((9 : Int32) * l5) + l6), .ref (jr S l0 35)] : List Value).map fun v => v.category).sum ≤ 8, 0 ≤ 0, 0 ≤ 0]) (k := 206) (args := [.ref l0, .int l5, .int l6]) (r := [.int l7, .int (((9 : Int32) * l5) + l6), .ref (jr S l0 35)]) (a := 0) (b := 0) rfl ⟨g45, Nat.le_of_ble_eq_true rfl, Nat.zero_le _, Nat.zero_le _⟩ (vX12_unwarnedIn d (by omega) h) ?_
  rintro v S47 ⟨r48, rfl, h⟩
  show jLf (jCall jmt jbud d) jbud (fun j => (jmt j).rk) none mX12_guard (jqI Q) (101, [some (.ref l0), some (.int l1), some (.int l2), some (.int l3), some (.int l4), some (.int l5), some (.int l6), some (.int l7), none, none], [.int r48, .int l7, .int (((9 : Int32) * l5) + l6), .ref (jr S l0 35)], S47, 0, 0)
  obtain ⟨g49, g50, h⟩ := h
  refine jLf.bk hc 2 [jA S47 (jr S l0 35) 13, vp_in (((9 : Int32) * l5) + l6) (jZ S47 (jr S l0 35))] [some (.ref l0), some (.int l1), some (.int l2), some (.int l3), some (.int l4), some (.int l5), some (.int l6), some (.int l7), none, none] [] (uI S47 (jr S l0 35) (((9 : Int32) * l5) + l6).toNatClampNeg (l7 + r48)) rfl rfl rfl ⟨g49, g50⟩ ?_
  generalize eS51 : uI S47 (jr S l0 35) (((9 : Int32) * l5) + l6).toNatClampNeg (l7 + r48) = S51
  have h := h S51 eS51.symm
  refine jLf.bk hc 1 [] [some (.ref l0), some (.int l1), some (.int l2), some (.int l3), some (.int l4), some (.int l5), some (.int (l6 + 1)), some (.int l7), none, none] [] S51 rfl rfl rfl trivial ?_
  generalize ex52 : (l6 + 1 : Int32) = x52
  have h := h x52 ex52.symm
  refine jLf.one hc _ rfl (gs := []) (c := (36, [some (.ref l0), some (.int l1), some (.int l2), some (.int l3), some (.int l4), some (.int l5), some (.int x52), some (.int l7), none, none], [], S51, 0, 0)) rfl trivial ?_
  refine jLf.sub [some (.ref l0), some (.int l1), some (.int l2), some (.int l3), some (.int l4), some (.int l5), some (.int x52), none, none, none] (jle_same (jle_same (jle_same (jle_same (jle_same (jle_same (jle_same (jle_none (jle_same (jle_same (jle_nil _))))))))))) ?_
  exact hX36 _ _ _ _ _ _ _ _ h
def wX12_guard_86  (X31 : Nat → Int32 → Int32 → Int32 → Int32 → Int32 → JS → Prop) (X36 : Nat → Int32 → Int32 → Int32 → Int32 → Int32 → Int32 → JS → Prop) (X49 : Nat → Int32 → Int32 → Int32 → Int32 → Int32 → Int32 → Int32 → Int32 → JS → Prop) (l0 : Nat) (l1 : Int32) (l2 : Int32) (l3 : Int32) (l4 : Int32) (l5 : Int32) (l6 : Int32) (l8 : Int32) (s0 : Int32) (S : JS) (Q : Int32 → JS → Prop) : Prop :=
  ∀ x59 : Int32, x59 = (l8 + 1) → (X49 l0 l1 l2 l3 l4 l5 l6 s0 x59 S)
set_option maxRecDepth 20000 in
theorem tX12_guard_86 {Q : Int32 → JS → Prop} {X31 : Nat → Int32 → Int32 → Int32 → Int32 → Int32 → JS → Prop} {X36 : Nat → Int32 → Int32 → Int32 → Int32 → Int32 → Int32 → JS → Prop} {X49 : Nat → Int32 → Int32 → Int32 → Int32 → Int32 → Int32 → Int32 → Int32 → JS → Prop} (d : Nat) (hd : 6 ≤ d) (hX31 : ∀ l0 l1 l2 l3 l4 l5 S, X31 l0 l1 l2 l3 l4 l5 S → jLf (jCall jmt jbud d) jbud (fun j => (jmt j).rk) none mX12_guard (jqI Q) (31, [some (.ref l0), some (.int l1), some (.int l2), some (.int l3), some (.int l4), some (.int l5), none, none, none, none], [], S, 0, 0)) (hX36 : ∀ l0 l1 l2 l3 l4 l5 l6 S, X36 l0 l1 l2 l3 l4 l5 l6 S → jLf (jCall jmt jbud d) jbud (fun j => (jmt j).rk) none mX12_guard (jqI Q) (36, [some (.ref l0), some (.int l1), some (.int l2), some (.int l3), some (.int l4), some (.int l5), some (.int l6), none, none, none], [], S, 0, 0)) (hX49 : ∀ l0 l1 l2 l3 l4 l5 l6 l7 l8 S, X49 l0 l1 l2 l3 l4 l5 l6 l7 l8 S → jLf (jCall jmt jbud d) jbud (fun j => (jmt j).rk) none mX12_guard (jqI Q) (49, [some (.ref l0), some (.int l1), some (.int l2), some (.int l3), some (.int l4), some (.int l5), some (.int l6), some (.int l7), some (.int l8), none], [], S, 0, 0)) {l0 : Nat} {l1 : Int32} {l2 : Int32} {l3 : Int32} {l4 : Int32} {l5 : Int32} {l6 : Int32} {l8 : Int32} {s0 : Int32} {S : JS} (h : wX12_guard_86 X31 X36 X49 l0 l1 l2 l3 l4 l5 l6 l8 s0 S Q) : jLf (jCall jmt jbud d) jbud (fun j => (jmt j).rk) none mX12_guard (jqI Q) (86, [some (.ref l0), some (.int l1), some (.int l2), some (.int l3), some (.int l4), some (.int l5), some (.int l6), none, some (.int l8), none], [.int s0], S, 0, 0) := by
  have hc := jCall_mono jmt jbud d
  unfold wX12_guard_86 at h
  refine jLf.bk hc 2 [] [some (.ref l0), some (.int l1), some (.int l2), some (.int l3), some (.int l4), some (.int l5), some (.int l6), some (.int s0), some (.int (l8 + 1)), none] [] S rfl rfl rfl trivial ?_
  generalize ex59 : (l8 + 1 : Int32) = x59
  have h := h x59 ex59.symm
  refine jLf.one hc _ rfl (gs := []) (c := (49, [some (.ref l0), some (.int l1), some (.int l2), some (.int l3), some (.int l4), some (.int l5), some (.int l6), some (.int s0), some (.int x59), none], [], S, 0, 0)) rfl trivial ?_
  exact hX49 _ _ _ _ _ _ _ _ _ _ h
def wX12_guard_79  (X31 : Nat → Int32 → Int32 → Int32 → Int32 → Int32 → JS → Prop) (X36 : Nat → Int32 → Int32 → Int32 → Int32 → Int32 → Int32 → JS → Prop) (X49 : Nat → Int32 → Int32 → Int32 → Int32 → Int32 → Int32 → Int32 → Int32 → JS → Prop) (l0 : Nat) (l1 : Int32) (l2 : Int32) (l3 : Int32) (l4 : Int32) (l5 : Int32) (l6 : Int32) (l7 : Int32) (l8 : Int32) (s0 : Int32) (S : JS) (Q : Int32 → JS → Prop) : Prop :=
  (l7 ≤ s0 → wX12_guard_86 X31 X36 X49 l0 l1 l2 l3 l4 l5 l6 l8 l7 S Q) ∧ (¬ (l7 ≤ s0) → wX12_guard_86 X31 X36 X49 l0 l1 l2 l3 l4 l5 l6 l8 s0 S Q)
set_option maxRecDepth 20000 in
theorem tX12_guard_79 {Q : Int32 → JS → Prop} {X31 : Nat → Int32 → Int32 → Int32 → Int32 → Int32 → JS → Prop} {X36 : Nat → Int32 → Int32 → Int32 → Int32 → Int32 → Int32 → JS → Prop} {X49 : Nat → Int32 → Int32 → Int32 → Int32 → Int32 → Int32 → Int32 → Int32 → JS → Prop} (d : Nat) (hd : 6 ≤ d) (hX31 : ∀ l0 l1 l2 l3 l4 l5 S, X31 l0 l1 l2 l3 l4 l5 S → jLf (jCall jmt jbud d) jbud (fun j => (jmt j).rk) none mX12_guard (jqI Q) (31, [some (.ref l0), some (.int l1), some (.int l2), some (.int l3), some (.int l4), some (.int l5), none, none, none, none], [], S, 0, 0)) (hX36 : ∀ l0 l1 l2 l3 l4 l5 l6 S, X36 l0 l1 l2 l3 l4 l5 l6 S → jLf (jCall jmt jbud d) jbud (fun j => (jmt j).rk) none mX12_guard (jqI Q) (36, [some (.ref l0), some (.int l1), some (.int l2), some (.int l3), some (.int l4), some (.int l5), some (.int l6), none, none, none], [], S, 0, 0)) (hX49 : ∀ l0 l1 l2 l3 l4 l5 l6 l7 l8 S, X49 l0 l1 l2 l3 l4 l5 l6 l7 l8 S → jLf (jCall jmt jbud d) jbud (fun j => (jmt j).rk) none mX12_guard (jqI Q) (49, [some (.ref l0), some (.int l1), some (.int l2), some (.int l3), some (.int l4), some (.int l5), some (.int l6), some (.int l7), some (.int l8), none], [], S, 0, 0)) {l0 : Nat} {l1 : Int32} {l2 : Int32} {l3 : Int32} {l4 : Int32} {l5 : Int32} {l6 : Int32} {l7 : Int32} {l8 : Int32} {s0 : Int32} {S : JS} (h : wX12_guard_79 X31 X36 X49 l0 l1 l2 l3 l4 l5 l6 l7 l8 s0 S Q) : jLf (jCall jmt jbud d) jbud (fun j => (jmt j).rk) none mX12_guard (jqI Q) (79, [some (.ref l0), some (.int l1), some (.int l2), some (.int l3), some (.int l4), some (.int l5), some (.int l6), some (.int l7), some (.int l8), none], [.int s0], S, 0, 0) := by
  have hc := jCall_mono jmt jbud d
  unfold wX12_guard_79 at h
  refine jLf.bk hc 3 [] [some (.ref l0), some (.int l1), some (.int l2), some (.int l3), some (.int l4), some (.int l5), some (.int l6), some (.int l7), some (.int l8), some (.int s0)] [.int l7, .int s0] S rfl rfl rfl trivial ?_
  refine jLf.two hc _ rfl (gs := []) (p1 := l7 ≤ s0) (p2 := ¬ (l7 ≤ s0)) (c1 := (85, [some (.ref l0), some (.int l1), some (.int l2), some (.int l3), some (.int l4), some (.int l5), some (.int l6), some (.int l7), some (.int l8), some (.int s0)], [], S, 0, 0)) (c2 := (83, [some (.ref l0), some (.int l1), some (.int l2), some (.int l3), some (.int l4), some (.int l5), some (.int l6), some (.int l7), some (.int l8), some (.int s0)], [], S, 0, 0)) rfl trivial (fun hz => ?_) (fun hz => ?_)
  · have h := h.1 hz
    refine jLf.bk hc 1 [] [some (.ref l0), some (.int l1), some (.int l2), some (.int l3), some (.int l4), some (.int l5), some (.int l6), some (.int l7), some (.int l8), some (.int s0)] [.int l7] S rfl rfl rfl trivial ?_
    refine jLf.sub [some (.ref l0), some (.int l1), some (.int l2), some (.int l3), some (.int l4), some (.int l5), some (.int l6), none, some (.int l8), none] (jle_same (jle_same (jle_same (jle_same (jle_same (jle_same (jle_same (jle_none (jle_same (jle_none (jle_nil _))))))))))) ?_
    exact tX12_guard_86 d hd hX31 hX36 hX49 h
  · have h := h.2 hz
    refine jLf.bk hc 1 [] [some (.ref l0), some (.int l1), some (.int l2), some (.int l3), some (.int l4), some (.int l5), some (.int l6), some (.int l7), some (.int l8), some (.int s0)] [.int s0] S rfl rfl rfl trivial ?_
    refine jLf.one hc _ rfl (gs := []) (c := (86, [some (.ref l0), some (.int l1), some (.int l2), some (.int l3), some (.int l4), some (.int l5), some (.int l6), some (.int l7), some (.int l8), some (.int s0)], [.int s0], S, 0, 0)) rfl trivial ?_
    refine jLf.sub [some (.ref l0), some (.int l1), some (.int l2), some (.int l3), some (.int l4), some (.int l5), some (.int l6), none, some (.int l8), none] (jle_same (jle_same (jle_same (jle_same (jle_same (jle_same (jle_same (jle_none (jle_same (jle_none (jle_nil _))))))))))) ?_
    exact tX12_guard_86 d hd hX31 hX36 hX49 h
def bX12_guard_49  (X31 : Nat → Int32 → Int32 → Int32 → Int32 → Int32 → JS → Prop) (X36 : Nat → Int32 → Int32 → Int32 → Int32 → Int32 → Int32 → JS → Prop) (X49 : Nat → Int32 → Int32 → Int32 → Int32 → Int32 → Int32 → Int32 → Int32 → JS → Prop) (l0 : Nat) (l1 : Int32) (l2 : Int32) (l3 : Int32) (l4 : Int32) (l5 : Int32) (l6 : Int32) (l7 : Int32) (l8 : Int32) (S : JS) (Q : Int32 → JS → Prop) : Prop :=
  jA S l0 12 ∧ (wX12_rocks l0 S (fun r43 S42 => (r43 ≤ l8 → wX12_guard_89 X31 X36 l0 l1 l2 l3 l4 l5 l6 l7 S42 Q) ∧ (¬ (r43 ≤ l8) → (l3 ≤ l5 → wX12_guard_89 X31 X36 l0 l1 l2 l3 l4 l5 l6 l7 S42 Q) ∧ (¬ (l3 ≤ l5) → jA S42 l0 12 ∧ (¬ jR S42 l0 33 = none ∧ (jA S42 (jr S42 l0 33) 13 ∧ (vp_in (((9 : Int32) * l5) + l6) (jZ S42 (jr S42 l0 33)) ∧ (wX12_is (jI S42 (jr S42 l0 33) (((9 : Int32) * l5) + l6).toNatClampNeg) l8 S42 (fun r58 S57 => (r58 = 0 → wX12_guard_79 X31 X36 X49 l0 l1 l2 l3 l4 l5 l6 l7 l8 1000000 S57 Q) ∧ (¬ r58 = 0 → jA S57 l0 12 ∧ (¬ jR S57 l0 35 = none ∧ (jA S57 (jr S57 l0 35) 13 ∧ (vp_in ((((9 : Int32) * l5) + (9 : Int32)) + l8) (jZ S57 (jr S57 l0 35)) ∧ (wX12_guard_79 X31 X36 X49 l0 l1 l2 l3 l4 l5 l6 l7 l8 (jI S57 (jr S57 l0 35) ((((9 : Int32) * l5) + (9 : Int32)) + l8).toNatClampNeg) S57 Q))))))))))))))
set_option maxRecDepth 20000 in
theorem uX12_guard_49 {Q : Int32 → JS → Prop} {X31 : Nat → Int32 → Int32 → Int32 → Int32 → Int32 → JS → Prop} {X36 : Nat → Int32 → Int32 → Int32 → Int32 → Int32 → Int32 → JS → Prop} (d : Nat) (hd : 6 ≤ d) (hX31 : ∀ l0 l1 l2 l3 l4 l5 S, X31 l0 l1 l2 l3 l4 l5 S → jLf (jCall jmt jbud d) jbud (fun j => (jmt j).rk) none mX12_guard (jqI Q) (31, [some (.ref l0), some (.int l1), some (.int l2), some (.int l3), some (.int l4), some (.int l5), none, none, none, none], [], S, 0, 0)) (hX36 : ∀ l0 l1 l2 l3 l4 l5 l6 S, X36 l0 l1 l2 l3 l4 l5 l6 S → jLf (jCall jmt jbud d) jbud (fun j => (jmt j).rk) none mX12_guard (jqI Q) (36, [some (.ref l0), some (.int l1), some (.int l2), some (.int l3), some (.int l4), some (.int l5), some (.int l6), none, none, none], [], S, 0, 0)) {X49 : Nat → Int32 → Int32 → Int32 → Int32 → Int32 → Int32 → Int32 → Int32 → JS → Prop} (hX49 : ∀ l0 l1 l2 l3 l4 l5 l6 l7 l8 S, X49 l0 l1 l2 l3 l4 l5 l6 l7 l8 S → jLf (jCall jmt jbud d) jbud (fun j => (jmt j).rk) none mX12_guard (jqI Q) (49, [some (.ref l0), some (.int l1), some (.int l2), some (.int l3), some (.int l4), some (.int l5), some (.int l6), some (.int l7), some (.int l8), none], [], S, 0, 0)) {l0 : Nat} {l1 : Int32} {l2 : Int32} {l3 : Int32} {l4 : Int32} {l5 : Int32} {l6 : Int32} {l7 : Int32} {l8 : Int32} {S : JS} (h : bX12_guard_49 X31 X36 X49 l0 l1 l2 l3 l4 l5 l6 l7 l8 S Q) : jLf (jCall jmt jbud d) jbud (fun j => (jmt j).rk) none mX12_guard (jqI Q) (49, [some (.ref l0), some (.int l1), some (.int l2), some (.int l3), some (.int l4), some (.int l5), some (.int l6), some (.int l7), some (.int l8), none], [], S, 0, 0) := by
  have hc := jCall_mono jmt jbud d
  unfold bX12_guard_49 at h
  refine jLf.bk hc 2 [] [some (.ref l0), some (.int l1), some (.int l2), some (.int l3), some (.int l4), some (.int l5), some (.int l6), some (.int l7), some (.int l8), none] [.ref l0, .int l8] S rfl rfl rfl trivial ?_
  obtain ⟨g44, h⟩ := h
  refine jLf.inv hc _ rfl (gs := [jA S l0 12, (([.int l8] : List Value).map fun v => v.category).sum ≤ 8, 0 ≤ 0, 0 ≤ 0]) (k := 154) (args := [.ref l0]) (r := [.int l8]) (a := 0) (b := 0) rfl ⟨g44, Nat.le_of_ble_eq_true rfl, Nat.zero_le _, Nat.zero_le _⟩ (vX12_rocks d (by omega) h) ?_
  rintro v S42 ⟨r43, rfl, h⟩
  show jLf (jCall jmt jbud d) jbud (fun j => (jmt j).rk) none mX12_guard (jqI Q) (52, [some (.ref l0), some (.int l1), some (.int l2), some (.int l3), some (.int l4), some (.int l5), some (.int l6), some (.int l7), some (.int l8), none], [.int r43, .int l8], S42, 0, 0)
  refine jLf.two hc _ rfl (gs := []) (p1 := r43 ≤ l8) (p2 := ¬ (r43 ≤ l8)) (c1 := (89, [some (.ref l0), some (.int l1), some (.int l2), some (.int l3), some (.int l4), some (.int l5), some (.int l6), some (.int l7), some (.int l8), none], [], S42, 0, 0)) (c2 := (53, [some (.ref l0), some (.int l1), some (.int l2), some (.int l3), some (.int l4), some (.int l5), some (.int l6), some (.int l7), some (.int l8), none], [], S42, 0, 0)) rfl trivial (fun hz => ?_) (fun hz => ?_)
  · have h := h.1 hz
    refine jLf.sub [some (.ref l0), some (.int l1), some (.int l2), some (.int l3), some (.int l4), some (.int l5), some (.int l6), some (.int l7), none, none] (jle_same (jle_same (jle_same (jle_same (jle_same (jle_same (jle_same (jle_same (jle_none (jle_same (jle_nil _))))))))))) ?_
    exact tX12_guard_89 d hd hX31 hX36 h
  · have h := h.2 hz
    refine jLf.bk hc 2 [] [some (.ref l0), some (.int l1), some (.int l2), some (.int l3), some (.int l4), some (.int l5), some (.int l6), some (.int l7), some (.int l8), none] [.int l3, .int l5] S42 rfl rfl rfl trivial ?_
    refine jLf.two hc _ rfl (gs := []) (p1 := l3 ≤ l5) (p2 := ¬ (l3 ≤ l5)) (c1 := (89, [some (.ref l0), some (.int l1), some (.int l2), some (.int l3), some (.int l4), some (.int l5), some (.int l6), some (.int l7), some (.int l8), none], [], S42, 0, 0)) (c2 := (56, [some (.ref l0), some (.int l1), some (.int l2), some (.int l3), some (.int l4), some (.int l5), some (.int l6), some (.int l7), some (.int l8), none], [], S42, 0, 0)) rfl trivial (fun hz => ?_) (fun hz => ?_)
    · have h := h.1 hz
      refine jLf.sub [some (.ref l0), some (.int l1), some (.int l2), some (.int l3), some (.int l4), some (.int l5), some (.int l6), some (.int l7), none, none] (jle_same (jle_same (jle_same (jle_same (jle_same (jle_same (jle_same (jle_same (jle_none (jle_same (jle_nil _))))))))))) ?_
      exact tX12_guard_89 d hd hX31 hX36 h
    · have h := h.2 hz
      obtain ⟨g53, g54, g55, g56, h⟩ := h
      refine jLf.bk hc 9 [jA S42 l0 12, ¬ jR S42 l0 33 = none, jA S42 (jr S42 l0 33) 13, vp_in (((9 : Int32) * l5) + l6) (jZ S42 (jr S42 l0 33))] [some (.ref l0), some (.int l1), some (.int l2), some (.int l3), some (.int l4), some (.int l5), some (.int l6), some (.int l7), some (.int l8), none] [.int l8, .int (jI S42 (jr S42 l0 33) (((9 : Int32) * l5) + l6).toNatClampNeg)] S42 rfl rfl rfl ⟨g53, g54, g55, g56⟩ ?_
      refine jLf.inv hc _ rfl (gs := [2 ≤ ([.int l8, .int (jI S42 (jr S42 l0 33) (((9 : Int32) * l5) + l6).toNatClampNeg)] : List Value).length, (([] : List Value).map fun v => v.category).sum ≤ 8, 0 ≤ 0, 0 ≤ 0]) (k := 149) (args := [.int (jI S42 (jr S42 l0 33) (((9 : Int32) * l5) + l6).toNatClampNeg), .int l8]) (r := []) (a := 0) (b := 0) rfl ⟨Nat.le_of_ble_eq_true rfl, Nat.le_of_ble_eq_true rfl, Nat.zero_le _, Nat.zero_le _⟩ (vX12_is d (by omega) h) ?_
      rintro v S57 ⟨r58, rfl, h⟩
      show jLf (jCall jmt jbud d) jbud (fun j => (jmt j).rk) none mX12_guard (jqI Q) (66, [some (.ref l0), some (.int l1), some (.int l2), some (.int l3), some (.int l4), some (.int l5), some (.int l6), some (.int l7), some (.int l8), none], [.int r58], S57, 0, 0)
      refine jLf.two hc _ rfl (gs := []) (p1 := r58 = 0) (p2 := ¬ (r58 = 0)) (c1 := (78, [some (.ref l0), some (.int l1), some (.int l2), some (.int l3), some (.int l4), some (.int l5), some (.int l6), some (.int l7), some (.int l8), none], [], S57, 0, 0)) (c2 := (67, [some (.ref l0), some (.int l1), some (.int l2), some (.int l3), some (.int l4), some (.int l5), some (.int l6), some (.int l7), some (.int l8), none], [], S57, 0, 0)) rfl trivial (fun hz => ?_) (fun hz => ?_)
      · have h := h.1 hz
        refine jLf.bk hc 1 [] [some (.ref l0), some (.int l1), some (.int l2), some (.int l3), some (.int l4), some (.int l5), some (.int l6), some (.int l7), some (.int l8), none] [.int 1000000] S57 rfl rfl rfl trivial ?_
        exact tX12_guard_79 d hd hX31 hX36 hX49 h
      · have h := h.2 hz
        obtain ⟨g60, g61, g62, g63, h⟩ := h
        refine jLf.bk hc 10 [jA S57 l0 12, ¬ jR S57 l0 35 = none, jA S57 (jr S57 l0 35) 13, vp_in ((((9 : Int32) * l5) + (9 : Int32)) + l8) (jZ S57 (jr S57 l0 35))] [some (.ref l0), some (.int l1), some (.int l2), some (.int l3), some (.int l4), some (.int l5), some (.int l6), some (.int l7), some (.int l8), none] [.int (jI S57 (jr S57 l0 35) ((((9 : Int32) * l5) + (9 : Int32)) + l8).toNatClampNeg)] S57 rfl rfl rfl ⟨g60, g61, g62, g63⟩ ?_
        refine jLf.one hc _ rfl (gs := []) (c := (79, [some (.ref l0), some (.int l1), some (.int l2), some (.int l3), some (.int l4), some (.int l5), some (.int l6), some (.int l7), some (.int l8), none], [.int (jI S57 (jr S57 l0 35) ((((9 : Int32) * l5) + (9 : Int32)) + l8).toNatClampNeg)], S57, 0, 0)) rfl trivial ?_
        exact tX12_guard_79 d hd hX31 hX36 hX49 h
def wX12_guard_49  (X31 : Nat → Int32 → Int32 → Int32 → Int32 → Int32 → JS → Prop) (X36 : Nat → Int32 → Int32 → Int32 → Int32 → Int32 → Int32 → JS → Prop) (l0 : Nat) (l1 : Int32) (l2 : Int32) (l3 : Int32) (l4 : Int32) (l5 : Int32) (l6 : Int32) (l7 : Int32) (l8 : Int32) (S : JS) (Q : Int32 → JS → Prop) : Prop :=
  jLoop (fun (X49 : Nat × Int32 × Int32 × Int32 × Int32 × Int32 × Int32 × Int32 × Int32 × JS → Prop) q => bX12_guard_49 X31 X36 (fun l0 l1 l2 l3 l4 l5 l6 l7 l8 S => X49 (l0, l1, l2, l3, l4, l5, l6, l7, l8, S)) q.1 q.2.1 q.2.2.1 q.2.2.2.1 q.2.2.2.2.1 q.2.2.2.2.2.1 q.2.2.2.2.2.2.1 q.2.2.2.2.2.2.2.1 q.2.2.2.2.2.2.2.2.1 q.2.2.2.2.2.2.2.2.2 Q) (l0, l1, l2, l3, l4, l5, l6, l7, l8, S)
set_option maxRecDepth 20000 in
theorem tX12_guard_49 {Q : Int32 → JS → Prop} {X31 : Nat → Int32 → Int32 → Int32 → Int32 → Int32 → JS → Prop} {X36 : Nat → Int32 → Int32 → Int32 → Int32 → Int32 → Int32 → JS → Prop} (d : Nat) (hd : 6 ≤ d) (hX31 : ∀ l0 l1 l2 l3 l4 l5 S, X31 l0 l1 l2 l3 l4 l5 S → jLf (jCall jmt jbud d) jbud (fun j => (jmt j).rk) none mX12_guard (jqI Q) (31, [some (.ref l0), some (.int l1), some (.int l2), some (.int l3), some (.int l4), some (.int l5), none, none, none, none], [], S, 0, 0)) (hX36 : ∀ l0 l1 l2 l3 l4 l5 l6 S, X36 l0 l1 l2 l3 l4 l5 l6 S → jLf (jCall jmt jbud d) jbud (fun j => (jmt j).rk) none mX12_guard (jqI Q) (36, [some (.ref l0), some (.int l1), some (.int l2), some (.int l3), some (.int l4), some (.int l5), some (.int l6), none, none, none], [], S, 0, 0)) {l0 : Nat} {l1 : Int32} {l2 : Int32} {l3 : Int32} {l4 : Int32} {l5 : Int32} {l6 : Int32} {l7 : Int32} {l8 : Int32} {S : JS} (h : wX12_guard_49 X31 X36 l0 l1 l2 l3 l4 l5 l6 l7 l8 S Q) : jLf (jCall jmt jbud d) jbud (fun j => (jmt j).rk) none mX12_guard (jqI Q) (49, [some (.ref l0), some (.int l1), some (.int l2), some (.int l3), some (.int l4), some (.int l5), some (.int l6), some (.int l7), some (.int l8), none], [], S, 0, 0) := by
  have := h (fun q : Nat × Int32 × Int32 × Int32 × Int32 × Int32 × Int32 × Int32 × Int32 × JS => jLf (jCall jmt jbud d) jbud (fun j => (jmt j).rk) none mX12_guard (jqI Q) (49, [some (.ref (q.1)), some (.int (q.2.1)), some (.int (q.2.2.1)), some (.int (q.2.2.2.1)), some (.int (q.2.2.2.2.1)), some (.int (q.2.2.2.2.2.1)), some (.int (q.2.2.2.2.2.2.1)), some (.int (q.2.2.2.2.2.2.2.1)), some (.int (q.2.2.2.2.2.2.2.2.1)), none], [], q.2.2.2.2.2.2.2.2.2, 0, 0)) (fun q R hb hR => uX12_guard_49 d hd hX31 hX36 (fun _ _ _ _ _ _ _ _ _ _ => hR _) hb)
  exact this
def wX12_guard_46  (X31 : Nat → Int32 → Int32 → Int32 → Int32 → Int32 → JS → Prop) (X36 : Nat → Int32 → Int32 → Int32 → Int32 → Int32 → Int32 → JS → Prop) (l0 : Nat) (l1 : Int32) (l2 : Int32) (l3 : Int32) (l4 : Int32) (l5 : Int32) (l6 : Int32) (s0 : Int32) (S : JS) (Q : Int32 → JS → Prop) : Prop :=
  wX12_guard_49 X31 X36 l0 l1 l2 l3 l4 l5 l6 s0 0 S Q
set_option maxRecDepth 20000 in
theorem tX12_guard_46 {Q : Int32 → JS → Prop} {X31 : Nat → Int32 → Int32 → Int32 → Int32 → Int32 → JS → Prop} {X36 : Nat → Int32 → Int32 → Int32 → Int32 → Int32 → Int32 → JS → Prop} (d : Nat) (hd : 6 ≤ d) (hX31 : ∀ l0 l1 l2 l3 l4 l5 S, X31 l0 l1 l2 l3 l4 l5 S → jLf (jCall jmt jbud d) jbud (fun j => (jmt j).rk) none mX12_guard (jqI Q) (31, [some (.ref l0), some (.int l1), some (.int l2), some (.int l3), some (.int l4), some (.int l5), none, none, none, none], [], S, 0, 0)) (hX36 : ∀ l0 l1 l2 l3 l4 l5 l6 S, X36 l0 l1 l2 l3 l4 l5 l6 S → jLf (jCall jmt jbud d) jbud (fun j => (jmt j).rk) none mX12_guard (jqI Q) (36, [some (.ref l0), some (.int l1), some (.int l2), some (.int l3), some (.int l4), some (.int l5), some (.int l6), none, none, none], [], S, 0, 0)) {l0 : Nat} {l1 : Int32} {l2 : Int32} {l3 : Int32} {l4 : Int32} {l5 : Int32} {l6 : Int32} {s0 : Int32} {S : JS} (h : wX12_guard_46 X31 X36 l0 l1 l2 l3 l4 l5 l6 s0 S Q) : jLf (jCall jmt jbud d) jbud (fun j => (jmt j).rk) none mX12_guard (jqI Q) (46, [some (.ref l0), some (.int l1), some (.int l2), some (.int l3), some (.int l4), some (.int l5), some (.int l6), none, none, none], [.int s0], S, 0, 0) := by
  have hc := jCall_mono jmt jbud d
  unfold wX12_guard_46 at h
  refine jLf.bk hc 3 [] [some (.ref l0), some (.int l1), some (.int l2), some (.int l3), some (.int l4), some (.int l5), some (.int l6), some (.int s0), some (.int 0), none] [] S rfl rfl rfl trivial ?_
  exact tX12_guard_49 d hd hX31 hX36 h
def bX12_guard_36  (X31 : Nat → Int32 → Int32 → Int32 → Int32 → Int32 → JS → Prop) (X36 : Nat → Int32 → Int32 → Int32 → Int32 → Int32 → Int32 → JS → Prop) (l0 : Nat) (l1 : Int32) (l2 : Int32) (l3 : Int32) (l4 : Int32) (l5 : Int32) (l6 : Int32) (S : JS) (Q : Int32 → JS → Prop) : Prop :=
  jA S l0 12 ∧ (wX12_rocks l0 S (fun r39 S38 => (r39 ≤ l6 → ∀ x41 : Int32, x41 = (l5 + (-1)) → (X31 l0 l1 l2 l3 l4 x41 S38)) ∧ (¬ (r39 ≤ l6) → (¬ l5 = l3 → wX12_guard_46 X31 X36 l0 l1 l2 l3 l4 l5 l6 1000000 S38 Q) ∧ (l5 = l3 → wX12_guard_46 X31 X36 l0 l1 l2 l3 l4 l5 l6 0 S38 Q))))
set_option maxRecDepth 20000 in
theorem uX12_guard_36 {Q : Int32 → JS → Prop} {X31 : Nat → Int32 → Int32 → Int32 → Int32 → Int32 → JS → Prop} (d : Nat) (hd : 6 ≤ d) (hX31 : ∀ l0 l1 l2 l3 l4 l5 S, X31 l0 l1 l2 l3 l4 l5 S → jLf (jCall jmt jbud d) jbud (fun j => (jmt j).rk) none mX12_guard (jqI Q) (31, [some (.ref l0), some (.int l1), some (.int l2), some (.int l3), some (.int l4), some (.int l5), none, none, none, none], [], S, 0, 0)) {X36 : Nat → Int32 → Int32 → Int32 → Int32 → Int32 → Int32 → JS → Prop} (hX36 : ∀ l0 l1 l2 l3 l4 l5 l6 S, X36 l0 l1 l2 l3 l4 l5 l6 S → jLf (jCall jmt jbud d) jbud (fun j => (jmt j).rk) none mX12_guard (jqI Q) (36, [some (.ref l0), some (.int l1), some (.int l2), some (.int l3), some (.int l4), some (.int l5), some (.int l6), none, none, none], [], S, 0, 0)) {l0 : Nat} {l1 : Int32} {l2 : Int32} {l3 : Int32} {l4 : Int32} {l5 : Int32} {l6 : Int32} {S : JS} (h : bX12_guard_36 X31 X36 l0 l1 l2 l3 l4 l5 l6 S Q) : jLf (jCall jmt jbud d) jbud (fun j => (jmt j).rk) none mX12_guard (jqI Q) (36, [some (.ref l0), some (.int l1), some (.int l2), some (.int l3), some (.int l4), some (.int l5), some (.int l6), none, none, none], [], S, 0, 0) := by
  have hc := jCall_mono jmt jbud d
  unfold bX12_guard_36 at h
  refine jLf.bk hc 2 [] [some (.ref l0), some (.int l1), some (.int l2), some (.int l3), some (.int l4), some (.int l5), some (.int l6), none, none, none] [.ref l0, .int l6] S rfl rfl rfl trivial ?_
  obtain ⟨g40, h⟩ := h
  refine jLf.inv hc _ rfl (gs := [jA S l0 12, (([.int l6] : List Value).map fun v => v.category).sum ≤ 8, 0 ≤ 0, 0 ≤ 0]) (k := 154) (args := [.ref l0]) (r := [.int l6]) (a := 0) (b := 0) rfl ⟨g40, Nat.le_of_ble_eq_true rfl, Nat.zero_le _, Nat.zero_le _⟩ (vX12_rocks d (by omega) h) ?_
  rintro v S38 ⟨r39, rfl, h⟩
  show jLf (jCall jmt jbud d) jbud (fun j => (jmt j).rk) none mX12_guard (jqI Q) (39, [some (.ref l0), some (.int l1), some (.int l2), some (.int l3), some (.int l4), some (.int l5), some (.int l6), none, none, none], [.int r39, .int l6], S38, 0, 0)
  refine jLf.two hc _ rfl (gs := []) (p1 := r39 ≤ l6) (p2 := ¬ (r39 ≤ l6)) (c1 := (105, [some (.ref l0), some (.int l1), some (.int l2), some (.int l3), some (.int l4), some (.int l5), some (.int l6), none, none, none], [], S38, 0, 0)) (c2 := (40, [some (.ref l0), some (.int l1), some (.int l2), some (.int l3), some (.int l4), some (.int l5), some (.int l6), none, none, none], [], S38, 0, 0)) rfl trivial (fun hz => ?_) (fun hz => ?_)
  · have h := h.1 hz
    refine jLf.bk hc 1 [] [some (.ref l0), some (.int l1), some (.int l2), some (.int l3), some (.int l4), some (.int (l5 + (-1))), some (.int l6), none, none, none] [] S38 rfl rfl rfl trivial ?_
    generalize ex41 : (l5 + (-1) : Int32) = x41
    have h := h x41 ex41.symm
    refine jLf.one hc _ rfl (gs := []) (c := (31, [some (.ref l0), some (.int l1), some (.int l2), some (.int l3), some (.int l4), some (.int x41), some (.int l6), none, none, none], [], S38, 0, 0)) rfl trivial ?_
    refine jLf.sub [some (.ref l0), some (.int l1), some (.int l2), some (.int l3), some (.int l4), some (.int x41), none, none, none, none] (jle_same (jle_same (jle_same (jle_same (jle_same (jle_same (jle_none (jle_same (jle_same (jle_same (jle_nil _))))))))))) ?_
    exact hX31 _ _ _ _ _ _ _ h
  · have h := h.2 hz
    refine jLf.bk hc 2 [] [some (.ref l0), some (.int l1), some (.int l2), some (.int l3), some (.int l4), some (.int l5), some (.int l6), none, none, none] [.int l3, .int l5] S38 rfl rfl rfl trivial ?_
    refine jLf.two hc _ rfl (gs := []) (p1 := ¬ l5 = l3) (p2 := ¬ (¬ l5 = l3)) (c1 := (45, [some (.ref l0), some (.int l1), some (.int l2), some (.int l3), some (.int l4), some (.int l5), some (.int l6), none, none, none], [], S38, 0, 0)) (c2 := (43, [some (.ref l0), some (.int l1), some (.int l2), some (.int l3), some (.int l4), some (.int l5), some (.int l6), none, none, none], [], S38, 0, 0)) rfl trivial (fun hz => ?_) (fun hz => ?_)
    · have h := h.1 hz
      refine jLf.bk hc 1 [] [some (.ref l0), some (.int l1), some (.int l2), some (.int l3), some (.int l4), some (.int l5), some (.int l6), none, none, none] [.int 1000000] S38 rfl rfl rfl trivial ?_
      exact tX12_guard_46 d hd hX31 hX36 h
    · have h := h.2 (Classical.not_not.mp hz)
      refine jLf.bk hc 1 [] [some (.ref l0), some (.int l1), some (.int l2), some (.int l3), some (.int l4), some (.int l5), some (.int l6), none, none, none] [.int 0] S38 rfl rfl rfl trivial ?_
      refine jLf.one hc _ rfl (gs := []) (c := (46, [some (.ref l0), some (.int l1), some (.int l2), some (.int l3), some (.int l4), some (.int l5), some (.int l6), none, none, none], [.int 0], S38, 0, 0)) rfl trivial ?_
      exact tX12_guard_46 d hd hX31 hX36 h
def wX12_guard_36  (X31 : Nat → Int32 → Int32 → Int32 → Int32 → Int32 → JS → Prop) (l0 : Nat) (l1 : Int32) (l2 : Int32) (l3 : Int32) (l4 : Int32) (l5 : Int32) (l6 : Int32) (S : JS) (Q : Int32 → JS → Prop) : Prop :=
  jLoop (fun (X36 : Nat × Int32 × Int32 × Int32 × Int32 × Int32 × Int32 × JS → Prop) q => bX12_guard_36 X31 (fun l0 l1 l2 l3 l4 l5 l6 S => X36 (l0, l1, l2, l3, l4, l5, l6, S)) q.1 q.2.1 q.2.2.1 q.2.2.2.1 q.2.2.2.2.1 q.2.2.2.2.2.1 q.2.2.2.2.2.2.1 q.2.2.2.2.2.2.2 Q) (l0, l1, l2, l3, l4, l5, l6, S)
set_option maxRecDepth 20000 in
theorem tX12_guard_36 {Q : Int32 → JS → Prop} {X31 : Nat → Int32 → Int32 → Int32 → Int32 → Int32 → JS → Prop} (d : Nat) (hd : 6 ≤ d) (hX31 : ∀ l0 l1 l2 l3 l4 l5 S, X31 l0 l1 l2 l3 l4 l5 S → jLf (jCall jmt jbud d) jbud (fun j => (jmt j).rk) none mX12_guard (jqI Q) (31, [some (.ref l0), some (.int l1), some (.int l2), some (.int l3), some (.int l4), some (.int l5), none, none, none, none], [], S, 0, 0)) {l0 : Nat} {l1 : Int32} {l2 : Int32} {l3 : Int32} {l4 : Int32} {l5 : Int32} {l6 : Int32} {S : JS} (h : wX12_guard_36 X31 l0 l1 l2 l3 l4 l5 l6 S Q) : jLf (jCall jmt jbud d) jbud (fun j => (jmt j).rk) none mX12_guard (jqI Q) (36, [some (.ref l0), some (.int l1), some (.int l2), some (.int l3), some (.int l4), some (.int l5), some (.int l6), none, none, none], [], S, 0, 0) := by
  have := h (fun q : Nat × Int32 × Int32 × Int32 × Int32 × Int32 × Int32 × JS => jLf (jCall jmt jbud d) jbud (fun j => (jmt j).rk) none mX12_guard (jqI Q) (36, [some (.ref (q.1)), some (.int (q.2.1)), some (.int (q.2.2.1)), some (.int (q.2.2.2.1)), some (.int (q.2.2.2.2.1)), some (.int (q.2.2.2.2.2.1)), some (.int (q.2.2.2.2.2.2.1)), none, none, none], [], q.2.2.2.2.2.2.2, 0, 0)) (fun q R hb hR => uX12_guard_36 d hd hX31 (fun _ _ _ _ _ _ _ _ => hR _) hb)
  exact this
def bX12_guard_31   (X31 : Nat → Int32 → Int32 → Int32 → Int32 → Int32 → JS → Prop) (l0 : Nat) (l1 : Int32) (l2 : Int32) (l3 : Int32) (l4 : Int32) (l5 : Int32) (S : JS) (Q : Int32 → JS → Prop) : Prop :=
  (l5 < l2 → (¬ l4 = (-1) → wX12_guard_123 l0 l2 l4 l1 l2 S Q) ∧ (l4 = (-1) → jA S l0 12 ∧ (¬ jR S l0 35 = none ∧ (jA S (jr S l0 35) 13 ∧ (vp_in (((9 : Int32) * l2) + l1) (jZ S (jr S l0 35)) ∧ (Q (jI S (jr S l0 35) (((9 : Int32) * l2) + l1).toNatClampNeg) S)))))) ∧ (¬ (l5 < l2) → wX12_guard_36 X31 l0 l1 l2 l3 l4 l5 0 S Q)
set_option maxRecDepth 20000 in
theorem uX12_guard_31 {Q : Int32 → JS → Prop}  (d : Nat) (hd : 6 ≤ d) {X31 : Nat → Int32 → Int32 → Int32 → Int32 → Int32 → JS → Prop} (hX31 : ∀ l0 l1 l2 l3 l4 l5 S, X31 l0 l1 l2 l3 l4 l5 S → jLf (jCall jmt jbud d) jbud (fun j => (jmt j).rk) none mX12_guard (jqI Q) (31, [some (.ref l0), some (.int l1), some (.int l2), some (.int l3), some (.int l4), some (.int l5), none, none, none, none], [], S, 0, 0)) {l0 : Nat} {l1 : Int32} {l2 : Int32} {l3 : Int32} {l4 : Int32} {l5 : Int32} {S : JS} (h : bX12_guard_31 X31 l0 l1 l2 l3 l4 l5 S Q) : jLf (jCall jmt jbud d) jbud (fun j => (jmt j).rk) none mX12_guard (jqI Q) (31, [some (.ref l0), some (.int l1), some (.int l2), some (.int l3), some (.int l4), some (.int l5), none, none, none, none], [], S, 0, 0) := by
  have hc := jCall_mono jmt jbud d
  unfold bX12_guard_31 at h
  refine jLf.bk hc 2 [] [some (.ref l0), some (.int l1), some (.int l2), some (.int l3), some (.int l4), some (.int l5), none, none, none, none] [.int l2, .int l5] S rfl rfl rfl trivial ?_
  refine jLf.two hc _ rfl (gs := []) (p1 := l5 < l2) (p2 := ¬ (l5 < l2)) (c1 := (107, [some (.ref l0), some (.int l1), some (.int l2), some (.int l3), some (.int l4), some (.int l5), none, none, none, none], [], S, 0, 0)) (c2 := (34, [some (.ref l0), some (.int l1), some (.int l2), some (.int l3), some (.int l4), some (.int l5), none, none, none, none], [], S, 0, 0)) rfl trivial (fun hz => ?_) (fun hz => ?_)
  · have h := h.1 hz
    refine jLf.bk hc 2 [] [some (.ref l0), some (.int l1), some (.int l2), some (.int l3), some (.int l4), some (.int l5), none, none, none, none] [.int (-1), .int l4] S rfl rfl rfl trivial ?_
    refine jLf.two hc _ rfl (gs := []) (p1 := ¬ l4 = (-1)) (p2 := ¬ (¬ l4 = (-1))) (c1 := (119, [some (.ref l0), some (.int l1), some (.int l2), some (.int l3), some (.int l4), some (.int l5), none, none, none, none], [], S, 0, 0)) (c2 := (110, [some (.ref l0), some (.int l1), some (.int l2), some (.int l3), some (.int l4), some (.int l5), none, none, none, none], [], S, 0, 0)) rfl trivial (fun hz => ?_) (fun hz => ?_)
    · have h := h.1 hz
      refine jLf.bk hc 4 [] [some (.ref l0), some (.int l1), some (.int l2), some (.int l3), some (.int l4), some (.int l1), some (.int l2), none, none, none] [] S rfl rfl rfl trivial ?_
      refine jLf.sub [some (.ref l0), none, some (.int l2), none, some (.int l4), some (.int l1), some (.int l2), none, none, none] (jle_same (jle_none (jle_same (jle_none (jle_same (jle_same (jle_same (jle_same (jle_same (jle_same (jle_nil _))))))))))) ?_
      exact tX12_guard_123 d hd  h
    · have h := h.2 (Classical.not_not.mp hz)
      obtain ⟨g34, g35, g36, g37, h⟩ := h
      refine jLf.bk hc 8 [jA S l0 12, ¬ jR S l0 35 = none, jA S (jr S l0 35) 13, vp_in (((9 : Int32) * l2) + l1) (jZ S (jr S l0 35))] [some (.ref l0), some (.int l1), some (.int l2), some (.int l3), some (.int l4), some (.int l5), none, none, none, none] [.int (jI S (jr S l0 35) (((9 : Int32) * l2) + l1).toNatClampNeg)] S rfl rfl rfl ⟨g34, g35, g36, g37⟩ ?_
      exact jLf.ret hc _ rfl (gs := [True]) (v := some (.int (jI S (jr S l0 35) (((9 : Int32) * l2) + l1).toNatClampNeg))) rfl trivial ⟨jI S (jr S l0 35) (((9 : Int32) * l2) + l1).toNatClampNeg, rfl, h⟩
  · have h := h.2 hz
    refine jLf.bk hc 2 [] [some (.ref l0), some (.int l1), some (.int l2), some (.int l3), some (.int l4), some (.int l5), some (.int 0), none, none, none] [] S rfl rfl rfl trivial ?_
    exact tX12_guard_36 d hd hX31 h
def wX12_guard_31   (l0 : Nat) (l1 : Int32) (l2 : Int32) (l3 : Int32) (l4 : Int32) (l5 : Int32) (S : JS) (Q : Int32 → JS → Prop) : Prop :=
  jLoop (fun (X31 : Nat × Int32 × Int32 × Int32 × Int32 × Int32 × JS → Prop) q => bX12_guard_31 (fun l0 l1 l2 l3 l4 l5 S => X31 (l0, l1, l2, l3, l4, l5, S)) q.1 q.2.1 q.2.2.1 q.2.2.2.1 q.2.2.2.2.1 q.2.2.2.2.2.1 q.2.2.2.2.2.2 Q) (l0, l1, l2, l3, l4, l5, S)
set_option maxRecDepth 20000 in
theorem tX12_guard_31 {Q : Int32 → JS → Prop}  (d : Nat) (hd : 6 ≤ d) {l0 : Nat} {l1 : Int32} {l2 : Int32} {l3 : Int32} {l4 : Int32} {l5 : Int32} {S : JS} (h : wX12_guard_31 l0 l1 l2 l3 l4 l5 S Q) : jLf (jCall jmt jbud d) jbud (fun j => (jmt j).rk) none mX12_guard (jqI Q) (31, [some (.ref l0), some (.int l1), some (.int l2), some (.int l3), some (.int l4), some (.int l5), none, none, none, none], [], S, 0, 0) := by
  have := h (fun q : Nat × Int32 × Int32 × Int32 × Int32 × Int32 × JS => jLf (jCall jmt jbud d) jbud (fun j => (jmt j).rk) none mX12_guard (jqI Q) (31, [some (.ref (q.1)), some (.int (q.2.1)), some (.int (q.2.2.1)), some (.int (q.2.2.2.1)), some (.int (q.2.2.2.2.1)), some (.int (q.2.2.2.2.2.1)), none, none, none, none], [], q.2.2.2.2.2.2, 0, 0)) (fun q R hb hR => uX12_guard_31 d hd  (fun _ _ _ _ _ _ _ => hR _) hb)
  exact this
def wX12_guard  (this : Nat) (p1 : Int32) (p2 : Int32) (p3 : Int32) (p4 : Int32) (S : JS) (Q : Int32 → JS → Prop) : Prop :=
  jA S this 12 ∧ (∀ S2 : JS, S2 = uI S this 0 0 → (jA S2 this 12 ∧ (wX12_isRock this p1 S2 (fun r4 S3 => (r4 = 0 → Q (-1) S3) ∧ (¬ r4 = 0 → wX12_isNight p2 S3 (fun r7 S6 => (r7 = 0 → Q (-1) S6) ∧ (¬ r7 = 0 → wX12_isNight p3 S6 (fun r9 S8 => (r9 = 0 → Q (-1) S8) ∧ (¬ r9 = 0 → (p3 < p2 → Q (-1) S8) ∧ (¬ (p3 < p2) → wX12_in (p4.toInt64) (-1) ((p3 - p2).toInt64) S8 (fun r11 S10 => (¬ r11 = 0 → jA S10 this 12 ∧ (wX12_layOut this S10 (fun S12 => wX12_guard_31 this p1 p2 p3 p4 p3 S12 Q))) ∧ (r11 = 0 → Q (-1) S10))))))))))))
set_option maxRecDepth 20000 in
theorem vX12_guard {Q : Int32 → JS → Prop} (d : Nat) (hd : 7 ≤ d) {this : Nat} {p1 : Int32} {p2 : Int32} {p3 : Int32} {p4 : Int32} {S : JS} (h : wX12_guard this p1 p2 p3 p4 S Q) : jCall jmt jbud d 224 [.ref this, .int p1, .int p2, .int p3, .int p4] S (jqI Q) := by
  obtain ⟨d, rfl⟩ : ∃ d2, d = d2 + 1 := ⟨d - 1, by omega⟩
  have hd : 6 ≤ d := by omega
  have hc := jCall_mono jmt jbud d
  unfold wX12_guard at h
  refine ⟨Nat.le_of_ble_eq_true rfl, ?_⟩
  show jLf (jCall jmt jbud d) jbud (fun j => (jmt j).rk) none mX12_guard (jqI Q) (0, [some (.ref this), some (.int p1), some (.int p2), some (.int p3), some (.int p4), none, none, none, none, none], [], S, 0, 0)
  obtain ⟨g1, h⟩ := h
  refine jLf.bk hc 3 [jA S this 12] [some (.ref this), some (.int p1), some (.int p2), some (.int p3), some (.int p4), none, none, none, none, none] [] (uI S this 0 0) rfl rfl rfl g1 ?_
  generalize eS2 : uI S this 0 0 = S2
  have h := h S2 eS2.symm
  refine jLf.bk hc 2 [] [some (.ref this), some (.int p1), some (.int p2), some (.int p3), some (.int p4), none, none, none, none, none] [.int p1, .ref this] S2 rfl rfl rfl trivial ?_
  obtain ⟨g5, h⟩ := h
  refine jLf.inv hc _ rfl (gs := [jA S2 this 12, (([] : List Value).map fun v => v.category).sum ≤ 8, 0 ≤ 0, 0 ≤ 0]) (k := 155) (args := [.ref this, .int p1]) (r := []) (a := 0) (b := 0) rfl ⟨g5, Nat.le_of_ble_eq_true rfl, Nat.zero_le _, Nat.zero_le _⟩ (vX12_isRock d (by omega) h) ?_
  rintro v S3 ⟨r4, rfl, h⟩
  show jLf (jCall jmt jbud d) jbud (fun j => (jmt j).rk) none mX12_guard (jqI Q) (6, [some (.ref this), some (.int p1), some (.int p2), some (.int p3), some (.int p4), none, none, none, none, none], [.int r4], S3, 0, 0)
  refine jLf.two hc _ rfl (gs := []) (p1 := r4 = 0) (p2 := ¬ (r4 = 0)) (c1 := (25, [some (.ref this), some (.int p1), some (.int p2), some (.int p3), some (.int p4), none, none, none, none, none], [], S3, 0, 0)) (c2 := (7, [some (.ref this), some (.int p1), some (.int p2), some (.int p3), some (.int p4), none, none, none, none, none], [], S3, 0, 0)) rfl trivial (fun hz => ?_) (fun hz => ?_)
  · have h := h.1 hz
    refine jLf.bk hc 1 [] [some (.ref this), some (.int p1), some (.int p2), some (.int p3), some (.int p4), none, none, none, none, none] [.int (-1)] S3 rfl rfl rfl trivial ?_
    exact jLf.ret hc _ rfl (gs := [True]) (v := some (.int (-1))) rfl trivial ⟨(-1), rfl, h⟩
  · have h := h.2 hz
    refine jLf.bk hc 1 [] [some (.ref this), some (.int p1), some (.int p2), some (.int p3), some (.int p4), none, none, none, none, none] [.int p2] S3 rfl rfl rfl trivial ?_
    refine jLf.inv hc _ rfl (gs := [1 ≤ ([.int p2] : List Value).length, (([] : List Value).map fun v => v.category).sum ≤ 8, 0 ≤ 0, 0 ≤ 0]) (k := 156) (args := [.int p2]) (r := []) (a := 0) (b := 0) rfl ⟨Nat.le_of_ble_eq_true rfl, Nat.le_of_ble_eq_true rfl, Nat.zero_le _, Nat.zero_le _⟩ (vX12_isNight d (by omega) h) ?_
    rintro v S6 ⟨r7, rfl, h⟩
    show jLf (jCall jmt jbud d) jbud (fun j => (jmt j).rk) none mX12_guard (jqI Q) (9, [some (.ref this), some (.int p1), some (.int p2), some (.int p3), some (.int p4), none, none, none, none, none], [.int r7], S6, 0, 0)
    refine jLf.two hc _ rfl (gs := []) (p1 := r7 = 0) (p2 := ¬ (r7 = 0)) (c1 := (25, [some (.ref this), some (.int p1), some (.int p2), some (.int p3), some (.int p4), none, none, none, none, none], [], S6, 0, 0)) (c2 := (10, [some (.ref this), some (.int p1), some (.int p2), some (.int p3), some (.int p4), none, none, none, none, none], [], S6, 0, 0)) rfl trivial (fun hz => ?_) (fun hz => ?_)
    · have h := h.1 hz
      refine jLf.bk hc 1 [] [some (.ref this), some (.int p1), some (.int p2), some (.int p3), some (.int p4), none, none, none, none, none] [.int (-1)] S6 rfl rfl rfl trivial ?_
      exact jLf.ret hc _ rfl (gs := [True]) (v := some (.int (-1))) rfl trivial ⟨(-1), rfl, h⟩
    · have h := h.2 hz
      refine jLf.bk hc 1 [] [some (.ref this), some (.int p1), some (.int p2), some (.int p3), some (.int p4), none, none, none, none, none] [.int p3] S6 rfl rfl rfl trivial ?_
      refine jLf.inv hc _ rfl (gs := [1 ≤ ([.int p3] : List Value).length, (([] : List Value).map fun v => v.category).sum ≤ 8, 0 ≤ 0, 0 ≤ 0]) (k := 156) (args := [.int p3]) (r := []) (a := 0) (b := 0) rfl ⟨Nat.le_of_ble_eq_true rfl, Nat.le_of_ble_eq_true rfl, Nat.zero_le _, Nat.zero_le _⟩ (vX12_isNight d (by omega) h) ?_
      rintro v S8 ⟨r9, rfl, h⟩
      show jLf (jCall jmt jbud d) jbud (fun j => (jmt j).rk) none mX12_guard (jqI Q) (12, [some (.ref this), some (.int p1), some (.int p2), some (.int p3), some (.int p4), none, none, none, none, none], [.int r9], S8, 0, 0)
      refine jLf.two hc _ rfl (gs := []) (p1 := r9 = 0) (p2 := ¬ (r9 = 0)) (c1 := (25, [some (.ref this), some (.int p1), some (.int p2), some (.int p3), some (.int p4), none, none, none, none, none], [], S8, 0, 0)) (c2 := (13, [some (.ref this), some (.int p1), some (.int p2), some (.int p3), some (.int p4), none, none, none, none, none], [], S8, 0, 0)) rfl trivial (fun hz => ?_) (fun hz => ?_)
      · have h := h.1 hz
        refine jLf.bk hc 1 [] [some (.ref this), some (.int p1), some (.int p2), some (.int p3), some (.int p4), none, none, none, none, none] [.int (-1)] S8 rfl rfl rfl trivial ?_
        exact jLf.ret hc _ rfl (gs := [True]) (v := some (.int (-1))) rfl trivial ⟨(-1), rfl, h⟩
      · have h := h.2 hz
        refine jLf.bk hc 2 [] [some (.ref this), some (.int p1), some (.int p2), some (.int p3), some (.int p4), none, none, none, none, none] [.int p3, .int p2] S8 rfl rfl rfl trivial ?_
        refine jLf.two hc _ rfl (gs := []) (p1 := p3 < p2) (p2 := ¬ (p3 < p2)) (c1 := (25, [some (.ref this), some (.int p1), some (.int p2), some (.int p3), some (.int p4), none, none, none, none, none], [], S8, 0, 0)) (c2 := (16, [some (.ref this), some (.int p1), some (.int p2), some (.int p3), some (.int p4), none, none, none, none, none], [], S8, 0, 0)) rfl trivial (fun hz => ?_) (fun hz => ?_)
        · have h := h.1 hz
          refine jLf.bk hc 1 [] [some (.ref this), some (.int p1), some (.int p2), some (.int p3), some (.int p4), none, none, none, none, none] [.int (-1)] S8 rfl rfl rfl trivial ?_
          exact jLf.ret hc _ rfl (gs := [True]) (v := some (.int (-1))) rfl trivial ⟨(-1), rfl, h⟩
        · have h := h.2 hz
          refine jLf.bk hc 7 [] [some (.ref this), some (.int p1), some (.int p2), some (.int p3), some (.int p4), none, none, none, none, none] [.long ((p3 - p2).toInt64), .long (-1), .long (p4.toInt64)] S8 rfl rfl rfl trivial ?_
          refine jLf.inv hc _ rfl (gs := [3 ≤ ([.long ((p3 - p2).toInt64), .long (-1), .long (p4.toInt64)] : List Value).length, (([] : List Value).map fun v => v.category).sum ≤ 8, 0 ≤ 0, 0 ≤ 0]) (k := 148) (args := [.long (p4.toInt64), .long (-1), .long ((p3 - p2).toInt64)]) (r := []) (a := 0) (b := 0) rfl ⟨Nat.le_of_ble_eq_true rfl, Nat.le_of_ble_eq_true rfl, Nat.zero_le _, Nat.zero_le _⟩ (vX12_in d (by omega) h) ?_
          rintro v S10 ⟨r11, rfl, h⟩
          show jLf (jCall jmt jbud d) jbud (fun j => (jmt j).rk) none mX12_guard (jqI Q) (24, [some (.ref this), some (.int p1), some (.int p2), some (.int p3), some (.int p4), none, none, none, none, none], [.int r11], S10, 0, 0)
          refine jLf.two hc _ rfl (gs := []) (p1 := ¬ r11 = 0) (p2 := ¬ (¬ r11 = 0)) (c1 := (27, [some (.ref this), some (.int p1), some (.int p2), some (.int p3), some (.int p4), none, none, none, none, none], [], S10, 0, 0)) (c2 := (25, [some (.ref this), some (.int p1), some (.int p2), some (.int p3), some (.int p4), none, none, none, none, none], [], S10, 0, 0)) rfl trivial (fun hz => ?_) (fun hz => ?_)
          · have h := h.1 hz
            refine jLf.bk hc 1 [] [some (.ref this), some (.int p1), some (.int p2), some (.int p3), some (.int p4), none, none, none, none, none] [.ref this] S10 rfl rfl rfl trivial ?_
            obtain ⟨g14, h⟩ := h
            refine jLf.inv hc _ rfl (gs := [jA S10 this 12, (([] : List Value).map fun v => v.category).sum ≤ 8, 0 ≤ 0, 0 ≤ 0]) (k := 210) (args := [.ref this]) (r := []) (a := 0) (b := 0) rfl ⟨g14, Nat.le_of_ble_eq_true rfl, Nat.zero_le _, Nat.zero_le _⟩ (vX12_layOut d (by omega) h) ?_
            rintro v S12 ⟨rfl, h⟩
            show jLf (jCall jmt jbud d) jbud (fun j => (jmt j).rk) none mX12_guard (jqI Q) (29, [some (.ref this), some (.int p1), some (.int p2), some (.int p3), some (.int p4), none, none, none, none, none], [], S12, 0, 0)
            refine jLf.bk hc 2 [] [some (.ref this), some (.int p1), some (.int p2), some (.int p3), some (.int p4), some (.int p3), none, none, none, none] [] S12 rfl rfl rfl trivial ?_
            exact tX12_guard_31 d hd  h
          · have h := h.2 (Classical.not_not.mp hz)
            refine jLf.bk hc 1 [] [some (.ref this), some (.int p1), some (.int p2), some (.int p3), some (.int p4), none, none, none, none, none] [.int (-1)] S10 rfl rfl rfl trivial ?_
            exact jLf.ret hc _ rfl (gs := [True]) (v := some (.int (-1))) rfl trivial ⟨(-1), rfl, h⟩
def wX12_sea_22   (l0 : Nat) (S : JS) (Q : Int32 → JS → Prop) : Prop :=
  jA S l0 12 ∧ (wX12_tell l0 (-1) S (fun r6 S5 => Q r6 S5))
set_option maxRecDepth 20000 in
theorem tX12_sea_22 {Q : Int32 → JS → Prop}  (d : Nat) (hd : 1 ≤ d) {l0 : Nat} {S : JS} (h : wX12_sea_22 l0 S Q) : jLf (jCall jmt jbud d) jbud (fun j => (jmt j).rk) none mX12_sea (jqI Q) (22, [some (.ref l0), none, none], [], S, 0, 0) := by
  have hc := jCall_mono jmt jbud d
  unfold wX12_sea_22 at h
  refine jLf.bk hc 2 [] [some (.ref l0), none, none] [.int (-1), .ref l0] S rfl rfl rfl trivial ?_
  obtain ⟨g7, h⟩ := h
  refine jLf.inv hc _ rfl (gs := [jA S l0 12, (([] : List Value).map fun v => v.category).sum ≤ 8, 0 ≤ 0, 0 ≤ 0]) (k := 150) (args := [.ref l0, .int (-1)]) (r := []) (a := 0) (b := 0) rfl ⟨g7, Nat.le_of_ble_eq_true rfl, Nat.zero_le _, Nat.zero_le _⟩ (vX12_tell d (by omega) h) ?_
  rintro v S5 ⟨r6, rfl, h⟩
  show jLf (jCall jmt jbud d) jbud (fun j => (jmt j).rk) none mX12_sea (jqI Q) (25, [some (.ref l0), none, none], [.int r6], S5, 0, 0)
  exact jLf.ret hc _ rfl (gs := [True]) (v := some (.int r6)) rfl trivial ⟨r6, rfl, h⟩
def wX12_sea  (this : Nat) (p1 : Int32) (p2 : Int32) (S : JS) (Q : Int32 → JS → Prop) : Prop :=
  jA S this 12 ∧ (∀ S2 : JS, S2 = uI S this 0 0 → (wX12_in (p1.toInt64) 0 11 S2 (fun r4 S3 => (r4 = 0 → wX12_sea_22 this S3 Q) ∧ (¬ r4 = 0 → wX12_in (p2.toInt64) 0 99 S3 (fun r9 S8 => (r9 = 0 → wX12_sea_22 this S8 Q) ∧ (¬ r9 = 0 → jA S8 this 12 ∧ (wX12_change this ((188 : Int32) + p1) p2 S8 (fun r11 S10 => Q r11 S10))))))))
set_option maxRecDepth 20000 in
theorem vX12_sea {Q : Int32 → JS → Prop} (d : Nat) (hd : 2 ≤ d) {this : Nat} {p1 : Int32} {p2 : Int32} {S : JS} (h : wX12_sea this p1 p2 S Q) : jCall jmt jbud d 225 [.ref this, .int p1, .int p2] S (jqI Q) := by
  obtain ⟨d, rfl⟩ : ∃ d2, d = d2 + 1 := ⟨d - 1, by omega⟩
  have hd : 1 ≤ d := by omega
  have hc := jCall_mono jmt jbud d
  unfold wX12_sea at h
  refine ⟨Nat.le_of_ble_eq_true rfl, ?_⟩
  show jLf (jCall jmt jbud d) jbud (fun j => (jmt j).rk) none mX12_sea (jqI Q) (0, [some (.ref this), some (.int p1), some (.int p2)], [], S, 0, 0)
  obtain ⟨g1, h⟩ := h
  refine jLf.bk hc 3 [jA S this 12] [some (.ref this), some (.int p1), some (.int p2)] [] (uI S this 0 0) rfl rfl rfl g1 ?_
  generalize eS2 : uI S this 0 0 = S2
  have h := h S2 eS2.symm
  refine jLf.bk hc 4 [] [some (.ref this), some (.int p1), some (.int p2)] [.long 11, .long 0, .long (p1.toInt64)] S2 rfl rfl rfl trivial ?_
  refine jLf.inv hc _ rfl (gs := [3 ≤ ([.long 11, .long 0, .long (p1.toInt64)] : List Value).length, (([] : List Value).map fun v => v.category).sum ≤ 8, 0 ≤ 0, 0 ≤ 0]) (k := 148) (args := [.long (p1.toInt64), .long 0, .long 11]) (r := []) (a := 0) (b := 0) rfl ⟨Nat.le_of_ble_eq_true rfl, Nat.le_of_ble_eq_true rfl, Nat.zero_le _, Nat.zero_le _⟩ (vX12_in d (by omega) h) ?_
  rintro v S3 ⟨r4, rfl, h⟩
  show jLf (jCall jmt jbud d) jbud (fun j => (jmt j).rk) none mX12_sea (jqI Q) (8, [some (.ref this), some (.int p1), some (.int p2)], [.int r4], S3, 0, 0)
  refine jLf.two hc _ rfl (gs := []) (p1 := r4 = 0) (p2 := ¬ (r4 = 0)) (c1 := (22, [some (.ref this), some (.int p1), some (.int p2)], [], S3, 0, 0)) (c2 := (9, [some (.ref this), some (.int p1), some (.int p2)], [], S3, 0, 0)) rfl trivial (fun hz => ?_) (fun hz => ?_)
  · have h := h.1 hz
    refine jLf.sub [some (.ref this), none, none] (jle_same (jle_none (jle_none (jle_nil _)))) ?_
    exact tX12_sea_22 d hd  h
  · have h := h.2 hz
    refine jLf.bk hc 4 [] [some (.ref this), some (.int p1), some (.int p2)] [.long 99, .long 0, .long (p2.toInt64)] S3 rfl rfl rfl trivial ?_
    refine jLf.inv hc _ rfl (gs := [3 ≤ ([.long 99, .long 0, .long (p2.toInt64)] : List Value).length, (([] : List Value).map fun v => v.category).sum ≤ 8, 0 ≤ 0, 0 ≤ 0]) (k := 148) (args := [.long (p2.toInt64), .long 0, .long 99]) (r := []) (a := 0) (b := 0) rfl ⟨Nat.le_of_ble_eq_true rfl, Nat.le_of_ble_eq_true rfl, Nat.zero_le _, Nat.zero_le _⟩ (vX12_in d (by omega) h) ?_
    rintro v S8 ⟨r9, rfl, h⟩
    show jLf (jCall jmt jbud d) jbud (fun j => (jmt j).rk) none mX12_sea (jqI Q) (14, [some (.ref this), some (.int p1), some (.int p2)], [.int r9], S8, 0, 0)
    refine jLf.two hc _ rfl (gs := []) (p1 := r9 = 0) (p2 := ¬ (r9 = 0)) (c1 := (22, [some (.ref this), some (.int p1), some (.int p2)], [], S8, 0, 0)) (c2 := (15, [some (.ref this), some (.int p1), some (.int p2)], [], S8, 0, 0)) rfl trivial (fun hz => ?_) (fun hz => ?_)
    · have h := h.1 hz
      refine jLf.sub [some (.ref this), none, none] (jle_same (jle_none (jle_none (jle_nil _)))) ?_
      exact tX12_sea_22 d hd  h
    · have h := h.2 hz
      refine jLf.bk hc 5 [] [some (.ref this), some (.int p1), some (.int p2)] [.int p2, .int ((188 : Int32) + p1), .ref this] S8 rfl rfl rfl trivial ?_
      obtain ⟨g12, h⟩ := h
      refine jLf.inv hc _ rfl (gs := [jA S8 this 12, (([] : List Value).map fun v => v.category).sum ≤ 8, 0 ≤ 0, 0 ≤ 0]) (k := 151) (args := [.ref this, .int ((188 : Int32) + p1), .int p2]) (r := []) (a := 0) (b := 0) rfl ⟨g12, Nat.le_of_ble_eq_true rfl, Nat.zero_le _, Nat.zero_le _⟩ (vX12_change d (by omega) h) ?_
      rintro v S10 ⟨r11, rfl, h⟩
      show jLf (jCall jmt jbud d) jbud (fun j => (jmt j).rk) none mX12_sea (jqI Q) (21, [some (.ref this), some (.int p1), some (.int p2)], [.int r11], S10, 0, 0)
      refine jLf.one hc _ rfl (gs := []) (c := (25, [some (.ref this), some (.int p1), some (.int p2)], [.int r11], S10, 0, 0)) rfl trivial ?_
      exact jLf.ret hc _ rfl (gs := [True]) (v := some (.int r11)) rfl trivial ⟨r11, rfl, h⟩
def wX12_search_107  (X84 : Nat → Int32 → Int32 → Int64 → Int64 → Int64 → Int32 → Int32 → JS → Prop) (X91 : Nat → Int32 → Int32 → Int64 → Int64 → Int64 → Int32 → Int32 → Int32 → JS → Prop) (l0 : Nat) (l1 : Int32) (l2 : Int32) (l3 : Int64) (l5 : Int64) (l7 : Int64) (l10 : Int32) (l11 : Int32) (s0 : Int32) (S : JS) (Q : Int64 → JS → Prop) : Prop :=
  ∀ x24 : Int32, x24 = (l11 + 1) → (X91 l0 l1 l2 l3 l5 l7 s0 l10 x24 S)
set_option maxRecDepth 20000 in
theorem tX12_search_107 {Q : Int64 → JS → Prop} {X84 : Nat → Int32 → Int32 → Int64 → Int64 → Int64 → Int32 → Int32 → JS → Prop} {X91 : Nat → Int32 → Int32 → Int64 → Int64 → Int64 → Int32 → Int32 → Int32 → JS → Prop} (d : Nat) (hd : 1 ≤ d) (hX84 : ∀ l0 l1 l2 l3 l5 l7 l9 l10 S, X84 l0 l1 l2 l3 l5 l7 l9 l10 S → jLf (jCall jmt jbud d) jbud (fun j => (jmt j).rk) none mX12_search (jqL Q) (84, [some (.ref l0), some (.int l1), some (.int l2), some (.long l3), none, some (.long l5), none, some (.long l7), none, some (.int l9), some (.int l10), none, none], [], S, 0, 0)) (hX91 : ∀ l0 l1 l2 l3 l5 l7 l9 l10 l11 S, X91 l0 l1 l2 l3 l5 l7 l9 l10 l11 S → jLf (jCall jmt jbud d) jbud (fun j => (jmt j).rk) none mX12_search (jqL Q) (91, [some (.ref l0), some (.int l1), some (.int l2), some (.long l3), none, some (.long l5), none, some (.long l7), none, some (.int l9), some (.int l10), some (.int l11), none], [], S, 0, 0)) {l0 : Nat} {l1 : Int32} {l2 : Int32} {l3 : Int64} {l5 : Int64} {l7 : Int64} {l10 : Int32} {l11 : Int32} {s0 : Int32} {S : JS} (h : wX12_search_107 X84 X91 l0 l1 l2 l3 l5 l7 l10 l11 s0 S Q) : jLf (jCall jmt jbud d) jbud (fun j => (jmt j).rk) none mX12_search (jqL Q) (107, [some (.ref l0), some (.int l1), some (.int l2), some (.long l3), none, some (.long l5), none, some (.long l7), none, none, some (.int l10), some (.int l11), none], [.int s0], S, 0, 0) := by
  have hc := jCall_mono jmt jbud d
  unfold wX12_search_107 at h
  refine jLf.bk hc 2 [] [some (.ref l0), some (.int l1), some (.int l2), some (.long l3), none, some (.long l5), none, some (.long l7), none, some (.int s0), some (.int l10), some (.int (l11 + 1)), none] [] S rfl rfl rfl trivial ?_
  generalize ex24 : (l11 + 1 : Int32) = x24
  have h := h x24 ex24.symm
  refine jLf.one hc _ rfl (gs := []) (c := (91, [some (.ref l0), some (.int l1), some (.int l2), some (.long l3), none, some (.long l5), none, some (.long l7), none, some (.int s0), some (.int l10), some (.int x24), none], [], S, 0, 0)) rfl trivial ?_
  exact hX91 _ _ _ _ _ _ _ _ _ _ h
def bX12_search_91  (X84 : Nat → Int32 → Int32 → Int64 → Int64 → Int64 → Int32 → Int32 → JS → Prop) (X91 : Nat → Int32 → Int32 → Int64 → Int64 → Int64 → Int32 → Int32 → Int32 → JS → Prop) (l0 : Nat) (l1 : Int32) (l2 : Int32) (l3 : Int64) (l5 : Int64) (l7 : Int64) (l9 : Int32) (l10 : Int32) (l11 : Int32) (S : JS) (Q : Int64 → JS → Prop) : Prop :=
  (12 ≤ l11 → jA S l0 12 ∧ (¬ jR S l0 40 = none ∧ (jA S (jr S l0 40) 14 ∧ (vp_in l9 (jZ S (jr S l0 40)) ∧ (¬ (100 : Int64) = 0 ∧ (¬ jR S l0 3 = none ∧ (jA S (jr S l0 3) 13 ∧ (vp_in (2 : Int32) (jZ S (jr S l0 3)) ∧ (∀ x15 : Int64, x15 = (((jJ S (jr S l0 40) l9.toNatClampNeg) / (100 : Int64)) * ((jI S (jr S l0 3) (2 : Int32).toNatClampNeg).toInt64)) → (∀ x16 : Int64, x16 = (l7 + x15) → (∀ S17 : JS, S17 = uJ S (jr S l0 40) l9.toNatClampNeg ((jJ S (jr S l0 40) l9.toNatClampNeg) - x15) → (∀ x18 : Int32, x18 = (l10 + 1) → (X84 l0 l1 l2 l3 l5 x16 l9 x18 S17))))))))))))) ∧ (¬ (12 ≤ l11) → jA S l0 12 ∧ (¬ jR S l0 40 = none ∧ (jA S (jr S l0 40) 14 ∧ (vp_in l11 (jZ S (jr S l0 40)) ∧ (vp_in l9 (jZ S (jr S l0 40)) ∧ (((lg_cmp (jJ S (jr S l0 40) l11.toNatClampNeg) (jJ S (jr S l0 40) l9.toNatClampNeg)) ≤ 0 → wX12_search_107 X84 X91 l0 l1 l2 l3 l5 l7 l10 l11 l9 S Q) ∧ (¬ ((lg_cmp (jJ S (jr S l0 40) l11.toNatClampNeg) (jJ S (jr S l0 40) l9.toNatClampNeg)) ≤ 0) → wX12_search_107 X84 X91 l0 l1 l2 l3 l5 l7 l10 l11 l11 S Q)))))))
set_option maxRecDepth 20000 in
theorem uX12_search_91 {Q : Int64 → JS → Prop} {X84 : Nat → Int32 → Int32 → Int64 → Int64 → Int64 → Int32 → Int32 → JS → Prop} (d : Nat) (hd : 1 ≤ d) (hX84 : ∀ l0 l1 l2 l3 l5 l7 l9 l10 S, X84 l0 l1 l2 l3 l5 l7 l9 l10 S → jLf (jCall jmt jbud d) jbud (fun j => (jmt j).rk) none mX12_search (jqL Q) (84, [some (.ref l0), some (.int l1), some (.int l2), some (.long l3), none, some (.long l5), none, some (.long l7), none, some (.int l9), some (.int l10), none, none], [], S, 0, 0)) {X91 : Nat → Int32 → Int32 → Int64 → Int64 → Int64 → Int32 → Int32 → Int32 → JS → Prop} (hX91 : ∀ l0 l1 l2 l3 l5 l7 l9 l10 l11 S, X91 l0 l1 l2 l3 l5 l7 l9 l10 l11 S → jLf (jCall jmt jbud d) jbud (fun j => (jmt j).rk) none mX12_search (jqL Q) (91, [some (.ref l0), some (.int l1), some (.int l2), some (.long l3), none, some (.long l5), none, some (.long l7), none, some (.int l9), some (.int l10), some (.int l11), none], [], S, 0, 0)) {l0 : Nat} {l1 : Int32} {l2 : Int32} {l3 : Int64} {l5 : Int64} {l7 : Int64} {l9 : Int32} {l10 : Int32} {l11 : Int32} {S : JS} (h : bX12_search_91 X84 X91 l0 l1 l2 l3 l5 l7 l9 l10 l11 S Q) : jLf (jCall jmt jbud d) jbud (fun j => (jmt j).rk) none mX12_search (jqL Q) (91, [some (.ref l0), some (.int l1), some (.int l2), some (.long l3), none, some (.long l5), none, some (.long l7), none, some (.int l9), some (.int l10), some (.int l11), none], [], S, 0, 0) := by
  have hc := jCall_mono jmt jbud d
  unfold bX12_search_91 at h
  refine jLf.bk hc 2 [] [some (.ref l0), some (.int l1), some (.int l2), some (.long l3), none, some (.long l5), none, some (.long l7), none, some (.int l9), some (.int l10), some (.int l11), none] [.int 12, .int l11] S rfl rfl rfl trivial ?_
  refine jLf.two hc _ rfl (gs := []) (p1 := 12 ≤ l11) (p2 := ¬ (12 ≤ l11)) (c1 := (110, [some (.ref l0), some (.int l1), some (.int l2), some (.long l3), none, some (.long l5), none, some (.long l7), none, some (.int l9), some (.int l10), some (.int l11), none], [], S, 0, 0)) (c2 := (94, [some (.ref l0), some (.int l1), some (.int l2), some (.long l3), none, some (.long l5), none, some (.long l7), none, some (.int l9), some (.int l10), some (.int l11), none], [], S, 0, 0)) rfl trivial (fun hz => ?_) (fun hz => ?_)
  · have h := h.1 hz
    obtain ⟨g7, g8, g9, g10, g11, g12, g13, g14, h⟩ := h
    refine jLf.bk hc 13 [jA S l0 12, ¬ jR S l0 40 = none, jA S (jr S l0 40) 14, vp_in l9 (jZ S (jr S l0 40)), ¬ (100 : Int64) = 0, jA S l0 12, ¬ jR S l0 3 = none, jA S (jr S l0 3) 13, vp_in (2 : Int32) (jZ S (jr S l0 3))] [some (.ref l0), some (.int l1), some (.int l2), some (.long l3), none, some (.long l5), none, some (.long l7), none, some (.int l9), some (.int l10), some (.long (((jJ S (jr S l0 40) l9.toNatClampNeg) / (100 : Int64)) * ((jI S (jr S l0 3) (2 : Int32).toNatClampNeg).toInt64))), none] [] S rfl rfl rfl ⟨g7, g8, g9, g10, g11, g7, g12, g13, g14⟩ ?_
    generalize ex15 : (((jJ S (jr S l0 40) l9.toNatClampNeg) / (100 : Int64)) * ((jI S (jr S l0 3) (2 : Int32).toNatClampNeg).toInt64) : Int64) = x15
    have h := h x15 ex15.symm
    refine jLf.bk hc 4 [] [some (.ref l0), some (.int l1), some (.int l2), some (.long l3), none, some (.long l5), none, some (.long (l7 + x15)), none, some (.int l9), some (.int l10), some (.long x15), none] [] S rfl rfl rfl trivial ?_
    generalize ex16 : (l7 + x15 : Int64) = x16
    have h := h x16 ex16.symm
    refine jLf.bk hc 8 [jA S l0 12, ¬ jR S l0 40 = none, jA S (jr S l0 40) 14, vp_in l9 (jZ S (jr S l0 40)), jA S (jr S l0 40) 14, vp_in l9 (jZ S (jr S l0 40))] [some (.ref l0), some (.int l1), some (.int l2), some (.long l3), none, some (.long l5), none, some (.long x16), none, some (.int l9), some (.int l10), some (.long x15), none] [] (uJ S (jr S l0 40) l9.toNatClampNeg ((jJ S (jr S l0 40) l9.toNatClampNeg) - x15)) rfl rfl rfl ⟨g7, g8, g9, g10, g9, g10⟩ ?_
    generalize eS17 : uJ S (jr S l0 40) l9.toNatClampNeg ((jJ S (jr S l0 40) l9.toNatClampNeg) - x15) = S17
    have h := h S17 eS17.symm
    refine jLf.bk hc 1 [] [some (.ref l0), some (.int l1), some (.int l2), some (.long l3), none, some (.long l5), none, some (.long x16), none, some (.int l9), some (.int (l10 + 1)), some (.long x15), none] [] S17 rfl rfl rfl trivial ?_
    generalize ex18 : (l10 + 1 : Int32) = x18
    have h := h x18 ex18.symm
    refine jLf.one hc _ rfl (gs := []) (c := (84, [some (.ref l0), some (.int l1), some (.int l2), some (.long l3), none, some (.long l5), none, some (.long x16), none, some (.int l9), some (.int x18), some (.long x15), none], [], S17, 0, 0)) rfl trivial ?_
    refine jLf.sub [some (.ref l0), some (.int l1), some (.int l2), some (.long l3), none, some (.long l5), none, some (.long x16), none, some (.int l9), some (.int x18), none, none] (jle_same (jle_same (jle_same (jle_same (jle_same (jle_same (jle_same (jle_same (jle_same (jle_same (jle_same (jle_none (jle_same (jle_nil _)))))))))))))) ?_
    exact hX84 _ _ _ _ _ _ _ _ _ h
  · have h := h.2 hz
    obtain ⟨g19, g20, g21, g22, g23, h⟩ := h
    refine jLf.bk hc 9 [jA S l0 12, ¬ jR S l0 40 = none, jA S (jr S l0 40) 14, vp_in l11 (jZ S (jr S l0 40)), jA S l0 12, ¬ jR S l0 40 = none, jA S (jr S l0 40) 14, vp_in l9 (jZ S (jr S l0 40))] [some (.ref l0), some (.int l1), some (.int l2), some (.long l3), none, some (.long l5), none, some (.long l7), none, some (.int l9), some (.int l10), some (.int l11), none] [.int (lg_cmp (jJ S (jr S l0 40) l11.toNatClampNeg) (jJ S (jr S l0 40) l9.toNatClampNeg))] S rfl rfl rfl ⟨g19, g20, g21, g22, g19, g20, g21, g23⟩ ?_
    refine jLf.two hc _ rfl (gs := []) (p1 := (lg_cmp (jJ S (jr S l0 40) l11.toNatClampNeg) (jJ S (jr S l0 40) l9.toNatClampNeg)) ≤ 0) (p2 := ¬ ((lg_cmp (jJ S (jr S l0 40) l11.toNatClampNeg) (jJ S (jr S l0 40) l9.toNatClampNeg)) ≤ 0)) (c1 := (106, [some (.ref l0), some (.int l1), some (.int l2), some (.long l3), none, some (.long l5), none, some (.long l7), none, some (.int l9), some (.int l10), some (.int l11), none], [], S, 0, 0)) (c2 := (104, [some (.ref l0), some (.int l1), some (.int l2), some (.long l3), none, some (.long l5), none, some (.long l7), none, some (.int l9), some (.int l10), some (.int l11), none], [], S, 0, 0)) rfl trivial (fun hz => ?_) (fun hz => ?_)
    · have h := h.1 hz
      refine jLf.bk hc 1 [] [some (.ref l0), some (.int l1), some (.int l2), some (.long l3), none, some (.long l5), none, some (.long l7), none, some (.int l9), some (.int l10), some (.int l11), none] [.int l9] S rfl rfl rfl trivial ?_
      refine jLf.sub [some (.ref l0), some (.int l1), some (.int l2), some (.long l3), none, some (.long l5), none, some (.long l7), none, none, some (.int l10), some (.int l11), none] (jle_same (jle_same (jle_same (jle_same (jle_same (jle_same (jle_same (jle_same (jle_same (jle_none (jle_same (jle_same (jle_same (jle_nil _)))))))))))))) ?_
      exact tX12_search_107 d hd hX84 hX91 h
    · have h := h.2 hz
      refine jLf.bk hc 1 [] [some (.ref l0), some (.int l1), some (.int l2), some (.long l3), none, some (.long l5), none, some (.long l7), none, some (.int l9), some (.int l10), some (.int l11), none] [.int l11] S rfl rfl rfl trivial ?_
      refine jLf.one hc _ rfl (gs := []) (c := (107, [some (.ref l0), some (.int l1), some (.int l2), some (.long l3), none, some (.long l5), none, some (.long l7), none, some (.int l9), some (.int l10), some (.int l11), none], [.int l11], S, 0, 0)) rfl trivial ?_
      refine jLf.sub [some (.ref l0), some (.int l1), some (.int l2), some (.long l3), none, some (.long l5), none, some (.long l7), none, none, some (.int l10), some (.int l11), none] (jle_same (jle_same (jle_same (jle_same (jle_same (jle_same (jle_same (jle_same (jle_same (jle_none (jle_same (jle_same (jle_same (jle_nil _)))))))))))))) ?_
      exact tX12_search_107 d hd hX84 hX91 h
def wX12_search_91  (X84 : Nat → Int32 → Int32 → Int64 → Int64 → Int64 → Int32 → Int32 → JS → Prop) (l0 : Nat) (l1 : Int32) (l2 : Int32) (l3 : Int64) (l5 : Int64) (l7 : Int64) (l9 : Int32) (l10 : Int32) (l11 : Int32) (S : JS) (Q : Int64 → JS → Prop) : Prop :=
  jLoop (fun (X91 : Nat × Int32 × Int32 × Int64 × Int64 × Int64 × Int32 × Int32 × Int32 × JS → Prop) q => bX12_search_91 X84 (fun l0 l1 l2 l3 l5 l7 l9 l10 l11 S => X91 (l0, l1, l2, l3, l5, l7, l9, l10, l11, S)) q.1 q.2.1 q.2.2.1 q.2.2.2.1 q.2.2.2.2.1 q.2.2.2.2.2.1 q.2.2.2.2.2.2.1 q.2.2.2.2.2.2.2.1 q.2.2.2.2.2.2.2.2.1 q.2.2.2.2.2.2.2.2.2 Q) (l0, l1, l2, l3, l5, l7, l9, l10, l11, S)
set_option maxRecDepth 20000 in
theorem tX12_search_91 {Q : Int64 → JS → Prop} {X84 : Nat → Int32 → Int32 → Int64 → Int64 → Int64 → Int32 → Int32 → JS → Prop} (d : Nat) (hd : 1 ≤ d) (hX84 : ∀ l0 l1 l2 l3 l5 l7 l9 l10 S, X84 l0 l1 l2 l3 l5 l7 l9 l10 S → jLf (jCall jmt jbud d) jbud (fun j => (jmt j).rk) none mX12_search (jqL Q) (84, [some (.ref l0), some (.int l1), some (.int l2), some (.long l3), none, some (.long l5), none, some (.long l7), none, some (.int l9), some (.int l10), none, none], [], S, 0, 0)) {l0 : Nat} {l1 : Int32} {l2 : Int32} {l3 : Int64} {l5 : Int64} {l7 : Int64} {l9 : Int32} {l10 : Int32} {l11 : Int32} {S : JS} (h : wX12_search_91 X84 l0 l1 l2 l3 l5 l7 l9 l10 l11 S Q) : jLf (jCall jmt jbud d) jbud (fun j => (jmt j).rk) none mX12_search (jqL Q) (91, [some (.ref l0), some (.int l1), some (.int l2), some (.long l3), none, some (.long l5), none, some (.long l7), none, some (.int l9), some (.int l10), some (.int l11), none], [], S, 0, 0) := by
  have := h (fun q : Nat × Int32 × Int32 × Int64 × Int64 × Int64 × Int32 × Int32 × Int32 × JS => jLf (jCall jmt jbud d) jbud (fun j => (jmt j).rk) none mX12_search (jqL Q) (91, [some (.ref (q.1)), some (.int (q.2.1)), some (.int (q.2.2.1)), some (.long (q.2.2.2.1)), none, some (.long (q.2.2.2.2.1)), none, some (.long (q.2.2.2.2.2.1)), none, some (.int (q.2.2.2.2.2.2.1)), some (.int (q.2.2.2.2.2.2.2.1)), some (.int (q.2.2.2.2.2.2.2.2.1)), none], [], q.2.2.2.2.2.2.2.2.2, 0, 0)) (fun q R hb hR => uX12_search_91 d hd hX84 (fun _ _ _ _ _ _ _ _ _ _ => hR _) hb)
  exact this
def bX12_search_84   (X84 : Nat → Int32 → Int32 → Int64 → Int64 → Int64 → Int32 → Int32 → JS → Prop) (l0 : Nat) (l1 : Int32) (l2 : Int32) (l3 : Int64) (l5 : Int64) (l7 : Int64) (l9 : Int32) (l10 : Int32) (S : JS) (Q : Int64 → JS → Prop) : Prop :=
  (l1 ≤ l10 → (¬ l2 = 0 → (¬ l2 = 1 → Q (l9.toInt64) S) ∧ (l2 = 1 → Q (l3 * l5) S)) ∧ (l2 = 0 → Q l7 S)) ∧ (¬ (l1 ≤ l10) → wX12_search_91 X84 l0 l1 l2 l3 l5 l7 0 l10 1 S Q)
set_option maxRecDepth 20000 in
theorem uX12_search_84 {Q : Int64 → JS → Prop}  (d : Nat) (hd : 1 ≤ d) {X84 : Nat → Int32 → Int32 → Int64 → Int64 → Int64 → Int32 → Int32 → JS → Prop} (hX84 : ∀ l0 l1 l2 l3 l5 l7 l9 l10 S, X84 l0 l1 l2 l3 l5 l7 l9 l10 S → jLf (jCall jmt jbud d) jbud (fun j => (jmt j).rk) none mX12_search (jqL Q) (84, [some (.ref l0), some (.int l1), some (.int l2), some (.long l3), none, some (.long l5), none, some (.long l7), none, some (.int l9), some (.int l10), none, none], [], S, 0, 0)) {l0 : Nat} {l1 : Int32} {l2 : Int32} {l3 : Int64} {l5 : Int64} {l7 : Int64} {l9 : Int32} {l10 : Int32} {S : JS} (h : bX12_search_84 X84 l0 l1 l2 l3 l5 l7 l9 l10 S Q) : jLf (jCall jmt jbud d) jbud (fun j => (jmt j).rk) none mX12_search (jqL Q) (84, [some (.ref l0), some (.int l1), some (.int l2), some (.long l3), none, some (.long l5), none, some (.long l7), none, some (.int l9), some (.int l10), none, none], [], S, 0, 0) := by
  have hc := jCall_mono jmt jbud d
  unfold bX12_search_84 at h
  refine jLf.bk hc 2 [] [some (.ref l0), some (.int l1), some (.int l2), some (.long l3), none, some (.long l5), none, some (.long l7), none, some (.int l9), some (.int l10), none, none] [.int l1, .int l10] S rfl rfl rfl trivial ?_
  refine jLf.two hc _ rfl (gs := []) (p1 := l1 ≤ l10) (p2 := ¬ (l1 ≤ l10)) (c1 := (137, [some (.ref l0), some (.int l1), some (.int l2), some (.long l3), none, some (.long l5), none, some (.long l7), none, some (.int l9), some (.int l10), none, none], [], S, 0, 0)) (c2 := (87, [some (.ref l0), some (.int l1), some (.int l2), some (.long l3), none, some (.long l5), none, some (.long l7), none, some (.int l9), some (.int l10), none, none], [], S, 0, 0)) rfl trivial (fun hz => ?_) (fun hz => ?_)
  · have h := h.1 hz
    refine jLf.bk hc 1 [] [some (.ref l0), some (.int l1), some (.int l2), some (.long l3), none, some (.long l5), none, some (.long l7), none, some (.int l9), some (.int l10), none, none] [.int l2] S rfl rfl rfl trivial ?_
    refine jLf.two hc _ rfl (gs := []) (p1 := ¬ l2 = 0) (p2 := ¬ (¬ l2 = 0)) (c1 := (141, [some (.ref l0), some (.int l1), some (.int l2), some (.long l3), none, some (.long l5), none, some (.long l7), none, some (.int l9), some (.int l10), none, none], [], S, 0, 0)) (c2 := (139, [some (.ref l0), some (.int l1), some (.int l2), some (.long l3), none, some (.long l5), none, some (.long l7), none, some (.int l9), some (.int l10), none, none], [], S, 0, 0)) rfl trivial (fun hz => ?_) (fun hz => ?_)
    · have h := h.1 hz
      refine jLf.bk hc 2 [] [some (.ref l0), some (.int l1), some (.int l2), some (.long l3), none, some (.long l5), none, some (.long l7), none, some (.int l9), some (.int l10), none, none] [.int 1, .int l2] S rfl rfl rfl trivial ?_
      refine jLf.two hc _ rfl (gs := []) (p1 := ¬ l2 = 1) (p2 := ¬ (¬ l2 = 1)) (c1 := (148, [some (.ref l0), some (.int l1), some (.int l2), some (.long l3), none, some (.long l5), none, some (.long l7), none, some (.int l9), some (.int l10), none, none], [], S, 0, 0)) (c2 := (144, [some (.ref l0), some (.int l1), some (.int l2), some (.long l3), none, some (.long l5), none, some (.long l7), none, some (.int l9), some (.int l10), none, none], [], S, 0, 0)) rfl trivial (fun hz => ?_) (fun hz => ?_)
      · have h := h.1 hz
        refine jLf.bk hc 2 [] [some (.ref l0), some (.int l1), some (.int l2), some (.long l3), none, some (.long l5), none, some (.long l7), none, some (.int l9), some (.int l10), none, none] [.long (l9.toInt64)] S rfl rfl rfl trivial ?_
        exact jLf.ret hc _ rfl (gs := [True]) (v := some (.long (l9.toInt64))) rfl trivial ⟨l9.toInt64, rfl, h⟩
      · have h := h.2 (Classical.not_not.mp hz)
        refine jLf.bk hc 3 [] [some (.ref l0), some (.int l1), some (.int l2), some (.long l3), none, some (.long l5), none, some (.long l7), none, some (.int l9), some (.int l10), none, none] [.long (l3 * l5)] S rfl rfl rfl trivial ?_
        refine jLf.one hc _ rfl (gs := []) (c := (150, [some (.ref l0), some (.int l1), some (.int l2), some (.long l3), none, some (.long l5), none, some (.long l7), none, some (.int l9), some (.int l10), none, none], [.long (l3 * l5)], S, 0, 0)) rfl trivial ?_
        exact jLf.ret hc _ rfl (gs := [True]) (v := some (.long (l3 * l5))) rfl trivial ⟨l3 * l5, rfl, h⟩
    · have h := h.2 (Classical.not_not.mp hz)
      refine jLf.bk hc 1 [] [some (.ref l0), some (.int l1), some (.int l2), some (.long l3), none, some (.long l5), none, some (.long l7), none, some (.int l9), some (.int l10), none, none] [.long l7] S rfl rfl rfl trivial ?_
      refine jLf.one hc _ rfl (gs := []) (c := (150, [some (.ref l0), some (.int l1), some (.int l2), some (.long l3), none, some (.long l5), none, some (.long l7), none, some (.int l9), some (.int l10), none, none], [.long l7], S, 0, 0)) rfl trivial ?_
      exact jLf.ret hc _ rfl (gs := [True]) (v := some (.long l7)) rfl trivial ⟨l7, rfl, h⟩
  · have h := h.2 hz
    refine jLf.bk hc 4 [] [some (.ref l0), some (.int l1), some (.int l2), some (.long l3), none, some (.long l5), none, some (.long l7), none, some (.int 0), some (.int l10), some (.int 1), none] [] S rfl rfl rfl trivial ?_
    exact tX12_search_91 d hd hX84 h
def wX12_search_84   (l0 : Nat) (l1 : Int32) (l2 : Int32) (l3 : Int64) (l5 : Int64) (l7 : Int64) (l9 : Int32) (l10 : Int32) (S : JS) (Q : Int64 → JS → Prop) : Prop :=
  jLoop (fun (X84 : Nat × Int32 × Int32 × Int64 × Int64 × Int64 × Int32 × Int32 × JS → Prop) q => bX12_search_84 (fun l0 l1 l2 l3 l5 l7 l9 l10 S => X84 (l0, l1, l2, l3, l5, l7, l9, l10, S)) q.1 q.2.1 q.2.2.1 q.2.2.2.1 q.2.2.2.2.1 q.2.2.2.2.2.1 q.2.2.2.2.2.2.1 q.2.2.2.2.2.2.2.1 q.2.2.2.2.2.2.2.2 Q) (l0, l1, l2, l3, l5, l7, l9, l10, S)
set_option maxRecDepth 20000 in
theorem tX12_search_84 {Q : Int64 → JS → Prop}  (d : Nat) (hd : 1 ≤ d) {l0 : Nat} {l1 : Int32} {l2 : Int32} {l3 : Int64} {l5 : Int64} {l7 : Int64} {l9 : Int32} {l10 : Int32} {S : JS} (h : wX12_search_84 l0 l1 l2 l3 l5 l7 l9 l10 S Q) : jLf (jCall jmt jbud d) jbud (fun j => (jmt j).rk) none mX12_search (jqL Q) (84, [some (.ref l0), some (.int l1), some (.int l2), some (.long l3), none, some (.long l5), none, some (.long l7), none, some (.int l9), some (.int l10), none, none], [], S, 0, 0) := by
  have := h (fun q : Nat × Int32 × Int32 × Int64 × Int64 × Int64 × Int32 × Int32 × JS => jLf (jCall jmt jbud d) jbud (fun j => (jmt j).rk) none mX12_search (jqL Q) (84, [some (.ref (q.1)), some (.int (q.2.1)), some (.int (q.2.2.1)), some (.long (q.2.2.2.1)), none, some (.long (q.2.2.2.2.1)), none, some (.long (q.2.2.2.2.2.1)), none, some (.int (q.2.2.2.2.2.2.1)), some (.int (q.2.2.2.2.2.2.2.1)), none, none], [], q.2.2.2.2.2.2.2.2, 0, 0)) (fun q R hb hR => uX12_search_84 d hd  (fun _ _ _ _ _ _ _ _ _ => hR _) hb)
  exact this
def bX12_search_60   (X60 : Nat → Int32 → Int32 → Int64 → Int64 → Int32 → JS → Prop) (l0 : Nat) (l1 : Int32) (l2 : Int32) (l3 : Int64) (l5 : Int64) (l7 : Int32) (S : JS) (Q : Int64 → JS → Prop) : Prop :=
  (12 ≤ l7 → wX12_search_84 l0 l1 l2 l3 l5 0 (-1) 0 S Q) ∧ (¬ (12 ≤ l7) → jA S l0 12 ∧ (¬ jR S l0 40 = none ∧ (¬ jR S l0 3 = none ∧ (jA S (jr S l0 3) 13 ∧ (vp_in ((188 : Int32) + l7) (jZ S (jr S l0 3)) ∧ (jA S (jr S l0 40) 14 ∧ (vp_in l7 (jZ S (jr S l0 40)) ∧ (∀ S32 : JS, S32 = uJ S (jr S l0 40) l7.toNatClampNeg (((jI S (jr S l0 3) ((188 : Int32) + l7).toNatClampNeg).toInt64) * l5) → (∀ x33 : Int32, x33 = (l7 + 1) → (X60 l0 l1 l2 l3 l5 x33 S32))))))))))
set_option maxRecDepth 20000 in
theorem uX12_search_60 {Q : Int64 → JS → Prop}  (d : Nat) (hd : 1 ≤ d) {X60 : Nat → Int32 → Int32 → Int64 → Int64 → Int32 → JS → Prop} (hX60 : ∀ l0 l1 l2 l3 l5 l7 S, X60 l0 l1 l2 l3 l5 l7 S → jLf (jCall jmt jbud d) jbud (fun j => (jmt j).rk) none mX12_search (jqL Q) (60, [some (.ref l0), some (.int l1), some (.int l2), some (.long l3), none, some (.long l5), none, some (.int l7), none, none, none, none, none], [], S, 0, 0)) {l0 : Nat} {l1 : Int32} {l2 : Int32} {l3 : Int64} {l5 : Int64} {l7 : Int32} {S : JS} (h : bX12_search_60 X60 l0 l1 l2 l3 l5 l7 S Q) : jLf (jCall jmt jbud d) jbud (fun j => (jmt j).rk) none mX12_search (jqL Q) (60, [some (.ref l0), some (.int l1), some (.int l2), some (.long l3), none, some (.long l5), none, some (.int l7), none, none, none, none, none], [], S, 0, 0) := by
  have hc := jCall_mono jmt jbud d
  unfold bX12_search_60 at h
  refine jLf.bk hc 2 [] [some (.ref l0), some (.int l1), some (.int l2), some (.long l3), none, some (.long l5), none, some (.int l7), none, none, none, none, none] [.int 12, .int l7] S rfl rfl rfl trivial ?_
  refine jLf.two hc _ rfl (gs := []) (p1 := 12 ≤ l7) (p2 := ¬ (12 ≤ l7)) (c1 := (78, [some (.ref l0), some (.int l1), some (.int l2), some (.long l3), none, some (.long l5), none, some (.int l7), none, none, none, none, none], [], S, 0, 0)) (c2 := (63, [some (.ref l0), some (.int l1), some (.int l2), some (.long l3), none, some (.long l5), none, some (.int l7), none, none, none, none, none], [], S, 0, 0)) rfl trivial (fun hz => ?_) (fun hz => ?_)
  · have h := h.1 hz
    refine jLf.bk hc 6 [] [some (.ref l0), some (.int l1), some (.int l2), some (.long l3), none, some (.long l5), none, some (.long 0), none, some (.int (-1)), some (.int 0), none, none] [] S rfl rfl rfl trivial ?_
    exact tX12_search_84 d hd  h
  · have h := h.2 hz
    obtain ⟨g25, g26, g27, g28, g29, g30, g31, h⟩ := h
    refine jLf.bk hc 13 [jA S l0 12, ¬ jR S l0 40 = none, jA S l0 12, ¬ jR S l0 3 = none, jA S (jr S l0 3) 13, vp_in ((188 : Int32) + l7) (jZ S (jr S l0 3)), jA S (jr S l0 40) 14, vp_in l7 (jZ S (jr S l0 40))] [some (.ref l0), some (.int l1), some (.int l2), some (.long l3), none, some (.long l5), none, some (.int l7), none, none, none, none, none] [] (uJ S (jr S l0 40) l7.toNatClampNeg (((jI S (jr S l0 3) ((188 : Int32) + l7).toNatClampNeg).toInt64) * l5)) rfl rfl rfl ⟨g25, g26, g25, g27, g28, g29, g30, g31⟩ ?_
    generalize eS32 : uJ S (jr S l0 40) l7.toNatClampNeg (((jI S (jr S l0 3) ((188 : Int32) + l7).toNatClampNeg).toInt64) * l5) = S32
    have h := h S32 eS32.symm
    refine jLf.bk hc 1 [] [some (.ref l0), some (.int l1), some (.int l2), some (.long l3), none, some (.long l5), none, some (.int (l7 + 1)), none, none, none, none, none] [] S32 rfl rfl rfl trivial ?_
    generalize ex33 : (l7 + 1 : Int32) = x33
    have h := h x33 ex33.symm
    refine jLf.one hc _ rfl (gs := []) (c := (60, [some (.ref l0), some (.int l1), some (.int l2), some (.long l3), none, some (.long l5), none, some (.int x33), none, none, none, none, none], [], S32, 0, 0)) rfl trivial ?_
    exact hX60 _ _ _ _ _ _ _ h
def wX12_search_60   (l0 : Nat) (l1 : Int32) (l2 : Int32) (l3 : Int64) (l5 : Int64) (l7 : Int32) (S : JS) (Q : Int64 → JS → Prop) : Prop :=
  jLoop (fun (X60 : Nat × Int32 × Int32 × Int64 × Int64 × Int32 × JS → Prop) q => bX12_search_60 (fun l0 l1 l2 l3 l5 l7 S => X60 (l0, l1, l2, l3, l5, l7, S)) q.1 q.2.1 q.2.2.1 q.2.2.2.1 q.2.2.2.2.1 q.2.2.2.2.2.1 q.2.2.2.2.2.2 Q) (l0, l1, l2, l3, l5, l7, S)
set_option maxRecDepth 20000 in
theorem tX12_search_60 {Q : Int64 → JS → Prop}  (d : Nat) (hd : 1 ≤ d) {l0 : Nat} {l1 : Int32} {l2 : Int32} {l3 : Int64} {l5 : Int64} {l7 : Int32} {S : JS} (h : wX12_search_60 l0 l1 l2 l3 l5 l7 S Q) : jLf (jCall jmt jbud d) jbud (fun j => (jmt j).rk) none mX12_search (jqL Q) (60, [some (.ref l0), some (.int l1), some (.int l2), some (.long l3), none, some (.long l5), none, some (.int l7), none, none, none, none, none], [], S, 0, 0) := by
  have := h (fun q : Nat × Int32 × Int32 × Int64 × Int64 × Int32 × JS => jLf (jCall jmt jbud d) jbud (fun j => (jmt j).rk) none mX12_search (jqL Q) (60, [some (.ref (q.1)), some (.int (q.2.1)), some (.int (q.2.2.1)), some (.long (q.2.2.2.1)), none, some (.long (q.2.2.2.2.1)), none, some (.int (q.2.2.2.2.2.1)), none, none, none, none, none], [], q.2.2.2.2.2.2, 0, 0)) (fun q R hb hR => uX12_search_60 d hd  (fun _ _ _ _ _ _ _ => hR _) hb)
  exact this
def bX12_search_49   (X49 : Nat → Int32 → Int32 → Int64 → Int64 → Int32 → JS → Prop) (l0 : Nat) (l1 : Int32) (l2 : Int32) (l3 : Int64) (l5 : Int64) (l7 : Int32) (S : JS) (Q : Int64 → JS → Prop) : Prop :=
  (l1 ≤ l7 → wX12_search_60 l0 l1 l2 l3 l5 0 S Q) ∧ (¬ (l1 ≤ l7) → ∀ x34 : Int64, x34 = (l5 * (100 : Int64)) → (∀ x35 : Int32, x35 = (l7 + 1) → (X49 l0 l1 l2 l3 x34 x35 S)))
set_option maxRecDepth 20000 in
theorem uX12_search_49 {Q : Int64 → JS → Prop}  (d : Nat) (hd : 1 ≤ d) {X49 : Nat → Int32 → Int32 → Int64 → Int64 → Int32 → JS → Prop} (hX49 : ∀ l0 l1 l2 l3 l5 l7 S, X49 l0 l1 l2 l3 l5 l7 S → jLf (jCall jmt jbud d) jbud (fun j => (jmt j).rk) none mX12_search (jqL Q) (49, [some (.ref l0), some (.int l1), some (.int l2), some (.long l3), none, some (.long l5), none, some (.int l7), none, none, none, none, none], [], S, 0, 0)) {l0 : Nat} {l1 : Int32} {l2 : Int32} {l3 : Int64} {l5 : Int64} {l7 : Int32} {S : JS} (h : bX12_search_49 X49 l0 l1 l2 l3 l5 l7 S Q) : jLf (jCall jmt jbud d) jbud (fun j => (jmt j).rk) none mX12_search (jqL Q) (49, [some (.ref l0), some (.int l1), some (.int l2), some (.long l3), none, some (.long l5), none, some (.int l7), none, none, none, none, none], [], S, 0, 0) := by
  have hc := jCall_mono jmt jbud d
  unfold bX12_search_49 at h
  refine jLf.bk hc 2 [] [some (.ref l0), some (.int l1), some (.int l2), some (.long l3), none, some (.long l5), none, some (.int l7), none, none, none, none, none] [.int l1, .int l7] S rfl rfl rfl trivial ?_
  refine jLf.two hc _ rfl (gs := []) (p1 := l1 ≤ l7) (p2 := ¬ (l1 ≤ l7)) (c1 := (58, [some (.ref l0), some (.int l1), some (.int l2), some (.long l3), none, some (.long l5), none, some (.int l7), none, none, none, none, none], [], S, 0, 0)) (c2 := (52, [some (.ref l0), some (.int l1), some (.int l2), some (.long l3), none, some (.long l5), none, some (.int l7), none, none, none, none, none], [], S, 0, 0)) rfl trivial (fun hz => ?_) (fun hz => ?_)
  · have h := h.1 hz
    refine jLf.bk hc 2 [] [some (.ref l0), some (.int l1), some (.int l2), some (.long l3), none, some (.long l5), none, some (.int 0), none, none, none, none, none] [] S rfl rfl rfl trivial ?_
    exact tX12_search_60 d hd  h
  · have h := h.2 hz
    refine jLf.bk hc 4 [] [some (.ref l0), some (.int l1), some (.int l2), some (.long l3), none, some (.long (l5 * (100 : Int64))), none, some (.int l7), none, none, none, none, none] [] S rfl rfl rfl trivial ?_
    generalize ex34 : (l5 * (100 : Int64) : Int64) = x34
    have h := h x34 ex34.symm
    refine jLf.bk hc 1 [] [some (.ref l0), some (.int l1), some (.int l2), some (.long l3), none, some (.long x34), none, some (.int (l7 + 1)), none, none, none, none, none] [] S rfl rfl rfl trivial ?_
    generalize ex35 : (l7 + 1 : Int32) = x35
    have h := h x35 ex35.symm
    refine jLf.one hc _ rfl (gs := []) (c := (49, [some (.ref l0), some (.int l1), some (.int l2), some (.long l3), none, some (.long x34), none, some (.int x35), none, none, none, none, none], [], S, 0, 0)) rfl trivial ?_
    exact hX49 _ _ _ _ _ _ _ h
def wX12_search_49   (l0 : Nat) (l1 : Int32) (l2 : Int32) (l3 : Int64) (l5 : Int64) (l7 : Int32) (S : JS) (Q : Int64 → JS → Prop) : Prop :=
  jLoop (fun (X49 : Nat × Int32 × Int32 × Int64 × Int64 × Int32 × JS → Prop) q => bX12_search_49 (fun l0 l1 l2 l3 l5 l7 S => X49 (l0, l1, l2, l3, l5, l7, S)) q.1 q.2.1 q.2.2.1 q.2.2.2.1 q.2.2.2.2.1 q.2.2.2.2.2.1 q.2.2.2.2.2.2 Q) (l0, l1, l2, l3, l5, l7, S)
set_option maxRecDepth 20000 in
theorem tX12_search_49 {Q : Int64 → JS → Prop}  (d : Nat) (hd : 1 ≤ d) {l0 : Nat} {l1 : Int32} {l2 : Int32} {l3 : Int64} {l5 : Int64} {l7 : Int32} {S : JS} (h : wX12_search_49 l0 l1 l2 l3 l5 l7 S Q) : jLf (jCall jmt jbud d) jbud (fun j => (jmt j).rk) none mX12_search (jqL Q) (49, [some (.ref l0), some (.int l1), some (.int l2), some (.long l3), none, some (.long l5), none, some (.int l7), none, none, none, none, none], [], S, 0, 0) := by
  have := h (fun q : Nat × Int32 × Int32 × Int64 × Int64 × Int32 × JS => jLf (jCall jmt jbud d) jbud (fun j => (jmt j).rk) none mX12_search (jqL Q) (49, [some (.ref (q.1)), some (.int (q.2.1)), some (.int (q.2.2.1)), some (.long (q.2.2.2.1)), none, some (.long (q.2.2.2.2.1)), none, some (.int (q.2.2.2.2.2.1)), none, none, none, none, none], [], q.2.2.2.2.2.2, 0, 0)) (fun q R hb hR => uX12_search_49 d hd  (fun _ _ _ _ _ _ _ => hR _) hb)
  exact this
def wX12_search_45   (l0 : Nat) (l1 : Int32) (l2 : Int32) (l3 : Int64) (S : JS) (Q : Int64 → JS → Prop) : Prop :=
  wX12_search_49 l0 l1 l2 l3 1 0 S Q
set_option maxRecDepth 20000 in
theorem tX12_search_45 {Q : Int64 → JS → Prop}  (d : Nat) (hd : 1 ≤ d) {l0 : Nat} {l1 : Int32} {l2 : Int32} {l3 : Int64} {S : JS} (h : wX12_search_45 l0 l1 l2 l3 S Q) : jLf (jCall jmt jbud d) jbud (fun j => (jmt j).rk) none mX12_search (jqL Q) (45, [some (.ref l0), some (.int l1), some (.int l2), some (.long l3), none, none, none, none, none, none, none, none, none], [], S, 0, 0) := by
  have hc := jCall_mono jmt jbud d
  unfold wX12_search_45 at h
  refine jLf.bk hc 4 [] [some (.ref l0), some (.int l1), some (.int l2), some (.long l3), none, some (.long 1), none, some (.int 0), none, none, none, none, none] [] S rfl rfl rfl trivial ?_
  exact tX12_search_49 d hd  h
def bX12_search_7   (X7 : Nat → Int32 → Int32 → Int64 → Int32 → JS → Prop) (l0 : Nat) (l1 : Int32) (l2 : Int32) (l3 : Int64) (l5 : Int32) (S : JS) (Q : Int64 → JS → Prop) : Prop :=
  (12 ≤ l5 → wX12_in (l1.toInt64) 0 6 S (fun r4 S3 => (r4 = 0 → Q (-1) S3) ∧ (¬ r4 = 0 → wX12_in (l2.toInt64) 0 2 S3 (fun r6 S5 => (r6 = 0 → Q (-1) S5) ∧ (¬ r6 = 0 → ((lg_cmp l3 (0 : Int64)) = 0 → Q (-1) S5) ∧ (¬ (lg_cmp l3 (0 : Int64)) = 0 → (¬ l2 = 2 → wX12_search_45 l0 l1 l2 l3 S5 Q) ∧ (l2 = 2 → (¬ l1 = 0 → wX12_search_45 l0 l1 l2 l3 S5 Q) ∧ (l1 = 0 → Q (-1) S5)))))))) ∧ (¬ (12 ≤ l5) → jA S l0 12 ∧ (¬ jR S l0 3 = none ∧ (jA S (jr S l0 3) 13 ∧ (vp_in ((188 : Int32) + l5) (jZ S (jr S l0 3)) ∧ (∀ x40 : Int64, x40 = (l3 + ((jI S (jr S l0 3) ((188 : Int32) + l5).toNatClampNeg).toInt64)) → (∀ x41 : Int32, x41 = (l5 + 1) → (X7 l0 l1 l2 x40 x41 S)))))))
set_option maxRecDepth 20000 in
theorem uX12_search_7 {Q : Int64 → JS → Prop}  (d : Nat) (hd : 1 ≤ d) {X7 : Nat → Int32 → Int32 → Int64 → Int32 → JS → Prop} (hX7 : ∀ l0 l1 l2 l3 l5 S, X7 l0 l1 l2 l3 l5 S → jLf (jCall jmt jbud d) jbud (fun j => (jmt j).rk) none mX12_search (jqL Q) (7, [some (.ref l0), some (.int l1), some (.int l2), some (.long l3), none, some (.int l5), none, none, none, none, none, none, none], [], S, 0, 0)) {l0 : Nat} {l1 : Int32} {l2 : Int32} {l3 : Int64} {l5 : Int32} {S : JS} (h : bX12_search_7 X7 l0 l1 l2 l3 l5 S Q) : jLf (jCall jmt jbud d) jbud (fun j => (jmt j).rk) none mX12_search (jqL Q) (7, [some (.ref l0), some (.int l1), some (.int l2), some (.long l3), none, some (.int l5), none, none, none, none, none, none, none], [], S, 0, 0) := by
  have hc := jCall_mono jmt jbud d
  unfold bX12_search_7 at h
  refine jLf.bk hc 2 [] [some (.ref l0), some (.int l1), some (.int l2), some (.long l3), none, some (.int l5), none, none, none, none, none, none, none] [.int 12, .int l5] S rfl rfl rfl trivial ?_
  refine jLf.two hc _ rfl (gs := []) (p1 := 12 ≤ l5) (p2 := ¬ (12 ≤ l5)) (c1 := (22, [some (.ref l0), some (.int l1), some (.int l2), some (.long l3), none, some (.int l5), none, none, none, none, none, none, none], [], S, 0, 0)) (c2 := (10, [some (.ref l0), some (.int l1), some (.int l2), some (.long l3), none, some (.int l5), none, none, none, none, none, none, none], [], S, 0, 0)) rfl trivial (fun hz => ?_) (fun hz => ?_)
  · have h := h.1 hz
    refine jLf.bk hc 4 [] [some (.ref l0), some (.int l1), some (.int l2), some (.long l3), none, some (.int l5), none, none, none, none, none, none, none] [.long 6, .long 0, .long (l1.toInt64)] S rfl rfl rfl trivial ?_
    refine jLf.inv hc _ rfl (gs := [3 ≤ ([.long 6, .long 0, .long (l1.toInt64)] : List Value).length, (([] : List Value).map fun v => v.category).sum ≤ 8, 0 ≤ 0, 0 ≤ 0]) (k := 148) (args := [.long (l1.toInt64), .long 0, .long 6]) (r := []) (a := 0) (b := 0) rfl ⟨Nat.le_of_ble_eq_true rfl, Nat.le_of_ble_eq_true rfl, Nat.zero_le _, Nat.zero_le _⟩ (vX12_in d (by omega) h) ?_
    rintro v S3 ⟨r4, rfl, h⟩
    show jLf (jCall jmt jbud d) jbud (fun j => (jmt j).rk) none mX12_search (jqL Q) (27, [some (.ref l0), some (.int l1), some (.int l2), some (.long l3), none, some (.int l5), none, none, none, none, none, none, none], [.int r4], S3, 0, 0)
    refine jLf.two hc _ rfl (gs := []) (p1 := r4 = 0) (p2 := ¬ (r4 = 0)) (c1 := (43, [some (.ref l0), some (.int l1), some (.int l2), some (.long l3), none, some (.int l5), none, none, none, none, none, none, none], [], S3, 0, 0)) (c2 := (28, [some (.ref l0), some (.int l1), some (.int l2), some (.long l3), none, some (.int l5), none, none, none, none, none, none, none], [], S3, 0, 0)) rfl trivial (fun hz => ?_) (fun hz => ?_)
    · have h := h.1 hz
      refine jLf.bk hc 1 [] [some (.ref l0), some (.int l1), some (.int l2), some (.long l3), none, some (.int l5), none, none, none, none, none, none, none] [.long (-1)] S3 rfl rfl rfl trivial ?_
      exact jLf.ret hc _ rfl (gs := [True]) (v := some (.long (-1))) rfl trivial ⟨(-1), rfl, h⟩
    · have h := h.2 hz
      refine jLf.bk hc 4 [] [some (.ref l0), some (.int l1), some (.int l2), some (.long l3), none, some (.int l5), none, none, none, none, none, none, none] [.long 2, .long 0, .long (l2.toInt64)] S3 rfl rfl rfl trivial ?_
      refine jLf.inv hc _ rfl (gs := [3 ≤ ([.long 2, .long 0, .long (l2.toInt64)] : List Value).length, (([] : List Value).map fun v => v.category).sum ≤ 8, 0 ≤ 0, 0 ≤ 0]) (k := 148) (args := [.long (l2.toInt64), .long 0, .long 2]) (r := []) (a := 0) (b := 0) rfl ⟨Nat.le_of_ble_eq_true rfl, Nat.le_of_ble_eq_true rfl, Nat.zero_le _, Nat.zero_le _⟩ (vX12_in d (by omega) h) ?_
      rintro v S5 ⟨r6, rfl, h⟩
      show jLf (jCall jmt jbud d) jbud (fun j => (jmt j).rk) none mX12_search (jqL Q) (33, [some (.ref l0), some (.int l1), some (.int l2), some (.long l3), none, some (.int l5), none, none, none, none, none, none, none], [.int r6], S5, 0, 0)
      refine jLf.two hc _ rfl (gs := []) (p1 := r6 = 0) (p2 := ¬ (r6 = 0)) (c1 := (43, [some (.ref l0), some (.int l1), some (.int l2), some (.long l3), none, some (.int l5), none, none, none, none, none, none, none], [], S5, 0, 0)) (c2 := (34, [some (.ref l0), some (.int l1), some (.int l2), some (.long l3), none, some (.int l5), none, none, none, none, none, none, none], [], S5, 0, 0)) rfl trivial (fun hz => ?_) (fun hz => ?_)
      · have h := h.1 hz
        refine jLf.bk hc 1 [] [some (.ref l0), some (.int l1), some (.int l2), some (.long l3), none, some (.int l5), none, none, none, none, none, none, none] [.long (-1)] S5 rfl rfl rfl trivial ?_
        exact jLf.ret hc _ rfl (gs := [True]) (v := some (.long (-1))) rfl trivial ⟨(-1), rfl, h⟩
      · have h := h.2 hz
        refine jLf.bk hc 3 [] [some (.ref l0), some (.int l1), some (.int l2), some (.long l3), none, some (.int l5), none, none, none, none, none, none, none] [.int (lg_cmp l3 (0 : Int64))] S5 rfl rfl rfl trivial ?_
        refine jLf.two hc _ rfl (gs := []) (p1 := (lg_cmp l3 (0 : Int64)) = 0) (p2 := ¬ ((lg_cmp l3 (0 : Int64)) = 0)) (c1 := (43, [some (.ref l0), some (.int l1), some (.int l2), some (.long l3), none, some (.int l5), none, none, none, none, none, none, none], [], S5, 0, 0)) (c2 := (38, [some (.ref l0), some (.int l1), some (.int l2), some (.long l3), none, some (.int l5), none, none, none, none, none, none, none], [], S5, 0, 0)) rfl trivial (fun hz => ?_) (fun hz => ?_)
        · have h := h.1 hz
          refine jLf.bk hc 1 [] [some (.ref l0), some (.int l1), some (.int l2), some (.long l3), none, some (.int l5), none, none, none, none, none, none, none] [.long (-1)] S5 rfl rfl rfl trivial ?_
          exact jLf.ret hc _ rfl (gs := [True]) (v := some (.long (-1))) rfl trivial ⟨(-1), rfl, h⟩
        · have h := h.2 hz
          refine jLf.bk hc 2 [] [some (.ref l0), some (.int l1), some (.int l2), some (.long l3), none, some (.int l5), none, none, none, none, none, none, none] [.int 2, .int l2] S5 rfl rfl rfl trivial ?_
          refine jLf.two hc _ rfl (gs := []) (p1 := ¬ l2 = 2) (p2 := ¬ (¬ l2 = 2)) (c1 := (45, [some (.ref l0), some (.int l1), some (.int l2), some (.long l3), none, some (.int l5), none, none, none, none, none, none, none], [], S5, 0, 0)) (c2 := (41, [some (.ref l0), some (.int l1), some (.int l2), some (.long l3), none, some (.int l5), none, none, none, none, none, none, none], [], S5, 0, 0)) rfl trivial (fun hz => ?_) (fun hz => ?_)
          · have h := h.1 hz
            refine jLf.sub [some (.ref l0), some (.int l1), some (.int l2), some (.long l3), none, none, none, none, none, none, none, none, none] (jle_same (jle_same (jle_same (jle_same (jle_same (jle_none (jle_same (jle_same (jle_same (jle_same (jle_same (jle_same (jle_same (jle_nil _)))))))))))))) ?_
            exact tX12_search_45 d hd  h
          · have h := h.2 (Classical.not_not.mp hz)
            refine jLf.bk hc 1 [] [some (.ref l0), some (.int l1), some (.int l2), some (.long l3), none, some (.int l5), none, none, none, none, none, none, none] [.int l1] S5 rfl rfl rfl trivial ?_
            refine jLf.two hc _ rfl (gs := []) (p1 := ¬ l1 = 0) (p2 := ¬ (¬ l1 = 0)) (c1 := (45, [some (.ref l0), some (.int l1), some (.int l2), some (.long l3), none, some (.int l5), none, none, none, none, none, none, none], [], S5, 0, 0)) (c2 := (43, [some (.ref l0), some (.int l1), some (.int l2), some (.long l3), none, some (.int l5), none, none, none, none, none, none, none], [], S5, 0, 0)) rfl trivial (fun hz => ?_) (fun hz => ?_)
            · have h := h.1 hz
              refine jLf.sub [some (.ref l0), some (.int l1), some (.int l2), some (.long l3), none, none, none, none, none, none, none, none, none] (jle_same (jle_same (jle_same (jle_same (jle_same (jle_none (jle_same (jle_same (jle_same (jle_same (jle_same (jle_same (jle_same (jle_nil _)))))))))))))) ?_
              exact tX12_search_45 d hd  h
            · have h := h.2 (Classical.not_not.mp hz)
              refine jLf.bk hc 1 [] [some (.ref l0), some (.int l1), some (.int l2), some (.long l3), none, some (.int l5), none, none, none, none, none, none, none] [.long (-1)] S5 rfl rfl rfl trivial ?_
              exact jLf.ret hc _ rfl (gs := [True]) (v := some (.long (-1))) rfl trivial ⟨(-1), rfl, h⟩
  · have h := h.2 hz
    obtain ⟨g36, g37, g38, g39, h⟩ := h
    refine jLf.bk hc 10 [jA S l0 12, ¬ jR S l0 3 = none, jA S (jr S l0 3) 13, vp_in ((188 : Int32) + l5) (jZ S (jr S l0 3))] [some (.ref l0), some (.int l1), some (.int l2), some (.long (l3 + ((jI S (jr S l0 3) ((188 : Int32) + l5).toNatClampNeg).toInt64))), none, some (.int l5), none, none, none, none, none, none, none] [] S rfl rfl rfl ⟨g36, g37, g38, g39⟩ ?_
    generalize ex40 : (l3 + ((jI S (jr S l0 3) ((188 : Int32) + l5).toNatClampNeg).toInt64) : Int64) = x40
    have h := h x40 ex40.symm
    refine jLf.bk hc 1 [] [some (.ref l0), some (.int l1), some (.int l2), some (.long x40), none, some (.int (l5 + 1)), none, none, none, none, none, none, none] [] S rfl rfl rfl trivial ?_
    generalize ex41 : (l5 + 1 : Int32) = x41
    have h := h x41 ex41.symm
    refine jLf.one hc _ rfl (gs := []) (c := (7, [some (.ref l0), some (.int l1), some (.int l2), some (.long x40), none, some (.int x41), none, none, none, none, none, none, none], [], S, 0, 0)) rfl trivial ?_
    exact hX7 _ _ _ _ _ _ h
def wX12_search_7   (l0 : Nat) (l1 : Int32) (l2 : Int32) (l3 : Int64) (l5 : Int32) (S : JS) (Q : Int64 → JS → Prop) : Prop :=
  jLoop (fun (X7 : Nat × Int32 × Int32 × Int64 × Int32 × JS → Prop) q => bX12_search_7 (fun l0 l1 l2 l3 l5 S => X7 (l0, l1, l2, l3, l5, S)) q.1 q.2.1 q.2.2.1 q.2.2.2.1 q.2.2.2.2.1 q.2.2.2.2.2 Q) (l0, l1, l2, l3, l5, S)
set_option maxRecDepth 20000 in
theorem tX12_search_7 {Q : Int64 → JS → Prop}  (d : Nat) (hd : 1 ≤ d) {l0 : Nat} {l1 : Int32} {l2 : Int32} {l3 : Int64} {l5 : Int32} {S : JS} (h : wX12_search_7 l0 l1 l2 l3 l5 S Q) : jLf (jCall jmt jbud d) jbud (fun j => (jmt j).rk) none mX12_search (jqL Q) (7, [some (.ref l0), some (.int l1), some (.int l2), some (.long l3), none, some (.int l5), none, none, none, none, none, none, none], [], S, 0, 0) := by
  have := h (fun q : Nat × Int32 × Int32 × Int64 × Int32 × JS => jLf (jCall jmt jbud d) jbud (fun j => (jmt j).rk) none mX12_search (jqL Q) (7, [some (.ref (q.1)), some (.int (q.2.1)), some (.int (q.2.2.1)), some (.long (q.2.2.2.1)), none, some (.int (q.2.2.2.2.1)), none, none, none, none, none, none, none], [], q.2.2.2.2.2, 0, 0)) (fun q R hb hR => uX12_search_7 d hd  (fun _ _ _ _ _ _ => hR _) hb)
  exact this
def wX12_search  (this : Nat) (p1 : Int32) (p2 : Int32) (S : JS) (Q : Int64 → JS → Prop) : Prop :=
  jA S this 12 ∧ (∀ S2 : JS, S2 = uI S this 0 0 → (wX12_search_7 this p1 p2 0 0 S2 Q))
set_option maxRecDepth 20000 in
theorem vX12_search {Q : Int64 → JS → Prop} (d : Nat) (hd : 2 ≤ d) {this : Nat} {p1 : Int32} {p2 : Int32} {S : JS} (h : wX12_search this p1 p2 S Q) : jCall jmt jbud d 226 [.ref this, .int p1, .int p2] S (jqL Q) := by
  obtain ⟨d, rfl⟩ : ∃ d2, d = d2 + 1 := ⟨d - 1, by omega⟩
  have hd : 1 ≤ d := by omega
  have hc := jCall_mono jmt jbud d
  unfold wX12_search at h
  refine ⟨Nat.le_of_ble_eq_true rfl, ?_⟩
  show jLf (jCall jmt jbud d) jbud (fun j => (jmt j).rk) none mX12_search (jqL Q) (0, [some (.ref this), some (.int p1), some (.int p2), none, none, none, none, none, none, none, none, none, none], [], S, 0, 0)
  obtain ⟨g1, h⟩ := h
  refine jLf.bk hc 3 [jA S this 12] [some (.ref this), some (.int p1), some (.int p2), none, none, none, none, none, none, none, none, none, none] [] (uI S this 0 0) rfl rfl rfl g1 ?_
  generalize eS2 : uI S this 0 0 = S2
  have h := h S2 eS2.symm
  refine jLf.bk hc 4 [] [some (.ref this), some (.int p1), some (.int p2), some (.long 0), none, some (.int 0), none, none, none, none, none, none, none] [] S2 rfl rfl rfl trivial ?_
  exact tX12_search_7 d hd  h
