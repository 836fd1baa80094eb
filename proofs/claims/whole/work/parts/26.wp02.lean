/-! weakest preconditions, by program: X2_mostBehind X2_weigh X2_leastUnwarned X2_rockOfWay J7_copyOf_59c91 X3_init X4_init X4_likeliest X4_lookOnce X4_lookTimes X5_init X5_putFour X5_goTo X5_pass X5_readRoundBracket X5_emit X5_readPart X5_readTerm X5_readSum X5_readComparison X5_readPlain X5_landHere X5_readBoth X5_readTest X5_readClause X5_isLetter X5_isDigit X5_endOfToken X5_numberToken X5_isWord X5_signOfPart -/
def wX2_mostBehind  (this : Nat) (p1 : Nat) (p2 : Int32) (p3 : Int32) (S : JS) (Q : Int32 → JS → Prop) : Prop :=
  jA S this 2 ∧ (¬ jR S this 0 = none ∧ (wX2_bestStep this p1 p2 p3 S (fun r4 S3 => wX11_placeOf r4 (p3 + (1 : Int32)) S3 (fun r6 S5 => jA S5 (jr S this 0) 13 ∧ (vp_in r6 (jZ S5 (jr S this 0)) ∧ (Q (jI S5 (jr S this 0) r6.toNatClampNeg) S5))))))
set_option maxRecDepth 20000 in
theorem vX2_mostBehind {Q : Int32 → JS → Prop} (d : Nat) (hd : 4 ≤ d) {this : Nat} {p1 : Nat} {p2 : Int32} {p3 : Int32} {S : JS} (h : wX2_mostBehind this p1 p2 p3 S Q) : jCall jmt jbud d 22 [.ref this, .ref p1, .int p2, .int p3] S (jqI Q) := by
  obtain ⟨d, rfl⟩ : ∃ d2, d = d2 + 1 := ⟨d - 1, by omega⟩
  have hd : 3 ≤ d := by omega
  have hc := jCall_mono jmt jbud d
  unfold wX2_mostBehind at h
  refine ⟨Nat.le_of_ble_eq_true rfl, ?_⟩
  show jLf (jCall jmt jbud d) jbud (fun j => (jmt j).rk) none mX2_mostBehind (jqI Q) (0, [some (.ref this), some (.ref p1), some (.int p2), some (.int p3)], [], S, 0, 0)
  obtain ⟨g1, g2, h⟩ := h
  refine jLf.bk hc 6 [jA S this 2, ¬ jR S this 0 = none] [some (.ref this), some (.ref p1), some (.int p2), some (.int p3)] [.int p3, .int p2, .ref p1, .ref this, .ref (jr S this 0)] S rfl rfl rfl ⟨g1, g2⟩ ?_
  refine jLf.inv hc _ rfl (gs := [jA S this 2, (([.ref (jr S this 0)] : List Value).map fun v => v.category).sum ≤ 8, 0 ≤ 0, 0 ≤ 0]) (k := 23) (args := [.ref this, .ref p1, .int p2, .int p3]) (r := [.ref (jr S this 0)]) (a := 0) (b := 0) rfl ⟨g1, Nat.le_of_ble_eq_true rfl, Nat.zero_le _, Nat.zero_le _⟩ (vX2_bestStep d (by omega) h) ?_
  rintro v S3 ⟨r4, rfl, h⟩
  show jLf (jCall jmt jbud d) jbud (fun j => (jmt j).rk) none mX2_mostBehind (jqI Q) (7, [some (.ref this), some (.ref p1), some (.int p2), some (.int p3)], [.int r4, .ref (jr S this 0)], S3, 0, 0)
  refine jLf.bk hc 3 [] [some (.ref this), some (.ref p1), some (.int p2), some (.int p3)] [.int (p3 + (1 : Int32)), .int r4, .ref (jr S this 0)] S3 rfl rfl rfl trivial ?_
  refine jLf.inv hc _ rfl (gs := [2 ≤ ([.int (p3 + (1 : Int32)), .int r4, .ref (jr S this 0)] : List Value).length, (([.ref (jr S this 0)] : List Value).map fun v => v.category).sum ≤ 8, 0 ≤ 0, 0 ≤ 0]) (k := 146) (args := [.int r4, .int (p3 + (1 : Int32))]) (r := [.ref (jr S this 0)]) (a := 0) (b := 0) rfl ⟨Nat.le_of_ble_eq_true rfl, Nat.le_of_ble_eq_true rfl, Nat.zero_le _, Nat.zero_le _⟩ (vX11_placeOf d (by omega) h) ?_
  rintro v S5 ⟨r6, rfl, h⟩
  show jLf (jCall jmt jbud d) jbud (fun j => (jmt j).rk) none mX2_mostBehind (jqI Q) (11, [some (.ref this), some (.ref p1), some (.int p2), some (.int p3)], [.int r6, .ref (jr S this 0)], S5, 0, 0)
  obtain ⟨g7, g8, h⟩ := h
  refine jLf.bk hc 1 [jA S5 (jr S this 0) 13, vp_in r6 (jZ S5 (jr S this 0))] [some (.ref this), some (.ref p1), some (.int p2), some (.int p3)] [.int (jI S5 (jr S this 0) r6.toNatClampNeg)] S5 rfl rfl rfl ⟨g7, g8⟩ ?_
  exact jLf.ret hc _ rfl (gs := [True]) (v := some (.int (jI S5 (jr S this 0) r6.toNatClampNeg))) rfl trivial ⟨jI S5 (jr S this 0) r6.toNatClampNeg, rfl, h⟩
def wX2_weigh_21  (X2 : Nat → Nat → Nat → Int32 → Int32 → Int32 → JS → Prop) (X7 : Nat → Nat → Nat → Int32 → Int32 → Int32 → Int32 → JS → Prop) (l0 : Nat) (l1 : Nat) (l2 : Nat) (l3 : Int32) (l4 : Int32) (l5 : Int32) (l6 : Int32) (s0 : Int32) (S : JS) (Q : JS → Prop) : Prop :=
  jA S l0 2 ∧ (¬ jR S l0 0 = none ∧ (wX11_placeOf l6 l5 S (fun r6 S5 => jA S5 l2 1 ∧ (wX1_danger l2 l6 l5 S5 (fun r8 S7 => jA S7 (jr S l0 0) 13 ∧ (vp_in r6 (jZ S7 (jr S l0 0)) ∧ (∀ S12 : JS, S12 = uI S7 (jr S l0 0) r6.toNatClampNeg (r8 + s0) → (∀ x13 : Int32, x13 = (l6 + 1) → (X7 l0 l1 l2 l3 l4 l5 x13 S12)))))))))
set_option maxRecDepth 20000 in
theorem tX2_weigh_21 {Q : JS → Prop} {X2 : Nat → Nat → Nat → Int32 → Int32 → Int32 → JS → Prop} {X7 : Nat → Nat → Nat → Int32 → Int32 → Int32 → Int32 → JS → Prop} (d : Nat) (hd : 4 ≤ d) (hX2 : ∀ l0 l1 l2 l3 l4 l5 S, X2 l0 l1 l2 l3 l4 l5 S → jLf (jCall jmt jbud d) jbud (fun j => (jmt j).rk) none mX2_weigh (jqV Q) (2, [some (.ref l0), some (.ref l1), some (.ref l2), some (.int l3), some (.int l4), some (.int l5), none, none], [], S, 0, 0)) (hX7 : ∀ l0 l1 l2 l3 l4 l5 l6 S, X7 l0 l1 l2 l3 l4 l5 l6 S → jLf (jCall jmt jbud d) jbud (fun j => (jmt j).rk) none mX2_weigh (jqV Q) (7, [some (.ref l0), some (.ref l1), some (.ref l2), some (.int l3), some (.int l4), some (.int l5), some (.int l6), none], [], S, 0, 0)) {l0 : Nat} {l1 : Nat} {l2 : Nat} {l3 : Int32} {l4 : Int32} {l5 : Int32} {l6 : Int32} {s0 : Int32} {S : JS} (h : wX2_weigh_21 X2 X7 l0 l1 l2 l3 l4 l5 l6 s0 S Q) : jLf (jCall jmt jbud d) jbud (fun j => (jmt j).rk) none mX2_weigh (jqV Q) (21, [some (.ref l0), some (.ref l1), some (.ref l2), some (.int l3), some (.int l4), some (.int l5), some (.int l6), none], [.int s0], S, 0, 0) := by
  have hc := jCall_mono jmt jbud d
  unfold wX2_weigh_21 at h
  obtain ⟨g3, g4, h⟩ := h
  refine jLf.bk hc 5 [jA S l0 2, ¬ jR S l0 0 = none] [some (.ref l0), some (.ref l1), some (.ref l2), some (.int l3), some (.int l4), some (.int l5), some (.int l6), some (.int s0)] [.int l5, .int l6, .ref (jr S l0 0)] S rfl rfl rfl ⟨g3, g4⟩ ?_
  refine jLf.inv hc _ rfl (gs := [2 ≤ ([.int l5, .int l6, .ref (jr S l0 0)] : List Value).length, (([.ref (jr S l0 0)] : List Value).map fun v => v.category).sum ≤ 8, 0 ≤ 0, 0 ≤ 0]) (k := 146) (args := [.int l6, .int l5]) (r := [.ref (jr S l0 0)]) (a := 0) (b := 0) rfl ⟨Nat.le_of_ble_eq_true rfl, Nat.le_of_ble_eq_true rfl, Nat.zero_le _, Nat.zero_le _⟩ (vX11_placeOf d (by omega) h) ?_
  rintro v S5 ⟨r6, rfl, h⟩
  show jLf (jCall jmt jbud d) jbud (fun j => (jmt j).rk) none mX2_weigh (jqV Q) (27, [some (.ref l0), some (.ref l1), some (.ref l2), some (.int l3), some (.int l4), some (.int l5), some (.int l6), some (.int s0)], [.int r6, .ref (jr S l0 0)], S5, 0, 0)
  refine jLf.bk hc 3 [] [some (.ref l0), some (.ref l1), some (.ref l2), some (.int l3), some (.int l4), some (.int l5), some (.int l6), some (.int s0)] [.int l5, .int l6, .ref l2, .int r6, .ref (jr S l0 0)] S5 rfl rfl rfl trivial ?_
  obtain ⟨g9, h⟩ := h
  refine jLf.inv hc _ rfl (gs := [jA S5 l2 1, (([.int r6, .ref (jr S l0 0)] : List Value).map fun v => v.category).sum ≤ 8, 0 ≤ 0, 0 ≤ 0]) (k := 17) (args := [.ref l2, .int l6, .int l5]) (r := [.int r6, .ref (jr S l0 0)]) (a := 0) (b := 0) rfl ⟨g9, Nat.le_of_ble_eq_true rfl, Nat.zero_le _, Nat.zero_le _⟩ (vX1_danger d (by omega) h) ?_
  rintro v S7 ⟨r8, rfl, h⟩
  show jLf (jCall jmt jbud d) jbud (fun j => (jmt j).rk) none mX2_weigh (jqV Q) (31, [some (.ref l0), some (.ref l1), some (.ref l2), some (.int l3), some (.int l4), some (.int l5), some (.int l6), some (.int s0)], [.int r8, .int r6, .ref (jr S l0 0)], S7, 0, 0)
  obtain ⟨g10, g11, h⟩ := h
  refine jLf.bk hc 3 [jA S7 (jr S l0 0) 13, vp_in r6 (jZ S7 (jr S l0 0))] [some (.ref l0), some (.ref l1), some (.ref l2), some (.int l3), some (.int l4), some (.int l5), some (.int l6), some (.int s0)] [] (uI S7 (jr S l0 0) r6.toNatClampNeg (r8 + s0)) rfl rfl rfl ⟨g10, g11⟩ ?_
  generalize eS12 : uI S7 (jr S l0 0) r6.toNatClampNeg (r8 + s0) = S12
  have h := h S12 eS12.symm
  refine jLf.bk hc 1 [] [some (.ref l0), some (.ref l1), some (.ref l2), some (.int l3), some (.int l4), some (.int l5), some (.int (l6 + 1)), some (.int s0)] [] S12 rfl rfl rfl trivial ?_
  generalize ex13 : (l6 + 1 : Int32) = x13
  have h := h x13 ex13.symm
  refine jLf.one hc _ rfl (gs := []) (c := (7, [some (.ref l0), some (.ref l1), some (.ref l2), some (.int l3), some (.int l4), some (.int l5), some (.int x13), some (.int s0)], [], S12, 0, 0)) rfl trivial ?_
  refine jLf.sub [some (.ref l0), some (.ref l1), some (.ref l2), some (.int l3), some (.int l4), some (.int l5), some (.int x13), none] (jle_same (jle_same (jle_same (jle_same (jle_same (jle_same (jle_same (jle_none (jle_nil _))))))))) ?_
  exact hX7 _ _ _ _ _ _ _ _ h
def bX2_weigh_7  (X2 : Nat → Nat → Nat → Int32 → Int32 → Int32 → JS → Prop) (X7 : Nat → Nat → Nat → Int32 → Int32 → Int32 → Int32 → JS → Prop) (l0 : Nat) (l1 : Nat) (l2 : Nat) (l3 : Int32) (l4 : Int32) (l5 : Int32) (l6 : Int32) (S : JS) (Q : JS → Prop) : Prop :=
  jA S l1 9 ∧ (((jI S l1 0) ≤ l6 → ∀ x2 : Int32, x2 = (l5 + (-1)) → (X2 l0 l1 l2 l3 l4 x2 S)) ∧ (¬ ((jI S l1 0) ≤ l6) → (l4 ≤ l5 → wX2_weigh_21 X2 X7 l0 l1 l2 l3 l4 l5 l6 0 S Q) ∧ (¬ (l4 ≤ l5) → jA S l0 2 ∧ (wX2_mostBehind l0 l2 l6 l5 S (fun r15 S14 => wX2_weigh_21 X2 X7 l0 l1 l2 l3 l4 l5 l6 r15 S14 Q)))))
set_option maxRecDepth 20000 in
theorem uX2_weigh_7 {Q : JS → Prop} {X2 : Nat → Nat → Nat → Int32 → Int32 → Int32 → JS → Prop} (d : Nat) (hd : 4 ≤ d) (hX2 : ∀ l0 l1 l2 l3 l4 l5 S, X2 l0 l1 l2 l3 l4 l5 S → jLf (jCall jmt jbud d) jbud (fun j => (jmt j).rk) none mX2_weigh (jqV Q) (2, [some (.ref l0), some (.ref l1), some (.ref l2), some (.int l3), some (.int l4), some (.int l5), none, none], [], S, 0, 0)) {X7 : Nat → Nat → Nat → Int32 → Int32 → Int32 → Int32 → JS → Prop} (hX7 : ∀ l0 l1 l2 l3 l4 l5 l6 S, X7 l0 l1 l2 l3 l4 l5 l6 S → jLf (jCall jmt jbud d) jbud (fun j => (jmt j).rk) none mX2_weigh (jqV Q) (7, [some (.ref l0), some (.ref l1), some (.ref l2), some (.int l3), some (.int l4), some (.int l5), some (.int l6), none], [], S, 0, 0)) {l0 : Nat} {l1 : Nat} {l2 : Nat} {l3 : Int32} {l4 : Int32} {l5 : Int32} {l6 : Int32} {S : JS} (h : bX2_weigh_7 X2 X7 l0 l1 l2 l3 l4 l5 l6 S Q) : jLf (jCall jmt jbud d) jbud (fun j => (jmt j).rk) none mX2_weigh (jqV Q) (7, [some (.ref l0), some (.ref l1), some (.ref l2), some (.int l3), some (.int l4), some (.int l5), some (.int l6), none], [], S, 0, 0) := by
  have hc := jCall_mono jmt jbud d
  unfold bX2_weigh_7 at h
  obtain ⟨g1, h⟩ := h
  refine jLf.bk hc 3 [jA S l1 9] [some (.ref l0), some (.ref l1), some (.ref l2), some (.int l3), some (.int l4), some (.int l5), some (.int l6), none] [.int (jI S l1 0), .int l6] S rfl rfl rfl g1 ?_
  refine jLf.two hc _ rfl (gs := []) (p1 := (jI S l1 0) ≤ l6) (p2 := ¬ ((jI S l1 0) ≤ l6)) (c1 := (36, [some (.ref l0), some (.ref l1), some (.ref l2), some (.int l3), some (.int l4), some (.int l5), some (.int l6), none], [], S, 0, 0)) (c2 := (11, [some (.ref l0), some (.ref l1), some (.ref l2), some (.int l3), some (.int l4), some (.int l5), some (.int l6), none], [], S, 0, 0)) rfl trivial (fun hz => ?_) (fun hz => ?_)
  · have h := h.1 hz
    refine jLf.bk hc 1 [] [some (.ref l0), some (.ref l1), some (.ref l2), some (.int l3), some (.int l4), some (.int (l5 + (-1))), some (.int l6), none] [] S rfl rfl rfl trivial ?_
    generalize ex2 : (l5 + (-1) : Int32) = x2
    have h := h x2 ex2.symm
    refine jLf.one hc _ rfl (gs := []) (c := (2, [some (.ref l0), some (.ref l1), some (.ref l2), some (.int l3), some (.int l4), some (.int x2), some (.int l6), none], [], S, 0, 0)) rfl trivial ?_
    refine jLf.sub [some (.ref l0), some (.ref l1), some (.ref l2), some (.int l3), some (.int l4), some (.int x2), none, none] (jle_same (jle_same (jle_same (jle_same (jle_same (jle_same (jle_none (jle_same (jle_nil _))))))))) ?_
    exact hX2 _ _ _ _ _ _ _ h
  · have h := h.2 hz
    refine jLf.bk hc 2 [] [some (.ref l0), some (.ref l1), some (.ref l2), some (.int l3), some (.int l4), some (.int l5), some (.int l6), none] [.int l4, .int l5] S rfl rfl rfl trivial ?_
    refine jLf.two hc _ rfl (gs := []) (p1 := l4 ≤ l5) (p2 := ¬ (l4 ≤ l5)) (c1 := (20, [some (.ref l0), some (.ref l1), some (.ref l2), some (.int l3), some (.int l4), some (.int l5), some (.int l6), none], [], S, 0, 0)) (c2 := (14, [some (.ref l0), some (.ref l1), some (.ref l2), some (.int l3), some (.int l4), some (.int l5), some (.int l6), none], [], S, 0, 0)) rfl trivial (fun hz => ?_) (fun hz => ?_)
    · have h := h.1 hz
      refine jLf.bk hc 1 [] [some (.ref l0), some (.ref l1), some (.ref l2), some (.int l3), some (.int l4), some (.int l5), some (.int l6), none] [.int 0] S rfl rfl rfl trivial ?_
      exact tX2_weigh_21 d hd hX2 hX7 h
    · have h := h.2 hz
      refine jLf.bk hc 4 [] [some (.ref l0), some (.ref l1), some (.ref l2), some (.int l3), some (.int l4), some (.int l5), some (.int l6), none] [.int l5, .int l6, .ref l2, .ref l0] S rfl rfl rfl trivial ?_
      obtain ⟨g16, h⟩ := h
      refine jLf.inv hc _ rfl (gs := [jA S l0 2, (([] : List Value).map fun v => v.category).sum ≤ 8, 0 ≤ 0, 0 ≤ 0]) (k := 22) (args := [.ref l0, .ref l2, .int l6, .int l5]) (r := []) (a := 0) (b := 0) rfl ⟨g16, Nat.le_of_ble_eq_true rfl, Nat.zero_le _, Nat.zero_le _⟩ (vX2_mostBehind d (by omega) h) ?_
      rintro v S14 ⟨r15, rfl, h⟩
      show jLf (jCall jmt jbud d) jbud (fun j => (jmt j).rk) none mX2_weigh (jqV Q) (19, [some (.ref l0), some (.ref l1), some (.ref l2), some (.int l3), some (.int l4), some (.int l5), some (.int l6), none], [.int r15], S14, 0, 0)
      refine jLf.one hc _ rfl (gs := []) (c := (21, [some (.ref l0), some (.ref l1), some (.ref l2), some (.int l3), some (.int l4), some (.int l5), some (.int l6), none], [.int r15], S14, 0, 0)) rfl trivial ?_
      exact tX2_weigh_21 d hd hX2 hX7 h
def wX2_weigh_7  (X2 : Nat → Nat → Nat → Int32 → Int32 → Int32 → JS → Prop) (l0 : Nat) (l1 : Nat) (l2 : Nat) (l3 : Int32) (l4 : Int32) (l5 : Int32) (l6 : Int32) (S : JS) (Q : JS → Prop) : Prop :=
  jLoop (fun (X7 : Nat × Nat × Nat × Int32 × Int32 × Int32 × Int32 × JS → Prop) q => bX2_weigh_7 X2 (fun l0 l1 l2 l3 l4 l5 l6 S => X7 (l0, l1, l2, l3, l4, l5, l6, S)) q.1 q.2.1 q.2.2.1 q.2.2.2.1 q.2.2.2.2.1 q.2.2.2.2.2.1 q.2.2.2.2.2.2.1 q.2.2.2.2.2.2.2 Q) (l0, l1, l2, l3, l4, l5, l6, S)
set_option maxRecDepth 20000 in
theorem tX2_weigh_7 {Q : JS → Prop} {X2 : Nat → Nat → Nat → Int32 → Int32 → Int32 → JS → Prop} (d : Nat) (hd : 4 ≤ d) (hX2 : ∀ l0 l1 l2 l3 l4 l5 S, X2 l0 l1 l2 l3 l4 l5 S → jLf (jCall jmt jbud d) jbud (fun j => (jmt j).rk) none mX2_weigh (jqV Q) (2, [some (.ref l0), some (.ref l1), some (.ref l2), some (.int l3), some (.int l4), some (.int l5), none, none], [], S, 0, 0)) {l0 : Nat} {l1 : Nat} {l2 : Nat} {l3 : Int32} {l4 : Int32} {l5 : Int32} {l6 : Int32} {S : JS} (h : wX2_weigh_7 X2 l0 l1 l2 l3 l4 l5 l6 S Q) : jLf (jCall jmt jbud d) jbud (fun j => (jmt j).rk) none mX2_weigh (jqV Q) (7, [some (.ref l0), some (.ref l1), some (.ref l2), some (.int l3), some (.int l4), some (.int l5), some (.int l6), none], [], S, 0, 0) := by
  have := h (fun q : Nat × Nat × Nat × Int32 × Int32 × Int32 × Int32 × JS => jLf (jCall jmt jbud d) jbud (fun j => (jmt j).rk) none mX2_weigh (jqV Q) (7, [some (.ref (q.1)), some (.ref (q.2.1)), some (.ref (q.2.2.1)), some (.int (q.2.2.2.1)), some (.int (q.2.2.2.2.1)), some (.int (q.2.2.2.2.2.1)), some (.int (q.2.2.2.2.2.2.1)), none], [], q.2.2.2.2.2.2.2, 0, 0)) (fun q R hb hR => uX2_weigh_7 d hd hX2 (fun _ _ _ _ _ _ _ _ => hR _) hb)
  exact this
def bX2_weigh_2   (X2 : Nat → Nat → Nat → Int32 → Int32 → Int32 → JS → Prop) (l0 : Nat) (l1 : Nat) (l2 : Nat) (l3 : Int32) (l4 : Int32) (l5 : Int32) (S : JS) (Q : JS → Prop) : Prop :=
  (l5 < l3 → Q S) ∧ (¬ (l5 < l3) → wX2_weigh_7 X2 l0 l1 l2 l3 l4 l5 0 S Q)
set_option maxRecDepth 20000 in
theorem uX2_weigh_2 {Q : JS → Prop}  (d : Nat) (hd : 4 ≤ d) {X2 : Nat → Nat → Nat → Int32 → Int32 → Int32 → JS → Prop} (hX2 : ∀ l0 l1 l2 l3 l4 l5 S, X2 l0 l1 l2 l3 l4 l5 S → jLf (jCall jmt jbud d) jbud (fun j => (jmt j).rk) none mX2_weigh (jqV Q) (2, [some (.ref l0), some (.ref l1), some (.ref l2), some (.int l3), some (.int l4), some (.int l5), none, none], [], S, 0, 0)) {l0 : Nat} {l1 : Nat} {l2 : Nat} {l3 : Int32} {l4 : Int32} {l5 : Int32} {S : JS} (h : bX2_weigh_2 X2 l0 l1 l2 l3 l4 l5 S Q) : jLf (jCall jmt jbud d) jbud (fun j => (jmt j).rk) none mX2_weigh (jqV Q) (2, [some (.ref l0), some (.ref l1), some (.ref l2), some (.int l3), some (.int l4), some (.int l5), none, none], [], S, 0, 0) := by
  have hc := jCall_mono jmt jbud d
  unfold bX2_weigh_2 at h
  refine jLf.bk hc 2 [] [some (.ref l0), some (.ref l1), some (.ref l2), some (.int l3), some (.int l4), some (.int l5), none, none] [.int l3, .int l5] S rfl rfl rfl trivial ?_
  refine jLf.two hc _ rfl (gs := []) (p1 := l5 < l3) (p2 := ¬ (l5 < l3)) (c1 := (38, [some (.ref l0), some (.ref l1), some (.ref l2), some (.int l3), some (.int l4), some (.int l5), none, none], [], S, 0, 0)) (c2 := (5, [some (.ref l0), some (.ref l1), some (.ref l2), some (.int l3), some (.int l4), some (.int l5), none, none], [], S, 0, 0)) rfl trivial (fun hz => ?_) (fun hz => ?_)
  · have h := h.1 hz
    exact jLf.ret hc _ rfl (gs := [jrt none none]) (v := none) rfl trivial ⟨rfl, h⟩
  · have h := h.2 hz
    refine jLf.bk hc 2 [] [some (.ref l0), some (.ref l1), some (.ref l2), some (.int l3), some (.int l4), some (.int l5), some (.int 0), none] [] S rfl rfl rfl trivial ?_
    exact tX2_weigh_7 d hd hX2 h
def wX2_weigh_2   (l0 : Nat) (l1 : Nat) (l2 : Nat) (l3 : Int32) (l4 : Int32) (l5 : Int32) (S : JS) (Q : JS → Prop) : Prop :=
  jLoop (fun (X2 : Nat × Nat × Nat × Int32 × Int32 × Int32 × JS → Prop) q => bX2_weigh_2 (fun l0 l1 l2 l3 l4 l5 S => X2 (l0, l1, l2, l3, l4, l5, S)) q.1 q.2.1 q.2.2.1 q.2.2.2.1 q.2.2.2.2.1 q.2.2.2.2.2.1 q.2.2.2.2.2.2 Q) (l0, l1, l2, l3, l4, l5, S)
set_option maxRecDepth 20000 in
theorem tX2_weigh_2 {Q : JS → Prop}  (d : Nat) (hd : 4 ≤ d) {l0 : Nat} {l1 : Nat} {l2 : Nat} {l3 : Int32} {l4 : Int32} {l5 : Int32} {S : JS} (h : wX2_weigh_2 l0 l1 l2 l3 l4 l5 S Q) : jLf (jCall jmt jbud d) jbud (fun j => (jmt j).rk) none mX2_weigh (jqV Q) (2, [some (.ref l0), some (.ref l1), some (.ref l2), some (.int l3), some (.int l4), some (.int l5), none, none], [], S, 0, 0) := by
  have := h (fun q : Nat × Nat × Nat × Int32 × Int32 × Int32 × JS => jLf (jCall jmt jbud d) jbud (fun j => (jmt j).rk) none mX2_weigh (jqV Q) (2, [some (.ref (q.1)), some (.ref (q.2.1)), some (.ref (q.2.2.1)), some (.int (q.2.2.2.1)), some (.int (q.2.2.2.2.1)), some (.int (q.2.2.2.2.2.1)), none, none], [], q.2.2.2.2.2.2, 0, 0)) (fun q R hb hR => uX2_weigh_2 d hd  (fun _ _ _ _ _ _ _ => hR _) hb)
  exact this
def wX2_weigh  (this : Nat) (p1 : Nat) (p2 : Nat) (p3 : Int32) (p4 : Int32) (S : JS) (Q : JS → Prop) : Prop :=
  wX2_weigh_2 this p1 p2 p3 p4 p4 S Q
set_option maxRecDepth 20000 in
theorem vX2_weigh {Q : JS → Prop} (d : Nat) (hd : 5 ≤ d) {this : Nat} {p1 : Nat} {p2 : Nat} {p3 : Int32} {p4 : Int32} {S : JS} (h : wX2_weigh this p1 p2 p3 p4 S Q) : jCall jmt jbud d 21 [.ref this, .ref p1, .ref p2, .int p3, .int p4] S (jqV Q) := by
  obtain ⟨d, rfl⟩ : ∃ d2, d = d2 + 1 := ⟨d - 1, by omega⟩
  have hd : 4 ≤ d := by omega
  have hc := jCall_mono jmt jbud d
  unfold wX2_weigh at h
  refine ⟨Nat.le_of_ble_eq_true rfl, ?_⟩
  show jLf (jCall jmt jbud d) jbud (fun j => (jmt j).rk) none mX2_weigh (jqV Q) (0, [some (.ref this), some (.ref p1), some (.ref p2), some (.int p3), some (.int p4), none, none, none], [], S, 0, 0)
  refine jLf.bk hc 2 [] [some (.ref this), some (.ref p1), some (.ref p2), some (.int p3), some (.int p4), some (.int p4), none, none] [] S rfl rfl rfl trivial ?_
  exact tX2_weigh_2 d hd  h
def bX2_leastUnwarned_4   (X4 : Nat → Nat → Nat → Int32 → Int32 → Int32 → Int32 → Int32 → JS → Prop) (l0 : Nat) (l1 : Nat) (l2 : Nat) (l3 : Int32) (l4 : Int32) (l5 : Int32) (l6 : Int32) (l7 : Int32) (S : JS) (Q : Int32 → JS → Prop) : Prop :=
  (l5 < l7 → jA S l0 2 ∧ (¬ jR S l0 0 = none ∧ (wX11_placeOf l3 l4 S (fun r4 S3 => jA S3 (jr S l0 0) 13 ∧ (vp_in r4 (jZ S3 (jr S l0 0)) ∧ (Q (l6 - (jI S3 (jr S l0 0) r4.toNatClampNeg)) S3)))))) ∧ (¬ (l5 < l7) → jA S l2 1 ∧ (wX1_allDanger l2 l1 l7 S (fun r8 S7 => ∀ x10 : Int32, x10 = (l6 + r8) → (∀ x11 : Int32, x11 = (l7 + 1) → (X4 l0 l1 l2 l3 l4 l5 x10 x11 S7)))))
set_option maxRecDepth 20000 in
theorem uX2_leastUnwarned_4 {Q : Int32 → JS → Prop}  (d : Nat) (hd : 3 ≤ d) {X4 : Nat → Nat → Nat → Int32 → Int32 → Int32 → Int32 → Int32 → JS → Prop} (hX4 : ∀ l0 l1 l2 l3 l4 l5 l6 l7 S, X4 l0 l1 l2 l3 l4 l5 l6 l7 S → jLf (jCall jmt jbud d) jbud (fun j => (jmt j).rk) none mX2_leastUnwarned (jqI Q) (4, [some (.ref l0), some (.ref l1), some (.ref l2), some (.int l3), some (.int l4), some (.int l5), some (.int l6), some (.int l7)], [], S, 0, 0)) {l0 : Nat} {l1 : Nat} {l2 : Nat} {l3 : Int32} {l4 : Int32} {l5 : Int32} {l6 : Int32} {l7 : Int32} {S : JS} (h : bX2_leastUnwarned_4 X4 l0 l1 l2 l3 l4 l5 l6 l7 S Q) : jLf (jCall jmt jbud d) jbud (fun j => (jmt j).rk) none mX2_leastUnwarned (jqI Q) (4, [some (.ref l0), some (.ref l1), some (.ref l2), some (.int l3), some (.int l4), some (.int l5), some (.int l6), some (.int l7)], [], S, 0, 0) := by
  have hc := jCall_mono jmt jbud d
  unfold bX2_leastUnwarned_4 at h
  refine jLf.bk hc 2 [] [some (.ref l0), some (.ref l1), some (.ref l2), some (.int l3), some (.int l4), some (.int l5), some (.int l6), some (.int l7)] [.int l5, .int l7] S rfl rfl rfl trivial ?_
  refine jLf.two hc _ rfl (gs := []) (p1 := l5 < l7) (p2 := ¬ (l5 < l7)) (c1 := (16, [some (.ref l0), some (.ref l1), some (.ref l2), some (.int l3), some (.int l4), some (.int l5), some (.int l6), some (.int l7)], [], S, 0, 0)) (c2 := (7, [some (.ref l0), some (.ref l1), some (.ref l2), some (.int l3), some (.int l4), some (.int l5), some (.int l6), some (.int l7)], [], S, 0, 0)) rfl trivial (fun hz => ?_) (fun hz => ?_)
  · have h := h.1 hz
    obtain ⟨g1, g2, h⟩ := h
    refine jLf.bk hc 5 [jA S l0 2, ¬ jR S l0 0 = none] [some (.ref l0), some (.ref l1), some (.ref l2), some (.int l3), some (.int l4), some (.int l5), some (.int l6), some (.int l7)] [.int l4, .int l3, .ref (jr S l0 0), .int l6] S rfl rfl rfl ⟨g1, g2⟩ ?_
    refine jLf.inv hc _ rfl (gs := [2 ≤ ([.int l4, .int l3, .ref (jr S l0 0), .int l6] : List Value).length, (([.ref (jr S l0 0), .int l6] : List Value).map fun v => v.category).sum ≤ 8, 0 ≤ 0, 0 ≤ 0]) (k := 146) (args := [.int l3, .int l4]) (r := [.ref (jr S l0 0), .int l6]) (a := 0) (b := 0) rfl ⟨Nat.le_of_ble_eq_true rfl, Nat.le_of_ble_eq_true rfl, Nat.zero_le _, Nat.zero_le _⟩ (vX11_placeOf d (by omega) h) ?_
    rintro v S3 ⟨r4, rfl, h⟩
    show jLf (jCall jmt jbud d) jbud (fun j => (jmt j).rk) none mX2_leastUnwarned (jqI Q) (22, [some (.ref l0), some (.ref l1), some (.ref l2), some (.int l3), some (.int l4), some (.int l5), some (.int l6), some (.int l7)], [.int r4, .ref (jr S l0 0), .int l6], S3, 0, 0)
    obtain ⟨g5, g6, h⟩ := h
    refine jLf.bk hc 2 [jA S3 (jr S l0 0) 13, vp_in r4 (jZ S3 (jr S l0 0))] [some (.ref l0), some (.ref l1), some (.ref l2), some (.int l3), some (.int l4), some (.int l5), some (.int l6), some (.int l7)] [.int (l6 - (jI S3 (jr S l0 0) r4.toNatClampNeg))] S3 rfl rfl rfl ⟨g5, g6⟩ ?_
    exact jLf.ret hc _ rfl (gs := [True]) (v := some (.int (l6 - (jI S3 (jr S l0 0) r4.toNatClampNeg)))) rfl trivial ⟨l6 - (jI S3 (jr S l0 0) r4.toNatClampNeg), rfl, h⟩
  · have h := h.2 hz
    refine jLf.bk hc 4 [] [some (.ref l0), some (.ref l1), some (.ref l2), some (.int l3), some (.int l4), some (.int l5), some (.int l6), some (.int l7)] [.int l7, .ref l1, .ref l2, .int l6] S rfl rfl rfl trivial ?_
    obtain ⟨g9, h⟩ := h
    refine jLf.inv hc _ rfl (gs := [jA S l2 1, (([.int l6] : List Value).map fun v => v.category).sum ≤ 8, 0 ≤ 0, 0 ≤ 0]) (k := 18) (args := [.ref l2, .ref l1, .int l7]) (r := [.int l6]) (a := 0) (b := 0) rfl ⟨g9, Nat.le_of_ble_eq_true rfl, Nat.zero_le _, Nat.zero_le _⟩ (vX1_allDanger d (by omega) h) ?_
    rintro v S7 ⟨r8, rfl, h⟩
    show jLf (jCall jmt jbud d) jbud (fun j => (jmt j).rk) none mX2_leastUnwarned (jqI Q) (12, [some (.ref l0), some (.ref l1), some (.ref l2), some (.int l3), some (.int l4), some (.int l5), some (.int l6), some (.int l7)], [.int r8, .int l6], S7, 0, 0)
    refine jLf.bk hc 2 [] [some (.ref l0), some (.ref l1), some (.ref l2), some (.int l3), some (.int l4), some (.int l5), some (.int (l6 + r8)), some (.int l7)] [] S7 rfl rfl rfl trivial ?_
    generalize ex10 : (l6 + r8 : Int32) = x10
    have h := h x10 ex10.symm
    refine jLf.bk hc 1 [] [some (.ref l0), some (.ref l1), some (.ref l2), some (.int l3), some (.int l4), some (.int l5), some (.int x10), some (.int (l7 + 1))] [] S7 rfl rfl rfl trivial ?_
    generalize ex11 : (l7 + 1 : Int32) = x11
    have h := h x11 ex11.symm
    refine jLf.one hc _ rfl (gs := []) (c := (4, [some (.ref l0), some (.ref l1), some (.ref l2), some (.int l3), some (.int l4), some (.int l5), some (.int x10), some (.int x11)], [], S7, 0, 0)) rfl trivial ?_
    exact hX4 _ _ _ _ _ _ _ _ _ h
def wX2_leastUnwarned_4   (l0 : Nat) (l1 : Nat) (l2 : Nat) (l3 : Int32) (l4 : Int32) (l5 : Int32) (l6 : Int32) (l7 : Int32) (S : JS) (Q : Int32 → JS → Prop) : Prop :=
  jLoop (fun (X4 : Nat × Nat × Nat × Int32 × Int32 × Int32 × Int32 × Int32 × JS → Prop) q => bX2_leastUnwarned_4 (fun l0 l1 l2 l3 l4 l5 l6 l7 S => X4 (l0, l1, l2, l3, l4, l5, l6, l7, S)) q.1 q.2.1 q.2.2.1 q.2.2.2.1 q.2.2.2.2.1 q.2.2.2.2.2.1 q.2.2.2.2.2.2.1 q.2.2.2.2.2.2.2.1 q.2.2.2.2.2.2.2.2 Q) (l0, l1, l2, l3, l4, l5, l6, l7, S)
set_option maxRecDepth 20000 in
theorem tX2_leastUnwarned_4 {Q : Int32 → JS → Prop}  (d : Nat) (hd : 3 ≤ d) {l0 : Nat} {l1 : Nat} {l2 : Nat} {l3 : Int32} {l4 : Int32} {l5 : Int32} {l6 : Int32} {l7 : Int32} {S : JS} (h : wX2_leastUnwarned_4 l0 l1 l2 l3 l4 l5 l6 l7 S Q) : jLf (jCall jmt jbud d) jbud (fun j => (jmt j).rk) none mX2_leastUnwarned (jqI Q) (4, [some (.ref l0), some (.ref l1), some (.ref l2), some (.int l3), some (.int l4), some (.int l5), some (.int l6), some (.int l7)], [], S, 0, 0) := by
  have := h (fun q : Nat × Nat × Nat × Int32 × Int32 × Int32 × Int32 × Int32 × JS => jLf (jCall jmt jbud d) jbud (fun j => (jmt j).rk) none mX2_leastUnwarned (jqI Q) (4, [some (.ref (q.1)), some (.ref (q.2.1)), some (.ref (q.2.2.1)), some (.int (q.2.2.2.1)), some (.int (q.2.2.2.2.1)), some (.int (q.2.2.2.2.2.1)), some (.int (q.2.2.2.2.2.2.1)), some (.int (q.2.2.2.2.2.2.2.1))], [], q.2.2.2.2.2.2.2.2, 0, 0)) (fun q R hb hR => uX2_leastUnwarned_4 d hd  (fun _ _ _ _ _ _ _ _ _ => hR _) hb)
  exact this
def wX2_leastUnwarned  (this : Nat) (p1 : Nat) (p2 : Nat) (p3 : Int32) (p4 : Int32) (p5 : Int32) (S : JS) (Q : Int32 → JS → Prop) : Prop :=
  wX2_leastUnwarned_4 this p1 p2 p3 p4 p5 0 p4 S Q
set_option maxRecDepth 20000 in
theorem vX2_leastUnwarned {Q : Int32 → JS → Prop} (d : Nat) (hd : 4 ≤ d) {this : Nat} {p1 : Nat} {p2 : Nat} {p3 : Int32} {p4 : Int32} {p5 : Int32} {S : JS} (h : wX2_leastUnwarned this p1 p2 p3 p4 p5 S Q) : jCall jmt jbud d 24 [.ref this, .ref p1, .ref p2, .int p3, .int p4, .int p5] S (jqI Q) := by
  obtain ⟨d, rfl⟩ : ∃ d2, d = d2 + 1 := ⟨d - 1, by omega⟩
  have hd : 3 ≤ d := by omega
  have hc := jCall_mono jmt jbud d
  unfold wX2_leastUnwarned at h
  refine ⟨Nat.le_of_ble_eq_true rfl, ?_⟩
  show jLf (jCall jmt jbud d) jbud (fun j => (jmt j).rk) none mX2_leastUnwarned (jqI Q) (0, [some (.ref this), some (.ref p1), some (.ref p2), some (.int p3), some (.int p4), some (.int p5), none, none], [], S, 0, 0)
  refine jLf.bk hc 4 [] [some (.ref this), some (.ref p1), some (.ref p2), some (.int p3), some (.int p4), some (.int p5), some (.int 0), some (.int p4)] [] S rfl rfl rfl trivial ?_
  exact tX2_leastUnwarned_4 d hd  h
def bX2_rockOfWay_4   (X4 : Nat → Nat → Int32 → Int32 → Int32 → Int32 → JS → Prop) (l0 : Nat) (l1 : Nat) (l3 : Int32) (l4 : Int32) (l5 : Int32) (l6 : Int32) (S : JS) (Q : Int32 → JS → Prop) : Prop :=
  ((l3 + l4) ≤ l6 → Q l5 S) ∧ (¬ ((l3 + l4) ≤ l6) → jA S l0 2 ∧ (wX2_bestStep l0 l1 l5 l6 S (fun r2 S1 => ∀ x4 : Int32, x4 = (l6 + 1) → (X4 l0 l1 l3 l4 r2 x4 S1))))
set_option maxRecDepth 20000 in
theorem uX2_rockOfWay_4 {Q : Int32 → JS → Prop}  (d : Nat) (hd : 3 ≤ d) {X4 : Nat → Nat → Int32 → Int32 → Int32 → Int32 → JS → Prop} (hX4 : ∀ l0 l1 l3 l4 l5 l6 S, X4 l0 l1 l3 l4 l5 l6 S → jLf (jCall jmt jbud d) jbud (fun j => (jmt j).rk) none mX2_rockOfWay (jqI Q) (4, [some (.ref l0), some (.ref l1), none, some (.int l3), some (.int l4), some (.int l5), some (.int l6)], [], S, 0, 0)) {l0 : Nat} {l1 : Nat} {l3 : Int32} {l4 : Int32} {l5 : Int32} {l6 : Int32} {S : JS} (h : bX2_rockOfWay_4 X4 l0 l1 l3 l4 l5 l6 S Q) : jLf (jCall jmt jbud d) jbud (fun j => (jmt j).rk) none mX2_rockOfWay (jqI Q) (4, [some (.ref l0), some (.ref l1), none, some (.int l3), some (.int l4), some (.int l5), some (.int l6)], [], S, 0, 0) := by
  have hc := jCall_mono jmt jbud d
  unfold bX2_rockOfWay_4 at h
  refine jLf.bk hc 4 [] [some (.ref l0), some (.ref l1), none, some (.int l3), some (.int l4), some (.int l5), some (.int l6)] [.int (l3 + l4), .int l6] S rfl rfl rfl trivial ?_
  refine jLf.two hc _ rfl (gs := []) (p1 := (l3 + l4) ≤ l6) (p2 := ¬ ((l3 + l4) ≤ l6)) (c1 := (17, [some (.ref l0), some (.ref l1), none, some (.int l3), some (.int l4), some (.int l5), some (.int l6)], [], S, 0, 0)) (c2 := (9, [some (.ref l0), some (.ref l1), none, some (.int l3), some (.int l4), some (.int l5), some (.int l6)], [], S, 0, 0)) rfl trivial (fun hz => ?_) (fun hz => ?_)
  · have h := h.1 hz
    refine jLf.bk hc 1 [] [some (.ref l0), some (.ref l1), none, some (.int l3), some (.int l4), some (.int l5), some (.int l6)] [.int l5] S rfl rfl rfl trivial ?_
    exact jLf.ret hc _ rfl (gs := [True]) (v := some (.int l5)) rfl trivial ⟨l5, rfl, h⟩
  · have h := h.2 hz
    refine jLf.bk hc 4 [] [some (.ref l0), some (.ref l1), none, some (.int l3), some (.int l4), some (.int l5), some (.int l6)] [.int l6, .int l5, .ref l1, .ref l0] S rfl rfl rfl trivial ?_
    obtain ⟨g3, h⟩ := h
    refine jLf.inv hc _ rfl (gs := [jA S l0 2, (([] : List Value).map fun v => v.category).sum ≤ 8, 0 ≤ 0, 0 ≤ 0]) (k := 23) (args := [.ref l0, .ref l1, .int l5, .int l6]) (r := []) (a := 0) (b := 0) rfl ⟨g3, Nat.le_of_ble_eq_true rfl, Nat.zero_le _, Nat.zero_le _⟩ (vX2_bestStep d (by omega) h) ?_
    rintro v S1 ⟨r2, rfl, h⟩
    show jLf (jCall jmt jbud d) jbud (fun j => (jmt j).rk) none mX2_rockOfWay (jqI Q) (14, [some (.ref l0), some (.ref l1), none, some (.int l3), some (.int l4), some (.int l5), some (.int l6)], [.int r2], S1, 0, 0)
    refine jLf.bk hc 2 [] [some (.ref l0), some (.ref l1), none, some (.int l3), some (.int l4), some (.int r2), some (.int (l6 + 1))] [] S1 rfl rfl rfl trivial ?_
    generalize ex4 : (l6 + 1 : Int32) = x4
    have h := h x4 ex4.symm
    refine jLf.one hc _ rfl (gs := []) (c := (4, [some (.ref l0), some (.ref l1), none, some (.int l3), some (.int l4), some (.int r2), some (.int x4)], [], S1, 0, 0)) rfl trivial ?_
    exact hX4 _ _ _ _ _ _ _ h
def wX2_rockOfWay_4   (l0 : Nat) (l1 : Nat) (l3 : Int32) (l4 : Int32) (l5 : Int32) (l6 : Int32) (S : JS) (Q : Int32 → JS → Prop) : Prop :=
  jLoop (fun (X4 : Nat × Nat × Int32 × Int32 × Int32 × Int32 × JS → Prop) q => bX2_rockOfWay_4 (fun l0 l1 l3 l4 l5 l6 S => X4 (l0, l1, l3, l4, l5, l6, S)) q.1 q.2.1 q.2.2.1 q.2.2.2.1 q.2.2.2.2.1 q.2.2.2.2.2.1 q.2.2.2.2.2.2 Q) (l0, l1, l3, l4, l5, l6, S)
set_option maxRecDepth 20000 in
theorem tX2_rockOfWay_4 {Q : Int32 → JS → Prop}  (d : Nat) (hd : 3 ≤ d) {l0 : Nat} {l1 : Nat} {l3 : Int32} {l4 : Int32} {l5 : Int32} {l6 : Int32} {S : JS} (h : wX2_rockOfWay_4 l0 l1 l3 l4 l5 l6 S Q) : jLf (jCall jmt jbud d) jbud (fun j => (jmt j).rk) none mX2_rockOfWay (jqI Q) (4, [some (.ref l0), some (.ref l1), none, some (.int l3), some (.int l4), some (.int l5), some (.int l6)], [], S, 0, 0) := by
  have := h (fun q : Nat × Nat × Int32 × Int32 × Int32 × Int32 × JS => jLf (jCall jmt jbud d) jbud (fun j => (jmt j).rk) none mX2_rockOfWay (jqI Q) (4, [some (.ref (q.1)), some (.ref (q.2.1)), none, some (.int (q.2.2.1)), some (.int (q.2.2.2.1)), some (.int (q.2.2.2.2.1)), some (.int (q.2.2.2.2.2.1))], [], q.2.2.2.2.2.2, 0, 0)) (fun q R hb hR => uX2_rockOfWay_4 d hd  (fun _ _ _ _ _ _ _ => hR _) hb)
  exact this
def wX2_rockOfWay  (this : Nat) (p1 : Nat) (p2 : Int32) (p3 : Int32) (p4 : Int32) (S : JS) (Q : Int32 → JS → Prop) : Prop :=
  wX2_rockOfWay_4 this p1 p3 p4 p2 p3 S Q
set_option maxRecDepth 20000 in
theorem vX2_rockOfWay {Q : Int32 → JS → Prop} (d : Nat) (hd : 4 ≤ d) {this : Nat} {p1 : Nat} {p2 : Int32} {p3 : Int32} {p4 : Int32} {S : JS} (h : wX2_rockOfWay this p1 p2 p3 p4 S Q) : jCall jmt jbud d 25 [.ref this, .ref p1, .int p2, .int p3, .int p4] S (jqI Q) := by
  obtain ⟨d, rfl⟩ : ∃ d2, d = d2 + 1 := ⟨d - 1, by omega⟩
  have hd : 3 ≤ d := by omega
  have hc := jCall_mono jmt jbud d
  unfold wX2_rockOfWay at h
  refine ⟨Nat.le_of_ble_eq_true rfl, ?_⟩
  show jLf (jCall jmt jbud d) jbud (fun j => (jmt j).rk) none mX2_rockOfWay (jqI Q) (0, [some (.ref this), some (.ref p1), some (.int p2), some (.int p3), some (.int p4), none, none], [], S, 0, 0)
  refine jLf.bk hc 4 [] [some (.ref this), some (.ref p1), some (.int p2), some (.int p3), some (.int p4), some (.int p2), some (.int p3)] [] S rfl rfl rfl trivial ?_
  refine jLf.sub [some (.ref this), some (.ref p1), none, some (.int p3), some (.int p4), some (.int p2), some (.int p3)] (jle_same (jle_same (jle_none (jle_same (jle_same (jle_same (jle_same (jle_nil _)))))))) ?_
  exact tX2_rockOfWay_4 d hd  h
def wJ7_copyOf_59c91  (p1 : Nat) (p2 : Int32) (S : JS) (Q : Option Nat → JS → Prop) : Prop :=
  jA S p1 13 ∧ ((¬ p2 = (Int32.ofNat (jZ S p1)) → ¬ p2 < 0 ∧ (p2.toNatClampNeg ≤ 1000000 ∧ (p2.toNatClampNeg ≤ 400 ∧ (jN S < 1000000 ∧ (∀ h7 : Nat, h7 = jN S → (∀ S2 : JS, S2 = uNew S 13 (p2.toNatClampNeg) → (jA S2 p1 13 ∧ (jA S2 h7 13 ∧ (¬ (0 : Int32) < 0 ∧ (¬ (if p2 < (Int32.ofNat (jZ S2 p1)) then p2 else (Int32.ofNat (jZ S2 p1))) < 0 ∧ ((0 : Int32).toNatClampNeg + (if p2 < (Int32.ofNat (jZ S2 p1)) then p2 else (Int32.ofNat (jZ S2 p1))).toNatClampNeg ≤ jZ S2 p1 ∧ ((0 : Int32).toNatClampNeg + (if p2 < (Int32.ofNat (jZ S2 p1)) then p2 else (Int32.ofNat (jZ S2 p1))).toNatClampNeg ≤ jZ S2 h7 ∧ (∀ S14 : JS, S14 = uIf S2 h7 (va_cpy (jI S2 p1) (jI S2 h7) (0 : Int32).toNatClampNeg (0 : Int32).toNatClampNeg (if p2 < (Int32.ofNat (jZ S2 p1)) then p2 else (Int32.ofNat (jZ S2 p1))).toNatClampNeg) → (Q (some h7) S14)))))))))))))) ∧ (p2 = (Int32.ofNat (jZ S p1)) → jZ S p1 ≤ 400 ∧ (jN S < 1000000 ∧ (∀ h18 : Nat, h18 = jN S → (∀ S15 : JS, S15 = uIf (uNew S 13 (jZ S p1)) (jN S) (jI S p1) → (jA S15 h18 13 ∧ (Q (some h18) S15)))))))
set_option maxRecDepth 20000 in
theorem vJ7_copyOf_59c91 {Q : Option Nat → JS → Prop} (d : Nat) (hd : 1 ≤ d) {p1 : Nat} {p2 : Int32} {S : JS} (h : wJ7_copyOf_59c91 p1 p2 S Q) : jCall jmt jbud d 235 [.ref p1, .int p2] S (jqA Q) := by
  obtain ⟨d, rfl⟩ : ∃ d2, d = d2 + 1 := ⟨d - 1, by omega⟩
  have hd : 0 ≤ d := by omega
  have hc := jCall_mono jmt jbud d
  unfold wJ7_copyOf_59c91 at h
  refine ⟨Nat.le_of_ble_eq_true rfl, ?_⟩
  show jLf (jCall jmt jbud d) jbud (fun j => (jmt j).rk) none mJ7_copyOf_59c91 (jqA Q) (0, [some (.ref p1), some (.int p2), none], [], S, 1, 400)
  obtain ⟨g1, h⟩ := h
  refine jLf.bk hc 3 [jA S p1 13] [some (.ref p1), some (.int p2), none] [.int (Int32.ofNat (jZ S p1)), .int p2] S rfl rfl rfl g1 ?_
  refine jLf.two hc _ rfl (gs := []) (p1 := ¬ p2 = (Int32.ofNat (jZ S p1))) (p2 := ¬ (¬ p2 = (Int32.ofNat (jZ S p1)))) (c1 := (8, [some (.ref p1), some (.int p2), none], [], S, 1, 400)) (c2 := (4, [some (.ref p1), some (.int p2), none], [], S, 1, 400)) rfl trivial (fun hz => ?_) (fun hz => ?_)
  · have h := h.1 hz
    refine jLf.bk hc 1 [] [some (.ref p1), some (.int p2), none] [.int p2] S rfl rfl rfl trivial ?_
    obtain ⟨g3, g4, g5, g6, h⟩ := h
    refine jLf.one hc _ rfl (gs := [¬ p2 < 0, p2.toNatClampNeg ≤ 1000000, 1 ≤ 1, p2.toNatClampNeg ≤ 400, jN S < 1000000]) (c := (10, [some (.ref p1), some (.int p2), none], [.ref (jN S)], (uNew S 13 (p2.toNatClampNeg)), 0, (400 - (p2.toNatClampNeg)))) rfl ⟨g3, g4, Nat.le_of_ble_eq_true rfl, g5, g6⟩ ?_
    generalize eS2 : uNew S 13 (p2.toNatClampNeg) = S2
    generalize eh7 : jN S = h7
    have h := h h7 eh7.symm S2 eS2.symm
    obtain ⟨g8, g9, g10, g11, g12, g13, h⟩ := h
    refine jLf.bk hc 10 [jA S2 p1 13, (([.int 0, .ref h7, .int 0, .ref p1] : List Value).map fun v => v.category).sum ≤ 8, jA S2 p1 13, jA S2 h7 13, ¬ (0 : Int32) < 0, ¬ (0 : Int32) < 0, ¬ (if p2 < (Int32.ofNat (jZ S2 p1)) then p2 else (Int32.ofNat (jZ S2 p1))) < 0, (0 : Int32).toNatClampNeg + (if p2 < (Int32.ofNat (jZ S2 p1)) then p2 else (Int32.ofNat (jZ S2 p1))).toNatClampNeg ≤ jZ S2 p1, (0 : Int32).toNatClampNeg + (if p2 < (Int32.ofNat (jZ S2 p1)) then p2 else (Int32.ofNat (jZ S2 p1))).toNatClampNeg ≤ jZ S2 h7, (([] : List Value).map fun v => v.category).sum ≤ 8] [some (.ref p1), some (.int p2), some (.ref h7)] [] (uIf S2 h7 (va_cpy (jI S2 p1) (jI S2 h7) (0 : Int32).toNatClampNeg (0 : Int32).toNatClampNeg (if p2 < (Int32.ofNat (jZ S2 p1)) then p2 else (Int32.ofNat (jZ S2 p1))).toNatClampNeg)) rfl rfl rfl ⟨g8, (Nat.le_of_ble_eq_true rfl), g8, g9, g10, g10, g11, g12, g13, (Nat.le_of_ble_eq_true rfl)⟩ ?_
    generalize eS14 : uIf S2 h7 (va_cpy (jI S2 p1) (jI S2 h7) (0 : Int32).toNatClampNeg (0 : Int32).toNatClampNeg (if p2 < (Int32.ofNat (jZ S2 p1)) then p2 else (Int32.ofNat (jZ S2 p1))).toNatClampNeg) = S14
    have h := h S14 eS14.symm
    refine jLf.bk hc 1 [] [some (.ref p1), some (.int p2), some (.ref h7)] [.ref h7] S14 rfl rfl rfl trivial ?_
    exact jLf.ret hc _ rfl (gs := [True]) (v := some (.ref h7)) rfl trivial ⟨(some h7), rfl, h⟩
  · have h := h.2 (Classical.not_not.mp hz)
    refine jLf.bk hc 1 [] [some (.ref p1), some (.int p2), none] [.ref p1] S rfl rfl rfl trivial ?_
    obtain ⟨g16, g17, h⟩ := h
    refine jLf.one hc _ rfl (gs := [jA S p1 13, 1 ≤ 1, jZ S p1 ≤ 400, jN S < 1000000, (([] : List Value).map fun v => v.category).sum ≤ 8]) (c := (6, [some (.ref p1), some (.int p2), none], [.ref (jN S)], (uIf (uNew S 13 (jZ S p1)) (jN S) (jI S p1)), 0, (400 - (jZ S p1)))) rfl ⟨g1, Nat.le_of_ble_eq_true rfl, g16, g17, Nat.le_of_ble_eq_true rfl⟩ ?_
    generalize eS15 : uIf (uNew S 13 (jZ S p1)) (jN S) (jI S p1) = S15
    generalize eh18 : jN S = h18
    have h := h h18 eh18.symm S15 eS15.symm
    obtain ⟨g19, h⟩ := h
    refine jLf.bk hc 1 [jA S15 h18 13] [some (.ref p1), some (.int p2), none] [.ref h18] S15 rfl rfl rfl g19 ?_
    exact jLf.ret hc _ rfl (gs := [True]) (v := some (.ref h18)) rfl trivial ⟨(some h18), rfl, h⟩
def wX3_init  (this : Nat) (p1 : Nat) (S : JS) (Q : JS → Prop) : Prop :=
  jA S p1 5 ∧ (jA S this 3 ∧ (∀ S3 : JS, S3 = uI S this 0 (jI S p1 7) → (jA S3 p1 5 ∧ (¬ jR S3 p1 2 = none ∧ (jA S3 this 3 ∧ (wJ7_copyOf_59c91 (jr S3 p1 2) (jI S3 this 0) S3 (fun o42 S7 => ∃ r8, o42 = some r8 ∧ (jA S7 this 3 ∧ (∀ S10 : JS, S10 = uR S7 this 1 (some r8) → (jA S10 p1 5 ∧ (¬ jR S10 p1 3 = none ∧ (jA S10 this 3 ∧ (wJ7_copyOf_59c91 (jr S10 p1 3) (jI S10 this 0) S10 (fun o41 S14 => ∃ r15, o41 = some r15 ∧ (jA S14 this 3 ∧ (∀ S17 : JS, S17 = uR S14 this 2 (some r15) → (jA S17 p1 5 ∧ (¬ jR S17 p1 4 = none ∧ (jA S17 this 3 ∧ (wJ7_copyOf_59c91 (jr S17 p1 4) (jI S17 this 0) S17 (fun o40 S21 => ∃ r22, o40 = some r22 ∧ (jA S21 this 3 ∧ (∀ S24 : JS, S24 = uR S21 this 3 (some r22) → (jA S24 p1 5 ∧ (¬ jR S24 p1 5 = none ∧ (jA S24 this 3 ∧ (wJ7_copyOf_59c91 (jr S24 p1 5) (jI S24 this 0) S24 (fun o39 S28 => ∃ r29, o39 = some r29 ∧ (jA S28 this 3 ∧ (∀ S31 : JS, S31 = uR S28 this 4 (some r29) → (jA S31 p1 5 ∧ (¬ jR S31 p1 6 = none ∧ (wJ7_copyOf_59c91 (jr S31 p1 6) (jI S31 p1 8) S31 (fun o38 S34 => ∃ r35, o38 = some r35 ∧ (jA S34 this 3 ∧ (∀ S37 : JS, S37 = uR S34 this 5 (some r35) → (Q S37)))))))))))))))))))))))))))))))))))))
set_option maxRecDepth 20000 in
theorem vX3_init {Q : JS → Prop} (d : Nat) (hd : 2 ≤ d) {this : Nat} {p1 : Nat} {S : JS} (h : wX3_init this p1 S Q) : jCall jmt jbud d 26 [.ref this, .ref p1] S (jqV Q) := by
  obtain ⟨d, rfl⟩ : ∃ d2, d = d2 + 1 := ⟨d - 1, by omega⟩
  have hd : 1 ≤ d := by omega
  have hc := jCall_mono jmt jbud d
  unfold wX3_init at h
  refine ⟨Nat.le_of_ble_eq_true rfl, ?_⟩
  show jLf (jCall jmt jbud d) jbud (fun j => (jmt j).rk) none mX3_init (jqV Q) (0, [some (.ref this), some (.ref p1)], [], S, 5, 2000)
  obtain ⟨g1, g2, h⟩ := h
  refine jLf.bk hc 6 [(([] : List Value).map fun v => v.category).sum ≤ 8, jA S p1 5, jA S this 3] [some (.ref this), some (.ref p1)] [] (uI S this 0 (jI S p1 7)) rfl rfl rfl ⟨(Nat.le_of_ble_eq_true rfl), g1, g2⟩ ?_
  generalize eS3 : uI S this 0 (jI S p1 7) = S3
  have h := h S3 eS3.symm
  obtain ⟨g4, g5, g6, h⟩ := h
  refine jLf.bk hc 5 [jA S3 p1 5, ¬ jR S3 p1 2 = none, jA S3 this 3] [some (.ref this), some (.ref p1)] [.int (jI S3 this 0), .ref (jr S3 p1 2), .ref this] S3 rfl rfl rfl ⟨g4, g5, g6⟩ ?_
  refine jLf.inv hc _ rfl (gs := [2 ≤ ([.int (jI S3 this 0), .ref (jr S3 p1 2), .ref this] : List Value).length, (([.ref this] : List Value).map fun v => v.category).sum ≤ 8, 1 ≤ 5, 400 ≤ 2000]) (k := 235) (args := [.ref (jr S3 p1 2), .int (jI S3 this 0)]) (r := [.ref this]) (a := 4) (b := 1600) rfl ⟨Nat.le_of_ble_eq_true rfl, Nat.le_of_ble_eq_true rfl, Nat.le_of_ble_eq_true rfl, Nat.le_of_ble_eq_true rfl⟩ (vJ7_copyOf_59c91 d (by omega) h) ?_
  rintro v S7 ⟨o42, rfl, r8, rfl, h⟩
  show jLf (jCall jmt jbud d) jbud (fun j => (jmt j).rk) none mX3_init (jqV Q) (12, [some (.ref this), some (.ref p1)], [.ref r8, .ref this], S7, 4, 1600)
  obtain ⟨g9, h⟩ := h
  refine jLf.bk hc 1 [jA S7 this 3] [some (.ref this), some (.ref p1)] [] (uR S7 this 1 (some r8)) rfl rfl rfl g9 ?_
  generalize eS10 : uR S7 this 1 (some r8) = S10
  have h := h S10 eS10.symm
  obtain ⟨g11, g12, g13, h⟩ := h
  refine jLf.bk hc 5 [jA S10 p1 5, ¬ jR S10 p1 3 = none, jA S10 this 3] [some (.ref this), some (.ref p1)] [.int (jI S10 this 0), .ref (jr S10 p1 3), .ref this] S10 rfl rfl rfl ⟨g11, g12, g13⟩ ?_
  refine jLf.inv hc _ rfl (gs := [2 ≤ ([.int (jI S10 this 0), .ref (jr S10 p1 3), .ref this] : List Value).length, (([.ref this] : List Value).map fun v => v.category).sum ≤ 8, 1 ≤ 4, 400 ≤ 1600]) (k := 235) (args := [.ref (jr S10 p1 3), .int (jI S10 this 0)]) (r := [.ref this]) (a := 3) (b := 1200) rfl ⟨Nat.le_of_ble_eq_true rfl, Nat.le_of_ble_eq_true rfl, Nat.le_of_ble_eq_true rfl, Nat.le_of_ble_eq_true rfl⟩ (vJ7_copyOf_59c91 d (by omega) h) ?_
  rintro v S14 ⟨o41, rfl, r15, rfl, h⟩
  show jLf (jCall jmt jbud d) jbud (fun j => (jmt j).rk) none mX3_init (jqV Q) (19, [some (.ref this), some (.ref p1)], [.ref r15, .ref this], S14, 3, 1200)
  obtain ⟨g16, h⟩ := h
  refine jLf.bk hc 1 [jA S14 this 3] [some (.ref this), some (.ref p1)] [] (uR S14 this 2 (some r15)) rfl rfl rfl g16 ?_
  generalize eS17 : uR S14 this 2 (some r15) = S17
  have h := h S17 eS17.symm
  obtain ⟨g18, g19, g20, h⟩ := h
  refine jLf.bk hc 5 [jA S17 p1 5, ¬ jR S17 p1 4 = none, jA S17 this 3] [some (.ref this), some (.ref p1)] [.int (jI S17 this 0), .ref (jr S17 p1 4), .ref this] S17 rfl rfl rfl ⟨g18, g19, g20⟩ ?_
  refine jLf.inv hc _ rfl (gs := [2 ≤ ([.int (jI S17 this 0), .ref (jr S17 p1 4), .ref this] : List Value).length, (([.ref this] : List Value).map fun v => v.category).sum ≤ 8, 1 ≤ 3, 400 ≤ 1200]) (k := 235) (args := [.ref (jr S17 p1 4), .int (jI S17 this 0)]) (r := [.ref this]) (a := 2) (b := 800) rfl ⟨Nat.le_of_ble_eq_true rfl, Nat.le_of_ble_eq_true rfl, Nat.le_of_ble_eq_true rfl, Nat.le_of_ble_eq_true rfl⟩ (vJ7_copyOf_59c91 d (by omega) h) ?_
  rintro v S21 ⟨o40, rfl, r22, rfl, h⟩
  show jLf (jCall jmt jbud d) jbud (fun j => (jmt j).rk) none mX3_init (jqV Q) (26, [some (.ref this), some (.ref p1)], [.ref r22, .ref this], S21, 2, 800)
  obtain ⟨g23, h⟩ := h
  refine jLf.bk hc 1 [jA S21 this 3] [some (.ref this), some (.ref p1)] [] (uR S21 this 3 (some r22)) rfl rfl rfl g23 ?_
  generalize eS24 : uR S21 this 3 (some r22) = S24
  have h := h S24 eS24.symm
  obtain ⟨g25, g26, g27, h⟩ := h
  refine jLf.bk hc 5 [jA S24 p1 5, ¬ jR S24 p1 5 = none, jA S24 this 3] [some (.ref this), some (.ref p1)] [.int (jI S24 this 0), .ref (jr S24 p1 5), .ref this] S24 rfl rfl rfl ⟨g25, g26, g27⟩ ?_
  refine jLf.inv hc _ rfl (gs := [2 ≤ ([.int (jI S24 this 0), .ref (jr S24 p1 5), .ref this] : List Value).length, (([.ref this] : List Value).map fun v => v.category).sum ≤ 8, 1 ≤ 2, 400 ≤ 800]) (k := 235) (args := [.ref (jr S24 p1 5), .int (jI S24 this 0)]) (r := [.ref this]) (a := 1) (b := 400) rfl ⟨Nat.le_of_ble_eq_true rfl, Nat.le_of_ble_eq_true rfl, Nat.le_of_ble_eq_true rfl, Nat.le_of_ble_eq_true rfl⟩ (vJ7_copyOf_59c91 d (by omega) h) ?_
  rintro v S28 ⟨o39, rfl, r29, rfl, h⟩
  show jLf (jCall jmt jbud d) jbud (fun j => (jmt j).rk) none mX3_init (jqV Q) (33, [some (.ref this), some (.ref p1)], [.ref r29, .ref this], S28, 1, 400)
  obtain ⟨g30, h⟩ := h
  refine jLf.bk hc 1 [jA S28 this 3] [some (.ref this), some (.ref p1)] [] (uR S28 this 4 (some r29)) rfl rfl rfl g30 ?_
  generalize eS31 : uR S28 this 4 (some r29) = S31
  have h := h S31 eS31.symm
  obtain ⟨g32, g33, h⟩ := h
  refine jLf.bk hc 5 [jA S31 p1 5, ¬ jR S31 p1 6 = none, jA S31 p1 5] [some (.ref this), some (.ref p1)] [.int (jI S31 p1 8), .ref (jr S31 p1 6), .ref this] S31 rfl rfl rfl ⟨g32, g33, g32⟩ ?_
  refine jLf.inv hc _ rfl (gs := [2 ≤ ([.int (jI S31 p1 8), .ref (jr S31 p1 6), .ref this] : List Value).length, (([.ref this] : List Value).map fun v => v.category).sum ≤ 8, 1 ≤ 1, 400 ≤ 400]) (k := 235) (args := [.ref (jr S31 p1 6), .int (jI S31 p1 8)]) (r := [.ref this]) (a := 0) (b := 0) rfl ⟨Nat.le_of_ble_eq_true rfl, Nat.le_of_ble_eq_true rfl, Nat.le_of_ble_eq_true rfl, Nat.le_of_ble_eq_true rfl⟩ (vJ7_copyOf_59c91 d (by omega) h) ?_
  rintro v S34 ⟨o38, rfl, r35, rfl, h⟩
  show jLf (jCall jmt jbud d) jbud (fun j => (jmt j).rk) none mX3_init (jqV Q) (40, [some (.ref this), some (.ref p1)], [.ref r35, .ref this], S34, 0, 0)
  obtain ⟨g36, h⟩ := h
  refine jLf.bk hc 1 [jA S34 this 3] [some (.ref this), some (.ref p1)] [] (uR S34 this 5 (some r35)) rfl rfl rfl g36 ?_
  generalize eS37 : uR S34 this 5 (some r35) = S37
  have h := h S37 eS37.symm
  exact jLf.ret hc _ rfl (gs := [jrt none none]) (v := none) rfl trivial ⟨rfl, h⟩
def wX4_init  (this : Nat) (S : JS) (Q : JS → Prop) : Prop :=
  jN S < 1000000 ∧ (∀ h3 : Nat, h3 = jN S → (∀ S1 : JS, S1 = uNew S 14 12 → (jA S1 this 4 ∧ (∀ S5 : JS, S5 = uR S1 this 0 (some h3) → (Q S5)))))
set_option maxRecDepth 20000 in
theorem vX4_init {Q : JS → Prop} (d : Nat) (hd : 1 ≤ d) {this : Nat} {S : JS} (h : wX4_init this S Q) : jCall jmt jbud d 27 [.ref this] S (jqV Q) := by
  obtain ⟨d, rfl⟩ : ∃ d2, d = d2 + 1 := ⟨d - 1, by omega⟩
  have hd : 0 ≤ d := by omega
  have hc := jCall_mono jmt jbud d
  unfold wX4_init at h
  refine ⟨Nat.le_of_ble_eq_true rfl, ?_⟩
  show jLf (jCall jmt jbud d) jbud (fun j => (jmt j).rk) none mX4_init (jqV Q) (0, [some (.ref this)], [], S, 1, 12)
  refine jLf.bk hc 4 [(([] : List Value).map fun v => v.category).sum ≤ 8] [some (.ref this)] [.int 12, .ref this] S rfl rfl rfl (Nat.le_of_ble_eq_true rfl) ?_
  obtain ⟨g2, h⟩ := h
  refine jLf.one hc _ rfl (gs := [¬ (12 : Int32) < 0, 12 ≤ 1000000, 1 ≤ 1, 12 ≤ 12, jN S < 1000000]) (c := (5, [some (.ref this)], [.ref (jN S), .ref this], (uNew S 14 12), 0, 0)) rfl ⟨(by decide), Nat.le_of_ble_eq_true rfl, Nat.le_of_ble_eq_true rfl, Nat.le_of_ble_eq_true rfl, g2⟩ ?_
  generalize eS1 : uNew S 14 12 = S1
  generalize eh3 : jN S = h3
  have h := h h3 eh3.symm S1 eS1.symm
  obtain ⟨g4, h⟩ := h
  refine jLf.bk hc 1 [jA S1 this 4] [some (.ref this)] [] (uR S1 this 0 (some h3)) rfl rfl rfl g4 ?_
  generalize eS5 : uR S1 this 0 (some h3) = S5
  have h := h S5 eS5.symm
  exact jLf.ret hc _ rfl (gs := [jrt none none]) (v := none) rfl trivial ⟨rfl, h⟩
def wX4_likeliest_19  (X4 : Nat → Int32 → Int32 → JS → Prop) (l0 : Nat) (l1 : Int32) (l2 : Int32) (S : JS) (Q : Int32 → JS → Prop) : Prop :=
  ∀ x6 : Int32, x6 = (l2 + 1) → (X4 l0 l1 x6 S)
set_option maxRecDepth 20000 in
theorem tX4_likeliest_19 {Q : Int32 → JS → Prop} {X4 : Nat → Int32 → Int32 → JS → Prop} (d : Nat) (hd : 0 ≤ d) (hX4 : ∀ l0 l1 l2 S, X4 l0 l1 l2 S → jLf (jCall jmt jbud d) jbud (fun j => (jmt j).rk) none mX4_likeliest (jqI Q) (4, [some (.ref l0), some (.int l1), some (.int l2)], [], S, 0, 0)) {l0 : Nat} {l1 : Int32} {l2 : Int32} {S : JS} (h : wX4_likeliest_19 X4 l0 l1 l2 S Q) : jLf (jCall jmt jbud d) jbud (fun j => (jmt j).rk) none mX4_likeliest (jqI Q) (19, [some (.ref l0), some (.int l1), some (.int l2)], [], S, 0, 0) := by
  have hc := jCall_mono jmt jbud d
  unfold wX4_likeliest_19 at h
  refine jLf.bk hc 1 [] [some (.ref l0), some (.int l1), some (.int (l2 + 1))] [] S rfl rfl rfl trivial ?_
  generalize ex6 : (l2 + 1 : Int32) = x6
  have h := h x6 ex6.symm
  refine jLf.one hc _ rfl (gs := []) (c := (4, [some (.ref l0), some (.int l1), some (.int x6)], [], S, 0, 0)) rfl trivial ?_
  exact hX4 _ _ _ _ h
def bX4_likeliest_4   (X4 : Nat → Int32 → Int32 → JS → Prop) (l0 : Nat) (l1 : Int32) (l2 : Int32) (S : JS) (Q : Int32 → JS → Prop) : Prop :=
  (12 ≤ l2 → Q l1 S) ∧ (¬ (12 ≤ l2) → jA S l0 4 ∧ (¬ jR S l0 0 = none ∧ (jA S (jr S l0 0) 14 ∧ (vp_in l2 (jZ S (jr S l0 0)) ∧ (vp_in l1 (jZ S (jr S l0 0)) ∧ (((lg_cmp (jJ S (jr S l0 0) l2.toNatClampNeg) (jJ S (jr S l0 0) l1.toNatClampNeg)) ≤ 0 → wX4_likeliest_19 X4 l0 l1 l2 S Q) ∧ (¬ ((lg_cmp (jJ S (jr S l0 0) l2.toNatClampNeg) (jJ S (jr S l0 0) l1.toNatClampNeg)) ≤ 0) → wX4_likeliest_19 X4 l0 l2 l2 S Q)))))))
set_option maxRecDepth 20000 in
theorem uX4_likeliest_4 {Q : Int32 → JS → Prop}  (d : Nat) (hd : 0 ≤ d) {X4 : Nat → Int32 → Int32 → JS → Prop} (hX4 : ∀ l0 l1 l2 S, X4 l0 l1 l2 S → jLf (jCall jmt jbud d) jbud (fun j => (jmt j).rk) none mX4_likeliest (jqI Q) (4, [some (.ref l0), some (.int l1), some (.int l2)], [], S, 0, 0)) {l0 : Nat} {l1 : Int32} {l2 : Int32} {S : JS} (h : bX4_likeliest_4 X4 l0 l1 l2 S Q) : jLf (jCall jmt jbud d) jbud (fun j => (jmt j).rk) none mX4_likeliest (jqI Q) (4, [some (.ref l0), some (.int l1), some (.int l2)], [], S, 0, 0) := by
  have hc := jCall_mono jmt jbud d
  unfold bX4_likeliest_4 at h
  refine jLf.bk hc 2 [] [some (.ref l0), some (.int l1), some (.int l2)] [.int 12, .int l2] S rfl rfl rfl trivial ?_
  refine jLf.two hc _ rfl (gs := []) (p1 := 12 ≤ l2) (p2 := ¬ (12 ≤ l2)) (c1 := (21, [some (.ref l0), some (.int l1), some (.int l2)], [], S, 0, 0)) (c2 := (7, [some (.ref l0), some (.int l1), some (.int l2)], [], S, 0, 0)) rfl trivial (fun hz => ?_) (fun hz => ?_)
  · have h := h.1 hz
    refine jLf.bk hc 1 [] [some (.ref l0), some (.int l1), some (.int l2)] [.int l1] S rfl rfl rfl trivial ?_
    exact jLf.ret hc _ rfl (gs := [True]) (v := some (.int l1)) rfl trivial ⟨l1, rfl, h⟩
  · have h := h.2 hz
    obtain ⟨g1, g2, g3, g4, g5, h⟩ := h
    refine jLf.bk hc 9 [jA S l0 4, ¬ jR S l0 0 = none, jA S (jr S l0 0) 14, vp_in l2 (jZ S (jr S l0 0)), jA S l0 4, ¬ jR S l0 0 = none, jA S (jr S l0 0) 14, vp_in l1 (jZ S (jr S l0 0))] [some (.ref l0), some (.int l1), some (.int l2)] [.int (lg_cmp (jJ S (jr S l0 0) l2.toNatClampNeg) (jJ S (jr S l0 0) l1.toNatClampNeg))] S rfl rfl rfl ⟨g1, g2, g3, g4, g1, g2, g3, g5⟩ ?_
    refine jLf.two hc _ rfl (gs := []) (p1 := (lg_cmp (jJ S (jr S l0 0) l2.toNatClampNeg) (jJ S (jr S l0 0) l1.toNatClampNeg)) ≤ 0) (p2 := ¬ ((lg_cmp (jJ S (jr S l0 0) l2.toNatClampNeg) (jJ S (jr S l0 0) l1.toNatClampNeg)) ≤ 0)) (c1 := (19, [some (.ref l0), some (.int l1), some (.int l2)], [], S, 0, 0)) (c2 := (17, [some (.ref l0), some (.int l1), some (.int l2)], [], S, 0, 0)) rfl trivial (fun hz => ?_) (fun hz => ?_)
    · have h := h.1 hz
      exact tX4_likeliest_19 d hd hX4 h
    · have h := h.2 hz
      refine jLf.bk hc 2 [] [some (.ref l0), some (.int l2), some (.int l2)] [] S rfl rfl rfl trivial ?_
      exact tX4_likeliest_19 d hd hX4 h
def wX4_likeliest_4   (l0 : Nat) (l1 : Int32) (l2 : Int32) (S : JS) (Q : Int32 → JS → Prop) : Prop :=
  jLoop (fun (X4 : Nat × Int32 × Int32 × JS → Prop) q => bX4_likeliest_4 (fun l0 l1 l2 S => X4 (l0, l1, l2, S)) q.1 q.2.1 q.2.2.1 q.2.2.2 Q) (l0, l1, l2, S)
set_option maxRecDepth 20000 in
theorem tX4_likeliest_4 {Q : Int32 → JS → Prop}  (d : Nat) (hd : 0 ≤ d) {l0 : Nat} {l1 : Int32} {l2 : Int32} {S : JS} (h : wX4_likeliest_4 l0 l1 l2 S Q) : jLf (jCall jmt jbud d) jbud (fun j => (jmt j).rk) none mX4_likeliest (jqI Q) (4, [some (.ref l0), some (.int l1), some (.int l2)], [], S, 0, 0) := by
  have := h (fun q : Nat × Int32 × Int32 × JS => jLf (jCall jmt jbud d) jbud (fun j => (jmt j).rk) none mX4_likeliest (jqI Q) (4, [some (.ref (q.1)), some (.int (q.2.1)), some (.int (q.2.2.1))], [], q.2.2.2, 0, 0)) (fun q R hb hR => uX4_likeliest_4 d hd  (fun _ _ _ _ => hR _) hb)
  exact this
def wX4_likeliest  (this : Nat) (S : JS) (Q : Int32 → JS → Prop) : Prop :=
  wX4_likeliest_4 this 0 1 S Q
set_option maxRecDepth 20000 in
theorem vX4_likeliest {Q : Int32 → JS → Prop} (d : Nat) (hd : 1 ≤ d) {this : Nat} {S : JS} (h : wX4_likeliest this S Q) : jCall jmt jbud d 30 [.ref this] S (jqI Q) := by
  obtain ⟨d, rfl⟩ : ∃ d2, d = d2 + 1 := ⟨d - 1, by omega⟩
  have hd : 0 ≤ d := by omega
  have hc := jCall_mono jmt jbud d
  unfold wX4_likeliest at h
  refine ⟨Nat.le_of_ble_eq_true rfl, ?_⟩
  show jLf (jCall jmt jbud d) jbud (fun j => (jmt j).rk) none mX4_likeliest (jqI Q) (0, [some (.ref this), none, none], [], S, 0, 0)
  refine jLf.bk hc 4 [] [some (.ref this), some (.int 0), some (.int 1)] [] S rfl rfl rfl trivial ?_
  exact tX4_likeliest_4 d hd  h
def wX4_lookOnce_39  (X21 : Nat → Int32 → Int32 → JS → Prop) (l0 : Nat) (l1 : Int32) (l2 : Int32) (s0 : Int64) (s1 : Int64) (s2 : Int32) (s3 : Nat) (S : JS) (Q : JS → Prop) : Prop :=
  jA S s3 14 ∧ (vp_in s2 (jZ S s3) ∧ (∀ S19 : JS, S19 = uJ S s3 s2.toNatClampNeg (s1 * s0) → (∀ x20 : Int32, x20 = (l2 + 1) → (X21 l0 l1 x20 S19))))
set_option maxRecDepth 20000 in
theorem tX4_lookOnce_39 {Q : JS → Prop} {X21 : Nat → Int32 → Int32 → JS → Prop} (d : Nat) (hd : 1 ≤ d) (hX21 : ∀ l0 l1 l2 S, X21 l0 l1 l2 S → jLf (jCall jmt jbud d) jbud (fun j => (jmt j).rk) none mX4_lookOnce (jqV Q) (21, [some (.ref l0), some (.int l1), some (.int l2)], [], S, 0, 0)) {l0 : Nat} {l1 : Int32} {l2 : Int32} {s0 : Int64} {s1 : Int64} {s2 : Int32} {s3 : Nat} {S : JS} (h : wX4_lookOnce_39 X21 l0 l1 l2 s0 s1 s2 s3 S Q) : jLf (jCall jmt jbud d) jbud (fun j => (jmt j).rk) none mX4_lookOnce (jqV Q) (39, [some (.ref l0), some (.int l1), some (.int l2)], [.long s0, .long s1, .int s2, .ref s3], S, 0, 0) := by
  have hc := jCall_mono jmt jbud d
  unfold wX4_lookOnce_39 at h
  obtain ⟨g17, g18, h⟩ := h
  refine jLf.bk hc 2 [jA S s3 14, vp_in s2 (jZ S s3)] [some (.ref l0), some (.int l1), some (.int l2)] [] (uJ S s3 s2.toNatClampNeg (s1 * s0)) rfl rfl rfl ⟨g17, g18⟩ ?_
  generalize eS19 : uJ S s3 s2.toNatClampNeg (s1 * s0) = S19
  have h := h S19 eS19.symm
  refine jLf.bk hc 1 [] [some (.ref l0), some (.int l1), some (.int (l2 + 1))] [] S19 rfl rfl rfl trivial ?_
  generalize ex20 : (l2 + 1 : Int32) = x20
  have h := h x20 ex20.symm
  refine jLf.one hc _ rfl (gs := []) (c := (21, [some (.ref l0), some (.int l1), some (.int x20)], [], S19, 0, 0)) rfl trivial ?_
  exact hX21 _ _ _ _ h
def bX4_lookOnce_21   (X21 : Nat → Int32 → Int32 → JS → Prop) (l0 : Nat) (l1 : Int32) (l2 : Int32) (S : JS) (Q : JS → Prop) : Prop :=
  (12 ≤ l2 → jA S l0 4 ∧ (∀ S12 : JS, S12 = uJ S l0 2 ((jJ S l0 2) * (100 : Int64)) → (Q S12))) ∧ (¬ (12 ≤ l2) → jA S l0 4 ∧ (¬ jR S l0 0 = none ∧ (jA S (jr S l0 0) 14 ∧ (vp_in l2 (jZ S (jr S l0 0)) ∧ ((¬ l2 = (jI S l0 3) → wX4_lookOnce_39 X21 l0 l1 l2 100 (jJ S (jr S l0 0) l2.toNatClampNeg) l2 (jr S l0 0) S Q) ∧ (l2 = (jI S l0 3) → wX4_lookOnce_39 X21 l0 l1 l2 (((100 : Int32) - l1).toInt64) (jJ S (jr S l0 0) l2.toNatClampNeg) l2 (jr S l0 0) S Q))))))
set_option maxRecDepth 20000 in
theorem uX4_lookOnce_21 {Q : JS → Prop}  (d : Nat) (hd : 1 ≤ d) {X21 : Nat → Int32 → Int32 → JS → Prop} (hX21 : ∀ l0 l1 l2 S, X21 l0 l1 l2 S → jLf (jCall jmt jbud d) jbud (fun j => (jmt j).rk) none mX4_lookOnce (jqV Q) (21, [some (.ref l0), some (.int l1), some (.int l2)], [], S, 0, 0)) {l0 : Nat} {l1 : Int32} {l2 : Int32} {S : JS} (h : bX4_lookOnce_21 X21 l0 l1 l2 S Q) : jLf (jCall jmt jbud d) jbud (fun j => (jmt j).rk) none mX4_lookOnce (jqV Q) (21, [some (.ref l0), some (.int l1), some (.int l2)], [], S, 0, 0) := by
  have hc := jCall_mono jmt jbud d
  unfold bX4_lookOnce_21 at h
  refine jLf.bk hc 2 [] [some (.ref l0), some (.int l1), some (.int l2)] [.int 12, .int l2] S rfl rfl rfl trivial ?_
  refine jLf.two hc _ rfl (gs := []) (p1 := 12 ≤ l2) (p2 := ¬ (12 ≤ l2)) (c1 := (43, [some (.ref l0), some (.int l1), some (.int l2)], [], S, 0, 0)) (c2 := (24, [some (.ref l0), some (.int l1), some (.int l2)], [], S, 0, 0)) rfl trivial (fun hz => ?_) (fun hz => ?_)
  · have h := h.1 hz
    obtain ⟨g11, h⟩ := h
    refine jLf.bk hc 6 [(.ref l0 : Value).category = 1, jA S l0 4, jA S l0 4] [some (.ref l0), some (.int l1), some (.int l2)] [] (uJ S l0 2 ((jJ S l0 2) * (100 : Int64))) rfl rfl rfl ⟨rfl, g11, g11⟩ ?_
    generalize eS12 : uJ S l0 2 ((jJ S l0 2) * (100 : Int64)) = S12
    have h := h S12 eS12.symm
    exact jLf.ret hc _ rfl (gs := [jrt none none]) (v := none) rfl trivial ⟨rfl, h⟩
  · have h := h.2 hz
    obtain ⟨g13, g14, g15, g16, h⟩ := h
    refine jLf.bk hc 8 [jA S l0 4, ¬ jR S l0 0 = none, jA S (jr S l0 0) 14, vp_in l2 (jZ S (jr S l0 0)), jA S l0 4] [some (.ref l0), some (.int l1), some (.int l2)] [.int (jI S l0 3), .int l2, .long (jJ S (jr S l0 0) l2.toNatClampNeg), .int l2, .ref (jr S l0 0)] S rfl rfl rfl ⟨g13, g14, g15, g16, g13⟩ ?_
    refine jLf.two hc _ rfl (gs := []) (p1 := ¬ l2 = (jI S l0 3)) (p2 := ¬ (¬ l2 = (jI S l0 3))) (c1 := (38, [some (.ref l0), some (.int l1), some (.int l2)], [.long (jJ S (jr S l0 0) l2.toNatClampNeg), .int l2, .ref (jr S l0 0)], S, 0, 0)) (c2 := (33, [some (.ref l0), some (.int l1), some (.int l2)], [.long (jJ S (jr S l0 0) l2.toNatClampNeg), .int l2, .ref (jr S l0 0)], S, 0, 0)) rfl trivial (fun hz => ?_) (fun hz => ?_)
    · have h := h.1 hz
      refine jLf.bk hc 1 [] [some (.ref l0), some (.int l1), some (.int l2)] [.long 100, .long (jJ S (jr S l0 0) l2.toNatClampNeg), .int l2, .ref (jr S l0 0)] S rfl rfl rfl trivial ?_
      exact tX4_lookOnce_39 d hd hX21 h
    · have h := h.2 (Classical.not_not.mp hz)
      refine jLf.bk hc 4 [] [some (.ref l0), some (.int l1), some (.int l2)] [.long (((100 : Int32) - l1).toInt64), .long (jJ S (jr S l0 0) l2.toNatClampNeg), .int l2, .ref (jr S l0 0)] S rfl rfl rfl trivial ?_
      refine jLf.one hc _ rfl (gs := []) (c := (39, [some (.ref l0), some (.int l1), some (.int l2)], [.long (((100 : Int32) - l1).toInt64), .long (jJ S (jr S l0 0) l2.toNatClampNeg), .int l2, .ref (jr S l0 0)], S, 0, 0)) rfl trivial ?_
      exact tX4_lookOnce_39 d hd hX21 h
def wX4_lookOnce_21   (l0 : Nat) (l1 : Int32) (l2 : Int32) (S : JS) (Q : JS → Prop) : Prop :=
  jLoop (fun (X21 : Nat × Int32 × Int32 × JS → Prop) q => bX4_lookOnce_21 (fun l0 l1 l2 S => X21 (l0, l1, l2, S)) q.1 q.2.1 q.2.2.1 q.2.2.2 Q) (l0, l1, l2, S)
set_option maxRecDepth 20000 in
theorem tX4_lookOnce_21 {Q : JS → Prop}  (d : Nat) (hd : 1 ≤ d) {l0 : Nat} {l1 : Int32} {l2 : Int32} {S : JS} (h : wX4_lookOnce_21 l0 l1 l2 S Q) : jLf (jCall jmt jbud d) jbud (fun j => (jmt j).rk) none mX4_lookOnce (jqV Q) (21, [some (.ref l0), some (.int l1), some (.int l2)], [], S, 0, 0) := by
  have := h (fun q : Nat × Int32 × Int32 × JS => jLf (jCall jmt jbud d) jbud (fun j => (jmt j).rk) none mX4_lookOnce (jqV Q) (21, [some (.ref (q.1)), some (.int (q.2.1)), some (.int (q.2.2.1))], [], q.2.2.2, 0, 0)) (fun q R hb hR => uX4_lookOnce_21 d hd  (fun _ _ _ _ => hR _) hb)
  exact this
def wX4_lookOnce  (this : Nat) (p1 : Int32) (S : JS) (Q : JS → Prop) : Prop :=
  jA S this 4 ∧ (wX4_likeliest this S (fun r2 S1 => jA S1 this 4 ∧ (∀ S5 : JS, S5 = uI S1 this 3 r2 → (jA S5 this 4 ∧ (¬ jR S5 this 0 = none ∧ (jA S5 (jr S5 this 0) 14 ∧ (vp_in (jI S5 this 3) (jZ S5 (jr S5 this 0)) ∧ (∀ S10 : JS, S10 = uJ S5 this 1 (((jJ S5 this 1) * (100 : Int64)) + ((jJ S5 (jr S5 this 0) (jI S5 this 3).toNatClampNeg) * (p1.toInt64))) → (wX4_lookOnce_21 this p1 0 S10 Q)))))))))
set_option maxRecDepth 20000 in
theorem vX4_lookOnce {Q : JS → Prop} (d : Nat) (hd : 2 ≤ d) {this : Nat} {p1 : Int32} {S : JS} (h : wX4_lookOnce this p1 S Q) : jCall jmt jbud d 29 [.ref this, .int p1] S (jqV Q) := by
  obtain ⟨d, rfl⟩ : ∃ d2, d = d2 + 1 := ⟨d - 1, by omega⟩
  have hd : 1 ≤ d := by omega
  have hc := jCall_mono jmt jbud d
  unfold wX4_lookOnce at h
  refine ⟨Nat.le_of_ble_eq_true rfl, ?_⟩
  show jLf (jCall jmt jbud d) jbud (fun j => (jmt j).rk) none mX4_lookOnce (jqV Q) (0, [some (.ref this), some (.int p1), none], [], S, 0, 0)
  refine jLf.bk hc 2 [] [some (.ref this), some (.int p1), none] [.ref this, .ref this] S rfl rfl rfl trivial ?_
  obtain ⟨g3, h⟩ := h
  refine jLf.inv hc _ rfl (gs := [jA S this 4, (([.ref this] : List Value).map fun v => v.category).sum ≤ 8, 0 ≤ 0, 0 ≤ 0]) (k := 30) (args := [.ref this]) (r := [.ref this]) (a := 0) (b := 0) rfl ⟨g3, Nat.le_of_ble_eq_true rfl, Nat.zero_le _, Nat.zero_le _⟩ (vX4_likeliest d (by omega) h) ?_
  rintro v S1 ⟨r2, rfl, h⟩
  show jLf (jCall jmt jbud d) jbud (fun j => (jmt j).rk) none mX4_lookOnce (jqV Q) (3, [some (.ref this), some (.int p1), none], [.int r2, .ref this], S1, 0, 0)
  obtain ⟨g4, h⟩ := h
  refine jLf.bk hc 1 [jA S1 this 4] [some (.ref this), some (.int p1), none] [] (uI S1 this 3 r2) rfl rfl rfl g4 ?_
  generalize eS5 : uI S1 this 3 r2 = S5
  have h := h S5 eS5.symm
  obtain ⟨g6, g7, g8, g9, h⟩ := h
  refine jLf.bk hc 15 [jA S5 this 4, jA S5 this 4, ¬ jR S5 this 0 = none, jA S5 this 4, jA S5 (jr S5 this 0) 14, vp_in (jI S5 this 3) (jZ S5 (jr S5 this 0)), jA S5 this 4] [some (.ref this), some (.int p1), none] [] (uJ S5 this 1 (((jJ S5 this 1) * (100 : Int64)) + ((jJ S5 (jr S5 this 0) (jI S5 this 3).toNatClampNeg) * (p1.toInt64)))) rfl rfl rfl ⟨g6, g6, g7, g6, g8, g9, g6⟩ ?_
  generalize eS10 : uJ S5 this 1 (((jJ S5 this 1) * (100 : Int64)) + ((jJ S5 (jr S5 this 0) (jI S5 this 3).toNatClampNeg) * (p1.toInt64))) = S10
  have h := h S10 eS10.symm
  refine jLf.bk hc 2 [] [some (.ref this), some (.int p1), some (.int 0)] [] S10 rfl rfl rfl trivial ?_
  exact tX4_lookOnce_21 d hd  h
def bX4_lookTimes_37   (X37 : Nat → Nat → Int32 → Int32 → JS → Prop) (l0 : Nat) (l1 : Nat) (l2 : Int32) (l3 : Int32) (S : JS) (Q : JS → Prop) : Prop :=
  (l2 ≤ l3 → Q S) ∧ (¬ (l2 ≤ l3) → jA S l1 9 ∧ (jA S l0 4 ∧ (wX4_lookOnce l0 (jI S l1 2) S (fun S8 => ∀ x11 : Int32, x11 = (l3 + 1) → (X37 l0 l1 l2 x11 S8)))))
set_option maxRecDepth 20000 in
theorem uX4_lookTimes_37 {Q : JS → Prop}  (d : Nat) (hd : 2 ≤ d) {X37 : Nat → Nat → Int32 → Int32 → JS → Prop} (hX37 : ∀ l0 l1 l2 l3 S, X37 l0 l1 l2 l3 S → jLf (jCall jmt jbud d) jbud (fun j => (jmt j).rk) none mX4_lookTimes (jqV Q) (37, [some (.ref l0), some (.ref l1), some (.int l2), some (.int l3)], [], S, 0, 0)) {l0 : Nat} {l1 : Nat} {l2 : Int32} {l3 : Int32} {S : JS} (h : bX4_lookTimes_37 X37 l0 l1 l2 l3 S Q) : jLf (jCall jmt jbud d) jbud (fun j => (jmt j).rk) none mX4_lookTimes (jqV Q) (37, [some (.ref l0), some (.ref l1), some (.int l2), some (.int l3)], [], S, 0, 0) := by
  have hc := jCall_mono jmt jbud d
  unfold bX4_lookTimes_37 at h
  refine jLf.bk hc 2 [] [some (.ref l0), some (.ref l1), some (.int l2), some (.int l3)] [.int l2, .int l3] S rfl rfl rfl trivial ?_
  refine jLf.two hc _ rfl (gs := []) (p1 := l2 ≤ l3) (p2 := ¬ (l2 ≤ l3)) (c1 := (46, [some (.ref l0), some (.ref l1), some (.int l2), some (.int l3)], [], S, 0, 0)) (c2 := (40, [some (.ref l0), some (.ref l1), some (.int l2), some (.int l3)], [], S, 0, 0)) rfl trivial (fun hz => ?_) (fun hz => ?_)
  · have h := h.1 hz
    exact jLf.ret hc _ rfl (gs := [jrt none none]) (v := none) rfl trivial ⟨rfl, h⟩
  · have h := h.2 hz
    obtain ⟨g7, h⟩ := h
    refine jLf.bk hc 3 [jA S l1 9] [some (.ref l0), some (.ref l1), some (.int l2), some (.int l3)] [.int (jI S l1 2), .ref l0] S rfl rfl rfl g7 ?_
    obtain ⟨g10, h⟩ := h
    refine jLf.inv hc _ rfl (gs := [jA S l0 4, (([] : List Value).map fun v => v.category).sum ≤ 8, 0 ≤ 0, 0 ≤ 0]) (k := 29) (args := [.ref l0, .int (jI S l1 2)]) (r := []) (a := 0) (b := 0) rfl ⟨g10, Nat.le_of_ble_eq_true rfl, Nat.zero_le _, Nat.zero_le _⟩ (vX4_lookOnce d (by omega) h) ?_
    rintro v S8 ⟨rfl, h⟩
    show jLf (jCall jmt jbud d) jbud (fun j => (jmt j).rk) none mX4_lookTimes (jqV Q) (44, [some (.ref l0), some (.ref l1), some (.int l2), some (.int l3)], [], S8, 0, 0)
    refine jLf.bk hc 1 [] [some (.ref l0), some (.ref l1), some (.int l2), some (.int (l3 + 1))] [] S8 rfl rfl rfl trivial ?_
    generalize ex11 : (l3 + 1 : Int32) = x11
    have h := h x11 ex11.symm
    refine jLf.one hc _ rfl (gs := []) (c := (37, [some (.ref l0), some (.ref l1), some (.int l2), some (.int x11)], [], S8, 0, 0)) rfl trivial ?_
    exact hX37 _ _ _ _ _ h
def wX4_lookTimes_37   (l0 : Nat) (l1 : Nat) (l2 : Int32) (l3 : Int32) (S : JS) (Q : JS → Prop) : Prop :=
  jLoop (fun (X37 : Nat × Nat × Int32 × Int32 × JS → Prop) q => bX4_lookTimes_37 (fun l0 l1 l2 l3 S => X37 (l0, l1, l2, l3, S)) q.1 q.2.1 q.2.2.1 q.2.2.2.1 q.2.2.2.2 Q) (l0, l1, l2, l3, S)
set_option maxRecDepth 20000 in
theorem tX4_lookTimes_37 {Q : JS → Prop}  (d : Nat) (hd : 2 ≤ d) {l0 : Nat} {l1 : Nat} {l2 : Int32} {l3 : Int32} {S : JS} (h : wX4_lookTimes_37 l0 l1 l2 l3 S Q) : jLf (jCall jmt jbud d) jbud (fun j => (jmt j).rk) none mX4_lookTimes (jqV Q) (37, [some (.ref l0), some (.ref l1), some (.int l2), some (.int l3)], [], S, 0, 0) := by
  have := h (fun q : Nat × Nat × Int32 × Int32 × JS => jLf (jCall jmt jbud d) jbud (fun j => (jmt j).rk) none mX4_lookTimes (jqV Q) (37, [some (.ref (q.1)), some (.ref (q.2.1)), some (.int (q.2.2.1)), some (.int (q.2.2.2.1))], [], q.2.2.2.2, 0, 0)) (fun q R hb hR => uX4_lookTimes_37 d hd  (fun _ _ _ _ _ => hR _) hb)
  exact this
def bX4_lookTimes_11   (X11 : Nat → Nat → Int32 → Int32 → JS → Prop) (l0 : Nat) (l1 : Nat) (l2 : Int32) (l3 : Int32) (S : JS) (Q : JS → Prop) : Prop :=
  (12 ≤ l3 → wX4_lookTimes_37 l0 l1 l2 0 S Q) ∧ (¬ (12 ≤ l3) → jA S l0 4 ∧ (¬ jR S l0 0 = none ∧ (jA S l1 9 ∧ (¬ jR S l1 11 = none ∧ (jA S (jr S l1 11) 13 ∧ (vp_in l3 (jZ S (jr S l1 11)) ∧ (jA S (jr S l0 0) 14 ∧ (vp_in l3 (jZ S (jr S l0 0)) ∧ (∀ S20 : JS, S20 = uJ S (jr S l0 0) l3.toNatClampNeg ((jI S (jr S l1 11) l3.toNatClampNeg).toInt64) → (jA S20 l0 4 ∧ (jA S20 l1 9 ∧ (¬ jR S20 l1 11 = none ∧ (jA S20 (jr S20 l1 11) 13 ∧ (vp_in l3 (jZ S20 (jr S20 l1 11)) ∧ (∀ S26 : JS, S26 = uJ S20 l0 2 ((jJ S20 l0 2) + ((jI S20 (jr S20 l1 11) l3.toNatClampNeg).toInt64)) → (∀ x27 : Int32, x27 = (l3 + 1) → (X11 l0 l1 l2 x27 S26)))))))))))))))))
set_option maxRecDepth 20000 in
theorem uX4_lookTimes_11 {Q : JS → Prop}  (d : Nat) (hd : 2 ≤ d) {X11 : Nat → Nat → Int32 → Int32 → JS → Prop} (hX11 : ∀ l0 l1 l2 l3 S, X11 l0 l1 l2 l3 S → jLf (jCall jmt jbud d) jbud (fun j => (jmt j).rk) none mX4_lookTimes (jqV Q) (11, [some (.ref l0), some (.ref l1), some (.int l2), some (.int l3)], [], S, 0, 0)) {l0 : Nat} {l1 : Nat} {l2 : Int32} {l3 : Int32} {S : JS} (h : bX4_lookTimes_11 X11 l0 l1 l2 l3 S Q) : jLf (jCall jmt jbud d) jbud (fun j => (jmt j).rk) none mX4_lookTimes (jqV Q) (11, [some (.ref l0), some (.ref l1), some (.int l2), some (.int l3)], [], S, 0, 0) := by
  have hc := jCall_mono jmt jbud d
  unfold bX4_lookTimes_11 at h
  refine jLf.bk hc 2 [] [some (.ref l0), some (.ref l1), some (.int l2), some (.int l3)] [.int 12, .int l3] S rfl rfl rfl trivial ?_
  refine jLf.two hc _ rfl (gs := []) (p1 := 12 ≤ l3) (p2 := ¬ (12 ≤ l3)) (c1 := (35, [some (.ref l0), some (.ref l1), some (.int l2), some (.int l3)], [], S, 0, 0)) (c2 := (14, [some (.ref l0), some (.ref l1), some (.int l2), some (.int l3)], [], S, 0, 0)) rfl trivial (fun hz => ?_) (fun hz => ?_)
  · have h := h.1 hz
    refine jLf.bk hc 2 [] [some (.ref l0), some (.ref l1), some (.int l2), some (.int 0)] [] S rfl rfl rfl trivial ?_
    exact tX4_lookTimes_37 d hd  h
  · have h := h.2 hz
    obtain ⟨g12, g13, g14, g15, g16, g17, g18, g19, h⟩ := h
    refine jLf.bk hc 9 [jA S l0 4, ¬ jR S l0 0 = none, jA S l1 9, ¬ jR S l1 11 = none, jA S (jr S l1 11) 13, vp_in l3 (jZ S (jr S l1 11)), jA S (jr S l0 0) 14, vp_in l3 (jZ S (jr S l0 0))] [some (.ref l0), some (.ref l1), some (.int l2), some (.int l3)] [] (uJ S (jr S l0 0) l3.toNatClampNeg ((jI S (jr S l1 11) l3.toNatClampNeg).toInt64)) rfl rfl rfl ⟨g12, g13, g14, g15, g16, g17, g18, g19⟩ ?_
    generalize eS20 : uJ S (jr S l0 0) l3.toNatClampNeg ((jI S (jr S l1 11) l3.toNatClampNeg).toInt64) = S20
    have h := h S20 eS20.symm
    obtain ⟨g21, g22, g23, g24, g25, h⟩ := h
    refine jLf.bk hc 10 [(.ref l0 : Value).category = 1, jA S20 l0 4, jA S20 l1 9, ¬ jR S20 l1 11 = none, jA S20 (jr S20 l1 11) 13, vp_in l3 (jZ S20 (jr S20 l1 11)), jA S20 l0 4] [some (.ref l0), some (.ref l1), some (.int l2), some (.int l3)] [] (uJ S20 l0 2 ((jJ S20 l0 2) + ((jI S20 (jr S20 l1 11) l3.toNatClampNeg).toInt64))) rfl rfl rfl ⟨rfl, g21, g22, g23, g24, g25, g21⟩ ?_
    generalize eS26 : uJ S20 l0 2 ((jJ S20 l0 2) + ((jI S20 (jr S20 l1 11) l3.toNatClampNeg).toInt64)) = S26
    have h := h S26 eS26.symm
    refine jLf.bk hc 1 [] [some (.ref l0), some (.ref l1), some (.int l2), some (.int (l3 + 1))] [] S26 rfl rfl rfl trivial ?_
    generalize ex27 : (l3 + 1 : Int32) = x27
    have h := h x27 ex27.symm
    refine jLf.one hc _ rfl (gs := []) (c := (11, [some (.ref l0), some (.ref l1), some (.int l2), some (.int x27)], [], S26, 0, 0)) rfl trivial ?_
    exact hX11 _ _ _ _ _ h
def wX4_lookTimes_11   (l0 : Nat) (l1 : Nat) (l2 : Int32) (l3 : Int32) (S : JS) (Q : JS → Prop) : Prop :=
  jLoop (fun (X11 : Nat × Nat × Int32 × Int32 × JS → Prop) q => bX4_lookTimes_11 (fun l0 l1 l2 l3 S => X11 (l0, l1, l2, l3, S)) q.1 q.2.1 q.2.2.1 q.2.2.2.1 q.2.2.2.2 Q) (l0, l1, l2, l3, S)
set_option maxRecDepth 20000 in
theorem tX4_lookTimes_11 {Q : JS → Prop}  (d : Nat) (hd : 2 ≤ d) {l0 : Nat} {l1 : Nat} {l2 : Int32} {l3 : Int32} {S : JS} (h : wX4_lookTimes_11 l0 l1 l2 l3 S Q) : jLf (jCall jmt jbud d) jbud (fun j => (jmt j).rk) none mX4_lookTimes (jqV Q) (11, [some (.ref l0), some (.ref l1), some (.int l2), some (.int l3)], [], S, 0, 0) := by
  have := h (fun q : Nat × Nat × Int32 × Int32 × JS => jLf (jCall jmt jbud d) jbud (fun j => (jmt j).rk) none mX4_lookTimes (jqV Q) (11, [some (.ref (q.1)), some (.ref (q.2.1)), some (.int (q.2.2.1)), some (.int (q.2.2.2.1))], [], q.2.2.2.2, 0, 0)) (fun q R hb hR => uX4_lookTimes_11 d hd  (fun _ _ _ _ _ => hR _) hb)
  exact this
def wX4_lookTimes  (this : Nat) (p1 : Nat) (p2 : Int32) (S : JS) (Q : JS → Prop) : Prop :=
  jA S this 4 ∧ (∀ S2 : JS, S2 = uJ S this 1 0 → (jA S2 this 4 ∧ (∀ S4 : JS, S4 = uJ S2 this 2 0 → (jA S4 this 4 ∧ (∀ S6 : JS, S6 = uI S4 this 3 (-1) → (wX4_lookTimes_11 this p1 p2 0 S6 Q))))))
set_option maxRecDepth 20000 in
theorem vX4_lookTimes {Q : JS → Prop} (d : Nat) (hd : 3 ≤ d) {this : Nat} {p1 : Nat} {p2 : Int32} {S : JS} (h : wX4_lookTimes this p1 p2 S Q) : jCall jmt jbud d 28 [.ref this, .ref p1, .int p2] S (jqV Q) := by
  obtain ⟨d, rfl⟩ : ∃ d2, d = d2 + 1 := ⟨d - 1, by omega⟩
  have hd : 2 ≤ d := by omega
  have hc := jCall_mono jmt jbud d
  unfold wX4_lookTimes at h
  refine ⟨Nat.le_of_ble_eq_true rfl, ?_⟩
  show jLf (jCall jmt jbud d) jbud (fun j => (jmt j).rk) none mX4_lookTimes (jqV Q) (0, [some (.ref this), some (.ref p1), some (.int p2), none], [], S, 0, 0)
  obtain ⟨g1, h⟩ := h
  refine jLf.bk hc 3 [jA S this 4] [some (.ref this), some (.ref p1), some (.int p2), none] [] (uJ S this 1 0) rfl rfl rfl g1 ?_
  generalize eS2 : uJ S this 1 0 = S2
  have h := h S2 eS2.symm
  obtain ⟨g3, h⟩ := h
  refine jLf.bk hc 3 [jA S2 this 4] [some (.ref this), some (.ref p1), some (.int p2), none] [] (uJ S2 this 2 0) rfl rfl rfl g3 ?_
  generalize eS4 : uJ S2 this 2 0 = S4
  have h := h S4 eS4.symm
  obtain ⟨g5, h⟩ := h
  refine jLf.bk hc 3 [jA S4 this 4] [some (.ref this), some (.ref p1), some (.int p2), none] [] (uI S4 this 3 (-1)) rfl rfl rfl g5 ?_
  generalize eS6 : uI S4 this 3 (-1) = S6
  have h := h S6 eS6.symm
  refine jLf.bk hc 2 [] [some (.ref this), some (.ref p1), some (.int p2), some (.int 0)] [] S6 rfl rfl rfl trivial ?_
  exact tX4_lookTimes_11 d hd  h
def wX5_init  (this : Nat) (S : JS) (Q : JS → Prop) : Prop :=
  jN S < 1000000 ∧ (∀ h3 : Nat, h3 = jN S → (∀ S1 : JS, S1 = uNew S 13 400 → (jA S1 this 5 ∧ (∀ S5 : JS, S5 = uR S1 this 0 (some h3) → (jN S5 < 1000000 ∧ (∀ h8 : Nat, h8 = jN S5 → (∀ S6 : JS, S6 = uNew S5 13 12 → (jA S6 this 5 ∧ (∀ S10 : JS, S10 = uR S6 this 2 (some h8) → (jN S10 < 1000000 ∧ (∀ h13 : Nat, h13 = jN S10 → (∀ S11 : JS, S11 = uNew S10 13 12 → (jA S11 this 5 ∧ (∀ S15 : JS, S15 = uR S11 this 3 (some h13) → (jN S15 < 1000000 ∧ (∀ h18 : Nat, h18 = jN S15 → (∀ S16 : JS, S16 = uNew S15 13 12 → (jA S16 this 5 ∧ (∀ S20 : JS, S20 = uR S16 this 4 (some h18) → (jN S20 < 1000000 ∧ (∀ h23 : Nat, h23 = jN S20 → (∀ S21 : JS, S21 = uNew S20 13 12 → (jA S21 this 5 ∧ (∀ S25 : JS, S25 = uR S21 this 5 (some h23) → (jN S25 < 1000000 ∧ (∀ h28 : Nat, h28 = jN S25 → (∀ S26 : JS, S26 = uNew S25 13 400 → (jA S26 this 5 ∧ (∀ S30 : JS, S30 = uR S26 this 6 (some h28) → (jN S30 < 1000000 ∧ (∀ h33 : Nat, h33 = jN S30 → (∀ S31 : JS, S31 = uNew S30 13 401 → (jA S31 this 5 ∧ (∀ S35 : JS, S35 = uR S31 this 9 (some h33) → (jN S35 < 1000000 ∧ (∀ h38 : Nat, h38 = jN S35 → (∀ S36 : JS, S36 = uNew S35 13 401 → (jA S36 this 5 ∧ (∀ S40 : JS, S40 = uR S36 this 10 (some h38) → (Q S40))))))))))))))))))))))))))))))))))))))))
set_option maxRecDepth 20000 in
theorem vX5_init {Q : JS → Prop} (d : Nat) (hd : 1 ≤ d) {this : Nat} {S : JS} (h : wX5_init this S Q) : jCall jmt jbud d 31 [.ref this] S (jqV Q) := by
  obtain ⟨d, rfl⟩ : ∃ d2, d = d2 + 1 := ⟨d - 1, by omega⟩
  have hd : 0 ≤ d := by omega
  have hc := jCall_mono jmt jbud d
  unfold wX5_init at h
  refine ⟨Nat.le_of_ble_eq_true rfl, ?_⟩
  show jLf (jCall jmt jbud d) jbud (fun j => (jmt j).rk) none mX5_init (jqV Q) (0, [some (.ref this)], [], S, 8, 1650)
  refine jLf.bk hc 4 [(([] : List Value).map fun v => v.category).sum ≤ 8] [some (.ref this)] [.int 400, .ref this] S rfl rfl rfl (Nat.le_of_ble_eq_true rfl) ?_
  obtain ⟨g2, h⟩ := h
  refine jLf.one hc _ rfl (gs := [¬ (400 : Int32) < 0, 400 ≤ 1000000, 1 ≤ 8, 400 ≤ 1650, jN S < 1000000]) (c := (5, [some (.ref this)], [.ref (jN S), .ref this], (uNew S 13 400), 7, 1250)) rfl ⟨(by decide), Nat.le_of_ble_eq_true rfl, Nat.le_of_ble_eq_true rfl, Nat.le_of_ble_eq_true rfl, g2⟩ ?_
  generalize eS1 : uNew S 13 400 = S1
  generalize eh3 : jN S = h3
  have h := h h3 eh3.symm S1 eS1.symm
  obtain ⟨g4, h⟩ := h
  refine jLf.bk hc 1 [jA S1 this 5] [some (.ref this)] [] (uR S1 this 0 (some h3)) rfl rfl rfl g4 ?_
  generalize eS5 : uR S1 this 0 (some h3) = S5
  have h := h S5 eS5.symm
  refine jLf.bk hc 2 [] [some (.ref this)] [.int 12, .ref this] S5 rfl rfl rfl trivial ?_
  obtain ⟨g7, h⟩ := h
  refine jLf.one hc _ rfl (gs := [¬ (12 : Int32) < 0, 12 ≤ 1000000, 1 ≤ 7, 12 ≤ 1250, jN S5 < 1000000]) (c := (9, [some (.ref this)], [.ref (jN S5), .ref this], (uNew S5 13 12), 6, 1238)) rfl ⟨(by decide), Nat.le_of_ble_eq_true rfl, Nat.le_of_ble_eq_true rfl, Nat.le_of_ble_eq_true rfl, g7⟩ ?_
  generalize eS6 : uNew S5 13 12 = S6
  generalize eh8 : jN S5 = h8
  have h := h h8 eh8.symm S6 eS6.symm
  obtain ⟨g9, h⟩ := h
  refine jLf.bk hc 1 [jA S6 this 5] [some (.ref this)] [] (uR S6 this 2 (some h8)) rfl rfl rfl g9 ?_
  generalize eS10 : uR S6 this 2 (some h8) = S10
  have h := h S10 eS10.symm
  refine jLf.bk hc 2 [] [some (.ref this)] [.int 12, .ref this] S10 rfl rfl rfl trivial ?_
  obtain ⟨g12, h⟩ := h
  refine jLf.one hc _ rfl (gs := [¬ (12 : Int32) < 0, 12 ≤ 1000000, 1 ≤ 6, 12 ≤ 1238, jN S10 < 1000000]) (c := (13, [some (.ref this)], [.ref (jN S10), .ref this], (uNew S10 13 12), 5, 1226)) rfl ⟨(by decide), Nat.le_of_ble_eq_true rfl, Nat.le_of_ble_eq_true rfl, Nat.le_of_ble_eq_true rfl, g12⟩ ?_
  generalize eS11 : uNew S10 13 12 = S11
  generalize eh13 : jN S10 = h13
  have h := h h13 eh13.symm S11 eS11.symm
  obtain ⟨g14, h⟩ := h
  refine jLf.bk hc 1 [jA S11 this 5] [some (.ref this)] [] (uR S11 this 3 (some h13)) rfl rfl rfl g14 ?_
  generalize eS15 : uR S11 this 3 (some h13) = S15
  have h := h S15 eS15.symm
  refine jLf.bk hc 2 [] [some (.ref this)] [.int 12, .ref this] S15 rfl rfl rfl trivial ?_
  obtain ⟨g17, h⟩ := h
  refine jLf.one hc _ rfl (gs := [¬ (12 : Int32) < 0, 12 ≤ 1000000, 1 ≤ 5, 12 ≤ 1226, jN S15 < 1000000]) (c := (17, [some (.ref this)], [.ref (jN S15), .ref this], (uNew S15 13 12), 4, 1214)) rfl ⟨(by decide), Nat.le_of_ble_eq_true rfl, Nat.le_of_ble_eq_true rfl, Nat.le_of_ble_eq_true rfl, g17⟩ ?_
  generalize eS16 : uNew S15 13 12 = S16
  generalize eh18 : jN S15 = h18
  have h := h h18 eh18.symm S16 eS16.symm
  obtain ⟨g19, h⟩ := h
  refine jLf.bk hc 1 [jA S16 this 5] [some (.ref this)] [] (uR S16 this 4 (some h18)) rfl rfl rfl g19 ?_
  generalize eS20 : uR S16 this 4 (some h18) = S20
  have h := h S20 eS20.symm
  refine jLf.bk hc 2 [] [some (.ref this)] [.int 12, .ref this] S20 rfl rfl rfl trivial ?_
  obtain ⟨g22, h⟩ := h
  refine jLf.one hc _ rfl (gs := [¬ (12 : Int32) < 0, 12 ≤ 1000000, 1 ≤ 4, 12 ≤ 1214, jN S20 < 1000000]) (c := (21, [some (.ref this)], [.ref (jN S20), .ref this], (uNew S20 13 12), 3, 1202)) rfl ⟨(by decide), Nat.le_of_ble_eq_true rfl, Nat.le_of_ble_eq_true rfl, Nat.le_of_ble_eq_true rfl, g22⟩ ?_
  generalize eS21 : uNew S20 13 12 = S21
  generalize eh23 : jN S20 = h23
  have h := h h23 eh23.symm S21 eS21.symm
  obtain ⟨g24, h⟩ := h
  refine jLf.bk hc 1 [jA S21 this 5] [some (.ref this)] [] (uR S21 this 5 (some h23)) rfl rfl rfl g24 ?_
  generalize eS25 : uR S21 this 5 (some h23) = S25
  have h := h S25 eS25.symm
  refine jLf.bk hc 2 [] [some (.ref this)] [.int 400, .ref this] S25 rfl rfl rfl trivial ?_
  obtain ⟨g27, h⟩ := h
  refine jLf.one hc _ rfl (gs := [¬ (400 : Int32) < 0, 400 ≤ 1000000, 1 ≤ 3, 400 ≤ 1202, jN S25 < 1000000]) (c := (25, [some (.ref this)], [.ref (jN S25), .ref this], (uNew S25 13 400), 2, 802)) rfl ⟨(by decide), Nat.le_of_ble_eq_true rfl, Nat.le_of_ble_eq_true rfl, Nat.le_of_ble_eq_true rfl, g27⟩ ?_
  generalize eS26 : uNew S25 13 400 = S26
  generalize eh28 : jN S25 = h28
  have h := h h28 eh28.symm S26 eS26.symm
  obtain ⟨g29, h⟩ := h
  refine jLf.bk hc 1 [jA S26 this 5] [some (.ref this)] [] (uR S26 this 6 (some h28)) rfl rfl rfl g29 ?_
  generalize eS30 : uR S26 this 6 (some h28) = S30
  have h := h S30 eS30.symm
  refine jLf.bk hc 2 [] [some (.ref this)] [.int 401, .ref this] S30 rfl rfl rfl trivial ?_
  obtain ⟨g32, h⟩ := h
  refine jLf.one hc _ rfl (gs := [¬ (401 : Int32) < 0, 401 ≤ 1000000, 1 ≤ 2, 401 ≤ 802, jN S30 < 1000000]) (c := (29, [some (.ref this)], [.ref (jN S30), .ref this], (uNew S30 13 401), 1, 401)) rfl ⟨(by decide), Nat.le_of_ble_eq_true rfl, Nat.le_of_ble_eq_true rfl, Nat.le_of_ble_eq_true rfl, g32⟩ ?_
  generalize eS31 : uNew S30 13 401 = S31
  generalize eh33 : jN S30 = h33
  have h := h h33 eh33.symm S31 eS31.symm
  obtain ⟨g34, h⟩ := h
  refine jLf.bk hc 1 [jA S31 this 5] [some (.ref this)] [] (uR S31 this 9 (some h33)) rfl rfl rfl g34 ?_
  generalize eS35 : uR S31 this 9 (some h33) = S35
  have h := h S35 eS35.symm
  refine jLf.bk hc 2 [] [some (.ref this)] [.int 401, .ref this] S35 rfl rfl rfl trivial ?_
  obtain ⟨g37, h⟩ := h
  refine jLf.one hc _ rfl (gs := [¬ (401 : Int32) < 0, 401 ≤ 1000000, 1 ≤ 1, 401 ≤ 401, jN S35 < 1000000]) (c := (33, [some (.ref this)], [.ref (jN S35), .ref this], (uNew S35 13 401), 0, 0)) rfl ⟨(by decide), Nat.le_of_ble_eq_true rfl, Nat.le_of_ble_eq_true rfl, Nat.le_of_ble_eq_true rfl, g37⟩ ?_
  generalize eS36 : uNew S35 13 401 = S36
  generalize eh38 : jN S35 = h38
  have h := h h38 eh38.symm S36 eS36.symm
  obtain ⟨g39, h⟩ := h
  refine jLf.bk hc 1 [jA S36 this 5] [some (.ref this)] [] (uR S36 this 10 (some h38)) rfl rfl rfl g39 ?_
  generalize eS40 : uR S36 this 10 (some h38) = S40
  have h := h S40 eS40.symm
  exact jLf.ret hc _ rfl (gs := [jrt none none]) (v := none) rfl trivial ⟨rfl, h⟩
def bX5_putFour_2   (X2 : Nat → Int32 → Int32 → JS → Prop) (l0 : Nat) (l1 : Int32) (l2 : Int32) (S : JS) (Q : JS → Prop) : Prop :=
  (l2 < 0 → Q S) ∧ (¬ (l2 < 0) → jA S l0 5 ∧ ((400 ≤ (jI S l0 1) → Q S) ∧ (¬ (400 ≤ (jI S l0 1)) → ¬ jR S l0 0 = none ∧ (jA S (jr S l0 0) 13 ∧ (vp_in (jI S l0 1) (jZ S (jr S l0 0)) ∧ (∀ S5 : JS, S5 = uI S (jr S l0 0) (jI S l0 1).toNatClampNeg ((l1 >>> (l2 &&& 31)) &&& (255 : Int32)) → (jA S5 l0 5 ∧ (∀ S7 : JS, S7 = uI S5 l0 1 ((jI S5 l0 1) + (1 : Int32)) → (∀ x8 : Int32, x8 = (l2 + (-8)) → (X2 l0 l1 x8 S7))))))))))
set_option maxRecDepth 20000 in
theorem uX5_putFour_2 {Q : JS → Prop}  (d : Nat) (hd : 0 ≤ d) {X2 : Nat → Int32 → Int32 → JS → Prop} (hX2 : ∀ l0 l1 l2 S, X2 l0 l1 l2 S → jLf (jCall jmt jbud d) jbud (fun j => (jmt j).rk) none mX5_putFour (jqV Q) (2, [some (.ref l0), some (.int l1), some (.int l2)], [], S, 0, 0)) {l0 : Nat} {l1 : Int32} {l2 : Int32} {S : JS} (h : bX5_putFour_2 X2 l0 l1 l2 S Q) : jLf (jCall jmt jbud d) jbud (fun j => (jmt j).rk) none mX5_putFour (jqV Q) (2, [some (.ref l0), some (.int l1), some (.int l2)], [], S, 0, 0) := by
  have hc := jCall_mono jmt jbud d
  unfold bX5_putFour_2 at h
  refine jLf.bk hc 1 [] [some (.ref l0), some (.int l1), some (.int l2)] [.int l2] S rfl rfl rfl trivial ?_
  refine jLf.two hc _ rfl (gs := []) (p1 := l2 < 0) (p2 := ¬ (l2 < 0)) (c1 := (26, [some (.ref l0), some (.int l1), some (.int l2)], [], S, 0, 0)) (c2 := (4, [some (.ref l0), some (.int l1), some (.int l2)], [], S, 0, 0)) rfl trivial (fun hz => ?_) (fun hz => ?_)
  · have h := h.1 hz
    exact jLf.ret hc _ rfl (gs := [jrt none none]) (v := none) rfl trivial ⟨rfl, h⟩
  · have h := h.2 hz
    obtain ⟨g1, h⟩ := h
    refine jLf.bk hc 3 [jA S l0 5] [some (.ref l0), some (.int l1), some (.int l2)] [.int 400, .int (jI S l0 1)] S rfl rfl rfl g1 ?_
    refine jLf.two hc _ rfl (gs := []) (p1 := 400 ≤ (jI S l0 1)) (p2 := ¬ (400 ≤ (jI S l0 1))) (c1 := (26, [some (.ref l0), some (.int l1), some (.int l2)], [], S, 0, 0)) (c2 := (8, [some (.ref l0), some (.int l1), some (.int l2)], [], S, 0, 0)) rfl trivial (fun hz => ?_) (fun hz => ?_)
    · have h := h.1 hz
      exact jLf.ret hc _ rfl (gs := [jrt none none]) (v := none) rfl trivial ⟨rfl, h⟩
    · have h := h.2 hz
      obtain ⟨g2, g3, g4, h⟩ := h
      refine jLf.bk hc 10 [jA S l0 5, ¬ jR S l0 0 = none, jA S l0 5, jA S (jr S l0 0) 13, vp_in (jI S l0 1) (jZ S (jr S l0 0))] [some (.ref l0), some (.int l1), some (.int l2)] [] (uI S (jr S l0 0) (jI S l0 1).toNatClampNeg ((l1 >>> (l2 &&& 31)) &&& (255 : Int32))) rfl rfl rfl ⟨g1, g2, g1, g3, g4⟩ ?_
      generalize eS5 : uI S (jr S l0 0) (jI S l0 1).toNatClampNeg ((l1 >>> (l2 &&& 31)) &&& (255 : Int32)) = S5
      have h := h S5 eS5.symm
      obtain ⟨g6, h⟩ := h
      refine jLf.bk hc 6 [(.ref l0 : Value).category = 1, jA S5 l0 5, jA S5 l0 5] [some (.ref l0), some (.int l1), some (.int l2)] [] (uI S5 l0 1 ((jI S5 l0 1) + (1 : Int32))) rfl rfl rfl ⟨rfl, g6, g6⟩ ?_
      generalize eS7 : uI S5 l0 1 ((jI S5 l0 1) + (1 : Int32)) = S7
      have h := h S7 eS7.symm
      refine jLf.bk hc 1 [] [some (.ref l0), some (.int l1), some (.int (l2 + (-8)))] [] S7 rfl rfl rfl trivial ?_
      generalize ex8 : (l2 + (-8) : Int32) = x8
      have h := h x8 ex8.symm
      refine jLf.one hc _ rfl (gs := []) (c := (2, [some (.ref l0), some (.int l1), some (.int x8)], [], S7, 0, 0)) rfl trivial ?_
      exact hX2 _ _ _ _ h
def wX5_putFour_2   (l0 : Nat) (l1 : Int32) (l2 : Int32) (S : JS) (Q : JS → Prop) : Prop :=
  jLoop (fun (X2 : Nat × Int32 × Int32 × JS → Prop) q => bX5_putFour_2 (fun l0 l1 l2 S => X2 (l0, l1, l2, S)) q.1 q.2.1 q.2.2.1 q.2.2.2 Q) (l0, l1, l2, S)
set_option maxRecDepth 20000 in
theorem tX5_putFour_2 {Q : JS → Prop}  (d : Nat) (hd : 0 ≤ d) {l0 : Nat} {l1 : Int32} {l2 : Int32} {S : JS} (h : wX5_putFour_2 l0 l1 l2 S Q) : jLf (jCall jmt jbud d) jbud (fun j => (jmt j).rk) none mX5_putFour (jqV Q) (2, [some (.ref l0), some (.int l1), some (.int l2)], [], S, 0, 0) := by
  have := h (fun q : Nat × Int32 × Int32 × JS => jLf (jCall jmt jbud d) jbud (fun j => (jmt j).rk) none mX5_putFour (jqV Q) (2, [some (.ref (q.1)), some (.int (q.2.1)), some (.int (q.2.2.1))], [], q.2.2.2, 0, 0)) (fun q R hb hR => uX5_putFour_2 d hd  (fun _ _ _ _ => hR _) hb)
  exact this
def wX5_putFour  (this : Nat) (p1 : Int32) (S : JS) (Q : JS → Prop) : Prop :=
  wX5_putFour_2 this p1 24 S Q
set_option maxRecDepth 20000 in
theorem vX5_putFour {Q : JS → Prop} (d : Nat) (hd : 1 ≤ d) {this : Nat} {p1 : Int32} {S : JS} (h : wX5_putFour this p1 S Q) : jCall jmt jbud d 32 [.ref this, .int p1] S (jqV Q) := by
  obtain ⟨d, rfl⟩ : ∃ d2, d = d2 + 1 := ⟨d - 1, by omega⟩
  have hd : 0 ≤ d := by omega
  have hc := jCall_mono jmt jbud d
  unfold wX5_putFour at h
  refine ⟨Nat.le_of_ble_eq_true rfl, ?_⟩
  show jLf (jCall jmt jbud d) jbud (fun j => (jmt j).rk) none mX5_putFour (jqV Q) (0, [some (.ref this), some (.int p1), none], [], S, 0, 0)
  refine jLf.bk hc 2 [] [some (.ref this), some (.int p1), some (.int 24)] [] S rfl rfl rfl trivial ?_
  exact tX5_putFour_2 d hd  h
def wX5_goTo  (this : Nat) (p1 : Int32) (S : JS) (Q : JS → Prop) : Prop :=
  (p1 < 0 → Q S) ∧ (¬ (p1 < 0) → (400 < p1 → Q S) ∧ (¬ (400 < p1) → jA S this 5 ∧ (∀ S2 : JS, S2 = uI S this 11 p1 → (jA S2 this 5 ∧ (¬ jR S2 this 9 = none ∧ (jA S2 (jr S2 this 9) 13 ∧ (vp_in p1 (jZ S2 (jr S2 this 9)) ∧ (∀ S7 : JS, S7 = uI S2 this 12 ((jI S2 (jr S2 this 9) p1.toNatClampNeg) &&& (31 : Int32)) → (Q S7)))))))))
set_option maxRecDepth 20000 in
theorem vX5_goTo {Q : JS → Prop} (d : Nat) (hd : 1 ≤ d) {this : Nat} {p1 : Int32} {S : JS} (h : wX5_goTo this p1 S Q) : jCall jmt jbud d 45 [.ref this, .int p1] S (jqV Q) := by
  obtain ⟨d, rfl⟩ : ∃ d2, d = d2 + 1 := ⟨d - 1, by omega⟩
  have hd : 0 ≤ d := by omega
  have hc := jCall_mono jmt jbud d
  unfold wX5_goTo at h
  refine ⟨Nat.le_of_ble_eq_true rfl, ?_⟩
  show jLf (jCall jmt jbud d) jbud (fun j => (jmt j).rk) none mX5_goTo (jqV Q) (0, [some (.ref this), some (.int p1)], [], S, 0, 0)
  refine jLf.bk hc 1 [] [some (.ref this), some (.int p1)] [.int p1] S rfl rfl rfl trivial ?_
  refine jLf.two hc _ rfl (gs := []) (p1 := p1 < 0) (p2 := ¬ (p1 < 0)) (c1 := (16, [some (.ref this), some (.int p1)], [], S, 0, 0)) (c2 := (2, [some (.ref this), some (.int p1)], [], S, 0, 0)) rfl trivial (fun hz => ?_) (fun hz => ?_)
  · have h := h.1 hz
    exact jLf.ret hc _ rfl (gs := [jrt none none]) (v := none) rfl trivial ⟨rfl, h⟩
  · have h := h.2 hz
    refine jLf.bk hc 2 [] [some (.ref this), some (.int p1)] [.int 400, .int p1] S rfl rfl rfl trivial ?_
    refine jLf.two hc _ rfl (gs := []) (p1 := 400 < p1) (p2 := ¬ (400 < p1)) (c1 := (16, [some (.ref this), some (.int p1)], [], S, 0, 0)) (c2 := (5, [some (.ref this), some (.int p1)], [], S, 0, 0)) rfl trivial (fun hz => ?_) (fun hz => ?_)
    · have h := h.1 hz
      exact jLf.ret hc _ rfl (gs := [jrt none none]) (v := none) rfl trivial ⟨rfl, h⟩
    · have h := h.2 hz
      obtain ⟨g1, h⟩ := h
      refine jLf.bk hc 3 [jA S this 5] [some (.ref this), some (.int p1)] [] (uI S this 11 p1) rfl rfl rfl g1 ?_
      generalize eS2 : uI S this 11 p1 = S2
      have h := h S2 eS2.symm
      obtain ⟨g3, g4, g5, g6, h⟩ := h
      refine jLf.bk hc 8 [jA S2 this 5, ¬ jR S2 this 9 = none, jA S2 (jr S2 this 9) 13, vp_in p1 (jZ S2 (jr S2 this 9)), jA S2 this 5] [some (.ref this), some (.int p1)] [] (uI S2 this 12 ((jI S2 (jr S2 this 9) p1.toNatClampNeg) &&& (31 : Int32))) rfl rfl rfl ⟨g3, g4, g5, g6, g3⟩ ?_
      generalize eS7 : uI S2 this 12 ((jI S2 (jr S2 this 9) p1.toNatClampNeg) &&& (31 : Int32)) = S7
      have h := h S7 eS7.symm
      exact jLf.ret hc _ rfl (gs := [jrt none none]) (v := none) rfl trivial ⟨rfl, h⟩
def wX5_pass  (this : Nat) (p1 : Int32) (S : JS) (Q : Int32 → JS → Prop) : Prop :=
  jA S this 5 ∧ (((jI S this 12) = p1 → wX5_goTo this ((jI S this 11) + (1 : Int32)) S (fun S2 => Q 1 S2)) ∧ (¬ (jI S this 12) = p1 → Q 0 S))
set_option maxRecDepth 20000 in
theorem vX5_pass {Q : Int32 → JS → Prop} (d : Nat) (hd : 2 ≤ d) {this : Nat} {p1 : Int32} {S : JS} (h : wX5_pass this p1 S Q) : jCall jmt jbud d 44 [.ref this, .int p1] S (jqI Q) := by
  obtain ⟨d, rfl⟩ : ∃ d2, d = d2 + 1 := ⟨d - 1, by omega⟩
  have hd : 1 ≤ d := by omega
  have hc := jCall_mono jmt jbud d
  unfold wX5_pass at h
  refine ⟨Nat.le_of_ble_eq_true rfl, ?_⟩
  show jLf (jCall jmt jbud d) jbud (fun j => (jmt j).rk) none mX5_pass (jqI Q) (0, [some (.ref this), some (.int p1)], [], S, 0, 0)
  obtain ⟨g1, h⟩ := h
  refine jLf.bk hc 3 [jA S this 5] [some (.ref this), some (.int p1)] [.int p1, .int (jI S this 12)] S rfl rfl rfl g1 ?_
  refine jLf.two hc _ rfl (gs := []) (p1 := (jI S this 12) = p1) (p2 := ¬ ((jI S this 12) = p1)) (c1 := (6, [some (.ref this), some (.int p1)], [], S, 0, 0)) (c2 := (4, [some (.ref this), some (.int p1)], [], S, 0, 0)) rfl trivial (fun hz => ?_) (fun hz => ?_)
  · have h := h.1 hz
    refine jLf.bk hc 5 [jA S this 5] [some (.ref this), some (.int p1)] [.int ((jI S this 11) + (1 : Int32)), .ref this] S rfl rfl rfl g1 ?_
    refine jLf.inv hc _ rfl (gs := [jA S this 5, (([] : List Value).map fun v => v.category).sum ≤ 8, 0 ≤ 0, 0 ≤ 0]) (k := 45) (args := [.ref this, .int ((jI S this 11) + (1 : Int32))]) (r := []) (a := 0) (b := 0) rfl ⟨g1, Nat.le_of_ble_eq_true rfl, Nat.zero_le _, Nat.zero_le _⟩ (vX5_goTo d (by omega) h) ?_
    rintro v S2 ⟨rfl, h⟩
    show jLf (jCall jmt jbud d) jbud (fun j => (jmt j).rk) none mX5_pass (jqI Q) (12, [some (.ref this), some (.int p1)], [], S2, 0, 0)
    refine jLf.bk hc 1 [] [some (.ref this), some (.int p1)] [.int 1] S2 rfl rfl rfl trivial ?_
    exact jLf.ret hc _ rfl (gs := [jbit 1]) (v := some (.int 1)) rfl (Or.inr rfl) ⟨_, rfl, h⟩
  · have h := h.2 hz
    refine jLf.bk hc 1 [] [some (.ref this), some (.int p1)] [.int 0] S rfl rfl rfl trivial ?_
    exact jLf.ret hc _ rfl (gs := [jbit 0]) (v := some (.int 0)) rfl (Or.inl rfl) ⟨_, rfl, h⟩
def wX5_readRoundBracket (G : Nat → List Value → JS → (Option Value → JS → Prop) → Prop) (this : Nat) (p1 : Int32) (S : JS) (Q : Int32 → JS → Prop) : Prop :=
  (8 ≤ p1 → Q 0 S) ∧ (¬ (8 ≤ p1) → jA S this 5 ∧ (wX5_pass this 22 S (fun r2 S1 => (r2 = 0 → Q 0 S1) ∧ (¬ r2 = 0 → jA S1 this 5 ∧ (G 36 [.ref this, .int (p1 + (1 : Int32))] S1 (jqI (fun r5 S4 => (r5 = 0 → Q 0 S4) ∧ (¬ r5 = 0 → jA S4 this 5 ∧ (wX5_pass this 23 S4 (fun r8 S7 => (r8 = 0 → Q 0 S7) ∧ (¬ r8 = 0 → Q 1 S7)))))))))))
set_option maxRecDepth 20000 in
theorem vX5_readRoundBracket {Q : Int32 → JS → Prop} {G : Nat → List Value → JS → (Option Value → JS → Prop) → Prop} (d : Nat) (hd : 3 ≤ d) (hG : ∀ k args S Q, G k args S Q → jCall jmt jbud (d - 1) k args S Q) {this : Nat} {p1 : Int32} {S : JS} (h : wX5_readRoundBracket G this p1 S Q) : jCall jmt jbud d 39 [.ref this, .int p1] S (jqI Q) := by
  obtain ⟨d, rfl⟩ : ∃ d2, d = d2 + 1 := ⟨d - 1, by omega⟩
  have hd : 2 ≤ d := by omega
  have hc := jCall_mono jmt jbud d
  have hG : ∀ k args S Q, G k args S Q → jCall jmt jbud d k args S Q := hG
  unfold wX5_readRoundBracket at h
  refine ⟨Nat.le_of_ble_eq_true rfl, ?_⟩
  show jLf (jCall jmt jbud d) jbud (fun j => (jmt j).rk) none mX5_readRoundBracket (jqI Q) (0, [some (.ref this), some (.int p1)], [], S, 0, 0)
  refine jLf.bk hc 2 [] [some (.ref this), some (.int p1)] [.int 8, .int p1] S rfl rfl rfl trivial ?_
  refine jLf.two hc _ rfl (gs := []) (p1 := 8 ≤ p1) (p2 := ¬ (8 ≤ p1)) (c1 := (19, [some (.ref this), some (.int p1)], [], S, 0, 0)) (c2 := (3, [some (.ref this), some (.int p1)], [], S, 0, 0)) rfl trivial (fun hz => ?_) (fun hz => ?_)
  · have h := h.1 hz
    refine jLf.bk hc 1 [] [some (.ref this), some (.int p1)] [.int 0] S rfl rfl rfl trivial ?_
    exact jLf.ret hc _ rfl (gs := [jbit 0]) (v := some (.int 0)) rfl (Or.inl rfl) ⟨_, rfl, h⟩
  · have h := h.2 hz
    refine jLf.bk hc 2 [] [some (.ref this), some (.int p1)] [.int 22, .ref this] S rfl rfl rfl trivial ?_
    obtain ⟨g3, h⟩ := h
    refine jLf.inv hc _ rfl (gs := [jA S this 5, (([] : List Value).map fun v => v.category).sum ≤ 8, 0 ≤ 0, 0 ≤ 0]) (k := 44) (args := [.ref this, .int 22]) (r := []) (a := 0) (b := 0) rfl ⟨g3, Nat.le_of_ble_eq_true rfl, Nat.zero_le _, Nat.zero_le _⟩ (vX5_pass d (by omega) h) ?_
    rintro v S1 ⟨r2, rfl, h⟩
    show jLf (jCall jmt jbud d) jbud (fun j => (jmt j).rk) none mX5_readRoundBracket (jqI Q) (6, [some (.ref this), some (.int p1)], [.int r2], S1, 0, 0)
    refine jLf.two hc _ rfl (gs := []) (p1 := r2 = 0) (p2 := ¬ (r2 = 0)) (c1 := (19, [some (.ref this), some (.int p1)], [], S1, 0, 0)) (c2 := (7, [some (.ref this), some (.int p1)], [], S1, 0, 0)) rfl trivial (fun hz => ?_) (fun hz => ?_)
    · have h := h.1 hz
      refine jLf.bk hc 1 [] [some (.ref this), some (.int p1)] [.int 0] S1 rfl rfl rfl trivial ?_
      exact jLf.ret hc _ rfl (gs := [jbit 0]) (v := some (.int 0)) rfl (Or.inl rfl) ⟨_, rfl, h⟩
    · have h := h.2 hz
      refine jLf.bk hc 4 [] [some (.ref this), some (.int p1)] [.int (p1 + (1 : Int32)), .ref this] S1 rfl rfl rfl trivial ?_
      obtain ⟨g6, h⟩ := h
      refine jLf.inv hc _ rfl (gs := [jA S1 this 5, (([] : List Value).map fun v => v.category).sum ≤ 8, 0 ≤ 0, 0 ≤ 0]) (k := 36) (args := [.ref this, .int (p1 + (1 : Int32))]) (r := []) (a := 0) (b := 0) rfl ⟨g6, Nat.le_of_ble_eq_true rfl, Nat.zero_le _, Nat.zero_le _⟩ (hG _ _ _ _ h) ?_
      rintro v S4 ⟨r5, rfl, h⟩
      show jLf (jCall jmt jbud d) jbud (fun j => (jmt j).rk) none mX5_readRoundBracket (jqI Q) (12, [some (.ref this), some (.int p1)], [.int r5], S4, 0, 0)
      refine jLf.two hc _ rfl (gs := []) (p1 := r5 = 0) (p2 := ¬ (r5 = 0)) (c1 := (19, [some (.ref this), some (.int p1)], [], S4, 0, 0)) (c2 := (13, [some (.ref this), some (.int p1)], [], S4, 0, 0)) rfl trivial (fun hz => ?_) (fun hz => ?_)
      · have h := h.1 hz
        refine jLf.bk hc 1 [] [some (.ref this), some (.int p1)] [.int 0] S4 rfl rfl rfl trivial ?_
        exact jLf.ret hc _ rfl (gs := [jbit 0]) (v := some (.int 0)) rfl (Or.inl rfl) ⟨_, rfl, h⟩
      · have h := h.2 hz
        refine jLf.bk hc 2 [] [some (.ref this), some (.int p1)] [.int 23, .ref this] S4 rfl rfl rfl trivial ?_
        obtain ⟨g9, h⟩ := h
        refine jLf.inv hc _ rfl (gs := [jA S4 this 5, (([] : List Value).map fun v => v.category).sum ≤ 8, 0 ≤ 0, 0 ≤ 0]) (k := 44) (args := [.ref this, .int 23]) (r := []) (a := 0) (b := 0) rfl ⟨g9, Nat.le_of_ble_eq_true rfl, Nat.zero_le _, Nat.zero_le _⟩ (vX5_pass d (by omega) h) ?_
        rintro v S7 ⟨r8, rfl, h⟩
        show jLf (jCall jmt jbud d) jbud (fun j => (jmt j).rk) none mX5_readRoundBracket (jqI Q) (16, [some (.ref this), some (.int p1)], [.int r8], S7, 0, 0)
        refine jLf.two hc _ rfl (gs := []) (p1 := r8 = 0) (p2 := ¬ (r8 = 0)) (c1 := (19, [some (.ref this), some (.int p1)], [], S7, 0, 0)) (c2 := (17, [some (.ref this), some (.int p1)], [], S7, 0, 0)) rfl trivial (fun hz => ?_) (fun hz => ?_)
        · have h := h.1 hz
          refine jLf.bk hc 1 [] [some (.ref this), some (.int p1)] [.int 0] S7 rfl rfl rfl trivial ?_
          exact jLf.ret hc _ rfl (gs := [jbit 0]) (v := some (.int 0)) rfl (Or.inl rfl) ⟨_, rfl, h⟩
        · have h := h.2 hz
          refine jLf.bk hc 1 [] [some (.ref this), some (.int p1)] [.int 1] S7 rfl rfl rfl trivial ?_
          refine jLf.one hc _ rfl (gs := []) (c := (20, [some (.ref this), some (.int p1)], [.int 1], S7, 0, 0)) rfl trivial ?_
          exact jLf.ret hc _ rfl (gs := [jbit 1]) (v := some (.int 1)) rfl (Or.inr rfl) ⟨_, rfl, h⟩
def wX5_emit  (this : Nat) (p1 : Int32) (S : JS) (Q : Int32 → JS → Prop) : Prop :=
  jA S this 5 ∧ (¬ jR S this 6 = none ∧ (jA S (jr S this 6) 13 ∧ (((Int32.ofNat (jZ S (jr S this 6))) ≤ (jI S this 8) → Q ((jI S this 8) - (1 : Int32)) S) ∧ (¬ ((Int32.ofNat (jZ S (jr S this 6))) ≤ (jI S this 8)) → vp_in (jI S this 8) (jZ S (jr S this 6)) ∧ (∀ S5 : JS, S5 = uI S (jr S this 6) (jI S this 8).toNatClampNeg p1 → (jA S5 this 5 ∧ (∀ S7 : JS, S7 = uI S5 this 8 ((jI S5 this 8) + (1 : Int32)) → (jA S7 this 5 ∧ (Q ((jI S7 this 8) - (1 : Int32)) S7)))))))))
set_option maxRecDepth 20000 in
theorem vX5_emit {Q : Int32 → JS → Prop} (d : Nat) (hd : 1 ≤ d) {this : Nat} {p1 : Int32} {S : JS} (h : wX5_emit this p1 S Q) : jCall jmt jbud d 46 [.ref this, .int p1] S (jqI Q) := by
  obtain ⟨d, rfl⟩ : ∃ d2, d = d2 + 1 := ⟨d - 1, by omega⟩
  have hd : 0 ≤ d := by omega
  have hc := jCall_mono jmt jbud d
  unfold wX5_emit at h
  refine ⟨Nat.le_of_ble_eq_true rfl, ?_⟩
  show jLf (jCall jmt jbud d) jbud (fun j => (jmt j).rk) none mX5_emit (jqI Q) (0, [some (.ref this), some (.int p1)], [], S, 0, 0)
  obtain ⟨g1, g2, g3, h⟩ := h
  refine jLf.bk hc 5 [jA S this 5, jA S this 5, ¬ jR S this 6 = none, jA S (jr S this 6) 13] [some (.ref this), some (.int p1)] [.int (Int32.ofNat (jZ S (jr S this 6))), .int (jI S this 8)] S rfl rfl rfl ⟨g1, g1, g2, g3⟩ ?_
  refine jLf.two hc _ rfl (gs := []) (p1 := (Int32.ofNat (jZ S (jr S this 6))) ≤ (jI S this 8)) (p2 := ¬ ((Int32.ofNat (jZ S (jr S this 6))) ≤ (jI S this 8))) (c1 := (18, [some (.ref this), some (.int p1)], [], S, 0, 0)) (c2 := (6, [some (.ref this), some (.int p1)], [], S, 0, 0)) rfl trivial (fun hz => ?_) (fun hz => ?_)
  · have h := h.1 hz
    refine jLf.bk hc 4 [jA S this 5] [some (.ref this), some (.int p1)] [.int ((jI S this 8) - (1 : Int32))] S rfl rfl rfl g1 ?_
    exact jLf.ret hc _ rfl (gs := [True]) (v := some (.int ((jI S this 8) - (1 : Int32)))) rfl trivial ⟨(jI S this 8) - (1 : Int32), rfl, h⟩
  · have h := h.2 hz
    obtain ⟨g4, h⟩ := h
    refine jLf.bk hc 6 [jA S this 5, ¬ jR S this 6 = none, jA S this 5, jA S (jr S this 6) 13, vp_in (jI S this 8) (jZ S (jr S this 6))] [some (.ref this), some (.int p1)] [] (uI S (jr S this 6) (jI S this 8).toNatClampNeg p1) rfl rfl rfl ⟨g1, g2, g1, g3, g4⟩ ?_
    generalize eS5 : uI S (jr S this 6) (jI S this 8).toNatClampNeg p1 = S5
    have h := h S5 eS5.symm
    obtain ⟨g6, h⟩ := h
    refine jLf.bk hc 6 [(.ref this : Value).category = 1, jA S5 this 5, jA S5 this 5] [some (.ref this), some (.int p1)] [] (uI S5 this 8 ((jI S5 this 8) + (1 : Int32))) rfl rfl rfl ⟨rfl, g6, g6⟩ ?_
    generalize eS7 : uI S5 this 8 ((jI S5 this 8) + (1 : Int32)) = S7
    have h := h S7 eS7.symm
    obtain ⟨g8, h⟩ := h
    refine jLf.bk hc 4 [jA S7 this 5] [some (.ref this), some (.int p1)] [.int ((jI S7 this 8) - (1 : Int32))] S7 rfl rfl rfl g8 ?_
    exact jLf.ret hc _ rfl (gs := [True]) (v := some (.int ((jI S7 this 8) - (1 : Int32)))) rfl trivial ⟨(jI S7 this 8) - (1 : Int32), rfl, h⟩
def wX5_readPart (G : Nat → List Value → JS → (Option Value → JS → Prop) → Prop) (this : Nat) (p1 : Int32) (S : JS) (Q : Int32 → JS → Prop) : Prop :=
  jA S this 5 ∧ ((¬ (jI S this 12) = 24 → ((jI S this 12) < 0 → Q 0 S) ∧ (¬ ((jI S this 12) < 0) → (6 < (jI S this 12) → Q 0 S) ∧ (¬ (6 < (jI S this 12)) → ((jI S this 13) < 50 → ∀ S2 : JS, S2 = uI S this 13 ((jI S this 13) + (1 : Int32)) → (jA S2 this 5 ∧ (¬ jR S2 this 9 = none ∧ (jA S2 (jr S2 this 9) 13 ∧ (vp_in (jI S2 this 11) (jZ S2 (jr S2 this 9)) ∧ (wX5_emit this (jI S2 (jr S2 this 9) (jI S2 this 11).toNatClampNeg) S2 (fun r8 S7 => jA S7 this 5 ∧ (wX5_goTo this ((jI S7 this 11) + (1 : Int32)) S7 (fun S10 => Q 1 S10))))))))) ∧ (¬ ((jI S this 13) < 50) → Q 0 S)))) ∧ ((jI S this 12) = 24 → (8 ≤ p1 → Q 0 S) ∧ (¬ (8 ≤ p1) → wX5_pass this 24 S (fun r13 S12 => (r13 = 0 → Q 0 S12) ∧ (¬ r13 = 0 → jA S12 this 5 ∧ (G 41 [.ref this, .int (p1 + (1 : Int32))] S12 (jqI (fun r15 S14 => (r15 = 0 → Q 0 S14) ∧ (¬ r15 = 0 → jA S14 this 5 ∧ (wX5_pass this 25 S14 (fun r18 S17 => (r18 = 0 → Q 0 S17) ∧ (¬ r18 = 0 → Q 1 S17))))))))))))
set_option maxRecDepth 20000 in
theorem vX5_readPart {Q : Int32 → JS → Prop} {G : Nat → List Value → JS → (Option Value → JS → Prop) → Prop} (d : Nat) (hd : 3 ≤ d) (hG : ∀ k args S Q, G k args S Q → jCall jmt jbud (d - 1) k args S Q) {this : Nat} {p1 : Int32} {S : JS} (h : wX5_readPart G this p1 S Q) : jCall jmt jbud d 43 [.ref this, .int p1] S (jqI Q) := by
  obtain ⟨d, rfl⟩ : ∃ d2, d = d2 + 1 := ⟨d - 1, by omega⟩
  have hd : 2 ≤ d := by omega
  have hc := jCall_mono jmt jbud d
  have hG : ∀ k args S Q, G k args S Q → jCall jmt jbud d k args S Q := hG
  unfold wX5_readPart at h
  refine ⟨Nat.le_of_ble_eq_true rfl, ?_⟩
  show jLf (jCall jmt jbud d) jbud (fun j => (jmt j).rk) none mX5_readPart (jqI Q) (0, [some (.ref this), some (.int p1)], [], S, 0, 0)
  obtain ⟨g1, h⟩ := h
  refine jLf.bk hc 3 [jA S this 5] [some (.ref this), some (.int p1)] [.int 24, .int (jI S this 12)] S rfl rfl rfl g1 ?_
  refine jLf.two hc _ rfl (gs := []) (p1 := ¬ (jI S this 12) = 24) (p2 := ¬ (¬ (jI S this 12) = 24)) (c1 := (25, [some (.ref this), some (.int p1)], [], S, 0, 0)) (c2 := (4, [some (.ref this), some (.int p1)], [], S, 0, 0)) rfl trivial (fun hz => ?_) (fun hz => ?_)
  · have h := h.1 hz
    refine jLf.bk hc 2 [jA S this 5] [some (.ref this), some (.int p1)] [.int (jI S this 12)] S rfl rfl rfl g1 ?_
    refine jLf.two hc _ rfl (gs := []) (p1 := (jI S this 12) < 0) (p2 := ¬ ((jI S this 12) < 0)) (c1 := (36, [some (.ref this), some (.int p1)], [], S, 0, 0)) (c2 := (28, [some (.ref this), some (.int p1)], [], S, 0, 0)) rfl trivial (fun hz => ?_) (fun hz => ?_)
    · have h := h.1 hz
      refine jLf.bk hc 1 [] [some (.ref this), some (.int p1)] [.int 0] S rfl rfl rfl trivial ?_
      exact jLf.ret hc _ rfl (gs := [jbit 0]) (v := some (.int 0)) rfl (Or.inl rfl) ⟨_, rfl, h⟩
    · have h := h.2 hz
      refine jLf.bk hc 3 [jA S this 5] [some (.ref this), some (.int p1)] [.int 6, .int (jI S this 12)] S rfl rfl rfl g1 ?_
      refine jLf.two hc _ rfl (gs := []) (p1 := 6 < (jI S this 12)) (p2 := ¬ (6 < (jI S this 12))) (c1 := (36, [some (.ref this), some (.int p1)], [], S, 0, 0)) (c2 := (32, [some (.ref this), some (.int p1)], [], S, 0, 0)) rfl trivial (fun hz => ?_) (fun hz => ?_)
      · have h := h.1 hz
        refine jLf.bk hc 1 [] [some (.ref this), some (.int p1)] [.int 0] S rfl rfl rfl trivial ?_
        exact jLf.ret hc _ rfl (gs := [jbit 0]) (v := some (.int 0)) rfl (Or.inl rfl) ⟨_, rfl, h⟩
      · have h := h.2 hz
        refine jLf.bk hc 3 [jA S this 5] [some (.ref this), some (.int p1)] [.int 50, .int (jI S this 13)] S rfl rfl rfl g1 ?_
        refine jLf.two hc _ rfl (gs := []) (p1 := (jI S this 13) < 50) (p2 := ¬ ((jI S this 13) < 50)) (c1 := (38, [some (.ref this), some (.int p1)], [], S, 0, 0)) (c2 := (36, [some (.ref this), some (.int p1)], [], S, 0, 0)) rfl trivial (fun hz => ?_) (fun hz => ?_)
        · have h := h.1 hz
          refine jLf.bk hc 6 [(.ref this : Value).category = 1, jA S this 5, jA S this 5] [some (.ref this), some (.int p1)] [] (uI S this 13 ((jI S this 13) + (1 : Int32))) rfl rfl rfl ⟨rfl, g1, g1⟩ ?_
          generalize eS2 : uI S this 13 ((jI S this 13) + (1 : Int32)) = S2
          have h := h S2 eS2.symm
          obtain ⟨g3, g4, g5, g6, h⟩ := h
          refine jLf.bk hc 6 [jA S2 this 5, ¬ jR S2 this 9 = none, jA S2 this 5, jA S2 (jr S2 this 9) 13, vp_in (jI S2 this 11) (jZ S2 (jr S2 this 9))] [some (.ref this), some (.int p1)] [.int (jI S2 (jr S2 this 9) (jI S2 this 11).toNatClampNeg), .ref this] S2 rfl rfl rfl ⟨g3, g4, g3, g5, g6⟩ ?_
          refine jLf.inv hc _ rfl (gs := [jA S2 this 5, (([] : List Value).map fun v => v.category).sum ≤ 8, 0 ≤ 0, 0 ≤ 0]) (k := 46) (args := [.ref this, .int (jI S2 (jr S2 this 9) (jI S2 this 11).toNatClampNeg)]) (r := []) (a := 0) (b := 0) rfl ⟨g3, Nat.le_of_ble_eq_true rfl, Nat.zero_le _, Nat.zero_le _⟩ (vX5_emit d (by omega) h) ?_
          rintro v S7 ⟨r8, rfl, h⟩
          show jLf (jCall jmt jbud d) jbud (fun j => (jmt j).rk) none mX5_readPart (jqI Q) (51, [some (.ref this), some (.int p1)], [.int r8], S7, 0, 0)
          obtain ⟨g9, h⟩ := h
          refine jLf.bk hc 6 [(.int r8 : Value).category = 1, jA S7 this 5] [some (.ref this), some (.int p1)] [.int ((jI S7 this 11) + (1 : Int32)), .ref this] S7 rfl rfl rfl ⟨rfl, g9⟩ ?_
          refine jLf.inv hc _ rfl (gs := [jA S7 this 5, (([] : List Value).map fun v => v.category).sum ≤ 8, 0 ≤ 0, 0 ≤ 0]) (k := 45) (args := [.ref this, .int ((jI S7 this 11) + (1 : Int32))]) (r := []) (a := 0) (b := 0) rfl ⟨g9, Nat.le_of_ble_eq_true rfl, Nat.zero_le _, Nat.zero_le _⟩ (vX5_goTo d (by omega) h) ?_
          rintro v S10 ⟨rfl, h⟩
          show jLf (jCall jmt jbud d) jbud (fun j => (jmt j).rk) none mX5_readPart (jqI Q) (58, [some (.ref this), some (.int p1)], [], S10, 0, 0)
          refine jLf.bk hc 1 [] [some (.ref this), some (.int p1)] [.int 1] S10 rfl rfl rfl trivial ?_
          exact jLf.ret hc _ rfl (gs := [jbit 1]) (v := some (.int 1)) rfl (Or.inr rfl) ⟨_, rfl, h⟩
        · have h := h.2 hz
          refine jLf.bk hc 1 [] [some (.ref this), some (.int p1)] [.int 0] S rfl rfl rfl trivial ?_
          exact jLf.ret hc _ rfl (gs := [jbit 0]) (v := some (.int 0)) rfl (Or.inl rfl) ⟨_, rfl, h⟩
  · have h := h.2 (Classical.not_not.mp hz)
    refine jLf.bk hc 2 [] [some (.ref this), some (.int p1)] [.int 8, .int p1] S rfl rfl rfl trivial ?_
    refine jLf.two hc _ rfl (gs := []) (p1 := 8 ≤ p1) (p2 := ¬ (8 ≤ p1)) (c1 := (23, [some (.ref this), some (.int p1)], [], S, 0, 0)) (c2 := (7, [some (.ref this), some (.int p1)], [], S, 0, 0)) rfl trivial (fun hz => ?_) (fun hz => ?_)
    · have h := h.1 hz
      refine jLf.bk hc 1 [] [some (.ref this), some (.int p1)] [.int 0] S rfl rfl rfl trivial ?_
      exact jLf.ret hc _ rfl (gs := [jbit 0]) (v := some (.int 0)) rfl (Or.inl rfl) ⟨_, rfl, h⟩
    · have h := h.2 hz
      refine jLf.bk hc 2 [] [some (.ref this), some (.int p1)] [.int 24, .ref this] S rfl rfl rfl trivial ?_
      refine jLf.inv hc _ rfl (gs := [jA S this 5, (([] : List Value).map fun v => v.category).sum ≤ 8, 0 ≤ 0, 0 ≤ 0]) (k := 44) (args := [.ref this, .int 24]) (r := []) (a := 0) (b := 0) rfl ⟨g1, Nat.le_of_ble_eq_true rfl, Nat.zero_le _, Nat.zero_le _⟩ (vX5_pass d (by omega) h) ?_
      rintro v S12 ⟨r13, rfl, h⟩
      show jLf (jCall jmt jbud d) jbud (fun j => (jmt j).rk) none mX5_readPart (jqI Q) (10, [some (.ref this), some (.int p1)], [.int r13], S12, 0, 0)
      refine jLf.two hc _ rfl (gs := []) (p1 := r13 = 0) (p2 := ¬ (r13 = 0)) (c1 := (23, [some (.ref this), some (.int p1)], [], S12, 0, 0)) (c2 := (11, [some (.ref this), some (.int p1)], [], S12, 0, 0)) rfl trivial (fun hz => ?_) (fun hz => ?_)
      · have h := h.1 hz
        refine jLf.bk hc 1 [] [some (.ref this), some (.int p1)] [.int 0] S12 rfl rfl rfl trivial ?_
        exact jLf.ret hc _ rfl (gs := [jbit 0]) (v := some (.int 0)) rfl (Or.inl rfl) ⟨_, rfl, h⟩
      · have h := h.2 hz
        refine jLf.bk hc 4 [] [some (.ref this), some (.int p1)] [.int (p1 + (1 : Int32)), .ref this] S12 rfl rfl rfl trivial ?_
        obtain ⟨g16, h⟩ := h
        refine jLf.inv hc _ rfl (gs := [jA S12 this 5, (([] : List Value).map fun v => v.category).sum ≤ 8, 0 ≤ 0, 0 ≤ 0]) (k := 41) (args := [.ref this, .int (p1 + (1 : Int32))]) (r := []) (a := 0) (b := 0) rfl ⟨g16, Nat.le_of_ble_eq_true rfl, Nat.zero_le _, Nat.zero_le _⟩ (hG _ _ _ _ h) ?_
        rintro v S14 ⟨r15, rfl, h⟩
        show jLf (jCall jmt jbud d) jbud (fun j => (jmt j).rk) none mX5_readPart (jqI Q) (16, [some (.ref this), some (.int p1)], [.int r15], S14, 0, 0)
        refine jLf.two hc _ rfl (gs := []) (p1 := r15 = 0) (p2 := ¬ (r15 = 0)) (c1 := (23, [some (.ref this), some (.int p1)], [], S14, 0, 0)) (c2 := (17, [some (.ref this), some (.int p1)], [], S14, 0, 0)) rfl trivial (fun hz => ?_) (fun hz => ?_)
        · have h := h.1 hz
          refine jLf.bk hc 1 [] [some (.ref this), some (.int p1)] [.int 0] S14 rfl rfl rfl trivial ?_
          exact jLf.ret hc _ rfl (gs := [jbit 0]) (v := some (.int 0)) rfl (Or.inl rfl) ⟨_, rfl, h⟩
        · have h := h.2 hz
          refine jLf.bk hc 2 [] [some (.ref this), some (.int p1)] [.int 25, .ref this] S14 rfl rfl rfl trivial ?_
          obtain ⟨g19, h⟩ := h
          refine jLf.inv hc _ rfl (gs := [jA S14 this 5, (([] : List Value).map fun v => v.category).sum ≤ 8, 0 ≤ 0, 0 ≤ 0]) (k := 44) (args := [.ref this, .int 25]) (r := []) (a := 0) (b := 0) rfl ⟨g19, Nat.le_of_ble_eq_true rfl, Nat.zero_le _, Nat.zero_le _⟩ (vX5_pass d (by omega) h) ?_
          rintro v S17 ⟨r18, rfl, h⟩
          show jLf (jCall jmt jbud d) jbud (fun j => (jmt j).rk) none mX5_readPart (jqI Q) (20, [some (.ref this), some (.int p1)], [.int r18], S17, 0, 0)
          refine jLf.two hc _ rfl (gs := []) (p1 := r18 = 0) (p2 := ¬ (r18 = 0)) (c1 := (23, [some (.ref this), some (.int p1)], [], S17, 0, 0)) (c2 := (21, [some (.ref this), some (.int p1)], [], S17, 0, 0)) rfl trivial (fun hz => ?_) (fun hz => ?_)
          · have h := h.1 hz
            refine jLf.bk hc 1 [] [some (.ref this), some (.int p1)] [.int 0] S17 rfl rfl rfl trivial ?_
            exact jLf.ret hc _ rfl (gs := [jbit 0]) (v := some (.int 0)) rfl (Or.inl rfl) ⟨_, rfl, h⟩
          · have h := h.2 hz
            refine jLf.bk hc 1 [] [some (.ref this), some (.int p1)] [.int 1] S17 rfl rfl rfl trivial ?_
            refine jLf.one hc _ rfl (gs := []) (c := (24, [some (.ref this), some (.int p1)], [.int 1], S17, 0, 0)) rfl trivial ?_
            exact jLf.ret hc _ rfl (gs := [jbit 1]) (v := some (.int 1)) rfl (Or.inr rfl) ⟨_, rfl, h⟩
def wX5_readTerm_19 (G : Nat → List Value → JS → (Option Value → JS → Prop) → Prop) (X6 : Nat → Int32 → Int32 → Int32 → JS → Prop) (l0 : Nat) (l1 : Int32) (l3 : Int32) (S : JS) (Q : Int32 → JS → Prop) : Prop :=
  jA S l0 5 ∧ (∀ x6 : Int32, x6 = (jI S l0 12) → (wX5_goTo l0 ((jI S l0 11) + (1 : Int32)) S (fun S7 => jA S7 l0 5 ∧ (G 43 [.ref l0, .int l1] S7 (jqI (fun r10 S9 => jA S9 l0 5 ∧ (wX5_emit l0 x6 S9 (fun r13 S12 => ∀ x15 : Int32, x15 = (l3 + 1) → (X6 l0 l1 r10 x15 S12)))))))))
set_option maxRecDepth 20000 in
theorem tX5_readTerm_19 {Q : Int32 → JS → Prop} {G : Nat → List Value → JS → (Option Value → JS → Prop) → Prop} {X6 : Nat → Int32 → Int32 → Int32 → JS → Prop} (d : Nat) (hd : 1 ≤ d) (hG : ∀ k args S Q, G k args S Q → jCall jmt jbud d k args S Q) (hX6 : ∀ l0 l1 l2 l3 S, X6 l0 l1 l2 l3 S → jLf (jCall jmt jbud d) jbud (fun j => (jmt j).rk) none mX5_readTerm (jqI Q) (6, [some (.ref l0), some (.int l1), some (.int l2), some (.int l3), none], [], S, 0, 0)) {l0 : Nat} {l1 : Int32} {l3 : Int32} {S : JS} (h : wX5_readTerm_19 G X6 l0 l1 l3 S Q) : jLf (jCall jmt jbud d) jbud (fun j => (jmt j).rk) none mX5_readTerm (jqI Q) (19, [some (.ref l0), some (.int l1), none, some (.int l3), none], [], S, 0, 0) := by
  have hc := jCall_mono jmt jbud d
  unfold wX5_readTerm_19 at h
  obtain ⟨g5, h⟩ := h
  refine jLf.bk hc 3 [jA S l0 5] [some (.ref l0), some (.int l1), none, some (.int l3), some (.int (jI S l0 12))] [] S rfl rfl rfl g5 ?_
  generalize ex6 : (jI S l0 12 : Int32) = x6
  have h := h x6 ex6.symm
  refine jLf.bk hc 5 [jA S l0 5] [some (.ref l0), some (.int l1), none, some (.int l3), some (.int x6)] [.int ((jI S l0 11) + (1 : Int32)), .ref l0] S rfl rfl rfl g5 ?_
  refine jLf.inv hc _ rfl (gs := [jA S l0 5, (([] : List Value).map fun v => v.category).sum ≤ 8, 0 ≤ 0, 0 ≤ 0]) (k := 45) (args := [.ref l0, .int ((jI S l0 11) + (1 : Int32))]) (r := []) (a := 0) (b := 0) rfl ⟨g5, Nat.le_of_ble_eq_true rfl, Nat.zero_le _, Nat.zero_le _⟩ (vX5_goTo d (by omega) h) ?_
  rintro v S7 ⟨rfl, h⟩
  show jLf (jCall jmt jbud d) jbud (fun j => (jmt j).rk) none mX5_readTerm (jqI Q) (28, [some (.ref l0), some (.int l1), none, some (.int l3), some (.int x6)], [], S7, 0, 0)
  refine jLf.bk hc 2 [] [some (.ref l0), some (.int l1), none, some (.int l3), some (.int x6)] [.int l1, .ref l0] S7 rfl rfl rfl trivial ?_
  obtain ⟨g11, h⟩ := h
  refine jLf.inv hc _ rfl (gs := [jA S7 l0 5, (([] : List Value).map fun v => v.category).sum ≤ 8, 0 ≤ 0, 0 ≤ 0]) (k := 43) (args := [.ref l0, .int l1]) (r := []) (a := 0) (b := 0) rfl ⟨g11, Nat.le_of_ble_eq_true rfl, Nat.zero_le _, Nat.zero_le _⟩ (hG _ _ _ _ h) ?_
  rintro v S9 ⟨r10, rfl, h⟩
  show jLf (jCall jmt jbud d) jbud (fun j => (jmt j).rk) none mX5_readTerm (jqI Q) (31, [some (.ref l0), some (.int l1), none, some (.int l3), some (.int x6)], [.int r10], S9, 0, 0)
  refine jLf.bk hc 3 [] [some (.ref l0), some (.int l1), some (.int r10), some (.int l3), some (.int x6)] [.int x6, .ref l0] S9 rfl rfl rfl trivial ?_
  obtain ⟨g14, h⟩ := h
  refine jLf.inv hc _ rfl (gs := [jA S9 l0 5, (([] : List Value).map fun v => v.category).sum ≤ 8, 0 ≤ 0, 0 ≤ 0]) (k := 46) (args := [.ref l0, .int x6]) (r := []) (a := 0) (b := 0) rfl ⟨g14, Nat.le_of_ble_eq_true rfl, Nat.zero_le _, Nat.zero_le _⟩ (vX5_emit d (by omega) h) ?_
  rintro v S12 ⟨r13, rfl, h⟩
  show jLf (jCall jmt jbud d) jbud (fun j => (jmt j).rk) none mX5_readTerm (jqI Q) (35, [some (.ref l0), some (.int l1), some (.int r10), some (.int l3), some (.int x6)], [.int r13], S12, 0, 0)
  refine jLf.bk hc 2 [(.int r13 : Value).category = 1] [some (.ref l0), some (.int l1), some (.int r10), some (.int (l3 + 1)), some (.int x6)] [] S12 rfl rfl rfl rfl ?_
  generalize ex15 : (l3 + 1 : Int32) = x15
  have h := h x15 ex15.symm
  refine jLf.one hc _ rfl (gs := []) (c := (6, [some (.ref l0), some (.int l1), some (.int r10), some (.int x15), some (.int x6)], [], S12, 0, 0)) rfl trivial ?_
  refine jLf.sub [some (.ref l0), some (.int l1), some (.int r10), some (.int x15), none] (jle_same (jle_same (jle_same (jle_same (jle_none (jle_nil _)))))) ?_
  exact hX6 _ _ _ _ _ h
def bX5_readTerm_6 (G : Nat → List Value → JS → (Option Value → JS → Prop) → Prop)  (X6 : Nat → Int32 → Int32 → Int32 → JS → Prop) (l0 : Nat) (l1 : Int32) (l2 : Int32) (l3 : Int32) (S : JS) (Q : Int32 → JS → Prop) : Prop :=
  (400 ≤ l3 → jbit l2 ∧ Q l2 S) ∧ (¬ (400 ≤ l3) → (l2 = 0 → jbit l2 ∧ Q l2 S) ∧ (¬ l2 = 0 → jA S l0 5 ∧ (((jI S l0 12) = 9 → wX5_readTerm_19 G X6 l0 l1 l3 S Q) ∧ (¬ (jI S l0 12) = 9 → (¬ (jI S l0 12) = 10 → jbit l2 ∧ Q l2 S) ∧ ((jI S l0 12) = 10 → wX5_readTerm_19 G X6 l0 l1 l3 S Q)))))
set_option maxRecDepth 20000 in
theorem uX5_readTerm_6 {Q : Int32 → JS → Prop} {G : Nat → List Value → JS → (Option Value → JS → Prop) → Prop}  (d : Nat) (hd : 1 ≤ d) (hG : ∀ k args S Q, G k args S Q → jCall jmt jbud d k args S Q) {X6 : Nat → Int32 → Int32 → Int32 → JS → Prop} (hX6 : ∀ l0 l1 l2 l3 S, X6 l0 l1 l2 l3 S → jLf (jCall jmt jbud d) jbud (fun j => (jmt j).rk) none mX5_readTerm (jqI Q) (6, [some (.ref l0), some (.int l1), some (.int l2), some (.int l3), none], [], S, 0, 0)) {l0 : Nat} {l1 : Int32} {l2 : Int32} {l3 : Int32} {S : JS} (h : bX5_readTerm_6 G X6 l0 l1 l2 l3 S Q) : jLf (jCall jmt jbud d) jbud (fun j => (jmt j).rk) none mX5_readTerm (jqI Q) (6, [some (.ref l0), some (.int l1), some (.int l2), some (.int l3), none], [], S, 0, 0) := by
  have hc := jCall_mono jmt jbud d
  unfold bX5_readTerm_6 at h
  refine jLf.bk hc 2 [] [some (.ref l0), some (.int l1), some (.int l2), some (.int l3), none] [.int 400, .int l3] S rfl rfl rfl trivial ?_
  refine jLf.two hc _ rfl (gs := []) (p1 := 400 ≤ l3) (p2 := ¬ (400 ≤ l3)) (c1 := (38, [some (.ref l0), some (.int l1), some (.int l2), some (.int l3), none], [], S, 0, 0)) (c2 := (9, [some (.ref l0), some (.int l1), some (.int l2), some (.int l3), none], [], S, 0, 0)) rfl trivial (fun hz => ?_) (fun hz => ?_)
  · have h := h.1 hz
    refine jLf.bk hc 1 [] [some (.ref l0), some (.int l1), some (.int l2), some (.int l3), none] [.int l2] S rfl rfl rfl trivial ?_
    exact jLf.ret hc _ rfl (gs := [jbit l2]) (v := some (.int l2)) rfl h.1 ⟨_, rfl, h.2⟩
  · have h := h.2 hz
    refine jLf.bk hc 1 [] [some (.ref l0), some (.int l1), some (.int l2), some (.int l3), none] [.int l2] S rfl rfl rfl trivial ?_
    refine jLf.two hc _ rfl (gs := []) (p1 := l2 = 0) (p2 := ¬ (l2 = 0)) (c1 := (38, [some (.ref l0), some (.int l1), some (.int l2), some (.int l3), none], [], S, 0, 0)) (c2 := (11, [some (.ref l0), some (.int l1), some (.int l2), some (.int l3), none], [], S, 0, 0)) rfl trivial (fun hz => ?_) (fun hz => ?_)
    · have h := h.1 hz
      refine jLf.bk hc 1 [] [some (.ref l0), some (.int l1), some (.int l2), some (.int l3), none] [.int l2] S rfl rfl rfl trivial ?_
      exact jLf.ret hc _ rfl (gs := [jbit l2]) (v := some (.int l2)) rfl h.1 ⟨_, rfl, h.2⟩
    · have h := h.2 hz
      obtain ⟨g4, h⟩ := h
      refine jLf.bk hc 3 [jA S l0 5] [some (.ref l0), some (.int l1), some (.int l2), some (.int l3), none] [.int 9, .int (jI S l0 12)] S rfl rfl rfl g4 ?_
      refine jLf.two hc _ rfl (gs := []) (p1 := (jI S l0 12) = 9) (p2 := ¬ ((jI S l0 12) = 9)) (c1 := (19, [some (.ref l0), some (.int l1), some (.int l2), some (.int l3), none], [], S, 0, 0)) (c2 := (15, [some (.ref l0), some (.int l1), some (.int l2), some (.int l3), none], [], S, 0, 0)) rfl trivial (fun hz => ?_) (fun hz => ?_)
      · have h := h.1 hz
        refine jLf.sub [some (.ref l0), some (.int l1), none, some (.int l3), none] (jle_same (jle_same (jle_none (jle_same (jle_same (jle_nil _)))))) ?_
        exact tX5_readTerm_19 d hd hG hX6 h
      · have h := h.2 hz
        refine jLf.bk hc 3 [jA S l0 5] [some (.ref l0), some (.int l1), some (.int l2), some (.int l3), none] [.int 10, .int (jI S l0 12)] S rfl rfl rfl g4 ?_
        refine jLf.two hc _ rfl (gs := []) (p1 := ¬ (jI S l0 12) = 10) (p2 := ¬ (¬ (jI S l0 12) = 10)) (c1 := (38, [some (.ref l0), some (.int l1), some (.int l2), some (.int l3), none], [], S, 0, 0)) (c2 := (19, [some (.ref l0), some (.int l1), some (.int l2), some (.int l3), none], [], S, 0, 0)) rfl trivial (fun hz => ?_) (fun hz => ?_)
        · have h := h.1 hz
          refine jLf.bk hc 1 [] [some (.ref l0), some (.int l1), some (.int l2), some (.int l3), none] [.int l2] S rfl rfl rfl trivial ?_
          exact jLf.ret hc _ rfl (gs := [jbit l2]) (v := some (.int l2)) rfl h.1 ⟨_, rfl, h.2⟩
        · have h := h.2 (Classical.not_not.mp hz)
          refine jLf.sub [some (.ref l0), some (.int l1), none, some (.int l3), none] (jle_same (jle_same (jle_none (jle_same (jle_same (jle_nil _)))))) ?_
          exact tX5_readTerm_19 d hd hG hX6 h
def wX5_readTerm_6 (G : Nat → List Value → JS → (Option Value → JS → Prop) → Prop)  (l0 : Nat) (l1 : Int32) (l2 : Int32) (l3 : Int32) (S : JS) (Q : Int32 → JS → Prop) : Prop :=
  jLoop (fun (X6 : Nat × Int32 × Int32 × Int32 × JS → Prop) q => bX5_readTerm_6 G (fun l0 l1 l2 l3 S => X6 (l0, l1, l2, l3, S)) q.1 q.2.1 q.2.2.1 q.2.2.2.1 q.2.2.2.2 Q) (l0, l1, l2, l3, S)
set_option maxRecDepth 20000 in
theorem tX5_readTerm_6 {Q : Int32 → JS → Prop} {G : Nat → List Value → JS → (Option Value → JS → Prop) → Prop}  (d : Nat) (hd : 1 ≤ d) (hG : ∀ k args S Q, G k args S Q → jCall jmt jbud d k args S Q) {l0 : Nat} {l1 : Int32} {l2 : Int32} {l3 : Int32} {S : JS} (h : wX5_readTerm_6 G l0 l1 l2 l3 S Q) : jLf (jCall jmt jbud d) jbud (fun j => (jmt j).rk) none mX5_readTerm (jqI Q) (6, [some (.ref l0), some (.int l1), some (.int l2), some (.int l3), none], [], S, 0, 0) := by
  have := h (fun q : Nat × Int32 × Int32 × Int32 × JS => jLf (jCall jmt jbud d) jbud (fun j => (jmt j).rk) none mX5_readTerm (jqI Q) (6, [some (.ref (q.1)), some (.int (q.2.1)), some (.int (q.2.2.1)), some (.int (q.2.2.2.1)), none], [], q.2.2.2.2, 0, 0)) (fun q R hb hR => uX5_readTerm_6 d hd hG  (fun _ _ _ _ _ => hR _) hb)
  exact this
def wX5_readTerm (G : Nat → List Value → JS → (Option Value → JS → Prop) → Prop) (this : Nat) (p1 : Int32) (S : JS) (Q : Int32 → JS → Prop) : Prop :=
  jA S this 5 ∧ (G 43 [.ref this, .int p1] S (jqI (fun r2 S1 => wX5_readTerm_6 G this p1 r2 0 S1 Q)))
set_option maxRecDepth 20000 in
theorem vX5_readTerm {Q : Int32 → JS → Prop} {G : Nat → List Value → JS → (Option Value → JS → Prop) → Prop} (d : Nat) (hd : 2 ≤ d) (hG : ∀ k args S Q, G k args S Q → jCall jmt jbud (d - 1) k args S Q) {this : Nat} {p1 : Int32} {S : JS} (h : wX5_readTerm G this p1 S Q) : jCall jmt jbud d 42 [.ref this, .int p1] S (jqI Q) := by
  obtain ⟨d, rfl⟩ : ∃ d2, d = d2 + 1 := ⟨d - 1, by omega⟩
  have hd : 1 ≤ d := by omega
  have hc := jCall_mono jmt jbud d
  have hG : ∀ k args S Q, G k args S Q → jCall jmt jbud d k args S Q := hG
  unfold wX5_readTerm at h
  refine ⟨Nat.le_of_ble_eq_true rfl, ?_⟩
  show jLf (jCall jmt jbud d) jbud (fun j => (jmt j).rk) none mX5_readTerm (jqI Q) (0, [some (.ref this), some (.int p1), none, none, none], [], S, 0, 0)
  refine jLf.bk hc 2 [] [some (.ref this), some (.int p1), none, none, none] [.int p1, .ref this] S rfl rfl rfl trivial ?_
  obtain ⟨g3, h⟩ := h
  refine jLf.inv hc _ rfl (gs := [jA S this 5, (([] : List Value).map fun v => v.category).sum ≤ 8, 0 ≤ 0, 0 ≤ 0]) (k := 43) (args := [.ref this, .int p1]) (r := []) (a := 0) (b := 0) rfl ⟨g3, Nat.le_of_ble_eq_true rfl, Nat.zero_le _, Nat.zero_le _⟩ (hG _ _ _ _ h) ?_
  rintro v S1 ⟨r2, rfl, h⟩
  show jLf (jCall jmt jbud d) jbud (fun j => (jmt j).rk) none mX5_readTerm (jqI Q) (3, [some (.ref this), some (.int p1), none, none, none], [.int r2], S1, 0, 0)
  refine jLf.bk hc 3 [] [some (.ref this), some (.int p1), some (.int r2), some (.int 0), none] [] S1 rfl rfl rfl trivial ?_
  exact tX5_readTerm_6 d hd hG  h
def wX5_readSum_19 (G : Nat → List Value → JS → (Option Value → JS → Prop) → Prop) (X6 : Nat → Int32 → Int32 → Int32 → JS → Prop) (l0 : Nat) (l1 : Int32) (l3 : Int32) (S : JS) (Q : Int32 → JS → Prop) : Prop :=
  jA S l0 5 ∧ (∀ x6 : Int32, x6 = (jI S l0 12) → (wX5_goTo l0 ((jI S l0 11) + (1 : Int32)) S (fun S7 => jA S7 l0 5 ∧ (G 42 [.ref l0, .int l1] S7 (jqI (fun r10 S9 => jA S9 l0 5 ∧ (wX5_emit l0 x6 S9 (fun r13 S12 => ∀ x15 : Int32, x15 = (l3 + 1) → (X6 l0 l1 r10 x15 S12)))))))))
set_option maxRecDepth 20000 in
theorem tX5_readSum_19 {Q : Int32 → JS → Prop} {G : Nat → List Value → JS → (Option Value → JS → Prop) → Prop} {X6 : Nat → Int32 → Int32 → Int32 → JS → Prop} (d : Nat) (hd : 1 ≤ d) (hG : ∀ k args S Q, G k args S Q → jCall jmt jbud d k args S Q) (hX6 : ∀ l0 l1 l2 l3 S, X6 l0 l1 l2 l3 S → jLf (jCall jmt jbud d) jbud (fun j => (jmt j).rk) none mX5_readSum (jqI Q) (6, [some (.ref l0), some (.int l1), some (.int l2), some (.int l3), none], [], S, 0, 0)) {l0 : Nat} {l1 : Int32} {l3 : Int32} {S : JS} (h : wX5_readSum_19 G X6 l0 l1 l3 S Q) : jLf (jCall jmt jbud d) jbud (fun j => (jmt j).rk) none mX5_readSum (jqI Q) (19, [some (.ref l0), some (.int l1), none, some (.int l3), none], [], S, 0, 0) := by
  have hc := jCall_mono jmt jbud d
  unfold wX5_readSum_19 at h
  obtain ⟨g5, h⟩ := h
  refine jLf.bk hc 3 [jA S l0 5] [some (.ref l0), some (.int l1), none, some (.int l3), some (.int (jI S l0 12))] [] S rfl rfl rfl g5 ?_
  generalize ex6 : (jI S l0 12 : Int32) = x6
  have h := h x6 ex6.symm
  refine jLf.bk hc 5 [jA S l0 5] [some (.ref l0), some (.int l1), none, some (.int l3), some (.int x6)] [.int ((jI S l0 11) + (1 : Int32)), .ref l0] S rfl rfl rfl g5 ?_
  refine jLf.inv hc _ rfl (gs := [jA S l0 5, (([] : List Value).map fun v => v.category).sum ≤ 8, 0 ≤ 0, 0 ≤ 0]) (k := 45) (args := [.ref l0, .int ((jI S l0 11) + (1 : Int32))]) (r := []) (a := 0) (b := 0) rfl ⟨g5, Nat.le_of_ble_eq_true rfl, Nat.zero_le _, Nat.zero_le _⟩ (vX5_goTo d (by omega) h) ?_
  rintro v S7 ⟨rfl, h⟩
  show jLf (jCall jmt jbud d) jbud (fun j => (jmt j).rk) none mX5_readSum (jqI Q) (28, [some (.ref l0), some (.int l1), none, some (.int l3), some (.int x6)], [], S7, 0, 0)
  refine jLf.bk hc 2 [] [some (.ref l0), some (.int l1), none, some (.int l3), some (.int x6)] [.int l1, .ref l0] S7 rfl rfl rfl trivial ?_
  obtain ⟨g11, h⟩ := h
  refine jLf.inv hc _ rfl (gs := [jA S7 l0 5, (([] : List Value).map fun v => v.category).sum ≤ 8, 0 ≤ 0, 0 ≤ 0]) (k := 42) (args := [.ref l0, .int l1]) (r := []) (a := 0) (b := 0) rfl ⟨g11, Nat.le_of_ble_eq_true rfl, Nat.zero_le _, Nat.zero_le _⟩ (hG _ _ _ _ h) ?_
  rintro v S9 ⟨r10, rfl, h⟩
  show jLf (jCall jmt jbud d) jbud (fun j => (jmt j).rk) none mX5_readSum (jqI Q) (31, [some (.ref l0), some (.int l1), none, some (.int l3), some (.int x6)], [.int r10], S9, 0, 0)
  refine jLf.bk hc 3 [] [some (.ref l0), some (.int l1), some (.int r10), some (.int l3), some (.int x6)] [.int x6, .ref l0] S9 rfl rfl rfl trivial ?_
  obtain ⟨g14, h⟩ := h
  refine jLf.inv hc _ rfl (gs := [jA S9 l0 5, (([] : List Value).map fun v => v.category).sum ≤ 8, 0 ≤ 0, 0 ≤ 0]) (k := 46) (args := [.ref l0, .int x6]) (r := []) (a := 0) (b := 0) rfl ⟨g14, Nat.le_of_ble_eq_true rfl, Nat.zero_le _, Nat.zero_le _⟩ (vX5_emit d (by omega) h) ?_
  rintro v S12 ⟨r13, rfl, h⟩
  show jLf (jCall jmt jbud d) jbud (fun j => (jmt j).rk) none mX5_readSum (jqI Q) (35, [some (.ref l0), some (.int l1), some (.int r10), some (.int l3), some (.int x6)], [.int r13], S12, 0, 0)
  refine jLf.bk hc 2 [(.int r13 : Value).category = 1] [some (.ref l0), some (.int l1), some (.int r10), some (.int (l3 + 1)), some (.int x6)] [] S12 rfl rfl rfl rfl ?_
  generalize ex15 : (l3 + 1 : Int32) = x15
  have h := h x15 ex15.symm
  refine jLf.one hc _ rfl (gs := []) (c := (6, [some (.ref l0), some (.int l1), some (.int r10), some (.int x15), some (.int x6)], [], S12, 0, 0)) rfl trivial ?_
  refine jLf.sub [some (.ref l0), some (.int l1), some (.int r10), some (.int x15), none] (jle_same (jle_same (jle_same (jle_same (jle_none (jle_nil _)))))) ?_
  exact hX6 _ _ _ _ _ h
def bX5_readSum_6 (G : Nat → List Value → JS → (Option Value → JS → Prop) → Prop)  (X6 : Nat → Int32 → Int32 → Int32 → JS → Prop) (l0 : Nat) (l1 : Int32) (l2 : Int32) (l3 : Int32) (S : JS) (Q : Int32 → JS → Prop) : Prop :=
  (400 ≤ l3 → jbit l2 ∧ Q l2 S) ∧ (¬ (400 ≤ l3) → (l2 = 0 → jbit l2 ∧ Q l2 S) ∧ (¬ l2 = 0 → jA S l0 5 ∧ (((jI S l0 12) = 7 → wX5_readSum_19 G X6 l0 l1 l3 S Q) ∧ (¬ (jI S l0 12) = 7 → (¬ (jI S l0 12) = 8 → jbit l2 ∧ Q l2 S) ∧ ((jI S l0 12) = 8 → wX5_readSum_19 G X6 l0 l1 l3 S Q)))))
set_option maxRecDepth 20000 in
theorem uX5_readSum_6 {Q : Int32 → JS → Prop} {G : Nat → List Value → JS → (Option Value → JS → Prop) → Prop}  (d : Nat) (hd : 1 ≤ d) (hG : ∀ k args S Q, G k args S Q → jCall jmt jbud d k args S Q) {X6 : Nat → Int32 → Int32 → Int32 → JS → Prop} (hX6 : ∀ l0 l1 l2 l3 S, X6 l0 l1 l2 l3 S → jLf (jCall jmt jbud d) jbud (fun j => (jmt j).rk) none mX5_readSum (jqI Q) (6, [some (.ref l0), some (.int l1), some (.int l2), some (.int l3), none], [], S, 0, 0)) {l0 : Nat} {l1 : Int32} {l2 : Int32} {l3 : Int32} {S : JS} (h : bX5_readSum_6 G X6 l0 l1 l2 l3 S Q) : jLf (jCall jmt jbud d) jbud (fun j => (jmt j).rk) none mX5_readSum (jqI Q) (6, [some (.ref l0), some (.int l1), some (.int l2), some (.int l3), none], [], S, 0, 0) := by
  have hc := jCall_mono jmt jbud d
  unfold bX5_readSum_6 at h
  refine jLf.bk hc 2 [] [some (.ref l0), some (.int l1), some (.int l2), some (.int l3), none] [.int 400, .int l3] S rfl rfl rfl trivial ?_
  refine jLf.two hc _ rfl (gs := []) (p1 := 400 ≤ l3) (p2 := ¬ (400 ≤ l3)) (c1 := (38, [some (.ref l0), some (.int l1), some (.int l2), some (.int l3), none], [], S, 0, 0)) (c2 := (9, [some (.ref l0), some (.int l1), some (.int l2), some (.int l3), none], [], S, 0, 0)) rfl trivial (fun hz => ?_) (fun hz => ?_)
  · have h := h.1 hz
    refine jLf.bk hc 1 [] [some (.ref l0), some (.int l1), some (.int l2), some (.int l3), none] [.int l2] S rfl rfl rfl trivial ?_
    exact jLf.ret hc _ rfl (gs := [jbit l2]) (v := some (.int l2)) rfl h.1 ⟨_, rfl, h.2⟩
  · have h := h.2 hz
    refine jLf.bk hc 1 [] [some (.ref l0), some (.int l1), some (.int l2), some (.int l3), none] [.int l2] S rfl rfl rfl trivial ?_
    refine jLf.two hc _ rfl (gs := []) (p1 := l2 = 0) (p2 := ¬ (l2 = 0)) (c1 := (38, [some (.ref l0), some (.int l1), some (.int l2), some (.int l3), none], [], S, 0, 0)) (c2 := (11, [some (.ref l0), some (.int l1), some (.int l2), some (.int l3), none], [], S, 0, 0)) rfl trivial (fun hz => ?_) (fun hz => ?_)
    · have h := h.1 hz
      refine jLf.bk hc 1 [] [some (.ref l0), some (.int l1), some (.int l2), some (.int l3), none] [.int l2] S rfl rfl rfl trivial ?_
      exact jLf.ret hc _ rfl (gs := [jbit l2]) (v := some (.int l2)) rfl h.1 ⟨_, rfl, h.2⟩
    · have h := h.2 hz
      obtain ⟨g4, h⟩ := h
      refine jLf.bk hc 3 [jA S l0 5] [some (.ref l0), some (.int l1), some (.int l2), some (.int l3), none] [.int 7, .int (jI S l0 12)] S rfl rfl rfl g4 ?_
      refine jLf.two hc _ rfl (gs := []) (p1 := (jI S l0 12) = 7) (p2 := ¬ ((jI S l0 12) = 7)) (c1 := (19, [some (.ref l0), some (.int l1), some (.int l2), some (.int l3), none], [], S, 0, 0)) (c2 := (15, [some (.ref l0), some (.int l1), some (.int l2), some (.int l3), none], [], S, 0, 0)) rfl trivial (fun hz => ?_) (fun hz => ?_)
      · have h := h.1 hz
        refine jLf.sub [some (.ref l0), some (.int l1), none, some (.int l3), none] (jle_same (jle_same (jle_none (jle_same (jle_same (jle_nil _)))))) ?_
        exact tX5_readSum_19 d hd hG hX6 h
      · have h := h.2 hz
        refine jLf.bk hc 3 [jA S l0 5] [some (.ref l0), some (.int l1), some (.int l2), some (.int l3), none] [.int 8, .int (jI S l0 12)] S rfl rfl rfl g4 ?_
        refine jLf.two hc _ rfl (gs := []) (p1 := ¬ (jI S l0 12) = 8) (p2 := ¬ (¬ (jI S l0 12) = 8)) (c1 := (38, [some (.ref l0), some (.int l1), some (.int l2), some (.int l3), none], [], S, 0, 0)) (c2 := (19, [some (.ref l0), some (.int l1), some (.int l2), some (.int l3), none], [], S, 0, 0)) rfl trivial (fun hz => ?_) (fun hz => ?_)
        · have h := h.1 hz
          refine jLf.bk hc 1 [] [some (.ref l0), some (.int l1), some (.int l2), some (.int l3), none] [.int l2] S rfl rfl rfl trivial ?_
          exact jLf.ret hc _ rfl (gs := [jbit l2]) (v := some (.int l2)) rfl h.1 ⟨_, rfl, h.2⟩
        · have h := h.2 (Classical.not_not.mp hz)
          refine jLf.sub [some (.ref l0), some (.int l1), none, some (.int l3), none] (jle_same (jle_same (jle_none (jle_same (jle_same (jle_nil _)))))) ?_
          exact tX5_readSum_19 d hd hG hX6 h
def wX5_readSum_6 (G : Nat → List Value → JS → (Option Value → JS → Prop) → Prop)  (l0 : Nat) (l1 : Int32) (l2 : Int32) (l3 : Int32) (S : JS) (Q : Int32 → JS → Prop) : Prop :=
  jLoop (fun (X6 : Nat × Int32 × Int32 × Int32 × JS → Prop) q => bX5_readSum_6 G (fun l0 l1 l2 l3 S => X6 (l0, l1, l2, l3, S)) q.1 q.2.1 q.2.2.1 q.2.2.2.1 q.2.2.2.2 Q) (l0, l1, l2, l3, S)
set_option maxRecDepth 20000 in
theorem tX5_readSum_6 {Q : Int32 → JS → Prop} {G : Nat → List Value → JS → (Option Value → JS → Prop) → Prop}  (d : Nat) (hd : 1 ≤ d) (hG : ∀ k args S Q, G k args S Q → jCall jmt jbud d k args S Q) {l0 : Nat} {l1 : Int32} {l2 : Int32} {l3 : Int32} {S : JS} (h : wX5_readSum_6 G l0 l1 l2 l3 S Q) : jLf (jCall jmt jbud d) jbud (fun j => (jmt j).rk) none mX5_readSum (jqI Q) (6, [some (.ref l0), some (.int l1), some (.int l2), some (.int l3), none], [], S, 0, 0) := by
  have := h (fun q : Nat × Int32 × Int32 × Int32 × JS => jLf (jCall jmt jbud d) jbud (fun j => (jmt j).rk) none mX5_readSum (jqI Q) (6, [some (.ref (q.1)), some (.int (q.2.1)), some (.int (q.2.2.1)), some (.int (q.2.2.2.1)), none], [], q.2.2.2.2, 0, 0)) (fun q R hb hR => uX5_readSum_6 d hd hG  (fun _ _ _ _ _ => hR _) hb)
  exact this
def wX5_readSum (G : Nat → List Value → JS → (Option Value → JS → Prop) → Prop) (this : Nat) (p1 : Int32) (S : JS) (Q : Int32 → JS → Prop) : Prop :=
  jA S this 5 ∧ (G 42 [.ref this, .int p1] S (jqI (fun r2 S1 => wX5_readSum_6 G this p1 r2 0 S1 Q)))
set_option maxRecDepth 20000 in
theorem vX5_readSum {Q : Int32 → JS → Prop} {G : Nat → List Value → JS → (Option Value → JS → Prop) → Prop} (d : Nat) (hd : 2 ≤ d) (hG : ∀ k args S Q, G k args S Q → jCall jmt jbud (d - 1) k args S Q) {this : Nat} {p1 : Int32} {S : JS} (h : wX5_readSum G this p1 S Q) : jCall jmt jbud d 41 [.ref this, .int p1] S (jqI Q) := by
  obtain ⟨d, rfl⟩ : ∃ d2, d = d2 + 1 := ⟨d - 1, by omega⟩
  have hd : 1 ≤ d := by omega
  have hc := jCall_mono jmt jbud d
  have hG : ∀ k args S Q, G k args S Q → jCall jmt jbud d k args S Q := hG
  unfold wX5_readSum at h
  refine ⟨Nat.le_of_ble_eq_true rfl, ?_⟩
  show jLf (jCall jmt jbud d) jbud (fun j => (jmt j).rk) none mX5_readSum (jqI Q) (0, [some (.ref this), some (.int p1), none, none, none], [], S, 0, 0)
  refine jLf.bk hc 2 [] [some (.ref this), some (.int p1), none, none, none] [.int p1, .ref this] S rfl rfl rfl trivial ?_
  obtain ⟨g3, h⟩ := h
  refine jLf.inv hc _ rfl (gs := [jA S this 5, (([] : List Value).map fun v => v.category).sum ≤ 8, 0 ≤ 0, 0 ≤ 0]) (k := 42) (args := [.ref this, .int p1]) (r := []) (a := 0) (b := 0) rfl ⟨g3, Nat.le_of_ble_eq_true rfl, Nat.zero_le _, Nat.zero_le _⟩ (hG _ _ _ _ h) ?_
  rintro v S1 ⟨r2, rfl, h⟩
  show jLf (jCall jmt jbud d) jbud (fun j => (jmt j).rk) none mX5_readSum (jqI Q) (3, [some (.ref this), some (.int p1), none, none, none], [.int r2], S1, 0, 0)
  refine jLf.bk hc 3 [] [some (.ref this), some (.int p1), some (.int r2), some (.int 0), none] [] S1 rfl rfl rfl trivial ?_
  exact tX5_readSum_6 d hd hG  h
def wX5_readComparison (G : Nat → List Value → JS → (Option Value → JS → Prop) → Prop) (this : Nat) (p1 : Int32) (S : JS) (Q : Int32 → JS → Prop) : Prop :=
  jA S this 5 ∧ (G 41 [.ref this, .int p1] S (jqI (fun r2 S1 => (¬ r2 = 0 → jA S1 this 5 ∧ (∀ x5 : Int32, x5 = (jI S1 this 12) → ((x5 < 11 → Q 0 S1) ∧ (¬ (x5 < 11) → (x5 ≤ 13 → wX5_goTo this ((jI S1 this 11) + (1 : Int32)) S1 (fun S6 => jA S6 this 5 ∧ (G 41 [.ref this, .int p1] S6 (jqI (fun r9 S8 => jA S8 this 5 ∧ (wX5_emit this x5 S8 (fun r12 S11 => jbit r9 ∧ Q r9 S11))))))) ∧ (¬ (x5 ≤ 13) → Q 0 S1))))) ∧ (r2 = 0 → Q 0 S1))))
set_option maxRecDepth 20000 in
theorem vX5_readComparison {Q : Int32 → JS → Prop} {G : Nat → List Value → JS → (Option Value → JS → Prop) → Prop} (d : Nat) (hd : 2 ≤ d) (hG : ∀ k args S Q, G k args S Q → jCall jmt jbud (d - 1) k args S Q) {this : Nat} {p1 : Int32} {S : JS} (h : wX5_readComparison G this p1 S Q) : jCall jmt jbud d 40 [.ref this, .int p1] S (jqI Q) := by
  obtain ⟨d, rfl⟩ : ∃ d2, d = d2 + 1 := ⟨d - 1, by omega⟩
  have hd : 1 ≤ d := by omega
  have hc := jCall_mono jmt jbud d
  have hG : ∀ k args S Q, G k args S Q → jCall jmt jbud d k args S Q := hG
  unfold wX5_readComparison at h
  refine ⟨Nat.le_of_ble_eq_true rfl, ?_⟩
  show jLf (jCall jmt jbud d) jbud (fun j => (jmt j).rk) none mX5_readComparison (jqI Q) (0, [some (.ref this), some (.int p1), none, none], [], S, 0, 0)
  refine jLf.bk hc 2 [] [some (.ref this), some (.int p1), none, none] [.int p1, .ref this] S rfl rfl rfl trivial ?_
  obtain ⟨g3, h⟩ := h
  refine jLf.inv hc _ rfl (gs := [jA S this 5, (([] : List Value).map fun v => v.category).sum ≤ 8, 0 ≤ 0, 0 ≤ 0]) (k := 41) (args := [.ref this, .int p1]) (r := []) (a := 0) (b := 0) rfl ⟨g3, Nat.le_of_ble_eq_true rfl, Nat.zero_le _, Nat.zero_le _⟩ (hG _ _ _ _ h) ?_
  rintro v S1 ⟨r2, rfl, h⟩
  show jLf (jCall jmt jbud d) jbud (fun j => (jmt j).rk) none mX5_readComparison (jqI Q) (3, [some (.ref this), some (.int p1), none, none], [.int r2], S1, 0, 0)
  refine jLf.two hc _ rfl (gs := []) (p1 := ¬ r2 = 0) (p2 := ¬ (¬ r2 = 0)) (c1 := (6, [some (.ref this), some (.int p1), none, none], [], S1, 0, 0)) (c2 := (4, [some (.ref this), some (.int p1), none, none], [], S1, 0, 0)) rfl trivial (fun hz => ?_) (fun hz => ?_)
  · have h := h.1 hz
    obtain ⟨g4, h⟩ := h
    refine jLf.bk hc 3 [jA S1 this 5] [some (.ref this), some (.int p1), some (.int (jI S1 this 12)), none] [] S1 rfl rfl rfl g4 ?_
    generalize ex5 : (jI S1 this 12 : Int32) = x5
    have h := h x5 ex5.symm
    refine jLf.bk hc 2 [] [some (.ref this), some (.int p1), some (.int x5), none] [.int 11, .int x5] S1 rfl rfl rfl trivial ?_
    refine jLf.two hc _ rfl (gs := []) (p1 := x5 < 11) (p2 := ¬ (x5 < 11)) (c1 := (15, [some (.ref this), some (.int p1), some (.int x5), none], [], S1, 0, 0)) (c2 := (12, [some (.ref this), some (.int p1), some (.int x5), none], [], S1, 0, 0)) rfl trivial (fun hz => ?_) (fun hz => ?_)
    · have h := h.1 hz
      refine jLf.bk hc 1 [] [some (.ref this), some (.int p1), some (.int x5), none] [.int 0] S1 rfl rfl rfl trivial ?_
      exact jLf.ret hc _ rfl (gs := [jbit 0]) (v := some (.int 0)) rfl (Or.inl rfl) ⟨_, rfl, h⟩
    · have h := h.2 hz
      refine jLf.bk hc 2 [] [some (.ref this), some (.int p1), some (.int x5), none] [.int 13, .int x5] S1 rfl rfl rfl trivial ?_
      refine jLf.two hc _ rfl (gs := []) (p1 := x5 ≤ 13) (p2 := ¬ (x5 ≤ 13)) (c1 := (17, [some (.ref this), some (.int p1), some (.int x5), none], [], S1, 0, 0)) (c2 := (15, [some (.ref this), some (.int p1), some (.int x5), none], [], S1, 0, 0)) rfl trivial (fun hz => ?_) (fun hz => ?_)
      · have h := h.1 hz
        refine jLf.bk hc 5 [jA S1 this 5] [some (.ref this), some (.int p1), some (.int x5), none] [.int ((jI S1 this 11) + (1 : Int32)), .ref this] S1 rfl rfl rfl g4 ?_
        refine jLf.inv hc _ rfl (gs := [jA S1 this 5, (([] : List Value).map fun v => v.category).sum ≤ 8, 0 ≤ 0, 0 ≤ 0]) (k := 45) (args := [.ref this, .int ((jI S1 this 11) + (1 : Int32))]) (r := []) (a := 0) (b := 0) rfl ⟨g4, Nat.le_of_ble_eq_true rfl, Nat.zero_le _, Nat.zero_le _⟩ (vX5_goTo d (by omega) h) ?_
        rintro v S6 ⟨rfl, h⟩
        show jLf (jCall jmt jbud d) jbud (fun j => (jmt j).rk) none mX5_readComparison (jqI Q) (23, [some (.ref this), some (.int p1), some (.int x5), none], [], S6, 0, 0)
        refine jLf.bk hc 2 [] [some (.ref this), some (.int p1), some (.int x5), none] [.int p1, .ref this] S6 rfl rfl rfl trivial ?_
        obtain ⟨g10, h⟩ := h
        refine jLf.inv hc _ rfl (gs := [jA S6 this 5, (([] : List Value).map fun v => v.category).sum ≤ 8, 0 ≤ 0, 0 ≤ 0]) (k := 41) (args := [.ref this, .int p1]) (r := []) (a := 0) (b := 0) rfl ⟨g10, Nat.le_of_ble_eq_true rfl, Nat.zero_le _, Nat.zero_le _⟩ (hG _ _ _ _ h) ?_
        rintro v S8 ⟨r9, rfl, h⟩
        show jLf (jCall jmt jbud d) jbud (fun j => (jmt j).rk) none mX5_readComparison (jqI Q) (26, [some (.ref this), some (.int p1), some (.int x5), none], [.int r9], S8, 0, 0)
        refine jLf.bk hc 3 [] [some (.ref this), some (.int p1), some (.int x5), some (.int r9)] [.int x5, .ref this] S8 rfl rfl rfl trivial ?_
        obtain ⟨g13, h⟩ := h
        refine jLf.inv hc _ rfl (gs := [jA S8 this 5, (([] : List Value).map fun v => v.category).sum ≤ 8, 0 ≤ 0, 0 ≤ 0]) (k := 46) (args := [.ref this, .int x5]) (r := []) (a := 0) (b := 0) rfl ⟨g13, Nat.le_of_ble_eq_true rfl, Nat.zero_le _, Nat.zero_le _⟩ (vX5_emit d (by omega) h) ?_
        rintro v S11 ⟨r12, rfl, h⟩
        show jLf (jCall jmt jbud d) jbud (fun j => (jmt j).rk) none mX5_readComparison (jqI Q) (30, [some (.ref this), some (.int p1), some (.int x5), some (.int r9)], [.int r12], S11, 0, 0)
        refine jLf.bk hc 2 [(.int r12 : Value).category = 1] [some (.ref this), some (.int p1), some (.int x5), some (.int r9)] [.int r9] S11 rfl rfl rfl rfl ?_
        exact jLf.ret hc _ rfl (gs := [jbit r9]) (v := some (.int r9)) rfl h.1 ⟨_, rfl, h.2⟩
      · have h := h.2 hz
        refine jLf.bk hc 1 [] [some (.ref this), some (.int p1), some (.int x5), none] [.int 0] S1 rfl rfl rfl trivial ?_
        exact jLf.ret hc _ rfl (gs := [jbit 0]) (v := some (.int 0)) rfl (Or.inl rfl) ⟨_, rfl, h⟩
  · have h := h.2 (Classical.not_not.mp hz)
    refine jLf.bk hc 1 [] [some (.ref this), some (.int p1), none, none] [.int 0] S1 rfl rfl rfl trivial ?_
    exact jLf.ret hc _ rfl (gs := [jbit 0]) (v := some (.int 0)) rfl (Or.inl rfl) ⟨_, rfl, h⟩
def wX5_readPlain_30 (G : Nat → List Value → JS → (Option Value → JS → Prop) → Prop)  (l0 : Nat) (l2 : Int32) (s0 : Int32) (S : JS) (Q : Int32 → JS → Prop) : Prop :=
  (s0 = 0 → jbit s0 ∧ Q s0 S) ∧ (¬ s0 = 0 → (l2 = 0 → jbit s0 ∧ Q s0 S) ∧ (¬ l2 = 0 → jA S l0 5 ∧ (wX5_emit l0 14 S (fun r5 S4 => jbit s0 ∧ Q s0 S4))))
set_option maxRecDepth 20000 in
theorem tX5_readPlain_30 {Q : Int32 → JS → Prop} {G : Nat → List Value → JS → (Option Value → JS → Prop) → Prop}  (d : Nat) (hd : 2 ≤ d) (hG : ∀ k args S Q, G k args S Q → jCall jmt jbud d k args S Q) {l0 : Nat} {l2 : Int32} {s0 : Int32} {S : JS} (h : wX5_readPlain_30 G l0 l2 s0 S Q) : jLf (jCall jmt jbud d) jbud (fun j => (jmt j).rk) none mX5_readPlain (jqI Q) (30, [some (.ref l0), none, some (.int l2), none], [.int s0], S, 0, 0) := by
  have hc := jCall_mono jmt jbud d
  unfold wX5_readPlain_30 at h
  refine jLf.bk hc 2 [] [some (.ref l0), none, some (.int l2), some (.int s0)] [.int s0] S rfl rfl rfl trivial ?_
  refine jLf.two hc _ rfl (gs := []) (p1 := s0 = 0) (p2 := ¬ (s0 = 0)) (c1 := (39, [some (.ref l0), none, some (.int l2), some (.int s0)], [], S, 0, 0)) (c2 := (33, [some (.ref l0), none, some (.int l2), some (.int s0)], [], S, 0, 0)) rfl trivial (fun hz => ?_) (fun hz => ?_)
  · have h := h.1 hz
    refine jLf.bk hc 1 [] [some (.ref l0), none, some (.int l2), some (.int s0)] [.int s0] S rfl rfl rfl trivial ?_
    exact jLf.ret hc _ rfl (gs := [jbit s0]) (v := some (.int s0)) rfl h.1 ⟨_, rfl, h.2⟩
  · have h := h.2 hz
    refine jLf.bk hc 1 [] [some (.ref l0), none, some (.int l2), some (.int s0)] [.int l2] S rfl rfl rfl trivial ?_
    refine jLf.two hc _ rfl (gs := []) (p1 := l2 = 0) (p2 := ¬ (l2 = 0)) (c1 := (39, [some (.ref l0), none, some (.int l2), some (.int s0)], [], S, 0, 0)) (c2 := (35, [some (.ref l0), none, some (.int l2), some (.int s0)], [], S, 0, 0)) rfl trivial (fun hz => ?_) (fun hz => ?_)
    · have h := h.1 hz
      refine jLf.bk hc 1 [] [some (.ref l0), none, some (.int l2), some (.int s0)] [.int s0] S rfl rfl rfl trivial ?_
      exact jLf.ret hc _ rfl (gs := [jbit s0]) (v := some (.int s0)) rfl h.1 ⟨_, rfl, h.2⟩
    · have h := h.2 hz
      refine jLf.bk hc 2 [] [some (.ref l0), none, some (.int l2), some (.int s0)] [.int 14, .ref l0] S rfl rfl rfl trivial ?_
      obtain ⟨g6, h⟩ := h
      refine jLf.inv hc _ rfl (gs := [jA S l0 5, (([] : List Value).map fun v => v.category).sum ≤ 8, 0 ≤ 0, 0 ≤ 0]) (k := 46) (args := [.ref l0, .int 14]) (r := []) (a := 0) (b := 0) rfl ⟨g6, Nat.le_of_ble_eq_true rfl, Nat.zero_le _, Nat.zero_le _⟩ (vX5_emit d (by omega) h) ?_
      rintro v S4 ⟨r5, rfl, h⟩
      show jLf (jCall jmt jbud d) jbud (fun j => (jmt j).rk) none mX5_readPlain (jqI Q) (38, [some (.ref l0), none, some (.int l2), some (.int s0)], [.int r5], S4, 0, 0)
      refine jLf.bk hc 2 [(.int r5 : Value).category = 1] [some (.ref l0), none, some (.int l2), some (.int s0)] [.int s0] S4 rfl rfl rfl rfl ?_
      exact jLf.ret hc _ rfl (gs := [jbit s0]) (v := some (.int s0)) rfl h.1 ⟨_, rfl, h.2⟩
def wX5_readPlain_19 (G : Nat → List Value → JS → (Option Value → JS → Prop) → Prop)  (l0 : Nat) (l1 : Int32) (l2 : Int32) (S : JS) (Q : Int32 → JS → Prop) : Prop :=
  jA S l0 5 ∧ ((¬ (jI S l0 12) = 22 → G 40 [.ref l0, .int l1] S (jqI (fun r3 S2 => wX5_readPlain_30 G l0 l2 r3 S2 Q))) ∧ ((jI S l0 12) = 22 → G 39 [.ref l0, .int l1] S (jqI (fun r8 S7 => wX5_readPlain_30 G l0 l2 r8 S7 Q))))
set_option maxRecDepth 20000 in
theorem tX5_readPlain_19 {Q : Int32 → JS → Prop} {G : Nat → List Value → JS → (Option Value → JS → Prop) → Prop}  (d : Nat) (hd : 2 ≤ d) (hG : ∀ k args S Q, G k args S Q → jCall jmt jbud d k args S Q) {l0 : Nat} {l1 : Int32} {l2 : Int32} {S : JS} (h : wX5_readPlain_19 G l0 l1 l2 S Q) : jLf (jCall jmt jbud d) jbud (fun j => (jmt j).rk) none mX5_readPlain (jqI Q) (19, [some (.ref l0), some (.int l1), some (.int l2), none], [], S, 0, 0) := by
  have hc := jCall_mono jmt jbud d
  unfold wX5_readPlain_19 at h
  obtain ⟨g1, h⟩ := h
  refine jLf.bk hc 3 [jA S l0 5] [some (.ref l0), some (.int l1), some (.int l2), none] [.int 22, .int (jI S l0 12)] S rfl rfl rfl g1 ?_
  refine jLf.two hc _ rfl (gs := []) (p1 := ¬ (jI S l0 12) = 22) (p2 := ¬ (¬ (jI S l0 12) = 22)) (c1 := (27, [some (.ref l0), some (.int l1), some (.int l2), none], [], S, 0, 0)) (c2 := (23, [some (.ref l0), some (.int l1), some (.int l2), none], [], S, 0, 0)) rfl trivial (fun hz => ?_) (fun hz => ?_)
  · have h := h.1 hz
    refine jLf.bk hc 2 [] [some (.ref l0), some (.int l1), some (.int l2), none] [.int l1, .ref l0] S rfl rfl rfl trivial ?_
    refine jLf.inv hc _ rfl (gs := [jA S l0 5, (([] : List Value).map fun v => v.category).sum ≤ 8, 0 ≤ 0, 0 ≤ 0]) (k := 40) (args := [.ref l0, .int l1]) (r := []) (a := 0) (b := 0) rfl ⟨g1, Nat.le_of_ble_eq_true rfl, Nat.zero_le _, Nat.zero_le _⟩ (hG _ _ _ _ h) ?_
    rintro v S2 ⟨r3, rfl, h⟩
    show jLf (jCall jmt jbud d) jbud (fun j => (jmt j).rk) none mX5_readPlain (jqI Q) (30, [some (.ref l0), some (.int l1), some (.int l2), none], [.int r3], S2, 0, 0)
    refine jLf.sub [some (.ref l0), none, some (.int l2), none] (jle_same (jle_none (jle_same (jle_same (jle_nil _))))) ?_
    exact tX5_readPlain_30 d hd hG  h
  · have h := h.2 (Classical.not_not.mp hz)
    refine jLf.bk hc 2 [] [some (.ref l0), some (.int l1), some (.int l2), none] [.int l1, .ref l0] S rfl rfl rfl trivial ?_
    refine jLf.inv hc _ rfl (gs := [jA S l0 5, (([] : List Value).map fun v => v.category).sum ≤ 8, 0 ≤ 0, 0 ≤ 0]) (k := 39) (args := [.ref l0, .int l1]) (r := []) (a := 0) (b := 0) rfl ⟨g1, Nat.le_of_ble_eq_true rfl, Nat.zero_le _, Nat.zero_le _⟩ (hG _ _ _ _ h) ?_
    rintro v S7 ⟨r8, rfl, h⟩
    show jLf (jCall jmt jbud d) jbud (fun j => (jmt j).rk) none mX5_readPlain (jqI Q) (26, [some (.ref l0), some (.int l1), some (.int l2), none], [.int r8], S7, 0, 0)
    refine jLf.one hc _ rfl (gs := []) (c := (30, [some (.ref l0), some (.int l1), some (.int l2), none], [.int r8], S7, 0, 0)) rfl trivial ?_
    refine jLf.sub [some (.ref l0), none, some (.int l2), none] (jle_same (jle_none (jle_same (jle_same (jle_nil _))))) ?_
    exact tX5_readPlain_30 d hd hG  h
def wX5_readPlain_16 (G : Nat → List Value → JS → (Option Value → JS → Prop) → Prop) (X4 : Nat → Int32 → Int32 → Int32 → JS → Prop) (l0 : Nat) (l1 : Int32) (l3 : Int32) (s0 : Int32) (S : JS) (Q : Int32 → JS → Prop) : Prop :=
  ∀ x12 : Int32, x12 = (l3 + 1) → (X4 l0 l1 s0 x12 S)
set_option maxRecDepth 20000 in
theorem tX5_readPlain_16 {Q : Int32 → JS → Prop} {G : Nat → List Value → JS → (Option Value → JS → Prop) → Prop} {X4 : Nat → Int32 → Int32 → Int32 → JS → Prop} (d : Nat) (hd : 2 ≤ d) (hG : ∀ k args S Q, G k args S Q → jCall jmt jbud d k args S Q) (hX4 : ∀ l0 l1 l2 l3 S, X4 l0 l1 l2 l3 S → jLf (jCall jmt jbud d) jbud (fun j => (jmt j).rk) none mX5_readPlain (jqI Q) (4, [some (.ref l0), some (.int l1), some (.int l2), some (.int l3)], [], S, 0, 0)) {l0 : Nat} {l1 : Int32} {l3 : Int32} {s0 : Int32} {S : JS} (h : wX5_readPlain_16 G X4 l0 l1 l3 s0 S Q) : jLf (jCall jmt jbud d) jbud (fun j => (jmt j).rk) none mX5_readPlain (jqI Q) (16, [some (.ref l0), some (.int l1), none, some (.int l3)], [.int s0], S, 0, 0) := by
  have hc := jCall_mono jmt jbud d
  unfold wX5_readPlain_16 at h
  refine jLf.bk hc 2 [] [some (.ref l0), some (.int l1), some (.int s0), some (.int (l3 + 1))] [] S rfl rfl rfl trivial ?_
  generalize ex12 : (l3 + 1 : Int32) = x12
  have h := h x12 ex12.symm
  refine jLf.one hc _ rfl (gs := []) (c := (4, [some (.ref l0), some (.int l1), some (.int s0), some (.int x12)], [], S, 0, 0)) rfl trivial ?_
  exact hX4 _ _ _ _ _ h
def bX5_readPlain_4 (G : Nat → List Value → JS → (Option Value → JS → Prop) → Prop)  (X4 : Nat → Int32 → Int32 → Int32 → JS → Prop) (l0 : Nat) (l1 : Int32) (l2 : Int32) (l3 : Int32) (S : JS) (Q : Int32 → JS → Prop) : Prop :=
  (400 ≤ l3 → wX5_readPlain_19 G l0 l1 l2 S Q) ∧ (¬ (400 ≤ l3) → jA S l0 5 ∧ (wX5_pass l0 14 S (fun r10 S9 => (r10 = 0 → wX5_readPlain_19 G l0 l1 l2 S9 Q) ∧ (¬ r10 = 0 → (¬ l2 = 0 → wX5_readPlain_16 G X4 l0 l1 l3 0 S9 Q) ∧ (l2 = 0 → wX5_readPlain_16 G X4 l0 l1 l3 1 S9 Q)))))
set_option maxRecDepth 20000 in
theorem uX5_readPlain_4 {Q : Int32 → JS → Prop} {G : Nat → List Value → JS → (Option Value → JS → Prop) → Prop}  (d : Nat) (hd : 2 ≤ d) (hG : ∀ k args S Q, G k args S Q → jCall jmt jbud d k args S Q) {X4 : Nat → Int32 → Int32 → Int32 → JS → Prop} (hX4 : ∀ l0 l1 l2 l3 S, X4 l0 l1 l2 l3 S → jLf (jCall jmt jbud d) jbud (fun j => (jmt j).rk) none mX5_readPlain (jqI Q) (4, [some (.ref l0), some (.int l1), some (.int l2), some (.int l3)], [], S, 0, 0)) {l0 : Nat} {l1 : Int32} {l2 : Int32} {l3 : Int32} {S : JS} (h : bX5_readPlain_4 G X4 l0 l1 l2 l3 S Q) : jLf (jCall jmt jbud d) jbud (fun j => (jmt j).rk) none mX5_readPlain (jqI Q) (4, [some (.ref l0), some (.int l1), some (.int l2), some (.int l3)], [], S, 0, 0) := by
  have hc := jCall_mono jmt jbud d
  unfold bX5_readPlain_4 at h
  refine jLf.bk hc 2 [] [some (.ref l0), some (.int l1), some (.int l2), some (.int l3)] [.int 400, .int l3] S rfl rfl rfl trivial ?_
  refine jLf.two hc _ rfl (gs := []) (p1 := 400 ≤ l3) (p2 := ¬ (400 ≤ l3)) (c1 := (19, [some (.ref l0), some (.int l1), some (.int l2), some (.int l3)], [], S, 0, 0)) (c2 := (7, [some (.ref l0), some (.int l1), some (.int l2), some (.int l3)], [], S, 0, 0)) rfl trivial (fun hz => ?_) (fun hz => ?_)
  · have h := h.1 hz
    refine jLf.sub [some (.ref l0), some (.int l1), some (.int l2), none] (jle_same (jle_same (jle_same (jle_none (jle_nil _))))) ?_
    exact tX5_readPlain_19 d hd hG  h
  · have h := h.2 hz
    refine jLf.bk hc 2 [] [some (.ref l0), some (.int l1), some (.int l2), some (.int l3)] [.int 14, .ref l0] S rfl rfl rfl trivial ?_
    obtain ⟨g11, h⟩ := h
    refine jLf.inv hc _ rfl (gs := [jA S l0 5, (([] : List Value).map fun v => v.category).sum ≤ 8, 0 ≤ 0, 0 ≤ 0]) (k := 44) (args := [.ref l0, .int 14]) (r := []) (a := 0) (b := 0) rfl ⟨g11, Nat.le_of_ble_eq_true rfl, Nat.zero_le _, Nat.zero_le _⟩ (vX5_pass d (by omega) h) ?_
    rintro v S9 ⟨r10, rfl, h⟩
    show jLf (jCall jmt jbud d) jbud (fun j => (jmt j).rk) none mX5_readPlain (jqI Q) (10, [some (.ref l0), some (.int l1), some (.int l2), some (.int l3)], [.int r10], S9, 0, 0)
    refine jLf.two hc _ rfl (gs := []) (p1 := r10 = 0) (p2 := ¬ (r10 = 0)) (c1 := (19, [some (.ref l0), some (.int l1), some (.int l2), some (.int l3)], [], S9, 0, 0)) (c2 := (11, [some (.ref l0), some (.int l1), some (.int l2), some (.int l3)], [], S9, 0, 0)) rfl trivial (fun hz => ?_) (fun hz => ?_)
    · have h := h.1 hz
      refine jLf.sub [some (.ref l0), some (.int l1), some (.int l2), none] (jle_same (jle_same (jle_same (jle_none (jle_nil _))))) ?_
      exact tX5_readPlain_19 d hd hG  h
    · have h := h.2 hz
      refine jLf.bk hc 1 [] [some (.ref l0), some (.int l1), some (.int l2), some (.int l3)] [.int l2] S9 rfl rfl rfl trivial ?_
      refine jLf.two hc _ rfl (gs := []) (p1 := ¬ l2 = 0) (p2 := ¬ (¬ l2 = 0)) (c1 := (15, [some (.ref l0), some (.int l1), some (.int l2), some (.int l3)], [], S9, 0, 0)) (c2 := (13, [some (.ref l0), some (.int l1), some (.int l2), some (.int l3)], [], S9, 0, 0)) rfl trivial (fun hz => ?_) (fun hz => ?_)
      · have h := h.1 hz
        refine jLf.bk hc 1 [] [some (.ref l0), some (.int l1), some (.int l2), some (.int l3)] [.int 0] S9 rfl rfl rfl trivial ?_
        refine jLf.sub [some (.ref l0), some (.int l1), none, some (.int l3)] (jle_same (jle_same (jle_none (jle_same (jle_nil _))))) ?_
        exact tX5_readPlain_16 d hd hG hX4 h
      · have h := h.2 (Classical.not_not.mp hz)
        refine jLf.bk hc 1 [] [some (.ref l0), some (.int l1), some (.int l2), some (.int l3)] [.int 1] S9 rfl rfl rfl trivial ?_
        refine jLf.one hc _ rfl (gs := []) (c := (16, [some (.ref l0), some (.int l1), some (.int l2), some (.int l3)], [.int 1], S9, 0, 0)) rfl trivial ?_
        refine jLf.sub [some (.ref l0), some (.int l1), none, some (.int l3)] (jle_same (jle_same (jle_none (jle_same (jle_nil _))))) ?_
        exact tX5_readPlain_16 d hd hG hX4 h
def wX5_readPlain_4 (G : Nat → List Value → JS → (Option Value → JS → Prop) → Prop)  (l0 : Nat) (l1 : Int32) (l2 : Int32) (l3 : Int32) (S : JS) (Q : Int32 → JS → Prop) : Prop :=
  jLoop (fun (X4 : Nat × Int32 × Int32 × Int32 × JS → Prop) q => bX5_readPlain_4 G (fun l0 l1 l2 l3 S => X4 (l0, l1, l2, l3, S)) q.1 q.2.1 q.2.2.1 q.2.2.2.1 q.2.2.2.2 Q) (l0, l1, l2, l3, S)
set_option maxRecDepth 20000 in
theorem tX5_readPlain_4 {Q : Int32 → JS → Prop} {G : Nat → List Value → JS → (Option Value → JS → Prop) → Prop}  (d : Nat) (hd : 2 ≤ d) (hG : ∀ k args S Q, G k args S Q → jCall jmt jbud d k args S Q) {l0 : Nat} {l1 : Int32} {l2 : Int32} {l3 : Int32} {S : JS} (h : wX5_readPlain_4 G l0 l1 l2 l3 S Q) : jLf (jCall jmt jbud d) jbud (fun j => (jmt j).rk) none mX5_readPlain (jqI Q) (4, [some (.ref l0), some (.int l1), some (.int l2), some (.int l3)], [], S, 0, 0) := by
  have := h (fun q : Nat × Int32 × Int32 × Int32 × JS => jLf (jCall jmt jbud d) jbud (fun j => (jmt j).rk) none mX5_readPlain (jqI Q) (4, [some (.ref (q.1)), some (.int (q.2.1)), some (.int (q.2.2.1)), some (.int (q.2.2.2.1))], [], q.2.2.2.2, 0, 0)) (fun q R hb hR => uX5_readPlain_4 d hd hG  (fun _ _ _ _ _ => hR _) hb)
  exact this
def wX5_readPlain (G : Nat → List Value → JS → (Option Value → JS → Prop) → Prop) (this : Nat) (p1 : Int32) (S : JS) (Q : Int32 → JS → Prop) : Prop :=
  wX5_readPlain_4 G this p1 0 0 S Q
set_option maxRecDepth 20000 in
theorem vX5_readPlain {Q : Int32 → JS → Prop} {G : Nat → List Value → JS → (Option Value → JS → Prop) → Prop} (d : Nat) (hd : 3 ≤ d) (hG : ∀ k args S Q, G k args S Q → jCall jmt jbud (d - 1) k args S Q) {this : Nat} {p1 : Int32} {S : JS} (h : wX5_readPlain G this p1 S Q) : jCall jmt jbud d 38 [.ref this, .int p1] S (jqI Q) := by
  obtain ⟨d, rfl⟩ : ∃ d2, d = d2 + 1 := ⟨d - 1, by omega⟩
  have hd : 2 ≤ d := by omega
  have hc := jCall_mono jmt jbud d
  have hG : ∀ k args S Q, G k args S Q → jCall jmt jbud d k args S Q := hG
  unfold wX5_readPlain at h
  refine ⟨Nat.le_of_ble_eq_true rfl, ?_⟩
  show jLf (jCall jmt jbud d) jbud (fun j => (jmt j).rk) none mX5_readPlain (jqI Q) (0, [some (.ref this), some (.int p1), none, none], [], S, 0, 0)
  refine jLf.bk hc 4 [] [some (.ref this), some (.int p1), some (.int 0), some (.int 0)] [] S rfl rfl rfl trivial ?_
  exact tX5_readPlain_4 d hd hG  h
def wX5_landHere  (this : Nat) (p1 : Int32) (S : JS) (Q : JS → Prop) : Prop :=
  (p1 < 0 → Q S) ∧ (¬ (p1 < 0) → jA S this 5 ∧ (((jI S this 8) ≤ p1 → Q S) ∧ (¬ ((jI S this 8) ≤ p1) → ¬ jR S this 6 = none ∧ (jA S (jr S this 6) 13 ∧ (vp_in p1 (jZ S (jr S this 6)) ∧ (∀ S5 : JS, S5 = uI S (jr S this 6) p1.toNatClampNeg ((jI S (jr S this 6) p1.toNatClampNeg) ||| ((jI S this 8) <<< ((5 : Int32) &&& 31))) → (Q S5)))))))
set_option maxRecDepth 20000 in
theorem vX5_landHere {Q : JS → Prop} (d : Nat) (hd : 1 ≤ d) {this : Nat} {p1 : Int32} {S : JS} (h : wX5_landHere this p1 S Q) : jCall jmt jbud d 47 [.ref this, .int p1] S (jqV Q) := by
  obtain ⟨d, rfl⟩ : ∃ d2, d = d2 + 1 := ⟨d - 1, by omega⟩
  have hd : 0 ≤ d := by omega
  have hc := jCall_mono jmt jbud d
  unfold wX5_landHere at h
  refine ⟨Nat.le_of_ble_eq_true rfl, ?_⟩
  show jLf (jCall jmt jbud d) jbud (fun j => (jmt j).rk) none mX5_landHere (jqV Q) (0, [some (.ref this), some (.int p1)], [], S, 0, 0)
  refine jLf.bk hc 1 [] [some (.ref this), some (.int p1)] [.int p1] S rfl rfl rfl trivial ?_
  refine jLf.two hc _ rfl (gs := []) (p1 := p1 < 0) (p2 := ¬ (p1 < 0)) (c1 := (17, [some (.ref this), some (.int p1)], [], S, 0, 0)) (c2 := (2, [some (.ref this), some (.int p1)], [], S, 0, 0)) rfl trivial (fun hz => ?_) (fun hz => ?_)
  · have h := h.1 hz
    exact jLf.ret hc _ rfl (gs := [jrt none none]) (v := none) rfl trivial ⟨rfl, h⟩
  · have h := h.2 hz
    obtain ⟨g1, h⟩ := h
    refine jLf.bk hc 3 [jA S this 5] [some (.ref this), some (.int p1)] [.int (jI S this 8), .int p1] S rfl rfl rfl g1 ?_
    refine jLf.two hc _ rfl (gs := []) (p1 := (jI S this 8) ≤ p1) (p2 := ¬ ((jI S this 8) ≤ p1)) (c1 := (17, [some (.ref this), some (.int p1)], [], S, 0, 0)) (c2 := (6, [some (.ref this), some (.int p1)], [], S, 0, 0)) rfl trivial (fun hz => ?_) (fun hz => ?_)
    · have h := h.1 hz
      exact jLf.ret hc _ rfl (gs := [jrt none none]) (v := none) rfl trivial ⟨rfl, h⟩
    · have h := h.2 hz
      obtain ⟨g2, g3, g4, h⟩ := h
      refine jLf.bk hc 11 [jA S this 5, ¬ jR S this 6 = none, jA S (jr S this 6) 13, vp_in p1 (jZ S (jr S this 6)), jA S this 5, jA S (jr S this 6) 13, vp_in p1 (jZ S (jr S this 6))] [some (.ref this), some (.int p1)] [] (uI S (jr S this 6) p1.toNatClampNeg ((jI S (jr S this 6) p1.toNatClampNeg) ||| ((jI S this 8) <<< ((5 : Int32) &&& 31)))) rfl rfl rfl ⟨g1, g2, g3, g4, g1, g3, g4⟩ ?_
      generalize eS5 : uI S (jr S this 6) p1.toNatClampNeg ((jI S (jr S this 6) p1.toNatClampNeg) ||| ((jI S this 8) <<< ((5 : Int32) &&& 31))) = S5
      have h := h S5 eS5.symm
      exact jLf.ret hc _ rfl (gs := [jrt none none]) (v := none) rfl trivial ⟨rfl, h⟩
def bX5_readBoth_6 (G : Nat → List Value → JS → (Option Value → JS → Prop) → Prop)  (X6 : Nat → Int32 → Int32 → Int32 → JS → Prop) (l0 : Nat) (l1 : Int32) (l2 : Int32) (l3 : Int32) (S : JS) (Q : Int32 → JS → Prop) : Prop :=
  (400 ≤ l3 → jbit l2 ∧ Q l2 S) ∧ (¬ (400 ≤ l3) → (l2 = 0 → jbit l2 ∧ Q l2 S) ∧ (¬ l2 = 0 → jA S l0 5 ∧ (wX5_pass l0 16 S (fun r5 S4 => (r5 = 0 → jbit l2 ∧ Q l2 S4) ∧ (¬ r5 = 0 → jA S4 l0 5 ∧ (wX5_emit l0 16 S4 (fun r8 S7 => jA S7 l0 5 ∧ (G 38 [.ref l0, .int l1] S7 (jqI (fun r11 S10 => jA S10 l0 5 ∧ (wX5_landHere l0 r8 S10 (fun S13 => ∀ x16 : Int32, x16 = (l3 + 1) → (X6 l0 l1 r11 x16 S13)))))))))))))
set_option maxRecDepth 20000 in
theorem uX5_readBoth_6 {Q : Int32 → JS → Prop} {G : Nat → List Value → JS → (Option Value → JS → Prop) → Prop}  (d : Nat) (hd : 2 ≤ d) (hG : ∀ k args S Q, G k args S Q → jCall jmt jbud d k args S Q) {X6 : Nat → Int32 → Int32 → Int32 → JS → Prop} (hX6 : ∀ l0 l1 l2 l3 S, X6 l0 l1 l2 l3 S → jLf (jCall jmt jbud d) jbud (fun j => (jmt j).rk) none mX5_readBoth (jqI Q) (6, [some (.ref l0), some (.int l1), some (.int l2), some (.int l3), none], [], S, 0, 0)) {l0 : Nat} {l1 : Int32} {l2 : Int32} {l3 : Int32} {S : JS} (h : bX5_readBoth_6 G X6 l0 l1 l2 l3 S Q) : jLf (jCall jmt jbud d) jbud (fun j => (jmt j).rk) none mX5_readBoth (jqI Q) (6, [some (.ref l0), some (.int l1), some (.int l2), some (.int l3), none], [], S, 0, 0) := by
  have hc := jCall_mono jmt jbud d
  unfold bX5_readBoth_6 at h
  refine jLf.bk hc 2 [] [some (.ref l0), some (.int l1), some (.int l2), some (.int l3), none] [.int 400, .int l3] S rfl rfl rfl trivial ?_
  refine jLf.two hc _ rfl (gs := []) (p1 := 400 ≤ l3) (p2 := ¬ (400 ≤ l3)) (c1 := (28, [some (.ref l0), some (.int l1), some (.int l2), some (.int l3), none], [], S, 0, 0)) (c2 := (9, [some (.ref l0), some (.int l1), some (.int l2), some (.int l3), none], [], S, 0, 0)) rfl trivial (fun hz => ?_) (fun hz => ?_)
  · have h := h.1 hz
    refine jLf.bk hc 1 [] [some (.ref l0), some (.int l1), some (.int l2), some (.int l3), none] [.int l2] S rfl rfl rfl trivial ?_
    exact jLf.ret hc _ rfl (gs := [jbit l2]) (v := some (.int l2)) rfl h.1 ⟨_, rfl, h.2⟩
  · have h := h.2 hz
    refine jLf.bk hc 1 [] [some (.ref l0), some (.int l1), some (.int l2), some (.int l3), none] [.int l2] S rfl rfl rfl trivial ?_
    refine jLf.two hc _ rfl (gs := []) (p1 := l2 = 0) (p2 := ¬ (l2 = 0)) (c1 := (28, [some (.ref l0), some (.int l1), some (.int l2), some (.int l3), none], [], S, 0, 0)) (c2 := (11, [some (.ref l0), some (.int l1), some (.int l2), some (.int l3), none], [], S, 0, 0)) rfl trivial (fun hz => ?_) (fun hz => ?_)
    · have h := h.1 hz
      refine jLf.bk hc 1 [] [some (.ref l0), some (.int l1), some (.int l2), some (.int l3), none] [.int l2] S rfl rfl rfl trivial ?_
      exact jLf.ret hc _ rfl (gs := [jbit l2]) (v := some (.int l2)) rfl h.1 ⟨_, rfl, h.2⟩
    · have h := h.2 hz
      refine jLf.bk hc 2 [] [some (.ref l0), some (.int l1), some (.int l2), some (.int l3), none] [.int 16, .ref l0] S rfl rfl rfl trivial ?_
      obtain ⟨g6, h⟩ := h
      refine jLf.inv hc _ rfl (gs := [jA S l0 5, (([] : List Value).map fun v => v.category).sum ≤ 8, 0 ≤ 0, 0 ≤ 0]) (k := 44) (args := [.ref l0, .int 16]) (r := []) (a := 0) (b := 0) rfl ⟨g6, Nat.le_of_ble_eq_true rfl, Nat.zero_le _, Nat.zero_le _⟩ (vX5_pass d (by omega) h) ?_
      rintro v S4 ⟨r5, rfl, h⟩
      show jLf (jCall jmt jbud d) jbud (fun j => (jmt j).rk) none mX5_readBoth (jqI Q) (14, [some (.ref l0), some (.int l1), some (.int l2), some (.int l3), none], [.int r5], S4, 0, 0)
      refine jLf.two hc _ rfl (gs := []) (p1 := r5 = 0) (p2 := ¬ (r5 = 0)) (c1 := (28, [some (.ref l0), some (.int l1), some (.int l2), some (.int l3), none], [], S4, 0, 0)) (c2 := (15, [some (.ref l0), some (.int l1), some (.int l2), some (.int l3), none], [], S4, 0, 0)) rfl trivial (fun hz => ?_) (fun hz => ?_)
      · have h := h.1 hz
        refine jLf.bk hc 1 [] [some (.ref l0), some (.int l1), some (.int l2), some (.int l3), none] [.int l2] S4 rfl rfl rfl trivial ?_
        exact jLf.ret hc _ rfl (gs := [jbit l2]) (v := some (.int l2)) rfl h.1 ⟨_, rfl, h.2⟩
      · have h := h.2 hz
        refine jLf.bk hc 2 [] [some (.ref l0), some (.int l1), some (.int l2), some (.int l3), none] [.int 16, .ref l0] S4 rfl rfl rfl trivial ?_
        obtain ⟨g9, h⟩ := h
        refine jLf.inv hc _ rfl (gs := [jA S4 l0 5, (([] : List Value).map fun v => v.category).sum ≤ 8, 0 ≤ 0, 0 ≤ 0]) (k := 46) (args := [.ref l0, .int 16]) (r := []) (a := 0) (b := 0) rfl ⟨g9, Nat.le_of_ble_eq_true rfl, Nat.zero_le _, Nat.zero_le _⟩ (vX5_emit d (by omega) h) ?_
        rintro v S7 ⟨r8, rfl, h⟩
        show jLf (jCall jmt jbud d) jbud (fun j => (jmt j).rk) none mX5_readBoth (jqI Q) (18, [some (.ref l0), some (.int l1), some (.int l2), some (.int l3), none], [.int r8], S7, 0, 0)
        refine jLf.bk hc 3 [] [some (.ref l0), some (.int l1), some (.int l2), some (.int l3), some (.int r8)] [.int l1, .ref l0] S7 rfl rfl rfl trivial ?_
        obtain ⟨g12, h⟩ := h
        refine jLf.inv hc _ rfl (gs := [jA S7 l0 5, (([] : List Value).map fun v => v.category).sum ≤ 8, 0 ≤ 0, 0 ≤ 0]) (k := 38) (args := [.ref l0, .int l1]) (r := []) (a := 0) (b := 0) rfl ⟨g12, Nat.le_of_ble_eq_true rfl, Nat.zero_le _, Nat.zero_le _⟩ (hG _ _ _ _ h) ?_
        rintro v S10 ⟨r11, rfl, h⟩
        show jLf (jCall jmt jbud d) jbud (fun j => (jmt j).rk) none mX5_readBoth (jqI Q) (22, [some (.ref l0), some (.int l1), some (.int l2), some (.int l3), some (.int r8)], [.int r11], S10, 0, 0)
        refine jLf.bk hc 3 [] [some (.ref l0), some (.int l1), some (.int r11), some (.int l3), some (.int r8)] [.int r8, .ref l0] S10 rfl rfl rfl trivial ?_
        obtain ⟨g15, h⟩ := h
        refine jLf.inv hc _ rfl (gs := [jA S10 l0 5, (([] : List Value).map fun v => v.category).sum ≤ 8, 0 ≤ 0, 0 ≤ 0]) (k := 47) (args := [.ref l0, .int r8]) (r := []) (a := 0) (b := 0) rfl ⟨g15, Nat.le_of_ble_eq_true rfl, Nat.zero_le _, Nat.zero_le _⟩ (vX5_landHere d (by omega) h) ?_
        rintro v S13 ⟨rfl, h⟩
        show jLf (jCall jmt jbud d) jbud (fun j => (jmt j).rk) none mX5_readBoth (jqI Q) (26, [some (.ref l0), some (.int l1), some (.int r11), some (.int l3), some (.int r8)], [], S13, 0, 0)
        refine jLf.bk hc 1 [] [some (.ref l0), some (.int l1), some (.int r11), some (.int (l3 + 1)), some (.int r8)] [] S13 rfl rfl rfl trivial ?_
        generalize ex16 : (l3 + 1 : Int32) = x16
        have h := h x16 ex16.symm
        refine jLf.one hc _ rfl (gs := []) (c := (6, [some (.ref l0), some (.int l1), some (.int r11), some (.int x16), some (.int r8)], [], S13, 0, 0)) rfl trivial ?_
        refine jLf.sub [some (.ref l0), some (.int l1), some (.int r11), some (.int x16), none] (jle_same (jle_same (jle_same (jle_same (jle_none (jle_nil _)))))) ?_
        exact hX6 _ _ _ _ _ h
def wX5_readBoth_6 (G : Nat → List Value → JS → (Option Value → JS → Prop) → Prop)  (l0 : Nat) (l1 : Int32) (l2 : Int32) (l3 : Int32) (S : JS) (Q : Int32 → JS → Prop) : Prop :=
  jLoop (fun (X6 : Nat × Int32 × Int32 × Int32 × JS → Prop) q => bX5_readBoth_6 G (fun l0 l1 l2 l3 S => X6 (l0, l1, l2, l3, S)) q.1 q.2.1 q.2.2.1 q.2.2.2.1 q.2.2.2.2 Q) (l0, l1, l2, l3, S)
set_option maxRecDepth 20000 in
theorem tX5_readBoth_6 {Q : Int32 → JS → Prop} {G : Nat → List Value → JS → (Option Value → JS → Prop) → Prop}  (d : Nat) (hd : 2 ≤ d) (hG : ∀ k args S Q, G k args S Q → jCall jmt jbud d k args S Q) {l0 : Nat} {l1 : Int32} {l2 : Int32} {l3 : Int32} {S : JS} (h : wX5_readBoth_6 G l0 l1 l2 l3 S Q) : jLf (jCall jmt jbud d) jbud (fun j => (jmt j).rk) none mX5_readBoth (jqI Q) (6, [some (.ref l0), some (.int l1), some (.int l2), some (.int l3), none], [], S, 0, 0) := by
  have := h (fun q : Nat × Int32 × Int32 × Int32 × JS => jLf (jCall jmt jbud d) jbud (fun j => (jmt j).rk) none mX5_readBoth (jqI Q) (6, [some (.ref (q.1)), some (.int (q.2.1)), some (.int (q.2.2.1)), some (.int (q.2.2.2.1)), none], [], q.2.2.2.2, 0, 0)) (fun q R hb hR => uX5_readBoth_6 d hd hG  (fun _ _ _ _ _ => hR _) hb)
  exact this
def wX5_readBoth (G : Nat → List Value → JS → (Option Value → JS → Prop) → Prop) (this : Nat) (p1 : Int32) (S : JS) (Q : Int32 → JS → Prop) : Prop :=
  jA S this 5 ∧ (G 38 [.ref this, .int p1] S (jqI (fun r2 S1 => wX5_readBoth_6 G this p1 r2 0 S1 Q)))
set_option maxRecDepth 20000 in
theorem vX5_readBoth {Q : Int32 → JS → Prop} {G : Nat → List Value → JS → (Option Value → JS → Prop) → Prop} (d : Nat) (hd : 3 ≤ d) (hG : ∀ k args S Q, G k args S Q → jCall jmt jbud (d - 1) k args S Q) {this : Nat} {p1 : Int32} {S : JS} (h : wX5_readBoth G this p1 S Q) : jCall jmt jbud d 37 [.ref this, .int p1] S (jqI Q) := by
  obtain ⟨d, rfl⟩ : ∃ d2, d = d2 + 1 := ⟨d - 1, by omega⟩
  have hd : 2 ≤ d := by omega
  have hc := jCall_mono jmt jbud d
  have hG : ∀ k args S Q, G k args S Q → jCall jmt jbud d k args S Q := hG
  unfold wX5_readBoth at h
  refine ⟨Nat.le_of_ble_eq_true rfl, ?_⟩
  show jLf (jCall jmt jbud d) jbud (fun j => (jmt j).rk) none mX5_readBoth (jqI Q) (0, [some (.ref this), some (.int p1), none, none, none], [], S, 0, 0)
  refine jLf.bk hc 2 [] [some (.ref this), some (.int p1), none, none, none] [.int p1, .ref this] S rfl rfl rfl trivial ?_
  obtain ⟨g3, h⟩ := h
  refine jLf.inv hc _ rfl (gs := [jA S this 5, (([] : List Value).map fun v => v.category).sum ≤ 8, 0 ≤ 0, 0 ≤ 0]) (k := 38) (args := [.ref this, .int p1]) (r := []) (a := 0) (b := 0) rfl ⟨g3, Nat.le_of_ble_eq_true rfl, Nat.zero_le _, Nat.zero_le _⟩ (hG _ _ _ _ h) ?_
  rintro v S1 ⟨r2, rfl, h⟩
  show jLf (jCall jmt jbud d) jbud (fun j => (jmt j).rk) none mX5_readBoth (jqI Q) (3, [some (.ref this), some (.int p1), none, none, none], [.int r2], S1, 0, 0)
  refine jLf.bk hc 3 [] [some (.ref this), some (.int p1), some (.int r2), some (.int 0), none] [] S1 rfl rfl rfl trivial ?_
  exact tX5_readBoth_6 d hd hG  h
def bX5_readTest_6 (G : Nat → List Value → JS → (Option Value → JS → Prop) → Prop)  (X6 : Nat → Int32 → Int32 → Int32 → JS → Prop) (l0 : Nat) (l1 : Int32) (l2 : Int32) (l3 : Int32) (S : JS) (Q : Int32 → JS → Prop) : Prop :=
  (400 ≤ l3 → jbit l2 ∧ Q l2 S) ∧ (¬ (400 ≤ l3) → (l2 = 0 → jbit l2 ∧ Q l2 S) ∧ (¬ l2 = 0 → jA S l0 5 ∧ (wX5_pass l0 15 S (fun r5 S4 => (r5 = 0 → jbit l2 ∧ Q l2 S4) ∧ (¬ r5 = 0 → jA S4 l0 5 ∧ (wX5_emit l0 15 S4 (fun r8 S7 => jA S7 l0 5 ∧ (G 37 [.ref l0, .int l1] S7 (jqI (fun r11 S10 => jA S10 l0 5 ∧ (wX5_landHere l0 r8 S10 (fun S13 => ∀ x16 : Int32, x16 = (l3 + 1) → (X6 l0 l1 r11 x16 S13)))))))))))))
set_option maxRecDepth 20000 in
theorem uX5_readTest_6 {Q : Int32 → JS → Prop} {G : Nat → List Value → JS → (Option Value → JS → Prop) → Prop}  (d : Nat) (hd : 2 ≤ d) (hG : ∀ k args S Q, G k args S Q → jCall jmt jbud d k args S Q) {X6 : Nat → Int32 → Int32 → Int32 → JS → Prop} (hX6 : ∀ l0 l1 l2 l3 S, X6 l0 l1 l2 l3 S → jLf (jCall jmt jbud d) jbud (fun j => (jmt j).rk) none mX5_readTest (jqI Q) (6, [some (.ref l0), some (.int l1), some (.int l2), some (.int l3), none], [], S, 0, 0)) {l0 : Nat} {l1 : Int32} {l2 : Int32} {l3 : Int32} {S : JS} (h : bX5_readTest_6 G X6 l0 l1 l2 l3 S Q) : jLf (jCall jmt jbud d) jbud (fun j => (jmt j).rk) none mX5_readTest (jqI Q) (6, [some (.ref l0), some (.int l1), some (.int l2), some (.int l3), none], [], S, 0, 0) := by
  have hc := jCall_mono jmt jbud d
  unfold bX5_readTest_6 at h
  refine jLf.bk hc 2 [] [some (.ref l0), some (.int l1), some (.int l2), some (.int l3), none] [.int 400, .int l3] S rfl rfl rfl trivial ?_
  refine jLf.two hc _ rfl (gs := []) (p1 := 400 ≤ l3) (p2 := ¬ (400 ≤ l3)) (c1 := (28, [some (.ref l0), some (.int l1), some (.int l2), some (.int l3), none], [], S, 0, 0)) (c2 := (9, [some (.ref l0), some (.int l1), some (.int l2), some (.int l3), none], [], S, 0, 0)) rfl trivial (fun hz => ?_) (fun hz => ?_)
  · have h := h.1 hz
    refine jLf.bk hc 1 [] [some (.ref l0), some (.int l1), some (.int l2), some (.int l3), none] [.int l2] S rfl rfl rfl trivial ?_
    exact jLf.ret hc _ rfl (gs := [jbit l2]) (v := some (.int l2)) rfl h.1 ⟨_, rfl, h.2⟩
  · have h := h.2 hz
    refine jLf.bk hc 1 [] [some (.ref l0), some (.int l1), some (.int l2), some (.int l3), none] [.int l2] S rfl rfl rfl trivial ?_
    refine jLf.two hc _ rfl (gs := []) (p1 := l2 = 0) (p2 := ¬ (l2 = 0)) (c1 := (28, [some (.ref l0), some (.int l1), some (.int l2), some (.int l3), none], [], S, 0, 0)) (c2 := (11, [some (.ref l0), some (.int l1), some (.int l2), some (.int l3), none], [], S, 0, 0)) rfl trivial (fun hz => ?_) (fun hz => ?_)
    · have h := h.1 hz
      refine jLf.bk hc 1 [] [some (.ref l0), some (.int l1), some (.int l2), some (.int l3), none] [.int l2] S rfl rfl rfl trivial ?_
      exact jLf.ret hc _ rfl (gs := [jbit l2]) (v := some (.int l2)) rfl h.1 ⟨_, rfl, h.2⟩
    · have h := h.2 hz
      refine jLf.bk hc 2 [] [some (.ref l0), some (.int l1), some (.int l2), some (.int l3), none] [.int 15, .ref l0] S rfl rfl rfl trivial ?_
      obtain ⟨g6, h⟩ := h
      refine jLf.inv hc _ rfl (gs := [jA S l0 5, (([] : List Value).map fun v => v.category).sum ≤ 8, 0 ≤ 0, 0 ≤ 0]) (k := 44) (args := [.ref l0, .int 15]) (r := []) (a := 0) (b := 0) rfl ⟨g6, Nat.le_of_ble_eq_true rfl, Nat.zero_le _, Nat.zero_le _⟩ (vX5_pass d (by omega) h) ?_
      rintro v S4 ⟨r5, rfl, h⟩
      show jLf (jCall jmt jbud d) jbud (fun j => (jmt j).rk) none mX5_readTest (jqI Q) (14, [some (.ref l0), some (.int l1), some (.int l2), some (.int l3), none], [.int r5], S4, 0, 0)
      refine jLf.two hc _ rfl (gs := []) (p1 := r5 = 0) (p2 := ¬ (r5 = 0)) (c1 := (28, [some (.ref l0), some (.int l1), some (.int l2), some (.int l3), none], [], S4, 0, 0)) (c2 := (15, [some (.ref l0), some (.int l1), some (.int l2), some (.int l3), none], [], S4, 0, 0)) rfl trivial (fun hz => ?_) (fun hz => ?_)
      · have h := h.1 hz
        refine jLf.bk hc 1 [] [some (.ref l0), some (.int l1), some (.int l2), some (.int l3), none] [.int l2] S4 rfl rfl rfl trivial ?_
        exact jLf.ret hc _ rfl (gs := [jbit l2]) (v := some (.int l2)) rfl h.1 ⟨_, rfl, h.2⟩
      · have h := h.2 hz
        refine jLf.bk hc 2 [] [some (.ref l0), some (.int l1), some (.int l2), some (.int l3), none] [.int 15, .ref l0] S4 rfl rfl rfl trivial ?_
        obtain ⟨g9, h⟩ := h
        refine jLf.inv hc _ rfl (gs := [jA S4 l0 5, (([] : List Value).map fun v => v.category).sum ≤ 8, 0 ≤ 0, 0 ≤ 0]) (k := 46) (args := [.ref l0, .int 15]) (r := []) (a := 0) (b := 0) rfl ⟨g9, Nat.le_of_ble_eq_true rfl, Nat.zero_le _, Nat.zero_le _⟩ (vX5_emit d (by omega) h) ?_
        rintro v S7 ⟨r8, rfl, h⟩
        show jLf (jCall jmt jbud d) jbud (fun j => (jmt j).rk) none mX5_readTest (jqI Q) (18, [some (.ref l0), some (.int l1), some (.int l2), some (.int l3), none], [.int r8], S7, 0, 0)
        refine jLf.bk hc 3 [] [some (.ref l0), some (.int l1), some (.int l2), some (.int l3), some (.int r8)] [.int l1, .ref l0] S7 rfl rfl rfl trivial ?_
        obtain ⟨g12, h⟩ := h
        refine jLf.inv hc _ rfl (gs := [jA S7 l0 5, (([] : List Value).map fun v => v.category).sum ≤ 8, 0 ≤ 0, 0 ≤ 0]) (k := 37) (args := [.ref l0, .int l1]) (r := []) (a := 0) (b := 0) rfl ⟨g12, Nat.le_of_ble_eq_true rfl, Nat.zero_le _, Nat.zero_le _⟩ (hG _ _ _ _ h) ?_
        rintro v S10 ⟨r11, rfl, h⟩
        show jLf (jCall jmt jbud d) jbud (fun j => (jmt j).rk) none mX5_readTest (jqI Q) (22, [some (.ref l0), some (.int l1), some (.int l2), some (.int l3), some (.int r8)], [.int r11], S10, 0, 0)
        refine jLf.bk hc 3 [] [some (.ref l0), some (.int l1), some (.int r11), some (.int l3), some (.int r8)] [.int r8, .ref l0] S10 rfl rfl rfl trivial ?_
        obtain ⟨g15, h⟩ := h
        refine jLf.inv hc _ rfl (gs := [jA S10 l0 5, (([] : List Value).map fun v => v.category).sum ≤ 8, 0 ≤ 0, 0 ≤ 0]) (k := 47) (args := [.ref l0, .int r8]) (r := []) (a := 0) (b := 0) rfl ⟨g15, Nat.le_of_ble_eq_true rfl, Nat.zero_le _, Nat.zero_le _⟩ (vX5_landHere d (by omega) h) ?_
        rintro v S13 ⟨rfl, h⟩
        show jLf (jCall jmt jbud d) jbud (fun j => (jmt j).rk) none mX5_readTest (jqI Q) (26, [some (.ref l0), some (.int l1), some (.int r11), some (.int l3), some (.int r8)], [], S13, 0, 0)
        refine jLf.bk hc 1 [] [some (.ref l0), some (.int l1), some (.int r11), some (.int (l3 + 1)), some (.int r8)] [] S13 rfl rfl rfl trivial ?_
        generalize ex16 : (l3 + 1 : Int32) = x16
        have h := h x16 ex16.symm
        refine jLf.one hc _ rfl (gs := []) (c := (6, [some (.ref l0), some (.int l1), some (.int r11), some (.int x16), some (.int r8)], [], S13, 0, 0)) rfl trivial ?_
        refine jLf.sub [some (.ref l0), some (.int l1), some (.int r11), some (.int x16), none] (jle_same (jle_same (jle_same (jle_same (jle_none (jle_nil _)))))) ?_
        exact hX6 _ _ _ _ _ h
def wX5_readTest_6 (G : Nat → List Value → JS → (Option Value → JS → Prop) → Prop)  (l0 : Nat) (l1 : Int32) (l2 : Int32) (l3 : Int32) (S : JS) (Q : Int32 → JS → Prop) : Prop :=
  jLoop (fun (X6 : Nat × Int32 × Int32 × Int32 × JS → Prop) q => bX5_readTest_6 G (fun l0 l1 l2 l3 S => X6 (l0, l1, l2, l3, S)) q.1 q.2.1 q.2.2.1 q.2.2.2.1 q.2.2.2.2 Q) (l0, l1, l2, l3, S)
set_option maxRecDepth 20000 in
theorem tX5_readTest_6 {Q : Int32 → JS → Prop} {G : Nat → List Value → JS → (Option Value → JS → Prop) → Prop}  (d : Nat) (hd : 2 ≤ d) (hG : ∀ k args S Q, G k args S Q → jCall jmt jbud d k args S Q) {l0 : Nat} {l1 : Int32} {l2 : Int32} {l3 : Int32} {S : JS} (h : wX5_readTest_6 G l0 l1 l2 l3 S Q) : jLf (jCall jmt jbud d) jbud (fun j => (jmt j).rk) none mX5_readTest (jqI Q) (6, [some (.ref l0), some (.int l1), some (.int l2), some (.int l3), none], [], S, 0, 0) := by
  have := h (fun q : Nat × Int32 × Int32 × Int32 × JS => jLf (jCall jmt jbud d) jbud (fun j => (jmt j).rk) none mX5_readTest (jqI Q) (6, [some (.ref (q.1)), some (.int (q.2.1)), some (.int (q.2.2.1)), some (.int (q.2.2.2.1)), none], [], q.2.2.2.2, 0, 0)) (fun q R hb hR => uX5_readTest_6 d hd hG  (fun _ _ _ _ _ => hR _) hb)
  exact this
def wX5_readTest (G : Nat → List Value → JS → (Option Value → JS → Prop) → Prop) (this : Nat) (p1 : Int32) (S : JS) (Q : Int32 → JS → Prop) : Prop :=
  jA S this 5 ∧ (G 37 [.ref this, .int p1] S (jqI (fun r2 S1 => wX5_readTest_6 G this p1 r2 0 S1 Q)))
set_option maxRecDepth 20000 in
theorem vX5_readTest {Q : Int32 → JS → Prop} {G : Nat → List Value → JS → (Option Value → JS → Prop) → Prop} (d : Nat) (hd : 3 ≤ d) (hG : ∀ k args S Q, G k args S Q → jCall jmt jbud (d - 1) k args S Q) {this : Nat} {p1 : Int32} {S : JS} (h : wX5_readTest G this p1 S Q) : jCall jmt jbud d 36 [.ref this, .int p1] S (jqI Q) := by
  obtain ⟨d, rfl⟩ : ∃ d2, d = d2 + 1 := ⟨d - 1, by omega⟩
  have hd : 2 ≤ d := by omega
  have hc := jCall_mono jmt jbud d
  have hG : ∀ k args S Q, G k args S Q → jCall jmt jbud d k args S Q := hG
  unfold wX5_readTest at h
  refine ⟨Nat.le_of_ble_eq_true rfl, ?_⟩
  show jLf (jCall jmt jbud d) jbud (fun j => (jmt j).rk) none mX5_readTest (jqI Q) (0, [some (.ref this), some (.int p1), none, none, none], [], S, 0, 0)
  refine jLf.bk hc 2 [] [some (.ref this), some (.int p1), none, none, none] [.int p1, .ref this] S rfl rfl rfl trivial ?_
  obtain ⟨g3, h⟩ := h
  refine jLf.inv hc _ rfl (gs := [jA S this 5, (([] : List Value).map fun v => v.category).sum ≤ 8, 0 ≤ 0, 0 ≤ 0]) (k := 37) (args := [.ref this, .int p1]) (r := []) (a := 0) (b := 0) rfl ⟨g3, Nat.le_of_ble_eq_true rfl, Nat.zero_le _, Nat.zero_le _⟩ (hG _ _ _ _ h) ?_
  rintro v S1 ⟨r2, rfl, h⟩
  show jLf (jCall jmt jbud d) jbud (fun j => (jmt j).rk) none mX5_readTest (jqI Q) (3, [some (.ref this), some (.int p1), none, none, none], [.int r2], S1, 0, 0)
  refine jLf.bk hc 3 [] [some (.ref this), some (.int p1), some (.int r2), some (.int 0), none] [] S1 rfl rfl rfl trivial ?_
  exact tX5_readTest_6 d hd hG  h
def wX5_readClause_60 (G : Nat → List Value → JS → (Option Value → JS → Prop) → Prop)  (l0 : Nat) (S : JS) (Q : Int32 → JS → Prop) : Prop :=
  jA S l0 5 ∧ (¬ jR S l0 5 = none ∧ (jA S (jr S l0 5) 13 ∧ (vp_in (jI S l0 7) (jZ S (jr S l0 5)) ∧ (∀ S27 : JS, S27 = uI S (jr S l0 5) (jI S l0 7).toNatClampNeg (jI S l0 8) → (jA S27 l0 5 ∧ (∀ S29 : JS, S29 = uI S27 l0 7 ((jI S27 l0 7) + (1 : Int32)) → (Q 1 S29)))))))
set_option maxRecDepth 20000 in
theorem tX5_readClause_60 {Q : Int32 → JS → Prop} {G : Nat → List Value → JS → (Option Value → JS → Prop) → Prop}  (d : Nat) (hd : 2 ≤ d) (hG : ∀ k args S Q, G k args S Q → jCall jmt jbud d k args S Q) {l0 : Nat} {S : JS} (h : wX5_readClause_60 G l0 S Q) : jLf (jCall jmt jbud d) jbud (fun j => (jmt j).rk) none mX5_readClause (jqI Q) (60, [some (.ref l0), none], [], S, 0, 0) := by
  have hc := jCall_mono jmt jbud d
  unfold wX5_readClause_60 at h
  obtain ⟨g23, g24, g25, g26, h⟩ := h
  refine jLf.bk hc 7 [jA S l0 5, ¬ jR S l0 5 = none, jA S l0 5, jA S l0 5, jA S (jr S l0 5) 13, vp_in (jI S l0 7) (jZ S (jr S l0 5))] [some (.ref l0), none] [] (uI S (jr S l0 5) (jI S l0 7).toNatClampNeg (jI S l0 8)) rfl rfl rfl ⟨g23, g24, g23, g23, g25, g26⟩ ?_
  generalize eS27 : uI S (jr S l0 5) (jI S l0 7).toNatClampNeg (jI S l0 8) = S27
  have h := h S27 eS27.symm
  obtain ⟨g28, h⟩ := h
  refine jLf.bk hc 6 [(.ref l0 : Value).category = 1, jA S27 l0 5, jA S27 l0 5] [some (.ref l0), none] [] (uI S27 l0 7 ((jI S27 l0 7) + (1 : Int32))) rfl rfl rfl ⟨rfl, g28, g28⟩ ?_
  generalize eS29 : uI S27 l0 7 ((jI S27 l0 7) + (1 : Int32)) = S29
  have h := h S29 eS29.symm
  refine jLf.bk hc 1 [] [some (.ref l0), none] [.int 1] S29 rfl rfl rfl trivial ?_
  exact jLf.ret hc _ rfl (gs := [jbit 1]) (v := some (.int 1)) rfl (Or.inr rfl) ⟨_, rfl, h⟩
def wX5_readClause_43 (G : Nat → List Value → JS → (Option Value → JS → Prop) → Prop)  (l0 : Nat) (S : JS) (Q : Int32 → JS → Prop) : Prop :=
  jA S l0 5 ∧ (¬ jR S l0 4 = none ∧ (jA S (jr S l0 4) 13 ∧ (vp_in (jI S l0 7) (jZ S (jr S l0 4)) ∧ (∀ S19 : JS, S19 = uI S (jr S l0 4) (jI S l0 7).toNatClampNeg (jI S l0 8) → (jA S19 l0 5 ∧ (wX5_pass l0 20 S19 (fun r21 S20 => (r21 = 0 → wX5_readClause_60 G l0 S20 Q) ∧ (¬ r21 = 0 → jA S20 l0 5 ∧ (G 36 [.ref l0, .int 0] S20 (jqI (fun r31 S30 => (¬ r31 = 0 → wX5_readClause_60 G l0 S30 Q) ∧ (r31 = 0 → Q 0 S30))))))))))))
set_option maxRecDepth 20000 in
theorem tX5_readClause_43 {Q : Int32 → JS → Prop} {G : Nat → List Value → JS → (Option Value → JS → Prop) → Prop}  (d : Nat) (hd : 2 ≤ d) (hG : ∀ k args S Q, G k args S Q → jCall jmt jbud d k args S Q) {l0 : Nat} {S : JS} (h : wX5_readClause_43 G l0 S Q) : jLf (jCall jmt jbud d) jbud (fun j => (jmt j).rk) none mX5_readClause (jqI Q) (43, [some (.ref l0), none], [], S, 0, 0) := by
  have hc := jCall_mono jmt jbud d
  unfold wX5_readClause_43 at h
  obtain ⟨g15, g16, g17, g18, h⟩ := h
  refine jLf.bk hc 7 [jA S l0 5, ¬ jR S l0 4 = none, jA S l0 5, jA S l0 5, jA S (jr S l0 4) 13, vp_in (jI S l0 7) (jZ S (jr S l0 4))] [some (.ref l0), none] [] (uI S (jr S l0 4) (jI S l0 7).toNatClampNeg (jI S l0 8)) rfl rfl rfl ⟨g15, g16, g15, g15, g17, g18⟩ ?_
  generalize eS19 : uI S (jr S l0 4) (jI S l0 7).toNatClampNeg (jI S l0 8) = S19
  have h := h S19 eS19.symm
  refine jLf.bk hc 2 [] [some (.ref l0), none] [.int 20, .ref l0] S19 rfl rfl rfl trivial ?_
  obtain ⟨g22, h⟩ := h
  refine jLf.inv hc _ rfl (gs := [jA S19 l0 5, (([] : List Value).map fun v => v.category).sum ≤ 8, 0 ≤ 0, 0 ≤ 0]) (k := 44) (args := [.ref l0, .int 20]) (r := []) (a := 0) (b := 0) rfl ⟨g22, Nat.le_of_ble_eq_true rfl, Nat.zero_le _, Nat.zero_le _⟩ (vX5_pass d (by omega) h) ?_
  rintro v S20 ⟨r21, rfl, h⟩
  show jLf (jCall jmt jbud d) jbud (fun j => (jmt j).rk) none mX5_readClause (jqI Q) (53, [some (.ref l0), none], [.int r21], S20, 0, 0)
  refine jLf.two hc _ rfl (gs := []) (p1 := r21 = 0) (p2 := ¬ (r21 = 0)) (c1 := (60, [some (.ref l0), none], [], S20, 0, 0)) (c2 := (54, [some (.ref l0), none], [], S20, 0, 0)) rfl trivial (fun hz => ?_) (fun hz => ?_)
  · have h := h.1 hz
    exact tX5_readClause_60 d hd hG  h
  · have h := h.2 hz
    refine jLf.bk hc 2 [] [some (.ref l0), none] [.int 0, .ref l0] S20 rfl rfl rfl trivial ?_
    obtain ⟨g32, h⟩ := h
    refine jLf.inv hc _ rfl (gs := [jA S20 l0 5, (([] : List Value).map fun v => v.category).sum ≤ 8, 0 ≤ 0, 0 ≤ 0]) (k := 36) (args := [.ref l0, .int 0]) (r := []) (a := 0) (b := 0) rfl ⟨g32, Nat.le_of_ble_eq_true rfl, Nat.zero_le _, Nat.zero_le _⟩ (hG _ _ _ _ h) ?_
    rintro v S30 ⟨r31, rfl, h⟩
    show jLf (jCall jmt jbud d) jbud (fun j => (jmt j).rk) none mX5_readClause (jqI Q) (57, [some (.ref l0), none], [.int r31], S30, 0, 0)
    refine jLf.two hc _ rfl (gs := []) (p1 := ¬ r31 = 0) (p2 := ¬ (¬ r31 = 0)) (c1 := (60, [some (.ref l0), none], [], S30, 0, 0)) (c2 := (58, [some (.ref l0), none], [], S30, 0, 0)) rfl trivial (fun hz => ?_) (fun hz => ?_)
    · have h := h.1 hz
      exact tX5_readClause_60 d hd hG  h
    · have h := h.2 (Classical.not_not.mp hz)
      refine jLf.bk hc 1 [] [some (.ref l0), none] [.int 0] S30 rfl rfl rfl trivial ?_
      exact jLf.ret hc _ rfl (gs := [jbit 0]) (v := some (.int 0)) rfl (Or.inl rfl) ⟨_, rfl, h⟩
def wX5_readClause (G : Nat → List Value → JS → (Option Value → JS → Prop) → Prop) (this : Nat) (S : JS) (Q : Int32 → JS → Prop) : Prop :=
  jA S this 5 ∧ (∀ x2 : Int32, x2 = (jI S this 12) → ((12 ≤ (jI S this 7) → Q 0 S) ∧ (¬ (12 ≤ (jI S this 7)) → (x2 < 17 → Q 0 S) ∧ (¬ (x2 < 17) → (x2 ≤ 19 → wX5_goTo this ((jI S this 11) + (1 : Int32)) S (fun S3 => jA S3 this 5 ∧ (¬ jR S3 this 2 = none ∧ (jA S3 (jr S3 this 2) 13 ∧ (vp_in (jI S3 this 7) (jZ S3 (jr S3 this 2)) ∧ (∀ S9 : JS, S9 = uI S3 (jr S3 this 2) (jI S3 this 7).toNatClampNeg x2 → (jA S9 this 5 ∧ (¬ jR S9 this 3 = none ∧ (jA S9 (jr S9 this 3) 13 ∧ (vp_in (jI S9 this 7) (jZ S9 (jr S9 this 3)) ∧ (∀ S14 : JS, S14 = uI S9 (jr S9 this 3) (jI S9 this 7).toNatClampNeg (jI S9 this 8) → ((x2 = 19 → wX5_readClause_43 G this S14 Q) ∧ (¬ x2 = 19 → jA S14 this 5 ∧ (G 41 [.ref this, .int 0] S14 (jqI (fun r34 S33 => (¬ r34 = 0 → wX5_readClause_43 G this S33 Q) ∧ (r34 = 0 → Q 0 S33))))))))))))))))) ∧ (¬ (x2 ≤ 19) → Q 0 S)))))
set_option maxRecDepth 20000 in
theorem vX5_readClause {Q : Int32 → JS → Prop} {G : Nat → List Value → JS → (Option Value → JS → Prop) → Prop} (d : Nat) (hd : 3 ≤ d) (hG : ∀ k args S Q, G k args S Q → jCall jmt jbud (d - 1) k args S Q) {this : Nat} {S : JS} (h : wX5_readClause G this S Q) : jCall jmt jbud d 35 [.ref this] S (jqI Q) := by
  obtain ⟨d, rfl⟩ : ∃ d2, d = d2 + 1 := ⟨d - 1, by omega⟩
  have hd : 2 ≤ d := by omega
  have hc := jCall_mono jmt jbud d
  have hG : ∀ k args S Q, G k args S Q → jCall jmt jbud d k args S Q := hG
  unfold wX5_readClause at h
  refine ⟨Nat.le_of_ble_eq_true rfl, ?_⟩
  show jLf (jCall jmt jbud d) jbud (fun j => (jmt j).rk) none mX5_readClause (jqI Q) (0, [some (.ref this), none], [], S, 0, 0)
  obtain ⟨g1, h⟩ := h
  refine jLf.bk hc 3 [jA S this 5] [some (.ref this), some (.int (jI S this 12))] [] S rfl rfl rfl g1 ?_
  generalize ex2 : (jI S this 12 : Int32) = x2
  have h := h x2 ex2.symm
  refine jLf.bk hc 3 [jA S this 5] [some (.ref this), some (.int x2)] [.int 12, .int (jI S this 7)] S rfl rfl rfl g1 ?_
  refine jLf.two hc _ rfl (gs := []) (p1 := 12 ≤ (jI S this 7)) (p2 := ¬ (12 ≤ (jI S this 7))) (c1 := (13, [some (.ref this), some (.int x2)], [], S, 0, 0)) (c2 := (7, [some (.ref this), some (.int x2)], [], S, 0, 0)) rfl trivial (fun hz => ?_) (fun hz => ?_)
  · have h := h.1 hz
    refine jLf.bk hc 1 [] [some (.ref this), some (.int x2)] [.int 0] S rfl rfl rfl trivial ?_
    exact jLf.ret hc _ rfl (gs := [jbit 0]) (v := some (.int 0)) rfl (Or.inl rfl) ⟨_, rfl, h⟩
  · have h := h.2 hz
    refine jLf.bk hc 2 [] [some (.ref this), some (.int x2)] [.int 17, .int x2] S rfl rfl rfl trivial ?_
    refine jLf.two hc _ rfl (gs := []) (p1 := x2 < 17) (p2 := ¬ (x2 < 17)) (c1 := (13, [some (.ref this), some (.int x2)], [], S, 0, 0)) (c2 := (10, [some (.ref this), some (.int x2)], [], S, 0, 0)) rfl trivial (fun hz => ?_) (fun hz => ?_)
    · have h := h.1 hz
      refine jLf.bk hc 1 [] [some (.ref this), some (.int x2)] [.int 0] S rfl rfl rfl trivial ?_
      exact jLf.ret hc _ rfl (gs := [jbit 0]) (v := some (.int 0)) rfl (Or.inl rfl) ⟨_, rfl, h⟩
    · have h := h.2 hz
      refine jLf.bk hc 2 [] [some (.ref this), some (.int x2)] [.int 19, .int x2] S rfl rfl rfl trivial ?_
      refine jLf.two hc _ rfl (gs := []) (p1 := x2 ≤ 19) (p2 := ¬ (x2 ≤ 19)) (c1 := (15, [some (.ref this), some (.int x2)], [], S, 0, 0)) (c2 := (13, [some (.ref this), some (.int x2)], [], S, 0, 0)) rfl trivial (fun hz => ?_) (fun hz => ?_)
      · have h := h.1 hz
        refine jLf.bk hc 5 [jA S this 5] [some (.ref this), some (.int x2)] [.int ((jI S this 11) + (1 : Int32)), .ref this] S rfl rfl rfl g1 ?_
        refine jLf.inv hc _ rfl (gs := [jA S this 5, (([] : List Value).map fun v => v.category).sum ≤ 8, 0 ≤ 0, 0 ≤ 0]) (k := 45) (args := [.ref this, .int ((jI S this 11) + (1 : Int32))]) (r := []) (a := 0) (b := 0) rfl ⟨g1, Nat.le_of_ble_eq_true rfl, Nat.zero_le _, Nat.zero_le _⟩ (vX5_goTo d (by omega) h) ?_
        rintro v S3 ⟨rfl, h⟩
        show jLf (jCall jmt jbud d) jbud (fun j => (jmt j).rk) none mX5_readClause (jqI Q) (21, [some (.ref this), some (.int x2)], [], S3, 0, 0)
        obtain ⟨g5, g6, g7, g8, h⟩ := h
        refine jLf.bk hc 6 [jA S3 this 5, ¬ jR S3 this 2 = none, jA S3 this 5, jA S3 (jr S3 this 2) 13, vp_in (jI S3 this 7) (jZ S3 (jr S3 this 2))] [some (.ref this), some (.int x2)] [] (uI S3 (jr S3 this 2) (jI S3 this 7).toNatClampNeg x2) rfl rfl rfl ⟨g5, g6, g5, g7, g8⟩ ?_
        generalize eS9 : uI S3 (jr S3 this 2) (jI S3 this 7).toNatClampNeg x2 = S9
        have h := h S9 eS9.symm
        obtain ⟨g10, g11, g12, g13, h⟩ := h
        refine jLf.bk hc 7 [jA S9 this 5, ¬ jR S9 this 3 = none, jA S9 this 5, jA S9 this 5, jA S9 (jr S9 this 3) 13, vp_in (jI S9 this 7) (jZ S9 (jr S9 this 3))] [some (.ref this), some (.int x2)] [] (uI S9 (jr S9 this 3) (jI S9 this 7).toNatClampNeg (jI S9 this 8)) rfl rfl rfl ⟨g10, g11, g10, g10, g12, g13⟩ ?_
        generalize eS14 : uI S9 (jr S9 this 3) (jI S9 this 7).toNatClampNeg (jI S9 this 8) = S14
        have h := h S14 eS14.symm
        refine jLf.bk hc 2 [] [some (.ref this), some (.int x2)] [.int 19, .int x2] S14 rfl rfl rfl trivial ?_
        refine jLf.two hc _ rfl (gs := []) (p1 := x2 = 19) (p2 := ¬ (x2 = 19)) (c1 := (43, [some (.ref this), some (.int x2)], [], S14, 0, 0)) (c2 := (37, [some (.ref this), some (.int x2)], [], S14, 0, 0)) rfl trivial (fun hz => ?_) (fun hz => ?_)
        · have h := h.1 hz
          refine jLf.sub [some (.ref this), none] (jle_same (jle_none (jle_nil _))) ?_
          exact tX5_readClause_43 d hd hG  h
        · have h := h.2 hz
          refine jLf.bk hc 2 [] [some (.ref this), some (.int x2)] [.int 0, .ref this] S14 rfl rfl rfl trivial ?_
          obtain ⟨g35, h⟩ := h
          refine jLf.inv hc _ rfl (gs := [jA S14 this 5, (([] : List Value).map fun v => v.category).sum ≤ 8, 0 ≤ 0, 0 ≤ 0]) (k := 41) (args := [.ref this, .int 0]) (r := []) (a := 0) (b := 0) rfl ⟨g35, Nat.le_of_ble_eq_true rfl, Nat.zero_le _, Nat.zero_le _⟩ (hG _ _ _ _ h) ?_
          rintro v S33 ⟨r34, rfl, h⟩
          show jLf (jCall jmt jbud d) jbud (fun j => (jmt j).rk) none mX5_readClause (jqI Q) (40, [some (.ref this), some (.int x2)], [.int r34], S33, 0, 0)
          refine jLf.two hc _ rfl (gs := []) (p1 := ¬ r34 = 0) (p2 := ¬ (¬ r34 = 0)) (c1 := (43, [some (.ref this), some (.int x2)], [], S33, 0, 0)) (c2 := (41, [some (.ref this), some (.int x2)], [], S33, 0, 0)) rfl trivial (fun hz => ?_) (fun hz => ?_)
          · have h := h.1 hz
            refine jLf.sub [some (.ref this), none] (jle_same (jle_none (jle_nil _))) ?_
            exact tX5_readClause_43 d hd hG  h
          · have h := h.2 (Classical.not_not.mp hz)
            refine jLf.bk hc 1 [] [some (.ref this), some (.int x2)] [.int 0] S33 rfl rfl rfl trivial ?_
            exact jLf.ret hc _ rfl (gs := [jbit 0]) (v := some (.int 0)) rfl (Or.inl rfl) ⟨_, rfl, h⟩
      · have h := h.2 hz
        refine jLf.bk hc 1 [] [some (.ref this), some (.int x2)] [.int 0] S rfl rfl rfl trivial ?_
        exact jLf.ret hc _ rfl (gs := [jbit 0]) (v := some (.int 0)) rfl (Or.inl rfl) ⟨_, rfl, h⟩
def wX5_isLetter  (p1 : Int32) (S : JS) (Q : Int32 → JS → Prop) : Prop :=
  (p1 < 97 → Q 0 S) ∧ (¬ (p1 < 97) → (122 < p1 → Q 0 S) ∧ (¬ (122 < p1) → Q 1 S))
set_option maxRecDepth 20000 in
theorem vX5_isLetter {Q : Int32 → JS → Prop} (d : Nat) (hd : 1 ≤ d) {p1 : Int32} {S : JS} (h : wX5_isLetter p1 S Q) : jCall jmt jbud d 55 [.int p1] S (jqI Q) := by
  obtain ⟨d, rfl⟩ : ∃ d2, d = d2 + 1 := ⟨d - 1, by omega⟩
  have hd : 0 ≤ d := by omega
  have hc := jCall_mono jmt jbud d
  unfold wX5_isLetter at h
  refine ⟨Nat.le_of_ble_eq_true rfl, ?_⟩
  show jLf (jCall jmt jbud d) jbud (fun j => (jmt j).rk) none mX5_isLetter (jqI Q) (0, [some (.int p1)], [], S, 0, 0)
  refine jLf.bk hc 2 [] [some (.int p1)] [.int 97, .int p1] S rfl rfl rfl trivial ?_
  refine jLf.two hc _ rfl (gs := []) (p1 := p1 < 97) (p2 := ¬ (p1 < 97)) (c1 := (8, [some (.int p1)], [], S, 0, 0)) (c2 := (3, [some (.int p1)], [], S, 0, 0)) rfl trivial (fun hz => ?_) (fun hz => ?_)
  · have h := h.1 hz
    refine jLf.bk hc 1 [] [some (.int p1)] [.int 0] S rfl rfl rfl trivial ?_
    exact jLf.ret hc _ rfl (gs := [jbit 0]) (v := some (.int 0)) rfl (Or.inl rfl) ⟨_, rfl, h⟩
  · have h := h.2 hz
    refine jLf.bk hc 2 [] [some (.int p1)] [.int 122, .int p1] S rfl rfl rfl trivial ?_
    refine jLf.two hc _ rfl (gs := []) (p1 := 122 < p1) (p2 := ¬ (122 < p1)) (c1 := (8, [some (.int p1)], [], S, 0, 0)) (c2 := (6, [some (.int p1)], [], S, 0, 0)) rfl trivial (fun hz => ?_) (fun hz => ?_)
    · have h := h.1 hz
      refine jLf.bk hc 1 [] [some (.int p1)] [.int 0] S rfl rfl rfl trivial ?_
      exact jLf.ret hc _ rfl (gs := [jbit 0]) (v := some (.int 0)) rfl (Or.inl rfl) ⟨_, rfl, h⟩
    · have h := h.2 hz
      refine jLf.bk hc 1 [] [some (.int p1)] [.int 1] S rfl rfl rfl trivial ?_
      refine jLf.one hc _ rfl (gs := []) (c := (9, [some (.int p1)], [.int 1], S, 0, 0)) rfl trivial ?_
      exact jLf.ret hc _ rfl (gs := [jbit 1]) (v := some (.int 1)) rfl (Or.inr rfl) ⟨_, rfl, h⟩
def wX5_isDigit  (p1 : Int32) (S : JS) (Q : Int32 → JS → Prop) : Prop :=
  (p1 < 48 → Q 0 S) ∧ (¬ (p1 < 48) → (57 < p1 → Q 0 S) ∧ (¬ (57 < p1) → Q 1 S))
set_option maxRecDepth 20000 in
theorem vX5_isDigit {Q : Int32 → JS → Prop} (d : Nat) (hd : 1 ≤ d) {p1 : Int32} {S : JS} (h : wX5_isDigit p1 S Q) : jCall jmt jbud d 56 [.int p1] S (jqI Q) := by
  obtain ⟨d, rfl⟩ : ∃ d2, d = d2 + 1 := ⟨d - 1, by omega⟩
  have hd : 0 ≤ d := by omega
  have hc := jCall_mono jmt jbud d
  unfold wX5_isDigit at h
  refine ⟨Nat.le_of_ble_eq_true rfl, ?_⟩
  show jLf (jCall jmt jbud d) jbud (fun j => (jmt j).rk) none mX5_isDigit (jqI Q) (0, [some (.int p1)], [], S, 0, 0)
  refine jLf.bk hc 2 [] [some (.int p1)] [.int 48, .int p1] S rfl rfl rfl trivial ?_
  refine jLf.two hc _ rfl (gs := []) (p1 := p1 < 48) (p2 := ¬ (p1 < 48)) (c1 := (8, [some (.int p1)], [], S, 0, 0)) (c2 := (3, [some (.int p1)], [], S, 0, 0)) rfl trivial (fun hz => ?_) (fun hz => ?_)
  · have h := h.1 hz
    refine jLf.bk hc 1 [] [some (.int p1)] [.int 0] S rfl rfl rfl trivial ?_
    exact jLf.ret hc _ rfl (gs := [jbit 0]) (v := some (.int 0)) rfl (Or.inl rfl) ⟨_, rfl, h⟩
  · have h := h.2 hz
    refine jLf.bk hc 2 [] [some (.int p1)] [.int 57, .int p1] S rfl rfl rfl trivial ?_
    refine jLf.two hc _ rfl (gs := []) (p1 := 57 < p1) (p2 := ¬ (57 < p1)) (c1 := (8, [some (.int p1)], [], S, 0, 0)) (c2 := (6, [some (.int p1)], [], S, 0, 0)) rfl trivial (fun hz => ?_) (fun hz => ?_)
    · have h := h.1 hz
      refine jLf.bk hc 1 [] [some (.int p1)] [.int 0] S rfl rfl rfl trivial ?_
      exact jLf.ret hc _ rfl (gs := [jbit 0]) (v := some (.int 0)) rfl (Or.inl rfl) ⟨_, rfl, h⟩
    · have h := h.2 hz
      refine jLf.bk hc 1 [] [some (.int p1)] [.int 1] S rfl rfl rfl trivial ?_
      refine jLf.one hc _ rfl (gs := []) (c := (9, [some (.int p1)], [.int 1], S, 0, 0)) rfl trivial ?_
      exact jLf.ret hc _ rfl (gs := [jbit 1]) (v := some (.int 1)) rfl (Or.inr rfl) ⟨_, rfl, h⟩
def bX5_endOfToken_20   (X20 : Nat → Int32 → Int32 → Int32 → JS → Prop) (l0 : Nat) (l1 : Int32) (l2 : Int32) (l3 : Int32) (S : JS) (Q : Int32 → JS → Prop) : Prop :=
  (l3 = 0 → Q l2 S) ∧ (¬ l3 = 0 → jA S l0 5 ∧ (((jI S l0 1) ≤ l2 → Q l2 S) ∧ (¬ ((jI S l0 1) ≤ l2) → ¬ jR S l0 0 = none ∧ (jA S (jr S l0 0) 13 ∧ (vp_in l1 (jZ S (jr S l0 0)) ∧ (wX5_isDigit (jI S (jr S l0 0) l1.toNatClampNeg) S (fun r13 S12 => jA S12 l0 5 ∧ (¬ jR S12 l0 0 = none ∧ (jA S12 (jr S12 l0 0) 13 ∧ (vp_in l2 (jZ S12 (jr S12 l0 0)) ∧ (wX5_isDigit (jI S12 (jr S12 l0 0) l2.toNatClampNeg) S12 (fun r19 S18 => (¬ r13 = r19 → Q l2 S18) ∧ (r13 = r19 → jA S18 l0 5 ∧ (¬ jR S18 l0 0 = none ∧ (jA S18 (jr S18 l0 0) 13 ∧ (vp_in l1 (jZ S18 (jr S18 l0 0)) ∧ (wX5_isLetter (jI S18 (jr S18 l0 0) l1.toNatClampNeg) S18 (fun r25 S24 => jA S24 l0 5 ∧ (¬ jR S24 l0 0 = none ∧ (jA S24 (jr S24 l0 0) 13 ∧ (vp_in l2 (jZ S24 (jr S24 l0 0)) ∧ (wX5_isLetter (jI S24 (jr S24 l0 0) l2.toNatClampNeg) S24 (fun r31 S30 => (¬ r25 = r31 → Q l2 S30) ∧ (r25 = r31 → ∀ x32 : Int32, x32 = (l2 + 1) → (X20 l0 l1 x32 l3 S30)))))))))))))))))))))))))
set_option maxRecDepth 20000 in
theorem uX5_endOfToken_20 {Q : Int32 → JS → Prop}  (d : Nat) (hd : 1 ≤ d) {X20 : Nat → Int32 → Int32 → Int32 → JS → Prop} (hX20 : ∀ l0 l1 l2 l3 S, X20 l0 l1 l2 l3 S → jLf (jCall jmt jbud d) jbud (fun j => (jmt j).rk) none mX5_endOfToken (jqI Q) (20, [some (.ref l0), some (.int l1), some (.int l2), some (.int l3)], [], S, 0, 0)) {l0 : Nat} {l1 : Int32} {l2 : Int32} {l3 : Int32} {S : JS} (h : bX5_endOfToken_20 X20 l0 l1 l2 l3 S Q) : jLf (jCall jmt jbud d) jbud (fun j => (jmt j).rk) none mX5_endOfToken (jqI Q) (20, [some (.ref l0), some (.int l1), some (.int l2), some (.int l3)], [], S, 0, 0) := by
  have hc := jCall_mono jmt jbud d
  unfold bX5_endOfToken_20 at h
  refine jLf.bk hc 1 [] [some (.ref l0), some (.int l1), some (.int l2), some (.int l3)] [.int l3] S rfl rfl rfl trivial ?_
  refine jLf.two hc _ rfl (gs := []) (p1 := l3 = 0) (p2 := ¬ (l3 = 0)) (c1 := (50, [some (.ref l0), some (.int l1), some (.int l2), some (.int l3)], [], S, 0, 0)) (c2 := (22, [some (.ref l0), some (.int l1), some (.int l2), some (.int l3)], [], S, 0, 0)) rfl trivial (fun hz => ?_) (fun hz => ?_)
  · have h := h.1 hz
    refine jLf.bk hc 1 [] [some (.ref l0), some (.int l1), some (.int l2), some (.int l3)] [.int l2] S rfl rfl rfl trivial ?_
    exact jLf.ret hc _ rfl (gs := [True]) (v := some (.int l2)) rfl trivial ⟨l2, rfl, h⟩
  · have h := h.2 hz
    obtain ⟨g8, h⟩ := h
    refine jLf.bk hc 3 [jA S l0 5] [some (.ref l0), some (.int l1), some (.int l2), some (.int l3)] [.int (jI S l0 1), .int l2] S rfl rfl rfl g8 ?_
    refine jLf.two hc _ rfl (gs := []) (p1 := (jI S l0 1) ≤ l2) (p2 := ¬ ((jI S l0 1) ≤ l2)) (c1 := (50, [some (.ref l0), some (.int l1), some (.int l2), some (.int l3)], [], S, 0, 0)) (c2 := (26, [some (.ref l0), some (.int l1), some (.int l2), some (.int l3)], [], S, 0, 0)) rfl trivial (fun hz => ?_) (fun hz => ?_)
    · have h := h.1 hz
      refine jLf.bk hc 1 [] [some (.ref l0), some (.int l1), some (.int l2), some (.int l3)] [.int l2] S rfl rfl rfl trivial ?_
      exact jLf.ret hc _ rfl (gs := [True]) (v := some (.int l2)) rfl trivial ⟨l2, rfl, h⟩
    · have h := h.2 hz
      obtain ⟨g9, g10, g11, h⟩ := h
      refine jLf.bk hc 4 [jA S l0 5, ¬ jR S l0 0 = none, jA S (jr S l0 0) 13, vp_in l1 (jZ S (jr S l0 0))] [some (.ref l0), some (.int l1), some (.int l2), some (.int l3)] [.int (jI S (jr S l0 0) l1.toNatClampNeg)] S rfl rfl rfl ⟨g8, g9, g10, g11⟩ ?_
      refine jLf.inv hc _ rfl (gs := [1 ≤ ([.int (jI S (jr S l0 0) l1.toNatClampNeg)] : List Value).length, (([] : List Value).map fun v => v.category).sum ≤ 8, 0 ≤ 0, 0 ≤ 0]) (k := 56) (args := [.int (jI S (jr S l0 0) l1.toNatClampNeg)]) (r := []) (a := 0) (b := 0) rfl ⟨Nat.le_of_ble_eq_true rfl, Nat.le_of_ble_eq_true rfl, Nat.zero_le _, Nat.zero_le _⟩ (vX5_isDigit d (by omega) h) ?_
      rintro v S12 ⟨r13, rfl, h⟩
      show jLf (jCall jmt jbud d) jbud (fun j => (jmt j).rk) none mX5_endOfToken (jqI Q) (31, [some (.ref l0), some (.int l1), some (.int l2), some (.int l3)], [.int r13], S12, 0, 0)
      obtain ⟨g14, g15, g16, g17, h⟩ := h
      refine jLf.bk hc 4 [jA S12 l0 5, ¬ jR S12 l0 0 = none, jA S12 (jr S12 l0 0) 13, vp_in l2 (jZ S12 (jr S12 l0 0))] [some (.ref l0), some (.int l1), some (.int l2), some (.int l3)] [.int (jI S12 (jr S12 l0 0) l2.toNatClampNeg), .int r13] S12 rfl rfl rfl ⟨g14, g15, g16, g17⟩ ?_
      refine jLf.inv hc _ rfl (gs := [1 ≤ ([.int (jI S12 (jr S12 l0 0) l2.toNatClampNeg), .int r13] : List Value).length, (([.int r13] : List Value).map fun v => v.category).sum ≤ 8, 0 ≤ 0, 0 ≤ 0]) (k := 56) (args := [.int (jI S12 (jr S12 l0 0) l2.toNatClampNeg)]) (r := [.int r13]) (a := 0) (b := 0) rfl ⟨Nat.le_of_ble_eq_true rfl, Nat.le_of_ble_eq_true rfl, Nat.zero_le _, Nat.zero_le _⟩ (vX5_isDigit d (by omega) h) ?_
      rintro v S18 ⟨r19, rfl, h⟩
      show jLf (jCall jmt jbud d) jbud (fun j => (jmt j).rk) none mX5_endOfToken (jqI Q) (36, [some (.ref l0), some (.int l1), some (.int l2), some (.int l3)], [.int r19, .int r13], S18, 0, 0)
      refine jLf.two hc _ rfl (gs := []) (p1 := ¬ r13 = r19) (p2 := ¬ (¬ r13 = r19)) (c1 := (50, [some (.ref l0), some (.int l1), some (.int l2), some (.int l3)], [], S18, 0, 0)) (c2 := (37, [some (.ref l0), some (.int l1), some (.int l2), some (.int l3)], [], S18, 0, 0)) rfl trivial (fun hz => ?_) (fun hz => ?_)
      · have h := h.1 hz
        refine jLf.bk hc 1 [] [some (.ref l0), some (.int l1), some (.int l2), some (.int l3)] [.int l2] S18 rfl rfl rfl trivial ?_
        exact jLf.ret hc _ rfl (gs := [True]) (v := some (.int l2)) rfl trivial ⟨l2, rfl, h⟩
      · have h := h.2 (Classical.not_not.mp hz)
        obtain ⟨g20, g21, g22, g23, h⟩ := h
        refine jLf.bk hc 4 [jA S18 l0 5, ¬ jR S18 l0 0 = none, jA S18 (jr S18 l0 0) 13, vp_in l1 (jZ S18 (jr S18 l0 0))] [some (.ref l0), some (.int l1), some (.int l2), some (.int l3)] [.int (jI S18 (jr S18 l0 0) l1.toNatClampNeg)] S18 rfl rfl rfl ⟨g20, g21, g22, g23⟩ ?_
        refine jLf.inv hc _ rfl (gs := [1 ≤ ([.int (jI S18 (jr S18 l0 0) l1.toNatClampNeg)] : List Value).length, (([] : List Value).map fun v => v.category).sum ≤ 8, 0 ≤ 0, 0 ≤ 0]) (k := 55) (args := [.int (jI S18 (jr S18 l0 0) l1.toNatClampNeg)]) (r := []) (a := 0) (b := 0) rfl ⟨Nat.le_of_ble_eq_true rfl, Nat.le_of_ble_eq_true rfl, Nat.zero_le _, Nat.zero_le _⟩ (vX5_isLetter d (by omega) h) ?_
        rintro v S24 ⟨r25, rfl, h⟩
        show jLf (jCall jmt jbud d) jbud (fun j => (jmt j).rk) none mX5_endOfToken (jqI Q) (42, [some (.ref l0), some (.int l1), some (.int l2), some (.int l3)], [.int r25], S24, 0, 0)
        obtain ⟨g26, g27, g28, g29, h⟩ := h
        refine jLf.bk hc 4 [jA S24 l0 5, ¬ jR S24 l0 0 = none, jA S24 (jr S24 l0 0) 13, vp_in l2 (jZ S24 (jr S24 l0 0))] [some (.ref l0), some (.int l1), some (.int l2), some (.int l3)] [.int (jI S24 (jr S24 l0 0) l2.toNatClampNeg), .int r25] S24 rfl rfl rfl ⟨g26, g27, g28, g29⟩ ?_
        refine jLf.inv hc _ rfl (gs := [1 ≤ ([.int (jI S24 (jr S24 l0 0) l2.toNatClampNeg), .int r25] : List Value).length, (([.int r25] : List Value).map fun v => v.category).sum ≤ 8, 0 ≤ 0, 0 ≤ 0]) (k := 55) (args := [.int (jI S24 (jr S24 l0 0) l2.toNatClampNeg)]) (r := [.int r25]) (a := 0) (b := 0) rfl ⟨Nat.le_of_ble_eq_true rfl, Nat.le_of_ble_eq_true rfl, Nat.zero_le _, Nat.zero_le _⟩ (vX5_isLetter d (by omega) h) ?_
        rintro v S30 ⟨r31, rfl, h⟩
        show jLf (jCall jmt jbud d) jbud (fun j => (jmt j).rk) none mX5_endOfToken (jqI Q) (47, [some (.ref l0), some (.int l1), some (.int l2), some (.int l3)], [.int r31, .int r25], S30, 0, 0)
        refine jLf.two hc _ rfl (gs := []) (p1 := ¬ r25 = r31) (p2 := ¬ (¬ r25 = r31)) (c1 := (50, [some (.ref l0), some (.int l1), some (.int l2), some (.int l3)], [], S30, 0, 0)) (c2 := (48, [some (.ref l0), some (.int l1), some (.int l2), some (.int l3)], [], S30, 0, 0)) rfl trivial (fun hz => ?_) (fun hz => ?_)
        · have h := h.1 hz
          refine jLf.bk hc 1 [] [some (.ref l0), some (.int l1), some (.int l2), some (.int l3)] [.int l2] S30 rfl rfl rfl trivial ?_
          exact jLf.ret hc _ rfl (gs := [True]) (v := some (.int l2)) rfl trivial ⟨l2, rfl, h⟩
        · have h := h.2 (Classical.not_not.mp hz)
          refine jLf.bk hc 1 [] [some (.ref l0), some (.int l1), some (.int (l2 + 1)), some (.int l3)] [] S30 rfl rfl rfl trivial ?_
          generalize ex32 : (l2 + 1 : Int32) = x32
          have h := h x32 ex32.symm
          refine jLf.one hc _ rfl (gs := []) (c := (20, [some (.ref l0), some (.int l1), some (.int x32), some (.int l3)], [], S30, 0, 0)) rfl trivial ?_
          exact hX20 _ _ _ _ _ h
def wX5_endOfToken_20   (l0 : Nat) (l1 : Int32) (l2 : Int32) (l3 : Int32) (S : JS) (Q : Int32 → JS → Prop) : Prop :=
  jLoop (fun (X20 : Nat × Int32 × Int32 × Int32 × JS → Prop) q => bX5_endOfToken_20 (fun l0 l1 l2 l3 S => X20 (l0, l1, l2, l3, S)) q.1 q.2.1 q.2.2.1 q.2.2.2.1 q.2.2.2.2 Q) (l0, l1, l2, l3, S)
set_option maxRecDepth 20000 in
theorem tX5_endOfToken_20 {Q : Int32 → JS → Prop}  (d : Nat) (hd : 1 ≤ d) {l0 : Nat} {l1 : Int32} {l2 : Int32} {l3 : Int32} {S : JS} (h : wX5_endOfToken_20 l0 l1 l2 l3 S Q) : jLf (jCall jmt jbud d) jbud (fun j => (jmt j).rk) none mX5_endOfToken (jqI Q) (20, [some (.ref l0), some (.int l1), some (.int l2), some (.int l3)], [], S, 0, 0) := by
  have := h (fun q : Nat × Int32 × Int32 × Int32 × JS => jLf (jCall jmt jbud d) jbud (fun j => (jmt j).rk) none mX5_endOfToken (jqI Q) (20, [some (.ref (q.1)), some (.int (q.2.1)), some (.int (q.2.2.1)), some (.int (q.2.2.2.1))], [], q.2.2.2.2, 0, 0)) (fun q R hb hR => uX5_endOfToken_20 d hd  (fun _ _ _ _ _ => hR _) hb)
  exact this
def wX5_endOfToken_19   (l0 : Nat) (l1 : Int32) (l2 : Int32) (s0 : Int32) (S : JS) (Q : Int32 → JS → Prop) : Prop :=
  wX5_endOfToken_20 l0 l1 l2 s0 S Q
set_option maxRecDepth 20000 in
theorem tX5_endOfToken_19 {Q : Int32 → JS → Prop}  (d : Nat) (hd : 1 ≤ d) {l0 : Nat} {l1 : Int32} {l2 : Int32} {s0 : Int32} {S : JS} (h : wX5_endOfToken_19 l0 l1 l2 s0 S Q) : jLf (jCall jmt jbud d) jbud (fun j => (jmt j).rk) none mX5_endOfToken (jqI Q) (19, [some (.ref l0), some (.int l1), some (.int l2), none], [.int s0], S, 0, 0) := by
  have hc := jCall_mono jmt jbud d
  unfold wX5_endOfToken_19 at h
  refine jLf.bk hc 1 [] [some (.ref l0), some (.int l1), some (.int l2), some (.int s0)] [] S rfl rfl rfl trivial ?_
  exact tX5_endOfToken_20 d hd  h
def wX5_endOfToken_16   (l0 : Nat) (l1 : Int32) (l2 : Int32) (S : JS) (Q : Int32 → JS → Prop) : Prop :=
  wX5_endOfToken_19 l0 l1 l2 1 S Q
set_option maxRecDepth 20000 in
theorem tX5_endOfToken_16 {Q : Int32 → JS → Prop}  (d : Nat) (hd : 1 ≤ d) {l0 : Nat} {l1 : Int32} {l2 : Int32} {S : JS} (h : wX5_endOfToken_16 l0 l1 l2 S Q) : jLf (jCall jmt jbud d) jbud (fun j => (jmt j).rk) none mX5_endOfToken (jqI Q) (16, [some (.ref l0), some (.int l1), some (.int l2), none], [], S, 0, 0) := by
  have hc := jCall_mono jmt jbud d
  unfold wX5_endOfToken_16 at h
  refine jLf.bk hc 1 [] [some (.ref l0), some (.int l1), some (.int l2), none] [.int 1] S rfl rfl rfl trivial ?_
  refine jLf.one hc _ rfl (gs := []) (c := (19, [some (.ref l0), some (.int l1), some (.int l2), none], [.int 1], S, 0, 0)) rfl trivial ?_
  exact tX5_endOfToken_19 d hd  h
def wX5_endOfToken  (this : Nat) (p1 : Int32) (S : JS) (Q : Int32 → JS → Prop) : Prop :=
  ∀ x1 : Int32, x1 = (p1 + (1 : Int32)) → (jA S this 5 ∧ (¬ jR S this 0 = none ∧ (jA S (jr S this 0) 13 ∧ (vp_in p1 (jZ S (jr S this 0)) ∧ (wX5_isLetter (jI S (jr S this 0) p1.toNatClampNeg) S (fun r7 S6 => (¬ r7 = 0 → wX5_endOfToken_16 this p1 x1 S6 Q) ∧ (r7 = 0 → jA S6 this 5 ∧ (¬ jR S6 this 0 = none ∧ (jA S6 (jr S6 this 0) 13 ∧ (vp_in p1 (jZ S6 (jr S6 this 0)) ∧ (wX5_isDigit (jI S6 (jr S6 this 0) p1.toNatClampNeg) S6 (fun r38 S37 => (r38 = 0 → wX5_endOfToken_19 this p1 x1 0 S37 Q) ∧ (¬ r38 = 0 → wX5_endOfToken_16 this p1 x1 S37 Q)))))))))))))
set_option maxRecDepth 20000 in
theorem vX5_endOfToken {Q : Int32 → JS → Prop} (d : Nat) (hd : 2 ≤ d) {this : Nat} {p1 : Int32} {S : JS} (h : wX5_endOfToken this p1 S Q) : jCall jmt jbud d 49 [.ref this, .int p1] S (jqI Q) := by
  obtain ⟨d, rfl⟩ : ∃ d2, d = d2 + 1 := ⟨d - 1, by omega⟩
  have hd : 1 ≤ d := by omega
  have hc := jCall_mono jmt jbud d
  unfold wX5_endOfToken at h
  refine ⟨Nat.le_of_ble_eq_true rfl, ?_⟩
  show jLf (jCall jmt jbud d) jbud (fun j => (jmt j).rk) none mX5_endOfToken (jqI Q) (0, [some (.ref this), some (.int p1), none, none], [], S, 0, 0)
  refine jLf.bk hc 4 [] [some (.ref this), some (.int p1), some (.int (p1 + (1 : Int32))), none] [] S rfl rfl rfl trivial ?_
  generalize ex1 : (p1 + (1 : Int32) : Int32) = x1
  have h := h x1 ex1.symm
  obtain ⟨g2, g3, g4, g5, h⟩ := h
  refine jLf.bk hc 4 [jA S this 5, ¬ jR S this 0 = none, jA S (jr S this 0) 13, vp_in p1 (jZ S (jr S this 0))] [some (.ref this), some (.int p1), some (.int x1), none] [.int (jI S (jr S this 0) p1.toNatClampNeg)] S rfl rfl rfl ⟨g2, g3, g4, g5⟩ ?_
  refine jLf.inv hc _ rfl (gs := [1 ≤ ([.int (jI S (jr S this 0) p1.toNatClampNeg)] : List Value).length, (([] : List Value).map fun v => v.category).sum ≤ 8, 0 ≤ 0, 0 ≤ 0]) (k := 55) (args := [.int (jI S (jr S this 0) p1.toNatClampNeg)]) (r := []) (a := 0) (b := 0) rfl ⟨Nat.le_of_ble_eq_true rfl, Nat.le_of_ble_eq_true rfl, Nat.zero_le _, Nat.zero_le _⟩ (vX5_isLetter d (by omega) h) ?_
  rintro v S6 ⟨r7, rfl, h⟩
  show jLf (jCall jmt jbud d) jbud (fun j => (jmt j).rk) none mX5_endOfToken (jqI Q) (9, [some (.ref this), some (.int p1), some (.int x1), none], [.int r7], S6, 0, 0)
  refine jLf.two hc _ rfl (gs := []) (p1 := ¬ r7 = 0) (p2 := ¬ (¬ r7 = 0)) (c1 := (16, [some (.ref this), some (.int p1), some (.int x1), none], [], S6, 0, 0)) (c2 := (10, [some (.ref this), some (.int p1), some (.int x1), none], [], S6, 0, 0)) rfl trivial (fun hz => ?_) (fun hz => ?_)
  · have h := h.1 hz
    exact tX5_endOfToken_16 d hd  h
  · have h := h.2 (Classical.not_not.mp hz)
    obtain ⟨g33, g34, g35, g36, h⟩ := h
    refine jLf.bk hc 4 [jA S6 this 5, ¬ jR S6 this 0 = none, jA S6 (jr S6 this 0) 13, vp_in p1 (jZ S6 (jr S6 this 0))] [some (.ref this), some (.int p1), some (.int x1), none] [.int (jI S6 (jr S6 this 0) p1.toNatClampNeg)] S6 rfl rfl rfl ⟨g33, g34, g35, g36⟩ ?_
    refine jLf.inv hc _ rfl (gs := [1 ≤ ([.int (jI S6 (jr S6 this 0) p1.toNatClampNeg)] : List Value).length, (([] : List Value).map fun v => v.category).sum ≤ 8, 0 ≤ 0, 0 ≤ 0]) (k := 56) (args := [.int (jI S6 (jr S6 this 0) p1.toNatClampNeg)]) (r := []) (a := 0) (b := 0) rfl ⟨Nat.le_of_ble_eq_true rfl, Nat.le_of_ble_eq_true rfl, Nat.zero_le _, Nat.zero_le _⟩ (vX5_isDigit d (by omega) h) ?_
    rintro v S37 ⟨r38, rfl, h⟩
    show jLf (jCall jmt jbud d) jbud (fun j => (jmt j).rk) none mX5_endOfToken (jqI Q) (15, [some (.ref this), some (.int p1), some (.int x1), none], [.int r38], S37, 0, 0)
    refine jLf.two hc _ rfl (gs := []) (p1 := r38 = 0) (p2 := ¬ (r38 = 0)) (c1 := (18, [some (.ref this), some (.int p1), some (.int x1), none], [], S37, 0, 0)) (c2 := (16, [some (.ref this), some (.int p1), some (.int x1), none], [], S37, 0, 0)) rfl trivial (fun hz => ?_) (fun hz => ?_)
    · have h := h.1 hz
      refine jLf.bk hc 1 [] [some (.ref this), some (.int p1), some (.int x1), none] [.int 0] S37 rfl rfl rfl trivial ?_
      exact tX5_endOfToken_19 d hd  h
    · have h := h.2 hz
      exact tX5_endOfToken_16 d hd  h
def wX5_numberToken_23   (l3 : Int32) (S : JS) (Q : Int32 → JS → Prop) : Prop :=
  (1000 < l3 → Q 27 S) ∧ (¬ (1000 < l3) → Q ((l3 <<< ((5 : Int32) &&& 31)) ||| (0 : Int32)) S)
set_option maxRecDepth 20000 in
theorem tX5_numberToken_23 {Q : Int32 → JS → Prop}  (d : Nat) (hd : 0 ≤ d) {l3 : Int32} {S : JS} (h : wX5_numberToken_23 l3 S Q) : jLf (jCall jmt jbud d) jbud (fun j => (jmt j).rk) none mX5_numberToken (jqI Q) (23, [none, none, none, some (.int l3), none], [], S, 0, 0) := by
  have hc := jCall_mono jmt jbud d
  unfold wX5_numberToken_23 at h
  refine jLf.bk hc 2 [] [none, none, none, some (.int l3), none] [.int 1000, .int l3] S rfl rfl rfl trivial ?_
  refine jLf.two hc _ rfl (gs := []) (p1 := 1000 < l3) (p2 := ¬ (1000 < l3)) (c1 := (32, [none, none, none, some (.int l3), none], [], S, 0, 0)) (c2 := (26, [none, none, none, some (.int l3), none], [], S, 0, 0)) rfl trivial (fun hz => ?_) (fun hz => ?_)
  · have h := h.1 hz
    refine jLf.bk hc 1 [] [none, none, none, some (.int l3), none] [.int 27] S rfl rfl rfl trivial ?_
    exact jLf.ret hc _ rfl (gs := [True]) (v := some (.int 27)) rfl trivial ⟨27, rfl, h⟩
  · have h := h.2 hz
    refine jLf.bk hc 5 [] [none, none, none, some (.int l3), none] [.int ((l3 <<< ((5 : Int32) &&& 31)) ||| (0 : Int32))] S rfl rfl rfl trivial ?_
    refine jLf.one hc _ rfl (gs := []) (c := (33, [none, none, none, some (.int l3), none], [.int ((l3 <<< ((5 : Int32) &&& 31)) ||| (0 : Int32))], S, 0, 0)) rfl trivial ?_
    exact jLf.ret hc _ rfl (gs := [True]) (v := some (.int ((l3 <<< ((5 : Int32) &&& 31)) ||| (0 : Int32)))) rfl trivial ⟨(l3 <<< ((5 : Int32) &&& 31)) ||| (0 : Int32), rfl, h⟩
def bX5_numberToken_4   (X4 : Nat → Int32 → Int32 → Int32 → JS → Prop) (l0 : Nat) (l2 : Int32) (l3 : Int32) (l4 : Int32) (S : JS) (Q : Int32 → JS → Prop) : Prop :=
  (l2 ≤ l4 → wX5_numberToken_23 l3 S Q) ∧ (¬ (l2 ≤ l4) → (1000 < l3 → wX5_numberToken_23 l3 S Q) ∧ (¬ (1000 < l3) → jA S l0 5 ∧ (¬ jR S l0 0 = none ∧ (jA S (jr S l0 0) 13 ∧ (vp_in l4 (jZ S (jr S l0 0)) ∧ (∀ x5 : Int32, x5 = (((l3 * (10 : Int32)) + (jI S (jr S l0 0) l4.toNatClampNeg)) - (48 : Int32)) → (∀ x6 : Int32, x6 = (l4 + 1) → (X4 l0 l2 x5 x6 S))))))))
set_option maxRecDepth 20000 in
theorem uX5_numberToken_4 {Q : Int32 → JS → Prop}  (d : Nat) (hd : 0 ≤ d) {X4 : Nat → Int32 → Int32 → Int32 → JS → Prop} (hX4 : ∀ l0 l2 l3 l4 S, X4 l0 l2 l3 l4 S → jLf (jCall jmt jbud d) jbud (fun j => (jmt j).rk) none mX5_numberToken (jqI Q) (4, [some (.ref l0), none, some (.int l2), some (.int l3), some (.int l4)], [], S, 0, 0)) {l0 : Nat} {l2 : Int32} {l3 : Int32} {l4 : Int32} {S : JS} (h : bX5_numberToken_4 X4 l0 l2 l3 l4 S Q) : jLf (jCall jmt jbud d) jbud (fun j => (jmt j).rk) none mX5_numberToken (jqI Q) (4, [some (.ref l0), none, some (.int l2), some (.int l3), some (.int l4)], [], S, 0, 0) := by
  have hc := jCall_mono jmt jbud d
  unfold bX5_numberToken_4 at h
  refine jLf.bk hc 2 [] [some (.ref l0), none, some (.int l2), some (.int l3), some (.int l4)] [.int l2, .int l4] S rfl rfl rfl trivial ?_
  refine jLf.two hc _ rfl (gs := []) (p1 := l2 ≤ l4) (p2 := ¬ (l2 ≤ l4)) (c1 := (23, [some (.ref l0), none, some (.int l2), some (.int l3), some (.int l4)], [], S, 0, 0)) (c2 := (7, [some (.ref l0), none, some (.int l2), some (.int l3), some (.int l4)], [], S, 0, 0)) rfl trivial (fun hz => ?_) (fun hz => ?_)
  · have h := h.1 hz
    refine jLf.sub [none, none, none, some (.int l3), none] (jle_none (jle_same (jle_none (jle_same (jle_none (jle_nil _)))))) ?_
    exact tX5_numberToken_23 d hd  h
  · have h := h.2 hz
    refine jLf.bk hc 2 [] [some (.ref l0), none, some (.int l2), some (.int l3), some (.int l4)] [.int 1000, .int l3] S rfl rfl rfl trivial ?_
    refine jLf.two hc _ rfl (gs := []) (p1 := 1000 < l3) (p2 := ¬ (1000 < l3)) (c1 := (23, [some (.ref l0), none, some (.int l2), some (.int l3), some (.int l4)], [], S, 0, 0)) (c2 := (10, [some (.ref l0), none, some (.int l2), some (.int l3), some (.int l4)], [], S, 0, 0)) rfl trivial (fun hz => ?_) (fun hz => ?_)
    · have h := h.1 hz
      refine jLf.sub [none, none, none, some (.int l3), none] (jle_none (jle_same (jle_none (jle_same (jle_none (jle_nil _)))))) ?_
      exact tX5_numberToken_23 d hd  h
    · have h := h.2 hz
      obtain ⟨g1, g2, g3, g4, h⟩ := h
      refine jLf.bk hc 11 [jA S l0 5, ¬ jR S l0 0 = none, jA S (jr S l0 0) 13, vp_in l4 (jZ S (jr S l0 0))] [some (.ref l0), none, some (.int l2), some (.int (((l3 * (10 : Int32)) + (jI S (jr S l0 0) l4.toNatClampNeg)) - (48 : Int32))), some (.int l4)] [] S rfl rfl rfl ⟨g1, g2, g3, g4⟩ ?_
      generalize ex5 : (((l3 * (10 : Int32)) + (jI S (jr S l0 0) l4.toNatClampNeg)) - (48 : Int32) : Int32) = x5
      have h := h x5 ex5.symm
      refine jLf.bk hc 1 [] [some (.ref l0), none, some (.int l2), some (.int x5), some (.int (l4 + 1))] [] S rfl rfl rfl trivial ?_
      generalize ex6 : (l4 + 1 : Int32) = x6
      have h := h x6 ex6.symm
      refine jLf.one hc _ rfl (gs := []) (c := (4, [some (.ref l0), none, some (.int l2), some (.int x5), some (.int x6)], [], S, 0, 0)) rfl trivial ?_
      exact hX4 _ _ _ _ _ h
def wX5_numberToken_4   (l0 : Nat) (l2 : Int32) (l3 : Int32) (l4 : Int32) (S : JS) (Q : Int32 → JS → Prop) : Prop :=
  jLoop (fun (X4 : Nat × Int32 × Int32 × Int32 × JS → Prop) q => bX5_numberToken_4 (fun l0 l2 l3 l4 S => X4 (l0, l2, l3, l4, S)) q.1 q.2.1 q.2.2.1 q.2.2.2.1 q.2.2.2.2 Q) (l0, l2, l3, l4, S)
set_option maxRecDepth 20000 in
theorem tX5_numberToken_4 {Q : Int32 → JS → Prop}  (d : Nat) (hd : 0 ≤ d) {l0 : Nat} {l2 : Int32} {l3 : Int32} {l4 : Int32} {S : JS} (h : wX5_numberToken_4 l0 l2 l3 l4 S Q) : jLf (jCall jmt jbud d) jbud (fun j => (jmt j).rk) none mX5_numberToken (jqI Q) (4, [some (.ref l0), none, some (.int l2), some (.int l3), some (.int l4)], [], S, 0, 0) := by
  have := h (fun q : Nat × Int32 × Int32 × Int32 × JS => jLf (jCall jmt jbud d) jbud (fun j => (jmt j).rk) none mX5_numberToken (jqI Q) (4, [some (.ref (q.1)), none, some (.int (q.2.1)), some (.int (q.2.2.1)), some (.int (q.2.2.2.1))], [], q.2.2.2.2, 0, 0)) (fun q R hb hR => uX5_numberToken_4 d hd  (fun _ _ _ _ _ => hR _) hb)
  exact this
def wX5_numberToken  (this : Nat) (p1 : Int32) (p2 : Int32) (S : JS) (Q : Int32 → JS → Prop) : Prop :=
  wX5_numberToken_4 this p2 0 p1 S Q
set_option maxRecDepth 20000 in
theorem vX5_numberToken {Q : Int32 → JS → Prop} (d : Nat) (hd : 1 ≤ d) {this : Nat} {p1 : Int32} {p2 : Int32} {S : JS} (h : wX5_numberToken this p1 p2 S Q) : jCall jmt jbud d 51 [.ref this, .int p1, .int p2] S (jqI Q) := by
  obtain ⟨d, rfl⟩ : ∃ d2, d = d2 + 1 := ⟨d - 1, by omega⟩
  have hd : 0 ≤ d := by omega
  have hc := jCall_mono jmt jbud d
  unfold wX5_numberToken at h
  refine ⟨Nat.le_of_ble_eq_true rfl, ?_⟩
  show jLf (jCall jmt jbud d) jbud (fun j => (jmt j).rk) none mX5_numberToken (jqI Q) (0, [some (.ref this), some (.int p1), some (.int p2), none, none], [], S, 0, 0)
  refine jLf.bk hc 4 [] [some (.ref this), some (.int p1), some (.int p2), some (.int 0), some (.int p1)] [] S rfl rfl rfl trivial ?_
  refine jLf.sub [some (.ref this), none, some (.int p2), some (.int 0), some (.int p1)] (jle_same (jle_none (jle_same (jle_same (jle_same (jle_nil _)))))) ?_
  exact tX5_numberToken_4 d hd  h
def bX5_isWord_16   (X16 : Nat → Nat → Int32 → Int32 → JS → Prop) (l0 : Nat) (l1 : Nat) (l2 : Int32) (l4 : Int32) (S : JS) (Q : Int32 → JS → Prop) : Prop :=
  jX + 10 ≤ l1 ∧ (l1 < jX + 23 ∧ (((Int32.ofNat (jSL.getD (l1 - (jX + 10)) []).length) ≤ l4 → Q 1 S) ∧ (¬ ((Int32.ofNat (jSL.getD (l1 - (jX + 10)) []).length) ≤ l4) → jA S l0 5 ∧ (¬ jR S l0 0 = none ∧ (jA S (jr S l0 0) 13 ∧ (vp_in (l2 + l4) (jZ S (jr S l0 0)) ∧ (jX + 10 ≤ l1 ∧ (l1 < jX + 23 ∧ (vp_in l4 (jSL.getD (l1 - (jX + 10)) []).length ∧ (((jI S (jr S l0 0) (l2 + l4).toNatClampNeg) = (Int32.ofNat ((jSL.getD (l1 - (jX + 10)) []).getD l4.toNatClampNeg 0)) → ∀ x6 : Int32, x6 = (l4 + 1) → (X16 l0 l1 l2 x6 S)) ∧ (¬ (jI S (jr S l0 0) (l2 + l4).toNatClampNeg) = (Int32.ofNat ((jSL.getD (l1 - (jX + 10)) []).getD l4.toNatClampNeg 0)) → Q 0 S)))))))))))
set_option maxRecDepth 20000 in
theorem uX5_isWord_16 {Q : Int32 → JS → Prop}  (d : Nat) (hd : 0 ≤ d) {X16 : Nat → Nat → Int32 → Int32 → JS → Prop} (hX16 : ∀ l0 l1 l2 l4 S, X16 l0 l1 l2 l4 S → jLf (jCall jmt jbud d) jbud (fun j => (jmt j).rk) none mX5_isWord (jqI Q) (16, [some (.ref l0), some (.ref l1), some (.int l2), none, some (.int l4)], [], S, 0, 0)) {l0 : Nat} {l1 : Nat} {l2 : Int32} {l4 : Int32} {S : JS} (h : bX5_isWord_16 X16 l0 l1 l2 l4 S Q) : jLf (jCall jmt jbud d) jbud (fun j => (jmt j).rk) none mX5_isWord (jqI Q) (16, [some (.ref l0), some (.ref l1), some (.int l2), none, some (.int l4)], [], S, 0, 0) := by
  have hc := jCall_mono jmt jbud d
  unfold bX5_isWord_16 at h
  refine jLf.bk hc 2 [] [some (.ref l0), some (.ref l1), some (.int l2), none, some (.int l4)] [.ref l1, .int l4] S rfl rfl rfl trivial ?_
  obtain ⟨ga, gb, h⟩ := h
  refine jLf.one hc _ rfl (gs := [jX + 10 ≤ l1, l1 < jX + 23, (([.int l4] : List Value).map fun v => v.category).sum ≤ 8]) (c := (19, [some (.ref l0), some (.ref l1), some (.int l2), none, some (.int l4)], [.int (Int32.ofNat (jSL.getD (l1 - (jX + 10)) []).length), .int l4], S, 0, 0)) rfl ⟨ga, gb, Nat.le_of_ble_eq_true rfl⟩ ?_
  refine jLf.two hc _ rfl (gs := []) (p1 := (Int32.ofNat (jSL.getD (l1 - (jX + 10)) []).length) ≤ l4) (p2 := ¬ ((Int32.ofNat (jSL.getD (l1 - (jX + 10)) []).length) ≤ l4)) (c1 := (34, [some (.ref l0), some (.ref l1), some (.int l2), none, some (.int l4)], [], S, 0, 0)) (c2 := (20, [some (.ref l0), some (.ref l1), some (.int l2), none, some (.int l4)], [], S, 0, 0)) rfl trivial (fun hz => ?_) (fun hz => ?_)
  · have h := h.1 hz
    refine jLf.bk hc 1 [] [some (.ref l0), some (.ref l1), some (.int l2), none, some (.int l4)] [.int 1] S rfl rfl rfl trivial ?_
    exact jLf.ret hc _ rfl (gs := [jbit 1]) (v := some (.int 1)) rfl (Or.inr rfl) ⟨_, rfl, h⟩
  · have h := h.2 hz
    obtain ⟨g2, g3, g4, g5, h⟩ := h
    refine jLf.bk hc 8 [jA S l0 5, ¬ jR S l0 0 = none, jA S (jr S l0 0) 13, vp_in (l2 + l4) (jZ S (jr S l0 0))] [some (.ref l0), some (.ref l1), some (.int l2), none, some (.int l4)] [.int l4, .ref l1, .int (jI S (jr S l0 0) (l2 + l4).toNatClampNeg)] S rfl rfl rfl ⟨g2, g3, g4, g5⟩ ?_
    obtain ⟨ga, gb, gc, h⟩ := h
    refine jLf.one hc _ rfl (gs := [jX + 10 ≤ l1, l1 < jX + 23, vp_in l4 (jSL.getD (l1 - (jX + 10)) []).length, (([.int (jI S (jr S l0 0) (l2 + l4).toNatClampNeg)] : List Value).map fun v => v.category).sum ≤ 8]) (c := (29, [some (.ref l0), some (.ref l1), some (.int l2), none, some (.int l4)], [.int (Int32.ofNat ((jSL.getD (l1 - (jX + 10)) []).getD l4.toNatClampNeg 0)), .int (jI S (jr S l0 0) (l2 + l4).toNatClampNeg)], S, 0, 0)) rfl ⟨ga, gb, gc, Nat.le_of_ble_eq_true rfl⟩ ?_
    refine jLf.two hc _ rfl (gs := []) (p1 := (jI S (jr S l0 0) (l2 + l4).toNatClampNeg) = (Int32.ofNat ((jSL.getD (l1 - (jX + 10)) []).getD l4.toNatClampNeg 0))) (p2 := ¬ ((jI S (jr S l0 0) (l2 + l4).toNatClampNeg) = (Int32.ofNat ((jSL.getD (l1 - (jX + 10)) []).getD l4.toNatClampNeg 0)))) (c1 := (32, [some (.ref l0), some (.ref l1), some (.int l2), none, some (.int l4)], [], S, 0, 0)) (c2 := (30, [some (.ref l0), some (.ref l1), some (.int l2), none, some (.int l4)], [], S, 0, 0)) rfl trivial (fun hz => ?_) (fun hz => ?_)
    · have h := h.1 hz
      refine jLf.bk hc 1 [] [some (.ref l0), some (.ref l1), some (.int l2), none, some (.int (l4 + 1))] [] S rfl rfl rfl trivial ?_
      generalize ex6 : (l4 + 1 : Int32) = x6
      have h := h x6 ex6.symm
      refine jLf.one hc _ rfl (gs := []) (c := (16, [some (.ref l0), some (.ref l1), some (.int l2), none, some (.int x6)], [], S, 0, 0)) rfl trivial ?_
      exact hX16 _ _ _ _ _ h
    · have h := h.2 hz
      refine jLf.bk hc 1 [] [some (.ref l0), some (.ref l1), some (.int l2), none, some (.int l4)] [.int 0] S rfl rfl rfl trivial ?_
      exact jLf.ret hc _ rfl (gs := [jbit 0]) (v := some (.int 0)) rfl (Or.inl rfl) ⟨_, rfl, h⟩
def wX5_isWord_16   (l0 : Nat) (l1 : Nat) (l2 : Int32) (l4 : Int32) (S : JS) (Q : Int32 → JS → Prop) : Prop :=
  jLoop (fun (X16 : Nat × Nat × Int32 × Int32 × JS → Prop) q => bX5_isWord_16 (fun l0 l1 l2 l4 S => X16 (l0, l1, l2, l4, S)) q.1 q.2.1 q.2.2.1 q.2.2.2.1 q.2.2.2.2 Q) (l0, l1, l2, l4, S)
set_option maxRecDepth 20000 in
theorem tX5_isWord_16 {Q : Int32 → JS → Prop}  (d : Nat) (hd : 0 ≤ d) {l0 : Nat} {l1 : Nat} {l2 : Int32} {l4 : Int32} {S : JS} (h : wX5_isWord_16 l0 l1 l2 l4 S Q) : jLf (jCall jmt jbud d) jbud (fun j => (jmt j).rk) none mX5_isWord (jqI Q) (16, [some (.ref l0), some (.ref l1), some (.int l2), none, some (.int l4)], [], S, 0, 0) := by
  have := h (fun q : Nat × Nat × Int32 × Int32 × JS => jLf (jCall jmt jbud d) jbud (fun j => (jmt j).rk) none mX5_isWord (jqI Q) (16, [some (.ref (q.1)), some (.ref (q.2.1)), some (.int (q.2.2.1)), none, some (.int (q.2.2.2.1))], [], q.2.2.2.2, 0, 0)) (fun q R hb hR => uX5_isWord_16 d hd  (fun _ _ _ _ _ => hR _) hb)
  exact this
def wX5_isWord  (this : Nat) (p1 : Nat) (p2 : Int32) (p3 : Int32) (S : JS) (Q : Int32 → JS → Prop) : Prop :=
  (p2 < 0 → Q 0 S) ∧ (¬ (p2 < 0) → jA S this 5 ∧ (((jI S this 1) < p3 → Q 0 S) ∧ (¬ ((jI S this 1) < p3) → jX + 10 ≤ p1 ∧ (p1 < jX + 23 ∧ (((p3 - p2) = (Int32.ofNat (jSL.getD (p1 - (jX + 10)) []).length) → wX5_isWord_16 this p1 p2 0 S Q) ∧ (¬ (p3 - p2) = (Int32.ofNat (jSL.getD (p1 - (jX + 10)) []).length) → Q 0 S))))))
set_option maxRecDepth 20000 in
theorem vX5_isWord {Q : Int32 → JS → Prop} (d : Nat) (hd : 1 ≤ d) {this : Nat} {p1 : Nat} {p2 : Int32} {p3 : Int32} {S : JS} (h : wX5_isWord this p1 p2 p3 S Q) : jCall jmt jbud d 54 [.ref this, .ref p1, .int p2, .int p3] S (jqI Q) := by
  obtain ⟨d, rfl⟩ : ∃ d2, d = d2 + 1 := ⟨d - 1, by omega⟩
  have hd : 0 ≤ d := by omega
  have hc := jCall_mono jmt jbud d
  unfold wX5_isWord at h
  refine ⟨Nat.le_of_ble_eq_true rfl, ?_⟩
  show jLf (jCall jmt jbud d) jbud (fun j => (jmt j).rk) none mX5_isWord (jqI Q) (0, [some (.ref this), some (.ref p1), some (.int p2), some (.int p3), none], [], S, 0, 0)
  refine jLf.bk hc 1 [] [some (.ref this), some (.ref p1), some (.int p2), some (.int p3), none] [.int p2] S rfl rfl rfl trivial ?_
  refine jLf.two hc _ rfl (gs := []) (p1 := p2 < 0) (p2 := ¬ (p2 < 0)) (c1 := (12, [some (.ref this), some (.ref p1), some (.int p2), some (.int p3), none], [], S, 0, 0)) (c2 := (2, [some (.ref this), some (.ref p1), some (.int p2), some (.int p3), none], [], S, 0, 0)) rfl trivial (fun hz => ?_) (fun hz => ?_)
  · have h := h.1 hz
    refine jLf.bk hc 1 [] [some (.ref this), some (.ref p1), some (.int p2), some (.int p3), none] [.int 0] S rfl rfl rfl trivial ?_
    exact jLf.ret hc _ rfl (gs := [jbit 0]) (v := some (.int 0)) rfl (Or.inl rfl) ⟨_, rfl, h⟩
  · have h := h.2 hz
    obtain ⟨g1, h⟩ := h
    refine jLf.bk hc 3 [jA S this 5] [some (.ref this), some (.ref p1), some (.int p2), some (.int p3), none] [.int (jI S this 1), .int p3] S rfl rfl rfl g1 ?_
    refine jLf.two hc _ rfl (gs := []) (p1 := (jI S this 1) < p3) (p2 := ¬ ((jI S this 1) < p3)) (c1 := (12, [some (.ref this), some (.ref p1), some (.int p2), some (.int p3), none], [], S, 0, 0)) (c2 := (6, [some (.ref this), some (.ref p1), some (.int p2), some (.int p3), none], [], S, 0, 0)) rfl trivial (fun hz => ?_) (fun hz => ?_)
    · have h := h.1 hz
      refine jLf.bk hc 1 [] [some (.ref this), some (.ref p1), some (.int p2), some (.int p3), none] [.int 0] S rfl rfl rfl trivial ?_
      exact jLf.ret hc _ rfl (gs := [jbit 0]) (v := some (.int 0)) rfl (Or.inl rfl) ⟨_, rfl, h⟩
    · have h := h.2 hz
      refine jLf.bk hc 4 [] [some (.ref this), some (.ref p1), some (.int p2), some (.int p3), none] [.ref p1, .int (p3 - p2)] S rfl rfl rfl trivial ?_
      obtain ⟨ga, gb, h⟩ := h
      refine jLf.one hc _ rfl (gs := [jX + 10 ≤ p1, p1 < jX + 23, (([.int (p3 - p2)] : List Value).map fun v => v.category).sum ≤ 8]) (c := (11, [some (.ref this), some (.ref p1), some (.int p2), some (.int p3), none], [.int (Int32.ofNat (jSL.getD (p1 - (jX + 10)) []).length), .int (p3 - p2)], S, 0, 0)) rfl ⟨ga, gb, Nat.le_of_ble_eq_true rfl⟩ ?_
      refine jLf.two hc _ rfl (gs := []) (p1 := (p3 - p2) = (Int32.ofNat (jSL.getD (p1 - (jX + 10)) []).length)) (p2 := ¬ ((p3 - p2) = (Int32.ofNat (jSL.getD (p1 - (jX + 10)) []).length))) (c1 := (14, [some (.ref this), some (.ref p1), some (.int p2), some (.int p3), none], [], S, 0, 0)) (c2 := (12, [some (.ref this), some (.ref p1), some (.int p2), some (.int p3), none], [], S, 0, 0)) rfl trivial (fun hz => ?_) (fun hz => ?_)
      · have h := h.1 hz
        refine jLf.bk hc 2 [] [some (.ref this), some (.ref p1), some (.int p2), some (.int p3), some (.int 0)] [] S rfl rfl rfl trivial ?_
        refine jLf.sub [some (.ref this), some (.ref p1), some (.int p2), none, some (.int 0)] (jle_same (jle_same (jle_same (jle_none (jle_same (jle_nil _)))))) ?_
        exact tX5_isWord_16 d hd  h
      · have h := h.2 hz
        refine jLf.bk hc 1 [] [some (.ref this), some (.ref p1), some (.int p2), some (.int p3), none] [.int 0] S rfl rfl rfl trivial ?_
        exact jLf.ret hc _ rfl (gs := [jbit 0]) (v := some (.int 0)) rfl (Or.inl rfl) ⟨_, rfl, h⟩
def wX5_signOfPart  (this : Nat) (p1 : Int32) (p2 : Int32) (S : JS) (Q : Int32 → JS → Prop) : Prop :=
  jA S this 5 ∧ (wX5_isWord this (jX + 10 + 7) p1 p2 S (fun r2 S1 => (r2 = 0 → jA S1 this 5 ∧ (wX5_isWord this (jX + 10 + 8) p1 p2 S1 (fun r5 S4 => (r5 = 0 → jA S4 this 5 ∧ (wX5_isWord this (jX + 10 + 9) p1 p2 S4 (fun r8 S7 => (r8 = 0 → jA S7 this 5 ∧ (wX5_isWord this (jX + 10 + 10) p1 p2 S7 (fun r11 S10 => (r11 = 0 → jA S10 this 5 ∧ (wX5_isWord this (jX + 10 + 11) p1 p2 S10 (fun r14 S13 => (r14 = 0 → jA S13 this 5 ∧ (wX5_isWord this (jX + 10 + 12) p1 p2 S13 (fun r17 S16 => (r17 = 0 → Q 27 S16) ∧ (¬ r17 = 0 → Q 6 S16)))) ∧ (¬ r14 = 0 → Q 5 S13)))) ∧ (¬ r11 = 0 → Q 4 S10)))) ∧ (¬ r8 = 0 → Q 3 S7)))) ∧ (¬ r5 = 0 → Q 2 S4)))) ∧ (¬ r2 = 0 → Q 1 S1)))
set_option maxRecDepth 20000 in
theorem vX5_signOfPart {Q : Int32 → JS → Prop} (d : Nat) (hd : 2 ≤ d) {this : Nat} {p1 : Int32} {p2 : Int32} {S : JS} (h : wX5_signOfPart this p1 p2 S Q) : jCall jmt jbud d 53 [.ref this, .int p1, .int p2] S (jqI Q) := by
  obtain ⟨d, rfl⟩ : ∃ d2, d = d2 + 1 := ⟨d - 1, by omega⟩
  have hd : 1 ≤ d := by omega
  have hc := jCall_mono jmt jbud d
  unfold wX5_signOfPart at h
  refine ⟨Nat.le_of_ble_eq_true rfl, ?_⟩
  show jLf (jCall jmt jbud d) jbud (fun j => (jmt j).rk) none mX5_signOfPart (jqI Q) (0, [some (.ref this), some (.int p1), some (.int p2)], [], S, 0, 0)
  refine jLf.bk hc 4 [] [some (.ref this), some (.int p1), some (.int p2)] [.int p2, .int p1, .ref (jX + 10 + 7), .ref this] S rfl rfl rfl trivial ?_
  obtain ⟨g3, h⟩ := h
  refine jLf.inv hc _ rfl (gs := [jA S this 5, (([] : List Value).map fun v => v.category).sum ≤ 8, 0 ≤ 0, 0 ≤ 0]) (k := 54) (args := [.ref this, .ref (jX + 10 + 7), .int p1, .int p2]) (r := []) (a := 0) (b := 0) rfl ⟨g3, Nat.le_of_ble_eq_true rfl, Nat.zero_le _, Nat.zero_le _⟩ (vX5_isWord d (by omega) h) ?_
  rintro v S1 ⟨r2, rfl, h⟩
  show jLf (jCall jmt jbud d) jbud (fun j => (jmt j).rk) none mX5_signOfPart (jqI Q) (5, [some (.ref this), some (.int p1), some (.int p2)], [.int r2], S1, 0, 0)
  refine jLf.two hc _ rfl (gs := []) (p1 := r2 = 0) (p2 := ¬ (r2 = 0)) (c1 := (8, [some (.ref this), some (.int p1), some (.int p2)], [], S1, 0, 0)) (c2 := (6, [some (.ref this), some (.int p1), some (.int p2)], [], S1, 0, 0)) rfl trivial (fun hz => ?_) (fun hz => ?_)
  · have h := h.1 hz
    refine jLf.bk hc 4 [] [some (.ref this), some (.int p1), some (.int p2)] [.int p2, .int p1, .ref (jX + 10 + 8), .ref this] S1 rfl rfl rfl trivial ?_
    obtain ⟨g6, h⟩ := h
    refine jLf.inv hc _ rfl (gs := [jA S1 this 5, (([] : List Value).map fun v => v.category).sum ≤ 8, 0 ≤ 0, 0 ≤ 0]) (k := 54) (args := [.ref this, .ref (jX + 10 + 8), .int p1, .int p2]) (r := []) (a := 0) (b := 0) rfl ⟨g6, Nat.le_of_ble_eq_true rfl, Nat.zero_le _, Nat.zero_le _⟩ (vX5_isWord d (by omega) h) ?_
    rintro v S4 ⟨r5, rfl, h⟩
    show jLf (jCall jmt jbud d) jbud (fun j => (jmt j).rk) none mX5_signOfPart (jqI Q) (13, [some (.ref this), some (.int p1), some (.int p2)], [.int r5], S4, 0, 0)
    refine jLf.two hc _ rfl (gs := []) (p1 := r5 = 0) (p2 := ¬ (r5 = 0)) (c1 := (16, [some (.ref this), some (.int p1), some (.int p2)], [], S4, 0, 0)) (c2 := (14, [some (.ref this), some (.int p1), some (.int p2)], [], S4, 0, 0)) rfl trivial (fun hz => ?_) (fun hz => ?_)
    · have h := h.1 hz
      refine jLf.bk hc 4 [] [some (.ref this), some (.int p1), some (.int p2)] [.int p2, .int p1, .ref (jX + 10 + 9), .ref this] S4 rfl rfl rfl trivial ?_
      obtain ⟨g9, h⟩ := h
      refine jLf.inv hc _ rfl (gs := [jA S4 this 5, (([] : List Value).map fun v => v.category).sum ≤ 8, 0 ≤ 0, 0 ≤ 0]) (k := 54) (args := [.ref this, .ref (jX + 10 + 9), .int p1, .int p2]) (r := []) (a := 0) (b := 0) rfl ⟨g9, Nat.le_of_ble_eq_true rfl, Nat.zero_le _, Nat.zero_le _⟩ (vX5_isWord d (by omega) h) ?_
      rintro v S7 ⟨r8, rfl, h⟩
      show jLf (jCall jmt jbud d) jbud (fun j => (jmt j).rk) none mX5_signOfPart (jqI Q) (21, [some (.ref this), some (.int p1), some (.int p2)], [.int r8], S7, 0, 0)
      refine jLf.two hc _ rfl (gs := []) (p1 := r8 = 0) (p2 := ¬ (r8 = 0)) (c1 := (24, [some (.ref this), some (.int p1), some (.int p2)], [], S7, 0, 0)) (c2 := (22, [some (.ref this), some (.int p1), some (.int p2)], [], S7, 0, 0)) rfl trivial (fun hz => ?_) (fun hz => ?_)
      · have h := h.1 hz
        refine jLf.bk hc 4 [] [some (.ref this), some (.int p1), some (.int p2)] [.int p2, .int p1, .ref (jX + 10 + 10), .ref this] S7 rfl rfl rfl trivial ?_
        obtain ⟨g12, h⟩ := h
        refine jLf.inv hc _ rfl (gs := [jA S7 this 5, (([] : List Value).map fun v => v.category).sum ≤ 8, 0 ≤ 0, 0 ≤ 0]) (k := 54) (args := [.ref this, .ref (jX + 10 + 10), .int p1, .int p2]) (r := []) (a := 0) (b := 0) rfl ⟨g12, Nat.le_of_ble_eq_true rfl, Nat.zero_le _, Nat.zero_le _⟩ (vX5_isWord d (by omega) h) ?_
        rintro v S10 ⟨r11, rfl, h⟩
        show jLf (jCall jmt jbud d) jbud (fun j => (jmt j).rk) none mX5_signOfPart (jqI Q) (29, [some (.ref this), some (.int p1), some (.int p2)], [.int r11], S10, 0, 0)
        refine jLf.two hc _ rfl (gs := []) (p1 := r11 = 0) (p2 := ¬ (r11 = 0)) (c1 := (32, [some (.ref this), some (.int p1), some (.int p2)], [], S10, 0, 0)) (c2 := (30, [some (.ref this), some (.int p1), some (.int p2)], [], S10, 0, 0)) rfl trivial (fun hz => ?_) (fun hz => ?_)
        · have h := h.1 hz
          refine jLf.bk hc 4 [] [some (.ref this), some (.int p1), some (.int p2)] [.int p2, .int p1, .ref (jX + 10 + 11), .ref this] S10 rfl rfl rfl trivial ?_
          obtain ⟨g15, h⟩ := h
          refine jLf.inv hc _ rfl (gs := [jA S10 this 5, (([] : List Value).map fun v => v.category).sum ≤ 8, 0 ≤ 0, 0 ≤ 0]) (k := 54) (args := [.ref this, .ref (jX + 10 + 11), .int p1, .int p2]) (r := []) (a := 0) (b := 0) rfl ⟨g15, Nat.le_of_ble_eq_true rfl, Nat.zero_le _, Nat.zero_le _⟩ (vX5_isWord d (by omega) h) ?_
          rintro v S13 ⟨r14, rfl, h⟩
          show jLf (jCall jmt jbud d) jbud (fun j => (jmt j).rk) none mX5_signOfPart (jqI Q) (37, [some (.ref this), some (.int p1), some (.int p2)], [.int r14], S13, 0, 0)
          refine jLf.two hc _ rfl (gs := []) (p1 := r14 = 0) (p2 := ¬ (r14 = 0)) (c1 := (40, [some (.ref this), some (.int p1), some (.int p2)], [], S13, 0, 0)) (c2 := (38, [some (.ref this), some (.int p1), some (.int p2)], [], S13, 0, 0)) rfl trivial (fun hz => ?_) (fun hz => ?_)
          · have h := h.1 hz
            refine jLf.bk hc 4 [] [some (.ref this), some (.int p1), some (.int p2)] [.int p2, .int p1, .ref (jX + 10 + 12), .ref this] S13 rfl rfl rfl trivial ?_
            obtain ⟨g18, h⟩ := h
            refine jLf.inv hc _ rfl (gs := [jA S13 this 5, (([] : List Value).map fun v => v.category).sum ≤ 8, 0 ≤ 0, 0 ≤ 0]) (k := 54) (args := [.ref this, .ref (jX + 10 + 12), .int p1, .int p2]) (r := []) (a := 0) (b := 0) rfl ⟨g18, Nat.le_of_ble_eq_true rfl, Nat.zero_le _, Nat.zero_le _⟩ (vX5_isWord d (by omega) h) ?_
            rintro v S16 ⟨r17, rfl, h⟩
            show jLf (jCall jmt jbud d) jbud (fun j => (jmt j).rk) none mX5_signOfPart (jqI Q) (45, [some (.ref this), some (.int p1), some (.int p2)], [.int r17], S16, 0, 0)
            refine jLf.two hc _ rfl (gs := []) (p1 := r17 = 0) (p2 := ¬ (r17 = 0)) (c1 := (48, [some (.ref this), some (.int p1), some (.int p2)], [], S16, 0, 0)) (c2 := (46, [some (.ref this), some (.int p1), some (.int p2)], [], S16, 0, 0)) rfl trivial (fun hz => ?_) (fun hz => ?_)
            · have h := h.1 hz
              refine jLf.bk hc 1 [] [some (.ref this), some (.int p1), some (.int p2)] [.int 27] S16 rfl rfl rfl trivial ?_
              exact jLf.ret hc _ rfl (gs := [True]) (v := some (.int 27)) rfl trivial ⟨27, rfl, h⟩
            · have h := h.2 hz
              refine jLf.bk hc 1 [] [some (.ref this), some (.int p1), some (.int p2)] [.int 6] S16 rfl rfl rfl trivial ?_
              refine jLf.one hc _ rfl (gs := []) (c := (49, [some (.ref this), some (.int p1), some (.int p2)], [.int 6], S16, 0, 0)) rfl trivial ?_
              exact jLf.ret hc _ rfl (gs := [True]) (v := some (.int 6)) rfl trivial ⟨6, rfl, h⟩
          · have h := h.2 hz
            refine jLf.bk hc 1 [] [some (.ref this), some (.int p1), some (.int p2)] [.int 5] S13 rfl rfl rfl trivial ?_
            exact jLf.ret hc _ rfl (gs := [True]) (v := some (.int 5)) rfl trivial ⟨5, rfl, h⟩
        · have h := h.2 hz
          refine jLf.bk hc 1 [] [some (.ref this), some (.int p1), some (.int p2)] [.int 4] S10 rfl rfl rfl trivial ?_
          exact jLf.ret hc _ rfl (gs := [True]) (v := some (.int 4)) rfl trivial ⟨4, rfl, h⟩
      · have h := h.2 hz
        refine jLf.bk hc 1 [] [some (.ref this), some (.int p1), some (.int p2)] [.int 3] S7 rfl rfl rfl trivial ?_
        exact jLf.ret hc _ rfl (gs := [True]) (v := some (.int 3)) rfl trivial ⟨3, rfl, h⟩
    · have h := h.2 hz
      refine jLf.bk hc 1 [] [some (.ref this), some (.int p1), some (.int p2)] [.int 2] S4 rfl rfl rfl trivial ?_
      exact jLf.ret hc _ rfl (gs := [True]) (v := some (.int 2)) rfl trivial ⟨2, rfl, h⟩
  · have h := h.2 hz
    refine jLf.bk hc 1 [] [some (.ref this), some (.int p1), some (.int p2)] [.int 1] S1 rfl rfl rfl trivial ?_
    exact jLf.ret hc _ rfl (gs := [True]) (v := some (.int 1)) rfl trivial ⟨1, rfl, h⟩
