/-! weakest preconditions, by program: X7_bestSteps X7_followLikely X7_lowestOf X7_followFirst X7_solve X7_lyingReports X8_init X8_isFull X8_has X8_put X8_drop X8_become X9_init X9_glassRock X9_setStorm X9_beginAnew X9_become X10_init X10_draw X10_nextRock X10_pass J6_bitCount_0f7a4 X10_rocksHad X11_init X11_refuse X11_accept X11_termNow X11_mostOfTerm X11_terms X11_isNight X11_isBit X11_storm X11_wed -/
def wX7_bestSteps_46  (X23 : Nat → Int32 → Int32 → Int32 → Int32 → Int32 → JS → Prop) (l0 : Nat) (l3 : Int32) (l4 : Int32) (l5 : Int32) (l6 : Int32) (l7 : Int32) (S : JS) (Q : Int32 → JS → Prop) : Prop :=
  ∀ x19 : Int32, x19 = (l7 + 1) → (X23 l0 l3 l4 l5 l6 x19 S)
set_option maxRecDepth 20000 in
theorem tX7_bestSteps_46 {Q : Int32 → JS → Prop} {X23 : Nat → Int32 → Int32 → Int32 → Int32 → Int32 → JS → Prop} (d : Nat) (hd : 2 ≤ d) (hX23 : ∀ l0 l3 l4 l5 l6 l7 S, X23 l0 l3 l4 l5 l6 l7 S → jLf (jCall jmt jbud d) jbud (fun j => (jmt j).rk) none mX7_bestSteps (jqI Q) (23, [some (.ref l0), none, none, some (.int l3), some (.int l4), some (.int l5), some (.int l6), some (.int l7)], [], S, 0, 0)) {l0 : Nat} {l3 : Int32} {l4 : Int32} {l5 : Int32} {l6 : Int32} {l7 : Int32} {S : JS} (h : wX7_bestSteps_46 X23 l0 l3 l4 l5 l6 l7 S Q) : jLf (jCall jmt jbud d) jbud (fun j => (jmt j).rk) none mX7_bestSteps (jqI Q) (46, [some (.ref l0), none, none, some (.int l3), some (.int l4), some (.int l5), some (.int l6), some (.int l7)], [], S, 0, 0) := by
  have hc := jCall_mono jmt jbud d
  unfold wX7_bestSteps_46 at h
  refine jLf.bk hc 1 [] [some (.ref l0), none, none, some (.int l3), some (.int l4), some (.int l5), some (.int l6), some (.int (l7 + 1))] [] S rfl rfl rfl trivial ?_
  generalize ex19 : (l7 + 1 : Int32) = x19
  have h := h x19 ex19.symm
  refine jLf.one hc _ rfl (gs := []) (c := (23, [some (.ref l0), none, none, some (.int l3), some (.int l4), some (.int l5), some (.int l6), some (.int x19)], [], S, 0, 0)) rfl trivial ?_
  exact hX23 _ _ _ _ _ _ _ h
def bX7_bestSteps_23   (X23 : Nat → Int32 → Int32 → Int32 → Int32 → Int32 → JS → Prop) (l0 : Nat) (l3 : Int32) (l4 : Int32) (l5 : Int32) (l6 : Int32) (l7 : Int32) (S : JS) (Q : Int32 → JS → Prop) : Prop :=
  (9 ≤ l7 → Q l6 S) ∧ (¬ (9 ≤ l7) → wX11_hasBit l4 l7 S (fun r18 S17 => (r18 = 0 → wX7_bestSteps_46 X23 l0 l3 l4 l5 l6 l7 S17 Q) ∧ (¬ r18 = 0 → jA S17 l0 7 ∧ (¬ jR S17 l0 1 = none ∧ (wX11_placeOf l7 (l3 + (1 : Int32)) S17 (fun r23 S22 => jA S22 (jr S17 l0 1) 13 ∧ (vp_in r23 (jZ S22 (jr S17 l0 1)) ∧ ((¬ (jI S22 (jr S17 l0 1) r23.toNatClampNeg) = l5 → wX7_bestSteps_46 X23 l0 l3 l4 l5 l6 l7 S22 Q) ∧ ((jI S22 (jr S17 l0 1) r23.toNatClampNeg) = l5 → ∀ x26 : Int32, x26 = (l6 ||| ((1 : Int32) <<< (l7 &&& 31))) → (wX7_bestSteps_46 X23 l0 l3 l4 l5 x26 l7 S22 Q))))))))))
set_option maxRecDepth 20000 in
theorem uX7_bestSteps_23 {Q : Int32 → JS → Prop}  (d : Nat) (hd : 2 ≤ d) {X23 : Nat → Int32 → Int32 → Int32 → Int32 → Int32 → JS → Prop} (hX23 : ∀ l0 l3 l4 l5 l6 l7 S, X23 l0 l3 l4 l5 l6 l7 S → jLf (jCall jmt jbud d) jbud (fun j => (jmt j).rk) none mX7_bestSteps (jqI Q) (23, [some (.ref l0), none, none, some (.int l3), some (.int l4), some (.int l5), some (.int l6), some (.int l7)], [], S, 0, 0)) {l0 : Nat} {l3 : Int32} {l4 : Int32} {l5 : Int32} {l6 : Int32} {l7 : Int32} {S : JS} (h : bX7_bestSteps_23 X23 l0 l3 l4 l5 l6 l7 S Q) : jLf (jCall jmt jbud d) jbud (fun j => (jmt j).rk) none mX7_bestSteps (jqI Q) (23, [some (.ref l0), none, none, some (.int l3), some (.int l4), some (.int l5), some (.int l6), some (.int l7)], [], S, 0, 0) := by
  have hc := jCall_mono jmt jbud d
  unfold bX7_bestSteps_23 at h
  refine jLf.bk hc 2 [] [some (.ref l0), none, none, some (.int l3), some (.int l4), some (.int l5), some (.int l6), some (.int l7)] [.int 9, .int l7] S rfl rfl rfl trivial ?_
  refine jLf.two hc _ rfl (gs := []) (p1 := 9 ≤ l7) (p2 := ¬ (9 ≤ l7)) (c1 := (48, [some (.ref l0), none, none, some (.int l3), some (.int l4), some (.int l5), some (.int l6), some (.int l7)], [], S, 0, 0)) (c2 := (26, [some (.ref l0), none, none, some (.int l3), some (.int l4), some (.int l5), some (.int l6), some (.int l7)], [], S, 0, 0)) rfl trivial (fun hz => ?_) (fun hz => ?_)
  · have h := h.1 hz
    refine jLf.bk hc 1 [] [some (.ref l0), none, none, some (.int l3), some (.int l4), some (.int l5), some (.int l6), some (.int l7)] [.int l6] S rfl rfl rfl trivial ?_
    exact jLf.ret hc _ rfl (gs := [True]) (v := some (.int l6)) rfl trivial ⟨l6, rfl, h⟩
  · have h := h.2 hz
    refine jLf.bk hc 2 [] [some (.ref l0), none, none, some (.int l3), some (.int l4), some (.int l5), some (.int l6), some (.int l7)] [.int l7, .int l4] S rfl rfl rfl trivial ?_
    refine jLf.inv hc _ rfl (gs := [2 ≤ ([.int l7, .int l4] : List Value).length, (([] : List Value).map fun v => v.category).sum ≤ 8, 0 ≤ 0, 0 ≤ 0]) (k := 145) (args := [.int l4, .int l7]) (r := []) (a := 0) (b := 0) rfl ⟨Nat.le_of_ble_eq_true rfl, Nat.le_of_ble_eq_true rfl, Nat.zero_le _, Nat.zero_le _⟩ (vX11_hasBit d (by omega) h) ?_
    rintro v S17 ⟨r18, rfl, h⟩
    show jLf (jCall jmt jbud d) jbud (fun j => (jmt j).rk) none mX7_bestSteps (jqI Q) (29, [some (.ref l0), none, none, some (.int l3), some (.int l4), some (.int l5), some (.int l6), some (.int l7)], [.int r18], S17, 0, 0)
    refine jLf.two hc _ rfl (gs := []) (p1 := r18 = 0) (p2 := ¬ (r18 = 0)) (c1 := (46, [some (.ref l0), none, none, some (.int l3), some (.int l4), some (.int l5), some (.int l6), some (.int l7)], [], S17, 0, 0)) (c2 := (30, [some (.ref l0), none, none, some (.int l3), some (.int l4), some (.int l5), some (.int l6), some (.int l7)], [], S17, 0, 0)) rfl trivial (fun hz => ?_) (fun hz => ?_)
    · have h := h.1 hz
      exact tX7_bestSteps_46 d hd hX23 h
    · have h := h.2 hz
      obtain ⟨g20, g21, h⟩ := h
      refine jLf.bk hc 6 [jA S17 l0 7, ¬ jR S17 l0 1 = none] [some (.ref l0), none, none, some (.int l3), some (.int l4), some (.int l5), some (.int l6), some (.int l7)] [.int (l3 + (1 : Int32)), .int l7, .ref (jr S17 l0 1)] S17 rfl rfl rfl ⟨g20, g21⟩ ?_
      refine jLf.inv hc _ rfl (gs := [2 ≤ ([.int (l3 + (1 : Int32)), .int l7, .ref (jr S17 l0 1)] : List Value).length, (([.ref (jr S17 l0 1)] : List Value).map fun v => v.category).sum ≤ 8, 0 ≤ 0, 0 ≤ 0]) (k := 146) (args := [.int l7, .int (l3 + (1 : Int32))]) (r := [.ref (jr S17 l0 1)]) (a := 0) (b := 0) rfl ⟨Nat.le_of_ble_eq_true rfl, Nat.le_of_ble_eq_true rfl, Nat.zero_le _, Nat.zero_le _⟩ (vX11_placeOf d (by omega) h) ?_
      rintro v S22 ⟨r23, rfl, h⟩
      show jLf (jCall jmt jbud d) jbud (fun j => (jmt j).rk) none mX7_bestSteps (jqI Q) (37, [some (.ref l0), none, none, some (.int l3), some (.int l4), some (.int l5), some (.int l6), some (.int l7)], [.int r23, .ref (jr S17 l0 1)], S22, 0, 0)
      obtain ⟨g24, g25, h⟩ := h
      refine jLf.bk hc 2 [jA S22 (jr S17 l0 1) 13, vp_in r23 (jZ S22 (jr S17 l0 1))] [some (.ref l0), none, none, some (.int l3), some (.int l4), some (.int l5), some (.int l6), some (.int l7)] [.int l5, .int (jI S22 (jr S17 l0 1) r23.toNatClampNeg)] S22 rfl rfl rfl ⟨g24, g25⟩ ?_
      refine jLf.two hc _ rfl (gs := []) (p1 := ¬ (jI S22 (jr S17 l0 1) r23.toNatClampNeg) = l5) (p2 := ¬ (¬ (jI S22 (jr S17 l0 1) r23.toNatClampNeg) = l5)) (c1 := (46, [some (.ref l0), none, none, some (.int l3), some (.int l4), some (.int l5), some (.int l6), some (.int l7)], [], S22, 0, 0)) (c2 := (40, [some (.ref l0), none, none, some (.int l3), some (.int l4), some (.int l5), some (.int l6), some (.int l7)], [], S22, 0, 0)) rfl trivial (fun hz => ?_) (fun hz => ?_)
      · have h := h.1 hz
        exact tX7_bestSteps_46 d hd hX23 h
      · have h := h.2 (Classical.not_not.mp hz)
        refine jLf.bk hc 6 [] [some (.ref l0), none, none, some (.int l3), some (.int l4), some (.int l5), some (.int (l6 ||| ((1 : Int32) <<< (l7 &&& 31)))), some (.int l7)] [] S22 rfl rfl rfl trivial ?_
        generalize ex26 : (l6 ||| ((1 : Int32) <<< (l7 &&& 31)) : Int32) = x26
        have h := h x26 ex26.symm
        exact tX7_bestSteps_46 d hd hX23 h
def wX7_bestSteps_23   (l0 : Nat) (l3 : Int32) (l4 : Int32) (l5 : Int32) (l6 : Int32) (l7 : Int32) (S : JS) (Q : Int32 → JS → Prop) : Prop :=
  jLoop (fun (X23 : Nat × Int32 × Int32 × Int32 × Int32 × Int32 × JS → Prop) q => bX7_bestSteps_23 (fun l0 l3 l4 l5 l6 l7 S => X23 (l0, l3, l4, l5, l6, l7, S)) q.1 q.2.1 q.2.2.1 q.2.2.2.1 q.2.2.2.2.1 q.2.2.2.2.2.1 q.2.2.2.2.2.2 Q) (l0, l3, l4, l5, l6, l7, S)
set_option maxRecDepth 20000 in
theorem tX7_bestSteps_23 {Q : Int32 → JS → Prop}  (d : Nat) (hd : 2 ≤ d) {l0 : Nat} {l3 : Int32} {l4 : Int32} {l5 : Int32} {l6 : Int32} {l7 : Int32} {S : JS} (h : wX7_bestSteps_23 l0 l3 l4 l5 l6 l7 S Q) : jLf (jCall jmt jbud d) jbud (fun j => (jmt j).rk) none mX7_bestSteps (jqI Q) (23, [some (.ref l0), none, none, some (.int l3), some (.int l4), some (.int l5), some (.int l6), some (.int l7)], [], S, 0, 0) := by
  have := h (fun q : Nat × Int32 × Int32 × Int32 × Int32 × Int32 × JS => jLf (jCall jmt jbud d) jbud (fun j => (jmt j).rk) none mX7_bestSteps (jqI Q) (23, [some (.ref (q.1)), none, none, some (.int (q.2.1)), some (.int (q.2.2.1)), some (.int (q.2.2.2.1)), some (.int (q.2.2.2.2.1)), some (.int (q.2.2.2.2.2.1))], [], q.2.2.2.2.2.2, 0, 0)) (fun q R hb hR => uX7_bestSteps_23 d hd  (fun _ _ _ _ _ _ _ => hR _) hb)
  exact this
def wX7_bestSteps  (this : Nat) (p1 : Nat) (p2 : Int32) (p3 : Int32) (S : JS) (Q : Int32 → JS → Prop) : Prop :=
  jA S p1 1 ∧ (wX1_steps p1 p2 p3 S (fun r2 S1 => jA S1 this 7 ∧ (¬ jR S1 this 1 = none ∧ (wX11_placeOf p2 p3 S1 (fun r7 S6 => jA S6 (jr S1 this 1) 13 ∧ (vp_in r7 (jZ S6 (jr S1 this 1)) ∧ (jA S6 this 7 ∧ (¬ jR S6 this 0 = none ∧ (wX11_placeOf p2 p3 S6 (fun r13 S12 => jA S12 (jr S6 this 0) 13 ∧ (vp_in r13 (jZ S12 (jr S6 this 0)) ∧ (∀ x16 : Int32, x16 = ((jI S6 (jr S1 this 1) r7.toNatClampNeg) - (jI S12 (jr S6 this 0) r13.toNatClampNeg)) → (wX7_bestSteps_23 this p3 r2 x16 0 0 S12 Q)))))))))))))
set_option maxRecDepth 20000 in
theorem vX7_bestSteps {Q : Int32 → JS → Prop} (d : Nat) (hd : 3 ≤ d) {this : Nat} {p1 : Nat} {p2 : Int32} {p3 : Int32} {S : JS} (h : wX7_bestSteps this p1 p2 p3 S Q) : jCall jmt jbud d 77 [.ref this, .ref p1, .int p2, .int p3] S (jqI Q) := by
  obtain ⟨d, rfl⟩ : ∃ d2, d = d2 + 1 := ⟨d - 1, by omega⟩
  have hd : 2 ≤ d := by omega
  have hc := jCall_mono jmt jbud d
  unfold wX7_bestSteps at h
  refine ⟨Nat.le_of_ble_eq_true rfl, ?_⟩
  show jLf (jCall jmt jbud d) jbud (fun j => (jmt j).rk) none mX7_bestSteps (jqI Q) (0, [some (.ref this), some (.ref p1), some (.int p2), some (.int p3), none, none, none, none], [], S, 0, 0)
  refine jLf.bk hc 3 [] [some (.ref this), some (.ref p1), some (.int p2), some (.int p3), none, none, none, none] [.int p3, .int p2, .ref p1] S rfl rfl rfl trivial ?_
  obtain ⟨g3, h⟩ := h
  refine jLf.inv hc _ rfl (gs := [jA S p1 1, (([] : List Value).map fun v => v.category).sum ≤ 8, 0 ≤ 0, 0 ≤ 0]) (k := 15) (args := [.ref p1, .int p2, .int p3]) (r := []) (a := 0) (b := 0) rfl ⟨g3, Nat.le_of_ble_eq_true rfl, Nat.zero_le _, Nat.zero_le _⟩ (vX1_steps d (by omega) h) ?_
  rintro v S1 ⟨r2, rfl, h⟩
  show jLf (jCall jmt jbud d) jbud (fun j => (jmt j).rk) none mX7_bestSteps (jqI Q) (4, [some (.ref this), some (.ref p1), some (.int p2), some (.int p3), none, none, none, none], [.int r2], S1, 0, 0)
  obtain ⟨g4, g5, h⟩ := h
  refine jLf.bk hc 5 [jA S1 this 7, ¬ jR S1 this 1 = none] [some (.ref this), some (.ref p1), some (.int p2), some (.int p3), some (.int r2), none, none, none] [.int p3, .int p2, .ref (jr S1 this 1)] S1 rfl rfl rfl ⟨g4, g5⟩ ?_
  refine jLf.inv hc _ rfl (gs := [2 ≤ ([.int p3, .int p2, .ref (jr S1 this 1)] : List Value).length, (([.ref (jr S1 this 1)] : List Value).map fun v => v.category).sum ≤ 8, 0 ≤ 0, 0 ≤ 0]) (k := 146) (args := [.int p2, .int p3]) (r := [.ref (jr S1 this 1)]) (a := 0) (b := 0) rfl ⟨Nat.le_of_ble_eq_true rfl, Nat.le_of_ble_eq_true rfl, Nat.zero_le _, Nat.zero_le _⟩ (vX11_placeOf d (by omega) h) ?_
  rintro v S6 ⟨r7, rfl, h⟩
  show jLf (jCall jmt jbud d) jbud (fun j => (jmt j).rk) none mX7_bestSteps (jqI Q) (10, [some (.ref this), some (.ref p1), some (.int p2), some (.int p3), some (.int r2), none, none, none], [.int r7, .ref (jr S1 this 1)], S6, 0, 0)
  obtain ⟨g8, g9, g10, g11, h⟩ := h
  refine jLf.bk hc 5 [jA S6 (jr S1 this 1) 13, vp_in r7 (jZ S6 (jr S1 this 1)), jA S6 this 7, ¬ jR S6 this 0 = none] [some (.ref this), some (.ref p1), some (.int p2), some (.int p3), some (.int r2), none, none, none] [.int p3, .int p2, .ref (jr S6 this 0), .int (jI S6 (jr S1 this 1) r7.toNatClampNeg)] S6 rfl rfl rfl ⟨g8, g9, g10, g11⟩ ?_
  refine jLf.inv hc _ rfl (gs := [2 ≤ ([.int p3, .int p2, .ref (jr S6 this 0), .int (jI S6 (jr S1 this 1) r7.toNatClampNeg)] : List Value).length, (([.ref (jr S6 this 0), .int (jI S6 (jr S1 this 1) r7.toNatClampNeg)] : List Value).map fun v => v.category).sum ≤ 8, 0 ≤ 0, 0 ≤ 0]) (k := 146) (args := [.int p2, .int p3]) (r := [.ref (jr S6 this 0), .int (jI S6 (jr S1 this 1) r7.toNatClampNeg)]) (a := 0) (b := 0) rfl ⟨Nat.le_of_ble_eq_true rfl, Nat.le_of_ble_eq_true rfl, Nat.zero_le _, Nat.zero_le _⟩ (vX11_placeOf d (by omega) h) ?_
  rintro v S12 ⟨r13, rfl, h⟩
  show jLf (jCall jmt jbud d) jbud (fun j => (jmt j).rk) none mX7_bestSteps (jqI Q) (16, [some (.ref this), some (.ref p1), some (.int p2), some (.int p3), some (.int r2), none, none, none], [.int r13, .ref (jr S6 this 0), .int (jI S6 (jr S1 this 1) r7.toNatClampNeg)], S12, 0, 0)
  obtain ⟨g14, g15, h⟩ := h
  refine jLf.bk hc 3 [jA S12 (jr S6 this 0) 13, vp_in r13 (jZ S12 (jr S6 this 0))] [some (.ref this), some (.ref p1), some (.int p2), some (.int p3), some (.int r2), some (.int ((jI S6 (jr S1 this 1) r7.toNatClampNeg) - (jI S12 (jr S6 this 0) r13.toNatClampNeg))), none, none] [] S12 rfl rfl rfl ⟨g14, g15⟩ ?_
  generalize ex16 : ((jI S6 (jr S1 this 1) r7.toNatClampNeg) - (jI S12 (jr S6 this 0) r13.toNatClampNeg) : Int32) = x16
  have h := h x16 ex16.symm
  refine jLf.bk hc 4 [] [some (.ref this), some (.ref p1), some (.int p2), some (.int p3), some (.int r2), some (.int x16), some (.int 0), some (.int 0)] [] S12 rfl rfl rfl trivial ?_
  refine jLf.sub [some (.ref this), none, none, some (.int p3), some (.int r2), some (.int x16), some (.int 0), some (.int 0)] (jle_same (jle_none (jle_none (jle_same (jle_same (jle_same (jle_same (jle_same (jle_nil _))))))))) ?_
  exact tX7_bestSteps_23 d hd  h
def wX7_followLikely_27  (X2 : Nat → Nat → Int32 → JS → Prop) (X9 : Nat → Nat → Int32 → Int32 → Int32 → JS → Prop) (l0 : Nat) (l1 : Nat) (l2 : Int32) (l3 : Int32) (l4 : Int32) (S : JS) (Q : JS → Prop) : Prop :=
  ∀ x13 : Int32, x13 = (l4 + 1) → (X9 l0 l1 l2 l3 x13 S)
set_option maxRecDepth 20000 in
theorem tX7_followLikely_27 {Q : JS → Prop} {X2 : Nat → Nat → Int32 → JS → Prop} {X9 : Nat → Nat → Int32 → Int32 → Int32 → JS → Prop} (d : Nat) (hd : 3 ≤ d) (hX2 : ∀ l0 l1 l2 S, X2 l0 l1 l2 S → jLf (jCall jmt jbud d) jbud (fun j => (jmt j).rk) none mX7_followLikely (jqV Q) (2, [some (.ref l0), some (.ref l1), some (.int l2), none, none], [], S, 0, 0)) (hX9 : ∀ l0 l1 l2 l3 l4 S, X9 l0 l1 l2 l3 l4 S → jLf (jCall jmt jbud d) jbud (fun j => (jmt j).rk) none mX7_followLikely (jqV Q) (9, [some (.ref l0), some (.ref l1), some (.int l2), some (.int l3), some (.int l4)], [], S, 0, 0)) {l0 : Nat} {l1 : Nat} {l2 : Int32} {l3 : Int32} {l4 : Int32} {S : JS} (h : wX7_followLikely_27 X2 X9 l0 l1 l2 l3 l4 S Q) : jLf (jCall jmt jbud d) jbud (fun j => (jmt j).rk) none mX7_followLikely (jqV Q) (27, [some (.ref l0), some (.ref l1), some (.int l2), some (.int l3), some (.int l4)], [], S, 0, 0) := by
  have hc := jCall_mono jmt jbud d
  unfold wX7_followLikely_27 at h
  refine jLf.bk hc 1 [] [some (.ref l0), some (.ref l1), some (.int l2), some (.int l3), some (.int (l4 + 1))] [] S rfl rfl rfl trivial ?_
  generalize ex13 : (l4 + 1 : Int32) = x13
  have h := h x13 ex13.symm
  refine jLf.one hc _ rfl (gs := []) (c := (9, [some (.ref l0), some (.ref l1), some (.int l2), some (.int l3), some (.int x13)], [], S, 0, 0)) rfl trivial ?_
  exact hX9 _ _ _ _ _ _ h
def bX7_followLikely_9  (X2 : Nat → Nat → Int32 → JS → Prop) (X9 : Nat → Nat → Int32 → Int32 → Int32 → JS → Prop) (l0 : Nat) (l1 : Nat) (l2 : Int32) (l3 : Int32) (l4 : Int32) (S : JS) (Q : JS → Prop) : Prop :=
  (9 ≤ l4 → jA S l0 7 ∧ (¬ jR S l0 3 = none ∧ (jA S (jr S l0 3) 13 ∧ (vp_in (l2 + (1 : Int32)) (jZ S (jr S l0 3)) ∧ (∀ S5 : JS, S5 = uI S (jr S l0 3) (l2 + (1 : Int32)).toNatClampNeg l3 → (∀ x6 : Int32, x6 = (l2 + 1) → (X2 l0 l1 x6 S5))))))) ∧ (¬ (9 ≤ l4) → jA S l0 7 ∧ (¬ jR S l0 3 = none ∧ (jA S (jr S l0 3) 13 ∧ (vp_in l2 (jZ S (jr S l0 3)) ∧ (wX11_hasBit (jI S (jr S l0 3) l2.toNatClampNeg) l4 S (fun r12 S11 => (r12 = 0 → wX7_followLikely_27 X2 X9 l0 l1 l2 l3 l4 S11 Q) ∧ (¬ r12 = 0 → jA S11 l0 7 ∧ (wX7_bestSteps l0 l1 l4 l2 S11 (fun r15 S14 => ∀ x17 : Int32, x17 = (l3 ||| r15) → (wX7_followLikely_27 X2 X9 l0 l1 l2 x17 l4 S14 Q))))))))))
set_option maxRecDepth 20000 in
theorem uX7_followLikely_9 {Q : JS → Prop} {X2 : Nat → Nat → Int32 → JS → Prop} (d : Nat) (hd : 3 ≤ d) (hX2 : ∀ l0 l1 l2 S, X2 l0 l1 l2 S → jLf (jCall jmt jbud d) jbud (fun j => (jmt j).rk) none mX7_followLikely (jqV Q) (2, [some (.ref l0), some (.ref l1), some (.int l2), none, none], [], S, 0, 0)) {X9 : Nat → Nat → Int32 → Int32 → Int32 → JS → Prop} (hX9 : ∀ l0 l1 l2 l3 l4 S, X9 l0 l1 l2 l3 l4 S → jLf (jCall jmt jbud d) jbud (fun j => (jmt j).rk) none mX7_followLikely (jqV Q) (9, [some (.ref l0), some (.ref l1), some (.int l2), some (.int l3), some (.int l4)], [], S, 0, 0)) {l0 : Nat} {l1 : Nat} {l2 : Int32} {l3 : Int32} {l4 : Int32} {S : JS} (h : bX7_followLikely_9 X2 X9 l0 l1 l2 l3 l4 S Q) : jLf (jCall jmt jbud d) jbud (fun j => (jmt j).rk) none mX7_followLikely (jqV Q) (9, [some (.ref l0), some (.ref l1), some (.int l2), some (.int l3), some (.int l4)], [], S, 0, 0) := by
  have hc := jCall_mono jmt jbud d
  unfold bX7_followLikely_9 at h
  refine jLf.bk hc 2 [] [some (.ref l0), some (.ref l1), some (.int l2), some (.int l3), some (.int l4)] [.int 9, .int l4] S rfl rfl rfl trivial ?_
  refine jLf.two hc _ rfl (gs := []) (p1 := 9 ≤ l4) (p2 := ¬ (9 ≤ l4)) (c1 := (29, [some (.ref l0), some (.ref l1), some (.int l2), some (.int l3), some (.int l4)], [], S, 0, 0)) (c2 := (12, [some (.ref l0), some (.ref l1), some (.int l2), some (.int l3), some (.int l4)], [], S, 0, 0)) rfl trivial (fun hz => ?_) (fun hz => ?_)
  · have h := h.1 hz
    obtain ⟨g1, g2, g3, g4, h⟩ := h
    refine jLf.bk hc 7 [jA S l0 7, ¬ jR S l0 3 = none, jA S (jr S l0 3) 13, vp_in (l2 + (1 : Int32)) (jZ S (jr S l0 3))] [some (.ref l0), some (.ref l1), some (.int l2), some (.int l3), some (.int l4)] [] (uI S (jr S l0 3) (l2 + (1 : Int32)).toNatClampNeg l3) rfl rfl rfl ⟨g1, g2, g3, g4⟩ ?_
    generalize eS5 : uI S (jr S l0 3) (l2 + (1 : Int32)).toNatClampNeg l3 = S5
    have h := h S5 eS5.symm
    refine jLf.bk hc 1 [] [some (.ref l0), some (.ref l1), some (.int (l2 + 1)), some (.int l3), some (.int l4)] [] S5 rfl rfl rfl trivial ?_
    generalize ex6 : (l2 + 1 : Int32) = x6
    have h := h x6 ex6.symm
    refine jLf.one hc _ rfl (gs := []) (c := (2, [some (.ref l0), some (.ref l1), some (.int x6), some (.int l3), some (.int l4)], [], S5, 0, 0)) rfl trivial ?_
    refine jLf.sub [some (.ref l0), some (.ref l1), some (.int x6), none, none] (jle_same (jle_same (jle_same (jle_none (jle_none (jle_nil _)))))) ?_
    exact hX2 _ _ _ _ h
  · have h := h.2 hz
    obtain ⟨g7, g8, g9, g10, h⟩ := h
    refine jLf.bk hc 5 [jA S l0 7, ¬ jR S l0 3 = none, jA S (jr S l0 3) 13, vp_in l2 (jZ S (jr S l0 3))] [some (.ref l0), some (.ref l1), some (.int l2), some (.int l3), some (.int l4)] [.int l4, .int (jI S (jr S l0 3) l2.toNatClampNeg)] S rfl rfl rfl ⟨g7, g8, g9, g10⟩ ?_
    refine jLf.inv hc _ rfl (gs := [2 ≤ ([.int l4, .int (jI S (jr S l0 3) l2.toNatClampNeg)] : List Value).length, (([] : List Value).map fun v => v.category).sum ≤ 8, 0 ≤ 0, 0 ≤ 0]) (k := 145) (args := [.int (jI S (jr S l0 3) l2.toNatClampNeg), .int l4]) (r := []) (a := 0) (b := 0) rfl ⟨Nat.le_of_ble_eq_true rfl, Nat.le_of_ble_eq_true rfl, Nat.zero_le _, Nat.zero_le _⟩ (vX11_hasBit d (by omega) h) ?_
    rintro v S11 ⟨r12, rfl, h⟩
    show jLf (jCall jmt jbud d) jbud (fun j => (jmt j).rk) none mX7_followLikely (jqV Q) (18, [some (.ref l0), some (.ref l1), some (.int l2), some (.int l3), some (.int l4)], [.int r12], S11, 0, 0)
    refine jLf.two hc _ rfl (gs := []) (p1 := r12 = 0) (p2 := ¬ (r12 = 0)) (c1 := (27, [some (.ref l0), some (.ref l1), some (.int l2), some (.int l3), some (.int l4)], [], S11, 0, 0)) (c2 := (19, [some (.ref l0), some (.ref l1), some (.int l2), some (.int l3), some (.int l4)], [], S11, 0, 0)) rfl trivial (fun hz => ?_) (fun hz => ?_)
    · have h := h.1 hz
      exact tX7_followLikely_27 d hd hX2 hX9 h
    · have h := h.2 hz
      refine jLf.bk hc 5 [] [some (.ref l0), some (.ref l1), some (.int l2), some (.int l3), some (.int l4)] [.int l2, .int l4, .ref l1, .ref l0, .int l3] S11 rfl rfl rfl trivial ?_
      obtain ⟨g16, h⟩ := h
      refine jLf.inv hc _ rfl (gs := [jA S11 l0 7, (([.int l3] : List Value).map fun v => v.category).sum ≤ 8, 0 ≤ 0, 0 ≤ 0]) (k := 77) (args := [.ref l0, .ref l1, .int l4, .int l2]) (r := [.int l3]) (a := 0) (b := 0) rfl ⟨g16, Nat.le_of_ble_eq_true rfl, Nat.zero_le _, Nat.zero_le _⟩ (vX7_bestSteps d (by omega) h) ?_
      rintro v S14 ⟨r15, rfl, h⟩
      show jLf (jCall jmt jbud d) jbud (fun j => (jmt j).rk) none mX7_followLikely (jqV Q) (25, [some (.ref l0), some (.ref l1), some (.int l2), some (.int l3), some (.int l4)], [.int r15, .int l3], S14, 0, 0)
      refine jLf.bk hc 2 [] [some (.ref l0), some (.ref l1), some (.int l2), some (.int (l3 ||| r15)), some (.int l4)] [] S14 rfl rfl rfl trivial ?_
      generalize ex17 : (l3 ||| r15 : Int32) = x17
      have h := h x17 ex17.symm
      exact tX7_followLikely_27 d hd hX2 hX9 h
def wX7_followLikely_9  (X2 : Nat → Nat → Int32 → JS → Prop) (l0 : Nat) (l1 : Nat) (l2 : Int32) (l3 : Int32) (l4 : Int32) (S : JS) (Q : JS → Prop) : Prop :=
  jLoop (fun (X9 : Nat × Nat × Int32 × Int32 × Int32 × JS → Prop) q => bX7_followLikely_9 X2 (fun l0 l1 l2 l3 l4 S => X9 (l0, l1, l2, l3, l4, S)) q.1 q.2.1 q.2.2.1 q.2.2.2.1 q.2.2.2.2.1 q.2.2.2.2.2 Q) (l0, l1, l2, l3, l4, S)
set_option maxRecDepth 20000 in
theorem tX7_followLikely_9 {Q : JS → Prop} {X2 : Nat → Nat → Int32 → JS → Prop} (d : Nat) (hd : 3 ≤ d) (hX2 : ∀ l0 l1 l2 S, X2 l0 l1 l2 S → jLf (jCall jmt jbud d) jbud (fun j => (jmt j).rk) none mX7_followLikely (jqV Q) (2, [some (.ref l0), some (.ref l1), some (.int l2), none, none], [], S, 0, 0)) {l0 : Nat} {l1 : Nat} {l2 : Int32} {l3 : Int32} {l4 : Int32} {S : JS} (h : wX7_followLikely_9 X2 l0 l1 l2 l3 l4 S Q) : jLf (jCall jmt jbud d) jbud (fun j => (jmt j).rk) none mX7_followLikely (jqV Q) (9, [some (.ref l0), some (.ref l1), some (.int l2), some (.int l3), some (.int l4)], [], S, 0, 0) := by
  have := h (fun q : Nat × Nat × Int32 × Int32 × Int32 × JS => jLf (jCall jmt jbud d) jbud (fun j => (jmt j).rk) none mX7_followLikely (jqV Q) (9, [some (.ref (q.1)), some (.ref (q.2.1)), some (.int (q.2.2.1)), some (.int (q.2.2.2.1)), some (.int (q.2.2.2.2.1))], [], q.2.2.2.2.2, 0, 0)) (fun q R hb hR => uX7_followLikely_9 d hd hX2 (fun _ _ _ _ _ _ => hR _) hb)
  exact this
def bX7_followLikely_2   (X2 : Nat → Nat → Int32 → JS → Prop) (l0 : Nat) (l1 : Nat) (l2 : Int32) (S : JS) (Q : JS → Prop) : Prop :=
  (59 ≤ l2 → Q S) ∧ (¬ (59 ≤ l2) → wX7_followLikely_9 X2 l0 l1 l2 0 0 S Q)
set_option maxRecDepth 20000 in
theorem uX7_followLikely_2 {Q : JS → Prop}  (d : Nat) (hd : 3 ≤ d) {X2 : Nat → Nat → Int32 → JS → Prop} (hX2 : ∀ l0 l1 l2 S, X2 l0 l1 l2 S → jLf (jCall jmt jbud d) jbud (fun j => (jmt j).rk) none mX7_followLikely (jqV Q) (2, [some (.ref l0), some (.ref l1), some (.int l2), none, none], [], S, 0, 0)) {l0 : Nat} {l1 : Nat} {l2 : Int32} {S : JS} (h : bX7_followLikely_2 X2 l0 l1 l2 S Q) : jLf (jCall jmt jbud d) jbud (fun j => (jmt j).rk) none mX7_followLikely (jqV Q) (2, [some (.ref l0), some (.ref l1), some (.int l2), none, none], [], S, 0, 0) := by
  have hc := jCall_mono jmt jbud d
  unfold bX7_followLikely_2 at h
  refine jLf.bk hc 2 [] [some (.ref l0), some (.ref l1), some (.int l2), none, none] [.int 59, .int l2] S rfl rfl rfl trivial ?_
  refine jLf.two hc _ rfl (gs := []) (p1 := 59 ≤ l2) (p2 := ¬ (59 ≤ l2)) (c1 := (38, [some (.ref l0), some (.ref l1), some (.int l2), none, none], [], S, 0, 0)) (c2 := (5, [some (.ref l0), some (.ref l1), some (.int l2), none, none], [], S, 0, 0)) rfl trivial (fun hz => ?_) (fun hz => ?_)
  · have h := h.1 hz
    exact jLf.ret hc _ rfl (gs := [jrt none none]) (v := none) rfl trivial ⟨rfl, h⟩
  · have h := h.2 hz
    refine jLf.bk hc 4 [] [some (.ref l0), some (.ref l1), some (.int l2), some (.int 0), some (.int 0)] [] S rfl rfl rfl trivial ?_
    exact tX7_followLikely_9 d hd hX2 h
def wX7_followLikely_2   (l0 : Nat) (l1 : Nat) (l2 : Int32) (S : JS) (Q : JS → Prop) : Prop :=
  jLoop (fun (X2 : Nat × Nat × Int32 × JS → Prop) q => bX7_followLikely_2 (fun l0 l1 l2 S => X2 (l0, l1, l2, S)) q.1 q.2.1 q.2.2.1 q.2.2.2 Q) (l0, l1, l2, S)
set_option maxRecDepth 20000 in
theorem tX7_followLikely_2 {Q : JS → Prop}  (d : Nat) (hd : 3 ≤ d) {l0 : Nat} {l1 : Nat} {l2 : Int32} {S : JS} (h : wX7_followLikely_2 l0 l1 l2 S Q) : jLf (jCall jmt jbud d) jbud (fun j => (jmt j).rk) none mX7_followLikely (jqV Q) (2, [some (.ref l0), some (.ref l1), some (.int l2), none, none], [], S, 0, 0) := by
  have := h (fun q : Nat × Nat × Int32 × JS => jLf (jCall jmt jbud d) jbud (fun j => (jmt j).rk) none mX7_followLikely (jqV Q) (2, [some (.ref (q.1)), some (.ref (q.2.1)), some (.int (q.2.2.1)), none, none], [], q.2.2.2, 0, 0)) (fun q R hb hR => uX7_followLikely_2 d hd  (fun _ _ _ _ => hR _) hb)
  exact this
def wX7_followLikely  (this : Nat) (p1 : Nat) (S : JS) (Q : JS → Prop) : Prop :=
  wX7_followLikely_2 this p1 0 S Q
set_option maxRecDepth 20000 in
theorem vX7_followLikely {Q : JS → Prop} (d : Nat) (hd : 4 ≤ d) {this : Nat} {p1 : Nat} {S : JS} (h : wX7_followLikely this p1 S Q) : jCall jmt jbud d 75 [.ref this, .ref p1] S (jqV Q) := by
  obtain ⟨d, rfl⟩ : ∃ d2, d = d2 + 1 := ⟨d - 1, by omega⟩
  have hd : 3 ≤ d := by omega
  have hc := jCall_mono jmt jbud d
  unfold wX7_followLikely at h
  refine ⟨Nat.le_of_ble_eq_true rfl, ?_⟩
  show jLf (jCall jmt jbud d) jbud (fun j => (jmt j).rk) none mX7_followLikely (jqV Q) (0, [some (.ref this), some (.ref p1), none, none, none], [], S, 0, 0)
  refine jLf.bk hc 2 [] [some (.ref this), some (.ref p1), some (.int 0), none, none] [] S rfl rfl rfl trivial ?_
  exact tX7_followLikely_2 d hd  h
def bX7_lowestOf_2   (X2 : Int32 → Int32 → JS → Prop) (l0 : Int32) (l1 : Int32) (S : JS) (Q : Int32 → JS → Prop) : Prop :=
  (9 ≤ l1 → Q 0 S) ∧ (¬ (9 ≤ l1) → wX11_hasBit l0 l1 S (fun r2 S1 => (r2 = 0 → ∀ x3 : Int32, x3 = (l1 + 1) → (X2 l0 x3 S1)) ∧ (¬ r2 = 0 → Q l1 S1)))
set_option maxRecDepth 20000 in
theorem uX7_lowestOf_2 {Q : Int32 → JS → Prop}  (d : Nat) (hd : 1 ≤ d) {X2 : Int32 → Int32 → JS → Prop} (hX2 : ∀ l0 l1 S, X2 l0 l1 S → jLf (jCall jmt jbud d) jbud (fun j => (jmt j).rk) none mX7_lowestOf (jqI Q) (2, [some (.int l0), some (.int l1)], [], S, 0, 0)) {l0 : Int32} {l1 : Int32} {S : JS} (h : bX7_lowestOf_2 X2 l0 l1 S Q) : jLf (jCall jmt jbud d) jbud (fun j => (jmt j).rk) none mX7_lowestOf (jqI Q) (2, [some (.int l0), some (.int l1)], [], S, 0, 0) := by
  have hc := jCall_mono jmt jbud d
  unfold bX7_lowestOf_2 at h
  refine jLf.bk hc 2 [] [some (.int l0), some (.int l1)] [.int 9, .int l1] S rfl rfl rfl trivial ?_
  refine jLf.two hc _ rfl (gs := []) (p1 := 9 ≤ l1) (p2 := ¬ (9 ≤ l1)) (c1 := (13, [some (.int l0), some (.int l1)], [], S, 0, 0)) (c2 := (5, [some (.int l0), some (.int l1)], [], S, 0, 0)) rfl trivial (fun hz => ?_) (fun hz => ?_)
  · have h := h.1 hz
    refine jLf.bk hc 1 [] [some (.int l0), some (.int l1)] [.int 0] S rfl rfl rfl trivial ?_
    exact jLf.ret hc _ rfl (gs := [True]) (v := some (.int 0)) rfl trivial ⟨0, rfl, h⟩
  · have h := h.2 hz
    refine jLf.bk hc 2 [] [some (.int l0), some (.int l1)] [.int l1, .int l0] S rfl rfl rfl trivial ?_
    refine jLf.inv hc _ rfl (gs := [2 ≤ ([.int l1, .int l0] : List Value).length, (([] : List Value).map fun v => v.category).sum ≤ 8, 0 ≤ 0, 0 ≤ 0]) (k := 145) (args := [.int l0, .int l1]) (r := []) (a := 0) (b := 0) rfl ⟨Nat.le_of_ble_eq_true rfl, Nat.le_of_ble_eq_true rfl, Nat.zero_le _, Nat.zero_le _⟩ (vX11_hasBit d (by omega) h) ?_
    rintro v S1 ⟨r2, rfl, h⟩
    show jLf (jCall jmt jbud d) jbud (fun j => (jmt j).rk) none mX7_lowestOf (jqI Q) (8, [some (.int l0), some (.int l1)], [.int r2], S1, 0, 0)
    refine jLf.two hc _ rfl (gs := []) (p1 := r2 = 0) (p2 := ¬ (r2 = 0)) (c1 := (11, [some (.int l0), some (.int l1)], [], S1, 0, 0)) (c2 := (9, [some (.int l0), some (.int l1)], [], S1, 0, 0)) rfl trivial (fun hz => ?_) (fun hz => ?_)
    · have h := h.1 hz
      refine jLf.bk hc 1 [] [some (.int l0), some (.int (l1 + 1))] [] S1 rfl rfl rfl trivial ?_
      generalize ex3 : (l1 + 1 : Int32) = x3
      have h := h x3 ex3.symm
      refine jLf.one hc _ rfl (gs := []) (c := (2, [some (.int l0), some (.int x3)], [], S1, 0, 0)) rfl trivial ?_
      exact hX2 _ _ _ h
    · have h := h.2 hz
      refine jLf.bk hc 1 [] [some (.int l0), some (.int l1)] [.int l1] S1 rfl rfl rfl trivial ?_
      exact jLf.ret hc _ rfl (gs := [True]) (v := some (.int l1)) rfl trivial ⟨l1, rfl, h⟩
def wX7_lowestOf_2   (l0 : Int32) (l1 : Int32) (S : JS) (Q : Int32 → JS → Prop) : Prop :=
  jLoop (fun (X2 : Int32 × Int32 × JS → Prop) q => bX7_lowestOf_2 (fun l0 l1 S => X2 (l0, l1, S)) q.1 q.2.1 q.2.2 Q) (l0, l1, S)
set_option maxRecDepth 20000 in
theorem tX7_lowestOf_2 {Q : Int32 → JS → Prop}  (d : Nat) (hd : 1 ≤ d) {l0 : Int32} {l1 : Int32} {S : JS} (h : wX7_lowestOf_2 l0 l1 S Q) : jLf (jCall jmt jbud d) jbud (fun j => (jmt j).rk) none mX7_lowestOf (jqI Q) (2, [some (.int l0), some (.int l1)], [], S, 0, 0) := by
  have := h (fun q : Int32 × Int32 × JS => jLf (jCall jmt jbud d) jbud (fun j => (jmt j).rk) none mX7_lowestOf (jqI Q) (2, [some (.int (q.1)), some (.int (q.2.1))], [], q.2.2, 0, 0)) (fun q R hb hR => uX7_lowestOf_2 d hd  (fun _ _ _ => hR _) hb)
  exact this
def wX7_lowestOf  (p1 : Int32) (S : JS) (Q : Int32 → JS → Prop) : Prop :=
  wX7_lowestOf_2 p1 0 S Q
set_option maxRecDepth 20000 in
theorem vX7_lowestOf {Q : Int32 → JS → Prop} (d : Nat) (hd : 2 ≤ d) {p1 : Int32} {S : JS} (h : wX7_lowestOf p1 S Q) : jCall jmt jbud d 78 [.int p1] S (jqI Q) := by
  obtain ⟨d, rfl⟩ : ∃ d2, d = d2 + 1 := ⟨d - 1, by omega⟩
  have hd : 1 ≤ d := by omega
  have hc := jCall_mono jmt jbud d
  unfold wX7_lowestOf at h
  refine ⟨Nat.le_of_ble_eq_true rfl, ?_⟩
  show jLf (jCall jmt jbud d) jbud (fun j => (jmt j).rk) none mX7_lowestOf (jqI Q) (0, [some (.int p1), none], [], S, 0, 0)
  refine jLf.bk hc 2 [] [some (.int p1), some (.int 0)] [] S rfl rfl rfl trivial ?_
  exact tX7_lowestOf_2 d hd  h
def bX7_followFirst_11   (X11 : Nat → Nat → Int32 → JS → Prop) (l0 : Nat) (l1 : Nat) (l2 : Int32) (S : JS) (Q : JS → Prop) : Prop :=
  (59 ≤ l2 → Q S) ∧ (¬ (59 ≤ l2) → jA S l0 7 ∧ (¬ jR S l0 4 = none ∧ (jA S (jr S l0 4) 13 ∧ (vp_in l2 (jZ S (jr S l0 4)) ∧ (wX7_bestSteps l0 l1 (jI S (jr S l0 4) l2.toNatClampNeg) l2 S (fun r16 S15 => wX7_lowestOf r16 S15 (fun r18 S17 => jA S17 (jr S l0 4) 13 ∧ (vp_in (l2 + (1 : Int32)) (jZ S17 (jr S l0 4)) ∧ (∀ S21 : JS, S21 = uI S17 (jr S l0 4) (l2 + (1 : Int32)).toNatClampNeg r18 → (∀ x22 : Int32, x22 = (l2 + 1) → (X11 l0 l1 x22 S21)))))))))))
set_option maxRecDepth 20000 in
theorem uX7_followFirst_11 {Q : JS → Prop}  (d : Nat) (hd : 3 ≤ d) {X11 : Nat → Nat → Int32 → JS → Prop} (hX11 : ∀ l0 l1 l2 S, X11 l0 l1 l2 S → jLf (jCall jmt jbud d) jbud (fun j => (jmt j).rk) none mX7_followFirst (jqV Q) (11, [some (.ref l0), some (.ref l1), some (.int l2)], [], S, 0, 0)) {l0 : Nat} {l1 : Nat} {l2 : Int32} {S : JS} (h : bX7_followFirst_11 X11 l0 l1 l2 S Q) : jLf (jCall jmt jbud d) jbud (fun j => (jmt j).rk) none mX7_followFirst (jqV Q) (11, [some (.ref l0), some (.ref l1), some (.int l2)], [], S, 0, 0) := by
  have hc := jCall_mono jmt jbud d
  unfold bX7_followFirst_11 at h
  refine jLf.bk hc 2 [] [some (.ref l0), some (.ref l1), some (.int l2)] [.int 59, .int l2] S rfl rfl rfl trivial ?_
  refine jLf.two hc _ rfl (gs := []) (p1 := 59 ≤ l2) (p2 := ¬ (59 ≤ l2)) (c1 := (31, [some (.ref l0), some (.ref l1), some (.int l2)], [], S, 0, 0)) (c2 := (14, [some (.ref l0), some (.ref l1), some (.int l2)], [], S, 0, 0)) rfl trivial (fun hz => ?_) (fun hz => ?_)
  · have h := h.1 hz
    exact jLf.ret hc _ rfl (gs := [jrt none none]) (v := none) rfl trivial ⟨rfl, h⟩
  · have h := h.2 hz
    obtain ⟨g11, g12, g13, g14, h⟩ := h
    refine jLf.bk hc 12 [jA S l0 7, ¬ jR S l0 4 = none, jA S l0 7, ¬ jR S l0 4 = none, jA S (jr S l0 4) 13, vp_in l2 (jZ S (jr S l0 4))] [some (.ref l0), some (.ref l1), some (.int l2)] [.int l2, .int (jI S (jr S l0 4) l2.toNatClampNeg), .ref l1, .ref l0, .int (l2 + (1 : Int32)), .ref (jr S l0 4)] S rfl rfl rfl ⟨g11, g12, g11, g12, g13, g14⟩ ?_
    refine jLf.inv hc _ rfl (gs := [jA S l0 7, (([.int (l2 + (1 : Int32)), .ref (jr S l0 4)] : List Value).map fun v => v.category).sum ≤ 8, 0 ≤ 0, 0 ≤ 0]) (k := 77) (args := [.ref l0, .ref l1, .int (jI S (jr S l0 4) l2.toNatClampNeg), .int l2]) (r := [.int (l2 + (1 : Int32)), .ref (jr S l0 4)]) (a := 0) (b := 0) rfl ⟨g11, Nat.le_of_ble_eq_true rfl, Nat.zero_le _, Nat.zero_le _⟩ (vX7_bestSteps d (by omega) h) ?_
    rintro v S15 ⟨r16, rfl, h⟩
    show jLf (jCall jmt jbud d) jbud (fun j => (jmt j).rk) none mX7_followFirst (jqV Q) (27, [some (.ref l0), some (.ref l1), some (.int l2)], [.int r16, .int (l2 + (1 : Int32)), .ref (jr S l0 4)], S15, 0, 0)
    refine jLf.inv hc _ rfl (gs := [1 ≤ ([.int r16, .int (l2 + (1 : Int32)), .ref (jr S l0 4)] : List Value).length, (([.int (l2 + (1 : Int32)), .ref (jr S l0 4)] : List Value).map fun v => v.category).sum ≤ 8, 0 ≤ 0, 0 ≤ 0]) (k := 78) (args := [.int r16]) (r := [.int (l2 + (1 : Int32)), .ref (jr S l0 4)]) (a := 0) (b := 0) rfl ⟨Nat.le_of_ble_eq_true rfl, Nat.le_of_ble_eq_true rfl, Nat.zero_le _, Nat.zero_le _⟩ (vX7_lowestOf d (by omega) h) ?_
    rintro v S17 ⟨r18, rfl, h⟩
    show jLf (jCall jmt jbud d) jbud (fun j => (jmt j).rk) none mX7_followFirst (jqV Q) (28, [some (.ref l0), some (.ref l1), some (.int l2)], [.int r18, .int (l2 + (1 : Int32)), .ref (jr S l0 4)], S17, 0, 0)
    obtain ⟨g19, g20, h⟩ := h
    refine jLf.bk hc 1 [jA S17 (jr S l0 4) 13, vp_in (l2 + (1 : Int32)) (jZ S17 (jr S l0 4))] [some (.ref l0), some (.ref l1), some (.int l2)] [] (uI S17 (jr S l0 4) (l2 + (1 : Int32)).toNatClampNeg r18) rfl rfl rfl ⟨g19, g20⟩ ?_
    generalize eS21 : uI S17 (jr S l0 4) (l2 + (1 : Int32)).toNatClampNeg r18 = S21
    have h := h S21 eS21.symm
    refine jLf.bk hc 1 [] [some (.ref l0), some (.ref l1), some (.int (l2 + 1))] [] S21 rfl rfl rfl trivial ?_
    generalize ex22 : (l2 + 1 : Int32) = x22
    have h := h x22 ex22.symm
    refine jLf.one hc _ rfl (gs := []) (c := (11, [some (.ref l0), some (.ref l1), some (.int x22)], [], S21, 0, 0)) rfl trivial ?_
    exact hX11 _ _ _ _ h
def wX7_followFirst_11   (l0 : Nat) (l1 : Nat) (l2 : Int32) (S : JS) (Q : JS → Prop) : Prop :=
  jLoop (fun (X11 : Nat × Nat × Int32 × JS → Prop) q => bX7_followFirst_11 (fun l0 l1 l2 S => X11 (l0, l1, l2, S)) q.1 q.2.1 q.2.2.1 q.2.2.2 Q) (l0, l1, l2, S)
set_option maxRecDepth 20000 in
theorem tX7_followFirst_11 {Q : JS → Prop}  (d : Nat) (hd : 3 ≤ d) {l0 : Nat} {l1 : Nat} {l2 : Int32} {S : JS} (h : wX7_followFirst_11 l0 l1 l2 S Q) : jLf (jCall jmt jbud d) jbud (fun j => (jmt j).rk) none mX7_followFirst (jqV Q) (11, [some (.ref l0), some (.ref l1), some (.int l2)], [], S, 0, 0) := by
  have := h (fun q : Nat × Nat × Int32 × JS => jLf (jCall jmt jbud d) jbud (fun j => (jmt j).rk) none mX7_followFirst (jqV Q) (11, [some (.ref (q.1)), some (.ref (q.2.1)), some (.int (q.2.2.1))], [], q.2.2.2, 0, 0)) (fun q R hb hR => uX7_followFirst_11 d hd  (fun _ _ _ _ => hR _) hb)
  exact this
def wX7_followFirst  (this : Nat) (p1 : Nat) (S : JS) (Q : JS → Prop) : Prop :=
  jA S this 7 ∧ (¬ jR S this 4 = none ∧ (¬ jR S this 3 = none ∧ (jA S (jr S this 3) 13 ∧ (vp_in (0 : Int32) (jZ S (jr S this 3)) ∧ (wX7_lowestOf (jI S (jr S this 3) (0 : Int32).toNatClampNeg) S (fun r7 S6 => jA S6 (jr S this 4) 13 ∧ (vp_in (0 : Int32) (jZ S6 (jr S this 4)) ∧ (∀ S10 : JS, S10 = uI S6 (jr S this 4) (0 : Int32).toNatClampNeg r7 → (wX7_followFirst_11 this p1 0 S10 Q)))))))))
set_option maxRecDepth 20000 in
theorem vX7_followFirst {Q : JS → Prop} (d : Nat) (hd : 4 ≤ d) {this : Nat} {p1 : Nat} {S : JS} (h : wX7_followFirst this p1 S Q) : jCall jmt jbud d 76 [.ref this, .ref p1] S (jqV Q) := by
  obtain ⟨d, rfl⟩ : ∃ d2, d = d2 + 1 := ⟨d - 1, by omega⟩
  have hd : 3 ≤ d := by omega
  have hc := jCall_mono jmt jbud d
  unfold wX7_followFirst at h
  refine ⟨Nat.le_of_ble_eq_true rfl, ?_⟩
  show jLf (jCall jmt jbud d) jbud (fun j => (jmt j).rk) none mX7_followFirst (jqV Q) (0, [some (.ref this), some (.ref p1), none], [], S, 0, 0)
  obtain ⟨g1, g2, g3, g4, g5, h⟩ := h
  refine jLf.bk hc 7 [jA S this 7, ¬ jR S this 4 = none, jA S this 7, ¬ jR S this 3 = none, jA S (jr S this 3) 13, vp_in (0 : Int32) (jZ S (jr S this 3))] [some (.ref this), some (.ref p1), none] [.int (jI S (jr S this 3) (0 : Int32).toNatClampNeg), .int 0, .ref (jr S this 4)] S rfl rfl rfl ⟨g1, g2, g1, g3, g4, g5⟩ ?_
  refine jLf.inv hc _ rfl (gs := [1 ≤ ([.int (jI S (jr S this 3) (0 : Int32).toNatClampNeg), .int 0, .ref (jr S this 4)] : List Value).length, (([.int 0, .ref (jr S this 4)] : List Value).map fun v => v.category).sum ≤ 8, 0 ≤ 0, 0 ≤ 0]) (k := 78) (args := [.int (jI S (jr S this 3) (0 : Int32).toNatClampNeg)]) (r := [.int 0, .ref (jr S this 4)]) (a := 0) (b := 0) rfl ⟨Nat.le_of_ble_eq_true rfl, Nat.le_of_ble_eq_true rfl, Nat.zero_le _, Nat.zero_le _⟩ (vX7_lowestOf d (by omega) h) ?_
  rintro v S6 ⟨r7, rfl, h⟩
  show jLf (jCall jmt jbud d) jbud (fun j => (jmt j).rk) none mX7_followFirst (jqV Q) (8, [some (.ref this), some (.ref p1), none], [.int r7, .int 0, .ref (jr S this 4)], S6, 0, 0)
  obtain ⟨g8, g9, h⟩ := h
  refine jLf.bk hc 1 [jA S6 (jr S this 4) 13, vp_in (0 : Int32) (jZ S6 (jr S this 4))] [some (.ref this), some (.ref p1), none] [] (uI S6 (jr S this 4) (0 : Int32).toNatClampNeg r7) rfl rfl rfl ⟨g8, g9⟩ ?_
  generalize eS10 : uI S6 (jr S this 4) (0 : Int32).toNatClampNeg r7 = S10
  have h := h S10 eS10.symm
  refine jLf.bk hc 2 [] [some (.ref this), some (.ref p1), some (.int 0)] [] S10 rfl rfl rfl trivial ?_
  exact tX7_followFirst_11 d hd  h
def bX7_solve_36  (X32 : Nat → Nat → Nat → Int32 → JS → Prop) (X36 : Nat → Nat → Nat → Int32 → Int32 → JS → Prop) (l0 : Nat) (l1 : Nat) (l2 : Nat) (l3 : Int32) (l4 : Int32) (S : JS) (Q : JS → Prop) : Prop :=
  jA S l1 9 ∧ (((jI S l1 0) ≤ l4 → ∀ x15 : Int32, x15 = (l3 + (-1)) → (X32 l0 l1 l2 x15 S)) ∧ (¬ ((jI S l1 0) ≤ l4) → jA S l2 1 ∧ (wX1_steps l2 l4 l3 S (fun r17 S16 => jA S16 l0 7 ∧ (wX7_weigh l0 l4 l3 r17 S16 (fun S19 => ∀ x22 : Int32, x22 = (l4 + 1) → (X36 l0 l1 l2 l3 x22 S19)))))))
set_option maxRecDepth 20000 in
theorem uX7_solve_36 {Q : JS → Prop} {X32 : Nat → Nat → Nat → Int32 → JS → Prop} (d : Nat) (hd : 4 ≤ d) (hX32 : ∀ l0 l1 l2 l3 S, X32 l0 l1 l2 l3 S → jLf (jCall jmt jbud d) jbud (fun j => (jmt j).rk) none mX7_solve (jqV Q) (32, [some (.ref l0), some (.ref l1), some (.ref l2), some (.int l3), none], [], S, 0, 0)) {X36 : Nat → Nat → Nat → Int32 → Int32 → JS → Prop} (hX36 : ∀ l0 l1 l2 l3 l4 S, X36 l0 l1 l2 l3 l4 S → jLf (jCall jmt jbud d) jbud (fun j => (jmt j).rk) none mX7_solve (jqV Q) (36, [some (.ref l0), some (.ref l1), some (.ref l2), some (.int l3), some (.int l4)], [], S, 0, 0)) {l0 : Nat} {l1 : Nat} {l2 : Nat} {l3 : Int32} {l4 : Int32} {S : JS} (h : bX7_solve_36 X32 X36 l0 l1 l2 l3 l4 S Q) : jLf (jCall jmt jbud d) jbud (fun j => (jmt j).rk) none mX7_solve (jqV Q) (36, [some (.ref l0), some (.ref l1), some (.ref l2), some (.int l3), some (.int l4)], [], S, 0, 0) := by
  have hc := jCall_mono jmt jbud d
  unfold bX7_solve_36 at h
  obtain ⟨g14, h⟩ := h
  refine jLf.bk hc 3 [jA S l1 9] [some (.ref l0), some (.ref l1), some (.ref l2), some (.int l3), some (.int l4)] [.int (jI S l1 0), .int l4] S rfl rfl rfl g14 ?_
  refine jLf.two hc _ rfl (gs := []) (p1 := (jI S l1 0) ≤ l4) (p2 := ¬ ((jI S l1 0) ≤ l4)) (c1 := (50, [some (.ref l0), some (.ref l1), some (.ref l2), some (.int l3), some (.int l4)], [], S, 0, 0)) (c2 := (40, [some (.ref l0), some (.ref l1), some (.ref l2), some (.int l3), some (.int l4)], [], S, 0, 0)) rfl trivial (fun hz => ?_) (fun hz => ?_)
  · have h := h.1 hz
    refine jLf.bk hc 1 [] [some (.ref l0), some (.ref l1), some (.ref l2), some (.int (l3 + (-1))), some (.int l4)] [] S rfl rfl rfl trivial ?_
    generalize ex15 : (l3 + (-1) : Int32) = x15
    have h := h x15 ex15.symm
    refine jLf.one hc _ rfl (gs := []) (c := (32, [some (.ref l0), some (.ref l1), some (.ref l2), some (.int x15), some (.int l4)], [], S, 0, 0)) rfl trivial ?_
    refine jLf.sub [some (.ref l0), some (.ref l1), some (.ref l2), some (.int x15), none] (jle_same (jle_same (jle_same (jle_same (jle_none (jle_nil _)))))) ?_
    exact hX32 _ _ _ _ _ h
  · have h := h.2 hz
    refine jLf.bk hc 6 [] [some (.ref l0), some (.ref l1), some (.ref l2), some (.int l3), some (.int l4)] [.int l3, .int l4, .ref l2, .int l3, .int l4, .ref l0] S rfl rfl rfl trivial ?_
    obtain ⟨g18, h⟩ := h
    refine jLf.inv hc _ rfl (gs := [jA S l2 1, (([.int l3, .int l4, .ref l0] : List Value).map fun v => v.category).sum ≤ 8, 0 ≤ 0, 0 ≤ 0]) (k := 15) (args := [.ref l2, .int l4, .int l3]) (r := [.int l3, .int l4, .ref l0]) (a := 0) (b := 0) rfl ⟨g18, Nat.le_of_ble_eq_true rfl, Nat.zero_le _, Nat.zero_le _⟩ (vX1_steps d (by omega) h) ?_
    rintro v S16 ⟨r17, rfl, h⟩
    show jLf (jCall jmt jbud d) jbud (fun j => (jmt j).rk) none mX7_solve (jqV Q) (47, [some (.ref l0), some (.ref l1), some (.ref l2), some (.int l3), some (.int l4)], [.int r17, .int l3, .int l4, .ref l0], S16, 0, 0)
    obtain ⟨g21, h⟩ := h
    refine jLf.inv hc _ rfl (gs := [jA S16 l0 7, (([] : List Value).map fun v => v.category).sum ≤ 8, 0 ≤ 0, 0 ≤ 0]) (k := 73) (args := [.ref l0, .int l4, .int l3, .int r17]) (r := []) (a := 0) (b := 0) rfl ⟨g21, Nat.le_of_ble_eq_true rfl, Nat.zero_le _, Nat.zero_le _⟩ (vX7_weigh d (by omega) h) ?_
    rintro v S19 ⟨rfl, h⟩
    show jLf (jCall jmt jbud d) jbud (fun j => (jmt j).rk) none mX7_solve (jqV Q) (48, [some (.ref l0), some (.ref l1), some (.ref l2), some (.int l3), some (.int l4)], [], S19, 0, 0)
    refine jLf.bk hc 1 [] [some (.ref l0), some (.ref l1), some (.ref l2), some (.int l3), some (.int (l4 + 1))] [] S19 rfl rfl rfl trivial ?_
    generalize ex22 : (l4 + 1 : Int32) = x22
    have h := h x22 ex22.symm
    refine jLf.one hc _ rfl (gs := []) (c := (36, [some (.ref l0), some (.ref l1), some (.ref l2), some (.int l3), some (.int x22)], [], S19, 0, 0)) rfl trivial ?_
    exact hX36 _ _ _ _ _ _ h
def wX7_solve_36  (X32 : Nat → Nat → Nat → Int32 → JS → Prop) (l0 : Nat) (l1 : Nat) (l2 : Nat) (l3 : Int32) (l4 : Int32) (S : JS) (Q : JS → Prop) : Prop :=
  jLoop (fun (X36 : Nat × Nat × Nat × Int32 × Int32 × JS → Prop) q => bX7_solve_36 X32 (fun l0 l1 l2 l3 l4 S => X36 (l0, l1, l2, l3, l4, S)) q.1 q.2.1 q.2.2.1 q.2.2.2.1 q.2.2.2.2.1 q.2.2.2.2.2 Q) (l0, l1, l2, l3, l4, S)
set_option maxRecDepth 20000 in
theorem tX7_solve_36 {Q : JS → Prop} {X32 : Nat → Nat → Nat → Int32 → JS → Prop} (d : Nat) (hd : 4 ≤ d) (hX32 : ∀ l0 l1 l2 l3 S, X32 l0 l1 l2 l3 S → jLf (jCall jmt jbud d) jbud (fun j => (jmt j).rk) none mX7_solve (jqV Q) (32, [some (.ref l0), some (.ref l1), some (.ref l2), some (.int l3), none], [], S, 0, 0)) {l0 : Nat} {l1 : Nat} {l2 : Nat} {l3 : Int32} {l4 : Int32} {S : JS} (h : wX7_solve_36 X32 l0 l1 l2 l3 l4 S Q) : jLf (jCall jmt jbud d) jbud (fun j => (jmt j).rk) none mX7_solve (jqV Q) (36, [some (.ref l0), some (.ref l1), some (.ref l2), some (.int l3), some (.int l4)], [], S, 0, 0) := by
  have := h (fun q : Nat × Nat × Nat × Int32 × Int32 × JS => jLf (jCall jmt jbud d) jbud (fun j => (jmt j).rk) none mX7_solve (jqV Q) (36, [some (.ref (q.1)), some (.ref (q.2.1)), some (.ref (q.2.2.1)), some (.int (q.2.2.2.1)), some (.int (q.2.2.2.2.1))], [], q.2.2.2.2.2, 0, 0)) (fun q R hb hR => uX7_solve_36 d hd hX32 (fun _ _ _ _ _ _ => hR _) hb)
  exact this
def bX7_solve_32   (X32 : Nat → Nat → Nat → Int32 → JS → Prop) (l0 : Nat) (l1 : Nat) (l2 : Nat) (l3 : Int32) (S : JS) (Q : JS → Prop) : Prop :=
  (l3 < 0 → jA S l0 7 ∧ (wX7_chooseStart l0 l1 S (fun S5 => jA S5 l0 7 ∧ (wX7_followLikely l0 l2 S5 (fun S8 => jA S8 l0 7 ∧ (wX7_followFirst l0 l2 S8 (fun S11 => Q S11))))))) ∧ (¬ (l3 < 0) → wX7_solve_36 X32 l0 l1 l2 l3 0 S Q)
set_option maxRecDepth 20000 in
theorem uX7_solve_32 {Q : JS → Prop}  (d : Nat) (hd : 4 ≤ d) {X32 : Nat → Nat → Nat → Int32 → JS → Prop} (hX32 : ∀ l0 l1 l2 l3 S, X32 l0 l1 l2 l3 S → jLf (jCall jmt jbud d) jbud (fun j => (jmt j).rk) none mX7_solve (jqV Q) (32, [some (.ref l0), some (.ref l1), some (.ref l2), some (.int l3), none], [], S, 0, 0)) {l0 : Nat} {l1 : Nat} {l2 : Nat} {l3 : Int32} {S : JS} (h : bX7_solve_32 X32 l0 l1 l2 l3 S Q) : jLf (jCall jmt jbud d) jbud (fun j => (jmt j).rk) none mX7_solve (jqV Q) (32, [some (.ref l0), some (.ref l1), some (.ref l2), some (.int l3), none], [], S, 0, 0) := by
  have hc := jCall_mono jmt jbud d
  unfold bX7_solve_32 at h
  refine jLf.bk hc 1 [] [some (.ref l0), some (.ref l1), some (.ref l2), some (.int l3), none] [.int l3] S rfl rfl rfl trivial ?_
  refine jLf.two hc _ rfl (gs := []) (p1 := l3 < 0) (p2 := ¬ (l3 < 0)) (c1 := (52, [some (.ref l0), some (.ref l1), some (.ref l2), some (.int l3), none], [], S, 0, 0)) (c2 := (34, [some (.ref l0), some (.ref l1), some (.ref l2), some (.int l3), none], [], S, 0, 0)) rfl trivial (fun hz => ?_) (fun hz => ?_)
  · have h := h.1 hz
    refine jLf.bk hc 2 [] [some (.ref l0), some (.ref l1), some (.ref l2), some (.int l3), none] [.ref l1, .ref l0] S rfl rfl rfl trivial ?_
    obtain ⟨g7, h⟩ := h
    refine jLf.inv hc _ rfl (gs := [jA S l0 7, (([] : List Value).map fun v => v.category).sum ≤ 8, 0 ≤ 0, 0 ≤ 0]) (k := 74) (args := [.ref l0, .ref l1]) (r := []) (a := 0) (b := 0) rfl ⟨g7, Nat.le_of_ble_eq_true rfl, Nat.zero_le _, Nat.zero_le _⟩ (vX7_chooseStart d (by omega) h) ?_
    rintro v S5 ⟨rfl, h⟩
    show jLf (jCall jmt jbud d) jbud (fun j => (jmt j).rk) none mX7_solve (jqV Q) (55, [some (.ref l0), some (.ref l1), some (.ref l2), some (.int l3), none], [], S5, 0, 0)
    refine jLf.bk hc 2 [] [some (.ref l0), some (.ref l1), some (.ref l2), some (.int l3), none] [.ref l2, .ref l0] S5 rfl rfl rfl trivial ?_
    obtain ⟨g10, h⟩ := h
    refine jLf.inv hc _ rfl (gs := [jA S5 l0 7, (([] : List Value).map fun v => v.category).sum ≤ 8, 0 ≤ 0, 0 ≤ 0]) (k := 75) (args := [.ref l0, .ref l2]) (r := []) (a := 0) (b := 0) rfl ⟨g10, Nat.le_of_ble_eq_true rfl, Nat.zero_le _, Nat.zero_le _⟩ (vX7_followLikely d (by omega) h) ?_
    rintro v S8 ⟨rfl, h⟩
    show jLf (jCall jmt jbud d) jbud (fun j => (jmt j).rk) none mX7_solve (jqV Q) (58, [some (.ref l0), some (.ref l1), some (.ref l2), some (.int l3), none], [], S8, 0, 0)
    refine jLf.bk hc 2 [] [some (.ref l0), some (.ref l1), some (.ref l2), some (.int l3), none] [.ref l2, .ref l0] S8 rfl rfl rfl trivial ?_
    obtain ⟨g13, h⟩ := h
    refine jLf.inv hc _ rfl (gs := [jA S8 l0 7, (([] : List Value).map fun v => v.category).sum ≤ 8, 0 ≤ 0, 0 ≤ 0]) (k := 76) (args := [.ref l0, .ref l2]) (r := []) (a := 0) (b := 0) rfl ⟨g13, Nat.le_of_ble_eq_true rfl, Nat.zero_le _, Nat.zero_le _⟩ (vX7_followFirst d (by omega) h) ?_
    rintro v S11 ⟨rfl, h⟩
    show jLf (jCall jmt jbud d) jbud (fun j => (jmt j).rk) none mX7_solve (jqV Q) (61, [some (.ref l0), some (.ref l1), some (.ref l2), some (.int l3), none], [], S11, 0, 0)
    exact jLf.ret hc _ rfl (gs := [jrt none none]) (v := none) rfl trivial ⟨rfl, h⟩
  · have h := h.2 hz
    refine jLf.bk hc 2 [] [some (.ref l0), some (.ref l1), some (.ref l2), some (.int l3), some (.int 0)] [] S rfl rfl rfl trivial ?_
    exact tX7_solve_36 d hd hX32 h
def wX7_solve_32   (l0 : Nat) (l1 : Nat) (l2 : Nat) (l3 : Int32) (S : JS) (Q : JS → Prop) : Prop :=
  jLoop (fun (X32 : Nat × Nat × Nat × Int32 × JS → Prop) q => bX7_solve_32 (fun l0 l1 l2 l3 S => X32 (l0, l1, l2, l3, S)) q.1 q.2.1 q.2.2.1 q.2.2.2.1 q.2.2.2.2 Q) (l0, l1, l2, l3, S)
set_option maxRecDepth 20000 in
theorem tX7_solve_32 {Q : JS → Prop}  (d : Nat) (hd : 4 ≤ d) {l0 : Nat} {l1 : Nat} {l2 : Nat} {l3 : Int32} {S : JS} (h : wX7_solve_32 l0 l1 l2 l3 S Q) : jLf (jCall jmt jbud d) jbud (fun j => (jmt j).rk) none mX7_solve (jqV Q) (32, [some (.ref l0), some (.ref l1), some (.ref l2), some (.int l3), none], [], S, 0, 0) := by
  have := h (fun q : Nat × Nat × Nat × Int32 × JS => jLf (jCall jmt jbud d) jbud (fun j => (jmt j).rk) none mX7_solve (jqV Q) (32, [some (.ref (q.1)), some (.ref (q.2.1)), some (.ref (q.2.2.1)), some (.int (q.2.2.2.1)), none], [], q.2.2.2.2, 0, 0)) (fun q R hb hR => uX7_solve_32 d hd  (fun _ _ _ _ _ => hR _) hb)
  exact this
def bX7_solve_5   (X5 : Nat → Nat → Nat → Int32 → JS → Prop) (l0 : Nat) (l1 : Nat) (l2 : Nat) (l3 : Int32) (S : JS) (Q : JS → Prop) : Prop :=
  jA S l1 9 ∧ (((jI S l1 0) ≤ l3 → wX7_solve_32 l0 l1 l2 58 S Q) ∧ (¬ ((jI S l1 0) ≤ l3) → jA S l0 7 ∧ (¬ jR S l0 1 = none ∧ (wX11_placeOf l3 59 S (fun r26 S25 => jA S25 l0 7 ∧ (¬ jR S25 l0 0 = none ∧ (wX11_placeOf l3 59 S25 (fun r30 S29 => jA S29 (jr S25 l0 0) 13 ∧ (vp_in r30 (jZ S29 (jr S25 l0 0)) ∧ (jA S29 (jr S l0 1) 13 ∧ (vp_in r26 (jZ S29 (jr S l0 1)) ∧ (∀ S35 : JS, S35 = uI S29 (jr S l0 1) r26.toNatClampNeg (jI S29 (jr S25 l0 0) r30.toNatClampNeg) → (jA S35 l0 7 ∧ (¬ jR S35 l0 2 = none ∧ (wX11_placeOf l3 59 S35 (fun r39 S38 => jA S38 (jr S35 l0 2) 14 ∧ (vp_in r39 (jZ S38 (jr S35 l0 2)) ∧ (∀ S42 : JS, S42 = uJ S38 (jr S35 l0 2) r39.toNatClampNeg 1 → (∀ x43 : Int32, x43 = (l3 + 1) → (X5 l0 l1 l2 x43 S42))))))))))))))))))))
set_option maxRecDepth 20000 in
theorem uX7_solve_5 {Q : JS → Prop}  (d : Nat) (hd : 4 ≤ d) {X5 : Nat → Nat → Nat → Int32 → JS → Prop} (hX5 : ∀ l0 l1 l2 l3 S, X5 l0 l1 l2 l3 S → jLf (jCall jmt jbud d) jbud (fun j => (jmt j).rk) none mX7_solve (jqV Q) (5, [some (.ref l0), some (.ref l1), some (.ref l2), some (.int l3), none], [], S, 0, 0)) {l0 : Nat} {l1 : Nat} {l2 : Nat} {l3 : Int32} {S : JS} (h : bX7_solve_5 X5 l0 l1 l2 l3 S Q) : jLf (jCall jmt jbud d) jbud (fun j => (jmt j).rk) none mX7_solve (jqV Q) (5, [some (.ref l0), some (.ref l1), some (.ref l2), some (.int l3), none], [], S, 0, 0) := by
  have hc := jCall_mono jmt jbud d
  unfold bX7_solve_5 at h
  obtain ⟨g4, h⟩ := h
  refine jLf.bk hc 3 [jA S l1 9] [some (.ref l0), some (.ref l1), some (.ref l2), some (.int l3), none] [.int (jI S l1 0), .int l3] S rfl rfl rfl g4 ?_
  refine jLf.two hc _ rfl (gs := []) (p1 := (jI S l1 0) ≤ l3) (p2 := ¬ ((jI S l1 0) ≤ l3)) (c1 := (30, [some (.ref l0), some (.ref l1), some (.ref l2), some (.int l3), none], [], S, 0, 0)) (c2 := (9, [some (.ref l0), some (.ref l1), some (.ref l2), some (.int l3), none], [], S, 0, 0)) rfl trivial (fun hz => ?_) (fun hz => ?_)
  · have h := h.1 hz
    refine jLf.bk hc 2 [] [some (.ref l0), some (.ref l1), some (.ref l2), some (.int 58), none] [] S rfl rfl rfl trivial ?_
    exact tX7_solve_32 d hd  h
  · have h := h.2 hz
    obtain ⟨g23, g24, h⟩ := h
    refine jLf.bk hc 4 [jA S l0 7, ¬ jR S l0 1 = none] [some (.ref l0), some (.ref l1), some (.ref l2), some (.int l3), none] [.int 59, .int l3, .ref (jr S l0 1)] S rfl rfl rfl ⟨g23, g24⟩ ?_
    refine jLf.inv hc _ rfl (gs := [2 ≤ ([.int 59, .int l3, .ref (jr S l0 1)] : List Value).length, (([.ref (jr S l0 1)] : List Value).map fun v => v.category).sum ≤ 8, 0 ≤ 0, 0 ≤ 0]) (k := 146) (args := [.int l3, .int 59]) (r := [.ref (jr S l0 1)]) (a := 0) (b := 0) rfl ⟨Nat.le_of_ble_eq_true rfl, Nat.le_of_ble_eq_true rfl, Nat.zero_le _, Nat.zero_le _⟩ (vX11_placeOf d (by omega) h) ?_
    rintro v S25 ⟨r26, rfl, h⟩
    show jLf (jCall jmt jbud d) jbud (fun j => (jmt j).rk) none mX7_solve (jqV Q) (14, [some (.ref l0), some (.ref l1), some (.ref l2), some (.int l3), none], [.int r26, .ref (jr S l0 1)], S25, 0, 0)
    obtain ⟨g27, g28, h⟩ := h
    refine jLf.bk hc 4 [jA S25 l0 7, ¬ jR S25 l0 0 = none] [some (.ref l0), some (.ref l1), some (.ref l2), some (.int l3), none] [.int 59, .int l3, .ref (jr S25 l0 0), .int r26, .ref (jr S l0 1)] S25 rfl rfl rfl ⟨g27, g28⟩ ?_
    refine jLf.inv hc _ rfl (gs := [2 ≤ ([.int 59, .int l3, .ref (jr S25 l0 0), .int r26, .ref (jr S l0 1)] : List Value).length, (([.ref (jr S25 l0 0), .int r26, .ref (jr S l0 1)] : List Value).map fun v => v.category).sum ≤ 8, 0 ≤ 0, 0 ≤ 0]) (k := 146) (args := [.int l3, .int 59]) (r := [.ref (jr S25 l0 0), .int r26, .ref (jr S l0 1)]) (a := 0) (b := 0) rfl ⟨Nat.le_of_ble_eq_true rfl, Nat.le_of_ble_eq_true rfl, Nat.zero_le _, Nat.zero_le _⟩ (vX11_placeOf d (by omega) h) ?_
    rintro v S29 ⟨r30, rfl, h⟩
    show jLf (jCall jmt jbud d) jbud (fun j => (jmt j).rk) none mX7_solve (jqV Q) (19, [some (.ref l0), some (.ref l1), some (.ref l2), some (.int l3), none], [.int r30, .ref (jr S25 l0 0), .int r26, .ref (jr S l0 1)], S29, 0, 0)
    obtain ⟨g31, g32, g33, g34, h⟩ := h
    refine jLf.bk hc 2 [jA S29 (jr S25 l0 0) 13, vp_in r30 (jZ S29 (jr S25 l0 0)), jA S29 (jr S l0 1) 13, vp_in r26 (jZ S29 (jr S l0 1))] [some (.ref l0), some (.ref l1), some (.ref l2), some (.int l3), none] [] (uI S29 (jr S l0 1) r26.toNatClampNeg (jI S29 (jr S25 l0 0) r30.toNatClampNeg)) rfl rfl rfl ⟨g31, g32, g33, g34⟩ ?_
    generalize eS35 : uI S29 (jr S l0 1) r26.toNatClampNeg (jI S29 (jr S25 l0 0) r30.toNatClampNeg) = S35
    have h := h S35 eS35.symm
    obtain ⟨g36, g37, h⟩ := h
    refine jLf.bk hc 4 [jA S35 l0 7, ¬ jR S35 l0 2 = none] [some (.ref l0), some (.ref l1), some (.ref l2), some (.int l3), none] [.int 59, .int l3, .ref (jr S35 l0 2)] S35 rfl rfl rfl ⟨g36, g37⟩ ?_
    refine jLf.inv hc _ rfl (gs := [2 ≤ ([.int 59, .int l3, .ref (jr S35 l0 2)] : List Value).length, (([.ref (jr S35 l0 2)] : List Value).map fun v => v.category).sum ≤ 8, 0 ≤ 0, 0 ≤ 0]) (k := 146) (args := [.int l3, .int 59]) (r := [.ref (jr S35 l0 2)]) (a := 0) (b := 0) rfl ⟨Nat.le_of_ble_eq_true rfl, Nat.le_of_ble_eq_true rfl, Nat.zero_le _, Nat.zero_le _⟩ (vX11_placeOf d (by omega) h) ?_
    rintro v S38 ⟨r39, rfl, h⟩
    show jLf (jCall jmt jbud d) jbud (fun j => (jmt j).rk) none mX7_solve (jqV Q) (26, [some (.ref l0), some (.ref l1), some (.ref l2), some (.int l3), none], [.int r39, .ref (jr S35 l0 2)], S38, 0, 0)
    obtain ⟨g40, g41, h⟩ := h
    refine jLf.bk hc 2 [jA S38 (jr S35 l0 2) 14, vp_in r39 (jZ S38 (jr S35 l0 2))] [some (.ref l0), some (.ref l1), some (.ref l2), some (.int l3), none] [] (uJ S38 (jr S35 l0 2) r39.toNatClampNeg 1) rfl rfl rfl ⟨g40, g41⟩ ?_
    generalize eS42 : uJ S38 (jr S35 l0 2) r39.toNatClampNeg 1 = S42
    have h := h S42 eS42.symm
    refine jLf.bk hc 1 [] [some (.ref l0), some (.ref l1), some (.ref l2), some (.int (l3 + 1)), none] [] S42 rfl rfl rfl trivial ?_
    generalize ex43 : (l3 + 1 : Int32) = x43
    have h := h x43 ex43.symm
    refine jLf.one hc _ rfl (gs := []) (c := (5, [some (.ref l0), some (.ref l1), some (.ref l2), some (.int x43), none], [], S42, 0, 0)) rfl trivial ?_
    exact hX5 _ _ _ _ _ h
def wX7_solve_5   (l0 : Nat) (l1 : Nat) (l2 : Nat) (l3 : Int32) (S : JS) (Q : JS → Prop) : Prop :=
  jLoop (fun (X5 : Nat × Nat × Nat × Int32 × JS → Prop) q => bX7_solve_5 (fun l0 l1 l2 l3 S => X5 (l0, l1, l2, l3, S)) q.1 q.2.1 q.2.2.1 q.2.2.2.1 q.2.2.2.2 Q) (l0, l1, l2, l3, S)
set_option maxRecDepth 20000 in
theorem tX7_solve_5 {Q : JS → Prop}  (d : Nat) (hd : 4 ≤ d) {l0 : Nat} {l1 : Nat} {l2 : Nat} {l3 : Int32} {S : JS} (h : wX7_solve_5 l0 l1 l2 l3 S Q) : jLf (jCall jmt jbud d) jbud (fun j => (jmt j).rk) none mX7_solve (jqV Q) (5, [some (.ref l0), some (.ref l1), some (.ref l2), some (.int l3), none], [], S, 0, 0) := by
  have := h (fun q : Nat × Nat × Nat × Int32 × JS => jLf (jCall jmt jbud d) jbud (fun j => (jmt j).rk) none mX7_solve (jqV Q) (5, [some (.ref (q.1)), some (.ref (q.2.1)), some (.ref (q.2.2.1)), some (.int (q.2.2.2.1)), none], [], q.2.2.2.2, 0, 0)) (fun q R hb hR => uX7_solve_5 d hd  (fun _ _ _ _ _ => hR _) hb)
  exact this
def wX7_solve  (this : Nat) (p1 : Nat) (p2 : Nat) (S : JS) (Q : JS → Prop) : Prop :=
  jA S this 7 ∧ (wX7_countLying this p1 S (fun S1 => wX7_solve_5 this p1 p2 0 S1 Q))
set_option maxRecDepth 20000 in
theorem vX7_solve {Q : JS → Prop} (d : Nat) (hd : 5 ≤ d) {this : Nat} {p1 : Nat} {p2 : Nat} {S : JS} (h : wX7_solve this p1 p2 S Q) : jCall jmt jbud d 71 [.ref this, .ref p1, .ref p2] S (jqV Q) := by
  obtain ⟨d, rfl⟩ : ∃ d2, d = d2 + 1 := ⟨d - 1, by omega⟩
  have hd : 4 ≤ d := by omega
  have hc := jCall_mono jmt jbud d
  unfold wX7_solve at h
  refine ⟨Nat.le_of_ble_eq_true rfl, ?_⟩
  show jLf (jCall jmt jbud d) jbud (fun j => (jmt j).rk) none mX7_solve (jqV Q) (0, [some (.ref this), some (.ref p1), some (.ref p2), none, none], [], S, 0, 0)
  refine jLf.bk hc 2 [] [some (.ref this), some (.ref p1), some (.ref p2), none, none] [.ref p1, .ref this] S rfl rfl rfl trivial ?_
  obtain ⟨g3, h⟩ := h
  refine jLf.inv hc _ rfl (gs := [jA S this 7, (([] : List Value).map fun v => v.category).sum ≤ 8, 0 ≤ 0, 0 ≤ 0]) (k := 72) (args := [.ref this, .ref p1]) (r := []) (a := 0) (b := 0) rfl ⟨g3, Nat.le_of_ble_eq_true rfl, Nat.zero_le _, Nat.zero_le _⟩ (vX7_countLying d (by omega) h) ?_
  rintro v S1 ⟨rfl, h⟩
  show jLf (jCall jmt jbud d) jbud (fun j => (jmt j).rk) none mX7_solve (jqV Q) (3, [some (.ref this), some (.ref p1), some (.ref p2), none, none], [], S1, 0, 0)
  refine jLf.bk hc 2 [] [some (.ref this), some (.ref p1), some (.ref p2), some (.int 0), none] [] S1 rfl rfl rfl trivial ?_
  exact tX7_solve_5 d hd  h
def wX7_lyingReports_57  (X4 : Nat → Nat → Int32 → Int32 → Int32 → JS → Prop) (l0 : Nat) (l1 : Nat) (l2 : Int32) (l3 : Int32) (l4 : Int32) (S : JS) (Q : Int32 → JS → Prop) : Prop :=
  ∀ x19 : Int32, x19 = (l4 + 1) → (X4 l0 l1 l2 l3 x19 S)
set_option maxRecDepth 20000 in
theorem tX7_lyingReports_57 {Q : Int32 → JS → Prop} {X4 : Nat → Nat → Int32 → Int32 → Int32 → JS → Prop} (d : Nat) (hd : 0 ≤ d) (hX4 : ∀ l0 l1 l2 l3 l4 S, X4 l0 l1 l2 l3 l4 S → jLf (jCall jmt jbud d) jbud (fun j => (jmt j).rk) none mX7_lyingReports (jqI Q) (4, [some (.ref l0), some (.ref l1), some (.int l2), some (.int l3), some (.int l4), none, none, none], [], S, 0, 0)) {l0 : Nat} {l1 : Nat} {l2 : Int32} {l3 : Int32} {l4 : Int32} {S : JS} (h : wX7_lyingReports_57 X4 l0 l1 l2 l3 l4 S Q) : jLf (jCall jmt jbud d) jbud (fun j => (jmt j).rk) none mX7_lyingReports (jqI Q) (57, [some (.ref l0), some (.ref l1), some (.int l2), some (.int l3), some (.int l4), none, none, none], [], S, 0, 0) := by
  have hc := jCall_mono jmt jbud d
  unfold wX7_lyingReports_57 at h
  refine jLf.bk hc 1 [] [some (.ref l0), some (.ref l1), some (.int l2), some (.int l3), some (.int (l4 + 1)), none, none, none] [] S rfl rfl rfl trivial ?_
  generalize ex19 : (l4 + 1 : Int32) = x19
  have h := h x19 ex19.symm
  refine jLf.one hc _ rfl (gs := []) (c := (4, [some (.ref l0), some (.ref l1), some (.int l2), some (.int l3), some (.int x19), none, none, none], [], S, 0, 0)) rfl trivial ?_
  exact hX4 _ _ _ _ _ _ h
def wX7_lyingReports_51  (X4 : Nat → Nat → Int32 → Int32 → Int32 → JS → Prop) (l0 : Nat) (l1 : Nat) (l2 : Int32) (l3 : Int32) (l4 : Int32) (S : JS) (Q : Int32 → JS → Prop) : Prop :=
  ∀ x20 : Int32, x20 = (l3 ||| ((1 : Int32) <<< (l4 &&& 31))) → (wX7_lyingReports_57 X4 l0 l1 l2 x20 l4 S Q)
set_option maxRecDepth 20000 in
theorem tX7_lyingReports_51 {Q : Int32 → JS → Prop} {X4 : Nat → Nat → Int32 → Int32 → Int32 → JS → Prop} (d : Nat) (hd : 0 ≤ d) (hX4 : ∀ l0 l1 l2 l3 l4 S, X4 l0 l1 l2 l3 l4 S → jLf (jCall jmt jbud d) jbud (fun j => (jmt j).rk) none mX7_lyingReports (jqI Q) (4, [some (.ref l0), some (.ref l1), some (.int l2), some (.int l3), some (.int l4), none, none, none], [], S, 0, 0)) {l0 : Nat} {l1 : Nat} {l2 : Int32} {l3 : Int32} {l4 : Int32} {S : JS} (h : wX7_lyingReports_51 X4 l0 l1 l2 l3 l4 S Q) : jLf (jCall jmt jbud d) jbud (fun j => (jmt j).rk) none mX7_lyingReports (jqI Q) (51, [some (.ref l0), some (.ref l1), some (.int l2), some (.int l3), some (.int l4), none, none, none], [], S, 0, 0) := by
  have hc := jCall_mono jmt jbud d
  unfold wX7_lyingReports_51 at h
  refine jLf.bk hc 6 [] [some (.ref l0), some (.ref l1), some (.int l2), some (.int (l3 ||| ((1 : Int32) <<< (l4 &&& 31)))), some (.int l4), none, none, none] [] S rfl rfl rfl trivial ?_
  generalize ex20 : (l3 ||| ((1 : Int32) <<< (l4 &&& 31)) : Int32) = x20
  have h := h x20 ex20.symm
  exact tX7_lyingReports_57 d hd hX4 h
def wX7_lyingReports_42  (X4 : Nat → Nat → Int32 → Int32 → Int32 → JS → Prop) (l0 : Nat) (l1 : Nat) (l2 : Int32) (l3 : Int32) (l4 : Int32) (l6 : Int32) (s0 : Int32) (S : JS) (Q : Int32 → JS → Prop) : Prop :=
  (l2 = 0 → (s0 = 0 → wX7_lyingReports_57 X4 l0 l1 l2 l3 l4 S Q) ∧ (¬ s0 = 0 → wX7_lyingReports_51 X4 l0 l1 l2 l3 l4 S Q)) ∧ (¬ l2 = 0 → (¬ s0 = l6 → wX7_lyingReports_57 X4 l0 l1 l2 l3 l4 S Q) ∧ (s0 = l6 → wX7_lyingReports_51 X4 l0 l1 l2 l3 l4 S Q))
set_option maxRecDepth 20000 in
theorem tX7_lyingReports_42 {Q : Int32 → JS → Prop} {X4 : Nat → Nat → Int32 → Int32 → Int32 → JS → Prop} (d : Nat) (hd : 0 ≤ d) (hX4 : ∀ l0 l1 l2 l3 l4 S, X4 l0 l1 l2 l3 l4 S → jLf (jCall jmt jbud d) jbud (fun j => (jmt j).rk) none mX7_lyingReports (jqI Q) (4, [some (.ref l0), some (.ref l1), some (.int l2), some (.int l3), some (.int l4), none, none, none], [], S, 0, 0)) {l0 : Nat} {l1 : Nat} {l2 : Int32} {l3 : Int32} {l4 : Int32} {l6 : Int32} {s0 : Int32} {S : JS} (h : wX7_lyingReports_42 X4 l0 l1 l2 l3 l4 l6 s0 S Q) : jLf (jCall jmt jbud d) jbud (fun j => (jmt j).rk) none mX7_lyingReports (jqI Q) (42, [some (.ref l0), some (.ref l1), some (.int l2), some (.int l3), some (.int l4), none, some (.int l6), none], [.int s0], S, 0, 0) := by
  have hc := jCall_mono jmt jbud d
  unfold wX7_lyingReports_42 at h
  refine jLf.bk hc 2 [] [some (.ref l0), some (.ref l1), some (.int l2), some (.int l3), some (.int l4), none, some (.int l6), some (.int s0)] [.int l2] S rfl rfl rfl trivial ?_
  refine jLf.two hc _ rfl (gs := []) (p1 := l2 = 0) (p2 := ¬ (l2 = 0)) (c1 := (49, [some (.ref l0), some (.ref l1), some (.int l2), some (.int l3), some (.int l4), none, some (.int l6), some (.int s0)], [], S, 0, 0)) (c2 := (45, [some (.ref l0), some (.ref l1), some (.int l2), some (.int l3), some (.int l4), none, some (.int l6), some (.int s0)], [], S, 0, 0)) rfl trivial (fun hz => ?_) (fun hz => ?_)
  · have h := h.1 hz
    refine jLf.bk hc 1 [] [some (.ref l0), some (.ref l1), some (.int l2), some (.int l3), some (.int l4), none, some (.int l6), some (.int s0)] [.int s0] S rfl rfl rfl trivial ?_
    refine jLf.two hc _ rfl (gs := []) (p1 := s0 = 0) (p2 := ¬ (s0 = 0)) (c1 := (57, [some (.ref l0), some (.ref l1), some (.int l2), some (.int l3), some (.int l4), none, some (.int l6), some (.int s0)], [], S, 0, 0)) (c2 := (51, [some (.ref l0), some (.ref l1), some (.int l2), some (.int l3), some (.int l4), none, some (.int l6), some (.int s0)], [], S, 0, 0)) rfl trivial (fun hz => ?_) (fun hz => ?_)
    · have h := h.1 hz
      refine jLf.sub [some (.ref l0), some (.ref l1), some (.int l2), some (.int l3), some (.int l4), none, none, none] (jle_same (jle_same (jle_same (jle_same (jle_same (jle_same (jle_none (jle_none (jle_nil _))))))))) ?_
      exact tX7_lyingReports_57 d hd hX4 h
    · have h := h.2 hz
      refine jLf.sub [some (.ref l0), some (.ref l1), some (.int l2), some (.int l3), some (.int l4), none, none, none] (jle_same (jle_same (jle_same (jle_same (jle_same (jle_same (jle_none (jle_none (jle_nil _))))))))) ?_
      exact tX7_lyingReports_51 d hd hX4 h
  · have h := h.2 hz
    refine jLf.bk hc 2 [] [some (.ref l0), some (.ref l1), some (.int l2), some (.int l3), some (.int l4), none, some (.int l6), some (.int s0)] [.int l6, .int s0] S rfl rfl rfl trivial ?_
    refine jLf.two hc _ rfl (gs := []) (p1 := ¬ s0 = l6) (p2 := ¬ (¬ s0 = l6)) (c1 := (57, [some (.ref l0), some (.ref l1), some (.int l2), some (.int l3), some (.int l4), none, some (.int l6), some (.int s0)], [], S, 0, 0)) (c2 := (48, [some (.ref l0), some (.ref l1), some (.int l2), some (.int l3), some (.int l4), none, some (.int l6), some (.int s0)], [], S, 0, 0)) rfl trivial (fun hz => ?_) (fun hz => ?_)
    · have h := h.1 hz
      refine jLf.sub [some (.ref l0), some (.ref l1), some (.int l2), some (.int l3), some (.int l4), none, none, none] (jle_same (jle_same (jle_same (jle_same (jle_same (jle_same (jle_none (jle_none (jle_nil _))))))))) ?_
      exact tX7_lyingReports_57 d hd hX4 h
    · have h := h.2 (Classical.not_not.mp hz)
      refine jLf.one hc _ rfl (gs := []) (c := (51, [some (.ref l0), some (.ref l1), some (.int l2), some (.int l3), some (.int l4), none, some (.int l6), some (.int s0)], [], S, 0, 0)) rfl trivial ?_
      refine jLf.sub [some (.ref l0), some (.ref l1), some (.int l2), some (.int l3), some (.int l4), none, none, none] (jle_same (jle_same (jle_same (jle_same (jle_same (jle_same (jle_none (jle_none (jle_nil _))))))))) ?_
      exact tX7_lyingReports_51 d hd hX4 h
def bX7_lyingReports_4   (X4 : Nat → Nat → Int32 → Int32 → Int32 → JS → Prop) (l0 : Nat) (l1 : Nat) (l2 : Int32) (l3 : Int32) (l4 : Int32) (S : JS) (Q : Int32 → JS → Prop) : Prop :=
  jA S l1 9 ∧ (¬ jR S l1 5 = none ∧ (jA S (jr S l1 5) 8 ∧ (((jI S (jr S l1 5) 3) ≤ l4 → Q l3 S) ∧ (¬ ((jI S (jr S l1 5) 3) ≤ l4) → ¬ jR S (jr S l1 5) 0 = none ∧ (jA S (jr S (jr S l1 5) 0) 13 ∧ (vp_in l4 (jZ S (jr S (jr S l1 5) 0)) ∧ (∀ x7 : Int32, x7 = ((1 : Int32) <<< ((jI S (jr S (jr S l1 5) 0) l4.toNatClampNeg) &&& 31)) → (jA S l0 7 ∧ (¬ jR S l0 3 = none ∧ (¬ jR S (jr S l1 5) 1 = none ∧ (jA S (jr S (jr S l1 5) 1) 13 ∧ (vp_in l4 (jZ S (jr S (jr S l1 5) 1)) ∧ (jA S (jr S l0 3) 13 ∧ (vp_in (jI S (jr S (jr S l1 5) 1) l4.toNatClampNeg) (jZ S (jr S l0 3)) ∧ (∀ x15 : Int32, x15 = (jI S (jr S l0 3) (jI S (jr S (jr S l1 5) 1) l4.toNatClampNeg).toNatClampNeg) → (¬ jR S (jr S l1 5) 2 = none ∧ (jA S (jr S (jr S l1 5) 2) 13 ∧ (vp_in l4 (jZ S (jr S (jr S l1 5) 2)) ∧ ((¬ (jI S (jr S (jr S l1 5) 2) l4.toNatClampNeg) = 1 → wX7_lyingReports_42 X4 l0 l1 l2 l3 l4 x15 (x15 &&& x7) S Q) ∧ ((jI S (jr S (jr S l1 5) 2) l4.toNatClampNeg) = 1 → wX7_lyingReports_42 X4 l0 l1 l2 l3 l4 x15 (x15 &&& (x7 ^^^ (-1 : Int32))) S Q))))))))))))))))))))
set_option maxRecDepth 20000 in
theorem uX7_lyingReports_4 {Q : Int32 → JS → Prop}  (d : Nat) (hd : 0 ≤ d) {X4 : Nat → Nat → Int32 → Int32 → Int32 → JS → Prop} (hX4 : ∀ l0 l1 l2 l3 l4 S, X4 l0 l1 l2 l3 l4 S → jLf (jCall jmt jbud d) jbud (fun j => (jmt j).rk) none mX7_lyingReports (jqI Q) (4, [some (.ref l0), some (.ref l1), some (.int l2), some (.int l3), some (.int l4), none, none, none], [], S, 0, 0)) {l0 : Nat} {l1 : Nat} {l2 : Int32} {l3 : Int32} {l4 : Int32} {S : JS} (h : bX7_lyingReports_4 X4 l0 l1 l2 l3 l4 S Q) : jLf (jCall jmt jbud d) jbud (fun j => (jmt j).rk) none mX7_lyingReports (jqI Q) (4, [some (.ref l0), some (.ref l1), some (.int l2), some (.int l3), some (.int l4), none, none, none], [], S, 0, 0) := by
  have hc := jCall_mono jmt jbud d
  unfold bX7_lyingReports_4 at h
  obtain ⟨g1, g2, g3, h⟩ := h
  refine jLf.bk hc 4 [jA S l1 9, ¬ jR S l1 5 = none, jA S (jr S l1 5) 8] [some (.ref l0), some (.ref l1), some (.int l2), some (.int l3), some (.int l4), none, none, none] [.int (jI S (jr S l1 5) 3), .int l4] S rfl rfl rfl ⟨g1, g2, g3⟩ ?_
  refine jLf.two hc _ rfl (gs := []) (p1 := (jI S (jr S l1 5) 3) ≤ l4) (p2 := ¬ ((jI S (jr S l1 5) 3) ≤ l4)) (c1 := (59, [some (.ref l0), some (.ref l1), some (.int l2), some (.int l3), some (.int l4), none, none, none], [], S, 0, 0)) (c2 := (9, [some (.ref l0), some (.ref l1), some (.int l2), some (.int l3), some (.int l4), none, none, none], [], S, 0, 0)) rfl trivial (fun hz => ?_) (fun hz => ?_)
  · have h := h.1 hz
    refine jLf.bk hc 1 [] [some (.ref l0), some (.ref l1), some (.int l2), some (.int l3), some (.int l4), none, none, none] [.int l3] S rfl rfl rfl trivial ?_
    exact jLf.ret hc _ rfl (gs := [True]) (v := some (.int l3)) rfl trivial ⟨l3, rfl, h⟩
  · have h := h.2 hz
    obtain ⟨g4, g5, g6, h⟩ := h
    refine jLf.bk hc 8 [jA S l1 9, ¬ jR S l1 5 = none, jA S (jr S l1 5) 8, ¬ jR S (jr S l1 5) 0 = none, jA S (jr S (jr S l1 5) 0) 13, vp_in l4 (jZ S (jr S (jr S l1 5) 0))] [some (.ref l0), some (.ref l1), some (.int l2), some (.int l3), some (.int l4), some (.int ((1 : Int32) <<< ((jI S (jr S (jr S l1 5) 0) l4.toNatClampNeg) &&& 31))), none, none] [] S rfl rfl rfl ⟨g1, g2, g3, g4, g5, g6⟩ ?_
    generalize ex7 : ((1 : Int32) <<< ((jI S (jr S (jr S l1 5) 0) l4.toNatClampNeg) &&& 31) : Int32) = x7
    have h := h x7 ex7.symm
    obtain ⟨g8, g9, g10, g11, g12, g13, g14, h⟩ := h
    refine jLf.bk hc 9 [jA S l0 7, ¬ jR S l0 3 = none, jA S l1 9, ¬ jR S l1 5 = none, jA S (jr S l1 5) 8, ¬ jR S (jr S l1 5) 1 = none, jA S (jr S (jr S l1 5) 1) 13, vp_in l4 (jZ S (jr S (jr S l1 5) 1)), jA S (jr S l0 3) 13, vp_in (jI S (jr S (jr S l1 5) 1) l4.toNatClampNeg) (jZ S (jr S l0 3))] [some (.ref l0), some (.ref l1), some (.int l2), some (.int l3), some (.int l4), some (.int x7), some (.int (jI S (jr S l0 3) (jI S (jr S (jr S l1 5) 1) l4.toNatClampNeg).toNatClampNeg)), none] [] S rfl rfl rfl ⟨g8, g9, g1, g2, g3, g10, g11, g12, g13, g14⟩ ?_
    generalize ex15 : (jI S (jr S l0 3) (jI S (jr S (jr S l1 5) 1) l4.toNatClampNeg).toNatClampNeg : Int32) = x15
    have h := h x15 ex15.symm
    obtain ⟨g16, g17, g18, h⟩ := h
    refine jLf.bk hc 6 [jA S l1 9, ¬ jR S l1 5 = none, jA S (jr S l1 5) 8, ¬ jR S (jr S l1 5) 2 = none, jA S (jr S (jr S l1 5) 2) 13, vp_in l4 (jZ S (jr S (jr S l1 5) 2))] [some (.ref l0), some (.ref l1), some (.int l2), some (.int l3), some (.int l4), some (.int x7), some (.int x15), none] [.int 1, .int (jI S (jr S (jr S l1 5) 2) l4.toNatClampNeg)] S rfl rfl rfl ⟨g1, g2, g3, g16, g17, g18⟩ ?_
    refine jLf.two hc _ rfl (gs := []) (p1 := ¬ (jI S (jr S (jr S l1 5) 2) l4.toNatClampNeg) = 1) (p2 := ¬ (¬ (jI S (jr S (jr S l1 5) 2) l4.toNatClampNeg) = 1)) (c1 := (39, [some (.ref l0), some (.ref l1), some (.int l2), some (.int l3), some (.int l4), some (.int x7), some (.int x15), none], [], S, 0, 0)) (c2 := (33, [some (.ref l0), some (.ref l1), some (.int l2), some (.int l3), some (.int l4), some (.int x7), some (.int x15), none], [], S, 0, 0)) rfl trivial (fun hz => ?_) (fun hz => ?_)
    · have h := h.1 hz
      refine jLf.bk hc 3 [] [some (.ref l0), some (.ref l1), some (.int l2), some (.int l3), some (.int l4), some (.int x7), some (.int x15), none] [.int (x15 &&& x7)] S rfl rfl rfl trivial ?_
      refine jLf.sub [some (.ref l0), some (.ref l1), some (.int l2), some (.int l3), some (.int l4), none, some (.int x15), none] (jle_same (jle_same (jle_same (jle_same (jle_same (jle_none (jle_same (jle_same (jle_nil _))))))))) ?_
      exact tX7_lyingReports_42 d hd hX4 h
    · have h := h.2 (Classical.not_not.mp hz)
      refine jLf.bk hc 5 [] [some (.ref l0), some (.ref l1), some (.int l2), some (.int l3), some (.int l4), some (.int x7), some (.int x15), none] [.int (x15 &&& (x7 ^^^ (-1 : Int32)))] S rfl rfl rfl trivial ?_
      refine jLf.one hc _ rfl (gs := []) (c := (42, [some (.ref l0), some (.ref l1), some (.int l2), some (.int l3), some (.int l4), some (.int x7), some (.int x15), none], [.int (x15 &&& (x7 ^^^ (-1 : Int32)))], S, 0, 0)) rfl trivial ?_
      refine jLf.sub [some (.ref l0), some (.ref l1), some (.int l2), some (.int l3), some (.int l4), none, some (.int x15), none] (jle_same (jle_same (jle_same (jle_same (jle_same (jle_none (jle_same (jle_same (jle_nil _))))))))) ?_
      exact tX7_lyingReports_42 d hd hX4 h
def wX7_lyingReports_4   (l0 : Nat) (l1 : Nat) (l2 : Int32) (l3 : Int32) (l4 : Int32) (S : JS) (Q : Int32 → JS → Prop) : Prop :=
  jLoop (fun (X4 : Nat × Nat × Int32 × Int32 × Int32 × JS → Prop) q => bX7_lyingReports_4 (fun l0 l1 l2 l3 l4 S => X4 (l0, l1, l2, l3, l4, S)) q.1 q.2.1 q.2.2.1 q.2.2.2.1 q.2.2.2.2.1 q.2.2.2.2.2 Q) (l0, l1, l2, l3, l4, S)
set_option maxRecDepth 20000 in
theorem tX7_lyingReports_4 {Q : Int32 → JS → Prop}  (d : Nat) (hd : 0 ≤ d) {l0 : Nat} {l1 : Nat} {l2 : Int32} {l3 : Int32} {l4 : Int32} {S : JS} (h : wX7_lyingReports_4 l0 l1 l2 l3 l4 S Q) : jLf (jCall jmt jbud d) jbud (fun j => (jmt j).rk) none mX7_lyingReports (jqI Q) (4, [some (.ref l0), some (.ref l1), some (.int l2), some (.int l3), some (.int l4), none, none, none], [], S, 0, 0) := by
  have := h (fun q : Nat × Nat × Int32 × Int32 × Int32 × JS => jLf (jCall jmt jbud d) jbud (fun j => (jmt j).rk) none mX7_lyingReports (jqI Q) (4, [some (.ref (q.1)), some (.ref (q.2.1)), some (.int (q.2.2.1)), some (.int (q.2.2.2.1)), some (.int (q.2.2.2.2.1)), none, none, none], [], q.2.2.2.2.2, 0, 0)) (fun q R hb hR => uX7_lyingReports_4 d hd  (fun _ _ _ _ _ _ => hR _) hb)
  exact this
def wX7_lyingReports  (this : Nat) (p1 : Nat) (p2 : Int32) (S : JS) (Q : Int32 → JS → Prop) : Prop :=
  wX7_lyingReports_4 this p1 p2 0 0 S Q
set_option maxRecDepth 20000 in
theorem vX7_lyingReports {Q : Int32 → JS → Prop} (d : Nat) (hd : 1 ≤ d) {this : Nat} {p1 : Nat} {p2 : Int32} {S : JS} (h : wX7_lyingReports this p1 p2 S Q) : jCall jmt jbud d 79 [.ref this, .ref p1, .int p2] S (jqI Q) := by
  obtain ⟨d, rfl⟩ : ∃ d2, d = d2 + 1 := ⟨d - 1, by omega⟩
  have hd : 0 ≤ d := by omega
  have hc := jCall_mono jmt jbud d
  unfold wX7_lyingReports at h
  refine ⟨Nat.le_of_ble_eq_true rfl, ?_⟩
  show jLf (jCall jmt jbud d) jbud (fun j => (jmt j).rk) none mX7_lyingReports (jqI Q) (0, [some (.ref this), some (.ref p1), some (.int p2), none, none, none, none, none], [], S, 0, 0)
  refine jLf.bk hc 4 [] [some (.ref this), some (.ref p1), some (.int p2), some (.int 0), some (.int 0), none, none, none] [] S rfl rfl rfl trivial ?_
  exact tX7_lyingReports_4 d hd  h
def wX8_init  (this : Nat) (p1 : Int32) (S : JS) (Q : JS → Prop) : Prop :=
  ¬ p1 < 0 ∧ (p1.toNatClampNeg ≤ 1000000 ∧ (p1.toNatClampNeg ≤ 48 ∧ (jN S < 1000000 ∧ (∀ h6 : Nat, h6 = jN S → (∀ S1 : JS, S1 = uNew S 13 (p1.toNatClampNeg) → (jA S1 this 8 ∧ (∀ S8 : JS, S8 = uR S1 this 0 (some h6) → (p1.toNatClampNeg ≤ (48 - (p1.toNatClampNeg)) ∧ (jN S8 < 1000000 ∧ (∀ h12 : Nat, h12 = jN S8 → (∀ S9 : JS, S9 = uNew S8 13 (p1.toNatClampNeg) → (jA S9 this 8 ∧ (∀ S14 : JS, S14 = uR S9 this 1 (some h12) → (p1.toNatClampNeg ≤ ((48 - (p1.toNatClampNeg)) - (p1.toNatClampNeg)) ∧ (jN S14 < 1000000 ∧ (∀ h18 : Nat, h18 = jN S14 → (∀ S15 : JS, S15 = uNew S14 13 (p1.toNatClampNeg) → (jA S15 this 8 ∧ (∀ S20 : JS, S20 = uR S15 this 2 (some h18) → (Q S20))))))))))))))))))))
set_option maxRecDepth 20000 in
theorem vX8_init {Q : JS → Prop} (d : Nat) (hd : 1 ≤ d) {this : Nat} {p1 : Int32} {S : JS} (h : wX8_init this p1 S Q) : jCall jmt jbud d 80 [.ref this, .int p1] S (jqV Q) := by
  obtain ⟨d, rfl⟩ : ∃ d2, d = d2 + 1 := ⟨d - 1, by omega⟩
  have hd : 0 ≤ d := by omega
  have hc := jCall_mono jmt jbud d
  unfold wX8_init at h
  refine ⟨Nat.le_of_ble_eq_true rfl, ?_⟩
  show jLf (jCall jmt jbud d) jbud (fun j => (jmt j).rk) none mX8_init (jqV Q) (0, [some (.ref this), some (.int p1)], [], S, 3, 48)
  refine jLf.bk hc 4 [(([] : List Value).map fun v => v.category).sum ≤ 8] [some (.ref this), some (.int p1)] [.int p1, .ref this] S rfl rfl rfl (Nat.le_of_ble_eq_true rfl) ?_
  obtain ⟨g2, g3, g4, g5, h⟩ := h
  refine jLf.one hc _ rfl (gs := [¬ p1 < 0, p1.toNatClampNeg ≤ 1000000, 1 ≤ 3, p1.toNatClampNeg ≤ 48, jN S < 1000000]) (c := (5, [some (.ref this), some (.int p1)], [.ref (jN S), .ref this], (uNew S 13 (p1.toNatClampNeg)), 2, (48 - (p1.toNatClampNeg)))) rfl ⟨g2, g3, Nat.le_of_ble_eq_true rfl, g4, g5⟩ ?_
  generalize eS1 : uNew S 13 (p1.toNatClampNeg) = S1
  generalize eh6 : jN S = h6
  have h := h h6 eh6.symm S1 eS1.symm
  obtain ⟨g7, h⟩ := h
  refine jLf.bk hc 1 [jA S1 this 8] [some (.ref this), some (.int p1)] [] (uR S1 this 0 (some h6)) rfl rfl rfl g7 ?_
  generalize eS8 : uR S1 this 0 (some h6) = S8
  have h := h S8 eS8.symm
  refine jLf.bk hc 2 [] [some (.ref this), some (.int p1)] [.int p1, .ref this] S8 rfl rfl rfl trivial ?_
  obtain ⟨g10, g11, h⟩ := h
  refine jLf.one hc _ rfl (gs := [¬ p1 < 0, p1.toNatClampNeg ≤ 1000000, 1 ≤ 2, p1.toNatClampNeg ≤ (48 - (p1.toNatClampNeg)), jN S8 < 1000000]) (c := (9, [some (.ref this), some (.int p1)], [.ref (jN S8), .ref this], (uNew S8 13 (p1.toNatClampNeg)), 1, ((48 - (p1.toNatClampNeg)) - (p1.toNatClampNeg)))) rfl ⟨g2, g3, Nat.le_of_ble_eq_true rfl, g10, g11⟩ ?_
  generalize eS9 : uNew S8 13 (p1.toNatClampNeg) = S9
  generalize eh12 : jN S8 = h12
  have h := h h12 eh12.symm S9 eS9.symm
  obtain ⟨g13, h⟩ := h
  refine jLf.bk hc 1 [jA S9 this 8] [some (.ref this), some (.int p1)] [] (uR S9 this 1 (some h12)) rfl rfl rfl g13 ?_
  generalize eS14 : uR S9 this 1 (some h12) = S14
  have h := h S14 eS14.symm
  refine jLf.bk hc 2 [] [some (.ref this), some (.int p1)] [.int p1, .ref this] S14 rfl rfl rfl trivial ?_
  obtain ⟨g16, g17, h⟩ := h
  refine jLf.one hc _ rfl (gs := [¬ p1 < 0, p1.toNatClampNeg ≤ 1000000, 1 ≤ 1, p1.toNatClampNeg ≤ ((48 - (p1.toNatClampNeg)) - (p1.toNatClampNeg)), jN S14 < 1000000]) (c := (13, [some (.ref this), some (.int p1)], [.ref (jN S14), .ref this], (uNew S14 13 (p1.toNatClampNeg)), 0, (((48 - (p1.toNatClampNeg)) - (p1.toNatClampNeg)) - (p1.toNatClampNeg)))) rfl ⟨g2, g3, Nat.le_of_ble_eq_true rfl, g16, g17⟩ ?_
  generalize eS15 : uNew S14 13 (p1.toNatClampNeg) = S15
  generalize eh18 : jN S14 = h18
  have h := h h18 eh18.symm S15 eS15.symm
  obtain ⟨g19, h⟩ := h
  refine jLf.bk hc 1 [jA S15 this 8] [some (.ref this), some (.int p1)] [] (uR S15 this 2 (some h18)) rfl rfl rfl g19 ?_
  generalize eS20 : uR S15 this 2 (some h18) = S20
  have h := h S20 eS20.symm
  exact jLf.ret hc _ rfl (gs := [jrt none none]) (v := none) rfl trivial ⟨rfl, h⟩
def wX8_isFull  (this : Nat) (S : JS) (Q : Int32 → JS → Prop) : Prop :=
  jA S this 8 ∧ (¬ jR S this 0 = none ∧ (jA S (jr S this 0) 13 ∧ (((jI S this 3) < (Int32.ofNat (jZ S (jr S this 0))) → Q 0 S) ∧ (¬ ((jI S this 3) < (Int32.ofNat (jZ S (jr S this 0)))) → Q 1 S))))
set_option maxRecDepth 20000 in
theorem vX8_isFull {Q : Int32 → JS → Prop} (d : Nat) (hd : 1 ≤ d) {this : Nat} {S : JS} (h : wX8_isFull this S Q) : jCall jmt jbud d 81 [.ref this] S (jqI Q) := by
  obtain ⟨d, rfl⟩ : ∃ d2, d = d2 + 1 := ⟨d - 1, by omega⟩
  have hd : 0 ≤ d := by omega
  have hc := jCall_mono jmt jbud d
  unfold wX8_isFull at h
  refine ⟨Nat.le_of_ble_eq_true rfl, ?_⟩
  show jLf (jCall jmt jbud d) jbud (fun j => (jmt j).rk) none mX8_isFull (jqI Q) (0, [some (.ref this)], [], S, 0, 0)
  obtain ⟨g1, g2, g3, h⟩ := h
  refine jLf.bk hc 5 [jA S this 8, jA S this 8, ¬ jR S this 0 = none, jA S (jr S this 0) 13] [some (.ref this)] [.int (Int32.ofNat (jZ S (jr S this 0))), .int (jI S this 3)] S rfl rfl rfl ⟨g1, g1, g2, g3⟩ ?_
  refine jLf.two hc _ rfl (gs := []) (p1 := (jI S this 3) < (Int32.ofNat (jZ S (jr S this 0)))) (p2 := ¬ ((jI S this 3) < (Int32.ofNat (jZ S (jr S this 0))))) (c1 := (8, [some (.ref this)], [], S, 0, 0)) (c2 := (6, [some (.ref this)], [], S, 0, 0)) rfl trivial (fun hz => ?_) (fun hz => ?_)
  · have h := h.1 hz
    refine jLf.bk hc 1 [] [some (.ref this)] [.int 0] S rfl rfl rfl trivial ?_
    exact jLf.ret hc _ rfl (gs := [jbit 0]) (v := some (.int 0)) rfl (Or.inl rfl) ⟨_, rfl, h⟩
  · have h := h.2 hz
    refine jLf.bk hc 1 [] [some (.ref this)] [.int 1] S rfl rfl rfl trivial ?_
    refine jLf.one hc _ rfl (gs := []) (c := (9, [some (.ref this)], [.int 1], S, 0, 0)) rfl trivial ?_
    exact jLf.ret hc _ rfl (gs := [jbit 1]) (v := some (.int 1)) rfl (Or.inr rfl) ⟨_, rfl, h⟩
def wX8_has  (this : Nat) (p1 : Int32) (S : JS) (Q : Int32 → JS → Prop) : Prop :=
  (p1 < 0 → Q 0 S) ∧ (¬ (p1 < 0) → jA S this 8 ∧ (((jI S this 3) ≤ p1 → Q 0 S) ∧ (¬ ((jI S this 3) ≤ p1) → Q 1 S)))
set_option maxRecDepth 20000 in
theorem vX8_has {Q : Int32 → JS → Prop} (d : Nat) (hd : 1 ≤ d) {this : Nat} {p1 : Int32} {S : JS} (h : wX8_has this p1 S Q) : jCall jmt jbud d 82 [.ref this, .int p1] S (jqI Q) := by
  obtain ⟨d, rfl⟩ : ∃ d2, d = d2 + 1 := ⟨d - 1, by omega⟩
  have hd : 0 ≤ d := by omega
  have hc := jCall_mono jmt jbud d
  unfold wX8_has at h
  refine ⟨Nat.le_of_ble_eq_true rfl, ?_⟩
  show jLf (jCall jmt jbud d) jbud (fun j => (jmt j).rk) none mX8_has (jqI Q) (0, [some (.ref this), some (.int p1)], [], S, 0, 0)
  refine jLf.bk hc 1 [] [some (.ref this), some (.int p1)] [.int p1] S rfl rfl rfl trivial ?_
  refine jLf.two hc _ rfl (gs := []) (p1 := p1 < 0) (p2 := ¬ (p1 < 0)) (c1 := (8, [some (.ref this), some (.int p1)], [], S, 0, 0)) (c2 := (2, [some (.ref this), some (.int p1)], [], S, 0, 0)) rfl trivial (fun hz => ?_) (fun hz => ?_)
  · have h := h.1 hz
    refine jLf.bk hc 1 [] [some (.ref this), some (.int p1)] [.int 0] S rfl rfl rfl trivial ?_
    exact jLf.ret hc _ rfl (gs := [jbit 0]) (v := some (.int 0)) rfl (Or.inl rfl) ⟨_, rfl, h⟩
  · have h := h.2 hz
    obtain ⟨g1, h⟩ := h
    refine jLf.bk hc 3 [jA S this 8] [some (.ref this), some (.int p1)] [.int (jI S this 3), .int p1] S rfl rfl rfl g1 ?_
    refine jLf.two hc _ rfl (gs := []) (p1 := (jI S this 3) ≤ p1) (p2 := ¬ ((jI S this 3) ≤ p1)) (c1 := (8, [some (.ref this), some (.int p1)], [], S, 0, 0)) (c2 := (6, [some (.ref this), some (.int p1)], [], S, 0, 0)) rfl trivial (fun hz => ?_) (fun hz => ?_)
    · have h := h.1 hz
      refine jLf.bk hc 1 [] [some (.ref this), some (.int p1)] [.int 0] S rfl rfl rfl trivial ?_
      exact jLf.ret hc _ rfl (gs := [jbit 0]) (v := some (.int 0)) rfl (Or.inl rfl) ⟨_, rfl, h⟩
    · have h := h.2 hz
      refine jLf.bk hc 1 [] [some (.ref this), some (.int p1)] [.int 1] S rfl rfl rfl trivial ?_
      refine jLf.one hc _ rfl (gs := []) (c := (9, [some (.ref this), some (.int p1)], [.int 1], S, 0, 0)) rfl trivial ?_
      exact jLf.ret hc _ rfl (gs := [jbit 1]) (v := some (.int 1)) rfl (Or.inr rfl) ⟨_, rfl, h⟩
def wX8_put  (this : Nat) (p1 : Int32) (p2 : Int32) (p3 : Int32) (S : JS) (Q : JS → Prop) : Prop :=
  jA S this 8 ∧ (wX8_isFull this S (fun r2 S1 => (r2 = 0 → jA S1 this 8 ∧ (¬ jR S1 this 0 = none ∧ (jA S1 (jr S1 this 0) 13 ∧ (vp_in (jI S1 this 3) (jZ S1 (jr S1 this 0)) ∧ (∀ S8 : JS, S8 = uI S1 (jr S1 this 0) (jI S1 this 3).toNatClampNeg p1 → (jA S8 this 8 ∧ (¬ jR S8 this 1 = none ∧ (jA S8 (jr S8 this 1) 13 ∧ (vp_in (jI S8 this 3) (jZ S8 (jr S8 this 1)) ∧ (∀ S13 : JS, S13 = uI S8 (jr S8 this 1) (jI S8 this 3).toNatClampNeg p2 → (jA S13 this 8 ∧ (¬ jR S13 this 2 = none ∧ (jA S13 (jr S13 this 2) 13 ∧ (vp_in (jI S13 this 3) (jZ S13 (jr S13 this 2)) ∧ (∀ S18 : JS, S18 = uI S13 (jr S13 this 2) (jI S13 this 3).toNatClampNeg p3 → (jA S18 this 8 ∧ (∀ S20 : JS, S20 = uI S18 this 3 ((jI S18 this 3) + (1 : Int32)) → (Q S20)))))))))))))))))) ∧ (¬ r2 = 0 → Q S1)))
set_option maxRecDepth 20000 in
theorem vX8_put {Q : JS → Prop} (d : Nat) (hd : 2 ≤ d) {this : Nat} {p1 : Int32} {p2 : Int32} {p3 : Int32} {S : JS} (h : wX8_put this p1 p2 p3 S Q) : jCall jmt jbud d 83 [.ref this, .int p1, .int p2, .int p3] S (jqV Q) := by
  obtain ⟨d, rfl⟩ : ∃ d2, d = d2 + 1 := ⟨d - 1, by omega⟩
  have hd : 1 ≤ d := by omega
  have hc := jCall_mono jmt jbud d
  unfold wX8_put at h
  refine ⟨Nat.le_of_ble_eq_true rfl, ?_⟩
  show jLf (jCall jmt jbud d) jbud (fun j => (jmt j).rk) none mX8_put (jqV Q) (0, [some (.ref this), some (.int p1), some (.int p2), some (.int p3)], [], S, 0, 0)
  refine jLf.bk hc 1 [] [some (.ref this), some (.int p1), some (.int p2), some (.int p3)] [.ref this] S rfl rfl rfl trivial ?_
  obtain ⟨g3, h⟩ := h
  refine jLf.inv hc _ rfl (gs := [jA S this 8, (([] : List Value).map fun v => v.category).sum ≤ 8, 0 ≤ 0, 0 ≤ 0]) (k := 81) (args := [.ref this]) (r := []) (a := 0) (b := 0) rfl ⟨g3, Nat.le_of_ble_eq_true rfl, Nat.zero_le _, Nat.zero_le _⟩ (vX8_isFull d (by omega) h) ?_
  rintro v S1 ⟨r2, rfl, h⟩
  show jLf (jCall jmt jbud d) jbud (fun j => (jmt j).rk) none mX8_put (jqV Q) (2, [some (.ref this), some (.int p1), some (.int p2), some (.int p3)], [.int r2], S1, 0, 0)
  refine jLf.two hc _ rfl (gs := []) (p1 := r2 = 0) (p2 := ¬ (r2 = 0)) (c1 := (4, [some (.ref this), some (.int p1), some (.int p2), some (.int p3)], [], S1, 0, 0)) (c2 := (3, [some (.ref this), some (.int p1), some (.int p2), some (.int p3)], [], S1, 0, 0)) rfl trivial (fun hz => ?_) (fun hz => ?_)
  · have h := h.1 hz
    obtain ⟨g4, g5, g6, g7, h⟩ := h
    refine jLf.bk hc 6 [jA S1 this 8, ¬ jR S1 this 0 = none, jA S1 this 8, jA S1 (jr S1 this 0) 13, vp_in (jI S1 this 3) (jZ S1 (jr S1 this 0))] [some (.ref this), some (.int p1), some (.int p2), some (.int p3)] [] (uI S1 (jr S1 this 0) (jI S1 this 3).toNatClampNeg p1) rfl rfl rfl ⟨g4, g5, g4, g6, g7⟩ ?_
    generalize eS8 : uI S1 (jr S1 this 0) (jI S1 this 3).toNatClampNeg p1 = S8
    have h := h S8 eS8.symm
    obtain ⟨g9, g10, g11, g12, h⟩ := h
    refine jLf.bk hc 6 [jA S8 this 8, ¬ jR S8 this 1 = none, jA S8 this 8, jA S8 (jr S8 this 1) 13, vp_in (jI S8 this 3) (jZ S8 (jr S8 this 1))] [some (.ref this), some (.int p1), some (.int p2), some (.int p3)] [] (uI S8 (jr S8 this 1) (jI S8 this 3).toNatClampNeg p2) rfl rfl rfl ⟨g9, g10, g9, g11, g12⟩ ?_
    generalize eS13 : uI S8 (jr S8 this 1) (jI S8 this 3).toNatClampNeg p2 = S13
    have h := h S13 eS13.symm
    obtain ⟨g14, g15, g16, g17, h⟩ := h
    refine jLf.bk hc 6 [jA S13 this 8, ¬ jR S13 this 2 = none, jA S13 this 8, jA S13 (jr S13 this 2) 13, vp_in (jI S13 this 3) (jZ S13 (jr S13 this 2))] [some (.ref this), some (.int p1), some (.int p2), some (.int p3)] [] (uI S13 (jr S13 this 2) (jI S13 this 3).toNatClampNeg p3) rfl rfl rfl ⟨g14, g15, g14, g16, g17⟩ ?_
    generalize eS18 : uI S13 (jr S13 this 2) (jI S13 this 3).toNatClampNeg p3 = S18
    have h := h S18 eS18.symm
    obtain ⟨g19, h⟩ := h
    refine jLf.bk hc 6 [(.ref this : Value).category = 1, jA S18 this 8, jA S18 this 8] [some (.ref this), some (.int p1), some (.int p2), some (.int p3)] [] (uI S18 this 3 ((jI S18 this 3) + (1 : Int32))) rfl rfl rfl ⟨rfl, g19, g19⟩ ?_
    generalize eS20 : uI S18 this 3 ((jI S18 this 3) + (1 : Int32)) = S20
    have h := h S20 eS20.symm
    exact jLf.ret hc _ rfl (gs := [jrt none none]) (v := none) rfl trivial ⟨rfl, h⟩
  · have h := h.2 hz
    exact jLf.ret hc _ rfl (gs := [jrt none none]) (v := none) rfl trivial ⟨rfl, h⟩
def bX8_drop_7   (X7 : Nat → Int32 → JS → Prop) (l0 : Nat) (l2 : Int32) (S : JS) (Q : JS → Prop) : Prop :=
  jA S l0 8 ∧ (((jI S l0 3) ≤ (l2 + (1 : Int32)) → ∀ S5 : JS, S5 = uI S l0 3 ((jI S l0 3) - (1 : Int32)) → (Q S5)) ∧ (¬ ((jI S l0 3) ≤ (l2 + (1 : Int32))) → ¬ jR S l0 0 = none ∧ (jA S (jr S l0 0) 13 ∧ (vp_in (l2 + (1 : Int32)) (jZ S (jr S l0 0)) ∧ (vp_in l2 (jZ S (jr S l0 0)) ∧ (∀ S10 : JS, S10 = uI S (jr S l0 0) l2.toNatClampNeg (jI S (jr S l0 0) (l2 + (1 : Int32)).toNatClampNeg) → (jA S10 l0 8 ∧ (¬ jR S10 l0 1 = none ∧ (jA S10 (jr S10 l0 1) 13 ∧ (vp_in (l2 + (1 : Int32)) (jZ S10 (jr S10 l0 1)) ∧ (vp_in l2 (jZ S10 (jr S10 l0 1)) ∧ (∀ S16 : JS, S16 = uI S10 (jr S10 l0 1) l2.toNatClampNeg (jI S10 (jr S10 l0 1) (l2 + (1 : Int32)).toNatClampNeg) → (jA S16 l0 8 ∧ (¬ jR S16 l0 2 = none ∧ (jA S16 (jr S16 l0 2) 13 ∧ (vp_in (l2 + (1 : Int32)) (jZ S16 (jr S16 l0 2)) ∧ (vp_in l2 (jZ S16 (jr S16 l0 2)) ∧ (∀ S22 : JS, S22 = uI S16 (jr S16 l0 2) l2.toNatClampNeg (jI S16 (jr S16 l0 2) (l2 + (1 : Int32)).toNatClampNeg) → (∀ x23 : Int32, x23 = (l2 + 1) → (X7 l0 x23 S22))))))))))))))))))))
set_option maxRecDepth 20000 in
theorem uX8_drop_7 {Q : JS → Prop}  (d : Nat) (hd : 1 ≤ d) {X7 : Nat → Int32 → JS → Prop} (hX7 : ∀ l0 l2 S, X7 l0 l2 S → jLf (jCall jmt jbud d) jbud (fun j => (jmt j).rk) none mX8_drop (jqV Q) (7, [some (.ref l0), none, some (.int l2)], [], S, 0, 0)) {l0 : Nat} {l2 : Int32} {S : JS} (h : bX8_drop_7 X7 l0 l2 S Q) : jLf (jCall jmt jbud d) jbud (fun j => (jmt j).rk) none mX8_drop (jqV Q) (7, [some (.ref l0), none, some (.int l2)], [], S, 0, 0) := by
  have hc := jCall_mono jmt jbud d
  unfold bX8_drop_7 at h
  obtain ⟨g4, h⟩ := h
  refine jLf.bk hc 5 [jA S l0 8] [some (.ref l0), none, some (.int l2)] [.int (jI S l0 3), .int (l2 + (1 : Int32))] S rfl rfl rfl g4 ?_
  refine jLf.two hc _ rfl (gs := []) (p1 := (jI S l0 3) ≤ (l2 + (1 : Int32))) (p2 := ¬ ((jI S l0 3) ≤ (l2 + (1 : Int32)))) (c1 := (45, [some (.ref l0), none, some (.int l2)], [], S, 0, 0)) (c2 := (13, [some (.ref l0), none, some (.int l2)], [], S, 0, 0)) rfl trivial (fun hz => ?_) (fun hz => ?_)
  · have h := h.1 hz
    refine jLf.bk hc 6 [(.ref l0 : Value).category = 1, jA S l0 8, jA S l0 8] [some (.ref l0), none, some (.int l2)] [] (uI S l0 3 ((jI S l0 3) - (1 : Int32))) rfl rfl rfl ⟨rfl, g4, g4⟩ ?_
    generalize eS5 : uI S l0 3 ((jI S l0 3) - (1 : Int32)) = S5
    have h := h S5 eS5.symm
    exact jLf.ret hc _ rfl (gs := [jrt none none]) (v := none) rfl trivial ⟨rfl, h⟩
  · have h := h.2 hz
    obtain ⟨g6, g7, g8, g9, h⟩ := h
    refine jLf.bk hc 10 [jA S l0 8, ¬ jR S l0 0 = none, jA S l0 8, ¬ jR S l0 0 = none, jA S (jr S l0 0) 13, vp_in (l2 + (1 : Int32)) (jZ S (jr S l0 0)), jA S (jr S l0 0) 13, vp_in l2 (jZ S (jr S l0 0))] [some (.ref l0), none, some (.int l2)] [] (uI S (jr S l0 0) l2.toNatClampNeg (jI S (jr S l0 0) (l2 + (1 : Int32)).toNatClampNeg)) rfl rfl rfl ⟨g4, g6, g4, g6, g7, g8, g7, g9⟩ ?_
    generalize eS10 : uI S (jr S l0 0) l2.toNatClampNeg (jI S (jr S l0 0) (l2 + (1 : Int32)).toNatClampNeg) = S10
    have h := h S10 eS10.symm
    obtain ⟨g11, g12, g13, g14, g15, h⟩ := h
    refine jLf.bk hc 10 [jA S10 l0 8, ¬ jR S10 l0 1 = none, jA S10 l0 8, ¬ jR S10 l0 1 = none, jA S10 (jr S10 l0 1) 13, vp_in (l2 + (1 : Int32)) (jZ S10 (jr S10 l0 1)), jA S10 (jr S10 l0 1) 13, vp_in l2 (jZ S10 (jr S10 l0 1))] [some (.ref l0), none, some (.int l2)] [] (uI S10 (jr S10 l0 1) l2.toNatClampNeg (jI S10 (jr S10 l0 1) (l2 + (1 : Int32)).toNatClampNeg)) rfl rfl rfl ⟨g11, g12, g11, g12, g13, g14, g13, g15⟩ ?_
    generalize eS16 : uI S10 (jr S10 l0 1) l2.toNatClampNeg (jI S10 (jr S10 l0 1) (l2 + (1 : Int32)).toNatClampNeg) = S16
    have h := h S16 eS16.symm
    obtain ⟨g17, g18, g19, g20, g21, h⟩ := h
    refine jLf.bk hc 10 [jA S16 l0 8, ¬ jR S16 l0 2 = none, jA S16 l0 8, ¬ jR S16 l0 2 = none, jA S16 (jr S16 l0 2) 13, vp_in (l2 + (1 : Int32)) (jZ S16 (jr S16 l0 2)), jA S16 (jr S16 l0 2) 13, vp_in l2 (jZ S16 (jr S16 l0 2))] [some (.ref l0), none, some (.int l2)] [] (uI S16 (jr S16 l0 2) l2.toNatClampNeg (jI S16 (jr S16 l0 2) (l2 + (1 : Int32)).toNatClampNeg)) rfl rfl rfl ⟨g17, g18, g17, g18, g19, g20, g19, g21⟩ ?_
    generalize eS22 : uI S16 (jr S16 l0 2) l2.toNatClampNeg (jI S16 (jr S16 l0 2) (l2 + (1 : Int32)).toNatClampNeg) = S22
    have h := h S22 eS22.symm
    refine jLf.bk hc 1 [] [some (.ref l0), none, some (.int (l2 + 1))] [] S22 rfl rfl rfl trivial ?_
    generalize ex23 : (l2 + 1 : Int32) = x23
    have h := h x23 ex23.symm
    refine jLf.one hc _ rfl (gs := []) (c := (7, [some (.ref l0), none, some (.int x23)], [], S22, 0, 0)) rfl trivial ?_
    exact hX7 _ _ _ h
def wX8_drop_7   (l0 : Nat) (l2 : Int32) (S : JS) (Q : JS → Prop) : Prop :=
  jLoop (fun (X7 : Nat × Int32 × JS → Prop) q => bX8_drop_7 (fun l0 l2 S => X7 (l0, l2, S)) q.1 q.2.1 q.2.2 Q) (l0, l2, S)
set_option maxRecDepth 20000 in
theorem tX8_drop_7 {Q : JS → Prop}  (d : Nat) (hd : 1 ≤ d) {l0 : Nat} {l2 : Int32} {S : JS} (h : wX8_drop_7 l0 l2 S Q) : jLf (jCall jmt jbud d) jbud (fun j => (jmt j).rk) none mX8_drop (jqV Q) (7, [some (.ref l0), none, some (.int l2)], [], S, 0, 0) := by
  have := h (fun q : Nat × Int32 × JS => jLf (jCall jmt jbud d) jbud (fun j => (jmt j).rk) none mX8_drop (jqV Q) (7, [some (.ref (q.1)), none, some (.int (q.2.1))], [], q.2.2, 0, 0)) (fun q R hb hR => uX8_drop_7 d hd  (fun _ _ _ => hR _) hb)
  exact this
def wX8_drop  (this : Nat) (p1 : Int32) (S : JS) (Q : JS → Prop) : Prop :=
  jA S this 8 ∧ (wX8_has this p1 S (fun r2 S1 => (¬ r2 = 0 → wX8_drop_7 this p1 S1 Q) ∧ (r2 = 0 → Q S1)))
set_option maxRecDepth 20000 in
theorem vX8_drop {Q : JS → Prop} (d : Nat) (hd : 2 ≤ d) {this : Nat} {p1 : Int32} {S : JS} (h : wX8_drop this p1 S Q) : jCall jmt jbud d 84 [.ref this, .int p1] S (jqV Q) := by
  obtain ⟨d, rfl⟩ : ∃ d2, d = d2 + 1 := ⟨d - 1, by omega⟩
  have hd : 1 ≤ d := by omega
  have hc := jCall_mono jmt jbud d
  unfold wX8_drop at h
  refine ⟨Nat.le_of_ble_eq_true rfl, ?_⟩
  show jLf (jCall jmt jbud d) jbud (fun j => (jmt j).rk) none mX8_drop (jqV Q) (0, [some (.ref this), some (.int p1), none], [], S, 0, 0)
  refine jLf.bk hc 2 [] [some (.ref this), some (.int p1), none] [.int p1, .ref this] S rfl rfl rfl trivial ?_
  obtain ⟨g3, h⟩ := h
  refine jLf.inv hc _ rfl (gs := [jA S this 8, (([] : List Value).map fun v => v.category).sum ≤ 8, 0 ≤ 0, 0 ≤ 0]) (k := 82) (args := [.ref this, .int p1]) (r := []) (a := 0) (b := 0) rfl ⟨g3, Nat.le_of_ble_eq_true rfl, Nat.zero_le _, Nat.zero_le _⟩ (vX8_has d (by omega) h) ?_
  rintro v S1 ⟨r2, rfl, h⟩
  show jLf (jCall jmt jbud d) jbud (fun j => (jmt j).rk) none mX8_drop (jqV Q) (3, [some (.ref this), some (.int p1), none], [.int r2], S1, 0, 0)
  refine jLf.two hc _ rfl (gs := []) (p1 := ¬ r2 = 0) (p2 := ¬ (¬ r2 = 0)) (c1 := (5, [some (.ref this), some (.int p1), none], [], S1, 0, 0)) (c2 := (4, [some (.ref this), some (.int p1), none], [], S1, 0, 0)) rfl trivial (fun hz => ?_) (fun hz => ?_)
  · have h := h.1 hz
    refine jLf.bk hc 2 [] [some (.ref this), some (.int p1), some (.int p1)] [] S1 rfl rfl rfl trivial ?_
    refine jLf.sub [some (.ref this), none, some (.int p1)] (jle_same (jle_none (jle_same (jle_nil _)))) ?_
    exact tX8_drop_7 d hd  h
  · have h := h.2 (Classical.not_not.mp hz)
    exact jLf.ret hc _ rfl (gs := [jrt none none]) (v := none) rfl trivial ⟨rfl, h⟩
def bX8_become_5   (X5 : Nat → Nat → Int32 → JS → Prop) (l0 : Nat) (l1 : Nat) (l2 : Int32) (S : JS) (Q : JS → Prop) : Prop :=
  jA S l1 8 ∧ (((jI S l1 3) ≤ l2 → Q S) ∧ (¬ ((jI S l1 3) ≤ l2) → ¬ jR S l1 0 = none ∧ (jA S (jr S l1 0) 13 ∧ (vp_in l2 (jZ S (jr S l1 0)) ∧ (¬ jR S l1 1 = none ∧ (jA S (jr S l1 1) 13 ∧ (vp_in l2 (jZ S (jr S l1 1)) ∧ (¬ jR S l1 2 = none ∧ (jA S (jr S l1 2) 13 ∧ (vp_in l2 (jZ S (jr S l1 2)) ∧ (jA S l0 8 ∧ (wX8_put l0 (jI S (jr S l1 0) l2.toNatClampNeg) (jI S (jr S l1 1) l2.toNatClampNeg) (jI S (jr S l1 2) l2.toNatClampNeg) S (fun S13 => ∀ x16 : Int32, x16 = (l2 + 1) → (X5 l0 l1 x16 S13))))))))))))))
set_option maxRecDepth 20000 in
theorem uX8_become_5 {Q : JS → Prop}  (d : Nat) (hd : 2 ≤ d) {X5 : Nat → Nat → Int32 → JS → Prop} (hX5 : ∀ l0 l1 l2 S, X5 l0 l1 l2 S → jLf (jCall jmt jbud d) jbud (fun j => (jmt j).rk) none mX8_become (jqV Q) (5, [some (.ref l0), some (.ref l1), some (.int l2)], [], S, 0, 0)) {l0 : Nat} {l1 : Nat} {l2 : Int32} {S : JS} (h : bX8_become_5 X5 l0 l1 l2 S Q) : jLf (jCall jmt jbud d) jbud (fun j => (jmt j).rk) none mX8_become (jqV Q) (5, [some (.ref l0), some (.ref l1), some (.int l2)], [], S, 0, 0) := by
  have hc := jCall_mono jmt jbud d
  unfold bX8_become_5 at h
  obtain ⟨g3, h⟩ := h
  refine jLf.bk hc 3 [jA S l1 8] [some (.ref l0), some (.ref l1), some (.int l2)] [.int (jI S l1 3), .int l2] S rfl rfl rfl g3 ?_
  refine jLf.two hc _ rfl (gs := []) (p1 := (jI S l1 3) ≤ l2) (p2 := ¬ ((jI S l1 3) ≤ l2)) (c1 := (25, [some (.ref l0), some (.ref l1), some (.int l2)], [], S, 0, 0)) (c2 := (9, [some (.ref l0), some (.ref l1), some (.int l2)], [], S, 0, 0)) rfl trivial (fun hz => ?_) (fun hz => ?_)
  · have h := h.1 hz
    exact jLf.ret hc _ rfl (gs := [jrt none none]) (v := none) rfl trivial ⟨rfl, h⟩
  · have h := h.2 hz
    obtain ⟨g4, g5, g6, g7, g8, g9, g10, g11, g12, h⟩ := h
    refine jLf.bk hc 13 [jA S l1 8, ¬ jR S l1 0 = none, jA S (jr S l1 0) 13, vp_in l2 (jZ S (jr S l1 0)), jA S l1 8, ¬ jR S l1 1 = none, jA S (jr S l1 1) 13, vp_in l2 (jZ S (jr S l1 1)), jA S l1 8, ¬ jR S l1 2 = none, jA S (jr S l1 2) 13, vp_in l2 (jZ S (jr S l1 2))] [some (.ref l0), some (.ref l1), some (.int l2)] [.int (jI S (jr S l1 2) l2.toNatClampNeg), .int (jI S (jr S l1 1) l2.toNatClampNeg), .int (jI S (jr S l1 0) l2.toNatClampNeg), .ref l0] S rfl rfl rfl ⟨g3, g4, g5, g6, g3, g7, g8, g9, g3, g10, g11, g12⟩ ?_
    obtain ⟨g15, h⟩ := h
    refine jLf.inv hc _ rfl (gs := [jA S l0 8, (([] : List Value).map fun v => v.category).sum ≤ 8, 0 ≤ 0, 0 ≤ 0]) (k := 83) (args := [.ref l0, .int (jI S (jr S l1 0) l2.toNatClampNeg), .int (jI S (jr S l1 1) l2.toNatClampNeg), .int (jI S (jr S l1 2) l2.toNatClampNeg)]) (r := []) (a := 0) (b := 0) rfl ⟨g15, Nat.le_of_ble_eq_true rfl, Nat.zero_le _, Nat.zero_le _⟩ (vX8_put d (by omega) h) ?_
    rintro v S13 ⟨rfl, h⟩
    show jLf (jCall jmt jbud d) jbud (fun j => (jmt j).rk) none mX8_become (jqV Q) (23, [some (.ref l0), some (.ref l1), some (.int l2)], [], S13, 0, 0)
    refine jLf.bk hc 1 [] [some (.ref l0), some (.ref l1), some (.int (l2 + 1))] [] S13 rfl rfl rfl trivial ?_
    generalize ex16 : (l2 + 1 : Int32) = x16
    have h := h x16 ex16.symm
    refine jLf.one hc _ rfl (gs := []) (c := (5, [some (.ref l0), some (.ref l1), some (.int x16)], [], S13, 0, 0)) rfl trivial ?_
    exact hX5 _ _ _ _ h
def wX8_become_5   (l0 : Nat) (l1 : Nat) (l2 : Int32) (S : JS) (Q : JS → Prop) : Prop :=
  jLoop (fun (X5 : Nat × Nat × Int32 × JS → Prop) q => bX8_become_5 (fun l0 l1 l2 S => X5 (l0, l1, l2, S)) q.1 q.2.1 q.2.2.1 q.2.2.2 Q) (l0, l1, l2, S)
set_option maxRecDepth 20000 in
theorem tX8_become_5 {Q : JS → Prop}  (d : Nat) (hd : 2 ≤ d) {l0 : Nat} {l1 : Nat} {l2 : Int32} {S : JS} (h : wX8_become_5 l0 l1 l2 S Q) : jLf (jCall jmt jbud d) jbud (fun j => (jmt j).rk) none mX8_become (jqV Q) (5, [some (.ref l0), some (.ref l1), some (.int l2)], [], S, 0, 0) := by
  have := h (fun q : Nat × Nat × Int32 × JS => jLf (jCall jmt jbud d) jbud (fun j => (jmt j).rk) none mX8_become (jqV Q) (5, [some (.ref (q.1)), some (.ref (q.2.1)), some (.int (q.2.2.1))], [], q.2.2.2, 0, 0)) (fun q R hb hR => uX8_become_5 d hd  (fun _ _ _ _ => hR _) hb)
  exact this
def wX8_become  (this : Nat) (p1 : Nat) (S : JS) (Q : JS → Prop) : Prop :=
  jA S this 8 ∧ (∀ S2 : JS, S2 = uI S this 3 0 → (wX8_become_5 this p1 0 S2 Q))
set_option maxRecDepth 20000 in
theorem vX8_become {Q : JS → Prop} (d : Nat) (hd : 3 ≤ d) {this : Nat} {p1 : Nat} {S : JS} (h : wX8_become this p1 S Q) : jCall jmt jbud d 85 [.ref this, .ref p1] S (jqV Q) := by
  obtain ⟨d, rfl⟩ : ∃ d2, d = d2 + 1 := ⟨d - 1, by omega⟩
  have hd : 2 ≤ d := by omega
  have hc := jCall_mono jmt jbud d
  unfold wX8_become at h
  refine ⟨Nat.le_of_ble_eq_true rfl, ?_⟩
  show jLf (jCall jmt jbud d) jbud (fun j => (jmt j).rk) none mX8_become (jqV Q) (0, [some (.ref this), some (.ref p1), none], [], S, 0, 0)
  obtain ⟨g1, h⟩ := h
  refine jLf.bk hc 3 [jA S this 8] [some (.ref this), some (.ref p1), none] [] (uI S this 3 0) rfl rfl rfl g1 ?_
  generalize eS2 : uI S this 3 0 = S2
  have h := h S2 eS2.symm
  refine jLf.bk hc 2 [] [some (.ref this), some (.ref p1), some (.int 0)] [] S2 rfl rfl rfl trivial ?_
  exact tX8_become_5 d hd  h
def wX9_init  (this : Nat) (S : JS) (Q : JS → Prop) : Prop :=
  jA S this 9 ∧ (∀ S2 : JS, S2 = uI S this 0 9 → (jA S2 this 9 ∧ (∀ S4 : JS, S4 = uI S2 this 2 50 → (jN S4 < 1000000 ∧ (∀ h7 : Nat, h7 = jN S4 → (∀ S5 : JS, S5 = uNew S4 8 4 → (jA S5 h7 8 ∧ (wX8_init h7 4 S5 (fun S8 => jA S8 this 9 ∧ (∀ S12 : JS, S12 = uR S8 this 4 (some h7) → (jN S12 < 1000000 ∧ (∀ h15 : Nat, h15 = jN S12 → (∀ S13 : JS, S13 = uNew S12 8 4 → (jA S13 h15 8 ∧ (wX8_init h15 16 S13 (fun S16 => jA S16 this 9 ∧ (∀ S20 : JS, S20 = uR S16 this 5 (some h15) → (jN S20 < 1000000 ∧ (∀ h23 : Nat, h23 = jN S20 → (∀ S21 : JS, S21 = uNew S20 16 6 → (jA S21 this 9 ∧ (∀ S25 : JS, S25 = uR S21 this 6 (some h23) → (jA S25 this 9 ∧ (∀ S27 : JS, S27 = uI S25 this 8 (-1) → (jN S27 < 1000000 ∧ (∀ h30 : Nat, h30 = jN S27 → (∀ S28 : JS, S28 = uNew S27 13 60 → (jA S28 this 9 ∧ (∀ S32 : JS, S32 = uR S28 this 9 (some h30) → (jN S32 < 1000000 ∧ (∀ h35 : Nat, h35 = jN S32 → (∀ S33 : JS, S33 = uNew S32 13 12 → (jA S33 this 9 ∧ (∀ S37 : JS, S37 = uR S33 this 11 (some h35) → (Q S37)))))))))))))))))))))))))))))))))))
set_option maxRecDepth 20000 in
theorem vX9_init {Q : JS → Prop} (d : Nat) (hd : 2 ≤ d) {this : Nat} {S : JS} (h : wX9_init this S Q) : jCall jmt jbud d 86 [.ref this] S (jqV Q) := by
  obtain ⟨d, rfl⟩ : ∃ d2, d = d2 + 1 := ⟨d - 1, by omega⟩
  have hd : 1 ≤ d := by omega
  have hc := jCall_mono jmt jbud d
  unfold wX9_init at h
  refine ⟨Nat.le_of_ble_eq_true rfl, ?_⟩
  show jLf (jCall jmt jbud d) jbud (fun j => (jmt j).rk) none mX9_init (jqV Q) (0, [some (.ref this)], [], S, 11, 182)
  obtain ⟨g1, h⟩ := h
  refine jLf.bk hc 5 [(([] : List Value).map fun v => v.category).sum ≤ 8, jA S this 9] [some (.ref this)] [] (uI S this 0 9) rfl rfl rfl ⟨(Nat.le_of_ble_eq_true rfl), g1⟩ ?_
  generalize eS2 : uI S this 0 9 = S2
  have h := h S2 eS2.symm
  obtain ⟨g3, h⟩ := h
  refine jLf.bk hc 3 [jA S2 this 9] [some (.ref this)] [] (uI S2 this 2 50) rfl rfl rfl g3 ?_
  generalize eS4 : uI S2 this 2 50 = S4
  have h := h S4 eS4.symm
  refine jLf.bk hc 1 [] [some (.ref this)] [.ref this] S4 rfl rfl rfl trivial ?_
  obtain ⟨g6, h⟩ := h
  refine jLf.one hc _ rfl (gs := [1 ≤ 11, 4 ≤ 182, jN S4 < 1000000]) (c := (10, [some (.ref this)], [.ref (jN S4), .ref this], (uNew S4 8 4), 10, 178)) rfl ⟨Nat.le_of_ble_eq_true rfl, Nat.le_of_ble_eq_true rfl, g6⟩ ?_
  generalize eS5 : uNew S4 8 4 = S5
  generalize eh7 : jN S4 = h7
  have h := h h7 eh7.symm S5 eS5.symm
  refine jLf.bk hc 2 [(.ref h7 : Value).category = 1] [some (.ref this)] [.int 4, .ref h7, .ref h7, .ref this] S5 rfl rfl rfl rfl ?_
  obtain ⟨g10, h⟩ := h
  refine jLf.inv hc _ rfl (gs := [jA S5 h7 8, (([.ref h7, .ref this] : List Value).map fun v => v.category).sum ≤ 8, 3 ≤ 10, 48 ≤ 178]) (k := 80) (args := [.ref h7, .int 4]) (r := [.ref h7, .ref this]) (a := 7) (b := 130) rfl ⟨g10, Nat.le_of_ble_eq_true rfl, Nat.le_of_ble_eq_true rfl, Nat.le_of_ble_eq_true rfl⟩ (vX8_init d (by omega) h) ?_
  rintro v S8 ⟨rfl, h⟩
  show jLf (jCall jmt jbud d) jbud (fun j => (jmt j).rk) none mX9_init (jqV Q) (13, [some (.ref this)], [.ref h7, .ref this], S8, 7, 130)
  obtain ⟨g11, h⟩ := h
  refine jLf.bk hc 1 [jA S8 this 9] [some (.ref this)] [] (uR S8 this 4 (some h7)) rfl rfl rfl g11 ?_
  generalize eS12 : uR S8 this 4 (some h7) = S12
  have h := h S12 eS12.symm
  refine jLf.bk hc 1 [] [some (.ref this)] [.ref this] S12 rfl rfl rfl trivial ?_
  obtain ⟨g14, h⟩ := h
  refine jLf.one hc _ rfl (gs := [1 ≤ 7, 4 ≤ 130, jN S12 < 1000000]) (c := (16, [some (.ref this)], [.ref (jN S12), .ref this], (uNew S12 8 4), 6, 126)) rfl ⟨Nat.le_of_ble_eq_true rfl, Nat.le_of_ble_eq_true rfl, g14⟩ ?_
  generalize eS13 : uNew S12 8 4 = S13
  generalize eh15 : jN S12 = h15
  have h := h h15 eh15.symm S13 eS13.symm
  refine jLf.bk hc 2 [(.ref h15 : Value).category = 1] [some (.ref this)] [.int 16, .ref h15, .ref h15, .ref this] S13 rfl rfl rfl rfl ?_
  obtain ⟨g18, h⟩ := h
  refine jLf.inv hc _ rfl (gs := [jA S13 h15 8, (([.ref h15, .ref this] : List Value).map fun v => v.category).sum ≤ 8, 3 ≤ 6, 48 ≤ 126]) (k := 80) (args := [.ref h15, .int 16]) (r := [.ref h15, .ref this]) (a := 3) (b := 78) rfl ⟨g18, Nat.le_of_ble_eq_true rfl, Nat.le_of_ble_eq_true rfl, Nat.le_of_ble_eq_true rfl⟩ (vX8_init d (by omega) h) ?_
  rintro v S16 ⟨rfl, h⟩
  show jLf (jCall jmt jbud d) jbud (fun j => (jmt j).rk) none mX9_init (jqV Q) (19, [some (.ref this)], [.ref h15, .ref this], S16, 3, 78)
  obtain ⟨g19, h⟩ := h
  refine jLf.bk hc 1 [jA S16 this 9] [some (.ref this)] [] (uR S16 this 5 (some h15)) rfl rfl rfl g19 ?_
  generalize eS20 : uR S16 this 5 (some h15) = S20
  have h := h S20 eS20.symm
  refine jLf.bk hc 2 [] [some (.ref this)] [.int 6, .ref this] S20 rfl rfl rfl trivial ?_
  obtain ⟨g22, h⟩ := h
  refine jLf.one hc _ rfl (gs := [¬ (6 : Int32) < 0, 6 ≤ 1000000, 1 ≤ 3, 6 ≤ 78, jN S20 < 1000000]) (c := (23, [some (.ref this)], [.ref (jN S20), .ref this], (uNew S20 16 6), 2, 72)) rfl ⟨(by decide), Nat.le_of_ble_eq_true rfl, Nat.le_of_ble_eq_true rfl, Nat.le_of_ble_eq_true rfl, g22⟩ ?_
  generalize eS21 : uNew S20 16 6 = S21
  generalize eh23 : jN S20 = h23
  have h := h h23 eh23.symm S21 eS21.symm
  obtain ⟨g24, h⟩ := h
  refine jLf.bk hc 1 [jA S21 this 9] [some (.ref this)] [] (uR S21 this 6 (some h23)) rfl rfl rfl g24 ?_
  generalize eS25 : uR S21 this 6 (some h23) = S25
  have h := h S25 eS25.symm
  obtain ⟨g26, h⟩ := h
  refine jLf.bk hc 3 [jA S25 this 9] [some (.ref this)] [] (uI S25 this 8 (-1)) rfl rfl rfl g26 ?_
  generalize eS27 : uI S25 this 8 (-1) = S27
  have h := h S27 eS27.symm
  refine jLf.bk hc 2 [] [some (.ref this)] [.int 60, .ref this] S27 rfl rfl rfl trivial ?_
  obtain ⟨g29, h⟩ := h
  refine jLf.one hc _ rfl (gs := [¬ (60 : Int32) < 0, 60 ≤ 1000000, 1 ≤ 2, 60 ≤ 72, jN S27 < 1000000]) (c := (30, [some (.ref this)], [.ref (jN S27), .ref this], (uNew S27 13 60), 1, 12)) rfl ⟨(by decide), Nat.le_of_ble_eq_true rfl, Nat.le_of_ble_eq_true rfl, Nat.le_of_ble_eq_true rfl, g29⟩ ?_
  generalize eS28 : uNew S27 13 60 = S28
  generalize eh30 : jN S27 = h30
  have h := h h30 eh30.symm S28 eS28.symm
  obtain ⟨g31, h⟩ := h
  refine jLf.bk hc 1 [jA S28 this 9] [some (.ref this)] [] (uR S28 this 9 (some h30)) rfl rfl rfl g31 ?_
  generalize eS32 : uR S28 this 9 (some h30) = S32
  have h := h S32 eS32.symm
  refine jLf.bk hc 2 [] [some (.ref this)] [.int 12, .ref this] S32 rfl rfl rfl trivial ?_
  obtain ⟨g34, h⟩ := h
  refine jLf.one hc _ rfl (gs := [¬ (12 : Int32) < 0, 12 ≤ 1000000, 1 ≤ 1, 12 ≤ 12, jN S32 < 1000000]) (c := (34, [some (.ref this)], [.ref (jN S32), .ref this], (uNew S32 13 12), 0, 0)) rfl ⟨(by decide), Nat.le_of_ble_eq_true rfl, Nat.le_of_ble_eq_true rfl, Nat.le_of_ble_eq_true rfl, g34⟩ ?_
  generalize eS33 : uNew S32 13 12 = S33
  generalize eh35 : jN S32 = h35
  have h := h h35 eh35.symm S33 eS33.symm
  obtain ⟨g36, h⟩ := h
  refine jLf.bk hc 1 [jA S33 this 9] [some (.ref this)] [] (uR S33 this 11 (some h35)) rfl rfl rfl g36 ?_
  generalize eS37 : uR S33 this 11 (some h35) = S37
  have h := h S37 eS37.symm
  exact jLf.ret hc _ rfl (gs := [jrt none none]) (v := none) rfl trivial ⟨rfl, h⟩
def wX9_glassRock  (this : Nat) (S : JS) (Q : Int32 → JS → Prop) : Prop :=
  jA S this 9 ∧ (¬ jR S this 9 = none ∧ (jA S (jr S this 9) 13 ∧ (vp_in (jI S this 10) (jZ S (jr S this 9)) ∧ (Q (jI S (jr S this 9) (jI S this 10).toNatClampNeg) S))))
set_option maxRecDepth 20000 in
theorem vX9_glassRock {Q : Int32 → JS → Prop} (d : Nat) (hd : 1 ≤ d) {this : Nat} {S : JS} (h : wX9_glassRock this S Q) : jCall jmt jbud d 88 [.ref this] S (jqI Q) := by
  obtain ⟨d, rfl⟩ : ∃ d2, d = d2 + 1 := ⟨d - 1, by omega⟩
  have hd : 0 ≤ d := by omega
  have hc := jCall_mono jmt jbud d
  unfold wX9_glassRock at h
  refine ⟨Nat.le_of_ble_eq_true rfl, ?_⟩
  show jLf (jCall jmt jbud d) jbud (fun j => (jmt j).rk) none mX9_glassRock (jqI Q) (0, [some (.ref this)], [], S, 0, 0)
  obtain ⟨g1, g2, g3, g4, h⟩ := h
  refine jLf.bk hc 5 [jA S this 9, ¬ jR S this 9 = none, jA S this 9, jA S (jr S this 9) 13, vp_in (jI S this 10) (jZ S (jr S this 9))] [some (.ref this)] [.int (jI S (jr S this 9) (jI S this 10).toNatClampNeg)] S rfl rfl rfl ⟨g1, g2, g1, g3, g4⟩ ?_
  exact jLf.ret hc _ rfl (gs := [True]) (v := some (.int (jI S (jr S this 9) (jI S this 10).toNatClampNeg))) rfl trivial ⟨jI S (jr S this 9) (jI S this 10).toNatClampNeg, rfl, h⟩
def wX9_setStorm  (this : Nat) (p1 : Int32) (p2 : Int32) (S : JS) (Q : JS → Prop) : Prop :=
  ∀ x1 : Int64, x1 = ((1 : Int64) <<< (p1.toInt64 &&& 63)) → ((p2 = 0 → jA S this 9 ∧ (∀ S3 : JS, S3 = uJ S this 3 ((jJ S this 3) &&& (x1 ^^^ (-1 : Int64))) → (Q S3))) ∧ (¬ p2 = 0 → jA S this 9 ∧ (∀ S5 : JS, S5 = uJ S this 3 ((jJ S this 3) ||| x1) → (Q S5))))
set_option maxRecDepth 20000 in
theorem vX9_setStorm {Q : JS → Prop} (d : Nat) (hd : 1 ≤ d) {this : Nat} {p1 : Int32} {p2 : Int32} {S : JS} (h : wX9_setStorm this p1 p2 S Q) : jCall jmt jbud d 90 [.ref this, .int p1, .int p2] S (jqV Q) := by
  obtain ⟨d, rfl⟩ : ∃ d2, d = d2 + 1 := ⟨d - 1, by omega⟩
  have hd : 0 ≤ d := by omega
  have hc := jCall_mono jmt jbud d
  unfold wX9_setStorm at h
  refine ⟨Nat.le_of_ble_eq_true rfl, ?_⟩
  show jLf (jCall jmt jbud d) jbud (fun j => (jmt j).rk) none mX9_setStorm (jqV Q) (0, [some (.ref this), some (.int p1), some (.int p2), none, none], [], S, 0, 0)
  refine jLf.bk hc 4 [] [some (.ref this), some (.int p1), some (.int p2), some (.long ((1 : Int64) <<< (p1.toInt64 &&& 63))), none] [] S rfl rfl rfl trivial ?_
  generalize ex1 : ((1 : Int64) <<< (p1.toInt64 &&& 63) : Int64) = x1
  have h := h x1 ex1.symm
  refine jLf.bk hc 2 [] [some (.ref this), some (.int p1), some (.int p2), some (.long x1), none] [.int p2, .ref this] S rfl rfl rfl trivial ?_
  refine jLf.two hc _ rfl (gs := []) (p1 := p2 = 0) (p2 := ¬ (p2 = 0)) (c1 := (12, [some (.ref this), some (.int p1), some (.int p2), some (.long x1), none], [.ref this], S, 0, 0)) (c2 := (7, [some (.ref this), some (.int p1), some (.int p2), some (.long x1), none], [.ref this], S, 0, 0)) rfl trivial (fun hz => ?_) (fun hz => ?_)
  · have h := h.1 hz
    obtain ⟨g2, h⟩ := h
    refine jLf.bk hc 7 [jA S this 9, jA S this 9] [some (.ref this), some (.int p1), some (.int p2), some (.long x1), none] [] (uJ S this 3 ((jJ S this 3) &&& (x1 ^^^ (-1 : Int64)))) rfl rfl rfl ⟨g2, g2⟩ ?_
    generalize eS3 : uJ S this 3 ((jJ S this 3) &&& (x1 ^^^ (-1 : Int64))) = S3
    have h := h S3 eS3.symm
    exact jLf.ret hc _ rfl (gs := [jrt none none]) (v := none) rfl trivial ⟨rfl, h⟩
  · have h := h.2 hz
    obtain ⟨g4, h⟩ := h
    refine jLf.bk hc 4 [jA S this 9] [some (.ref this), some (.int p1), some (.int p2), some (.long x1), none] [.long ((jJ S this 3) ||| x1), .ref this] S rfl rfl rfl g4 ?_
    refine jLf.one hc _ rfl (gs := []) (c := (18, [some (.ref this), some (.int p1), some (.int p2), some (.long x1), none], [.long ((jJ S this 3) ||| x1), .ref this], S, 0, 0)) rfl trivial ?_
    refine jLf.bk hc 1 [jA S this 9] [some (.ref this), some (.int p1), some (.int p2), some (.long x1), none] [] (uJ S this 3 ((jJ S this 3) ||| x1)) rfl rfl rfl g4 ?_
    generalize eS5 : uJ S this 3 ((jJ S this 3) ||| x1) = S5
    have h := h S5 eS5.symm
    exact jLf.ret hc _ rfl (gs := [jrt none none]) (v := none) rfl trivial ⟨rfl, h⟩
def wX9_beginAnew  (this : Nat) (p1 : Int32) (S : JS) (Q : JS → Prop) : Prop :=
  jA S this 9 ∧ (∀ S2 : JS, S2 = uI S this 0 p1 → (jA S2 this 9 ∧ (¬ jR S2 this 4 = none ∧ (jA S2 (jr S2 this 4) 8 ∧ (∀ S6 : JS, S6 = uI S2 (jr S2 this 4) 3 0 → (jA S6 this 9 ∧ (¬ jR S6 this 5 = none ∧ (jA S6 (jr S6 this 5) 8 ∧ (∀ S10 : JS, S10 = uI S6 (jr S6 this 5) 3 0 → (jA S10 this 9 ∧ (∀ S12 : JS, S12 = uI S10 this 10 0 → (jA S12 this 9 ∧ (¬ jR S12 this 9 = none ∧ (jA S12 (jr S12 this 9) 13 ∧ (vp_in (0 : Int32) (jZ S12 (jr S12 this 9)) ∧ (∀ S17 : JS, S17 = uI S12 (jr S12 this 9) (0 : Int32).toNatClampNeg 0 → (Q S17)))))))))))))))))
set_option maxRecDepth 20000 in
theorem vX9_beginAnew {Q : JS → Prop} (d : Nat) (hd : 1 ≤ d) {this : Nat} {p1 : Int32} {S : JS} (h : wX9_beginAnew this p1 S Q) : jCall jmt jbud d 93 [.ref this, .int p1] S (jqV Q) := by
  obtain ⟨d, rfl⟩ : ∃ d2, d = d2 + 1 := ⟨d - 1, by omega⟩
  have hd : 0 ≤ d := by omega
  have hc := jCall_mono jmt jbud d
  unfold wX9_beginAnew at h
  refine ⟨Nat.le_of_ble_eq_true rfl, ?_⟩
  show jLf (jCall jmt jbud d) jbud (fun j => (jmt j).rk) none mX9_beginAnew (jqV Q) (0, [some (.ref this), some (.int p1)], [], S, 0, 0)
  obtain ⟨g1, h⟩ := h
  refine jLf.bk hc 3 [jA S this 9] [some (.ref this), some (.int p1)] [] (uI S this 0 p1) rfl rfl rfl g1 ?_
  generalize eS2 : uI S this 0 p1 = S2
  have h := h S2 eS2.symm
  obtain ⟨g3, g4, g5, h⟩ := h
  refine jLf.bk hc 4 [jA S2 this 9, ¬ jR S2 this 4 = none, jA S2 (jr S2 this 4) 8] [some (.ref this), some (.int p1)] [] (uI S2 (jr S2 this 4) 3 0) rfl rfl rfl ⟨g3, g4, g5⟩ ?_
  generalize eS6 : uI S2 (jr S2 this 4) 3 0 = S6
  have h := h S6 eS6.symm
  obtain ⟨g7, g8, g9, h⟩ := h
  refine jLf.bk hc 4 [jA S6 this 9, ¬ jR S6 this 5 = none, jA S6 (jr S6 this 5) 8] [some (.ref this), some (.int p1)] [] (uI S6 (jr S6 this 5) 3 0) rfl rfl rfl ⟨g7, g8, g9⟩ ?_
  generalize eS10 : uI S6 (jr S6 this 5) 3 0 = S10
  have h := h S10 eS10.symm
  obtain ⟨g11, h⟩ := h
  refine jLf.bk hc 3 [jA S10 this 9] [some (.ref this), some (.int p1)] [] (uI S10 this 10 0) rfl rfl rfl g11 ?_
  generalize eS12 : uI S10 this 10 0 = S12
  have h := h S12 eS12.symm
  obtain ⟨g13, g14, g15, g16, h⟩ := h
  refine jLf.bk hc 5 [jA S12 this 9, ¬ jR S12 this 9 = none, jA S12 (jr S12 this 9) 13, vp_in (0 : Int32) (jZ S12 (jr S12 this 9))] [some (.ref this), some (.int p1)] [] (uI S12 (jr S12 this 9) (0 : Int32).toNatClampNeg 0) rfl rfl rfl ⟨g13, g14, g15, g16⟩ ?_
  generalize eS17 : uI S12 (jr S12 this 9) (0 : Int32).toNatClampNeg 0 = S17
  have h := h S17 eS17.symm
  exact jLf.ret hc _ rfl (gs := [jrt none none]) (v := none) rfl trivial ⟨rfl, h⟩
def bX9_become_28   (X28 : Nat → Nat → Int32 → JS → Prop) (l0 : Nat) (l1 : Nat) (l2 : Int32) (S : JS) (Q : JS → Prop) : Prop :=
  (6 ≤ l2 → jA S l1 9 ∧ (jA S l0 9 ∧ (∀ S29 : JS, S29 = uI S l0 7 (jI S l1 7) → (jA S29 l1 9 ∧ (jA S29 l0 9 ∧ (∀ S32 : JS, S32 = uI S29 l0 8 (jI S29 l1 8) → (jA S32 l1 9 ∧ (¬ jR S32 l1 9 = none ∧ (jA S32 l0 9 ∧ (¬ jR S32 l0 9 = none ∧ (jA S32 (jr S32 l1 9) 13 ∧ (jA S32 (jr S32 l0 9) 13 ∧ (¬ (0 : Int32) < 0 ∧ (¬ (60 : Int32) < 0 ∧ ((0 : Int32).toNatClampNeg + (60 : Int32).toNatClampNeg ≤ jZ S32 (jr S32 l1 9) ∧ ((0 : Int32).toNatClampNeg + (60 : Int32).toNatClampNeg ≤ jZ S32 (jr S32 l0 9) ∧ (∀ S43 : JS, S43 = uIf S32 (jr S32 l0 9) (va_cpy (jI S32 (jr S32 l1 9)) (jI S32 (jr S32 l0 9)) (0 : Int32).toNatClampNeg (0 : Int32).toNatClampNeg (60 : Int32).toNatClampNeg) → (jA S43 l1 9 ∧ (jA S43 l0 9 ∧ (∀ S46 : JS, S46 = uI S43 l0 10 (jI S43 l1 10) → (jA S46 l1 9 ∧ (¬ jR S46 l1 11 = none ∧ (jA S46 l0 9 ∧ (¬ jR S46 l0 11 = none ∧ (jA S46 (jr S46 l1 11) 13 ∧ (jA S46 (jr S46 l0 11) 13 ∧ (¬ (12 : Int32) < 0 ∧ ((0 : Int32).toNatClampNeg + (12 : Int32).toNatClampNeg ≤ jZ S46 (jr S46 l1 11) ∧ ((0 : Int32).toNatClampNeg + (12 : Int32).toNatClampNeg ≤ jZ S46 (jr S46 l0 11) ∧ (∀ S56 : JS, S56 = uIf S46 (jr S46 l0 11) (va_cpy (jI S46 (jr S46 l1 11)) (jI S46 (jr S46 l0 11)) (0 : Int32).toNatClampNeg (0 : Int32).toNatClampNeg (12 : Int32).toNatClampNeg) → (Q S56))))))))))))))))))))))))))))))) ∧ (¬ (6 ≤ l2) → jA S l0 9 ∧ (¬ jR S l0 6 = none ∧ (jA S l1 9 ∧ (¬ jR S l1 6 = none ∧ (jA S (jr S l1 6) 16 ∧ (vp_in l2 (jZ S (jr S l1 6)) ∧ ((jR S (jr S l1 6) l2.toNatClampNeg = none → jA S (jr S l0 6) 16 ∧ (vp_in l2 (jZ S (jr S l0 6)) ∧ (∀ S63 : JS, S63 = uR S (jr S l0 6) l2.toNatClampNeg none → (∀ x64 : Int32, x64 = (l2 + 1) → (X28 l0 l1 x64 S63))))) ∧ (¬ jR S (jr S l1 6) l2.toNatClampNeg = none → jA S (jr S l0 6) 16 ∧ (jA S (jr S (jr S l1 6) l2.toNatClampNeg) 3 ∧ (vp_in l2 (jZ S (jr S l0 6)) ∧ (∀ S68 : JS, S68 = uR S (jr S l0 6) l2.toNatClampNeg (some (jr S (jr S l1 6) l2.toNatClampNeg)) → (∀ x69 : Int32, x69 = (l2 + 1) → (X28 l0 l1 x69 S68)))))))))))))
set_option maxRecDepth 20000 in
theorem uX9_become_28 {Q : JS → Prop}  (d : Nat) (hd : 3 ≤ d) {X28 : Nat → Nat → Int32 → JS → Prop} (hX28 : ∀ l0 l1 l2 S, X28 l0 l1 l2 S → jLf (jCall jmt jbud d) jbud (fun j => (jmt j).rk) none mX9_become (jqV Q) (28, [some (.ref l0), some (.ref l1), some (.int l2)], [], S, 0, 0)) {l0 : Nat} {l1 : Nat} {l2 : Int32} {S : JS} (h : bX9_become_28 X28 l0 l1 l2 S Q) : jLf (jCall jmt jbud d) jbud (fun j => (jmt j).rk) none mX9_become (jqV Q) (28, [some (.ref l0), some (.ref l1), some (.int l2)], [], S, 0, 0) := by
  have hc := jCall_mono jmt jbud d
  unfold bX9_become_28 at h
  refine jLf.bk hc 2 [] [some (.ref l0), some (.ref l1), some (.int l2)] [.int 6, .int l2] S rfl rfl rfl trivial ?_
  refine jLf.two hc _ rfl (gs := []) (p1 := 6 ≤ l2) (p2 := ¬ (6 ≤ l2)) (c1 := (41, [some (.ref l0), some (.ref l1), some (.int l2)], [], S, 0, 0)) (c2 := (31, [some (.ref l0), some (.ref l1), some (.int l2)], [], S, 0, 0)) rfl trivial (fun hz => ?_) (fun hz => ?_)
  · have h := h.1 hz
    obtain ⟨g27, g28, h⟩ := h
    refine jLf.bk hc 4 [jA S l1 9, jA S l0 9] [some (.ref l0), some (.ref l1), some (.int l2)] [] (uI S l0 7 (jI S l1 7)) rfl rfl rfl ⟨g27, g28⟩ ?_
    generalize eS29 : uI S l0 7 (jI S l1 7) = S29
    have h := h S29 eS29.symm
    obtain ⟨g30, g31, h⟩ := h
    refine jLf.bk hc 4 [jA S29 l1 9, jA S29 l0 9] [some (.ref l0), some (.ref l1), some (.int l2)] [] (uI S29 l0 8 (jI S29 l1 8)) rfl rfl rfl ⟨g30, g31⟩ ?_
    generalize eS32 : uI S29 l0 8 (jI S29 l1 8) = S32
    have h := h S32 eS32.symm
    obtain ⟨g33, g34, g35, g36, g37, g38, g39, g40, g41, g42, h⟩ := h
    refine jLf.bk hc 8 [jA S32 l1 9, ¬ jR S32 l1 9 = none, jA S32 l0 9, ¬ jR S32 l0 9 = none, jA S32 (jr S32 l1 9) 13, jA S32 (jr S32 l0 9) 13, ¬ (0 : Int32) < 0, ¬ (0 : Int32) < 0, ¬ (60 : Int32) < 0, (0 : Int32).toNatClampNeg + (60 : Int32).toNatClampNeg ≤ jZ S32 (jr S32 l1 9), (0 : Int32).toNatClampNeg + (60 : Int32).toNatClampNeg ≤ jZ S32 (jr S32 l0 9), (([] : List Value).map fun v => v.category).sum ≤ 8] [some (.ref l0), some (.ref l1), some (.int l2)] [] (uIf S32 (jr S32 l0 9) (va_cpy (jI S32 (jr S32 l1 9)) (jI S32 (jr S32 l0 9)) (0 : Int32).toNatClampNeg (0 : Int32).toNatClampNeg (60 : Int32).toNatClampNeg)) rfl rfl rfl ⟨g33, g34, g35, g36, g37, g38, g39, g39, g40, g41, g42, (Nat.le_of_ble_eq_true rfl)⟩ ?_
    generalize eS43 : uIf S32 (jr S32 l0 9) (va_cpy (jI S32 (jr S32 l1 9)) (jI S32 (jr S32 l0 9)) (0 : Int32).toNatClampNeg (0 : Int32).toNatClampNeg (60 : Int32).toNatClampNeg) = S43
    have h := h S43 eS43.symm
    obtain ⟨g44, g45, h⟩ := h
    refine jLf.bk hc 4 [jA S43 l1 9, jA S43 l0 9] [some (.ref l0), some (.ref l1), some (.int l2)] [] (uI S43 l0 10 (jI S43 l1 10)) rfl rfl rfl ⟨g44, g45⟩ ?_
    generalize eS46 : uI S43 l0 10 (jI S43 l1 10) = S46
    have h := h S46 eS46.symm
    obtain ⟨g47, g48, g49, g50, g51, g52, g53, g54, g55, h⟩ := h
    refine jLf.bk hc 8 [jA S46 l1 9, ¬ jR S46 l1 11 = none, jA S46 l0 9, ¬ jR S46 l0 11 = none, jA S46 (jr S46 l1 11) 13, jA S46 (jr S46 l0 11) 13, ¬ (0 : Int32) < 0, ¬ (0 : Int32) < 0, ¬ (12 : Int32) < 0, (0 : Int32).toNatClampNeg + (12 : Int32).toNatClampNeg ≤ jZ S46 (jr S46 l1 11), (0 : Int32).toNatClampNeg + (12 : Int32).toNatClampNeg ≤ jZ S46 (jr S46 l0 11), (([] : List Value).map fun v => v.category).sum ≤ 8] [some (.ref l0), some (.ref l1), some (.int l2)] [] (uIf S46 (jr S46 l0 11) (va_cpy (jI S46 (jr S46 l1 11)) (jI S46 (jr S46 l0 11)) (0 : Int32).toNatClampNeg (0 : Int32).toNatClampNeg (12 : Int32).toNatClampNeg)) rfl rfl rfl ⟨g47, g48, g49, g50, g51, g52, g39, g39, g53, g54, g55, (Nat.le_of_ble_eq_true rfl)⟩ ?_
    generalize eS56 : uIf S46 (jr S46 l0 11) (va_cpy (jI S46 (jr S46 l1 11)) (jI S46 (jr S46 l0 11)) (0 : Int32).toNatClampNeg (0 : Int32).toNatClampNeg (12 : Int32).toNatClampNeg) = S56
    have h := h S56 eS56.symm
    exact jLf.ret hc _ rfl (gs := [jrt none none]) (v := none) rfl trivial ⟨rfl, h⟩
  · have h := h.2 hz
    obtain ⟨g57, g58, g59, g60, h⟩ := h
    refine jLf.bk hc 6 [jA S l0 9, ¬ jR S l0 6 = none, jA S l1 9, ¬ jR S l1 6 = none] [some (.ref l0), some (.ref l1), some (.int l2)] [.int l2, .ref (jr S l1 6), .int l2, .ref (jr S l0 6)] S rfl rfl rfl ⟨g57, g58, g59, g60⟩ ?_
    obtain ⟨ga, gb, h⟩ := h
    refine jLf.two hc _ rfl (gs := [jA S (jr S l1 6) 16, vp_in l2 (jZ S (jr S l1 6))]) (p1 := jR S (jr S l1 6) l2.toNatClampNeg = none) (p2 := ¬ jR S (jr S l1 6) l2.toNatClampNeg = none) (c1 := (38, [some (.ref l0), some (.ref l1), some (.int l2)], [.null, .int l2, .ref (jr S l0 6)], S, 0, 0)) (c2 := (38, [some (.ref l0), some (.ref l1), some (.int l2)], [.ref (jr S (jr S l1 6) l2.toNatClampNeg), .int l2, .ref (jr S l0 6)], S, 0, 0)) rfl ⟨ga, gb⟩ (fun hz => ?_) (fun hz => ?_)
    · have h := h.1 hz
      obtain ⟨g61, g62, h⟩ := h
      refine jLf.bk hc 1 [jA S (jr S l0 6) 16, vp_in l2 (jZ S (jr S l0 6))] [some (.ref l0), some (.ref l1), some (.int l2)] [] (uR S (jr S l0 6) l2.toNatClampNeg none) rfl rfl rfl ⟨g61, g62⟩ ?_
      generalize eS63 : uR S (jr S l0 6) l2.toNatClampNeg none = S63
      have h := h S63 eS63.symm
      refine jLf.bk hc 1 [] [some (.ref l0), some (.ref l1), some (.int (l2 + 1))] [] S63 rfl rfl rfl trivial ?_
      generalize ex64 : (l2 + 1 : Int32) = x64
      have h := h x64 ex64.symm
      refine jLf.one hc _ rfl (gs := []) (c := (28, [some (.ref l0), some (.ref l1), some (.int x64)], [], S63, 0, 0)) rfl trivial ?_
      exact hX28 _ _ _ _ h
    · have h := h.2 hz
      obtain ⟨g65, g66, g67, h⟩ := h
      refine jLf.bk hc 1 [jA S (jr S l0 6) 16, jA S (jr S (jr S l1 6) l2.toNatClampNeg) 3, vp_in l2 (jZ S (jr S l0 6))] [some (.ref l0), some (.ref l1), some (.int l2)] [] (uR S (jr S l0 6) l2.toNatClampNeg (some (jr S (jr S l1 6) l2.toNatClampNeg))) rfl rfl rfl ⟨g65, g66, g67⟩ ?_
      generalize eS68 : uR S (jr S l0 6) l2.toNatClampNeg (some (jr S (jr S l1 6) l2.toNatClampNeg)) = S68
      have h := h S68 eS68.symm
      refine jLf.bk hc 1 [] [some (.ref l0), some (.ref l1), some (.int (l2 + 1))] [] S68 rfl rfl rfl trivial ?_
      generalize ex69 : (l2 + 1 : Int32) = x69
      have h := h x69 ex69.symm
      refine jLf.one hc _ rfl (gs := []) (c := (28, [some (.ref l0), some (.ref l1), some (.int x69)], [], S68, 0, 0)) rfl trivial ?_
      exact hX28 _ _ _ _ h
def wX9_become_28   (l0 : Nat) (l1 : Nat) (l2 : Int32) (S : JS) (Q : JS → Prop) : Prop :=
  jLoop (fun (X28 : Nat × Nat × Int32 × JS → Prop) q => bX9_become_28 (fun l0 l1 l2 S => X28 (l0, l1, l2, S)) q.1 q.2.1 q.2.2.1 q.2.2.2 Q) (l0, l1, l2, S)
set_option maxRecDepth 20000 in
theorem tX9_become_28 {Q : JS → Prop}  (d : Nat) (hd : 3 ≤ d) {l0 : Nat} {l1 : Nat} {l2 : Int32} {S : JS} (h : wX9_become_28 l0 l1 l2 S Q) : jLf (jCall jmt jbud d) jbud (fun j => (jmt j).rk) none mX9_become (jqV Q) (28, [some (.ref l0), some (.ref l1), some (.int l2)], [], S, 0, 0) := by
  have := h (fun q : Nat × Nat × Int32 × JS => jLf (jCall jmt jbud d) jbud (fun j => (jmt j).rk) none mX9_become (jqV Q) (28, [some (.ref (q.1)), some (.ref (q.2.1)), some (.int (q.2.2.1))], [], q.2.2.2, 0, 0)) (fun q R hb hR => uX9_become_28 d hd  (fun _ _ _ _ => hR _) hb)
  exact this
def wX9_become  (this : Nat) (p1 : Nat) (S : JS) (Q : JS → Prop) : Prop :=
  jA S p1 9 ∧ (jA S this 9 ∧ (∀ S3 : JS, S3 = uI S this 0 (jI S p1 0) → (jA S3 p1 9 ∧ (jA S3 this 9 ∧ (∀ S6 : JS, S6 = uI S3 this 1 (jI S3 p1 1) → (jA S6 p1 9 ∧ (jA S6 this 9 ∧ (∀ S9 : JS, S9 = uI S6 this 2 (jI S6 p1 2) → (jA S9 p1 9 ∧ (jA S9 this 9 ∧ (∀ S12 : JS, S12 = uJ S9 this 3 (jJ S9 p1 3) → (jA S12 this 9 ∧ (¬ jR S12 this 4 = none ∧ (jA S12 p1 9 ∧ (¬ jR S12 p1 4 = none ∧ (jA S12 (jr S12 this 4) 8 ∧ (wX8_become (jr S12 this 4) (jr S12 p1 4) S12 (fun S17 => jA S17 this 9 ∧ (¬ jR S17 this 5 = none ∧ (jA S17 p1 9 ∧ (¬ jR S17 p1 5 = none ∧ (jA S17 (jr S17 this 5) 8 ∧ (wX8_become (jr S17 this 5) (jr S17 p1 5) S17 (fun S24 => wX9_become_28 this p1 0 S24 Q))))))))))))))))))))))))
set_option maxRecDepth 20000 in
theorem vX9_become {Q : JS → Prop} (d : Nat) (hd : 4 ≤ d) {this : Nat} {p1 : Nat} {S : JS} (h : wX9_become this p1 S Q) : jCall jmt jbud d 94 [.ref this, .ref p1] S (jqV Q) := by
  obtain ⟨d, rfl⟩ : ∃ d2, d = d2 + 1 := ⟨d - 1, by omega⟩
  have hd : 3 ≤ d := by omega
  have hc := jCall_mono jmt jbud d
  unfold wX9_become at h
  refine ⟨Nat.le_of_ble_eq_true rfl, ?_⟩
  show jLf (jCall jmt jbud d) jbud (fun j => (jmt j).rk) none mX9_become (jqV Q) (0, [some (.ref this), some (.ref p1), none], [], S, 0, 0)
  obtain ⟨g1, g2, h⟩ := h
  refine jLf.bk hc 4 [jA S p1 9, jA S this 9] [some (.ref this), some (.ref p1), none] [] (uI S this 0 (jI S p1 0)) rfl rfl rfl ⟨g1, g2⟩ ?_
  generalize eS3 : uI S this 0 (jI S p1 0) = S3
  have h := h S3 eS3.symm
  obtain ⟨g4, g5, h⟩ := h
  refine jLf.bk hc 4 [jA S3 p1 9, jA S3 this 9] [some (.ref this), some (.ref p1), none] [] (uI S3 this 1 (jI S3 p1 1)) rfl rfl rfl ⟨g4, g5⟩ ?_
  generalize eS6 : uI S3 this 1 (jI S3 p1 1) = S6
  have h := h S6 eS6.symm
  obtain ⟨g7, g8, h⟩ := h
  refine jLf.bk hc 4 [jA S6 p1 9, jA S6 this 9] [some (.ref this), some (.ref p1), none] [] (uI S6 this 2 (jI S6 p1 2)) rfl rfl rfl ⟨g7, g8⟩ ?_
  generalize eS9 : uI S6 this 2 (jI S6 p1 2) = S9
  have h := h S9 eS9.symm
  obtain ⟨g10, g11, h⟩ := h
  refine jLf.bk hc 4 [jA S9 p1 9, jA S9 this 9] [some (.ref this), some (.ref p1), none] [] (uJ S9 this 3 (jJ S9 p1 3)) rfl rfl rfl ⟨g10, g11⟩ ?_
  generalize eS12 : uJ S9 this 3 (jJ S9 p1 3) = S12
  have h := h S12 eS12.symm
  obtain ⟨g13, g14, g15, g16, h⟩ := h
  refine jLf.bk hc 4 [jA S12 this 9, ¬ jR S12 this 4 = none, jA S12 p1 9, ¬ jR S12 p1 4 = none] [some (.ref this), some (.ref p1), none] [.ref (jr S12 p1 4), .ref (jr S12 this 4)] S12 rfl rfl rfl ⟨g13, g14, g15, g16⟩ ?_
  obtain ⟨g19, h⟩ := h
  refine jLf.inv hc _ rfl (gs := [jA S12 (jr S12 this 4) 8, (([] : List Value).map fun v => v.category).sum ≤ 8, 0 ≤ 0, 0 ≤ 0]) (k := 85) (args := [.ref (jr S12 this 4), .ref (jr S12 p1 4)]) (r := []) (a := 0) (b := 0) rfl ⟨g19, Nat.le_of_ble_eq_true rfl, Nat.zero_le _, Nat.zero_le _⟩ (vX8_become d (by omega) h) ?_
  rintro v S17 ⟨rfl, h⟩
  show jLf (jCall jmt jbud d) jbud (fun j => (jmt j).rk) none mX9_become (jqV Q) (21, [some (.ref this), some (.ref p1), none], [], S17, 0, 0)
  obtain ⟨g20, g21, g22, g23, h⟩ := h
  refine jLf.bk hc 4 [jA S17 this 9, ¬ jR S17 this 5 = none, jA S17 p1 9, ¬ jR S17 p1 5 = none] [some (.ref this), some (.ref p1), none] [.ref (jr S17 p1 5), .ref (jr S17 this 5)] S17 rfl rfl rfl ⟨g20, g21, g22, g23⟩ ?_
  obtain ⟨g26, h⟩ := h
  refine jLf.inv hc _ rfl (gs := [jA S17 (jr S17 this 5) 8, (([] : List Value).map fun v => v.category).sum ≤ 8, 0 ≤ 0, 0 ≤ 0]) (k := 85) (args := [.ref (jr S17 this 5), .ref (jr S17 p1 5)]) (r := []) (a := 0) (b := 0) rfl ⟨g26, Nat.le_of_ble_eq_true rfl, Nat.zero_le _, Nat.zero_le _⟩ (vX8_become d (by omega) h) ?_
  rintro v S24 ⟨rfl, h⟩
  show jLf (jCall jmt jbud d) jbud (fun j => (jmt j).rk) none mX9_become (jqV Q) (26, [some (.ref this), some (.ref p1), none], [], S24, 0, 0)
  refine jLf.bk hc 2 [] [some (.ref this), some (.ref p1), some (.int 0)] [] S24 rfl rfl rfl trivial ?_
  exact tX9_become_28 d hd  h
def wX10_init  (this : Nat) (S : JS) (Q : JS → Prop) : Prop :=
  jN S < 1000000 ∧ (∀ h3 : Nat, h3 = jN S → (∀ S1 : JS, S1 = uNew S 13 60 → (jA S1 this 10 ∧ (∀ S5 : JS, S5 = uR S1 this 0 (some h3) → (jN S5 < 1000000 ∧ (∀ h8 : Nat, h8 = jN S5 → (∀ S6 : JS, S6 = uNew S5 13 9 → (jA S6 this 10 ∧ (∀ S10 : JS, S10 = uR S6 this 2 (some h8) → (Q S10))))))))))
set_option maxRecDepth 20000 in
theorem vX10_init {Q : JS → Prop} (d : Nat) (hd : 1 ≤ d) {this : Nat} {S : JS} (h : wX10_init this S Q) : jCall jmt jbud d 95 [.ref this] S (jqV Q) := by
  obtain ⟨d, rfl⟩ : ∃ d2, d = d2 + 1 := ⟨d - 1, by omega⟩
  have hd : 0 ≤ d := by omega
  have hc := jCall_mono jmt jbud d
  unfold wX10_init at h
  refine ⟨Nat.le_of_ble_eq_true rfl, ?_⟩
  show jLf (jCall jmt jbud d) jbud (fun j => (jmt j).rk) none mX10_init (jqV Q) (0, [some (.ref this)], [], S, 2, 69)
  refine jLf.bk hc 4 [(([] : List Value).map fun v => v.category).sum ≤ 8] [some (.ref this)] [.int 60, .ref this] S rfl rfl rfl (Nat.le_of_ble_eq_true rfl) ?_
  obtain ⟨g2, h⟩ := h
  refine jLf.one hc _ rfl (gs := [¬ (60 : Int32) < 0, 60 ≤ 1000000, 1 ≤ 2, 60 ≤ 69, jN S < 1000000]) (c := (5, [some (.ref this)], [.ref (jN S), .ref this], (uNew S 13 60), 1, 9)) rfl ⟨(by decide), Nat.le_of_ble_eq_true rfl, Nat.le_of_ble_eq_true rfl, Nat.le_of_ble_eq_true rfl, g2⟩ ?_
  generalize eS1 : uNew S 13 60 = S1
  generalize eh3 : jN S = h3
  have h := h h3 eh3.symm S1 eS1.symm
  obtain ⟨g4, h⟩ := h
  refine jLf.bk hc 1 [jA S1 this 10] [some (.ref this)] [] (uR S1 this 0 (some h3)) rfl rfl rfl g4 ?_
  generalize eS5 : uR S1 this 0 (some h3) = S5
  have h := h S5 eS5.symm
  refine jLf.bk hc 2 [] [some (.ref this)] [.int 9, .ref this] S5 rfl rfl rfl trivial ?_
  obtain ⟨g7, h⟩ := h
  refine jLf.one hc _ rfl (gs := [¬ (9 : Int32) < 0, 9 ≤ 1000000, 1 ≤ 1, 9 ≤ 9, jN S5 < 1000000]) (c := (9, [some (.ref this)], [.ref (jN S5), .ref this], (uNew S5 13 9), 0, 0)) rfl ⟨(by decide), Nat.le_of_ble_eq_true rfl, Nat.le_of_ble_eq_true rfl, Nat.le_of_ble_eq_true rfl, g7⟩ ?_
  generalize eS6 : uNew S5 13 9 = S6
  generalize eh8 : jN S5 = h8
  have h := h h8 eh8.symm S6 eS6.symm
  obtain ⟨g9, h⟩ := h
  refine jLf.bk hc 1 [jA S6 this 10] [some (.ref this)] [] (uR S6 this 2 (some h8)) rfl rfl rfl g9 ?_
  generalize eS10 : uR S6 this 2 (some h8) = S10
  have h := h S10 eS10.symm
  exact jLf.ret hc _ rfl (gs := [jrt none none]) (v := none) rfl trivial ⟨rfl, h⟩
def wX10_draw  (this : Nat) (p1 : Int32) (S : JS) (Q : Int32 → JS → Prop) : Prop :=
  jA S this 10 ∧ (¬ (1000003 : Int64) = 0 ∧ (∀ S3 : JS, S3 = uJ S this 3 ((((jJ S this 3) * (1103 : Int64)) + (12345 : Int64)) - (((jJ S this 3) * (1103 : Int64)) + (12345 : Int64)) / (1000003 : Int64) * (1000003 : Int64)) → (jA S3 this 10 ∧ (¬ ((if (1 : Int32) < p1 then p1 else (1 : Int32)).toInt64) = 0 ∧ (Q (((jJ S3 this 3) - (jJ S3 this 3) / ((if (1 : Int32) < p1 then p1 else (1 : Int32)).toInt64) * ((if (1 : Int32) < p1 then p1 else (1 : Int32)).toInt64)).toInt32) S3)))))
set_option maxRecDepth 20000 in
theorem vX10_draw {Q : Int32 → JS → Prop} (d : Nat) (hd : 1 ≤ d) {this : Nat} {p1 : Int32} {S : JS} (h : wX10_draw this p1 S Q) : jCall jmt jbud d 98 [.ref this, .int p1] S (jqI Q) := by
  obtain ⟨d, rfl⟩ : ∃ d2, d = d2 + 1 := ⟨d - 1, by omega⟩
  have hd : 0 ≤ d := by omega
  have hc := jCall_mono jmt jbud d
  unfold wX10_draw at h
  refine ⟨Nat.le_of_ble_eq_true rfl, ?_⟩
  show jLf (jCall jmt jbud d) jbud (fun j => (jmt j).rk) none mX10_draw (jqI Q) (0, [some (.ref this), some (.int p1)], [], S, 0, 0)
  obtain ⟨g1, g2, h⟩ := h
  refine jLf.bk hc 10 [jA S this 10, ¬ (1000003 : Int64) = 0, jA S this 10] [some (.ref this), some (.int p1)] [] (uJ S this 3 ((((jJ S this 3) * (1103 : Int64)) + (12345 : Int64)) - (((jJ S this 3) * (1103 : Int64)) + (12345 : Int64)) / (1000003 : Int64) * (1000003 : Int64))) rfl rfl rfl ⟨g1, g2, g1⟩ ?_
  generalize eS3 : uJ S this 3 ((((jJ S this 3) * (1103 : Int64)) + (12345 : Int64)) - (((jJ S this 3) * (1103 : Int64)) + (12345 : Int64)) / (1000003 : Int64) * (1000003 : Int64)) = S3
  have h := h S3 eS3.symm
  obtain ⟨g4, g5, h⟩ := h
  refine jLf.bk hc 8 [jA S3 this 10, (([.long (jJ S3 this 3)] : List Value).map fun v => v.category).sum ≤ 8, ¬ ((if (1 : Int32) < p1 then p1 else (1 : Int32)).toInt64) = 0] [some (.ref this), some (.int p1)] [.int (((jJ S3 this 3) - (jJ S3 this 3) / ((if (1 : Int32) < p1 then p1 else (1 : Int32)).toInt64) * ((if (1 : Int32) < p1 then p1 else (1 : Int32)).toInt64)).toInt32)] S3 rfl rfl rfl ⟨g4, (Nat.le_of_ble_eq_true rfl), g5⟩ ?_
  exact jLf.ret hc _ rfl (gs := [True]) (v := some (.int (((jJ S3 this 3) - (jJ S3 this 3) / ((if (1 : Int32) < p1 then p1 else (1 : Int32)).toInt64) * ((if (1 : Int32) < p1 then p1 else (1 : Int32)).toInt64)).toInt32))) rfl trivial ⟨((jJ S3 this 3) - (jJ S3 this 3) / ((if (1 : Int32) < p1 then p1 else (1 : Int32)).toInt64) * ((if (1 : Int32) < p1 then p1 else (1 : Int32)).toInt64)).toInt32, rfl, h⟩
def bX10_nextRock_48   (X48 : Nat → Int32 → Int32 → Int32 → JS → Prop) (l0 : Nat) (l3 : Int32) (l7 : Int32) (l8 : Int32) (S : JS) (Q : Int32 → JS → Prop) : Prop :=
  (9 ≤ l8 → Q l3 S) ∧ (¬ (9 ≤ l8) → jA S l0 10 ∧ (¬ jR S l0 2 = none ∧ (jA S (jr S l0 2) 13 ∧ (vp_in l8 (jZ S (jr S l0 2)) ∧ (((jI S (jr S l0 2) l8.toNatClampNeg) ≤ l7 → ∀ x14 : Int32, x14 = (l7 - (jI S (jr S l0 2) l8.toNatClampNeg)) → (∀ x15 : Int32, x15 = (l8 + 1) → (X48 l0 l3 x14 x15 S))) ∧ (¬ ((jI S (jr S l0 2) l8.toNatClampNeg) ≤ l7) → Q l8 S))))))
set_option maxRecDepth 20000 in
theorem uX10_nextRock_48 {Q : Int32 → JS → Prop}  (d : Nat) (hd : 4 ≤ d) {X48 : Nat → Int32 → Int32 → Int32 → JS → Prop} (hX48 : ∀ l0 l3 l7 l8 S, X48 l0 l3 l7 l8 S → jLf (jCall jmt jbud d) jbud (fun j => (jmt j).rk) none mX10_nextRock (jqI Q) (48, [some (.ref l0), none, none, some (.int l3), none, none, none, some (.int l7), some (.int l8)], [], S, 0, 0)) {l0 : Nat} {l3 : Int32} {l7 : Int32} {l8 : Int32} {S : JS} (h : bX10_nextRock_48 X48 l0 l3 l7 l8 S Q) : jLf (jCall jmt jbud d) jbud (fun j => (jmt j).rk) none mX10_nextRock (jqI Q) (48, [some (.ref l0), none, none, some (.int l3), none, none, none, some (.int l7), some (.int l8)], [], S, 0, 0) := by
  have hc := jCall_mono jmt jbud d
  unfold bX10_nextRock_48 at h
  refine jLf.bk hc 2 [] [some (.ref l0), none, none, some (.int l3), none, none, none, some (.int l7), some (.int l8)] [.int 9, .int l8] S rfl rfl rfl trivial ?_
  refine jLf.two hc _ rfl (gs := []) (p1 := 9 ≤ l8) (p2 := ¬ (9 ≤ l8)) (c1 := (68, [some (.ref l0), none, none, some (.int l3), none, none, none, some (.int l7), some (.int l8)], [], S, 0, 0)) (c2 := (51, [some (.ref l0), none, none, some (.int l3), none, none, none, some (.int l7), some (.int l8)], [], S, 0, 0)) rfl trivial (fun hz => ?_) (fun hz => ?_)
  · have h := h.1 hz
    refine jLf.bk hc 1 [] [some (.ref l0), none, none, some (.int l3), none, none, none, some (.int l7), some (.int l8)] [.int l3] S rfl rfl rfl trivial ?_
    exact jLf.ret hc _ rfl (gs := [True]) (v := some (.int l3)) rfl trivial ⟨l3, rfl, h⟩
  · have h := h.2 hz
    obtain ⟨g10, g11, g12, g13, h⟩ := h
    refine jLf.bk hc 5 [jA S l0 10, ¬ jR S l0 2 = none, jA S (jr S l0 2) 13, vp_in l8 (jZ S (jr S l0 2))] [some (.ref l0), none, none, some (.int l3), none, none, none, some (.int l7), some (.int l8)] [.int (jI S (jr S l0 2) l8.toNatClampNeg), .int l7] S rfl rfl rfl ⟨g10, g11, g12, g13⟩ ?_
    refine jLf.two hc _ rfl (gs := []) (p1 := (jI S (jr S l0 2) l8.toNatClampNeg) ≤ l7) (p2 := ¬ ((jI S (jr S l0 2) l8.toNatClampNeg) ≤ l7)) (c1 := (59, [some (.ref l0), none, none, some (.int l3), none, none, none, some (.int l7), some (.int l8)], [], S, 0, 0)) (c2 := (57, [some (.ref l0), none, none, some (.int l3), none, none, none, some (.int l7), some (.int l8)], [], S, 0, 0)) rfl trivial (fun hz => ?_) (fun hz => ?_)
    · have h := h.1 hz
      refine jLf.bk hc 7 [jA S l0 10, ¬ jR S l0 2 = none, jA S (jr S l0 2) 13, vp_in l8 (jZ S (jr S l0 2))] [some (.ref l0), none, none, some (.int l3), none, none, none, some (.int (l7 - (jI S (jr S l0 2) l8.toNatClampNeg))), some (.int l8)] [] S rfl rfl rfl ⟨g10, g11, g12, g13⟩ ?_
      generalize ex14 : (l7 - (jI S (jr S l0 2) l8.toNatClampNeg) : Int32) = x14
      have h := h x14 ex14.symm
      refine jLf.bk hc 1 [] [some (.ref l0), none, none, some (.int l3), none, none, none, some (.int x14), some (.int (l8 + 1))] [] S rfl rfl rfl trivial ?_
      generalize ex15 : (l8 + 1 : Int32) = x15
      have h := h x15 ex15.symm
      refine jLf.one hc _ rfl (gs := []) (c := (48, [some (.ref l0), none, none, some (.int l3), none, none, none, some (.int x14), some (.int x15)], [], S, 0, 0)) rfl trivial ?_
      exact hX48 _ _ _ _ _ h
    · have h := h.2 hz
      refine jLf.bk hc 1 [] [some (.ref l0), none, none, some (.int l3), none, none, none, some (.int l7), some (.int l8)] [.int l8] S rfl rfl rfl trivial ?_
      exact jLf.ret hc _ rfl (gs := [True]) (v := some (.int l8)) rfl trivial ⟨l8, rfl, h⟩
def wX10_nextRock_48   (l0 : Nat) (l3 : Int32) (l7 : Int32) (l8 : Int32) (S : JS) (Q : Int32 → JS → Prop) : Prop :=
  jLoop (fun (X48 : Nat × Int32 × Int32 × Int32 × JS → Prop) q => bX10_nextRock_48 (fun l0 l3 l7 l8 S => X48 (l0, l3, l7, l8, S)) q.1 q.2.1 q.2.2.1 q.2.2.2.1 q.2.2.2.2 Q) (l0, l3, l7, l8, S)
set_option maxRecDepth 20000 in
theorem tX10_nextRock_48 {Q : Int32 → JS → Prop}  (d : Nat) (hd : 4 ≤ d) {l0 : Nat} {l3 : Int32} {l7 : Int32} {l8 : Int32} {S : JS} (h : wX10_nextRock_48 l0 l3 l7 l8 S Q) : jLf (jCall jmt jbud d) jbud (fun j => (jmt j).rk) none mX10_nextRock (jqI Q) (48, [some (.ref l0), none, none, some (.int l3), none, none, none, some (.int l7), some (.int l8)], [], S, 0, 0) := by
  have := h (fun q : Nat × Int32 × Int32 × Int32 × JS => jLf (jCall jmt jbud d) jbud (fun j => (jmt j).rk) none mX10_nextRock (jqI Q) (48, [some (.ref (q.1)), none, none, some (.int (q.2.1)), none, none, none, some (.int (q.2.2.1)), some (.int (q.2.2.2.1))], [], q.2.2.2.2, 0, 0)) (fun q R hb hR => uX10_nextRock_48 d hd  (fun _ _ _ _ _ => hR _) hb)
  exact this
def wX10_nextRock_32  (X14 : Nat → Nat → Nat → Int32 → Int32 → Int32 → Int32 → Int32 → JS → Prop) (l0 : Nat) (l1 : Nat) (l2 : Nat) (l3 : Int32) (l4 : Int32) (l5 : Int32) (l6 : Int32) (l7 : Int32) (s0 : Int32) (s1 : Int32) (s2 : Nat) (S : JS) (Q : Int32 → JS → Prop) : Prop :=
  jA S s2 13 ∧ (vp_in s1 (jZ S s2) ∧ (∀ S22 : JS, S22 = uI S s2 s1.toNatClampNeg s0 → (jA S22 l0 10 ∧ (¬ jR S22 l0 2 = none ∧ (jA S22 (jr S22 l0 2) 13 ∧ (vp_in l7 (jZ S22 (jr S22 l0 2)) ∧ (∀ x27 : Int32, x27 = (l6 + (jI S22 (jr S22 l0 2) l7.toNatClampNeg)) → (∀ x28 : Int32, x28 = (l7 + 1) → (X14 l0 l1 l2 l3 l4 l5 x27 x28 S22)))))))))
set_option maxRecDepth 20000 in
theorem tX10_nextRock_32 {Q : Int32 → JS → Prop} {X14 : Nat → Nat → Nat → Int32 → Int32 → Int32 → Int32 → Int32 → JS → Prop} (d : Nat) (hd : 4 ≤ d) (hX14 : ∀ l0 l1 l2 l3 l4 l5 l6 l7 S, X14 l0 l1 l2 l3 l4 l5 l6 l7 S → jLf (jCall jmt jbud d) jbud (fun j => (jmt j).rk) none mX10_nextRock (jqI Q) (14, [some (.ref l0), some (.ref l1), some (.ref l2), some (.int l3), some (.int l4), some (.int l5), some (.int l6), some (.int l7), none], [], S, 0, 0)) {l0 : Nat} {l1 : Nat} {l2 : Nat} {l3 : Int32} {l4 : Int32} {l5 : Int32} {l6 : Int32} {l7 : Int32} {s0 : Int32} {s1 : Int32} {s2 : Nat} {S : JS} (h : wX10_nextRock_32 X14 l0 l1 l2 l3 l4 l5 l6 l7 s0 s1 s2 S Q) : jLf (jCall jmt jbud d) jbud (fun j => (jmt j).rk) none mX10_nextRock (jqI Q) (32, [some (.ref l0), some (.ref l1), some (.ref l2), some (.int l3), some (.int l4), some (.int l5), some (.int l6), some (.int l7), none], [.int s0, .int s1, .ref s2], S, 0, 0) := by
  have hc := jCall_mono jmt jbud d
  unfold wX10_nextRock_32 at h
  obtain ⟨g20, g21, h⟩ := h
  refine jLf.bk hc 1 [jA S s2 13, vp_in s1 (jZ S s2)] [some (.ref l0), some (.ref l1), some (.ref l2), some (.int l3), some (.int l4), some (.int l5), some (.int l6), some (.int l7), none] [] (uI S s2 s1.toNatClampNeg s0) rfl rfl rfl ⟨g20, g21⟩ ?_
  generalize eS22 : uI S s2 s1.toNatClampNeg s0 = S22
  have h := h S22 eS22.symm
  obtain ⟨g23, g24, g25, g26, h⟩ := h
  refine jLf.bk hc 7 [jA S22 l0 10, ¬ jR S22 l0 2 = none, jA S22 (jr S22 l0 2) 13, vp_in l7 (jZ S22 (jr S22 l0 2))] [some (.ref l0), some (.ref l1), some (.ref l2), some (.int l3), some (.int l4), some (.int l5), some (.int (l6 + (jI S22 (jr S22 l0 2) l7.toNatClampNeg))), some (.int l7), none] [] S22 rfl rfl rfl ⟨g23, g24, g25, g26⟩ ?_
  generalize ex27 : (l6 + (jI S22 (jr S22 l0 2) l7.toNatClampNeg) : Int32) = x27
  have h := h x27 ex27.symm
  refine jLf.bk hc 1 [] [some (.ref l0), some (.ref l1), some (.ref l2), some (.int l3), some (.int l4), some (.int l5), some (.int x27), some (.int (l7 + 1)), none] [] S22 rfl rfl rfl trivial ?_
  generalize ex28 : (l7 + 1 : Int32) = x28
  have h := h x28 ex28.symm
  refine jLf.one hc _ rfl (gs := []) (c := (14, [some (.ref l0), some (.ref l1), some (.ref l2), some (.int l3), some (.int l4), some (.int l5), some (.int x27), some (.int x28), none], [], S22, 0, 0)) rfl trivial ?_
  exact hX14 _ _ _ _ _ _ _ _ _ h
def bX10_nextRock_14   (X14 : Nat → Nat → Nat → Int32 → Int32 → Int32 → Int32 → Int32 → JS → Prop) (l0 : Nat) (l1 : Nat) (l2 : Nat) (l3 : Int32) (l4 : Int32) (l5 : Int32) (l6 : Int32) (l7 : Int32) (S : JS) (Q : Int32 → JS → Prop) : Prop :=
  (9 ≤ l7 → jA S l0 10 ∧ (wX10_draw l0 l6 S (fun r8 S7 => wX10_nextRock_48 l0 l3 r8 0 S7 Q))) ∧ (¬ (9 ≤ l7) → jA S l0 10 ∧ (¬ jR S l0 2 = none ∧ (wX11_hasBit l5 l7 S (fun r19 S18 => (r19 = 0 → wX10_nextRock_32 X14 l0 l1 l2 l3 l4 l5 l6 l7 0 l7 (jr S l0 2) S18 Q) ∧ (¬ r19 = 0 → jA S18 l2 1 ∧ (wX1_willFor l2 l1 l3 l7 l4 S18 (fun r30 S29 => wX10_nextRock_32 X14 l0 l1 l2 l3 l4 l5 l6 l7 r30 l7 (jr S l0 2) S29 Q)))))))
set_option maxRecDepth 20000 in
theorem uX10_nextRock_14 {Q : Int32 → JS → Prop}  (d : Nat) (hd : 4 ≤ d) {X14 : Nat → Nat → Nat → Int32 → Int32 → Int32 → Int32 → Int32 → JS → Prop} (hX14 : ∀ l0 l1 l2 l3 l4 l5 l6 l7 S, X14 l0 l1 l2 l3 l4 l5 l6 l7 S → jLf (jCall jmt jbud d) jbud (fun j => (jmt j).rk) none mX10_nextRock (jqI Q) (14, [some (.ref l0), some (.ref l1), some (.ref l2), some (.int l3), some (.int l4), some (.int l5), some (.int l6), some (.int l7), none], [], S, 0, 0)) {l0 : Nat} {l1 : Nat} {l2 : Nat} {l3 : Int32} {l4 : Int32} {l5 : Int32} {l6 : Int32} {l7 : Int32} {S : JS} (h : bX10_nextRock_14 X14 l0 l1 l2 l3 l4 l5 l6 l7 S Q) : jLf (jCall jmt jbud d) jbud (fun j => (jmt j).rk) none mX10_nextRock (jqI Q) (14, [some (.ref l0), some (.ref l1), some (.ref l2), some (.int l3), some (.int l4), some (.int l5), some (.int l6), some (.int l7), none], [], S, 0, 0) := by
  have hc := jCall_mono jmt jbud d
  unfold bX10_nextRock_14 at h
  refine jLf.bk hc 2 [] [some (.ref l0), some (.ref l1), some (.ref l2), some (.int l3), some (.int l4), some (.int l5), some (.int l6), some (.int l7), none] [.int 9, .int l7] S rfl rfl rfl trivial ?_
  refine jLf.two hc _ rfl (gs := []) (p1 := 9 ≤ l7) (p2 := ¬ (9 ≤ l7)) (c1 := (42, [some (.ref l0), some (.ref l1), some (.ref l2), some (.int l3), some (.int l4), some (.int l5), some (.int l6), some (.int l7), none], [], S, 0, 0)) (c2 := (17, [some (.ref l0), some (.ref l1), some (.ref l2), some (.int l3), some (.int l4), some (.int l5), some (.int l6), some (.int l7), none], [], S, 0, 0)) rfl trivial (fun hz => ?_) (fun hz => ?_)
  · have h := h.1 hz
    refine jLf.bk hc 2 [] [some (.ref l0), some (.ref l1), some (.ref l2), some (.int l3), some (.int l4), some (.int l5), some (.int l6), some (.int l7), none] [.int l6, .ref l0] S rfl rfl rfl trivial ?_
    obtain ⟨g9, h⟩ := h
    refine jLf.inv hc _ rfl (gs := [jA S l0 10, (([] : List Value).map fun v => v.category).sum ≤ 8, 0 ≤ 0, 0 ≤ 0]) (k := 98) (args := [.ref l0, .int l6]) (r := []) (a := 0) (b := 0) rfl ⟨g9, Nat.le_of_ble_eq_true rfl, Nat.zero_le _, Nat.zero_le _⟩ (vX10_draw d (by omega) h) ?_
    rintro v S7 ⟨r8, rfl, h⟩
    show jLf (jCall jmt jbud d) jbud (fun j => (jmt j).rk) none mX10_nextRock (jqI Q) (45, [some (.ref l0), some (.ref l1), some (.ref l2), some (.int l3), some (.int l4), some (.int l5), some (.int l6), some (.int l7), none], [.int r8], S7, 0, 0)
    refine jLf.bk hc 3 [] [some (.ref l0), some (.ref l1), some (.ref l2), some (.int l3), some (.int l4), some (.int l5), some (.int l6), some (.int r8), some (.int 0)] [] S7 rfl rfl rfl trivial ?_
    refine jLf.sub [some (.ref l0), none, none, some (.int l3), none, none, none, some (.int r8), some (.int 0)] (jle_same (jle_none (jle_none (jle_same (jle_none (jle_none (jle_none (jle_same (jle_same (jle_nil _)))))))))) ?_
    exact tX10_nextRock_48 d hd  h
  · have h := h.2 hz
    obtain ⟨g16, g17, h⟩ := h
    refine jLf.bk hc 5 [jA S l0 10, ¬ jR S l0 2 = none] [some (.ref l0), some (.ref l1), some (.ref l2), some (.int l3), some (.int l4), some (.int l5), some (.int l6), some (.int l7), none] [.int l7, .int l5, .int l7, .ref (jr S l0 2)] S rfl rfl rfl ⟨g16, g17⟩ ?_
    refine jLf.inv hc _ rfl (gs := [2 ≤ ([.int l7, .int l5, .int l7, .ref (jr S l0 2)] : List Value).length, (([.int l7, .ref (jr S l0 2)] : List Value).map fun v => v.category).sum ≤ 8, 0 ≤ 0, 0 ≤ 0]) (k := 145) (args := [.int l5, .int l7]) (r := [.int l7, .ref (jr S l0 2)]) (a := 0) (b := 0) rfl ⟨Nat.le_of_ble_eq_true rfl, Nat.le_of_ble_eq_true rfl, Nat.zero_le _, Nat.zero_le _⟩ (vX11_hasBit d (by omega) h) ?_
    rintro v S18 ⟨r19, rfl, h⟩
    show jLf (jCall jmt jbud d) jbud (fun j => (jmt j).rk) none mX10_nextRock (jqI Q) (23, [some (.ref l0), some (.ref l1), some (.ref l2), some (.int l3), some (.int l4), some (.int l5), some (.int l6), some (.int l7), none], [.int r19, .int l7, .ref (jr S l0 2)], S18, 0, 0)
    refine jLf.two hc _ rfl (gs := []) (p1 := r19 = 0) (p2 := ¬ (r19 = 0)) (c1 := (31, [some (.ref l0), some (.ref l1), some (.ref l2), some (.int l3), some (.int l4), some (.int l5), some (.int l6), some (.int l7), none], [.int l7, .ref (jr S l0 2)], S18, 0, 0)) (c2 := (24, [some (.ref l0), some (.ref l1), some (.ref l2), some (.int l3), some (.int l4), some (.int l5), some (.int l6), some (.int l7), none], [.int l7, .ref (jr S l0 2)], S18, 0, 0)) rfl trivial (fun hz => ?_) (fun hz => ?_)
    · have h := h.1 hz
      refine jLf.bk hc 1 [] [some (.ref l0), some (.ref l1), some (.ref l2), some (.int l3), some (.int l4), some (.int l5), some (.int l6), some (.int l7), none] [.int 0, .int l7, .ref (jr S l0 2)] S18 rfl rfl rfl trivial ?_
      exact tX10_nextRock_32 d hd hX14 h
    · have h := h.2 hz
      refine jLf.bk hc 5 [] [some (.ref l0), some (.ref l1), some (.ref l2), some (.int l3), some (.int l4), some (.int l5), some (.int l6), some (.int l7), none] [.int l4, .int l7, .int l3, .ref l1, .ref l2, .int l7, .ref (jr S l0 2)] S18 rfl rfl rfl trivial ?_
      obtain ⟨g31, h⟩ := h
      refine jLf.inv hc _ rfl (gs := [jA S18 l2 1, (([.int l7, .ref (jr S l0 2)] : List Value).map fun v => v.category).sum ≤ 8, 0 ≤ 0, 0 ≤ 0]) (k := 19) (args := [.ref l2, .ref l1, .int l3, .int l7, .int l4]) (r := [.int l7, .ref (jr S l0 2)]) (a := 0) (b := 0) rfl ⟨g31, Nat.le_of_ble_eq_true rfl, Nat.zero_le _, Nat.zero_le _⟩ (vX1_willFor d (by omega) h) ?_
      rintro v S29 ⟨r30, rfl, h⟩
      show jLf (jCall jmt jbud d) jbud (fun j => (jmt j).rk) none mX10_nextRock (jqI Q) (30, [some (.ref l0), some (.ref l1), some (.ref l2), some (.int l3), some (.int l4), some (.int l5), some (.int l6), some (.int l7), none], [.int r30, .int l7, .ref (jr S l0 2)], S29, 0, 0)
      refine jLf.one hc _ rfl (gs := []) (c := (32, [some (.ref l0), some (.ref l1), some (.ref l2), some (.int l3), some (.int l4), some (.int l5), some (.int l6), some (.int l7), none], [.int r30, .int l7, .ref (jr S l0 2)], S29, 0, 0)) rfl trivial ?_
      exact tX10_nextRock_32 d hd hX14 h
def wX10_nextRock_14   (l0 : Nat) (l1 : Nat) (l2 : Nat) (l3 : Int32) (l4 : Int32) (l5 : Int32) (l6 : Int32) (l7 : Int32) (S : JS) (Q : Int32 → JS → Prop) : Prop :=
  jLoop (fun (X14 : Nat × Nat × Nat × Int32 × Int32 × Int32 × Int32 × Int32 × JS → Prop) q => bX10_nextRock_14 (fun l0 l1 l2 l3 l4 l5 l6 l7 S => X14 (l0, l1, l2, l3, l4, l5, l6, l7, S)) q.1 q.2.1 q.2.2.1 q.2.2.2.1 q.2.2.2.2.1 q.2.2.2.2.2.1 q.2.2.2.2.2.2.1 q.2.2.2.2.2.2.2.1 q.2.2.2.2.2.2.2.2 Q) (l0, l1, l2, l3, l4, l5, l6, l7, S)
set_option maxRecDepth 20000 in
theorem tX10_nextRock_14 {Q : Int32 → JS → Prop}  (d : Nat) (hd : 4 ≤ d) {l0 : Nat} {l1 : Nat} {l2 : Nat} {l3 : Int32} {l4 : Int32} {l5 : Int32} {l6 : Int32} {l7 : Int32} {S : JS} (h : wX10_nextRock_14 l0 l1 l2 l3 l4 l5 l6 l7 S Q) : jLf (jCall jmt jbud d) jbud (fun j => (jmt j).rk) none mX10_nextRock (jqI Q) (14, [some (.ref l0), some (.ref l1), some (.ref l2), some (.int l3), some (.int l4), some (.int l5), some (.int l6), some (.int l7), none], [], S, 0, 0) := by
  have := h (fun q : Nat × Nat × Nat × Int32 × Int32 × Int32 × Int32 × Int32 × JS => jLf (jCall jmt jbud d) jbud (fun j => (jmt j).rk) none mX10_nextRock (jqI Q) (14, [some (.ref (q.1)), some (.ref (q.2.1)), some (.ref (q.2.2.1)), some (.int (q.2.2.2.1)), some (.int (q.2.2.2.2.1)), some (.int (q.2.2.2.2.2.1)), some (.int (q.2.2.2.2.2.2.1)), some (.int (q.2.2.2.2.2.2.2.1)), none], [], q.2.2.2.2.2.2.2.2, 0, 0)) (fun q R hb hR => uX10_nextRock_14 d hd  (fun _ _ _ _ _ _ _ _ _ => hR _) hb)
  exact this
def wX10_nextRock  (this : Nat) (p1 : Nat) (p2 : Nat) (p3 : Int32) (p4 : Int32) (S : JS) (Q : Int32 → JS → Prop) : Prop :=
  jA S p2 1 ∧ (wX1_learnFrom p2 p1 p3 p4 S (fun S1 => jA S1 p2 1 ∧ (wX1_sails p2 p3 p4 S1 (fun r5 S4 => wX10_nextRock_14 this p1 p2 p3 p4 r5 10 0 S4 Q))))
set_option maxRecDepth 20000 in
theorem vX10_nextRock {Q : Int32 → JS → Prop} (d : Nat) (hd : 5 ≤ d) {this : Nat} {p1 : Nat} {p2 : Nat} {p3 : Int32} {p4 : Int32} {S : JS} (h : wX10_nextRock this p1 p2 p3 p4 S Q) : jCall jmt jbud d 97 [.ref this, .ref p1, .ref p2, .int p3, .int p4] S (jqI Q) := by
  obtain ⟨d, rfl⟩ : ∃ d2, d = d2 + 1 := ⟨d - 1, by omega⟩
  have hd : 4 ≤ d := by omega
  have hc := jCall_mono jmt jbud d
  unfold wX10_nextRock at h
  refine ⟨Nat.le_of_ble_eq_true rfl, ?_⟩
  show jLf (jCall jmt jbud d) jbud (fun j => (jmt j).rk) none mX10_nextRock (jqI Q) (0, [some (.ref this), some (.ref p1), some (.ref p2), some (.int p3), some (.int p4), none, none, none, none], [], S, 0, 0)
  refine jLf.bk hc 4 [] [some (.ref this), some (.ref p1), some (.ref p2), some (.int p3), some (.int p4), none, none, none, none] [.int p4, .int p3, .ref p1, .ref p2] S rfl rfl rfl trivial ?_
  obtain ⟨g3, h⟩ := h
  refine jLf.inv hc _ rfl (gs := [jA S p2 1, (([] : List Value).map fun v => v.category).sum ≤ 8, 0 ≤ 0, 0 ≤ 0]) (k := 11) (args := [.ref p2, .ref p1, .int p3, .int p4]) (r := []) (a := 0) (b := 0) rfl ⟨g3, Nat.le_of_ble_eq_true rfl, Nat.zero_le _, Nat.zero_le _⟩ (vX1_learnFrom d (by omega) h) ?_
  rintro v S1 ⟨rfl, h⟩
  show jLf (jCall jmt jbud d) jbud (fun j => (jmt j).rk) none mX10_nextRock (jqI Q) (5, [some (.ref this), some (.ref p1), some (.ref p2), some (.int p3), some (.int p4), none, none, none, none], [], S1, 0, 0)
  refine jLf.bk hc 3 [] [some (.ref this), some (.ref p1), some (.ref p2), some (.int p3), some (.int p4), none, none, none, none] [.int p4, .int p3, .ref p2] S1 rfl rfl rfl trivial ?_
  obtain ⟨g6, h⟩ := h
  refine jLf.inv hc _ rfl (gs := [jA S1 p2 1, (([] : List Value).map fun v => v.category).sum ≤ 8, 0 ≤ 0, 0 ≤ 0]) (k := 14) (args := [.ref p2, .int p3, .int p4]) (r := []) (a := 0) (b := 0) rfl ⟨g6, Nat.le_of_ble_eq_true rfl, Nat.zero_le _, Nat.zero_le _⟩ (vX1_sails d (by omega) h) ?_
  rintro v S4 ⟨r5, rfl, h⟩
  show jLf (jCall jmt jbud d) jbud (fun j => (jmt j).rk) none mX10_nextRock (jqI Q) (9, [some (.ref this), some (.ref p1), some (.ref p2), some (.int p3), some (.int p4), none, none, none, none], [.int r5], S4, 0, 0)
  refine jLf.bk hc 5 [] [some (.ref this), some (.ref p1), some (.ref p2), some (.int p3), some (.int p4), some (.int r5), some (.int 10), some (.int 0), none] [] S4 rfl rfl rfl trivial ?_
  exact tX10_nextRock_14 d hd  h
def bX10_pass_14   (X14 : Nat → Nat → Nat → Int32 → JS → Prop) (l0 : Nat) (l1 : Nat) (l2 : Nat) (l5 : Int32) (S : JS) (Q : JS → Prop) : Prop :=
  (59 ≤ l5 → Q S) ∧ (¬ (59 ≤ l5) → jA S l0 10 ∧ (¬ jR S l0 0 = none ∧ (jA S (jr S l0 0) 13 ∧ (vp_in l5 (jZ S (jr S l0 0)) ∧ (wX10_nextRock l0 l1 l2 (jI S (jr S l0 0) l5.toNatClampNeg) l5 S (fun r15 S14 => jA S14 (jr S l0 0) 13 ∧ (vp_in (l5 + (1 : Int32)) (jZ S14 (jr S l0 0)) ∧ (∀ S18 : JS, S18 = uI S14 (jr S l0 0) (l5 + (1 : Int32)).toNatClampNeg r15 → (∀ x19 : Int32, x19 = (l5 + 1) → (X14 l0 l1 l2 x19 S18))))))))))
set_option maxRecDepth 20000 in
theorem uX10_pass_14 {Q : JS → Prop}  (d : Nat) (hd : 5 ≤ d) {X14 : Nat → Nat → Nat → Int32 → JS → Prop} (hX14 : ∀ l0 l1 l2 l5 S, X14 l0 l1 l2 l5 S → jLf (jCall jmt jbud d) jbud (fun j => (jmt j).rk) none mX10_pass (jqV Q) (14, [some (.ref l0), some (.ref l1), some (.ref l2), none, none, some (.int l5)], [], S, 0, 0)) {l0 : Nat} {l1 : Nat} {l2 : Nat} {l5 : Int32} {S : JS} (h : bX10_pass_14 X14 l0 l1 l2 l5 S Q) : jLf (jCall jmt jbud d) jbud (fun j => (jmt j).rk) none mX10_pass (jqV Q) (14, [some (.ref l0), some (.ref l1), some (.ref l2), none, none, some (.int l5)], [], S, 0, 0) := by
  have hc := jCall_mono jmt jbud d
  unfold bX10_pass_14 at h
  refine jLf.bk hc 2 [] [some (.ref l0), some (.ref l1), some (.ref l2), none, none, some (.int l5)] [.int 59, .int l5] S rfl rfl rfl trivial ?_
  refine jLf.two hc _ rfl (gs := []) (p1 := 59 ≤ l5) (p2 := ¬ (59 ≤ l5)) (c1 := (34, [some (.ref l0), some (.ref l1), some (.ref l2), none, none, some (.int l5)], [], S, 0, 0)) (c2 := (17, [some (.ref l0), some (.ref l1), some (.ref l2), none, none, some (.int l5)], [], S, 0, 0)) rfl trivial (fun hz => ?_) (fun hz => ?_)
  · have h := h.1 hz
    exact jLf.ret hc _ rfl (gs := [jrt none none]) (v := none) rfl trivial ⟨rfl, h⟩
  · have h := h.2 hz
    obtain ⟨g10, g11, g12, g13, h⟩ := h
    refine jLf.bk hc 13 [jA S l0 10, ¬ jR S l0 0 = none, jA S l0 10, ¬ jR S l0 0 = none, jA S (jr S l0 0) 13, vp_in l5 (jZ S (jr S l0 0))] [some (.ref l0), some (.ref l1), some (.ref l2), none, none, some (.int l5)] [.int l5, .int (jI S (jr S l0 0) l5.toNatClampNeg), .ref l2, .ref l1, .ref l0, .int (l5 + (1 : Int32)), .ref (jr S l0 0)] S rfl rfl rfl ⟨g10, g11, g10, g11, g12, g13⟩ ?_
    refine jLf.inv hc _ rfl (gs := [jA S l0 10, (([.int (l5 + (1 : Int32)), .ref (jr S l0 0)] : List Value).map fun v => v.category).sum ≤ 8, 0 ≤ 0, 0 ≤ 0]) (k := 97) (args := [.ref l0, .ref l1, .ref l2, .int (jI S (jr S l0 0) l5.toNatClampNeg), .int l5]) (r := [.int (l5 + (1 : Int32)), .ref (jr S l0 0)]) (a := 0) (b := 0) rfl ⟨g10, Nat.le_of_ble_eq_true rfl, Nat.zero_le _, Nat.zero_le _⟩ (vX10_nextRock d (by omega) h) ?_
    rintro v S14 ⟨r15, rfl, h⟩
    show jLf (jCall jmt jbud d) jbud (fun j => (jmt j).rk) none mX10_pass (jqV Q) (31, [some (.ref l0), some (.ref l1), some (.ref l2), none, none, some (.int l5)], [.int r15, .int (l5 + (1 : Int32)), .ref (jr S l0 0)], S14, 0, 0)
    obtain ⟨g16, g17, h⟩ := h
    refine jLf.bk hc 1 [jA S14 (jr S l0 0) 13, vp_in (l5 + (1 : Int32)) (jZ S14 (jr S l0 0))] [some (.ref l0), some (.ref l1), some (.ref l2), none, none, some (.int l5)] [] (uI S14 (jr S l0 0) (l5 + (1 : Int32)).toNatClampNeg r15) rfl rfl rfl ⟨g16, g17⟩ ?_
    generalize eS18 : uI S14 (jr S l0 0) (l5 + (1 : Int32)).toNatClampNeg r15 = S18
    have h := h S18 eS18.symm
    refine jLf.bk hc 1 [] [some (.ref l0), some (.ref l1), some (.ref l2), none, none, some (.int (l5 + 1))] [] S18 rfl rfl rfl trivial ?_
    generalize ex19 : (l5 + 1 : Int32) = x19
    have h := h x19 ex19.symm
    refine jLf.one hc _ rfl (gs := []) (c := (14, [some (.ref l0), some (.ref l1), some (.ref l2), none, none, some (.int x19)], [], S18, 0, 0)) rfl trivial ?_
    exact hX14 _ _ _ _ _ h
def wX10_pass_14   (l0 : Nat) (l1 : Nat) (l2 : Nat) (l5 : Int32) (S : JS) (Q : JS → Prop) : Prop :=
  jLoop (fun (X14 : Nat × Nat × Nat × Int32 × JS → Prop) q => bX10_pass_14 (fun l0 l1 l2 l5 S => X14 (l0, l1, l2, l5, S)) q.1 q.2.1 q.2.2.1 q.2.2.2.1 q.2.2.2.2 Q) (l0, l1, l2, l5, S)
set_option maxRecDepth 20000 in
theorem tX10_pass_14 {Q : JS → Prop}  (d : Nat) (hd : 5 ≤ d) {l0 : Nat} {l1 : Nat} {l2 : Nat} {l5 : Int32} {S : JS} (h : wX10_pass_14 l0 l1 l2 l5 S Q) : jLf (jCall jmt jbud d) jbud (fun j => (jmt j).rk) none mX10_pass (jqV Q) (14, [some (.ref l0), some (.ref l1), some (.ref l2), none, none, some (.int l5)], [], S, 0, 0) := by
  have := h (fun q : Nat × Nat × Nat × Int32 × JS => jLf (jCall jmt jbud d) jbud (fun j => (jmt j).rk) none mX10_pass (jqV Q) (14, [some (.ref (q.1)), some (.ref (q.2.1)), some (.ref (q.2.2.1)), none, none, some (.int (q.2.2.2.1))], [], q.2.2.2.2, 0, 0)) (fun q R hb hR => uX10_pass_14 d hd  (fun _ _ _ _ _ => hR _) hb)
  exact this
def wX10_pass  (this : Nat) (p1 : Nat) (p2 : Nat) (p3 : Int32) (p4 : Int32) (S : JS) (Q : JS → Prop) : Prop :=
  jA S this 10 ∧ (∀ S2 : JS, S2 = uI S this 1 1 → (jA S2 this 10 ∧ (∀ S4 : JS, S4 = uJ S2 this 3 (p3.toInt64) → (jA S4 this 10 ∧ (¬ jR S4 this 0 = none ∧ (jA S4 (jr S4 this 0) 13 ∧ (vp_in (0 : Int32) (jZ S4 (jr S4 this 0)) ∧ (∀ S9 : JS, S9 = uI S4 (jr S4 this 0) (0 : Int32).toNatClampNeg p4 → (wX10_pass_14 this p1 p2 0 S9 Q)))))))))
set_option maxRecDepth 20000 in
theorem vX10_pass {Q : JS → Prop} (d : Nat) (hd : 6 ≤ d) {this : Nat} {p1 : Nat} {p2 : Nat} {p3 : Int32} {p4 : Int32} {S : JS} (h : wX10_pass this p1 p2 p3 p4 S Q) : jCall jmt jbud d 96 [.ref this, .ref p1, .ref p2, .int p3, .int p4] S (jqV Q) := by
  obtain ⟨d, rfl⟩ : ∃ d2, d = d2 + 1 := ⟨d - 1, by omega⟩
  have hd : 5 ≤ d := by omega
  have hc := jCall_mono jmt jbud d
  unfold wX10_pass at h
  refine ⟨Nat.le_of_ble_eq_true rfl, ?_⟩
  show jLf (jCall jmt jbud d) jbud (fun j => (jmt j).rk) none mX10_pass (jqV Q) (0, [some (.ref this), some (.ref p1), some (.ref p2), some (.int p3), some (.int p4), none], [], S, 0, 0)
  obtain ⟨g1, h⟩ := h
  refine jLf.bk hc 3 [jA S this 10, jbit 1] [some (.ref this), some (.ref p1), some (.ref p2), some (.int p3), some (.int p4), none] [] (uI S this 1 1) rfl rfl rfl ⟨g1, (Or.inr rfl)⟩ ?_
  generalize eS2 : uI S this 1 1 = S2
  have h := h S2 eS2.symm
  obtain ⟨g3, h⟩ := h
  refine jLf.bk hc 4 [jA S2 this 10] [some (.ref this), some (.ref p1), some (.ref p2), some (.int p3), some (.int p4), none] [] (uJ S2 this 3 (p3.toInt64)) rfl rfl rfl g3 ?_
  generalize eS4 : uJ S2 this 3 (p3.toInt64) = S4
  have h := h S4 eS4.symm
  obtain ⟨g5, g6, g7, g8, h⟩ := h
  refine jLf.bk hc 5 [jA S4 this 10, ¬ jR S4 this 0 = none, jA S4 (jr S4 this 0) 13, vp_in (0 : Int32) (jZ S4 (jr S4 this 0))] [some (.ref this), some (.ref p1), some (.ref p2), some (.int p3), some (.int p4), none] [] (uI S4 (jr S4 this 0) (0 : Int32).toNatClampNeg p4) rfl rfl rfl ⟨g5, g6, g7, g8⟩ ?_
  generalize eS9 : uI S4 (jr S4 this 0) (0 : Int32).toNatClampNeg p4 = S9
  have h := h S9 eS9.symm
  refine jLf.bk hc 2 [] [some (.ref this), some (.ref p1), some (.ref p2), some (.int p3), some (.int p4), some (.int 0)] [] S9 rfl rfl rfl trivial ?_
  refine jLf.sub [some (.ref this), some (.ref p1), some (.ref p2), none, none, some (.int 0)] (jle_same (jle_same (jle_same (jle_none (jle_none (jle_same (jle_nil _))))))) ?_
  exact tX10_pass_14 d hd  h
def wJ6_bitCount_0f7a4  (p1 : Int32) (S : JS) (Q : Int32 → JS → Prop) : Prop :=
  ∀ x1 : Int32, x1 = (p1 - ((jushr p1 (1 : Int32)) &&& (1431655765 : Int32))) → (∀ x2 : Int32, x2 = ((x1 &&& (858993459 : Int32)) + ((jushr x1 (2 : Int32)) &&& (858993459 : Int32))) → (∀ x3 : Int32, x3 = ((x2 + (jushr x2 (4 : Int32))) &&& (252645135 : Int32)) → (∀ x4 : Int32, x4 = (x3 + (jushr x3 (8 : Int32))) → (∀ x5 : Int32, x5 = (x4 + (jushr x4 (16 : Int32))) → (Q (x5 &&& (63 : Int32)) S)))))
set_option maxRecDepth 20000 in
theorem vJ6_bitCount_0f7a4 {Q : Int32 → JS → Prop} (d : Nat) (hd : 1 ≤ d) {p1 : Int32} {S : JS} (h : wJ6_bitCount_0f7a4 p1 S Q) : jCall jmt jbud d 231 [.int p1] S (jqI Q) := by
  obtain ⟨d, rfl⟩ : ∃ d2, d = d2 + 1 := ⟨d - 1, by omega⟩
  have hd : 0 ≤ d := by omega
  have hc := jCall_mono jmt jbud d
  unfold wJ6_bitCount_0f7a4 at h
  refine ⟨Nat.le_of_ble_eq_true rfl, ?_⟩
  show jLf (jCall jmt jbud d) jbud (fun j => (jmt j).rk) none mJ6_bitCount_0f7a4 (jqI Q) (0, [some (.int p1)], [], S, 0, 0)
  refine jLf.bk hc 8 [] [some (.int (p1 - ((jushr p1 (1 : Int32)) &&& (1431655765 : Int32))))] [] S rfl rfl rfl trivial ?_
  generalize ex1 : (p1 - ((jushr p1 (1 : Int32)) &&& (1431655765 : Int32)) : Int32) = x1
  have h := h x1 ex1.symm
  refine jLf.bk hc 10 [] [some (.int ((x1 &&& (858993459 : Int32)) + ((jushr x1 (2 : Int32)) &&& (858993459 : Int32))))] [] S rfl rfl rfl trivial ?_
  generalize ex2 : ((x1 &&& (858993459 : Int32)) + ((jushr x1 (2 : Int32)) &&& (858993459 : Int32)) : Int32) = x2
  have h := h x2 ex2.symm
  refine jLf.bk hc 8 [] [some (.int ((x2 + (jushr x2 (4 : Int32))) &&& (252645135 : Int32)))] [] S rfl rfl rfl trivial ?_
  generalize ex3 : ((x2 + (jushr x2 (4 : Int32))) &&& (252645135 : Int32) : Int32) = x3
  have h := h x3 ex3.symm
  refine jLf.bk hc 6 [] [some (.int (x3 + (jushr x3 (8 : Int32))))] [] S rfl rfl rfl trivial ?_
  generalize ex4 : (x3 + (jushr x3 (8 : Int32)) : Int32) = x4
  have h := h x4 ex4.symm
  refine jLf.bk hc 6 [] [some (.int (x4 + (jushr x4 (16 : Int32))))] [] S rfl rfl rfl trivial ?_
  generalize ex5 : (x4 + (jushr x4 (16 : Int32)) : Int32) = x5
  have h := h x5 ex5.symm
  refine jLf.bk hc 3 [] [some (.int x5)] [.int (x5 &&& (63 : Int32))] S rfl rfl rfl trivial ?_
  exact jLf.ret hc _ rfl (gs := [True]) (v := some (.int (x5 &&& (63 : Int32)))) rfl trivial ⟨x5 &&& (63 : Int32), rfl, h⟩
def bX10_rocksHad_4   (X4 : Nat → Int32 → Int32 → JS → Prop) (l0 : Nat) (l1 : Int32) (l2 : Int32) (S : JS) (Q : Int32 → JS → Prop) : Prop :=
  (60 ≤ l2 → wJ6_bitCount_0f7a4 l1 S (fun r2 S1 => Q r2 S1)) ∧ (¬ (60 ≤ l2) → jA S l0 10 ∧ (¬ jR S l0 0 = none ∧ (jA S (jr S l0 0) 13 ∧ (vp_in l2 (jZ S (jr S l0 0)) ∧ (∀ x7 : Int32, x7 = (l1 ||| ((1 : Int32) <<< ((jI S (jr S l0 0) l2.toNatClampNeg) &&& 31))) → (∀ x8 : Int32, x8 = (l2 + 1) → (X4 l0 x7 x8 S)))))))
set_option maxRecDepth 20000 in
theorem uX10_rocksHad_4 {Q : Int32 → JS → Prop}  (d : Nat) (hd : 1 ≤ d) {X4 : Nat → Int32 → Int32 → JS → Prop} (hX4 : ∀ l0 l1 l2 S, X4 l0 l1 l2 S → jLf (jCall jmt jbud d) jbud (fun j => (jmt j).rk) none mX10_rocksHad (jqI Q) (4, [some (.ref l0), some (.int l1), some (.int l2)], [], S, 0, 0)) {l0 : Nat} {l1 : Int32} {l2 : Int32} {S : JS} (h : bX10_rocksHad_4 X4 l0 l1 l2 S Q) : jLf (jCall jmt jbud d) jbud (fun j => (jmt j).rk) none mX10_rocksHad (jqI Q) (4, [some (.ref l0), some (.int l1), some (.int l2)], [], S, 0, 0) := by
  have hc := jCall_mono jmt jbud d
  unfold bX10_rocksHad_4 at h
  refine jLf.bk hc 2 [] [some (.ref l0), some (.int l1), some (.int l2)] [.int 60, .int l2] S rfl rfl rfl trivial ?_
  refine jLf.two hc _ rfl (gs := []) (p1 := 60 ≤ l2) (p2 := ¬ (60 ≤ l2)) (c1 := (18, [some (.ref l0), some (.int l1), some (.int l2)], [], S, 0, 0)) (c2 := (7, [some (.ref l0), some (.int l1), some (.int l2)], [], S, 0, 0)) rfl trivial (fun hz => ?_) (fun hz => ?_)
  · have h := h.1 hz
    refine jLf.bk hc 1 [] [some (.ref l0), some (.int l1), some (.int l2)] [.int l1] S rfl rfl rfl trivial ?_
    refine jLf.inv hc _ rfl (gs := [1 ≤ ([.int l1] : List Value).length, (([] : List Value).map fun v => v.category).sum ≤ 8, 0 ≤ 0, 0 ≤ 0]) (k := 231) (args := [.int l1]) (r := []) (a := 0) (b := 0) rfl ⟨Nat.le_of_ble_eq_true rfl, Nat.le_of_ble_eq_true rfl, Nat.zero_le _, Nat.zero_le _⟩ (vJ6_bitCount_0f7a4 d (by omega) h) ?_
    rintro v S1 ⟨r2, rfl, h⟩
    show jLf (jCall jmt jbud d) jbud (fun j => (jmt j).rk) none mX10_rocksHad (jqI Q) (20, [some (.ref l0), some (.int l1), some (.int l2)], [.int r2], S1, 0, 0)
    exact jLf.ret hc _ rfl (gs := [True]) (v := some (.int r2)) rfl trivial ⟨r2, rfl, h⟩
  · have h := h.2 hz
    obtain ⟨g3, g4, g5, g6, h⟩ := h
    refine jLf.bk hc 9 [jA S l0 10, ¬ jR S l0 0 = none, jA S (jr S l0 0) 13, vp_in l2 (jZ S (jr S l0 0))] [some (.ref l0), some (.int (l1 ||| ((1 : Int32) <<< ((jI S (jr S l0 0) l2.toNatClampNeg) &&& 31)))), some (.int l2)] [] S rfl rfl rfl ⟨g3, g4, g5, g6⟩ ?_
    generalize ex7 : (l1 ||| ((1 : Int32) <<< ((jI S (jr S l0 0) l2.toNatClampNeg) &&& 31)) : Int32) = x7
    have h := h x7 ex7.symm
    refine jLf.bk hc 1 [] [some (.ref l0), some (.int x7), some (.int (l2 + 1))] [] S rfl rfl rfl trivial ?_
    generalize ex8 : (l2 + 1 : Int32) = x8
    have h := h x8 ex8.symm
    refine jLf.one hc _ rfl (gs := []) (c := (4, [some (.ref l0), some (.int x7), some (.int x8)], [], S, 0, 0)) rfl trivial ?_
    exact hX4 _ _ _ _ h
def wX10_rocksHad_4   (l0 : Nat) (l1 : Int32) (l2 : Int32) (S : JS) (Q : Int32 → JS → Prop) : Prop :=
  jLoop (fun (X4 : Nat × Int32 × Int32 × JS → Prop) q => bX10_rocksHad_4 (fun l0 l1 l2 S => X4 (l0, l1, l2, S)) q.1 q.2.1 q.2.2.1 q.2.2.2 Q) (l0, l1, l2, S)
set_option maxRecDepth 20000 in
theorem tX10_rocksHad_4 {Q : Int32 → JS → Prop}  (d : Nat) (hd : 1 ≤ d) {l0 : Nat} {l1 : Int32} {l2 : Int32} {S : JS} (h : wX10_rocksHad_4 l0 l1 l2 S Q) : jLf (jCall jmt jbud d) jbud (fun j => (jmt j).rk) none mX10_rocksHad (jqI Q) (4, [some (.ref l0), some (.int l1), some (.int l2)], [], S, 0, 0) := by
  have := h (fun q : Nat × Int32 × Int32 × JS => jLf (jCall jmt jbud d) jbud (fun j => (jmt j).rk) none mX10_rocksHad (jqI Q) (4, [some (.ref (q.1)), some (.int (q.2.1)), some (.int (q.2.2.1))], [], q.2.2.2, 0, 0)) (fun q R hb hR => uX10_rocksHad_4 d hd  (fun _ _ _ _ => hR _) hb)
  exact this
def wX10_rocksHad  (this : Nat) (S : JS) (Q : Int32 → JS → Prop) : Prop :=
  wX10_rocksHad_4 this 0 0 S Q
set_option maxRecDepth 20000 in
theorem vX10_rocksHad {Q : Int32 → JS → Prop} (d : Nat) (hd : 2 ≤ d) {this : Nat} {S : JS} (h : wX10_rocksHad this S Q) : jCall jmt jbud d 99 [.ref this] S (jqI Q) := by
  obtain ⟨d, rfl⟩ : ∃ d2, d = d2 + 1 := ⟨d - 1, by omega⟩
  have hd : 1 ≤ d := by omega
  have hc := jCall_mono jmt jbud d
  unfold wX10_rocksHad at h
  refine ⟨Nat.le_of_ble_eq_true rfl, ?_⟩
  show jLf (jCall jmt jbud d) jbud (fun j => (jmt j).rk) none mX10_rocksHad (jqI Q) (0, [some (.ref this), none, none], [], S, 0, 0)
  refine jLf.bk hc 4 [] [some (.ref this), some (.int 0), some (.int 0)] [] S rfl rfl rfl trivial ?_
  exact tX10_rocksHad_4 d hd  h
def wX11_init  (this : Nat) (S : JS) (Q : JS → Prop) : Prop :=
  jN S < 1000000 ∧ (∀ h3 : Nat, h3 = jN S → (∀ S1 : JS, S1 = uNew S 9 12 → (jA S1 h3 9 ∧ (wX9_init h3 S1 (fun S4 => jA S4 this 11 ∧ (∀ S8 : JS, S8 = uR S4 this 0 (some h3) → (jN S8 < 1000000 ∧ (∀ h11 : Nat, h11 = jN S8 → (∀ S9 : JS, S9 = uNew S8 17 2 → (jA S9 this 11 ∧ (∀ S13 : JS, S13 = uR S9 this 1 (some h11) → (jN S13 < 1000000 ∧ (∀ h16 : Nat, h16 = jN S13 → (∀ S14 : JS, S14 = uNew S13 5 14 → (jA S14 h16 5 ∧ (wX5_init h16 S14 (fun S17 => jA S17 this 11 ∧ (∀ S21 : JS, S21 = uR S17 this 2 (some h16) → (jN S21 < 1000000 ∧ (∀ h24 : Nat, h24 = jN S21 → (∀ S22 : JS, S22 = uNew S21 1 3 → (jA S22 h24 1 ∧ (wX1_init h24 S22 (fun S25 => jA S25 this 11 ∧ (∀ S29 : JS, S29 = uR S25 this 3 (some h24) → (jN S29 < 1000000 ∧ (∀ h32 : Nat, h32 = jN S29 → (∀ S30 : JS, S30 = uNew S29 7 7 → (jA S30 h32 7 ∧ (wX7_init h32 S30 (fun S33 => jA S33 this 11 ∧ (∀ S37 : JS, S37 = uR S33 this 4 (some h32) → (jN S37 < 1000000 ∧ (∀ h40 : Nat, h40 = jN S37 → (∀ S38 : JS, S38 = uNew S37 6 2 → (jA S38 h40 6 ∧ (wX6_init h40 S38 (fun S41 => jA S41 this 11 ∧ (∀ S45 : JS, S45 = uR S41 this 5 (some h40) → (jN S45 < 1000000 ∧ (∀ h48 : Nat, h48 = jN S45 → (∀ S46 : JS, S46 = uNew S45 2 1 → (jA S46 h48 2 ∧ (wX2_init h48 S46 (fun S49 => jA S49 this 11 ∧ (∀ S53 : JS, S53 = uR S49 this 6 (some h48) → (jN S53 < 1000000 ∧ (∀ h56 : Nat, h56 = jN S53 → (∀ S54 : JS, S54 = uNew S53 4 4 → (jA S54 h56 4 ∧ (wX4_init h56 S54 (fun S57 => jA S57 this 11 ∧ (∀ S61 : JS, S61 = uR S57 this 7 (some h56) → (jN S61 < 1000000 ∧ (∀ h64 : Nat, h64 = jN S61 → (∀ S62 : JS, S62 = uNew S61 10 4 → (jA S62 h64 10 ∧ (wX10_init h64 S62 (fun S65 => jA S65 this 11 ∧ (∀ S69 : JS, S69 = uR S65 this 8 (some h64) → (jN S69 < 1000000 ∧ (∀ h72 : Nat, h72 = jN S69 → (∀ S70 : JS, S70 = uNew S69 13 5 → (jA S70 this 11 ∧ (∀ S74 : JS, S74 = uR S70 this 9 (some h72) → (jA S74 this 11 ∧ (∀ S76 : JS, S76 = uI S74 this 11 (-1) → (Q S76))))))))))))))))))))))))))))))))))))))))))))))))))))))))))))))))))))
set_option maxRecDepth 20000 in
theorem vX11_init {Q : JS → Prop} (d : Nat) (hd : 3 ≤ d) {this : Nat} {S : JS} (h : wX11_init this S Q) : jCall jmt jbud d 100 [.ref this] S (jqV Q) := by
  obtain ⟨d, rfl⟩ : ∃ d2, d = d2 + 1 := ⟨d - 1, by omega⟩
  have hd : 2 ≤ d := by omega
  have hc := jCall_mono jmt jbud d
  unfold wX11_init at h
  refine ⟨Nat.le_of_ble_eq_true rfl, ?_⟩
  show jLf (jCall jmt jbud d) jbud (fun j => (jmt j).rk) none mX11_init (jqV Q) (0, [some (.ref this)], [], S, 44, 9689)
  refine jLf.bk hc 3 [(([] : List Value).map fun v => v.category).sum ≤ 8] [some (.ref this)] [.ref this] S rfl rfl rfl (Nat.le_of_ble_eq_true rfl) ?_
  obtain ⟨g2, h⟩ := h
  refine jLf.one hc _ rfl (gs := [1 ≤ 44, 12 ≤ 9689, jN S < 1000000]) (c := (4, [some (.ref this)], [.ref (jN S), .ref this], (uNew S 9 12), 43, 9677)) rfl ⟨Nat.le_of_ble_eq_true rfl, Nat.le_of_ble_eq_true rfl, g2⟩ ?_
  generalize eS1 : uNew S 9 12 = S1
  generalize eh3 : jN S = h3
  have h := h h3 eh3.symm S1 eS1.symm
  refine jLf.bk hc 1 [(.ref h3 : Value).category = 1] [some (.ref this)] [.ref h3, .ref h3, .ref this] S1 rfl rfl rfl rfl ?_
  obtain ⟨g6, h⟩ := h
  refine jLf.inv hc _ rfl (gs := [jA S1 h3 9, (([.ref h3, .ref this] : List Value).map fun v => v.category).sum ≤ 8, 11 ≤ 43, 182 ≤ 9677]) (k := 86) (args := [.ref h3]) (r := [.ref h3, .ref this]) (a := 32) (b := 9495) rfl ⟨g6, Nat.le_of_ble_eq_true rfl, Nat.le_of_ble_eq_true rfl, Nat.le_of_ble_eq_true rfl⟩ (vX9_init d (by omega) h) ?_
  rintro v S4 ⟨rfl, h⟩
  show jLf (jCall jmt jbud d) jbud (fun j => (jmt j).rk) none mX11_init (jqV Q) (6, [some (.ref this)], [.ref h3, .ref this], S4, 32, 9495)
  obtain ⟨g7, h⟩ := h
  refine jLf.bk hc 1 [jA S4 this 11] [some (.ref this)] [] (uR S4 this 0 (some h3)) rfl rfl rfl g7 ?_
  generalize eS8 : uR S4 this 0 (some h3) = S8
  have h := h S8 eS8.symm
  refine jLf.bk hc 2 [] [some (.ref this)] [.int 2, .ref this] S8 rfl rfl rfl trivial ?_
  obtain ⟨g10, h⟩ := h
  refine jLf.one hc _ rfl (gs := [¬ (2 : Int32) < 0, 2 ≤ 1000000, 1 ≤ 32, 2 ≤ 9495, jN S8 < 1000000]) (c := (10, [some (.ref this)], [.ref (jN S8), .ref this], (uNew S8 17 2), 31, 9493)) rfl ⟨(by decide), Nat.le_of_ble_eq_true rfl, Nat.le_of_ble_eq_true rfl, Nat.le_of_ble_eq_true rfl, g10⟩ ?_
  generalize eS9 : uNew S8 17 2 = S9
  generalize eh11 : jN S8 = h11
  have h := h h11 eh11.symm S9 eS9.symm
  obtain ⟨g12, h⟩ := h
  refine jLf.bk hc 1 [jA S9 this 11] [some (.ref this)] [] (uR S9 this 1 (some h11)) rfl rfl rfl g12 ?_
  generalize eS13 : uR S9 this 1 (some h11) = S13
  have h := h S13 eS13.symm
  refine jLf.bk hc 1 [] [some (.ref this)] [.ref this] S13 rfl rfl rfl trivial ?_
  obtain ⟨g15, h⟩ := h
  refine jLf.one hc _ rfl (gs := [1 ≤ 31, 14 ≤ 9493, jN S13 < 1000000]) (c := (13, [some (.ref this)], [.ref (jN S13), .ref this], (uNew S13 5 14), 30, 9479)) rfl ⟨Nat.le_of_ble_eq_true rfl, Nat.le_of_ble_eq_true rfl, g15⟩ ?_
  generalize eS14 : uNew S13 5 14 = S14
  generalize eh16 : jN S13 = h16
  have h := h h16 eh16.symm S14 eS14.symm
  refine jLf.bk hc 1 [(.ref h16 : Value).category = 1] [some (.ref this)] [.ref h16, .ref h16, .ref this] S14 rfl rfl rfl rfl ?_
  obtain ⟨g19, h⟩ := h
  refine jLf.inv hc _ rfl (gs := [jA S14 h16 5, (([.ref h16, .ref this] : List Value).map fun v => v.category).sum ≤ 8, 8 ≤ 30, 1650 ≤ 9479]) (k := 31) (args := [.ref h16]) (r := [.ref h16, .ref this]) (a := 22) (b := 7829) rfl ⟨g19, Nat.le_of_ble_eq_true rfl, Nat.le_of_ble_eq_true rfl, Nat.le_of_ble_eq_true rfl⟩ (vX5_init d (by omega) h) ?_
  rintro v S17 ⟨rfl, h⟩
  show jLf (jCall jmt jbud d) jbud (fun j => (jmt j).rk) none mX11_init (jqV Q) (15, [some (.ref this)], [.ref h16, .ref this], S17, 22, 7829)
  obtain ⟨g20, h⟩ := h
  refine jLf.bk hc 1 [jA S17 this 11] [some (.ref this)] [] (uR S17 this 2 (some h16)) rfl rfl rfl g20 ?_
  generalize eS21 : uR S17 this 2 (some h16) = S21
  have h := h S21 eS21.symm
  refine jLf.bk hc 1 [] [some (.ref this)] [.ref this] S21 rfl rfl rfl trivial ?_
  obtain ⟨g23, h⟩ := h
  refine jLf.one hc _ rfl (gs := [1 ≤ 22, 3 ≤ 7829, jN S21 < 1000000]) (c := (18, [some (.ref this)], [.ref (jN S21), .ref this], (uNew S21 1 3), 21, 7826)) rfl ⟨Nat.le_of_ble_eq_true rfl, Nat.le_of_ble_eq_true rfl, g23⟩ ?_
  generalize eS22 : uNew S21 1 3 = S22
  generalize eh24 : jN S21 = h24
  have h := h h24 eh24.symm S22 eS22.symm
  refine jLf.bk hc 1 [(.ref h24 : Value).category = 1] [some (.ref this)] [.ref h24, .ref h24, .ref this] S22 rfl rfl rfl rfl ?_
  obtain ⟨g27, h⟩ := h
  refine jLf.inv hc _ rfl (gs := [jA S22 h24 1, (([.ref h24, .ref this] : List Value).map fun v => v.category).sum ≤ 8, 5 ≤ 21, 1122 ≤ 7826]) (k := 8) (args := [.ref h24]) (r := [.ref h24, .ref this]) (a := 16) (b := 6704) rfl ⟨g27, Nat.le_of_ble_eq_true rfl, Nat.le_of_ble_eq_true rfl, Nat.le_of_ble_eq_true rfl⟩ (vX1_init d (by omega) h) ?_
  rintro v S25 ⟨rfl, h⟩
  show jLf (jCall jmt jbud d) jbud (fun j => (jmt j).rk) none mX11_init (jqV Q) (20, [some (.ref this)], [.ref h24, .ref this], S25, 16, 6704)
  obtain ⟨g28, h⟩ := h
  refine jLf.bk hc 1 [jA S25 this 11] [some (.ref this)] [] (uR S25 this 3 (some h24)) rfl rfl rfl g28 ?_
  generalize eS29 : uR S25 this 3 (some h24) = S29
  have h := h S29 eS29.symm
  refine jLf.bk hc 1 [] [some (.ref this)] [.ref this] S29 rfl rfl rfl trivial ?_
  obtain ⟨g31, h⟩ := h
  refine jLf.one hc _ rfl (gs := [1 ≤ 16, 7 ≤ 6704, jN S29 < 1000000]) (c := (23, [some (.ref this)], [.ref (jN S29), .ref this], (uNew S29 7 7), 15, 6697)) rfl ⟨Nat.le_of_ble_eq_true rfl, Nat.le_of_ble_eq_true rfl, g31⟩ ?_
  generalize eS30 : uNew S29 7 7 = S30
  generalize eh32 : jN S29 = h32
  have h := h h32 eh32.symm S30 eS30.symm
  refine jLf.bk hc 1 [(.ref h32 : Value).category = 1] [some (.ref this)] [.ref h32, .ref h32, .ref this] S30 rfl rfl rfl rfl ?_
  obtain ⟨g35, h⟩ := h
  refine jLf.inv hc _ rfl (gs := [jA S30 h32 7, (([.ref h32, .ref this] : List Value).map fun v => v.category).sum ≤ 8, 5 ≤ 15, 1740 ≤ 6697]) (k := 70) (args := [.ref h32]) (r := [.ref h32, .ref this]) (a := 10) (b := 4957) rfl ⟨g35, Nat.le_of_ble_eq_true rfl, Nat.le_of_ble_eq_true rfl, Nat.le_of_ble_eq_true rfl⟩ (vX7_init d (by omega) h) ?_
  rintro v S33 ⟨rfl, h⟩
  show jLf (jCall jmt jbud d) jbud (fun j => (jmt j).rk) none mX11_init (jqV Q) (25, [some (.ref this)], [.ref h32, .ref this], S33, 10, 4957)
  obtain ⟨g36, h⟩ := h
  refine jLf.bk hc 1 [jA S33 this 11] [some (.ref this)] [] (uR S33 this 4 (some h32)) rfl rfl rfl g36 ?_
  generalize eS37 : uR S33 this 4 (some h32) = S37
  have h := h S37 eS37.symm
  refine jLf.bk hc 1 [] [some (.ref this)] [.ref this] S37 rfl rfl rfl trivial ?_
  obtain ⟨g39, h⟩ := h
  refine jLf.one hc _ rfl (gs := [1 ≤ 10, 2 ≤ 4957, jN S37 < 1000000]) (c := (28, [some (.ref this)], [.ref (jN S37), .ref this], (uNew S37 6 2), 9, 4955)) rfl ⟨Nat.le_of_ble_eq_true rfl, Nat.le_of_ble_eq_true rfl, g39⟩ ?_
  generalize eS38 : uNew S37 6 2 = S38
  generalize eh40 : jN S37 = h40
  have h := h h40 eh40.symm S38 eS38.symm
  refine jLf.bk hc 1 [(.ref h40 : Value).category = 1] [some (.ref this)] [.ref h40, .ref h40, .ref this] S38 rfl rfl rfl rfl ?_
  obtain ⟨g43, h⟩ := h
  refine jLf.inv hc _ rfl (gs := [jA S38 h40 6, (([.ref h40, .ref this] : List Value).map fun v => v.category).sum ≤ 8, 1 ≤ 9, 4320 ≤ 4955]) (k := 58) (args := [.ref h40]) (r := [.ref h40, .ref this]) (a := 8) (b := 635) rfl ⟨g43, Nat.le_of_ble_eq_true rfl, Nat.le_of_ble_eq_true rfl, Nat.le_of_ble_eq_true rfl⟩ (vX6_init d (by omega) h) ?_
  rintro v S41 ⟨rfl, h⟩
  show jLf (jCall jmt jbud d) jbud (fun j => (jmt j).rk) none mX11_init (jqV Q) (30, [some (.ref this)], [.ref h40, .ref this], S41, 8, 635)
  obtain ⟨g44, h⟩ := h
  refine jLf.bk hc 1 [jA S41 this 11] [some (.ref this)] [] (uR S41 this 5 (some h40)) rfl rfl rfl g44 ?_
  generalize eS45 : uR S41 this 5 (some h40) = S45
  have h := h S45 eS45.symm
  refine jLf.bk hc 1 [] [some (.ref this)] [.ref this] S45 rfl rfl rfl trivial ?_
  obtain ⟨g47, h⟩ := h
  refine jLf.one hc _ rfl (gs := [1 ≤ 8, 1 ≤ 635, jN S45 < 1000000]) (c := (33, [some (.ref this)], [.ref (jN S45), .ref this], (uNew S45 2 1), 7, 634)) rfl ⟨Nat.le_of_ble_eq_true rfl, Nat.le_of_ble_eq_true rfl, g47⟩ ?_
  generalize eS46 : uNew S45 2 1 = S46
  generalize eh48 : jN S45 = h48
  have h := h h48 eh48.symm S46 eS46.symm
  refine jLf.bk hc 1 [(.ref h48 : Value).category = 1] [some (.ref this)] [.ref h48, .ref h48, .ref this] S46 rfl rfl rfl rfl ?_
  obtain ⟨g51, h⟩ := h
  refine jLf.inv hc _ rfl (gs := [jA S46 h48 2, (([.ref h48, .ref this] : List Value).map fun v => v.category).sum ≤ 8, 1 ≤ 7, 540 ≤ 634]) (k := 20) (args := [.ref h48]) (r := [.ref h48, .ref this]) (a := 6) (b := 94) rfl ⟨g51, Nat.le_of_ble_eq_true rfl, Nat.le_of_ble_eq_true rfl, Nat.le_of_ble_eq_true rfl⟩ (vX2_init d (by omega) h) ?_
  rintro v S49 ⟨rfl, h⟩
  show jLf (jCall jmt jbud d) jbud (fun j => (jmt j).rk) none mX11_init (jqV Q) (35, [some (.ref this)], [.ref h48, .ref this], S49, 6, 94)
  obtain ⟨g52, h⟩ := h
  refine jLf.bk hc 1 [jA S49 this 11] [some (.ref this)] [] (uR S49 this 6 (some h48)) rfl rfl rfl g52 ?_
  generalize eS53 : uR S49 this 6 (some h48) = S53
  have h := h S53 eS53.symm
  refine jLf.bk hc 1 [] [some (.ref this)] [.ref this] S53 rfl rfl rfl trivial ?_
  obtain ⟨g55, h⟩ := h
  refine jLf.one hc _ rfl (gs := [1 ≤ 6, 4 ≤ 94, jN S53 < 1000000]) (c := (38, [some (.ref this)], [.ref (jN S53), .ref this], (uNew S53 4 4), 5, 90)) rfl ⟨Nat.le_of_ble_eq_true rfl, Nat.le_of_ble_eq_true rfl, g55⟩ ?_
  generalize eS54 : uNew S53 4 4 = S54
  generalize eh56 : jN S53 = h56
  have h := h h56 eh56.symm S54 eS54.symm
  refine jLf.bk hc 1 [(.ref h56 : Value).category = 1] [some (.ref this)] [.ref h56, .ref h56, .ref this] S54 rfl rfl rfl rfl ?_
  obtain ⟨g59, h⟩ := h
  refine jLf.inv hc _ rfl (gs := [jA S54 h56 4, (([.ref h56, .ref this] : List Value).map fun v => v.category).sum ≤ 8, 1 ≤ 5, 12 ≤ 90]) (k := 27) (args := [.ref h56]) (r := [.ref h56, .ref this]) (a := 4) (b := 78) rfl ⟨g59, Nat.le_of_ble_eq_true rfl, Nat.le_of_ble_eq_true rfl, Nat.le_of_ble_eq_true rfl⟩ (vX4_init d (by omega) h) ?_
  rintro v S57 ⟨rfl, h⟩
  show jLf (jCall jmt jbud d) jbud (fun j => (jmt j).rk) none mX11_init (jqV Q) (40, [some (.ref this)], [.ref h56, .ref this], S57, 4, 78)
  obtain ⟨g60, h⟩ := h
  refine jLf.bk hc 1 [jA S57 this 11] [some (.ref this)] [] (uR S57 this 7 (some h56)) rfl rfl rfl g60 ?_
  generalize eS61 : uR S57 this 7 (some h56) = S61
  have h := h S61 eS61.symm
  refine jLf.bk hc 1 [] [some (.ref this)] [.ref this] S61 rfl rfl rfl trivial ?_
  obtain ⟨g63, h⟩ := h
  refine jLf.one hc _ rfl (gs := [1 ≤ 4, 4 ≤ 78, jN S61 < 1000000]) (c := (43, [some (.ref this)], [.ref (jN S61), .ref this], (uNew S61 10 4), 3, 74)) rfl ⟨Nat.le_of_ble_eq_true rfl, Nat.le_of_ble_eq_true rfl, g63⟩ ?_
  generalize eS62 : uNew S61 10 4 = S62
  generalize eh64 : jN S61 = h64
  have h := h h64 eh64.symm S62 eS62.symm
  refine jLf.bk hc 1 [(.ref h64 : Value).category = 1] [some (.ref this)] [.ref h64, .ref h64, .ref this] S62 rfl rfl rfl rfl ?_
  obtain ⟨g67, h⟩ := h
  refine jLf.inv hc _ rfl (gs := [jA S62 h64 10, (([.ref h64, .ref this] : List Value).map fun v => v.category).sum ≤ 8, 2 ≤ 3, 69 ≤ 74]) (k := 95) (args := [.ref h64]) (r := [.ref h64, .ref this]) (a := 1) (b := 5) rfl ⟨g67, Nat.le_of_ble_eq_true rfl, Nat.le_of_ble_eq_true rfl, Nat.le_of_ble_eq_true rfl⟩ (vX10_init d (by omega) h) ?_
  rintro v S65 ⟨rfl, h⟩
  show jLf (jCall jmt jbud d) jbud (fun j => (jmt j).rk) none mX11_init (jqV Q) (45, [some (.ref this)], [.ref h64, .ref this], S65, 1, 5)
  obtain ⟨g68, h⟩ := h
  refine jLf.bk hc 1 [jA S65 this 11] [some (.ref this)] [] (uR S65 this 8 (some h64)) rfl rfl rfl g68 ?_
  generalize eS69 : uR S65 this 8 (some h64) = S69
  have h := h S69 eS69.symm
  refine jLf.bk hc 2 [] [some (.ref this)] [.int 5, .ref this] S69 rfl rfl rfl trivial ?_
  obtain ⟨g71, h⟩ := h
  refine jLf.one hc _ rfl (gs := [¬ (5 : Int32) < 0, 5 ≤ 1000000, 1 ≤ 1, 5 ≤ 5, jN S69 < 1000000]) (c := (49, [some (.ref this)], [.ref (jN S69), .ref this], (uNew S69 13 5), 0, 0)) rfl ⟨(by decide), Nat.le_of_ble_eq_true rfl, Nat.le_of_ble_eq_true rfl, Nat.le_of_ble_eq_true rfl, g71⟩ ?_
  generalize eS70 : uNew S69 13 5 = S70
  generalize eh72 : jN S69 = h72
  have h := h h72 eh72.symm S70 eS70.symm
  obtain ⟨g73, h⟩ := h
  refine jLf.bk hc 1 [jA S70 this 11] [some (.ref this)] [] (uR S70 this 9 (some h72)) rfl rfl rfl g73 ?_
  generalize eS74 : uR S70 this 9 (some h72) = S74
  have h := h S74 eS74.symm
  obtain ⟨g75, h⟩ := h
  refine jLf.bk hc 3 [jA S74 this 11] [some (.ref this)] [] (uI S74 this 11 (-1)) rfl rfl rfl g75 ?_
  generalize eS76 : uI S74 this 11 (-1) = S76
  have h := h S76 eS76.symm
  exact jLf.ret hc _ rfl (gs := [jrt none none]) (v := none) rfl trivial ⟨rfl, h⟩
def wX11_refuse  (this : Nat) (p1 : Int32) (S : JS) (Q : Int32 → JS → Prop) : Prop :=
  jA S this 11 ∧ (∀ S2 : JS, S2 = uI S this 12 p1 → ((p1 = (-5) → jA S2 this 11 ∧ (¬ jR S2 this 9 = none ∧ (jA S2 (jr S2 this 9) 13 ∧ (vp_in (3 : Int32) (jZ S2 (jr S2 this 9)) ∧ (∀ S7 : JS, S7 = uI S2 (jr S2 this 9) (3 : Int32).toNatClampNeg ((jI S2 (jr S2 this 9) (3 : Int32).toNatClampNeg) + (1 : Int32)) → (Q p1 S7)))))) ∧ (¬ p1 = (-5) → (p1 = (-4) → jA S2 this 11 ∧ (¬ jR S2 this 9 = none ∧ (jA S2 (jr S2 this 9) 13 ∧ (vp_in (4 : Int32) (jZ S2 (jr S2 this 9)) ∧ (∀ S12 : JS, S12 = uI S2 (jr S2 this 9) (4 : Int32).toNatClampNeg ((jI S2 (jr S2 this 9) (4 : Int32).toNatClampNeg) + (1 : Int32)) → (Q p1 S12)))))) ∧ (¬ p1 = (-4) → (p1 = (-3) → jA S2 this 11 ∧ (¬ jR S2 this 9 = none ∧ (jA S2 (jr S2 this 9) 13 ∧ (vp_in (2 : Int32) (jZ S2 (jr S2 this 9)) ∧ (∀ S17 : JS, S17 = uI S2 (jr S2 this 9) (2 : Int32).toNatClampNeg ((jI S2 (jr S2 this 9) (2 : Int32).toNatClampNeg) + (1 : Int32)) → (Q p1 S17)))))) ∧ (¬ p1 = (-3) → (p1 = (-2) → jA S2 this 11 ∧ (¬ jR S2 this 9 = none ∧ (jA S2 (jr S2 this 9) 13 ∧ (vp_in (1 : Int32) (jZ S2 (jr S2 this 9)) ∧ (∀ S22 : JS, S22 = uI S2 (jr S2 this 9) (1 : Int32).toNatClampNeg ((jI S2 (jr S2 this 9) (1 : Int32).toNatClampNeg) + (1 : Int32)) → (Q p1 S22)))))) ∧ (¬ p1 = (-2) → (p1 = (-1) → jA S2 this 11 ∧ (¬ jR S2 this 9 = none ∧ (jA S2 (jr S2 this 9) 13 ∧ (vp_in (0 : Int32) (jZ S2 (jr S2 this 9)) ∧ (∀ S27 : JS, S27 = uI S2 (jr S2 this 9) (0 : Int32).toNatClampNeg ((jI S2 (jr S2 this 9) (0 : Int32).toNatClampNeg) + (1 : Int32)) → (Q p1 S27)))))) ∧ (¬ p1 = (-1) → jA S2 this 11 ∧ (¬ jR S2 this 9 = none ∧ (jA S2 (jr S2 this 9) 13 ∧ (vp_in (4 : Int32) (jZ S2 (jr S2 this 9)) ∧ (∀ S32 : JS, S32 = uI S2 (jr S2 this 9) (4 : Int32).toNatClampNeg ((jI S2 (jr S2 this 9) (4 : Int32).toNatClampNeg) + (1 : Int32)) → (Q p1 S32))))))))))))
set_option maxRecDepth 20000 in
theorem vX11_refuse {Q : Int32 → JS → Prop} (d : Nat) (hd : 1 ≤ d) {this : Nat} {p1 : Int32} {S : JS} (h : wX11_refuse this p1 S Q) : jCall jmt jbud d 137 [.ref this, .int p1] S (jqI Q) := by
  obtain ⟨d, rfl⟩ : ∃ d2, d = d2 + 1 := ⟨d - 1, by omega⟩
  have hd : 0 ≤ d := by omega
  have hc := jCall_mono jmt jbud d
  unfold wX11_refuse at h
  refine ⟨Nat.le_of_ble_eq_true rfl, ?_⟩
  show jLf (jCall jmt jbud d) jbud (fun j => (jmt j).rk) none mX11_refuse (jqI Q) (0, [some (.ref this), some (.int p1)], [], S, 0, 0)
  obtain ⟨g1, h⟩ := h
  refine jLf.bk hc 3 [jA S this 11] [some (.ref this), some (.int p1)] [] (uI S this 12 p1) rfl rfl rfl g1 ?_
  generalize eS2 : uI S this 12 p1 = S2
  have h := h S2 eS2.symm
  refine jLf.bk hc 1 [] [some (.ref this), some (.int p1)] [.int p1] S2 rfl rfl rfl trivial ?_
  refine jLf.sw hc _ rfl rfl (by decide +kernel) ?_
  refine ⟨fun hz => ?_, fun hz => ?_⟩
  · have h := h.1 hz
    show jLf (jCall jmt jbud d) jbud (fun j => (jmt j).rk) none mX11_refuse (jqI Q) (32, [some (.ref this), some (.int p1)], [], S2, 0, 0)
    obtain ⟨g3, g4, g5, g6, h⟩ := h
    refine jLf.bk hc 8 [jA S2 this 11, ¬ jR S2 this 9 = none, jA S2 (jr S2 this 9) 13, vp_in (3 : Int32) (jZ S2 (jr S2 this 9)), jA S2 (jr S2 this 9) 13, vp_in (3 : Int32) (jZ S2 (jr S2 this 9))] [some (.ref this), some (.int p1)] [] (uI S2 (jr S2 this 9) (3 : Int32).toNatClampNeg ((jI S2 (jr S2 this 9) (3 : Int32).toNatClampNeg) + (1 : Int32))) rfl rfl rfl ⟨g3, g4, g5, g6, g5, g6⟩ ?_
    generalize eS7 : uI S2 (jr S2 this 9) (3 : Int32).toNatClampNeg ((jI S2 (jr S2 this 9) (3 : Int32).toNatClampNeg) + (1 : Int32)) = S7
    have h := h S7 eS7.symm
    refine jLf.one hc _ rfl (gs := []) (c := (49, [some (.ref this), some (.int p1)], [], S7, 0, 0)) rfl trivial ?_
    refine jLf.bk hc 1 [] [some (.ref this), some (.int p1)] [.int p1] S7 rfl rfl rfl trivial ?_
    exact jLf.ret hc _ rfl (gs := [True]) (v := some (.int p1)) rfl trivial ⟨p1, rfl, h⟩
  have h := h.2 hz
  refine ⟨fun hz => ?_, fun hz => ?_⟩
  · have h := h.1 hz
    show jLf (jCall jmt jbud d) jbud (fun j => (jmt j).rk) none mX11_refuse (jqI Q) (41, [some (.ref this), some (.int p1)], [], S2, 0, 0)
    obtain ⟨g8, g9, g10, g11, h⟩ := h
    refine jLf.bk hc 8 [jA S2 this 11, ¬ jR S2 this 9 = none, jA S2 (jr S2 this 9) 13, vp_in (4 : Int32) (jZ S2 (jr S2 this 9)), jA S2 (jr S2 this 9) 13, vp_in (4 : Int32) (jZ S2 (jr S2 this 9))] [some (.ref this), some (.int p1)] [] (uI S2 (jr S2 this 9) (4 : Int32).toNatClampNeg ((jI S2 (jr S2 this 9) (4 : Int32).toNatClampNeg) + (1 : Int32))) rfl rfl rfl ⟨g8, g9, g10, g11, g10, g11⟩ ?_
    generalize eS12 : uI S2 (jr S2 this 9) (4 : Int32).toNatClampNeg ((jI S2 (jr S2 this 9) (4 : Int32).toNatClampNeg) + (1 : Int32)) = S12
    have h := h S12 eS12.symm
    refine jLf.bk hc 1 [] [some (.ref this), some (.int p1)] [.int p1] S12 rfl rfl rfl trivial ?_
    exact jLf.ret hc _ rfl (gs := [True]) (v := some (.int p1)) rfl trivial ⟨p1, rfl, h⟩
  have h := h.2 hz
  refine ⟨fun hz => ?_, fun hz => ?_⟩
  · have h := h.1 hz
    show jLf (jCall jmt jbud d) jbud (fun j => (jmt j).rk) none mX11_refuse (jqI Q) (23, [some (.ref this), some (.int p1)], [], S2, 0, 0)
    obtain ⟨g13, g14, g15, g16, h⟩ := h
    refine jLf.bk hc 8 [jA S2 this 11, ¬ jR S2 this 9 = none, jA S2 (jr S2 this 9) 13, vp_in (2 : Int32) (jZ S2 (jr S2 this 9)), jA S2 (jr S2 this 9) 13, vp_in (2 : Int32) (jZ S2 (jr S2 this 9))] [some (.ref this), some (.int p1)] [] (uI S2 (jr S2 this 9) (2 : Int32).toNatClampNeg ((jI S2 (jr S2 this 9) (2 : Int32).toNatClampNeg) + (1 : Int32))) rfl rfl rfl ⟨g13, g14, g15, g16, g15, g16⟩ ?_
    generalize eS17 : uI S2 (jr S2 this 9) (2 : Int32).toNatClampNeg ((jI S2 (jr S2 this 9) (2 : Int32).toNatClampNeg) + (1 : Int32)) = S17
    have h := h S17 eS17.symm
    refine jLf.one hc _ rfl (gs := []) (c := (49, [some (.ref this), some (.int p1)], [], S17, 0, 0)) rfl trivial ?_
    refine jLf.bk hc 1 [] [some (.ref this), some (.int p1)] [.int p1] S17 rfl rfl rfl trivial ?_
    exact jLf.ret hc _ rfl (gs := [True]) (v := some (.int p1)) rfl trivial ⟨p1, rfl, h⟩
  have h := h.2 hz
  refine ⟨fun hz => ?_, fun hz => ?_⟩
  · have h := h.1 hz
    show jLf (jCall jmt jbud d) jbud (fun j => (jmt j).rk) none mX11_refuse (jqI Q) (14, [some (.ref this), some (.int p1)], [], S2, 0, 0)
    obtain ⟨g18, g19, g20, g21, h⟩ := h
    refine jLf.bk hc 8 [jA S2 this 11, ¬ jR S2 this 9 = none, jA S2 (jr S2 this 9) 13, vp_in (1 : Int32) (jZ S2 (jr S2 this 9)), jA S2 (jr S2 this 9) 13, vp_in (1 : Int32) (jZ S2 (jr S2 this 9))] [some (.ref this), some (.int p1)] [] (uI S2 (jr S2 this 9) (1 : Int32).toNatClampNeg ((jI S2 (jr S2 this 9) (1 : Int32).toNatClampNeg) + (1 : Int32))) rfl rfl rfl ⟨g18, g19, g20, g21, g20, g21⟩ ?_
    generalize eS22 : uI S2 (jr S2 this 9) (1 : Int32).toNatClampNeg ((jI S2 (jr S2 this 9) (1 : Int32).toNatClampNeg) + (1 : Int32)) = S22
    have h := h S22 eS22.symm
    refine jLf.one hc _ rfl (gs := []) (c := (49, [some (.ref this), some (.int p1)], [], S22, 0, 0)) rfl trivial ?_
    refine jLf.bk hc 1 [] [some (.ref this), some (.int p1)] [.int p1] S22 rfl rfl rfl trivial ?_
    exact jLf.ret hc _ rfl (gs := [True]) (v := some (.int p1)) rfl trivial ⟨p1, rfl, h⟩
  have h := h.2 hz
  refine ⟨fun hz => ?_, fun hz => ?_⟩
  · have h := h.1 hz
    show jLf (jCall jmt jbud d) jbud (fun j => (jmt j).rk) none mX11_refuse (jqI Q) (5, [some (.ref this), some (.int p1)], [], S2, 0, 0)
    obtain ⟨g23, g24, g25, g26, h⟩ := h
    refine jLf.bk hc 8 [jA S2 this 11, ¬ jR S2 this 9 = none, jA S2 (jr S2 this 9) 13, vp_in (0 : Int32) (jZ S2 (jr S2 this 9)), jA S2 (jr S2 this 9) 13, vp_in (0 : Int32) (jZ S2 (jr S2 this 9))] [some (.ref this), some (.int p1)] [] (uI S2 (jr S2 this 9) (0 : Int32).toNatClampNeg ((jI S2 (jr S2 this 9) (0 : Int32).toNatClampNeg) + (1 : Int32))) rfl rfl rfl ⟨g23, g24, g25, g26, g25, g26⟩ ?_
    generalize eS27 : uI S2 (jr S2 this 9) (0 : Int32).toNatClampNeg ((jI S2 (jr S2 this 9) (0 : Int32).toNatClampNeg) + (1 : Int32)) = S27
    have h := h S27 eS27.symm
    refine jLf.one hc _ rfl (gs := []) (c := (49, [some (.ref this), some (.int p1)], [], S27, 0, 0)) rfl trivial ?_
    refine jLf.bk hc 1 [] [some (.ref this), some (.int p1)] [.int p1] S27 rfl rfl rfl trivial ?_
    exact jLf.ret hc _ rfl (gs := [True]) (v := some (.int p1)) rfl trivial ⟨p1, rfl, h⟩
  have h := h.2 hz
  show jLf (jCall jmt jbud d) jbud (fun j => (jmt j).rk) none mX11_refuse (jqI Q) (41, [some (.ref this), some (.int p1)], [], S2, 0, 0)
  obtain ⟨g28, g29, g30, g31, h⟩ := h
  refine jLf.bk hc 8 [jA S2 this 11, ¬ jR S2 this 9 = none, jA S2 (jr S2 this 9) 13, vp_in (4 : Int32) (jZ S2 (jr S2 this 9)), jA S2 (jr S2 this 9) 13, vp_in (4 : Int32) (jZ S2 (jr S2 this 9))] [some (.ref this), some (.int p1)] [] (uI S2 (jr S2 this 9) (4 : Int32).toNatClampNeg ((jI S2 (jr S2 this 9) (4 : Int32).toNatClampNeg) + (1 : Int32))) rfl rfl rfl ⟨g28, g29, g30, g31, g30, g31⟩ ?_
  generalize eS32 : uI S2 (jr S2 this 9) (4 : Int32).toNatClampNeg ((jI S2 (jr S2 this 9) (4 : Int32).toNatClampNeg) + (1 : Int32)) = S32
  have h := h S32 eS32.symm
  refine jLf.bk hc 1 [] [some (.ref this), some (.int p1)] [.int p1] S32 rfl rfl rfl trivial ?_
  exact jLf.ret hc _ rfl (gs := [True]) (v := some (.int p1)) rfl trivial ⟨p1, rfl, h⟩
def wX11_accept  (this : Nat) (p1 : Int32) (S : JS) (Q : Int32 → JS → Prop) : Prop :=
  jA S this 11 ∧ (∀ S2 : JS, S2 = uI S this 12 0 → (jA S2 this 11 ∧ (∀ S4 : JS, S4 = uI S2 this 13 0 → (Q p1 S4))))
set_option maxRecDepth 20000 in
theorem vX11_accept {Q : Int32 → JS → Prop} (d : Nat) (hd : 1 ≤ d) {this : Nat} {p1 : Int32} {S : JS} (h : wX11_accept this p1 S Q) : jCall jmt jbud d 138 [.ref this, .int p1] S (jqI Q) := by
  obtain ⟨d, rfl⟩ : ∃ d2, d = d2 + 1 := ⟨d - 1, by omega⟩
  have hd : 0 ≤ d := by omega
  have hc := jCall_mono jmt jbud d
  unfold wX11_accept at h
  refine ⟨Nat.le_of_ble_eq_true rfl, ?_⟩
  show jLf (jCall jmt jbud d) jbud (fun j => (jmt j).rk) none mX11_accept (jqI Q) (0, [some (.ref this), some (.int p1)], [], S, 0, 0)
  obtain ⟨g1, h⟩ := h
  refine jLf.bk hc 3 [jA S this 11] [some (.ref this), some (.int p1)] [] (uI S this 12 0) rfl rfl rfl g1 ?_
  generalize eS2 : uI S this 12 0 = S2
  have h := h S2 eS2.symm
  obtain ⟨g3, h⟩ := h
  refine jLf.bk hc 3 [jA S2 this 11, jbit 0] [some (.ref this), some (.int p1)] [] (uI S2 this 13 0) rfl rfl rfl ⟨g3, (Or.inl rfl)⟩ ?_
  generalize eS4 : uI S2 this 13 0 = S4
  have h := h S4 eS4.symm
  refine jLf.bk hc 1 [] [some (.ref this), some (.int p1)] [.int p1] S4 rfl rfl rfl trivial ?_
  exact jLf.ret hc _ rfl (gs := [True]) (v := some (.int p1)) rfl trivial ⟨p1, rfl, h⟩
def wX11_termNow  (this : Nat) (p1 : Int32) (S : JS) (Q : Int32 → JS → Prop) : Prop :=
  (¬ p1 = 0 → (¬ p1 = 1 → jA S this 11 ∧ (¬ jR S this 0 = none ∧ (jA S (jr S this 0) 9 ∧ (Q (jI S (jr S this 0) 2) S)))) ∧ (p1 = 1 → jA S this 11 ∧ (¬ jR S this 0 = none ∧ (jA S (jr S this 0) 9 ∧ (Q (jI S (jr S this 0) 1) S))))) ∧ (p1 = 0 → jA S this 11 ∧ (¬ jR S this 0 = none ∧ (jA S (jr S this 0) 9 ∧ (Q (jI S (jr S this 0) 0) S))))
set_option maxRecDepth 20000 in
theorem vX11_termNow {Q : Int32 → JS → Prop} (d : Nat) (hd : 1 ≤ d) {this : Nat} {p1 : Int32} {S : JS} (h : wX11_termNow this p1 S Q) : jCall jmt jbud d 141 [.ref this, .int p1] S (jqI Q) := by
  obtain ⟨d, rfl⟩ : ∃ d2, d = d2 + 1 := ⟨d - 1, by omega⟩
  have hd : 0 ≤ d := by omega
  have hc := jCall_mono jmt jbud d
  unfold wX11_termNow at h
  refine ⟨Nat.le_of_ble_eq_true rfl, ?_⟩
  show jLf (jCall jmt jbud d) jbud (fun j => (jmt j).rk) none mX11_termNow (jqI Q) (0, [some (.ref this), some (.int p1)], [], S, 0, 0)
  refine jLf.bk hc 1 [] [some (.ref this), some (.int p1)] [.int p1] S rfl rfl rfl trivial ?_
  refine jLf.two hc _ rfl (gs := []) (p1 := ¬ p1 = 0) (p2 := ¬ (¬ p1 = 0)) (c1 := (6, [some (.ref this), some (.int p1)], [], S, 0, 0)) (c2 := (2, [some (.ref this), some (.int p1)], [], S, 0, 0)) rfl trivial (fun hz => ?_) (fun hz => ?_)
  · have h := h.1 hz
    refine jLf.bk hc 2 [] [some (.ref this), some (.int p1)] [.int 1, .int p1] S rfl rfl rfl trivial ?_
    refine jLf.two hc _ rfl (gs := []) (p1 := ¬ p1 = 1) (p2 := ¬ (¬ p1 = 1)) (c1 := (13, [some (.ref this), some (.int p1)], [], S, 0, 0)) (c2 := (9, [some (.ref this), some (.int p1)], [], S, 0, 0)) rfl trivial (fun hz => ?_) (fun hz => ?_)
    · have h := h.1 hz
      obtain ⟨g1, g2, g3, h⟩ := h
      refine jLf.bk hc 3 [jA S this 11, ¬ jR S this 0 = none, jA S (jr S this 0) 9] [some (.ref this), some (.int p1)] [.int (jI S (jr S this 0) 2)] S rfl rfl rfl ⟨g1, g2, g3⟩ ?_
      exact jLf.ret hc _ rfl (gs := [True]) (v := some (.int (jI S (jr S this 0) 2))) rfl trivial ⟨jI S (jr S this 0) 2, rfl, h⟩
    · have h := h.2 (Classical.not_not.mp hz)
      obtain ⟨g4, g5, g6, h⟩ := h
      refine jLf.bk hc 3 [jA S this 11, ¬ jR S this 0 = none, jA S (jr S this 0) 9] [some (.ref this), some (.int p1)] [.int (jI S (jr S this 0) 1)] S rfl rfl rfl ⟨g4, g5, g6⟩ ?_
      refine jLf.one hc _ rfl (gs := []) (c := (16, [some (.ref this), some (.int p1)], [.int (jI S (jr S this 0) 1)], S, 0, 0)) rfl trivial ?_
      exact jLf.ret hc _ rfl (gs := [True]) (v := some (.int (jI S (jr S this 0) 1))) rfl trivial ⟨jI S (jr S this 0) 1, rfl, h⟩
  · have h := h.2 (Classical.not_not.mp hz)
    obtain ⟨g7, g8, g9, h⟩ := h
    refine jLf.bk hc 3 [jA S this 11, ¬ jR S this 0 = none, jA S (jr S this 0) 9] [some (.ref this), some (.int p1)] [.int (jI S (jr S this 0) 0)] S rfl rfl rfl ⟨g7, g8, g9⟩ ?_
    exact jLf.ret hc _ rfl (gs := [True]) (v := some (.int (jI S (jr S this 0) 0))) rfl trivial ⟨jI S (jr S this 0) 0, rfl, h⟩
def wX11_mostOfTerm  (p1 : Int32) (S : JS) (Q : Int32 → JS → Prop) : Prop :=
  (¬ p1 = 0 → (¬ p1 = 1 → Q 100 S) ∧ (p1 = 1 → Q 9 S)) ∧ (p1 = 0 → Q 9 S)
set_option maxRecDepth 20000 in
theorem vX11_mostOfTerm {Q : Int32 → JS → Prop} (d : Nat) (hd : 1 ≤ d) {p1 : Int32} {S : JS} (h : wX11_mostOfTerm p1 S Q) : jCall jmt jbud d 142 [.int p1] S (jqI Q) := by
  obtain ⟨d, rfl⟩ : ∃ d2, d = d2 + 1 := ⟨d - 1, by omega⟩
  have hd : 0 ≤ d := by omega
  have hc := jCall_mono jmt jbud d
  unfold wX11_mostOfTerm at h
  refine ⟨Nat.le_of_ble_eq_true rfl, ?_⟩
  show jLf (jCall jmt jbud d) jbud (fun j => (jmt j).rk) none mX11_mostOfTerm (jqI Q) (0, [some (.int p1)], [], S, 0, 0)
  refine jLf.bk hc 1 [] [some (.int p1)] [.int p1] S rfl rfl rfl trivial ?_
  refine jLf.two hc _ rfl (gs := []) (p1 := ¬ p1 = 0) (p2 := ¬ (¬ p1 = 0)) (c1 := (4, [some (.int p1)], [], S, 0, 0)) (c2 := (2, [some (.int p1)], [], S, 0, 0)) rfl trivial (fun hz => ?_) (fun hz => ?_)
  · have h := h.1 hz
    refine jLf.bk hc 2 [] [some (.int p1)] [.int 1, .int p1] S rfl rfl rfl trivial ?_
    refine jLf.two hc _ rfl (gs := []) (p1 := ¬ p1 = 1) (p2 := ¬ (¬ p1 = 1)) (c1 := (9, [some (.int p1)], [], S, 0, 0)) (c2 := (7, [some (.int p1)], [], S, 0, 0)) rfl trivial (fun hz => ?_) (fun hz => ?_)
    · have h := h.1 hz
      refine jLf.bk hc 1 [] [some (.int p1)] [.int 100] S rfl rfl rfl trivial ?_
      exact jLf.ret hc _ rfl (gs := [True]) (v := some (.int 100)) rfl trivial ⟨100, rfl, h⟩
    · have h := h.2 (Classical.not_not.mp hz)
      refine jLf.bk hc 1 [] [some (.int p1)] [.int 9] S rfl rfl rfl trivial ?_
      refine jLf.one hc _ rfl (gs := []) (c := (10, [some (.int p1)], [.int 9], S, 0, 0)) rfl trivial ?_
      exact jLf.ret hc _ rfl (gs := [True]) (v := some (.int 9)) rfl trivial ⟨9, rfl, h⟩
  · have h := h.2 (Classical.not_not.mp hz)
    refine jLf.bk hc 1 [] [some (.int p1)] [.int 9] S rfl rfl rfl trivial ?_
    exact jLf.ret hc _ rfl (gs := [True]) (v := some (.int 9)) rfl trivial ⟨9, rfl, h⟩
def wX11_terms_19   (l0 : Nat) (S : JS) (Q : Int32 → JS → Prop) : Prop :=
  jA S l0 11 ∧ (wX11_refuse l0 (-1) S (fun r2 S1 => Q r2 S1))
set_option maxRecDepth 20000 in
theorem tX11_terms_19 {Q : Int32 → JS → Prop}  (d : Nat) (hd : 2 ≤ d) {l0 : Nat} {S : JS} (h : wX11_terms_19 l0 S Q) : jLf (jCall jmt jbud d) jbud (fun j => (jmt j).rk) none mX11_terms (jqI Q) (19, [some (.ref l0), none, none, none, none], [], S, 0, 0) := by
  have hc := jCall_mono jmt jbud d
  unfold wX11_terms_19 at h
  refine jLf.bk hc 2 [] [some (.ref l0), none, none, none, none] [.int (-1), .ref l0] S rfl rfl rfl trivial ?_
  obtain ⟨g3, h⟩ := h
  refine jLf.inv hc _ rfl (gs := [jA S l0 11, (([] : List Value).map fun v => v.category).sum ≤ 8, 0 ≤ 0, 0 ≤ 0]) (k := 137) (args := [.ref l0, .int (-1)]) (r := []) (a := 0) (b := 0) rfl ⟨g3, Nat.le_of_ble_eq_true rfl, Nat.zero_le _, Nat.zero_le _⟩ (vX11_refuse d (by omega) h) ?_
  rintro v S1 ⟨r2, rfl, h⟩
  show jLf (jCall jmt jbud d) jbud (fun j => (jmt j).rk) none mX11_terms (jqI Q) (22, [some (.ref l0), none, none, none, none], [.int r2], S1, 0, 0)
  exact jLf.ret hc _ rfl (gs := [True]) (v := some (.int r2)) rfl trivial ⟨r2, rfl, h⟩
def wX11_terms_46   (l0 : Nat) (l4 : Int32) (S : JS) (Q : Int32 → JS → Prop) : Prop :=
  jA S l0 11 ∧ (¬ jR S l0 3 = none ∧ (jA S (jr S l0 3) 1 ∧ (wX1_forget (jr S l0 3) 0 59 S (fun S15 => jA S15 l0 11 ∧ (wX11_accept l0 l4 S15 (fun r19 S18 => Q r19 S18))))))
set_option maxRecDepth 20000 in
theorem tX11_terms_46 {Q : Int32 → JS → Prop}  (d : Nat) (hd : 2 ≤ d) {l0 : Nat} {l4 : Int32} {S : JS} (h : wX11_terms_46 l0 l4 S Q) : jLf (jCall jmt jbud d) jbud (fun j => (jmt j).rk) none mX11_terms (jqI Q) (46, [some (.ref l0), none, none, none, some (.int l4)], [], S, 0, 0) := by
  have hc := jCall_mono jmt jbud d
  unfold wX11_terms_46 at h
  obtain ⟨g13, g14, h⟩ := h
  refine jLf.bk hc 4 [jA S l0 11, ¬ jR S l0 3 = none] [some (.ref l0), none, none, none, some (.int l4)] [.int 59, .int 0, .ref (jr S l0 3)] S rfl rfl rfl ⟨g13, g14⟩ ?_
  obtain ⟨g17, h⟩ := h
  refine jLf.inv hc _ rfl (gs := [jA S (jr S l0 3) 1, (([] : List Value).map fun v => v.category).sum ≤ 8, 0 ≤ 0, 0 ≤ 0]) (k := 9) (args := [.ref (jr S l0 3), .int 0, .int 59]) (r := []) (a := 0) (b := 0) rfl ⟨g17, Nat.le_of_ble_eq_true rfl, Nat.zero_le _, Nat.zero_le _⟩ (vX1_forget d (by omega) h) ?_
  rintro v S15 ⟨rfl, h⟩
  show jLf (jCall jmt jbud d) jbud (fun j => (jmt j).rk) none mX11_terms (jqI Q) (51, [some (.ref l0), none, none, none, some (.int l4)], [], S15, 0, 0)
  refine jLf.bk hc 2 [] [some (.ref l0), none, none, none, some (.int l4)] [.int l4, .ref l0] S15 rfl rfl rfl trivial ?_
  obtain ⟨g20, h⟩ := h
  refine jLf.inv hc _ rfl (gs := [jA S15 l0 11, (([] : List Value).map fun v => v.category).sum ≤ 8, 0 ≤ 0, 0 ≤ 0]) (k := 138) (args := [.ref l0, .int l4]) (r := []) (a := 0) (b := 0) rfl ⟨g20, Nat.le_of_ble_eq_true rfl, Nat.zero_le _, Nat.zero_le _⟩ (vX11_accept d (by omega) h) ?_
  rintro v S18 ⟨r19, rfl, h⟩
  show jLf (jCall jmt jbud d) jbud (fun j => (jmt j).rk) none mX11_terms (jqI Q) (54, [some (.ref l0), none, none, none, some (.int l4)], [.int r19], S18, 0, 0)
  exact jLf.ret hc _ rfl (gs := [True]) (v := some (.int r19)) rfl trivial ⟨r19, rfl, h⟩
def wX11_terms_6   (l0 : Nat) (l1 : Int32) (l2 : Int32) (s0 : Int32) (S : JS) (Q : Int32 → JS → Prop) : Prop :=
  (l1 < 0 → wX11_terms_19 l0 S Q) ∧ (¬ (l1 < 0) → (2 < l1 → wX11_terms_19 l0 S Q) ∧ (¬ (2 < l1) → (l2 < s0 → wX11_terms_19 l0 S Q) ∧ (¬ (l2 < s0) → wX11_mostOfTerm l1 S (fun r5 S4 => (l2 ≤ r5 → jA S4 l0 11 ∧ (wX11_termNow l0 l1 S4 (fun r7 S6 => (¬ l1 = 0 → (¬ l1 = 1 → jA S6 l0 11 ∧ (¬ jR S6 l0 0 = none ∧ (jA S6 (jr S6 l0 0) 9 ∧ (∀ S12 : JS, S12 = uI S6 (jr S6 l0 0) 2 l2 → (wX11_terms_46 l0 r7 S12 Q))))) ∧ (l1 = 1 → jA S6 l0 11 ∧ (¬ jR S6 l0 0 = none ∧ (jA S6 (jr S6 l0 0) 9 ∧ (∀ S24 : JS, S24 = uI S6 (jr S6 l0 0) 1 l2 → (wX11_terms_46 l0 r7 S24 Q)))))) ∧ (l1 = 0 → jA S6 l0 11 ∧ (¬ jR S6 l0 0 = none ∧ (jA S6 (jr S6 l0 0) 9 ∧ (wX9_beginAnew (jr S6 l0 0) l2 S6 (fun S27 => wX11_terms_46 l0 r7 S27 Q)))))))) ∧ (¬ (l2 ≤ r5) → wX11_terms_19 l0 S4 Q)))))
set_option maxRecDepth 20000 in
theorem tX11_terms_6 {Q : Int32 → JS → Prop}  (d : Nat) (hd : 2 ≤ d) {l0 : Nat} {l1 : Int32} {l2 : Int32} {s0 : Int32} {S : JS} (h : wX11_terms_6 l0 l1 l2 s0 S Q) : jLf (jCall jmt jbud d) jbud (fun j => (jmt j).rk) none mX11_terms (jqI Q) (6, [some (.ref l0), some (.int l1), some (.int l2), none, none], [.int s0], S, 0, 0) := by
  have hc := jCall_mono jmt jbud d
  unfold wX11_terms_6 at h
  refine jLf.bk hc 2 [] [some (.ref l0), some (.int l1), some (.int l2), some (.int s0), none] [.int l1] S rfl rfl rfl trivial ?_
  refine jLf.two hc _ rfl (gs := []) (p1 := l1 < 0) (p2 := ¬ (l1 < 0)) (c1 := (19, [some (.ref l0), some (.int l1), some (.int l2), some (.int s0), none], [], S, 0, 0)) (c2 := (9, [some (.ref l0), some (.int l1), some (.int l2), some (.int s0), none], [], S, 0, 0)) rfl trivial (fun hz => ?_) (fun hz => ?_)
  · have h := h.1 hz
    refine jLf.sub [some (.ref l0), none, none, none, none] (jle_same (jle_none (jle_none (jle_none (jle_same (jle_nil _)))))) ?_
    exact tX11_terms_19 d hd  h
  · have h := h.2 hz
    refine jLf.bk hc 2 [] [some (.ref l0), some (.int l1), some (.int l2), some (.int s0), none] [.int 2, .int l1] S rfl rfl rfl trivial ?_
    refine jLf.two hc _ rfl (gs := []) (p1 := 2 < l1) (p2 := ¬ (2 < l1)) (c1 := (19, [some (.ref l0), some (.int l1), some (.int l2), some (.int s0), none], [], S, 0, 0)) (c2 := (12, [some (.ref l0), some (.int l1), some (.int l2), some (.int s0), none], [], S, 0, 0)) rfl trivial (fun hz => ?_) (fun hz => ?_)
    · have h := h.1 hz
      refine jLf.sub [some (.ref l0), none, none, none, none] (jle_same (jle_none (jle_none (jle_none (jle_same (jle_nil _)))))) ?_
      exact tX11_terms_19 d hd  h
    · have h := h.2 hz
      refine jLf.bk hc 2 [] [some (.ref l0), some (.int l1), some (.int l2), some (.int s0), none] [.int s0, .int l2] S rfl rfl rfl trivial ?_
      refine jLf.two hc _ rfl (gs := []) (p1 := l2 < s0) (p2 := ¬ (l2 < s0)) (c1 := (19, [some (.ref l0), some (.int l1), some (.int l2), some (.int s0), none], [], S, 0, 0)) (c2 := (15, [some (.ref l0), some (.int l1), some (.int l2), some (.int s0), none], [], S, 0, 0)) rfl trivial (fun hz => ?_) (fun hz => ?_)
      · have h := h.1 hz
        refine jLf.sub [some (.ref l0), none, none, none, none] (jle_same (jle_none (jle_none (jle_none (jle_same (jle_nil _)))))) ?_
        exact tX11_terms_19 d hd  h
      · have h := h.2 hz
        refine jLf.bk hc 2 [] [some (.ref l0), some (.int l1), some (.int l2), some (.int s0), none] [.int l1, .int l2] S rfl rfl rfl trivial ?_
        refine jLf.inv hc _ rfl (gs := [1 ≤ ([.int l1, .int l2] : List Value).length, (([.int l2] : List Value).map fun v => v.category).sum ≤ 8, 0 ≤ 0, 0 ≤ 0]) (k := 142) (args := [.int l1]) (r := [.int l2]) (a := 0) (b := 0) rfl ⟨Nat.le_of_ble_eq_true rfl, Nat.le_of_ble_eq_true rfl, Nat.zero_le _, Nat.zero_le _⟩ (vX11_mostOfTerm d (by omega) h) ?_
        rintro v S4 ⟨r5, rfl, h⟩
        show jLf (jCall jmt jbud d) jbud (fun j => (jmt j).rk) none mX11_terms (jqI Q) (18, [some (.ref l0), some (.int l1), some (.int l2), some (.int s0), none], [.int r5, .int l2], S4, 0, 0)
        refine jLf.two hc _ rfl (gs := []) (p1 := l2 ≤ r5) (p2 := ¬ (l2 ≤ r5)) (c1 := (23, [some (.ref l0), some (.int l1), some (.int l2), some (.int s0), none], [], S4, 0, 0)) (c2 := (19, [some (.ref l0), some (.int l1), some (.int l2), some (.int s0), none], [], S4, 0, 0)) rfl trivial (fun hz => ?_) (fun hz => ?_)
        · have h := h.1 hz
          refine jLf.bk hc 2 [] [some (.ref l0), some (.int l1), some (.int l2), some (.int s0), none] [.int l1, .ref l0] S4 rfl rfl rfl trivial ?_
          obtain ⟨g8, h⟩ := h
          refine jLf.inv hc _ rfl (gs := [jA S4 l0 11, (([] : List Value).map fun v => v.category).sum ≤ 8, 0 ≤ 0, 0 ≤ 0]) (k := 141) (args := [.ref l0, .int l1]) (r := []) (a := 0) (b := 0) rfl ⟨g8, Nat.le_of_ble_eq_true rfl, Nat.zero_le _, Nat.zero_le _⟩ (vX11_termNow d (by omega) h) ?_
          rintro v S6 ⟨r7, rfl, h⟩
          show jLf (jCall jmt jbud d) jbud (fun j => (jmt j).rk) none mX11_terms (jqI Q) (26, [some (.ref l0), some (.int l1), some (.int l2), some (.int s0), none], [.int r7], S6, 0, 0)
          refine jLf.bk hc 2 [] [some (.ref l0), some (.int l1), some (.int l2), some (.int s0), some (.int r7)] [.int l1] S6 rfl rfl rfl trivial ?_
          refine jLf.two hc _ rfl (gs := []) (p1 := ¬ l1 = 0) (p2 := ¬ (¬ l1 = 0)) (c1 := (34, [some (.ref l0), some (.int l1), some (.int l2), some (.int s0), some (.int r7)], [], S6, 0, 0)) (c2 := (29, [some (.ref l0), some (.int l1), some (.int l2), some (.int s0), some (.int r7)], [], S6, 0, 0)) rfl trivial (fun hz => ?_) (fun hz => ?_)
          · have h := h.1 hz
            refine jLf.bk hc 2 [] [some (.ref l0), some (.int l1), some (.int l2), some (.int s0), some (.int r7)] [.int 1, .int l1] S6 rfl rfl rfl trivial ?_
            refine jLf.two hc _ rfl (gs := []) (p1 := ¬ l1 = 1) (p2 := ¬ (¬ l1 = 1)) (c1 := (42, [some (.ref l0), some (.int l1), some (.int l2), some (.int s0), some (.int r7)], [], S6, 0, 0)) (c2 := (37, [some (.ref l0), some (.int l1), some (.int l2), some (.int s0), some (.int r7)], [], S6, 0, 0)) rfl trivial (fun hz => ?_) (fun hz => ?_)
            · have h := h.1 hz
              obtain ⟨g9, g10, g11, h⟩ := h
              refine jLf.bk hc 4 [jA S6 l0 11, ¬ jR S6 l0 0 = none, jA S6 (jr S6 l0 0) 9] [some (.ref l0), some (.int l1), some (.int l2), some (.int s0), some (.int r7)] [] (uI S6 (jr S6 l0 0) 2 l2) rfl rfl rfl ⟨g9, g10, g11⟩ ?_
              generalize eS12 : uI S6 (jr S6 l0 0) 2 l2 = S12
              have h := h S12 eS12.symm
              refine jLf.sub [some (.ref l0), none, none, none, some (.int r7)] (jle_same (jle_none (jle_none (jle_none (jle_same (jle_nil _)))))) ?_
              exact tX11_terms_46 d hd  h
            · have h := h.2 (Classical.not_not.mp hz)
              obtain ⟨g21, g22, g23, h⟩ := h
              refine jLf.bk hc 4 [jA S6 l0 11, ¬ jR S6 l0 0 = none, jA S6 (jr S6 l0 0) 9] [some (.ref l0), some (.int l1), some (.int l2), some (.int s0), some (.int r7)] [] (uI S6 (jr S6 l0 0) 1 l2) rfl rfl rfl ⟨g21, g22, g23⟩ ?_
              generalize eS24 : uI S6 (jr S6 l0 0) 1 l2 = S24
              have h := h S24 eS24.symm
              refine jLf.one hc _ rfl (gs := []) (c := (46, [some (.ref l0), some (.int l1), some (.int l2), some (.int s0), some (.int r7)], [], S24, 0, 0)) rfl trivial ?_
              refine jLf.sub [some (.ref l0), none, none, none, some (.int r7)] (jle_same (jle_none (jle_none (jle_none (jle_same (jle_nil _)))))) ?_
              exact tX11_terms_46 d hd  h
          · have h := h.2 (Classical.not_not.mp hz)
            obtain ⟨g25, g26, h⟩ := h
            refine jLf.bk hc 3 [jA S6 l0 11, ¬ jR S6 l0 0 = none] [some (.ref l0), some (.int l1), some (.int l2), some (.int s0), some (.int r7)] [.int l2, .ref (jr S6 l0 0)] S6 rfl rfl rfl ⟨g25, g26⟩ ?_
            obtain ⟨g29, h⟩ := h
            refine jLf.inv hc _ rfl (gs := [jA S6 (jr S6 l0 0) 9, (([] : List Value).map fun v => v.category).sum ≤ 8, 0 ≤ 0, 0 ≤ 0]) (k := 93) (args := [.ref (jr S6 l0 0), .int l2]) (r := []) (a := 0) (b := 0) rfl ⟨g29, Nat.le_of_ble_eq_true rfl, Nat.zero_le _, Nat.zero_le _⟩ (vX9_beginAnew d (by omega) h) ?_
            rintro v S27 ⟨rfl, h⟩
            show jLf (jCall jmt jbud d) jbud (fun j => (jmt j).rk) none mX11_terms (jqI Q) (33, [some (.ref l0), some (.int l1), some (.int l2), some (.int s0), some (.int r7)], [], S27, 0, 0)
            refine jLf.one hc _ rfl (gs := []) (c := (46, [some (.ref l0), some (.int l1), some (.int l2), some (.int s0), some (.int r7)], [], S27, 0, 0)) rfl trivial ?_
            refine jLf.sub [some (.ref l0), none, none, none, some (.int r7)] (jle_same (jle_none (jle_none (jle_none (jle_same (jle_nil _)))))) ?_
            exact tX11_terms_46 d hd  h
        · have h := h.2 hz
          refine jLf.sub [some (.ref l0), none, none, none, none] (jle_same (jle_none (jle_none (jle_none (jle_same (jle_nil _)))))) ?_
          exact tX11_terms_19 d hd  h
def wX11_terms  (this : Nat) (p1 : Int32) (p2 : Int32) (S : JS) (Q : Int32 → JS → Prop) : Prop :=
  (¬ p1 = 1 → wX11_terms_6 this p1 p2 1 S Q) ∧ (p1 = 1 → wX11_terms_6 this p1 p2 0 S Q)
set_option maxRecDepth 20000 in
theorem vX11_terms {Q : Int32 → JS → Prop} (d : Nat) (hd : 3 ≤ d) {this : Nat} {p1 : Int32} {p2 : Int32} {S : JS} (h : wX11_terms this p1 p2 S Q) : jCall jmt jbud d 101 [.ref this, .int p1, .int p2] S (jqI Q) := by
  obtain ⟨d, rfl⟩ : ∃ d2, d = d2 + 1 := ⟨d - 1, by omega⟩
  have hd : 2 ≤ d := by omega
  have hc := jCall_mono jmt jbud d
  unfold wX11_terms at h
  refine ⟨Nat.le_of_ble_eq_true rfl, ?_⟩
  show jLf (jCall jmt jbud d) jbud (fun j => (jmt j).rk) none mX11_terms (jqI Q) (0, [some (.ref this), some (.int p1), some (.int p2), none, none], [], S, 0, 0)
  refine jLf.bk hc 2 [] [some (.ref this), some (.int p1), some (.int p2), none, none] [.int 1, .int p1] S rfl rfl rfl trivial ?_
  refine jLf.two hc _ rfl (gs := []) (p1 := ¬ p1 = 1) (p2 := ¬ (¬ p1 = 1)) (c1 := (5, [some (.ref this), some (.int p1), some (.int p2), none, none], [], S, 0, 0)) (c2 := (3, [some (.ref this), some (.int p1), some (.int p2), none, none], [], S, 0, 0)) rfl trivial (fun hz => ?_) (fun hz => ?_)
  · have h := h.1 hz
    refine jLf.bk hc 1 [] [some (.ref this), some (.int p1), some (.int p2), none, none] [.int 1] S rfl rfl rfl trivial ?_
    exact tX11_terms_6 d hd  h
  · have h := h.2 (Classical.not_not.mp hz)
    refine jLf.bk hc 1 [] [some (.ref this), some (.int p1), some (.int p2), none, none] [.int 0] S rfl rfl rfl trivial ?_
    refine jLf.one hc _ rfl (gs := []) (c := (6, [some (.ref this), some (.int p1), some (.int p2), none, none], [.int 0], S, 0, 0)) rfl trivial ?_
    exact tX11_terms_6 d hd  h
def wX11_isNight  (p1 : Int32) (S : JS) (Q : Int32 → JS → Prop) : Prop :=
  (p1 < 0 → Q 0 S) ∧ (¬ (p1 < 0) → (60 ≤ p1 → Q 0 S) ∧ (¬ (60 ≤ p1) → Q 1 S))
set_option maxRecDepth 20000 in
theorem vX11_isNight {Q : Int32 → JS → Prop} (d : Nat) (hd : 1 ≤ d) {p1 : Int32} {S : JS} (h : wX11_isNight p1 S Q) : jCall jmt jbud d 143 [.int p1] S (jqI Q) := by
  obtain ⟨d, rfl⟩ : ∃ d2, d = d2 + 1 := ⟨d - 1, by omega⟩
  have hd : 0 ≤ d := by omega
  have hc := jCall_mono jmt jbud d
  unfold wX11_isNight at h
  refine ⟨Nat.le_of_ble_eq_true rfl, ?_⟩
  show jLf (jCall jmt jbud d) jbud (fun j => (jmt j).rk) none mX11_isNight (jqI Q) (0, [some (.int p1)], [], S, 0, 0)
  refine jLf.bk hc 1 [] [some (.int p1)] [.int p1] S rfl rfl rfl trivial ?_
  refine jLf.two hc _ rfl (gs := []) (p1 := p1 < 0) (p2 := ¬ (p1 < 0)) (c1 := (7, [some (.int p1)], [], S, 0, 0)) (c2 := (2, [some (.int p1)], [], S, 0, 0)) rfl trivial (fun hz => ?_) (fun hz => ?_)
  · have h := h.1 hz
    refine jLf.bk hc 1 [] [some (.int p1)] [.int 0] S rfl rfl rfl trivial ?_
    exact jLf.ret hc _ rfl (gs := [jbit 0]) (v := some (.int 0)) rfl (Or.inl rfl) ⟨_, rfl, h⟩
  · have h := h.2 hz
    refine jLf.bk hc 2 [] [some (.int p1)] [.int 60, .int p1] S rfl rfl rfl trivial ?_
    refine jLf.two hc _ rfl (gs := []) (p1 := 60 ≤ p1) (p2 := ¬ (60 ≤ p1)) (c1 := (7, [some (.int p1)], [], S, 0, 0)) (c2 := (5, [some (.int p1)], [], S, 0, 0)) rfl trivial (fun hz => ?_) (fun hz => ?_)
    · have h := h.1 hz
      refine jLf.bk hc 1 [] [some (.int p1)] [.int 0] S rfl rfl rfl trivial ?_
      exact jLf.ret hc _ rfl (gs := [jbit 0]) (v := some (.int 0)) rfl (Or.inl rfl) ⟨_, rfl, h⟩
    · have h := h.2 hz
      refine jLf.bk hc 1 [] [some (.int p1)] [.int 1] S rfl rfl rfl trivial ?_
      refine jLf.one hc _ rfl (gs := []) (c := (8, [some (.int p1)], [.int 1], S, 0, 0)) rfl trivial ?_
      exact jLf.ret hc _ rfl (gs := [jbit 1]) (v := some (.int 1)) rfl (Or.inr rfl) ⟨_, rfl, h⟩
def wX11_isBit  (p1 : Int32) (S : JS) (Q : Int32 → JS → Prop) : Prop :=
  (p1 = 0 → Q 1 S) ∧ (¬ p1 = 0 → (¬ p1 = 1 → Q 0 S) ∧ (p1 = 1 → Q 1 S))
set_option maxRecDepth 20000 in
theorem vX11_isBit {Q : Int32 → JS → Prop} (d : Nat) (hd : 1 ≤ d) {p1 : Int32} {S : JS} (h : wX11_isBit p1 S Q) : jCall jmt jbud d 144 [.int p1] S (jqI Q) := by
  obtain ⟨d, rfl⟩ : ∃ d2, d = d2 + 1 := ⟨d - 1, by omega⟩
  have hd : 0 ≤ d := by omega
  have hc := jCall_mono jmt jbud d
  unfold wX11_isBit at h
  refine ⟨Nat.le_of_ble_eq_true rfl, ?_⟩
  show jLf (jCall jmt jbud d) jbud (fun j => (jmt j).rk) none mX11_isBit (jqI Q) (0, [some (.int p1)], [], S, 0, 0)
  refine jLf.bk hc 1 [] [some (.int p1)] [.int p1] S rfl rfl rfl trivial ?_
  refine jLf.two hc _ rfl (gs := []) (p1 := p1 = 0) (p2 := ¬ (p1 = 0)) (c1 := (5, [some (.int p1)], [], S, 0, 0)) (c2 := (2, [some (.int p1)], [], S, 0, 0)) rfl trivial (fun hz => ?_) (fun hz => ?_)
  · have h := h.1 hz
    refine jLf.bk hc 1 [] [some (.int p1)] [.int 1] S rfl rfl rfl trivial ?_
    refine jLf.one hc _ rfl (gs := []) (c := (8, [some (.int p1)], [.int 1], S, 0, 0)) rfl trivial ?_
    exact jLf.ret hc _ rfl (gs := [jbit 1]) (v := some (.int 1)) rfl (Or.inr rfl) ⟨_, rfl, h⟩
  · have h := h.2 hz
    refine jLf.bk hc 2 [] [some (.int p1)] [.int 1, .int p1] S rfl rfl rfl trivial ?_
    refine jLf.two hc _ rfl (gs := []) (p1 := ¬ p1 = 1) (p2 := ¬ (¬ p1 = 1)) (c1 := (7, [some (.int p1)], [], S, 0, 0)) (c2 := (5, [some (.int p1)], [], S, 0, 0)) rfl trivial (fun hz => ?_) (fun hz => ?_)
    · have h := h.1 hz
      refine jLf.bk hc 1 [] [some (.int p1)] [.int 0] S rfl rfl rfl trivial ?_
      exact jLf.ret hc _ rfl (gs := [jbit 0]) (v := some (.int 0)) rfl (Or.inl rfl) ⟨_, rfl, h⟩
    · have h := h.2 (Classical.not_not.mp hz)
      refine jLf.bk hc 1 [] [some (.int p1)] [.int 1] S rfl rfl rfl trivial ?_
      refine jLf.one hc _ rfl (gs := []) (c := (8, [some (.int p1)], [.int 1], S, 0, 0)) rfl trivial ?_
      exact jLf.ret hc _ rfl (gs := [jbit 1]) (v := some (.int 1)) rfl (Or.inr rfl) ⟨_, rfl, h⟩
def wX11_storm_6   (l0 : Nat) (S : JS) (Q : Int32 → JS → Prop) : Prop :=
  jA S l0 11 ∧ (wX11_refuse l0 (-1) S (fun r4 S3 => Q r4 S3))
set_option maxRecDepth 20000 in
theorem tX11_storm_6 {Q : Int32 → JS → Prop}  (d : Nat) (hd : 2 ≤ d) {l0 : Nat} {S : JS} (h : wX11_storm_6 l0 S Q) : jLf (jCall jmt jbud d) jbud (fun j => (jmt j).rk) none mX11_storm (jqI Q) (6, [some (.ref l0), none, none, none], [], S, 0, 0) := by
  have hc := jCall_mono jmt jbud d
  unfold wX11_storm_6 at h
  refine jLf.bk hc 2 [] [some (.ref l0), none, none, none] [.int (-1), .ref l0] S rfl rfl rfl trivial ?_
  obtain ⟨g5, h⟩ := h
  refine jLf.inv hc _ rfl (gs := [jA S l0 11, (([] : List Value).map fun v => v.category).sum ≤ 8, 0 ≤ 0, 0 ≤ 0]) (k := 137) (args := [.ref l0, .int (-1)]) (r := []) (a := 0) (b := 0) rfl ⟨g5, Nat.le_of_ble_eq_true rfl, Nat.zero_le _, Nat.zero_le _⟩ (vX11_refuse d (by omega) h) ?_
  rintro v S3 ⟨r4, rfl, h⟩
  show jLf (jCall jmt jbud d) jbud (fun j => (jmt j).rk) none mX11_storm (jqI Q) (9, [some (.ref l0), none, none, none], [.int r4], S3, 0, 0)
  exact jLf.ret hc _ rfl (gs := [True]) (v := some (.int r4)) rfl trivial ⟨r4, rfl, h⟩
def wX11_storm_24   (l0 : Nat) (l1 : Int32) (l3 : Int32) (s0 : Int32) (s1 : Int32) (s2 : Nat) (S : JS) (Q : Int32 → JS → Prop) : Prop :=
  jA S s2 9 ∧ (wX9_setStorm s2 s1 s0 S (fun S15 => jA S15 l0 11 ∧ (¬ jR S15 l0 3 = none ∧ (jA S15 (jr S15 l0 3) 1 ∧ (wX1_forget (jr S15 l0 3) l1 l1 S15 (fun S20 => jA S20 l0 11 ∧ (wX11_accept l0 l3 S20 (fun r24 S23 => Q r24 S23))))))))
set_option maxRecDepth 20000 in
theorem tX11_storm_24 {Q : Int32 → JS → Prop}  (d : Nat) (hd : 2 ≤ d) {l0 : Nat} {l1 : Int32} {l3 : Int32} {s0 : Int32} {s1 : Int32} {s2 : Nat} {S : JS} (h : wX11_storm_24 l0 l1 l3 s0 s1 s2 S Q) : jLf (jCall jmt jbud d) jbud (fun j => (jmt j).rk) none mX11_storm (jqI Q) (24, [some (.ref l0), some (.int l1), none, some (.int l3)], [.int s0, .int s1, .ref s2], S, 0, 0) := by
  have hc := jCall_mono jmt jbud d
  unfold wX11_storm_24 at h
  obtain ⟨g17, h⟩ := h
  refine jLf.inv hc _ rfl (gs := [jA S s2 9, (([] : List Value).map fun v => v.category).sum ≤ 8, 0 ≤ 0, 0 ≤ 0]) (k := 90) (args := [.ref s2, .int s1, .int s0]) (r := []) (a := 0) (b := 0) rfl ⟨g17, Nat.le_of_ble_eq_true rfl, Nat.zero_le _, Nat.zero_le _⟩ (vX9_setStorm d (by omega) h) ?_
  rintro v S15 ⟨rfl, h⟩
  show jLf (jCall jmt jbud d) jbud (fun j => (jmt j).rk) none mX11_storm (jqI Q) (25, [some (.ref l0), some (.int l1), none, some (.int l3)], [], S15, 0, 0)
  obtain ⟨g18, g19, h⟩ := h
  refine jLf.bk hc 4 [jA S15 l0 11, ¬ jR S15 l0 3 = none] [some (.ref l0), some (.int l1), none, some (.int l3)] [.int l1, .int l1, .ref (jr S15 l0 3)] S15 rfl rfl rfl ⟨g18, g19⟩ ?_
  obtain ⟨g22, h⟩ := h
  refine jLf.inv hc _ rfl (gs := [jA S15 (jr S15 l0 3) 1, (([] : List Value).map fun v => v.category).sum ≤ 8, 0 ≤ 0, 0 ≤ 0]) (k := 9) (args := [.ref (jr S15 l0 3), .int l1, .int l1]) (r := []) (a := 0) (b := 0) rfl ⟨g22, Nat.le_of_ble_eq_true rfl, Nat.zero_le _, Nat.zero_le _⟩ (vX1_forget d (by omega) h) ?_
  rintro v S20 ⟨rfl, h⟩
  show jLf (jCall jmt jbud d) jbud (fun j => (jmt j).rk) none mX11_storm (jqI Q) (30, [some (.ref l0), some (.int l1), none, some (.int l3)], [], S20, 0, 0)
  refine jLf.bk hc 2 [] [some (.ref l0), some (.int l1), none, some (.int l3)] [.int l3, .ref l0] S20 rfl rfl rfl trivial ?_
  obtain ⟨g25, h⟩ := h
  refine jLf.inv hc _ rfl (gs := [jA S20 l0 11, (([] : List Value).map fun v => v.category).sum ≤ 8, 0 ≤ 0, 0 ≤ 0]) (k := 138) (args := [.ref l0, .int l3]) (r := []) (a := 0) (b := 0) rfl ⟨g25, Nat.le_of_ble_eq_true rfl, Nat.zero_le _, Nat.zero_le _⟩ (vX11_accept d (by omega) h) ?_
  rintro v S23 ⟨r24, rfl, h⟩
  show jLf (jCall jmt jbud d) jbud (fun j => (jmt j).rk) none mX11_storm (jqI Q) (33, [some (.ref l0), some (.int l1), none, some (.int l3)], [.int r24], S23, 0, 0)
  exact jLf.ret hc _ rfl (gs := [True]) (v := some (.int r24)) rfl trivial ⟨r24, rfl, h⟩
def wX11_storm  (this : Nat) (p1 : Int32) (p2 : Int32) (S : JS) (Q : Int32 → JS → Prop) : Prop :=
  wX11_isNight p1 S (fun r2 S1 => (r2 = 0 → wX11_storm_6 this S1 Q) ∧ (¬ r2 = 0 → wX11_isBit p2 S1 (fun r7 S6 => (¬ r7 = 0 → jA S6 this 11 ∧ (¬ jR S6 this 0 = none ∧ (jA S6 (jr S6 this 0) 9 ∧ (wX9_stormOn (jr S6 this 0) p1 S6 (fun r11 S10 => jA S10 this 11 ∧ (¬ jR S10 this 0 = none ∧ ((¬ p2 = 1 → wX11_storm_24 this p1 r11 0 p1 (jr S10 this 0) S10 Q) ∧ (p2 = 1 → wX11_storm_24 this p1 r11 1 p1 (jr S10 this 0) S10 Q)))))))) ∧ (r7 = 0 → wX11_storm_6 this S6 Q))))
set_option maxRecDepth 20000 in
theorem vX11_storm {Q : Int32 → JS → Prop} (d : Nat) (hd : 3 ≤ d) {this : Nat} {p1 : Int32} {p2 : Int32} {S : JS} (h : wX11_storm this p1 p2 S Q) : jCall jmt jbud d 102 [.ref this, .int p1, .int p2] S (jqI Q) := by
  obtain ⟨d, rfl⟩ : ∃ d2, d = d2 + 1 := ⟨d - 1, by omega⟩
  have hd : 2 ≤ d := by omega
  have hc := jCall_mono jmt jbud d
  unfold wX11_storm at h
  refine ⟨Nat.le_of_ble_eq_true rfl, ?_⟩
  show jLf (jCall jmt jbud d) jbud (fun j => (jmt j).rk) none mX11_storm (jqI Q) (0, [some (.ref this), some (.int p1), some (.int p2), none], [], S, 0, 0)
  refine jLf.bk hc 1 [] [some (.ref this), some (.int p1), some (.int p2), none] [.int p1] S rfl rfl rfl trivial ?_
  refine jLf.inv hc _ rfl (gs := [1 ≤ ([.int p1] : List Value).length, (([] : List Value).map fun v => v.category).sum ≤ 8, 0 ≤ 0, 0 ≤ 0]) (k := 143) (args := [.int p1]) (r := []) (a := 0) (b := 0) rfl ⟨Nat.le_of_ble_eq_true rfl, Nat.le_of_ble_eq_true rfl, Nat.zero_le _, Nat.zero_le _⟩ (vX11_isNight d (by omega) h) ?_
  rintro v S1 ⟨r2, rfl, h⟩
  show jLf (jCall jmt jbud d) jbud (fun j => (jmt j).rk) none mX11_storm (jqI Q) (2, [some (.ref this), some (.int p1), some (.int p2), none], [.int r2], S1, 0, 0)
  refine jLf.two hc _ rfl (gs := []) (p1 := r2 = 0) (p2 := ¬ (r2 = 0)) (c1 := (6, [some (.ref this), some (.int p1), some (.int p2), none], [], S1, 0, 0)) (c2 := (3, [some (.ref this), some (.int p1), some (.int p2), none], [], S1, 0, 0)) rfl trivial (fun hz => ?_) (fun hz => ?_)
  · have h := h.1 hz
    refine jLf.sub [some (.ref this), none, none, none] (jle_same (jle_none (jle_none (jle_same (jle_nil _))))) ?_
    exact tX11_storm_6 d hd  h
  · have h := h.2 hz
    refine jLf.bk hc 1 [] [some (.ref this), some (.int p1), some (.int p2), none] [.int p2] S1 rfl rfl rfl trivial ?_
    refine jLf.inv hc _ rfl (gs := [1 ≤ ([.int p2] : List Value).length, (([] : List Value).map fun v => v.category).sum ≤ 8, 0 ≤ 0, 0 ≤ 0]) (k := 144) (args := [.int p2]) (r := []) (a := 0) (b := 0) rfl ⟨Nat.le_of_ble_eq_true rfl, Nat.le_of_ble_eq_true rfl, Nat.zero_le _, Nat.zero_le _⟩ (vX11_isBit d (by omega) h) ?_
    rintro v S6 ⟨r7, rfl, h⟩
    show jLf (jCall jmt jbud d) jbud (fun j => (jmt j).rk) none mX11_storm (jqI Q) (5, [some (.ref this), some (.int p1), some (.int p2), none], [.int r7], S6, 0, 0)
    refine jLf.two hc _ rfl (gs := []) (p1 := ¬ r7 = 0) (p2 := ¬ (¬ r7 = 0)) (c1 := (10, [some (.ref this), some (.int p1), some (.int p2), none], [], S6, 0, 0)) (c2 := (6, [some (.ref this), some (.int p1), some (.int p2), none], [], S6, 0, 0)) rfl trivial (fun hz => ?_) (fun hz => ?_)
    · have h := h.1 hz
      obtain ⟨g8, g9, h⟩ := h
      refine jLf.bk hc 3 [jA S6 this 11, ¬ jR S6 this 0 = none] [some (.ref this), some (.int p1), some (.int p2), none] [.int p1, .ref (jr S6 this 0)] S6 rfl rfl rfl ⟨g8, g9⟩ ?_
      obtain ⟨g12, h⟩ := h
      refine jLf.inv hc _ rfl (gs := [jA S6 (jr S6 this 0) 9, (([] : List Value).map fun v => v.category).sum ≤ 8, 0 ≤ 0, 0 ≤ 0]) (k := 89) (args := [.ref (jr S6 this 0), .int p1]) (r := []) (a := 0) (b := 0) rfl ⟨g12, Nat.le_of_ble_eq_true rfl, Nat.zero_le _, Nat.zero_le _⟩ (vX9_stormOn d (by omega) h) ?_
      rintro v S10 ⟨r11, rfl, h⟩
      show jLf (jCall jmt jbud d) jbud (fun j => (jmt j).rk) none mX11_storm (jqI Q) (14, [some (.ref this), some (.int p1), some (.int p2), none], [.int r11], S10, 0, 0)
      obtain ⟨g13, g14, h⟩ := h
      refine jLf.bk hc 6 [jA S10 this 11, ¬ jR S10 this 0 = none] [some (.ref this), some (.int p1), some (.int p2), some (.int r11)] [.int 1, .int p2, .int p1, .ref (jr S10 this 0)] S10 rfl rfl rfl ⟨g13, g14⟩ ?_
      refine jLf.two hc _ rfl (gs := []) (p1 := ¬ p2 = 1) (p2 := ¬ (¬ p2 = 1)) (c1 := (23, [some (.ref this), some (.int p1), some (.int p2), some (.int r11)], [.int p1, .ref (jr S10 this 0)], S10, 0, 0)) (c2 := (21, [some (.ref this), some (.int p1), some (.int p2), some (.int r11)], [.int p1, .ref (jr S10 this 0)], S10, 0, 0)) rfl trivial (fun hz => ?_) (fun hz => ?_)
      · have h := h.1 hz
        refine jLf.bk hc 1 [] [some (.ref this), some (.int p1), some (.int p2), some (.int r11)] [.int 0, .int p1, .ref (jr S10 this 0)] S10 rfl rfl rfl trivial ?_
        refine jLf.sub [some (.ref this), some (.int p1), none, some (.int r11)] (jle_same (jle_same (jle_none (jle_same (jle_nil _))))) ?_
        exact tX11_storm_24 d hd  h
      · have h := h.2 (Classical.not_not.mp hz)
        refine jLf.bk hc 1 [] [some (.ref this), some (.int p1), some (.int p2), some (.int r11)] [.int 1, .int p1, .ref (jr S10 this 0)] S10 rfl rfl rfl trivial ?_
        refine jLf.one hc _ rfl (gs := []) (c := (24, [some (.ref this), some (.int p1), some (.int p2), some (.int r11)], [.int 1, .int p1, .ref (jr S10 this 0)], S10, 0, 0)) rfl trivial ?_
        refine jLf.sub [some (.ref this), some (.int p1), none, some (.int r11)] (jle_same (jle_same (jle_none (jle_same (jle_nil _))))) ?_
        exact tX11_storm_24 d hd  h
    · have h := h.2 (Classical.not_not.mp hz)
      refine jLf.sub [some (.ref this), none, none, none] (jle_same (jle_none (jle_none (jle_same (jle_nil _))))) ?_
      exact tX11_storm_6 d hd  h
def wX11_wed_9   (l0 : Nat) (S : JS) (Q : Int32 → JS → Prop) : Prop :=
  jA S l0 11 ∧ (wX11_refuse l0 (-1) S (fun r4 S3 => Q r4 S3))
set_option maxRecDepth 20000 in
theorem tX11_wed_9 {Q : Int32 → JS → Prop}  (d : Nat) (hd : 2 ≤ d) {l0 : Nat} {S : JS} (h : wX11_wed_9 l0 S Q) : jLf (jCall jmt jbud d) jbud (fun j => (jmt j).rk) none mX11_wed (jqI Q) (9, [some (.ref l0), none, none, none], [], S, 0, 0) := by
  have hc := jCall_mono jmt jbud d
  unfold wX11_wed_9 at h
  refine jLf.bk hc 2 [] [some (.ref l0), none, none, none] [.int (-1), .ref l0] S rfl rfl rfl trivial ?_
  obtain ⟨g5, h⟩ := h
  refine jLf.inv hc _ rfl (gs := [jA S l0 11, (([] : List Value).map fun v => v.category).sum ≤ 8, 0 ≤ 0, 0 ≤ 0]) (k := 137) (args := [.ref l0, .int (-1)]) (r := []) (a := 0) (b := 0) rfl ⟨g5, Nat.le_of_ble_eq_true rfl, Nat.zero_le _, Nat.zero_le _⟩ (vX11_refuse d (by omega) h) ?_
  rintro v S3 ⟨r4, rfl, h⟩
  show jLf (jCall jmt jbud d) jbud (fun j => (jmt j).rk) none mX11_wed (jqI Q) (12, [some (.ref l0), none, none, none], [.int r4], S3, 0, 0)
  exact jLf.ret hc _ rfl (gs := [True]) (v := some (.int r4)) rfl trivial ⟨r4, rfl, h⟩
def wX11_wed  (this : Nat) (p1 : Int32) (p2 : Int32) (p3 : Int32) (S : JS) (Q : Int32 → JS → Prop) : Prop :=
  wX11_isNight p2 S (fun r2 S1 => (r2 = 0 → wX11_wed_9 this S1 Q) ∧ (¬ r2 = 0 → wX11_isNight p3 S1 (fun r7 S6 => (r7 = 0 → wX11_wed_9 this S6 Q) ∧ (¬ r7 = 0 → (p2 ≤ p3 → jA S6 this 11 ∧ (¬ jR S6 this 0 = none ∧ (jA S6 (jr S6 this 0) 9 ∧ (wX9_hasRock (jr S6 this 0) p1 S6 (fun r11 S10 => (¬ r11 = 0 → jA S10 this 11 ∧ (¬ jR S10 this 0 = none ∧ (jA S10 (jr S10 this 0) 9 ∧ (¬ jR S10 (jr S10 this 0) 4 = none ∧ (jA S10 (jr S10 (jr S10 this 0) 4) 8 ∧ (wX8_isFull (jr S10 (jr S10 this 0) 4) S10 (fun r18 S17 => (r18 = 0 → jA S17 this 11 ∧ (¬ jR S17 this 0 = none ∧ (jA S17 (jr S17 this 0) 9 ∧ (¬ jR S17 (jr S17 this 0) 4 = none ∧ (jA S17 (jr S17 (jr S17 this 0) 4) 8 ∧ (wX8_put (jr S17 (jr S17 this 0) 4) p1 p2 p3 S17 (fun S24 => jA S24 this 11 ∧ (¬ jR S24 this 3 = none ∧ (jA S24 (jr S24 this 3) 1 ∧ (wX1_forget (jr S24 this 3) p2 p3 S24 (fun S29 => jA S29 this 11 ∧ (¬ jR S29 this 0 = none ∧ (jA S29 (jr S29 this 0) 9 ∧ (¬ jR S29 (jr S29 this 0) 4 = none ∧ (jA S29 (jr S29 (jr S29 this 0) 4) 8 ∧ (wX11_accept this ((jI S29 (jr S29 (jr S29 this 0) 4) 3) - (1 : Int32)) S29 (fun r38 S37 => Q r38 S37))))))))))))))))) ∧ (¬ r18 = 0 → jA S17 this 11 ∧ (wX11_refuse this (-5) S17 (fun r40 S39 => Q r40 S39)))))))))) ∧ (r11 = 0 → jA S10 this 11 ∧ (wX11_refuse this (-2) S10 (fun r43 S42 => Q r43 S42)))))))) ∧ (¬ (p2 ≤ p3) → wX11_wed_9 this S6 Q)))))
set_option maxRecDepth 20000 in
theorem vX11_wed {Q : Int32 → JS → Prop} (d : Nat) (hd : 3 ≤ d) {this : Nat} {p1 : Int32} {p2 : Int32} {p3 : Int32} {S : JS} (h : wX11_wed this p1 p2 p3 S Q) : jCall jmt jbud d 103 [.ref this, .int p1, .int p2, .int p3] S (jqI Q) := by
  obtain ⟨d, rfl⟩ : ∃ d2, d = d2 + 1 := ⟨d - 1, by omega⟩
  have hd : 2 ≤ d := by omega
  have hc := jCall_mono jmt jbud d
  unfold wX11_wed at h
  refine ⟨Nat.le_of_ble_eq_true rfl, ?_⟩
  show jLf (jCall jmt jbud d) jbud (fun j => (jmt j).rk) none mX11_wed (jqI Q) (0, [some (.ref this), some (.int p1), some (.int p2), some (.int p3)], [], S, 0, 0)
  refine jLf.bk hc 1 [] [some (.ref this), some (.int p1), some (.int p2), some (.int p3)] [.int p2] S rfl rfl rfl trivial ?_
  refine jLf.inv hc _ rfl (gs := [1 ≤ ([.int p2] : List Value).length, (([] : List Value).map fun v => v.category).sum ≤ 8, 0 ≤ 0, 0 ≤ 0]) (k := 143) (args := [.int p2]) (r := []) (a := 0) (b := 0) rfl ⟨Nat.le_of_ble_eq_true rfl, Nat.le_of_ble_eq_true rfl, Nat.zero_le _, Nat.zero_le _⟩ (vX11_isNight d (by omega) h) ?_
  rintro v S1 ⟨r2, rfl, h⟩
  show jLf (jCall jmt jbud d) jbud (fun j => (jmt j).rk) none mX11_wed (jqI Q) (2, [some (.ref this), some (.int p1), some (.int p2), some (.int p3)], [.int r2], S1, 0, 0)
  refine jLf.two hc _ rfl (gs := []) (p1 := r2 = 0) (p2 := ¬ (r2 = 0)) (c1 := (9, [some (.ref this), some (.int p1), some (.int p2), some (.int p3)], [], S1, 0, 0)) (c2 := (3, [some (.ref this), some (.int p1), some (.int p2), some (.int p3)], [], S1, 0, 0)) rfl trivial (fun hz => ?_) (fun hz => ?_)
  · have h := h.1 hz
    refine jLf.sub [some (.ref this), none, none, none] (jle_same (jle_none (jle_none (jle_none (jle_nil _))))) ?_
    exact tX11_wed_9 d hd  h
  · have h := h.2 hz
    refine jLf.bk hc 1 [] [some (.ref this), some (.int p1), some (.int p2), some (.int p3)] [.int p3] S1 rfl rfl rfl trivial ?_
    refine jLf.inv hc _ rfl (gs := [1 ≤ ([.int p3] : List Value).length, (([] : List Value).map fun v => v.category).sum ≤ 8, 0 ≤ 0, 0 ≤ 0]) (k := 143) (args := [.int p3]) (r := []) (a := 0) (b := 0) rfl ⟨Nat.le_of_ble_eq_true rfl, Nat.le_of_ble_eq_true rfl, Nat.zero_le _, Nat.zero_le _⟩ (vX11_isNight d (by omega) h) ?_
    rintro v S6 ⟨r7, rfl, h⟩
    show jLf (jCall jmt jbud d) jbud (fun j => (jmt j).rk) none mX11_wed (jqI Q) (5, [some (.ref this), some (.int p1), some (.int p2), some (.int p3)], [.int r7], S6, 0, 0)
    refine jLf.two hc _ rfl (gs := []) (p1 := r7 = 0) (p2 := ¬ (r7 = 0)) (c1 := (9, [some (.ref this), some (.int p1), some (.int p2), some (.int p3)], [], S6, 0, 0)) (c2 := (6, [some (.ref this), some (.int p1), some (.int p2), some (.int p3)], [], S6, 0, 0)) rfl trivial (fun hz => ?_) (fun hz => ?_)
    · have h := h.1 hz
      refine jLf.sub [some (.ref this), none, none, none] (jle_same (jle_none (jle_none (jle_none (jle_nil _))))) ?_
      exact tX11_wed_9 d hd  h
    · have h := h.2 hz
      refine jLf.bk hc 2 [] [some (.ref this), some (.int p1), some (.int p2), some (.int p3)] [.int p2, .int p3] S6 rfl rfl rfl trivial ?_
      refine jLf.two hc _ rfl (gs := []) (p1 := p2 ≤ p3) (p2 := ¬ (p2 ≤ p3)) (c1 := (13, [some (.ref this), some (.int p1), some (.int p2), some (.int p3)], [], S6, 0, 0)) (c2 := (9, [some (.ref this), some (.int p1), some (.int p2), some (.int p3)], [], S6, 0, 0)) rfl trivial (fun hz => ?_) (fun hz => ?_)
      · have h := h.1 hz
        obtain ⟨g8, g9, h⟩ := h
        refine jLf.bk hc 3 [jA S6 this 11, ¬ jR S6 this 0 = none] [some (.ref this), some (.int p1), some (.int p2), some (.int p3)] [.int p1, .ref (jr S6 this 0)] S6 rfl rfl rfl ⟨g8, g9⟩ ?_
        obtain ⟨g12, h⟩ := h
        refine jLf.inv hc _ rfl (gs := [jA S6 (jr S6 this 0) 9, (([] : List Value).map fun v => v.category).sum ≤ 8, 0 ≤ 0, 0 ≤ 0]) (k := 87) (args := [.ref (jr S6 this 0), .int p1]) (r := []) (a := 0) (b := 0) rfl ⟨g12, Nat.le_of_ble_eq_true rfl, Nat.zero_le _, Nat.zero_le _⟩ (vX9_hasRock d (by omega) h) ?_
        rintro v S10 ⟨r11, rfl, h⟩
        show jLf (jCall jmt jbud d) jbud (fun j => (jmt j).rk) none mX11_wed (jqI Q) (17, [some (.ref this), some (.int p1), some (.int p2), some (.int p3)], [.int r11], S10, 0, 0)
        refine jLf.two hc _ rfl (gs := []) (p1 := ¬ r11 = 0) (p2 := ¬ (¬ r11 = 0)) (c1 := (22, [some (.ref this), some (.int p1), some (.int p2), some (.int p3)], [], S10, 0, 0)) (c2 := (18, [some (.ref this), some (.int p1), some (.int p2), some (.int p3)], [], S10, 0, 0)) rfl trivial (fun hz => ?_) (fun hz => ?_)
        · have h := h.1 hz
          obtain ⟨g13, g14, g15, g16, h⟩ := h
          refine jLf.bk hc 3 [jA S10 this 11, ¬ jR S10 this 0 = none, jA S10 (jr S10 this 0) 9, ¬ jR S10 (jr S10 this 0) 4 = none] [some (.ref this), some (.int p1), some (.int p2), some (.int p3)] [.ref (jr S10 (jr S10 this 0) 4)] S10 rfl rfl rfl ⟨g13, g14, g15, g16⟩ ?_
          obtain ⟨g19, h⟩ := h
          refine jLf.inv hc _ rfl (gs := [jA S10 (jr S10 (jr S10 this 0) 4) 8, (([] : List Value).map fun v => v.category).sum ≤ 8, 0 ≤ 0, 0 ≤ 0]) (k := 81) (args := [.ref (jr S10 (jr S10 this 0) 4)]) (r := []) (a := 0) (b := 0) rfl ⟨g19, Nat.le_of_ble_eq_true rfl, Nat.zero_le _, Nat.zero_le _⟩ (vX8_isFull d (by omega) h) ?_
          rintro v S17 ⟨r18, rfl, h⟩
          show jLf (jCall jmt jbud d) jbud (fun j => (jmt j).rk) none mX11_wed (jqI Q) (26, [some (.ref this), some (.int p1), some (.int p2), some (.int p3)], [.int r18], S17, 0, 0)
          refine jLf.two hc _ rfl (gs := []) (p1 := r18 = 0) (p2 := ¬ (r18 = 0)) (c1 := (31, [some (.ref this), some (.int p1), some (.int p2), some (.int p3)], [], S17, 0, 0)) (c2 := (27, [some (.ref this), some (.int p1), some (.int p2), some (.int p3)], [], S17, 0, 0)) rfl trivial (fun hz => ?_) (fun hz => ?_)
          · have h := h.1 hz
            obtain ⟨g20, g21, g22, g23, h⟩ := h
            refine jLf.bk hc 6 [jA S17 this 11, ¬ jR S17 this 0 = none, jA S17 (jr S17 this 0) 9, ¬ jR S17 (jr S17 this 0) 4 = none] [some (.ref this), some (.int p1), some (.int p2), some (.int p3)] [.int p3, .int p2, .int p1, .ref (jr S17 (jr S17 this 0) 4)] S17 rfl rfl rfl ⟨g20, g21, g22, g23⟩ ?_
            obtain ⟨g26, h⟩ := h
            refine jLf.inv hc _ rfl (gs := [jA S17 (jr S17 (jr S17 this 0) 4) 8, (([] : List Value).map fun v => v.category).sum ≤ 8, 0 ≤ 0, 0 ≤ 0]) (k := 83) (args := [.ref (jr S17 (jr S17 this 0) 4), .int p1, .int p2, .int p3]) (r := []) (a := 0) (b := 0) rfl ⟨g26, Nat.le_of_ble_eq_true rfl, Nat.zero_le _, Nat.zero_le _⟩ (vX8_put d (by omega) h) ?_
            rintro v S24 ⟨rfl, h⟩
            show jLf (jCall jmt jbud d) jbud (fun j => (jmt j).rk) none mX11_wed (jqI Q) (38, [some (.ref this), some (.int p1), some (.int p2), some (.int p3)], [], S24, 0, 0)
            obtain ⟨g27, g28, h⟩ := h
            refine jLf.bk hc 4 [jA S24 this 11, ¬ jR S24 this 3 = none] [some (.ref this), some (.int p1), some (.int p2), some (.int p3)] [.int p3, .int p2, .ref (jr S24 this 3)] S24 rfl rfl rfl ⟨g27, g28⟩ ?_
            obtain ⟨g31, h⟩ := h
            refine jLf.inv hc _ rfl (gs := [jA S24 (jr S24 this 3) 1, (([] : List Value).map fun v => v.category).sum ≤ 8, 0 ≤ 0, 0 ≤ 0]) (k := 9) (args := [.ref (jr S24 this 3), .int p2, .int p3]) (r := []) (a := 0) (b := 0) rfl ⟨g31, Nat.le_of_ble_eq_true rfl, Nat.zero_le _, Nat.zero_le _⟩ (vX1_forget d (by omega) h) ?_
            rintro v S29 ⟨rfl, h⟩
            show jLf (jCall jmt jbud d) jbud (fun j => (jmt j).rk) none mX11_wed (jqI Q) (43, [some (.ref this), some (.int p1), some (.int p2), some (.int p3)], [], S29, 0, 0)
            obtain ⟨g32, g33, g34, g35, g36, h⟩ := h
            refine jLf.bk hc 7 [jA S29 this 11, ¬ jR S29 this 0 = none, jA S29 (jr S29 this 0) 9, ¬ jR S29 (jr S29 this 0) 4 = none, jA S29 (jr S29 (jr S29 this 0) 4) 8] [some (.ref this), some (.int p1), some (.int p2), some (.int p3)] [.int ((jI S29 (jr S29 (jr S29 this 0) 4) 3) - (1 : Int32)), .ref this] S29 rfl rfl rfl ⟨g32, g33, g34, g35, g36⟩ ?_
            refine jLf.inv hc _ rfl (gs := [jA S29 this 11, (([] : List Value).map fun v => v.category).sum ≤ 8, 0 ≤ 0, 0 ≤ 0]) (k := 138) (args := [.ref this, .int ((jI S29 (jr S29 (jr S29 this 0) 4) 3) - (1 : Int32))]) (r := []) (a := 0) (b := 0) rfl ⟨g32, Nat.le_of_ble_eq_true rfl, Nat.zero_le _, Nat.zero_le _⟩ (vX11_accept d (by omega) h) ?_
            rintro v S37 ⟨r38, rfl, h⟩
            show jLf (jCall jmt jbud d) jbud (fun j => (jmt j).rk) none mX11_wed (jqI Q) (51, [some (.ref this), some (.int p1), some (.int p2), some (.int p3)], [.int r38], S37, 0, 0)
            exact jLf.ret hc _ rfl (gs := [True]) (v := some (.int r38)) rfl trivial ⟨r38, rfl, h⟩
          · have h := h.2 hz
            refine jLf.bk hc 2 [] [some (.ref this), some (.int p1), some (.int p2), some (.int p3)] [.int (-5), .ref this] S17 rfl rfl rfl trivial ?_
            obtain ⟨g41, h⟩ := h
            refine jLf.inv hc _ rfl (gs := [jA S17 this 11, (([] : List Value).map fun v => v.category).sum ≤ 8, 0 ≤ 0, 0 ≤ 0]) (k := 137) (args := [.ref this, .int (-5)]) (r := []) (a := 0) (b := 0) rfl ⟨g41, Nat.le_of_ble_eq_true rfl, Nat.zero_le _, Nat.zero_le _⟩ (vX11_refuse d (by omega) h) ?_
            rintro v S39 ⟨r40, rfl, h⟩
            show jLf (jCall jmt jbud d) jbud (fun j => (jmt j).rk) none mX11_wed (jqI Q) (30, [some (.ref this), some (.int p1), some (.int p2), some (.int p3)], [.int r40], S39, 0, 0)
            exact jLf.ret hc _ rfl (gs := [True]) (v := some (.int r40)) rfl trivial ⟨r40, rfl, h⟩
        · have h := h.2 (Classical.not_not.mp hz)
          refine jLf.bk hc 2 [] [some (.ref this), some (.int p1), some (.int p2), some (.int p3)] [.int (-2), .ref this] S10 rfl rfl rfl trivial ?_
          obtain ⟨g44, h⟩ := h
          refine jLf.inv hc _ rfl (gs := [jA S10 this 11, (([] : List Value).map fun v => v.category).sum ≤ 8, 0 ≤ 0, 0 ≤ 0]) (k := 137) (args := [.ref this, .int (-2)]) (r := []) (a := 0) (b := 0) rfl ⟨g44, Nat.le_of_ble_eq_true rfl, Nat.zero_le _, Nat.zero_le _⟩ (vX11_refuse d (by omega) h) ?_
          rintro v S42 ⟨r43, rfl, h⟩
          show jLf (jCall jmt jbud d) jbud (fun j => (jmt j).rk) none mX11_wed (jqI Q) (21, [some (.ref this), some (.int p1), some (.int p2), some (.int p3)], [.int r43], S42, 0, 0)
          exact jLf.ret hc _ rfl (gs := [True]) (v := some (.int r43)) rfl trivial ⟨r43, rfl, h⟩
      · have h := h.2 hz
        refine jLf.sub [some (.ref this), none, none, none] (jle_same (jle_none (jle_none (jle_none (jle_nil _))))) ?_
        exact tX11_wed_9 d hd  h
