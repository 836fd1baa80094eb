/-! weakest preconditions, by program: X12_readPlain X12_behindSum X12_behindTest X12_readExpression X12_readClause X12_law X12_force X12_reckon X12_reckonAll X12_isSo X12_farBetween X12_tells X12_isWedding X12_isBoat X12_isTrip X12_goes X12_of -/
def wX12_readPlain  (this : Nat) (S : JS) (Q : Int32 → JS → Prop) : Prop :=
  jA S this 12 ∧ (wX12_isWord this 14836 S (fun r2 S1 => (r2 = 0 → jA S1 this 12 ∧ (wX12_isSign this 40 S1 (fun r5 S4 => (r5 = 0 → jA S4 this 12 ∧ (wX12_readPart this S4 (fun r8 S7 => Q r8 S7))) ∧ (¬ r5 = 0 → jA S4 this 12 ∧ (wX12_openBracket this 30 S4 (fun S10 => Q 0 S10)))))) ∧ (¬ r2 = 0 → jA S1 this 12 ∧ (wX12_push this 27 0 S1 (fun S13 => jA S13 this 12 ∧ (wX12_next this S13 (fun S16 => Q 0 S16)))))))
set_option maxRecDepth 20000 in
theorem vX12_readPlain {Q : Int32 → JS → Prop} (d : Nat) (hd : 6 ≤ d) {this : Nat} {S : JS} (h : wX12_readPlain this S Q) : jCall jmt jbud d 184 [.ref this] S (jqI Q) := by
  obtain ⟨d, rfl⟩ : ∃ d2, d = d2 + 1 := ⟨d - 1, by omega⟩
  have hd : 5 ≤ d := by omega
  have hc := jCall_mono jmt jbud d
  unfold wX12_readPlain at h
  refine ⟨Nat.le_of_ble_eq_true rfl, ?_⟩
  show jLf (jCall jmt jbud d) jbud (fun j => (jmt j).rk) none mX12_readPlain (jqI Q) (0, [some (.ref this)], [], S, 0, 0)
  refine jLf.bk hc 2 [] [some (.ref this)] [.long 14836, .ref this] S rfl rfl rfl trivial ?_
  obtain ⟨g3, h⟩ := h
  refine jLf.inv hc _ rfl (gs := [jA S this 12, (([] : List Value).map fun v => v.category).sum ≤ 8, 0 ≤ 0, 0 ≤ 0]) (k := 170) (args := [.ref this, .long 14836]) (r := []) (a := 0) (b := 0) rfl ⟨g3, Nat.le_of_ble_eq_true rfl, Nat.zero_le _, Nat.zero_le _⟩ (vX12_isWord d (by omega) h) ?_
  rintro v S1 ⟨r2, rfl, h⟩
  show jLf (jCall jmt jbud d) jbud (fun j => (jmt j).rk) none mX12_readPlain (jqI Q) (3, [some (.ref this)], [.int r2], S1, 0, 0)
  refine jLf.two hc _ rfl (gs := []) (p1 := r2 = 0) (p2 := ¬ (r2 = 0)) (c1 := (12, [some (.ref this)], [], S1, 0, 0)) (c2 := (4, [some (.ref this)], [], S1, 0, 0)) rfl trivial (fun hz => ?_) (fun hz => ?_)
  · have h := h.1 hz
    refine jLf.bk hc 2 [] [some (.ref this)] [.int 40, .ref this] S1 rfl rfl rfl trivial ?_
    obtain ⟨g6, h⟩ := h
    refine jLf.inv hc _ rfl (gs := [jA S1 this 12, (([] : List Value).map fun v => v.category).sum ≤ 8, 0 ≤ 0, 0 ≤ 0]) (k := 171) (args := [.ref this, .int 40]) (r := []) (a := 0) (b := 0) rfl ⟨g6, Nat.le_of_ble_eq_true rfl, Nat.zero_le _, Nat.zero_le _⟩ (vX12_isSign d (by omega) h) ?_
    rintro v S4 ⟨r5, rfl, h⟩
    show jLf (jCall jmt jbud d) jbud (fun j => (jmt j).rk) none mX12_readPlain (jqI Q) (15, [some (.ref this)], [.int r5], S4, 0, 0)
    refine jLf.two hc _ rfl (gs := []) (p1 := r5 = 0) (p2 := ¬ (r5 = 0)) (c1 := (21, [some (.ref this)], [], S4, 0, 0)) (c2 := (16, [some (.ref this)], [], S4, 0, 0)) rfl trivial (fun hz => ?_) (fun hz => ?_)
    · have h := h.1 hz
      refine jLf.bk hc 1 [] [some (.ref this)] [.ref this] S4 rfl rfl rfl trivial ?_
      obtain ⟨g9, h⟩ := h
      refine jLf.inv hc _ rfl (gs := [jA S4 this 12, (([] : List Value).map fun v => v.category).sum ≤ 8, 0 ≤ 0, 0 ≤ 0]) (k := 183) (args := [.ref this]) (r := []) (a := 0) (b := 0) rfl ⟨g9, Nat.le_of_ble_eq_true rfl, Nat.zero_le _, Nat.zero_le _⟩ (vX12_readPart d (by omega) h) ?_
      rintro v S7 ⟨r8, rfl, h⟩
      show jLf (jCall jmt jbud d) jbud (fun j => (jmt j).rk) none mX12_readPlain (jqI Q) (23, [some (.ref this)], [.int r8], S7, 0, 0)
      exact jLf.ret hc _ rfl (gs := [True]) (v := some (.int r8)) rfl trivial ⟨r8, rfl, h⟩
    · have h := h.2 hz
      refine jLf.bk hc 2 [] [some (.ref this)] [.int 30, .ref this] S4 rfl rfl rfl trivial ?_
      obtain ⟨g12, h⟩ := h
      refine jLf.inv hc _ rfl (gs := [jA S4 this 12, (([] : List Value).map fun v => v.category).sum ≤ 8, 0 ≤ 0, 0 ≤ 0]) (k := 181) (args := [.ref this, .int 30]) (r := []) (a := 0) (b := 0) rfl ⟨g12, Nat.le_of_ble_eq_true rfl, Nat.zero_le _, Nat.zero_le _⟩ (vX12_openBracket d (by omega) h) ?_
      rintro v S10 ⟨rfl, h⟩
      show jLf (jCall jmt jbud d) jbud (fun j => (jmt j).rk) none mX12_readPlain (jqI Q) (19, [some (.ref this)], [], S10, 0, 0)
      refine jLf.bk hc 1 [] [some (.ref this)] [.int 0] S10 rfl rfl rfl trivial ?_
      exact jLf.ret hc _ rfl (gs := [True]) (v := some (.int 0)) rfl trivial ⟨0, rfl, h⟩
  · have h := h.2 hz
    refine jLf.bk hc 3 [] [some (.ref this)] [.int 0, .int 27, .ref this] S1 rfl rfl rfl trivial ?_
    obtain ⟨g15, h⟩ := h
    refine jLf.inv hc _ rfl (gs := [jA S1 this 12, (([] : List Value).map fun v => v.category).sum ≤ 8, 0 ≤ 0, 0 ≤ 0]) (k := 175) (args := [.ref this, .int 27, .int 0]) (r := []) (a := 0) (b := 0) rfl ⟨g15, Nat.le_of_ble_eq_true rfl, Nat.zero_le _, Nat.zero_le _⟩ (vX12_push d (by omega) h) ?_
    rintro v S13 ⟨rfl, h⟩
    show jLf (jCall jmt jbud d) jbud (fun j => (jmt j).rk) none mX12_readPlain (jqI Q) (8, [some (.ref this)], [], S13, 0, 0)
    refine jLf.bk hc 1 [] [some (.ref this)] [.ref this] S13 rfl rfl rfl trivial ?_
    obtain ⟨g18, h⟩ := h
    refine jLf.inv hc _ rfl (gs := [jA S13 this 12, (([] : List Value).map fun v => v.category).sum ≤ 8, 0 ≤ 0, 0 ≤ 0]) (k := 169) (args := [.ref this]) (r := []) (a := 0) (b := 0) rfl ⟨g18, Nat.le_of_ble_eq_true rfl, Nat.zero_le _, Nat.zero_le _⟩ (vX12_next d (by omega) h) ?_
    rintro v S16 ⟨rfl, h⟩
    show jLf (jCall jmt jbud d) jbud (fun j => (jmt j).rk) none mX12_readPlain (jqI Q) (10, [some (.ref this)], [], S16, 0, 0)
    refine jLf.bk hc 1 [] [some (.ref this)] [.int 0] S16 rfl rfl rfl trivial ?_
    exact jLf.ret hc _ rfl (gs := [True]) (v := some (.int 0)) rfl trivial ⟨0, rfl, h⟩
def wX12_behindSum_109   (l0 : Nat) (l2 : Int32) (s0 : Int32) (s1 : Nat) (S : JS) (Q : Int32 → JS → Prop) : Prop :=
  jA S s1 12 ∧ (wX12_must s1 s0 S (fun S25 => jA S25 l0 12 ∧ ((¬ (jI S25 l0 14) = 0 → Q 1 S25) ∧ ((jI S25 l0 14) = 0 → wX12_settle l0 5 S25 (fun S29 => jA S29 l0 12 ∧ (wX12_push l0 l2 0 S29 (fun S31 => Q 1 S31)))))))
set_option maxRecDepth 20000 in
theorem tX12_behindSum_109 {Q : Int32 → JS → Prop}  (d : Nat) (hd : 3 ≤ d) {l0 : Nat} {l2 : Int32} {s0 : Int32} {s1 : Nat} {S : JS} (h : wX12_behindSum_109 l0 l2 s0 s1 S Q) : jLf (jCall jmt jbud d) jbud (fun j => (jmt j).rk) none mX12_behindSum (jqI Q) (109, [some (.ref l0), none, some (.int l2), none], [.int s0, .ref s1], S, 0, 0) := by
  have hc := jCall_mono jmt jbud d
  unfold wX12_behindSum_109 at h
  obtain ⟨g27, h⟩ := h
  refine jLf.inv hc _ rfl (gs := [jA S s1 12, (([] : List Value).map fun v => v.category).sum ≤ 8, 0 ≤ 0, 0 ≤ 0]) (k := 172) (args := [.ref s1, .int s0]) (r := []) (a := 0) (b := 0) rfl ⟨g27, Nat.le_of_ble_eq_true rfl, Nat.zero_le _, Nat.zero_le _⟩ (vX12_must d (by omega) h) ?_
  rintro v S25 ⟨rfl, h⟩
  show jLf (jCall jmt jbud d) jbud (fun j => (jmt j).rk) none mX12_behindSum (jqI Q) (110, [some (.ref l0), none, some (.int l2), none], [], S25, 0, 0)
  obtain ⟨g28, h⟩ := h
  refine jLf.bk hc 2 [jA S25 l0 12] [some (.ref l0), none, some (.int l2), none] [.int (jI S25 l0 14)] S25 rfl rfl rfl g28 ?_
  refine jLf.two hc _ rfl (gs := []) (p1 := ¬ (jI S25 l0 14) = 0) (p2 := ¬ (¬ (jI S25 l0 14) = 0)) (c1 := (120, [some (.ref l0), none, some (.int l2), none], [], S25, 0, 0)) (c2 := (113, [some (.ref l0), none, some (.int l2), none], [], S25, 0, 0)) rfl trivial (fun hz => ?_) (fun hz => ?_)
  · have h := h.1 hz
    refine jLf.bk hc 1 [] [some (.ref l0), none, some (.int l2), none] [.int 1] S25 rfl rfl rfl trivial ?_
    exact jLf.ret hc _ rfl (gs := [True]) (v := some (.int 1)) rfl trivial ⟨1, rfl, h⟩
  · have h := h.2 (Classical.not_not.mp hz)
    refine jLf.bk hc 2 [] [some (.ref l0), none, some (.int l2), none] [.int 5, .ref l0] S25 rfl rfl rfl trivial ?_
    refine jLf.inv hc _ rfl (gs := [jA S25 l0 12, (([] : List Value).map fun v => v.category).sum ≤ 8, 0 ≤ 0, 0 ≤ 0]) (k := 177) (args := [.ref l0, .int 5]) (r := []) (a := 0) (b := 0) rfl ⟨g28, Nat.le_of_ble_eq_true rfl, Nat.zero_le _, Nat.zero_le _⟩ (vX12_settle d (by omega) h) ?_
    rintro v S29 ⟨rfl, h⟩
    show jLf (jCall jmt jbud d) jbud (fun j => (jmt j).rk) none mX12_behindSum (jqI Q) (116, [some (.ref l0), none, some (.int l2), none], [], S29, 0, 0)
    refine jLf.bk hc 3 [] [some (.ref l0), none, some (.int l2), none] [.int 0, .int l2, .ref l0] S29 rfl rfl rfl trivial ?_
    obtain ⟨g33, h⟩ := h
    refine jLf.inv hc _ rfl (gs := [jA S29 l0 12, (([] : List Value).map fun v => v.category).sum ≤ 8, 0 ≤ 0, 0 ≤ 0]) (k := 175) (args := [.ref l0, .int l2, .int 0]) (r := []) (a := 0) (b := 0) rfl ⟨g33, Nat.le_of_ble_eq_true rfl, Nat.zero_le _, Nat.zero_le _⟩ (vX12_push d (by omega) h) ?_
    rintro v S31 ⟨rfl, h⟩
    show jLf (jCall jmt jbud d) jbud (fun j => (jmt j).rk) none mX12_behindSum (jqI Q) (120, [some (.ref l0), none, some (.int l2), none], [], S31, 0, 0)
    refine jLf.bk hc 1 [] [some (.ref l0), none, some (.int l2), none] [.int 1] S31 rfl rfl rfl trivial ?_
    exact jLf.ret hc _ rfl (gs := [True]) (v := some (.int 1)) rfl trivial ⟨1, rfl, h⟩
def wX12_behindSum_106   (l0 : Nat) (l2 : Int32) (s0 : Nat) (S : JS) (Q : Int32 → JS → Prop) : Prop :=
  wX12_behindSum_109 l0 l2 1 s0 S Q
set_option maxRecDepth 20000 in
theorem tX12_behindSum_106 {Q : Int32 → JS → Prop}  (d : Nat) (hd : 3 ≤ d) {l0 : Nat} {l2 : Int32} {s0 : Nat} {S : JS} (h : wX12_behindSum_106 l0 l2 s0 S Q) : jLf (jCall jmt jbud d) jbud (fun j => (jmt j).rk) none mX12_behindSum (jqI Q) (106, [some (.ref l0), none, some (.int l2), none], [.ref s0], S, 0, 0) := by
  have hc := jCall_mono jmt jbud d
  unfold wX12_behindSum_106 at h
  refine jLf.bk hc 1 [] [some (.ref l0), none, some (.int l2), none] [.int 1, .ref s0] S rfl rfl rfl trivial ?_
  refine jLf.one hc _ rfl (gs := []) (c := (109, [some (.ref l0), none, some (.int l2), none], [.int 1, .ref s0], S, 0, 0)) rfl trivial ?_
  exact tX12_behindSum_109 d hd  h
def wX12_behindSum_97   (l0 : Nat) (s0 : Int32) (S : JS) (Q : Int32 → JS → Prop) : Prop :=
  (¬ s0 = 26 → wX12_behindSum_106 l0 s0 l0 S Q) ∧ (s0 = 26 → jA S l0 12 ∧ (wX12_isSign l0 61 S (fun r35 S34 => (r35 = 0 → wX12_behindSum_109 l0 s0 0 l0 S34 Q) ∧ (¬ r35 = 0 → wX12_behindSum_106 l0 s0 l0 S34 Q))))
set_option maxRecDepth 20000 in
theorem tX12_behindSum_97 {Q : Int32 → JS → Prop}  (d : Nat) (hd : 3 ≤ d) {l0 : Nat} {s0 : Int32} {S : JS} (h : wX12_behindSum_97 l0 s0 S Q) : jLf (jCall jmt jbud d) jbud (fun j => (jmt j).rk) none mX12_behindSum (jqI Q) (97, [some (.ref l0), none, none, none], [.int s0], S, 0, 0) := by
  have hc := jCall_mono jmt jbud d
  unfold wX12_behindSum_97 at h
  refine jLf.bk hc 4 [] [some (.ref l0), none, some (.int s0), none] [.int 26, .int s0, .ref l0] S rfl rfl rfl trivial ?_
  refine jLf.two hc _ rfl (gs := []) (p1 := ¬ s0 = 26) (p2 := ¬ (¬ s0 = 26)) (c1 := (106, [some (.ref l0), none, some (.int s0), none], [.ref l0], S, 0, 0)) (c2 := (102, [some (.ref l0), none, some (.int s0), none], [.ref l0], S, 0, 0)) rfl trivial (fun hz => ?_) (fun hz => ?_)
  · have h := h.1 hz
    exact tX12_behindSum_106 d hd  h
  · have h := h.2 (Classical.not_not.mp hz)
    refine jLf.bk hc 2 [] [some (.ref l0), none, some (.int s0), none] [.int 61, .ref l0, .ref l0] S rfl rfl rfl trivial ?_
    obtain ⟨g36, h⟩ := h
    refine jLf.inv hc _ rfl (gs := [jA S l0 12, (([.ref l0] : List Value).map fun v => v.category).sum ≤ 8, 0 ≤ 0, 0 ≤ 0]) (k := 171) (args := [.ref l0, .int 61]) (r := [.ref l0]) (a := 0) (b := 0) rfl ⟨g36, Nat.le_of_ble_eq_true rfl, Nat.zero_le _, Nat.zero_le _⟩ (vX12_isSign d (by omega) h) ?_
    rintro v S34 ⟨r35, rfl, h⟩
    show jLf (jCall jmt jbud d) jbud (fun j => (jmt j).rk) none mX12_behindSum (jqI Q) (105, [some (.ref l0), none, some (.int s0), none], [.int r35, .ref l0], S34, 0, 0)
    refine jLf.two hc _ rfl (gs := []) (p1 := r35 = 0) (p2 := ¬ (r35 = 0)) (c1 := (108, [some (.ref l0), none, some (.int s0), none], [.ref l0], S34, 0, 0)) (c2 := (106, [some (.ref l0), none, some (.int s0), none], [.ref l0], S34, 0, 0)) rfl trivial (fun hz => ?_) (fun hz => ?_)
    · have h := h.1 hz
      refine jLf.bk hc 1 [] [some (.ref l0), none, some (.int s0), none] [.int 0, .ref l0] S34 rfl rfl rfl trivial ?_
      exact tX12_behindSum_109 d hd  h
    · have h := h.2 hz
      exact tX12_behindSum_106 d hd  h
def wX12_behindSum_79   (l0 : Nat) (S : JS) (Q : Int32 → JS → Prop) : Prop :=
  jA S l0 12 ∧ (wX12_isCompared l0 S (fun r17 S16 => (r17 = 0 → jA S16 l0 12 ∧ (wX12_isSign l0 60 S16 (fun r20 S19 => (r20 = 0 → jA S19 l0 12 ∧ (wX12_isSign l0 62 S19 (fun r23 S22 => (r23 = 0 → wX12_behindSum_97 l0 26 S22 Q) ∧ (¬ r23 = 0 → wX12_behindSum_97 l0 25 S22 Q)))) ∧ (¬ r20 = 0 → wX12_behindSum_97 l0 24 S19 Q)))) ∧ (¬ r17 = 0 → Q 2 S16)))
set_option maxRecDepth 20000 in
theorem tX12_behindSum_79 {Q : Int32 → JS → Prop}  (d : Nat) (hd : 3 ≤ d) {l0 : Nat} {S : JS} (h : wX12_behindSum_79 l0 S Q) : jLf (jCall jmt jbud d) jbud (fun j => (jmt j).rk) none mX12_behindSum (jqI Q) (79, [some (.ref l0), none, none, none], [], S, 0, 0) := by
  have hc := jCall_mono jmt jbud d
  unfold wX12_behindSum_79 at h
  refine jLf.bk hc 1 [] [some (.ref l0), none, none, none] [.ref l0] S rfl rfl rfl trivial ?_
  obtain ⟨g18, h⟩ := h
  refine jLf.inv hc _ rfl (gs := [jA S l0 12, (([] : List Value).map fun v => v.category).sum ≤ 8, 0 ≤ 0, 0 ≤ 0]) (k := 179) (args := [.ref l0]) (r := []) (a := 0) (b := 0) rfl ⟨g18, Nat.le_of_ble_eq_true rfl, Nat.zero_le _, Nat.zero_le _⟩ (vX12_isCompared d (by omega) h) ?_
  rintro v S16 ⟨r17, rfl, h⟩
  show jLf (jCall jmt jbud d) jbud (fun j => (jmt j).rk) none mX12_behindSum (jqI Q) (81, [some (.ref l0), none, none, none], [.int r17], S16, 0, 0)
  refine jLf.two hc _ rfl (gs := []) (p1 := r17 = 0) (p2 := ¬ (r17 = 0)) (c1 := (84, [some (.ref l0), none, none, none], [], S16, 0, 0)) (c2 := (82, [some (.ref l0), none, none, none], [], S16, 0, 0)) rfl trivial (fun hz => ?_) (fun hz => ?_)
  · have h := h.1 hz
    refine jLf.bk hc 2 [] [some (.ref l0), none, none, none] [.int 60, .ref l0] S16 rfl rfl rfl trivial ?_
    obtain ⟨g21, h⟩ := h
    refine jLf.inv hc _ rfl (gs := [jA S16 l0 12, (([] : List Value).map fun v => v.category).sum ≤ 8, 0 ≤ 0, 0 ≤ 0]) (k := 171) (args := [.ref l0, .int 60]) (r := []) (a := 0) (b := 0) rfl ⟨g21, Nat.le_of_ble_eq_true rfl, Nat.zero_le _, Nat.zero_le _⟩ (vX12_isSign d (by omega) h) ?_
    rintro v S19 ⟨r20, rfl, h⟩
    show jLf (jCall jmt jbud d) jbud (fun j => (jmt j).rk) none mX12_behindSum (jqI Q) (87, [some (.ref l0), none, none, none], [.int r20], S19, 0, 0)
    refine jLf.two hc _ rfl (gs := []) (p1 := r20 = 0) (p2 := ¬ (r20 = 0)) (c1 := (90, [some (.ref l0), none, none, none], [], S19, 0, 0)) (c2 := (88, [some (.ref l0), none, none, none], [], S19, 0, 0)) rfl trivial (fun hz => ?_) (fun hz => ?_)
    · have h := h.1 hz
      refine jLf.bk hc 2 [] [some (.ref l0), none, none, none] [.int 62, .ref l0] S19 rfl rfl rfl trivial ?_
      obtain ⟨g24, h⟩ := h
      refine jLf.inv hc _ rfl (gs := [jA S19 l0 12, (([] : List Value).map fun v => v.category).sum ≤ 8, 0 ≤ 0, 0 ≤ 0]) (k := 171) (args := [.ref l0, .int 62]) (r := []) (a := 0) (b := 0) rfl ⟨g24, Nat.le_of_ble_eq_true rfl, Nat.zero_le _, Nat.zero_le _⟩ (vX12_isSign d (by omega) h) ?_
      rintro v S22 ⟨r23, rfl, h⟩
      show jLf (jCall jmt jbud d) jbud (fun j => (jmt j).rk) none mX12_behindSum (jqI Q) (93, [some (.ref l0), none, none, none], [.int r23], S22, 0, 0)
      refine jLf.two hc _ rfl (gs := []) (p1 := r23 = 0) (p2 := ¬ (r23 = 0)) (c1 := (96, [some (.ref l0), none, none, none], [], S22, 0, 0)) (c2 := (94, [some (.ref l0), none, none, none], [], S22, 0, 0)) rfl trivial (fun hz => ?_) (fun hz => ?_)
      · have h := h.1 hz
        refine jLf.bk hc 1 [] [some (.ref l0), none, none, none] [.int 26] S22 rfl rfl rfl trivial ?_
        exact tX12_behindSum_97 d hd  h
      · have h := h.2 hz
        refine jLf.bk hc 1 [] [some (.ref l0), none, none, none] [.int 25] S22 rfl rfl rfl trivial ?_
        refine jLf.one hc _ rfl (gs := []) (c := (97, [some (.ref l0), none, none, none], [.int 25], S22, 0, 0)) rfl trivial ?_
        exact tX12_behindSum_97 d hd  h
    · have h := h.2 hz
      refine jLf.bk hc 1 [] [some (.ref l0), none, none, none] [.int 24] S19 rfl rfl rfl trivial ?_
      refine jLf.one hc _ rfl (gs := []) (c := (97, [some (.ref l0), none, none, none], [.int 24], S19, 0, 0)) rfl trivial ?_
      exact tX12_behindSum_97 d hd  h
  · have h := h.2 hz
    refine jLf.bk hc 1 [] [some (.ref l0), none, none, none] [.int 2] S16 rfl rfl rfl trivial ?_
    exact jLf.ret hc _ rfl (gs := [True]) (v := some (.int 2)) rfl trivial ⟨2, rfl, h⟩
def wX12_behindSum_25   (l0 : Nat) (l1 : Int32) (s0 : Int32) (S : JS) (Q : Int32 → JS → Prop) : Prop :=
  (s0 = (-1) → jA S l0 12 ∧ (wX12_inner l0 S (fun r14 S13 => (¬ r14 = 31 → (¬ r14 = (-1) → wX12_behindSum_79 l0 S13 Q) ∧ (r14 = (-1) → (¬ l1 = 0 → wX12_behindSum_79 l0 S13 Q) ∧ (l1 = 0 → Q 4 S13))) ∧ (r14 = 31 → jA S13 l0 12 ∧ (wX12_isSign l0 93 S13 (fun r38 S37 => jA S37 l0 12 ∧ (wX12_must l0 r38 S37 (fun S40 => jA S40 l0 12 ∧ ((¬ (jI S40 l0 14) = 0 → Q 3 S40) ∧ ((jI S40 l0 14) = 0 → wX12_settle l0 5 S40 (fun S44 => jA S44 l0 12 ∧ (∀ S47 : JS, S47 = uI S44 l0 23 ((jI S44 l0 23) - (1 : Int32)) → (jA S47 l0 12 ∧ (∀ S49 : JS, S49 = uI S47 l0 24 ((jI S47 l0 24) - (1 : Int32)) → (Q 3 S49))))))))))))))) ∧ (¬ s0 = (-1) → wX12_binds s0 S (fun r51 S50 => jA S50 l0 12 ∧ (wX12_settle l0 r51 S50 (fun S52 => jA S52 l0 12 ∧ (wX12_push l0 s0 0 S52 (fun S55 => jA S55 l0 12 ∧ (wX12_next l0 S55 (fun S58 => Q 1 S58))))))))
set_option maxRecDepth 20000 in
theorem tX12_behindSum_25 {Q : Int32 → JS → Prop}  (d : Nat) (hd : 3 ≤ d) {l0 : Nat} {l1 : Int32} {s0 : Int32} {S : JS} (h : wX12_behindSum_25 l0 l1 s0 S Q) : jLf (jCall jmt jbud d) jbud (fun j => (jmt j).rk) none mX12_behindSum (jqI Q) (25, [some (.ref l0), some (.int l1), none, none], [.int s0], S, 0, 0) := by
  have hc := jCall_mono jmt jbud d
  unfold wX12_behindSum_25 at h
  refine jLf.bk hc 3 [] [some (.ref l0), some (.int l1), some (.int s0), none] [.int (-1), .int s0] S rfl rfl rfl trivial ?_
  refine jLf.two hc _ rfl (gs := []) (p1 := s0 = (-1)) (p2 := ¬ (s0 = (-1))) (c1 := (41, [some (.ref l0), some (.int l1), some (.int s0), none], [], S, 0, 0)) (c2 := (29, [some (.ref l0), some (.int l1), some (.int s0), none], [], S, 0, 0)) rfl trivial (fun hz => ?_) (fun hz => ?_)
  · have h := h.1 hz
    refine jLf.bk hc 1 [] [some (.ref l0), some (.int l1), some (.int s0), none] [.ref l0] S rfl rfl rfl trivial ?_
    obtain ⟨g15, h⟩ := h
    refine jLf.inv hc _ rfl (gs := [jA S l0 12, (([] : List Value).map fun v => v.category).sum ≤ 8, 0 ≤ 0, 0 ≤ 0]) (k := 178) (args := [.ref l0]) (r := []) (a := 0) (b := 0) rfl ⟨g15, Nat.le_of_ble_eq_true rfl, Nat.zero_le _, Nat.zero_le _⟩ (vX12_inner d (by omega) h) ?_
    rintro v S13 ⟨r14, rfl, h⟩
    show jLf (jCall jmt jbud d) jbud (fun j => (jmt j).rk) none mX12_behindSum (jqI Q) (43, [some (.ref l0), some (.int l1), some (.int s0), none], [.int r14], S13, 0, 0)
    refine jLf.bk hc 3 [] [some (.ref l0), some (.int l1), some (.int s0), some (.int r14)] [.int 31, .int r14] S13 rfl rfl rfl trivial ?_
    refine jLf.two hc _ rfl (gs := []) (p1 := ¬ r14 = 31) (p2 := ¬ (¬ r14 = 31)) (c1 := (72, [some (.ref l0), some (.int l1), some (.int s0), some (.int r14)], [], S13, 0, 0)) (c2 := (47, [some (.ref l0), some (.int l1), some (.int s0), some (.int r14)], [], S13, 0, 0)) rfl trivial (fun hz => ?_) (fun hz => ?_)
    · have h := h.1 hz
      refine jLf.bk hc 2 [] [some (.ref l0), some (.int l1), some (.int s0), some (.int r14)] [.int (-1), .int r14] S13 rfl rfl rfl trivial ?_
      refine jLf.two hc _ rfl (gs := []) (p1 := ¬ r14 = (-1)) (p2 := ¬ (¬ r14 = (-1))) (c1 := (79, [some (.ref l0), some (.int l1), some (.int s0), some (.int r14)], [], S13, 0, 0)) (c2 := (75, [some (.ref l0), some (.int l1), some (.int s0), some (.int r14)], [], S13, 0, 0)) rfl trivial (fun hz => ?_) (fun hz => ?_)
      · have h := h.1 hz
        refine jLf.sub [some (.ref l0), none, none, none] (jle_same (jle_none (jle_none (jle_none (jle_nil _))))) ?_
        exact tX12_behindSum_79 d hd  h
      · have h := h.2 (Classical.not_not.mp hz)
        refine jLf.bk hc 1 [] [some (.ref l0), some (.int l1), some (.int s0), some (.int r14)] [.int l1] S13 rfl rfl rfl trivial ?_
        refine jLf.two hc _ rfl (gs := []) (p1 := ¬ l1 = 0) (p2 := ¬ (¬ l1 = 0)) (c1 := (79, [some (.ref l0), some (.int l1), some (.int s0), some (.int r14)], [], S13, 0, 0)) (c2 := (77, [some (.ref l0), some (.int l1), some (.int s0), some (.int r14)], [], S13, 0, 0)) rfl trivial (fun hz => ?_) (fun hz => ?_)
        · have h := h.1 hz
          refine jLf.sub [some (.ref l0), none, none, none] (jle_same (jle_none (jle_none (jle_none (jle_nil _))))) ?_
          exact tX12_behindSum_79 d hd  h
        · have h := h.2 (Classical.not_not.mp hz)
          refine jLf.bk hc 1 [] [some (.ref l0), some (.int l1), some (.int s0), some (.int r14)] [.int 4] S13 rfl rfl rfl trivial ?_
          exact jLf.ret hc _ rfl (gs := [True]) (v := some (.int 4)) rfl trivial ⟨4, rfl, h⟩
    · have h := h.2 (Classical.not_not.mp hz)
      refine jLf.bk hc 3 [] [some (.ref l0), some (.int l1), some (.int s0), some (.int r14)] [.int 93, .ref l0, .ref l0] S13 rfl rfl rfl trivial ?_
      obtain ⟨g39, h⟩ := h
      refine jLf.inv hc _ rfl (gs := [jA S13 l0 12, (([.ref l0] : List Value).map fun v => v.category).sum ≤ 8, 0 ≤ 0, 0 ≤ 0]) (k := 171) (args := [.ref l0, .int 93]) (r := [.ref l0]) (a := 0) (b := 0) rfl ⟨g39, Nat.le_of_ble_eq_true rfl, Nat.zero_le _, Nat.zero_le _⟩ (vX12_isSign d (by omega) h) ?_
      rintro v S37 ⟨r38, rfl, h⟩
      show jLf (jCall jmt jbud d) jbud (fun j => (jmt j).rk) none mX12_behindSum (jqI Q) (51, [some (.ref l0), some (.int l1), some (.int s0), some (.int r14)], [.int r38, .ref l0], S37, 0, 0)
      obtain ⟨g42, h⟩ := h
      refine jLf.inv hc _ rfl (gs := [jA S37 l0 12, (([] : List Value).map fun v => v.category).sum ≤ 8, 0 ≤ 0, 0 ≤ 0]) (k := 172) (args := [.ref l0, .int r38]) (r := []) (a := 0) (b := 0) rfl ⟨g42, Nat.le_of_ble_eq_true rfl, Nat.zero_le _, Nat.zero_le _⟩ (vX12_must d (by omega) h) ?_
      rintro v S40 ⟨rfl, h⟩
      show jLf (jCall jmt jbud d) jbud (fun j => (jmt j).rk) none mX12_behindSum (jqI Q) (52, [some (.ref l0), some (.int l1), some (.int s0), some (.int r14)], [], S40, 0, 0)
      obtain ⟨g43, h⟩ := h
      refine jLf.bk hc 2 [jA S40 l0 12] [some (.ref l0), some (.int l1), some (.int s0), some (.int r14)] [.int (jI S40 l0 14)] S40 rfl rfl rfl g43 ?_
      refine jLf.two hc _ rfl (gs := []) (p1 := ¬ (jI S40 l0 14) = 0) (p2 := ¬ (¬ (jI S40 l0 14) = 0)) (c1 := (70, [some (.ref l0), some (.int l1), some (.int s0), some (.int r14)], [], S40, 0, 0)) (c2 := (55, [some (.ref l0), some (.int l1), some (.int s0), some (.int r14)], [], S40, 0, 0)) rfl trivial (fun hz => ?_) (fun hz => ?_)
      · have h := h.1 hz
        refine jLf.bk hc 1 [] [some (.ref l0), some (.int l1), some (.int s0), some (.int r14)] [.int 3] S40 rfl rfl rfl trivial ?_
        exact jLf.ret hc _ rfl (gs := [True]) (v := some (.int 3)) rfl trivial ⟨3, rfl, h⟩
      · have h := h.2 (Classical.not_not.mp hz)
        refine jLf.bk hc 2 [] [some (.ref l0), some (.int l1), some (.int s0), some (.int r14)] [.int 5, .ref l0] S40 rfl rfl rfl trivial ?_
        refine jLf.inv hc _ rfl (gs := [jA S40 l0 12, (([] : List Value).map fun v => v.category).sum ≤ 8, 0 ≤ 0, 0 ≤ 0]) (k := 177) (args := [.ref l0, .int 5]) (r := []) (a := 0) (b := 0) rfl ⟨g43, Nat.le_of_ble_eq_true rfl, Nat.zero_le _, Nat.zero_le _⟩ (vX12_settle d (by omega) h) ?_
        rintro v S44 ⟨rfl, h⟩
        show jLf (jCall jmt jbud d) jbud (fun j => (jmt j).rk) none mX12_behindSum (jqI Q) (58, [some (.ref l0), some (.int l1), some (.int s0), some (.int r14)], [], S44, 0, 0)
        obtain ⟨g46, h⟩ := h
        refine jLf.bk hc 6 [(.ref l0 : Value).category = 1, jA S44 l0 12, jA S44 l0 12] [some (.ref l0), some (.int l1), some (.int s0), some (.int r14)] [] (uI S44 l0 23 ((jI S44 l0 23) - (1 : Int32))) rfl rfl rfl ⟨rfl, g46, g46⟩ ?_
        generalize eS47 : uI S44 l0 23 ((jI S44 l0 23) - (1 : Int32)) = S47
        have h := h S47 eS47.symm
        obtain ⟨g48, h⟩ := h
        refine jLf.bk hc 6 [(.ref l0 : Value).category = 1, jA S47 l0 12, jA S47 l0 12] [some (.ref l0), some (.int l1), some (.int s0), some (.int r14)] [] (uI S47 l0 24 ((jI S47 l0 24) - (1 : Int32))) rfl rfl rfl ⟨rfl, g48, g48⟩ ?_
        generalize eS49 : uI S47 l0 24 ((jI S47 l0 24) - (1 : Int32)) = S49
        have h := h S49 eS49.symm
        refine jLf.bk hc 1 [] [some (.ref l0), some (.int l1), some (.int s0), some (.int r14)] [.int 3] S49 rfl rfl rfl trivial ?_
        exact jLf.ret hc _ rfl (gs := [True]) (v := some (.int 3)) rfl trivial ⟨3, rfl, h⟩
  · have h := h.2 hz
    refine jLf.bk hc 2 [] [some (.ref l0), some (.int l1), some (.int s0), none] [.int s0, .ref l0] S rfl rfl rfl trivial ?_
    refine jLf.inv hc _ rfl (gs := [1 ≤ ([.int s0, .ref l0] : List Value).length, (([.ref l0] : List Value).map fun v => v.category).sum ≤ 8, 0 ≤ 0, 0 ≤ 0]) (k := 176) (args := [.int s0]) (r := [.ref l0]) (a := 0) (b := 0) rfl ⟨Nat.le_of_ble_eq_true rfl, Nat.le_of_ble_eq_true rfl, Nat.zero_le _, Nat.zero_le _⟩ (vX12_binds d (by omega) h) ?_
    rintro v S50 ⟨r51, rfl, h⟩
    show jLf (jCall jmt jbud d) jbud (fun j => (jmt j).rk) none mX12_behindSum (jqI Q) (32, [some (.ref l0), some (.int l1), some (.int s0), none], [.int r51, .ref l0], S50, 0, 0)
    obtain ⟨g54, h⟩ := h
    refine jLf.inv hc _ rfl (gs := [jA S50 l0 12, (([] : List Value).map fun v => v.category).sum ≤ 8, 0 ≤ 0, 0 ≤ 0]) (k := 177) (args := [.ref l0, .int r51]) (r := []) (a := 0) (b := 0) rfl ⟨g54, Nat.le_of_ble_eq_true rfl, Nat.zero_le _, Nat.zero_le _⟩ (vX12_settle d (by omega) h) ?_
    rintro v S52 ⟨rfl, h⟩
    show jLf (jCall jmt jbud d) jbud (fun j => (jmt j).rk) none mX12_behindSum (jqI Q) (33, [some (.ref l0), some (.int l1), some (.int s0), none], [], S52, 0, 0)
    refine jLf.bk hc 3 [] [some (.ref l0), some (.int l1), some (.int s0), none] [.int 0, .int s0, .ref l0] S52 rfl rfl rfl trivial ?_
    obtain ⟨g57, h⟩ := h
    refine jLf.inv hc _ rfl (gs := [jA S52 l0 12, (([] : List Value).map fun v => v.category).sum ≤ 8, 0 ≤ 0, 0 ≤ 0]) (k := 175) (args := [.ref l0, .int s0, .int 0]) (r := []) (a := 0) (b := 0) rfl ⟨g57, Nat.le_of_ble_eq_true rfl, Nat.zero_le _, Nat.zero_le _⟩ (vX12_push d (by omega) h) ?_
    rintro v S55 ⟨rfl, h⟩
    show jLf (jCall jmt jbud d) jbud (fun j => (jmt j).rk) none mX12_behindSum (jqI Q) (37, [some (.ref l0), some (.int l1), some (.int s0), none], [], S55, 0, 0)
    refine jLf.bk hc 1 [] [some (.ref l0), some (.int l1), some (.int s0), none] [.ref l0] S55 rfl rfl rfl trivial ?_
    obtain ⟨g60, h⟩ := h
    refine jLf.inv hc _ rfl (gs := [jA S55 l0 12, (([] : List Value).map fun v => v.category).sum ≤ 8, 0 ≤ 0, 0 ≤ 0]) (k := 169) (args := [.ref l0]) (r := []) (a := 0) (b := 0) rfl ⟨g60, Nat.le_of_ble_eq_true rfl, Nat.zero_le _, Nat.zero_le _⟩ (vX12_next d (by omega) h) ?_
    rintro v S58 ⟨rfl, h⟩
    show jLf (jCall jmt jbud d) jbud (fun j => (jmt j).rk) none mX12_behindSum (jqI Q) (39, [some (.ref l0), some (.int l1), some (.int s0), none], [], S58, 0, 0)
    refine jLf.bk hc 1 [] [some (.ref l0), some (.int l1), some (.int s0), none] [.int 1] S58 rfl rfl rfl trivial ?_
    exact jLf.ret hc _ rfl (gs := [True]) (v := some (.int 1)) rfl trivial ⟨1, rfl, h⟩
def wX12_behindSum  (this : Nat) (p1 : Int32) (S : JS) (Q : Int32 → JS → Prop) : Prop :=
  jA S this 12 ∧ (wX12_isSign this 43 S (fun r2 S1 => (r2 = 0 → jA S1 this 12 ∧ (wX12_isSign this 45 S1 (fun r5 S4 => (r5 = 0 → jA S4 this 12 ∧ (wX12_isSign this 42 S4 (fun r8 S7 => (r8 = 0 → jA S7 this 12 ∧ (wX12_isSign this 47 S7 (fun r11 S10 => (r11 = 0 → wX12_behindSum_25 this p1 (-1) S10 Q) ∧ (¬ r11 = 0 → wX12_behindSum_25 this p1 23 S10 Q)))) ∧ (¬ r8 = 0 → wX12_behindSum_25 this p1 22 S7 Q)))) ∧ (¬ r5 = 0 → wX12_behindSum_25 this p1 21 S4 Q)))) ∧ (¬ r2 = 0 → wX12_behindSum_25 this p1 20 S1 Q)))
set_option maxRecDepth 20000 in
theorem vX12_behindSum {Q : Int32 → JS → Prop} (d : Nat) (hd : 4 ≤ d) {this : Nat} {p1 : Int32} {S : JS} (h : wX12_behindSum this p1 S Q) : jCall jmt jbud d 185 [.ref this, .int p1] S (jqI Q) := by
  obtain ⟨d, rfl⟩ : ∃ d2, d = d2 + 1 := ⟨d - 1, by omega⟩
  have hd : 3 ≤ d := by omega
  have hc := jCall_mono jmt jbud d
  unfold wX12_behindSum at h
  refine ⟨Nat.le_of_ble_eq_true rfl, ?_⟩
  show jLf (jCall jmt jbud d) jbud (fun j => (jmt j).rk) none mX12_behindSum (jqI Q) (0, [some (.ref this), some (.int p1), none, none], [], S, 0, 0)
  refine jLf.bk hc 2 [] [some (.ref this), some (.int p1), none, none] [.int 43, .ref this] S rfl rfl rfl trivial ?_
  obtain ⟨g3, h⟩ := h
  refine jLf.inv hc _ rfl (gs := [jA S this 12, (([] : List Value).map fun v => v.category).sum ≤ 8, 0 ≤ 0, 0 ≤ 0]) (k := 171) (args := [.ref this, .int 43]) (r := []) (a := 0) (b := 0) rfl ⟨g3, Nat.le_of_ble_eq_true rfl, Nat.zero_le _, Nat.zero_le _⟩ (vX12_isSign d (by omega) h) ?_
  rintro v S1 ⟨r2, rfl, h⟩
  show jLf (jCall jmt jbud d) jbud (fun j => (jmt j).rk) none mX12_behindSum (jqI Q) (3, [some (.ref this), some (.int p1), none, none], [.int r2], S1, 0, 0)
  refine jLf.two hc _ rfl (gs := []) (p1 := r2 = 0) (p2 := ¬ (r2 = 0)) (c1 := (6, [some (.ref this), some (.int p1), none, none], [], S1, 0, 0)) (c2 := (4, [some (.ref this), some (.int p1), none, none], [], S1, 0, 0)) rfl trivial (fun hz => ?_) (fun hz => ?_)
  · have h := h.1 hz
    refine jLf.bk hc 2 [] [some (.ref this), some (.int p1), none, none] [.int 45, .ref this] S1 rfl rfl rfl trivial ?_
    obtain ⟨g6, h⟩ := h
    refine jLf.inv hc _ rfl (gs := [jA S1 this 12, (([] : List Value).map fun v => v.category).sum ≤ 8, 0 ≤ 0, 0 ≤ 0]) (k := 171) (args := [.ref this, .int 45]) (r := []) (a := 0) (b := 0) rfl ⟨g6, Nat.le_of_ble_eq_true rfl, Nat.zero_le _, Nat.zero_le _⟩ (vX12_isSign d (by omega) h) ?_
    rintro v S4 ⟨r5, rfl, h⟩
    show jLf (jCall jmt jbud d) jbud (fun j => (jmt j).rk) none mX12_behindSum (jqI Q) (9, [some (.ref this), some (.int p1), none, none], [.int r5], S4, 0, 0)
    refine jLf.two hc _ rfl (gs := []) (p1 := r5 = 0) (p2 := ¬ (r5 = 0)) (c1 := (12, [some (.ref this), some (.int p1), none, none], [], S4, 0, 0)) (c2 := (10, [some (.ref this), some (.int p1), none, none], [], S4, 0, 0)) rfl trivial (fun hz => ?_) (fun hz => ?_)
    · have h := h.1 hz
      refine jLf.bk hc 2 [] [some (.ref this), some (.int p1), none, none] [.int 42, .ref this] S4 rfl rfl rfl trivial ?_
      obtain ⟨g9, h⟩ := h
      refine jLf.inv hc _ rfl (gs := [jA S4 this 12, (([] : List Value).map fun v => v.category).sum ≤ 8, 0 ≤ 0, 0 ≤ 0]) (k := 171) (args := [.ref this, .int 42]) (r := []) (a := 0) (b := 0) rfl ⟨g9, Nat.le_of_ble_eq_true rfl, Nat.zero_le _, Nat.zero_le _⟩ (vX12_isSign d (by omega) h) ?_
      rintro v S7 ⟨r8, rfl, h⟩
      show jLf (jCall jmt jbud d) jbud (fun j => (jmt j).rk) none mX12_behindSum (jqI Q) (15, [some (.ref this), some (.int p1), none, none], [.int r8], S7, 0, 0)
      refine jLf.two hc _ rfl (gs := []) (p1 := r8 = 0) (p2 := ¬ (r8 = 0)) (c1 := (18, [some (.ref this), some (.int p1), none, none], [], S7, 0, 0)) (c2 := (16, [some (.ref this), some (.int p1), none, none], [], S7, 0, 0)) rfl trivial (fun hz => ?_) (fun hz => ?_)
      · have h := h.1 hz
        refine jLf.bk hc 2 [] [some (.ref this), some (.int p1), none, none] [.int 47, .ref this] S7 rfl rfl rfl trivial ?_
        obtain ⟨g12, h⟩ := h
        refine jLf.inv hc _ rfl (gs := [jA S7 this 12, (([] : List Value).map fun v => v.category).sum ≤ 8, 0 ≤ 0, 0 ≤ 0]) (k := 171) (args := [.ref this, .int 47]) (r := []) (a := 0) (b := 0) rfl ⟨g12, Nat.le_of_ble_eq_true rfl, Nat.zero_le _, Nat.zero_le _⟩ (vX12_isSign d (by omega) h) ?_
        rintro v S10 ⟨r11, rfl, h⟩
        show jLf (jCall jmt jbud d) jbud (fun j => (jmt j).rk) none mX12_behindSum (jqI Q) (21, [some (.ref this), some (.int p1), none, none], [.int r11], S10, 0, 0)
        refine jLf.two hc _ rfl (gs := []) (p1 := r11 = 0) (p2 := ¬ (r11 = 0)) (c1 := (24, [some (.ref this), some (.int p1), none, none], [], S10, 0, 0)) (c2 := (22, [some (.ref this), some (.int p1), none, none], [], S10, 0, 0)) rfl trivial (fun hz => ?_) (fun hz => ?_)
        · have h := h.1 hz
          refine jLf.bk hc 1 [] [some (.ref this), some (.int p1), none, none] [.int (-1)] S10 rfl rfl rfl trivial ?_
          exact tX12_behindSum_25 d hd  h
        · have h := h.2 hz
          refine jLf.bk hc 1 [] [some (.ref this), some (.int p1), none, none] [.int 23] S10 rfl rfl rfl trivial ?_
          refine jLf.one hc _ rfl (gs := []) (c := (25, [some (.ref this), some (.int p1), none, none], [.int 23], S10, 0, 0)) rfl trivial ?_
          exact tX12_behindSum_25 d hd  h
      · have h := h.2 hz
        refine jLf.bk hc 1 [] [some (.ref this), some (.int p1), none, none] [.int 22] S7 rfl rfl rfl trivial ?_
        refine jLf.one hc _ rfl (gs := []) (c := (25, [some (.ref this), some (.int p1), none, none], [.int 22], S7, 0, 0)) rfl trivial ?_
        exact tX12_behindSum_25 d hd  h
    · have h := h.2 hz
      refine jLf.bk hc 1 [] [some (.ref this), some (.int p1), none, none] [.int 21] S4 rfl rfl rfl trivial ?_
      refine jLf.one hc _ rfl (gs := []) (c := (25, [some (.ref this), some (.int p1), none, none], [.int 21], S4, 0, 0)) rfl trivial ?_
      exact tX12_behindSum_25 d hd  h
  · have h := h.2 hz
    refine jLf.bk hc 1 [] [some (.ref this), some (.int p1), none, none] [.int 20] S1 rfl rfl rfl trivial ?_
    refine jLf.one hc _ rfl (gs := []) (c := (25, [some (.ref this), some (.int p1), none, none], [.int 20], S1, 0, 0)) rfl trivial ?_
    exact tX12_behindSum_25 d hd  h
def wX12_behindTest_32   (l0 : Nat) (s0 : Int32) (s1 : Nat) (S : JS) (Q : Int32 → JS → Prop) : Prop :=
  jA S s1 12 ∧ (wX12_emit s1 s0 0 S (fun S11 => jA S11 l0 12 ∧ (wX12_next l0 S11 (fun S14 => Q 0 S14))))
set_option maxRecDepth 20000 in
theorem tX12_behindTest_32 {Q : Int32 → JS → Prop}  (d : Nat) (hd : 3 ≤ d) {l0 : Nat} {s0 : Int32} {s1 : Nat} {S : JS} (h : wX12_behindTest_32 l0 s0 s1 S Q) : jLf (jCall jmt jbud d) jbud (fun j => (jmt j).rk) none mX12_behindTest (jqI Q) (32, [some (.ref l0), none], [.int s0, .ref s1], S, 0, 0) := by
  have hc := jCall_mono jmt jbud d
  unfold wX12_behindTest_32 at h
  refine jLf.bk hc 1 [] [some (.ref l0), none] [.int 0, .int s0, .ref s1] S rfl rfl rfl trivial ?_
  obtain ⟨g13, h⟩ := h
  refine jLf.inv hc _ rfl (gs := [jA S s1 12, (([] : List Value).map fun v => v.category).sum ≤ 8, 0 ≤ 0, 0 ≤ 0]) (k := 174) (args := [.ref s1, .int s0, .int 0]) (r := []) (a := 0) (b := 0) rfl ⟨g13, Nat.le_of_ble_eq_true rfl, Nat.zero_le _, Nat.zero_le _⟩ (vX12_emit d (by omega) h) ?_
  rintro v S11 ⟨rfl, h⟩
  show jLf (jCall jmt jbud d) jbud (fun j => (jmt j).rk) none mX12_behindTest (jqI Q) (34, [some (.ref l0), none], [], S11, 0, 0)
  refine jLf.bk hc 1 [] [some (.ref l0), none] [.ref l0] S11 rfl rfl rfl trivial ?_
  obtain ⟨g16, h⟩ := h
  refine jLf.inv hc _ rfl (gs := [jA S11 l0 12, (([] : List Value).map fun v => v.category).sum ≤ 8, 0 ≤ 0, 0 ≤ 0]) (k := 169) (args := [.ref l0]) (r := []) (a := 0) (b := 0) rfl ⟨g16, Nat.le_of_ble_eq_true rfl, Nat.zero_le _, Nat.zero_le _⟩ (vX12_next d (by omega) h) ?_
  rintro v S14 ⟨rfl, h⟩
  show jLf (jCall jmt jbud d) jbud (fun j => (jmt j).rk) none mX12_behindTest (jqI Q) (36, [some (.ref l0), none], [], S14, 0, 0)
  refine jLf.bk hc 1 [] [some (.ref l0), none] [.int 0] S14 rfl rfl rfl trivial ?_
  exact jLf.ret hc _ rfl (gs := [True]) (v := some (.int 0)) rfl trivial ⟨0, rfl, h⟩
def wX12_behindTest_23   (l0 : Nat) (l1 : Int32) (s0 : Int32) (s1 : Nat) (S : JS) (Q : Int32 → JS → Prop) : Prop :=
  jA S l0 12 ∧ (jA S s1 12 ∧ (wX12_push s1 s0 (jI S l0 17) S (fun S8 => (l1 = 0 → wX12_behindTest_32 l0 29 l0 S8 Q) ∧ (¬ l1 = 0 → wX12_behindTest_32 l0 28 l0 S8 Q))))
set_option maxRecDepth 20000 in
theorem tX12_behindTest_23 {Q : Int32 → JS → Prop}  (d : Nat) (hd : 3 ≤ d) {l0 : Nat} {l1 : Int32} {s0 : Int32} {s1 : Nat} {S : JS} (h : wX12_behindTest_23 l0 l1 s0 s1 S Q) : jLf (jCall jmt jbud d) jbud (fun j => (jmt j).rk) none mX12_behindTest (jqI Q) (23, [some (.ref l0), some (.int l1)], [.int s0, .ref s1], S, 0, 0) := by
  have hc := jCall_mono jmt jbud d
  unfold wX12_behindTest_23 at h
  obtain ⟨g7, h⟩ := h
  refine jLf.bk hc 2 [jA S l0 12] [some (.ref l0), some (.int l1)] [.int (jI S l0 17), .int s0, .ref s1] S rfl rfl rfl g7 ?_
  obtain ⟨g10, h⟩ := h
  refine jLf.inv hc _ rfl (gs := [jA S s1 12, (([] : List Value).map fun v => v.category).sum ≤ 8, 0 ≤ 0, 0 ≤ 0]) (k := 175) (args := [.ref s1, .int s0, .int (jI S l0 17)]) (r := []) (a := 0) (b := 0) rfl ⟨g10, Nat.le_of_ble_eq_true rfl, Nat.zero_le _, Nat.zero_le _⟩ (vX12_push d (by omega) h) ?_
  rintro v S8 ⟨rfl, h⟩
  show jLf (jCall jmt jbud d) jbud (fun j => (jmt j).rk) none mX12_behindTest (jqI Q) (26, [some (.ref l0), some (.int l1)], [], S8, 0, 0)
  refine jLf.bk hc 2 [] [some (.ref l0), some (.int l1)] [.int l1, .ref l0] S8 rfl rfl rfl trivial ?_
  refine jLf.two hc _ rfl (gs := []) (p1 := l1 = 0) (p2 := ¬ (l1 = 0)) (c1 := (31, [some (.ref l0), some (.int l1)], [.ref l0], S8, 0, 0)) (c2 := (29, [some (.ref l0), some (.int l1)], [.ref l0], S8, 0, 0)) rfl trivial (fun hz => ?_) (fun hz => ?_)
  · have h := h.1 hz
    refine jLf.bk hc 1 [] [some (.ref l0), some (.int l1)] [.int 29, .ref l0] S8 rfl rfl rfl trivial ?_
    refine jLf.sub [some (.ref l0), none] (jle_same (jle_none (jle_nil _))) ?_
    exact tX12_behindTest_32 d hd  h
  · have h := h.2 hz
    refine jLf.bk hc 1 [] [some (.ref l0), some (.int l1)] [.int 28, .ref l0] S8 rfl rfl rfl trivial ?_
    refine jLf.one hc _ rfl (gs := []) (c := (32, [some (.ref l0), some (.int l1)], [.int 28, .ref l0], S8, 0, 0)) rfl trivial ?_
    refine jLf.sub [some (.ref l0), none] (jle_same (jle_none (jle_nil _))) ?_
    exact tX12_behindTest_32 d hd  h
def wX12_behindTest_16   (l0 : Nat) (l1 : Int32) (s0 : Int32) (s1 : Nat) (S : JS) (Q : Int32 → JS → Prop) : Prop :=
  jA S s1 12 ∧ (wX12_settle s1 s0 S (fun S4 => (l1 = 0 → wX12_behindTest_23 l0 l1 29 l0 S4 Q) ∧ (¬ l1 = 0 → wX12_behindTest_23 l0 l1 28 l0 S4 Q)))
set_option maxRecDepth 20000 in
theorem tX12_behindTest_16 {Q : Int32 → JS → Prop}  (d : Nat) (hd : 3 ≤ d) {l0 : Nat} {l1 : Int32} {s0 : Int32} {s1 : Nat} {S : JS} (h : wX12_behindTest_16 l0 l1 s0 s1 S Q) : jLf (jCall jmt jbud d) jbud (fun j => (jmt j).rk) none mX12_behindTest (jqI Q) (16, [some (.ref l0), some (.int l1)], [.int s0, .ref s1], S, 0, 0) := by
  have hc := jCall_mono jmt jbud d
  unfold wX12_behindTest_16 at h
  obtain ⟨g6, h⟩ := h
  refine jLf.inv hc _ rfl (gs := [jA S s1 12, (([] : List Value).map fun v => v.category).sum ≤ 8, 0 ≤ 0, 0 ≤ 0]) (k := 177) (args := [.ref s1, .int s0]) (r := []) (a := 0) (b := 0) rfl ⟨g6, Nat.le_of_ble_eq_true rfl, Nat.zero_le _, Nat.zero_le _⟩ (vX12_settle d (by omega) h) ?_
  rintro v S4 ⟨rfl, h⟩
  show jLf (jCall jmt jbud d) jbud (fun j => (jmt j).rk) none mX12_behindTest (jqI Q) (17, [some (.ref l0), some (.int l1)], [], S4, 0, 0)
  refine jLf.bk hc 2 [] [some (.ref l0), some (.int l1)] [.int l1, .ref l0] S4 rfl rfl rfl trivial ?_
  refine jLf.two hc _ rfl (gs := []) (p1 := l1 = 0) (p2 := ¬ (l1 = 0)) (c1 := (22, [some (.ref l0), some (.int l1)], [.ref l0], S4, 0, 0)) (c2 := (20, [some (.ref l0), some (.int l1)], [.ref l0], S4, 0, 0)) rfl trivial (fun hz => ?_) (fun hz => ?_)
  · have h := h.1 hz
    refine jLf.bk hc 1 [] [some (.ref l0), some (.int l1)] [.int 29, .ref l0] S4 rfl rfl rfl trivial ?_
    exact tX12_behindTest_23 d hd  h
  · have h := h.2 hz
    refine jLf.bk hc 1 [] [some (.ref l0), some (.int l1)] [.int 28, .ref l0] S4 rfl rfl rfl trivial ?_
    refine jLf.one hc _ rfl (gs := []) (c := (23, [some (.ref l0), some (.int l1)], [.int 28, .ref l0], S4, 0, 0)) rfl trivial ?_
    exact tX12_behindTest_23 d hd  h
def wX12_behindTest_10   (l0 : Nat) (l1 : Int32) (S : JS) (Q : Int32 → JS → Prop) : Prop :=
  (l1 = 0 → wX12_behindTest_16 l0 l1 1 l0 S Q) ∧ (¬ l1 = 0 → wX12_behindTest_16 l0 l1 2 l0 S Q)
set_option maxRecDepth 20000 in
theorem tX12_behindTest_10 {Q : Int32 → JS → Prop}  (d : Nat) (hd : 3 ≤ d) {l0 : Nat} {l1 : Int32} {S : JS} (h : wX12_behindTest_10 l0 l1 S Q) : jLf (jCall jmt jbud d) jbud (fun j => (jmt j).rk) none mX12_behindTest (jqI Q) (10, [some (.ref l0), some (.int l1)], [], S, 0, 0) := by
  have hc := jCall_mono jmt jbud d
  unfold wX12_behindTest_10 at h
  refine jLf.bk hc 2 [] [some (.ref l0), some (.int l1)] [.int l1, .ref l0] S rfl rfl rfl trivial ?_
  refine jLf.two hc _ rfl (gs := []) (p1 := l1 = 0) (p2 := ¬ (l1 = 0)) (c1 := (15, [some (.ref l0), some (.int l1)], [.ref l0], S, 0, 0)) (c2 := (13, [some (.ref l0), some (.int l1)], [.ref l0], S, 0, 0)) rfl trivial (fun hz => ?_) (fun hz => ?_)
  · have h := h.1 hz
    refine jLf.bk hc 1 [] [some (.ref l0), some (.int l1)] [.int 1, .ref l0] S rfl rfl rfl trivial ?_
    exact tX12_behindTest_16 d hd  h
  · have h := h.2 hz
    refine jLf.bk hc 1 [] [some (.ref l0), some (.int l1)] [.int 2, .ref l0] S rfl rfl rfl trivial ?_
    refine jLf.one hc _ rfl (gs := []) (c := (16, [some (.ref l0), some (.int l1)], [.int 2, .ref l0], S, 0, 0)) rfl trivial ?_
    exact tX12_behindTest_16 d hd  h
def wX12_behindTest  (this : Nat) (S : JS) (Q : Int32 → JS → Prop) : Prop :=
  jA S this 12 ∧ (wX12_isWord this 1476 S (fun r2 S1 => (¬ r2 = 0 → wX12_behindTest_10 this r2 S1 Q) ∧ (r2 = 0 → jA S1 this 12 ∧ (wX12_isWord this 498 S1 (fun r18 S17 => (r18 = 0 → jA S17 this 12 ∧ (wX12_inner this S17 (fun r21 S20 => (¬ r21 = (-1) → jA S20 this 12 ∧ (wX12_isSign this 41 S20 (fun r24 S23 => jA S23 this 12 ∧ (wX12_must this r24 S23 (fun S26 => jA S26 this 12 ∧ ((¬ (jI S26 this 14) = 0 → Q 2 S26) ∧ ((jI S26 this 14) = 0 → wX12_settle this 1 S26 (fun S30 => jA S30 this 12 ∧ (∀ S33 : JS, S33 = uI S30 this 23 ((jI S30 this 23) - (1 : Int32)) → (jA S33 this 12 ∧ (∀ S35 : JS, S35 = uI S33 this 24 ((jI S33 this 24) - (1 : Int32)) → (Q 2 S35)))))))))))) ∧ (r21 = (-1) → Q 4 S20)))) ∧ (¬ r18 = 0 → wX12_behindTest_10 this r2 S17 Q))))))
set_option maxRecDepth 20000 in
theorem vX12_behindTest {Q : Int32 → JS → Prop} (d : Nat) (hd : 4 ≤ d) {this : Nat} {S : JS} (h : wX12_behindTest this S Q) : jCall jmt jbud d 186 [.ref this] S (jqI Q) := by
  obtain ⟨d, rfl⟩ : ∃ d2, d = d2 + 1 := ⟨d - 1, by omega⟩
  have hd : 3 ≤ d := by omega
  have hc := jCall_mono jmt jbud d
  unfold wX12_behindTest at h
  refine ⟨Nat.le_of_ble_eq_true rfl, ?_⟩
  show jLf (jCall jmt jbud d) jbud (fun j => (jmt j).rk) none mX12_behindTest (jqI Q) (0, [some (.ref this), none], [], S, 0, 0)
  refine jLf.bk hc 2 [] [some (.ref this), none] [.long 1476, .ref this] S rfl rfl rfl trivial ?_
  obtain ⟨g3, h⟩ := h
  refine jLf.inv hc _ rfl (gs := [jA S this 12, (([] : List Value).map fun v => v.category).sum ≤ 8, 0 ≤ 0, 0 ≤ 0]) (k := 170) (args := [.ref this, .long 1476]) (r := []) (a := 0) (b := 0) rfl ⟨g3, Nat.le_of_ble_eq_true rfl, Nat.zero_le _, Nat.zero_le _⟩ (vX12_isWord d (by omega) h) ?_
  rintro v S1 ⟨r2, rfl, h⟩
  show jLf (jCall jmt jbud d) jbud (fun j => (jmt j).rk) none mX12_behindTest (jqI Q) (3, [some (.ref this), none], [.int r2], S1, 0, 0)
  refine jLf.bk hc 2 [] [some (.ref this), some (.int r2)] [.int r2] S1 rfl rfl rfl trivial ?_
  refine jLf.two hc _ rfl (gs := []) (p1 := ¬ r2 = 0) (p2 := ¬ (¬ r2 = 0)) (c1 := (10, [some (.ref this), some (.int r2)], [], S1, 0, 0)) (c2 := (6, [some (.ref this), some (.int r2)], [], S1, 0, 0)) rfl trivial (fun hz => ?_) (fun hz => ?_)
  · have h := h.1 hz
    exact tX12_behindTest_10 d hd  h
  · have h := h.2 (Classical.not_not.mp hz)
    refine jLf.bk hc 2 [] [some (.ref this), some (.int r2)] [.long 498, .ref this] S1 rfl rfl rfl trivial ?_
    obtain ⟨g19, h⟩ := h
    refine jLf.inv hc _ rfl (gs := [jA S1 this 12, (([] : List Value).map fun v => v.category).sum ≤ 8, 0 ≤ 0, 0 ≤ 0]) (k := 170) (args := [.ref this, .long 498]) (r := []) (a := 0) (b := 0) rfl ⟨g19, Nat.le_of_ble_eq_true rfl, Nat.zero_le _, Nat.zero_le _⟩ (vX12_isWord d (by omega) h) ?_
    rintro v S17 ⟨r18, rfl, h⟩
    show jLf (jCall jmt jbud d) jbud (fun j => (jmt j).rk) none mX12_behindTest (jqI Q) (9, [some (.ref this), some (.int r2)], [.int r18], S17, 0, 0)
    refine jLf.two hc _ rfl (gs := []) (p1 := r18 = 0) (p2 := ¬ (r18 = 0)) (c1 := (38, [some (.ref this), some (.int r2)], [], S17, 0, 0)) (c2 := (10, [some (.ref this), some (.int r2)], [], S17, 0, 0)) rfl trivial (fun hz => ?_) (fun hz => ?_)
    · have h := h.1 hz
      refine jLf.bk hc 1 [] [some (.ref this), some (.int r2)] [.ref this] S17 rfl rfl rfl trivial ?_
      obtain ⟨g22, h⟩ := h
      refine jLf.inv hc _ rfl (gs := [jA S17 this 12, (([] : List Value).map fun v => v.category).sum ≤ 8, 0 ≤ 0, 0 ≤ 0]) (k := 178) (args := [.ref this]) (r := []) (a := 0) (b := 0) rfl ⟨g22, Nat.le_of_ble_eq_true rfl, Nat.zero_le _, Nat.zero_le _⟩ (vX12_inner d (by omega) h) ?_
      rintro v S20 ⟨r21, rfl, h⟩
      show jLf (jCall jmt jbud d) jbud (fun j => (jmt j).rk) none mX12_behindTest (jqI Q) (40, [some (.ref this), some (.int r2)], [.int r21], S20, 0, 0)
      refine jLf.bk hc 1 [] [some (.ref this), some (.int r2)] [.int (-1), .int r21] S20 rfl rfl rfl trivial ?_
      refine jLf.two hc _ rfl (gs := []) (p1 := ¬ r21 = (-1)) (p2 := ¬ (¬ r21 = (-1))) (c1 := (44, [some (.ref this), some (.int r2)], [], S20, 0, 0)) (c2 := (42, [some (.ref this), some (.int r2)], [], S20, 0, 0)) rfl trivial (fun hz => ?_) (fun hz => ?_)
      · have h := h.1 hz
        refine jLf.bk hc 3 [] [some (.ref this), some (.int r2)] [.int 41, .ref this, .ref this] S20 rfl rfl rfl trivial ?_
        obtain ⟨g25, h⟩ := h
        refine jLf.inv hc _ rfl (gs := [jA S20 this 12, (([.ref this] : List Value).map fun v => v.category).sum ≤ 8, 0 ≤ 0, 0 ≤ 0]) (k := 171) (args := [.ref this, .int 41]) (r := [.ref this]) (a := 0) (b := 0) rfl ⟨g25, Nat.le_of_ble_eq_true rfl, Nat.zero_le _, Nat.zero_le _⟩ (vX12_isSign d (by omega) h) ?_
        rintro v S23 ⟨r24, rfl, h⟩
        show jLf (jCall jmt jbud d) jbud (fun j => (jmt j).rk) none mX12_behindTest (jqI Q) (48, [some (.ref this), some (.int r2)], [.int r24, .ref this], S23, 0, 0)
        obtain ⟨g28, h⟩ := h
        refine jLf.inv hc _ rfl (gs := [jA S23 this 12, (([] : List Value).map fun v => v.category).sum ≤ 8, 0 ≤ 0, 0 ≤ 0]) (k := 172) (args := [.ref this, .int r24]) (r := []) (a := 0) (b := 0) rfl ⟨g28, Nat.le_of_ble_eq_true rfl, Nat.zero_le _, Nat.zero_le _⟩ (vX12_must d (by omega) h) ?_
        rintro v S26 ⟨rfl, h⟩
        show jLf (jCall jmt jbud d) jbud (fun j => (jmt j).rk) none mX12_behindTest (jqI Q) (49, [some (.ref this), some (.int r2)], [], S26, 0, 0)
        obtain ⟨g29, h⟩ := h
        refine jLf.bk hc 2 [jA S26 this 12] [some (.ref this), some (.int r2)] [.int (jI S26 this 14)] S26 rfl rfl rfl g29 ?_
        refine jLf.two hc _ rfl (gs := []) (p1 := ¬ (jI S26 this 14) = 0) (p2 := ¬ (¬ (jI S26 this 14) = 0)) (c1 := (67, [some (.ref this), some (.int r2)], [], S26, 0, 0)) (c2 := (52, [some (.ref this), some (.int r2)], [], S26, 0, 0)) rfl trivial (fun hz => ?_) (fun hz => ?_)
        · have h := h.1 hz
          refine jLf.bk hc 1 [] [some (.ref this), some (.int r2)] [.int 2] S26 rfl rfl rfl trivial ?_
          exact jLf.ret hc _ rfl (gs := [True]) (v := some (.int 2)) rfl trivial ⟨2, rfl, h⟩
        · have h := h.2 (Classical.not_not.mp hz)
          refine jLf.bk hc 2 [] [some (.ref this), some (.int r2)] [.int 1, .ref this] S26 rfl rfl rfl trivial ?_
          refine jLf.inv hc _ rfl (gs := [jA S26 this 12, (([] : List Value).map fun v => v.category).sum ≤ 8, 0 ≤ 0, 0 ≤ 0]) (k := 177) (args := [.ref this, .int 1]) (r := []) (a := 0) (b := 0) rfl ⟨g29, Nat.le_of_ble_eq_true rfl, Nat.zero_le _, Nat.zero_le _⟩ (vX12_settle d (by omega) h) ?_
          rintro v S30 ⟨rfl, h⟩
          show jLf (jCall jmt jbud d) jbud (fun j => (jmt j).rk) none mX12_behindTest (jqI Q) (55, [some (.ref this), some (.int r2)], [], S30, 0, 0)
          obtain ⟨g32, h⟩ := h
          refine jLf.bk hc 6 [(.ref this : Value).category = 1, jA S30 this 12, jA S30 this 12] [some (.ref this), some (.int r2)] [] (uI S30 this 23 ((jI S30 this 23) - (1 : Int32))) rfl rfl rfl ⟨rfl, g32, g32⟩ ?_
          generalize eS33 : uI S30 this 23 ((jI S30 this 23) - (1 : Int32)) = S33
          have h := h S33 eS33.symm
          obtain ⟨g34, h⟩ := h
          refine jLf.bk hc 6 [(.ref this : Value).category = 1, jA S33 this 12, jA S33 this 12] [some (.ref this), some (.int r2)] [] (uI S33 this 24 ((jI S33 this 24) - (1 : Int32))) rfl rfl rfl ⟨rfl, g34, g34⟩ ?_
          generalize eS35 : uI S33 this 24 ((jI S33 this 24) - (1 : Int32)) = S35
          have h := h S35 eS35.symm
          refine jLf.bk hc 1 [] [some (.ref this), some (.int r2)] [.int 2] S35 rfl rfl rfl trivial ?_
          exact jLf.ret hc _ rfl (gs := [True]) (v := some (.int 2)) rfl trivial ⟨2, rfl, h⟩
      · have h := h.2 (Classical.not_not.mp hz)
        refine jLf.bk hc 1 [] [some (.ref this), some (.int r2)] [.int 4] S20 rfl rfl rfl trivial ?_
        exact jLf.ret hc _ rfl (gs := [True]) (v := some (.int 4)) rfl trivial ⟨4, rfl, h⟩
    · have h := h.2 hz
      exact tX12_behindTest_10 d hd  h
def wX12_readExpression_40   (l0 : Nat) (S : JS) (Q : JS → Prop) : Prop :=
  jA S l0 12 ∧ (wX12_settle l0 1 S (fun S6 => Q S6))
set_option maxRecDepth 20000 in
theorem tX12_readExpression_40 {Q : JS → Prop}  (d : Nat) (hd : 6 ≤ d) {l0 : Nat} {S : JS} (h : wX12_readExpression_40 l0 S Q) : jLf (jCall jmt jbud d) jbud (fun j => (jmt j).rk) none mX12_readExpression (jqV Q) (40, [some (.ref l0), none, none], [], S, 0, 0) := by
  have hc := jCall_mono jmt jbud d
  unfold wX12_readExpression_40 at h
  refine jLf.bk hc 2 [] [some (.ref l0), none, none] [.int 1, .ref l0] S rfl rfl rfl trivial ?_
  obtain ⟨g8, h⟩ := h
  refine jLf.inv hc _ rfl (gs := [jA S l0 12, (([] : List Value).map fun v => v.category).sum ≤ 8, 0 ≤ 0, 0 ≤ 0]) (k := 177) (args := [.ref l0, .int 1]) (r := []) (a := 0) (b := 0) rfl ⟨g8, Nat.le_of_ble_eq_true rfl, Nat.zero_le _, Nat.zero_le _⟩ (vX12_settle d (by omega) h) ?_
  rintro v S6 ⟨rfl, h⟩
  show jLf (jCall jmt jbud d) jbud (fun j => (jmt j).rk) none mX12_readExpression (jqV Q) (43, [some (.ref l0), none, none], [], S6, 0, 0)
  exact jLf.ret hc _ rfl (gs := [jrt none none]) (v := none) rfl trivial ⟨rfl, h⟩
def wX12_readExpression_38  (X12 : Nat → Int32 → Int32 → JS → Prop) (l0 : Nat) (l1 : Int32) (s0 : Int32) (S : JS) (Q : JS → Prop) : Prop :=
  X12 l0 l1 s0 S
set_option maxRecDepth 20000 in
theorem tX12_readExpression_38 {Q : JS → Prop} {X12 : Nat → Int32 → Int32 → JS → Prop} (d : Nat) (hd : 6 ≤ d) (hX12 : ∀ l0 l1 l2 S, X12 l0 l1 l2 S → jLf (jCall jmt jbud d) jbud (fun j => (jmt j).rk) none mX12_readExpression (jqV Q) (12, [some (.ref l0), some (.int l1), some (.int l2)], [], S, 0, 0)) {l0 : Nat} {l1 : Int32} {s0 : Int32} {S : JS} (h : wX12_readExpression_38 X12 l0 l1 s0 S Q) : jLf (jCall jmt jbud d) jbud (fun j => (jmt j).rk) none mX12_readExpression (jqV Q) (38, [some (.ref l0), some (.int l1), none], [.int s0], S, 0, 0) := by
  have hc := jCall_mono jmt jbud d
  unfold wX12_readExpression_38 at h
  refine jLf.bk hc 1 [] [some (.ref l0), some (.int l1), some (.int s0)] [] S rfl rfl rfl trivial ?_
  refine jLf.one hc _ rfl (gs := []) (c := (12, [some (.ref l0), some (.int l1), some (.int s0)], [], S, 0, 0)) rfl trivial ?_
  exact hX12 _ _ _ _ h
def bX12_readExpression_12   (X12 : Nat → Int32 → Int32 → JS → Prop) (l0 : Nat) (l1 : Int32) (l2 : Int32) (S : JS) (Q : JS → Prop) : Prop :=
  jA S l0 12 ∧ ((¬ (jI S l0 14) = 0 → wX12_readExpression_40 l0 S Q) ∧ ((jI S l0 14) = 0 → (l2 = 4 → wX12_readExpression_40 l0 S Q) ∧ (¬ l2 = 4 → (¬ l2 = 0 → (¬ l2 = 1 → (¬ l2 = 3 → wX12_behindTest l0 S (fun r10 S9 => wX12_readExpression_38 X12 l0 l1 r10 S9 Q)) ∧ (l2 = 3 → wX12_behindSum l0 l1 S (fun r12 S11 => wX12_readExpression_38 X12 l0 l1 r12 S11 Q))) ∧ (l2 = 1 → wX12_readPart l0 S (fun r14 S13 => wX12_readExpression_38 X12 l0 l1 r14 S13 Q))) ∧ (l2 = 0 → wX12_readPlain l0 S (fun r16 S15 => wX12_readExpression_38 X12 l0 l1 r16 S15 Q)))))
set_option maxRecDepth 20000 in
theorem uX12_readExpression_12 {Q : JS → Prop}  (d : Nat) (hd : 6 ≤ d) {X12 : Nat → Int32 → Int32 → JS → Prop} (hX12 : ∀ l0 l1 l2 S, X12 l0 l1 l2 S → jLf (jCall jmt jbud d) jbud (fun j => (jmt j).rk) none mX12_readExpression (jqV Q) (12, [some (.ref l0), some (.int l1), some (.int l2)], [], S, 0, 0)) {l0 : Nat} {l1 : Int32} {l2 : Int32} {S : JS} (h : bX12_readExpression_12 X12 l0 l1 l2 S Q) : jLf (jCall jmt jbud d) jbud (fun j => (jmt j).rk) none mX12_readExpression (jqV Q) (12, [some (.ref l0), some (.int l1), some (.int l2)], [], S, 0, 0) := by
  have hc := jCall_mono jmt jbud d
  unfold bX12_readExpression_12 at h
  obtain ⟨g5, h⟩ := h
  refine jLf.bk hc 2 [jA S l0 12] [some (.ref l0), some (.int l1), some (.int l2)] [.int (jI S l0 14)] S rfl rfl rfl g5 ?_
  refine jLf.two hc _ rfl (gs := []) (p1 := ¬ (jI S l0 14) = 0) (p2 := ¬ (¬ (jI S l0 14) = 0)) (c1 := (40, [some (.ref l0), some (.int l1), some (.int l2)], [], S, 0, 0)) (c2 := (15, [some (.ref l0), some (.int l1), some (.int l2)], [], S, 0, 0)) rfl trivial (fun hz => ?_) (fun hz => ?_)
  · have h := h.1 hz
    refine jLf.sub [some (.ref l0), none, none] (jle_same (jle_none (jle_none (jle_nil _)))) ?_
    exact tX12_readExpression_40 d hd  h
  · have h := h.2 (Classical.not_not.mp hz)
    refine jLf.bk hc 2 [] [some (.ref l0), some (.int l1), some (.int l2)] [.int 4, .int l2] S rfl rfl rfl trivial ?_
    refine jLf.two hc _ rfl (gs := []) (p1 := l2 = 4) (p2 := ¬ (l2 = 4)) (c1 := (40, [some (.ref l0), some (.int l1), some (.int l2)], [], S, 0, 0)) (c2 := (18, [some (.ref l0), some (.int l1), some (.int l2)], [], S, 0, 0)) rfl trivial (fun hz => ?_) (fun hz => ?_)
    · have h := h.1 hz
      refine jLf.sub [some (.ref l0), none, none] (jle_same (jle_none (jle_none (jle_nil _)))) ?_
      exact tX12_readExpression_40 d hd  h
    · have h := h.2 hz
      refine jLf.bk hc 1 [] [some (.ref l0), some (.int l1), some (.int l2)] [.int l2] S rfl rfl rfl trivial ?_
      refine jLf.two hc _ rfl (gs := []) (p1 := ¬ l2 = 0) (p2 := ¬ (¬ l2 = 0)) (c1 := (23, [some (.ref l0), some (.int l1), some (.int l2)], [], S, 0, 0)) (c2 := (20, [some (.ref l0), some (.int l1), some (.int l2)], [], S, 0, 0)) rfl trivial (fun hz => ?_) (fun hz => ?_)
      · have h := h.1 hz
        refine jLf.bk hc 2 [] [some (.ref l0), some (.int l1), some (.int l2)] [.int 1, .int l2] S rfl rfl rfl trivial ?_
        refine jLf.two hc _ rfl (gs := []) (p1 := ¬ l2 = 1) (p2 := ¬ (¬ l2 = 1)) (c1 := (29, [some (.ref l0), some (.int l1), some (.int l2)], [], S, 0, 0)) (c2 := (26, [some (.ref l0), some (.int l1), some (.int l2)], [], S, 0, 0)) rfl trivial (fun hz => ?_) (fun hz => ?_)
        · have h := h.1 hz
          refine jLf.bk hc 2 [] [some (.ref l0), some (.int l1), some (.int l2)] [.int 3, .int l2] S rfl rfl rfl trivial ?_
          refine jLf.two hc _ rfl (gs := []) (p1 := ¬ l2 = 3) (p2 := ¬ (¬ l2 = 3)) (c1 := (36, [some (.ref l0), some (.int l1), some (.int l2)], [], S, 0, 0)) (c2 := (32, [some (.ref l0), some (.int l1), some (.int l2)], [], S, 0, 0)) rfl trivial (fun hz => ?_) (fun hz => ?_)
          · have h := h.1 hz
            refine jLf.bk hc 1 [] [some (.ref l0), some (.int l1), some (.int l2)] [.ref l0] S rfl rfl rfl trivial ?_
            refine jLf.inv hc _ rfl (gs := [jA S l0 12, (([] : List Value).map fun v => v.category).sum ≤ 8, 0 ≤ 0, 0 ≤ 0]) (k := 186) (args := [.ref l0]) (r := []) (a := 0) (b := 0) rfl ⟨g5, Nat.le_of_ble_eq_true rfl, Nat.zero_le _, Nat.zero_le _⟩ (vX12_behindTest d (by omega) h) ?_
            rintro v S9 ⟨r10, rfl, h⟩
            show jLf (jCall jmt jbud d) jbud (fun j => (jmt j).rk) none mX12_readExpression (jqV Q) (38, [some (.ref l0), some (.int l1), some (.int l2)], [.int r10], S9, 0, 0)
            refine jLf.sub [some (.ref l0), some (.int l1), none] (jle_same (jle_same (jle_none (jle_nil _)))) ?_
            exact tX12_readExpression_38 d hd hX12 h
          · have h := h.2 (Classical.not_not.mp hz)
            refine jLf.bk hc 2 [] [some (.ref l0), some (.int l1), some (.int l2)] [.int l1, .ref l0] S rfl rfl rfl trivial ?_
            refine jLf.inv hc _ rfl (gs := [jA S l0 12, (([] : List Value).map fun v => v.category).sum ≤ 8, 0 ≤ 0, 0 ≤ 0]) (k := 185) (args := [.ref l0, .int l1]) (r := []) (a := 0) (b := 0) rfl ⟨g5, Nat.le_of_ble_eq_true rfl, Nat.zero_le _, Nat.zero_le _⟩ (vX12_behindSum d (by omega) h) ?_
            rintro v S11 ⟨r12, rfl, h⟩
            show jLf (jCall jmt jbud d) jbud (fun j => (jmt j).rk) none mX12_readExpression (jqV Q) (35, [some (.ref l0), some (.int l1), some (.int l2)], [.int r12], S11, 0, 0)
            refine jLf.one hc _ rfl (gs := []) (c := (38, [some (.ref l0), some (.int l1), some (.int l2)], [.int r12], S11, 0, 0)) rfl trivial ?_
            refine jLf.sub [some (.ref l0), some (.int l1), none] (jle_same (jle_same (jle_none (jle_nil _)))) ?_
            exact tX12_readExpression_38 d hd hX12 h
        · have h := h.2 (Classical.not_not.mp hz)
          refine jLf.bk hc 1 [] [some (.ref l0), some (.int l1), some (.int l2)] [.ref l0] S rfl rfl rfl trivial ?_
          refine jLf.inv hc _ rfl (gs := [jA S l0 12, (([] : List Value).map fun v => v.category).sum ≤ 8, 0 ≤ 0, 0 ≤ 0]) (k := 183) (args := [.ref l0]) (r := []) (a := 0) (b := 0) rfl ⟨g5, Nat.le_of_ble_eq_true rfl, Nat.zero_le _, Nat.zero_le _⟩ (vX12_readPart d (by omega) h) ?_
          rintro v S13 ⟨r14, rfl, h⟩
          show jLf (jCall jmt jbud d) jbud (fun j => (jmt j).rk) none mX12_readExpression (jqV Q) (28, [some (.ref l0), some (.int l1), some (.int l2)], [.int r14], S13, 0, 0)
          refine jLf.one hc _ rfl (gs := []) (c := (38, [some (.ref l0), some (.int l1), some (.int l2)], [.int r14], S13, 0, 0)) rfl trivial ?_
          refine jLf.sub [some (.ref l0), some (.int l1), none] (jle_same (jle_same (jle_none (jle_nil _)))) ?_
          exact tX12_readExpression_38 d hd hX12 h
      · have h := h.2 (Classical.not_not.mp hz)
        refine jLf.bk hc 1 [] [some (.ref l0), some (.int l1), some (.int l2)] [.ref l0] S rfl rfl rfl trivial ?_
        refine jLf.inv hc _ rfl (gs := [jA S l0 12, (([] : List Value).map fun v => v.category).sum ≤ 8, 0 ≤ 0, 0 ≤ 0]) (k := 184) (args := [.ref l0]) (r := []) (a := 0) (b := 0) rfl ⟨g5, Nat.le_of_ble_eq_true rfl, Nat.zero_le _, Nat.zero_le _⟩ (vX12_readPlain d (by omega) h) ?_
        rintro v S15 ⟨r16, rfl, h⟩
        show jLf (jCall jmt jbud d) jbud (fun j => (jmt j).rk) none mX12_readExpression (jqV Q) (22, [some (.ref l0), some (.int l1), some (.int l2)], [.int r16], S15, 0, 0)
        refine jLf.one hc _ rfl (gs := []) (c := (38, [some (.ref l0), some (.int l1), some (.int l2)], [.int r16], S15, 0, 0)) rfl trivial ?_
        refine jLf.sub [some (.ref l0), some (.int l1), none] (jle_same (jle_same (jle_none (jle_nil _)))) ?_
        exact tX12_readExpression_38 d hd hX12 h
def wX12_readExpression_12   (l0 : Nat) (l1 : Int32) (l2 : Int32) (S : JS) (Q : JS → Prop) : Prop :=
  jLoop (fun (X12 : Nat × Int32 × Int32 × JS → Prop) q => bX12_readExpression_12 (fun l0 l1 l2 S => X12 (l0, l1, l2, S)) q.1 q.2.1 q.2.2.1 q.2.2.2 Q) (l0, l1, l2, S)
set_option maxRecDepth 20000 in
theorem tX12_readExpression_12 {Q : JS → Prop}  (d : Nat) (hd : 6 ≤ d) {l0 : Nat} {l1 : Int32} {l2 : Int32} {S : JS} (h : wX12_readExpression_12 l0 l1 l2 S Q) : jLf (jCall jmt jbud d) jbud (fun j => (jmt j).rk) none mX12_readExpression (jqV Q) (12, [some (.ref l0), some (.int l1), some (.int l2)], [], S, 0, 0) := by
  have := h (fun q : Nat × Int32 × Int32 × JS => jLf (jCall jmt jbud d) jbud (fun j => (jmt j).rk) none mX12_readExpression (jqV Q) (12, [some (.ref (q.1)), some (.int (q.2.1)), some (.int (q.2.2.1))], [], q.2.2.2, 0, 0)) (fun q R hb hR => uX12_readExpression_12 d hd  (fun _ _ _ _ => hR _) hb)
  exact this
def wX12_readExpression_11   (l0 : Nat) (l1 : Int32) (s0 : Int32) (S : JS) (Q : JS → Prop) : Prop :=
  wX12_readExpression_12 l0 l1 s0 S Q
set_option maxRecDepth 20000 in
theorem tX12_readExpression_11 {Q : JS → Prop}  (d : Nat) (hd : 6 ≤ d) {l0 : Nat} {l1 : Int32} {s0 : Int32} {S : JS} (h : wX12_readExpression_11 l0 l1 s0 S Q) : jLf (jCall jmt jbud d) jbud (fun j => (jmt j).rk) none mX12_readExpression (jqV Q) (11, [some (.ref l0), some (.int l1), none], [.int s0], S, 0, 0) := by
  have hc := jCall_mono jmt jbud d
  unfold wX12_readExpression_11 at h
  refine jLf.bk hc 1 [] [some (.ref l0), some (.int l1), some (.int s0)] [] S rfl rfl rfl trivial ?_
  exact tX12_readExpression_12 d hd  h
def wX12_readExpression  (this : Nat) (p1 : Int32) (S : JS) (Q : JS → Prop) : Prop :=
  jA S this 12 ∧ (∀ S2 : JS, S2 = uI S this 23 0 → (jA S2 this 12 ∧ (∀ S4 : JS, S4 = uI S2 this 24 0 → ((p1 = 0 → wX12_readExpression_11 this p1 1 S4 Q) ∧ (¬ p1 = 0 → wX12_readExpression_11 this p1 0 S4 Q)))))
set_option maxRecDepth 20000 in
theorem vX12_readExpression {Q : JS → Prop} (d : Nat) (hd : 7 ≤ d) {this : Nat} {p1 : Int32} {S : JS} (h : wX12_readExpression this p1 S Q) : jCall jmt jbud d 187 [.ref this, .int p1] S (jqV Q) := by
  obtain ⟨d, rfl⟩ : ∃ d2, d = d2 + 1 := ⟨d - 1, by omega⟩
  have hd : 6 ≤ d := by omega
  have hc := jCall_mono jmt jbud d
  unfold wX12_readExpression at h
  refine ⟨Nat.le_of_ble_eq_true rfl, ?_⟩
  show jLf (jCall jmt jbud d) jbud (fun j => (jmt j).rk) none mX12_readExpression (jqV Q) (0, [some (.ref this), some (.int p1), none], [], S, 0, 0)
  obtain ⟨g1, h⟩ := h
  refine jLf.bk hc 3 [jA S this 12] [some (.ref this), some (.int p1), none] [] (uI S this 23 0) rfl rfl rfl g1 ?_
  generalize eS2 : uI S this 23 0 = S2
  have h := h S2 eS2.symm
  obtain ⟨g3, h⟩ := h
  refine jLf.bk hc 3 [jA S2 this 12] [some (.ref this), some (.int p1), none] [] (uI S2 this 24 0) rfl rfl rfl g3 ?_
  generalize eS4 : uI S2 this 24 0 = S4
  have h := h S4 eS4.symm
  refine jLf.bk hc 1 [] [some (.ref this), some (.int p1), none] [.int p1] S4 rfl rfl rfl trivial ?_
  refine jLf.two hc _ rfl (gs := []) (p1 := p1 = 0) (p2 := ¬ (p1 = 0)) (c1 := (10, [some (.ref this), some (.int p1), none], [], S4, 0, 0)) (c2 := (8, [some (.ref this), some (.int p1), none], [], S4, 0, 0)) rfl trivial (fun hz => ?_) (fun hz => ?_)
  · have h := h.1 hz
    refine jLf.bk hc 1 [] [some (.ref this), some (.int p1), none] [.int 1] S4 rfl rfl rfl trivial ?_
    exact tX12_readExpression_11 d hd  h
  · have h := h.2 hz
    refine jLf.bk hc 1 [] [some (.ref this), some (.int p1), none] [.int 0] S4 rfl rfl rfl trivial ?_
    refine jLf.one hc _ rfl (gs := []) (c := (11, [some (.ref this), some (.int p1), none], [.int 0], S4, 0, 0)) rfl trivial ?_
    exact tX12_readExpression_11 d hd  h
def wX12_readClause_108   (l0 : Nat) (l2 : Int32) (S : JS) (Q : JS → Prop) : Prop :=
  jA S l0 12 ∧ (¬ jR S l0 16 = none ∧ (jA S (jr S l0 16) 13 ∧ (vp_in (l2 + (6 : Int32)) (jZ S (jr S l0 16)) ∧ (∀ S33 : JS, S33 = uI S (jr S l0 16) (l2 + (6 : Int32)).toNatClampNeg (jI S l0 17) → (Q S33)))))
set_option maxRecDepth 20000 in
theorem tX12_readClause_108 {Q : JS → Prop}  (d : Nat) (hd : 7 ≤ d) {l0 : Nat} {l2 : Int32} {S : JS} (h : wX12_readClause_108 l0 l2 S Q) : jLf (jCall jmt jbud d) jbud (fun j => (jmt j).rk) none mX12_readClause (jqV Q) (108, [some (.ref l0), none, some (.int l2), none], [], S, 0, 0) := by
  have hc := jCall_mono jmt jbud d
  unfold wX12_readClause_108 at h
  obtain ⟨g29, g30, g31, g32, h⟩ := h
  refine jLf.bk hc 8 [jA S l0 12, ¬ jR S l0 16 = none, jA S l0 12, jA S (jr S l0 16) 13, vp_in (l2 + (6 : Int32)) (jZ S (jr S l0 16))] [some (.ref l0), none, some (.int l2), none] [] (uI S (jr S l0 16) (l2 + (6 : Int32)).toNatClampNeg (jI S l0 17)) rfl rfl rfl ⟨g29, g30, g29, g31, g32⟩ ?_
  generalize eS33 : uI S (jr S l0 16) (l2 + (6 : Int32)).toNatClampNeg (jI S l0 17) = S33
  have h := h S33 eS33.symm
  exact jLf.ret hc _ rfl (gs := [jrt none none]) (v := none) rfl trivial ⟨rfl, h⟩
def wX12_readClause_80   (l0 : Nat) (l2 : Int32) (S : JS) (Q : JS → Prop) : Prop :=
  jA S l0 12 ∧ (¬ jR S l0 16 = none ∧ (jA S (jr S l0 16) 13 ∧ (vp_in (l2 + (4 : Int32)) (jZ S (jr S l0 16)) ∧ (∀ S22 : JS, S22 = uI S (jr S l0 16) (l2 + (4 : Int32)).toNatClampNeg (jI S l0 17) → (jA S22 l0 12 ∧ (¬ jR S22 l0 16 = none ∧ (jA S22 (jr S22 l0 16) 13 ∧ (vp_in (l2 + (5 : Int32)) (jZ S22 (jr S22 l0 16)) ∧ (∀ S27 : JS, S27 = uI S22 (jr S22 l0 16) (l2 + (5 : Int32)).toNatClampNeg (jI S22 l0 17) → (jA S27 l0 12 ∧ ((¬ (jI S27 l0 14) = 0 → wX12_readClause_108 l0 l2 S27 Q) ∧ ((jI S27 l0 14) = 0 → wX12_isWord l0 294 S27 (fun r35 S34 => (r35 = 0 → wX12_readClause_108 l0 l2 S34 Q) ∧ (¬ r35 = 0 → jA S34 l0 12 ∧ (wX12_next l0 S34 (fun S36 => jA S36 l0 12 ∧ (wX12_readExpression l0 1 S36 (fun S39 => wX12_readClause_108 l0 l2 S39 Q))))))))))))))))))
set_option maxRecDepth 20000 in
theorem tX12_readClause_80 {Q : JS → Prop}  (d : Nat) (hd : 7 ≤ d) {l0 : Nat} {l2 : Int32} {S : JS} (h : wX12_readClause_80 l0 l2 S Q) : jLf (jCall jmt jbud d) jbud (fun j => (jmt j).rk) none mX12_readClause (jqV Q) (80, [some (.ref l0), none, some (.int l2), none], [], S, 0, 0) := by
  have hc := jCall_mono jmt jbud d
  unfold wX12_readClause_80 at h
  obtain ⟨g18, g19, g20, g21, h⟩ := h
  refine jLf.bk hc 8 [jA S l0 12, ¬ jR S l0 16 = none, jA S l0 12, jA S (jr S l0 16) 13, vp_in (l2 + (4 : Int32)) (jZ S (jr S l0 16))] [some (.ref l0), none, some (.int l2), none] [] (uI S (jr S l0 16) (l2 + (4 : Int32)).toNatClampNeg (jI S l0 17)) rfl rfl rfl ⟨g18, g19, g18, g20, g21⟩ ?_
  generalize eS22 : uI S (jr S l0 16) (l2 + (4 : Int32)).toNatClampNeg (jI S l0 17) = S22
  have h := h S22 eS22.symm
  obtain ⟨g23, g24, g25, g26, h⟩ := h
  refine jLf.bk hc 8 [jA S22 l0 12, ¬ jR S22 l0 16 = none, jA S22 l0 12, jA S22 (jr S22 l0 16) 13, vp_in (l2 + (5 : Int32)) (jZ S22 (jr S22 l0 16))] [some (.ref l0), none, some (.int l2), none] [] (uI S22 (jr S22 l0 16) (l2 + (5 : Int32)).toNatClampNeg (jI S22 l0 17)) rfl rfl rfl ⟨g23, g24, g23, g25, g26⟩ ?_
  generalize eS27 : uI S22 (jr S22 l0 16) (l2 + (5 : Int32)).toNatClampNeg (jI S22 l0 17) = S27
  have h := h S27 eS27.symm
  obtain ⟨g28, h⟩ := h
  refine jLf.bk hc 2 [jA S27 l0 12] [some (.ref l0), none, some (.int l2), none] [.int (jI S27 l0 14)] S27 rfl rfl rfl g28 ?_
  refine jLf.two hc _ rfl (gs := []) (p1 := ¬ (jI S27 l0 14) = 0) (p2 := ¬ (¬ (jI S27 l0 14) = 0)) (c1 := (108, [some (.ref l0), none, some (.int l2), none], [], S27, 0, 0)) (c2 := (99, [some (.ref l0), none, some (.int l2), none], [], S27, 0, 0)) rfl trivial (fun hz => ?_) (fun hz => ?_)
  · have h := h.1 hz
    exact tX12_readClause_108 d hd  h
  · have h := h.2 (Classical.not_not.mp hz)
    refine jLf.bk hc 2 [] [some (.ref l0), none, some (.int l2), none] [.long 294, .ref l0] S27 rfl rfl rfl trivial ?_
    refine jLf.inv hc _ rfl (gs := [jA S27 l0 12, (([] : List Value).map fun v => v.category).sum ≤ 8, 0 ≤ 0, 0 ≤ 0]) (k := 170) (args := [.ref l0, .long 294]) (r := []) (a := 0) (b := 0) rfl ⟨g28, Nat.le_of_ble_eq_true rfl, Nat.zero_le _, Nat.zero_le _⟩ (vX12_isWord d (by omega) h) ?_
    rintro v S34 ⟨r35, rfl, h⟩
    show jLf (jCall jmt jbud d) jbud (fun j => (jmt j).rk) none mX12_readClause (jqV Q) (102, [some (.ref l0), none, some (.int l2), none], [.int r35], S34, 0, 0)
    refine jLf.two hc _ rfl (gs := []) (p1 := r35 = 0) (p2 := ¬ (r35 = 0)) (c1 := (108, [some (.ref l0), none, some (.int l2), none], [], S34, 0, 0)) (c2 := (103, [some (.ref l0), none, some (.int l2), none], [], S34, 0, 0)) rfl trivial (fun hz => ?_) (fun hz => ?_)
    · have h := h.1 hz
      exact tX12_readClause_108 d hd  h
    · have h := h.2 hz
      refine jLf.bk hc 1 [] [some (.ref l0), none, some (.int l2), none] [.ref l0] S34 rfl rfl rfl trivial ?_
      obtain ⟨g38, h⟩ := h
      refine jLf.inv hc _ rfl (gs := [jA S34 l0 12, (([] : List Value).map fun v => v.category).sum ≤ 8, 0 ≤ 0, 0 ≤ 0]) (k := 169) (args := [.ref l0]) (r := []) (a := 0) (b := 0) rfl ⟨g38, Nat.le_of_ble_eq_true rfl, Nat.zero_le _, Nat.zero_le _⟩ (vX12_next d (by omega) h) ?_
      rintro v S36 ⟨rfl, h⟩
      show jLf (jCall jmt jbud d) jbud (fun j => (jmt j).rk) none mX12_readClause (jqV Q) (105, [some (.ref l0), none, some (.int l2), none], [], S36, 0, 0)
      refine jLf.bk hc 2 [] [some (.ref l0), none, some (.int l2), none] [.int 1, .ref l0] S36 rfl rfl rfl trivial ?_
      obtain ⟨g41, h⟩ := h
      refine jLf.inv hc _ rfl (gs := [jA S36 l0 12, (([] : List Value).map fun v => v.category).sum ≤ 8, 0 ≤ 0, 0 ≤ 0]) (k := 187) (args := [.ref l0, .int 1]) (r := []) (a := 0) (b := 0) rfl ⟨g41, Nat.le_of_ble_eq_true rfl, Nat.zero_le _, Nat.zero_le _⟩ (vX12_readExpression d (by omega) h) ?_
      rintro v S39 ⟨rfl, h⟩
      show jLf (jCall jmt jbud d) jbud (fun j => (jmt j).rk) none mX12_readClause (jqV Q) (108, [some (.ref l0), none, some (.int l2), none], [], S39, 0, 0)
      exact tX12_readClause_108 d hd  h
def bX12_readClause_43   (X43 : Nat → Int32 → Int32 → Int32 → JS → Prop) (l0 : Nat) (l1 : Int32) (l2 : Int32) (l3 : Int32) (S : JS) (Q : JS → Prop) : Prop :=
  (8 ≤ l3 → jA S l0 12 ∧ (¬ jR S l0 16 = none ∧ (jA S (jr S l0 16) 13 ∧ (vp_in l2 (jZ S (jr S l0 16)) ∧ (∀ S10 : JS, S10 = uI S (jr S l0 16) l2.toNatClampNeg l1 → (jA S10 l0 12 ∧ (∀ S12 : JS, S12 = uI S10 l0 15 ((jI S10 l0 15) + (1 : Int32)) → (jA S12 l0 12 ∧ (¬ jR S12 l0 16 = none ∧ (jA S12 (jr S12 l0 16) 13 ∧ (vp_in (l2 + (3 : Int32)) (jZ S12 (jr S12 l0 16)) ∧ (∀ S17 : JS, S17 = uI S12 (jr S12 l0 16) (l2 + (3 : Int32)).toNatClampNeg (jI S12 l0 17) → ((l1 = 2 → wX12_readClause_80 l0 l2 S17 Q) ∧ (¬ l1 = 2 → jA S17 l0 12 ∧ (wX12_readExpression l0 0 S17 (fun S42 => wX12_readClause_80 l0 l2 S42 Q)))))))))))))))) ∧ (¬ (8 ≤ l3) → jA S l0 12 ∧ (¬ jR S l0 16 = none ∧ (jA S (jr S l0 16) 13 ∧ (vp_in (l2 + l3) (jZ S (jr S l0 16)) ∧ (∀ S49 : JS, S49 = uI S (jr S l0 16) (l2 + l3).toNatClampNeg 0 → (∀ x50 : Int32, x50 = (l3 + 1) → (X43 l0 l1 l2 x50 S49)))))))
set_option maxRecDepth 20000 in
theorem uX12_readClause_43 {Q : JS → Prop}  (d : Nat) (hd : 7 ≤ d) {X43 : Nat → Int32 → Int32 → Int32 → JS → Prop} (hX43 : ∀ l0 l1 l2 l3 S, X43 l0 l1 l2 l3 S → jLf (jCall jmt jbud d) jbud (fun j => (jmt j).rk) none mX12_readClause (jqV Q) (43, [some (.ref l0), some (.int l1), some (.int l2), some (.int l3)], [], S, 0, 0)) {l0 : Nat} {l1 : Int32} {l2 : Int32} {l3 : Int32} {S : JS} (h : bX12_readClause_43 X43 l0 l1 l2 l3 S Q) : jLf (jCall jmt jbud d) jbud (fun j => (jmt j).rk) none mX12_readClause (jqV Q) (43, [some (.ref l0), some (.int l1), some (.int l2), some (.int l3)], [], S, 0, 0) := by
  have hc := jCall_mono jmt jbud d
  unfold bX12_readClause_43 at h
  refine jLf.bk hc 2 [] [some (.ref l0), some (.int l1), some (.int l2), some (.int l3)] [.int 8, .int l3] S rfl rfl rfl trivial ?_
  refine jLf.two hc _ rfl (gs := []) (p1 := 8 ≤ l3) (p2 := ¬ (8 ≤ l3)) (c1 := (55, [some (.ref l0), some (.int l1), some (.int l2), some (.int l3)], [], S, 0, 0)) (c2 := (46, [some (.ref l0), some (.int l1), some (.int l2), some (.int l3)], [], S, 0, 0)) rfl trivial (fun hz => ?_) (fun hz => ?_)
  · have h := h.1 hz
    obtain ⟨g6, g7, g8, g9, h⟩ := h
    refine jLf.bk hc 5 [jA S l0 12, ¬ jR S l0 16 = none, jA S (jr S l0 16) 13, vp_in l2 (jZ S (jr S l0 16))] [some (.ref l0), some (.int l1), some (.int l2), some (.int l3)] [] (uI S (jr S l0 16) l2.toNatClampNeg l1) rfl rfl rfl ⟨g6, g7, g8, g9⟩ ?_
    generalize eS10 : uI S (jr S l0 16) l2.toNatClampNeg l1 = S10
    have h := h S10 eS10.symm
    obtain ⟨g11, h⟩ := h
    refine jLf.bk hc 6 [(.ref l0 : Value).category = 1, jA S10 l0 12, jA S10 l0 12] [some (.ref l0), some (.int l1), some (.int l2), some (.int l3)] [] (uI S10 l0 15 ((jI S10 l0 15) + (1 : Int32))) rfl rfl rfl ⟨rfl, g11, g11⟩ ?_
    generalize eS12 : uI S10 l0 15 ((jI S10 l0 15) + (1 : Int32)) = S12
    have h := h S12 eS12.symm
    obtain ⟨g13, g14, g15, g16, h⟩ := h
    refine jLf.bk hc 8 [jA S12 l0 12, ¬ jR S12 l0 16 = none, jA S12 l0 12, jA S12 (jr S12 l0 16) 13, vp_in (l2 + (3 : Int32)) (jZ S12 (jr S12 l0 16))] [some (.ref l0), some (.int l1), some (.int l2), some (.int l3)] [] (uI S12 (jr S12 l0 16) (l2 + (3 : Int32)).toNatClampNeg (jI S12 l0 17)) rfl rfl rfl ⟨g13, g14, g13, g15, g16⟩ ?_
    generalize eS17 : uI S12 (jr S12 l0 16) (l2 + (3 : Int32)).toNatClampNeg (jI S12 l0 17) = S17
    have h := h S17 eS17.symm
    refine jLf.bk hc 2 [] [some (.ref l0), some (.int l1), some (.int l2), some (.int l3)] [.int 2, .int l1] S17 rfl rfl rfl trivial ?_
    refine jLf.two hc _ rfl (gs := []) (p1 := l1 = 2) (p2 := ¬ (l1 = 2)) (c1 := (80, [some (.ref l0), some (.int l1), some (.int l2), some (.int l3)], [], S17, 0, 0)) (c2 := (77, [some (.ref l0), some (.int l1), some (.int l2), some (.int l3)], [], S17, 0, 0)) rfl trivial (fun hz => ?_) (fun hz => ?_)
    · have h := h.1 hz
      refine jLf.sub [some (.ref l0), none, some (.int l2), none] (jle_same (jle_none (jle_same (jle_none (jle_nil _))))) ?_
      exact tX12_readClause_80 d hd  h
    · have h := h.2 hz
      refine jLf.bk hc 2 [] [some (.ref l0), some (.int l1), some (.int l2), some (.int l3)] [.int 0, .ref l0] S17 rfl rfl rfl trivial ?_
      obtain ⟨g44, h⟩ := h
      refine jLf.inv hc _ rfl (gs := [jA S17 l0 12, (([] : List Value).map fun v => v.category).sum ≤ 8, 0 ≤ 0, 0 ≤ 0]) (k := 187) (args := [.ref l0, .int 0]) (r := []) (a := 0) (b := 0) rfl ⟨g44, Nat.le_of_ble_eq_true rfl, Nat.zero_le _, Nat.zero_le _⟩ (vX12_readExpression d (by omega) h) ?_
      rintro v S42 ⟨rfl, h⟩
      show jLf (jCall jmt jbud d) jbud (fun j => (jmt j).rk) none mX12_readClause (jqV Q) (80, [some (.ref l0), some (.int l1), some (.int l2), some (.int l3)], [], S42, 0, 0)
      refine jLf.sub [some (.ref l0), none, some (.int l2), none] (jle_same (jle_none (jle_same (jle_none (jle_nil _))))) ?_
      exact tX12_readClause_80 d hd  h
  · have h := h.2 hz
    obtain ⟨g45, g46, g47, g48, h⟩ := h
    refine jLf.bk hc 7 [jA S l0 12, ¬ jR S l0 16 = none, jA S (jr S l0 16) 13, vp_in (l2 + l3) (jZ S (jr S l0 16))] [some (.ref l0), some (.int l1), some (.int l2), some (.int l3)] [] (uI S (jr S l0 16) (l2 + l3).toNatClampNeg 0) rfl rfl rfl ⟨g45, g46, g47, g48⟩ ?_
    generalize eS49 : uI S (jr S l0 16) (l2 + l3).toNatClampNeg 0 = S49
    have h := h S49 eS49.symm
    refine jLf.bk hc 1 [] [some (.ref l0), some (.int l1), some (.int l2), some (.int (l3 + 1))] [] S49 rfl rfl rfl trivial ?_
    generalize ex50 : (l3 + 1 : Int32) = x50
    have h := h x50 ex50.symm
    refine jLf.one hc _ rfl (gs := []) (c := (43, [some (.ref l0), some (.int l1), some (.int l2), some (.int x50)], [], S49, 0, 0)) rfl trivial ?_
    exact hX43 _ _ _ _ _ h
def wX12_readClause_43   (l0 : Nat) (l1 : Int32) (l2 : Int32) (l3 : Int32) (S : JS) (Q : JS → Prop) : Prop :=
  jLoop (fun (X43 : Nat × Int32 × Int32 × Int32 × JS → Prop) q => bX12_readClause_43 (fun l0 l1 l2 l3 S => X43 (l0, l1, l2, l3, S)) q.1 q.2.1 q.2.2.1 q.2.2.2.1 q.2.2.2.2 Q) (l0, l1, l2, l3, S)
set_option maxRecDepth 20000 in
theorem tX12_readClause_43 {Q : JS → Prop}  (d : Nat) (hd : 7 ≤ d) {l0 : Nat} {l1 : Int32} {l2 : Int32} {l3 : Int32} {S : JS} (h : wX12_readClause_43 l0 l1 l2 l3 S Q) : jLf (jCall jmt jbud d) jbud (fun j => (jmt j).rk) none mX12_readClause (jqV Q) (43, [some (.ref l0), some (.int l1), some (.int l2), some (.int l3)], [], S, 0, 0) := by
  have := h (fun q : Nat × Int32 × Int32 × Int32 × JS => jLf (jCall jmt jbud d) jbud (fun j => (jmt j).rk) none mX12_readClause (jqV Q) (43, [some (.ref (q.1)), some (.int (q.2.1)), some (.int (q.2.2.1)), some (.int (q.2.2.2.1))], [], q.2.2.2.2, 0, 0)) (fun q R hb hR => uX12_readClause_43 d hd  (fun _ _ _ _ _ => hR _) hb)
  exact this
def wX12_readClause_31   (l0 : Nat) (l1 : Int32) (s0 : Int32) (s1 : Nat) (S : JS) (Q : JS → Prop) : Prop :=
  jA S s1 12 ∧ (wX12_must s1 s0 S (fun S1 => jA S1 l0 12 ∧ (((jI S1 l0 14) = 0 → ∀ x5 : Int32, x5 = ((8 : Int32) * (jI S1 l0 15)) → (wX12_readClause_43 l0 l1 x5 0 S1 Q)) ∧ (¬ (jI S1 l0 14) = 0 → Q S1))))
set_option maxRecDepth 20000 in
theorem tX12_readClause_31 {Q : JS → Prop}  (d : Nat) (hd : 7 ≤ d) {l0 : Nat} {l1 : Int32} {s0 : Int32} {s1 : Nat} {S : JS} (h : wX12_readClause_31 l0 l1 s0 s1 S Q) : jLf (jCall jmt jbud d) jbud (fun j => (jmt j).rk) none mX12_readClause (jqV Q) (31, [some (.ref l0), some (.int l1), none, none], [.int s0, .ref s1], S, 0, 0) := by
  have hc := jCall_mono jmt jbud d
  unfold wX12_readClause_31 at h
  obtain ⟨g3, h⟩ := h
  refine jLf.inv hc _ rfl (gs := [jA S s1 12, (([] : List Value).map fun v => v.category).sum ≤ 8, 0 ≤ 0, 0 ≤ 0]) (k := 172) (args := [.ref s1, .int s0]) (r := []) (a := 0) (b := 0) rfl ⟨g3, Nat.le_of_ble_eq_true rfl, Nat.zero_le _, Nat.zero_le _⟩ (vX12_must d (by omega) h) ?_
  rintro v S1 ⟨rfl, h⟩
  show jLf (jCall jmt jbud d) jbud (fun j => (jmt j).rk) none mX12_readClause (jqV Q) (32, [some (.ref l0), some (.int l1), none, none], [], S1, 0, 0)
  obtain ⟨g4, h⟩ := h
  refine jLf.bk hc 2 [jA S1 l0 12] [some (.ref l0), some (.int l1), none, none] [.int (jI S1 l0 14)] S1 rfl rfl rfl g4 ?_
  refine jLf.two hc _ rfl (gs := []) (p1 := (jI S1 l0 14) = 0) (p2 := ¬ ((jI S1 l0 14) = 0)) (c1 := (36, [some (.ref l0), some (.int l1), none, none], [], S1, 0, 0)) (c2 := (35, [some (.ref l0), some (.int l1), none, none], [], S1, 0, 0)) rfl trivial (fun hz => ?_) (fun hz => ?_)
  · have h := h.1 hz
    refine jLf.bk hc 5 [jA S1 l0 12] [some (.ref l0), some (.int l1), some (.int ((8 : Int32) * (jI S1 l0 15))), none] [] S1 rfl rfl rfl g4 ?_
    generalize ex5 : ((8 : Int32) * (jI S1 l0 15) : Int32) = x5
    have h := h x5 ex5.symm
    refine jLf.bk hc 2 [] [some (.ref l0), some (.int l1), some (.int x5), some (.int 0)] [] S1 rfl rfl rfl trivial ?_
    exact tX12_readClause_43 d hd  h
  · have h := h.2 hz
    exact jLf.ret hc _ rfl (gs := [jrt none none]) (v := none) rfl trivial ⟨rfl, h⟩
def wX12_readClause_30   (l0 : Nat) (l1 : Int32) (s0 : Nat) (S : JS) (Q : JS → Prop) : Prop :=
  wX12_readClause_31 l0 l1 0 s0 S Q
set_option maxRecDepth 20000 in
theorem tX12_readClause_30 {Q : JS → Prop}  (d : Nat) (hd : 7 ≤ d) {l0 : Nat} {l1 : Int32} {s0 : Nat} {S : JS} (h : wX12_readClause_30 l0 l1 s0 S Q) : jLf (jCall jmt jbud d) jbud (fun j => (jmt j).rk) none mX12_readClause (jqV Q) (30, [some (.ref l0), some (.int l1), none, none], [.ref s0], S, 0, 0) := by
  have hc := jCall_mono jmt jbud d
  unfold wX12_readClause_30 at h
  refine jLf.bk hc 1 [] [some (.ref l0), some (.int l1), none, none] [.int 0, .ref s0] S rfl rfl rfl trivial ?_
  exact tX12_readClause_31 d hd  h
def wX12_readClause_17  (X4 : Nat → Int32 → Int32 → JS → Prop) (l0 : Nat) (l2 : Int32) (s0 : Int32) (S : JS) (Q : JS → Prop) : Prop :=
  ∀ x58 : Int32, x58 = (l2 + 1) → (X4 l0 s0 x58 S)
set_option maxRecDepth 20000 in
theorem tX12_readClause_17 {Q : JS → Prop} {X4 : Nat → Int32 → Int32 → JS → Prop} (d : Nat) (hd : 7 ≤ d) (hX4 : ∀ l0 l1 l2 S, X4 l0 l1 l2 S → jLf (jCall jmt jbud d) jbud (fun j => (jmt j).rk) none mX12_readClause (jqV Q) (4, [some (.ref l0), some (.int l1), some (.int l2), none], [], S, 0, 0)) {l0 : Nat} {l2 : Int32} {s0 : Int32} {S : JS} (h : wX12_readClause_17 X4 l0 l2 s0 S Q) : jLf (jCall jmt jbud d) jbud (fun j => (jmt j).rk) none mX12_readClause (jqV Q) (17, [some (.ref l0), none, some (.int l2), none], [.int s0], S, 0, 0) := by
  have hc := jCall_mono jmt jbud d
  unfold wX12_readClause_17 at h
  refine jLf.bk hc 2 [] [some (.ref l0), some (.int s0), some (.int (l2 + 1)), none] [] S rfl rfl rfl trivial ?_
  generalize ex58 : (l2 + 1 : Int32) = x58
  have h := h x58 ex58.symm
  refine jLf.one hc _ rfl (gs := []) (c := (4, [some (.ref l0), some (.int s0), some (.int x58), none], [], S, 0, 0)) rfl trivial ?_
  exact hX4 _ _ _ _ h
def bX12_readClause_4   (X4 : Nat → Int32 → Int32 → JS → Prop) (l0 : Nat) (l1 : Int32) (l2 : Int32) (S : JS) (Q : JS → Prop) : Prop :=
  (3 ≤ l2 → (l1 = (-1) → wX12_readClause_30 l0 l1 l0 S Q) ∧ (¬ l1 = (-1) → jA S l0 12 ∧ ((12 ≤ (jI S l0 15) → wX12_readClause_30 l0 l1 l0 S Q) ∧ (¬ (12 ≤ (jI S l0 15)) → wX12_readClause_31 l0 l1 1 l0 S Q)))) ∧ (¬ (3 ≤ l2) → jA S l0 12 ∧ (¬ jR S l0 26 = none ∧ (jA S (jr S l0 26) 14 ∧ (vp_in l2 (jZ S (jr S l0 26)) ∧ (wX12_isWord l0 (jJ S (jr S l0 26) l2.toNatClampNeg) S (fun r57 S56 => (r57 = 0 → wX12_readClause_17 X4 l0 l2 l1 S56 Q) ∧ (¬ r57 = 0 → wX12_readClause_17 X4 l0 l2 l2 S56 Q)))))))
set_option maxRecDepth 20000 in
theorem uX12_readClause_4 {Q : JS → Prop}  (d : Nat) (hd : 7 ≤ d) {X4 : Nat → Int32 → Int32 → JS → Prop} (hX4 : ∀ l0 l1 l2 S, X4 l0 l1 l2 S → jLf (jCall jmt jbud d) jbud (fun j => (jmt j).rk) none mX12_readClause (jqV Q) (4, [some (.ref l0), some (.int l1), some (.int l2), none], [], S, 0, 0)) {l0 : Nat} {l1 : Int32} {l2 : Int32} {S : JS} (h : bX12_readClause_4 X4 l0 l1 l2 S Q) : jLf (jCall jmt jbud d) jbud (fun j => (jmt j).rk) none mX12_readClause (jqV Q) (4, [some (.ref l0), some (.int l1), some (.int l2), none], [], S, 0, 0) := by
  have hc := jCall_mono jmt jbud d
  unfold bX12_readClause_4 at h
  refine jLf.bk hc 2 [] [some (.ref l0), some (.int l1), some (.int l2), none] [.int 3, .int l2] S rfl rfl rfl trivial ?_
  refine jLf.two hc _ rfl (gs := []) (p1 := 3 ≤ l2) (p2 := ¬ (3 ≤ l2)) (c1 := (20, [some (.ref l0), some (.int l1), some (.int l2), none], [], S, 0, 0)) (c2 := (7, [some (.ref l0), some (.int l1), some (.int l2), none], [], S, 0, 0)) rfl trivial (fun hz => ?_) (fun hz => ?_)
  · have h := h.1 hz
    refine jLf.bk hc 3 [] [some (.ref l0), some (.int l1), some (.int l2), none] [.int (-1), .int l1, .ref l0] S rfl rfl rfl trivial ?_
    refine jLf.two hc _ rfl (gs := []) (p1 := l1 = (-1)) (p2 := ¬ (l1 = (-1))) (c1 := (30, [some (.ref l0), some (.int l1), some (.int l2), none], [.ref l0], S, 0, 0)) (c2 := (24, [some (.ref l0), some (.int l1), some (.int l2), none], [.ref l0], S, 0, 0)) rfl trivial (fun hz => ?_) (fun hz => ?_)
    · have h := h.1 hz
      refine jLf.sub [some (.ref l0), some (.int l1), none, none] (jle_same (jle_same (jle_none (jle_same (jle_nil _))))) ?_
      exact tX12_readClause_30 d hd  h
    · have h := h.2 hz
      obtain ⟨g51, h⟩ := h
      refine jLf.bk hc 3 [jA S l0 12] [some (.ref l0), some (.int l1), some (.int l2), none] [.int 12, .int (jI S l0 15), .ref l0] S rfl rfl rfl g51 ?_
      refine jLf.two hc _ rfl (gs := []) (p1 := 12 ≤ (jI S l0 15)) (p2 := ¬ (12 ≤ (jI S l0 15))) (c1 := (30, [some (.ref l0), some (.int l1), some (.int l2), none], [.ref l0], S, 0, 0)) (c2 := (28, [some (.ref l0), some (.int l1), some (.int l2), none], [.ref l0], S, 0, 0)) rfl trivial (fun hz => ?_) (fun hz => ?_)
      · have h := h.1 hz
        refine jLf.sub [some (.ref l0), some (.int l1), none, none] (jle_same (jle_same (jle_none (jle_same (jle_nil _))))) ?_
        exact tX12_readClause_30 d hd  h
      · have h := h.2 hz
        refine jLf.bk hc 1 [] [some (.ref l0), some (.int l1), some (.int l2), none] [.int 1, .ref l0] S rfl rfl rfl trivial ?_
        refine jLf.one hc _ rfl (gs := []) (c := (31, [some (.ref l0), some (.int l1), some (.int l2), none], [.int 1, .ref l0], S, 0, 0)) rfl trivial ?_
        refine jLf.sub [some (.ref l0), some (.int l1), none, none] (jle_same (jle_same (jle_none (jle_same (jle_nil _))))) ?_
        exact tX12_readClause_31 d hd  h
  · have h := h.2 hz
    obtain ⟨g52, g53, g54, g55, h⟩ := h
    refine jLf.bk hc 5 [jA S l0 12, ¬ jR S l0 26 = none, jA S (jr S l0 26) 14, vp_in l2 (jZ S (jr S l0 26))] [some (.ref l0), some (.int l1), some (.int l2), none] [.long (jJ S (jr S l0 26) l2.toNatClampNeg), .ref l0] S rfl rfl rfl ⟨g52, g53, g54, g55⟩ ?_
    refine jLf.inv hc _ rfl (gs := [jA S l0 12, (([] : List Value).map fun v => v.category).sum ≤ 8, 0 ≤ 0, 0 ≤ 0]) (k := 170) (args := [.ref l0, .long (jJ S (jr S l0 26) l2.toNatClampNeg)]) (r := []) (a := 0) (b := 0) rfl ⟨g52, Nat.le_of_ble_eq_true rfl, Nat.zero_le _, Nat.zero_le _⟩ (vX12_isWord d (by omega) h) ?_
    rintro v S56 ⟨r57, rfl, h⟩
    show jLf (jCall jmt jbud d) jbud (fun j => (jmt j).rk) none mX12_readClause (jqV Q) (13, [some (.ref l0), some (.int l1), some (.int l2), none], [.int r57], S56, 0, 0)
    refine jLf.two hc _ rfl (gs := []) (p1 := r57 = 0) (p2 := ¬ (r57 = 0)) (c1 := (16, [some (.ref l0), some (.int l1), some (.int l2), none], [], S56, 0, 0)) (c2 := (14, [some (.ref l0), some (.int l1), some (.int l2), none], [], S56, 0, 0)) rfl trivial (fun hz => ?_) (fun hz => ?_)
    · have h := h.1 hz
      refine jLf.bk hc 1 [] [some (.ref l0), some (.int l1), some (.int l2), none] [.int l1] S56 rfl rfl rfl trivial ?_
      refine jLf.sub [some (.ref l0), none, some (.int l2), none] (jle_same (jle_none (jle_same (jle_same (jle_nil _))))) ?_
      exact tX12_readClause_17 d hd hX4 h
    · have h := h.2 hz
      refine jLf.bk hc 1 [] [some (.ref l0), some (.int l1), some (.int l2), none] [.int l2] S56 rfl rfl rfl trivial ?_
      refine jLf.one hc _ rfl (gs := []) (c := (17, [some (.ref l0), some (.int l1), some (.int l2), none], [.int l2], S56, 0, 0)) rfl trivial ?_
      refine jLf.sub [some (.ref l0), none, some (.int l2), none] (jle_same (jle_none (jle_same (jle_same (jle_nil _))))) ?_
      exact tX12_readClause_17 d hd hX4 h
def wX12_readClause_4   (l0 : Nat) (l1 : Int32) (l2 : Int32) (S : JS) (Q : JS → Prop) : Prop :=
  jLoop (fun (X4 : Nat × Int32 × Int32 × JS → Prop) q => bX12_readClause_4 (fun l0 l1 l2 S => X4 (l0, l1, l2, S)) q.1 q.2.1 q.2.2.1 q.2.2.2 Q) (l0, l1, l2, S)
set_option maxRecDepth 20000 in
theorem tX12_readClause_4 {Q : JS → Prop}  (d : Nat) (hd : 7 ≤ d) {l0 : Nat} {l1 : Int32} {l2 : Int32} {S : JS} (h : wX12_readClause_4 l0 l1 l2 S Q) : jLf (jCall jmt jbud d) jbud (fun j => (jmt j).rk) none mX12_readClause (jqV Q) (4, [some (.ref l0), some (.int l1), some (.int l2), none], [], S, 0, 0) := by
  have := h (fun q : Nat × Int32 × Int32 × JS => jLf (jCall jmt jbud d) jbud (fun j => (jmt j).rk) none mX12_readClause (jqV Q) (4, [some (.ref (q.1)), some (.int (q.2.1)), some (.int (q.2.2.1)), none], [], q.2.2.2, 0, 0)) (fun q R hb hR => uX12_readClause_4 d hd  (fun _ _ _ _ => hR _) hb)
  exact this
def wX12_readClause  (this : Nat) (S : JS) (Q : JS → Prop) : Prop :=
  wX12_readClause_4 this (-1) 0 S Q
set_option maxRecDepth 20000 in
theorem vX12_readClause {Q : JS → Prop} (d : Nat) (hd : 8 ≤ d) {this : Nat} {S : JS} (h : wX12_readClause this S Q) : jCall jmt jbud d 188 [.ref this] S (jqV Q) := by
  obtain ⟨d, rfl⟩ : ∃ d2, d = d2 + 1 := ⟨d - 1, by omega⟩
  have hd : 7 ≤ d := by omega
  have hc := jCall_mono jmt jbud d
  unfold wX12_readClause at h
  refine ⟨Nat.le_of_ble_eq_true rfl, ?_⟩
  show jLf (jCall jmt jbud d) jbud (fun j => (jmt j).rk) none mX12_readClause (jqV Q) (0, [some (.ref this), none, none, none], [], S, 0, 0)
  refine jLf.bk hc 4 [] [some (.ref this), some (.int (-1)), some (.int 0), none] [] S rfl rfl rfl trivial ?_
  exact tX12_readClause_4 d hd  h
def bX12_law_101   (X101 : Nat → Int32 → Int32 → JS → Prop) (l0 : Nat) (l1 : Int32) (l2 : Int32) (S : JS) (Q : Int32 → JS → Prop) : Prop :=
  jA S l0 12 ∧ (((jI S l0 17) ≤ l2 → ¬ jR S l0 3 = none ∧ (jA S (jr S l0 3) 13 ∧ (vp_in (3 : Int32) (jZ S (jr S l0 3)) ∧ (∀ S34 : JS, S34 = uI S (jr S l0 3) (3 : Int32).toNatClampNeg ((jI S (jr S l0 3) (3 : Int32).toNatClampNeg) + (1 : Int32)) → (jA S34 l0 12 ∧ (¬ jR S34 l0 3 = none ∧ (jA S34 (jr S34 l0 3) 13 ∧ (vp_in (3 : Int32) (jZ S34 (jr S34 l0 3)) ∧ (wX12_tell l0 ((jI S34 (jr S34 l0 3) (3 : Int32).toNatClampNeg) - (1 : Int32)) S34 (fun r40 S39 => Q r40 S39)))))))))) ∧ (¬ ((jI S l0 17) ≤ l2) → ¬ jR S l0 3 = none ∧ (¬ jR S l0 18 = none ∧ (jA S (jr S l0 18) 13 ∧ (vp_in l2 (jZ S (jr S l0 18)) ∧ (jA S (jr S l0 3) 13 ∧ (vp_in ((l1 + (98 : Int32)) + ((2 : Int32) * l2)) (jZ S (jr S l0 3)) ∧ (∀ S47 : JS, S47 = uI S (jr S l0 3) ((l1 + (98 : Int32)) + ((2 : Int32) * l2)).toNatClampNeg (jI S (jr S l0 18) l2.toNatClampNeg) → (jA S47 l0 12 ∧ (¬ jR S47 l0 3 = none ∧ (¬ jR S47 l0 19 = none ∧ (jA S47 (jr S47 l0 19) 13 ∧ (vp_in l2 (jZ S47 (jr S47 l0 19)) ∧ (jA S47 (jr S47 l0 3) 13 ∧ (vp_in (((l1 + (98 : Int32)) + ((2 : Int32) * l2)) + (1 : Int32)) (jZ S47 (jr S47 l0 3)) ∧ (∀ S55 : JS, S55 = uI S47 (jr S47 l0 3) (((l1 + (98 : Int32)) + ((2 : Int32) * l2)) + (1 : Int32)).toNatClampNeg (jI S47 (jr S47 l0 19) l2.toNatClampNeg) → (∀ x56 : Int32, x56 = (l2 + 1) → (X101 l0 l1 x56 S55))))))))))))))))))
set_option maxRecDepth 20000 in
theorem uX12_law_101 {Q : Int32 → JS → Prop}  (d : Nat) (hd : 8 ≤ d) {X101 : Nat → Int32 → Int32 → JS → Prop} (hX101 : ∀ l0 l1 l2 S, X101 l0 l1 l2 S → jLf (jCall jmt jbud d) jbud (fun j => (jmt j).rk) none mX12_law (jqI Q) (101, [some (.ref l0), some (.int l1), some (.int l2)], [], S, 0, 0)) {l0 : Nat} {l1 : Int32} {l2 : Int32} {S : JS} (h : bX12_law_101 X101 l0 l1 l2 S Q) : jLf (jCall jmt jbud d) jbud (fun j => (jmt j).rk) none mX12_law (jqI Q) (101, [some (.ref l0), some (.int l1), some (.int l2)], [], S, 0, 0) := by
  have hc := jCall_mono jmt jbud d
  unfold bX12_law_101 at h
  obtain ⟨g30, h⟩ := h
  refine jLf.bk hc 3 [jA S l0 12] [some (.ref l0), some (.int l1), some (.int l2)] [.int (jI S l0 17), .int l2] S rfl rfl rfl g30 ?_
  refine jLf.two hc _ rfl (gs := []) (p1 := (jI S l0 17) ≤ l2) (p2 := ¬ ((jI S l0 17) ≤ l2)) (c1 := (137, [some (.ref l0), some (.int l1), some (.int l2)], [], S, 0, 0)) (c2 := (105, [some (.ref l0), some (.int l1), some (.int l2)], [], S, 0, 0)) rfl trivial (fun hz => ?_) (fun hz => ?_)
  · have h := h.1 hz
    obtain ⟨g31, g32, g33, h⟩ := h
    refine jLf.bk hc 8 [jA S l0 12, ¬ jR S l0 3 = none, jA S (jr S l0 3) 13, vp_in (3 : Int32) (jZ S (jr S l0 3)), jA S (jr S l0 3) 13, vp_in (3 : Int32) (jZ S (jr S l0 3))] [some (.ref l0), some (.int l1), some (.int l2)] [] (uI S (jr S l0 3) (3 : Int32).toNatClampNeg ((jI S (jr S l0 3) (3 : Int32).toNatClampNeg) + (1 : Int32))) rfl rfl rfl ⟨g30, g31, g32, g33, g32, g33⟩ ?_
    generalize eS34 : uI S (jr S l0 3) (3 : Int32).toNatClampNeg ((jI S (jr S l0 3) (3 : Int32).toNatClampNeg) + (1 : Int32)) = S34
    have h := h S34 eS34.symm
    obtain ⟨g35, g36, g37, g38, h⟩ := h
    refine jLf.bk hc 7 [jA S34 l0 12, ¬ jR S34 l0 3 = none, jA S34 (jr S34 l0 3) 13, vp_in (3 : Int32) (jZ S34 (jr S34 l0 3))] [some (.ref l0), some (.int l1), some (.int l2)] [.int ((jI S34 (jr S34 l0 3) (3 : Int32).toNatClampNeg) - (1 : Int32)), .ref l0] S34 rfl rfl rfl ⟨g35, g36, g37, g38⟩ ?_
    refine jLf.inv hc _ rfl (gs := [jA S34 l0 12, (([] : List Value).map fun v => v.category).sum ≤ 8, 0 ≤ 0, 0 ≤ 0]) (k := 150) (args := [.ref l0, .int ((jI S34 (jr S34 l0 3) (3 : Int32).toNatClampNeg) - (1 : Int32))]) (r := []) (a := 0) (b := 0) rfl ⟨g35, Nat.le_of_ble_eq_true rfl, Nat.zero_le _, Nat.zero_le _⟩ (vX12_tell d (by omega) h) ?_
    rintro v S39 ⟨r40, rfl, h⟩
    show jLf (jCall jmt jbud d) jbud (fun j => (jmt j).rk) none mX12_law (jqI Q) (153, [some (.ref l0), some (.int l1), some (.int l2)], [.int r40], S39, 0, 0)
    exact jLf.ret hc _ rfl (gs := [True]) (v := some (.int r40)) rfl trivial ⟨r40, rfl, h⟩
  · have h := h.2 hz
    obtain ⟨g41, g42, g43, g44, g45, g46, h⟩ := h
    refine jLf.bk hc 14 [jA S l0 12, ¬ jR S l0 3 = none, jA S l0 12, ¬ jR S l0 18 = none, jA S (jr S l0 18) 13, vp_in l2 (jZ S (jr S l0 18)), jA S (jr S l0 3) 13, vp_in ((l1 + (98 : Int32)) + ((2 : Int32) * l2)) (jZ S (jr S l0 3))] [some (.ref l0), some (.int l1), some (.int l2)] [] (uI S (jr S l0 3) ((l1 + (98 : Int32)) + ((2 : Int32) * l2)).toNatClampNeg (jI S (jr S l0 18) l2.toNatClampNeg)) rfl rfl rfl ⟨g30, g41, g30, g42, g43, g44, g45, g46⟩ ?_
    generalize eS47 : uI S (jr S l0 3) ((l1 + (98 : Int32)) + ((2 : Int32) * l2)).toNatClampNeg (jI S (jr S l0 18) l2.toNatClampNeg) = S47
    have h := h S47 eS47.symm
    obtain ⟨g48, g49, g50, g51, g52, g53, g54, h⟩ := h
    refine jLf.bk hc 16 [jA S47 l0 12, ¬ jR S47 l0 3 = none, jA S47 l0 12, ¬ jR S47 l0 19 = none, jA S47 (jr S47 l0 19) 13, vp_in l2 (jZ S47 (jr S47 l0 19)), jA S47 (jr S47 l0 3) 13, vp_in (((l1 + (98 : Int32)) + ((2 : Int32) * l2)) + (1 : Int32)) (jZ S47 (jr S47 l0 3))] [some (.ref l0), some (.int l1), some (.int l2)] [] (uI S47 (jr S47 l0 3) (((l1 + (98 : Int32)) + ((2 : Int32) * l2)) + (1 : Int32)).toNatClampNeg (jI S47 (jr S47 l0 19) l2.toNatClampNeg)) rfl rfl rfl ⟨g48, g49, g48, g50, g51, g52, g53, g54⟩ ?_
    generalize eS55 : uI S47 (jr S47 l0 3) (((l1 + (98 : Int32)) + ((2 : Int32) * l2)) + (1 : Int32)).toNatClampNeg (jI S47 (jr S47 l0 19) l2.toNatClampNeg) = S55
    have h := h S55 eS55.symm
    refine jLf.bk hc 1 [] [some (.ref l0), some (.int l1), some (.int (l2 + 1))] [] S55 rfl rfl rfl trivial ?_
    generalize ex56 : (l2 + 1 : Int32) = x56
    have h := h x56 ex56.symm
    refine jLf.one hc _ rfl (gs := []) (c := (101, [some (.ref l0), some (.int l1), some (.int x56)], [], S55, 0, 0)) rfl trivial ?_
    exact hX101 _ _ _ _ h
def wX12_law_101   (l0 : Nat) (l1 : Int32) (l2 : Int32) (S : JS) (Q : Int32 → JS → Prop) : Prop :=
  jLoop (fun (X101 : Nat × Int32 × Int32 × JS → Prop) q => bX12_law_101 (fun l0 l1 l2 S => X101 (l0, l1, l2, S)) q.1 q.2.1 q.2.2.1 q.2.2.2 Q) (l0, l1, l2, S)
set_option maxRecDepth 20000 in
theorem tX12_law_101 {Q : Int32 → JS → Prop}  (d : Nat) (hd : 8 ≤ d) {l0 : Nat} {l1 : Int32} {l2 : Int32} {S : JS} (h : wX12_law_101 l0 l1 l2 S Q) : jLf (jCall jmt jbud d) jbud (fun j => (jmt j).rk) none mX12_law (jqI Q) (101, [some (.ref l0), some (.int l1), some (.int l2)], [], S, 0, 0) := by
  have := h (fun q : Nat × Int32 × Int32 × JS => jLf (jCall jmt jbud d) jbud (fun j => (jmt j).rk) none mX12_law (jqI Q) (101, [some (.ref (q.1)), some (.int (q.2.1)), some (.int (q.2.2.1))], [], q.2.2.2, 0, 0)) (fun q R hb hR => uX12_law_101 d hd  (fun _ _ _ _ => hR _) hb)
  exact this
def bX12_law_79   (X79 : Nat → Int32 → Int32 → JS → Prop) (l0 : Nat) (l1 : Int32) (l2 : Int32) (S : JS) (Q : Int32 → JS → Prop) : Prop :=
  jA S l0 12 ∧ ((((8 : Int32) * (jI S l0 15)) ≤ l2 → wX12_law_101 l0 l1 0 S Q) ∧ (¬ (((8 : Int32) * (jI S l0 15)) ≤ l2) → ¬ jR S l0 3 = none ∧ (¬ jR S l0 16 = none ∧ (jA S (jr S l0 16) 13 ∧ (vp_in l2 (jZ S (jr S l0 16)) ∧ (jA S (jr S l0 3) 13 ∧ (vp_in ((l1 + (2 : Int32)) + l2) (jZ S (jr S l0 3)) ∧ (∀ S63 : JS, S63 = uI S (jr S l0 3) ((l1 + (2 : Int32)) + l2).toNatClampNeg (jI S (jr S l0 16) l2.toNatClampNeg) → (∀ x64 : Int32, x64 = (l2 + 1) → (X79 l0 l1 x64 S63))))))))))
set_option maxRecDepth 20000 in
theorem uX12_law_79 {Q : Int32 → JS → Prop}  (d : Nat) (hd : 8 ≤ d) {X79 : Nat → Int32 → Int32 → JS → Prop} (hX79 : ∀ l0 l1 l2 S, X79 l0 l1 l2 S → jLf (jCall jmt jbud d) jbud (fun j => (jmt j).rk) none mX12_law (jqI Q) (79, [some (.ref l0), some (.int l1), some (.int l2)], [], S, 0, 0)) {l0 : Nat} {l1 : Int32} {l2 : Int32} {S : JS} (h : bX12_law_79 X79 l0 l1 l2 S Q) : jLf (jCall jmt jbud d) jbud (fun j => (jmt j).rk) none mX12_law (jqI Q) (79, [some (.ref l0), some (.int l1), some (.int l2)], [], S, 0, 0) := by
  have hc := jCall_mono jmt jbud d
  unfold bX12_law_79 at h
  obtain ⟨g29, h⟩ := h
  refine jLf.bk hc 5 [jA S l0 12] [some (.ref l0), some (.int l1), some (.int l2)] [.int ((8 : Int32) * (jI S l0 15)), .int l2] S rfl rfl rfl g29 ?_
  refine jLf.two hc _ rfl (gs := []) (p1 := ((8 : Int32) * (jI S l0 15)) ≤ l2) (p2 := ¬ (((8 : Int32) * (jI S l0 15)) ≤ l2)) (c1 := (99, [some (.ref l0), some (.int l1), some (.int l2)], [], S, 0, 0)) (c2 := (85, [some (.ref l0), some (.int l1), some (.int l2)], [], S, 0, 0)) rfl trivial (fun hz => ?_) (fun hz => ?_)
  · have h := h.1 hz
    refine jLf.bk hc 2 [] [some (.ref l0), some (.int l1), some (.int 0)] [] S rfl rfl rfl trivial ?_
    exact tX12_law_101 d hd  h
  · have h := h.2 hz
    obtain ⟨g57, g58, g59, g60, g61, g62, h⟩ := h
    refine jLf.bk hc 12 [jA S l0 12, ¬ jR S l0 3 = none, jA S l0 12, ¬ jR S l0 16 = none, jA S (jr S l0 16) 13, vp_in l2 (jZ S (jr S l0 16)), jA S (jr S l0 3) 13, vp_in ((l1 + (2 : Int32)) + l2) (jZ S (jr S l0 3))] [some (.ref l0), some (.int l1), some (.int l2)] [] (uI S (jr S l0 3) ((l1 + (2 : Int32)) + l2).toNatClampNeg (jI S (jr S l0 16) l2.toNatClampNeg)) rfl rfl rfl ⟨g29, g57, g29, g58, g59, g60, g61, g62⟩ ?_
    generalize eS63 : uI S (jr S l0 3) ((l1 + (2 : Int32)) + l2).toNatClampNeg (jI S (jr S l0 16) l2.toNatClampNeg) = S63
    have h := h S63 eS63.symm
    refine jLf.bk hc 1 [] [some (.ref l0), some (.int l1), some (.int (l2 + 1))] [] S63 rfl rfl rfl trivial ?_
    generalize ex64 : (l2 + 1 : Int32) = x64
    have h := h x64 ex64.symm
    refine jLf.one hc _ rfl (gs := []) (c := (79, [some (.ref l0), some (.int l1), some (.int x64)], [], S63, 0, 0)) rfl trivial ?_
    exact hX79 _ _ _ _ h
def wX12_law_79   (l0 : Nat) (l1 : Int32) (l2 : Int32) (S : JS) (Q : Int32 → JS → Prop) : Prop :=
  jLoop (fun (X79 : Nat × Int32 × Int32 × JS → Prop) q => bX12_law_79 (fun l0 l1 l2 S => X79 (l0, l1, l2, S)) q.1 q.2.1 q.2.2.1 q.2.2.2 Q) (l0, l1, l2, S)
set_option maxRecDepth 20000 in
theorem tX12_law_79 {Q : Int32 → JS → Prop}  (d : Nat) (hd : 8 ≤ d) {l0 : Nat} {l1 : Int32} {l2 : Int32} {S : JS} (h : wX12_law_79 l0 l1 l2 S Q) : jLf (jCall jmt jbud d) jbud (fun j => (jmt j).rk) none mX12_law (jqI Q) (79, [some (.ref l0), some (.int l1), some (.int l2)], [], S, 0, 0) := by
  have := h (fun q : Nat × Int32 × Int32 × JS => jLf (jCall jmt jbud d) jbud (fun j => (jmt j).rk) none mX12_law (jqI Q) (79, [some (.ref (q.1)), some (.int (q.2.1)), some (.int (q.2.2.1))], [], q.2.2.2, 0, 0)) (fun q R hb hR => uX12_law_79 d hd  (fun _ _ _ _ => hR _) hb)
  exact this
def wX12_law_50   (l0 : Nat) (S : JS) (Q : Int32 → JS → Prop) : Prop :=
  jA S l0 12 ∧ (∀ S21 : JS, S21 = uI S l0 8 0 → (jA S21 l0 12 ∧ (((jI S21 l0 14) = 0 → ¬ jR S21 l0 3 = none ∧ (jA S21 (jr S21 l0 3) 13 ∧ (vp_in (3 : Int32) (jZ S21 (jr S21 l0 3)) ∧ (∀ x26 : Int32, x26 = ((200 : Int32) + ((900 : Int32) * (jI S21 (jr S21 l0 3) (3 : Int32).toNatClampNeg))) → (vp_in (x26 + (1 : Int32)) (jZ S21 (jr S21 l0 3)) ∧ (∀ S28 : JS, S28 = uI S21 (jr S21 l0 3) (x26 + (1 : Int32)).toNatClampNeg (jI S21 l0 15) → (wX12_law_79 l0 x26 0 S28 Q))))))) ∧ (¬ (jI S21 l0 14) = 0 → wX12_tell l0 (-6) S21 (fun r66 S65 => Q r66 S65)))))
set_option maxRecDepth 20000 in
theorem tX12_law_50 {Q : Int32 → JS → Prop}  (d : Nat) (hd : 8 ≤ d) {l0 : Nat} {S : JS} (h : wX12_law_50 l0 S Q) : jLf (jCall jmt jbud d) jbud (fun j => (jmt j).rk) none mX12_law (jqI Q) (50, [some (.ref l0), none, none], [], S, 0, 0) := by
  have hc := jCall_mono jmt jbud d
  unfold wX12_law_50 at h
  obtain ⟨g20, h⟩ := h
  refine jLf.bk hc 3 [jA S l0 12] [some (.ref l0), none, none] [] (uI S l0 8 0) rfl rfl rfl g20 ?_
  generalize eS21 : uI S l0 8 0 = S21
  have h := h S21 eS21.symm
  obtain ⟨g22, h⟩ := h
  refine jLf.bk hc 2 [jA S21 l0 12] [some (.ref l0), none, none] [.int (jI S21 l0 14)] S21 rfl rfl rfl g22 ?_
  refine jLf.two hc _ rfl (gs := []) (p1 := (jI S21 l0 14) = 0) (p2 := ¬ ((jI S21 l0 14) = 0)) (c1 := (60, [some (.ref l0), none, none], [], S21, 0, 0)) (c2 := (56, [some (.ref l0), none, none], [], S21, 0, 0)) rfl trivial (fun hz => ?_) (fun hz => ?_)
  · have h := h.1 hz
    obtain ⟨g23, g24, g25, h⟩ := h
    refine jLf.bk hc 9 [jA S21 l0 12, ¬ jR S21 l0 3 = none, jA S21 (jr S21 l0 3) 13, vp_in (3 : Int32) (jZ S21 (jr S21 l0 3))] [some (.ref l0), some (.int ((200 : Int32) + ((900 : Int32) * (jI S21 (jr S21 l0 3) (3 : Int32).toNatClampNeg)))), none] [] S21 rfl rfl rfl ⟨g22, g23, g24, g25⟩ ?_
    generalize ex26 : ((200 : Int32) + ((900 : Int32) * (jI S21 (jr S21 l0 3) (3 : Int32).toNatClampNeg)) : Int32) = x26
    have h := h x26 ex26.symm
    obtain ⟨g27, h⟩ := h
    refine jLf.bk hc 8 [jA S21 l0 12, ¬ jR S21 l0 3 = none, jA S21 l0 12, jA S21 (jr S21 l0 3) 13, vp_in (x26 + (1 : Int32)) (jZ S21 (jr S21 l0 3))] [some (.ref l0), some (.int x26), none] [] (uI S21 (jr S21 l0 3) (x26 + (1 : Int32)).toNatClampNeg (jI S21 l0 15)) rfl rfl rfl ⟨g22, g23, g22, g24, g27⟩ ?_
    generalize eS28 : uI S21 (jr S21 l0 3) (x26 + (1 : Int32)).toNatClampNeg (jI S21 l0 15) = S28
    have h := h S28 eS28.symm
    refine jLf.bk hc 2 [] [some (.ref l0), some (.int x26), some (.int 0)] [] S28 rfl rfl rfl trivial ?_
    exact tX12_law_79 d hd  h
  · have h := h.2 hz
    refine jLf.bk hc 2 [] [some (.ref l0), none, none] [.int (-6), .ref l0] S21 rfl rfl rfl trivial ?_
    refine jLf.inv hc _ rfl (gs := [jA S21 l0 12, (([] : List Value).map fun v => v.category).sum ≤ 8, 0 ≤ 0, 0 ≤ 0]) (k := 150) (args := [.ref l0, .int (-6)]) (r := []) (a := 0) (b := 0) rfl ⟨g22, Nat.le_of_ble_eq_true rfl, Nat.zero_le _, Nat.zero_le _⟩ (vX12_tell d (by omega) h) ?_
    rintro v S65 ⟨r66, rfl, h⟩
    show jLf (jCall jmt jbud d) jbud (fun j => (jmt j).rk) none mX12_law (jqI Q) (59, [some (.ref l0), none, none], [.int r66], S65, 0, 0)
    exact jLf.ret hc _ rfl (gs := [True]) (v := some (.int r66)) rfl trivial ⟨r66, rfl, h⟩
def wX12_law_41   (l0 : Nat) (S : JS) (Q : Int32 → JS → Prop) : Prop :=
  jA S l0 12 ∧ ((¬ (jI S l0 14) = 0 → wX12_law_50 l0 S Q) ∧ ((jI S l0 14) = 0 → ((jI S l0 11) = 0 → wX12_law_50 l0 S Q) ∧ (¬ (jI S l0 11) = 0 → wX12_must l0 0 S (fun S67 => wX12_law_50 l0 S67 Q))))
set_option maxRecDepth 20000 in
theorem tX12_law_41 {Q : Int32 → JS → Prop}  (d : Nat) (hd : 8 ≤ d) {l0 : Nat} {S : JS} (h : wX12_law_41 l0 S Q) : jLf (jCall jmt jbud d) jbud (fun j => (jmt j).rk) none mX12_law (jqI Q) (41, [some (.ref l0), none, none], [], S, 0, 0) := by
  have hc := jCall_mono jmt jbud d
  unfold wX12_law_41 at h
  obtain ⟨g19, h⟩ := h
  refine jLf.bk hc 2 [jA S l0 12] [some (.ref l0), none, none] [.int (jI S l0 14)] S rfl rfl rfl g19 ?_
  refine jLf.two hc _ rfl (gs := []) (p1 := ¬ (jI S l0 14) = 0) (p2 := ¬ (¬ (jI S l0 14) = 0)) (c1 := (50, [some (.ref l0), none, none], [], S, 0, 0)) (c2 := (44, [some (.ref l0), none, none], [], S, 0, 0)) rfl trivial (fun hz => ?_) (fun hz => ?_)
  · have h := h.1 hz
    exact tX12_law_50 d hd  h
  · have h := h.2 (Classical.not_not.mp hz)
    refine jLf.bk hc 2 [jA S l0 12] [some (.ref l0), none, none] [.int (jI S l0 11)] S rfl rfl rfl g19 ?_
    refine jLf.two hc _ rfl (gs := []) (p1 := (jI S l0 11) = 0) (p2 := ¬ ((jI S l0 11) = 0)) (c1 := (50, [some (.ref l0), none, none], [], S, 0, 0)) (c2 := (47, [some (.ref l0), none, none], [], S, 0, 0)) rfl trivial (fun hz => ?_) (fun hz => ?_)
    · have h := h.1 hz
      exact tX12_law_50 d hd  h
    · have h := h.2 hz
      refine jLf.bk hc 2 [] [some (.ref l0), none, none] [.int 0, .ref l0] S rfl rfl rfl trivial ?_
      refine jLf.inv hc _ rfl (gs := [jA S l0 12, (([] : List Value).map fun v => v.category).sum ≤ 8, 0 ≤ 0, 0 ≤ 0]) (k := 172) (args := [.ref l0, .int 0]) (r := []) (a := 0) (b := 0) rfl ⟨g19, Nat.le_of_ble_eq_true rfl, Nat.zero_le _, Nat.zero_le _⟩ (vX12_must d (by omega) h) ?_
      rintro v S67 ⟨rfl, h⟩
      show jLf (jCall jmt jbud d) jbud (fun j => (jmt j).rk) none mX12_law (jqI Q) (50, [some (.ref l0), none, none], [], S67, 0, 0)
      exact tX12_law_50 d hd  h
def bX12_law_29   (X29 : Nat → JS → Prop) (l0 : Nat) (S : JS) (Q : Int32 → JS → Prop) : Prop :=
  jA S l0 12 ∧ ((¬ (jI S l0 14) = 0 → wX12_law_41 l0 S Q) ∧ ((jI S l0 14) = 0 → wX12_isSign l0 59 S (fun r70 S69 => (r70 = 0 → wX12_law_41 l0 S69 Q) ∧ (¬ r70 = 0 → jA S69 l0 12 ∧ (wX12_next l0 S69 (fun S71 => jA S71 l0 12 ∧ (wX12_readClause l0 S71 (fun S74 => X29 l0 S74))))))))
set_option maxRecDepth 20000 in
theorem uX12_law_29 {Q : Int32 → JS → Prop}  (d : Nat) (hd : 8 ≤ d) {X29 : Nat → JS → Prop} (hX29 : ∀ l0 S, X29 l0 S → jLf (jCall jmt jbud d) jbud (fun j => (jmt j).rk) none mX12_law (jqI Q) (29, [some (.ref l0), none, none], [], S, 0, 0)) {l0 : Nat} {S : JS} (h : bX12_law_29 X29 l0 S Q) : jLf (jCall jmt jbud d) jbud (fun j => (jmt j).rk) none mX12_law (jqI Q) (29, [some (.ref l0), none, none], [], S, 0, 0) := by
  have hc := jCall_mono jmt jbud d
  unfold bX12_law_29 at h
  obtain ⟨g18, h⟩ := h
  refine jLf.bk hc 2 [jA S l0 12] [some (.ref l0), none, none] [.int (jI S l0 14)] S rfl rfl rfl g18 ?_
  refine jLf.two hc _ rfl (gs := []) (p1 := ¬ (jI S l0 14) = 0) (p2 := ¬ (¬ (jI S l0 14) = 0)) (c1 := (41, [some (.ref l0), none, none], [], S, 0, 0)) (c2 := (32, [some (.ref l0), none, none], [], S, 0, 0)) rfl trivial (fun hz => ?_) (fun hz => ?_)
  · have h := h.1 hz
    exact tX12_law_41 d hd  h
  · have h := h.2 (Classical.not_not.mp hz)
    refine jLf.bk hc 2 [] [some (.ref l0), none, none] [.int 59, .ref l0] S rfl rfl rfl trivial ?_
    refine jLf.inv hc _ rfl (gs := [jA S l0 12, (([] : List Value).map fun v => v.category).sum ≤ 8, 0 ≤ 0, 0 ≤ 0]) (k := 171) (args := [.ref l0, .int 59]) (r := []) (a := 0) (b := 0) rfl ⟨g18, Nat.le_of_ble_eq_true rfl, Nat.zero_le _, Nat.zero_le _⟩ (vX12_isSign d (by omega) h) ?_
    rintro v S69 ⟨r70, rfl, h⟩
    show jLf (jCall jmt jbud d) jbud (fun j => (jmt j).rk) none mX12_law (jqI Q) (35, [some (.ref l0), none, none], [.int r70], S69, 0, 0)
    refine jLf.two hc _ rfl (gs := []) (p1 := r70 = 0) (p2 := ¬ (r70 = 0)) (c1 := (41, [some (.ref l0), none, none], [], S69, 0, 0)) (c2 := (36, [some (.ref l0), none, none], [], S69, 0, 0)) rfl trivial (fun hz => ?_) (fun hz => ?_)
    · have h := h.1 hz
      exact tX12_law_41 d hd  h
    · have h := h.2 hz
      refine jLf.bk hc 1 [] [some (.ref l0), none, none] [.ref l0] S69 rfl rfl rfl trivial ?_
      obtain ⟨g73, h⟩ := h
      refine jLf.inv hc _ rfl (gs := [jA S69 l0 12, (([] : List Value).map fun v => v.category).sum ≤ 8, 0 ≤ 0, 0 ≤ 0]) (k := 169) (args := [.ref l0]) (r := []) (a := 0) (b := 0) rfl ⟨g73, Nat.le_of_ble_eq_true rfl, Nat.zero_le _, Nat.zero_le _⟩ (vX12_next d (by omega) h) ?_
      rintro v S71 ⟨rfl, h⟩
      show jLf (jCall jmt jbud d) jbud (fun j => (jmt j).rk) none mX12_law (jqI Q) (38, [some (.ref l0), none, none], [], S71, 0, 0)
      refine jLf.bk hc 1 [] [some (.ref l0), none, none] [.ref l0] S71 rfl rfl rfl trivial ?_
      obtain ⟨g76, h⟩ := h
      refine jLf.inv hc _ rfl (gs := [jA S71 l0 12, (([] : List Value).map fun v => v.category).sum ≤ 8, 0 ≤ 0, 0 ≤ 0]) (k := 188) (args := [.ref l0]) (r := []) (a := 0) (b := 0) rfl ⟨g76, Nat.le_of_ble_eq_true rfl, Nat.zero_le _, Nat.zero_le _⟩ (vX12_readClause d (by omega) h) ?_
      rintro v S74 ⟨rfl, h⟩
      show jLf (jCall jmt jbud d) jbud (fun j => (jmt j).rk) none mX12_law (jqI Q) (40, [some (.ref l0), none, none], [], S74, 0, 0)
      refine jLf.one hc _ rfl (gs := []) (c := (29, [some (.ref l0), none, none], [], S74, 0, 0)) rfl trivial ?_
      exact hX29 _ _ h
def wX12_law_29   (l0 : Nat) (S : JS) (Q : Int32 → JS → Prop) : Prop :=
  jLoop (fun (X29 : Nat × JS → Prop) q => bX12_law_29 (fun l0 S => X29 (l0, S)) q.1 q.2 Q) (l0, S)
set_option maxRecDepth 20000 in
theorem tX12_law_29 {Q : Int32 → JS → Prop}  (d : Nat) (hd : 8 ≤ d) {l0 : Nat} {S : JS} (h : wX12_law_29 l0 S Q) : jLf (jCall jmt jbud d) jbud (fun j => (jmt j).rk) none mX12_law (jqI Q) (29, [some (.ref l0), none, none], [], S, 0, 0) := by
  have := h (fun q : Nat × JS => jLf (jCall jmt jbud d) jbud (fun j => (jmt j).rk) none mX12_law (jqI Q) (29, [some (.ref (q.1)), none, none], [], q.2, 0, 0)) (fun q R hb hR => uX12_law_29 d hd  (fun _ _ => hR _) hb)
  exact this
def wX12_law  (this : Nat) (S : JS) (Q : Int32 → JS → Prop) : Prop :=
  jA S this 12 ∧ (∀ S2 : JS, S2 = uI S this 0 0 → (jA S2 this 12 ∧ (¬ jR S2 this 3 = none ∧ (jA S2 (jr S2 this 3) 13 ∧ (vp_in (3 : Int32) (jZ S2 (jr S2 this 3)) ∧ ((¬ (jI S2 (jr S2 this 3) (3 : Int32).toNatClampNeg) = 6 → wX12_begin this S2 (fun S7 => jA S7 this 12 ∧ (∀ S10 : JS, S10 = uI S7 this 15 0 → (jA S10 this 12 ∧ (∀ S12 : JS, S12 = uI S10 this 17 0 → (jA S12 this 12 ∧ (∀ S14 : JS, S14 = uI S12 this 20 0 → (jA S14 this 12 ∧ (wX12_readClause this S14 (fun S15 => wX12_law_29 this S15 Q)))))))))) ∧ ((jI S2 (jr S2 this 3) (3 : Int32).toNatClampNeg) = 6 → ∀ S77 : JS, S77 = uI S2 this 8 0 → (jA S77 this 12 ∧ (wX12_tell this (-5) S77 (fun r79 S78 => Q r79 S78))))))))))
set_option maxRecDepth 20000 in
theorem vX12_law {Q : Int32 → JS → Prop} (d : Nat) (hd : 9 ≤ d) {this : Nat} {S : JS} (h : wX12_law this S Q) : jCall jmt jbud d 189 [.ref this] S (jqI Q) := by
  obtain ⟨d, rfl⟩ : ∃ d2, d = d2 + 1 := ⟨d - 1, by omega⟩
  have hd : 8 ≤ d := by omega
  have hc := jCall_mono jmt jbud d
  unfold wX12_law at h
  refine ⟨Nat.le_of_ble_eq_true rfl, ?_⟩
  show jLf (jCall jmt jbud d) jbud (fun j => (jmt j).rk) none mX12_law (jqI Q) (0, [some (.ref this), none, none], [], S, 0, 0)
  obtain ⟨g1, h⟩ := h
  refine jLf.bk hc 3 [jA S this 12] [some (.ref this), none, none] [] (uI S this 0 0) rfl rfl rfl g1 ?_
  generalize eS2 : uI S this 0 0 = S2
  have h := h S2 eS2.symm
  obtain ⟨g3, g4, g5, g6, h⟩ := h
  refine jLf.bk hc 5 [jA S2 this 12, ¬ jR S2 this 3 = none, jA S2 (jr S2 this 3) 13, vp_in (3 : Int32) (jZ S2 (jr S2 this 3))] [some (.ref this), none, none] [.int 6, .int (jI S2 (jr S2 this 3) (3 : Int32).toNatClampNeg)] S2 rfl rfl rfl ⟨g3, g4, g5, g6⟩ ?_
  refine jLf.two hc _ rfl (gs := []) (p1 := ¬ (jI S2 (jr S2 this 3) (3 : Int32).toNatClampNeg) = 6) (p2 := ¬ (¬ (jI S2 (jr S2 this 3) (3 : Int32).toNatClampNeg) = 6)) (c1 := (16, [some (.ref this), none, none], [], S2, 0, 0)) (c2 := (9, [some (.ref this), none, none], [], S2, 0, 0)) rfl trivial (fun hz => ?_) (fun hz => ?_)
  · have h := h.1 hz
    refine jLf.bk hc 1 [] [some (.ref this), none, none] [.ref this] S2 rfl rfl rfl trivial ?_
    refine jLf.inv hc _ rfl (gs := [jA S2 this 12, (([] : List Value).map fun v => v.category).sum ≤ 8, 0 ≤ 0, 0 ≤ 0]) (k := 168) (args := [.ref this]) (r := []) (a := 0) (b := 0) rfl ⟨g3, Nat.le_of_ble_eq_true rfl, Nat.zero_le _, Nat.zero_le _⟩ (vX12_begin d (by omega) h) ?_
    rintro v S7 ⟨rfl, h⟩
    show jLf (jCall jmt jbud d) jbud (fun j => (jmt j).rk) none mX12_law (jqI Q) (18, [some (.ref this), none, none], [], S7, 0, 0)
    obtain ⟨g9, h⟩ := h
    refine jLf.bk hc 3 [jA S7 this 12] [some (.ref this), none, none] [] (uI S7 this 15 0) rfl rfl rfl g9 ?_
    generalize eS10 : uI S7 this 15 0 = S10
    have h := h S10 eS10.symm
    obtain ⟨g11, h⟩ := h
    refine jLf.bk hc 3 [jA S10 this 12] [some (.ref this), none, none] [] (uI S10 this 17 0) rfl rfl rfl g11 ?_
    generalize eS12 : uI S10 this 17 0 = S12
    have h := h S12 eS12.symm
    obtain ⟨g13, h⟩ := h
    refine jLf.bk hc 3 [jA S12 this 12] [some (.ref this), none, none] [] (uI S12 this 20 0) rfl rfl rfl g13 ?_
    generalize eS14 : uI S12 this 20 0 = S14
    have h := h S14 eS14.symm
    refine jLf.bk hc 1 [] [some (.ref this), none, none] [.ref this] S14 rfl rfl rfl trivial ?_
    obtain ⟨g17, h⟩ := h
    refine jLf.inv hc _ rfl (gs := [jA S14 this 12, (([] : List Value).map fun v => v.category).sum ≤ 8, 0 ≤ 0, 0 ≤ 0]) (k := 188) (args := [.ref this]) (r := []) (a := 0) (b := 0) rfl ⟨g17, Nat.le_of_ble_eq_true rfl, Nat.zero_le _, Nat.zero_le _⟩ (vX12_readClause d (by omega) h) ?_
    rintro v S15 ⟨rfl, h⟩
    show jLf (jCall jmt jbud d) jbud (fun j => (jmt j).rk) none mX12_law (jqI Q) (29, [some (.ref this), none, none], [], S15, 0, 0)
    exact tX12_law_29 d hd  h
  · have h := h.2 (Classical.not_not.mp hz)
    refine jLf.bk hc 3 [jA S2 this 12] [some (.ref this), none, none] [] (uI S2 this 8 0) rfl rfl rfl g3 ?_
    generalize eS77 : uI S2 this 8 0 = S77
    have h := h S77 eS77.symm
    refine jLf.bk hc 2 [] [some (.ref this), none, none] [.int (-5), .ref this] S77 rfl rfl rfl trivial ?_
    obtain ⟨g80, h⟩ := h
    refine jLf.inv hc _ rfl (gs := [jA S77 this 12, (([] : List Value).map fun v => v.category).sum ≤ 8, 0 ≤ 0, 0 ≤ 0]) (k := 150) (args := [.ref this, .int (-5)]) (r := []) (a := 0) (b := 0) rfl ⟨g80, Nat.le_of_ble_eq_true rfl, Nat.zero_le _, Nat.zero_le _⟩ (vX12_tell d (by omega) h) ?_
    rintro v S78 ⟨r79, rfl, h⟩
    show jLf (jCall jmt jbud d) jbud (fun j => (jmt j).rk) none mX12_law (jqI Q) (15, [some (.ref this), none, none], [.int r79], S78, 0, 0)
    exact jLf.ret hc _ rfl (gs := [True]) (v := some (.int r79)) rfl trivial ⟨r79, rfl, h⟩
def wX12_force_18   (l0 : Nat) (l1 : Int32) (S : JS) (Q : Int32 → JS → Prop) : Prop :=
  jA S l0 12 ∧ (wX12_change l0 4 l1 S (fun r4 S3 => Q r4 S3))
set_option maxRecDepth 20000 in
theorem tX12_force_18 {Q : Int32 → JS → Prop}  (d : Nat) (hd : 1 ≤ d) {l0 : Nat} {l1 : Int32} {S : JS} (h : wX12_force_18 l0 l1 S Q) : jLf (jCall jmt jbud d) jbud (fun j => (jmt j).rk) none mX12_force (jqI Q) (18, [some (.ref l0), some (.int l1)], [], S, 0, 0) := by
  have hc := jCall_mono jmt jbud d
  unfold wX12_force_18 at h
  refine jLf.bk hc 3 [] [some (.ref l0), some (.int l1)] [.int l1, .int 4, .ref l0] S rfl rfl rfl trivial ?_
  obtain ⟨g5, h⟩ := h
  refine jLf.inv hc _ rfl (gs := [jA S l0 12, (([] : List Value).map fun v => v.category).sum ≤ 8, 0 ≤ 0, 0 ≤ 0]) (k := 151) (args := [.ref l0, .int 4, .int l1]) (r := []) (a := 0) (b := 0) rfl ⟨g5, Nat.le_of_ble_eq_true rfl, Nat.zero_le _, Nat.zero_le _⟩ (vX12_change d (by omega) h) ?_
  rintro v S3 ⟨r4, rfl, h⟩
  show jLf (jCall jmt jbud d) jbud (fun j => (jmt j).rk) none mX12_force (jqI Q) (22, [some (.ref l0), some (.int l1)], [.int r4], S3, 0, 0)
  refine jLf.one hc _ rfl (gs := []) (c := (26, [some (.ref l0), some (.int l1)], [.int r4], S3, 0, 0)) rfl trivial ?_
  exact jLf.ret hc _ rfl (gs := [True]) (v := some (.int r4)) rfl trivial ⟨r4, rfl, h⟩
def wX12_force  (this : Nat) (p1 : Int32) (S : JS) (Q : Int32 → JS → Prop) : Prop :=
  jA S this 12 ∧ (∀ S2 : JS, S2 = uI S this 0 0 → ((p1 = (-1) → wX12_force_18 this p1 S2 Q) ∧ (¬ p1 = (-1) → jA S2 this 12 ∧ (¬ jR S2 this 3 = none ∧ (jA S2 (jr S2 this 3) 13 ∧ (vp_in (3 : Int32) (jZ S2 (jr S2 this 3)) ∧ (wX12_in (p1.toInt64) 0 (((jI S2 (jr S2 this 3) (3 : Int32).toNatClampNeg).toInt64) - (1 : Int64)) S2 (fun r11 S10 => (r11 = 0 → jA S10 this 12 ∧ (wX12_tell this (-2) S10 (fun r13 S12 => Q r13 S12))) ∧ (¬ r11 = 0 → wX12_force_18 this p1 S10 Q)))))))))
set_option maxRecDepth 20000 in
theorem vX12_force {Q : Int32 → JS → Prop} (d : Nat) (hd : 2 ≤ d) {this : Nat} {p1 : Int32} {S : JS} (h : wX12_force this p1 S Q) : jCall jmt jbud d 190 [.ref this, .int p1] S (jqI Q) := by
  obtain ⟨d, rfl⟩ : ∃ d2, d = d2 + 1 := ⟨d - 1, by omega⟩
  have hd : 1 ≤ d := by omega
  have hc := jCall_mono jmt jbud d
  unfold wX12_force at h
  refine ⟨Nat.le_of_ble_eq_true rfl, ?_⟩
  show jLf (jCall jmt jbud d) jbud (fun j => (jmt j).rk) none mX12_force (jqI Q) (0, [some (.ref this), some (.int p1)], [], S, 0, 0)
  obtain ⟨g1, h⟩ := h
  refine jLf.bk hc 3 [jA S this 12] [some (.ref this), some (.int p1)] [] (uI S this 0 0) rfl rfl rfl g1 ?_
  generalize eS2 : uI S this 0 0 = S2
  have h := h S2 eS2.symm
  refine jLf.bk hc 2 [] [some (.ref this), some (.int p1)] [.int (-1), .int p1] S2 rfl rfl rfl trivial ?_
  refine jLf.two hc _ rfl (gs := []) (p1 := p1 = (-1)) (p2 := ¬ (p1 = (-1))) (c1 := (18, [some (.ref this), some (.int p1)], [], S2, 0, 0)) (c2 := (6, [some (.ref this), some (.int p1)], [], S2, 0, 0)) rfl trivial (fun hz => ?_) (fun hz => ?_)
  · have h := h.1 hz
    exact tX12_force_18 d hd  h
  · have h := h.2 hz
    obtain ⟨g6, g7, g8, g9, h⟩ := h
    refine jLf.bk hc 10 [jA S2 this 12, ¬ jR S2 this 3 = none, jA S2 (jr S2 this 3) 13, vp_in (3 : Int32) (jZ S2 (jr S2 this 3))] [some (.ref this), some (.int p1)] [.long (((jI S2 (jr S2 this 3) (3 : Int32).toNatClampNeg).toInt64) - (1 : Int64)), .long 0, .long (p1.toInt64)] S2 rfl rfl rfl ⟨g6, g7, g8, g9⟩ ?_
    refine jLf.inv hc _ rfl (gs := [3 ≤ ([.long (((jI S2 (jr S2 this 3) (3 : Int32).toNatClampNeg).toInt64) - (1 : Int64)), .long 0, .long (p1.toInt64)] : List Value).length, (([] : List Value).map fun v => v.category).sum ≤ 8, 0 ≤ 0, 0 ≤ 0]) (k := 148) (args := [.long (p1.toInt64), .long 0, .long (((jI S2 (jr S2 this 3) (3 : Int32).toNatClampNeg).toInt64) - (1 : Int64))]) (r := []) (a := 0) (b := 0) rfl ⟨Nat.le_of_ble_eq_true rfl, Nat.le_of_ble_eq_true rfl, Nat.zero_le _, Nat.zero_le _⟩ (vX12_in d (by omega) h) ?_
    rintro v S10 ⟨r11, rfl, h⟩
    show jLf (jCall jmt jbud d) jbud (fun j => (jmt j).rk) none mX12_force (jqI Q) (17, [some (.ref this), some (.int p1)], [.int r11], S10, 0, 0)
    refine jLf.two hc _ rfl (gs := []) (p1 := r11 = 0) (p2 := ¬ (r11 = 0)) (c1 := (23, [some (.ref this), some (.int p1)], [], S10, 0, 0)) (c2 := (18, [some (.ref this), some (.int p1)], [], S10, 0, 0)) rfl trivial (fun hz => ?_) (fun hz => ?_)
    · have h := h.1 hz
      refine jLf.bk hc 2 [] [some (.ref this), some (.int p1)] [.int (-2), .ref this] S10 rfl rfl rfl trivial ?_
      obtain ⟨g14, h⟩ := h
      refine jLf.inv hc _ rfl (gs := [jA S10 this 12, (([] : List Value).map fun v => v.category).sum ≤ 8, 0 ≤ 0, 0 ≤ 0]) (k := 150) (args := [.ref this, .int (-2)]) (r := []) (a := 0) (b := 0) rfl ⟨g14, Nat.le_of_ble_eq_true rfl, Nat.zero_le _, Nat.zero_le _⟩ (vX12_tell d (by omega) h) ?_
      rintro v S12 ⟨r13, rfl, h⟩
      show jLf (jCall jmt jbud d) jbud (fun j => (jmt j).rk) none mX12_force (jqI Q) (26, [some (.ref this), some (.int p1)], [.int r13], S12, 0, 0)
      exact jLf.ret hc _ rfl (gs := [True]) (v := some (.int r13)) rfl trivial ⟨r13, rfl, h⟩
    · have h := h.2 hz
      exact tX12_force_18 d hd  h
def wX12_reckon_22   (l0 : Nat) (l2 : Int64) (l4 : Int64) (s0 : Int32) (s1 : Nat) (S : JS) (Q : Int64 → JS → Prop) : Prop :=
  jA S s1 12 ∧ (jbit s0 ∧ (∀ S3 : JS, S3 = uI S s1 30 s0 → (jA S3 l0 12 ∧ (((jI S3 l0 30) = 0 → ¬ l4 = 0 ∧ (Q (l2 / l4) S3)) ∧ (¬ (jI S3 l0 30) = 0 → Q 0 S3)))))
set_option maxRecDepth 20000 in
theorem tX12_reckon_22 {Q : Int64 → JS → Prop}  (d : Nat) (hd : 0 ≤ d) {l0 : Nat} {l2 : Int64} {l4 : Int64} {s0 : Int32} {s1 : Nat} {S : JS} (h : wX12_reckon_22 l0 l2 l4 s0 s1 S Q) : jLf (jCall jmt jbud d) jbud (fun j => (jmt j).rk) none mX12_reckon (jqL Q) (22, [some (.ref l0), none, some (.long l2), none, some (.long l4), none], [.int s0, .ref s1], S, 0, 0) := by
  have hc := jCall_mono jmt jbud d
  unfold wX12_reckon_22 at h
  obtain ⟨g1, g2, h⟩ := h
  refine jLf.bk hc 1 [jA S s1 12, jbit s0] [some (.ref l0), none, some (.long l2), none, some (.long l4), none] [] (uI S s1 30 s0) rfl rfl rfl ⟨g1, g2⟩ ?_
  generalize eS3 : uI S s1 30 s0 = S3
  have h := h S3 eS3.symm
  obtain ⟨g4, h⟩ := h
  refine jLf.bk hc 2 [jA S3 l0 12] [some (.ref l0), none, some (.long l2), none, some (.long l4), none] [.int (jI S3 l0 30)] S3 rfl rfl rfl g4 ?_
  refine jLf.two hc _ rfl (gs := []) (p1 := (jI S3 l0 30) = 0) (p2 := ¬ ((jI S3 l0 30) = 0)) (c1 := (28, [some (.ref l0), none, some (.long l2), none, some (.long l4), none], [], S3, 0, 0)) (c2 := (26, [some (.ref l0), none, some (.long l2), none, some (.long l4), none], [], S3, 0, 0)) rfl trivial (fun hz => ?_) (fun hz => ?_)
  · have h := h.1 hz
    obtain ⟨g5, h⟩ := h
    refine jLf.bk hc 3 [¬ l4 = 0] [some (.ref l0), none, some (.long l2), none, some (.long l4), none] [.long (l2 / l4)] S3 rfl rfl rfl g5 ?_
    exact jLf.ret hc _ rfl (gs := [True]) (v := some (.long (l2 / l4))) rfl trivial ⟨l2 / l4, rfl, h⟩
  · have h := h.2 hz
    refine jLf.bk hc 1 [] [some (.ref l0), none, some (.long l2), none, some (.long l4), none] [.long 0] S3 rfl rfl rfl trivial ?_
    refine jLf.one hc _ rfl (gs := []) (c := (31, [some (.ref l0), none, some (.long l2), none, some (.long l4), none], [.long 0], S3, 0, 0)) rfl trivial ?_
    exact jLf.ret hc _ rfl (gs := [True]) (v := some (.long 0)) rfl trivial ⟨0, rfl, h⟩
def wX12_reckon  (this : Nat) (p1 : Int32) (p2 : Int64) (p3 : Int64) (S : JS) (Q : Int64 → JS → Prop) : Prop :=
  (p1 = 20 → Q (p2 + p3) S) ∧ (¬ p1 = 20 → (p1 = 21 → Q (p2 - p3) S) ∧ (¬ p1 = 21 → (p1 = 22 → Q (p2 * p3) S) ∧ (¬ p1 = 22 → (p1 = 23 → (¬ (lg_cmp p3 (0 : Int64)) = 0 → wX12_reckon_22 this p2 p3 0 this S Q) ∧ ((lg_cmp p3 (0 : Int64)) = 0 → wX12_reckon_22 this p2 p3 1 this S Q)) ∧ (¬ p1 = 23 → (p1 = 24 → (0 ≤ (lg_cmp p2 p3) → Q 0 S) ∧ (¬ (0 ≤ (lg_cmp p2 p3)) → Q 1 S)) ∧ (¬ p1 = 24 → (p1 = 25 → ((lg_cmp p2 p3) ≤ 0 → Q 0 S) ∧ (¬ ((lg_cmp p2 p3) ≤ 0) → Q 1 S)) ∧ (¬ p1 = 25 → (¬ (lg_cmp p2 p3) = 0 → Q 0 S) ∧ ((lg_cmp p2 p3) = 0 → Q 1 S)))))))
set_option maxRecDepth 20000 in
theorem vX12_reckon {Q : Int64 → JS → Prop} (d : Nat) (hd : 1 ≤ d) {this : Nat} {p1 : Int32} {p2 : Int64} {p3 : Int64} {S : JS} (h : wX12_reckon this p1 p2 p3 S Q) : jCall jmt jbud d 191 [.ref this, .int p1, .long p2, .long p3] S (jqL Q) := by
  obtain ⟨d, rfl⟩ : ∃ d2, d = d2 + 1 := ⟨d - 1, by omega⟩
  have hd : 0 ≤ d := by omega
  have hc := jCall_mono jmt jbud d
  unfold wX12_reckon at h
  refine ⟨Nat.le_of_ble_eq_true rfl, ?_⟩
  show jLf (jCall jmt jbud d) jbud (fun j => (jmt j).rk) none mX12_reckon (jqL Q) (0, [some (.ref this), some (.int p1), some (.long p2), none, some (.long p3), none], [], S, 0, 0)
  refine jLf.bk hc 1 [] [some (.ref this), some (.int p1), some (.long p2), none, some (.long p3), none] [.int p1] S rfl rfl rfl trivial ?_
  refine jLf.sw hc _ rfl rfl (by decide +kernel) ?_
  refine ⟨fun hz => ?_, fun hz => ?_⟩
  · have h := h.1 hz
    show jLf (jCall jmt jbud d) jbud (fun j => (jmt j).rk) none mX12_reckon (jqL Q) (2, [some (.ref this), some (.int p1), some (.long p2), none, some (.long p3), none], [], S, 0, 0)
    refine jLf.bk hc 3 [] [some (.ref this), some (.int p1), some (.long p2), none, some (.long p3), none] [.long (p2 + p3)] S rfl rfl rfl trivial ?_
    exact jLf.ret hc _ rfl (gs := [True]) (v := some (.long (p2 + p3))) rfl trivial ⟨p2 + p3, rfl, h⟩
  have h := h.2 hz
  refine ⟨fun hz => ?_, fun hz => ?_⟩
  · have h := h.1 hz
    show jLf (jCall jmt jbud d) jbud (fun j => (jmt j).rk) none mX12_reckon (jqL Q) (6, [some (.ref this), some (.int p1), some (.long p2), none, some (.long p3), none], [], S, 0, 0)
    refine jLf.bk hc 3 [] [some (.ref this), some (.int p1), some (.long p2), none, some (.long p3), none] [.long (p2 - p3)] S rfl rfl rfl trivial ?_
    exact jLf.ret hc _ rfl (gs := [True]) (v := some (.long (p2 - p3))) rfl trivial ⟨p2 - p3, rfl, h⟩
  have h := h.2 hz
  refine ⟨fun hz => ?_, fun hz => ?_⟩
  · have h := h.1 hz
    show jLf (jCall jmt jbud d) jbud (fun j => (jmt j).rk) none mX12_reckon (jqL Q) (10, [some (.ref this), some (.int p1), some (.long p2), none, some (.long p3), none], [], S, 0, 0)
    refine jLf.bk hc 3 [] [some (.ref this), some (.int p1), some (.long p2), none, some (.long p3), none] [.long (p2 * p3)] S rfl rfl rfl trivial ?_
    exact jLf.ret hc _ rfl (gs := [True]) (v := some (.long (p2 * p3))) rfl trivial ⟨p2 * p3, rfl, h⟩
  have h := h.2 hz
  refine ⟨fun hz => ?_, fun hz => ?_⟩
  · have h := h.1 hz
    show jLf (jCall jmt jbud d) jbud (fun j => (jmt j).rk) none mX12_reckon (jqL Q) (14, [some (.ref this), some (.int p1), some (.long p2), none, some (.long p3), none], [], S, 0, 0)
    refine jLf.bk hc 4 [] [some (.ref this), some (.int p1), some (.long p2), none, some (.long p3), none] [.int (lg_cmp p3 (0 : Int64)), .ref this] S rfl rfl rfl trivial ?_
    refine jLf.two hc _ rfl (gs := []) (p1 := ¬ (lg_cmp p3 (0 : Int64)) = 0) (p2 := ¬ (¬ (lg_cmp p3 (0 : Int64)) = 0)) (c1 := (21, [some (.ref this), some (.int p1), some (.long p2), none, some (.long p3), none], [.ref this], S, 0, 0)) (c2 := (19, [some (.ref this), some (.int p1), some (.long p2), none, some (.long p3), none], [.ref this], S, 0, 0)) rfl trivial (fun hz => ?_) (fun hz => ?_)
    · have h := h.1 hz
      refine jLf.bk hc 1 [] [some (.ref this), some (.int p1), some (.long p2), none, some (.long p3), none] [.int 0, .ref this] S rfl rfl rfl trivial ?_
      refine jLf.sub [some (.ref this), none, some (.long p2), none, some (.long p3), none] (jle_same (jle_none (jle_same (jle_same (jle_same (jle_same (jle_nil _))))))) ?_
      exact tX12_reckon_22 d hd  h
    · have h := h.2 (Classical.not_not.mp hz)
      refine jLf.bk hc 1 [] [some (.ref this), some (.int p1), some (.long p2), none, some (.long p3), none] [.int 1, .ref this] S rfl rfl rfl trivial ?_
      refine jLf.one hc _ rfl (gs := []) (c := (22, [some (.ref this), some (.int p1), some (.long p2), none, some (.long p3), none], [.int 1, .ref this], S, 0, 0)) rfl trivial ?_
      refine jLf.sub [some (.ref this), none, some (.long p2), none, some (.long p3), none] (jle_same (jle_none (jle_same (jle_same (jle_same (jle_same (jle_nil _))))))) ?_
      exact tX12_reckon_22 d hd  h
  have h := h.2 hz
  refine ⟨fun hz => ?_, fun hz => ?_⟩
  · have h := h.1 hz
    show jLf (jCall jmt jbud d) jbud (fun j => (jmt j).rk) none mX12_reckon (jqL Q) (32, [some (.ref this), some (.int p1), some (.long p2), none, some (.long p3), none], [], S, 0, 0)
    refine jLf.bk hc 3 [] [some (.ref this), some (.int p1), some (.long p2), none, some (.long p3), none] [.int (lg_cmp p2 p3)] S rfl rfl rfl trivial ?_
    refine jLf.two hc _ rfl (gs := []) (p1 := 0 ≤ (lg_cmp p2 p3)) (p2 := ¬ (0 ≤ (lg_cmp p2 p3))) (c1 := (38, [some (.ref this), some (.int p1), some (.long p2), none, some (.long p3), none], [], S, 0, 0)) (c2 := (36, [some (.ref this), some (.int p1), some (.long p2), none, some (.long p3), none], [], S, 0, 0)) rfl trivial (fun hz => ?_) (fun hz => ?_)
    · have h := h.1 hz
      refine jLf.bk hc 1 [] [some (.ref this), some (.int p1), some (.long p2), none, some (.long p3), none] [.long 0] S rfl rfl rfl trivial ?_
      exact jLf.ret hc _ rfl (gs := [True]) (v := some (.long 0)) rfl trivial ⟨0, rfl, h⟩
    · have h := h.2 hz
      refine jLf.bk hc 1 [] [some (.ref this), some (.int p1), some (.long p2), none, some (.long p3), none] [.long 1] S rfl rfl rfl trivial ?_
      refine jLf.one hc _ rfl (gs := []) (c := (39, [some (.ref this), some (.int p1), some (.long p2), none, some (.long p3), none], [.long 1], S, 0, 0)) rfl trivial ?_
      exact jLf.ret hc _ rfl (gs := [True]) (v := some (.long 1)) rfl trivial ⟨1, rfl, h⟩
  have h := h.2 hz
  refine ⟨fun hz => ?_, fun hz => ?_⟩
  · have h := h.1 hz
    show jLf (jCall jmt jbud d) jbud (fun j => (jmt j).rk) none mX12_reckon (jqL Q) (40, [some (.ref this), some (.int p1), some (.long p2), none, some (.long p3), none], [], S, 0, 0)
    refine jLf.bk hc 3 [] [some (.ref this), some (.int p1), some (.long p2), none, some (.long p3), none] [.int (lg_cmp p2 p3)] S rfl rfl rfl trivial ?_
    refine jLf.two hc _ rfl (gs := []) (p1 := (lg_cmp p2 p3) ≤ 0) (p2 := ¬ ((lg_cmp p2 p3) ≤ 0)) (c1 := (46, [some (.ref this), some (.int p1), some (.long p2), none, some (.long p3), none], [], S, 0, 0)) (c2 := (44, [some (.ref this), some (.int p1), some (.long p2), none, some (.long p3), none], [], S, 0, 0)) rfl trivial (fun hz => ?_) (fun hz => ?_)
    · have h := h.1 hz
      refine jLf.bk hc 1 [] [some (.ref this), some (.int p1), some (.long p2), none, some (.long p3), none] [.long 0] S rfl rfl rfl trivial ?_
      exact jLf.ret hc _ rfl (gs := [True]) (v := some (.long 0)) rfl trivial ⟨0, rfl, h⟩
    · have h := h.2 hz
      refine jLf.bk hc 1 [] [some (.ref this), some (.int p1), some (.long p2), none, some (.long p3), none] [.long 1] S rfl rfl rfl trivial ?_
      refine jLf.one hc _ rfl (gs := []) (c := (47, [some (.ref this), some (.int p1), some (.long p2), none, some (.long p3), none], [.long 1], S, 0, 0)) rfl trivial ?_
      exact jLf.ret hc _ rfl (gs := [True]) (v := some (.long 1)) rfl trivial ⟨1, rfl, h⟩
  have h := h.2 hz
  show jLf (jCall jmt jbud d) jbud (fun j => (jmt j).rk) none mX12_reckon (jqL Q) (48, [some (.ref this), some (.int p1), some (.long p2), none, some (.long p3), none], [], S, 0, 0)
  refine jLf.bk hc 3 [] [some (.ref this), some (.int p1), some (.long p2), none, some (.long p3), none] [.int (lg_cmp p2 p3)] S rfl rfl rfl trivial ?_
  refine jLf.two hc _ rfl (gs := []) (p1 := ¬ (lg_cmp p2 p3) = 0) (p2 := ¬ (¬ (lg_cmp p2 p3) = 0)) (c1 := (54, [some (.ref this), some (.int p1), some (.long p2), none, some (.long p3), none], [], S, 0, 0)) (c2 := (52, [some (.ref this), some (.int p1), some (.long p2), none, some (.long p3), none], [], S, 0, 0)) rfl trivial (fun hz => ?_) (fun hz => ?_)
  · have h := h.1 hz
    refine jLf.bk hc 1 [] [some (.ref this), some (.int p1), some (.long p2), none, some (.long p3), none] [.long 0] S rfl rfl rfl trivial ?_
    exact jLf.ret hc _ rfl (gs := [True]) (v := some (.long 0)) rfl trivial ⟨0, rfl, h⟩
  · have h := h.2 (Classical.not_not.mp hz)
    refine jLf.bk hc 1 [] [some (.ref this), some (.int p1), some (.long p2), none, some (.long p3), none] [.long 1] S rfl rfl rfl trivial ?_
    refine jLf.one hc _ rfl (gs := []) (c := (55, [some (.ref this), some (.int p1), some (.long p2), none, some (.long p3), none], [.long 1], S, 0, 0)) rfl trivial ?_
    exact jLf.ret hc _ rfl (gs := [True]) (v := some (.long 1)) rfl trivial ⟨1, rfl, h⟩
def wX12_reckonAll_137   (l0 : Nat) (l3 : Int32) (S : JS) (Q : JS → Prop) : Prop :=
  (l3 ≤ 0 → jA S l0 12 ∧ (∀ S4 : JS, S4 = uJ S l0 31 0 → (Q S4))) ∧ (¬ (l3 ≤ 0) → jA S l0 12 ∧ (¬ jR S l0 29 = none ∧ (jA S (jr S l0 29) 14 ∧ (vp_in (0 : Int32) (jZ S (jr S l0 29)) ∧ (∀ S9 : JS, S9 = uJ S l0 31 (jJ S (jr S l0 29) (0 : Int32).toNatClampNeg) → (Q S9))))))
set_option maxRecDepth 20000 in
theorem tX12_reckonAll_137 {Q : JS → Prop}  (d : Nat) (hd : 1 ≤ d) {l0 : Nat} {l3 : Int32} {S : JS} (h : wX12_reckonAll_137 l0 l3 S Q) : jLf (jCall jmt jbud d) jbud (fun j => (jmt j).rk) none mX12_reckonAll (jqV Q) (137, [some (.ref l0), none, none, some (.int l3), none, none, none], [], S, 0, 0) := by
  have hc := jCall_mono jmt jbud d
  unfold wX12_reckonAll_137 at h
  refine jLf.bk hc 2 [] [some (.ref l0), none, none, some (.int l3), none, none, none] [.int l3, .ref l0] S rfl rfl rfl trivial ?_
  refine jLf.two hc _ rfl (gs := []) (p1 := l3 ≤ 0) (p2 := ¬ (l3 ≤ 0)) (c1 := (145, [some (.ref l0), none, none, some (.int l3), none, none, none], [.ref l0], S, 0, 0)) (c2 := (140, [some (.ref l0), none, none, some (.int l3), none, none, none], [.ref l0], S, 0, 0)) rfl trivial (fun hz => ?_) (fun hz => ?_)
  · have h := h.1 hz
    obtain ⟨g3, h⟩ := h
    refine jLf.bk hc 2 [jA S l0 12] [some (.ref l0), none, none, some (.int l3), none, none, none] [] (uJ S l0 31 0) rfl rfl rfl g3 ?_
    generalize eS4 : uJ S l0 31 0 = S4
    have h := h S4 eS4.symm
    exact jLf.ret hc _ rfl (gs := [jrt none none]) (v := none) rfl trivial ⟨rfl, h⟩
  · have h := h.2 hz
    obtain ⟨g5, g6, g7, g8, h⟩ := h
    refine jLf.bk hc 4 [jA S l0 12, ¬ jR S l0 29 = none, jA S (jr S l0 29) 14, vp_in (0 : Int32) (jZ S (jr S l0 29))] [some (.ref l0), none, none, some (.int l3), none, none, none] [.long (jJ S (jr S l0 29) (0 : Int32).toNatClampNeg), .ref l0] S rfl rfl rfl ⟨g5, g6, g7, g8⟩ ?_
    refine jLf.one hc _ rfl (gs := []) (c := (146, [some (.ref l0), none, none, some (.int l3), none, none, none], [.long (jJ S (jr S l0 29) (0 : Int32).toNatClampNeg), .ref l0], S, 0, 0)) rfl trivial ?_
    refine jLf.bk hc 1 [jA S l0 12] [some (.ref l0), none, none, some (.int l3), none, none, none] [] (uJ S l0 31 (jJ S (jr S l0 29) (0 : Int32).toNatClampNeg)) rfl rfl rfl g5 ?_
    generalize eS9 : uJ S l0 31 (jJ S (jr S l0 29) (0 : Int32).toNatClampNeg) = S9
    have h := h S9 eS9.symm
    exact jLf.ret hc _ rfl (gs := [jrt none none]) (v := none) rfl trivial ⟨rfl, h⟩
def wX12_reckonAll_136  (X7 : Nat → Int32 → Int32 → Int32 → JS → Prop) (l0 : Nat) (l2 : Int32) (l3 : Int32) (l4 : Int32) (S : JS) (Q : JS → Prop) : Prop :=
  X7 l0 l2 l3 l4 S
set_option maxRecDepth 20000 in
theorem tX12_reckonAll_136 {Q : JS → Prop} {X7 : Nat → Int32 → Int32 → Int32 → JS → Prop} (d : Nat) (hd : 1 ≤ d) (hX7 : ∀ l0 l2 l3 l4 S, X7 l0 l2 l3 l4 S → jLf (jCall jmt jbud d) jbud (fun j => (jmt j).rk) none mX12_reckonAll (jqV Q) (7, [some (.ref l0), none, some (.int l2), some (.int l3), some (.int l4), none, none], [], S, 0, 0)) {l0 : Nat} {l2 : Int32} {l3 : Int32} {l4 : Int32} {S : JS} (h : wX12_reckonAll_136 X7 l0 l2 l3 l4 S Q) : jLf (jCall jmt jbud d) jbud (fun j => (jmt j).rk) none mX12_reckonAll (jqV Q) (136, [some (.ref l0), none, some (.int l2), some (.int l3), some (.int l4), none, none], [], S, 0, 0) := by
  have hc := jCall_mono jmt jbud d
  unfold wX12_reckonAll_136 at h
  refine jLf.one hc _ rfl (gs := []) (c := (7, [some (.ref l0), none, some (.int l2), some (.int l3), some (.int l4), none, none], [], S, 0, 0)) rfl trivial ?_
  exact hX7 _ _ _ _ _ h
def wX12_reckonAll_130  (X7 : Nat → Int32 → Int32 → Int32 → JS → Prop) (l0 : Nat) (l2 : Int32) (l3 : Int32) (l4 : Int32) (l6 : Int32) (s0 : Int64) (s1 : Int64) (S : JS) (Q : JS → Prop) : Prop :=
  (¬ (lg_cmp s1 s0) = 0 → ∀ x21 : Int32, x21 = (l3 + (-1)) → (wX12_reckonAll_136 X7 l0 l2 x21 l4 S Q)) ∧ ((lg_cmp s1 s0) = 0 → wX12_reckonAll_136 X7 l0 l2 l3 l6 S Q)
set_option maxRecDepth 20000 in
theorem tX12_reckonAll_130 {Q : JS → Prop} {X7 : Nat → Int32 → Int32 → Int32 → JS → Prop} (d : Nat) (hd : 1 ≤ d) (hX7 : ∀ l0 l2 l3 l4 S, X7 l0 l2 l3 l4 S → jLf (jCall jmt jbud d) jbud (fun j => (jmt j).rk) none mX12_reckonAll (jqV Q) (7, [some (.ref l0), none, some (.int l2), some (.int l3), some (.int l4), none, none], [], S, 0, 0)) {l0 : Nat} {l2 : Int32} {l3 : Int32} {l4 : Int32} {l6 : Int32} {s0 : Int64} {s1 : Int64} {S : JS} (h : wX12_reckonAll_130 X7 l0 l2 l3 l4 l6 s0 s1 S Q) : jLf (jCall jmt jbud d) jbud (fun j => (jmt j).rk) none mX12_reckonAll (jqV Q) (130, [some (.ref l0), none, some (.int l2), some (.int l3), some (.int l4), none, some (.int l6)], [.long s0, .long s1], S, 0, 0) := by
  have hc := jCall_mono jmt jbud d
  unfold wX12_reckonAll_130 at h
  refine jLf.bk hc 1 [] [some (.ref l0), none, some (.int l2), some (.int l3), some (.int l4), none, some (.int l6)] [.int (lg_cmp s1 s0)] S rfl rfl rfl trivial ?_
  refine jLf.two hc _ rfl (gs := []) (p1 := ¬ (lg_cmp s1 s0) = 0) (p2 := ¬ (¬ (lg_cmp s1 s0) = 0)) (c1 := (135, [some (.ref l0), none, some (.int l2), some (.int l3), some (.int l4), none, some (.int l6)], [], S, 0, 0)) (c2 := (132, [some (.ref l0), none, some (.int l2), some (.int l3), some (.int l4), none, some (.int l6)], [], S, 0, 0)) rfl trivial (fun hz => ?_) (fun hz => ?_)
  · have h := h.1 hz
    refine jLf.bk hc 1 [] [some (.ref l0), none, some (.int l2), some (.int (l3 + (-1))), some (.int l4), none, some (.int l6)] [] S rfl rfl rfl trivial ?_
    generalize ex21 : (l3 + (-1) : Int32) = x21
    have h := h x21 ex21.symm
    refine jLf.sub [some (.ref l0), none, some (.int l2), some (.int x21), some (.int l4), none, none] (jle_same (jle_same (jle_same (jle_same (jle_same (jle_same (jle_none (jle_nil _)))))))) ?_
    exact tX12_reckonAll_136 d hd hX7 h
  · have h := h.2 (Classical.not_not.mp hz)
    refine jLf.bk hc 2 [] [some (.ref l0), none, some (.int l2), some (.int l3), some (.int l6), none, some (.int l6)] [] S rfl rfl rfl trivial ?_
    refine jLf.one hc _ rfl (gs := []) (c := (136, [some (.ref l0), none, some (.int l2), some (.int l3), some (.int l6), none, some (.int l6)], [], S, 0, 0)) rfl trivial ?_
    refine jLf.sub [some (.ref l0), none, some (.int l2), some (.int l3), some (.int l6), none, none] (jle_same (jle_same (jle_same (jle_same (jle_same (jle_same (jle_none (jle_nil _)))))))) ?_
    exact tX12_reckonAll_136 d hd hX7 h
def wX12_reckonAll_98  (X7 : Nat → Int32 → Int32 → Int32 → JS → Prop) (l0 : Nat) (l2 : Int32) (l3 : Int32) (l4 : Int32) (s0 : Int32) (s1 : Nat) (S : JS) (Q : JS → Prop) : Prop :=
  jA S s1 12 ∧ (jbit s0 ∧ (∀ S39 : JS, S39 = uI S s1 30 s0 → (wX12_reckonAll_136 X7 l0 l2 l3 l4 S39 Q)))
set_option maxRecDepth 20000 in
theorem tX12_reckonAll_98 {Q : JS → Prop} {X7 : Nat → Int32 → Int32 → Int32 → JS → Prop} (d : Nat) (hd : 1 ≤ d) (hX7 : ∀ l0 l2 l3 l4 S, X7 l0 l2 l3 l4 S → jLf (jCall jmt jbud d) jbud (fun j => (jmt j).rk) none mX12_reckonAll (jqV Q) (7, [some (.ref l0), none, some (.int l2), some (.int l3), some (.int l4), none, none], [], S, 0, 0)) {l0 : Nat} {l2 : Int32} {l3 : Int32} {l4 : Int32} {s0 : Int32} {s1 : Nat} {S : JS} (h : wX12_reckonAll_98 X7 l0 l2 l3 l4 s0 s1 S Q) : jLf (jCall jmt jbud d) jbud (fun j => (jmt j).rk) none mX12_reckonAll (jqV Q) (98, [some (.ref l0), none, some (.int l2), some (.int l3), some (.int l4), none, none], [.int s0, .ref s1], S, 0, 0) := by
  have hc := jCall_mono jmt jbud d
  unfold wX12_reckonAll_98 at h
  obtain ⟨g37, g38, h⟩ := h
  refine jLf.bk hc 1 [jA S s1 12, jbit s0] [some (.ref l0), none, some (.int l2), some (.int l3), some (.int l4), none, none] [] (uI S s1 30 s0) rfl rfl rfl ⟨g37, g38⟩ ?_
  generalize eS39 : uI S s1 30 s0 = S39
  have h := h S39 eS39.symm
  refine jLf.one hc _ rfl (gs := []) (c := (136, [some (.ref l0), none, some (.int l2), some (.int l3), some (.int l4), none, none], [], S39, 0, 0)) rfl trivial ?_
  exact tX12_reckonAll_136 d hd hX7 h
def wX12_reckonAll_95  (X7 : Nat → Int32 → Int32 → Int32 → JS → Prop) (l0 : Nat) (l2 : Int32) (l3 : Int32) (l4 : Int32) (s0 : Nat) (S : JS) (Q : JS → Prop) : Prop :=
  wX12_reckonAll_98 X7 l0 l2 l3 l4 1 s0 S Q
set_option maxRecDepth 20000 in
theorem tX12_reckonAll_95 {Q : JS → Prop} {X7 : Nat → Int32 → Int32 → Int32 → JS → Prop} (d : Nat) (hd : 1 ≤ d) (hX7 : ∀ l0 l2 l3 l4 S, X7 l0 l2 l3 l4 S → jLf (jCall jmt jbud d) jbud (fun j => (jmt j).rk) none mX12_reckonAll (jqV Q) (7, [some (.ref l0), none, some (.int l2), some (.int l3), some (.int l4), none, none], [], S, 0, 0)) {l0 : Nat} {l2 : Int32} {l3 : Int32} {l4 : Int32} {s0 : Nat} {S : JS} (h : wX12_reckonAll_95 X7 l0 l2 l3 l4 s0 S Q) : jLf (jCall jmt jbud d) jbud (fun j => (jmt j).rk) none mX12_reckonAll (jqV Q) (95, [some (.ref l0), none, some (.int l2), some (.int l3), some (.int l4), none, none], [.ref s0], S, 0, 0) := by
  have hc := jCall_mono jmt jbud d
  unfold wX12_reckonAll_95 at h
  refine jLf.bk hc 1 [] [some (.ref l0), none, some (.int l2), some (.int l3), some (.int l4), none, none] [.int 1, .ref s0] S rfl rfl rfl trivial ?_
  refine jLf.one hc _ rfl (gs := []) (c := (98, [some (.ref l0), none, some (.int l2), some (.int l3), some (.int l4), none, none], [.int 1, .ref s0], S, 0, 0)) rfl trivial ?_
  exact tX12_reckonAll_98 d hd hX7 h
def wX12_reckonAll_55  (X7 : Nat → Int32 → Int32 → Int32 → JS → Prop) (l0 : Nat) (l2 : Int32) (l3 : Int32) (l4 : Int32) (s0 : Int64) (s1 : Int32) (s2 : Nat) (S : JS) (Q : JS → Prop) : Prop :=
  jA S s2 14 ∧ (vp_in s1 (jZ S s2) ∧ (∀ S51 : JS, S51 = uJ S s2 s1.toNatClampNeg s0 → (∀ x52 : Int32, x52 = (l3 + 1) → (wX12_reckonAll_136 X7 l0 l2 x52 l4 S51 Q))))
set_option maxRecDepth 20000 in
theorem tX12_reckonAll_55 {Q : JS → Prop} {X7 : Nat → Int32 → Int32 → Int32 → JS → Prop} (d : Nat) (hd : 1 ≤ d) (hX7 : ∀ l0 l2 l3 l4 S, X7 l0 l2 l3 l4 S → jLf (jCall jmt jbud d) jbud (fun j => (jmt j).rk) none mX12_reckonAll (jqV Q) (7, [some (.ref l0), none, some (.int l2), some (.int l3), some (.int l4), none, none], [], S, 0, 0)) {l0 : Nat} {l2 : Int32} {l3 : Int32} {l4 : Int32} {s0 : Int64} {s1 : Int32} {s2 : Nat} {S : JS} (h : wX12_reckonAll_55 X7 l0 l2 l3 l4 s0 s1 s2 S Q) : jLf (jCall jmt jbud d) jbud (fun j => (jmt j).rk) none mX12_reckonAll (jqV Q) (55, [some (.ref l0), none, some (.int l2), some (.int l3), some (.int l4), none, none], [.long s0, .int s1, .ref s2], S, 0, 0) := by
  have hc := jCall_mono jmt jbud d
  unfold wX12_reckonAll_55 at h
  obtain ⟨g49, g50, h⟩ := h
  refine jLf.bk hc 1 [jA S s2 14, vp_in s1 (jZ S s2)] [some (.ref l0), none, some (.int l2), some (.int l3), some (.int l4), none, none] [] (uJ S s2 s1.toNatClampNeg s0) rfl rfl rfl ⟨g49, g50⟩ ?_
  generalize eS51 : uJ S s2 s1.toNatClampNeg s0 = S51
  have h := h S51 eS51.symm
  refine jLf.bk hc 1 [] [some (.ref l0), none, some (.int l2), some (.int (l3 + 1)), some (.int l4), none, none] [] S51 rfl rfl rfl trivial ?_
  generalize ex52 : (l3 + 1 : Int32) = x52
  have h := h x52 ex52.symm
  refine jLf.one hc _ rfl (gs := []) (c := (136, [some (.ref l0), none, some (.int l2), some (.int x52), some (.int l4), none, none], [], S51, 0, 0)) rfl trivial ?_
  exact tX12_reckonAll_136 d hd hX7 h
def bX12_reckonAll_7   (X7 : Nat → Int32 → Int32 → Int32 → JS → Prop) (l0 : Nat) (l2 : Int32) (l3 : Int32) (l4 : Int32) (S : JS) (Q : JS → Prop) : Prop :=
  (l2 ≤ l4 → wX12_reckonAll_137 l0 l3 S Q) ∧ (¬ (l2 ≤ l4) → jA S l0 12 ∧ ((¬ (jI S l0 30) = 0 → wX12_reckonAll_137 l0 l3 S Q) ∧ ((jI S l0 30) = 0 → ¬ jR S l0 3 = none ∧ (jA S (jr S l0 3) 13 ∧ (vp_in (((jI S l0 27) + (98 : Int32)) + ((2 : Int32) * l4)) (jZ S (jr S l0 3)) ∧ (∀ x14 : Int32, x14 = (jI S (jr S l0 3) (((jI S l0 27) + (98 : Int32)) + ((2 : Int32) * l4)).toNatClampNeg) → (vp_in ((((jI S l0 27) + (98 : Int32)) + ((2 : Int32) * l4)) + (1 : Int32)) (jZ S (jr S l0 3)) ∧ (∀ x16 : Int32, x16 = (jI S (jr S l0 3) ((((jI S l0 27) + (98 : Int32)) + ((2 : Int32) * l4)) + (1 : Int32)).toNatClampNeg) → (∀ x17 : Int32, x17 = (l4 + 1) → ((20 ≤ x14 → (27 ≤ x14 → (¬ x14 = 27 → ¬ jR S l0 29 = none ∧ (jA S (jr S l0 29) 14 ∧ (vp_in (l3 - (1 : Int32)) (jZ S (jr S l0 29)) ∧ ((¬ x14 = 28 → wX12_reckonAll_130 X7 l0 l2 l3 x17 x16 1 (jJ S (jr S l0 29) (l3 - (1 : Int32)).toNatClampNeg) S Q) ∧ (x14 = 28 → wX12_reckonAll_130 X7 l0 l2 l3 x17 x16 0 (jJ S (jr S l0 29) (l3 - (1 : Int32)).toNatClampNeg) S Q))))) ∧ (x14 = 27 → ¬ jR S l0 29 = none ∧ (jA S (jr S l0 29) 14 ∧ (vp_in (l3 - (1 : Int32)) (jZ S (jr S l0 29)) ∧ (∀ S25 : JS, S25 = uJ S (jr S l0 29) (l3 - (1 : Int32)).toNatClampNeg ((1 : Int64) - (jJ S (jr S l0 29) (l3 - (1 : Int32)).toNatClampNeg)) → (wX12_reckonAll_136 X7 l0 l2 l3 x17 S25 Q)))))) ∧ (¬ (27 ≤ x14) → ∀ x26 : Int32, x26 = (l3 + (-1)) → (¬ jR S l0 29 = none ∧ (jA S (jr S l0 29) 14 ∧ (vp_in (x26 - (1 : Int32)) (jZ S (jr S l0 29)) ∧ (vp_in x26 (jZ S (jr S l0 29)) ∧ (wX12_reckon l0 x14 (jJ S (jr S l0 29) (x26 - (1 : Int32)).toNatClampNeg) (jJ S (jr S l0 29) x26.toNatClampNeg) S (fun r32 S31 => jA S31 (jr S l0 29) 14 ∧ (vp_in (x26 - (1 : Int32)) (jZ S31 (jr S l0 29)) ∧ (∀ S35 : JS, S35 = uJ S31 (jr S l0 29) (x26 - (1 : Int32)).toNatClampNeg r32 → (jA S35 l0 12 ∧ ((¬ (jI S35 l0 30) = 0 → wX12_reckonAll_95 X7 l0 l2 x26 x17 l0 S35 Q) ∧ ((jI S35 l0 30) = 0 → ¬ jR S35 l0 29 = none ∧ (jA S35 (jr S35 l0 29) 14 ∧ (vp_in (x26 - (1 : Int32)) (jZ S35 (jr S35 l0 29)) ∧ (wX12_in (jJ S35 (jr S35 l0 29) (x26 - (1 : Int32)).toNatClampNeg) (-1000000000) 1000000000 S35 (fun r44 S43 => (¬ r44 = 0 → wX12_reckonAll_98 X7 l0 l2 x26 x17 0 l0 S43 Q) ∧ (r44 = 0 → wX12_reckonAll_95 X7 l0 l2 x26 x17 l0 S43 Q)))))))))))))))))) ∧ (¬ (20 ≤ x14) → ¬ jR S l0 29 = none ∧ ((¬ x14 = 0 → ¬ jR S l0 28 = none ∧ (jA S (jr S l0 28) 14 ∧ (vp_in x14 (jZ S (jr S l0 28)) ∧ (wX12_reckonAll_55 X7 l0 l2 l3 x17 (jJ S (jr S l0 28) x14.toNatClampNeg) l3 (jr S l0 29) S Q)))) ∧ (x14 = 0 → wX12_reckonAll_55 X7 l0 l2 l3 x17 (x16.toInt64) l3 (jr S l0 29) S Q)))))))))))))
set_option maxRecDepth 20000 in
theorem uX12_reckonAll_7 {Q : JS → Prop}  (d : Nat) (hd : 1 ≤ d) {X7 : Nat → Int32 → Int32 → Int32 → JS → Prop} (hX7 : ∀ l0 l2 l3 l4 S, X7 l0 l2 l3 l4 S → jLf (jCall jmt jbud d) jbud (fun j => (jmt j).rk) none mX12_reckonAll (jqV Q) (7, [some (.ref l0), none, some (.int l2), some (.int l3), some (.int l4), none, none], [], S, 0, 0)) {l0 : Nat} {l2 : Int32} {l3 : Int32} {l4 : Int32} {S : JS} (h : bX12_reckonAll_7 X7 l0 l2 l3 l4 S Q) : jLf (jCall jmt jbud d) jbud (fun j => (jmt j).rk) none mX12_reckonAll (jqV Q) (7, [some (.ref l0), none, some (.int l2), some (.int l3), some (.int l4), none, none], [], S, 0, 0) := by
  have hc := jCall_mono jmt jbud d
  unfold bX12_reckonAll_7 at h
  refine jLf.bk hc 2 [] [some (.ref l0), none, some (.int l2), some (.int l3), some (.int l4), none, none] [.int l2, .int l4] S rfl rfl rfl trivial ?_
  refine jLf.two hc _ rfl (gs := []) (p1 := l2 ≤ l4) (p2 := ¬ (l2 ≤ l4)) (c1 := (137, [some (.ref l0), none, some (.int l2), some (.int l3), some (.int l4), none, none], [], S, 0, 0)) (c2 := (10, [some (.ref l0), none, some (.int l2), some (.int l3), some (.int l4), none, none], [], S, 0, 0)) rfl trivial (fun hz => ?_) (fun hz => ?_)
  · have h := h.1 hz
    refine jLf.sub [some (.ref l0), none, none, some (.int l3), none, none, none] (jle_same (jle_same (jle_none (jle_same (jle_none (jle_same (jle_same (jle_nil _)))))))) ?_
    exact tX12_reckonAll_137 d hd  h
  · have h := h.2 hz
    obtain ⟨g10, h⟩ := h
    refine jLf.bk hc 2 [jA S l0 12] [some (.ref l0), none, some (.int l2), some (.int l3), some (.int l4), none, none] [.int (jI S l0 30)] S rfl rfl rfl g10 ?_
    refine jLf.two hc _ rfl (gs := []) (p1 := ¬ (jI S l0 30) = 0) (p2 := ¬ (¬ (jI S l0 30) = 0)) (c1 := (137, [some (.ref l0), none, some (.int l2), some (.int l3), some (.int l4), none, none], [], S, 0, 0)) (c2 := (13, [some (.ref l0), none, some (.int l2), some (.int l3), some (.int l4), none, none], [], S, 0, 0)) rfl trivial (fun hz => ?_) (fun hz => ?_)
    · have h := h.1 hz
      refine jLf.sub [some (.ref l0), none, none, some (.int l3), none, none, none] (jle_same (jle_same (jle_none (jle_same (jle_none (jle_same (jle_same (jle_nil _)))))))) ?_
      exact tX12_reckonAll_137 d hd  h
    · have h := h.2 (Classical.not_not.mp hz)
      obtain ⟨g11, g12, g13, h⟩ := h
      refine jLf.bk hc 12 [jA S l0 12, ¬ jR S l0 3 = none, jA S l0 12, jA S (jr S l0 3) 13, vp_in (((jI S l0 27) + (98 : Int32)) + ((2 : Int32) * l4)) (jZ S (jr S l0 3))] [some (.ref l0), none, some (.int l2), some (.int l3), some (.int l4), some (.int (jI S (jr S l0 3) (((jI S l0 27) + (98 : Int32)) + ((2 : Int32) * l4)).toNatClampNeg)), none] [] S rfl rfl rfl ⟨g10, g11, g10, g12, g13⟩ ?_
      generalize ex14 : (jI S (jr S l0 3) (((jI S l0 27) + (98 : Int32)) + ((2 : Int32) * l4)).toNatClampNeg : Int32) = x14
      have h := h x14 ex14.symm
      obtain ⟨g15, h⟩ := h
      refine jLf.bk hc 14 [jA S l0 12, ¬ jR S l0 3 = none, jA S l0 12, jA S (jr S l0 3) 13, vp_in ((((jI S l0 27) + (98 : Int32)) + ((2 : Int32) * l4)) + (1 : Int32)) (jZ S (jr S l0 3))] [some (.ref l0), none, some (.int l2), some (.int l3), some (.int l4), some (.int x14), some (.int (jI S (jr S l0 3) ((((jI S l0 27) + (98 : Int32)) + ((2 : Int32) * l4)) + (1 : Int32)).toNatClampNeg))] [] S rfl rfl rfl ⟨g10, g11, g10, g12, g15⟩ ?_
      generalize ex16 : (jI S (jr S l0 3) ((((jI S l0 27) + (98 : Int32)) + ((2 : Int32) * l4)) + (1 : Int32)).toNatClampNeg : Int32) = x16
      have h := h x16 ex16.symm
      refine jLf.bk hc 1 [] [some (.ref l0), none, some (.int l2), some (.int l3), some (.int (l4 + 1)), some (.int x14), some (.int x16)] [] S rfl rfl rfl trivial ?_
      generalize ex17 : (l4 + 1 : Int32) = x17
      have h := h x17 ex17.symm
      refine jLf.bk hc 2 [] [some (.ref l0), none, some (.int l2), some (.int l3), some (.int x17), some (.int x14), some (.int x16)] [.int 20, .int x14] S rfl rfl rfl trivial ?_
      refine jLf.two hc _ rfl (gs := []) (p1 := 20 ≤ x14) (p2 := ¬ (20 ≤ x14)) (c1 := (58, [some (.ref l0), none, some (.int l2), some (.int l3), some (.int x17), some (.int x14), some (.int x16)], [], S, 0, 0)) (c2 := (43, [some (.ref l0), none, some (.int l2), some (.int l3), some (.int x17), some (.int x14), some (.int x16)], [], S, 0, 0)) rfl trivial (fun hz => ?_) (fun hz => ?_)
      · have h := h.1 hz
        refine jLf.bk hc 2 [] [some (.ref l0), none, some (.int l2), some (.int l3), some (.int x17), some (.int x14), some (.int x16)] [.int 27, .int x14] S rfl rfl rfl trivial ?_
        refine jLf.two hc _ rfl (gs := []) (p1 := 27 ≤ x14) (p2 := ¬ (27 ≤ x14)) (c1 := (100, [some (.ref l0), none, some (.int l2), some (.int l3), some (.int x17), some (.int x14), some (.int x16)], [], S, 0, 0)) (c2 := (61, [some (.ref l0), none, some (.int l2), some (.int l3), some (.int x17), some (.int x14), some (.int x16)], [], S, 0, 0)) rfl trivial (fun hz => ?_) (fun hz => ?_)
        · have h := h.1 hz
          refine jLf.bk hc 2 [] [some (.ref l0), none, some (.int l2), some (.int l3), some (.int x17), some (.int x14), some (.int x16)] [.int 27, .int x14] S rfl rfl rfl trivial ?_
          refine jLf.two hc _ rfl (gs := []) (p1 := ¬ x14 = 27) (p2 := ¬ (¬ x14 = 27)) (c1 := (118, [some (.ref l0), none, some (.int l2), some (.int l3), some (.int x17), some (.int x14), some (.int x16)], [], S, 0, 0)) (c2 := (103, [some (.ref l0), none, some (.int l2), some (.int l3), some (.int x17), some (.int x14), some (.int x16)], [], S, 0, 0)) rfl trivial (fun hz => ?_) (fun hz => ?_)
          · have h := h.1 hz
            obtain ⟨g18, g19, g20, h⟩ := h
            refine jLf.bk hc 8 [jA S l0 12, ¬ jR S l0 29 = none, jA S (jr S l0 29) 14, vp_in (l3 - (1 : Int32)) (jZ S (jr S l0 29))] [some (.ref l0), none, some (.int l2), some (.int l3), some (.int x17), some (.int x14), some (.int x16)] [.int 28, .int x14, .long (jJ S (jr S l0 29) (l3 - (1 : Int32)).toNatClampNeg)] S rfl rfl rfl ⟨g10, g18, g19, g20⟩ ?_
            refine jLf.two hc _ rfl (gs := []) (p1 := ¬ x14 = 28) (p2 := ¬ (¬ x14 = 28)) (c1 := (129, [some (.ref l0), none, some (.int l2), some (.int l3), some (.int x17), some (.int x14), some (.int x16)], [.long (jJ S (jr S l0 29) (l3 - (1 : Int32)).toNatClampNeg)], S, 0, 0)) (c2 := (127, [some (.ref l0), none, some (.int l2), some (.int l3), some (.int x17), some (.int x14), some (.int x16)], [.long (jJ S (jr S l0 29) (l3 - (1 : Int32)).toNatClampNeg)], S, 0, 0)) rfl trivial (fun hz => ?_) (fun hz => ?_)
            · have h := h.1 hz
              refine jLf.bk hc 1 [] [some (.ref l0), none, some (.int l2), some (.int l3), some (.int x17), some (.int x14), some (.int x16)] [.long 1, .long (jJ S (jr S l0 29) (l3 - (1 : Int32)).toNatClampNeg)] S rfl rfl rfl trivial ?_
              refine jLf.sub [some (.ref l0), none, some (.int l2), some (.int l3), some (.int x17), none, some (.int x16)] (jle_same (jle_same (jle_same (jle_same (jle_same (jle_none (jle_same (jle_nil _)))))))) ?_
              exact tX12_reckonAll_130 d hd hX7 h
            · have h := h.2 (Classical.not_not.mp hz)
              refine jLf.bk hc 1 [] [some (.ref l0), none, some (.int l2), some (.int l3), some (.int x17), some (.int x14), some (.int x16)] [.long 0, .long (jJ S (jr S l0 29) (l3 - (1 : Int32)).toNatClampNeg)] S rfl rfl rfl trivial ?_
              refine jLf.one hc _ rfl (gs := []) (c := (130, [some (.ref l0), none, some (.int l2), some (.int l3), some (.int x17), some (.int x14), some (.int x16)], [.long 0, .long (jJ S (jr S l0 29) (l3 - (1 : Int32)).toNatClampNeg)], S, 0, 0)) rfl trivial ?_
              refine jLf.sub [some (.ref l0), none, some (.int l2), some (.int l3), some (.int x17), none, some (.int x16)] (jle_same (jle_same (jle_same (jle_same (jle_same (jle_none (jle_same (jle_nil _)))))))) ?_
              exact tX12_reckonAll_130 d hd hX7 h
          · have h := h.2 (Classical.not_not.mp hz)
            obtain ⟨g22, g23, g24, h⟩ := h
            refine jLf.bk hc 14 [jA S l0 12, ¬ jR S l0 29 = none, jA S l0 12, ¬ jR S l0 29 = none, jA S (jr S l0 29) 14, vp_in (l3 - (1 : Int32)) (jZ S (jr S l0 29)), jA S (jr S l0 29) 14, vp_in (l3 - (1 : Int32)) (jZ S (jr S l0 29))] [some (.ref l0), none, some (.int l2), some (.int l3), some (.int x17), some (.int x14), some (.int x16)] [] (uJ S (jr S l0 29) (l3 - (1 : Int32)).toNatClampNeg ((1 : Int64) - (jJ S (jr S l0 29) (l3 - (1 : Int32)).toNatClampNeg))) rfl rfl rfl ⟨g10, g22, g10, g22, g23, g24, g23, g24⟩ ?_
            generalize eS25 : uJ S (jr S l0 29) (l3 - (1 : Int32)).toNatClampNeg ((1 : Int64) - (jJ S (jr S l0 29) (l3 - (1 : Int32)).toNatClampNeg)) = S25
            have h := h S25 eS25.symm
            refine jLf.one hc _ rfl (gs := []) (c := (136, [some (.ref l0), none, some (.int l2), some (.int l3), some (.int x17), some (.int x14), some (.int x16)], [], S25, 0, 0)) rfl trivial ?_
            refine jLf.sub [some (.ref l0), none, some (.int l2), some (.int l3), some (.int x17), none, none] (jle_same (jle_same (jle_same (jle_same (jle_same (jle_none (jle_none (jle_nil _)))))))) ?_
            exact tX12_reckonAll_136 d hd hX7 h
        · have h := h.2 hz
          refine jLf.bk hc 1 [] [some (.ref l0), none, some (.int l2), some (.int (l3 + (-1))), some (.int x17), some (.int x14), some (.int x16)] [] S rfl rfl rfl trivial ?_
          generalize ex26 : (l3 + (-1) : Int32) = x26
          have h := h x26 ex26.symm
          obtain ⟨g27, g28, g29, g30, h⟩ := h
          refine jLf.bk hc 17 [jA S l0 12, ¬ jR S l0 29 = none, jA S l0 12, ¬ jR S l0 29 = none, jA S (jr S l0 29) 14, vp_in (x26 - (1 : Int32)) (jZ S (jr S l0 29)), jA S l0 12, ¬ jR S l0 29 = none, jA S (jr S l0 29) 14, vp_in x26 (jZ S (jr S l0 29))] [some (.ref l0), none, some (.int l2), some (.int x26), some (.int x17), some (.int x14), some (.int x16)] [.long (jJ S (jr S l0 29) x26.toNatClampNeg), .long (jJ S (jr S l0 29) (x26 - (1 : Int32)).toNatClampNeg), .int x14, .ref l0, .int (x26 - (1 : Int32)), .ref (jr S l0 29)] S rfl rfl rfl ⟨g10, g27, g10, g27, g28, g29, g10, g27, g28, g30⟩ ?_
          refine jLf.inv hc _ rfl (gs := [jA S l0 12, (([.int (x26 - (1 : Int32)), .ref (jr S l0 29)] : List Value).map fun v => v.category).sum ≤ 8, 0 ≤ 0, 0 ≤ 0]) (k := 191) (args := [.ref l0, .int x14, .long (jJ S (jr S l0 29) (x26 - (1 : Int32)).toNatClampNeg), .long (jJ S (jr S l0 29) x26.toNatClampNeg)]) (r := [.int (x26 - (1 : Int32)), .ref (jr S l0 29)]) (a := 0) (b := 0) rfl ⟨g10, Nat.le_of_ble_eq_true rfl, Nat.zero_le _, Nat.zero_le _⟩ (vX12_reckon d (by omega) h) ?_
          rintro v S31 ⟨r32, rfl, h⟩
          show jLf (jCall jmt jbud d) jbud (fun j => (jmt j).rk) none mX12_reckonAll (jqV Q) (80, [some (.ref l0), none, some (.int l2), some (.int x26), some (.int x17), some (.int x14), some (.int x16)], [.long r32, .int (x26 - (1 : Int32)), .ref (jr S l0 29)], S31, 0, 0)
          obtain ⟨g33, g34, h⟩ := h
          refine jLf.bk hc 1 [jA S31 (jr S l0 29) 14, vp_in (x26 - (1 : Int32)) (jZ S31 (jr S l0 29))] [some (.ref l0), none, some (.int l2), some (.int x26), some (.int x17), some (.int x14), some (.int x16)] [] (uJ S31 (jr S l0 29) (x26 - (1 : Int32)).toNatClampNeg r32) rfl rfl rfl ⟨g33, g34⟩ ?_
          generalize eS35 : uJ S31 (jr S l0 29) (x26 - (1 : Int32)).toNatClampNeg r32 = S35
          have h := h S35 eS35.symm
          obtain ⟨g36, h⟩ := h
          refine jLf.bk hc 3 [jA S35 l0 12] [some (.ref l0), none, some (.int l2), some (.int x26), some (.int x17), some (.int x14), some (.int x16)] [.int (jI S35 l0 30), .ref l0] S35 rfl rfl rfl g36 ?_
          refine jLf.two hc _ rfl (gs := []) (p1 := ¬ (jI S35 l0 30) = 0) (p2 := ¬ (¬ (jI S35 l0 30) = 0)) (c1 := (95, [some (.ref l0), none, some (.int l2), some (.int x26), some (.int x17), some (.int x14), some (.int x16)], [.ref l0], S35, 0, 0)) (c2 := (85, [some (.ref l0), none, some (.int l2), some (.int x26), some (.int x17), some (.int x14), some (.int x16)], [.ref l0], S35, 0, 0)) rfl trivial (fun hz => ?_) (fun hz => ?_)
          · have h := h.1 hz
            refine jLf.sub [some (.ref l0), none, some (.int l2), some (.int x26), some (.int x17), none, none] (jle_same (jle_same (jle_same (jle_same (jle_same (jle_none (jle_none (jle_nil _)))))))) ?_
            exact tX12_reckonAll_95 d hd hX7 h
          · have h := h.2 (Classical.not_not.mp hz)
            obtain ⟨g40, g41, g42, h⟩ := h
            refine jLf.bk hc 8 [jA S35 l0 12, ¬ jR S35 l0 29 = none, jA S35 (jr S35 l0 29) 14, vp_in (x26 - (1 : Int32)) (jZ S35 (jr S35 l0 29))] [some (.ref l0), none, some (.int l2), some (.int x26), some (.int x17), some (.int x14), some (.int x16)] [.long 1000000000, .long (-1000000000), .long (jJ S35 (jr S35 l0 29) (x26 - (1 : Int32)).toNatClampNeg), .ref l0] S35 rfl rfl rfl ⟨g36, g40, g41, g42⟩ ?_
            refine jLf.inv hc _ rfl (gs := [3 ≤ ([.long 1000000000, .long (-1000000000), .long (jJ S35 (jr S35 l0 29) (x26 - (1 : Int32)).toNatClampNeg), .ref l0] : List Value).length, (([.ref l0] : List Value).map fun v => v.category).sum ≤ 8, 0 ≤ 0, 0 ≤ 0]) (k := 148) (args := [.long (jJ S35 (jr S35 l0 29) (x26 - (1 : Int32)).toNatClampNeg), .long (-1000000000), .long 1000000000]) (r := [.ref l0]) (a := 0) (b := 0) rfl ⟨Nat.le_of_ble_eq_true rfl, Nat.le_of_ble_eq_true rfl, Nat.zero_le _, Nat.zero_le _⟩ (vX12_in d (by omega) h) ?_
            rintro v S43 ⟨r44, rfl, h⟩
            show jLf (jCall jmt jbud d) jbud (fun j => (jmt j).rk) none mX12_reckonAll (jqV Q) (94, [some (.ref l0), none, some (.int l2), some (.int x26), some (.int x17), some (.int x14), some (.int x16)], [.int r44, .ref l0], S43, 0, 0)
            refine jLf.two hc _ rfl (gs := []) (p1 := ¬ r44 = 0) (p2 := ¬ (¬ r44 = 0)) (c1 := (97, [some (.ref l0), none, some (.int l2), some (.int x26), some (.int x17), some (.int x14), some (.int x16)], [.ref l0], S43, 0, 0)) (c2 := (95, [some (.ref l0), none, some (.int l2), some (.int x26), some (.int x17), some (.int x14), some (.int x16)], [.ref l0], S43, 0, 0)) rfl trivial (fun hz => ?_) (fun hz => ?_)
            · have h := h.1 hz
              refine jLf.bk hc 1 [] [some (.ref l0), none, some (.int l2), some (.int x26), some (.int x17), some (.int x14), some (.int x16)] [.int 0, .ref l0] S43 rfl rfl rfl trivial ?_
              refine jLf.sub [some (.ref l0), none, some (.int l2), some (.int x26), some (.int x17), none, none] (jle_same (jle_same (jle_same (jle_same (jle_same (jle_none (jle_none (jle_nil _)))))))) ?_
              exact tX12_reckonAll_98 d hd hX7 h
            · have h := h.2 (Classical.not_not.mp hz)
              refine jLf.sub [some (.ref l0), none, some (.int l2), some (.int x26), some (.int x17), none, none] (jle_same (jle_same (jle_same (jle_same (jle_same (jle_none (jle_none (jle_nil _)))))))) ?_
              exact tX12_reckonAll_95 d hd hX7 h
      · have h := h.2 hz
        obtain ⟨g45, h⟩ := h
        refine jLf.bk hc 4 [jA S l0 12, ¬ jR S l0 29 = none] [some (.ref l0), none, some (.int l2), some (.int l3), some (.int x17), some (.int x14), some (.int x16)] [.int x14, .int l3, .ref (jr S l0 29)] S rfl rfl rfl ⟨g10, g45⟩ ?_
        refine jLf.two hc _ rfl (gs := []) (p1 := ¬ x14 = 0) (p2 := ¬ (¬ x14 = 0)) (c1 := (51, [some (.ref l0), none, some (.int l2), some (.int l3), some (.int x17), some (.int x14), some (.int x16)], [.int l3, .ref (jr S l0 29)], S, 0, 0)) (c2 := (48, [some (.ref l0), none, some (.int l2), some (.int l3), some (.int x17), some (.int x14), some (.int x16)], [.int l3, .ref (jr S l0 29)], S, 0, 0)) rfl trivial (fun hz => ?_) (fun hz => ?_)
        · have h := h.1 hz
          obtain ⟨g46, g47, g48, h⟩ := h
          refine jLf.bk hc 4 [jA S l0 12, ¬ jR S l0 28 = none, jA S (jr S l0 28) 14, vp_in x14 (jZ S (jr S l0 28))] [some (.ref l0), none, some (.int l2), some (.int l3), some (.int x17), some (.int x14), some (.int x16)] [.long (jJ S (jr S l0 28) x14.toNatClampNeg), .int l3, .ref (jr S l0 29)] S rfl rfl rfl ⟨g10, g46, g47, g48⟩ ?_
          refine jLf.sub [some (.ref l0), none, some (.int l2), some (.int l3), some (.int x17), none, none] (jle_same (jle_same (jle_same (jle_same (jle_same (jle_none (jle_none (jle_nil _)))))))) ?_
          exact tX12_reckonAll_55 d hd hX7 h
        · have h := h.2 (Classical.not_not.mp hz)
          refine jLf.bk hc 2 [] [some (.ref l0), none, some (.int l2), some (.int l3), some (.int x17), some (.int x14), some (.int x16)] [.long (x16.toInt64), .int l3, .ref (jr S l0 29)] S rfl rfl rfl trivial ?_
          refine jLf.one hc _ rfl (gs := []) (c := (55, [some (.ref l0), none, some (.int l2), some (.int l3), some (.int x17), some (.int x14), some (.int x16)], [.long (x16.toInt64), .int l3, .ref (jr S l0 29)], S, 0, 0)) rfl trivial ?_
          refine jLf.sub [some (.ref l0), none, some (.int l2), some (.int l3), some (.int x17), none, none] (jle_same (jle_same (jle_same (jle_same (jle_same (jle_none (jle_none (jle_nil _)))))))) ?_
          exact tX12_reckonAll_55 d hd hX7 h
def wX12_reckonAll_7   (l0 : Nat) (l2 : Int32) (l3 : Int32) (l4 : Int32) (S : JS) (Q : JS → Prop) : Prop :=
  jLoop (fun (X7 : Nat × Int32 × Int32 × Int32 × JS → Prop) q => bX12_reckonAll_7 (fun l0 l2 l3 l4 S => X7 (l0, l2, l3, l4, S)) q.1 q.2.1 q.2.2.1 q.2.2.2.1 q.2.2.2.2 Q) (l0, l2, l3, l4, S)
set_option maxRecDepth 20000 in
theorem tX12_reckonAll_7 {Q : JS → Prop}  (d : Nat) (hd : 1 ≤ d) {l0 : Nat} {l2 : Int32} {l3 : Int32} {l4 : Int32} {S : JS} (h : wX12_reckonAll_7 l0 l2 l3 l4 S Q) : jLf (jCall jmt jbud d) jbud (fun j => (jmt j).rk) none mX12_reckonAll (jqV Q) (7, [some (.ref l0), none, some (.int l2), some (.int l3), some (.int l4), none, none], [], S, 0, 0) := by
  have := h (fun q : Nat × Int32 × Int32 × Int32 × JS => jLf (jCall jmt jbud d) jbud (fun j => (jmt j).rk) none mX12_reckonAll (jqV Q) (7, [some (.ref (q.1)), none, some (.int (q.2.1)), some (.int (q.2.2.1)), some (.int (q.2.2.2.1)), none, none], [], q.2.2.2.2, 0, 0)) (fun q R hb hR => uX12_reckonAll_7 d hd  (fun _ _ _ _ _ => hR _) hb)
  exact this
def wX12_reckonAll  (this : Nat) (p1 : Int32) (p2 : Int32) (S : JS) (Q : JS → Prop) : Prop :=
  jA S this 12 ∧ (∀ S2 : JS, S2 = uI S this 30 0 → (wX12_reckonAll_7 this p2 0 p1 S2 Q))
set_option maxRecDepth 20000 in
theorem vX12_reckonAll {Q : JS → Prop} (d : Nat) (hd : 2 ≤ d) {this : Nat} {p1 : Int32} {p2 : Int32} {S : JS} (h : wX12_reckonAll this p1 p2 S Q) : jCall jmt jbud d 192 [.ref this, .int p1, .int p2] S (jqV Q) := by
  obtain ⟨d, rfl⟩ : ∃ d2, d = d2 + 1 := ⟨d - 1, by omega⟩
  have hd : 1 ≤ d := by omega
  have hc := jCall_mono jmt jbud d
  unfold wX12_reckonAll at h
  refine ⟨Nat.le_of_ble_eq_true rfl, ?_⟩
  show jLf (jCall jmt jbud d) jbud (fun j => (jmt j).rk) none mX12_reckonAll (jqV Q) (0, [some (.ref this), some (.int p1), some (.int p2), none, none, none, none], [], S, 0, 0)
  obtain ⟨g1, h⟩ := h
  refine jLf.bk hc 3 [jA S this 12, jbit 0] [some (.ref this), some (.int p1), some (.int p2), none, none, none, none] [] (uI S this 30 0) rfl rfl rfl ⟨g1, (Or.inl rfl)⟩ ?_
  generalize eS2 : uI S this 30 0 = S2
  have h := h S2 eS2.symm
  refine jLf.bk hc 4 [] [some (.ref this), some (.int p1), some (.int p2), some (.int 0), some (.int p1), none, none] [] S2 rfl rfl rfl trivial ?_
  refine jLf.sub [some (.ref this), none, some (.int p2), some (.int 0), some (.int p1), none, none] (jle_same (jle_none (jle_same (jle_same (jle_same (jle_same (jle_same (jle_nil _)))))))) ?_
  exact tX12_reckonAll_7 d hd  h
def wX12_isSo_37   (l0 : Nat) (l1 : Int32) (S : JS) (Q : Int32 → JS → Prop) : Prop :=
  jA S l0 12 ∧ (¬ jR S l0 3 = none ∧ (jA S (jr S l0 3) 13 ∧ (vp_in l1 (jZ S (jr S l0 3)) ∧ (((jI S (jr S l0 3) l1.toNatClampNeg) = 2 → Q 1 S) ∧ (¬ (jI S (jr S l0 3) l1.toNatClampNeg) = 2 → vp_in (l1 + (3 : Int32)) (jZ S (jr S l0 3)) ∧ (vp_in (l1 + (4 : Int32)) (jZ S (jr S l0 3)) ∧ (wX12_reckonAll l0 (jI S (jr S l0 3) (l1 + (3 : Int32)).toNatClampNeg) (jI S (jr S l0 3) (l1 + (4 : Int32)).toNatClampNeg) S (fun S12 => jA S12 l0 12 ∧ (∀ S15 : JS, S15 = uJ S12 l0 32 (jJ S12 l0 31) → (jA S15 l0 12 ∧ ((¬ (jI S15 l0 30) = 0 → Q 0 S15) ∧ ((jI S15 l0 30) = 0 → Q 1 S15))))))))))))
set_option maxRecDepth 20000 in
theorem tX12_isSo_37 {Q : Int32 → JS → Prop}  (d : Nat) (hd : 2 ≤ d) {l0 : Nat} {l1 : Int32} {S : JS} (h : wX12_isSo_37 l0 l1 S Q) : jLf (jCall jmt jbud d) jbud (fun j => (jmt j).rk) none mX12_isSo (jqI Q) (37, [some (.ref l0), some (.int l1)], [], S, 0, 0) := by
  have hc := jCall_mono jmt jbud d
  unfold wX12_isSo_37 at h
  obtain ⟨g6, g7, g8, g9, h⟩ := h
  refine jLf.bk hc 5 [jA S l0 12, ¬ jR S l0 3 = none, jA S (jr S l0 3) 13, vp_in l1 (jZ S (jr S l0 3))] [some (.ref l0), some (.int l1)] [.int 2, .int (jI S (jr S l0 3) l1.toNatClampNeg)] S rfl rfl rfl ⟨g6, g7, g8, g9⟩ ?_
  refine jLf.two hc _ rfl (gs := []) (p1 := (jI S (jr S l0 3) l1.toNatClampNeg) = 2) (p2 := ¬ ((jI S (jr S l0 3) l1.toNatClampNeg) = 2)) (c1 := (68, [some (.ref l0), some (.int l1)], [], S, 0, 0)) (c2 := (43, [some (.ref l0), some (.int l1)], [], S, 0, 0)) rfl trivial (fun hz => ?_) (fun hz => ?_)
  · have h := h.1 hz
    refine jLf.bk hc 1 [] [some (.ref l0), some (.int l1)] [.int 1] S rfl rfl rfl trivial ?_
    exact jLf.ret hc _ rfl (gs := [jbit 1]) (v := some (.int 1)) rfl (Or.inr rfl) ⟨_, rfl, h⟩
  · have h := h.2 hz
    obtain ⟨g10, g11, h⟩ := h
    refine jLf.bk hc 13 [jA S l0 12, ¬ jR S l0 3 = none, jA S (jr S l0 3) 13, vp_in (l1 + (3 : Int32)) (jZ S (jr S l0 3)), jA S l0 12, ¬ jR S l0 3 = none, jA S (jr S l0 3) 13, vp_in (l1 + (4 : Int32)) (jZ S (jr S l0 3))] [some (.ref l0), some (.int l1)] [.int (jI S (jr S l0 3) (l1 + (4 : Int32)).toNatClampNeg), .int (jI S (jr S l0 3) (l1 + (3 : Int32)).toNatClampNeg), .ref l0] S rfl rfl rfl ⟨g6, g7, g8, g10, g6, g7, g8, g11⟩ ?_
    refine jLf.inv hc _ rfl (gs := [jA S l0 12, (([] : List Value).map fun v => v.category).sum ≤ 8, 0 ≤ 0, 0 ≤ 0]) (k := 192) (args := [.ref l0, .int (jI S (jr S l0 3) (l1 + (3 : Int32)).toNatClampNeg), .int (jI S (jr S l0 3) (l1 + (4 : Int32)).toNatClampNeg)]) (r := []) (a := 0) (b := 0) rfl ⟨g6, Nat.le_of_ble_eq_true rfl, Nat.zero_le _, Nat.zero_le _⟩ (vX12_reckonAll d (by omega) h) ?_
    rintro v S12 ⟨rfl, h⟩
    show jLf (jCall jmt jbud d) jbud (fun j => (jmt j).rk) none mX12_isSo (jqI Q) (57, [some (.ref l0), some (.int l1)], [], S12, 0, 0)
    obtain ⟨g14, h⟩ := h
    refine jLf.bk hc 4 [jA S12 l0 12, jA S12 l0 12] [some (.ref l0), some (.int l1)] [] (uJ S12 l0 32 (jJ S12 l0 31)) rfl rfl rfl ⟨g14, g14⟩ ?_
    generalize eS15 : uJ S12 l0 32 (jJ S12 l0 31) = S15
    have h := h S15 eS15.symm
    obtain ⟨g16, h⟩ := h
    refine jLf.bk hc 2 [jA S15 l0 12] [some (.ref l0), some (.int l1)] [.int (jI S15 l0 30)] S15 rfl rfl rfl g16 ?_
    refine jLf.two hc _ rfl (gs := []) (p1 := ¬ (jI S15 l0 30) = 0) (p2 := ¬ (¬ (jI S15 l0 30) = 0)) (c1 := (66, [some (.ref l0), some (.int l1)], [], S15, 0, 0)) (c2 := (64, [some (.ref l0), some (.int l1)], [], S15, 0, 0)) rfl trivial (fun hz => ?_) (fun hz => ?_)
    · have h := h.1 hz
      refine jLf.bk hc 1 [] [some (.ref l0), some (.int l1)] [.int 0] S15 rfl rfl rfl trivial ?_
      exact jLf.ret hc _ rfl (gs := [jbit 0]) (v := some (.int 0)) rfl (Or.inl rfl) ⟨_, rfl, h⟩
    · have h := h.2 (Classical.not_not.mp hz)
      refine jLf.bk hc 1 [] [some (.ref l0), some (.int l1)] [.int 1] S15 rfl rfl rfl trivial ?_
      refine jLf.one hc _ rfl (gs := []) (c := (67, [some (.ref l0), some (.int l1)], [.int 1], S15, 0, 0)) rfl trivial ?_
      exact jLf.ret hc _ rfl (gs := [jbit 1]) (v := some (.int 1)) rfl (Or.inr rfl) ⟨_, rfl, h⟩
def wX12_isSo  (this : Nat) (p1 : Int32) (S : JS) (Q : Int32 → JS → Prop) : Prop :=
  jA S this 12 ∧ (¬ jR S this 3 = none ∧ (jA S (jr S this 3) 13 ∧ (vp_in (p1 + (5 : Int32)) (jZ S (jr S this 3)) ∧ (vp_in (p1 + (6 : Int32)) (jZ S (jr S this 3)) ∧ (((jI S (jr S this 3) (p1 + (6 : Int32)).toNatClampNeg) ≤ (jI S (jr S this 3) (p1 + (5 : Int32)).toNatClampNeg) → wX12_isSo_37 this p1 S Q) ∧ (¬ ((jI S (jr S this 3) (p1 + (6 : Int32)).toNatClampNeg) ≤ (jI S (jr S this 3) (p1 + (5 : Int32)).toNatClampNeg)) → wX12_reckonAll this (jI S (jr S this 3) (p1 + (5 : Int32)).toNatClampNeg) (jI S (jr S this 3) (p1 + (6 : Int32)).toNatClampNeg) S (fun S17 => jA S17 this 12 ∧ ((¬ (jI S17 this 30) = 0 → Q 0 S17) ∧ ((jI S17 this 30) = 0 → (¬ (lg_cmp (jJ S17 this 31) (0 : Int64)) = 0 → wX12_isSo_37 this p1 S17 Q) ∧ ((lg_cmp (jJ S17 this 31) (0 : Int64)) = 0 → Q 0 S17))))))))))
set_option maxRecDepth 20000 in
theorem vX12_isSo {Q : Int32 → JS → Prop} (d : Nat) (hd : 3 ≤ d) {this : Nat} {p1 : Int32} {S : JS} (h : wX12_isSo this p1 S Q) : jCall jmt jbud d 193 [.ref this, .int p1] S (jqI Q) := by
  obtain ⟨d, rfl⟩ : ∃ d2, d = d2 + 1 := ⟨d - 1, by omega⟩
  have hd : 2 ≤ d := by omega
  have hc := jCall_mono jmt jbud d
  unfold wX12_isSo at h
  refine ⟨Nat.le_of_ble_eq_true rfl, ?_⟩
  show jLf (jCall jmt jbud d) jbud (fun j => (jmt j).rk) none mX12_isSo (jqI Q) (0, [some (.ref this), some (.int p1)], [], S, 0, 0)
  obtain ⟨g1, g2, g3, g4, g5, h⟩ := h
  refine jLf.bk hc 12 [jA S this 12, ¬ jR S this 3 = none, jA S (jr S this 3) 13, vp_in (p1 + (5 : Int32)) (jZ S (jr S this 3)), jA S this 12, ¬ jR S this 3 = none, jA S (jr S this 3) 13, vp_in (p1 + (6 : Int32)) (jZ S (jr S this 3))] [some (.ref this), some (.int p1)] [.int (jI S (jr S this 3) (p1 + (6 : Int32)).toNatClampNeg), .int (jI S (jr S this 3) (p1 + (5 : Int32)).toNatClampNeg)] S rfl rfl rfl ⟨g1, g2, g3, g4, g1, g2, g3, g5⟩ ?_
  refine jLf.two hc _ rfl (gs := []) (p1 := (jI S (jr S this 3) (p1 + (6 : Int32)).toNatClampNeg) ≤ (jI S (jr S this 3) (p1 + (5 : Int32)).toNatClampNeg)) (p2 := ¬ ((jI S (jr S this 3) (p1 + (6 : Int32)).toNatClampNeg) ≤ (jI S (jr S this 3) (p1 + (5 : Int32)).toNatClampNeg))) (c1 := (37, [some (.ref this), some (.int p1)], [], S, 0, 0)) (c2 := (13, [some (.ref this), some (.int p1)], [], S, 0, 0)) rfl trivial (fun hz => ?_) (fun hz => ?_)
  · have h := h.1 hz
    exact tX12_isSo_37 d hd  h
  · have h := h.2 hz
    refine jLf.bk hc 13 [jA S this 12, ¬ jR S this 3 = none, jA S (jr S this 3) 13, vp_in (p1 + (5 : Int32)) (jZ S (jr S this 3)), jA S this 12, ¬ jR S this 3 = none, jA S (jr S this 3) 13, vp_in (p1 + (6 : Int32)) (jZ S (jr S this 3))] [some (.ref this), some (.int p1)] [.int (jI S (jr S this 3) (p1 + (6 : Int32)).toNatClampNeg), .int (jI S (jr S this 3) (p1 + (5 : Int32)).toNatClampNeg), .ref this] S rfl rfl rfl ⟨g1, g2, g3, g4, g1, g2, g3, g5⟩ ?_
    refine jLf.inv hc _ rfl (gs := [jA S this 12, (([] : List Value).map fun v => v.category).sum ≤ 8, 0 ≤ 0, 0 ≤ 0]) (k := 192) (args := [.ref this, .int (jI S (jr S this 3) (p1 + (5 : Int32)).toNatClampNeg), .int (jI S (jr S this 3) (p1 + (6 : Int32)).toNatClampNeg)]) (r := []) (a := 0) (b := 0) rfl ⟨g1, Nat.le_of_ble_eq_true rfl, Nat.zero_le _, Nat.zero_le _⟩ (vX12_reckonAll d (by omega) h) ?_
    rintro v S17 ⟨rfl, h⟩
    show jLf (jCall jmt jbud d) jbud (fun j => (jmt j).rk) none mX12_isSo (jqI Q) (27, [some (.ref this), some (.int p1)], [], S17, 0, 0)
    obtain ⟨g19, h⟩ := h
    refine jLf.bk hc 2 [jA S17 this 12] [some (.ref this), some (.int p1)] [.int (jI S17 this 30)] S17 rfl rfl rfl g19 ?_
    refine jLf.two hc _ rfl (gs := []) (p1 := ¬ (jI S17 this 30) = 0) (p2 := ¬ (¬ (jI S17 this 30) = 0)) (c1 := (35, [some (.ref this), some (.int p1)], [], S17, 0, 0)) (c2 := (30, [some (.ref this), some (.int p1)], [], S17, 0, 0)) rfl trivial (fun hz => ?_) (fun hz => ?_)
    · have h := h.1 hz
      refine jLf.bk hc 1 [] [some (.ref this), some (.int p1)] [.int 0] S17 rfl rfl rfl trivial ?_
      exact jLf.ret hc _ rfl (gs := [jbit 0]) (v := some (.int 0)) rfl (Or.inl rfl) ⟨_, rfl, h⟩
    · have h := h.2 (Classical.not_not.mp hz)
      refine jLf.bk hc 4 [jA S17 this 12] [some (.ref this), some (.int p1)] [.int (lg_cmp (jJ S17 this 31) (0 : Int64))] S17 rfl rfl rfl g19 ?_
      refine jLf.two hc _ rfl (gs := []) (p1 := ¬ (lg_cmp (jJ S17 this 31) (0 : Int64)) = 0) (p2 := ¬ (¬ (lg_cmp (jJ S17 this 31) (0 : Int64)) = 0)) (c1 := (37, [some (.ref this), some (.int p1)], [], S17, 0, 0)) (c2 := (35, [some (.ref this), some (.int p1)], [], S17, 0, 0)) rfl trivial (fun hz => ?_) (fun hz => ?_)
      · have h := h.1 hz
        exact tX12_isSo_37 d hd  h
      · have h := h.2 (Classical.not_not.mp hz)
        refine jLf.bk hc 1 [] [some (.ref this), some (.int p1)] [.int 0] S17 rfl rfl rfl trivial ?_
        exact jLf.ret hc _ rfl (gs := [jbit 0]) (v := some (.int 0)) rfl (Or.inl rfl) ⟨_, rfl, h⟩
def wX12_farBetween_10   (l0 : Nat) (s0 : Int32) (S : JS) (Q : Int32 → JS → Prop) : Prop :=
  jA S l0 12 ∧ (wX12_rocks l0 S (fun r2 S1 => ((r2 - s0) ≤ s0 → jA S1 l0 12 ∧ (wX12_rocks l0 S1 (fun r5 S4 => Q (r5 - s0) S4))) ∧ (¬ ((r2 - s0) ≤ s0) → Q s0 S1)))
set_option maxRecDepth 20000 in
theorem tX12_farBetween_10 {Q : Int32 → JS → Prop}  (d : Nat) (hd : 1 ≤ d) {l0 : Nat} {s0 : Int32} {S : JS} (h : wX12_farBetween_10 l0 s0 S Q) : jLf (jCall jmt jbud d) jbud (fun j => (jmt j).rk) none mX12_farBetween (jqI Q) (10, [some (.ref l0), none, none, none], [.int s0], S, 0, 0) := by
  have hc := jCall_mono jmt jbud d
  unfold wX12_farBetween_10 at h
  refine jLf.bk hc 3 [] [some (.ref l0), none, none, some (.int s0)] [.ref l0, .int s0] S rfl rfl rfl trivial ?_
  obtain ⟨g3, h⟩ := h
  refine jLf.inv hc _ rfl (gs := [jA S l0 12, (([.int s0] : List Value).map fun v => v.category).sum ≤ 8, 0 ≤ 0, 0 ≤ 0]) (k := 154) (args := [.ref l0]) (r := [.int s0]) (a := 0) (b := 0) rfl ⟨g3, Nat.le_of_ble_eq_true rfl, Nat.zero_le _, Nat.zero_le _⟩ (vX12_rocks d (by omega) h) ?_
  rintro v S1 ⟨r2, rfl, h⟩
  show jLf (jCall jmt jbud d) jbud (fun j => (jmt j).rk) none mX12_farBetween (jqI Q) (14, [some (.ref l0), none, none, some (.int s0)], [.int r2, .int s0], S1, 0, 0)
  refine jLf.bk hc 2 [] [some (.ref l0), none, none, some (.int s0)] [.int (r2 - s0), .int s0] S1 rfl rfl rfl trivial ?_
  refine jLf.two hc _ rfl (gs := []) (p1 := (r2 - s0) ≤ s0) (p2 := ¬ ((r2 - s0) ≤ s0)) (c1 := (19, [some (.ref l0), none, none, some (.int s0)], [], S1, 0, 0)) (c2 := (17, [some (.ref l0), none, none, some (.int s0)], [], S1, 0, 0)) rfl trivial (fun hz => ?_) (fun hz => ?_)
  · have h := h.1 hz
    refine jLf.bk hc 1 [] [some (.ref l0), none, none, some (.int s0)] [.ref l0] S1 rfl rfl rfl trivial ?_
    obtain ⟨g6, h⟩ := h
    refine jLf.inv hc _ rfl (gs := [jA S1 l0 12, (([] : List Value).map fun v => v.category).sum ≤ 8, 0 ≤ 0, 0 ≤ 0]) (k := 154) (args := [.ref l0]) (r := []) (a := 0) (b := 0) rfl ⟨g6, Nat.le_of_ble_eq_true rfl, Nat.zero_le _, Nat.zero_le _⟩ (vX12_rocks d (by omega) h) ?_
    rintro v S4 ⟨r5, rfl, h⟩
    show jLf (jCall jmt jbud d) jbud (fun j => (jmt j).rk) none mX12_farBetween (jqI Q) (21, [some (.ref l0), none, none, some (.int s0)], [.int r5], S4, 0, 0)
    refine jLf.bk hc 2 [] [some (.ref l0), none, none, some (.int s0)] [.int (r5 - s0)] S4 rfl rfl rfl trivial ?_
    exact jLf.ret hc _ rfl (gs := [True]) (v := some (.int (r5 - s0))) rfl trivial ⟨r5 - s0, rfl, h⟩
  · have h := h.2 hz
    refine jLf.bk hc 1 [] [some (.ref l0), none, none, some (.int s0)] [.int s0] S1 rfl rfl rfl trivial ?_
    refine jLf.one hc _ rfl (gs := []) (c := (23, [some (.ref l0), none, none, some (.int s0)], [.int s0], S1, 0, 0)) rfl trivial ?_
    exact jLf.ret hc _ rfl (gs := [True]) (v := some (.int s0)) rfl trivial ⟨s0, rfl, h⟩
def wX12_farBetween  (this : Nat) (p1 : Int32) (p2 : Int32) (S : JS) (Q : Int32 → JS → Prop) : Prop :=
  (p2 ≤ p1 → wX12_farBetween_10 this (p1 - p2) S Q) ∧ (¬ (p2 ≤ p1) → wX12_farBetween_10 this (p2 - p1) S Q)
set_option maxRecDepth 20000 in
theorem vX12_farBetween {Q : Int32 → JS → Prop} (d : Nat) (hd : 2 ≤ d) {this : Nat} {p1 : Int32} {p2 : Int32} {S : JS} (h : wX12_farBetween this p1 p2 S Q) : jCall jmt jbud d 194 [.ref this, .int p1, .int p2] S (jqI Q) := by
  obtain ⟨d, rfl⟩ : ∃ d2, d = d2 + 1 := ⟨d - 1, by omega⟩
  have hd : 1 ≤ d := by omega
  have hc := jCall_mono jmt jbud d
  unfold wX12_farBetween at h
  refine ⟨Nat.le_of_ble_eq_true rfl, ?_⟩
  show jLf (jCall jmt jbud d) jbud (fun j => (jmt j).rk) none mX12_farBetween (jqI Q) (0, [some (.ref this), some (.int p1), some (.int p2), none], [], S, 0, 0)
  refine jLf.bk hc 2 [] [some (.ref this), some (.int p1), some (.int p2), none] [.int p2, .int p1] S rfl rfl rfl trivial ?_
  refine jLf.two hc _ rfl (gs := []) (p1 := p2 ≤ p1) (p2 := ¬ (p2 ≤ p1)) (c1 := (7, [some (.ref this), some (.int p1), some (.int p2), none], [], S, 0, 0)) (c2 := (3, [some (.ref this), some (.int p1), some (.int p2), none], [], S, 0, 0)) rfl trivial (fun hz => ?_) (fun hz => ?_)
  · have h := h.1 hz
    refine jLf.bk hc 3 [] [some (.ref this), some (.int p1), some (.int p2), none] [.int (p1 - p2)] S rfl rfl rfl trivial ?_
    refine jLf.sub [some (.ref this), none, none, none] (jle_same (jle_none (jle_none (jle_same (jle_nil _))))) ?_
    exact tX12_farBetween_10 d hd  h
  · have h := h.2 hz
    refine jLf.bk hc 3 [] [some (.ref this), some (.int p1), some (.int p2), none] [.int (p2 - p1)] S rfl rfl rfl trivial ?_
    refine jLf.one hc _ rfl (gs := []) (c := (10, [some (.ref this), some (.int p1), some (.int p2), none], [.int (p2 - p1)], S, 0, 0)) rfl trivial ?_
    refine jLf.sub [some (.ref this), none, none, none] (jle_same (jle_none (jle_none (jle_same (jle_nil _))))) ?_
    exact tX12_farBetween_10 d hd  h
def wX12_tells_115   (l5 : Int64) (S : JS) (Q : Int32 → JS → Prop) : Prop :=
  (0 ≤ (lg_cmp l5 (0 : Int64)) → ((lg_cmp l5 (99 : Int64)) ≤ 0 → Q (l5.toInt32) S) ∧ (¬ ((lg_cmp l5 (99 : Int64)) ≤ 0) → Q 99 S)) ∧ (¬ (0 ≤ (lg_cmp l5 (0 : Int64))) → Q 0 S)
set_option maxRecDepth 20000 in
theorem tX12_tells_115 {Q : Int32 → JS → Prop}  (d : Nat) (hd : 3 ≤ d) {l5 : Int64} {S : JS} (h : wX12_tells_115 l5 S Q) : jLf (jCall jmt jbud d) jbud (fun j => (jmt j).rk) none mX12_tells (jqI Q) (115, [none, none, none, none, none, some (.long l5), none, none, none], [], S, 0, 0) := by
  have hc := jCall_mono jmt jbud d
  unfold wX12_tells_115 at h
  refine jLf.bk hc 3 [] [none, none, none, none, none, some (.long l5), none, none, none] [.int (lg_cmp l5 (0 : Int64))] S rfl rfl rfl trivial ?_
  refine jLf.two hc _ rfl (gs := []) (p1 := 0 ≤ (lg_cmp l5 (0 : Int64))) (p2 := ¬ (0 ≤ (lg_cmp l5 (0 : Int64)))) (c1 := (121, [none, none, none, none, none, some (.long l5), none, none, none], [], S, 0, 0)) (c2 := (119, [none, none, none, none, none, some (.long l5), none, none, none], [], S, 0, 0)) rfl trivial (fun hz => ?_) (fun hz => ?_)
  · have h := h.1 hz
    refine jLf.bk hc 3 [] [none, none, none, none, none, some (.long l5), none, none, none] [.int (lg_cmp l5 (99 : Int64))] S rfl rfl rfl trivial ?_
    refine jLf.two hc _ rfl (gs := []) (p1 := (lg_cmp l5 (99 : Int64)) ≤ 0) (p2 := ¬ ((lg_cmp l5 (99 : Int64)) ≤ 0)) (c1 := (127, [none, none, none, none, none, some (.long l5), none, none, none], [], S, 0, 0)) (c2 := (125, [none, none, none, none, none, some (.long l5), none, none, none], [], S, 0, 0)) rfl trivial (fun hz => ?_) (fun hz => ?_)
    · have h := h.1 hz
      refine jLf.bk hc 2 [] [none, none, none, none, none, some (.long l5), none, none, none] [.int (l5.toInt32)] S rfl rfl rfl trivial ?_
      exact jLf.ret hc _ rfl (gs := [True]) (v := some (.int (l5.toInt32))) rfl trivial ⟨l5.toInt32, rfl, h⟩
    · have h := h.2 hz
      refine jLf.bk hc 1 [] [none, none, none, none, none, some (.long l5), none, none, none] [.int 99] S rfl rfl rfl trivial ?_
      refine jLf.one hc _ rfl (gs := []) (c := (129, [none, none, none, none, none, some (.long l5), none, none, none], [.int 99], S, 0, 0)) rfl trivial ?_
      exact jLf.ret hc _ rfl (gs := [True]) (v := some (.int 99)) rfl trivial ⟨99, rfl, h⟩
  · have h := h.2 hz
    refine jLf.bk hc 1 [] [none, none, none, none, none, some (.long l5), none, none, none] [.int 0] S rfl rfl rfl trivial ?_
    refine jLf.one hc _ rfl (gs := []) (c := (129, [none, none, none, none, none, some (.long l5), none, none, none], [.int 0], S, 0, 0)) rfl trivial ?_
    exact jLf.ret hc _ rfl (gs := [True]) (v := some (.int 0)) rfl trivial ⟨0, rfl, h⟩
def wX12_tells_113  (X77 : Nat → Int32 → Int64 → Int32 → JS → Prop) (l0 : Nat) (l1 : Int32) (l5 : Int64) (l7 : Int32) (S : JS) (Q : Int32 → JS → Prop) : Prop :=
  ∀ x50 : Int32, x50 = (l7 + 1) → (X77 l0 l1 l5 x50 S)
set_option maxRecDepth 20000 in
theorem tX12_tells_113 {Q : Int32 → JS → Prop} {X77 : Nat → Int32 → Int64 → Int32 → JS → Prop} (d : Nat) (hd : 3 ≤ d) (hX77 : ∀ l0 l1 l5 l7 S, X77 l0 l1 l5 l7 S → jLf (jCall jmt jbud d) jbud (fun j => (jmt j).rk) none mX12_tells (jqI Q) (77, [some (.ref l0), some (.int l1), none, none, none, some (.long l5), none, some (.int l7), none], [], S, 0, 0)) {l0 : Nat} {l1 : Int32} {l5 : Int64} {l7 : Int32} {S : JS} (h : wX12_tells_113 X77 l0 l1 l5 l7 S Q) : jLf (jCall jmt jbud d) jbud (fun j => (jmt j).rk) none mX12_tells (jqI Q) (113, [some (.ref l0), some (.int l1), none, none, none, some (.long l5), none, some (.int l7), none], [], S, 0, 0) := by
  have hc := jCall_mono jmt jbud d
  unfold wX12_tells_113 at h
  refine jLf.bk hc 1 [] [some (.ref l0), some (.int l1), none, none, none, some (.long l5), none, some (.int (l7 + 1)), none] [] S rfl rfl rfl trivial ?_
  generalize ex50 : (l7 + 1 : Int32) = x50
  have h := h x50 ex50.symm
  refine jLf.one hc _ rfl (gs := []) (c := (77, [some (.ref l0), some (.int l1), none, none, none, some (.long l5), none, some (.int x50), none], [], S, 0, 0)) rfl trivial ?_
  exact hX77 _ _ _ _ _ h
def wX12_tells_112  (X77 : Nat → Int32 → Int64 → Int32 → JS → Prop) (l0 : Nat) (l1 : Int32) (l7 : Int32) (s0 : Int64) (S : JS) (Q : Int32 → JS → Prop) : Prop :=
  wX12_tells_113 X77 l0 l1 s0 l7 S Q
set_option maxRecDepth 20000 in
theorem tX12_tells_112 {Q : Int32 → JS → Prop} {X77 : Nat → Int32 → Int64 → Int32 → JS → Prop} (d : Nat) (hd : 3 ≤ d) (hX77 : ∀ l0 l1 l5 l7 S, X77 l0 l1 l5 l7 S → jLf (jCall jmt jbud d) jbud (fun j => (jmt j).rk) none mX12_tells (jqI Q) (77, [some (.ref l0), some (.int l1), none, none, none, some (.long l5), none, some (.int l7), none], [], S, 0, 0)) {l0 : Nat} {l1 : Int32} {l7 : Int32} {s0 : Int64} {S : JS} (h : wX12_tells_112 X77 l0 l1 l7 s0 S Q) : jLf (jCall jmt jbud d) jbud (fun j => (jmt j).rk) none mX12_tells (jqI Q) (112, [some (.ref l0), some (.int l1), none, none, none, none, none, some (.int l7), none], [.long s0], S, 0, 0) := by
  have hc := jCall_mono jmt jbud d
  unfold wX12_tells_112 at h
  refine jLf.bk hc 1 [] [some (.ref l0), some (.int l1), none, none, none, some (.long s0), none, some (.int l7), none] [] S rfl rfl rfl trivial ?_
  exact tX12_tells_113 d hd hX77 h
def bX12_tells_77   (X77 : Nat → Int32 → Int64 → Int32 → JS → Prop) (l0 : Nat) (l1 : Int32) (l5 : Int64) (l7 : Int32) (S : JS) (Q : Int32 → JS → Prop) : Prop :=
  jA S l0 12 ∧ (¬ jR S l0 3 = none ∧ (jA S (jr S l0 3) 13 ∧ (vp_in ((jI S l0 27) + (1 : Int32)) (jZ S (jr S l0 3)) ∧ (((jI S (jr S l0 3) ((jI S l0 27) + (1 : Int32)).toNatClampNeg) ≤ l7 → wX12_tells_115 l5 S Q) ∧ (¬ ((jI S (jr S l0 3) ((jI S l0 27) + (1 : Int32)).toNatClampNeg) ≤ l7) → ∀ x48 : Int32, x48 = (((jI S l0 27) + (2 : Int32)) + ((8 : Int32) * l7)) → (vp_in x48 (jZ S (jr S l0 3)) ∧ ((¬ (jI S (jr S l0 3) x48.toNatClampNeg) = l1 → wX12_tells_113 X77 l0 l1 l5 l7 S Q) ∧ ((jI S (jr S l0 3) x48.toNatClampNeg) = l1 → wX12_isSo l0 x48 S (fun r52 S51 => (r52 = 0 → wX12_tells_113 X77 l0 l1 l5 l7 S51 Q) ∧ (¬ r52 = 0 → (¬ l1 = 2 → jA S51 l0 12 ∧ (wX12_tells_112 X77 l0 l1 l7 (jJ S51 l0 32) S51 Q)) ∧ (l1 = 2 → wX12_tells_112 X77 l0 l1 l7 1 S51 Q)))))))))))
set_option maxRecDepth 20000 in
theorem uX12_tells_77 {Q : Int32 → JS → Prop}  (d : Nat) (hd : 3 ≤ d) {X77 : Nat → Int32 → Int64 → Int32 → JS → Prop} (hX77 : ∀ l0 l1 l5 l7 S, X77 l0 l1 l5 l7 S → jLf (jCall jmt jbud d) jbud (fun j => (jmt j).rk) none mX12_tells (jqI Q) (77, [some (.ref l0), some (.int l1), none, none, none, some (.long l5), none, some (.int l7), none], [], S, 0, 0)) {l0 : Nat} {l1 : Int32} {l5 : Int64} {l7 : Int32} {S : JS} (h : bX12_tells_77 X77 l0 l1 l5 l7 S Q) : jLf (jCall jmt jbud d) jbud (fun j => (jmt j).rk) none mX12_tells (jqI Q) (77, [some (.ref l0), some (.int l1), none, none, none, some (.long l5), none, some (.int l7), none], [], S, 0, 0) := by
  have hc := jCall_mono jmt jbud d
  unfold bX12_tells_77 at h
  obtain ⟨g44, g45, g46, g47, h⟩ := h
  refine jLf.bk hc 8 [jA S l0 12, ¬ jR S l0 3 = none, jA S l0 12, jA S (jr S l0 3) 13, vp_in ((jI S l0 27) + (1 : Int32)) (jZ S (jr S l0 3))] [some (.ref l0), some (.int l1), none, none, none, some (.long l5), none, some (.int l7), none] [.int (jI S (jr S l0 3) ((jI S l0 27) + (1 : Int32)).toNatClampNeg), .int l7] S rfl rfl rfl ⟨g44, g45, g44, g46, g47⟩ ?_
  refine jLf.two hc _ rfl (gs := []) (p1 := (jI S (jr S l0 3) ((jI S l0 27) + (1 : Int32)).toNatClampNeg) ≤ l7) (p2 := ¬ ((jI S (jr S l0 3) ((jI S l0 27) + (1 : Int32)).toNatClampNeg) ≤ l7)) (c1 := (115, [some (.ref l0), some (.int l1), none, none, none, some (.long l5), none, some (.int l7), none], [], S, 0, 0)) (c2 := (86, [some (.ref l0), some (.int l1), none, none, none, some (.long l5), none, some (.int l7), none], [], S, 0, 0)) rfl trivial (fun hz => ?_) (fun hz => ?_)
  · have h := h.1 hz
    refine jLf.sub [none, none, none, none, none, some (.long l5), none, none, none] (jle_none (jle_none (jle_same (jle_same (jle_same (jle_same (jle_same (jle_none (jle_same (jle_nil _)))))))))) ?_
    exact tX12_tells_115 d hd  h
  · have h := h.2 hz
    refine jLf.bk hc 9 [jA S l0 12] [some (.ref l0), some (.int l1), none, none, none, some (.long l5), none, some (.int l7), some (.int (((jI S l0 27) + (2 : Int32)) + ((8 : Int32) * l7)))] [] S rfl rfl rfl g44 ?_
    generalize ex48 : (((jI S l0 27) + (2 : Int32)) + ((8 : Int32) * l7) : Int32) = x48
    have h := h x48 ex48.symm
    obtain ⟨g49, h⟩ := h
    refine jLf.bk hc 5 [jA S l0 12, ¬ jR S l0 3 = none, jA S (jr S l0 3) 13, vp_in x48 (jZ S (jr S l0 3))] [some (.ref l0), some (.int l1), none, none, none, some (.long l5), none, some (.int l7), some (.int x48)] [.int l1, .int (jI S (jr S l0 3) x48.toNatClampNeg)] S rfl rfl rfl ⟨g44, g45, g46, g49⟩ ?_
    refine jLf.two hc _ rfl (gs := []) (p1 := ¬ (jI S (jr S l0 3) x48.toNatClampNeg) = l1) (p2 := ¬ (¬ (jI S (jr S l0 3) x48.toNatClampNeg) = l1)) (c1 := (113, [some (.ref l0), some (.int l1), none, none, none, some (.long l5), none, some (.int l7), some (.int x48)], [], S, 0, 0)) (c2 := (101, [some (.ref l0), some (.int l1), none, none, none, some (.long l5), none, some (.int l7), some (.int x48)], [], S, 0, 0)) rfl trivial (fun hz => ?_) (fun hz => ?_)
    · have h := h.1 hz
      refine jLf.sub [some (.ref l0), some (.int l1), none, none, none, some (.long l5), none, some (.int l7), none] (jle_same (jle_same (jle_same (jle_same (jle_same (jle_same (jle_same (jle_same (jle_none (jle_nil _)))))))))) ?_
      exact tX12_tells_113 d hd hX77 h
    · have h := h.2 (Classical.not_not.mp hz)
      refine jLf.bk hc 2 [] [some (.ref l0), some (.int l1), none, none, none, some (.long l5), none, some (.int l7), some (.int x48)] [.int x48, .ref l0] S rfl rfl rfl trivial ?_
      refine jLf.inv hc _ rfl (gs := [jA S l0 12, (([] : List Value).map fun v => v.category).sum ≤ 8, 0 ≤ 0, 0 ≤ 0]) (k := 193) (args := [.ref l0, .int x48]) (r := []) (a := 0) (b := 0) rfl ⟨g44, Nat.le_of_ble_eq_true rfl, Nat.zero_le _, Nat.zero_le _⟩ (vX12_isSo d (by omega) h) ?_
      rintro v S51 ⟨r52, rfl, h⟩
      show jLf (jCall jmt jbud d) jbud (fun j => (jmt j).rk) none mX12_tells (jqI Q) (104, [some (.ref l0), some (.int l1), none, none, none, some (.long l5), none, some (.int l7), some (.int x48)], [.int r52], S51, 0, 0)
      refine jLf.two hc _ rfl (gs := []) (p1 := r52 = 0) (p2 := ¬ (r52 = 0)) (c1 := (113, [some (.ref l0), some (.int l1), none, none, none, some (.long l5), none, some (.int l7), some (.int x48)], [], S51, 0, 0)) (c2 := (105, [some (.ref l0), some (.int l1), none, none, none, some (.long l5), none, some (.int l7), some (.int x48)], [], S51, 0, 0)) rfl trivial (fun hz => ?_) (fun hz => ?_)
      · have h := h.1 hz
        refine jLf.sub [some (.ref l0), some (.int l1), none, none, none, some (.long l5), none, some (.int l7), none] (jle_same (jle_same (jle_same (jle_same (jle_same (jle_same (jle_same (jle_same (jle_none (jle_nil _)))))))))) ?_
        exact tX12_tells_113 d hd hX77 h
      · have h := h.2 hz
        refine jLf.bk hc 2 [] [some (.ref l0), some (.int l1), none, none, none, some (.long l5), none, some (.int l7), some (.int x48)] [.int 2, .int l1] S51 rfl rfl rfl trivial ?_
        refine jLf.two hc _ rfl (gs := []) (p1 := ¬ l1 = 2) (p2 := ¬ (¬ l1 = 2)) (c1 := (110, [some (.ref l0), some (.int l1), none, none, none, some (.long l5), none, some (.int l7), some (.int x48)], [], S51, 0, 0)) (c2 := (108, [some (.ref l0), some (.int l1), none, none, none, some (.long l5), none, some (.int l7), some (.int x48)], [], S51, 0, 0)) rfl trivial (fun hz => ?_) (fun hz => ?_)
        · have h := h.1 hz
          obtain ⟨g53, h⟩ := h
          refine jLf.bk hc 2 [jA S51 l0 12] [some (.ref l0), some (.int l1), none, none, none, some (.long l5), none, some (.int l7), some (.int x48)] [.long (jJ S51 l0 32)] S51 rfl rfl rfl g53 ?_
          refine jLf.sub [some (.ref l0), some (.int l1), none, none, none, none, none, some (.int l7), none] (jle_same (jle_same (jle_same (jle_same (jle_same (jle_none (jle_same (jle_same (jle_none (jle_nil _)))))))))) ?_
          exact tX12_tells_112 d hd hX77 h
        · have h := h.2 (Classical.not_not.mp hz)
          refine jLf.bk hc 1 [] [some (.ref l0), some (.int l1), none, none, none, some (.long l5), none, some (.int l7), some (.int x48)] [.long 1] S51 rfl rfl rfl trivial ?_
          refine jLf.one hc _ rfl (gs := []) (c := (112, [some (.ref l0), some (.int l1), none, none, none, some (.long l5), none, some (.int l7), some (.int x48)], [.long 1], S51, 0, 0)) rfl trivial ?_
          refine jLf.sub [some (.ref l0), some (.int l1), none, none, none, none, none, some (.int l7), none] (jle_same (jle_same (jle_same (jle_same (jle_same (jle_none (jle_same (jle_same (jle_none (jle_nil _)))))))))) ?_
          exact tX12_tells_112 d hd hX77 h
def wX12_tells_77   (l0 : Nat) (l1 : Int32) (l5 : Int64) (l7 : Int32) (S : JS) (Q : Int32 → JS → Prop) : Prop :=
  jLoop (fun (X77 : Nat × Int32 × Int64 × Int32 × JS → Prop) q => bX12_tells_77 (fun l0 l1 l5 l7 S => X77 (l0, l1, l5, l7, S)) q.1 q.2.1 q.2.2.1 q.2.2.2.1 q.2.2.2.2 Q) (l0, l1, l5, l7, S)
set_option maxRecDepth 20000 in
theorem tX12_tells_77 {Q : Int32 → JS → Prop}  (d : Nat) (hd : 3 ≤ d) {l0 : Nat} {l1 : Int32} {l5 : Int64} {l7 : Int32} {S : JS} (h : wX12_tells_77 l0 l1 l5 l7 S Q) : jLf (jCall jmt jbud d) jbud (fun j => (jmt j).rk) none mX12_tells (jqI Q) (77, [some (.ref l0), some (.int l1), none, none, none, some (.long l5), none, some (.int l7), none], [], S, 0, 0) := by
  have := h (fun q : Nat × Int32 × Int64 × Int32 × JS => jLf (jCall jmt jbud d) jbud (fun j => (jmt j).rk) none mX12_tells (jqI Q) (77, [some (.ref (q.1)), some (.int (q.2.1)), none, none, none, some (.long (q.2.2.1)), none, some (.int (q.2.2.2.1)), none], [], q.2.2.2.2, 0, 0)) (fun q R hb hR => uX12_tells_77 d hd  (fun _ _ _ _ _ => hR _) hb)
  exact this
def wX12_tells_74   (l0 : Nat) (l1 : Int32) (l5 : Int64) (s0 : Int64) (s1 : Int32) (s2 : Nat) (S : JS) (Q : Int32 → JS → Prop) : Prop :=
  jA S s2 14 ∧ (vp_in s1 (jZ S s2) ∧ (∀ S43 : JS, S43 = uJ S s2 s1.toNatClampNeg s0 → (wX12_tells_77 l0 l1 l5 0 S43 Q)))
set_option maxRecDepth 20000 in
theorem tX12_tells_74 {Q : Int32 → JS → Prop}  (d : Nat) (hd : 3 ≤ d) {l0 : Nat} {l1 : Int32} {l5 : Int64} {s0 : Int64} {s1 : Int32} {s2 : Nat} {S : JS} (h : wX12_tells_74 l0 l1 l5 s0 s1 s2 S Q) : jLf (jCall jmt jbud d) jbud (fun j => (jmt j).rk) none mX12_tells (jqI Q) (74, [some (.ref l0), some (.int l1), none, none, none, some (.long l5), none, none, none], [.long s0, .int s1, .ref s2], S, 0, 0) := by
  have hc := jCall_mono jmt jbud d
  unfold wX12_tells_74 at h
  obtain ⟨g41, g42, h⟩ := h
  refine jLf.bk hc 1 [jA S s2 14, vp_in s1 (jZ S s2)] [some (.ref l0), some (.int l1), none, none, none, some (.long l5), none, none, none] [] (uJ S s2 s1.toNatClampNeg s0) rfl rfl rfl ⟨g41, g42⟩ ?_
  generalize eS43 : uJ S s2 s1.toNatClampNeg s0 = S43
  have h := h S43 eS43.symm
  refine jLf.bk hc 2 [] [some (.ref l0), some (.int l1), none, none, none, some (.long l5), none, some (.int 0), none] [] S43 rfl rfl rfl trivial ?_
  exact tX12_tells_77 d hd  h
def wX12_tells_6   (l0 : Nat) (l1 : Int32) (l2 : Int32) (l3 : Int32) (l4 : Int32) (s0 : Int64) (S : JS) (Q : Int32 → JS → Prop) : Prop :=
  jA S l0 12 ∧ (¬ jR S l0 3 = none ∧ (jA S (jr S l0 3) 13 ∧ (vp_in (4 : Int32) (jZ S (jr S l0 3)) ∧ (((jI S (jr S l0 3) (4 : Int32).toNatClampNeg) = (-1) → wX12_tells_115 s0 S Q) ∧ (¬ (jI S (jr S l0 3) (4 : Int32).toNatClampNeg) = (-1) → ∀ S5 : JS, S5 = uI S l0 27 ((200 : Int32) + ((900 : Int32) * (jI S (jr S l0 3) (4 : Int32).toNatClampNeg))) → (jA S5 l0 12 ∧ (¬ jR S5 l0 28 = none ∧ (jA S5 (jr S5 l0 28) 14 ∧ (vp_in (1 : Int32) (jZ S5 (jr S5 l0 28)) ∧ (∀ S10 : JS, S10 = uJ S5 (jr S5 l0 28) (1 : Int32).toNatClampNeg (l2.toInt64) → (jA S10 l0 12 ∧ (¬ jR S10 l0 28 = none ∧ (jA S10 (jr S10 l0 28) 14 ∧ (vp_in (2 : Int32) (jZ S10 (jr S10 l0 28)) ∧ (∀ S15 : JS, S15 = uJ S10 (jr S10 l0 28) (2 : Int32).toNatClampNeg (l4.toInt64) → (jA S15 l0 12 ∧ (¬ jR S15 l0 28 = none ∧ (jA S15 (jr S15 l0 28) 14 ∧ (vp_in (3 : Int32) (jZ S15 (jr S15 l0 28)) ∧ (∀ S20 : JS, S20 = uJ S15 (jr S15 l0 28) (3 : Int32).toNatClampNeg (l3.toInt64) → (jA S20 l0 12 ∧ (¬ jR S20 l0 28 = none ∧ (¬ jR S20 l0 3 = none ∧ (jA S20 (jr S20 l0 3) 13 ∧ (vp_in ((8 : Int32) + l3) (jZ S20 (jr S20 l0 3)) ∧ (jA S20 (jr S20 l0 28) 14 ∧ (vp_in (4 : Int32) (jZ S20 (jr S20 l0 28)) ∧ (∀ S28 : JS, S28 = uJ S20 (jr S20 l0 28) (4 : Int32).toNatClampNeg ((jI S20 (jr S20 l0 3) ((8 : Int32) + l3).toNatClampNeg).toInt64) → (jA S28 l0 12 ∧ (¬ jR S28 l0 28 = none ∧ (¬ jR S28 l0 3 = none ∧ (jA S28 (jr S28 l0 3) 13 ∧ (vp_in (1 : Int32) (jZ S28 (jr S28 l0 3)) ∧ (jA S28 (jr S28 l0 28) 14 ∧ (vp_in (5 : Int32) (jZ S28 (jr S28 l0 28)) ∧ (∀ S36 : JS, S36 = uJ S28 (jr S28 l0 28) (5 : Int32).toNatClampNeg ((jI S28 (jr S28 l0 3) (1 : Int32).toNatClampNeg).toInt64) → (jA S36 l0 12 ∧ (¬ jR S36 l0 28 = none ∧ ((¬ l4 = (-1) → wX12_farBetween l0 l2 l4 S36 (fun r40 S39 => wX12_tells_74 l0 l1 s0 (r40.toInt64) 6 (jr S36 l0 28) S39 Q)) ∧ (l4 = (-1) → wX12_tells_74 l0 l1 s0 (-1) 6 (jr S36 l0 28) S36 Q))))))))))))))))))))))))))))))))))))))))
set_option maxRecDepth 20000 in
theorem tX12_tells_6 {Q : Int32 → JS → Prop}  (d : Nat) (hd : 3 ≤ d) {l0 : Nat} {l1 : Int32} {l2 : Int32} {l3 : Int32} {l4 : Int32} {s0 : Int64} {S : JS} (h : wX12_tells_6 l0 l1 l2 l3 l4 s0 S Q) : jLf (jCall jmt jbud d) jbud (fun j => (jmt j).rk) none mX12_tells (jqI Q) (6, [some (.ref l0), some (.int l1), some (.int l2), some (.int l3), some (.int l4), none, none, none, none], [.long s0], S, 0, 0) := by
  have hc := jCall_mono jmt jbud d
  unfold wX12_tells_6 at h
  obtain ⟨g1, g2, g3, g4, h⟩ := h
  refine jLf.bk hc 6 [jA S l0 12, ¬ jR S l0 3 = none, jA S (jr S l0 3) 13, vp_in (4 : Int32) (jZ S (jr S l0 3))] [some (.ref l0), some (.int l1), some (.int l2), some (.int l3), some (.int l4), some (.long s0), none, none, none] [.int (-1), .int (jI S (jr S l0 3) (4 : Int32).toNatClampNeg)] S rfl rfl rfl ⟨g1, g2, g3, g4⟩ ?_
  refine jLf.two hc _ rfl (gs := []) (p1 := (jI S (jr S l0 3) (4 : Int32).toNatClampNeg) = (-1)) (p2 := ¬ ((jI S (jr S l0 3) (4 : Int32).toNatClampNeg) = (-1))) (c1 := (115, [some (.ref l0), some (.int l1), some (.int l2), some (.int l3), some (.int l4), some (.long s0), none, none, none], [], S, 0, 0)) (c2 := (13, [some (.ref l0), some (.int l1), some (.int l2), some (.int l3), some (.int l4), some (.long s0), none, none, none], [], S, 0, 0)) rfl trivial (fun hz => ?_) (fun hz => ?_)
  · have h := h.1 hz
    refine jLf.sub [none, none, none, none, none, some (.long s0), none, none, none] (jle_none (jle_none (jle_none (jle_none (jle_none (jle_same (jle_same (jle_same (jle_same (jle_nil _)))))))))) ?_
    exact tX12_tells_115 d hd  h
  · have h := h.2 hz
    refine jLf.bk hc 10 [jA S l0 12, ¬ jR S l0 3 = none, jA S (jr S l0 3) 13, vp_in (4 : Int32) (jZ S (jr S l0 3)), jA S l0 12] [some (.ref l0), some (.int l1), some (.int l2), some (.int l3), some (.int l4), some (.long s0), none, none, none] [] (uI S l0 27 ((200 : Int32) + ((900 : Int32) * (jI S (jr S l0 3) (4 : Int32).toNatClampNeg)))) rfl rfl rfl ⟨g1, g2, g3, g4, g1⟩ ?_
    generalize eS5 : uI S l0 27 ((200 : Int32) + ((900 : Int32) * (jI S (jr S l0 3) (4 : Int32).toNatClampNeg))) = S5
    have h := h S5 eS5.symm
    obtain ⟨g6, g7, g8, g9, h⟩ := h
    refine jLf.bk hc 6 [jA S5 l0 12, ¬ jR S5 l0 28 = none, jA S5 (jr S5 l0 28) 14, vp_in (1 : Int32) (jZ S5 (jr S5 l0 28))] [some (.ref l0), some (.int l1), some (.int l2), some (.int l3), some (.int l4), some (.long s0), none, none, none] [] (uJ S5 (jr S5 l0 28) (1 : Int32).toNatClampNeg (l2.toInt64)) rfl rfl rfl ⟨g6, g7, g8, g9⟩ ?_
    generalize eS10 : uJ S5 (jr S5 l0 28) (1 : Int32).toNatClampNeg (l2.toInt64) = S10
    have h := h S10 eS10.symm
    obtain ⟨g11, g12, g13, g14, h⟩ := h
    refine jLf.bk hc 6 [jA S10 l0 12, ¬ jR S10 l0 28 = none, jA S10 (jr S10 l0 28) 14, vp_in (2 : Int32) (jZ S10 (jr S10 l0 28))] [some (.ref l0), some (.int l1), some (.int l2), some (.int l3), some (.int l4), some (.long s0), none, none, none] [] (uJ S10 (jr S10 l0 28) (2 : Int32).toNatClampNeg (l4.toInt64)) rfl rfl rfl ⟨g11, g12, g13, g14⟩ ?_
    generalize eS15 : uJ S10 (jr S10 l0 28) (2 : Int32).toNatClampNeg (l4.toInt64) = S15
    have h := h S15 eS15.symm
    obtain ⟨g16, g17, g18, g19, h⟩ := h
    refine jLf.bk hc 6 [jA S15 l0 12, ¬ jR S15 l0 28 = none, jA S15 (jr S15 l0 28) 14, vp_in (3 : Int32) (jZ S15 (jr S15 l0 28))] [some (.ref l0), some (.int l1), some (.int l2), some (.int l3), some (.int l4), some (.long s0), none, none, none] [] (uJ S15 (jr S15 l0 28) (3 : Int32).toNatClampNeg (l3.toInt64)) rfl rfl rfl ⟨g16, g17, g18, g19⟩ ?_
    generalize eS20 : uJ S15 (jr S15 l0 28) (3 : Int32).toNatClampNeg (l3.toInt64) = S20
    have h := h S20 eS20.symm
    obtain ⟨g21, g22, g23, g24, g25, g26, g27, h⟩ := h
    refine jLf.bk hc 11 [jA S20 l0 12, ¬ jR S20 l0 28 = none, jA S20 l0 12, ¬ jR S20 l0 3 = none, jA S20 (jr S20 l0 3) 13, vp_in ((8 : Int32) + l3) (jZ S20 (jr S20 l0 3)), jA S20 (jr S20 l0 28) 14, vp_in (4 : Int32) (jZ S20 (jr S20 l0 28))] [some (.ref l0), some (.int l1), some (.int l2), some (.int l3), some (.int l4), some (.long s0), none, none, none] [] (uJ S20 (jr S20 l0 28) (4 : Int32).toNatClampNeg ((jI S20 (jr S20 l0 3) ((8 : Int32) + l3).toNatClampNeg).toInt64)) rfl rfl rfl ⟨g21, g22, g21, g23, g24, g25, g26, g27⟩ ?_
    generalize eS28 : uJ S20 (jr S20 l0 28) (4 : Int32).toNatClampNeg ((jI S20 (jr S20 l0 3) ((8 : Int32) + l3).toNatClampNeg).toInt64) = S28
    have h := h S28 eS28.symm
    obtain ⟨g29, g30, g31, g32, g33, g34, g35, h⟩ := h
    refine jLf.bk hc 9 [jA S28 l0 12, ¬ jR S28 l0 28 = none, jA S28 l0 12, ¬ jR S28 l0 3 = none, jA S28 (jr S28 l0 3) 13, vp_in (1 : Int32) (jZ S28 (jr S28 l0 3)), jA S28 (jr S28 l0 28) 14, vp_in (5 : Int32) (jZ S28 (jr S28 l0 28))] [some (.ref l0), some (.int l1), some (.int l2), some (.int l3), some (.int l4), some (.long s0), none, none, none] [] (uJ S28 (jr S28 l0 28) (5 : Int32).toNatClampNeg ((jI S28 (jr S28 l0 3) (1 : Int32).toNatClampNeg).toInt64)) rfl rfl rfl ⟨g29, g30, g29, g31, g32, g33, g34, g35⟩ ?_
    generalize eS36 : uJ S28 (jr S28 l0 28) (5 : Int32).toNatClampNeg ((jI S28 (jr S28 l0 3) (1 : Int32).toNatClampNeg).toInt64) = S36
    have h := h S36 eS36.symm
    obtain ⟨g37, g38, h⟩ := h
    refine jLf.bk hc 5 [jA S36 l0 12, ¬ jR S36 l0 28 = none] [some (.ref l0), some (.int l1), some (.int l2), some (.int l3), some (.int l4), some (.long s0), none, none, none] [.int (-1), .int l4, .int 6, .ref (jr S36 l0 28)] S36 rfl rfl rfl ⟨g37, g38⟩ ?_
    refine jLf.two hc _ rfl (gs := []) (p1 := ¬ l4 = (-1)) (p2 := ¬ (¬ l4 = (-1))) (c1 := (69, [some (.ref l0), some (.int l1), some (.int l2), some (.int l3), some (.int l4), some (.long s0), none, none, none], [.int 6, .ref (jr S36 l0 28)], S36, 0, 0)) (c2 := (67, [some (.ref l0), some (.int l1), some (.int l2), some (.int l3), some (.int l4), some (.long s0), none, none, none], [.int 6, .ref (jr S36 l0 28)], S36, 0, 0)) rfl trivial (fun hz => ?_) (fun hz => ?_)
    · have h := h.1 hz
      refine jLf.bk hc 3 [] [some (.ref l0), some (.int l1), some (.int l2), some (.int l3), some (.int l4), some (.long s0), none, none, none] [.int l4, .int l2, .ref l0, .int 6, .ref (jr S36 l0 28)] S36 rfl rfl rfl trivial ?_
      refine jLf.inv hc _ rfl (gs := [jA S36 l0 12, (([.int 6, .ref (jr S36 l0 28)] : List Value).map fun v => v.category).sum ≤ 8, 0 ≤ 0, 0 ≤ 0]) (k := 194) (args := [.ref l0, .int l2, .int l4]) (r := [.int 6, .ref (jr S36 l0 28)]) (a := 0) (b := 0) rfl ⟨g37, Nat.le_of_ble_eq_true rfl, Nat.zero_le _, Nat.zero_le _⟩ (vX12_farBetween d (by omega) h) ?_
      rintro v S39 ⟨r40, rfl, h⟩
      show jLf (jCall jmt jbud d) jbud (fun j => (jmt j).rk) none mX12_tells (jqI Q) (73, [some (.ref l0), some (.int l1), some (.int l2), some (.int l3), some (.int l4), some (.long s0), none, none, none], [.int r40, .int 6, .ref (jr S36 l0 28)], S39, 0, 0)
      refine jLf.bk hc 1 [] [some (.ref l0), some (.int l1), some (.int l2), some (.int l3), some (.int l4), some (.long s0), none, none, none] [.long (r40.toInt64), .int 6, .ref (jr S36 l0 28)] S39 rfl rfl rfl trivial ?_
      refine jLf.sub [some (.ref l0), some (.int l1), none, none, none, some (.long s0), none, none, none] (jle_same (jle_same (jle_none (jle_none (jle_none (jle_same (jle_same (jle_same (jle_same (jle_nil _)))))))))) ?_
      exact tX12_tells_74 d hd  h
    · have h := h.2 (Classical.not_not.mp hz)
      refine jLf.bk hc 1 [] [some (.ref l0), some (.int l1), some (.int l2), some (.int l3), some (.int l4), some (.long s0), none, none, none] [.long (-1), .int 6, .ref (jr S36 l0 28)] S36 rfl rfl rfl trivial ?_
      refine jLf.one hc _ rfl (gs := []) (c := (74, [some (.ref l0), some (.int l1), some (.int l2), some (.int l3), some (.int l4), some (.long s0), none, none, none], [.long (-1), .int 6, .ref (jr S36 l0 28)], S36, 0, 0)) rfl trivial ?_
      refine jLf.sub [some (.ref l0), some (.int l1), none, none, none, some (.long s0), none, none, none] (jle_same (jle_same (jle_none (jle_none (jle_none (jle_same (jle_same (jle_same (jle_same (jle_nil _)))))))))) ?_
      exact tX12_tells_74 d hd  h
def wX12_tells  (this : Nat) (p1 : Int32) (p2 : Int32) (p3 : Int32) (p4 : Int32) (S : JS) (Q : Int32 → JS → Prop) : Prop :=
  (¬ p1 = 2 → wX12_tells_6 this p1 p2 p3 p4 1 S Q) ∧ (p1 = 2 → wX12_tells_6 this p1 p2 p3 p4 0 S Q)
set_option maxRecDepth 20000 in
theorem vX12_tells {Q : Int32 → JS → Prop} (d : Nat) (hd : 4 ≤ d) {this : Nat} {p1 : Int32} {p2 : Int32} {p3 : Int32} {p4 : Int32} {S : JS} (h : wX12_tells this p1 p2 p3 p4 S Q) : jCall jmt jbud d 195 [.ref this, .int p1, .int p2, .int p3, .int p4] S (jqI Q) := by
  obtain ⟨d, rfl⟩ : ∃ d2, d = d2 + 1 := ⟨d - 1, by omega⟩
  have hd : 3 ≤ d := by omega
  have hc := jCall_mono jmt jbud d
  unfold wX12_tells at h
  refine ⟨Nat.le_of_ble_eq_true rfl, ?_⟩
  show jLf (jCall jmt jbud d) jbud (fun j => (jmt j).rk) none mX12_tells (jqI Q) (0, [some (.ref this), some (.int p1), some (.int p2), some (.int p3), some (.int p4), none, none, none, none], [], S, 0, 0)
  refine jLf.bk hc 2 [] [some (.ref this), some (.int p1), some (.int p2), some (.int p3), some (.int p4), none, none, none, none] [.int 2, .int p1] S rfl rfl rfl trivial ?_
  refine jLf.two hc _ rfl (gs := []) (p1 := ¬ p1 = 2) (p2 := ¬ (¬ p1 = 2)) (c1 := (5, [some (.ref this), some (.int p1), some (.int p2), some (.int p3), some (.int p4), none, none, none, none], [], S, 0, 0)) (c2 := (3, [some (.ref this), some (.int p1), some (.int p2), some (.int p3), some (.int p4), none, none, none, none], [], S, 0, 0)) rfl trivial (fun hz => ?_) (fun hz => ?_)
  · have h := h.1 hz
    refine jLf.bk hc 1 [] [some (.ref this), some (.int p1), some (.int p2), some (.int p3), some (.int p4), none, none, none, none] [.long 1] S rfl rfl rfl trivial ?_
    exact tX12_tells_6 d hd  h
  · have h := h.2 (Classical.not_not.mp hz)
    refine jLf.bk hc 1 [] [some (.ref this), some (.int p1), some (.int p2), some (.int p3), some (.int p4), none, none, none, none] [.long 0] S rfl rfl rfl trivial ?_
    refine jLf.one hc _ rfl (gs := []) (c := (6, [some (.ref this), some (.int p1), some (.int p2), some (.int p3), some (.int p4), none, none, none, none], [.long 0], S, 0, 0)) rfl trivial ?_
    exact tX12_tells_6 d hd  h
def wX12_isWedding_45  (X4 : Nat → Int32 → Int32 → Int32 → Int32 → JS → Prop) (l0 : Nat) (l1 : Int32) (l2 : Int32) (l4 : Int32) (s0 : Int32) (S : JS) (Q : Int32 → JS → Prop) : Prop :=
  ∀ x6 : Int32, x6 = (l4 + 1) → (X4 l0 l1 l2 s0 x6 S)
set_option maxRecDepth 20000 in
theorem tX12_isWedding_45 {Q : Int32 → JS → Prop} {X4 : Nat → Int32 → Int32 → Int32 → Int32 → JS → Prop} (d : Nat) (hd : 1 ≤ d) (hX4 : ∀ l0 l1 l2 l3 l4 S, X4 l0 l1 l2 l3 l4 S → jLf (jCall jmt jbud d) jbud (fun j => (jmt j).rk) none mX12_isWedding (jqI Q) (4, [some (.ref l0), some (.int l1), some (.int l2), some (.int l3), some (.int l4), none], [], S, 0, 0)) {l0 : Nat} {l1 : Int32} {l2 : Int32} {l4 : Int32} {s0 : Int32} {S : JS} (h : wX12_isWedding_45 X4 l0 l1 l2 l4 s0 S Q) : jLf (jCall jmt jbud d) jbud (fun j => (jmt j).rk) none mX12_isWedding (jqI Q) (45, [some (.ref l0), some (.int l1), some (.int l2), none, some (.int l4), none], [.int s0], S, 0, 0) := by
  have hc := jCall_mono jmt jbud d
  unfold wX12_isWedding_45 at h
  refine jLf.bk hc 2 [] [some (.ref l0), some (.int l1), some (.int l2), some (.int s0), some (.int (l4 + 1)), none] [] S rfl rfl rfl trivial ?_
  generalize ex6 : (l4 + 1 : Int32) = x6
  have h := h x6 ex6.symm
  refine jLf.one hc _ rfl (gs := []) (c := (4, [some (.ref l0), some (.int l1), some (.int l2), some (.int s0), some (.int x6), none], [], S, 0, 0)) rfl trivial ?_
  exact hX4 _ _ _ _ _ _ h
def wX12_isWedding_42  (X4 : Nat → Int32 → Int32 → Int32 → Int32 → JS → Prop) (l0 : Nat) (l1 : Int32) (l2 : Int32) (l4 : Int32) (S : JS) (Q : Int32 → JS → Prop) : Prop :=
  wX12_isWedding_45 X4 l0 l1 l2 l4 1 S Q
set_option maxRecDepth 20000 in
theorem tX12_isWedding_42 {Q : Int32 → JS → Prop} {X4 : Nat → Int32 → Int32 → Int32 → Int32 → JS → Prop} (d : Nat) (hd : 1 ≤ d) (hX4 : ∀ l0 l1 l2 l3 l4 S, X4 l0 l1 l2 l3 l4 S → jLf (jCall jmt jbud d) jbud (fun j => (jmt j).rk) none mX12_isWedding (jqI Q) (4, [some (.ref l0), some (.int l1), some (.int l2), some (.int l3), some (.int l4), none], [], S, 0, 0)) {l0 : Nat} {l1 : Int32} {l2 : Int32} {l4 : Int32} {S : JS} (h : wX12_isWedding_42 X4 l0 l1 l2 l4 S Q) : jLf (jCall jmt jbud d) jbud (fun j => (jmt j).rk) none mX12_isWedding (jqI Q) (42, [some (.ref l0), some (.int l1), some (.int l2), none, some (.int l4), none], [], S, 0, 0) := by
  have hc := jCall_mono jmt jbud d
  unfold wX12_isWedding_42 at h
  refine jLf.bk hc 1 [] [some (.ref l0), some (.int l1), some (.int l2), none, some (.int l4), none] [.int 1] S rfl rfl rfl trivial ?_
  refine jLf.one hc _ rfl (gs := []) (c := (45, [some (.ref l0), some (.int l1), some (.int l2), none, some (.int l4), none], [.int 1], S, 0, 0)) rfl trivial ?_
  exact tX12_isWedding_45 d hd hX4 h
def wX12_isWedding_44  (X4 : Nat → Int32 → Int32 → Int32 → Int32 → JS → Prop) (l0 : Nat) (l1 : Int32) (l2 : Int32) (l4 : Int32) (S : JS) (Q : Int32 → JS → Prop) : Prop :=
  wX12_isWedding_45 X4 l0 l1 l2 l4 0 S Q
set_option maxRecDepth 20000 in
theorem tX12_isWedding_44 {Q : Int32 → JS → Prop} {X4 : Nat → Int32 → Int32 → Int32 → Int32 → JS → Prop} (d : Nat) (hd : 1 ≤ d) (hX4 : ∀ l0 l1 l2 l3 l4 S, X4 l0 l1 l2 l3 l4 S → jLf (jCall jmt jbud d) jbud (fun j => (jmt j).rk) none mX12_isWedding (jqI Q) (4, [some (.ref l0), some (.int l1), some (.int l2), some (.int l3), some (.int l4), none], [], S, 0, 0)) {l0 : Nat} {l1 : Int32} {l2 : Int32} {l4 : Int32} {S : JS} (h : wX12_isWedding_44 X4 l0 l1 l2 l4 S Q) : jLf (jCall jmt jbud d) jbud (fun j => (jmt j).rk) none mX12_isWedding (jqI Q) (44, [some (.ref l0), some (.int l1), some (.int l2), none, some (.int l4), none], [], S, 0, 0) := by
  have hc := jCall_mono jmt jbud d
  unfold wX12_isWedding_44 at h
  refine jLf.bk hc 1 [] [some (.ref l0), some (.int l1), some (.int l2), none, some (.int l4), none] [.int 0] S rfl rfl rfl trivial ?_
  exact tX12_isWedding_45 d hd hX4 h
def bX12_isWedding_4   (X4 : Nat → Int32 → Int32 → Int32 → Int32 → JS → Prop) (l0 : Nat) (l1 : Int32) (l2 : Int32) (l3 : Int32) (l4 : Int32) (S : JS) (Q : Int32 → JS → Prop) : Prop :=
  jA S l0 12 ∧ (¬ jR S l0 3 = none ∧ (jA S (jr S l0 3) 13 ∧ (vp_in (5 : Int32) (jZ S (jr S l0 3)) ∧ (((jI S (jr S l0 3) (5 : Int32).toNatClampNeg) ≤ l4 → jbit l3 ∧ Q l3 S) ∧ (¬ ((jI S (jr S l0 3) (5 : Int32).toNatClampNeg) ≤ l4) → ∀ x5 : Int32, x5 = ((68 : Int32) + ((3 : Int32) * l4)) → ((¬ l3 = 0 → wX12_isWedding_42 X4 l0 l1 l2 l4 S Q) ∧ (l3 = 0 → vp_in x5 (jZ S (jr S l0 3)) ∧ ((¬ (jI S (jr S l0 3) x5.toNatClampNeg) = l1 → wX12_isWedding_44 X4 l0 l1 l2 l4 S Q) ∧ ((jI S (jr S l0 3) x5.toNatClampNeg) = l1 → vp_in (x5 + (1 : Int32)) (jZ S (jr S l0 3)) ∧ (vp_in (x5 + (2 : Int32)) (jZ S (jr S l0 3)) ∧ (wX12_in (l2.toInt64) ((jI S (jr S l0 3) (x5 + (1 : Int32)).toNatClampNeg).toInt64) ((jI S (jr S l0 3) (x5 + (2 : Int32)).toNatClampNeg).toInt64) S (fun r11 S10 => (r11 = 0 → wX12_isWedding_44 X4 l0 l1 l2 l4 S10 Q) ∧ (¬ r11 = 0 → wX12_isWedding_42 X4 l0 l1 l2 l4 S10 Q)))))))))))))
set_option maxRecDepth 20000 in
theorem uX12_isWedding_4 {Q : Int32 → JS → Prop}  (d : Nat) (hd : 1 ≤ d) {X4 : Nat → Int32 → Int32 → Int32 → Int32 → JS → Prop} (hX4 : ∀ l0 l1 l2 l3 l4 S, X4 l0 l1 l2 l3 l4 S → jLf (jCall jmt jbud d) jbud (fun j => (jmt j).rk) none mX12_isWedding (jqI Q) (4, [some (.ref l0), some (.int l1), some (.int l2), some (.int l3), some (.int l4), none], [], S, 0, 0)) {l0 : Nat} {l1 : Int32} {l2 : Int32} {l3 : Int32} {l4 : Int32} {S : JS} (h : bX12_isWedding_4 X4 l0 l1 l2 l3 l4 S Q) : jLf (jCall jmt jbud d) jbud (fun j => (jmt j).rk) none mX12_isWedding (jqI Q) (4, [some (.ref l0), some (.int l1), some (.int l2), some (.int l3), some (.int l4), none], [], S, 0, 0) := by
  have hc := jCall_mono jmt jbud d
  unfold bX12_isWedding_4 at h
  obtain ⟨g1, g2, g3, g4, h⟩ := h
  refine jLf.bk hc 5 [jA S l0 12, ¬ jR S l0 3 = none, jA S (jr S l0 3) 13, vp_in (5 : Int32) (jZ S (jr S l0 3))] [some (.ref l0), some (.int l1), some (.int l2), some (.int l3), some (.int l4), none] [.int (jI S (jr S l0 3) (5 : Int32).toNatClampNeg), .int l4] S rfl rfl rfl ⟨g1, g2, g3, g4⟩ ?_
  refine jLf.two hc _ rfl (gs := []) (p1 := (jI S (jr S l0 3) (5 : Int32).toNatClampNeg) ≤ l4) (p2 := ¬ ((jI S (jr S l0 3) (5 : Int32).toNatClampNeg) ≤ l4)) (c1 := (48, [some (.ref l0), some (.int l1), some (.int l2), some (.int l3), some (.int l4), none], [], S, 0, 0)) (c2 := (10, [some (.ref l0), some (.int l1), some (.int l2), some (.int l3), some (.int l4), none], [], S, 0, 0)) rfl trivial (fun hz => ?_) (fun hz => ?_)
  · have h := h.1 hz
    refine jLf.bk hc 1 [] [some (.ref l0), some (.int l1), some (.int l2), some (.int l3), some (.int l4), none] [.int l3] S rfl rfl rfl trivial ?_
    exact jLf.ret hc _ rfl (gs := [jbit l3]) (v := some (.int l3)) rfl h.1 ⟨_, rfl, h.2⟩
  · have h := h.2 hz
    refine jLf.bk hc 6 [] [some (.ref l0), some (.int l1), some (.int l2), some (.int l3), some (.int l4), some (.int ((68 : Int32) + ((3 : Int32) * l4)))] [] S rfl rfl rfl trivial ?_
    generalize ex5 : ((68 : Int32) + ((3 : Int32) * l4) : Int32) = x5
    have h := h x5 ex5.symm
    refine jLf.bk hc 1 [] [some (.ref l0), some (.int l1), some (.int l2), some (.int l3), some (.int l4), some (.int x5)] [.int l3] S rfl rfl rfl trivial ?_
    refine jLf.two hc _ rfl (gs := []) (p1 := ¬ l3 = 0) (p2 := ¬ (¬ l3 = 0)) (c1 := (42, [some (.ref l0), some (.int l1), some (.int l2), some (.int l3), some (.int l4), some (.int x5)], [], S, 0, 0)) (c2 := (18, [some (.ref l0), some (.int l1), some (.int l2), some (.int l3), some (.int l4), some (.int x5)], [], S, 0, 0)) rfl trivial (fun hz => ?_) (fun hz => ?_)
    · have h := h.1 hz
      refine jLf.sub [some (.ref l0), some (.int l1), some (.int l2), none, some (.int l4), none] (jle_same (jle_same (jle_same (jle_none (jle_same (jle_none (jle_nil _))))))) ?_
      exact tX12_isWedding_42 d hd hX4 h
    · have h := h.2 (Classical.not_not.mp hz)
      obtain ⟨g7, h⟩ := h
      refine jLf.bk hc 5 [jA S l0 12, ¬ jR S l0 3 = none, jA S (jr S l0 3) 13, vp_in x5 (jZ S (jr S l0 3))] [some (.ref l0), some (.int l1), some (.int l2), some (.int l3), some (.int l4), some (.int x5)] [.int l1, .int (jI S (jr S l0 3) x5.toNatClampNeg)] S rfl rfl rfl ⟨g1, g2, g3, g7⟩ ?_
      refine jLf.two hc _ rfl (gs := []) (p1 := ¬ (jI S (jr S l0 3) x5.toNatClampNeg) = l1) (p2 := ¬ (¬ (jI S (jr S l0 3) x5.toNatClampNeg) = l1)) (c1 := (44, [some (.ref l0), some (.int l1), some (.int l2), some (.int l3), some (.int l4), some (.int x5)], [], S, 0, 0)) (c2 := (24, [some (.ref l0), some (.int l1), some (.int l2), some (.int l3), some (.int l4), some (.int x5)], [], S, 0, 0)) rfl trivial (fun hz => ?_) (fun hz => ?_)
      · have h := h.1 hz
        refine jLf.sub [some (.ref l0), some (.int l1), some (.int l2), none, some (.int l4), none] (jle_same (jle_same (jle_same (jle_none (jle_same (jle_none (jle_nil _))))))) ?_
        exact tX12_isWedding_44 d hd hX4 h
      · have h := h.2 (Classical.not_not.mp hz)
        obtain ⟨g8, g9, h⟩ := h
        refine jLf.bk hc 16 [jA S l0 12, ¬ jR S l0 3 = none, jA S (jr S l0 3) 13, vp_in (x5 + (1 : Int32)) (jZ S (jr S l0 3)), jA S l0 12, ¬ jR S l0 3 = none, jA S (jr S l0 3) 13, vp_in (x5 + (2 : Int32)) (jZ S (jr S l0 3))] [some (.ref l0), some (.int l1), some (.int l2), some (.int l3), some (.int l4), some (.int x5)] [.long ((jI S (jr S l0 3) (x5 + (2 : Int32)).toNatClampNeg).toInt64), .long ((jI S (jr S l0 3) (x5 + (1 : Int32)).toNatClampNeg).toInt64), .long (l2.toInt64)] S rfl rfl rfl ⟨g1, g2, g3, g8, g1, g2, g3, g9⟩ ?_
        refine jLf.inv hc _ rfl (gs := [3 ≤ ([.long ((jI S (jr S l0 3) (x5 + (2 : Int32)).toNatClampNeg).toInt64), .long ((jI S (jr S l0 3) (x5 + (1 : Int32)).toNatClampNeg).toInt64), .long (l2.toInt64)] : List Value).length, (([] : List Value).map fun v => v.category).sum ≤ 8, 0 ≤ 0, 0 ≤ 0]) (k := 148) (args := [.long (l2.toInt64), .long ((jI S (jr S l0 3) (x5 + (1 : Int32)).toNatClampNeg).toInt64), .long ((jI S (jr S l0 3) (x5 + (2 : Int32)).toNatClampNeg).toInt64)]) (r := []) (a := 0) (b := 0) rfl ⟨Nat.le_of_ble_eq_true rfl, Nat.le_of_ble_eq_true rfl, Nat.zero_le _, Nat.zero_le _⟩ (vX12_in d (by omega) h) ?_
        rintro v S10 ⟨r11, rfl, h⟩
        show jLf (jCall jmt jbud d) jbud (fun j => (jmt j).rk) none mX12_isWedding (jqI Q) (41, [some (.ref l0), some (.int l1), some (.int l2), some (.int l3), some (.int l4), some (.int x5)], [.int r11], S10, 0, 0)
        refine jLf.two hc _ rfl (gs := []) (p1 := r11 = 0) (p2 := ¬ (r11 = 0)) (c1 := (44, [some (.ref l0), some (.int l1), some (.int l2), some (.int l3), some (.int l4), some (.int x5)], [], S10, 0, 0)) (c2 := (42, [some (.ref l0), some (.int l1), some (.int l2), some (.int l3), some (.int l4), some (.int x5)], [], S10, 0, 0)) rfl trivial (fun hz => ?_) (fun hz => ?_)
        · have h := h.1 hz
          refine jLf.sub [some (.ref l0), some (.int l1), some (.int l2), none, some (.int l4), none] (jle_same (jle_same (jle_same (jle_none (jle_same (jle_none (jle_nil _))))))) ?_
          exact tX12_isWedding_44 d hd hX4 h
        · have h := h.2 hz
          refine jLf.sub [some (.ref l0), some (.int l1), some (.int l2), none, some (.int l4), none] (jle_same (jle_same (jle_same (jle_none (jle_same (jle_none (jle_nil _))))))) ?_
          exact tX12_isWedding_42 d hd hX4 h
def wX12_isWedding_4   (l0 : Nat) (l1 : Int32) (l2 : Int32) (l3 : Int32) (l4 : Int32) (S : JS) (Q : Int32 → JS → Prop) : Prop :=
  jLoop (fun (X4 : Nat × Int32 × Int32 × Int32 × Int32 × JS → Prop) q => bX12_isWedding_4 (fun l0 l1 l2 l3 l4 S => X4 (l0, l1, l2, l3, l4, S)) q.1 q.2.1 q.2.2.1 q.2.2.2.1 q.2.2.2.2.1 q.2.2.2.2.2 Q) (l0, l1, l2, l3, l4, S)
set_option maxRecDepth 20000 in
theorem tX12_isWedding_4 {Q : Int32 → JS → Prop}  (d : Nat) (hd : 1 ≤ d) {l0 : Nat} {l1 : Int32} {l2 : Int32} {l3 : Int32} {l4 : Int32} {S : JS} (h : wX12_isWedding_4 l0 l1 l2 l3 l4 S Q) : jLf (jCall jmt jbud d) jbud (fun j => (jmt j).rk) none mX12_isWedding (jqI Q) (4, [some (.ref l0), some (.int l1), some (.int l2), some (.int l3), some (.int l4), none], [], S, 0, 0) := by
  have := h (fun q : Nat × Int32 × Int32 × Int32 × Int32 × JS => jLf (jCall jmt jbud d) jbud (fun j => (jmt j).rk) none mX12_isWedding (jqI Q) (4, [some (.ref (q.1)), some (.int (q.2.1)), some (.int (q.2.2.1)), some (.int (q.2.2.2.1)), some (.int (q.2.2.2.2.1)), none], [], q.2.2.2.2.2, 0, 0)) (fun q R hb hR => uX12_isWedding_4 d hd  (fun _ _ _ _ _ _ => hR _) hb)
  exact this
def wX12_isWedding  (this : Nat) (p1 : Int32) (p2 : Int32) (S : JS) (Q : Int32 → JS → Prop) : Prop :=
  wX12_isWedding_4 this p1 p2 0 0 S Q
set_option maxRecDepth 20000 in
theorem vX12_isWedding {Q : Int32 → JS → Prop} (d : Nat) (hd : 2 ≤ d) {this : Nat} {p1 : Int32} {p2 : Int32} {S : JS} (h : wX12_isWedding this p1 p2 S Q) : jCall jmt jbud d 196 [.ref this, .int p1, .int p2] S (jqI Q) := by
  obtain ⟨d, rfl⟩ : ∃ d2, d = d2 + 1 := ⟨d - 1, by omega⟩
  have hd : 1 ≤ d := by omega
  have hc := jCall_mono jmt jbud d
  unfold wX12_isWedding at h
  refine ⟨Nat.le_of_ble_eq_true rfl, ?_⟩
  show jLf (jCall jmt jbud d) jbud (fun j => (jmt j).rk) none mX12_isWedding (jqI Q) (0, [some (.ref this), some (.int p1), some (.int p2), none, none, none], [], S, 0, 0)
  refine jLf.bk hc 4 [] [some (.ref this), some (.int p1), some (.int p2), some (.int 0), some (.int 0), none] [] S rfl rfl rfl trivial ?_
  exact tX12_isWedding_4 d hd  h
def wX12_isBoat  (this : Nat) (p1 : Int32) (p2 : Int32) (p3 : Int32) (S : JS) (Q : Int32 → JS → Prop) : Prop :=
  jA S this 12 ∧ (¬ jR S this 3 = none ∧ (jA S (jr S this 3) 13 ∧ (vp_in ((8 : Int32) + p3) (jZ S (jr S this 3)) ∧ ((¬ (jI S (jr S this 3) ((8 : Int32) + p3).toNatClampNeg) = 0 → Q 0 S) ∧ ((jI S (jr S this 3) ((8 : Int32) + p3).toNatClampNeg) = 0 → wX12_isWedding this p1 p3 S (fun r6 S5 => (¬ r6 = 0 → Q 0 S5) ∧ (r6 = 0 → jA S5 this 12 ∧ (wX12_tells this 2 p1 p3 p2 S5 (fun r8 S7 => (¬ r8 = 0 → Q 0 S7) ∧ (r8 = 0 → Q 1 S7))))))))))
set_option maxRecDepth 20000 in
theorem vX12_isBoat {Q : Int32 → JS → Prop} (d : Nat) (hd : 5 ≤ d) {this : Nat} {p1 : Int32} {p2 : Int32} {p3 : Int32} {S : JS} (h : wX12_isBoat this p1 p2 p3 S Q) : jCall jmt jbud d 197 [.ref this, .int p1, .int p2, .int p3] S (jqI Q) := by
  obtain ⟨d, rfl⟩ : ∃ d2, d = d2 + 1 := ⟨d - 1, by omega⟩
  have hd : 4 ≤ d := by omega
  have hc := jCall_mono jmt jbud d
  unfold wX12_isBoat at h
  refine ⟨Nat.le_of_ble_eq_true rfl, ?_⟩
  show jLf (jCall jmt jbud d) jbud (fun j => (jmt j).rk) none mX12_isBoat (jqI Q) (0, [some (.ref this), some (.int p1), some (.int p2), some (.int p3)], [], S, 0, 0)
  obtain ⟨g1, g2, g3, g4, h⟩ := h
  refine jLf.bk hc 6 [jA S this 12, ¬ jR S this 3 = none, jA S (jr S this 3) 13, vp_in ((8 : Int32) + p3) (jZ S (jr S this 3))] [some (.ref this), some (.int p1), some (.int p2), some (.int p3)] [.int (jI S (jr S this 3) ((8 : Int32) + p3).toNatClampNeg)] S rfl rfl rfl ⟨g1, g2, g3, g4⟩ ?_
  refine jLf.two hc _ rfl (gs := []) (p1 := ¬ (jI S (jr S this 3) ((8 : Int32) + p3).toNatClampNeg) = 0) (p2 := ¬ (¬ (jI S (jr S this 3) ((8 : Int32) + p3).toNatClampNeg) = 0)) (c1 := (21, [some (.ref this), some (.int p1), some (.int p2), some (.int p3)], [], S, 0, 0)) (c2 := (7, [some (.ref this), some (.int p1), some (.int p2), some (.int p3)], [], S, 0, 0)) rfl trivial (fun hz => ?_) (fun hz => ?_)
  · have h := h.1 hz
    refine jLf.bk hc 1 [] [some (.ref this), some (.int p1), some (.int p2), some (.int p3)] [.int 0] S rfl rfl rfl trivial ?_
    exact jLf.ret hc _ rfl (gs := [jbit 0]) (v := some (.int 0)) rfl (Or.inl rfl) ⟨_, rfl, h⟩
  · have h := h.2 (Classical.not_not.mp hz)
    refine jLf.bk hc 3 [] [some (.ref this), some (.int p1), some (.int p2), some (.int p3)] [.int p3, .int p1, .ref this] S rfl rfl rfl trivial ?_
    refine jLf.inv hc _ rfl (gs := [jA S this 12, (([] : List Value).map fun v => v.category).sum ≤ 8, 0 ≤ 0, 0 ≤ 0]) (k := 196) (args := [.ref this, .int p1, .int p3]) (r := []) (a := 0) (b := 0) rfl ⟨g1, Nat.le_of_ble_eq_true rfl, Nat.zero_le _, Nat.zero_le _⟩ (vX12_isWedding d (by omega) h) ?_
    rintro v S5 ⟨r6, rfl, h⟩
    show jLf (jCall jmt jbud d) jbud (fun j => (jmt j).rk) none mX12_isBoat (jqI Q) (11, [some (.ref this), some (.int p1), some (.int p2), some (.int p3)], [.int r6], S5, 0, 0)
    refine jLf.two hc _ rfl (gs := []) (p1 := ¬ r6 = 0) (p2 := ¬ (¬ r6 = 0)) (c1 := (21, [some (.ref this), some (.int p1), some (.int p2), some (.int p3)], [], S5, 0, 0)) (c2 := (12, [some (.ref this), some (.int p1), some (.int p2), some (.int p3)], [], S5, 0, 0)) rfl trivial (fun hz => ?_) (fun hz => ?_)
    · have h := h.1 hz
      refine jLf.bk hc 1 [] [some (.ref this), some (.int p1), some (.int p2), some (.int p3)] [.int 0] S5 rfl rfl rfl trivial ?_
      exact jLf.ret hc _ rfl (gs := [jbit 0]) (v := some (.int 0)) rfl (Or.inl rfl) ⟨_, rfl, h⟩
    · have h := h.2 (Classical.not_not.mp hz)
      refine jLf.bk hc 5 [] [some (.ref this), some (.int p1), some (.int p2), some (.int p3)] [.int p2, .int p3, .int p1, .int 2, .ref this] S5 rfl rfl rfl trivial ?_
      obtain ⟨g9, h⟩ := h
      refine jLf.inv hc _ rfl (gs := [jA S5 this 12, (([] : List Value).map fun v => v.category).sum ≤ 8, 0 ≤ 0, 0 ≤ 0]) (k := 195) (args := [.ref this, .int 2, .int p1, .int p3, .int p2]) (r := []) (a := 0) (b := 0) rfl ⟨g9, Nat.le_of_ble_eq_true rfl, Nat.zero_le _, Nat.zero_le _⟩ (vX12_tells d (by omega) h) ?_
      rintro v S7 ⟨r8, rfl, h⟩
      show jLf (jCall jmt jbud d) jbud (fun j => (jmt j).rk) none mX12_isBoat (jqI Q) (18, [some (.ref this), some (.int p1), some (.int p2), some (.int p3)], [.int r8], S7, 0, 0)
      refine jLf.two hc _ rfl (gs := []) (p1 := ¬ r8 = 0) (p2 := ¬ (¬ r8 = 0)) (c1 := (21, [some (.ref this), some (.int p1), some (.int p2), some (.int p3)], [], S7, 0, 0)) (c2 := (19, [some (.ref this), some (.int p1), some (.int p2), some (.int p3)], [], S7, 0, 0)) rfl trivial (fun hz => ?_) (fun hz => ?_)
      · have h := h.1 hz
        refine jLf.bk hc 1 [] [some (.ref this), some (.int p1), some (.int p2), some (.int p3)] [.int 0] S7 rfl rfl rfl trivial ?_
        exact jLf.ret hc _ rfl (gs := [jbit 0]) (v := some (.int 0)) rfl (Or.inl rfl) ⟨_, rfl, h⟩
      · have h := h.2 (Classical.not_not.mp hz)
        refine jLf.bk hc 1 [] [some (.ref this), some (.int p1), some (.int p2), some (.int p3)] [.int 1] S7 rfl rfl rfl trivial ?_
        refine jLf.one hc _ rfl (gs := []) (c := (22, [some (.ref this), some (.int p1), some (.int p2), some (.int p3)], [.int 1], S7, 0, 0)) rfl trivial ?_
        exact jLf.ret hc _ rfl (gs := [jbit 1]) (v := some (.int 1)) rfl (Or.inr rfl) ⟨_, rfl, h⟩
def wX12_isTrip  (this : Nat) (p1 : Int32) (p2 : Int32) (p3 : Int32) (S : JS) (Q : Int32 → JS → Prop) : Prop :=
  jA S this 12 ∧ (wX12_isRock this p1 S (fun r2 S1 => (r2 = 0 → Q 0 S1) ∧ (¬ r2 = 0 → jA S1 this 12 ∧ (wX12_isRock this p2 S1 (fun r5 S4 => (r5 = 0 → Q 0 S4) ∧ (¬ r5 = 0 → (p1 = p2 → Q 0 S4) ∧ (¬ p1 = p2 → wX12_in (p3.toInt64) 0 58 S4 (fun r8 S7 => (r8 = 0 → Q 0 S7) ∧ (¬ r8 = 0 → Q 1 S7)))))))))
set_option maxRecDepth 20000 in
theorem vX12_isTrip {Q : Int32 → JS → Prop} (d : Nat) (hd : 3 ≤ d) {this : Nat} {p1 : Int32} {p2 : Int32} {p3 : Int32} {S : JS} (h : wX12_isTrip this p1 p2 p3 S Q) : jCall jmt jbud d 198 [.ref this, .int p1, .int p2, .int p3] S (jqI Q) := by
  obtain ⟨d, rfl⟩ : ∃ d2, d = d2 + 1 := ⟨d - 1, by omega⟩
  have hd : 2 ≤ d := by omega
  have hc := jCall_mono jmt jbud d
  unfold wX12_isTrip at h
  refine ⟨Nat.le_of_ble_eq_true rfl, ?_⟩
  show jLf (jCall jmt jbud d) jbud (fun j => (jmt j).rk) none mX12_isTrip (jqI Q) (0, [some (.ref this), some (.int p1), some (.int p2), some (.int p3)], [], S, 0, 0)
  refine jLf.bk hc 2 [] [some (.ref this), some (.int p1), some (.int p2), some (.int p3)] [.int p1, .ref this] S rfl rfl rfl trivial ?_
  obtain ⟨g3, h⟩ := h
  refine jLf.inv hc _ rfl (gs := [jA S this 12, (([] : List Value).map fun v => v.category).sum ≤ 8, 0 ≤ 0, 0 ≤ 0]) (k := 155) (args := [.ref this, .int p1]) (r := []) (a := 0) (b := 0) rfl ⟨g3, Nat.le_of_ble_eq_true rfl, Nat.zero_le _, Nat.zero_le _⟩ (vX12_isRock d (by omega) h) ?_
  rintro v S1 ⟨r2, rfl, h⟩
  show jLf (jCall jmt jbud d) jbud (fun j => (jmt j).rk) none mX12_isTrip (jqI Q) (3, [some (.ref this), some (.int p1), some (.int p2), some (.int p3)], [.int r2], S1, 0, 0)
  refine jLf.two hc _ rfl (gs := []) (p1 := r2 = 0) (p2 := ¬ (r2 = 0)) (c1 := (19, [some (.ref this), some (.int p1), some (.int p2), some (.int p3)], [], S1, 0, 0)) (c2 := (4, [some (.ref this), some (.int p1), some (.int p2), some (.int p3)], [], S1, 0, 0)) rfl trivial (fun hz => ?_) (fun hz => ?_)
  · have h := h.1 hz
    refine jLf.bk hc 1 [] [some (.ref this), some (.int p1), some (.int p2), some (.int p3)] [.int 0] S1 rfl rfl rfl trivial ?_
    exact jLf.ret hc _ rfl (gs := [jbit 0]) (v := some (.int 0)) rfl (Or.inl rfl) ⟨_, rfl, h⟩
  · have h := h.2 hz
    refine jLf.bk hc 2 [] [some (.ref this), some (.int p1), some (.int p2), some (.int p3)] [.int p2, .ref this] S1 rfl rfl rfl trivial ?_
    obtain ⟨g6, h⟩ := h
    refine jLf.inv hc _ rfl (gs := [jA S1 this 12, (([] : List Value).map fun v => v.category).sum ≤ 8, 0 ≤ 0, 0 ≤ 0]) (k := 155) (args := [.ref this, .int p2]) (r := []) (a := 0) (b := 0) rfl ⟨g6, Nat.le_of_ble_eq_true rfl, Nat.zero_le _, Nat.zero_le _⟩ (vX12_isRock d (by omega) h) ?_
    rintro v S4 ⟨r5, rfl, h⟩
    show jLf (jCall jmt jbud d) jbud (fun j => (jmt j).rk) none mX12_isTrip (jqI Q) (7, [some (.ref this), some (.int p1), some (.int p2), some (.int p3)], [.int r5], S4, 0, 0)
    refine jLf.two hc _ rfl (gs := []) (p1 := r5 = 0) (p2 := ¬ (r5 = 0)) (c1 := (19, [some (.ref this), some (.int p1), some (.int p2), some (.int p3)], [], S4, 0, 0)) (c2 := (8, [some (.ref this), some (.int p1), some (.int p2), some (.int p3)], [], S4, 0, 0)) rfl trivial (fun hz => ?_) (fun hz => ?_)
    · have h := h.1 hz
      refine jLf.bk hc 1 [] [some (.ref this), some (.int p1), some (.int p2), some (.int p3)] [.int 0] S4 rfl rfl rfl trivial ?_
      exact jLf.ret hc _ rfl (gs := [jbit 0]) (v := some (.int 0)) rfl (Or.inl rfl) ⟨_, rfl, h⟩
    · have h := h.2 hz
      refine jLf.bk hc 2 [] [some (.ref this), some (.int p1), some (.int p2), some (.int p3)] [.int p2, .int p1] S4 rfl rfl rfl trivial ?_
      refine jLf.two hc _ rfl (gs := []) (p1 := p1 = p2) (p2 := ¬ (p1 = p2)) (c1 := (19, [some (.ref this), some (.int p1), some (.int p2), some (.int p3)], [], S4, 0, 0)) (c2 := (11, [some (.ref this), some (.int p1), some (.int p2), some (.int p3)], [], S4, 0, 0)) rfl trivial (fun hz => ?_) (fun hz => ?_)
      · have h := h.1 hz
        refine jLf.bk hc 1 [] [some (.ref this), some (.int p1), some (.int p2), some (.int p3)] [.int 0] S4 rfl rfl rfl trivial ?_
        exact jLf.ret hc _ rfl (gs := [jbit 0]) (v := some (.int 0)) rfl (Or.inl rfl) ⟨_, rfl, h⟩
      · have h := h.2 hz
        refine jLf.bk hc 4 [] [some (.ref this), some (.int p1), some (.int p2), some (.int p3)] [.long 58, .long 0, .long (p3.toInt64)] S4 rfl rfl rfl trivial ?_
        refine jLf.inv hc _ rfl (gs := [3 ≤ ([.long 58, .long 0, .long (p3.toInt64)] : List Value).length, (([] : List Value).map fun v => v.category).sum ≤ 8, 0 ≤ 0, 0 ≤ 0]) (k := 148) (args := [.long (p3.toInt64), .long 0, .long 58]) (r := []) (a := 0) (b := 0) rfl ⟨Nat.le_of_ble_eq_true rfl, Nat.le_of_ble_eq_true rfl, Nat.zero_le _, Nat.zero_le _⟩ (vX12_in d (by omega) h) ?_
        rintro v S7 ⟨r8, rfl, h⟩
        show jLf (jCall jmt jbud d) jbud (fun j => (jmt j).rk) none mX12_isTrip (jqI Q) (16, [some (.ref this), some (.int p1), some (.int p2), some (.int p3)], [.int r8], S7, 0, 0)
        refine jLf.two hc _ rfl (gs := []) (p1 := r8 = 0) (p2 := ¬ (r8 = 0)) (c1 := (19, [some (.ref this), some (.int p1), some (.int p2), some (.int p3)], [], S7, 0, 0)) (c2 := (17, [some (.ref this), some (.int p1), some (.int p2), some (.int p3)], [], S7, 0, 0)) rfl trivial (fun hz => ?_) (fun hz => ?_)
        · have h := h.1 hz
          refine jLf.bk hc 1 [] [some (.ref this), some (.int p1), some (.int p2), some (.int p3)] [.int 0] S7 rfl rfl rfl trivial ?_
          exact jLf.ret hc _ rfl (gs := [jbit 0]) (v := some (.int 0)) rfl (Or.inl rfl) ⟨_, rfl, h⟩
        · have h := h.2 hz
          refine jLf.bk hc 1 [] [some (.ref this), some (.int p1), some (.int p2), some (.int p3)] [.int 1] S7 rfl rfl rfl trivial ?_
          refine jLf.one hc _ rfl (gs := []) (c := (20, [some (.ref this), some (.int p1), some (.int p2), some (.int p3)], [.int 1], S7, 0, 0)) rfl trivial ?_
          exact jLf.ret hc _ rfl (gs := [jbit 1]) (v := some (.int 1)) rfl (Or.inr rfl) ⟨_, rfl, h⟩
def wX12_goes  (this : Nat) (p1 : Int32) (p2 : Int32) (p3 : Int32) (S : JS) (Q : Int32 → JS → Prop) : Prop :=
  jA S this 12 ∧ (∀ S2 : JS, S2 = uI S this 0 0 → (jA S2 this 12 ∧ (wX12_isTrip this p1 p2 p3 S2 (fun r4 S3 => (¬ r4 = 0 → jA S3 this 12 ∧ (wX12_isBoat this p1 p2 p3 S3 (fun r7 S6 => (r7 = 0 → Q 0 S6) ∧ (¬ r7 = 0 → Q 1 S6)))) ∧ (r4 = 0 → Q (-1) S3)))))
set_option maxRecDepth 20000 in
theorem vX12_goes {Q : Int32 → JS → Prop} (d : Nat) (hd : 6 ≤ d) {this : Nat} {p1 : Int32} {p2 : Int32} {p3 : Int32} {S : JS} (h : wX12_goes this p1 p2 p3 S Q) : jCall jmt jbud d 199 [.ref this, .int p1, .int p2, .int p3] S (jqI Q) := by
  obtain ⟨d, rfl⟩ : ∃ d2, d = d2 + 1 := ⟨d - 1, by omega⟩
  have hd : 5 ≤ d := by omega
  have hc := jCall_mono jmt jbud d
  unfold wX12_goes at h
  refine ⟨Nat.le_of_ble_eq_true rfl, ?_⟩
  show jLf (jCall jmt jbud d) jbud (fun j => (jmt j).rk) none mX12_goes (jqI Q) (0, [some (.ref this), some (.int p1), some (.int p2), some (.int p3)], [], S, 0, 0)
  obtain ⟨g1, h⟩ := h
  refine jLf.bk hc 3 [jA S this 12] [some (.ref this), some (.int p1), some (.int p2), some (.int p3)] [] (uI S this 0 0) rfl rfl rfl g1 ?_
  generalize eS2 : uI S this 0 0 = S2
  have h := h S2 eS2.symm
  refine jLf.bk hc 4 [] [some (.ref this), some (.int p1), some (.int p2), some (.int p3)] [.int p3, .int p2, .int p1, .ref this] S2 rfl rfl rfl trivial ?_
  obtain ⟨g5, h⟩ := h
  refine jLf.inv hc _ rfl (gs := [jA S2 this 12, (([] : List Value).map fun v => v.category).sum ≤ 8, 0 ≤ 0, 0 ≤ 0]) (k := 198) (args := [.ref this, .int p1, .int p2, .int p3]) (r := []) (a := 0) (b := 0) rfl ⟨g5, Nat.le_of_ble_eq_true rfl, Nat.zero_le _, Nat.zero_le _⟩ (vX12_isTrip d (by omega) h) ?_
  rintro v S3 ⟨r4, rfl, h⟩
  show jLf (jCall jmt jbud d) jbud (fun j => (jmt j).rk) none mX12_goes (jqI Q) (8, [some (.ref this), some (.int p1), some (.int p2), some (.int p3)], [.int r4], S3, 0, 0)
  refine jLf.two hc _ rfl (gs := []) (p1 := ¬ r4 = 0) (p2 := ¬ (¬ r4 = 0)) (c1 := (11, [some (.ref this), some (.int p1), some (.int p2), some (.int p3)], [], S3, 0, 0)) (c2 := (9, [some (.ref this), some (.int p1), some (.int p2), some (.int p3)], [], S3, 0, 0)) rfl trivial (fun hz => ?_) (fun hz => ?_)
  · have h := h.1 hz
    refine jLf.bk hc 4 [] [some (.ref this), some (.int p1), some (.int p2), some (.int p3)] [.int p3, .int p2, .int p1, .ref this] S3 rfl rfl rfl trivial ?_
    obtain ⟨g8, h⟩ := h
    refine jLf.inv hc _ rfl (gs := [jA S3 this 12, (([] : List Value).map fun v => v.category).sum ≤ 8, 0 ≤ 0, 0 ≤ 0]) (k := 197) (args := [.ref this, .int p1, .int p2, .int p3]) (r := []) (a := 0) (b := 0) rfl ⟨g8, Nat.le_of_ble_eq_true rfl, Nat.zero_le _, Nat.zero_le _⟩ (vX12_isBoat d (by omega) h) ?_
    rintro v S6 ⟨r7, rfl, h⟩
    show jLf (jCall jmt jbud d) jbud (fun j => (jmt j).rk) none mX12_goes (jqI Q) (16, [some (.ref this), some (.int p1), some (.int p2), some (.int p3)], [.int r7], S6, 0, 0)
    refine jLf.two hc _ rfl (gs := []) (p1 := r7 = 0) (p2 := ¬ (r7 = 0)) (c1 := (19, [some (.ref this), some (.int p1), some (.int p2), some (.int p3)], [], S6, 0, 0)) (c2 := (17, [some (.ref this), some (.int p1), some (.int p2), some (.int p3)], [], S6, 0, 0)) rfl trivial (fun hz => ?_) (fun hz => ?_)
    · have h := h.1 hz
      refine jLf.bk hc 1 [] [some (.ref this), some (.int p1), some (.int p2), some (.int p3)] [.int 0] S6 rfl rfl rfl trivial ?_
      exact jLf.ret hc _ rfl (gs := [True]) (v := some (.int 0)) rfl trivial ⟨0, rfl, h⟩
    · have h := h.2 hz
      refine jLf.bk hc 1 [] [some (.ref this), some (.int p1), some (.int p2), some (.int p3)] [.int 1] S6 rfl rfl rfl trivial ?_
      refine jLf.one hc _ rfl (gs := []) (c := (20, [some (.ref this), some (.int p1), some (.int p2), some (.int p3)], [.int 1], S6, 0, 0)) rfl trivial ?_
      exact jLf.ret hc _ rfl (gs := [True]) (v := some (.int 1)) rfl trivial ⟨1, rfl, h⟩
  · have h := h.2 (Classical.not_not.mp hz)
    refine jLf.bk hc 1 [] [some (.ref this), some (.int p1), some (.int p2), some (.int p3)] [.int (-1)] S3 rfl rfl rfl trivial ?_
    refine jLf.one hc _ rfl (gs := []) (c := (20, [some (.ref this), some (.int p1), some (.int p2), some (.int p3)], [.int (-1)], S3, 0, 0)) rfl trivial ?_
    exact jLf.ret hc _ rfl (gs := [True]) (v := some (.int (-1))) rfl trivial ⟨(-1), rfl, h⟩
def wX12_of  (this : Nat) (p1 : Int32) (p2 : Int32) (p3 : Int32) (S : JS) (Q : Int32 → JS → Prop) : Prop :=
  jA S this 12 ∧ (∀ S2 : JS, S2 = uI S this 0 0 → (jA S2 this 12 ∧ (wX12_isRock this p1 S2 (fun r4 S3 => (r4 = 0 → Q (-1) S3) ∧ (¬ r4 = 0 → wX12_isNight p2 S3 (fun r7 S6 => (r7 = 0 → Q (-1) S6) ∧ (¬ r7 = 0 → wX12_in (p3.toInt64) 0 1 S6 (fun r9 S8 => (¬ r9 = 0 → (¬ p3 = 0 → jA S8 this 12 ∧ (wX12_isWedding this p1 p2 S8 (fun r11 S10 => (r11 = 0 → Q 0 S10) ∧ (¬ r11 = 0 → Q 1 S10)))) ∧ (p3 = 0 → jA S8 this 12 ∧ (wX12_tells this 0 p1 p2 (-1) S8 (fun r14 S13 => Q r14 S13)))) ∧ (r9 = 0 → Q (-1) S8)))))))))
set_option maxRecDepth 20000 in
theorem vX12_of {Q : Int32 → JS → Prop} (d : Nat) (hd : 5 ≤ d) {this : Nat} {p1 : Int32} {p2 : Int32} {p3 : Int32} {S : JS} (h : wX12_of this p1 p2 p3 S Q) : jCall jmt jbud d 200 [.ref this, .int p1, .int p2, .int p3] S (jqI Q) := by
  obtain ⟨d, rfl⟩ : ∃ d2, d = d2 + 1 := ⟨d - 1, by omega⟩
  have hd : 4 ≤ d := by omega
  have hc := jCall_mono jmt jbud d
  unfold wX12_of at h
  refine ⟨Nat.le_of_ble_eq_true rfl, ?_⟩
  show jLf (jCall jmt jbud d) jbud (fun j => (jmt j).rk) none mX12_of (jqI Q) (0, [some (.ref this), some (.int p1), some (.int p2), some (.int p3)], [], S, 0, 0)
  obtain ⟨g1, h⟩ := h
  refine jLf.bk hc 3 [jA S this 12] [some (.ref this), some (.int p1), some (.int p2), some (.int p3)] [] (uI S this 0 0) rfl rfl rfl g1 ?_
  generalize eS2 : uI S this 0 0 = S2
  have h := h S2 eS2.symm
  refine jLf.bk hc 2 [] [some (.ref this), some (.int p1), some (.int p2), some (.int p3)] [.int p1, .ref this] S2 rfl rfl rfl trivial ?_
  obtain ⟨g5, h⟩ := h
  refine jLf.inv hc _ rfl (gs := [jA S2 this 12, (([] : List Value).map fun v => v.category).sum ≤ 8, 0 ≤ 0, 0 ≤ 0]) (k := 155) (args := [.ref this, .int p1]) (r := []) (a := 0) (b := 0) rfl ⟨g5, Nat.le_of_ble_eq_true rfl, Nat.zero_le _, Nat.zero_le _⟩ (vX12_isRock d (by omega) h) ?_
  rintro v S3 ⟨r4, rfl, h⟩
  show jLf (jCall jmt jbud d) jbud (fun j => (jmt j).rk) none mX12_of (jqI Q) (6, [some (.ref this), some (.int p1), some (.int p2), some (.int p3)], [.int r4], S3, 0, 0)
  refine jLf.two hc _ rfl (gs := []) (p1 := r4 = 0) (p2 := ¬ (r4 = 0)) (c1 := (16, [some (.ref this), some (.int p1), some (.int p2), some (.int p3)], [], S3, 0, 0)) (c2 := (7, [some (.ref this), some (.int p1), some (.int p2), some (.int p3)], [], S3, 0, 0)) rfl trivial (fun hz => ?_) (fun hz => ?_)
  · have h := h.1 hz
    refine jLf.bk hc 1 [] [some (.ref this), some (.int p1), some (.int p2), some (.int p3)] [.int (-1)] S3 rfl rfl rfl trivial ?_
    exact jLf.ret hc _ rfl (gs := [True]) (v := some (.int (-1))) rfl trivial ⟨(-1), rfl, h⟩
  · have h := h.2 hz
    refine jLf.bk hc 1 [] [some (.ref this), some (.int p1), some (.int p2), some (.int p3)] [.int p2] S3 rfl rfl rfl trivial ?_
    refine jLf.inv hc _ rfl (gs := [1 ≤ ([.int p2] : List Value).length, (([] : List Value).map fun v => v.category).sum ≤ 8, 0 ≤ 0, 0 ≤ 0]) (k := 156) (args := [.int p2]) (r := []) (a := 0) (b := 0) rfl ⟨Nat.le_of_ble_eq_true rfl, Nat.le_of_ble_eq_true rfl, Nat.zero_le _, Nat.zero_le _⟩ (vX12_isNight d (by omega) h) ?_
    rintro v S6 ⟨r7, rfl, h⟩
    show jLf (jCall jmt jbud d) jbud (fun j => (jmt j).rk) none mX12_of (jqI Q) (9, [some (.ref this), some (.int p1), some (.int p2), some (.int p3)], [.int r7], S6, 0, 0)
    refine jLf.two hc _ rfl (gs := []) (p1 := r7 = 0) (p2 := ¬ (r7 = 0)) (c1 := (16, [some (.ref this), some (.int p1), some (.int p2), some (.int p3)], [], S6, 0, 0)) (c2 := (10, [some (.ref this), some (.int p1), some (.int p2), some (.int p3)], [], S6, 0, 0)) rfl trivial (fun hz => ?_) (fun hz => ?_)
    · have h := h.1 hz
      refine jLf.bk hc 1 [] [some (.ref this), some (.int p1), some (.int p2), some (.int p3)] [.int (-1)] S6 rfl rfl rfl trivial ?_
      exact jLf.ret hc _ rfl (gs := [True]) (v := some (.int (-1))) rfl trivial ⟨(-1), rfl, h⟩
    · have h := h.2 hz
      refine jLf.bk hc 4 [] [some (.ref this), some (.int p1), some (.int p2), some (.int p3)] [.long 1, .long 0, .long (p3.toInt64)] S6 rfl rfl rfl trivial ?_
      refine jLf.inv hc _ rfl (gs := [3 ≤ ([.long 1, .long 0, .long (p3.toInt64)] : List Value).length, (([] : List Value).map fun v => v.category).sum ≤ 8, 0 ≤ 0, 0 ≤ 0]) (k := 148) (args := [.long (p3.toInt64), .long 0, .long 1]) (r := []) (a := 0) (b := 0) rfl ⟨Nat.le_of_ble_eq_true rfl, Nat.le_of_ble_eq_true rfl, Nat.zero_le _, Nat.zero_le _⟩ (vX12_in d (by omega) h) ?_
      rintro v S8 ⟨r9, rfl, h⟩
      show jLf (jCall jmt jbud d) jbud (fun j => (jmt j).rk) none mX12_of (jqI Q) (15, [some (.ref this), some (.int p1), some (.int p2), some (.int p3)], [.int r9], S8, 0, 0)
      refine jLf.two hc _ rfl (gs := []) (p1 := ¬ r9 = 0) (p2 := ¬ (¬ r9 = 0)) (c1 := (18, [some (.ref this), some (.int p1), some (.int p2), some (.int p3)], [], S8, 0, 0)) (c2 := (16, [some (.ref this), some (.int p1), some (.int p2), some (.int p3)], [], S8, 0, 0)) rfl trivial (fun hz => ?_) (fun hz => ?_)
      · have h := h.1 hz
        refine jLf.bk hc 1 [] [some (.ref this), some (.int p1), some (.int p2), some (.int p3)] [.int p3] S8 rfl rfl rfl trivial ?_
        refine jLf.two hc _ rfl (gs := []) (p1 := ¬ p3 = 0) (p2 := ¬ (¬ p3 = 0)) (c1 := (27, [some (.ref this), some (.int p1), some (.int p2), some (.int p3)], [], S8, 0, 0)) (c2 := (20, [some (.ref this), some (.int p1), some (.int p2), some (.int p3)], [], S8, 0, 0)) rfl trivial (fun hz => ?_) (fun hz => ?_)
        · have h := h.1 hz
          refine jLf.bk hc 3 [] [some (.ref this), some (.int p1), some (.int p2), some (.int p3)] [.int p2, .int p1, .ref this] S8 rfl rfl rfl trivial ?_
          obtain ⟨g12, h⟩ := h
          refine jLf.inv hc _ rfl (gs := [jA S8 this 12, (([] : List Value).map fun v => v.category).sum ≤ 8, 0 ≤ 0, 0 ≤ 0]) (k := 196) (args := [.ref this, .int p1, .int p2]) (r := []) (a := 0) (b := 0) rfl ⟨g12, Nat.le_of_ble_eq_true rfl, Nat.zero_le _, Nat.zero_le _⟩ (vX12_isWedding d (by omega) h) ?_
          rintro v S10 ⟨r11, rfl, h⟩
          show jLf (jCall jmt jbud d) jbud (fun j => (jmt j).rk) none mX12_of (jqI Q) (31, [some (.ref this), some (.int p1), some (.int p2), some (.int p3)], [.int r11], S10, 0, 0)
          refine jLf.two hc _ rfl (gs := []) (p1 := r11 = 0) (p2 := ¬ (r11 = 0)) (c1 := (34, [some (.ref this), some (.int p1), some (.int p2), some (.int p3)], [], S10, 0, 0)) (c2 := (32, [some (.ref this), some (.int p1), some (.int p2), some (.int p3)], [], S10, 0, 0)) rfl trivial (fun hz => ?_) (fun hz => ?_)
          · have h := h.1 hz
            refine jLf.bk hc 1 [] [some (.ref this), some (.int p1), some (.int p2), some (.int p3)] [.int 0] S10 rfl rfl rfl trivial ?_
            exact jLf.ret hc _ rfl (gs := [True]) (v := some (.int 0)) rfl trivial ⟨0, rfl, h⟩
          · have h := h.2 hz
            refine jLf.bk hc 1 [] [some (.ref this), some (.int p1), some (.int p2), some (.int p3)] [.int 1] S10 rfl rfl rfl trivial ?_
            refine jLf.one hc _ rfl (gs := []) (c := (35, [some (.ref this), some (.int p1), some (.int p2), some (.int p3)], [.int 1], S10, 0, 0)) rfl trivial ?_
            exact jLf.ret hc _ rfl (gs := [True]) (v := some (.int 1)) rfl trivial ⟨1, rfl, h⟩
        · have h := h.2 (Classical.not_not.mp hz)
          refine jLf.bk hc 5 [] [some (.ref this), some (.int p1), some (.int p2), some (.int p3)] [.int (-1), .int p2, .int p1, .int 0, .ref this] S8 rfl rfl rfl trivial ?_
          obtain ⟨g15, h⟩ := h
          refine jLf.inv hc _ rfl (gs := [jA S8 this 12, (([] : List Value).map fun v => v.category).sum ≤ 8, 0 ≤ 0, 0 ≤ 0]) (k := 195) (args := [.ref this, .int 0, .int p1, .int p2, .int (-1)]) (r := []) (a := 0) (b := 0) rfl ⟨g15, Nat.le_of_ble_eq_true rfl, Nat.zero_le _, Nat.zero_le _⟩ (vX12_tells d (by omega) h) ?_
          rintro v S13 ⟨r14, rfl, h⟩
          show jLf (jCall jmt jbud d) jbud (fun j => (jmt j).rk) none mX12_of (jqI Q) (26, [some (.ref this), some (.int p1), some (.int p2), some (.int p3)], [.int r14], S13, 0, 0)
          refine jLf.one hc _ rfl (gs := []) (c := (35, [some (.ref this), some (.int p1), some (.int p2), some (.int p3)], [.int r14], S13, 0, 0)) rfl trivial ?_
          exact jLf.ret hc _ rfl (gs := [True]) (v := some (.int r14)) rfl trivial ⟨r14, rfl, h⟩
      · have h := h.2 (Classical.not_not.mp hz)
        refine jLf.bk hc 1 [] [some (.ref this), some (.int p1), some (.int p2), some (.int p3)] [.int (-1)] S8 rfl rfl rfl trivial ?_
        exact jLf.ret hc _ rfl (gs := [True]) (v := some (.int (-1))) rfl trivial ⟨(-1), rfl, h⟩
