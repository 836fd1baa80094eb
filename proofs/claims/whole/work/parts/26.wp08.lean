/-! weakest preconditions, by program: X12_will X12_here X12_oar X12_unrow X12_trail X12_unwarnedIn X12_unwarned X12_report X12_burn X12_layOut X12_liesAt X12_findLies X12_fewest X12_likelyIn X12_could X12_lies X12_ways X12_likely X12_liars -/
def wX12_will  (this : Nat) (p1 : Int32) (p2 : Int32) (p3 : Int32) (S : JS) (Q : Int32 → JS → Prop) : Prop :=
  jA S this 12 ∧ (∀ S2 : JS, S2 = uI S this 0 0 → (jA S2 this 12 ∧ (wX12_isTrip this p1 p2 p3 S2 (fun r4 S3 => (r4 = 0 → Q (-1) S3) ∧ (¬ r4 = 0 → jA S3 this 12 ∧ (wX12_tells this 1 p1 p3 p2 S3 (fun r7 S6 => Q r7 S6)))))))
set_option maxRecDepth 20000 in
theorem vX12_will {Q : Int32 → JS → Prop} (d : Nat) (hd : 5 ≤ d) {this : Nat} {p1 : Int32} {p2 : Int32} {p3 : Int32} {S : JS} (h : wX12_will this p1 p2 p3 S Q) : jCall jmt jbud d 201 [.ref this, .int p1, .int p2, .int p3] S (jqI Q) := by
  obtain ⟨d, rfl⟩ : ∃ d2, d = d2 + 1 := ⟨d - 1, by omega⟩
  have hd : 4 ≤ d := by omega
  have hc := jCall_mono jmt jbud d
  unfold wX12_will at h
  refine ⟨Nat.le_of_ble_eq_true rfl, ?_⟩
  show jLf (jCall jmt jbud d) jbud (fun j => (jmt j).rk) none mX12_will (jqI Q) (0, [some (.ref this), some (.int p1), some (.int p2), some (.int p3)], [], S, 0, 0)
  obtain ⟨g1, h⟩ := h
  refine jLf.bk hc 3 [jA S this 12] [some (.ref this), some (.int p1), some (.int p2), some (.int p3)] [] (uI S this 0 0) rfl rfl rfl g1 ?_
  generalize eS2 : uI S this 0 0 = S2
  have h := h S2 eS2.symm
  refine jLf.bk hc 4 [] [some (.ref this), some (.int p1), some (.int p2), some (.int p3)] [.int p3, .int p2, .int p1, .ref this] S2 rfl rfl rfl trivial ?_
  obtain ⟨g5, h⟩ := h
  refine jLf.inv hc _ rfl (gs := [jA S2 this 12, (([] : List Value).map fun v => v.category).sum ≤ 8, 0 ≤ 0, 0 ≤ 0]) (k := 198) (args := [.ref this, .int p1, .int p2, .int p3]) (r := []) (a := 0) (b := 0) rfl ⟨g5, Nat.le_of_ble_eq_true rfl, Nat.zero_le _, Nat.zero_le _⟩ (vX12_isTrip d (by omega) h) ?_
  rintro v S3 ⟨r4, rfl, h⟩
  show jLf (jCall jmt jbud d) jbud (fun j => (jmt j).rk) none mX12_will (jqI Q) (8, [some (.ref this), some (.int p1), some (.int p2), some (.int p3)], [.int r4], S3, 0, 0)
  refine jLf.two hc _ rfl (gs := []) (p1 := r4 = 0) (p2 := ¬ (r4 = 0)) (c1 := (16, [some (.ref this), some (.int p1), some (.int p2), some (.int p3)], [], S3, 0, 0)) (c2 := (9, [some (.ref this), some (.int p1), some (.int p2), some (.int p3)], [], S3, 0, 0)) rfl trivial (fun hz => ?_) (fun hz => ?_)
  · have h := h.1 hz
    refine jLf.bk hc 1 [] [some (.ref this), some (.int p1), some (.int p2), some (.int p3)] [.int (-1)] S3 rfl rfl rfl trivial ?_
    exact jLf.ret hc _ rfl (gs := [True]) (v := some (.int (-1))) rfl trivial ⟨(-1), rfl, h⟩
  · have h := h.2 hz
    refine jLf.bk hc 5 [] [some (.ref this), some (.int p1), some (.int p2), some (.int p3)] [.int p2, .int p3, .int p1, .int 1, .ref this] S3 rfl rfl rfl trivial ?_
    obtain ⟨g8, h⟩ := h
    refine jLf.inv hc _ rfl (gs := [jA S3 this 12, (([] : List Value).map fun v => v.category).sum ≤ 8, 0 ≤ 0, 0 ≤ 0]) (k := 195) (args := [.ref this, .int 1, .int p1, .int p3, .int p2]) (r := []) (a := 0) (b := 0) rfl ⟨g8, Nat.le_of_ble_eq_true rfl, Nat.zero_le _, Nat.zero_le _⟩ (vX12_tells d (by omega) h) ?_
    rintro v S6 ⟨r7, rfl, h⟩
    show jLf (jCall jmt jbud d) jbud (fun j => (jmt j).rk) none mX12_will (jqI Q) (15, [some (.ref this), some (.int p1), some (.int p2), some (.int p3)], [.int r7], S6, 0, 0)
    refine jLf.one hc _ rfl (gs := []) (c := (17, [some (.ref this), some (.int p1), some (.int p2), some (.int p3)], [.int r7], S6, 0, 0)) rfl trivial ?_
    exact jLf.ret hc _ rfl (gs := [True]) (v := some (.int r7)) rfl trivial ⟨r7, rfl, h⟩
def wX12_here  (this : Nat) (S : JS) (Q : Int32 → JS → Prop) : Prop :=
  jA S this 12 ∧ (¬ jR S this 3 = none ∧ (jA S (jr S this 3) 13 ∧ (vp_in (7 : Int32) (jZ S (jr S this 3)) ∧ (vp_in ((80 : Int32) + (jI S (jr S this 3) (7 : Int32).toNatClampNeg)) (jZ S (jr S this 3)) ∧ (Q (jI S (jr S this 3) ((80 : Int32) + (jI S (jr S this 3) (7 : Int32).toNatClampNeg)).toNatClampNeg) S)))))
set_option maxRecDepth 20000 in
theorem vX12_here {Q : Int32 → JS → Prop} (d : Nat) (hd : 1 ≤ d) {this : Nat} {S : JS} (h : wX12_here this S Q) : jCall jmt jbud d 202 [.ref this] S (jqI Q) := by
  obtain ⟨d, rfl⟩ : ∃ d2, d = d2 + 1 := ⟨d - 1, by omega⟩
  have hd : 0 ≤ d := by omega
  have hc := jCall_mono jmt jbud d
  unfold wX12_here at h
  refine ⟨Nat.le_of_ble_eq_true rfl, ?_⟩
  show jLf (jCall jmt jbud d) jbud (fun j => (jmt j).rk) none mX12_here (jqI Q) (0, [some (.ref this)], [], S, 0, 0)
  obtain ⟨g1, g2, g3, g4, g5, h⟩ := h
  refine jLf.bk hc 9 [jA S this 12, ¬ jR S this 3 = none, jA S this 12, ¬ jR S this 3 = none, jA S (jr S this 3) 13, vp_in (7 : Int32) (jZ S (jr S this 3)), jA S (jr S this 3) 13, vp_in ((80 : Int32) + (jI S (jr S this 3) (7 : Int32).toNatClampNeg)) (jZ S (jr S this 3))] [some (.ref this)] [.int (jI S (jr S this 3) ((80 : Int32) + (jI S (jr S this 3) (7 : Int32).toNatClampNeg)).toNatClampNeg)] S rfl rfl rfl ⟨g1, g2, g1, g2, g3, g4, g3, g5⟩ ?_
  exact jLf.ret hc _ rfl (gs := [True]) (v := some (.int (jI S (jr S this 3) ((80 : Int32) + (jI S (jr S this 3) (7 : Int32).toNatClampNeg)).toNatClampNeg))) rfl trivial ⟨jI S (jr S this 3) ((80 : Int32) + (jI S (jr S this 3) (7 : Int32).toNatClampNeg)).toNatClampNeg, rfl, h⟩
def wX12_oar_30   (l0 : Nat) (S : JS) (Q : Int32 → JS → Prop) : Prop :=
  jA S l0 12 ∧ (wX12_tell l0 (-3) S (fun r12 S11 => Q r12 S11))
set_option maxRecDepth 20000 in
theorem tX12_oar_30 {Q : Int32 → JS → Prop}  (d : Nat) (hd : 5 ≤ d) {l0 : Nat} {S : JS} (h : wX12_oar_30 l0 S Q) : jLf (jCall jmt jbud d) jbud (fun j => (jmt j).rk) none mX12_oar (jqI Q) (30, [some (.ref l0), none, none], [], S, 0, 0) := by
  have hc := jCall_mono jmt jbud d
  unfold wX12_oar_30 at h
  refine jLf.bk hc 2 [] [some (.ref l0), none, none] [.int (-3), .ref l0] S rfl rfl rfl trivial ?_
  obtain ⟨g13, h⟩ := h
  refine jLf.inv hc _ rfl (gs := [jA S l0 12, (([] : List Value).map fun v => v.category).sum ≤ 8, 0 ≤ 0, 0 ≤ 0]) (k := 150) (args := [.ref l0, .int (-3)]) (r := []) (a := 0) (b := 0) rfl ⟨g13, Nat.le_of_ble_eq_true rfl, Nat.zero_le _, Nat.zero_le _⟩ (vX12_tell d (by omega) h) ?_
  rintro v S11 ⟨r12, rfl, h⟩
  show jLf (jCall jmt jbud d) jbud (fun j => (jmt j).rk) none mX12_oar (jqI Q) (33, [some (.ref l0), none, none], [.int r12], S11, 0, 0)
  exact jLf.ret hc _ rfl (gs := [True]) (v := some (.int r12)) rfl trivial ⟨r12, rfl, h⟩
def wX12_oar_34   (l0 : Nat) (l1 : Int32) (l2 : Int32) (S : JS) (Q : Int32 → JS → Prop) : Prop :=
  jA S l0 12 ∧ (¬ jR S l0 3 = none ∧ (jA S (jr S l0 3) 13 ∧ (vp_in (7 : Int32) (jZ S (jr S l0 3)) ∧ (∀ S20 : JS, S20 = uI S (jr S l0 3) (7 : Int32).toNatClampNeg ((jI S (jr S l0 3) (7 : Int32).toNatClampNeg) + (1 : Int32)) → (jA S20 l0 12 ∧ (¬ jR S20 l0 3 = none ∧ (jA S20 (jr S20 l0 3) 13 ∧ (vp_in (((80 : Int32) + l2) + (1 : Int32)) (jZ S20 (jr S20 l0 3)) ∧ (∀ S25 : JS, S25 = uI S20 (jr S20 l0 3) (((80 : Int32) + l2) + (1 : Int32)).toNatClampNeg l1 → (jA S25 l0 12 ∧ (wX12_tell l0 (l2 + (1 : Int32)) S25 (fun r27 S26 => Q r27 S26))))))))))))
set_option maxRecDepth 20000 in
theorem tX12_oar_34 {Q : Int32 → JS → Prop}  (d : Nat) (hd : 5 ≤ d) {l0 : Nat} {l1 : Int32} {l2 : Int32} {S : JS} (h : wX12_oar_34 l0 l1 l2 S Q) : jLf (jCall jmt jbud d) jbud (fun j => (jmt j).rk) none mX12_oar (jqI Q) (34, [some (.ref l0), some (.int l1), some (.int l2)], [], S, 0, 0) := by
  have hc := jCall_mono jmt jbud d
  unfold wX12_oar_34 at h
  obtain ⟨g16, g17, g18, g19, h⟩ := h
  refine jLf.bk hc 8 [jA S l0 12, ¬ jR S l0 3 = none, jA S (jr S l0 3) 13, vp_in (7 : Int32) (jZ S (jr S l0 3)), jA S (jr S l0 3) 13, vp_in (7 : Int32) (jZ S (jr S l0 3))] [some (.ref l0), some (.int l1), some (.int l2)] [] (uI S (jr S l0 3) (7 : Int32).toNatClampNeg ((jI S (jr S l0 3) (7 : Int32).toNatClampNeg) + (1 : Int32))) rfl rfl rfl ⟨g16, g17, g18, g19, g18, g19⟩ ?_
  generalize eS20 : uI S (jr S l0 3) (7 : Int32).toNatClampNeg ((jI S (jr S l0 3) (7 : Int32).toNatClampNeg) + (1 : Int32)) = S20
  have h := h S20 eS20.symm
  obtain ⟨g21, g22, g23, g24, h⟩ := h
  refine jLf.bk hc 9 [jA S20 l0 12, ¬ jR S20 l0 3 = none, jA S20 (jr S20 l0 3) 13, vp_in (((80 : Int32) + l2) + (1 : Int32)) (jZ S20 (jr S20 l0 3))] [some (.ref l0), some (.int l1), some (.int l2)] [] (uI S20 (jr S20 l0 3) (((80 : Int32) + l2) + (1 : Int32)).toNatClampNeg l1) rfl rfl rfl ⟨g21, g22, g23, g24⟩ ?_
  generalize eS25 : uI S20 (jr S20 l0 3) (((80 : Int32) + l2) + (1 : Int32)).toNatClampNeg l1 = S25
  have h := h S25 eS25.symm
  refine jLf.bk hc 4 [] [some (.ref l0), some (.int l1), some (.int l2)] [.int (l2 + (1 : Int32)), .ref l0] S25 rfl rfl rfl trivial ?_
  obtain ⟨g28, h⟩ := h
  refine jLf.inv hc _ rfl (gs := [jA S25 l0 12, (([] : List Value).map fun v => v.category).sum ≤ 8, 0 ≤ 0, 0 ≤ 0]) (k := 150) (args := [.ref l0, .int (l2 + (1 : Int32))]) (r := []) (a := 0) (b := 0) rfl ⟨g28, Nat.le_of_ble_eq_true rfl, Nat.zero_le _, Nat.zero_le _⟩ (vX12_tell d (by omega) h) ?_
  rintro v S26 ⟨r27, rfl, h⟩
  show jLf (jCall jmt jbud d) jbud (fun j => (jmt j).rk) none mX12_oar (jqI Q) (56, [some (.ref l0), some (.int l1), some (.int l2)], [.int r27], S26, 0, 0)
  exact jLf.ret hc _ rfl (gs := [True]) (v := some (.int r27)) rfl trivial ⟨r27, rfl, h⟩
def wX12_oar  (this : Nat) (p1 : Int32) (S : JS) (Q : Int32 → JS → Prop) : Prop :=
  jA S this 12 ∧ (∀ S2 : JS, S2 = uI S this 0 0 → (jA S2 this 12 ∧ (wX12_isRock this p1 S2 (fun r4 S3 => (¬ r4 = 0 → jA S3 this 12 ∧ (¬ jR S3 this 3 = none ∧ (jA S3 (jr S3 this 3) 13 ∧ (vp_in (7 : Int32) (jZ S3 (jr S3 this 3)) ∧ (∀ x10 : Int32, x10 = (jI S3 (jr S3 this 3) (7 : Int32).toNatClampNeg) → ((x10 = 59 → wX12_oar_30 this S3 Q) ∧ (¬ x10 = 59 → wX12_here this S3 (fun r15 S14 => (p1 = r15 → wX12_oar_34 this p1 x10 S14 Q) ∧ (¬ p1 = r15 → jA S14 this 12 ∧ (wX12_here this S14 (fun r30 S29 => jA S29 this 12 ∧ (wX12_isBoat this r30 p1 x10 S29 (fun r33 S32 => (¬ r33 = 0 → wX12_oar_34 this p1 x10 S32 Q) ∧ (r33 = 0 → wX12_oar_30 this S32 Q)))))))))))))) ∧ (r4 = 0 → jA S3 this 12 ∧ (wX12_tell this (-2) S3 (fun r36 S35 => Q r36 S35)))))))
set_option maxRecDepth 20000 in
theorem vX12_oar {Q : Int32 → JS → Prop} (d : Nat) (hd : 6 ≤ d) {this : Nat} {p1 : Int32} {S : JS} (h : wX12_oar this p1 S Q) : jCall jmt jbud d 203 [.ref this, .int p1] S (jqI Q) := by
  obtain ⟨d, rfl⟩ : ∃ d2, d = d2 + 1 := ⟨d - 1, by omega⟩
  have hd : 5 ≤ d := by omega
  have hc := jCall_mono jmt jbud d
  unfold wX12_oar at h
  refine ⟨Nat.le_of_ble_eq_true rfl, ?_⟩
  show jLf (jCall jmt jbud d) jbud (fun j => (jmt j).rk) none mX12_oar (jqI Q) (0, [some (.ref this), some (.int p1), none], [], S, 0, 0)
  obtain ⟨g1, h⟩ := h
  refine jLf.bk hc 3 [jA S this 12] [some (.ref this), some (.int p1), none] [] (uI S this 0 0) rfl rfl rfl g1 ?_
  generalize eS2 : uI S this 0 0 = S2
  have h := h S2 eS2.symm
  refine jLf.bk hc 2 [] [some (.ref this), some (.int p1), none] [.int p1, .ref this] S2 rfl rfl rfl trivial ?_
  obtain ⟨g5, h⟩ := h
  refine jLf.inv hc _ rfl (gs := [jA S2 this 12, (([] : List Value).map fun v => v.category).sum ≤ 8, 0 ≤ 0, 0 ≤ 0]) (k := 155) (args := [.ref this, .int p1]) (r := []) (a := 0) (b := 0) rfl ⟨g5, Nat.le_of_ble_eq_true rfl, Nat.zero_le _, Nat.zero_le _⟩ (vX12_isRock d (by omega) h) ?_
  rintro v S3 ⟨r4, rfl, h⟩
  show jLf (jCall jmt jbud d) jbud (fun j => (jmt j).rk) none mX12_oar (jqI Q) (6, [some (.ref this), some (.int p1), none], [.int r4], S3, 0, 0)
  refine jLf.two hc _ rfl (gs := []) (p1 := ¬ r4 = 0) (p2 := ¬ (¬ r4 = 0)) (c1 := (11, [some (.ref this), some (.int p1), none], [], S3, 0, 0)) (c2 := (7, [some (.ref this), some (.int p1), none], [], S3, 0, 0)) rfl trivial (fun hz => ?_) (fun hz => ?_)
  · have h := h.1 hz
    obtain ⟨g6, g7, g8, g9, h⟩ := h
    refine jLf.bk hc 5 [jA S3 this 12, ¬ jR S3 this 3 = none, jA S3 (jr S3 this 3) 13, vp_in (7 : Int32) (jZ S3 (jr S3 this 3))] [some (.ref this), some (.int p1), some (.int (jI S3 (jr S3 this 3) (7 : Int32).toNatClampNeg))] [] S3 rfl rfl rfl ⟨g6, g7, g8, g9⟩ ?_
    generalize ex10 : (jI S3 (jr S3 this 3) (7 : Int32).toNatClampNeg : Int32) = x10
    have h := h x10 ex10.symm
    refine jLf.bk hc 2 [] [some (.ref this), some (.int p1), some (.int x10)] [.int 59, .int x10] S3 rfl rfl rfl trivial ?_
    refine jLf.two hc _ rfl (gs := []) (p1 := x10 = 59) (p2 := ¬ (x10 = 59)) (c1 := (30, [some (.ref this), some (.int p1), some (.int x10)], [], S3, 0, 0)) (c2 := (19, [some (.ref this), some (.int p1), some (.int x10)], [], S3, 0, 0)) rfl trivial (fun hz => ?_) (fun hz => ?_)
    · have h := h.1 hz
      refine jLf.sub [some (.ref this), none, none] (jle_same (jle_none (jle_none (jle_nil _)))) ?_
      exact tX12_oar_30 d hd  h
    · have h := h.2 hz
      refine jLf.bk hc 2 [] [some (.ref this), some (.int p1), some (.int x10)] [.ref this, .int p1] S3 rfl rfl rfl trivial ?_
      refine jLf.inv hc _ rfl (gs := [jA S3 this 12, (([.int p1] : List Value).map fun v => v.category).sum ≤ 8, 0 ≤ 0, 0 ≤ 0]) (k := 202) (args := [.ref this]) (r := [.int p1]) (a := 0) (b := 0) rfl ⟨g6, Nat.le_of_ble_eq_true rfl, Nat.zero_le _, Nat.zero_le _⟩ (vX12_here d (by omega) h) ?_
      rintro v S14 ⟨r15, rfl, h⟩
      show jLf (jCall jmt jbud d) jbud (fun j => (jmt j).rk) none mX12_oar (jqI Q) (22, [some (.ref this), some (.int p1), some (.int x10)], [.int r15, .int p1], S14, 0, 0)
      refine jLf.two hc _ rfl (gs := []) (p1 := p1 = r15) (p2 := ¬ (p1 = r15)) (c1 := (34, [some (.ref this), some (.int p1), some (.int x10)], [], S14, 0, 0)) (c2 := (23, [some (.ref this), some (.int p1), some (.int x10)], [], S14, 0, 0)) rfl trivial (fun hz => ?_) (fun hz => ?_)
      · have h := h.1 hz
        exact tX12_oar_34 d hd  h
      · have h := h.2 hz
        refine jLf.bk hc 2 [] [some (.ref this), some (.int p1), some (.int x10)] [.ref this, .ref this] S14 rfl rfl rfl trivial ?_
        obtain ⟨g31, h⟩ := h
        refine jLf.inv hc _ rfl (gs := [jA S14 this 12, (([.ref this] : List Value).map fun v => v.category).sum ≤ 8, 0 ≤ 0, 0 ≤ 0]) (k := 202) (args := [.ref this]) (r := [.ref this]) (a := 0) (b := 0) rfl ⟨g31, Nat.le_of_ble_eq_true rfl, Nat.zero_le _, Nat.zero_le _⟩ (vX12_here d (by omega) h) ?_
        rintro v S29 ⟨r30, rfl, h⟩
        show jLf (jCall jmt jbud d) jbud (fun j => (jmt j).rk) none mX12_oar (jqI Q) (26, [some (.ref this), some (.int p1), some (.int x10)], [.int r30, .ref this], S29, 0, 0)
        refine jLf.bk hc 2 [] [some (.ref this), some (.int p1), some (.int x10)] [.int x10, .int p1, .int r30, .ref this] S29 rfl rfl rfl trivial ?_
        obtain ⟨g34, h⟩ := h
        refine jLf.inv hc _ rfl (gs := [jA S29 this 12, (([] : List Value).map fun v => v.category).sum ≤ 8, 0 ≤ 0, 0 ≤ 0]) (k := 197) (args := [.ref this, .int r30, .int p1, .int x10]) (r := []) (a := 0) (b := 0) rfl ⟨g34, Nat.le_of_ble_eq_true rfl, Nat.zero_le _, Nat.zero_le _⟩ (vX12_isBoat d (by omega) h) ?_
        rintro v S32 ⟨r33, rfl, h⟩
        show jLf (jCall jmt jbud d) jbud (fun j => (jmt j).rk) none mX12_oar (jqI Q) (29, [some (.ref this), some (.int p1), some (.int x10)], [.int r33], S32, 0, 0)
        refine jLf.two hc _ rfl (gs := []) (p1 := ¬ r33 = 0) (p2 := ¬ (¬ r33 = 0)) (c1 := (34, [some (.ref this), some (.int p1), some (.int x10)], [], S32, 0, 0)) (c2 := (30, [some (.ref this), some (.int p1), some (.int x10)], [], S32, 0, 0)) rfl trivial (fun hz => ?_) (fun hz => ?_)
        · have h := h.1 hz
          exact tX12_oar_34 d hd  h
        · have h := h.2 (Classical.not_not.mp hz)
          refine jLf.sub [some (.ref this), none, none] (jle_same (jle_none (jle_none (jle_nil _)))) ?_
          exact tX12_oar_30 d hd  h
  · have h := h.2 (Classical.not_not.mp hz)
    refine jLf.bk hc 2 [] [some (.ref this), some (.int p1), none] [.int (-2), .ref this] S3 rfl rfl rfl trivial ?_
    obtain ⟨g37, h⟩ := h
    refine jLf.inv hc _ rfl (gs := [jA S3 this 12, (([] : List Value).map fun v => v.category).sum ≤ 8, 0 ≤ 0, 0 ≤ 0]) (k := 150) (args := [.ref this, .int (-2)]) (r := []) (a := 0) (b := 0) rfl ⟨g37, Nat.le_of_ble_eq_true rfl, Nat.zero_le _, Nat.zero_le _⟩ (vX12_tell d (by omega) h) ?_
    rintro v S35 ⟨r36, rfl, h⟩
    show jLf (jCall jmt jbud d) jbud (fun j => (jmt j).rk) none mX12_oar (jqI Q) (10, [some (.ref this), some (.int p1), none], [.int r36], S35, 0, 0)
    exact jLf.ret hc _ rfl (gs := [True]) (v := some (.int r36)) rfl trivial ⟨r36, rfl, h⟩
def wX12_unrow  (this : Nat) (S : JS) (Q : Int32 → JS → Prop) : Prop :=
  jA S this 12 ∧ (∀ S2 : JS, S2 = uI S this 0 0 → (jA S2 this 12 ∧ (¬ jR S2 this 3 = none ∧ (jA S2 (jr S2 this 3) 13 ∧ (vp_in (7 : Int32) (jZ S2 (jr S2 this 3)) ∧ ((¬ (jI S2 (jr S2 this 3) (7 : Int32).toNatClampNeg) = 0 → ∀ S7 : JS, S7 = uI S2 (jr S2 this 3) (7 : Int32).toNatClampNeg ((jI S2 (jr S2 this 3) (7 : Int32).toNatClampNeg) - (1 : Int32)) → (jA S7 this 12 ∧ (wX12_here this S7 (fun r9 S8 => jA S8 this 12 ∧ (wX12_tell this r9 S8 (fun r12 S11 => Q r12 S11)))))) ∧ ((jI S2 (jr S2 this 3) (7 : Int32).toNatClampNeg) = 0 → wX12_tell this (-3) S2 (fun r15 S14 => Q r15 S14))))))))
set_option maxRecDepth 20000 in
theorem vX12_unrow {Q : Int32 → JS → Prop} (d : Nat) (hd : 2 ≤ d) {this : Nat} {S : JS} (h : wX12_unrow this S Q) : jCall jmt jbud d 204 [.ref this] S (jqI Q) := by
  obtain ⟨d, rfl⟩ : ∃ d2, d = d2 + 1 := ⟨d - 1, by omega⟩
  have hd : 1 ≤ d := by omega
  have hc := jCall_mono jmt jbud d
  unfold wX12_unrow at h
  refine ⟨Nat.le_of_ble_eq_true rfl, ?_⟩
  show jLf (jCall jmt jbud d) jbud (fun j => (jmt j).rk) none mX12_unrow (jqI Q) (0, [some (.ref this)], [], S, 0, 0)
  obtain ⟨g1, h⟩ := h
  refine jLf.bk hc 3 [jA S this 12] [some (.ref this)] [] (uI S this 0 0) rfl rfl rfl g1 ?_
  generalize eS2 : uI S this 0 0 = S2
  have h := h S2 eS2.symm
  obtain ⟨g3, g4, g5, g6, h⟩ := h
  refine jLf.bk hc 4 [jA S2 this 12, ¬ jR S2 this 3 = none, jA S2 (jr S2 this 3) 13, vp_in (7 : Int32) (jZ S2 (jr S2 this 3))] [some (.ref this)] [.int (jI S2 (jr S2 this 3) (7 : Int32).toNatClampNeg)] S2 rfl rfl rfl ⟨g3, g4, g5, g6⟩ ?_
  refine jLf.two hc _ rfl (gs := []) (p1 := ¬ (jI S2 (jr S2 this 3) (7 : Int32).toNatClampNeg) = 0) (p2 := ¬ (¬ (jI S2 (jr S2 this 3) (7 : Int32).toNatClampNeg) = 0)) (c1 := (12, [some (.ref this)], [], S2, 0, 0)) (c2 := (8, [some (.ref this)], [], S2, 0, 0)) rfl trivial (fun hz => ?_) (fun hz => ?_)
  · have h := h.1 hz
    refine jLf.bk hc 8 [jA S2 this 12, ¬ jR S2 this 3 = none, jA S2 (jr S2 this 3) 13, vp_in (7 : Int32) (jZ S2 (jr S2 this 3)), jA S2 (jr S2 this 3) 13, vp_in (7 : Int32) (jZ S2 (jr S2 this 3))] [some (.ref this)] [] (uI S2 (jr S2 this 3) (7 : Int32).toNatClampNeg ((jI S2 (jr S2 this 3) (7 : Int32).toNatClampNeg) - (1 : Int32))) rfl rfl rfl ⟨g3, g4, g5, g6, g5, g6⟩ ?_
    generalize eS7 : uI S2 (jr S2 this 3) (7 : Int32).toNatClampNeg ((jI S2 (jr S2 this 3) (7 : Int32).toNatClampNeg) - (1 : Int32)) = S7
    have h := h S7 eS7.symm
    refine jLf.bk hc 2 [] [some (.ref this)] [.ref this, .ref this] S7 rfl rfl rfl trivial ?_
    obtain ⟨g10, h⟩ := h
    refine jLf.inv hc _ rfl (gs := [jA S7 this 12, (([.ref this] : List Value).map fun v => v.category).sum ≤ 8, 0 ≤ 0, 0 ≤ 0]) (k := 202) (args := [.ref this]) (r := [.ref this]) (a := 0) (b := 0) rfl ⟨g10, Nat.le_of_ble_eq_true rfl, Nat.zero_le _, Nat.zero_le _⟩ (vX12_here d (by omega) h) ?_
    rintro v S8 ⟨r9, rfl, h⟩
    show jLf (jCall jmt jbud d) jbud (fun j => (jmt j).rk) none mX12_unrow (jqI Q) (23, [some (.ref this)], [.int r9, .ref this], S8, 0, 0)
    obtain ⟨g13, h⟩ := h
    refine jLf.inv hc _ rfl (gs := [jA S8 this 12, (([] : List Value).map fun v => v.category).sum ≤ 8, 0 ≤ 0, 0 ≤ 0]) (k := 150) (args := [.ref this, .int r9]) (r := []) (a := 0) (b := 0) rfl ⟨g13, Nat.le_of_ble_eq_true rfl, Nat.zero_le _, Nat.zero_le _⟩ (vX12_tell d (by omega) h) ?_
    rintro v S11 ⟨r12, rfl, h⟩
    show jLf (jCall jmt jbud d) jbud (fun j => (jmt j).rk) none mX12_unrow (jqI Q) (24, [some (.ref this)], [.int r12], S11, 0, 0)
    exact jLf.ret hc _ rfl (gs := [True]) (v := some (.int r12)) rfl trivial ⟨r12, rfl, h⟩
  · have h := h.2 (Classical.not_not.mp hz)
    refine jLf.bk hc 2 [] [some (.ref this)] [.int (-3), .ref this] S2 rfl rfl rfl trivial ?_
    refine jLf.inv hc _ rfl (gs := [jA S2 this 12, (([] : List Value).map fun v => v.category).sum ≤ 8, 0 ≤ 0, 0 ≤ 0]) (k := 150) (args := [.ref this, .int (-3)]) (r := []) (a := 0) (b := 0) rfl ⟨g3, Nat.le_of_ble_eq_true rfl, Nat.zero_le _, Nat.zero_le _⟩ (vX12_tell d (by omega) h) ?_
    rintro v S14 ⟨r15, rfl, h⟩
    show jLf (jCall jmt jbud d) jbud (fun j => (jmt j).rk) none mX12_unrow (jqI Q) (11, [some (.ref this)], [.int r15], S14, 0, 0)
    exact jLf.ret hc _ rfl (gs := [True]) (v := some (.int r15)) rfl trivial ⟨r15, rfl, h⟩
def wX12_trail  (this : Nat) (p1 : Int32) (S : JS) (Q : Int32 → JS → Prop) : Prop :=
  jA S this 12 ∧ (∀ S2 : JS, S2 = uI S this 0 0 → (jA S2 this 12 ∧ (¬ jR S2 this 3 = none ∧ (jA S2 (jr S2 this 3) 13 ∧ (vp_in (7 : Int32) (jZ S2 (jr S2 this 3)) ∧ (wX12_in (p1.toInt64) 0 ((jI S2 (jr S2 this 3) (7 : Int32).toNatClampNeg).toInt64) S2 (fun r8 S7 => (r8 = 0 → Q (-1) S7) ∧ (¬ r8 = 0 → jA S7 this 12 ∧ (¬ jR S7 this 3 = none ∧ (jA S7 (jr S7 this 3) 13 ∧ (vp_in ((80 : Int32) + p1) (jZ S7 (jr S7 this 3)) ∧ (Q (jI S7 (jr S7 this 3) ((80 : Int32) + p1).toNatClampNeg) S7))))))))))))
set_option maxRecDepth 20000 in
theorem vX12_trail {Q : Int32 → JS → Prop} (d : Nat) (hd : 2 ≤ d) {this : Nat} {p1 : Int32} {S : JS} (h : wX12_trail this p1 S Q) : jCall jmt jbud d 205 [.ref this, .int p1] S (jqI Q) := by
  obtain ⟨d, rfl⟩ : ∃ d2, d = d2 + 1 := ⟨d - 1, by omega⟩
  have hd : 1 ≤ d := by omega
  have hc := jCall_mono jmt jbud d
  unfold wX12_trail at h
  refine ⟨Nat.le_of_ble_eq_true rfl, ?_⟩
  show jLf (jCall jmt jbud d) jbud (fun j => (jmt j).rk) none mX12_trail (jqI Q) (0, [some (.ref this), some (.int p1)], [], S, 0, 0)
  obtain ⟨g1, h⟩ := h
  refine jLf.bk hc 3 [jA S this 12] [some (.ref this), some (.int p1)] [] (uI S this 0 0) rfl rfl rfl g1 ?_
  generalize eS2 : uI S this 0 0 = S2
  have h := h S2 eS2.symm
  obtain ⟨g3, g4, g5, g6, h⟩ := h
  refine jLf.bk hc 8 [jA S2 this 12, ¬ jR S2 this 3 = none, jA S2 (jr S2 this 3) 13, vp_in (7 : Int32) (jZ S2 (jr S2 this 3))] [some (.ref this), some (.int p1)] [.long ((jI S2 (jr S2 this 3) (7 : Int32).toNatClampNeg).toInt64), .long 0, .long (p1.toInt64)] S2 rfl rfl rfl ⟨g3, g4, g5, g6⟩ ?_
  refine jLf.inv hc _ rfl (gs := [3 ≤ ([.long ((jI S2 (jr S2 this 3) (7 : Int32).toNatClampNeg).toInt64), .long 0, .long (p1.toInt64)] : List Value).length, (([] : List Value).map fun v => v.category).sum ≤ 8, 0 ≤ 0, 0 ≤ 0]) (k := 148) (args := [.long (p1.toInt64), .long 0, .long ((jI S2 (jr S2 this 3) (7 : Int32).toNatClampNeg).toInt64)]) (r := []) (a := 0) (b := 0) rfl ⟨Nat.le_of_ble_eq_true rfl, Nat.le_of_ble_eq_true rfl, Nat.zero_le _, Nat.zero_le _⟩ (vX12_in d (by omega) h) ?_
  rintro v S7 ⟨r8, rfl, h⟩
  show jLf (jCall jmt jbud d) jbud (fun j => (jmt j).rk) none mX12_trail (jqI Q) (12, [some (.ref this), some (.int p1)], [.int r8], S7, 0, 0)
  refine jLf.two hc _ rfl (gs := []) (p1 := r8 = 0) (p2 := ¬ (r8 = 0)) (c1 := (20, [some (.ref this), some (.int p1)], [], S7, 0, 0)) (c2 := (13, [some (.ref this), some (.int p1)], [], S7, 0, 0)) rfl trivial (fun hz => ?_) (fun hz => ?_)
  · have h := h.1 hz
    refine jLf.bk hc 1 [] [some (.ref this), some (.int p1)] [.int (-1)] S7 rfl rfl rfl trivial ?_
    exact jLf.ret hc _ rfl (gs := [True]) (v := some (.int (-1))) rfl trivial ⟨(-1), rfl, h⟩
  · have h := h.2 hz
    obtain ⟨g9, g10, g11, g12, h⟩ := h
    refine jLf.bk hc 6 [jA S7 this 12, ¬ jR S7 this 3 = none, jA S7 (jr S7 this 3) 13, vp_in ((80 : Int32) + p1) (jZ S7 (jr S7 this 3))] [some (.ref this), some (.int p1)] [.int (jI S7 (jr S7 this 3) ((80 : Int32) + p1).toNatClampNeg)] S7 rfl rfl rfl ⟨g9, g10, g11, g12⟩ ?_
    refine jLf.one hc _ rfl (gs := []) (c := (21, [some (.ref this), some (.int p1)], [.int (jI S7 (jr S7 this 3) ((80 : Int32) + p1).toNatClampNeg)], S7, 0, 0)) rfl trivial ?_
    exact jLf.ret hc _ rfl (gs := [True]) (v := some (.int (jI S7 (jr S7 this 3) ((80 : Int32) + p1).toNatClampNeg))) rfl trivial ⟨jI S7 (jr S7 this 3) ((80 : Int32) + p1).toNatClampNeg, rfl, h⟩
def wX12_unwarnedIn_20  (X4 : Nat → Int32 → Int32 → Int32 → Int32 → JS → Prop) (l0 : Nat) (l1 : Int32) (l2 : Int32) (l4 : Int32) (s0 : Int32) (s1 : Int32) (S : JS) (Q : Int32 → JS → Prop) : Prop :=
  ∀ x7 : Int32, x7 = (s1 + s0) → (∀ x8 : Int32, x8 = (l4 + 1) → (X4 l0 l1 l2 x7 x8 S))
set_option maxRecDepth 20000 in
theorem tX12_unwarnedIn_20 {Q : Int32 → JS → Prop} {X4 : Nat → Int32 → Int32 → Int32 → Int32 → JS → Prop} (d : Nat) (hd : 4 ≤ d) (hX4 : ∀ l0 l1 l2 l3 l4 S, X4 l0 l1 l2 l3 l4 S → jLf (jCall jmt jbud d) jbud (fun j => (jmt j).rk) none mX12_unwarnedIn (jqI Q) (4, [some (.ref l0), some (.int l1), some (.int l2), some (.int l3), some (.int l4)], [], S, 0, 0)) {l0 : Nat} {l1 : Int32} {l2 : Int32} {l4 : Int32} {s0 : Int32} {s1 : Int32} {S : JS} (h : wX12_unwarnedIn_20 X4 l0 l1 l2 l4 s0 s1 S Q) : jLf (jCall jmt jbud d) jbud (fun j => (jmt j).rk) none mX12_unwarnedIn (jqI Q) (20, [some (.ref l0), some (.int l1), some (.int l2), none, some (.int l4)], [.int s0, .int s1], S, 0, 0) := by
  have hc := jCall_mono jmt jbud d
  unfold wX12_unwarnedIn_20 at h
  refine jLf.bk hc 2 [] [some (.ref l0), some (.int l1), some (.int l2), some (.int (s1 + s0)), some (.int l4)] [] S rfl rfl rfl trivial ?_
  generalize ex7 : (s1 + s0 : Int32) = x7
  have h := h x7 ex7.symm
  refine jLf.bk hc 1 [] [some (.ref l0), some (.int l1), some (.int l2), some (.int x7), some (.int (l4 + 1))] [] S rfl rfl rfl trivial ?_
  generalize ex8 : (l4 + 1 : Int32) = x8
  have h := h x8 ex8.symm
  refine jLf.one hc _ rfl (gs := []) (c := (4, [some (.ref l0), some (.int l1), some (.int l2), some (.int x7), some (.int x8)], [], S, 0, 0)) rfl trivial ?_
  exact hX4 _ _ _ _ _ _ h
def bX12_unwarnedIn_4   (X4 : Nat → Int32 → Int32 → Int32 → Int32 → JS → Prop) (l0 : Nat) (l1 : Int32) (l2 : Int32) (l3 : Int32) (l4 : Int32) (S : JS) (Q : Int32 → JS → Prop) : Prop :=
  jA S l0 12 ∧ (wX12_rocks l0 S (fun r2 S1 => (r2 ≤ l4 → Q l3 S1) ∧ (¬ (r2 ≤ l4) → (¬ l4 = l2 → jA S1 l0 12 ∧ (wX12_tells l0 0 l4 l1 (-1) S1 (fun r5 S4 => wX12_unwarnedIn_20 X4 l0 l1 l2 l4 r5 l3 S4 Q))) ∧ (l4 = l2 → wX12_unwarnedIn_20 X4 l0 l1 l2 l4 0 l3 S1 Q))))
set_option maxRecDepth 20000 in
theorem uX12_unwarnedIn_4 {Q : Int32 → JS → Prop}  (d : Nat) (hd : 4 ≤ d) {X4 : Nat → Int32 → Int32 → Int32 → Int32 → JS → Prop} (hX4 : ∀ l0 l1 l2 l3 l4 S, X4 l0 l1 l2 l3 l4 S → jLf (jCall jmt jbud d) jbud (fun j => (jmt j).rk) none mX12_unwarnedIn (jqI Q) (4, [some (.ref l0), some (.int l1), some (.int l2), some (.int l3), some (.int l4)], [], S, 0, 0)) {l0 : Nat} {l1 : Int32} {l2 : Int32} {l3 : Int32} {l4 : Int32} {S : JS} (h : bX12_unwarnedIn_4 X4 l0 l1 l2 l3 l4 S Q) : jLf (jCall jmt jbud d) jbud (fun j => (jmt j).rk) none mX12_unwarnedIn (jqI Q) (4, [some (.ref l0), some (.int l1), some (.int l2), some (.int l3), some (.int l4)], [], S, 0, 0) := by
  have hc := jCall_mono jmt jbud d
  unfold bX12_unwarnedIn_4 at h
  refine jLf.bk hc 2 [] [some (.ref l0), some (.int l1), some (.int l2), some (.int l3), some (.int l4)] [.ref l0, .int l4] S rfl rfl rfl trivial ?_
  obtain ⟨g3, h⟩ := h
  refine jLf.inv hc _ rfl (gs := [jA S l0 12, (([.int l4] : List Value).map fun v => v.category).sum ≤ 8, 0 ≤ 0, 0 ≤ 0]) (k := 154) (args := [.ref l0]) (r := [.int l4]) (a := 0) (b := 0) rfl ⟨g3, Nat.le_of_ble_eq_true rfl, Nat.zero_le _, Nat.zero_le _⟩ (vX12_rocks d (by omega) h) ?_
  rintro v S1 ⟨r2, rfl, h⟩
  show jLf (jCall jmt jbud d) jbud (fun j => (jmt j).rk) none mX12_unwarnedIn (jqI Q) (7, [some (.ref l0), some (.int l1), some (.int l2), some (.int l3), some (.int l4)], [.int r2, .int l4], S1, 0, 0)
  refine jLf.two hc _ rfl (gs := []) (p1 := r2 ≤ l4) (p2 := ¬ (r2 ≤ l4)) (c1 := (24, [some (.ref l0), some (.int l1), some (.int l2), some (.int l3), some (.int l4)], [], S1, 0, 0)) (c2 := (8, [some (.ref l0), some (.int l1), some (.int l2), some (.int l3), some (.int l4)], [], S1, 0, 0)) rfl trivial (fun hz => ?_) (fun hz => ?_)
  · have h := h.1 hz
    refine jLf.bk hc 1 [] [some (.ref l0), some (.int l1), some (.int l2), some (.int l3), some (.int l4)] [.int l3] S1 rfl rfl rfl trivial ?_
    exact jLf.ret hc _ rfl (gs := [True]) (v := some (.int l3)) rfl trivial ⟨l3, rfl, h⟩
  · have h := h.2 hz
    refine jLf.bk hc 3 [] [some (.ref l0), some (.int l1), some (.int l2), some (.int l3), some (.int l4)] [.int l2, .int l4, .int l3] S1 rfl rfl rfl trivial ?_
    refine jLf.two hc _ rfl (gs := []) (p1 := ¬ l4 = l2) (p2 := ¬ (¬ l4 = l2)) (c1 := (14, [some (.ref l0), some (.int l1), some (.int l2), some (.int l3), some (.int l4)], [.int l3], S1, 0, 0)) (c2 := (12, [some (.ref l0), some (.int l1), some (.int l2), some (.int l3), some (.int l4)], [.int l3], S1, 0, 0)) rfl trivial (fun hz => ?_) (fun hz => ?_)
    · have h := h.1 hz
      refine jLf.bk hc 5 [] [some (.ref l0), some (.int l1), some (.int l2), some (.int l3), some (.int l4)] [.int (-1), .int l1, .int l4, .int 0, .ref l0, .int l3] S1 rfl rfl rfl trivial ?_
      obtain ⟨g6, h⟩ := h
      refine jLf.inv hc _ rfl (gs := [jA S1 l0 12, (([.int l3] : List Value).map fun v => v.category).sum ≤ 8, 0 ≤ 0, 0 ≤ 0]) (k := 195) (args := [.ref l0, .int 0, .int l4, .int l1, .int (-1)]) (r := [.int l3]) (a := 0) (b := 0) rfl ⟨g6, Nat.le_of_ble_eq_true rfl, Nat.zero_le _, Nat.zero_le _⟩ (vX12_tells d (by omega) h) ?_
      rintro v S4 ⟨r5, rfl, h⟩
      show jLf (jCall jmt jbud d) jbud (fun j => (jmt j).rk) none mX12_unwarnedIn (jqI Q) (20, [some (.ref l0), some (.int l1), some (.int l2), some (.int l3), some (.int l4)], [.int r5, .int l3], S4, 0, 0)
      refine jLf.sub [some (.ref l0), some (.int l1), some (.int l2), none, some (.int l4)] (jle_same (jle_same (jle_same (jle_none (jle_same (jle_nil _)))))) ?_
      exact tX12_unwarnedIn_20 d hd hX4 h
    · have h := h.2 (Classical.not_not.mp hz)
      refine jLf.bk hc 1 [] [some (.ref l0), some (.int l1), some (.int l2), some (.int l3), some (.int l4)] [.int 0, .int l3] S1 rfl rfl rfl trivial ?_
      refine jLf.one hc _ rfl (gs := []) (c := (20, [some (.ref l0), some (.int l1), some (.int l2), some (.int l3), some (.int l4)], [.int 0, .int l3], S1, 0, 0)) rfl trivial ?_
      refine jLf.sub [some (.ref l0), some (.int l1), some (.int l2), none, some (.int l4)] (jle_same (jle_same (jle_same (jle_none (jle_same (jle_nil _)))))) ?_
      exact tX12_unwarnedIn_20 d hd hX4 h
def wX12_unwarnedIn_4   (l0 : Nat) (l1 : Int32) (l2 : Int32) (l3 : Int32) (l4 : Int32) (S : JS) (Q : Int32 → JS → Prop) : Prop :=
  jLoop (fun (X4 : Nat × Int32 × Int32 × Int32 × Int32 × JS → Prop) q => bX12_unwarnedIn_4 (fun l0 l1 l2 l3 l4 S => X4 (l0, l1, l2, l3, l4, S)) q.1 q.2.1 q.2.2.1 q.2.2.2.1 q.2.2.2.2.1 q.2.2.2.2.2 Q) (l0, l1, l2, l3, l4, S)
set_option maxRecDepth 20000 in
theorem tX12_unwarnedIn_4 {Q : Int32 → JS → Prop}  (d : Nat) (hd : 4 ≤ d) {l0 : Nat} {l1 : Int32} {l2 : Int32} {l3 : Int32} {l4 : Int32} {S : JS} (h : wX12_unwarnedIn_4 l0 l1 l2 l3 l4 S Q) : jLf (jCall jmt jbud d) jbud (fun j => (jmt j).rk) none mX12_unwarnedIn (jqI Q) (4, [some (.ref l0), some (.int l1), some (.int l2), some (.int l3), some (.int l4)], [], S, 0, 0) := by
  have := h (fun q : Nat × Int32 × Int32 × Int32 × Int32 × JS => jLf (jCall jmt jbud d) jbud (fun j => (jmt j).rk) none mX12_unwarnedIn (jqI Q) (4, [some (.ref (q.1)), some (.int (q.2.1)), some (.int (q.2.2.1)), some (.int (q.2.2.2.1)), some (.int (q.2.2.2.2.1))], [], q.2.2.2.2.2, 0, 0)) (fun q R hb hR => uX12_unwarnedIn_4 d hd  (fun _ _ _ _ _ _ => hR _) hb)
  exact this
def wX12_unwarnedIn  (this : Nat) (p1 : Int32) (p2 : Int32) (S : JS) (Q : Int32 → JS → Prop) : Prop :=
  wX12_unwarnedIn_4 this p1 p2 0 0 S Q
set_option maxRecDepth 20000 in
theorem vX12_unwarnedIn {Q : Int32 → JS → Prop} (d : Nat) (hd : 5 ≤ d) {this : Nat} {p1 : Int32} {p2 : Int32} {S : JS} (h : wX12_unwarnedIn this p1 p2 S Q) : jCall jmt jbud d 206 [.ref this, .int p1, .int p2] S (jqI Q) := by
  obtain ⟨d, rfl⟩ : ∃ d2, d = d2 + 1 := ⟨d - 1, by omega⟩
  have hd : 4 ≤ d := by omega
  have hc := jCall_mono jmt jbud d
  unfold wX12_unwarnedIn at h
  refine ⟨Nat.le_of_ble_eq_true rfl, ?_⟩
  show jLf (jCall jmt jbud d) jbud (fun j => (jmt j).rk) none mX12_unwarnedIn (jqI Q) (0, [some (.ref this), some (.int p1), some (.int p2), none, none], [], S, 0, 0)
  refine jLf.bk hc 4 [] [some (.ref this), some (.int p1), some (.int p2), some (.int 0), some (.int 0)] [] S rfl rfl rfl trivial ?_
  exact tX12_unwarnedIn_4 d hd  h
def bX12_unwarned_7   (X7 : Nat → Int32 → Int32 → JS → Prop) (l0 : Nat) (l1 : Int32) (l2 : Int32) (S : JS) (Q : Int32 → JS → Prop) : Prop :=
  jA S l0 12 ∧ (¬ jR S l0 3 = none ∧ (jA S (jr S l0 3) 13 ∧ (vp_in (7 : Int32) (jZ S (jr S l0 3)) ∧ (((jI S (jr S l0 3) (7 : Int32).toNatClampNeg) < l2 → Q l1 S) ∧ (¬ ((jI S (jr S l0 3) (7 : Int32).toNatClampNeg) < l2) → vp_in ((80 : Int32) + l2) (jZ S (jr S l0 3)) ∧ (wX12_unwarnedIn l0 l2 (jI S (jr S l0 3) ((80 : Int32) + l2).toNatClampNeg) S (fun r9 S8 => ∀ x10 : Int32, x10 = (l1 + r9) → (∀ x11 : Int32, x11 = (l2 + 1) → (X7 l0 x10 x11 S8)))))))))
set_option maxRecDepth 20000 in
theorem uX12_unwarned_7 {Q : Int32 → JS → Prop}  (d : Nat) (hd : 5 ≤ d) {X7 : Nat → Int32 → Int32 → JS → Prop} (hX7 : ∀ l0 l1 l2 S, X7 l0 l1 l2 S → jLf (jCall jmt jbud d) jbud (fun j => (jmt j).rk) none mX12_unwarned (jqI Q) (7, [some (.ref l0), some (.int l1), some (.int l2)], [], S, 0, 0)) {l0 : Nat} {l1 : Int32} {l2 : Int32} {S : JS} (h : bX12_unwarned_7 X7 l0 l1 l2 S Q) : jLf (jCall jmt jbud d) jbud (fun j => (jmt j).rk) none mX12_unwarned (jqI Q) (7, [some (.ref l0), some (.int l1), some (.int l2)], [], S, 0, 0) := by
  have hc := jCall_mono jmt jbud d
  unfold bX12_unwarned_7 at h
  obtain ⟨g3, g4, g5, g6, h⟩ := h
  refine jLf.bk hc 5 [jA S l0 12, ¬ jR S l0 3 = none, jA S (jr S l0 3) 13, vp_in (7 : Int32) (jZ S (jr S l0 3))] [some (.ref l0), some (.int l1), some (.int l2)] [.int (jI S (jr S l0 3) (7 : Int32).toNatClampNeg), .int l2] S rfl rfl rfl ⟨g3, g4, g5, g6⟩ ?_
  refine jLf.two hc _ rfl (gs := []) (p1 := (jI S (jr S l0 3) (7 : Int32).toNatClampNeg) < l2) (p2 := ¬ ((jI S (jr S l0 3) (7 : Int32).toNatClampNeg) < l2)) (c1 := (27, [some (.ref l0), some (.int l1), some (.int l2)], [], S, 0, 0)) (c2 := (13, [some (.ref l0), some (.int l1), some (.int l2)], [], S, 0, 0)) rfl trivial (fun hz => ?_) (fun hz => ?_)
  · have h := h.1 hz
    refine jLf.bk hc 1 [] [some (.ref l0), some (.int l1), some (.int l2)] [.int l1] S rfl rfl rfl trivial ?_
    exact jLf.ret hc _ rfl (gs := [True]) (v := some (.int l1)) rfl trivial ⟨l1, rfl, h⟩
  · have h := h.2 hz
    obtain ⟨g7, h⟩ := h
    refine jLf.bk hc 9 [jA S l0 12, ¬ jR S l0 3 = none, jA S (jr S l0 3) 13, vp_in ((80 : Int32) + l2) (jZ S (jr S l0 3))] [some (.ref l0), some (.int l1), some (.int l2)] [.int (jI S (jr S l0 3) ((80 : Int32) + l2).toNatClampNeg), .int l2, .ref l0, .int l1] S rfl rfl rfl ⟨g3, g4, g5, g7⟩ ?_
    refine jLf.inv hc _ rfl (gs := [jA S l0 12, (([.int l1] : List Value).map fun v => v.category).sum ≤ 8, 0 ≤ 0, 0 ≤ 0]) (k := 206) (args := [.ref l0, .int l2, .int (jI S (jr S l0 3) ((80 : Int32) + l2).toNatClampNeg)]) (r := [.int l1]) (a := 0) (b := 0) rfl ⟨g3, Nat.le_of_ble_eq_true rfl, Nat.zero_le _, Nat.zero_le _⟩ (vX12_unwarnedIn d (by omega) h) ?_
    rintro v S8 ⟨r9, rfl, h⟩
    show jLf (jCall jmt jbud d) jbud (fun j => (jmt j).rk) none mX12_unwarned (jqI Q) (23, [some (.ref l0), some (.int l1), some (.int l2)], [.int r9, .int l1], S8, 0, 0)
    refine jLf.bk hc 2 [] [some (.ref l0), some (.int (l1 + r9)), some (.int l2)] [] S8 rfl rfl rfl trivial ?_
    generalize ex10 : (l1 + r9 : Int32) = x10
    have h := h x10 ex10.symm
    refine jLf.bk hc 1 [] [some (.ref l0), some (.int x10), some (.int (l2 + 1))] [] S8 rfl rfl rfl trivial ?_
    generalize ex11 : (l2 + 1 : Int32) = x11
    have h := h x11 ex11.symm
    refine jLf.one hc _ rfl (gs := []) (c := (7, [some (.ref l0), some (.int x10), some (.int x11)], [], S8, 0, 0)) rfl trivial ?_
    exact hX7 _ _ _ _ h
def wX12_unwarned_7   (l0 : Nat) (l1 : Int32) (l2 : Int32) (S : JS) (Q : Int32 → JS → Prop) : Prop :=
  jLoop (fun (X7 : Nat × Int32 × Int32 × JS → Prop) q => bX12_unwarned_7 (fun l0 l1 l2 S => X7 (l0, l1, l2, S)) q.1 q.2.1 q.2.2.1 q.2.2.2 Q) (l0, l1, l2, S)
set_option maxRecDepth 20000 in
theorem tX12_unwarned_7 {Q : Int32 → JS → Prop}  (d : Nat) (hd : 5 ≤ d) {l0 : Nat} {l1 : Int32} {l2 : Int32} {S : JS} (h : wX12_unwarned_7 l0 l1 l2 S Q) : jLf (jCall jmt jbud d) jbud (fun j => (jmt j).rk) none mX12_unwarned (jqI Q) (7, [some (.ref l0), some (.int l1), some (.int l2)], [], S, 0, 0) := by
  have := h (fun q : Nat × Int32 × Int32 × JS => jLf (jCall jmt jbud d) jbud (fun j => (jmt j).rk) none mX12_unwarned (jqI Q) (7, [some (.ref (q.1)), some (.int (q.2.1)), some (.int (q.2.2.1))], [], q.2.2.2, 0, 0)) (fun q R hb hR => uX12_unwarned_7 d hd  (fun _ _ _ _ => hR _) hb)
  exact this
def wX12_unwarned  (this : Nat) (S : JS) (Q : Int32 → JS → Prop) : Prop :=
  jA S this 12 ∧ (∀ S2 : JS, S2 = uI S this 0 0 → (wX12_unwarned_7 this 0 0 S2 Q))
set_option maxRecDepth 20000 in
theorem vX12_unwarned {Q : Int32 → JS → Prop} (d : Nat) (hd : 6 ≤ d) {this : Nat} {S : JS} (h : wX12_unwarned this S Q) : jCall jmt jbud d 207 [.ref this] S (jqI Q) := by
  obtain ⟨d, rfl⟩ : ∃ d2, d = d2 + 1 := ⟨d - 1, by omega⟩
  have hd : 5 ≤ d := by omega
  have hc := jCall_mono jmt jbud d
  unfold wX12_unwarned at h
  refine ⟨Nat.le_of_ble_eq_true rfl, ?_⟩
  show jLf (jCall jmt jbud d) jbud (fun j => (jmt j).rk) none mX12_unwarned (jqI Q) (0, [some (.ref this), none, none], [], S, 0, 0)
  obtain ⟨g1, h⟩ := h
  refine jLf.bk hc 3 [jA S this 12] [some (.ref this), none, none] [] (uI S this 0 0) rfl rfl rfl g1 ?_
  generalize eS2 : uI S this 0 0 = S2
  have h := h S2 eS2.symm
  refine jLf.bk hc 4 [] [some (.ref this), some (.int 0), some (.int 0)] [] S2 rfl rfl rfl trivial ?_
  exact tX12_unwarned_7 d hd  h
def wX12_report_12   (l0 : Nat) (S : JS) (Q : Int32 → JS → Prop) : Prop :=
  jA S l0 12 ∧ (wX12_tell l0 (-1) S (fun r6 S5 => Q r6 S5))
set_option maxRecDepth 20000 in
theorem tX12_report_12 {Q : Int32 → JS → Prop}  (d : Nat) (hd : 2 ≤ d) {l0 : Nat} {S : JS} (h : wX12_report_12 l0 S Q) : jLf (jCall jmt jbud d) jbud (fun j => (jmt j).rk) none mX12_report (jqI Q) (12, [some (.ref l0), none, none, none, none], [], S, 0, 0) := by
  have hc := jCall_mono jmt jbud d
  unfold wX12_report_12 at h
  refine jLf.bk hc 2 [] [some (.ref l0), none, none, none, none] [.int (-1), .ref l0] S rfl rfl rfl trivial ?_
  obtain ⟨g7, h⟩ := h
  refine jLf.inv hc _ rfl (gs := [jA S l0 12, (([] : List Value).map fun v => v.category).sum ≤ 8, 0 ≤ 0, 0 ≤ 0]) (k := 150) (args := [.ref l0, .int (-1)]) (r := []) (a := 0) (b := 0) rfl ⟨g7, Nat.le_of_ble_eq_true rfl, Nat.zero_le _, Nat.zero_le _⟩ (vX12_tell d (by omega) h) ?_
  rintro v S5 ⟨r6, rfl, h⟩
  show jLf (jCall jmt jbud d) jbud (fun j => (jmt j).rk) none mX12_report (jqI Q) (15, [some (.ref l0), none, none, none, none], [.int r6], S5, 0, 0)
  exact jLf.ret hc _ rfl (gs := [True]) (v := some (.int r6)) rfl trivial ⟨r6, rfl, h⟩
def wX12_report  (this : Nat) (p1 : Int32) (p2 : Int32) (p3 : Int32) (S : JS) (Q : Int32 → JS → Prop) : Prop :=
  jA S this 12 ∧ (∀ S2 : JS, S2 = uI S this 0 0 → (wX12_isNight p2 S2 (fun r4 S3 => (r4 = 0 → wX12_report_12 this S3 Q) ∧ (¬ r4 = 0 → wX12_in (p3.toInt64) 0 1 S3 (fun r9 S8 => (¬ r9 = 0 → jA S8 this 12 ∧ (wX12_isRock this p1 S8 (fun r11 S10 => (¬ r11 = 0 → jA S10 this 12 ∧ (¬ jR S10 this 3 = none ∧ (jA S10 (jr S10 this 3) 13 ∧ (vp_in (6 : Int32) (jZ S10 (jr S10 this 3)) ∧ (∀ x17 : Int32, x17 = (jI S10 (jr S10 this 3) (6 : Int32).toNatClampNeg) → ((¬ x17 = 16 → vp_in ((140 : Int32) + ((3 : Int32) * x17)) (jZ S10 (jr S10 this 3)) ∧ (∀ S19 : JS, S19 = uI S10 (jr S10 this 3) ((140 : Int32) + ((3 : Int32) * x17)).toNatClampNeg p1 → (jA S19 this 12 ∧ (¬ jR S19 this 3 = none ∧ (jA S19 (jr S19 this 3) 13 ∧ (vp_in (((140 : Int32) + ((3 : Int32) * x17)) + (1 : Int32)) (jZ S19 (jr S19 this 3)) ∧ (∀ S24 : JS, S24 = uI S19 (jr S19 this 3) (((140 : Int32) + ((3 : Int32) * x17)) + (1 : Int32)).toNatClampNeg p2 → (jA S24 this 12 ∧ (¬ jR S24 this 3 = none ∧ (jA S24 (jr S24 this 3) 13 ∧ (vp_in (((140 : Int32) + ((3 : Int32) * x17)) + (2 : Int32)) (jZ S24 (jr S24 this 3)) ∧ (∀ S29 : JS, S29 = uI S24 (jr S24 this 3) (((140 : Int32) + ((3 : Int32) * x17)) + (2 : Int32)).toNatClampNeg p3 → (jA S29 this 12 ∧ (¬ jR S29 this 3 = none ∧ (jA S29 (jr S29 this 3) 13 ∧ (vp_in (6 : Int32) (jZ S29 (jr S29 this 3)) ∧ (∀ S34 : JS, S34 = uI S29 (jr S29 this 3) (6 : Int32).toNatClampNeg ((jI S29 (jr S29 this 3) (6 : Int32).toNatClampNeg) + (1 : Int32)) → (jA S34 this 12 ∧ (wX12_tell this (x17 + (1 : Int32)) S34 (fun r36 S35 => Q r36 S35)))))))))))))))))))) ∧ (x17 = 16 → wX12_tell this (-5) S10 (fun r39 S38 => Q r39 S38)))))))) ∧ (r11 = 0 → jA S10 this 12 ∧ (wX12_tell this (-2) S10 (fun r41 S40 => Q r41 S40)))))) ∧ (r9 = 0 → wX12_report_12 this S8 Q))))))
set_option maxRecDepth 20000 in
theorem vX12_report {Q : Int32 → JS → Prop} (d : Nat) (hd : 3 ≤ d) {this : Nat} {p1 : Int32} {p2 : Int32} {p3 : Int32} {S : JS} (h : wX12_report this p1 p2 p3 S Q) : jCall jmt jbud d 208 [.ref this, .int p1, .int p2, .int p3] S (jqI Q) := by
  obtain ⟨d, rfl⟩ : ∃ d2, d = d2 + 1 := ⟨d - 1, by omega⟩
  have hd : 2 ≤ d := by omega
  have hc := jCall_mono jmt jbud d
  unfold wX12_report at h
  refine ⟨Nat.le_of_ble_eq_true rfl, ?_⟩
  show jLf (jCall jmt jbud d) jbud (fun j => (jmt j).rk) none mX12_report (jqI Q) (0, [some (.ref this), some (.int p1), some (.int p2), some (.int p3), none], [], S, 0, 0)
  obtain ⟨g1, h⟩ := h
  refine jLf.bk hc 3 [jA S this 12] [some (.ref this), some (.int p1), some (.int p2), some (.int p3), none] [] (uI S this 0 0) rfl rfl rfl g1 ?_
  generalize eS2 : uI S this 0 0 = S2
  have h := h S2 eS2.symm
  refine jLf.bk hc 1 [] [some (.ref this), some (.int p1), some (.int p2), some (.int p3), none] [.int p2] S2 rfl rfl rfl trivial ?_
  refine jLf.inv hc _ rfl (gs := [1 ≤ ([.int p2] : List Value).length, (([] : List Value).map fun v => v.category).sum ≤ 8, 0 ≤ 0, 0 ≤ 0]) (k := 156) (args := [.int p2]) (r := []) (a := 0) (b := 0) rfl ⟨Nat.le_of_ble_eq_true rfl, Nat.le_of_ble_eq_true rfl, Nat.zero_le _, Nat.zero_le _⟩ (vX12_isNight d (by omega) h) ?_
  rintro v S3 ⟨r4, rfl, h⟩
  show jLf (jCall jmt jbud d) jbud (fun j => (jmt j).rk) none mX12_report (jqI Q) (5, [some (.ref this), some (.int p1), some (.int p2), some (.int p3), none], [.int r4], S3, 0, 0)
  refine jLf.two hc _ rfl (gs := []) (p1 := r4 = 0) (p2 := ¬ (r4 = 0)) (c1 := (12, [some (.ref this), some (.int p1), some (.int p2), some (.int p3), none], [], S3, 0, 0)) (c2 := (6, [some (.ref this), some (.int p1), some (.int p2), some (.int p3), none], [], S3, 0, 0)) rfl trivial (fun hz => ?_) (fun hz => ?_)
  · have h := h.1 hz
    refine jLf.sub [some (.ref this), none, none, none, none] (jle_same (jle_none (jle_none (jle_none (jle_same (jle_nil _)))))) ?_
    exact tX12_report_12 d hd  h
  · have h := h.2 hz
    refine jLf.bk hc 4 [] [some (.ref this), some (.int p1), some (.int p2), some (.int p3), none] [.long 1, .long 0, .long (p3.toInt64)] S3 rfl rfl rfl trivial ?_
    refine jLf.inv hc _ rfl (gs := [3 ≤ ([.long 1, .long 0, .long (p3.toInt64)] : List Value).length, (([] : List Value).map fun v => v.category).sum ≤ 8, 0 ≤ 0, 0 ≤ 0]) (k := 148) (args := [.long (p3.toInt64), .long 0, .long 1]) (r := []) (a := 0) (b := 0) rfl ⟨Nat.le_of_ble_eq_true rfl, Nat.le_of_ble_eq_true rfl, Nat.zero_le _, Nat.zero_le _⟩ (vX12_in d (by omega) h) ?_
    rintro v S8 ⟨r9, rfl, h⟩
    show jLf (jCall jmt jbud d) jbud (fun j => (jmt j).rk) none mX12_report (jqI Q) (11, [some (.ref this), some (.int p1), some (.int p2), some (.int p3), none], [.int r9], S8, 0, 0)
    refine jLf.two hc _ rfl (gs := []) (p1 := ¬ r9 = 0) (p2 := ¬ (¬ r9 = 0)) (c1 := (16, [some (.ref this), some (.int p1), some (.int p2), some (.int p3), none], [], S8, 0, 0)) (c2 := (12, [some (.ref this), some (.int p1), some (.int p2), some (.int p3), none], [], S8, 0, 0)) rfl trivial (fun hz => ?_) (fun hz => ?_)
    · have h := h.1 hz
      refine jLf.bk hc 2 [] [some (.ref this), some (.int p1), some (.int p2), some (.int p3), none] [.int p1, .ref this] S8 rfl rfl rfl trivial ?_
      obtain ⟨g12, h⟩ := h
      refine jLf.inv hc _ rfl (gs := [jA S8 this 12, (([] : List Value).map fun v => v.category).sum ≤ 8, 0 ≤ 0, 0 ≤ 0]) (k := 155) (args := [.ref this, .int p1]) (r := []) (a := 0) (b := 0) rfl ⟨g12, Nat.le_of_ble_eq_true rfl, Nat.zero_le _, Nat.zero_le _⟩ (vX12_isRock d (by omega) h) ?_
      rintro v S10 ⟨r11, rfl, h⟩
      show jLf (jCall jmt jbud d) jbud (fun j => (jmt j).rk) none mX12_report (jqI Q) (19, [some (.ref this), some (.int p1), some (.int p2), some (.int p3), none], [.int r11], S10, 0, 0)
      refine jLf.two hc _ rfl (gs := []) (p1 := ¬ r11 = 0) (p2 := ¬ (¬ r11 = 0)) (c1 := (24, [some (.ref this), some (.int p1), some (.int p2), some (.int p3), none], [], S10, 0, 0)) (c2 := (20, [some (.ref this), some (.int p1), some (.int p2), some (.int p3), none], [], S10, 0, 0)) rfl trivial (fun hz => ?_) (fun hz => ?_)
      · have h := h.1 hz
        obtain ⟨g13, g14, g15, g16, h⟩ := h
        refine jLf.bk hc 5 [jA S10 this 12, ¬ jR S10 this 3 = none, jA S10 (jr S10 this 3) 13, vp_in (6 : Int32) (jZ S10 (jr S10 this 3))] [some (.ref this), some (.int p1), some (.int p2), some (.int p3), some (.int (jI S10 (jr S10 this 3) (6 : Int32).toNatClampNeg))] [] S10 rfl rfl rfl ⟨g13, g14, g15, g16⟩ ?_
        generalize ex17 : (jI S10 (jr S10 this 3) (6 : Int32).toNatClampNeg : Int32) = x17
        have h := h x17 ex17.symm
        refine jLf.bk hc 2 [] [some (.ref this), some (.int p1), some (.int p2), some (.int p3), some (.int x17)] [.int 16, .int x17] S10 rfl rfl rfl trivial ?_
        refine jLf.two hc _ rfl (gs := []) (p1 := ¬ x17 = 16) (p2 := ¬ (¬ x17 = 16)) (c1 := (36, [some (.ref this), some (.int p1), some (.int p2), some (.int p3), some (.int x17)], [], S10, 0, 0)) (c2 := (32, [some (.ref this), some (.int p1), some (.int p2), some (.int p3), some (.int x17)], [], S10, 0, 0)) rfl trivial (fun hz => ?_) (fun hz => ?_)
        · have h := h.1 hz
          obtain ⟨g18, h⟩ := h
          refine jLf.bk hc 9 [jA S10 this 12, ¬ jR S10 this 3 = none, jA S10 (jr S10 this 3) 13, vp_in ((140 : Int32) + ((3 : Int32) * x17)) (jZ S10 (jr S10 this 3))] [some (.ref this), some (.int p1), some (.int p2), some (.int p3), some (.int x17)] [] (uI S10 (jr S10 this 3) ((140 : Int32) + ((3 : Int32) * x17)).toNatClampNeg p1) rfl rfl rfl ⟨g13, g14, g15, g18⟩ ?_
          generalize eS19 : uI S10 (jr S10 this 3) ((140 : Int32) + ((3 : Int32) * x17)).toNatClampNeg p1 = S19
          have h := h S19 eS19.symm
          obtain ⟨g20, g21, g22, g23, h⟩ := h
          refine jLf.bk hc 11 [jA S19 this 12, ¬ jR S19 this 3 = none, jA S19 (jr S19 this 3) 13, vp_in (((140 : Int32) + ((3 : Int32) * x17)) + (1 : Int32)) (jZ S19 (jr S19 this 3))] [some (.ref this), some (.int p1), some (.int p2), some (.int p3), some (.int x17)] [] (uI S19 (jr S19 this 3) (((140 : Int32) + ((3 : Int32) * x17)) + (1 : Int32)).toNatClampNeg p2) rfl rfl rfl ⟨g20, g21, g22, g23⟩ ?_
          generalize eS24 : uI S19 (jr S19 this 3) (((140 : Int32) + ((3 : Int32) * x17)) + (1 : Int32)).toNatClampNeg p2 = S24
          have h := h S24 eS24.symm
          obtain ⟨g25, g26, g27, g28, h⟩ := h
          refine jLf.bk hc 11 [jA S24 this 12, ¬ jR S24 this 3 = none, jA S24 (jr S24 this 3) 13, vp_in (((140 : Int32) + ((3 : Int32) * x17)) + (2 : Int32)) (jZ S24 (jr S24 this 3))] [some (.ref this), some (.int p1), some (.int p2), some (.int p3), some (.int x17)] [] (uI S24 (jr S24 this 3) (((140 : Int32) + ((3 : Int32) * x17)) + (2 : Int32)).toNatClampNeg p3) rfl rfl rfl ⟨g25, g26, g27, g28⟩ ?_
          generalize eS29 : uI S24 (jr S24 this 3) (((140 : Int32) + ((3 : Int32) * x17)) + (2 : Int32)).toNatClampNeg p3 = S29
          have h := h S29 eS29.symm
          obtain ⟨g30, g31, g32, g33, h⟩ := h
          refine jLf.bk hc 8 [jA S29 this 12, ¬ jR S29 this 3 = none, jA S29 (jr S29 this 3) 13, vp_in (6 : Int32) (jZ S29 (jr S29 this 3)), jA S29 (jr S29 this 3) 13, vp_in (6 : Int32) (jZ S29 (jr S29 this 3))] [some (.ref this), some (.int p1), some (.int p2), some (.int p3), some (.int x17)] [] (uI S29 (jr S29 this 3) (6 : Int32).toNatClampNeg ((jI S29 (jr S29 this 3) (6 : Int32).toNatClampNeg) + (1 : Int32))) rfl rfl rfl ⟨g30, g31, g32, g33, g32, g33⟩ ?_
          generalize eS34 : uI S29 (jr S29 this 3) (6 : Int32).toNatClampNeg ((jI S29 (jr S29 this 3) (6 : Int32).toNatClampNeg) + (1 : Int32)) = S34
          have h := h S34 eS34.symm
          refine jLf.bk hc 4 [] [some (.ref this), some (.int p1), some (.int p2), some (.int p3), some (.int x17)] [.int (x17 + (1 : Int32)), .ref this] S34 rfl rfl rfl trivial ?_
          obtain ⟨g37, h⟩ := h
          refine jLf.inv hc _ rfl (gs := [jA S34 this 12, (([] : List Value).map fun v => v.category).sum ≤ 8, 0 ≤ 0, 0 ≤ 0]) (k := 150) (args := [.ref this, .int (x17 + (1 : Int32))]) (r := []) (a := 0) (b := 0) rfl ⟨g37, Nat.le_of_ble_eq_true rfl, Nat.zero_le _, Nat.zero_le _⟩ (vX12_tell d (by omega) h) ?_
          rintro v S35 ⟨r36, rfl, h⟩
          show jLf (jCall jmt jbud d) jbud (fun j => (jmt j).rk) none mX12_report (jqI Q) (80, [some (.ref this), some (.int p1), some (.int p2), some (.int p3), some (.int x17)], [.int r36], S35, 0, 0)
          exact jLf.ret hc _ rfl (gs := [True]) (v := some (.int r36)) rfl trivial ⟨r36, rfl, h⟩
        · have h := h.2 (Classical.not_not.mp hz)
          refine jLf.bk hc 2 [] [some (.ref this), some (.int p1), some (.int p2), some (.int p3), some (.int x17)] [.int (-5), .ref this] S10 rfl rfl rfl trivial ?_
          refine jLf.inv hc _ rfl (gs := [jA S10 this 12, (([] : List Value).map fun v => v.category).sum ≤ 8, 0 ≤ 0, 0 ≤ 0]) (k := 150) (args := [.ref this, .int (-5)]) (r := []) (a := 0) (b := 0) rfl ⟨g13, Nat.le_of_ble_eq_true rfl, Nat.zero_le _, Nat.zero_le _⟩ (vX12_tell d (by omega) h) ?_
          rintro v S38 ⟨r39, rfl, h⟩
          show jLf (jCall jmt jbud d) jbud (fun j => (jmt j).rk) none mX12_report (jqI Q) (35, [some (.ref this), some (.int p1), some (.int p2), some (.int p3), some (.int x17)], [.int r39], S38, 0, 0)
          exact jLf.ret hc _ rfl (gs := [True]) (v := some (.int r39)) rfl trivial ⟨r39, rfl, h⟩
      · have h := h.2 (Classical.not_not.mp hz)
        refine jLf.bk hc 2 [] [some (.ref this), some (.int p1), some (.int p2), some (.int p3), none] [.int (-2), .ref this] S10 rfl rfl rfl trivial ?_
        obtain ⟨g42, h⟩ := h
        refine jLf.inv hc _ rfl (gs := [jA S10 this 12, (([] : List Value).map fun v => v.category).sum ≤ 8, 0 ≤ 0, 0 ≤ 0]) (k := 150) (args := [.ref this, .int (-2)]) (r := []) (a := 0) (b := 0) rfl ⟨g42, Nat.le_of_ble_eq_true rfl, Nat.zero_le _, Nat.zero_le _⟩ (vX12_tell d (by omega) h) ?_
        rintro v S40 ⟨r41, rfl, h⟩
        show jLf (jCall jmt jbud d) jbud (fun j => (jmt j).rk) none mX12_report (jqI Q) (23, [some (.ref this), some (.int p1), some (.int p2), some (.int p3), none], [.int r41], S40, 0, 0)
        exact jLf.ret hc _ rfl (gs := [True]) (v := some (.int r41)) rfl trivial ⟨r41, rfl, h⟩
    · have h := h.2 (Classical.not_not.mp hz)
      refine jLf.sub [some (.ref this), none, none, none, none] (jle_same (jle_none (jle_none (jle_none (jle_same (jle_nil _)))))) ?_
      exact tX12_report_12 d hd  h
def bX12_burn_25   (X25 : Nat → Int32 → JS → Prop) (l0 : Nat) (l2 : Int32) (S : JS) (Q : Int32 → JS → Prop) : Prop :=
  (185 ≤ l2 → jA S l0 12 ∧ (¬ jR S l0 3 = none ∧ (jA S (jr S l0 3) 13 ∧ (vp_in (6 : Int32) (jZ S (jr S l0 3)) ∧ (∀ S14 : JS, S14 = uI S (jr S l0 3) (6 : Int32).toNatClampNeg ((jI S (jr S l0 3) (6 : Int32).toNatClampNeg) - (1 : Int32)) → (jA S14 l0 12 ∧ (¬ jR S14 l0 3 = none ∧ (jA S14 (jr S14 l0 3) 13 ∧ (vp_in (6 : Int32) (jZ S14 (jr S14 l0 3)) ∧ (wX12_tell l0 (jI S14 (jr S14 l0 3) (6 : Int32).toNatClampNeg) S14 (fun r20 S19 => Q r20 S19))))))))))) ∧ (¬ (185 ≤ l2) → jA S l0 12 ∧ (¬ jR S l0 3 = none ∧ (jA S (jr S l0 3) 13 ∧ (vp_in (l2 + (3 : Int32)) (jZ S (jr S l0 3)) ∧ (vp_in l2 (jZ S (jr S l0 3)) ∧ (∀ S26 : JS, S26 = uI S (jr S l0 3) l2.toNatClampNeg (jI S (jr S l0 3) (l2 + (3 : Int32)).toNatClampNeg) → (∀ x27 : Int32, x27 = (l2 + 1) → (X25 l0 x27 S26))))))))
set_option maxRecDepth 20000 in
theorem uX12_burn_25 {Q : Int32 → JS → Prop}  (d : Nat) (hd : 1 ≤ d) {X25 : Nat → Int32 → JS → Prop} (hX25 : ∀ l0 l2 S, X25 l0 l2 S → jLf (jCall jmt jbud d) jbud (fun j => (jmt j).rk) none mX12_burn (jqI Q) (25, [some (.ref l0), none, some (.int l2)], [], S, 0, 0)) {l0 : Nat} {l2 : Int32} {S : JS} (h : bX12_burn_25 X25 l0 l2 S Q) : jLf (jCall jmt jbud d) jbud (fun j => (jmt j).rk) none mX12_burn (jqI Q) (25, [some (.ref l0), none, some (.int l2)], [], S, 0, 0) := by
  have hc := jCall_mono jmt jbud d
  unfold bX12_burn_25 at h
  refine jLf.bk hc 2 [] [some (.ref l0), none, some (.int l2)] [.int 185, .int l2] S rfl rfl rfl trivial ?_
  refine jLf.two hc _ rfl (gs := []) (p1 := 185 ≤ l2) (p2 := ¬ (185 ≤ l2)) (c1 := (40, [some (.ref l0), none, some (.int l2)], [], S, 0, 0)) (c2 := (28, [some (.ref l0), none, some (.int l2)], [], S, 0, 0)) rfl trivial (fun hz => ?_) (fun hz => ?_)
  · have h := h.1 hz
    obtain ⟨g10, g11, g12, g13, h⟩ := h
    refine jLf.bk hc 8 [jA S l0 12, ¬ jR S l0 3 = none, jA S (jr S l0 3) 13, vp_in (6 : Int32) (jZ S (jr S l0 3)), jA S (jr S l0 3) 13, vp_in (6 : Int32) (jZ S (jr S l0 3))] [some (.ref l0), none, some (.int l2)] [] (uI S (jr S l0 3) (6 : Int32).toNatClampNeg ((jI S (jr S l0 3) (6 : Int32).toNatClampNeg) - (1 : Int32))) rfl rfl rfl ⟨g10, g11, g12, g13, g12, g13⟩ ?_
    generalize eS14 : uI S (jr S l0 3) (6 : Int32).toNatClampNeg ((jI S (jr S l0 3) (6 : Int32).toNatClampNeg) - (1 : Int32)) = S14
    have h := h S14 eS14.symm
    obtain ⟨g15, g16, g17, g18, h⟩ := h
    refine jLf.bk hc 5 [jA S14 l0 12, ¬ jR S14 l0 3 = none, jA S14 (jr S14 l0 3) 13, vp_in (6 : Int32) (jZ S14 (jr S14 l0 3))] [some (.ref l0), none, some (.int l2)] [.int (jI S14 (jr S14 l0 3) (6 : Int32).toNatClampNeg), .ref l0] S14 rfl rfl rfl ⟨g15, g16, g17, g18⟩ ?_
    refine jLf.inv hc _ rfl (gs := [jA S14 l0 12, (([] : List Value).map fun v => v.category).sum ≤ 8, 0 ≤ 0, 0 ≤ 0]) (k := 150) (args := [.ref l0, .int (jI S14 (jr S14 l0 3) (6 : Int32).toNatClampNeg)]) (r := []) (a := 0) (b := 0) rfl ⟨g15, Nat.le_of_ble_eq_true rfl, Nat.zero_le _, Nat.zero_le _⟩ (vX12_tell d (by omega) h) ?_
    rintro v S19 ⟨r20, rfl, h⟩
    show jLf (jCall jmt jbud d) jbud (fun j => (jmt j).rk) none mX12_burn (jqI Q) (54, [some (.ref l0), none, some (.int l2)], [.int r20], S19, 0, 0)
    exact jLf.ret hc _ rfl (gs := [True]) (v := some (.int r20)) rfl trivial ⟨r20, rfl, h⟩
  · have h := h.2 hz
    obtain ⟨g21, g22, g23, g24, g25, h⟩ := h
    refine jLf.bk hc 10 [jA S l0 12, ¬ jR S l0 3 = none, jA S l0 12, ¬ jR S l0 3 = none, jA S (jr S l0 3) 13, vp_in (l2 + (3 : Int32)) (jZ S (jr S l0 3)), jA S (jr S l0 3) 13, vp_in l2 (jZ S (jr S l0 3))] [some (.ref l0), none, some (.int l2)] [] (uI S (jr S l0 3) l2.toNatClampNeg (jI S (jr S l0 3) (l2 + (3 : Int32)).toNatClampNeg)) rfl rfl rfl ⟨g21, g22, g21, g22, g23, g24, g23, g25⟩ ?_
    generalize eS26 : uI S (jr S l0 3) l2.toNatClampNeg (jI S (jr S l0 3) (l2 + (3 : Int32)).toNatClampNeg) = S26
    have h := h S26 eS26.symm
    refine jLf.bk hc 1 [] [some (.ref l0), none, some (.int (l2 + 1))] [] S26 rfl rfl rfl trivial ?_
    generalize ex27 : (l2 + 1 : Int32) = x27
    have h := h x27 ex27.symm
    refine jLf.one hc _ rfl (gs := []) (c := (25, [some (.ref l0), none, some (.int x27)], [], S26, 0, 0)) rfl trivial ?_
    exact hX25 _ _ _ h
def wX12_burn_25   (l0 : Nat) (l2 : Int32) (S : JS) (Q : Int32 → JS → Prop) : Prop :=
  jLoop (fun (X25 : Nat × Int32 × JS → Prop) q => bX12_burn_25 (fun l0 l2 S => X25 (l0, l2, S)) q.1 q.2.1 q.2.2 Q) (l0, l2, S)
set_option maxRecDepth 20000 in
theorem tX12_burn_25 {Q : Int32 → JS → Prop}  (d : Nat) (hd : 1 ≤ d) {l0 : Nat} {l2 : Int32} {S : JS} (h : wX12_burn_25 l0 l2 S Q) : jLf (jCall jmt jbud d) jbud (fun j => (jmt j).rk) none mX12_burn (jqI Q) (25, [some (.ref l0), none, some (.int l2)], [], S, 0, 0) := by
  have := h (fun q : Nat × Int32 × JS => jLf (jCall jmt jbud d) jbud (fun j => (jmt j).rk) none mX12_burn (jqI Q) (25, [some (.ref (q.1)), none, some (.int (q.2.1))], [], q.2.2, 0, 0)) (fun q R hb hR => uX12_burn_25 d hd  (fun _ _ _ => hR _) hb)
  exact this
def wX12_burn  (this : Nat) (p1 : Int32) (S : JS) (Q : Int32 → JS → Prop) : Prop :=
  jA S this 12 ∧ (∀ S2 : JS, S2 = uI S this 0 0 → (jA S2 this 12 ∧ (¬ jR S2 this 3 = none ∧ (jA S2 (jr S2 this 3) 13 ∧ (vp_in (6 : Int32) (jZ S2 (jr S2 this 3)) ∧ (wX12_in (p1.toInt64) 0 (((jI S2 (jr S2 this 3) (6 : Int32).toNatClampNeg).toInt64) - (1 : Int64)) S2 (fun r8 S7 => (¬ r8 = 0 → ∀ x9 : Int32, x9 = ((140 : Int32) + ((3 : Int32) * p1)) → (wX12_burn_25 this x9 S7 Q)) ∧ (r8 = 0 → jA S7 this 12 ∧ (wX12_tell this (-2) S7 (fun r29 S28 => Q r29 S28))))))))))
set_option maxRecDepth 20000 in
theorem vX12_burn {Q : Int32 → JS → Prop} (d : Nat) (hd : 2 ≤ d) {this : Nat} {p1 : Int32} {S : JS} (h : wX12_burn this p1 S Q) : jCall jmt jbud d 209 [.ref this, .int p1] S (jqI Q) := by
  obtain ⟨d, rfl⟩ : ∃ d2, d = d2 + 1 := ⟨d - 1, by omega⟩
  have hd : 1 ≤ d := by omega
  have hc := jCall_mono jmt jbud d
  unfold wX12_burn at h
  refine ⟨Nat.le_of_ble_eq_true rfl, ?_⟩
  show jLf (jCall jmt jbud d) jbud (fun j => (jmt j).rk) none mX12_burn (jqI Q) (0, [some (.ref this), some (.int p1), none], [], S, 0, 0)
  obtain ⟨g1, h⟩ := h
  refine jLf.bk hc 3 [jA S this 12] [some (.ref this), some (.int p1), none] [] (uI S this 0 0) rfl rfl rfl g1 ?_
  generalize eS2 : uI S this 0 0 = S2
  have h := h S2 eS2.symm
  obtain ⟨g3, g4, g5, g6, h⟩ := h
  refine jLf.bk hc 10 [jA S2 this 12, ¬ jR S2 this 3 = none, jA S2 (jr S2 this 3) 13, vp_in (6 : Int32) (jZ S2 (jr S2 this 3))] [some (.ref this), some (.int p1), none] [.long (((jI S2 (jr S2 this 3) (6 : Int32).toNatClampNeg).toInt64) - (1 : Int64)), .long 0, .long (p1.toInt64)] S2 rfl rfl rfl ⟨g3, g4, g5, g6⟩ ?_
  refine jLf.inv hc _ rfl (gs := [3 ≤ ([.long (((jI S2 (jr S2 this 3) (6 : Int32).toNatClampNeg).toInt64) - (1 : Int64)), .long 0, .long (p1.toInt64)] : List Value).length, (([] : List Value).map fun v => v.category).sum ≤ 8, 0 ≤ 0, 0 ≤ 0]) (k := 148) (args := [.long (p1.toInt64), .long 0, .long (((jI S2 (jr S2 this 3) (6 : Int32).toNatClampNeg).toInt64) - (1 : Int64))]) (r := []) (a := 0) (b := 0) rfl ⟨Nat.le_of_ble_eq_true rfl, Nat.le_of_ble_eq_true rfl, Nat.zero_le _, Nat.zero_le _⟩ (vX12_in d (by omega) h) ?_
  rintro v S7 ⟨r8, rfl, h⟩
  show jLf (jCall jmt jbud d) jbud (fun j => (jmt j).rk) none mX12_burn (jqI Q) (14, [some (.ref this), some (.int p1), none], [.int r8], S7, 0, 0)
  refine jLf.two hc _ rfl (gs := []) (p1 := ¬ r8 = 0) (p2 := ¬ (¬ r8 = 0)) (c1 := (19, [some (.ref this), some (.int p1), none], [], S7, 0, 0)) (c2 := (15, [some (.ref this), some (.int p1), none], [], S7, 0, 0)) rfl trivial (fun hz => ?_) (fun hz => ?_)
  · have h := h.1 hz
    refine jLf.bk hc 6 [] [some (.ref this), some (.int p1), some (.int ((140 : Int32) + ((3 : Int32) * p1)))] [] S7 rfl rfl rfl trivial ?_
    generalize ex9 : ((140 : Int32) + ((3 : Int32) * p1) : Int32) = x9
    have h := h x9 ex9.symm
    refine jLf.sub [some (.ref this), none, some (.int x9)] (jle_same (jle_none (jle_same (jle_nil _)))) ?_
    exact tX12_burn_25 d hd  h
  · have h := h.2 (Classical.not_not.mp hz)
    refine jLf.bk hc 2 [] [some (.ref this), some (.int p1), none] [.int (-2), .ref this] S7 rfl rfl rfl trivial ?_
    obtain ⟨g30, h⟩ := h
    refine jLf.inv hc _ rfl (gs := [jA S7 this 12, (([] : List Value).map fun v => v.category).sum ≤ 8, 0 ≤ 0, 0 ≤ 0]) (k := 150) (args := [.ref this, .int (-2)]) (r := []) (a := 0) (b := 0) rfl ⟨g30, Nat.le_of_ble_eq_true rfl, Nat.zero_le _, Nat.zero_le _⟩ (vX12_tell d (by omega) h) ?_
    rintro v S28 ⟨r29, rfl, h⟩
    show jLf (jCall jmt jbud d) jbud (fun j => (jmt j).rk) none mX12_burn (jqI Q) (18, [some (.ref this), some (.int p1), none], [.int r29], S28, 0, 0)
    exact jLf.ret hc _ rfl (gs := [True]) (v := some (.int r29)) rfl trivial ⟨r29, rfl, h⟩
def wX12_layOut_51  (X2 : Nat → Int32 → JS → Prop) (X7 : Nat → Int32 → Int32 → JS → Prop) (X24 : Nat → Int32 → Int32 → Int32 → JS → Prop) (l0 : Nat) (l1 : Int32) (l2 : Int32) (l3 : Int32) (s0 : Int32) (s1 : Int32) (s2 : Int32) (s3 : Nat) (S : JS) (Q : JS → Prop) : Prop :=
  jA S s3 13 ∧ (vp_in s2 (jZ S s3) ∧ (∀ S20 : JS, S20 = uI S s3 s2.toNatClampNeg (s1 ||| s0) → (∀ x21 : Int32, x21 = (l3 + 1) → (X24 l0 l1 l2 x21 S20))))
set_option maxRecDepth 20000 in
theorem tX12_layOut_51 {Q : JS → Prop} {X2 : Nat → Int32 → JS → Prop} {X7 : Nat → Int32 → Int32 → JS → Prop} {X24 : Nat → Int32 → Int32 → Int32 → JS → Prop} (d : Nat) (hd : 5 ≤ d) (hX2 : ∀ l0 l1 S, X2 l0 l1 S → jLf (jCall jmt jbud d) jbud (fun j => (jmt j).rk) none mX12_layOut (jqV Q) (2, [some (.ref l0), some (.int l1), none, none], [], S, 0, 0)) (hX7 : ∀ l0 l1 l2 S, X7 l0 l1 l2 S → jLf (jCall jmt jbud d) jbud (fun j => (jmt j).rk) none mX12_layOut (jqV Q) (7, [some (.ref l0), some (.int l1), some (.int l2), none], [], S, 0, 0)) (hX24 : ∀ l0 l1 l2 l3 S, X24 l0 l1 l2 l3 S → jLf (jCall jmt jbud d) jbud (fun j => (jmt j).rk) none mX12_layOut (jqV Q) (24, [some (.ref l0), some (.int l1), some (.int l2), some (.int l3)], [], S, 0, 0)) {l0 : Nat} {l1 : Int32} {l2 : Int32} {l3 : Int32} {s0 : Int32} {s1 : Int32} {s2 : Int32} {s3 : Nat} {S : JS} (h : wX12_layOut_51 X2 X7 X24 l0 l1 l2 l3 s0 s1 s2 s3 S Q) : jLf (jCall jmt jbud d) jbud (fun j => (jmt j).rk) none mX12_layOut (jqV Q) (51, [some (.ref l0), some (.int l1), some (.int l2), some (.int l3)], [.int s0, .int s1, .int s2, .ref s3], S, 0, 0) := by
  have hc := jCall_mono jmt jbud d
  unfold wX12_layOut_51 at h
  obtain ⟨g18, g19, h⟩ := h
  refine jLf.bk hc 2 [jA S s3 13, vp_in s2 (jZ S s3)] [some (.ref l0), some (.int l1), some (.int l2), some (.int l3)] [] (uI S s3 s2.toNatClampNeg (s1 ||| s0)) rfl rfl rfl ⟨g18, g19⟩ ?_
  generalize eS20 : uI S s3 s2.toNatClampNeg (s1 ||| s0) = S20
  have h := h S20 eS20.symm
  refine jLf.bk hc 1 [] [some (.ref l0), some (.int l1), some (.int l2), some (.int (l3 + 1))] [] S20 rfl rfl rfl trivial ?_
  generalize ex21 : (l3 + 1 : Int32) = x21
  have h := h x21 ex21.symm
  refine jLf.one hc _ rfl (gs := []) (c := (24, [some (.ref l0), some (.int l1), some (.int l2), some (.int x21)], [], S20, 0, 0)) rfl trivial ?_
  exact hX24 _ _ _ _ _ h
def wX12_layOut_50  (X2 : Nat → Int32 → JS → Prop) (X7 : Nat → Int32 → Int32 → JS → Prop) (X24 : Nat → Int32 → Int32 → Int32 → JS → Prop) (l0 : Nat) (l1 : Int32) (l2 : Int32) (l3 : Int32) (s0 : Int32) (s1 : Int32) (s2 : Nat) (S : JS) (Q : JS → Prop) : Prop :=
  wX12_layOut_51 X2 X7 X24 l0 l1 l2 l3 0 s0 s1 s2 S Q
set_option maxRecDepth 20000 in
theorem tX12_layOut_50 {Q : JS → Prop} {X2 : Nat → Int32 → JS → Prop} {X7 : Nat → Int32 → Int32 → JS → Prop} {X24 : Nat → Int32 → Int32 → Int32 → JS → Prop} (d : Nat) (hd : 5 ≤ d) (hX2 : ∀ l0 l1 S, X2 l0 l1 S → jLf (jCall jmt jbud d) jbud (fun j => (jmt j).rk) none mX12_layOut (jqV Q) (2, [some (.ref l0), some (.int l1), none, none], [], S, 0, 0)) (hX7 : ∀ l0 l1 l2 S, X7 l0 l1 l2 S → jLf (jCall jmt jbud d) jbud (fun j => (jmt j).rk) none mX12_layOut (jqV Q) (7, [some (.ref l0), some (.int l1), some (.int l2), none], [], S, 0, 0)) (hX24 : ∀ l0 l1 l2 l3 S, X24 l0 l1 l2 l3 S → jLf (jCall jmt jbud d) jbud (fun j => (jmt j).rk) none mX12_layOut (jqV Q) (24, [some (.ref l0), some (.int l1), some (.int l2), some (.int l3)], [], S, 0, 0)) {l0 : Nat} {l1 : Int32} {l2 : Int32} {l3 : Int32} {s0 : Int32} {s1 : Int32} {s2 : Nat} {S : JS} (h : wX12_layOut_50 X2 X7 X24 l0 l1 l2 l3 s0 s1 s2 S Q) : jLf (jCall jmt jbud d) jbud (fun j => (jmt j).rk) none mX12_layOut (jqV Q) (50, [some (.ref l0), some (.int l1), some (.int l2), some (.int l3)], [.int s0, .int s1, .ref s2], S, 0, 0) := by
  have hc := jCall_mono jmt jbud d
  unfold wX12_layOut_50 at h
  refine jLf.bk hc 1 [] [some (.ref l0), some (.int l1), some (.int l2), some (.int l3)] [.int 0, .int s0, .int s1, .ref s2] S rfl rfl rfl trivial ?_
  exact tX12_layOut_51 d hd hX2 hX7 hX24 h
def bX12_layOut_24  (X2 : Nat → Int32 → JS → Prop) (X7 : Nat → Int32 → Int32 → JS → Prop) (X24 : Nat → Int32 → Int32 → Int32 → JS → Prop) (l0 : Nat) (l1 : Int32) (l2 : Int32) (l3 : Int32) (S : JS) (Q : JS → Prop) : Prop :=
  jA S l0 12 ∧ (wX12_rocks l0 S (fun r11 S10 => (r11 ≤ l3 → ∀ x13 : Int32, x13 = (l2 + 1) → (X7 l0 l1 x13 S10)) ∧ (¬ (r11 ≤ l3) → jA S10 l0 12 ∧ (¬ jR S10 l0 33 = none ∧ (jA S10 (jr S10 l0 33) 13 ∧ (vp_in (((9 : Int32) * l1) + l2) (jZ S10 (jr S10 l0 33)) ∧ ((l2 = l3 → wX12_layOut_50 X2 X7 X24 l0 l1 l2 l3 (jI S10 (jr S10 l0 33) (((9 : Int32) * l1) + l2).toNatClampNeg) (((9 : Int32) * l1) + l2) (jr S10 l0 33) S10 Q) ∧ (¬ l2 = l3 → wX12_isBoat l0 l2 l3 l1 S10 (fun r23 S22 => (r23 = 0 → wX12_layOut_50 X2 X7 X24 l0 l1 l2 l3 (jI S10 (jr S10 l0 33) (((9 : Int32) * l1) + l2).toNatClampNeg) (((9 : Int32) * l1) + l2) (jr S10 l0 33) S22 Q) ∧ (¬ r23 = 0 → wX12_layOut_51 X2 X7 X24 l0 l1 l2 l3 ((1 : Int32) <<< (l3 &&& 31)) (jI S10 (jr S10 l0 33) (((9 : Int32) * l1) + l2).toNatClampNeg) (((9 : Int32) * l1) + l2) (jr S10 l0 33) S22 Q))))))))))
set_option maxRecDepth 20000 in
theorem uX12_layOut_24 {Q : JS → Prop} {X2 : Nat → Int32 → JS → Prop} {X7 : Nat → Int32 → Int32 → JS → Prop} (d : Nat) (hd : 5 ≤ d) (hX2 : ∀ l0 l1 S, X2 l0 l1 S → jLf (jCall jmt jbud d) jbud (fun j => (jmt j).rk) none mX12_layOut (jqV Q) (2, [some (.ref l0), some (.int l1), none, none], [], S, 0, 0)) (hX7 : ∀ l0 l1 l2 S, X7 l0 l1 l2 S → jLf (jCall jmt jbud d) jbud (fun j => (jmt j).rk) none mX12_layOut (jqV Q) (7, [some (.ref l0), some (.int l1), some (.int l2), none], [], S, 0, 0)) {X24 : Nat → Int32 → Int32 → Int32 → JS → Prop} (hX24 : ∀ l0 l1 l2 l3 S, X24 l0 l1 l2 l3 S → jLf (jCall jmt jbud d) jbud (fun j => (jmt j).rk) none mX12_layOut (jqV Q) (24, [some (.ref l0), some (.int l1), some (.int l2), some (.int l3)], [], S, 0, 0)) {l0 : Nat} {l1 : Int32} {l2 : Int32} {l3 : Int32} {S : JS} (h : bX12_layOut_24 X2 X7 X24 l0 l1 l2 l3 S Q) : jLf (jCall jmt jbud d) jbud (fun j => (jmt j).rk) none mX12_layOut (jqV Q) (24, [some (.ref l0), some (.int l1), some (.int l2), some (.int l3)], [], S, 0, 0) := by
  have hc := jCall_mono jmt jbud d
  unfold bX12_layOut_24 at h
  refine jLf.bk hc 2 [] [some (.ref l0), some (.int l1), some (.int l2), some (.int l3)] [.ref l0, .int l3] S rfl rfl rfl trivial ?_
  obtain ⟨g12, h⟩ := h
  refine jLf.inv hc _ rfl (gs := [jA S l0 12, (([.int l3] : List Value).map fun v => v.category).sum ≤ 8, 0 ≤ 0, 0 ≤ 0]) (k := 154) (args := [.ref l0]) (r := [.int l3]) (a := 0) (b := 0) rfl ⟨g12, Nat.le_of_ble_eq_true rfl, Nat.zero_le _, Nat.zero_le _⟩ (vX12_rocks d (by omega) h) ?_
  rintro v S10 ⟨r11, rfl, h⟩
  show jLf (jCall jmt jbud d) jbud (fun j => (jmt j).rk) none mX12_layOut (jqV Q) (27, [some (.ref l0), some (.int l1), some (.int l2), some (.int l3)], [.int r11, .int l3], S10, 0, 0)
  refine jLf.two hc _ rfl (gs := []) (p1 := r11 ≤ l3) (p2 := ¬ (r11 ≤ l3)) (c1 := (55, [some (.ref l0), some (.int l1), some (.int l2), some (.int l3)], [], S10, 0, 0)) (c2 := (28, [some (.ref l0), some (.int l1), some (.int l2), some (.int l3)], [], S10, 0, 0)) rfl trivial (fun hz => ?_) (fun hz => ?_)
  · have h := h.1 hz
    refine jLf.bk hc 1 [] [some (.ref l0), some (.int l1), some (.int (l2 + 1)), some (.int l3)] [] S10 rfl rfl rfl trivial ?_
    generalize ex13 : (l2 + 1 : Int32) = x13
    have h := h x13 ex13.symm
    refine jLf.one hc _ rfl (gs := []) (c := (7, [some (.ref l0), some (.int l1), some (.int x13), some (.int l3)], [], S10, 0, 0)) rfl trivial ?_
    refine jLf.sub [some (.ref l0), some (.int l1), some (.int x13), none] (jle_same (jle_same (jle_same (jle_none (jle_nil _))))) ?_
    exact hX7 _ _ _ _ h
  · have h := h.2 hz
    obtain ⟨g14, g15, g16, g17, h⟩ := h
    refine jLf.bk hc 11 [jA S10 l0 12, ¬ jR S10 l0 33 = none, jA S10 (jr S10 l0 33) 13, vp_in (((9 : Int32) * l1) + l2) (jZ S10 (jr S10 l0 33))] [some (.ref l0), some (.int l1), some (.int l2), some (.int l3)] [.int l3, .int l2, .int (jI S10 (jr S10 l0 33) (((9 : Int32) * l1) + l2).toNatClampNeg), .int (((9 : Int32) * l1) + l2), .ref (jr S10 l0 33)] S10 rfl rfl rfl ⟨g14, g15, g16, g17⟩ ?_
    refine jLf.two hc _ rfl (gs := []) (p1 := l2 = l3) (p2 := ¬ (l2 = l3)) (c1 := (50, [some (.ref l0), some (.int l1), some (.int l2), some (.int l3)], [.int (jI S10 (jr S10 l0 33) (((9 : Int32) * l1) + l2).toNatClampNeg), .int (((9 : Int32) * l1) + l2), .ref (jr S10 l0 33)], S10, 0, 0)) (c2 := (40, [some (.ref l0), some (.int l1), some (.int l2), some (.int l3)], [.int (jI S10 (jr S10 l0 33) (((9 : Int32) * l1) + l2).toNatClampNeg), .int (((9 : Int32) * l1) + l2), .ref (jr S10 l0 33)], S10, 0, 0)) rfl trivial (fun hz => ?_) (fun hz => ?_)
    · have h := h.1 hz
      exact tX12_layOut_50 d hd hX2 hX7 hX24 h
    · have h := h.2 hz
      refine jLf.bk hc 4 [] [some (.ref l0), some (.int l1), some (.int l2), some (.int l3)] [.int l1, .int l3, .int l2, .ref l0, .int (jI S10 (jr S10 l0 33) (((9 : Int32) * l1) + l2).toNatClampNeg), .int (((9 : Int32) * l1) + l2), .ref (jr S10 l0 33)] S10 rfl rfl rfl trivial ?_
      refine jLf.inv hc _ rfl (gs := [jA S10 l0 12, (([.int (jI S10 (jr S10 l0 33) (((9 : Int32) * l1) + l2).toNatClampNeg), .int (((9 : Int32) * l1) + l2), .ref (jr S10 l0 33)] : List Value).map fun v => v.category).sum ≤ 8, 0 ≤ 0, 0 ≤ 0]) (k := 197) (args := [.ref l0, .int l2, .int l3, .int l1]) (r := [.int (jI S10 (jr S10 l0 33) (((9 : Int32) * l1) + l2).toNatClampNeg), .int (((9 : Int32) * l1) + l2), .ref (jr S10 l0 33)]) (a := 0) (b := 0) rfl ⟨g14, Nat.le_of_ble_eq_true rfl, Nat.zero_le _, Nat.zero_le _⟩ (vX12_isBoat d (by omega) h) ?_
      rintro v S22 ⟨r23, rfl, h⟩
      show jLf (jCall jmt jbud d) jbud (fun j => (jmt j).rk) none mX12_layOut (jqV Q) (45, [some (.ref l0), some (.int l1), some (.int l2), some (.int l3)], [.int r23, .int (jI S10 (jr S10 l0 33) (((9 : Int32) * l1) + l2).toNatClampNeg), .int (((9 : Int32) * l1) + l2), .ref (jr S10 l0 33)], S22, 0, 0)
      refine jLf.two hc _ rfl (gs := []) (p1 := r23 = 0) (p2 := ¬ (r23 = 0)) (c1 := (50, [some (.ref l0), some (.int l1), some (.int l2), some (.int l3)], [.int (jI S10 (jr S10 l0 33) (((9 : Int32) * l1) + l2).toNatClampNeg), .int (((9 : Int32) * l1) + l2), .ref (jr S10 l0 33)], S22, 0, 0)) (c2 := (46, [some (.ref l0), some (.int l1), some (.int l2), some (.int l3)], [.int (jI S10 (jr S10 l0 33) (((9 : Int32) * l1) + l2).toNatClampNeg), .int (((9 : Int32) * l1) + l2), .ref (jr S10 l0 33)], S22, 0, 0)) rfl trivial (fun hz => ?_) (fun hz => ?_)
      · have h := h.1 hz
        exact tX12_layOut_50 d hd hX2 hX7 hX24 h
      · have h := h.2 hz
        refine jLf.bk hc 3 [] [some (.ref l0), some (.int l1), some (.int l2), some (.int l3)] [.int ((1 : Int32) <<< (l3 &&& 31)), .int (jI S10 (jr S10 l0 33) (((9 : Int32) * l1) + l2).toNatClampNeg), .int (((9 : Int32) * l1) + l2), .ref (jr S10 l0 33)] S22 rfl rfl rfl trivial ?_
        refine jLf.one hc _ rfl (gs := []) (c := (51, [some (.ref l0), some (.int l1), some (.int l2), some (.int l3)], [.int ((1 : Int32) <<< (l3 &&& 31)), .int (jI S10 (jr S10 l0 33) (((9 : Int32) * l1) + l2).toNatClampNeg), .int (((9 : Int32) * l1) + l2), .ref (jr S10 l0 33)], S22, 0, 0)) rfl trivial ?_
        exact tX12_layOut_51 d hd hX2 hX7 hX24 h
def wX12_layOut_24  (X2 : Nat → Int32 → JS → Prop) (X7 : Nat → Int32 → Int32 → JS → Prop) (l0 : Nat) (l1 : Int32) (l2 : Int32) (l3 : Int32) (S : JS) (Q : JS → Prop) : Prop :=
  jLoop (fun (X24 : Nat × Int32 × Int32 × Int32 × JS → Prop) q => bX12_layOut_24 X2 X7 (fun l0 l1 l2 l3 S => X24 (l0, l1, l2, l3, S)) q.1 q.2.1 q.2.2.1 q.2.2.2.1 q.2.2.2.2 Q) (l0, l1, l2, l3, S)
set_option maxRecDepth 20000 in
theorem tX12_layOut_24 {Q : JS → Prop} {X2 : Nat → Int32 → JS → Prop} {X7 : Nat → Int32 → Int32 → JS → Prop} (d : Nat) (hd : 5 ≤ d) (hX2 : ∀ l0 l1 S, X2 l0 l1 S → jLf (jCall jmt jbud d) jbud (fun j => (jmt j).rk) none mX12_layOut (jqV Q) (2, [some (.ref l0), some (.int l1), none, none], [], S, 0, 0)) (hX7 : ∀ l0 l1 l2 S, X7 l0 l1 l2 S → jLf (jCall jmt jbud d) jbud (fun j => (jmt j).rk) none mX12_layOut (jqV Q) (7, [some (.ref l0), some (.int l1), some (.int l2), none], [], S, 0, 0)) {l0 : Nat} {l1 : Int32} {l2 : Int32} {l3 : Int32} {S : JS} (h : wX12_layOut_24 X2 X7 l0 l1 l2 l3 S Q) : jLf (jCall jmt jbud d) jbud (fun j => (jmt j).rk) none mX12_layOut (jqV Q) (24, [some (.ref l0), some (.int l1), some (.int l2), some (.int l3)], [], S, 0, 0) := by
  have := h (fun q : Nat × Int32 × Int32 × Int32 × JS => jLf (jCall jmt jbud d) jbud (fun j => (jmt j).rk) none mX12_layOut (jqV Q) (24, [some (.ref (q.1)), some (.int (q.2.1)), some (.int (q.2.2.1)), some (.int (q.2.2.2.1))], [], q.2.2.2.2, 0, 0)) (fun q R hb hR => uX12_layOut_24 d hd hX2 hX7 (fun _ _ _ _ _ => hR _) hb)
  exact this
def bX12_layOut_7  (X2 : Nat → Int32 → JS → Prop) (X7 : Nat → Int32 → Int32 → JS → Prop) (l0 : Nat) (l1 : Int32) (l2 : Int32) (S : JS) (Q : JS → Prop) : Prop :=
  jA S l0 12 ∧ (wX12_rocks l0 S (fun r2 S1 => (r2 ≤ l2 → ∀ x4 : Int32, x4 = (l1 + 1) → (X2 l0 x4 S1)) ∧ (¬ (r2 ≤ l2) → jA S1 l0 12 ∧ (¬ jR S1 l0 33 = none ∧ (jA S1 (jr S1 l0 33) 13 ∧ (vp_in (((9 : Int32) * l1) + l2) (jZ S1 (jr S1 l0 33)) ∧ (∀ S9 : JS, S9 = uI S1 (jr S1 l0 33) (((9 : Int32) * l1) + l2).toNatClampNeg ((1 : Int32) <<< (l2 &&& 31)) → (wX12_layOut_24 X2 X7 l0 l1 l2 0 S9 Q))))))))
set_option maxRecDepth 20000 in
theorem uX12_layOut_7 {Q : JS → Prop} {X2 : Nat → Int32 → JS → Prop} (d : Nat) (hd : 5 ≤ d) (hX2 : ∀ l0 l1 S, X2 l0 l1 S → jLf (jCall jmt jbud d) jbud (fun j => (jmt j).rk) none mX12_layOut (jqV Q) (2, [some (.ref l0), some (.int l1), none, none], [], S, 0, 0)) {X7 : Nat → Int32 → Int32 → JS → Prop} (hX7 : ∀ l0 l1 l2 S, X7 l0 l1 l2 S → jLf (jCall jmt jbud d) jbud (fun j => (jmt j).rk) none mX12_layOut (jqV Q) (7, [some (.ref l0), some (.int l1), some (.int l2), none], [], S, 0, 0)) {l0 : Nat} {l1 : Int32} {l2 : Int32} {S : JS} (h : bX12_layOut_7 X2 X7 l0 l1 l2 S Q) : jLf (jCall jmt jbud d) jbud (fun j => (jmt j).rk) none mX12_layOut (jqV Q) (7, [some (.ref l0), some (.int l1), some (.int l2), none], [], S, 0, 0) := by
  have hc := jCall_mono jmt jbud d
  unfold bX12_layOut_7 at h
  refine jLf.bk hc 2 [] [some (.ref l0), some (.int l1), some (.int l2), none] [.ref l0, .int l2] S rfl rfl rfl trivial ?_
  obtain ⟨g3, h⟩ := h
  refine jLf.inv hc _ rfl (gs := [jA S l0 12, (([.int l2] : List Value).map fun v => v.category).sum ≤ 8, 0 ≤ 0, 0 ≤ 0]) (k := 154) (args := [.ref l0]) (r := [.int l2]) (a := 0) (b := 0) rfl ⟨g3, Nat.le_of_ble_eq_true rfl, Nat.zero_le _, Nat.zero_le _⟩ (vX12_rocks d (by omega) h) ?_
  rintro v S1 ⟨r2, rfl, h⟩
  show jLf (jCall jmt jbud d) jbud (fun j => (jmt j).rk) none mX12_layOut (jqV Q) (10, [some (.ref l0), some (.int l1), some (.int l2), none], [.int r2, .int l2], S1, 0, 0)
  refine jLf.two hc _ rfl (gs := []) (p1 := r2 ≤ l2) (p2 := ¬ (r2 ≤ l2)) (c1 := (57, [some (.ref l0), some (.int l1), some (.int l2), none], [], S1, 0, 0)) (c2 := (11, [some (.ref l0), some (.int l1), some (.int l2), none], [], S1, 0, 0)) rfl trivial (fun hz => ?_) (fun hz => ?_)
  · have h := h.1 hz
    refine jLf.bk hc 1 [] [some (.ref l0), some (.int (l1 + 1)), some (.int l2), none] [] S1 rfl rfl rfl trivial ?_
    generalize ex4 : (l1 + 1 : Int32) = x4
    have h := h x4 ex4.symm
    refine jLf.one hc _ rfl (gs := []) (c := (2, [some (.ref l0), some (.int x4), some (.int l2), none], [], S1, 0, 0)) rfl trivial ?_
    refine jLf.sub [some (.ref l0), some (.int x4), none, none] (jle_same (jle_same (jle_none (jle_same (jle_nil _))))) ?_
    exact hX2 _ _ _ h
  · have h := h.2 hz
    obtain ⟨g5, g6, g7, g8, h⟩ := h
    refine jLf.bk hc 11 [jA S1 l0 12, ¬ jR S1 l0 33 = none, jA S1 (jr S1 l0 33) 13, vp_in (((9 : Int32) * l1) + l2) (jZ S1 (jr S1 l0 33))] [some (.ref l0), some (.int l1), some (.int l2), none] [] (uI S1 (jr S1 l0 33) (((9 : Int32) * l1) + l2).toNatClampNeg ((1 : Int32) <<< (l2 &&& 31))) rfl rfl rfl ⟨g5, g6, g7, g8⟩ ?_
    generalize eS9 : uI S1 (jr S1 l0 33) (((9 : Int32) * l1) + l2).toNatClampNeg ((1 : Int32) <<< (l2 &&& 31)) = S9
    have h := h S9 eS9.symm
    refine jLf.bk hc 2 [] [some (.ref l0), some (.int l1), some (.int l2), some (.int 0)] [] S9 rfl rfl rfl trivial ?_
    exact tX12_layOut_24 d hd hX2 hX7 h
def wX12_layOut_7  (X2 : Nat → Int32 → JS → Prop) (l0 : Nat) (l1 : Int32) (l2 : Int32) (S : JS) (Q : JS → Prop) : Prop :=
  jLoop (fun (X7 : Nat × Int32 × Int32 × JS → Prop) q => bX12_layOut_7 X2 (fun l0 l1 l2 S => X7 (l0, l1, l2, S)) q.1 q.2.1 q.2.2.1 q.2.2.2 Q) (l0, l1, l2, S)
set_option maxRecDepth 20000 in
theorem tX12_layOut_7 {Q : JS → Prop} {X2 : Nat → Int32 → JS → Prop} (d : Nat) (hd : 5 ≤ d) (hX2 : ∀ l0 l1 S, X2 l0 l1 S → jLf (jCall jmt jbud d) jbud (fun j => (jmt j).rk) none mX12_layOut (jqV Q) (2, [some (.ref l0), some (.int l1), none, none], [], S, 0, 0)) {l0 : Nat} {l1 : Int32} {l2 : Int32} {S : JS} (h : wX12_layOut_7 X2 l0 l1 l2 S Q) : jLf (jCall jmt jbud d) jbud (fun j => (jmt j).rk) none mX12_layOut (jqV Q) (7, [some (.ref l0), some (.int l1), some (.int l2), none], [], S, 0, 0) := by
  have := h (fun q : Nat × Int32 × Int32 × JS => jLf (jCall jmt jbud d) jbud (fun j => (jmt j).rk) none mX12_layOut (jqV Q) (7, [some (.ref (q.1)), some (.int (q.2.1)), some (.int (q.2.2.1)), none], [], q.2.2.2, 0, 0)) (fun q R hb hR => uX12_layOut_7 d hd hX2 (fun _ _ _ _ => hR _) hb)
  exact this
def bX12_layOut_2   (X2 : Nat → Int32 → JS → Prop) (l0 : Nat) (l1 : Int32) (S : JS) (Q : JS → Prop) : Prop :=
  (59 ≤ l1 → Q S) ∧ (¬ (59 ≤ l1) → wX12_layOut_7 X2 l0 l1 0 S Q)
set_option maxRecDepth 20000 in
theorem uX12_layOut_2 {Q : JS → Prop}  (d : Nat) (hd : 5 ≤ d) {X2 : Nat → Int32 → JS → Prop} (hX2 : ∀ l0 l1 S, X2 l0 l1 S → jLf (jCall jmt jbud d) jbud (fun j => (jmt j).rk) none mX12_layOut (jqV Q) (2, [some (.ref l0), some (.int l1), none, none], [], S, 0, 0)) {l0 : Nat} {l1 : Int32} {S : JS} (h : bX12_layOut_2 X2 l0 l1 S Q) : jLf (jCall jmt jbud d) jbud (fun j => (jmt j).rk) none mX12_layOut (jqV Q) (2, [some (.ref l0), some (.int l1), none, none], [], S, 0, 0) := by
  have hc := jCall_mono jmt jbud d
  unfold bX12_layOut_2 at h
  refine jLf.bk hc 2 [] [some (.ref l0), some (.int l1), none, none] [.int 59, .int l1] S rfl rfl rfl trivial ?_
  refine jLf.two hc _ rfl (gs := []) (p1 := 59 ≤ l1) (p2 := ¬ (59 ≤ l1)) (c1 := (59, [some (.ref l0), some (.int l1), none, none], [], S, 0, 0)) (c2 := (5, [some (.ref l0), some (.int l1), none, none], [], S, 0, 0)) rfl trivial (fun hz => ?_) (fun hz => ?_)
  · have h := h.1 hz
    exact jLf.ret hc _ rfl (gs := [jrt none none]) (v := none) rfl trivial ⟨rfl, h⟩
  · have h := h.2 hz
    refine jLf.bk hc 2 [] [some (.ref l0), some (.int l1), some (.int 0), none] [] S rfl rfl rfl trivial ?_
    exact tX12_layOut_7 d hd hX2 h
def wX12_layOut_2   (l0 : Nat) (l1 : Int32) (S : JS) (Q : JS → Prop) : Prop :=
  jLoop (fun (X2 : Nat × Int32 × JS → Prop) q => bX12_layOut_2 (fun l0 l1 S => X2 (l0, l1, S)) q.1 q.2.1 q.2.2 Q) (l0, l1, S)
set_option maxRecDepth 20000 in
theorem tX12_layOut_2 {Q : JS → Prop}  (d : Nat) (hd : 5 ≤ d) {l0 : Nat} {l1 : Int32} {S : JS} (h : wX12_layOut_2 l0 l1 S Q) : jLf (jCall jmt jbud d) jbud (fun j => (jmt j).rk) none mX12_layOut (jqV Q) (2, [some (.ref l0), some (.int l1), none, none], [], S, 0, 0) := by
  have := h (fun q : Nat × Int32 × JS => jLf (jCall jmt jbud d) jbud (fun j => (jmt j).rk) none mX12_layOut (jqV Q) (2, [some (.ref (q.1)), some (.int (q.2.1)), none, none], [], q.2.2, 0, 0)) (fun q R hb hR => uX12_layOut_2 d hd  (fun _ _ _ => hR _) hb)
  exact this
def wX12_layOut  (this : Nat) (S : JS) (Q : JS → Prop) : Prop :=
  wX12_layOut_2 this 0 S Q
set_option maxRecDepth 20000 in
theorem vX12_layOut {Q : JS → Prop} (d : Nat) (hd : 6 ≤ d) {this : Nat} {S : JS} (h : wX12_layOut this S Q) : jCall jmt jbud d 210 [.ref this] S (jqV Q) := by
  obtain ⟨d, rfl⟩ : ∃ d2, d = d2 + 1 := ⟨d - 1, by omega⟩
  have hd : 5 ≤ d := by omega
  have hc := jCall_mono jmt jbud d
  unfold wX12_layOut at h
  refine ⟨Nat.le_of_ble_eq_true rfl, ?_⟩
  show jLf (jCall jmt jbud d) jbud (fun j => (jmt j).rk) none mX12_layOut (jqV Q) (0, [some (.ref this), none, none, none], [], S, 0, 0)
  refine jLf.bk hc 2 [] [some (.ref this), some (.int 0), none, none] [] S rfl rfl rfl trivial ?_
  exact tX12_layOut_2 d hd  h
def wX12_liesAt_49  (X4 : Nat → Int32 → Int32 → Int32 → Int32 → JS → Prop) (l0 : Nat) (l1 : Int32) (l2 : Int32) (l4 : Int32) (s0 : Int32) (s1 : Int32) (S : JS) (Q : Int32 → JS → Prop) : Prop :=
  ∀ x7 : Int32, x7 = (s1 + s0) → (∀ x8 : Int32, x8 = (l4 + 1) → (X4 l0 l1 l2 x7 x8 S))
set_option maxRecDepth 20000 in
theorem tX12_liesAt_49 {Q : Int32 → JS → Prop} {X4 : Nat → Int32 → Int32 → Int32 → Int32 → JS → Prop} (d : Nat) (hd : 0 ≤ d) (hX4 : ∀ l0 l1 l2 l3 l4 S, X4 l0 l1 l2 l3 l4 S → jLf (jCall jmt jbud d) jbud (fun j => (jmt j).rk) none mX12_liesAt (jqI Q) (4, [some (.ref l0), some (.int l1), some (.int l2), some (.int l3), some (.int l4), none], [], S, 0, 0)) {l0 : Nat} {l1 : Int32} {l2 : Int32} {l4 : Int32} {s0 : Int32} {s1 : Int32} {S : JS} (h : wX12_liesAt_49 X4 l0 l1 l2 l4 s0 s1 S Q) : jLf (jCall jmt jbud d) jbud (fun j => (jmt j).rk) none mX12_liesAt (jqI Q) (49, [some (.ref l0), some (.int l1), some (.int l2), none, some (.int l4), none], [.int s0, .int s1], S, 0, 0) := by
  have hc := jCall_mono jmt jbud d
  unfold wX12_liesAt_49 at h
  refine jLf.bk hc 2 [] [some (.ref l0), some (.int l1), some (.int l2), some (.int (s1 + s0)), some (.int l4), none] [] S rfl rfl rfl trivial ?_
  generalize ex7 : (s1 + s0 : Int32) = x7
  have h := h x7 ex7.symm
  refine jLf.bk hc 1 [] [some (.ref l0), some (.int l1), some (.int l2), some (.int x7), some (.int (l4 + 1)), none] [] S rfl rfl rfl trivial ?_
  generalize ex8 : (l4 + 1 : Int32) = x8
  have h := h x8 ex8.symm
  refine jLf.one hc _ rfl (gs := []) (c := (4, [some (.ref l0), some (.int l1), some (.int l2), some (.int x7), some (.int x8), none], [], S, 0, 0)) rfl trivial ?_
  exact hX4 _ _ _ _ _ _ h
def wX12_liesAt_48  (X4 : Nat → Int32 → Int32 → Int32 → Int32 → JS → Prop) (l0 : Nat) (l1 : Int32) (l2 : Int32) (l4 : Int32) (s0 : Int32) (S : JS) (Q : Int32 → JS → Prop) : Prop :=
  wX12_liesAt_49 X4 l0 l1 l2 l4 0 s0 S Q
set_option maxRecDepth 20000 in
theorem tX12_liesAt_48 {Q : Int32 → JS → Prop} {X4 : Nat → Int32 → Int32 → Int32 → Int32 → JS → Prop} (d : Nat) (hd : 0 ≤ d) (hX4 : ∀ l0 l1 l2 l3 l4 S, X4 l0 l1 l2 l3 l4 S → jLf (jCall jmt jbud d) jbud (fun j => (jmt j).rk) none mX12_liesAt (jqI Q) (4, [some (.ref l0), some (.int l1), some (.int l2), some (.int l3), some (.int l4), none], [], S, 0, 0)) {l0 : Nat} {l1 : Int32} {l2 : Int32} {l4 : Int32} {s0 : Int32} {S : JS} (h : wX12_liesAt_48 X4 l0 l1 l2 l4 s0 S Q) : jLf (jCall jmt jbud d) jbud (fun j => (jmt j).rk) none mX12_liesAt (jqI Q) (48, [some (.ref l0), some (.int l1), some (.int l2), none, some (.int l4), none], [.int s0], S, 0, 0) := by
  have hc := jCall_mono jmt jbud d
  unfold wX12_liesAt_48 at h
  refine jLf.bk hc 1 [] [some (.ref l0), some (.int l1), some (.int l2), none, some (.int l4), none] [.int 0, .int s0] S rfl rfl rfl trivial ?_
  exact tX12_liesAt_49 d hd hX4 h
def wX12_liesAt_45  (X4 : Nat → Int32 → Int32 → Int32 → Int32 → JS → Prop) (l0 : Nat) (l1 : Int32) (l2 : Int32) (l4 : Int32) (s0 : Int32) (s1 : Int32) (s2 : Int32) (S : JS) (Q : Int32 → JS → Prop) : Prop :=
  (s1 = s0 → wX12_liesAt_48 X4 l0 l1 l2 l4 s2 S Q) ∧ (¬ s1 = s0 → wX12_liesAt_49 X4 l0 l1 l2 l4 1 s2 S Q)
set_option maxRecDepth 20000 in
theorem tX12_liesAt_45 {Q : Int32 → JS → Prop} {X4 : Nat → Int32 → Int32 → Int32 → Int32 → JS → Prop} (d : Nat) (hd : 0 ≤ d) (hX4 : ∀ l0 l1 l2 l3 l4 S, X4 l0 l1 l2 l3 l4 S → jLf (jCall jmt jbud d) jbud (fun j => (jmt j).rk) none mX12_liesAt (jqI Q) (4, [some (.ref l0), some (.int l1), some (.int l2), some (.int l3), some (.int l4), none], [], S, 0, 0)) {l0 : Nat} {l1 : Int32} {l2 : Int32} {l4 : Int32} {s0 : Int32} {s1 : Int32} {s2 : Int32} {S : JS} (h : wX12_liesAt_45 X4 l0 l1 l2 l4 s0 s1 s2 S Q) : jLf (jCall jmt jbud d) jbud (fun j => (jmt j).rk) none mX12_liesAt (jqI Q) (45, [some (.ref l0), some (.int l1), some (.int l2), none, some (.int l4), none], [.int s0, .int s1, .int s2], S, 0, 0) := by
  have hc := jCall_mono jmt jbud d
  unfold wX12_liesAt_45 at h
  refine jLf.two hc _ rfl (gs := []) (p1 := s1 = s0) (p2 := ¬ (s1 = s0)) (c1 := (48, [some (.ref l0), some (.int l1), some (.int l2), none, some (.int l4), none], [.int s2], S, 0, 0)) (c2 := (46, [some (.ref l0), some (.int l1), some (.int l2), none, some (.int l4), none], [.int s2], S, 0, 0)) rfl trivial (fun hz => ?_) (fun hz => ?_)
  · have h := h.1 hz
    exact tX12_liesAt_48 d hd hX4 h
  · have h := h.2 hz
    refine jLf.bk hc 1 [] [some (.ref l0), some (.int l1), some (.int l2), none, some (.int l4), none] [.int 1, .int s2] S rfl rfl rfl trivial ?_
    refine jLf.one hc _ rfl (gs := []) (c := (49, [some (.ref l0), some (.int l1), some (.int l2), none, some (.int l4), none], [.int 1, .int s2], S, 0, 0)) rfl trivial ?_
    exact tX12_liesAt_49 d hd hX4 h
def wX12_liesAt_34  (X4 : Nat → Int32 → Int32 → Int32 → Int32 → JS → Prop) (l0 : Nat) (l1 : Int32) (l2 : Int32) (l4 : Int32) (l5 : Int32) (s0 : Int32) (s1 : Int32) (S : JS) (Q : Int32 → JS → Prop) : Prop :=
  jA S l0 12 ∧ (¬ jR S l0 3 = none ∧ (jA S (jr S l0 3) 13 ∧ (vp_in (l5 + (2 : Int32)) (jZ S (jr S l0 3)) ∧ ((¬ (jI S (jr S l0 3) (l5 + (2 : Int32)).toNatClampNeg) = 1 → wX12_liesAt_45 X4 l0 l1 l2 l4 0 s0 s1 S Q) ∧ ((jI S (jr S l0 3) (l5 + (2 : Int32)).toNatClampNeg) = 1 → wX12_liesAt_45 X4 l0 l1 l2 l4 1 s0 s1 S Q)))))
set_option maxRecDepth 20000 in
theorem tX12_liesAt_34 {Q : Int32 → JS → Prop} {X4 : Nat → Int32 → Int32 → Int32 → Int32 → JS → Prop} (d : Nat) (hd : 0 ≤ d) (hX4 : ∀ l0 l1 l2 l3 l4 S, X4 l0 l1 l2 l3 l4 S → jLf (jCall jmt jbud d) jbud (fun j => (jmt j).rk) none mX12_liesAt (jqI Q) (4, [some (.ref l0), some (.int l1), some (.int l2), some (.int l3), some (.int l4), none], [], S, 0, 0)) {l0 : Nat} {l1 : Int32} {l2 : Int32} {l4 : Int32} {l5 : Int32} {s0 : Int32} {s1 : Int32} {S : JS} (h : wX12_liesAt_34 X4 l0 l1 l2 l4 l5 s0 s1 S Q) : jLf (jCall jmt jbud d) jbud (fun j => (jmt j).rk) none mX12_liesAt (jqI Q) (34, [some (.ref l0), some (.int l1), some (.int l2), none, some (.int l4), some (.int l5)], [.int s0, .int s1], S, 0, 0) := by
  have hc := jCall_mono jmt jbud d
  unfold wX12_liesAt_34 at h
  obtain ⟨g10, g11, g12, g13, h⟩ := h
  refine jLf.bk hc 7 [jA S l0 12, ¬ jR S l0 3 = none, jA S (jr S l0 3) 13, vp_in (l5 + (2 : Int32)) (jZ S (jr S l0 3))] [some (.ref l0), some (.int l1), some (.int l2), none, some (.int l4), some (.int l5)] [.int 1, .int (jI S (jr S l0 3) (l5 + (2 : Int32)).toNatClampNeg), .int s0, .int s1] S rfl rfl rfl ⟨g10, g11, g12, g13⟩ ?_
  refine jLf.two hc _ rfl (gs := []) (p1 := ¬ (jI S (jr S l0 3) (l5 + (2 : Int32)).toNatClampNeg) = 1) (p2 := ¬ (¬ (jI S (jr S l0 3) (l5 + (2 : Int32)).toNatClampNeg) = 1)) (c1 := (44, [some (.ref l0), some (.int l1), some (.int l2), none, some (.int l4), some (.int l5)], [.int s0, .int s1], S, 0, 0)) (c2 := (42, [some (.ref l0), some (.int l1), some (.int l2), none, some (.int l4), some (.int l5)], [.int s0, .int s1], S, 0, 0)) rfl trivial (fun hz => ?_) (fun hz => ?_)
  · have h := h.1 hz
    refine jLf.bk hc 1 [] [some (.ref l0), some (.int l1), some (.int l2), none, some (.int l4), some (.int l5)] [.int 0, .int s0, .int s1] S rfl rfl rfl trivial ?_
    refine jLf.sub [some (.ref l0), some (.int l1), some (.int l2), none, some (.int l4), none] (jle_same (jle_same (jle_same (jle_same (jle_same (jle_none (jle_nil _))))))) ?_
    exact tX12_liesAt_45 d hd hX4 h
  · have h := h.2 (Classical.not_not.mp hz)
    refine jLf.bk hc 1 [] [some (.ref l0), some (.int l1), some (.int l2), none, some (.int l4), some (.int l5)] [.int 1, .int s0, .int s1] S rfl rfl rfl trivial ?_
    refine jLf.one hc _ rfl (gs := []) (c := (45, [some (.ref l0), some (.int l1), some (.int l2), none, some (.int l4), some (.int l5)], [.int 1, .int s0, .int s1], S, 0, 0)) rfl trivial ?_
    refine jLf.sub [some (.ref l0), some (.int l1), some (.int l2), none, some (.int l4), none] (jle_same (jle_same (jle_same (jle_same (jle_same (jle_none (jle_nil _))))))) ?_
    exact tX12_liesAt_45 d hd hX4 h
def bX12_liesAt_4   (X4 : Nat → Int32 → Int32 → Int32 → Int32 → JS → Prop) (l0 : Nat) (l1 : Int32) (l2 : Int32) (l3 : Int32) (l4 : Int32) (S : JS) (Q : Int32 → JS → Prop) : Prop :=
  jA S l0 12 ∧ (¬ jR S l0 3 = none ∧ (jA S (jr S l0 3) 13 ∧ (vp_in (6 : Int32) (jZ S (jr S l0 3)) ∧ (((jI S (jr S l0 3) (6 : Int32).toNatClampNeg) ≤ l4 → Q l3 S) ∧ (¬ ((jI S (jr S l0 3) (6 : Int32).toNatClampNeg) ≤ l4) → ∀ x5 : Int32, x5 = ((140 : Int32) + ((3 : Int32) * l4)) → (vp_in (x5 + (1 : Int32)) (jZ S (jr S l0 3)) ∧ ((¬ (jI S (jr S l0 3) (x5 + (1 : Int32)).toNatClampNeg) = l1 → wX12_liesAt_48 X4 l0 l1 l2 l4 l3 S Q) ∧ ((jI S (jr S l0 3) (x5 + (1 : Int32)).toNatClampNeg) = l1 → vp_in x5 (jZ S (jr S l0 3)) ∧ ((¬ (jI S (jr S l0 3) x5.toNatClampNeg) = l2 → wX12_liesAt_34 X4 l0 l1 l2 l4 x5 0 l3 S Q) ∧ ((jI S (jr S l0 3) x5.toNatClampNeg) = l2 → wX12_liesAt_34 X4 l0 l1 l2 l4 x5 1 l3 S Q))))))))))
set_option maxRecDepth 20000 in
theorem uX12_liesAt_4 {Q : Int32 → JS → Prop}  (d : Nat) (hd : 0 ≤ d) {X4 : Nat → Int32 → Int32 → Int32 → Int32 → JS → Prop} (hX4 : ∀ l0 l1 l2 l3 l4 S, X4 l0 l1 l2 l3 l4 S → jLf (jCall jmt jbud d) jbud (fun j => (jmt j).rk) none mX12_liesAt (jqI Q) (4, [some (.ref l0), some (.int l1), some (.int l2), some (.int l3), some (.int l4), none], [], S, 0, 0)) {l0 : Nat} {l1 : Int32} {l2 : Int32} {l3 : Int32} {l4 : Int32} {S : JS} (h : bX12_liesAt_4 X4 l0 l1 l2 l3 l4 S Q) : jLf (jCall jmt jbud d) jbud (fun j => (jmt j).rk) none mX12_liesAt (jqI Q) (4, [some (.ref l0), some (.int l1), some (.int l2), some (.int l3), some (.int l4), none], [], S, 0, 0) := by
  have hc := jCall_mono jmt jbud d
  unfold bX12_liesAt_4 at h
  obtain ⟨g1, g2, g3, g4, h⟩ := h
  refine jLf.bk hc 5 [jA S l0 12, ¬ jR S l0 3 = none, jA S (jr S l0 3) 13, vp_in (6 : Int32) (jZ S (jr S l0 3))] [some (.ref l0), some (.int l1), some (.int l2), some (.int l3), some (.int l4), none] [.int (jI S (jr S l0 3) (6 : Int32).toNatClampNeg), .int l4] S rfl rfl rfl ⟨g1, g2, g3, g4⟩ ?_
  refine jLf.two hc _ rfl (gs := []) (p1 := (jI S (jr S l0 3) (6 : Int32).toNatClampNeg) ≤ l4) (p2 := ¬ ((jI S (jr S l0 3) (6 : Int32).toNatClampNeg) ≤ l4)) (c1 := (53, [some (.ref l0), some (.int l1), some (.int l2), some (.int l3), some (.int l4), none], [], S, 0, 0)) (c2 := (10, [some (.ref l0), some (.int l1), some (.int l2), some (.int l3), some (.int l4), none], [], S, 0, 0)) rfl trivial (fun hz => ?_) (fun hz => ?_)
  · have h := h.1 hz
    refine jLf.bk hc 1 [] [some (.ref l0), some (.int l1), some (.int l2), some (.int l3), some (.int l4), none] [.int l3] S rfl rfl rfl trivial ?_
    exact jLf.ret hc _ rfl (gs := [True]) (v := some (.int l3)) rfl trivial ⟨l3, rfl, h⟩
  · have h := h.2 hz
    refine jLf.bk hc 6 [] [some (.ref l0), some (.int l1), some (.int l2), some (.int l3), some (.int l4), some (.int ((140 : Int32) + ((3 : Int32) * l4)))] [] S rfl rfl rfl trivial ?_
    generalize ex5 : ((140 : Int32) + ((3 : Int32) * l4) : Int32) = x5
    have h := h x5 ex5.symm
    obtain ⟨g6, h⟩ := h
    refine jLf.bk hc 8 [jA S l0 12, ¬ jR S l0 3 = none, jA S (jr S l0 3) 13, vp_in (x5 + (1 : Int32)) (jZ S (jr S l0 3))] [some (.ref l0), some (.int l1), some (.int l2), some (.int l3), some (.int l4), some (.int x5)] [.int l1, .int (jI S (jr S l0 3) (x5 + (1 : Int32)).toNatClampNeg), .int l3] S rfl rfl rfl ⟨g1, g2, g3, g6⟩ ?_
    refine jLf.two hc _ rfl (gs := []) (p1 := ¬ (jI S (jr S l0 3) (x5 + (1 : Int32)).toNatClampNeg) = l1) (p2 := ¬ (¬ (jI S (jr S l0 3) (x5 + (1 : Int32)).toNatClampNeg) = l1)) (c1 := (48, [some (.ref l0), some (.int l1), some (.int l2), some (.int l3), some (.int l4), some (.int x5)], [.int l3], S, 0, 0)) (c2 := (25, [some (.ref l0), some (.int l1), some (.int l2), some (.int l3), some (.int l4), some (.int x5)], [.int l3], S, 0, 0)) rfl trivial (fun hz => ?_) (fun hz => ?_)
    · have h := h.1 hz
      refine jLf.sub [some (.ref l0), some (.int l1), some (.int l2), none, some (.int l4), none] (jle_same (jle_same (jle_same (jle_none (jle_same (jle_none (jle_nil _))))))) ?_
      exact tX12_liesAt_48 d hd hX4 h
    · have h := h.2 (Classical.not_not.mp hz)
      obtain ⟨g9, h⟩ := h
      refine jLf.bk hc 5 [jA S l0 12, ¬ jR S l0 3 = none, jA S (jr S l0 3) 13, vp_in x5 (jZ S (jr S l0 3))] [some (.ref l0), some (.int l1), some (.int l2), some (.int l3), some (.int l4), some (.int x5)] [.int l2, .int (jI S (jr S l0 3) x5.toNatClampNeg), .int l3] S rfl rfl rfl ⟨g1, g2, g3, g9⟩ ?_
      refine jLf.two hc _ rfl (gs := []) (p1 := ¬ (jI S (jr S l0 3) x5.toNatClampNeg) = l2) (p2 := ¬ (¬ (jI S (jr S l0 3) x5.toNatClampNeg) = l2)) (c1 := (33, [some (.ref l0), some (.int l1), some (.int l2), some (.int l3), some (.int l4), some (.int x5)], [.int l3], S, 0, 0)) (c2 := (31, [some (.ref l0), some (.int l1), some (.int l2), some (.int l3), some (.int l4), some (.int x5)], [.int l3], S, 0, 0)) rfl trivial (fun hz => ?_) (fun hz => ?_)
      · have h := h.1 hz
        refine jLf.bk hc 1 [] [some (.ref l0), some (.int l1), some (.int l2), some (.int l3), some (.int l4), some (.int x5)] [.int 0, .int l3] S rfl rfl rfl trivial ?_
        refine jLf.sub [some (.ref l0), some (.int l1), some (.int l2), none, some (.int l4), some (.int x5)] (jle_same (jle_same (jle_same (jle_none (jle_same (jle_same (jle_nil _))))))) ?_
        exact tX12_liesAt_34 d hd hX4 h
      · have h := h.2 (Classical.not_not.mp hz)
        refine jLf.bk hc 1 [] [some (.ref l0), some (.int l1), some (.int l2), some (.int l3), some (.int l4), some (.int x5)] [.int 1, .int l3] S rfl rfl rfl trivial ?_
        refine jLf.one hc _ rfl (gs := []) (c := (34, [some (.ref l0), some (.int l1), some (.int l2), some (.int l3), some (.int l4), some (.int x5)], [.int 1, .int l3], S, 0, 0)) rfl trivial ?_
        refine jLf.sub [some (.ref l0), some (.int l1), some (.int l2), none, some (.int l4), some (.int x5)] (jle_same (jle_same (jle_same (jle_none (jle_same (jle_same (jle_nil _))))))) ?_
        exact tX12_liesAt_34 d hd hX4 h
def wX12_liesAt_4   (l0 : Nat) (l1 : Int32) (l2 : Int32) (l3 : Int32) (l4 : Int32) (S : JS) (Q : Int32 → JS → Prop) : Prop :=
  jLoop (fun (X4 : Nat × Int32 × Int32 × Int32 × Int32 × JS → Prop) q => bX12_liesAt_4 (fun l0 l1 l2 l3 l4 S => X4 (l0, l1, l2, l3, l4, S)) q.1 q.2.1 q.2.2.1 q.2.2.2.1 q.2.2.2.2.1 q.2.2.2.2.2 Q) (l0, l1, l2, l3, l4, S)
set_option maxRecDepth 20000 in
theorem tX12_liesAt_4 {Q : Int32 → JS → Prop}  (d : Nat) (hd : 0 ≤ d) {l0 : Nat} {l1 : Int32} {l2 : Int32} {l3 : Int32} {l4 : Int32} {S : JS} (h : wX12_liesAt_4 l0 l1 l2 l3 l4 S Q) : jLf (jCall jmt jbud d) jbud (fun j => (jmt j).rk) none mX12_liesAt (jqI Q) (4, [some (.ref l0), some (.int l1), some (.int l2), some (.int l3), some (.int l4), none], [], S, 0, 0) := by
  have := h (fun q : Nat × Int32 × Int32 × Int32 × Int32 × JS => jLf (jCall jmt jbud d) jbud (fun j => (jmt j).rk) none mX12_liesAt (jqI Q) (4, [some (.ref (q.1)), some (.int (q.2.1)), some (.int (q.2.2.1)), some (.int (q.2.2.2.1)), some (.int (q.2.2.2.2.1)), none], [], q.2.2.2.2.2, 0, 0)) (fun q R hb hR => uX12_liesAt_4 d hd  (fun _ _ _ _ _ _ => hR _) hb)
  exact this
def wX12_liesAt  (this : Nat) (p1 : Int32) (p2 : Int32) (S : JS) (Q : Int32 → JS → Prop) : Prop :=
  wX12_liesAt_4 this p1 p2 0 0 S Q
set_option maxRecDepth 20000 in
theorem vX12_liesAt {Q : Int32 → JS → Prop} (d : Nat) (hd : 1 ≤ d) {this : Nat} {p1 : Int32} {p2 : Int32} {S : JS} (h : wX12_liesAt this p1 p2 S Q) : jCall jmt jbud d 211 [.ref this, .int p1, .int p2] S (jqI Q) := by
  obtain ⟨d, rfl⟩ : ∃ d2, d = d2 + 1 := ⟨d - 1, by omega⟩
  have hd : 0 ≤ d := by omega
  have hc := jCall_mono jmt jbud d
  unfold wX12_liesAt at h
  refine ⟨Nat.le_of_ble_eq_true rfl, ?_⟩
  show jLf (jCall jmt jbud d) jbud (fun j => (jmt j).rk) none mX12_liesAt (jqI Q) (0, [some (.ref this), some (.int p1), some (.int p2), none, none, none], [], S, 0, 0)
  refine jLf.bk hc 4 [] [some (.ref this), some (.int p1), some (.int p2), some (.int 0), some (.int 0), none] [] S rfl rfl rfl trivial ?_
  exact tX12_liesAt_4 d hd  h
def wX12_findLies_211  (X89 : Nat → Int32 → JS → Prop) (X93 : Nat → Int32 → Int32 → JS → Prop) (l0 : Nat) (l1 : Int32) (l2 : Int32) (s0 : Int64) (s1 : Int32) (s2 : Nat) (S : JS) (Q : JS → Prop) : Prop :=
  jA S s2 14 ∧ (vp_in s1 (jZ S s2) ∧ (∀ S22 : JS, S22 = uJ S s2 s1.toNatClampNeg s0 → (∀ x23 : Int32, x23 = (l2 + 1) → (X93 l0 l1 x23 S22))))
set_option maxRecDepth 20000 in
theorem tX12_findLies_211 {Q : JS → Prop} {X89 : Nat → Int32 → JS → Prop} {X93 : Nat → Int32 → Int32 → JS → Prop} (d : Nat) (hd : 6 ≤ d) (hX89 : ∀ l0 l1 S, X89 l0 l1 S → jLf (jCall jmt jbud d) jbud (fun j => (jmt j).rk) none mX12_findLies (jqV Q) (89, [some (.ref l0), some (.int l1), none, none, none, none, none, none], [], S, 0, 0)) (hX93 : ∀ l0 l1 l2 S, X93 l0 l1 l2 S → jLf (jCall jmt jbud d) jbud (fun j => (jmt j).rk) none mX12_findLies (jqV Q) (93, [some (.ref l0), some (.int l1), some (.int l2), none, none, none, none, none], [], S, 0, 0)) {l0 : Nat} {l1 : Int32} {l2 : Int32} {s0 : Int64} {s1 : Int32} {s2 : Nat} {S : JS} (h : wX12_findLies_211 X89 X93 l0 l1 l2 s0 s1 s2 S Q) : jLf (jCall jmt jbud d) jbud (fun j => (jmt j).rk) none mX12_findLies (jqV Q) (211, [some (.ref l0), some (.int l1), some (.int l2), none, none, none, none, none], [.long s0, .int s1, .ref s2], S, 0, 0) := by
  have hc := jCall_mono jmt jbud d
  unfold wX12_findLies_211 at h
  obtain ⟨g20, g21, h⟩ := h
  refine jLf.bk hc 1 [jA S s2 14, vp_in s1 (jZ S s2)] [some (.ref l0), some (.int l1), some (.int l2), none, none, none, none, none] [] (uJ S s2 s1.toNatClampNeg s0) rfl rfl rfl ⟨g20, g21⟩ ?_
  generalize eS22 : uJ S s2 s1.toNatClampNeg s0 = S22
  have h := h S22 eS22.symm
  refine jLf.bk hc 1 [] [some (.ref l0), some (.int l1), some (.int (l2 + 1)), none, none, none, none, none] [] S22 rfl rfl rfl trivial ?_
  generalize ex23 : (l2 + 1 : Int32) = x23
  have h := h x23 ex23.symm
  refine jLf.one hc _ rfl (gs := []) (c := (93, [some (.ref l0), some (.int l1), some (.int x23), none, none, none, none, none], [], S22, 0, 0)) rfl trivial ?_
  exact hX93 _ _ _ _ h
def wX12_findLies_183  (X89 : Nat → Int32 → JS → Prop) (X93 : Nat → Int32 → Int32 → JS → Prop) (l0 : Nat) (l1 : Int32) (l2 : Int32) (l3 : Int32) (l4 : Int64) (S : JS) (Q : JS → Prop) : Prop :=
  jA S l0 12 ∧ (¬ jR S l0 35 = none ∧ (wX12_liesAt l0 l1 l2 S (fun r14 S13 => jA S13 (jr S l0 35) 13 ∧ (vp_in (((9 : Int32) * l1) + l2) (jZ S13 (jr S l0 35)) ∧ (∀ S17 : JS, S17 = uI S13 (jr S l0 35) (((9 : Int32) * l1) + l2).toNatClampNeg (l3 + r14) → (jA S17 l0 12 ∧ (¬ jR S17 l0 36 = none ∧ (((lg_cmp l4 (1000000000000 : Int64)) ≤ 0 → wX12_findLies_211 X89 X93 l0 l1 l2 l4 (((9 : Int32) * l1) + l2) (jr S17 l0 36) S17 Q) ∧ (¬ ((lg_cmp l4 (1000000000000 : Int64)) ≤ 0) → wX12_findLies_211 X89 X93 l0 l1 l2 1000000000000 (((9 : Int32) * l1) + l2) (jr S17 l0 36) S17 Q)))))))))
set_option maxRecDepth 20000 in
theorem tX12_findLies_183 {Q : JS → Prop} {X89 : Nat → Int32 → JS → Prop} {X93 : Nat → Int32 → Int32 → JS → Prop} (d : Nat) (hd : 6 ≤ d) (hX89 : ∀ l0 l1 S, X89 l0 l1 S → jLf (jCall jmt jbud d) jbud (fun j => (jmt j).rk) none mX12_findLies (jqV Q) (89, [some (.ref l0), some (.int l1), none, none, none, none, none, none], [], S, 0, 0)) (hX93 : ∀ l0 l1 l2 S, X93 l0 l1 l2 S → jLf (jCall jmt jbud d) jbud (fun j => (jmt j).rk) none mX12_findLies (jqV Q) (93, [some (.ref l0), some (.int l1), some (.int l2), none, none, none, none, none], [], S, 0, 0)) {l0 : Nat} {l1 : Int32} {l2 : Int32} {l3 : Int32} {l4 : Int64} {S : JS} (h : wX12_findLies_183 X89 X93 l0 l1 l2 l3 l4 S Q) : jLf (jCall jmt jbud d) jbud (fun j => (jmt j).rk) none mX12_findLies (jqV Q) (183, [some (.ref l0), some (.int l1), some (.int l2), some (.int l3), some (.long l4), none, none, none], [], S, 0, 0) := by
  have hc := jCall_mono jmt jbud d
  unfold wX12_findLies_183 at h
  obtain ⟨g11, g12, h⟩ := h
  refine jLf.bk hc 11 [jA S l0 12, ¬ jR S l0 35 = none] [some (.ref l0), some (.int l1), some (.int l2), some (.int l3), some (.long l4), none, none, none] [.int l2, .int l1, .ref l0, .int l3, .int (((9 : Int32) * l1) + l2), .ref (jr S l0 35)] S rfl rfl rfl ⟨g11, g12⟩ ?_
  refine jLf.inv hc _ rfl (gs := [jA S l0 12, (([.int l3, .int (((9 : Int32) * l1) + l2), .ref (jr S l0 35)] : List Value).map fun v => v.category).sum ≤ 8, 0 ≤ 0, 0 ≤ 0]) (k := 211) (args := [.ref l0, .int l1, .int l2]) (r := [.int l3, .int (((9 : Int32) * l1) + l2), .ref (jr S l0 35)]) (a := 0) (b := 0) rfl ⟨g11, Nat.le_of_ble_eq_true rfl, Nat.zero_le _, Nat.zero_le _⟩ (vX12_liesAt d (by omega) h) ?_
  rintro v S13 ⟨r14, rfl, h⟩
  show jLf (jCall jmt jbud d) jbud (fun j => (jmt j).rk) none mX12_findLies (jqV Q) (195, [some (.ref l0), some (.int l1), some (.int l2), some (.int l3), some (.long l4), none, none, none], [.int r14, .int l3, .int (((9 : Int32) * l1) + l2), .ref (jr S l0 35)], S13, 0, 0)
  obtain ⟨g15, g16, h⟩ := h
  refine jLf.bk hc 2 [jA S13 (jr S l0 35) 13, vp_in (((9 : Int32) * l1) + l2) (jZ S13 (jr S l0 35))] [some (.ref l0), some (.int l1), some (.int l2), some (.int l3), some (.long l4), none, none, none] [] (uI S13 (jr S l0 35) (((9 : Int32) * l1) + l2).toNatClampNeg (l3 + r14)) rfl rfl rfl ⟨g15, g16⟩ ?_
  generalize eS17 : uI S13 (jr S l0 35) (((9 : Int32) * l1) + l2).toNatClampNeg (l3 + r14) = S17
  have h := h S17 eS17.symm
  obtain ⟨g18, g19, h⟩ := h
  refine jLf.bk hc 10 [jA S17 l0 12, ¬ jR S17 l0 36 = none] [some (.ref l0), some (.int l1), some (.int l2), some (.int l3), some (.long l4), none, none, none] [.int (lg_cmp l4 (1000000000000 : Int64)), .int (((9 : Int32) * l1) + l2), .ref (jr S17 l0 36)] S17 rfl rfl rfl ⟨g18, g19⟩ ?_
  refine jLf.two hc _ rfl (gs := []) (p1 := (lg_cmp l4 (1000000000000 : Int64)) ≤ 0) (p2 := ¬ ((lg_cmp l4 (1000000000000 : Int64)) ≤ 0)) (c1 := (210, [some (.ref l0), some (.int l1), some (.int l2), some (.int l3), some (.long l4), none, none, none], [.int (((9 : Int32) * l1) + l2), .ref (jr S17 l0 36)], S17, 0, 0)) (c2 := (208, [some (.ref l0), some (.int l1), some (.int l2), some (.int l3), some (.long l4), none, none, none], [.int (((9 : Int32) * l1) + l2), .ref (jr S17 l0 36)], S17, 0, 0)) rfl trivial (fun hz => ?_) (fun hz => ?_)
  · have h := h.1 hz
    refine jLf.bk hc 1 [] [some (.ref l0), some (.int l1), some (.int l2), some (.int l3), some (.long l4), none, none, none] [.long l4, .int (((9 : Int32) * l1) + l2), .ref (jr S17 l0 36)] S17 rfl rfl rfl trivial ?_
    refine jLf.sub [some (.ref l0), some (.int l1), some (.int l2), none, none, none, none, none] (jle_same (jle_same (jle_same (jle_none (jle_none (jle_same (jle_same (jle_same (jle_nil _))))))))) ?_
    exact tX12_findLies_211 d hd hX89 hX93 h
  · have h := h.2 hz
    refine jLf.bk hc 1 [] [some (.ref l0), some (.int l1), some (.int l2), some (.int l3), some (.long l4), none, none, none] [.long 1000000000000, .int (((9 : Int32) * l1) + l2), .ref (jr S17 l0 36)] S17 rfl rfl rfl trivial ?_
    refine jLf.one hc _ rfl (gs := []) (c := (211, [some (.ref l0), some (.int l1), some (.int l2), some (.int l3), some (.long l4), none, none, none], [.long 1000000000000, .int (((9 : Int32) * l1) + l2), .ref (jr S17 l0 36)], S17, 0, 0)) rfl trivial ?_
    refine jLf.sub [some (.ref l0), some (.int l1), some (.int l2), none, none, none, none, none] (jle_same (jle_same (jle_same (jle_none (jle_none (jle_same (jle_same (jle_same (jle_nil _))))))))) ?_
    exact tX12_findLies_211 d hd hX89 hX93 h
def wX12_findLies_181  (X89 : Nat → Int32 → JS → Prop) (X93 : Nat → Int32 → Int32 → JS → Prop) (X113 : Nat → Int32 → Int32 → Int32 → Int64 → Int32 → JS → Prop) (l0 : Nat) (l1 : Int32) (l2 : Int32) (l3 : Int32) (l4 : Int64) (l6 : Int32) (S : JS) (Q : JS → Prop) : Prop :=
  ∀ x30 : Int32, x30 = (l6 + 1) → (X113 l0 l1 l2 l3 l4 x30 S)
set_option maxRecDepth 20000 in
theorem tX12_findLies_181 {Q : JS → Prop} {X89 : Nat → Int32 → JS → Prop} {X93 : Nat → Int32 → Int32 → JS → Prop} {X113 : Nat → Int32 → Int32 → Int32 → Int64 → Int32 → JS → Prop} (d : Nat) (hd : 6 ≤ d) (hX89 : ∀ l0 l1 S, X89 l0 l1 S → jLf (jCall jmt jbud d) jbud (fun j => (jmt j).rk) none mX12_findLies (jqV Q) (89, [some (.ref l0), some (.int l1), none, none, none, none, none, none], [], S, 0, 0)) (hX93 : ∀ l0 l1 l2 S, X93 l0 l1 l2 S → jLf (jCall jmt jbud d) jbud (fun j => (jmt j).rk) none mX12_findLies (jqV Q) (93, [some (.ref l0), some (.int l1), some (.int l2), none, none, none, none, none], [], S, 0, 0)) (hX113 : ∀ l0 l1 l2 l3 l4 l6 S, X113 l0 l1 l2 l3 l4 l6 S → jLf (jCall jmt jbud d) jbud (fun j => (jmt j).rk) none mX12_findLies (jqV Q) (113, [some (.ref l0), some (.int l1), some (.int l2), some (.int l3), some (.long l4), none, some (.int l6), none], [], S, 0, 0)) {l0 : Nat} {l1 : Int32} {l2 : Int32} {l3 : Int32} {l4 : Int64} {l6 : Int32} {S : JS} (h : wX12_findLies_181 X89 X93 X113 l0 l1 l2 l3 l4 l6 S Q) : jLf (jCall jmt jbud d) jbud (fun j => (jmt j).rk) none mX12_findLies (jqV Q) (181, [some (.ref l0), some (.int l1), some (.int l2), some (.int l3), some (.long l4), none, some (.int l6), none], [], S, 0, 0) := by
  have hc := jCall_mono jmt jbud d
  unfold wX12_findLies_181 at h
  refine jLf.bk hc 1 [] [some (.ref l0), some (.int l1), some (.int l2), some (.int l3), some (.long l4), none, some (.int (l6 + 1)), none] [] S rfl rfl rfl trivial ?_
  generalize ex30 : (l6 + 1 : Int32) = x30
  have h := h x30 ex30.symm
  refine jLf.one hc _ rfl (gs := []) (c := (113, [some (.ref l0), some (.int l1), some (.int l2), some (.int l3), some (.long l4), none, some (.int x30), none], [], S, 0, 0)) rfl trivial ?_
  exact hX113 _ _ _ _ _ _ _ h
def wX12_findLies_180  (X89 : Nat → Int32 → JS → Prop) (X93 : Nat → Int32 → Int32 → JS → Prop) (X113 : Nat → Int32 → Int32 → Int32 → Int64 → Int32 → JS → Prop) (l0 : Nat) (l1 : Int32) (l2 : Int32) (l4 : Int64) (l6 : Int32) (s0 : Int32) (S : JS) (Q : JS → Prop) : Prop :=
  wX12_findLies_181 X89 X93 X113 l0 l1 l2 s0 l4 l6 S Q
set_option maxRecDepth 20000 in
theorem tX12_findLies_180 {Q : JS → Prop} {X89 : Nat → Int32 → JS → Prop} {X93 : Nat → Int32 → Int32 → JS → Prop} {X113 : Nat → Int32 → Int32 → Int32 → Int64 → Int32 → JS → Prop} (d : Nat) (hd : 6 ≤ d) (hX89 : ∀ l0 l1 S, X89 l0 l1 S → jLf (jCall jmt jbud d) jbud (fun j => (jmt j).rk) none mX12_findLies (jqV Q) (89, [some (.ref l0), some (.int l1), none, none, none, none, none, none], [], S, 0, 0)) (hX93 : ∀ l0 l1 l2 S, X93 l0 l1 l2 S → jLf (jCall jmt jbud d) jbud (fun j => (jmt j).rk) none mX12_findLies (jqV Q) (93, [some (.ref l0), some (.int l1), some (.int l2), none, none, none, none, none], [], S, 0, 0)) (hX113 : ∀ l0 l1 l2 l3 l4 l6 S, X113 l0 l1 l2 l3 l4 l6 S → jLf (jCall jmt jbud d) jbud (fun j => (jmt j).rk) none mX12_findLies (jqV Q) (113, [some (.ref l0), some (.int l1), some (.int l2), some (.int l3), some (.long l4), none, some (.int l6), none], [], S, 0, 0)) {l0 : Nat} {l1 : Int32} {l2 : Int32} {l4 : Int64} {l6 : Int32} {s0 : Int32} {S : JS} (h : wX12_findLies_180 X89 X93 X113 l0 l1 l2 l4 l6 s0 S Q) : jLf (jCall jmt jbud d) jbud (fun j => (jmt j).rk) none mX12_findLies (jqV Q) (180, [some (.ref l0), some (.int l1), some (.int l2), none, some (.long l4), none, some (.int l6), none], [.int s0], S, 0, 0) := by
  have hc := jCall_mono jmt jbud d
  unfold wX12_findLies_180 at h
  refine jLf.bk hc 1 [] [some (.ref l0), some (.int l1), some (.int l2), some (.int s0), some (.long l4), none, some (.int l6), none] [] S rfl rfl rfl trivial ?_
  exact tX12_findLies_181 d hd hX89 hX93 hX113 h
def wX12_findLies_173  (X89 : Nat → Int32 → JS → Prop) (X93 : Nat → Int32 → Int32 → JS → Prop) (X113 : Nat → Int32 → Int32 → Int32 → Int64 → Int32 → JS → Prop) (l0 : Nat) (l1 : Int32) (l2 : Int32) (l3 : Int32) (l6 : Int32) (l7 : Int32) (s0 : Int64) (S : JS) (Q : JS → Prop) : Prop :=
  (l3 ≤ l7 → wX12_findLies_180 X89 X93 X113 l0 l1 l2 s0 l6 l3 S Q) ∧ (¬ (l3 ≤ l7) → wX12_findLies_180 X89 X93 X113 l0 l1 l2 s0 l6 l7 S Q)
set_option maxRecDepth 20000 in
theorem tX12_findLies_173 {Q : JS → Prop} {X89 : Nat → Int32 → JS → Prop} {X93 : Nat → Int32 → Int32 → JS → Prop} {X113 : Nat → Int32 → Int32 → Int32 → Int64 → Int32 → JS → Prop} (d : Nat) (hd : 6 ≤ d) (hX89 : ∀ l0 l1 S, X89 l0 l1 S → jLf (jCall jmt jbud d) jbud (fun j => (jmt j).rk) none mX12_findLies (jqV Q) (89, [some (.ref l0), some (.int l1), none, none, none, none, none, none], [], S, 0, 0)) (hX93 : ∀ l0 l1 l2 S, X93 l0 l1 l2 S → jLf (jCall jmt jbud d) jbud (fun j => (jmt j).rk) none mX12_findLies (jqV Q) (93, [some (.ref l0), some (.int l1), some (.int l2), none, none, none, none, none], [], S, 0, 0)) (hX113 : ∀ l0 l1 l2 l3 l4 l6 S, X113 l0 l1 l2 l3 l4 l6 S → jLf (jCall jmt jbud d) jbud (fun j => (jmt j).rk) none mX12_findLies (jqV Q) (113, [some (.ref l0), some (.int l1), some (.int l2), some (.int l3), some (.long l4), none, some (.int l6), none], [], S, 0, 0)) {l0 : Nat} {l1 : Int32} {l2 : Int32} {l3 : Int32} {l6 : Int32} {l7 : Int32} {s0 : Int64} {S : JS} (h : wX12_findLies_173 X89 X93 X113 l0 l1 l2 l3 l6 l7 s0 S Q) : jLf (jCall jmt jbud d) jbud (fun j => (jmt j).rk) none mX12_findLies (jqV Q) (173, [some (.ref l0), some (.int l1), some (.int l2), some (.int l3), none, none, some (.int l6), some (.int l7)], [.long s0], S, 0, 0) := by
  have hc := jCall_mono jmt jbud d
  unfold wX12_findLies_173 at h
  refine jLf.bk hc 3 [] [some (.ref l0), some (.int l1), some (.int l2), some (.int l3), some (.long s0), none, some (.int l6), some (.int l7)] [.int l3, .int l7] S rfl rfl rfl trivial ?_
  refine jLf.two hc _ rfl (gs := []) (p1 := l3 ≤ l7) (p2 := ¬ (l3 ≤ l7)) (c1 := (179, [some (.ref l0), some (.int l1), some (.int l2), some (.int l3), some (.long s0), none, some (.int l6), some (.int l7)], [], S, 0, 0)) (c2 := (177, [some (.ref l0), some (.int l1), some (.int l2), some (.int l3), some (.long s0), none, some (.int l6), some (.int l7)], [], S, 0, 0)) rfl trivial (fun hz => ?_) (fun hz => ?_)
  · have h := h.1 hz
    refine jLf.bk hc 1 [] [some (.ref l0), some (.int l1), some (.int l2), some (.int l3), some (.long s0), none, some (.int l6), some (.int l7)] [.int l3] S rfl rfl rfl trivial ?_
    refine jLf.sub [some (.ref l0), some (.int l1), some (.int l2), none, some (.long s0), none, some (.int l6), none] (jle_same (jle_same (jle_same (jle_none (jle_same (jle_same (jle_same (jle_none (jle_nil _))))))))) ?_
    exact tX12_findLies_180 d hd hX89 hX93 hX113 h
  · have h := h.2 hz
    refine jLf.bk hc 1 [] [some (.ref l0), some (.int l1), some (.int l2), some (.int l3), some (.long s0), none, some (.int l6), some (.int l7)] [.int l7] S rfl rfl rfl trivial ?_
    refine jLf.one hc _ rfl (gs := []) (c := (180, [some (.ref l0), some (.int l1), some (.int l2), some (.int l3), some (.long s0), none, some (.int l6), some (.int l7)], [.int l7], S, 0, 0)) rfl trivial ?_
    refine jLf.sub [some (.ref l0), some (.int l1), some (.int l2), none, some (.long s0), none, some (.int l6), none] (jle_same (jle_same (jle_same (jle_none (jle_same (jle_same (jle_same (jle_none (jle_nil _))))))))) ?_
    exact tX12_findLies_180 d hd hX89 hX93 hX113 h
def bX12_findLies_113  (X89 : Nat → Int32 → JS → Prop) (X93 : Nat → Int32 → Int32 → JS → Prop) (X113 : Nat → Int32 → Int32 → Int32 → Int64 → Int32 → JS → Prop) (l0 : Nat) (l1 : Int32) (l2 : Int32) (l3 : Int32) (l4 : Int64) (l6 : Int32) (S : JS) (Q : JS → Prop) : Prop :=
  jA S l0 12 ∧ (wX12_rocks l0 S (fun r9 S8 => (r9 ≤ l6 → wX12_findLies_183 X89 X93 l0 l1 l2 l3 l4 S8 Q) ∧ (¬ (r9 ≤ l6) → (59 ≤ l1 → wX12_findLies_183 X89 X93 l0 l1 l2 l3 l4 S8 Q) ∧ (¬ (59 ≤ l1) → jA S8 l0 12 ∧ (¬ jR S8 l0 33 = none ∧ (jA S8 (jr S8 l0 33) 13 ∧ (vp_in (((9 : Int32) * l1) + l2) (jZ S8 (jr S8 l0 33)) ∧ (wX12_is (jI S8 (jr S8 l0 33) (((9 : Int32) * l1) + l2).toNatClampNeg) l6 S8 (fun r29 S28 => (r29 = 0 → wX12_findLies_181 X89 X93 X113 l0 l1 l2 l3 l4 l6 S28 Q) ∧ (¬ r29 = 0 → jA S28 l0 12 ∧ (¬ jR S28 l0 35 = none ∧ (jA S28 (jr S28 l0 35) 13 ∧ (vp_in ((((9 : Int32) * l1) + (9 : Int32)) + l6) (jZ S28 (jr S28 l0 35)) ∧ (∀ x35 : Int32, x35 = (jI S28 (jr S28 l0 35) ((((9 : Int32) * l1) + (9 : Int32)) + l6).toNatClampNeg) → ((l3 ≤ x35 → (¬ x35 = l3 → wX12_findLies_173 X89 X93 X113 l0 l1 l2 l3 l6 x35 l4 S28 Q) ∧ (x35 = l3 → ¬ jR S28 l0 36 = none ∧ (jA S28 (jr S28 l0 36) 14 ∧ (vp_in ((((9 : Int32) * l1) + (9 : Int32)) + l6) (jZ S28 (jr S28 l0 36)) ∧ (wX12_findLies_173 X89 X93 X113 l0 l1 l2 l3 l6 x35 (l4 + (jJ S28 (jr S28 l0 36) ((((9 : Int32) * l1) + (9 : Int32)) + l6).toNatClampNeg)) S28 Q))))) ∧ (¬ (l3 ≤ x35) → ¬ jR S28 l0 36 = none ∧ (jA S28 (jr S28 l0 36) 14 ∧ (vp_in ((((9 : Int32) * l1) + (9 : Int32)) + l6) (jZ S28 (jr S28 l0 36)) ∧ (wX12_findLies_173 X89 X93 X113 l0 l1 l2 l3 l6 x35 (jJ S28 (jr S28 l0 36) ((((9 : Int32) * l1) + (9 : Int32)) + l6).toNatClampNeg) S28 Q)))))))))))))))))))
set_option maxRecDepth 20000 in
theorem uX12_findLies_113 {Q : JS → Prop} {X89 : Nat → Int32 → JS → Prop} {X93 : Nat → Int32 → Int32 → JS → Prop} (d : Nat) (hd : 6 ≤ d) (hX89 : ∀ l0 l1 S, X89 l0 l1 S → jLf (jCall jmt jbud d) jbud (fun j => (jmt j).rk) none mX12_findLies (jqV Q) (89, [some (.ref l0), some (.int l1), none, none, none, none, none, none], [], S, 0, 0)) (hX93 : ∀ l0 l1 l2 S, X93 l0 l1 l2 S → jLf (jCall jmt jbud d) jbud (fun j => (jmt j).rk) none mX12_findLies (jqV Q) (93, [some (.ref l0), some (.int l1), some (.int l2), none, none, none, none, none], [], S, 0, 0)) {X113 : Nat → Int32 → Int32 → Int32 → Int64 → Int32 → JS → Prop} (hX113 : ∀ l0 l1 l2 l3 l4 l6 S, X113 l0 l1 l2 l3 l4 l6 S → jLf (jCall jmt jbud d) jbud (fun j => (jmt j).rk) none mX12_findLies (jqV Q) (113, [some (.ref l0), some (.int l1), some (.int l2), some (.int l3), some (.long l4), none, some (.int l6), none], [], S, 0, 0)) {l0 : Nat} {l1 : Int32} {l2 : Int32} {l3 : Int32} {l4 : Int64} {l6 : Int32} {S : JS} (h : bX12_findLies_113 X89 X93 X113 l0 l1 l2 l3 l4 l6 S Q) : jLf (jCall jmt jbud d) jbud (fun j => (jmt j).rk) none mX12_findLies (jqV Q) (113, [some (.ref l0), some (.int l1), some (.int l2), some (.int l3), some (.long l4), none, some (.int l6), none], [], S, 0, 0) := by
  have hc := jCall_mono jmt jbud d
  unfold bX12_findLies_113 at h
  refine jLf.bk hc 2 [] [some (.ref l0), some (.int l1), some (.int l2), some (.int l3), some (.long l4), none, some (.int l6), none] [.ref l0, .int l6] S rfl rfl rfl trivial ?_
  obtain ⟨g10, h⟩ := h
  refine jLf.inv hc _ rfl (gs := [jA S l0 12, (([.int l6] : List Value).map fun v => v.category).sum ≤ 8, 0 ≤ 0, 0 ≤ 0]) (k := 154) (args := [.ref l0]) (r := [.int l6]) (a := 0) (b := 0) rfl ⟨g10, Nat.le_of_ble_eq_true rfl, Nat.zero_le _, Nat.zero_le _⟩ (vX12_rocks d (by omega) h) ?_
  rintro v S8 ⟨r9, rfl, h⟩
  show jLf (jCall jmt jbud d) jbud (fun j => (jmt j).rk) none mX12_findLies (jqV Q) (116, [some (.ref l0), some (.int l1), some (.int l2), some (.int l3), some (.long l4), none, some (.int l6), none], [.int r9, .int l6], S8, 0, 0)
  refine jLf.two hc _ rfl (gs := []) (p1 := r9 ≤ l6) (p2 := ¬ (r9 ≤ l6)) (c1 := (183, [some (.ref l0), some (.int l1), some (.int l2), some (.int l3), some (.long l4), none, some (.int l6), none], [], S8, 0, 0)) (c2 := (117, [some (.ref l0), some (.int l1), some (.int l2), some (.int l3), some (.long l4), none, some (.int l6), none], [], S8, 0, 0)) rfl trivial (fun hz => ?_) (fun hz => ?_)
  · have h := h.1 hz
    refine jLf.sub [some (.ref l0), some (.int l1), some (.int l2), some (.int l3), some (.long l4), none, none, none] (jle_same (jle_same (jle_same (jle_same (jle_same (jle_same (jle_none (jle_same (jle_nil _))))))))) ?_
    exact tX12_findLies_183 d hd hX89 hX93 h
  · have h := h.2 hz
    refine jLf.bk hc 2 [] [some (.ref l0), some (.int l1), some (.int l2), some (.int l3), some (.long l4), none, some (.int l6), none] [.int 59, .int l1] S8 rfl rfl rfl trivial ?_
    refine jLf.two hc _ rfl (gs := []) (p1 := 59 ≤ l1) (p2 := ¬ (59 ≤ l1)) (c1 := (183, [some (.ref l0), some (.int l1), some (.int l2), some (.int l3), some (.long l4), none, some (.int l6), none], [], S8, 0, 0)) (c2 := (120, [some (.ref l0), some (.int l1), some (.int l2), some (.int l3), some (.long l4), none, some (.int l6), none], [], S8, 0, 0)) rfl trivial (fun hz => ?_) (fun hz => ?_)
    · have h := h.1 hz
      refine jLf.sub [some (.ref l0), some (.int l1), some (.int l2), some (.int l3), some (.long l4), none, none, none] (jle_same (jle_same (jle_same (jle_same (jle_same (jle_same (jle_none (jle_same (jle_nil _))))))))) ?_
      exact tX12_findLies_183 d hd hX89 hX93 h
    · have h := h.2 hz
      obtain ⟨g24, g25, g26, g27, h⟩ := h
      refine jLf.bk hc 9 [jA S8 l0 12, ¬ jR S8 l0 33 = none, jA S8 (jr S8 l0 33) 13, vp_in (((9 : Int32) * l1) + l2) (jZ S8 (jr S8 l0 33))] [some (.ref l0), some (.int l1), some (.int l2), some (.int l3), some (.long l4), none, some (.int l6), none] [.int l6, .int (jI S8 (jr S8 l0 33) (((9 : Int32) * l1) + l2).toNatClampNeg)] S8 rfl rfl rfl ⟨g24, g25, g26, g27⟩ ?_
      refine jLf.inv hc _ rfl (gs := [2 ≤ ([.int l6, .int (jI S8 (jr S8 l0 33) (((9 : Int32) * l1) + l2).toNatClampNeg)] : List Value).length, (([] : List Value).map fun v => v.category).sum ≤ 8, 0 ≤ 0, 0 ≤ 0]) (k := 149) (args := [.int (jI S8 (jr S8 l0 33) (((9 : Int32) * l1) + l2).toNatClampNeg), .int l6]) (r := []) (a := 0) (b := 0) rfl ⟨Nat.le_of_ble_eq_true rfl, Nat.le_of_ble_eq_true rfl, Nat.zero_le _, Nat.zero_le _⟩ (vX12_is d (by omega) h) ?_
      rintro v S28 ⟨r29, rfl, h⟩
      show jLf (jCall jmt jbud d) jbud (fun j => (jmt j).rk) none mX12_findLies (jqV Q) (130, [some (.ref l0), some (.int l1), some (.int l2), some (.int l3), some (.long l4), none, some (.int l6), none], [.int r29], S28, 0, 0)
      refine jLf.two hc _ rfl (gs := []) (p1 := r29 = 0) (p2 := ¬ (r29 = 0)) (c1 := (181, [some (.ref l0), some (.int l1), some (.int l2), some (.int l3), some (.long l4), none, some (.int l6), none], [], S28, 0, 0)) (c2 := (131, [some (.ref l0), some (.int l1), some (.int l2), some (.int l3), some (.long l4), none, some (.int l6), none], [], S28, 0, 0)) rfl trivial (fun hz => ?_) (fun hz => ?_)
      · have h := h.1 hz
        exact tX12_findLies_181 d hd hX89 hX93 hX113 h
      · have h := h.2 hz
        obtain ⟨g31, g32, g33, g34, h⟩ := h
        refine jLf.bk hc 11 [jA S28 l0 12, ¬ jR S28 l0 35 = none, jA S28 (jr S28 l0 35) 13, vp_in ((((9 : Int32) * l1) + (9 : Int32)) + l6) (jZ S28 (jr S28 l0 35))] [some (.ref l0), some (.int l1), some (.int l2), some (.int l3), some (.long l4), none, some (.int l6), some (.int (jI S28 (jr S28 l0 35) ((((9 : Int32) * l1) + (9 : Int32)) + l6).toNatClampNeg))] [] S28 rfl rfl rfl ⟨g31, g32, g33, g34⟩ ?_
        generalize ex35 : (jI S28 (jr S28 l0 35) ((((9 : Int32) * l1) + (9 : Int32)) + l6).toNatClampNeg : Int32) = x35
        have h := h x35 ex35.symm
        refine jLf.bk hc 2 [] [some (.ref l0), some (.int l1), some (.int l2), some (.int l3), some (.long l4), none, some (.int l6), some (.int x35)] [.int l3, .int x35] S28 rfl rfl rfl trivial ?_
        refine jLf.two hc _ rfl (gs := []) (p1 := l3 ≤ x35) (p2 := ¬ (l3 ≤ x35)) (c1 := (156, [some (.ref l0), some (.int l1), some (.int l2), some (.int l3), some (.long l4), none, some (.int l6), some (.int x35)], [], S28, 0, 0)) (c2 := (145, [some (.ref l0), some (.int l1), some (.int l2), some (.int l3), some (.long l4), none, some (.int l6), some (.int x35)], [], S28, 0, 0)) rfl trivial (fun hz => ?_) (fun hz => ?_)
        · have h := h.1 hz
          refine jLf.bk hc 2 [] [some (.ref l0), some (.int l1), some (.int l2), some (.int l3), some (.long l4), none, some (.int l6), some (.int x35)] [.int l3, .int x35] S28 rfl rfl rfl trivial ?_
          refine jLf.two hc _ rfl (gs := []) (p1 := ¬ x35 = l3) (p2 := ¬ (¬ x35 = l3)) (c1 := (172, [some (.ref l0), some (.int l1), some (.int l2), some (.int l3), some (.long l4), none, some (.int l6), some (.int x35)], [], S28, 0, 0)) (c2 := (159, [some (.ref l0), some (.int l1), some (.int l2), some (.int l3), some (.long l4), none, some (.int l6), some (.int x35)], [], S28, 0, 0)) rfl trivial (fun hz => ?_) (fun hz => ?_)
          · have h := h.1 hz
            refine jLf.bk hc 1 [] [some (.ref l0), some (.int l1), some (.int l2), some (.int l3), some (.long l4), none, some (.int l6), some (.int x35)] [.long l4] S28 rfl rfl rfl trivial ?_
            refine jLf.sub [some (.ref l0), some (.int l1), some (.int l2), some (.int l3), none, none, some (.int l6), some (.int x35)] (jle_same (jle_same (jle_same (jle_same (jle_none (jle_same (jle_same (jle_same (jle_nil _))))))))) ?_
            exact tX12_findLies_173 d hd hX89 hX93 hX113 h
          · have h := h.2 (Classical.not_not.mp hz)
            obtain ⟨g36, g37, g38, h⟩ := h
            refine jLf.bk hc 12 [jA S28 l0 12, ¬ jR S28 l0 36 = none, jA S28 (jr S28 l0 36) 14, vp_in ((((9 : Int32) * l1) + (9 : Int32)) + l6) (jZ S28 (jr S28 l0 36))] [some (.ref l0), some (.int l1), some (.int l2), some (.int l3), some (.long l4), none, some (.int l6), some (.int x35)] [.long (l4 + (jJ S28 (jr S28 l0 36) ((((9 : Int32) * l1) + (9 : Int32)) + l6).toNatClampNeg))] S28 rfl rfl rfl ⟨g31, g36, g37, g38⟩ ?_
            refine jLf.one hc _ rfl (gs := []) (c := (173, [some (.ref l0), some (.int l1), some (.int l2), some (.int l3), some (.long l4), none, some (.int l6), some (.int x35)], [.long (l4 + (jJ S28 (jr S28 l0 36) ((((9 : Int32) * l1) + (9 : Int32)) + l6).toNatClampNeg))], S28, 0, 0)) rfl trivial ?_
            refine jLf.sub [some (.ref l0), some (.int l1), some (.int l2), some (.int l3), none, none, some (.int l6), some (.int x35)] (jle_same (jle_same (jle_same (jle_same (jle_none (jle_same (jle_same (jle_same (jle_nil _))))))))) ?_
            exact tX12_findLies_173 d hd hX89 hX93 hX113 h
        · have h := h.2 hz
          obtain ⟨g39, g40, g41, h⟩ := h
          refine jLf.bk hc 10 [jA S28 l0 12, ¬ jR S28 l0 36 = none, jA S28 (jr S28 l0 36) 14, vp_in ((((9 : Int32) * l1) + (9 : Int32)) + l6) (jZ S28 (jr S28 l0 36))] [some (.ref l0), some (.int l1), some (.int l2), some (.int l3), some (.long l4), none, some (.int l6), some (.int x35)] [.long (jJ S28 (jr S28 l0 36) ((((9 : Int32) * l1) + (9 : Int32)) + l6).toNatClampNeg)] S28 rfl rfl rfl ⟨g31, g39, g40, g41⟩ ?_
          refine jLf.one hc _ rfl (gs := []) (c := (173, [some (.ref l0), some (.int l1), some (.int l2), some (.int l3), some (.long l4), none, some (.int l6), some (.int x35)], [.long (jJ S28 (jr S28 l0 36) ((((9 : Int32) * l1) + (9 : Int32)) + l6).toNatClampNeg)], S28, 0, 0)) rfl trivial ?_
          refine jLf.sub [some (.ref l0), some (.int l1), some (.int l2), some (.int l3), none, none, some (.int l6), some (.int x35)] (jle_same (jle_same (jle_same (jle_same (jle_none (jle_same (jle_same (jle_same (jle_nil _))))))))) ?_
          exact tX12_findLies_173 d hd hX89 hX93 hX113 h
def wX12_findLies_113  (X89 : Nat → Int32 → JS → Prop) (X93 : Nat → Int32 → Int32 → JS → Prop) (l0 : Nat) (l1 : Int32) (l2 : Int32) (l3 : Int32) (l4 : Int64) (l6 : Int32) (S : JS) (Q : JS → Prop) : Prop :=
  jLoop (fun (X113 : Nat × Int32 × Int32 × Int32 × Int64 × Int32 × JS → Prop) q => bX12_findLies_113 X89 X93 (fun l0 l1 l2 l3 l4 l6 S => X113 (l0, l1, l2, l3, l4, l6, S)) q.1 q.2.1 q.2.2.1 q.2.2.2.1 q.2.2.2.2.1 q.2.2.2.2.2.1 q.2.2.2.2.2.2 Q) (l0, l1, l2, l3, l4, l6, S)
set_option maxRecDepth 20000 in
theorem tX12_findLies_113 {Q : JS → Prop} {X89 : Nat → Int32 → JS → Prop} {X93 : Nat → Int32 → Int32 → JS → Prop} (d : Nat) (hd : 6 ≤ d) (hX89 : ∀ l0 l1 S, X89 l0 l1 S → jLf (jCall jmt jbud d) jbud (fun j => (jmt j).rk) none mX12_findLies (jqV Q) (89, [some (.ref l0), some (.int l1), none, none, none, none, none, none], [], S, 0, 0)) (hX93 : ∀ l0 l1 l2 S, X93 l0 l1 l2 S → jLf (jCall jmt jbud d) jbud (fun j => (jmt j).rk) none mX12_findLies (jqV Q) (93, [some (.ref l0), some (.int l1), some (.int l2), none, none, none, none, none], [], S, 0, 0)) {l0 : Nat} {l1 : Int32} {l2 : Int32} {l3 : Int32} {l4 : Int64} {l6 : Int32} {S : JS} (h : wX12_findLies_113 X89 X93 l0 l1 l2 l3 l4 l6 S Q) : jLf (jCall jmt jbud d) jbud (fun j => (jmt j).rk) none mX12_findLies (jqV Q) (113, [some (.ref l0), some (.int l1), some (.int l2), some (.int l3), some (.long l4), none, some (.int l6), none], [], S, 0, 0) := by
  have := h (fun q : Nat × Int32 × Int32 × Int32 × Int64 × Int32 × JS => jLf (jCall jmt jbud d) jbud (fun j => (jmt j).rk) none mX12_findLies (jqV Q) (113, [some (.ref (q.1)), some (.int (q.2.1)), some (.int (q.2.2.1)), some (.int (q.2.2.2.1)), some (.long (q.2.2.2.2.1)), none, some (.int (q.2.2.2.2.2.1)), none], [], q.2.2.2.2.2.2, 0, 0)) (fun q R hb hR => uX12_findLies_113 d hd hX89 hX93 (fun _ _ _ _ _ _ _ => hR _) hb)
  exact this
def wX12_findLies_110  (X89 : Nat → Int32 → JS → Prop) (X93 : Nat → Int32 → Int32 → JS → Prop) (l0 : Nat) (l1 : Int32) (l2 : Int32) (l3 : Int32) (s0 : Int64) (S : JS) (Q : JS → Prop) : Prop :=
  wX12_findLies_113 X89 X93 l0 l1 l2 l3 s0 0 S Q
set_option maxRecDepth 20000 in
theorem tX12_findLies_110 {Q : JS → Prop} {X89 : Nat → Int32 → JS → Prop} {X93 : Nat → Int32 → Int32 → JS → Prop} (d : Nat) (hd : 6 ≤ d) (hX89 : ∀ l0 l1 S, X89 l0 l1 S → jLf (jCall jmt jbud d) jbud (fun j => (jmt j).rk) none mX12_findLies (jqV Q) (89, [some (.ref l0), some (.int l1), none, none, none, none, none, none], [], S, 0, 0)) (hX93 : ∀ l0 l1 l2 S, X93 l0 l1 l2 S → jLf (jCall jmt jbud d) jbud (fun j => (jmt j).rk) none mX12_findLies (jqV Q) (93, [some (.ref l0), some (.int l1), some (.int l2), none, none, none, none, none], [], S, 0, 0)) {l0 : Nat} {l1 : Int32} {l2 : Int32} {l3 : Int32} {s0 : Int64} {S : JS} (h : wX12_findLies_110 X89 X93 l0 l1 l2 l3 s0 S Q) : jLf (jCall jmt jbud d) jbud (fun j => (jmt j).rk) none mX12_findLies (jqV Q) (110, [some (.ref l0), some (.int l1), some (.int l2), some (.int l3), none, none, none, none], [.long s0], S, 0, 0) := by
  have hc := jCall_mono jmt jbud d
  unfold wX12_findLies_110 at h
  refine jLf.bk hc 3 [] [some (.ref l0), some (.int l1), some (.int l2), some (.int l3), some (.long s0), none, some (.int 0), none] [] S rfl rfl rfl trivial ?_
  exact tX12_findLies_113 d hd hX89 hX93 h
def wX12_findLies_103  (X89 : Nat → Int32 → JS → Prop) (X93 : Nat → Int32 → Int32 → JS → Prop) (l0 : Nat) (l1 : Int32) (l2 : Int32) (s0 : Int32) (S : JS) (Q : JS → Prop) : Prop :=
  (¬ l1 = 59 → wX12_findLies_110 X89 X93 l0 l1 l2 s0 0 S Q) ∧ (l1 = 59 → wX12_findLies_110 X89 X93 l0 l1 l2 s0 1 S Q)
set_option maxRecDepth 20000 in
theorem tX12_findLies_103 {Q : JS → Prop} {X89 : Nat → Int32 → JS → Prop} {X93 : Nat → Int32 → Int32 → JS → Prop} (d : Nat) (hd : 6 ≤ d) (hX89 : ∀ l0 l1 S, X89 l0 l1 S → jLf (jCall jmt jbud d) jbud (fun j => (jmt j).rk) none mX12_findLies (jqV Q) (89, [some (.ref l0), some (.int l1), none, none, none, none, none, none], [], S, 0, 0)) (hX93 : ∀ l0 l1 l2 S, X93 l0 l1 l2 S → jLf (jCall jmt jbud d) jbud (fun j => (jmt j).rk) none mX12_findLies (jqV Q) (93, [some (.ref l0), some (.int l1), some (.int l2), none, none, none, none, none], [], S, 0, 0)) {l0 : Nat} {l1 : Int32} {l2 : Int32} {s0 : Int32} {S : JS} (h : wX12_findLies_103 X89 X93 l0 l1 l2 s0 S Q) : jLf (jCall jmt jbud d) jbud (fun j => (jmt j).rk) none mX12_findLies (jqV Q) (103, [some (.ref l0), some (.int l1), some (.int l2), none, none, none, none, none], [.int s0], S, 0, 0) := by
  have hc := jCall_mono jmt jbud d
  unfold wX12_findLies_103 at h
  refine jLf.bk hc 3 [] [some (.ref l0), some (.int l1), some (.int l2), some (.int s0), none, none, none, none] [.int 59, .int l1] S rfl rfl rfl trivial ?_
  refine jLf.two hc _ rfl (gs := []) (p1 := ¬ l1 = 59) (p2 := ¬ (¬ l1 = 59)) (c1 := (109, [some (.ref l0), some (.int l1), some (.int l2), some (.int s0), none, none, none, none], [], S, 0, 0)) (c2 := (107, [some (.ref l0), some (.int l1), some (.int l2), some (.int s0), none, none, none, none], [], S, 0, 0)) rfl trivial (fun hz => ?_) (fun hz => ?_)
  · have h := h.1 hz
    refine jLf.bk hc 1 [] [some (.ref l0), some (.int l1), some (.int l2), some (.int s0), none, none, none, none] [.long 0] S rfl rfl rfl trivial ?_
    exact tX12_findLies_110 d hd hX89 hX93 h
  · have h := h.2 (Classical.not_not.mp hz)
    refine jLf.bk hc 1 [] [some (.ref l0), some (.int l1), some (.int l2), some (.int s0), none, none, none, none] [.long 1] S rfl rfl rfl trivial ?_
    refine jLf.one hc _ rfl (gs := []) (c := (110, [some (.ref l0), some (.int l1), some (.int l2), some (.int s0), none, none, none, none], [.long 1], S, 0, 0)) rfl trivial ?_
    exact tX12_findLies_110 d hd hX89 hX93 h
def bX12_findLies_93  (X89 : Nat → Int32 → JS → Prop) (X93 : Nat → Int32 → Int32 → JS → Prop) (l0 : Nat) (l1 : Int32) (l2 : Int32) (S : JS) (Q : JS → Prop) : Prop :=
  jA S l0 12 ∧ (wX12_rocks l0 S (fun r5 S4 => (r5 ≤ l2 → ∀ x7 : Int32, x7 = (l1 + (-1)) → (X89 l0 x7 S4)) ∧ (¬ (r5 ≤ l2) → (¬ l1 = 59 → wX12_findLies_103 X89 X93 l0 l1 l2 1000000 S4 Q) ∧ (l1 = 59 → wX12_findLies_103 X89 X93 l0 l1 l2 0 S4 Q))))
set_option maxRecDepth 20000 in
theorem uX12_findLies_93 {Q : JS → Prop} {X89 : Nat → Int32 → JS → Prop} (d : Nat) (hd : 6 ≤ d) (hX89 : ∀ l0 l1 S, X89 l0 l1 S → jLf (jCall jmt jbud d) jbud (fun j => (jmt j).rk) none mX12_findLies (jqV Q) (89, [some (.ref l0), some (.int l1), none, none, none, none, none, none], [], S, 0, 0)) {X93 : Nat → Int32 → Int32 → JS → Prop} (hX93 : ∀ l0 l1 l2 S, X93 l0 l1 l2 S → jLf (jCall jmt jbud d) jbud (fun j => (jmt j).rk) none mX12_findLies (jqV Q) (93, [some (.ref l0), some (.int l1), some (.int l2), none, none, none, none, none], [], S, 0, 0)) {l0 : Nat} {l1 : Int32} {l2 : Int32} {S : JS} (h : bX12_findLies_93 X89 X93 l0 l1 l2 S Q) : jLf (jCall jmt jbud d) jbud (fun j => (jmt j).rk) none mX12_findLies (jqV Q) (93, [some (.ref l0), some (.int l1), some (.int l2), none, none, none, none, none], [], S, 0, 0) := by
  have hc := jCall_mono jmt jbud d
  unfold bX12_findLies_93 at h
  refine jLf.bk hc 2 [] [some (.ref l0), some (.int l1), some (.int l2), none, none, none, none, none] [.ref l0, .int l2] S rfl rfl rfl trivial ?_
  obtain ⟨g6, h⟩ := h
  refine jLf.inv hc _ rfl (gs := [jA S l0 12, (([.int l2] : List Value).map fun v => v.category).sum ≤ 8, 0 ≤ 0, 0 ≤ 0]) (k := 154) (args := [.ref l0]) (r := [.int l2]) (a := 0) (b := 0) rfl ⟨g6, Nat.le_of_ble_eq_true rfl, Nat.zero_le _, Nat.zero_le _⟩ (vX12_rocks d (by omega) h) ?_
  rintro v S4 ⟨r5, rfl, h⟩
  show jLf (jCall jmt jbud d) jbud (fun j => (jmt j).rk) none mX12_findLies (jqV Q) (96, [some (.ref l0), some (.int l1), some (.int l2), none, none, none, none, none], [.int r5, .int l2], S4, 0, 0)
  refine jLf.two hc _ rfl (gs := []) (p1 := r5 ≤ l2) (p2 := ¬ (r5 ≤ l2)) (c1 := (214, [some (.ref l0), some (.int l1), some (.int l2), none, none, none, none, none], [], S4, 0, 0)) (c2 := (97, [some (.ref l0), some (.int l1), some (.int l2), none, none, none, none, none], [], S4, 0, 0)) rfl trivial (fun hz => ?_) (fun hz => ?_)
  · have h := h.1 hz
    refine jLf.bk hc 1 [] [some (.ref l0), some (.int (l1 + (-1))), some (.int l2), none, none, none, none, none] [] S4 rfl rfl rfl trivial ?_
    generalize ex7 : (l1 + (-1) : Int32) = x7
    have h := h x7 ex7.symm
    refine jLf.one hc _ rfl (gs := []) (c := (89, [some (.ref l0), some (.int x7), some (.int l2), none, none, none, none, none], [], S4, 0, 0)) rfl trivial ?_
    refine jLf.sub [some (.ref l0), some (.int x7), none, none, none, none, none, none] (jle_same (jle_same (jle_none (jle_same (jle_same (jle_same (jle_same (jle_same (jle_nil _))))))))) ?_
    exact hX89 _ _ _ h
  · have h := h.2 hz
    refine jLf.bk hc 2 [] [some (.ref l0), some (.int l1), some (.int l2), none, none, none, none, none] [.int 59, .int l1] S4 rfl rfl rfl trivial ?_
    refine jLf.two hc _ rfl (gs := []) (p1 := ¬ l1 = 59) (p2 := ¬ (¬ l1 = 59)) (c1 := (102, [some (.ref l0), some (.int l1), some (.int l2), none, none, none, none, none], [], S4, 0, 0)) (c2 := (100, [some (.ref l0), some (.int l1), some (.int l2), none, none, none, none, none], [], S4, 0, 0)) rfl trivial (fun hz => ?_) (fun hz => ?_)
    · have h := h.1 hz
      refine jLf.bk hc 1 [] [some (.ref l0), some (.int l1), some (.int l2), none, none, none, none, none] [.int 1000000] S4 rfl rfl rfl trivial ?_
      exact tX12_findLies_103 d hd hX89 hX93 h
    · have h := h.2 (Classical.not_not.mp hz)
      refine jLf.bk hc 1 [] [some (.ref l0), some (.int l1), some (.int l2), none, none, none, none, none] [.int 0] S4 rfl rfl rfl trivial ?_
      refine jLf.one hc _ rfl (gs := []) (c := (103, [some (.ref l0), some (.int l1), some (.int l2), none, none, none, none, none], [.int 0], S4, 0, 0)) rfl trivial ?_
      exact tX12_findLies_103 d hd hX89 hX93 h
def wX12_findLies_93  (X89 : Nat → Int32 → JS → Prop) (l0 : Nat) (l1 : Int32) (l2 : Int32) (S : JS) (Q : JS → Prop) : Prop :=
  jLoop (fun (X93 : Nat × Int32 × Int32 × JS → Prop) q => bX12_findLies_93 X89 (fun l0 l1 l2 S => X93 (l0, l1, l2, S)) q.1 q.2.1 q.2.2.1 q.2.2.2 Q) (l0, l1, l2, S)
set_option maxRecDepth 20000 in
theorem tX12_findLies_93 {Q : JS → Prop} {X89 : Nat → Int32 → JS → Prop} (d : Nat) (hd : 6 ≤ d) (hX89 : ∀ l0 l1 S, X89 l0 l1 S → jLf (jCall jmt jbud d) jbud (fun j => (jmt j).rk) none mX12_findLies (jqV Q) (89, [some (.ref l0), some (.int l1), none, none, none, none, none, none], [], S, 0, 0)) {l0 : Nat} {l1 : Int32} {l2 : Int32} {S : JS} (h : wX12_findLies_93 X89 l0 l1 l2 S Q) : jLf (jCall jmt jbud d) jbud (fun j => (jmt j).rk) none mX12_findLies (jqV Q) (93, [some (.ref l0), some (.int l1), some (.int l2), none, none, none, none, none], [], S, 0, 0) := by
  have := h (fun q : Nat × Int32 × Int32 × JS => jLf (jCall jmt jbud d) jbud (fun j => (jmt j).rk) none mX12_findLies (jqV Q) (93, [some (.ref (q.1)), some (.int (q.2.1)), some (.int (q.2.2.1)), none, none, none, none, none], [], q.2.2.2, 0, 0)) (fun q R hb hR => uX12_findLies_93 d hd hX89 (fun _ _ _ _ => hR _) hb)
  exact this
def bX12_findLies_89   (X89 : Nat → Int32 → JS → Prop) (l0 : Nat) (l1 : Int32) (S : JS) (Q : JS → Prop) : Prop :=
  (l1 < 0 → Q S) ∧ (¬ (l1 < 0) → wX12_findLies_93 X89 l0 l1 0 S Q)
set_option maxRecDepth 20000 in
theorem uX12_findLies_89 {Q : JS → Prop}  (d : Nat) (hd : 6 ≤ d) {X89 : Nat → Int32 → JS → Prop} (hX89 : ∀ l0 l1 S, X89 l0 l1 S → jLf (jCall jmt jbud d) jbud (fun j => (jmt j).rk) none mX12_findLies (jqV Q) (89, [some (.ref l0), some (.int l1), none, none, none, none, none, none], [], S, 0, 0)) {l0 : Nat} {l1 : Int32} {S : JS} (h : bX12_findLies_89 X89 l0 l1 S Q) : jLf (jCall jmt jbud d) jbud (fun j => (jmt j).rk) none mX12_findLies (jqV Q) (89, [some (.ref l0), some (.int l1), none, none, none, none, none, none], [], S, 0, 0) := by
  have hc := jCall_mono jmt jbud d
  unfold bX12_findLies_89 at h
  refine jLf.bk hc 1 [] [some (.ref l0), some (.int l1), none, none, none, none, none, none] [.int l1] S rfl rfl rfl trivial ?_
  refine jLf.two hc _ rfl (gs := []) (p1 := l1 < 0) (p2 := ¬ (l1 < 0)) (c1 := (216, [some (.ref l0), some (.int l1), none, none, none, none, none, none], [], S, 0, 0)) (c2 := (91, [some (.ref l0), some (.int l1), none, none, none, none, none, none], [], S, 0, 0)) rfl trivial (fun hz => ?_) (fun hz => ?_)
  · have h := h.1 hz
    exact jLf.ret hc _ rfl (gs := [jrt none none]) (v := none) rfl trivial ⟨rfl, h⟩
  · have h := h.2 hz
    refine jLf.bk hc 2 [] [some (.ref l0), some (.int l1), some (.int 0), none, none, none, none, none] [] S rfl rfl rfl trivial ?_
    exact tX12_findLies_93 d hd hX89 h
def wX12_findLies_89   (l0 : Nat) (l1 : Int32) (S : JS) (Q : JS → Prop) : Prop :=
  jLoop (fun (X89 : Nat × Int32 × JS → Prop) q => bX12_findLies_89 (fun l0 l1 S => X89 (l0, l1, S)) q.1 q.2.1 q.2.2 Q) (l0, l1, S)
set_option maxRecDepth 20000 in
theorem tX12_findLies_89 {Q : JS → Prop}  (d : Nat) (hd : 6 ≤ d) {l0 : Nat} {l1 : Int32} {S : JS} (h : wX12_findLies_89 l0 l1 S Q) : jLf (jCall jmt jbud d) jbud (fun j => (jmt j).rk) none mX12_findLies (jqV Q) (89, [some (.ref l0), some (.int l1), none, none, none, none, none, none], [], S, 0, 0) := by
  have := h (fun q : Nat × Int32 × JS => jLf (jCall jmt jbud d) jbud (fun j => (jmt j).rk) none mX12_findLies (jqV Q) (89, [some (.ref (q.1)), some (.int (q.2.1)), none, none, none, none, none, none], [], q.2.2, 0, 0)) (fun q R hb hR => uX12_findLies_89 d hd  (fun _ _ _ => hR _) hb)
  exact this
def wX12_findLies_69  (X4 : Nat → Int32 → JS → Prop) (X9 : Nat → Int32 → Int32 → JS → Prop) (l0 : Nat) (l1 : Int32) (l2 : Int32) (l3 : Int32) (S : JS) (Q : JS → Prop) : Prop :=
  jA S l0 12 ∧ (¬ jR S l0 34 = none ∧ (wX12_liesAt l0 l1 l2 S (fun r52 S51 => jA S51 (jr S l0 34) 13 ∧ (vp_in (((9 : Int32) * l1) + l2) (jZ S51 (jr S l0 34)) ∧ (∀ S55 : JS, S55 = uI S51 (jr S l0 34) (((9 : Int32) * l1) + l2).toNatClampNeg (l3 + r52) → (∀ x56 : Int32, x56 = (l2 + 1) → (X9 l0 l1 x56 S55)))))))
set_option maxRecDepth 20000 in
theorem tX12_findLies_69 {Q : JS → Prop} {X4 : Nat → Int32 → JS → Prop} {X9 : Nat → Int32 → Int32 → JS → Prop} (d : Nat) (hd : 6 ≤ d) (hX4 : ∀ l0 l1 S, X4 l0 l1 S → jLf (jCall jmt jbud d) jbud (fun j => (jmt j).rk) none mX12_findLies (jqV Q) (4, [some (.ref l0), some (.int l1), none, none, none, none, none, none], [], S, 0, 0)) (hX9 : ∀ l0 l1 l2 S, X9 l0 l1 l2 S → jLf (jCall jmt jbud d) jbud (fun j => (jmt j).rk) none mX12_findLies (jqV Q) (9, [some (.ref l0), some (.int l1), some (.int l2), none, none, none, none, none], [], S, 0, 0)) {l0 : Nat} {l1 : Int32} {l2 : Int32} {l3 : Int32} {S : JS} (h : wX12_findLies_69 X4 X9 l0 l1 l2 l3 S Q) : jLf (jCall jmt jbud d) jbud (fun j => (jmt j).rk) none mX12_findLies (jqV Q) (69, [some (.ref l0), some (.int l1), some (.int l2), some (.int l3), none, none, none, none], [], S, 0, 0) := by
  have hc := jCall_mono jmt jbud d
  unfold wX12_findLies_69 at h
  obtain ⟨g49, g50, h⟩ := h
  refine jLf.bk hc 11 [jA S l0 12, ¬ jR S l0 34 = none] [some (.ref l0), some (.int l1), some (.int l2), some (.int l3), none, none, none, none] [.int l2, .int l1, .ref l0, .int l3, .int (((9 : Int32) * l1) + l2), .ref (jr S l0 34)] S rfl rfl rfl ⟨g49, g50⟩ ?_
  refine jLf.inv hc _ rfl (gs := [jA S l0 12, (([.int l3, .int (((9 : Int32) * l1) + l2), .ref (jr S l0 34)] : List Value).map fun v => v.category).sum ≤ 8, 0 ≤ 0, 0 ≤ 0]) (k := 211) (args := [.ref l0, .int l1, .int l2]) (r := [.int l3, .int (((9 : Int32) * l1) + l2), .ref (jr S l0 34)]) (a := 0) (b := 0) rfl ⟨g49, Nat.le_of_ble_eq_true rfl, Nat.zero_le _, Nat.zero_le _⟩ (vX12_liesAt d (by omega) h) ?_
  rintro v S51 ⟨r52, rfl, h⟩
  show jLf (jCall jmt jbud d) jbud (fun j => (jmt j).rk) none mX12_findLies (jqV Q) (81, [some (.ref l0), some (.int l1), some (.int l2), some (.int l3), none, none, none, none], [.int r52, .int l3, .int (((9 : Int32) * l1) + l2), .ref (jr S l0 34)], S51, 0, 0)
  obtain ⟨g53, g54, h⟩ := h
  refine jLf.bk hc 2 [jA S51 (jr S l0 34) 13, vp_in (((9 : Int32) * l1) + l2) (jZ S51 (jr S l0 34))] [some (.ref l0), some (.int l1), some (.int l2), some (.int l3), none, none, none, none] [] (uI S51 (jr S l0 34) (((9 : Int32) * l1) + l2).toNatClampNeg (l3 + r52)) rfl rfl rfl ⟨g53, g54⟩ ?_
  generalize eS55 : uI S51 (jr S l0 34) (((9 : Int32) * l1) + l2).toNatClampNeg (l3 + r52) = S55
  have h := h S55 eS55.symm
  refine jLf.bk hc 1 [] [some (.ref l0), some (.int l1), some (.int (l2 + 1)), some (.int l3), none, none, none, none] [] S55 rfl rfl rfl trivial ?_
  generalize ex56 : (l2 + 1 : Int32) = x56
  have h := h x56 ex56.symm
  refine jLf.one hc _ rfl (gs := []) (c := (9, [some (.ref l0), some (.int l1), some (.int x56), some (.int l3), none, none, none, none], [], S55, 0, 0)) rfl trivial ?_
  refine jLf.sub [some (.ref l0), some (.int l1), some (.int x56), none, none, none, none, none] (jle_same (jle_same (jle_same (jle_none (jle_same (jle_same (jle_same (jle_same (jle_nil _))))))))) ?_
  exact hX9 _ _ _ _ h
def wX12_findLies_66  (X4 : Nat → Int32 → JS → Prop) (X9 : Nat → Int32 → Int32 → JS → Prop) (X21 : Nat → Int32 → Int32 → Int32 → Int32 → JS → Prop) (l0 : Nat) (l1 : Int32) (l2 : Int32) (l4 : Int32) (s0 : Int32) (S : JS) (Q : JS → Prop) : Prop :=
  ∀ x63 : Int32, x63 = (l4 + 1) → (X21 l0 l1 l2 s0 x63 S)
set_option maxRecDepth 20000 in
theorem tX12_findLies_66 {Q : JS → Prop} {X4 : Nat → Int32 → JS → Prop} {X9 : Nat → Int32 → Int32 → JS → Prop} {X21 : Nat → Int32 → Int32 → Int32 → Int32 → JS → Prop} (d : Nat) (hd : 6 ≤ d) (hX4 : ∀ l0 l1 S, X4 l0 l1 S → jLf (jCall jmt jbud d) jbud (fun j => (jmt j).rk) none mX12_findLies (jqV Q) (4, [some (.ref l0), some (.int l1), none, none, none, none, none, none], [], S, 0, 0)) (hX9 : ∀ l0 l1 l2 S, X9 l0 l1 l2 S → jLf (jCall jmt jbud d) jbud (fun j => (jmt j).rk) none mX12_findLies (jqV Q) (9, [some (.ref l0), some (.int l1), some (.int l2), none, none, none, none, none], [], S, 0, 0)) (hX21 : ∀ l0 l1 l2 l3 l4 S, X21 l0 l1 l2 l3 l4 S → jLf (jCall jmt jbud d) jbud (fun j => (jmt j).rk) none mX12_findLies (jqV Q) (21, [some (.ref l0), some (.int l1), some (.int l2), some (.int l3), some (.int l4), none, none, none], [], S, 0, 0)) {l0 : Nat} {l1 : Int32} {l2 : Int32} {l4 : Int32} {s0 : Int32} {S : JS} (h : wX12_findLies_66 X4 X9 X21 l0 l1 l2 l4 s0 S Q) : jLf (jCall jmt jbud d) jbud (fun j => (jmt j).rk) none mX12_findLies (jqV Q) (66, [some (.ref l0), some (.int l1), some (.int l2), none, some (.int l4), none, none, none], [.int s0], S, 0, 0) := by
  have hc := jCall_mono jmt jbud d
  unfold wX12_findLies_66 at h
  refine jLf.bk hc 2 [] [some (.ref l0), some (.int l1), some (.int l2), some (.int s0), some (.int (l4 + 1)), none, none, none] [] S rfl rfl rfl trivial ?_
  generalize ex63 : (l4 + 1 : Int32) = x63
  have h := h x63 ex63.symm
  refine jLf.one hc _ rfl (gs := []) (c := (21, [some (.ref l0), some (.int l1), some (.int l2), some (.int s0), some (.int x63), none, none, none], [], S, 0, 0)) rfl trivial ?_
  exact hX21 _ _ _ _ _ _ h
def wX12_findLies_65  (X4 : Nat → Int32 → JS → Prop) (X9 : Nat → Int32 → Int32 → JS → Prop) (X21 : Nat → Int32 → Int32 → Int32 → Int32 → JS → Prop) (l0 : Nat) (l1 : Int32) (l2 : Int32) (l3 : Int32) (l4 : Int32) (S : JS) (Q : JS → Prop) : Prop :=
  wX12_findLies_66 X4 X9 X21 l0 l1 l2 l4 l3 S Q
set_option maxRecDepth 20000 in
theorem tX12_findLies_65 {Q : JS → Prop} {X4 : Nat → Int32 → JS → Prop} {X9 : Nat → Int32 → Int32 → JS → Prop} {X21 : Nat → Int32 → Int32 → Int32 → Int32 → JS → Prop} (d : Nat) (hd : 6 ≤ d) (hX4 : ∀ l0 l1 S, X4 l0 l1 S → jLf (jCall jmt jbud d) jbud (fun j => (jmt j).rk) none mX12_findLies (jqV Q) (4, [some (.ref l0), some (.int l1), none, none, none, none, none, none], [], S, 0, 0)) (hX9 : ∀ l0 l1 l2 S, X9 l0 l1 l2 S → jLf (jCall jmt jbud d) jbud (fun j => (jmt j).rk) none mX12_findLies (jqV Q) (9, [some (.ref l0), some (.int l1), some (.int l2), none, none, none, none, none], [], S, 0, 0)) (hX21 : ∀ l0 l1 l2 l3 l4 S, X21 l0 l1 l2 l3 l4 S → jLf (jCall jmt jbud d) jbud (fun j => (jmt j).rk) none mX12_findLies (jqV Q) (21, [some (.ref l0), some (.int l1), some (.int l2), some (.int l3), some (.int l4), none, none, none], [], S, 0, 0)) {l0 : Nat} {l1 : Int32} {l2 : Int32} {l3 : Int32} {l4 : Int32} {S : JS} (h : wX12_findLies_65 X4 X9 X21 l0 l1 l2 l3 l4 S Q) : jLf (jCall jmt jbud d) jbud (fun j => (jmt j).rk) none mX12_findLies (jqV Q) (65, [some (.ref l0), some (.int l1), some (.int l2), some (.int l3), some (.int l4), none, none, none], [], S, 0, 0) := by
  have hc := jCall_mono jmt jbud d
  unfold wX12_findLies_65 at h
  refine jLf.bk hc 1 [] [some (.ref l0), some (.int l1), some (.int l2), some (.int l3), some (.int l4), none, none, none] [.int l3] S rfl rfl rfl trivial ?_
  refine jLf.sub [some (.ref l0), some (.int l1), some (.int l2), none, some (.int l4), none, none, none] (jle_same (jle_same (jle_same (jle_none (jle_same (jle_same (jle_same (jle_same (jle_nil _))))))))) ?_
  exact tX12_findLies_66 d hd hX4 hX9 hX21 h
def bX12_findLies_21  (X4 : Nat → Int32 → JS → Prop) (X9 : Nat → Int32 → Int32 → JS → Prop) (X21 : Nat → Int32 → Int32 → Int32 → Int32 → JS → Prop) (l0 : Nat) (l1 : Int32) (l2 : Int32) (l3 : Int32) (l4 : Int32) (S : JS) (Q : JS → Prop) : Prop :=
  jA S l0 12 ∧ (wX12_rocks l0 S (fun r47 S46 => (r47 ≤ l4 → wX12_findLies_69 X4 X9 l0 l1 l2 l3 S46 Q) ∧ (¬ (r47 ≤ l4) → (l1 ≤ 0 → wX12_findLies_69 X4 X9 l0 l1 l2 l3 S46 Q) ∧ (¬ (l1 ≤ 0) → jA S46 l0 12 ∧ (¬ jR S46 l0 33 = none ∧ (jA S46 (jr S46 l0 33) 13 ∧ (vp_in ((((9 : Int32) * l1) - (9 : Int32)) + l4) (jZ S46 (jr S46 l0 33)) ∧ (wX12_is (jI S46 (jr S46 l0 33) ((((9 : Int32) * l1) - (9 : Int32)) + l4).toNatClampNeg) l2 S46 (fun r62 S61 => (r62 = 0 → wX12_findLies_65 X4 X9 X21 l0 l1 l2 l3 l4 S61 Q) ∧ (¬ r62 = 0 → jA S61 l0 12 ∧ (¬ jR S61 l0 34 = none ∧ (jA S61 (jr S61 l0 34) 13 ∧ (vp_in ((((9 : Int32) * l1) - (9 : Int32)) + l4) (jZ S61 (jr S61 l0 34)) ∧ ((l3 ≤ (jI S61 (jr S61 l0 34) ((((9 : Int32) * l1) - (9 : Int32)) + l4).toNatClampNeg) → wX12_findLies_65 X4 X9 X21 l0 l1 l2 l3 l4 S61 Q) ∧ (¬ (l3 ≤ (jI S61 (jr S61 l0 34) ((((9 : Int32) * l1) - (9 : Int32)) + l4).toNatClampNeg)) → wX12_findLies_66 X4 X9 X21 l0 l1 l2 l4 (jI S61 (jr S61 l0 34) ((((9 : Int32) * l1) - (9 : Int32)) + l4).toNatClampNeg) S61 Q)))))))))))))))
set_option maxRecDepth 20000 in
theorem uX12_findLies_21 {Q : JS → Prop} {X4 : Nat → Int32 → JS → Prop} {X9 : Nat → Int32 → Int32 → JS → Prop} (d : Nat) (hd : 6 ≤ d) (hX4 : ∀ l0 l1 S, X4 l0 l1 S → jLf (jCall jmt jbud d) jbud (fun j => (jmt j).rk) none mX12_findLies (jqV Q) (4, [some (.ref l0), some (.int l1), none, none, none, none, none, none], [], S, 0, 0)) (hX9 : ∀ l0 l1 l2 S, X9 l0 l1 l2 S → jLf (jCall jmt jbud d) jbud (fun j => (jmt j).rk) none mX12_findLies (jqV Q) (9, [some (.ref l0), some (.int l1), some (.int l2), none, none, none, none, none], [], S, 0, 0)) {X21 : Nat → Int32 → Int32 → Int32 → Int32 → JS → Prop} (hX21 : ∀ l0 l1 l2 l3 l4 S, X21 l0 l1 l2 l3 l4 S → jLf (jCall jmt jbud d) jbud (fun j => (jmt j).rk) none mX12_findLies (jqV Q) (21, [some (.ref l0), some (.int l1), some (.int l2), some (.int l3), some (.int l4), none, none, none], [], S, 0, 0)) {l0 : Nat} {l1 : Int32} {l2 : Int32} {l3 : Int32} {l4 : Int32} {S : JS} (h : bX12_findLies_21 X4 X9 X21 l0 l1 l2 l3 l4 S Q) : jLf (jCall jmt jbud d) jbud (fun j => (jmt j).rk) none mX12_findLies (jqV Q) (21, [some (.ref l0), some (.int l1), some (.int l2), some (.int l3), some (.int l4), none, none, none], [], S, 0, 0) := by
  have hc := jCall_mono jmt jbud d
  unfold bX12_findLies_21 at h
  refine jLf.bk hc 2 [] [some (.ref l0), some (.int l1), some (.int l2), some (.int l3), some (.int l4), none, none, none] [.ref l0, .int l4] S rfl rfl rfl trivial ?_
  obtain ⟨g48, h⟩ := h
  refine jLf.inv hc _ rfl (gs := [jA S l0 12, (([.int l4] : List Value).map fun v => v.category).sum ≤ 8, 0 ≤ 0, 0 ≤ 0]) (k := 154) (args := [.ref l0]) (r := [.int l4]) (a := 0) (b := 0) rfl ⟨g48, Nat.le_of_ble_eq_true rfl, Nat.zero_le _, Nat.zero_le _⟩ (vX12_rocks d (by omega) h) ?_
  rintro v S46 ⟨r47, rfl, h⟩
  show jLf (jCall jmt jbud d) jbud (fun j => (jmt j).rk) none mX12_findLies (jqV Q) (24, [some (.ref l0), some (.int l1), some (.int l2), some (.int l3), some (.int l4), none, none, none], [.int r47, .int l4], S46, 0, 0)
  refine jLf.two hc _ rfl (gs := []) (p1 := r47 ≤ l4) (p2 := ¬ (r47 ≤ l4)) (c1 := (69, [some (.ref l0), some (.int l1), some (.int l2), some (.int l3), some (.int l4), none, none, none], [], S46, 0, 0)) (c2 := (25, [some (.ref l0), some (.int l1), some (.int l2), some (.int l3), some (.int l4), none, none, none], [], S46, 0, 0)) rfl trivial (fun hz => ?_) (fun hz => ?_)
  · have h := h.1 hz
    refine jLf.sub [some (.ref l0), some (.int l1), some (.int l2), some (.int l3), none, none, none, none] (jle_same (jle_same (jle_same (jle_same (jle_none (jle_same (jle_same (jle_same (jle_nil _))))))))) ?_
    exact tX12_findLies_69 d hd hX4 hX9 h
  · have h := h.2 hz
    refine jLf.bk hc 1 [] [some (.ref l0), some (.int l1), some (.int l2), some (.int l3), some (.int l4), none, none, none] [.int l1] S46 rfl rfl rfl trivial ?_
    refine jLf.two hc _ rfl (gs := []) (p1 := l1 ≤ 0) (p2 := ¬ (l1 ≤ 0)) (c1 := (69, [some (.ref l0), some (.int l1), some (.int l2), some (.int l3), some (.int l4), none, none, none], [], S46, 0, 0)) (c2 := (27, [some (.ref l0), some (.int l1), some (.int l2), some (.int l3), some (.int l4), none, none, none], [], S46, 0, 0)) rfl trivial (fun hz => ?_) (fun hz => ?_)
    · have h := h.1 hz
      refine jLf.sub [some (.ref l0), some (.int l1), some (.int l2), some (.int l3), none, none, none, none] (jle_same (jle_same (jle_same (jle_same (jle_none (jle_same (jle_same (jle_same (jle_nil _))))))))) ?_
      exact tX12_findLies_69 d hd hX4 hX9 h
    · have h := h.2 hz
      obtain ⟨g57, g58, g59, g60, h⟩ := h
      refine jLf.bk hc 11 [jA S46 l0 12, ¬ jR S46 l0 33 = none, jA S46 (jr S46 l0 33) 13, vp_in ((((9 : Int32) * l1) - (9 : Int32)) + l4) (jZ S46 (jr S46 l0 33))] [some (.ref l0), some (.int l1), some (.int l2), some (.int l3), some (.int l4), none, none, none] [.int l2, .int (jI S46 (jr S46 l0 33) ((((9 : Int32) * l1) - (9 : Int32)) + l4).toNatClampNeg)] S46 rfl rfl rfl ⟨g57, g58, g59, g60⟩ ?_
      refine jLf.inv hc _ rfl (gs := [2 ≤ ([.int l2, .int (jI S46 (jr S46 l0 33) ((((9 : Int32) * l1) - (9 : Int32)) + l4).toNatClampNeg)] : List Value).length, (([] : List Value).map fun v => v.category).sum ≤ 8, 0 ≤ 0, 0 ≤ 0]) (k := 149) (args := [.int (jI S46 (jr S46 l0 33) ((((9 : Int32) * l1) - (9 : Int32)) + l4).toNatClampNeg), .int l2]) (r := []) (a := 0) (b := 0) rfl ⟨Nat.le_of_ble_eq_true rfl, Nat.le_of_ble_eq_true rfl, Nat.zero_le _, Nat.zero_le _⟩ (vX12_is d (by omega) h) ?_
      rintro v S61 ⟨r62, rfl, h⟩
      show jLf (jCall jmt jbud d) jbud (fun j => (jmt j).rk) none mX12_findLies (jqV Q) (39, [some (.ref l0), some (.int l1), some (.int l2), some (.int l3), some (.int l4), none, none, none], [.int r62], S61, 0, 0)
      refine jLf.bk hc 2 [] [some (.ref l0), some (.int l1), some (.int l2), some (.int l3), some (.int l4), some (.int r62), none, none] [.int r62] S61 rfl rfl rfl trivial ?_
      refine jLf.two hc _ rfl (gs := []) (p1 := r62 = 0) (p2 := ¬ (r62 = 0)) (c1 := (65, [some (.ref l0), some (.int l1), some (.int l2), some (.int l3), some (.int l4), some (.int r62), none, none], [], S61, 0, 0)) (c2 := (42, [some (.ref l0), some (.int l1), some (.int l2), some (.int l3), some (.int l4), some (.int r62), none, none], [], S61, 0, 0)) rfl trivial (fun hz => ?_) (fun hz => ?_)
      · have h := h.1 hz
        refine jLf.sub [some (.ref l0), some (.int l1), some (.int l2), some (.int l3), some (.int l4), none, none, none] (jle_same (jle_same (jle_same (jle_same (jle_same (jle_none (jle_same (jle_same (jle_nil _))))))))) ?_
        exact tX12_findLies_65 d hd hX4 hX9 hX21 h
      · have h := h.2 hz
        obtain ⟨g64, g65, g66, g67, h⟩ := h
        refine jLf.bk hc 11 [jA S61 l0 12, ¬ jR S61 l0 34 = none, jA S61 (jr S61 l0 34) 13, vp_in ((((9 : Int32) * l1) - (9 : Int32)) + l4) (jZ S61 (jr S61 l0 34))] [some (.ref l0), some (.int l1), some (.int l2), some (.int l3), some (.int l4), some (.int r62), none, none] [.int l3, .int (jI S61 (jr S61 l0 34) ((((9 : Int32) * l1) - (9 : Int32)) + l4).toNatClampNeg)] S61 rfl rfl rfl ⟨g64, g65, g66, g67⟩ ?_
        refine jLf.two hc _ rfl (gs := []) (p1 := l3 ≤ (jI S61 (jr S61 l0 34) ((((9 : Int32) * l1) - (9 : Int32)) + l4).toNatClampNeg)) (p2 := ¬ (l3 ≤ (jI S61 (jr S61 l0 34) ((((9 : Int32) * l1) - (9 : Int32)) + l4).toNatClampNeg))) (c1 := (65, [some (.ref l0), some (.int l1), some (.int l2), some (.int l3), some (.int l4), some (.int r62), none, none], [], S61, 0, 0)) (c2 := (54, [some (.ref l0), some (.int l1), some (.int l2), some (.int l3), some (.int l4), some (.int r62), none, none], [], S61, 0, 0)) rfl trivial (fun hz => ?_) (fun hz => ?_)
        · have h := h.1 hz
          refine jLf.sub [some (.ref l0), some (.int l1), some (.int l2), some (.int l3), some (.int l4), none, none, none] (jle_same (jle_same (jle_same (jle_same (jle_same (jle_none (jle_same (jle_same (jle_nil _))))))))) ?_
          exact tX12_findLies_65 d hd hX4 hX9 hX21 h
        · have h := h.2 hz
          refine jLf.bk hc 10 [jA S61 l0 12, ¬ jR S61 l0 34 = none, jA S61 (jr S61 l0 34) 13, vp_in ((((9 : Int32) * l1) - (9 : Int32)) + l4) (jZ S61 (jr S61 l0 34))] [some (.ref l0), some (.int l1), some (.int l2), some (.int l3), some (.int l4), some (.int r62), none, none] [.int (jI S61 (jr S61 l0 34) ((((9 : Int32) * l1) - (9 : Int32)) + l4).toNatClampNeg)] S61 rfl rfl rfl ⟨g64, g65, g66, g67⟩ ?_
          refine jLf.one hc _ rfl (gs := []) (c := (66, [some (.ref l0), some (.int l1), some (.int l2), some (.int l3), some (.int l4), some (.int r62), none, none], [.int (jI S61 (jr S61 l0 34) ((((9 : Int32) * l1) - (9 : Int32)) + l4).toNatClampNeg)], S61, 0, 0)) rfl trivial ?_
          refine jLf.sub [some (.ref l0), some (.int l1), some (.int l2), none, some (.int l4), none, none, none] (jle_same (jle_same (jle_same (jle_none (jle_same (jle_none (jle_same (jle_same (jle_nil _))))))))) ?_
          exact tX12_findLies_66 d hd hX4 hX9 hX21 h
def wX12_findLies_21  (X4 : Nat → Int32 → JS → Prop) (X9 : Nat → Int32 → Int32 → JS → Prop) (l0 : Nat) (l1 : Int32) (l2 : Int32) (l3 : Int32) (l4 : Int32) (S : JS) (Q : JS → Prop) : Prop :=
  jLoop (fun (X21 : Nat × Int32 × Int32 × Int32 × Int32 × JS → Prop) q => bX12_findLies_21 X4 X9 (fun l0 l1 l2 l3 l4 S => X21 (l0, l1, l2, l3, l4, S)) q.1 q.2.1 q.2.2.1 q.2.2.2.1 q.2.2.2.2.1 q.2.2.2.2.2 Q) (l0, l1, l2, l3, l4, S)
set_option maxRecDepth 20000 in
theorem tX12_findLies_21 {Q : JS → Prop} {X4 : Nat → Int32 → JS → Prop} {X9 : Nat → Int32 → Int32 → JS → Prop} (d : Nat) (hd : 6 ≤ d) (hX4 : ∀ l0 l1 S, X4 l0 l1 S → jLf (jCall jmt jbud d) jbud (fun j => (jmt j).rk) none mX12_findLies (jqV Q) (4, [some (.ref l0), some (.int l1), none, none, none, none, none, none], [], S, 0, 0)) (hX9 : ∀ l0 l1 l2 S, X9 l0 l1 l2 S → jLf (jCall jmt jbud d) jbud (fun j => (jmt j).rk) none mX12_findLies (jqV Q) (9, [some (.ref l0), some (.int l1), some (.int l2), none, none, none, none, none], [], S, 0, 0)) {l0 : Nat} {l1 : Int32} {l2 : Int32} {l3 : Int32} {l4 : Int32} {S : JS} (h : wX12_findLies_21 X4 X9 l0 l1 l2 l3 l4 S Q) : jLf (jCall jmt jbud d) jbud (fun j => (jmt j).rk) none mX12_findLies (jqV Q) (21, [some (.ref l0), some (.int l1), some (.int l2), some (.int l3), some (.int l4), none, none, none], [], S, 0, 0) := by
  have := h (fun q : Nat × Int32 × Int32 × Int32 × Int32 × JS => jLf (jCall jmt jbud d) jbud (fun j => (jmt j).rk) none mX12_findLies (jqV Q) (21, [some (.ref (q.1)), some (.int (q.2.1)), some (.int (q.2.2.1)), some (.int (q.2.2.2.1)), some (.int (q.2.2.2.2.1)), none, none, none], [], q.2.2.2.2.2, 0, 0)) (fun q R hb hR => uX12_findLies_21 d hd hX4 hX9 (fun _ _ _ _ _ _ => hR _) hb)
  exact this
def wX12_findLies_18  (X4 : Nat → Int32 → JS → Prop) (X9 : Nat → Int32 → Int32 → JS → Prop) (l0 : Nat) (l1 : Int32) (l2 : Int32) (s0 : Int32) (S : JS) (Q : JS → Prop) : Prop :=
  wX12_findLies_21 X4 X9 l0 l1 l2 s0 0 S Q
set_option maxRecDepth 20000 in
theorem tX12_findLies_18 {Q : JS → Prop} {X4 : Nat → Int32 → JS → Prop} {X9 : Nat → Int32 → Int32 → JS → Prop} (d : Nat) (hd : 6 ≤ d) (hX4 : ∀ l0 l1 S, X4 l0 l1 S → jLf (jCall jmt jbud d) jbud (fun j => (jmt j).rk) none mX12_findLies (jqV Q) (4, [some (.ref l0), some (.int l1), none, none, none, none, none, none], [], S, 0, 0)) (hX9 : ∀ l0 l1 l2 S, X9 l0 l1 l2 S → jLf (jCall jmt jbud d) jbud (fun j => (jmt j).rk) none mX12_findLies (jqV Q) (9, [some (.ref l0), some (.int l1), some (.int l2), none, none, none, none, none], [], S, 0, 0)) {l0 : Nat} {l1 : Int32} {l2 : Int32} {s0 : Int32} {S : JS} (h : wX12_findLies_18 X4 X9 l0 l1 l2 s0 S Q) : jLf (jCall jmt jbud d) jbud (fun j => (jmt j).rk) none mX12_findLies (jqV Q) (18, [some (.ref l0), some (.int l1), some (.int l2), none, none, none, none, none], [.int s0], S, 0, 0) := by
  have hc := jCall_mono jmt jbud d
  unfold wX12_findLies_18 at h
  refine jLf.bk hc 3 [] [some (.ref l0), some (.int l1), some (.int l2), some (.int s0), some (.int 0), none, none, none] [] S rfl rfl rfl trivial ?_
  exact tX12_findLies_21 d hd hX4 hX9 h
def bX12_findLies_9  (X4 : Nat → Int32 → JS → Prop) (X9 : Nat → Int32 → Int32 → JS → Prop) (l0 : Nat) (l1 : Int32) (l2 : Int32) (S : JS) (Q : JS → Prop) : Prop :=
  jA S l0 12 ∧ (wX12_rocks l0 S (fun r43 S42 => (r43 ≤ l2 → ∀ x45 : Int32, x45 = (l1 + 1) → (X4 l0 x45 S42)) ∧ (¬ (r43 ≤ l2) → (¬ l1 = 0 → wX12_findLies_18 X4 X9 l0 l1 l2 1000000 S42 Q) ∧ (l1 = 0 → wX12_findLies_18 X4 X9 l0 l1 l2 0 S42 Q))))
set_option maxRecDepth 20000 in
theorem uX12_findLies_9 {Q : JS → Prop} {X4 : Nat → Int32 → JS → Prop} (d : Nat) (hd : 6 ≤ d) (hX4 : ∀ l0 l1 S, X4 l0 l1 S → jLf (jCall jmt jbud d) jbud (fun j => (jmt j).rk) none mX12_findLies (jqV Q) (4, [some (.ref l0), some (.int l1), none, none, none, none, none, none], [], S, 0, 0)) {X9 : Nat → Int32 → Int32 → JS → Prop} (hX9 : ∀ l0 l1 l2 S, X9 l0 l1 l2 S → jLf (jCall jmt jbud d) jbud (fun j => (jmt j).rk) none mX12_findLies (jqV Q) (9, [some (.ref l0), some (.int l1), some (.int l2), none, none, none, none, none], [], S, 0, 0)) {l0 : Nat} {l1 : Int32} {l2 : Int32} {S : JS} (h : bX12_findLies_9 X4 X9 l0 l1 l2 S Q) : jLf (jCall jmt jbud d) jbud (fun j => (jmt j).rk) none mX12_findLies (jqV Q) (9, [some (.ref l0), some (.int l1), some (.int l2), none, none, none, none, none], [], S, 0, 0) := by
  have hc := jCall_mono jmt jbud d
  unfold bX12_findLies_9 at h
  refine jLf.bk hc 2 [] [some (.ref l0), some (.int l1), some (.int l2), none, none, none, none, none] [.ref l0, .int l2] S rfl rfl rfl trivial ?_
  obtain ⟨g44, h⟩ := h
  refine jLf.inv hc _ rfl (gs := [jA S l0 12, (([.int l2] : List Value).map fun v => v.category).sum ≤ 8, 0 ≤ 0, 0 ≤ 0]) (k := 154) (args := [.ref l0]) (r := [.int l2]) (a := 0) (b := 0) rfl ⟨g44, Nat.le_of_ble_eq_true rfl, Nat.zero_le _, Nat.zero_le _⟩ (vX12_rocks d (by omega) h) ?_
  rintro v S42 ⟨r43, rfl, h⟩
  show jLf (jCall jmt jbud d) jbud (fun j => (jmt j).rk) none mX12_findLies (jqV Q) (12, [some (.ref l0), some (.int l1), some (.int l2), none, none, none, none, none], [.int r43, .int l2], S42, 0, 0)
  refine jLf.two hc _ rfl (gs := []) (p1 := r43 ≤ l2) (p2 := ¬ (r43 ≤ l2)) (c1 := (85, [some (.ref l0), some (.int l1), some (.int l2), none, none, none, none, none], [], S42, 0, 0)) (c2 := (13, [some (.ref l0), some (.int l1), some (.int l2), none, none, none, none, none], [], S42, 0, 0)) rfl trivial (fun hz => ?_) (fun hz => ?_)
  · have h := h.1 hz
    refine jLf.bk hc 1 [] [some (.ref l0), some (.int (l1 + 1)), some (.int l2), none, none, none, none, none] [] S42 rfl rfl rfl trivial ?_
    generalize ex45 : (l1 + 1 : Int32) = x45
    have h := h x45 ex45.symm
    refine jLf.one hc _ rfl (gs := []) (c := (4, [some (.ref l0), some (.int x45), some (.int l2), none, none, none, none, none], [], S42, 0, 0)) rfl trivial ?_
    refine jLf.sub [some (.ref l0), some (.int x45), none, none, none, none, none, none] (jle_same (jle_same (jle_none (jle_same (jle_same (jle_same (jle_same (jle_same (jle_nil _))))))))) ?_
    exact hX4 _ _ _ h
  · have h := h.2 hz
    refine jLf.bk hc 1 [] [some (.ref l0), some (.int l1), some (.int l2), none, none, none, none, none] [.int l1] S42 rfl rfl rfl trivial ?_
    refine jLf.two hc _ rfl (gs := []) (p1 := ¬ l1 = 0) (p2 := ¬ (¬ l1 = 0)) (c1 := (17, [some (.ref l0), some (.int l1), some (.int l2), none, none, none, none, none], [], S42, 0, 0)) (c2 := (15, [some (.ref l0), some (.int l1), some (.int l2), none, none, none, none, none], [], S42, 0, 0)) rfl trivial (fun hz => ?_) (fun hz => ?_)
    · have h := h.1 hz
      refine jLf.bk hc 1 [] [some (.ref l0), some (.int l1), some (.int l2), none, none, none, none, none] [.int 1000000] S42 rfl rfl rfl trivial ?_
      exact tX12_findLies_18 d hd hX4 hX9 h
    · have h := h.2 (Classical.not_not.mp hz)
      refine jLf.bk hc 1 [] [some (.ref l0), some (.int l1), some (.int l2), none, none, none, none, none] [.int 0] S42 rfl rfl rfl trivial ?_
      refine jLf.one hc _ rfl (gs := []) (c := (18, [some (.ref l0), some (.int l1), some (.int l2), none, none, none, none, none], [.int 0], S42, 0, 0)) rfl trivial ?_
      exact tX12_findLies_18 d hd hX4 hX9 h
def wX12_findLies_9  (X4 : Nat → Int32 → JS → Prop) (l0 : Nat) (l1 : Int32) (l2 : Int32) (S : JS) (Q : JS → Prop) : Prop :=
  jLoop (fun (X9 : Nat × Int32 × Int32 × JS → Prop) q => bX12_findLies_9 X4 (fun l0 l1 l2 S => X9 (l0, l1, l2, S)) q.1 q.2.1 q.2.2.1 q.2.2.2 Q) (l0, l1, l2, S)
set_option maxRecDepth 20000 in
theorem tX12_findLies_9 {Q : JS → Prop} {X4 : Nat → Int32 → JS → Prop} (d : Nat) (hd : 6 ≤ d) (hX4 : ∀ l0 l1 S, X4 l0 l1 S → jLf (jCall jmt jbud d) jbud (fun j => (jmt j).rk) none mX12_findLies (jqV Q) (4, [some (.ref l0), some (.int l1), none, none, none, none, none, none], [], S, 0, 0)) {l0 : Nat} {l1 : Int32} {l2 : Int32} {S : JS} (h : wX12_findLies_9 X4 l0 l1 l2 S Q) : jLf (jCall jmt jbud d) jbud (fun j => (jmt j).rk) none mX12_findLies (jqV Q) (9, [some (.ref l0), some (.int l1), some (.int l2), none, none, none, none, none], [], S, 0, 0) := by
  have := h (fun q : Nat × Int32 × Int32 × JS => jLf (jCall jmt jbud d) jbud (fun j => (jmt j).rk) none mX12_findLies (jqV Q) (9, [some (.ref (q.1)), some (.int (q.2.1)), some (.int (q.2.2.1)), none, none, none, none, none], [], q.2.2.2, 0, 0)) (fun q R hb hR => uX12_findLies_9 d hd hX4 (fun _ _ _ _ => hR _) hb)
  exact this
def bX12_findLies_4   (X4 : Nat → Int32 → JS → Prop) (l0 : Nat) (l1 : Int32) (S : JS) (Q : JS → Prop) : Prop :=
  (59 < l1 → wX12_findLies_89 l0 59 S Q) ∧ (¬ (59 < l1) → wX12_findLies_9 X4 l0 l1 0 S Q)
set_option maxRecDepth 20000 in
theorem uX12_findLies_4 {Q : JS → Prop}  (d : Nat) (hd : 6 ≤ d) {X4 : Nat → Int32 → JS → Prop} (hX4 : ∀ l0 l1 S, X4 l0 l1 S → jLf (jCall jmt jbud d) jbud (fun j => (jmt j).rk) none mX12_findLies (jqV Q) (4, [some (.ref l0), some (.int l1), none, none, none, none, none, none], [], S, 0, 0)) {l0 : Nat} {l1 : Int32} {S : JS} (h : bX12_findLies_4 X4 l0 l1 S Q) : jLf (jCall jmt jbud d) jbud (fun j => (jmt j).rk) none mX12_findLies (jqV Q) (4, [some (.ref l0), some (.int l1), none, none, none, none, none, none], [], S, 0, 0) := by
  have hc := jCall_mono jmt jbud d
  unfold bX12_findLies_4 at h
  refine jLf.bk hc 2 [] [some (.ref l0), some (.int l1), none, none, none, none, none, none] [.int 59, .int l1] S rfl rfl rfl trivial ?_
  refine jLf.two hc _ rfl (gs := []) (p1 := 59 < l1) (p2 := ¬ (59 < l1)) (c1 := (87, [some (.ref l0), some (.int l1), none, none, none, none, none, none], [], S, 0, 0)) (c2 := (7, [some (.ref l0), some (.int l1), none, none, none, none, none, none], [], S, 0, 0)) rfl trivial (fun hz => ?_) (fun hz => ?_)
  · have h := h.1 hz
    refine jLf.bk hc 2 [] [some (.ref l0), some (.int 59), none, none, none, none, none, none] [] S rfl rfl rfl trivial ?_
    exact tX12_findLies_89 d hd  h
  · have h := h.2 hz
    refine jLf.bk hc 2 [] [some (.ref l0), some (.int l1), some (.int 0), none, none, none, none, none] [] S rfl rfl rfl trivial ?_
    exact tX12_findLies_9 d hd hX4 h
def wX12_findLies_4   (l0 : Nat) (l1 : Int32) (S : JS) (Q : JS → Prop) : Prop :=
  jLoop (fun (X4 : Nat × Int32 × JS → Prop) q => bX12_findLies_4 (fun l0 l1 S => X4 (l0, l1, S)) q.1 q.2.1 q.2.2 Q) (l0, l1, S)
set_option maxRecDepth 20000 in
theorem tX12_findLies_4 {Q : JS → Prop}  (d : Nat) (hd : 6 ≤ d) {l0 : Nat} {l1 : Int32} {S : JS} (h : wX12_findLies_4 l0 l1 S Q) : jLf (jCall jmt jbud d) jbud (fun j => (jmt j).rk) none mX12_findLies (jqV Q) (4, [some (.ref l0), some (.int l1), none, none, none, none, none, none], [], S, 0, 0) := by
  have := h (fun q : Nat × Int32 × JS => jLf (jCall jmt jbud d) jbud (fun j => (jmt j).rk) none mX12_findLies (jqV Q) (4, [some (.ref (q.1)), some (.int (q.2.1)), none, none, none, none, none, none], [], q.2.2, 0, 0)) (fun q R hb hR => uX12_findLies_4 d hd  (fun _ _ _ => hR _) hb)
  exact this
def wX12_findLies  (this : Nat) (S : JS) (Q : JS → Prop) : Prop :=
  jA S this 12 ∧ (wX12_layOut this S (fun S1 => wX12_findLies_4 this 0 S1 Q))
set_option maxRecDepth 20000 in
theorem vX12_findLies {Q : JS → Prop} (d : Nat) (hd : 7 ≤ d) {this : Nat} {S : JS} (h : wX12_findLies this S Q) : jCall jmt jbud d 212 [.ref this] S (jqV Q) := by
  obtain ⟨d, rfl⟩ : ∃ d2, d = d2 + 1 := ⟨d - 1, by omega⟩
  have hd : 6 ≤ d := by omega
  have hc := jCall_mono jmt jbud d
  unfold wX12_findLies at h
  refine ⟨Nat.le_of_ble_eq_true rfl, ?_⟩
  show jLf (jCall jmt jbud d) jbud (fun j => (jmt j).rk) none mX12_findLies (jqV Q) (0, [some (.ref this), none, none, none, none, none, none, none], [], S, 0, 0)
  refine jLf.bk hc 1 [] [some (.ref this), none, none, none, none, none, none, none] [.ref this] S rfl rfl rfl trivial ?_
  obtain ⟨g3, h⟩ := h
  refine jLf.inv hc _ rfl (gs := [jA S this 12, (([] : List Value).map fun v => v.category).sum ≤ 8, 0 ≤ 0, 0 ≤ 0]) (k := 210) (args := [.ref this]) (r := []) (a := 0) (b := 0) rfl ⟨g3, Nat.le_of_ble_eq_true rfl, Nat.zero_le _, Nat.zero_le _⟩ (vX12_layOut d (by omega) h) ?_
  rintro v S1 ⟨rfl, h⟩
  show jLf (jCall jmt jbud d) jbud (fun j => (jmt j).rk) none mX12_findLies (jqV Q) (2, [some (.ref this), none, none, none, none, none, none, none], [], S1, 0, 0)
  refine jLf.bk hc 2 [] [some (.ref this), some (.int 0), none, none, none, none, none, none] [] S1 rfl rfl rfl trivial ?_
  exact tX12_findLies_4 d hd  h
def wX12_fewest_20  (X4 : Nat → Int32 → Int32 → JS → Prop) (l0 : Nat) (l2 : Int32) (s0 : Int32) (S : JS) (Q : Int32 → JS → Prop) : Prop :=
  ∀ x8 : Int32, x8 = (l2 + 1) → (X4 l0 s0 x8 S)
set_option maxRecDepth 20000 in
theorem tX12_fewest_20 {Q : Int32 → JS → Prop} {X4 : Nat → Int32 → Int32 → JS → Prop} (d : Nat) (hd : 1 ≤ d) (hX4 : ∀ l0 l1 l2 S, X4 l0 l1 l2 S → jLf (jCall jmt jbud d) jbud (fun j => (jmt j).rk) none mX12_fewest (jqI Q) (4, [some (.ref l0), some (.int l1), some (.int l2)], [], S, 0, 0)) {l0 : Nat} {l2 : Int32} {s0 : Int32} {S : JS} (h : wX12_fewest_20 X4 l0 l2 s0 S Q) : jLf (jCall jmt jbud d) jbud (fun j => (jmt j).rk) none mX12_fewest (jqI Q) (20, [some (.ref l0), none, some (.int l2)], [.int s0], S, 0, 0) := by
  have hc := jCall_mono jmt jbud d
  unfold wX12_fewest_20 at h
  refine jLf.bk hc 2 [] [some (.ref l0), some (.int s0), some (.int (l2 + 1))] [] S rfl rfl rfl trivial ?_
  generalize ex8 : (l2 + 1 : Int32) = x8
  have h := h x8 ex8.symm
  refine jLf.one hc _ rfl (gs := []) (c := (4, [some (.ref l0), some (.int s0), some (.int x8)], [], S, 0, 0)) rfl trivial ?_
  exact hX4 _ _ _ _ h
def bX12_fewest_4   (X4 : Nat → Int32 → Int32 → JS → Prop) (l0 : Nat) (l1 : Int32) (l2 : Int32) (S : JS) (Q : Int32 → JS → Prop) : Prop :=
  jA S l0 12 ∧ (wX12_rocks l0 S (fun r2 S1 => (r2 ≤ l2 → Q l1 S1) ∧ (¬ (r2 ≤ l2) → jA S1 l0 12 ∧ (¬ jR S1 l0 35 = none ∧ (jA S1 (jr S1 l0 35) 13 ∧ (vp_in l2 (jZ S1 (jr S1 l0 35)) ∧ ((l1 ≤ (jI S1 (jr S1 l0 35) l2.toNatClampNeg) → wX12_fewest_20 X4 l0 l2 l1 S1 Q) ∧ (¬ (l1 ≤ (jI S1 (jr S1 l0 35) l2.toNatClampNeg)) → wX12_fewest_20 X4 l0 l2 (jI S1 (jr S1 l0 35) l2.toNatClampNeg) S1 Q))))))))
set_option maxRecDepth 20000 in
theorem uX12_fewest_4 {Q : Int32 → JS → Prop}  (d : Nat) (hd : 1 ≤ d) {X4 : Nat → Int32 → Int32 → JS → Prop} (hX4 : ∀ l0 l1 l2 S, X4 l0 l1 l2 S → jLf (jCall jmt jbud d) jbud (fun j => (jmt j).rk) none mX12_fewest (jqI Q) (4, [some (.ref l0), some (.int l1), some (.int l2)], [], S, 0, 0)) {l0 : Nat} {l1 : Int32} {l2 : Int32} {S : JS} (h : bX12_fewest_4 X4 l0 l1 l2 S Q) : jLf (jCall jmt jbud d) jbud (fun j => (jmt j).rk) none mX12_fewest (jqI Q) (4, [some (.ref l0), some (.int l1), some (.int l2)], [], S, 0, 0) := by
  have hc := jCall_mono jmt jbud d
  unfold bX12_fewest_4 at h
  refine jLf.bk hc 2 [] [some (.ref l0), some (.int l1), some (.int l2)] [.ref l0, .int l2] S rfl rfl rfl trivial ?_
  obtain ⟨g3, h⟩ := h
  refine jLf.inv hc _ rfl (gs := [jA S l0 12, (([.int l2] : List Value).map fun v => v.category).sum ≤ 8, 0 ≤ 0, 0 ≤ 0]) (k := 154) (args := [.ref l0]) (r := [.int l2]) (a := 0) (b := 0) rfl ⟨g3, Nat.le_of_ble_eq_true rfl, Nat.zero_le _, Nat.zero_le _⟩ (vX12_rocks d (by omega) h) ?_
  rintro v S1 ⟨r2, rfl, h⟩
  show jLf (jCall jmt jbud d) jbud (fun j => (jmt j).rk) none mX12_fewest (jqI Q) (7, [some (.ref l0), some (.int l1), some (.int l2)], [.int r2, .int l2], S1, 0, 0)
  refine jLf.two hc _ rfl (gs := []) (p1 := r2 ≤ l2) (p2 := ¬ (r2 ≤ l2)) (c1 := (23, [some (.ref l0), some (.int l1), some (.int l2)], [], S1, 0, 0)) (c2 := (8, [some (.ref l0), some (.int l1), some (.int l2)], [], S1, 0, 0)) rfl trivial (fun hz => ?_) (fun hz => ?_)
  · have h := h.1 hz
    refine jLf.bk hc 1 [] [some (.ref l0), some (.int l1), some (.int l2)] [.int l1] S1 rfl rfl rfl trivial ?_
    exact jLf.ret hc _ rfl (gs := [True]) (v := some (.int l1)) rfl trivial ⟨l1, rfl, h⟩
  · have h := h.2 hz
    obtain ⟨g4, g5, g6, g7, h⟩ := h
    refine jLf.bk hc 5 [jA S1 l0 12, ¬ jR S1 l0 35 = none, jA S1 (jr S1 l0 35) 13, vp_in l2 (jZ S1 (jr S1 l0 35))] [some (.ref l0), some (.int l1), some (.int l2)] [.int l1, .int (jI S1 (jr S1 l0 35) l2.toNatClampNeg)] S1 rfl rfl rfl ⟨g4, g5, g6, g7⟩ ?_
    refine jLf.two hc _ rfl (gs := []) (p1 := l1 ≤ (jI S1 (jr S1 l0 35) l2.toNatClampNeg)) (p2 := ¬ (l1 ≤ (jI S1 (jr S1 l0 35) l2.toNatClampNeg))) (c1 := (19, [some (.ref l0), some (.int l1), some (.int l2)], [], S1, 0, 0)) (c2 := (14, [some (.ref l0), some (.int l1), some (.int l2)], [], S1, 0, 0)) rfl trivial (fun hz => ?_) (fun hz => ?_)
    · have h := h.1 hz
      refine jLf.bk hc 1 [] [some (.ref l0), some (.int l1), some (.int l2)] [.int l1] S1 rfl rfl rfl trivial ?_
      refine jLf.sub [some (.ref l0), none, some (.int l2)] (jle_same (jle_none (jle_same (jle_nil _)))) ?_
      exact tX12_fewest_20 d hd hX4 h
    · have h := h.2 hz
      refine jLf.bk hc 4 [jA S1 l0 12, ¬ jR S1 l0 35 = none, jA S1 (jr S1 l0 35) 13, vp_in l2 (jZ S1 (jr S1 l0 35))] [some (.ref l0), some (.int l1), some (.int l2)] [.int (jI S1 (jr S1 l0 35) l2.toNatClampNeg)] S1 rfl rfl rfl ⟨g4, g5, g6, g7⟩ ?_
      refine jLf.one hc _ rfl (gs := []) (c := (20, [some (.ref l0), some (.int l1), some (.int l2)], [.int (jI S1 (jr S1 l0 35) l2.toNatClampNeg)], S1, 0, 0)) rfl trivial ?_
      refine jLf.sub [some (.ref l0), none, some (.int l2)] (jle_same (jle_none (jle_same (jle_nil _)))) ?_
      exact tX12_fewest_20 d hd hX4 h
def wX12_fewest_4   (l0 : Nat) (l1 : Int32) (l2 : Int32) (S : JS) (Q : Int32 → JS → Prop) : Prop :=
  jLoop (fun (X4 : Nat × Int32 × Int32 × JS → Prop) q => bX12_fewest_4 (fun l0 l1 l2 S => X4 (l0, l1, l2, S)) q.1 q.2.1 q.2.2.1 q.2.2.2 Q) (l0, l1, l2, S)
set_option maxRecDepth 20000 in
theorem tX12_fewest_4 {Q : Int32 → JS → Prop}  (d : Nat) (hd : 1 ≤ d) {l0 : Nat} {l1 : Int32} {l2 : Int32} {S : JS} (h : wX12_fewest_4 l0 l1 l2 S Q) : jLf (jCall jmt jbud d) jbud (fun j => (jmt j).rk) none mX12_fewest (jqI Q) (4, [some (.ref l0), some (.int l1), some (.int l2)], [], S, 0, 0) := by
  have := h (fun q : Nat × Int32 × Int32 × JS => jLf (jCall jmt jbud d) jbud (fun j => (jmt j).rk) none mX12_fewest (jqI Q) (4, [some (.ref (q.1)), some (.int (q.2.1)), some (.int (q.2.2.1))], [], q.2.2.2, 0, 0)) (fun q R hb hR => uX12_fewest_4 d hd  (fun _ _ _ _ => hR _) hb)
  exact this
def wX12_fewest  (this : Nat) (S : JS) (Q : Int32 → JS → Prop) : Prop :=
  wX12_fewest_4 this 1000000 0 S Q
set_option maxRecDepth 20000 in
theorem vX12_fewest {Q : Int32 → JS → Prop} (d : Nat) (hd : 2 ≤ d) {this : Nat} {S : JS} (h : wX12_fewest this S Q) : jCall jmt jbud d 213 [.ref this] S (jqI Q) := by
  obtain ⟨d, rfl⟩ : ∃ d2, d = d2 + 1 := ⟨d - 1, by omega⟩
  have hd : 1 ≤ d := by omega
  have hc := jCall_mono jmt jbud d
  unfold wX12_fewest at h
  refine ⟨Nat.le_of_ble_eq_true rfl, ?_⟩
  show jLf (jCall jmt jbud d) jbud (fun j => (jmt j).rk) none mX12_fewest (jqI Q) (0, [some (.ref this), none, none], [], S, 0, 0)
  refine jLf.bk hc 4 [] [some (.ref this), some (.int 1000000), some (.int 0)] [] S rfl rfl rfl trivial ?_
  exact tX12_fewest_4 d hd  h
def wX12_likelyIn_38  (X4 : Nat → Int32 → Int32 → Int32 → Int32 → JS → Prop) (l0 : Nat) (l1 : Int32) (l2 : Int32) (l4 : Int32) (s0 : Int32) (s1 : Int32) (S : JS) (Q : Int32 → JS → Prop) : Prop :=
  ∀ x13 : Int32, x13 = (s1 ||| s0) → (∀ x14 : Int32, x14 = (l4 + 1) → (X4 l0 l1 l2 x13 x14 S))
set_option maxRecDepth 20000 in
theorem tX12_likelyIn_38 {Q : Int32 → JS → Prop} {X4 : Nat → Int32 → Int32 → Int32 → Int32 → JS → Prop} (d : Nat) (hd : 1 ≤ d) (hX4 : ∀ l0 l1 l2 l3 l4 S, X4 l0 l1 l2 l3 l4 S → jLf (jCall jmt jbud d) jbud (fun j => (jmt j).rk) none mX12_likelyIn (jqI Q) (4, [some (.ref l0), some (.int l1), some (.int l2), some (.int l3), some (.int l4)], [], S, 0, 0)) {l0 : Nat} {l1 : Int32} {l2 : Int32} {l4 : Int32} {s0 : Int32} {s1 : Int32} {S : JS} (h : wX12_likelyIn_38 X4 l0 l1 l2 l4 s0 s1 S Q) : jLf (jCall jmt jbud d) jbud (fun j => (jmt j).rk) none mX12_likelyIn (jqI Q) (38, [some (.ref l0), some (.int l1), some (.int l2), none, some (.int l4)], [.int s0, .int s1], S, 0, 0) := by
  have hc := jCall_mono jmt jbud d
  unfold wX12_likelyIn_38 at h
  refine jLf.bk hc 2 [] [some (.ref l0), some (.int l1), some (.int l2), some (.int (s1 ||| s0)), some (.int l4)] [] S rfl rfl rfl trivial ?_
  generalize ex13 : (s1 ||| s0 : Int32) = x13
  have h := h x13 ex13.symm
  refine jLf.bk hc 1 [] [some (.ref l0), some (.int l1), some (.int l2), some (.int x13), some (.int (l4 + 1))] [] S rfl rfl rfl trivial ?_
  generalize ex14 : (l4 + 1 : Int32) = x14
  have h := h x14 ex14.symm
  refine jLf.one hc _ rfl (gs := []) (c := (4, [some (.ref l0), some (.int l1), some (.int l2), some (.int x13), some (.int x14)], [], S, 0, 0)) rfl trivial ?_
  exact hX4 _ _ _ _ _ _ h
def bX12_likelyIn_4   (X4 : Nat → Int32 → Int32 → Int32 → Int32 → JS → Prop) (l0 : Nat) (l1 : Int32) (l2 : Int32) (l3 : Int32) (l4 : Int32) (S : JS) (Q : Int32 → JS → Prop) : Prop :=
  jA S l0 12 ∧ (wX12_rocks l0 S (fun r2 S1 => (r2 ≤ l4 → Q l3 S1) ∧ (¬ (r2 ≤ l4) → jA S1 l0 12 ∧ (¬ jR S1 l0 34 = none ∧ (jA S1 (jr S1 l0 34) 13 ∧ (vp_in (((9 : Int32) * l1) + l4) (jZ S1 (jr S1 l0 34)) ∧ (¬ jR S1 l0 35 = none ∧ (jA S1 (jr S1 l0 35) 13 ∧ (vp_in (((9 : Int32) * l1) + l4) (jZ S1 (jr S1 l0 35)) ∧ (wX12_liesAt l0 l1 l4 S1 (fun r12 S11 => (¬ (((jI S1 (jr S1 l0 34) (((9 : Int32) * l1) + l4).toNatClampNeg) + (jI S1 (jr S1 l0 35) (((9 : Int32) * l1) + l4).toNatClampNeg)) - r12) = l2 → wX12_likelyIn_38 X4 l0 l1 l2 l4 0 l3 S11 Q) ∧ ((((jI S1 (jr S1 l0 34) (((9 : Int32) * l1) + l4).toNatClampNeg) + (jI S1 (jr S1 l0 35) (((9 : Int32) * l1) + l4).toNatClampNeg)) - r12) = l2 → wX12_likelyIn_38 X4 l0 l1 l2 l4 ((1 : Int32) <<< (l4 &&& 31)) l3 S11 Q))))))))))))
set_option maxRecDepth 20000 in
theorem uX12_likelyIn_4 {Q : Int32 → JS → Prop}  (d : Nat) (hd : 1 ≤ d) {X4 : Nat → Int32 → Int32 → Int32 → Int32 → JS → Prop} (hX4 : ∀ l0 l1 l2 l3 l4 S, X4 l0 l1 l2 l3 l4 S → jLf (jCall jmt jbud d) jbud (fun j => (jmt j).rk) none mX12_likelyIn (jqI Q) (4, [some (.ref l0), some (.int l1), some (.int l2), some (.int l3), some (.int l4)], [], S, 0, 0)) {l0 : Nat} {l1 : Int32} {l2 : Int32} {l3 : Int32} {l4 : Int32} {S : JS} (h : bX12_likelyIn_4 X4 l0 l1 l2 l3 l4 S Q) : jLf (jCall jmt jbud d) jbud (fun j => (jmt j).rk) none mX12_likelyIn (jqI Q) (4, [some (.ref l0), some (.int l1), some (.int l2), some (.int l3), some (.int l4)], [], S, 0, 0) := by
  have hc := jCall_mono jmt jbud d
  unfold bX12_likelyIn_4 at h
  refine jLf.bk hc 2 [] [some (.ref l0), some (.int l1), some (.int l2), some (.int l3), some (.int l4)] [.ref l0, .int l4] S rfl rfl rfl trivial ?_
  obtain ⟨g3, h⟩ := h
  refine jLf.inv hc _ rfl (gs := [jA S l0 12, (([.int l4] : List Value).map fun v => v.category).sum ≤ 8, 0 ≤ 0, 0 ≤ 0]) (k := 154) (args := [.ref l0]) (r := [.int l4]) (a := 0) (b := 0) rfl ⟨g3, Nat.le_of_ble_eq_true rfl, Nat.zero_le _, Nat.zero_le _⟩ (vX12_rocks d (by omega) h) ?_
  rintro v S1 ⟨r2, rfl, h⟩
  show jLf (jCall jmt jbud d) jbud (fun j => (jmt j).rk) none mX12_likelyIn (jqI Q) (7, [some (.ref l0), some (.int l1), some (.int l2), some (.int l3), some (.int l4)], [.int r2, .int l4], S1, 0, 0)
  refine jLf.two hc _ rfl (gs := []) (p1 := r2 ≤ l4) (p2 := ¬ (r2 ≤ l4)) (c1 := (42, [some (.ref l0), some (.int l1), some (.int l2), some (.int l3), some (.int l4)], [], S1, 0, 0)) (c2 := (8, [some (.ref l0), some (.int l1), some (.int l2), some (.int l3), some (.int l4)], [], S1, 0, 0)) rfl trivial (fun hz => ?_) (fun hz => ?_)
  · have h := h.1 hz
    refine jLf.bk hc 1 [] [some (.ref l0), some (.int l1), some (.int l2), some (.int l3), some (.int l4)] [.int l3] S1 rfl rfl rfl trivial ?_
    exact jLf.ret hc _ rfl (gs := [True]) (v := some (.int l3)) rfl trivial ⟨l3, rfl, h⟩
  · have h := h.2 hz
    obtain ⟨g4, g5, g6, g7, g8, g9, g10, h⟩ := h
    refine jLf.bk hc 21 [jA S1 l0 12, ¬ jR S1 l0 34 = none, jA S1 (jr S1 l0 34) 13, vp_in (((9 : Int32) * l1) + l4) (jZ S1 (jr S1 l0 34)), jA S1 l0 12, ¬ jR S1 l0 35 = none, jA S1 (jr S1 l0 35) 13, vp_in (((9 : Int32) * l1) + l4) (jZ S1 (jr S1 l0 35))] [some (.ref l0), some (.int l1), some (.int l2), some (.int l3), some (.int l4)] [.int l4, .int l1, .ref l0, .int ((jI S1 (jr S1 l0 34) (((9 : Int32) * l1) + l4).toNatClampNeg) + (jI S1 (jr S1 l0 35) (((9 : Int32) * l1) + l4).toNatClampNeg)), .int l3] S1 rfl rfl rfl ⟨g4, g5, g6, g7, g4, g8, g9, g10⟩ ?_
    refine jLf.inv hc _ rfl (gs := [jA S1 l0 12, (([.int ((jI S1 (jr S1 l0 34) (((9 : Int32) * l1) + l4).toNatClampNeg) + (jI S1 (jr S1 l0 35) (((9 : Int32) * l1) + l4).toNatClampNeg)), .int l3] : List Value).map fun v => v.category).sum ≤ 8, 0 ≤ 0, 0 ≤ 0]) (k := 211) (args := [.ref l0, .int l1, .int l4]) (r := [.int ((jI S1 (jr S1 l0 34) (((9 : Int32) * l1) + l4).toNatClampNeg) + (jI S1 (jr S1 l0 35) (((9 : Int32) * l1) + l4).toNatClampNeg)), .int l3]) (a := 0) (b := 0) rfl ⟨g4, Nat.le_of_ble_eq_true rfl, Nat.zero_le _, Nat.zero_le _⟩ (vX12_liesAt d (by omega) h) ?_
    rintro v S11 ⟨r12, rfl, h⟩
    show jLf (jCall jmt jbud d) jbud (fun j => (jmt j).rk) none mX12_likelyIn (jqI Q) (30, [some (.ref l0), some (.int l1), some (.int l2), some (.int l3), some (.int l4)], [.int r12, .int ((jI S1 (jr S1 l0 34) (((9 : Int32) * l1) + l4).toNatClampNeg) + (jI S1 (jr S1 l0 35) (((9 : Int32) * l1) + l4).toNatClampNeg)), .int l3], S11, 0, 0)
    refine jLf.bk hc 2 [] [some (.ref l0), some (.int l1), some (.int l2), some (.int l3), some (.int l4)] [.int l2, .int (((jI S1 (jr S1 l0 34) (((9 : Int32) * l1) + l4).toNatClampNeg) + (jI S1 (jr S1 l0 35) (((9 : Int32) * l1) + l4).toNatClampNeg)) - r12), .int l3] S11 rfl rfl rfl trivial ?_
    refine jLf.two hc _ rfl (gs := []) (p1 := ¬ (((jI S1 (jr S1 l0 34) (((9 : Int32) * l1) + l4).toNatClampNeg) + (jI S1 (jr S1 l0 35) (((9 : Int32) * l1) + l4).toNatClampNeg)) - r12) = l2) (p2 := ¬ (¬ (((jI S1 (jr S1 l0 34) (((9 : Int32) * l1) + l4).toNatClampNeg) + (jI S1 (jr S1 l0 35) (((9 : Int32) * l1) + l4).toNatClampNeg)) - r12) = l2)) (c1 := (37, [some (.ref l0), some (.int l1), some (.int l2), some (.int l3), some (.int l4)], [.int l3], S11, 0, 0)) (c2 := (33, [some (.ref l0), some (.int l1), some (.int l2), some (.int l3), some (.int l4)], [.int l3], S11, 0, 0)) rfl trivial (fun hz => ?_) (fun hz => ?_)
    · have h := h.1 hz
      refine jLf.bk hc 1 [] [some (.ref l0), some (.int l1), some (.int l2), some (.int l3), some (.int l4)] [.int 0, .int l3] S11 rfl rfl rfl trivial ?_
      refine jLf.sub [some (.ref l0), some (.int l1), some (.int l2), none, some (.int l4)] (jle_same (jle_same (jle_same (jle_none (jle_same (jle_nil _)))))) ?_
      exact tX12_likelyIn_38 d hd hX4 h
    · have h := h.2 (Classical.not_not.mp hz)
      refine jLf.bk hc 3 [] [some (.ref l0), some (.int l1), some (.int l2), some (.int l3), some (.int l4)] [.int ((1 : Int32) <<< (l4 &&& 31)), .int l3] S11 rfl rfl rfl trivial ?_
      refine jLf.one hc _ rfl (gs := []) (c := (38, [some (.ref l0), some (.int l1), some (.int l2), some (.int l3), some (.int l4)], [.int ((1 : Int32) <<< (l4 &&& 31)), .int l3], S11, 0, 0)) rfl trivial ?_
      refine jLf.sub [some (.ref l0), some (.int l1), some (.int l2), none, some (.int l4)] (jle_same (jle_same (jle_same (jle_none (jle_same (jle_nil _)))))) ?_
      exact tX12_likelyIn_38 d hd hX4 h
def wX12_likelyIn_4   (l0 : Nat) (l1 : Int32) (l2 : Int32) (l3 : Int32) (l4 : Int32) (S : JS) (Q : Int32 → JS → Prop) : Prop :=
  jLoop (fun (X4 : Nat × Int32 × Int32 × Int32 × Int32 × JS → Prop) q => bX12_likelyIn_4 (fun l0 l1 l2 l3 l4 S => X4 (l0, l1, l2, l3, l4, S)) q.1 q.2.1 q.2.2.1 q.2.2.2.1 q.2.2.2.2.1 q.2.2.2.2.2 Q) (l0, l1, l2, l3, l4, S)
set_option maxRecDepth 20000 in
theorem tX12_likelyIn_4 {Q : Int32 → JS → Prop}  (d : Nat) (hd : 1 ≤ d) {l0 : Nat} {l1 : Int32} {l2 : Int32} {l3 : Int32} {l4 : Int32} {S : JS} (h : wX12_likelyIn_4 l0 l1 l2 l3 l4 S Q) : jLf (jCall jmt jbud d) jbud (fun j => (jmt j).rk) none mX12_likelyIn (jqI Q) (4, [some (.ref l0), some (.int l1), some (.int l2), some (.int l3), some (.int l4)], [], S, 0, 0) := by
  have := h (fun q : Nat × Int32 × Int32 × Int32 × Int32 × JS => jLf (jCall jmt jbud d) jbud (fun j => (jmt j).rk) none mX12_likelyIn (jqI Q) (4, [some (.ref (q.1)), some (.int (q.2.1)), some (.int (q.2.2.1)), some (.int (q.2.2.2.1)), some (.int (q.2.2.2.2.1))], [], q.2.2.2.2.2, 0, 0)) (fun q R hb hR => uX12_likelyIn_4 d hd  (fun _ _ _ _ _ _ => hR _) hb)
  exact this
def wX12_likelyIn  (this : Nat) (p1 : Int32) (p2 : Int32) (S : JS) (Q : Int32 → JS → Prop) : Prop :=
  wX12_likelyIn_4 this p1 p2 0 0 S Q
set_option maxRecDepth 20000 in
theorem vX12_likelyIn {Q : Int32 → JS → Prop} (d : Nat) (hd : 2 ≤ d) {this : Nat} {p1 : Int32} {p2 : Int32} {S : JS} (h : wX12_likelyIn this p1 p2 S Q) : jCall jmt jbud d 214 [.ref this, .int p1, .int p2] S (jqI Q) := by
  obtain ⟨d, rfl⟩ : ∃ d2, d = d2 + 1 := ⟨d - 1, by omega⟩
  have hd : 1 ≤ d := by omega
  have hc := jCall_mono jmt jbud d
  unfold wX12_likelyIn at h
  refine ⟨Nat.le_of_ble_eq_true rfl, ?_⟩
  show jLf (jCall jmt jbud d) jbud (fun j => (jmt j).rk) none mX12_likelyIn (jqI Q) (0, [some (.ref this), some (.int p1), some (.int p2), none, none], [], S, 0, 0)
  refine jLf.bk hc 4 [] [some (.ref this), some (.int p1), some (.int p2), some (.int 0), some (.int 0)] [] S rfl rfl rfl trivial ?_
  exact tX12_likelyIn_4 d hd  h
def wX12_could  (this : Nat) (p1 : Int32) (S : JS) (Q : Int32 → JS → Prop) : Prop :=
  jA S this 12 ∧ (∀ S2 : JS, S2 = uI S this 0 0 → (wX12_isNight p1 S2 (fun r4 S3 => (¬ r4 = 0 → jA S3 this 12 ∧ (wX12_findLies this S3 (fun S5 => jA S5 this 12 ∧ (wX12_likelyIn this p1 0 S5 (fun r9 S8 => Q r9 S8))))) ∧ (r4 = 0 → Q (-1) S3))))
set_option maxRecDepth 20000 in
theorem vX12_could {Q : Int32 → JS → Prop} (d : Nat) (hd : 8 ≤ d) {this : Nat} {p1 : Int32} {S : JS} (h : wX12_could this p1 S Q) : jCall jmt jbud d 215 [.ref this, .int p1] S (jqI Q) := by
  obtain ⟨d, rfl⟩ : ∃ d2, d = d2 + 1 := ⟨d - 1, by omega⟩
  have hd : 7 ≤ d := by omega
  have hc := jCall_mono jmt jbud d
  unfold wX12_could at h
  refine ⟨Nat.le_of_ble_eq_true rfl, ?_⟩
  show jLf (jCall jmt jbud d) jbud (fun j => (jmt j).rk) none mX12_could (jqI Q) (0, [some (.ref this), some (.int p1)], [], S, 0, 0)
  obtain ⟨g1, h⟩ := h
  refine jLf.bk hc 3 [jA S this 12] [some (.ref this), some (.int p1)] [] (uI S this 0 0) rfl rfl rfl g1 ?_
  generalize eS2 : uI S this 0 0 = S2
  have h := h S2 eS2.symm
  refine jLf.bk hc 1 [] [some (.ref this), some (.int p1)] [.int p1] S2 rfl rfl rfl trivial ?_
  refine jLf.inv hc _ rfl (gs := [1 ≤ ([.int p1] : List Value).length, (([] : List Value).map fun v => v.category).sum ≤ 8, 0 ≤ 0, 0 ≤ 0]) (k := 156) (args := [.int p1]) (r := []) (a := 0) (b := 0) rfl ⟨Nat.le_of_ble_eq_true rfl, Nat.le_of_ble_eq_true rfl, Nat.zero_le _, Nat.zero_le _⟩ (vX12_isNight d (by omega) h) ?_
  rintro v S3 ⟨r4, rfl, h⟩
  show jLf (jCall jmt jbud d) jbud (fun j => (jmt j).rk) none mX12_could (jqI Q) (5, [some (.ref this), some (.int p1)], [.int r4], S3, 0, 0)
  refine jLf.two hc _ rfl (gs := []) (p1 := ¬ r4 = 0) (p2 := ¬ (¬ r4 = 0)) (c1 := (8, [some (.ref this), some (.int p1)], [], S3, 0, 0)) (c2 := (6, [some (.ref this), some (.int p1)], [], S3, 0, 0)) rfl trivial (fun hz => ?_) (fun hz => ?_)
  · have h := h.1 hz
    refine jLf.bk hc 1 [] [some (.ref this), some (.int p1)] [.ref this] S3 rfl rfl rfl trivial ?_
    obtain ⟨g7, h⟩ := h
    refine jLf.inv hc _ rfl (gs := [jA S3 this 12, (([] : List Value).map fun v => v.category).sum ≤ 8, 0 ≤ 0, 0 ≤ 0]) (k := 212) (args := [.ref this]) (r := []) (a := 0) (b := 0) rfl ⟨g7, Nat.le_of_ble_eq_true rfl, Nat.zero_le _, Nat.zero_le _⟩ (vX12_findLies d (by omega) h) ?_
    rintro v S5 ⟨rfl, h⟩
    show jLf (jCall jmt jbud d) jbud (fun j => (jmt j).rk) none mX12_could (jqI Q) (10, [some (.ref this), some (.int p1)], [], S5, 0, 0)
    refine jLf.bk hc 3 [] [some (.ref this), some (.int p1)] [.int 0, .int p1, .ref this] S5 rfl rfl rfl trivial ?_
    obtain ⟨g10, h⟩ := h
    refine jLf.inv hc _ rfl (gs := [jA S5 this 12, (([] : List Value).map fun v => v.category).sum ≤ 8, 0 ≤ 0, 0 ≤ 0]) (k := 214) (args := [.ref this, .int p1, .int 0]) (r := []) (a := 0) (b := 0) rfl ⟨g10, Nat.le_of_ble_eq_true rfl, Nat.zero_le _, Nat.zero_le _⟩ (vX12_likelyIn d (by omega) h) ?_
    rintro v S8 ⟨r9, rfl, h⟩
    show jLf (jCall jmt jbud d) jbud (fun j => (jmt j).rk) none mX12_could (jqI Q) (14, [some (.ref this), some (.int p1)], [.int r9], S8, 0, 0)
    exact jLf.ret hc _ rfl (gs := [True]) (v := some (.int r9)) rfl trivial ⟨r9, rfl, h⟩
  · have h := h.2 (Classical.not_not.mp hz)
    refine jLf.bk hc 1 [] [some (.ref this), some (.int p1)] [.int (-1)] S3 rfl rfl rfl trivial ?_
    exact jLf.ret hc _ rfl (gs := [True]) (v := some (.int (-1))) rfl trivial ⟨(-1), rfl, h⟩
def wX12_lies  (this : Nat) (S : JS) (Q : Int32 → JS → Prop) : Prop :=
  jA S this 12 ∧ (∀ S2 : JS, S2 = uI S this 0 0 → (jA S2 this 12 ∧ (wX12_findLies this S2 (fun S3 => jA S3 this 12 ∧ (wX12_fewest this S3 (fun r7 S6 => Q r7 S6))))))
set_option maxRecDepth 20000 in
theorem vX12_lies {Q : Int32 → JS → Prop} (d : Nat) (hd : 8 ≤ d) {this : Nat} {S : JS} (h : wX12_lies this S Q) : jCall jmt jbud d 216 [.ref this] S (jqI Q) := by
  obtain ⟨d, rfl⟩ : ∃ d2, d = d2 + 1 := ⟨d - 1, by omega⟩
  have hd : 7 ≤ d := by omega
  have hc := jCall_mono jmt jbud d
  unfold wX12_lies at h
  refine ⟨Nat.le_of_ble_eq_true rfl, ?_⟩
  show jLf (jCall jmt jbud d) jbud (fun j => (jmt j).rk) none mX12_lies (jqI Q) (0, [some (.ref this)], [], S, 0, 0)
  obtain ⟨g1, h⟩ := h
  refine jLf.bk hc 3 [jA S this 12] [some (.ref this)] [] (uI S this 0 0) rfl rfl rfl g1 ?_
  generalize eS2 : uI S this 0 0 = S2
  have h := h S2 eS2.symm
  refine jLf.bk hc 1 [] [some (.ref this)] [.ref this] S2 rfl rfl rfl trivial ?_
  obtain ⟨g5, h⟩ := h
  refine jLf.inv hc _ rfl (gs := [jA S2 this 12, (([] : List Value).map fun v => v.category).sum ≤ 8, 0 ≤ 0, 0 ≤ 0]) (k := 212) (args := [.ref this]) (r := []) (a := 0) (b := 0) rfl ⟨g5, Nat.le_of_ble_eq_true rfl, Nat.zero_le _, Nat.zero_le _⟩ (vX12_findLies d (by omega) h) ?_
  rintro v S3 ⟨rfl, h⟩
  show jLf (jCall jmt jbud d) jbud (fun j => (jmt j).rk) none mX12_lies (jqI Q) (5, [some (.ref this)], [], S3, 0, 0)
  refine jLf.bk hc 1 [] [some (.ref this)] [.ref this] S3 rfl rfl rfl trivial ?_
  obtain ⟨g8, h⟩ := h
  refine jLf.inv hc _ rfl (gs := [jA S3 this 12, (([] : List Value).map fun v => v.category).sum ≤ 8, 0 ≤ 0, 0 ≤ 0]) (k := 213) (args := [.ref this]) (r := []) (a := 0) (b := 0) rfl ⟨g8, Nat.le_of_ble_eq_true rfl, Nat.zero_le _, Nat.zero_le _⟩ (vX12_fewest d (by omega) h) ?_
  rintro v S6 ⟨r7, rfl, h⟩
  show jLf (jCall jmt jbud d) jbud (fun j => (jmt j).rk) none mX12_lies (jqI Q) (7, [some (.ref this)], [.int r7], S6, 0, 0)
  exact jLf.ret hc _ rfl (gs := [True]) (v := some (.int r7)) rfl trivial ⟨r7, rfl, h⟩
def wX12_ways_27  (X9 : Nat → Int64 → Int32 → JS → Prop) (l0 : Nat) (l3 : Int32) (s0 : Int64) (s1 : Int64) (S : JS) (Q : Int64 → JS → Prop) : Prop :=
  ∀ x15 : Int64, x15 = (s1 + s0) → (∀ x16 : Int32, x16 = (l3 + 1) → (X9 l0 x15 x16 S))
set_option maxRecDepth 20000 in
theorem tX12_ways_27 {Q : Int64 → JS → Prop} {X9 : Nat → Int64 → Int32 → JS → Prop} (d : Nat) (hd : 7 ≤ d) (hX9 : ∀ l0 l1 l3 S, X9 l0 l1 l3 S → jLf (jCall jmt jbud d) jbud (fun j => (jmt j).rk) none mX12_ways (jqL Q) (9, [some (.ref l0), some (.long l1), none, some (.int l3)], [], S, 0, 0)) {l0 : Nat} {l3 : Int32} {s0 : Int64} {s1 : Int64} {S : JS} (h : wX12_ways_27 X9 l0 l3 s0 s1 S Q) : jLf (jCall jmt jbud d) jbud (fun j => (jmt j).rk) none mX12_ways (jqL Q) (27, [some (.ref l0), none, none, some (.int l3)], [.long s0, .long s1], S, 0, 0) := by
  have hc := jCall_mono jmt jbud d
  unfold wX12_ways_27 at h
  refine jLf.bk hc 2 [] [some (.ref l0), some (.long (s1 + s0)), none, some (.int l3)] [] S rfl rfl rfl trivial ?_
  generalize ex15 : (s1 + s0 : Int64) = x15
  have h := h x15 ex15.symm
  refine jLf.bk hc 1 [] [some (.ref l0), some (.long x15), none, some (.int (l3 + 1))] [] S rfl rfl rfl trivial ?_
  generalize ex16 : (l3 + 1 : Int32) = x16
  have h := h x16 ex16.symm
  refine jLf.one hc _ rfl (gs := []) (c := (9, [some (.ref l0), some (.long x15), none, some (.int x16)], [], S, 0, 0)) rfl trivial ?_
  exact hX9 _ _ _ _ h
def bX12_ways_9   (X9 : Nat → Int64 → Int32 → JS → Prop) (l0 : Nat) (l1 : Int64) (l3 : Int32) (S : JS) (Q : Int64 → JS → Prop) : Prop :=
  jA S l0 12 ∧ (wX12_rocks l0 S (fun r7 S6 => (r7 ≤ l3 → ((lg_cmp l1 (1000000000000 : Int64)) ≤ 0 → Q l1 S6) ∧ (¬ ((lg_cmp l1 (1000000000000 : Int64)) ≤ 0) → Q 1000000000000 S6)) ∧ (¬ (r7 ≤ l3) → jA S6 l0 12 ∧ (¬ jR S6 l0 35 = none ∧ (jA S6 (jr S6 l0 35) 13 ∧ (vp_in l3 (jZ S6 (jr S6 l0 35)) ∧ (wX12_fewest l0 S6 (fun r14 S13 => (¬ (jI S6 (jr S6 l0 35) l3.toNatClampNeg) = r14 → wX12_ways_27 X9 l0 l3 0 l1 S13 Q) ∧ ((jI S6 (jr S6 l0 35) l3.toNatClampNeg) = r14 → jA S13 l0 12 ∧ (¬ jR S13 l0 36 = none ∧ (jA S13 (jr S13 l0 36) 14 ∧ (vp_in l3 (jZ S13 (jr S13 l0 36)) ∧ (wX12_ways_27 X9 l0 l3 (jJ S13 (jr S13 l0 36) l3.toNatClampNeg) l1 S13 Q)))))))))))))
set_option maxRecDepth 20000 in
theorem uX12_ways_9 {Q : Int64 → JS → Prop}  (d : Nat) (hd : 7 ≤ d) {X9 : Nat → Int64 → Int32 → JS → Prop} (hX9 : ∀ l0 l1 l3 S, X9 l0 l1 l3 S → jLf (jCall jmt jbud d) jbud (fun j => (jmt j).rk) none mX12_ways (jqL Q) (9, [some (.ref l0), some (.long l1), none, some (.int l3)], [], S, 0, 0)) {l0 : Nat} {l1 : Int64} {l3 : Int32} {S : JS} (h : bX12_ways_9 X9 l0 l1 l3 S Q) : jLf (jCall jmt jbud d) jbud (fun j => (jmt j).rk) none mX12_ways (jqL Q) (9, [some (.ref l0), some (.long l1), none, some (.int l3)], [], S, 0, 0) := by
  have hc := jCall_mono jmt jbud d
  unfold bX12_ways_9 at h
  refine jLf.bk hc 2 [] [some (.ref l0), some (.long l1), none, some (.int l3)] [.ref l0, .int l3] S rfl rfl rfl trivial ?_
  obtain ⟨g8, h⟩ := h
  refine jLf.inv hc _ rfl (gs := [jA S l0 12, (([.int l3] : List Value).map fun v => v.category).sum ≤ 8, 0 ≤ 0, 0 ≤ 0]) (k := 154) (args := [.ref l0]) (r := [.int l3]) (a := 0) (b := 0) rfl ⟨g8, Nat.le_of_ble_eq_true rfl, Nat.zero_le _, Nat.zero_le _⟩ (vX12_rocks d (by omega) h) ?_
  rintro v S6 ⟨r7, rfl, h⟩
  show jLf (jCall jmt jbud d) jbud (fun j => (jmt j).rk) none mX12_ways (jqL Q) (12, [some (.ref l0), some (.long l1), none, some (.int l3)], [.int r7, .int l3], S6, 0, 0)
  refine jLf.two hc _ rfl (gs := []) (p1 := r7 ≤ l3) (p2 := ¬ (r7 ≤ l3)) (c1 := (31, [some (.ref l0), some (.long l1), none, some (.int l3)], [], S6, 0, 0)) (c2 := (13, [some (.ref l0), some (.long l1), none, some (.int l3)], [], S6, 0, 0)) rfl trivial (fun hz => ?_) (fun hz => ?_)
  · have h := h.1 hz
    refine jLf.bk hc 3 [] [some (.ref l0), some (.long l1), none, some (.int l3)] [.int (lg_cmp l1 (1000000000000 : Int64))] S6 rfl rfl rfl trivial ?_
    refine jLf.two hc _ rfl (gs := []) (p1 := (lg_cmp l1 (1000000000000 : Int64)) ≤ 0) (p2 := ¬ ((lg_cmp l1 (1000000000000 : Int64)) ≤ 0)) (c1 := (37, [some (.ref l0), some (.long l1), none, some (.int l3)], [], S6, 0, 0)) (c2 := (35, [some (.ref l0), some (.long l1), none, some (.int l3)], [], S6, 0, 0)) rfl trivial (fun hz => ?_) (fun hz => ?_)
    · have h := h.1 hz
      refine jLf.bk hc 1 [] [some (.ref l0), some (.long l1), none, some (.int l3)] [.long l1] S6 rfl rfl rfl trivial ?_
      exact jLf.ret hc _ rfl (gs := [True]) (v := some (.long l1)) rfl trivial ⟨l1, rfl, h⟩
    · have h := h.2 hz
      refine jLf.bk hc 1 [] [some (.ref l0), some (.long l1), none, some (.int l3)] [.long 1000000000000] S6 rfl rfl rfl trivial ?_
      refine jLf.one hc _ rfl (gs := []) (c := (38, [some (.ref l0), some (.long l1), none, some (.int l3)], [.long 1000000000000], S6, 0, 0)) rfl trivial ?_
      exact jLf.ret hc _ rfl (gs := [True]) (v := some (.long 1000000000000)) rfl trivial ⟨1000000000000, rfl, h⟩
  · have h := h.2 hz
    obtain ⟨g9, g10, g11, g12, h⟩ := h
    refine jLf.bk hc 6 [jA S6 l0 12, ¬ jR S6 l0 35 = none, jA S6 (jr S6 l0 35) 13, vp_in l3 (jZ S6 (jr S6 l0 35))] [some (.ref l0), some (.long l1), none, some (.int l3)] [.ref l0, .int (jI S6 (jr S6 l0 35) l3.toNatClampNeg), .long l1] S6 rfl rfl rfl ⟨g9, g10, g11, g12⟩ ?_
    refine jLf.inv hc _ rfl (gs := [jA S6 l0 12, (([.int (jI S6 (jr S6 l0 35) l3.toNatClampNeg), .long l1] : List Value).map fun v => v.category).sum ≤ 8, 0 ≤ 0, 0 ≤ 0]) (k := 213) (args := [.ref l0]) (r := [.int (jI S6 (jr S6 l0 35) l3.toNatClampNeg), .long l1]) (a := 0) (b := 0) rfl ⟨g9, Nat.le_of_ble_eq_true rfl, Nat.zero_le _, Nat.zero_le _⟩ (vX12_fewest d (by omega) h) ?_
    rintro v S13 ⟨r14, rfl, h⟩
    show jLf (jCall jmt jbud d) jbud (fun j => (jmt j).rk) none mX12_ways (jqL Q) (20, [some (.ref l0), some (.long l1), none, some (.int l3)], [.int r14, .int (jI S6 (jr S6 l0 35) l3.toNatClampNeg), .long l1], S13, 0, 0)
    refine jLf.two hc _ rfl (gs := []) (p1 := ¬ (jI S6 (jr S6 l0 35) l3.toNatClampNeg) = r14) (p2 := ¬ (¬ (jI S6 (jr S6 l0 35) l3.toNatClampNeg) = r14)) (c1 := (26, [some (.ref l0), some (.long l1), none, some (.int l3)], [.long l1], S13, 0, 0)) (c2 := (21, [some (.ref l0), some (.long l1), none, some (.int l3)], [.long l1], S13, 0, 0)) rfl trivial (fun hz => ?_) (fun hz => ?_)
    · have h := h.1 hz
      refine jLf.bk hc 1 [] [some (.ref l0), some (.long l1), none, some (.int l3)] [.long 0, .long l1] S13 rfl rfl rfl trivial ?_
      refine jLf.sub [some (.ref l0), none, none, some (.int l3)] (jle_same (jle_none (jle_same (jle_same (jle_nil _))))) ?_
      exact tX12_ways_27 d hd hX9 h
    · have h := h.2 (Classical.not_not.mp hz)
      obtain ⟨g17, g18, g19, g20, h⟩ := h
      refine jLf.bk hc 4 [jA S13 l0 12, ¬ jR S13 l0 36 = none, jA S13 (jr S13 l0 36) 14, vp_in l3 (jZ S13 (jr S13 l0 36))] [some (.ref l0), some (.long l1), none, some (.int l3)] [.long (jJ S13 (jr S13 l0 36) l3.toNatClampNeg), .long l1] S13 rfl rfl rfl ⟨g17, g18, g19, g20⟩ ?_
      refine jLf.one hc _ rfl (gs := []) (c := (27, [some (.ref l0), some (.long l1), none, some (.int l3)], [.long (jJ S13 (jr S13 l0 36) l3.toNatClampNeg), .long l1], S13, 0, 0)) rfl trivial ?_
      refine jLf.sub [some (.ref l0), none, none, some (.int l3)] (jle_same (jle_none (jle_same (jle_same (jle_nil _))))) ?_
      exact tX12_ways_27 d hd hX9 h
def wX12_ways_9   (l0 : Nat) (l1 : Int64) (l3 : Int32) (S : JS) (Q : Int64 → JS → Prop) : Prop :=
  jLoop (fun (X9 : Nat × Int64 × Int32 × JS → Prop) q => bX12_ways_9 (fun l0 l1 l3 S => X9 (l0, l1, l3, S)) q.1 q.2.1 q.2.2.1 q.2.2.2 Q) (l0, l1, l3, S)
set_option maxRecDepth 20000 in
theorem tX12_ways_9 {Q : Int64 → JS → Prop}  (d : Nat) (hd : 7 ≤ d) {l0 : Nat} {l1 : Int64} {l3 : Int32} {S : JS} (h : wX12_ways_9 l0 l1 l3 S Q) : jLf (jCall jmt jbud d) jbud (fun j => (jmt j).rk) none mX12_ways (jqL Q) (9, [some (.ref l0), some (.long l1), none, some (.int l3)], [], S, 0, 0) := by
  have := h (fun q : Nat × Int64 × Int32 × JS => jLf (jCall jmt jbud d) jbud (fun j => (jmt j).rk) none mX12_ways (jqL Q) (9, [some (.ref (q.1)), some (.long (q.2.1)), none, some (.int (q.2.2.1))], [], q.2.2.2, 0, 0)) (fun q R hb hR => uX12_ways_9 d hd  (fun _ _ _ _ => hR _) hb)
  exact this
def wX12_ways  (this : Nat) (S : JS) (Q : Int64 → JS → Prop) : Prop :=
  jA S this 12 ∧ (∀ S2 : JS, S2 = uI S this 0 0 → (jA S2 this 12 ∧ (wX12_findLies this S2 (fun S3 => wX12_ways_9 this 0 0 S3 Q))))
set_option maxRecDepth 20000 in
theorem vX12_ways {Q : Int64 → JS → Prop} (d : Nat) (hd : 8 ≤ d) {this : Nat} {S : JS} (h : wX12_ways this S Q) : jCall jmt jbud d 217 [.ref this] S (jqL Q) := by
  obtain ⟨d, rfl⟩ : ∃ d2, d = d2 + 1 := ⟨d - 1, by omega⟩
  have hd : 7 ≤ d := by omega
  have hc := jCall_mono jmt jbud d
  unfold wX12_ways at h
  refine ⟨Nat.le_of_ble_eq_true rfl, ?_⟩
  show jLf (jCall jmt jbud d) jbud (fun j => (jmt j).rk) none mX12_ways (jqL Q) (0, [some (.ref this), none, none, none], [], S, 0, 0)
  obtain ⟨g1, h⟩ := h
  refine jLf.bk hc 3 [jA S this 12] [some (.ref this), none, none, none] [] (uI S this 0 0) rfl rfl rfl g1 ?_
  generalize eS2 : uI S this 0 0 = S2
  have h := h S2 eS2.symm
  refine jLf.bk hc 1 [] [some (.ref this), none, none, none] [.ref this] S2 rfl rfl rfl trivial ?_
  obtain ⟨g5, h⟩ := h
  refine jLf.inv hc _ rfl (gs := [jA S2 this 12, (([] : List Value).map fun v => v.category).sum ≤ 8, 0 ≤ 0, 0 ≤ 0]) (k := 212) (args := [.ref this]) (r := []) (a := 0) (b := 0) rfl ⟨g5, Nat.le_of_ble_eq_true rfl, Nat.zero_le _, Nat.zero_le _⟩ (vX12_findLies d (by omega) h) ?_
  rintro v S3 ⟨rfl, h⟩
  show jLf (jCall jmt jbud d) jbud (fun j => (jmt j).rk) none mX12_ways (jqL Q) (5, [some (.ref this), none, none, none], [], S3, 0, 0)
  refine jLf.bk hc 4 [] [some (.ref this), some (.long 0), none, some (.int 0)] [] S3 rfl rfl rfl trivial ?_
  exact tX12_ways_9 d hd  h
def wX12_likely_79  (X37 : Nat → Int32 → Int32 → Int32 → JS → Prop) (X56 : Nat → Int32 → Int32 → Int32 → Int32 → Int32 → JS → Prop) (l0 : Nat) (l1 : Int32) (l3 : Int32) (l4 : Int32) (l5 : Int32) (l6 : Int32) (S : JS) (Q : Int32 → JS → Prop) : Prop :=
  ∀ x29 : Int32, x29 = (l6 + 1) → (X56 l0 l1 l3 l4 l5 x29 S)
set_option maxRecDepth 20000 in
theorem tX12_likely_79 {Q : Int32 → JS → Prop} {X37 : Nat → Int32 → Int32 → Int32 → JS → Prop} {X56 : Nat → Int32 → Int32 → Int32 → Int32 → Int32 → JS → Prop} (d : Nat) (hd : 7 ≤ d) (hX37 : ∀ l0 l1 l3 l4 S, X37 l0 l1 l3 l4 S → jLf (jCall jmt jbud d) jbud (fun j => (jmt j).rk) none mX12_likely (jqI Q) (37, [some (.ref l0), some (.int l1), none, some (.int l3), some (.int l4), none, none], [], S, 0, 0)) (hX56 : ∀ l0 l1 l3 l4 l5 l6 S, X56 l0 l1 l3 l4 l5 l6 S → jLf (jCall jmt jbud d) jbud (fun j => (jmt j).rk) none mX12_likely (jqI Q) (56, [some (.ref l0), some (.int l1), none, some (.int l3), some (.int l4), some (.int l5), some (.int l6)], [], S, 0, 0)) {l0 : Nat} {l1 : Int32} {l3 : Int32} {l4 : Int32} {l5 : Int32} {l6 : Int32} {S : JS} (h : wX12_likely_79 X37 X56 l0 l1 l3 l4 l5 l6 S Q) : jLf (jCall jmt jbud d) jbud (fun j => (jmt j).rk) none mX12_likely (jqI Q) (79, [some (.ref l0), some (.int l1), none, some (.int l3), some (.int l4), some (.int l5), some (.int l6)], [], S, 0, 0) := by
  have hc := jCall_mono jmt jbud d
  unfold wX12_likely_79 at h
  refine jLf.bk hc 1 [] [some (.ref l0), some (.int l1), none, some (.int l3), some (.int l4), some (.int l5), some (.int (l6 + 1))] [] S rfl rfl rfl trivial ?_
  generalize ex29 : (l6 + 1 : Int32) = x29
  have h := h x29 ex29.symm
  refine jLf.one hc _ rfl (gs := []) (c := (56, [some (.ref l0), some (.int l1), none, some (.int l3), some (.int l4), some (.int l5), some (.int x29)], [], S, 0, 0)) rfl trivial ?_
  exact hX56 _ _ _ _ _ _ _ h
def bX12_likely_56  (X37 : Nat → Int32 → Int32 → Int32 → JS → Prop) (X56 : Nat → Int32 → Int32 → Int32 → Int32 → Int32 → JS → Prop) (l0 : Nat) (l1 : Int32) (l3 : Int32) (l4 : Int32) (l5 : Int32) (l6 : Int32) (S : JS) (Q : Int32 → JS → Prop) : Prop :=
  jA S l0 12 ∧ (¬ jR S l0 33 = none ∧ (jA S (jr S l0 33) 13 ∧ (vp_in (((9 : Int32) * l4) + l3) (jZ S (jr S l0 33)) ∧ (wX12_is (jI S (jr S l0 33) (((9 : Int32) * l4) + l3).toNatClampNeg) l6 S (fun r28 S27 => (r28 = 0 → wX12_likely_79 X37 X56 l0 l1 l3 l4 l5 l6 S27 Q) ∧ (¬ r28 = 0 → jA S27 l0 12 ∧ (¬ jR S27 l0 35 = none ∧ (jA S27 (jr S27 l0 35) 13 ∧ (vp_in ((((9 : Int32) * l4) + (9 : Int32)) + l6) (jZ S27 (jr S27 l0 35)) ∧ (((jI S27 (jr S27 l0 35) ((((9 : Int32) * l4) + (9 : Int32)) + l6).toNatClampNeg) = l5 → ∀ x34 : Int32, x34 = (l4 + 1) → (X37 l0 l1 l6 x34 S27)) ∧ (¬ (jI S27 (jr S27 l0 35) ((((9 : Int32) * l4) + (9 : Int32)) + l6).toNatClampNeg) = l5 → wX12_likely_79 X37 X56 l0 l1 l3 l4 l5 l6 S27 Q)))))))))))
set_option maxRecDepth 20000 in
theorem uX12_likely_56 {Q : Int32 → JS → Prop} {X37 : Nat → Int32 → Int32 → Int32 → JS → Prop} (d : Nat) (hd : 7 ≤ d) (hX37 : ∀ l0 l1 l3 l4 S, X37 l0 l1 l3 l4 S → jLf (jCall jmt jbud d) jbud (fun j => (jmt j).rk) none mX12_likely (jqI Q) (37, [some (.ref l0), some (.int l1), none, some (.int l3), some (.int l4), none, none], [], S, 0, 0)) {X56 : Nat → Int32 → Int32 → Int32 → Int32 → Int32 → JS → Prop} (hX56 : ∀ l0 l1 l3 l4 l5 l6 S, X56 l0 l1 l3 l4 l5 l6 S → jLf (jCall jmt jbud d) jbud (fun j => (jmt j).rk) none mX12_likely (jqI Q) (56, [some (.ref l0), some (.int l1), none, some (.int l3), some (.int l4), some (.int l5), some (.int l6)], [], S, 0, 0)) {l0 : Nat} {l1 : Int32} {l3 : Int32} {l4 : Int32} {l5 : Int32} {l6 : Int32} {S : JS} (h : bX12_likely_56 X37 X56 l0 l1 l3 l4 l5 l6 S Q) : jLf (jCall jmt jbud d) jbud (fun j => (jmt j).rk) none mX12_likely (jqI Q) (56, [some (.ref l0), some (.int l1), none, some (.int l3), some (.int l4), some (.int l5), some (.int l6)], [], S, 0, 0) := by
  have hc := jCall_mono jmt jbud d
  unfold bX12_likely_56 at h
  obtain ⟨g23, g24, g25, g26, h⟩ := h
  refine jLf.bk hc 9 [jA S l0 12, ¬ jR S l0 33 = none, jA S (jr S l0 33) 13, vp_in (((9 : Int32) * l4) + l3) (jZ S (jr S l0 33))] [some (.ref l0), some (.int l1), none, some (.int l3), some (.int l4), some (.int l5), some (.int l6)] [.int l6, .int (jI S (jr S l0 33) (((9 : Int32) * l4) + l3).toNatClampNeg)] S rfl rfl rfl ⟨g23, g24, g25, g26⟩ ?_
  refine jLf.inv hc _ rfl (gs := [2 ≤ ([.int l6, .int (jI S (jr S l0 33) (((9 : Int32) * l4) + l3).toNatClampNeg)] : List Value).length, (([] : List Value).map fun v => v.category).sum ≤ 8, 0 ≤ 0, 0 ≤ 0]) (k := 149) (args := [.int (jI S (jr S l0 33) (((9 : Int32) * l4) + l3).toNatClampNeg), .int l6]) (r := []) (a := 0) (b := 0) rfl ⟨Nat.le_of_ble_eq_true rfl, Nat.le_of_ble_eq_true rfl, Nat.zero_le _, Nat.zero_le _⟩ (vX12_is d (by omega) h) ?_
  rintro v S27 ⟨r28, rfl, h⟩
  show jLf (jCall jmt jbud d) jbud (fun j => (jmt j).rk) none mX12_likely (jqI Q) (66, [some (.ref l0), some (.int l1), none, some (.int l3), some (.int l4), some (.int l5), some (.int l6)], [.int r28], S27, 0, 0)
  refine jLf.two hc _ rfl (gs := []) (p1 := r28 = 0) (p2 := ¬ (r28 = 0)) (c1 := (79, [some (.ref l0), some (.int l1), none, some (.int l3), some (.int l4), some (.int l5), some (.int l6)], [], S27, 0, 0)) (c2 := (67, [some (.ref l0), some (.int l1), none, some (.int l3), some (.int l4), some (.int l5), some (.int l6)], [], S27, 0, 0)) rfl trivial (fun hz => ?_) (fun hz => ?_)
  · have h := h.1 hz
    exact tX12_likely_79 d hd hX37 hX56 h
  · have h := h.2 hz
    obtain ⟨g30, g31, g32, g33, h⟩ := h
    refine jLf.bk hc 11 [jA S27 l0 12, ¬ jR S27 l0 35 = none, jA S27 (jr S27 l0 35) 13, vp_in ((((9 : Int32) * l4) + (9 : Int32)) + l6) (jZ S27 (jr S27 l0 35))] [some (.ref l0), some (.int l1), none, some (.int l3), some (.int l4), some (.int l5), some (.int l6)] [.int l5, .int (jI S27 (jr S27 l0 35) ((((9 : Int32) * l4) + (9 : Int32)) + l6).toNatClampNeg)] S27 rfl rfl rfl ⟨g30, g31, g32, g33⟩ ?_
    refine jLf.two hc _ rfl (gs := []) (p1 := (jI S27 (jr S27 l0 35) ((((9 : Int32) * l4) + (9 : Int32)) + l6).toNatClampNeg) = l5) (p2 := ¬ ((jI S27 (jr S27 l0 35) ((((9 : Int32) * l4) + (9 : Int32)) + l6).toNatClampNeg) = l5)) (c1 := (81, [some (.ref l0), some (.int l1), none, some (.int l3), some (.int l4), some (.int l5), some (.int l6)], [], S27, 0, 0)) (c2 := (79, [some (.ref l0), some (.int l1), none, some (.int l3), some (.int l4), some (.int l5), some (.int l6)], [], S27, 0, 0)) rfl trivial (fun hz => ?_) (fun hz => ?_)
    · have h := h.1 hz
      refine jLf.bk hc 3 [] [some (.ref l0), some (.int l1), none, some (.int l6), some (.int (l4 + 1)), some (.int l5), some (.int l6)] [] S27 rfl rfl rfl trivial ?_
      generalize ex34 : (l4 + 1 : Int32) = x34
      have h := h x34 ex34.symm
      refine jLf.one hc _ rfl (gs := []) (c := (37, [some (.ref l0), some (.int l1), none, some (.int l6), some (.int x34), some (.int l5), some (.int l6)], [], S27, 0, 0)) rfl trivial ?_
      refine jLf.sub [some (.ref l0), some (.int l1), none, some (.int l6), some (.int x34), none, none] (jle_same (jle_same (jle_same (jle_same (jle_same (jle_none (jle_none (jle_nil _)))))))) ?_
      exact hX37 _ _ _ _ _ h
    · have h := h.2 hz
      exact tX12_likely_79 d hd hX37 hX56 h
def wX12_likely_56  (X37 : Nat → Int32 → Int32 → Int32 → JS → Prop) (l0 : Nat) (l1 : Int32) (l3 : Int32) (l4 : Int32) (l5 : Int32) (l6 : Int32) (S : JS) (Q : Int32 → JS → Prop) : Prop :=
  jLoop (fun (X56 : Nat × Int32 × Int32 × Int32 × Int32 × Int32 × JS → Prop) q => bX12_likely_56 X37 (fun l0 l1 l3 l4 l5 l6 S => X56 (l0, l1, l3, l4, l5, l6, S)) q.1 q.2.1 q.2.2.1 q.2.2.2.1 q.2.2.2.2.1 q.2.2.2.2.2.1 q.2.2.2.2.2.2 Q) (l0, l1, l3, l4, l5, l6, S)
set_option maxRecDepth 20000 in
theorem tX12_likely_56 {Q : Int32 → JS → Prop} {X37 : Nat → Int32 → Int32 → Int32 → JS → Prop} (d : Nat) (hd : 7 ≤ d) (hX37 : ∀ l0 l1 l3 l4 S, X37 l0 l1 l3 l4 S → jLf (jCall jmt jbud d) jbud (fun j => (jmt j).rk) none mX12_likely (jqI Q) (37, [some (.ref l0), some (.int l1), none, some (.int l3), some (.int l4), none, none], [], S, 0, 0)) {l0 : Nat} {l1 : Int32} {l3 : Int32} {l4 : Int32} {l5 : Int32} {l6 : Int32} {S : JS} (h : wX12_likely_56 X37 l0 l1 l3 l4 l5 l6 S Q) : jLf (jCall jmt jbud d) jbud (fun j => (jmt j).rk) none mX12_likely (jqI Q) (56, [some (.ref l0), some (.int l1), none, some (.int l3), some (.int l4), some (.int l5), some (.int l6)], [], S, 0, 0) := by
  have := h (fun q : Nat × Int32 × Int32 × Int32 × Int32 × Int32 × JS => jLf (jCall jmt jbud d) jbud (fun j => (jmt j).rk) none mX12_likely (jqI Q) (56, [some (.ref (q.1)), some (.int (q.2.1)), none, some (.int (q.2.2.1)), some (.int (q.2.2.2.1)), some (.int (q.2.2.2.2.1)), some (.int (q.2.2.2.2.2.1))], [], q.2.2.2.2.2.2, 0, 0)) (fun q R hb hR => uX12_likely_56 d hd hX37 (fun _ _ _ _ _ _ _ => hR _) hb)
  exact this
def bX12_likely_37   (X37 : Nat → Int32 → Int32 → Int32 → JS → Prop) (l0 : Nat) (l1 : Int32) (l3 : Int32) (l4 : Int32) (S : JS) (Q : Int32 → JS → Prop) : Prop :=
  (l1 ≤ l4 → Q l3 S) ∧ (¬ (l1 ≤ l4) → jA S l0 12 ∧ (¬ jR S l0 35 = none ∧ (jA S (jr S l0 35) 13 ∧ (vp_in (((9 : Int32) * l4) + l3) (jZ S (jr S l0 35)) ∧ (wX12_liesAt l0 l4 l3 S (fun r21 S20 => ∀ x22 : Int32, x22 = ((jI S (jr S l0 35) (((9 : Int32) * l4) + l3).toNatClampNeg) - r21) → (wX12_likely_56 X37 l0 l1 l3 l4 x22 0 S20 Q)))))))
set_option maxRecDepth 20000 in
theorem uX12_likely_37 {Q : Int32 → JS → Prop}  (d : Nat) (hd : 7 ≤ d) {X37 : Nat → Int32 → Int32 → Int32 → JS → Prop} (hX37 : ∀ l0 l1 l3 l4 S, X37 l0 l1 l3 l4 S → jLf (jCall jmt jbud d) jbud (fun j => (jmt j).rk) none mX12_likely (jqI Q) (37, [some (.ref l0), some (.int l1), none, some (.int l3), some (.int l4), none, none], [], S, 0, 0)) {l0 : Nat} {l1 : Int32} {l3 : Int32} {l4 : Int32} {S : JS} (h : bX12_likely_37 X37 l0 l1 l3 l4 S Q) : jLf (jCall jmt jbud d) jbud (fun j => (jmt j).rk) none mX12_likely (jqI Q) (37, [some (.ref l0), some (.int l1), none, some (.int l3), some (.int l4), none, none], [], S, 0, 0) := by
  have hc := jCall_mono jmt jbud d
  unfold bX12_likely_37 at h
  refine jLf.bk hc 2 [] [some (.ref l0), some (.int l1), none, some (.int l3), some (.int l4), none, none] [.int l1, .int l4] S rfl rfl rfl trivial ?_
  refine jLf.two hc _ rfl (gs := []) (p1 := l1 ≤ l4) (p2 := ¬ (l1 ≤ l4)) (c1 := (85, [some (.ref l0), some (.int l1), none, some (.int l3), some (.int l4), none, none], [], S, 0, 0)) (c2 := (40, [some (.ref l0), some (.int l1), none, some (.int l3), some (.int l4), none, none], [], S, 0, 0)) rfl trivial (fun hz => ?_) (fun hz => ?_)
  · have h := h.1 hz
    refine jLf.bk hc 1 [] [some (.ref l0), some (.int l1), none, some (.int l3), some (.int l4), none, none] [.int l3] S rfl rfl rfl trivial ?_
    exact jLf.ret hc _ rfl (gs := [True]) (v := some (.int l3)) rfl trivial ⟨l3, rfl, h⟩
  · have h := h.2 hz
    obtain ⟨g16, g17, g18, g19, h⟩ := h
    refine jLf.bk hc 11 [jA S l0 12, ¬ jR S l0 35 = none, jA S (jr S l0 35) 13, vp_in (((9 : Int32) * l4) + l3) (jZ S (jr S l0 35))] [some (.ref l0), some (.int l1), none, some (.int l3), some (.int l4), none, none] [.int l3, .int l4, .ref l0, .int (jI S (jr S l0 35) (((9 : Int32) * l4) + l3).toNatClampNeg)] S rfl rfl rfl ⟨g16, g17, g18, g19⟩ ?_
    refine jLf.inv hc _ rfl (gs := [jA S l0 12, (([.int (jI S (jr S l0 35) (((9 : Int32) * l4) + l3).toNatClampNeg)] : List Value).map fun v => v.category).sum ≤ 8, 0 ≤ 0, 0 ≤ 0]) (k := 211) (args := [.ref l0, .int l4, .int l3]) (r := [.int (jI S (jr S l0 35) (((9 : Int32) * l4) + l3).toNatClampNeg)]) (a := 0) (b := 0) rfl ⟨g16, Nat.le_of_ble_eq_true rfl, Nat.zero_le _, Nat.zero_le _⟩ (vX12_liesAt d (by omega) h) ?_
    rintro v S20 ⟨r21, rfl, h⟩
    show jLf (jCall jmt jbud d) jbud (fun j => (jmt j).rk) none mX12_likely (jqI Q) (52, [some (.ref l0), some (.int l1), none, some (.int l3), some (.int l4), none, none], [.int r21, .int (jI S (jr S l0 35) (((9 : Int32) * l4) + l3).toNatClampNeg)], S20, 0, 0)
    refine jLf.bk hc 2 [] [some (.ref l0), some (.int l1), none, some (.int l3), some (.int l4), some (.int ((jI S (jr S l0 35) (((9 : Int32) * l4) + l3).toNatClampNeg) - r21)), none] [] S20 rfl rfl rfl trivial ?_
    generalize ex22 : ((jI S (jr S l0 35) (((9 : Int32) * l4) + l3).toNatClampNeg) - r21 : Int32) = x22
    have h := h x22 ex22.symm
    refine jLf.bk hc 2 [] [some (.ref l0), some (.int l1), none, some (.int l3), some (.int l4), some (.int x22), some (.int 0)] [] S20 rfl rfl rfl trivial ?_
    exact tX12_likely_56 d hd hX37 h
def wX12_likely_37   (l0 : Nat) (l1 : Int32) (l3 : Int32) (l4 : Int32) (S : JS) (Q : Int32 → JS → Prop) : Prop :=
  jLoop (fun (X37 : Nat × Int32 × Int32 × Int32 × JS → Prop) q => bX12_likely_37 (fun l0 l1 l3 l4 S => X37 (l0, l1, l3, l4, S)) q.1 q.2.1 q.2.2.1 q.2.2.2.1 q.2.2.2.2 Q) (l0, l1, l3, l4, S)
set_option maxRecDepth 20000 in
theorem tX12_likely_37 {Q : Int32 → JS → Prop}  (d : Nat) (hd : 7 ≤ d) {l0 : Nat} {l1 : Int32} {l3 : Int32} {l4 : Int32} {S : JS} (h : wX12_likely_37 l0 l1 l3 l4 S Q) : jLf (jCall jmt jbud d) jbud (fun j => (jmt j).rk) none mX12_likely (jqI Q) (37, [some (.ref l0), some (.int l1), none, some (.int l3), some (.int l4), none, none], [], S, 0, 0) := by
  have := h (fun q : Nat × Int32 × Int32 × Int32 × JS => jLf (jCall jmt jbud d) jbud (fun j => (jmt j).rk) none mX12_likely (jqI Q) (37, [some (.ref (q.1)), some (.int (q.2.1)), none, some (.int (q.2.2.1)), some (.int (q.2.2.2.1)), none, none], [], q.2.2.2.2, 0, 0)) (fun q R hb hR => uX12_likely_37 d hd  (fun _ _ _ _ _ => hR _) hb)
  exact this
def bX12_likely_26   (X26 : Nat → Int32 → Int32 → JS → Prop) (l0 : Nat) (l1 : Int32) (l3 : Int32) (S : JS) (Q : Int32 → JS → Prop) : Prop :=
  jA S l0 12 ∧ (¬ jR S l0 35 = none ∧ (jA S (jr S l0 35) 13 ∧ (vp_in l3 (jZ S (jr S l0 35)) ∧ (wX12_fewest l0 S (fun r15 S14 => ((jI S (jr S l0 35) l3.toNatClampNeg) = r15 → wX12_likely_37 l0 l1 l3 0 S14 Q) ∧ (¬ (jI S (jr S l0 35) l3.toNatClampNeg) = r15 → ∀ x35 : Int32, x35 = (l3 + 1) → (X26 l0 l1 x35 S14)))))))
set_option maxRecDepth 20000 in
theorem uX12_likely_26 {Q : Int32 → JS → Prop}  (d : Nat) (hd : 7 ≤ d) {X26 : Nat → Int32 → Int32 → JS → Prop} (hX26 : ∀ l0 l1 l3 S, X26 l0 l1 l3 S → jLf (jCall jmt jbud d) jbud (fun j => (jmt j).rk) none mX12_likely (jqI Q) (26, [some (.ref l0), some (.int l1), none, some (.int l3), none, none, none], [], S, 0, 0)) {l0 : Nat} {l1 : Int32} {l3 : Int32} {S : JS} (h : bX12_likely_26 X26 l0 l1 l3 S Q) : jLf (jCall jmt jbud d) jbud (fun j => (jmt j).rk) none mX12_likely (jqI Q) (26, [some (.ref l0), some (.int l1), none, some (.int l3), none, none, none], [], S, 0, 0) := by
  have hc := jCall_mono jmt jbud d
  unfold bX12_likely_26 at h
  obtain ⟨g10, g11, g12, g13, h⟩ := h
  refine jLf.bk hc 5 [jA S l0 12, ¬ jR S l0 35 = none, jA S (jr S l0 35) 13, vp_in l3 (jZ S (jr S l0 35))] [some (.ref l0), some (.int l1), none, some (.int l3), none, none, none] [.ref l0, .int (jI S (jr S l0 35) l3.toNatClampNeg)] S rfl rfl rfl ⟨g10, g11, g12, g13⟩ ?_
  refine jLf.inv hc _ rfl (gs := [jA S l0 12, (([.int (jI S (jr S l0 35) l3.toNatClampNeg)] : List Value).map fun v => v.category).sum ≤ 8, 0 ≤ 0, 0 ≤ 0]) (k := 213) (args := [.ref l0]) (r := [.int (jI S (jr S l0 35) l3.toNatClampNeg)]) (a := 0) (b := 0) rfl ⟨g10, Nat.le_of_ble_eq_true rfl, Nat.zero_le _, Nat.zero_le _⟩ (vX12_fewest d (by omega) h) ?_
  rintro v S14 ⟨r15, rfl, h⟩
  show jLf (jCall jmt jbud d) jbud (fun j => (jmt j).rk) none mX12_likely (jqI Q) (32, [some (.ref l0), some (.int l1), none, some (.int l3), none, none, none], [.int r15, .int (jI S (jr S l0 35) l3.toNatClampNeg)], S14, 0, 0)
  refine jLf.two hc _ rfl (gs := []) (p1 := (jI S (jr S l0 35) l3.toNatClampNeg) = r15) (p2 := ¬ ((jI S (jr S l0 35) l3.toNatClampNeg) = r15)) (c1 := (35, [some (.ref l0), some (.int l1), none, some (.int l3), none, none, none], [], S14, 0, 0)) (c2 := (33, [some (.ref l0), some (.int l1), none, some (.int l3), none, none, none], [], S14, 0, 0)) rfl trivial (fun hz => ?_) (fun hz => ?_)
  · have h := h.1 hz
    refine jLf.bk hc 2 [] [some (.ref l0), some (.int l1), none, some (.int l3), some (.int 0), none, none] [] S14 rfl rfl rfl trivial ?_
    exact tX12_likely_37 d hd  h
  · have h := h.2 hz
    refine jLf.bk hc 1 [] [some (.ref l0), some (.int l1), none, some (.int (l3 + 1)), none, none, none] [] S14 rfl rfl rfl trivial ?_
    generalize ex35 : (l3 + 1 : Int32) = x35
    have h := h x35 ex35.symm
    refine jLf.one hc _ rfl (gs := []) (c := (26, [some (.ref l0), some (.int l1), none, some (.int x35), none, none, none], [], S14, 0, 0)) rfl trivial ?_
    exact hX26 _ _ _ _ h
def wX12_likely_26   (l0 : Nat) (l1 : Int32) (l3 : Int32) (S : JS) (Q : Int32 → JS → Prop) : Prop :=
  jLoop (fun (X26 : Nat × Int32 × Int32 × JS → Prop) q => bX12_likely_26 (fun l0 l1 l3 S => X26 (l0, l1, l3, S)) q.1 q.2.1 q.2.2.1 q.2.2.2 Q) (l0, l1, l3, S)
set_option maxRecDepth 20000 in
theorem tX12_likely_26 {Q : Int32 → JS → Prop}  (d : Nat) (hd : 7 ≤ d) {l0 : Nat} {l1 : Int32} {l3 : Int32} {S : JS} (h : wX12_likely_26 l0 l1 l3 S Q) : jLf (jCall jmt jbud d) jbud (fun j => (jmt j).rk) none mX12_likely (jqI Q) (26, [some (.ref l0), some (.int l1), none, some (.int l3), none, none, none], [], S, 0, 0) := by
  have := h (fun q : Nat × Int32 × Int32 × JS => jLf (jCall jmt jbud d) jbud (fun j => (jmt j).rk) none mX12_likely (jqI Q) (26, [some (.ref (q.1)), some (.int (q.2.1)), none, some (.int (q.2.2.1)), none, none, none], [], q.2.2.2, 0, 0)) (fun q R hb hR => uX12_likely_26 d hd  (fun _ _ _ _ => hR _) hb)
  exact this
def wX12_likely  (this : Nat) (p1 : Int32) (p2 : Int32) (S : JS) (Q : Int32 → JS → Prop) : Prop :=
  jA S this 12 ∧ (∀ S2 : JS, S2 = uI S this 0 0 → (wX12_isNight p1 S2 (fun r4 S3 => (r4 = 0 → Q (-1) S3) ∧ (¬ r4 = 0 → wX12_in (p2.toInt64) 0 1 S3 (fun r6 S5 => (¬ r6 = 0 → jA S5 this 12 ∧ (wX12_findLies this S5 (fun S7 => (¬ p2 = 0 → wX12_likely_26 this p1 0 S7 Q) ∧ (p2 = 0 → jA S7 this 12 ∧ (wX12_fewest this S7 (fun r37 S36 => jA S36 this 12 ∧ (wX12_likelyIn this p1 r37 S36 (fun r40 S39 => Q r40 S39)))))))) ∧ (r6 = 0 → Q (-1) S5))))))
set_option maxRecDepth 20000 in
theorem vX12_likely {Q : Int32 → JS → Prop} (d : Nat) (hd : 8 ≤ d) {this : Nat} {p1 : Int32} {p2 : Int32} {S : JS} (h : wX12_likely this p1 p2 S Q) : jCall jmt jbud d 218 [.ref this, .int p1, .int p2] S (jqI Q) := by
  obtain ⟨d, rfl⟩ : ∃ d2, d = d2 + 1 := ⟨d - 1, by omega⟩
  have hd : 7 ≤ d := by omega
  have hc := jCall_mono jmt jbud d
  unfold wX12_likely at h
  refine ⟨Nat.le_of_ble_eq_true rfl, ?_⟩
  show jLf (jCall jmt jbud d) jbud (fun j => (jmt j).rk) none mX12_likely (jqI Q) (0, [some (.ref this), some (.int p1), some (.int p2), none, none, none, none], [], S, 0, 0)
  obtain ⟨g1, h⟩ := h
  refine jLf.bk hc 3 [jA S this 12] [some (.ref this), some (.int p1), some (.int p2), none, none, none, none] [] (uI S this 0 0) rfl rfl rfl g1 ?_
  generalize eS2 : uI S this 0 0 = S2
  have h := h S2 eS2.symm
  refine jLf.bk hc 1 [] [some (.ref this), some (.int p1), some (.int p2), none, none, none, none] [.int p1] S2 rfl rfl rfl trivial ?_
  refine jLf.inv hc _ rfl (gs := [1 ≤ ([.int p1] : List Value).length, (([] : List Value).map fun v => v.category).sum ≤ 8, 0 ≤ 0, 0 ≤ 0]) (k := 156) (args := [.int p1]) (r := []) (a := 0) (b := 0) rfl ⟨Nat.le_of_ble_eq_true rfl, Nat.le_of_ble_eq_true rfl, Nat.zero_le _, Nat.zero_le _⟩ (vX12_isNight d (by omega) h) ?_
  rintro v S3 ⟨r4, rfl, h⟩
  show jLf (jCall jmt jbud d) jbud (fun j => (jmt j).rk) none mX12_likely (jqI Q) (5, [some (.ref this), some (.int p1), some (.int p2), none, none, none, none], [.int r4], S3, 0, 0)
  refine jLf.two hc _ rfl (gs := []) (p1 := r4 = 0) (p2 := ¬ (r4 = 0)) (c1 := (12, [some (.ref this), some (.int p1), some (.int p2), none, none, none, none], [], S3, 0, 0)) (c2 := (6, [some (.ref this), some (.int p1), some (.int p2), none, none, none, none], [], S3, 0, 0)) rfl trivial (fun hz => ?_) (fun hz => ?_)
  · have h := h.1 hz
    refine jLf.bk hc 1 [] [some (.ref this), some (.int p1), some (.int p2), none, none, none, none] [.int (-1)] S3 rfl rfl rfl trivial ?_
    exact jLf.ret hc _ rfl (gs := [True]) (v := some (.int (-1))) rfl trivial ⟨(-1), rfl, h⟩
  · have h := h.2 hz
    refine jLf.bk hc 4 [] [some (.ref this), some (.int p1), some (.int p2), none, none, none, none] [.long 1, .long 0, .long (p2.toInt64)] S3 rfl rfl rfl trivial ?_
    refine jLf.inv hc _ rfl (gs := [3 ≤ ([.long 1, .long 0, .long (p2.toInt64)] : List Value).length, (([] : List Value).map fun v => v.category).sum ≤ 8, 0 ≤ 0, 0 ≤ 0]) (k := 148) (args := [.long (p2.toInt64), .long 0, .long 1]) (r := []) (a := 0) (b := 0) rfl ⟨Nat.le_of_ble_eq_true rfl, Nat.le_of_ble_eq_true rfl, Nat.zero_le _, Nat.zero_le _⟩ (vX12_in d (by omega) h) ?_
    rintro v S5 ⟨r6, rfl, h⟩
    show jLf (jCall jmt jbud d) jbud (fun j => (jmt j).rk) none mX12_likely (jqI Q) (11, [some (.ref this), some (.int p1), some (.int p2), none, none, none, none], [.int r6], S5, 0, 0)
    refine jLf.two hc _ rfl (gs := []) (p1 := ¬ r6 = 0) (p2 := ¬ (¬ r6 = 0)) (c1 := (14, [some (.ref this), some (.int p1), some (.int p2), none, none, none, none], [], S5, 0, 0)) (c2 := (12, [some (.ref this), some (.int p1), some (.int p2), none, none, none, none], [], S5, 0, 0)) rfl trivial (fun hz => ?_) (fun hz => ?_)
    · have h := h.1 hz
      refine jLf.bk hc 1 [] [some (.ref this), some (.int p1), some (.int p2), none, none, none, none] [.ref this] S5 rfl rfl rfl trivial ?_
      obtain ⟨g9, h⟩ := h
      refine jLf.inv hc _ rfl (gs := [jA S5 this 12, (([] : List Value).map fun v => v.category).sum ≤ 8, 0 ≤ 0, 0 ≤ 0]) (k := 212) (args := [.ref this]) (r := []) (a := 0) (b := 0) rfl ⟨g9, Nat.le_of_ble_eq_true rfl, Nat.zero_le _, Nat.zero_le _⟩ (vX12_findLies d (by omega) h) ?_
      rintro v S7 ⟨rfl, h⟩
      show jLf (jCall jmt jbud d) jbud (fun j => (jmt j).rk) none mX12_likely (jqI Q) (16, [some (.ref this), some (.int p1), some (.int p2), none, none, none, none], [], S7, 0, 0)
      refine jLf.bk hc 1 [] [some (.ref this), some (.int p1), some (.int p2), none, none, none, none] [.int p2] S7 rfl rfl rfl trivial ?_
      refine jLf.two hc _ rfl (gs := []) (p1 := ¬ p2 = 0) (p2 := ¬ (¬ p2 = 0)) (c1 := (24, [some (.ref this), some (.int p1), some (.int p2), none, none, none, none], [], S7, 0, 0)) (c2 := (18, [some (.ref this), some (.int p1), some (.int p2), none, none, none, none], [], S7, 0, 0)) rfl trivial (fun hz => ?_) (fun hz => ?_)
      · have h := h.1 hz
        refine jLf.bk hc 2 [] [some (.ref this), some (.int p1), some (.int p2), some (.int 0), none, none, none] [] S7 rfl rfl rfl trivial ?_
        refine jLf.sub [some (.ref this), some (.int p1), none, some (.int 0), none, none, none] (jle_same (jle_same (jle_none (jle_same (jle_same (jle_same (jle_same (jle_nil _)))))))) ?_
        exact tX12_likely_26 d hd  h
      · have h := h.2 (Classical.not_not.mp hz)
        refine jLf.bk hc 3 [] [some (.ref this), some (.int p1), some (.int p2), none, none, none, none] [.ref this, .int p1, .ref this] S7 rfl rfl rfl trivial ?_
        obtain ⟨g38, h⟩ := h
        refine jLf.inv hc _ rfl (gs := [jA S7 this 12, (([.int p1, .ref this] : List Value).map fun v => v.category).sum ≤ 8, 0 ≤ 0, 0 ≤ 0]) (k := 213) (args := [.ref this]) (r := [.int p1, .ref this]) (a := 0) (b := 0) rfl ⟨g38, Nat.le_of_ble_eq_true rfl, Nat.zero_le _, Nat.zero_le _⟩ (vX12_fewest d (by omega) h) ?_
        rintro v S36 ⟨r37, rfl, h⟩
        show jLf (jCall jmt jbud d) jbud (fun j => (jmt j).rk) none mX12_likely (jqI Q) (22, [some (.ref this), some (.int p1), some (.int p2), none, none, none, none], [.int r37, .int p1, .ref this], S36, 0, 0)
        obtain ⟨g41, h⟩ := h
        refine jLf.inv hc _ rfl (gs := [jA S36 this 12, (([] : List Value).map fun v => v.category).sum ≤ 8, 0 ≤ 0, 0 ≤ 0]) (k := 214) (args := [.ref this, .int p1, .int r37]) (r := []) (a := 0) (b := 0) rfl ⟨g41, Nat.le_of_ble_eq_true rfl, Nat.zero_le _, Nat.zero_le _⟩ (vX12_likelyIn d (by omega) h) ?_
        rintro v S39 ⟨r40, rfl, h⟩
        show jLf (jCall jmt jbud d) jbud (fun j => (jmt j).rk) none mX12_likely (jqI Q) (23, [some (.ref this), some (.int p1), some (.int p2), none, none, none, none], [.int r40], S39, 0, 0)
        exact jLf.ret hc _ rfl (gs := [True]) (v := some (.int r40)) rfl trivial ⟨r40, rfl, h⟩
    · have h := h.2 (Classical.not_not.mp hz)
      refine jLf.bk hc 1 [] [some (.ref this), some (.int p1), some (.int p2), none, none, none, none] [.int (-1)] S5 rfl rfl rfl trivial ?_
      exact jLf.ret hc _ rfl (gs := [True]) (v := some (.int (-1))) rfl trivial ⟨(-1), rfl, h⟩
def wX12_liars_90  (X20 : Nat → Int32 → Int32 → Int32 → Int32 → JS → Prop) (l0 : Nat) (l1 : Int32) (l2 : Int32) (l4 : Int32) (s0 : Int32) (s1 : Int32) (S : JS) (Q : Int32 → JS → Prop) : Prop :=
  ∀ x25 : Int32, x25 = (s1 ||| s0) → (∀ x26 : Int32, x26 = (l4 + 1) → (X20 l0 l1 l2 x25 x26 S))
set_option maxRecDepth 20000 in
theorem tX12_liars_90 {Q : Int32 → JS → Prop} {X20 : Nat → Int32 → Int32 → Int32 → Int32 → JS → Prop} (d : Nat) (hd : 7 ≤ d) (hX20 : ∀ l0 l1 l2 l3 l4 S, X20 l0 l1 l2 l3 l4 S → jLf (jCall jmt jbud d) jbud (fun j => (jmt j).rk) none mX12_liars (jqI Q) (20, [some (.ref l0), some (.int l1), some (.int l2), some (.int l3), some (.int l4), none, none, none, none, none], [], S, 0, 0)) {l0 : Nat} {l1 : Int32} {l2 : Int32} {l4 : Int32} {s0 : Int32} {s1 : Int32} {S : JS} (h : wX12_liars_90 X20 l0 l1 l2 l4 s0 s1 S Q) : jLf (jCall jmt jbud d) jbud (fun j => (jmt j).rk) none mX12_liars (jqI Q) (90, [some (.ref l0), some (.int l1), some (.int l2), none, some (.int l4), none, none, none, none, none], [.int s0, .int s1], S, 0, 0) := by
  have hc := jCall_mono jmt jbud d
  unfold wX12_liars_90 at h
  refine jLf.bk hc 2 [] [some (.ref l0), some (.int l1), some (.int l2), some (.int (s1 ||| s0)), some (.int l4), none, none, none, none, none] [] S rfl rfl rfl trivial ?_
  generalize ex25 : (s1 ||| s0 : Int32) = x25
  have h := h x25 ex25.symm
  refine jLf.bk hc 1 [] [some (.ref l0), some (.int l1), some (.int l2), some (.int x25), some (.int (l4 + 1)), none, none, none, none, none] [] S rfl rfl rfl trivial ?_
  generalize ex26 : (l4 + 1 : Int32) = x26
  have h := h x26 ex26.symm
  refine jLf.one hc _ rfl (gs := []) (c := (20, [some (.ref l0), some (.int l1), some (.int l2), some (.int x25), some (.int x26), none, none, none, none, none], [], S, 0, 0)) rfl trivial ?_
  exact hX20 _ _ _ _ _ _ h
def wX12_liars_81  (X20 : Nat → Int32 → Int32 → Int32 → Int32 → JS → Prop) (l0 : Nat) (l1 : Int32) (l2 : Int32) (l3 : Int32) (l4 : Int32) (s0 : Int32) (S : JS) (Q : Int32 → JS → Prop) : Prop :=
  (s0 = 0 → wX12_liars_90 X20 l0 l1 l2 l4 0 l3 S Q) ∧ (¬ s0 = 0 → wX12_liars_90 X20 l0 l1 l2 l4 ((1 : Int32) <<< (l4 &&& 31)) l3 S Q)
set_option maxRecDepth 20000 in
theorem tX12_liars_81 {Q : Int32 → JS → Prop} {X20 : Nat → Int32 → Int32 → Int32 → Int32 → JS → Prop} (d : Nat) (hd : 7 ≤ d) (hX20 : ∀ l0 l1 l2 l3 l4 S, X20 l0 l1 l2 l3 l4 S → jLf (jCall jmt jbud d) jbud (fun j => (jmt j).rk) none mX12_liars (jqI Q) (20, [some (.ref l0), some (.int l1), some (.int l2), some (.int l3), some (.int l4), none, none, none, none, none], [], S, 0, 0)) {l0 : Nat} {l1 : Int32} {l2 : Int32} {l3 : Int32} {l4 : Int32} {s0 : Int32} {S : JS} (h : wX12_liars_81 X20 l0 l1 l2 l3 l4 s0 S Q) : jLf (jCall jmt jbud d) jbud (fun j => (jmt j).rk) none mX12_liars (jqI Q) (81, [some (.ref l0), some (.int l1), some (.int l2), some (.int l3), some (.int l4), none, none, none, none, none], [.int s0], S, 0, 0) := by
  have hc := jCall_mono jmt jbud d
  unfold wX12_liars_81 at h
  refine jLf.bk hc 3 [] [some (.ref l0), some (.int l1), some (.int l2), some (.int l3), some (.int l4), none, none, none, none, some (.int s0)] [.int s0, .int l3] S rfl rfl rfl trivial ?_
  refine jLf.two hc _ rfl (gs := []) (p1 := s0 = 0) (p2 := ¬ (s0 = 0)) (c1 := (89, [some (.ref l0), some (.int l1), some (.int l2), some (.int l3), some (.int l4), none, none, none, none, some (.int s0)], [.int l3], S, 0, 0)) (c2 := (85, [some (.ref l0), some (.int l1), some (.int l2), some (.int l3), some (.int l4), none, none, none, none, some (.int s0)], [.int l3], S, 0, 0)) rfl trivial (fun hz => ?_) (fun hz => ?_)
  · have h := h.1 hz
    refine jLf.bk hc 1 [] [some (.ref l0), some (.int l1), some (.int l2), some (.int l3), some (.int l4), none, none, none, none, some (.int s0)] [.int 0, .int l3] S rfl rfl rfl trivial ?_
    refine jLf.sub [some (.ref l0), some (.int l1), some (.int l2), none, some (.int l4), none, none, none, none, none] (jle_same (jle_same (jle_same (jle_none (jle_same (jle_same (jle_same (jle_same (jle_same (jle_none (jle_nil _))))))))))) ?_
    exact tX12_liars_90 d hd hX20 h
  · have h := h.2 hz
    refine jLf.bk hc 3 [] [some (.ref l0), some (.int l1), some (.int l2), some (.int l3), some (.int l4), none, none, none, none, some (.int s0)] [.int ((1 : Int32) <<< (l4 &&& 31)), .int l3] S rfl rfl rfl trivial ?_
    refine jLf.one hc _ rfl (gs := []) (c := (90, [some (.ref l0), some (.int l1), some (.int l2), some (.int l3), some (.int l4), none, none, none, none, some (.int s0)], [.int ((1 : Int32) <<< (l4 &&& 31)), .int l3], S, 0, 0)) rfl trivial ?_
    refine jLf.sub [some (.ref l0), some (.int l1), some (.int l2), none, some (.int l4), none, none, none, none, none] (jle_same (jle_same (jle_same (jle_none (jle_same (jle_same (jle_same (jle_same (jle_same (jle_none (jle_nil _))))))))))) ?_
    exact tX12_liars_90 d hd hX20 h
def wX12_liars_66  (X20 : Nat → Int32 → Int32 → Int32 → Int32 → JS → Prop) (l0 : Nat) (l1 : Int32) (l2 : Int32) (l3 : Int32) (l4 : Int32) (l6 : Int32) (s0 : Int32) (S : JS) (Q : Int32 → JS → Prop) : Prop :=
  (¬ l1 = 0 → (s0 = l6 → wX12_liars_81 X20 l0 l1 l2 l3 l4 0 S Q) ∧ (¬ s0 = l6 → wX12_liars_81 X20 l0 l1 l2 l3 l4 1 S Q)) ∧ (l1 = 0 → (¬ s0 = 0 → wX12_liars_81 X20 l0 l1 l2 l3 l4 0 S Q) ∧ (s0 = 0 → wX12_liars_81 X20 l0 l1 l2 l3 l4 1 S Q))
set_option maxRecDepth 20000 in
theorem tX12_liars_66 {Q : Int32 → JS → Prop} {X20 : Nat → Int32 → Int32 → Int32 → Int32 → JS → Prop} (d : Nat) (hd : 7 ≤ d) (hX20 : ∀ l0 l1 l2 l3 l4 S, X20 l0 l1 l2 l3 l4 S → jLf (jCall jmt jbud d) jbud (fun j => (jmt j).rk) none mX12_liars (jqI Q) (20, [some (.ref l0), some (.int l1), some (.int l2), some (.int l3), some (.int l4), none, none, none, none, none], [], S, 0, 0)) {l0 : Nat} {l1 : Int32} {l2 : Int32} {l3 : Int32} {l4 : Int32} {l6 : Int32} {s0 : Int32} {S : JS} (h : wX12_liars_66 X20 l0 l1 l2 l3 l4 l6 s0 S Q) : jLf (jCall jmt jbud d) jbud (fun j => (jmt j).rk) none mX12_liars (jqI Q) (66, [some (.ref l0), some (.int l1), some (.int l2), some (.int l3), some (.int l4), none, some (.int l6), none, none, none], [.int s0], S, 0, 0) := by
  have hc := jCall_mono jmt jbud d
  unfold wX12_liars_66 at h
  refine jLf.bk hc 2 [] [some (.ref l0), some (.int l1), some (.int l2), some (.int l3), some (.int l4), none, some (.int l6), none, some (.int s0), none] [.int l1] S rfl rfl rfl trivial ?_
  refine jLf.two hc _ rfl (gs := []) (p1 := ¬ l1 = 0) (p2 := ¬ (¬ l1 = 0)) (c1 := (75, [some (.ref l0), some (.int l1), some (.int l2), some (.int l3), some (.int l4), none, some (.int l6), none, some (.int s0), none], [], S, 0, 0)) (c2 := (69, [some (.ref l0), some (.int l1), some (.int l2), some (.int l3), some (.int l4), none, some (.int l6), none, some (.int s0), none], [], S, 0, 0)) rfl trivial (fun hz => ?_) (fun hz => ?_)
  · have h := h.1 hz
    refine jLf.bk hc 2 [] [some (.ref l0), some (.int l1), some (.int l2), some (.int l3), some (.int l4), none, some (.int l6), none, some (.int s0), none] [.int l6, .int s0] S rfl rfl rfl trivial ?_
    refine jLf.two hc _ rfl (gs := []) (p1 := s0 = l6) (p2 := ¬ (s0 = l6)) (c1 := (80, [some (.ref l0), some (.int l1), some (.int l2), some (.int l3), some (.int l4), none, some (.int l6), none, some (.int s0), none], [], S, 0, 0)) (c2 := (78, [some (.ref l0), some (.int l1), some (.int l2), some (.int l3), some (.int l4), none, some (.int l6), none, some (.int s0), none], [], S, 0, 0)) rfl trivial (fun hz => ?_) (fun hz => ?_)
    · have h := h.1 hz
      refine jLf.bk hc 1 [] [some (.ref l0), some (.int l1), some (.int l2), some (.int l3), some (.int l4), none, some (.int l6), none, some (.int s0), none] [.int 0] S rfl rfl rfl trivial ?_
      refine jLf.sub [some (.ref l0), some (.int l1), some (.int l2), some (.int l3), some (.int l4), none, none, none, none, none] (jle_same (jle_same (jle_same (jle_same (jle_same (jle_same (jle_none (jle_same (jle_none (jle_same (jle_nil _))))))))))) ?_
      exact tX12_liars_81 d hd hX20 h
    · have h := h.2 hz
      refine jLf.bk hc 1 [] [some (.ref l0), some (.int l1), some (.int l2), some (.int l3), some (.int l4), none, some (.int l6), none, some (.int s0), none] [.int 1] S rfl rfl rfl trivial ?_
      refine jLf.one hc _ rfl (gs := []) (c := (81, [some (.ref l0), some (.int l1), some (.int l2), some (.int l3), some (.int l4), none, some (.int l6), none, some (.int s0), none], [.int 1], S, 0, 0)) rfl trivial ?_
      refine jLf.sub [some (.ref l0), some (.int l1), some (.int l2), some (.int l3), some (.int l4), none, none, none, none, none] (jle_same (jle_same (jle_same (jle_same (jle_same (jle_same (jle_none (jle_same (jle_none (jle_same (jle_nil _))))))))))) ?_
      exact tX12_liars_81 d hd hX20 h
  · have h := h.2 (Classical.not_not.mp hz)
    refine jLf.bk hc 1 [] [some (.ref l0), some (.int l1), some (.int l2), some (.int l3), some (.int l4), none, some (.int l6), none, some (.int s0), none] [.int s0] S rfl rfl rfl trivial ?_
    refine jLf.two hc _ rfl (gs := []) (p1 := ¬ s0 = 0) (p2 := ¬ (¬ s0 = 0)) (c1 := (73, [some (.ref l0), some (.int l1), some (.int l2), some (.int l3), some (.int l4), none, some (.int l6), none, some (.int s0), none], [], S, 0, 0)) (c2 := (71, [some (.ref l0), some (.int l1), some (.int l2), some (.int l3), some (.int l4), none, some (.int l6), none, some (.int s0), none], [], S, 0, 0)) rfl trivial (fun hz => ?_) (fun hz => ?_)
    · have h := h.1 hz
      refine jLf.bk hc 1 [] [some (.ref l0), some (.int l1), some (.int l2), some (.int l3), some (.int l4), none, some (.int l6), none, some (.int s0), none] [.int 0] S rfl rfl rfl trivial ?_
      refine jLf.one hc _ rfl (gs := []) (c := (81, [some (.ref l0), some (.int l1), some (.int l2), some (.int l3), some (.int l4), none, some (.int l6), none, some (.int s0), none], [.int 0], S, 0, 0)) rfl trivial ?_
      refine jLf.sub [some (.ref l0), some (.int l1), some (.int l2), some (.int l3), some (.int l4), none, none, none, none, none] (jle_same (jle_same (jle_same (jle_same (jle_same (jle_same (jle_none (jle_same (jle_none (jle_same (jle_nil _))))))))))) ?_
      exact tX12_liars_81 d hd hX20 h
    · have h := h.2 (Classical.not_not.mp hz)
      refine jLf.bk hc 1 [] [some (.ref l0), some (.int l1), some (.int l2), some (.int l3), some (.int l4), none, some (.int l6), none, some (.int s0), none] [.int 1] S rfl rfl rfl trivial ?_
      refine jLf.one hc _ rfl (gs := []) (c := (81, [some (.ref l0), some (.int l1), some (.int l2), some (.int l3), some (.int l4), none, some (.int l6), none, some (.int s0), none], [.int 1], S, 0, 0)) rfl trivial ?_
      refine jLf.sub [some (.ref l0), some (.int l1), some (.int l2), some (.int l3), some (.int l4), none, none, none, none, none] (jle_same (jle_same (jle_same (jle_same (jle_same (jle_same (jle_none (jle_same (jle_none (jle_same (jle_nil _))))))))))) ?_
      exact tX12_liars_81 d hd hX20 h
def bX12_liars_20   (X20 : Nat → Int32 → Int32 → Int32 → Int32 → JS → Prop) (l0 : Nat) (l1 : Int32) (l2 : Int32) (l3 : Int32) (l4 : Int32) (S : JS) (Q : Int32 → JS → Prop) : Prop :=
  jA S l0 12 ∧ (¬ jR S l0 3 = none ∧ (jA S (jr S l0 3) 13 ∧ (vp_in (6 : Int32) (jZ S (jr S l0 3)) ∧ (((jI S (jr S l0 3) (6 : Int32).toNatClampNeg) ≤ l4 → Q l3 S) ∧ (¬ ((jI S (jr S l0 3) (6 : Int32).toNatClampNeg) ≤ l4) → ∀ x15 : Int32, x15 = ((140 : Int32) + ((3 : Int32) * l4)) → (vp_in (x15 + (1 : Int32)) (jZ S (jr S l0 3)) ∧ (wX12_likelyIn l0 (jI S (jr S l0 3) (x15 + (1 : Int32)).toNatClampNeg) l2 S (fun r18 S17 => jA S17 l0 12 ∧ (¬ jR S17 l0 3 = none ∧ (jA S17 (jr S17 l0 3) 13 ∧ (vp_in x15 (jZ S17 (jr S17 l0 3)) ∧ (∀ x23 : Int32, x23 = ((1 : Int32) <<< ((jI S17 (jr S17 l0 3) x15.toNatClampNeg) &&& 31)) → (vp_in (x15 + (2 : Int32)) (jZ S17 (jr S17 l0 3)) ∧ ((¬ (jI S17 (jr S17 l0 3) (x15 + (2 : Int32)).toNatClampNeg) = 1 → wX12_liars_66 X20 l0 l1 l2 l3 l4 r18 (r18 &&& (x23 ^^^ (-1 : Int32))) S17 Q) ∧ ((jI S17 (jr S17 l0 3) (x15 + (2 : Int32)).toNatClampNeg) = 1 → wX12_liars_66 X20 l0 l1 l2 l3 l4 r18 (r18 &&& x23) S17 Q)))))))))))))))
set_option maxRecDepth 20000 in
theorem uX12_liars_20 {Q : Int32 → JS → Prop}  (d : Nat) (hd : 7 ≤ d) {X20 : Nat → Int32 → Int32 → Int32 → Int32 → JS → Prop} (hX20 : ∀ l0 l1 l2 l3 l4 S, X20 l0 l1 l2 l3 l4 S → jLf (jCall jmt jbud d) jbud (fun j => (jmt j).rk) none mX12_liars (jqI Q) (20, [some (.ref l0), some (.int l1), some (.int l2), some (.int l3), some (.int l4), none, none, none, none, none], [], S, 0, 0)) {l0 : Nat} {l1 : Int32} {l2 : Int32} {l3 : Int32} {l4 : Int32} {S : JS} (h : bX12_liars_20 X20 l0 l1 l2 l3 l4 S Q) : jLf (jCall jmt jbud d) jbud (fun j => (jmt j).rk) none mX12_liars (jqI Q) (20, [some (.ref l0), some (.int l1), some (.int l2), some (.int l3), some (.int l4), none, none, none, none, none], [], S, 0, 0) := by
  have hc := jCall_mono jmt jbud d
  unfold bX12_liars_20 at h
  obtain ⟨g11, g12, g13, g14, h⟩ := h
  refine jLf.bk hc 5 [jA S l0 12, ¬ jR S l0 3 = none, jA S (jr S l0 3) 13, vp_in (6 : Int32) (jZ S (jr S l0 3))] [some (.ref l0), some (.int l1), some (.int l2), some (.int l3), some (.int l4), none, none, none, none, none] [.int (jI S (jr S l0 3) (6 : Int32).toNatClampNeg), .int l4] S rfl rfl rfl ⟨g11, g12, g13, g14⟩ ?_
  refine jLf.two hc _ rfl (gs := []) (p1 := (jI S (jr S l0 3) (6 : Int32).toNatClampNeg) ≤ l4) (p2 := ¬ ((jI S (jr S l0 3) (6 : Int32).toNatClampNeg) ≤ l4)) (c1 := (94, [some (.ref l0), some (.int l1), some (.int l2), some (.int l3), some (.int l4), none, none, none, none, none], [], S, 0, 0)) (c2 := (26, [some (.ref l0), some (.int l1), some (.int l2), some (.int l3), some (.int l4), none, none, none, none, none], [], S, 0, 0)) rfl trivial (fun hz => ?_) (fun hz => ?_)
  · have h := h.1 hz
    refine jLf.bk hc 1 [] [some (.ref l0), some (.int l1), some (.int l2), some (.int l3), some (.int l4), none, none, none, none, none] [.int l3] S rfl rfl rfl trivial ?_
    exact jLf.ret hc _ rfl (gs := [True]) (v := some (.int l3)) rfl trivial ⟨l3, rfl, h⟩
  · have h := h.2 hz
    refine jLf.bk hc 6 [] [some (.ref l0), some (.int l1), some (.int l2), some (.int l3), some (.int l4), some (.int ((140 : Int32) + ((3 : Int32) * l4))), none, none, none, none] [] S rfl rfl rfl trivial ?_
    generalize ex15 : ((140 : Int32) + ((3 : Int32) * l4) : Int32) = x15
    have h := h x15 ex15.symm
    obtain ⟨g16, h⟩ := h
    refine jLf.bk hc 8 [jA S l0 12, ¬ jR S l0 3 = none, jA S (jr S l0 3) 13, vp_in (x15 + (1 : Int32)) (jZ S (jr S l0 3))] [some (.ref l0), some (.int l1), some (.int l2), some (.int l3), some (.int l4), some (.int x15), none, none, none, none] [.int l2, .int (jI S (jr S l0 3) (x15 + (1 : Int32)).toNatClampNeg), .ref l0] S rfl rfl rfl ⟨g11, g12, g13, g16⟩ ?_
    refine jLf.inv hc _ rfl (gs := [jA S l0 12, (([] : List Value).map fun v => v.category).sum ≤ 8, 0 ≤ 0, 0 ≤ 0]) (k := 214) (args := [.ref l0, .int (jI S (jr S l0 3) (x15 + (1 : Int32)).toNatClampNeg), .int l2]) (r := []) (a := 0) (b := 0) rfl ⟨g11, Nat.le_of_ble_eq_true rfl, Nat.zero_le _, Nat.zero_le _⟩ (vX12_likelyIn d (by omega) h) ?_
    rintro v S17 ⟨r18, rfl, h⟩
    show jLf (jCall jmt jbud d) jbud (fun j => (jmt j).rk) none mX12_liars (jqI Q) (41, [some (.ref l0), some (.int l1), some (.int l2), some (.int l3), some (.int l4), some (.int x15), none, none, none, none], [.int r18], S17, 0, 0)
    obtain ⟨g19, g20, g21, g22, h⟩ := h
    refine jLf.bk hc 8 [jA S17 l0 12, ¬ jR S17 l0 3 = none, jA S17 (jr S17 l0 3) 13, vp_in x15 (jZ S17 (jr S17 l0 3))] [some (.ref l0), some (.int l1), some (.int l2), some (.int l3), some (.int l4), some (.int x15), some (.int r18), some (.int ((1 : Int32) <<< ((jI S17 (jr S17 l0 3) x15.toNatClampNeg) &&& 31))), none, none] [] S17 rfl rfl rfl ⟨g19, g20, g21, g22⟩ ?_
    generalize ex23 : ((1 : Int32) <<< ((jI S17 (jr S17 l0 3) x15.toNatClampNeg) &&& 31) : Int32) = x23
    have h := h x23 ex23.symm
    obtain ⟨g24, h⟩ := h
    refine jLf.bk hc 7 [jA S17 l0 12, ¬ jR S17 l0 3 = none, jA S17 (jr S17 l0 3) 13, vp_in (x15 + (2 : Int32)) (jZ S17 (jr S17 l0 3))] [some (.ref l0), some (.int l1), some (.int l2), some (.int l3), some (.int l4), some (.int x15), some (.int r18), some (.int x23), none, none] [.int 1, .int (jI S17 (jr S17 l0 3) (x15 + (2 : Int32)).toNatClampNeg)] S17 rfl rfl rfl ⟨g19, g20, g21, g24⟩ ?_
    refine jLf.two hc _ rfl (gs := []) (p1 := ¬ (jI S17 (jr S17 l0 3) (x15 + (2 : Int32)).toNatClampNeg) = 1) (p2 := ¬ (¬ (jI S17 (jr S17 l0 3) (x15 + (2 : Int32)).toNatClampNeg) = 1)) (c1 := (61, [some (.ref l0), some (.int l1), some (.int l2), some (.int l3), some (.int l4), some (.int x15), some (.int r18), some (.int x23), none, none], [], S17, 0, 0)) (c2 := (57, [some (.ref l0), some (.int l1), some (.int l2), some (.int l3), some (.int l4), some (.int x15), some (.int r18), some (.int x23), none, none], [], S17, 0, 0)) rfl trivial (fun hz => ?_) (fun hz => ?_)
    · have h := h.1 hz
      refine jLf.bk hc 5 [] [some (.ref l0), some (.int l1), some (.int l2), some (.int l3), some (.int l4), some (.int x15), some (.int r18), some (.int x23), none, none] [.int (r18 &&& (x23 ^^^ (-1 : Int32)))] S17 rfl rfl rfl trivial ?_
      refine jLf.sub [some (.ref l0), some (.int l1), some (.int l2), some (.int l3), some (.int l4), none, some (.int r18), none, none, none] (jle_same (jle_same (jle_same (jle_same (jle_same (jle_none (jle_same (jle_none (jle_same (jle_same (jle_nil _))))))))))) ?_
      exact tX12_liars_66 d hd hX20 h
    · have h := h.2 (Classical.not_not.mp hz)
      refine jLf.bk hc 3 [] [some (.ref l0), some (.int l1), some (.int l2), some (.int l3), some (.int l4), some (.int x15), some (.int r18), some (.int x23), none, none] [.int (r18 &&& x23)] S17 rfl rfl rfl trivial ?_
      refine jLf.one hc _ rfl (gs := []) (c := (66, [some (.ref l0), some (.int l1), some (.int l2), some (.int l3), some (.int l4), some (.int x15), some (.int r18), some (.int x23), none, none], [.int (r18 &&& x23)], S17, 0, 0)) rfl trivial ?_
      refine jLf.sub [some (.ref l0), some (.int l1), some (.int l2), some (.int l3), some (.int l4), none, some (.int r18), none, none, none] (jle_same (jle_same (jle_same (jle_same (jle_same (jle_none (jle_same (jle_none (jle_same (jle_same (jle_nil _))))))))))) ?_
      exact tX12_liars_66 d hd hX20 h
def wX12_liars_20   (l0 : Nat) (l1 : Int32) (l2 : Int32) (l3 : Int32) (l4 : Int32) (S : JS) (Q : Int32 → JS → Prop) : Prop :=
  jLoop (fun (X20 : Nat × Int32 × Int32 × Int32 × Int32 × JS → Prop) q => bX12_liars_20 (fun l0 l1 l2 l3 l4 S => X20 (l0, l1, l2, l3, l4, S)) q.1 q.2.1 q.2.2.1 q.2.2.2.1 q.2.2.2.2.1 q.2.2.2.2.2 Q) (l0, l1, l2, l3, l4, S)
set_option maxRecDepth 20000 in
theorem tX12_liars_20 {Q : Int32 → JS → Prop}  (d : Nat) (hd : 7 ≤ d) {l0 : Nat} {l1 : Int32} {l2 : Int32} {l3 : Int32} {l4 : Int32} {S : JS} (h : wX12_liars_20 l0 l1 l2 l3 l4 S Q) : jLf (jCall jmt jbud d) jbud (fun j => (jmt j).rk) none mX12_liars (jqI Q) (20, [some (.ref l0), some (.int l1), some (.int l2), some (.int l3), some (.int l4), none, none, none, none, none], [], S, 0, 0) := by
  have := h (fun q : Nat × Int32 × Int32 × Int32 × Int32 × JS => jLf (jCall jmt jbud d) jbud (fun j => (jmt j).rk) none mX12_liars (jqI Q) (20, [some (.ref (q.1)), some (.int (q.2.1)), some (.int (q.2.2.1)), some (.int (q.2.2.2.1)), some (.int (q.2.2.2.2.1)), none, none, none, none, none], [], q.2.2.2.2.2, 0, 0)) (fun q R hb hR => uX12_liars_20 d hd  (fun _ _ _ _ _ _ => hR _) hb)
  exact this
def wX12_liars  (this : Nat) (p1 : Int32) (S : JS) (Q : Int32 → JS → Prop) : Prop :=
  jA S this 12 ∧ (∀ S2 : JS, S2 = uI S this 0 0 → (wX12_in (p1.toInt64) 0 1 S2 (fun r4 S3 => (¬ r4 = 0 → jA S3 this 12 ∧ (wX12_findLies this S3 (fun S5 => jA S5 this 12 ∧ (wX12_fewest this S5 (fun r9 S8 => wX12_liars_20 this p1 r9 0 0 S8 Q))))) ∧ (r4 = 0 → Q (-1) S3))))
set_option maxRecDepth 20000 in
theorem vX12_liars {Q : Int32 → JS → Prop} (d : Nat) (hd : 8 ≤ d) {this : Nat} {p1 : Int32} {S : JS} (h : wX12_liars this p1 S Q) : jCall jmt jbud d 219 [.ref this, .int p1] S (jqI Q) := by
  obtain ⟨d, rfl⟩ : ∃ d2, d = d2 + 1 := ⟨d - 1, by omega⟩
  have hd : 7 ≤ d := by omega
  have hc := jCall_mono jmt jbud d
  unfold wX12_liars at h
  refine ⟨Nat.le_of_ble_eq_true rfl, ?_⟩
  show jLf (jCall jmt jbud d) jbud (fun j => (jmt j).rk) none mX12_liars (jqI Q) (0, [some (.ref this), some (.int p1), none, none, none, none, none, none, none, none], [], S, 0, 0)
  obtain ⟨g1, h⟩ := h
  refine jLf.bk hc 3 [jA S this 12] [some (.ref this), some (.int p1), none, none, none, none, none, none, none, none] [] (uI S this 0 0) rfl rfl rfl g1 ?_
  generalize eS2 : uI S this 0 0 = S2
  have h := h S2 eS2.symm
  refine jLf.bk hc 4 [] [some (.ref this), some (.int p1), none, none, none, none, none, none, none, none] [.long 1, .long 0, .long (p1.toInt64)] S2 rfl rfl rfl trivial ?_
  refine jLf.inv hc _ rfl (gs := [3 ≤ ([.long 1, .long 0, .long (p1.toInt64)] : List Value).length, (([] : List Value).map fun v => v.category).sum ≤ 8, 0 ≤ 0, 0 ≤ 0]) (k := 148) (args := [.long (p1.toInt64), .long 0, .long 1]) (r := []) (a := 0) (b := 0) rfl ⟨Nat.le_of_ble_eq_true rfl, Nat.le_of_ble_eq_true rfl, Nat.zero_le _, Nat.zero_le _⟩ (vX12_in d (by omega) h) ?_
  rintro v S3 ⟨r4, rfl, h⟩
  show jLf (jCall jmt jbud d) jbud (fun j => (jmt j).rk) none mX12_liars (jqI Q) (8, [some (.ref this), some (.int p1), none, none, none, none, none, none, none, none], [.int r4], S3, 0, 0)
  refine jLf.two hc _ rfl (gs := []) (p1 := ¬ r4 = 0) (p2 := ¬ (¬ r4 = 0)) (c1 := (11, [some (.ref this), some (.int p1), none, none, none, none, none, none, none, none], [], S3, 0, 0)) (c2 := (9, [some (.ref this), some (.int p1), none, none, none, none, none, none, none, none], [], S3, 0, 0)) rfl trivial (fun hz => ?_) (fun hz => ?_)
  · have h := h.1 hz
    refine jLf.bk hc 1 [] [some (.ref this), some (.int p1), none, none, none, none, none, none, none, none] [.ref this] S3 rfl rfl rfl trivial ?_
    obtain ⟨g7, h⟩ := h
    refine jLf.inv hc _ rfl (gs := [jA S3 this 12, (([] : List Value).map fun v => v.category).sum ≤ 8, 0 ≤ 0, 0 ≤ 0]) (k := 212) (args := [.ref this]) (r := []) (a := 0) (b := 0) rfl ⟨g7, Nat.le_of_ble_eq_true rfl, Nat.zero_le _, Nat.zero_le _⟩ (vX12_findLies d (by omega) h) ?_
    rintro v S5 ⟨rfl, h⟩
    show jLf (jCall jmt jbud d) jbud (fun j => (jmt j).rk) none mX12_liars (jqI Q) (13, [some (.ref this), some (.int p1), none, none, none, none, none, none, none, none], [], S5, 0, 0)
    refine jLf.bk hc 1 [] [some (.ref this), some (.int p1), none, none, none, none, none, none, none, none] [.ref this] S5 rfl rfl rfl trivial ?_
    obtain ⟨g10, h⟩ := h
    refine jLf.inv hc _ rfl (gs := [jA S5 this 12, (([] : List Value).map fun v => v.category).sum ≤ 8, 0 ≤ 0, 0 ≤ 0]) (k := 213) (args := [.ref this]) (r := []) (a := 0) (b := 0) rfl ⟨g10, Nat.le_of_ble_eq_true rfl, Nat.zero_le _, Nat.zero_le _⟩ (vX12_fewest d (by omega) h) ?_
    rintro v S8 ⟨r9, rfl, h⟩
    show jLf (jCall jmt jbud d) jbud (fun j => (jmt j).rk) none mX12_liars (jqI Q) (15, [some (.ref this), some (.int p1), none, none, none, none, none, none, none, none], [.int r9], S8, 0, 0)
    refine jLf.bk hc 5 [] [some (.ref this), some (.int p1), some (.int r9), some (.int 0), some (.int 0), none, none, none, none, none] [] S8 rfl rfl rfl trivial ?_
    exact tX12_liars_20 d hd  h
  · have h := h.2 (Classical.not_not.mp hz)
    refine jLf.bk hc 1 [] [some (.ref this), some (.int p1), none, none, none, none, none, none, none, none] [.int (-1)] S3 rfl rfl rfl trivial ?_
    exact jLf.ret hc _ rfl (gs := [True]) (v := some (.int (-1))) rfl trivial ⟨(-1), rfl, h⟩
