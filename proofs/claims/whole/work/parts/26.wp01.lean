/-! weakest preconditions, by program: X0_init X9_stormOn X0_aboutRock X0_aboutBoat X0_push X0_combine X0_work X0_told X0_isBarred J7_fill_53178 X1_init X11_placeOf X1_forget X9_hasRock X9_isWeddingOn X9_ruling X1_learnFrom X1_learnAll X1_learnDanger X1_learnDangers X1_sails X1_steps X11_hasBit X1_stepsOfAll X1_danger X1_allDanger X1_willFor X2_init X2_bestStep -/
def wX0_init  (this : Nat) (S : JS) (Q : JS → Prop) : Prop :=
  jN S < 1000000 ∧ (∀ h3 : Nat, h3 = jN S → (∀ S1 : JS, S1 = uNew S 13 7 → (jA S1 this 0 ∧ (∀ S5 : JS, S5 = uR S1 this 0 (some h3) → (jN S5 < 1000000 ∧ (∀ h8 : Nat, h8 = jN S5 → (∀ S6 : JS, S6 = uNew S5 14 32 → (jA S6 this 0 ∧ (∀ S10 : JS, S10 = uR S6 this 1 (some h8) → (Q S10))))))))))
set_option maxRecDepth 20000 in
theorem vX0_init {Q : JS → Prop} (d : Nat) (hd : 1 ≤ d) {this : Nat} {S : JS} (h : wX0_init this S Q) : jCall jmt jbud d 0 [.ref this] S (jqV Q) := by
  obtain ⟨d, rfl⟩ : ∃ d2, d = d2 + 1 := ⟨d - 1, by omega⟩
  have hd : 0 ≤ d := by omega
  have hc := jCall_mono jmt jbud d
  unfold wX0_init at h
  refine ⟨Nat.le_of_ble_eq_true rfl, ?_⟩
  show jLf (jCall jmt jbud d) jbud (fun j => (jmt j).rk) none mX0_init (jqV Q) (0, [some (.ref this)], [], S, 2, 39)
  refine jLf.bk hc 4 [(([] : List Value).map fun v => v.category).sum ≤ 8] [some (.ref this)] [.int 7, .ref this] S rfl rfl rfl (Nat.le_of_ble_eq_true rfl) ?_
  obtain ⟨g2, h⟩ := h
  refine jLf.one hc _ rfl (gs := [¬ (7 : Int32) < 0, 7 ≤ 1000000, 1 ≤ 2, 7 ≤ 39, jN S < 1000000]) (c := (5, [some (.ref this)], [.ref (jN S), .ref this], (uNew S 13 7), 1, 32)) rfl ⟨(by decide), Nat.le_of_ble_eq_true rfl, Nat.le_of_ble_eq_true rfl, Nat.le_of_ble_eq_true rfl, g2⟩ ?_
  generalize eS1 : uNew S 13 7 = S1
  generalize eh3 : jN S = h3
  have h := h h3 eh3.symm S1 eS1.symm
  obtain ⟨g4, h⟩ := h
  refine jLf.bk hc 1 [jA S1 this 0] [some (.ref this)] [] (uR S1 this 0 (some h3)) rfl rfl rfl g4 ?_
  generalize eS5 : uR S1 this 0 (some h3) = S5
  have h := h S5 eS5.symm
  refine jLf.bk hc 2 [] [some (.ref this)] [.int 32, .ref this] S5 rfl rfl rfl trivial ?_
  obtain ⟨g7, h⟩ := h
  refine jLf.one hc _ rfl (gs := [¬ (32 : Int32) < 0, 32 ≤ 1000000, 1 ≤ 1, 32 ≤ 32, jN S5 < 1000000]) (c := (9, [some (.ref this)], [.ref (jN S5), .ref this], (uNew S5 14 32), 0, 0)) rfl ⟨(by decide), Nat.le_of_ble_eq_true rfl, Nat.le_of_ble_eq_true rfl, Nat.le_of_ble_eq_true rfl, g7⟩ ?_
  generalize eS6 : uNew S5 14 32 = S6
  generalize eh8 : jN S5 = h8
  have h := h h8 eh8.symm S6 eS6.symm
  obtain ⟨g9, h⟩ := h
  refine jLf.bk hc 1 [jA S6 this 0] [some (.ref this)] [] (uR S6 this 1 (some h8)) rfl rfl rfl g9 ?_
  generalize eS10 : uR S6 this 1 (some h8) = S10
  have h := h S10 eS10.symm
  exact jLf.ret hc _ rfl (gs := [jrt none none]) (v := none) rfl trivial ⟨rfl, h⟩
def wX9_stormOn  (this : Nat) (p1 : Int32) (S : JS) (Q : Int32 → JS → Prop) : Prop :=
  jA S this 9 ∧ (Q ((((jJ S this 3) >>> (p1.toInt64 &&& 63)) &&& (1 : Int64)).toInt32) S)
set_option maxRecDepth 20000 in
theorem vX9_stormOn {Q : Int32 → JS → Prop} (d : Nat) (hd : 1 ≤ d) {this : Nat} {p1 : Int32} {S : JS} (h : wX9_stormOn this p1 S Q) : jCall jmt jbud d 89 [.ref this, .int p1] S (jqI Q) := by
  obtain ⟨d, rfl⟩ : ∃ d2, d = d2 + 1 := ⟨d - 1, by omega⟩
  have hd : 0 ≤ d := by omega
  have hc := jCall_mono jmt jbud d
  unfold wX9_stormOn at h
  refine ⟨Nat.le_of_ble_eq_true rfl, ?_⟩
  show jLf (jCall jmt jbud d) jbud (fun j => (jmt j).rk) none mX9_stormOn (jqI Q) (0, [some (.ref this), some (.int p1)], [], S, 0, 0)
  obtain ⟨g1, h⟩ := h
  refine jLf.bk hc 7 [jA S this 9] [some (.ref this), some (.int p1)] [.int ((((jJ S this 3) >>> (p1.toInt64 &&& 63)) &&& (1 : Int64)).toInt32)] S rfl rfl rfl g1 ?_
  exact jLf.ret hc _ rfl (gs := [True]) (v := some (.int ((((jJ S this 3) >>> (p1.toInt64 &&& 63)) &&& (1 : Int64)).toInt32))) rfl trivial ⟨(((jJ S this 3) >>> (p1.toInt64 &&& 63)) &&& (1 : Int64)).toInt32, rfl, h⟩
def wX0_aboutRock  (this : Nat) (p1 : Nat) (p2 : Int32) (p3 : Int32) (S : JS) (Q : JS → Prop) : Prop :=
  jA S this 0 ∧ (¬ jR S this 0 = none ∧ (jA S (jr S this 0) 13 ∧ (vp_in (1 : Int32) (jZ S (jr S this 0)) ∧ (∀ S5 : JS, S5 = uI S (jr S this 0) (1 : Int32).toNatClampNeg p2 → (jA S5 this 0 ∧ (¬ jR S5 this 0 = none ∧ (jA S5 (jr S5 this 0) 13 ∧ (vp_in (3 : Int32) (jZ S5 (jr S5 this 0)) ∧ (∀ S10 : JS, S10 = uI S5 (jr S5 this 0) (3 : Int32).toNatClampNeg p3 → (jA S10 this 0 ∧ (¬ jR S10 this 0 = none ∧ (jA S10 p1 9 ∧ (wX9_stormOn p1 p3 S10 (fun r14 S13 => jA S13 (jr S10 this 0) 13 ∧ (vp_in (4 : Int32) (jZ S13 (jr S10 this 0)) ∧ (∀ S18 : JS, S18 = uI S13 (jr S10 this 0) (4 : Int32).toNatClampNeg r14 → (jA S18 this 0 ∧ (¬ jR S18 this 0 = none ∧ (jA S18 p1 9 ∧ (jA S18 (jr S18 this 0) 13 ∧ (vp_in (5 : Int32) (jZ S18 (jr S18 this 0)) ∧ (∀ S24 : JS, S24 = uI S18 (jr S18 this 0) (5 : Int32).toNatClampNeg (jI S18 p1 1) → (jA S24 this 0 ∧ (¬ jR S24 this 0 = none ∧ (jA S24 (jr S24 this 0) 13 ∧ (vp_in (2 : Int32) (jZ S24 (jr S24 this 0)) ∧ (∀ S29 : JS, S29 = uI S24 (jr S24 this 0) (2 : Int32).toNatClampNeg (-1) → (jA S29 this 0 ∧ (¬ jR S29 this 0 = none ∧ (jA S29 (jr S29 this 0) 13 ∧ (vp_in (6 : Int32) (jZ S29 (jr S29 this 0)) ∧ (∀ S34 : JS, S34 = uI S29 (jr S29 this 0) (6 : Int32).toNatClampNeg (-1) → (Q S34)))))))))))))))))))))))))))))))))
set_option maxRecDepth 20000 in
theorem vX0_aboutRock {Q : JS → Prop} (d : Nat) (hd : 2 ≤ d) {this : Nat} {p1 : Nat} {p2 : Int32} {p3 : Int32} {S : JS} (h : wX0_aboutRock this p1 p2 p3 S Q) : jCall jmt jbud d 1 [.ref this, .ref p1, .int p2, .int p3] S (jqV Q) := by
  obtain ⟨d, rfl⟩ : ∃ d2, d = d2 + 1 := ⟨d - 1, by omega⟩
  have hd : 1 ≤ d := by omega
  have hc := jCall_mono jmt jbud d
  unfold wX0_aboutRock at h
  refine ⟨Nat.le_of_ble_eq_true rfl, ?_⟩
  show jLf (jCall jmt jbud d) jbud (fun j => (jmt j).rk) none mX0_aboutRock (jqV Q) (0, [some (.ref this), some (.ref p1), some (.int p2), some (.int p3)], [], S, 0, 0)
  obtain ⟨g1, g2, g3, g4, h⟩ := h
  refine jLf.bk hc 5 [jA S this 0, ¬ jR S this 0 = none, jA S (jr S this 0) 13, vp_in (1 : Int32) (jZ S (jr S this 0))] [some (.ref this), some (.ref p1), some (.int p2), some (.int p3)] [] (uI S (jr S this 0) (1 : Int32).toNatClampNeg p2) rfl rfl rfl ⟨g1, g2, g3, g4⟩ ?_
  generalize eS5 : uI S (jr S this 0) (1 : Int32).toNatClampNeg p2 = S5
  have h := h S5 eS5.symm
  obtain ⟨g6, g7, g8, g9, h⟩ := h
  refine jLf.bk hc 5 [jA S5 this 0, ¬ jR S5 this 0 = none, jA S5 (jr S5 this 0) 13, vp_in (3 : Int32) (jZ S5 (jr S5 this 0))] [some (.ref this), some (.ref p1), some (.int p2), some (.int p3)] [] (uI S5 (jr S5 this 0) (3 : Int32).toNatClampNeg p3) rfl rfl rfl ⟨g6, g7, g8, g9⟩ ?_
  generalize eS10 : uI S5 (jr S5 this 0) (3 : Int32).toNatClampNeg p3 = S10
  have h := h S10 eS10.symm
  obtain ⟨g11, g12, h⟩ := h
  refine jLf.bk hc 5 [jA S10 this 0, ¬ jR S10 this 0 = none] [some (.ref this), some (.ref p1), some (.int p2), some (.int p3)] [.int p3, .ref p1, .int 4, .ref (jr S10 this 0)] S10 rfl rfl rfl ⟨g11, g12⟩ ?_
  obtain ⟨g15, h⟩ := h
  refine jLf.inv hc _ rfl (gs := [jA S10 p1 9, (([.int 4, .ref (jr S10 this 0)] : List Value).map fun v => v.category).sum ≤ 8, 0 ≤ 0, 0 ≤ 0]) (k := 89) (args := [.ref p1, .int p3]) (r := [.int 4, .ref (jr S10 this 0)]) (a := 0) (b := 0) rfl ⟨g15, Nat.le_of_ble_eq_true rfl, Nat.zero_le _, Nat.zero_le _⟩ (vX9_stormOn d (by omega) h) ?_
  rintro v S13 ⟨r14, rfl, h⟩
  show jLf (jCall jmt jbud d) jbud (fun j => (jmt j).rk) none mX0_aboutRock (jqV Q) (16, [some (.ref this), some (.ref p1), some (.int p2), some (.int p3)], [.int r14, .int 4, .ref (jr S10 this 0)], S13, 0, 0)
  obtain ⟨g16, g17, h⟩ := h
  refine jLf.bk hc 1 [jA S13 (jr S10 this 0) 13, vp_in (4 : Int32) (jZ S13 (jr S10 this 0))] [some (.ref this), some (.ref p1), some (.int p2), some (.int p3)] [] (uI S13 (jr S10 this 0) (4 : Int32).toNatClampNeg r14) rfl rfl rfl ⟨g16, g17⟩ ?_
  generalize eS18 : uI S13 (jr S10 this 0) (4 : Int32).toNatClampNeg r14 = S18
  have h := h S18 eS18.symm
  obtain ⟨g19, g20, g21, g22, g23, h⟩ := h
  refine jLf.bk hc 6 [jA S18 this 0, ¬ jR S18 this 0 = none, jA S18 p1 9, jA S18 (jr S18 this 0) 13, vp_in (5 : Int32) (jZ S18 (jr S18 this 0))] [some (.ref this), some (.ref p1), some (.int p2), some (.int p3)] [] (uI S18 (jr S18 this 0) (5 : Int32).toNatClampNeg (jI S18 p1 1)) rfl rfl rfl ⟨g19, g20, g21, g22, g23⟩ ?_
  generalize eS24 : uI S18 (jr S18 this 0) (5 : Int32).toNatClampNeg (jI S18 p1 1) = S24
  have h := h S24 eS24.symm
  obtain ⟨g25, g26, g27, g28, h⟩ := h
  refine jLf.bk hc 5 [jA S24 this 0, ¬ jR S24 this 0 = none, jA S24 (jr S24 this 0) 13, vp_in (2 : Int32) (jZ S24 (jr S24 this 0))] [some (.ref this), some (.ref p1), some (.int p2), some (.int p3)] [] (uI S24 (jr S24 this 0) (2 : Int32).toNatClampNeg (-1)) rfl rfl rfl ⟨g25, g26, g27, g28⟩ ?_
  generalize eS29 : uI S24 (jr S24 this 0) (2 : Int32).toNatClampNeg (-1) = S29
  have h := h S29 eS29.symm
  obtain ⟨g30, g31, g32, g33, h⟩ := h
  refine jLf.bk hc 5 [jA S29 this 0, ¬ jR S29 this 0 = none, jA S29 (jr S29 this 0) 13, vp_in (6 : Int32) (jZ S29 (jr S29 this 0))] [some (.ref this), some (.ref p1), some (.int p2), some (.int p3)] [] (uI S29 (jr S29 this 0) (6 : Int32).toNatClampNeg (-1)) rfl rfl rfl ⟨g30, g31, g32, g33⟩ ?_
  generalize eS34 : uI S29 (jr S29 this 0) (6 : Int32).toNatClampNeg (-1) = S34
  have h := h S34 eS34.symm
  exact jLf.ret hc _ rfl (gs := [jrt none none]) (v := none) rfl trivial ⟨rfl, h⟩
def wX0_aboutBoat  (this : Nat) (p1 : Nat) (p2 : Int32) (p3 : Int32) (p4 : Int32) (S : JS) (Q : JS → Prop) : Prop :=
  jA S this 0 ∧ (wX0_aboutRock this p1 p2 p4 S (fun S1 => ∀ x4 : Int32, x4 = (if 0 ≤ (p2 - p3) then (p2 - p3) else 0 - (p2 - p3)) → (jA S1 this 0 ∧ (¬ jR S1 this 0 = none ∧ (jA S1 (jr S1 this 0) 13 ∧ (vp_in (2 : Int32) (jZ S1 (jr S1 this 0)) ∧ (∀ S9 : JS, S9 = uI S1 (jr S1 this 0) (2 : Int32).toNatClampNeg p3 → (jA S9 this 0 ∧ (¬ jR S9 this 0 = none ∧ (jA S9 p1 9 ∧ (jA S9 (jr S9 this 0) 13 ∧ (vp_in (6 : Int32) (jZ S9 (jr S9 this 0)) ∧ (∀ S15 : JS, S15 = uI S9 (jr S9 this 0) (6 : Int32).toNatClampNeg (if ((jI S9 p1 0) - x4) < x4 then ((jI S9 p1 0) - x4) else x4) → (Q S15))))))))))))))
set_option maxRecDepth 20000 in
theorem vX0_aboutBoat {Q : JS → Prop} (d : Nat) (hd : 3 ≤ d) {this : Nat} {p1 : Nat} {p2 : Int32} {p3 : Int32} {p4 : Int32} {S : JS} (h : wX0_aboutBoat this p1 p2 p3 p4 S Q) : jCall jmt jbud d 2 [.ref this, .ref p1, .int p2, .int p3, .int p4] S (jqV Q) := by
  obtain ⟨d, rfl⟩ : ∃ d2, d = d2 + 1 := ⟨d - 1, by omega⟩
  have hd : 2 ≤ d := by omega
  have hc := jCall_mono jmt jbud d
  unfold wX0_aboutBoat at h
  refine ⟨Nat.le_of_ble_eq_true rfl, ?_⟩
  show jLf (jCall jmt jbud d) jbud (fun j => (jmt j).rk) none mX0_aboutBoat (jqV Q) (0, [some (.ref this), some (.ref p1), some (.int p2), some (.int p3), some (.int p4), none], [], S, 0, 0)
  refine jLf.bk hc 4 [] [some (.ref this), some (.ref p1), some (.int p2), some (.int p3), some (.int p4), none] [.int p4, .int p2, .ref p1, .ref this] S rfl rfl rfl trivial ?_
  obtain ⟨g3, h⟩ := h
  refine jLf.inv hc _ rfl (gs := [jA S this 0, (([] : List Value).map fun v => v.category).sum ≤ 8, 0 ≤ 0, 0 ≤ 0]) (k := 1) (args := [.ref this, .ref p1, .int p2, .int p4]) (r := []) (a := 0) (b := 0) rfl ⟨g3, Nat.le_of_ble_eq_true rfl, Nat.zero_le _, Nat.zero_le _⟩ (vX0_aboutRock d (by omega) h) ?_
  rintro v S1 ⟨rfl, h⟩
  show jLf (jCall jmt jbud d) jbud (fun j => (jmt j).rk) none mX0_aboutBoat (jqV Q) (5, [some (.ref this), some (.ref p1), some (.int p2), some (.int p3), some (.int p4), none], [], S1, 0, 0)
  refine jLf.bk hc 5 [(([] : List Value).map fun v => v.category).sum ≤ 8] [some (.ref this), some (.ref p1), some (.int p2), some (.int p3), some (.int p4), some (.int (if 0 ≤ (p2 - p3) then (p2 - p3) else 0 - (p2 - p3)))] [] S1 rfl rfl rfl (Nat.le_of_ble_eq_true rfl) ?_
  generalize ex4 : (if 0 ≤ (p2 - p3) then (p2 - p3) else 0 - (p2 - p3) : Int32) = x4
  have h := h x4 ex4.symm
  obtain ⟨g5, g6, g7, g8, h⟩ := h
  refine jLf.bk hc 5 [jA S1 this 0, ¬ jR S1 this 0 = none, jA S1 (jr S1 this 0) 13, vp_in (2 : Int32) (jZ S1 (jr S1 this 0))] [some (.ref this), some (.ref p1), some (.int p2), some (.int p3), some (.int p4), some (.int x4)] [] (uI S1 (jr S1 this 0) (2 : Int32).toNatClampNeg p3) rfl rfl rfl ⟨g5, g6, g7, g8⟩ ?_
  generalize eS9 : uI S1 (jr S1 this 0) (2 : Int32).toNatClampNeg p3 = S9
  have h := h S9 eS9.symm
  obtain ⟨g10, g11, g12, g13, g14, h⟩ := h
  refine jLf.bk hc 10 [jA S9 this 0, ¬ jR S9 this 0 = none, jA S9 p1 9, (([.int 6, .ref (jr S9 this 0)] : List Value).map fun v => v.category).sum ≤ 8, jA S9 (jr S9 this 0) 13, vp_in (6 : Int32) (jZ S9 (jr S9 this 0))] [some (.ref this), some (.ref p1), some (.int p2), some (.int p3), some (.int p4), some (.int x4)] [] (uI S9 (jr S9 this 0) (6 : Int32).toNatClampNeg (if ((jI S9 p1 0) - x4) < x4 then ((jI S9 p1 0) - x4) else x4)) rfl rfl rfl ⟨g10, g11, g12, (Nat.le_of_ble_eq_true rfl), g13, g14⟩ ?_
  generalize eS15 : uI S9 (jr S9 this 0) (6 : Int32).toNatClampNeg (if ((jI S9 p1 0) - x4) < x4 then ((jI S9 p1 0) - x4) else x4) = S15
  have h := h S15 eS15.symm
  exact jLf.ret hc _ rfl (gs := [jrt none none]) (v := none) rfl trivial ⟨rfl, h⟩
def wX0_push  (this : Nat) (p1 : Int64) (S : JS) (Q : JS → Prop) : Prop :=
  jA S this 0 ∧ (¬ jR S this 1 = none ∧ (jA S (jr S this 1) 14 ∧ (((Int32.ofNat (jZ S (jr S this 1))) ≤ (jI S this 2) → Q S) ∧ (¬ ((Int32.ofNat (jZ S (jr S this 1))) ≤ (jI S this 2)) → vp_in (jI S this 2) (jZ S (jr S this 1)) ∧ (∀ S5 : JS, S5 = uJ S (jr S this 1) (jI S this 2).toNatClampNeg p1 → (jA S5 this 0 ∧ (∀ S7 : JS, S7 = uI S5 this 2 ((jI S5 this 2) + (1 : Int32)) → (Q S7))))))))
set_option maxRecDepth 20000 in
theorem vX0_push {Q : JS → Prop} (d : Nat) (hd : 1 ≤ d) {this : Nat} {p1 : Int64} {S : JS} (h : wX0_push this p1 S Q) : jCall jmt jbud d 6 [.ref this, .long p1] S (jqV Q) := by
  obtain ⟨d, rfl⟩ : ∃ d2, d = d2 + 1 := ⟨d - 1, by omega⟩
  have hd : 0 ≤ d := by omega
  have hc := jCall_mono jmt jbud d
  unfold wX0_push at h
  refine ⟨Nat.le_of_ble_eq_true rfl, ?_⟩
  show jLf (jCall jmt jbud d) jbud (fun j => (jmt j).rk) none mX0_push (jqV Q) (0, [some (.ref this), some (.long p1), none], [], S, 0, 0)
  obtain ⟨g1, g2, g3, h⟩ := h
  refine jLf.bk hc 5 [jA S this 0, jA S this 0, ¬ jR S this 1 = none, jA S (jr S this 1) 14] [some (.ref this), some (.long p1), none] [.int (Int32.ofNat (jZ S (jr S this 1))), .int (jI S this 2)] S rfl rfl rfl ⟨g1, g1, g2, g3⟩ ?_
  refine jLf.two hc _ rfl (gs := []) (p1 := (Int32.ofNat (jZ S (jr S this 1))) ≤ (jI S this 2)) (p2 := ¬ ((Int32.ofNat (jZ S (jr S this 1))) ≤ (jI S this 2))) (c1 := (18, [some (.ref this), some (.long p1), none], [], S, 0, 0)) (c2 := (6, [some (.ref this), some (.long p1), none], [], S, 0, 0)) rfl trivial (fun hz => ?_) (fun hz => ?_)
  · have h := h.1 hz
    exact jLf.ret hc _ rfl (gs := [jrt none none]) (v := none) rfl trivial ⟨rfl, h⟩
  · have h := h.2 hz
    obtain ⟨g4, h⟩ := h
    refine jLf.bk hc 6 [jA S this 0, ¬ jR S this 1 = none, jA S this 0, jA S (jr S this 1) 14, vp_in (jI S this 2) (jZ S (jr S this 1))] [some (.ref this), some (.long p1), none] [] (uJ S (jr S this 1) (jI S this 2).toNatClampNeg p1) rfl rfl rfl ⟨g1, g2, g1, g3, g4⟩ ?_
    generalize eS5 : uJ S (jr S this 1) (jI S this 2).toNatClampNeg p1 = S5
    have h := h S5 eS5.symm
    obtain ⟨g6, h⟩ := h
    refine jLf.bk hc 6 [(.ref this : Value).category = 1, jA S5 this 0, jA S5 this 0] [some (.ref this), some (.long p1), none] [] (uI S5 this 2 ((jI S5 this 2) + (1 : Int32))) rfl rfl rfl ⟨rfl, g6, g6⟩ ?_
    generalize eS7 : uI S5 this 2 ((jI S5 this 2) + (1 : Int32)) = S7
    have h := h S7 eS7.symm
    exact jLf.ret hc _ rfl (gs := [jrt none none]) (v := none) rfl trivial ⟨rfl, h⟩
def wX0_combine_89   (l0 : Nat) (l6 : Int64) (S : JS) (Q : Int32 → JS → Prop) : Prop :=
  jA S l0 0 ∧ (¬ jR S l0 1 = none ∧ (jA S (jr S l0 1) 14 ∧ (vp_in ((jI S l0 2) - (1 : Int32)) (jZ S (jr S l0 1)) ∧ (∀ S15 : JS, S15 = uJ S (jr S l0 1) ((jI S l0 2) - (1 : Int32)).toNatClampNeg l6 → ((0 < (lg_cmp l6 (1000000000 : Int64)) → Q 0 S15) ∧ (¬ (0 < (lg_cmp l6 (1000000000 : Int64))) → ((lg_cmp l6 (-1000000000 : Int64)) < 0 → Q 0 S15) ∧ (¬ ((lg_cmp l6 (-1000000000 : Int64)) < 0) → Q 1 S15)))))))
set_option maxRecDepth 20000 in
theorem tX0_combine_89 {Q : Int32 → JS → Prop}  (d : Nat) (hd : 0 ≤ d) {l0 : Nat} {l6 : Int64} {S : JS} (h : wX0_combine_89 l0 l6 S Q) : jLf (jCall jmt jbud d) jbud (fun j => (jmt j).rk) none mX0_combine (jqI Q) (89, [some (.ref l0), none, none, none, none, none, some (.long l6), none], [], S, 0, 0) := by
  have hc := jCall_mono jmt jbud d
  unfold wX0_combine_89 at h
  obtain ⟨g11, g12, g13, g14, h⟩ := h
  refine jLf.bk hc 8 [jA S l0 0, ¬ jR S l0 1 = none, jA S l0 0, jA S (jr S l0 1) 14, vp_in ((jI S l0 2) - (1 : Int32)) (jZ S (jr S l0 1))] [some (.ref l0), none, none, none, none, none, some (.long l6), none] [] (uJ S (jr S l0 1) ((jI S l0 2) - (1 : Int32)).toNatClampNeg l6) rfl rfl rfl ⟨g11, g12, g11, g13, g14⟩ ?_
  generalize eS15 : uJ S (jr S l0 1) ((jI S l0 2) - (1 : Int32)).toNatClampNeg l6 = S15
  have h := h S15 eS15.symm
  refine jLf.bk hc 3 [] [some (.ref l0), none, none, none, none, none, some (.long l6), none] [.int (lg_cmp l6 (1000000000 : Int64))] S15 rfl rfl rfl trivial ?_
  refine jLf.two hc _ rfl (gs := []) (p1 := 0 < (lg_cmp l6 (1000000000 : Int64))) (p2 := ¬ (0 < (lg_cmp l6 (1000000000 : Int64)))) (c1 := (107, [some (.ref l0), none, none, none, none, none, some (.long l6), none], [], S15, 0, 0)) (c2 := (101, [some (.ref l0), none, none, none, none, none, some (.long l6), none], [], S15, 0, 0)) rfl trivial (fun hz => ?_) (fun hz => ?_)
  · have h := h.1 hz
    refine jLf.bk hc 1 [] [some (.ref l0), none, none, none, none, none, some (.long l6), none] [.int 0] S15 rfl rfl rfl trivial ?_
    exact jLf.ret hc _ rfl (gs := [jbit 0]) (v := some (.int 0)) rfl (Or.inl rfl) ⟨_, rfl, h⟩
  · have h := h.2 hz
    refine jLf.bk hc 3 [] [some (.ref l0), none, none, none, none, none, some (.long l6), none] [.int (lg_cmp l6 (-1000000000 : Int64))] S15 rfl rfl rfl trivial ?_
    refine jLf.two hc _ rfl (gs := []) (p1 := (lg_cmp l6 (-1000000000 : Int64)) < 0) (p2 := ¬ ((lg_cmp l6 (-1000000000 : Int64)) < 0)) (c1 := (107, [some (.ref l0), none, none, none, none, none, some (.long l6), none], [], S15, 0, 0)) (c2 := (105, [some (.ref l0), none, none, none, none, none, some (.long l6), none], [], S15, 0, 0)) rfl trivial (fun hz => ?_) (fun hz => ?_)
    · have h := h.1 hz
      refine jLf.bk hc 1 [] [some (.ref l0), none, none, none, none, none, some (.long l6), none] [.int 0] S15 rfl rfl rfl trivial ?_
      exact jLf.ret hc _ rfl (gs := [jbit 0]) (v := some (.int 0)) rfl (Or.inl rfl) ⟨_, rfl, h⟩
    · have h := h.2 hz
      refine jLf.bk hc 1 [] [some (.ref l0), none, none, none, none, none, some (.long l6), none] [.int 1] S15 rfl rfl rfl trivial ?_
      refine jLf.one hc _ rfl (gs := []) (c := (108, [some (.ref l0), none, none, none, none, none, some (.long l6), none], [.int 1], S15, 0, 0)) rfl trivial ?_
      exact jLf.ret hc _ rfl (gs := [jbit 1]) (v := some (.int 1)) rfl (Or.inr rfl) ⟨_, rfl, h⟩
def wX0_combine_61   (l0 : Nat) (s0 : Int64) (S : JS) (Q : Int32 → JS → Prop) : Prop :=
  wX0_combine_89 l0 s0 S Q
set_option maxRecDepth 20000 in
theorem tX0_combine_61 {Q : Int32 → JS → Prop}  (d : Nat) (hd : 0 ≤ d) {l0 : Nat} {s0 : Int64} {S : JS} (h : wX0_combine_61 l0 s0 S Q) : jLf (jCall jmt jbud d) jbud (fun j => (jmt j).rk) none mX0_combine (jqI Q) (61, [some (.ref l0), none, none, none, none, none, none, none], [.long s0], S, 0, 0) := by
  have hc := jCall_mono jmt jbud d
  unfold wX0_combine_61 at h
  refine jLf.bk hc 1 [] [some (.ref l0), none, none, none, none, none, some (.long s0), none] [] S rfl rfl rfl trivial ?_
  refine jLf.one hc _ rfl (gs := []) (c := (89, [some (.ref l0), none, none, none, none, none, some (.long s0), none], [], S, 0, 0)) rfl trivial ?_
  exact tX0_combine_89 d hd  h
def wX0_combine_70   (l0 : Nat) (s0 : Int64) (S : JS) (Q : Int32 → JS → Prop) : Prop :=
  wX0_combine_89 l0 s0 S Q
set_option maxRecDepth 20000 in
theorem tX0_combine_70 {Q : Int32 → JS → Prop}  (d : Nat) (hd : 0 ≤ d) {l0 : Nat} {s0 : Int64} {S : JS} (h : wX0_combine_70 l0 s0 S Q) : jLf (jCall jmt jbud d) jbud (fun j => (jmt j).rk) none mX0_combine (jqI Q) (70, [some (.ref l0), none, none, none, none, none, none, none], [.long s0], S, 0, 0) := by
  have hc := jCall_mono jmt jbud d
  unfold wX0_combine_70 at h
  refine jLf.bk hc 1 [] [some (.ref l0), none, none, none, none, none, some (.long s0), none] [] S rfl rfl rfl trivial ?_
  refine jLf.one hc _ rfl (gs := []) (c := (89, [some (.ref l0), none, none, none, none, none, some (.long s0), none], [], S, 0, 0)) rfl trivial ?_
  exact tX0_combine_89 d hd  h
def wX0_combine_79   (l0 : Nat) (s0 : Int64) (S : JS) (Q : Int32 → JS → Prop) : Prop :=
  wX0_combine_89 l0 s0 S Q
set_option maxRecDepth 20000 in
theorem tX0_combine_79 {Q : Int32 → JS → Prop}  (d : Nat) (hd : 0 ≤ d) {l0 : Nat} {s0 : Int64} {S : JS} (h : wX0_combine_79 l0 s0 S Q) : jLf (jCall jmt jbud d) jbud (fun j => (jmt j).rk) none mX0_combine (jqI Q) (79, [some (.ref l0), none, none, none, none, none, none, none], [.long s0], S, 0, 0) := by
  have hc := jCall_mono jmt jbud d
  unfold wX0_combine_79 at h
  refine jLf.bk hc 1 [] [some (.ref l0), none, none, none, none, none, some (.long s0), none] [] S rfl rfl rfl trivial ?_
  refine jLf.one hc _ rfl (gs := []) (c := (89, [some (.ref l0), none, none, none, none, none, some (.long s0), none], [], S, 0, 0)) rfl trivial ?_
  exact tX0_combine_89 d hd  h
def wX0_combine_88   (l0 : Nat) (s0 : Int64) (S : JS) (Q : Int32 → JS → Prop) : Prop :=
  wX0_combine_89 l0 s0 S Q
set_option maxRecDepth 20000 in
theorem tX0_combine_88 {Q : Int32 → JS → Prop}  (d : Nat) (hd : 0 ≤ d) {l0 : Nat} {s0 : Int64} {S : JS} (h : wX0_combine_88 l0 s0 S Q) : jLf (jCall jmt jbud d) jbud (fun j => (jmt j).rk) none mX0_combine (jqI Q) (88, [some (.ref l0), none, none, none, none, none, none, none], [.long s0], S, 0, 0) := by
  have hc := jCall_mono jmt jbud d
  unfold wX0_combine_88 at h
  refine jLf.bk hc 1 [] [some (.ref l0), none, none, none, none, none, some (.long s0), none] [] S rfl rfl rfl trivial ?_
  exact tX0_combine_89 d hd  h
def wX0_combine_35   (l0 : Nat) (l1 : Int32) (l2 : Int64) (l4 : Int64) (S : JS) (Q : Int32 → JS → Prop) : Prop :=
  (l1 = 7 → ∀ x10 : Int64, x10 = (l2 + l4) → (wX0_combine_89 l0 x10 S Q)) ∧ (¬ l1 = 7 → (l1 = 8 → ∀ x16 : Int64, x16 = (l2 - l4) → (wX0_combine_89 l0 x16 S Q)) ∧ (¬ l1 = 8 → (l1 = 9 → ∀ x17 : Int64, x17 = (l2 * l4) → (wX0_combine_89 l0 x17 S Q)) ∧ (¬ l1 = 9 → (l1 = 10 → (¬ (lg_cmp l4 (0 : Int64)) = 0 → ¬ l4 = 0 ∧ (wX0_combine_61 l0 (l2 / l4) S Q)) ∧ ((lg_cmp l4 (0 : Int64)) = 0 → wX0_combine_61 l0 0 S Q)) ∧ (¬ l1 = 10 → (l1 = 11 → (0 ≤ (lg_cmp l2 l4) → wX0_combine_70 l0 0 S Q) ∧ (¬ (0 ≤ (lg_cmp l2 l4)) → wX0_combine_70 l0 1 S Q)) ∧ (¬ l1 = 11 → (l1 = 12 → ((lg_cmp l2 l4) ≤ 0 → wX0_combine_79 l0 0 S Q) ∧ (¬ ((lg_cmp l2 l4) ≤ 0) → wX0_combine_79 l0 1 S Q)) ∧ (¬ l1 = 12 → (¬ (lg_cmp l2 l4) = 0 → wX0_combine_88 l0 0 S Q) ∧ ((lg_cmp l2 l4) = 0 → wX0_combine_88 l0 1 S Q)))))))
set_option maxRecDepth 20000 in
theorem tX0_combine_35 {Q : Int32 → JS → Prop}  (d : Nat) (hd : 0 ≤ d) {l0 : Nat} {l1 : Int32} {l2 : Int64} {l4 : Int64} {S : JS} (h : wX0_combine_35 l0 l1 l2 l4 S Q) : jLf (jCall jmt jbud d) jbud (fun j => (jmt j).rk) none mX0_combine (jqI Q) (35, [some (.ref l0), some (.int l1), some (.long l2), none, some (.long l4), none, none, none], [], S, 0, 0) := by
  have hc := jCall_mono jmt jbud d
  unfold wX0_combine_35 at h
  refine jLf.bk hc 1 [] [some (.ref l0), some (.int l1), some (.long l2), none, some (.long l4), none, none, none] [.int l1] S rfl rfl rfl trivial ?_
  refine jLf.sw hc _ rfl rfl (by decide +kernel) ?_
  refine ⟨fun hz => ?_, fun hz => ?_⟩
  · have h := h.1 hz
    show jLf (jCall jmt jbud d) jbud (fun j => (jmt j).rk) none mX0_combine (jqI Q) (37, [some (.ref l0), some (.int l1), some (.long l2), none, some (.long l4), none, none, none], [], S, 0, 0)
    refine jLf.bk hc 4 [] [some (.ref l0), some (.int l1), some (.long l2), none, some (.long l4), none, some (.long (l2 + l4)), none] [] S rfl rfl rfl trivial ?_
    generalize ex10 : (l2 + l4 : Int64) = x10
    have h := h x10 ex10.symm
    refine jLf.one hc _ rfl (gs := []) (c := (89, [some (.ref l0), some (.int l1), some (.long l2), none, some (.long l4), none, some (.long x10), none], [], S, 0, 0)) rfl trivial ?_
    refine jLf.sub [some (.ref l0), none, none, none, none, none, some (.long x10), none] (jle_same (jle_none (jle_none (jle_same (jle_none (jle_same (jle_same (jle_same (jle_nil _))))))))) ?_
    exact tX0_combine_89 d hd  h
  have h := h.2 hz
  refine ⟨fun hz => ?_, fun hz => ?_⟩
  · have h := h.1 hz
    show jLf (jCall jmt jbud d) jbud (fun j => (jmt j).rk) none mX0_combine (jqI Q) (42, [some (.ref l0), some (.int l1), some (.long l2), none, some (.long l4), none, none, none], [], S, 0, 0)
    refine jLf.bk hc 4 [] [some (.ref l0), some (.int l1), some (.long l2), none, some (.long l4), none, some (.long (l2 - l4)), none] [] S rfl rfl rfl trivial ?_
    generalize ex16 : (l2 - l4 : Int64) = x16
    have h := h x16 ex16.symm
    refine jLf.one hc _ rfl (gs := []) (c := (89, [some (.ref l0), some (.int l1), some (.long l2), none, some (.long l4), none, some (.long x16), none], [], S, 0, 0)) rfl trivial ?_
    refine jLf.sub [some (.ref l0), none, none, none, none, none, some (.long x16), none] (jle_same (jle_none (jle_none (jle_same (jle_none (jle_same (jle_same (jle_same (jle_nil _))))))))) ?_
    exact tX0_combine_89 d hd  h
  have h := h.2 hz
  refine ⟨fun hz => ?_, fun hz => ?_⟩
  · have h := h.1 hz
    show jLf (jCall jmt jbud d) jbud (fun j => (jmt j).rk) none mX0_combine (jqI Q) (47, [some (.ref l0), some (.int l1), some (.long l2), none, some (.long l4), none, none, none], [], S, 0, 0)
    refine jLf.bk hc 4 [] [some (.ref l0), some (.int l1), some (.long l2), none, some (.long l4), none, some (.long (l2 * l4)), none] [] S rfl rfl rfl trivial ?_
    generalize ex17 : (l2 * l4 : Int64) = x17
    have h := h x17 ex17.symm
    refine jLf.one hc _ rfl (gs := []) (c := (89, [some (.ref l0), some (.int l1), some (.long l2), none, some (.long l4), none, some (.long x17), none], [], S, 0, 0)) rfl trivial ?_
    refine jLf.sub [some (.ref l0), none, none, none, none, none, some (.long x17), none] (jle_same (jle_none (jle_none (jle_same (jle_none (jle_same (jle_same (jle_same (jle_nil _))))))))) ?_
    exact tX0_combine_89 d hd  h
  have h := h.2 hz
  refine ⟨fun hz => ?_, fun hz => ?_⟩
  · have h := h.1 hz
    show jLf (jCall jmt jbud d) jbud (fun j => (jmt j).rk) none mX0_combine (jqI Q) (52, [some (.ref l0), some (.int l1), some (.long l2), none, some (.long l4), none, none, none], [], S, 0, 0)
    refine jLf.bk hc 3 [] [some (.ref l0), some (.int l1), some (.long l2), none, some (.long l4), none, none, none] [.int (lg_cmp l4 (0 : Int64))] S rfl rfl rfl trivial ?_
    refine jLf.two hc _ rfl (gs := []) (p1 := ¬ (lg_cmp l4 (0 : Int64)) = 0) (p2 := ¬ (¬ (lg_cmp l4 (0 : Int64)) = 0)) (c1 := (58, [some (.ref l0), some (.int l1), some (.long l2), none, some (.long l4), none, none, none], [], S, 0, 0)) (c2 := (56, [some (.ref l0), some (.int l1), some (.long l2), none, some (.long l4), none, none, none], [], S, 0, 0)) rfl trivial (fun hz => ?_) (fun hz => ?_)
    · have h := h.1 hz
      obtain ⟨g18, h⟩ := h
      refine jLf.bk hc 3 [¬ l4 = 0] [some (.ref l0), some (.int l1), some (.long l2), none, some (.long l4), none, none, none] [.long (l2 / l4)] S rfl rfl rfl g18 ?_
      refine jLf.sub [some (.ref l0), none, none, none, none, none, none, none] (jle_same (jle_none (jle_none (jle_same (jle_none (jle_same (jle_same (jle_same (jle_nil _))))))))) ?_
      exact tX0_combine_61 d hd  h
    · have h := h.2 (Classical.not_not.mp hz)
      refine jLf.bk hc 1 [] [some (.ref l0), some (.int l1), some (.long l2), none, some (.long l4), none, none, none] [.long 0] S rfl rfl rfl trivial ?_
      refine jLf.one hc _ rfl (gs := []) (c := (61, [some (.ref l0), some (.int l1), some (.long l2), none, some (.long l4), none, none, none], [.long 0], S, 0, 0)) rfl trivial ?_
      refine jLf.sub [some (.ref l0), none, none, none, none, none, none, none] (jle_same (jle_none (jle_none (jle_same (jle_none (jle_same (jle_same (jle_same (jle_nil _))))))))) ?_
      exact tX0_combine_61 d hd  h
  have h := h.2 hz
  refine ⟨fun hz => ?_, fun hz => ?_⟩
  · have h := h.1 hz
    show jLf (jCall jmt jbud d) jbud (fun j => (jmt j).rk) none mX0_combine (jqI Q) (63, [some (.ref l0), some (.int l1), some (.long l2), none, some (.long l4), none, none, none], [], S, 0, 0)
    refine jLf.bk hc 3 [] [some (.ref l0), some (.int l1), some (.long l2), none, some (.long l4), none, none, none] [.int (lg_cmp l2 l4)] S rfl rfl rfl trivial ?_
    refine jLf.two hc _ rfl (gs := []) (p1 := 0 ≤ (lg_cmp l2 l4)) (p2 := ¬ (0 ≤ (lg_cmp l2 l4))) (c1 := (69, [some (.ref l0), some (.int l1), some (.long l2), none, some (.long l4), none, none, none], [], S, 0, 0)) (c2 := (67, [some (.ref l0), some (.int l1), some (.long l2), none, some (.long l4), none, none, none], [], S, 0, 0)) rfl trivial (fun hz => ?_) (fun hz => ?_)
    · have h := h.1 hz
      refine jLf.bk hc 1 [] [some (.ref l0), some (.int l1), some (.long l2), none, some (.long l4), none, none, none] [.long 0] S rfl rfl rfl trivial ?_
      refine jLf.sub [some (.ref l0), none, none, none, none, none, none, none] (jle_same (jle_none (jle_none (jle_same (jle_none (jle_same (jle_same (jle_same (jle_nil _))))))))) ?_
      exact tX0_combine_70 d hd  h
    · have h := h.2 hz
      refine jLf.bk hc 1 [] [some (.ref l0), some (.int l1), some (.long l2), none, some (.long l4), none, none, none] [.long 1] S rfl rfl rfl trivial ?_
      refine jLf.one hc _ rfl (gs := []) (c := (70, [some (.ref l0), some (.int l1), some (.long l2), none, some (.long l4), none, none, none], [.long 1], S, 0, 0)) rfl trivial ?_
      refine jLf.sub [some (.ref l0), none, none, none, none, none, none, none] (jle_same (jle_none (jle_none (jle_same (jle_none (jle_same (jle_same (jle_same (jle_nil _))))))))) ?_
      exact tX0_combine_70 d hd  h
  have h := h.2 hz
  refine ⟨fun hz => ?_, fun hz => ?_⟩
  · have h := h.1 hz
    show jLf (jCall jmt jbud d) jbud (fun j => (jmt j).rk) none mX0_combine (jqI Q) (72, [some (.ref l0), some (.int l1), some (.long l2), none, some (.long l4), none, none, none], [], S, 0, 0)
    refine jLf.bk hc 3 [] [some (.ref l0), some (.int l1), some (.long l2), none, some (.long l4), none, none, none] [.int (lg_cmp l2 l4)] S rfl rfl rfl trivial ?_
    refine jLf.two hc _ rfl (gs := []) (p1 := (lg_cmp l2 l4) ≤ 0) (p2 := ¬ ((lg_cmp l2 l4) ≤ 0)) (c1 := (78, [some (.ref l0), some (.int l1), some (.long l2), none, some (.long l4), none, none, none], [], S, 0, 0)) (c2 := (76, [some (.ref l0), some (.int l1), some (.long l2), none, some (.long l4), none, none, none], [], S, 0, 0)) rfl trivial (fun hz => ?_) (fun hz => ?_)
    · have h := h.1 hz
      refine jLf.bk hc 1 [] [some (.ref l0), some (.int l1), some (.long l2), none, some (.long l4), none, none, none] [.long 0] S rfl rfl rfl trivial ?_
      refine jLf.sub [some (.ref l0), none, none, none, none, none, none, none] (jle_same (jle_none (jle_none (jle_same (jle_none (jle_same (jle_same (jle_same (jle_nil _))))))))) ?_
      exact tX0_combine_79 d hd  h
    · have h := h.2 hz
      refine jLf.bk hc 1 [] [some (.ref l0), some (.int l1), some (.long l2), none, some (.long l4), none, none, none] [.long 1] S rfl rfl rfl trivial ?_
      refine jLf.one hc _ rfl (gs := []) (c := (79, [some (.ref l0), some (.int l1), some (.long l2), none, some (.long l4), none, none, none], [.long 1], S, 0, 0)) rfl trivial ?_
      refine jLf.sub [some (.ref l0), none, none, none, none, none, none, none] (jle_same (jle_none (jle_none (jle_same (jle_none (jle_same (jle_same (jle_same (jle_nil _))))))))) ?_
      exact tX0_combine_79 d hd  h
  have h := h.2 hz
  show jLf (jCall jmt jbud d) jbud (fun j => (jmt j).rk) none mX0_combine (jqI Q) (81, [some (.ref l0), some (.int l1), some (.long l2), none, some (.long l4), none, none, none], [], S, 0, 0)
  refine jLf.bk hc 3 [] [some (.ref l0), some (.int l1), some (.long l2), none, some (.long l4), none, none, none] [.int (lg_cmp l2 l4)] S rfl rfl rfl trivial ?_
  refine jLf.two hc _ rfl (gs := []) (p1 := ¬ (lg_cmp l2 l4) = 0) (p2 := ¬ (¬ (lg_cmp l2 l4) = 0)) (c1 := (87, [some (.ref l0), some (.int l1), some (.long l2), none, some (.long l4), none, none, none], [], S, 0, 0)) (c2 := (85, [some (.ref l0), some (.int l1), some (.long l2), none, some (.long l4), none, none, none], [], S, 0, 0)) rfl trivial (fun hz => ?_) (fun hz => ?_)
  · have h := h.1 hz
    refine jLf.bk hc 1 [] [some (.ref l0), some (.int l1), some (.long l2), none, some (.long l4), none, none, none] [.long 0] S rfl rfl rfl trivial ?_
    refine jLf.sub [some (.ref l0), none, none, none, none, none, none, none] (jle_same (jle_none (jle_none (jle_same (jle_none (jle_same (jle_same (jle_same (jle_nil _))))))))) ?_
    exact tX0_combine_88 d hd  h
  · have h := h.2 (Classical.not_not.mp hz)
    refine jLf.bk hc 1 [] [some (.ref l0), some (.int l1), some (.long l2), none, some (.long l4), none, none, none] [.long 1] S rfl rfl rfl trivial ?_
    refine jLf.one hc _ rfl (gs := []) (c := (88, [some (.ref l0), some (.int l1), some (.long l2), none, some (.long l4), none, none, none], [.long 1], S, 0, 0)) rfl trivial ?_
    refine jLf.sub [some (.ref l0), none, none, none, none, none, none, none] (jle_same (jle_none (jle_none (jle_same (jle_none (jle_same (jle_same (jle_same (jle_nil _))))))))) ?_
    exact tX0_combine_88 d hd  h
def wX0_combine  (this : Nat) (p1 : Int32) (S : JS) (Q : Int32 → JS → Prop) : Prop :=
  jA S this 0 ∧ ((2 ≤ (jI S this 2) → ∀ S2 : JS, S2 = uI S this 2 ((jI S this 2) - (1 : Int32)) → (jA S2 this 0 ∧ (¬ jR S2 this 1 = none ∧ (jA S2 (jr S2 this 1) 14 ∧ (vp_in ((jI S2 this 2) - (1 : Int32)) (jZ S2 (jr S2 this 1)) ∧ (∀ x7 : Int64, x7 = (jJ S2 (jr S2 this 1) ((jI S2 this 2) - (1 : Int32)).toNatClampNeg) → (vp_in (jI S2 this 2) (jZ S2 (jr S2 this 1)) ∧ (∀ x9 : Int64, x9 = (jJ S2 (jr S2 this 1) (jI S2 this 2).toNatClampNeg) → ((¬ p1 = 10 → wX0_combine_35 this p1 x7 x9 S2 Q) ∧ (p1 = 10 → (¬ (lg_cmp x9 (0 : Int64)) = 0 → wX0_combine_35 this p1 x7 x9 S2 Q) ∧ ((lg_cmp x9 (0 : Int64)) = 0 → Q 0 S2))))))))))) ∧ (¬ (2 ≤ (jI S this 2)) → Q 0 S))
set_option maxRecDepth 20000 in
theorem vX0_combine {Q : Int32 → JS → Prop} (d : Nat) (hd : 1 ≤ d) {this : Nat} {p1 : Int32} {S : JS} (h : wX0_combine this p1 S Q) : jCall jmt jbud d 7 [.ref this, .int p1] S (jqI Q) := by
  obtain ⟨d, rfl⟩ : ∃ d2, d = d2 + 1 := ⟨d - 1, by omega⟩
  have hd : 0 ≤ d := by omega
  have hc := jCall_mono jmt jbud d
  unfold wX0_combine at h
  refine ⟨Nat.le_of_ble_eq_true rfl, ?_⟩
  show jLf (jCall jmt jbud d) jbud (fun j => (jmt j).rk) none mX0_combine (jqI Q) (0, [some (.ref this), some (.int p1), none, none, none, none, none, none], [], S, 0, 0)
  obtain ⟨g1, h⟩ := h
  refine jLf.bk hc 3 [jA S this 0] [some (.ref this), some (.int p1), none, none, none, none, none, none] [.int 2, .int (jI S this 2)] S rfl rfl rfl g1 ?_
  refine jLf.two hc _ rfl (gs := []) (p1 := 2 ≤ (jI S this 2)) (p2 := ¬ (2 ≤ (jI S this 2))) (c1 := (6, [some (.ref this), some (.int p1), none, none, none, none, none, none], [], S, 0, 0)) (c2 := (4, [some (.ref this), some (.int p1), none, none, none, none, none, none], [], S, 0, 0)) rfl trivial (fun hz => ?_) (fun hz => ?_)
  · have h := h.1 hz
    refine jLf.bk hc 6 [(.ref this : Value).category = 1, jA S this 0, jA S this 0] [some (.ref this), some (.int p1), none, none, none, none, none, none] [] (uI S this 2 ((jI S this 2) - (1 : Int32))) rfl rfl rfl ⟨rfl, g1, g1⟩ ?_
    generalize eS2 : uI S this 2 ((jI S this 2) - (1 : Int32)) = S2
    have h := h S2 eS2.symm
    obtain ⟨g3, g4, g5, g6, h⟩ := h
    refine jLf.bk hc 8 [jA S2 this 0, ¬ jR S2 this 1 = none, jA S2 this 0, jA S2 (jr S2 this 1) 14, vp_in ((jI S2 this 2) - (1 : Int32)) (jZ S2 (jr S2 this 1))] [some (.ref this), some (.int p1), some (.long (jJ S2 (jr S2 this 1) ((jI S2 this 2) - (1 : Int32)).toNatClampNeg)), none, none, none, none, none] [] S2 rfl rfl rfl ⟨g3, g4, g3, g5, g6⟩ ?_
    generalize ex7 : (jJ S2 (jr S2 this 1) ((jI S2 this 2) - (1 : Int32)).toNatClampNeg : Int64) = x7
    have h := h x7 ex7.symm
    obtain ⟨g8, h⟩ := h
    refine jLf.bk hc 6 [jA S2 this 0, ¬ jR S2 this 1 = none, jA S2 this 0, jA S2 (jr S2 this 1) 14, vp_in (jI S2 this 2) (jZ S2 (jr S2 this 1))] [some (.ref this), some (.int p1), some (.long x7), none, some (.long (jJ S2 (jr S2 this 1) (jI S2 this 2).toNatClampNeg)), none, none, none] [] S2 rfl rfl rfl ⟨g3, g4, g3, g5, g8⟩ ?_
    generalize ex9 : (jJ S2 (jr S2 this 1) (jI S2 this 2).toNatClampNeg : Int64) = x9
    have h := h x9 ex9.symm
    refine jLf.bk hc 2 [] [some (.ref this), some (.int p1), some (.long x7), none, some (.long x9), none, none, none] [.int 10, .int p1] S2 rfl rfl rfl trivial ?_
    refine jLf.two hc _ rfl (gs := []) (p1 := ¬ p1 = 10) (p2 := ¬ (¬ p1 = 10)) (c1 := (35, [some (.ref this), some (.int p1), some (.long x7), none, some (.long x9), none, none, none], [], S2, 0, 0)) (c2 := (29, [some (.ref this), some (.int p1), some (.long x7), none, some (.long x9), none, none, none], [], S2, 0, 0)) rfl trivial (fun hz => ?_) (fun hz => ?_)
    · have h := h.1 hz
      exact tX0_combine_35 d hd  h
    · have h := h.2 (Classical.not_not.mp hz)
      refine jLf.bk hc 3 [] [some (.ref this), some (.int p1), some (.long x7), none, some (.long x9), none, none, none] [.int (lg_cmp x9 (0 : Int64))] S2 rfl rfl rfl trivial ?_
      refine jLf.two hc _ rfl (gs := []) (p1 := ¬ (lg_cmp x9 (0 : Int64)) = 0) (p2 := ¬ (¬ (lg_cmp x9 (0 : Int64)) = 0)) (c1 := (35, [some (.ref this), some (.int p1), some (.long x7), none, some (.long x9), none, none, none], [], S2, 0, 0)) (c2 := (33, [some (.ref this), some (.int p1), some (.long x7), none, some (.long x9), none, none, none], [], S2, 0, 0)) rfl trivial (fun hz => ?_) (fun hz => ?_)
      · have h := h.1 hz
        exact tX0_combine_35 d hd  h
      · have h := h.2 (Classical.not_not.mp hz)
        refine jLf.bk hc 1 [] [some (.ref this), some (.int p1), some (.long x7), none, some (.long x9), none, none, none] [.int 0] S2 rfl rfl rfl trivial ?_
        exact jLf.ret hc _ rfl (gs := [jbit 0]) (v := some (.int 0)) rfl (Or.inl rfl) ⟨_, rfl, h⟩
  · have h := h.2 hz
    refine jLf.bk hc 1 [] [some (.ref this), some (.int p1), none, none, none, none, none, none] [.int 0] S rfl rfl rfl trivial ?_
    exact jLf.ret hc _ rfl (gs := [jbit 0]) (v := some (.int 0)) rfl (Or.inl rfl) ⟨_, rfl, h⟩
def wX0_work_127   (l0 : Nat) (S : JS) (Q : Int64 → JS → Prop) : Prop :=
  jA S l0 0 ∧ (¬ jR S l0 1 = none ∧ (jA S (jr S l0 1) 14 ∧ (vp_in ((jI S l0 2) - (1 : Int32)) (jZ S (jr S l0 1)) ∧ (Q (jJ S (jr S l0 1) ((jI S l0 2) - (1 : Int32)).toNatClampNeg) S))))
set_option maxRecDepth 20000 in
theorem tX0_work_127 {Q : Int64 → JS → Prop}  (d : Nat) (hd : 1 ≤ d) {l0 : Nat} {S : JS} (h : wX0_work_127 l0 S Q) : jLf (jCall jmt jbud d) jbud (fun j => (jmt j).rk) none mX0_work (jqL Q) (127, [some (.ref l0), none, none, none, none, none, none, none], [], S, 0, 0) := by
  have hc := jCall_mono jmt jbud d
  unfold wX0_work_127 at h
  obtain ⟨g9, g10, g11, g12, h⟩ := h
  refine jLf.bk hc 7 [jA S l0 0, ¬ jR S l0 1 = none, jA S l0 0, jA S (jr S l0 1) 14, vp_in ((jI S l0 2) - (1 : Int32)) (jZ S (jr S l0 1))] [some (.ref l0), none, none, none, none, none, none, none] [.long (jJ S (jr S l0 1) ((jI S l0 2) - (1 : Int32)).toNatClampNeg)] S rfl rfl rfl ⟨g9, g10, g9, g11, g12⟩ ?_
  exact jLf.ret hc _ rfl (gs := [True]) (v := some (.long (jJ S (jr S l0 1) ((jI S l0 2) - (1 : Int32)).toNatClampNeg))) rfl trivial ⟨jJ S (jr S l0 1) ((jI S l0 2) - (1 : Int32)).toNatClampNeg, rfl, h⟩
def wX0_work_125  (X12 : Nat → Nat → Int32 → Int32 → JS → Prop) (l0 : Nat) (l1 : Nat) (l3 : Int32) (l4 : Int32) (S : JS) (Q : Int64 → JS → Prop) : Prop :=
  ∀ x24 : Int32, x24 = (l4 + 1) → (X12 l0 l1 l3 x24 S)
set_option maxRecDepth 20000 in
theorem tX0_work_125 {Q : Int64 → JS → Prop} {X12 : Nat → Nat → Int32 → Int32 → JS → Prop} (d : Nat) (hd : 1 ≤ d) (hX12 : ∀ l0 l1 l3 l4 S, X12 l0 l1 l3 l4 S → jLf (jCall jmt jbud d) jbud (fun j => (jmt j).rk) none mX0_work (jqL Q) (12, [some (.ref l0), some (.ref l1), none, some (.int l3), some (.int l4), none, none, none], [], S, 0, 0)) {l0 : Nat} {l1 : Nat} {l3 : Int32} {l4 : Int32} {S : JS} (h : wX0_work_125 X12 l0 l1 l3 l4 S Q) : jLf (jCall jmt jbud d) jbud (fun j => (jmt j).rk) none mX0_work (jqL Q) (125, [some (.ref l0), some (.ref l1), none, some (.int l3), some (.int l4), none, none, none], [], S, 0, 0) := by
  have hc := jCall_mono jmt jbud d
  unfold wX0_work_125 at h
  refine jLf.bk hc 1 [] [some (.ref l0), some (.ref l1), none, some (.int l3), some (.int (l4 + 1)), none, none, none] [] S rfl rfl rfl trivial ?_
  generalize ex24 : (l4 + 1 : Int32) = x24
  have h := h x24 ex24.symm
  refine jLf.one hc _ rfl (gs := []) (c := (12, [some (.ref l0), some (.ref l1), none, some (.int l3), some (.int x24), none, none, none], [], S, 0, 0)) rfl trivial ?_
  exact hX12 _ _ _ _ _ h
def wX0_work_97  (X12 : Nat → Nat → Int32 → Int32 → JS → Prop) (l0 : Nat) (l1 : Nat) (l3 : Int32) (l4 : Int32) (s0 : Int32) (s1 : Nat) (S : JS) (Q : Int64 → JS → Prop) : Prop :=
  jA S s1 0 ∧ (∀ S23 : JS, S23 = uI S s1 2 s0 → (wX0_work_125 X12 l0 l1 l3 l4 S23 Q))
set_option maxRecDepth 20000 in
theorem tX0_work_97 {Q : Int64 → JS → Prop} {X12 : Nat → Nat → Int32 → Int32 → JS → Prop} (d : Nat) (hd : 1 ≤ d) (hX12 : ∀ l0 l1 l3 l4 S, X12 l0 l1 l3 l4 S → jLf (jCall jmt jbud d) jbud (fun j => (jmt j).rk) none mX0_work (jqL Q) (12, [some (.ref l0), some (.ref l1), none, some (.int l3), some (.int l4), none, none, none], [], S, 0, 0)) {l0 : Nat} {l1 : Nat} {l3 : Int32} {l4 : Int32} {s0 : Int32} {s1 : Nat} {S : JS} (h : wX0_work_97 X12 l0 l1 l3 l4 s0 s1 S Q) : jLf (jCall jmt jbud d) jbud (fun j => (jmt j).rk) none mX0_work (jqL Q) (97, [some (.ref l0), some (.ref l1), none, some (.int l3), some (.int l4), none, none, none], [.int s0, .ref s1], S, 0, 0) := by
  have hc := jCall_mono jmt jbud d
  unfold wX0_work_97 at h
  obtain ⟨g22, h⟩ := h
  refine jLf.bk hc 1 [jA S s1 0] [some (.ref l0), some (.ref l1), none, some (.int l3), some (.int l4), none, none, none] [] (uI S s1 2 s0) rfl rfl rfl g22 ?_
  generalize eS23 : uI S s1 2 s0 = S23
  have h := h S23 eS23.symm
  refine jLf.one hc _ rfl (gs := []) (c := (125, [some (.ref l0), some (.ref l1), none, some (.int l3), some (.int l4), none, none, none], [], S23, 0, 0)) rfl trivial ?_
  exact tX0_work_125 d hd hX12 h
def wX0_work_90  (X12 : Nat → Nat → Int32 → Int32 → JS → Prop) (l0 : Nat) (l1 : Nat) (l3 : Int32) (l4 : Int32) (s0 : Nat) (S : JS) (Q : Int64 → JS → Prop) : Prop :=
  jA S l0 0 ∧ (wX0_work_97 X12 l0 l1 l3 l4 (jI S l0 2) s0 S Q)
set_option maxRecDepth 20000 in
theorem tX0_work_90 {Q : Int64 → JS → Prop} {X12 : Nat → Nat → Int32 → Int32 → JS → Prop} (d : Nat) (hd : 1 ≤ d) (hX12 : ∀ l0 l1 l3 l4 S, X12 l0 l1 l3 l4 S → jLf (jCall jmt jbud d) jbud (fun j => (jmt j).rk) none mX0_work (jqL Q) (12, [some (.ref l0), some (.ref l1), none, some (.int l3), some (.int l4), none, none, none], [], S, 0, 0)) {l0 : Nat} {l1 : Nat} {l3 : Int32} {l4 : Int32} {s0 : Nat} {S : JS} (h : wX0_work_90 X12 l0 l1 l3 l4 s0 S Q) : jLf (jCall jmt jbud d) jbud (fun j => (jmt j).rk) none mX0_work (jqL Q) (90, [some (.ref l0), some (.ref l1), none, some (.int l3), some (.int l4), none, none, none], [.ref s0], S, 0, 0) := by
  have hc := jCall_mono jmt jbud d
  unfold wX0_work_90 at h
  obtain ⟨g21, h⟩ := h
  refine jLf.bk hc 2 [jA S l0 0] [some (.ref l0), some (.ref l1), none, some (.int l3), some (.int l4), none, none, none] [.int (jI S l0 2), .ref s0] S rfl rfl rfl g21 ?_
  refine jLf.one hc _ rfl (gs := []) (c := (97, [some (.ref l0), some (.ref l1), none, some (.int l3), some (.int l4), none, none, none], [.int (jI S l0 2), .ref s0], S, 0, 0)) rfl trivial ?_
  exact tX0_work_97 d hd hX12 h
def wX0_work_82  (X12 : Nat → Nat → Int32 → Int32 → JS → Prop) (l0 : Nat) (l1 : Nat) (l3 : Int32) (l7 : Int32) (s0 : Int32) (S : JS) (Q : Int64 → JS → Prop) : Prop :=
  (¬ l7 = 0 → wX0_work_90 X12 l0 l1 l3 s0 l0 S Q) ∧ (l7 = 0 → jA S l0 0 ∧ ((1 < (jI S l0 2) → wX0_work_97 X12 l0 l1 l3 s0 ((jI S l0 2) - (1 : Int32)) l0 S Q) ∧ (¬ (1 < (jI S l0 2)) → wX0_work_90 X12 l0 l1 l3 s0 l0 S Q)))
set_option maxRecDepth 20000 in
theorem tX0_work_82 {Q : Int64 → JS → Prop} {X12 : Nat → Nat → Int32 → Int32 → JS → Prop} (d : Nat) (hd : 1 ≤ d) (hX12 : ∀ l0 l1 l3 l4 S, X12 l0 l1 l3 l4 S → jLf (jCall jmt jbud d) jbud (fun j => (jmt j).rk) none mX0_work (jqL Q) (12, [some (.ref l0), some (.ref l1), none, some (.int l3), some (.int l4), none, none, none], [], S, 0, 0)) {l0 : Nat} {l1 : Nat} {l3 : Int32} {l7 : Int32} {s0 : Int32} {S : JS} (h : wX0_work_82 X12 l0 l1 l3 l7 s0 S Q) : jLf (jCall jmt jbud d) jbud (fun j => (jmt j).rk) none mX0_work (jqL Q) (82, [some (.ref l0), some (.ref l1), none, some (.int l3), none, none, none, some (.int l7)], [.int s0], S, 0, 0) := by
  have hc := jCall_mono jmt jbud d
  unfold wX0_work_82 at h
  refine jLf.bk hc 3 [] [some (.ref l0), some (.ref l1), none, some (.int l3), some (.int s0), none, none, some (.int l7)] [.int l7, .ref l0] S rfl rfl rfl trivial ?_
  refine jLf.two hc _ rfl (gs := []) (p1 := ¬ l7 = 0) (p2 := ¬ (¬ l7 = 0)) (c1 := (90, [some (.ref l0), some (.ref l1), none, some (.int l3), some (.int s0), none, none, some (.int l7)], [.ref l0], S, 0, 0)) (c2 := (86, [some (.ref l0), some (.ref l1), none, some (.int l3), some (.int s0), none, none, some (.int l7)], [.ref l0], S, 0, 0)) rfl trivial (fun hz => ?_) (fun hz => ?_)
  · have h := h.1 hz
    refine jLf.sub [some (.ref l0), some (.ref l1), none, some (.int l3), some (.int s0), none, none, none] (jle_same (jle_same (jle_same (jle_same (jle_same (jle_same (jle_same (jle_none (jle_nil _))))))))) ?_
    exact tX0_work_90 d hd hX12 h
  · have h := h.2 (Classical.not_not.mp hz)
    obtain ⟨g25, h⟩ := h
    refine jLf.bk hc 3 [jA S l0 0] [some (.ref l0), some (.ref l1), none, some (.int l3), some (.int s0), none, none, some (.int l7)] [.int 1, .int (jI S l0 2), .ref l0] S rfl rfl rfl g25 ?_
    refine jLf.two hc _ rfl (gs := []) (p1 := 1 < (jI S l0 2)) (p2 := ¬ (1 < (jI S l0 2))) (c1 := (93, [some (.ref l0), some (.ref l1), none, some (.int l3), some (.int s0), none, none, some (.int l7)], [.ref l0], S, 0, 0)) (c2 := (90, [some (.ref l0), some (.ref l1), none, some (.int l3), some (.int s0), none, none, some (.int l7)], [.ref l0], S, 0, 0)) rfl trivial (fun hz => ?_) (fun hz => ?_)
    · have h := h.1 hz
      refine jLf.bk hc 4 [jA S l0 0] [some (.ref l0), some (.ref l1), none, some (.int l3), some (.int s0), none, none, some (.int l7)] [.int ((jI S l0 2) - (1 : Int32)), .ref l0] S rfl rfl rfl g25 ?_
      refine jLf.sub [some (.ref l0), some (.ref l1), none, some (.int l3), some (.int s0), none, none, none] (jle_same (jle_same (jle_same (jle_same (jle_same (jle_same (jle_same (jle_none (jle_nil _))))))))) ?_
      exact tX0_work_97 d hd hX12 h
    · have h := h.2 hz
      refine jLf.sub [some (.ref l0), some (.ref l1), none, some (.int l3), some (.int s0), none, none, none] (jle_same (jle_same (jle_same (jle_same (jle_same (jle_same (jle_same (jle_none (jle_nil _))))))))) ?_
      exact tX0_work_90 d hd hX12 h
def wX0_work_72  (X12 : Nat → Nat → Int32 → Int32 → JS → Prop) (l0 : Nat) (l1 : Nat) (l3 : Int32) (l4 : Int32) (l6 : Int32) (s0 : Int32) (S : JS) (Q : Int64 → JS → Prop) : Prop :=
  (s0 = 0 → wX0_work_82 X12 l0 l1 l3 s0 l4 S Q) ∧ (¬ s0 = 0 → wX0_work_82 X12 l0 l1 l3 s0 (if l4 < (l6 - (1 : Int32)) then (l6 - (1 : Int32)) else l4) S Q)
set_option maxRecDepth 20000 in
theorem tX0_work_72 {Q : Int64 → JS → Prop} {X12 : Nat → Nat → Int32 → Int32 → JS → Prop} (d : Nat) (hd : 1 ≤ d) (hX12 : ∀ l0 l1 l3 l4 S, X12 l0 l1 l3 l4 S → jLf (jCall jmt jbud d) jbud (fun j => (jmt j).rk) none mX0_work (jqL Q) (12, [some (.ref l0), some (.ref l1), none, some (.int l3), some (.int l4), none, none, none], [], S, 0, 0)) {l0 : Nat} {l1 : Nat} {l3 : Int32} {l4 : Int32} {l6 : Int32} {s0 : Int32} {S : JS} (h : wX0_work_72 X12 l0 l1 l3 l4 l6 s0 S Q) : jLf (jCall jmt jbud d) jbud (fun j => (jmt j).rk) none mX0_work (jqL Q) (72, [some (.ref l0), some (.ref l1), none, some (.int l3), some (.int l4), none, some (.int l6), none], [.int s0], S, 0, 0) := by
  have hc := jCall_mono jmt jbud d
  unfold wX0_work_72 at h
  refine jLf.bk hc 2 [] [some (.ref l0), some (.ref l1), none, some (.int l3), some (.int l4), none, some (.int l6), some (.int s0)] [.int s0] S rfl rfl rfl trivial ?_
  refine jLf.two hc _ rfl (gs := []) (p1 := s0 = 0) (p2 := ¬ (s0 = 0)) (c1 := (81, [some (.ref l0), some (.ref l1), none, some (.int l3), some (.int l4), none, some (.int l6), some (.int s0)], [], S, 0, 0)) (c2 := (75, [some (.ref l0), some (.ref l1), none, some (.int l3), some (.int l4), none, some (.int l6), some (.int s0)], [], S, 0, 0)) rfl trivial (fun hz => ?_) (fun hz => ?_)
  · have h := h.1 hz
    refine jLf.bk hc 1 [] [some (.ref l0), some (.ref l1), none, some (.int l3), some (.int l4), none, some (.int l6), some (.int s0)] [.int l4] S rfl rfl rfl trivial ?_
    refine jLf.sub [some (.ref l0), some (.ref l1), none, some (.int l3), none, none, none, some (.int s0)] (jle_same (jle_same (jle_same (jle_same (jle_none (jle_same (jle_none (jle_same (jle_nil _))))))))) ?_
    exact tX0_work_82 d hd hX12 h
  · have h := h.2 hz
    refine jLf.bk hc 5 [(([] : List Value).map fun v => v.category).sum ≤ 8] [some (.ref l0), some (.ref l1), none, some (.int l3), some (.int l4), none, some (.int l6), some (.int s0)] [.int (if l4 < (l6 - (1 : Int32)) then (l6 - (1 : Int32)) else l4)] S rfl rfl rfl (Nat.le_of_ble_eq_true rfl) ?_
    refine jLf.one hc _ rfl (gs := []) (c := (82, [some (.ref l0), some (.ref l1), none, some (.int l3), some (.int l4), none, some (.int l6), some (.int s0)], [.int (if l4 < (l6 - (1 : Int32)) then (l6 - (1 : Int32)) else l4)], S, 0, 0)) rfl trivial ?_
    refine jLf.sub [some (.ref l0), some (.ref l1), none, some (.int l3), none, none, none, some (.int s0)] (jle_same (jle_same (jle_same (jle_same (jle_none (jle_same (jle_none (jle_same (jle_nil _))))))))) ?_
    exact tX0_work_82 d hd hX12 h
def wX0_work_66  (X12 : Nat → Nat → Int32 → Int32 → JS → Prop) (l0 : Nat) (l1 : Nat) (l3 : Int32) (l4 : Int32) (l6 : Int32) (s0 : Int32) (s1 : Int64) (S : JS) (Q : Int64 → JS → Prop) : Prop :=
  (¬ (lg_cmp s1 (s0.toInt64)) = 0 → wX0_work_72 X12 l0 l1 l3 l4 l6 0 S Q) ∧ ((lg_cmp s1 (s0.toInt64)) = 0 → wX0_work_72 X12 l0 l1 l3 l4 l6 1 S Q)
set_option maxRecDepth 20000 in
theorem tX0_work_66 {Q : Int64 → JS → Prop} {X12 : Nat → Nat → Int32 → Int32 → JS → Prop} (d : Nat) (hd : 1 ≤ d) (hX12 : ∀ l0 l1 l3 l4 S, X12 l0 l1 l3 l4 S → jLf (jCall jmt jbud d) jbud (fun j => (jmt j).rk) none mX0_work (jqL Q) (12, [some (.ref l0), some (.ref l1), none, some (.int l3), some (.int l4), none, none, none], [], S, 0, 0)) {l0 : Nat} {l1 : Nat} {l3 : Int32} {l4 : Int32} {l6 : Int32} {s0 : Int32} {s1 : Int64} {S : JS} (h : wX0_work_66 X12 l0 l1 l3 l4 l6 s0 s1 S Q) : jLf (jCall jmt jbud d) jbud (fun j => (jmt j).rk) none mX0_work (jqL Q) (66, [some (.ref l0), some (.ref l1), none, some (.int l3), some (.int l4), none, some (.int l6), none], [.int s0, .long s1], S, 0, 0) := by
  have hc := jCall_mono jmt jbud d
  unfold wX0_work_66 at h
  refine jLf.bk hc 2 [] [some (.ref l0), some (.ref l1), none, some (.int l3), some (.int l4), none, some (.int l6), none] [.int (lg_cmp s1 (s0.toInt64))] S rfl rfl rfl trivial ?_
  refine jLf.two hc _ rfl (gs := []) (p1 := ¬ (lg_cmp s1 (s0.toInt64)) = 0) (p2 := ¬ (¬ (lg_cmp s1 (s0.toInt64)) = 0)) (c1 := (71, [some (.ref l0), some (.ref l1), none, some (.int l3), some (.int l4), none, some (.int l6), none], [], S, 0, 0)) (c2 := (69, [some (.ref l0), some (.ref l1), none, some (.int l3), some (.int l4), none, some (.int l6), none], [], S, 0, 0)) rfl trivial (fun hz => ?_) (fun hz => ?_)
  · have h := h.1 hz
    refine jLf.bk hc 1 [] [some (.ref l0), some (.ref l1), none, some (.int l3), some (.int l4), none, some (.int l6), none] [.int 0] S rfl rfl rfl trivial ?_
    exact tX0_work_72 d hd hX12 h
  · have h := h.2 (Classical.not_not.mp hz)
    refine jLf.bk hc 1 [] [some (.ref l0), some (.ref l1), none, some (.int l3), some (.int l4), none, some (.int l6), none] [.int 1] S rfl rfl rfl trivial ?_
    refine jLf.one hc _ rfl (gs := []) (c := (72, [some (.ref l0), some (.ref l1), none, some (.int l3), some (.int l4), none, some (.int l6), none], [.int 1], S, 0, 0)) rfl trivial ?_
    exact tX0_work_72 d hd hX12 h
def wX0_work_53  (X12 : Nat → Nat → Int32 → Int32 → JS → Prop) (l0 : Nat) (l1 : Nat) (l3 : Int32) (l4 : Int32) (l5 : Int32) (l6 : Int32) (S : JS) (Q : Int64 → JS → Prop) : Prop :=
  jA S l0 0 ∧ (¬ jR S l0 1 = none ∧ (jA S (jr S l0 1) 14 ∧ (vp_in ((jI S l0 2) - (1 : Int32)) (jZ S (jr S l0 1)) ∧ ((¬ l5 = 15 → wX0_work_66 X12 l0 l1 l3 l4 l6 0 (jJ S (jr S l0 1) ((jI S l0 2) - (1 : Int32)).toNatClampNeg) S Q) ∧ (l5 = 15 → wX0_work_66 X12 l0 l1 l3 l4 l6 1 (jJ S (jr S l0 1) ((jI S l0 2) - (1 : Int32)).toNatClampNeg) S Q)))))
set_option maxRecDepth 20000 in
theorem tX0_work_53 {Q : Int64 → JS → Prop} {X12 : Nat → Nat → Int32 → Int32 → JS → Prop} (d : Nat) (hd : 1 ≤ d) (hX12 : ∀ l0 l1 l3 l4 S, X12 l0 l1 l3 l4 S → jLf (jCall jmt jbud d) jbud (fun j => (jmt j).rk) none mX0_work (jqL Q) (12, [some (.ref l0), some (.ref l1), none, some (.int l3), some (.int l4), none, none, none], [], S, 0, 0)) {l0 : Nat} {l1 : Nat} {l3 : Int32} {l4 : Int32} {l5 : Int32} {l6 : Int32} {S : JS} (h : wX0_work_53 X12 l0 l1 l3 l4 l5 l6 S Q) : jLf (jCall jmt jbud d) jbud (fun j => (jmt j).rk) none mX0_work (jqL Q) (53, [some (.ref l0), some (.ref l1), none, some (.int l3), some (.int l4), some (.int l5), some (.int l6), none], [], S, 0, 0) := by
  have hc := jCall_mono jmt jbud d
  unfold wX0_work_53 at h
  obtain ⟨g17, g18, g19, g20, h⟩ := h
  refine jLf.bk hc 9 [jA S l0 0, ¬ jR S l0 1 = none, jA S l0 0, jA S (jr S l0 1) 14, vp_in ((jI S l0 2) - (1 : Int32)) (jZ S (jr S l0 1))] [some (.ref l0), some (.ref l1), none, some (.int l3), some (.int l4), some (.int l5), some (.int l6), none] [.int 15, .int l5, .long (jJ S (jr S l0 1) ((jI S l0 2) - (1 : Int32)).toNatClampNeg)] S rfl rfl rfl ⟨g17, g18, g17, g19, g20⟩ ?_
  refine jLf.two hc _ rfl (gs := []) (p1 := ¬ l5 = 15) (p2 := ¬ (¬ l5 = 15)) (c1 := (65, [some (.ref l0), some (.ref l1), none, some (.int l3), some (.int l4), some (.int l5), some (.int l6), none], [.long (jJ S (jr S l0 1) ((jI S l0 2) - (1 : Int32)).toNatClampNeg)], S, 0, 0)) (c2 := (63, [some (.ref l0), some (.ref l1), none, some (.int l3), some (.int l4), some (.int l5), some (.int l6), none], [.long (jJ S (jr S l0 1) ((jI S l0 2) - (1 : Int32)).toNatClampNeg)], S, 0, 0)) rfl trivial (fun hz => ?_) (fun hz => ?_)
  · have h := h.1 hz
    refine jLf.bk hc 1 [] [some (.ref l0), some (.ref l1), none, some (.int l3), some (.int l4), some (.int l5), some (.int l6), none] [.int 0, .long (jJ S (jr S l0 1) ((jI S l0 2) - (1 : Int32)).toNatClampNeg)] S rfl rfl rfl trivial ?_
    refine jLf.sub [some (.ref l0), some (.ref l1), none, some (.int l3), some (.int l4), none, some (.int l6), none] (jle_same (jle_same (jle_same (jle_same (jle_same (jle_none (jle_same (jle_same (jle_nil _))))))))) ?_
    exact tX0_work_66 d hd hX12 h
  · have h := h.2 (Classical.not_not.mp hz)
    refine jLf.bk hc 1 [] [some (.ref l0), some (.ref l1), none, some (.int l3), some (.int l4), some (.int l5), some (.int l6), none] [.int 1, .long (jJ S (jr S l0 1) ((jI S l0 2) - (1 : Int32)).toNatClampNeg)] S rfl rfl rfl trivial ?_
    refine jLf.one hc _ rfl (gs := []) (c := (66, [some (.ref l0), some (.ref l1), none, some (.int l3), some (.int l4), some (.int l5), some (.int l6), none], [.int 1, .long (jJ S (jr S l0 1) ((jI S l0 2) - (1 : Int32)).toNatClampNeg)], S, 0, 0)) rfl trivial ?_
    refine jLf.sub [some (.ref l0), some (.ref l1), none, some (.int l3), some (.int l4), none, some (.int l6), none] (jle_same (jle_same (jle_same (jle_same (jle_same (jle_none (jle_same (jle_same (jle_nil _))))))))) ?_
    exact tX0_work_66 d hd hX12 h
def wX0_work_45  (X12 : Nat → Nat → Int32 → Int32 → JS → Prop) (l0 : Nat) (l1 : Nat) (l3 : Int32) (l4 : Int32) (s0 : Int64) (s1 : Nat) (S : JS) (Q : Int64 → JS → Prop) : Prop :=
  jA S s1 0 ∧ (wX0_push s1 s0 S (fun S38 => wX0_work_125 X12 l0 l1 l3 l4 S38 Q))
set_option maxRecDepth 20000 in
theorem tX0_work_45 {Q : Int64 → JS → Prop} {X12 : Nat → Nat → Int32 → Int32 → JS → Prop} (d : Nat) (hd : 1 ≤ d) (hX12 : ∀ l0 l1 l3 l4 S, X12 l0 l1 l3 l4 S → jLf (jCall jmt jbud d) jbud (fun j => (jmt j).rk) none mX0_work (jqL Q) (12, [some (.ref l0), some (.ref l1), none, some (.int l3), some (.int l4), none, none, none], [], S, 0, 0)) {l0 : Nat} {l1 : Nat} {l3 : Int32} {l4 : Int32} {s0 : Int64} {s1 : Nat} {S : JS} (h : wX0_work_45 X12 l0 l1 l3 l4 s0 s1 S Q) : jLf (jCall jmt jbud d) jbud (fun j => (jmt j).rk) none mX0_work (jqL Q) (45, [some (.ref l0), some (.ref l1), none, some (.int l3), some (.int l4), none, none, none], [.long s0, .ref s1], S, 0, 0) := by
  have hc := jCall_mono jmt jbud d
  unfold wX0_work_45 at h
  obtain ⟨g40, h⟩ := h
  refine jLf.inv hc _ rfl (gs := [jA S s1 0, (([] : List Value).map fun v => v.category).sum ≤ 8, 0 ≤ 0, 0 ≤ 0]) (k := 6) (args := [.ref s1, .long s0]) (r := []) (a := 0) (b := 0) rfl ⟨g40, Nat.le_of_ble_eq_true rfl, Nat.zero_le _, Nat.zero_le _⟩ (vX0_push d (by omega) h) ?_
  rintro v S38 ⟨rfl, h⟩
  show jLf (jCall jmt jbud d) jbud (fun j => (jmt j).rk) none mX0_work (jqL Q) (46, [some (.ref l0), some (.ref l1), none, some (.int l3), some (.int l4), none, none, none], [], S38, 0, 0)
  refine jLf.one hc _ rfl (gs := []) (c := (125, [some (.ref l0), some (.ref l1), none, some (.int l3), some (.int l4), none, none, none], [], S38, 0, 0)) rfl trivial ?_
  exact tX0_work_125 d hd hX12 h
def bX0_work_12   (X12 : Nat → Nat → Int32 → Int32 → JS → Prop) (l0 : Nat) (l1 : Nat) (l3 : Int32) (l4 : Int32) (S : JS) (Q : Int64 → JS → Prop) : Prop :=
  (l3 ≤ l4 → wX0_work_127 l0 S Q) ∧ (¬ (l3 ≤ l4) → jA S l1 13 ∧ (((Int32.ofNat (jZ S l1)) ≤ l4 → wX0_work_127 l0 S Q) ∧ (¬ ((Int32.ofNat (jZ S l1)) ≤ l4) → vp_in l4 (jZ S l1) ∧ (∀ x15 : Int32, x15 = ((jI S l1 l4.toNatClampNeg) &&& (31 : Int32)) → (∀ x16 : Int32, x16 = (jushr (jI S l1 l4.toNatClampNeg) (5 : Int32)) → ((6 < x15 → (x15 = 15 → wX0_work_53 X12 l0 l1 l3 l4 x15 x16 S Q) ∧ (¬ x15 = 15 → (¬ x15 = 16 → (¬ x15 = 14 → jA S l0 0 ∧ (wX0_combine l0 x15 S (fun r27 S26 => (¬ r27 = 0 → wX0_work_125 X12 l0 l1 l3 l4 S26 Q) ∧ (r27 = 0 → Q 1000000001 S26)))) ∧ (x15 = 14 → jA S l0 0 ∧ (¬ jR S l0 1 = none ∧ (jA S (jr S l0 1) 14 ∧ (vp_in ((jI S l0 2) - (1 : Int32)) (jZ S (jr S l0 1)) ∧ (∀ S33 : JS, S33 = uJ S (jr S l0 1) ((jI S l0 2) - (1 : Int32)).toNatClampNeg ((1 : Int64) - (jJ S (jr S l0 1) ((jI S l0 2) - (1 : Int32)).toNatClampNeg)) → (wX0_work_125 X12 l0 l1 l3 l4 S33 Q))))))) ∧ (x15 = 16 → wX0_work_53 X12 l0 l1 l3 l4 x15 x16 S Q))) ∧ (¬ (6 < x15) → (¬ x15 = 0 → jA S l0 0 ∧ (¬ jR S l0 0 = none ∧ (jA S (jr S l0 0) 13 ∧ (vp_in x15 (jZ S (jr S l0 0)) ∧ (wX0_work_45 X12 l0 l1 l3 l4 ((jI S (jr S l0 0) x15.toNatClampNeg).toInt64) l0 S Q))))) ∧ (x15 = 0 → wX0_work_45 X12 l0 l1 l3 l4 (x16.toInt64) l0 S Q))))))))
set_option maxRecDepth 20000 in
theorem uX0_work_12 {Q : Int64 → JS → Prop}  (d : Nat) (hd : 1 ≤ d) {X12 : Nat → Nat → Int32 → Int32 → JS → Prop} (hX12 : ∀ l0 l1 l3 l4 S, X12 l0 l1 l3 l4 S → jLf (jCall jmt jbud d) jbud (fun j => (jmt j).rk) none mX0_work (jqL Q) (12, [some (.ref l0), some (.ref l1), none, some (.int l3), some (.int l4), none, none, none], [], S, 0, 0)) {l0 : Nat} {l1 : Nat} {l3 : Int32} {l4 : Int32} {S : JS} (h : bX0_work_12 X12 l0 l1 l3 l4 S Q) : jLf (jCall jmt jbud d) jbud (fun j => (jmt j).rk) none mX0_work (jqL Q) (12, [some (.ref l0), some (.ref l1), none, some (.int l3), some (.int l4), none, none, none], [], S, 0, 0) := by
  have hc := jCall_mono jmt jbud d
  unfold bX0_work_12 at h
  refine jLf.bk hc 2 [] [some (.ref l0), some (.ref l1), none, some (.int l3), some (.int l4), none, none, none] [.int l3, .int l4] S rfl rfl rfl trivial ?_
  refine jLf.two hc _ rfl (gs := []) (p1 := l3 ≤ l4) (p2 := ¬ (l3 ≤ l4)) (c1 := (127, [some (.ref l0), some (.ref l1), none, some (.int l3), some (.int l4), none, none, none], [], S, 0, 0)) (c2 := (15, [some (.ref l0), some (.ref l1), none, some (.int l3), some (.int l4), none, none, none], [], S, 0, 0)) rfl trivial (fun hz => ?_) (fun hz => ?_)
  · have h := h.1 hz
    refine jLf.sub [some (.ref l0), none, none, none, none, none, none, none] (jle_same (jle_none (jle_same (jle_none (jle_none (jle_same (jle_same (jle_same (jle_nil _))))))))) ?_
    exact tX0_work_127 d hd  h
  · have h := h.2 hz
    obtain ⟨g13, h⟩ := h
    refine jLf.bk hc 3 [jA S l1 13] [some (.ref l0), some (.ref l1), none, some (.int l3), some (.int l4), none, none, none] [.int (Int32.ofNat (jZ S l1)), .int l4] S rfl rfl rfl g13 ?_
    refine jLf.two hc _ rfl (gs := []) (p1 := (Int32.ofNat (jZ S l1)) ≤ l4) (p2 := ¬ ((Int32.ofNat (jZ S l1)) ≤ l4)) (c1 := (127, [some (.ref l0), some (.ref l1), none, some (.int l3), some (.int l4), none, none, none], [], S, 0, 0)) (c2 := (19, [some (.ref l0), some (.ref l1), none, some (.int l3), some (.int l4), none, none, none], [], S, 0, 0)) rfl trivial (fun hz => ?_) (fun hz => ?_)
    · have h := h.1 hz
      refine jLf.sub [some (.ref l0), none, none, none, none, none, none, none] (jle_same (jle_none (jle_same (jle_none (jle_none (jle_same (jle_same (jle_same (jle_nil _))))))))) ?_
      exact tX0_work_127 d hd  h
    · have h := h.2 hz
      obtain ⟨g14, h⟩ := h
      refine jLf.bk hc 6 [jA S l1 13, vp_in l4 (jZ S l1)] [some (.ref l0), some (.ref l1), none, some (.int l3), some (.int l4), some (.int ((jI S l1 l4.toNatClampNeg) &&& (31 : Int32))), none, none] [] S rfl rfl rfl ⟨g13, g14⟩ ?_
      generalize ex15 : ((jI S l1 l4.toNatClampNeg) &&& (31 : Int32) : Int32) = x15
      have h := h x15 ex15.symm
      refine jLf.bk hc 6 [jA S l1 13, vp_in l4 (jZ S l1)] [some (.ref l0), some (.ref l1), none, some (.int l3), some (.int l4), some (.int x15), some (.int (jushr (jI S l1 l4.toNatClampNeg) (5 : Int32))), none] [] S rfl rfl rfl ⟨g13, g14⟩ ?_
      generalize ex16 : (jushr (jI S l1 l4.toNatClampNeg) (5 : Int32) : Int32) = x16
      have h := h x16 ex16.symm
      refine jLf.bk hc 2 [] [some (.ref l0), some (.ref l1), none, some (.int l3), some (.int l4), some (.int x15), some (.int x16), none] [.int 6, .int x15] S rfl rfl rfl trivial ?_
      refine jLf.two hc _ rfl (gs := []) (p1 := 6 < x15) (p2 := ¬ (6 < x15)) (c1 := (47, [some (.ref l0), some (.ref l1), none, some (.int l3), some (.int l4), some (.int x15), some (.int x16), none], [], S, 0, 0)) (c2 := (34, [some (.ref l0), some (.ref l1), none, some (.int l3), some (.int l4), some (.int x15), some (.int x16), none], [], S, 0, 0)) rfl trivial (fun hz => ?_) (fun hz => ?_)
      · have h := h.1 hz
        refine jLf.bk hc 2 [] [some (.ref l0), some (.ref l1), none, some (.int l3), some (.int l4), some (.int x15), some (.int x16), none] [.int 15, .int x15] S rfl rfl rfl trivial ?_
        refine jLf.two hc _ rfl (gs := []) (p1 := x15 = 15) (p2 := ¬ (x15 = 15)) (c1 := (53, [some (.ref l0), some (.ref l1), none, some (.int l3), some (.int l4), some (.int x15), some (.int x16), none], [], S, 0, 0)) (c2 := (50, [some (.ref l0), some (.ref l1), none, some (.int l3), some (.int l4), some (.int x15), some (.int x16), none], [], S, 0, 0)) rfl trivial (fun hz => ?_) (fun hz => ?_)
        · have h := h.1 hz
          exact tX0_work_53 d hd hX12 h
        · have h := h.2 hz
          refine jLf.bk hc 2 [] [some (.ref l0), some (.ref l1), none, some (.int l3), some (.int l4), some (.int x15), some (.int x16), none] [.int 16, .int x15] S rfl rfl rfl trivial ?_
          refine jLf.two hc _ rfl (gs := []) (p1 := ¬ x15 = 16) (p2 := ¬ (¬ x15 = 16)) (c1 := (99, [some (.ref l0), some (.ref l1), none, some (.int l3), some (.int l4), some (.int x15), some (.int x16), none], [], S, 0, 0)) (c2 := (53, [some (.ref l0), some (.ref l1), none, some (.int l3), some (.int l4), some (.int x15), some (.int x16), none], [], S, 0, 0)) rfl trivial (fun hz => ?_) (fun hz => ?_)
          · have h := h.1 hz
            refine jLf.bk hc 2 [] [some (.ref l0), some (.ref l1), none, some (.int l3), some (.int l4), some (.int x15), some (.int x16), none] [.int 14, .int x15] S rfl rfl rfl trivial ?_
            refine jLf.two hc _ rfl (gs := []) (p1 := ¬ x15 = 14) (p2 := ¬ (¬ x15 = 14)) (c1 := (119, [some (.ref l0), some (.ref l1), none, some (.int l3), some (.int l4), some (.int x15), some (.int x16), none], [], S, 0, 0)) (c2 := (102, [some (.ref l0), some (.ref l1), none, some (.int l3), some (.int l4), some (.int x15), some (.int x16), none], [], S, 0, 0)) rfl trivial (fun hz => ?_) (fun hz => ?_)
            · have h := h.1 hz
              refine jLf.bk hc 2 [] [some (.ref l0), some (.ref l1), none, some (.int l3), some (.int l4), some (.int x15), some (.int x16), none] [.int x15, .ref l0] S rfl rfl rfl trivial ?_
              obtain ⟨g28, h⟩ := h
              refine jLf.inv hc _ rfl (gs := [jA S l0 0, (([] : List Value).map fun v => v.category).sum ≤ 8, 0 ≤ 0, 0 ≤ 0]) (k := 7) (args := [.ref l0, .int x15]) (r := []) (a := 0) (b := 0) rfl ⟨g28, Nat.le_of_ble_eq_true rfl, Nat.zero_le _, Nat.zero_le _⟩ (vX0_combine d (by omega) h) ?_
              rintro v S26 ⟨r27, rfl, h⟩
              show jLf (jCall jmt jbud d) jbud (fun j => (jmt j).rk) none mX0_work (jqL Q) (122, [some (.ref l0), some (.ref l1), none, some (.int l3), some (.int l4), some (.int x15), some (.int x16), none], [.int r27], S26, 0, 0)
              refine jLf.two hc _ rfl (gs := []) (p1 := ¬ r27 = 0) (p2 := ¬ (¬ r27 = 0)) (c1 := (125, [some (.ref l0), some (.ref l1), none, some (.int l3), some (.int l4), some (.int x15), some (.int x16), none], [], S26, 0, 0)) (c2 := (123, [some (.ref l0), some (.ref l1), none, some (.int l3), some (.int l4), some (.int x15), some (.int x16), none], [], S26, 0, 0)) rfl trivial (fun hz => ?_) (fun hz => ?_)
              · have h := h.1 hz
                refine jLf.sub [some (.ref l0), some (.ref l1), none, some (.int l3), some (.int l4), none, none, none] (jle_same (jle_same (jle_same (jle_same (jle_same (jle_none (jle_none (jle_same (jle_nil _))))))))) ?_
                exact tX0_work_125 d hd hX12 h
              · have h := h.2 (Classical.not_not.mp hz)
                refine jLf.bk hc 1 [] [some (.ref l0), some (.ref l1), none, some (.int l3), some (.int l4), some (.int x15), some (.int x16), none] [.long 1000000001] S26 rfl rfl rfl trivial ?_
                exact jLf.ret hc _ rfl (gs := [True]) (v := some (.long 1000000001)) rfl trivial ⟨1000000001, rfl, h⟩
            · have h := h.2 (Classical.not_not.mp hz)
              obtain ⟨g29, g30, g31, g32, h⟩ := h
              refine jLf.bk hc 16 [jA S l0 0, ¬ jR S l0 1 = none, jA S l0 0, jA S l0 0, ¬ jR S l0 1 = none, jA S l0 0, jA S (jr S l0 1) 14, vp_in ((jI S l0 2) - (1 : Int32)) (jZ S (jr S l0 1)), jA S (jr S l0 1) 14, vp_in ((jI S l0 2) - (1 : Int32)) (jZ S (jr S l0 1))] [some (.ref l0), some (.ref l1), none, some (.int l3), some (.int l4), some (.int x15), some (.int x16), none] [] (uJ S (jr S l0 1) ((jI S l0 2) - (1 : Int32)).toNatClampNeg ((1 : Int64) - (jJ S (jr S l0 1) ((jI S l0 2) - (1 : Int32)).toNatClampNeg))) rfl rfl rfl ⟨g29, g30, g29, g29, g30, g29, g31, g32, g31, g32⟩ ?_
              generalize eS33 : uJ S (jr S l0 1) ((jI S l0 2) - (1 : Int32)).toNatClampNeg ((1 : Int64) - (jJ S (jr S l0 1) ((jI S l0 2) - (1 : Int32)).toNatClampNeg)) = S33
              have h := h S33 eS33.symm
              refine jLf.one hc _ rfl (gs := []) (c := (125, [some (.ref l0), some (.ref l1), none, some (.int l3), some (.int l4), some (.int x15), some (.int x16), none], [], S33, 0, 0)) rfl trivial ?_
              refine jLf.sub [some (.ref l0), some (.ref l1), none, some (.int l3), some (.int l4), none, none, none] (jle_same (jle_same (jle_same (jle_same (jle_same (jle_none (jle_none (jle_same (jle_nil _))))))))) ?_
              exact tX0_work_125 d hd hX12 h
          · have h := h.2 (Classical.not_not.mp hz)
            exact tX0_work_53 d hd hX12 h
      · have h := h.2 hz
        refine jLf.bk hc 2 [] [some (.ref l0), some (.ref l1), none, some (.int l3), some (.int l4), some (.int x15), some (.int x16), none] [.int x15, .ref l0] S rfl rfl rfl trivial ?_
        refine jLf.two hc _ rfl (gs := []) (p1 := ¬ x15 = 0) (p2 := ¬ (¬ x15 = 0)) (c1 := (40, [some (.ref l0), some (.ref l1), none, some (.int l3), some (.int l4), some (.int x15), some (.int x16), none], [.ref l0], S, 0, 0)) (c2 := (37, [some (.ref l0), some (.ref l1), none, some (.int l3), some (.int l4), some (.int x15), some (.int x16), none], [.ref l0], S, 0, 0)) rfl trivial (fun hz => ?_) (fun hz => ?_)
        · have h := h.1 hz
          obtain ⟨g34, g35, g36, g37, h⟩ := h
          refine jLf.bk hc 5 [jA S l0 0, ¬ jR S l0 0 = none, jA S (jr S l0 0) 13, vp_in x15 (jZ S (jr S l0 0))] [some (.ref l0), some (.ref l1), none, some (.int l3), some (.int l4), some (.int x15), some (.int x16), none] [.long ((jI S (jr S l0 0) x15.toNatClampNeg).toInt64), .ref l0] S rfl rfl rfl ⟨g34, g35, g36, g37⟩ ?_
          refine jLf.sub [some (.ref l0), some (.ref l1), none, some (.int l3), some (.int l4), none, none, none] (jle_same (jle_same (jle_same (jle_same (jle_same (jle_none (jle_none (jle_same (jle_nil _))))))))) ?_
          exact tX0_work_45 d hd hX12 h
        · have h := h.2 (Classical.not_not.mp hz)
          refine jLf.bk hc 2 [] [some (.ref l0), some (.ref l1), none, some (.int l3), some (.int l4), some (.int x15), some (.int x16), none] [.long (x16.toInt64), .ref l0] S rfl rfl rfl trivial ?_
          refine jLf.one hc _ rfl (gs := []) (c := (45, [some (.ref l0), some (.ref l1), none, some (.int l3), some (.int l4), some (.int x15), some (.int x16), none], [.long (x16.toInt64), .ref l0], S, 0, 0)) rfl trivial ?_
          refine jLf.sub [some (.ref l0), some (.ref l1), none, some (.int l3), some (.int l4), none, none, none] (jle_same (jle_same (jle_same (jle_same (jle_same (jle_none (jle_none (jle_same (jle_nil _))))))))) ?_
          exact tX0_work_45 d hd hX12 h
def wX0_work_12   (l0 : Nat) (l1 : Nat) (l3 : Int32) (l4 : Int32) (S : JS) (Q : Int64 → JS → Prop) : Prop :=
  jLoop (fun (X12 : Nat × Nat × Int32 × Int32 × JS → Prop) q => bX0_work_12 (fun l0 l1 l3 l4 S => X12 (l0, l1, l3, l4, S)) q.1 q.2.1 q.2.2.1 q.2.2.2.1 q.2.2.2.2 Q) (l0, l1, l3, l4, S)
set_option maxRecDepth 20000 in
theorem tX0_work_12 {Q : Int64 → JS → Prop}  (d : Nat) (hd : 1 ≤ d) {l0 : Nat} {l1 : Nat} {l3 : Int32} {l4 : Int32} {S : JS} (h : wX0_work_12 l0 l1 l3 l4 S Q) : jLf (jCall jmt jbud d) jbud (fun j => (jmt j).rk) none mX0_work (jqL Q) (12, [some (.ref l0), some (.ref l1), none, some (.int l3), some (.int l4), none, none, none], [], S, 0, 0) := by
  have := h (fun q : Nat × Nat × Int32 × Int32 × JS => jLf (jCall jmt jbud d) jbud (fun j => (jmt j).rk) none mX0_work (jqL Q) (12, [some (.ref (q.1)), some (.ref (q.2.1)), none, some (.int (q.2.2.1)), some (.int (q.2.2.2.1)), none, none, none], [], q.2.2.2.2, 0, 0)) (fun q R hb hR => uX0_work_12 d hd  (fun _ _ _ _ _ => hR _) hb)
  exact this
def wX0_work  (this : Nat) (p1 : Nat) (p2 : Int32) (p3 : Int32) (S : JS) (Q : Int64 → JS → Prop) : Prop :=
  jA S this 0 ∧ (∀ S2 : JS, S2 = uI S this 2 1 → (jA S2 this 0 ∧ (¬ jR S2 this 1 = none ∧ (jA S2 (jr S2 this 1) 14 ∧ (vp_in (0 : Int32) (jZ S2 (jr S2 this 1)) ∧ (∀ S7 : JS, S7 = uJ S2 (jr S2 this 1) (0 : Int32).toNatClampNeg 1 → (∀ x8 : Int32, x8 = (if (0 : Int32) < p2 then p2 else (0 : Int32)) → (wX0_work_12 this p1 p3 x8 S7 Q))))))))
set_option maxRecDepth 20000 in
theorem vX0_work {Q : Int64 → JS → Prop} (d : Nat) (hd : 2 ≤ d) {this : Nat} {p1 : Nat} {p2 : Int32} {p3 : Int32} {S : JS} (h : wX0_work this p1 p2 p3 S Q) : jCall jmt jbud d 5 [.ref this, .ref p1, .int p2, .int p3] S (jqL Q) := by
  obtain ⟨d, rfl⟩ : ∃ d2, d = d2 + 1 := ⟨d - 1, by omega⟩
  have hd : 1 ≤ d := by omega
  have hc := jCall_mono jmt jbud d
  unfold wX0_work at h
  refine ⟨Nat.le_of_ble_eq_true rfl, ?_⟩
  show jLf (jCall jmt jbud d) jbud (fun j => (jmt j).rk) none mX0_work (jqL Q) (0, [some (.ref this), some (.ref p1), some (.int p2), some (.int p3), none, none, none, none], [], S, 0, 0)
  obtain ⟨g1, h⟩ := h
  refine jLf.bk hc 3 [jA S this 0] [some (.ref this), some (.ref p1), some (.int p2), some (.int p3), none, none, none, none] [] (uI S this 2 1) rfl rfl rfl g1 ?_
  generalize eS2 : uI S this 2 1 = S2
  have h := h S2 eS2.symm
  obtain ⟨g3, g4, g5, g6, h⟩ := h
  refine jLf.bk hc 5 [jA S2 this 0, ¬ jR S2 this 1 = none, jA S2 (jr S2 this 1) 14, vp_in (0 : Int32) (jZ S2 (jr S2 this 1))] [some (.ref this), some (.ref p1), some (.int p2), some (.int p3), none, none, none, none] [] (uJ S2 (jr S2 this 1) (0 : Int32).toNatClampNeg 1) rfl rfl rfl ⟨g3, g4, g5, g6⟩ ?_
  generalize eS7 : uJ S2 (jr S2 this 1) (0 : Int32).toNatClampNeg 1 = S7
  have h := h S7 eS7.symm
  refine jLf.bk hc 4 [(([] : List Value).map fun v => v.category).sum ≤ 8] [some (.ref this), some (.ref p1), some (.int p2), some (.int p3), some (.int (if (0 : Int32) < p2 then p2 else (0 : Int32))), none, none, none] [] S7 rfl rfl rfl (Nat.le_of_ble_eq_true rfl) ?_
  generalize ex8 : (if (0 : Int32) < p2 then p2 else (0 : Int32) : Int32) = x8
  have h := h x8 ex8.symm
  refine jLf.sub [some (.ref this), some (.ref p1), none, some (.int p3), some (.int x8), none, none, none] (jle_same (jle_same (jle_none (jle_same (jle_same (jle_same (jle_same (jle_same (jle_nil _))))))))) ?_
  exact tX0_work_12 d hd  h
def wX0_told_56  (X9 : Nat → Nat → Int32 → Int32 → JS → Prop) (l0 : Nat) (l1 : Nat) (l2 : Int32) (l3 : Int32) (S : JS) (Q : Int32 → JS → Prop) : Prop :=
  ∀ x7 : Int32, x7 = (l3 + (-1)) → (X9 l0 l1 l2 x7 S)
set_option maxRecDepth 20000 in
theorem tX0_told_56 {Q : Int32 → JS → Prop} {X9 : Nat → Nat → Int32 → Int32 → JS → Prop} (d : Nat) (hd : 2 ≤ d) (hX9 : ∀ l0 l1 l2 l3 S, X9 l0 l1 l2 l3 S → jLf (jCall jmt jbud d) jbud (fun j => (jmt j).rk) none mX0_told (jqI Q) (9, [some (.ref l0), some (.ref l1), some (.int l2), some (.int l3), none, none], [], S, 0, 0)) {l0 : Nat} {l1 : Nat} {l2 : Int32} {l3 : Int32} {S : JS} (h : wX0_told_56 X9 l0 l1 l2 l3 S Q) : jLf (jCall jmt jbud d) jbud (fun j => (jmt j).rk) none mX0_told (jqI Q) (56, [some (.ref l0), some (.ref l1), some (.int l2), some (.int l3), none, none], [], S, 0, 0) := by
  have hc := jCall_mono jmt jbud d
  unfold wX0_told_56 at h
  refine jLf.bk hc 1 [] [some (.ref l0), some (.ref l1), some (.int l2), some (.int (l3 + (-1))), none, none] [] S rfl rfl rfl trivial ?_
  generalize ex7 : (l3 + (-1) : Int32) = x7
  have h := h x7 ex7.symm
  refine jLf.one hc _ rfl (gs := []) (c := (9, [some (.ref l0), some (.ref l1), some (.int l2), some (.int x7), none, none], [], S, 0, 0)) rfl trivial ?_
  exact hX9 _ _ _ _ _ h
def bX0_told_9   (X9 : Nat → Nat → Int32 → Int32 → JS → Prop) (l0 : Nat) (l1 : Nat) (l2 : Int32) (l3 : Int32) (S : JS) (Q : Int32 → JS → Prop) : Prop :=
  (l3 < 0 → Q 1 S) ∧ (¬ (l3 < 0) → jA S l1 3 ∧ (¬ jR S l1 1 = none ∧ (jA S (jr S l1 1) 13 ∧ (vp_in l3 (jZ S (jr S l1 1)) ∧ ((¬ (jI S (jr S l1 1) l3.toNatClampNeg) = l2 → wX0_told_56 X9 l0 l1 l2 l3 S Q) ∧ ((jI S (jr S l1 1) l3.toNatClampNeg) = l2 → ¬ jR S l1 5 = none ∧ (¬ jR S l1 3 = none ∧ (jA S (jr S l1 3) 13 ∧ (vp_in l3 (jZ S (jr S l1 3)) ∧ (¬ jR S l1 4 = none ∧ (jA S (jr S l1 4) 13 ∧ (vp_in l3 (jZ S (jr S l1 4)) ∧ (jA S l0 0 ∧ (wX0_work l0 (jr S l1 5) (jI S (jr S l1 3) l3.toNatClampNeg) (jI S (jr S l1 4) l3.toNatClampNeg) S (fun r16 S15 => (¬ (lg_cmp r16 (1 : Int64)) = 0 → wX0_told_56 X9 l0 l1 l2 l3 S15 Q) ∧ ((lg_cmp r16 (1 : Int64)) = 0 → jA S15 l1 3 ∧ (¬ jR S15 l1 5 = none ∧ (¬ jR S15 l1 2 = none ∧ (jA S15 (jr S15 l1 2) 13 ∧ (vp_in l3 (jZ S15 (jr S15 l1 2)) ∧ (¬ jR S15 l1 3 = none ∧ (jA S15 (jr S15 l1 3) 13 ∧ (vp_in l3 (jZ S15 (jr S15 l1 3)) ∧ (jA S15 l0 0 ∧ (wX0_work l0 (jr S15 l1 5) (jI S15 (jr S15 l1 2) l3.toNatClampNeg) (jI S15 (jr S15 l1 3) l3.toNatClampNeg) S15 (fun r27 S26 => ((lg_cmp r27 (1000000001 : Int64)) = 0 → wX0_told_56 X9 l0 l1 l2 l3 S26 Q) ∧ (¬ (lg_cmp r27 (1000000001 : Int64)) = 0 → Q ((if (if r27 < (99 : Int64) then r27 else (99 : Int64)) < (0 : Int64) then (0 : Int64) else (if r27 < (99 : Int64) then r27 else (99 : Int64))).toInt32) S26)))))))))))))))))))))))))))
set_option maxRecDepth 20000 in
theorem uX0_told_9 {Q : Int32 → JS → Prop}  (d : Nat) (hd : 2 ≤ d) {X9 : Nat → Nat → Int32 → Int32 → JS → Prop} (hX9 : ∀ l0 l1 l2 l3 S, X9 l0 l1 l2 l3 S → jLf (jCall jmt jbud d) jbud (fun j => (jmt j).rk) none mX0_told (jqI Q) (9, [some (.ref l0), some (.ref l1), some (.int l2), some (.int l3), none, none], [], S, 0, 0)) {l0 : Nat} {l1 : Nat} {l2 : Int32} {l3 : Int32} {S : JS} (h : bX0_told_9 X9 l0 l1 l2 l3 S Q) : jLf (jCall jmt jbud d) jbud (fun j => (jmt j).rk) none mX0_told (jqI Q) (9, [some (.ref l0), some (.ref l1), some (.int l2), some (.int l3), none, none], [], S, 0, 0) := by
  have hc := jCall_mono jmt jbud d
  unfold bX0_told_9 at h
  refine jLf.bk hc 1 [] [some (.ref l0), some (.ref l1), some (.int l2), some (.int l3), none, none] [.int l3] S rfl rfl rfl trivial ?_
  refine jLf.two hc _ rfl (gs := []) (p1 := l3 < 0) (p2 := ¬ (l3 < 0)) (c1 := (58, [some (.ref l0), some (.ref l1), some (.int l2), some (.int l3), none, none], [], S, 0, 0)) (c2 := (11, [some (.ref l0), some (.ref l1), some (.int l2), some (.int l3), none, none], [], S, 0, 0)) rfl trivial (fun hz => ?_) (fun hz => ?_)
  · have h := h.1 hz
    refine jLf.bk hc 1 [] [some (.ref l0), some (.ref l1), some (.int l2), some (.int l3), none, none] [.int 1] S rfl rfl rfl trivial ?_
    exact jLf.ret hc _ rfl (gs := [True]) (v := some (.int 1)) rfl trivial ⟨1, rfl, h⟩
  · have h := h.2 hz
    obtain ⟨g3, g4, g5, g6, h⟩ := h
    refine jLf.bk hc 5 [jA S l1 3, ¬ jR S l1 1 = none, jA S (jr S l1 1) 13, vp_in l3 (jZ S (jr S l1 1))] [some (.ref l0), some (.ref l1), some (.int l2), some (.int l3), none, none] [.int l2, .int (jI S (jr S l1 1) l3.toNatClampNeg)] S rfl rfl rfl ⟨g3, g4, g5, g6⟩ ?_
    refine jLf.two hc _ rfl (gs := []) (p1 := ¬ (jI S (jr S l1 1) l3.toNatClampNeg) = l2) (p2 := ¬ (¬ (jI S (jr S l1 1) l3.toNatClampNeg) = l2)) (c1 := (56, [some (.ref l0), some (.ref l1), some (.int l2), some (.int l3), none, none], [], S, 0, 0)) (c2 := (17, [some (.ref l0), some (.ref l1), some (.int l2), some (.int l3), none, none], [], S, 0, 0)) rfl trivial (fun hz => ?_) (fun hz => ?_)
    · have h := h.1 hz
      exact tX0_told_56 d hd hX9 h
    · have h := h.2 (Classical.not_not.mp hz)
      obtain ⟨g8, g9, g10, g11, g12, g13, g14, h⟩ := h
      refine jLf.bk hc 11 [jA S l1 3, ¬ jR S l1 5 = none, jA S l1 3, ¬ jR S l1 3 = none, jA S (jr S l1 3) 13, vp_in l3 (jZ S (jr S l1 3)), jA S l1 3, ¬ jR S l1 4 = none, jA S (jr S l1 4) 13, vp_in l3 (jZ S (jr S l1 4))] [some (.ref l0), some (.ref l1), some (.int l2), some (.int l3), none, none] [.int (jI S (jr S l1 4) l3.toNatClampNeg), .int (jI S (jr S l1 3) l3.toNatClampNeg), .ref (jr S l1 5), .ref l0] S rfl rfl rfl ⟨g3, g8, g3, g9, g10, g11, g3, g12, g13, g14⟩ ?_
      obtain ⟨g17, h⟩ := h
      refine jLf.inv hc _ rfl (gs := [jA S l0 0, (([] : List Value).map fun v => v.category).sum ≤ 8, 0 ≤ 0, 0 ≤ 0]) (k := 5) (args := [.ref l0, .ref (jr S l1 5), .int (jI S (jr S l1 3) l3.toNatClampNeg), .int (jI S (jr S l1 4) l3.toNatClampNeg)]) (r := []) (a := 0) (b := 0) rfl ⟨g17, Nat.le_of_ble_eq_true rfl, Nat.zero_le _, Nat.zero_le _⟩ (vX0_work d (by omega) h) ?_
      rintro v S15 ⟨r16, rfl, h⟩
      show jLf (jCall jmt jbud d) jbud (fun j => (jmt j).rk) none mX0_told (jqI Q) (29, [some (.ref l0), some (.ref l1), some (.int l2), some (.int l3), none, none], [.long r16], S15, 0, 0)
      refine jLf.bk hc 2 [] [some (.ref l0), some (.ref l1), some (.int l2), some (.int l3), none, none] [.int (lg_cmp r16 (1 : Int64))] S15 rfl rfl rfl trivial ?_
      refine jLf.two hc _ rfl (gs := []) (p1 := ¬ (lg_cmp r16 (1 : Int64)) = 0) (p2 := ¬ (¬ (lg_cmp r16 (1 : Int64)) = 0)) (c1 := (56, [some (.ref l0), some (.ref l1), some (.int l2), some (.int l3), none, none], [], S15, 0, 0)) (c2 := (32, [some (.ref l0), some (.ref l1), some (.int l2), some (.int l3), none, none], [], S15, 0, 0)) rfl trivial (fun hz => ?_) (fun hz => ?_)
      · have h := h.1 hz
        exact tX0_told_56 d hd hX9 h
      · have h := h.2 (Classical.not_not.mp hz)
        obtain ⟨g18, g19, g20, g21, g22, g23, g24, g25, h⟩ := h
        refine jLf.bk hc 11 [jA S15 l1 3, ¬ jR S15 l1 5 = none, jA S15 l1 3, ¬ jR S15 l1 2 = none, jA S15 (jr S15 l1 2) 13, vp_in l3 (jZ S15 (jr S15 l1 2)), jA S15 l1 3, ¬ jR S15 l1 3 = none, jA S15 (jr S15 l1 3) 13, vp_in l3 (jZ S15 (jr S15 l1 3))] [some (.ref l0), some (.ref l1), some (.int l2), some (.int l3), none, none] [.int (jI S15 (jr S15 l1 3) l3.toNatClampNeg), .int (jI S15 (jr S15 l1 2) l3.toNatClampNeg), .ref (jr S15 l1 5), .ref l0] S15 rfl rfl rfl ⟨g18, g19, g18, g20, g21, g22, g18, g23, g24, g25⟩ ?_
        obtain ⟨g28, h⟩ := h
        refine jLf.inv hc _ rfl (gs := [jA S15 l0 0, (([] : List Value).map fun v => v.category).sum ≤ 8, 0 ≤ 0, 0 ≤ 0]) (k := 5) (args := [.ref l0, .ref (jr S15 l1 5), .int (jI S15 (jr S15 l1 2) l3.toNatClampNeg), .int (jI S15 (jr S15 l1 3) l3.toNatClampNeg)]) (r := []) (a := 0) (b := 0) rfl ⟨g28, Nat.le_of_ble_eq_true rfl, Nat.zero_le _, Nat.zero_le _⟩ (vX0_work d (by omega) h) ?_
        rintro v S26 ⟨r27, rfl, h⟩
        show jLf (jCall jmt jbud d) jbud (fun j => (jmt j).rk) none mX0_told (jqI Q) (44, [some (.ref l0), some (.ref l1), some (.int l2), some (.int l3), none, none], [.long r27], S26, 0, 0)
        refine jLf.bk hc 4 [] [some (.ref l0), some (.ref l1), some (.int l2), some (.int l3), some (.long r27), none] [.int (lg_cmp r27 (1000000001 : Int64))] S26 rfl rfl rfl trivial ?_
        refine jLf.two hc _ rfl (gs := []) (p1 := (lg_cmp r27 (1000000001 : Int64)) = 0) (p2 := ¬ ((lg_cmp r27 (1000000001 : Int64)) = 0)) (c1 := (56, [some (.ref l0), some (.ref l1), some (.int l2), some (.int l3), some (.long r27), none], [], S26, 0, 0)) (c2 := (49, [some (.ref l0), some (.ref l1), some (.int l2), some (.int l3), some (.long r27), none], [], S26, 0, 0)) rfl trivial (fun hz => ?_) (fun hz => ?_)
        · have h := h.1 hz
          refine jLf.sub [some (.ref l0), some (.ref l1), some (.int l2), some (.int l3), none, none] (jle_same (jle_same (jle_same (jle_same (jle_none (jle_same (jle_nil _))))))) ?_
          exact tX0_told_56 d hd hX9 h
        · have h := h.2 hz
          refine jLf.bk hc 6 [(([.long 0] : List Value).map fun v => v.category).sum ≤ 8, (([] : List Value).map fun v => v.category).sum ≤ 8] [some (.ref l0), some (.ref l1), some (.int l2), some (.int l3), some (.long r27), none] [.int ((if (if r27 < (99 : Int64) then r27 else (99 : Int64)) < (0 : Int64) then (0 : Int64) else (if r27 < (99 : Int64) then r27 else (99 : Int64))).toInt32)] S26 rfl rfl rfl ⟨(Nat.le_of_ble_eq_true rfl), (Nat.le_of_ble_eq_true rfl)⟩ ?_
          exact jLf.ret hc _ rfl (gs := [True]) (v := some (.int ((if (if r27 < (99 : Int64) then r27 else (99 : Int64)) < (0 : Int64) then (0 : Int64) else (if r27 < (99 : Int64) then r27 else (99 : Int64))).toInt32))) rfl trivial ⟨(if (if r27 < (99 : Int64) then r27 else (99 : Int64)) < (0 : Int64) then (0 : Int64) else (if r27 < (99 : Int64) then r27 else (99 : Int64))).toInt32, rfl, h⟩
def wX0_told_9   (l0 : Nat) (l1 : Nat) (l2 : Int32) (l3 : Int32) (S : JS) (Q : Int32 → JS → Prop) : Prop :=
  jLoop (fun (X9 : Nat × Nat × Int32 × Int32 × JS → Prop) q => bX0_told_9 (fun l0 l1 l2 l3 S => X9 (l0, l1, l2, l3, S)) q.1 q.2.1 q.2.2.1 q.2.2.2.1 q.2.2.2.2 Q) (l0, l1, l2, l3, S)
set_option maxRecDepth 20000 in
theorem tX0_told_9 {Q : Int32 → JS → Prop}  (d : Nat) (hd : 2 ≤ d) {l0 : Nat} {l1 : Nat} {l2 : Int32} {l3 : Int32} {S : JS} (h : wX0_told_9 l0 l1 l2 l3 S Q) : jLf (jCall jmt jbud d) jbud (fun j => (jmt j).rk) none mX0_told (jqI Q) (9, [some (.ref l0), some (.ref l1), some (.int l2), some (.int l3), none, none], [], S, 0, 0) := by
  have := h (fun q : Nat × Nat × Int32 × Int32 × JS => jLf (jCall jmt jbud d) jbud (fun j => (jmt j).rk) none mX0_told (jqI Q) (9, [some (.ref (q.1)), some (.ref (q.2.1)), some (.int (q.2.2.1)), some (.int (q.2.2.2.1)), none, none], [], q.2.2.2.2, 0, 0)) (fun q R hb hR => uX0_told_9 d hd  (fun _ _ _ _ _ => hR _) hb)
  exact this
def wX0_told  (this : Nat) (p1 : Option Nat) (p2 : Int32) (S : JS) (Q : Int32 → JS → Prop) : Prop :=
  (p1 = none → Q 1 S) ∧ (∀ p1h : Nat, p1 = some p1h → jA S p1h 3 ∧ (∀ x2 : Int32, x2 = ((jI S p1h 0) - (1 : Int32)) → (wX0_told_9 this p1h p2 x2 S Q)))
set_option maxRecDepth 20000 in
theorem vX0_told {Q : Int32 → JS → Prop} (d : Nat) (hd : 3 ≤ d) {this : Nat} {p1 : Option Nat} {p2 : Int32} {S : JS} (h : wX0_told this p1 p2 S Q) : jCall jmt jbud d 3 [.ref this, va_rf p1, .int p2] S (jqI Q) := by
  obtain ⟨d, rfl⟩ : ∃ d2, d = d2 + 1 := ⟨d - 1, by omega⟩
  have hd : 2 ≤ d := by omega
  have hc := jCall_mono jmt jbud d
  unfold wX0_told at h
  cases p1 with
  | none =>
    have h := h.1 rfl
    refine ⟨Nat.le_of_ble_eq_true rfl, ?_⟩
    show jLf (jCall jmt jbud d) jbud (fun j => (jmt j).rk) none mX0_told (jqI Q) (0, [some (.ref this), some (.null), some (.int p2), none, none, none], [], S, 0, 0)
    refine jLf.bk hc 1 [] [some (.ref this), some (.null), some (.int p2), none, none, none] [.null] S rfl rfl rfl trivial ?_
    refine jLf.one hc _ rfl (gs := []) (c := (2, [some (.ref this), some (.null), some (.int p2), none, none, none], [], S, 0, 0)) rfl trivial ?_
    refine jLf.bk hc 1 [] [some (.ref this), some (.null), some (.int p2), none, none, none] [.int 1] S rfl rfl rfl trivial ?_
    exact jLf.ret hc _ rfl (gs := [True]) (v := some (.int 1)) rfl trivial ⟨1, rfl, h⟩
  | some p1h =>
    have h := h.2 p1h rfl
    refine ⟨Nat.le_of_ble_eq_true rfl, ?_⟩
    show jLf (jCall jmt jbud d) jbud (fun j => (jmt j).rk) none mX0_told (jqI Q) (0, [some (.ref this), some (.ref p1h), some (.int p2), none, none, none], [], S, 0, 0)
    refine jLf.bk hc 1 [] [some (.ref this), some (.ref p1h), some (.int p2), none, none, none] [.ref p1h] S rfl rfl rfl trivial ?_
    refine jLf.one hc _ rfl (gs := []) (c := (4, [some (.ref this), some (.ref p1h), some (.int p2), none, none, none], [], S, 0, 0)) rfl trivial ?_
    obtain ⟨g1, h⟩ := h
    refine jLf.bk hc 5 [jA S p1h 3] [some (.ref this), some (.ref p1h), some (.int p2), some (.int ((jI S p1h 0) - (1 : Int32))), none, none] [] S rfl rfl rfl g1 ?_
    generalize ex2 : ((jI S p1h 0) - (1 : Int32) : Int32) = x2
    have h := h x2 ex2.symm
    exact tX0_told_9 d hd  h
def wX0_isBarred_33  (X6 : Nat → Nat → Int32 → JS → Prop) (l0 : Nat) (l1 : Nat) (l2 : Int32) (S : JS) (Q : Int32 → JS → Prop) : Prop :=
  ∀ x5 : Int32, x5 = (l2 + 1) → (X6 l0 l1 x5 S)
set_option maxRecDepth 20000 in
theorem tX0_isBarred_33 {Q : Int32 → JS → Prop} {X6 : Nat → Nat → Int32 → JS → Prop} (d : Nat) (hd : 2 ≤ d) (hX6 : ∀ l0 l1 l2 S, X6 l0 l1 l2 S → jLf (jCall jmt jbud d) jbud (fun j => (jmt j).rk) none mX0_isBarred (jqI Q) (6, [some (.ref l0), some (.ref l1), some (.int l2)], [], S, 0, 0)) {l0 : Nat} {l1 : Nat} {l2 : Int32} {S : JS} (h : wX0_isBarred_33 X6 l0 l1 l2 S Q) : jLf (jCall jmt jbud d) jbud (fun j => (jmt j).rk) none mX0_isBarred (jqI Q) (33, [some (.ref l0), some (.ref l1), some (.int l2)], [], S, 0, 0) := by
  have hc := jCall_mono jmt jbud d
  unfold wX0_isBarred_33 at h
  refine jLf.bk hc 1 [] [some (.ref l0), some (.ref l1), some (.int (l2 + 1))] [] S rfl rfl rfl trivial ?_
  generalize ex5 : (l2 + 1 : Int32) = x5
  have h := h x5 ex5.symm
  refine jLf.one hc _ rfl (gs := []) (c := (6, [some (.ref l0), some (.ref l1), some (.int x5)], [], S, 0, 0)) rfl trivial ?_
  exact hX6 _ _ _ _ h
def bX0_isBarred_6   (X6 : Nat → Nat → Int32 → JS → Prop) (l0 : Nat) (l1 : Nat) (l2 : Int32) (S : JS) (Q : Int32 → JS → Prop) : Prop :=
  jA S l1 3 ∧ (((jI S l1 0) ≤ l2 → Q 0 S) ∧ (¬ ((jI S l1 0) ≤ l2) → ¬ jR S l1 1 = none ∧ (jA S (jr S l1 1) 13 ∧ (vp_in l2 (jZ S (jr S l1 1)) ∧ ((¬ (jI S (jr S l1 1) l2.toNatClampNeg) = 19 → wX0_isBarred_33 X6 l0 l1 l2 S Q) ∧ ((jI S (jr S l1 1) l2.toNatClampNeg) = 19 → ¬ jR S l1 5 = none ∧ (¬ jR S l1 3 = none ∧ (jA S (jr S l1 3) 13 ∧ (vp_in l2 (jZ S (jr S l1 3)) ∧ (¬ jR S l1 4 = none ∧ (jA S (jr S l1 4) 13 ∧ (vp_in l2 (jZ S (jr S l1 4)) ∧ (jA S l0 0 ∧ (wX0_work l0 (jr S l1 5) (jI S (jr S l1 3) l2.toNatClampNeg) (jI S (jr S l1 4) l2.toNatClampNeg) S (fun r14 S13 => (¬ (lg_cmp r14 (1 : Int64)) = 0 → wX0_isBarred_33 X6 l0 l1 l2 S13 Q) ∧ ((lg_cmp r14 (1 : Int64)) = 0 → Q 1 S13))))))))))))))))
set_option maxRecDepth 20000 in
theorem uX0_isBarred_6 {Q : Int32 → JS → Prop}  (d : Nat) (hd : 2 ≤ d) {X6 : Nat → Nat → Int32 → JS → Prop} (hX6 : ∀ l0 l1 l2 S, X6 l0 l1 l2 S → jLf (jCall jmt jbud d) jbud (fun j => (jmt j).rk) none mX0_isBarred (jqI Q) (6, [some (.ref l0), some (.ref l1), some (.int l2)], [], S, 0, 0)) {l0 : Nat} {l1 : Nat} {l2 : Int32} {S : JS} (h : bX0_isBarred_6 X6 l0 l1 l2 S Q) : jLf (jCall jmt jbud d) jbud (fun j => (jmt j).rk) none mX0_isBarred (jqI Q) (6, [some (.ref l0), some (.ref l1), some (.int l2)], [], S, 0, 0) := by
  have hc := jCall_mono jmt jbud d
  unfold bX0_isBarred_6 at h
  obtain ⟨g1, h⟩ := h
  refine jLf.bk hc 3 [jA S l1 3] [some (.ref l0), some (.ref l1), some (.int l2)] [.int (jI S l1 0), .int l2] S rfl rfl rfl g1 ?_
  refine jLf.two hc _ rfl (gs := []) (p1 := (jI S l1 0) ≤ l2) (p2 := ¬ ((jI S l1 0) ≤ l2)) (c1 := (35, [some (.ref l0), some (.ref l1), some (.int l2)], [], S, 0, 0)) (c2 := (10, [some (.ref l0), some (.ref l1), some (.int l2)], [], S, 0, 0)) rfl trivial (fun hz => ?_) (fun hz => ?_)
  · have h := h.1 hz
    refine jLf.bk hc 1 [] [some (.ref l0), some (.ref l1), some (.int l2)] [.int 0] S rfl rfl rfl trivial ?_
    exact jLf.ret hc _ rfl (gs := [jbit 0]) (v := some (.int 0)) rfl (Or.inl rfl) ⟨_, rfl, h⟩
  · have h := h.2 hz
    obtain ⟨g2, g3, g4, h⟩ := h
    refine jLf.bk hc 5 [jA S l1 3, ¬ jR S l1 1 = none, jA S (jr S l1 1) 13, vp_in l2 (jZ S (jr S l1 1))] [some (.ref l0), some (.ref l1), some (.int l2)] [.int 19, .int (jI S (jr S l1 1) l2.toNatClampNeg)] S rfl rfl rfl ⟨g1, g2, g3, g4⟩ ?_
    refine jLf.two hc _ rfl (gs := []) (p1 := ¬ (jI S (jr S l1 1) l2.toNatClampNeg) = 19) (p2 := ¬ (¬ (jI S (jr S l1 1) l2.toNatClampNeg) = 19)) (c1 := (33, [some (.ref l0), some (.ref l1), some (.int l2)], [], S, 0, 0)) (c2 := (16, [some (.ref l0), some (.ref l1), some (.int l2)], [], S, 0, 0)) rfl trivial (fun hz => ?_) (fun hz => ?_)
    · have h := h.1 hz
      exact tX0_isBarred_33 d hd hX6 h
    · have h := h.2 (Classical.not_not.mp hz)
      obtain ⟨g6, g7, g8, g9, g10, g11, g12, h⟩ := h
      refine jLf.bk hc 11 [jA S l1 3, ¬ jR S l1 5 = none, jA S l1 3, ¬ jR S l1 3 = none, jA S (jr S l1 3) 13, vp_in l2 (jZ S (jr S l1 3)), jA S l1 3, ¬ jR S l1 4 = none, jA S (jr S l1 4) 13, vp_in l2 (jZ S (jr S l1 4))] [some (.ref l0), some (.ref l1), some (.int l2)] [.int (jI S (jr S l1 4) l2.toNatClampNeg), .int (jI S (jr S l1 3) l2.toNatClampNeg), .ref (jr S l1 5), .ref l0] S rfl rfl rfl ⟨g1, g6, g1, g7, g8, g9, g1, g10, g11, g12⟩ ?_
      obtain ⟨g15, h⟩ := h
      refine jLf.inv hc _ rfl (gs := [jA S l0 0, (([] : List Value).map fun v => v.category).sum ≤ 8, 0 ≤ 0, 0 ≤ 0]) (k := 5) (args := [.ref l0, .ref (jr S l1 5), .int (jI S (jr S l1 3) l2.toNatClampNeg), .int (jI S (jr S l1 4) l2.toNatClampNeg)]) (r := []) (a := 0) (b := 0) rfl ⟨g15, Nat.le_of_ble_eq_true rfl, Nat.zero_le _, Nat.zero_le _⟩ (vX0_work d (by omega) h) ?_
      rintro v S13 ⟨r14, rfl, h⟩
      show jLf (jCall jmt jbud d) jbud (fun j => (jmt j).rk) none mX0_isBarred (jqI Q) (28, [some (.ref l0), some (.ref l1), some (.int l2)], [.long r14], S13, 0, 0)
      refine jLf.bk hc 2 [] [some (.ref l0), some (.ref l1), some (.int l2)] [.int (lg_cmp r14 (1 : Int64))] S13 rfl rfl rfl trivial ?_
      refine jLf.two hc _ rfl (gs := []) (p1 := ¬ (lg_cmp r14 (1 : Int64)) = 0) (p2 := ¬ (¬ (lg_cmp r14 (1 : Int64)) = 0)) (c1 := (33, [some (.ref l0), some (.ref l1), some (.int l2)], [], S13, 0, 0)) (c2 := (31, [some (.ref l0), some (.ref l1), some (.int l2)], [], S13, 0, 0)) rfl trivial (fun hz => ?_) (fun hz => ?_)
      · have h := h.1 hz
        exact tX0_isBarred_33 d hd hX6 h
      · have h := h.2 (Classical.not_not.mp hz)
        refine jLf.bk hc 1 [] [some (.ref l0), some (.ref l1), some (.int l2)] [.int 1] S13 rfl rfl rfl trivial ?_
        exact jLf.ret hc _ rfl (gs := [jbit 1]) (v := some (.int 1)) rfl (Or.inr rfl) ⟨_, rfl, h⟩
def wX0_isBarred_6   (l0 : Nat) (l1 : Nat) (l2 : Int32) (S : JS) (Q : Int32 → JS → Prop) : Prop :=
  jLoop (fun (X6 : Nat × Nat × Int32 × JS → Prop) q => bX0_isBarred_6 (fun l0 l1 l2 S => X6 (l0, l1, l2, S)) q.1 q.2.1 q.2.2.1 q.2.2.2 Q) (l0, l1, l2, S)
set_option maxRecDepth 20000 in
theorem tX0_isBarred_6 {Q : Int32 → JS → Prop}  (d : Nat) (hd : 2 ≤ d) {l0 : Nat} {l1 : Nat} {l2 : Int32} {S : JS} (h : wX0_isBarred_6 l0 l1 l2 S Q) : jLf (jCall jmt jbud d) jbud (fun j => (jmt j).rk) none mX0_isBarred (jqI Q) (6, [some (.ref l0), some (.ref l1), some (.int l2)], [], S, 0, 0) := by
  have := h (fun q : Nat × Nat × Int32 × JS => jLf (jCall jmt jbud d) jbud (fun j => (jmt j).rk) none mX0_isBarred (jqI Q) (6, [some (.ref (q.1)), some (.ref (q.2.1)), some (.int (q.2.2.1))], [], q.2.2.2, 0, 0)) (fun q R hb hR => uX0_isBarred_6 d hd  (fun _ _ _ _ => hR _) hb)
  exact this
def wX0_isBarred  (this : Nat) (p1 : Option Nat) (S : JS) (Q : Int32 → JS → Prop) : Prop :=
  (p1 = none → Q 0 S) ∧ (∀ p1h : Nat, p1 = some p1h → wX0_isBarred_6 this p1h 0 S Q)
set_option maxRecDepth 20000 in
theorem vX0_isBarred {Q : Int32 → JS → Prop} (d : Nat) (hd : 3 ≤ d) {this : Nat} {p1 : Option Nat} {S : JS} (h : wX0_isBarred this p1 S Q) : jCall jmt jbud d 4 [.ref this, va_rf p1] S (jqI Q) := by
  obtain ⟨d, rfl⟩ : ∃ d2, d = d2 + 1 := ⟨d - 1, by omega⟩
  have hd : 2 ≤ d := by omega
  have hc := jCall_mono jmt jbud d
  unfold wX0_isBarred at h
  cases p1 with
  | none =>
    have h := h.1 rfl
    refine ⟨Nat.le_of_ble_eq_true rfl, ?_⟩
    show jLf (jCall jmt jbud d) jbud (fun j => (jmt j).rk) none mX0_isBarred (jqI Q) (0, [some (.ref this), some (.null), none], [], S, 0, 0)
    refine jLf.bk hc 1 [] [some (.ref this), some (.null), none] [.null] S rfl rfl rfl trivial ?_
    refine jLf.one hc _ rfl (gs := []) (c := (2, [some (.ref this), some (.null), none], [], S, 0, 0)) rfl trivial ?_
    refine jLf.bk hc 1 [] [some (.ref this), some (.null), none] [.int 0] S rfl rfl rfl trivial ?_
    exact jLf.ret hc _ rfl (gs := [jbit 0]) (v := some (.int 0)) rfl (Or.inl rfl) ⟨_, rfl, h⟩
  | some p1h =>
    have h := h.2 p1h rfl
    refine ⟨Nat.le_of_ble_eq_true rfl, ?_⟩
    show jLf (jCall jmt jbud d) jbud (fun j => (jmt j).rk) none mX0_isBarred (jqI Q) (0, [some (.ref this), some (.ref p1h), none], [], S, 0, 0)
    refine jLf.bk hc 1 [] [some (.ref this), some (.ref p1h), none] [.ref p1h] S rfl rfl rfl trivial ?_
    refine jLf.one hc _ rfl (gs := []) (c := (4, [some (.ref this), some (.ref p1h), none], [], S, 0, 0)) rfl trivial ?_
    refine jLf.bk hc 2 [] [some (.ref this), some (.ref p1h), some (.int 0)] [] S rfl rfl rfl trivial ?_
    exact tX0_isBarred_6 d hd  h
def bJ7_fill_53178_5   (X5 : Nat → Int32 → Int32 → Int32 → JS → Prop) (l0 : Nat) (l1 : Int32) (l2 : Int32) (l3 : Int32) (S : JS) (Q : JS → Prop) : Prop :=
  (l3 ≤ l2 → Q S) ∧ (¬ (l3 ≤ l2) → jA S l0 13 ∧ (vp_in l2 (jZ S l0) ∧ (∀ S5 : JS, S5 = uI S l0 l2.toNatClampNeg l1 → (∀ x6 : Int32, x6 = (l2 + 1) → (X5 l0 l1 x6 l3 S5)))))
set_option maxRecDepth 20000 in
theorem uJ7_fill_53178_5 {Q : JS → Prop}  (d : Nat) (hd : 0 ≤ d) {X5 : Nat → Int32 → Int32 → Int32 → JS → Prop} (hX5 : ∀ l0 l1 l2 l3 S, X5 l0 l1 l2 l3 S → jLf (jCall jmt jbud d) jbud (fun j => (jmt j).rk) none mJ7_fill_53178 (jqV Q) (5, [some (.ref l0), some (.int l1), some (.int l2), some (.int l3)], [], S, 0, 0)) {l0 : Nat} {l1 : Int32} {l2 : Int32} {l3 : Int32} {S : JS} (h : bJ7_fill_53178_5 X5 l0 l1 l2 l3 S Q) : jLf (jCall jmt jbud d) jbud (fun j => (jmt j).rk) none mJ7_fill_53178 (jqV Q) (5, [some (.ref l0), some (.int l1), some (.int l2), some (.int l3)], [], S, 0, 0) := by
  have hc := jCall_mono jmt jbud d
  unfold bJ7_fill_53178_5 at h
  refine jLf.bk hc 2 [] [some (.ref l0), some (.int l1), some (.int l2), some (.int l3)] [.int l3, .int l2] S rfl rfl rfl trivial ?_
  refine jLf.two hc _ rfl (gs := []) (p1 := l3 ≤ l2) (p2 := ¬ (l3 ≤ l2)) (c1 := (14, [some (.ref l0), some (.int l1), some (.int l2), some (.int l3)], [], S, 0, 0)) (c2 := (8, [some (.ref l0), some (.int l1), some (.int l2), some (.int l3)], [], S, 0, 0)) rfl trivial (fun hz => ?_) (fun hz => ?_)
  · have h := h.1 hz
    exact jLf.ret hc _ rfl (gs := [jrt none none]) (v := none) rfl trivial ⟨rfl, h⟩
  · have h := h.2 hz
    obtain ⟨g3, g4, h⟩ := h
    refine jLf.bk hc 4 [jA S l0 13, vp_in l2 (jZ S l0)] [some (.ref l0), some (.int l1), some (.int l2), some (.int l3)] [] (uI S l0 l2.toNatClampNeg l1) rfl rfl rfl ⟨g3, g4⟩ ?_
    generalize eS5 : uI S l0 l2.toNatClampNeg l1 = S5
    have h := h S5 eS5.symm
    refine jLf.bk hc 1 [] [some (.ref l0), some (.int l1), some (.int (l2 + 1)), some (.int l3)] [] S5 rfl rfl rfl trivial ?_
    generalize ex6 : (l2 + 1 : Int32) = x6
    have h := h x6 ex6.symm
    refine jLf.one hc _ rfl (gs := []) (c := (5, [some (.ref l0), some (.int l1), some (.int x6), some (.int l3)], [], S5, 0, 0)) rfl trivial ?_
    exact hX5 _ _ _ _ _ h
def wJ7_fill_53178_5   (l0 : Nat) (l1 : Int32) (l2 : Int32) (l3 : Int32) (S : JS) (Q : JS → Prop) : Prop :=
  jLoop (fun (X5 : Nat × Int32 × Int32 × Int32 × JS → Prop) q => bJ7_fill_53178_5 (fun l0 l1 l2 l3 S => X5 (l0, l1, l2, l3, S)) q.1 q.2.1 q.2.2.1 q.2.2.2.1 q.2.2.2.2 Q) (l0, l1, l2, l3, S)
set_option maxRecDepth 20000 in
theorem tJ7_fill_53178_5 {Q : JS → Prop}  (d : Nat) (hd : 0 ≤ d) {l0 : Nat} {l1 : Int32} {l2 : Int32} {l3 : Int32} {S : JS} (h : wJ7_fill_53178_5 l0 l1 l2 l3 S Q) : jLf (jCall jmt jbud d) jbud (fun j => (jmt j).rk) none mJ7_fill_53178 (jqV Q) (5, [some (.ref l0), some (.int l1), some (.int l2), some (.int l3)], [], S, 0, 0) := by
  have := h (fun q : Nat × Int32 × Int32 × Int32 × JS => jLf (jCall jmt jbud d) jbud (fun j => (jmt j).rk) none mJ7_fill_53178 (jqV Q) (5, [some (.ref (q.1)), some (.int (q.2.1)), some (.int (q.2.2.1)), some (.int (q.2.2.2.1))], [], q.2.2.2.2, 0, 0)) (fun q R hb hR => uJ7_fill_53178_5 d hd  (fun _ _ _ _ _ => hR _) hb)
  exact this
def wJ7_fill_53178  (p1 : Nat) (p2 : Int32) (S : JS) (Q : JS → Prop) : Prop :=
  jA S p1 13 ∧ (∀ x2 : Int32, x2 = (Int32.ofNat (jZ S p1)) → (wJ7_fill_53178_5 p1 p2 0 x2 S Q))
set_option maxRecDepth 20000 in
theorem vJ7_fill_53178 {Q : JS → Prop} (d : Nat) (hd : 1 ≤ d) {p1 : Nat} {p2 : Int32} {S : JS} (h : wJ7_fill_53178 p1 p2 S Q) : jCall jmt jbud d 234 [.ref p1, .int p2] S (jqV Q) := by
  obtain ⟨d, rfl⟩ : ∃ d2, d = d2 + 1 := ⟨d - 1, by omega⟩
  have hd : 0 ≤ d := by omega
  have hc := jCall_mono jmt jbud d
  unfold wJ7_fill_53178 at h
  refine ⟨Nat.le_of_ble_eq_true rfl, ?_⟩
  show jLf (jCall jmt jbud d) jbud (fun j => (jmt j).rk) none mJ7_fill_53178 (jqV Q) (0, [some (.ref p1), some (.int p2), none, none], [], S, 0, 0)
  obtain ⟨g1, h⟩ := h
  refine jLf.bk hc 5 [jA S p1 13] [some (.ref p1), some (.int p2), some (.int 0), some (.int (Int32.ofNat (jZ S p1)))] [] S rfl rfl rfl g1 ?_
  generalize ex2 : (Int32.ofNat (jZ S p1) : Int32) = x2
  have h := h x2 ex2.symm
  exact tJ7_fill_53178_5 d hd  h
def wX1_init  (this : Nat) (S : JS) (Q : JS → Prop) : Prop :=
  jN S < 1000000 ∧ (∀ h3 : Nat, h3 = jN S → (∀ S1 : JS, S1 = uNew S 0 3 → (jA S1 h3 0 ∧ (wX0_init h3 S1 (fun S4 => jA S4 this 1 ∧ (∀ S8 : JS, S8 = uR S4 this 0 (some h3) → (jN S8 < 1000000 ∧ (∀ h11 : Nat, h11 = jN S8 → (∀ S9 : JS, S9 = uNew S8 13 540 → (jA S9 this 1 ∧ (∀ S13 : JS, S13 = uR S9 this 1 (some h11) → (jN S13 < 1000000 ∧ (∀ h16 : Nat, h16 = jN S13 → (∀ S14 : JS, S14 = uNew S13 13 540 → (jA S14 this 1 ∧ (∀ S18 : JS, S18 = uR S14 this 2 (some h16) → (jA S18 this 1 ∧ (¬ jR S18 this 1 = none ∧ (wJ7_fill_53178 (jr S18 this 1) (-1) S18 (fun S21 => jA S21 this 1 ∧ (¬ jR S21 this 2 = none ∧ (wJ7_fill_53178 (jr S21 this 2) (-1) S21 (fun S25 => Q S25)))))))))))))))))))))))
set_option maxRecDepth 20000 in
theorem vX1_init {Q : JS → Prop} (d : Nat) (hd : 2 ≤ d) {this : Nat} {S : JS} (h : wX1_init this S Q) : jCall jmt jbud d 8 [.ref this] S (jqV Q) := by
  obtain ⟨d, rfl⟩ : ∃ d2, d = d2 + 1 := ⟨d - 1, by omega⟩
  have hd : 1 ≤ d := by omega
  have hc := jCall_mono jmt jbud d
  unfold wX1_init at h
  refine ⟨Nat.le_of_ble_eq_true rfl, ?_⟩
  show jLf (jCall jmt jbud d) jbud (fun j => (jmt j).rk) none mX1_init (jqV Q) (0, [some (.ref this)], [], S, 5, 1122)
  refine jLf.bk hc 3 [(([] : List Value).map fun v => v.category).sum ≤ 8] [some (.ref this)] [.ref this] S rfl rfl rfl (Nat.le_of_ble_eq_true rfl) ?_
  obtain ⟨g2, h⟩ := h
  refine jLf.one hc _ rfl (gs := [1 ≤ 5, 3 ≤ 1122, jN S < 1000000]) (c := (4, [some (.ref this)], [.ref (jN S), .ref this], (uNew S 0 3), 4, 1119)) rfl ⟨Nat.le_of_ble_eq_true rfl, Nat.le_of_ble_eq_true rfl, g2⟩ ?_
  generalize eS1 : uNew S 0 3 = S1
  generalize eh3 : jN S = h3
  have h := h h3 eh3.symm S1 eS1.symm
  refine jLf.bk hc 1 [(.ref h3 : Value).category = 1] [some (.ref this)] [.ref h3, .ref h3, .ref this] S1 rfl rfl rfl rfl ?_
  obtain ⟨g6, h⟩ := h
  refine jLf.inv hc _ rfl (gs := [jA S1 h3 0, (([.ref h3, .ref this] : List Value).map fun v => v.category).sum ≤ 8, 2 ≤ 4, 39 ≤ 1119]) (k := 0) (args := [.ref h3]) (r := [.ref h3, .ref this]) (a := 2) (b := 1080) rfl ⟨g6, Nat.le_of_ble_eq_true rfl, Nat.le_of_ble_eq_true rfl, Nat.le_of_ble_eq_true rfl⟩ (vX0_init d (by omega) h) ?_
  rintro v S4 ⟨rfl, h⟩
  show jLf (jCall jmt jbud d) jbud (fun j => (jmt j).rk) none mX1_init (jqV Q) (6, [some (.ref this)], [.ref h3, .ref this], S4, 2, 1080)
  obtain ⟨g7, h⟩ := h
  refine jLf.bk hc 1 [jA S4 this 1] [some (.ref this)] [] (uR S4 this 0 (some h3)) rfl rfl rfl g7 ?_
  generalize eS8 : uR S4 this 0 (some h3) = S8
  have h := h S8 eS8.symm
  refine jLf.bk hc 2 [] [some (.ref this)] [.int 540, .ref this] S8 rfl rfl rfl trivial ?_
  obtain ⟨g10, h⟩ := h
  refine jLf.one hc _ rfl (gs := [¬ (540 : Int32) < 0, 540 ≤ 1000000, 1 ≤ 2, 540 ≤ 1080, jN S8 < 1000000]) (c := (10, [some (.ref this)], [.ref (jN S8), .ref this], (uNew S8 13 540), 1, 540)) rfl ⟨(by decide), Nat.le_of_ble_eq_true rfl, Nat.le_of_ble_eq_true rfl, Nat.le_of_ble_eq_true rfl, g10⟩ ?_
  generalize eS9 : uNew S8 13 540 = S9
  generalize eh11 : jN S8 = h11
  have h := h h11 eh11.symm S9 eS9.symm
  obtain ⟨g12, h⟩ := h
  refine jLf.bk hc 1 [jA S9 this 1] [some (.ref this)] [] (uR S9 this 1 (some h11)) rfl rfl rfl g12 ?_
  generalize eS13 : uR S9 this 1 (some h11) = S13
  have h := h S13 eS13.symm
  refine jLf.bk hc 2 [] [some (.ref this)] [.int 540, .ref this] S13 rfl rfl rfl trivial ?_
  obtain ⟨g15, h⟩ := h
  refine jLf.one hc _ rfl (gs := [¬ (540 : Int32) < 0, 540 ≤ 1000000, 1 ≤ 1, 540 ≤ 540, jN S13 < 1000000]) (c := (14, [some (.ref this)], [.ref (jN S13), .ref this], (uNew S13 13 540), 0, 0)) rfl ⟨(by decide), Nat.le_of_ble_eq_true rfl, Nat.le_of_ble_eq_true rfl, Nat.le_of_ble_eq_true rfl, g15⟩ ?_
  generalize eS14 : uNew S13 13 540 = S14
  generalize eh16 : jN S13 = h16
  have h := h h16 eh16.symm S14 eS14.symm
  obtain ⟨g17, h⟩ := h
  refine jLf.bk hc 1 [jA S14 this 1] [some (.ref this)] [] (uR S14 this 2 (some h16)) rfl rfl rfl g17 ?_
  generalize eS18 : uR S14 this 2 (some h16) = S18
  have h := h S18 eS18.symm
  obtain ⟨g19, g20, h⟩ := h
  refine jLf.bk hc 3 [jA S18 this 1, ¬ jR S18 this 1 = none] [some (.ref this)] [.int (-1), .ref (jr S18 this 1)] S18 rfl rfl rfl ⟨g19, g20⟩ ?_
  refine jLf.inv hc _ rfl (gs := [2 ≤ ([.int (-1), .ref (jr S18 this 1)] : List Value).length, (([] : List Value).map fun v => v.category).sum ≤ 8, 0 ≤ 0, 0 ≤ 0]) (k := 234) (args := [.ref (jr S18 this 1), .int (-1)]) (r := []) (a := 0) (b := 0) rfl ⟨Nat.le_of_ble_eq_true rfl, Nat.le_of_ble_eq_true rfl, Nat.zero_le _, Nat.zero_le _⟩ (vJ7_fill_53178 d (by omega) h) ?_
  rintro v S21 ⟨rfl, h⟩
  show jLf (jCall jmt jbud d) jbud (fun j => (jmt j).rk) none mX1_init (jqV Q) (19, [some (.ref this)], [], S21, 0, 0)
  obtain ⟨g23, g24, h⟩ := h
  refine jLf.bk hc 3 [jA S21 this 1, ¬ jR S21 this 2 = none] [some (.ref this)] [.int (-1), .ref (jr S21 this 2)] S21 rfl rfl rfl ⟨g23, g24⟩ ?_
  refine jLf.inv hc _ rfl (gs := [2 ≤ ([.int (-1), .ref (jr S21 this 2)] : List Value).length, (([] : List Value).map fun v => v.category).sum ≤ 8, 0 ≤ 0, 0 ≤ 0]) (k := 234) (args := [.ref (jr S21 this 2), .int (-1)]) (r := []) (a := 0) (b := 0) rfl ⟨Nat.le_of_ble_eq_true rfl, Nat.le_of_ble_eq_true rfl, Nat.zero_le _, Nat.zero_le _⟩ (vJ7_fill_53178 d (by omega) h) ?_
  rintro v S25 ⟨rfl, h⟩
  show jLf (jCall jmt jbud d) jbud (fun j => (jmt j).rk) none mX1_init (jqV Q) (23, [some (.ref this)], [], S25, 0, 0)
  exact jLf.ret hc _ rfl (gs := [jrt none none]) (v := none) rfl trivial ⟨rfl, h⟩
def wX11_placeOf  (p1 : Int32) (p2 : Int32) (S : JS) (Q : Int32 → JS → Prop) : Prop :=
  Q ((p2 * (9 : Int32)) + p1) S
set_option maxRecDepth 20000 in
theorem vX11_placeOf {Q : Int32 → JS → Prop} (d : Nat) (hd : 1 ≤ d) {p1 : Int32} {p2 : Int32} {S : JS} (h : wX11_placeOf p1 p2 S Q) : jCall jmt jbud d 146 [.int p1, .int p2] S (jqI Q) := by
  obtain ⟨d, rfl⟩ : ∃ d2, d = d2 + 1 := ⟨d - 1, by omega⟩
  have hd : 0 ≤ d := by omega
  have hc := jCall_mono jmt jbud d
  unfold wX11_placeOf at h
  refine ⟨Nat.le_of_ble_eq_true rfl, ?_⟩
  show jLf (jCall jmt jbud d) jbud (fun j => (jmt j).rk) none mX11_placeOf (jqI Q) (0, [some (.int p1), some (.int p2)], [], S, 0, 0)
  refine jLf.bk hc 5 [] [some (.int p1), some (.int p2)] [.int ((p2 * (9 : Int32)) + p1)] S rfl rfl rfl trivial ?_
  exact jLf.ret hc _ rfl (gs := [True]) (v := some (.int ((p2 * (9 : Int32)) + p1))) rfl trivial ⟨(p2 * (9 : Int32)) + p1, rfl, h⟩
def bX1_forget_12  (X4 : Nat → Int32 → Int32 → JS → Prop) (X12 : Nat → Int32 → Int32 → Int32 → JS → Prop) (l0 : Nat) (l2 : Int32) (l3 : Int32) (l4 : Int32) (S : JS) (Q : JS → Prop) : Prop :=
  (9 ≤ l4 → ∀ x2 : Int32, x2 = (l3 + 1) → (X4 l0 l2 x2 S)) ∧ (¬ (9 ≤ l4) → jA S l0 1 ∧ (¬ jR S l0 1 = none ∧ (wX11_placeOf l4 l3 S (fun r6 S5 => jA S5 (jr S l0 1) 13 ∧ (vp_in r6 (jZ S5 (jr S l0 1)) ∧ (∀ S9 : JS, S9 = uI S5 (jr S l0 1) r6.toNatClampNeg (-1) → (jA S9 l0 1 ∧ (¬ jR S9 l0 2 = none ∧ (wX11_placeOf l4 l3 S9 (fun r13 S12 => jA S12 (jr S9 l0 2) 13 ∧ (vp_in r13 (jZ S12 (jr S9 l0 2)) ∧ (∀ S16 : JS, S16 = uI S12 (jr S9 l0 2) r13.toNatClampNeg (-1) → (∀ x17 : Int32, x17 = (l4 + 1) → (X12 l0 l2 l3 x17 S16))))))))))))))
set_option maxRecDepth 20000 in
theorem uX1_forget_12 {Q : JS → Prop} {X4 : Nat → Int32 → Int32 → JS → Prop} (d : Nat) (hd : 1 ≤ d) (hX4 : ∀ l0 l2 l3 S, X4 l0 l2 l3 S → jLf (jCall jmt jbud d) jbud (fun j => (jmt j).rk) none mX1_forget (jqV Q) (4, [some (.ref l0), none, some (.int l2), some (.int l3), none], [], S, 0, 0)) {X12 : Nat → Int32 → Int32 → Int32 → JS → Prop} (hX12 : ∀ l0 l2 l3 l4 S, X12 l0 l2 l3 l4 S → jLf (jCall jmt jbud d) jbud (fun j => (jmt j).rk) none mX1_forget (jqV Q) (12, [some (.ref l0), none, some (.int l2), some (.int l3), some (.int l4)], [], S, 0, 0)) {l0 : Nat} {l2 : Int32} {l3 : Int32} {l4 : Int32} {S : JS} (h : bX1_forget_12 X4 X12 l0 l2 l3 l4 S Q) : jLf (jCall jmt jbud d) jbud (fun j => (jmt j).rk) none mX1_forget (jqV Q) (12, [some (.ref l0), none, some (.int l2), some (.int l3), some (.int l4)], [], S, 0, 0) := by
  have hc := jCall_mono jmt jbud d
  unfold bX1_forget_12 at h
  refine jLf.bk hc 2 [] [some (.ref l0), none, some (.int l2), some (.int l3), some (.int l4)] [.int 9, .int l4] S rfl rfl rfl trivial ?_
  refine jLf.two hc _ rfl (gs := []) (p1 := 9 ≤ l4) (p2 := ¬ (9 ≤ l4)) (c1 := (31, [some (.ref l0), none, some (.int l2), some (.int l3), some (.int l4)], [], S, 0, 0)) (c2 := (15, [some (.ref l0), none, some (.int l2), some (.int l3), some (.int l4)], [], S, 0, 0)) rfl trivial (fun hz => ?_) (fun hz => ?_)
  · have h := h.1 hz
    refine jLf.bk hc 1 [] [some (.ref l0), none, some (.int l2), some (.int (l3 + 1)), some (.int l4)] [] S rfl rfl rfl trivial ?_
    generalize ex2 : (l3 + 1 : Int32) = x2
    have h := h x2 ex2.symm
    refine jLf.one hc _ rfl (gs := []) (c := (4, [some (.ref l0), none, some (.int l2), some (.int x2), some (.int l4)], [], S, 0, 0)) rfl trivial ?_
    refine jLf.sub [some (.ref l0), none, some (.int l2), some (.int x2), none] (jle_same (jle_same (jle_same (jle_same (jle_none (jle_nil _)))))) ?_
    exact hX4 _ _ _ _ h
  · have h := h.2 hz
    obtain ⟨g3, g4, h⟩ := h
    refine jLf.bk hc 4 [jA S l0 1, ¬ jR S l0 1 = none] [some (.ref l0), none, some (.int l2), some (.int l3), some (.int l4)] [.int l3, .int l4, .ref (jr S l0 1)] S rfl rfl rfl ⟨g3, g4⟩ ?_
    refine jLf.inv hc _ rfl (gs := [2 ≤ ([.int l3, .int l4, .ref (jr S l0 1)] : List Value).length, (([.ref (jr S l0 1)] : List Value).map fun v => v.category).sum ≤ 8, 0 ≤ 0, 0 ≤ 0]) (k := 146) (args := [.int l4, .int l3]) (r := [.ref (jr S l0 1)]) (a := 0) (b := 0) rfl ⟨Nat.le_of_ble_eq_true rfl, Nat.le_of_ble_eq_true rfl, Nat.zero_le _, Nat.zero_le _⟩ (vX11_placeOf d (by omega) h) ?_
    rintro v S5 ⟨r6, rfl, h⟩
    show jLf (jCall jmt jbud d) jbud (fun j => (jmt j).rk) none mX1_forget (jqV Q) (20, [some (.ref l0), none, some (.int l2), some (.int l3), some (.int l4)], [.int r6, .ref (jr S l0 1)], S5, 0, 0)
    obtain ⟨g7, g8, h⟩ := h
    refine jLf.bk hc 2 [jA S5 (jr S l0 1) 13, vp_in r6 (jZ S5 (jr S l0 1))] [some (.ref l0), none, some (.int l2), some (.int l3), some (.int l4)] [] (uI S5 (jr S l0 1) r6.toNatClampNeg (-1)) rfl rfl rfl ⟨g7, g8⟩ ?_
    generalize eS9 : uI S5 (jr S l0 1) r6.toNatClampNeg (-1) = S9
    have h := h S9 eS9.symm
    obtain ⟨g10, g11, h⟩ := h
    refine jLf.bk hc 4 [jA S9 l0 1, ¬ jR S9 l0 2 = none] [some (.ref l0), none, some (.int l2), some (.int l3), some (.int l4)] [.int l3, .int l4, .ref (jr S9 l0 2)] S9 rfl rfl rfl ⟨g10, g11⟩ ?_
    refine jLf.inv hc _ rfl (gs := [2 ≤ ([.int l3, .int l4, .ref (jr S9 l0 2)] : List Value).length, (([.ref (jr S9 l0 2)] : List Value).map fun v => v.category).sum ≤ 8, 0 ≤ 0, 0 ≤ 0]) (k := 146) (args := [.int l4, .int l3]) (r := [.ref (jr S9 l0 2)]) (a := 0) (b := 0) rfl ⟨Nat.le_of_ble_eq_true rfl, Nat.le_of_ble_eq_true rfl, Nat.zero_le _, Nat.zero_le _⟩ (vX11_placeOf d (by omega) h) ?_
    rintro v S12 ⟨r13, rfl, h⟩
    show jLf (jCall jmt jbud d) jbud (fun j => (jmt j).rk) none mX1_forget (jqV Q) (27, [some (.ref l0), none, some (.int l2), some (.int l3), some (.int l4)], [.int r13, .ref (jr S9 l0 2)], S12, 0, 0)
    obtain ⟨g14, g15, h⟩ := h
    refine jLf.bk hc 2 [jA S12 (jr S9 l0 2) 13, vp_in r13 (jZ S12 (jr S9 l0 2))] [some (.ref l0), none, some (.int l2), some (.int l3), some (.int l4)] [] (uI S12 (jr S9 l0 2) r13.toNatClampNeg (-1)) rfl rfl rfl ⟨g14, g15⟩ ?_
    generalize eS16 : uI S12 (jr S9 l0 2) r13.toNatClampNeg (-1) = S16
    have h := h S16 eS16.symm
    refine jLf.bk hc 1 [] [some (.ref l0), none, some (.int l2), some (.int l3), some (.int (l4 + 1))] [] S16 rfl rfl rfl trivial ?_
    generalize ex17 : (l4 + 1 : Int32) = x17
    have h := h x17 ex17.symm
    refine jLf.one hc _ rfl (gs := []) (c := (12, [some (.ref l0), none, some (.int l2), some (.int l3), some (.int x17)], [], S16, 0, 0)) rfl trivial ?_
    exact hX12 _ _ _ _ _ h
def wX1_forget_12  (X4 : Nat → Int32 → Int32 → JS → Prop) (l0 : Nat) (l2 : Int32) (l3 : Int32) (l4 : Int32) (S : JS) (Q : JS → Prop) : Prop :=
  jLoop (fun (X12 : Nat × Int32 × Int32 × Int32 × JS → Prop) q => bX1_forget_12 X4 (fun l0 l2 l3 l4 S => X12 (l0, l2, l3, l4, S)) q.1 q.2.1 q.2.2.1 q.2.2.2.1 q.2.2.2.2 Q) (l0, l2, l3, l4, S)
set_option maxRecDepth 20000 in
theorem tX1_forget_12 {Q : JS → Prop} {X4 : Nat → Int32 → Int32 → JS → Prop} (d : Nat) (hd : 1 ≤ d) (hX4 : ∀ l0 l2 l3 S, X4 l0 l2 l3 S → jLf (jCall jmt jbud d) jbud (fun j => (jmt j).rk) none mX1_forget (jqV Q) (4, [some (.ref l0), none, some (.int l2), some (.int l3), none], [], S, 0, 0)) {l0 : Nat} {l2 : Int32} {l3 : Int32} {l4 : Int32} {S : JS} (h : wX1_forget_12 X4 l0 l2 l3 l4 S Q) : jLf (jCall jmt jbud d) jbud (fun j => (jmt j).rk) none mX1_forget (jqV Q) (12, [some (.ref l0), none, some (.int l2), some (.int l3), some (.int l4)], [], S, 0, 0) := by
  have := h (fun q : Nat × Int32 × Int32 × Int32 × JS => jLf (jCall jmt jbud d) jbud (fun j => (jmt j).rk) none mX1_forget (jqV Q) (12, [some (.ref (q.1)), none, some (.int (q.2.1)), some (.int (q.2.2.1)), some (.int (q.2.2.2.1))], [], q.2.2.2.2, 0, 0)) (fun q R hb hR => uX1_forget_12 d hd hX4 (fun _ _ _ _ _ => hR _) hb)
  exact this
def bX1_forget_4   (X4 : Nat → Int32 → Int32 → JS → Prop) (l0 : Nat) (l2 : Int32) (l3 : Int32) (S : JS) (Q : JS → Prop) : Prop :=
  (l2 < l3 → Q S) ∧ (¬ (l2 < l3) → (60 ≤ l3 → Q S) ∧ (¬ (60 ≤ l3) → wX1_forget_12 X4 l0 l2 l3 0 S Q))
set_option maxRecDepth 20000 in
theorem uX1_forget_4 {Q : JS → Prop}  (d : Nat) (hd : 1 ≤ d) {X4 : Nat → Int32 → Int32 → JS → Prop} (hX4 : ∀ l0 l2 l3 S, X4 l0 l2 l3 S → jLf (jCall jmt jbud d) jbud (fun j => (jmt j).rk) none mX1_forget (jqV Q) (4, [some (.ref l0), none, some (.int l2), some (.int l3), none], [], S, 0, 0)) {l0 : Nat} {l2 : Int32} {l3 : Int32} {S : JS} (h : bX1_forget_4 X4 l0 l2 l3 S Q) : jLf (jCall jmt jbud d) jbud (fun j => (jmt j).rk) none mX1_forget (jqV Q) (4, [some (.ref l0), none, some (.int l2), some (.int l3), none], [], S, 0, 0) := by
  have hc := jCall_mono jmt jbud d
  unfold bX1_forget_4 at h
  refine jLf.bk hc 2 [] [some (.ref l0), none, some (.int l2), some (.int l3), none] [.int l2, .int l3] S rfl rfl rfl trivial ?_
  refine jLf.two hc _ rfl (gs := []) (p1 := l2 < l3) (p2 := ¬ (l2 < l3)) (c1 := (33, [some (.ref l0), none, some (.int l2), some (.int l3), none], [], S, 0, 0)) (c2 := (7, [some (.ref l0), none, some (.int l2), some (.int l3), none], [], S, 0, 0)) rfl trivial (fun hz => ?_) (fun hz => ?_)
  · have h := h.1 hz
    exact jLf.ret hc _ rfl (gs := [jrt none none]) (v := none) rfl trivial ⟨rfl, h⟩
  · have h := h.2 hz
    refine jLf.bk hc 2 [] [some (.ref l0), none, some (.int l2), some (.int l3), none] [.int 60, .int l3] S rfl rfl rfl trivial ?_
    refine jLf.two hc _ rfl (gs := []) (p1 := 60 ≤ l3) (p2 := ¬ (60 ≤ l3)) (c1 := (33, [some (.ref l0), none, some (.int l2), some (.int l3), none], [], S, 0, 0)) (c2 := (10, [some (.ref l0), none, some (.int l2), some (.int l3), none], [], S, 0, 0)) rfl trivial (fun hz => ?_) (fun hz => ?_)
    · have h := h.1 hz
      exact jLf.ret hc _ rfl (gs := [jrt none none]) (v := none) rfl trivial ⟨rfl, h⟩
    · have h := h.2 hz
      refine jLf.bk hc 2 [] [some (.ref l0), none, some (.int l2), some (.int l3), some (.int 0)] [] S rfl rfl rfl trivial ?_
      exact tX1_forget_12 d hd hX4 h
def wX1_forget_4   (l0 : Nat) (l2 : Int32) (l3 : Int32) (S : JS) (Q : JS → Prop) : Prop :=
  jLoop (fun (X4 : Nat × Int32 × Int32 × JS → Prop) q => bX1_forget_4 (fun l0 l2 l3 S => X4 (l0, l2, l3, S)) q.1 q.2.1 q.2.2.1 q.2.2.2 Q) (l0, l2, l3, S)
set_option maxRecDepth 20000 in
theorem tX1_forget_4 {Q : JS → Prop}  (d : Nat) (hd : 1 ≤ d) {l0 : Nat} {l2 : Int32} {l3 : Int32} {S : JS} (h : wX1_forget_4 l0 l2 l3 S Q) : jLf (jCall jmt jbud d) jbud (fun j => (jmt j).rk) none mX1_forget (jqV Q) (4, [some (.ref l0), none, some (.int l2), some (.int l3), none], [], S, 0, 0) := by
  have := h (fun q : Nat × Int32 × Int32 × JS => jLf (jCall jmt jbud d) jbud (fun j => (jmt j).rk) none mX1_forget (jqV Q) (4, [some (.ref (q.1)), none, some (.int (q.2.1)), some (.int (q.2.2.1)), none], [], q.2.2.2, 0, 0)) (fun q R hb hR => uX1_forget_4 d hd  (fun _ _ _ _ => hR _) hb)
  exact this
def wX1_forget  (this : Nat) (p1 : Int32) (p2 : Int32) (S : JS) (Q : JS → Prop) : Prop :=
  ∀ x1 : Int32, x1 = (if (0 : Int32) < p1 then p1 else (0 : Int32)) → (wX1_forget_4 this p2 x1 S Q)
set_option maxRecDepth 20000 in
theorem vX1_forget {Q : JS → Prop} (d : Nat) (hd : 2 ≤ d) {this : Nat} {p1 : Int32} {p2 : Int32} {S : JS} (h : wX1_forget this p1 p2 S Q) : jCall jmt jbud d 9 [.ref this, .int p1, .int p2] S (jqV Q) := by
  obtain ⟨d, rfl⟩ : ∃ d2, d = d2 + 1 := ⟨d - 1, by omega⟩
  have hd : 1 ≤ d := by omega
  have hc := jCall_mono jmt jbud d
  unfold wX1_forget at h
  refine ⟨Nat.le_of_ble_eq_true rfl, ?_⟩
  show jLf (jCall jmt jbud d) jbud (fun j => (jmt j).rk) none mX1_forget (jqV Q) (0, [some (.ref this), some (.int p1), some (.int p2), none, none], [], S, 0, 0)
  refine jLf.bk hc 4 [(([] : List Value).map fun v => v.category).sum ≤ 8] [some (.ref this), some (.int p1), some (.int p2), some (.int (if (0 : Int32) < p1 then p1 else (0 : Int32))), none] [] S rfl rfl rfl (Nat.le_of_ble_eq_true rfl) ?_
  generalize ex1 : (if (0 : Int32) < p1 then p1 else (0 : Int32) : Int32) = x1
  have h := h x1 ex1.symm
  refine jLf.sub [some (.ref this), none, some (.int p2), some (.int x1), none] (jle_same (jle_none (jle_same (jle_same (jle_same (jle_nil _)))))) ?_
  exact tX1_forget_4 d hd  h
def wX9_hasRock  (this : Nat) (p1 : Int32) (S : JS) (Q : Int32 → JS → Prop) : Prop :=
  (p1 < 0 → Q 0 S) ∧ (¬ (p1 < 0) → jA S this 9 ∧ (((jI S this 0) ≤ p1 → Q 0 S) ∧ (¬ ((jI S this 0) ≤ p1) → Q 1 S)))
set_option maxRecDepth 20000 in
theorem vX9_hasRock {Q : Int32 → JS → Prop} (d : Nat) (hd : 1 ≤ d) {this : Nat} {p1 : Int32} {S : JS} (h : wX9_hasRock this p1 S Q) : jCall jmt jbud d 87 [.ref this, .int p1] S (jqI Q) := by
  obtain ⟨d, rfl⟩ : ∃ d2, d = d2 + 1 := ⟨d - 1, by omega⟩
  have hd : 0 ≤ d := by omega
  have hc := jCall_mono jmt jbud d
  unfold wX9_hasRock at h
  refine ⟨Nat.le_of_ble_eq_true rfl, ?_⟩
  show jLf (jCall jmt jbud d) jbud (fun j => (jmt j).rk) none mX9_hasRock (jqI Q) (0, [some (.ref this), some (.int p1)], [], S, 0, 0)
  refine jLf.bk hc 1 [] [some (.ref this), some (.int p1)] [.int p1] S rfl rfl rfl trivial ?_
  refine jLf.two hc _ rfl (gs := []) (p1 := p1 < 0) (p2 := ¬ (p1 < 0)) (c1 := (8, [some (.ref this), some (.int p1)], [], S, 0, 0)) (c2 := (2, [some (.ref this), some (.int p1)], [], S, 0, 0)) rfl trivial (fun hz => ?_) (fun hz => ?_)
  · have h := h.1 hz
    refine jLf.bk hc 1 [] [some (.ref this), some (.int p1)] [.int 0] S rfl rfl rfl trivial ?_
    exact jLf.ret hc _ rfl (gs := [jbit 0]) (v := some (.int 0)) rfl (Or.inl rfl) ⟨_, rfl, h⟩
  · have h := h.2 hz
    obtain ⟨g1, h⟩ := h
    refine jLf.bk hc 3 [jA S this 9] [some (.ref this), some (.int p1)] [.int (jI S this 0), .int p1] S rfl rfl rfl g1 ?_
    refine jLf.two hc _ rfl (gs := []) (p1 := (jI S this 0) ≤ p1) (p2 := ¬ ((jI S this 0) ≤ p1)) (c1 := (8, [some (.ref this), some (.int p1)], [], S, 0, 0)) (c2 := (6, [some (.ref this), some (.int p1)], [], S, 0, 0)) rfl trivial (fun hz => ?_) (fun hz => ?_)
    · have h := h.1 hz
      refine jLf.bk hc 1 [] [some (.ref this), some (.int p1)] [.int 0] S rfl rfl rfl trivial ?_
      exact jLf.ret hc _ rfl (gs := [jbit 0]) (v := some (.int 0)) rfl (Or.inl rfl) ⟨_, rfl, h⟩
    · have h := h.2 hz
      refine jLf.bk hc 1 [] [some (.ref this), some (.int p1)] [.int 1] S rfl rfl rfl trivial ?_
      refine jLf.one hc _ rfl (gs := []) (c := (9, [some (.ref this), some (.int p1)], [.int 1], S, 0, 0)) rfl trivial ?_
      exact jLf.ret hc _ rfl (gs := [jbit 1]) (v := some (.int 1)) rfl (Or.inr rfl) ⟨_, rfl, h⟩
def wX9_isWeddingOn_30  (X2 : Nat → Int32 → Int32 → Int32 → JS → Prop) (l0 : Nat) (l1 : Int32) (l2 : Int32) (l3 : Int32) (S : JS) (Q : Int32 → JS → Prop) : Prop :=
  ∀ x7 : Int32, x7 = (l3 + 1) → (X2 l0 l1 l2 x7 S)
set_option maxRecDepth 20000 in
theorem tX9_isWeddingOn_30 {Q : Int32 → JS → Prop} {X2 : Nat → Int32 → Int32 → Int32 → JS → Prop} (d : Nat) (hd : 0 ≤ d) (hX2 : ∀ l0 l1 l2 l3 S, X2 l0 l1 l2 l3 S → jLf (jCall jmt jbud d) jbud (fun j => (jmt j).rk) none mX9_isWeddingOn (jqI Q) (2, [some (.ref l0), some (.int l1), some (.int l2), some (.int l3)], [], S, 0, 0)) {l0 : Nat} {l1 : Int32} {l2 : Int32} {l3 : Int32} {S : JS} (h : wX9_isWeddingOn_30 X2 l0 l1 l2 l3 S Q) : jLf (jCall jmt jbud d) jbud (fun j => (jmt j).rk) none mX9_isWeddingOn (jqI Q) (30, [some (.ref l0), some (.int l1), some (.int l2), some (.int l3)], [], S, 0, 0) := by
  have hc := jCall_mono jmt jbud d
  unfold wX9_isWeddingOn_30 at h
  refine jLf.bk hc 1 [] [some (.ref l0), some (.int l1), some (.int l2), some (.int (l3 + 1))] [] S rfl rfl rfl trivial ?_
  generalize ex7 : (l3 + 1 : Int32) = x7
  have h := h x7 ex7.symm
  refine jLf.one hc _ rfl (gs := []) (c := (2, [some (.ref l0), some (.int l1), some (.int l2), some (.int x7)], [], S, 0, 0)) rfl trivial ?_
  exact hX2 _ _ _ _ _ h
def bX9_isWeddingOn_2   (X2 : Nat → Int32 → Int32 → Int32 → JS → Prop) (l0 : Nat) (l1 : Int32) (l2 : Int32) (l3 : Int32) (S : JS) (Q : Int32 → JS → Prop) : Prop :=
  jA S l0 9 ∧ (¬ jR S l0 4 = none ∧ (jA S (jr S l0 4) 8 ∧ (((jI S (jr S l0 4) 3) ≤ l3 → Q 0 S) ∧ (¬ ((jI S (jr S l0 4) 3) ≤ l3) → ¬ jR S (jr S l0 4) 0 = none ∧ (jA S (jr S (jr S l0 4) 0) 13 ∧ (vp_in l3 (jZ S (jr S (jr S l0 4) 0)) ∧ ((¬ (jI S (jr S (jr S l0 4) 0) l3.toNatClampNeg) = l1 → wX9_isWeddingOn_30 X2 l0 l1 l2 l3 S Q) ∧ ((jI S (jr S (jr S l0 4) 0) l3.toNatClampNeg) = l1 → ¬ jR S (jr S l0 4) 1 = none ∧ (jA S (jr S (jr S l0 4) 1) 13 ∧ (vp_in l3 (jZ S (jr S (jr S l0 4) 1)) ∧ ((l2 < (jI S (jr S (jr S l0 4) 1) l3.toNatClampNeg) → wX9_isWeddingOn_30 X2 l0 l1 l2 l3 S Q) ∧ (¬ (l2 < (jI S (jr S (jr S l0 4) 1) l3.toNatClampNeg)) → ¬ jR S (jr S l0 4) 2 = none ∧ (jA S (jr S (jr S l0 4) 2) 13 ∧ (vp_in l3 (jZ S (jr S (jr S l0 4) 2)) ∧ (((jI S (jr S (jr S l0 4) 2) l3.toNatClampNeg) < l2 → wX9_isWeddingOn_30 X2 l0 l1 l2 l3 S Q) ∧ (¬ ((jI S (jr S (jr S l0 4) 2) l3.toNatClampNeg) < l2) → Q 1 S))))))))))))))))
set_option maxRecDepth 20000 in
theorem uX9_isWeddingOn_2 {Q : Int32 → JS → Prop}  (d : Nat) (hd : 0 ≤ d) {X2 : Nat → Int32 → Int32 → Int32 → JS → Prop} (hX2 : ∀ l0 l1 l2 l3 S, X2 l0 l1 l2 l3 S → jLf (jCall jmt jbud d) jbud (fun j => (jmt j).rk) none mX9_isWeddingOn (jqI Q) (2, [some (.ref l0), some (.int l1), some (.int l2), some (.int l3)], [], S, 0, 0)) {l0 : Nat} {l1 : Int32} {l2 : Int32} {l3 : Int32} {S : JS} (h : bX9_isWeddingOn_2 X2 l0 l1 l2 l3 S Q) : jLf (jCall jmt jbud d) jbud (fun j => (jmt j).rk) none mX9_isWeddingOn (jqI Q) (2, [some (.ref l0), some (.int l1), some (.int l2), some (.int l3)], [], S, 0, 0) := by
  have hc := jCall_mono jmt jbud d
  unfold bX9_isWeddingOn_2 at h
  obtain ⟨g1, g2, g3, h⟩ := h
  refine jLf.bk hc 4 [jA S l0 9, ¬ jR S l0 4 = none, jA S (jr S l0 4) 8] [some (.ref l0), some (.int l1), some (.int l2), some (.int l3)] [.int (jI S (jr S l0 4) 3), .int l3] S rfl rfl rfl ⟨g1, g2, g3⟩ ?_
  refine jLf.two hc _ rfl (gs := []) (p1 := (jI S (jr S l0 4) 3) ≤ l3) (p2 := ¬ ((jI S (jr S l0 4) 3) ≤ l3)) (c1 := (32, [some (.ref l0), some (.int l1), some (.int l2), some (.int l3)], [], S, 0, 0)) (c2 := (7, [some (.ref l0), some (.int l1), some (.int l2), some (.int l3)], [], S, 0, 0)) rfl trivial (fun hz => ?_) (fun hz => ?_)
  · have h := h.1 hz
    refine jLf.bk hc 1 [] [some (.ref l0), some (.int l1), some (.int l2), some (.int l3)] [.int 0] S rfl rfl rfl trivial ?_
    exact jLf.ret hc _ rfl (gs := [jbit 0]) (v := some (.int 0)) rfl (Or.inl rfl) ⟨_, rfl, h⟩
  · have h := h.2 hz
    obtain ⟨g4, g5, g6, h⟩ := h
    refine jLf.bk hc 6 [jA S l0 9, ¬ jR S l0 4 = none, jA S (jr S l0 4) 8, ¬ jR S (jr S l0 4) 0 = none, jA S (jr S (jr S l0 4) 0) 13, vp_in l3 (jZ S (jr S (jr S l0 4) 0))] [some (.ref l0), some (.int l1), some (.int l2), some (.int l3)] [.int l1, .int (jI S (jr S (jr S l0 4) 0) l3.toNatClampNeg)] S rfl rfl rfl ⟨g1, g2, g3, g4, g5, g6⟩ ?_
    refine jLf.two hc _ rfl (gs := []) (p1 := ¬ (jI S (jr S (jr S l0 4) 0) l3.toNatClampNeg) = l1) (p2 := ¬ (¬ (jI S (jr S (jr S l0 4) 0) l3.toNatClampNeg) = l1)) (c1 := (30, [some (.ref l0), some (.int l1), some (.int l2), some (.int l3)], [], S, 0, 0)) (c2 := (14, [some (.ref l0), some (.int l1), some (.int l2), some (.int l3)], [], S, 0, 0)) rfl trivial (fun hz => ?_) (fun hz => ?_)
    · have h := h.1 hz
      exact tX9_isWeddingOn_30 d hd hX2 h
    · have h := h.2 (Classical.not_not.mp hz)
      obtain ⟨g8, g9, g10, h⟩ := h
      refine jLf.bk hc 6 [jA S l0 9, ¬ jR S l0 4 = none, jA S (jr S l0 4) 8, ¬ jR S (jr S l0 4) 1 = none, jA S (jr S (jr S l0 4) 1) 13, vp_in l3 (jZ S (jr S (jr S l0 4) 1))] [some (.ref l0), some (.int l1), some (.int l2), some (.int l3)] [.int l2, .int (jI S (jr S (jr S l0 4) 1) l3.toNatClampNeg)] S rfl rfl rfl ⟨g1, g2, g3, g8, g9, g10⟩ ?_
      refine jLf.two hc _ rfl (gs := []) (p1 := l2 < (jI S (jr S (jr S l0 4) 1) l3.toNatClampNeg)) (p2 := ¬ (l2 < (jI S (jr S (jr S l0 4) 1) l3.toNatClampNeg))) (c1 := (30, [some (.ref l0), some (.int l1), some (.int l2), some (.int l3)], [], S, 0, 0)) (c2 := (21, [some (.ref l0), some (.int l1), some (.int l2), some (.int l3)], [], S, 0, 0)) rfl trivial (fun hz => ?_) (fun hz => ?_)
      · have h := h.1 hz
        exact tX9_isWeddingOn_30 d hd hX2 h
      · have h := h.2 hz
        obtain ⟨g11, g12, g13, h⟩ := h
        refine jLf.bk hc 6 [jA S l0 9, ¬ jR S l0 4 = none, jA S (jr S l0 4) 8, ¬ jR S (jr S l0 4) 2 = none, jA S (jr S (jr S l0 4) 2) 13, vp_in l3 (jZ S (jr S (jr S l0 4) 2))] [some (.ref l0), some (.int l1), some (.int l2), some (.int l3)] [.int (jI S (jr S (jr S l0 4) 2) l3.toNatClampNeg), .int l2] S rfl rfl rfl ⟨g1, g2, g3, g11, g12, g13⟩ ?_
        refine jLf.two hc _ rfl (gs := []) (p1 := (jI S (jr S (jr S l0 4) 2) l3.toNatClampNeg) < l2) (p2 := ¬ ((jI S (jr S (jr S l0 4) 2) l3.toNatClampNeg) < l2)) (c1 := (30, [some (.ref l0), some (.int l1), some (.int l2), some (.int l3)], [], S, 0, 0)) (c2 := (28, [some (.ref l0), some (.int l1), some (.int l2), some (.int l3)], [], S, 0, 0)) rfl trivial (fun hz => ?_) (fun hz => ?_)
        · have h := h.1 hz
          exact tX9_isWeddingOn_30 d hd hX2 h
        · have h := h.2 hz
          refine jLf.bk hc 1 [] [some (.ref l0), some (.int l1), some (.int l2), some (.int l3)] [.int 1] S rfl rfl rfl trivial ?_
          exact jLf.ret hc _ rfl (gs := [jbit 1]) (v := some (.int 1)) rfl (Or.inr rfl) ⟨_, rfl, h⟩
def wX9_isWeddingOn_2   (l0 : Nat) (l1 : Int32) (l2 : Int32) (l3 : Int32) (S : JS) (Q : Int32 → JS → Prop) : Prop :=
  jLoop (fun (X2 : Nat × Int32 × Int32 × Int32 × JS → Prop) q => bX9_isWeddingOn_2 (fun l0 l1 l2 l3 S => X2 (l0, l1, l2, l3, S)) q.1 q.2.1 q.2.2.1 q.2.2.2.1 q.2.2.2.2 Q) (l0, l1, l2, l3, S)
set_option maxRecDepth 20000 in
theorem tX9_isWeddingOn_2 {Q : Int32 → JS → Prop}  (d : Nat) (hd : 0 ≤ d) {l0 : Nat} {l1 : Int32} {l2 : Int32} {l3 : Int32} {S : JS} (h : wX9_isWeddingOn_2 l0 l1 l2 l3 S Q) : jLf (jCall jmt jbud d) jbud (fun j => (jmt j).rk) none mX9_isWeddingOn (jqI Q) (2, [some (.ref l0), some (.int l1), some (.int l2), some (.int l3)], [], S, 0, 0) := by
  have := h (fun q : Nat × Int32 × Int32 × Int32 × JS => jLf (jCall jmt jbud d) jbud (fun j => (jmt j).rk) none mX9_isWeddingOn (jqI Q) (2, [some (.ref (q.1)), some (.int (q.2.1)), some (.int (q.2.2.1)), some (.int (q.2.2.2.1))], [], q.2.2.2.2, 0, 0)) (fun q R hb hR => uX9_isWeddingOn_2 d hd  (fun _ _ _ _ _ => hR _) hb)
  exact this
def wX9_isWeddingOn  (this : Nat) (p1 : Int32) (p2 : Int32) (S : JS) (Q : Int32 → JS → Prop) : Prop :=
  wX9_isWeddingOn_2 this p1 p2 0 S Q
set_option maxRecDepth 20000 in
theorem vX9_isWeddingOn {Q : Int32 → JS → Prop} (d : Nat) (hd : 1 ≤ d) {this : Nat} {p1 : Int32} {p2 : Int32} {S : JS} (h : wX9_isWeddingOn this p1 p2 S Q) : jCall jmt jbud d 91 [.ref this, .int p1, .int p2] S (jqI Q) := by
  obtain ⟨d, rfl⟩ : ∃ d2, d = d2 + 1 := ⟨d - 1, by omega⟩
  have hd : 0 ≤ d := by omega
  have hc := jCall_mono jmt jbud d
  unfold wX9_isWeddingOn at h
  refine ⟨Nat.le_of_ble_eq_true rfl, ?_⟩
  show jLf (jCall jmt jbud d) jbud (fun j => (jmt j).rk) none mX9_isWeddingOn (jqI Q) (0, [some (.ref this), some (.int p1), some (.int p2), none], [], S, 0, 0)
  refine jLf.bk hc 2 [] [some (.ref this), some (.int p1), some (.int p2), some (.int 0)] [] S rfl rfl rfl trivial ?_
  exact tX9_isWeddingOn_2 d hd  h
def wX9_ruling  (this : Nat) (S : JS) (Q : Option Nat → JS → Prop) : Prop :=
  jA S this 9 ∧ (((jI S this 8) < 0 → Q none S) ∧ (¬ ((jI S this 8) < 0) → ((jI S this 8) < (jI S this 7) → ¬ jR S this 6 = none ∧ (jA S (jr S this 6) 16 ∧ (vp_in (jI S this 8) (jZ S (jr S this 6)) ∧ ((jR S (jr S this 6) (jI S this 8).toNatClampNeg = none → Q none S) ∧ (¬ jR S (jr S this 6) (jI S this 8).toNatClampNeg = none → Q (some (jr S (jr S this 6) (jI S this 8).toNatClampNeg)) S))))) ∧ (¬ ((jI S this 8) < (jI S this 7)) → Q none S)))
set_option maxRecDepth 20000 in
theorem vX9_ruling {Q : Option Nat → JS → Prop} (d : Nat) (hd : 1 ≤ d) {this : Nat} {S : JS} (h : wX9_ruling this S Q) : jCall jmt jbud d 92 [.ref this] S (jqA Q) := by
  obtain ⟨d, rfl⟩ : ∃ d2, d = d2 + 1 := ⟨d - 1, by omega⟩
  have hd : 0 ≤ d := by omega
  have hc := jCall_mono jmt jbud d
  unfold wX9_ruling at h
  refine ⟨Nat.le_of_ble_eq_true rfl, ?_⟩
  show jLf (jCall jmt jbud d) jbud (fun j => (jmt j).rk) none mX9_ruling (jqA Q) (0, [some (.ref this)], [], S, 0, 0)
  obtain ⟨g1, h⟩ := h
  refine jLf.bk hc 2 [jA S this 9] [some (.ref this)] [.int (jI S this 8)] S rfl rfl rfl g1 ?_
  refine jLf.two hc _ rfl (gs := []) (p1 := (jI S this 8) < 0) (p2 := ¬ ((jI S this 8) < 0)) (c1 := (8, [some (.ref this)], [], S, 0, 0)) (c2 := (3, [some (.ref this)], [], S, 0, 0)) rfl trivial (fun hz => ?_) (fun hz => ?_)
  · have h := h.1 hz
    refine jLf.bk hc 1 [] [some (.ref this)] [.null] S rfl rfl rfl trivial ?_
    refine jLf.one hc _ rfl (gs := []) (c := (15, [some (.ref this)], [.null], S, 0, 0)) rfl trivial ?_
    exact jLf.ret hc _ rfl (gs := [True]) (v := some (.null)) rfl trivial ⟨none, rfl, h⟩
  · have h := h.2 hz
    refine jLf.bk hc 4 [jA S this 9, jA S this 9] [some (.ref this)] [.int (jI S this 7), .int (jI S this 8)] S rfl rfl rfl ⟨g1, g1⟩ ?_
    refine jLf.two hc _ rfl (gs := []) (p1 := (jI S this 8) < (jI S this 7)) (p2 := ¬ ((jI S this 8) < (jI S this 7))) (c1 := (10, [some (.ref this)], [], S, 0, 0)) (c2 := (8, [some (.ref this)], [], S, 0, 0)) rfl trivial (fun hz => ?_) (fun hz => ?_)
    · have h := h.1 hz
      obtain ⟨g2, h⟩ := h
      refine jLf.bk hc 4 [jA S this 9, ¬ jR S this 6 = none, jA S this 9] [some (.ref this)] [.int (jI S this 8), .ref (jr S this 6)] S rfl rfl rfl ⟨g1, g2, g1⟩ ?_
      obtain ⟨ga, gb, h⟩ := h
      refine jLf.two hc _ rfl (gs := [jA S (jr S this 6) 16, vp_in (jI S this 8) (jZ S (jr S this 6))]) (p1 := jR S (jr S this 6) (jI S this 8).toNatClampNeg = none) (p2 := ¬ jR S (jr S this 6) (jI S this 8).toNatClampNeg = none) (c1 := (15, [some (.ref this)], [.null], S, 0, 0)) (c2 := (15, [some (.ref this)], [.ref (jr S (jr S this 6) (jI S this 8).toNatClampNeg)], S, 0, 0)) rfl ⟨ga, gb⟩ (fun hz => ?_) (fun hz => ?_)
      · have h := h.1 hz
        exact jLf.ret hc _ rfl (gs := [True]) (v := some (.null)) rfl trivial ⟨none, rfl, h⟩
      · have h := h.2 hz
        exact jLf.ret hc _ rfl (gs := [True]) (v := some (.ref (jr S (jr S this 6) (jI S this 8).toNatClampNeg))) rfl trivial ⟨(some (jr S (jr S this 6) (jI S this 8).toNatClampNeg)), rfl, h⟩
    · have h := h.2 hz
      refine jLf.bk hc 1 [] [some (.ref this)] [.null] S rfl rfl rfl trivial ?_
      refine jLf.one hc _ rfl (gs := []) (c := (15, [some (.ref this)], [.null], S, 0, 0)) rfl trivial ?_
      exact jLf.ret hc _ rfl (gs := [True]) (v := some (.null)) rfl trivial ⟨none, rfl, h⟩
def wX1_learnFrom_66   (l0 : Nat) (l2 : Int32) (l3 : Int32) (l6 : Int32) (S : JS) (Q : JS → Prop) : Prop :=
  jA S l0 1 ∧ (¬ jR S l0 1 = none ∧ (wX11_placeOf l2 l3 S (fun r17 S16 => jA S16 (jr S l0 1) 13 ∧ (vp_in r17 (jZ S16 (jr S l0 1)) ∧ (∀ S20 : JS, S20 = uI S16 (jr S l0 1) r17.toNatClampNeg l6 → (Q S20))))))
set_option maxRecDepth 20000 in
theorem tX1_learnFrom_66 {Q : JS → Prop}  (d : Nat) (hd : 3 ≤ d) {l0 : Nat} {l2 : Int32} {l3 : Int32} {l6 : Int32} {S : JS} (h : wX1_learnFrom_66 l0 l2 l3 l6 S Q) : jLf (jCall jmt jbud d) jbud (fun j => (jmt j).rk) none mX1_learnFrom (jqV Q) (66, [some (.ref l0), none, some (.int l2), some (.int l3), none, none, some (.int l6), none], [], S, 0, 0) := by
  have hc := jCall_mono jmt jbud d
  unfold wX1_learnFrom_66 at h
  obtain ⟨g14, g15, h⟩ := h
  refine jLf.bk hc 4 [jA S l0 1, ¬ jR S l0 1 = none] [some (.ref l0), none, some (.int l2), some (.int l3), none, none, some (.int l6), none] [.int l3, .int l2, .ref (jr S l0 1)] S rfl rfl rfl ⟨g14, g15⟩ ?_
  refine jLf.inv hc _ rfl (gs := [2 ≤ ([.int l3, .int l2, .ref (jr S l0 1)] : List Value).length, (([.ref (jr S l0 1)] : List Value).map fun v => v.category).sum ≤ 8, 0 ≤ 0, 0 ≤ 0]) (k := 146) (args := [.int l2, .int l3]) (r := [.ref (jr S l0 1)]) (a := 0) (b := 0) rfl ⟨Nat.le_of_ble_eq_true rfl, Nat.le_of_ble_eq_true rfl, Nat.zero_le _, Nat.zero_le _⟩ (vX11_placeOf d (by omega) h) ?_
  rintro v S16 ⟨r17, rfl, h⟩
  show jLf (jCall jmt jbud d) jbud (fun j => (jmt j).rk) none mX1_learnFrom (jqV Q) (71, [some (.ref l0), none, some (.int l2), some (.int l3), none, none, some (.int l6), none], [.int r17, .ref (jr S l0 1)], S16, 0, 0)
  obtain ⟨g18, g19, h⟩ := h
  refine jLf.bk hc 2 [jA S16 (jr S l0 1) 13, vp_in r17 (jZ S16 (jr S l0 1))] [some (.ref l0), none, some (.int l2), some (.int l3), none, none, some (.int l6), none] [] (uI S16 (jr S l0 1) r17.toNatClampNeg l6) rfl rfl rfl ⟨g18, g19⟩ ?_
  generalize eS20 : uI S16 (jr S l0 1) r17.toNatClampNeg l6 = S20
  have h := h S20 eS20.symm
  exact jLf.ret hc _ rfl (gs := [jrt none none]) (v := none) rfl trivial ⟨rfl, h⟩
def wX1_learnFrom_64  (X37 : Nat → Nat → Int32 → Int32 → Nat → Int32 → Int32 → Int32 → JS → Prop) (l0 : Nat) (l1 : Nat) (l2 : Int32) (l3 : Int32) (l4 : Nat) (l5 : Int32) (l6 : Int32) (l7 : Int32) (S : JS) (Q : JS → Prop) : Prop :=
  ∀ x26 : Int32, x26 = (l7 + 1) → (X37 l0 l1 l2 l3 l4 l5 l6 x26 S)
set_option maxRecDepth 20000 in
theorem tX1_learnFrom_64 {Q : JS → Prop} {X37 : Nat → Nat → Int32 → Int32 → Nat → Int32 → Int32 → Int32 → JS → Prop} (d : Nat) (hd : 3 ≤ d) (hX37 : ∀ l0 l1 l2 l3 l4 l5 l6 l7 S, X37 l0 l1 l2 l3 l4 l5 l6 l7 S → jLf (jCall jmt jbud d) jbud (fun j => (jmt j).rk) none mX1_learnFrom (jqV Q) (37, [some (.ref l0), some (.ref l1), some (.int l2), some (.int l3), some (.ref l4), some (.int l5), some (.int l6), some (.int l7)], [], S, 0, 0)) {l0 : Nat} {l1 : Nat} {l2 : Int32} {l3 : Int32} {l4 : Nat} {l5 : Int32} {l6 : Int32} {l7 : Int32} {S : JS} (h : wX1_learnFrom_64 X37 l0 l1 l2 l3 l4 l5 l6 l7 S Q) : jLf (jCall jmt jbud d) jbud (fun j => (jmt j).rk) none mX1_learnFrom (jqV Q) (64, [some (.ref l0), some (.ref l1), some (.int l2), some (.int l3), some (.ref l4), some (.int l5), some (.int l6), some (.int l7)], [], S, 0, 0) := by
  have hc := jCall_mono jmt jbud d
  unfold wX1_learnFrom_64 at h
  refine jLf.bk hc 1 [] [some (.ref l0), some (.ref l1), some (.int l2), some (.int l3), some (.ref l4), some (.int l5), some (.int l6), some (.int (l7 + 1))] [] S rfl rfl rfl trivial ?_
  generalize ex26 : (l7 + 1 : Int32) = x26
  have h := h x26 ex26.symm
  refine jLf.one hc _ rfl (gs := []) (c := (37, [some (.ref l0), some (.ref l1), some (.int l2), some (.int l3), some (.ref l4), some (.int l5), some (.int l6), some (.int x26)], [], S, 0, 0)) rfl trivial ?_
  exact hX37 _ _ _ _ _ _ _ _ _ h
def bX1_learnFrom_37   (X37 : Nat → Nat → Int32 → Int32 → Nat → Int32 → Int32 → Int32 → JS → Prop) (l0 : Nat) (l1 : Nat) (l2 : Int32) (l3 : Int32) (l4 : Nat) (l5 : Int32) (l6 : Int32) (l7 : Int32) (S : JS) (Q : JS → Prop) : Prop :=
  jA S l1 9 ∧ (((jI S l1 0) ≤ l7 → wX1_learnFrom_66 l0 l2 l3 l6 S Q) ∧ (¬ ((jI S l1 0) ≤ l7) → (¬ l5 = 0 → wX1_learnFrom_66 l0 l2 l3 l6 S Q) ∧ (l5 = 0 → jA S l0 1 ∧ (¬ jR S l0 0 = none ∧ (jA S (jr S l0 0) 0 ∧ (wX0_aboutBoat (jr S l0 0) l1 l2 l7 l3 S (fun S23 => (l7 = l2 → wX1_learnFrom_64 X37 l0 l1 l2 l3 l4 l5 l6 l7 S23 Q) ∧ (¬ l7 = l2 → jA S23 l0 1 ∧ (¬ jR S23 l0 0 = none ∧ (jA S23 (jr S23 l0 0) 0 ∧ (wX0_isBarred (jr S23 l0 0) (some l4) S23 (fun r30 S29 => (¬ r30 = 0 → wX1_learnFrom_64 X37 l0 l1 l2 l3 l4 l5 l6 l7 S29 Q) ∧ (r30 = 0 → ∀ x32 : Int32, x32 = (l6 ||| ((1 : Int32) <<< (l7 &&& 31))) → (wX1_learnFrom_64 X37 l0 l1 l2 l3 l4 l5 x32 l7 S29 Q))))))))))))))
set_option maxRecDepth 20000 in
theorem uX1_learnFrom_37 {Q : JS → Prop}  (d : Nat) (hd : 3 ≤ d) {X37 : Nat → Nat → Int32 → Int32 → Nat → Int32 → Int32 → Int32 → JS → Prop} (hX37 : ∀ l0 l1 l2 l3 l4 l5 l6 l7 S, X37 l0 l1 l2 l3 l4 l5 l6 l7 S → jLf (jCall jmt jbud d) jbud (fun j => (jmt j).rk) none mX1_learnFrom (jqV Q) (37, [some (.ref l0), some (.ref l1), some (.int l2), some (.int l3), some (.ref l4), some (.int l5), some (.int l6), some (.int l7)], [], S, 0, 0)) {l0 : Nat} {l1 : Nat} {l2 : Int32} {l3 : Int32} {l4 : Nat} {l5 : Int32} {l6 : Int32} {l7 : Int32} {S : JS} (h : bX1_learnFrom_37 X37 l0 l1 l2 l3 l4 l5 l6 l7 S Q) : jLf (jCall jmt jbud d) jbud (fun j => (jmt j).rk) none mX1_learnFrom (jqV Q) (37, [some (.ref l0), some (.ref l1), some (.int l2), some (.int l3), some (.ref l4), some (.int l5), some (.int l6), some (.int l7)], [], S, 0, 0) := by
  have hc := jCall_mono jmt jbud d
  unfold bX1_learnFrom_37 at h
  obtain ⟨g13, h⟩ := h
  refine jLf.bk hc 3 [jA S l1 9] [some (.ref l0), some (.ref l1), some (.int l2), some (.int l3), some (.ref l4), some (.int l5), some (.int l6), some (.int l7)] [.int (jI S l1 0), .int l7] S rfl rfl rfl g13 ?_
  refine jLf.two hc _ rfl (gs := []) (p1 := (jI S l1 0) ≤ l7) (p2 := ¬ ((jI S l1 0) ≤ l7)) (c1 := (66, [some (.ref l0), some (.ref l1), some (.int l2), some (.int l3), some (.ref l4), some (.int l5), some (.int l6), some (.int l7)], [], S, 0, 0)) (c2 := (41, [some (.ref l0), some (.ref l1), some (.int l2), some (.int l3), some (.ref l4), some (.int l5), some (.int l6), some (.int l7)], [], S, 0, 0)) rfl trivial (fun hz => ?_) (fun hz => ?_)
  · have h := h.1 hz
    refine jLf.sub [some (.ref l0), none, some (.int l2), some (.int l3), none, none, some (.int l6), none] (jle_same (jle_none (jle_same (jle_same (jle_none (jle_none (jle_same (jle_none (jle_nil _))))))))) ?_
    exact tX1_learnFrom_66 d hd  h
  · have h := h.2 hz
    refine jLf.bk hc 1 [] [some (.ref l0), some (.ref l1), some (.int l2), some (.int l3), some (.ref l4), some (.int l5), some (.int l6), some (.int l7)] [.int l5] S rfl rfl rfl trivial ?_
    refine jLf.two hc _ rfl (gs := []) (p1 := ¬ l5 = 0) (p2 := ¬ (¬ l5 = 0)) (c1 := (66, [some (.ref l0), some (.ref l1), some (.int l2), some (.int l3), some (.ref l4), some (.int l5), some (.int l6), some (.int l7)], [], S, 0, 0)) (c2 := (43, [some (.ref l0), some (.ref l1), some (.int l2), some (.int l3), some (.ref l4), some (.int l5), some (.int l6), some (.int l7)], [], S, 0, 0)) rfl trivial (fun hz => ?_) (fun hz => ?_)
    · have h := h.1 hz
      refine jLf.sub [some (.ref l0), none, some (.int l2), some (.int l3), none, none, some (.int l6), none] (jle_same (jle_none (jle_same (jle_same (jle_none (jle_none (jle_same (jle_none (jle_nil _))))))))) ?_
      exact tX1_learnFrom_66 d hd  h
    · have h := h.2 (Classical.not_not.mp hz)
      obtain ⟨g21, g22, h⟩ := h
      refine jLf.bk hc 6 [jA S l0 1, ¬ jR S l0 0 = none] [some (.ref l0), some (.ref l1), some (.int l2), some (.int l3), some (.ref l4), some (.int l5), some (.int l6), some (.int l7)] [.int l3, .int l7, .int l2, .ref l1, .ref (jr S l0 0)] S rfl rfl rfl ⟨g21, g22⟩ ?_
      obtain ⟨g25, h⟩ := h
      refine jLf.inv hc _ rfl (gs := [jA S (jr S l0 0) 0, (([] : List Value).map fun v => v.category).sum ≤ 8, 0 ≤ 0, 0 ≤ 0]) (k := 2) (args := [.ref (jr S l0 0), .ref l1, .int l2, .int l7, .int l3]) (r := []) (a := 0) (b := 0) rfl ⟨g25, Nat.le_of_ble_eq_true rfl, Nat.zero_le _, Nat.zero_le _⟩ (vX0_aboutBoat d (by omega) h) ?_
      rintro v S23 ⟨rfl, h⟩
      show jLf (jCall jmt jbud d) jbud (fun j => (jmt j).rk) none mX1_learnFrom (jqV Q) (50, [some (.ref l0), some (.ref l1), some (.int l2), some (.int l3), some (.ref l4), some (.int l5), some (.int l6), some (.int l7)], [], S23, 0, 0)
      refine jLf.bk hc 2 [] [some (.ref l0), some (.ref l1), some (.int l2), some (.int l3), some (.ref l4), some (.int l5), some (.int l6), some (.int l7)] [.int l2, .int l7] S23 rfl rfl rfl trivial ?_
      refine jLf.two hc _ rfl (gs := []) (p1 := l7 = l2) (p2 := ¬ (l7 = l2)) (c1 := (64, [some (.ref l0), some (.ref l1), some (.int l2), some (.int l3), some (.ref l4), some (.int l5), some (.int l6), some (.int l7)], [], S23, 0, 0)) (c2 := (53, [some (.ref l0), some (.ref l1), some (.int l2), some (.int l3), some (.ref l4), some (.int l5), some (.int l6), some (.int l7)], [], S23, 0, 0)) rfl trivial (fun hz => ?_) (fun hz => ?_)
      · have h := h.1 hz
        exact tX1_learnFrom_64 d hd hX37 h
      · have h := h.2 hz
        obtain ⟨g27, g28, h⟩ := h
        refine jLf.bk hc 3 [jA S23 l0 1, ¬ jR S23 l0 0 = none] [some (.ref l0), some (.ref l1), some (.int l2), some (.int l3), some (.ref l4), some (.int l5), some (.int l6), some (.int l7)] [.ref l4, .ref (jr S23 l0 0)] S23 rfl rfl rfl ⟨g27, g28⟩ ?_
        obtain ⟨g31, h⟩ := h
        refine jLf.inv hc _ rfl (gs := [jA S23 (jr S23 l0 0) 0, (([] : List Value).map fun v => v.category).sum ≤ 8, 0 ≤ 0, 0 ≤ 0]) (k := 4) (args := [.ref (jr S23 l0 0), .ref l4]) (r := []) (a := 0) (b := 0) rfl ⟨g31, Nat.le_of_ble_eq_true rfl, Nat.zero_le _, Nat.zero_le _⟩ (vX0_isBarred d (by omega) h) ?_
        rintro v S29 ⟨r30, rfl, h⟩
        show jLf (jCall jmt jbud d) jbud (fun j => (jmt j).rk) none mX1_learnFrom (jqV Q) (57, [some (.ref l0), some (.ref l1), some (.int l2), some (.int l3), some (.ref l4), some (.int l5), some (.int l6), some (.int l7)], [.int r30], S29, 0, 0)
        refine jLf.two hc _ rfl (gs := []) (p1 := ¬ r30 = 0) (p2 := ¬ (¬ r30 = 0)) (c1 := (64, [some (.ref l0), some (.ref l1), some (.int l2), some (.int l3), some (.ref l4), some (.int l5), some (.int l6), some (.int l7)], [], S29, 0, 0)) (c2 := (58, [some (.ref l0), some (.ref l1), some (.int l2), some (.int l3), some (.ref l4), some (.int l5), some (.int l6), some (.int l7)], [], S29, 0, 0)) rfl trivial (fun hz => ?_) (fun hz => ?_)
        · have h := h.1 hz
          exact tX1_learnFrom_64 d hd hX37 h
        · have h := h.2 (Classical.not_not.mp hz)
          refine jLf.bk hc 6 [] [some (.ref l0), some (.ref l1), some (.int l2), some (.int l3), some (.ref l4), some (.int l5), some (.int (l6 ||| ((1 : Int32) <<< (l7 &&& 31)))), some (.int l7)] [] S29 rfl rfl rfl trivial ?_
          generalize ex32 : (l6 ||| ((1 : Int32) <<< (l7 &&& 31)) : Int32) = x32
          have h := h x32 ex32.symm
          exact tX1_learnFrom_64 d hd hX37 h
def wX1_learnFrom_37   (l0 : Nat) (l1 : Nat) (l2 : Int32) (l3 : Int32) (l4 : Nat) (l5 : Int32) (l6 : Int32) (l7 : Int32) (S : JS) (Q : JS → Prop) : Prop :=
  jLoop (fun (X37 : Nat × Nat × Int32 × Int32 × Nat × Int32 × Int32 × Int32 × JS → Prop) q => bX1_learnFrom_37 (fun l0 l1 l2 l3 l4 l5 l6 l7 S => X37 (l0, l1, l2, l3, l4, l5, l6, l7, S)) q.1 q.2.1 q.2.2.1 q.2.2.2.1 q.2.2.2.2.1 q.2.2.2.2.2.1 q.2.2.2.2.2.2.1 q.2.2.2.2.2.2.2.1 q.2.2.2.2.2.2.2.2 Q) (l0, l1, l2, l3, l4, l5, l6, l7, S)
set_option maxRecDepth 20000 in
theorem tX1_learnFrom_37 {Q : JS → Prop}  (d : Nat) (hd : 3 ≤ d) {l0 : Nat} {l1 : Nat} {l2 : Int32} {l3 : Int32} {l4 : Nat} {l5 : Int32} {l6 : Int32} {l7 : Int32} {S : JS} (h : wX1_learnFrom_37 l0 l1 l2 l3 l4 l5 l6 l7 S Q) : jLf (jCall jmt jbud d) jbud (fun j => (jmt j).rk) none mX1_learnFrom (jqV Q) (37, [some (.ref l0), some (.ref l1), some (.int l2), some (.int l3), some (.ref l4), some (.int l5), some (.int l6), some (.int l7)], [], S, 0, 0) := by
  have := h (fun q : Nat × Nat × Int32 × Int32 × Nat × Int32 × Int32 × Int32 × JS => jLf (jCall jmt jbud d) jbud (fun j => (jmt j).rk) none mX1_learnFrom (jqV Q) (37, [some (.ref (q.1)), some (.ref (q.2.1)), some (.int (q.2.2.1)), some (.int (q.2.2.2.1)), some (.ref (q.2.2.2.2.1)), some (.int (q.2.2.2.2.2.1)), some (.int (q.2.2.2.2.2.2.1)), some (.int (q.2.2.2.2.2.2.2.1))], [], q.2.2.2.2.2.2.2.2, 0, 0)) (fun q R hb hR => uX1_learnFrom_37 d hd  (fun _ _ _ _ _ _ _ _ _ => hR _) hb)
  exact this
def wX1_learnFrom_32   (l0 : Nat) (l1 : Nat) (l2 : Int32) (l3 : Int32) (l4 : Nat) (s0 : Int32) (S : JS) (Q : JS → Prop) : Prop :=
  wX1_learnFrom_37 l0 l1 l2 l3 l4 s0 0 0 S Q
set_option maxRecDepth 20000 in
theorem tX1_learnFrom_32 {Q : JS → Prop}  (d : Nat) (hd : 3 ≤ d) {l0 : Nat} {l1 : Nat} {l2 : Int32} {l3 : Int32} {l4 : Nat} {s0 : Int32} {S : JS} (h : wX1_learnFrom_32 l0 l1 l2 l3 l4 s0 S Q) : jLf (jCall jmt jbud d) jbud (fun j => (jmt j).rk) none mX1_learnFrom (jqV Q) (32, [some (.ref l0), some (.ref l1), some (.int l2), some (.int l3), some (.ref l4), none, none, none], [.int s0], S, 0, 0) := by
  have hc := jCall_mono jmt jbud d
  unfold wX1_learnFrom_32 at h
  refine jLf.bk hc 5 [] [some (.ref l0), some (.ref l1), some (.int l2), some (.int l3), some (.ref l4), some (.int s0), some (.int 0), some (.int 0)] [] S rfl rfl rfl trivial ?_
  exact tX1_learnFrom_37 d hd  h
def wX1_learnFrom_29   (l0 : Nat) (l1 : Nat) (l2 : Int32) (l3 : Int32) (l4 : Nat) (S : JS) (Q : JS → Prop) : Prop :=
  wX1_learnFrom_32 l0 l1 l2 l3 l4 1 S Q
set_option maxRecDepth 20000 in
theorem tX1_learnFrom_29 {Q : JS → Prop}  (d : Nat) (hd : 3 ≤ d) {l0 : Nat} {l1 : Nat} {l2 : Int32} {l3 : Int32} {l4 : Nat} {S : JS} (h : wX1_learnFrom_29 l0 l1 l2 l3 l4 S Q) : jLf (jCall jmt jbud d) jbud (fun j => (jmt j).rk) none mX1_learnFrom (jqV Q) (29, [some (.ref l0), some (.ref l1), some (.int l2), some (.int l3), some (.ref l4), none, none, none], [], S, 0, 0) := by
  have hc := jCall_mono jmt jbud d
  unfold wX1_learnFrom_29 at h
  refine jLf.bk hc 1 [] [some (.ref l0), some (.ref l1), some (.int l2), some (.int l3), some (.ref l4), none, none, none] [.int 1] S rfl rfl rfl trivial ?_
  refine jLf.one hc _ rfl (gs := []) (c := (32, [some (.ref l0), some (.ref l1), some (.int l2), some (.int l3), some (.ref l4), none, none, none], [.int 1], S, 0, 0)) rfl trivial ?_
  exact tX1_learnFrom_32 d hd  h
def wX1_learnFrom_64v8  (X37 : Nat → Nat → Int32 → Int32 → Int32 → Int32 → Int32 → JS → Prop) (l0 : Nat) (l1 : Nat) (l2 : Int32) (l3 : Int32) (l5 : Int32) (l6 : Int32) (l7 : Int32) (S : JS) (Q : JS → Prop) : Prop :=
  ∀ x49 : Int32, x49 = (l7 + 1) → (X37 l0 l1 l2 l3 l5 l6 x49 S)
set_option maxRecDepth 20000 in
theorem tX1_learnFrom_64v8 {Q : JS → Prop} {X37 : Nat → Nat → Int32 → Int32 → Int32 → Int32 → Int32 → JS → Prop} (d : Nat) (hd : 3 ≤ d) (hX37 : ∀ l0 l1 l2 l3 l5 l6 l7 S, X37 l0 l1 l2 l3 l5 l6 l7 S → jLf (jCall jmt jbud d) jbud (fun j => (jmt j).rk) none mX1_learnFrom (jqV Q) (37, [some (.ref l0), some (.ref l1), some (.int l2), some (.int l3), some (.null), some (.int l5), some (.int l6), some (.int l7)], [], S, 0, 0)) {l0 : Nat} {l1 : Nat} {l2 : Int32} {l3 : Int32} {l5 : Int32} {l6 : Int32} {l7 : Int32} {S : JS} (h : wX1_learnFrom_64v8 X37 l0 l1 l2 l3 l5 l6 l7 S Q) : jLf (jCall jmt jbud d) jbud (fun j => (jmt j).rk) none mX1_learnFrom (jqV Q) (64, [some (.ref l0), some (.ref l1), some (.int l2), some (.int l3), some (.null), some (.int l5), some (.int l6), some (.int l7)], [], S, 0, 0) := by
  have hc := jCall_mono jmt jbud d
  unfold wX1_learnFrom_64v8 at h
  refine jLf.bk hc 1 [] [some (.ref l0), some (.ref l1), some (.int l2), some (.int l3), some (.null), some (.int l5), some (.int l6), some (.int (l7 + 1))] [] S rfl rfl rfl trivial ?_
  generalize ex49 : (l7 + 1 : Int32) = x49
  have h := h x49 ex49.symm
  refine jLf.one hc _ rfl (gs := []) (c := (37, [some (.ref l0), some (.ref l1), some (.int l2), some (.int l3), some (.null), some (.int l5), some (.int l6), some (.int x49)], [], S, 0, 0)) rfl trivial ?_
  exact hX37 _ _ _ _ _ _ _ _ h
def bX1_learnFrom_37v7   (X37 : Nat → Nat → Int32 → Int32 → Int32 → Int32 → Int32 → JS → Prop) (l0 : Nat) (l1 : Nat) (l2 : Int32) (l3 : Int32) (l5 : Int32) (l6 : Int32) (l7 : Int32) (S : JS) (Q : JS → Prop) : Prop :=
  jA S l1 9 ∧ (((jI S l1 0) ≤ l7 → wX1_learnFrom_66 l0 l2 l3 l6 S Q) ∧ (¬ ((jI S l1 0) ≤ l7) → (¬ l5 = 0 → wX1_learnFrom_66 l0 l2 l3 l6 S Q) ∧ (l5 = 0 → jA S l0 1 ∧ (¬ jR S l0 0 = none ∧ (jA S (jr S l0 0) 0 ∧ (wX0_aboutBoat (jr S l0 0) l1 l2 l7 l3 S (fun S46 => (l7 = l2 → wX1_learnFrom_64v8 X37 l0 l1 l2 l3 l5 l6 l7 S46 Q) ∧ (¬ l7 = l2 → jA S46 l0 1 ∧ (¬ jR S46 l0 0 = none ∧ (jA S46 (jr S46 l0 0) 0 ∧ (wX0_isBarred (jr S46 l0 0) none S46 (fun r53 S52 => (¬ r53 = 0 → wX1_learnFrom_64v8 X37 l0 l1 l2 l3 l5 l6 l7 S52 Q) ∧ (r53 = 0 → ∀ x55 : Int32, x55 = (l6 ||| ((1 : Int32) <<< (l7 &&& 31))) → (wX1_learnFrom_64v8 X37 l0 l1 l2 l3 l5 x55 l7 S52 Q))))))))))))))
set_option maxRecDepth 20000 in
theorem uX1_learnFrom_37v7 {Q : JS → Prop}  (d : Nat) (hd : 3 ≤ d) {X37 : Nat → Nat → Int32 → Int32 → Int32 → Int32 → Int32 → JS → Prop} (hX37 : ∀ l0 l1 l2 l3 l5 l6 l7 S, X37 l0 l1 l2 l3 l5 l6 l7 S → jLf (jCall jmt jbud d) jbud (fun j => (jmt j).rk) none mX1_learnFrom (jqV Q) (37, [some (.ref l0), some (.ref l1), some (.int l2), some (.int l3), some (.null), some (.int l5), some (.int l6), some (.int l7)], [], S, 0, 0)) {l0 : Nat} {l1 : Nat} {l2 : Int32} {l3 : Int32} {l5 : Int32} {l6 : Int32} {l7 : Int32} {S : JS} (h : bX1_learnFrom_37v7 X37 l0 l1 l2 l3 l5 l6 l7 S Q) : jLf (jCall jmt jbud d) jbud (fun j => (jmt j).rk) none mX1_learnFrom (jqV Q) (37, [some (.ref l0), some (.ref l1), some (.int l2), some (.int l3), some (.null), some (.int l5), some (.int l6), some (.int l7)], [], S, 0, 0) := by
  have hc := jCall_mono jmt jbud d
  unfold bX1_learnFrom_37v7 at h
  obtain ⟨g43, h⟩ := h
  refine jLf.bk hc 3 [jA S l1 9] [some (.ref l0), some (.ref l1), some (.int l2), some (.int l3), some (.null), some (.int l5), some (.int l6), some (.int l7)] [.int (jI S l1 0), .int l7] S rfl rfl rfl g43 ?_
  refine jLf.two hc _ rfl (gs := []) (p1 := (jI S l1 0) ≤ l7) (p2 := ¬ ((jI S l1 0) ≤ l7)) (c1 := (66, [some (.ref l0), some (.ref l1), some (.int l2), some (.int l3), some (.null), some (.int l5), some (.int l6), some (.int l7)], [], S, 0, 0)) (c2 := (41, [some (.ref l0), some (.ref l1), some (.int l2), some (.int l3), some (.null), some (.int l5), some (.int l6), some (.int l7)], [], S, 0, 0)) rfl trivial (fun hz => ?_) (fun hz => ?_)
  · have h := h.1 hz
    refine jLf.sub [some (.ref l0), none, some (.int l2), some (.int l3), none, none, some (.int l6), none] (jle_same (jle_none (jle_same (jle_same (jle_none (jle_none (jle_same (jle_none (jle_nil _))))))))) ?_
    exact tX1_learnFrom_66 d hd  h
  · have h := h.2 hz
    refine jLf.bk hc 1 [] [some (.ref l0), some (.ref l1), some (.int l2), some (.int l3), some (.null), some (.int l5), some (.int l6), some (.int l7)] [.int l5] S rfl rfl rfl trivial ?_
    refine jLf.two hc _ rfl (gs := []) (p1 := ¬ l5 = 0) (p2 := ¬ (¬ l5 = 0)) (c1 := (66, [some (.ref l0), some (.ref l1), some (.int l2), some (.int l3), some (.null), some (.int l5), some (.int l6), some (.int l7)], [], S, 0, 0)) (c2 := (43, [some (.ref l0), some (.ref l1), some (.int l2), some (.int l3), some (.null), some (.int l5), some (.int l6), some (.int l7)], [], S, 0, 0)) rfl trivial (fun hz => ?_) (fun hz => ?_)
    · have h := h.1 hz
      refine jLf.sub [some (.ref l0), none, some (.int l2), some (.int l3), none, none, some (.int l6), none] (jle_same (jle_none (jle_same (jle_same (jle_none (jle_none (jle_same (jle_none (jle_nil _))))))))) ?_
      exact tX1_learnFrom_66 d hd  h
    · have h := h.2 (Classical.not_not.mp hz)
      obtain ⟨g44, g45, h⟩ := h
      refine jLf.bk hc 6 [jA S l0 1, ¬ jR S l0 0 = none] [some (.ref l0), some (.ref l1), some (.int l2), some (.int l3), some (.null), some (.int l5), some (.int l6), some (.int l7)] [.int l3, .int l7, .int l2, .ref l1, .ref (jr S l0 0)] S rfl rfl rfl ⟨g44, g45⟩ ?_
      obtain ⟨g48, h⟩ := h
      refine jLf.inv hc _ rfl (gs := [jA S (jr S l0 0) 0, (([] : List Value).map fun v => v.category).sum ≤ 8, 0 ≤ 0, 0 ≤ 0]) (k := 2) (args := [.ref (jr S l0 0), .ref l1, .int l2, .int l7, .int l3]) (r := []) (a := 0) (b := 0) rfl ⟨g48, Nat.le_of_ble_eq_true rfl, Nat.zero_le _, Nat.zero_le _⟩ (vX0_aboutBoat d (by omega) h) ?_
      rintro v S46 ⟨rfl, h⟩
      show jLf (jCall jmt jbud d) jbud (fun j => (jmt j).rk) none mX1_learnFrom (jqV Q) (50, [some (.ref l0), some (.ref l1), some (.int l2), some (.int l3), some (.null), some (.int l5), some (.int l6), some (.int l7)], [], S46, 0, 0)
      refine jLf.bk hc 2 [] [some (.ref l0), some (.ref l1), some (.int l2), some (.int l3), some (.null), some (.int l5), some (.int l6), some (.int l7)] [.int l2, .int l7] S46 rfl rfl rfl trivial ?_
      refine jLf.two hc _ rfl (gs := []) (p1 := l7 = l2) (p2 := ¬ (l7 = l2)) (c1 := (64, [some (.ref l0), some (.ref l1), some (.int l2), some (.int l3), some (.null), some (.int l5), some (.int l6), some (.int l7)], [], S46, 0, 0)) (c2 := (53, [some (.ref l0), some (.ref l1), some (.int l2), some (.int l3), some (.null), some (.int l5), some (.int l6), some (.int l7)], [], S46, 0, 0)) rfl trivial (fun hz => ?_) (fun hz => ?_)
      · have h := h.1 hz
        exact tX1_learnFrom_64v8 d hd hX37 h
      · have h := h.2 hz
        obtain ⟨g50, g51, h⟩ := h
        refine jLf.bk hc 3 [jA S46 l0 1, ¬ jR S46 l0 0 = none] [some (.ref l0), some (.ref l1), some (.int l2), some (.int l3), some (.null), some (.int l5), some (.int l6), some (.int l7)] [.null, .ref (jr S46 l0 0)] S46 rfl rfl rfl ⟨g50, g51⟩ ?_
        obtain ⟨g54, h⟩ := h
        refine jLf.inv hc _ rfl (gs := [jA S46 (jr S46 l0 0) 0, (([] : List Value).map fun v => v.category).sum ≤ 8, 0 ≤ 0, 0 ≤ 0]) (k := 4) (args := [.ref (jr S46 l0 0), .null]) (r := []) (a := 0) (b := 0) rfl ⟨g54, Nat.le_of_ble_eq_true rfl, Nat.zero_le _, Nat.zero_le _⟩ (vX0_isBarred d (by omega) h) ?_
        rintro v S52 ⟨r53, rfl, h⟩
        show jLf (jCall jmt jbud d) jbud (fun j => (jmt j).rk) none mX1_learnFrom (jqV Q) (57, [some (.ref l0), some (.ref l1), some (.int l2), some (.int l3), some (.null), some (.int l5), some (.int l6), some (.int l7)], [.int r53], S52, 0, 0)
        refine jLf.two hc _ rfl (gs := []) (p1 := ¬ r53 = 0) (p2 := ¬ (¬ r53 = 0)) (c1 := (64, [some (.ref l0), some (.ref l1), some (.int l2), some (.int l3), some (.null), some (.int l5), some (.int l6), some (.int l7)], [], S52, 0, 0)) (c2 := (58, [some (.ref l0), some (.ref l1), some (.int l2), some (.int l3), some (.null), some (.int l5), some (.int l6), some (.int l7)], [], S52, 0, 0)) rfl trivial (fun hz => ?_) (fun hz => ?_)
        · have h := h.1 hz
          exact tX1_learnFrom_64v8 d hd hX37 h
        · have h := h.2 (Classical.not_not.mp hz)
          refine jLf.bk hc 6 [] [some (.ref l0), some (.ref l1), some (.int l2), some (.int l3), some (.null), some (.int l5), some (.int (l6 ||| ((1 : Int32) <<< (l7 &&& 31)))), some (.int l7)] [] S52 rfl rfl rfl trivial ?_
          generalize ex55 : (l6 ||| ((1 : Int32) <<< (l7 &&& 31)) : Int32) = x55
          have h := h x55 ex55.symm
          exact tX1_learnFrom_64v8 d hd hX37 h
def wX1_learnFrom_37v7   (l0 : Nat) (l1 : Nat) (l2 : Int32) (l3 : Int32) (l5 : Int32) (l6 : Int32) (l7 : Int32) (S : JS) (Q : JS → Prop) : Prop :=
  jLoop (fun (X37 : Nat × Nat × Int32 × Int32 × Int32 × Int32 × Int32 × JS → Prop) q => bX1_learnFrom_37v7 (fun l0 l1 l2 l3 l5 l6 l7 S => X37 (l0, l1, l2, l3, l5, l6, l7, S)) q.1 q.2.1 q.2.2.1 q.2.2.2.1 q.2.2.2.2.1 q.2.2.2.2.2.1 q.2.2.2.2.2.2.1 q.2.2.2.2.2.2.2 Q) (l0, l1, l2, l3, l5, l6, l7, S)
set_option maxRecDepth 20000 in
theorem tX1_learnFrom_37v7 {Q : JS → Prop}  (d : Nat) (hd : 3 ≤ d) {l0 : Nat} {l1 : Nat} {l2 : Int32} {l3 : Int32} {l5 : Int32} {l6 : Int32} {l7 : Int32} {S : JS} (h : wX1_learnFrom_37v7 l0 l1 l2 l3 l5 l6 l7 S Q) : jLf (jCall jmt jbud d) jbud (fun j => (jmt j).rk) none mX1_learnFrom (jqV Q) (37, [some (.ref l0), some (.ref l1), some (.int l2), some (.int l3), some (.null), some (.int l5), some (.int l6), some (.int l7)], [], S, 0, 0) := by
  have := h (fun q : Nat × Nat × Int32 × Int32 × Int32 × Int32 × Int32 × JS => jLf (jCall jmt jbud d) jbud (fun j => (jmt j).rk) none mX1_learnFrom (jqV Q) (37, [some (.ref (q.1)), some (.ref (q.2.1)), some (.int (q.2.2.1)), some (.int (q.2.2.2.1)), some (.null), some (.int (q.2.2.2.2.1)), some (.int (q.2.2.2.2.2.1)), some (.int (q.2.2.2.2.2.2.1))], [], q.2.2.2.2.2.2.2, 0, 0)) (fun q R hb hR => uX1_learnFrom_37v7 d hd  (fun _ _ _ _ _ _ _ _ => hR _) hb)
  exact this
def wX1_learnFrom_32v6   (l0 : Nat) (l1 : Nat) (l2 : Int32) (l3 : Int32) (s0 : Int32) (S : JS) (Q : JS → Prop) : Prop :=
  wX1_learnFrom_37v7 l0 l1 l2 l3 s0 0 0 S Q
set_option maxRecDepth 20000 in
theorem tX1_learnFrom_32v6 {Q : JS → Prop}  (d : Nat) (hd : 3 ≤ d) {l0 : Nat} {l1 : Nat} {l2 : Int32} {l3 : Int32} {s0 : Int32} {S : JS} (h : wX1_learnFrom_32v6 l0 l1 l2 l3 s0 S Q) : jLf (jCall jmt jbud d) jbud (fun j => (jmt j).rk) none mX1_learnFrom (jqV Q) (32, [some (.ref l0), some (.ref l1), some (.int l2), some (.int l3), some (.null), none, none, none], [.int s0], S, 0, 0) := by
  have hc := jCall_mono jmt jbud d
  unfold wX1_learnFrom_32v6 at h
  refine jLf.bk hc 5 [] [some (.ref l0), some (.ref l1), some (.int l2), some (.int l3), some (.null), some (.int s0), some (.int 0), some (.int 0)] [] S rfl rfl rfl trivial ?_
  exact tX1_learnFrom_37v7 d hd  h
def wX1_learnFrom_29v5   (l0 : Nat) (l1 : Nat) (l2 : Int32) (l3 : Int32) (S : JS) (Q : JS → Prop) : Prop :=
  wX1_learnFrom_32v6 l0 l1 l2 l3 1 S Q
set_option maxRecDepth 20000 in
theorem tX1_learnFrom_29v5 {Q : JS → Prop}  (d : Nat) (hd : 3 ≤ d) {l0 : Nat} {l1 : Nat} {l2 : Int32} {l3 : Int32} {S : JS} (h : wX1_learnFrom_29v5 l0 l1 l2 l3 S Q) : jLf (jCall jmt jbud d) jbud (fun j => (jmt j).rk) none mX1_learnFrom (jqV Q) (29, [some (.ref l0), some (.ref l1), some (.int l2), some (.int l3), some (.null), none, none, none], [], S, 0, 0) := by
  have hc := jCall_mono jmt jbud d
  unfold wX1_learnFrom_29v5 at h
  refine jLf.bk hc 1 [] [some (.ref l0), some (.ref l1), some (.int l2), some (.int l3), some (.null), none, none, none] [.int 1] S rfl rfl rfl trivial ?_
  refine jLf.one hc _ rfl (gs := []) (c := (32, [some (.ref l0), some (.ref l1), some (.int l2), some (.int l3), some (.null), none, none, none], [.int 1], S, 0, 0)) rfl trivial ?_
  exact tX1_learnFrom_32v6 d hd  h
def wX1_learnFrom  (this : Nat) (p1 : Nat) (p2 : Int32) (p3 : Int32) (S : JS) (Q : JS → Prop) : Prop :=
  jA S this 1 ∧ (¬ jR S this 1 = none ∧ (wX11_placeOf p2 p3 S (fun r4 S3 => jA S3 (jr S this 1) 13 ∧ (vp_in r4 (jZ S3 (jr S this 1)) ∧ (((jI S3 (jr S this 1) r4.toNatClampNeg) = (-1) → jA S3 p1 9 ∧ (wX9_ruling p1 S3 (fun o39 S7 => (o39 = none → jA S7 p1 9 ∧ (wX9_hasRock p1 p2 S7 (fun r41 S40 => (r41 = 0 → wX1_learnFrom_29v5 this p1 p2 p3 S40 Q) ∧ (¬ r41 = 0 → (59 ≤ p3 → wX1_learnFrom_29v5 this p1 p2 p3 S40 Q) ∧ (¬ (59 ≤ p3) → jA S40 p1 9 ∧ (wX9_stormOn p1 p3 S40 (fun r57 S56 => (r57 = 1 → wX1_learnFrom_29v5 this p1 p2 p3 S56 Q) ∧ (¬ r57 = 1 → jA S56 p1 9 ∧ (wX9_isWeddingOn p1 p2 p3 S56 (fun r60 S59 => (r60 = 0 → wX1_learnFrom_32v6 this p1 p2 p3 0 S59 Q) ∧ (¬ r60 = 0 → wX1_learnFrom_29v5 this p1 p2 p3 S59 Q))))))))))) ∧ (∀ r8 : Nat, o39 = some r8 → jA S7 p1 9 ∧ (wX9_hasRock p1 p2 S7 (fun r11 S10 => (r11 = 0 → wX1_learnFrom_29 this p1 p2 p3 r8 S10 Q) ∧ (¬ r11 = 0 → (59 ≤ p3 → wX1_learnFrom_29 this p1 p2 p3 r8 S10 Q) ∧ (¬ (59 ≤ p3) → jA S10 p1 9 ∧ (wX9_stormOn p1 p3 S10 (fun r34 S33 => (r34 = 1 → wX1_learnFrom_29 this p1 p2 p3 r8 S33 Q) ∧ (¬ r34 = 1 → jA S33 p1 9 ∧ (wX9_isWeddingOn p1 p2 p3 S33 (fun r37 S36 => (r37 = 0 → wX1_learnFrom_32 this p1 p2 p3 r8 0 S36 Q) ∧ (¬ r37 = 0 → wX1_learnFrom_29 this p1 p2 p3 r8 S36 Q)))))))))))))) ∧ (¬ (jI S3 (jr S this 1) r4.toNatClampNeg) = (-1) → Q S3))))))
set_option maxRecDepth 20000 in
theorem vX1_learnFrom {Q : JS → Prop} (d : Nat) (hd : 4 ≤ d) {this : Nat} {p1 : Nat} {p2 : Int32} {p3 : Int32} {S : JS} (h : wX1_learnFrom this p1 p2 p3 S Q) : jCall jmt jbud d 11 [.ref this, .ref p1, .int p2, .int p3] S (jqV Q) := by
  obtain ⟨d, rfl⟩ : ∃ d2, d = d2 + 1 := ⟨d - 1, by omega⟩
  have hd : 3 ≤ d := by omega
  have hc := jCall_mono jmt jbud d
  unfold wX1_learnFrom at h
  refine ⟨Nat.le_of_ble_eq_true rfl, ?_⟩
  show jLf (jCall jmt jbud d) jbud (fun j => (jmt j).rk) none mX1_learnFrom (jqV Q) (0, [some (.ref this), some (.ref p1), some (.int p2), some (.int p3), none, none, none, none], [], S, 0, 0)
  obtain ⟨g1, g2, h⟩ := h
  refine jLf.bk hc 4 [jA S this 1, ¬ jR S this 1 = none] [some (.ref this), some (.ref p1), some (.int p2), some (.int p3), none, none, none, none] [.int p3, .int p2, .ref (jr S this 1)] S rfl rfl rfl ⟨g1, g2⟩ ?_
  refine jLf.inv hc _ rfl (gs := [2 ≤ ([.int p3, .int p2, .ref (jr S this 1)] : List Value).length, (([.ref (jr S this 1)] : List Value).map fun v => v.category).sum ≤ 8, 0 ≤ 0, 0 ≤ 0]) (k := 146) (args := [.int p2, .int p3]) (r := [.ref (jr S this 1)]) (a := 0) (b := 0) rfl ⟨Nat.le_of_ble_eq_true rfl, Nat.le_of_ble_eq_true rfl, Nat.zero_le _, Nat.zero_le _⟩ (vX11_placeOf d (by omega) h) ?_
  rintro v S3 ⟨r4, rfl, h⟩
  show jLf (jCall jmt jbud d) jbud (fun j => (jmt j).rk) none mX1_learnFrom (jqV Q) (5, [some (.ref this), some (.ref p1), some (.int p2), some (.int p3), none, none, none, none], [.int r4, .ref (jr S this 1)], S3, 0, 0)
  obtain ⟨g5, g6, h⟩ := h
  refine jLf.bk hc 2 [jA S3 (jr S this 1) 13, vp_in r4 (jZ S3 (jr S this 1))] [some (.ref this), some (.ref p1), some (.int p2), some (.int p3), none, none, none, none] [.int (-1), .int (jI S3 (jr S this 1) r4.toNatClampNeg)] S3 rfl rfl rfl ⟨g5, g6⟩ ?_
  refine jLf.two hc _ rfl (gs := []) (p1 := (jI S3 (jr S this 1) r4.toNatClampNeg) = (-1)) (p2 := ¬ ((jI S3 (jr S this 1) r4.toNatClampNeg) = (-1))) (c1 := (9, [some (.ref this), some (.ref p1), some (.int p2), some (.int p3), none, none, none, none], [], S3, 0, 0)) (c2 := (8, [some (.ref this), some (.ref p1), some (.int p2), some (.int p3), none, none, none, none], [], S3, 0, 0)) rfl trivial (fun hz => ?_) (fun hz => ?_)
  · have h := h.1 hz
    refine jLf.bk hc 1 [] [some (.ref this), some (.ref p1), some (.int p2), some (.int p3), none, none, none, none] [.ref p1] S3 rfl rfl rfl trivial ?_
    obtain ⟨g9, h⟩ := h
    refine jLf.inv hc _ rfl (gs := [jA S3 p1 9, (([] : List Value).map fun v => v.category).sum ≤ 8, 0 ≤ 0, 0 ≤ 0]) (k := 92) (args := [.ref p1]) (r := []) (a := 0) (b := 0) rfl ⟨g9, Nat.le_of_ble_eq_true rfl, Nat.zero_le _, Nat.zero_le _⟩ (vX9_ruling d (by omega) h) ?_
    rintro v S7 ⟨o39, rfl, h⟩
    cases o39 with
    | none =>
      have h := h.1 rfl
      show jLf (jCall jmt jbud d) jbud (fun j => (jmt j).rk) none mX1_learnFrom (jqV Q) (11, [some (.ref this), some (.ref p1), some (.int p2), some (.int p3), none, none, none, none], [.null], S7, 0, 0)
      refine jLf.bk hc 3 [] [some (.ref this), some (.ref p1), some (.int p2), some (.int p3), some (.null), none, none, none] [.int p2, .ref p1] S7 rfl rfl rfl trivial ?_
      obtain ⟨g42, h⟩ := h
      refine jLf.inv hc _ rfl (gs := [jA S7 p1 9, (([] : List Value).map fun v => v.category).sum ≤ 8, 0 ≤ 0, 0 ≤ 0]) (k := 87) (args := [.ref p1, .int p2]) (r := []) (a := 0) (b := 0) rfl ⟨g42, Nat.le_of_ble_eq_true rfl, Nat.zero_le _, Nat.zero_le _⟩ (vX9_hasRock d (by omega) h) ?_
      rintro v S40 ⟨r41, rfl, h⟩
      show jLf (jCall jmt jbud d) jbud (fun j => (jmt j).rk) none mX1_learnFrom (jqV Q) (15, [some (.ref this), some (.ref p1), some (.int p2), some (.int p3), some (.null), none, none, none], [.int r41], S40, 0, 0)
      refine jLf.two hc _ rfl (gs := []) (p1 := r41 = 0) (p2 := ¬ (r41 = 0)) (c1 := (29, [some (.ref this), some (.ref p1), some (.int p2), some (.int p3), some (.null), none, none, none], [], S40, 0, 0)) (c2 := (16, [some (.ref this), some (.ref p1), some (.int p2), some (.int p3), some (.null), none, none, none], [], S40, 0, 0)) rfl trivial (fun hz => ?_) (fun hz => ?_)
      · have h := h.1 hz
        exact tX1_learnFrom_29v5 d hd  h
      · have h := h.2 hz
        refine jLf.bk hc 2 [] [some (.ref this), some (.ref p1), some (.int p2), some (.int p3), some (.null), none, none, none] [.int 59, .int p3] S40 rfl rfl rfl trivial ?_
        refine jLf.two hc _ rfl (gs := []) (p1 := 59 ≤ p3) (p2 := ¬ (59 ≤ p3)) (c1 := (29, [some (.ref this), some (.ref p1), some (.int p2), some (.int p3), some (.null), none, none, none], [], S40, 0, 0)) (c2 := (19, [some (.ref this), some (.ref p1), some (.int p2), some (.int p3), some (.null), none, none, none], [], S40, 0, 0)) rfl trivial (fun hz => ?_) (fun hz => ?_)
        · have h := h.1 hz
          exact tX1_learnFrom_29v5 d hd  h
        · have h := h.2 hz
          refine jLf.bk hc 2 [] [some (.ref this), some (.ref p1), some (.int p2), some (.int p3), some (.null), none, none, none] [.int p3, .ref p1] S40 rfl rfl rfl trivial ?_
          obtain ⟨g58, h⟩ := h
          refine jLf.inv hc _ rfl (gs := [jA S40 p1 9, (([] : List Value).map fun v => v.category).sum ≤ 8, 0 ≤ 0, 0 ≤ 0]) (k := 89) (args := [.ref p1, .int p3]) (r := []) (a := 0) (b := 0) rfl ⟨g58, Nat.le_of_ble_eq_true rfl, Nat.zero_le _, Nat.zero_le _⟩ (vX9_stormOn d (by omega) h) ?_
          rintro v S56 ⟨r57, rfl, h⟩
          show jLf (jCall jmt jbud d) jbud (fun j => (jmt j).rk) none mX1_learnFrom (jqV Q) (22, [some (.ref this), some (.ref p1), some (.int p2), some (.int p3), some (.null), none, none, none], [.int r57], S56, 0, 0)
          refine jLf.bk hc 1 [] [some (.ref this), some (.ref p1), some (.int p2), some (.int p3), some (.null), none, none, none] [.int 1, .int r57] S56 rfl rfl rfl trivial ?_
          refine jLf.two hc _ rfl (gs := []) (p1 := r57 = 1) (p2 := ¬ (r57 = 1)) (c1 := (29, [some (.ref this), some (.ref p1), some (.int p2), some (.int p3), some (.null), none, none, none], [], S56, 0, 0)) (c2 := (24, [some (.ref this), some (.ref p1), some (.int p2), some (.int p3), some (.null), none, none, none], [], S56, 0, 0)) rfl trivial (fun hz => ?_) (fun hz => ?_)
          · have h := h.1 hz
            exact tX1_learnFrom_29v5 d hd  h
          · have h := h.2 hz
            refine jLf.bk hc 3 [] [some (.ref this), some (.ref p1), some (.int p2), some (.int p3), some (.null), none, none, none] [.int p3, .int p2, .ref p1] S56 rfl rfl rfl trivial ?_
            obtain ⟨g61, h⟩ := h
            refine jLf.inv hc _ rfl (gs := [jA S56 p1 9, (([] : List Value).map fun v => v.category).sum ≤ 8, 0 ≤ 0, 0 ≤ 0]) (k := 91) (args := [.ref p1, .int p2, .int p3]) (r := []) (a := 0) (b := 0) rfl ⟨g61, Nat.le_of_ble_eq_true rfl, Nat.zero_le _, Nat.zero_le _⟩ (vX9_isWeddingOn d (by omega) h) ?_
            rintro v S59 ⟨r60, rfl, h⟩
            show jLf (jCall jmt jbud d) jbud (fun j => (jmt j).rk) none mX1_learnFrom (jqV Q) (28, [some (.ref this), some (.ref p1), some (.int p2), some (.int p3), some (.null), none, none, none], [.int r60], S59, 0, 0)
            refine jLf.two hc _ rfl (gs := []) (p1 := r60 = 0) (p2 := ¬ (r60 = 0)) (c1 := (31, [some (.ref this), some (.ref p1), some (.int p2), some (.int p3), some (.null), none, none, none], [], S59, 0, 0)) (c2 := (29, [some (.ref this), some (.ref p1), some (.int p2), some (.int p3), some (.null), none, none, none], [], S59, 0, 0)) rfl trivial (fun hz => ?_) (fun hz => ?_)
            · have h := h.1 hz
              refine jLf.bk hc 1 [] [some (.ref this), some (.ref p1), some (.int p2), some (.int p3), some (.null), none, none, none] [.int 0] S59 rfl rfl rfl trivial ?_
              exact tX1_learnFrom_32v6 d hd  h
            · have h := h.2 hz
              exact tX1_learnFrom_29v5 d hd  h
    | some r8 =>
      have h := h.2 r8 rfl
      show jLf (jCall jmt jbud d) jbud (fun j => (jmt j).rk) none mX1_learnFrom (jqV Q) (11, [some (.ref this), some (.ref p1), some (.int p2), some (.int p3), none, none, none, none], [.ref r8], S7, 0, 0)
      refine jLf.bk hc 3 [] [some (.ref this), some (.ref p1), some (.int p2), some (.int p3), some (.ref r8), none, none, none] [.int p2, .ref p1] S7 rfl rfl rfl trivial ?_
      obtain ⟨g12, h⟩ := h
      refine jLf.inv hc _ rfl (gs := [jA S7 p1 9, (([] : List Value).map fun v => v.category).sum ≤ 8, 0 ≤ 0, 0 ≤ 0]) (k := 87) (args := [.ref p1, .int p2]) (r := []) (a := 0) (b := 0) rfl ⟨g12, Nat.le_of_ble_eq_true rfl, Nat.zero_le _, Nat.zero_le _⟩ (vX9_hasRock d (by omega) h) ?_
      rintro v S10 ⟨r11, rfl, h⟩
      show jLf (jCall jmt jbud d) jbud (fun j => (jmt j).rk) none mX1_learnFrom (jqV Q) (15, [some (.ref this), some (.ref p1), some (.int p2), some (.int p3), some (.ref r8), none, none, none], [.int r11], S10, 0, 0)
      refine jLf.two hc _ rfl (gs := []) (p1 := r11 = 0) (p2 := ¬ (r11 = 0)) (c1 := (29, [some (.ref this), some (.ref p1), some (.int p2), some (.int p3), some (.ref r8), none, none, none], [], S10, 0, 0)) (c2 := (16, [some (.ref this), some (.ref p1), some (.int p2), some (.int p3), some (.ref r8), none, none, none], [], S10, 0, 0)) rfl trivial (fun hz => ?_) (fun hz => ?_)
      · have h := h.1 hz
        exact tX1_learnFrom_29 d hd  h
      · have h := h.2 hz
        refine jLf.bk hc 2 [] [some (.ref this), some (.ref p1), some (.int p2), some (.int p3), some (.ref r8), none, none, none] [.int 59, .int p3] S10 rfl rfl rfl trivial ?_
        refine jLf.two hc _ rfl (gs := []) (p1 := 59 ≤ p3) (p2 := ¬ (59 ≤ p3)) (c1 := (29, [some (.ref this), some (.ref p1), some (.int p2), some (.int p3), some (.ref r8), none, none, none], [], S10, 0, 0)) (c2 := (19, [some (.ref this), some (.ref p1), some (.int p2), some (.int p3), some (.ref r8), none, none, none], [], S10, 0, 0)) rfl trivial (fun hz => ?_) (fun hz => ?_)
        · have h := h.1 hz
          exact tX1_learnFrom_29 d hd  h
        · have h := h.2 hz
          refine jLf.bk hc 2 [] [some (.ref this), some (.ref p1), some (.int p2), some (.int p3), some (.ref r8), none, none, none] [.int p3, .ref p1] S10 rfl rfl rfl trivial ?_
          obtain ⟨g35, h⟩ := h
          refine jLf.inv hc _ rfl (gs := [jA S10 p1 9, (([] : List Value).map fun v => v.category).sum ≤ 8, 0 ≤ 0, 0 ≤ 0]) (k := 89) (args := [.ref p1, .int p3]) (r := []) (a := 0) (b := 0) rfl ⟨g35, Nat.le_of_ble_eq_true rfl, Nat.zero_le _, Nat.zero_le _⟩ (vX9_stormOn d (by omega) h) ?_
          rintro v S33 ⟨r34, rfl, h⟩
          show jLf (jCall jmt jbud d) jbud (fun j => (jmt j).rk) none mX1_learnFrom (jqV Q) (22, [some (.ref this), some (.ref p1), some (.int p2), some (.int p3), some (.ref r8), none, none, none], [.int r34], S33, 0, 0)
          refine jLf.bk hc 1 [] [some (.ref this), some (.ref p1), some (.int p2), some (.int p3), some (.ref r8), none, none, none] [.int 1, .int r34] S33 rfl rfl rfl trivial ?_
          refine jLf.two hc _ rfl (gs := []) (p1 := r34 = 1) (p2 := ¬ (r34 = 1)) (c1 := (29, [some (.ref this), some (.ref p1), some (.int p2), some (.int p3), some (.ref r8), none, none, none], [], S33, 0, 0)) (c2 := (24, [some (.ref this), some (.ref p1), some (.int p2), some (.int p3), some (.ref r8), none, none, none], [], S33, 0, 0)) rfl trivial (fun hz => ?_) (fun hz => ?_)
          · have h := h.1 hz
            exact tX1_learnFrom_29 d hd  h
          · have h := h.2 hz
            refine jLf.bk hc 3 [] [some (.ref this), some (.ref p1), some (.int p2), some (.int p3), some (.ref r8), none, none, none] [.int p3, .int p2, .ref p1] S33 rfl rfl rfl trivial ?_
            obtain ⟨g38, h⟩ := h
            refine jLf.inv hc _ rfl (gs := [jA S33 p1 9, (([] : List Value).map fun v => v.category).sum ≤ 8, 0 ≤ 0, 0 ≤ 0]) (k := 91) (args := [.ref p1, .int p2, .int p3]) (r := []) (a := 0) (b := 0) rfl ⟨g38, Nat.le_of_ble_eq_true rfl, Nat.zero_le _, Nat.zero_le _⟩ (vX9_isWeddingOn d (by omega) h) ?_
            rintro v S36 ⟨r37, rfl, h⟩
            show jLf (jCall jmt jbud d) jbud (fun j => (jmt j).rk) none mX1_learnFrom (jqV Q) (28, [some (.ref this), some (.ref p1), some (.int p2), some (.int p3), some (.ref r8), none, none, none], [.int r37], S36, 0, 0)
            refine jLf.two hc _ rfl (gs := []) (p1 := r37 = 0) (p2 := ¬ (r37 = 0)) (c1 := (31, [some (.ref this), some (.ref p1), some (.int p2), some (.int p3), some (.ref r8), none, none, none], [], S36, 0, 0)) (c2 := (29, [some (.ref this), some (.ref p1), some (.int p2), some (.int p3), some (.ref r8), none, none, none], [], S36, 0, 0)) rfl trivial (fun hz => ?_) (fun hz => ?_)
            · have h := h.1 hz
              refine jLf.bk hc 1 [] [some (.ref this), some (.ref p1), some (.int p2), some (.int p3), some (.ref r8), none, none, none] [.int 0] S36 rfl rfl rfl trivial ?_
              exact tX1_learnFrom_32 d hd  h
            · have h := h.2 hz
              exact tX1_learnFrom_29 d hd  h
  · have h := h.2 hz
    exact jLf.ret hc _ rfl (gs := [jrt none none]) (v := none) rfl trivial ⟨rfl, h⟩
def bX1_learnAll_12  (X4 : Nat → Nat → Int32 → Int32 → JS → Prop) (X12 : Nat → Nat → Int32 → Int32 → Int32 → JS → Prop) (l0 : Nat) (l1 : Nat) (l3 : Int32) (l4 : Int32) (l5 : Int32) (S : JS) (Q : JS → Prop) : Prop :=
  (9 ≤ l5 → ∀ x2 : Int32, x2 = (l4 + 1) → (X4 l0 l1 l3 x2 S)) ∧ (¬ (9 ≤ l5) → jA S l0 1 ∧ (wX1_learnFrom l0 l1 l5 l4 S (fun S3 => ∀ x6 : Int32, x6 = (l5 + 1) → (X12 l0 l1 l3 l4 x6 S3))))
set_option maxRecDepth 20000 in
theorem uX1_learnAll_12 {Q : JS → Prop} {X4 : Nat → Nat → Int32 → Int32 → JS → Prop} (d : Nat) (hd : 4 ≤ d) (hX4 : ∀ l0 l1 l3 l4 S, X4 l0 l1 l3 l4 S → jLf (jCall jmt jbud d) jbud (fun j => (jmt j).rk) none mX1_learnAll (jqV Q) (4, [some (.ref l0), some (.ref l1), none, some (.int l3), some (.int l4), none], [], S, 0, 0)) {X12 : Nat → Nat → Int32 → Int32 → Int32 → JS → Prop} (hX12 : ∀ l0 l1 l3 l4 l5 S, X12 l0 l1 l3 l4 l5 S → jLf (jCall jmt jbud d) jbud (fun j => (jmt j).rk) none mX1_learnAll (jqV Q) (12, [some (.ref l0), some (.ref l1), none, some (.int l3), some (.int l4), some (.int l5)], [], S, 0, 0)) {l0 : Nat} {l1 : Nat} {l3 : Int32} {l4 : Int32} {l5 : Int32} {S : JS} (h : bX1_learnAll_12 X4 X12 l0 l1 l3 l4 l5 S Q) : jLf (jCall jmt jbud d) jbud (fun j => (jmt j).rk) none mX1_learnAll (jqV Q) (12, [some (.ref l0), some (.ref l1), none, some (.int l3), some (.int l4), some (.int l5)], [], S, 0, 0) := by
  have hc := jCall_mono jmt jbud d
  unfold bX1_learnAll_12 at h
  refine jLf.bk hc 2 [] [some (.ref l0), some (.ref l1), none, some (.int l3), some (.int l4), some (.int l5)] [.int 9, .int l5] S rfl rfl rfl trivial ?_
  refine jLf.two hc _ rfl (gs := []) (p1 := 9 ≤ l5) (p2 := ¬ (9 ≤ l5)) (c1 := (22, [some (.ref l0), some (.ref l1), none, some (.int l3), some (.int l4), some (.int l5)], [], S, 0, 0)) (c2 := (15, [some (.ref l0), some (.ref l1), none, some (.int l3), some (.int l4), some (.int l5)], [], S, 0, 0)) rfl trivial (fun hz => ?_) (fun hz => ?_)
  · have h := h.1 hz
    refine jLf.bk hc 1 [] [some (.ref l0), some (.ref l1), none, some (.int l3), some (.int (l4 + 1)), some (.int l5)] [] S rfl rfl rfl trivial ?_
    generalize ex2 : (l4 + 1 : Int32) = x2
    have h := h x2 ex2.symm
    refine jLf.one hc _ rfl (gs := []) (c := (4, [some (.ref l0), some (.ref l1), none, some (.int l3), some (.int x2), some (.int l5)], [], S, 0, 0)) rfl trivial ?_
    refine jLf.sub [some (.ref l0), some (.ref l1), none, some (.int l3), some (.int x2), none] (jle_same (jle_same (jle_same (jle_same (jle_same (jle_none (jle_nil _))))))) ?_
    exact hX4 _ _ _ _ _ h
  · have h := h.2 hz
    refine jLf.bk hc 4 [] [some (.ref l0), some (.ref l1), none, some (.int l3), some (.int l4), some (.int l5)] [.int l4, .int l5, .ref l1, .ref l0] S rfl rfl rfl trivial ?_
    obtain ⟨g5, h⟩ := h
    refine jLf.inv hc _ rfl (gs := [jA S l0 1, (([] : List Value).map fun v => v.category).sum ≤ 8, 0 ≤ 0, 0 ≤ 0]) (k := 11) (args := [.ref l0, .ref l1, .int l5, .int l4]) (r := []) (a := 0) (b := 0) rfl ⟨g5, Nat.le_of_ble_eq_true rfl, Nat.zero_le _, Nat.zero_le _⟩ (vX1_learnFrom d (by omega) h) ?_
    rintro v S3 ⟨rfl, h⟩
    show jLf (jCall jmt jbud d) jbud (fun j => (jmt j).rk) none mX1_learnAll (jqV Q) (20, [some (.ref l0), some (.ref l1), none, some (.int l3), some (.int l4), some (.int l5)], [], S3, 0, 0)
    refine jLf.bk hc 1 [] [some (.ref l0), some (.ref l1), none, some (.int l3), some (.int l4), some (.int (l5 + 1))] [] S3 rfl rfl rfl trivial ?_
    generalize ex6 : (l5 + 1 : Int32) = x6
    have h := h x6 ex6.symm
    refine jLf.one hc _ rfl (gs := []) (c := (12, [some (.ref l0), some (.ref l1), none, some (.int l3), some (.int l4), some (.int x6)], [], S3, 0, 0)) rfl trivial ?_
    exact hX12 _ _ _ _ _ _ h
def wX1_learnAll_12  (X4 : Nat → Nat → Int32 → Int32 → JS → Prop) (l0 : Nat) (l1 : Nat) (l3 : Int32) (l4 : Int32) (l5 : Int32) (S : JS) (Q : JS → Prop) : Prop :=
  jLoop (fun (X12 : Nat × Nat × Int32 × Int32 × Int32 × JS → Prop) q => bX1_learnAll_12 X4 (fun l0 l1 l3 l4 l5 S => X12 (l0, l1, l3, l4, l5, S)) q.1 q.2.1 q.2.2.1 q.2.2.2.1 q.2.2.2.2.1 q.2.2.2.2.2 Q) (l0, l1, l3, l4, l5, S)
set_option maxRecDepth 20000 in
theorem tX1_learnAll_12 {Q : JS → Prop} {X4 : Nat → Nat → Int32 → Int32 → JS → Prop} (d : Nat) (hd : 4 ≤ d) (hX4 : ∀ l0 l1 l3 l4 S, X4 l0 l1 l3 l4 S → jLf (jCall jmt jbud d) jbud (fun j => (jmt j).rk) none mX1_learnAll (jqV Q) (4, [some (.ref l0), some (.ref l1), none, some (.int l3), some (.int l4), none], [], S, 0, 0)) {l0 : Nat} {l1 : Nat} {l3 : Int32} {l4 : Int32} {l5 : Int32} {S : JS} (h : wX1_learnAll_12 X4 l0 l1 l3 l4 l5 S Q) : jLf (jCall jmt jbud d) jbud (fun j => (jmt j).rk) none mX1_learnAll (jqV Q) (12, [some (.ref l0), some (.ref l1), none, some (.int l3), some (.int l4), some (.int l5)], [], S, 0, 0) := by
  have := h (fun q : Nat × Nat × Int32 × Int32 × Int32 × JS => jLf (jCall jmt jbud d) jbud (fun j => (jmt j).rk) none mX1_learnAll (jqV Q) (12, [some (.ref (q.1)), some (.ref (q.2.1)), none, some (.int (q.2.2.1)), some (.int (q.2.2.2.1)), some (.int (q.2.2.2.2.1))], [], q.2.2.2.2.2, 0, 0)) (fun q R hb hR => uX1_learnAll_12 d hd hX4 (fun _ _ _ _ _ _ => hR _) hb)
  exact this
def bX1_learnAll_4   (X4 : Nat → Nat → Int32 → Int32 → JS → Prop) (l0 : Nat) (l1 : Nat) (l3 : Int32) (l4 : Int32) (S : JS) (Q : JS → Prop) : Prop :=
  (l3 < l4 → Q S) ∧ (¬ (l3 < l4) → (60 ≤ l4 → Q S) ∧ (¬ (60 ≤ l4) → wX1_learnAll_12 X4 l0 l1 l3 l4 0 S Q))
set_option maxRecDepth 20000 in
theorem uX1_learnAll_4 {Q : JS → Prop}  (d : Nat) (hd : 4 ≤ d) {X4 : Nat → Nat → Int32 → Int32 → JS → Prop} (hX4 : ∀ l0 l1 l3 l4 S, X4 l0 l1 l3 l4 S → jLf (jCall jmt jbud d) jbud (fun j => (jmt j).rk) none mX1_learnAll (jqV Q) (4, [some (.ref l0), some (.ref l1), none, some (.int l3), some (.int l4), none], [], S, 0, 0)) {l0 : Nat} {l1 : Nat} {l3 : Int32} {l4 : Int32} {S : JS} (h : bX1_learnAll_4 X4 l0 l1 l3 l4 S Q) : jLf (jCall jmt jbud d) jbud (fun j => (jmt j).rk) none mX1_learnAll (jqV Q) (4, [some (.ref l0), some (.ref l1), none, some (.int l3), some (.int l4), none], [], S, 0, 0) := by
  have hc := jCall_mono jmt jbud d
  unfold bX1_learnAll_4 at h
  refine jLf.bk hc 2 [] [some (.ref l0), some (.ref l1), none, some (.int l3), some (.int l4), none] [.int l3, .int l4] S rfl rfl rfl trivial ?_
  refine jLf.two hc _ rfl (gs := []) (p1 := l3 < l4) (p2 := ¬ (l3 < l4)) (c1 := (24, [some (.ref l0), some (.ref l1), none, some (.int l3), some (.int l4), none], [], S, 0, 0)) (c2 := (7, [some (.ref l0), some (.ref l1), none, some (.int l3), some (.int l4), none], [], S, 0, 0)) rfl trivial (fun hz => ?_) (fun hz => ?_)
  · have h := h.1 hz
    exact jLf.ret hc _ rfl (gs := [jrt none none]) (v := none) rfl trivial ⟨rfl, h⟩
  · have h := h.2 hz
    refine jLf.bk hc 2 [] [some (.ref l0), some (.ref l1), none, some (.int l3), some (.int l4), none] [.int 60, .int l4] S rfl rfl rfl trivial ?_
    refine jLf.two hc _ rfl (gs := []) (p1 := 60 ≤ l4) (p2 := ¬ (60 ≤ l4)) (c1 := (24, [some (.ref l0), some (.ref l1), none, some (.int l3), some (.int l4), none], [], S, 0, 0)) (c2 := (10, [some (.ref l0), some (.ref l1), none, some (.int l3), some (.int l4), none], [], S, 0, 0)) rfl trivial (fun hz => ?_) (fun hz => ?_)
    · have h := h.1 hz
      exact jLf.ret hc _ rfl (gs := [jrt none none]) (v := none) rfl trivial ⟨rfl, h⟩
    · have h := h.2 hz
      refine jLf.bk hc 2 [] [some (.ref l0), some (.ref l1), none, some (.int l3), some (.int l4), some (.int 0)] [] S rfl rfl rfl trivial ?_
      exact tX1_learnAll_12 d hd hX4 h
def wX1_learnAll_4   (l0 : Nat) (l1 : Nat) (l3 : Int32) (l4 : Int32) (S : JS) (Q : JS → Prop) : Prop :=
  jLoop (fun (X4 : Nat × Nat × Int32 × Int32 × JS → Prop) q => bX1_learnAll_4 (fun l0 l1 l3 l4 S => X4 (l0, l1, l3, l4, S)) q.1 q.2.1 q.2.2.1 q.2.2.2.1 q.2.2.2.2 Q) (l0, l1, l3, l4, S)
set_option maxRecDepth 20000 in
theorem tX1_learnAll_4 {Q : JS → Prop}  (d : Nat) (hd : 4 ≤ d) {l0 : Nat} {l1 : Nat} {l3 : Int32} {l4 : Int32} {S : JS} (h : wX1_learnAll_4 l0 l1 l3 l4 S Q) : jLf (jCall jmt jbud d) jbud (fun j => (jmt j).rk) none mX1_learnAll (jqV Q) (4, [some (.ref l0), some (.ref l1), none, some (.int l3), some (.int l4), none], [], S, 0, 0) := by
  have := h (fun q : Nat × Nat × Int32 × Int32 × JS => jLf (jCall jmt jbud d) jbud (fun j => (jmt j).rk) none mX1_learnAll (jqV Q) (4, [some (.ref (q.1)), some (.ref (q.2.1)), none, some (.int (q.2.2.1)), some (.int (q.2.2.2.1)), none], [], q.2.2.2.2, 0, 0)) (fun q R hb hR => uX1_learnAll_4 d hd  (fun _ _ _ _ _ => hR _) hb)
  exact this
def wX1_learnAll  (this : Nat) (p1 : Nat) (p2 : Int32) (p3 : Int32) (S : JS) (Q : JS → Prop) : Prop :=
  ∀ x1 : Int32, x1 = (if (0 : Int32) < p2 then p2 else (0 : Int32)) → (wX1_learnAll_4 this p1 p3 x1 S Q)
set_option maxRecDepth 20000 in
theorem vX1_learnAll {Q : JS → Prop} (d : Nat) (hd : 5 ≤ d) {this : Nat} {p1 : Nat} {p2 : Int32} {p3 : Int32} {S : JS} (h : wX1_learnAll this p1 p2 p3 S Q) : jCall jmt jbud d 10 [.ref this, .ref p1, .int p2, .int p3] S (jqV Q) := by
  obtain ⟨d, rfl⟩ : ∃ d2, d = d2 + 1 := ⟨d - 1, by omega⟩
  have hd : 4 ≤ d := by omega
  have hc := jCall_mono jmt jbud d
  unfold wX1_learnAll at h
  refine ⟨Nat.le_of_ble_eq_true rfl, ?_⟩
  show jLf (jCall jmt jbud d) jbud (fun j => (jmt j).rk) none mX1_learnAll (jqV Q) (0, [some (.ref this), some (.ref p1), some (.int p2), some (.int p3), none, none], [], S, 0, 0)
  refine jLf.bk hc 4 [(([] : List Value).map fun v => v.category).sum ≤ 8] [some (.ref this), some (.ref p1), some (.int p2), some (.int p3), some (.int (if (0 : Int32) < p2 then p2 else (0 : Int32))), none] [] S rfl rfl rfl (Nat.le_of_ble_eq_true rfl) ?_
  generalize ex1 : (if (0 : Int32) < p2 then p2 else (0 : Int32) : Int32) = x1
  have h := h x1 ex1.symm
  refine jLf.sub [some (.ref this), some (.ref p1), none, some (.int p3), some (.int x1), none] (jle_same (jle_same (jle_none (jle_same (jle_same (jle_same (jle_nil _))))))) ?_
  exact tX1_learnAll_4 d hd  h
def wX1_learnDanger  (this : Nat) (p1 : Nat) (p2 : Int32) (p3 : Int32) (S : JS) (Q : JS → Prop) : Prop :=
  jA S this 1 ∧ (¬ jR S this 2 = none ∧ (wX11_placeOf p2 p3 S (fun r4 S3 => jA S3 (jr S this 2) 13 ∧ (vp_in r4 (jZ S3 (jr S this 2)) ∧ ((¬ (jI S3 (jr S this 2) r4.toNatClampNeg) = (-1) → Q S3) ∧ ((jI S3 (jr S this 2) r4.toNatClampNeg) = (-1) → jA S3 this 1 ∧ (¬ jR S3 this 0 = none ∧ (jA S3 (jr S3 this 0) 0 ∧ (wX0_aboutRock (jr S3 this 0) p1 p2 p3 S3 (fun S9 => jA S9 this 1 ∧ (¬ jR S9 this 2 = none ∧ (wX11_placeOf p2 p3 S9 (fun r15 S14 => jA S14 this 1 ∧ (¬ jR S14 this 0 = none ∧ (jA S14 p1 9 ∧ (wX9_ruling p1 S14 (fun o27 S18 => (o27 = none → jA S18 (jr S14 this 0) 0 ∧ (wX0_told (jr S14 this 0) none 17 S18 (fun r29 S28 => jA S28 (jr S9 this 2) 13 ∧ (vp_in r15 (jZ S28 (jr S9 this 2)) ∧ (∀ S33 : JS, S33 = uI S28 (jr S9 this 2) r15.toNatClampNeg r29 → (Q S33)))))) ∧ (∀ r19 : Nat, o27 = some r19 → jA S18 (jr S14 this 0) 0 ∧ (wX0_told (jr S14 this 0) (some r19) 17 S18 (fun r22 S21 => jA S21 (jr S9 this 2) 13 ∧ (vp_in r15 (jZ S21 (jr S9 this 2)) ∧ (∀ S26 : JS, S26 = uI S21 (jr S9 this 2) r15.toNatClampNeg r22 → (Q S26)))))))))))))))))))))))
set_option maxRecDepth 20000 in
theorem vX1_learnDanger {Q : JS → Prop} (d : Nat) (hd : 4 ≤ d) {this : Nat} {p1 : Nat} {p2 : Int32} {p3 : Int32} {S : JS} (h : wX1_learnDanger this p1 p2 p3 S Q) : jCall jmt jbud d 13 [.ref this, .ref p1, .int p2, .int p3] S (jqV Q) := by
  obtain ⟨d, rfl⟩ : ∃ d2, d = d2 + 1 := ⟨d - 1, by omega⟩
  have hd : 3 ≤ d := by omega
  have hc := jCall_mono jmt jbud d
  unfold wX1_learnDanger at h
  refine ⟨Nat.le_of_ble_eq_true rfl, ?_⟩
  show jLf (jCall jmt jbud d) jbud (fun j => (jmt j).rk) none mX1_learnDanger (jqV Q) (0, [some (.ref this), some (.ref p1), some (.int p2), some (.int p3)], [], S, 0, 0)
  obtain ⟨g1, g2, h⟩ := h
  refine jLf.bk hc 4 [jA S this 1, ¬ jR S this 2 = none] [some (.ref this), some (.ref p1), some (.int p2), some (.int p3)] [.int p3, .int p2, .ref (jr S this 2)] S rfl rfl rfl ⟨g1, g2⟩ ?_
  refine jLf.inv hc _ rfl (gs := [2 ≤ ([.int p3, .int p2, .ref (jr S this 2)] : List Value).length, (([.ref (jr S this 2)] : List Value).map fun v => v.category).sum ≤ 8, 0 ≤ 0, 0 ≤ 0]) (k := 146) (args := [.int p2, .int p3]) (r := [.ref (jr S this 2)]) (a := 0) (b := 0) rfl ⟨Nat.le_of_ble_eq_true rfl, Nat.le_of_ble_eq_true rfl, Nat.zero_le _, Nat.zero_le _⟩ (vX11_placeOf d (by omega) h) ?_
  rintro v S3 ⟨r4, rfl, h⟩
  show jLf (jCall jmt jbud d) jbud (fun j => (jmt j).rk) none mX1_learnDanger (jqV Q) (5, [some (.ref this), some (.ref p1), some (.int p2), some (.int p3)], [.int r4, .ref (jr S this 2)], S3, 0, 0)
  obtain ⟨g5, g6, h⟩ := h
  refine jLf.bk hc 2 [jA S3 (jr S this 2) 13, vp_in r4 (jZ S3 (jr S this 2))] [some (.ref this), some (.ref p1), some (.int p2), some (.int p3)] [.int (-1), .int (jI S3 (jr S this 2) r4.toNatClampNeg)] S3 rfl rfl rfl ⟨g5, g6⟩ ?_
  refine jLf.two hc _ rfl (gs := []) (p1 := ¬ (jI S3 (jr S this 2) r4.toNatClampNeg) = (-1)) (p2 := ¬ (¬ (jI S3 (jr S this 2) r4.toNatClampNeg) = (-1))) (c1 := (26, [some (.ref this), some (.ref p1), some (.int p2), some (.int p3)], [], S3, 0, 0)) (c2 := (8, [some (.ref this), some (.ref p1), some (.int p2), some (.int p3)], [], S3, 0, 0)) rfl trivial (fun hz => ?_) (fun hz => ?_)
  · have h := h.1 hz
    exact jLf.ret hc _ rfl (gs := [jrt none none]) (v := none) rfl trivial ⟨rfl, h⟩
  · have h := h.2 (Classical.not_not.mp hz)
    obtain ⟨g7, g8, h⟩ := h
    refine jLf.bk hc 5 [jA S3 this 1, ¬ jR S3 this 0 = none] [some (.ref this), some (.ref p1), some (.int p2), some (.int p3)] [.int p3, .int p2, .ref p1, .ref (jr S3 this 0)] S3 rfl rfl rfl ⟨g7, g8⟩ ?_
    obtain ⟨g11, h⟩ := h
    refine jLf.inv hc _ rfl (gs := [jA S3 (jr S3 this 0) 0, (([] : List Value).map fun v => v.category).sum ≤ 8, 0 ≤ 0, 0 ≤ 0]) (k := 1) (args := [.ref (jr S3 this 0), .ref p1, .int p2, .int p3]) (r := []) (a := 0) (b := 0) rfl ⟨g11, Nat.le_of_ble_eq_true rfl, Nat.zero_le _, Nat.zero_le _⟩ (vX0_aboutRock d (by omega) h) ?_
    rintro v S9 ⟨rfl, h⟩
    show jLf (jCall jmt jbud d) jbud (fun j => (jmt j).rk) none mX1_learnDanger (jqV Q) (14, [some (.ref this), some (.ref p1), some (.int p2), some (.int p3)], [], S9, 0, 0)
    obtain ⟨g12, g13, h⟩ := h
    refine jLf.bk hc 4 [jA S9 this 1, ¬ jR S9 this 2 = none] [some (.ref this), some (.ref p1), some (.int p2), some (.int p3)] [.int p3, .int p2, .ref (jr S9 this 2)] S9 rfl rfl rfl ⟨g12, g13⟩ ?_
    refine jLf.inv hc _ rfl (gs := [2 ≤ ([.int p3, .int p2, .ref (jr S9 this 2)] : List Value).length, (([.ref (jr S9 this 2)] : List Value).map fun v => v.category).sum ≤ 8, 0 ≤ 0, 0 ≤ 0]) (k := 146) (args := [.int p2, .int p3]) (r := [.ref (jr S9 this 2)]) (a := 0) (b := 0) rfl ⟨Nat.le_of_ble_eq_true rfl, Nat.le_of_ble_eq_true rfl, Nat.zero_le _, Nat.zero_le _⟩ (vX11_placeOf d (by omega) h) ?_
    rintro v S14 ⟨r15, rfl, h⟩
    show jLf (jCall jmt jbud d) jbud (fun j => (jmt j).rk) none mX1_learnDanger (jqV Q) (19, [some (.ref this), some (.ref p1), some (.int p2), some (.int p3)], [.int r15, .ref (jr S9 this 2)], S14, 0, 0)
    obtain ⟨g16, g17, h⟩ := h
    refine jLf.bk hc 3 [jA S14 this 1, ¬ jR S14 this 0 = none] [some (.ref this), some (.ref p1), some (.int p2), some (.int p3)] [.ref p1, .ref (jr S14 this 0), .int r15, .ref (jr S9 this 2)] S14 rfl rfl rfl ⟨g16, g17⟩ ?_
    obtain ⟨g20, h⟩ := h
    refine jLf.inv hc _ rfl (gs := [jA S14 p1 9, (([.ref (jr S14 this 0), .int r15, .ref (jr S9 this 2)] : List Value).map fun v => v.category).sum ≤ 8, 0 ≤ 0, 0 ≤ 0]) (k := 92) (args := [.ref p1]) (r := [.ref (jr S14 this 0), .int r15, .ref (jr S9 this 2)]) (a := 0) (b := 0) rfl ⟨g20, Nat.le_of_ble_eq_true rfl, Nat.zero_le _, Nat.zero_le _⟩ (vX9_ruling d (by omega) h) ?_
    rintro v S18 ⟨o27, rfl, h⟩
    cases o27 with
    | none =>
      have h := h.1 rfl
      show jLf (jCall jmt jbud d) jbud (fun j => (jmt j).rk) none mX1_learnDanger (jqV Q) (23, [some (.ref this), some (.ref p1), some (.int p2), some (.int p3)], [.null, .ref (jr S14 this 0), .int r15, .ref (jr S9 this 2)], S18, 0, 0)
      refine jLf.bk hc 1 [] [some (.ref this), some (.ref p1), some (.int p2), some (.int p3)] [.int 17, .null, .ref (jr S14 this 0), .int r15, .ref (jr S9 this 2)] S18 rfl rfl rfl trivial ?_
      obtain ⟨g30, h⟩ := h
      refine jLf.inv hc _ rfl (gs := [jA S18 (jr S14 this 0) 0, (([.int r15, .ref (jr S9 this 2)] : List Value).map fun v => v.category).sum ≤ 8, 0 ≤ 0, 0 ≤ 0]) (k := 3) (args := [.ref (jr S14 this 0), .null, .int 17]) (r := [.int r15, .ref (jr S9 this 2)]) (a := 0) (b := 0) rfl ⟨g30, Nat.le_of_ble_eq_true rfl, Nat.zero_le _, Nat.zero_le _⟩ (vX0_told d (by omega) h) ?_
      rintro v S28 ⟨r29, rfl, h⟩
      show jLf (jCall jmt jbud d) jbud (fun j => (jmt j).rk) none mX1_learnDanger (jqV Q) (25, [some (.ref this), some (.ref p1), some (.int p2), some (.int p3)], [.int r29, .int r15, .ref (jr S9 this 2)], S28, 0, 0)
      obtain ⟨g31, g32, h⟩ := h
      refine jLf.bk hc 1 [jA S28 (jr S9 this 2) 13, vp_in r15 (jZ S28 (jr S9 this 2))] [some (.ref this), some (.ref p1), some (.int p2), some (.int p3)] [] (uI S28 (jr S9 this 2) r15.toNatClampNeg r29) rfl rfl rfl ⟨g31, g32⟩ ?_
      generalize eS33 : uI S28 (jr S9 this 2) r15.toNatClampNeg r29 = S33
      have h := h S33 eS33.symm
      exact jLf.ret hc _ rfl (gs := [jrt none none]) (v := none) rfl trivial ⟨rfl, h⟩
    | some r19 =>
      have h := h.2 r19 rfl
      show jLf (jCall jmt jbud d) jbud (fun j => (jmt j).rk) none mX1_learnDanger (jqV Q) (23, [some (.ref this), some (.ref p1), some (.int p2), some (.int p3)], [.ref r19, .ref (jr S14 this 0), .int r15, .ref (jr S9 this 2)], S18, 0, 0)
      refine jLf.bk hc 1 [] [some (.ref this), some (.ref p1), some (.int p2), some (.int p3)] [.int 17, .ref r19, .ref (jr S14 this 0), .int r15, .ref (jr S9 this 2)] S18 rfl rfl rfl trivial ?_
      obtain ⟨g23, h⟩ := h
      refine jLf.inv hc _ rfl (gs := [jA S18 (jr S14 this 0) 0, (([.int r15, .ref (jr S9 this 2)] : List Value).map fun v => v.category).sum ≤ 8, 0 ≤ 0, 0 ≤ 0]) (k := 3) (args := [.ref (jr S14 this 0), .ref r19, .int 17]) (r := [.int r15, .ref (jr S9 this 2)]) (a := 0) (b := 0) rfl ⟨g23, Nat.le_of_ble_eq_true rfl, Nat.zero_le _, Nat.zero_le _⟩ (vX0_told d (by omega) h) ?_
      rintro v S21 ⟨r22, rfl, h⟩
      show jLf (jCall jmt jbud d) jbud (fun j => (jmt j).rk) none mX1_learnDanger (jqV Q) (25, [some (.ref this), some (.ref p1), some (.int p2), some (.int p3)], [.int r22, .int r15, .ref (jr S9 this 2)], S21, 0, 0)
      obtain ⟨g24, g25, h⟩ := h
      refine jLf.bk hc 1 [jA S21 (jr S9 this 2) 13, vp_in r15 (jZ S21 (jr S9 this 2))] [some (.ref this), some (.ref p1), some (.int p2), some (.int p3)] [] (uI S21 (jr S9 this 2) r15.toNatClampNeg r22) rfl rfl rfl ⟨g24, g25⟩ ?_
      generalize eS26 : uI S21 (jr S9 this 2) r15.toNatClampNeg r22 = S26
      have h := h S26 eS26.symm
      exact jLf.ret hc _ rfl (gs := [jrt none none]) (v := none) rfl trivial ⟨rfl, h⟩
def bX1_learnDangers_12  (X4 : Nat → Nat → Int32 → Int32 → JS → Prop) (X12 : Nat → Nat → Int32 → Int32 → Int32 → JS → Prop) (l0 : Nat) (l1 : Nat) (l3 : Int32) (l4 : Int32) (l5 : Int32) (S : JS) (Q : JS → Prop) : Prop :=
  jA S l1 9 ∧ (((jI S l1 0) ≤ l5 → ∀ x3 : Int32, x3 = (l4 + 1) → (X4 l0 l1 l3 x3 S)) ∧ (¬ ((jI S l1 0) ≤ l5) → jA S l0 1 ∧ (wX1_learnDanger l0 l1 l5 l4 S (fun S4 => ∀ x7 : Int32, x7 = (l5 + 1) → (X12 l0 l1 l3 l4 x7 S4)))))
set_option maxRecDepth 20000 in
theorem uX1_learnDangers_12 {Q : JS → Prop} {X4 : Nat → Nat → Int32 → Int32 → JS → Prop} (d : Nat) (hd : 4 ≤ d) (hX4 : ∀ l0 l1 l3 l4 S, X4 l0 l1 l3 l4 S → jLf (jCall jmt jbud d) jbud (fun j => (jmt j).rk) none mX1_learnDangers (jqV Q) (4, [some (.ref l0), some (.ref l1), none, some (.int l3), some (.int l4), none], [], S, 0, 0)) {X12 : Nat → Nat → Int32 → Int32 → Int32 → JS → Prop} (hX12 : ∀ l0 l1 l3 l4 l5 S, X12 l0 l1 l3 l4 l5 S → jLf (jCall jmt jbud d) jbud (fun j => (jmt j).rk) none mX1_learnDangers (jqV Q) (12, [some (.ref l0), some (.ref l1), none, some (.int l3), some (.int l4), some (.int l5)], [], S, 0, 0)) {l0 : Nat} {l1 : Nat} {l3 : Int32} {l4 : Int32} {l5 : Int32} {S : JS} (h : bX1_learnDangers_12 X4 X12 l0 l1 l3 l4 l5 S Q) : jLf (jCall jmt jbud d) jbud (fun j => (jmt j).rk) none mX1_learnDangers (jqV Q) (12, [some (.ref l0), some (.ref l1), none, some (.int l3), some (.int l4), some (.int l5)], [], S, 0, 0) := by
  have hc := jCall_mono jmt jbud d
  unfold bX1_learnDangers_12 at h
  obtain ⟨g2, h⟩ := h
  refine jLf.bk hc 3 [jA S l1 9] [some (.ref l0), some (.ref l1), none, some (.int l3), some (.int l4), some (.int l5)] [.int (jI S l1 0), .int l5] S rfl rfl rfl g2 ?_
  refine jLf.two hc _ rfl (gs := []) (p1 := (jI S l1 0) ≤ l5) (p2 := ¬ ((jI S l1 0) ≤ l5)) (c1 := (23, [some (.ref l0), some (.ref l1), none, some (.int l3), some (.int l4), some (.int l5)], [], S, 0, 0)) (c2 := (16, [some (.ref l0), some (.ref l1), none, some (.int l3), some (.int l4), some (.int l5)], [], S, 0, 0)) rfl trivial (fun hz => ?_) (fun hz => ?_)
  · have h := h.1 hz
    refine jLf.bk hc 1 [] [some (.ref l0), some (.ref l1), none, some (.int l3), some (.int (l4 + 1)), some (.int l5)] [] S rfl rfl rfl trivial ?_
    generalize ex3 : (l4 + 1 : Int32) = x3
    have h := h x3 ex3.symm
    refine jLf.one hc _ rfl (gs := []) (c := (4, [some (.ref l0), some (.ref l1), none, some (.int l3), some (.int x3), some (.int l5)], [], S, 0, 0)) rfl trivial ?_
    refine jLf.sub [some (.ref l0), some (.ref l1), none, some (.int l3), some (.int x3), none] (jle_same (jle_same (jle_same (jle_same (jle_same (jle_none (jle_nil _))))))) ?_
    exact hX4 _ _ _ _ _ h
  · have h := h.2 hz
    refine jLf.bk hc 4 [] [some (.ref l0), some (.ref l1), none, some (.int l3), some (.int l4), some (.int l5)] [.int l4, .int l5, .ref l1, .ref l0] S rfl rfl rfl trivial ?_
    obtain ⟨g6, h⟩ := h
    refine jLf.inv hc _ rfl (gs := [jA S l0 1, (([] : List Value).map fun v => v.category).sum ≤ 8, 0 ≤ 0, 0 ≤ 0]) (k := 13) (args := [.ref l0, .ref l1, .int l5, .int l4]) (r := []) (a := 0) (b := 0) rfl ⟨g6, Nat.le_of_ble_eq_true rfl, Nat.zero_le _, Nat.zero_le _⟩ (vX1_learnDanger d (by omega) h) ?_
    rintro v S4 ⟨rfl, h⟩
    show jLf (jCall jmt jbud d) jbud (fun j => (jmt j).rk) none mX1_learnDangers (jqV Q) (21, [some (.ref l0), some (.ref l1), none, some (.int l3), some (.int l4), some (.int l5)], [], S4, 0, 0)
    refine jLf.bk hc 1 [] [some (.ref l0), some (.ref l1), none, some (.int l3), some (.int l4), some (.int (l5 + 1))] [] S4 rfl rfl rfl trivial ?_
    generalize ex7 : (l5 + 1 : Int32) = x7
    have h := h x7 ex7.symm
    refine jLf.one hc _ rfl (gs := []) (c := (12, [some (.ref l0), some (.ref l1), none, some (.int l3), some (.int l4), some (.int x7)], [], S4, 0, 0)) rfl trivial ?_
    exact hX12 _ _ _ _ _ _ h
def wX1_learnDangers_12  (X4 : Nat → Nat → Int32 → Int32 → JS → Prop) (l0 : Nat) (l1 : Nat) (l3 : Int32) (l4 : Int32) (l5 : Int32) (S : JS) (Q : JS → Prop) : Prop :=
  jLoop (fun (X12 : Nat × Nat × Int32 × Int32 × Int32 × JS → Prop) q => bX1_learnDangers_12 X4 (fun l0 l1 l3 l4 l5 S => X12 (l0, l1, l3, l4, l5, S)) q.1 q.2.1 q.2.2.1 q.2.2.2.1 q.2.2.2.2.1 q.2.2.2.2.2 Q) (l0, l1, l3, l4, l5, S)
set_option maxRecDepth 20000 in
theorem tX1_learnDangers_12 {Q : JS → Prop} {X4 : Nat → Nat → Int32 → Int32 → JS → Prop} (d : Nat) (hd : 4 ≤ d) (hX4 : ∀ l0 l1 l3 l4 S, X4 l0 l1 l3 l4 S → jLf (jCall jmt jbud d) jbud (fun j => (jmt j).rk) none mX1_learnDangers (jqV Q) (4, [some (.ref l0), some (.ref l1), none, some (.int l3), some (.int l4), none], [], S, 0, 0)) {l0 : Nat} {l1 : Nat} {l3 : Int32} {l4 : Int32} {l5 : Int32} {S : JS} (h : wX1_learnDangers_12 X4 l0 l1 l3 l4 l5 S Q) : jLf (jCall jmt jbud d) jbud (fun j => (jmt j).rk) none mX1_learnDangers (jqV Q) (12, [some (.ref l0), some (.ref l1), none, some (.int l3), some (.int l4), some (.int l5)], [], S, 0, 0) := by
  have := h (fun q : Nat × Nat × Int32 × Int32 × Int32 × JS => jLf (jCall jmt jbud d) jbud (fun j => (jmt j).rk) none mX1_learnDangers (jqV Q) (12, [some (.ref (q.1)), some (.ref (q.2.1)), none, some (.int (q.2.2.1)), some (.int (q.2.2.2.1)), some (.int (q.2.2.2.2.1))], [], q.2.2.2.2.2, 0, 0)) (fun q R hb hR => uX1_learnDangers_12 d hd hX4 (fun _ _ _ _ _ _ => hR _) hb)
  exact this
def bX1_learnDangers_4   (X4 : Nat → Nat → Int32 → Int32 → JS → Prop) (l0 : Nat) (l1 : Nat) (l3 : Int32) (l4 : Int32) (S : JS) (Q : JS → Prop) : Prop :=
  (l3 < l4 → Q S) ∧ (¬ (l3 < l4) → (60 ≤ l4 → Q S) ∧ (¬ (60 ≤ l4) → wX1_learnDangers_12 X4 l0 l1 l3 l4 0 S Q))
set_option maxRecDepth 20000 in
theorem uX1_learnDangers_4 {Q : JS → Prop}  (d : Nat) (hd : 4 ≤ d) {X4 : Nat → Nat → Int32 → Int32 → JS → Prop} (hX4 : ∀ l0 l1 l3 l4 S, X4 l0 l1 l3 l4 S → jLf (jCall jmt jbud d) jbud (fun j => (jmt j).rk) none mX1_learnDangers (jqV Q) (4, [some (.ref l0), some (.ref l1), none, some (.int l3), some (.int l4), none], [], S, 0, 0)) {l0 : Nat} {l1 : Nat} {l3 : Int32} {l4 : Int32} {S : JS} (h : bX1_learnDangers_4 X4 l0 l1 l3 l4 S Q) : jLf (jCall jmt jbud d) jbud (fun j => (jmt j).rk) none mX1_learnDangers (jqV Q) (4, [some (.ref l0), some (.ref l1), none, some (.int l3), some (.int l4), none], [], S, 0, 0) := by
  have hc := jCall_mono jmt jbud d
  unfold bX1_learnDangers_4 at h
  refine jLf.bk hc 2 [] [some (.ref l0), some (.ref l1), none, some (.int l3), some (.int l4), none] [.int l3, .int l4] S rfl rfl rfl trivial ?_
  refine jLf.two hc _ rfl (gs := []) (p1 := l3 < l4) (p2 := ¬ (l3 < l4)) (c1 := (25, [some (.ref l0), some (.ref l1), none, some (.int l3), some (.int l4), none], [], S, 0, 0)) (c2 := (7, [some (.ref l0), some (.ref l1), none, some (.int l3), some (.int l4), none], [], S, 0, 0)) rfl trivial (fun hz => ?_) (fun hz => ?_)
  · have h := h.1 hz
    exact jLf.ret hc _ rfl (gs := [jrt none none]) (v := none) rfl trivial ⟨rfl, h⟩
  · have h := h.2 hz
    refine jLf.bk hc 2 [] [some (.ref l0), some (.ref l1), none, some (.int l3), some (.int l4), none] [.int 60, .int l4] S rfl rfl rfl trivial ?_
    refine jLf.two hc _ rfl (gs := []) (p1 := 60 ≤ l4) (p2 := ¬ (60 ≤ l4)) (c1 := (25, [some (.ref l0), some (.ref l1), none, some (.int l3), some (.int l4), none], [], S, 0, 0)) (c2 := (10, [some (.ref l0), some (.ref l1), none, some (.int l3), some (.int l4), none], [], S, 0, 0)) rfl trivial (fun hz => ?_) (fun hz => ?_)
    · have h := h.1 hz
      exact jLf.ret hc _ rfl (gs := [jrt none none]) (v := none) rfl trivial ⟨rfl, h⟩
    · have h := h.2 hz
      refine jLf.bk hc 2 [] [some (.ref l0), some (.ref l1), none, some (.int l3), some (.int l4), some (.int 0)] [] S rfl rfl rfl trivial ?_
      exact tX1_learnDangers_12 d hd hX4 h
def wX1_learnDangers_4   (l0 : Nat) (l1 : Nat) (l3 : Int32) (l4 : Int32) (S : JS) (Q : JS → Prop) : Prop :=
  jLoop (fun (X4 : Nat × Nat × Int32 × Int32 × JS → Prop) q => bX1_learnDangers_4 (fun l0 l1 l3 l4 S => X4 (l0, l1, l3, l4, S)) q.1 q.2.1 q.2.2.1 q.2.2.2.1 q.2.2.2.2 Q) (l0, l1, l3, l4, S)
set_option maxRecDepth 20000 in
theorem tX1_learnDangers_4 {Q : JS → Prop}  (d : Nat) (hd : 4 ≤ d) {l0 : Nat} {l1 : Nat} {l3 : Int32} {l4 : Int32} {S : JS} (h : wX1_learnDangers_4 l0 l1 l3 l4 S Q) : jLf (jCall jmt jbud d) jbud (fun j => (jmt j).rk) none mX1_learnDangers (jqV Q) (4, [some (.ref l0), some (.ref l1), none, some (.int l3), some (.int l4), none], [], S, 0, 0) := by
  have := h (fun q : Nat × Nat × Int32 × Int32 × JS => jLf (jCall jmt jbud d) jbud (fun j => (jmt j).rk) none mX1_learnDangers (jqV Q) (4, [some (.ref (q.1)), some (.ref (q.2.1)), none, some (.int (q.2.2.1)), some (.int (q.2.2.2.1)), none], [], q.2.2.2.2, 0, 0)) (fun q R hb hR => uX1_learnDangers_4 d hd  (fun _ _ _ _ _ => hR _) hb)
  exact this
def wX1_learnDangers  (this : Nat) (p1 : Nat) (p2 : Int32) (p3 : Int32) (S : JS) (Q : JS → Prop) : Prop :=
  ∀ x1 : Int32, x1 = (if (0 : Int32) < p2 then p2 else (0 : Int32)) → (wX1_learnDangers_4 this p1 p3 x1 S Q)
set_option maxRecDepth 20000 in
theorem vX1_learnDangers {Q : JS → Prop} (d : Nat) (hd : 5 ≤ d) {this : Nat} {p1 : Nat} {p2 : Int32} {p3 : Int32} {S : JS} (h : wX1_learnDangers this p1 p2 p3 S Q) : jCall jmt jbud d 12 [.ref this, .ref p1, .int p2, .int p3] S (jqV Q) := by
  obtain ⟨d, rfl⟩ : ∃ d2, d = d2 + 1 := ⟨d - 1, by omega⟩
  have hd : 4 ≤ d := by omega
  have hc := jCall_mono jmt jbud d
  unfold wX1_learnDangers at h
  refine ⟨Nat.le_of_ble_eq_true rfl, ?_⟩
  show jLf (jCall jmt jbud d) jbud (fun j => (jmt j).rk) none mX1_learnDangers (jqV Q) (0, [some (.ref this), some (.ref p1), some (.int p2), some (.int p3), none, none], [], S, 0, 0)
  refine jLf.bk hc 4 [(([] : List Value).map fun v => v.category).sum ≤ 8] [some (.ref this), some (.ref p1), some (.int p2), some (.int p3), some (.int (if (0 : Int32) < p2 then p2 else (0 : Int32))), none] [] S rfl rfl rfl (Nat.le_of_ble_eq_true rfl) ?_
  generalize ex1 : (if (0 : Int32) < p2 then p2 else (0 : Int32) : Int32) = x1
  have h := h x1 ex1.symm
  refine jLf.sub [some (.ref this), some (.ref p1), none, some (.int p3), some (.int x1), none] (jle_same (jle_same (jle_none (jle_same (jle_same (jle_same (jle_nil _))))))) ?_
  exact tX1_learnDangers_4 d hd  h
def wX1_sails  (this : Nat) (p1 : Int32) (p2 : Int32) (S : JS) (Q : Int32 → JS → Prop) : Prop :=
  jA S this 1 ∧ (¬ jR S this 1 = none ∧ (wX11_placeOf p1 p2 S (fun r4 S3 => jA S3 (jr S this 1) 13 ∧ (vp_in r4 (jZ S3 (jr S this 1)) ∧ (Q (jI S3 (jr S this 1) r4.toNatClampNeg) S3)))))
set_option maxRecDepth 20000 in
theorem vX1_sails {Q : Int32 → JS → Prop} (d : Nat) (hd : 2 ≤ d) {this : Nat} {p1 : Int32} {p2 : Int32} {S : JS} (h : wX1_sails this p1 p2 S Q) : jCall jmt jbud d 14 [.ref this, .int p1, .int p2] S (jqI Q) := by
  obtain ⟨d, rfl⟩ : ∃ d2, d = d2 + 1 := ⟨d - 1, by omega⟩
  have hd : 1 ≤ d := by omega
  have hc := jCall_mono jmt jbud d
  unfold wX1_sails at h
  refine ⟨Nat.le_of_ble_eq_true rfl, ?_⟩
  show jLf (jCall jmt jbud d) jbud (fun j => (jmt j).rk) none mX1_sails (jqI Q) (0, [some (.ref this), some (.int p1), some (.int p2)], [], S, 0, 0)
  obtain ⟨g1, g2, h⟩ := h
  refine jLf.bk hc 4 [jA S this 1, ¬ jR S this 1 = none] [some (.ref this), some (.int p1), some (.int p2)] [.int p2, .int p1, .ref (jr S this 1)] S rfl rfl rfl ⟨g1, g2⟩ ?_
  refine jLf.inv hc _ rfl (gs := [2 ≤ ([.int p2, .int p1, .ref (jr S this 1)] : List Value).length, (([.ref (jr S this 1)] : List Value).map fun v => v.category).sum ≤ 8, 0 ≤ 0, 0 ≤ 0]) (k := 146) (args := [.int p1, .int p2]) (r := [.ref (jr S this 1)]) (a := 0) (b := 0) rfl ⟨Nat.le_of_ble_eq_true rfl, Nat.le_of_ble_eq_true rfl, Nat.zero_le _, Nat.zero_le _⟩ (vX11_placeOf d (by omega) h) ?_
  rintro v S3 ⟨r4, rfl, h⟩
  show jLf (jCall jmt jbud d) jbud (fun j => (jmt j).rk) none mX1_sails (jqI Q) (5, [some (.ref this), some (.int p1), some (.int p2)], [.int r4, .ref (jr S this 1)], S3, 0, 0)
  obtain ⟨g5, g6, h⟩ := h
  refine jLf.bk hc 1 [jA S3 (jr S this 1) 13, vp_in r4 (jZ S3 (jr S this 1))] [some (.ref this), some (.int p1), some (.int p2)] [.int (jI S3 (jr S this 1) r4.toNatClampNeg)] S3 rfl rfl rfl ⟨g5, g6⟩ ?_
  exact jLf.ret hc _ rfl (gs := [True]) (v := some (.int (jI S3 (jr S this 1) r4.toNatClampNeg))) rfl trivial ⟨jI S3 (jr S this 1) r4.toNatClampNeg, rfl, h⟩
def wX1_steps  (this : Nat) (p1 : Int32) (p2 : Int32) (S : JS) (Q : Int32 → JS → Prop) : Prop :=
  jA S this 1 ∧ (¬ jR S this 1 = none ∧ (wX11_placeOf p1 p2 S (fun r4 S3 => jA S3 (jr S this 1) 13 ∧ (vp_in r4 (jZ S3 (jr S this 1)) ∧ (Q ((jI S3 (jr S this 1) r4.toNatClampNeg) ||| ((1 : Int32) <<< (p1 &&& 31))) S3)))))
set_option maxRecDepth 20000 in
theorem vX1_steps {Q : Int32 → JS → Prop} (d : Nat) (hd : 2 ≤ d) {this : Nat} {p1 : Int32} {p2 : Int32} {S : JS} (h : wX1_steps this p1 p2 S Q) : jCall jmt jbud d 15 [.ref this, .int p1, .int p2] S (jqI Q) := by
  obtain ⟨d, rfl⟩ : ∃ d2, d = d2 + 1 := ⟨d - 1, by omega⟩
  have hd : 1 ≤ d := by omega
  have hc := jCall_mono jmt jbud d
  unfold wX1_steps at h
  refine ⟨Nat.le_of_ble_eq_true rfl, ?_⟩
  show jLf (jCall jmt jbud d) jbud (fun j => (jmt j).rk) none mX1_steps (jqI Q) (0, [some (.ref this), some (.int p1), some (.int p2)], [], S, 0, 0)
  obtain ⟨g1, g2, h⟩ := h
  refine jLf.bk hc 4 [jA S this 1, ¬ jR S this 1 = none] [some (.ref this), some (.int p1), some (.int p2)] [.int p2, .int p1, .ref (jr S this 1)] S rfl rfl rfl ⟨g1, g2⟩ ?_
  refine jLf.inv hc _ rfl (gs := [2 ≤ ([.int p2, .int p1, .ref (jr S this 1)] : List Value).length, (([.ref (jr S this 1)] : List Value).map fun v => v.category).sum ≤ 8, 0 ≤ 0, 0 ≤ 0]) (k := 146) (args := [.int p1, .int p2]) (r := [.ref (jr S this 1)]) (a := 0) (b := 0) rfl ⟨Nat.le_of_ble_eq_true rfl, Nat.le_of_ble_eq_true rfl, Nat.zero_le _, Nat.zero_le _⟩ (vX11_placeOf d (by omega) h) ?_
  rintro v S3 ⟨r4, rfl, h⟩
  show jLf (jCall jmt jbud d) jbud (fun j => (jmt j).rk) none mX1_steps (jqI Q) (5, [some (.ref this), some (.int p1), some (.int p2)], [.int r4, .ref (jr S this 1)], S3, 0, 0)
  obtain ⟨g5, g6, h⟩ := h
  refine jLf.bk hc 5 [jA S3 (jr S this 1) 13, vp_in r4 (jZ S3 (jr S this 1))] [some (.ref this), some (.int p1), some (.int p2)] [.int ((jI S3 (jr S this 1) r4.toNatClampNeg) ||| ((1 : Int32) <<< (p1 &&& 31)))] S3 rfl rfl rfl ⟨g5, g6⟩ ?_
  exact jLf.ret hc _ rfl (gs := [True]) (v := some (.int ((jI S3 (jr S this 1) r4.toNatClampNeg) ||| ((1 : Int32) <<< (p1 &&& 31))))) rfl trivial ⟨(jI S3 (jr S this 1) r4.toNatClampNeg) ||| ((1 : Int32) <<< (p1 &&& 31)), rfl, h⟩
def wX11_hasBit  (p1 : Int32) (p2 : Int32) (S : JS) (Q : Int32 → JS → Prop) : Prop :=
  (¬ ((p1 >>> (p2 &&& 31)) &&& (1 : Int32)) = 1 → Q 0 S) ∧ (((p1 >>> (p2 &&& 31)) &&& (1 : Int32)) = 1 → Q 1 S)
set_option maxRecDepth 20000 in
theorem vX11_hasBit {Q : Int32 → JS → Prop} (d : Nat) (hd : 1 ≤ d) {p1 : Int32} {p2 : Int32} {S : JS} (h : wX11_hasBit p1 p2 S Q) : jCall jmt jbud d 145 [.int p1, .int p2] S (jqI Q) := by
  obtain ⟨d, rfl⟩ : ∃ d2, d = d2 + 1 := ⟨d - 1, by omega⟩
  have hd : 0 ≤ d := by omega
  have hc := jCall_mono jmt jbud d
  unfold wX11_hasBit at h
  refine ⟨Nat.le_of_ble_eq_true rfl, ?_⟩
  show jLf (jCall jmt jbud d) jbud (fun j => (jmt j).rk) none mX11_hasBit (jqI Q) (0, [some (.int p1), some (.int p2)], [], S, 0, 0)
  refine jLf.bk hc 6 [] [some (.int p1), some (.int p2)] [.int 1, .int ((p1 >>> (p2 &&& 31)) &&& (1 : Int32))] S rfl rfl rfl trivial ?_
  refine jLf.two hc _ rfl (gs := []) (p1 := ¬ ((p1 >>> (p2 &&& 31)) &&& (1 : Int32)) = 1) (p2 := ¬ (¬ ((p1 >>> (p2 &&& 31)) &&& (1 : Int32)) = 1)) (c1 := (9, [some (.int p1), some (.int p2)], [], S, 0, 0)) (c2 := (7, [some (.int p1), some (.int p2)], [], S, 0, 0)) rfl trivial (fun hz => ?_) (fun hz => ?_)
  · have h := h.1 hz
    refine jLf.bk hc 1 [] [some (.int p1), some (.int p2)] [.int 0] S rfl rfl rfl trivial ?_
    exact jLf.ret hc _ rfl (gs := [jbit 0]) (v := some (.int 0)) rfl (Or.inl rfl) ⟨_, rfl, h⟩
  · have h := h.2 (Classical.not_not.mp hz)
    refine jLf.bk hc 1 [] [some (.int p1), some (.int p2)] [.int 1] S rfl rfl rfl trivial ?_
    refine jLf.one hc _ rfl (gs := []) (c := (10, [some (.int p1), some (.int p2)], [.int 1], S, 0, 0)) rfl trivial ?_
    exact jLf.ret hc _ rfl (gs := [jbit 1]) (v := some (.int 1)) rfl (Or.inr rfl) ⟨_, rfl, h⟩
def wX1_stepsOfAll_18  (X4 : Nat → Int32 → Int32 → Int32 → Int32 → JS → Prop) (l0 : Nat) (l1 : Int32) (l2 : Int32) (l3 : Int32) (l4 : Int32) (S : JS) (Q : Int32 → JS → Prop) : Prop :=
  ∀ x3 : Int32, x3 = (l4 + 1) → (X4 l0 l1 l2 l3 x3 S)
set_option maxRecDepth 20000 in
theorem tX1_stepsOfAll_18 {Q : Int32 → JS → Prop} {X4 : Nat → Int32 → Int32 → Int32 → Int32 → JS → Prop} (d : Nat) (hd : 2 ≤ d) (hX4 : ∀ l0 l1 l2 l3 l4 S, X4 l0 l1 l2 l3 l4 S → jLf (jCall jmt jbud d) jbud (fun j => (jmt j).rk) none mX1_stepsOfAll (jqI Q) (4, [some (.ref l0), some (.int l1), some (.int l2), some (.int l3), some (.int l4)], [], S, 0, 0)) {l0 : Nat} {l1 : Int32} {l2 : Int32} {l3 : Int32} {l4 : Int32} {S : JS} (h : wX1_stepsOfAll_18 X4 l0 l1 l2 l3 l4 S Q) : jLf (jCall jmt jbud d) jbud (fun j => (jmt j).rk) none mX1_stepsOfAll (jqI Q) (18, [some (.ref l0), some (.int l1), some (.int l2), some (.int l3), some (.int l4)], [], S, 0, 0) := by
  have hc := jCall_mono jmt jbud d
  unfold wX1_stepsOfAll_18 at h
  refine jLf.bk hc 1 [] [some (.ref l0), some (.int l1), some (.int l2), some (.int l3), some (.int (l4 + 1))] [] S rfl rfl rfl trivial ?_
  generalize ex3 : (l4 + 1 : Int32) = x3
  have h := h x3 ex3.symm
  refine jLf.one hc _ rfl (gs := []) (c := (4, [some (.ref l0), some (.int l1), some (.int l2), some (.int l3), some (.int x3)], [], S, 0, 0)) rfl trivial ?_
  exact hX4 _ _ _ _ _ _ h
def bX1_stepsOfAll_4   (X4 : Nat → Int32 → Int32 → Int32 → Int32 → JS → Prop) (l0 : Nat) (l1 : Int32) (l2 : Int32) (l3 : Int32) (l4 : Int32) (S : JS) (Q : Int32 → JS → Prop) : Prop :=
  (9 ≤ l4 → Q l3 S) ∧ (¬ (9 ≤ l4) → wX11_hasBit l1 l4 S (fun r2 S1 => (r2 = 0 → wX1_stepsOfAll_18 X4 l0 l1 l2 l3 l4 S1 Q) ∧ (¬ r2 = 0 → jA S1 l0 1 ∧ (wX1_steps l0 l4 l2 S1 (fun r5 S4 => ∀ x7 : Int32, x7 = (l3 ||| r5) → (wX1_stepsOfAll_18 X4 l0 l1 l2 x7 l4 S4 Q))))))
set_option maxRecDepth 20000 in
theorem uX1_stepsOfAll_4 {Q : Int32 → JS → Prop}  (d : Nat) (hd : 2 ≤ d) {X4 : Nat → Int32 → Int32 → Int32 → Int32 → JS → Prop} (hX4 : ∀ l0 l1 l2 l3 l4 S, X4 l0 l1 l2 l3 l4 S → jLf (jCall jmt jbud d) jbud (fun j => (jmt j).rk) none mX1_stepsOfAll (jqI Q) (4, [some (.ref l0), some (.int l1), some (.int l2), some (.int l3), some (.int l4)], [], S, 0, 0)) {l0 : Nat} {l1 : Int32} {l2 : Int32} {l3 : Int32} {l4 : Int32} {S : JS} (h : bX1_stepsOfAll_4 X4 l0 l1 l2 l3 l4 S Q) : jLf (jCall jmt jbud d) jbud (fun j => (jmt j).rk) none mX1_stepsOfAll (jqI Q) (4, [some (.ref l0), some (.int l1), some (.int l2), some (.int l3), some (.int l4)], [], S, 0, 0) := by
  have hc := jCall_mono jmt jbud d
  unfold bX1_stepsOfAll_4 at h
  refine jLf.bk hc 2 [] [some (.ref l0), some (.int l1), some (.int l2), some (.int l3), some (.int l4)] [.int 9, .int l4] S rfl rfl rfl trivial ?_
  refine jLf.two hc _ rfl (gs := []) (p1 := 9 ≤ l4) (p2 := ¬ (9 ≤ l4)) (c1 := (20, [some (.ref l0), some (.int l1), some (.int l2), some (.int l3), some (.int l4)], [], S, 0, 0)) (c2 := (7, [some (.ref l0), some (.int l1), some (.int l2), some (.int l3), some (.int l4)], [], S, 0, 0)) rfl trivial (fun hz => ?_) (fun hz => ?_)
  · have h := h.1 hz
    refine jLf.bk hc 1 [] [some (.ref l0), some (.int l1), some (.int l2), some (.int l3), some (.int l4)] [.int l3] S rfl rfl rfl trivial ?_
    exact jLf.ret hc _ rfl (gs := [True]) (v := some (.int l3)) rfl trivial ⟨l3, rfl, h⟩
  · have h := h.2 hz
    refine jLf.bk hc 2 [] [some (.ref l0), some (.int l1), some (.int l2), some (.int l3), some (.int l4)] [.int l4, .int l1] S rfl rfl rfl trivial ?_
    refine jLf.inv hc _ rfl (gs := [2 ≤ ([.int l4, .int l1] : List Value).length, (([] : List Value).map fun v => v.category).sum ≤ 8, 0 ≤ 0, 0 ≤ 0]) (k := 145) (args := [.int l1, .int l4]) (r := []) (a := 0) (b := 0) rfl ⟨Nat.le_of_ble_eq_true rfl, Nat.le_of_ble_eq_true rfl, Nat.zero_le _, Nat.zero_le _⟩ (vX11_hasBit d (by omega) h) ?_
    rintro v S1 ⟨r2, rfl, h⟩
    show jLf (jCall jmt jbud d) jbud (fun j => (jmt j).rk) none mX1_stepsOfAll (jqI Q) (10, [some (.ref l0), some (.int l1), some (.int l2), some (.int l3), some (.int l4)], [.int r2], S1, 0, 0)
    refine jLf.two hc _ rfl (gs := []) (p1 := r2 = 0) (p2 := ¬ (r2 = 0)) (c1 := (18, [some (.ref l0), some (.int l1), some (.int l2), some (.int l3), some (.int l4)], [], S1, 0, 0)) (c2 := (11, [some (.ref l0), some (.int l1), some (.int l2), some (.int l3), some (.int l4)], [], S1, 0, 0)) rfl trivial (fun hz => ?_) (fun hz => ?_)
    · have h := h.1 hz
      exact tX1_stepsOfAll_18 d hd hX4 h
    · have h := h.2 hz
      refine jLf.bk hc 4 [] [some (.ref l0), some (.int l1), some (.int l2), some (.int l3), some (.int l4)] [.int l2, .int l4, .ref l0, .int l3] S1 rfl rfl rfl trivial ?_
      obtain ⟨g6, h⟩ := h
      refine jLf.inv hc _ rfl (gs := [jA S1 l0 1, (([.int l3] : List Value).map fun v => v.category).sum ≤ 8, 0 ≤ 0, 0 ≤ 0]) (k := 15) (args := [.ref l0, .int l4, .int l2]) (r := [.int l3]) (a := 0) (b := 0) rfl ⟨g6, Nat.le_of_ble_eq_true rfl, Nat.zero_le _, Nat.zero_le _⟩ (vX1_steps d (by omega) h) ?_
      rintro v S4 ⟨r5, rfl, h⟩
      show jLf (jCall jmt jbud d) jbud (fun j => (jmt j).rk) none mX1_stepsOfAll (jqI Q) (16, [some (.ref l0), some (.int l1), some (.int l2), some (.int l3), some (.int l4)], [.int r5, .int l3], S4, 0, 0)
      refine jLf.bk hc 2 [] [some (.ref l0), some (.int l1), some (.int l2), some (.int (l3 ||| r5)), some (.int l4)] [] S4 rfl rfl rfl trivial ?_
      generalize ex7 : (l3 ||| r5 : Int32) = x7
      have h := h x7 ex7.symm
      exact tX1_stepsOfAll_18 d hd hX4 h
def wX1_stepsOfAll_4   (l0 : Nat) (l1 : Int32) (l2 : Int32) (l3 : Int32) (l4 : Int32) (S : JS) (Q : Int32 → JS → Prop) : Prop :=
  jLoop (fun (X4 : Nat × Int32 × Int32 × Int32 × Int32 × JS → Prop) q => bX1_stepsOfAll_4 (fun l0 l1 l2 l3 l4 S => X4 (l0, l1, l2, l3, l4, S)) q.1 q.2.1 q.2.2.1 q.2.2.2.1 q.2.2.2.2.1 q.2.2.2.2.2 Q) (l0, l1, l2, l3, l4, S)
set_option maxRecDepth 20000 in
theorem tX1_stepsOfAll_4 {Q : Int32 → JS → Prop}  (d : Nat) (hd : 2 ≤ d) {l0 : Nat} {l1 : Int32} {l2 : Int32} {l3 : Int32} {l4 : Int32} {S : JS} (h : wX1_stepsOfAll_4 l0 l1 l2 l3 l4 S Q) : jLf (jCall jmt jbud d) jbud (fun j => (jmt j).rk) none mX1_stepsOfAll (jqI Q) (4, [some (.ref l0), some (.int l1), some (.int l2), some (.int l3), some (.int l4)], [], S, 0, 0) := by
  have := h (fun q : Nat × Int32 × Int32 × Int32 × Int32 × JS => jLf (jCall jmt jbud d) jbud (fun j => (jmt j).rk) none mX1_stepsOfAll (jqI Q) (4, [some (.ref (q.1)), some (.int (q.2.1)), some (.int (q.2.2.1)), some (.int (q.2.2.2.1)), some (.int (q.2.2.2.2.1))], [], q.2.2.2.2.2, 0, 0)) (fun q R hb hR => uX1_stepsOfAll_4 d hd  (fun _ _ _ _ _ _ => hR _) hb)
  exact this
def wX1_stepsOfAll  (this : Nat) (p1 : Int32) (p2 : Int32) (S : JS) (Q : Int32 → JS → Prop) : Prop :=
  wX1_stepsOfAll_4 this p1 p2 0 0 S Q
set_option maxRecDepth 20000 in
theorem vX1_stepsOfAll {Q : Int32 → JS → Prop} (d : Nat) (hd : 3 ≤ d) {this : Nat} {p1 : Int32} {p2 : Int32} {S : JS} (h : wX1_stepsOfAll this p1 p2 S Q) : jCall jmt jbud d 16 [.ref this, .int p1, .int p2] S (jqI Q) := by
  obtain ⟨d, rfl⟩ : ∃ d2, d = d2 + 1 := ⟨d - 1, by omega⟩
  have hd : 2 ≤ d := by omega
  have hc := jCall_mono jmt jbud d
  unfold wX1_stepsOfAll at h
  refine ⟨Nat.le_of_ble_eq_true rfl, ?_⟩
  show jLf (jCall jmt jbud d) jbud (fun j => (jmt j).rk) none mX1_stepsOfAll (jqI Q) (0, [some (.ref this), some (.int p1), some (.int p2), none, none], [], S, 0, 0)
  refine jLf.bk hc 4 [] [some (.ref this), some (.int p1), some (.int p2), some (.int 0), some (.int 0)] [] S rfl rfl rfl trivial ?_
  exact tX1_stepsOfAll_4 d hd  h
def wX1_danger  (this : Nat) (p1 : Int32) (p2 : Int32) (S : JS) (Q : Int32 → JS → Prop) : Prop :=
  jA S this 1 ∧ (¬ jR S this 2 = none ∧ (wX11_placeOf p1 p2 S (fun r4 S3 => jA S3 (jr S this 2) 13 ∧ (vp_in r4 (jZ S3 (jr S this 2)) ∧ (Q (jI S3 (jr S this 2) r4.toNatClampNeg) S3)))))
set_option maxRecDepth 20000 in
theorem vX1_danger {Q : Int32 → JS → Prop} (d : Nat) (hd : 2 ≤ d) {this : Nat} {p1 : Int32} {p2 : Int32} {S : JS} (h : wX1_danger this p1 p2 S Q) : jCall jmt jbud d 17 [.ref this, .int p1, .int p2] S (jqI Q) := by
  obtain ⟨d, rfl⟩ : ∃ d2, d = d2 + 1 := ⟨d - 1, by omega⟩
  have hd : 1 ≤ d := by omega
  have hc := jCall_mono jmt jbud d
  unfold wX1_danger at h
  refine ⟨Nat.le_of_ble_eq_true rfl, ?_⟩
  show jLf (jCall jmt jbud d) jbud (fun j => (jmt j).rk) none mX1_danger (jqI Q) (0, [some (.ref this), some (.int p1), some (.int p2)], [], S, 0, 0)
  obtain ⟨g1, g2, h⟩ := h
  refine jLf.bk hc 4 [jA S this 1, ¬ jR S this 2 = none] [some (.ref this), some (.int p1), some (.int p2)] [.int p2, .int p1, .ref (jr S this 2)] S rfl rfl rfl ⟨g1, g2⟩ ?_
  refine jLf.inv hc _ rfl (gs := [2 ≤ ([.int p2, .int p1, .ref (jr S this 2)] : List Value).length, (([.ref (jr S this 2)] : List Value).map fun v => v.category).sum ≤ 8, 0 ≤ 0, 0 ≤ 0]) (k := 146) (args := [.int p1, .int p2]) (r := [.ref (jr S this 2)]) (a := 0) (b := 0) rfl ⟨Nat.le_of_ble_eq_true rfl, Nat.le_of_ble_eq_true rfl, Nat.zero_le _, Nat.zero_le _⟩ (vX11_placeOf d (by omega) h) ?_
  rintro v S3 ⟨r4, rfl, h⟩
  show jLf (jCall jmt jbud d) jbud (fun j => (jmt j).rk) none mX1_danger (jqI Q) (5, [some (.ref this), some (.int p1), some (.int p2)], [.int r4, .ref (jr S this 2)], S3, 0, 0)
  obtain ⟨g5, g6, h⟩ := h
  refine jLf.bk hc 1 [jA S3 (jr S this 2) 13, vp_in r4 (jZ S3 (jr S this 2))] [some (.ref this), some (.int p1), some (.int p2)] [.int (jI S3 (jr S this 2) r4.toNatClampNeg)] S3 rfl rfl rfl ⟨g5, g6⟩ ?_
  exact jLf.ret hc _ rfl (gs := [True]) (v := some (.int (jI S3 (jr S this 2) r4.toNatClampNeg))) rfl trivial ⟨jI S3 (jr S this 2) r4.toNatClampNeg, rfl, h⟩
def bX1_allDanger_4   (X4 : Nat → Nat → Int32 → Int32 → Int32 → JS → Prop) (l0 : Nat) (l1 : Nat) (l2 : Int32) (l3 : Int32) (l4 : Int32) (S : JS) (Q : Int32 → JS → Prop) : Prop :=
  jA S l1 9 ∧ (((jI S l1 0) ≤ l4 → Q l3 S) ∧ (¬ ((jI S l1 0) ≤ l4) → jA S l0 1 ∧ (wX1_danger l0 l4 l2 S (fun r3 S2 => ∀ x5 : Int32, x5 = (l3 + r3) → (∀ x6 : Int32, x6 = (l4 + 1) → (X4 l0 l1 l2 x5 x6 S2))))))
set_option maxRecDepth 20000 in
theorem uX1_allDanger_4 {Q : Int32 → JS → Prop}  (d : Nat) (hd : 2 ≤ d) {X4 : Nat → Nat → Int32 → Int32 → Int32 → JS → Prop} (hX4 : ∀ l0 l1 l2 l3 l4 S, X4 l0 l1 l2 l3 l4 S → jLf (jCall jmt jbud d) jbud (fun j => (jmt j).rk) none mX1_allDanger (jqI Q) (4, [some (.ref l0), some (.ref l1), some (.int l2), some (.int l3), some (.int l4)], [], S, 0, 0)) {l0 : Nat} {l1 : Nat} {l2 : Int32} {l3 : Int32} {l4 : Int32} {S : JS} (h : bX1_allDanger_4 X4 l0 l1 l2 l3 l4 S Q) : jLf (jCall jmt jbud d) jbud (fun j => (jmt j).rk) none mX1_allDanger (jqI Q) (4, [some (.ref l0), some (.ref l1), some (.int l2), some (.int l3), some (.int l4)], [], S, 0, 0) := by
  have hc := jCall_mono jmt jbud d
  unfold bX1_allDanger_4 at h
  obtain ⟨g1, h⟩ := h
  refine jLf.bk hc 3 [jA S l1 9] [some (.ref l0), some (.ref l1), some (.int l2), some (.int l3), some (.int l4)] [.int (jI S l1 0), .int l4] S rfl rfl rfl g1 ?_
  refine jLf.two hc _ rfl (gs := []) (p1 := (jI S l1 0) ≤ l4) (p2 := ¬ ((jI S l1 0) ≤ l4)) (c1 := (17, [some (.ref l0), some (.ref l1), some (.int l2), some (.int l3), some (.int l4)], [], S, 0, 0)) (c2 := (8, [some (.ref l0), some (.ref l1), some (.int l2), some (.int l3), some (.int l4)], [], S, 0, 0)) rfl trivial (fun hz => ?_) (fun hz => ?_)
  · have h := h.1 hz
    refine jLf.bk hc 1 [] [some (.ref l0), some (.ref l1), some (.int l2), some (.int l3), some (.int l4)] [.int l3] S rfl rfl rfl trivial ?_
    exact jLf.ret hc _ rfl (gs := [True]) (v := some (.int l3)) rfl trivial ⟨l3, rfl, h⟩
  · have h := h.2 hz
    refine jLf.bk hc 4 [] [some (.ref l0), some (.ref l1), some (.int l2), some (.int l3), some (.int l4)] [.int l2, .int l4, .ref l0, .int l3] S rfl rfl rfl trivial ?_
    obtain ⟨g4, h⟩ := h
    refine jLf.inv hc _ rfl (gs := [jA S l0 1, (([.int l3] : List Value).map fun v => v.category).sum ≤ 8, 0 ≤ 0, 0 ≤ 0]) (k := 17) (args := [.ref l0, .int l4, .int l2]) (r := [.int l3]) (a := 0) (b := 0) rfl ⟨g4, Nat.le_of_ble_eq_true rfl, Nat.zero_le _, Nat.zero_le _⟩ (vX1_danger d (by omega) h) ?_
    rintro v S2 ⟨r3, rfl, h⟩
    show jLf (jCall jmt jbud d) jbud (fun j => (jmt j).rk) none mX1_allDanger (jqI Q) (13, [some (.ref l0), some (.ref l1), some (.int l2), some (.int l3), some (.int l4)], [.int r3, .int l3], S2, 0, 0)
    refine jLf.bk hc 2 [] [some (.ref l0), some (.ref l1), some (.int l2), some (.int (l3 + r3)), some (.int l4)] [] S2 rfl rfl rfl trivial ?_
    generalize ex5 : (l3 + r3 : Int32) = x5
    have h := h x5 ex5.symm
    refine jLf.bk hc 1 [] [some (.ref l0), some (.ref l1), some (.int l2), some (.int x5), some (.int (l4 + 1))] [] S2 rfl rfl rfl trivial ?_
    generalize ex6 : (l4 + 1 : Int32) = x6
    have h := h x6 ex6.symm
    refine jLf.one hc _ rfl (gs := []) (c := (4, [some (.ref l0), some (.ref l1), some (.int l2), some (.int x5), some (.int x6)], [], S2, 0, 0)) rfl trivial ?_
    exact hX4 _ _ _ _ _ _ h
def wX1_allDanger_4   (l0 : Nat) (l1 : Nat) (l2 : Int32) (l3 : Int32) (l4 : Int32) (S : JS) (Q : Int32 → JS → Prop) : Prop :=
  jLoop (fun (X4 : Nat × Nat × Int32 × Int32 × Int32 × JS → Prop) q => bX1_allDanger_4 (fun l0 l1 l2 l3 l4 S => X4 (l0, l1, l2, l3, l4, S)) q.1 q.2.1 q.2.2.1 q.2.2.2.1 q.2.2.2.2.1 q.2.2.2.2.2 Q) (l0, l1, l2, l3, l4, S)
set_option maxRecDepth 20000 in
theorem tX1_allDanger_4 {Q : Int32 → JS → Prop}  (d : Nat) (hd : 2 ≤ d) {l0 : Nat} {l1 : Nat} {l2 : Int32} {l3 : Int32} {l4 : Int32} {S : JS} (h : wX1_allDanger_4 l0 l1 l2 l3 l4 S Q) : jLf (jCall jmt jbud d) jbud (fun j => (jmt j).rk) none mX1_allDanger (jqI Q) (4, [some (.ref l0), some (.ref l1), some (.int l2), some (.int l3), some (.int l4)], [], S, 0, 0) := by
  have := h (fun q : Nat × Nat × Int32 × Int32 × Int32 × JS => jLf (jCall jmt jbud d) jbud (fun j => (jmt j).rk) none mX1_allDanger (jqI Q) (4, [some (.ref (q.1)), some (.ref (q.2.1)), some (.int (q.2.2.1)), some (.int (q.2.2.2.1)), some (.int (q.2.2.2.2.1))], [], q.2.2.2.2.2, 0, 0)) (fun q R hb hR => uX1_allDanger_4 d hd  (fun _ _ _ _ _ _ => hR _) hb)
  exact this
def wX1_allDanger  (this : Nat) (p1 : Nat) (p2 : Int32) (S : JS) (Q : Int32 → JS → Prop) : Prop :=
  wX1_allDanger_4 this p1 p2 0 0 S Q
set_option maxRecDepth 20000 in
theorem vX1_allDanger {Q : Int32 → JS → Prop} (d : Nat) (hd : 3 ≤ d) {this : Nat} {p1 : Nat} {p2 : Int32} {S : JS} (h : wX1_allDanger this p1 p2 S Q) : jCall jmt jbud d 18 [.ref this, .ref p1, .int p2] S (jqI Q) := by
  obtain ⟨d, rfl⟩ : ∃ d2, d = d2 + 1 := ⟨d - 1, by omega⟩
  have hd : 2 ≤ d := by omega
  have hc := jCall_mono jmt jbud d
  unfold wX1_allDanger at h
  refine ⟨Nat.le_of_ble_eq_true rfl, ?_⟩
  show jLf (jCall jmt jbud d) jbud (fun j => (jmt j).rk) none mX1_allDanger (jqI Q) (0, [some (.ref this), some (.ref p1), some (.int p2), none, none], [], S, 0, 0)
  refine jLf.bk hc 4 [] [some (.ref this), some (.ref p1), some (.int p2), some (.int 0), some (.int 0)] [] S rfl rfl rfl trivial ?_
  exact tX1_allDanger_4 d hd  h
def wX1_willFor  (this : Nat) (p1 : Nat) (p2 : Int32) (p3 : Int32) (p4 : Int32) (S : JS) (Q : Int32 → JS → Prop) : Prop :=
  jA S this 1 ∧ (¬ jR S this 0 = none ∧ (jA S (jr S this 0) 0 ∧ (wX0_aboutBoat (jr S this 0) p1 p2 p3 p4 S (fun S3 => jA S3 this 1 ∧ (¬ jR S3 this 0 = none ∧ (jA S3 p1 9 ∧ (wX9_ruling p1 S3 (fun o14 S8 => (o14 = none → jA S8 (jr S3 this 0) 0 ∧ (wX0_told (jr S3 this 0) none 18 S8 (fun r16 S15 => Q r16 S15))) ∧ (∀ r9 : Nat, o14 = some r9 → jA S8 (jr S3 this 0) 0 ∧ (wX0_told (jr S3 this 0) (some r9) 18 S8 (fun r12 S11 => Q r12 S11)))))))))))
set_option maxRecDepth 20000 in
theorem vX1_willFor {Q : Int32 → JS → Prop} (d : Nat) (hd : 4 ≤ d) {this : Nat} {p1 : Nat} {p2 : Int32} {p3 : Int32} {p4 : Int32} {S : JS} (h : wX1_willFor this p1 p2 p3 p4 S Q) : jCall jmt jbud d 19 [.ref this, .ref p1, .int p2, .int p3, .int p4] S (jqI Q) := by
  obtain ⟨d, rfl⟩ : ∃ d2, d = d2 + 1 := ⟨d - 1, by omega⟩
  have hd : 3 ≤ d := by omega
  have hc := jCall_mono jmt jbud d
  unfold wX1_willFor at h
  refine ⟨Nat.le_of_ble_eq_true rfl, ?_⟩
  show jLf (jCall jmt jbud d) jbud (fun j => (jmt j).rk) none mX1_willFor (jqI Q) (0, [some (.ref this), some (.ref p1), some (.int p2), some (.int p3), some (.int p4)], [], S, 0, 0)
  obtain ⟨g1, g2, h⟩ := h
  refine jLf.bk hc 6 [jA S this 1, ¬ jR S this 0 = none] [some (.ref this), some (.ref p1), some (.int p2), some (.int p3), some (.int p4)] [.int p4, .int p3, .int p2, .ref p1, .ref (jr S this 0)] S rfl rfl rfl ⟨g1, g2⟩ ?_
  obtain ⟨g5, h⟩ := h
  refine jLf.inv hc _ rfl (gs := [jA S (jr S this 0) 0, (([] : List Value).map fun v => v.category).sum ≤ 8, 0 ≤ 0, 0 ≤ 0]) (k := 2) (args := [.ref (jr S this 0), .ref p1, .int p2, .int p3, .int p4]) (r := []) (a := 0) (b := 0) rfl ⟨g5, Nat.le_of_ble_eq_true rfl, Nat.zero_le _, Nat.zero_le _⟩ (vX0_aboutBoat d (by omega) h) ?_
  rintro v S3 ⟨rfl, h⟩
  show jLf (jCall jmt jbud d) jbud (fun j => (jmt j).rk) none mX1_willFor (jqI Q) (7, [some (.ref this), some (.ref p1), some (.int p2), some (.int p3), some (.int p4)], [], S3, 0, 0)
  obtain ⟨g6, g7, h⟩ := h
  refine jLf.bk hc 3 [jA S3 this 1, ¬ jR S3 this 0 = none] [some (.ref this), some (.ref p1), some (.int p2), some (.int p3), some (.int p4)] [.ref p1, .ref (jr S3 this 0)] S3 rfl rfl rfl ⟨g6, g7⟩ ?_
  obtain ⟨g10, h⟩ := h
  refine jLf.inv hc _ rfl (gs := [jA S3 p1 9, (([.ref (jr S3 this 0)] : List Value).map fun v => v.category).sum ≤ 8, 0 ≤ 0, 0 ≤ 0]) (k := 92) (args := [.ref p1]) (r := [.ref (jr S3 this 0)]) (a := 0) (b := 0) rfl ⟨g10, Nat.le_of_ble_eq_true rfl, Nat.zero_le _, Nat.zero_le _⟩ (vX9_ruling d (by omega) h) ?_
  rintro v S8 ⟨o14, rfl, h⟩
  cases o14 with
  | none =>
    have h := h.1 rfl
    show jLf (jCall jmt jbud d) jbud (fun j => (jmt j).rk) none mX1_willFor (jqI Q) (11, [some (.ref this), some (.ref p1), some (.int p2), some (.int p3), some (.int p4)], [.null, .ref (jr S3 this 0)], S8, 0, 0)
    refine jLf.bk hc 1 [] [some (.ref this), some (.ref p1), some (.int p2), some (.int p3), some (.int p4)] [.int 18, .null, .ref (jr S3 this 0)] S8 rfl rfl rfl trivial ?_
    obtain ⟨g17, h⟩ := h
    refine jLf.inv hc _ rfl (gs := [jA S8 (jr S3 this 0) 0, (([] : List Value).map fun v => v.category).sum ≤ 8, 0 ≤ 0, 0 ≤ 0]) (k := 3) (args := [.ref (jr S3 this 0), .null, .int 18]) (r := []) (a := 0) (b := 0) rfl ⟨g17, Nat.le_of_ble_eq_true rfl, Nat.zero_le _, Nat.zero_le _⟩ (vX0_told d (by omega) h) ?_
    rintro v S15 ⟨r16, rfl, h⟩
    show jLf (jCall jmt jbud d) jbud (fun j => (jmt j).rk) none mX1_willFor (jqI Q) (13, [some (.ref this), some (.ref p1), some (.int p2), some (.int p3), some (.int p4)], [.int r16], S15, 0, 0)
    exact jLf.ret hc _ rfl (gs := [True]) (v := some (.int r16)) rfl trivial ⟨r16, rfl, h⟩
  | some r9 =>
    have h := h.2 r9 rfl
    show jLf (jCall jmt jbud d) jbud (fun j => (jmt j).rk) none mX1_willFor (jqI Q) (11, [some (.ref this), some (.ref p1), some (.int p2), some (.int p3), some (.int p4)], [.ref r9, .ref (jr S3 this 0)], S8, 0, 0)
    refine jLf.bk hc 1 [] [some (.ref this), some (.ref p1), some (.int p2), some (.int p3), some (.int p4)] [.int 18, .ref r9, .ref (jr S3 this 0)] S8 rfl rfl rfl trivial ?_
    obtain ⟨g13, h⟩ := h
    refine jLf.inv hc _ rfl (gs := [jA S8 (jr S3 this 0) 0, (([] : List Value).map fun v => v.category).sum ≤ 8, 0 ≤ 0, 0 ≤ 0]) (k := 3) (args := [.ref (jr S3 this 0), .ref r9, .int 18]) (r := []) (a := 0) (b := 0) rfl ⟨g13, Nat.le_of_ble_eq_true rfl, Nat.zero_le _, Nat.zero_le _⟩ (vX0_told d (by omega) h) ?_
    rintro v S11 ⟨r12, rfl, h⟩
    show jLf (jCall jmt jbud d) jbud (fun j => (jmt j).rk) none mX1_willFor (jqI Q) (13, [some (.ref this), some (.ref p1), some (.int p2), some (.int p3), some (.int p4)], [.int r12], S11, 0, 0)
    exact jLf.ret hc _ rfl (gs := [True]) (v := some (.int r12)) rfl trivial ⟨r12, rfl, h⟩
def wX2_init  (this : Nat) (S : JS) (Q : JS → Prop) : Prop :=
  jN S < 1000000 ∧ (∀ h3 : Nat, h3 = jN S → (∀ S1 : JS, S1 = uNew S 13 540 → (jA S1 this 2 ∧ (∀ S5 : JS, S5 = uR S1 this 0 (some h3) → (Q S5)))))
set_option maxRecDepth 20000 in
theorem vX2_init {Q : JS → Prop} (d : Nat) (hd : 1 ≤ d) {this : Nat} {S : JS} (h : wX2_init this S Q) : jCall jmt jbud d 20 [.ref this] S (jqV Q) := by
  obtain ⟨d, rfl⟩ : ∃ d2, d = d2 + 1 := ⟨d - 1, by omega⟩
  have hd : 0 ≤ d := by omega
  have hc := jCall_mono jmt jbud d
  unfold wX2_init at h
  refine ⟨Nat.le_of_ble_eq_true rfl, ?_⟩
  show jLf (jCall jmt jbud d) jbud (fun j => (jmt j).rk) none mX2_init (jqV Q) (0, [some (.ref this)], [], S, 1, 540)
  refine jLf.bk hc 4 [(([] : List Value).map fun v => v.category).sum ≤ 8] [some (.ref this)] [.int 540, .ref this] S rfl rfl rfl (Nat.le_of_ble_eq_true rfl) ?_
  obtain ⟨g2, h⟩ := h
  refine jLf.one hc _ rfl (gs := [¬ (540 : Int32) < 0, 540 ≤ 1000000, 1 ≤ 1, 540 ≤ 540, jN S < 1000000]) (c := (5, [some (.ref this)], [.ref (jN S), .ref this], (uNew S 13 540), 0, 0)) rfl ⟨(by decide), Nat.le_of_ble_eq_true rfl, Nat.le_of_ble_eq_true rfl, Nat.le_of_ble_eq_true rfl, g2⟩ ?_
  generalize eS1 : uNew S 13 540 = S1
  generalize eh3 : jN S = h3
  have h := h h3 eh3.symm S1 eS1.symm
  obtain ⟨g4, h⟩ := h
  refine jLf.bk hc 1 [jA S1 this 2] [some (.ref this)] [] (uR S1 this 0 (some h3)) rfl rfl rfl g4 ?_
  generalize eS5 : uR S1 this 0 (some h3) = S5
  have h := h S5 eS5.symm
  exact jLf.ret hc _ rfl (gs := [jrt none none]) (v := none) rfl trivial ⟨rfl, h⟩
def wX2_bestStep_38  (X9 : Nat → Int32 → Int32 → Int32 → Int32 → Int32 → JS → Prop) (l0 : Nat) (l2 : Int32) (l3 : Int32) (l4 : Int32) (l5 : Int32) (l6 : Int32) (S : JS) (Q : Int32 → JS → Prop) : Prop :=
  ∀ x6 : Int32, x6 = (l6 + 1) → (X9 l0 l2 l3 l4 l5 x6 S)
set_option maxRecDepth 20000 in
theorem tX2_bestStep_38 {Q : Int32 → JS → Prop} {X9 : Nat → Int32 → Int32 → Int32 → Int32 → Int32 → JS → Prop} (d : Nat) (hd : 2 ≤ d) (hX9 : ∀ l0 l2 l3 l4 l5 l6 S, X9 l0 l2 l3 l4 l5 l6 S → jLf (jCall jmt jbud d) jbud (fun j => (jmt j).rk) none mX2_bestStep (jqI Q) (9, [some (.ref l0), none, some (.int l2), some (.int l3), some (.int l4), some (.int l5), some (.int l6)], [], S, 0, 0)) {l0 : Nat} {l2 : Int32} {l3 : Int32} {l4 : Int32} {l5 : Int32} {l6 : Int32} {S : JS} (h : wX2_bestStep_38 X9 l0 l2 l3 l4 l5 l6 S Q) : jLf (jCall jmt jbud d) jbud (fun j => (jmt j).rk) none mX2_bestStep (jqI Q) (38, [some (.ref l0), none, some (.int l2), some (.int l3), some (.int l4), some (.int l5), some (.int l6)], [], S, 0, 0) := by
  have hc := jCall_mono jmt jbud d
  unfold wX2_bestStep_38 at h
  refine jLf.bk hc 1 [] [some (.ref l0), none, some (.int l2), some (.int l3), some (.int l4), some (.int l5), some (.int (l6 + 1))] [] S rfl rfl rfl trivial ?_
  generalize ex6 : (l6 + 1 : Int32) = x6
  have h := h x6 ex6.symm
  refine jLf.one hc _ rfl (gs := []) (c := (9, [some (.ref l0), none, some (.int l2), some (.int l3), some (.int l4), some (.int l5), some (.int x6)], [], S, 0, 0)) rfl trivial ?_
  exact hX9 _ _ _ _ _ _ _ h
def wX2_bestStep_36  (X9 : Nat → Int32 → Int32 → Int32 → Int32 → Int32 → JS → Prop) (l0 : Nat) (l2 : Int32) (l3 : Int32) (l4 : Int32) (l6 : Int32) (S : JS) (Q : Int32 → JS → Prop) : Prop :=
  wX2_bestStep_38 X9 l0 l2 l3 l4 l6 l6 S Q
set_option maxRecDepth 20000 in
theorem tX2_bestStep_36 {Q : Int32 → JS → Prop} {X9 : Nat → Int32 → Int32 → Int32 → Int32 → Int32 → JS → Prop} (d : Nat) (hd : 2 ≤ d) (hX9 : ∀ l0 l2 l3 l4 l5 l6 S, X9 l0 l2 l3 l4 l5 l6 S → jLf (jCall jmt jbud d) jbud (fun j => (jmt j).rk) none mX2_bestStep (jqI Q) (9, [some (.ref l0), none, some (.int l2), some (.int l3), some (.int l4), some (.int l5), some (.int l6)], [], S, 0, 0)) {l0 : Nat} {l2 : Int32} {l3 : Int32} {l4 : Int32} {l6 : Int32} {S : JS} (h : wX2_bestStep_36 X9 l0 l2 l3 l4 l6 S Q) : jLf (jCall jmt jbud d) jbud (fun j => (jmt j).rk) none mX2_bestStep (jqI Q) (36, [some (.ref l0), none, some (.int l2), some (.int l3), some (.int l4), none, some (.int l6)], [], S, 0, 0) := by
  have hc := jCall_mono jmt jbud d
  unfold wX2_bestStep_36 at h
  refine jLf.bk hc 2 [] [some (.ref l0), none, some (.int l2), some (.int l3), some (.int l4), some (.int l6), some (.int l6)] [] S rfl rfl rfl trivial ?_
  exact tX2_bestStep_38 d hd hX9 h
def bX2_bestStep_9   (X9 : Nat → Int32 → Int32 → Int32 → Int32 → Int32 → JS → Prop) (l0 : Nat) (l2 : Int32) (l3 : Int32) (l4 : Int32) (l5 : Int32) (l6 : Int32) (S : JS) (Q : Int32 → JS → Prop) : Prop :=
  (9 ≤ l6 → (¬ l5 = (-1) → Q l5 S) ∧ (l5 = (-1) → Q l2 S)) ∧ (¬ (9 ≤ l6) → wX11_hasBit l4 l6 S (fun r5 S4 => (r5 = 0 → wX2_bestStep_38 X9 l0 l2 l3 l4 l5 l6 S4 Q) ∧ (¬ r5 = 0 → (l5 = (-1) → wX2_bestStep_36 X9 l0 l2 l3 l4 l6 S4 Q) ∧ (¬ l5 = (-1) → jA S4 l0 2 ∧ (¬ jR S4 l0 0 = none ∧ (wX11_placeOf l6 (l3 + (1 : Int32)) S4 (fun r10 S9 => jA S9 (jr S4 l0 0) 13 ∧ (vp_in r10 (jZ S9 (jr S4 l0 0)) ∧ (jA S9 l0 2 ∧ (¬ jR S9 l0 0 = none ∧ (wX11_placeOf l5 (l3 + (1 : Int32)) S9 (fun r16 S15 => jA S15 (jr S9 l0 0) 13 ∧ (vp_in r16 (jZ S15 (jr S9 l0 0)) ∧ (((jI S9 (jr S4 l0 0) r10.toNatClampNeg) ≤ (jI S15 (jr S9 l0 0) r16.toNatClampNeg) → wX2_bestStep_38 X9 l0 l2 l3 l4 l5 l6 S15 Q) ∧ (¬ ((jI S9 (jr S4 l0 0) r10.toNatClampNeg) ≤ (jI S15 (jr S9 l0 0) r16.toNatClampNeg)) → wX2_bestStep_36 X9 l0 l2 l3 l4 l6 S15 Q)))))))))))))))
set_option maxRecDepth 20000 in
theorem uX2_bestStep_9 {Q : Int32 → JS → Prop}  (d : Nat) (hd : 2 ≤ d) {X9 : Nat → Int32 → Int32 → Int32 → Int32 → Int32 → JS → Prop} (hX9 : ∀ l0 l2 l3 l4 l5 l6 S, X9 l0 l2 l3 l4 l5 l6 S → jLf (jCall jmt jbud d) jbud (fun j => (jmt j).rk) none mX2_bestStep (jqI Q) (9, [some (.ref l0), none, some (.int l2), some (.int l3), some (.int l4), some (.int l5), some (.int l6)], [], S, 0, 0)) {l0 : Nat} {l2 : Int32} {l3 : Int32} {l4 : Int32} {l5 : Int32} {l6 : Int32} {S : JS} (h : bX2_bestStep_9 X9 l0 l2 l3 l4 l5 l6 S Q) : jLf (jCall jmt jbud d) jbud (fun j => (jmt j).rk) none mX2_bestStep (jqI Q) (9, [some (.ref l0), none, some (.int l2), some (.int l3), some (.int l4), some (.int l5), some (.int l6)], [], S, 0, 0) := by
  have hc := jCall_mono jmt jbud d
  unfold bX2_bestStep_9 at h
  refine jLf.bk hc 2 [] [some (.ref l0), none, some (.int l2), some (.int l3), some (.int l4), some (.int l5), some (.int l6)] [.int 9, .int l6] S rfl rfl rfl trivial ?_
  refine jLf.two hc _ rfl (gs := []) (p1 := 9 ≤ l6) (p2 := ¬ (9 ≤ l6)) (c1 := (40, [some (.ref l0), none, some (.int l2), some (.int l3), some (.int l4), some (.int l5), some (.int l6)], [], S, 0, 0)) (c2 := (12, [some (.ref l0), none, some (.int l2), some (.int l3), some (.int l4), some (.int l5), some (.int l6)], [], S, 0, 0)) rfl trivial (fun hz => ?_) (fun hz => ?_)
  · have h := h.1 hz
    refine jLf.bk hc 2 [] [some (.ref l0), none, some (.int l2), some (.int l3), some (.int l4), some (.int l5), some (.int l6)] [.int (-1), .int l5] S rfl rfl rfl trivial ?_
    refine jLf.two hc _ rfl (gs := []) (p1 := ¬ l5 = (-1)) (p2 := ¬ (¬ l5 = (-1))) (c1 := (45, [some (.ref l0), none, some (.int l2), some (.int l3), some (.int l4), some (.int l5), some (.int l6)], [], S, 0, 0)) (c2 := (43, [some (.ref l0), none, some (.int l2), some (.int l3), some (.int l4), some (.int l5), some (.int l6)], [], S, 0, 0)) rfl trivial (fun hz => ?_) (fun hz => ?_)
    · have h := h.1 hz
      refine jLf.bk hc 1 [] [some (.ref l0), none, some (.int l2), some (.int l3), some (.int l4), some (.int l5), some (.int l6)] [.int l5] S rfl rfl rfl trivial ?_
      exact jLf.ret hc _ rfl (gs := [True]) (v := some (.int l5)) rfl trivial ⟨l5, rfl, h⟩
    · have h := h.2 (Classical.not_not.mp hz)
      refine jLf.bk hc 1 [] [some (.ref l0), none, some (.int l2), some (.int l3), some (.int l4), some (.int l5), some (.int l6)] [.int l2] S rfl rfl rfl trivial ?_
      refine jLf.one hc _ rfl (gs := []) (c := (46, [some (.ref l0), none, some (.int l2), some (.int l3), some (.int l4), some (.int l5), some (.int l6)], [.int l2], S, 0, 0)) rfl trivial ?_
      exact jLf.ret hc _ rfl (gs := [True]) (v := some (.int l2)) rfl trivial ⟨l2, rfl, h⟩
  · have h := h.2 hz
    refine jLf.bk hc 2 [] [some (.ref l0), none, some (.int l2), some (.int l3), some (.int l4), some (.int l5), some (.int l6)] [.int l6, .int l4] S rfl rfl rfl trivial ?_
    refine jLf.inv hc _ rfl (gs := [2 ≤ ([.int l6, .int l4] : List Value).length, (([] : List Value).map fun v => v.category).sum ≤ 8, 0 ≤ 0, 0 ≤ 0]) (k := 145) (args := [.int l4, .int l6]) (r := []) (a := 0) (b := 0) rfl ⟨Nat.le_of_ble_eq_true rfl, Nat.le_of_ble_eq_true rfl, Nat.zero_le _, Nat.zero_le _⟩ (vX11_hasBit d (by omega) h) ?_
    rintro v S4 ⟨r5, rfl, h⟩
    show jLf (jCall jmt jbud d) jbud (fun j => (jmt j).rk) none mX2_bestStep (jqI Q) (15, [some (.ref l0), none, some (.int l2), some (.int l3), some (.int l4), some (.int l5), some (.int l6)], [.int r5], S4, 0, 0)
    refine jLf.two hc _ rfl (gs := []) (p1 := r5 = 0) (p2 := ¬ (r5 = 0)) (c1 := (38, [some (.ref l0), none, some (.int l2), some (.int l3), some (.int l4), some (.int l5), some (.int l6)], [], S4, 0, 0)) (c2 := (16, [some (.ref l0), none, some (.int l2), some (.int l3), some (.int l4), some (.int l5), some (.int l6)], [], S4, 0, 0)) rfl trivial (fun hz => ?_) (fun hz => ?_)
    · have h := h.1 hz
      exact tX2_bestStep_38 d hd hX9 h
    · have h := h.2 hz
      refine jLf.bk hc 2 [] [some (.ref l0), none, some (.int l2), some (.int l3), some (.int l4), some (.int l5), some (.int l6)] [.int (-1), .int l5] S4 rfl rfl rfl trivial ?_
      refine jLf.two hc _ rfl (gs := []) (p1 := l5 = (-1)) (p2 := ¬ (l5 = (-1))) (c1 := (36, [some (.ref l0), none, some (.int l2), some (.int l3), some (.int l4), some (.int l5), some (.int l6)], [], S4, 0, 0)) (c2 := (19, [some (.ref l0), none, some (.int l2), some (.int l3), some (.int l4), some (.int l5), some (.int l6)], [], S4, 0, 0)) rfl trivial (fun hz => ?_) (fun hz => ?_)
      · have h := h.1 hz
        refine jLf.sub [some (.ref l0), none, some (.int l2), some (.int l3), some (.int l4), none, some (.int l6)] (jle_same (jle_same (jle_same (jle_same (jle_same (jle_none (jle_same (jle_nil _)))))))) ?_
        exact tX2_bestStep_36 d hd hX9 h
      · have h := h.2 hz
        obtain ⟨g7, g8, h⟩ := h
        refine jLf.bk hc 6 [jA S4 l0 2, ¬ jR S4 l0 0 = none] [some (.ref l0), none, some (.int l2), some (.int l3), some (.int l4), some (.int l5), some (.int l6)] [.int (l3 + (1 : Int32)), .int l6, .ref (jr S4 l0 0)] S4 rfl rfl rfl ⟨g7, g8⟩ ?_
        refine jLf.inv hc _ rfl (gs := [2 ≤ ([.int (l3 + (1 : Int32)), .int l6, .ref (jr S4 l0 0)] : List Value).length, (([.ref (jr S4 l0 0)] : List Value).map fun v => v.category).sum ≤ 8, 0 ≤ 0, 0 ≤ 0]) (k := 146) (args := [.int l6, .int (l3 + (1 : Int32))]) (r := [.ref (jr S4 l0 0)]) (a := 0) (b := 0) rfl ⟨Nat.le_of_ble_eq_true rfl, Nat.le_of_ble_eq_true rfl, Nat.zero_le _, Nat.zero_le _⟩ (vX11_placeOf d (by omega) h) ?_
        rintro v S9 ⟨r10, rfl, h⟩
        show jLf (jCall jmt jbud d) jbud (fun j => (jmt j).rk) none mX2_bestStep (jqI Q) (26, [some (.ref l0), none, some (.int l2), some (.int l3), some (.int l4), some (.int l5), some (.int l6)], [.int r10, .ref (jr S4 l0 0)], S9, 0, 0)
        obtain ⟨g11, g12, g13, g14, h⟩ := h
        refine jLf.bk hc 7 [jA S9 (jr S4 l0 0) 13, vp_in r10 (jZ S9 (jr S4 l0 0)), jA S9 l0 2, ¬ jR S9 l0 0 = none] [some (.ref l0), none, some (.int l2), some (.int l3), some (.int l4), some (.int l5), some (.int l6)] [.int (l3 + (1 : Int32)), .int l5, .ref (jr S9 l0 0), .int (jI S9 (jr S4 l0 0) r10.toNatClampNeg)] S9 rfl rfl rfl ⟨g11, g12, g13, g14⟩ ?_
        refine jLf.inv hc _ rfl (gs := [2 ≤ ([.int (l3 + (1 : Int32)), .int l5, .ref (jr S9 l0 0), .int (jI S9 (jr S4 l0 0) r10.toNatClampNeg)] : List Value).length, (([.ref (jr S9 l0 0), .int (jI S9 (jr S4 l0 0) r10.toNatClampNeg)] : List Value).map fun v => v.category).sum ≤ 8, 0 ≤ 0, 0 ≤ 0]) (k := 146) (args := [.int l5, .int (l3 + (1 : Int32))]) (r := [.ref (jr S9 l0 0), .int (jI S9 (jr S4 l0 0) r10.toNatClampNeg)]) (a := 0) (b := 0) rfl ⟨Nat.le_of_ble_eq_true rfl, Nat.le_of_ble_eq_true rfl, Nat.zero_le _, Nat.zero_le _⟩ (vX11_placeOf d (by omega) h) ?_
        rintro v S15 ⟨r16, rfl, h⟩
        show jLf (jCall jmt jbud d) jbud (fun j => (jmt j).rk) none mX2_bestStep (jqI Q) (34, [some (.ref l0), none, some (.int l2), some (.int l3), some (.int l4), some (.int l5), some (.int l6)], [.int r16, .ref (jr S9 l0 0), .int (jI S9 (jr S4 l0 0) r10.toNatClampNeg)], S15, 0, 0)
        obtain ⟨g17, g18, h⟩ := h
        refine jLf.bk hc 1 [jA S15 (jr S9 l0 0) 13, vp_in r16 (jZ S15 (jr S9 l0 0))] [some (.ref l0), none, some (.int l2), some (.int l3), some (.int l4), some (.int l5), some (.int l6)] [.int (jI S15 (jr S9 l0 0) r16.toNatClampNeg), .int (jI S9 (jr S4 l0 0) r10.toNatClampNeg)] S15 rfl rfl rfl ⟨g17, g18⟩ ?_
        refine jLf.two hc _ rfl (gs := []) (p1 := (jI S9 (jr S4 l0 0) r10.toNatClampNeg) ≤ (jI S15 (jr S9 l0 0) r16.toNatClampNeg)) (p2 := ¬ ((jI S9 (jr S4 l0 0) r10.toNatClampNeg) ≤ (jI S15 (jr S9 l0 0) r16.toNatClampNeg))) (c1 := (38, [some (.ref l0), none, some (.int l2), some (.int l3), some (.int l4), some (.int l5), some (.int l6)], [], S15, 0, 0)) (c2 := (36, [some (.ref l0), none, some (.int l2), some (.int l3), some (.int l4), some (.int l5), some (.int l6)], [], S15, 0, 0)) rfl trivial (fun hz => ?_) (fun hz => ?_)
        · have h := h.1 hz
          exact tX2_bestStep_38 d hd hX9 h
        · have h := h.2 hz
          refine jLf.sub [some (.ref l0), none, some (.int l2), some (.int l3), some (.int l4), none, some (.int l6)] (jle_same (jle_same (jle_same (jle_same (jle_same (jle_none (jle_same (jle_nil _)))))))) ?_
          exact tX2_bestStep_36 d hd hX9 h
def wX2_bestStep_9   (l0 : Nat) (l2 : Int32) (l3 : Int32) (l4 : Int32) (l5 : Int32) (l6 : Int32) (S : JS) (Q : Int32 → JS → Prop) : Prop :=
  jLoop (fun (X9 : Nat × Int32 × Int32 × Int32 × Int32 × Int32 × JS → Prop) q => bX2_bestStep_9 (fun l0 l2 l3 l4 l5 l6 S => X9 (l0, l2, l3, l4, l5, l6, S)) q.1 q.2.1 q.2.2.1 q.2.2.2.1 q.2.2.2.2.1 q.2.2.2.2.2.1 q.2.2.2.2.2.2 Q) (l0, l2, l3, l4, l5, l6, S)
set_option maxRecDepth 20000 in
theorem tX2_bestStep_9 {Q : Int32 → JS → Prop}  (d : Nat) (hd : 2 ≤ d) {l0 : Nat} {l2 : Int32} {l3 : Int32} {l4 : Int32} {l5 : Int32} {l6 : Int32} {S : JS} (h : wX2_bestStep_9 l0 l2 l3 l4 l5 l6 S Q) : jLf (jCall jmt jbud d) jbud (fun j => (jmt j).rk) none mX2_bestStep (jqI Q) (9, [some (.ref l0), none, some (.int l2), some (.int l3), some (.int l4), some (.int l5), some (.int l6)], [], S, 0, 0) := by
  have := h (fun q : Nat × Int32 × Int32 × Int32 × Int32 × Int32 × JS => jLf (jCall jmt jbud d) jbud (fun j => (jmt j).rk) none mX2_bestStep (jqI Q) (9, [some (.ref (q.1)), none, some (.int (q.2.1)), some (.int (q.2.2.1)), some (.int (q.2.2.2.1)), some (.int (q.2.2.2.2.1)), some (.int (q.2.2.2.2.2.1))], [], q.2.2.2.2.2.2, 0, 0)) (fun q R hb hR => uX2_bestStep_9 d hd  (fun _ _ _ _ _ _ _ => hR _) hb)
  exact this
def wX2_bestStep  (this : Nat) (p1 : Nat) (p2 : Int32) (p3 : Int32) (S : JS) (Q : Int32 → JS → Prop) : Prop :=
  jA S p1 1 ∧ (wX1_steps p1 p2 p3 S (fun r2 S1 => wX2_bestStep_9 this p2 p3 r2 (-1) 0 S1 Q))
set_option maxRecDepth 20000 in
theorem vX2_bestStep {Q : Int32 → JS → Prop} (d : Nat) (hd : 3 ≤ d) {this : Nat} {p1 : Nat} {p2 : Int32} {p3 : Int32} {S : JS} (h : wX2_bestStep this p1 p2 p3 S Q) : jCall jmt jbud d 23 [.ref this, .ref p1, .int p2, .int p3] S (jqI Q) := by
  obtain ⟨d, rfl⟩ : ∃ d2, d = d2 + 1 := ⟨d - 1, by omega⟩
  have hd : 2 ≤ d := by omega
  have hc := jCall_mono jmt jbud d
  unfold wX2_bestStep at h
  refine ⟨Nat.le_of_ble_eq_true rfl, ?_⟩
  show jLf (jCall jmt jbud d) jbud (fun j => (jmt j).rk) none mX2_bestStep (jqI Q) (0, [some (.ref this), some (.ref p1), some (.int p2), some (.int p3), none, none, none], [], S, 0, 0)
  refine jLf.bk hc 3 [] [some (.ref this), some (.ref p1), some (.int p2), some (.int p3), none, none, none] [.int p3, .int p2, .ref p1] S rfl rfl rfl trivial ?_
  obtain ⟨g3, h⟩ := h
  refine jLf.inv hc _ rfl (gs := [jA S p1 1, (([] : List Value).map fun v => v.category).sum ≤ 8, 0 ≤ 0, 0 ≤ 0]) (k := 15) (args := [.ref p1, .int p2, .int p3]) (r := []) (a := 0) (b := 0) rfl ⟨g3, Nat.le_of_ble_eq_true rfl, Nat.zero_le _, Nat.zero_le _⟩ (vX1_steps d (by omega) h) ?_
  rintro v S1 ⟨r2, rfl, h⟩
  show jLf (jCall jmt jbud d) jbud (fun j => (jmt j).rk) none mX2_bestStep (jqI Q) (4, [some (.ref this), some (.ref p1), some (.int p2), some (.int p3), none, none, none], [.int r2], S1, 0, 0)
  refine jLf.bk hc 5 [] [some (.ref this), some (.ref p1), some (.int p2), some (.int p3), some (.int r2), some (.int (-1)), some (.int 0)] [] S1 rfl rfl rfl trivial ?_
  refine jLf.sub [some (.ref this), none, some (.int p2), some (.int p3), some (.int r2), some (.int (-1)), some (.int 0)] (jle_same (jle_none (jle_same (jle_same (jle_same (jle_same (jle_same (jle_nil _)))))))) ?_
  exact tX2_bestStep_9 d hd  h
