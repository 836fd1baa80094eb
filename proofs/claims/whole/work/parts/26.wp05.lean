/-! weakest preconditions, by program: X11_jilt X11_feed X11_end X11_row X11_spray X11_law X11_fault X11_force X11_isBoat X11_goes X11_of X11_will X11_oar X11_unrow X11_trail X11_unwarned X11_report X11_burn X11_solveSightings X11_could X11_lies X11_ways X11_likely X11_liars X11_round X11_reach X11_guard X11_sea X11_search X11_year X11_drawn X11_image X11_back J13_bitCount_95d88 X11_count -/
def wX11_jilt  (this : Nat) (p1 : Int32) (S : JS) (Q : Int32 → JS → Prop) : Prop :=
  jA S this 11 ∧ (¬ jR S this 0 = none ∧ (jA S (jr S this 0) 9 ∧ (¬ jR S (jr S this 0) 4 = none ∧ (jA S (jr S (jr S this 0) 4) 8 ∧ (wX8_has (jr S (jr S this 0) 4) p1 S (fun r6 S5 => (¬ r6 = 0 → jA S5 this 11 ∧ (¬ jR S5 this 3 = none ∧ (¬ jR S5 this 0 = none ∧ (jA S5 (jr S5 this 0) 9 ∧ (¬ jR S5 (jr S5 this 0) 4 = none ∧ (jA S5 (jr S5 (jr S5 this 0) 4) 8 ∧ (¬ jR S5 (jr S5 (jr S5 this 0) 4) 1 = none ∧ (jA S5 (jr S5 (jr S5 (jr S5 this 0) 4) 1) 13 ∧ (vp_in p1 (jZ S5 (jr S5 (jr S5 (jr S5 this 0) 4) 1)) ∧ (¬ jR S5 (jr S5 (jr S5 this 0) 4) 2 = none ∧ (jA S5 (jr S5 (jr S5 (jr S5 this 0) 4) 2) 13 ∧ (vp_in p1 (jZ S5 (jr S5 (jr S5 (jr S5 this 0) 4) 2)) ∧ (jA S5 (jr S5 this 3) 1 ∧ (wX1_forget (jr S5 this 3) (jI S5 (jr S5 (jr S5 (jr S5 this 0) 4) 1) p1.toNatClampNeg) (jI S5 (jr S5 (jr S5 (jr S5 this 0) 4) 2) p1.toNatClampNeg) S5 (fun S20 => jA S20 this 11 ∧ (¬ jR S20 this 0 = none ∧ (jA S20 (jr S20 this 0) 9 ∧ (¬ jR S20 (jr S20 this 0) 4 = none ∧ (jA S20 (jr S20 (jr S20 this 0) 4) 8 ∧ (wX8_drop (jr S20 (jr S20 this 0) 4) p1 S20 (fun S27 => jA S27 this 11 ∧ (¬ jR S27 this 0 = none ∧ (jA S27 (jr S27 this 0) 9 ∧ (¬ jR S27 (jr S27 this 0) 4 = none ∧ (jA S27 (jr S27 (jr S27 this 0) 4) 8 ∧ (wX11_accept this (jI S27 (jr S27 (jr S27 this 0) 4) 3) S27 (fun r36 S35 => Q r36 S35))))))))))))))))))))))))))) ∧ (r6 = 0 → jA S5 this 11 ∧ (wX11_refuse this (-2) S5 (fun r38 S37 => Q r38 S37)))))))))
set_option maxRecDepth 20000 in
theorem vX11_jilt {Q : Int32 → JS → Prop} (d : Nat) (hd : 3 ≤ d) {this : Nat} {p1 : Int32} {S : JS} (h : wX11_jilt this p1 S Q) : jCall jmt jbud d 104 [.ref this, .int p1] S (jqI Q) := by
  obtain ⟨d, rfl⟩ : ∃ d2, d = d2 + 1 := ⟨d - 1, by omega⟩
  have hd : 2 ≤ d := by omega
  have hc := jCall_mono jmt jbud d
  unfold wX11_jilt at h
  refine ⟨Nat.le_of_ble_eq_true rfl, ?_⟩
  show jLf (jCall jmt jbud d) jbud (fun j => (jmt j).rk) none mX11_jilt (jqI Q) (0, [some (.ref this), some (.int p1)], [], S, 0, 0)
  obtain ⟨g1, g2, g3, g4, h⟩ := h
  refine jLf.bk hc 4 [jA S this 11, ¬ jR S this 0 = none, jA S (jr S this 0) 9, ¬ jR S (jr S this 0) 4 = none] [some (.ref this), some (.int p1)] [.int p1, .ref (jr S (jr S this 0) 4)] S rfl rfl rfl ⟨g1, g2, g3, g4⟩ ?_
  obtain ⟨g7, h⟩ := h
  refine jLf.inv hc _ rfl (gs := [jA S (jr S (jr S this 0) 4) 8, (([] : List Value).map fun v => v.category).sum ≤ 8, 0 ≤ 0, 0 ≤ 0]) (k := 82) (args := [.ref (jr S (jr S this 0) 4), .int p1]) (r := []) (a := 0) (b := 0) rfl ⟨g7, Nat.le_of_ble_eq_true rfl, Nat.zero_le _, Nat.zero_le _⟩ (vX8_has d (by omega) h) ?_
  rintro v S5 ⟨r6, rfl, h⟩
  show jLf (jCall jmt jbud d) jbud (fun j => (jmt j).rk) none mX11_jilt (jqI Q) (5, [some (.ref this), some (.int p1)], [.int r6], S5, 0, 0)
  refine jLf.two hc _ rfl (gs := []) (p1 := ¬ r6 = 0) (p2 := ¬ (¬ r6 = 0)) (c1 := (10, [some (.ref this), some (.int p1)], [], S5, 0, 0)) (c2 := (6, [some (.ref this), some (.int p1)], [], S5, 0, 0)) rfl trivial (fun hz => ?_) (fun hz => ?_)
  · have h := h.1 hz
    obtain ⟨g8, g9, g10, g11, g12, g13, g14, g15, g16, g17, g18, g19, h⟩ := h
    refine jLf.bk hc 14 [jA S5 this 11, ¬ jR S5 this 3 = none, jA S5 this 11, ¬ jR S5 this 0 = none, jA S5 (jr S5 this 0) 9, ¬ jR S5 (jr S5 this 0) 4 = none, jA S5 (jr S5 (jr S5 this 0) 4) 8, ¬ jR S5 (jr S5 (jr S5 this 0) 4) 1 = none, jA S5 (jr S5 (jr S5 (jr S5 this 0) 4) 1) 13, vp_in p1 (jZ S5 (jr S5 (jr S5 (jr S5 this 0) 4) 1)), jA S5 this 11, ¬ jR S5 this 0 = none, jA S5 (jr S5 this 0) 9, ¬ jR S5 (jr S5 this 0) 4 = none, jA S5 (jr S5 (jr S5 this 0) 4) 8, ¬ jR S5 (jr S5 (jr S5 this 0) 4) 2 = none, jA S5 (jr S5 (jr S5 (jr S5 this 0) 4) 2) 13, vp_in p1 (jZ S5 (jr S5 (jr S5 (jr S5 this 0) 4) 2))] [some (.ref this), some (.int p1)] [.int (jI S5 (jr S5 (jr S5 (jr S5 this 0) 4) 2) p1.toNatClampNeg), .int (jI S5 (jr S5 (jr S5 (jr S5 this 0) 4) 1) p1.toNatClampNeg), .ref (jr S5 this 3)] S5 rfl rfl rfl ⟨g8, g9, g8, g10, g11, g12, g13, g14, g15, g16, g8, g10, g11, g12, g13, g17, g18, g19⟩ ?_
    obtain ⟨g22, h⟩ := h
    refine jLf.inv hc _ rfl (gs := [jA S5 (jr S5 this 3) 1, (([] : List Value).map fun v => v.category).sum ≤ 8, 0 ≤ 0, 0 ≤ 0]) (k := 9) (args := [.ref (jr S5 this 3), .int (jI S5 (jr S5 (jr S5 (jr S5 this 0) 4) 1) p1.toNatClampNeg), .int (jI S5 (jr S5 (jr S5 (jr S5 this 0) 4) 2) p1.toNatClampNeg)]) (r := []) (a := 0) (b := 0) rfl ⟨g22, Nat.le_of_ble_eq_true rfl, Nat.zero_le _, Nat.zero_le _⟩ (vX1_forget d (by omega) h) ?_
    rintro v S20 ⟨rfl, h⟩
    show jLf (jCall jmt jbud d) jbud (fun j => (jmt j).rk) none mX11_jilt (jqI Q) (25, [some (.ref this), some (.int p1)], [], S20, 0, 0)
    obtain ⟨g23, g24, g25, g26, h⟩ := h
    refine jLf.bk hc 4 [jA S20 this 11, ¬ jR S20 this 0 = none, jA S20 (jr S20 this 0) 9, ¬ jR S20 (jr S20 this 0) 4 = none] [some (.ref this), some (.int p1)] [.int p1, .ref (jr S20 (jr S20 this 0) 4)] S20 rfl rfl rfl ⟨g23, g24, g25, g26⟩ ?_
    obtain ⟨g29, h⟩ := h
    refine jLf.inv hc _ rfl (gs := [jA S20 (jr S20 (jr S20 this 0) 4) 8, (([] : List Value).map fun v => v.category).sum ≤ 8, 0 ≤ 0, 0 ≤ 0]) (k := 84) (args := [.ref (jr S20 (jr S20 this 0) 4), .int p1]) (r := []) (a := 0) (b := 0) rfl ⟨g29, Nat.le_of_ble_eq_true rfl, Nat.zero_le _, Nat.zero_le _⟩ (vX8_drop d (by omega) h) ?_
    rintro v S27 ⟨rfl, h⟩
    show jLf (jCall jmt jbud d) jbud (fun j => (jmt j).rk) none mX11_jilt (jqI Q) (30, [some (.ref this), some (.int p1)], [], S27, 0, 0)
    obtain ⟨g30, g31, g32, g33, g34, h⟩ := h
    refine jLf.bk hc 5 [jA S27 this 11, ¬ jR S27 this 0 = none, jA S27 (jr S27 this 0) 9, ¬ jR S27 (jr S27 this 0) 4 = none, jA S27 (jr S27 (jr S27 this 0) 4) 8] [some (.ref this), some (.int p1)] [.int (jI S27 (jr S27 (jr S27 this 0) 4) 3), .ref this] S27 rfl rfl rfl ⟨g30, g31, g32, g33, g34⟩ ?_
    refine jLf.inv hc _ rfl (gs := [jA S27 this 11, (([] : List Value).map fun v => v.category).sum ≤ 8, 0 ≤ 0, 0 ≤ 0]) (k := 138) (args := [.ref this, .int (jI S27 (jr S27 (jr S27 this 0) 4) 3)]) (r := []) (a := 0) (b := 0) rfl ⟨g30, Nat.le_of_ble_eq_true rfl, Nat.zero_le _, Nat.zero_le _⟩ (vX11_accept d (by omega) h) ?_
    rintro v S35 ⟨r36, rfl, h⟩
    show jLf (jCall jmt jbud d) jbud (fun j => (jmt j).rk) none mX11_jilt (jqI Q) (36, [some (.ref this), some (.int p1)], [.int r36], S35, 0, 0)
    exact jLf.ret hc _ rfl (gs := [True]) (v := some (.int r36)) rfl trivial ⟨r36, rfl, h⟩
  · have h := h.2 (Classical.not_not.mp hz)
    refine jLf.bk hc 2 [] [some (.ref this), some (.int p1)] [.int (-2), .ref this] S5 rfl rfl rfl trivial ?_
    obtain ⟨g39, h⟩ := h
    refine jLf.inv hc _ rfl (gs := [jA S5 this 11, (([] : List Value).map fun v => v.category).sum ≤ 8, 0 ≤ 0, 0 ≤ 0]) (k := 137) (args := [.ref this, .int (-2)]) (r := []) (a := 0) (b := 0) rfl ⟨g39, Nat.le_of_ble_eq_true rfl, Nat.zero_le _, Nat.zero_le _⟩ (vX11_refuse d (by omega) h) ?_
    rintro v S37 ⟨r38, rfl, h⟩
    show jLf (jCall jmt jbud d) jbud (fun j => (jmt j).rk) none mX11_jilt (jqI Q) (9, [some (.ref this), some (.int p1)], [.int r38], S37, 0, 0)
    exact jLf.ret hc _ rfl (gs := [True]) (v := some (.int r38)) rfl trivial ⟨r38, rfl, h⟩
def wX11_feed  (this : Nat) (p1 : Int32) (p2 : Int32) (p3 : Int32) (p4 : Int32) (p5 : Int32) (S : JS) (Q : Int32 → JS → Prop) : Prop :=
  jA S this 11 ∧ (¬ jR S this 2 = none ∧ (jA S (jr S this 2) 5 ∧ ((((jI S (jr S this 2) 1) + (20 : Int32)) ≤ 400 → wX5_putFour (jr S this 2) p1 S (fun S4 => jA S4 this 11 ∧ (¬ jR S4 this 2 = none ∧ (jA S4 (jr S4 this 2) 5 ∧ (wX5_putFour (jr S4 this 2) p2 S4 (fun S8 => jA S8 this 11 ∧ (¬ jR S8 this 2 = none ∧ (jA S8 (jr S8 this 2) 5 ∧ (wX5_putFour (jr S8 this 2) p3 S8 (fun S13 => jA S13 this 11 ∧ (¬ jR S13 this 2 = none ∧ (jA S13 (jr S13 this 2) 5 ∧ (wX5_putFour (jr S13 this 2) p4 S13 (fun S18 => jA S18 this 11 ∧ (¬ jR S18 this 2 = none ∧ (jA S18 (jr S18 this 2) 5 ∧ (wX5_putFour (jr S18 this 2) p5 S18 (fun S23 => jA S23 this 11 ∧ (¬ jR S23 this 2 = none ∧ (jA S23 (jr S23 this 2) 5 ∧ (Q (jI S23 (jr S23 this 2) 1) S23))))))))))))))))))))) ∧ (¬ (((jI S (jr S this 2) 1) + (20 : Int32)) ≤ 400) → Q (-1) S))))
set_option maxRecDepth 20000 in
theorem vX11_feed {Q : Int32 → JS → Prop} (d : Nat) (hd : 2 ≤ d) {this : Nat} {p1 : Int32} {p2 : Int32} {p3 : Int32} {p4 : Int32} {p5 : Int32} {S : JS} (h : wX11_feed this p1 p2 p3 p4 p5 S Q) : jCall jmt jbud d 105 [.ref this, .int p1, .int p2, .int p3, .int p4, .int p5] S (jqI Q) := by
  obtain ⟨d, rfl⟩ : ∃ d2, d = d2 + 1 := ⟨d - 1, by omega⟩
  have hd : 1 ≤ d := by omega
  have hc := jCall_mono jmt jbud d
  unfold wX11_feed at h
  refine ⟨Nat.le_of_ble_eq_true rfl, ?_⟩
  show jLf (jCall jmt jbud d) jbud (fun j => (jmt j).rk) none mX11_feed (jqI Q) (0, [some (.ref this), some (.int p1), some (.int p2), some (.int p3), some (.int p4), some (.int p5)], [], S, 0, 0)
  obtain ⟨g1, g2, g3, h⟩ := h
  refine jLf.bk hc 6 [jA S this 11, ¬ jR S this 2 = none, jA S (jr S this 2) 5] [some (.ref this), some (.int p1), some (.int p2), some (.int p3), some (.int p4), some (.int p5)] [.int 400, .int ((jI S (jr S this 2) 1) + (20 : Int32))] S rfl rfl rfl ⟨g1, g2, g3⟩ ?_
  refine jLf.two hc _ rfl (gs := []) (p1 := ((jI S (jr S this 2) 1) + (20 : Int32)) ≤ 400) (p2 := ¬ (((jI S (jr S this 2) 1) + (20 : Int32)) ≤ 400)) (c1 := (9, [some (.ref this), some (.int p1), some (.int p2), some (.int p3), some (.int p4), some (.int p5)], [], S, 0, 0)) (c2 := (7, [some (.ref this), some (.int p1), some (.int p2), some (.int p3), some (.int p4), some (.int p5)], [], S, 0, 0)) rfl trivial (fun hz => ?_) (fun hz => ?_)
  · have h := h.1 hz
    refine jLf.bk hc 3 [jA S this 11, ¬ jR S this 2 = none] [some (.ref this), some (.int p1), some (.int p2), some (.int p3), some (.int p4), some (.int p5)] [.int p1, .ref (jr S this 2)] S rfl rfl rfl ⟨g1, g2⟩ ?_
    refine jLf.inv hc _ rfl (gs := [jA S (jr S this 2) 5, (([] : List Value).map fun v => v.category).sum ≤ 8, 0 ≤ 0, 0 ≤ 0]) (k := 32) (args := [.ref (jr S this 2), .int p1]) (r := []) (a := 0) (b := 0) rfl ⟨g3, Nat.le_of_ble_eq_true rfl, Nat.zero_le _, Nat.zero_le _⟩ (vX5_putFour d (by omega) h) ?_
    rintro v S4 ⟨rfl, h⟩
    show jLf (jCall jmt jbud d) jbud (fun j => (jmt j).rk) none mX11_feed (jqI Q) (13, [some (.ref this), some (.int p1), some (.int p2), some (.int p3), some (.int p4), some (.int p5)], [], S4, 0, 0)
    obtain ⟨g6, g7, h⟩ := h
    refine jLf.bk hc 3 [jA S4 this 11, ¬ jR S4 this 2 = none] [some (.ref this), some (.int p1), some (.int p2), some (.int p3), some (.int p4), some (.int p5)] [.int p2, .ref (jr S4 this 2)] S4 rfl rfl rfl ⟨g6, g7⟩ ?_
    obtain ⟨g10, h⟩ := h
    refine jLf.inv hc _ rfl (gs := [jA S4 (jr S4 this 2) 5, (([] : List Value).map fun v => v.category).sum ≤ 8, 0 ≤ 0, 0 ≤ 0]) (k := 32) (args := [.ref (jr S4 this 2), .int p2]) (r := []) (a := 0) (b := 0) rfl ⟨g10, Nat.le_of_ble_eq_true rfl, Nat.zero_le _, Nat.zero_le _⟩ (vX5_putFour d (by omega) h) ?_
    rintro v S8 ⟨rfl, h⟩
    show jLf (jCall jmt jbud d) jbud (fun j => (jmt j).rk) none mX11_feed (jqI Q) (17, [some (.ref this), some (.int p1), some (.int p2), some (.int p3), some (.int p4), some (.int p5)], [], S8, 0, 0)
    obtain ⟨g11, g12, h⟩ := h
    refine jLf.bk hc 3 [jA S8 this 11, ¬ jR S8 this 2 = none] [some (.ref this), some (.int p1), some (.int p2), some (.int p3), some (.int p4), some (.int p5)] [.int p3, .ref (jr S8 this 2)] S8 rfl rfl rfl ⟨g11, g12⟩ ?_
    obtain ⟨g15, h⟩ := h
    refine jLf.inv hc _ rfl (gs := [jA S8 (jr S8 this 2) 5, (([] : List Value).map fun v => v.category).sum ≤ 8, 0 ≤ 0, 0 ≤ 0]) (k := 32) (args := [.ref (jr S8 this 2), .int p3]) (r := []) (a := 0) (b := 0) rfl ⟨g15, Nat.le_of_ble_eq_true rfl, Nat.zero_le _, Nat.zero_le _⟩ (vX5_putFour d (by omega) h) ?_
    rintro v S13 ⟨rfl, h⟩
    show jLf (jCall jmt jbud d) jbud (fun j => (jmt j).rk) none mX11_feed (jqI Q) (21, [some (.ref this), some (.int p1), some (.int p2), some (.int p3), some (.int p4), some (.int p5)], [], S13, 0, 0)
    obtain ⟨g16, g17, h⟩ := h
    refine jLf.bk hc 3 [jA S13 this 11, ¬ jR S13 this 2 = none] [some (.ref this), some (.int p1), some (.int p2), some (.int p3), some (.int p4), some (.int p5)] [.int p4, .ref (jr S13 this 2)] S13 rfl rfl rfl ⟨g16, g17⟩ ?_
    obtain ⟨g20, h⟩ := h
    refine jLf.inv hc _ rfl (gs := [jA S13 (jr S13 this 2) 5, (([] : List Value).map fun v => v.category).sum ≤ 8, 0 ≤ 0, 0 ≤ 0]) (k := 32) (args := [.ref (jr S13 this 2), .int p4]) (r := []) (a := 0) (b := 0) rfl ⟨g20, Nat.le_of_ble_eq_true rfl, Nat.zero_le _, Nat.zero_le _⟩ (vX5_putFour d (by omega) h) ?_
    rintro v S18 ⟨rfl, h⟩
    show jLf (jCall jmt jbud d) jbud (fun j => (jmt j).rk) none mX11_feed (jqI Q) (25, [some (.ref this), some (.int p1), some (.int p2), some (.int p3), some (.int p4), some (.int p5)], [], S18, 0, 0)
    obtain ⟨g21, g22, h⟩ := h
    refine jLf.bk hc 3 [jA S18 this 11, ¬ jR S18 this 2 = none] [some (.ref this), some (.int p1), some (.int p2), some (.int p3), some (.int p4), some (.int p5)] [.int p5, .ref (jr S18 this 2)] S18 rfl rfl rfl ⟨g21, g22⟩ ?_
    obtain ⟨g25, h⟩ := h
    refine jLf.inv hc _ rfl (gs := [jA S18 (jr S18 this 2) 5, (([] : List Value).map fun v => v.category).sum ≤ 8, 0 ≤ 0, 0 ≤ 0]) (k := 32) (args := [.ref (jr S18 this 2), .int p5]) (r := []) (a := 0) (b := 0) rfl ⟨g25, Nat.le_of_ble_eq_true rfl, Nat.zero_le _, Nat.zero_le _⟩ (vX5_putFour d (by omega) h) ?_
    rintro v S23 ⟨rfl, h⟩
    show jLf (jCall jmt jbud d) jbud (fun j => (jmt j).rk) none mX11_feed (jqI Q) (29, [some (.ref this), some (.int p1), some (.int p2), some (.int p3), some (.int p4), some (.int p5)], [], S23, 0, 0)
    obtain ⟨g26, g27, g28, h⟩ := h
    refine jLf.bk hc 3 [jA S23 this 11, ¬ jR S23 this 2 = none, jA S23 (jr S23 this 2) 5] [some (.ref this), some (.int p1), some (.int p2), some (.int p3), some (.int p4), some (.int p5)] [.int (jI S23 (jr S23 this 2) 1)] S23 rfl rfl rfl ⟨g26, g27, g28⟩ ?_
    exact jLf.ret hc _ rfl (gs := [True]) (v := some (.int (jI S23 (jr S23 this 2) 1))) rfl trivial ⟨jI S23 (jr S23 this 2) 1, rfl, h⟩
  · have h := h.2 hz
    refine jLf.bk hc 1 [] [some (.ref this), some (.int p1), some (.int p2), some (.int p3), some (.int p4), some (.int p5)] [.int (-1)] S rfl rfl rfl trivial ?_
    exact jLf.ret hc _ rfl (gs := [True]) (v := some (.int (-1))) rfl trivial ⟨(-1), rfl, h⟩
def wX11_end  (this : Nat) (p1 : Int32) (S : JS) (Q : Int32 → JS → Prop) : Prop :=
  (p1 < 0 → Q (-1) S) ∧ (¬ (p1 < 0) → jA S this 11 ∧ (¬ jR S this 2 = none ∧ (jA S (jr S this 2) 5 ∧ ((p1 ≤ (jI S (jr S this 2) 1) → ∀ S4 : JS, S4 = uI S (jr S this 2) 1 p1 → (Q p1 S4)) ∧ (¬ (p1 ≤ (jI S (jr S this 2) 1)) → Q (-1) S)))))
set_option maxRecDepth 20000 in
theorem vX11_end {Q : Int32 → JS → Prop} (d : Nat) (hd : 1 ≤ d) {this : Nat} {p1 : Int32} {S : JS} (h : wX11_end this p1 S Q) : jCall jmt jbud d 106 [.ref this, .int p1] S (jqI Q) := by
  obtain ⟨d, rfl⟩ : ∃ d2, d = d2 + 1 := ⟨d - 1, by omega⟩
  have hd : 0 ≤ d := by omega
  have hc := jCall_mono jmt jbud d
  unfold wX11_end at h
  refine ⟨Nat.le_of_ble_eq_true rfl, ?_⟩
  show jLf (jCall jmt jbud d) jbud (fun j => (jmt j).rk) none mX11_end (jqI Q) (0, [some (.ref this), some (.int p1)], [], S, 0, 0)
  refine jLf.bk hc 1 [] [some (.ref this), some (.int p1)] [.int p1] S rfl rfl rfl trivial ?_
  refine jLf.two hc _ rfl (gs := []) (p1 := p1 < 0) (p2 := ¬ (p1 < 0)) (c1 := (7, [some (.ref this), some (.int p1)], [], S, 0, 0)) (c2 := (2, [some (.ref this), some (.int p1)], [], S, 0, 0)) rfl trivial (fun hz => ?_) (fun hz => ?_)
  · have h := h.1 hz
    refine jLf.bk hc 1 [] [some (.ref this), some (.int p1)] [.int (-1)] S rfl rfl rfl trivial ?_
    exact jLf.ret hc _ rfl (gs := [True]) (v := some (.int (-1))) rfl trivial ⟨(-1), rfl, h⟩
  · have h := h.2 hz
    obtain ⟨g1, g2, g3, h⟩ := h
    refine jLf.bk hc 4 [jA S this 11, ¬ jR S this 2 = none, jA S (jr S this 2) 5] [some (.ref this), some (.int p1)] [.int (jI S (jr S this 2) 1), .int p1] S rfl rfl rfl ⟨g1, g2, g3⟩ ?_
    refine jLf.two hc _ rfl (gs := []) (p1 := p1 ≤ (jI S (jr S this 2) 1)) (p2 := ¬ (p1 ≤ (jI S (jr S this 2) 1))) (c1 := (9, [some (.ref this), some (.int p1)], [], S, 0, 0)) (c2 := (7, [some (.ref this), some (.int p1)], [], S, 0, 0)) rfl trivial (fun hz => ?_) (fun hz => ?_)
    · have h := h.1 hz
      refine jLf.bk hc 4 [jA S this 11, ¬ jR S this 2 = none, jA S (jr S this 2) 5] [some (.ref this), some (.int p1)] [] (uI S (jr S this 2) 1 p1) rfl rfl rfl ⟨g1, g2, g3⟩ ?_
      generalize eS4 : uI S (jr S this 2) 1 p1 = S4
      have h := h S4 eS4.symm
      refine jLf.bk hc 1 [] [some (.ref this), some (.int p1)] [.int p1] S4 rfl rfl rfl trivial ?_
      exact jLf.ret hc _ rfl (gs := [True]) (v := some (.int p1)) rfl trivial ⟨p1, rfl, h⟩
    · have h := h.2 hz
      refine jLf.bk hc 1 [] [some (.ref this), some (.int p1)] [.int (-1)] S rfl rfl rfl trivial ?_
      exact jLf.ret hc _ rfl (gs := [True]) (v := some (.int (-1))) rfl trivial ⟨(-1), rfl, h⟩
def wX11_row_52  (X15 : Nat → Int32 → Int32 → JS → Prop) (l0 : Nat) (l1 : Int32) (l2 : Int32) (S : JS) (Q : Int32 → JS → Prop) : Prop :=
  ∀ x23 : Int32, x23 = (l2 + 1) → (X15 l0 l1 x23 S)
set_option maxRecDepth 20000 in
theorem tX11_row_52 {Q : Int32 → JS → Prop} {X15 : Nat → Int32 → Int32 → JS → Prop} (d : Nat) (hd : 2 ≤ d) (hX15 : ∀ l0 l1 l2 S, X15 l0 l1 l2 S → jLf (jCall jmt jbud d) jbud (fun j => (jmt j).rk) none mX11_row (jqI Q) (15, [some (.ref l0), some (.int l1), some (.int l2), none], [], S, 0, 0)) {l0 : Nat} {l1 : Int32} {l2 : Int32} {S : JS} (h : wX11_row_52 X15 l0 l1 l2 S Q) : jLf (jCall jmt jbud d) jbud (fun j => (jmt j).rk) none mX11_row (jqI Q) (52, [some (.ref l0), some (.int l1), some (.int l2), none], [], S, 0, 0) := by
  have hc := jCall_mono jmt jbud d
  unfold wX11_row_52 at h
  refine jLf.bk hc 1 [] [some (.ref l0), some (.int l1), some (.int (l2 + 1)), none] [] S rfl rfl rfl trivial ?_
  generalize ex23 : (l2 + 1 : Int32) = x23
  have h := h x23 ex23.symm
  refine jLf.one hc _ rfl (gs := []) (c := (15, [some (.ref l0), some (.int l1), some (.int x23), none], [], S, 0, 0)) rfl trivial ?_
  exact hX15 _ _ _ _ h
def bX11_row_15   (X15 : Nat → Int32 → Int32 → JS → Prop) (l0 : Nat) (l1 : Int32) (l2 : Int32) (S : JS) (Q : Int32 → JS → Prop) : Prop :=
  jA S l0 11 ∧ (¬ jR S l0 2 = none ∧ (jA S (jr S l0 2) 5 ∧ (((jI S (jr S l0 2) 1) ≤ l2 → ∀ S8 : JS, S8 = uI S (jr S l0 2) 1 0 → (jA S8 l0 11 ∧ (wX11_accept l0 l1 S8 (fun r10 S9 => Q r10 S9)))) ∧ (¬ ((jI S (jr S l0 2) 1) ≤ l2) → ¬ jR S (jr S l0 2) 0 = none ∧ (jA S (jr S (jr S l0 2) 0) 13 ∧ (vp_in l2 (jZ S (jr S (jr S l0 2) 0)) ∧ (∀ x15 : Int32, x15 = (jI S (jr S (jr S l0 2) 0) l2.toNatClampNeg) → (wX11_isNight x15 S (fun r17 S16 => (¬ r17 = 0 → jA S16 l0 11 ∧ (¬ jR S16 l0 0 = none ∧ (jA S16 (jr S16 l0 0) 9 ∧ (wX9_stormOn (jr S16 l0 0) x15 S16 (fun r21 S20 => (¬ r21 = 0 → wX11_row_52 X15 l0 l1 l2 S20 Q) ∧ (r21 = 0 → jA S20 l0 11 ∧ (¬ jR S20 l0 0 = none ∧ (jA S20 (jr S20 l0 0) 9 ∧ (wX9_setStorm (jr S20 l0 0) x15 1 S20 (fun S26 => jA S26 l0 11 ∧ (¬ jR S26 l0 3 = none ∧ (jA S26 (jr S26 l0 3) 1 ∧ (wX1_forget (jr S26 l0 3) x15 x15 S26 (fun S31 => ∀ x34 : Int32, x34 = (l1 + 1) → (wX11_row_52 X15 l0 x34 l2 S31 Q))))))))))))))) ∧ (r17 = 0 → jA S16 l0 11 ∧ (∀ S36 : JS, S36 = uI S16 l0 10 ((jI S16 l0 10) + (1 : Int32)) → (wX11_row_52 X15 l0 l1 l2 S36 Q))))))))))))
set_option maxRecDepth 20000 in
theorem uX11_row_15 {Q : Int32 → JS → Prop}  (d : Nat) (hd : 2 ≤ d) {X15 : Nat → Int32 → Int32 → JS → Prop} (hX15 : ∀ l0 l1 l2 S, X15 l0 l1 l2 S → jLf (jCall jmt jbud d) jbud (fun j => (jmt j).rk) none mX11_row (jqI Q) (15, [some (.ref l0), some (.int l1), some (.int l2), none], [], S, 0, 0)) {l0 : Nat} {l1 : Int32} {l2 : Int32} {S : JS} (h : bX11_row_15 X15 l0 l1 l2 S Q) : jLf (jCall jmt jbud d) jbud (fun j => (jmt j).rk) none mX11_row (jqI Q) (15, [some (.ref l0), some (.int l1), some (.int l2), none], [], S, 0, 0) := by
  have hc := jCall_mono jmt jbud d
  unfold bX11_row_15 at h
  obtain ⟨g5, g6, g7, h⟩ := h
  refine jLf.bk hc 4 [jA S l0 11, ¬ jR S l0 2 = none, jA S (jr S l0 2) 5] [some (.ref l0), some (.int l1), some (.int l2), none] [.int (jI S (jr S l0 2) 1), .int l2] S rfl rfl rfl ⟨g5, g6, g7⟩ ?_
  refine jLf.two hc _ rfl (gs := []) (p1 := (jI S (jr S l0 2) 1) ≤ l2) (p2 := ¬ ((jI S (jr S l0 2) 1) ≤ l2)) (c1 := (54, [some (.ref l0), some (.int l1), some (.int l2), none], [], S, 0, 0)) (c2 := (20, [some (.ref l0), some (.int l1), some (.int l2), none], [], S, 0, 0)) rfl trivial (fun hz => ?_) (fun hz => ?_)
  · have h := h.1 hz
    refine jLf.bk hc 4 [jA S l0 11, ¬ jR S l0 2 = none, jA S (jr S l0 2) 5] [some (.ref l0), some (.int l1), some (.int l2), none] [] (uI S (jr S l0 2) 1 0) rfl rfl rfl ⟨g5, g6, g7⟩ ?_
    generalize eS8 : uI S (jr S l0 2) 1 0 = S8
    have h := h S8 eS8.symm
    refine jLf.bk hc 2 [] [some (.ref l0), some (.int l1), some (.int l2), none] [.int l1, .ref l0] S8 rfl rfl rfl trivial ?_
    obtain ⟨g11, h⟩ := h
    refine jLf.inv hc _ rfl (gs := [jA S8 l0 11, (([] : List Value).map fun v => v.category).sum ≤ 8, 0 ≤ 0, 0 ≤ 0]) (k := 138) (args := [.ref l0, .int l1]) (r := []) (a := 0) (b := 0) rfl ⟨g11, Nat.le_of_ble_eq_true rfl, Nat.zero_le _, Nat.zero_le _⟩ (vX11_accept d (by omega) h) ?_
    rintro v S9 ⟨r10, rfl, h⟩
    show jLf (jCall jmt jbud d) jbud (fun j => (jmt j).rk) none mX11_row (jqI Q) (61, [some (.ref l0), some (.int l1), some (.int l2), none], [.int r10], S9, 0, 0)
    exact jLf.ret hc _ rfl (gs := [True]) (v := some (.int r10)) rfl trivial ⟨r10, rfl, h⟩
  · have h := h.2 hz
    obtain ⟨g12, g13, g14, h⟩ := h
    refine jLf.bk hc 6 [jA S l0 11, ¬ jR S l0 2 = none, jA S (jr S l0 2) 5, ¬ jR S (jr S l0 2) 0 = none, jA S (jr S (jr S l0 2) 0) 13, vp_in l2 (jZ S (jr S (jr S l0 2) 0))] [some (.ref l0), some (.int l1), some (.int l2), some (.int (jI S (jr S (jr S l0 2) 0) l2.toNatClampNeg))] [] S rfl rfl rfl ⟨g5, g6, g7, g12, g13, g14⟩ ?_
    generalize ex15 : (jI S (jr S (jr S l0 2) 0) l2.toNatClampNeg : Int32) = x15
    have h := h x15 ex15.symm
    refine jLf.bk hc 1 [] [some (.ref l0), some (.int l1), some (.int l2), some (.int x15)] [.int x15] S rfl rfl rfl trivial ?_
    refine jLf.inv hc _ rfl (gs := [1 ≤ ([.int x15] : List Value).length, (([] : List Value).map fun v => v.category).sum ≤ 8, 0 ≤ 0, 0 ≤ 0]) (k := 143) (args := [.int x15]) (r := []) (a := 0) (b := 0) rfl ⟨Nat.le_of_ble_eq_true rfl, Nat.le_of_ble_eq_true rfl, Nat.zero_le _, Nat.zero_le _⟩ (vX11_isNight d (by omega) h) ?_
    rintro v S16 ⟨r17, rfl, h⟩
    show jLf (jCall jmt jbud d) jbud (fun j => (jmt j).rk) none mX11_row (jqI Q) (28, [some (.ref l0), some (.int l1), some (.int l2), some (.int x15)], [.int r17], S16, 0, 0)
    refine jLf.two hc _ rfl (gs := []) (p1 := ¬ r17 = 0) (p2 := ¬ (¬ r17 = 0)) (c1 := (36, [some (.ref l0), some (.int l1), some (.int l2), some (.int x15)], [], S16, 0, 0)) (c2 := (29, [some (.ref l0), some (.int l1), some (.int l2), some (.int x15)], [], S16, 0, 0)) rfl trivial (fun hz => ?_) (fun hz => ?_)
    · have h := h.1 hz
      obtain ⟨g18, g19, h⟩ := h
      refine jLf.bk hc 3 [jA S16 l0 11, ¬ jR S16 l0 0 = none] [some (.ref l0), some (.int l1), some (.int l2), some (.int x15)] [.int x15, .ref (jr S16 l0 0)] S16 rfl rfl rfl ⟨g18, g19⟩ ?_
      obtain ⟨g22, h⟩ := h
      refine jLf.inv hc _ rfl (gs := [jA S16 (jr S16 l0 0) 9, (([] : List Value).map fun v => v.category).sum ≤ 8, 0 ≤ 0, 0 ≤ 0]) (k := 89) (args := [.ref (jr S16 l0 0), .int x15]) (r := []) (a := 0) (b := 0) rfl ⟨g22, Nat.le_of_ble_eq_true rfl, Nat.zero_le _, Nat.zero_le _⟩ (vX9_stormOn d (by omega) h) ?_
      rintro v S20 ⟨r21, rfl, h⟩
      show jLf (jCall jmt jbud d) jbud (fun j => (jmt j).rk) none mX11_row (jqI Q) (40, [some (.ref l0), some (.int l1), some (.int l2), some (.int x15)], [.int r21], S20, 0, 0)
      refine jLf.two hc _ rfl (gs := []) (p1 := ¬ r21 = 0) (p2 := ¬ (¬ r21 = 0)) (c1 := (52, [some (.ref l0), some (.int l1), some (.int l2), some (.int x15)], [], S20, 0, 0)) (c2 := (41, [some (.ref l0), some (.int l1), some (.int l2), some (.int x15)], [], S20, 0, 0)) rfl trivial (fun hz => ?_) (fun hz => ?_)
      · have h := h.1 hz
        refine jLf.sub [some (.ref l0), some (.int l1), some (.int l2), none] (jle_same (jle_same (jle_same (jle_none (jle_nil _))))) ?_
        exact tX11_row_52 d hd hX15 h
      · have h := h.2 (Classical.not_not.mp hz)
        obtain ⟨g24, g25, h⟩ := h
        refine jLf.bk hc 4 [jA S20 l0 11, ¬ jR S20 l0 0 = none] [some (.ref l0), some (.int l1), some (.int l2), some (.int x15)] [.int 1, .int x15, .ref (jr S20 l0 0)] S20 rfl rfl rfl ⟨g24, g25⟩ ?_
        obtain ⟨g28, h⟩ := h
        refine jLf.inv hc _ rfl (gs := [jA S20 (jr S20 l0 0) 9, (([] : List Value).map fun v => v.category).sum ≤ 8, 0 ≤ 0, 0 ≤ 0]) (k := 90) (args := [.ref (jr S20 l0 0), .int x15, .int 1]) (r := []) (a := 0) (b := 0) rfl ⟨g28, Nat.le_of_ble_eq_true rfl, Nat.zero_le _, Nat.zero_le _⟩ (vX9_setStorm d (by omega) h) ?_
        rintro v S26 ⟨rfl, h⟩
        show jLf (jCall jmt jbud d) jbud (fun j => (jmt j).rk) none mX11_row (jqI Q) (46, [some (.ref l0), some (.int l1), some (.int l2), some (.int x15)], [], S26, 0, 0)
        obtain ⟨g29, g30, h⟩ := h
        refine jLf.bk hc 4 [jA S26 l0 11, ¬ jR S26 l0 3 = none] [some (.ref l0), some (.int l1), some (.int l2), some (.int x15)] [.int x15, .int x15, .ref (jr S26 l0 3)] S26 rfl rfl rfl ⟨g29, g30⟩ ?_
        obtain ⟨g33, h⟩ := h
        refine jLf.inv hc _ rfl (gs := [jA S26 (jr S26 l0 3) 1, (([] : List Value).map fun v => v.category).sum ≤ 8, 0 ≤ 0, 0 ≤ 0]) (k := 9) (args := [.ref (jr S26 l0 3), .int x15, .int x15]) (r := []) (a := 0) (b := 0) rfl ⟨g33, Nat.le_of_ble_eq_true rfl, Nat.zero_le _, Nat.zero_le _⟩ (vX1_forget d (by omega) h) ?_
        rintro v S31 ⟨rfl, h⟩
        show jLf (jCall jmt jbud d) jbud (fun j => (jmt j).rk) none mX11_row (jqI Q) (51, [some (.ref l0), some (.int l1), some (.int l2), some (.int x15)], [], S31, 0, 0)
        refine jLf.bk hc 1 [] [some (.ref l0), some (.int (l1 + 1)), some (.int l2), some (.int x15)] [] S31 rfl rfl rfl trivial ?_
        generalize ex34 : (l1 + 1 : Int32) = x34
        have h := h x34 ex34.symm
        refine jLf.sub [some (.ref l0), some (.int x34), some (.int l2), none] (jle_same (jle_same (jle_same (jle_none (jle_nil _))))) ?_
        exact tX11_row_52 d hd hX15 h
    · have h := h.2 (Classical.not_not.mp hz)
      obtain ⟨g35, h⟩ := h
      refine jLf.bk hc 6 [(.ref l0 : Value).category = 1, jA S16 l0 11, jA S16 l0 11] [some (.ref l0), some (.int l1), some (.int l2), some (.int x15)] [] (uI S16 l0 10 ((jI S16 l0 10) + (1 : Int32))) rfl rfl rfl ⟨rfl, g35, g35⟩ ?_
      generalize eS36 : uI S16 l0 10 ((jI S16 l0 10) + (1 : Int32)) = S36
      have h := h S36 eS36.symm
      refine jLf.one hc _ rfl (gs := []) (c := (52, [some (.ref l0), some (.int l1), some (.int l2), some (.int x15)], [], S36, 0, 0)) rfl trivial ?_
      refine jLf.sub [some (.ref l0), some (.int l1), some (.int l2), none] (jle_same (jle_same (jle_same (jle_none (jle_nil _))))) ?_
      exact tX11_row_52 d hd hX15 h
def wX11_row_15   (l0 : Nat) (l1 : Int32) (l2 : Int32) (S : JS) (Q : Int32 → JS → Prop) : Prop :=
  jLoop (fun (X15 : Nat × Int32 × Int32 × JS → Prop) q => bX11_row_15 (fun l0 l1 l2 S => X15 (l0, l1, l2, S)) q.1 q.2.1 q.2.2.1 q.2.2.2 Q) (l0, l1, l2, S)
set_option maxRecDepth 20000 in
theorem tX11_row_15 {Q : Int32 → JS → Prop}  (d : Nat) (hd : 2 ≤ d) {l0 : Nat} {l1 : Int32} {l2 : Int32} {S : JS} (h : wX11_row_15 l0 l1 l2 S Q) : jLf (jCall jmt jbud d) jbud (fun j => (jmt j).rk) none mX11_row (jqI Q) (15, [some (.ref l0), some (.int l1), some (.int l2), none], [], S, 0, 0) := by
  have := h (fun q : Nat × Int32 × Int32 × JS => jLf (jCall jmt jbud d) jbud (fun j => (jmt j).rk) none mX11_row (jqI Q) (15, [some (.ref (q.1)), some (.int (q.2.1)), some (.int (q.2.2.1)), none], [], q.2.2.2, 0, 0)) (fun q R hb hR => uX11_row_15 d hd  (fun _ _ _ _ => hR _) hb)
  exact this
def wX11_row  (this : Nat) (S : JS) (Q : Int32 → JS → Prop) : Prop :=
  jA S this 11 ∧ (¬ jR S this 2 = none ∧ (jA S (jr S this 2) 5 ∧ ((¬ (jI S (jr S this 2) 1) = 0 → ∀ S4 : JS, S4 = uI S this 10 0 → (wX11_row_15 this 0 0 S4 Q)) ∧ ((jI S (jr S this 2) 1) = 0 → wX11_refuse this (-6) S (fun r38 S37 => Q r38 S37)))))
set_option maxRecDepth 20000 in
theorem vX11_row {Q : Int32 → JS → Prop} (d : Nat) (hd : 3 ≤ d) {this : Nat} {S : JS} (h : wX11_row this S Q) : jCall jmt jbud d 107 [.ref this] S (jqI Q) := by
  obtain ⟨d, rfl⟩ : ∃ d2, d = d2 + 1 := ⟨d - 1, by omega⟩
  have hd : 2 ≤ d := by omega
  have hc := jCall_mono jmt jbud d
  unfold wX11_row at h
  refine ⟨Nat.le_of_ble_eq_true rfl, ?_⟩
  show jLf (jCall jmt jbud d) jbud (fun j => (jmt j).rk) none mX11_row (jqI Q) (0, [some (.ref this), none, none, none], [], S, 0, 0)
  obtain ⟨g1, g2, g3, h⟩ := h
  refine jLf.bk hc 3 [jA S this 11, ¬ jR S this 2 = none, jA S (jr S this 2) 5] [some (.ref this), none, none, none] [.int (jI S (jr S this 2) 1)] S rfl rfl rfl ⟨g1, g2, g3⟩ ?_
  refine jLf.two hc _ rfl (gs := []) (p1 := ¬ (jI S (jr S this 2) 1) = 0) (p2 := ¬ (¬ (jI S (jr S this 2) 1) = 0)) (c1 := (8, [some (.ref this), none, none, none], [], S, 0, 0)) (c2 := (4, [some (.ref this), none, none, none], [], S, 0, 0)) rfl trivial (fun hz => ?_) (fun hz => ?_)
  · have h := h.1 hz
    refine jLf.bk hc 3 [jA S this 11] [some (.ref this), none, none, none] [] (uI S this 10 0) rfl rfl rfl g1 ?_
    generalize eS4 : uI S this 10 0 = S4
    have h := h S4 eS4.symm
    refine jLf.bk hc 4 [] [some (.ref this), some (.int 0), some (.int 0), none] [] S4 rfl rfl rfl trivial ?_
    exact tX11_row_15 d hd  h
  · have h := h.2 (Classical.not_not.mp hz)
    refine jLf.bk hc 2 [] [some (.ref this), none, none, none] [.int (-6), .ref this] S rfl rfl rfl trivial ?_
    refine jLf.inv hc _ rfl (gs := [jA S this 11, (([] : List Value).map fun v => v.category).sum ≤ 8, 0 ≤ 0, 0 ≤ 0]) (k := 137) (args := [.ref this, .int (-6)]) (r := []) (a := 0) (b := 0) rfl ⟨g1, Nat.le_of_ble_eq_true rfl, Nat.zero_le _, Nat.zero_le _⟩ (vX11_refuse d (by omega) h) ?_
    rintro v S37 ⟨r38, rfl, h⟩
    show jLf (jCall jmt jbud d) jbud (fun j => (jmt j).rk) none mX11_row (jqI Q) (7, [some (.ref this), none, none, none], [.int r38], S37, 0, 0)
    exact jLf.ret hc _ rfl (gs := [True]) (v := some (.int r38)) rfl trivial ⟨r38, rfl, h⟩
def wX11_spray  (this : Nat) (S : JS) (Q : Int32 → JS → Prop) : Prop :=
  jA S this 11 ∧ (Q (jI S this 10) S)
set_option maxRecDepth 20000 in
theorem vX11_spray {Q : Int32 → JS → Prop} (d : Nat) (hd : 1 ≤ d) {this : Nat} {S : JS} (h : wX11_spray this S Q) : jCall jmt jbud d 108 [.ref this] S (jqI Q) := by
  obtain ⟨d, rfl⟩ : ∃ d2, d = d2 + 1 := ⟨d - 1, by omega⟩
  have hd : 0 ≤ d := by omega
  have hc := jCall_mono jmt jbud d
  unfold wX11_spray at h
  refine ⟨Nat.le_of_ble_eq_true rfl, ?_⟩
  show jLf (jCall jmt jbud d) jbud (fun j => (jmt j).rk) none mX11_spray (jqI Q) (0, [some (.ref this)], [], S, 0, 0)
  obtain ⟨g1, h⟩ := h
  refine jLf.bk hc 2 [jA S this 11] [some (.ref this)] [.int (jI S this 10)] S rfl rfl rfl g1 ?_
  exact jLf.ret hc _ rfl (gs := [True]) (v := some (.int (jI S this 10))) rfl trivial ⟨jI S this 10, rfl, h⟩
def wX11_law_25 (G : Nat → List Value → JS → (Option Value → JS → Prop) → Prop)  (l0 : Nat) (l1 : Nat) (s0 : Int32) (s1 : Nat) (S : JS) (Q : Int32 → JS → Prop) : Prop :=
  jA S s1 11 ∧ (∀ S9 : JS, S9 = uI S s1 11 s0 → (jA S9 l0 11 ∧ (¬ jR S9 l0 2 = none ∧ (jA S9 (jr S9 l0 2) 5 ∧ (∀ S13 : JS, S13 = uI S9 (jr S9 l0 2) 1 0 → (jA S13 l0 11 ∧ (¬ jR S13 l0 0 = none ∧ (jA S13 (jr S13 l0 0) 9 ∧ (¬ jR S13 (jr S13 l0 0) 6 = none ∧ (jA S13 (jr S13 (jr S13 l0 0) 6) 16 ∧ (jA S13 l1 3 ∧ (vp_in (jI S13 (jr S13 l0 0) 7) (jZ S13 (jr S13 (jr S13 l0 0) 6)) ∧ (∀ S21 : JS, S21 = uR S13 (jr S13 (jr S13 l0 0) 6) (jI S13 (jr S13 l0 0) 7).toNatClampNeg (some l1) → (jA S21 l0 11 ∧ (¬ jR S21 l0 0 = none ∧ (jA S21 (jr S21 l0 0) 9 ∧ (∀ S25 : JS, S25 = uI S21 (jr S21 l0 0) 7 ((jI S21 (jr S21 l0 0) 7) + (1 : Int32)) → (jA S25 l0 11 ∧ (¬ jR S25 l0 0 = none ∧ (jA S25 (jr S25 l0 0) 9 ∧ (wX11_accept l0 ((jI S25 (jr S25 l0 0) 7) - (1 : Int32)) S25 (fun r30 S29 => Q r30 S29))))))))))))))))))))))
set_option maxRecDepth 20000 in
theorem tX11_law_25 {Q : Int32 → JS → Prop} {G : Nat → List Value → JS → (Option Value → JS → Prop) → Prop}  (d : Nat) (hd : 1 ≤ d) (hG : ∀ k args S Q, G k args S Q → jCall jmt jbud d k args S Q) {l0 : Nat} {l1 : Nat} {s0 : Int32} {s1 : Nat} {S : JS} (h : wX11_law_25 G l0 l1 s0 s1 S Q) : jLf (jCall jmt jbud d) jbud (fun j => (jmt j).rk) none mX11_law (jqI Q) (25, [some (.ref l0), some (.ref l1)], [.int s0, .ref s1], S, 0, 0) := by
  have hc := jCall_mono jmt jbud d
  unfold wX11_law_25 at h
  obtain ⟨g8, h⟩ := h
  refine jLf.bk hc 1 [jA S s1 11] [some (.ref l0), some (.ref l1)] [] (uI S s1 11 s0) rfl rfl rfl g8 ?_
  generalize eS9 : uI S s1 11 s0 = S9
  have h := h S9 eS9.symm
  obtain ⟨g10, g11, g12, h⟩ := h
  refine jLf.bk hc 4 [jA S9 l0 11, ¬ jR S9 l0 2 = none, jA S9 (jr S9 l0 2) 5] [some (.ref l0), some (.ref l1)] [] (uI S9 (jr S9 l0 2) 1 0) rfl rfl rfl ⟨g10, g11, g12⟩ ?_
  generalize eS13 : uI S9 (jr S9 l0 2) 1 0 = S13
  have h := h S13 eS13.symm
  refine jLf.bk hc 1 [] [some (.ref l0), some (.ref l1)] [.ref l1] S13 rfl rfl rfl trivial ?_
  refine jLf.one hc _ rfl (gs := []) (c := (36, [some (.ref l0), some (.ref l1)], [], S13, 0, 0)) rfl trivial ?_
  obtain ⟨g14, g15, g16, g17, g18, g19, g20, h⟩ := h
  refine jLf.bk hc 8 [jA S13 l0 11, ¬ jR S13 l0 0 = none, jA S13 (jr S13 l0 0) 9, ¬ jR S13 (jr S13 l0 0) 6 = none, jA S13 l0 11, ¬ jR S13 l0 0 = none, jA S13 (jr S13 l0 0) 9, jA S13 (jr S13 (jr S13 l0 0) 6) 16, jA S13 l1 3, vp_in (jI S13 (jr S13 l0 0) 7) (jZ S13 (jr S13 (jr S13 l0 0) 6))] [some (.ref l0), some (.ref l1)] [] (uR S13 (jr S13 (jr S13 l0 0) 6) (jI S13 (jr S13 l0 0) 7).toNatClampNeg (some l1)) rfl rfl rfl ⟨g14, g15, g16, g17, g14, g15, g16, g18, g19, g20⟩ ?_
  generalize eS21 : uR S13 (jr S13 (jr S13 l0 0) 6) (jI S13 (jr S13 l0 0) 7).toNatClampNeg (some l1) = S21
  have h := h S21 eS21.symm
  obtain ⟨g22, g23, g24, h⟩ := h
  refine jLf.bk hc 7 [jA S21 l0 11, ¬ jR S21 l0 0 = none, (.ref (jr S21 l0 0) : Value).category = 1, jA S21 (jr S21 l0 0) 9, jA S21 (jr S21 l0 0) 9] [some (.ref l0), some (.ref l1)] [] (uI S21 (jr S21 l0 0) 7 ((jI S21 (jr S21 l0 0) 7) + (1 : Int32))) rfl rfl rfl ⟨g22, g23, rfl, g24, g24⟩ ?_
  generalize eS25 : uI S21 (jr S21 l0 0) 7 ((jI S21 (jr S21 l0 0) 7) + (1 : Int32)) = S25
  have h := h S25 eS25.symm
  obtain ⟨g26, g27, g28, h⟩ := h
  refine jLf.bk hc 6 [jA S25 l0 11, ¬ jR S25 l0 0 = none, jA S25 (jr S25 l0 0) 9] [some (.ref l0), some (.ref l1)] [.int ((jI S25 (jr S25 l0 0) 7) - (1 : Int32)), .ref l0] S25 rfl rfl rfl ⟨g26, g27, g28⟩ ?_
  refine jLf.inv hc _ rfl (gs := [jA S25 l0 11, (([] : List Value).map fun v => v.category).sum ≤ 8, 0 ≤ 0, 0 ≤ 0]) (k := 138) (args := [.ref l0, .int ((jI S25 (jr S25 l0 0) 7) - (1 : Int32))]) (r := []) (a := 0) (b := 0) rfl ⟨g26, Nat.le_of_ble_eq_true rfl, Nat.zero_le _, Nat.zero_le _⟩ (vX11_accept d (by omega) h) ?_
  rintro v S29 ⟨r30, rfl, h⟩
  show jLf (jCall jmt jbud d) jbud (fun j => (jmt j).rk) none mX11_law (jqI Q) (58, [some (.ref l0), some (.ref l1)], [.int r30], S29, 0, 0)
  exact jLf.ret hc _ rfl (gs := [True]) (v := some (.int r30)) rfl trivial ⟨r30, rfl, h⟩
def wX11_law_25v1 (G : Nat → List Value → JS → (Option Value → JS → Prop) → Prop)  (l0 : Nat) (s0 : Int32) (s1 : Nat) (S : JS) (Q : Int32 → JS → Prop) : Prop :=
  jA S s1 11 ∧ (∀ S38 : JS, S38 = uI S s1 11 s0 → (jA S38 l0 11 ∧ (¬ jR S38 l0 2 = none ∧ (jA S38 (jr S38 l0 2) 5 ∧ (∀ S42 : JS, S42 = uI S38 (jr S38 l0 2) 1 0 → (jA S42 l0 11 ∧ (wX11_refuse l0 (-6) S42 (fun r44 S43 => Q r44 S43))))))))
set_option maxRecDepth 20000 in
theorem tX11_law_25v1 {Q : Int32 → JS → Prop} {G : Nat → List Value → JS → (Option Value → JS → Prop) → Prop}  (d : Nat) (hd : 1 ≤ d) (hG : ∀ k args S Q, G k args S Q → jCall jmt jbud d k args S Q) {l0 : Nat} {s0 : Int32} {s1 : Nat} {S : JS} (h : wX11_law_25v1 G l0 s0 s1 S Q) : jLf (jCall jmt jbud d) jbud (fun j => (jmt j).rk) none mX11_law (jqI Q) (25, [some (.ref l0), some (.null)], [.int s0, .ref s1], S, 0, 0) := by
  have hc := jCall_mono jmt jbud d
  unfold wX11_law_25v1 at h
  obtain ⟨g37, h⟩ := h
  refine jLf.bk hc 1 [jA S s1 11] [some (.ref l0), some (.null)] [] (uI S s1 11 s0) rfl rfl rfl g37 ?_
  generalize eS38 : uI S s1 11 s0 = S38
  have h := h S38 eS38.symm
  obtain ⟨g39, g40, g41, h⟩ := h
  refine jLf.bk hc 4 [jA S38 l0 11, ¬ jR S38 l0 2 = none, jA S38 (jr S38 l0 2) 5] [some (.ref l0), some (.null)] [] (uI S38 (jr S38 l0 2) 1 0) rfl rfl rfl ⟨g39, g40, g41⟩ ?_
  generalize eS42 : uI S38 (jr S38 l0 2) 1 0 = S42
  have h := h S42 eS42.symm
  refine jLf.bk hc 1 [] [some (.ref l0), some (.null)] [.null] S42 rfl rfl rfl trivial ?_
  refine jLf.one hc _ rfl (gs := []) (c := (32, [some (.ref l0), some (.null)], [], S42, 0, 0)) rfl trivial ?_
  refine jLf.bk hc 2 [] [some (.ref l0), some (.null)] [.int (-6), .ref l0] S42 rfl rfl rfl trivial ?_
  obtain ⟨g45, h⟩ := h
  refine jLf.inv hc _ rfl (gs := [jA S42 l0 11, (([] : List Value).map fun v => v.category).sum ≤ 8, 0 ≤ 0, 0 ≤ 0]) (k := 137) (args := [.ref l0, .int (-6)]) (r := []) (a := 0) (b := 0) rfl ⟨g45, Nat.le_of_ble_eq_true rfl, Nat.zero_le _, Nat.zero_le _⟩ (vX11_refuse d (by omega) h) ?_
  rintro v S43 ⟨r44, rfl, h⟩
  show jLf (jCall jmt jbud d) jbud (fun j => (jmt j).rk) none mX11_law (jqI Q) (35, [some (.ref l0), some (.null)], [.int r44], S43, 0, 0)
  exact jLf.ret hc _ rfl (gs := [True]) (v := some (.int r44)) rfl trivial ⟨r44, rfl, h⟩
def wX11_law (G : Nat → List Value → JS → (Option Value → JS → Prop) → Prop) (this : Nat) (S : JS) (Q : Int32 → JS → Prop) : Prop :=
  jA S this 11 ∧ (¬ jR S this 0 = none ∧ (jA S (jr S this 0) 9 ∧ (((jI S (jr S this 0) 7) < 6 → ¬ jR S this 2 = none ∧ (jA S (jr S this 2) 5 ∧ (G 33 [.ref (jr S this 2)] S (jqA (fun o31 S5 => (o31 = none → jA S5 this 11 ∧ (¬ jR S5 this 2 = none ∧ (jA S5 (jr S5 this 2) 5 ∧ (wX5_faultPlace (jr S5 this 2) S5 (fun r35 S34 => wX11_law_25v1 G this r35 this S34 Q))))) ∧ (∀ r6 : Nat, o31 = some r6 → wX11_law_25 G this r6 (-1) this S5 Q)))))) ∧ (¬ ((jI S (jr S this 0) 7) < 6) → ¬ jR S this 2 = none ∧ (jA S (jr S this 2) 5 ∧ (∀ S48 : JS, S48 = uI S (jr S this 2) 1 0 → (jA S48 this 11 ∧ (wX11_refuse this (-5) S48 (fun r50 S49 => Q r50 S49)))))))))
set_option maxRecDepth 20000 in
theorem vX11_law {Q : Int32 → JS → Prop} {G : Nat → List Value → JS → (Option Value → JS → Prop) → Prop} (d : Nat) (hd : 2 ≤ d) (hG : ∀ k args S Q, G k args S Q → jCall jmt jbud (d - 1) k args S Q) {this : Nat} {S : JS} (h : wX11_law G this S Q) : jCall jmt jbud d 109 [.ref this] S (jqI Q) := by
  obtain ⟨d, rfl⟩ : ∃ d2, d = d2 + 1 := ⟨d - 1, by omega⟩
  have hd : 1 ≤ d := by omega
  have hc := jCall_mono jmt jbud d
  have hG : ∀ k args S Q, G k args S Q → jCall jmt jbud d k args S Q := hG
  unfold wX11_law at h
  refine ⟨Nat.le_of_ble_eq_true rfl, ?_⟩
  show jLf (jCall jmt jbud d) jbud (fun j => (jmt j).rk) none mX11_law (jqI Q) (0, [some (.ref this), none], [], S, 6, 2006)
  obtain ⟨g1, g2, g3, h⟩ := h
  refine jLf.bk hc 4 [jA S this 11, ¬ jR S this 0 = none, jA S (jr S this 0) 9] [some (.ref this), none] [.int 6, .int (jI S (jr S this 0) 7)] S rfl rfl rfl ⟨g1, g2, g3⟩ ?_
  refine jLf.two hc _ rfl (gs := []) (p1 := (jI S (jr S this 0) 7) < 6) (p2 := ¬ ((jI S (jr S this 0) 7) < 6)) (c1 := (13, [some (.ref this), none], [], S, 6, 2006)) (c2 := (5, [some (.ref this), none], [], S, 6, 2006)) rfl trivial (fun hz => ?_) (fun hz => ?_)
  · have h := h.1 hz
    obtain ⟨g4, h⟩ := h
    refine jLf.bk hc 2 [jA S this 11, ¬ jR S this 2 = none] [some (.ref this), none] [.ref (jr S this 2)] S rfl rfl rfl ⟨g1, g4⟩ ?_
    obtain ⟨g7, h⟩ := h
    refine jLf.inv hc _ rfl (gs := [jA S (jr S this 2) 5, (([] : List Value).map fun v => v.category).sum ≤ 8, 6 ≤ 6, 2006 ≤ 2006]) (k := 33) (args := [.ref (jr S this 2)]) (r := []) (a := 0) (b := 0) rfl ⟨g7, Nat.le_of_ble_eq_true rfl, Nat.le_of_ble_eq_true rfl, Nat.le_of_ble_eq_true rfl⟩ (hG _ _ _ _ h) ?_
    rintro v S5 ⟨o31, rfl, h⟩
    cases o31 with
    | none =>
      have h := h.1 rfl
      show jLf (jCall jmt jbud d) jbud (fun j => (jmt j).rk) none mX11_law (jqI Q) (16, [some (.ref this), none], [.null], S5, 0, 0)
      refine jLf.bk hc 3 [] [some (.ref this), some (.null)] [.null, .ref this] S5 rfl rfl rfl trivial ?_
      refine jLf.one hc _ rfl (gs := []) (c := (20, [some (.ref this), some (.null)], [.ref this], S5, 0, 0)) rfl trivial ?_
      obtain ⟨g32, g33, h⟩ := h
      refine jLf.bk hc 2 [jA S5 this 11, ¬ jR S5 this 2 = none] [some (.ref this), some (.null)] [.ref (jr S5 this 2), .ref this] S5 rfl rfl rfl ⟨g32, g33⟩ ?_
      obtain ⟨g36, h⟩ := h
      refine jLf.inv hc _ rfl (gs := [jA S5 (jr S5 this 2) 5, (([.ref this] : List Value).map fun v => v.category).sum ≤ 8, 0 ≤ 0, 0 ≤ 0]) (k := 34) (args := [.ref (jr S5 this 2)]) (r := [.ref this]) (a := 0) (b := 0) rfl ⟨g36, Nat.le_of_ble_eq_true rfl, Nat.zero_le _, Nat.zero_le _⟩ (vX5_faultPlace d (by omega) h) ?_
      rintro v S34 ⟨r35, rfl, h⟩
      show jLf (jCall jmt jbud d) jbud (fun j => (jmt j).rk) none mX11_law (jqI Q) (23, [some (.ref this), some (.null)], [.int r35, .ref this], S34, 0, 0)
      refine jLf.one hc _ rfl (gs := []) (c := (25, [some (.ref this), some (.null)], [.int r35, .ref this], S34, 0, 0)) rfl trivial ?_
      exact tX11_law_25v1 d hd hG  h
    | some r6 =>
      have h := h.2 r6 rfl
      show jLf (jCall jmt jbud d) jbud (fun j => (jmt j).rk) none mX11_law (jqI Q) (16, [some (.ref this), none], [.ref r6], S5, 0, 0)
      refine jLf.bk hc 3 [] [some (.ref this), some (.ref r6)] [.ref r6, .ref this] S5 rfl rfl rfl trivial ?_
      refine jLf.one hc _ rfl (gs := []) (c := (24, [some (.ref this), some (.ref r6)], [.ref this], S5, 0, 0)) rfl trivial ?_
      refine jLf.bk hc 1 [] [some (.ref this), some (.ref r6)] [.int (-1), .ref this] S5 rfl rfl rfl trivial ?_
      exact tX11_law_25 d hd hG  h
  · have h := h.2 hz
    obtain ⟨g46, g47, h⟩ := h
    refine jLf.bk hc 4 [jA S this 11, ¬ jR S this 2 = none, jA S (jr S this 2) 5] [some (.ref this), none] [] (uI S (jr S this 2) 1 0) rfl rfl rfl ⟨g1, g46, g47⟩ ?_
    generalize eS48 : uI S (jr S this 2) 1 0 = S48
    have h := h S48 eS48.symm
    refine jLf.bk hc 2 [] [some (.ref this), none] [.int (-5), .ref this] S48 rfl rfl rfl trivial ?_
    obtain ⟨g51, h⟩ := h
    refine jLf.inv hc _ rfl (gs := [jA S48 this 11, (([] : List Value).map fun v => v.category).sum ≤ 8, 0 ≤ 6, 0 ≤ 2006]) (k := 137) (args := [.ref this, .int (-5)]) (r := []) (a := 6) (b := 2006) rfl ⟨g51, Nat.le_of_ble_eq_true rfl, Nat.zero_le _, Nat.zero_le _⟩ (vX11_refuse d (by omega) h) ?_
    rintro v S49 ⟨r50, rfl, h⟩
    show jLf (jCall jmt jbud d) jbud (fun j => (jmt j).rk) none mX11_law (jqI Q) (12, [some (.ref this), none], [.int r50], S49, 6, 2006)
    exact jLf.ret hc _ rfl (gs := [True]) (v := some (.int r50)) rfl trivial ⟨r50, rfl, h⟩
def wX11_fault  (this : Nat) (S : JS) (Q : Int32 → JS → Prop) : Prop :=
  jA S this 11 ∧ (Q (jI S this 11) S)
set_option maxRecDepth 20000 in
theorem vX11_fault {Q : Int32 → JS → Prop} (d : Nat) (hd : 1 ≤ d) {this : Nat} {S : JS} (h : wX11_fault this S Q) : jCall jmt jbud d 110 [.ref this] S (jqI Q) := by
  obtain ⟨d, rfl⟩ : ∃ d2, d = d2 + 1 := ⟨d - 1, by omega⟩
  have hd : 0 ≤ d := by omega
  have hc := jCall_mono jmt jbud d
  unfold wX11_fault at h
  refine ⟨Nat.le_of_ble_eq_true rfl, ?_⟩
  show jLf (jCall jmt jbud d) jbud (fun j => (jmt j).rk) none mX11_fault (jqI Q) (0, [some (.ref this)], [], S, 0, 0)
  obtain ⟨g1, h⟩ := h
  refine jLf.bk hc 2 [jA S this 11] [some (.ref this)] [.int (jI S this 11)] S rfl rfl rfl g1 ?_
  exact jLf.ret hc _ rfl (gs := [True]) (v := some (.int (jI S this 11))) rfl trivial ⟨jI S this 11, rfl, h⟩
def wX11_force_8   (l0 : Nat) (S : JS) (Q : Int32 → JS → Prop) : Prop :=
  jA S l0 11 ∧ (wX11_refuse l0 (-2) S (fun r2 S1 => Q r2 S1))
set_option maxRecDepth 20000 in
theorem tX11_force_8 {Q : Int32 → JS → Prop}  (d : Nat) (hd : 2 ≤ d) {l0 : Nat} {S : JS} (h : wX11_force_8 l0 S Q) : jLf (jCall jmt jbud d) jbud (fun j => (jmt j).rk) none mX11_force (jqI Q) (8, [some (.ref l0), none, none], [], S, 0, 0) := by
  have hc := jCall_mono jmt jbud d
  unfold wX11_force_8 at h
  refine jLf.bk hc 2 [] [some (.ref l0), none, none] [.int (-2), .ref l0] S rfl rfl rfl trivial ?_
  obtain ⟨g3, h⟩ := h
  refine jLf.inv hc _ rfl (gs := [jA S l0 11, (([] : List Value).map fun v => v.category).sum ≤ 8, 0 ≤ 0, 0 ≤ 0]) (k := 137) (args := [.ref l0, .int (-2)]) (r := []) (a := 0) (b := 0) rfl ⟨g3, Nat.le_of_ble_eq_true rfl, Nat.zero_le _, Nat.zero_le _⟩ (vX11_refuse d (by omega) h) ?_
  rintro v S1 ⟨r2, rfl, h⟩
  show jLf (jCall jmt jbud d) jbud (fun j => (jmt j).rk) none mX11_force (jqI Q) (11, [some (.ref l0), none, none], [.int r2], S1, 0, 0)
  exact jLf.ret hc _ rfl (gs := [True]) (v := some (.int r2)) rfl trivial ⟨r2, rfl, h⟩
def wX11_force  (this : Nat) (p1 : Int32) (S : JS) (Q : Int32 → JS → Prop) : Prop :=
  (p1 < (-1) → wX11_force_8 this S Q) ∧ (¬ (p1 < (-1)) → jA S this 11 ∧ (¬ jR S this 0 = none ∧ (jA S (jr S this 0) 9 ∧ ((p1 < (jI S (jr S this 0) 7) → ∀ x7 : Int32, x7 = (jI S (jr S this 0) 8) → (∀ S8 : JS, S8 = uI S (jr S this 0) 8 p1 → (jA S8 this 11 ∧ (¬ jR S8 this 3 = none ∧ (jA S8 (jr S8 this 3) 1 ∧ (wX1_forget (jr S8 this 3) 0 59 S8 (fun S11 => jA S11 this 11 ∧ (wX11_accept this x7 S11 (fun r15 S14 => Q r15 S14))))))))) ∧ (¬ (p1 < (jI S (jr S this 0) 7)) → wX11_force_8 this S Q)))))
set_option maxRecDepth 20000 in
theorem vX11_force {Q : Int32 → JS → Prop} (d : Nat) (hd : 3 ≤ d) {this : Nat} {p1 : Int32} {S : JS} (h : wX11_force this p1 S Q) : jCall jmt jbud d 111 [.ref this, .int p1] S (jqI Q) := by
  obtain ⟨d, rfl⟩ : ∃ d2, d = d2 + 1 := ⟨d - 1, by omega⟩
  have hd : 2 ≤ d := by omega
  have hc := jCall_mono jmt jbud d
  unfold wX11_force at h
  refine ⟨Nat.le_of_ble_eq_true rfl, ?_⟩
  show jLf (jCall jmt jbud d) jbud (fun j => (jmt j).rk) none mX11_force (jqI Q) (0, [some (.ref this), some (.int p1), none], [], S, 0, 0)
  refine jLf.bk hc 2 [] [some (.ref this), some (.int p1), none] [.int (-1), .int p1] S rfl rfl rfl trivial ?_
  refine jLf.two hc _ rfl (gs := []) (p1 := p1 < (-1)) (p2 := ¬ (p1 < (-1))) (c1 := (8, [some (.ref this), some (.int p1), none], [], S, 0, 0)) (c2 := (3, [some (.ref this), some (.int p1), none], [], S, 0, 0)) rfl trivial (fun hz => ?_) (fun hz => ?_)
  · have h := h.1 hz
    refine jLf.sub [some (.ref this), none, none] (jle_same (jle_none (jle_same (jle_nil _)))) ?_
    exact tX11_force_8 d hd  h
  · have h := h.2 hz
    obtain ⟨g4, g5, g6, h⟩ := h
    refine jLf.bk hc 4 [jA S this 11, ¬ jR S this 0 = none, jA S (jr S this 0) 9] [some (.ref this), some (.int p1), none] [.int (jI S (jr S this 0) 7), .int p1] S rfl rfl rfl ⟨g4, g5, g6⟩ ?_
    refine jLf.two hc _ rfl (gs := []) (p1 := p1 < (jI S (jr S this 0) 7)) (p2 := ¬ (p1 < (jI S (jr S this 0) 7))) (c1 := (12, [some (.ref this), some (.int p1), none], [], S, 0, 0)) (c2 := (8, [some (.ref this), some (.int p1), none], [], S, 0, 0)) rfl trivial (fun hz => ?_) (fun hz => ?_)
    · have h := h.1 hz
      refine jLf.bk hc 4 [jA S this 11, ¬ jR S this 0 = none, jA S (jr S this 0) 9] [some (.ref this), some (.int p1), some (.int (jI S (jr S this 0) 8))] [] S rfl rfl rfl ⟨g4, g5, g6⟩ ?_
      generalize ex7 : (jI S (jr S this 0) 8 : Int32) = x7
      have h := h x7 ex7.symm
      refine jLf.bk hc 4 [jA S this 11, ¬ jR S this 0 = none, jA S (jr S this 0) 9] [some (.ref this), some (.int p1), some (.int x7)] [] (uI S (jr S this 0) 8 p1) rfl rfl rfl ⟨g4, g5, g6⟩ ?_
      generalize eS8 : uI S (jr S this 0) 8 p1 = S8
      have h := h S8 eS8.symm
      obtain ⟨g9, g10, h⟩ := h
      refine jLf.bk hc 4 [jA S8 this 11, ¬ jR S8 this 3 = none] [some (.ref this), some (.int p1), some (.int x7)] [.int 59, .int 0, .ref (jr S8 this 3)] S8 rfl rfl rfl ⟨g9, g10⟩ ?_
      obtain ⟨g13, h⟩ := h
      refine jLf.inv hc _ rfl (gs := [jA S8 (jr S8 this 3) 1, (([] : List Value).map fun v => v.category).sum ≤ 8, 0 ≤ 0, 0 ≤ 0]) (k := 9) (args := [.ref (jr S8 this 3), .int 0, .int 59]) (r := []) (a := 0) (b := 0) rfl ⟨g13, Nat.le_of_ble_eq_true rfl, Nat.zero_le _, Nat.zero_le _⟩ (vX1_forget d (by omega) h) ?_
      rintro v S11 ⟨rfl, h⟩
      show jLf (jCall jmt jbud d) jbud (fun j => (jmt j).rk) none mX11_force (jqI Q) (25, [some (.ref this), some (.int p1), some (.int x7)], [], S11, 0, 0)
      refine jLf.bk hc 2 [] [some (.ref this), some (.int p1), some (.int x7)] [.int x7, .ref this] S11 rfl rfl rfl trivial ?_
      obtain ⟨g16, h⟩ := h
      refine jLf.inv hc _ rfl (gs := [jA S11 this 11, (([] : List Value).map fun v => v.category).sum ≤ 8, 0 ≤ 0, 0 ≤ 0]) (k := 138) (args := [.ref this, .int x7]) (r := []) (a := 0) (b := 0) rfl ⟨g16, Nat.le_of_ble_eq_true rfl, Nat.zero_le _, Nat.zero_le _⟩ (vX11_accept d (by omega) h) ?_
      rintro v S14 ⟨r15, rfl, h⟩
      show jLf (jCall jmt jbud d) jbud (fun j => (jmt j).rk) none mX11_force (jqI Q) (28, [some (.ref this), some (.int p1), some (.int x7)], [.int r15], S14, 0, 0)
      exact jLf.ret hc _ rfl (gs := [True]) (v := some (.int r15)) rfl trivial ⟨r15, rfl, h⟩
    · have h := h.2 hz
      refine jLf.sub [some (.ref this), none, none] (jle_same (jle_none (jle_same (jle_nil _)))) ?_
      exact tX11_force_8 d hd  h
def wX11_isBoat  (this : Nat) (p1 : Int32) (p2 : Int32) (p3 : Int32) (S : JS) (Q : Int32 → JS → Prop) : Prop :=
  jA S this 11 ∧ (¬ jR S this 0 = none ∧ (jA S (jr S this 0) 9 ∧ (wX9_hasRock (jr S this 0) p1 S (fun r4 S3 => (r4 = 0 → Q 0 S3) ∧ (¬ r4 = 0 → jA S3 this 11 ∧ (¬ jR S3 this 0 = none ∧ (jA S3 (jr S3 this 0) 9 ∧ (wX9_hasRock (jr S3 this 0) p2 S3 (fun r9 S8 => (r9 = 0 → Q 0 S8) ∧ (¬ r9 = 0 → (p1 = p2 → Q 0 S8) ∧ (¬ p1 = p2 → (p3 < 0 → Q 0 S8) ∧ (¬ (p3 < 0) → (59 ≤ p3 → Q 0 S8) ∧ (¬ (59 ≤ p3) → Q 1 S8)))))))))))))
set_option maxRecDepth 20000 in
theorem vX11_isBoat {Q : Int32 → JS → Prop} (d : Nat) (hd : 2 ≤ d) {this : Nat} {p1 : Int32} {p2 : Int32} {p3 : Int32} {S : JS} (h : wX11_isBoat this p1 p2 p3 S Q) : jCall jmt jbud d 140 [.ref this, .int p1, .int p2, .int p3] S (jqI Q) := by
  obtain ⟨d, rfl⟩ : ∃ d2, d = d2 + 1 := ⟨d - 1, by omega⟩
  have hd : 1 ≤ d := by omega
  have hc := jCall_mono jmt jbud d
  unfold wX11_isBoat at h
  refine ⟨Nat.le_of_ble_eq_true rfl, ?_⟩
  show jLf (jCall jmt jbud d) jbud (fun j => (jmt j).rk) none mX11_isBoat (jqI Q) (0, [some (.ref this), some (.int p1), some (.int p2), some (.int p3)], [], S, 0, 0)
  obtain ⟨g1, g2, h⟩ := h
  refine jLf.bk hc 3 [jA S this 11, ¬ jR S this 0 = none] [some (.ref this), some (.int p1), some (.int p2), some (.int p3)] [.int p1, .ref (jr S this 0)] S rfl rfl rfl ⟨g1, g2⟩ ?_
  obtain ⟨g5, h⟩ := h
  refine jLf.inv hc _ rfl (gs := [jA S (jr S this 0) 9, (([] : List Value).map fun v => v.category).sum ≤ 8, 0 ≤ 0, 0 ≤ 0]) (k := 87) (args := [.ref (jr S this 0), .int p1]) (r := []) (a := 0) (b := 0) rfl ⟨g5, Nat.le_of_ble_eq_true rfl, Nat.zero_le _, Nat.zero_le _⟩ (vX9_hasRock d (by omega) h) ?_
  rintro v S3 ⟨r4, rfl, h⟩
  show jLf (jCall jmt jbud d) jbud (fun j => (jmt j).rk) none mX11_isBoat (jqI Q) (4, [some (.ref this), some (.int p1), some (.int p2), some (.int p3)], [.int r4], S3, 0, 0)
  refine jLf.two hc _ rfl (gs := []) (p1 := r4 = 0) (p2 := ¬ (r4 = 0)) (c1 := (20, [some (.ref this), some (.int p1), some (.int p2), some (.int p3)], [], S3, 0, 0)) (c2 := (5, [some (.ref this), some (.int p1), some (.int p2), some (.int p3)], [], S3, 0, 0)) rfl trivial (fun hz => ?_) (fun hz => ?_)
  · have h := h.1 hz
    refine jLf.bk hc 1 [] [some (.ref this), some (.int p1), some (.int p2), some (.int p3)] [.int 0] S3 rfl rfl rfl trivial ?_
    exact jLf.ret hc _ rfl (gs := [jbit 0]) (v := some (.int 0)) rfl (Or.inl rfl) ⟨_, rfl, h⟩
  · have h := h.2 hz
    obtain ⟨g6, g7, h⟩ := h
    refine jLf.bk hc 3 [jA S3 this 11, ¬ jR S3 this 0 = none] [some (.ref this), some (.int p1), some (.int p2), some (.int p3)] [.int p2, .ref (jr S3 this 0)] S3 rfl rfl rfl ⟨g6, g7⟩ ?_
    obtain ⟨g10, h⟩ := h
    refine jLf.inv hc _ rfl (gs := [jA S3 (jr S3 this 0) 9, (([] : List Value).map fun v => v.category).sum ≤ 8, 0 ≤ 0, 0 ≤ 0]) (k := 87) (args := [.ref (jr S3 this 0), .int p2]) (r := []) (a := 0) (b := 0) rfl ⟨g10, Nat.le_of_ble_eq_true rfl, Nat.zero_le _, Nat.zero_le _⟩ (vX9_hasRock d (by omega) h) ?_
    rintro v S8 ⟨r9, rfl, h⟩
    show jLf (jCall jmt jbud d) jbud (fun j => (jmt j).rk) none mX11_isBoat (jqI Q) (9, [some (.ref this), some (.int p1), some (.int p2), some (.int p3)], [.int r9], S8, 0, 0)
    refine jLf.two hc _ rfl (gs := []) (p1 := r9 = 0) (p2 := ¬ (r9 = 0)) (c1 := (20, [some (.ref this), some (.int p1), some (.int p2), some (.int p3)], [], S8, 0, 0)) (c2 := (10, [some (.ref this), some (.int p1), some (.int p2), some (.int p3)], [], S8, 0, 0)) rfl trivial (fun hz => ?_) (fun hz => ?_)
    · have h := h.1 hz
      refine jLf.bk hc 1 [] [some (.ref this), some (.int p1), some (.int p2), some (.int p3)] [.int 0] S8 rfl rfl rfl trivial ?_
      exact jLf.ret hc _ rfl (gs := [jbit 0]) (v := some (.int 0)) rfl (Or.inl rfl) ⟨_, rfl, h⟩
    · have h := h.2 hz
      refine jLf.bk hc 2 [] [some (.ref this), some (.int p1), some (.int p2), some (.int p3)] [.int p2, .int p1] S8 rfl rfl rfl trivial ?_
      refine jLf.two hc _ rfl (gs := []) (p1 := p1 = p2) (p2 := ¬ (p1 = p2)) (c1 := (20, [some (.ref this), some (.int p1), some (.int p2), some (.int p3)], [], S8, 0, 0)) (c2 := (13, [some (.ref this), some (.int p1), some (.int p2), some (.int p3)], [], S8, 0, 0)) rfl trivial (fun hz => ?_) (fun hz => ?_)
      · have h := h.1 hz
        refine jLf.bk hc 1 [] [some (.ref this), some (.int p1), some (.int p2), some (.int p3)] [.int 0] S8 rfl rfl rfl trivial ?_
        exact jLf.ret hc _ rfl (gs := [jbit 0]) (v := some (.int 0)) rfl (Or.inl rfl) ⟨_, rfl, h⟩
      · have h := h.2 hz
        refine jLf.bk hc 1 [] [some (.ref this), some (.int p1), some (.int p2), some (.int p3)] [.int p3] S8 rfl rfl rfl trivial ?_
        refine jLf.two hc _ rfl (gs := []) (p1 := p3 < 0) (p2 := ¬ (p3 < 0)) (c1 := (20, [some (.ref this), some (.int p1), some (.int p2), some (.int p3)], [], S8, 0, 0)) (c2 := (15, [some (.ref this), some (.int p1), some (.int p2), some (.int p3)], [], S8, 0, 0)) rfl trivial (fun hz => ?_) (fun hz => ?_)
        · have h := h.1 hz
          refine jLf.bk hc 1 [] [some (.ref this), some (.int p1), some (.int p2), some (.int p3)] [.int 0] S8 rfl rfl rfl trivial ?_
          exact jLf.ret hc _ rfl (gs := [jbit 0]) (v := some (.int 0)) rfl (Or.inl rfl) ⟨_, rfl, h⟩
        · have h := h.2 hz
          refine jLf.bk hc 2 [] [some (.ref this), some (.int p1), some (.int p2), some (.int p3)] [.int 59, .int p3] S8 rfl rfl rfl trivial ?_
          refine jLf.two hc _ rfl (gs := []) (p1 := 59 ≤ p3) (p2 := ¬ (59 ≤ p3)) (c1 := (20, [some (.ref this), some (.int p1), some (.int p2), some (.int p3)], [], S8, 0, 0)) (c2 := (18, [some (.ref this), some (.int p1), some (.int p2), some (.int p3)], [], S8, 0, 0)) rfl trivial (fun hz => ?_) (fun hz => ?_)
          · have h := h.1 hz
            refine jLf.bk hc 1 [] [some (.ref this), some (.int p1), some (.int p2), some (.int p3)] [.int 0] S8 rfl rfl rfl trivial ?_
            exact jLf.ret hc _ rfl (gs := [jbit 0]) (v := some (.int 0)) rfl (Or.inl rfl) ⟨_, rfl, h⟩
          · have h := h.2 hz
            refine jLf.bk hc 1 [] [some (.ref this), some (.int p1), some (.int p2), some (.int p3)] [.int 1] S8 rfl rfl rfl trivial ?_
            refine jLf.one hc _ rfl (gs := []) (c := (21, [some (.ref this), some (.int p1), some (.int p2), some (.int p3)], [.int 1], S8, 0, 0)) rfl trivial ?_
            exact jLf.ret hc _ rfl (gs := [jbit 1]) (v := some (.int 1)) rfl (Or.inr rfl) ⟨_, rfl, h⟩
def wX11_goes  (this : Nat) (p1 : Int32) (p2 : Int32) (p3 : Int32) (S : JS) (Q : Int32 → JS → Prop) : Prop :=
  jA S this 11 ∧ (wX11_isBoat this p1 p2 p3 S (fun r2 S1 => (¬ r2 = 0 → jA S1 this 11 ∧ (¬ jR S1 this 3 = none ∧ (¬ jR S1 this 0 = none ∧ (jA S1 (jr S1 this 3) 1 ∧ (wX1_learnFrom (jr S1 this 3) (jr S1 this 0) p1 p3 S1 (fun S7 => jA S7 this 11 ∧ (¬ jR S7 this 3 = none ∧ (jA S7 (jr S7 this 3) 1 ∧ (wX1_sails (jr S7 this 3) p1 p3 S7 (fun r13 S12 => wX11_hasBit r13 p2 S12 (fun r16 S15 => (r16 = 0 → Q 0 S15) ∧ (¬ r16 = 0 → Q 1 S15)))))))))))) ∧ (r2 = 0 → Q (-1) S1)))
set_option maxRecDepth 20000 in
theorem vX11_goes {Q : Int32 → JS → Prop} (d : Nat) (hd : 5 ≤ d) {this : Nat} {p1 : Int32} {p2 : Int32} {p3 : Int32} {S : JS} (h : wX11_goes this p1 p2 p3 S Q) : jCall jmt jbud d 112 [.ref this, .int p1, .int p2, .int p3] S (jqI Q) := by
  obtain ⟨d, rfl⟩ : ∃ d2, d = d2 + 1 := ⟨d - 1, by omega⟩
  have hd : 4 ≤ d := by omega
  have hc := jCall_mono jmt jbud d
  unfold wX11_goes at h
  refine ⟨Nat.le_of_ble_eq_true rfl, ?_⟩
  show jLf (jCall jmt jbud d) jbud (fun j => (jmt j).rk) none mX11_goes (jqI Q) (0, [some (.ref this), some (.int p1), some (.int p2), some (.int p3)], [], S, 0, 0)
  refine jLf.bk hc 4 [] [some (.ref this), some (.int p1), some (.int p2), some (.int p3)] [.int p3, .int p2, .int p1, .ref this] S rfl rfl rfl trivial ?_
  obtain ⟨g3, h⟩ := h
  refine jLf.inv hc _ rfl (gs := [jA S this 11, (([] : List Value).map fun v => v.category).sum ≤ 8, 0 ≤ 0, 0 ≤ 0]) (k := 140) (args := [.ref this, .int p1, .int p2, .int p3]) (r := []) (a := 0) (b := 0) rfl ⟨g3, Nat.le_of_ble_eq_true rfl, Nat.zero_le _, Nat.zero_le _⟩ (vX11_isBoat d (by omega) h) ?_
  rintro v S1 ⟨r2, rfl, h⟩
  show jLf (jCall jmt jbud d) jbud (fun j => (jmt j).rk) none mX11_goes (jqI Q) (5, [some (.ref this), some (.int p1), some (.int p2), some (.int p3)], [.int r2], S1, 0, 0)
  refine jLf.two hc _ rfl (gs := []) (p1 := ¬ r2 = 0) (p2 := ¬ (¬ r2 = 0)) (c1 := (8, [some (.ref this), some (.int p1), some (.int p2), some (.int p3)], [], S1, 0, 0)) (c2 := (6, [some (.ref this), some (.int p1), some (.int p2), some (.int p3)], [], S1, 0, 0)) rfl trivial (fun hz => ?_) (fun hz => ?_)
  · have h := h.1 hz
    obtain ⟨g4, g5, g6, h⟩ := h
    refine jLf.bk hc 6 [jA S1 this 11, ¬ jR S1 this 3 = none, jA S1 this 11, ¬ jR S1 this 0 = none] [some (.ref this), some (.int p1), some (.int p2), some (.int p3)] [.int p3, .int p1, .ref (jr S1 this 0), .ref (jr S1 this 3)] S1 rfl rfl rfl ⟨g4, g5, g4, g6⟩ ?_
    obtain ⟨g9, h⟩ := h
    refine jLf.inv hc _ rfl (gs := [jA S1 (jr S1 this 3) 1, (([] : List Value).map fun v => v.category).sum ≤ 8, 0 ≤ 0, 0 ≤ 0]) (k := 11) (args := [.ref (jr S1 this 3), .ref (jr S1 this 0), .int p1, .int p3]) (r := []) (a := 0) (b := 0) rfl ⟨g9, Nat.le_of_ble_eq_true rfl, Nat.zero_le _, Nat.zero_le _⟩ (vX1_learnFrom d (by omega) h) ?_
    rintro v S7 ⟨rfl, h⟩
    show jLf (jCall jmt jbud d) jbud (fun j => (jmt j).rk) none mX11_goes (jqI Q) (15, [some (.ref this), some (.int p1), some (.int p2), some (.int p3)], [], S7, 0, 0)
    obtain ⟨g10, g11, h⟩ := h
    refine jLf.bk hc 4 [jA S7 this 11, ¬ jR S7 this 3 = none] [some (.ref this), some (.int p1), some (.int p2), some (.int p3)] [.int p3, .int p1, .ref (jr S7 this 3)] S7 rfl rfl rfl ⟨g10, g11⟩ ?_
    obtain ⟨g14, h⟩ := h
    refine jLf.inv hc _ rfl (gs := [jA S7 (jr S7 this 3) 1, (([] : List Value).map fun v => v.category).sum ≤ 8, 0 ≤ 0, 0 ≤ 0]) (k := 14) (args := [.ref (jr S7 this 3), .int p1, .int p3]) (r := []) (a := 0) (b := 0) rfl ⟨g14, Nat.le_of_ble_eq_true rfl, Nat.zero_le _, Nat.zero_le _⟩ (vX1_sails d (by omega) h) ?_
    rintro v S12 ⟨r13, rfl, h⟩
    show jLf (jCall jmt jbud d) jbud (fun j => (jmt j).rk) none mX11_goes (jqI Q) (20, [some (.ref this), some (.int p1), some (.int p2), some (.int p3)], [.int r13], S12, 0, 0)
    refine jLf.bk hc 1 [] [some (.ref this), some (.int p1), some (.int p2), some (.int p3)] [.int p2, .int r13] S12 rfl rfl rfl trivial ?_
    refine jLf.inv hc _ rfl (gs := [2 ≤ ([.int p2, .int r13] : List Value).length, (([] : List Value).map fun v => v.category).sum ≤ 8, 0 ≤ 0, 0 ≤ 0]) (k := 145) (args := [.int r13, .int p2]) (r := []) (a := 0) (b := 0) rfl ⟨Nat.le_of_ble_eq_true rfl, Nat.le_of_ble_eq_true rfl, Nat.zero_le _, Nat.zero_le _⟩ (vX11_hasBit d (by omega) h) ?_
    rintro v S15 ⟨r16, rfl, h⟩
    show jLf (jCall jmt jbud d) jbud (fun j => (jmt j).rk) none mX11_goes (jqI Q) (22, [some (.ref this), some (.int p1), some (.int p2), some (.int p3)], [.int r16], S15, 0, 0)
    refine jLf.two hc _ rfl (gs := []) (p1 := r16 = 0) (p2 := ¬ (r16 = 0)) (c1 := (25, [some (.ref this), some (.int p1), some (.int p2), some (.int p3)], [], S15, 0, 0)) (c2 := (23, [some (.ref this), some (.int p1), some (.int p2), some (.int p3)], [], S15, 0, 0)) rfl trivial (fun hz => ?_) (fun hz => ?_)
    · have h := h.1 hz
      refine jLf.bk hc 1 [] [some (.ref this), some (.int p1), some (.int p2), some (.int p3)] [.int 0] S15 rfl rfl rfl trivial ?_
      exact jLf.ret hc _ rfl (gs := [True]) (v := some (.int 0)) rfl trivial ⟨0, rfl, h⟩
    · have h := h.2 hz
      refine jLf.bk hc 1 [] [some (.ref this), some (.int p1), some (.int p2), some (.int p3)] [.int 1] S15 rfl rfl rfl trivial ?_
      refine jLf.one hc _ rfl (gs := []) (c := (26, [some (.ref this), some (.int p1), some (.int p2), some (.int p3)], [.int 1], S15, 0, 0)) rfl trivial ?_
      exact jLf.ret hc _ rfl (gs := [True]) (v := some (.int 1)) rfl trivial ⟨1, rfl, h⟩
  · have h := h.2 (Classical.not_not.mp hz)
    refine jLf.bk hc 1 [] [some (.ref this), some (.int p1), some (.int p2), some (.int p3)] [.int (-1)] S1 rfl rfl rfl trivial ?_
    exact jLf.ret hc _ rfl (gs := [True]) (v := some (.int (-1))) rfl trivial ⟨(-1), rfl, h⟩
def wX11_of  (this : Nat) (p1 : Int32) (p2 : Int32) (p3 : Int32) (S : JS) (Q : Int32 → JS → Prop) : Prop :=
  jA S this 11 ∧ (¬ jR S this 0 = none ∧ (jA S (jr S this 0) 9 ∧ (wX9_hasRock (jr S this 0) p1 S (fun r4 S3 => (r4 = 0 → Q (-1) S3) ∧ (¬ r4 = 0 → wX11_isNight p2 S3 (fun r7 S6 => (r7 = 0 → Q (-1) S6) ∧ (¬ r7 = 0 → wX11_isBit p3 S6 (fun r9 S8 => (¬ r9 = 0 → (¬ p3 = 1 → jA S8 this 11 ∧ (¬ jR S8 this 3 = none ∧ (¬ jR S8 this 0 = none ∧ (jA S8 (jr S8 this 3) 1 ∧ (wX1_learnDanger (jr S8 this 3) (jr S8 this 0) p1 p2 S8 (fun S13 => jA S13 this 11 ∧ (¬ jR S13 this 3 = none ∧ (jA S13 (jr S13 this 3) 1 ∧ (wX1_danger (jr S13 this 3) p1 p2 S13 (fun r19 S18 => Q r19 S18)))))))))) ∧ (p3 = 1 → jA S8 this 11 ∧ (¬ jR S8 this 0 = none ∧ (jA S8 (jr S8 this 0) 9 ∧ (wX9_isWeddingOn (jr S8 this 0) p1 p2 S8 (fun r24 S23 => (r24 = 0 → Q 0 S23) ∧ (¬ r24 = 0 → Q 1 S23))))))) ∧ (r9 = 0 → Q (-1) S8)))))))))
set_option maxRecDepth 20000 in
theorem vX11_of {Q : Int32 → JS → Prop} (d : Nat) (hd : 5 ≤ d) {this : Nat} {p1 : Int32} {p2 : Int32} {p3 : Int32} {S : JS} (h : wX11_of this p1 p2 p3 S Q) : jCall jmt jbud d 113 [.ref this, .int p1, .int p2, .int p3] S (jqI Q) := by
  obtain ⟨d, rfl⟩ : ∃ d2, d = d2 + 1 := ⟨d - 1, by omega⟩
  have hd : 4 ≤ d := by omega
  have hc := jCall_mono jmt jbud d
  unfold wX11_of at h
  refine ⟨Nat.le_of_ble_eq_true rfl, ?_⟩
  show jLf (jCall jmt jbud d) jbud (fun j => (jmt j).rk) none mX11_of (jqI Q) (0, [some (.ref this), some (.int p1), some (.int p2), some (.int p3)], [], S, 0, 0)
  obtain ⟨g1, g2, h⟩ := h
  refine jLf.bk hc 3 [jA S this 11, ¬ jR S this 0 = none] [some (.ref this), some (.int p1), some (.int p2), some (.int p3)] [.int p1, .ref (jr S this 0)] S rfl rfl rfl ⟨g1, g2⟩ ?_
  obtain ⟨g5, h⟩ := h
  refine jLf.inv hc _ rfl (gs := [jA S (jr S this 0) 9, (([] : List Value).map fun v => v.category).sum ≤ 8, 0 ≤ 0, 0 ≤ 0]) (k := 87) (args := [.ref (jr S this 0), .int p1]) (r := []) (a := 0) (b := 0) rfl ⟨g5, Nat.le_of_ble_eq_true rfl, Nat.zero_le _, Nat.zero_le _⟩ (vX9_hasRock d (by omega) h) ?_
  rintro v S3 ⟨r4, rfl, h⟩
  show jLf (jCall jmt jbud d) jbud (fun j => (jmt j).rk) none mX11_of (jqI Q) (4, [some (.ref this), some (.int p1), some (.int p2), some (.int p3)], [.int r4], S3, 0, 0)
  refine jLf.two hc _ rfl (gs := []) (p1 := r4 = 0) (p2 := ¬ (r4 = 0)) (c1 := (11, [some (.ref this), some (.int p1), some (.int p2), some (.int p3)], [], S3, 0, 0)) (c2 := (5, [some (.ref this), some (.int p1), some (.int p2), some (.int p3)], [], S3, 0, 0)) rfl trivial (fun hz => ?_) (fun hz => ?_)
  · have h := h.1 hz
    refine jLf.bk hc 1 [] [some (.ref this), some (.int p1), some (.int p2), some (.int p3)] [.int (-1)] S3 rfl rfl rfl trivial ?_
    exact jLf.ret hc _ rfl (gs := [True]) (v := some (.int (-1))) rfl trivial ⟨(-1), rfl, h⟩
  · have h := h.2 hz
    refine jLf.bk hc 1 [] [some (.ref this), some (.int p1), some (.int p2), some (.int p3)] [.int p2] S3 rfl rfl rfl trivial ?_
    refine jLf.inv hc _ rfl (gs := [1 ≤ ([.int p2] : List Value).length, (([] : List Value).map fun v => v.category).sum ≤ 8, 0 ≤ 0, 0 ≤ 0]) (k := 143) (args := [.int p2]) (r := []) (a := 0) (b := 0) rfl ⟨Nat.le_of_ble_eq_true rfl, Nat.le_of_ble_eq_true rfl, Nat.zero_le _, Nat.zero_le _⟩ (vX11_isNight d (by omega) h) ?_
    rintro v S6 ⟨r7, rfl, h⟩
    show jLf (jCall jmt jbud d) jbud (fun j => (jmt j).rk) none mX11_of (jqI Q) (7, [some (.ref this), some (.int p1), some (.int p2), some (.int p3)], [.int r7], S6, 0, 0)
    refine jLf.two hc _ rfl (gs := []) (p1 := r7 = 0) (p2 := ¬ (r7 = 0)) (c1 := (11, [some (.ref this), some (.int p1), some (.int p2), some (.int p3)], [], S6, 0, 0)) (c2 := (8, [some (.ref this), some (.int p1), some (.int p2), some (.int p3)], [], S6, 0, 0)) rfl trivial (fun hz => ?_) (fun hz => ?_)
    · have h := h.1 hz
      refine jLf.bk hc 1 [] [some (.ref this), some (.int p1), some (.int p2), some (.int p3)] [.int (-1)] S6 rfl rfl rfl trivial ?_
      exact jLf.ret hc _ rfl (gs := [True]) (v := some (.int (-1))) rfl trivial ⟨(-1), rfl, h⟩
    · have h := h.2 hz
      refine jLf.bk hc 1 [] [some (.ref this), some (.int p1), some (.int p2), some (.int p3)] [.int p3] S6 rfl rfl rfl trivial ?_
      refine jLf.inv hc _ rfl (gs := [1 ≤ ([.int p3] : List Value).length, (([] : List Value).map fun v => v.category).sum ≤ 8, 0 ≤ 0, 0 ≤ 0]) (k := 144) (args := [.int p3]) (r := []) (a := 0) (b := 0) rfl ⟨Nat.le_of_ble_eq_true rfl, Nat.le_of_ble_eq_true rfl, Nat.zero_le _, Nat.zero_le _⟩ (vX11_isBit d (by omega) h) ?_
      rintro v S8 ⟨r9, rfl, h⟩
      show jLf (jCall jmt jbud d) jbud (fun j => (jmt j).rk) none mX11_of (jqI Q) (10, [some (.ref this), some (.int p1), some (.int p2), some (.int p3)], [.int r9], S8, 0, 0)
      refine jLf.two hc _ rfl (gs := []) (p1 := ¬ r9 = 0) (p2 := ¬ (¬ r9 = 0)) (c1 := (13, [some (.ref this), some (.int p1), some (.int p2), some (.int p3)], [], S8, 0, 0)) (c2 := (11, [some (.ref this), some (.int p1), some (.int p2), some (.int p3)], [], S8, 0, 0)) rfl trivial (fun hz => ?_) (fun hz => ?_)
      · have h := h.1 hz
        refine jLf.bk hc 2 [] [some (.ref this), some (.int p1), some (.int p2), some (.int p3)] [.int 1, .int p3] S8 rfl rfl rfl trivial ?_
        refine jLf.two hc _ rfl (gs := []) (p1 := ¬ p3 = 1) (p2 := ¬ (¬ p3 = 1)) (c1 := (26, [some (.ref this), some (.int p1), some (.int p2), some (.int p3)], [], S8, 0, 0)) (c2 := (16, [some (.ref this), some (.int p1), some (.int p2), some (.int p3)], [], S8, 0, 0)) rfl trivial (fun hz => ?_) (fun hz => ?_)
        · have h := h.1 hz
          obtain ⟨g10, g11, g12, h⟩ := h
          refine jLf.bk hc 6 [jA S8 this 11, ¬ jR S8 this 3 = none, jA S8 this 11, ¬ jR S8 this 0 = none] [some (.ref this), some (.int p1), some (.int p2), some (.int p3)] [.int p2, .int p1, .ref (jr S8 this 0), .ref (jr S8 this 3)] S8 rfl rfl rfl ⟨g10, g11, g10, g12⟩ ?_
          obtain ⟨g15, h⟩ := h
          refine jLf.inv hc _ rfl (gs := [jA S8 (jr S8 this 3) 1, (([] : List Value).map fun v => v.category).sum ≤ 8, 0 ≤ 0, 0 ≤ 0]) (k := 13) (args := [.ref (jr S8 this 3), .ref (jr S8 this 0), .int p1, .int p2]) (r := []) (a := 0) (b := 0) rfl ⟨g15, Nat.le_of_ble_eq_true rfl, Nat.zero_le _, Nat.zero_le _⟩ (vX1_learnDanger d (by omega) h) ?_
          rintro v S13 ⟨rfl, h⟩
          show jLf (jCall jmt jbud d) jbud (fun j => (jmt j).rk) none mX11_of (jqI Q) (33, [some (.ref this), some (.int p1), some (.int p2), some (.int p3)], [], S13, 0, 0)
          obtain ⟨g16, g17, h⟩ := h
          refine jLf.bk hc 4 [jA S13 this 11, ¬ jR S13 this 3 = none] [some (.ref this), some (.int p1), some (.int p2), some (.int p3)] [.int p2, .int p1, .ref (jr S13 this 3)] S13 rfl rfl rfl ⟨g16, g17⟩ ?_
          obtain ⟨g20, h⟩ := h
          refine jLf.inv hc _ rfl (gs := [jA S13 (jr S13 this 3) 1, (([] : List Value).map fun v => v.category).sum ≤ 8, 0 ≤ 0, 0 ≤ 0]) (k := 17) (args := [.ref (jr S13 this 3), .int p1, .int p2]) (r := []) (a := 0) (b := 0) rfl ⟨g20, Nat.le_of_ble_eq_true rfl, Nat.zero_le _, Nat.zero_le _⟩ (vX1_danger d (by omega) h) ?_
          rintro v S18 ⟨r19, rfl, h⟩
          show jLf (jCall jmt jbud d) jbud (fun j => (jmt j).rk) none mX11_of (jqI Q) (38, [some (.ref this), some (.int p1), some (.int p2), some (.int p3)], [.int r19], S18, 0, 0)
          exact jLf.ret hc _ rfl (gs := [True]) (v := some (.int r19)) rfl trivial ⟨r19, rfl, h⟩
        · have h := h.2 (Classical.not_not.mp hz)
          obtain ⟨g21, g22, h⟩ := h
          refine jLf.bk hc 4 [jA S8 this 11, ¬ jR S8 this 0 = none] [some (.ref this), some (.int p1), some (.int p2), some (.int p3)] [.int p2, .int p1, .ref (jr S8 this 0)] S8 rfl rfl rfl ⟨g21, g22⟩ ?_
          obtain ⟨g25, h⟩ := h
          refine jLf.inv hc _ rfl (gs := [jA S8 (jr S8 this 0) 9, (([] : List Value).map fun v => v.category).sum ≤ 8, 0 ≤ 0, 0 ≤ 0]) (k := 91) (args := [.ref (jr S8 this 0), .int p1, .int p2]) (r := []) (a := 0) (b := 0) rfl ⟨g25, Nat.le_of_ble_eq_true rfl, Nat.zero_le _, Nat.zero_le _⟩ (vX9_isWeddingOn d (by omega) h) ?_
          rintro v S23 ⟨r24, rfl, h⟩
          show jLf (jCall jmt jbud d) jbud (fun j => (jmt j).rk) none mX11_of (jqI Q) (21, [some (.ref this), some (.int p1), some (.int p2), some (.int p3)], [.int r24], S23, 0, 0)
          refine jLf.two hc _ rfl (gs := []) (p1 := r24 = 0) (p2 := ¬ (r24 = 0)) (c1 := (24, [some (.ref this), some (.int p1), some (.int p2), some (.int p3)], [], S23, 0, 0)) (c2 := (22, [some (.ref this), some (.int p1), some (.int p2), some (.int p3)], [], S23, 0, 0)) rfl trivial (fun hz => ?_) (fun hz => ?_)
          · have h := h.1 hz
            refine jLf.bk hc 1 [] [some (.ref this), some (.int p1), some (.int p2), some (.int p3)] [.int 0] S23 rfl rfl rfl trivial ?_
            exact jLf.ret hc _ rfl (gs := [True]) (v := some (.int 0)) rfl trivial ⟨0, rfl, h⟩
          · have h := h.2 hz
            refine jLf.bk hc 1 [] [some (.ref this), some (.int p1), some (.int p2), some (.int p3)] [.int 1] S23 rfl rfl rfl trivial ?_
            refine jLf.one hc _ rfl (gs := []) (c := (25, [some (.ref this), some (.int p1), some (.int p2), some (.int p3)], [.int 1], S23, 0, 0)) rfl trivial ?_
            exact jLf.ret hc _ rfl (gs := [True]) (v := some (.int 1)) rfl trivial ⟨1, rfl, h⟩
      · have h := h.2 (Classical.not_not.mp hz)
        refine jLf.bk hc 1 [] [some (.ref this), some (.int p1), some (.int p2), some (.int p3)] [.int (-1)] S8 rfl rfl rfl trivial ?_
        exact jLf.ret hc _ rfl (gs := [True]) (v := some (.int (-1))) rfl trivial ⟨(-1), rfl, h⟩
def wX11_will  (this : Nat) (p1 : Int32) (p2 : Int32) (p3 : Int32) (S : JS) (Q : Int32 → JS → Prop) : Prop :=
  jA S this 11 ∧ (wX11_isBoat this p1 p2 p3 S (fun r2 S1 => (r2 = 0 → Q (-1) S1) ∧ (¬ r2 = 0 → jA S1 this 11 ∧ (¬ jR S1 this 3 = none ∧ (¬ jR S1 this 0 = none ∧ (jA S1 (jr S1 this 3) 1 ∧ (wX1_willFor (jr S1 this 3) (jr S1 this 0) p1 p2 p3 S1 (fun r8 S7 => Q r8 S7))))))))
set_option maxRecDepth 20000 in
theorem vX11_will {Q : Int32 → JS → Prop} (d : Nat) (hd : 5 ≤ d) {this : Nat} {p1 : Int32} {p2 : Int32} {p3 : Int32} {S : JS} (h : wX11_will this p1 p2 p3 S Q) : jCall jmt jbud d 114 [.ref this, .int p1, .int p2, .int p3] S (jqI Q) := by
  obtain ⟨d, rfl⟩ : ∃ d2, d = d2 + 1 := ⟨d - 1, by omega⟩
  have hd : 4 ≤ d := by omega
  have hc := jCall_mono jmt jbud d
  unfold wX11_will at h
  refine ⟨Nat.le_of_ble_eq_true rfl, ?_⟩
  show jLf (jCall jmt jbud d) jbud (fun j => (jmt j).rk) none mX11_will (jqI Q) (0, [some (.ref this), some (.int p1), some (.int p2), some (.int p3)], [], S, 0, 0)
  refine jLf.bk hc 4 [] [some (.ref this), some (.int p1), some (.int p2), some (.int p3)] [.int p3, .int p2, .int p1, .ref this] S rfl rfl rfl trivial ?_
  obtain ⟨g3, h⟩ := h
  refine jLf.inv hc _ rfl (gs := [jA S this 11, (([] : List Value).map fun v => v.category).sum ≤ 8, 0 ≤ 0, 0 ≤ 0]) (k := 140) (args := [.ref this, .int p1, .int p2, .int p3]) (r := []) (a := 0) (b := 0) rfl ⟨g3, Nat.le_of_ble_eq_true rfl, Nat.zero_le _, Nat.zero_le _⟩ (vX11_isBoat d (by omega) h) ?_
  rintro v S1 ⟨r2, rfl, h⟩
  show jLf (jCall jmt jbud d) jbud (fun j => (jmt j).rk) none mX11_will (jqI Q) (5, [some (.ref this), some (.int p1), some (.int p2), some (.int p3)], [.int r2], S1, 0, 0)
  refine jLf.two hc _ rfl (gs := []) (p1 := r2 = 0) (p2 := ¬ (r2 = 0)) (c1 := (15, [some (.ref this), some (.int p1), some (.int p2), some (.int p3)], [], S1, 0, 0)) (c2 := (6, [some (.ref this), some (.int p1), some (.int p2), some (.int p3)], [], S1, 0, 0)) rfl trivial (fun hz => ?_) (fun hz => ?_)
  · have h := h.1 hz
    refine jLf.bk hc 1 [] [some (.ref this), some (.int p1), some (.int p2), some (.int p3)] [.int (-1)] S1 rfl rfl rfl trivial ?_
    exact jLf.ret hc _ rfl (gs := [True]) (v := some (.int (-1))) rfl trivial ⟨(-1), rfl, h⟩
  · have h := h.2 hz
    obtain ⟨g4, g5, g6, h⟩ := h
    refine jLf.bk hc 7 [jA S1 this 11, ¬ jR S1 this 3 = none, jA S1 this 11, ¬ jR S1 this 0 = none] [some (.ref this), some (.int p1), some (.int p2), some (.int p3)] [.int p3, .int p2, .int p1, .ref (jr S1 this 0), .ref (jr S1 this 3)] S1 rfl rfl rfl ⟨g4, g5, g4, g6⟩ ?_
    obtain ⟨g9, h⟩ := h
    refine jLf.inv hc _ rfl (gs := [jA S1 (jr S1 this 3) 1, (([] : List Value).map fun v => v.category).sum ≤ 8, 0 ≤ 0, 0 ≤ 0]) (k := 19) (args := [.ref (jr S1 this 3), .ref (jr S1 this 0), .int p1, .int p2, .int p3]) (r := []) (a := 0) (b := 0) rfl ⟨g9, Nat.le_of_ble_eq_true rfl, Nat.zero_le _, Nat.zero_le _⟩ (vX1_willFor d (by omega) h) ?_
    rintro v S7 ⟨r8, rfl, h⟩
    show jLf (jCall jmt jbud d) jbud (fun j => (jmt j).rk) none mX11_will (jqI Q) (14, [some (.ref this), some (.int p1), some (.int p2), some (.int p3)], [.int r8], S7, 0, 0)
    refine jLf.one hc _ rfl (gs := []) (c := (16, [some (.ref this), some (.int p1), some (.int p2), some (.int p3)], [.int r8], S7, 0, 0)) rfl trivial ?_
    exact jLf.ret hc _ rfl (gs := [True]) (v := some (.int r8)) rfl trivial ⟨r8, rfl, h⟩
def wX11_oar  (this : Nat) (p1 : Int32) (S : JS) (Q : Int32 → JS → Prop) : Prop :=
  jA S this 11 ∧ (¬ jR S this 0 = none ∧ (jA S (jr S this 0) 9 ∧ (wX9_hasRock (jr S this 0) p1 S (fun r4 S3 => (¬ r4 = 0 → jA S3 this 11 ∧ (¬ jR S3 this 0 = none ∧ (jA S3 (jr S3 this 0) 9 ∧ (((jI S3 (jr S3 this 0) 10) < 59 → ¬ jR S3 this 3 = none ∧ (wX9_glassRock (jr S3 this 0) S3 (fun r11 S10 => jA S10 this 11 ∧ (¬ jR S10 this 0 = none ∧ (jA S10 (jr S10 this 0) 9 ∧ (jA S10 (jr S3 this 3) 1 ∧ (wX1_learnFrom (jr S3 this 3) (jr S3 this 0) r11 (jI S10 (jr S10 this 0) 10) S10 (fun S15 => jA S15 this 11 ∧ (¬ jR S15 this 3 = none ∧ (¬ jR S15 this 0 = none ∧ (jA S15 (jr S15 this 0) 9 ∧ (wX9_glassRock (jr S15 this 0) S15 (fun r22 S21 => jA S21 this 11 ∧ (¬ jR S21 this 0 = none ∧ (jA S21 (jr S21 this 0) 9 ∧ (jA S21 (jr S15 this 3) 1 ∧ (wX1_steps (jr S15 this 3) r22 (jI S21 (jr S21 this 0) 10) S21 (fun r28 S27 => wX11_hasBit r28 p1 S27 (fun r31 S30 => (¬ r31 = 0 → jA S30 this 11 ∧ (¬ jR S30 this 0 = none ∧ (jA S30 (jr S30 this 0) 9 ∧ (∀ S35 : JS, S35 = uI S30 (jr S30 this 0) 10 ((jI S30 (jr S30 this 0) 10) + (1 : Int32)) → (jA S35 this 11 ∧ (¬ jR S35 this 0 = none ∧ (jA S35 (jr S35 this 0) 9 ∧ (¬ jR S35 (jr S35 this 0) 9 = none ∧ (jA S35 (jr S35 (jr S35 this 0) 9) 13 ∧ (vp_in (jI S35 (jr S35 this 0) 10) (jZ S35 (jr S35 (jr S35 this 0) 9)) ∧ (∀ S42 : JS, S42 = uI S35 (jr S35 (jr S35 this 0) 9) (jI S35 (jr S35 this 0) 10).toNatClampNeg p1 → (jA S42 this 11 ∧ (¬ jR S42 this 0 = none ∧ (jA S42 (jr S42 this 0) 9 ∧ (wX11_accept this (jI S42 (jr S42 this 0) 10) S42 (fun r47 S46 => Q r47 S46)))))))))))))))) ∧ (r31 = 0 → jA S30 this 11 ∧ (wX11_refuse this (-3) S30 (fun r49 S48 => Q r49 S48)))))))))))))))))))))) ∧ (¬ ((jI S3 (jr S3 this 0) 10) < 59) → wX11_refuse this (-3) S3 (fun r52 S51 => Q r52 S51)))))) ∧ (r4 = 0 → jA S3 this 11 ∧ (wX11_refuse this (-2) S3 (fun r54 S53 => Q r54 S53)))))))
set_option maxRecDepth 20000 in
theorem vX11_oar {Q : Int32 → JS → Prop} (d : Nat) (hd : 5 ≤ d) {this : Nat} {p1 : Int32} {S : JS} (h : wX11_oar this p1 S Q) : jCall jmt jbud d 115 [.ref this, .int p1] S (jqI Q) := by
  obtain ⟨d, rfl⟩ : ∃ d2, d = d2 + 1 := ⟨d - 1, by omega⟩
  have hd : 4 ≤ d := by omega
  have hc := jCall_mono jmt jbud d
  unfold wX11_oar at h
  refine ⟨Nat.le_of_ble_eq_true rfl, ?_⟩
  show jLf (jCall jmt jbud d) jbud (fun j => (jmt j).rk) none mX11_oar (jqI Q) (0, [some (.ref this), some (.int p1)], [], S, 0, 0)
  obtain ⟨g1, g2, h⟩ := h
  refine jLf.bk hc 3 [jA S this 11, ¬ jR S this 0 = none] [some (.ref this), some (.int p1)] [.int p1, .ref (jr S this 0)] S rfl rfl rfl ⟨g1, g2⟩ ?_
  obtain ⟨g5, h⟩ := h
  refine jLf.inv hc _ rfl (gs := [jA S (jr S this 0) 9, (([] : List Value).map fun v => v.category).sum ≤ 8, 0 ≤ 0, 0 ≤ 0]) (k := 87) (args := [.ref (jr S this 0), .int p1]) (r := []) (a := 0) (b := 0) rfl ⟨g5, Nat.le_of_ble_eq_true rfl, Nat.zero_le _, Nat.zero_le _⟩ (vX9_hasRock d (by omega) h) ?_
  rintro v S3 ⟨r4, rfl, h⟩
  show jLf (jCall jmt jbud d) jbud (fun j => (jmt j).rk) none mX11_oar (jqI Q) (4, [some (.ref this), some (.int p1)], [.int r4], S3, 0, 0)
  refine jLf.two hc _ rfl (gs := []) (p1 := ¬ r4 = 0) (p2 := ¬ (¬ r4 = 0)) (c1 := (9, [some (.ref this), some (.int p1)], [], S3, 0, 0)) (c2 := (5, [some (.ref this), some (.int p1)], [], S3, 0, 0)) rfl trivial (fun hz => ?_) (fun hz => ?_)
  · have h := h.1 hz
    obtain ⟨g6, g7, g8, h⟩ := h
    refine jLf.bk hc 4 [jA S3 this 11, ¬ jR S3 this 0 = none, jA S3 (jr S3 this 0) 9] [some (.ref this), some (.int p1)] [.int 59, .int (jI S3 (jr S3 this 0) 10)] S3 rfl rfl rfl ⟨g6, g7, g8⟩ ?_
    refine jLf.two hc _ rfl (gs := []) (p1 := (jI S3 (jr S3 this 0) 10) < 59) (p2 := ¬ ((jI S3 (jr S3 this 0) 10) < 59)) (c1 := (18, [some (.ref this), some (.int p1)], [], S3, 0, 0)) (c2 := (14, [some (.ref this), some (.int p1)], [], S3, 0, 0)) rfl trivial (fun hz => ?_) (fun hz => ?_)
    · have h := h.1 hz
      obtain ⟨g9, h⟩ := h
      refine jLf.bk hc 6 [jA S3 this 11, ¬ jR S3 this 3 = none, jA S3 this 11, ¬ jR S3 this 0 = none, jA S3 this 11, ¬ jR S3 this 0 = none] [some (.ref this), some (.int p1)] [.ref (jr S3 this 0), .ref (jr S3 this 0), .ref (jr S3 this 3)] S3 rfl rfl rfl ⟨g6, g9, g6, g7, g6, g7⟩ ?_
      refine jLf.inv hc _ rfl (gs := [jA S3 (jr S3 this 0) 9, (([.ref (jr S3 this 0), .ref (jr S3 this 3)] : List Value).map fun v => v.category).sum ≤ 8, 0 ≤ 0, 0 ≤ 0]) (k := 88) (args := [.ref (jr S3 this 0)]) (r := [.ref (jr S3 this 0), .ref (jr S3 this 3)]) (a := 0) (b := 0) rfl ⟨g8, Nat.le_of_ble_eq_true rfl, Nat.zero_le _, Nat.zero_le _⟩ (vX9_glassRock d (by omega) h) ?_
      rintro v S10 ⟨r11, rfl, h⟩
      show jLf (jCall jmt jbud d) jbud (fun j => (jmt j).rk) none mX11_oar (jqI Q) (25, [some (.ref this), some (.int p1)], [.int r11, .ref (jr S3 this 0), .ref (jr S3 this 3)], S10, 0, 0)
      obtain ⟨g12, g13, g14, h⟩ := h
      refine jLf.bk hc 3 [jA S10 this 11, ¬ jR S10 this 0 = none, jA S10 (jr S10 this 0) 9] [some (.ref this), some (.int p1)] [.int (jI S10 (jr S10 this 0) 10), .int r11, .ref (jr S3 this 0), .ref (jr S3 this 3)] S10 rfl rfl rfl ⟨g12, g13, g14⟩ ?_
      obtain ⟨g17, h⟩ := h
      refine jLf.inv hc _ rfl (gs := [jA S10 (jr S3 this 3) 1, (([] : List Value).map fun v => v.category).sum ≤ 8, 0 ≤ 0, 0 ≤ 0]) (k := 11) (args := [.ref (jr S3 this 3), .ref (jr S3 this 0), .int r11, .int (jI S10 (jr S10 this 0) 10)]) (r := []) (a := 0) (b := 0) rfl ⟨g17, Nat.le_of_ble_eq_true rfl, Nat.zero_le _, Nat.zero_le _⟩ (vX1_learnFrom d (by omega) h) ?_
      rintro v S15 ⟨rfl, h⟩
      show jLf (jCall jmt jbud d) jbud (fun j => (jmt j).rk) none mX11_oar (jqI Q) (29, [some (.ref this), some (.int p1)], [], S15, 0, 0)
      obtain ⟨g18, g19, g20, h⟩ := h
      refine jLf.bk hc 4 [jA S15 this 11, ¬ jR S15 this 3 = none, jA S15 this 11, ¬ jR S15 this 0 = none] [some (.ref this), some (.int p1)] [.ref (jr S15 this 0), .ref (jr S15 this 3)] S15 rfl rfl rfl ⟨g18, g19, g18, g20⟩ ?_
      obtain ⟨g23, h⟩ := h
      refine jLf.inv hc _ rfl (gs := [jA S15 (jr S15 this 0) 9, (([.ref (jr S15 this 3)] : List Value).map fun v => v.category).sum ≤ 8, 0 ≤ 0, 0 ≤ 0]) (k := 88) (args := [.ref (jr S15 this 0)]) (r := [.ref (jr S15 this 3)]) (a := 0) (b := 0) rfl ⟨g23, Nat.le_of_ble_eq_true rfl, Nat.zero_le _, Nat.zero_le _⟩ (vX9_glassRock d (by omega) h) ?_
      rintro v S21 ⟨r22, rfl, h⟩
      show jLf (jCall jmt jbud d) jbud (fun j => (jmt j).rk) none mX11_oar (jqI Q) (34, [some (.ref this), some (.int p1)], [.int r22, .ref (jr S15 this 3)], S21, 0, 0)
      obtain ⟨g24, g25, g26, h⟩ := h
      refine jLf.bk hc 3 [jA S21 this 11, ¬ jR S21 this 0 = none, jA S21 (jr S21 this 0) 9] [some (.ref this), some (.int p1)] [.int (jI S21 (jr S21 this 0) 10), .int r22, .ref (jr S15 this 3)] S21 rfl rfl rfl ⟨g24, g25, g26⟩ ?_
      obtain ⟨g29, h⟩ := h
      refine jLf.inv hc _ rfl (gs := [jA S21 (jr S15 this 3) 1, (([] : List Value).map fun v => v.category).sum ≤ 8, 0 ≤ 0, 0 ≤ 0]) (k := 15) (args := [.ref (jr S15 this 3), .int r22, .int (jI S21 (jr S21 this 0) 10)]) (r := []) (a := 0) (b := 0) rfl ⟨g29, Nat.le_of_ble_eq_true rfl, Nat.zero_le _, Nat.zero_le _⟩ (vX1_steps d (by omega) h) ?_
      rintro v S27 ⟨r28, rfl, h⟩
      show jLf (jCall jmt jbud d) jbud (fun j => (jmt j).rk) none mX11_oar (jqI Q) (38, [some (.ref this), some (.int p1)], [.int r28], S27, 0, 0)
      refine jLf.bk hc 1 [] [some (.ref this), some (.int p1)] [.int p1, .int r28] S27 rfl rfl rfl trivial ?_
      refine jLf.inv hc _ rfl (gs := [2 ≤ ([.int p1, .int r28] : List Value).length, (([] : List Value).map fun v => v.category).sum ≤ 8, 0 ≤ 0, 0 ≤ 0]) (k := 145) (args := [.int r28, .int p1]) (r := []) (a := 0) (b := 0) rfl ⟨Nat.le_of_ble_eq_true rfl, Nat.le_of_ble_eq_true rfl, Nat.zero_le _, Nat.zero_le _⟩ (vX11_hasBit d (by omega) h) ?_
      rintro v S30 ⟨r31, rfl, h⟩
      show jLf (jCall jmt jbud d) jbud (fun j => (jmt j).rk) none mX11_oar (jqI Q) (40, [some (.ref this), some (.int p1)], [.int r31], S30, 0, 0)
      refine jLf.two hc _ rfl (gs := []) (p1 := ¬ r31 = 0) (p2 := ¬ (¬ r31 = 0)) (c1 := (45, [some (.ref this), some (.int p1)], [], S30, 0, 0)) (c2 := (41, [some (.ref this), some (.int p1)], [], S30, 0, 0)) rfl trivial (fun hz => ?_) (fun hz => ?_)
      · have h := h.1 hz
        obtain ⟨g32, g33, g34, h⟩ := h
        refine jLf.bk hc 7 [jA S30 this 11, ¬ jR S30 this 0 = none, (.ref (jr S30 this 0) : Value).category = 1, jA S30 (jr S30 this 0) 9, jA S30 (jr S30 this 0) 9] [some (.ref this), some (.int p1)] [] (uI S30 (jr S30 this 0) 10 ((jI S30 (jr S30 this 0) 10) + (1 : Int32))) rfl rfl rfl ⟨g32, g33, rfl, g34, g34⟩ ?_
        generalize eS35 : uI S30 (jr S30 this 0) 10 ((jI S30 (jr S30 this 0) 10) + (1 : Int32)) = S35
        have h := h S35 eS35.symm
        obtain ⟨g36, g37, g38, g39, g40, g41, h⟩ := h
        refine jLf.bk hc 8 [jA S35 this 11, ¬ jR S35 this 0 = none, jA S35 (jr S35 this 0) 9, ¬ jR S35 (jr S35 this 0) 9 = none, jA S35 this 11, ¬ jR S35 this 0 = none, jA S35 (jr S35 this 0) 9, jA S35 (jr S35 (jr S35 this 0) 9) 13, vp_in (jI S35 (jr S35 this 0) 10) (jZ S35 (jr S35 (jr S35 this 0) 9))] [some (.ref this), some (.int p1)] [] (uI S35 (jr S35 (jr S35 this 0) 9) (jI S35 (jr S35 this 0) 10).toNatClampNeg p1) rfl rfl rfl ⟨g36, g37, g38, g39, g36, g37, g38, g40, g41⟩ ?_
        generalize eS42 : uI S35 (jr S35 (jr S35 this 0) 9) (jI S35 (jr S35 this 0) 10).toNatClampNeg p1 = S42
        have h := h S42 eS42.symm
        obtain ⟨g43, g44, g45, h⟩ := h
        refine jLf.bk hc 4 [jA S42 this 11, ¬ jR S42 this 0 = none, jA S42 (jr S42 this 0) 9] [some (.ref this), some (.int p1)] [.int (jI S42 (jr S42 this 0) 10), .ref this] S42 rfl rfl rfl ⟨g43, g44, g45⟩ ?_
        refine jLf.inv hc _ rfl (gs := [jA S42 this 11, (([] : List Value).map fun v => v.category).sum ≤ 8, 0 ≤ 0, 0 ≤ 0]) (k := 138) (args := [.ref this, .int (jI S42 (jr S42 this 0) 10)]) (r := []) (a := 0) (b := 0) rfl ⟨g43, Nat.le_of_ble_eq_true rfl, Nat.zero_le _, Nat.zero_le _⟩ (vX11_accept d (by omega) h) ?_
        rintro v S46 ⟨r47, rfl, h⟩
        show jLf (jCall jmt jbud d) jbud (fun j => (jmt j).rk) none mX11_oar (jqI Q) (65, [some (.ref this), some (.int p1)], [.int r47], S46, 0, 0)
        exact jLf.ret hc _ rfl (gs := [True]) (v := some (.int r47)) rfl trivial ⟨r47, rfl, h⟩
      · have h := h.2 (Classical.not_not.mp hz)
        refine jLf.bk hc 2 [] [some (.ref this), some (.int p1)] [.int (-3), .ref this] S30 rfl rfl rfl trivial ?_
        obtain ⟨g50, h⟩ := h
        refine jLf.inv hc _ rfl (gs := [jA S30 this 11, (([] : List Value).map fun v => v.category).sum ≤ 8, 0 ≤ 0, 0 ≤ 0]) (k := 137) (args := [.ref this, .int (-3)]) (r := []) (a := 0) (b := 0) rfl ⟨g50, Nat.le_of_ble_eq_true rfl, Nat.zero_le _, Nat.zero_le _⟩ (vX11_refuse d (by omega) h) ?_
        rintro v S48 ⟨r49, rfl, h⟩
        show jLf (jCall jmt jbud d) jbud (fun j => (jmt j).rk) none mX11_oar (jqI Q) (44, [some (.ref this), some (.int p1)], [.int r49], S48, 0, 0)
        exact jLf.ret hc _ rfl (gs := [True]) (v := some (.int r49)) rfl trivial ⟨r49, rfl, h⟩
    · have h := h.2 hz
      refine jLf.bk hc 2 [] [some (.ref this), some (.int p1)] [.int (-3), .ref this] S3 rfl rfl rfl trivial ?_
      refine jLf.inv hc _ rfl (gs := [jA S3 this 11, (([] : List Value).map fun v => v.category).sum ≤ 8, 0 ≤ 0, 0 ≤ 0]) (k := 137) (args := [.ref this, .int (-3)]) (r := []) (a := 0) (b := 0) rfl ⟨g6, Nat.le_of_ble_eq_true rfl, Nat.zero_le _, Nat.zero_le _⟩ (vX11_refuse d (by omega) h) ?_
      rintro v S51 ⟨r52, rfl, h⟩
      show jLf (jCall jmt jbud d) jbud (fun j => (jmt j).rk) none mX11_oar (jqI Q) (17, [some (.ref this), some (.int p1)], [.int r52], S51, 0, 0)
      exact jLf.ret hc _ rfl (gs := [True]) (v := some (.int r52)) rfl trivial ⟨r52, rfl, h⟩
  · have h := h.2 (Classical.not_not.mp hz)
    refine jLf.bk hc 2 [] [some (.ref this), some (.int p1)] [.int (-2), .ref this] S3 rfl rfl rfl trivial ?_
    obtain ⟨g55, h⟩ := h
    refine jLf.inv hc _ rfl (gs := [jA S3 this 11, (([] : List Value).map fun v => v.category).sum ≤ 8, 0 ≤ 0, 0 ≤ 0]) (k := 137) (args := [.ref this, .int (-2)]) (r := []) (a := 0) (b := 0) rfl ⟨g55, Nat.le_of_ble_eq_true rfl, Nat.zero_le _, Nat.zero_le _⟩ (vX11_refuse d (by omega) h) ?_
    rintro v S53 ⟨r54, rfl, h⟩
    show jLf (jCall jmt jbud d) jbud (fun j => (jmt j).rk) none mX11_oar (jqI Q) (8, [some (.ref this), some (.int p1)], [.int r54], S53, 0, 0)
    exact jLf.ret hc _ rfl (gs := [True]) (v := some (.int r54)) rfl trivial ⟨r54, rfl, h⟩
def wX11_unrow  (this : Nat) (S : JS) (Q : Int32 → JS → Prop) : Prop :=
  jA S this 11 ∧ (¬ jR S this 0 = none ∧ (jA S (jr S this 0) 9 ∧ ((0 < (jI S (jr S this 0) 10) → ∀ S4 : JS, S4 = uI S (jr S this 0) 10 ((jI S (jr S this 0) 10) - (1 : Int32)) → (jA S4 this 11 ∧ (¬ jR S4 this 0 = none ∧ (jA S4 (jr S4 this 0) 9 ∧ (wX9_glassRock (jr S4 this 0) S4 (fun r8 S7 => jA S7 this 11 ∧ (wX11_accept this r8 S7 (fun r11 S10 => Q r11 S10)))))))) ∧ (¬ (0 < (jI S (jr S this 0) 10)) → wX11_refuse this (-3) S (fun r14 S13 => Q r14 S13)))))
set_option maxRecDepth 20000 in
theorem vX11_unrow {Q : Int32 → JS → Prop} (d : Nat) (hd : 2 ≤ d) {this : Nat} {S : JS} (h : wX11_unrow this S Q) : jCall jmt jbud d 116 [.ref this] S (jqI Q) := by
  obtain ⟨d, rfl⟩ : ∃ d2, d = d2 + 1 := ⟨d - 1, by omega⟩
  have hd : 1 ≤ d := by omega
  have hc := jCall_mono jmt jbud d
  unfold wX11_unrow at h
  refine ⟨Nat.le_of_ble_eq_true rfl, ?_⟩
  show jLf (jCall jmt jbud d) jbud (fun j => (jmt j).rk) none mX11_unrow (jqI Q) (0, [some (.ref this)], [], S, 0, 0)
  obtain ⟨g1, g2, g3, h⟩ := h
  refine jLf.bk hc 3 [jA S this 11, ¬ jR S this 0 = none, jA S (jr S this 0) 9] [some (.ref this)] [.int (jI S (jr S this 0) 10)] S rfl rfl rfl ⟨g1, g2, g3⟩ ?_
  refine jLf.two hc _ rfl (gs := []) (p1 := 0 < (jI S (jr S this 0) 10)) (p2 := ¬ (0 < (jI S (jr S this 0) 10))) (c1 := (8, [some (.ref this)], [], S, 0, 0)) (c2 := (4, [some (.ref this)], [], S, 0, 0)) rfl trivial (fun hz => ?_) (fun hz => ?_)
  · have h := h.1 hz
    refine jLf.bk hc 7 [jA S this 11, ¬ jR S this 0 = none, (.ref (jr S this 0) : Value).category = 1, jA S (jr S this 0) 9, jA S (jr S this 0) 9] [some (.ref this)] [] (uI S (jr S this 0) 10 ((jI S (jr S this 0) 10) - (1 : Int32))) rfl rfl rfl ⟨g1, g2, rfl, g3, g3⟩ ?_
    generalize eS4 : uI S (jr S this 0) 10 ((jI S (jr S this 0) 10) - (1 : Int32)) = S4
    have h := h S4 eS4.symm
    obtain ⟨g5, g6, h⟩ := h
    refine jLf.bk hc 3 [jA S4 this 11, ¬ jR S4 this 0 = none] [some (.ref this)] [.ref (jr S4 this 0), .ref this] S4 rfl rfl rfl ⟨g5, g6⟩ ?_
    obtain ⟨g9, h⟩ := h
    refine jLf.inv hc _ rfl (gs := [jA S4 (jr S4 this 0) 9, (([.ref this] : List Value).map fun v => v.category).sum ≤ 8, 0 ≤ 0, 0 ≤ 0]) (k := 88) (args := [.ref (jr S4 this 0)]) (r := [.ref this]) (a := 0) (b := 0) rfl ⟨g9, Nat.le_of_ble_eq_true rfl, Nat.zero_le _, Nat.zero_le _⟩ (vX9_glassRock d (by omega) h) ?_
    rintro v S7 ⟨r8, rfl, h⟩
    show jLf (jCall jmt jbud d) jbud (fun j => (jmt j).rk) none mX11_unrow (jqI Q) (19, [some (.ref this)], [.int r8, .ref this], S7, 0, 0)
    obtain ⟨g12, h⟩ := h
    refine jLf.inv hc _ rfl (gs := [jA S7 this 11, (([] : List Value).map fun v => v.category).sum ≤ 8, 0 ≤ 0, 0 ≤ 0]) (k := 138) (args := [.ref this, .int r8]) (r := []) (a := 0) (b := 0) rfl ⟨g12, Nat.le_of_ble_eq_true rfl, Nat.zero_le _, Nat.zero_le _⟩ (vX11_accept d (by omega) h) ?_
    rintro v S10 ⟨r11, rfl, h⟩
    show jLf (jCall jmt jbud d) jbud (fun j => (jmt j).rk) none mX11_unrow (jqI Q) (20, [some (.ref this)], [.int r11], S10, 0, 0)
    exact jLf.ret hc _ rfl (gs := [True]) (v := some (.int r11)) rfl trivial ⟨r11, rfl, h⟩
  · have h := h.2 hz
    refine jLf.bk hc 2 [] [some (.ref this)] [.int (-3), .ref this] S rfl rfl rfl trivial ?_
    refine jLf.inv hc _ rfl (gs := [jA S this 11, (([] : List Value).map fun v => v.category).sum ≤ 8, 0 ≤ 0, 0 ≤ 0]) (k := 137) (args := [.ref this, .int (-3)]) (r := []) (a := 0) (b := 0) rfl ⟨g1, Nat.le_of_ble_eq_true rfl, Nat.zero_le _, Nat.zero_le _⟩ (vX11_refuse d (by omega) h) ?_
    rintro v S13 ⟨r14, rfl, h⟩
    show jLf (jCall jmt jbud d) jbud (fun j => (jmt j).rk) none mX11_unrow (jqI Q) (7, [some (.ref this)], [.int r14], S13, 0, 0)
    exact jLf.ret hc _ rfl (gs := [True]) (v := some (.int r14)) rfl trivial ⟨r14, rfl, h⟩
def wX11_trail  (this : Nat) (p1 : Int32) (S : JS) (Q : Int32 → JS → Prop) : Prop :=
  (p1 < 0 → Q (-1) S) ∧ (¬ (p1 < 0) → jA S this 11 ∧ (¬ jR S this 0 = none ∧ (jA S (jr S this 0) 9 ∧ ((p1 ≤ (jI S (jr S this 0) 10) → ¬ jR S (jr S this 0) 9 = none ∧ (jA S (jr S (jr S this 0) 9) 13 ∧ (vp_in p1 (jZ S (jr S (jr S this 0) 9)) ∧ (Q (jI S (jr S (jr S this 0) 9) p1.toNatClampNeg) S)))) ∧ (¬ (p1 ≤ (jI S (jr S this 0) 10)) → Q (-1) S)))))
set_option maxRecDepth 20000 in
theorem vX11_trail {Q : Int32 → JS → Prop} (d : Nat) (hd : 1 ≤ d) {this : Nat} {p1 : Int32} {S : JS} (h : wX11_trail this p1 S Q) : jCall jmt jbud d 117 [.ref this, .int p1] S (jqI Q) := by
  obtain ⟨d, rfl⟩ : ∃ d2, d = d2 + 1 := ⟨d - 1, by omega⟩
  have hd : 0 ≤ d := by omega
  have hc := jCall_mono jmt jbud d
  unfold wX11_trail at h
  refine ⟨Nat.le_of_ble_eq_true rfl, ?_⟩
  show jLf (jCall jmt jbud d) jbud (fun j => (jmt j).rk) none mX11_trail (jqI Q) (0, [some (.ref this), some (.int p1)], [], S, 0, 0)
  refine jLf.bk hc 1 [] [some (.ref this), some (.int p1)] [.int p1] S rfl rfl rfl trivial ?_
  refine jLf.two hc _ rfl (gs := []) (p1 := p1 < 0) (p2 := ¬ (p1 < 0)) (c1 := (7, [some (.ref this), some (.int p1)], [], S, 0, 0)) (c2 := (2, [some (.ref this), some (.int p1)], [], S, 0, 0)) rfl trivial (fun hz => ?_) (fun hz => ?_)
  · have h := h.1 hz
    refine jLf.bk hc 1 [] [some (.ref this), some (.int p1)] [.int (-1)] S rfl rfl rfl trivial ?_
    refine jLf.one hc _ rfl (gs := []) (c := (14, [some (.ref this), some (.int p1)], [.int (-1)], S, 0, 0)) rfl trivial ?_
    exact jLf.ret hc _ rfl (gs := [True]) (v := some (.int (-1))) rfl trivial ⟨(-1), rfl, h⟩
  · have h := h.2 hz
    obtain ⟨g1, g2, g3, h⟩ := h
    refine jLf.bk hc 4 [jA S this 11, ¬ jR S this 0 = none, jA S (jr S this 0) 9] [some (.ref this), some (.int p1)] [.int (jI S (jr S this 0) 10), .int p1] S rfl rfl rfl ⟨g1, g2, g3⟩ ?_
    refine jLf.two hc _ rfl (gs := []) (p1 := p1 ≤ (jI S (jr S this 0) 10)) (p2 := ¬ (p1 ≤ (jI S (jr S this 0) 10))) (c1 := (9, [some (.ref this), some (.int p1)], [], S, 0, 0)) (c2 := (7, [some (.ref this), some (.int p1)], [], S, 0, 0)) rfl trivial (fun hz => ?_) (fun hz => ?_)
    · have h := h.1 hz
      obtain ⟨g4, g5, g6, h⟩ := h
      refine jLf.bk hc 5 [jA S this 11, ¬ jR S this 0 = none, jA S (jr S this 0) 9, ¬ jR S (jr S this 0) 9 = none, jA S (jr S (jr S this 0) 9) 13, vp_in p1 (jZ S (jr S (jr S this 0) 9))] [some (.ref this), some (.int p1)] [.int (jI S (jr S (jr S this 0) 9) p1.toNatClampNeg)] S rfl rfl rfl ⟨g1, g2, g3, g4, g5, g6⟩ ?_
      exact jLf.ret hc _ rfl (gs := [True]) (v := some (.int (jI S (jr S (jr S this 0) 9) p1.toNatClampNeg))) rfl trivial ⟨jI S (jr S (jr S this 0) 9) p1.toNatClampNeg, rfl, h⟩
    · have h := h.2 hz
      refine jLf.bk hc 1 [] [some (.ref this), some (.int p1)] [.int (-1)] S rfl rfl rfl trivial ?_
      refine jLf.one hc _ rfl (gs := []) (c := (14, [some (.ref this), some (.int p1)], [.int (-1)], S, 0, 0)) rfl trivial ?_
      exact jLf.ret hc _ rfl (gs := [True]) (v := some (.int (-1))) rfl trivial ⟨(-1), rfl, h⟩
def bX11_unwarned_13   (X13 : Nat → Int32 → Int32 → JS → Prop) (l0 : Nat) (l1 : Int32) (l2 : Int32) (S : JS) (Q : Int32 → JS → Prop) : Prop :=
  jA S l0 11 ∧ (¬ jR S l0 0 = none ∧ (jA S (jr S l0 0) 9 ∧ (((jI S (jr S l0 0) 10) < l2 → Q l1 S) ∧ (¬ ((jI S (jr S l0 0) 10) < l2) → ¬ jR S l0 3 = none ∧ (jA S (jr S l0 3) 1 ∧ (wX1_allDanger (jr S l0 3) (jr S l0 0) l2 S (fun r13 S12 => jA S12 l0 11 ∧ (¬ jR S12 l0 3 = none ∧ (¬ jR S12 l0 0 = none ∧ (jA S12 (jr S12 l0 0) 9 ∧ (¬ jR S12 (jr S12 l0 0) 9 = none ∧ (jA S12 (jr S12 (jr S12 l0 0) 9) 13 ∧ (vp_in l2 (jZ S12 (jr S12 (jr S12 l0 0) 9)) ∧ (jA S12 (jr S12 l0 3) 1 ∧ (wX1_danger (jr S12 l0 3) (jI S12 (jr S12 (jr S12 l0 0) 9) l2.toNatClampNeg) l2 S12 (fun r23 S22 => ∀ x25 : Int32, x25 = (l1 + (r13 - r23)) → (∀ x26 : Int32, x26 = (l2 + 1) → (X13 l0 x25 x26 S22))))))))))))))))))
set_option maxRecDepth 20000 in
theorem uX11_unwarned_13 {Q : Int32 → JS → Prop}  (d : Nat) (hd : 5 ≤ d) {X13 : Nat → Int32 → Int32 → JS → Prop} (hX13 : ∀ l0 l1 l2 S, X13 l0 l1 l2 S → jLf (jCall jmt jbud d) jbud (fun j => (jmt j).rk) none mX11_unwarned (jqI Q) (13, [some (.ref l0), some (.int l1), some (.int l2)], [], S, 0, 0)) {l0 : Nat} {l1 : Int32} {l2 : Int32} {S : JS} (h : bX11_unwarned_13 X13 l0 l1 l2 S Q) : jLf (jCall jmt jbud d) jbud (fun j => (jmt j).rk) none mX11_unwarned (jqI Q) (13, [some (.ref l0), some (.int l1), some (.int l2)], [], S, 0, 0) := by
  have hc := jCall_mono jmt jbud d
  unfold bX11_unwarned_13 at h
  obtain ⟨g8, g9, g10, h⟩ := h
  refine jLf.bk hc 4 [jA S l0 11, ¬ jR S l0 0 = none, jA S (jr S l0 0) 9] [some (.ref l0), some (.int l1), some (.int l2)] [.int (jI S (jr S l0 0) 10), .int l2] S rfl rfl rfl ⟨g8, g9, g10⟩ ?_
  refine jLf.two hc _ rfl (gs := []) (p1 := (jI S (jr S l0 0) 10) < l2) (p2 := ¬ ((jI S (jr S l0 0) 10) < l2)) (c1 := (39, [some (.ref l0), some (.int l1), some (.int l2)], [], S, 0, 0)) (c2 := (18, [some (.ref l0), some (.int l1), some (.int l2)], [], S, 0, 0)) rfl trivial (fun hz => ?_) (fun hz => ?_)
  · have h := h.1 hz
    refine jLf.bk hc 1 [] [some (.ref l0), some (.int l1), some (.int l2)] [.int l1] S rfl rfl rfl trivial ?_
    exact jLf.ret hc _ rfl (gs := [True]) (v := some (.int l1)) rfl trivial ⟨l1, rfl, h⟩
  · have h := h.2 hz
    obtain ⟨g11, h⟩ := h
    refine jLf.bk hc 6 [jA S l0 11, ¬ jR S l0 3 = none, jA S l0 11, ¬ jR S l0 0 = none] [some (.ref l0), some (.int l1), some (.int l2)] [.int l2, .ref (jr S l0 0), .ref (jr S l0 3), .int l1] S rfl rfl rfl ⟨g8, g11, g8, g9⟩ ?_
    obtain ⟨g14, h⟩ := h
    refine jLf.inv hc _ rfl (gs := [jA S (jr S l0 3) 1, (([.int l1] : List Value).map fun v => v.category).sum ≤ 8, 0 ≤ 0, 0 ≤ 0]) (k := 18) (args := [.ref (jr S l0 3), .ref (jr S l0 0), .int l2]) (r := [.int l1]) (a := 0) (b := 0) rfl ⟨g14, Nat.le_of_ble_eq_true rfl, Nat.zero_le _, Nat.zero_le _⟩ (vX1_allDanger d (by omega) h) ?_
    rintro v S12 ⟨r13, rfl, h⟩
    show jLf (jCall jmt jbud d) jbud (fun j => (jmt j).rk) none mX11_unwarned (jqI Q) (25, [some (.ref l0), some (.int l1), some (.int l2)], [.int r13, .int l1], S12, 0, 0)
    obtain ⟨g15, g16, g17, g18, g19, g20, g21, h⟩ := h
    refine jLf.bk hc 8 [jA S12 l0 11, ¬ jR S12 l0 3 = none, jA S12 l0 11, ¬ jR S12 l0 0 = none, jA S12 (jr S12 l0 0) 9, ¬ jR S12 (jr S12 l0 0) 9 = none, jA S12 (jr S12 (jr S12 l0 0) 9) 13, vp_in l2 (jZ S12 (jr S12 (jr S12 l0 0) 9))] [some (.ref l0), some (.int l1), some (.int l2)] [.int l2, .int (jI S12 (jr S12 (jr S12 l0 0) 9) l2.toNatClampNeg), .ref (jr S12 l0 3), .int r13, .int l1] S12 rfl rfl rfl ⟨g15, g16, g15, g17, g18, g19, g20, g21⟩ ?_
    obtain ⟨g24, h⟩ := h
    refine jLf.inv hc _ rfl (gs := [jA S12 (jr S12 l0 3) 1, (([.int r13, .int l1] : List Value).map fun v => v.category).sum ≤ 8, 0 ≤ 0, 0 ≤ 0]) (k := 17) (args := [.ref (jr S12 l0 3), .int (jI S12 (jr S12 (jr S12 l0 0) 9) l2.toNatClampNeg), .int l2]) (r := [.int r13, .int l1]) (a := 0) (b := 0) rfl ⟨g24, Nat.le_of_ble_eq_true rfl, Nat.zero_le _, Nat.zero_le _⟩ (vX1_danger d (by omega) h) ?_
    rintro v S22 ⟨r23, rfl, h⟩
    show jLf (jCall jmt jbud d) jbud (fun j => (jmt j).rk) none mX11_unwarned (jqI Q) (34, [some (.ref l0), some (.int l1), some (.int l2)], [.int r23, .int r13, .int l1], S22, 0, 0)
    refine jLf.bk hc 3 [] [some (.ref l0), some (.int (l1 + (r13 - r23))), some (.int l2)] [] S22 rfl rfl rfl trivial ?_
    generalize ex25 : (l1 + (r13 - r23) : Int32) = x25
    have h := h x25 ex25.symm
    refine jLf.bk hc 1 [] [some (.ref l0), some (.int x25), some (.int (l2 + 1))] [] S22 rfl rfl rfl trivial ?_
    generalize ex26 : (l2 + 1 : Int32) = x26
    have h := h x26 ex26.symm
    refine jLf.one hc _ rfl (gs := []) (c := (13, [some (.ref l0), some (.int x25), some (.int x26)], [], S22, 0, 0)) rfl trivial ?_
    exact hX13 _ _ _ _ h
def wX11_unwarned_13   (l0 : Nat) (l1 : Int32) (l2 : Int32) (S : JS) (Q : Int32 → JS → Prop) : Prop :=
  jLoop (fun (X13 : Nat × Int32 × Int32 × JS → Prop) q => bX11_unwarned_13 (fun l0 l1 l2 S => X13 (l0, l1, l2, S)) q.1 q.2.1 q.2.2.1 q.2.2.2 Q) (l0, l1, l2, S)
set_option maxRecDepth 20000 in
theorem tX11_unwarned_13 {Q : Int32 → JS → Prop}  (d : Nat) (hd : 5 ≤ d) {l0 : Nat} {l1 : Int32} {l2 : Int32} {S : JS} (h : wX11_unwarned_13 l0 l1 l2 S Q) : jLf (jCall jmt jbud d) jbud (fun j => (jmt j).rk) none mX11_unwarned (jqI Q) (13, [some (.ref l0), some (.int l1), some (.int l2)], [], S, 0, 0) := by
  have := h (fun q : Nat × Int32 × Int32 × JS => jLf (jCall jmt jbud d) jbud (fun j => (jmt j).rk) none mX11_unwarned (jqI Q) (13, [some (.ref (q.1)), some (.int (q.2.1)), some (.int (q.2.2.1))], [], q.2.2.2, 0, 0)) (fun q R hb hR => uX11_unwarned_13 d hd  (fun _ _ _ _ => hR _) hb)
  exact this
def wX11_unwarned  (this : Nat) (S : JS) (Q : Int32 → JS → Prop) : Prop :=
  jA S this 11 ∧ (¬ jR S this 3 = none ∧ (¬ jR S this 0 = none ∧ (jA S (jr S this 0) 9 ∧ (jA S (jr S this 3) 1 ∧ (wX1_learnDangers (jr S this 3) (jr S this 0) 0 (jI S (jr S this 0) 10) S (fun S5 => wX11_unwarned_13 this 0 0 S5 Q))))))
set_option maxRecDepth 20000 in
theorem vX11_unwarned {Q : Int32 → JS → Prop} (d : Nat) (hd : 6 ≤ d) {this : Nat} {S : JS} (h : wX11_unwarned this S Q) : jCall jmt jbud d 118 [.ref this] S (jqI Q) := by
  obtain ⟨d, rfl⟩ : ∃ d2, d = d2 + 1 := ⟨d - 1, by omega⟩
  have hd : 5 ≤ d := by omega
  have hc := jCall_mono jmt jbud d
  unfold wX11_unwarned at h
  refine ⟨Nat.le_of_ble_eq_true rfl, ?_⟩
  show jLf (jCall jmt jbud d) jbud (fun j => (jmt j).rk) none mX11_unwarned (jqI Q) (0, [some (.ref this), none, none], [], S, 0, 0)
  obtain ⟨g1, g2, g3, g4, h⟩ := h
  refine jLf.bk hc 8 [jA S this 11, ¬ jR S this 3 = none, jA S this 11, ¬ jR S this 0 = none, jA S this 11, ¬ jR S this 0 = none, jA S (jr S this 0) 9] [some (.ref this), none, none] [.int (jI S (jr S this 0) 10), .int 0, .ref (jr S this 0), .ref (jr S this 3)] S rfl rfl rfl ⟨g1, g2, g1, g3, g1, g3, g4⟩ ?_
  obtain ⟨g7, h⟩ := h
  refine jLf.inv hc _ rfl (gs := [jA S (jr S this 3) 1, (([] : List Value).map fun v => v.category).sum ≤ 8, 0 ≤ 0, 0 ≤ 0]) (k := 12) (args := [.ref (jr S this 3), .ref (jr S this 0), .int 0, .int (jI S (jr S this 0) 10)]) (r := []) (a := 0) (b := 0) rfl ⟨g7, Nat.le_of_ble_eq_true rfl, Nat.zero_le _, Nat.zero_le _⟩ (vX1_learnDangers d (by omega) h) ?_
  rintro v S5 ⟨rfl, h⟩
  show jLf (jCall jmt jbud d) jbud (fun j => (jmt j).rk) none mX11_unwarned (jqI Q) (9, [some (.ref this), none, none], [], S5, 0, 0)
  refine jLf.bk hc 4 [] [some (.ref this), some (.int 0), some (.int 0)] [] S5 rfl rfl rfl trivial ?_
  exact tX11_unwarned_13 d hd  h
def wX11_report_6   (l0 : Nat) (S : JS) (Q : Int32 → JS → Prop) : Prop :=
  jA S l0 11 ∧ (wX11_refuse l0 (-1) S (fun r4 S3 => Q r4 S3))
set_option maxRecDepth 20000 in
theorem tX11_report_6 {Q : Int32 → JS → Prop}  (d : Nat) (hd : 2 ≤ d) {l0 : Nat} {S : JS} (h : wX11_report_6 l0 S Q) : jLf (jCall jmt jbud d) jbud (fun j => (jmt j).rk) none mX11_report (jqI Q) (6, [some (.ref l0), none, none, none], [], S, 0, 0) := by
  have hc := jCall_mono jmt jbud d
  unfold wX11_report_6 at h
  refine jLf.bk hc 2 [] [some (.ref l0), none, none, none] [.int (-1), .ref l0] S rfl rfl rfl trivial ?_
  obtain ⟨g5, h⟩ := h
  refine jLf.inv hc _ rfl (gs := [jA S l0 11, (([] : List Value).map fun v => v.category).sum ≤ 8, 0 ≤ 0, 0 ≤ 0]) (k := 137) (args := [.ref l0, .int (-1)]) (r := []) (a := 0) (b := 0) rfl ⟨g5, Nat.le_of_ble_eq_true rfl, Nat.zero_le _, Nat.zero_le _⟩ (vX11_refuse d (by omega) h) ?_
  rintro v S3 ⟨r4, rfl, h⟩
  show jLf (jCall jmt jbud d) jbud (fun j => (jmt j).rk) none mX11_report (jqI Q) (9, [some (.ref l0), none, none, none], [.int r4], S3, 0, 0)
  exact jLf.ret hc _ rfl (gs := [True]) (v := some (.int r4)) rfl trivial ⟨r4, rfl, h⟩
def wX11_report  (this : Nat) (p1 : Int32) (p2 : Int32) (p3 : Int32) (S : JS) (Q : Int32 → JS → Prop) : Prop :=
  wX11_isNight p2 S (fun r2 S1 => (r2 = 0 → wX11_report_6 this S1 Q) ∧ (¬ r2 = 0 → wX11_isBit p3 S1 (fun r7 S6 => (¬ r7 = 0 → jA S6 this 11 ∧ (¬ jR S6 this 0 = none ∧ (jA S6 (jr S6 this 0) 9 ∧ (wX9_hasRock (jr S6 this 0) p1 S6 (fun r11 S10 => (¬ r11 = 0 → jA S10 this 11 ∧ (¬ jR S10 this 0 = none ∧ (jA S10 (jr S10 this 0) 9 ∧ (¬ jR S10 (jr S10 this 0) 5 = none ∧ (jA S10 (jr S10 (jr S10 this 0) 5) 8 ∧ (wX8_isFull (jr S10 (jr S10 this 0) 5) S10 (fun r18 S17 => (r18 = 0 → jA S17 this 11 ∧ (¬ jR S17 this 0 = none ∧ (jA S17 (jr S17 this 0) 9 ∧ (¬ jR S17 (jr S17 this 0) 5 = none ∧ (jA S17 (jr S17 (jr S17 this 0) 5) 8 ∧ (wX8_put (jr S17 (jr S17 this 0) 5) p1 p2 p3 S17 (fun S24 => jA S24 this 11 ∧ (¬ jR S24 this 0 = none ∧ (jA S24 (jr S24 this 0) 9 ∧ (¬ jR S24 (jr S24 this 0) 5 = none ∧ (jA S24 (jr S24 (jr S24 this 0) 5) 8 ∧ (wX11_accept this (jI S24 (jr S24 (jr S24 this 0) 5) 3) S24 (fun r33 S32 => Q r33 S32))))))))))))) ∧ (¬ r18 = 0 → jA S17 this 11 ∧ (wX11_refuse this (-5) S17 (fun r35 S34 => Q r35 S34)))))))))) ∧ (r11 = 0 → jA S10 this 11 ∧ (wX11_refuse this (-2) S10 (fun r38 S37 => Q r38 S37)))))))) ∧ (r7 = 0 → wX11_report_6 this S6 Q))))
set_option maxRecDepth 20000 in
theorem vX11_report {Q : Int32 → JS → Prop} (d : Nat) (hd : 3 ≤ d) {this : Nat} {p1 : Int32} {p2 : Int32} {p3 : Int32} {S : JS} (h : wX11_report this p1 p2 p3 S Q) : jCall jmt jbud d 119 [.ref this, .int p1, .int p2, .int p3] S (jqI Q) := by
  obtain ⟨d, rfl⟩ : ∃ d2, d = d2 + 1 := ⟨d - 1, by omega⟩
  have hd : 2 ≤ d := by omega
  have hc := jCall_mono jmt jbud d
  unfold wX11_report at h
  refine ⟨Nat.le_of_ble_eq_true rfl, ?_⟩
  show jLf (jCall jmt jbud d) jbud (fun j => (jmt j).rk) none mX11_report (jqI Q) (0, [some (.ref this), some (.int p1), some (.int p2), some (.int p3)], [], S, 0, 0)
  refine jLf.bk hc 1 [] [some (.ref this), some (.int p1), some (.int p2), some (.int p3)] [.int p2] S rfl rfl rfl trivial ?_
  refine jLf.inv hc _ rfl (gs := [1 ≤ ([.int p2] : List Value).length, (([] : List Value).map fun v => v.category).sum ≤ 8, 0 ≤ 0, 0 ≤ 0]) (k := 143) (args := [.int p2]) (r := []) (a := 0) (b := 0) rfl ⟨Nat.le_of_ble_eq_true rfl, Nat.le_of_ble_eq_true rfl, Nat.zero_le _, Nat.zero_le _⟩ (vX11_isNight d (by omega) h) ?_
  rintro v S1 ⟨r2, rfl, h⟩
  show jLf (jCall jmt jbud d) jbud (fun j => (jmt j).rk) none mX11_report (jqI Q) (2, [some (.ref this), some (.int p1), some (.int p2), some (.int p3)], [.int r2], S1, 0, 0)
  refine jLf.two hc _ rfl (gs := []) (p1 := r2 = 0) (p2 := ¬ (r2 = 0)) (c1 := (6, [some (.ref this), some (.int p1), some (.int p2), some (.int p3)], [], S1, 0, 0)) (c2 := (3, [some (.ref this), some (.int p1), some (.int p2), some (.int p3)], [], S1, 0, 0)) rfl trivial (fun hz => ?_) (fun hz => ?_)
  · have h := h.1 hz
    refine jLf.sub [some (.ref this), none, none, none] (jle_same (jle_none (jle_none (jle_none (jle_nil _))))) ?_
    exact tX11_report_6 d hd  h
  · have h := h.2 hz
    refine jLf.bk hc 1 [] [some (.ref this), some (.int p1), some (.int p2), some (.int p3)] [.int p3] S1 rfl rfl rfl trivial ?_
    refine jLf.inv hc _ rfl (gs := [1 ≤ ([.int p3] : List Value).length, (([] : List Value).map fun v => v.category).sum ≤ 8, 0 ≤ 0, 0 ≤ 0]) (k := 144) (args := [.int p3]) (r := []) (a := 0) (b := 0) rfl ⟨Nat.le_of_ble_eq_true rfl, Nat.le_of_ble_eq_true rfl, Nat.zero_le _, Nat.zero_le _⟩ (vX11_isBit d (by omega) h) ?_
    rintro v S6 ⟨r7, rfl, h⟩
    show jLf (jCall jmt jbud d) jbud (fun j => (jmt j).rk) none mX11_report (jqI Q) (5, [some (.ref this), some (.int p1), some (.int p2), some (.int p3)], [.int r7], S6, 0, 0)
    refine jLf.two hc _ rfl (gs := []) (p1 := ¬ r7 = 0) (p2 := ¬ (¬ r7 = 0)) (c1 := (10, [some (.ref this), some (.int p1), some (.int p2), some (.int p3)], [], S6, 0, 0)) (c2 := (6, [some (.ref this), some (.int p1), some (.int p2), some (.int p3)], [], S6, 0, 0)) rfl trivial (fun hz => ?_) (fun hz => ?_)
    · have h := h.1 hz
      obtain ⟨g8, g9, h⟩ := h
      refine jLf.bk hc 3 [jA S6 this 11, ¬ jR S6 this 0 = none] [some (.ref this), some (.int p1), some (.int p2), some (.int p3)] [.int p1, .ref (jr S6 this 0)] S6 rfl rfl rfl ⟨g8, g9⟩ ?_
      obtain ⟨g12, h⟩ := h
      refine jLf.inv hc _ rfl (gs := [jA S6 (jr S6 this 0) 9, (([] : List Value).map fun v => v.category).sum ≤ 8, 0 ≤ 0, 0 ≤ 0]) (k := 87) (args := [.ref (jr S6 this 0), .int p1]) (r := []) (a := 0) (b := 0) rfl ⟨g12, Nat.le_of_ble_eq_true rfl, Nat.zero_le _, Nat.zero_le _⟩ (vX9_hasRock d (by omega) h) ?_
      rintro v S10 ⟨r11, rfl, h⟩
      show jLf (jCall jmt jbud d) jbud (fun j => (jmt j).rk) none mX11_report (jqI Q) (14, [some (.ref this), some (.int p1), some (.int p2), some (.int p3)], [.int r11], S10, 0, 0)
      refine jLf.two hc _ rfl (gs := []) (p1 := ¬ r11 = 0) (p2 := ¬ (¬ r11 = 0)) (c1 := (19, [some (.ref this), some (.int p1), some (.int p2), some (.int p3)], [], S10, 0, 0)) (c2 := (15, [some (.ref this), some (.int p1), some (.int p2), some (.int p3)], [], S10, 0, 0)) rfl trivial (fun hz => ?_) (fun hz => ?_)
      · have h := h.1 hz
        obtain ⟨g13, g14, g15, g16, h⟩ := h
        refine jLf.bk hc 3 [jA S10 this 11, ¬ jR S10 this 0 = none, jA S10 (jr S10 this 0) 9, ¬ jR S10 (jr S10 this 0) 5 = none] [some (.ref this), some (.int p1), some (.int p2), some (.int p3)] [.ref (jr S10 (jr S10 this 0) 5)] S10 rfl rfl rfl ⟨g13, g14, g15, g16⟩ ?_
        obtain ⟨g19, h⟩ := h
        refine jLf.inv hc _ rfl (gs := [jA S10 (jr S10 (jr S10 this 0) 5) 8, (([] : List Value).map fun v => v.category).sum ≤ 8, 0 ≤ 0, 0 ≤ 0]) (k := 81) (args := [.ref (jr S10 (jr S10 this 0) 5)]) (r := []) (a := 0) (b := 0) rfl ⟨g19, Nat.le_of_ble_eq_true rfl, Nat.zero_le _, Nat.zero_le _⟩ (vX8_isFull d (by omega) h) ?_
        rintro v S17 ⟨r18, rfl, h⟩
        show jLf (jCall jmt jbud d) jbud (fun j => (jmt j).rk) none mX11_report (jqI Q) (23, [some (.ref this), some (.int p1), some (.int p2), some (.int p3)], [.int r18], S17, 0, 0)
        refine jLf.two hc _ rfl (gs := []) (p1 := r18 = 0) (p2 := ¬ (r18 = 0)) (c1 := (28, [some (.ref this), some (.int p1), some (.int p2), some (.int p3)], [], S17, 0, 0)) (c2 := (24, [some (.ref this), some (.int p1), some (.int p2), some (.int p3)], [], S17, 0, 0)) rfl trivial (fun hz => ?_) (fun hz => ?_)
        · have h := h.1 hz
          obtain ⟨g20, g21, g22, g23, h⟩ := h
          refine jLf.bk hc 6 [jA S17 this 11, ¬ jR S17 this 0 = none, jA S17 (jr S17 this 0) 9, ¬ jR S17 (jr S17 this 0) 5 = none] [some (.ref this), some (.int p1), some (.int p2), some (.int p3)] [.int p3, .int p2, .int p1, .ref (jr S17 (jr S17 this 0) 5)] S17 rfl rfl rfl ⟨g20, g21, g22, g23⟩ ?_
          obtain ⟨g26, h⟩ := h
          refine jLf.inv hc _ rfl (gs := [jA S17 (jr S17 (jr S17 this 0) 5) 8, (([] : List Value).map fun v => v.category).sum ≤ 8, 0 ≤ 0, 0 ≤ 0]) (k := 83) (args := [.ref (jr S17 (jr S17 this 0) 5), .int p1, .int p2, .int p3]) (r := []) (a := 0) (b := 0) rfl ⟨g26, Nat.le_of_ble_eq_true rfl, Nat.zero_le _, Nat.zero_le _⟩ (vX8_put d (by omega) h) ?_
          rintro v S24 ⟨rfl, h⟩
          show jLf (jCall jmt jbud d) jbud (fun j => (jmt j).rk) none mX11_report (jqI Q) (35, [some (.ref this), some (.int p1), some (.int p2), some (.int p3)], [], S24, 0, 0)
          obtain ⟨g27, g28, g29, g30, g31, h⟩ := h
          refine jLf.bk hc 5 [jA S24 this 11, ¬ jR S24 this 0 = none, jA S24 (jr S24 this 0) 9, ¬ jR S24 (jr S24 this 0) 5 = none, jA S24 (jr S24 (jr S24 this 0) 5) 8] [some (.ref this), some (.int p1), some (.int p2), some (.int p3)] [.int (jI S24 (jr S24 (jr S24 this 0) 5) 3), .ref this] S24 rfl rfl rfl ⟨g27, g28, g29, g30, g31⟩ ?_
          refine jLf.inv hc _ rfl (gs := [jA S24 this 11, (([] : List Value).map fun v => v.category).sum ≤ 8, 0 ≤ 0, 0 ≤ 0]) (k := 138) (args := [.ref this, .int (jI S24 (jr S24 (jr S24 this 0) 5) 3)]) (r := []) (a := 0) (b := 0) rfl ⟨g27, Nat.le_of_ble_eq_true rfl, Nat.zero_le _, Nat.zero_le _⟩ (vX11_accept d (by omega) h) ?_
          rintro v S32 ⟨r33, rfl, h⟩
          show jLf (jCall jmt jbud d) jbud (fun j => (jmt j).rk) none mX11_report (jqI Q) (41, [some (.ref this), some (.int p1), some (.int p2), some (.int p3)], [.int r33], S32, 0, 0)
          exact jLf.ret hc _ rfl (gs := [True]) (v := some (.int r33)) rfl trivial ⟨r33, rfl, h⟩
        · have h := h.2 hz
          refine jLf.bk hc 2 [] [some (.ref this), some (.int p1), some (.int p2), some (.int p3)] [.int (-5), .ref this] S17 rfl rfl rfl trivial ?_
          obtain ⟨g36, h⟩ := h
          refine jLf.inv hc _ rfl (gs := [jA S17 this 11, (([] : List Value).map fun v => v.category).sum ≤ 8, 0 ≤ 0, 0 ≤ 0]) (k := 137) (args := [.ref this, .int (-5)]) (r := []) (a := 0) (b := 0) rfl ⟨g36, Nat.le_of_ble_eq_true rfl, Nat.zero_le _, Nat.zero_le _⟩ (vX11_refuse d (by omega) h) ?_
          rintro v S34 ⟨r35, rfl, h⟩
          show jLf (jCall jmt jbud d) jbud (fun j => (jmt j).rk) none mX11_report (jqI Q) (27, [some (.ref this), some (.int p1), some (.int p2), some (.int p3)], [.int r35], S34, 0, 0)
          exact jLf.ret hc _ rfl (gs := [True]) (v := some (.int r35)) rfl trivial ⟨r35, rfl, h⟩
      · have h := h.2 (Classical.not_not.mp hz)
        refine jLf.bk hc 2 [] [some (.ref this), some (.int p1), some (.int p2), some (.int p3)] [.int (-2), .ref this] S10 rfl rfl rfl trivial ?_
        obtain ⟨g39, h⟩ := h
        refine jLf.inv hc _ rfl (gs := [jA S10 this 11, (([] : List Value).map fun v => v.category).sum ≤ 8, 0 ≤ 0, 0 ≤ 0]) (k := 137) (args := [.ref this, .int (-2)]) (r := []) (a := 0) (b := 0) rfl ⟨g39, Nat.le_of_ble_eq_true rfl, Nat.zero_le _, Nat.zero_le _⟩ (vX11_refuse d (by omega) h) ?_
        rintro v S37 ⟨r38, rfl, h⟩
        show jLf (jCall jmt jbud d) jbud (fun j => (jmt j).rk) none mX11_report (jqI Q) (18, [some (.ref this), some (.int p1), some (.int p2), some (.int p3)], [.int r38], S37, 0, 0)
        exact jLf.ret hc _ rfl (gs := [True]) (v := some (.int r38)) rfl trivial ⟨r38, rfl, h⟩
    · have h := h.2 (Classical.not_not.mp hz)
      refine jLf.sub [some (.ref this), none, none, none] (jle_same (jle_none (jle_none (jle_none (jle_nil _))))) ?_
      exact tX11_report_6 d hd  h
def wX11_burn  (this : Nat) (p1 : Int32) (S : JS) (Q : Int32 → JS → Prop) : Prop :=
  jA S this 11 ∧ (¬ jR S this 0 = none ∧ (jA S (jr S this 0) 9 ∧ (¬ jR S (jr S this 0) 5 = none ∧ (jA S (jr S (jr S this 0) 5) 8 ∧ (wX8_has (jr S (jr S this 0) 5) p1 S (fun r6 S5 => (¬ r6 = 0 → jA S5 this 11 ∧ (¬ jR S5 this 0 = none ∧ (jA S5 (jr S5 this 0) 9 ∧ (¬ jR S5 (jr S5 this 0) 5 = none ∧ (jA S5 (jr S5 (jr S5 this 0) 5) 8 ∧ (wX8_drop (jr S5 (jr S5 this 0) 5) p1 S5 (fun S12 => jA S12 this 11 ∧ (¬ jR S12 this 0 = none ∧ (jA S12 (jr S12 this 0) 9 ∧ (¬ jR S12 (jr S12 this 0) 5 = none ∧ (jA S12 (jr S12 (jr S12 this 0) 5) 8 ∧ (wX11_accept this (jI S12 (jr S12 (jr S12 this 0) 5) 3) S12 (fun r21 S20 => Q r21 S20))))))))))))) ∧ (r6 = 0 → jA S5 this 11 ∧ (wX11_refuse this (-2) S5 (fun r23 S22 => Q r23 S22)))))))))
set_option maxRecDepth 20000 in
theorem vX11_burn {Q : Int32 → JS → Prop} (d : Nat) (hd : 3 ≤ d) {this : Nat} {p1 : Int32} {S : JS} (h : wX11_burn this p1 S Q) : jCall jmt jbud d 120 [.ref this, .int p1] S (jqI Q) := by
  obtain ⟨d, rfl⟩ : ∃ d2, d = d2 + 1 := ⟨d - 1, by omega⟩
  have hd : 2 ≤ d := by omega
  have hc := jCall_mono jmt jbud d
  unfold wX11_burn at h
  refine ⟨Nat.le_of_ble_eq_true rfl, ?_⟩
  show jLf (jCall jmt jbud d) jbud (fun j => (jmt j).rk) none mX11_burn (jqI Q) (0, [some (.ref this), some (.int p1)], [], S, 0, 0)
  obtain ⟨g1, g2, g3, g4, h⟩ := h
  refine jLf.bk hc 4 [jA S this 11, ¬ jR S this 0 = none, jA S (jr S this 0) 9, ¬ jR S (jr S this 0) 5 = none] [some (.ref this), some (.int p1)] [.int p1, .ref (jr S (jr S this 0) 5)] S rfl rfl rfl ⟨g1, g2, g3, g4⟩ ?_
  obtain ⟨g7, h⟩ := h
  refine jLf.inv hc _ rfl (gs := [jA S (jr S (jr S this 0) 5) 8, (([] : List Value).map fun v => v.category).sum ≤ 8, 0 ≤ 0, 0 ≤ 0]) (k := 82) (args := [.ref (jr S (jr S this 0) 5), .int p1]) (r := []) (a := 0) (b := 0) rfl ⟨g7, Nat.le_of_ble_eq_true rfl, Nat.zero_le _, Nat.zero_le _⟩ (vX8_has d (by omega) h) ?_
  rintro v S5 ⟨r6, rfl, h⟩
  show jLf (jCall jmt jbud d) jbud (fun j => (jmt j).rk) none mX11_burn (jqI Q) (5, [some (.ref this), some (.int p1)], [.int r6], S5, 0, 0)
  refine jLf.two hc _ rfl (gs := []) (p1 := ¬ r6 = 0) (p2 := ¬ (¬ r6 = 0)) (c1 := (10, [some (.ref this), some (.int p1)], [], S5, 0, 0)) (c2 := (6, [some (.ref this), some (.int p1)], [], S5, 0, 0)) rfl trivial (fun hz => ?_) (fun hz => ?_)
  · have h := h.1 hz
    obtain ⟨g8, g9, g10, g11, h⟩ := h
    refine jLf.bk hc 4 [jA S5 this 11, ¬ jR S5 this 0 = none, jA S5 (jr S5 this 0) 9, ¬ jR S5 (jr S5 this 0) 5 = none] [some (.ref this), some (.int p1)] [.int p1, .ref (jr S5 (jr S5 this 0) 5)] S5 rfl rfl rfl ⟨g8, g9, g10, g11⟩ ?_
    obtain ⟨g14, h⟩ := h
    refine jLf.inv hc _ rfl (gs := [jA S5 (jr S5 (jr S5 this 0) 5) 8, (([] : List Value).map fun v => v.category).sum ≤ 8, 0 ≤ 0, 0 ≤ 0]) (k := 84) (args := [.ref (jr S5 (jr S5 this 0) 5), .int p1]) (r := []) (a := 0) (b := 0) rfl ⟨g14, Nat.le_of_ble_eq_true rfl, Nat.zero_le _, Nat.zero_le _⟩ (vX8_drop d (by omega) h) ?_
    rintro v S12 ⟨rfl, h⟩
    show jLf (jCall jmt jbud d) jbud (fun j => (jmt j).rk) none mX11_burn (jqI Q) (15, [some (.ref this), some (.int p1)], [], S12, 0, 0)
    obtain ⟨g15, g16, g17, g18, g19, h⟩ := h
    refine jLf.bk hc 5 [jA S12 this 11, ¬ jR S12 this 0 = none, jA S12 (jr S12 this 0) 9, ¬ jR S12 (jr S12 this 0) 5 = none, jA S12 (jr S12 (jr S12 this 0) 5) 8] [some (.ref this), some (.int p1)] [.int (jI S12 (jr S12 (jr S12 this 0) 5) 3), .ref this] S12 rfl rfl rfl ⟨g15, g16, g17, g18, g19⟩ ?_
    refine jLf.inv hc _ rfl (gs := [jA S12 this 11, (([] : List Value).map fun v => v.category).sum ≤ 8, 0 ≤ 0, 0 ≤ 0]) (k := 138) (args := [.ref this, .int (jI S12 (jr S12 (jr S12 this 0) 5) 3)]) (r := []) (a := 0) (b := 0) rfl ⟨g15, Nat.le_of_ble_eq_true rfl, Nat.zero_le _, Nat.zero_le _⟩ (vX11_accept d (by omega) h) ?_
    rintro v S20 ⟨r21, rfl, h⟩
    show jLf (jCall jmt jbud d) jbud (fun j => (jmt j).rk) none mX11_burn (jqI Q) (21, [some (.ref this), some (.int p1)], [.int r21], S20, 0, 0)
    exact jLf.ret hc _ rfl (gs := [True]) (v := some (.int r21)) rfl trivial ⟨r21, rfl, h⟩
  · have h := h.2 (Classical.not_not.mp hz)
    refine jLf.bk hc 2 [] [some (.ref this), some (.int p1)] [.int (-2), .ref this] S5 rfl rfl rfl trivial ?_
    obtain ⟨g24, h⟩ := h
    refine jLf.inv hc _ rfl (gs := [jA S5 this 11, (([] : List Value).map fun v => v.category).sum ≤ 8, 0 ≤ 0, 0 ≤ 0]) (k := 137) (args := [.ref this, .int (-2)]) (r := []) (a := 0) (b := 0) rfl ⟨g24, Nat.le_of_ble_eq_true rfl, Nat.zero_le _, Nat.zero_le _⟩ (vX11_refuse d (by omega) h) ?_
    rintro v S22 ⟨r23, rfl, h⟩
    show jLf (jCall jmt jbud d) jbud (fun j => (jmt j).rk) none mX11_burn (jqI Q) (9, [some (.ref this), some (.int p1)], [.int r23], S22, 0, 0)
    exact jLf.ret hc _ rfl (gs := [True]) (v := some (.int r23)) rfl trivial ⟨r23, rfl, h⟩
def wX11_solveSightings  (this : Nat) (S : JS) (Q : JS → Prop) : Prop :=
  jA S this 11 ∧ ((¬ (jI S this 13) = 0 → Q S) ∧ ((jI S this 13) = 0 → ¬ jR S this 3 = none ∧ (¬ jR S this 0 = none ∧ (jA S (jr S this 3) 1 ∧ (wX1_learnAll (jr S this 3) (jr S this 0) 0 59 S (fun S4 => jA S4 this 11 ∧ (¬ jR S4 this 4 = none ∧ (¬ jR S4 this 0 = none ∧ (¬ jR S4 this 3 = none ∧ (jA S4 (jr S4 this 4) 7 ∧ (wX7_solve (jr S4 this 4) (jr S4 this 0) (jr S4 this 3) S4 (fun S11 => jA S11 this 11 ∧ (∀ S15 : JS, S15 = uI S11 this 13 1 → (Q S15))))))))))))))
set_option maxRecDepth 20000 in
theorem vX11_solveSightings {Q : JS → Prop} (d : Nat) (hd : 6 ≤ d) {this : Nat} {S : JS} (h : wX11_solveSightings this S Q) : jCall jmt jbud d 139 [.ref this] S (jqV Q) := by
  obtain ⟨d, rfl⟩ : ∃ d2, d = d2 + 1 := ⟨d - 1, by omega⟩
  have hd : 5 ≤ d := by omega
  have hc := jCall_mono jmt jbud d
  unfold wX11_solveSightings at h
  refine ⟨Nat.le_of_ble_eq_true rfl, ?_⟩
  show jLf (jCall jmt jbud d) jbud (fun j => (jmt j).rk) none mX11_solveSightings (jqV Q) (0, [some (.ref this)], [], S, 0, 0)
  obtain ⟨g1, h⟩ := h
  refine jLf.bk hc 2 [jA S this 11] [some (.ref this)] [.int (jI S this 13)] S rfl rfl rfl g1 ?_
  refine jLf.two hc _ rfl (gs := []) (p1 := ¬ (jI S this 13) = 0) (p2 := ¬ (¬ (jI S this 13) = 0)) (c1 := (20, [some (.ref this)], [], S, 0, 0)) (c2 := (3, [some (.ref this)], [], S, 0, 0)) rfl trivial (fun hz => ?_) (fun hz => ?_)
  · have h := h.1 hz
    exact jLf.ret hc _ rfl (gs := [jrt none none]) (v := none) rfl trivial ⟨rfl, h⟩
  · have h := h.2 (Classical.not_not.mp hz)
    obtain ⟨g2, g3, h⟩ := h
    refine jLf.bk hc 6 [jA S this 11, ¬ jR S this 3 = none, jA S this 11, ¬ jR S this 0 = none] [some (.ref this)] [.int 59, .int 0, .ref (jr S this 0), .ref (jr S this 3)] S rfl rfl rfl ⟨g1, g2, g1, g3⟩ ?_
    obtain ⟨g6, h⟩ := h
    refine jLf.inv hc _ rfl (gs := [jA S (jr S this 3) 1, (([] : List Value).map fun v => v.category).sum ≤ 8, 0 ≤ 0, 0 ≤ 0]) (k := 10) (args := [.ref (jr S this 3), .ref (jr S this 0), .int 0, .int 59]) (r := []) (a := 0) (b := 0) rfl ⟨g6, Nat.le_of_ble_eq_true rfl, Nat.zero_le _, Nat.zero_le _⟩ (vX1_learnAll d (by omega) h) ?_
    rintro v S4 ⟨rfl, h⟩
    show jLf (jCall jmt jbud d) jbud (fun j => (jmt j).rk) none mX11_solveSightings (jqV Q) (10, [some (.ref this)], [], S4, 0, 0)
    obtain ⟨g7, g8, g9, g10, h⟩ := h
    refine jLf.bk hc 6 [jA S4 this 11, ¬ jR S4 this 4 = none, jA S4 this 11, ¬ jR S4 this 0 = none, jA S4 this 11, ¬ jR S4 this 3 = none] [some (.ref this)] [.ref (jr S4 this 3), .ref (jr S4 this 0), .ref (jr S4 this 4)] S4 rfl rfl rfl ⟨g7, g8, g7, g9, g7, g10⟩ ?_
    obtain ⟨g13, h⟩ := h
    refine jLf.inv hc _ rfl (gs := [jA S4 (jr S4 this 4) 7, (([] : List Value).map fun v => v.category).sum ≤ 8, 0 ≤ 0, 0 ≤ 0]) (k := 71) (args := [.ref (jr S4 this 4), .ref (jr S4 this 0), .ref (jr S4 this 3)]) (r := []) (a := 0) (b := 0) rfl ⟨g13, Nat.le_of_ble_eq_true rfl, Nat.zero_le _, Nat.zero_le _⟩ (vX7_solve d (by omega) h) ?_
    rintro v S11 ⟨rfl, h⟩
    show jLf (jCall jmt jbud d) jbud (fun j => (jmt j).rk) none mX11_solveSightings (jqV Q) (17, [some (.ref this)], [], S11, 0, 0)
    obtain ⟨g14, h⟩ := h
    refine jLf.bk hc 3 [jA S11 this 11, jbit 1] [some (.ref this)] [] (uI S11 this 13 1) rfl rfl rfl ⟨g14, (Or.inr rfl)⟩ ?_
    generalize eS15 : uI S11 this 13 1 = S15
    have h := h S15 eS15.symm
    exact jLf.ret hc _ rfl (gs := [jrt none none]) (v := none) rfl trivial ⟨rfl, h⟩
def wX11_could  (this : Nat) (p1 : Int32) (S : JS) (Q : Int32 → JS → Prop) : Prop :=
  wX11_isNight p1 S (fun r2 S1 => (¬ r2 = 0 → jA S1 this 11 ∧ (wX11_solveSightings this S1 (fun S3 => jA S3 this 11 ∧ (¬ jR S3 this 4 = none ∧ (jA S3 (jr S3 this 4) 7 ∧ ((¬ (jI S3 (jr S3 this 4) 5) = 0 → Q 0 S3) ∧ ((jI S3 (jr S3 this 4) 5) = 0 → ¬ jR S3 (jr S3 this 4) 3 = none ∧ (jA S3 (jr S3 (jr S3 this 4) 3) 13 ∧ (vp_in p1 (jZ S3 (jr S3 (jr S3 this 4) 3)) ∧ (Q (jI S3 (jr S3 (jr S3 this 4) 3) p1.toNatClampNeg) S3)))))))))) ∧ (r2 = 0 → Q (-1) S1))
set_option maxRecDepth 20000 in
theorem vX11_could {Q : Int32 → JS → Prop} (d : Nat) (hd : 7 ≤ d) {this : Nat} {p1 : Int32} {S : JS} (h : wX11_could this p1 S Q) : jCall jmt jbud d 121 [.ref this, .int p1] S (jqI Q) := by
  obtain ⟨d, rfl⟩ : ∃ d2, d = d2 + 1 := ⟨d - 1, by omega⟩
  have hd : 6 ≤ d := by omega
  have hc := jCall_mono jmt jbud d
  unfold wX11_could at h
  refine ⟨Nat.le_of_ble_eq_true rfl, ?_⟩
  show jLf (jCall jmt jbud d) jbud (fun j => (jmt j).rk) none mX11_could (jqI Q) (0, [some (.ref this), some (.int p1)], [], S, 0, 0)
  refine jLf.bk hc 1 [] [some (.ref this), some (.int p1)] [.int p1] S rfl rfl rfl trivial ?_
  refine jLf.inv hc _ rfl (gs := [1 ≤ ([.int p1] : List Value).length, (([] : List Value).map fun v => v.category).sum ≤ 8, 0 ≤ 0, 0 ≤ 0]) (k := 143) (args := [.int p1]) (r := []) (a := 0) (b := 0) rfl ⟨Nat.le_of_ble_eq_true rfl, Nat.le_of_ble_eq_true rfl, Nat.zero_le _, Nat.zero_le _⟩ (vX11_isNight d (by omega) h) ?_
  rintro v S1 ⟨r2, rfl, h⟩
  show jLf (jCall jmt jbud d) jbud (fun j => (jmt j).rk) none mX11_could (jqI Q) (2, [some (.ref this), some (.int p1)], [.int r2], S1, 0, 0)
  refine jLf.two hc _ rfl (gs := []) (p1 := ¬ r2 = 0) (p2 := ¬ (¬ r2 = 0)) (c1 := (5, [some (.ref this), some (.int p1)], [], S1, 0, 0)) (c2 := (3, [some (.ref this), some (.int p1)], [], S1, 0, 0)) rfl trivial (fun hz => ?_) (fun hz => ?_)
  · have h := h.1 hz
    refine jLf.bk hc 1 [] [some (.ref this), some (.int p1)] [.ref this] S1 rfl rfl rfl trivial ?_
    obtain ⟨g5, h⟩ := h
    refine jLf.inv hc _ rfl (gs := [jA S1 this 11, (([] : List Value).map fun v => v.category).sum ≤ 8, 0 ≤ 0, 0 ≤ 0]) (k := 139) (args := [.ref this]) (r := []) (a := 0) (b := 0) rfl ⟨g5, Nat.le_of_ble_eq_true rfl, Nat.zero_le _, Nat.zero_le _⟩ (vX11_solveSightings d (by omega) h) ?_
    rintro v S3 ⟨rfl, h⟩
    show jLf (jCall jmt jbud d) jbud (fun j => (jmt j).rk) none mX11_could (jqI Q) (7, [some (.ref this), some (.int p1)], [], S3, 0, 0)
    obtain ⟨g6, g7, g8, h⟩ := h
    refine jLf.bk hc 3 [jA S3 this 11, ¬ jR S3 this 4 = none, jA S3 (jr S3 this 4) 7] [some (.ref this), some (.int p1)] [.int (jI S3 (jr S3 this 4) 5)] S3 rfl rfl rfl ⟨g6, g7, g8⟩ ?_
    refine jLf.two hc _ rfl (gs := []) (p1 := ¬ (jI S3 (jr S3 this 4) 5) = 0) (p2 := ¬ (¬ (jI S3 (jr S3 this 4) 5) = 0)) (c1 := (17, [some (.ref this), some (.int p1)], [], S3, 0, 0)) (c2 := (11, [some (.ref this), some (.int p1)], [], S3, 0, 0)) rfl trivial (fun hz => ?_) (fun hz => ?_)
    · have h := h.1 hz
      refine jLf.bk hc 1 [] [some (.ref this), some (.int p1)] [.int 0] S3 rfl rfl rfl trivial ?_
      exact jLf.ret hc _ rfl (gs := [True]) (v := some (.int 0)) rfl trivial ⟨0, rfl, h⟩
    · have h := h.2 (Classical.not_not.mp hz)
      obtain ⟨g9, g10, g11, h⟩ := h
      refine jLf.bk hc 5 [jA S3 this 11, ¬ jR S3 this 4 = none, jA S3 (jr S3 this 4) 7, ¬ jR S3 (jr S3 this 4) 3 = none, jA S3 (jr S3 (jr S3 this 4) 3) 13, vp_in p1 (jZ S3 (jr S3 (jr S3 this 4) 3))] [some (.ref this), some (.int p1)] [.int (jI S3 (jr S3 (jr S3 this 4) 3) p1.toNatClampNeg)] S3 rfl rfl rfl ⟨g6, g7, g8, g9, g10, g11⟩ ?_
      refine jLf.one hc _ rfl (gs := []) (c := (18, [some (.ref this), some (.int p1)], [.int (jI S3 (jr S3 (jr S3 this 4) 3) p1.toNatClampNeg)], S3, 0, 0)) rfl trivial ?_
      exact jLf.ret hc _ rfl (gs := [True]) (v := some (.int (jI S3 (jr S3 (jr S3 this 4) 3) p1.toNatClampNeg))) rfl trivial ⟨jI S3 (jr S3 (jr S3 this 4) 3) p1.toNatClampNeg, rfl, h⟩
  · have h := h.2 (Classical.not_not.mp hz)
    refine jLf.bk hc 1 [] [some (.ref this), some (.int p1)] [.int (-1)] S1 rfl rfl rfl trivial ?_
    exact jLf.ret hc _ rfl (gs := [True]) (v := some (.int (-1))) rfl trivial ⟨(-1), rfl, h⟩
def wX11_lies  (this : Nat) (S : JS) (Q : Int32 → JS → Prop) : Prop :=
  jA S this 11 ∧ (wX11_solveSightings this S (fun S1 => jA S1 this 11 ∧ (¬ jR S1 this 4 = none ∧ (jA S1 (jr S1 this 4) 7 ∧ (Q (jI S1 (jr S1 this 4) 5) S1)))))
set_option maxRecDepth 20000 in
theorem vX11_lies {Q : Int32 → JS → Prop} (d : Nat) (hd : 7 ≤ d) {this : Nat} {S : JS} (h : wX11_lies this S Q) : jCall jmt jbud d 122 [.ref this] S (jqI Q) := by
  obtain ⟨d, rfl⟩ : ∃ d2, d = d2 + 1 := ⟨d - 1, by omega⟩
  have hd : 6 ≤ d := by omega
  have hc := jCall_mono jmt jbud d
  unfold wX11_lies at h
  refine ⟨Nat.le_of_ble_eq_true rfl, ?_⟩
  show jLf (jCall jmt jbud d) jbud (fun j => (jmt j).rk) none mX11_lies (jqI Q) (0, [some (.ref this)], [], S, 0, 0)
  refine jLf.bk hc 1 [] [some (.ref this)] [.ref this] S rfl rfl rfl trivial ?_
  obtain ⟨g3, h⟩ := h
  refine jLf.inv hc _ rfl (gs := [jA S this 11, (([] : List Value).map fun v => v.category).sum ≤ 8, 0 ≤ 0, 0 ≤ 0]) (k := 139) (args := [.ref this]) (r := []) (a := 0) (b := 0) rfl ⟨g3, Nat.le_of_ble_eq_true rfl, Nat.zero_le _, Nat.zero_le _⟩ (vX11_solveSightings d (by omega) h) ?_
  rintro v S1 ⟨rfl, h⟩
  show jLf (jCall jmt jbud d) jbud (fun j => (jmt j).rk) none mX11_lies (jqI Q) (2, [some (.ref this)], [], S1, 0, 0)
  obtain ⟨g4, g5, g6, h⟩ := h
  refine jLf.bk hc 3 [jA S1 this 11, ¬ jR S1 this 4 = none, jA S1 (jr S1 this 4) 7] [some (.ref this)] [.int (jI S1 (jr S1 this 4) 5)] S1 rfl rfl rfl ⟨g4, g5, g6⟩ ?_
  exact jLf.ret hc _ rfl (gs := [True]) (v := some (.int (jI S1 (jr S1 this 4) 5))) rfl trivial ⟨jI S1 (jr S1 this 4) 5, rfl, h⟩
def wX11_ways  (this : Nat) (S : JS) (Q : Int64 → JS → Prop) : Prop :=
  jA S this 11 ∧ (wX11_solveSightings this S (fun S1 => jA S1 this 11 ∧ (¬ jR S1 this 4 = none ∧ (jA S1 (jr S1 this 4) 7 ∧ (Q (jJ S1 (jr S1 this 4) 6) S1)))))
set_option maxRecDepth 20000 in
theorem vX11_ways {Q : Int64 → JS → Prop} (d : Nat) (hd : 7 ≤ d) {this : Nat} {S : JS} (h : wX11_ways this S Q) : jCall jmt jbud d 123 [.ref this] S (jqL Q) := by
  obtain ⟨d, rfl⟩ : ∃ d2, d = d2 + 1 := ⟨d - 1, by omega⟩
  have hd : 6 ≤ d := by omega
  have hc := jCall_mono jmt jbud d
  unfold wX11_ways at h
  refine ⟨Nat.le_of_ble_eq_true rfl, ?_⟩
  show jLf (jCall jmt jbud d) jbud (fun j => (jmt j).rk) none mX11_ways (jqL Q) (0, [some (.ref this)], [], S, 0, 0)
  refine jLf.bk hc 1 [] [some (.ref this)] [.ref this] S rfl rfl rfl trivial ?_
  obtain ⟨g3, h⟩ := h
  refine jLf.inv hc _ rfl (gs := [jA S this 11, (([] : List Value).map fun v => v.category).sum ≤ 8, 0 ≤ 0, 0 ≤ 0]) (k := 139) (args := [.ref this]) (r := []) (a := 0) (b := 0) rfl ⟨g3, Nat.le_of_ble_eq_true rfl, Nat.zero_le _, Nat.zero_le _⟩ (vX11_solveSightings d (by omega) h) ?_
  rintro v S1 ⟨rfl, h⟩
  show jLf (jCall jmt jbud d) jbud (fun j => (jmt j).rk) none mX11_ways (jqL Q) (2, [some (.ref this)], [], S1, 0, 0)
  obtain ⟨g4, g5, g6, h⟩ := h
  refine jLf.bk hc 3 [jA S1 this 11, ¬ jR S1 this 4 = none, jA S1 (jr S1 this 4) 7] [some (.ref this)] [.long (jJ S1 (jr S1 this 4) 6)] S1 rfl rfl rfl ⟨g4, g5, g6⟩ ?_
  exact jLf.ret hc _ rfl (gs := [True]) (v := some (.long (jJ S1 (jr S1 this 4) 6))) rfl trivial ⟨jJ S1 (jr S1 this 4) 6, rfl, h⟩
def wX11_likely  (this : Nat) (p1 : Int32) (p2 : Int32) (S : JS) (Q : Int32 → JS → Prop) : Prop :=
  wX11_isNight p1 S (fun r2 S1 => (r2 = 0 → Q (-1) S1) ∧ (¬ r2 = 0 → wX11_isBit p2 S1 (fun r4 S3 => (¬ r4 = 0 → jA S3 this 11 ∧ (wX11_solveSightings this S3 (fun S5 => (¬ p2 = 0 → jA S5 this 11 ∧ (¬ jR S5 this 4 = none ∧ (jA S5 (jr S5 this 4) 7 ∧ (¬ jR S5 (jr S5 this 4) 4 = none ∧ (jA S5 (jr S5 (jr S5 this 4) 4) 13 ∧ (vp_in p1 (jZ S5 (jr S5 (jr S5 this 4) 4)) ∧ (Q (jI S5 (jr S5 (jr S5 this 4) 4) p1.toNatClampNeg) S5))))))) ∧ (p2 = 0 → jA S5 this 11 ∧ (¬ jR S5 this 4 = none ∧ (jA S5 (jr S5 this 4) 7 ∧ (¬ jR S5 (jr S5 this 4) 3 = none ∧ (jA S5 (jr S5 (jr S5 this 4) 3) 13 ∧ (vp_in p1 (jZ S5 (jr S5 (jr S5 this 4) 3)) ∧ (Q (jI S5 (jr S5 (jr S5 this 4) 3) p1.toNatClampNeg) S5)))))))))) ∧ (r4 = 0 → Q (-1) S3))))
set_option maxRecDepth 20000 in
theorem vX11_likely {Q : Int32 → JS → Prop} (d : Nat) (hd : 7 ≤ d) {this : Nat} {p1 : Int32} {p2 : Int32} {S : JS} (h : wX11_likely this p1 p2 S Q) : jCall jmt jbud d 124 [.ref this, .int p1, .int p2] S (jqI Q) := by
  obtain ⟨d, rfl⟩ : ∃ d2, d = d2 + 1 := ⟨d - 1, by omega⟩
  have hd : 6 ≤ d := by omega
  have hc := jCall_mono jmt jbud d
  unfold wX11_likely at h
  refine ⟨Nat.le_of_ble_eq_true rfl, ?_⟩
  show jLf (jCall jmt jbud d) jbud (fun j => (jmt j).rk) none mX11_likely (jqI Q) (0, [some (.ref this), some (.int p1), some (.int p2)], [], S, 0, 0)
  refine jLf.bk hc 1 [] [some (.ref this), some (.int p1), some (.int p2)] [.int p1] S rfl rfl rfl trivial ?_
  refine jLf.inv hc _ rfl (gs := [1 ≤ ([.int p1] : List Value).length, (([] : List Value).map fun v => v.category).sum ≤ 8, 0 ≤ 0, 0 ≤ 0]) (k := 143) (args := [.int p1]) (r := []) (a := 0) (b := 0) rfl ⟨Nat.le_of_ble_eq_true rfl, Nat.le_of_ble_eq_true rfl, Nat.zero_le _, Nat.zero_le _⟩ (vX11_isNight d (by omega) h) ?_
  rintro v S1 ⟨r2, rfl, h⟩
  show jLf (jCall jmt jbud d) jbud (fun j => (jmt j).rk) none mX11_likely (jqI Q) (2, [some (.ref this), some (.int p1), some (.int p2)], [.int r2], S1, 0, 0)
  refine jLf.two hc _ rfl (gs := []) (p1 := r2 = 0) (p2 := ¬ (r2 = 0)) (c1 := (6, [some (.ref this), some (.int p1), some (.int p2)], [], S1, 0, 0)) (c2 := (3, [some (.ref this), some (.int p1), some (.int p2)], [], S1, 0, 0)) rfl trivial (fun hz => ?_) (fun hz => ?_)
  · have h := h.1 hz
    refine jLf.bk hc 1 [] [some (.ref this), some (.int p1), some (.int p2)] [.int (-1)] S1 rfl rfl rfl trivial ?_
    exact jLf.ret hc _ rfl (gs := [True]) (v := some (.int (-1))) rfl trivial ⟨(-1), rfl, h⟩
  · have h := h.2 hz
    refine jLf.bk hc 1 [] [some (.ref this), some (.int p1), some (.int p2)] [.int p2] S1 rfl rfl rfl trivial ?_
    refine jLf.inv hc _ rfl (gs := [1 ≤ ([.int p2] : List Value).length, (([] : List Value).map fun v => v.category).sum ≤ 8, 0 ≤ 0, 0 ≤ 0]) (k := 144) (args := [.int p2]) (r := []) (a := 0) (b := 0) rfl ⟨Nat.le_of_ble_eq_true rfl, Nat.le_of_ble_eq_true rfl, Nat.zero_le _, Nat.zero_le _⟩ (vX11_isBit d (by omega) h) ?_
    rintro v S3 ⟨r4, rfl, h⟩
    show jLf (jCall jmt jbud d) jbud (fun j => (jmt j).rk) none mX11_likely (jqI Q) (5, [some (.ref this), some (.int p1), some (.int p2)], [.int r4], S3, 0, 0)
    refine jLf.two hc _ rfl (gs := []) (p1 := ¬ r4 = 0) (p2 := ¬ (¬ r4 = 0)) (c1 := (8, [some (.ref this), some (.int p1), some (.int p2)], [], S3, 0, 0)) (c2 := (6, [some (.ref this), some (.int p1), some (.int p2)], [], S3, 0, 0)) rfl trivial (fun hz => ?_) (fun hz => ?_)
    · have h := h.1 hz
      refine jLf.bk hc 1 [] [some (.ref this), some (.int p1), some (.int p2)] [.ref this] S3 rfl rfl rfl trivial ?_
      obtain ⟨g7, h⟩ := h
      refine jLf.inv hc _ rfl (gs := [jA S3 this 11, (([] : List Value).map fun v => v.category).sum ≤ 8, 0 ≤ 0, 0 ≤ 0]) (k := 139) (args := [.ref this]) (r := []) (a := 0) (b := 0) rfl ⟨g7, Nat.le_of_ble_eq_true rfl, Nat.zero_le _, Nat.zero_le _⟩ (vX11_solveSightings d (by omega) h) ?_
      rintro v S5 ⟨rfl, h⟩
      show jLf (jCall jmt jbud d) jbud (fun j => (jmt j).rk) none mX11_likely (jqI Q) (10, [some (.ref this), some (.int p1), some (.int p2)], [], S5, 0, 0)
      refine jLf.bk hc 1 [] [some (.ref this), some (.int p1), some (.int p2)] [.int p2] S5 rfl rfl rfl trivial ?_
      refine jLf.two hc _ rfl (gs := []) (p1 := ¬ p2 = 0) (p2 := ¬ (¬ p2 = 0)) (c1 := (18, [some (.ref this), some (.int p1), some (.int p2)], [], S5, 0, 0)) (c2 := (12, [some (.ref this), some (.int p1), some (.int p2)], [], S5, 0, 0)) rfl trivial (fun hz => ?_) (fun hz => ?_)
      · have h := h.1 hz
        obtain ⟨g8, g9, g10, g11, g12, g13, h⟩ := h
        refine jLf.bk hc 5 [jA S5 this 11, ¬ jR S5 this 4 = none, jA S5 (jr S5 this 4) 7, ¬ jR S5 (jr S5 this 4) 4 = none, jA S5 (jr S5 (jr S5 this 4) 4) 13, vp_in p1 (jZ S5 (jr S5 (jr S5 this 4) 4))] [some (.ref this), some (.int p1), some (.int p2)] [.int (jI S5 (jr S5 (jr S5 this 4) 4) p1.toNatClampNeg)] S5 rfl rfl rfl ⟨g8, g9, g10, g11, g12, g13⟩ ?_
        exact jLf.ret hc _ rfl (gs := [True]) (v := some (.int (jI S5 (jr S5 (jr S5 this 4) 4) p1.toNatClampNeg))) rfl trivial ⟨jI S5 (jr S5 (jr S5 this 4) 4) p1.toNatClampNeg, rfl, h⟩
      · have h := h.2 (Classical.not_not.mp hz)
        obtain ⟨g14, g15, g16, g17, g18, g19, h⟩ := h
        refine jLf.bk hc 5 [jA S5 this 11, ¬ jR S5 this 4 = none, jA S5 (jr S5 this 4) 7, ¬ jR S5 (jr S5 this 4) 3 = none, jA S5 (jr S5 (jr S5 this 4) 3) 13, vp_in p1 (jZ S5 (jr S5 (jr S5 this 4) 3))] [some (.ref this), some (.int p1), some (.int p2)] [.int (jI S5 (jr S5 (jr S5 this 4) 3) p1.toNatClampNeg)] S5 rfl rfl rfl ⟨g14, g15, g16, g17, g18, g19⟩ ?_
        refine jLf.one hc _ rfl (gs := []) (c := (23, [some (.ref this), some (.int p1), some (.int p2)], [.int (jI S5 (jr S5 (jr S5 this 4) 3) p1.toNatClampNeg)], S5, 0, 0)) rfl trivial ?_
        exact jLf.ret hc _ rfl (gs := [True]) (v := some (.int (jI S5 (jr S5 (jr S5 this 4) 3) p1.toNatClampNeg))) rfl trivial ⟨jI S5 (jr S5 (jr S5 this 4) 3) p1.toNatClampNeg, rfl, h⟩
    · have h := h.2 (Classical.not_not.mp hz)
      refine jLf.bk hc 1 [] [some (.ref this), some (.int p1), some (.int p2)] [.int (-1)] S3 rfl rfl rfl trivial ?_
      exact jLf.ret hc _ rfl (gs := [True]) (v := some (.int (-1))) rfl trivial ⟨(-1), rfl, h⟩
def wX11_liars_16   (s0 : Int32) (s1 : Nat) (s2 : Nat) (S : JS) (Q : Int32 → JS → Prop) : Prop :=
  jA S s2 7 ∧ (wX7_lyingReports s2 s1 s0 S (fun r10 S9 => Q r10 S9))
set_option maxRecDepth 20000 in
theorem tX11_liars_16 {Q : Int32 → JS → Prop}  (d : Nat) (hd : 6 ≤ d) {s0 : Int32} {s1 : Nat} {s2 : Nat} {S : JS} (h : wX11_liars_16 s0 s1 s2 S Q) : jLf (jCall jmt jbud d) jbud (fun j => (jmt j).rk) none mX11_liars (jqI Q) (16, [none, none], [.int s0, .ref s1, .ref s2], S, 0, 0) := by
  have hc := jCall_mono jmt jbud d
  unfold wX11_liars_16 at h
  obtain ⟨g11, h⟩ := h
  refine jLf.inv hc _ rfl (gs := [jA S s2 7, (([] : List Value).map fun v => v.category).sum ≤ 8, 0 ≤ 0, 0 ≤ 0]) (k := 79) (args := [.ref s2, .ref s1, .int s0]) (r := []) (a := 0) (b := 0) rfl ⟨g11, Nat.le_of_ble_eq_true rfl, Nat.zero_le _, Nat.zero_le _⟩ (vX7_lyingReports d (by omega) h) ?_
  rintro v S9 ⟨r10, rfl, h⟩
  show jLf (jCall jmt jbud d) jbud (fun j => (jmt j).rk) none mX11_liars (jqI Q) (17, [none, none], [.int r10], S9, 0, 0)
  exact jLf.ret hc _ rfl (gs := [True]) (v := some (.int r10)) rfl trivial ⟨r10, rfl, h⟩
def wX11_liars  (this : Nat) (p1 : Int32) (S : JS) (Q : Int32 → JS → Prop) : Prop :=
  wX11_isBit p1 S (fun r2 S1 => (¬ r2 = 0 → jA S1 this 11 ∧ (wX11_solveSightings this S1 (fun S3 => jA S3 this 11 ∧ (¬ jR S3 this 4 = none ∧ (¬ jR S3 this 0 = none ∧ ((¬ p1 = 0 → wX11_liars_16 0 (jr S3 this 0) (jr S3 this 4) S3 Q) ∧ (p1 = 0 → wX11_liars_16 1 (jr S3 this 0) (jr S3 this 4) S3 Q))))))) ∧ (r2 = 0 → Q (-1) S1))
set_option maxRecDepth 20000 in
theorem vX11_liars {Q : Int32 → JS → Prop} (d : Nat) (hd : 7 ≤ d) {this : Nat} {p1 : Int32} {S : JS} (h : wX11_liars this p1 S Q) : jCall jmt jbud d 125 [.ref this, .int p1] S (jqI Q) := by
  obtain ⟨d, rfl⟩ : ∃ d2, d = d2 + 1 := ⟨d - 1, by omega⟩
  have hd : 6 ≤ d := by omega
  have hc := jCall_mono jmt jbud d
  unfold wX11_liars at h
  refine ⟨Nat.le_of_ble_eq_true rfl, ?_⟩
  show jLf (jCall jmt jbud d) jbud (fun j => (jmt j).rk) none mX11_liars (jqI Q) (0, [some (.ref this), some (.int p1)], [], S, 0, 0)
  refine jLf.bk hc 1 [] [some (.ref this), some (.int p1)] [.int p1] S rfl rfl rfl trivial ?_
  refine jLf.inv hc _ rfl (gs := [1 ≤ ([.int p1] : List Value).length, (([] : List Value).map fun v => v.category).sum ≤ 8, 0 ≤ 0, 0 ≤ 0]) (k := 144) (args := [.int p1]) (r := []) (a := 0) (b := 0) rfl ⟨Nat.le_of_ble_eq_true rfl, Nat.le_of_ble_eq_true rfl, Nat.zero_le _, Nat.zero_le _⟩ (vX11_isBit d (by omega) h) ?_
  rintro v S1 ⟨r2, rfl, h⟩
  show jLf (jCall jmt jbud d) jbud (fun j => (jmt j).rk) none mX11_liars (jqI Q) (2, [some (.ref this), some (.int p1)], [.int r2], S1, 0, 0)
  refine jLf.two hc _ rfl (gs := []) (p1 := ¬ r2 = 0) (p2 := ¬ (¬ r2 = 0)) (c1 := (5, [some (.ref this), some (.int p1)], [], S1, 0, 0)) (c2 := (3, [some (.ref this), some (.int p1)], [], S1, 0, 0)) rfl trivial (fun hz => ?_) (fun hz => ?_)
  · have h := h.1 hz
    refine jLf.bk hc 1 [] [some (.ref this), some (.int p1)] [.ref this] S1 rfl rfl rfl trivial ?_
    obtain ⟨g5, h⟩ := h
    refine jLf.inv hc _ rfl (gs := [jA S1 this 11, (([] : List Value).map fun v => v.category).sum ≤ 8, 0 ≤ 0, 0 ≤ 0]) (k := 139) (args := [.ref this]) (r := []) (a := 0) (b := 0) rfl ⟨g5, Nat.le_of_ble_eq_true rfl, Nat.zero_le _, Nat.zero_le _⟩ (vX11_solveSightings d (by omega) h) ?_
    rintro v S3 ⟨rfl, h⟩
    show jLf (jCall jmt jbud d) jbud (fun j => (jmt j).rk) none mX11_liars (jqI Q) (7, [some (.ref this), some (.int p1)], [], S3, 0, 0)
    obtain ⟨g6, g7, g8, h⟩ := h
    refine jLf.bk hc 5 [jA S3 this 11, ¬ jR S3 this 4 = none, jA S3 this 11, ¬ jR S3 this 0 = none] [some (.ref this), some (.int p1)] [.int p1, .ref (jr S3 this 0), .ref (jr S3 this 4)] S3 rfl rfl rfl ⟨g6, g7, g6, g8⟩ ?_
    refine jLf.two hc _ rfl (gs := []) (p1 := ¬ p1 = 0) (p2 := ¬ (¬ p1 = 0)) (c1 := (15, [some (.ref this), some (.int p1)], [.ref (jr S3 this 0), .ref (jr S3 this 4)], S3, 0, 0)) (c2 := (13, [some (.ref this), some (.int p1)], [.ref (jr S3 this 0), .ref (jr S3 this 4)], S3, 0, 0)) rfl trivial (fun hz => ?_) (fun hz => ?_)
    · have h := h.1 hz
      refine jLf.bk hc 1 [] [some (.ref this), some (.int p1)] [.int 0, .ref (jr S3 this 0), .ref (jr S3 this 4)] S3 rfl rfl rfl trivial ?_
      refine jLf.sub [none, none] (jle_none (jle_none (jle_nil _))) ?_
      exact tX11_liars_16 d hd  h
    · have h := h.2 (Classical.not_not.mp hz)
      refine jLf.bk hc 1 [] [some (.ref this), some (.int p1)] [.int 1, .ref (jr S3 this 0), .ref (jr S3 this 4)] S3 rfl rfl rfl trivial ?_
      refine jLf.one hc _ rfl (gs := []) (c := (16, [some (.ref this), some (.int p1)], [.int 1, .ref (jr S3 this 0), .ref (jr S3 this 4)], S3, 0, 0)) rfl trivial ?_
      refine jLf.sub [none, none] (jle_none (jle_none (jle_nil _))) ?_
      exact tX11_liars_16 d hd  h
  · have h := h.2 (Classical.not_not.mp hz)
    refine jLf.bk hc 1 [] [some (.ref this), some (.int p1)] [.int (-1)] S1 rfl rfl rfl trivial ?_
    exact jLf.ret hc _ rfl (gs := [True]) (v := some (.int (-1))) rfl trivial ⟨(-1), rfl, h⟩
def wX11_round  (this : Nat) (p1 : Int32) (p2 : Int32) (p3 : Int32) (p4 : Int32) (S : JS) (Q : Int32 → JS → Prop) : Prop :=
  jA S this 11 ∧ (¬ jR S this 0 = none ∧ (jA S (jr S this 0) 9 ∧ (wX9_hasRock (jr S this 0) p1 S (fun r4 S3 => (r4 = 0 → Q (-1) S3) ∧ (¬ r4 = 0 → wX11_isNight p2 S3 (fun r7 S6 => (r7 = 0 → Q (-1) S6) ∧ (¬ r7 = 0 → ((-1) ≤ p4 → (p3 < 0 → Q (-1) S6) ∧ (¬ (p3 < 0) → jA S6 this 11 ∧ (¬ jR S6 this 0 = none ∧ (jA S6 (jr S6 this 0) 9 ∧ ((p3 < ((1 : Int32) <<< ((jI S6 (jr S6 this 0) 0) &&& 31)) → ¬ jR S6 this 3 = none ∧ (jA S6 (jr S6 this 3) 1 ∧ (wX1_learnAll (jr S6 this 3) (jr S6 this 0) p2 59 S6 (fun S12 => jA S12 this 11 ∧ (¬ jR S12 this 5 = none ∧ (¬ jR S12 this 3 = none ∧ (jA S12 (jr S12 this 5) 6 ∧ (wX6_earliest (jr S12 this 5) (jr S12 this 3) p1 p2 p3 S12 (fun r19 S18 => (r19 = (-1) → Q r19 S18) ∧ (¬ r19 = (-1) → (¬ p4 = (-1) → (p4 ≤ (r19 - p2) → jA S18 this 11 ∧ (¬ jR S18 this 5 = none ∧ (¬ jR S18 this 3 = none ∧ (jA S18 (jr S18 this 5) 6 ∧ (wX6_rockOfWay (jr S18 this 5) (jr S18 this 3) p1 p2 r19 p3 p4 S18 (fun r25 S24 => Q r25 S24)))))) ∧ (¬ (p4 ≤ (r19 - p2)) → Q (-1) S18)) ∧ (p4 = (-1) → Q r19 S18))))))))))) ∧ (¬ (p3 < ((1 : Int32) <<< ((jI S6 (jr S6 this 0) 0) &&& 31))) → Q (-1) S6)))))) ∧ (¬ ((-1) ≤ p4) → Q (-1) S6))))))))
set_option maxRecDepth 20000 in
theorem vX11_round {Q : Int32 → JS → Prop} (d : Nat) (hd : 6 ≤ d) {this : Nat} {p1 : Int32} {p2 : Int32} {p3 : Int32} {p4 : Int32} {S : JS} (h : wX11_round this p1 p2 p3 p4 S Q) : jCall jmt jbud d 126 [.ref this, .int p1, .int p2, .int p3, .int p4] S (jqI Q) := by
  obtain ⟨d, rfl⟩ : ∃ d2, d = d2 + 1 := ⟨d - 1, by omega⟩
  have hd : 5 ≤ d := by omega
  have hc := jCall_mono jmt jbud d
  unfold wX11_round at h
  refine ⟨Nat.le_of_ble_eq_true rfl, ?_⟩
  show jLf (jCall jmt jbud d) jbud (fun j => (jmt j).rk) none mX11_round (jqI Q) (0, [some (.ref this), some (.int p1), some (.int p2), some (.int p3), some (.int p4), none], [], S, 0, 0)
  obtain ⟨g1, g2, h⟩ := h
  refine jLf.bk hc 3 [jA S this 11, ¬ jR S this 0 = none] [some (.ref this), some (.int p1), some (.int p2), some (.int p3), some (.int p4), none] [.int p1, .ref (jr S this 0)] S rfl rfl rfl ⟨g1, g2⟩ ?_
  obtain ⟨g5, h⟩ := h
  refine jLf.inv hc _ rfl (gs := [jA S (jr S this 0) 9, (([] : List Value).map fun v => v.category).sum ≤ 8, 0 ≤ 0, 0 ≤ 0]) (k := 87) (args := [.ref (jr S this 0), .int p1]) (r := []) (a := 0) (b := 0) rfl ⟨g5, Nat.le_of_ble_eq_true rfl, Nat.zero_le _, Nat.zero_le _⟩ (vX9_hasRock d (by omega) h) ?_
  rintro v S3 ⟨r4, rfl, h⟩
  show jLf (jCall jmt jbud d) jbud (fun j => (jmt j).rk) none mX11_round (jqI Q) (4, [some (.ref this), some (.int p1), some (.int p2), some (.int p3), some (.int p4), none], [.int r4], S3, 0, 0)
  refine jLf.two hc _ rfl (gs := []) (p1 := r4 = 0) (p2 := ¬ (r4 = 0)) (c1 := (11, [some (.ref this), some (.int p1), some (.int p2), some (.int p3), some (.int p4), none], [], S3, 0, 0)) (c2 := (5, [some (.ref this), some (.int p1), some (.int p2), some (.int p3), some (.int p4), none], [], S3, 0, 0)) rfl trivial (fun hz => ?_) (fun hz => ?_)
  · have h := h.1 hz
    refine jLf.bk hc 1 [] [some (.ref this), some (.int p1), some (.int p2), some (.int p3), some (.int p4), none] [.int (-1)] S3 rfl rfl rfl trivial ?_
    exact jLf.ret hc _ rfl (gs := [True]) (v := some (.int (-1))) rfl trivial ⟨(-1), rfl, h⟩
  · have h := h.2 hz
    refine jLf.bk hc 1 [] [some (.ref this), some (.int p1), some (.int p2), some (.int p3), some (.int p4), none] [.int p2] S3 rfl rfl rfl trivial ?_
    refine jLf.inv hc _ rfl (gs := [1 ≤ ([.int p2] : List Value).length, (([] : List Value).map fun v => v.category).sum ≤ 8, 0 ≤ 0, 0 ≤ 0]) (k := 143) (args := [.int p2]) (r := []) (a := 0) (b := 0) rfl ⟨Nat.le_of_ble_eq_true rfl, Nat.le_of_ble_eq_true rfl, Nat.zero_le _, Nat.zero_le _⟩ (vX11_isNight d (by omega) h) ?_
    rintro v S6 ⟨r7, rfl, h⟩
    show jLf (jCall jmt jbud d) jbud (fun j => (jmt j).rk) none mX11_round (jqI Q) (7, [some (.ref this), some (.int p1), some (.int p2), some (.int p3), some (.int p4), none], [.int r7], S6, 0, 0)
    refine jLf.two hc _ rfl (gs := []) (p1 := r7 = 0) (p2 := ¬ (r7 = 0)) (c1 := (11, [some (.ref this), some (.int p1), some (.int p2), some (.int p3), some (.int p4), none], [], S6, 0, 0)) (c2 := (8, [some (.ref this), some (.int p1), some (.int p2), some (.int p3), some (.int p4), none], [], S6, 0, 0)) rfl trivial (fun hz => ?_) (fun hz => ?_)
    · have h := h.1 hz
      refine jLf.bk hc 1 [] [some (.ref this), some (.int p1), some (.int p2), some (.int p3), some (.int p4), none] [.int (-1)] S6 rfl rfl rfl trivial ?_
      exact jLf.ret hc _ rfl (gs := [True]) (v := some (.int (-1))) rfl trivial ⟨(-1), rfl, h⟩
    · have h := h.2 hz
      refine jLf.bk hc 2 [] [some (.ref this), some (.int p1), some (.int p2), some (.int p3), some (.int p4), none] [.int (-1), .int p4] S6 rfl rfl rfl trivial ?_
      refine jLf.two hc _ rfl (gs := []) (p1 := (-1) ≤ p4) (p2 := ¬ ((-1) ≤ p4)) (c1 := (13, [some (.ref this), some (.int p1), some (.int p2), some (.int p3), some (.int p4), none], [], S6, 0, 0)) (c2 := (11, [some (.ref this), some (.int p1), some (.int p2), some (.int p3), some (.int p4), none], [], S6, 0, 0)) rfl trivial (fun hz => ?_) (fun hz => ?_)
      · have h := h.1 hz
        refine jLf.bk hc 1 [] [some (.ref this), some (.int p1), some (.int p2), some (.int p3), some (.int p4), none] [.int p3] S6 rfl rfl rfl trivial ?_
        refine jLf.two hc _ rfl (gs := []) (p1 := p3 < 0) (p2 := ¬ (p3 < 0)) (c1 := (22, [some (.ref this), some (.int p1), some (.int p2), some (.int p3), some (.int p4), none], [], S6, 0, 0)) (c2 := (15, [some (.ref this), some (.int p1), some (.int p2), some (.int p3), some (.int p4), none], [], S6, 0, 0)) rfl trivial (fun hz => ?_) (fun hz => ?_)
        · have h := h.1 hz
          refine jLf.bk hc 1 [] [some (.ref this), some (.int p1), some (.int p2), some (.int p3), some (.int p4), none] [.int (-1)] S6 rfl rfl rfl trivial ?_
          exact jLf.ret hc _ rfl (gs := [True]) (v := some (.int (-1))) rfl trivial ⟨(-1), rfl, h⟩
        · have h := h.2 hz
          obtain ⟨g8, g9, g10, h⟩ := h
          refine jLf.bk hc 6 [jA S6 this 11, ¬ jR S6 this 0 = none, jA S6 (jr S6 this 0) 9] [some (.ref this), some (.int p1), some (.int p2), some (.int p3), some (.int p4), none] [.int ((1 : Int32) <<< ((jI S6 (jr S6 this 0) 0) &&& 31)), .int p3] S6 rfl rfl rfl ⟨g8, g9, g10⟩ ?_
          refine jLf.two hc _ rfl (gs := []) (p1 := p3 < ((1 : Int32) <<< ((jI S6 (jr S6 this 0) 0) &&& 31))) (p2 := ¬ (p3 < ((1 : Int32) <<< ((jI S6 (jr S6 this 0) 0) &&& 31)))) (c1 := (24, [some (.ref this), some (.int p1), some (.int p2), some (.int p3), some (.int p4), none], [], S6, 0, 0)) (c2 := (22, [some (.ref this), some (.int p1), some (.int p2), some (.int p3), some (.int p4), none], [], S6, 0, 0)) rfl trivial (fun hz => ?_) (fun hz => ?_)
          · have h := h.1 hz
            obtain ⟨g11, h⟩ := h
            refine jLf.bk hc 6 [jA S6 this 11, ¬ jR S6 this 3 = none, jA S6 this 11, ¬ jR S6 this 0 = none] [some (.ref this), some (.int p1), some (.int p2), some (.int p3), some (.int p4), none] [.int 59, .int p2, .ref (jr S6 this 0), .ref (jr S6 this 3)] S6 rfl rfl rfl ⟨g8, g11, g8, g9⟩ ?_
            obtain ⟨g14, h⟩ := h
            refine jLf.inv hc _ rfl (gs := [jA S6 (jr S6 this 3) 1, (([] : List Value).map fun v => v.category).sum ≤ 8, 0 ≤ 0, 0 ≤ 0]) (k := 10) (args := [.ref (jr S6 this 3), .ref (jr S6 this 0), .int p2, .int 59]) (r := []) (a := 0) (b := 0) rfl ⟨g14, Nat.le_of_ble_eq_true rfl, Nat.zero_le _, Nat.zero_le _⟩ (vX1_learnAll d (by omega) h) ?_
            rintro v S12 ⟨rfl, h⟩
            show jLf (jCall jmt jbud d) jbud (fun j => (jmt j).rk) none mX11_round (jqI Q) (31, [some (.ref this), some (.int p1), some (.int p2), some (.int p3), some (.int p4), none], [], S12, 0, 0)
            obtain ⟨g15, g16, g17, h⟩ := h
            refine jLf.bk hc 7 [jA S12 this 11, ¬ jR S12 this 5 = none, jA S12 this 11, ¬ jR S12 this 3 = none] [some (.ref this), some (.int p1), some (.int p2), some (.int p3), some (.int p4), none] [.int p3, .int p2, .int p1, .ref (jr S12 this 3), .ref (jr S12 this 5)] S12 rfl rfl rfl ⟨g15, g16, g15, g17⟩ ?_
            obtain ⟨g20, h⟩ := h
            refine jLf.inv hc _ rfl (gs := [jA S12 (jr S12 this 5) 6, (([] : List Value).map fun v => v.category).sum ≤ 8, 0 ≤ 0, 0 ≤ 0]) (k := 59) (args := [.ref (jr S12 this 5), .ref (jr S12 this 3), .int p1, .int p2, .int p3]) (r := []) (a := 0) (b := 0) rfl ⟨g20, Nat.le_of_ble_eq_true rfl, Nat.zero_le _, Nat.zero_le _⟩ (vX6_earliest d (by omega) h) ?_
            rintro v S18 ⟨r19, rfl, h⟩
            show jLf (jCall jmt jbud d) jbud (fun j => (jmt j).rk) none mX11_round (jqI Q) (39, [some (.ref this), some (.int p1), some (.int p2), some (.int p3), some (.int p4), none], [.int r19], S18, 0, 0)
            refine jLf.bk hc 3 [] [some (.ref this), some (.int p1), some (.int p2), some (.int p3), some (.int p4), some (.int r19)] [.int (-1), .int r19] S18 rfl rfl rfl trivial ?_
            refine jLf.two hc _ rfl (gs := []) (p1 := r19 = (-1)) (p2 := ¬ (r19 = (-1))) (c1 := (46, [some (.ref this), some (.int p1), some (.int p2), some (.int p3), some (.int p4), some (.int r19)], [], S18, 0, 0)) (c2 := (43, [some (.ref this), some (.int p1), some (.int p2), some (.int p3), some (.int p4), some (.int r19)], [], S18, 0, 0)) rfl trivial (fun hz => ?_) (fun hz => ?_)
            · have h := h.1 hz
              refine jLf.bk hc 1 [] [some (.ref this), some (.int p1), some (.int p2), some (.int p3), some (.int p4), some (.int r19)] [.int r19] S18 rfl rfl rfl trivial ?_
              exact jLf.ret hc _ rfl (gs := [True]) (v := some (.int r19)) rfl trivial ⟨r19, rfl, h⟩
            · have h := h.2 hz
              refine jLf.bk hc 2 [] [some (.ref this), some (.int p1), some (.int p2), some (.int p3), some (.int p4), some (.int r19)] [.int (-1), .int p4] S18 rfl rfl rfl trivial ?_
              refine jLf.two hc _ rfl (gs := []) (p1 := ¬ p4 = (-1)) (p2 := ¬ (¬ p4 = (-1))) (c1 := (48, [some (.ref this), some (.int p1), some (.int p2), some (.int p3), some (.int p4), some (.int r19)], [], S18, 0, 0)) (c2 := (46, [some (.ref this), some (.int p1), some (.int p2), some (.int p3), some (.int p4), some (.int r19)], [], S18, 0, 0)) rfl trivial (fun hz => ?_) (fun hz => ?_)
              · have h := h.1 hz
                refine jLf.bk hc 4 [] [some (.ref this), some (.int p1), some (.int p2), some (.int p3), some (.int p4), some (.int r19)] [.int (r19 - p2), .int p4] S18 rfl rfl rfl trivial ?_
                refine jLf.two hc _ rfl (gs := []) (p1 := p4 ≤ (r19 - p2)) (p2 := ¬ (p4 ≤ (r19 - p2))) (c1 := (55, [some (.ref this), some (.int p1), some (.int p2), some (.int p3), some (.int p4), some (.int r19)], [], S18, 0, 0)) (c2 := (53, [some (.ref this), some (.int p1), some (.int p2), some (.int p3), some (.int p4), some (.int r19)], [], S18, 0, 0)) rfl trivial (fun hz => ?_) (fun hz => ?_)
                · have h := h.1 hz
                  obtain ⟨g21, g22, g23, h⟩ := h
                  refine jLf.bk hc 9 [jA S18 this 11, ¬ jR S18 this 5 = none, jA S18 this 11, ¬ jR S18 this 3 = none] [some (.ref this), some (.int p1), some (.int p2), some (.int p3), some (.int p4), some (.int r19)] [.int p4, .int p3, .int r19, .int p2, .int p1, .ref (jr S18 this 3), .ref (jr S18 this 5)] S18 rfl rfl rfl ⟨g21, g22, g21, g23⟩ ?_
                  obtain ⟨g26, h⟩ := h
                  refine jLf.inv hc _ rfl (gs := [jA S18 (jr S18 this 5) 6, (([] : List Value).map fun v => v.category).sum ≤ 8, 0 ≤ 0, 0 ≤ 0]) (k := 63) (args := [.ref (jr S18 this 5), .ref (jr S18 this 3), .int p1, .int p2, .int r19, .int p3, .int p4]) (r := []) (a := 0) (b := 0) rfl ⟨g26, Nat.le_of_ble_eq_true rfl, Nat.zero_le _, Nat.zero_le _⟩ (vX6_rockOfWay d (by omega) h) ?_
                  rintro v S24 ⟨r25, rfl, h⟩
                  show jLf (jCall jmt jbud d) jbud (fun j => (jmt j).rk) none mX11_round (jqI Q) (65, [some (.ref this), some (.int p1), some (.int p2), some (.int p3), some (.int p4), some (.int r19)], [.int r25], S24, 0, 0)
                  exact jLf.ret hc _ rfl (gs := [True]) (v := some (.int r25)) rfl trivial ⟨r25, rfl, h⟩
                · have h := h.2 hz
                  refine jLf.bk hc 1 [] [some (.ref this), some (.int p1), some (.int p2), some (.int p3), some (.int p4), some (.int r19)] [.int (-1)] S18 rfl rfl rfl trivial ?_
                  exact jLf.ret hc _ rfl (gs := [True]) (v := some (.int (-1))) rfl trivial ⟨(-1), rfl, h⟩
              · have h := h.2 (Classical.not_not.mp hz)
                refine jLf.bk hc 1 [] [some (.ref this), some (.int p1), some (.int p2), some (.int p3), some (.int p4), some (.int r19)] [.int r19] S18 rfl rfl rfl trivial ?_
                exact jLf.ret hc _ rfl (gs := [True]) (v := some (.int r19)) rfl trivial ⟨r19, rfl, h⟩
          · have h := h.2 hz
            refine jLf.bk hc 1 [] [some (.ref this), some (.int p1), some (.int p2), some (.int p3), some (.int p4), none] [.int (-1)] S6 rfl rfl rfl trivial ?_
            exact jLf.ret hc _ rfl (gs := [True]) (v := some (.int (-1))) rfl trivial ⟨(-1), rfl, h⟩
      · have h := h.2 hz
        refine jLf.bk hc 1 [] [some (.ref this), some (.int p1), some (.int p2), some (.int p3), some (.int p4), none] [.int (-1)] S6 rfl rfl rfl trivial ?_
        exact jLf.ret hc _ rfl (gs := [True]) (v := some (.int (-1))) rfl trivial ⟨(-1), rfl, h⟩
def bX11_reach_28   (X28 : Nat → Int32 → Int32 → Int32 → JS → Prop) (l0 : Nat) (l3 : Int32) (l4 : Int32) (l5 : Int32) (S : JS) (Q : Int32 → JS → Prop) : Prop :=
  (59 ≤ l5 → wX11_hasBit l4 l3 S (fun r21 S20 => (r21 = 0 → Q (-1) S20) ∧ (¬ r21 = 0 → Q 59 S20))) ∧ (¬ (59 ≤ l5) → wX11_hasBit l4 l3 S (fun r23 S22 => (r23 = 0 → jA S22 l0 11 ∧ (¬ jR S22 l0 3 = none ∧ (jA S22 (jr S22 l0 3) 1 ∧ (wX1_stepsOfAll (jr S22 l0 3) l4 l5 S22 (fun r27 S26 => ∀ x29 : Int32, x29 = (l5 + 1) → (X28 l0 l3 r27 x29 S26)))))) ∧ (¬ r23 = 0 → Q l5 S22)))
set_option maxRecDepth 20000 in
theorem uX11_reach_28 {Q : Int32 → JS → Prop}  (d : Nat) (hd : 5 ≤ d) {X28 : Nat → Int32 → Int32 → Int32 → JS → Prop} (hX28 : ∀ l0 l3 l4 l5 S, X28 l0 l3 l4 l5 S → jLf (jCall jmt jbud d) jbud (fun j => (jmt j).rk) none mX11_reach (jqI Q) (28, [some (.ref l0), none, none, some (.int l3), some (.int l4), some (.int l5)], [], S, 0, 0)) {l0 : Nat} {l3 : Int32} {l4 : Int32} {l5 : Int32} {S : JS} (h : bX11_reach_28 X28 l0 l3 l4 l5 S Q) : jLf (jCall jmt jbud d) jbud (fun j => (jmt j).rk) none mX11_reach (jqI Q) (28, [some (.ref l0), none, none, some (.int l3), some (.int l4), some (.int l5)], [], S, 0, 0) := by
  have hc := jCall_mono jmt jbud d
  unfold bX11_reach_28 at h
  refine jLf.bk hc 2 [] [some (.ref l0), none, none, some (.int l3), some (.int l4), some (.int l5)] [.int 59, .int l5] S rfl rfl rfl trivial ?_
  refine jLf.two hc _ rfl (gs := []) (p1 := 59 ≤ l5) (p2 := ¬ (59 ≤ l5)) (c1 := (45, [some (.ref l0), none, none, some (.int l3), some (.int l4), some (.int l5)], [], S, 0, 0)) (c2 := (31, [some (.ref l0), none, none, some (.int l3), some (.int l4), some (.int l5)], [], S, 0, 0)) rfl trivial (fun hz => ?_) (fun hz => ?_)
  · have h := h.1 hz
    refine jLf.bk hc 2 [] [some (.ref l0), none, none, some (.int l3), some (.int l4), some (.int l5)] [.int l3, .int l4] S rfl rfl rfl trivial ?_
    refine jLf.inv hc _ rfl (gs := [2 ≤ ([.int l3, .int l4] : List Value).length, (([] : List Value).map fun v => v.category).sum ≤ 8, 0 ≤ 0, 0 ≤ 0]) (k := 145) (args := [.int l4, .int l3]) (r := []) (a := 0) (b := 0) rfl ⟨Nat.le_of_ble_eq_true rfl, Nat.le_of_ble_eq_true rfl, Nat.zero_le _, Nat.zero_le _⟩ (vX11_hasBit d (by omega) h) ?_
    rintro v S20 ⟨r21, rfl, h⟩
    show jLf (jCall jmt jbud d) jbud (fun j => (jmt j).rk) none mX11_reach (jqI Q) (48, [some (.ref l0), none, none, some (.int l3), some (.int l4), some (.int l5)], [.int r21], S20, 0, 0)
    refine jLf.two hc _ rfl (gs := []) (p1 := r21 = 0) (p2 := ¬ (r21 = 0)) (c1 := (51, [some (.ref l0), none, none, some (.int l3), some (.int l4), some (.int l5)], [], S20, 0, 0)) (c2 := (49, [some (.ref l0), none, none, some (.int l3), some (.int l4), some (.int l5)], [], S20, 0, 0)) rfl trivial (fun hz => ?_) (fun hz => ?_)
    · have h := h.1 hz
      refine jLf.bk hc 1 [] [some (.ref l0), none, none, some (.int l3), some (.int l4), some (.int l5)] [.int (-1)] S20 rfl rfl rfl trivial ?_
      exact jLf.ret hc _ rfl (gs := [True]) (v := some (.int (-1))) rfl trivial ⟨(-1), rfl, h⟩
    · have h := h.2 hz
      refine jLf.bk hc 1 [] [some (.ref l0), none, none, some (.int l3), some (.int l4), some (.int l5)] [.int 59] S20 rfl rfl rfl trivial ?_
      refine jLf.one hc _ rfl (gs := []) (c := (52, [some (.ref l0), none, none, some (.int l3), some (.int l4), some (.int l5)], [.int 59], S20, 0, 0)) rfl trivial ?_
      exact jLf.ret hc _ rfl (gs := [True]) (v := some (.int 59)) rfl trivial ⟨59, rfl, h⟩
  · have h := h.2 hz
    refine jLf.bk hc 2 [] [some (.ref l0), none, none, some (.int l3), some (.int l4), some (.int l5)] [.int l3, .int l4] S rfl rfl rfl trivial ?_
    refine jLf.inv hc _ rfl (gs := [2 ≤ ([.int l3, .int l4] : List Value).length, (([] : List Value).map fun v => v.category).sum ≤ 8, 0 ≤ 0, 0 ≤ 0]) (k := 145) (args := [.int l4, .int l3]) (r := []) (a := 0) (b := 0) rfl ⟨Nat.le_of_ble_eq_true rfl, Nat.le_of_ble_eq_true rfl, Nat.zero_le _, Nat.zero_le _⟩ (vX11_hasBit d (by omega) h) ?_
    rintro v S22 ⟨r23, rfl, h⟩
    show jLf (jCall jmt jbud d) jbud (fun j => (jmt j).rk) none mX11_reach (jqI Q) (34, [some (.ref l0), none, none, some (.int l3), some (.int l4), some (.int l5)], [.int r23], S22, 0, 0)
    refine jLf.two hc _ rfl (gs := []) (p1 := r23 = 0) (p2 := ¬ (r23 = 0)) (c1 := (37, [some (.ref l0), none, none, some (.int l3), some (.int l4), some (.int l5)], [], S22, 0, 0)) (c2 := (35, [some (.ref l0), none, none, some (.int l3), some (.int l4), some (.int l5)], [], S22, 0, 0)) rfl trivial (fun hz => ?_) (fun hz => ?_)
    · have h := h.1 hz
      obtain ⟨g24, g25, h⟩ := h
      refine jLf.bk hc 4 [jA S22 l0 11, ¬ jR S22 l0 3 = none] [some (.ref l0), none, none, some (.int l3), some (.int l4), some (.int l5)] [.int l5, .int l4, .ref (jr S22 l0 3)] S22 rfl rfl rfl ⟨g24, g25⟩ ?_
      obtain ⟨g28, h⟩ := h
      refine jLf.inv hc _ rfl (gs := [jA S22 (jr S22 l0 3) 1, (([] : List Value).map fun v => v.category).sum ≤ 8, 0 ≤ 0, 0 ≤ 0]) (k := 16) (args := [.ref (jr S22 l0 3), .int l4, .int l5]) (r := []) (a := 0) (b := 0) rfl ⟨g28, Nat.le_of_ble_eq_true rfl, Nat.zero_le _, Nat.zero_le _⟩ (vX1_stepsOfAll d (by omega) h) ?_
      rintro v S26 ⟨r27, rfl, h⟩
      show jLf (jCall jmt jbud d) jbud (fun j => (jmt j).rk) none mX11_reach (jqI Q) (42, [some (.ref l0), none, none, some (.int l3), some (.int l4), some (.int l5)], [.int r27], S26, 0, 0)
      refine jLf.bk hc 2 [] [some (.ref l0), none, none, some (.int l3), some (.int r27), some (.int (l5 + 1))] [] S26 rfl rfl rfl trivial ?_
      generalize ex29 : (l5 + 1 : Int32) = x29
      have h := h x29 ex29.symm
      refine jLf.one hc _ rfl (gs := []) (c := (28, [some (.ref l0), none, none, some (.int l3), some (.int r27), some (.int x29)], [], S26, 0, 0)) rfl trivial ?_
      exact hX28 _ _ _ _ _ h
    · have h := h.2 hz
      refine jLf.bk hc 1 [] [some (.ref l0), none, none, some (.int l3), some (.int l4), some (.int l5)] [.int l5] S22 rfl rfl rfl trivial ?_
      exact jLf.ret hc _ rfl (gs := [True]) (v := some (.int l5)) rfl trivial ⟨l5, rfl, h⟩
def wX11_reach_28   (l0 : Nat) (l3 : Int32) (l4 : Int32) (l5 : Int32) (S : JS) (Q : Int32 → JS → Prop) : Prop :=
  jLoop (fun (X28 : Nat × Int32 × Int32 × Int32 × JS → Prop) q => bX11_reach_28 (fun l0 l3 l4 l5 S => X28 (l0, l3, l4, l5, S)) q.1 q.2.1 q.2.2.1 q.2.2.2.1 q.2.2.2.2 Q) (l0, l3, l4, l5, S)
set_option maxRecDepth 20000 in
theorem tX11_reach_28 {Q : Int32 → JS → Prop}  (d : Nat) (hd : 5 ≤ d) {l0 : Nat} {l3 : Int32} {l4 : Int32} {l5 : Int32} {S : JS} (h : wX11_reach_28 l0 l3 l4 l5 S Q) : jLf (jCall jmt jbud d) jbud (fun j => (jmt j).rk) none mX11_reach (jqI Q) (28, [some (.ref l0), none, none, some (.int l3), some (.int l4), some (.int l5)], [], S, 0, 0) := by
  have := h (fun q : Nat × Int32 × Int32 × Int32 × JS => jLf (jCall jmt jbud d) jbud (fun j => (jmt j).rk) none mX11_reach (jqI Q) (28, [some (.ref (q.1)), none, none, some (.int (q.2.1)), some (.int (q.2.2.1)), some (.int (q.2.2.2.1))], [], q.2.2.2.2, 0, 0)) (fun q R hb hR => uX11_reach_28 d hd  (fun _ _ _ _ _ => hR _) hb)
  exact this
def wX11_reach  (this : Nat) (p1 : Int32) (p2 : Int32) (p3 : Int32) (S : JS) (Q : Int32 → JS → Prop) : Prop :=
  jA S this 11 ∧ (¬ jR S this 0 = none ∧ (jA S (jr S this 0) 9 ∧ (wX9_hasRock (jr S this 0) p1 S (fun r4 S3 => (r4 = 0 → Q (-1) S3) ∧ (¬ r4 = 0 → wX11_isNight p2 S3 (fun r7 S6 => (r7 = 0 → Q (-1) S6) ∧ (¬ r7 = 0 → jA S6 this 11 ∧ (¬ jR S6 this 0 = none ∧ (jA S6 (jr S6 this 0) 9 ∧ (wX9_hasRock (jr S6 this 0) p3 S6 (fun r11 S10 => (¬ r11 = 0 → jA S10 this 11 ∧ (¬ jR S10 this 3 = none ∧ (¬ jR S10 this 0 = none ∧ (jA S10 (jr S10 this 3) 1 ∧ (wX1_learnAll (jr S10 this 3) (jr S10 this 0) p2 59 S10 (fun S16 => ∀ x19 : Int32, x19 = ((1 : Int32) <<< (p1 &&& 31)) → (wX11_reach_28 this p3 x19 p2 S16 Q))))))) ∧ (r11 = 0 → Q (-1) S10))))))))))))
set_option maxRecDepth 20000 in
theorem vX11_reach {Q : Int32 → JS → Prop} (d : Nat) (hd : 6 ≤ d) {this : Nat} {p1 : Int32} {p2 : Int32} {p3 : Int32} {S : JS} (h : wX11_reach this p1 p2 p3 S Q) : jCall jmt jbud d 127 [.ref this, .int p1, .int p2, .int p3] S (jqI Q) := by
  obtain ⟨d, rfl⟩ : ∃ d2, d = d2 + 1 := ⟨d - 1, by omega⟩
  have hd : 5 ≤ d := by omega
  have hc := jCall_mono jmt jbud d
  unfold wX11_reach at h
  refine ⟨Nat.le_of_ble_eq_true rfl, ?_⟩
  show jLf (jCall jmt jbud d) jbud (fun j => (jmt j).rk) none mX11_reach (jqI Q) (0, [some (.ref this), some (.int p1), some (.int p2), some (.int p3), none, none], [], S, 0, 0)
  obtain ⟨g1, g2, h⟩ := h
  refine jLf.bk hc 3 [jA S this 11, ¬ jR S this 0 = none] [some (.ref this), some (.int p1), some (.int p2), some (.int p3), none, none] [.int p1, .ref (jr S this 0)] S rfl rfl rfl ⟨g1, g2⟩ ?_
  obtain ⟨g5, h⟩ := h
  refine jLf.inv hc _ rfl (gs := [jA S (jr S this 0) 9, (([] : List Value).map fun v => v.category).sum ≤ 8, 0 ≤ 0, 0 ≤ 0]) (k := 87) (args := [.ref (jr S this 0), .int p1]) (r := []) (a := 0) (b := 0) rfl ⟨g5, Nat.le_of_ble_eq_true rfl, Nat.zero_le _, Nat.zero_le _⟩ (vX9_hasRock d (by omega) h) ?_
  rintro v S3 ⟨r4, rfl, h⟩
  show jLf (jCall jmt jbud d) jbud (fun j => (jmt j).rk) none mX11_reach (jqI Q) (4, [some (.ref this), some (.int p1), some (.int p2), some (.int p3), none, none], [.int r4], S3, 0, 0)
  refine jLf.two hc _ rfl (gs := []) (p1 := r4 = 0) (p2 := ¬ (r4 = 0)) (c1 := (13, [some (.ref this), some (.int p1), some (.int p2), some (.int p3), none, none], [], S3, 0, 0)) (c2 := (5, [some (.ref this), some (.int p1), some (.int p2), some (.int p3), none, none], [], S3, 0, 0)) rfl trivial (fun hz => ?_) (fun hz => ?_)
  · have h := h.1 hz
    refine jLf.bk hc 1 [] [some (.ref this), some (.int p1), some (.int p2), some (.int p3), none, none] [.int (-1)] S3 rfl rfl rfl trivial ?_
    exact jLf.ret hc _ rfl (gs := [True]) (v := some (.int (-1))) rfl trivial ⟨(-1), rfl, h⟩
  · have h := h.2 hz
    refine jLf.bk hc 1 [] [some (.ref this), some (.int p1), some (.int p2), some (.int p3), none, none] [.int p2] S3 rfl rfl rfl trivial ?_
    refine jLf.inv hc _ rfl (gs := [1 ≤ ([.int p2] : List Value).length, (([] : List Value).map fun v => v.category).sum ≤ 8, 0 ≤ 0, 0 ≤ 0]) (k := 143) (args := [.int p2]) (r := []) (a := 0) (b := 0) rfl ⟨Nat.le_of_ble_eq_true rfl, Nat.le_of_ble_eq_true rfl, Nat.zero_le _, Nat.zero_le _⟩ (vX11_isNight d (by omega) h) ?_
    rintro v S6 ⟨r7, rfl, h⟩
    show jLf (jCall jmt jbud d) jbud (fun j => (jmt j).rk) none mX11_reach (jqI Q) (7, [some (.ref this), some (.int p1), some (.int p2), some (.int p3), none, none], [.int r7], S6, 0, 0)
    refine jLf.two hc _ rfl (gs := []) (p1 := r7 = 0) (p2 := ¬ (r7 = 0)) (c1 := (13, [some (.ref this), some (.int p1), some (.int p2), some (.int p3), none, none], [], S6, 0, 0)) (c2 := (8, [some (.ref this), some (.int p1), some (.int p2), some (.int p3), none, none], [], S6, 0, 0)) rfl trivial (fun hz => ?_) (fun hz => ?_)
    · have h := h.1 hz
      refine jLf.bk hc 1 [] [some (.ref this), some (.int p1), some (.int p2), some (.int p3), none, none] [.int (-1)] S6 rfl rfl rfl trivial ?_
      exact jLf.ret hc _ rfl (gs := [True]) (v := some (.int (-1))) rfl trivial ⟨(-1), rfl, h⟩
    · have h := h.2 hz
      obtain ⟨g8, g9, h⟩ := h
      refine jLf.bk hc 3 [jA S6 this 11, ¬ jR S6 this 0 = none] [some (.ref this), some (.int p1), some (.int p2), some (.int p3), none, none] [.int p3, .ref (jr S6 this 0)] S6 rfl rfl rfl ⟨g8, g9⟩ ?_
      obtain ⟨g12, h⟩ := h
      refine jLf.inv hc _ rfl (gs := [jA S6 (jr S6 this 0) 9, (([] : List Value).map fun v => v.category).sum ≤ 8, 0 ≤ 0, 0 ≤ 0]) (k := 87) (args := [.ref (jr S6 this 0), .int p3]) (r := []) (a := 0) (b := 0) rfl ⟨g12, Nat.le_of_ble_eq_true rfl, Nat.zero_le _, Nat.zero_le _⟩ (vX9_hasRock d (by omega) h) ?_
      rintro v S10 ⟨r11, rfl, h⟩
      show jLf (jCall jmt jbud d) jbud (fun j => (jmt j).rk) none mX11_reach (jqI Q) (12, [some (.ref this), some (.int p1), some (.int p2), some (.int p3), none, none], [.int r11], S10, 0, 0)
      refine jLf.two hc _ rfl (gs := []) (p1 := ¬ r11 = 0) (p2 := ¬ (¬ r11 = 0)) (c1 := (15, [some (.ref this), some (.int p1), some (.int p2), some (.int p3), none, none], [], S10, 0, 0)) (c2 := (13, [some (.ref this), some (.int p1), some (.int p2), some (.int p3), none, none], [], S10, 0, 0)) rfl trivial (fun hz => ?_) (fun hz => ?_)
      · have h := h.1 hz
        obtain ⟨g13, g14, g15, h⟩ := h
        refine jLf.bk hc 6 [jA S10 this 11, ¬ jR S10 this 3 = none, jA S10 this 11, ¬ jR S10 this 0 = none] [some (.ref this), some (.int p1), some (.int p2), some (.int p3), none, none] [.int 59, .int p2, .ref (jr S10 this 0), .ref (jr S10 this 3)] S10 rfl rfl rfl ⟨g13, g14, g13, g15⟩ ?_
        obtain ⟨g18, h⟩ := h
        refine jLf.inv hc _ rfl (gs := [jA S10 (jr S10 this 3) 1, (([] : List Value).map fun v => v.category).sum ≤ 8, 0 ≤ 0, 0 ≤ 0]) (k := 10) (args := [.ref (jr S10 this 3), .ref (jr S10 this 0), .int p2, .int 59]) (r := []) (a := 0) (b := 0) rfl ⟨g18, Nat.le_of_ble_eq_true rfl, Nat.zero_le _, Nat.zero_le _⟩ (vX1_learnAll d (by omega) h) ?_
        rintro v S16 ⟨rfl, h⟩
        show jLf (jCall jmt jbud d) jbud (fun j => (jmt j).rk) none mX11_reach (jqI Q) (22, [some (.ref this), some (.int p1), some (.int p2), some (.int p3), none, none], [], S16, 0, 0)
        refine jLf.bk hc 4 [] [some (.ref this), some (.int p1), some (.int p2), some (.int p3), some (.int ((1 : Int32) <<< (p1 &&& 31))), none] [] S16 rfl rfl rfl trivial ?_
        generalize ex19 : ((1 : Int32) <<< (p1 &&& 31) : Int32) = x19
        have h := h x19 ex19.symm
        refine jLf.bk hc 2 [] [some (.ref this), some (.int p1), some (.int p2), some (.int p3), some (.int x19), some (.int p2)] [] S16 rfl rfl rfl trivial ?_
        refine jLf.sub [some (.ref this), none, none, some (.int p3), some (.int x19), some (.int p2)] (jle_same (jle_none (jle_none (jle_same (jle_same (jle_same (jle_nil _))))))) ?_
        exact tX11_reach_28 d hd  h
      · have h := h.2 (Classical.not_not.mp hz)
        refine jLf.bk hc 1 [] [some (.ref this), some (.int p1), some (.int p2), some (.int p3), none, none] [.int (-1)] S10 rfl rfl rfl trivial ?_
        exact jLf.ret hc _ rfl (gs := [True]) (v := some (.int (-1))) rfl trivial ⟨(-1), rfl, h⟩
def wX11_guard  (this : Nat) (p1 : Int32) (p2 : Int32) (p3 : Int32) (p4 : Int32) (S : JS) (Q : Int32 → JS → Prop) : Prop :=
  jA S this 11 ∧ (¬ jR S this 0 = none ∧ (jA S (jr S this 0) 9 ∧ (wX9_hasRock (jr S this 0) p1 S (fun r4 S3 => (r4 = 0 → Q (-1) S3) ∧ (¬ r4 = 0 → wX11_isNight p2 S3 (fun r7 S6 => (r7 = 0 → Q (-1) S6) ∧ (¬ r7 = 0 → wX11_isNight p3 S6 (fun r9 S8 => (r9 = 0 → Q (-1) S8) ∧ (¬ r9 = 0 → (p2 ≤ p3 → (p4 < (-1) → Q (-1) S8) ∧ (¬ (p4 < (-1)) → (p4 ≤ (p3 - p2) → jA S8 this 11 ∧ (¬ jR S8 this 3 = none ∧ (¬ jR S8 this 0 = none ∧ (jA S8 (jr S8 this 3) 1 ∧ (wX1_learnAll (jr S8 this 3) (jr S8 this 0) p2 p3 S8 (fun S13 => jA S13 this 11 ∧ (¬ jR S13 this 3 = none ∧ (¬ jR S13 this 0 = none ∧ (jA S13 (jr S13 this 3) 1 ∧ (wX1_learnDangers (jr S13 this 3) (jr S13 this 0) p2 p3 S13 (fun S19 => jA S19 this 11 ∧ (¬ jR S19 this 6 = none ∧ (¬ jR S19 this 0 = none ∧ (¬ jR S19 this 3 = none ∧ (jA S19 (jr S19 this 6) 2 ∧ (wX2_weigh (jr S19 this 6) (jr S19 this 0) (jr S19 this 3) p2 p3 S19 (fun S26 => (¬ p4 = (-1) → jA S26 this 11 ∧ (¬ jR S26 this 6 = none ∧ (¬ jR S26 this 3 = none ∧ (jA S26 (jr S26 this 6) 2 ∧ (wX2_rockOfWay (jr S26 this 6) (jr S26 this 3) p1 p2 p4 S26 (fun r33 S32 => Q r33 S32)))))) ∧ (p4 = (-1) → jA S26 this 11 ∧ (¬ jR S26 this 6 = none ∧ (¬ jR S26 this 0 = none ∧ (¬ jR S26 this 3 = none ∧ (jA S26 (jr S26 this 6) 2 ∧ (wX2_leastUnwarned (jr S26 this 6) (jr S26 this 0) (jr S26 this 3) p1 p2 p3 S26 (fun r40 S39 => Q r40 S39)))))))))))))))))))))))) ∧ (¬ (p4 ≤ (p3 - p2)) → Q (-1) S8))) ∧ (¬ (p2 ≤ p3) → Q (-1) S8))))))))))
set_option maxRecDepth 20000 in
theorem vX11_guard {Q : Int32 → JS → Prop} (d : Nat) (hd : 6 ≤ d) {this : Nat} {p1 : Int32} {p2 : Int32} {p3 : Int32} {p4 : Int32} {S : JS} (h : wX11_guard this p1 p2 p3 p4 S Q) : jCall jmt jbud d 128 [.ref this, .int p1, .int p2, .int p3, .int p4] S (jqI Q) := by
  obtain ⟨d, rfl⟩ : ∃ d2, d = d2 + 1 := ⟨d - 1, by omega⟩
  have hd : 5 ≤ d := by omega
  have hc := jCall_mono jmt jbud d
  unfold wX11_guard at h
  refine ⟨Nat.le_of_ble_eq_true rfl, ?_⟩
  show jLf (jCall jmt jbud d) jbud (fun j => (jmt j).rk) none mX11_guard (jqI Q) (0, [some (.ref this), some (.int p1), some (.int p2), some (.int p3), some (.int p4)], [], S, 0, 0)
  obtain ⟨g1, g2, h⟩ := h
  refine jLf.bk hc 3 [jA S this 11, ¬ jR S this 0 = none] [some (.ref this), some (.int p1), some (.int p2), some (.int p3), some (.int p4)] [.int p1, .ref (jr S this 0)] S rfl rfl rfl ⟨g1, g2⟩ ?_
  obtain ⟨g5, h⟩ := h
  refine jLf.inv hc _ rfl (gs := [jA S (jr S this 0) 9, (([] : List Value).map fun v => v.category).sum ≤ 8, 0 ≤ 0, 0 ≤ 0]) (k := 87) (args := [.ref (jr S this 0), .int p1]) (r := []) (a := 0) (b := 0) rfl ⟨g5, Nat.le_of_ble_eq_true rfl, Nat.zero_le _, Nat.zero_le _⟩ (vX9_hasRock d (by omega) h) ?_
  rintro v S3 ⟨r4, rfl, h⟩
  show jLf (jCall jmt jbud d) jbud (fun j => (jmt j).rk) none mX11_guard (jqI Q) (4, [some (.ref this), some (.int p1), some (.int p2), some (.int p3), some (.int p4)], [.int r4], S3, 0, 0)
  refine jLf.two hc _ rfl (gs := []) (p1 := r4 = 0) (p2 := ¬ (r4 = 0)) (c1 := (14, [some (.ref this), some (.int p1), some (.int p2), some (.int p3), some (.int p4)], [], S3, 0, 0)) (c2 := (5, [some (.ref this), some (.int p1), some (.int p2), some (.int p3), some (.int p4)], [], S3, 0, 0)) rfl trivial (fun hz => ?_) (fun hz => ?_)
  · have h := h.1 hz
    refine jLf.bk hc 1 [] [some (.ref this), some (.int p1), some (.int p2), some (.int p3), some (.int p4)] [.int (-1)] S3 rfl rfl rfl trivial ?_
    exact jLf.ret hc _ rfl (gs := [True]) (v := some (.int (-1))) rfl trivial ⟨(-1), rfl, h⟩
  · have h := h.2 hz
    refine jLf.bk hc 1 [] [some (.ref this), some (.int p1), some (.int p2), some (.int p3), some (.int p4)] [.int p2] S3 rfl rfl rfl trivial ?_
    refine jLf.inv hc _ rfl (gs := [1 ≤ ([.int p2] : List Value).length, (([] : List Value).map fun v => v.category).sum ≤ 8, 0 ≤ 0, 0 ≤ 0]) (k := 143) (args := [.int p2]) (r := []) (a := 0) (b := 0) rfl ⟨Nat.le_of_ble_eq_true rfl, Nat.le_of_ble_eq_true rfl, Nat.zero_le _, Nat.zero_le _⟩ (vX11_isNight d (by omega) h) ?_
    rintro v S6 ⟨r7, rfl, h⟩
    show jLf (jCall jmt jbud d) jbud (fun j => (jmt j).rk) none mX11_guard (jqI Q) (7, [some (.ref this), some (.int p1), some (.int p2), some (.int p3), some (.int p4)], [.int r7], S6, 0, 0)
    refine jLf.two hc _ rfl (gs := []) (p1 := r7 = 0) (p2 := ¬ (r7 = 0)) (c1 := (14, [some (.ref this), some (.int p1), some (.int p2), some (.int p3), some (.int p4)], [], S6, 0, 0)) (c2 := (8, [some (.ref this), some (.int p1), some (.int p2), some (.int p3), some (.int p4)], [], S6, 0, 0)) rfl trivial (fun hz => ?_) (fun hz => ?_)
    · have h := h.1 hz
      refine jLf.bk hc 1 [] [some (.ref this), some (.int p1), some (.int p2), some (.int p3), some (.int p4)] [.int (-1)] S6 rfl rfl rfl trivial ?_
      exact jLf.ret hc _ rfl (gs := [True]) (v := some (.int (-1))) rfl trivial ⟨(-1), rfl, h⟩
    · have h := h.2 hz
      refine jLf.bk hc 1 [] [some (.ref this), some (.int p1), some (.int p2), some (.int p3), some (.int p4)] [.int p3] S6 rfl rfl rfl trivial ?_
      refine jLf.inv hc _ rfl (gs := [1 ≤ ([.int p3] : List Value).length, (([] : List Value).map fun v => v.category).sum ≤ 8, 0 ≤ 0, 0 ≤ 0]) (k := 143) (args := [.int p3]) (r := []) (a := 0) (b := 0) rfl ⟨Nat.le_of_ble_eq_true rfl, Nat.le_of_ble_eq_true rfl, Nat.zero_le _, Nat.zero_le _⟩ (vX11_isNight d (by omega) h) ?_
      rintro v S8 ⟨r9, rfl, h⟩
      show jLf (jCall jmt jbud d) jbud (fun j => (jmt j).rk) none mX11_guard (jqI Q) (10, [some (.ref this), some (.int p1), some (.int p2), some (.int p3), some (.int p4)], [.int r9], S8, 0, 0)
      refine jLf.two hc _ rfl (gs := []) (p1 := r9 = 0) (p2 := ¬ (r9 = 0)) (c1 := (14, [some (.ref this), some (.int p1), some (.int p2), some (.int p3), some (.int p4)], [], S8, 0, 0)) (c2 := (11, [some (.ref this), some (.int p1), some (.int p2), some (.int p3), some (.int p4)], [], S8, 0, 0)) rfl trivial (fun hz => ?_) (fun hz => ?_)
      · have h := h.1 hz
        refine jLf.bk hc 1 [] [some (.ref this), some (.int p1), some (.int p2), some (.int p3), some (.int p4)] [.int (-1)] S8 rfl rfl rfl trivial ?_
        exact jLf.ret hc _ rfl (gs := [True]) (v := some (.int (-1))) rfl trivial ⟨(-1), rfl, h⟩
      · have h := h.2 hz
        refine jLf.bk hc 2 [] [some (.ref this), some (.int p1), some (.int p2), some (.int p3), some (.int p4)] [.int p2, .int p3] S8 rfl rfl rfl trivial ?_
        refine jLf.two hc _ rfl (gs := []) (p1 := p2 ≤ p3) (p2 := ¬ (p2 ≤ p3)) (c1 := (16, [some (.ref this), some (.int p1), some (.int p2), some (.int p3), some (.int p4)], [], S8, 0, 0)) (c2 := (14, [some (.ref this), some (.int p1), some (.int p2), some (.int p3), some (.int p4)], [], S8, 0, 0)) rfl trivial (fun hz => ?_) (fun hz => ?_)
        · have h := h.1 hz
          refine jLf.bk hc 2 [] [some (.ref this), some (.int p1), some (.int p2), some (.int p3), some (.int p4)] [.int (-1), .int p4] S8 rfl rfl rfl trivial ?_
          refine jLf.two hc _ rfl (gs := []) (p1 := p4 < (-1)) (p2 := ¬ (p4 < (-1))) (c1 := (24, [some (.ref this), some (.int p1), some (.int p2), some (.int p3), some (.int p4)], [], S8, 0, 0)) (c2 := (19, [some (.ref this), some (.int p1), some (.int p2), some (.int p3), some (.int p4)], [], S8, 0, 0)) rfl trivial (fun hz => ?_) (fun hz => ?_)
          · have h := h.1 hz
            refine jLf.bk hc 1 [] [some (.ref this), some (.int p1), some (.int p2), some (.int p3), some (.int p4)] [.int (-1)] S8 rfl rfl rfl trivial ?_
            exact jLf.ret hc _ rfl (gs := [True]) (v := some (.int (-1))) rfl trivial ⟨(-1), rfl, h⟩
          · have h := h.2 hz
            refine jLf.bk hc 4 [] [some (.ref this), some (.int p1), some (.int p2), some (.int p3), some (.int p4)] [.int (p3 - p2), .int p4] S8 rfl rfl rfl trivial ?_
            refine jLf.two hc _ rfl (gs := []) (p1 := p4 ≤ (p3 - p2)) (p2 := ¬ (p4 ≤ (p3 - p2))) (c1 := (26, [some (.ref this), some (.int p1), some (.int p2), some (.int p3), some (.int p4)], [], S8, 0, 0)) (c2 := (24, [some (.ref this), some (.int p1), some (.int p2), some (.int p3), some (.int p4)], [], S8, 0, 0)) rfl trivial (fun hz => ?_) (fun hz => ?_)
            · have h := h.1 hz
              obtain ⟨g10, g11, g12, h⟩ := h
              refine jLf.bk hc 6 [jA S8 this 11, ¬ jR S8 this 3 = none, jA S8 this 11, ¬ jR S8 this 0 = none] [some (.ref this), some (.int p1), some (.int p2), some (.int p3), some (.int p4)] [.int p3, .int p2, .ref (jr S8 this 0), .ref (jr S8 this 3)] S8 rfl rfl rfl ⟨g10, g11, g10, g12⟩ ?_
              obtain ⟨g15, h⟩ := h
              refine jLf.inv hc _ rfl (gs := [jA S8 (jr S8 this 3) 1, (([] : List Value).map fun v => v.category).sum ≤ 8, 0 ≤ 0, 0 ≤ 0]) (k := 10) (args := [.ref (jr S8 this 3), .ref (jr S8 this 0), .int p2, .int p3]) (r := []) (a := 0) (b := 0) rfl ⟨g15, Nat.le_of_ble_eq_true rfl, Nat.zero_le _, Nat.zero_le _⟩ (vX1_learnAll d (by omega) h) ?_
              rintro v S13 ⟨rfl, h⟩
              show jLf (jCall jmt jbud d) jbud (fun j => (jmt j).rk) none mX11_guard (jqI Q) (33, [some (.ref this), some (.int p1), some (.int p2), some (.int p3), some (.int p4)], [], S13, 0, 0)
              obtain ⟨g16, g17, g18, h⟩ := h
              refine jLf.bk hc 6 [jA S13 this 11, ¬ jR S13 this 3 = none, jA S13 this 11, ¬ jR S13 this 0 = none] [some (.ref this), some (.int p1), some (.int p2), some (.int p3), some (.int p4)] [.int p3, .int p2, .ref (jr S13 this 0), .ref (jr S13 this 3)] S13 rfl rfl rfl ⟨g16, g17, g16, g18⟩ ?_
              obtain ⟨g21, h⟩ := h
              refine jLf.inv hc _ rfl (gs := [jA S13 (jr S13 this 3) 1, (([] : List Value).map fun v => v.category).sum ≤ 8, 0 ≤ 0, 0 ≤ 0]) (k := 12) (args := [.ref (jr S13 this 3), .ref (jr S13 this 0), .int p2, .int p3]) (r := []) (a := 0) (b := 0) rfl ⟨g21, Nat.le_of_ble_eq_true rfl, Nat.zero_le _, Nat.zero_le _⟩ (vX1_learnDangers d (by omega) h) ?_
              rintro v S19 ⟨rfl, h⟩
              show jLf (jCall jmt jbud d) jbud (fun j => (jmt j).rk) none mX11_guard (jqI Q) (40, [some (.ref this), some (.int p1), some (.int p2), some (.int p3), some (.int p4)], [], S19, 0, 0)
              obtain ⟨g22, g23, g24, g25, h⟩ := h
              refine jLf.bk hc 8 [jA S19 this 11, ¬ jR S19 this 6 = none, jA S19 this 11, ¬ jR S19 this 0 = none, jA S19 this 11, ¬ jR S19 this 3 = none] [some (.ref this), some (.int p1), some (.int p2), some (.int p3), some (.int p4)] [.int p3, .int p2, .ref (jr S19 this 3), .ref (jr S19 this 0), .ref (jr S19 this 6)] S19 rfl rfl rfl ⟨g22, g23, g22, g24, g22, g25⟩ ?_
              obtain ⟨g28, h⟩ := h
              refine jLf.inv hc _ rfl (gs := [jA S19 (jr S19 this 6) 2, (([] : List Value).map fun v => v.category).sum ≤ 8, 0 ≤ 0, 0 ≤ 0]) (k := 21) (args := [.ref (jr S19 this 6), .ref (jr S19 this 0), .ref (jr S19 this 3), .int p2, .int p3]) (r := []) (a := 0) (b := 0) rfl ⟨g28, Nat.le_of_ble_eq_true rfl, Nat.zero_le _, Nat.zero_le _⟩ (vX2_weigh d (by omega) h) ?_
              rintro v S26 ⟨rfl, h⟩
              show jLf (jCall jmt jbud d) jbud (fun j => (jmt j).rk) none mX11_guard (jqI Q) (49, [some (.ref this), some (.int p1), some (.int p2), some (.int p3), some (.int p4)], [], S26, 0, 0)
              refine jLf.bk hc 2 [] [some (.ref this), some (.int p1), some (.int p2), some (.int p3), some (.int p4)] [.int (-1), .int p4] S26 rfl rfl rfl trivial ?_
              refine jLf.two hc _ rfl (gs := []) (p1 := ¬ p4 = (-1)) (p2 := ¬ (¬ p4 = (-1))) (c1 := (63, [some (.ref this), some (.int p1), some (.int p2), some (.int p3), some (.int p4)], [], S26, 0, 0)) (c2 := (52, [some (.ref this), some (.int p1), some (.int p2), some (.int p3), some (.int p4)], [], S26, 0, 0)) rfl trivial (fun hz => ?_) (fun hz => ?_)
              · have h := h.1 hz
                obtain ⟨g29, g30, g31, h⟩ := h
                refine jLf.bk hc 7 [jA S26 this 11, ¬ jR S26 this 6 = none, jA S26 this 11, ¬ jR S26 this 3 = none] [some (.ref this), some (.int p1), some (.int p2), some (.int p3), some (.int p4)] [.int p4, .int p2, .int p1, .ref (jr S26 this 3), .ref (jr S26 this 6)] S26 rfl rfl rfl ⟨g29, g30, g29, g31⟩ ?_
                obtain ⟨g34, h⟩ := h
                refine jLf.inv hc _ rfl (gs := [jA S26 (jr S26 this 6) 2, (([] : List Value).map fun v => v.category).sum ≤ 8, 0 ≤ 0, 0 ≤ 0]) (k := 25) (args := [.ref (jr S26 this 6), .ref (jr S26 this 3), .int p1, .int p2, .int p4]) (r := []) (a := 0) (b := 0) rfl ⟨g34, Nat.le_of_ble_eq_true rfl, Nat.zero_le _, Nat.zero_le _⟩ (vX2_rockOfWay d (by omega) h) ?_
                rintro v S32 ⟨r33, rfl, h⟩
                show jLf (jCall jmt jbud d) jbud (fun j => (jmt j).rk) none mX11_guard (jqI Q) (71, [some (.ref this), some (.int p1), some (.int p2), some (.int p3), some (.int p4)], [.int r33], S32, 0, 0)
                exact jLf.ret hc _ rfl (gs := [True]) (v := some (.int r33)) rfl trivial ⟨r33, rfl, h⟩
              · have h := h.2 (Classical.not_not.mp hz)
                obtain ⟨g35, g36, g37, g38, h⟩ := h
                refine jLf.bk hc 9 [jA S26 this 11, ¬ jR S26 this 6 = none, jA S26 this 11, ¬ jR S26 this 0 = none, jA S26 this 11, ¬ jR S26 this 3 = none] [some (.ref this), some (.int p1), some (.int p2), some (.int p3), some (.int p4)] [.int p3, .int p2, .int p1, .ref (jr S26 this 3), .ref (jr S26 this 0), .ref (jr S26 this 6)] S26 rfl rfl rfl ⟨g35, g36, g35, g37, g35, g38⟩ ?_
                obtain ⟨g41, h⟩ := h
                refine jLf.inv hc _ rfl (gs := [jA S26 (jr S26 this 6) 2, (([] : List Value).map fun v => v.category).sum ≤ 8, 0 ≤ 0, 0 ≤ 0]) (k := 24) (args := [.ref (jr S26 this 6), .ref (jr S26 this 0), .ref (jr S26 this 3), .int p1, .int p2, .int p3]) (r := []) (a := 0) (b := 0) rfl ⟨g41, Nat.le_of_ble_eq_true rfl, Nat.zero_le _, Nat.zero_le _⟩ (vX2_leastUnwarned d (by omega) h) ?_
                rintro v S39 ⟨r40, rfl, h⟩
                show jLf (jCall jmt jbud d) jbud (fun j => (jmt j).rk) none mX11_guard (jqI Q) (62, [some (.ref this), some (.int p1), some (.int p2), some (.int p3), some (.int p4)], [.int r40], S39, 0, 0)
                refine jLf.one hc _ rfl (gs := []) (c := (71, [some (.ref this), some (.int p1), some (.int p2), some (.int p3), some (.int p4)], [.int r40], S39, 0, 0)) rfl trivial ?_
                exact jLf.ret hc _ rfl (gs := [True]) (v := some (.int r40)) rfl trivial ⟨r40, rfl, h⟩
            · have h := h.2 hz
              refine jLf.bk hc 1 [] [some (.ref this), some (.int p1), some (.int p2), some (.int p3), some (.int p4)] [.int (-1)] S8 rfl rfl rfl trivial ?_
              exact jLf.ret hc _ rfl (gs := [True]) (v := some (.int (-1))) rfl trivial ⟨(-1), rfl, h⟩
        · have h := h.2 hz
          refine jLf.bk hc 1 [] [some (.ref this), some (.int p1), some (.int p2), some (.int p3), some (.int p4)] [.int (-1)] S8 rfl rfl rfl trivial ?_
          exact jLf.ret hc _ rfl (gs := [True]) (v := some (.int (-1))) rfl trivial ⟨(-1), rfl, h⟩
def wX11_sea_10   (l0 : Nat) (S : JS) (Q : Int32 → JS → Prop) : Prop :=
  jA S l0 11 ∧ (wX11_refuse l0 (-1) S (fun r2 S1 => Q r2 S1))
set_option maxRecDepth 20000 in
theorem tX11_sea_10 {Q : Int32 → JS → Prop}  (d : Nat) (hd : 1 ≤ d) {l0 : Nat} {S : JS} (h : wX11_sea_10 l0 S Q) : jLf (jCall jmt jbud d) jbud (fun j => (jmt j).rk) none mX11_sea (jqI Q) (10, [some (.ref l0), none, none, none], [], S, 0, 0) := by
  have hc := jCall_mono jmt jbud d
  unfold wX11_sea_10 at h
  refine jLf.bk hc 2 [] [some (.ref l0), none, none, none] [.int (-1), .ref l0] S rfl rfl rfl trivial ?_
  obtain ⟨g3, h⟩ := h
  refine jLf.inv hc _ rfl (gs := [jA S l0 11, (([] : List Value).map fun v => v.category).sum ≤ 8, 0 ≤ 0, 0 ≤ 0]) (k := 137) (args := [.ref l0, .int (-1)]) (r := []) (a := 0) (b := 0) rfl ⟨g3, Nat.le_of_ble_eq_true rfl, Nat.zero_le _, Nat.zero_le _⟩ (vX11_refuse d (by omega) h) ?_
  rintro v S1 ⟨r2, rfl, h⟩
  show jLf (jCall jmt jbud d) jbud (fun j => (jmt j).rk) none mX11_sea (jqI Q) (13, [some (.ref l0), none, none, none], [.int r2], S1, 0, 0)
  exact jLf.ret hc _ rfl (gs := [True]) (v := some (.int r2)) rfl trivial ⟨r2, rfl, h⟩
def wX11_sea  (this : Nat) (p1 : Int32) (p2 : Int32) (S : JS) (Q : Int32 → JS → Prop) : Prop :=
  (p1 < 0 → wX11_sea_10 this S Q) ∧ (¬ (p1 < 0) → (12 ≤ p1 → wX11_sea_10 this S Q) ∧ (¬ (12 ≤ p1) → (p2 < 0 → wX11_sea_10 this S Q) ∧ (¬ (p2 < 0) → (p2 ≤ 99 → jA S this 11 ∧ (¬ jR S this 0 = none ∧ (jA S (jr S this 0) 9 ∧ (¬ jR S (jr S this 0) 11 = none ∧ (jA S (jr S (jr S this 0) 11) 13 ∧ (vp_in p1 (jZ S (jr S (jr S this 0) 11)) ∧ (∀ x10 : Int32, x10 = (jI S (jr S (jr S this 0) 11) p1.toNatClampNeg) → (∀ S11 : JS, S11 = uI S (jr S (jr S this 0) 11) p1.toNatClampNeg p2 → (jA S11 this 11 ∧ (wX11_accept this x10 S11 (fun r13 S12 => Q r13 S12))))))))))) ∧ (¬ (p2 ≤ 99) → wX11_sea_10 this S Q))))
set_option maxRecDepth 20000 in
theorem vX11_sea {Q : Int32 → JS → Prop} (d : Nat) (hd : 2 ≤ d) {this : Nat} {p1 : Int32} {p2 : Int32} {S : JS} (h : wX11_sea this p1 p2 S Q) : jCall jmt jbud d 129 [.ref this, .int p1, .int p2] S (jqI Q) := by
  obtain ⟨d, rfl⟩ : ∃ d2, d = d2 + 1 := ⟨d - 1, by omega⟩
  have hd : 1 ≤ d := by omega
  have hc := jCall_mono jmt jbud d
  unfold wX11_sea at h
  refine ⟨Nat.le_of_ble_eq_true rfl, ?_⟩
  show jLf (jCall jmt jbud d) jbud (fun j => (jmt j).rk) none mX11_sea (jqI Q) (0, [some (.ref this), some (.int p1), some (.int p2), none], [], S, 0, 0)
  refine jLf.bk hc 1 [] [some (.ref this), some (.int p1), some (.int p2), none] [.int p1] S rfl rfl rfl trivial ?_
  refine jLf.two hc _ rfl (gs := []) (p1 := p1 < 0) (p2 := ¬ (p1 < 0)) (c1 := (10, [some (.ref this), some (.int p1), some (.int p2), none], [], S, 0, 0)) (c2 := (2, [some (.ref this), some (.int p1), some (.int p2), none], [], S, 0, 0)) rfl trivial (fun hz => ?_) (fun hz => ?_)
  · have h := h.1 hz
    refine jLf.sub [some (.ref this), none, none, none] (jle_same (jle_none (jle_none (jle_same (jle_nil _))))) ?_
    exact tX11_sea_10 d hd  h
  · have h := h.2 hz
    refine jLf.bk hc 2 [] [some (.ref this), some (.int p1), some (.int p2), none] [.int 12, .int p1] S rfl rfl rfl trivial ?_
    refine jLf.two hc _ rfl (gs := []) (p1 := 12 ≤ p1) (p2 := ¬ (12 ≤ p1)) (c1 := (10, [some (.ref this), some (.int p1), some (.int p2), none], [], S, 0, 0)) (c2 := (5, [some (.ref this), some (.int p1), some (.int p2), none], [], S, 0, 0)) rfl trivial (fun hz => ?_) (fun hz => ?_)
    · have h := h.1 hz
      refine jLf.sub [some (.ref this), none, none, none] (jle_same (jle_none (jle_none (jle_same (jle_nil _))))) ?_
      exact tX11_sea_10 d hd  h
    · have h := h.2 hz
      refine jLf.bk hc 1 [] [some (.ref this), some (.int p1), some (.int p2), none] [.int p2] S rfl rfl rfl trivial ?_
      refine jLf.two hc _ rfl (gs := []) (p1 := p2 < 0) (p2 := ¬ (p2 < 0)) (c1 := (10, [some (.ref this), some (.int p1), some (.int p2), none], [], S, 0, 0)) (c2 := (7, [some (.ref this), some (.int p1), some (.int p2), none], [], S, 0, 0)) rfl trivial (fun hz => ?_) (fun hz => ?_)
      · have h := h.1 hz
        refine jLf.sub [some (.ref this), none, none, none] (jle_same (jle_none (jle_none (jle_same (jle_nil _))))) ?_
        exact tX11_sea_10 d hd  h
      · have h := h.2 hz
        refine jLf.bk hc 2 [] [some (.ref this), some (.int p1), some (.int p2), none] [.int 99, .int p2] S rfl rfl rfl trivial ?_
        refine jLf.two hc _ rfl (gs := []) (p1 := p2 ≤ 99) (p2 := ¬ (p2 ≤ 99)) (c1 := (14, [some (.ref this), some (.int p1), some (.int p2), none], [], S, 0, 0)) (c2 := (10, [some (.ref this), some (.int p1), some (.int p2), none], [], S, 0, 0)) rfl trivial (fun hz => ?_) (fun hz => ?_)
        · have h := h.1 hz
          obtain ⟨g4, g5, g6, g7, g8, g9, h⟩ := h
          refine jLf.bk hc 6 [jA S this 11, ¬ jR S this 0 = none, jA S (jr S this 0) 9, ¬ jR S (jr S this 0) 11 = none, jA S (jr S (jr S this 0) 11) 13, vp_in p1 (jZ S (jr S (jr S this 0) 11))] [some (.ref this), some (.int p1), some (.int p2), some (.int (jI S (jr S (jr S this 0) 11) p1.toNatClampNeg))] [] S rfl rfl rfl ⟨g4, g5, g6, g7, g8, g9⟩ ?_
          generalize ex10 : (jI S (jr S (jr S this 0) 11) p1.toNatClampNeg : Int32) = x10
          have h := h x10 ex10.symm
          refine jLf.bk hc 6 [jA S this 11, ¬ jR S this 0 = none, jA S (jr S this 0) 9, ¬ jR S (jr S this 0) 11 = none, jA S (jr S (jr S this 0) 11) 13, vp_in p1 (jZ S (jr S (jr S this 0) 11))] [some (.ref this), some (.int p1), some (.int p2), some (.int x10)] [] (uI S (jr S (jr S this 0) 11) p1.toNatClampNeg p2) rfl rfl rfl ⟨g4, g5, g6, g7, g8, g9⟩ ?_
          generalize eS11 : uI S (jr S (jr S this 0) 11) p1.toNatClampNeg p2 = S11
          have h := h S11 eS11.symm
          refine jLf.bk hc 2 [] [some (.ref this), some (.int p1), some (.int p2), some (.int x10)] [.int x10, .ref this] S11 rfl rfl rfl trivial ?_
          obtain ⟨g14, h⟩ := h
          refine jLf.inv hc _ rfl (gs := [jA S11 this 11, (([] : List Value).map fun v => v.category).sum ≤ 8, 0 ≤ 0, 0 ≤ 0]) (k := 138) (args := [.ref this, .int x10]) (r := []) (a := 0) (b := 0) rfl ⟨g14, Nat.le_of_ble_eq_true rfl, Nat.zero_le _, Nat.zero_le _⟩ (vX11_accept d (by omega) h) ?_
          rintro v S12 ⟨r13, rfl, h⟩
          show jLf (jCall jmt jbud d) jbud (fun j => (jmt j).rk) none mX11_sea (jqI Q) (29, [some (.ref this), some (.int p1), some (.int p2), some (.int x10)], [.int r13], S12, 0, 0)
          exact jLf.ret hc _ rfl (gs := [True]) (v := some (.int r13)) rfl trivial ⟨r13, rfl, h⟩
        · have h := h.2 hz
          refine jLf.sub [some (.ref this), none, none, none] (jle_same (jle_none (jle_none (jle_same (jle_nil _))))) ?_
          exact tX11_sea_10 d hd  h
def wX11_search  (this : Nat) (p1 : Int32) (p2 : Int32) (S : JS) (Q : Int64 → JS → Prop) : Prop :=
  (p1 < 0 → Q (-1) S) ∧ (¬ (p1 < 0) → (6 < p1 → Q (-1) S) ∧ (¬ (6 < p1) → (p2 < 0 → Q (-1) S) ∧ (¬ (p2 < 0) → (p2 ≤ 2 → jA S this 11 ∧ (¬ jR S this 7 = none ∧ (¬ jR S this 0 = none ∧ (jA S (jr S this 7) 4 ∧ (wX4_lookTimes (jr S this 7) (jr S this 0) p1 S (fun S4 => jA S4 this 11 ∧ (¬ jR S4 this 7 = none ∧ (jA S4 (jr S4 this 7) 4 ∧ ((¬ (lg_cmp (jJ S4 (jr S4 this 7) 2) (0 : Int64)) = 0 → (¬ p2 = 0 → (¬ p2 = 1 → Q ((jI S4 (jr S4 this 7) 3).toInt64) S4) ∧ (p2 = 1 → Q (jJ S4 (jr S4 this 7) 2) S4)) ∧ (p2 = 0 → Q (jJ S4 (jr S4 this 7) 1) S4)) ∧ ((lg_cmp (jJ S4 (jr S4 this 7) 2) (0 : Int64)) = 0 → Q (-1) S4)))))))))) ∧ (¬ (p2 ≤ 2) → Q (-1) S))))
set_option maxRecDepth 20000 in
theorem vX11_search {Q : Int64 → JS → Prop} (d : Nat) (hd : 4 ≤ d) {this : Nat} {p1 : Int32} {p2 : Int32} {S : JS} (h : wX11_search this p1 p2 S Q) : jCall jmt jbud d 130 [.ref this, .int p1, .int p2] S (jqL Q) := by
  obtain ⟨d, rfl⟩ : ∃ d2, d = d2 + 1 := ⟨d - 1, by omega⟩
  have hd : 3 ≤ d := by omega
  have hc := jCall_mono jmt jbud d
  unfold wX11_search at h
  refine ⟨Nat.le_of_ble_eq_true rfl, ?_⟩
  show jLf (jCall jmt jbud d) jbud (fun j => (jmt j).rk) none mX11_search (jqL Q) (0, [some (.ref this), some (.int p1), some (.int p2)], [], S, 0, 0)
  refine jLf.bk hc 1 [] [some (.ref this), some (.int p1), some (.int p2)] [.int p1] S rfl rfl rfl trivial ?_
  refine jLf.two hc _ rfl (gs := []) (p1 := p1 < 0) (p2 := ¬ (p1 < 0)) (c1 := (10, [some (.ref this), some (.int p1), some (.int p2)], [], S, 0, 0)) (c2 := (2, [some (.ref this), some (.int p1), some (.int p2)], [], S, 0, 0)) rfl trivial (fun hz => ?_) (fun hz => ?_)
  · have h := h.1 hz
    refine jLf.bk hc 1 [] [some (.ref this), some (.int p1), some (.int p2)] [.long (-1)] S rfl rfl rfl trivial ?_
    exact jLf.ret hc _ rfl (gs := [True]) (v := some (.long (-1))) rfl trivial ⟨(-1), rfl, h⟩
  · have h := h.2 hz
    refine jLf.bk hc 2 [] [some (.ref this), some (.int p1), some (.int p2)] [.int 6, .int p1] S rfl rfl rfl trivial ?_
    refine jLf.two hc _ rfl (gs := []) (p1 := 6 < p1) (p2 := ¬ (6 < p1)) (c1 := (10, [some (.ref this), some (.int p1), some (.int p2)], [], S, 0, 0)) (c2 := (5, [some (.ref this), some (.int p1), some (.int p2)], [], S, 0, 0)) rfl trivial (fun hz => ?_) (fun hz => ?_)
    · have h := h.1 hz
      refine jLf.bk hc 1 [] [some (.ref this), some (.int p1), some (.int p2)] [.long (-1)] S rfl rfl rfl trivial ?_
      exact jLf.ret hc _ rfl (gs := [True]) (v := some (.long (-1))) rfl trivial ⟨(-1), rfl, h⟩
    · have h := h.2 hz
      refine jLf.bk hc 1 [] [some (.ref this), some (.int p1), some (.int p2)] [.int p2] S rfl rfl rfl trivial ?_
      refine jLf.two hc _ rfl (gs := []) (p1 := p2 < 0) (p2 := ¬ (p2 < 0)) (c1 := (10, [some (.ref this), some (.int p1), some (.int p2)], [], S, 0, 0)) (c2 := (7, [some (.ref this), some (.int p1), some (.int p2)], [], S, 0, 0)) rfl trivial (fun hz => ?_) (fun hz => ?_)
      · have h := h.1 hz
        refine jLf.bk hc 1 [] [some (.ref this), some (.int p1), some (.int p2)] [.long (-1)] S rfl rfl rfl trivial ?_
        exact jLf.ret hc _ rfl (gs := [True]) (v := some (.long (-1))) rfl trivial ⟨(-1), rfl, h⟩
      · have h := h.2 hz
        refine jLf.bk hc 2 [] [some (.ref this), some (.int p1), some (.int p2)] [.int 2, .int p2] S rfl rfl rfl trivial ?_
        refine jLf.two hc _ rfl (gs := []) (p1 := p2 ≤ 2) (p2 := ¬ (p2 ≤ 2)) (c1 := (12, [some (.ref this), some (.int p1), some (.int p2)], [], S, 0, 0)) (c2 := (10, [some (.ref this), some (.int p1), some (.int p2)], [], S, 0, 0)) rfl trivial (fun hz => ?_) (fun hz => ?_)
        · have h := h.1 hz
          obtain ⟨g1, g2, g3, h⟩ := h
          refine jLf.bk hc 5 [jA S this 11, ¬ jR S this 7 = none, jA S this 11, ¬ jR S this 0 = none] [some (.ref this), some (.int p1), some (.int p2)] [.int p1, .ref (jr S this 0), .ref (jr S this 7)] S rfl rfl rfl ⟨g1, g2, g1, g3⟩ ?_
          obtain ⟨g6, h⟩ := h
          refine jLf.inv hc _ rfl (gs := [jA S (jr S this 7) 4, (([] : List Value).map fun v => v.category).sum ≤ 8, 0 ≤ 0, 0 ≤ 0]) (k := 28) (args := [.ref (jr S this 7), .ref (jr S this 0), .int p1]) (r := []) (a := 0) (b := 0) rfl ⟨g6, Nat.le_of_ble_eq_true rfl, Nat.zero_le _, Nat.zero_le _⟩ (vX4_lookTimes d (by omega) h) ?_
          rintro v S4 ⟨rfl, h⟩
          show jLf (jCall jmt jbud d) jbud (fun j => (jmt j).rk) none mX11_search (jqL Q) (18, [some (.ref this), some (.int p1), some (.int p2)], [], S4, 0, 0)
          obtain ⟨g7, g8, g9, h⟩ := h
          refine jLf.bk hc 5 [jA S4 this 11, ¬ jR S4 this 7 = none, jA S4 (jr S4 this 7) 4] [some (.ref this), some (.int p1), some (.int p2)] [.int (lg_cmp (jJ S4 (jr S4 this 7) 2) (0 : Int64))] S4 rfl rfl rfl ⟨g7, g8, g9⟩ ?_
          refine jLf.two hc _ rfl (gs := []) (p1 := ¬ (lg_cmp (jJ S4 (jr S4 this 7) 2) (0 : Int64)) = 0) (p2 := ¬ (¬ (lg_cmp (jJ S4 (jr S4 this 7) 2) (0 : Int64)) = 0)) (c1 := (26, [some (.ref this), some (.int p1), some (.int p2)], [], S4, 0, 0)) (c2 := (24, [some (.ref this), some (.int p1), some (.int p2)], [], S4, 0, 0)) rfl trivial (fun hz => ?_) (fun hz => ?_)
          · have h := h.1 hz
            refine jLf.bk hc 1 [] [some (.ref this), some (.int p1), some (.int p2)] [.int p2] S4 rfl rfl rfl trivial ?_
            refine jLf.two hc _ rfl (gs := []) (p1 := ¬ p2 = 0) (p2 := ¬ (¬ p2 = 0)) (c1 := (32, [some (.ref this), some (.int p1), some (.int p2)], [], S4, 0, 0)) (c2 := (28, [some (.ref this), some (.int p1), some (.int p2)], [], S4, 0, 0)) rfl trivial (fun hz => ?_) (fun hz => ?_)
            · have h := h.1 hz
              refine jLf.bk hc 2 [] [some (.ref this), some (.int p1), some (.int p2)] [.int 1, .int p2] S4 rfl rfl rfl trivial ?_
              refine jLf.two hc _ rfl (gs := []) (p1 := ¬ p2 = 1) (p2 := ¬ (¬ p2 = 1)) (c1 := (39, [some (.ref this), some (.int p1), some (.int p2)], [], S4, 0, 0)) (c2 := (35, [some (.ref this), some (.int p1), some (.int p2)], [], S4, 0, 0)) rfl trivial (fun hz => ?_) (fun hz => ?_)
              · have h := h.1 hz
                refine jLf.bk hc 4 [jA S4 this 11, ¬ jR S4 this 7 = none, jA S4 (jr S4 this 7) 4] [some (.ref this), some (.int p1), some (.int p2)] [.long ((jI S4 (jr S4 this 7) 3).toInt64)] S4 rfl rfl rfl ⟨g7, g8, g9⟩ ?_
                exact jLf.ret hc _ rfl (gs := [True]) (v := some (.long ((jI S4 (jr S4 this 7) 3).toInt64))) rfl trivial ⟨(jI S4 (jr S4 this 7) 3).toInt64, rfl, h⟩
              · have h := h.2 (Classical.not_not.mp hz)
                refine jLf.bk hc 3 [jA S4 this 11, ¬ jR S4 this 7 = none, jA S4 (jr S4 this 7) 4] [some (.ref this), some (.int p1), some (.int p2)] [.long (jJ S4 (jr S4 this 7) 2)] S4 rfl rfl rfl ⟨g7, g8, g9⟩ ?_
                refine jLf.one hc _ rfl (gs := []) (c := (43, [some (.ref this), some (.int p1), some (.int p2)], [.long (jJ S4 (jr S4 this 7) 2)], S4, 0, 0)) rfl trivial ?_
                exact jLf.ret hc _ rfl (gs := [True]) (v := some (.long (jJ S4 (jr S4 this 7) 2))) rfl trivial ⟨jJ S4 (jr S4 this 7) 2, rfl, h⟩
            · have h := h.2 (Classical.not_not.mp hz)
              refine jLf.bk hc 3 [jA S4 this 11, ¬ jR S4 this 7 = none, jA S4 (jr S4 this 7) 4] [some (.ref this), some (.int p1), some (.int p2)] [.long (jJ S4 (jr S4 this 7) 1)] S4 rfl rfl rfl ⟨g7, g8, g9⟩ ?_
              exact jLf.ret hc _ rfl (gs := [True]) (v := some (.long (jJ S4 (jr S4 this 7) 1))) rfl trivial ⟨jJ S4 (jr S4 this 7) 1, rfl, h⟩
          · have h := h.2 (Classical.not_not.mp hz)
            refine jLf.bk hc 1 [] [some (.ref this), some (.int p1), some (.int p2)] [.long (-1)] S4 rfl rfl rfl trivial ?_
            exact jLf.ret hc _ rfl (gs := [True]) (v := some (.long (-1))) rfl trivial ⟨(-1), rfl, h⟩
        · have h := h.2 hz
          refine jLf.bk hc 1 [] [some (.ref this), some (.int p1), some (.int p2)] [.long (-1)] S rfl rfl rfl trivial ?_
          exact jLf.ret hc _ rfl (gs := [True]) (v := some (.long (-1))) rfl trivial ⟨(-1), rfl, h⟩
def wX11_year_5   (l0 : Nat) (S : JS) (Q : Int32 → JS → Prop) : Prop :=
  jA S l0 11 ∧ (wX11_refuse l0 (-1) S (fun r2 S1 => Q r2 S1))
set_option maxRecDepth 20000 in
theorem tX11_year_5 {Q : Int32 → JS → Prop}  (d : Nat) (hd : 6 ≤ d) {l0 : Nat} {S : JS} (h : wX11_year_5 l0 S Q) : jLf (jCall jmt jbud d) jbud (fun j => (jmt j).rk) none mX11_year (jqI Q) (5, [some (.ref l0), none, none], [], S, 0, 0) := by
  have hc := jCall_mono jmt jbud d
  unfold wX11_year_5 at h
  refine jLf.bk hc 2 [] [some (.ref l0), none, none] [.int (-1), .ref l0] S rfl rfl rfl trivial ?_
  obtain ⟨g3, h⟩ := h
  refine jLf.inv hc _ rfl (gs := [jA S l0 11, (([] : List Value).map fun v => v.category).sum ≤ 8, 0 ≤ 0, 0 ≤ 0]) (k := 137) (args := [.ref l0, .int (-1)]) (r := []) (a := 0) (b := 0) rfl ⟨g3, Nat.le_of_ble_eq_true rfl, Nat.zero_le _, Nat.zero_le _⟩ (vX11_refuse d (by omega) h) ?_
  rintro v S1 ⟨r2, rfl, h⟩
  show jLf (jCall jmt jbud d) jbud (fun j => (jmt j).rk) none mX11_year (jqI Q) (8, [some (.ref l0), none, none], [.int r2], S1, 0, 0)
  exact jLf.ret hc _ rfl (gs := [True]) (v := some (.int r2)) rfl trivial ⟨r2, rfl, h⟩
def wX11_year  (this : Nat) (p1 : Int32) (p2 : Int32) (S : JS) (Q : Int32 → JS → Prop) : Prop :=
  (p1 < 0 → wX11_year_5 this S Q) ∧ (¬ (p1 < 0) → (p1 ≤ 1000000 → jA S this 11 ∧ (¬ jR S this 0 = none ∧ (jA S (jr S this 0) 9 ∧ (wX9_hasRock (jr S this 0) p2 S (fun r7 S6 => (¬ r7 = 0 → jA S6 this 11 ∧ (¬ jR S6 this 8 = none ∧ (¬ jR S6 this 0 = none ∧ (¬ jR S6 this 3 = none ∧ (jA S6 (jr S6 this 8) 10 ∧ (wX10_pass (jr S6 this 8) (jr S6 this 0) (jr S6 this 3) p1 p2 S6 (fun S13 => jA S13 this 11 ∧ (¬ jR S13 this 8 = none ∧ (jA S13 (jr S13 this 8) 10 ∧ (wX10_rocksHad (jr S13 this 8) S13 (fun r19 S18 => jA S18 this 11 ∧ (wX11_accept this r19 S18 (fun r22 S21 => Q r22 S21))))))))))))) ∧ (r7 = 0 → jA S6 this 11 ∧ (wX11_refuse this (-2) S6 (fun r25 S24 => Q r25 S24)))))))) ∧ (¬ (p1 ≤ 1000000) → wX11_year_5 this S Q))
set_option maxRecDepth 20000 in
theorem vX11_year {Q : Int32 → JS → Prop} (d : Nat) (hd : 7 ≤ d) {this : Nat} {p1 : Int32} {p2 : Int32} {S : JS} (h : wX11_year this p1 p2 S Q) : jCall jmt jbud d 131 [.ref this, .int p1, .int p2] S (jqI Q) := by
  obtain ⟨d, rfl⟩ : ∃ d2, d = d2 + 1 := ⟨d - 1, by omega⟩
  have hd : 6 ≤ d := by omega
  have hc := jCall_mono jmt jbud d
  unfold wX11_year at h
  refine ⟨Nat.le_of_ble_eq_true rfl, ?_⟩
  show jLf (jCall jmt jbud d) jbud (fun j => (jmt j).rk) none mX11_year (jqI Q) (0, [some (.ref this), some (.int p1), some (.int p2)], [], S, 0, 0)
  refine jLf.bk hc 1 [] [some (.ref this), some (.int p1), some (.int p2)] [.int p1] S rfl rfl rfl trivial ?_
  refine jLf.two hc _ rfl (gs := []) (p1 := p1 < 0) (p2 := ¬ (p1 < 0)) (c1 := (5, [some (.ref this), some (.int p1), some (.int p2)], [], S, 0, 0)) (c2 := (2, [some (.ref this), some (.int p1), some (.int p2)], [], S, 0, 0)) rfl trivial (fun hz => ?_) (fun hz => ?_)
  · have h := h.1 hz
    refine jLf.sub [some (.ref this), none, none] (jle_same (jle_none (jle_none (jle_nil _)))) ?_
    exact tX11_year_5 d hd  h
  · have h := h.2 hz
    refine jLf.bk hc 2 [] [some (.ref this), some (.int p1), some (.int p2)] [.int 1000000, .int p1] S rfl rfl rfl trivial ?_
    refine jLf.two hc _ rfl (gs := []) (p1 := p1 ≤ 1000000) (p2 := ¬ (p1 ≤ 1000000)) (c1 := (9, [some (.ref this), some (.int p1), some (.int p2)], [], S, 0, 0)) (c2 := (5, [some (.ref this), some (.int p1), some (.int p2)], [], S, 0, 0)) rfl trivial (fun hz => ?_) (fun hz => ?_)
    · have h := h.1 hz
      obtain ⟨g4, g5, h⟩ := h
      refine jLf.bk hc 3 [jA S this 11, ¬ jR S this 0 = none] [some (.ref this), some (.int p1), some (.int p2)] [.int p2, .ref (jr S this 0)] S rfl rfl rfl ⟨g4, g5⟩ ?_
      obtain ⟨g8, h⟩ := h
      refine jLf.inv hc _ rfl (gs := [jA S (jr S this 0) 9, (([] : List Value).map fun v => v.category).sum ≤ 8, 0 ≤ 0, 0 ≤ 0]) (k := 87) (args := [.ref (jr S this 0), .int p2]) (r := []) (a := 0) (b := 0) rfl ⟨g8, Nat.le_of_ble_eq_true rfl, Nat.zero_le _, Nat.zero_le _⟩ (vX9_hasRock d (by omega) h) ?_
      rintro v S6 ⟨r7, rfl, h⟩
      show jLf (jCall jmt jbud d) jbud (fun j => (jmt j).rk) none mX11_year (jqI Q) (13, [some (.ref this), some (.int p1), some (.int p2)], [.int r7], S6, 0, 0)
      refine jLf.two hc _ rfl (gs := []) (p1 := ¬ r7 = 0) (p2 := ¬ (¬ r7 = 0)) (c1 := (18, [some (.ref this), some (.int p1), some (.int p2)], [], S6, 0, 0)) (c2 := (14, [some (.ref this), some (.int p1), some (.int p2)], [], S6, 0, 0)) rfl trivial (fun hz => ?_) (fun hz => ?_)
      · have h := h.1 hz
        obtain ⟨g9, g10, g11, g12, h⟩ := h
        refine jLf.bk hc 8 [jA S6 this 11, ¬ jR S6 this 8 = none, jA S6 this 11, ¬ jR S6 this 0 = none, jA S6 this 11, ¬ jR S6 this 3 = none] [some (.ref this), some (.int p1), some (.int p2)] [.int p2, .int p1, .ref (jr S6 this 3), .ref (jr S6 this 0), .ref (jr S6 this 8)] S6 rfl rfl rfl ⟨g9, g10, g9, g11, g9, g12⟩ ?_
        obtain ⟨g15, h⟩ := h
        refine jLf.inv hc _ rfl (gs := [jA S6 (jr S6 this 8) 10, (([] : List Value).map fun v => v.category).sum ≤ 8, 0 ≤ 0, 0 ≤ 0]) (k := 96) (args := [.ref (jr S6 this 8), .ref (jr S6 this 0), .ref (jr S6 this 3), .int p1, .int p2]) (r := []) (a := 0) (b := 0) rfl ⟨g15, Nat.le_of_ble_eq_true rfl, Nat.zero_le _, Nat.zero_le _⟩ (vX10_pass d (by omega) h) ?_
        rintro v S13 ⟨rfl, h⟩
        show jLf (jCall jmt jbud d) jbud (fun j => (jmt j).rk) none mX11_year (jqI Q) (27, [some (.ref this), some (.int p1), some (.int p2)], [], S13, 0, 0)
        obtain ⟨g16, g17, h⟩ := h
        refine jLf.bk hc 3 [jA S13 this 11, ¬ jR S13 this 8 = none] [some (.ref this), some (.int p1), some (.int p2)] [.ref (jr S13 this 8), .ref this] S13 rfl rfl rfl ⟨g16, g17⟩ ?_
        obtain ⟨g20, h⟩ := h
        refine jLf.inv hc _ rfl (gs := [jA S13 (jr S13 this 8) 10, (([.ref this] : List Value).map fun v => v.category).sum ≤ 8, 0 ≤ 0, 0 ≤ 0]) (k := 99) (args := [.ref (jr S13 this 8)]) (r := [.ref this]) (a := 0) (b := 0) rfl ⟨g20, Nat.le_of_ble_eq_true rfl, Nat.zero_le _, Nat.zero_le _⟩ (vX10_rocksHad d (by omega) h) ?_
        rintro v S18 ⟨r19, rfl, h⟩
        show jLf (jCall jmt jbud d) jbud (fun j => (jmt j).rk) none mX11_year (jqI Q) (31, [some (.ref this), some (.int p1), some (.int p2)], [.int r19, .ref this], S18, 0, 0)
        obtain ⟨g23, h⟩ := h
        refine jLf.inv hc _ rfl (gs := [jA S18 this 11, (([] : List Value).map fun v => v.category).sum ≤ 8, 0 ≤ 0, 0 ≤ 0]) (k := 138) (args := [.ref this, .int r19]) (r := []) (a := 0) (b := 0) rfl ⟨g23, Nat.le_of_ble_eq_true rfl, Nat.zero_le _, Nat.zero_le _⟩ (vX11_accept d (by omega) h) ?_
        rintro v S21 ⟨r22, rfl, h⟩
        show jLf (jCall jmt jbud d) jbud (fun j => (jmt j).rk) none mX11_year (jqI Q) (32, [some (.ref this), some (.int p1), some (.int p2)], [.int r22], S21, 0, 0)
        exact jLf.ret hc _ rfl (gs := [True]) (v := some (.int r22)) rfl trivial ⟨r22, rfl, h⟩
      · have h := h.2 (Classical.not_not.mp hz)
        refine jLf.bk hc 2 [] [some (.ref this), some (.int p1), some (.int p2)] [.int (-2), .ref this] S6 rfl rfl rfl trivial ?_
        obtain ⟨g26, h⟩ := h
        refine jLf.inv hc _ rfl (gs := [jA S6 this 11, (([] : List Value).map fun v => v.category).sum ≤ 8, 0 ≤ 0, 0 ≤ 0]) (k := 137) (args := [.ref this, .int (-2)]) (r := []) (a := 0) (b := 0) rfl ⟨g26, Nat.le_of_ble_eq_true rfl, Nat.zero_le _, Nat.zero_le _⟩ (vX11_refuse d (by omega) h) ?_
        rintro v S24 ⟨r25, rfl, h⟩
        show jLf (jCall jmt jbud d) jbud (fun j => (jmt j).rk) none mX11_year (jqI Q) (17, [some (.ref this), some (.int p1), some (.int p2)], [.int r25], S24, 0, 0)
        exact jLf.ret hc _ rfl (gs := [True]) (v := some (.int r25)) rfl trivial ⟨r25, rfl, h⟩
    · have h := h.2 hz
      refine jLf.sub [some (.ref this), none, none] (jle_same (jle_none (jle_none (jle_nil _)))) ?_
      exact tX11_year_5 d hd  h
def wX11_drawn  (this : Nat) (p1 : Int32) (S : JS) (Q : Int32 → JS → Prop) : Prop :=
  jA S this 11 ∧ (¬ jR S this 8 = none ∧ (jA S (jr S this 8) 10 ∧ (((jI S (jr S this 8) 1) = 0 → Q (-1) S) ∧ (¬ (jI S (jr S this 8) 1) = 0 → wX11_isNight p1 S (fun r5 S4 => (r5 = 0 → Q (-1) S4) ∧ (¬ r5 = 0 → jA S4 this 11 ∧ (¬ jR S4 this 8 = none ∧ (jA S4 (jr S4 this 8) 10 ∧ (¬ jR S4 (jr S4 this 8) 0 = none ∧ (jA S4 (jr S4 (jr S4 this 8) 0) 13 ∧ (vp_in p1 (jZ S4 (jr S4 (jr S4 this 8) 0)) ∧ (Q (jI S4 (jr S4 (jr S4 this 8) 0) p1.toNatClampNeg) S4))))))))))))
set_option maxRecDepth 20000 in
theorem vX11_drawn {Q : Int32 → JS → Prop} (d : Nat) (hd : 2 ≤ d) {this : Nat} {p1 : Int32} {S : JS} (h : wX11_drawn this p1 S Q) : jCall jmt jbud d 132 [.ref this, .int p1] S (jqI Q) := by
  obtain ⟨d, rfl⟩ : ∃ d2, d = d2 + 1 := ⟨d - 1, by omega⟩
  have hd : 1 ≤ d := by omega
  have hc := jCall_mono jmt jbud d
  unfold wX11_drawn at h
  refine ⟨Nat.le_of_ble_eq_true rfl, ?_⟩
  show jLf (jCall jmt jbud d) jbud (fun j => (jmt j).rk) none mX11_drawn (jqI Q) (0, [some (.ref this), some (.int p1)], [], S, 0, 0)
  obtain ⟨g1, g2, g3, h⟩ := h
  refine jLf.bk hc 3 [jA S this 11, ¬ jR S this 8 = none, jA S (jr S this 8) 10] [some (.ref this), some (.int p1)] [.int (jI S (jr S this 8) 1)] S rfl rfl rfl ⟨g1, g2, g3⟩ ?_
  refine jLf.two hc _ rfl (gs := []) (p1 := (jI S (jr S this 8) 1) = 0) (p2 := ¬ ((jI S (jr S this 8) 1) = 0)) (c1 := (13, [some (.ref this), some (.int p1)], [], S, 0, 0)) (c2 := (4, [some (.ref this), some (.int p1)], [], S, 0, 0)) rfl trivial (fun hz => ?_) (fun hz => ?_)
  · have h := h.1 hz
    refine jLf.bk hc 1 [] [some (.ref this), some (.int p1)] [.int (-1)] S rfl rfl rfl trivial ?_
    exact jLf.ret hc _ rfl (gs := [True]) (v := some (.int (-1))) rfl trivial ⟨(-1), rfl, h⟩
  · have h := h.2 hz
    refine jLf.bk hc 1 [] [some (.ref this), some (.int p1)] [.int p1] S rfl rfl rfl trivial ?_
    refine jLf.inv hc _ rfl (gs := [1 ≤ ([.int p1] : List Value).length, (([] : List Value).map fun v => v.category).sum ≤ 8, 0 ≤ 0, 0 ≤ 0]) (k := 143) (args := [.int p1]) (r := []) (a := 0) (b := 0) rfl ⟨Nat.le_of_ble_eq_true rfl, Nat.le_of_ble_eq_true rfl, Nat.zero_le _, Nat.zero_le _⟩ (vX11_isNight d (by omega) h) ?_
    rintro v S4 ⟨r5, rfl, h⟩
    show jLf (jCall jmt jbud d) jbud (fun j => (jmt j).rk) none mX11_drawn (jqI Q) (6, [some (.ref this), some (.int p1)], [.int r5], S4, 0, 0)
    refine jLf.two hc _ rfl (gs := []) (p1 := r5 = 0) (p2 := ¬ (r5 = 0)) (c1 := (13, [some (.ref this), some (.int p1)], [], S4, 0, 0)) (c2 := (7, [some (.ref this), some (.int p1)], [], S4, 0, 0)) rfl trivial (fun hz => ?_) (fun hz => ?_)
    · have h := h.1 hz
      refine jLf.bk hc 1 [] [some (.ref this), some (.int p1)] [.int (-1)] S4 rfl rfl rfl trivial ?_
      exact jLf.ret hc _ rfl (gs := [True]) (v := some (.int (-1))) rfl trivial ⟨(-1), rfl, h⟩
    · have h := h.2 hz
      obtain ⟨g6, g7, g8, g9, g10, g11, h⟩ := h
      refine jLf.bk hc 5 [jA S4 this 11, ¬ jR S4 this 8 = none, jA S4 (jr S4 this 8) 10, ¬ jR S4 (jr S4 this 8) 0 = none, jA S4 (jr S4 (jr S4 this 8) 0) 13, vp_in p1 (jZ S4 (jr S4 (jr S4 this 8) 0))] [some (.ref this), some (.int p1)] [.int (jI S4 (jr S4 (jr S4 this 8) 0) p1.toNatClampNeg)] S4 rfl rfl rfl ⟨g6, g7, g8, g9, g10, g11⟩ ?_
      refine jLf.one hc _ rfl (gs := []) (c := (14, [some (.ref this), some (.int p1)], [.int (jI S4 (jr S4 (jr S4 this 8) 0) p1.toNatClampNeg)], S4, 0, 0)) rfl trivial ?_
      exact jLf.ret hc _ rfl (gs := [True]) (v := some (.int (jI S4 (jr S4 (jr S4 this 8) 0) p1.toNatClampNeg))) rfl trivial ⟨jI S4 (jr S4 (jr S4 this 8) 0) p1.toNatClampNeg, rfl, h⟩
def wX11_image_5   (l0 : Nat) (S : JS) (Q : Int32 → JS → Prop) : Prop :=
  jA S l0 11 ∧ (wX11_refuse l0 (-1) S (fun r2 S1 => Q r2 S1))
set_option maxRecDepth 20000 in
theorem tX11_image_5 {Q : Int32 → JS → Prop}  (d : Nat) (hd : 4 ≤ d) {l0 : Nat} {S : JS} (h : wX11_image_5 l0 S Q) : jLf (jCall jmt jbud d) jbud (fun j => (jmt j).rk) none mX11_image (jqI Q) (5, [some (.ref l0), none, none], [], S, 12, 194) := by
  have hc := jCall_mono jmt jbud d
  unfold wX11_image_5 at h
  refine jLf.bk hc 2 [] [some (.ref l0), none, none] [.int (-1), .ref l0] S rfl rfl rfl trivial ?_
  obtain ⟨g3, h⟩ := h
  refine jLf.inv hc _ rfl (gs := [jA S l0 11, (([] : List Value).map fun v => v.category).sum ≤ 8, 0 ≤ 12, 0 ≤ 194]) (k := 137) (args := [.ref l0, .int (-1)]) (r := []) (a := 12) (b := 194) rfl ⟨g3, Nat.le_of_ble_eq_true rfl, Nat.zero_le _, Nat.zero_le _⟩ (vX11_refuse d (by omega) h) ?_
  rintro v S1 ⟨r2, rfl, h⟩
  show jLf (jCall jmt jbud d) jbud (fun j => (jmt j).rk) none mX11_image (jqI Q) (8, [some (.ref l0), none, none], [.int r2], S1, 12, 194)
  exact jLf.ret hc _ rfl (gs := [True]) (v := some (.int r2)) rfl trivial ⟨r2, rfl, h⟩
def wX11_image_25   (l0 : Nat) (l2 : Nat) (S : JS) (Q : Int32 → JS → Prop) : Prop :=
  jA S l0 11 ∧ (¬ jR S l0 0 = none ∧ (jA S l2 9 ∧ (wX9_become l2 (jr S l0 0) S (fun S20 => jA S20 l0 11 ∧ (wX11_accept l0 0 S20 (fun r24 S23 => Q r24 S23))))))
set_option maxRecDepth 20000 in
theorem tX11_image_25 {Q : Int32 → JS → Prop}  (d : Nat) (hd : 4 ≤ d) {l0 : Nat} {l2 : Nat} {S : JS} (h : wX11_image_25 l0 l2 S Q) : jLf (jCall jmt jbud d) jbud (fun j => (jmt j).rk) none mX11_image (jqI Q) (25, [some (.ref l0), none, some (.ref l2)], [], S, 0, 0) := by
  have hc := jCall_mono jmt jbud d
  unfold wX11_image_25 at h
  obtain ⟨g18, g19, h⟩ := h
  refine jLf.bk hc 3 [jA S l0 11, ¬ jR S l0 0 = none] [some (.ref l0), none, some (.ref l2)] [.ref (jr S l0 0), .ref l2] S rfl rfl rfl ⟨g18, g19⟩ ?_
  obtain ⟨g22, h⟩ := h
  refine jLf.inv hc _ rfl (gs := [jA S l2 9, (([] : List Value).map fun v => v.category).sum ≤ 8, 0 ≤ 0, 0 ≤ 0]) (k := 94) (args := [.ref l2, .ref (jr S l0 0)]) (r := []) (a := 0) (b := 0) rfl ⟨g22, Nat.le_of_ble_eq_true rfl, Nat.zero_le _, Nat.zero_le _⟩ (vX9_become d (by omega) h) ?_
  rintro v S20 ⟨rfl, h⟩
  show jLf (jCall jmt jbud d) jbud (fun j => (jmt j).rk) none mX11_image (jqI Q) (29, [some (.ref l0), none, some (.ref l2)], [], S20, 0, 0)
  refine jLf.bk hc 2 [] [some (.ref l0), none, some (.ref l2)] [.int 0, .ref l0] S20 rfl rfl rfl trivial ?_
  obtain ⟨g25, h⟩ := h
  refine jLf.inv hc _ rfl (gs := [jA S20 l0 11, (([] : List Value).map fun v => v.category).sum ≤ 8, 0 ≤ 0, 0 ≤ 0]) (k := 138) (args := [.ref l0, .int 0]) (r := []) (a := 0) (b := 0) rfl ⟨g25, Nat.le_of_ble_eq_true rfl, Nat.zero_le _, Nat.zero_le _⟩ (vX11_accept d (by omega) h) ?_
  rintro v S23 ⟨r24, rfl, h⟩
  show jLf (jCall jmt jbud d) jbud (fun j => (jmt j).rk) none mX11_image (jqI Q) (32, [some (.ref l0), none, some (.ref l2)], [.int r24], S23, 0, 0)
  exact jLf.ret hc _ rfl (gs := [True]) (v := some (.int r24)) rfl trivial ⟨r24, rfl, h⟩
def wX11_image_25v2   (l0 : Nat) (l2 : Nat) (S : JS) (Q : Int32 → JS → Prop) : Prop :=
  jA S l0 11 ∧ (¬ jR S l0 0 = none ∧ (jA S l2 9 ∧ (wX9_become l2 (jr S l0 0) S (fun S28 => jA S28 l0 11 ∧ (wX11_accept l0 0 S28 (fun r32 S31 => Q r32 S31))))))
set_option maxRecDepth 20000 in
theorem tX11_image_25v2 {Q : Int32 → JS → Prop}  (d : Nat) (hd : 4 ≤ d) {l0 : Nat} {l2 : Nat} {S : JS} (h : wX11_image_25v2 l0 l2 S Q) : jLf (jCall jmt jbud d) jbud (fun j => (jmt j).rk) none mX11_image (jqI Q) (25, [some (.ref l0), none, some (.ref l2)], [], S, 12, 194) := by
  have hc := jCall_mono jmt jbud d
  unfold wX11_image_25v2 at h
  obtain ⟨g26, g27, h⟩ := h
  refine jLf.bk hc 3 [jA S l0 11, ¬ jR S l0 0 = none] [some (.ref l0), none, some (.ref l2)] [.ref (jr S l0 0), .ref l2] S rfl rfl rfl ⟨g26, g27⟩ ?_
  obtain ⟨g30, h⟩ := h
  refine jLf.inv hc _ rfl (gs := [jA S l2 9, (([] : List Value).map fun v => v.category).sum ≤ 8, 0 ≤ 12, 0 ≤ 194]) (k := 94) (args := [.ref l2, .ref (jr S l0 0)]) (r := []) (a := 12) (b := 194) rfl ⟨g30, Nat.le_of_ble_eq_true rfl, Nat.zero_le _, Nat.zero_le _⟩ (vX9_become d (by omega) h) ?_
  rintro v S28 ⟨rfl, h⟩
  show jLf (jCall jmt jbud d) jbud (fun j => (jmt j).rk) none mX11_image (jqI Q) (29, [some (.ref l0), none, some (.ref l2)], [], S28, 12, 194)
  refine jLf.bk hc 2 [] [some (.ref l0), none, some (.ref l2)] [.int 0, .ref l0] S28 rfl rfl rfl trivial ?_
  obtain ⟨g33, h⟩ := h
  refine jLf.inv hc _ rfl (gs := [jA S28 l0 11, (([] : List Value).map fun v => v.category).sum ≤ 8, 0 ≤ 12, 0 ≤ 194]) (k := 138) (args := [.ref l0, .int 0]) (r := []) (a := 12) (b := 194) rfl ⟨g33, Nat.le_of_ble_eq_true rfl, Nat.zero_le _, Nat.zero_le _⟩ (vX11_accept d (by omega) h) ?_
  rintro v S31 ⟨r32, rfl, h⟩
  show jLf (jCall jmt jbud d) jbud (fun j => (jmt j).rk) none mX11_image (jqI Q) (32, [some (.ref l0), none, some (.ref l2)], [.int r32], S31, 12, 194)
  exact jLf.ret hc _ rfl (gs := [True]) (v := some (.int r32)) rfl trivial ⟨r32, rfl, h⟩
def wX11_image  (this : Nat) (p1 : Int32) (S : JS) (Q : Int32 → JS → Prop) : Prop :=
  (p1 < 0 → wX11_image_5 this S Q) ∧ (¬ (p1 < 0) → (p1 < 2 → jA S this 11 ∧ (¬ jR S this 1 = none ∧ (jA S (jr S this 1) 17 ∧ (vp_in p1 (jZ S (jr S this 1)) ∧ ((jR S (jr S this 1) p1.toNatClampNeg = none → jN S < 1000000 ∧ (∀ h8 : Nat, h8 = jN S → (∀ S6 : JS, S6 = uNew S 9 12 → (jA S6 h8 9 ∧ (wX9_init h8 S6 (fun S9 => jA S9 this 11 ∧ (¬ jR S9 this 1 = none ∧ (jA S9 (jr S9 this 1) 17 ∧ (jA S9 h8 9 ∧ (vp_in p1 (jZ S9 (jr S9 this 1)) ∧ (∀ S17 : JS, S17 = uR S9 (jr S9 this 1) p1.toNatClampNeg (some h8) → (wX11_image_25 this h8 S17 Q)))))))))))) ∧ (¬ jR S (jr S this 1) p1.toNatClampNeg = none → wX11_image_25v2 this (jr S (jr S this 1) p1.toNatClampNeg) S Q)))))) ∧ (¬ (p1 < 2) → wX11_image_5 this S Q))
set_option maxRecDepth 20000 in
theorem vX11_image {Q : Int32 → JS → Prop} (d : Nat) (hd : 5 ≤ d) {this : Nat} {p1 : Int32} {S : JS} (h : wX11_image this p1 S Q) : jCall jmt jbud d 133 [.ref this, .int p1] S (jqI Q) := by
  obtain ⟨d, rfl⟩ : ∃ d2, d = d2 + 1 := ⟨d - 1, by omega⟩
  have hd : 4 ≤ d := by omega
  have hc := jCall_mono jmt jbud d
  unfold wX11_image at h
  refine ⟨Nat.le_of_ble_eq_true rfl, ?_⟩
  show jLf (jCall jmt jbud d) jbud (fun j => (jmt j).rk) none mX11_image (jqI Q) (0, [some (.ref this), some (.int p1), none], [], S, 12, 194)
  refine jLf.bk hc 1 [] [some (.ref this), some (.int p1), none] [.int p1] S rfl rfl rfl trivial ?_
  refine jLf.two hc _ rfl (gs := []) (p1 := p1 < 0) (p2 := ¬ (p1 < 0)) (c1 := (5, [some (.ref this), some (.int p1), none], [], S, 12, 194)) (c2 := (2, [some (.ref this), some (.int p1), none], [], S, 12, 194)) rfl trivial (fun hz => ?_) (fun hz => ?_)
  · have h := h.1 hz
    refine jLf.sub [some (.ref this), none, none] (jle_same (jle_none (jle_same (jle_nil _)))) ?_
    exact tX11_image_5 d hd  h
  · have h := h.2 hz
    refine jLf.bk hc 2 [] [some (.ref this), some (.int p1), none] [.int 2, .int p1] S rfl rfl rfl trivial ?_
    refine jLf.two hc _ rfl (gs := []) (p1 := p1 < 2) (p2 := ¬ (p1 < 2)) (c1 := (9, [some (.ref this), some (.int p1), none], [], S, 12, 194)) (c2 := (5, [some (.ref this), some (.int p1), none], [], S, 12, 194)) rfl trivial (fun hz => ?_) (fun hz => ?_)
    · have h := h.1 hz
      obtain ⟨g4, g5, h⟩ := h
      refine jLf.bk hc 3 [jA S this 11, ¬ jR S this 1 = none] [some (.ref this), some (.int p1), none] [.int p1, .ref (jr S this 1)] S rfl rfl rfl ⟨g4, g5⟩ ?_
      obtain ⟨ga, gb, h⟩ := h
      refine jLf.two hc _ rfl (gs := [jA S (jr S this 1) 17, vp_in p1 (jZ S (jr S this 1))]) (p1 := jR S (jr S this 1) p1.toNatClampNeg = none) (p2 := ¬ jR S (jr S this 1) p1.toNatClampNeg = none) (c1 := (13, [some (.ref this), some (.int p1), none], [.null], S, 12, 194)) (c2 := (13, [some (.ref this), some (.int p1), none], [.ref (jr S (jr S this 1) p1.toNatClampNeg)], S, 12, 194)) rfl ⟨ga, gb⟩ (fun hz => ?_) (fun hz => ?_)
      · have h := h.1 hz
        refine jLf.bk hc 2 [] [some (.ref this), some (.int p1), some (.null)] [.null] S rfl rfl rfl trivial ?_
        refine jLf.one hc _ rfl (gs := []) (c := (16, [some (.ref this), some (.int p1), some (.null)], [], S, 12, 194)) rfl trivial ?_
        obtain ⟨g7, h⟩ := h
        refine jLf.one hc _ rfl (gs := [1 ≤ 12, 12 ≤ 194, jN S < 1000000]) (c := (17, [some (.ref this), some (.int p1), some (.null)], [.ref (jN S)], (uNew S 9 12), 11, 182)) rfl ⟨Nat.le_of_ble_eq_true rfl, Nat.le_of_ble_eq_true rfl, g7⟩ ?_
        generalize eS6 : uNew S 9 12 = S6
        generalize eh8 : jN S = h8
        have h := h h8 eh8.symm S6 eS6.symm
        refine jLf.bk hc 1 [(.ref h8 : Value).category = 1] [some (.ref this), some (.int p1), some (.null)] [.ref h8, .ref h8] S6 rfl rfl rfl rfl ?_
        obtain ⟨g11, h⟩ := h
        refine jLf.inv hc _ rfl (gs := [jA S6 h8 9, (([.ref h8] : List Value).map fun v => v.category).sum ≤ 8, 11 ≤ 11, 182 ≤ 182]) (k := 86) (args := [.ref h8]) (r := [.ref h8]) (a := 0) (b := 0) rfl ⟨g11, Nat.le_of_ble_eq_true rfl, Nat.le_of_ble_eq_true rfl, Nat.le_of_ble_eq_true rfl⟩ (vX9_init d (by omega) h) ?_
        rintro v S9 ⟨rfl, h⟩
        show jLf (jCall jmt jbud d) jbud (fun j => (jmt j).rk) none mX11_image (jqI Q) (19, [some (.ref this), some (.int p1), some (.null)], [.ref h8], S9, 0, 0)
        obtain ⟨g12, g13, g14, g15, g16, h⟩ := h
        refine jLf.bk hc 6 [jA S9 this 11, ¬ jR S9 this 1 = none, jA S9 (jr S9 this 1) 17, jA S9 h8 9, vp_in p1 (jZ S9 (jr S9 this 1))] [some (.ref this), some (.int p1), some (.ref h8)] [] (uR S9 (jr S9 this 1) p1.toNatClampNeg (some h8)) rfl rfl rfl ⟨g12, g13, g14, g15, g16⟩ ?_
        generalize eS17 : uR S9 (jr S9 this 1) p1.toNatClampNeg (some h8) = S17
        have h := h S17 eS17.symm
        refine jLf.sub [some (.ref this), none, some (.ref h8)] (jle_same (jle_none (jle_same (jle_nil _)))) ?_
        exact tX11_image_25 d hd  h
      · have h := h.2 hz
        refine jLf.bk hc 2 [] [some (.ref this), some (.int p1), some (.ref (jr S (jr S this 1) p1.toNatClampNeg))] [.ref (jr S (jr S this 1) p1.toNatClampNeg)] S rfl rfl rfl trivial ?_
        refine jLf.one hc _ rfl (gs := []) (c := (25, [some (.ref this), some (.int p1), some (.ref (jr S (jr S this 1) p1.toNatClampNeg))], [], S, 12, 194)) rfl trivial ?_
        refine jLf.sub [some (.ref this), none, some (.ref (jr S (jr S this 1) p1.toNatClampNeg))] (jle_same (jle_none (jle_same (jle_nil _)))) ?_
        exact tX11_image_25v2 d hd  h
    · have h := h.2 hz
      refine jLf.sub [some (.ref this), none, none] (jle_same (jle_none (jle_same (jle_nil _)))) ?_
      exact tX11_image_5 d hd  h
def wX11_back_5   (l0 : Nat) (S : JS) (Q : Int32 → JS → Prop) : Prop :=
  jA S l0 11 ∧ (wX11_refuse l0 (-1) S (fun r2 S1 => Q r2 S1))
set_option maxRecDepth 20000 in
theorem tX11_back_5 {Q : Int32 → JS → Prop}  (d : Nat) (hd : 4 ≤ d) {l0 : Nat} {S : JS} (h : wX11_back_5 l0 S Q) : jLf (jCall jmt jbud d) jbud (fun j => (jmt j).rk) none mX11_back (jqI Q) (5, [some (.ref l0), none, none], [], S, 0, 0) := by
  have hc := jCall_mono jmt jbud d
  unfold wX11_back_5 at h
  refine jLf.bk hc 2 [] [some (.ref l0), none, none] [.int (-1), .ref l0] S rfl rfl rfl trivial ?_
  obtain ⟨g3, h⟩ := h
  refine jLf.inv hc _ rfl (gs := [jA S l0 11, (([] : List Value).map fun v => v.category).sum ≤ 8, 0 ≤ 0, 0 ≤ 0]) (k := 137) (args := [.ref l0, .int (-1)]) (r := []) (a := 0) (b := 0) rfl ⟨g3, Nat.le_of_ble_eq_true rfl, Nat.zero_le _, Nat.zero_le _⟩ (vX11_refuse d (by omega) h) ?_
  rintro v S1 ⟨r2, rfl, h⟩
  show jLf (jCall jmt jbud d) jbud (fun j => (jmt j).rk) none mX11_back (jqI Q) (8, [some (.ref l0), none, none], [.int r2], S1, 0, 0)
  exact jLf.ret hc _ rfl (gs := [True]) (v := some (.int r2)) rfl trivial ⟨r2, rfl, h⟩
def wX11_back  (this : Nat) (p1 : Int32) (S : JS) (Q : Int32 → JS → Prop) : Prop :=
  (p1 < 0 → wX11_back_5 this S Q) ∧ (¬ (p1 < 0) → (p1 < 2 → jA S this 11 ∧ (¬ jR S this 1 = none ∧ (jA S (jr S this 1) 17 ∧ (vp_in p1 (jZ S (jr S this 1)) ∧ ((jR S (jr S this 1) p1.toNatClampNeg = none → wX11_refuse this (-2) S (fun r7 S6 => Q r7 S6)) ∧ (¬ jR S (jr S this 1) p1.toNatClampNeg = none → ¬ jR S this 0 = none ∧ (jA S (jr S this 0) 9 ∧ (wX9_become (jr S this 0) (jr S (jr S this 1) p1.toNatClampNeg) S (fun S9 => jA S9 this 11 ∧ (¬ jR S9 this 3 = none ∧ (jA S9 (jr S9 this 3) 1 ∧ (wX1_forget (jr S9 this 3) 0 59 S9 (fun S14 => jA S14 this 11 ∧ (wX11_accept this 0 S14 (fun r18 S17 => Q r18 S17))))))))))))))) ∧ (¬ (p1 < 2) → wX11_back_5 this S Q))
set_option maxRecDepth 20000 in
theorem vX11_back {Q : Int32 → JS → Prop} (d : Nat) (hd : 5 ≤ d) {this : Nat} {p1 : Int32} {S : JS} (h : wX11_back this p1 S Q) : jCall jmt jbud d 134 [.ref this, .int p1] S (jqI Q) := by
  obtain ⟨d, rfl⟩ : ∃ d2, d = d2 + 1 := ⟨d - 1, by omega⟩
  have hd : 4 ≤ d := by omega
  have hc := jCall_mono jmt jbud d
  unfold wX11_back at h
  refine ⟨Nat.le_of_ble_eq_true rfl, ?_⟩
  show jLf (jCall jmt jbud d) jbud (fun j => (jmt j).rk) none mX11_back (jqI Q) (0, [some (.ref this), some (.int p1), none], [], S, 0, 0)
  refine jLf.bk hc 1 [] [some (.ref this), some (.int p1), none] [.int p1] S rfl rfl rfl trivial ?_
  refine jLf.two hc _ rfl (gs := []) (p1 := p1 < 0) (p2 := ¬ (p1 < 0)) (c1 := (5, [some (.ref this), some (.int p1), none], [], S, 0, 0)) (c2 := (2, [some (.ref this), some (.int p1), none], [], S, 0, 0)) rfl trivial (fun hz => ?_) (fun hz => ?_)
  · have h := h.1 hz
    refine jLf.sub [some (.ref this), none, none] (jle_same (jle_none (jle_same (jle_nil _)))) ?_
    exact tX11_back_5 d hd  h
  · have h := h.2 hz
    refine jLf.bk hc 2 [] [some (.ref this), some (.int p1), none] [.int 2, .int p1] S rfl rfl rfl trivial ?_
    refine jLf.two hc _ rfl (gs := []) (p1 := p1 < 2) (p2 := ¬ (p1 < 2)) (c1 := (9, [some (.ref this), some (.int p1), none], [], S, 0, 0)) (c2 := (5, [some (.ref this), some (.int p1), none], [], S, 0, 0)) rfl trivial (fun hz => ?_) (fun hz => ?_)
    · have h := h.1 hz
      obtain ⟨g4, g5, h⟩ := h
      refine jLf.bk hc 3 [jA S this 11, ¬ jR S this 1 = none] [some (.ref this), some (.int p1), none] [.int p1, .ref (jr S this 1)] S rfl rfl rfl ⟨g4, g5⟩ ?_
      obtain ⟨ga, gb, h⟩ := h
      refine jLf.two hc _ rfl (gs := [jA S (jr S this 1) 17, vp_in p1 (jZ S (jr S this 1))]) (p1 := jR S (jr S this 1) p1.toNatClampNeg = none) (p2 := ¬ jR S (jr S this 1) p1.toNatClampNeg = none) (c1 := (13, [some (.ref this), some (.int p1), none], [.null], S, 0, 0)) (c2 := (13, [some (.ref this), some (.int p1), none], [.ref (jr S (jr S this 1) p1.toNatClampNeg)], S, 0, 0)) rfl ⟨ga, gb⟩ (fun hz => ?_) (fun hz => ?_)
      · have h := h.1 hz
        refine jLf.bk hc 2 [] [some (.ref this), some (.int p1), some (.null)] [.null] S rfl rfl rfl trivial ?_
        refine jLf.one hc _ rfl (gs := []) (c := (16, [some (.ref this), some (.int p1), some (.null)], [], S, 0, 0)) rfl trivial ?_
        refine jLf.bk hc 2 [] [some (.ref this), some (.int p1), some (.null)] [.int (-2), .ref this] S rfl rfl rfl trivial ?_
        refine jLf.inv hc _ rfl (gs := [jA S this 11, (([] : List Value).map fun v => v.category).sum ≤ 8, 0 ≤ 0, 0 ≤ 0]) (k := 137) (args := [.ref this, .int (-2)]) (r := []) (a := 0) (b := 0) rfl ⟨g4, Nat.le_of_ble_eq_true rfl, Nat.zero_le _, Nat.zero_le _⟩ (vX11_refuse d (by omega) h) ?_
        rintro v S6 ⟨r7, rfl, h⟩
        show jLf (jCall jmt jbud d) jbud (fun j => (jmt j).rk) none mX11_back (jqI Q) (19, [some (.ref this), some (.int p1), some (.null)], [.int r7], S6, 0, 0)
        exact jLf.ret hc _ rfl (gs := [True]) (v := some (.int r7)) rfl trivial ⟨r7, rfl, h⟩
      · have h := h.2 hz
        refine jLf.bk hc 2 [] [some (.ref this), some (.int p1), some (.ref (jr S (jr S this 1) p1.toNatClampNeg))] [.ref (jr S (jr S this 1) p1.toNatClampNeg)] S rfl rfl rfl trivial ?_
        refine jLf.one hc _ rfl (gs := []) (c := (20, [some (.ref this), some (.int p1), some (.ref (jr S (jr S this 1) p1.toNatClampNeg))], [], S, 0, 0)) rfl trivial ?_
        obtain ⟨g8, h⟩ := h
        refine jLf.bk hc 3 [jA S this 11, ¬ jR S this 0 = none] [some (.ref this), some (.int p1), some (.ref (jr S (jr S this 1) p1.toNatClampNeg))] [.ref (jr S (jr S this 1) p1.toNatClampNeg), .ref (jr S this 0)] S rfl rfl rfl ⟨g4, g8⟩ ?_
        obtain ⟨g11, h⟩ := h
        refine jLf.inv hc _ rfl (gs := [jA S (jr S this 0) 9, (([] : List Value).map fun v => v.category).sum ≤ 8, 0 ≤ 0, 0 ≤ 0]) (k := 94) (args := [.ref (jr S this 0), .ref (jr S (jr S this 1) p1.toNatClampNeg)]) (r := []) (a := 0) (b := 0) rfl ⟨g11, Nat.le_of_ble_eq_true rfl, Nat.zero_le _, Nat.zero_le _⟩ (vX9_become d (by omega) h) ?_
        rintro v S9 ⟨rfl, h⟩
        show jLf (jCall jmt jbud d) jbud (fun j => (jmt j).rk) none mX11_back (jqI Q) (24, [some (.ref this), some (.int p1), some (.ref (jr S (jr S this 1) p1.toNatClampNeg))], [], S9, 0, 0)
        obtain ⟨g12, g13, h⟩ := h
        refine jLf.bk hc 4 [jA S9 this 11, ¬ jR S9 this 3 = none] [some (.ref this), some (.int p1), some (.ref (jr S (jr S this 1) p1.toNatClampNeg))] [.int 59, .int 0, .ref (jr S9 this 3)] S9 rfl rfl rfl ⟨g12, g13⟩ ?_
        obtain ⟨g16, h⟩ := h
        refine jLf.inv hc _ rfl (gs := [jA S9 (jr S9 this 3) 1, (([] : List Value).map fun v => v.category).sum ≤ 8, 0 ≤ 0, 0 ≤ 0]) (k := 9) (args := [.ref (jr S9 this 3), .int 0, .int 59]) (r := []) (a := 0) (b := 0) rfl ⟨g16, Nat.le_of_ble_eq_true rfl, Nat.zero_le _, Nat.zero_le _⟩ (vX1_forget d (by omega) h) ?_
        rintro v S14 ⟨rfl, h⟩
        show jLf (jCall jmt jbud d) jbud (fun j => (jmt j).rk) none mX11_back (jqI Q) (29, [some (.ref this), some (.int p1), some (.ref (jr S (jr S this 1) p1.toNatClampNeg))], [], S14, 0, 0)
        refine jLf.bk hc 2 [] [some (.ref this), some (.int p1), some (.ref (jr S (jr S this 1) p1.toNatClampNeg))] [.int 0, .ref this] S14 rfl rfl rfl trivial ?_
        obtain ⟨g19, h⟩ := h
        refine jLf.inv hc _ rfl (gs := [jA S14 this 11, (([] : List Value).map fun v => v.category).sum ≤ 8, 0 ≤ 0, 0 ≤ 0]) (k := 138) (args := [.ref this, .int 0]) (r := []) (a := 0) (b := 0) rfl ⟨g19, Nat.le_of_ble_eq_true rfl, Nat.zero_le _, Nat.zero_le _⟩ (vX11_accept d (by omega) h) ?_
        rintro v S17 ⟨r18, rfl, h⟩
        show jLf (jCall jmt jbud d) jbud (fun j => (jmt j).rk) none mX11_back (jqI Q) (32, [some (.ref this), some (.int p1), some (.ref (jr S (jr S this 1) p1.toNatClampNeg))], [.int r18], S17, 0, 0)
        exact jLf.ret hc _ rfl (gs := [True]) (v := some (.int r18)) rfl trivial ⟨r18, rfl, h⟩
    · have h := h.2 hz
      refine jLf.sub [some (.ref this), none, none] (jle_same (jle_none (jle_same (jle_nil _)))) ?_
      exact tX11_back_5 d hd  h
def wJ13_bitCount_95d88  (p1 : Int64) (S : JS) (Q : Int32 → JS → Prop) : Prop :=
  ∀ x1 : Int64, x1 = (p1 - ((jlushr p1 (1 : Int32)) &&& (6148914691236517205 : Int64))) → (∀ x2 : Int64, x2 = ((x1 &&& (3689348814741910323 : Int64)) + ((jlushr x1 (2 : Int32)) &&& (3689348814741910323 : Int64))) → (∀ x3 : Int64, x3 = ((x2 + (jlushr x2 (4 : Int32))) &&& (1085102592571150095 : Int64)) → (∀ x4 : Int64, x4 = (x3 + (jlushr x3 (8 : Int32))) → (∀ x5 : Int64, x5 = (x4 + (jlushr x4 (16 : Int32))) → (∀ x6 : Int64, x6 = (x5 + (jlushr x5 (32 : Int32))) → (Q ((x6.toInt32) &&& (127 : Int32)) S))))))
set_option maxRecDepth 20000 in
theorem vJ13_bitCount_95d88 {Q : Int32 → JS → Prop} (d : Nat) (hd : 1 ≤ d) {p1 : Int64} {S : JS} (h : wJ13_bitCount_95d88 p1 S Q) : jCall jmt jbud d 232 [.long p1] S (jqI Q) := by
  obtain ⟨d, rfl⟩ : ∃ d2, d = d2 + 1 := ⟨d - 1, by omega⟩
  have hd : 0 ≤ d := by omega
  have hc := jCall_mono jmt jbud d
  unfold wJ13_bitCount_95d88 at h
  refine ⟨Nat.le_of_ble_eq_true rfl, ?_⟩
  show jLf (jCall jmt jbud d) jbud (fun j => (jmt j).rk) none mJ13_bitCount_95d88 (jqI Q) (0, [some (.long p1), none], [], S, 0, 0)
  refine jLf.bk hc 8 [] [some (.long (p1 - ((jlushr p1 (1 : Int32)) &&& (6148914691236517205 : Int64)))), none] [] S rfl rfl rfl trivial ?_
  generalize ex1 : (p1 - ((jlushr p1 (1 : Int32)) &&& (6148914691236517205 : Int64)) : Int64) = x1
  have h := h x1 ex1.symm
  refine jLf.bk hc 10 [] [some (.long ((x1 &&& (3689348814741910323 : Int64)) + ((jlushr x1 (2 : Int32)) &&& (3689348814741910323 : Int64)))), none] [] S rfl rfl rfl trivial ?_
  generalize ex2 : ((x1 &&& (3689348814741910323 : Int64)) + ((jlushr x1 (2 : Int32)) &&& (3689348814741910323 : Int64)) : Int64) = x2
  have h := h x2 ex2.symm
  refine jLf.bk hc 8 [] [some (.long ((x2 + (jlushr x2 (4 : Int32))) &&& (1085102592571150095 : Int64))), none] [] S rfl rfl rfl trivial ?_
  generalize ex3 : ((x2 + (jlushr x2 (4 : Int32))) &&& (1085102592571150095 : Int64) : Int64) = x3
  have h := h x3 ex3.symm
  refine jLf.bk hc 6 [] [some (.long (x3 + (jlushr x3 (8 : Int32)))), none] [] S rfl rfl rfl trivial ?_
  generalize ex4 : (x3 + (jlushr x3 (8 : Int32)) : Int64) = x4
  have h := h x4 ex4.symm
  refine jLf.bk hc 6 [] [some (.long (x4 + (jlushr x4 (16 : Int32)))), none] [] S rfl rfl rfl trivial ?_
  generalize ex5 : (x4 + (jlushr x4 (16 : Int32)) : Int64) = x5
  have h := h x5 ex5.symm
  refine jLf.bk hc 6 [] [some (.long (x5 + (jlushr x5 (32 : Int32)))), none] [] S rfl rfl rfl trivial ?_
  generalize ex6 : (x5 + (jlushr x5 (32 : Int32)) : Int64) = x6
  have h := h x6 ex6.symm
  refine jLf.bk hc 4 [] [some (.long x6), none] [.int ((x6.toInt32) &&& (127 : Int32))] S rfl rfl rfl trivial ?_
  exact jLf.ret hc _ rfl (gs := [True]) (v := some (.int ((x6.toInt32) &&& (127 : Int32)))) rfl trivial ⟨(x6.toInt32) &&& (127 : Int32), rfl, h⟩
def wX11_count  (this : Nat) (p1 : Int32) (S : JS) (Q : Int32 → JS → Prop) : Prop :=
  (p1 = 0 → jA S this 11 ∧ (¬ jR S this 0 = none ∧ (jA S (jr S this 0) 9 ∧ (Q (jI S (jr S this 0) 0) S)))) ∧ (¬ p1 = 0 → (p1 = 1 → jA S this 11 ∧ (¬ jR S this 0 = none ∧ (jA S (jr S this 0) 9 ∧ (wJ13_bitCount_95d88 (jJ S (jr S this 0) 3) S (fun r8 S7 => Q r8 S7))))) ∧ (¬ p1 = 1 → (p1 = 2 → jA S this 11 ∧ (¬ jR S this 0 = none ∧ (jA S (jr S this 0) 9 ∧ (Q (jI S (jr S this 0) 7) S)))) ∧ (¬ p1 = 2 → (p1 = 3 → jA S this 11 ∧ (¬ jR S this 0 = none ∧ (jA S (jr S this 0) 9 ∧ (¬ jR S (jr S this 0) 4 = none ∧ (jA S (jr S (jr S this 0) 4) 8 ∧ (Q (jI S (jr S (jr S this 0) 4) 3) S)))))) ∧ (¬ p1 = 3 → (p1 = 4 → jA S this 11 ∧ (¬ jR S this 0 = none ∧ (jA S (jr S this 0) 9 ∧ (¬ jR S (jr S this 0) 5 = none ∧ (jA S (jr S (jr S this 0) 5) 8 ∧ (Q (jI S (jr S (jr S this 0) 5) 3) S)))))) ∧ (¬ p1 = 4 → (p1 = 5 → jA S this 11 ∧ (¬ jR S this 0 = none ∧ (jA S (jr S this 0) 9 ∧ (Q (jI S (jr S this 0) 10) S)))) ∧ (¬ p1 = 5 → (p1 = 6 → jA S this 11 ∧ (¬ jR S this 0 = none ∧ (jA S (jr S this 0) 9 ∧ (wX9_glassRock (jr S this 0) S (fun r28 S27 => Q r28 S27))))) ∧ (¬ p1 = 6 → (p1 = 7 → jA S this 11 ∧ (¬ jR S this 2 = none ∧ (jA S (jr S this 2) 5 ∧ (Q (jI S (jr S this 2) 1) S)))) ∧ (¬ p1 = 7 → (p1 = 8 → jA S this 11 ∧ (¬ jR S this 9 = none ∧ (jA S (jr S this 9) 13 ∧ (vp_in (p1 - (8 : Int32)) (jZ S (jr S this 9)) ∧ (Q (jI S (jr S this 9) (p1 - (8 : Int32)).toNatClampNeg) S))))) ∧ (¬ p1 = 8 → (p1 = 9 → jA S this 11 ∧ (¬ jR S this 9 = none ∧ (jA S (jr S this 9) 13 ∧ (vp_in (p1 - (8 : Int32)) (jZ S (jr S this 9)) ∧ (Q (jI S (jr S this 9) (p1 - (8 : Int32)).toNatClampNeg) S))))) ∧ (¬ p1 = 9 → (p1 = 10 → jA S this 11 ∧ (¬ jR S this 9 = none ∧ (jA S (jr S this 9) 13 ∧ (vp_in (p1 - (8 : Int32)) (jZ S (jr S this 9)) ∧ (Q (jI S (jr S this 9) (p1 - (8 : Int32)).toNatClampNeg) S))))) ∧ (¬ p1 = 10 → (p1 = 11 → jA S this 11 ∧ (¬ jR S this 9 = none ∧ (jA S (jr S this 9) 13 ∧ (vp_in (p1 - (8 : Int32)) (jZ S (jr S this 9)) ∧ (Q (jI S (jr S this 9) (p1 - (8 : Int32)).toNatClampNeg) S))))) ∧ (¬ p1 = 11 → (p1 = 12 → jA S this 11 ∧ (¬ jR S this 9 = none ∧ (jA S (jr S this 9) 13 ∧ (vp_in (p1 - (8 : Int32)) (jZ S (jr S this 9)) ∧ (Q (jI S (jr S this 9) (p1 - (8 : Int32)).toNatClampNeg) S))))) ∧ (¬ p1 = 12 → (p1 = 13 → jA S this 11 ∧ (¬ jR S this 0 = none ∧ (jA S (jr S this 0) 9 ∧ (Q (jI S (jr S this 0) 8) S)))) ∧ (¬ p1 = 13 → (p1 = 14 → jA S this 11 ∧ (¬ jR S this 0 = none ∧ (jA S (jr S this 0) 9 ∧ (Q (jI S (jr S this 0) 1) S)))) ∧ (¬ p1 = 14 → (p1 = 15 → jA S this 11 ∧ (¬ jR S this 0 = none ∧ (jA S (jr S this 0) 9 ∧ (Q (jI S (jr S this 0) 2) S)))) ∧ (¬ p1 = 15 → Q (-1) S))))))))))))))))
set_option maxRecDepth 20000 in
theorem vX11_count {Q : Int32 → JS → Prop} (d : Nat) (hd : 2 ≤ d) {this : Nat} {p1 : Int32} {S : JS} (h : wX11_count this p1 S Q) : jCall jmt jbud d 135 [.ref this, .int p1] S (jqI Q) := by
  obtain ⟨d, rfl⟩ : ∃ d2, d = d2 + 1 := ⟨d - 1, by omega⟩
  have hd : 1 ≤ d := by omega
  have hc := jCall_mono jmt jbud d
  unfold wX11_count at h
  refine ⟨Nat.le_of_ble_eq_true rfl, ?_⟩
  show jLf (jCall jmt jbud d) jbud (fun j => (jmt j).rk) none mX11_count (jqI Q) (0, [some (.ref this), some (.int p1)], [], S, 0, 0)
  refine jLf.bk hc 1 [] [some (.ref this), some (.int p1)] [.int p1] S rfl rfl rfl trivial ?_
  refine jLf.sw hc _ rfl rfl (by decide +kernel) ?_
  refine ⟨fun hz => ?_, fun hz => ?_⟩
  · have h := h.1 hz
    show jLf (jCall jmt jbud d) jbud (fun j => (jmt j).rk) none mX11_count (jqI Q) (2, [some (.ref this), some (.int p1)], [], S, 0, 0)
    obtain ⟨g1, g2, g3, h⟩ := h
    refine jLf.bk hc 3 [jA S this 11, ¬ jR S this 0 = none, jA S (jr S this 0) 9] [some (.ref this), some (.int p1)] [.int (jI S (jr S this 0) 0)] S rfl rfl rfl ⟨g1, g2, g3⟩ ?_
    exact jLf.ret hc _ rfl (gs := [True]) (v := some (.int (jI S (jr S this 0) 0))) rfl trivial ⟨jI S (jr S this 0) 0, rfl, h⟩
  have h := h.2 hz
  refine ⟨fun hz => ?_, fun hz => ?_⟩
  · have h := h.1 hz
    show jLf (jCall jmt jbud d) jbud (fun j => (jmt j).rk) none mX11_count (jqI Q) (6, [some (.ref this), some (.int p1)], [], S, 0, 0)
    obtain ⟨g4, g5, g6, h⟩ := h
    refine jLf.bk hc 3 [jA S this 11, ¬ jR S this 0 = none, jA S (jr S this 0) 9] [some (.ref this), some (.int p1)] [.long (jJ S (jr S this 0) 3)] S rfl rfl rfl ⟨g4, g5, g6⟩ ?_
    refine jLf.inv hc _ rfl (gs := [1 ≤ ([.long (jJ S (jr S this 0) 3)] : List Value).length, (([] : List Value).map fun v => v.category).sum ≤ 8, 0 ≤ 0, 0 ≤ 0]) (k := 232) (args := [.long (jJ S (jr S this 0) 3)]) (r := []) (a := 0) (b := 0) rfl ⟨Nat.le_of_ble_eq_true rfl, Nat.le_of_ble_eq_true rfl, Nat.zero_le _, Nat.zero_le _⟩ (vJ13_bitCount_95d88 d (by omega) h) ?_
    rintro v S7 ⟨r8, rfl, h⟩
    show jLf (jCall jmt jbud d) jbud (fun j => (jmt j).rk) none mX11_count (jqI Q) (10, [some (.ref this), some (.int p1)], [.int r8], S7, 0, 0)
    exact jLf.ret hc _ rfl (gs := [True]) (v := some (.int r8)) rfl trivial ⟨r8, rfl, h⟩
  have h := h.2 hz
  refine ⟨fun hz => ?_, fun hz => ?_⟩
  · have h := h.1 hz
    show jLf (jCall jmt jbud d) jbud (fun j => (jmt j).rk) none mX11_count (jqI Q) (11, [some (.ref this), some (.int p1)], [], S, 0, 0)
    obtain ⟨g9, g10, g11, h⟩ := h
    refine jLf.bk hc 3 [jA S this 11, ¬ jR S this 0 = none, jA S (jr S this 0) 9] [some (.ref this), some (.int p1)] [.int (jI S (jr S this 0) 7)] S rfl rfl rfl ⟨g9, g10, g11⟩ ?_
    exact jLf.ret hc _ rfl (gs := [True]) (v := some (.int (jI S (jr S this 0) 7))) rfl trivial ⟨jI S (jr S this 0) 7, rfl, h⟩
  have h := h.2 hz
  refine ⟨fun hz => ?_, fun hz => ?_⟩
  · have h := h.1 hz
    show jLf (jCall jmt jbud d) jbud (fun j => (jmt j).rk) none mX11_count (jqI Q) (15, [some (.ref this), some (.int p1)], [], S, 0, 0)
    obtain ⟨g12, g13, g14, g15, g16, h⟩ := h
    refine jLf.bk hc 4 [jA S this 11, ¬ jR S this 0 = none, jA S (jr S this 0) 9, ¬ jR S (jr S this 0) 4 = none, jA S (jr S (jr S this 0) 4) 8] [some (.ref this), some (.int p1)] [.int (jI S (jr S (jr S this 0) 4) 3)] S rfl rfl rfl ⟨g12, g13, g14, g15, g16⟩ ?_
    exact jLf.ret hc _ rfl (gs := [True]) (v := some (.int (jI S (jr S (jr S this 0) 4) 3))) rfl trivial ⟨jI S (jr S (jr S this 0) 4) 3, rfl, h⟩
  have h := h.2 hz
  refine ⟨fun hz => ?_, fun hz => ?_⟩
  · have h := h.1 hz
    show jLf (jCall jmt jbud d) jbud (fun j => (jmt j).rk) none mX11_count (jqI Q) (20, [some (.ref this), some (.int p1)], [], S, 0, 0)
    obtain ⟨g17, g18, g19, g20, g21, h⟩ := h
    refine jLf.bk hc 4 [jA S this 11, ¬ jR S this 0 = none, jA S (jr S this 0) 9, ¬ jR S (jr S this 0) 5 = none, jA S (jr S (jr S this 0) 5) 8] [some (.ref this), some (.int p1)] [.int (jI S (jr S (jr S this 0) 5) 3)] S rfl rfl rfl ⟨g17, g18, g19, g20, g21⟩ ?_
    exact jLf.ret hc _ rfl (gs := [True]) (v := some (.int (jI S (jr S (jr S this 0) 5) 3))) rfl trivial ⟨jI S (jr S (jr S this 0) 5) 3, rfl, h⟩
  have h := h.2 hz
  refine ⟨fun hz => ?_, fun hz => ?_⟩
  · have h := h.1 hz
    show jLf (jCall jmt jbud d) jbud (fun j => (jmt j).rk) none mX11_count (jqI Q) (25, [some (.ref this), some (.int p1)], [], S, 0, 0)
    obtain ⟨g22, g23, g24, h⟩ := h
    refine jLf.bk hc 3 [jA S this 11, ¬ jR S this 0 = none, jA S (jr S this 0) 9] [some (.ref this), some (.int p1)] [.int (jI S (jr S this 0) 10)] S rfl rfl rfl ⟨g22, g23, g24⟩ ?_
    exact jLf.ret hc _ rfl (gs := [True]) (v := some (.int (jI S (jr S this 0) 10))) rfl trivial ⟨jI S (jr S this 0) 10, rfl, h⟩
  have h := h.2 hz
  refine ⟨fun hz => ?_, fun hz => ?_⟩
  · have h := h.1 hz
    show jLf (jCall jmt jbud d) jbud (fun j => (jmt j).rk) none mX11_count (jqI Q) (29, [some (.ref this), some (.int p1)], [], S, 0, 0)
    obtain ⟨g25, g26, h⟩ := h
    refine jLf.bk hc 2 [jA S this 11, ¬ jR S this 0 = none] [some (.ref this), some (.int p1)] [.ref (jr S this 0)] S rfl rfl rfl ⟨g25, g26⟩ ?_
    obtain ⟨g29, h⟩ := h
    refine jLf.inv hc _ rfl (gs := [jA S (jr S this 0) 9, (([] : List Value).map fun v => v.category).sum ≤ 8, 0 ≤ 0, 0 ≤ 0]) (k := 88) (args := [.ref (jr S this 0)]) (r := []) (a := 0) (b := 0) rfl ⟨g29, Nat.le_of_ble_eq_true rfl, Nat.zero_le _, Nat.zero_le _⟩ (vX9_glassRock d (by omega) h) ?_
    rintro v S27 ⟨r28, rfl, h⟩
    show jLf (jCall jmt jbud d) jbud (fun j => (jmt j).rk) none mX11_count (jqI Q) (32, [some (.ref this), some (.int p1)], [.int r28], S27, 0, 0)
    exact jLf.ret hc _ rfl (gs := [True]) (v := some (.int r28)) rfl trivial ⟨r28, rfl, h⟩
  have h := h.2 hz
  refine ⟨fun hz => ?_, fun hz => ?_⟩
  · have h := h.1 hz
    show jLf (jCall jmt jbud d) jbud (fun j => (jmt j).rk) none mX11_count (jqI Q) (33, [some (.ref this), some (.int p1)], [], S, 0, 0)
    obtain ⟨g30, g31, g32, h⟩ := h
    refine jLf.bk hc 3 [jA S this 11, ¬ jR S this 2 = none, jA S (jr S this 2) 5] [some (.ref this), some (.int p1)] [.int (jI S (jr S this 2) 1)] S rfl rfl rfl ⟨g30, g31, g32⟩ ?_
    exact jLf.ret hc _ rfl (gs := [True]) (v := some (.int (jI S (jr S this 2) 1))) rfl trivial ⟨jI S (jr S this 2) 1, rfl, h⟩
  have h := h.2 hz
  refine ⟨fun hz => ?_, fun hz => ?_⟩
  · have h := h.1 hz
    show jLf (jCall jmt jbud d) jbud (fun j => (jmt j).rk) none mX11_count (jqI Q) (37, [some (.ref this), some (.int p1)], [], S, 0, 0)
    obtain ⟨g33, g34, g35, g36, h⟩ := h
    refine jLf.bk hc 6 [jA S this 11, ¬ jR S this 9 = none, jA S (jr S this 9) 13, vp_in (p1 - (8 : Int32)) (jZ S (jr S this 9))] [some (.ref this), some (.int p1)] [.int (jI S (jr S this 9) (p1 - (8 : Int32)).toNatClampNeg)] S rfl rfl rfl ⟨g33, g34, g35, g36⟩ ?_
    exact jLf.ret hc _ rfl (gs := [True]) (v := some (.int (jI S (jr S this 9) (p1 - (8 : Int32)).toNatClampNeg))) rfl trivial ⟨jI S (jr S this 9) (p1 - (8 : Int32)).toNatClampNeg, rfl, h⟩
  have h := h.2 hz
  refine ⟨fun hz => ?_, fun hz => ?_⟩
  · have h := h.1 hz
    show jLf (jCall jmt jbud d) jbud (fun j => (jmt j).rk) none mX11_count (jqI Q) (37, [some (.ref this), some (.int p1)], [], S, 0, 0)
    obtain ⟨g37, g38, g39, g40, h⟩ := h
    refine jLf.bk hc 6 [jA S this 11, ¬ jR S this 9 = none, jA S (jr S this 9) 13, vp_in (p1 - (8 : Int32)) (jZ S (jr S this 9))] [some (.ref this), some (.int p1)] [.int (jI S (jr S this 9) (p1 - (8 : Int32)).toNatClampNeg)] S rfl rfl rfl ⟨g37, g38, g39, g40⟩ ?_
    exact jLf.ret hc _ rfl (gs := [True]) (v := some (.int (jI S (jr S this 9) (p1 - (8 : Int32)).toNatClampNeg))) rfl trivial ⟨jI S (jr S this 9) (p1 - (8 : Int32)).toNatClampNeg, rfl, h⟩
  have h := h.2 hz
  refine ⟨fun hz => ?_, fun hz => ?_⟩
  · have h := h.1 hz
    show jLf (jCall jmt jbud d) jbud (fun j => (jmt j).rk) none mX11_count (jqI Q) (37, [some (.ref this), some (.int p1)], [], S, 0, 0)
    obtain ⟨g41, g42, g43, g44, h⟩ := h
    refine jLf.bk hc 6 [jA S this 11, ¬ jR S this 9 = none, jA S (jr S this 9) 13, vp_in (p1 - (8 : Int32)) (jZ S (jr S this 9))] [some (.ref this), some (.int p1)] [.int (jI S (jr S this 9) (p1 - (8 : Int32)).toNatClampNeg)] S rfl rfl rfl ⟨g41, g42, g43, g44⟩ ?_
    exact jLf.ret hc _ rfl (gs := [True]) (v := some (.int (jI S (jr S this 9) (p1 - (8 : Int32)).toNatClampNeg))) rfl trivial ⟨jI S (jr S this 9) (p1 - (8 : Int32)).toNatClampNeg, rfl, h⟩
  have h := h.2 hz
  refine ⟨fun hz => ?_, fun hz => ?_⟩
  · have h := h.1 hz
    show jLf (jCall jmt jbud d) jbud (fun j => (jmt j).rk) none mX11_count (jqI Q) (37, [some (.ref this), some (.int p1)], [], S, 0, 0)
    obtain ⟨g45, g46, g47, g48, h⟩ := h
    refine jLf.bk hc 6 [jA S this 11, ¬ jR S this 9 = none, jA S (jr S this 9) 13, vp_in (p1 - (8 : Int32)) (jZ S (jr S this 9))] [some (.ref this), some (.int p1)] [.int (jI S (jr S this 9) (p1 - (8 : Int32)).toNatClampNeg)] S rfl rfl rfl ⟨g45, g46, g47, g48⟩ ?_
    exact jLf.ret hc _ rfl (gs := [True]) (v := some (.int (jI S (jr S this 9) (p1 - (8 : Int32)).toNatClampNeg))) rfl trivial ⟨jI S (jr S this 9) (p1 - (8 : Int32)).toNatClampNeg, rfl, h⟩
  have h := h.2 hz
  refine ⟨fun hz => ?_, fun hz => ?_⟩
  · have h := h.1 hz
    show jLf (jCall jmt jbud d) jbud (fun j => (jmt j).rk) none mX11_count (jqI Q) (37, [some (.ref this), some (.int p1)], [], S, 0, 0)
    obtain ⟨g49, g50, g51, g52, h⟩ := h
    refine jLf.bk hc 6 [jA S this 11, ¬ jR S this 9 = none, jA S (jr S this 9) 13, vp_in (p1 - (8 : Int32)) (jZ S (jr S this 9))] [some (.ref this), some (.int p1)] [.int (jI S (jr S this 9) (p1 - (8 : Int32)).toNatClampNeg)] S rfl rfl rfl ⟨g49, g50, g51, g52⟩ ?_
    exact jLf.ret hc _ rfl (gs := [True]) (v := some (.int (jI S (jr S this 9) (p1 - (8 : Int32)).toNatClampNeg))) rfl trivial ⟨jI S (jr S this 9) (p1 - (8 : Int32)).toNatClampNeg, rfl, h⟩
  have h := h.2 hz
  refine ⟨fun hz => ?_, fun hz => ?_⟩
  · have h := h.1 hz
    show jLf (jCall jmt jbud d) jbud (fun j => (jmt j).rk) none mX11_count (jqI Q) (44, [some (.ref this), some (.int p1)], [], S, 0, 0)
    obtain ⟨g53, g54, g55, h⟩ := h
    refine jLf.bk hc 3 [jA S this 11, ¬ jR S this 0 = none, jA S (jr S this 0) 9] [some (.ref this), some (.int p1)] [.int (jI S (jr S this 0) 8)] S rfl rfl rfl ⟨g53, g54, g55⟩ ?_
    exact jLf.ret hc _ rfl (gs := [True]) (v := some (.int (jI S (jr S this 0) 8))) rfl trivial ⟨jI S (jr S this 0) 8, rfl, h⟩
  have h := h.2 hz
  refine ⟨fun hz => ?_, fun hz => ?_⟩
  · have h := h.1 hz
    show jLf (jCall jmt jbud d) jbud (fun j => (jmt j).rk) none mX11_count (jqI Q) (48, [some (.ref this), some (.int p1)], [], S, 0, 0)
    obtain ⟨g56, g57, g58, h⟩ := h
    refine jLf.bk hc 3 [jA S this 11, ¬ jR S this 0 = none, jA S (jr S this 0) 9] [some (.ref this), some (.int p1)] [.int (jI S (jr S this 0) 1)] S rfl rfl rfl ⟨g56, g57, g58⟩ ?_
    exact jLf.ret hc _ rfl (gs := [True]) (v := some (.int (jI S (jr S this 0) 1))) rfl trivial ⟨jI S (jr S this 0) 1, rfl, h⟩
  have h := h.2 hz
  refine ⟨fun hz => ?_, fun hz => ?_⟩
  · have h := h.1 hz
    show jLf (jCall jmt jbud d) jbud (fun j => (jmt j).rk) none mX11_count (jqI Q) (52, [some (.ref this), some (.int p1)], [], S, 0, 0)
    obtain ⟨g59, g60, g61, h⟩ := h
    refine jLf.bk hc 3 [jA S this 11, ¬ jR S this 0 = none, jA S (jr S this 0) 9] [some (.ref this), some (.int p1)] [.int (jI S (jr S this 0) 2)] S rfl rfl rfl ⟨g59, g60, g61⟩ ?_
    exact jLf.ret hc _ rfl (gs := [True]) (v := some (.int (jI S (jr S this 0) 2))) rfl trivial ⟨jI S (jr S this 0) 2, rfl, h⟩
  have h := h.2 hz
  show jLf (jCall jmt jbud d) jbud (fun j => (jmt j).rk) none mX11_count (jqI Q) (56, [some (.ref this), some (.int p1)], [], S, 0, 0)
  refine jLf.bk hc 1 [] [some (.ref this), some (.int p1)] [.int (-1)] S rfl rfl rfl trivial ?_
  exact jLf.ret hc _ rfl (gs := [True]) (v := some (.int (-1))) rfl trivial ⟨(-1), rfl, h⟩
