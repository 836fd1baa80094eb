/-! weakest preconditions, by program: X11_status X12_init X12_in X12_is X12_tell X12_change X12_image X12_back X12_rocks X12_isRock X12_isNight X12_terms X12_storm X12_wed X12_jilt X12_row X12_spray X12_four X12_feed X12_end X12_isSmall X12_isDigit X12_next X12_begin X12_isWord X12_isSign X12_must X12_fault X12_emit X12_push X12_binds X12_settle X12_inner X12_isCompared X12_partAt X12_openBracket X12_leaf X12_readPart -/
def wX11_status  (this : Nat) (S : JS) (Q : Int32 → JS → Prop) : Prop :=
  jA S this 11 ∧ (Q (jI S this 12) S)
set_option maxRecDepth 20000 in
theorem vX11_status {Q : Int32 → JS → Prop} (d : Nat) (hd : 1 ≤ d) {this : Nat} {S : JS} (h : wX11_status this S Q) : jCall jmt jbud d 136 [.ref this] S (jqI Q) := by
  obtain ⟨d, rfl⟩ : ∃ d2, d = d2 + 1 := ⟨d - 1, by omega⟩
  have hd : 0 ≤ d := by omega
  have hc := jCall_mono jmt jbud d
  unfold wX11_status at h
  refine ⟨Nat.le_of_ble_eq_true rfl, ?_⟩
  show jLf (jCall jmt jbud d) jbud (fun j => (jmt j).rk) none mX11_status (jqI Q) (0, [some (.ref this)], [], S, 0, 0)
  obtain ⟨g1, h⟩ := h
  refine jLf.bk hc 2 [jA S this 11] [some (.ref this)] [.int (jI S this 12)] S rfl rfl rfl g1 ?_
  exact jLf.ret hc _ rfl (gs := [True]) (v := some (.int (jI S this 12))) rfl trivial ⟨jI S this 12, rfl, h⟩
set_option maxRecDepth 20000 in
def wX12_init  (this : Nat) (S : JS) (Q : JS → Prop) : Prop :=
  jN S < 1000000 ∧ (∀ h3 : Nat, h3 = jN S → (∀ S1 : JS, S1 = uNew S 13 7 → (jA S1 this 12 ∧ (∀ S5 : JS, S5 = uR S1 this 2 (some h3) → (jN S5 < 1000000 ∧ (∀ h8 : Nat, h8 = jN S5 → (∀ S6 : JS, S6 = uNew S5 13 5600 → (jA S6 this 12 ∧ (∀ S10 : JS, S10 = uR S6 this 3 (some h8) → (jN S10 < 1000000 ∧ (∀ h13 : Nat, h13 = jN S10 → (∀ S11 : JS, S11 = uNew S10 13 11200 → (jA S11 this 12 ∧ (∀ S15 : JS, S15 = uR S11 this 4 (some h13) → (jN S15 < 1000000 ∧ (∀ h18 : Nat, h18 = jN S15 → (∀ S16 : JS, S16 = uNew S15 15 2 → (jA S16 this 12 ∧ (∀ S20 : JS, S20 = uR S16 this 5 (some h18) → (jN S20 < 1000000 ∧ (∀ h23 : Nat, h23 = jN S20 → (∀ S21 : JS, S21 = uNew S20 13 400 → (jA S21 this 12 ∧ (∀ S25 : JS, S25 = uR S21 this 7 (some h23) → (jA S25 this 12 ∧ (∀ S27 : JS, S27 = uI S25 this 13 (-1) → (jN S27 < 1000000 ∧ (∀ h30 : Nat, h30 = jN S27 → (∀ S28 : JS, S28 = uNew S27 13 96 → (jA S28 this 12 ∧ (∀ S32 : JS, S32 = uR S28 this 16 (some h30) → (jN S32 < 1000000 ∧ (∀ h35 : Nat, h35 = jN S32 → (∀ S33 : JS, S33 = uNew S32 13 400 → (jA S33 this 12 ∧ (∀ S37 : JS, S37 = uR S33 this 18 (some h35) → (jN S37 < 1000000 ∧ (∀ h40 : Nat, h40 = jN S37 → (∀ S38 : JS, S38 = uNew S37 13 400 → (jA S38 this 12 ∧ (∀ S42 : JS, S42 = uR S38 this 19 (some h40) → (jN S42 < 1000000 ∧ (∀ h45 : Nat, h45 = jN S42 → (∀ S43 : JS, S43 = uNew S42 13 400 → (jA S43 this 12 ∧ (∀ S47 : JS, S47 = uR S43 this 21 (some h45) → (jN S47 < 1000000 ∧ (∀ h50 : Nat, h50 = jN S47 → (∀ S48 : JS, S48 = uNew S47 13 400 → (jA S48 this 12 ∧ (∀ S52 : JS, S52 = uR S48 this 22 (some h50) → (jN S52 < 1000000 ∧ (∀ h55 : Nat, h55 = jN S52 → (∀ S53 : JS, S53 = uNew S52 14 6 → (jA S53 h55 14 ∧ (vp_in (0 : Int32) (jZ S53 h55) ∧ (∀ S58 : JS, S58 = uJ S53 h55 (0 : Int32).toNatClampNeg 605291 → (jA S58 h55 14 ∧ (vp_in (1 : Int32) (jZ S58 h55) ∧ (∀ S61 : JS, S61 = uJ S58 h55 (1 : Int32).toNatClampNeg 655 → (jA S61 h55 14 ∧ (vp_in (2 : Int32) (jZ S61 h55) ∧ (∀ S64 : JS, S64 = uJ S61 h55 (2 : Int32).toNatClampNeg 14982420 → (jA S64 h55 14 ∧ (vp_in (3 : Int32) (jZ S64 h55) ∧ (∀ S67 : JS, S67 = uJ S64 h55 (3 : Int32).toNatClampNeg 20594253 → (jA S67 h55 14 ∧ (vp_in (4 : Int32) (jZ S67 h55) ∧ (∀ S70 : JS, S70 = uJ S67 h55 (4 : Int32).toNatClampNeg 441828 → (jA S70 h55 14 ∧ (vp_in (5 : Int32) (jZ S70 h55) ∧ (∀ S73 : JS, S73 = uJ S70 h55 (5 : Int32).toNatClampNeg 6194 → (jA S73 this 12 ∧ (∀ S75 : JS, S75 = uR S73 this 25 (some h55) → (jN S75 < 1000000 ∧ (∀ h78 : Nat, h78 = jN S75 → (∀ S76 : JS, S76 = uNew S75 14 3 → (jA S76 h78 14 ∧ (vp_in (0 : Int32) (jZ S76 h78) ∧ (∀ S81 : JS, S81 = uJ S76 h78 (0 : Int32).toNatClampNeg 135732402 → (jA S81 h78 14 ∧ (vp_in (1 : Int32) (jZ S81 h78) ∧ (∀ S84 : JS, S84 = uJ S81 h78 (1 : Int32).toNatClampNeg 763276 → (jA S84 h78 14 ∧ (vp_in (2 : Int32) (jZ S84 h78) ∧ (∀ S87 : JS, S87 = uJ S84 h78 (2 : Int32).toNatClampNeg 67155 → (jA S87 this 12 ∧ (∀ S89 : JS, S89 = uR S87 this 26 (some h78) → (jN S89 < 1000000 ∧ (∀ h92 : Nat, h92 = jN S89 → (∀ S90 : JS, S90 = uNew S89 14 13 → (jA S90 this 12 ∧ (∀ S94 : JS, S94 = uR S90 this 28 (some h92) → (jN S94 < 1000000 ∧ (∀ h97 : Nat, h97 = jN S94 → (∀ S95 : JS, S95 = uNew S94 14 400 → (jA S95 this 12 ∧ (∀ S99 : JS, S99 = uR S95 this 29 (some h97) → (jN S99 < 1000000 ∧ (∀ h102 : Nat, h102 = jN S99 → (∀ S100 : JS, S100 = uNew S99 13 540 → (jA S100 this 12 ∧ (∀ S104 : JS, S104 = uR S100 this 33 (some h102) → (jN S104 < 1000000 ∧ (∀ h107 : Nat, h107 = jN S104 → (∀ S105 : JS, S105 = uNew S104 13 540 → (jA S105 this 12 ∧ (∀ S109 : JS, S109 = uR S105 this 34 (some h107) → (jN S109 < 1000000 ∧ (∀ h112 : Nat, h112 = jN S109 → (∀ S110 : JS, S110 = uNew S109 13 540 → (jA S110 this 12 ∧ (∀ S114 : JS, S114 = uR S110 this 35 (some h112) → (jN S114 < 1000000 ∧ (∀ h117 : Nat, h117 = jN S114 → (∀ S115 : JS, S115 = uNew S114 14 540 → (jA S115 this 12 ∧ (∀ S119 : JS, S119 = uR S115 this 36 (some h117) → (jN S119 < 1000000 ∧ (∀ h122 : Nat, h122 = jN S119 → (∀ S120 : JS, S120 = uNew S119 15 276480 → (jA S120 this 12 ∧ (∀ S124 : JS, S124 = uR S120 this 37 (some h122) → (jN S124 < 1000000 ∧ (∀ h127 : Nat, h127 = jN S124 → (∀ S125 : JS, S125 = uNew S124 15 4608 → (jA S125 this 12 ∧ (∀ S129 : JS, S129 = uR S125 this 38 (some h127) → (jN S129 < 1000000 ∧ (∀ h132 : Nat, h132 = jN S129 → (∀ S130 : JS, S130 = uNew S129 15 4608 → (jA S130 this 12 ∧ (∀ S134 : JS, S134 = uR S130 this 39 (some h132) → (jN S134 < 1000000 ∧ (∀ h137 : Nat, h137 = jN S134 → (∀ S135 : JS, S135 = uNew S134 14 12 → (jA S135 this 12 ∧ (∀ S139 : JS, S139 = uR S135 this 40 (some h137) → (jN S139 < 1000000 ∧ (∀ h142 : Nat, h142 = jN S139 → (∀ S140 : JS, S140 = uNew S139 13 60 → (jA S140 this 12 ∧ (∀ S144 : JS, S144 = uR S140 this 42 (some h142) → (jA S144 this 12 ∧ (¬ jR S144 this 3 = none ∧ (jA S144 (jr S144 this 3) 13 ∧ (vp_in (4 : Int32) (jZ S144 (jr S144 this 3)) ∧ (∀ S149 : JS, S149 = uI S144 (jr S144 this 3) (4 : Int32).toNatClampNeg (-1) → (jA S149 this 12 ∧ (¬ jR S149 this 3 = none ∧ (jA S149 (jr S149 this 3) 13 ∧ (vp_in (0 : Int32) (jZ S149 (jr S149 this 3)) ∧ (∀ S154 : JS, S154 = uI S149 (jr S149 this 3) (0 : Int32).toNatClampNeg 9 → (jA S154 this 12 ∧ (¬ jR S154 this 3 = none ∧ (jA S154 (jr S154 this 3) 13 ∧ (vp_in (2 : Int32) (jZ S154 (jr S154 this 3)) ∧ (∀ S159 : JS, S159 = uI S154 (jr S154 this 3) (2 : Int32).toNatClampNeg 50 → (Q S159)))))))))))))))))))))))))))))))))))))))))))))))))))))))))))))))))))))))))))))))))))))))))))))))))))))))))))))))))))))))))))))))))))))))))))))))))))))))))))))))
set_option maxRecDepth 20000 in
theorem vX12_init {Q : JS → Prop} (d : Nat) (hd : 1 ≤ d) {this : Nat} {S : JS} (h : wX12_init this S Q) : jCall jmt jbud d 147 [.ref this] S (jqV Q) := by
  obtain ⟨d, rfl⟩ : ∃ d2, d = d2 + 1 := ⟨d - 1, by omega⟩
  have hd : 0 ≤ d := by omega
  have hc := jCall_mono jmt jbud d
  unfold wX12_init at h
  refine ⟨Nat.le_of_ble_eq_true rfl, ?_⟩
  show jLf (jCall jmt jbud d) jbud (fun j => (jmt j).rk) none mX12_init (jqV Q) (0, [some (.ref this)], [], S, 23, 307255)
  refine jLf.bk hc 4 [(([] : List Value).map fun v => v.category).sum ≤ 8] [some (.ref this)] [.int 7, .ref this] S rfl rfl rfl (Nat.le_of_ble_eq_true rfl) ?_
  obtain ⟨g2, h⟩ := h
  refine jLf.one hc _ rfl (gs := [¬ (7 : Int32) < 0, 7 ≤ 1000000, 1 ≤ 23, 7 ≤ 307255, jN S < 1000000]) (c := (5, [some (.ref this)], [.ref (jN S), .ref this], (uNew S 13 7), 22, 307248)) rfl ⟨(by decide), Nat.le_of_ble_eq_true rfl, Nat.le_of_ble_eq_true rfl, Nat.le_of_ble_eq_true rfl, g2⟩ ?_
  generalize eS1 : uNew S 13 7 = S1
  generalize eh3 : jN S = h3
  have h := h h3 eh3.symm S1 eS1.symm
  obtain ⟨g4, h⟩ := h
  refine jLf.bk hc 1 [jA S1 this 12] [some (.ref this)] [] (uR S1 this 2 (some h3)) rfl rfl rfl g4 ?_
  generalize eS5 : uR S1 this 2 (some h3) = S5
  have h := h S5 eS5.symm
  refine jLf.bk hc 2 [] [some (.ref this)] [.int 5600, .ref this] S5 rfl rfl rfl trivial ?_
  obtain ⟨g7, h⟩ := h
  refine jLf.one hc _ rfl (gs := [¬ (5600 : Int32) < 0, 5600 ≤ 1000000, 1 ≤ 22, 5600 ≤ 307248, jN S5 < 1000000]) (c := (9, [some (.ref this)], [.ref (jN S5), .ref this], (uNew S5 13 5600), 21, 301648)) rfl ⟨(by decide), Nat.le_of_ble_eq_true rfl, Nat.le_of_ble_eq_true rfl, Nat.le_of_ble_eq_true rfl, g7⟩ ?_
  generalize eS6 : uNew S5 13 5600 = S6
  generalize eh8 : jN S5 = h8
  have h := h h8 eh8.symm S6 eS6.symm
  obtain ⟨g9, h⟩ := h
  refine jLf.bk hc 1 [jA S6 this 12] [some (.ref this)] [] (uR S6 this 3 (some h8)) rfl rfl rfl g9 ?_
  generalize eS10 : uR S6 this 3 (some h8) = S10
  have h := h S10 eS10.symm
  refine jLf.bk hc 2 [] [some (.ref this)] [.int 11200, .ref this] S10 rfl rfl rfl trivial ?_
  obtain ⟨g12, h⟩ := h
  refine jLf.one hc _ rfl (gs := [¬ (11200 : Int32) < 0, 11200 ≤ 1000000, 1 ≤ 21, 11200 ≤ 301648, jN S10 < 1000000]) (c := (13, [some (.ref this)], [.ref (jN S10), .ref this], (uNew S10 13 11200), 20, 290448)) rfl ⟨(by decide), Nat.le_of_ble_eq_true rfl, Nat.le_of_ble_eq_true rfl, Nat.le_of_ble_eq_true rfl, g12⟩ ?_
  generalize eS11 : uNew S10 13 11200 = S11
  generalize eh13 : jN S10 = h13
  have h := h h13 eh13.symm S11 eS11.symm
  obtain ⟨g14, h⟩ := h
  refine jLf.bk hc 1 [jA S11 this 12] [some (.ref this)] [] (uR S11 this 4 (some h13)) rfl rfl rfl g14 ?_
  generalize eS15 : uR S11 this 4 (some h13) = S15
  have h := h S15 eS15.symm
  refine jLf.bk hc 2 [] [some (.ref this)] [.int 2, .ref this] S15 rfl rfl rfl trivial ?_
  obtain ⟨g17, h⟩ := h
  refine jLf.one hc _ rfl (gs := [¬ (2 : Int32) < 0, 2 ≤ 1000000, 1 ≤ 20, 2 ≤ 290448, jN S15 < 1000000]) (c := (17, [some (.ref this)], [.ref (jN S15), .ref this], (uNew S15 15 2), 19, 290446)) rfl ⟨(by decide), Nat.le_of_ble_eq_true rfl, Nat.le_of_ble_eq_true rfl, Nat.le_of_ble_eq_true rfl, g17⟩ ?_
  generalize eS16 : uNew S15 15 2 = S16
  generalize eh18 : jN S15 = h18
  have h := h h18 eh18.symm S16 eS16.symm
  obtain ⟨g19, h⟩ := h
  refine jLf.bk hc 1 [jA S16 this 12] [some (.ref this)] [] (uR S16 this 5 (some h18)) rfl rfl rfl g19 ?_
  generalize eS20 : uR S16 this 5 (some h18) = S20
  have h := h S20 eS20.symm
  refine jLf.bk hc 2 [] [some (.ref this)] [.int 400, .ref this] S20 rfl rfl rfl trivial ?_
  obtain ⟨g22, h⟩ := h
  refine jLf.one hc _ rfl (gs := [¬ (400 : Int32) < 0, 400 ≤ 1000000, 1 ≤ 19, 400 ≤ 290446, jN S20 < 1000000]) (c := (21, [some (.ref this)], [.ref (jN S20), .ref this], (uNew S20 13 400), 18, 290046)) rfl ⟨(by decide), Nat.le_of_ble_eq_true rfl, Nat.le_of_ble_eq_true rfl, Nat.le_of_ble_eq_true rfl, g22⟩ ?_
  generalize eS21 : uNew S20 13 400 = S21
  generalize eh23 : jN S20 = h23
  have h := h h23 eh23.symm S21 eS21.symm
  obtain ⟨g24, h⟩ := h
  refine jLf.bk hc 1 [jA S21 this 12] [some (.ref this)] [] (uR S21 this 7 (some h23)) rfl rfl rfl g24 ?_
  generalize eS25 : uR S21 this 7 (some h23) = S25
  have h := h S25 eS25.symm
  obtain ⟨g26, h⟩ := h
  refine jLf.bk hc 3 [jA S25 this 12] [some (.ref this)] [] (uI S25 this 13 (-1)) rfl rfl rfl g26 ?_
  generalize eS27 : uI S25 this 13 (-1) = S27
  have h := h S27 eS27.symm
  refine jLf.bk hc 2 [] [some (.ref this)] [.int 96, .ref this] S27 rfl rfl rfl trivial ?_
  obtain ⟨g29, h⟩ := h
  refine jLf.one hc _ rfl (gs := [¬ (96 : Int32) < 0, 96 ≤ 1000000, 1 ≤ 18, 96 ≤ 290046, jN S27 < 1000000]) (c := (28, [some (.ref this)], [.ref (jN S27), .ref this], (uNew S27 13 96), 17, 289950)) rfl ⟨(by decide), Nat.le_of_ble_eq_true rfl, Nat.le_of_ble_eq_true rfl, Nat.le_of_ble_eq_true rfl, g29⟩ ?_
  generalize eS28 : uNew S27 13 96 = S28
  generalize eh30 : jN S27 = h30
  have h := h h30 eh30.symm S28 eS28.symm
  obtain ⟨g31, h⟩ := h
  refine jLf.bk hc 1 [jA S28 this 12] [some (.ref this)] [] (uR S28 this 16 (some h30)) rfl rfl rfl g31 ?_
  generalize eS32 : uR S28 this 16 (some h30) = S32
  have h := h S32 eS32.symm
  refine jLf.bk hc 2 [] [some (.ref this)] [.int 400, .ref this] S32 rfl rfl rfl trivial ?_
  obtain ⟨g34, h⟩ := h
  refine jLf.one hc _ rfl (gs := [¬ (400 : Int32) < 0, 400 ≤ 1000000, 1 ≤ 17, 400 ≤ 289950, jN S32 < 1000000]) (c := (32, [some (.ref this)], [.ref (jN S32), .ref this], (uNew S32 13 400), 16, 289550)) rfl ⟨(by decide), Nat.le_of_ble_eq_true rfl, Nat.le_of_ble_eq_true rfl, Nat.le_of_ble_eq_true rfl, g34⟩ ?_
  generalize eS33 : uNew S32 13 400 = S33
  generalize eh35 : jN S32 = h35
  have h := h h35 eh35.symm S33 eS33.symm
  obtain ⟨g36, h⟩ := h
  refine jLf.bk hc 1 [jA S33 this 12] [some (.ref this)] [] (uR S33 this 18 (some h35)) rfl rfl rfl g36 ?_
  generalize eS37 : uR S33 this 18 (some h35) = S37
  have h := h S37 eS37.symm
  refine jLf.bk hc 2 [] [some (.ref this)] [.int 400, .ref this] S37 rfl rfl rfl trivial ?_
  obtain ⟨g39, h⟩ := h
  refine jLf.one hc _ rfl (gs := [¬ (400 : Int32) < 0, 400 ≤ 1000000, 1 ≤ 16, 400 ≤ 289550, jN S37 < 1000000]) (c := (36, [some (.ref this)], [.ref (jN S37), .ref this], (uNew S37 13 400), 15, 289150)) rfl ⟨(by decide), Nat.le_of_ble_eq_true rfl, Nat.le_of_ble_eq_true rfl, Nat.le_of_ble_eq_true rfl, g39⟩ ?_
  generalize eS38 : uNew S37 13 400 = S38
  generalize eh40 : jN S37 = h40
  have h := h h40 eh40.symm S38 eS38.symm
  obtain ⟨g41, h⟩ := h
  refine jLf.bk hc 1 [jA S38 this 12] [some (.ref this)] [] (uR S38 this 19 (some h40)) rfl rfl rfl g41 ?_
  generalize eS42 : uR S38 this 19 (some h40) = S42
  have h := h S42 eS42.symm
  refine jLf.bk hc 2 [] [some (.ref this)] [.int 400, .ref this] S42 rfl rfl rfl trivial ?_
  obtain ⟨g44, h⟩ := h
  refine jLf.one hc _ rfl (gs := [¬ (400 : Int32) < 0, 400 ≤ 1000000, 1 ≤ 15, 400 ≤ 289150, jN S42 < 1000000]) (c := (40, [some (.ref this)], [.ref (jN S42), .ref this], (uNew S42 13 400), 14, 288750)) rfl ⟨(by decide), Nat.le_of_ble_eq_true rfl, Nat.le_of_ble_eq_true rfl, Nat.le_of_ble_eq_true rfl, g44⟩ ?_
  generalize eS43 : uNew S42 13 400 = S43
  generalize eh45 : jN S42 = h45
  have h := h h45 eh45.symm S43 eS43.symm
  obtain ⟨g46, h⟩ := h
  refine jLf.bk hc 1 [jA S43 this 12] [some (.ref this)] [] (uR S43 this 21 (some h45)) rfl rfl rfl g46 ?_
  generalize eS47 : uR S43 this 21 (some h45) = S47
  have h := h S47 eS47.symm
  refine jLf.bk hc 2 [] [some (.ref this)] [.int 400, .ref this] S47 rfl rfl rfl trivial ?_
  obtain ⟨g49, h⟩ := h
  refine jLf.one hc _ rfl (gs := [¬ (400 : Int32) < 0, 400 ≤ 1000000, 1 ≤ 14, 400 ≤ 288750, jN S47 < 1000000]) (c := (44, [some (.ref this)], [.ref (jN S47), .ref this], (uNew S47 13 400), 13, 288350)) rfl ⟨(by decide), Nat.le_of_ble_eq_true rfl, Nat.le_of_ble_eq_true rfl, Nat.le_of_ble_eq_true rfl, g49⟩ ?_
  generalize eS48 : uNew S47 13 400 = S48
  generalize eh50 : jN S47 = h50
  have h := h h50 eh50.symm S48 eS48.symm
  obtain ⟨g51, h⟩ := h
  refine jLf.bk hc 1 [jA S48 this 12] [some (.ref this)] [] (uR S48 this 22 (some h50)) rfl rfl rfl g51 ?_
  generalize eS52 : uR S48 this 22 (some h50) = S52
  have h := h S52 eS52.symm
  refine jLf.bk hc 2 [] [some (.ref this)] [.int 6, .ref this] S52 rfl rfl rfl trivial ?_
  obtain ⟨g54, h⟩ := h
  refine jLf.one hc _ rfl (gs := [¬ (6 : Int32) < 0, 6 ≤ 1000000, 1 ≤ 13, 6 ≤ 288350, jN S52 < 1000000]) (c := (48, [some (.ref this)], [.ref (jN S52), .ref this], (uNew S52 14 6), 12, 288344)) rfl ⟨(by decide), Nat.le_of_ble_eq_true rfl, Nat.le_of_ble_eq_true rfl, Nat.le_of_ble_eq_true rfl, g54⟩ ?_
  generalize eS53 : uNew S52 14 6 = S53
  generalize eh55 : jN S52 = h55
  have h := h h55 eh55.symm S53 eS53.symm
  obtain ⟨g56, g57, h⟩ := h
  refine jLf.bk hc 4 [(.ref h55 : Value).category = 1, jA S53 h55 14, vp_in (0 : Int32) (jZ S53 h55)] [some (.ref this)] [.ref h55, .ref this] (uJ S53 h55 (0 : Int32).toNatClampNeg 605291) rfl rfl rfl ⟨rfl, g56, g57⟩ ?_
  generalize eS58 : uJ S53 h55 (0 : Int32).toNatClampNeg 605291 = S58
  have h := h S58 eS58.symm
  obtain ⟨g59, g60, h⟩ := h
  refine jLf.bk hc 4 [(.ref h55 : Value).category = 1, jA S58 h55 14, vp_in (1 : Int32) (jZ S58 h55)] [some (.ref this)] [.ref h55, .ref this] (uJ S58 h55 (1 : Int32).toNatClampNeg 655) rfl rfl rfl ⟨rfl, g59, g60⟩ ?_
  generalize eS61 : uJ S58 h55 (1 : Int32).toNatClampNeg 655 = S61
  have h := h S61 eS61.symm
  obtain ⟨g62, g63, h⟩ := h
  refine jLf.bk hc 4 [(.ref h55 : Value).category = 1, jA S61 h55 14, vp_in (2 : Int32) (jZ S61 h55)] [some (.ref this)] [.ref h55, .ref this] (uJ S61 h55 (2 : Int32).toNatClampNeg 14982420) rfl rfl rfl ⟨rfl, g62, g63⟩ ?_
  generalize eS64 : uJ S61 h55 (2 : Int32).toNatClampNeg 14982420 = S64
  have h := h S64 eS64.symm
  obtain ⟨g65, g66, h⟩ := h
  refine jLf.bk hc 4 [(.ref h55 : Value).category = 1, jA S64 h55 14, vp_in (3 : Int32) (jZ S64 h55)] [some (.ref this)] [.ref h55, .ref this] (uJ S64 h55 (3 : Int32).toNatClampNeg 20594253) rfl rfl rfl ⟨rfl, g65, g66⟩ ?_
  generalize eS67 : uJ S64 h55 (3 : Int32).toNatClampNeg 20594253 = S67
  have h := h S67 eS67.symm
  obtain ⟨g68, g69, h⟩ := h
  refine jLf.bk hc 4 [(.ref h55 : Value).category = 1, jA S67 h55 14, vp_in (4 : Int32) (jZ S67 h55)] [some (.ref this)] [.ref h55, .ref this] (uJ S67 h55 (4 : Int32).toNatClampNeg 441828) rfl rfl rfl ⟨rfl, g68, g69⟩ ?_
  generalize eS70 : uJ S67 h55 (4 : Int32).toNatClampNeg 441828 = S70
  have h := h S70 eS70.symm
  obtain ⟨g71, g72, h⟩ := h
  refine jLf.bk hc 4 [(.ref h55 : Value).category = 1, jA S70 h55 14, vp_in (5 : Int32) (jZ S70 h55)] [some (.ref this)] [.ref h55, .ref this] (uJ S70 h55 (5 : Int32).toNatClampNeg 6194) rfl rfl rfl ⟨rfl, g71, g72⟩ ?_
  generalize eS73 : uJ S70 h55 (5 : Int32).toNatClampNeg 6194 = S73
  have h := h S73 eS73.symm
  obtain ⟨g74, h⟩ := h
  refine jLf.bk hc 1 [jA S73 this 12] [some (.ref this)] [] (uR S73 this 25 (some h55)) rfl rfl rfl g74 ?_
  generalize eS75 : uR S73 this 25 (some h55) = S75
  have h := h S75 eS75.symm
  refine jLf.bk hc 2 [] [some (.ref this)] [.int 3, .ref this] S75 rfl rfl rfl trivial ?_
  obtain ⟨g77, h⟩ := h
  refine jLf.one hc _ rfl (gs := [¬ (3 : Int32) < 0, 3 ≤ 1000000, 1 ≤ 12, 3 ≤ 288344, jN S75 < 1000000]) (c := (76, [some (.ref this)], [.ref (jN S75), .ref this], (uNew S75 14 3), 11, 288341)) rfl ⟨(by decide), Nat.le_of_ble_eq_true rfl, Nat.le_of_ble_eq_true rfl, Nat.le_of_ble_eq_true rfl, g77⟩ ?_
  generalize eS76 : uNew S75 14 3 = S76
  generalize eh78 : jN S75 = h78
  have h := h h78 eh78.symm S76 eS76.symm
  obtain ⟨g79, g80, h⟩ := h
  refine jLf.bk hc 4 [(.ref h78 : Value).category = 1, jA S76 h78 14, vp_in (0 : Int32) (jZ S76 h78)] [some (.ref this)] [.ref h78, .ref this] (uJ S76 h78 (0 : Int32).toNatClampNeg 135732402) rfl rfl rfl ⟨rfl, g79, g80⟩ ?_
  generalize eS81 : uJ S76 h78 (0 : Int32).toNatClampNeg 135732402 = S81
  have h := h S81 eS81.symm
  obtain ⟨g82, g83, h⟩ := h
  refine jLf.bk hc 4 [(.ref h78 : Value).category = 1, jA S81 h78 14, vp_in (1 : Int32) (jZ S81 h78)] [some (.ref this)] [.ref h78, .ref this] (uJ S81 h78 (1 : Int32).toNatClampNeg 763276) rfl rfl rfl ⟨rfl, g82, g83⟩ ?_
  generalize eS84 : uJ S81 h78 (1 : Int32).toNatClampNeg 763276 = S84
  have h := h S84 eS84.symm
  obtain ⟨g85, g86, h⟩ := h
  refine jLf.bk hc 4 [(.ref h78 : Value).category = 1, jA S84 h78 14, vp_in (2 : Int32) (jZ S84 h78)] [some (.ref this)] [.ref h78, .ref this] (uJ S84 h78 (2 : Int32).toNatClampNeg 67155) rfl rfl rfl ⟨rfl, g85, g86⟩ ?_
  generalize eS87 : uJ S84 h78 (2 : Int32).toNatClampNeg 67155 = S87
  have h := h S87 eS87.symm
  obtain ⟨g88, h⟩ := h
  refine jLf.bk hc 1 [jA S87 this 12] [some (.ref this)] [] (uR S87 this 26 (some h78)) rfl rfl rfl g88 ?_
  generalize eS89 : uR S87 this 26 (some h78) = S89
  have h := h S89 eS89.symm
  refine jLf.bk hc 2 [] [some (.ref this)] [.int 13, .ref this] S89 rfl rfl rfl trivial ?_
  obtain ⟨g91, h⟩ := h
  refine jLf.one hc _ rfl (gs := [¬ (13 : Int32) < 0, 13 ≤ 1000000, 1 ≤ 11, 13 ≤ 288341, jN S89 < 1000000]) (c := (92, [some (.ref this)], [.ref (jN S89), .ref this], (uNew S89 14 13), 10, 288328)) rfl ⟨(by decide), Nat.le_of_ble_eq_true rfl, Nat.le_of_ble_eq_true rfl, Nat.le_of_ble_eq_true rfl, g91⟩ ?_
  generalize eS90 : uNew S89 14 13 = S90
  generalize eh92 : jN S89 = h92
  have h := h h92 eh92.symm S90 eS90.symm
  obtain ⟨g93, h⟩ := h
  refine jLf.bk hc 1 [jA S90 this 12] [some (.ref this)] [] (uR S90 this 28 (some h92)) rfl rfl rfl g93 ?_
  generalize eS94 : uR S90 this 28 (some h92) = S94
  have h := h S94 eS94.symm
  refine jLf.bk hc 2 [] [some (.ref this)] [.int 400, .ref this] S94 rfl rfl rfl trivial ?_
  obtain ⟨g96, h⟩ := h
  refine jLf.one hc _ rfl (gs := [¬ (400 : Int32) < 0, 400 ≤ 1000000, 1 ≤ 10, 400 ≤ 288328, jN S94 < 1000000]) (c := (96, [some (.ref this)], [.ref (jN S94), .ref this], (uNew S94 14 400), 9, 287928)) rfl ⟨(by decide), Nat.le_of_ble_eq_true rfl, Nat.le_of_ble_eq_true rfl, Nat.le_of_ble_eq_true rfl, g96⟩ ?_
  generalize eS95 : uNew S94 14 400 = S95
  generalize eh97 : jN S94 = h97
  have h := h h97 eh97.symm S95 eS95.symm
  obtain ⟨g98, h⟩ := h
  refine jLf.bk hc 1 [jA S95 this 12] [some (.ref this)] [] (uR S95 this 29 (some h97)) rfl rfl rfl g98 ?_
  generalize eS99 : uR S95 this 29 (some h97) = S99
  have h := h S99 eS99.symm
  refine jLf.bk hc 2 [] [some (.ref this)] [.int 540, .ref this] S99 rfl rfl rfl trivial ?_
  obtain ⟨g101, h⟩ := h
  refine jLf.one hc _ rfl (gs := [¬ (540 : Int32) < 0, 540 ≤ 1000000, 1 ≤ 9, 540 ≤ 287928, jN S99 < 1000000]) (c := (100, [some (.ref this)], [.ref (jN S99), .ref this], (uNew S99 13 540), 8, 287388)) rfl ⟨(by decide), Nat.le_of_ble_eq_true rfl, Nat.le_of_ble_eq_true rfl, Nat.le_of_ble_eq_true rfl, g101⟩ ?_
  generalize eS100 : uNew S99 13 540 = S100
  generalize eh102 : jN S99 = h102
  have h := h h102 eh102.symm S100 eS100.symm
  obtain ⟨g103, h⟩ := h
  refine jLf.bk hc 1 [jA S100 this 12] [some (.ref this)] [] (uR S100 this 33 (some h102)) rfl rfl rfl g103 ?_
  generalize eS104 : uR S100 this 33 (some h102) = S104
  have h := h S104 eS104.symm
  refine jLf.bk hc 2 [] [some (.ref this)] [.int 540, .ref this] S104 rfl rfl rfl trivial ?_
  obtain ⟨g106, h⟩ := h
  refine jLf.one hc _ rfl (gs := [¬ (540 : Int32) < 0, 540 ≤ 1000000, 1 ≤ 8, 540 ≤ 287388, jN S104 < 1000000]) (c := (104, [some (.ref this)], [.ref (jN S104), .ref this], (uNew S104 13 540), 7, 286848)) rfl ⟨(by decide), Nat.le_of_ble_eq_true rfl, Nat.le_of_ble_eq_true rfl, Nat.le_of_ble_eq_true rfl, g106⟩ ?_
  generalize eS105 : uNew S104 13 540 = S105
  generalize eh107 : jN S104 = h107
  have h := h h107 eh107.symm S105 eS105.symm
  obtain ⟨g108, h⟩ := h
  refine jLf.bk hc 1 [jA S105 this 12] [some (.ref this)] [] (uR S105 this 34 (some h107)) rfl rfl rfl g108 ?_
  generalize eS109 : uR S105 this 34 (some h107) = S109
  have h := h S109 eS109.symm
  refine jLf.bk hc 2 [] [some (.ref this)] [.int 540, .ref this] S109 rfl rfl rfl trivial ?_
  obtain ⟨g111, h⟩ := h
  refine jLf.one hc _ rfl (gs := [¬ (540 : Int32) < 0, 540 ≤ 1000000, 1 ≤ 7, 540 ≤ 286848, jN S109 < 1000000]) (c := (108, [some (.ref this)], [.ref (jN S109), .ref this], (uNew S109 13 540), 6, 286308)) rfl ⟨(by decide), Nat.le_of_ble_eq_true rfl, Nat.le_of_ble_eq_true rfl, Nat.le_of_ble_eq_true rfl, g111⟩ ?_
  generalize eS110 : uNew S109 13 540 = S110
  generalize eh112 : jN S109 = h112
  have h := h h112 eh112.symm S110 eS110.symm
  obtain ⟨g113, h⟩ := h
  refine jLf.bk hc 1 [jA S110 this 12] [some (.ref this)] [] (uR S110 this 35 (some h112)) rfl rfl rfl g113 ?_
  generalize eS114 : uR S110 this 35 (some h112) = S114
  have h := h S114 eS114.symm
  refine jLf.bk hc 2 [] [some (.ref this)] [.int 540, .ref this] S114 rfl rfl rfl trivial ?_
  obtain ⟨g116, h⟩ := h
  refine jLf.one hc _ rfl (gs := [¬ (540 : Int32) < 0, 540 ≤ 1000000, 1 ≤ 6, 540 ≤ 286308, jN S114 < 1000000]) (c := (112, [some (.ref this)], [.ref (jN S114), .ref this], (uNew S114 14 540), 5, 285768)) rfl ⟨(by decide), Nat.le_of_ble_eq_true rfl, Nat.le_of_ble_eq_true rfl, Nat.le_of_ble_eq_true rfl, g116⟩ ?_
  generalize eS115 : uNew S114 14 540 = S115
  generalize eh117 : jN S114 = h117
  have h := h h117 eh117.symm S115 eS115.symm
  obtain ⟨g118, h⟩ := h
  refine jLf.bk hc 1 [jA S115 this 12] [some (.ref this)] [] (uR S115 this 36 (some h117)) rfl rfl rfl g118 ?_
  generalize eS119 : uR S115 this 36 (some h117) = S119
  have h := h S119 eS119.symm
  refine jLf.bk hc 2 [] [some (.ref this)] [.int 276480, .ref this] S119 rfl rfl rfl trivial ?_
  obtain ⟨g121, h⟩ := h
  refine jLf.one hc _ rfl (gs := [¬ (276480 : Int32) < 0, 276480 ≤ 1000000, 1 ≤ 5, 276480 ≤ 285768, jN S119 < 1000000]) (c := (116, [some (.ref this)], [.ref (jN S119), .ref this], (uNew S119 15 276480), 4, 9288)) rfl ⟨(by decide), Nat.le_of_ble_eq_true rfl, Nat.le_of_ble_eq_true rfl, Nat.le_of_ble_eq_true rfl, g121⟩ ?_
  generalize eS120 : uNew S119 15 276480 = S120
  generalize eh122 : jN S119 = h122
  have h := h h122 eh122.symm S120 eS120.symm
  obtain ⟨g123, h⟩ := h
  refine jLf.bk hc 1 [jA S120 this 12] [some (.ref this)] [] (uR S120 this 37 (some h122)) rfl rfl rfl g123 ?_
  generalize eS124 : uR S120 this 37 (some h122) = S124
  have h := h S124 eS124.symm
  refine jLf.bk hc 2 [] [some (.ref this)] [.int 4608, .ref this] S124 rfl rfl rfl trivial ?_
  obtain ⟨g126, h⟩ := h
  refine jLf.one hc _ rfl (gs := [¬ (4608 : Int32) < 0, 4608 ≤ 1000000, 1 ≤ 4, 4608 ≤ 9288, jN S124 < 1000000]) (c := (120, [some (.ref this)], [.ref (jN S124), .ref this], (uNew S124 15 4608), 3, 4680)) rfl ⟨(by decide), Nat.le_of_ble_eq_true rfl, Nat.le_of_ble_eq_true rfl, Nat.le_of_ble_eq_true rfl, g126⟩ ?_
  generalize eS125 : uNew S124 15 4608 = S125
  generalize eh127 : jN S124 = h127
  have h := h h127 eh127.symm S125 eS125.symm
  obtain ⟨g128, h⟩ := h
  refine jLf.bk hc 1 [jA S125 this 12] [some (.ref this)] [] (uR S125 this 38 (some h127)) rfl rfl rfl g128 ?_
  generalize eS129 : uR S125 this 38 (some h127) = S129
  have h := h S129 eS129.symm
  refine jLf.bk hc 2 [] [some (.ref this)] [.int 4608, .ref this] S129 rfl rfl rfl trivial ?_
  obtain ⟨g131, h⟩ := h
  refine jLf.one hc _ rfl (gs := [¬ (4608 : Int32) < 0, 4608 ≤ 1000000, 1 ≤ 3, 4608 ≤ 4680, jN S129 < 1000000]) (c := (124, [some (.ref this)], [.ref (jN S129), .ref this], (uNew S129 15 4608), 2, 72)) rfl ⟨(by decide), Nat.le_of_ble_eq_true rfl, Nat.le_of_ble_eq_true rfl, Nat.le_of_ble_eq_true rfl, g131⟩ ?_
  generalize eS130 : uNew S129 15 4608 = S130
  generalize eh132 : jN S129 = h132
  have h := h h132 eh132.symm S130 eS130.symm
  obtain ⟨g133, h⟩ := h
  refine jLf.bk hc 1 [jA S130 this 12] [some (.ref this)] [] (uR S130 this 39 (some h132)) rfl rfl rfl g133 ?_
  generalize eS134 : uR S130 this 39 (some h132) = S134
  have h := h S134 eS134.symm
  refine jLf.bk hc 2 [] [some (.ref this)] [.int 12, .ref this] S134 rfl rfl rfl trivial ?_
  obtain ⟨g136, h⟩ := h
  refine jLf.one hc _ rfl (gs := [¬ (12 : Int32) < 0, 12 ≤ 1000000, 1 ≤ 2, 12 ≤ 72, jN S134 < 1000000]) (c := (128, [some (.ref this)], [.ref (jN S134), .ref this], (uNew S134 14 12), 1, 60)) rfl ⟨(by decide), Nat.le_of_ble_eq_true rfl, Nat.le_of_ble_eq_true rfl, Nat.le_of_ble_eq_true rfl, g136⟩ ?_
  generalize eS135 : uNew S134 14 12 = S135
  generalize eh137 : jN S134 = h137
  have h := h h137 eh137.symm S135 eS135.symm
  obtain ⟨g138, h⟩ := h
  refine jLf.bk hc 1 [jA S135 this 12] [some (.ref this)] [] (uR S135 this 40 (some h137)) rfl rfl rfl g138 ?_
  generalize eS139 : uR S135 this 40 (some h137) = S139
  have h := h S139 eS139.symm
  refine jLf.bk hc 2 [] [some (.ref this)] [.int 60, .ref this] S139 rfl rfl rfl trivial ?_
  obtain ⟨g141, h⟩ := h
  refine jLf.one hc _ rfl (gs := [¬ (60 : Int32) < 0, 60 ≤ 1000000, 1 ≤ 1, 60 ≤ 60, jN S139 < 1000000]) (c := (132, [some (.ref this)], [.ref (jN S139), .ref this], (uNew S139 13 60), 0, 0)) rfl ⟨(by decide), Nat.le_of_ble_eq_true rfl, Nat.le_of_ble_eq_true rfl, Nat.le_of_ble_eq_true rfl, g141⟩ ?_
  generalize eS140 : uNew S139 13 60 = S140
  generalize eh142 : jN S139 = h142
  have h := h h142 eh142.symm S140 eS140.symm
  obtain ⟨g143, h⟩ := h
  refine jLf.bk hc 1 [jA S140 this 12] [some (.ref this)] [] (uR S140 this 42 (some h142)) rfl rfl rfl g143 ?_
  generalize eS144 : uR S140 this 42 (some h142) = S144
  have h := h S144 eS144.symm
  obtain ⟨g145, g146, g147, g148, h⟩ := h
  refine jLf.bk hc 5 [jA S144 this 12, ¬ jR S144 this 3 = none, jA S144 (jr S144 this 3) 13, vp_in (4 : Int32) (jZ S144 (jr S144 this 3))] [some (.ref this)] [] (uI S144 (jr S144 this 3) (4 : Int32).toNatClampNeg (-1)) rfl rfl rfl ⟨g145, g146, g147, g148⟩ ?_
  generalize eS149 : uI S144 (jr S144 this 3) (4 : Int32).toNatClampNeg (-1) = S149
  have h := h S149 eS149.symm
  obtain ⟨g150, g151, g152, g153, h⟩ := h
  refine jLf.bk hc 5 [jA S149 this 12, ¬ jR S149 this 3 = none, jA S149 (jr S149 this 3) 13, vp_in (0 : Int32) (jZ S149 (jr S149 this 3))] [some (.ref this)] [] (uI S149 (jr S149 this 3) (0 : Int32).toNatClampNeg 9) rfl rfl rfl ⟨g150, g151, g152, g153⟩ ?_
  generalize eS154 : uI S149 (jr S149 this 3) (0 : Int32).toNatClampNeg 9 = S154
  have h := h S154 eS154.symm
  obtain ⟨g155, g156, g157, g158, h⟩ := h
  refine jLf.bk hc 5 [jA S154 this 12, ¬ jR S154 this 3 = none, jA S154 (jr S154 this 3) 13, vp_in (2 : Int32) (jZ S154 (jr S154 this 3))] [some (.ref this)] [] (uI S154 (jr S154 this 3) (2 : Int32).toNatClampNeg 50) rfl rfl rfl ⟨g155, g156, g157, g158⟩ ?_
  generalize eS159 : uI S154 (jr S154 this 3) (2 : Int32).toNatClampNeg 50 = S159
  have h := h S159 eS159.symm
  exact jLf.ret hc _ rfl (gs := [jrt none none]) (v := none) rfl trivial ⟨rfl, h⟩
def wX12_in  (p1 : Int64) (p2 : Int64) (p3 : Int64) (S : JS) (Q : Int32 → JS → Prop) : Prop :=
  ((lg_cmp p1 p2) < 0 → Q 0 S) ∧ (¬ ((lg_cmp p1 p2) < 0) → (0 < (lg_cmp p1 p3) → Q 0 S) ∧ (¬ (0 < (lg_cmp p1 p3)) → Q 1 S))
set_option maxRecDepth 20000 in
theorem vX12_in {Q : Int32 → JS → Prop} (d : Nat) (hd : 1 ≤ d) {p1 : Int64} {p2 : Int64} {p3 : Int64} {S : JS} (h : wX12_in p1 p2 p3 S Q) : jCall jmt jbud d 148 [.long p1, .long p2, .long p3] S (jqI Q) := by
  obtain ⟨d, rfl⟩ : ∃ d2, d = d2 + 1 := ⟨d - 1, by omega⟩
  have hd : 0 ≤ d := by omega
  have hc := jCall_mono jmt jbud d
  unfold wX12_in at h
  refine ⟨Nat.le_of_ble_eq_true rfl, ?_⟩
  show jLf (jCall jmt jbud d) jbud (fun j => (jmt j).rk) none mX12_in (jqI Q) (0, [some (.long p1), none, some (.long p2), none, some (.long p3), none], [], S, 0, 0)
  refine jLf.bk hc 3 [] [some (.long p1), none, some (.long p2), none, some (.long p3), none] [.int (lg_cmp p1 p2)] S rfl rfl rfl trivial ?_
  refine jLf.two hc _ rfl (gs := []) (p1 := (lg_cmp p1 p2) < 0) (p2 := ¬ ((lg_cmp p1 p2) < 0)) (c1 := (10, [some (.long p1), none, some (.long p2), none, some (.long p3), none], [], S, 0, 0)) (c2 := (4, [some (.long p1), none, some (.long p2), none, some (.long p3), none], [], S, 0, 0)) rfl trivial (fun hz => ?_) (fun hz => ?_)
  · have h := h.1 hz
    refine jLf.bk hc 1 [] [some (.long p1), none, some (.long p2), none, some (.long p3), none] [.int 0] S rfl rfl rfl trivial ?_
    exact jLf.ret hc _ rfl (gs := [jbit 0]) (v := some (.int 0)) rfl (Or.inl rfl) ⟨_, rfl, h⟩
  · have h := h.2 hz
    refine jLf.bk hc 3 [] [some (.long p1), none, some (.long p2), none, some (.long p3), none] [.int (lg_cmp p1 p3)] S rfl rfl rfl trivial ?_
    refine jLf.two hc _ rfl (gs := []) (p1 := 0 < (lg_cmp p1 p3)) (p2 := ¬ (0 < (lg_cmp p1 p3))) (c1 := (10, [some (.long p1), none, some (.long p2), none, some (.long p3), none], [], S, 0, 0)) (c2 := (8, [some (.long p1), none, some (.long p2), none, some (.long p3), none], [], S, 0, 0)) rfl trivial (fun hz => ?_) (fun hz => ?_)
    · have h := h.1 hz
      refine jLf.bk hc 1 [] [some (.long p1), none, some (.long p2), none, some (.long p3), none] [.int 0] S rfl rfl rfl trivial ?_
      exact jLf.ret hc _ rfl (gs := [jbit 0]) (v := some (.int 0)) rfl (Or.inl rfl) ⟨_, rfl, h⟩
    · have h := h.2 hz
      refine jLf.bk hc 1 [] [some (.long p1), none, some (.long p2), none, some (.long p3), none] [.int 1] S rfl rfl rfl trivial ?_
      refine jLf.one hc _ rfl (gs := []) (c := (11, [some (.long p1), none, some (.long p2), none, some (.long p3), none], [.int 1], S, 0, 0)) rfl trivial ?_
      exact jLf.ret hc _ rfl (gs := [jbit 1]) (v := some (.int 1)) rfl (Or.inr rfl) ⟨_, rfl, h⟩
def wX12_is  (p1 : Int32) (p2 : Int32) (S : JS) (Q : Int32 → JS → Prop) : Prop :=
  (¬ ((p1 >>> (p2 &&& 31)) &&& (1 : Int32)) = 1 → Q 0 S) ∧ (((p1 >>> (p2 &&& 31)) &&& (1 : Int32)) = 1 → Q 1 S)
set_option maxRecDepth 20000 in
theorem vX12_is {Q : Int32 → JS → Prop} (d : Nat) (hd : 1 ≤ d) {p1 : Int32} {p2 : Int32} {S : JS} (h : wX12_is p1 p2 S Q) : jCall jmt jbud d 149 [.int p1, .int p2] S (jqI Q) := by
  obtain ⟨d, rfl⟩ : ∃ d2, d = d2 + 1 := ⟨d - 1, by omega⟩
  have hd : 0 ≤ d := by omega
  have hc := jCall_mono jmt jbud d
  unfold wX12_is at h
  refine ⟨Nat.le_of_ble_eq_true rfl, ?_⟩
  show jLf (jCall jmt jbud d) jbud (fun j => (jmt j).rk) none mX12_is (jqI Q) (0, [some (.int p1), some (.int p2)], [], S, 0, 0)
  refine jLf.bk hc 6 [] [some (.int p1), some (.int p2)] [.int 1, .int ((p1 >>> (p2 &&& 31)) &&& (1 : Int32))] S rfl rfl rfl trivial ?_
  refine jLf.two hc _ rfl (gs := []) (p1 := ¬ ((p1 >>> (p2 &&& 31)) &&& (1 : Int32)) = 1) (p2 := ¬ (¬ ((p1 >>> (p2 &&& 31)) &&& (1 : Int32)) = 1)) (c1 := (9, [some (.int p1), some (.int p2)], [], S, 0, 0)) (c2 := (7, [some (.int p1), some (.int p2)], [], S, 0, 0)) rfl trivial (fun hz => ?_) (fun hz => ?_)
  · have h := h.1 hz
    refine jLf.bk hc 1 [] [some (.int p1), some (.int p2)] [.int 0] S rfl rfl rfl trivial ?_
    exact jLf.ret hc _ rfl (gs := [jbit 0]) (v := some (.int 0)) rfl (Or.inl rfl) ⟨_, rfl, h⟩
  · have h := h.2 (Classical.not_not.mp hz)
    refine jLf.bk hc 1 [] [some (.int p1), some (.int p2)] [.int 1] S rfl rfl rfl trivial ?_
    refine jLf.one hc _ rfl (gs := []) (c := (10, [some (.int p1), some (.int p2)], [.int 1], S, 0, 0)) rfl trivial ?_
    exact jLf.ret hc _ rfl (gs := [jbit 1]) (v := some (.int 1)) rfl (Or.inr rfl) ⟨_, rfl, h⟩
def wX12_tell_6   (l0 : Nat) (l1 : Int32) (s0 : Int32) (s1 : Nat) (S : JS) (Q : Int32 → JS → Prop) : Prop :=
  jA S s1 12 ∧ (∀ S2 : JS, S2 = uI S s1 1 s0 → ((0 ≤ l1 → Q l1 S2) ∧ (¬ (0 ≤ l1) → jA S2 l0 12 ∧ (¬ jR S2 l0 2 = none ∧ (jA S2 (jr S2 l0 2) 13 ∧ (vp_in (-l1) (jZ S2 (jr S2 l0 2)) ∧ (∀ S7 : JS, S7 = uI S2 (jr S2 l0 2) (-l1).toNatClampNeg ((jI S2 (jr S2 l0 2) (-l1).toNatClampNeg) + (1 : Int32)) → (Q l1 S7))))))))
set_option maxRecDepth 20000 in
theorem tX12_tell_6 {Q : Int32 → JS → Prop}  (d : Nat) (hd : 0 ≤ d) {l0 : Nat} {l1 : Int32} {s0 : Int32} {s1 : Nat} {S : JS} (h : wX12_tell_6 l0 l1 s0 s1 S Q) : jLf (jCall jmt jbud d) jbud (fun j => (jmt j).rk) none mX12_tell (jqI Q) (6, [some (.ref l0), some (.int l1)], [.int s0, .ref s1], S, 0, 0) := by
  have hc := jCall_mono jmt jbud d
  unfold wX12_tell_6 at h
  obtain ⟨g1, h⟩ := h
  refine jLf.bk hc 1 [jA S s1 12] [some (.ref l0), some (.int l1)] [] (uI S s1 1 s0) rfl rfl rfl g1 ?_
  generalize eS2 : uI S s1 1 s0 = S2
  have h := h S2 eS2.symm
  refine jLf.bk hc 1 [] [some (.ref l0), some (.int l1)] [.int l1] S2 rfl rfl rfl trivial ?_
  refine jLf.two hc _ rfl (gs := []) (p1 := 0 ≤ l1) (p2 := ¬ (0 ≤ l1)) (c1 := (18, [some (.ref l0), some (.int l1)], [], S2, 0, 0)) (c2 := (9, [some (.ref l0), some (.int l1)], [], S2, 0, 0)) rfl trivial (fun hz => ?_) (fun hz => ?_)
  · have h := h.1 hz
    refine jLf.bk hc 1 [] [some (.ref l0), some (.int l1)] [.int l1] S2 rfl rfl rfl trivial ?_
    exact jLf.ret hc _ rfl (gs := [True]) (v := some (.int l1)) rfl trivial ⟨l1, rfl, h⟩
  · have h := h.2 hz
    obtain ⟨g3, g4, g5, g6, h⟩ := h
    refine jLf.bk hc 9 [jA S2 l0 12, ¬ jR S2 l0 2 = none, jA S2 (jr S2 l0 2) 13, vp_in (-l1) (jZ S2 (jr S2 l0 2)), jA S2 (jr S2 l0 2) 13, vp_in (-l1) (jZ S2 (jr S2 l0 2))] [some (.ref l0), some (.int l1)] [] (uI S2 (jr S2 l0 2) (-l1).toNatClampNeg ((jI S2 (jr S2 l0 2) (-l1).toNatClampNeg) + (1 : Int32))) rfl rfl rfl ⟨g3, g4, g5, g6, g5, g6⟩ ?_
    generalize eS7 : uI S2 (jr S2 l0 2) (-l1).toNatClampNeg ((jI S2 (jr S2 l0 2) (-l1).toNatClampNeg) + (1 : Int32)) = S7
    have h := h S7 eS7.symm
    refine jLf.bk hc 1 [] [some (.ref l0), some (.int l1)] [.int l1] S7 rfl rfl rfl trivial ?_
    exact jLf.ret hc _ rfl (gs := [True]) (v := some (.int l1)) rfl trivial ⟨l1, rfl, h⟩
def wX12_tell  (this : Nat) (p1 : Int32) (S : JS) (Q : Int32 → JS → Prop) : Prop :=
  (0 ≤ p1 → wX12_tell_6 this p1 0 this S Q) ∧ (¬ (0 ≤ p1) → wX12_tell_6 this p1 p1 this S Q)
set_option maxRecDepth 20000 in
theorem vX12_tell {Q : Int32 → JS → Prop} (d : Nat) (hd : 1 ≤ d) {this : Nat} {p1 : Int32} {S : JS} (h : wX12_tell this p1 S Q) : jCall jmt jbud d 150 [.ref this, .int p1] S (jqI Q) := by
  obtain ⟨d, rfl⟩ : ∃ d2, d = d2 + 1 := ⟨d - 1, by omega⟩
  have hd : 0 ≤ d := by omega
  have hc := jCall_mono jmt jbud d
  unfold wX12_tell at h
  refine ⟨Nat.le_of_ble_eq_true rfl, ?_⟩
  show jLf (jCall jmt jbud d) jbud (fun j => (jmt j).rk) none mX12_tell (jqI Q) (0, [some (.ref this), some (.int p1)], [], S, 0, 0)
  refine jLf.bk hc 2 [] [some (.ref this), some (.int p1)] [.int p1, .ref this] S rfl rfl rfl trivial ?_
  refine jLf.two hc _ rfl (gs := []) (p1 := 0 ≤ p1) (p2 := ¬ (0 ≤ p1)) (c1 := (5, [some (.ref this), some (.int p1)], [.ref this], S, 0, 0)) (c2 := (3, [some (.ref this), some (.int p1)], [.ref this], S, 0, 0)) rfl trivial (fun hz => ?_) (fun hz => ?_)
  · have h := h.1 hz
    refine jLf.bk hc 1 [] [some (.ref this), some (.int p1)] [.int 0, .ref this] S rfl rfl rfl trivial ?_
    exact tX12_tell_6 d hd  h
  · have h := h.2 hz
    refine jLf.bk hc 1 [] [some (.ref this), some (.int p1)] [.int p1, .ref this] S rfl rfl rfl trivial ?_
    refine jLf.one hc _ rfl (gs := []) (c := (6, [some (.ref this), some (.int p1)], [.int p1, .ref this], S, 0, 0)) rfl trivial ?_
    exact tX12_tell_6 d hd  h
def wX12_change  (this : Nat) (p1 : Int32) (p2 : Int32) (S : JS) (Q : Int32 → JS → Prop) : Prop :=
  jA S this 12 ∧ (¬ jR S this 3 = none ∧ (jA S (jr S this 3) 13 ∧ (vp_in p1 (jZ S (jr S this 3)) ∧ (∀ x5 : Int32, x5 = (jI S (jr S this 3) p1.toNatClampNeg) → (∀ S6 : JS, S6 = uI S (jr S this 3) p1.toNatClampNeg p2 → (jA S6 this 12 ∧ (∀ S8 : JS, S8 = uI S6 this 1 0 → (Q x5 S8))))))))
set_option maxRecDepth 20000 in
theorem vX12_change {Q : Int32 → JS → Prop} (d : Nat) (hd : 1 ≤ d) {this : Nat} {p1 : Int32} {p2 : Int32} {S : JS} (h : wX12_change this p1 p2 S Q) : jCall jmt jbud d 151 [.ref this, .int p1, .int p2] S (jqI Q) := by
  obtain ⟨d, rfl⟩ : ∃ d2, d = d2 + 1 := ⟨d - 1, by omega⟩
  have hd : 0 ≤ d := by omega
  have hc := jCall_mono jmt jbud d
  unfold wX12_change at h
  refine ⟨Nat.le_of_ble_eq_true rfl, ?_⟩
  show jLf (jCall jmt jbud d) jbud (fun j => (jmt j).rk) none mX12_change (jqI Q) (0, [some (.ref this), some (.int p1), some (.int p2), none], [], S, 0, 0)
  obtain ⟨g1, g2, g3, g4, h⟩ := h
  refine jLf.bk hc 5 [jA S this 12, ¬ jR S this 3 = none, jA S (jr S this 3) 13, vp_in p1 (jZ S (jr S this 3))] [some (.ref this), some (.int p1), some (.int p2), some (.int (jI S (jr S this 3) p1.toNatClampNeg))] [] S rfl rfl rfl ⟨g1, g2, g3, g4⟩ ?_
  generalize ex5 : (jI S (jr S this 3) p1.toNatClampNeg : Int32) = x5
  have h := h x5 ex5.symm
  refine jLf.bk hc 5 [jA S this 12, ¬ jR S this 3 = none, jA S (jr S this 3) 13, vp_in p1 (jZ S (jr S this 3))] [some (.ref this), some (.int p1), some (.int p2), some (.int x5)] [] (uI S (jr S this 3) p1.toNatClampNeg p2) rfl rfl rfl ⟨g1, g2, g3, g4⟩ ?_
  generalize eS6 : uI S (jr S this 3) p1.toNatClampNeg p2 = S6
  have h := h S6 eS6.symm
  obtain ⟨g7, h⟩ := h
  refine jLf.bk hc 3 [jA S6 this 12] [some (.ref this), some (.int p1), some (.int p2), some (.int x5)] [] (uI S6 this 1 0) rfl rfl rfl g7 ?_
  generalize eS8 : uI S6 this 1 0 = S8
  have h := h S8 eS8.symm
  refine jLf.bk hc 1 [] [some (.ref this), some (.int p1), some (.int p2), some (.int x5)] [.int x5] S8 rfl rfl rfl trivial ?_
  exact jLf.ret hc _ rfl (gs := [True]) (v := some (.int x5)) rfl trivial ⟨x5, rfl, h⟩
def bX12_image_15   (X15 : Nat → Int32 → Int32 → JS → Prop) (l0 : Nat) (l1 : Int32) (l2 : Int32) (S : JS) (Q : Int32 → JS → Prop) : Prop :=
  (5600 ≤ l2 → jA S l0 12 ∧ (¬ jR S l0 5 = none ∧ (jA S (jr S l0 5) 15 ∧ (vp_in l1 (jZ S (jr S l0 5)) ∧ (∀ S9 : JS, S9 = uI S (jr S l0 5) l1.toNatClampNeg 1 → (jA S9 l0 12 ∧ (wX12_tell l0 0 S9 (fun r11 S10 => Q r11 S10)))))))) ∧ (¬ (5600 ≤ l2) → jA S l0 12 ∧ (¬ jR S l0 4 = none ∧ (¬ jR S l0 3 = none ∧ (jA S (jr S l0 3) 13 ∧ (vp_in l2 (jZ S (jr S l0 3)) ∧ (jA S (jr S l0 4) 13 ∧ (vp_in (((5600 : Int32) * l1) + l2) (jZ S (jr S l0 4)) ∧ (∀ S20 : JS, S20 = uI S (jr S l0 4) (((5600 : Int32) * l1) + l2).toNatClampNeg (jI S (jr S l0 3) l2.toNatClampNeg) → (∀ x21 : Int32, x21 = (l2 + 1) → (X15 l0 l1 x21 S20))))))))))
set_option maxRecDepth 20000 in
theorem uX12_image_15 {Q : Int32 → JS → Prop}  (d : Nat) (hd : 1 ≤ d) {X15 : Nat → Int32 → Int32 → JS → Prop} (hX15 : ∀ l0 l1 l2 S, X15 l0 l1 l2 S → jLf (jCall jmt jbud d) jbud (fun j => (jmt j).rk) none mX12_image (jqI Q) (15, [some (.ref l0), some (.int l1), some (.int l2)], [], S, 0, 0)) {l0 : Nat} {l1 : Int32} {l2 : Int32} {S : JS} (h : bX12_image_15 X15 l0 l1 l2 S Q) : jLf (jCall jmt jbud d) jbud (fun j => (jmt j).rk) none mX12_image (jqI Q) (15, [some (.ref l0), some (.int l1), some (.int l2)], [], S, 0, 0) := by
  have hc := jCall_mono jmt jbud d
  unfold bX12_image_15 at h
  refine jLf.bk hc 2 [] [some (.ref l0), some (.int l1), some (.int l2)] [.int 5600, .int l2] S rfl rfl rfl trivial ?_
  refine jLf.two hc _ rfl (gs := []) (p1 := 5600 ≤ l2) (p2 := ¬ (5600 ≤ l2)) (c1 := (32, [some (.ref l0), some (.int l1), some (.int l2)], [], S, 0, 0)) (c2 := (18, [some (.ref l0), some (.int l1), some (.int l2)], [], S, 0, 0)) rfl trivial (fun hz => ?_) (fun hz => ?_)
  · have h := h.1 hz
    obtain ⟨g5, g6, g7, g8, h⟩ := h
    refine jLf.bk hc 5 [jA S l0 12, ¬ jR S l0 5 = none, jA S (jr S l0 5) 15, vp_in l1 (jZ S (jr S l0 5)), jbit 1] [some (.ref l0), some (.int l1), some (.int l2)] [] (uI S (jr S l0 5) l1.toNatClampNeg 1) rfl rfl rfl ⟨g5, g6, g7, g8, (Or.inr rfl)⟩ ?_
    generalize eS9 : uI S (jr S l0 5) l1.toNatClampNeg 1 = S9
    have h := h S9 eS9.symm
    refine jLf.bk hc 2 [] [some (.ref l0), some (.int l1), some (.int l2)] [.int 0, .ref l0] S9 rfl rfl rfl trivial ?_
    obtain ⟨g12, h⟩ := h
    refine jLf.inv hc _ rfl (gs := [jA S9 l0 12, (([] : List Value).map fun v => v.category).sum ≤ 8, 0 ≤ 0, 0 ≤ 0]) (k := 150) (args := [.ref l0, .int 0]) (r := []) (a := 0) (b := 0) rfl ⟨g12, Nat.le_of_ble_eq_true rfl, Nat.zero_le _, Nat.zero_le _⟩ (vX12_tell d (by omega) h) ?_
    rintro v S10 ⟨r11, rfl, h⟩
    show jLf (jCall jmt jbud d) jbud (fun j => (jmt j).rk) none mX12_image (jqI Q) (40, [some (.ref l0), some (.int l1), some (.int l2)], [.int r11], S10, 0, 0)
    exact jLf.ret hc _ rfl (gs := [True]) (v := some (.int r11)) rfl trivial ⟨r11, rfl, h⟩
  · have h := h.2 hz
    obtain ⟨g13, g14, g15, g16, g17, g18, g19, h⟩ := h
    refine jLf.bk hc 12 [jA S l0 12, ¬ jR S l0 4 = none, jA S l0 12, ¬ jR S l0 3 = none, jA S (jr S l0 3) 13, vp_in l2 (jZ S (jr S l0 3)), jA S (jr S l0 4) 13, vp_in (((5600 : Int32) * l1) + l2) (jZ S (jr S l0 4))] [some (.ref l0), some (.int l1), some (.int l2)] [] (uI S (jr S l0 4) (((5600 : Int32) * l1) + l2).toNatClampNeg (jI S (jr S l0 3) l2.toNatClampNeg)) rfl rfl rfl ⟨g13, g14, g13, g15, g16, g17, g18, g19⟩ ?_
    generalize eS20 : uI S (jr S l0 4) (((5600 : Int32) * l1) + l2).toNatClampNeg (jI S (jr S l0 3) l2.toNatClampNeg) = S20
    have h := h S20 eS20.symm
    refine jLf.bk hc 1 [] [some (.ref l0), some (.int l1), some (.int (l2 + 1))] [] S20 rfl rfl rfl trivial ?_
    generalize ex21 : (l2 + 1 : Int32) = x21
    have h := h x21 ex21.symm
    refine jLf.one hc _ rfl (gs := []) (c := (15, [some (.ref l0), some (.int l1), some (.int x21)], [], S20, 0, 0)) rfl trivial ?_
    exact hX15 _ _ _ _ h
def wX12_image_15   (l0 : Nat) (l1 : Int32) (l2 : Int32) (S : JS) (Q : Int32 → JS → Prop) : Prop :=
  jLoop (fun (X15 : Nat × Int32 × Int32 × JS → Prop) q => bX12_image_15 (fun l0 l1 l2 S => X15 (l0, l1, l2, S)) q.1 q.2.1 q.2.2.1 q.2.2.2 Q) (l0, l1, l2, S)
set_option maxRecDepth 20000 in
theorem tX12_image_15 {Q : Int32 → JS → Prop}  (d : Nat) (hd : 1 ≤ d) {l0 : Nat} {l1 : Int32} {l2 : Int32} {S : JS} (h : wX12_image_15 l0 l1 l2 S Q) : jLf (jCall jmt jbud d) jbud (fun j => (jmt j).rk) none mX12_image (jqI Q) (15, [some (.ref l0), some (.int l1), some (.int l2)], [], S, 0, 0) := by
  have := h (fun q : Nat × Int32 × Int32 × JS => jLf (jCall jmt jbud d) jbud (fun j => (jmt j).rk) none mX12_image (jqI Q) (15, [some (.ref (q.1)), some (.int (q.2.1)), some (.int (q.2.2.1))], [], q.2.2.2, 0, 0)) (fun q R hb hR => uX12_image_15 d hd  (fun _ _ _ _ => hR _) hb)
  exact this
def wX12_image  (this : Nat) (p1 : Int32) (S : JS) (Q : Int32 → JS → Prop) : Prop :=
  jA S this 12 ∧ (∀ S2 : JS, S2 = uI S this 0 0 → (wX12_in (p1.toInt64) 0 1 S2 (fun r4 S3 => (¬ r4 = 0 → wX12_image_15 this p1 0 S3 Q) ∧ (r4 = 0 → jA S3 this 12 ∧ (wX12_tell this (-1) S3 (fun r23 S22 => Q r23 S22))))))
set_option maxRecDepth 20000 in
theorem vX12_image {Q : Int32 → JS → Prop} (d : Nat) (hd : 2 ≤ d) {this : Nat} {p1 : Int32} {S : JS} (h : wX12_image this p1 S Q) : jCall jmt jbud d 152 [.ref this, .int p1] S (jqI Q) := by
  obtain ⟨d, rfl⟩ : ∃ d2, d = d2 + 1 := ⟨d - 1, by omega⟩
  have hd : 1 ≤ d := by omega
  have hc := jCall_mono jmt jbud d
  unfold wX12_image at h
  refine ⟨Nat.le_of_ble_eq_true rfl, ?_⟩
  show jLf (jCall jmt jbud d) jbud (fun j => (jmt j).rk) none mX12_image (jqI Q) (0, [some (.ref this), some (.int p1), none], [], S, 0, 0)
  obtain ⟨g1, h⟩ := h
  refine jLf.bk hc 3 [jA S this 12] [some (.ref this), some (.int p1), none] [] (uI S this 0 0) rfl rfl rfl g1 ?_
  generalize eS2 : uI S this 0 0 = S2
  have h := h S2 eS2.symm
  refine jLf.bk hc 4 [] [some (.ref this), some (.int p1), none] [.long 1, .long 0, .long (p1.toInt64)] S2 rfl rfl rfl trivial ?_
  refine jLf.inv hc _ rfl (gs := [3 ≤ ([.long 1, .long 0, .long (p1.toInt64)] : List Value).length, (([] : List Value).map fun v => v.category).sum ≤ 8, 0 ≤ 0, 0 ≤ 0]) (k := 148) (args := [.long (p1.toInt64), .long 0, .long 1]) (r := []) (a := 0) (b := 0) rfl ⟨Nat.le_of_ble_eq_true rfl, Nat.le_of_ble_eq_true rfl, Nat.zero_le _, Nat.zero_le _⟩ (vX12_in d (by omega) h) ?_
  rintro v S3 ⟨r4, rfl, h⟩
  show jLf (jCall jmt jbud d) jbud (fun j => (jmt j).rk) none mX12_image (jqI Q) (8, [some (.ref this), some (.int p1), none], [.int r4], S3, 0, 0)
  refine jLf.two hc _ rfl (gs := []) (p1 := ¬ r4 = 0) (p2 := ¬ (¬ r4 = 0)) (c1 := (13, [some (.ref this), some (.int p1), none], [], S3, 0, 0)) (c2 := (9, [some (.ref this), some (.int p1), none], [], S3, 0, 0)) rfl trivial (fun hz => ?_) (fun hz => ?_)
  · have h := h.1 hz
    refine jLf.bk hc 2 [] [some (.ref this), some (.int p1), some (.int 0)] [] S3 rfl rfl rfl trivial ?_
    exact tX12_image_15 d hd  h
  · have h := h.2 (Classical.not_not.mp hz)
    refine jLf.bk hc 2 [] [some (.ref this), some (.int p1), none] [.int (-1), .ref this] S3 rfl rfl rfl trivial ?_
    obtain ⟨g24, h⟩ := h
    refine jLf.inv hc _ rfl (gs := [jA S3 this 12, (([] : List Value).map fun v => v.category).sum ≤ 8, 0 ≤ 0, 0 ≤ 0]) (k := 150) (args := [.ref this, .int (-1)]) (r := []) (a := 0) (b := 0) rfl ⟨g24, Nat.le_of_ble_eq_true rfl, Nat.zero_le _, Nat.zero_le _⟩ (vX12_tell d (by omega) h) ?_
    rintro v S22 ⟨r23, rfl, h⟩
    show jLf (jCall jmt jbud d) jbud (fun j => (jmt j).rk) none mX12_image (jqI Q) (12, [some (.ref this), some (.int p1), none], [.int r23], S22, 0, 0)
    exact jLf.ret hc _ rfl (gs := [True]) (v := some (.int r23)) rfl trivial ⟨r23, rfl, h⟩
def bX12_back_24   (X24 : Nat → Int32 → Int32 → JS → Prop) (l0 : Nat) (l1 : Int32) (l2 : Int32) (S : JS) (Q : Int32 → JS → Prop) : Prop :=
  (5600 ≤ l2 → jA S l0 12 ∧ (wX12_tell l0 0 S (fun r10 S9 => Q r10 S9))) ∧ (¬ (5600 ≤ l2) → jA S l0 12 ∧ (¬ jR S l0 3 = none ∧ (¬ jR S l0 4 = none ∧ (jA S (jr S l0 4) 13 ∧ (vp_in (((5600 : Int32) * l1) + l2) (jZ S (jr S l0 4)) ∧ (jA S (jr S l0 3) 13 ∧ (vp_in l2 (jZ S (jr S l0 3)) ∧ (∀ S19 : JS, S19 = uI S (jr S l0 3) l2.toNatClampNeg (jI S (jr S l0 4) (((5600 : Int32) * l1) + l2).toNatClampNeg) → (∀ x20 : Int32, x20 = (l2 + 1) → (X24 l0 l1 x20 S19))))))))))
set_option maxRecDepth 20000 in
theorem uX12_back_24 {Q : Int32 → JS → Prop}  (d : Nat) (hd : 1 ≤ d) {X24 : Nat → Int32 → Int32 → JS → Prop} (hX24 : ∀ l0 l1 l2 S, X24 l0 l1 l2 S → jLf (jCall jmt jbud d) jbud (fun j => (jmt j).rk) none mX12_back (jqI Q) (24, [some (.ref l0), some (.int l1), some (.int l2)], [], S, 0, 0)) {l0 : Nat} {l1 : Int32} {l2 : Int32} {S : JS} (h : bX12_back_24 X24 l0 l1 l2 S Q) : jLf (jCall jmt jbud d) jbud (fun j => (jmt j).rk) none mX12_back (jqI Q) (24, [some (.ref l0), some (.int l1), some (.int l2)], [], S, 0, 0) := by
  have hc := jCall_mono jmt jbud d
  unfold bX12_back_24 at h
  refine jLf.bk hc 2 [] [some (.ref l0), some (.int l1), some (.int l2)] [.int 5600, .int l2] S rfl rfl rfl trivial ?_
  refine jLf.two hc _ rfl (gs := []) (p1 := 5600 ≤ l2) (p2 := ¬ (5600 ≤ l2)) (c1 := (41, [some (.ref l0), some (.int l1), some (.int l2)], [], S, 0, 0)) (c2 := (27, [some (.ref l0), some (.int l1), some (.int l2)], [], S, 0, 0)) rfl trivial (fun hz => ?_) (fun hz => ?_)
  · have h := h.1 hz
    refine jLf.bk hc 2 [] [some (.ref l0), some (.int l1), some (.int l2)] [.int 0, .ref l0] S rfl rfl rfl trivial ?_
    obtain ⟨g11, h⟩ := h
    refine jLf.inv hc _ rfl (gs := [jA S l0 12, (([] : List Value).map fun v => v.category).sum ≤ 8, 0 ≤ 0, 0 ≤ 0]) (k := 150) (args := [.ref l0, .int 0]) (r := []) (a := 0) (b := 0) rfl ⟨g11, Nat.le_of_ble_eq_true rfl, Nat.zero_le _, Nat.zero_le _⟩ (vX12_tell d (by omega) h) ?_
    rintro v S9 ⟨r10, rfl, h⟩
    show jLf (jCall jmt jbud d) jbud (fun j => (jmt j).rk) none mX12_back (jqI Q) (44, [some (.ref l0), some (.int l1), some (.int l2)], [.int r10], S9, 0, 0)
    exact jLf.ret hc _ rfl (gs := [True]) (v := some (.int r10)) rfl trivial ⟨r10, rfl, h⟩
  · have h := h.2 hz
    obtain ⟨g12, g13, g14, g15, g16, g17, g18, h⟩ := h
    refine jLf.bk hc 12 [jA S l0 12, ¬ jR S l0 3 = none, jA S l0 12, ¬ jR S l0 4 = none, jA S (jr S l0 4) 13, vp_in (((5600 : Int32) * l1) + l2) (jZ S (jr S l0 4)), jA S (jr S l0 3) 13, vp_in l2 (jZ S (jr S l0 3))] [some (.ref l0), some (.int l1), some (.int l2)] [] (uI S (jr S l0 3) l2.toNatClampNeg (jI S (jr S l0 4) (((5600 : Int32) * l1) + l2).toNatClampNeg)) rfl rfl rfl ⟨g12, g13, g12, g14, g15, g16, g17, g18⟩ ?_
    generalize eS19 : uI S (jr S l0 3) l2.toNatClampNeg (jI S (jr S l0 4) (((5600 : Int32) * l1) + l2).toNatClampNeg) = S19
    have h := h S19 eS19.symm
    refine jLf.bk hc 1 [] [some (.ref l0), some (.int l1), some (.int (l2 + 1))] [] S19 rfl rfl rfl trivial ?_
    generalize ex20 : (l2 + 1 : Int32) = x20
    have h := h x20 ex20.symm
    refine jLf.one hc _ rfl (gs := []) (c := (24, [some (.ref l0), some (.int l1), some (.int x20)], [], S19, 0, 0)) rfl trivial ?_
    exact hX24 _ _ _ _ h
def wX12_back_24   (l0 : Nat) (l1 : Int32) (l2 : Int32) (S : JS) (Q : Int32 → JS → Prop) : Prop :=
  jLoop (fun (X24 : Nat × Int32 × Int32 × JS → Prop) q => bX12_back_24 (fun l0 l1 l2 S => X24 (l0, l1, l2, S)) q.1 q.2.1 q.2.2.1 q.2.2.2 Q) (l0, l1, l2, S)
set_option maxRecDepth 20000 in
theorem tX12_back_24 {Q : Int32 → JS → Prop}  (d : Nat) (hd : 1 ≤ d) {l0 : Nat} {l1 : Int32} {l2 : Int32} {S : JS} (h : wX12_back_24 l0 l1 l2 S Q) : jLf (jCall jmt jbud d) jbud (fun j => (jmt j).rk) none mX12_back (jqI Q) (24, [some (.ref l0), some (.int l1), some (.int l2)], [], S, 0, 0) := by
  have := h (fun q : Nat × Int32 × Int32 × JS => jLf (jCall jmt jbud d) jbud (fun j => (jmt j).rk) none mX12_back (jqI Q) (24, [some (.ref (q.1)), some (.int (q.2.1)), some (.int (q.2.2.1))], [], q.2.2.2, 0, 0)) (fun q R hb hR => uX12_back_24 d hd  (fun _ _ _ _ => hR _) hb)
  exact this
def wX12_back  (this : Nat) (p1 : Int32) (S : JS) (Q : Int32 → JS → Prop) : Prop :=
  jA S this 12 ∧ (∀ S2 : JS, S2 = uI S this 0 0 → (wX12_in (p1.toInt64) 0 1 S2 (fun r4 S3 => (¬ r4 = 0 → jA S3 this 12 ∧ (¬ jR S3 this 5 = none ∧ (jA S3 (jr S3 this 5) 15 ∧ (vp_in p1 (jZ S3 (jr S3 this 5)) ∧ ((¬ (jI S3 (jr S3 this 5) p1.toNatClampNeg) = 0 → wX12_back_24 this p1 0 S3 Q) ∧ ((jI S3 (jr S3 this 5) p1.toNatClampNeg) = 0 → wX12_tell this (-2) S3 (fun r22 S21 => Q r22 S21))))))) ∧ (r4 = 0 → jA S3 this 12 ∧ (wX12_tell this (-1) S3 (fun r24 S23 => Q r24 S23))))))
set_option maxRecDepth 20000 in
theorem vX12_back {Q : Int32 → JS → Prop} (d : Nat) (hd : 2 ≤ d) {this : Nat} {p1 : Int32} {S : JS} (h : wX12_back this p1 S Q) : jCall jmt jbud d 153 [.ref this, .int p1] S (jqI Q) := by
  obtain ⟨d, rfl⟩ : ∃ d2, d = d2 + 1 := ⟨d - 1, by omega⟩
  have hd : 1 ≤ d := by omega
  have hc := jCall_mono jmt jbud d
  unfold wX12_back at h
  refine ⟨Nat.le_of_ble_eq_true rfl, ?_⟩
  show jLf (jCall jmt jbud d) jbud (fun j => (jmt j).rk) none mX12_back (jqI Q) (0, [some (.ref this), some (.int p1), none], [], S, 0, 0)
  obtain ⟨g1, h⟩ := h
  refine jLf.bk hc 3 [jA S this 12] [some (.ref this), some (.int p1), none] [] (uI S this 0 0) rfl rfl rfl g1 ?_
  generalize eS2 : uI S this 0 0 = S2
  have h := h S2 eS2.symm
  refine jLf.bk hc 4 [] [some (.ref this), some (.int p1), none] [.long 1, .long 0, .long (p1.toInt64)] S2 rfl rfl rfl trivial ?_
  refine jLf.inv hc _ rfl (gs := [3 ≤ ([.long 1, .long 0, .long (p1.toInt64)] : List Value).length, (([] : List Value).map fun v => v.category).sum ≤ 8, 0 ≤ 0, 0 ≤ 0]) (k := 148) (args := [.long (p1.toInt64), .long 0, .long 1]) (r := []) (a := 0) (b := 0) rfl ⟨Nat.le_of_ble_eq_true rfl, Nat.le_of_ble_eq_true rfl, Nat.zero_le _, Nat.zero_le _⟩ (vX12_in d (by omega) h) ?_
  rintro v S3 ⟨r4, rfl, h⟩
  show jLf (jCall jmt jbud d) jbud (fun j => (jmt j).rk) none mX12_back (jqI Q) (8, [some (.ref this), some (.int p1), none], [.int r4], S3, 0, 0)
  refine jLf.two hc _ rfl (gs := []) (p1 := ¬ r4 = 0) (p2 := ¬ (¬ r4 = 0)) (c1 := (13, [some (.ref this), some (.int p1), none], [], S3, 0, 0)) (c2 := (9, [some (.ref this), some (.int p1), none], [], S3, 0, 0)) rfl trivial (fun hz => ?_) (fun hz => ?_)
  · have h := h.1 hz
    obtain ⟨g5, g6, g7, g8, h⟩ := h
    refine jLf.bk hc 4 [jA S3 this 12, ¬ jR S3 this 5 = none, jA S3 (jr S3 this 5) 15, vp_in p1 (jZ S3 (jr S3 this 5))] [some (.ref this), some (.int p1), none] [.int (jI S3 (jr S3 this 5) p1.toNatClampNeg)] S3 rfl rfl rfl ⟨g5, g6, g7, g8⟩ ?_
    refine jLf.two hc _ rfl (gs := []) (p1 := ¬ (jI S3 (jr S3 this 5) p1.toNatClampNeg) = 0) (p2 := ¬ (¬ (jI S3 (jr S3 this 5) p1.toNatClampNeg) = 0)) (c1 := (22, [some (.ref this), some (.int p1), none], [], S3, 0, 0)) (c2 := (18, [some (.ref this), some (.int p1), none], [], S3, 0, 0)) rfl trivial (fun hz => ?_) (fun hz => ?_)
    · have h := h.1 hz
      refine jLf.bk hc 2 [] [some (.ref this), some (.int p1), some (.int 0)] [] S3 rfl rfl rfl trivial ?_
      exact tX12_back_24 d hd  h
    · have h := h.2 (Classical.not_not.mp hz)
      refine jLf.bk hc 2 [] [some (.ref this), some (.int p1), none] [.int (-2), .ref this] S3 rfl rfl rfl trivial ?_
      refine jLf.inv hc _ rfl (gs := [jA S3 this 12, (([] : List Value).map fun v => v.category).sum ≤ 8, 0 ≤ 0, 0 ≤ 0]) (k := 150) (args := [.ref this, .int (-2)]) (r := []) (a := 0) (b := 0) rfl ⟨g5, Nat.le_of_ble_eq_true rfl, Nat.zero_le _, Nat.zero_le _⟩ (vX12_tell d (by omega) h) ?_
      rintro v S21 ⟨r22, rfl, h⟩
      show jLf (jCall jmt jbud d) jbud (fun j => (jmt j).rk) none mX12_back (jqI Q) (21, [some (.ref this), some (.int p1), none], [.int r22], S21, 0, 0)
      exact jLf.ret hc _ rfl (gs := [True]) (v := some (.int r22)) rfl trivial ⟨r22, rfl, h⟩
  · have h := h.2 (Classical.not_not.mp hz)
    refine jLf.bk hc 2 [] [some (.ref this), some (.int p1), none] [.int (-1), .ref this] S3 rfl rfl rfl trivial ?_
    obtain ⟨g25, h⟩ := h
    refine jLf.inv hc _ rfl (gs := [jA S3 this 12, (([] : List Value).map fun v => v.category).sum ≤ 8, 0 ≤ 0, 0 ≤ 0]) (k := 150) (args := [.ref this, .int (-1)]) (r := []) (a := 0) (b := 0) rfl ⟨g25, Nat.le_of_ble_eq_true rfl, Nat.zero_le _, Nat.zero_le _⟩ (vX12_tell d (by omega) h) ?_
    rintro v S23 ⟨r24, rfl, h⟩
    show jLf (jCall jmt jbud d) jbud (fun j => (jmt j).rk) none mX12_back (jqI Q) (12, [some (.ref this), some (.int p1), none], [.int r24], S23, 0, 0)
    exact jLf.ret hc _ rfl (gs := [True]) (v := some (.int r24)) rfl trivial ⟨r24, rfl, h⟩
def wX12_rocks  (this : Nat) (S : JS) (Q : Int32 → JS → Prop) : Prop :=
  jA S this 12 ∧ (¬ jR S this 3 = none ∧ (jA S (jr S this 3) 13 ∧ (vp_in (0 : Int32) (jZ S (jr S this 3)) ∧ (Q (jI S (jr S this 3) (0 : Int32).toNatClampNeg) S))))
set_option maxRecDepth 20000 in
theorem vX12_rocks {Q : Int32 → JS → Prop} (d : Nat) (hd : 1 ≤ d) {this : Nat} {S : JS} (h : wX12_rocks this S Q) : jCall jmt jbud d 154 [.ref this] S (jqI Q) := by
  obtain ⟨d, rfl⟩ : ∃ d2, d = d2 + 1 := ⟨d - 1, by omega⟩
  have hd : 0 ≤ d := by omega
  have hc := jCall_mono jmt jbud d
  unfold wX12_rocks at h
  refine ⟨Nat.le_of_ble_eq_true rfl, ?_⟩
  show jLf (jCall jmt jbud d) jbud (fun j => (jmt j).rk) none mX12_rocks (jqI Q) (0, [some (.ref this)], [], S, 0, 0)
  obtain ⟨g1, g2, g3, g4, h⟩ := h
  refine jLf.bk hc 4 [jA S this 12, ¬ jR S this 3 = none, jA S (jr S this 3) 13, vp_in (0 : Int32) (jZ S (jr S this 3))] [some (.ref this)] [.int (jI S (jr S this 3) (0 : Int32).toNatClampNeg)] S rfl rfl rfl ⟨g1, g2, g3, g4⟩ ?_
  exact jLf.ret hc _ rfl (gs := [True]) (v := some (.int (jI S (jr S this 3) (0 : Int32).toNatClampNeg))) rfl trivial ⟨jI S (jr S this 3) (0 : Int32).toNatClampNeg, rfl, h⟩
def wX12_isRock  (this : Nat) (p1 : Int32) (S : JS) (Q : Int32 → JS → Prop) : Prop :=
  jA S this 12 ∧ (wX12_rocks this S (fun r2 S1 => wX12_in (p1.toInt64) 0 ((r2.toInt64) - (1 : Int64)) S1 (fun r5 S4 => jbit r5 ∧ Q r5 S4)))
set_option maxRecDepth 20000 in
theorem vX12_isRock {Q : Int32 → JS → Prop} (d : Nat) (hd : 2 ≤ d) {this : Nat} {p1 : Int32} {S : JS} (h : wX12_isRock this p1 S Q) : jCall jmt jbud d 155 [.ref this, .int p1] S (jqI Q) := by
  obtain ⟨d, rfl⟩ : ∃ d2, d = d2 + 1 := ⟨d - 1, by omega⟩
  have hd : 1 ≤ d := by omega
  have hc := jCall_mono jmt jbud d
  unfold wX12_isRock at h
  refine ⟨Nat.le_of_ble_eq_true rfl, ?_⟩
  show jLf (jCall jmt jbud d) jbud (fun j => (jmt j).rk) none mX12_isRock (jqI Q) (0, [some (.ref this), some (.int p1)], [], S, 0, 0)
  refine jLf.bk hc 4 [] [some (.ref this), some (.int p1)] [.ref this, .long 0, .long (p1.toInt64)] S rfl rfl rfl trivial ?_
  obtain ⟨g3, h⟩ := h
  refine jLf.inv hc _ rfl (gs := [jA S this 12, (([.long 0, .long (p1.toInt64)] : List Value).map fun v => v.category).sum ≤ 8, 0 ≤ 0, 0 ≤ 0]) (k := 154) (args := [.ref this]) (r := [.long 0, .long (p1.toInt64)]) (a := 0) (b := 0) rfl ⟨g3, Nat.le_of_ble_eq_true rfl, Nat.zero_le _, Nat.zero_le _⟩ (vX12_rocks d (by omega) h) ?_
  rintro v S1 ⟨r2, rfl, h⟩
  show jLf (jCall jmt jbud d) jbud (fun j => (jmt j).rk) none mX12_isRock (jqI Q) (5, [some (.ref this), some (.int p1)], [.int r2, .long 0, .long (p1.toInt64)], S1, 0, 0)
  refine jLf.bk hc 3 [] [some (.ref this), some (.int p1)] [.long ((r2.toInt64) - (1 : Int64)), .long 0, .long (p1.toInt64)] S1 rfl rfl rfl trivial ?_
  refine jLf.inv hc _ rfl (gs := [3 ≤ ([.long ((r2.toInt64) - (1 : Int64)), .long 0, .long (p1.toInt64)] : List Value).length, (([] : List Value).map fun v => v.category).sum ≤ 8, 0 ≤ 0, 0 ≤ 0]) (k := 148) (args := [.long (p1.toInt64), .long 0, .long ((r2.toInt64) - (1 : Int64))]) (r := []) (a := 0) (b := 0) rfl ⟨Nat.le_of_ble_eq_true rfl, Nat.le_of_ble_eq_true rfl, Nat.zero_le _, Nat.zero_le _⟩ (vX12_in d (by omega) h) ?_
  rintro v S4 ⟨r5, rfl, h⟩
  show jLf (jCall jmt jbud d) jbud (fun j => (jmt j).rk) none mX12_isRock (jqI Q) (9, [some (.ref this), some (.int p1)], [.int r5], S4, 0, 0)
  exact jLf.ret hc _ rfl (gs := [jbit r5]) (v := some (.int r5)) rfl h.1 ⟨_, rfl, h.2⟩
def wX12_isNight  (p1 : Int32) (S : JS) (Q : Int32 → JS → Prop) : Prop :=
  wX12_in (p1.toInt64) 0 59 S (fun r2 S1 => jbit r2 ∧ Q r2 S1)
set_option maxRecDepth 20000 in
theorem vX12_isNight {Q : Int32 → JS → Prop} (d : Nat) (hd : 2 ≤ d) {p1 : Int32} {S : JS} (h : wX12_isNight p1 S Q) : jCall jmt jbud d 156 [.int p1] S (jqI Q) := by
  obtain ⟨d, rfl⟩ : ∃ d2, d = d2 + 1 := ⟨d - 1, by omega⟩
  have hd : 1 ≤ d := by omega
  have hc := jCall_mono jmt jbud d
  unfold wX12_isNight at h
  refine ⟨Nat.le_of_ble_eq_true rfl, ?_⟩
  show jLf (jCall jmt jbud d) jbud (fun j => (jmt j).rk) none mX12_isNight (jqI Q) (0, [some (.int p1)], [], S, 0, 0)
  refine jLf.bk hc 4 [] [some (.int p1)] [.long 59, .long 0, .long (p1.toInt64)] S rfl rfl rfl trivial ?_
  refine jLf.inv hc _ rfl (gs := [3 ≤ ([.long 59, .long 0, .long (p1.toInt64)] : List Value).length, (([] : List Value).map fun v => v.category).sum ≤ 8, 0 ≤ 0, 0 ≤ 0]) (k := 148) (args := [.long (p1.toInt64), .long 0, .long 59]) (r := []) (a := 0) (b := 0) rfl ⟨Nat.le_of_ble_eq_true rfl, Nat.le_of_ble_eq_true rfl, Nat.zero_le _, Nat.zero_le _⟩ (vX12_in d (by omega) h) ?_
  rintro v S1 ⟨r2, rfl, h⟩
  show jLf (jCall jmt jbud d) jbud (fun j => (jmt j).rk) none mX12_isNight (jqI Q) (5, [some (.int p1)], [.int r2], S1, 0, 0)
  exact jLf.ret hc _ rfl (gs := [jbit r2]) (v := some (.int r2)) rfl h.1 ⟨_, rfl, h.2⟩
def wX12_terms_61   (l0 : Nat) (l1 : Int32) (l2 : Int32) (S : JS) (Q : Int32 → JS → Prop) : Prop :=
  jA S l0 12 ∧ (wX12_change l0 l1 l2 S (fun r4 S3 => Q r4 S3))
set_option maxRecDepth 20000 in
theorem tX12_terms_61 {Q : Int32 → JS → Prop}  (d : Nat) (hd : 1 ≤ d) {l0 : Nat} {l1 : Int32} {l2 : Int32} {S : JS} (h : wX12_terms_61 l0 l1 l2 S Q) : jLf (jCall jmt jbud d) jbud (fun j => (jmt j).rk) none mX12_terms (jqI Q) (61, [some (.ref l0), some (.int l1), some (.int l2), none], [], S, 0, 0) := by
  have hc := jCall_mono jmt jbud d
  unfold wX12_terms_61 at h
  refine jLf.bk hc 3 [] [some (.ref l0), some (.int l1), some (.int l2), none] [.int l2, .int l1, .ref l0] S rfl rfl rfl trivial ?_
  obtain ⟨g5, h⟩ := h
  refine jLf.inv hc _ rfl (gs := [jA S l0 12, (([] : List Value).map fun v => v.category).sum ≤ 8, 0 ≤ 0, 0 ≤ 0]) (k := 151) (args := [.ref l0, .int l1, .int l2]) (r := []) (a := 0) (b := 0) rfl ⟨g5, Nat.le_of_ble_eq_true rfl, Nat.zero_le _, Nat.zero_le _⟩ (vX12_change d (by omega) h) ?_
  rintro v S3 ⟨r4, rfl, h⟩
  show jLf (jCall jmt jbud d) jbud (fun j => (jmt j).rk) none mX12_terms (jqI Q) (65, [some (.ref l0), some (.int l1), some (.int l2), none], [.int r4], S3, 0, 0)
  exact jLf.ret hc _ rfl (gs := [True]) (v := some (.int r4)) rfl trivial ⟨r4, rfl, h⟩
def wX12_terms_32   (l0 : Nat) (l1 : Int32) (l2 : Int32) (s0 : Int32) (S : JS) (Q : Int32 → JS → Prop) : Prop :=
  (¬ s0 = 0 → (¬ l1 = 0 → wX12_terms_61 l0 l1 l2 S Q) ∧ (l1 = 0 → jA S l0 12 ∧ (¬ jR S l0 3 = none ∧ (jA S (jr S l0 3) 13 ∧ (vp_in (5 : Int32) (jZ S (jr S l0 3)) ∧ (∀ S10 : JS, S10 = uI S (jr S l0 3) (5 : Int32).toNatClampNeg 0 → (jA S10 l0 12 ∧ (¬ jR S10 l0 3 = none ∧ (jA S10 (jr S10 l0 3) 13 ∧ (vp_in (6 : Int32) (jZ S10 (jr S10 l0 3)) ∧ (∀ S15 : JS, S15 = uI S10 (jr S10 l0 3) (6 : Int32).toNatClampNeg 0 → (jA S15 l0 12 ∧ (¬ jR S15 l0 3 = none ∧ (jA S15 (jr S15 l0 3) 13 ∧ (vp_in (7 : Int32) (jZ S15 (jr S15 l0 3)) ∧ (∀ S20 : JS, S20 = uI S15 (jr S15 l0 3) (7 : Int32).toNatClampNeg 0 → (jA S20 l0 12 ∧ (¬ jR S20 l0 3 = none ∧ (jA S20 (jr S20 l0 3) 13 ∧ (vp_in (80 : Int32) (jZ S20 (jr S20 l0 3)) ∧ (∀ S25 : JS, S25 = uI S20 (jr S20 l0 3) (80 : Int32).toNatClampNeg 0 → (wX12_terms_61 l0 l1 l2 S25 Q)))))))))))))))))))))) ∧ (s0 = 0 → jA S l0 12 ∧ (wX12_tell l0 (-1) S (fun r27 S26 => Q r27 S26)))
set_option maxRecDepth 20000 in
theorem tX12_terms_32 {Q : Int32 → JS → Prop}  (d : Nat) (hd : 1 ≤ d) {l0 : Nat} {l1 : Int32} {l2 : Int32} {s0 : Int32} {S : JS} (h : wX12_terms_32 l0 l1 l2 s0 S Q) : jLf (jCall jmt jbud d) jbud (fun j => (jmt j).rk) none mX12_terms (jqI Q) (32, [some (.ref l0), some (.int l1), some (.int l2), none], [.int s0], S, 0, 0) := by
  have hc := jCall_mono jmt jbud d
  unfold wX12_terms_32 at h
  refine jLf.bk hc 2 [] [some (.ref l0), some (.int l1), some (.int l2), some (.int s0)] [.int s0] S rfl rfl rfl trivial ?_
  refine jLf.two hc _ rfl (gs := []) (p1 := ¬ s0 = 0) (p2 := ¬ (¬ s0 = 0)) (c1 := (39, [some (.ref l0), some (.int l1), some (.int l2), some (.int s0)], [], S, 0, 0)) (c2 := (35, [some (.ref l0), some (.int l1), some (.int l2), some (.int s0)], [], S, 0, 0)) rfl trivial (fun hz => ?_) (fun hz => ?_)
  · have h := h.1 hz
    refine jLf.bk hc 1 [] [some (.ref l0), some (.int l1), some (.int l2), some (.int s0)] [.int l1] S rfl rfl rfl trivial ?_
    refine jLf.two hc _ rfl (gs := []) (p1 := ¬ l1 = 0) (p2 := ¬ (¬ l1 = 0)) (c1 := (61, [some (.ref l0), some (.int l1), some (.int l2), some (.int s0)], [], S, 0, 0)) (c2 := (41, [some (.ref l0), some (.int l1), some (.int l2), some (.int s0)], [], S, 0, 0)) rfl trivial (fun hz => ?_) (fun hz => ?_)
    · have h := h.1 hz
      refine jLf.sub [some (.ref l0), some (.int l1), some (.int l2), none] (jle_same (jle_same (jle_same (jle_none (jle_nil _))))) ?_
      exact tX12_terms_61 d hd  h
    · have h := h.2 (Classical.not_not.mp hz)
      obtain ⟨g6, g7, g8, g9, h⟩ := h
      refine jLf.bk hc 5 [jA S l0 12, ¬ jR S l0 3 = none, jA S (jr S l0 3) 13, vp_in (5 : Int32) (jZ S (jr S l0 3))] [some (.ref l0), some (.int l1), some (.int l2), some (.int s0)] [] (uI S (jr S l0 3) (5 : Int32).toNatClampNeg 0) rfl rfl rfl ⟨g6, g7, g8, g9⟩ ?_
      generalize eS10 : uI S (jr S l0 3) (5 : Int32).toNatClampNeg 0 = S10
      have h := h S10 eS10.symm
      obtain ⟨g11, g12, g13, g14, h⟩ := h
      refine jLf.bk hc 5 [jA S10 l0 12, ¬ jR S10 l0 3 = none, jA S10 (jr S10 l0 3) 13, vp_in (6 : Int32) (jZ S10 (jr S10 l0 3))] [some (.ref l0), some (.int l1), some (.int l2), some (.int s0)] [] (uI S10 (jr S10 l0 3) (6 : Int32).toNatClampNeg 0) rfl rfl rfl ⟨g11, g12, g13, g14⟩ ?_
      generalize eS15 : uI S10 (jr S10 l0 3) (6 : Int32).toNatClampNeg 0 = S15
      have h := h S15 eS15.symm
      obtain ⟨g16, g17, g18, g19, h⟩ := h
      refine jLf.bk hc 5 [jA S15 l0 12, ¬ jR S15 l0 3 = none, jA S15 (jr S15 l0 3) 13, vp_in (7 : Int32) (jZ S15 (jr S15 l0 3))] [some (.ref l0), some (.int l1), some (.int l2), some (.int s0)] [] (uI S15 (jr S15 l0 3) (7 : Int32).toNatClampNeg 0) rfl rfl rfl ⟨g16, g17, g18, g19⟩ ?_
      generalize eS20 : uI S15 (jr S15 l0 3) (7 : Int32).toNatClampNeg 0 = S20
      have h := h S20 eS20.symm
      obtain ⟨g21, g22, g23, g24, h⟩ := h
      refine jLf.bk hc 5 [jA S20 l0 12, ¬ jR S20 l0 3 = none, jA S20 (jr S20 l0 3) 13, vp_in (80 : Int32) (jZ S20 (jr S20 l0 3))] [some (.ref l0), some (.int l1), some (.int l2), some (.int s0)] [] (uI S20 (jr S20 l0 3) (80 : Int32).toNatClampNeg 0) rfl rfl rfl ⟨g21, g22, g23, g24⟩ ?_
      generalize eS25 : uI S20 (jr S20 l0 3) (80 : Int32).toNatClampNeg 0 = S25
      have h := h S25 eS25.symm
      refine jLf.sub [some (.ref l0), some (.int l1), some (.int l2), none] (jle_same (jle_same (jle_same (jle_none (jle_nil _))))) ?_
      exact tX12_terms_61 d hd  h
  · have h := h.2 (Classical.not_not.mp hz)
    refine jLf.bk hc 2 [] [some (.ref l0), some (.int l1), some (.int l2), some (.int s0)] [.int (-1), .ref l0] S rfl rfl rfl trivial ?_
    obtain ⟨g28, h⟩ := h
    refine jLf.inv hc _ rfl (gs := [jA S l0 12, (([] : List Value).map fun v => v.category).sum ≤ 8, 0 ≤ 0, 0 ≤ 0]) (k := 150) (args := [.ref l0, .int (-1)]) (r := []) (a := 0) (b := 0) rfl ⟨g28, Nat.le_of_ble_eq_true rfl, Nat.zero_le _, Nat.zero_le _⟩ (vX12_tell d (by omega) h) ?_
    rintro v S26 ⟨r27, rfl, h⟩
    show jLf (jCall jmt jbud d) jbud (fun j => (jmt j).rk) none mX12_terms (jqI Q) (38, [some (.ref l0), some (.int l1), some (.int l2), some (.int s0)], [.int r27], S26, 0, 0)
    exact jLf.ret hc _ rfl (gs := [True]) (v := some (.int r27)) rfl trivial ⟨r27, rfl, h⟩
def wX12_terms_31   (l0 : Nat) (l1 : Int32) (l2 : Int32) (S : JS) (Q : Int32 → JS → Prop) : Prop :=
  wX12_terms_32 l0 l1 l2 0 S Q
set_option maxRecDepth 20000 in
theorem tX12_terms_31 {Q : Int32 → JS → Prop}  (d : Nat) (hd : 1 ≤ d) {l0 : Nat} {l1 : Int32} {l2 : Int32} {S : JS} (h : wX12_terms_31 l0 l1 l2 S Q) : jLf (jCall jmt jbud d) jbud (fun j => (jmt j).rk) none mX12_terms (jqI Q) (31, [some (.ref l0), some (.int l1), some (.int l2), none], [], S, 0, 0) := by
  have hc := jCall_mono jmt jbud d
  unfold wX12_terms_31 at h
  refine jLf.bk hc 1 [] [some (.ref l0), some (.int l1), some (.int l2), none] [.int 0] S rfl rfl rfl trivial ?_
  exact tX12_terms_32 d hd  h
def wX12_terms  (this : Nat) (p1 : Int32) (p2 : Int32) (S : JS) (Q : Int32 → JS → Prop) : Prop :=
  jA S this 12 ∧ (∀ S2 : JS, S2 = uI S this 0 0 → ((¬ p1 = 0 → (¬ p1 = 1 → (¬ p1 = 2 → wX12_terms_31 this p1 p2 S2 Q) ∧ (p1 = 2 → wX12_in (p2.toInt64) 1 100 S2 (fun r30 S29 => (r30 = 0 → wX12_terms_31 this p1 p2 S29 Q) ∧ (¬ r30 = 0 → wX12_terms_32 this p1 p2 1 S29 Q)))) ∧ (p1 = 1 → wX12_in (p2.toInt64) 0 9 S2 (fun r32 S31 => wX12_terms_32 this p1 p2 r32 S31 Q))) ∧ (p1 = 0 → wX12_in (p2.toInt64) 1 9 S2 (fun r34 S33 => wX12_terms_32 this p1 p2 r34 S33 Q))))
set_option maxRecDepth 20000 in
theorem vX12_terms {Q : Int32 → JS → Prop} (d : Nat) (hd : 2 ≤ d) {this : Nat} {p1 : Int32} {p2 : Int32} {S : JS} (h : wX12_terms this p1 p2 S Q) : jCall jmt jbud d 157 [.ref this, .int p1, .int p2] S (jqI Q) := by
  obtain ⟨d, rfl⟩ : ∃ d2, d = d2 + 1 := ⟨d - 1, by omega⟩
  have hd : 1 ≤ d := by omega
  have hc := jCall_mono jmt jbud d
  unfold wX12_terms at h
  refine ⟨Nat.le_of_ble_eq_true rfl, ?_⟩
  show jLf (jCall jmt jbud d) jbud (fun j => (jmt j).rk) none mX12_terms (jqI Q) (0, [some (.ref this), some (.int p1), some (.int p2), none], [], S, 0, 0)
  obtain ⟨g1, h⟩ := h
  refine jLf.bk hc 3 [jA S this 12] [some (.ref this), some (.int p1), some (.int p2), none] [] (uI S this 0 0) rfl rfl rfl g1 ?_
  generalize eS2 : uI S this 0 0 = S2
  have h := h S2 eS2.symm
  refine jLf.bk hc 1 [] [some (.ref this), some (.int p1), some (.int p2), none] [.int p1] S2 rfl rfl rfl trivial ?_
  refine jLf.two hc _ rfl (gs := []) (p1 := ¬ p1 = 0) (p2 := ¬ (¬ p1 = 0)) (c1 := (11, [some (.ref this), some (.int p1), some (.int p2), none], [], S2, 0, 0)) (c2 := (5, [some (.ref this), some (.int p1), some (.int p2), none], [], S2, 0, 0)) rfl trivial (fun hz => ?_) (fun hz => ?_)
  · have h := h.1 hz
    refine jLf.bk hc 2 [] [some (.ref this), some (.int p1), some (.int p2), none] [.int 1, .int p1] S2 rfl rfl rfl trivial ?_
    refine jLf.two hc _ rfl (gs := []) (p1 := ¬ p1 = 1) (p2 := ¬ (¬ p1 = 1)) (c1 := (20, [some (.ref this), some (.int p1), some (.int p2), none], [], S2, 0, 0)) (c2 := (14, [some (.ref this), some (.int p1), some (.int p2), none], [], S2, 0, 0)) rfl trivial (fun hz => ?_) (fun hz => ?_)
    · have h := h.1 hz
      refine jLf.bk hc 2 [] [some (.ref this), some (.int p1), some (.int p2), none] [.int 2, .int p1] S2 rfl rfl rfl trivial ?_
      refine jLf.two hc _ rfl (gs := []) (p1 := ¬ p1 = 2) (p2 := ¬ (¬ p1 = 2)) (c1 := (31, [some (.ref this), some (.int p1), some (.int p2), none], [], S2, 0, 0)) (c2 := (23, [some (.ref this), some (.int p1), some (.int p2), none], [], S2, 0, 0)) rfl trivial (fun hz => ?_) (fun hz => ?_)
      · have h := h.1 hz
        exact tX12_terms_31 d hd  h
      · have h := h.2 (Classical.not_not.mp hz)
        refine jLf.bk hc 4 [] [some (.ref this), some (.int p1), some (.int p2), none] [.long 100, .long 1, .long (p2.toInt64)] S2 rfl rfl rfl trivial ?_
        refine jLf.inv hc _ rfl (gs := [3 ≤ ([.long 100, .long 1, .long (p2.toInt64)] : List Value).length, (([] : List Value).map fun v => v.category).sum ≤ 8, 0 ≤ 0, 0 ≤ 0]) (k := 148) (args := [.long (p2.toInt64), .long 1, .long 100]) (r := []) (a := 0) (b := 0) rfl ⟨Nat.le_of_ble_eq_true rfl, Nat.le_of_ble_eq_true rfl, Nat.zero_le _, Nat.zero_le _⟩ (vX12_in d (by omega) h) ?_
        rintro v S29 ⟨r30, rfl, h⟩
        show jLf (jCall jmt jbud d) jbud (fun j => (jmt j).rk) none mX12_terms (jqI Q) (28, [some (.ref this), some (.int p1), some (.int p2), none], [.int r30], S29, 0, 0)
        refine jLf.two hc _ rfl (gs := []) (p1 := r30 = 0) (p2 := ¬ (r30 = 0)) (c1 := (31, [some (.ref this), some (.int p1), some (.int p2), none], [], S29, 0, 0)) (c2 := (29, [some (.ref this), some (.int p1), some (.int p2), none], [], S29, 0, 0)) rfl trivial (fun hz => ?_) (fun hz => ?_)
        · have h := h.1 hz
          exact tX12_terms_31 d hd  h
        · have h := h.2 hz
          refine jLf.bk hc 1 [] [some (.ref this), some (.int p1), some (.int p2), none] [.int 1] S29 rfl rfl rfl trivial ?_
          refine jLf.one hc _ rfl (gs := []) (c := (32, [some (.ref this), some (.int p1), some (.int p2), none], [.int 1], S29, 0, 0)) rfl trivial ?_
          exact tX12_terms_32 d hd  h
    · have h := h.2 (Classical.not_not.mp hz)
      refine jLf.bk hc 4 [] [some (.ref this), some (.int p1), some (.int p2), none] [.long 9, .long 0, .long (p2.toInt64)] S2 rfl rfl rfl trivial ?_
      refine jLf.inv hc _ rfl (gs := [3 ≤ ([.long 9, .long 0, .long (p2.toInt64)] : List Value).length, (([] : List Value).map fun v => v.category).sum ≤ 8, 0 ≤ 0, 0 ≤ 0]) (k := 148) (args := [.long (p2.toInt64), .long 0, .long 9]) (r := []) (a := 0) (b := 0) rfl ⟨Nat.le_of_ble_eq_true rfl, Nat.le_of_ble_eq_true rfl, Nat.zero_le _, Nat.zero_le _⟩ (vX12_in d (by omega) h) ?_
      rintro v S31 ⟨r32, rfl, h⟩
      show jLf (jCall jmt jbud d) jbud (fun j => (jmt j).rk) none mX12_terms (jqI Q) (19, [some (.ref this), some (.int p1), some (.int p2), none], [.int r32], S31, 0, 0)
      refine jLf.one hc _ rfl (gs := []) (c := (32, [some (.ref this), some (.int p1), some (.int p2), none], [.int r32], S31, 0, 0)) rfl trivial ?_
      exact tX12_terms_32 d hd  h
  · have h := h.2 (Classical.not_not.mp hz)
    refine jLf.bk hc 4 [] [some (.ref this), some (.int p1), some (.int p2), none] [.long 9, .long 1, .long (p2.toInt64)] S2 rfl rfl rfl trivial ?_
    refine jLf.inv hc _ rfl (gs := [3 ≤ ([.long 9, .long 1, .long (p2.toInt64)] : List Value).length, (([] : List Value).map fun v => v.category).sum ≤ 8, 0 ≤ 0, 0 ≤ 0]) (k := 148) (args := [.long (p2.toInt64), .long 1, .long 9]) (r := []) (a := 0) (b := 0) rfl ⟨Nat.le_of_ble_eq_true rfl, Nat.le_of_ble_eq_true rfl, Nat.zero_le _, Nat.zero_le _⟩ (vX12_in d (by omega) h) ?_
    rintro v S33 ⟨r34, rfl, h⟩
    show jLf (jCall jmt jbud d) jbud (fun j => (jmt j).rk) none mX12_terms (jqI Q) (10, [some (.ref this), some (.int p1), some (.int p2), none], [.int r34], S33, 0, 0)
    refine jLf.one hc _ rfl (gs := []) (c := (32, [some (.ref this), some (.int p1), some (.int p2), none], [.int r34], S33, 0, 0)) rfl trivial ?_
    exact tX12_terms_32 d hd  h
def wX12_storm_19   (l0 : Nat) (S : JS) (Q : Int32 → JS → Prop) : Prop :=
  jA S l0 12 ∧ (wX12_tell l0 (-1) S (fun r6 S5 => Q r6 S5))
set_option maxRecDepth 20000 in
theorem tX12_storm_19 {Q : Int32 → JS → Prop}  (d : Nat) (hd : 2 ≤ d) {l0 : Nat} {S : JS} (h : wX12_storm_19 l0 S Q) : jLf (jCall jmt jbud d) jbud (fun j => (jmt j).rk) none mX12_storm (jqI Q) (19, [some (.ref l0), none, none], [], S, 0, 0) := by
  have hc := jCall_mono jmt jbud d
  unfold wX12_storm_19 at h
  refine jLf.bk hc 2 [] [some (.ref l0), none, none] [.int (-1), .ref l0] S rfl rfl rfl trivial ?_
  obtain ⟨g7, h⟩ := h
  refine jLf.inv hc _ rfl (gs := [jA S l0 12, (([] : List Value).map fun v => v.category).sum ≤ 8, 0 ≤ 0, 0 ≤ 0]) (k := 150) (args := [.ref l0, .int (-1)]) (r := []) (a := 0) (b := 0) rfl ⟨g7, Nat.le_of_ble_eq_true rfl, Nat.zero_le _, Nat.zero_le _⟩ (vX12_tell d (by omega) h) ?_
  rintro v S5 ⟨r6, rfl, h⟩
  show jLf (jCall jmt jbud d) jbud (fun j => (jmt j).rk) none mX12_storm (jqI Q) (22, [some (.ref l0), none, none], [.int r6], S5, 0, 0)
  exact jLf.ret hc _ rfl (gs := [True]) (v := some (.int r6)) rfl trivial ⟨r6, rfl, h⟩
def wX12_storm  (this : Nat) (p1 : Int32) (p2 : Int32) (S : JS) (Q : Int32 → JS → Prop) : Prop :=
  jA S this 12 ∧ (∀ S2 : JS, S2 = uI S this 0 0 → (wX12_isNight p1 S2 (fun r4 S3 => (r4 = 0 → wX12_storm_19 this S3 Q) ∧ (¬ r4 = 0 → wX12_in (p2.toInt64) 0 1 S3 (fun r9 S8 => (r9 = 0 → wX12_storm_19 this S8 Q) ∧ (¬ r9 = 0 → jA S8 this 12 ∧ (wX12_change this ((8 : Int32) + p1) p2 S8 (fun r11 S10 => Q r11 S10))))))))
set_option maxRecDepth 20000 in
theorem vX12_storm {Q : Int32 → JS → Prop} (d : Nat) (hd : 3 ≤ d) {this : Nat} {p1 : Int32} {p2 : Int32} {S : JS} (h : wX12_storm this p1 p2 S Q) : jCall jmt jbud d 158 [.ref this, .int p1, .int p2] S (jqI Q) := by
  obtain ⟨d, rfl⟩ : ∃ d2, d = d2 + 1 := ⟨d - 1, by omega⟩
  have hd : 2 ≤ d := by omega
  have hc := jCall_mono jmt jbud d
  unfold wX12_storm at h
  refine ⟨Nat.le_of_ble_eq_true rfl, ?_⟩
  show jLf (jCall jmt jbud d) jbud (fun j => (jmt j).rk) none mX12_storm (jqI Q) (0, [some (.ref this), some (.int p1), some (.int p2)], [], S, 0, 0)
  obtain ⟨g1, h⟩ := h
  refine jLf.bk hc 3 [jA S this 12] [some (.ref this), some (.int p1), some (.int p2)] [] (uI S this 0 0) rfl rfl rfl g1 ?_
  generalize eS2 : uI S this 0 0 = S2
  have h := h S2 eS2.symm
  refine jLf.bk hc 1 [] [some (.ref this), some (.int p1), some (.int p2)] [.int p1] S2 rfl rfl rfl trivial ?_
  refine jLf.inv hc _ rfl (gs := [1 ≤ ([.int p1] : List Value).length, (([] : List Value).map fun v => v.category).sum ≤ 8, 0 ≤ 0, 0 ≤ 0]) (k := 156) (args := [.int p1]) (r := []) (a := 0) (b := 0) rfl ⟨Nat.le_of_ble_eq_true rfl, Nat.le_of_ble_eq_true rfl, Nat.zero_le _, Nat.zero_le _⟩ (vX12_isNight d (by omega) h) ?_
  rintro v S3 ⟨r4, rfl, h⟩
  show jLf (jCall jmt jbud d) jbud (fun j => (jmt j).rk) none mX12_storm (jqI Q) (5, [some (.ref this), some (.int p1), some (.int p2)], [.int r4], S3, 0, 0)
  refine jLf.two hc _ rfl (gs := []) (p1 := r4 = 0) (p2 := ¬ (r4 = 0)) (c1 := (19, [some (.ref this), some (.int p1), some (.int p2)], [], S3, 0, 0)) (c2 := (6, [some (.ref this), some (.int p1), some (.int p2)], [], S3, 0, 0)) rfl trivial (fun hz => ?_) (fun hz => ?_)
  · have h := h.1 hz
    refine jLf.sub [some (.ref this), none, none] (jle_same (jle_none (jle_none (jle_nil _)))) ?_
    exact tX12_storm_19 d hd  h
  · have h := h.2 hz
    refine jLf.bk hc 4 [] [some (.ref this), some (.int p1), some (.int p2)] [.long 1, .long 0, .long (p2.toInt64)] S3 rfl rfl rfl trivial ?_
    refine jLf.inv hc _ rfl (gs := [3 ≤ ([.long 1, .long 0, .long (p2.toInt64)] : List Value).length, (([] : List Value).map fun v => v.category).sum ≤ 8, 0 ≤ 0, 0 ≤ 0]) (k := 148) (args := [.long (p2.toInt64), .long 0, .long 1]) (r := []) (a := 0) (b := 0) rfl ⟨Nat.le_of_ble_eq_true rfl, Nat.le_of_ble_eq_true rfl, Nat.zero_le _, Nat.zero_le _⟩ (vX12_in d (by omega) h) ?_
    rintro v S8 ⟨r9, rfl, h⟩
    show jLf (jCall jmt jbud d) jbud (fun j => (jmt j).rk) none mX12_storm (jqI Q) (11, [some (.ref this), some (.int p1), some (.int p2)], [.int r9], S8, 0, 0)
    refine jLf.two hc _ rfl (gs := []) (p1 := r9 = 0) (p2 := ¬ (r9 = 0)) (c1 := (19, [some (.ref this), some (.int p1), some (.int p2)], [], S8, 0, 0)) (c2 := (12, [some (.ref this), some (.int p1), some (.int p2)], [], S8, 0, 0)) rfl trivial (fun hz => ?_) (fun hz => ?_)
    · have h := h.1 hz
      refine jLf.sub [some (.ref this), none, none] (jle_same (jle_none (jle_none (jle_nil _)))) ?_
      exact tX12_storm_19 d hd  h
    · have h := h.2 hz
      refine jLf.bk hc 5 [] [some (.ref this), some (.int p1), some (.int p2)] [.int p2, .int ((8 : Int32) + p1), .ref this] S8 rfl rfl rfl trivial ?_
      obtain ⟨g12, h⟩ := h
      refine jLf.inv hc _ rfl (gs := [jA S8 this 12, (([] : List Value).map fun v => v.category).sum ≤ 8, 0 ≤ 0, 0 ≤ 0]) (k := 151) (args := [.ref this, .int ((8 : Int32) + p1), .int p2]) (r := []) (a := 0) (b := 0) rfl ⟨g12, Nat.le_of_ble_eq_true rfl, Nat.zero_le _, Nat.zero_le _⟩ (vX12_change d (by omega) h) ?_
      rintro v S10 ⟨r11, rfl, h⟩
      show jLf (jCall jmt jbud d) jbud (fun j => (jmt j).rk) none mX12_storm (jqI Q) (18, [some (.ref this), some (.int p1), some (.int p2)], [.int r11], S10, 0, 0)
      refine jLf.one hc _ rfl (gs := []) (c := (22, [some (.ref this), some (.int p1), some (.int p2)], [.int r11], S10, 0, 0)) rfl trivial ?_
      exact jLf.ret hc _ rfl (gs := [True]) (v := some (.int r11)) rfl trivial ⟨r11, rfl, h⟩
def wX12_wed_12   (l0 : Nat) (S : JS) (Q : Int32 → JS → Prop) : Prop :=
  jA S l0 12 ∧ (wX12_tell l0 (-1) S (fun r6 S5 => Q r6 S5))
set_option maxRecDepth 20000 in
theorem tX12_wed_12 {Q : Int32 → JS → Prop}  (d : Nat) (hd : 2 ≤ d) {l0 : Nat} {S : JS} (h : wX12_wed_12 l0 S Q) : jLf (jCall jmt jbud d) jbud (fun j => (jmt j).rk) none mX12_wed (jqI Q) (12, [some (.ref l0), none, none, none, none], [], S, 0, 0) := by
  have hc := jCall_mono jmt jbud d
  unfold wX12_wed_12 at h
  refine jLf.bk hc 2 [] [some (.ref l0), none, none, none, none] [.int (-1), .ref l0] S rfl rfl rfl trivial ?_
  obtain ⟨g7, h⟩ := h
  refine jLf.inv hc _ rfl (gs := [jA S l0 12, (([] : List Value).map fun v => v.category).sum ≤ 8, 0 ≤ 0, 0 ≤ 0]) (k := 150) (args := [.ref l0, .int (-1)]) (r := []) (a := 0) (b := 0) rfl ⟨g7, Nat.le_of_ble_eq_true rfl, Nat.zero_le _, Nat.zero_le _⟩ (vX12_tell d (by omega) h) ?_
  rintro v S5 ⟨r6, rfl, h⟩
  show jLf (jCall jmt jbud d) jbud (fun j => (jmt j).rk) none mX12_wed (jqI Q) (15, [some (.ref l0), none, none, none, none], [.int r6], S5, 0, 0)
  exact jLf.ret hc _ rfl (gs := [True]) (v := some (.int r6)) rfl trivial ⟨r6, rfl, h⟩
def wX12_wed  (this : Nat) (p1 : Int32) (p2 : Int32) (p3 : Int32) (S : JS) (Q : Int32 → JS → Prop) : Prop :=
  jA S this 12 ∧ (∀ S2 : JS, S2 = uI S this 0 0 → (wX12_isNight p2 S2 (fun r4 S3 => (r4 = 0 → wX12_wed_12 this S3 Q) ∧ (¬ r4 = 0 → wX12_isNight p3 S3 (fun r9 S8 => (r9 = 0 → wX12_wed_12 this S8 Q) ∧ (¬ r9 = 0 → (p2 ≤ p3 → jA S8 this 12 ∧ (wX12_isRock this p1 S8 (fun r11 S10 => (¬ r11 = 0 → jA S10 this 12 ∧ (¬ jR S10 this 3 = none ∧ (jA S10 (jr S10 this 3) 13 ∧ (vp_in (5 : Int32) (jZ S10 (jr S10 this 3)) ∧ (∀ x17 : Int32, x17 = (jI S10 (jr S10 this 3) (5 : Int32).toNatClampNeg) → ((¬ x17 = 4 → vp_in ((68 : Int32) + ((3 : Int32) * x17)) (jZ S10 (jr S10 this 3)) ∧ (∀ S19 : JS, S19 = uI S10 (jr S10 this 3) ((68 : Int32) + ((3 : Int32) * x17)).toNatClampNeg p1 → (jA S19 this 12 ∧ (¬ jR S19 this 3 = none ∧ (jA S19 (jr S19 this 3) 13 ∧ (vp_in (((68 : Int32) + ((3 : Int32) * x17)) + (1 : Int32)) (jZ S19 (jr S19 this 3)) ∧ (∀ S24 : JS, S24 = uI S19 (jr S19 this 3) (((68 : Int32) + ((3 : Int32) * x17)) + (1 : Int32)).toNatClampNeg p2 → (jA S24 this 12 ∧ (¬ jR S24 this 3 = none ∧ (jA S24 (jr S24 this 3) 13 ∧ (vp_in (((68 : Int32) + ((3 : Int32) * x17)) + (2 : Int32)) (jZ S24 (jr S24 this 3)) ∧ (∀ S29 : JS, S29 = uI S24 (jr S24 this 3) (((68 : Int32) + ((3 : Int32) * x17)) + (2 : Int32)).toNatClampNeg p3 → (jA S29 this 12 ∧ (¬ jR S29 this 3 = none ∧ (jA S29 (jr S29 this 3) 13 ∧ (vp_in (5 : Int32) (jZ S29 (jr S29 this 3)) ∧ (∀ S34 : JS, S34 = uI S29 (jr S29 this 3) (5 : Int32).toNatClampNeg ((jI S29 (jr S29 this 3) (5 : Int32).toNatClampNeg) + (1 : Int32)) → (jA S34 this 12 ∧ (wX12_tell this x17 S34 (fun r36 S35 => Q r36 S35)))))))))))))))))))) ∧ (x17 = 4 → wX12_tell this (-5) S10 (fun r39 S38 => Q r39 S38)))))))) ∧ (r11 = 0 → jA S10 this 12 ∧ (wX12_tell this (-2) S10 (fun r41 S40 => Q r41 S40)))))) ∧ (¬ (p2 ≤ p3) → wX12_wed_12 this S8 Q)))))))
set_option maxRecDepth 20000 in
theorem vX12_wed {Q : Int32 → JS → Prop} (d : Nat) (hd : 3 ≤ d) {this : Nat} {p1 : Int32} {p2 : Int32} {p3 : Int32} {S : JS} (h : wX12_wed this p1 p2 p3 S Q) : jCall jmt jbud d 159 [.ref this, .int p1, .int p2, .int p3] S (jqI Q) := by
  obtain ⟨d, rfl⟩ : ∃ d2, d = d2 + 1 := ⟨d - 1, by omega⟩
  have hd : 2 ≤ d := by omega
  have hc := jCall_mono jmt jbud d
  unfold wX12_wed at h
  refine ⟨Nat.le_of_ble_eq_true rfl, ?_⟩
  show jLf (jCall jmt jbud d) jbud (fun j => (jmt j).rk) none mX12_wed (jqI Q) (0, [some (.ref this), some (.int p1), some (.int p2), some (.int p3), none], [], S, 0, 0)
  obtain ⟨g1, h⟩ := h
  refine jLf.bk hc 3 [jA S this 12] [some (.ref this), some (.int p1), some (.int p2), some (.int p3), none] [] (uI S this 0 0) rfl rfl rfl g1 ?_
  generalize eS2 : uI S this 0 0 = S2
  have h := h S2 eS2.symm
  refine jLf.bk hc 1 [] [some (.ref this), some (.int p1), some (.int p2), some (.int p3), none] [.int p2] S2 rfl rfl rfl trivial ?_
  refine jLf.inv hc _ rfl (gs := [1 ≤ ([.int p2] : List Value).length, (([] : List Value).map fun v => v.category).sum ≤ 8, 0 ≤ 0, 0 ≤ 0]) (k := 156) (args := [.int p2]) (r := []) (a := 0) (b := 0) rfl ⟨Nat.le_of_ble_eq_true rfl, Nat.le_of_ble_eq_true rfl, Nat.zero_le _, Nat.zero_le _⟩ (vX12_isNight d (by omega) h) ?_
  rintro v S3 ⟨r4, rfl, h⟩
  show jLf (jCall jmt jbud d) jbud (fun j => (jmt j).rk) none mX12_wed (jqI Q) (5, [some (.ref this), some (.int p1), some (.int p2), some (.int p3), none], [.int r4], S3, 0, 0)
  refine jLf.two hc _ rfl (gs := []) (p1 := r4 = 0) (p2 := ¬ (r4 = 0)) (c1 := (12, [some (.ref this), some (.int p1), some (.int p2), some (.int p3), none], [], S3, 0, 0)) (c2 := (6, [some (.ref this), some (.int p1), some (.int p2), some (.int p3), none], [], S3, 0, 0)) rfl trivial (fun hz => ?_) (fun hz => ?_)
  · have h := h.1 hz
    refine jLf.sub [some (.ref this), none, none, none, none] (jle_same (jle_none (jle_none (jle_none (jle_same (jle_nil _)))))) ?_
    exact tX12_wed_12 d hd  h
  · have h := h.2 hz
    refine jLf.bk hc 1 [] [some (.ref this), some (.int p1), some (.int p2), some (.int p3), none] [.int p3] S3 rfl rfl rfl trivial ?_
    refine jLf.inv hc _ rfl (gs := [1 ≤ ([.int p3] : List Value).length, (([] : List Value).map fun v => v.category).sum ≤ 8, 0 ≤ 0, 0 ≤ 0]) (k := 156) (args := [.int p3]) (r := []) (a := 0) (b := 0) rfl ⟨Nat.le_of_ble_eq_true rfl, Nat.le_of_ble_eq_true rfl, Nat.zero_le _, Nat.zero_le _⟩ (vX12_isNight d (by omega) h) ?_
    rintro v S8 ⟨r9, rfl, h⟩
    show jLf (jCall jmt jbud d) jbud (fun j => (jmt j).rk) none mX12_wed (jqI Q) (8, [some (.ref this), some (.int p1), some (.int p2), some (.int p3), none], [.int r9], S8, 0, 0)
    refine jLf.two hc _ rfl (gs := []) (p1 := r9 = 0) (p2 := ¬ (r9 = 0)) (c1 := (12, [some (.ref this), some (.int p1), some (.int p2), some (.int p3), none], [], S8, 0, 0)) (c2 := (9, [some (.ref this), some (.int p1), some (.int p2), some (.int p3), none], [], S8, 0, 0)) rfl trivial (fun hz => ?_) (fun hz => ?_)
    · have h := h.1 hz
      refine jLf.sub [some (.ref this), none, none, none, none] (jle_same (jle_none (jle_none (jle_none (jle_same (jle_nil _)))))) ?_
      exact tX12_wed_12 d hd  h
    · have h := h.2 hz
      refine jLf.bk hc 2 [] [some (.ref this), some (.int p1), some (.int p2), some (.int p3), none] [.int p2, .int p3] S8 rfl rfl rfl trivial ?_
      refine jLf.two hc _ rfl (gs := []) (p1 := p2 ≤ p3) (p2 := ¬ (p2 ≤ p3)) (c1 := (16, [some (.ref this), some (.int p1), some (.int p2), some (.int p3), none], [], S8, 0, 0)) (c2 := (12, [some (.ref this), some (.int p1), some (.int p2), some (.int p3), none], [], S8, 0, 0)) rfl trivial (fun hz => ?_) (fun hz => ?_)
      · have h := h.1 hz
        refine jLf.bk hc 2 [] [some (.ref this), some (.int p1), some (.int p2), some (.int p3), none] [.int p1, .ref this] S8 rfl rfl rfl trivial ?_
        obtain ⟨g12, h⟩ := h
        refine jLf.inv hc _ rfl (gs := [jA S8 this 12, (([] : List Value).map fun v => v.category).sum ≤ 8, 0 ≤ 0, 0 ≤ 0]) (k := 155) (args := [.ref this, .int p1]) (r := []) (a := 0) (b := 0) rfl ⟨g12, Nat.le_of_ble_eq_true rfl, Nat.zero_le _, Nat.zero_le _⟩ (vX12_isRock d (by omega) h) ?_
        rintro v S10 ⟨r11, rfl, h⟩
        show jLf (jCall jmt jbud d) jbud (fun j => (jmt j).rk) none mX12_wed (jqI Q) (19, [some (.ref this), some (.int p1), some (.int p2), some (.int p3), none], [.int r11], S10, 0, 0)
        refine jLf.two hc _ rfl (gs := []) (p1 := ¬ r11 = 0) (p2 := ¬ (¬ r11 = 0)) (c1 := (24, [some (.ref this), some (.int p1), some (.int p2), some (.int p3), none], [], S10, 0, 0)) (c2 := (20, [some (.ref this), some (.int p1), some (.int p2), some (.int p3), none], [], S10, 0, 0)) rfl trivial (fun hz => ?_) (fun hz => ?_)
        · have h := h.1 hz
          obtain ⟨g13, g14, g15, g16, h⟩ := h
          refine jLf.bk hc 5 [jA S10 this 12, ¬ jR S10 this 3 = none, jA S10 (jr S10 this 3) 13, vp_in (5 : Int32) (jZ S10 (jr S10 this 3))] [some (.ref this), some (.int p1), some (.int p2), some (.int p3), some (.int (jI S10 (jr S10 this 3) (5 : Int32).toNatClampNeg))] [] S10 rfl rfl rfl ⟨g13, g14, g15, g16⟩ ?_
          generalize ex17 : (jI S10 (jr S10 this 3) (5 : Int32).toNatClampNeg : Int32) = x17
          have h := h x17 ex17.symm
          refine jLf.bk hc 2 [] [some (.ref this), some (.int p1), some (.int p2), some (.int p3), some (.int x17)] [.int 4, .int x17] S10 rfl rfl rfl trivial ?_
          refine jLf.two hc _ rfl (gs := []) (p1 := ¬ x17 = 4) (p2 := ¬ (¬ x17 = 4)) (c1 := (36, [some (.ref this), some (.int p1), some (.int p2), some (.int p3), some (.int x17)], [], S10, 0, 0)) (c2 := (32, [some (.ref this), some (.int p1), some (.int p2), some (.int p3), some (.int x17)], [], S10, 0, 0)) rfl trivial (fun hz => ?_) (fun hz => ?_)
          · have h := h.1 hz
            obtain ⟨g18, h⟩ := h
            refine jLf.bk hc 9 [jA S10 this 12, ¬ jR S10 this 3 = none, jA S10 (jr S10 this 3) 13, vp_in ((68 : Int32) + ((3 : Int32) * x17)) (jZ S10 (jr S10 this 3))] [some (.ref this), some (.int p1), some (.int p2), some (.int p3), some (.int x17)] [] (uI S10 (jr S10 this 3) ((68 : Int32) + ((3 : Int32) * x17)).toNatClampNeg p1) rfl rfl rfl ⟨g13, g14, g15, g18⟩ ?_
            generalize eS19 : uI S10 (jr S10 this 3) ((68 : Int32) + ((3 : Int32) * x17)).toNatClampNeg p1 = S19
            have h := h S19 eS19.symm
            obtain ⟨g20, g21, g22, g23, h⟩ := h
            refine jLf.bk hc 11 [jA S19 this 12, ¬ jR S19 this 3 = none, jA S19 (jr S19 this 3) 13, vp_in (((68 : Int32) + ((3 : Int32) * x17)) + (1 : Int32)) (jZ S19 (jr S19 this 3))] [some (.ref this), some (.int p1), some (.int p2), some (.int p3), some (.int x17)] [] (uI S19 (jr S19 this 3) (((68 : Int32) + ((3 : Int32) * x17)) + (1 : Int32)).toNatClampNeg p2) rfl rfl rfl ⟨g20, g21, g22, g23⟩ ?_
            generalize eS24 : uI S19 (jr S19 this 3) (((68 : Int32) + ((3 : Int32) * x17)) + (1 : Int32)).toNatClampNeg p2 = S24
            have h := h S24 eS24.symm
            obtain ⟨g25, g26, g27, g28, h⟩ := h
            refine jLf.bk hc 11 [jA S24 this 12, ¬ jR S24 this 3 = none, jA S24 (jr S24 this 3) 13, vp_in (((68 : Int32) + ((3 : Int32) * x17)) + (2 : Int32)) (jZ S24 (jr S24 this 3))] [some (.ref this), some (.int p1), some (.int p2), some (.int p3), some (.int x17)] [] (uI S24 (jr S24 this 3) (((68 : Int32) + ((3 : Int32) * x17)) + (2 : Int32)).toNatClampNeg p3) rfl rfl rfl ⟨g25, g26, g27, g28⟩ ?_
            generalize eS29 : uI S24 (jr S24 this 3) (((68 : Int32) + ((3 : Int32) * x17)) + (2 : Int32)).toNatClampNeg p3 = S29
            have h := h S29 eS29.symm
            obtain ⟨g30, g31, g32, g33, h⟩ := h
            refine jLf.bk hc 8 [jA S29 this 12, ¬ jR S29 this 3 = none, jA S29 (jr S29 this 3) 13, vp_in (5 : Int32) (jZ S29 (jr S29 this 3)), jA S29 (jr S29 this 3) 13, vp_in (5 : Int32) (jZ S29 (jr S29 this 3))] [some (.ref this), some (.int p1), some (.int p2), some (.int p3), some (.int x17)] [] (uI S29 (jr S29 this 3) (5 : Int32).toNatClampNeg ((jI S29 (jr S29 this 3) (5 : Int32).toNatClampNeg) + (1 : Int32))) rfl rfl rfl ⟨g30, g31, g32, g33, g32, g33⟩ ?_
            generalize eS34 : uI S29 (jr S29 this 3) (5 : Int32).toNatClampNeg ((jI S29 (jr S29 this 3) (5 : Int32).toNatClampNeg) + (1 : Int32)) = S34
            have h := h S34 eS34.symm
            refine jLf.bk hc 2 [] [some (.ref this), some (.int p1), some (.int p2), some (.int p3), some (.int x17)] [.int x17, .ref this] S34 rfl rfl rfl trivial ?_
            obtain ⟨g37, h⟩ := h
            refine jLf.inv hc _ rfl (gs := [jA S34 this 12, (([] : List Value).map fun v => v.category).sum ≤ 8, 0 ≤ 0, 0 ≤ 0]) (k := 150) (args := [.ref this, .int x17]) (r := []) (a := 0) (b := 0) rfl ⟨g37, Nat.le_of_ble_eq_true rfl, Nat.zero_le _, Nat.zero_le _⟩ (vX12_tell d (by omega) h) ?_
            rintro v S35 ⟨r36, rfl, h⟩
            show jLf (jCall jmt jbud d) jbud (fun j => (jmt j).rk) none mX12_wed (jqI Q) (78, [some (.ref this), some (.int p1), some (.int p2), some (.int p3), some (.int x17)], [.int r36], S35, 0, 0)
            exact jLf.ret hc _ rfl (gs := [True]) (v := some (.int r36)) rfl trivial ⟨r36, rfl, h⟩
          · have h := h.2 (Classical.not_not.mp hz)
            refine jLf.bk hc 2 [] [some (.ref this), some (.int p1), some (.int p2), some (.int p3), some (.int x17)] [.int (-5), .ref this] S10 rfl rfl rfl trivial ?_
            refine jLf.inv hc _ rfl (gs := [jA S10 this 12, (([] : List Value).map fun v => v.category).sum ≤ 8, 0 ≤ 0, 0 ≤ 0]) (k := 150) (args := [.ref this, .int (-5)]) (r := []) (a := 0) (b := 0) rfl ⟨g13, Nat.le_of_ble_eq_true rfl, Nat.zero_le _, Nat.zero_le _⟩ (vX12_tell d (by omega) h) ?_
            rintro v S38 ⟨r39, rfl, h⟩
            show jLf (jCall jmt jbud d) jbud (fun j => (jmt j).rk) none mX12_wed (jqI Q) (35, [some (.ref this), some (.int p1), some (.int p2), some (.int p3), some (.int x17)], [.int r39], S38, 0, 0)
            exact jLf.ret hc _ rfl (gs := [True]) (v := some (.int r39)) rfl trivial ⟨r39, rfl, h⟩
        · have h := h.2 (Classical.not_not.mp hz)
          refine jLf.bk hc 2 [] [some (.ref this), some (.int p1), some (.int p2), some (.int p3), none] [.int (-2), .ref this] S10 rfl rfl rfl trivial ?_
          obtain ⟨g42, h⟩ := h
          refine jLf.inv hc _ rfl (gs := [jA S10 this 12, (([] : List Value).map fun v => v.category).sum ≤ 8, 0 ≤ 0, 0 ≤ 0]) (k := 150) (args := [.ref this, .int (-2)]) (r := []) (a := 0) (b := 0) rfl ⟨g42, Nat.le_of_ble_eq_true rfl, Nat.zero_le _, Nat.zero_le _⟩ (vX12_tell d (by omega) h) ?_
          rintro v S40 ⟨r41, rfl, h⟩
          show jLf (jCall jmt jbud d) jbud (fun j => (jmt j).rk) none mX12_wed (jqI Q) (23, [some (.ref this), some (.int p1), some (.int p2), some (.int p3), none], [.int r41], S40, 0, 0)
          exact jLf.ret hc _ rfl (gs := [True]) (v := some (.int r41)) rfl trivial ⟨r41, rfl, h⟩
      · have h := h.2 hz
        refine jLf.sub [some (.ref this), none, none, none, none] (jle_same (jle_none (jle_none (jle_none (jle_same (jle_nil _)))))) ?_
        exact tX12_wed_12 d hd  h
def bX12_jilt_25   (X25 : Nat → Int32 → JS → Prop) (l0 : Nat) (l2 : Int32) (S : JS) (Q : Int32 → JS → Prop) : Prop :=
  (77 ≤ l2 → jA S l0 12 ∧ (¬ jR S l0 3 = none ∧ (jA S (jr S l0 3) 13 ∧ (vp_in (5 : Int32) (jZ S (jr S l0 3)) ∧ (∀ S14 : JS, S14 = uI S (jr S l0 3) (5 : Int32).toNatClampNeg ((jI S (jr S l0 3) (5 : Int32).toNatClampNeg) - (1 : Int32)) → (jA S14 l0 12 ∧ (¬ jR S14 l0 3 = none ∧ (jA S14 (jr S14 l0 3) 13 ∧ (vp_in (5 : Int32) (jZ S14 (jr S14 l0 3)) ∧ (wX12_tell l0 (jI S14 (jr S14 l0 3) (5 : Int32).toNatClampNeg) S14 (fun r20 S19 => Q r20 S19))))))))))) ∧ (¬ (77 ≤ l2) → jA S l0 12 ∧ (¬ jR S l0 3 = none ∧ (jA S (jr S l0 3) 13 ∧ (vp_in (l2 + (3 : Int32)) (jZ S (jr S l0 3)) ∧ (vp_in l2 (jZ S (jr S l0 3)) ∧ (∀ S26 : JS, S26 = uI S (jr S l0 3) l2.toNatClampNeg (jI S (jr S l0 3) (l2 + (3 : Int32)).toNatClampNeg) → (∀ x27 : Int32, x27 = (l2 + 1) → (X25 l0 x27 S26))))))))
set_option maxRecDepth 20000 in
theorem uX12_jilt_25 {Q : Int32 → JS → Prop}  (d : Nat) (hd : 1 ≤ d) {X25 : Nat → Int32 → JS → Prop} (hX25 : ∀ l0 l2 S, X25 l0 l2 S → jLf (jCall jmt jbud d) jbud (fun j => (jmt j).rk) none mX12_jilt (jqI Q) (25, [some (.ref l0), none, some (.int l2)], [], S, 0, 0)) {l0 : Nat} {l2 : Int32} {S : JS} (h : bX12_jilt_25 X25 l0 l2 S Q) : jLf (jCall jmt jbud d) jbud (fun j => (jmt j).rk) none mX12_jilt (jqI Q) (25, [some (.ref l0), none, some (.int l2)], [], S, 0, 0) := by
  have hc := jCall_mono jmt jbud d
  unfold bX12_jilt_25 at h
  refine jLf.bk hc 2 [] [some (.ref l0), none, some (.int l2)] [.int 77, .int l2] S rfl rfl rfl trivial ?_
  refine jLf.two hc _ rfl (gs := []) (p1 := 77 ≤ l2) (p2 := ¬ (77 ≤ l2)) (c1 := (40, [some (.ref l0), none, some (.int l2)], [], S, 0, 0)) (c2 := (28, [some (.ref l0), none, some (.int l2)], [], S, 0, 0)) rfl trivial (fun hz => ?_) (fun hz => ?_)
  · have h := h.1 hz
    obtain ⟨g10, g11, g12, g13, h⟩ := h
    refine jLf.bk hc 8 [jA S l0 12, ¬ jR S l0 3 = none, jA S (jr S l0 3) 13, vp_in (5 : Int32) (jZ S (jr S l0 3)), jA S (jr S l0 3) 13, vp_in (5 : Int32) (jZ S (jr S l0 3))] [some (.ref l0), none, some (.int l2)] [] (uI S (jr S l0 3) (5 : Int32).toNatClampNeg ((jI S (jr S l0 3) (5 : Int32).toNatClampNeg) - (1 : Int32))) rfl rfl rfl ⟨g10, g11, g12, g13, g12, g13⟩ ?_
    generalize eS14 : uI S (jr S l0 3) (5 : Int32).toNatClampNeg ((jI S (jr S l0 3) (5 : Int32).toNatClampNeg) - (1 : Int32)) = S14
    have h := h S14 eS14.symm
    obtain ⟨g15, g16, g17, g18, h⟩ := h
    refine jLf.bk hc 5 [jA S14 l0 12, ¬ jR S14 l0 3 = none, jA S14 (jr S14 l0 3) 13, vp_in (5 : Int32) (jZ S14 (jr S14 l0 3))] [some (.ref l0), none, some (.int l2)] [.int (jI S14 (jr S14 l0 3) (5 : Int32).toNatClampNeg), .ref l0] S14 rfl rfl rfl ⟨g15, g16, g17, g18⟩ ?_
    refine jLf.inv hc _ rfl (gs := [jA S14 l0 12, (([] : List Value).map fun v => v.category).sum ≤ 8, 0 ≤ 0, 0 ≤ 0]) (k := 150) (args := [.ref l0, .int (jI S14 (jr S14 l0 3) (5 : Int32).toNatClampNeg)]) (r := []) (a := 0) (b := 0) rfl ⟨g15, Nat.le_of_ble_eq_true rfl, Nat.zero_le _, Nat.zero_le _⟩ (vX12_tell d (by omega) h) ?_
    rintro v S19 ⟨r20, rfl, h⟩
    show jLf (jCall jmt jbud d) jbud (fun j => (jmt j).rk) none mX12_jilt (jqI Q) (54, [some (.ref l0), none, some (.int l2)], [.int r20], S19, 0, 0)
    exact jLf.ret hc _ rfl (gs := [True]) (v := some (.int r20)) rfl trivial ⟨r20, rfl, h⟩
  · have h := h.2 hz
    obtain ⟨g21, g22, g23, g24, g25, h⟩ := h
    refine jLf.bk hc 10 [jA S l0 12, ¬ jR S l0 3 = none, jA S l0 12, ¬ jR S l0 3 = none, jA S (jr S l0 3) 13, vp_in (l2 + (3 : Int32)) (jZ S (jr S l0 3)), jA S (jr S l0 3) 13, vp_in l2 (jZ S (jr S l0 3))] [some (.ref l0), none, some (.int l2)] [] (uI S (jr S l0 3) l2.toNatClampNeg (jI S (jr S l0 3) (l2 + (3 : Int32)).toNatClampNeg)) rfl rfl rfl ⟨g21, g22, g21, g22, g23, g24, g23, g25⟩ ?_
    generalize eS26 : uI S (jr S l0 3) l2.toNatClampNeg (jI S (jr S l0 3) (l2 + (3 : Int32)).toNatClampNeg) = S26
    have h := h S26 eS26.symm
    refine jLf.bk hc 1 [] [some (.ref l0), none, some (.int (l2 + 1))] [] S26 rfl rfl rfl trivial ?_
    generalize ex27 : (l2 + 1 : Int32) = x27
    have h := h x27 ex27.symm
    refine jLf.one hc _ rfl (gs := []) (c := (25, [some (.ref l0), none, some (.int x27)], [], S26, 0, 0)) rfl trivial ?_
    exact hX25 _ _ _ h
def wX12_jilt_25   (l0 : Nat) (l2 : Int32) (S : JS) (Q : Int32 → JS → Prop) : Prop :=
  jLoop (fun (X25 : Nat × Int32 × JS → Prop) q => bX12_jilt_25 (fun l0 l2 S => X25 (l0, l2, S)) q.1 q.2.1 q.2.2 Q) (l0, l2, S)
set_option maxRecDepth 20000 in
theorem tX12_jilt_25 {Q : Int32 → JS → Prop}  (d : Nat) (hd : 1 ≤ d) {l0 : Nat} {l2 : Int32} {S : JS} (h : wX12_jilt_25 l0 l2 S Q) : jLf (jCall jmt jbud d) jbud (fun j => (jmt j).rk) none mX12_jilt (jqI Q) (25, [some (.ref l0), none, some (.int l2)], [], S, 0, 0) := by
  have := h (fun q : Nat × Int32 × JS => jLf (jCall jmt jbud d) jbud (fun j => (jmt j).rk) none mX12_jilt (jqI Q) (25, [some (.ref (q.1)), none, some (.int (q.2.1))], [], q.2.2, 0, 0)) (fun q R hb hR => uX12_jilt_25 d hd  (fun _ _ _ => hR _) hb)
  exact this
def wX12_jilt  (this : Nat) (p1 : Int32) (S : JS) (Q : Int32 → JS → Prop) : Prop :=
  jA S this 12 ∧ (∀ S2 : JS, S2 = uI S this 0 0 → (jA S2 this 12 ∧ (¬ jR S2 this 3 = none ∧ (jA S2 (jr S2 this 3) 13 ∧ (vp_in (5 : Int32) (jZ S2 (jr S2 this 3)) ∧ (wX12_in (p1.toInt64) 0 (((jI S2 (jr S2 this 3) (5 : Int32).toNatClampNeg).toInt64) - (1 : Int64)) S2 (fun r8 S7 => (¬ r8 = 0 → ∀ x9 : Int32, x9 = ((68 : Int32) + ((3 : Int32) * p1)) → (wX12_jilt_25 this x9 S7 Q)) ∧ (r8 = 0 → jA S7 this 12 ∧ (wX12_tell this (-2) S7 (fun r29 S28 => Q r29 S28))))))))))
set_option maxRecDepth 20000 in
theorem vX12_jilt {Q : Int32 → JS → Prop} (d : Nat) (hd : 2 ≤ d) {this : Nat} {p1 : Int32} {S : JS} (h : wX12_jilt this p1 S Q) : jCall jmt jbud d 160 [.ref this, .int p1] S (jqI Q) := by
  obtain ⟨d, rfl⟩ : ∃ d2, d = d2 + 1 := ⟨d - 1, by omega⟩
  have hd : 1 ≤ d := by omega
  have hc := jCall_mono jmt jbud d
  unfold wX12_jilt at h
  refine ⟨Nat.le_of_ble_eq_true rfl, ?_⟩
  show jLf (jCall jmt jbud d) jbud (fun j => (jmt j).rk) none mX12_jilt (jqI Q) (0, [some (.ref this), some (.int p1), none], [], S, 0, 0)
  obtain ⟨g1, h⟩ := h
  refine jLf.bk hc 3 [jA S this 12] [some (.ref this), some (.int p1), none] [] (uI S this 0 0) rfl rfl rfl g1 ?_
  generalize eS2 : uI S this 0 0 = S2
  have h := h S2 eS2.symm
  obtain ⟨g3, g4, g5, g6, h⟩ := h
  refine jLf.bk hc 10 [jA S2 this 12, ¬ jR S2 this 3 = none, jA S2 (jr S2 this 3) 13, vp_in (5 : Int32) (jZ S2 (jr S2 this 3))] [some (.ref this), some (.int p1), none] [.long (((jI S2 (jr S2 this 3) (5 : Int32).toNatClampNeg).toInt64) - (1 : Int64)), .long 0, .long (p1.toInt64)] S2 rfl rfl rfl ⟨g3, g4, g5, g6⟩ ?_
  refine jLf.inv hc _ rfl (gs := [3 ≤ ([.long (((jI S2 (jr S2 this 3) (5 : Int32).toNatClampNeg).toInt64) - (1 : Int64)), .long 0, .long (p1.toInt64)] : List Value).length, (([] : List Value).map fun v => v.category).sum ≤ 8, 0 ≤ 0, 0 ≤ 0]) (k := 148) (args := [.long (p1.toInt64), .long 0, .long (((jI S2 (jr S2 this 3) (5 : Int32).toNatClampNeg).toInt64) - (1 : Int64))]) (r := []) (a := 0) (b := 0) rfl ⟨Nat.le_of_ble_eq_true rfl, Nat.le_of_ble_eq_true rfl, Nat.zero_le _, Nat.zero_le _⟩ (vX12_in d (by omega) h) ?_
  rintro v S7 ⟨r8, rfl, h⟩
  show jLf (jCall jmt jbud d) jbud (fun j => (jmt j).rk) none mX12_jilt (jqI Q) (14, [some (.ref this), some (.int p1), none], [.int r8], S7, 0, 0)
  refine jLf.two hc _ rfl (gs := []) (p1 := ¬ r8 = 0) (p2 := ¬ (¬ r8 = 0)) (c1 := (19, [some (.ref this), some (.int p1), none], [], S7, 0, 0)) (c2 := (15, [some (.ref this), some (.int p1), none], [], S7, 0, 0)) rfl trivial (fun hz => ?_) (fun hz => ?_)
  · have h := h.1 hz
    refine jLf.bk hc 6 [] [some (.ref this), some (.int p1), some (.int ((68 : Int32) + ((3 : Int32) * p1)))] [] S7 rfl rfl rfl trivial ?_
    generalize ex9 : ((68 : Int32) + ((3 : Int32) * p1) : Int32) = x9
    have h := h x9 ex9.symm
    refine jLf.sub [some (.ref this), none, some (.int x9)] (jle_same (jle_none (jle_same (jle_nil _)))) ?_
    exact tX12_jilt_25 d hd  h
  · have h := h.2 (Classical.not_not.mp hz)
    refine jLf.bk hc 2 [] [some (.ref this), some (.int p1), none] [.int (-2), .ref this] S7 rfl rfl rfl trivial ?_
    obtain ⟨g30, h⟩ := h
    refine jLf.inv hc _ rfl (gs := [jA S7 this 12, (([] : List Value).map fun v => v.category).sum ≤ 8, 0 ≤ 0, 0 ≤ 0]) (k := 150) (args := [.ref this, .int (-2)]) (r := []) (a := 0) (b := 0) rfl ⟨g30, Nat.le_of_ble_eq_true rfl, Nat.zero_le _, Nat.zero_le _⟩ (vX12_tell d (by omega) h) ?_
    rintro v S28 ⟨r29, rfl, h⟩
    show jLf (jCall jmt jbud d) jbud (fun j => (jmt j).rk) none mX12_jilt (jqI Q) (18, [some (.ref this), some (.int p1), none], [.int r29], S28, 0, 0)
    exact jLf.ret hc _ rfl (gs := [True]) (v := some (.int r29)) rfl trivial ⟨r29, rfl, h⟩
def wX12_row_64  (X22 : Nat → Int32 → Int32 → Int32 → JS → Prop) (l0 : Nat) (l1 : Int32) (l2 : Int32) (l3 : Int32) (S : JS) (Q : Int32 → JS → Prop) : Prop :=
  ∀ x19 : Int32, x19 = (l3 + 1) → (X22 l0 l1 l2 x19 S)
set_option maxRecDepth 20000 in
theorem tX12_row_64 {Q : Int32 → JS → Prop} {X22 : Nat → Int32 → Int32 → Int32 → JS → Prop} (d : Nat) (hd : 2 ≤ d) (hX22 : ∀ l0 l1 l2 l3 S, X22 l0 l1 l2 l3 S → jLf (jCall jmt jbud d) jbud (fun j => (jmt j).rk) none mX12_row (jqI Q) (22, [some (.ref l0), some (.int l1), some (.int l2), some (.int l3)], [], S, 0, 0)) {l0 : Nat} {l1 : Int32} {l2 : Int32} {l3 : Int32} {S : JS} (h : wX12_row_64 X22 l0 l1 l2 l3 S Q) : jLf (jCall jmt jbud d) jbud (fun j => (jmt j).rk) none mX12_row (jqI Q) (64, [some (.ref l0), some (.int l1), some (.int l2), some (.int l3)], [], S, 0, 0) := by
  have hc := jCall_mono jmt jbud d
  unfold wX12_row_64 at h
  refine jLf.bk hc 1 [] [some (.ref l0), some (.int l1), some (.int l2), some (.int (l3 + 1))] [] S rfl rfl rfl trivial ?_
  generalize ex19 : (l3 + 1 : Int32) = x19
  have h := h x19 ex19.symm
  refine jLf.one hc _ rfl (gs := []) (c := (22, [some (.ref l0), some (.int l1), some (.int l2), some (.int x19)], [], S, 0, 0)) rfl trivial ?_
  exact hX22 _ _ _ _ _ h
def wX12_row_45  (X22 : Nat → Int32 → Int32 → Int32 → JS → Prop) (l0 : Nat) (l1 : Int32) (l3 : Int32) (s0 : Int32) (s1 : Int32) (S : JS) (Q : Int32 → JS → Prop) : Prop :=
  ∀ x27 : Int32, x27 = (s1 + s0) → (jA S l0 12 ∧ (¬ jR S l0 3 = none ∧ (¬ jR S l0 7 = none ∧ (jA S (jr S l0 7) 13 ∧ (vp_in l3 (jZ S (jr S l0 7)) ∧ (jA S (jr S l0 3) 13 ∧ (vp_in ((8 : Int32) + (jI S (jr S l0 7) l3.toNatClampNeg)) (jZ S (jr S l0 3)) ∧ (∀ S35 : JS, S35 = uI S (jr S l0 3) ((8 : Int32) + (jI S (jr S l0 7) l3.toNatClampNeg)).toNatClampNeg 1 → (wX12_row_64 X22 l0 l1 x27 l3 S35 Q)))))))))
set_option maxRecDepth 20000 in
theorem tX12_row_45 {Q : Int32 → JS → Prop} {X22 : Nat → Int32 → Int32 → Int32 → JS → Prop} (d : Nat) (hd : 2 ≤ d) (hX22 : ∀ l0 l1 l2 l3 S, X22 l0 l1 l2 l3 S → jLf (jCall jmt jbud d) jbud (fun j => (jmt j).rk) none mX12_row (jqI Q) (22, [some (.ref l0), some (.int l1), some (.int l2), some (.int l3)], [], S, 0, 0)) {l0 : Nat} {l1 : Int32} {l3 : Int32} {s0 : Int32} {s1 : Int32} {S : JS} (h : wX12_row_45 X22 l0 l1 l3 s0 s1 S Q) : jLf (jCall jmt jbud d) jbud (fun j => (jmt j).rk) none mX12_row (jqI Q) (45, [some (.ref l0), some (.int l1), none, some (.int l3)], [.int s0, .int s1], S, 0, 0) := by
  have hc := jCall_mono jmt jbud d
  unfold wX12_row_45 at h
  refine jLf.bk hc 2 [] [some (.ref l0), some (.int l1), some (.int (s1 + s0)), some (.int l3)] [] S rfl rfl rfl trivial ?_
  generalize ex27 : (s1 + s0 : Int32) = x27
  have h := h x27 ex27.symm
  obtain ⟨g28, g29, g30, g31, g32, g33, g34, h⟩ := h
  refine jLf.bk hc 10 [jA S l0 12, ¬ jR S l0 3 = none, jA S l0 12, ¬ jR S l0 7 = none, jA S (jr S l0 7) 13, vp_in l3 (jZ S (jr S l0 7)), jA S (jr S l0 3) 13, vp_in ((8 : Int32) + (jI S (jr S l0 7) l3.toNatClampNeg)) (jZ S (jr S l0 3))] [some (.ref l0), some (.int l1), some (.int x27), some (.int l3)] [] (uI S (jr S l0 3) ((8 : Int32) + (jI S (jr S l0 7) l3.toNatClampNeg)).toNatClampNeg 1) rfl rfl rfl ⟨g28, g29, g28, g30, g31, g32, g33, g34⟩ ?_
  generalize eS35 : uI S (jr S l0 3) ((8 : Int32) + (jI S (jr S l0 7) l3.toNatClampNeg)).toNatClampNeg 1 = S35
  have h := h S35 eS35.symm
  refine jLf.one hc _ rfl (gs := []) (c := (64, [some (.ref l0), some (.int l1), some (.int x27), some (.int l3)], [], S35, 0, 0)) rfl trivial ?_
  exact tX12_row_64 d hd hX22 h
def bX12_row_22   (X22 : Nat → Int32 → Int32 → Int32 → JS → Prop) (l0 : Nat) (l1 : Int32) (l2 : Int32) (l3 : Int32) (S : JS) (Q : Int32 → JS → Prop) : Prop :=
  (l1 ≤ l3 → jA S l0 12 ∧ (wX12_tell l0 l2 S (fun r9 S8 => Q r9 S8))) ∧ (¬ (l1 ≤ l3) → jA S l0 12 ∧ (¬ jR S l0 7 = none ∧ (jA S (jr S l0 7) 13 ∧ (vp_in l3 (jZ S (jr S l0 7)) ∧ (wX12_isNight (jI S (jr S l0 7) l3.toNatClampNeg) S (fun r16 S15 => (r16 = 0 → jA S15 l0 12 ∧ (∀ S18 : JS, S18 = uI S15 l0 6 ((jI S15 l0 6) + (1 : Int32)) → (wX12_row_64 X22 l0 l1 l2 l3 S18 Q))) ∧ (¬ r16 = 0 → jA S15 l0 12 ∧ (¬ jR S15 l0 3 = none ∧ (¬ jR S15 l0 7 = none ∧ (jA S15 (jr S15 l0 7) 13 ∧ (vp_in l3 (jZ S15 (jr S15 l0 7)) ∧ (jA S15 (jr S15 l0 3) 13 ∧ (vp_in ((8 : Int32) + (jI S15 (jr S15 l0 7) l3.toNatClampNeg)) (jZ S15 (jr S15 l0 3)) ∧ ((¬ (jI S15 (jr S15 l0 3) ((8 : Int32) + (jI S15 (jr S15 l0 7) l3.toNatClampNeg)).toNatClampNeg) = 0 → wX12_row_45 X22 l0 l1 l3 0 l2 S15 Q) ∧ ((jI S15 (jr S15 l0 3) ((8 : Int32) + (jI S15 (jr S15 l0 7) l3.toNatClampNeg)).toNatClampNeg) = 0 → wX12_row_45 X22 l0 l1 l3 1 l2 S15 Q)))))))))))))))
set_option maxRecDepth 20000 in
theorem uX12_row_22 {Q : Int32 → JS → Prop}  (d : Nat) (hd : 2 ≤ d) {X22 : Nat → Int32 → Int32 → Int32 → JS → Prop} (hX22 : ∀ l0 l1 l2 l3 S, X22 l0 l1 l2 l3 S → jLf (jCall jmt jbud d) jbud (fun j => (jmt j).rk) none mX12_row (jqI Q) (22, [some (.ref l0), some (.int l1), some (.int l2), some (.int l3)], [], S, 0, 0)) {l0 : Nat} {l1 : Int32} {l2 : Int32} {l3 : Int32} {S : JS} (h : bX12_row_22 X22 l0 l1 l2 l3 S Q) : jLf (jCall jmt jbud d) jbud (fun j => (jmt j).rk) none mX12_row (jqI Q) (22, [some (.ref l0), some (.int l1), some (.int l2), some (.int l3)], [], S, 0, 0) := by
  have hc := jCall_mono jmt jbud d
  unfold bX12_row_22 at h
  refine jLf.bk hc 2 [] [some (.ref l0), some (.int l1), some (.int l2), some (.int l3)] [.int l1, .int l3] S rfl rfl rfl trivial ?_
  refine jLf.two hc _ rfl (gs := []) (p1 := l1 ≤ l3) (p2 := ¬ (l1 ≤ l3)) (c1 := (66, [some (.ref l0), some (.int l1), some (.int l2), some (.int l3)], [], S, 0, 0)) (c2 := (25, [some (.ref l0), some (.int l1), some (.int l2), some (.int l3)], [], S, 0, 0)) rfl trivial (fun hz => ?_) (fun hz => ?_)
  · have h := h.1 hz
    refine jLf.bk hc 2 [] [some (.ref l0), some (.int l1), some (.int l2), some (.int l3)] [.int l2, .ref l0] S rfl rfl rfl trivial ?_
    obtain ⟨g10, h⟩ := h
    refine jLf.inv hc _ rfl (gs := [jA S l0 12, (([] : List Value).map fun v => v.category).sum ≤ 8, 0 ≤ 0, 0 ≤ 0]) (k := 150) (args := [.ref l0, .int l2]) (r := []) (a := 0) (b := 0) rfl ⟨g10, Nat.le_of_ble_eq_true rfl, Nat.zero_le _, Nat.zero_le _⟩ (vX12_tell d (by omega) h) ?_
    rintro v S8 ⟨r9, rfl, h⟩
    show jLf (jCall jmt jbud d) jbud (fun j => (jmt j).rk) none mX12_row (jqI Q) (69, [some (.ref l0), some (.int l1), some (.int l2), some (.int l3)], [.int r9], S8, 0, 0)
    exact jLf.ret hc _ rfl (gs := [True]) (v := some (.int r9)) rfl trivial ⟨r9, rfl, h⟩
  · have h := h.2 hz
    obtain ⟨g11, g12, g13, g14, h⟩ := h
    refine jLf.bk hc 4 [jA S l0 12, ¬ jR S l0 7 = none, jA S (jr S l0 7) 13, vp_in l3 (jZ S (jr S l0 7))] [some (.ref l0), some (.int l1), some (.int l2), some (.int l3)] [.int (jI S (jr S l0 7) l3.toNatClampNeg)] S rfl rfl rfl ⟨g11, g12, g13, g14⟩ ?_
    refine jLf.inv hc _ rfl (gs := [1 ≤ ([.int (jI S (jr S l0 7) l3.toNatClampNeg)] : List Value).length, (([] : List Value).map fun v => v.category).sum ≤ 8, 0 ≤ 0, 0 ≤ 0]) (k := 156) (args := [.int (jI S (jr S l0 7) l3.toNatClampNeg)]) (r := []) (a := 0) (b := 0) rfl ⟨Nat.le_of_ble_eq_true rfl, Nat.le_of_ble_eq_true rfl, Nat.zero_le _, Nat.zero_le _⟩ (vX12_isNight d (by omega) h) ?_
    rintro v S15 ⟨r16, rfl, h⟩
    show jLf (jCall jmt jbud d) jbud (fun j => (jmt j).rk) none mX12_row (jqI Q) (30, [some (.ref l0), some (.int l1), some (.int l2), some (.int l3)], [.int r16], S15, 0, 0)
    refine jLf.two hc _ rfl (gs := []) (p1 := r16 = 0) (p2 := ¬ (r16 = 0)) (c1 := (58, [some (.ref l0), some (.int l1), some (.int l2), some (.int l3)], [], S15, 0, 0)) (c2 := (31, [some (.ref l0), some (.int l1), some (.int l2), some (.int l3)], [], S15, 0, 0)) rfl trivial (fun hz => ?_) (fun hz => ?_)
    · have h := h.1 hz
      obtain ⟨g17, h⟩ := h
      refine jLf.bk hc 6 [(.ref l0 : Value).category = 1, jA S15 l0 12, jA S15 l0 12] [some (.ref l0), some (.int l1), some (.int l2), some (.int l3)] [] (uI S15 l0 6 ((jI S15 l0 6) + (1 : Int32))) rfl rfl rfl ⟨rfl, g17, g17⟩ ?_
      generalize eS18 : uI S15 l0 6 ((jI S15 l0 6) + (1 : Int32)) = S18
      have h := h S18 eS18.symm
      exact tX12_row_64 d hd hX22 h
    · have h := h.2 hz
      obtain ⟨g20, g21, g22, g23, g24, g25, g26, h⟩ := h
      refine jLf.bk hc 10 [jA S15 l0 12, ¬ jR S15 l0 3 = none, jA S15 l0 12, ¬ jR S15 l0 7 = none, jA S15 (jr S15 l0 7) 13, vp_in l3 (jZ S15 (jr S15 l0 7)), jA S15 (jr S15 l0 3) 13, vp_in ((8 : Int32) + (jI S15 (jr S15 l0 7) l3.toNatClampNeg)) (jZ S15 (jr S15 l0 3))] [some (.ref l0), some (.int l1), some (.int l2), some (.int l3)] [.int (jI S15 (jr S15 l0 3) ((8 : Int32) + (jI S15 (jr S15 l0 7) l3.toNatClampNeg)).toNatClampNeg), .int l2] S15 rfl rfl rfl ⟨g20, g21, g20, g22, g23, g24, g25, g26⟩ ?_
      refine jLf.two hc _ rfl (gs := []) (p1 := ¬ (jI S15 (jr S15 l0 3) ((8 : Int32) + (jI S15 (jr S15 l0 7) l3.toNatClampNeg)).toNatClampNeg) = 0) (p2 := ¬ (¬ (jI S15 (jr S15 l0 3) ((8 : Int32) + (jI S15 (jr S15 l0 7) l3.toNatClampNeg)).toNatClampNeg) = 0)) (c1 := (44, [some (.ref l0), some (.int l1), some (.int l2), some (.int l3)], [.int l2], S15, 0, 0)) (c2 := (42, [some (.ref l0), some (.int l1), some (.int l2), some (.int l3)], [.int l2], S15, 0, 0)) rfl trivial (fun hz => ?_) (fun hz => ?_)
      · have h := h.1 hz
        refine jLf.bk hc 1 [] [some (.ref l0), some (.int l1), some (.int l2), some (.int l3)] [.int 0, .int l2] S15 rfl rfl rfl trivial ?_
        refine jLf.sub [some (.ref l0), some (.int l1), none, some (.int l3)] (jle_same (jle_same (jle_none (jle_same (jle_nil _))))) ?_
        exact tX12_row_45 d hd hX22 h
      · have h := h.2 (Classical.not_not.mp hz)
        refine jLf.bk hc 1 [] [some (.ref l0), some (.int l1), some (.int l2), some (.int l3)] [.int 1, .int l2] S15 rfl rfl rfl trivial ?_
        refine jLf.one hc _ rfl (gs := []) (c := (45, [some (.ref l0), some (.int l1), some (.int l2), some (.int l3)], [.int 1, .int l2], S15, 0, 0)) rfl trivial ?_
        refine jLf.sub [some (.ref l0), some (.int l1), none, some (.int l3)] (jle_same (jle_same (jle_none (jle_same (jle_nil _))))) ?_
        exact tX12_row_45 d hd hX22 h
def wX12_row_22   (l0 : Nat) (l1 : Int32) (l2 : Int32) (l3 : Int32) (S : JS) (Q : Int32 → JS → Prop) : Prop :=
  jLoop (fun (X22 : Nat × Int32 × Int32 × Int32 × JS → Prop) q => bX12_row_22 (fun l0 l1 l2 l3 S => X22 (l0, l1, l2, l3, S)) q.1 q.2.1 q.2.2.1 q.2.2.2.1 q.2.2.2.2 Q) (l0, l1, l2, l3, S)
set_option maxRecDepth 20000 in
theorem tX12_row_22 {Q : Int32 → JS → Prop}  (d : Nat) (hd : 2 ≤ d) {l0 : Nat} {l1 : Int32} {l2 : Int32} {l3 : Int32} {S : JS} (h : wX12_row_22 l0 l1 l2 l3 S Q) : jLf (jCall jmt jbud d) jbud (fun j => (jmt j).rk) none mX12_row (jqI Q) (22, [some (.ref l0), some (.int l1), some (.int l2), some (.int l3)], [], S, 0, 0) := by
  have := h (fun q : Nat × Int32 × Int32 × Int32 × JS => jLf (jCall jmt jbud d) jbud (fun j => (jmt j).rk) none mX12_row (jqI Q) (22, [some (.ref (q.1)), some (.int (q.2.1)), some (.int (q.2.2.1)), some (.int (q.2.2.2.1))], [], q.2.2.2.2, 0, 0)) (fun q R hb hR => uX12_row_22 d hd  (fun _ _ _ _ _ => hR _) hb)
  exact this
def wX12_row  (this : Nat) (S : JS) (Q : Int32 → JS → Prop) : Prop :=
  jA S this 12 ∧ (∀ S2 : JS, S2 = uI S this 0 0 → (jA S2 this 12 ∧ (∀ x4 : Int32, x4 = (jI S2 this 8) → (∀ S5 : JS, S5 = uI S2 this 8 0 → ((¬ x4 = 0 → jA S5 this 12 ∧ (∀ S7 : JS, S7 = uI S5 this 6 0 → (wX12_row_22 this x4 0 0 S7 Q))) ∧ (x4 = 0 → jA S5 this 12 ∧ (wX12_tell this (-6) S5 (fun r37 S36 => Q r37 S36))))))))
set_option maxRecDepth 20000 in
theorem vX12_row {Q : Int32 → JS → Prop} (d : Nat) (hd : 3 ≤ d) {this : Nat} {S : JS} (h : wX12_row this S Q) : jCall jmt jbud d 161 [.ref this] S (jqI Q) := by
  obtain ⟨d, rfl⟩ : ∃ d2, d = d2 + 1 := ⟨d - 1, by omega⟩
  have hd : 2 ≤ d := by omega
  have hc := jCall_mono jmt jbud d
  unfold wX12_row at h
  refine ⟨Nat.le_of_ble_eq_true rfl, ?_⟩
  show jLf (jCall jmt jbud d) jbud (fun j => (jmt j).rk) none mX12_row (jqI Q) (0, [some (.ref this), none, none, none], [], S, 0, 0)
  obtain ⟨g1, h⟩ := h
  refine jLf.bk hc 3 [jA S this 12] [some (.ref this), none, none, none] [] (uI S this 0 0) rfl rfl rfl g1 ?_
  generalize eS2 : uI S this 0 0 = S2
  have h := h S2 eS2.symm
  obtain ⟨g3, h⟩ := h
  refine jLf.bk hc 3 [jA S2 this 12] [some (.ref this), some (.int (jI S2 this 8)), none, none] [] S2 rfl rfl rfl g3 ?_
  generalize ex4 : (jI S2 this 8 : Int32) = x4
  have h := h x4 ex4.symm
  refine jLf.bk hc 3 [jA S2 this 12] [some (.ref this), some (.int x4), none, none] [] (uI S2 this 8 0) rfl rfl rfl g3 ?_
  generalize eS5 : uI S2 this 8 0 = S5
  have h := h S5 eS5.symm
  refine jLf.bk hc 1 [] [some (.ref this), some (.int x4), none, none] [.int x4] S5 rfl rfl rfl trivial ?_
  refine jLf.two hc _ rfl (gs := []) (p1 := ¬ x4 = 0) (p2 := ¬ (¬ x4 = 0)) (c1 := (15, [some (.ref this), some (.int x4), none, none], [], S5, 0, 0)) (c2 := (11, [some (.ref this), some (.int x4), none, none], [], S5, 0, 0)) rfl trivial (fun hz => ?_) (fun hz => ?_)
  · have h := h.1 hz
    obtain ⟨g6, h⟩ := h
    refine jLf.bk hc 3 [jA S5 this 12] [some (.ref this), some (.int x4), none, none] [] (uI S5 this 6 0) rfl rfl rfl g6 ?_
    generalize eS7 : uI S5 this 6 0 = S7
    have h := h S7 eS7.symm
    refine jLf.bk hc 4 [] [some (.ref this), some (.int x4), some (.int 0), some (.int 0)] [] S7 rfl rfl rfl trivial ?_
    exact tX12_row_22 d hd  h
  · have h := h.2 (Classical.not_not.mp hz)
    refine jLf.bk hc 2 [] [some (.ref this), some (.int x4), none, none] [.int (-6), .ref this] S5 rfl rfl rfl trivial ?_
    obtain ⟨g38, h⟩ := h
    refine jLf.inv hc _ rfl (gs := [jA S5 this 12, (([] : List Value).map fun v => v.category).sum ≤ 8, 0 ≤ 0, 0 ≤ 0]) (k := 150) (args := [.ref this, .int (-6)]) (r := []) (a := 0) (b := 0) rfl ⟨g38, Nat.le_of_ble_eq_true rfl, Nat.zero_le _, Nat.zero_le _⟩ (vX12_tell d (by omega) h) ?_
    rintro v S36 ⟨r37, rfl, h⟩
    show jLf (jCall jmt jbud d) jbud (fun j => (jmt j).rk) none mX12_row (jqI Q) (14, [some (.ref this), some (.int x4), none, none], [.int r37], S36, 0, 0)
    exact jLf.ret hc _ rfl (gs := [True]) (v := some (.int r37)) rfl trivial ⟨r37, rfl, h⟩
def wX12_spray  (this : Nat) (S : JS) (Q : Int32 → JS → Prop) : Prop :=
  jA S this 12 ∧ (∀ S2 : JS, S2 = uI S this 0 0 → (jA S2 this 12 ∧ (Q (jI S2 this 6) S2)))
set_option maxRecDepth 20000 in
theorem vX12_spray {Q : Int32 → JS → Prop} (d : Nat) (hd : 1 ≤ d) {this : Nat} {S : JS} (h : wX12_spray this S Q) : jCall jmt jbud d 162 [.ref this] S (jqI Q) := by
  obtain ⟨d, rfl⟩ : ∃ d2, d = d2 + 1 := ⟨d - 1, by omega⟩
  have hd : 0 ≤ d := by omega
  have hc := jCall_mono jmt jbud d
  unfold wX12_spray at h
  refine ⟨Nat.le_of_ble_eq_true rfl, ?_⟩
  show jLf (jCall jmt jbud d) jbud (fun j => (jmt j).rk) none mX12_spray (jqI Q) (0, [some (.ref this)], [], S, 0, 0)
  obtain ⟨g1, h⟩ := h
  refine jLf.bk hc 3 [jA S this 12] [some (.ref this)] [] (uI S this 0 0) rfl rfl rfl g1 ?_
  generalize eS2 : uI S this 0 0 = S2
  have h := h S2 eS2.symm
  obtain ⟨g3, h⟩ := h
  refine jLf.bk hc 2 [jA S2 this 12] [some (.ref this)] [.int (jI S2 this 6)] S2 rfl rfl rfl g3 ?_
  exact jLf.ret hc _ rfl (gs := [True]) (v := some (.int (jI S2 this 6))) rfl trivial ⟨jI S2 this 6, rfl, h⟩
def bX12_four_2   (X2 : Nat → Int32 → Int32 → JS → Prop) (l0 : Nat) (l1 : Int32) (l2 : Int32) (S : JS) (Q : JS → Prop) : Prop :=
  (l2 < 0 → Q S) ∧ (¬ (l2 < 0) → jA S l0 12 ∧ (¬ jR S l0 7 = none ∧ (jA S (jr S l0 7) 13 ∧ (vp_in (jI S l0 8) (jZ S (jr S l0 7)) ∧ (∀ S5 : JS, S5 = uI S (jr S l0 7) (jI S l0 8).toNatClampNeg ((l1 >>> (l2 &&& 31)) &&& (255 : Int32)) → (jA S5 l0 12 ∧ (∀ S7 : JS, S7 = uI S5 l0 8 ((jI S5 l0 8) + (1 : Int32)) → (∀ x8 : Int32, x8 = (l2 + (-8)) → (X2 l0 l1 x8 S7)))))))))
set_option maxRecDepth 20000 in
theorem uX12_four_2 {Q : JS → Prop}  (d : Nat) (hd : 0 ≤ d) {X2 : Nat → Int32 → Int32 → JS → Prop} (hX2 : ∀ l0 l1 l2 S, X2 l0 l1 l2 S → jLf (jCall jmt jbud d) jbud (fun j => (jmt j).rk) none mX12_four (jqV Q) (2, [some (.ref l0), some (.int l1), some (.int l2)], [], S, 0, 0)) {l0 : Nat} {l1 : Int32} {l2 : Int32} {S : JS} (h : bX12_four_2 X2 l0 l1 l2 S Q) : jLf (jCall jmt jbud d) jbud (fun j => (jmt j).rk) none mX12_four (jqV Q) (2, [some (.ref l0), some (.int l1), some (.int l2)], [], S, 0, 0) := by
  have hc := jCall_mono jmt jbud d
  unfold bX12_four_2 at h
  refine jLf.bk hc 1 [] [some (.ref l0), some (.int l1), some (.int l2)] [.int l2] S rfl rfl rfl trivial ?_
  refine jLf.two hc _ rfl (gs := []) (p1 := l2 < 0) (p2 := ¬ (l2 < 0)) (c1 := (22, [some (.ref l0), some (.int l1), some (.int l2)], [], S, 0, 0)) (c2 := (4, [some (.ref l0), some (.int l1), some (.int l2)], [], S, 0, 0)) rfl trivial (fun hz => ?_) (fun hz => ?_)
  · have h := h.1 hz
    exact jLf.ret hc _ rfl (gs := [jrt none none]) (v := none) rfl trivial ⟨rfl, h⟩
  · have h := h.2 hz
    obtain ⟨g1, g2, g3, g4, h⟩ := h
    refine jLf.bk hc 10 [jA S l0 12, ¬ jR S l0 7 = none, jA S l0 12, jA S (jr S l0 7) 13, vp_in (jI S l0 8) (jZ S (jr S l0 7))] [some (.ref l0), some (.int l1), some (.int l2)] [] (uI S (jr S l0 7) (jI S l0 8).toNatClampNeg ((l1 >>> (l2 &&& 31)) &&& (255 : Int32))) rfl rfl rfl ⟨g1, g2, g1, g3, g4⟩ ?_
    generalize eS5 : uI S (jr S l0 7) (jI S l0 8).toNatClampNeg ((l1 >>> (l2 &&& 31)) &&& (255 : Int32)) = S5
    have h := h S5 eS5.symm
    obtain ⟨g6, h⟩ := h
    refine jLf.bk hc 6 [(.ref l0 : Value).category = 1, jA S5 l0 12, jA S5 l0 12] [some (.ref l0), some (.int l1), some (.int l2)] [] (uI S5 l0 8 ((jI S5 l0 8) + (1 : Int32))) rfl rfl rfl ⟨rfl, g6, g6⟩ ?_
    generalize eS7 : uI S5 l0 8 ((jI S5 l0 8) + (1 : Int32)) = S7
    have h := h S7 eS7.symm
    refine jLf.bk hc 1 [] [some (.ref l0), some (.int l1), some (.int (l2 + (-8)))] [] S7 rfl rfl rfl trivial ?_
    generalize ex8 : (l2 + (-8) : Int32) = x8
    have h := h x8 ex8.symm
    refine jLf.one hc _ rfl (gs := []) (c := (2, [some (.ref l0), some (.int l1), some (.int x8)], [], S7, 0, 0)) rfl trivial ?_
    exact hX2 _ _ _ _ h
def wX12_four_2   (l0 : Nat) (l1 : Int32) (l2 : Int32) (S : JS) (Q : JS → Prop) : Prop :=
  jLoop (fun (X2 : Nat × Int32 × Int32 × JS → Prop) q => bX12_four_2 (fun l0 l1 l2 S => X2 (l0, l1, l2, S)) q.1 q.2.1 q.2.2.1 q.2.2.2 Q) (l0, l1, l2, S)
set_option maxRecDepth 20000 in
theorem tX12_four_2 {Q : JS → Prop}  (d : Nat) (hd : 0 ≤ d) {l0 : Nat} {l1 : Int32} {l2 : Int32} {S : JS} (h : wX12_four_2 l0 l1 l2 S Q) : jLf (jCall jmt jbud d) jbud (fun j => (jmt j).rk) none mX12_four (jqV Q) (2, [some (.ref l0), some (.int l1), some (.int l2)], [], S, 0, 0) := by
  have := h (fun q : Nat × Int32 × Int32 × JS => jLf (jCall jmt jbud d) jbud (fun j => (jmt j).rk) none mX12_four (jqV Q) (2, [some (.ref (q.1)), some (.int (q.2.1)), some (.int (q.2.2.1))], [], q.2.2.2, 0, 0)) (fun q R hb hR => uX12_four_2 d hd  (fun _ _ _ _ => hR _) hb)
  exact this
def wX12_four  (this : Nat) (p1 : Int32) (S : JS) (Q : JS → Prop) : Prop :=
  wX12_four_2 this p1 24 S Q
set_option maxRecDepth 20000 in
theorem vX12_four {Q : JS → Prop} (d : Nat) (hd : 1 ≤ d) {this : Nat} {p1 : Int32} {S : JS} (h : wX12_four this p1 S Q) : jCall jmt jbud d 163 [.ref this, .int p1] S (jqV Q) := by
  obtain ⟨d, rfl⟩ : ∃ d2, d = d2 + 1 := ⟨d - 1, by omega⟩
  have hd : 0 ≤ d := by omega
  have hc := jCall_mono jmt jbud d
  unfold wX12_four at h
  refine ⟨Nat.le_of_ble_eq_true rfl, ?_⟩
  show jLf (jCall jmt jbud d) jbud (fun j => (jmt j).rk) none mX12_four (jqV Q) (0, [some (.ref this), some (.int p1), none], [], S, 0, 0)
  refine jLf.bk hc 2 [] [some (.ref this), some (.int p1), some (.int 24)] [] S rfl rfl rfl trivial ?_
  exact tX12_four_2 d hd  h
def wX12_feed  (this : Nat) (p1 : Int32) (p2 : Int32) (p3 : Int32) (p4 : Int32) (p5 : Int32) (S : JS) (Q : Int32 → JS → Prop) : Prop :=
  jA S this 12 ∧ (∀ S2 : JS, S2 = uI S this 0 0 → (jA S2 this 12 ∧ ((((jI S2 this 8) + (20 : Int32)) ≤ 400 → wX12_four this p1 S2 (fun S4 => jA S4 this 12 ∧ (wX12_four this p2 S4 (fun S6 => jA S6 this 12 ∧ (wX12_four this p3 S6 (fun S9 => jA S9 this 12 ∧ (wX12_four this p4 S9 (fun S12 => jA S12 this 12 ∧ (wX12_four this p5 S12 (fun S15 => jA S15 this 12 ∧ (Q (jI S15 this 8) S15))))))))))) ∧ (¬ (((jI S2 this 8) + (20 : Int32)) ≤ 400) → Q (-1) S2))))
set_option maxRecDepth 20000 in
theorem vX12_feed {Q : Int32 → JS → Prop} (d : Nat) (hd : 2 ≤ d) {this : Nat} {p1 : Int32} {p2 : Int32} {p3 : Int32} {p4 : Int32} {p5 : Int32} {S : JS} (h : wX12_feed this p1 p2 p3 p4 p5 S Q) : jCall jmt jbud d 164 [.ref this, .int p1, .int p2, .int p3, .int p4, .int p5] S (jqI Q) := by
  obtain ⟨d, rfl⟩ : ∃ d2, d = d2 + 1 := ⟨d - 1, by omega⟩
  have hd : 1 ≤ d := by omega
  have hc := jCall_mono jmt jbud d
  unfold wX12_feed at h
  refine ⟨Nat.le_of_ble_eq_true rfl, ?_⟩
  show jLf (jCall jmt jbud d) jbud (fun j => (jmt j).rk) none mX12_feed (jqI Q) (0, [some (.ref this), some (.int p1), some (.int p2), some (.int p3), some (.int p4), some (.int p5)], [], S, 0, 0)
  obtain ⟨g1, h⟩ := h
  refine jLf.bk hc 3 [jA S this 12] [some (.ref this), some (.int p1), some (.int p2), some (.int p3), some (.int p4), some (.int p5)] [] (uI S this 0 0) rfl rfl rfl g1 ?_
  generalize eS2 : uI S this 0 0 = S2
  have h := h S2 eS2.symm
  obtain ⟨g3, h⟩ := h
  refine jLf.bk hc 5 [jA S2 this 12] [some (.ref this), some (.int p1), some (.int p2), some (.int p3), some (.int p4), some (.int p5)] [.int 400, .int ((jI S2 this 8) + (20 : Int32))] S2 rfl rfl rfl g3 ?_
  refine jLf.two hc _ rfl (gs := []) (p1 := ((jI S2 this 8) + (20 : Int32)) ≤ 400) (p2 := ¬ (((jI S2 this 8) + (20 : Int32)) ≤ 400)) (c1 := (11, [some (.ref this), some (.int p1), some (.int p2), some (.int p3), some (.int p4), some (.int p5)], [], S2, 0, 0)) (c2 := (9, [some (.ref this), some (.int p1), some (.int p2), some (.int p3), some (.int p4), some (.int p5)], [], S2, 0, 0)) rfl trivial (fun hz => ?_) (fun hz => ?_)
  · have h := h.1 hz
    refine jLf.bk hc 2 [] [some (.ref this), some (.int p1), some (.int p2), some (.int p3), some (.int p4), some (.int p5)] [.int p1, .ref this] S2 rfl rfl rfl trivial ?_
    refine jLf.inv hc _ rfl (gs := [jA S2 this 12, (([] : List Value).map fun v => v.category).sum ≤ 8, 0 ≤ 0, 0 ≤ 0]) (k := 163) (args := [.ref this, .int p1]) (r := []) (a := 0) (b := 0) rfl ⟨g3, Nat.le_of_ble_eq_true rfl, Nat.zero_le _, Nat.zero_le _⟩ (vX12_four d (by omega) h) ?_
    rintro v S4 ⟨rfl, h⟩
    show jLf (jCall jmt jbud d) jbud (fun j => (jmt j).rk) none mX12_feed (jqI Q) (14, [some (.ref this), some (.int p1), some (.int p2), some (.int p3), some (.int p4), some (.int p5)], [], S4, 0, 0)
    refine jLf.bk hc 2 [] [some (.ref this), some (.int p1), some (.int p2), some (.int p3), some (.int p4), some (.int p5)] [.int p2, .ref this] S4 rfl rfl rfl trivial ?_
    obtain ⟨g8, h⟩ := h
    refine jLf.inv hc _ rfl (gs := [jA S4 this 12, (([] : List Value).map fun v => v.category).sum ≤ 8, 0 ≤ 0, 0 ≤ 0]) (k := 163) (args := [.ref this, .int p2]) (r := []) (a := 0) (b := 0) rfl ⟨g8, Nat.le_of_ble_eq_true rfl, Nat.zero_le _, Nat.zero_le _⟩ (vX12_four d (by omega) h) ?_
    rintro v S6 ⟨rfl, h⟩
    show jLf (jCall jmt jbud d) jbud (fun j => (jmt j).rk) none mX12_feed (jqI Q) (17, [some (.ref this), some (.int p1), some (.int p2), some (.int p3), some (.int p4), some (.int p5)], [], S6, 0, 0)
    refine jLf.bk hc 2 [] [some (.ref this), some (.int p1), some (.int p2), some (.int p3), some (.int p4), some (.int p5)] [.int p3, .ref this] S6 rfl rfl rfl trivial ?_
    obtain ⟨g11, h⟩ := h
    refine jLf.inv hc _ rfl (gs := [jA S6 this 12, (([] : List Value).map fun v => v.category).sum ≤ 8, 0 ≤ 0, 0 ≤ 0]) (k := 163) (args := [.ref this, .int p3]) (r := []) (a := 0) (b := 0) rfl ⟨g11, Nat.le_of_ble_eq_true rfl, Nat.zero_le _, Nat.zero_le _⟩ (vX12_four d (by omega) h) ?_
    rintro v S9 ⟨rfl, h⟩
    show jLf (jCall jmt jbud d) jbud (fun j => (jmt j).rk) none mX12_feed (jqI Q) (20, [some (.ref this), some (.int p1), some (.int p2), some (.int p3), some (.int p4), some (.int p5)], [], S9, 0, 0)
    refine jLf.bk hc 2 [] [some (.ref this), some (.int p1), some (.int p2), some (.int p3), some (.int p4), some (.int p5)] [.int p4, .ref this] S9 rfl rfl rfl trivial ?_
    obtain ⟨g14, h⟩ := h
    refine jLf.inv hc _ rfl (gs := [jA S9 this 12, (([] : List Value).map fun v => v.category).sum ≤ 8, 0 ≤ 0, 0 ≤ 0]) (k := 163) (args := [.ref this, .int p4]) (r := []) (a := 0) (b := 0) rfl ⟨g14, Nat.le_of_ble_eq_true rfl, Nat.zero_le _, Nat.zero_le _⟩ (vX12_four d (by omega) h) ?_
    rintro v S12 ⟨rfl, h⟩
    show jLf (jCall jmt jbud d) jbud (fun j => (jmt j).rk) none mX12_feed (jqI Q) (23, [some (.ref this), some (.int p1), some (.int p2), some (.int p3), some (.int p4), some (.int p5)], [], S12, 0, 0)
    refine jLf.bk hc 2 [] [some (.ref this), some (.int p1), some (.int p2), some (.int p3), some (.int p4), some (.int p5)] [.int p5, .ref this] S12 rfl rfl rfl trivial ?_
    obtain ⟨g17, h⟩ := h
    refine jLf.inv hc _ rfl (gs := [jA S12 this 12, (([] : List Value).map fun v => v.category).sum ≤ 8, 0 ≤ 0, 0 ≤ 0]) (k := 163) (args := [.ref this, .int p5]) (r := []) (a := 0) (b := 0) rfl ⟨g17, Nat.le_of_ble_eq_true rfl, Nat.zero_le _, Nat.zero_le _⟩ (vX12_four d (by omega) h) ?_
    rintro v S15 ⟨rfl, h⟩
    show jLf (jCall jmt jbud d) jbud (fun j => (jmt j).rk) none mX12_feed (jqI Q) (26, [some (.ref this), some (.int p1), some (.int p2), some (.int p3), some (.int p4), some (.int p5)], [], S15, 0, 0)
    obtain ⟨g18, h⟩ := h
    refine jLf.bk hc 2 [jA S15 this 12] [some (.ref this), some (.int p1), some (.int p2), some (.int p3), some (.int p4), some (.int p5)] [.int (jI S15 this 8)] S15 rfl rfl rfl g18 ?_
    exact jLf.ret hc _ rfl (gs := [True]) (v := some (.int (jI S15 this 8))) rfl trivial ⟨jI S15 this 8, rfl, h⟩
  · have h := h.2 hz
    refine jLf.bk hc 1 [] [some (.ref this), some (.int p1), some (.int p2), some (.int p3), some (.int p4), some (.int p5)] [.int (-1)] S2 rfl rfl rfl trivial ?_
    exact jLf.ret hc _ rfl (gs := [True]) (v := some (.int (-1))) rfl trivial ⟨(-1), rfl, h⟩
def wX12_end  (this : Nat) (p1 : Int32) (S : JS) (Q : Int32 → JS → Prop) : Prop :=
  jA S this 12 ∧ (∀ S2 : JS, S2 = uI S this 0 0 → ((p1 < 0 → Q (-1) S2) ∧ (¬ (p1 < 0) → jA S2 this 12 ∧ ((p1 ≤ (jI S2 this 8) → ∀ S4 : JS, S4 = uI S2 this 8 p1 → (Q p1 S4)) ∧ (¬ (p1 ≤ (jI S2 this 8)) → Q (-1) S2)))))
set_option maxRecDepth 20000 in
theorem vX12_end {Q : Int32 → JS → Prop} (d : Nat) (hd : 1 ≤ d) {this : Nat} {p1 : Int32} {S : JS} (h : wX12_end this p1 S Q) : jCall jmt jbud d 165 [.ref this, .int p1] S (jqI Q) := by
  obtain ⟨d, rfl⟩ : ∃ d2, d = d2 + 1 := ⟨d - 1, by omega⟩
  have hd : 0 ≤ d := by omega
  have hc := jCall_mono jmt jbud d
  unfold wX12_end at h
  refine ⟨Nat.le_of_ble_eq_true rfl, ?_⟩
  show jLf (jCall jmt jbud d) jbud (fun j => (jmt j).rk) none mX12_end (jqI Q) (0, [some (.ref this), some (.int p1)], [], S, 0, 0)
  obtain ⟨g1, h⟩ := h
  refine jLf.bk hc 3 [jA S this 12] [some (.ref this), some (.int p1)] [] (uI S this 0 0) rfl rfl rfl g1 ?_
  generalize eS2 : uI S this 0 0 = S2
  have h := h S2 eS2.symm
  refine jLf.bk hc 1 [] [some (.ref this), some (.int p1)] [.int p1] S2 rfl rfl rfl trivial ?_
  refine jLf.two hc _ rfl (gs := []) (p1 := p1 < 0) (p2 := ¬ (p1 < 0)) (c1 := (9, [some (.ref this), some (.int p1)], [], S2, 0, 0)) (c2 := (5, [some (.ref this), some (.int p1)], [], S2, 0, 0)) rfl trivial (fun hz => ?_) (fun hz => ?_)
  · have h := h.1 hz
    refine jLf.bk hc 1 [] [some (.ref this), some (.int p1)] [.int (-1)] S2 rfl rfl rfl trivial ?_
    exact jLf.ret hc _ rfl (gs := [True]) (v := some (.int (-1))) rfl trivial ⟨(-1), rfl, h⟩
  · have h := h.2 hz
    obtain ⟨g3, h⟩ := h
    refine jLf.bk hc 3 [jA S2 this 12] [some (.ref this), some (.int p1)] [.int (jI S2 this 8), .int p1] S2 rfl rfl rfl g3 ?_
    refine jLf.two hc _ rfl (gs := []) (p1 := p1 ≤ (jI S2 this 8)) (p2 := ¬ (p1 ≤ (jI S2 this 8))) (c1 := (11, [some (.ref this), some (.int p1)], [], S2, 0, 0)) (c2 := (9, [some (.ref this), some (.int p1)], [], S2, 0, 0)) rfl trivial (fun hz => ?_) (fun hz => ?_)
    · have h := h.1 hz
      refine jLf.bk hc 3 [jA S2 this 12] [some (.ref this), some (.int p1)] [] (uI S2 this 8 p1) rfl rfl rfl g3 ?_
      generalize eS4 : uI S2 this 8 p1 = S4
      have h := h S4 eS4.symm
      refine jLf.bk hc 1 [] [some (.ref this), some (.int p1)] [.int p1] S4 rfl rfl rfl trivial ?_
      exact jLf.ret hc _ rfl (gs := [True]) (v := some (.int p1)) rfl trivial ⟨p1, rfl, h⟩
    · have h := h.2 hz
      refine jLf.bk hc 1 [] [some (.ref this), some (.int p1)] [.int (-1)] S2 rfl rfl rfl trivial ?_
      exact jLf.ret hc _ rfl (gs := [True]) (v := some (.int (-1))) rfl trivial ⟨(-1), rfl, h⟩
def wX12_isSmall  (p1 : Int32) (S : JS) (Q : Int32 → JS → Prop) : Prop :=
  (p1 < 97 → Q 0 S) ∧ (¬ (p1 < 97) → (122 < p1 → Q 0 S) ∧ (¬ (122 < p1) → Q 1 S))
set_option maxRecDepth 20000 in
theorem vX12_isSmall {Q : Int32 → JS → Prop} (d : Nat) (hd : 1 ≤ d) {p1 : Int32} {S : JS} (h : wX12_isSmall p1 S Q) : jCall jmt jbud d 166 [.int p1] S (jqI Q) := by
  obtain ⟨d, rfl⟩ : ∃ d2, d = d2 + 1 := ⟨d - 1, by omega⟩
  have hd : 0 ≤ d := by omega
  have hc := jCall_mono jmt jbud d
  unfold wX12_isSmall at h
  refine ⟨Nat.le_of_ble_eq_true rfl, ?_⟩
  show jLf (jCall jmt jbud d) jbud (fun j => (jmt j).rk) none mX12_isSmall (jqI Q) (0, [some (.int p1)], [], S, 0, 0)
  refine jLf.bk hc 2 [] [some (.int p1)] [.int 97, .int p1] S rfl rfl rfl trivial ?_
  refine jLf.two hc _ rfl (gs := []) (p1 := p1 < 97) (p2 := ¬ (p1 < 97)) (c1 := (8, [some (.int p1)], [], S, 0, 0)) (c2 := (3, [some (.int p1)], [], S, 0, 0)) rfl trivial (fun hz => ?_) (fun hz => ?_)
  · have h := h.1 hz
    refine jLf.bk hc 1 [] [some (.int p1)] [.int 0] S rfl rfl rfl trivial ?_
    exact jLf.ret hc _ rfl (gs := [jbit 0]) (v := some (.int 0)) rfl (Or.inl rfl) ⟨_, rfl, h⟩
  · have h := h.2 hz
    refine jLf.bk hc 2 [] [some (.int p1)] [.int 122, .int p1] S rfl rfl rfl trivial ?_
    refine jLf.two hc _ rfl (gs := []) (p1 := 122 < p1) (p2 := ¬ (122 < p1)) (c1 := (8, [some (.int p1)], [], S, 0, 0)) (c2 := (6, [some (.int p1)], [], S, 0, 0)) rfl trivial (fun hz => ?_) (fun hz => ?_)
    · have h := h.1 hz
      refine jLf.bk hc 1 [] [some (.int p1)] [.int 0] S rfl rfl rfl trivial ?_
      exact jLf.ret hc _ rfl (gs := [jbit 0]) (v := some (.int 0)) rfl (Or.inl rfl) ⟨_, rfl, h⟩
    · have h := h.2 hz
      refine jLf.bk hc 1 [] [some (.int p1)] [.int 1] S rfl rfl rfl trivial ?_
      refine jLf.one hc _ rfl (gs := []) (c := (9, [some (.int p1)], [.int 1], S, 0, 0)) rfl trivial ?_
      exact jLf.ret hc _ rfl (gs := [jbit 1]) (v := some (.int 1)) rfl (Or.inr rfl) ⟨_, rfl, h⟩
def wX12_isDigit  (p1 : Int32) (S : JS) (Q : Int32 → JS → Prop) : Prop :=
  (p1 < 48 → Q 0 S) ∧ (¬ (p1 < 48) → (57 < p1 → Q 0 S) ∧ (¬ (57 < p1) → Q 1 S))
set_option maxRecDepth 20000 in
theorem vX12_isDigit {Q : Int32 → JS → Prop} (d : Nat) (hd : 1 ≤ d) {p1 : Int32} {S : JS} (h : wX12_isDigit p1 S Q) : jCall jmt jbud d 167 [.int p1] S (jqI Q) := by
  obtain ⟨d, rfl⟩ : ∃ d2, d = d2 + 1 := ⟨d - 1, by omega⟩
  have hd : 0 ≤ d := by omega
  have hc := jCall_mono jmt jbud d
  unfold wX12_isDigit at h
  refine ⟨Nat.le_of_ble_eq_true rfl, ?_⟩
  show jLf (jCall jmt jbud d) jbud (fun j => (jmt j).rk) none mX12_isDigit (jqI Q) (0, [some (.int p1)], [], S, 0, 0)
  refine jLf.bk hc 2 [] [some (.int p1)] [.int 48, .int p1] S rfl rfl rfl trivial ?_
  refine jLf.two hc _ rfl (gs := []) (p1 := p1 < 48) (p2 := ¬ (p1 < 48)) (c1 := (8, [some (.int p1)], [], S, 0, 0)) (c2 := (3, [some (.int p1)], [], S, 0, 0)) rfl trivial (fun hz => ?_) (fun hz => ?_)
  · have h := h.1 hz
    refine jLf.bk hc 1 [] [some (.int p1)] [.int 0] S rfl rfl rfl trivial ?_
    exact jLf.ret hc _ rfl (gs := [jbit 0]) (v := some (.int 0)) rfl (Or.inl rfl) ⟨_, rfl, h⟩
  · have h := h.2 hz
    refine jLf.bk hc 2 [] [some (.int p1)] [.int 57, .int p1] S rfl rfl rfl trivial ?_
    refine jLf.two hc _ rfl (gs := []) (p1 := 57 < p1) (p2 := ¬ (57 < p1)) (c1 := (8, [some (.int p1)], [], S, 0, 0)) (c2 := (6, [some (.int p1)], [], S, 0, 0)) rfl trivial (fun hz => ?_) (fun hz => ?_)
    · have h := h.1 hz
      refine jLf.bk hc 1 [] [some (.int p1)] [.int 0] S rfl rfl rfl trivial ?_
      exact jLf.ret hc _ rfl (gs := [jbit 0]) (v := some (.int 0)) rfl (Or.inl rfl) ⟨_, rfl, h⟩
    · have h := h.2 hz
      refine jLf.bk hc 1 [] [some (.int p1)] [.int 1] S rfl rfl rfl trivial ?_
      refine jLf.one hc _ rfl (gs := []) (c := (9, [some (.int p1)], [.int 1], S, 0, 0)) rfl trivial ?_
      exact jLf.ret hc _ rfl (gs := [jbit 1]) (v := some (.int 1)) rfl (Or.inr rfl) ⟨_, rfl, h⟩
def wX12_next_161  (X123 : Nat → JS → Prop) (l0 : Nat) (s0 : Int64) (s1 : Nat) (S : JS) (Q : JS → Prop) : Prop :=
  jA S s1 12 ∧ (∀ S35 : JS, S35 = uJ S s1 12 s0 → (jA S35 l0 12 ∧ (∀ S37 : JS, S37 = uI S35 l0 10 ((jI S35 l0 10) + (1 : Int32)) → (X123 l0 S37))))
set_option maxRecDepth 20000 in
theorem tX12_next_161 {Q : JS → Prop} {X123 : Nat → JS → Prop} (d : Nat) (hd : 1 ≤ d) (hX123 : ∀ l0 S, X123 l0 S → jLf (jCall jmt jbud d) jbud (fun j => (jmt j).rk) none mX12_next (jqV Q) (123, [some (.ref l0)], [], S, 0, 0)) {l0 : Nat} {s0 : Int64} {s1 : Nat} {S : JS} (h : wX12_next_161 X123 l0 s0 s1 S Q) : jLf (jCall jmt jbud d) jbud (fun j => (jmt j).rk) none mX12_next (jqV Q) (161, [some (.ref l0)], [.long s0, .ref s1], S, 0, 0) := by
  have hc := jCall_mono jmt jbud d
  unfold wX12_next_161 at h
  obtain ⟨g34, h⟩ := h
  refine jLf.bk hc 1 [jA S s1 12] [some (.ref l0)] [] (uJ S s1 12 s0) rfl rfl rfl g34 ?_
  generalize eS35 : uJ S s1 12 s0 = S35
  have h := h S35 eS35.symm
  obtain ⟨g36, h⟩ := h
  refine jLf.bk hc 6 [(.ref l0 : Value).category = 1, jA S35 l0 12, jA S35 l0 12] [some (.ref l0)] [] (uI S35 l0 10 ((jI S35 l0 10) + (1 : Int32))) rfl rfl rfl ⟨rfl, g36, g36⟩ ?_
  generalize eS37 : uI S35 l0 10 ((jI S35 l0 10) + (1 : Int32)) = S37
  have h := h S37 eS37.symm
  refine jLf.one hc _ rfl (gs := []) (c := (123, [some (.ref l0)], [], S37, 0, 0)) rfl trivial ?_
  exact hX123 _ _ h
def bX12_next_123   (X123 : Nat → JS → Prop) (l0 : Nat) (S : JS) (Q : JS → Prop) : Prop :=
  jA S l0 12 ∧ ((¬ (jI S l0 11) = 2 → Q S) ∧ ((jI S l0 11) = 2 → ((jI S l0 8) ≤ (jI S l0 10) → Q S) ∧ (¬ ((jI S l0 8) ≤ (jI S l0 10)) → ¬ jR S l0 7 = none ∧ (jA S (jr S l0 7) 13 ∧ (vp_in (jI S l0 10) (jZ S (jr S l0 7)) ∧ (wX12_isDigit (jI S (jr S l0 7) (jI S l0 10).toNatClampNeg) S (fun r29 S28 => (r29 = 0 → Q S28) ∧ (¬ r29 = 0 → jA S28 l0 12 ∧ (((lg_cmp (jJ S28 l0 12) (1000000 : Int64)) ≤ 0 → ¬ jR S28 l0 7 = none ∧ (jA S28 (jr S28 l0 7) 13 ∧ (vp_in (jI S28 l0 10) (jZ S28 (jr S28 l0 7)) ∧ (wX12_next_161 X123 l0 ((((jJ S28 l0 12) * (10 : Int64)) + ((jI S28 (jr S28 l0 7) (jI S28 l0 10).toNatClampNeg).toInt64)) - (48 : Int64)) l0 S28 Q)))) ∧ (¬ ((lg_cmp (jJ S28 l0 12) (1000000 : Int64)) ≤ 0) → wX12_next_161 X123 l0 (jJ S28 l0 12) l0 S28 Q))))))))))
set_option maxRecDepth 20000 in
theorem uX12_next_123 {Q : JS → Prop}  (d : Nat) (hd : 1 ≤ d) {X123 : Nat → JS → Prop} (hX123 : ∀ l0 S, X123 l0 S → jLf (jCall jmt jbud d) jbud (fun j => (jmt j).rk) none mX12_next (jqV Q) (123, [some (.ref l0)], [], S, 0, 0)) {l0 : Nat} {S : JS} (h : bX12_next_123 X123 l0 S Q) : jLf (jCall jmt jbud d) jbud (fun j => (jmt j).rk) none mX12_next (jqV Q) (123, [some (.ref l0)], [], S, 0, 0) := by
  have hc := jCall_mono jmt jbud d
  unfold bX12_next_123 at h
  obtain ⟨g24, h⟩ := h
  refine jLf.bk hc 3 [jA S l0 12] [some (.ref l0)] [.int 2, .int (jI S l0 11)] S rfl rfl rfl g24 ?_
  refine jLf.two hc _ rfl (gs := []) (p1 := ¬ (jI S l0 11) = 2) (p2 := ¬ (¬ (jI S l0 11) = 2)) (c1 := (169, [some (.ref l0)], [], S, 0, 0)) (c2 := (127, [some (.ref l0)], [], S, 0, 0)) rfl trivial (fun hz => ?_) (fun hz => ?_)
  · have h := h.1 hz
    exact jLf.ret hc _ rfl (gs := [jrt none none]) (v := none) rfl trivial ⟨rfl, h⟩
  · have h := h.2 (Classical.not_not.mp hz)
    refine jLf.bk hc 4 [jA S l0 12, jA S l0 12] [some (.ref l0)] [.int (jI S l0 8), .int (jI S l0 10)] S rfl rfl rfl ⟨g24, g24⟩ ?_
    refine jLf.two hc _ rfl (gs := []) (p1 := (jI S l0 8) ≤ (jI S l0 10)) (p2 := ¬ ((jI S l0 8) ≤ (jI S l0 10))) (c1 := (169, [some (.ref l0)], [], S, 0, 0)) (c2 := (132, [some (.ref l0)], [], S, 0, 0)) rfl trivial (fun hz => ?_) (fun hz => ?_)
    · have h := h.1 hz
      exact jLf.ret hc _ rfl (gs := [jrt none none]) (v := none) rfl trivial ⟨rfl, h⟩
    · have h := h.2 hz
      obtain ⟨g25, g26, g27, h⟩ := h
      refine jLf.bk hc 5 [jA S l0 12, ¬ jR S l0 7 = none, jA S l0 12, jA S (jr S l0 7) 13, vp_in (jI S l0 10) (jZ S (jr S l0 7))] [some (.ref l0)] [.int (jI S (jr S l0 7) (jI S l0 10).toNatClampNeg)] S rfl rfl rfl ⟨g24, g25, g24, g26, g27⟩ ?_
      refine jLf.inv hc _ rfl (gs := [1 ≤ ([.int (jI S (jr S l0 7) (jI S l0 10).toNatClampNeg)] : List Value).length, (([] : List Value).map fun v => v.category).sum ≤ 8, 0 ≤ 0, 0 ≤ 0]) (k := 167) (args := [.int (jI S (jr S l0 7) (jI S l0 10).toNatClampNeg)]) (r := []) (a := 0) (b := 0) rfl ⟨Nat.le_of_ble_eq_true rfl, Nat.le_of_ble_eq_true rfl, Nat.zero_le _, Nat.zero_le _⟩ (vX12_isDigit d (by omega) h) ?_
      rintro v S28 ⟨r29, rfl, h⟩
      show jLf (jCall jmt jbud d) jbud (fun j => (jmt j).rk) none mX12_next (jqV Q) (138, [some (.ref l0)], [.int r29], S28, 0, 0)
      refine jLf.two hc _ rfl (gs := []) (p1 := r29 = 0) (p2 := ¬ (r29 = 0)) (c1 := (169, [some (.ref l0)], [], S28, 0, 0)) (c2 := (139, [some (.ref l0)], [], S28, 0, 0)) rfl trivial (fun hz => ?_) (fun hz => ?_)
      · have h := h.1 hz
        exact jLf.ret hc _ rfl (gs := [jrt none none]) (v := none) rfl trivial ⟨rfl, h⟩
      · have h := h.2 hz
        obtain ⟨g30, h⟩ := h
        refine jLf.bk hc 5 [jA S28 l0 12] [some (.ref l0)] [.int (lg_cmp (jJ S28 l0 12) (1000000 : Int64)), .ref l0] S28 rfl rfl rfl g30 ?_
        refine jLf.two hc _ rfl (gs := []) (p1 := (lg_cmp (jJ S28 l0 12) (1000000 : Int64)) ≤ 0) (p2 := ¬ ((lg_cmp (jJ S28 l0 12) (1000000 : Int64)) ≤ 0)) (c1 := (148, [some (.ref l0)], [.ref l0], S28, 0, 0)) (c2 := (145, [some (.ref l0)], [.ref l0], S28, 0, 0)) rfl trivial (fun hz => ?_) (fun hz => ?_)
        · have h := h.1 hz
          obtain ⟨g31, g32, g33, h⟩ := h
          refine jLf.bk hc 13 [jA S28 l0 12, jA S28 l0 12, ¬ jR S28 l0 7 = none, jA S28 l0 12, jA S28 (jr S28 l0 7) 13, vp_in (jI S28 l0 10) (jZ S28 (jr S28 l0 7))] [some (.ref l0)] [.long ((((jJ S28 l0 12) * (10 : Int64)) + ((jI S28 (jr S28 l0 7) (jI S28 l0 10).toNatClampNeg).toInt64)) - (48 : Int64)), .ref l0] S28 rfl rfl rfl ⟨g30, g30, g31, g30, g32, g33⟩ ?_
          exact tX12_next_161 d hd hX123 h
        · have h := h.2 hz
          refine jLf.bk hc 2 [jA S28 l0 12] [some (.ref l0)] [.long (jJ S28 l0 12), .ref l0] S28 rfl rfl rfl g30 ?_
          refine jLf.one hc _ rfl (gs := []) (c := (161, [some (.ref l0)], [.long (jJ S28 l0 12), .ref l0], S28, 0, 0)) rfl trivial ?_
          exact tX12_next_161 d hd hX123 h
def wX12_next_123   (l0 : Nat) (S : JS) (Q : JS → Prop) : Prop :=
  jLoop (fun (X123 : Nat × JS → Prop) q => bX12_next_123 (fun l0 S => X123 (l0, S)) q.1 q.2 Q) (l0, S)
set_option maxRecDepth 20000 in
theorem tX12_next_123 {Q : JS → Prop}  (d : Nat) (hd : 1 ≤ d) {l0 : Nat} {S : JS} (h : wX12_next_123 l0 S Q) : jLf (jCall jmt jbud d) jbud (fun j => (jmt j).rk) none mX12_next (jqV Q) (123, [some (.ref l0)], [], S, 0, 0) := by
  have := h (fun q : Nat × JS => jLf (jCall jmt jbud d) jbud (fun j => (jmt j).rk) none mX12_next (jqV Q) (123, [some (.ref (q.1))], [], q.2, 0, 0)) (fun q R hb hR => uX12_next_123 d hd  (fun _ _ => hR _) hb)
  exact this
def wX12_next_115  (X76 : Nat → JS → Prop) (l0 : Nat) (s0 : Int64) (s1 : Nat) (S : JS) (Q : JS → Prop) : Prop :=
  jA S s1 12 ∧ (∀ S45 : JS, S45 = uJ S s1 12 s0 → (jA S45 l0 12 ∧ (∀ S47 : JS, S47 = uI S45 l0 10 ((jI S45 l0 10) + (1 : Int32)) → (X76 l0 S47))))
set_option maxRecDepth 20000 in
theorem tX12_next_115 {Q : JS → Prop} {X76 : Nat → JS → Prop} (d : Nat) (hd : 1 ≤ d) (hX76 : ∀ l0 S, X76 l0 S → jLf (jCall jmt jbud d) jbud (fun j => (jmt j).rk) none mX12_next (jqV Q) (76, [some (.ref l0)], [], S, 0, 0)) {l0 : Nat} {s0 : Int64} {s1 : Nat} {S : JS} (h : wX12_next_115 X76 l0 s0 s1 S Q) : jLf (jCall jmt jbud d) jbud (fun j => (jmt j).rk) none mX12_next (jqV Q) (115, [some (.ref l0)], [.long s0, .ref s1], S, 0, 0) := by
  have hc := jCall_mono jmt jbud d
  unfold wX12_next_115 at h
  obtain ⟨g44, h⟩ := h
  refine jLf.bk hc 1 [jA S s1 12] [some (.ref l0)] [] (uJ S s1 12 s0) rfl rfl rfl g44 ?_
  generalize eS45 : uJ S s1 12 s0 = S45
  have h := h S45 eS45.symm
  obtain ⟨g46, h⟩ := h
  refine jLf.bk hc 6 [(.ref l0 : Value).category = 1, jA S45 l0 12, jA S45 l0 12] [some (.ref l0)] [] (uI S45 l0 10 ((jI S45 l0 10) + (1 : Int32))) rfl rfl rfl ⟨rfl, g46, g46⟩ ?_
  generalize eS47 : uI S45 l0 10 ((jI S45 l0 10) + (1 : Int32)) = S47
  have h := h S47 eS47.symm
  refine jLf.one hc _ rfl (gs := []) (c := (76, [some (.ref l0)], [], S47, 0, 0)) rfl trivial ?_
  exact hX76 _ _ h
def bX12_next_76   (X76 : Nat → JS → Prop) (l0 : Nat) (S : JS) (Q : JS → Prop) : Prop :=
  jA S l0 12 ∧ ((¬ (jI S l0 11) = 1 → wX12_next_123 l0 S Q) ∧ ((jI S l0 11) = 1 → ((jI S l0 8) ≤ (jI S l0 10) → wX12_next_123 l0 S Q) ∧ (¬ ((jI S l0 8) ≤ (jI S l0 10)) → ¬ jR S l0 7 = none ∧ (jA S (jr S l0 7) 13 ∧ (vp_in (jI S l0 10) (jZ S (jr S l0 7)) ∧ (wX12_isSmall (jI S (jr S l0 7) (jI S l0 10).toNatClampNeg) S (fun r42 S41 => (r42 = 0 → wX12_next_123 l0 S41 Q) ∧ (¬ r42 = 0 → jA S41 l0 12 ∧ ((10 ≤ ((jI S41 l0 10) - (jI S41 l0 9)) → wX12_next_115 X76 l0 (-1) l0 S41 Q) ∧ (¬ (10 ≤ ((jI S41 l0 10) - (jI S41 l0 9))) → ¬ jR S41 l0 7 = none ∧ (jA S41 (jr S41 l0 7) 13 ∧ (vp_in (jI S41 l0 10) (jZ S41 (jr S41 l0 7)) ∧ (wX12_next_115 X76 l0 ((((jJ S41 l0 12) * (32 : Int64)) + ((jI S41 (jr S41 l0 7) (jI S41 l0 10).toNatClampNeg).toInt64)) - (96 : Int64)) l0 S41 Q)))))))))))))
set_option maxRecDepth 20000 in
theorem uX12_next_76 {Q : JS → Prop}  (d : Nat) (hd : 1 ≤ d) {X76 : Nat → JS → Prop} (hX76 : ∀ l0 S, X76 l0 S → jLf (jCall jmt jbud d) jbud (fun j => (jmt j).rk) none mX12_next (jqV Q) (76, [some (.ref l0)], [], S, 0, 0)) {l0 : Nat} {S : JS} (h : bX12_next_76 X76 l0 S Q) : jLf (jCall jmt jbud d) jbud (fun j => (jmt j).rk) none mX12_next (jqV Q) (76, [some (.ref l0)], [], S, 0, 0) := by
  have hc := jCall_mono jmt jbud d
  unfold bX12_next_76 at h
  obtain ⟨g23, h⟩ := h
  refine jLf.bk hc 3 [jA S l0 12] [some (.ref l0)] [.int 1, .int (jI S l0 11)] S rfl rfl rfl g23 ?_
  refine jLf.two hc _ rfl (gs := []) (p1 := ¬ (jI S l0 11) = 1) (p2 := ¬ (¬ (jI S l0 11) = 1)) (c1 := (123, [some (.ref l0)], [], S, 0, 0)) (c2 := (80, [some (.ref l0)], [], S, 0, 0)) rfl trivial (fun hz => ?_) (fun hz => ?_)
  · have h := h.1 hz
    exact tX12_next_123 d hd  h
  · have h := h.2 (Classical.not_not.mp hz)
    refine jLf.bk hc 4 [jA S l0 12, jA S l0 12] [some (.ref l0)] [.int (jI S l0 8), .int (jI S l0 10)] S rfl rfl rfl ⟨g23, g23⟩ ?_
    refine jLf.two hc _ rfl (gs := []) (p1 := (jI S l0 8) ≤ (jI S l0 10)) (p2 := ¬ ((jI S l0 8) ≤ (jI S l0 10))) (c1 := (123, [some (.ref l0)], [], S, 0, 0)) (c2 := (85, [some (.ref l0)], [], S, 0, 0)) rfl trivial (fun hz => ?_) (fun hz => ?_)
    · have h := h.1 hz
      exact tX12_next_123 d hd  h
    · have h := h.2 hz
      obtain ⟨g38, g39, g40, h⟩ := h
      refine jLf.bk hc 5 [jA S l0 12, ¬ jR S l0 7 = none, jA S l0 12, jA S (jr S l0 7) 13, vp_in (jI S l0 10) (jZ S (jr S l0 7))] [some (.ref l0)] [.int (jI S (jr S l0 7) (jI S l0 10).toNatClampNeg)] S rfl rfl rfl ⟨g23, g38, g23, g39, g40⟩ ?_
      refine jLf.inv hc _ rfl (gs := [1 ≤ ([.int (jI S (jr S l0 7) (jI S l0 10).toNatClampNeg)] : List Value).length, (([] : List Value).map fun v => v.category).sum ≤ 8, 0 ≤ 0, 0 ≤ 0]) (k := 166) (args := [.int (jI S (jr S l0 7) (jI S l0 10).toNatClampNeg)]) (r := []) (a := 0) (b := 0) rfl ⟨Nat.le_of_ble_eq_true rfl, Nat.le_of_ble_eq_true rfl, Nat.zero_le _, Nat.zero_le _⟩ (vX12_isSmall d (by omega) h) ?_
      rintro v S41 ⟨r42, rfl, h⟩
      show jLf (jCall jmt jbud d) jbud (fun j => (jmt j).rk) none mX12_next (jqV Q) (91, [some (.ref l0)], [.int r42], S41, 0, 0)
      refine jLf.two hc _ rfl (gs := []) (p1 := r42 = 0) (p2 := ¬ (r42 = 0)) (c1 := (123, [some (.ref l0)], [], S41, 0, 0)) (c2 := (92, [some (.ref l0)], [], S41, 0, 0)) rfl trivial (fun hz => ?_) (fun hz => ?_)
      · have h := h.1 hz
        exact tX12_next_123 d hd  h
      · have h := h.2 hz
        obtain ⟨g43, h⟩ := h
        refine jLf.bk hc 7 [jA S41 l0 12, jA S41 l0 12] [some (.ref l0)] [.int 10, .int ((jI S41 l0 10) - (jI S41 l0 9)), .ref l0] S41 rfl rfl rfl ⟨g43, g43⟩ ?_
        refine jLf.two hc _ rfl (gs := []) (p1 := 10 ≤ ((jI S41 l0 10) - (jI S41 l0 9))) (p2 := ¬ (10 ≤ ((jI S41 l0 10) - (jI S41 l0 9)))) (c1 := (114, [some (.ref l0)], [.ref l0], S41, 0, 0)) (c2 := (100, [some (.ref l0)], [.ref l0], S41, 0, 0)) rfl trivial (fun hz => ?_) (fun hz => ?_)
        · have h := h.1 hz
          refine jLf.bk hc 1 [] [some (.ref l0)] [.long (-1), .ref l0] S41 rfl rfl rfl trivial ?_
          exact tX12_next_115 d hd hX76 h
        · have h := h.2 hz
          obtain ⟨g48, g49, g50, h⟩ := h
          refine jLf.bk hc 13 [jA S41 l0 12, jA S41 l0 12, ¬ jR S41 l0 7 = none, jA S41 l0 12, jA S41 (jr S41 l0 7) 13, vp_in (jI S41 l0 10) (jZ S41 (jr S41 l0 7))] [some (.ref l0)] [.long ((((jJ S41 l0 12) * (32 : Int64)) + ((jI S41 (jr S41 l0 7) (jI S41 l0 10).toNatClampNeg).toInt64)) - (96 : Int64)), .ref l0] S41 rfl rfl rfl ⟨g43, g43, g48, g43, g49, g50⟩ ?_
          refine jLf.one hc _ rfl (gs := []) (c := (115, [some (.ref l0)], [.long ((((jJ S41 l0 12) * (32 : Int64)) + ((jI S41 (jr S41 l0 7) (jI S41 l0 10).toNatClampNeg).toInt64)) - (96 : Int64)), .ref l0], S41, 0, 0)) rfl trivial ?_
          exact tX12_next_115 d hd hX76 h
def wX12_next_76   (l0 : Nat) (S : JS) (Q : JS → Prop) : Prop :=
  jLoop (fun (X76 : Nat × JS → Prop) q => bX12_next_76 (fun l0 S => X76 (l0, S)) q.1 q.2 Q) (l0, S)
set_option maxRecDepth 20000 in
theorem tX12_next_76 {Q : JS → Prop}  (d : Nat) (hd : 1 ≤ d) {l0 : Nat} {S : JS} (h : wX12_next_76 l0 S Q) : jLf (jCall jmt jbud d) jbud (fun j => (jmt j).rk) none mX12_next (jqV Q) (76, [some (.ref l0)], [], S, 0, 0) := by
  have := h (fun q : Nat × JS => jLf (jCall jmt jbud d) jbud (fun j => (jmt j).rk) none mX12_next (jqV Q) (76, [some (.ref (q.1))], [], q.2, 0, 0)) (fun q R hb hR => uX12_next_76 d hd  (fun _ _ => hR _) hb)
  exact this
def wX12_next_57   (l0 : Nat) (s0 : Int32) (s1 : Nat) (S : JS) (Q : JS → Prop) : Prop :=
  jA S s1 12 ∧ (∀ S21 : JS, S21 = uI S s1 11 s0 → (jA S21 l0 12 ∧ ((¬ (jI S21 l0 11) = 3 → wX12_next_76 l0 S21 Q) ∧ ((jI S21 l0 11) = 3 → ¬ jR S21 l0 7 = none ∧ (jA S21 (jr S21 l0 7) 13 ∧ (vp_in (jI S21 l0 9) (jZ S21 (jr S21 l0 7)) ∧ (∀ S54 : JS, S54 = uJ S21 l0 12 ((jI S21 (jr S21 l0 7) (jI S21 l0 9).toNatClampNeg).toInt64) → (jA S54 l0 12 ∧ (∀ S56 : JS, S56 = uI S54 l0 10 ((jI S54 l0 10) + (1 : Int32)) → (wX12_next_76 l0 S56 Q))))))))))
set_option maxRecDepth 20000 in
theorem tX12_next_57 {Q : JS → Prop}  (d : Nat) (hd : 1 ≤ d) {l0 : Nat} {s0 : Int32} {s1 : Nat} {S : JS} (h : wX12_next_57 l0 s0 s1 S Q) : jLf (jCall jmt jbud d) jbud (fun j => (jmt j).rk) none mX12_next (jqV Q) (57, [some (.ref l0)], [.int s0, .ref s1], S, 0, 0) := by
  have hc := jCall_mono jmt jbud d
  unfold wX12_next_57 at h
  obtain ⟨g20, h⟩ := h
  refine jLf.bk hc 1 [jA S s1 12] [some (.ref l0)] [] (uI S s1 11 s0) rfl rfl rfl g20 ?_
  generalize eS21 : uI S s1 11 s0 = S21
  have h := h S21 eS21.symm
  obtain ⟨g22, h⟩ := h
  refine jLf.bk hc 3 [jA S21 l0 12] [some (.ref l0)] [.int 3, .int (jI S21 l0 11)] S21 rfl rfl rfl g22 ?_
  refine jLf.two hc _ rfl (gs := []) (p1 := ¬ (jI S21 l0 11) = 3) (p2 := ¬ (¬ (jI S21 l0 11) = 3)) (c1 := (76, [some (.ref l0)], [], S21, 0, 0)) (c2 := (62, [some (.ref l0)], [], S21, 0, 0)) rfl trivial (fun hz => ?_) (fun hz => ?_)
  · have h := h.1 hz
    exact tX12_next_76 d hd  h
  · have h := h.2 (Classical.not_not.mp hz)
    obtain ⟨g51, g52, g53, h⟩ := h
    refine jLf.bk hc 8 [jA S21 l0 12, ¬ jR S21 l0 7 = none, jA S21 l0 12, jA S21 (jr S21 l0 7) 13, vp_in (jI S21 l0 9) (jZ S21 (jr S21 l0 7)), jA S21 l0 12] [some (.ref l0)] [] (uJ S21 l0 12 ((jI S21 (jr S21 l0 7) (jI S21 l0 9).toNatClampNeg).toInt64)) rfl rfl rfl ⟨g22, g51, g22, g52, g53, g22⟩ ?_
    generalize eS54 : uJ S21 l0 12 ((jI S21 (jr S21 l0 7) (jI S21 l0 9).toNatClampNeg).toInt64) = S54
    have h := h S54 eS54.symm
    obtain ⟨g55, h⟩ := h
    refine jLf.bk hc 6 [(.ref l0 : Value).category = 1, jA S54 l0 12, jA S54 l0 12] [some (.ref l0)] [] (uI S54 l0 10 ((jI S54 l0 10) + (1 : Int32))) rfl rfl rfl ⟨rfl, g55, g55⟩ ?_
    generalize eS56 : uI S54 l0 10 ((jI S54 l0 10) + (1 : Int32)) = S56
    have h := h S56 eS56.symm
    exact tX12_next_76 d hd  h
def wX12_next_23   (l0 : Nat) (S : JS) (Q : JS → Prop) : Prop :=
  jA S l0 12 ∧ (∀ S5 : JS, S5 = uI S l0 10 (jI S l0 9) → (jA S5 l0 12 ∧ (∀ S7 : JS, S7 = uJ S5 l0 12 0 → (jA S7 l0 12 ∧ ((¬ (jI S7 l0 9) = (jI S7 l0 8) → ¬ jR S7 l0 7 = none ∧ (jA S7 (jr S7 l0 7) 13 ∧ (vp_in (jI S7 l0 9) (jZ S7 (jr S7 l0 7)) ∧ (wX12_isSmall (jI S7 (jr S7 l0 7) (jI S7 l0 9).toNatClampNeg) S7 (fun r13 S12 => (r13 = 0 → jA S12 l0 12 ∧ (¬ jR S12 l0 7 = none ∧ (jA S12 (jr S12 l0 7) 13 ∧ (vp_in (jI S12 l0 9) (jZ S12 (jr S12 l0 7)) ∧ (wX12_isDigit (jI S12 (jr S12 l0 7) (jI S12 l0 9).toNatClampNeg) S12 (fun r19 S18 => (r19 = 0 → wX12_next_57 l0 3 l0 S18 Q) ∧ (¬ r19 = 0 → wX12_next_57 l0 2 l0 S18 Q))))))) ∧ (¬ r13 = 0 → wX12_next_57 l0 1 l0 S12 Q)))))) ∧ ((jI S7 l0 9) = (jI S7 l0 8) → wX12_next_57 l0 0 l0 S7 Q))))))
set_option maxRecDepth 20000 in
theorem tX12_next_23 {Q : JS → Prop}  (d : Nat) (hd : 1 ≤ d) {l0 : Nat} {S : JS} (h : wX12_next_23 l0 S Q) : jLf (jCall jmt jbud d) jbud (fun j => (jmt j).rk) none mX12_next (jqV Q) (23, [some (.ref l0)], [], S, 0, 0) := by
  have hc := jCall_mono jmt jbud d
  unfold wX12_next_23 at h
  obtain ⟨g4, h⟩ := h
  refine jLf.bk hc 4 [jA S l0 12, jA S l0 12] [some (.ref l0)] [] (uI S l0 10 (jI S l0 9)) rfl rfl rfl ⟨g4, g4⟩ ?_
  generalize eS5 : uI S l0 10 (jI S l0 9) = S5
  have h := h S5 eS5.symm
  obtain ⟨g6, h⟩ := h
  refine jLf.bk hc 3 [jA S5 l0 12] [some (.ref l0)] [] (uJ S5 l0 12 0) rfl rfl rfl g6 ?_
  generalize eS7 : uJ S5 l0 12 0 = S7
  have h := h S7 eS7.symm
  obtain ⟨g8, h⟩ := h
  refine jLf.bk hc 5 [jA S7 l0 12, jA S7 l0 12] [some (.ref l0)] [.int (jI S7 l0 8), .int (jI S7 l0 9), .ref l0] S7 rfl rfl rfl ⟨g8, g8⟩ ?_
  refine jLf.two hc _ rfl (gs := []) (p1 := ¬ (jI S7 l0 9) = (jI S7 l0 8)) (p2 := ¬ (¬ (jI S7 l0 9) = (jI S7 l0 8))) (c1 := (38, [some (.ref l0)], [.ref l0], S7, 0, 0)) (c2 := (36, [some (.ref l0)], [.ref l0], S7, 0, 0)) rfl trivial (fun hz => ?_) (fun hz => ?_)
  · have h := h.1 hz
    obtain ⟨g9, g10, g11, h⟩ := h
    refine jLf.bk hc 5 [jA S7 l0 12, ¬ jR S7 l0 7 = none, jA S7 l0 12, jA S7 (jr S7 l0 7) 13, vp_in (jI S7 l0 9) (jZ S7 (jr S7 l0 7))] [some (.ref l0)] [.int (jI S7 (jr S7 l0 7) (jI S7 l0 9).toNatClampNeg), .ref l0] S7 rfl rfl rfl ⟨g8, g9, g8, g10, g11⟩ ?_
    refine jLf.inv hc _ rfl (gs := [1 ≤ ([.int (jI S7 (jr S7 l0 7) (jI S7 l0 9).toNatClampNeg), .ref l0] : List Value).length, (([.ref l0] : List Value).map fun v => v.category).sum ≤ 8, 0 ≤ 0, 0 ≤ 0]) (k := 166) (args := [.int (jI S7 (jr S7 l0 7) (jI S7 l0 9).toNatClampNeg)]) (r := [.ref l0]) (a := 0) (b := 0) rfl ⟨Nat.le_of_ble_eq_true rfl, Nat.le_of_ble_eq_true rfl, Nat.zero_le _, Nat.zero_le _⟩ (vX12_isSmall d (by omega) h) ?_
    rintro v S12 ⟨r13, rfl, h⟩
    show jLf (jCall jmt jbud d) jbud (fun j => (jmt j).rk) none mX12_next (jqV Q) (44, [some (.ref l0)], [.int r13, .ref l0], S12, 0, 0)
    refine jLf.two hc _ rfl (gs := []) (p1 := r13 = 0) (p2 := ¬ (r13 = 0)) (c1 := (47, [some (.ref l0)], [.ref l0], S12, 0, 0)) (c2 := (45, [some (.ref l0)], [.ref l0], S12, 0, 0)) rfl trivial (fun hz => ?_) (fun hz => ?_)
    · have h := h.1 hz
      obtain ⟨g14, g15, g16, g17, h⟩ := h
      refine jLf.bk hc 5 [jA S12 l0 12, ¬ jR S12 l0 7 = none, jA S12 l0 12, jA S12 (jr S12 l0 7) 13, vp_in (jI S12 l0 9) (jZ S12 (jr S12 l0 7))] [some (.ref l0)] [.int (jI S12 (jr S12 l0 7) (jI S12 l0 9).toNatClampNeg), .ref l0] S12 rfl rfl rfl ⟨g14, g15, g14, g16, g17⟩ ?_
      refine jLf.inv hc _ rfl (gs := [1 ≤ ([.int (jI S12 (jr S12 l0 7) (jI S12 l0 9).toNatClampNeg), .ref l0] : List Value).length, (([.ref l0] : List Value).map fun v => v.category).sum ≤ 8, 0 ≤ 0, 0 ≤ 0]) (k := 167) (args := [.int (jI S12 (jr S12 l0 7) (jI S12 l0 9).toNatClampNeg)]) (r := [.ref l0]) (a := 0) (b := 0) rfl ⟨Nat.le_of_ble_eq_true rfl, Nat.le_of_ble_eq_true rfl, Nat.zero_le _, Nat.zero_le _⟩ (vX12_isDigit d (by omega) h) ?_
      rintro v S18 ⟨r19, rfl, h⟩
      show jLf (jCall jmt jbud d) jbud (fun j => (jmt j).rk) none mX12_next (jqV Q) (53, [some (.ref l0)], [.int r19, .ref l0], S18, 0, 0)
      refine jLf.two hc _ rfl (gs := []) (p1 := r19 = 0) (p2 := ¬ (r19 = 0)) (c1 := (56, [some (.ref l0)], [.ref l0], S18, 0, 0)) (c2 := (54, [some (.ref l0)], [.ref l0], S18, 0, 0)) rfl trivial (fun hz => ?_) (fun hz => ?_)
      · have h := h.1 hz
        refine jLf.bk hc 1 [] [some (.ref l0)] [.int 3, .ref l0] S18 rfl rfl rfl trivial ?_
        exact tX12_next_57 d hd  h
      · have h := h.2 hz
        refine jLf.bk hc 1 [] [some (.ref l0)] [.int 2, .ref l0] S18 rfl rfl rfl trivial ?_
        refine jLf.one hc _ rfl (gs := []) (c := (57, [some (.ref l0)], [.int 2, .ref l0], S18, 0, 0)) rfl trivial ?_
        exact tX12_next_57 d hd  h
    · have h := h.2 hz
      refine jLf.bk hc 1 [] [some (.ref l0)] [.int 1, .ref l0] S12 rfl rfl rfl trivial ?_
      refine jLf.one hc _ rfl (gs := []) (c := (57, [some (.ref l0)], [.int 1, .ref l0], S12, 0, 0)) rfl trivial ?_
      exact tX12_next_57 d hd  h
  · have h := h.2 (Classical.not_not.mp hz)
    refine jLf.bk hc 1 [] [some (.ref l0)] [.int 0, .ref l0] S7 rfl rfl rfl trivial ?_
    refine jLf.one hc _ rfl (gs := []) (c := (57, [some (.ref l0)], [.int 0, .ref l0], S7, 0, 0)) rfl trivial ?_
    exact tX12_next_57 d hd  h
def bX12_next_4   (X4 : Nat → JS → Prop) (l0 : Nat) (S : JS) (Q : JS → Prop) : Prop :=
  jA S l0 12 ∧ (((jI S l0 8) ≤ (jI S l0 9) → wX12_next_23 l0 S Q) ∧ (¬ ((jI S l0 8) ≤ (jI S l0 9)) → ¬ jR S l0 7 = none ∧ (jA S (jr S l0 7) 13 ∧ (vp_in (jI S l0 9) (jZ S (jr S l0 7)) ∧ ((¬ (jI S (jr S l0 7) (jI S l0 9).toNatClampNeg) = 32 → wX12_next_23 l0 S Q) ∧ ((jI S (jr S l0 7) (jI S l0 9).toNatClampNeg) = 32 → ∀ S60 : JS, S60 = uI S l0 9 ((jI S l0 9) + (1 : Int32)) → (X4 l0 S60)))))))
set_option maxRecDepth 20000 in
theorem uX12_next_4 {Q : JS → Prop}  (d : Nat) (hd : 1 ≤ d) {X4 : Nat → JS → Prop} (hX4 : ∀ l0 S, X4 l0 S → jLf (jCall jmt jbud d) jbud (fun j => (jmt j).rk) none mX12_next (jqV Q) (4, [some (.ref l0)], [], S, 0, 0)) {l0 : Nat} {S : JS} (h : bX12_next_4 X4 l0 S Q) : jLf (jCall jmt jbud d) jbud (fun j => (jmt j).rk) none mX12_next (jqV Q) (4, [some (.ref l0)], [], S, 0, 0) := by
  have hc := jCall_mono jmt jbud d
  unfold bX12_next_4 at h
  obtain ⟨g3, h⟩ := h
  refine jLf.bk hc 4 [jA S l0 12, jA S l0 12] [some (.ref l0)] [.int (jI S l0 8), .int (jI S l0 9)] S rfl rfl rfl ⟨g3, g3⟩ ?_
  refine jLf.two hc _ rfl (gs := []) (p1 := (jI S l0 8) ≤ (jI S l0 9)) (p2 := ¬ ((jI S l0 8) ≤ (jI S l0 9))) (c1 := (23, [some (.ref l0)], [], S, 0, 0)) (c2 := (9, [some (.ref l0)], [], S, 0, 0)) rfl trivial (fun hz => ?_) (fun hz => ?_)
  · have h := h.1 hz
    exact tX12_next_23 d hd  h
  · have h := h.2 hz
    obtain ⟨g57, g58, g59, h⟩ := h
    refine jLf.bk hc 6 [jA S l0 12, ¬ jR S l0 7 = none, jA S l0 12, jA S (jr S l0 7) 13, vp_in (jI S l0 9) (jZ S (jr S l0 7))] [some (.ref l0)] [.int 32, .int (jI S (jr S l0 7) (jI S l0 9).toNatClampNeg)] S rfl rfl rfl ⟨g3, g57, g3, g58, g59⟩ ?_
    refine jLf.two hc _ rfl (gs := []) (p1 := ¬ (jI S (jr S l0 7) (jI S l0 9).toNatClampNeg) = 32) (p2 := ¬ (¬ (jI S (jr S l0 7) (jI S l0 9).toNatClampNeg) = 32)) (c1 := (23, [some (.ref l0)], [], S, 0, 0)) (c2 := (16, [some (.ref l0)], [], S, 0, 0)) rfl trivial (fun hz => ?_) (fun hz => ?_)
    · have h := h.1 hz
      exact tX12_next_23 d hd  h
    · have h := h.2 (Classical.not_not.mp hz)
      refine jLf.bk hc 6 [(.ref l0 : Value).category = 1, jA S l0 12, jA S l0 12] [some (.ref l0)] [] (uI S l0 9 ((jI S l0 9) + (1 : Int32))) rfl rfl rfl ⟨rfl, g3, g3⟩ ?_
      generalize eS60 : uI S l0 9 ((jI S l0 9) + (1 : Int32)) = S60
      have h := h S60 eS60.symm
      refine jLf.one hc _ rfl (gs := []) (c := (4, [some (.ref l0)], [], S60, 0, 0)) rfl trivial ?_
      exact hX4 _ _ h
def wX12_next_4   (l0 : Nat) (S : JS) (Q : JS → Prop) : Prop :=
  jLoop (fun (X4 : Nat × JS → Prop) q => bX12_next_4 (fun l0 S => X4 (l0, S)) q.1 q.2 Q) (l0, S)
set_option maxRecDepth 20000 in
theorem tX12_next_4 {Q : JS → Prop}  (d : Nat) (hd : 1 ≤ d) {l0 : Nat} {S : JS} (h : wX12_next_4 l0 S Q) : jLf (jCall jmt jbud d) jbud (fun j => (jmt j).rk) none mX12_next (jqV Q) (4, [some (.ref l0)], [], S, 0, 0) := by
  have := h (fun q : Nat × JS => jLf (jCall jmt jbud d) jbud (fun j => (jmt j).rk) none mX12_next (jqV Q) (4, [some (.ref (q.1))], [], q.2, 0, 0)) (fun q R hb hR => uX12_next_4 d hd  (fun _ _ => hR _) hb)
  exact this
def wX12_next  (this : Nat) (S : JS) (Q : JS → Prop) : Prop :=
  jA S this 12 ∧ (∀ S2 : JS, S2 = uI S this 9 (jI S this 10) → (wX12_next_4 this S2 Q))
set_option maxRecDepth 20000 in
theorem vX12_next {Q : JS → Prop} (d : Nat) (hd : 2 ≤ d) {this : Nat} {S : JS} (h : wX12_next this S Q) : jCall jmt jbud d 169 [.ref this] S (jqV Q) := by
  obtain ⟨d, rfl⟩ : ∃ d2, d = d2 + 1 := ⟨d - 1, by omega⟩
  have hd : 1 ≤ d := by omega
  have hc := jCall_mono jmt jbud d
  unfold wX12_next at h
  refine ⟨Nat.le_of_ble_eq_true rfl, ?_⟩
  show jLf (jCall jmt jbud d) jbud (fun j => (jmt j).rk) none mX12_next (jqV Q) (0, [some (.ref this)], [], S, 0, 0)
  obtain ⟨g1, h⟩ := h
  refine jLf.bk hc 4 [jA S this 12, jA S this 12] [some (.ref this)] [] (uI S this 9 (jI S this 10)) rfl rfl rfl ⟨g1, g1⟩ ?_
  generalize eS2 : uI S this 9 (jI S this 10) = S2
  have h := h S2 eS2.symm
  exact tX12_next_4 d hd  h
def wX12_begin  (this : Nat) (S : JS) (Q : JS → Prop) : Prop :=
  jA S this 12 ∧ (∀ S2 : JS, S2 = uI S this 10 0 → (jA S2 this 12 ∧ (∀ S4 : JS, S4 = uI S2 this 14 0 → (jA S4 this 12 ∧ (∀ S6 : JS, S6 = uI S4 this 13 (-1) → (jA S6 this 12 ∧ (wX12_next this S6 (fun S7 => Q S7))))))))
set_option maxRecDepth 20000 in
theorem vX12_begin {Q : JS → Prop} (d : Nat) (hd : 3 ≤ d) {this : Nat} {S : JS} (h : wX12_begin this S Q) : jCall jmt jbud d 168 [.ref this] S (jqV Q) := by
  obtain ⟨d, rfl⟩ : ∃ d2, d = d2 + 1 := ⟨d - 1, by omega⟩
  have hd : 2 ≤ d := by omega
  have hc := jCall_mono jmt jbud d
  unfold wX12_begin at h
  refine ⟨Nat.le_of_ble_eq_true rfl, ?_⟩
  show jLf (jCall jmt jbud d) jbud (fun j => (jmt j).rk) none mX12_begin (jqV Q) (0, [some (.ref this)], [], S, 0, 0)
  obtain ⟨g1, h⟩ := h
  refine jLf.bk hc 3 [jA S this 12] [some (.ref this)] [] (uI S this 10 0) rfl rfl rfl g1 ?_
  generalize eS2 : uI S this 10 0 = S2
  have h := h S2 eS2.symm
  obtain ⟨g3, h⟩ := h
  refine jLf.bk hc 3 [jA S2 this 12, jbit 0] [some (.ref this)] [] (uI S2 this 14 0) rfl rfl rfl ⟨g3, (Or.inl rfl)⟩ ?_
  generalize eS4 : uI S2 this 14 0 = S4
  have h := h S4 eS4.symm
  obtain ⟨g5, h⟩ := h
  refine jLf.bk hc 3 [jA S4 this 12] [some (.ref this)] [] (uI S4 this 13 (-1)) rfl rfl rfl g5 ?_
  generalize eS6 : uI S4 this 13 (-1) = S6
  have h := h S6 eS6.symm
  refine jLf.bk hc 1 [] [some (.ref this)] [.ref this] S6 rfl rfl rfl trivial ?_
  obtain ⟨g9, h⟩ := h
  refine jLf.inv hc _ rfl (gs := [jA S6 this 12, (([] : List Value).map fun v => v.category).sum ≤ 8, 0 ≤ 0, 0 ≤ 0]) (k := 169) (args := [.ref this]) (r := []) (a := 0) (b := 0) rfl ⟨g9, Nat.le_of_ble_eq_true rfl, Nat.zero_le _, Nat.zero_le _⟩ (vX12_next d (by omega) h) ?_
  rintro v S7 ⟨rfl, h⟩
  show jLf (jCall jmt jbud d) jbud (fun j => (jmt j).rk) none mX12_begin (jqV Q) (11, [some (.ref this)], [], S7, 0, 0)
  exact jLf.ret hc _ rfl (gs := [jrt none none]) (v := none) rfl trivial ⟨rfl, h⟩
def wX12_isWord  (this : Nat) (p1 : Int64) (S : JS) (Q : Int32 → JS → Prop) : Prop :=
  jA S this 12 ∧ ((¬ (jI S this 11) = 1 → Q 0 S) ∧ ((jI S this 11) = 1 → (¬ (lg_cmp (jJ S this 12) p1) = 0 → Q 0 S) ∧ ((lg_cmp (jJ S this 12) p1) = 0 → Q 1 S)))
set_option maxRecDepth 20000 in
theorem vX12_isWord {Q : Int32 → JS → Prop} (d : Nat) (hd : 1 ≤ d) {this : Nat} {p1 : Int64} {S : JS} (h : wX12_isWord this p1 S Q) : jCall jmt jbud d 170 [.ref this, .long p1] S (jqI Q) := by
  obtain ⟨d, rfl⟩ : ∃ d2, d = d2 + 1 := ⟨d - 1, by omega⟩
  have hd : 0 ≤ d := by omega
  have hc := jCall_mono jmt jbud d
  unfold wX12_isWord at h
  refine ⟨Nat.le_of_ble_eq_true rfl, ?_⟩
  show jLf (jCall jmt jbud d) jbud (fun j => (jmt j).rk) none mX12_isWord (jqI Q) (0, [some (.ref this), some (.long p1), none], [], S, 0, 0)
  obtain ⟨g1, h⟩ := h
  refine jLf.bk hc 3 [jA S this 12] [some (.ref this), some (.long p1), none] [.int 1, .int (jI S this 11)] S rfl rfl rfl g1 ?_
  refine jLf.two hc _ rfl (gs := []) (p1 := ¬ (jI S this 11) = 1) (p2 := ¬ (¬ (jI S this 11) = 1)) (c1 := (11, [some (.ref this), some (.long p1), none], [], S, 0, 0)) (c2 := (4, [some (.ref this), some (.long p1), none], [], S, 0, 0)) rfl trivial (fun hz => ?_) (fun hz => ?_)
  · have h := h.1 hz
    refine jLf.bk hc 1 [] [some (.ref this), some (.long p1), none] [.int 0] S rfl rfl rfl trivial ?_
    exact jLf.ret hc _ rfl (gs := [jbit 0]) (v := some (.int 0)) rfl (Or.inl rfl) ⟨_, rfl, h⟩
  · have h := h.2 (Classical.not_not.mp hz)
    refine jLf.bk hc 4 [jA S this 12] [some (.ref this), some (.long p1), none] [.int (lg_cmp (jJ S this 12) p1)] S rfl rfl rfl g1 ?_
    refine jLf.two hc _ rfl (gs := []) (p1 := ¬ (lg_cmp (jJ S this 12) p1) = 0) (p2 := ¬ (¬ (lg_cmp (jJ S this 12) p1) = 0)) (c1 := (11, [some (.ref this), some (.long p1), none], [], S, 0, 0)) (c2 := (9, [some (.ref this), some (.long p1), none], [], S, 0, 0)) rfl trivial (fun hz => ?_) (fun hz => ?_)
    · have h := h.1 hz
      refine jLf.bk hc 1 [] [some (.ref this), some (.long p1), none] [.int 0] S rfl rfl rfl trivial ?_
      exact jLf.ret hc _ rfl (gs := [jbit 0]) (v := some (.int 0)) rfl (Or.inl rfl) ⟨_, rfl, h⟩
    · have h := h.2 (Classical.not_not.mp hz)
      refine jLf.bk hc 1 [] [some (.ref this), some (.long p1), none] [.int 1] S rfl rfl rfl trivial ?_
      refine jLf.one hc _ rfl (gs := []) (c := (12, [some (.ref this), some (.long p1), none], [.int 1], S, 0, 0)) rfl trivial ?_
      exact jLf.ret hc _ rfl (gs := [jbit 1]) (v := some (.int 1)) rfl (Or.inr rfl) ⟨_, rfl, h⟩
def wX12_isSign  (this : Nat) (p1 : Int32) (S : JS) (Q : Int32 → JS → Prop) : Prop :=
  jA S this 12 ∧ ((¬ (jI S this 11) = 3 → Q 0 S) ∧ ((jI S this 11) = 3 → (¬ (lg_cmp (jJ S this 12) (p1.toInt64)) = 0 → Q 0 S) ∧ ((lg_cmp (jJ S this 12) (p1.toInt64)) = 0 → Q 1 S)))
set_option maxRecDepth 20000 in
theorem vX12_isSign {Q : Int32 → JS → Prop} (d : Nat) (hd : 1 ≤ d) {this : Nat} {p1 : Int32} {S : JS} (h : wX12_isSign this p1 S Q) : jCall jmt jbud d 171 [.ref this, .int p1] S (jqI Q) := by
  obtain ⟨d, rfl⟩ : ∃ d2, d = d2 + 1 := ⟨d - 1, by omega⟩
  have hd : 0 ≤ d := by omega
  have hc := jCall_mono jmt jbud d
  unfold wX12_isSign at h
  refine ⟨Nat.le_of_ble_eq_true rfl, ?_⟩
  show jLf (jCall jmt jbud d) jbud (fun j => (jmt j).rk) none mX12_isSign (jqI Q) (0, [some (.ref this), some (.int p1)], [], S, 0, 0)
  obtain ⟨g1, h⟩ := h
  refine jLf.bk hc 3 [jA S this 12] [some (.ref this), some (.int p1)] [.int 3, .int (jI S this 11)] S rfl rfl rfl g1 ?_
  refine jLf.two hc _ rfl (gs := []) (p1 := ¬ (jI S this 11) = 3) (p2 := ¬ (¬ (jI S this 11) = 3)) (c1 := (12, [some (.ref this), some (.int p1)], [], S, 0, 0)) (c2 := (4, [some (.ref this), some (.int p1)], [], S, 0, 0)) rfl trivial (fun hz => ?_) (fun hz => ?_)
  · have h := h.1 hz
    refine jLf.bk hc 1 [] [some (.ref this), some (.int p1)] [.int 0] S rfl rfl rfl trivial ?_
    exact jLf.ret hc _ rfl (gs := [jbit 0]) (v := some (.int 0)) rfl (Or.inl rfl) ⟨_, rfl, h⟩
  · have h := h.2 (Classical.not_not.mp hz)
    refine jLf.bk hc 5 [jA S this 12] [some (.ref this), some (.int p1)] [.int (lg_cmp (jJ S this 12) (p1.toInt64))] S rfl rfl rfl g1 ?_
    refine jLf.two hc _ rfl (gs := []) (p1 := ¬ (lg_cmp (jJ S this 12) (p1.toInt64)) = 0) (p2 := ¬ (¬ (lg_cmp (jJ S this 12) (p1.toInt64)) = 0)) (c1 := (12, [some (.ref this), some (.int p1)], [], S, 0, 0)) (c2 := (10, [some (.ref this), some (.int p1)], [], S, 0, 0)) rfl trivial (fun hz => ?_) (fun hz => ?_)
    · have h := h.1 hz
      refine jLf.bk hc 1 [] [some (.ref this), some (.int p1)] [.int 0] S rfl rfl rfl trivial ?_
      exact jLf.ret hc _ rfl (gs := [jbit 0]) (v := some (.int 0)) rfl (Or.inl rfl) ⟨_, rfl, h⟩
    · have h := h.2 (Classical.not_not.mp hz)
      refine jLf.bk hc 1 [] [some (.ref this), some (.int p1)] [.int 1] S rfl rfl rfl trivial ?_
      refine jLf.one hc _ rfl (gs := []) (c := (13, [some (.ref this), some (.int p1)], [.int 1], S, 0, 0)) rfl trivial ?_
      exact jLf.ret hc _ rfl (gs := [jbit 1]) (v := some (.int 1)) rfl (Or.inr rfl) ⟨_, rfl, h⟩
def wX12_must_12   (l0 : Nat) (S : JS) (Q : JS → Prop) : Prop :=
  jA S l0 12 ∧ ((¬ (jI S l0 14) = 0 → Q S) ∧ ((jI S l0 14) = 0 → wX12_next l0 S (fun S3 => Q S3)))
set_option maxRecDepth 20000 in
theorem tX12_must_12 {Q : JS → Prop}  (d : Nat) (hd : 2 ≤ d) {l0 : Nat} {S : JS} (h : wX12_must_12 l0 S Q) : jLf (jCall jmt jbud d) jbud (fun j => (jmt j).rk) none mX12_must (jqV Q) (12, [some (.ref l0), none], [], S, 0, 0) := by
  have hc := jCall_mono jmt jbud d
  unfold wX12_must_12 at h
  obtain ⟨g2, h⟩ := h
  refine jLf.bk hc 2 [jA S l0 12] [some (.ref l0), none] [.int (jI S l0 14)] S rfl rfl rfl g2 ?_
  refine jLf.two hc _ rfl (gs := []) (p1 := ¬ (jI S l0 14) = 0) (p2 := ¬ (¬ (jI S l0 14) = 0)) (c1 := (17, [some (.ref l0), none], [], S, 0, 0)) (c2 := (15, [some (.ref l0), none], [], S, 0, 0)) rfl trivial (fun hz => ?_) (fun hz => ?_)
  · have h := h.1 hz
    exact jLf.ret hc _ rfl (gs := [jrt none none]) (v := none) rfl trivial ⟨rfl, h⟩
  · have h := h.2 (Classical.not_not.mp hz)
    refine jLf.bk hc 1 [] [some (.ref l0), none] [.ref l0] S rfl rfl rfl trivial ?_
    refine jLf.inv hc _ rfl (gs := [jA S l0 12, (([] : List Value).map fun v => v.category).sum ≤ 8, 0 ≤ 0, 0 ≤ 0]) (k := 169) (args := [.ref l0]) (r := []) (a := 0) (b := 0) rfl ⟨g2, Nat.le_of_ble_eq_true rfl, Nat.zero_le _, Nat.zero_le _⟩ (vX12_next d (by omega) h) ?_
    rintro v S3 ⟨rfl, h⟩
    show jLf (jCall jmt jbud d) jbud (fun j => (jmt j).rk) none mX12_must (jqV Q) (17, [some (.ref l0), none], [], S3, 0, 0)
    exact jLf.ret hc _ rfl (gs := [jrt none none]) (v := none) rfl trivial ⟨rfl, h⟩
def wX12_must  (this : Nat) (p1 : Int32) (S : JS) (Q : JS → Prop) : Prop :=
  jA S this 12 ∧ ((¬ (jI S this 14) = 0 → wX12_must_12 this S Q) ∧ ((jI S this 14) = 0 → (¬ p1 = 0 → wX12_must_12 this S Q) ∧ (p1 = 0 → ∀ S5 : JS, S5 = uI S this 14 1 → (jA S5 this 12 ∧ (∀ S7 : JS, S7 = uI S5 this 13 (jI S5 this 9) → (wX12_must_12 this S7 Q))))))
set_option maxRecDepth 20000 in
theorem vX12_must {Q : JS → Prop} (d : Nat) (hd : 3 ≤ d) {this : Nat} {p1 : Int32} {S : JS} (h : wX12_must this p1 S Q) : jCall jmt jbud d 172 [.ref this, .int p1] S (jqV Q) := by
  obtain ⟨d, rfl⟩ : ∃ d2, d = d2 + 1 := ⟨d - 1, by omega⟩
  have hd : 2 ≤ d := by omega
  have hc := jCall_mono jmt jbud d
  unfold wX12_must at h
  refine ⟨Nat.le_of_ble_eq_true rfl, ?_⟩
  show jLf (jCall jmt jbud d) jbud (fun j => (jmt j).rk) none mX12_must (jqV Q) (0, [some (.ref this), some (.int p1)], [], S, 0, 0)
  obtain ⟨g1, h⟩ := h
  refine jLf.bk hc 2 [jA S this 12] [some (.ref this), some (.int p1)] [.int (jI S this 14)] S rfl rfl rfl g1 ?_
  refine jLf.two hc _ rfl (gs := []) (p1 := ¬ (jI S this 14) = 0) (p2 := ¬ (¬ (jI S this 14) = 0)) (c1 := (12, [some (.ref this), some (.int p1)], [], S, 0, 0)) (c2 := (3, [some (.ref this), some (.int p1)], [], S, 0, 0)) rfl trivial (fun hz => ?_) (fun hz => ?_)
  · have h := h.1 hz
    refine jLf.sub [some (.ref this), none] (jle_same (jle_none (jle_nil _))) ?_
    exact tX12_must_12 d hd  h
  · have h := h.2 (Classical.not_not.mp hz)
    refine jLf.bk hc 1 [] [some (.ref this), some (.int p1)] [.int p1] S rfl rfl rfl trivial ?_
    refine jLf.two hc _ rfl (gs := []) (p1 := ¬ p1 = 0) (p2 := ¬ (¬ p1 = 0)) (c1 := (12, [some (.ref this), some (.int p1)], [], S, 0, 0)) (c2 := (5, [some (.ref this), some (.int p1)], [], S, 0, 0)) rfl trivial (fun hz => ?_) (fun hz => ?_)
    · have h := h.1 hz
      refine jLf.sub [some (.ref this), none] (jle_same (jle_none (jle_nil _))) ?_
      exact tX12_must_12 d hd  h
    · have h := h.2 (Classical.not_not.mp hz)
      refine jLf.bk hc 3 [jA S this 12, jbit 1] [some (.ref this), some (.int p1)] [] (uI S this 14 1) rfl rfl rfl ⟨g1, (Or.inr rfl)⟩ ?_
      generalize eS5 : uI S this 14 1 = S5
      have h := h S5 eS5.symm
      obtain ⟨g6, h⟩ := h
      refine jLf.bk hc 4 [jA S5 this 12, jA S5 this 12] [some (.ref this), some (.int p1)] [] (uI S5 this 13 (jI S5 this 9)) rfl rfl rfl ⟨g6, g6⟩ ?_
      generalize eS7 : uI S5 this 13 (jI S5 this 9) = S7
      have h := h S7 eS7.symm
      refine jLf.sub [some (.ref this), none] (jle_same (jle_none (jle_nil _))) ?_
      exact tX12_must_12 d hd  h
def wX12_fault  (this : Nat) (S : JS) (Q : Int32 → JS → Prop) : Prop :=
  jA S this 12 ∧ (∀ S2 : JS, S2 = uI S this 0 0 → (jA S2 this 12 ∧ (Q (jI S2 this 13) S2)))
set_option maxRecDepth 20000 in
theorem vX12_fault {Q : Int32 → JS → Prop} (d : Nat) (hd : 1 ≤ d) {this : Nat} {S : JS} (h : wX12_fault this S Q) : jCall jmt jbud d 173 [.ref this] S (jqI Q) := by
  obtain ⟨d, rfl⟩ : ∃ d2, d = d2 + 1 := ⟨d - 1, by omega⟩
  have hd : 0 ≤ d := by omega
  have hc := jCall_mono jmt jbud d
  unfold wX12_fault at h
  refine ⟨Nat.le_of_ble_eq_true rfl, ?_⟩
  show jLf (jCall jmt jbud d) jbud (fun j => (jmt j).rk) none mX12_fault (jqI Q) (0, [some (.ref this)], [], S, 0, 0)
  obtain ⟨g1, h⟩ := h
  refine jLf.bk hc 3 [jA S this 12] [some (.ref this)] [] (uI S this 0 0) rfl rfl rfl g1 ?_
  generalize eS2 : uI S this 0 0 = S2
  have h := h S2 eS2.symm
  obtain ⟨g3, h⟩ := h
  refine jLf.bk hc 2 [jA S2 this 12] [some (.ref this)] [.int (jI S2 this 13)] S2 rfl rfl rfl g3 ?_
  exact jLf.ret hc _ rfl (gs := [True]) (v := some (.int (jI S2 this 13))) rfl trivial ⟨jI S2 this 13, rfl, h⟩
def wX12_emit  (this : Nat) (p1 : Int32) (p2 : Int32) (S : JS) (Q : JS → Prop) : Prop :=
  jA S this 12 ∧ (¬ jR S this 18 = none ∧ (jA S (jr S this 18) 13 ∧ (vp_in (jI S this 17) (jZ S (jr S this 18)) ∧ (∀ S5 : JS, S5 = uI S (jr S this 18) (jI S this 17).toNatClampNeg p1 → (jA S5 this 12 ∧ (¬ jR S5 this 19 = none ∧ (jA S5 (jr S5 this 19) 13 ∧ (vp_in (jI S5 this 17) (jZ S5 (jr S5 this 19)) ∧ (∀ S10 : JS, S10 = uI S5 (jr S5 this 19) (jI S5 this 17).toNatClampNeg p2 → (jA S10 this 12 ∧ (∀ S12 : JS, S12 = uI S10 this 17 ((jI S10 this 17) + (1 : Int32)) → (Q S12))))))))))))
set_option maxRecDepth 20000 in
theorem vX12_emit {Q : JS → Prop} (d : Nat) (hd : 1 ≤ d) {this : Nat} {p1 : Int32} {p2 : Int32} {S : JS} (h : wX12_emit this p1 p2 S Q) : jCall jmt jbud d 174 [.ref this, .int p1, .int p2] S (jqV Q) := by
  obtain ⟨d, rfl⟩ : ∃ d2, d = d2 + 1 := ⟨d - 1, by omega⟩
  have hd : 0 ≤ d := by omega
  have hc := jCall_mono jmt jbud d
  unfold wX12_emit at h
  refine ⟨Nat.le_of_ble_eq_true rfl, ?_⟩
  show jLf (jCall jmt jbud d) jbud (fun j => (jmt j).rk) none mX12_emit (jqV Q) (0, [some (.ref this), some (.int p1), some (.int p2)], [], S, 0, 0)
  obtain ⟨g1, g2, g3, g4, h⟩ := h
  refine jLf.bk hc 6 [jA S this 12, ¬ jR S this 18 = none, jA S this 12, jA S (jr S this 18) 13, vp_in (jI S this 17) (jZ S (jr S this 18))] [some (.ref this), some (.int p1), some (.int p2)] [] (uI S (jr S this 18) (jI S this 17).toNatClampNeg p1) rfl rfl rfl ⟨g1, g2, g1, g3, g4⟩ ?_
  generalize eS5 : uI S (jr S this 18) (jI S this 17).toNatClampNeg p1 = S5
  have h := h S5 eS5.symm
  obtain ⟨g6, g7, g8, g9, h⟩ := h
  refine jLf.bk hc 6 [jA S5 this 12, ¬ jR S5 this 19 = none, jA S5 this 12, jA S5 (jr S5 this 19) 13, vp_in (jI S5 this 17) (jZ S5 (jr S5 this 19))] [some (.ref this), some (.int p1), some (.int p2)] [] (uI S5 (jr S5 this 19) (jI S5 this 17).toNatClampNeg p2) rfl rfl rfl ⟨g6, g7, g6, g8, g9⟩ ?_
  generalize eS10 : uI S5 (jr S5 this 19) (jI S5 this 17).toNatClampNeg p2 = S10
  have h := h S10 eS10.symm
  obtain ⟨g11, h⟩ := h
  refine jLf.bk hc 6 [(.ref this : Value).category = 1, jA S10 this 12, jA S10 this 12] [some (.ref this), some (.int p1), some (.int p2)] [] (uI S10 this 17 ((jI S10 this 17) + (1 : Int32))) rfl rfl rfl ⟨rfl, g11, g11⟩ ?_
  generalize eS12 : uI S10 this 17 ((jI S10 this 17) + (1 : Int32)) = S12
  have h := h S12 eS12.symm
  exact jLf.ret hc _ rfl (gs := [jrt none none]) (v := none) rfl trivial ⟨rfl, h⟩
def wX12_push  (this : Nat) (p1 : Int32) (p2 : Int32) (S : JS) (Q : JS → Prop) : Prop :=
  jA S this 12 ∧ (¬ jR S this 21 = none ∧ (jA S (jr S this 21) 13 ∧ (vp_in (jI S this 23) (jZ S (jr S this 21)) ∧ (∀ S5 : JS, S5 = uI S (jr S this 21) (jI S this 23).toNatClampNeg p1 → (jA S5 this 12 ∧ (¬ jR S5 this 22 = none ∧ (jA S5 (jr S5 this 22) 13 ∧ (vp_in (jI S5 this 23) (jZ S5 (jr S5 this 22)) ∧ (∀ S10 : JS, S10 = uI S5 (jr S5 this 22) (jI S5 this 23).toNatClampNeg p2 → (jA S10 this 12 ∧ (∀ S12 : JS, S12 = uI S10 this 23 ((jI S10 this 23) + (1 : Int32)) → (Q S12))))))))))))
set_option maxRecDepth 20000 in
theorem vX12_push {Q : JS → Prop} (d : Nat) (hd : 1 ≤ d) {this : Nat} {p1 : Int32} {p2 : Int32} {S : JS} (h : wX12_push this p1 p2 S Q) : jCall jmt jbud d 175 [.ref this, .int p1, .int p2] S (jqV Q) := by
  obtain ⟨d, rfl⟩ : ∃ d2, d = d2 + 1 := ⟨d - 1, by omega⟩
  have hd : 0 ≤ d := by omega
  have hc := jCall_mono jmt jbud d
  unfold wX12_push at h
  refine ⟨Nat.le_of_ble_eq_true rfl, ?_⟩
  show jLf (jCall jmt jbud d) jbud (fun j => (jmt j).rk) none mX12_push (jqV Q) (0, [some (.ref this), some (.int p1), some (.int p2)], [], S, 0, 0)
  obtain ⟨g1, g2, g3, g4, h⟩ := h
  refine jLf.bk hc 6 [jA S this 12, ¬ jR S this 21 = none, jA S this 12, jA S (jr S this 21) 13, vp_in (jI S this 23) (jZ S (jr S this 21))] [some (.ref this), some (.int p1), some (.int p2)] [] (uI S (jr S this 21) (jI S this 23).toNatClampNeg p1) rfl rfl rfl ⟨g1, g2, g1, g3, g4⟩ ?_
  generalize eS5 : uI S (jr S this 21) (jI S this 23).toNatClampNeg p1 = S5
  have h := h S5 eS5.symm
  obtain ⟨g6, g7, g8, g9, h⟩ := h
  refine jLf.bk hc 6 [jA S5 this 12, ¬ jR S5 this 22 = none, jA S5 this 12, jA S5 (jr S5 this 22) 13, vp_in (jI S5 this 23) (jZ S5 (jr S5 this 22))] [some (.ref this), some (.int p1), some (.int p2)] [] (uI S5 (jr S5 this 22) (jI S5 this 23).toNatClampNeg p2) rfl rfl rfl ⟨g6, g7, g6, g8, g9⟩ ?_
  generalize eS10 : uI S5 (jr S5 this 22) (jI S5 this 23).toNatClampNeg p2 = S10
  have h := h S10 eS10.symm
  obtain ⟨g11, h⟩ := h
  refine jLf.bk hc 6 [(.ref this : Value).category = 1, jA S10 this 12, jA S10 this 12] [some (.ref this), some (.int p1), some (.int p2)] [] (uI S10 this 23 ((jI S10 this 23) + (1 : Int32))) rfl rfl rfl ⟨rfl, g11, g11⟩ ?_
  generalize eS12 : uI S10 this 23 ((jI S10 this 23) + (1 : Int32)) = S12
  have h := h S12 eS12.symm
  exact jLf.ret hc _ rfl (gs := [jrt none none]) (v := none) rfl trivial ⟨rfl, h⟩
def wX12_binds  (p1 : Int32) (S : JS) (Q : Int32 → JS → Prop) : Prop :=
  (p1 < 30 → (¬ p1 = 29 → (¬ p1 = 28 → (¬ p1 = 27 → (p1 < 24 → (p1 < 22 → Q 5 S) ∧ (¬ (p1 < 22) → Q 6 S)) ∧ (¬ (p1 < 24) → Q 4 S)) ∧ (p1 = 27 → Q 3 S)) ∧ (p1 = 28 → Q 2 S)) ∧ (p1 = 29 → Q 1 S)) ∧ (¬ (p1 < 30) → Q 0 S)
set_option maxRecDepth 20000 in
theorem vX12_binds {Q : Int32 → JS → Prop} (d : Nat) (hd : 1 ≤ d) {p1 : Int32} {S : JS} (h : wX12_binds p1 S Q) : jCall jmt jbud d 176 [.int p1] S (jqI Q) := by
  obtain ⟨d, rfl⟩ : ∃ d2, d = d2 + 1 := ⟨d - 1, by omega⟩
  have hd : 0 ≤ d := by omega
  have hc := jCall_mono jmt jbud d
  unfold wX12_binds at h
  refine ⟨Nat.le_of_ble_eq_true rfl, ?_⟩
  show jLf (jCall jmt jbud d) jbud (fun j => (jmt j).rk) none mX12_binds (jqI Q) (0, [some (.int p1)], [], S, 0, 0)
  refine jLf.bk hc 2 [] [some (.int p1)] [.int 30, .int p1] S rfl rfl rfl trivial ?_
  refine jLf.two hc _ rfl (gs := []) (p1 := p1 < 30) (p2 := ¬ (p1 < 30)) (c1 := (5, [some (.int p1)], [], S, 0, 0)) (c2 := (3, [some (.int p1)], [], S, 0, 0)) rfl trivial (fun hz => ?_) (fun hz => ?_)
  · have h := h.1 hz
    refine jLf.bk hc 2 [] [some (.int p1)] [.int 29, .int p1] S rfl rfl rfl trivial ?_
    refine jLf.two hc _ rfl (gs := []) (p1 := ¬ p1 = 29) (p2 := ¬ (¬ p1 = 29)) (c1 := (10, [some (.int p1)], [], S, 0, 0)) (c2 := (8, [some (.int p1)], [], S, 0, 0)) rfl trivial (fun hz => ?_) (fun hz => ?_)
    · have h := h.1 hz
      refine jLf.bk hc 2 [] [some (.int p1)] [.int 28, .int p1] S rfl rfl rfl trivial ?_
      refine jLf.two hc _ rfl (gs := []) (p1 := ¬ p1 = 28) (p2 := ¬ (¬ p1 = 28)) (c1 := (15, [some (.int p1)], [], S, 0, 0)) (c2 := (13, [some (.int p1)], [], S, 0, 0)) rfl trivial (fun hz => ?_) (fun hz => ?_)
      · have h := h.1 hz
        refine jLf.bk hc 2 [] [some (.int p1)] [.int 27, .int p1] S rfl rfl rfl trivial ?_
        refine jLf.two hc _ rfl (gs := []) (p1 := ¬ p1 = 27) (p2 := ¬ (¬ p1 = 27)) (c1 := (20, [some (.int p1)], [], S, 0, 0)) (c2 := (18, [some (.int p1)], [], S, 0, 0)) rfl trivial (fun hz => ?_) (fun hz => ?_)
        · have h := h.1 hz
          refine jLf.bk hc 2 [] [some (.int p1)] [.int 24, .int p1] S rfl rfl rfl trivial ?_
          refine jLf.two hc _ rfl (gs := []) (p1 := p1 < 24) (p2 := ¬ (p1 < 24)) (c1 := (25, [some (.int p1)], [], S, 0, 0)) (c2 := (23, [some (.int p1)], [], S, 0, 0)) rfl trivial (fun hz => ?_) (fun hz => ?_)
          · have h := h.1 hz
            refine jLf.bk hc 2 [] [some (.int p1)] [.int 22, .int p1] S rfl rfl rfl trivial ?_
            refine jLf.two hc _ rfl (gs := []) (p1 := p1 < 22) (p2 := ¬ (p1 < 22)) (c1 := (30, [some (.int p1)], [], S, 0, 0)) (c2 := (28, [some (.int p1)], [], S, 0, 0)) rfl trivial (fun hz => ?_) (fun hz => ?_)
            · have h := h.1 hz
              refine jLf.bk hc 1 [] [some (.int p1)] [.int 5] S rfl rfl rfl trivial ?_
              exact jLf.ret hc _ rfl (gs := [True]) (v := some (.int 5)) rfl trivial ⟨5, rfl, h⟩
            · have h := h.2 hz
              refine jLf.bk hc 1 [] [some (.int p1)] [.int 6] S rfl rfl rfl trivial ?_
              refine jLf.one hc _ rfl (gs := []) (c := (31, [some (.int p1)], [.int 6], S, 0, 0)) rfl trivial ?_
              exact jLf.ret hc _ rfl (gs := [True]) (v := some (.int 6)) rfl trivial ⟨6, rfl, h⟩
          · have h := h.2 hz
            refine jLf.bk hc 1 [] [some (.int p1)] [.int 4] S rfl rfl rfl trivial ?_
            refine jLf.one hc _ rfl (gs := []) (c := (31, [some (.int p1)], [.int 4], S, 0, 0)) rfl trivial ?_
            exact jLf.ret hc _ rfl (gs := [True]) (v := some (.int 4)) rfl trivial ⟨4, rfl, h⟩
        · have h := h.2 (Classical.not_not.mp hz)
          refine jLf.bk hc 1 [] [some (.int p1)] [.int 3] S rfl rfl rfl trivial ?_
          refine jLf.one hc _ rfl (gs := []) (c := (31, [some (.int p1)], [.int 3], S, 0, 0)) rfl trivial ?_
          exact jLf.ret hc _ rfl (gs := [True]) (v := some (.int 3)) rfl trivial ⟨3, rfl, h⟩
      · have h := h.2 (Classical.not_not.mp hz)
        refine jLf.bk hc 1 [] [some (.int p1)] [.int 2] S rfl rfl rfl trivial ?_
        refine jLf.one hc _ rfl (gs := []) (c := (31, [some (.int p1)], [.int 2], S, 0, 0)) rfl trivial ?_
        exact jLf.ret hc _ rfl (gs := [True]) (v := some (.int 2)) rfl trivial ⟨2, rfl, h⟩
    · have h := h.2 (Classical.not_not.mp hz)
      refine jLf.bk hc 1 [] [some (.int p1)] [.int 1] S rfl rfl rfl trivial ?_
      refine jLf.one hc _ rfl (gs := []) (c := (31, [some (.int p1)], [.int 1], S, 0, 0)) rfl trivial ?_
      exact jLf.ret hc _ rfl (gs := [True]) (v := some (.int 1)) rfl trivial ⟨1, rfl, h⟩
  · have h := h.2 hz
    refine jLf.bk hc 1 [] [some (.int p1)] [.int 0] S rfl rfl rfl trivial ?_
    refine jLf.one hc _ rfl (gs := []) (c := (31, [some (.int p1)], [.int 0], S, 0, 0)) rfl trivial ?_
    exact jLf.ret hc _ rfl (gs := [True]) (v := some (.int 0)) rfl trivial ⟨0, rfl, h⟩
def wX12_settle_33  (X0 : Nat → Int32 → JS → Prop) (l0 : Nat) (l1 : Int32) (S : JS) (Q : JS → Prop) : Prop :=
  jA S l0 12 ∧ (¬ jR S l0 19 = none ∧ (¬ jR S l0 22 = none ∧ (jA S (jr S l0 22) 13 ∧ (vp_in (jI S l0 23) (jZ S (jr S l0 22)) ∧ (jA S (jr S l0 19) 13 ∧ (vp_in (jI S (jr S l0 22) (jI S l0 23).toNatClampNeg) (jZ S (jr S l0 19)) ∧ (∀ S20 : JS, S20 = uI S (jr S l0 19) (jI S (jr S l0 22) (jI S l0 23).toNatClampNeg).toNatClampNeg (jI S l0 17) → (X0 l0 l1 S20))))))))
set_option maxRecDepth 20000 in
theorem tX12_settle_33 {Q : JS → Prop} {X0 : Nat → Int32 → JS → Prop} (d : Nat) (hd : 1 ≤ d) (hX0 : ∀ l0 l1 S, X0 l0 l1 S → jLf (jCall jmt jbud d) jbud (fun j => (jmt j).rk) none mX12_settle (jqV Q) (0, [some (.ref l0), some (.int l1)], [], S, 0, 0)) {l0 : Nat} {l1 : Int32} {S : JS} (h : wX12_settle_33 X0 l0 l1 S Q) : jLf (jCall jmt jbud d) jbud (fun j => (jmt j).rk) none mX12_settle (jqV Q) (33, [some (.ref l0), some (.int l1)], [], S, 0, 0) := by
  have hc := jCall_mono jmt jbud d
  unfold wX12_settle_33 at h
  obtain ⟨g13, g14, g15, g16, g17, g18, g19, h⟩ := h
  refine jLf.bk hc 10 [jA S l0 12, ¬ jR S l0 19 = none, jA S l0 12, ¬ jR S l0 22 = none, jA S l0 12, jA S (jr S l0 22) 13, vp_in (jI S l0 23) (jZ S (jr S l0 22)), jA S l0 12, jA S (jr S l0 19) 13, vp_in (jI S (jr S l0 22) (jI S l0 23).toNatClampNeg) (jZ S (jr S l0 19))] [some (.ref l0), some (.int l1)] [] (uI S (jr S l0 19) (jI S (jr S l0 22) (jI S l0 23).toNatClampNeg).toNatClampNeg (jI S l0 17)) rfl rfl rfl ⟨g13, g14, g13, g15, g13, g16, g17, g13, g18, g19⟩ ?_
  generalize eS20 : uI S (jr S l0 19) (jI S (jr S l0 22) (jI S l0 23).toNatClampNeg).toNatClampNeg (jI S l0 17) = S20
  have h := h S20 eS20.symm
  refine jLf.one hc _ rfl (gs := []) (c := (0, [some (.ref l0), some (.int l1)], [], S20, 0, 0)) rfl trivial ?_
  exact hX0 _ _ _ h
def bX12_settle_0   (X0 : Nat → Int32 → JS → Prop) (l0 : Nat) (l1 : Int32) (S : JS) (Q : JS → Prop) : Prop :=
  jA S l0 12 ∧ (((jI S l0 23) ≤ 0 → Q S) ∧ (¬ ((jI S l0 23) ≤ 0) → ¬ jR S l0 21 = none ∧ (jA S (jr S l0 21) 13 ∧ (vp_in ((jI S l0 23) - (1 : Int32)) (jZ S (jr S l0 21)) ∧ (wX12_binds (jI S (jr S l0 21) ((jI S l0 23) - (1 : Int32)).toNatClampNeg) S (fun r6 S5 => (r6 < l1 → Q S5) ∧ (¬ (r6 < l1) → jA S5 l0 12 ∧ (∀ S8 : JS, S8 = uI S5 l0 23 ((jI S5 l0 23) - (1 : Int32)) → (jA S8 l0 12 ∧ (¬ jR S8 l0 21 = none ∧ (jA S8 (jr S8 l0 21) 13 ∧ (vp_in (jI S8 l0 23) (jZ S8 (jr S8 l0 21)) ∧ (((jI S8 (jr S8 l0 21) (jI S8 l0 23).toNatClampNeg) = 28 → wX12_settle_33 X0 l0 l1 S8 Q) ∧ (¬ (jI S8 (jr S8 l0 21) (jI S8 l0 23).toNatClampNeg) = 28 → (¬ (jI S8 (jr S8 l0 21) (jI S8 l0 23).toNatClampNeg) = 29 → wX12_emit l0 (jI S8 (jr S8 l0 21) (jI S8 l0 23).toNatClampNeg) 0 S8 (fun S21 => X0 l0 l1 S21)) ∧ ((jI S8 (jr S8 l0 21) (jI S8 l0 23).toNatClampNeg) = 29 → wX12_settle_33 X0 l0 l1 S8 Q)))))))))))))))
set_option maxRecDepth 20000 in
theorem uX12_settle_0 {Q : JS → Prop}  (d : Nat) (hd : 1 ≤ d) {X0 : Nat → Int32 → JS → Prop} (hX0 : ∀ l0 l1 S, X0 l0 l1 S → jLf (jCall jmt jbud d) jbud (fun j => (jmt j).rk) none mX12_settle (jqV Q) (0, [some (.ref l0), some (.int l1)], [], S, 0, 0)) {l0 : Nat} {l1 : Int32} {S : JS} (h : bX12_settle_0 X0 l0 l1 S Q) : jLf (jCall jmt jbud d) jbud (fun j => (jmt j).rk) none mX12_settle (jqV Q) (0, [some (.ref l0), some (.int l1)], [], S, 0, 0) := by
  have hc := jCall_mono jmt jbud d
  unfold bX12_settle_0 at h
  obtain ⟨g1, h⟩ := h
  refine jLf.bk hc 2 [jA S l0 12] [some (.ref l0), some (.int l1)] [.int (jI S l0 23)] S rfl rfl rfl g1 ?_
  refine jLf.two hc _ rfl (gs := []) (p1 := (jI S l0 23) ≤ 0) (p2 := ¬ ((jI S l0 23) ≤ 0)) (c1 := (53, [some (.ref l0), some (.int l1)], [], S, 0, 0)) (c2 := (3, [some (.ref l0), some (.int l1)], [], S, 0, 0)) rfl trivial (fun hz => ?_) (fun hz => ?_)
  · have h := h.1 hz
    exact jLf.ret hc _ rfl (gs := [jrt none none]) (v := none) rfl trivial ⟨rfl, h⟩
  · have h := h.2 hz
    obtain ⟨g2, g3, g4, h⟩ := h
    refine jLf.bk hc 7 [jA S l0 12, ¬ jR S l0 21 = none, jA S l0 12, jA S (jr S l0 21) 13, vp_in ((jI S l0 23) - (1 : Int32)) (jZ S (jr S l0 21))] [some (.ref l0), some (.int l1)] [.int (jI S (jr S l0 21) ((jI S l0 23) - (1 : Int32)).toNatClampNeg)] S rfl rfl rfl ⟨g1, g2, g1, g3, g4⟩ ?_
    refine jLf.inv hc _ rfl (gs := [1 ≤ ([.int (jI S (jr S l0 21) ((jI S l0 23) - (1 : Int32)).toNatClampNeg)] : List Value).length, (([] : List Value).map fun v => v.category).sum ≤ 8, 0 ≤ 0, 0 ≤ 0]) (k := 176) (args := [.int (jI S (jr S l0 21) ((jI S l0 23) - (1 : Int32)).toNatClampNeg)]) (r := []) (a := 0) (b := 0) rfl ⟨Nat.le_of_ble_eq_true rfl, Nat.le_of_ble_eq_true rfl, Nat.zero_le _, Nat.zero_le _⟩ (vX12_binds d (by omega) h) ?_
    rintro v S5 ⟨r6, rfl, h⟩
    show jLf (jCall jmt jbud d) jbud (fun j => (jmt j).rk) none mX12_settle (jqV Q) (11, [some (.ref l0), some (.int l1)], [.int r6], S5, 0, 0)
    refine jLf.bk hc 1 [] [some (.ref l0), some (.int l1)] [.int l1, .int r6] S5 rfl rfl rfl trivial ?_
    refine jLf.two hc _ rfl (gs := []) (p1 := r6 < l1) (p2 := ¬ (r6 < l1)) (c1 := (53, [some (.ref l0), some (.int l1)], [], S5, 0, 0)) (c2 := (13, [some (.ref l0), some (.int l1)], [], S5, 0, 0)) rfl trivial (fun hz => ?_) (fun hz => ?_)
    · have h := h.1 hz
      exact jLf.ret hc _ rfl (gs := [jrt none none]) (v := none) rfl trivial ⟨rfl, h⟩
    · have h := h.2 hz
      obtain ⟨g7, h⟩ := h
      refine jLf.bk hc 6 [(.ref l0 : Value).category = 1, jA S5 l0 12, jA S5 l0 12] [some (.ref l0), some (.int l1)] [] (uI S5 l0 23 ((jI S5 l0 23) - (1 : Int32))) rfl rfl rfl ⟨rfl, g7, g7⟩ ?_
      generalize eS8 : uI S5 l0 23 ((jI S5 l0 23) - (1 : Int32)) = S8
      have h := h S8 eS8.symm
      obtain ⟨g9, g10, g11, g12, h⟩ := h
      refine jLf.bk hc 6 [jA S8 l0 12, ¬ jR S8 l0 21 = none, jA S8 l0 12, jA S8 (jr S8 l0 21) 13, vp_in (jI S8 l0 23) (jZ S8 (jr S8 l0 21))] [some (.ref l0), some (.int l1)] [.int 28, .int (jI S8 (jr S8 l0 21) (jI S8 l0 23).toNatClampNeg)] S8 rfl rfl rfl ⟨g9, g10, g9, g11, g12⟩ ?_
      refine jLf.two hc _ rfl (gs := []) (p1 := (jI S8 (jr S8 l0 21) (jI S8 l0 23).toNatClampNeg) = 28) (p2 := ¬ ((jI S8 (jr S8 l0 21) (jI S8 l0 23).toNatClampNeg) = 28)) (c1 := (33, [some (.ref l0), some (.int l1)], [], S8, 0, 0)) (c2 := (26, [some (.ref l0), some (.int l1)], [], S8, 0, 0)) rfl trivial (fun hz => ?_) (fun hz => ?_)
      · have h := h.1 hz
        exact tX12_settle_33 d hd hX0 h
      · have h := h.2 hz
        refine jLf.bk hc 6 [jA S8 l0 12, ¬ jR S8 l0 21 = none, jA S8 l0 12, jA S8 (jr S8 l0 21) 13, vp_in (jI S8 l0 23) (jZ S8 (jr S8 l0 21))] [some (.ref l0), some (.int l1)] [.int 29, .int (jI S8 (jr S8 l0 21) (jI S8 l0 23).toNatClampNeg)] S8 rfl rfl rfl ⟨g9, g10, g9, g11, g12⟩ ?_
        refine jLf.two hc _ rfl (gs := []) (p1 := ¬ (jI S8 (jr S8 l0 21) (jI S8 l0 23).toNatClampNeg) = 29) (p2 := ¬ (¬ (jI S8 (jr S8 l0 21) (jI S8 l0 23).toNatClampNeg) = 29)) (c1 := (44, [some (.ref l0), some (.int l1)], [], S8, 0, 0)) (c2 := (33, [some (.ref l0), some (.int l1)], [], S8, 0, 0)) rfl trivial (fun hz => ?_) (fun hz => ?_)
        · have h := h.1 hz
          refine jLf.bk hc 7 [jA S8 l0 12, ¬ jR S8 l0 21 = none, jA S8 l0 12, jA S8 (jr S8 l0 21) 13, vp_in (jI S8 l0 23) (jZ S8 (jr S8 l0 21))] [some (.ref l0), some (.int l1)] [.int 0, .int (jI S8 (jr S8 l0 21) (jI S8 l0 23).toNatClampNeg), .ref l0] S8 rfl rfl rfl ⟨g9, g10, g9, g11, g12⟩ ?_
          refine jLf.inv hc _ rfl (gs := [jA S8 l0 12, (([] : List Value).map fun v => v.category).sum ≤ 8, 0 ≤ 0, 0 ≤ 0]) (k := 174) (args := [.ref l0, .int (jI S8 (jr S8 l0 21) (jI S8 l0 23).toNatClampNeg), .int 0]) (r := []) (a := 0) (b := 0) rfl ⟨g9, Nat.le_of_ble_eq_true rfl, Nat.zero_le _, Nat.zero_le _⟩ (vX12_emit d (by omega) h) ?_
          rintro v S21 ⟨rfl, h⟩
          show jLf (jCall jmt jbud d) jbud (fun j => (jmt j).rk) none mX12_settle (jqV Q) (52, [some (.ref l0), some (.int l1)], [], S21, 0, 0)
          refine jLf.one hc _ rfl (gs := []) (c := (0, [some (.ref l0), some (.int l1)], [], S21, 0, 0)) rfl trivial ?_
          exact hX0 _ _ _ h
        · have h := h.2 (Classical.not_not.mp hz)
          exact tX12_settle_33 d hd hX0 h
def wX12_settle_0   (l0 : Nat) (l1 : Int32) (S : JS) (Q : JS → Prop) : Prop :=
  jLoop (fun (X0 : Nat × Int32 × JS → Prop) q => bX12_settle_0 (fun l0 l1 S => X0 (l0, l1, S)) q.1 q.2.1 q.2.2 Q) (l0, l1, S)
set_option maxRecDepth 20000 in
theorem tX12_settle_0 {Q : JS → Prop}  (d : Nat) (hd : 1 ≤ d) {l0 : Nat} {l1 : Int32} {S : JS} (h : wX12_settle_0 l0 l1 S Q) : jLf (jCall jmt jbud d) jbud (fun j => (jmt j).rk) none mX12_settle (jqV Q) (0, [some (.ref l0), some (.int l1)], [], S, 0, 0) := by
  have := h (fun q : Nat × Int32 × JS => jLf (jCall jmt jbud d) jbud (fun j => (jmt j).rk) none mX12_settle (jqV Q) (0, [some (.ref (q.1)), some (.int (q.2.1))], [], q.2.2, 0, 0)) (fun q R hb hR => uX12_settle_0 d hd  (fun _ _ _ => hR _) hb)
  exact this
def wX12_settle  (this : Nat) (p1 : Int32) (S : JS) (Q : JS → Prop) : Prop :=
  wX12_settle_0 this p1 S Q
set_option maxRecDepth 20000 in
theorem vX12_settle {Q : JS → Prop} (d : Nat) (hd : 2 ≤ d) {this : Nat} {p1 : Int32} {S : JS} (h : wX12_settle this p1 S Q) : jCall jmt jbud d 177 [.ref this, .int p1] S (jqV Q) := by
  obtain ⟨d, rfl⟩ : ∃ d2, d = d2 + 1 := ⟨d - 1, by omega⟩
  have hd : 1 ≤ d := by omega
  have hc := jCall_mono jmt jbud d
  unfold wX12_settle at h
  refine ⟨Nat.le_of_ble_eq_true rfl, ?_⟩
  show jLf (jCall jmt jbud d) jbud (fun j => (jmt j).rk) none mX12_settle (jqV Q) (0, [some (.ref this), some (.int p1)], [], S, 0, 0)
  exact tX12_settle_0 d hd  h
def wX12_inner_20  (X4 : Nat → Int32 → Int32 → JS → Prop) (l0 : Nat) (l2 : Int32) (s0 : Int32) (S : JS) (Q : Int32 → JS → Prop) : Prop :=
  ∀ x5 : Int32, x5 = (l2 + 1) → (X4 l0 s0 x5 S)
set_option maxRecDepth 20000 in
theorem tX12_inner_20 {Q : Int32 → JS → Prop} {X4 : Nat → Int32 → Int32 → JS → Prop} (d : Nat) (hd : 0 ≤ d) (hX4 : ∀ l0 l1 l2 S, X4 l0 l1 l2 S → jLf (jCall jmt jbud d) jbud (fun j => (jmt j).rk) none mX12_inner (jqI Q) (4, [some (.ref l0), some (.int l1), some (.int l2)], [], S, 0, 0)) {l0 : Nat} {l2 : Int32} {s0 : Int32} {S : JS} (h : wX12_inner_20 X4 l0 l2 s0 S Q) : jLf (jCall jmt jbud d) jbud (fun j => (jmt j).rk) none mX12_inner (jqI Q) (20, [some (.ref l0), none, some (.int l2)], [.int s0], S, 0, 0) := by
  have hc := jCall_mono jmt jbud d
  unfold wX12_inner_20 at h
  refine jLf.bk hc 2 [] [some (.ref l0), some (.int s0), some (.int (l2 + 1))] [] S rfl rfl rfl trivial ?_
  generalize ex5 : (l2 + 1 : Int32) = x5
  have h := h x5 ex5.symm
  refine jLf.one hc _ rfl (gs := []) (c := (4, [some (.ref l0), some (.int s0), some (.int x5)], [], S, 0, 0)) rfl trivial ?_
  exact hX4 _ _ _ _ h
def bX12_inner_4   (X4 : Nat → Int32 → Int32 → JS → Prop) (l0 : Nat) (l1 : Int32) (l2 : Int32) (S : JS) (Q : Int32 → JS → Prop) : Prop :=
  jA S l0 12 ∧ (((jI S l0 23) ≤ l2 → Q l1 S) ∧ (¬ ((jI S l0 23) ≤ l2) → ¬ jR S l0 21 = none ∧ (jA S (jr S l0 21) 13 ∧ (vp_in l2 (jZ S (jr S l0 21)) ∧ (((jI S (jr S l0 21) l2.toNatClampNeg) < 30 → wX12_inner_20 X4 l0 l2 l1 S Q) ∧ (¬ ((jI S (jr S l0 21) l2.toNatClampNeg) < 30) → wX12_inner_20 X4 l0 l2 (jI S (jr S l0 21) l2.toNatClampNeg) S Q))))))
set_option maxRecDepth 20000 in
theorem uX12_inner_4 {Q : Int32 → JS → Prop}  (d : Nat) (hd : 0 ≤ d) {X4 : Nat → Int32 → Int32 → JS → Prop} (hX4 : ∀ l0 l1 l2 S, X4 l0 l1 l2 S → jLf (jCall jmt jbud d) jbud (fun j => (jmt j).rk) none mX12_inner (jqI Q) (4, [some (.ref l0), some (.int l1), some (.int l2)], [], S, 0, 0)) {l0 : Nat} {l1 : Int32} {l2 : Int32} {S : JS} (h : bX12_inner_4 X4 l0 l1 l2 S Q) : jLf (jCall jmt jbud d) jbud (fun j => (jmt j).rk) none mX12_inner (jqI Q) (4, [some (.ref l0), some (.int l1), some (.int l2)], [], S, 0, 0) := by
  have hc := jCall_mono jmt jbud d
  unfold bX12_inner_4 at h
  obtain ⟨g1, h⟩ := h
  refine jLf.bk hc 3 [jA S l0 12] [some (.ref l0), some (.int l1), some (.int l2)] [.int (jI S l0 23), .int l2] S rfl rfl rfl g1 ?_
  refine jLf.two hc _ rfl (gs := []) (p1 := (jI S l0 23) ≤ l2) (p2 := ¬ ((jI S l0 23) ≤ l2)) (c1 := (23, [some (.ref l0), some (.int l1), some (.int l2)], [], S, 0, 0)) (c2 := (8, [some (.ref l0), some (.int l1), some (.int l2)], [], S, 0, 0)) rfl trivial (fun hz => ?_) (fun hz => ?_)
  · have h := h.1 hz
    refine jLf.bk hc 1 [] [some (.ref l0), some (.int l1), some (.int l2)] [.int l1] S rfl rfl rfl trivial ?_
    exact jLf.ret hc _ rfl (gs := [True]) (v := some (.int l1)) rfl trivial ⟨l1, rfl, h⟩
  · have h := h.2 hz
    obtain ⟨g2, g3, g4, h⟩ := h
    refine jLf.bk hc 5 [jA S l0 12, ¬ jR S l0 21 = none, jA S (jr S l0 21) 13, vp_in l2 (jZ S (jr S l0 21))] [some (.ref l0), some (.int l1), some (.int l2)] [.int 30, .int (jI S (jr S l0 21) l2.toNatClampNeg)] S rfl rfl rfl ⟨g1, g2, g3, g4⟩ ?_
    refine jLf.two hc _ rfl (gs := []) (p1 := (jI S (jr S l0 21) l2.toNatClampNeg) < 30) (p2 := ¬ ((jI S (jr S l0 21) l2.toNatClampNeg) < 30)) (c1 := (19, [some (.ref l0), some (.int l1), some (.int l2)], [], S, 0, 0)) (c2 := (14, [some (.ref l0), some (.int l1), some (.int l2)], [], S, 0, 0)) rfl trivial (fun hz => ?_) (fun hz => ?_)
    · have h := h.1 hz
      refine jLf.bk hc 1 [] [some (.ref l0), some (.int l1), some (.int l2)] [.int l1] S rfl rfl rfl trivial ?_
      refine jLf.sub [some (.ref l0), none, some (.int l2)] (jle_same (jle_none (jle_same (jle_nil _)))) ?_
      exact tX12_inner_20 d hd hX4 h
    · have h := h.2 hz
      refine jLf.bk hc 4 [jA S l0 12, ¬ jR S l0 21 = none, jA S (jr S l0 21) 13, vp_in l2 (jZ S (jr S l0 21))] [some (.ref l0), some (.int l1), some (.int l2)] [.int (jI S (jr S l0 21) l2.toNatClampNeg)] S rfl rfl rfl ⟨g1, g2, g3, g4⟩ ?_
      refine jLf.one hc _ rfl (gs := []) (c := (20, [some (.ref l0), some (.int l1), some (.int l2)], [.int (jI S (jr S l0 21) l2.toNatClampNeg)], S, 0, 0)) rfl trivial ?_
      refine jLf.sub [some (.ref l0), none, some (.int l2)] (jle_same (jle_none (jle_same (jle_nil _)))) ?_
      exact tX12_inner_20 d hd hX4 h
def wX12_inner_4   (l0 : Nat) (l1 : Int32) (l2 : Int32) (S : JS) (Q : Int32 → JS → Prop) : Prop :=
  jLoop (fun (X4 : Nat × Int32 × Int32 × JS → Prop) q => bX12_inner_4 (fun l0 l1 l2 S => X4 (l0, l1, l2, S)) q.1 q.2.1 q.2.2.1 q.2.2.2 Q) (l0, l1, l2, S)
set_option maxRecDepth 20000 in
theorem tX12_inner_4 {Q : Int32 → JS → Prop}  (d : Nat) (hd : 0 ≤ d) {l0 : Nat} {l1 : Int32} {l2 : Int32} {S : JS} (h : wX12_inner_4 l0 l1 l2 S Q) : jLf (jCall jmt jbud d) jbud (fun j => (jmt j).rk) none mX12_inner (jqI Q) (4, [some (.ref l0), some (.int l1), some (.int l2)], [], S, 0, 0) := by
  have := h (fun q : Nat × Int32 × Int32 × JS => jLf (jCall jmt jbud d) jbud (fun j => (jmt j).rk) none mX12_inner (jqI Q) (4, [some (.ref (q.1)), some (.int (q.2.1)), some (.int (q.2.2.1))], [], q.2.2.2, 0, 0)) (fun q R hb hR => uX12_inner_4 d hd  (fun _ _ _ _ => hR _) hb)
  exact this
def wX12_inner  (this : Nat) (S : JS) (Q : Int32 → JS → Prop) : Prop :=
  wX12_inner_4 this (-1) 0 S Q
set_option maxRecDepth 20000 in
theorem vX12_inner {Q : Int32 → JS → Prop} (d : Nat) (hd : 1 ≤ d) {this : Nat} {S : JS} (h : wX12_inner this S Q) : jCall jmt jbud d 178 [.ref this] S (jqI Q) := by
  obtain ⟨d, rfl⟩ : ∃ d2, d = d2 + 1 := ⟨d - 1, by omega⟩
  have hd : 0 ≤ d := by omega
  have hc := jCall_mono jmt jbud d
  unfold wX12_inner at h
  refine ⟨Nat.le_of_ble_eq_true rfl, ?_⟩
  show jLf (jCall jmt jbud d) jbud (fun j => (jmt j).rk) none mX12_inner (jqI Q) (0, [some (.ref this), none, none], [], S, 0, 0)
  refine jLf.bk hc 4 [] [some (.ref this), some (.int (-1)), some (.int 0)] [] S rfl rfl rfl trivial ?_
  exact tX12_inner_4 d hd  h
def wX12_isCompared_18   (l0 : Nat) (l1 : Int32) (S : JS) (Q : Int32 → JS → Prop) : Prop :=
  (l1 < 0 → Q 0 S) ∧ (¬ (l1 < 0) → jA S l0 12 ∧ (¬ jR S l0 21 = none ∧ (jA S (jr S l0 21) 13 ∧ (vp_in l1 (jZ S (jr S l0 21)) ∧ (wX12_in ((jI S (jr S l0 21) l1.toNatClampNeg).toInt64) 24 26 S (fun r8 S7 => (r8 = 0 → Q 0 S7) ∧ (¬ r8 = 0 → Q 1 S7)))))))
set_option maxRecDepth 20000 in
theorem tX12_isCompared_18 {Q : Int32 → JS → Prop}  (d : Nat) (hd : 1 ≤ d) {l0 : Nat} {l1 : Int32} {S : JS} (h : wX12_isCompared_18 l0 l1 S Q) : jLf (jCall jmt jbud d) jbud (fun j => (jmt j).rk) none mX12_isCompared (jqI Q) (18, [some (.ref l0), some (.int l1)], [], S, 0, 0) := by
  have hc := jCall_mono jmt jbud d
  unfold wX12_isCompared_18 at h
  refine jLf.bk hc 1 [] [some (.ref l0), some (.int l1)] [.int l1] S rfl rfl rfl trivial ?_
  refine jLf.two hc _ rfl (gs := []) (p1 := l1 < 0) (p2 := ¬ (l1 < 0)) (c1 := (31, [some (.ref l0), some (.int l1)], [], S, 0, 0)) (c2 := (20, [some (.ref l0), some (.int l1)], [], S, 0, 0)) rfl trivial (fun hz => ?_) (fun hz => ?_)
  · have h := h.1 hz
    refine jLf.bk hc 1 [] [some (.ref l0), some (.int l1)] [.int 0] S rfl rfl rfl trivial ?_
    exact jLf.ret hc _ rfl (gs := [jbit 0]) (v := some (.int 0)) rfl (Or.inl rfl) ⟨_, rfl, h⟩
  · have h := h.2 hz
    obtain ⟨g3, g4, g5, g6, h⟩ := h
    refine jLf.bk hc 7 [jA S l0 12, ¬ jR S l0 21 = none, jA S (jr S l0 21) 13, vp_in l1 (jZ S (jr S l0 21))] [some (.ref l0), some (.int l1)] [.long 26, .long 24, .long ((jI S (jr S l0 21) l1.toNatClampNeg).toInt64)] S rfl rfl rfl ⟨g3, g4, g5, g6⟩ ?_
    refine jLf.inv hc _ rfl (gs := [3 ≤ ([.long 26, .long 24, .long ((jI S (jr S l0 21) l1.toNatClampNeg).toInt64)] : List Value).length, (([] : List Value).map fun v => v.category).sum ≤ 8, 0 ≤ 0, 0 ≤ 0]) (k := 148) (args := [.long ((jI S (jr S l0 21) l1.toNatClampNeg).toInt64), .long 24, .long 26]) (r := []) (a := 0) (b := 0) rfl ⟨Nat.le_of_ble_eq_true rfl, Nat.le_of_ble_eq_true rfl, Nat.zero_le _, Nat.zero_le _⟩ (vX12_in d (by omega) h) ?_
    rintro v S7 ⟨r8, rfl, h⟩
    show jLf (jCall jmt jbud d) jbud (fun j => (jmt j).rk) none mX12_isCompared (jqI Q) (28, [some (.ref l0), some (.int l1)], [.int r8], S7, 0, 0)
    refine jLf.two hc _ rfl (gs := []) (p1 := r8 = 0) (p2 := ¬ (r8 = 0)) (c1 := (31, [some (.ref l0), some (.int l1)], [], S7, 0, 0)) (c2 := (29, [some (.ref l0), some (.int l1)], [], S7, 0, 0)) rfl trivial (fun hz => ?_) (fun hz => ?_)
    · have h := h.1 hz
      refine jLf.bk hc 1 [] [some (.ref l0), some (.int l1)] [.int 0] S7 rfl rfl rfl trivial ?_
      exact jLf.ret hc _ rfl (gs := [jbit 0]) (v := some (.int 0)) rfl (Or.inl rfl) ⟨_, rfl, h⟩
    · have h := h.2 hz
      refine jLf.bk hc 1 [] [some (.ref l0), some (.int l1)] [.int 1] S7 rfl rfl rfl trivial ?_
      refine jLf.one hc _ rfl (gs := []) (c := (32, [some (.ref l0), some (.int l1)], [.int 1], S7, 0, 0)) rfl trivial ?_
      exact jLf.ret hc _ rfl (gs := [jbit 1]) (v := some (.int 1)) rfl (Or.inr rfl) ⟨_, rfl, h⟩
def bX12_isCompared_5   (X5 : Nat → Int32 → JS → Prop) (l0 : Nat) (l1 : Int32) (S : JS) (Q : Int32 → JS → Prop) : Prop :=
  (l1 < 0 → wX12_isCompared_18 l0 l1 S Q) ∧ (¬ (l1 < 0) → jA S l0 12 ∧ (¬ jR S l0 21 = none ∧ (jA S (jr S l0 21) 13 ∧ (vp_in l1 (jZ S (jr S l0 21)) ∧ (wX12_in ((jI S (jr S l0 21) l1.toNatClampNeg).toInt64) 20 23 S (fun r14 S13 => (r14 = 0 → wX12_isCompared_18 l0 l1 S13 Q) ∧ (¬ r14 = 0 → ∀ x15 : Int32, x15 = (l1 + (-1)) → (X5 l0 x15 S13))))))))
set_option maxRecDepth 20000 in
theorem uX12_isCompared_5 {Q : Int32 → JS → Prop}  (d : Nat) (hd : 1 ≤ d) {X5 : Nat → Int32 → JS → Prop} (hX5 : ∀ l0 l1 S, X5 l0 l1 S → jLf (jCall jmt jbud d) jbud (fun j => (jmt j).rk) none mX12_isCompared (jqI Q) (5, [some (.ref l0), some (.int l1)], [], S, 0, 0)) {l0 : Nat} {l1 : Int32} {S : JS} (h : bX12_isCompared_5 X5 l0 l1 S Q) : jLf (jCall jmt jbud d) jbud (fun j => (jmt j).rk) none mX12_isCompared (jqI Q) (5, [some (.ref l0), some (.int l1)], [], S, 0, 0) := by
  have hc := jCall_mono jmt jbud d
  unfold bX12_isCompared_5 at h
  refine jLf.bk hc 1 [] [some (.ref l0), some (.int l1)] [.int l1] S rfl rfl rfl trivial ?_
  refine jLf.two hc _ rfl (gs := []) (p1 := l1 < 0) (p2 := ¬ (l1 < 0)) (c1 := (18, [some (.ref l0), some (.int l1)], [], S, 0, 0)) (c2 := (7, [some (.ref l0), some (.int l1)], [], S, 0, 0)) rfl trivial (fun hz => ?_) (fun hz => ?_)
  · have h := h.1 hz
    exact tX12_isCompared_18 d hd  h
  · have h := h.2 hz
    obtain ⟨g9, g10, g11, g12, h⟩ := h
    refine jLf.bk hc 7 [jA S l0 12, ¬ jR S l0 21 = none, jA S (jr S l0 21) 13, vp_in l1 (jZ S (jr S l0 21))] [some (.ref l0), some (.int l1)] [.long 23, .long 20, .long ((jI S (jr S l0 21) l1.toNatClampNeg).toInt64)] S rfl rfl rfl ⟨g9, g10, g11, g12⟩ ?_
    refine jLf.inv hc _ rfl (gs := [3 ≤ ([.long 23, .long 20, .long ((jI S (jr S l0 21) l1.toNatClampNeg).toInt64)] : List Value).length, (([] : List Value).map fun v => v.category).sum ≤ 8, 0 ≤ 0, 0 ≤ 0]) (k := 148) (args := [.long ((jI S (jr S l0 21) l1.toNatClampNeg).toInt64), .long 20, .long 23]) (r := []) (a := 0) (b := 0) rfl ⟨Nat.le_of_ble_eq_true rfl, Nat.le_of_ble_eq_true rfl, Nat.zero_le _, Nat.zero_le _⟩ (vX12_in d (by omega) h) ?_
    rintro v S13 ⟨r14, rfl, h⟩
    show jLf (jCall jmt jbud d) jbud (fun j => (jmt j).rk) none mX12_isCompared (jqI Q) (15, [some (.ref l0), some (.int l1)], [.int r14], S13, 0, 0)
    refine jLf.two hc _ rfl (gs := []) (p1 := r14 = 0) (p2 := ¬ (r14 = 0)) (c1 := (18, [some (.ref l0), some (.int l1)], [], S13, 0, 0)) (c2 := (16, [some (.ref l0), some (.int l1)], [], S13, 0, 0)) rfl trivial (fun hz => ?_) (fun hz => ?_)
    · have h := h.1 hz
      exact tX12_isCompared_18 d hd  h
    · have h := h.2 hz
      refine jLf.bk hc 1 [] [some (.ref l0), some (.int (l1 + (-1)))] [] S13 rfl rfl rfl trivial ?_
      generalize ex15 : (l1 + (-1) : Int32) = x15
      have h := h x15 ex15.symm
      refine jLf.one hc _ rfl (gs := []) (c := (5, [some (.ref l0), some (.int x15)], [], S13, 0, 0)) rfl trivial ?_
      exact hX5 _ _ _ h
def wX12_isCompared_5   (l0 : Nat) (l1 : Int32) (S : JS) (Q : Int32 → JS → Prop) : Prop :=
  jLoop (fun (X5 : Nat × Int32 × JS → Prop) q => bX12_isCompared_5 (fun l0 l1 S => X5 (l0, l1, S)) q.1 q.2.1 q.2.2 Q) (l0, l1, S)
set_option maxRecDepth 20000 in
theorem tX12_isCompared_5 {Q : Int32 → JS → Prop}  (d : Nat) (hd : 1 ≤ d) {l0 : Nat} {l1 : Int32} {S : JS} (h : wX12_isCompared_5 l0 l1 S Q) : jLf (jCall jmt jbud d) jbud (fun j => (jmt j).rk) none mX12_isCompared (jqI Q) (5, [some (.ref l0), some (.int l1)], [], S, 0, 0) := by
  have := h (fun q : Nat × Int32 × JS => jLf (jCall jmt jbud d) jbud (fun j => (jmt j).rk) none mX12_isCompared (jqI Q) (5, [some (.ref (q.1)), some (.int (q.2.1))], [], q.2.2, 0, 0)) (fun q R hb hR => uX12_isCompared_5 d hd  (fun _ _ _ => hR _) hb)
  exact this
def wX12_isCompared  (this : Nat) (S : JS) (Q : Int32 → JS → Prop) : Prop :=
  jA S this 12 ∧ (∀ x2 : Int32, x2 = ((jI S this 23) - (1 : Int32)) → (wX12_isCompared_5 this x2 S Q))
set_option maxRecDepth 20000 in
theorem vX12_isCompared {Q : Int32 → JS → Prop} (d : Nat) (hd : 2 ≤ d) {this : Nat} {S : JS} (h : wX12_isCompared this S Q) : jCall jmt jbud d 179 [.ref this] S (jqI Q) := by
  obtain ⟨d, rfl⟩ : ∃ d2, d = d2 + 1 := ⟨d - 1, by omega⟩
  have hd : 1 ≤ d := by omega
  have hc := jCall_mono jmt jbud d
  unfold wX12_isCompared at h
  refine ⟨Nat.le_of_ble_eq_true rfl, ?_⟩
  show jLf (jCall jmt jbud d) jbud (fun j => (jmt j).rk) none mX12_isCompared (jqI Q) (0, [some (.ref this), none], [], S, 0, 0)
  obtain ⟨g1, h⟩ := h
  refine jLf.bk hc 5 [jA S this 12] [some (.ref this), some (.int ((jI S this 23) - (1 : Int32)))] [] S rfl rfl rfl g1 ?_
  generalize ex2 : ((jI S this 23) - (1 : Int32) : Int32) = x2
  have h := h x2 ex2.symm
  exact tX12_isCompared_5 d hd  h
def wX12_partAt_19  (X4 : Nat → Int32 → Int32 → JS → Prop) (l0 : Nat) (l2 : Int32) (s0 : Int32) (S : JS) (Q : Int32 → JS → Prop) : Prop :=
  ∀ x7 : Int32, x7 = (l2 + 1) → (X4 l0 s0 x7 S)
set_option maxRecDepth 20000 in
theorem tX12_partAt_19 {Q : Int32 → JS → Prop} {X4 : Nat → Int32 → Int32 → JS → Prop} (d : Nat) (hd : 1 ≤ d) (hX4 : ∀ l0 l1 l2 S, X4 l0 l1 l2 S → jLf (jCall jmt jbud d) jbud (fun j => (jmt j).rk) none mX12_partAt (jqI Q) (4, [some (.ref l0), some (.int l1), some (.int l2)], [], S, 0, 0)) {l0 : Nat} {l2 : Int32} {s0 : Int32} {S : JS} (h : wX12_partAt_19 X4 l0 l2 s0 S Q) : jLf (jCall jmt jbud d) jbud (fun j => (jmt j).rk) none mX12_partAt (jqI Q) (19, [some (.ref l0), none, some (.int l2)], [.int s0], S, 0, 0) := by
  have hc := jCall_mono jmt jbud d
  unfold wX12_partAt_19 at h
  refine jLf.bk hc 2 [] [some (.ref l0), some (.int s0), some (.int (l2 + 1))] [] S rfl rfl rfl trivial ?_
  generalize ex7 : (l2 + 1 : Int32) = x7
  have h := h x7 ex7.symm
  refine jLf.one hc _ rfl (gs := []) (c := (4, [some (.ref l0), some (.int s0), some (.int x7)], [], S, 0, 0)) rfl trivial ?_
  exact hX4 _ _ _ _ h
def bX12_partAt_4   (X4 : Nat → Int32 → Int32 → JS → Prop) (l0 : Nat) (l1 : Int32) (l2 : Int32) (S : JS) (Q : Int32 → JS → Prop) : Prop :=
  (6 ≤ l2 → Q l1 S) ∧ (¬ (6 ≤ l2) → jA S l0 12 ∧ (¬ jR S l0 25 = none ∧ (jA S (jr S l0 25) 14 ∧ (vp_in l2 (jZ S (jr S l0 25)) ∧ (wX12_isWord l0 (jJ S (jr S l0 25) l2.toNatClampNeg) S (fun r6 S5 => (r6 = 0 → wX12_partAt_19 X4 l0 l2 l1 S5 Q) ∧ (¬ r6 = 0 → wX12_partAt_19 X4 l0 l2 (l2 + (1 : Int32)) S5 Q)))))))
set_option maxRecDepth 20000 in
theorem uX12_partAt_4 {Q : Int32 → JS → Prop}  (d : Nat) (hd : 1 ≤ d) {X4 : Nat → Int32 → Int32 → JS → Prop} (hX4 : ∀ l0 l1 l2 S, X4 l0 l1 l2 S → jLf (jCall jmt jbud d) jbud (fun j => (jmt j).rk) none mX12_partAt (jqI Q) (4, [some (.ref l0), some (.int l1), some (.int l2)], [], S, 0, 0)) {l0 : Nat} {l1 : Int32} {l2 : Int32} {S : JS} (h : bX12_partAt_4 X4 l0 l1 l2 S Q) : jLf (jCall jmt jbud d) jbud (fun j => (jmt j).rk) none mX12_partAt (jqI Q) (4, [some (.ref l0), some (.int l1), some (.int l2)], [], S, 0, 0) := by
  have hc := jCall_mono jmt jbud d
  unfold bX12_partAt_4 at h
  refine jLf.bk hc 2 [] [some (.ref l0), some (.int l1), some (.int l2)] [.int 6, .int l2] S rfl rfl rfl trivial ?_
  refine jLf.two hc _ rfl (gs := []) (p1 := 6 ≤ l2) (p2 := ¬ (6 ≤ l2)) (c1 := (22, [some (.ref l0), some (.int l1), some (.int l2)], [], S, 0, 0)) (c2 := (7, [some (.ref l0), some (.int l1), some (.int l2)], [], S, 0, 0)) rfl trivial (fun hz => ?_) (fun hz => ?_)
  · have h := h.1 hz
    refine jLf.bk hc 1 [] [some (.ref l0), some (.int l1), some (.int l2)] [.int l1] S rfl rfl rfl trivial ?_
    exact jLf.ret hc _ rfl (gs := [True]) (v := some (.int l1)) rfl trivial ⟨l1, rfl, h⟩
  · have h := h.2 hz
    obtain ⟨g1, g2, g3, g4, h⟩ := h
    refine jLf.bk hc 5 [jA S l0 12, ¬ jR S l0 25 = none, jA S (jr S l0 25) 14, vp_in l2 (jZ S (jr S l0 25))] [some (.ref l0), some (.int l1), some (.int l2)] [.long (jJ S (jr S l0 25) l2.toNatClampNeg), .ref l0] S rfl rfl rfl ⟨g1, g2, g3, g4⟩ ?_
    refine jLf.inv hc _ rfl (gs := [jA S l0 12, (([] : List Value).map fun v => v.category).sum ≤ 8, 0 ≤ 0, 0 ≤ 0]) (k := 170) (args := [.ref l0, .long (jJ S (jr S l0 25) l2.toNatClampNeg)]) (r := []) (a := 0) (b := 0) rfl ⟨g1, Nat.le_of_ble_eq_true rfl, Nat.zero_le _, Nat.zero_le _⟩ (vX12_isWord d (by omega) h) ?_
    rintro v S5 ⟨r6, rfl, h⟩
    show jLf (jCall jmt jbud d) jbud (fun j => (jmt j).rk) none mX12_partAt (jqI Q) (13, [some (.ref l0), some (.int l1), some (.int l2)], [.int r6], S5, 0, 0)
    refine jLf.two hc _ rfl (gs := []) (p1 := r6 = 0) (p2 := ¬ (r6 = 0)) (c1 := (18, [some (.ref l0), some (.int l1), some (.int l2)], [], S5, 0, 0)) (c2 := (14, [some (.ref l0), some (.int l1), some (.int l2)], [], S5, 0, 0)) rfl trivial (fun hz => ?_) (fun hz => ?_)
    · have h := h.1 hz
      refine jLf.bk hc 1 [] [some (.ref l0), some (.int l1), some (.int l2)] [.int l1] S5 rfl rfl rfl trivial ?_
      refine jLf.sub [some (.ref l0), none, some (.int l2)] (jle_same (jle_none (jle_same (jle_nil _)))) ?_
      exact tX12_partAt_19 d hd hX4 h
    · have h := h.2 hz
      refine jLf.bk hc 3 [] [some (.ref l0), some (.int l1), some (.int l2)] [.int (l2 + (1 : Int32))] S5 rfl rfl rfl trivial ?_
      refine jLf.one hc _ rfl (gs := []) (c := (19, [some (.ref l0), some (.int l1), some (.int l2)], [.int (l2 + (1 : Int32))], S5, 0, 0)) rfl trivial ?_
      refine jLf.sub [some (.ref l0), none, some (.int l2)] (jle_same (jle_none (jle_same (jle_nil _)))) ?_
      exact tX12_partAt_19 d hd hX4 h
def wX12_partAt_4   (l0 : Nat) (l1 : Int32) (l2 : Int32) (S : JS) (Q : Int32 → JS → Prop) : Prop :=
  jLoop (fun (X4 : Nat × Int32 × Int32 × JS → Prop) q => bX12_partAt_4 (fun l0 l1 l2 S => X4 (l0, l1, l2, S)) q.1 q.2.1 q.2.2.1 q.2.2.2 Q) (l0, l1, l2, S)
set_option maxRecDepth 20000 in
theorem tX12_partAt_4 {Q : Int32 → JS → Prop}  (d : Nat) (hd : 1 ≤ d) {l0 : Nat} {l1 : Int32} {l2 : Int32} {S : JS} (h : wX12_partAt_4 l0 l1 l2 S Q) : jLf (jCall jmt jbud d) jbud (fun j => (jmt j).rk) none mX12_partAt (jqI Q) (4, [some (.ref l0), some (.int l1), some (.int l2)], [], S, 0, 0) := by
  have := h (fun q : Nat × Int32 × Int32 × JS => jLf (jCall jmt jbud d) jbud (fun j => (jmt j).rk) none mX12_partAt (jqI Q) (4, [some (.ref (q.1)), some (.int (q.2.1)), some (.int (q.2.2.1))], [], q.2.2.2, 0, 0)) (fun q R hb hR => uX12_partAt_4 d hd  (fun _ _ _ _ => hR _) hb)
  exact this
def wX12_partAt  (this : Nat) (S : JS) (Q : Int32 → JS → Prop) : Prop :=
  wX12_partAt_4 this (-1) 0 S Q
set_option maxRecDepth 20000 in
theorem vX12_partAt {Q : Int32 → JS → Prop} (d : Nat) (hd : 2 ≤ d) {this : Nat} {S : JS} (h : wX12_partAt this S Q) : jCall jmt jbud d 180 [.ref this] S (jqI Q) := by
  obtain ⟨d, rfl⟩ : ∃ d2, d = d2 + 1 := ⟨d - 1, by omega⟩
  have hd : 1 ≤ d := by omega
  have hc := jCall_mono jmt jbud d
  unfold wX12_partAt at h
  refine ⟨Nat.le_of_ble_eq_true rfl, ?_⟩
  show jLf (jCall jmt jbud d) jbud (fun j => (jmt j).rk) none mX12_partAt (jqI Q) (0, [some (.ref this), none, none], [], S, 0, 0)
  refine jLf.bk hc 4 [] [some (.ref this), some (.int (-1)), some (.int 0)] [] S rfl rfl rfl trivial ?_
  exact tX12_partAt_4 d hd  h
def wX12_openBracket_8   (l0 : Nat) (l1 : Int32) (s0 : Int32) (s1 : Nat) (S : JS) (Q : JS → Prop) : Prop :=
  jA S s1 12 ∧ (wX12_must s1 s0 S (fun S2 => jA S2 l0 12 ∧ ((¬ (jI S2 l0 14) = 0 → Q S2) ∧ ((jI S2 l0 14) = 0 → ∀ S6 : JS, S6 = uI S2 l0 24 ((jI S2 l0 24) + (1 : Int32)) → (jA S6 l0 12 ∧ (wX12_push l0 l1 0 S6 (fun S7 => Q S7)))))))
set_option maxRecDepth 20000 in
theorem tX12_openBracket_8 {Q : JS → Prop}  (d : Nat) (hd : 3 ≤ d) {l0 : Nat} {l1 : Int32} {s0 : Int32} {s1 : Nat} {S : JS} (h : wX12_openBracket_8 l0 l1 s0 s1 S Q) : jLf (jCall jmt jbud d) jbud (fun j => (jmt j).rk) none mX12_openBracket (jqV Q) (8, [some (.ref l0), some (.int l1)], [.int s0, .ref s1], S, 0, 0) := by
  have hc := jCall_mono jmt jbud d
  unfold wX12_openBracket_8 at h
  obtain ⟨g4, h⟩ := h
  refine jLf.inv hc _ rfl (gs := [jA S s1 12, (([] : List Value).map fun v => v.category).sum ≤ 8, 0 ≤ 0, 0 ≤ 0]) (k := 172) (args := [.ref s1, .int s0]) (r := []) (a := 0) (b := 0) rfl ⟨g4, Nat.le_of_ble_eq_true rfl, Nat.zero_le _, Nat.zero_le _⟩ (vX12_must d (by omega) h) ?_
  rintro v S2 ⟨rfl, h⟩
  show jLf (jCall jmt jbud d) jbud (fun j => (jmt j).rk) none mX12_openBracket (jqV Q) (9, [some (.ref l0), some (.int l1)], [], S2, 0, 0)
  obtain ⟨g5, h⟩ := h
  refine jLf.bk hc 2 [jA S2 l0 12] [some (.ref l0), some (.int l1)] [.int (jI S2 l0 14)] S2 rfl rfl rfl g5 ?_
  refine jLf.two hc _ rfl (gs := []) (p1 := ¬ (jI S2 l0 14) = 0) (p2 := ¬ (¬ (jI S2 l0 14) = 0)) (c1 := (22, [some (.ref l0), some (.int l1)], [], S2, 0, 0)) (c2 := (12, [some (.ref l0), some (.int l1)], [], S2, 0, 0)) rfl trivial (fun hz => ?_) (fun hz => ?_)
  · have h := h.1 hz
    exact jLf.ret hc _ rfl (gs := [jrt none none]) (v := none) rfl trivial ⟨rfl, h⟩
  · have h := h.2 (Classical.not_not.mp hz)
    refine jLf.bk hc 6 [(.ref l0 : Value).category = 1, jA S2 l0 12, jA S2 l0 12] [some (.ref l0), some (.int l1)] [] (uI S2 l0 24 ((jI S2 l0 24) + (1 : Int32))) rfl rfl rfl ⟨rfl, g5, g5⟩ ?_
    generalize eS6 : uI S2 l0 24 ((jI S2 l0 24) + (1 : Int32)) = S6
    have h := h S6 eS6.symm
    refine jLf.bk hc 3 [] [some (.ref l0), some (.int l1)] [.int 0, .int l1, .ref l0] S6 rfl rfl rfl trivial ?_
    obtain ⟨g9, h⟩ := h
    refine jLf.inv hc _ rfl (gs := [jA S6 l0 12, (([] : List Value).map fun v => v.category).sum ≤ 8, 0 ≤ 0, 0 ≤ 0]) (k := 175) (args := [.ref l0, .int l1, .int 0]) (r := []) (a := 0) (b := 0) rfl ⟨g9, Nat.le_of_ble_eq_true rfl, Nat.zero_le _, Nat.zero_le _⟩ (vX12_push d (by omega) h) ?_
    rintro v S7 ⟨rfl, h⟩
    show jLf (jCall jmt jbud d) jbud (fun j => (jmt j).rk) none mX12_openBracket (jqV Q) (22, [some (.ref l0), some (.int l1)], [], S7, 0, 0)
    exact jLf.ret hc _ rfl (gs := [jrt none none]) (v := none) rfl trivial ⟨rfl, h⟩
def wX12_openBracket  (this : Nat) (p1 : Int32) (S : JS) (Q : JS → Prop) : Prop :=
  jA S this 12 ∧ ((8 ≤ (jI S this 24) → wX12_openBracket_8 this p1 0 this S Q) ∧ (¬ (8 ≤ (jI S this 24)) → wX12_openBracket_8 this p1 1 this S Q))
set_option maxRecDepth 20000 in
theorem vX12_openBracket {Q : JS → Prop} (d : Nat) (hd : 4 ≤ d) {this : Nat} {p1 : Int32} {S : JS} (h : wX12_openBracket this p1 S Q) : jCall jmt jbud d 181 [.ref this, .int p1] S (jqV Q) := by
  obtain ⟨d, rfl⟩ : ∃ d2, d = d2 + 1 := ⟨d - 1, by omega⟩
  have hd : 3 ≤ d := by omega
  have hc := jCall_mono jmt jbud d
  unfold wX12_openBracket at h
  refine ⟨Nat.le_of_ble_eq_true rfl, ?_⟩
  show jLf (jCall jmt jbud d) jbud (fun j => (jmt j).rk) none mX12_openBracket (jqV Q) (0, [some (.ref this), some (.int p1)], [], S, 0, 0)
  obtain ⟨g1, h⟩ := h
  refine jLf.bk hc 4 [jA S this 12] [some (.ref this), some (.int p1)] [.int 8, .int (jI S this 24), .ref this] S rfl rfl rfl g1 ?_
  refine jLf.two hc _ rfl (gs := []) (p1 := 8 ≤ (jI S this 24)) (p2 := ¬ (8 ≤ (jI S this 24))) (c1 := (7, [some (.ref this), some (.int p1)], [.ref this], S, 0, 0)) (c2 := (5, [some (.ref this), some (.int p1)], [.ref this], S, 0, 0)) rfl trivial (fun hz => ?_) (fun hz => ?_)
  · have h := h.1 hz
    refine jLf.bk hc 1 [] [some (.ref this), some (.int p1)] [.int 0, .ref this] S rfl rfl rfl trivial ?_
    exact tX12_openBracket_8 d hd  h
  · have h := h.2 hz
    refine jLf.bk hc 1 [] [some (.ref this), some (.int p1)] [.int 1, .ref this] S rfl rfl rfl trivial ?_
    refine jLf.one hc _ rfl (gs := []) (c := (8, [some (.ref this), some (.int p1)], [.int 1, .ref this], S, 0, 0)) rfl trivial ?_
    exact tX12_openBracket_8 d hd  h
def wX12_leaf_10   (l0 : Nat) (l2 : Int32) (l3 : Int32) (s0 : Int32) (s1 : Nat) (S : JS) (Q : JS → Prop) : Prop :=
  jA S s1 12 ∧ (wX12_must s1 s0 S (fun S1 => jA S1 l0 12 ∧ ((¬ (jI S1 l0 14) = 0 → Q S1) ∧ ((jI S1 l0 14) = 0 → wX12_emit l0 l2 l3 S1 (fun S5 => jA S5 l0 12 ∧ (∀ S8 : JS, S8 = uI S5 l0 20 ((jI S5 l0 20) + (1 : Int32)) → (Q S8)))))))
set_option maxRecDepth 20000 in
theorem tX12_leaf_10 {Q : JS → Prop}  (d : Nat) (hd : 3 ≤ d) {l0 : Nat} {l2 : Int32} {l3 : Int32} {s0 : Int32} {s1 : Nat} {S : JS} (h : wX12_leaf_10 l0 l2 l3 s0 s1 S Q) : jLf (jCall jmt jbud d) jbud (fun j => (jmt j).rk) none mX12_leaf (jqV Q) (10, [some (.ref l0), none, some (.int l2), some (.int l3)], [.int s0, .ref s1], S, 0, 0) := by
  have hc := jCall_mono jmt jbud d
  unfold wX12_leaf_10 at h
  obtain ⟨g3, h⟩ := h
  refine jLf.inv hc _ rfl (gs := [jA S s1 12, (([] : List Value).map fun v => v.category).sum ≤ 8, 0 ≤ 0, 0 ≤ 0]) (k := 172) (args := [.ref s1, .int s0]) (r := []) (a := 0) (b := 0) rfl ⟨g3, Nat.le_of_ble_eq_true rfl, Nat.zero_le _, Nat.zero_le _⟩ (vX12_must d (by omega) h) ?_
  rintro v S1 ⟨rfl, h⟩
  show jLf (jCall jmt jbud d) jbud (fun j => (jmt j).rk) none mX12_leaf (jqV Q) (11, [some (.ref l0), none, some (.int l2), some (.int l3)], [], S1, 0, 0)
  obtain ⟨g4, h⟩ := h
  refine jLf.bk hc 2 [jA S1 l0 12] [some (.ref l0), none, some (.int l2), some (.int l3)] [.int (jI S1 l0 14)] S1 rfl rfl rfl g4 ?_
  refine jLf.two hc _ rfl (gs := []) (p1 := ¬ (jI S1 l0 14) = 0) (p2 := ¬ (¬ (jI S1 l0 14) = 0)) (c1 := (24, [some (.ref l0), none, some (.int l2), some (.int l3)], [], S1, 0, 0)) (c2 := (14, [some (.ref l0), none, some (.int l2), some (.int l3)], [], S1, 0, 0)) rfl trivial (fun hz => ?_) (fun hz => ?_)
  · have h := h.1 hz
    exact jLf.ret hc _ rfl (gs := [jrt none none]) (v := none) rfl trivial ⟨rfl, h⟩
  · have h := h.2 (Classical.not_not.mp hz)
    refine jLf.bk hc 3 [] [some (.ref l0), none, some (.int l2), some (.int l3)] [.int l3, .int l2, .ref l0] S1 rfl rfl rfl trivial ?_
    refine jLf.inv hc _ rfl (gs := [jA S1 l0 12, (([] : List Value).map fun v => v.category).sum ≤ 8, 0 ≤ 0, 0 ≤ 0]) (k := 174) (args := [.ref l0, .int l2, .int l3]) (r := []) (a := 0) (b := 0) rfl ⟨g4, Nat.le_of_ble_eq_true rfl, Nat.zero_le _, Nat.zero_le _⟩ (vX12_emit d (by omega) h) ?_
    rintro v S5 ⟨rfl, h⟩
    show jLf (jCall jmt jbud d) jbud (fun j => (jmt j).rk) none mX12_leaf (jqV Q) (18, [some (.ref l0), none, some (.int l2), some (.int l3)], [], S5, 0, 0)
    obtain ⟨g7, h⟩ := h
    refine jLf.bk hc 6 [(.ref l0 : Value).category = 1, jA S5 l0 12, jA S5 l0 12] [some (.ref l0), none, some (.int l2), some (.int l3)] [] (uI S5 l0 20 ((jI S5 l0 20) + (1 : Int32))) rfl rfl rfl ⟨rfl, g7, g7⟩ ?_
    generalize eS8 : uI S5 l0 20 ((jI S5 l0 20) + (1 : Int32)) = S8
    have h := h S8 eS8.symm
    exact jLf.ret hc _ rfl (gs := [jrt none none]) (v := none) rfl trivial ⟨rfl, h⟩
def wX12_leaf_9   (l0 : Nat) (l2 : Int32) (l3 : Int32) (s0 : Nat) (S : JS) (Q : JS → Prop) : Prop :=
  wX12_leaf_10 l0 l2 l3 0 s0 S Q
set_option maxRecDepth 20000 in
theorem tX12_leaf_9 {Q : JS → Prop}  (d : Nat) (hd : 3 ≤ d) {l0 : Nat} {l2 : Int32} {l3 : Int32} {s0 : Nat} {S : JS} (h : wX12_leaf_9 l0 l2 l3 s0 S Q) : jLf (jCall jmt jbud d) jbud (fun j => (jmt j).rk) none mX12_leaf (jqV Q) (9, [some (.ref l0), none, some (.int l2), some (.int l3)], [.ref s0], S, 0, 0) := by
  have hc := jCall_mono jmt jbud d
  unfold wX12_leaf_9 at h
  refine jLf.bk hc 1 [] [some (.ref l0), none, some (.int l2), some (.int l3)] [.int 0, .ref s0] S rfl rfl rfl trivial ?_
  exact tX12_leaf_10 d hd  h
def wX12_leaf  (this : Nat) (p1 : Int32) (p2 : Int32) (p3 : Int32) (S : JS) (Q : JS → Prop) : Prop :=
  (p1 = 0 → wX12_leaf_9 this p2 p3 this S Q) ∧ (¬ p1 = 0 → jA S this 12 ∧ ((50 ≤ (jI S this 20) → wX12_leaf_9 this p2 p3 this S Q) ∧ (¬ (50 ≤ (jI S this 20)) → wX12_leaf_10 this p2 p3 1 this S Q)))
set_option maxRecDepth 20000 in
theorem vX12_leaf {Q : JS → Prop} (d : Nat) (hd : 4 ≤ d) {this : Nat} {p1 : Int32} {p2 : Int32} {p3 : Int32} {S : JS} (h : wX12_leaf this p1 p2 p3 S Q) : jCall jmt jbud d 182 [.ref this, .int p1, .int p2, .int p3] S (jqV Q) := by
  obtain ⟨d, rfl⟩ : ∃ d2, d = d2 + 1 := ⟨d - 1, by omega⟩
  have hd : 3 ≤ d := by omega
  have hc := jCall_mono jmt jbud d
  unfold wX12_leaf at h
  refine ⟨Nat.le_of_ble_eq_true rfl, ?_⟩
  show jLf (jCall jmt jbud d) jbud (fun j => (jmt j).rk) none mX12_leaf (jqV Q) (0, [some (.ref this), some (.int p1), some (.int p2), some (.int p3)], [], S, 0, 0)
  refine jLf.bk hc 2 [] [some (.ref this), some (.int p1), some (.int p2), some (.int p3)] [.int p1, .ref this] S rfl rfl rfl trivial ?_
  refine jLf.two hc _ rfl (gs := []) (p1 := p1 = 0) (p2 := ¬ (p1 = 0)) (c1 := (9, [some (.ref this), some (.int p1), some (.int p2), some (.int p3)], [.ref this], S, 0, 0)) (c2 := (3, [some (.ref this), some (.int p1), some (.int p2), some (.int p3)], [.ref this], S, 0, 0)) rfl trivial (fun hz => ?_) (fun hz => ?_)
  · have h := h.1 hz
    refine jLf.sub [some (.ref this), none, some (.int p2), some (.int p3)] (jle_same (jle_none (jle_same (jle_same (jle_nil _))))) ?_
    exact tX12_leaf_9 d hd  h
  · have h := h.2 hz
    obtain ⟨g9, h⟩ := h
    refine jLf.bk hc 3 [jA S this 12] [some (.ref this), some (.int p1), some (.int p2), some (.int p3)] [.int 50, .int (jI S this 20), .ref this] S rfl rfl rfl g9 ?_
    refine jLf.two hc _ rfl (gs := []) (p1 := 50 ≤ (jI S this 20)) (p2 := ¬ (50 ≤ (jI S this 20))) (c1 := (9, [some (.ref this), some (.int p1), some (.int p2), some (.int p3)], [.ref this], S, 0, 0)) (c2 := (7, [some (.ref this), some (.int p1), some (.int p2), some (.int p3)], [.ref this], S, 0, 0)) rfl trivial (fun hz => ?_) (fun hz => ?_)
    · have h := h.1 hz
      refine jLf.sub [some (.ref this), none, some (.int p2), some (.int p3)] (jle_same (jle_none (jle_same (jle_same (jle_nil _))))) ?_
      exact tX12_leaf_9 d hd  h
    · have h := h.2 hz
      refine jLf.bk hc 1 [] [some (.ref this), some (.int p1), some (.int p2), some (.int p3)] [.int 1, .ref this] S rfl rfl rfl trivial ?_
      refine jLf.one hc _ rfl (gs := []) (c := (10, [some (.ref this), some (.int p1), some (.int p2), some (.int p3)], [.int 1, .ref this], S, 0, 0)) rfl trivial ?_
      refine jLf.sub [some (.ref this), none, some (.int p2), some (.int p3)] (jle_same (jle_none (jle_same (jle_same (jle_nil _))))) ?_
      exact tX12_leaf_10 d hd  h
def wX12_readPart_47   (s0 : Int32) (s1 : Int32) (s2 : Int32) (s3 : Nat) (S : JS) (Q : Int32 → JS → Prop) : Prop :=
  jA S s3 12 ∧ (wX12_leaf s3 s2 s1 s0 S (fun S8 => Q 3 S8))
set_option maxRecDepth 20000 in
theorem tX12_readPart_47 {Q : Int32 → JS → Prop}  (d : Nat) (hd : 4 ≤ d) {s0 : Int32} {s1 : Int32} {s2 : Int32} {s3 : Nat} {S : JS} (h : wX12_readPart_47 s0 s1 s2 s3 S Q) : jLf (jCall jmt jbud d) jbud (fun j => (jmt j).rk) none mX12_readPart (jqI Q) (47, [none, none, none], [.int s0, .int s1, .int s2, .ref s3], S, 0, 0) := by
  have hc := jCall_mono jmt jbud d
  unfold wX12_readPart_47 at h
  obtain ⟨g10, h⟩ := h
  refine jLf.inv hc _ rfl (gs := [jA S s3 12, (([] : List Value).map fun v => v.category).sum ≤ 8, 0 ≤ 0, 0 ≤ 0]) (k := 182) (args := [.ref s3, .int s2, .int s1, .int s0]) (r := []) (a := 0) (b := 0) rfl ⟨g10, Nat.le_of_ble_eq_true rfl, Nat.zero_le _, Nat.zero_le _⟩ (vX12_leaf d (by omega) h) ?_
  rintro v S8 ⟨rfl, h⟩
  show jLf (jCall jmt jbud d) jbud (fun j => (jmt j).rk) none mX12_readPart (jqI Q) (48, [none, none, none], [], S8, 0, 0)
  refine jLf.bk hc 1 [] [none, none, none] [.int 3] S8 rfl rfl rfl trivial ?_
  exact jLf.ret hc _ rfl (gs := [True]) (v := some (.int 3)) rfl trivial ⟨3, rfl, h⟩
def wX12_readPart_40   (l0 : Nat) (l2 : Int32) (s0 : Int32) (s1 : Int32) (s2 : Nat) (S : JS) (Q : Int32 → JS → Prop) : Prop :=
  (l2 = 0 → wX12_readPart_47 0 s0 s1 s2 S Q) ∧ (¬ l2 = 0 → jA S l0 12 ∧ (wX12_readPart_47 ((jJ S l0 12).toInt32) s0 s1 s2 S Q))
set_option maxRecDepth 20000 in
theorem tX12_readPart_40 {Q : Int32 → JS → Prop}  (d : Nat) (hd : 4 ≤ d) {l0 : Nat} {l2 : Int32} {s0 : Int32} {s1 : Int32} {s2 : Nat} {S : JS} (h : wX12_readPart_40 l0 l2 s0 s1 s2 S Q) : jLf (jCall jmt jbud d) jbud (fun j => (jmt j).rk) none mX12_readPart (jqI Q) (40, [some (.ref l0), none, some (.int l2)], [.int s0, .int s1, .ref s2], S, 0, 0) := by
  have hc := jCall_mono jmt jbud d
  unfold wX12_readPart_40 at h
  refine jLf.bk hc 1 [] [some (.ref l0), none, some (.int l2)] [.int l2, .int s0, .int s1, .ref s2] S rfl rfl rfl trivial ?_
  refine jLf.two hc _ rfl (gs := []) (p1 := l2 = 0) (p2 := ¬ (l2 = 0)) (c1 := (46, [some (.ref l0), none, some (.int l2)], [.int s0, .int s1, .ref s2], S, 0, 0)) (c2 := (42, [some (.ref l0), none, some (.int l2)], [.int s0, .int s1, .ref s2], S, 0, 0)) rfl trivial (fun hz => ?_) (fun hz => ?_)
  · have h := h.1 hz
    refine jLf.bk hc 1 [] [some (.ref l0), none, some (.int l2)] [.int 0, .int s0, .int s1, .ref s2] S rfl rfl rfl trivial ?_
    refine jLf.sub [none, none, none] (jle_none (jle_same (jle_none (jle_nil _)))) ?_
    exact tX12_readPart_47 d hd  h
  · have h := h.2 hz
    obtain ⟨g11, h⟩ := h
    refine jLf.bk hc 3 [jA S l0 12] [some (.ref l0), none, some (.int l2)] [.int ((jJ S l0 12).toInt32), .int s0, .int s1, .ref s2] S rfl rfl rfl g11 ?_
    refine jLf.one hc _ rfl (gs := []) (c := (47, [some (.ref l0), none, some (.int l2)], [.int ((jJ S l0 12).toInt32), .int s0, .int s1, .ref s2], S, 0, 0)) rfl trivial ?_
    refine jLf.sub [none, none, none] (jle_none (jle_same (jle_none (jle_nil _)))) ?_
    exact tX12_readPart_47 d hd  h
def wX12_readPart_34   (l0 : Nat) (l1 : Int32) (l2 : Int32) (s0 : Int32) (s1 : Nat) (S : JS) (Q : Int32 → JS → Prop) : Prop :=
  (¬ l1 = (-1) → wX12_readPart_40 l0 l2 l1 s0 s1 S Q) ∧ (l1 = (-1) → wX12_readPart_40 l0 l2 0 s0 s1 S Q)
set_option maxRecDepth 20000 in
theorem tX12_readPart_34 {Q : Int32 → JS → Prop}  (d : Nat) (hd : 4 ≤ d) {l0 : Nat} {l1 : Int32} {l2 : Int32} {s0 : Int32} {s1 : Nat} {S : JS} (h : wX12_readPart_34 l0 l1 l2 s0 s1 S Q) : jLf (jCall jmt jbud d) jbud (fun j => (jmt j).rk) none mX12_readPart (jqI Q) (34, [some (.ref l0), some (.int l1), some (.int l2)], [.int s0, .ref s1], S, 0, 0) := by
  have hc := jCall_mono jmt jbud d
  unfold wX12_readPart_34 at h
  refine jLf.bk hc 2 [] [some (.ref l0), some (.int l1), some (.int l2)] [.int (-1), .int l1, .int s0, .ref s1] S rfl rfl rfl trivial ?_
  refine jLf.two hc _ rfl (gs := []) (p1 := ¬ l1 = (-1)) (p2 := ¬ (¬ l1 = (-1))) (c1 := (39, [some (.ref l0), some (.int l1), some (.int l2)], [.int s0, .ref s1], S, 0, 0)) (c2 := (37, [some (.ref l0), some (.int l1), some (.int l2)], [.int s0, .ref s1], S, 0, 0)) rfl trivial (fun hz => ?_) (fun hz => ?_)
  · have h := h.1 hz
    refine jLf.bk hc 1 [] [some (.ref l0), some (.int l1), some (.int l2)] [.int l1, .int s0, .ref s1] S rfl rfl rfl trivial ?_
    refine jLf.sub [some (.ref l0), none, some (.int l2)] (jle_same (jle_none (jle_same (jle_nil _)))) ?_
    exact tX12_readPart_40 d hd  h
  · have h := h.2 (Classical.not_not.mp hz)
    refine jLf.bk hc 1 [] [some (.ref l0), some (.int l1), some (.int l2)] [.int 0, .int s0, .ref s1] S rfl rfl rfl trivial ?_
    refine jLf.one hc _ rfl (gs := []) (c := (40, [some (.ref l0), some (.int l1), some (.int l2)], [.int 0, .int s0, .ref s1], S, 0, 0)) rfl trivial ?_
    refine jLf.sub [some (.ref l0), none, some (.int l2)] (jle_same (jle_none (jle_same (jle_nil _)))) ?_
    exact tX12_readPart_40 d hd  h
def wX12_readPart_31   (l0 : Nat) (l1 : Int32) (l2 : Int32) (s0 : Nat) (S : JS) (Q : Int32 → JS → Prop) : Prop :=
  wX12_readPart_34 l0 l1 l2 1 s0 S Q
set_option maxRecDepth 20000 in
theorem tX12_readPart_31 {Q : Int32 → JS → Prop}  (d : Nat) (hd : 4 ≤ d) {l0 : Nat} {l1 : Int32} {l2 : Int32} {s0 : Nat} {S : JS} (h : wX12_readPart_31 l0 l1 l2 s0 S Q) : jLf (jCall jmt jbud d) jbud (fun j => (jmt j).rk) none mX12_readPart (jqI Q) (31, [some (.ref l0), some (.int l1), some (.int l2)], [.ref s0], S, 0, 0) := by
  have hc := jCall_mono jmt jbud d
  unfold wX12_readPart_31 at h
  refine jLf.bk hc 1 [] [some (.ref l0), some (.int l1), some (.int l2)] [.int 1, .ref s0] S rfl rfl rfl trivial ?_
  refine jLf.one hc _ rfl (gs := []) (c := (34, [some (.ref l0), some (.int l1), some (.int l2)], [.int 1, .ref s0], S, 0, 0)) rfl trivial ?_
  exact tX12_readPart_34 d hd  h
def wX12_readPart_24   (l0 : Nat) (l1 : Int32) (s0 : Int32) (S : JS) (Q : Int32 → JS → Prop) : Prop :=
  (¬ l1 = (-1) → wX12_readPart_31 l0 l1 s0 l0 S Q) ∧ (l1 = (-1) → (s0 = 0 → wX12_readPart_34 l0 l1 s0 0 l0 S Q) ∧ (¬ s0 = 0 → wX12_readPart_31 l0 l1 s0 l0 S Q))
set_option maxRecDepth 20000 in
theorem tX12_readPart_24 {Q : Int32 → JS → Prop}  (d : Nat) (hd : 4 ≤ d) {l0 : Nat} {l1 : Int32} {s0 : Int32} {S : JS} (h : wX12_readPart_24 l0 l1 s0 S Q) : jLf (jCall jmt jbud d) jbud (fun j => (jmt j).rk) none mX12_readPart (jqI Q) (24, [some (.ref l0), some (.int l1), none], [.int s0], S, 0, 0) := by
  have hc := jCall_mono jmt jbud d
  unfold wX12_readPart_24 at h
  refine jLf.bk hc 4 [] [some (.ref l0), some (.int l1), some (.int s0)] [.int (-1), .int l1, .ref l0] S rfl rfl rfl trivial ?_
  refine jLf.two hc _ rfl (gs := []) (p1 := ¬ l1 = (-1)) (p2 := ¬ (¬ l1 = (-1))) (c1 := (31, [some (.ref l0), some (.int l1), some (.int s0)], [.ref l0], S, 0, 0)) (c2 := (29, [some (.ref l0), some (.int l1), some (.int s0)], [.ref l0], S, 0, 0)) rfl trivial (fun hz => ?_) (fun hz => ?_)
  · have h := h.1 hz
    exact tX12_readPart_31 d hd  h
  · have h := h.2 (Classical.not_not.mp hz)
    refine jLf.bk hc 1 [] [some (.ref l0), some (.int l1), some (.int s0)] [.int s0, .ref l0] S rfl rfl rfl trivial ?_
    refine jLf.two hc _ rfl (gs := []) (p1 := s0 = 0) (p2 := ¬ (s0 = 0)) (c1 := (33, [some (.ref l0), some (.int l1), some (.int s0)], [.ref l0], S, 0, 0)) (c2 := (31, [some (.ref l0), some (.int l1), some (.int s0)], [.ref l0], S, 0, 0)) rfl trivial (fun hz => ?_) (fun hz => ?_)
    · have h := h.1 hz
      refine jLf.bk hc 1 [] [some (.ref l0), some (.int l1), some (.int s0)] [.int 0, .ref l0] S rfl rfl rfl trivial ?_
      exact tX12_readPart_34 d hd  h
    · have h := h.2 hz
      exact tX12_readPart_31 d hd  h
def wX12_readPart_23   (l0 : Nat) (l1 : Int32) (S : JS) (Q : Int32 → JS → Prop) : Prop :=
  wX12_readPart_24 l0 l1 0 S Q
set_option maxRecDepth 20000 in
theorem tX12_readPart_23 {Q : Int32 → JS → Prop}  (d : Nat) (hd : 4 ≤ d) {l0 : Nat} {l1 : Int32} {S : JS} (h : wX12_readPart_23 l0 l1 S Q) : jLf (jCall jmt jbud d) jbud (fun j => (jmt j).rk) none mX12_readPart (jqI Q) (23, [some (.ref l0), some (.int l1), none], [], S, 0, 0) := by
  have hc := jCall_mono jmt jbud d
  unfold wX12_readPart_23 at h
  refine jLf.bk hc 1 [] [some (.ref l0), some (.int l1), none] [.int 0] S rfl rfl rfl trivial ?_
  exact tX12_readPart_24 d hd  h
def wX12_readPart  (this : Nat) (S : JS) (Q : Int32 → JS → Prop) : Prop :=
  jA S this 12 ∧ (wX12_isSign this 91 S (fun r2 S1 => (r2 = 0 → jA S1 this 12 ∧ (wX12_partAt this S1 (fun r5 S4 => jA S4 this 12 ∧ ((¬ (jI S4 this 11) = 2 → wX12_readPart_23 this r5 S4 Q) ∧ ((jI S4 this 11) = 2 → (0 < (lg_cmp (jJ S4 this 12) (1000 : Int64)) → wX12_readPart_23 this r5 S4 Q) ∧ (¬ (0 < (lg_cmp (jJ S4 this 12) (1000 : Int64))) → wX12_readPart_24 this r5 1 S4 Q)))))) ∧ (¬ r2 = 0 → jA S1 this 12 ∧ (wX12_openBracket this 31 S1 (fun S12 => Q 1 S12)))))
set_option maxRecDepth 20000 in
theorem vX12_readPart {Q : Int32 → JS → Prop} (d : Nat) (hd : 5 ≤ d) {this : Nat} {S : JS} (h : wX12_readPart this S Q) : jCall jmt jbud d 183 [.ref this] S (jqI Q) := by
  obtain ⟨d, rfl⟩ : ∃ d2, d = d2 + 1 := ⟨d - 1, by omega⟩
  have hd : 4 ≤ d := by omega
  have hc := jCall_mono jmt jbud d
  unfold wX12_readPart at h
  refine ⟨Nat.le_of_ble_eq_true rfl, ?_⟩
  show jLf (jCall jmt jbud d) jbud (fun j => (jmt j).rk) none mX12_readPart (jqI Q) (0, [some (.ref this), none, none], [], S, 0, 0)
  refine jLf.bk hc 2 [] [some (.ref this), none, none] [.int 91, .ref this] S rfl rfl rfl trivial ?_
  obtain ⟨g3, h⟩ := h
  refine jLf.inv hc _ rfl (gs := [jA S this 12, (([] : List Value).map fun v => v.category).sum ≤ 8, 0 ≤ 0, 0 ≤ 0]) (k := 171) (args := [.ref this, .int 91]) (r := []) (a := 0) (b := 0) rfl ⟨g3, Nat.le_of_ble_eq_true rfl, Nat.zero_le _, Nat.zero_le _⟩ (vX12_isSign d (by omega) h) ?_
  rintro v S1 ⟨r2, rfl, h⟩
  show jLf (jCall jmt jbud d) jbud (fun j => (jmt j).rk) none mX12_readPart (jqI Q) (3, [some (.ref this), none, none], [.int r2], S1, 0, 0)
  refine jLf.two hc _ rfl (gs := []) (p1 := r2 = 0) (p2 := ¬ (r2 = 0)) (c1 := (9, [some (.ref this), none, none], [], S1, 0, 0)) (c2 := (4, [some (.ref this), none, none], [], S1, 0, 0)) rfl trivial (fun hz => ?_) (fun hz => ?_)
  · have h := h.1 hz
    refine jLf.bk hc 1 [] [some (.ref this), none, none] [.ref this] S1 rfl rfl rfl trivial ?_
    obtain ⟨g6, h⟩ := h
    refine jLf.inv hc _ rfl (gs := [jA S1 this 12, (([] : List Value).map fun v => v.category).sum ≤ 8, 0 ≤ 0, 0 ≤ 0]) (k := 180) (args := [.ref this]) (r := []) (a := 0) (b := 0) rfl ⟨g6, Nat.le_of_ble_eq_true rfl, Nat.zero_le _, Nat.zero_le _⟩ (vX12_partAt d (by omega) h) ?_
    rintro v S4 ⟨r5, rfl, h⟩
    show jLf (jCall jmt jbud d) jbud (fun j => (jmt j).rk) none mX12_readPart (jqI Q) (11, [some (.ref this), none, none], [.int r5], S4, 0, 0)
    obtain ⟨g7, h⟩ := h
    refine jLf.bk hc 4 [jA S4 this 12] [some (.ref this), some (.int r5), none] [.int 2, .int (jI S4 this 11)] S4 rfl rfl rfl g7 ?_
    refine jLf.two hc _ rfl (gs := []) (p1 := ¬ (jI S4 this 11) = 2) (p2 := ¬ (¬ (jI S4 this 11) = 2)) (c1 := (23, [some (.ref this), some (.int r5), none], [], S4, 0, 0)) (c2 := (16, [some (.ref this), some (.int r5), none], [], S4, 0, 0)) rfl trivial (fun hz => ?_) (fun hz => ?_)
    · have h := h.1 hz
      exact tX12_readPart_23 d hd  h
    · have h := h.2 (Classical.not_not.mp hz)
      refine jLf.bk hc 4 [jA S4 this 12] [some (.ref this), some (.int r5), none] [.int (lg_cmp (jJ S4 this 12) (1000 : Int64))] S4 rfl rfl rfl g7 ?_
      refine jLf.two hc _ rfl (gs := []) (p1 := 0 < (lg_cmp (jJ S4 this 12) (1000 : Int64))) (p2 := ¬ (0 < (lg_cmp (jJ S4 this 12) (1000 : Int64)))) (c1 := (23, [some (.ref this), some (.int r5), none], [], S4, 0, 0)) (c2 := (21, [some (.ref this), some (.int r5), none], [], S4, 0, 0)) rfl trivial (fun hz => ?_) (fun hz => ?_)
      · have h := h.1 hz
        exact tX12_readPart_23 d hd  h
      · have h := h.2 hz
        refine jLf.bk hc 1 [] [some (.ref this), some (.int r5), none] [.int 1] S4 rfl rfl rfl trivial ?_
        refine jLf.one hc _ rfl (gs := []) (c := (24, [some (.ref this), some (.int r5), none], [.int 1], S4, 0, 0)) rfl trivial ?_
        exact tX12_readPart_24 d hd  h
  · have h := h.2 hz
    refine jLf.bk hc 2 [] [some (.ref this), none, none] [.int 31, .ref this] S1 rfl rfl rfl trivial ?_
    obtain ⟨g14, h⟩ := h
    refine jLf.inv hc _ rfl (gs := [jA S1 this 12, (([] : List Value).map fun v => v.category).sum ≤ 8, 0 ≤ 0, 0 ≤ 0]) (k := 181) (args := [.ref this, .int 31]) (r := []) (a := 0) (b := 0) rfl ⟨g14, Nat.le_of_ble_eq_true rfl, Nat.zero_le _, Nat.zero_le _⟩ (vX12_openBracket d (by omega) h) ?_
    rintro v S12 ⟨rfl, h⟩
    show jLf (jCall jmt jbud d) jbud (fun j => (jmt j).rk) none mX12_readPart (jqI Q) (7, [some (.ref this), none, none], [], S12, 0, 0)
    refine jLf.bk hc 1 [] [some (.ref this), none, none] [.int 1] S12 rfl rfl rfl trivial ?_
    exact jLf.ret hc _ rfl (gs := [True]) (v := some (.int 1)) rfl trivial ⟨1, rfl, h⟩
