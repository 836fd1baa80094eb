/-! weakest preconditions, by program: X5_signOfWord X5_signOfMark X5_tokenOf X5_cutTokens X5_readLaw X5_faultPlace X6_init X6_wordOf X6_isIn X6_isEndedIn X6_carry X6_spread X6_put J7_fill_d0a16 X6_earliest X6_firstStep X6_fetch X6_lookBack X6_rockOfWay X7_init X7_countLying X7_weigh X7_chooseStart -/
def wX5_signOfWord  (this : Nat) (p1 : Int32) (p2 : Int32) (S : JS) (Q : Int32 → JS → Prop) : Prop :=
  jA S this 5 ∧ (wX5_isWord this (jX + 10 + 0) p1 p2 S (fun r2 S1 => (r2 = 0 → jA S1 this 5 ∧ (wX5_isWord this (jX + 10 + 1) p1 p2 S1 (fun r5 S4 => (r5 = 0 → jA S4 this 5 ∧ (wX5_isWord this (jX + 10 + 2) p1 p2 S4 (fun r8 S7 => (r8 = 0 → jA S7 this 5 ∧ (wX5_isWord this (jX + 10 + 3) p1 p2 S7 (fun r11 S10 => (r11 = 0 → jA S10 this 5 ∧ (wX5_isWord this (jX + 10 + 4) p1 p2 S10 (fun r14 S13 => (r14 = 0 → jA S13 this 5 ∧ (wX5_isWord this (jX + 10 + 5) p1 p2 S13 (fun r17 S16 => (r17 = 0 → jA S16 this 5 ∧ (wX5_isWord this (jX + 10 + 6) p1 p2 S16 (fun r20 S19 => (r20 = 0 → jA S19 this 5 ∧ (wX5_signOfPart this p1 p2 S19 (fun r23 S22 => Q r23 S22))) ∧ (¬ r20 = 0 → Q 14 S19)))) ∧ (¬ r17 = 0 → Q 16 S16)))) ∧ (¬ r14 = 0 → Q 15 S13)))) ∧ (¬ r11 = 0 → Q 20 S10)))) ∧ (¬ r8 = 0 → Q 19 S7)))) ∧ (¬ r5 = 0 → Q 18 S4)))) ∧ (¬ r2 = 0 → Q 17 S1)))
set_option maxRecDepth 20000 in
theorem vX5_signOfWord {Q : Int32 → JS → Prop} (d : Nat) (hd : 3 ≤ d) {this : Nat} {p1 : Int32} {p2 : Int32} {S : JS} (h : wX5_signOfWord this p1 p2 S Q) : jCall jmt jbud d 52 [.ref this, .int p1, .int p2] S (jqI Q) := by
  obtain ⟨d, rfl⟩ : ∃ d2, d = d2 + 1 := ⟨d - 1, by omega⟩
  have hd : 2 ≤ d := by omega
  have hc := jCall_mono jmt jbud d
  unfold wX5_signOfWord at h
  refine ⟨Nat.le_of_ble_eq_true rfl, ?_⟩
  show jLf (jCall jmt jbud d) jbud (fun j => (jmt j).rk) none mX5_signOfWord (jqI Q) (0, [some (.ref this), some (.int p1), some (.int p2)], [], S, 0, 0)
  refine jLf.bk hc 4 [] [some (.ref this), some (.int p1), some (.int p2)] [.int p2, .int p1, .ref (jX + 10 + 0), .ref this] S rfl rfl rfl trivial ?_
  obtain ⟨g3, h⟩ := h
  refine jLf.inv hc _ rfl (gs := [jA S this 5, (([] : List Value).map fun v => v.category).sum ≤ 8, 0 ≤ 0, 0 ≤ 0]) (k := 54) (args := [.ref this, .ref (jX + 10 + 0), .int p1, .int p2]) (r := []) (a := 0) (b := 0) rfl ⟨g3, Nat.le_of_ble_eq_true rfl, Nat.zero_le _, Nat.zero_le _⟩ (vX5_isWord d (by omega) h) ?_
  rintro v S1 ⟨r2, rfl, h⟩
  show jLf (jCall jmt jbud d) jbud (fun j => (jmt j).rk) none mX5_signOfWord (jqI Q) (5, [some (.ref this), some (.int p1), some (.int p2)], [.int r2], S1, 0, 0)
  refine jLf.two hc _ rfl (gs := []) (p1 := r2 = 0) (p2 := ¬ (r2 = 0)) (c1 := (8, [some (.ref this), some (.int p1), some (.int p2)], [], S1, 0, 0)) (c2 := (6, [some (.ref this), some (.int p1), some (.int p2)], [], S1, 0, 0)) rfl trivial (fun hz => ?_) (fun hz => ?_)
  · have h := h.1 hz
    refine jLf.bk hc 4 [] [some (.ref this), some (.int p1), some (.int p2)] [.int p2, .int p1, .ref (jX + 10 + 1), .ref this] S1 rfl rfl rfl trivial ?_
    obtain ⟨g6, h⟩ := h
    refine jLf.inv hc _ rfl (gs := [jA S1 this 5, (([] : List Value).map fun v => v.category).sum ≤ 8, 0 ≤ 0, 0 ≤ 0]) (k := 54) (args := [.ref this, .ref (jX + 10 + 1), .int p1, .int p2]) (r := []) (a := 0) (b := 0) rfl ⟨g6, Nat.le_of_ble_eq_true rfl, Nat.zero_le _, Nat.zero_le _⟩ (vX5_isWord d (by omega) h) ?_
    rintro v S4 ⟨r5, rfl, h⟩
    show jLf (jCall jmt jbud d) jbud (fun j => (jmt j).rk) none mX5_signOfWord (jqI Q) (13, [some (.ref this), some (.int p1), some (.int p2)], [.int r5], S4, 0, 0)
    refine jLf.two hc _ rfl (gs := []) (p1 := r5 = 0) (p2 := ¬ (r5 = 0)) (c1 := (16, [some (.ref this), some (.int p1), some (.int p2)], [], S4, 0, 0)) (c2 := (14, [some (.ref this), some (.int p1), some (.int p2)], [], S4, 0, 0)) rfl trivial (fun hz => ?_) (fun hz => ?_)
    · have h := h.1 hz
      refine jLf.bk hc 4 [] [some (.ref this), some (.int p1), some (.int p2)] [.int p2, .int p1, .ref (jX + 10 + 2), .ref this] S4 rfl rfl rfl trivial ?_
      obtain ⟨g9, h⟩ := h
      refine jLf.inv hc _ rfl (gs := [jA S4 this 5, (([] : List Value).map fun v => v.category).sum ≤ 8, 0 ≤ 0, 0 ≤ 0]) (k := 54) (args := [.ref this, .ref (jX + 10 + 2), .int p1, .int p2]) (r := []) (a := 0) (b := 0) rfl ⟨g9, Nat.le_of_ble_eq_true rfl, Nat.zero_le _, Nat.zero_le _⟩ (vX5_isWord d (by omega) h) ?_
      rintro v S7 ⟨r8, rfl, h⟩
      show jLf (jCall jmt jbud d) jbud (fun j => (jmt j).rk) none mX5_signOfWord (jqI Q) (21, [some (.ref this), some (.int p1), some (.int p2)], [.int r8], S7, 0, 0)
      refine jLf.two hc _ rfl (gs := []) (p1 := r8 = 0) (p2 := ¬ (r8 = 0)) (c1 := (24, [some (.ref this), some (.int p1), some (.int p2)], [], S7, 0, 0)) (c2 := (22, [some (.ref this), some (.int p1), some (.int p2)], [], S7, 0, 0)) rfl trivial (fun hz => ?_) (fun hz => ?_)
      · have h := h.1 hz
        refine jLf.bk hc 4 [] [some (.ref this), some (.int p1), some (.int p2)] [.int p2, .int p1, .ref (jX + 10 + 3), .ref this] S7 rfl rfl rfl trivial ?_
        obtain ⟨g12, h⟩ := h
        refine jLf.inv hc _ rfl (gs := [jA S7 this 5, (([] : List Value).map fun v => v.category).sum ≤ 8, 0 ≤ 0, 0 ≤ 0]) (k := 54) (args := [.ref this, .ref (jX + 10 + 3), .int p1, .int p2]) (r := []) (a := 0) (b := 0) rfl ⟨g12, Nat.le_of_ble_eq_true rfl, Nat.zero_le _, Nat.zero_le _⟩ (vX5_isWord d (by omega) h) ?_
        rintro v S10 ⟨r11, rfl, h⟩
        show jLf (jCall jmt jbud d) jbud (fun j => (jmt j).rk) none mX5_signOfWord (jqI Q) (29, [some (.ref this), some (.int p1), some (.int p2)], [.int r11], S10, 0, 0)
        refine jLf.two hc _ rfl (gs := []) (p1 := r11 = 0) (p2 := ¬ (r11 = 0)) (c1 := (32, [some (.ref this), some (.int p1), some (.int p2)], [], S10, 0, 0)) (c2 := (30, [some (.ref this), some (.int p1), some (.int p2)], [], S10, 0, 0)) rfl trivial (fun hz => ?_) (fun hz => ?_)
        · have h := h.1 hz
          refine jLf.bk hc 4 [] [some (.ref this), some (.int p1), some (.int p2)] [.int p2, .int p1, .ref (jX + 10 + 4), .ref this] S10 rfl rfl rfl trivial ?_
          obtain ⟨g15, h⟩ := h
          refine jLf.inv hc _ rfl (gs := [jA S10 this 5, (([] : List Value).map fun v => v.category).sum ≤ 8, 0 ≤ 0, 0 ≤ 0]) (k := 54) (args := [.ref this, .ref (jX + 10 + 4), .int p1, .int p2]) (r := []) (a := 0) (b := 0) rfl ⟨g15, Nat.le_of_ble_eq_true rfl, Nat.zero_le _, Nat.zero_le _⟩ (vX5_isWord d (by omega) h) ?_
          rintro v S13 ⟨r14, rfl, h⟩
          show jLf (jCall jmt jbud d) jbud (fun j => (jmt j).rk) none mX5_signOfWord (jqI Q) (37, [some (.ref this), some (.int p1), some (.int p2)], [.int r14], S13, 0, 0)
          refine jLf.two hc _ rfl (gs := []) (p1 := r14 = 0) (p2 := ¬ (r14 = 0)) (c1 := (40, [some (.ref this), some (.int p1), some (.int p2)], [], S13, 0, 0)) (c2 := (38, [some (.ref this), some (.int p1), some (.int p2)], [], S13, 0, 0)) rfl trivial (fun hz => ?_) (fun hz => ?_)
          · have h := h.1 hz
            refine jLf.bk hc 4 [] [some (.ref this), some (.int p1), some (.int p2)] [.int p2, .int p1, .ref (jX + 10 + 5), .ref this] S13 rfl rfl rfl trivial ?_
            obtain ⟨g18, h⟩ := h
            refine jLf.inv hc _ rfl (gs := [jA S13 this 5, (([] : List Value).map fun v => v.category).sum ≤ 8, 0 ≤ 0, 0 ≤ 0]) (k := 54) (args := [.ref this, .ref (jX + 10 + 5), .int p1, .int p2]) (r := []) (a := 0) (b := 0) rfl ⟨g18, Nat.le_of_ble_eq_true rfl, Nat.zero_le _, Nat.zero_le _⟩ (vX5_isWord d (by omega) h) ?_
            rintro v S16 ⟨r17, rfl, h⟩
            show jLf (jCall jmt jbud d) jbud (fun j => (jmt j).rk) none mX5_signOfWord (jqI Q) (45, [some (.ref this), some (.int p1), some (.int p2)], [.int r17], S16, 0, 0)
            refine jLf.two hc _ rfl (gs := []) (p1 := r17 = 0) (p2 := ¬ (r17 = 0)) (c1 := (48, [some (.ref this), some (.int p1), some (.int p2)], [], S16, 0, 0)) (c2 := (46, [some (.ref this), some (.int p1), some (.int p2)], [], S16, 0, 0)) rfl trivial (fun hz => ?_) (fun hz => ?_)
            · have h := h.1 hz
              refine jLf.bk hc 4 [] [some (.ref this), some (.int p1), some (.int p2)] [.int p2, .int p1, .ref (jX + 10 + 6), .ref this] S16 rfl rfl rfl trivial ?_
              obtain ⟨g21, h⟩ := h
              refine jLf.inv hc _ rfl (gs := [jA S16 this 5, (([] : List Value).map fun v => v.category).sum ≤ 8, 0 ≤ 0, 0 ≤ 0]) (k := 54) (args := [.ref this, .ref (jX + 10 + 6), .int p1, .int p2]) (r := []) (a := 0) (b := 0) rfl ⟨g21, Nat.le_of_ble_eq_true rfl, Nat.zero_le _, Nat.zero_le _⟩ (vX5_isWord d (by omega) h) ?_
              rintro v S19 ⟨r20, rfl, h⟩
              show jLf (jCall jmt jbud d) jbud (fun j => (jmt j).rk) none mX5_signOfWord (jqI Q) (53, [some (.ref this), some (.int p1), some (.int p2)], [.int r20], S19, 0, 0)
              refine jLf.two hc _ rfl (gs := []) (p1 := r20 = 0) (p2 := ¬ (r20 = 0)) (c1 := (56, [some (.ref this), some (.int p1), some (.int p2)], [], S19, 0, 0)) (c2 := (54, [some (.ref this), some (.int p1), some (.int p2)], [], S19, 0, 0)) rfl trivial (fun hz => ?_) (fun hz => ?_)
              · have h := h.1 hz
                refine jLf.bk hc 3 [] [some (.ref this), some (.int p1), some (.int p2)] [.int p2, .int p1, .ref this] S19 rfl rfl rfl trivial ?_
                obtain ⟨g24, h⟩ := h
                refine jLf.inv hc _ rfl (gs := [jA S19 this 5, (([] : List Value).map fun v => v.category).sum ≤ 8, 0 ≤ 0, 0 ≤ 0]) (k := 53) (args := [.ref this, .int p1, .int p2]) (r := []) (a := 0) (b := 0) rfl ⟨g24, Nat.le_of_ble_eq_true rfl, Nat.zero_le _, Nat.zero_le _⟩ (vX5_signOfPart d (by omega) h) ?_
                rintro v S22 ⟨r23, rfl, h⟩
                show jLf (jCall jmt jbud d) jbud (fun j => (jmt j).rk) none mX5_signOfWord (jqI Q) (60, [some (.ref this), some (.int p1), some (.int p2)], [.int r23], S22, 0, 0)
                exact jLf.ret hc _ rfl (gs := [True]) (v := some (.int r23)) rfl trivial ⟨r23, rfl, h⟩
              · have h := h.2 hz
                refine jLf.bk hc 1 [] [some (.ref this), some (.int p1), some (.int p2)] [.int 14] S19 rfl rfl rfl trivial ?_
                exact jLf.ret hc _ rfl (gs := [True]) (v := some (.int 14)) rfl trivial ⟨14, rfl, h⟩
            · have h := h.2 hz
              refine jLf.bk hc 1 [] [some (.ref this), some (.int p1), some (.int p2)] [.int 16] S16 rfl rfl rfl trivial ?_
              exact jLf.ret hc _ rfl (gs := [True]) (v := some (.int 16)) rfl trivial ⟨16, rfl, h⟩
          · have h := h.2 hz
            refine jLf.bk hc 1 [] [some (.ref this), some (.int p1), some (.int p2)] [.int 15] S13 rfl rfl rfl trivial ?_
            exact jLf.ret hc _ rfl (gs := [True]) (v := some (.int 15)) rfl trivial ⟨15, rfl, h⟩
        · have h := h.2 hz
          refine jLf.bk hc 1 [] [some (.ref this), some (.int p1), some (.int p2)] [.int 20] S10 rfl rfl rfl trivial ?_
          exact jLf.ret hc _ rfl (gs := [True]) (v := some (.int 20)) rfl trivial ⟨20, rfl, h⟩
      · have h := h.2 hz
        refine jLf.bk hc 1 [] [some (.ref this), some (.int p1), some (.int p2)] [.int 19] S7 rfl rfl rfl trivial ?_
        exact jLf.ret hc _ rfl (gs := [True]) (v := some (.int 19)) rfl trivial ⟨19, rfl, h⟩
    · have h := h.2 hz
      refine jLf.bk hc 1 [] [some (.ref this), some (.int p1), some (.int p2)] [.int 18] S4 rfl rfl rfl trivial ?_
      exact jLf.ret hc _ rfl (gs := [True]) (v := some (.int 18)) rfl trivial ⟨18, rfl, h⟩
  · have h := h.2 hz
    refine jLf.bk hc 1 [] [some (.ref this), some (.int p1), some (.int p2)] [.int 17] S1 rfl rfl rfl trivial ?_
    exact jLf.ret hc _ rfl (gs := [True]) (v := some (.int 17)) rfl trivial ⟨17, rfl, h⟩
def wX5_signOfMark  (p1 : Int32) (S : JS) (Q : Int32 → JS → Prop) : Prop :=
  (p1 = 40 → Q 22 S) ∧ (¬ p1 = 40 → (p1 = 41 → Q 23 S) ∧ (¬ p1 = 41 → (p1 = 42 → Q 9 S) ∧ (¬ p1 = 42 → (p1 = 43 → Q 7 S) ∧ (¬ p1 = 43 → (p1 = 45 → Q 8 S) ∧ (¬ p1 = 45 → (p1 = 47 → Q 10 S) ∧ (¬ p1 = 47 → (p1 = 59 → Q 21 S) ∧ (¬ p1 = 59 → (p1 = 60 → Q 11 S) ∧ (¬ p1 = 60 → (p1 = 61 → Q 13 S) ∧ (¬ p1 = 61 → (p1 = 62 → Q 12 S) ∧ (¬ p1 = 62 → (p1 = 91 → Q 24 S) ∧ (¬ p1 = 91 → (p1 = 93 → Q 25 S) ∧ (¬ p1 = 93 → Q 27 S))))))))))))
set_option maxRecDepth 20000 in
theorem vX5_signOfMark {Q : Int32 → JS → Prop} (d : Nat) (hd : 1 ≤ d) {p1 : Int32} {S : JS} (h : wX5_signOfMark p1 S Q) : jCall jmt jbud d 57 [.int p1] S (jqI Q) := by
  obtain ⟨d, rfl⟩ : ∃ d2, d = d2 + 1 := ⟨d - 1, by omega⟩
  have hd : 0 ≤ d := by omega
  have hc := jCall_mono jmt jbud d
  unfold wX5_signOfMark at h
  refine ⟨Nat.le_of_ble_eq_true rfl, ?_⟩
  show jLf (jCall jmt jbud d) jbud (fun j => (jmt j).rk) none mX5_signOfMark (jqI Q) (0, [some (.int p1)], [], S, 0, 0)
  refine jLf.bk hc 1 [] [some (.int p1)] [.int p1] S rfl rfl rfl trivial ?_
  refine jLf.sw hc _ rfl rfl (by decide +kernel) ?_
  refine ⟨fun hz => ?_, fun hz => ?_⟩
  · have h := h.1 hz
    show jLf (jCall jmt jbud d) jbud (fun j => (jmt j).rk) none mX5_signOfMark (jqI Q) (18, [some (.int p1)], [], S, 0, 0)
    refine jLf.bk hc 1 [] [some (.int p1)] [.int 22] S rfl rfl rfl trivial ?_
    exact jLf.ret hc _ rfl (gs := [True]) (v := some (.int 22)) rfl trivial ⟨22, rfl, h⟩
  have h := h.2 hz
  refine ⟨fun hz => ?_, fun hz => ?_⟩
  · have h := h.1 hz
    show jLf (jCall jmt jbud d) jbud (fun j => (jmt j).rk) none mX5_signOfMark (jqI Q) (20, [some (.int p1)], [], S, 0, 0)
    refine jLf.bk hc 1 [] [some (.int p1)] [.int 23] S rfl rfl rfl trivial ?_
    exact jLf.ret hc _ rfl (gs := [True]) (v := some (.int 23)) rfl trivial ⟨23, rfl, h⟩
  have h := h.2 hz
  refine ⟨fun hz => ?_, fun hz => ?_⟩
  · have h := h.1 hz
    show jLf (jCall jmt jbud d) jbud (fun j => (jmt j).rk) none mX5_signOfMark (jqI Q) (6, [some (.int p1)], [], S, 0, 0)
    refine jLf.bk hc 1 [] [some (.int p1)] [.int 9] S rfl rfl rfl trivial ?_
    exact jLf.ret hc _ rfl (gs := [True]) (v := some (.int 9)) rfl trivial ⟨9, rfl, h⟩
  have h := h.2 hz
  refine ⟨fun hz => ?_, fun hz => ?_⟩
  · have h := h.1 hz
    show jLf (jCall jmt jbud d) jbud (fun j => (jmt j).rk) none mX5_signOfMark (jqI Q) (2, [some (.int p1)], [], S, 0, 0)
    refine jLf.bk hc 1 [] [some (.int p1)] [.int 7] S rfl rfl rfl trivial ?_
    exact jLf.ret hc _ rfl (gs := [True]) (v := some (.int 7)) rfl trivial ⟨7, rfl, h⟩
  have h := h.2 hz
  refine ⟨fun hz => ?_, fun hz => ?_⟩
  · have h := h.1 hz
    show jLf (jCall jmt jbud d) jbud (fun j => (jmt j).rk) none mX5_signOfMark (jqI Q) (4, [some (.int p1)], [], S, 0, 0)
    refine jLf.bk hc 1 [] [some (.int p1)] [.int 8] S rfl rfl rfl trivial ?_
    exact jLf.ret hc _ rfl (gs := [True]) (v := some (.int 8)) rfl trivial ⟨8, rfl, h⟩
  have h := h.2 hz
  refine ⟨fun hz => ?_, fun hz => ?_⟩
  · have h := h.1 hz
    show jLf (jCall jmt jbud d) jbud (fun j => (jmt j).rk) none mX5_signOfMark (jqI Q) (8, [some (.int p1)], [], S, 0, 0)
    refine jLf.bk hc 1 [] [some (.int p1)] [.int 10] S rfl rfl rfl trivial ?_
    exact jLf.ret hc _ rfl (gs := [True]) (v := some (.int 10)) rfl trivial ⟨10, rfl, h⟩
  have h := h.2 hz
  refine ⟨fun hz => ?_, fun hz => ?_⟩
  · have h := h.1 hz
    show jLf (jCall jmt jbud d) jbud (fun j => (jmt j).rk) none mX5_signOfMark (jqI Q) (16, [some (.int p1)], [], S, 0, 0)
    refine jLf.bk hc 1 [] [some (.int p1)] [.int 21] S rfl rfl rfl trivial ?_
    exact jLf.ret hc _ rfl (gs := [True]) (v := some (.int 21)) rfl trivial ⟨21, rfl, h⟩
  have h := h.2 hz
  refine ⟨fun hz => ?_, fun hz => ?_⟩
  · have h := h.1 hz
    show jLf (jCall jmt jbud d) jbud (fun j => (jmt j).rk) none mX5_signOfMark (jqI Q) (10, [some (.int p1)], [], S, 0, 0)
    refine jLf.bk hc 1 [] [some (.int p1)] [.int 11] S rfl rfl rfl trivial ?_
    exact jLf.ret hc _ rfl (gs := [True]) (v := some (.int 11)) rfl trivial ⟨11, rfl, h⟩
  have h := h.2 hz
  refine ⟨fun hz => ?_, fun hz => ?_⟩
  · have h := h.1 hz
    show jLf (jCall jmt jbud d) jbud (fun j => (jmt j).rk) none mX5_signOfMark (jqI Q) (14, [some (.int p1)], [], S, 0, 0)
    refine jLf.bk hc 1 [] [some (.int p1)] [.int 13] S rfl rfl rfl trivial ?_
    exact jLf.ret hc _ rfl (gs := [True]) (v := some (.int 13)) rfl trivial ⟨13, rfl, h⟩
  have h := h.2 hz
  refine ⟨fun hz => ?_, fun hz => ?_⟩
  · have h := h.1 hz
    show jLf (jCall jmt jbud d) jbud (fun j => (jmt j).rk) none mX5_signOfMark (jqI Q) (12, [some (.int p1)], [], S, 0, 0)
    refine jLf.bk hc 1 [] [some (.int p1)] [.int 12] S rfl rfl rfl trivial ?_
    exact jLf.ret hc _ rfl (gs := [True]) (v := some (.int 12)) rfl trivial ⟨12, rfl, h⟩
  have h := h.2 hz
  refine ⟨fun hz => ?_, fun hz => ?_⟩
  · have h := h.1 hz
    show jLf (jCall jmt jbud d) jbud (fun j => (jmt j).rk) none mX5_signOfMark (jqI Q) (22, [some (.int p1)], [], S, 0, 0)
    refine jLf.bk hc 1 [] [some (.int p1)] [.int 24] S rfl rfl rfl trivial ?_
    exact jLf.ret hc _ rfl (gs := [True]) (v := some (.int 24)) rfl trivial ⟨24, rfl, h⟩
  have h := h.2 hz
  refine ⟨fun hz => ?_, fun hz => ?_⟩
  · have h := h.1 hz
    show jLf (jCall jmt jbud d) jbud (fun j => (jmt j).rk) none mX5_signOfMark (jqI Q) (24, [some (.int p1)], [], S, 0, 0)
    refine jLf.bk hc 1 [] [some (.int p1)] [.int 25] S rfl rfl rfl trivial ?_
    exact jLf.ret hc _ rfl (gs := [True]) (v := some (.int 25)) rfl trivial ⟨25, rfl, h⟩
  have h := h.2 hz
  show jLf (jCall jmt jbud d) jbud (fun j => (jmt j).rk) none mX5_signOfMark (jqI Q) (26, [some (.int p1)], [], S, 0, 0)
  refine jLf.bk hc 1 [] [some (.int p1)] [.int 27] S rfl rfl rfl trivial ?_
  exact jLf.ret hc _ rfl (gs := [True]) (v := some (.int 27)) rfl trivial ⟨27, rfl, h⟩
def wX5_tokenOf  (this : Nat) (p1 : Int32) (p2 : Int32) (S : JS) (Q : Int32 → JS → Prop) : Prop :=
  jA S this 5 ∧ (¬ jR S this 0 = none ∧ (jA S (jr S this 0) 13 ∧ (vp_in p1 (jZ S (jr S this 0)) ∧ (wX5_isLetter (jI S (jr S this 0) p1.toNatClampNeg) S (fun r6 S5 => (r6 = 0 → jA S5 this 5 ∧ (¬ jR S5 this 0 = none ∧ (jA S5 (jr S5 this 0) 13 ∧ (vp_in p1 (jZ S5 (jr S5 this 0)) ∧ (wX5_isDigit (jI S5 (jr S5 this 0) p1.toNatClampNeg) S5 (fun r12 S11 => (r12 = 0 → jA S11 this 5 ∧ (¬ jR S11 this 0 = none ∧ (jA S11 (jr S11 this 0) 13 ∧ (vp_in p1 (jZ S11 (jr S11 this 0)) ∧ (wX5_signOfMark (jI S11 (jr S11 this 0) p1.toNatClampNeg) S11 (fun r18 S17 => Q r18 S17)))))) ∧ (¬ r12 = 0 → jA S11 this 5 ∧ (wX5_numberToken this p1 p2 S11 (fun r20 S19 => Q r20 S19))))))))) ∧ (¬ r6 = 0 → jA S5 this 5 ∧ (wX5_signOfWord this p1 p2 S5 (fun r23 S22 => Q r23 S22))))))))
set_option maxRecDepth 20000 in
theorem vX5_tokenOf {Q : Int32 → JS → Prop} (d : Nat) (hd : 4 ≤ d) {this : Nat} {p1 : Int32} {p2 : Int32} {S : JS} (h : wX5_tokenOf this p1 p2 S Q) : jCall jmt jbud d 50 [.ref this, .int p1, .int p2] S (jqI Q) := by
  obtain ⟨d, rfl⟩ : ∃ d2, d = d2 + 1 := ⟨d - 1, by omega⟩
  have hd : 3 ≤ d := by omega
  have hc := jCall_mono jmt jbud d
  unfold wX5_tokenOf at h
  refine ⟨Nat.le_of_ble_eq_true rfl, ?_⟩
  show jLf (jCall jmt jbud d) jbud (fun j => (jmt j).rk) none mX5_tokenOf (jqI Q) (0, [some (.ref this), some (.int p1), some (.int p2)], [], S, 0, 0)
  obtain ⟨g1, g2, g3, g4, h⟩ := h
  refine jLf.bk hc 4 [jA S this 5, ¬ jR S this 0 = none, jA S (jr S this 0) 13, vp_in p1 (jZ S (jr S this 0))] [some (.ref this), some (.int p1), some (.int p2)] [.int (jI S (jr S this 0) p1.toNatClampNeg)] S rfl rfl rfl ⟨g1, g2, g3, g4⟩ ?_
  refine jLf.inv hc _ rfl (gs := [1 ≤ ([.int (jI S (jr S this 0) p1.toNatClampNeg)] : List Value).length, (([] : List Value).map fun v => v.category).sum ≤ 8, 0 ≤ 0, 0 ≤ 0]) (k := 55) (args := [.int (jI S (jr S this 0) p1.toNatClampNeg)]) (r := []) (a := 0) (b := 0) rfl ⟨Nat.le_of_ble_eq_true rfl, Nat.le_of_ble_eq_true rfl, Nat.zero_le _, Nat.zero_le _⟩ (vX5_isLetter d (by omega) h) ?_
  rintro v S5 ⟨r6, rfl, h⟩
  show jLf (jCall jmt jbud d) jbud (fun j => (jmt j).rk) none mX5_tokenOf (jqI Q) (5, [some (.ref this), some (.int p1), some (.int p2)], [.int r6], S5, 0, 0)
  refine jLf.two hc _ rfl (gs := []) (p1 := r6 = 0) (p2 := ¬ (r6 = 0)) (c1 := (11, [some (.ref this), some (.int p1), some (.int p2)], [], S5, 0, 0)) (c2 := (6, [some (.ref this), some (.int p1), some (.int p2)], [], S5, 0, 0)) rfl trivial (fun hz => ?_) (fun hz => ?_)
  · have h := h.1 hz
    obtain ⟨g7, g8, g9, g10, h⟩ := h
    refine jLf.bk hc 4 [jA S5 this 5, ¬ jR S5 this 0 = none, jA S5 (jr S5 this 0) 13, vp_in p1 (jZ S5 (jr S5 this 0))] [some (.ref this), some (.int p1), some (.int p2)] [.int (jI S5 (jr S5 this 0) p1.toNatClampNeg)] S5 rfl rfl rfl ⟨g7, g8, g9, g10⟩ ?_
    refine jLf.inv hc _ rfl (gs := [1 ≤ ([.int (jI S5 (jr S5 this 0) p1.toNatClampNeg)] : List Value).length, (([] : List Value).map fun v => v.category).sum ≤ 8, 0 ≤ 0, 0 ≤ 0]) (k := 56) (args := [.int (jI S5 (jr S5 this 0) p1.toNatClampNeg)]) (r := []) (a := 0) (b := 0) rfl ⟨Nat.le_of_ble_eq_true rfl, Nat.le_of_ble_eq_true rfl, Nat.zero_le _, Nat.zero_le _⟩ (vX5_isDigit d (by omega) h) ?_
    rintro v S11 ⟨r12, rfl, h⟩
    show jLf (jCall jmt jbud d) jbud (fun j => (jmt j).rk) none mX5_tokenOf (jqI Q) (16, [some (.ref this), some (.int p1), some (.int p2)], [.int r12], S11, 0, 0)
    refine jLf.two hc _ rfl (gs := []) (p1 := r12 = 0) (p2 := ¬ (r12 = 0)) (c1 := (22, [some (.ref this), some (.int p1), some (.int p2)], [], S11, 0, 0)) (c2 := (17, [some (.ref this), some (.int p1), some (.int p2)], [], S11, 0, 0)) rfl trivial (fun hz => ?_) (fun hz => ?_)
    · have h := h.1 hz
      obtain ⟨g13, g14, g15, g16, h⟩ := h
      refine jLf.bk hc 4 [jA S11 this 5, ¬ jR S11 this 0 = none, jA S11 (jr S11 this 0) 13, vp_in p1 (jZ S11 (jr S11 this 0))] [some (.ref this), some (.int p1), some (.int p2)] [.int (jI S11 (jr S11 this 0) p1.toNatClampNeg)] S11 rfl rfl rfl ⟨g13, g14, g15, g16⟩ ?_
      refine jLf.inv hc _ rfl (gs := [1 ≤ ([.int (jI S11 (jr S11 this 0) p1.toNatClampNeg)] : List Value).length, (([] : List Value).map fun v => v.category).sum ≤ 8, 0 ≤ 0, 0 ≤ 0]) (k := 57) (args := [.int (jI S11 (jr S11 this 0) p1.toNatClampNeg)]) (r := []) (a := 0) (b := 0) rfl ⟨Nat.le_of_ble_eq_true rfl, Nat.le_of_ble_eq_true rfl, Nat.zero_le _, Nat.zero_le _⟩ (vX5_signOfMark d (by omega) h) ?_
      rintro v S17 ⟨r18, rfl, h⟩
      show jLf (jCall jmt jbud d) jbud (fun j => (jmt j).rk) none mX5_tokenOf (jqI Q) (27, [some (.ref this), some (.int p1), some (.int p2)], [.int r18], S17, 0, 0)
      exact jLf.ret hc _ rfl (gs := [True]) (v := some (.int r18)) rfl trivial ⟨r18, rfl, h⟩
    · have h := h.2 hz
      refine jLf.bk hc 3 [] [some (.ref this), some (.int p1), some (.int p2)] [.int p2, .int p1, .ref this] S11 rfl rfl rfl trivial ?_
      obtain ⟨g21, h⟩ := h
      refine jLf.inv hc _ rfl (gs := [jA S11 this 5, (([] : List Value).map fun v => v.category).sum ≤ 8, 0 ≤ 0, 0 ≤ 0]) (k := 51) (args := [.ref this, .int p1, .int p2]) (r := []) (a := 0) (b := 0) rfl ⟨g21, Nat.le_of_ble_eq_true rfl, Nat.zero_le _, Nat.zero_le _⟩ (vX5_numberToken d (by omega) h) ?_
      rintro v S19 ⟨r20, rfl, h⟩
      show jLf (jCall jmt jbud d) jbud (fun j => (jmt j).rk) none mX5_tokenOf (jqI Q) (21, [some (.ref this), some (.int p1), some (.int p2)], [.int r20], S19, 0, 0)
      refine jLf.one hc _ rfl (gs := []) (c := (27, [some (.ref this), some (.int p1), some (.int p2)], [.int r20], S19, 0, 0)) rfl trivial ?_
      exact jLf.ret hc _ rfl (gs := [True]) (v := some (.int r20)) rfl trivial ⟨r20, rfl, h⟩
  · have h := h.2 hz
    refine jLf.bk hc 3 [] [some (.ref this), some (.int p1), some (.int p2)] [.int p2, .int p1, .ref this] S5 rfl rfl rfl trivial ?_
    obtain ⟨g24, h⟩ := h
    refine jLf.inv hc _ rfl (gs := [jA S5 this 5, (([] : List Value).map fun v => v.category).sum ≤ 8, 0 ≤ 0, 0 ≤ 0]) (k := 52) (args := [.ref this, .int p1, .int p2]) (r := []) (a := 0) (b := 0) rfl ⟨g24, Nat.le_of_ble_eq_true rfl, Nat.zero_le _, Nat.zero_le _⟩ (vX5_signOfWord d (by omega) h) ?_
    rintro v S22 ⟨r23, rfl, h⟩
    show jLf (jCall jmt jbud d) jbud (fun j => (jmt j).rk) none mX5_tokenOf (jqI Q) (10, [some (.ref this), some (.int p1), some (.int p2)], [.int r23], S22, 0, 0)
    exact jLf.ret hc _ rfl (gs := [True]) (v := some (.int r23)) rfl trivial ⟨r23, rfl, h⟩
def wX5_cutTokens_44   (l0 : Nat) (l1 : Int32) (S : JS) (Q : JS → Prop) : Prop :=
  jA S l0 5 ∧ (¬ jR S l0 9 = none ∧ (jA S (jr S l0 9) 13 ∧ (vp_in l1 (jZ S (jr S l0 9)) ∧ (∀ S6 : JS, S6 = uI S (jr S l0 9) l1.toNatClampNeg 26 → (jA S6 l0 5 ∧ (¬ jR S6 l0 10 = none ∧ (jA S6 (jr S6 l0 10) 13 ∧ (vp_in l1 (jZ S6 (jr S6 l0 10)) ∧ (∀ S11 : JS, S11 = uI S6 (jr S6 l0 10) l1.toNatClampNeg (jI S6 l0 1) → (Q S11))))))))))
set_option maxRecDepth 20000 in
theorem tX5_cutTokens_44 {Q : JS → Prop}  (d : Nat) (hd : 4 ≤ d) {l0 : Nat} {l1 : Int32} {S : JS} (h : wX5_cutTokens_44 l0 l1 S Q) : jLf (jCall jmt jbud d) jbud (fun j => (jmt j).rk) none mX5_cutTokens (jqV Q) (44, [some (.ref l0), some (.int l1), none, none], [], S, 0, 0) := by
  have hc := jCall_mono jmt jbud d
  unfold wX5_cutTokens_44 at h
  obtain ⟨g2, g3, g4, g5, h⟩ := h
  refine jLf.bk hc 5 [jA S l0 5, ¬ jR S l0 9 = none, jA S (jr S l0 9) 13, vp_in l1 (jZ S (jr S l0 9))] [some (.ref l0), some (.int l1), none, none] [] (uI S (jr S l0 9) l1.toNatClampNeg 26) rfl rfl rfl ⟨g2, g3, g4, g5⟩ ?_
  generalize eS6 : uI S (jr S l0 9) l1.toNatClampNeg 26 = S6
  have h := h S6 eS6.symm
  obtain ⟨g7, g8, g9, g10, h⟩ := h
  refine jLf.bk hc 6 [jA S6 l0 5, ¬ jR S6 l0 10 = none, jA S6 l0 5, jA S6 (jr S6 l0 10) 13, vp_in l1 (jZ S6 (jr S6 l0 10))] [some (.ref l0), some (.int l1), none, none] [] (uI S6 (jr S6 l0 10) l1.toNatClampNeg (jI S6 l0 1)) rfl rfl rfl ⟨g7, g8, g7, g9, g10⟩ ?_
  generalize eS11 : uI S6 (jr S6 l0 10) l1.toNatClampNeg (jI S6 l0 1) = S11
  have h := h S11 eS11.symm
  exact jLf.ret hc _ rfl (gs := [jrt none none]) (v := none) rfl trivial ⟨rfl, h⟩
def wX5_cutTokens_37  (X6 : Nat → Int32 → Int32 → JS → Prop) (l0 : Nat) (l1 : Int32) (l2 : Int32) (l3 : Int32) (S : JS) (Q : JS → Prop) : Prop :=
  ∀ x18 : Int32, x18 = (if (l3 + (1 : Int32)) < l2 then l2 else (l3 + (1 : Int32))) → (X6 l0 l1 x18 S)
set_option maxRecDepth 20000 in
theorem tX5_cutTokens_37 {Q : JS → Prop} {X6 : Nat → Int32 → Int32 → JS → Prop} (d : Nat) (hd : 4 ≤ d) (hX6 : ∀ l0 l1 l3 S, X6 l0 l1 l3 S → jLf (jCall jmt jbud d) jbud (fun j => (jmt j).rk) none mX5_cutTokens (jqV Q) (6, [some (.ref l0), some (.int l1), none, some (.int l3)], [], S, 0, 0)) {l0 : Nat} {l1 : Int32} {l2 : Int32} {l3 : Int32} {S : JS} (h : wX5_cutTokens_37 X6 l0 l1 l2 l3 S Q) : jLf (jCall jmt jbud d) jbud (fun j => (jmt j).rk) none mX5_cutTokens (jqV Q) (37, [some (.ref l0), some (.int l1), some (.int l2), some (.int l3)], [], S, 0, 0) := by
  have hc := jCall_mono jmt jbud d
  unfold wX5_cutTokens_37 at h
  refine jLf.bk hc 6 [(([] : List Value).map fun v => v.category).sum ≤ 8] [some (.ref l0), some (.int l1), some (.int l2), some (.int (if (l3 + (1 : Int32)) < l2 then l2 else (l3 + (1 : Int32))))] [] S rfl rfl rfl (Nat.le_of_ble_eq_true rfl) ?_
  generalize ex18 : (if (l3 + (1 : Int32)) < l2 then l2 else (l3 + (1 : Int32)) : Int32) = x18
  have h := h x18 ex18.symm
  refine jLf.one hc _ rfl (gs := []) (c := (6, [some (.ref l0), some (.int l1), some (.int l2), some (.int x18)], [], S, 0, 0)) rfl trivial ?_
  refine jLf.sub [some (.ref l0), some (.int l1), none, some (.int x18)] (jle_same (jle_same (jle_none (jle_same (jle_nil _))))) ?_
  exact hX6 _ _ _ _ h
def bX5_cutTokens_6   (X6 : Nat → Int32 → Int32 → JS → Prop) (l0 : Nat) (l1 : Int32) (l3 : Int32) (S : JS) (Q : JS → Prop) : Prop :=
  jA S l0 5 ∧ (((jI S l0 1) ≤ l3 → wX5_cutTokens_44 l0 l1 S Q) ∧ (¬ ((jI S l0 1) ≤ l3) → (400 ≤ l1 → wX5_cutTokens_44 l0 l1 S Q) ∧ (¬ (400 ≤ l1) → wX5_endOfToken l0 l3 S (fun r13 S12 => jA S12 l0 5 ∧ (¬ jR S12 l0 0 = none ∧ (jA S12 (jr S12 l0 0) 13 ∧ (vp_in l3 (jZ S12 (jr S12 l0 0)) ∧ (((jI S12 (jr S12 l0 0) l3.toNatClampNeg) = 32 → wX5_cutTokens_37 X6 l0 l1 r13 l3 S12 Q) ∧ (¬ (jI S12 (jr S12 l0 0) l3.toNatClampNeg) = 32 → ¬ jR S12 l0 9 = none ∧ (wX5_tokenOf l0 l3 r13 S12 (fun r21 S20 => jA S20 (jr S12 l0 9) 13 ∧ (vp_in l1 (jZ S20 (jr S12 l0 9)) ∧ (∀ S24 : JS, S24 = uI S20 (jr S12 l0 9) l1.toNatClampNeg r21 → (jA S24 l0 5 ∧ (¬ jR S24 l0 10 = none ∧ (jA S24 (jr S24 l0 10) 13 ∧ (vp_in l1 (jZ S24 (jr S24 l0 10)) ∧ (∀ S29 : JS, S29 = uI S24 (jr S24 l0 10) l1.toNatClampNeg l3 → (∀ x30 : Int32, x30 = (l1 + 1) → (wX5_cutTokens_37 X6 l0 x30 r13 l3 S29 Q))))))))))))))))))))
set_option maxRecDepth 20000 in
theorem uX5_cutTokens_6 {Q : JS → Prop}  (d : Nat) (hd : 4 ≤ d) {X6 : Nat → Int32 → Int32 → JS → Prop} (hX6 : ∀ l0 l1 l3 S, X6 l0 l1 l3 S → jLf (jCall jmt jbud d) jbud (fun j => (jmt j).rk) none mX5_cutTokens (jqV Q) (6, [some (.ref l0), some (.int l1), none, some (.int l3)], [], S, 0, 0)) {l0 : Nat} {l1 : Int32} {l3 : Int32} {S : JS} (h : bX5_cutTokens_6 X6 l0 l1 l3 S Q) : jLf (jCall jmt jbud d) jbud (fun j => (jmt j).rk) none mX5_cutTokens (jqV Q) (6, [some (.ref l0), some (.int l1), none, some (.int l3)], [], S, 0, 0) := by
  have hc := jCall_mono jmt jbud d
  unfold bX5_cutTokens_6 at h
  obtain ⟨g1, h⟩ := h
  refine jLf.bk hc 3 [jA S l0 5] [some (.ref l0), some (.int l1), none, some (.int l3)] [.int (jI S l0 1), .int l3] S rfl rfl rfl g1 ?_
  refine jLf.two hc _ rfl (gs := []) (p1 := (jI S l0 1) ≤ l3) (p2 := ¬ ((jI S l0 1) ≤ l3)) (c1 := (44, [some (.ref l0), some (.int l1), none, some (.int l3)], [], S, 0, 0)) (c2 := (10, [some (.ref l0), some (.int l1), none, some (.int l3)], [], S, 0, 0)) rfl trivial (fun hz => ?_) (fun hz => ?_)
  · have h := h.1 hz
    refine jLf.sub [some (.ref l0), some (.int l1), none, none] (jle_same (jle_same (jle_same (jle_none (jle_nil _))))) ?_
    exact tX5_cutTokens_44 d hd  h
  · have h := h.2 hz
    refine jLf.bk hc 2 [] [some (.ref l0), some (.int l1), none, some (.int l3)] [.int 400, .int l1] S rfl rfl rfl trivial ?_
    refine jLf.two hc _ rfl (gs := []) (p1 := 400 ≤ l1) (p2 := ¬ (400 ≤ l1)) (c1 := (44, [some (.ref l0), some (.int l1), none, some (.int l3)], [], S, 0, 0)) (c2 := (13, [some (.ref l0), some (.int l1), none, some (.int l3)], [], S, 0, 0)) rfl trivial (fun hz => ?_) (fun hz => ?_)
    · have h := h.1 hz
      refine jLf.sub [some (.ref l0), some (.int l1), none, none] (jle_same (jle_same (jle_same (jle_none (jle_nil _))))) ?_
      exact tX5_cutTokens_44 d hd  h
    · have h := h.2 hz
      refine jLf.bk hc 2 [] [some (.ref l0), some (.int l1), none, some (.int l3)] [.int l3, .ref l0] S rfl rfl rfl trivial ?_
      refine jLf.inv hc _ rfl (gs := [jA S l0 5, (([] : List Value).map fun v => v.category).sum ≤ 8, 0 ≤ 0, 0 ≤ 0]) (k := 49) (args := [.ref l0, .int l3]) (r := []) (a := 0) (b := 0) rfl ⟨g1, Nat.le_of_ble_eq_true rfl, Nat.zero_le _, Nat.zero_le _⟩ (vX5_endOfToken d (by omega) h) ?_
      rintro v S12 ⟨r13, rfl, h⟩
      show jLf (jCall jmt jbud d) jbud (fun j => (jmt j).rk) none mX5_cutTokens (jqV Q) (16, [some (.ref l0), some (.int l1), none, some (.int l3)], [.int r13], S12, 0, 0)
      obtain ⟨g14, g15, g16, g17, h⟩ := h
      refine jLf.bk hc 6 [jA S12 l0 5, ¬ jR S12 l0 0 = none, jA S12 (jr S12 l0 0) 13, vp_in l3 (jZ S12 (jr S12 l0 0))] [some (.ref l0), some (.int l1), some (.int r13), some (.int l3)] [.int 32, .int (jI S12 (jr S12 l0 0) l3.toNatClampNeg)] S12 rfl rfl rfl ⟨g14, g15, g16, g17⟩ ?_
      refine jLf.two hc _ rfl (gs := []) (p1 := (jI S12 (jr S12 l0 0) l3.toNatClampNeg) = 32) (p2 := ¬ ((jI S12 (jr S12 l0 0) l3.toNatClampNeg) = 32)) (c1 := (37, [some (.ref l0), some (.int l1), some (.int r13), some (.int l3)], [], S12, 0, 0)) (c2 := (23, [some (.ref l0), some (.int l1), some (.int r13), some (.int l3)], [], S12, 0, 0)) rfl trivial (fun hz => ?_) (fun hz => ?_)
      · have h := h.1 hz
        exact tX5_cutTokens_37 d hd hX6 h
      · have h := h.2 hz
        obtain ⟨g19, h⟩ := h
        refine jLf.bk hc 6 [jA S12 l0 5, ¬ jR S12 l0 9 = none] [some (.ref l0), some (.int l1), some (.int r13), some (.int l3)] [.int r13, .int l3, .ref l0, .int l1, .ref (jr S12 l0 9)] S12 rfl rfl rfl ⟨g14, g19⟩ ?_
        refine jLf.inv hc _ rfl (gs := [jA S12 l0 5, (([.int l1, .ref (jr S12 l0 9)] : List Value).map fun v => v.category).sum ≤ 8, 0 ≤ 0, 0 ≤ 0]) (k := 50) (args := [.ref l0, .int l3, .int r13]) (r := [.int l1, .ref (jr S12 l0 9)]) (a := 0) (b := 0) rfl ⟨g14, Nat.le_of_ble_eq_true rfl, Nat.zero_le _, Nat.zero_le _⟩ (vX5_tokenOf d (by omega) h) ?_
        rintro v S20 ⟨r21, rfl, h⟩
        show jLf (jCall jmt jbud d) jbud (fun j => (jmt j).rk) none mX5_cutTokens (jqV Q) (30, [some (.ref l0), some (.int l1), some (.int r13), some (.int l3)], [.int r21, .int l1, .ref (jr S12 l0 9)], S20, 0, 0)
        obtain ⟨g22, g23, h⟩ := h
        refine jLf.bk hc 1 [jA S20 (jr S12 l0 9) 13, vp_in l1 (jZ S20 (jr S12 l0 9))] [some (.ref l0), some (.int l1), some (.int r13), some (.int l3)] [] (uI S20 (jr S12 l0 9) l1.toNatClampNeg r21) rfl rfl rfl ⟨g22, g23⟩ ?_
        generalize eS24 : uI S20 (jr S12 l0 9) l1.toNatClampNeg r21 = S24
        have h := h S24 eS24.symm
        obtain ⟨g25, g26, g27, g28, h⟩ := h
        refine jLf.bk hc 5 [jA S24 l0 5, ¬ jR S24 l0 10 = none, jA S24 (jr S24 l0 10) 13, vp_in l1 (jZ S24 (jr S24 l0 10))] [some (.ref l0), some (.int l1), some (.int r13), some (.int l3)] [] (uI S24 (jr S24 l0 10) l1.toNatClampNeg l3) rfl rfl rfl ⟨g25, g26, g27, g28⟩ ?_
        generalize eS29 : uI S24 (jr S24 l0 10) l1.toNatClampNeg l3 = S29
        have h := h S29 eS29.symm
        refine jLf.bk hc 1 [] [some (.ref l0), some (.int (l1 + 1)), some (.int r13), some (.int l3)] [] S29 rfl rfl rfl trivial ?_
        generalize ex30 : (l1 + 1 : Int32) = x30
        have h := h x30 ex30.symm
        exact tX5_cutTokens_37 d hd hX6 h
def wX5_cutTokens_6   (l0 : Nat) (l1 : Int32) (l3 : Int32) (S : JS) (Q : JS → Prop) : Prop :=
  jLoop (fun (X6 : Nat × Int32 × Int32 × JS → Prop) q => bX5_cutTokens_6 (fun l0 l1 l3 S => X6 (l0, l1, l3, S)) q.1 q.2.1 q.2.2.1 q.2.2.2 Q) (l0, l1, l3, S)
set_option maxRecDepth 20000 in
theorem tX5_cutTokens_6 {Q : JS → Prop}  (d : Nat) (hd : 4 ≤ d) {l0 : Nat} {l1 : Int32} {l3 : Int32} {S : JS} (h : wX5_cutTokens_6 l0 l1 l3 S Q) : jLf (jCall jmt jbud d) jbud (fun j => (jmt j).rk) none mX5_cutTokens (jqV Q) (6, [some (.ref l0), some (.int l1), none, some (.int l3)], [], S, 0, 0) := by
  have := h (fun q : Nat × Int32 × Int32 × JS => jLf (jCall jmt jbud d) jbud (fun j => (jmt j).rk) none mX5_cutTokens (jqV Q) (6, [some (.ref (q.1)), some (.int (q.2.1)), none, some (.int (q.2.2.1))], [], q.2.2.2, 0, 0)) (fun q R hb hR => uX5_cutTokens_6 d hd  (fun _ _ _ _ => hR _) hb)
  exact this
def wX5_cutTokens  (this : Nat) (S : JS) (Q : JS → Prop) : Prop :=
  wX5_cutTokens_6 this 0 0 S Q
set_option maxRecDepth 20000 in
theorem vX5_cutTokens {Q : JS → Prop} (d : Nat) (hd : 5 ≤ d) {this : Nat} {S : JS} (h : wX5_cutTokens this S Q) : jCall jmt jbud d 48 [.ref this] S (jqV Q) := by
  obtain ⟨d, rfl⟩ : ∃ d2, d = d2 + 1 := ⟨d - 1, by omega⟩
  have hd : 4 ≤ d := by omega
  have hc := jCall_mono jmt jbud d
  unfold wX5_cutTokens at h
  refine ⟨Nat.le_of_ble_eq_true rfl, ?_⟩
  show jLf (jCall jmt jbud d) jbud (fun j => (jmt j).rk) none mX5_cutTokens (jqV Q) (0, [some (.ref this), none, none, none], [], S, 0, 0)
  refine jLf.bk hc 6 [] [some (.ref this), some (.int 0), some (.int 0), some (.int 0)] [] S rfl rfl rfl trivial ?_
  refine jLf.sub [some (.ref this), some (.int 0), none, some (.int 0)] (jle_same (jle_same (jle_none (jle_same (jle_nil _))))) ?_
  exact tX5_cutTokens_6 d hd  h
def wX5_readLaw_33 (G : Nat → List Value → JS → (Option Value → JS → Prop) → Prop)  (l0 : Nat) (l1 : Int32) (S : JS) (Q : Option Nat → JS → Prop) : Prop :=
  (l1 = 0 → Q none S) ∧ (¬ l1 = 0 → jA S l0 5 ∧ ((¬ (jI S l0 12) = 26 → Q none S) ∧ ((jI S l0 12) = 26 → jN S < 1000000 ∧ (∀ h19 : Nat, h19 = jN S → (∀ S17 : JS, S17 = uNew S 3 6 → (jA S17 h19 3 ∧ (wX3_init h19 l0 S17 (fun S20 => Q (some h19) S20))))))))
set_option maxRecDepth 20000 in
theorem tX5_readLaw_33 {Q : Option Nat → JS → Prop} {G : Nat → List Value → JS → (Option Value → JS → Prop) → Prop}  (d : Nat) (hd : 5 ≤ d) (hG : ∀ k args S Q, G k args S Q → jCall jmt jbud d k args S Q) {l0 : Nat} {l1 : Int32} {S : JS} (h : wX5_readLaw_33 G l0 l1 S Q) : jLf (jCall jmt jbud d) jbud (fun j => (jmt j).rk) none mX5_readLaw (jqA Q) (33, [some (.ref l0), some (.int l1), none], [], S, 6, 2006) := by
  have hc := jCall_mono jmt jbud d
  unfold wX5_readLaw_33 at h
  refine jLf.bk hc 1 [] [some (.ref l0), some (.int l1), none] [.int l1] S rfl rfl rfl trivial ?_
  refine jLf.two hc _ rfl (gs := []) (p1 := l1 = 0) (p2 := ¬ (l1 = 0)) (c1 := (44, [some (.ref l0), some (.int l1), none], [], S, 6, 2006)) (c2 := (35, [some (.ref l0), some (.int l1), none], [], S, 6, 2006)) rfl trivial (fun hz => ?_) (fun hz => ?_)
  · have h := h.1 hz
    refine jLf.bk hc 1 [] [some (.ref l0), some (.int l1), none] [.null] S rfl rfl rfl trivial ?_
    exact jLf.ret hc _ rfl (gs := [True]) (v := some (.null)) rfl trivial ⟨none, rfl, h⟩
  · have h := h.2 hz
    obtain ⟨g16, h⟩ := h
    refine jLf.bk hc 3 [jA S l0 5] [some (.ref l0), some (.int l1), none] [.int 26, .int (jI S l0 12)] S rfl rfl rfl g16 ?_
    refine jLf.two hc _ rfl (gs := []) (p1 := ¬ (jI S l0 12) = 26) (p2 := ¬ (¬ (jI S l0 12) = 26)) (c1 := (44, [some (.ref l0), some (.int l1), none], [], S, 6, 2006)) (c2 := (39, [some (.ref l0), some (.int l1), none], [], S, 6, 2006)) rfl trivial (fun hz => ?_) (fun hz => ?_)
    · have h := h.1 hz
      refine jLf.bk hc 1 [] [some (.ref l0), some (.int l1), none] [.null] S rfl rfl rfl trivial ?_
      exact jLf.ret hc _ rfl (gs := [True]) (v := some (.null)) rfl trivial ⟨none, rfl, h⟩
    · have h := h.2 (Classical.not_not.mp hz)
      obtain ⟨g18, h⟩ := h
      refine jLf.one hc _ rfl (gs := [1 ≤ 6, 6 ≤ 2006, jN S < 1000000]) (c := (40, [some (.ref l0), some (.int l1), none], [.ref (jN S)], (uNew S 3 6), 5, 2000)) rfl ⟨Nat.le_of_ble_eq_true rfl, Nat.le_of_ble_eq_true rfl, g18⟩ ?_
      generalize eS17 : uNew S 3 6 = S17
      generalize eh19 : jN S = h19
      have h := h h19 eh19.symm S17 eS17.symm
      refine jLf.bk hc 2 [(.ref h19 : Value).category = 1] [some (.ref l0), some (.int l1), none] [.ref l0, .ref h19, .ref h19] S17 rfl rfl rfl rfl ?_
      obtain ⟨g22, h⟩ := h
      refine jLf.inv hc _ rfl (gs := [jA S17 h19 3, (([.ref h19] : List Value).map fun v => v.category).sum ≤ 8, 5 ≤ 5, 2000 ≤ 2000]) (k := 26) (args := [.ref h19, .ref l0]) (r := [.ref h19]) (a := 0) (b := 0) rfl ⟨g22, Nat.le_of_ble_eq_true rfl, Nat.le_of_ble_eq_true rfl, Nat.le_of_ble_eq_true rfl⟩ (vX3_init d (by omega) h) ?_
      rintro v S20 ⟨rfl, h⟩
      show jLf (jCall jmt jbud d) jbud (fun j => (jmt j).rk) none mX5_readLaw (jqA Q) (43, [some (.ref l0), some (.int l1), none], [.ref h19], S20, 0, 0)
      refine jLf.one hc _ rfl (gs := []) (c := (45, [some (.ref l0), some (.int l1), none], [.ref h19], S20, 0, 0)) rfl trivial ?_
      exact jLf.ret hc _ rfl (gs := [True]) (v := some (.ref h19)) rfl trivial ⟨(some h19), rfl, h⟩
def bX5_readLaw_19 (G : Nat → List Value → JS → (Option Value → JS → Prop) → Prop)  (X19 : Nat → Int32 → Int32 → JS → Prop) (l0 : Nat) (l1 : Int32) (l2 : Int32) (S : JS) (Q : Option Nat → JS → Prop) : Prop :=
  (400 ≤ l2 → wX5_readLaw_33 G l0 l1 S Q) ∧ (¬ (400 ≤ l2) → (l1 = 0 → wX5_readLaw_33 G l0 l1 S Q) ∧ (¬ l1 = 0 → jA S l0 5 ∧ (wX5_pass l0 21 S (fun r24 S23 => (r24 = 0 → wX5_readLaw_33 G l0 l1 S23 Q) ∧ (¬ r24 = 0 → jA S23 l0 5 ∧ (G 35 [.ref l0] S23 (jqI (fun r27 S26 => ∀ x29 : Int32, x29 = (l2 + 1) → (X19 l0 r27 x29 S26)))))))))
set_option maxRecDepth 20000 in
theorem uX5_readLaw_19 {Q : Option Nat → JS → Prop} {G : Nat → List Value → JS → (Option Value → JS → Prop) → Prop}  (d : Nat) (hd : 5 ≤ d) (hG : ∀ k args S Q, G k args S Q → jCall jmt jbud d k args S Q) {X19 : Nat → Int32 → Int32 → JS → Prop} (hX19 : ∀ l0 l1 l2 S, X19 l0 l1 l2 S → jLf (jCall jmt jbud d) jbud (fun j => (jmt j).rk) none mX5_readLaw (jqA Q) (19, [some (.ref l0), some (.int l1), some (.int l2)], [], S, 6, 2006)) {l0 : Nat} {l1 : Int32} {l2 : Int32} {S : JS} (h : bX5_readLaw_19 G X19 l0 l1 l2 S Q) : jLf (jCall jmt jbud d) jbud (fun j => (jmt j).rk) none mX5_readLaw (jqA Q) (19, [some (.ref l0), some (.int l1), some (.int l2)], [], S, 6, 2006) := by
  have hc := jCall_mono jmt jbud d
  unfold bX5_readLaw_19 at h
  refine jLf.bk hc 2 [] [some (.ref l0), some (.int l1), some (.int l2)] [.int 400, .int l2] S rfl rfl rfl trivial ?_
  refine jLf.two hc _ rfl (gs := []) (p1 := 400 ≤ l2) (p2 := ¬ (400 ≤ l2)) (c1 := (33, [some (.ref l0), some (.int l1), some (.int l2)], [], S, 6, 2006)) (c2 := (22, [some (.ref l0), some (.int l1), some (.int l2)], [], S, 6, 2006)) rfl trivial (fun hz => ?_) (fun hz => ?_)
  · have h := h.1 hz
    refine jLf.sub [some (.ref l0), some (.int l1), none] (jle_same (jle_same (jle_none (jle_nil _)))) ?_
    exact tX5_readLaw_33 d hd hG  h
  · have h := h.2 hz
    refine jLf.bk hc 1 [] [some (.ref l0), some (.int l1), some (.int l2)] [.int l1] S rfl rfl rfl trivial ?_
    refine jLf.two hc _ rfl (gs := []) (p1 := l1 = 0) (p2 := ¬ (l1 = 0)) (c1 := (33, [some (.ref l0), some (.int l1), some (.int l2)], [], S, 6, 2006)) (c2 := (24, [some (.ref l0), some (.int l1), some (.int l2)], [], S, 6, 2006)) rfl trivial (fun hz => ?_) (fun hz => ?_)
    · have h := h.1 hz
      refine jLf.sub [some (.ref l0), some (.int l1), none] (jle_same (jle_same (jle_none (jle_nil _)))) ?_
      exact tX5_readLaw_33 d hd hG  h
    · have h := h.2 hz
      refine jLf.bk hc 2 [] [some (.ref l0), some (.int l1), some (.int l2)] [.int 21, .ref l0] S rfl rfl rfl trivial ?_
      obtain ⟨g25, h⟩ := h
      refine jLf.inv hc _ rfl (gs := [jA S l0 5, (([] : List Value).map fun v => v.category).sum ≤ 8, 0 ≤ 6, 0 ≤ 2006]) (k := 44) (args := [.ref l0, .int 21]) (r := []) (a := 6) (b := 2006) rfl ⟨g25, Nat.le_of_ble_eq_true rfl, Nat.zero_le _, Nat.zero_le _⟩ (vX5_pass d (by omega) h) ?_
      rintro v S23 ⟨r24, rfl, h⟩
      show jLf (jCall jmt jbud d) jbud (fun j => (jmt j).rk) none mX5_readLaw (jqA Q) (27, [some (.ref l0), some (.int l1), some (.int l2)], [.int r24], S23, 6, 2006)
      refine jLf.two hc _ rfl (gs := []) (p1 := r24 = 0) (p2 := ¬ (r24 = 0)) (c1 := (33, [some (.ref l0), some (.int l1), some (.int l2)], [], S23, 6, 2006)) (c2 := (28, [some (.ref l0), some (.int l1), some (.int l2)], [], S23, 6, 2006)) rfl trivial (fun hz => ?_) (fun hz => ?_)
      · have h := h.1 hz
        refine jLf.sub [some (.ref l0), some (.int l1), none] (jle_same (jle_same (jle_none (jle_nil _)))) ?_
        exact tX5_readLaw_33 d hd hG  h
      · have h := h.2 hz
        refine jLf.bk hc 1 [] [some (.ref l0), some (.int l1), some (.int l2)] [.ref l0] S23 rfl rfl rfl trivial ?_
        obtain ⟨g28, h⟩ := h
        refine jLf.inv hc _ rfl (gs := [jA S23 l0 5, (([] : List Value).map fun v => v.category).sum ≤ 8, 0 ≤ 6, 0 ≤ 2006]) (k := 35) (args := [.ref l0]) (r := []) (a := 6) (b := 2006) rfl ⟨g28, Nat.le_of_ble_eq_true rfl, Nat.zero_le _, Nat.zero_le _⟩ (hG _ _ _ _ h) ?_
        rintro v S26 ⟨r27, rfl, h⟩
        show jLf (jCall jmt jbud d) jbud (fun j => (jmt j).rk) none mX5_readLaw (jqA Q) (30, [some (.ref l0), some (.int l1), some (.int l2)], [.int r27], S26, 6, 2006)
        refine jLf.bk hc 2 [] [some (.ref l0), some (.int r27), some (.int (l2 + 1))] [] S26 rfl rfl rfl trivial ?_
        generalize ex29 : (l2 + 1 : Int32) = x29
        have h := h x29 ex29.symm
        refine jLf.one hc _ rfl (gs := []) (c := (19, [some (.ref l0), some (.int r27), some (.int x29)], [], S26, 6, 2006)) rfl trivial ?_
        exact hX19 _ _ _ _ h
def wX5_readLaw_19 (G : Nat → List Value → JS → (Option Value → JS → Prop) → Prop)  (l0 : Nat) (l1 : Int32) (l2 : Int32) (S : JS) (Q : Option Nat → JS → Prop) : Prop :=
  jLoop (fun (X19 : Nat × Int32 × Int32 × JS → Prop) q => bX5_readLaw_19 G (fun l0 l1 l2 S => X19 (l0, l1, l2, S)) q.1 q.2.1 q.2.2.1 q.2.2.2 Q) (l0, l1, l2, S)
set_option maxRecDepth 20000 in
theorem tX5_readLaw_19 {Q : Option Nat → JS → Prop} {G : Nat → List Value → JS → (Option Value → JS → Prop) → Prop}  (d : Nat) (hd : 5 ≤ d) (hG : ∀ k args S Q, G k args S Q → jCall jmt jbud d k args S Q) {l0 : Nat} {l1 : Int32} {l2 : Int32} {S : JS} (h : wX5_readLaw_19 G l0 l1 l2 S Q) : jLf (jCall jmt jbud d) jbud (fun j => (jmt j).rk) none mX5_readLaw (jqA Q) (19, [some (.ref l0), some (.int l1), some (.int l2)], [], S, 6, 2006) := by
  have := h (fun q : Nat × Int32 × Int32 × JS => jLf (jCall jmt jbud d) jbud (fun j => (jmt j).rk) none mX5_readLaw (jqA Q) (19, [some (.ref (q.1)), some (.int (q.2.1)), some (.int (q.2.2.1))], [], q.2.2.2, 6, 2006)) (fun q R hb hR => uX5_readLaw_19 d hd hG  (fun _ _ _ _ => hR _) hb)
  exact this
def wX5_readLaw (G : Nat → List Value → JS → (Option Value → JS → Prop) → Prop) (this : Nat) (S : JS) (Q : Option Nat → JS → Prop) : Prop :=
  jA S this 5 ∧ (∀ S2 : JS, S2 = uI S this 7 0 → (jA S2 this 5 ∧ (∀ S4 : JS, S4 = uI S2 this 8 0 → (jA S4 this 5 ∧ (∀ S6 : JS, S6 = uI S4 this 13 0 → (jA S6 this 5 ∧ (wX5_cutTokens this S6 (fun S7 => jA S7 this 5 ∧ (wX5_goTo this 0 S7 (fun S10 => jA S10 this 5 ∧ (G 35 [.ref this] S10 (jqI (fun r14 S13 => wX5_readLaw_19 G this r14 0 S13 Q)))))))))))))
set_option maxRecDepth 20000 in
theorem vX5_readLaw {Q : Option Nat → JS → Prop} {G : Nat → List Value → JS → (Option Value → JS → Prop) → Prop} (d : Nat) (hd : 6 ≤ d) (hG : ∀ k args S Q, G k args S Q → jCall jmt jbud (d - 1) k args S Q) {this : Nat} {S : JS} (h : wX5_readLaw G this S Q) : jCall jmt jbud d 33 [.ref this] S (jqA Q) := by
  obtain ⟨d, rfl⟩ : ∃ d2, d = d2 + 1 := ⟨d - 1, by omega⟩
  have hd : 5 ≤ d := by omega
  have hc := jCall_mono jmt jbud d
  have hG : ∀ k args S Q, G k args S Q → jCall jmt jbud d k args S Q := hG
  unfold wX5_readLaw at h
  refine ⟨Nat.le_of_ble_eq_true rfl, ?_⟩
  show jLf (jCall jmt jbud d) jbud (fun j => (jmt j).rk) none mX5_readLaw (jqA Q) (0, [some (.ref this), none, none], [], S, 6, 2006)
  obtain ⟨g1, h⟩ := h
  refine jLf.bk hc 3 [jA S this 5] [some (.ref this), none, none] [] (uI S this 7 0) rfl rfl rfl g1 ?_
  generalize eS2 : uI S this 7 0 = S2
  have h := h S2 eS2.symm
  obtain ⟨g3, h⟩ := h
  refine jLf.bk hc 3 [jA S2 this 5] [some (.ref this), none, none] [] (uI S2 this 8 0) rfl rfl rfl g3 ?_
  generalize eS4 : uI S2 this 8 0 = S4
  have h := h S4 eS4.symm
  obtain ⟨g5, h⟩ := h
  refine jLf.bk hc 3 [jA S4 this 5] [some (.ref this), none, none] [] (uI S4 this 13 0) rfl rfl rfl g5 ?_
  generalize eS6 : uI S4 this 13 0 = S6
  have h := h S6 eS6.symm
  refine jLf.bk hc 1 [] [some (.ref this), none, none] [.ref this] S6 rfl rfl rfl trivial ?_
  obtain ⟨g9, h⟩ := h
  refine jLf.inv hc _ rfl (gs := [jA S6 this 5, (([] : List Value).map fun v => v.category).sum ≤ 8, 0 ≤ 6, 0 ≤ 2006]) (k := 48) (args := [.ref this]) (r := []) (a := 6) (b := 2006) rfl ⟨g9, Nat.le_of_ble_eq_true rfl, Nat.zero_le _, Nat.zero_le _⟩ (vX5_cutTokens d (by omega) h) ?_
  rintro v S7 ⟨rfl, h⟩
  show jLf (jCall jmt jbud d) jbud (fun j => (jmt j).rk) none mX5_readLaw (jqA Q) (11, [some (.ref this), none, none], [], S7, 6, 2006)
  refine jLf.bk hc 2 [] [some (.ref this), none, none] [.int 0, .ref this] S7 rfl rfl rfl trivial ?_
  obtain ⟨g12, h⟩ := h
  refine jLf.inv hc _ rfl (gs := [jA S7 this 5, (([] : List Value).map fun v => v.category).sum ≤ 8, 0 ≤ 6, 0 ≤ 2006]) (k := 45) (args := [.ref this, .int 0]) (r := []) (a := 6) (b := 2006) rfl ⟨g12, Nat.le_of_ble_eq_true rfl, Nat.zero_le _, Nat.zero_le _⟩ (vX5_goTo d (by omega) h) ?_
  rintro v S10 ⟨rfl, h⟩
  show jLf (jCall jmt jbud d) jbud (fun j => (jmt j).rk) none mX5_readLaw (jqA Q) (14, [some (.ref this), none, none], [], S10, 6, 2006)
  refine jLf.bk hc 1 [] [some (.ref this), none, none] [.ref this] S10 rfl rfl rfl trivial ?_
  obtain ⟨g15, h⟩ := h
  refine jLf.inv hc _ rfl (gs := [jA S10 this 5, (([] : List Value).map fun v => v.category).sum ≤ 8, 0 ≤ 6, 0 ≤ 2006]) (k := 35) (args := [.ref this]) (r := []) (a := 6) (b := 2006) rfl ⟨g15, Nat.le_of_ble_eq_true rfl, Nat.zero_le _, Nat.zero_le _⟩ (hG _ _ _ _ h) ?_
  rintro v S13 ⟨r14, rfl, h⟩
  show jLf (jCall jmt jbud d) jbud (fun j => (jmt j).rk) none mX5_readLaw (jqA Q) (16, [some (.ref this), none, none], [.int r14], S13, 6, 2006)
  refine jLf.bk hc 3 [] [some (.ref this), some (.int r14), some (.int 0)] [] S13 rfl rfl rfl trivial ?_
  exact tX5_readLaw_19 d hd hG  h
def wX5_faultPlace  (this : Nat) (S : JS) (Q : Int32 → JS → Prop) : Prop :=
  jA S this 5 ∧ (¬ jR S this 10 = none ∧ (jA S (jr S this 10) 13 ∧ (vp_in (jI S this 11) (jZ S (jr S this 10)) ∧ (Q (jI S (jr S this 10) (jI S this 11).toNatClampNeg) S))))
set_option maxRecDepth 20000 in
theorem vX5_faultPlace {Q : Int32 → JS → Prop} (d : Nat) (hd : 1 ≤ d) {this : Nat} {S : JS} (h : wX5_faultPlace this S Q) : jCall jmt jbud d 34 [.ref this] S (jqI Q) := by
  obtain ⟨d, rfl⟩ : ∃ d2, d = d2 + 1 := ⟨d - 1, by omega⟩
  have hd : 0 ≤ d := by omega
  have hc := jCall_mono jmt jbud d
  unfold wX5_faultPlace at h
  refine ⟨Nat.le_of_ble_eq_true rfl, ?_⟩
  show jLf (jCall jmt jbud d) jbud (fun j => (jmt j).rk) none mX5_faultPlace (jqI Q) (0, [some (.ref this)], [], S, 0, 0)
  obtain ⟨g1, g2, g3, g4, h⟩ := h
  refine jLf.bk hc 5 [jA S this 5, ¬ jR S this 10 = none, jA S this 5, jA S (jr S this 10) 13, vp_in (jI S this 11) (jZ S (jr S this 10))] [some (.ref this)] [.int (jI S (jr S this 10) (jI S this 11).toNatClampNeg)] S rfl rfl rfl ⟨g1, g2, g1, g3, g4⟩ ?_
  exact jLf.ret hc _ rfl (gs := [True]) (v := some (.int (jI S (jr S this 10) (jI S this 11).toNatClampNeg))) rfl trivial ⟨jI S (jr S this 10) (jI S this 11).toNatClampNeg, rfl, h⟩
def wX6_init  (this : Nat) (S : JS) (Q : JS → Prop) : Prop :=
  jN S < 1000000 ∧ (∀ h3 : Nat, h3 = jN S → (∀ S1 : JS, S1 = uNew S 14 4320 → (jA S1 this 6 ∧ (∀ S5 : JS, S5 = uR S1 this 0 (some h3) → (Q S5)))))
set_option maxRecDepth 20000 in
theorem vX6_init {Q : JS → Prop} (d : Nat) (hd : 1 ≤ d) {this : Nat} {S : JS} (h : wX6_init this S Q) : jCall jmt jbud d 58 [.ref this] S (jqV Q) := by
  obtain ⟨d, rfl⟩ : ∃ d2, d = d2 + 1 := ⟨d - 1, by omega⟩
  have hd : 0 ≤ d := by omega
  have hc := jCall_mono jmt jbud d
  unfold wX6_init at h
  refine ⟨Nat.le_of_ble_eq_true rfl, ?_⟩
  show jLf (jCall jmt jbud d) jbud (fun j => (jmt j).rk) none mX6_init (jqV Q) (0, [some (.ref this)], [], S, 1, 4320)
  refine jLf.bk hc 4 [(([] : List Value).map fun v => v.category).sum ≤ 8] [some (.ref this)] [.int 4320, .ref this] S rfl rfl rfl (Nat.le_of_ble_eq_true rfl) ?_
  obtain ⟨g2, h⟩ := h
  refine jLf.one hc _ rfl (gs := [¬ (4320 : Int32) < 0, 4320 ≤ 1000000, 1 ≤ 1, 4320 ≤ 4320, jN S < 1000000]) (c := (5, [some (.ref this)], [.ref (jN S), .ref this], (uNew S 14 4320), 0, 0)) rfl ⟨(by decide), Nat.le_of_ble_eq_true rfl, Nat.le_of_ble_eq_true rfl, Nat.le_of_ble_eq_true rfl, g2⟩ ?_
  generalize eS1 : uNew S 14 4320 = S1
  generalize eh3 : jN S = h3
  have h := h h3 eh3.symm S1 eS1.symm
  obtain ⟨g4, h⟩ := h
  refine jLf.bk hc 1 [jA S1 this 6] [some (.ref this)] [] (uR S1 this 0 (some h3)) rfl rfl rfl g4 ?_
  generalize eS5 : uR S1 this 0 (some h3) = S5
  have h := h S5 eS5.symm
  exact jLf.ret hc _ rfl (gs := [jrt none none]) (v := none) rfl trivial ⟨rfl, h⟩
def wX6_wordOf  (p1 : Int32) (p2 : Int32) (p3 : Int32) (S : JS) (Q : Int32 → JS → Prop) : Prop :=
  Q (((p2 * (72 : Int32)) + (p1 * (8 : Int32))) + ((p3 >>> ((6 : Int32) &&& 31)) &&& (7 : Int32))) S
set_option maxRecDepth 20000 in
theorem vX6_wordOf {Q : Int32 → JS → Prop} (d : Nat) (hd : 1 ≤ d) {p1 : Int32} {p2 : Int32} {p3 : Int32} {S : JS} (h : wX6_wordOf p1 p2 p3 S Q) : jCall jmt jbud d 69 [.int p1, .int p2, .int p3] S (jqI Q) := by
  obtain ⟨d, rfl⟩ : ∃ d2, d = d2 + 1 := ⟨d - 1, by omega⟩
  have hd : 0 ≤ d := by omega
  have hc := jCall_mono jmt jbud d
  unfold wX6_wordOf at h
  refine ⟨Nat.le_of_ble_eq_true rfl, ?_⟩
  show jLf (jCall jmt jbud d) jbud (fun j => (jmt j).rk) none mX6_wordOf (jqI Q) (0, [some (.int p1), some (.int p2), some (.int p3)], [], S, 0, 0)
  refine jLf.bk hc 13 [] [some (.int p1), some (.int p2), some (.int p3)] [.int (((p2 * (72 : Int32)) + (p1 * (8 : Int32))) + ((p3 >>> ((6 : Int32) &&& 31)) &&& (7 : Int32)))] S rfl rfl rfl trivial ?_
  exact jLf.ret hc _ rfl (gs := [True]) (v := some (.int (((p2 * (72 : Int32)) + (p1 * (8 : Int32))) + ((p3 >>> ((6 : Int32) &&& 31)) &&& (7 : Int32))))) rfl trivial ⟨((p2 * (72 : Int32)) + (p1 * (8 : Int32))) + ((p3 >>> ((6 : Int32) &&& 31)) &&& (7 : Int32)), rfl, h⟩
def wX6_isIn  (this : Nat) (p1 : Int32) (p2 : Int32) (p3 : Int32) (S : JS) (Q : Int32 → JS → Prop) : Prop :=
  jA S this 6 ∧ (¬ jR S this 0 = none ∧ (wX6_wordOf p1 p2 p3 S (fun r4 S3 => jA S3 (jr S this 0) 14 ∧ (vp_in r4 (jZ S3 (jr S this 0)) ∧ ((¬ (lg_cmp ((jlushr (jJ S3 (jr S this 0) r4.toNatClampNeg) (p3 &&& (63 : Int32))) &&& (1 : Int64)) (1 : Int64)) = 0 → Q 0 S3) ∧ ((lg_cmp ((jlushr (jJ S3 (jr S this 0) r4.toNatClampNeg) (p3 &&& (63 : Int32))) &&& (1 : Int64)) (1 : Int64)) = 0 → Q 1 S3))))))
set_option maxRecDepth 20000 in
theorem vX6_isIn {Q : Int32 → JS → Prop} (d : Nat) (hd : 2 ≤ d) {this : Nat} {p1 : Int32} {p2 : Int32} {p3 : Int32} {S : JS} (h : wX6_isIn this p1 p2 p3 S Q) : jCall jmt jbud d 68 [.ref this, .int p1, .int p2, .int p3] S (jqI Q) := by
  obtain ⟨d, rfl⟩ : ∃ d2, d = d2 + 1 := ⟨d - 1, by omega⟩
  have hd : 1 ≤ d := by omega
  have hc := jCall_mono jmt jbud d
  unfold wX6_isIn at h
  refine ⟨Nat.le_of_ble_eq_true rfl, ?_⟩
  show jLf (jCall jmt jbud d) jbud (fun j => (jmt j).rk) none mX6_isIn (jqI Q) (0, [some (.ref this), some (.int p1), some (.int p2), some (.int p3)], [], S, 0, 0)
  obtain ⟨g1, g2, h⟩ := h
  refine jLf.bk hc 5 [jA S this 6, ¬ jR S this 0 = none] [some (.ref this), some (.int p1), some (.int p2), some (.int p3)] [.int p3, .int p2, .int p1, .ref (jr S this 0)] S rfl rfl rfl ⟨g1, g2⟩ ?_
  refine jLf.inv hc _ rfl (gs := [3 ≤ ([.int p3, .int p2, .int p1, .ref (jr S this 0)] : List Value).length, (([.ref (jr S this 0)] : List Value).map fun v => v.category).sum ≤ 8, 0 ≤ 0, 0 ≤ 0]) (k := 69) (args := [.int p1, .int p2, .int p3]) (r := [.ref (jr S this 0)]) (a := 0) (b := 0) rfl ⟨Nat.le_of_ble_eq_true rfl, Nat.le_of_ble_eq_true rfl, Nat.zero_le _, Nat.zero_le _⟩ (vX6_wordOf d (by omega) h) ?_
  rintro v S3 ⟨r4, rfl, h⟩
  show jLf (jCall jmt jbud d) jbud (fun j => (jmt j).rk) none mX6_isIn (jqI Q) (6, [some (.ref this), some (.int p1), some (.int p2), some (.int p3)], [.int r4, .ref (jr S this 0)], S3, 0, 0)
  obtain ⟨g5, g6, h⟩ := h
  refine jLf.bk hc 9 [jA S3 (jr S this 0) 14, vp_in r4 (jZ S3 (jr S this 0))] [some (.ref this), some (.int p1), some (.int p2), some (.int p3)] [.int (lg_cmp ((jlushr (jJ S3 (jr S this 0) r4.toNatClampNeg) (p3 &&& (63 : Int32))) &&& (1 : Int64)) (1 : Int64))] S3 rfl rfl rfl ⟨g5, g6⟩ ?_
  refine jLf.two hc _ rfl (gs := []) (p1 := ¬ (lg_cmp ((jlushr (jJ S3 (jr S this 0) r4.toNatClampNeg) (p3 &&& (63 : Int32))) &&& (1 : Int64)) (1 : Int64)) = 0) (p2 := ¬ (¬ (lg_cmp ((jlushr (jJ S3 (jr S this 0) r4.toNatClampNeg) (p3 &&& (63 : Int32))) &&& (1 : Int64)) (1 : Int64)) = 0)) (c1 := (18, [some (.ref this), some (.int p1), some (.int p2), some (.int p3)], [], S3, 0, 0)) (c2 := (16, [some (.ref this), some (.int p1), some (.int p2), some (.int p3)], [], S3, 0, 0)) rfl trivial (fun hz => ?_) (fun hz => ?_)
  · have h := h.1 hz
    refine jLf.bk hc 1 [] [some (.ref this), some (.int p1), some (.int p2), some (.int p3)] [.int 0] S3 rfl rfl rfl trivial ?_
    exact jLf.ret hc _ rfl (gs := [jbit 0]) (v := some (.int 0)) rfl (Or.inl rfl) ⟨_, rfl, h⟩
  · have h := h.2 (Classical.not_not.mp hz)
    refine jLf.bk hc 1 [] [some (.ref this), some (.int p1), some (.int p2), some (.int p3)] [.int 1] S3 rfl rfl rfl trivial ?_
    refine jLf.one hc _ rfl (gs := []) (c := (19, [some (.ref this), some (.int p1), some (.int p2), some (.int p3)], [.int 1], S3, 0, 0)) rfl trivial ?_
    exact jLf.ret hc _ rfl (gs := [jbit 1]) (v := some (.int 1)) rfl (Or.inr rfl) ⟨_, rfl, h⟩
def bX6_isEndedIn_2   (X2 : Nat → Int32 → Int32 → JS → Prop) (l0 : Nat) (l1 : Int32) (l2 : Int32) (S : JS) (Q : Int32 → JS → Prop) : Prop :=
  (9 ≤ l2 → Q 0 S) ∧ (¬ (9 ≤ l2) → jA S l0 6 ∧ (wX6_isIn l0 l2 l1 (jI S l0 1) S (fun r3 S2 => (r3 = 0 → ∀ x4 : Int32, x4 = (l2 + 1) → (X2 l0 l1 x4 S2)) ∧ (¬ r3 = 0 → Q 1 S2))))
set_option maxRecDepth 20000 in
theorem uX6_isEndedIn_2 {Q : Int32 → JS → Prop}  (d : Nat) (hd : 2 ≤ d) {X2 : Nat → Int32 → Int32 → JS → Prop} (hX2 : ∀ l0 l1 l2 S, X2 l0 l1 l2 S → jLf (jCall jmt jbud d) jbud (fun j => (jmt j).rk) none mX6_isEndedIn (jqI Q) (2, [some (.ref l0), some (.int l1), some (.int l2)], [], S, 0, 0)) {l0 : Nat} {l1 : Int32} {l2 : Int32} {S : JS} (h : bX6_isEndedIn_2 X2 l0 l1 l2 S Q) : jLf (jCall jmt jbud d) jbud (fun j => (jmt j).rk) none mX6_isEndedIn (jqI Q) (2, [some (.ref l0), some (.int l1), some (.int l2)], [], S, 0, 0) := by
  have hc := jCall_mono jmt jbud d
  unfold bX6_isEndedIn_2 at h
  refine jLf.bk hc 2 [] [some (.ref l0), some (.int l1), some (.int l2)] [.int 9, .int l2] S rfl rfl rfl trivial ?_
  refine jLf.two hc _ rfl (gs := []) (p1 := 9 ≤ l2) (p2 := ¬ (9 ≤ l2)) (c1 := (16, [some (.ref l0), some (.int l1), some (.int l2)], [], S, 0, 0)) (c2 := (5, [some (.ref l0), some (.int l1), some (.int l2)], [], S, 0, 0)) rfl trivial (fun hz => ?_) (fun hz => ?_)
  · have h := h.1 hz
    refine jLf.bk hc 1 [] [some (.ref l0), some (.int l1), some (.int l2)] [.int 0] S rfl rfl rfl trivial ?_
    exact jLf.ret hc _ rfl (gs := [jbit 0]) (v := some (.int 0)) rfl (Or.inl rfl) ⟨_, rfl, h⟩
  · have h := h.2 hz
    obtain ⟨g1, h⟩ := h
    refine jLf.bk hc 5 [jA S l0 6] [some (.ref l0), some (.int l1), some (.int l2)] [.int (jI S l0 1), .int l1, .int l2, .ref l0] S rfl rfl rfl g1 ?_
    refine jLf.inv hc _ rfl (gs := [jA S l0 6, (([] : List Value).map fun v => v.category).sum ≤ 8, 0 ≤ 0, 0 ≤ 0]) (k := 68) (args := [.ref l0, .int l2, .int l1, .int (jI S l0 1)]) (r := []) (a := 0) (b := 0) rfl ⟨g1, Nat.le_of_ble_eq_true rfl, Nat.zero_le _, Nat.zero_le _⟩ (vX6_isIn d (by omega) h) ?_
    rintro v S2 ⟨r3, rfl, h⟩
    show jLf (jCall jmt jbud d) jbud (fun j => (jmt j).rk) none mX6_isEndedIn (jqI Q) (11, [some (.ref l0), some (.int l1), some (.int l2)], [.int r3], S2, 0, 0)
    refine jLf.two hc _ rfl (gs := []) (p1 := r3 = 0) (p2 := ¬ (r3 = 0)) (c1 := (14, [some (.ref l0), some (.int l1), some (.int l2)], [], S2, 0, 0)) (c2 := (12, [some (.ref l0), some (.int l1), some (.int l2)], [], S2, 0, 0)) rfl trivial (fun hz => ?_) (fun hz => ?_)
    · have h := h.1 hz
      refine jLf.bk hc 1 [] [some (.ref l0), some (.int l1), some (.int (l2 + 1))] [] S2 rfl rfl rfl trivial ?_
      generalize ex4 : (l2 + 1 : Int32) = x4
      have h := h x4 ex4.symm
      refine jLf.one hc _ rfl (gs := []) (c := (2, [some (.ref l0), some (.int l1), some (.int x4)], [], S2, 0, 0)) rfl trivial ?_
      exact hX2 _ _ _ _ h
    · have h := h.2 hz
      refine jLf.bk hc 1 [] [some (.ref l0), some (.int l1), some (.int l2)] [.int 1] S2 rfl rfl rfl trivial ?_
      exact jLf.ret hc _ rfl (gs := [jbit 1]) (v := some (.int 1)) rfl (Or.inr rfl) ⟨_, rfl, h⟩
def wX6_isEndedIn_2   (l0 : Nat) (l1 : Int32) (l2 : Int32) (S : JS) (Q : Int32 → JS → Prop) : Prop :=
  jLoop (fun (X2 : Nat × Int32 × Int32 × JS → Prop) q => bX6_isEndedIn_2 (fun l0 l1 l2 S => X2 (l0, l1, l2, S)) q.1 q.2.1 q.2.2.1 q.2.2.2 Q) (l0, l1, l2, S)
set_option maxRecDepth 20000 in
theorem tX6_isEndedIn_2 {Q : Int32 → JS → Prop}  (d : Nat) (hd : 2 ≤ d) {l0 : Nat} {l1 : Int32} {l2 : Int32} {S : JS} (h : wX6_isEndedIn_2 l0 l1 l2 S Q) : jLf (jCall jmt jbud d) jbud (fun j => (jmt j).rk) none mX6_isEndedIn (jqI Q) (2, [some (.ref l0), some (.int l1), some (.int l2)], [], S, 0, 0) := by
  have := h (fun q : Nat × Int32 × Int32 × JS => jLf (jCall jmt jbud d) jbud (fun j => (jmt j).rk) none mX6_isEndedIn (jqI Q) (2, [some (.ref (q.1)), some (.int (q.2.1)), some (.int (q.2.2.1))], [], q.2.2.2, 0, 0)) (fun q R hb hR => uX6_isEndedIn_2 d hd  (fun _ _ _ _ => hR _) hb)
  exact this
def wX6_isEndedIn  (this : Nat) (p1 : Int32) (S : JS) (Q : Int32 → JS → Prop) : Prop :=
  wX6_isEndedIn_2 this p1 0 S Q
set_option maxRecDepth 20000 in
theorem vX6_isEndedIn {Q : Int32 → JS → Prop} (d : Nat) (hd : 3 ≤ d) {this : Nat} {p1 : Int32} {S : JS} (h : wX6_isEndedIn this p1 S Q) : jCall jmt jbud d 60 [.ref this, .int p1] S (jqI Q) := by
  obtain ⟨d, rfl⟩ : ∃ d2, d = d2 + 1 := ⟨d - 1, by omega⟩
  have hd : 2 ≤ d := by omega
  have hc := jCall_mono jmt jbud d
  unfold wX6_isEndedIn at h
  refine ⟨Nat.le_of_ble_eq_true rfl, ?_⟩
  show jLf (jCall jmt jbud d) jbud (fun j => (jmt j).rk) none mX6_isEndedIn (jqI Q) (0, [some (.ref this), some (.int p1), none], [], S, 0, 0)
  refine jLf.bk hc 2 [] [some (.ref this), some (.int p1), some (.int 0)] [] S rfl rfl rfl trivial ?_
  exact tX6_isEndedIn_2 d hd  h
def wX6_carry_80  (X7 : Nat → Int32 → Int32 → Int32 → Int32 → Int32 → JS → Prop) (l0 : Nat) (l1 : Int32) (l2 : Int32) (l3 : Int32) (l4 : Int32) (l5 : Int32) (S : JS) (Q : JS → Prop) : Prop :=
  ∀ x14 : Int32, x14 = (l5 + 1) → (X7 l0 l1 l2 l3 l4 x14 S)
set_option maxRecDepth 20000 in
theorem tX6_carry_80 {Q : JS → Prop} {X7 : Nat → Int32 → Int32 → Int32 → Int32 → Int32 → JS → Prop} (d : Nat) (hd : 1 ≤ d) (hX7 : ∀ l0 l1 l2 l3 l4 l5 S, X7 l0 l1 l2 l3 l4 l5 S → jLf (jCall jmt jbud d) jbud (fun j => (jmt j).rk) none mX6_carry (jqV Q) (7, [some (.ref l0), some (.int l1), some (.int l2), some (.int l3), some (.int l4), some (.int l5), none, none], [], S, 0, 0)) {l0 : Nat} {l1 : Int32} {l2 : Int32} {l3 : Int32} {l4 : Int32} {l5 : Int32} {S : JS} (h : wX6_carry_80 X7 l0 l1 l2 l3 l4 l5 S Q) : jLf (jCall jmt jbud d) jbud (fun j => (jmt j).rk) none mX6_carry (jqV Q) (80, [some (.ref l0), some (.int l1), some (.int l2), some (.int l3), some (.int l4), some (.int l5), none, none], [], S, 0, 0) := by
  have hc := jCall_mono jmt jbud d
  unfold wX6_carry_80 at h
  refine jLf.bk hc 1 [] [some (.ref l0), some (.int l1), some (.int l2), some (.int l3), some (.int l4), some (.int (l5 + 1)), none, none] [] S rfl rfl rfl trivial ?_
  generalize ex14 : (l5 + 1 : Int32) = x14
  have h := h x14 ex14.symm
  refine jLf.one hc _ rfl (gs := []) (c := (7, [some (.ref l0), some (.int l1), some (.int l2), some (.int l3), some (.int l4), some (.int x14), none, none], [], S, 0, 0)) rfl trivial ?_
  exact hX7 _ _ _ _ _ _ _ h
def wX6_carry_23  (X7 : Nat → Int32 → Int32 → Int32 → Int32 → Int32 → JS → Prop) (l0 : Nat) (l1 : Int32) (l2 : Int32) (l3 : Int32) (l4 : Int32) (l5 : Int32) (l6 : Int64) (S : JS) (Q : JS → Prop) : Prop :=
  jA S l0 6 ∧ (¬ jR S l0 0 = none ∧ (jA S (jr S l0 0) 14 ∧ (vp_in (l2 + l5) (jZ S (jr S l0 0)) ∧ (∀ S13 : JS, S13 = uJ S (jr S l0 0) (l2 + l5).toNatClampNeg ((jJ S (jr S l0 0) (l2 + l5).toNatClampNeg) ||| l6) → (wX6_carry_80 X7 l0 l1 l2 l3 l4 l5 S13 Q)))))
set_option maxRecDepth 20000 in
theorem tX6_carry_23 {Q : JS → Prop} {X7 : Nat → Int32 → Int32 → Int32 → Int32 → Int32 → JS → Prop} (d : Nat) (hd : 1 ≤ d) (hX7 : ∀ l0 l1 l2 l3 l4 l5 S, X7 l0 l1 l2 l3 l4 l5 S → jLf (jCall jmt jbud d) jbud (fun j => (jmt j).rk) none mX6_carry (jqV Q) (7, [some (.ref l0), some (.int l1), some (.int l2), some (.int l3), some (.int l4), some (.int l5), none, none], [], S, 0, 0)) {l0 : Nat} {l1 : Int32} {l2 : Int32} {l3 : Int32} {l4 : Int32} {l5 : Int32} {l6 : Int64} {S : JS} (h : wX6_carry_23 X7 l0 l1 l2 l3 l4 l5 l6 S Q) : jLf (jCall jmt jbud d) jbud (fun j => (jmt j).rk) none mX6_carry (jqV Q) (23, [some (.ref l0), some (.int l1), some (.int l2), some (.int l3), some (.int l4), some (.int l5), some (.long l6), none], [], S, 0, 0) := by
  have hc := jCall_mono jmt jbud d
  unfold wX6_carry_23 at h
  obtain ⟨g9, g10, g11, g12, h⟩ := h
  refine jLf.bk hc 10 [jA S l0 6, ¬ jR S l0 0 = none, jA S (jr S l0 0) 14, vp_in (l2 + l5) (jZ S (jr S l0 0)), jA S (jr S l0 0) 14, vp_in (l2 + l5) (jZ S (jr S l0 0))] [some (.ref l0), some (.int l1), some (.int l2), some (.int l3), some (.int l4), some (.int l5), some (.long l6), none] [] (uJ S (jr S l0 0) (l2 + l5).toNatClampNeg ((jJ S (jr S l0 0) (l2 + l5).toNatClampNeg) ||| l6)) rfl rfl rfl ⟨g9, g10, g11, g12, g11, g12⟩ ?_
  generalize eS13 : uJ S (jr S l0 0) (l2 + l5).toNatClampNeg ((jJ S (jr S l0 0) (l2 + l5).toNatClampNeg) ||| l6) = S13
  have h := h S13 eS13.symm
  refine jLf.one hc _ rfl (gs := []) (c := (80, [some (.ref l0), some (.int l1), some (.int l2), some (.int l3), some (.int l4), some (.int l5), some (.long l6), none], [], S13, 0, 0)) rfl trivial ?_
  refine jLf.sub [some (.ref l0), some (.int l1), some (.int l2), some (.int l3), some (.int l4), some (.int l5), none, none] (jle_same (jle_same (jle_same (jle_same (jle_same (jle_same (jle_none (jle_same (jle_nil _))))))))) ?_
  exact tX6_carry_80 d hd hX7 h
def bX6_carry_7   (X7 : Nat → Int32 → Int32 → Int32 → Int32 → Int32 → JS → Prop) (l0 : Nat) (l1 : Int32) (l2 : Int32) (l3 : Int32) (l4 : Int32) (l5 : Int32) (S : JS) (Q : JS → Prop) : Prop :=
  (8 ≤ l5 → Q S) ∧ (¬ (8 ≤ l5) → jA S l0 6 ∧ (¬ jR S l0 0 = none ∧ (jA S (jr S l0 0) 14 ∧ (vp_in (l1 + l5) (jZ S (jr S l0 0)) ∧ (∀ x8 : Int64, x8 = (jJ S (jr S l0 0) (l1 + l5).toNatClampNeg) → ((l4 = 0 → wX6_carry_23 X7 l0 l1 l2 l3 l4 l5 x8 S Q) ∧ (¬ l4 = 0 → (¬ (lg_cmp x8 (0 : Int64)) = 0 → (6 ≤ l3 → vp_in (l2 + (l5 ||| ((1 : Int32) <<< ((l3 - (6 : Int32)) &&& 31)))) (jZ S (jr S l0 0)) ∧ (∀ S16 : JS, S16 = uJ S (jr S l0 0) (l2 + (l5 ||| ((1 : Int32) <<< ((l3 - (6 : Int32)) &&& 31)))).toNatClampNeg ((jJ S (jr S l0 0) (l2 + (l5 ||| ((1 : Int32) <<< ((l3 - (6 : Int32)) &&& 31)))).toNatClampNeg) ||| x8) → (wX6_carry_80 X7 l0 l1 l2 l3 l4 l5 S16 Q))) ∧ (¬ (6 ≤ l3) → vp_in (l2 + l5) (jZ S (jr S l0 0)) ∧ (vp_in l3 6 ∧ (vp_in l3 6 ∧ (∀ S18 : JS, S18 = uJ S (jr S l0 0) (l2 + l5).toNatClampNeg ((jJ S (jr S l0 0) (l2 + l5).toNatClampNeg) ||| ((x8 &&& ((jTW l3.toNatClampNeg) ^^^ (-1 : Int64))) ||| ((x8 &&& (jTW l3.toNatClampNeg)) <<< (((1 : Int32) <<< (l3 &&& 31)).toInt64 &&& 63)))) → (wX6_carry_80 X7 l0 l1 l2 l3 l4 l5 S18 Q)))))) ∧ ((lg_cmp x8 (0 : Int64)) = 0 → wX6_carry_23 X7 l0 l1 l2 l3 l4 l5 x8 S Q))))))))
set_option maxRecDepth 20000 in
theorem uX6_carry_7 {Q : JS → Prop}  (d : Nat) (hd : 1 ≤ d) {X7 : Nat → Int32 → Int32 → Int32 → Int32 → Int32 → JS → Prop} (hX7 : ∀ l0 l1 l2 l3 l4 l5 S, X7 l0 l1 l2 l3 l4 l5 S → jLf (jCall jmt jbud d) jbud (fun j => (jmt j).rk) none mX6_carry (jqV Q) (7, [some (.ref l0), some (.int l1), some (.int l2), some (.int l3), some (.int l4), some (.int l5), none, none], [], S, 0, 0)) {l0 : Nat} {l1 : Int32} {l2 : Int32} {l3 : Int32} {l4 : Int32} {l5 : Int32} {S : JS} (h : bX6_carry_7 X7 l0 l1 l2 l3 l4 l5 S Q) : jLf (jCall jmt jbud d) jbud (fun j => (jmt j).rk) none mX6_carry (jqV Q) (7, [some (.ref l0), some (.int l1), some (.int l2), some (.int l3), some (.int l4), some (.int l5), none, none], [], S, 0, 0) := by
  have hc := jCall_mono jmt jbud d
  unfold bX6_carry_7 at h
  refine jLf.bk hc 2 [] [some (.ref l0), some (.int l1), some (.int l2), some (.int l3), some (.int l4), some (.int l5), none, none] [.int 8, .int l5] S rfl rfl rfl trivial ?_
  refine jLf.two hc _ rfl (gs := []) (p1 := 8 ≤ l5) (p2 := ¬ (8 ≤ l5)) (c1 := (82, [some (.ref l0), some (.int l1), some (.int l2), some (.int l3), some (.int l4), some (.int l5), none, none], [], S, 0, 0)) (c2 := (10, [some (.ref l0), some (.int l1), some (.int l2), some (.int l3), some (.int l4), some (.int l5), none, none], [], S, 0, 0)) rfl trivial (fun hz => ?_) (fun hz => ?_)
  · have h := h.1 hz
    exact jLf.ret hc _ rfl (gs := [jrt none none]) (v := none) rfl trivial ⟨rfl, h⟩
  · have h := h.2 hz
    obtain ⟨g4, g5, g6, g7, h⟩ := h
    refine jLf.bk hc 7 [jA S l0 6, ¬ jR S l0 0 = none, jA S (jr S l0 0) 14, vp_in (l1 + l5) (jZ S (jr S l0 0))] [some (.ref l0), some (.int l1), some (.int l2), some (.int l3), some (.int l4), some (.int l5), some (.long (jJ S (jr S l0 0) (l1 + l5).toNatClampNeg)), none] [] S rfl rfl rfl ⟨g4, g5, g6, g7⟩ ?_
    generalize ex8 : (jJ S (jr S l0 0) (l1 + l5).toNatClampNeg : Int64) = x8
    have h := h x8 ex8.symm
    refine jLf.bk hc 1 [] [some (.ref l0), some (.int l1), some (.int l2), some (.int l3), some (.int l4), some (.int l5), some (.long x8), none] [.int l4] S rfl rfl rfl trivial ?_
    refine jLf.two hc _ rfl (gs := []) (p1 := l4 = 0) (p2 := ¬ (l4 = 0)) (c1 := (23, [some (.ref l0), some (.int l1), some (.int l2), some (.int l3), some (.int l4), some (.int l5), some (.long x8), none], [], S, 0, 0)) (c2 := (19, [some (.ref l0), some (.int l1), some (.int l2), some (.int l3), some (.int l4), some (.int l5), some (.long x8), none], [], S, 0, 0)) rfl trivial (fun hz => ?_) (fun hz => ?_)
    · have h := h.1 hz
      exact tX6_carry_23 d hd hX7 h
    · have h := h.2 hz
      refine jLf.bk hc 3 [] [some (.ref l0), some (.int l1), some (.int l2), some (.int l3), some (.int l4), some (.int l5), some (.long x8), none] [.int (lg_cmp x8 (0 : Int64))] S rfl rfl rfl trivial ?_
      refine jLf.two hc _ rfl (gs := []) (p1 := ¬ (lg_cmp x8 (0 : Int64)) = 0) (p2 := ¬ (¬ (lg_cmp x8 (0 : Int64)) = 0)) (c1 := (34, [some (.ref l0), some (.int l1), some (.int l2), some (.int l3), some (.int l4), some (.int l5), some (.long x8), none], [], S, 0, 0)) (c2 := (23, [some (.ref l0), some (.int l1), some (.int l2), some (.int l3), some (.int l4), some (.int l5), some (.long x8), none], [], S, 0, 0)) rfl trivial (fun hz => ?_) (fun hz => ?_)
      · have h := h.1 hz
        refine jLf.bk hc 2 [] [some (.ref l0), some (.int l1), some (.int l2), some (.int l3), some (.int l4), some (.int l5), some (.long x8), none] [.int 6, .int l3] S rfl rfl rfl trivial ?_
        refine jLf.two hc _ rfl (gs := []) (p1 := 6 ≤ l3) (p2 := ¬ (6 ≤ l3)) (c1 := (64, [some (.ref l0), some (.int l1), some (.int l2), some (.int l3), some (.int l4), some (.int l5), some (.long x8), none], [], S, 0, 0)) (c2 := (37, [some (.ref l0), some (.int l1), some (.int l2), some (.int l3), some (.int l4), some (.int l5), some (.long x8), none], [], S, 0, 0)) rfl trivial (fun hz => ?_) (fun hz => ?_)
        · have h := h.1 hz
          obtain ⟨g15, h⟩ := h
          refine jLf.bk hc 16 [jA S l0 6, ¬ jR S l0 0 = none, jA S (jr S l0 0) 14, vp_in (l2 + (l5 ||| ((1 : Int32) <<< ((l3 - (6 : Int32)) &&& 31)))) (jZ S (jr S l0 0)), jA S (jr S l0 0) 14, vp_in (l2 + (l5 ||| ((1 : Int32) <<< ((l3 - (6 : Int32)) &&& 31)))) (jZ S (jr S l0 0))] [some (.ref l0), some (.int l1), some (.int l2), some (.int l3), some (.int l4), some (.int l5), some (.long x8), none] [] (uJ S (jr S l0 0) (l2 + (l5 ||| ((1 : Int32) <<< ((l3 - (6 : Int32)) &&& 31)))).toNatClampNeg ((jJ S (jr S l0 0) (l2 + (l5 ||| ((1 : Int32) <<< ((l3 - (6 : Int32)) &&& 31)))).toNatClampNeg) ||| x8)) rfl rfl rfl ⟨g4, g5, g6, g15, g6, g15⟩ ?_
          generalize eS16 : uJ S (jr S l0 0) (l2 + (l5 ||| ((1 : Int32) <<< ((l3 - (6 : Int32)) &&& 31)))).toNatClampNeg ((jJ S (jr S l0 0) (l2 + (l5 ||| ((1 : Int32) <<< ((l3 - (6 : Int32)) &&& 31)))).toNatClampNeg) ||| x8) = S16
          have h := h S16 eS16.symm
          refine jLf.sub [some (.ref l0), some (.int l1), some (.int l2), some (.int l3), some (.int l4), some (.int l5), none, none] (jle_same (jle_same (jle_same (jle_same (jle_same (jle_same (jle_none (jle_same (jle_nil _))))))))) ?_
          exact tX6_carry_80 d hd hX7 h
        · have h := h.2 hz
          obtain ⟨g17, h⟩ := h
          refine jLf.bk hc 8 [jA S l0 6, ¬ jR S l0 0 = none, jA S (jr S l0 0) 14, vp_in (l2 + l5) (jZ S (jr S l0 0))] [some (.ref l0), some (.int l1), some (.int l2), some (.int l3), some (.int l4), some (.int l5), some (.long x8), none] [.long x8, .long (jJ S (jr S l0 0) (l2 + l5).toNatClampNeg), .int (l2 + l5), .ref (jr S l0 0)] S rfl rfl rfl ⟨g4, g5, g6, g17⟩ ?_
          refine jLf.one hc _ rfl (gs := []) (c := (46, [some (.ref l0), some (.int l1), some (.int l2), some (.int l3), some (.int l4), some (.int l5), some (.long x8), none], [.ref (jX + 1), .long x8, .long (jJ S (jr S l0 0) (l2 + l5).toNatClampNeg), .int (l2 + l5), .ref (jr S l0 0)], S, 0, 0)) rfl trivial ?_
          refine jLf.bk hc 1 [] [some (.ref l0), some (.int l1), some (.int l2), some (.int l3), some (.int l4), some (.int l5), some (.long x8), none] [.int l3, .ref (jX + 1), .long x8, .long (jJ S (jr S l0 0) (l2 + l5).toNatClampNeg), .int (l2 + l5), .ref (jr S l0 0)] S rfl rfl rfl trivial ?_
          obtain ⟨gb, h⟩ := h
          refine jLf.one hc _ rfl (gs := [(jX + 1) = jX + 1, vp_in l3 6]) (c := (48, [some (.ref l0), some (.int l1), some (.int l2), some (.int l3), some (.int l4), some (.int l5), some (.long x8), none], [.long (jTW l3.toNatClampNeg), .long x8, .long (jJ S (jr S l0 0) (l2 + l5).toNatClampNeg), .int (l2 + l5), .ref (jr S l0 0)], S, 0, 0)) rfl ⟨rfl, gb⟩ ?_
          refine jLf.bk hc 4 [] [some (.ref l0), some (.int l1), some (.int l2), some (.int l3), some (.int l4), some (.int l5), some (.long x8), none] [.long x8, .long (x8 &&& ((jTW l3.toNatClampNeg) ^^^ (-1 : Int64))), .long (jJ S (jr S l0 0) (l2 + l5).toNatClampNeg), .int (l2 + l5), .ref (jr S l0 0)] S rfl rfl rfl trivial ?_
          refine jLf.one hc _ rfl (gs := []) (c := (53, [some (.ref l0), some (.int l1), some (.int l2), some (.int l3), some (.int l4), some (.int l5), some (.long x8), none], [.ref (jX + 1), .long x8, .long (x8 &&& ((jTW l3.toNatClampNeg) ^^^ (-1 : Int64))), .long (jJ S (jr S l0 0) (l2 + l5).toNatClampNeg), .int (l2 + l5), .ref (jr S l0 0)], S, 0, 0)) rfl trivial ?_
          refine jLf.bk hc 1 [] [some (.ref l0), some (.int l1), some (.int l2), some (.int l3), some (.int l4), some (.int l5), some (.long x8), none] [.int l3, .ref (jX + 1), .long x8, .long (x8 &&& ((jTW l3.toNatClampNeg) ^^^ (-1 : Int64))), .long (jJ S (jr S l0 0) (l2 + l5).toNatClampNeg), .int (l2 + l5), .ref (jr S l0 0)] S rfl rfl rfl trivial ?_
          obtain ⟨gb, h⟩ := h
          refine jLf.one hc _ rfl (gs := [(jX + 1) = jX + 1, vp_in l3 6]) (c := (55, [some (.ref l0), some (.int l1), some (.int l2), some (.int l3), some (.int l4), some (.int l5), some (.long x8), none], [.long (jTW l3.toNatClampNeg), .long x8, .long (x8 &&& ((jTW l3.toNatClampNeg) ^^^ (-1 : Int64))), .long (jJ S (jr S l0 0) (l2 + l5).toNatClampNeg), .int (l2 + l5), .ref (jr S l0 0)], S, 0, 0)) rfl ⟨rfl, gb⟩ ?_
          refine jLf.bk hc 8 [jA S (jr S l0 0) 14, vp_in (l2 + l5) (jZ S (jr S l0 0))] [some (.ref l0), some (.int l1), some (.int l2), some (.int l3), some (.int l4), some (.int l5), some (.long x8), none] [] (uJ S (jr S l0 0) (l2 + l5).toNatClampNeg ((jJ S (jr S l0 0) (l2 + l5).toNatClampNeg) ||| ((x8 &&& ((jTW l3.toNatClampNeg) ^^^ (-1 : Int64))) ||| ((x8 &&& (jTW l3.toNatClampNeg)) <<< (((1 : Int32) <<< (l3 &&& 31)).toInt64 &&& 63))))) rfl rfl rfl ⟨g6, g17⟩ ?_
          generalize eS18 : uJ S (jr S l0 0) (l2 + l5).toNatClampNeg ((jJ S (jr S l0 0) (l2 + l5).toNatClampNeg) ||| ((x8 &&& ((jTW l3.toNatClampNeg) ^^^ (-1 : Int64))) ||| ((x8 &&& (jTW l3.toNatClampNeg)) <<< (((1 : Int32) <<< (l3 &&& 31)).toInt64 &&& 63)))) = S18
          have h := h S18 eS18.symm
          refine jLf.one hc _ rfl (gs := []) (c := (80, [some (.ref l0), some (.int l1), some (.int l2), some (.int l3), some (.int l4), some (.int l5), some (.long x8), none], [], S18, 0, 0)) rfl trivial ?_
          refine jLf.sub [some (.ref l0), some (.int l1), some (.int l2), some (.int l3), some (.int l4), some (.int l5), none, none] (jle_same (jle_same (jle_same (jle_same (jle_same (jle_same (jle_none (jle_same (jle_nil _))))))))) ?_
          exact tX6_carry_80 d hd hX7 h
      · have h := h.2 (Classical.not_not.mp hz)
        exact tX6_carry_23 d hd hX7 h
def wX6_carry_7   (l0 : Nat) (l1 : Int32) (l2 : Int32) (l3 : Int32) (l4 : Int32) (l5 : Int32) (S : JS) (Q : JS → Prop) : Prop :=
  jLoop (fun (X7 : Nat × Int32 × Int32 × Int32 × Int32 × Int32 × JS → Prop) q => bX6_carry_7 (fun l0 l1 l2 l3 l4 l5 S => X7 (l0, l1, l2, l3, l4, l5, S)) q.1 q.2.1 q.2.2.1 q.2.2.2.1 q.2.2.2.2.1 q.2.2.2.2.2.1 q.2.2.2.2.2.2 Q) (l0, l1, l2, l3, l4, l5, S)
set_option maxRecDepth 20000 in
theorem tX6_carry_7 {Q : JS → Prop}  (d : Nat) (hd : 1 ≤ d) {l0 : Nat} {l1 : Int32} {l2 : Int32} {l3 : Int32} {l4 : Int32} {l5 : Int32} {S : JS} (h : wX6_carry_7 l0 l1 l2 l3 l4 l5 S Q) : jLf (jCall jmt jbud d) jbud (fun j => (jmt j).rk) none mX6_carry (jqV Q) (7, [some (.ref l0), some (.int l1), some (.int l2), some (.int l3), some (.int l4), some (.int l5), none, none], [], S, 0, 0) := by
  have := h (fun q : Nat × Int32 × Int32 × Int32 × Int32 × Int32 × JS => jLf (jCall jmt jbud d) jbud (fun j => (jmt j).rk) none mX6_carry (jqV Q) (7, [some (.ref (q.1)), some (.int (q.2.1)), some (.int (q.2.2.1)), some (.int (q.2.2.2.1)), some (.int (q.2.2.2.2.1)), some (.int (q.2.2.2.2.2.1)), none, none], [], q.2.2.2.2.2.2, 0, 0)) (fun q R hb hR => uX6_carry_7 d hd  (fun _ _ _ _ _ _ _ => hR _) hb)
  exact this
def wX6_carry  (this : Nat) (p1 : Int32) (p2 : Int32) (p3 : Int32) (S : JS) (Q : JS → Prop) : Prop :=
  jA S this 6 ∧ (wX11_hasBit (jI S this 1) p3 S (fun r3 S2 => wX6_carry_7 this p1 p2 p3 r3 0 S2 Q))
set_option maxRecDepth 20000 in
theorem vX6_carry {Q : JS → Prop} (d : Nat) (hd : 2 ≤ d) {this : Nat} {p1 : Int32} {p2 : Int32} {p3 : Int32} {S : JS} (h : wX6_carry this p1 p2 p3 S Q) : jCall jmt jbud d 62 [.ref this, .int p1, .int p2, .int p3] S (jqV Q) := by
  obtain ⟨d, rfl⟩ : ∃ d2, d = d2 + 1 := ⟨d - 1, by omega⟩
  have hd : 1 ≤ d := by omega
  have hc := jCall_mono jmt jbud d
  unfold wX6_carry at h
  refine ⟨Nat.le_of_ble_eq_true rfl, ?_⟩
  show jLf (jCall jmt jbud d) jbud (fun j => (jmt j).rk) none mX6_carry (jqV Q) (0, [some (.ref this), some (.int p1), some (.int p2), some (.int p3), none, none, none, none], [], S, 0, 0)
  obtain ⟨g1, h⟩ := h
  refine jLf.bk hc 3 [jA S this 6] [some (.ref this), some (.int p1), some (.int p2), some (.int p3), none, none, none, none] [.int p3, .int (jI S this 1)] S rfl rfl rfl g1 ?_
  refine jLf.inv hc _ rfl (gs := [2 ≤ ([.int p3, .int (jI S this 1)] : List Value).length, (([] : List Value).map fun v => v.category).sum ≤ 8, 0 ≤ 0, 0 ≤ 0]) (k := 145) (args := [.int (jI S this 1), .int p3]) (r := []) (a := 0) (b := 0) rfl ⟨Nat.le_of_ble_eq_true rfl, Nat.le_of_ble_eq_true rfl, Nat.zero_le _, Nat.zero_le _⟩ (vX11_hasBit d (by omega) h) ?_
  rintro v S2 ⟨r3, rfl, h⟩
  show jLf (jCall jmt jbud d) jbud (fun j => (jmt j).rk) none mX6_carry (jqV Q) (4, [some (.ref this), some (.int p1), some (.int p2), some (.int p3), none, none, none, none], [.int r3], S2, 0, 0)
  refine jLf.bk hc 3 [] [some (.ref this), some (.int p1), some (.int p2), some (.int p3), some (.int r3), some (.int 0), none, none] [] S2 rfl rfl rfl trivial ?_
  exact tX6_carry_7 d hd  h
def wX6_spread_32  (X2 : Nat → Nat → Int32 → Int32 → JS → Prop) (X12 : Nat → Nat → Int32 → Int32 → Int32 → Int32 → JS → Prop) (l0 : Nat) (l1 : Nat) (l2 : Int32) (l3 : Int32) (l4 : Int32) (l5 : Int32) (S : JS) (Q : JS → Prop) : Prop :=
  ∀ x7 : Int32, x7 = (l5 + 1) → (X12 l0 l1 l2 l3 l4 x7 S)
set_option maxRecDepth 20000 in
theorem tX6_spread_32 {Q : JS → Prop} {X2 : Nat → Nat → Int32 → Int32 → JS → Prop} {X12 : Nat → Nat → Int32 → Int32 → Int32 → Int32 → JS → Prop} (d : Nat) (hd : 2 ≤ d) (hX2 : ∀ l0 l1 l2 l3 S, X2 l0 l1 l2 l3 S → jLf (jCall jmt jbud d) jbud (fun j => (jmt j).rk) none mX6_spread (jqV Q) (2, [some (.ref l0), some (.ref l1), some (.int l2), some (.int l3), none, none], [], S, 0, 0)) (hX12 : ∀ l0 l1 l2 l3 l4 l5 S, X12 l0 l1 l2 l3 l4 l5 S → jLf (jCall jmt jbud d) jbud (fun j => (jmt j).rk) none mX6_spread (jqV Q) (12, [some (.ref l0), some (.ref l1), some (.int l2), some (.int l3), some (.int l4), some (.int l5)], [], S, 0, 0)) {l0 : Nat} {l1 : Nat} {l2 : Int32} {l3 : Int32} {l4 : Int32} {l5 : Int32} {S : JS} (h : wX6_spread_32 X2 X12 l0 l1 l2 l3 l4 l5 S Q) : jLf (jCall jmt jbud d) jbud (fun j => (jmt j).rk) none mX6_spread (jqV Q) (32, [some (.ref l0), some (.ref l1), some (.int l2), some (.int l3), some (.int l4), some (.int l5)], [], S, 0, 0) := by
  have hc := jCall_mono jmt jbud d
  unfold wX6_spread_32 at h
  refine jLf.bk hc 1 [] [some (.ref l0), some (.ref l1), some (.int l2), some (.int l3), some (.int l4), some (.int (l5 + 1))] [] S rfl rfl rfl trivial ?_
  generalize ex7 : (l5 + 1 : Int32) = x7
  have h := h x7 ex7.symm
  refine jLf.one hc _ rfl (gs := []) (c := (12, [some (.ref l0), some (.ref l1), some (.int l2), some (.int l3), some (.int l4), some (.int x7)], [], S, 0, 0)) rfl trivial ?_
  exact hX12 _ _ _ _ _ _ _ h
def bX6_spread_12  (X2 : Nat → Nat → Int32 → Int32 → JS → Prop) (X12 : Nat → Nat → Int32 → Int32 → Int32 → Int32 → JS → Prop) (l0 : Nat) (l1 : Nat) (l2 : Int32) (l3 : Int32) (l4 : Int32) (l5 : Int32) (S : JS) (Q : JS → Prop) : Prop :=
  (9 ≤ l5 → ∀ x4 : Int32, x4 = (l3 + 1) → (X2 l0 l1 l2 x4 S)) ∧ (¬ (9 ≤ l5) → wX11_hasBit l4 l5 S (fun r6 S5 => (r6 = 0 → wX6_spread_32 X2 X12 l0 l1 l2 l3 l4 l5 S5 Q) ∧ (¬ r6 = 0 → wX6_wordOf l3 l2 0 S5 (fun r9 S8 => wX6_wordOf l5 (l2 + (1 : Int32)) 0 S8 (fun r11 S10 => jA S10 l0 6 ∧ (wX6_carry l0 r9 r11 l5 S10 (fun S12 => wX6_spread_32 X2 X12 l0 l1 l2 l3 l4 l5 S12 Q)))))))
set_option maxRecDepth 20000 in
theorem uX6_spread_12 {Q : JS → Prop} {X2 : Nat → Nat → Int32 → Int32 → JS → Prop} (d : Nat) (hd : 2 ≤ d) (hX2 : ∀ l0 l1 l2 l3 S, X2 l0 l1 l2 l3 S → jLf (jCall jmt jbud d) jbud (fun j => (jmt j).rk) none mX6_spread (jqV Q) (2, [some (.ref l0), some (.ref l1), some (.int l2), some (.int l3), none, none], [], S, 0, 0)) {X12 : Nat → Nat → Int32 → Int32 → Int32 → Int32 → JS → Prop} (hX12 : ∀ l0 l1 l2 l3 l4 l5 S, X12 l0 l1 l2 l3 l4 l5 S → jLf (jCall jmt jbud d) jbud (fun j => (jmt j).rk) none mX6_spread (jqV Q) (12, [some (.ref l0), some (.ref l1), some (.int l2), some (.int l3), some (.int l4), some (.int l5)], [], S, 0, 0)) {l0 : Nat} {l1 : Nat} {l2 : Int32} {l3 : Int32} {l4 : Int32} {l5 : Int32} {S : JS} (h : bX6_spread_12 X2 X12 l0 l1 l2 l3 l4 l5 S Q) : jLf (jCall jmt jbud d) jbud (fun j => (jmt j).rk) none mX6_spread (jqV Q) (12, [some (.ref l0), some (.ref l1), some (.int l2), some (.int l3), some (.int l4), some (.int l5)], [], S, 0, 0) := by
  have hc := jCall_mono jmt jbud d
  unfold bX6_spread_12 at h
  refine jLf.bk hc 2 [] [some (.ref l0), some (.ref l1), some (.int l2), some (.int l3), some (.int l4), some (.int l5)] [.int 9, .int l5] S rfl rfl rfl trivial ?_
  refine jLf.two hc _ rfl (gs := []) (p1 := 9 ≤ l5) (p2 := ¬ (9 ≤ l5)) (c1 := (34, [some (.ref l0), some (.ref l1), some (.int l2), some (.int l3), some (.int l4), some (.int l5)], [], S, 0, 0)) (c2 := (15, [some (.ref l0), some (.ref l1), some (.int l2), some (.int l3), some (.int l4), some (.int l5)], [], S, 0, 0)) rfl trivial (fun hz => ?_) (fun hz => ?_)
  · have h := h.1 hz
    refine jLf.bk hc 1 [] [some (.ref l0), some (.ref l1), some (.int l2), some (.int (l3 + 1)), some (.int l4), some (.int l5)] [] S rfl rfl rfl trivial ?_
    generalize ex4 : (l3 + 1 : Int32) = x4
    have h := h x4 ex4.symm
    refine jLf.one hc _ rfl (gs := []) (c := (2, [some (.ref l0), some (.ref l1), some (.int l2), some (.int x4), some (.int l4), some (.int l5)], [], S, 0, 0)) rfl trivial ?_
    refine jLf.sub [some (.ref l0), some (.ref l1), some (.int l2), some (.int x4), none, none] (jle_same (jle_same (jle_same (jle_same (jle_none (jle_none (jle_nil _))))))) ?_
    exact hX2 _ _ _ _ _ h
  · have h := h.2 hz
    refine jLf.bk hc 2 [] [some (.ref l0), some (.ref l1), some (.int l2), some (.int l3), some (.int l4), some (.int l5)] [.int l5, .int l4] S rfl rfl rfl trivial ?_
    refine jLf.inv hc _ rfl (gs := [2 ≤ ([.int l5, .int l4] : List Value).length, (([] : List Value).map fun v => v.category).sum ≤ 8, 0 ≤ 0, 0 ≤ 0]) (k := 145) (args := [.int l4, .int l5]) (r := []) (a := 0) (b := 0) rfl ⟨Nat.le_of_ble_eq_true rfl, Nat.le_of_ble_eq_true rfl, Nat.zero_le _, Nat.zero_le _⟩ (vX11_hasBit d (by omega) h) ?_
    rintro v S5 ⟨r6, rfl, h⟩
    show jLf (jCall jmt jbud d) jbud (fun j => (jmt j).rk) none mX6_spread (jqV Q) (18, [some (.ref l0), some (.ref l1), some (.int l2), some (.int l3), some (.int l4), some (.int l5)], [.int r6], S5, 0, 0)
    refine jLf.two hc _ rfl (gs := []) (p1 := r6 = 0) (p2 := ¬ (r6 = 0)) (c1 := (32, [some (.ref l0), some (.ref l1), some (.int l2), some (.int l3), some (.int l4), some (.int l5)], [], S5, 0, 0)) (c2 := (19, [some (.ref l0), some (.ref l1), some (.int l2), some (.int l3), some (.int l4), some (.int l5)], [], S5, 0, 0)) rfl trivial (fun hz => ?_) (fun hz => ?_)
    · have h := h.1 hz
      exact tX6_spread_32 d hd hX2 hX12 h
    · have h := h.2 hz
      refine jLf.bk hc 4 [] [some (.ref l0), some (.ref l1), some (.int l2), some (.int l3), some (.int l4), some (.int l5)] [.int 0, .int l2, .int l3, .ref l0] S5 rfl rfl rfl trivial ?_
      refine jLf.inv hc _ rfl (gs := [3 ≤ ([.int 0, .int l2, .int l3, .ref l0] : List Value).length, (([.ref l0] : List Value).map fun v => v.category).sum ≤ 8, 0 ≤ 0, 0 ≤ 0]) (k := 69) (args := [.int l3, .int l2, .int 0]) (r := [.ref l0]) (a := 0) (b := 0) rfl ⟨Nat.le_of_ble_eq_true rfl, Nat.le_of_ble_eq_true rfl, Nat.zero_le _, Nat.zero_le _⟩ (vX6_wordOf d (by omega) h) ?_
      rintro v S8 ⟨r9, rfl, h⟩
      show jLf (jCall jmt jbud d) jbud (fun j => (jmt j).rk) none mX6_spread (jqV Q) (24, [some (.ref l0), some (.ref l1), some (.int l2), some (.int l3), some (.int l4), some (.int l5)], [.int r9, .ref l0], S8, 0, 0)
      refine jLf.bk hc 5 [] [some (.ref l0), some (.ref l1), some (.int l2), some (.int l3), some (.int l4), some (.int l5)] [.int 0, .int (l2 + (1 : Int32)), .int l5, .int r9, .ref l0] S8 rfl rfl rfl trivial ?_
      refine jLf.inv hc _ rfl (gs := [3 ≤ ([.int 0, .int (l2 + (1 : Int32)), .int l5, .int r9, .ref l0] : List Value).length, (([.int r9, .ref l0] : List Value).map fun v => v.category).sum ≤ 8, 0 ≤ 0, 0 ≤ 0]) (k := 69) (args := [.int l5, .int (l2 + (1 : Int32)), .int 0]) (r := [.int r9, .ref l0]) (a := 0) (b := 0) rfl ⟨Nat.le_of_ble_eq_true rfl, Nat.le_of_ble_eq_true rfl, Nat.zero_le _, Nat.zero_le _⟩ (vX6_wordOf d (by omega) h) ?_
      rintro v S10 ⟨r11, rfl, h⟩
      show jLf (jCall jmt jbud d) jbud (fun j => (jmt j).rk) none mX6_spread (jqV Q) (30, [some (.ref l0), some (.ref l1), some (.int l2), some (.int l3), some (.int l4), some (.int l5)], [.int r11, .int r9, .ref l0], S10, 0, 0)
      refine jLf.bk hc 1 [] [some (.ref l0), some (.ref l1), some (.int l2), some (.int l3), some (.int l4), some (.int l5)] [.int l5, .int r11, .int r9, .ref l0] S10 rfl rfl rfl trivial ?_
      obtain ⟨g14, h⟩ := h
      refine jLf.inv hc _ rfl (gs := [jA S10 l0 6, (([] : List Value).map fun v => v.category).sum ≤ 8, 0 ≤ 0, 0 ≤ 0]) (k := 62) (args := [.ref l0, .int r9, .int r11, .int l5]) (r := []) (a := 0) (b := 0) rfl ⟨g14, Nat.le_of_ble_eq_true rfl, Nat.zero_le _, Nat.zero_le _⟩ (vX6_carry d (by omega) h) ?_
      rintro v S12 ⟨rfl, h⟩
      show jLf (jCall jmt jbud d) jbud (fun j => (jmt j).rk) none mX6_spread (jqV Q) (32, [some (.ref l0), some (.ref l1), some (.int l2), some (.int l3), some (.int l4), some (.int l5)], [], S12, 0, 0)
      exact tX6_spread_32 d hd hX2 hX12 h
def wX6_spread_12  (X2 : Nat → Nat → Int32 → Int32 → JS → Prop) (l0 : Nat) (l1 : Nat) (l2 : Int32) (l3 : Int32) (l4 : Int32) (l5 : Int32) (S : JS) (Q : JS → Prop) : Prop :=
  jLoop (fun (X12 : Nat × Nat × Int32 × Int32 × Int32 × Int32 × JS → Prop) q => bX6_spread_12 X2 (fun l0 l1 l2 l3 l4 l5 S => X12 (l0, l1, l2, l3, l4, l5, S)) q.1 q.2.1 q.2.2.1 q.2.2.2.1 q.2.2.2.2.1 q.2.2.2.2.2.1 q.2.2.2.2.2.2 Q) (l0, l1, l2, l3, l4, l5, S)
set_option maxRecDepth 20000 in
theorem tX6_spread_12 {Q : JS → Prop} {X2 : Nat → Nat → Int32 → Int32 → JS → Prop} (d : Nat) (hd : 2 ≤ d) (hX2 : ∀ l0 l1 l2 l3 S, X2 l0 l1 l2 l3 S → jLf (jCall jmt jbud d) jbud (fun j => (jmt j).rk) none mX6_spread (jqV Q) (2, [some (.ref l0), some (.ref l1), some (.int l2), some (.int l3), none, none], [], S, 0, 0)) {l0 : Nat} {l1 : Nat} {l2 : Int32} {l3 : Int32} {l4 : Int32} {l5 : Int32} {S : JS} (h : wX6_spread_12 X2 l0 l1 l2 l3 l4 l5 S Q) : jLf (jCall jmt jbud d) jbud (fun j => (jmt j).rk) none mX6_spread (jqV Q) (12, [some (.ref l0), some (.ref l1), some (.int l2), some (.int l3), some (.int l4), some (.int l5)], [], S, 0, 0) := by
  have := h (fun q : Nat × Nat × Int32 × Int32 × Int32 × Int32 × JS => jLf (jCall jmt jbud d) jbud (fun j => (jmt j).rk) none mX6_spread (jqV Q) (12, [some (.ref (q.1)), some (.ref (q.2.1)), some (.int (q.2.2.1)), some (.int (q.2.2.2.1)), some (.int (q.2.2.2.2.1)), some (.int (q.2.2.2.2.2.1))], [], q.2.2.2.2.2.2, 0, 0)) (fun q R hb hR => uX6_spread_12 d hd hX2 (fun _ _ _ _ _ _ _ => hR _) hb)
  exact this
def bX6_spread_2   (X2 : Nat → Nat → Int32 → Int32 → JS → Prop) (l0 : Nat) (l1 : Nat) (l2 : Int32) (l3 : Int32) (S : JS) (Q : JS → Prop) : Prop :=
  (9 ≤ l3 → Q S) ∧ (¬ (9 ≤ l3) → jA S l1 1 ∧ (wX1_steps l1 l3 l2 S (fun r2 S1 => wX6_spread_12 X2 l0 l1 l2 l3 r2 0 S1 Q)))
set_option maxRecDepth 20000 in
theorem uX6_spread_2 {Q : JS → Prop}  (d : Nat) (hd : 2 ≤ d) {X2 : Nat → Nat → Int32 → Int32 → JS → Prop} (hX2 : ∀ l0 l1 l2 l3 S, X2 l0 l1 l2 l3 S → jLf (jCall jmt jbud d) jbud (fun j => (jmt j).rk) none mX6_spread (jqV Q) (2, [some (.ref l0), some (.ref l1), some (.int l2), some (.int l3), none, none], [], S, 0, 0)) {l0 : Nat} {l1 : Nat} {l2 : Int32} {l3 : Int32} {S : JS} (h : bX6_spread_2 X2 l0 l1 l2 l3 S Q) : jLf (jCall jmt jbud d) jbud (fun j => (jmt j).rk) none mX6_spread (jqV Q) (2, [some (.ref l0), some (.ref l1), some (.int l2), some (.int l3), none, none], [], S, 0, 0) := by
  have hc := jCall_mono jmt jbud d
  unfold bX6_spread_2 at h
  refine jLf.bk hc 2 [] [some (.ref l0), some (.ref l1), some (.int l2), some (.int l3), none, none] [.int 9, .int l3] S rfl rfl rfl trivial ?_
  refine jLf.two hc _ rfl (gs := []) (p1 := 9 ≤ l3) (p2 := ¬ (9 ≤ l3)) (c1 := (36, [some (.ref l0), some (.ref l1), some (.int l2), some (.int l3), none, none], [], S, 0, 0)) (c2 := (5, [some (.ref l0), some (.ref l1), some (.int l2), some (.int l3), none, none], [], S, 0, 0)) rfl trivial (fun hz => ?_) (fun hz => ?_)
  · have h := h.1 hz
    exact jLf.ret hc _ rfl (gs := [jrt none none]) (v := none) rfl trivial ⟨rfl, h⟩
  · have h := h.2 hz
    refine jLf.bk hc 3 [] [some (.ref l0), some (.ref l1), some (.int l2), some (.int l3), none, none] [.int l2, .int l3, .ref l1] S rfl rfl rfl trivial ?_
    obtain ⟨g3, h⟩ := h
    refine jLf.inv hc _ rfl (gs := [jA S l1 1, (([] : List Value).map fun v => v.category).sum ≤ 8, 0 ≤ 0, 0 ≤ 0]) (k := 15) (args := [.ref l1, .int l3, .int l2]) (r := []) (a := 0) (b := 0) rfl ⟨g3, Nat.le_of_ble_eq_true rfl, Nat.zero_le _, Nat.zero_le _⟩ (vX1_steps d (by omega) h) ?_
    rintro v S1 ⟨r2, rfl, h⟩
    show jLf (jCall jmt jbud d) jbud (fun j => (jmt j).rk) none mX6_spread (jqV Q) (9, [some (.ref l0), some (.ref l1), some (.int l2), some (.int l3), none, none], [.int r2], S1, 0, 0)
    refine jLf.bk hc 3 [] [some (.ref l0), some (.ref l1), some (.int l2), some (.int l3), some (.int r2), some (.int 0)] [] S1 rfl rfl rfl trivial ?_
    exact tX6_spread_12 d hd hX2 h
def wX6_spread_2   (l0 : Nat) (l1 : Nat) (l2 : Int32) (l3 : Int32) (S : JS) (Q : JS → Prop) : Prop :=
  jLoop (fun (X2 : Nat × Nat × Int32 × Int32 × JS → Prop) q => bX6_spread_2 (fun l0 l1 l2 l3 S => X2 (l0, l1, l2, l3, S)) q.1 q.2.1 q.2.2.1 q.2.2.2.1 q.2.2.2.2 Q) (l0, l1, l2, l3, S)
set_option maxRecDepth 20000 in
theorem tX6_spread_2 {Q : JS → Prop}  (d : Nat) (hd : 2 ≤ d) {l0 : Nat} {l1 : Nat} {l2 : Int32} {l3 : Int32} {S : JS} (h : wX6_spread_2 l0 l1 l2 l3 S Q) : jLf (jCall jmt jbud d) jbud (fun j => (jmt j).rk) none mX6_spread (jqV Q) (2, [some (.ref l0), some (.ref l1), some (.int l2), some (.int l3), none, none], [], S, 0, 0) := by
  have := h (fun q : Nat × Nat × Int32 × Int32 × JS => jLf (jCall jmt jbud d) jbud (fun j => (jmt j).rk) none mX6_spread (jqV Q) (2, [some (.ref (q.1)), some (.ref (q.2.1)), some (.int (q.2.2.1)), some (.int (q.2.2.2.1)), none, none], [], q.2.2.2.2, 0, 0)) (fun q R hb hR => uX6_spread_2 d hd  (fun _ _ _ _ _ => hR _) hb)
  exact this
def wX6_spread  (this : Nat) (p1 : Nat) (p2 : Int32) (S : JS) (Q : JS → Prop) : Prop :=
  wX6_spread_2 this p1 p2 0 S Q
set_option maxRecDepth 20000 in
theorem vX6_spread {Q : JS → Prop} (d : Nat) (hd : 3 ≤ d) {this : Nat} {p1 : Nat} {p2 : Int32} {S : JS} (h : wX6_spread this p1 p2 S Q) : jCall jmt jbud d 61 [.ref this, .ref p1, .int p2] S (jqV Q) := by
  obtain ⟨d, rfl⟩ : ∃ d2, d = d2 + 1 := ⟨d - 1, by omega⟩
  have hd : 2 ≤ d := by omega
  have hc := jCall_mono jmt jbud d
  unfold wX6_spread at h
  refine ⟨Nat.le_of_ble_eq_true rfl, ?_⟩
  show jLf (jCall jmt jbud d) jbud (fun j => (jmt j).rk) none mX6_spread (jqV Q) (0, [some (.ref this), some (.ref p1), some (.int p2), none, none, none], [], S, 0, 0)
  refine jLf.bk hc 2 [] [some (.ref this), some (.ref p1), some (.int p2), some (.int 0), none, none] [] S rfl rfl rfl trivial ?_
  exact tX6_spread_2 d hd  h
def wX6_put  (this : Nat) (p1 : Int32) (p2 : Int32) (p3 : Int32) (S : JS) (Q : JS → Prop) : Prop :=
  jA S this 6 ∧ (¬ jR S this 0 = none ∧ (wX6_wordOf p1 p2 p3 S (fun r4 S3 => jA S3 (jr S this 0) 14 ∧ (vp_in r4 (jZ S3 (jr S this 0)) ∧ (∀ S7 : JS, S7 = uJ S3 (jr S this 0) r4.toNatClampNeg ((jJ S3 (jr S this 0) r4.toNatClampNeg) ||| ((1 : Int64) <<< ((p3 &&& (63 : Int32)).toInt64 &&& 63))) → (Q S7))))))
set_option maxRecDepth 20000 in
theorem vX6_put {Q : JS → Prop} (d : Nat) (hd : 2 ≤ d) {this : Nat} {p1 : Int32} {p2 : Int32} {p3 : Int32} {S : JS} (h : wX6_put this p1 p2 p3 S Q) : jCall jmt jbud d 67 [.ref this, .int p1, .int p2, .int p3] S (jqV Q) := by
  obtain ⟨d, rfl⟩ : ∃ d2, d = d2 + 1 := ⟨d - 1, by omega⟩
  have hd : 1 ≤ d := by omega
  have hc := jCall_mono jmt jbud d
  unfold wX6_put at h
  refine ⟨Nat.le_of_ble_eq_true rfl, ?_⟩
  show jLf (jCall jmt jbud d) jbud (fun j => (jmt j).rk) none mX6_put (jqV Q) (0, [some (.ref this), some (.int p1), some (.int p2), some (.int p3)], [], S, 0, 0)
  obtain ⟨g1, g2, h⟩ := h
  refine jLf.bk hc 5 [jA S this 6, ¬ jR S this 0 = none] [some (.ref this), some (.int p1), some (.int p2), some (.int p3)] [.int p3, .int p2, .int p1, .ref (jr S this 0)] S rfl rfl rfl ⟨g1, g2⟩ ?_
  refine jLf.inv hc _ rfl (gs := [3 ≤ ([.int p3, .int p2, .int p1, .ref (jr S this 0)] : List Value).length, (([.ref (jr S this 0)] : List Value).map fun v => v.category).sum ≤ 8, 0 ≤ 0, 0 ≤ 0]) (k := 69) (args := [.int p1, .int p2, .int p3]) (r := [.ref (jr S this 0)]) (a := 0) (b := 0) rfl ⟨Nat.le_of_ble_eq_true rfl, Nat.le_of_ble_eq_true rfl, Nat.zero_le _, Nat.zero_le _⟩ (vX6_wordOf d (by omega) h) ?_
  rintro v S3 ⟨r4, rfl, h⟩
  show jLf (jCall jmt jbud d) jbud (fun j => (jmt j).rk) none mX6_put (jqV Q) (6, [some (.ref this), some (.int p1), some (.int p2), some (.int p3)], [.int r4, .ref (jr S this 0)], S3, 0, 0)
  obtain ⟨g5, g6, h⟩ := h
  refine jLf.bk hc 9 [jA S3 (jr S this 0) 14, vp_in r4 (jZ S3 (jr S this 0)), jA S3 (jr S this 0) 14, vp_in r4 (jZ S3 (jr S this 0))] [some (.ref this), some (.int p1), some (.int p2), some (.int p3)] [] (uJ S3 (jr S this 0) r4.toNatClampNeg ((jJ S3 (jr S this 0) r4.toNatClampNeg) ||| ((1 : Int64) <<< ((p3 &&& (63 : Int32)).toInt64 &&& 63)))) rfl rfl rfl ⟨g5, g6, g5, g6⟩ ?_
  generalize eS7 : uJ S3 (jr S this 0) r4.toNatClampNeg ((jJ S3 (jr S this 0) r4.toNatClampNeg) ||| ((1 : Int64) <<< ((p3 &&& (63 : Int32)).toInt64 &&& 63))) = S7
  have h := h S7 eS7.symm
  exact jLf.ret hc _ rfl (gs := [jrt none none]) (v := none) rfl trivial ⟨rfl, h⟩
def bJ7_fill_d0a16_5   (X5 : Nat → Int64 → Int32 → Int32 → JS → Prop) (l0 : Nat) (l1 : Int64) (l3 : Int32) (l4 : Int32) (S : JS) (Q : JS → Prop) : Prop :=
  (l4 ≤ l3 → Q S) ∧ (¬ (l4 ≤ l3) → jA S l0 14 ∧ (vp_in l3 (jZ S l0) ∧ (∀ S5 : JS, S5 = uJ S l0 l3.toNatClampNeg l1 → (∀ x6 : Int32, x6 = (l3 + 1) → (X5 l0 l1 x6 l4 S5)))))
set_option maxRecDepth 20000 in
theorem uJ7_fill_d0a16_5 {Q : JS → Prop}  (d : Nat) (hd : 0 ≤ d) {X5 : Nat → Int64 → Int32 → Int32 → JS → Prop} (hX5 : ∀ l0 l1 l3 l4 S, X5 l0 l1 l3 l4 S → jLf (jCall jmt jbud d) jbud (fun j => (jmt j).rk) none mJ7_fill_d0a16 (jqV Q) (5, [some (.ref l0), some (.long l1), none, some (.int l3), some (.int l4)], [], S, 0, 0)) {l0 : Nat} {l1 : Int64} {l3 : Int32} {l4 : Int32} {S : JS} (h : bJ7_fill_d0a16_5 X5 l0 l1 l3 l4 S Q) : jLf (jCall jmt jbud d) jbud (fun j => (jmt j).rk) none mJ7_fill_d0a16 (jqV Q) (5, [some (.ref l0), some (.long l1), none, some (.int l3), some (.int l4)], [], S, 0, 0) := by
  have hc := jCall_mono jmt jbud d
  unfold bJ7_fill_d0a16_5 at h
  refine jLf.bk hc 2 [] [some (.ref l0), some (.long l1), none, some (.int l3), some (.int l4)] [.int l4, .int l3] S rfl rfl rfl trivial ?_
  refine jLf.two hc _ rfl (gs := []) (p1 := l4 ≤ l3) (p2 := ¬ (l4 ≤ l3)) (c1 := (14, [some (.ref l0), some (.long l1), none, some (.int l3), some (.int l4)], [], S, 0, 0)) (c2 := (8, [some (.ref l0), some (.long l1), none, some (.int l3), some (.int l4)], [], S, 0, 0)) rfl trivial (fun hz => ?_) (fun hz => ?_)
  · have h := h.1 hz
    exact jLf.ret hc _ rfl (gs := [jrt none none]) (v := none) rfl trivial ⟨rfl, h⟩
  · have h := h.2 hz
    obtain ⟨g3, g4, h⟩ := h
    refine jLf.bk hc 4 [jA S l0 14, vp_in l3 (jZ S l0)] [some (.ref l0), some (.long l1), none, some (.int l3), some (.int l4)] [] (uJ S l0 l3.toNatClampNeg l1) rfl rfl rfl ⟨g3, g4⟩ ?_
    generalize eS5 : uJ S l0 l3.toNatClampNeg l1 = S5
    have h := h S5 eS5.symm
    refine jLf.bk hc 1 [] [some (.ref l0), some (.long l1), none, some (.int (l3 + 1)), some (.int l4)] [] S5 rfl rfl rfl trivial ?_
    generalize ex6 : (l3 + 1 : Int32) = x6
    have h := h x6 ex6.symm
    refine jLf.one hc _ rfl (gs := []) (c := (5, [some (.ref l0), some (.long l1), none, some (.int x6), some (.int l4)], [], S5, 0, 0)) rfl trivial ?_
    exact hX5 _ _ _ _ _ h
def wJ7_fill_d0a16_5   (l0 : Nat) (l1 : Int64) (l3 : Int32) (l4 : Int32) (S : JS) (Q : JS → Prop) : Prop :=
  jLoop (fun (X5 : Nat × Int64 × Int32 × Int32 × JS → Prop) q => bJ7_fill_d0a16_5 (fun l0 l1 l3 l4 S => X5 (l0, l1, l3, l4, S)) q.1 q.2.1 q.2.2.1 q.2.2.2.1 q.2.2.2.2 Q) (l0, l1, l3, l4, S)
set_option maxRecDepth 20000 in
theorem tJ7_fill_d0a16_5 {Q : JS → Prop}  (d : Nat) (hd : 0 ≤ d) {l0 : Nat} {l1 : Int64} {l3 : Int32} {l4 : Int32} {S : JS} (h : wJ7_fill_d0a16_5 l0 l1 l3 l4 S Q) : jLf (jCall jmt jbud d) jbud (fun j => (jmt j).rk) none mJ7_fill_d0a16 (jqV Q) (5, [some (.ref l0), some (.long l1), none, some (.int l3), some (.int l4)], [], S, 0, 0) := by
  have := h (fun q : Nat × Int64 × Int32 × Int32 × JS => jLf (jCall jmt jbud d) jbud (fun j => (jmt j).rk) none mJ7_fill_d0a16 (jqV Q) (5, [some (.ref (q.1)), some (.long (q.2.1)), none, some (.int (q.2.2.1)), some (.int (q.2.2.2.1))], [], q.2.2.2.2, 0, 0)) (fun q R hb hR => uJ7_fill_d0a16_5 d hd  (fun _ _ _ _ _ => hR _) hb)
  exact this
def wJ7_fill_d0a16  (p1 : Nat) (p2 : Int64) (S : JS) (Q : JS → Prop) : Prop :=
  jA S p1 14 ∧ (∀ x2 : Int32, x2 = (Int32.ofNat (jZ S p1)) → (wJ7_fill_d0a16_5 p1 p2 0 x2 S Q))
set_option maxRecDepth 20000 in
theorem vJ7_fill_d0a16 {Q : JS → Prop} (d : Nat) (hd : 1 ≤ d) {p1 : Nat} {p2 : Int64} {S : JS} (h : wJ7_fill_d0a16 p1 p2 S Q) : jCall jmt jbud d 233 [.ref p1, .long p2] S (jqV Q) := by
  obtain ⟨d, rfl⟩ : ∃ d2, d = d2 + 1 := ⟨d - 1, by omega⟩
  have hd : 0 ≤ d := by omega
  have hc := jCall_mono jmt jbud d
  unfold wJ7_fill_d0a16 at h
  refine ⟨Nat.le_of_ble_eq_true rfl, ?_⟩
  show jLf (jCall jmt jbud d) jbud (fun j => (jmt j).rk) none mJ7_fill_d0a16 (jqV Q) (0, [some (.ref p1), some (.long p2), none, none, none], [], S, 0, 0)
  obtain ⟨g1, h⟩ := h
  refine jLf.bk hc 5 [jA S p1 14] [some (.ref p1), some (.long p2), none, some (.int 0), some (.int (Int32.ofNat (jZ S p1)))] [] S rfl rfl rfl g1 ?_
  generalize ex2 : (Int32.ofNat (jZ S p1) : Int32) = x2
  have h := h x2 ex2.symm
  exact tJ7_fill_d0a16_5 d hd  h
def wX6_earliest_34  (X18 : Nat → Nat → Int32 → JS → Prop) (l0 : Nat) (l1 : Nat) (l5 : Int32) (S : JS) (Q : Int32 → JS → Prop) : Prop :=
  ∀ x13 : Int32, x13 = (l5 + 1) → (X18 l0 l1 x13 S)
set_option maxRecDepth 20000 in
theorem tX6_earliest_34 {Q : Int32 → JS → Prop} {X18 : Nat → Nat → Int32 → JS → Prop} (d : Nat) (hd : 3 ≤ d) (hX18 : ∀ l0 l1 l5 S, X18 l0 l1 l5 S → jLf (jCall jmt jbud d) jbud (fun j => (jmt j).rk) none mX6_earliest (jqI Q) (18, [some (.ref l0), some (.ref l1), none, none, none, some (.int l5)], [], S, 0, 0)) {l0 : Nat} {l1 : Nat} {l5 : Int32} {S : JS} (h : wX6_earliest_34 X18 l0 l1 l5 S Q) : jLf (jCall jmt jbud d) jbud (fun j => (jmt j).rk) none mX6_earliest (jqI Q) (34, [some (.ref l0), some (.ref l1), none, none, none, some (.int l5)], [], S, 0, 0) := by
  have hc := jCall_mono jmt jbud d
  unfold wX6_earliest_34 at h
  refine jLf.bk hc 1 [] [some (.ref l0), some (.ref l1), none, none, none, some (.int (l5 + 1))] [] S rfl rfl rfl trivial ?_
  generalize ex13 : (l5 + 1 : Int32) = x13
  have h := h x13 ex13.symm
  refine jLf.one hc _ rfl (gs := []) (c := (18, [some (.ref l0), some (.ref l1), none, none, none, some (.int x13)], [], S, 0, 0)) rfl trivial ?_
  exact hX18 _ _ _ _ h
def bX6_earliest_18   (X18 : Nat → Nat → Int32 → JS → Prop) (l0 : Nat) (l1 : Nat) (l5 : Int32) (S : JS) (Q : Int32 → JS → Prop) : Prop :=
  (60 ≤ l5 → Q (-1) S) ∧ (¬ (60 ≤ l5) → jA S l0 6 ∧ (wX6_isEndedIn l0 l5 S (fun r11 S10 => (r11 = 0 → (59 ≤ l5 → wX6_earliest_34 X18 l0 l1 l5 S10 Q) ∧ (¬ (59 ≤ l5) → jA S10 l0 6 ∧ (wX6_spread l0 l1 l5 S10 (fun S14 => wX6_earliest_34 X18 l0 l1 l5 S14 Q)))) ∧ (¬ r11 = 0 → Q l5 S10))))
set_option maxRecDepth 20000 in
theorem uX6_earliest_18 {Q : Int32 → JS → Prop}  (d : Nat) (hd : 3 ≤ d) {X18 : Nat → Nat → Int32 → JS → Prop} (hX18 : ∀ l0 l1 l5 S, X18 l0 l1 l5 S → jLf (jCall jmt jbud d) jbud (fun j => (jmt j).rk) none mX6_earliest (jqI Q) (18, [some (.ref l0), some (.ref l1), none, none, none, some (.int l5)], [], S, 0, 0)) {l0 : Nat} {l1 : Nat} {l5 : Int32} {S : JS} (h : bX6_earliest_18 X18 l0 l1 l5 S Q) : jLf (jCall jmt jbud d) jbud (fun j => (jmt j).rk) none mX6_earliest (jqI Q) (18, [some (.ref l0), some (.ref l1), none, none, none, some (.int l5)], [], S, 0, 0) := by
  have hc := jCall_mono jmt jbud d
  unfold bX6_earliest_18 at h
  refine jLf.bk hc 2 [] [some (.ref l0), some (.ref l1), none, none, none, some (.int l5)] [.int 60, .int l5] S rfl rfl rfl trivial ?_
  refine jLf.two hc _ rfl (gs := []) (p1 := 60 ≤ l5) (p2 := ¬ (60 ≤ l5)) (c1 := (36, [some (.ref l0), some (.ref l1), none, none, none, some (.int l5)], [], S, 0, 0)) (c2 := (21, [some (.ref l0), some (.ref l1), none, none, none, some (.int l5)], [], S, 0, 0)) rfl trivial (fun hz => ?_) (fun hz => ?_)
  · have h := h.1 hz
    refine jLf.bk hc 1 [] [some (.ref l0), some (.ref l1), none, none, none, some (.int l5)] [.int (-1)] S rfl rfl rfl trivial ?_
    exact jLf.ret hc _ rfl (gs := [True]) (v := some (.int (-1))) rfl trivial ⟨(-1), rfl, h⟩
  · have h := h.2 hz
    refine jLf.bk hc 2 [] [some (.ref l0), some (.ref l1), none, none, none, some (.int l5)] [.int l5, .ref l0] S rfl rfl rfl trivial ?_
    obtain ⟨g12, h⟩ := h
    refine jLf.inv hc _ rfl (gs := [jA S l0 6, (([] : List Value).map fun v => v.category).sum ≤ 8, 0 ≤ 0, 0 ≤ 0]) (k := 60) (args := [.ref l0, .int l5]) (r := []) (a := 0) (b := 0) rfl ⟨g12, Nat.le_of_ble_eq_true rfl, Nat.zero_le _, Nat.zero_le _⟩ (vX6_isEndedIn d (by omega) h) ?_
    rintro v S10 ⟨r11, rfl, h⟩
    show jLf (jCall jmt jbud d) jbud (fun j => (jmt j).rk) none mX6_earliest (jqI Q) (24, [some (.ref l0), some (.ref l1), none, none, none, some (.int l5)], [.int r11], S10, 0, 0)
    refine jLf.two hc _ rfl (gs := []) (p1 := r11 = 0) (p2 := ¬ (r11 = 0)) (c1 := (27, [some (.ref l0), some (.ref l1), none, none, none, some (.int l5)], [], S10, 0, 0)) (c2 := (25, [some (.ref l0), some (.ref l1), none, none, none, some (.int l5)], [], S10, 0, 0)) rfl trivial (fun hz => ?_) (fun hz => ?_)
    · have h := h.1 hz
      refine jLf.bk hc 2 [] [some (.ref l0), some (.ref l1), none, none, none, some (.int l5)] [.int 59, .int l5] S10 rfl rfl rfl trivial ?_
      refine jLf.two hc _ rfl (gs := []) (p1 := 59 ≤ l5) (p2 := ¬ (59 ≤ l5)) (c1 := (34, [some (.ref l0), some (.ref l1), none, none, none, some (.int l5)], [], S10, 0, 0)) (c2 := (30, [some (.ref l0), some (.ref l1), none, none, none, some (.int l5)], [], S10, 0, 0)) rfl trivial (fun hz => ?_) (fun hz => ?_)
      · have h := h.1 hz
        exact tX6_earliest_34 d hd hX18 h
      · have h := h.2 hz
        refine jLf.bk hc 3 [] [some (.ref l0), some (.ref l1), none, none, none, some (.int l5)] [.int l5, .ref l1, .ref l0] S10 rfl rfl rfl trivial ?_
        obtain ⟨g16, h⟩ := h
        refine jLf.inv hc _ rfl (gs := [jA S10 l0 6, (([] : List Value).map fun v => v.category).sum ≤ 8, 0 ≤ 0, 0 ≤ 0]) (k := 61) (args := [.ref l0, .ref l1, .int l5]) (r := []) (a := 0) (b := 0) rfl ⟨g16, Nat.le_of_ble_eq_true rfl, Nat.zero_le _, Nat.zero_le _⟩ (vX6_spread d (by omega) h) ?_
        rintro v S14 ⟨rfl, h⟩
        show jLf (jCall jmt jbud d) jbud (fun j => (jmt j).rk) none mX6_earliest (jqI Q) (34, [some (.ref l0), some (.ref l1), none, none, none, some (.int l5)], [], S14, 0, 0)
        exact tX6_earliest_34 d hd hX18 h
    · have h := h.2 hz
      refine jLf.bk hc 1 [] [some (.ref l0), some (.ref l1), none, none, none, some (.int l5)] [.int l5] S10 rfl rfl rfl trivial ?_
      exact jLf.ret hc _ rfl (gs := [True]) (v := some (.int l5)) rfl trivial ⟨l5, rfl, h⟩
def wX6_earliest_18   (l0 : Nat) (l1 : Nat) (l5 : Int32) (S : JS) (Q : Int32 → JS → Prop) : Prop :=
  jLoop (fun (X18 : Nat × Nat × Int32 × JS → Prop) q => bX6_earliest_18 (fun l0 l1 l5 S => X18 (l0, l1, l5, S)) q.1 q.2.1 q.2.2.1 q.2.2.2 Q) (l0, l1, l5, S)
set_option maxRecDepth 20000 in
theorem tX6_earliest_18 {Q : Int32 → JS → Prop}  (d : Nat) (hd : 3 ≤ d) {l0 : Nat} {l1 : Nat} {l5 : Int32} {S : JS} (h : wX6_earliest_18 l0 l1 l5 S Q) : jLf (jCall jmt jbud d) jbud (fun j => (jmt j).rk) none mX6_earliest (jqI Q) (18, [some (.ref l0), some (.ref l1), none, none, none, some (.int l5)], [], S, 0, 0) := by
  have := h (fun q : Nat × Nat × Int32 × JS => jLf (jCall jmt jbud d) jbud (fun j => (jmt j).rk) none mX6_earliest (jqI Q) (18, [some (.ref (q.1)), some (.ref (q.2.1)), none, none, none, some (.int (q.2.2.1))], [], q.2.2.2, 0, 0)) (fun q R hb hR => uX6_earliest_18 d hd  (fun _ _ _ _ => hR _) hb)
  exact this
def wX6_earliest  (this : Nat) (p1 : Nat) (p2 : Int32) (p3 : Int32) (p4 : Int32) (S : JS) (Q : Int32 → JS → Prop) : Prop :=
  jA S this 6 ∧ (∀ S2 : JS, S2 = uI S this 1 p4 → (jA S2 this 6 ∧ (¬ jR S2 this 0 = none ∧ (wJ7_fill_d0a16 (jr S2 this 0) 0 S2 (fun S5 => jA S5 this 6 ∧ (wX6_put this p2 p3 (p4 &&& ((1 : Int32) <<< (p2 &&& 31))) S5 (fun S7 => wX6_earliest_18 this p1 p3 S7 Q)))))))
set_option maxRecDepth 20000 in
theorem vX6_earliest {Q : Int32 → JS → Prop} (d : Nat) (hd : 4 ≤ d) {this : Nat} {p1 : Nat} {p2 : Int32} {p3 : Int32} {p4 : Int32} {S : JS} (h : wX6_earliest this p1 p2 p3 p4 S Q) : jCall jmt jbud d 59 [.ref this, .ref p1, .int p2, .int p3, .int p4] S (jqI Q) := by
  obtain ⟨d, rfl⟩ : ∃ d2, d = d2 + 1 := ⟨d - 1, by omega⟩
  have hd : 3 ≤ d := by omega
  have hc := jCall_mono jmt jbud d
  unfold wX6_earliest at h
  refine ⟨Nat.le_of_ble_eq_true rfl, ?_⟩
  show jLf (jCall jmt jbud d) jbud (fun j => (jmt j).rk) none mX6_earliest (jqI Q) (0, [some (.ref this), some (.ref p1), some (.int p2), some (.int p3), some (.int p4), none], [], S, 0, 0)
  obtain ⟨g1, h⟩ := h
  refine jLf.bk hc 3 [jA S this 6] [some (.ref this), some (.ref p1), some (.int p2), some (.int p3), some (.int p4), none] [] (uI S this 1 p4) rfl rfl rfl g1 ?_
  generalize eS2 : uI S this 1 p4 = S2
  have h := h S2 eS2.symm
  obtain ⟨g3, g4, h⟩ := h
  refine jLf.bk hc 3 [jA S2 this 6, ¬ jR S2 this 0 = none] [some (.ref this), some (.ref p1), some (.int p2), some (.int p3), some (.int p4), none] [.long 0, .ref (jr S2 this 0)] S2 rfl rfl rfl ⟨g3, g4⟩ ?_
  refine jLf.inv hc _ rfl (gs := [2 ≤ ([.long 0, .ref (jr S2 this 0)] : List Value).length, (([] : List Value).map fun v => v.category).sum ≤ 8, 0 ≤ 0, 0 ≤ 0]) (k := 233) (args := [.ref (jr S2 this 0), .long 0]) (r := []) (a := 0) (b := 0) rfl ⟨Nat.le_of_ble_eq_true rfl, Nat.le_of_ble_eq_true rfl, Nat.zero_le _, Nat.zero_le _⟩ (vJ7_fill_d0a16 d (by omega) h) ?_
  rintro v S5 ⟨rfl, h⟩
  show jLf (jCall jmt jbud d) jbud (fun j => (jmt j).rk) none mX6_earliest (jqI Q) (7, [some (.ref this), some (.ref p1), some (.int p2), some (.int p3), some (.int p4), none], [], S5, 0, 0)
  refine jLf.bk hc 8 [] [some (.ref this), some (.ref p1), some (.int p2), some (.int p3), some (.int p4), none] [.int (p4 &&& ((1 : Int32) <<< (p2 &&& 31))), .int p3, .int p2, .ref this] S5 rfl rfl rfl trivial ?_
  obtain ⟨g9, h⟩ := h
  refine jLf.inv hc _ rfl (gs := [jA S5 this 6, (([] : List Value).map fun v => v.category).sum ≤ 8, 0 ≤ 0, 0 ≤ 0]) (k := 67) (args := [.ref this, .int p2, .int p3, .int (p4 &&& ((1 : Int32) <<< (p2 &&& 31)))]) (r := []) (a := 0) (b := 0) rfl ⟨g9, Nat.le_of_ble_eq_true rfl, Nat.zero_le _, Nat.zero_le _⟩ (vX6_put d (by omega) h) ?_
  rintro v S7 ⟨rfl, h⟩
  show jLf (jCall jmt jbud d) jbud (fun j => (jmt j).rk) none mX6_earliest (jqI Q) (16, [some (.ref this), some (.ref p1), some (.int p2), some (.int p3), some (.int p4), none], [], S7, 0, 0)
  refine jLf.bk hc 2 [] [some (.ref this), some (.ref p1), some (.int p2), some (.int p3), some (.int p4), some (.int p3)] [] S7 rfl rfl rfl trivial ?_
  refine jLf.sub [some (.ref this), some (.ref p1), none, none, none, some (.int p3)] (jle_same (jle_same (jle_none (jle_none (jle_none (jle_same (jle_nil _))))))) ?_
  exact tX6_earliest_18 d hd  h
def wX6_firstStep_26  (X2 : Nat → Int32 → Int32 → Int32 → Int32 → Int32 → JS → Prop) (l0 : Nat) (l1 : Int32) (l2 : Int32) (l3 : Int32) (l4 : Int32) (l5 : Int32) (S : JS) (Q : Int32 → JS → Prop) : Prop :=
  ∀ x3 : Int32, x3 = (l5 + 1) → (X2 l0 l1 l2 l3 l4 x3 S)
set_option maxRecDepth 20000 in
theorem tX6_firstStep_26 {Q : Int32 → JS → Prop} {X2 : Nat → Int32 → Int32 → Int32 → Int32 → Int32 → JS → Prop} (d : Nat) (hd : 2 ≤ d) (hX2 : ∀ l0 l1 l2 l3 l4 l5 S, X2 l0 l1 l2 l3 l4 l5 S → jLf (jCall jmt jbud d) jbud (fun j => (jmt j).rk) none mX6_firstStep (jqI Q) (2, [some (.ref l0), some (.int l1), some (.int l2), some (.int l3), some (.int l4), some (.int l5)], [], S, 0, 0)) {l0 : Nat} {l1 : Int32} {l2 : Int32} {l3 : Int32} {l4 : Int32} {l5 : Int32} {S : JS} (h : wX6_firstStep_26 X2 l0 l1 l2 l3 l4 l5 S Q) : jLf (jCall jmt jbud d) jbud (fun j => (jmt j).rk) none mX6_firstStep (jqI Q) (26, [some (.ref l0), some (.int l1), some (.int l2), some (.int l3), some (.int l4), some (.int l5)], [], S, 0, 0) := by
  have hc := jCall_mono jmt jbud d
  unfold wX6_firstStep_26 at h
  refine jLf.bk hc 1 [] [some (.ref l0), some (.int l1), some (.int l2), some (.int l3), some (.int l4), some (.int (l5 + 1))] [] S rfl rfl rfl trivial ?_
  generalize ex3 : (l5 + 1 : Int32) = x3
  have h := h x3 ex3.symm
  refine jLf.one hc _ rfl (gs := []) (c := (2, [some (.ref l0), some (.int l1), some (.int l2), some (.int l3), some (.int l4), some (.int x3)], [], S, 0, 0)) rfl trivial ?_
  exact hX2 _ _ _ _ _ _ _ h
def bX6_firstStep_2   (X2 : Nat → Int32 → Int32 → Int32 → Int32 → Int32 → JS → Prop) (l0 : Nat) (l1 : Int32) (l2 : Int32) (l3 : Int32) (l4 : Int32) (l5 : Int32) (S : JS) (Q : Int32 → JS → Prop) : Prop :=
  (9 ≤ l5 → Q l4 S) ∧ (¬ (9 ≤ l5) → wX11_hasBit l1 l5 S (fun r2 S1 => (r2 = 0 → wX6_firstStep_26 X2 l0 l1 l2 l3 l4 l5 S1 Q) ∧ (¬ r2 = 0 → jA S1 l0 6 ∧ (wX6_isIn l0 l5 (l2 + (1 : Int32)) (l3 ||| ((jI S1 l0 1) &&& ((1 : Int32) <<< (l5 &&& 31)))) S1 (fun r6 S5 => (r6 = 0 → wX6_firstStep_26 X2 l0 l1 l2 l3 l4 l5 S5 Q) ∧ (¬ r6 = 0 → Q l5 S5))))))
set_option maxRecDepth 20000 in
theorem uX6_firstStep_2 {Q : Int32 → JS → Prop}  (d : Nat) (hd : 2 ≤ d) {X2 : Nat → Int32 → Int32 → Int32 → Int32 → Int32 → JS → Prop} (hX2 : ∀ l0 l1 l2 l3 l4 l5 S, X2 l0 l1 l2 l3 l4 l5 S → jLf (jCall jmt jbud d) jbud (fun j => (jmt j).rk) none mX6_firstStep (jqI Q) (2, [some (.ref l0), some (.int l1), some (.int l2), some (.int l3), some (.int l4), some (.int l5)], [], S, 0, 0)) {l0 : Nat} {l1 : Int32} {l2 : Int32} {l3 : Int32} {l4 : Int32} {l5 : Int32} {S : JS} (h : bX6_firstStep_2 X2 l0 l1 l2 l3 l4 l5 S Q) : jLf (jCall jmt jbud d) jbud (fun j => (jmt j).rk) none mX6_firstStep (jqI Q) (2, [some (.ref l0), some (.int l1), some (.int l2), some (.int l3), some (.int l4), some (.int l5)], [], S, 0, 0) := by
  have hc := jCall_mono jmt jbud d
  unfold bX6_firstStep_2 at h
  refine jLf.bk hc 2 [] [some (.ref l0), some (.int l1), some (.int l2), some (.int l3), some (.int l4), some (.int l5)] [.int 9, .int l5] S rfl rfl rfl trivial ?_
  refine jLf.two hc _ rfl (gs := []) (p1 := 9 ≤ l5) (p2 := ¬ (9 ≤ l5)) (c1 := (28, [some (.ref l0), some (.int l1), some (.int l2), some (.int l3), some (.int l4), some (.int l5)], [], S, 0, 0)) (c2 := (5, [some (.ref l0), some (.int l1), some (.int l2), some (.int l3), some (.int l4), some (.int l5)], [], S, 0, 0)) rfl trivial (fun hz => ?_) (fun hz => ?_)
  · have h := h.1 hz
    refine jLf.bk hc 1 [] [some (.ref l0), some (.int l1), some (.int l2), some (.int l3), some (.int l4), some (.int l5)] [.int l4] S rfl rfl rfl trivial ?_
    exact jLf.ret hc _ rfl (gs := [True]) (v := some (.int l4)) rfl trivial ⟨l4, rfl, h⟩
  · have h := h.2 hz
    refine jLf.bk hc 2 [] [some (.ref l0), some (.int l1), some (.int l2), some (.int l3), some (.int l4), some (.int l5)] [.int l5, .int l1] S rfl rfl rfl trivial ?_
    refine jLf.inv hc _ rfl (gs := [2 ≤ ([.int l5, .int l1] : List Value).length, (([] : List Value).map fun v => v.category).sum ≤ 8, 0 ≤ 0, 0 ≤ 0]) (k := 145) (args := [.int l1, .int l5]) (r := []) (a := 0) (b := 0) rfl ⟨Nat.le_of_ble_eq_true rfl, Nat.le_of_ble_eq_true rfl, Nat.zero_le _, Nat.zero_le _⟩ (vX11_hasBit d (by omega) h) ?_
    rintro v S1 ⟨r2, rfl, h⟩
    show jLf (jCall jmt jbud d) jbud (fun j => (jmt j).rk) none mX6_firstStep (jqI Q) (8, [some (.ref l0), some (.int l1), some (.int l2), some (.int l3), some (.int l4), some (.int l5)], [.int r2], S1, 0, 0)
    refine jLf.two hc _ rfl (gs := []) (p1 := r2 = 0) (p2 := ¬ (r2 = 0)) (c1 := (26, [some (.ref l0), some (.int l1), some (.int l2), some (.int l3), some (.int l4), some (.int l5)], [], S1, 0, 0)) (c2 := (9, [some (.ref l0), some (.int l1), some (.int l2), some (.int l3), some (.int l4), some (.int l5)], [], S1, 0, 0)) rfl trivial (fun hz => ?_) (fun hz => ?_)
    · have h := h.1 hz
      exact tX6_firstStep_26 d hd hX2 h
    · have h := h.2 hz
      obtain ⟨g4, h⟩ := h
      refine jLf.bk hc 13 [jA S1 l0 6] [some (.ref l0), some (.int l1), some (.int l2), some (.int l3), some (.int l4), some (.int l5)] [.int (l3 ||| ((jI S1 l0 1) &&& ((1 : Int32) <<< (l5 &&& 31)))), .int (l2 + (1 : Int32)), .int l5, .ref l0] S1 rfl rfl rfl g4 ?_
      refine jLf.inv hc _ rfl (gs := [jA S1 l0 6, (([] : List Value).map fun v => v.category).sum ≤ 8, 0 ≤ 0, 0 ≤ 0]) (k := 68) (args := [.ref l0, .int l5, .int (l2 + (1 : Int32)), .int (l3 ||| ((jI S1 l0 1) &&& ((1 : Int32) <<< (l5 &&& 31))))]) (r := []) (a := 0) (b := 0) rfl ⟨g4, Nat.le_of_ble_eq_true rfl, Nat.zero_le _, Nat.zero_le _⟩ (vX6_isIn d (by omega) h) ?_
      rintro v S5 ⟨r6, rfl, h⟩
      show jLf (jCall jmt jbud d) jbud (fun j => (jmt j).rk) none mX6_firstStep (jqI Q) (23, [some (.ref l0), some (.int l1), some (.int l2), some (.int l3), some (.int l4), some (.int l5)], [.int r6], S5, 0, 0)
      refine jLf.two hc _ rfl (gs := []) (p1 := r6 = 0) (p2 := ¬ (r6 = 0)) (c1 := (26, [some (.ref l0), some (.int l1), some (.int l2), some (.int l3), some (.int l4), some (.int l5)], [], S5, 0, 0)) (c2 := (24, [some (.ref l0), some (.int l1), some (.int l2), some (.int l3), some (.int l4), some (.int l5)], [], S5, 0, 0)) rfl trivial (fun hz => ?_) (fun hz => ?_)
      · have h := h.1 hz
        exact tX6_firstStep_26 d hd hX2 h
      · have h := h.2 hz
        refine jLf.bk hc 1 [] [some (.ref l0), some (.int l1), some (.int l2), some (.int l3), some (.int l4), some (.int l5)] [.int l5] S5 rfl rfl rfl trivial ?_
        exact jLf.ret hc _ rfl (gs := [True]) (v := some (.int l5)) rfl trivial ⟨l5, rfl, h⟩
def wX6_firstStep_2   (l0 : Nat) (l1 : Int32) (l2 : Int32) (l3 : Int32) (l4 : Int32) (l5 : Int32) (S : JS) (Q : Int32 → JS → Prop) : Prop :=
  jLoop (fun (X2 : Nat × Int32 × Int32 × Int32 × Int32 × Int32 × JS → Prop) q => bX6_firstStep_2 (fun l0 l1 l2 l3 l4 l5 S => X2 (l0, l1, l2, l3, l4, l5, S)) q.1 q.2.1 q.2.2.1 q.2.2.2.1 q.2.2.2.2.1 q.2.2.2.2.2.1 q.2.2.2.2.2.2 Q) (l0, l1, l2, l3, l4, l5, S)
set_option maxRecDepth 20000 in
theorem tX6_firstStep_2 {Q : Int32 → JS → Prop}  (d : Nat) (hd : 2 ≤ d) {l0 : Nat} {l1 : Int32} {l2 : Int32} {l3 : Int32} {l4 : Int32} {l5 : Int32} {S : JS} (h : wX6_firstStep_2 l0 l1 l2 l3 l4 l5 S Q) : jLf (jCall jmt jbud d) jbud (fun j => (jmt j).rk) none mX6_firstStep (jqI Q) (2, [some (.ref l0), some (.int l1), some (.int l2), some (.int l3), some (.int l4), some (.int l5)], [], S, 0, 0) := by
  have := h (fun q : Nat × Int32 × Int32 × Int32 × Int32 × Int32 × JS => jLf (jCall jmt jbud d) jbud (fun j => (jmt j).rk) none mX6_firstStep (jqI Q) (2, [some (.ref (q.1)), some (.int (q.2.1)), some (.int (q.2.2.1)), some (.int (q.2.2.2.1)), some (.int (q.2.2.2.2.1)), some (.int (q.2.2.2.2.2.1))], [], q.2.2.2.2.2.2, 0, 0)) (fun q R hb hR => uX6_firstStep_2 d hd  (fun _ _ _ _ _ _ _ => hR _) hb)
  exact this
def wX6_firstStep  (this : Nat) (p1 : Int32) (p2 : Int32) (p3 : Int32) (p4 : Int32) (S : JS) (Q : Int32 → JS → Prop) : Prop :=
  wX6_firstStep_2 this p1 p2 p3 p4 0 S Q
set_option maxRecDepth 20000 in
theorem vX6_firstStep {Q : Int32 → JS → Prop} (d : Nat) (hd : 3 ≤ d) {this : Nat} {p1 : Int32} {p2 : Int32} {p3 : Int32} {p4 : Int32} {S : JS} (h : wX6_firstStep this p1 p2 p3 p4 S Q) : jCall jmt jbud d 64 [.ref this, .int p1, .int p2, .int p3, .int p4] S (jqI Q) := by
  obtain ⟨d, rfl⟩ : ∃ d2, d = d2 + 1 := ⟨d - 1, by omega⟩
  have hd : 2 ≤ d := by omega
  have hc := jCall_mono jmt jbud d
  unfold wX6_firstStep at h
  refine ⟨Nat.le_of_ble_eq_true rfl, ?_⟩
  show jLf (jCall jmt jbud d) jbud (fun j => (jmt j).rk) none mX6_firstStep (jqI Q) (0, [some (.ref this), some (.int p1), some (.int p2), some (.int p3), some (.int p4), none], [], S, 0, 0)
  refine jLf.bk hc 2 [] [some (.ref this), some (.int p1), some (.int p2), some (.int p3), some (.int p4), some (.int 0)] [] S rfl rfl rfl trivial ?_
  exact tX6_firstStep_2 d hd  h
def wX6_fetch_94  (X7 : Nat → Int32 → Int32 → Int32 → Int32 → Int32 → JS → Prop) (l0 : Nat) (l1 : Int32) (l2 : Int32) (l3 : Int32) (l4 : Int32) (l5 : Int32) (S : JS) (Q : JS → Prop) : Prop :=
  ∀ x14 : Int32, x14 = (l5 + 1) → (X7 l0 l1 l2 l3 l4 x14 S)
set_option maxRecDepth 20000 in
theorem tX6_fetch_94 {Q : JS → Prop} {X7 : Nat → Int32 → Int32 → Int32 → Int32 → Int32 → JS → Prop} (d : Nat) (hd : 1 ≤ d) (hX7 : ∀ l0 l1 l2 l3 l4 l5 S, X7 l0 l1 l2 l3 l4 l5 S → jLf (jCall jmt jbud d) jbud (fun j => (jmt j).rk) none mX6_fetch (jqV Q) (7, [some (.ref l0), some (.int l1), some (.int l2), some (.int l3), some (.int l4), some (.int l5), none, none, none, none], [], S, 0, 0)) {l0 : Nat} {l1 : Int32} {l2 : Int32} {l3 : Int32} {l4 : Int32} {l5 : Int32} {S : JS} (h : wX6_fetch_94 X7 l0 l1 l2 l3 l4 l5 S Q) : jLf (jCall jmt jbud d) jbud (fun j => (jmt j).rk) none mX6_fetch (jqV Q) (94, [some (.ref l0), some (.int l1), some (.int l2), some (.int l3), some (.int l4), some (.int l5), none, none, none, none], [], S, 0, 0) := by
  have hc := jCall_mono jmt jbud d
  unfold wX6_fetch_94 at h
  refine jLf.bk hc 1 [] [some (.ref l0), some (.int l1), some (.int l2), some (.int l3), some (.int l4), some (.int (l5 + 1)), none, none, none, none] [] S rfl rfl rfl trivial ?_
  generalize ex14 : (l5 + 1 : Int32) = x14
  have h := h x14 ex14.symm
  refine jLf.one hc _ rfl (gs := []) (c := (7, [some (.ref l0), some (.int l1), some (.int l2), some (.int l3), some (.int l4), some (.int x14), none, none, none, none], [], S, 0, 0)) rfl trivial ?_
  exact hX7 _ _ _ _ _ _ _ h
def wX6_fetch_23  (X7 : Nat → Int32 → Int32 → Int32 → Int32 → Int32 → JS → Prop) (l0 : Nat) (l1 : Int32) (l2 : Int32) (l3 : Int32) (l4 : Int32) (l5 : Int32) (l6 : Int64) (S : JS) (Q : JS → Prop) : Prop :=
  jA S l0 6 ∧ (¬ jR S l0 0 = none ∧ (jA S (jr S l0 0) 14 ∧ (vp_in (l2 + l5) (jZ S (jr S l0 0)) ∧ (∀ S13 : JS, S13 = uJ S (jr S l0 0) (l2 + l5).toNatClampNeg ((jJ S (jr S l0 0) (l2 + l5).toNatClampNeg) ||| l6) → (wX6_fetch_94 X7 l0 l1 l2 l3 l4 l5 S13 Q)))))
set_option maxRecDepth 20000 in
theorem tX6_fetch_23 {Q : JS → Prop} {X7 : Nat → Int32 → Int32 → Int32 → Int32 → Int32 → JS → Prop} (d : Nat) (hd : 1 ≤ d) (hX7 : ∀ l0 l1 l2 l3 l4 l5 S, X7 l0 l1 l2 l3 l4 l5 S → jLf (jCall jmt jbud d) jbud (fun j => (jmt j).rk) none mX6_fetch (jqV Q) (7, [some (.ref l0), some (.int l1), some (.int l2), some (.int l3), some (.int l4), some (.int l5), none, none, none, none], [], S, 0, 0)) {l0 : Nat} {l1 : Int32} {l2 : Int32} {l3 : Int32} {l4 : Int32} {l5 : Int32} {l6 : Int64} {S : JS} (h : wX6_fetch_23 X7 l0 l1 l2 l3 l4 l5 l6 S Q) : jLf (jCall jmt jbud d) jbud (fun j => (jmt j).rk) none mX6_fetch (jqV Q) (23, [some (.ref l0), some (.int l1), some (.int l2), some (.int l3), some (.int l4), some (.int l5), some (.long l6), none, none, none], [], S, 0, 0) := by
  have hc := jCall_mono jmt jbud d
  unfold wX6_fetch_23 at h
  obtain ⟨g9, g10, g11, g12, h⟩ := h
  refine jLf.bk hc 10 [jA S l0 6, ¬ jR S l0 0 = none, jA S (jr S l0 0) 14, vp_in (l2 + l5) (jZ S (jr S l0 0)), jA S (jr S l0 0) 14, vp_in (l2 + l5) (jZ S (jr S l0 0))] [some (.ref l0), some (.int l1), some (.int l2), some (.int l3), some (.int l4), some (.int l5), some (.long l6), none, none, none] [] (uJ S (jr S l0 0) (l2 + l5).toNatClampNeg ((jJ S (jr S l0 0) (l2 + l5).toNatClampNeg) ||| l6)) rfl rfl rfl ⟨g9, g10, g11, g12, g11, g12⟩ ?_
  generalize eS13 : uJ S (jr S l0 0) (l2 + l5).toNatClampNeg ((jJ S (jr S l0 0) (l2 + l5).toNatClampNeg) ||| l6) = S13
  have h := h S13 eS13.symm
  refine jLf.one hc _ rfl (gs := []) (c := (94, [some (.ref l0), some (.int l1), some (.int l2), some (.int l3), some (.int l4), some (.int l5), some (.long l6), none, none, none], [], S13, 0, 0)) rfl trivial ?_
  refine jLf.sub [some (.ref l0), some (.int l1), some (.int l2), some (.int l3), some (.int l4), some (.int l5), none, none, none, none] (jle_same (jle_same (jle_same (jle_same (jle_same (jle_same (jle_none (jle_same (jle_same (jle_same (jle_nil _))))))))))) ?_
  exact tX6_fetch_94 d hd hX7 h
def bX6_fetch_7   (X7 : Nat → Int32 → Int32 → Int32 → Int32 → Int32 → JS → Prop) (l0 : Nat) (l1 : Int32) (l2 : Int32) (l3 : Int32) (l4 : Int32) (l5 : Int32) (S : JS) (Q : JS → Prop) : Prop :=
  (8 ≤ l5 → Q S) ∧ (¬ (8 ≤ l5) → jA S l0 6 ∧ (¬ jR S l0 0 = none ∧ (jA S (jr S l0 0) 14 ∧ (vp_in (l1 + l5) (jZ S (jr S l0 0)) ∧ (∀ x8 : Int64, x8 = (jJ S (jr S l0 0) (l1 + l5).toNatClampNeg) → ((l4 = 0 → wX6_fetch_23 X7 l0 l1 l2 l3 l4 l5 x8 S Q) ∧ (¬ l4 = 0 → (¬ (lg_cmp x8 (0 : Int64)) = 0 → (6 ≤ l3 → wX11_hasBit l5 (l3 - (6 : Int32)) S (fun r16 S15 => (r16 = 0 → wX6_fetch_94 X7 l0 l1 l2 l3 l4 l5 S15 Q) ∧ (¬ r16 = 0 → jA S15 l0 6 ∧ (¬ jR S15 l0 0 = none ∧ (jA S15 (jr S15 l0 0) 14 ∧ (vp_in (l2 + l5) (jZ S15 (jr S15 l0 0)) ∧ (∀ S21 : JS, S21 = uJ S15 (jr S15 l0 0) (l2 + l5).toNatClampNeg ((jJ S15 (jr S15 l0 0) (l2 + l5).toNatClampNeg) ||| x8) → (jA S21 l0 6 ∧ (¬ jR S21 l0 0 = none ∧ (jA S21 (jr S21 l0 0) 14 ∧ (vp_in (l2 + (l5 ^^^ ((1 : Int32) <<< ((l3 - (6 : Int32)) &&& 31)))) (jZ S21 (jr S21 l0 0)) ∧ (∀ S26 : JS, S26 = uJ S21 (jr S21 l0 0) (l2 + (l5 ^^^ ((1 : Int32) <<< ((l3 - (6 : Int32)) &&& 31)))).toNatClampNeg ((jJ S21 (jr S21 l0 0) (l2 + (l5 ^^^ ((1 : Int32) <<< ((l3 - (6 : Int32)) &&& 31)))).toNatClampNeg) ||| x8) → (wX6_fetch_94 X7 l0 l1 l2 l3 l4 l5 S26 Q))))))))))))) ∧ (¬ (6 ≤ l3) → vp_in l3 6 ∧ (∀ x27 : Int64, x27 = (x8 &&& ((jTW l3.toNatClampNeg) ^^^ (-1 : Int64))) → (vp_in (l2 + l5) (jZ S (jr S l0 0)) ∧ (∀ S29 : JS, S29 = uJ S (jr S l0 0) (l2 + l5).toNatClampNeg ((jJ S (jr S l0 0) (l2 + l5).toNatClampNeg) ||| (x27 ||| (jlushr x27 ((1 : Int32) <<< (l3 &&& 31))))) → (wX6_fetch_94 X7 l0 l1 l2 l3 l4 l5 S29 Q)))))) ∧ ((lg_cmp x8 (0 : Int64)) = 0 → wX6_fetch_23 X7 l0 l1 l2 l3 l4 l5 x8 S Q))))))))
set_option maxRecDepth 20000 in
theorem uX6_fetch_7 {Q : JS → Prop}  (d : Nat) (hd : 1 ≤ d) {X7 : Nat → Int32 → Int32 → Int32 → Int32 → Int32 → JS → Prop} (hX7 : ∀ l0 l1 l2 l3 l4 l5 S, X7 l0 l1 l2 l3 l4 l5 S → jLf (jCall jmt jbud d) jbud (fun j => (jmt j).rk) none mX6_fetch (jqV Q) (7, [some (.ref l0), some (.int l1), some (.int l2), some (.int l3), some (.int l4), some (.int l5), none, none, none, none], [], S, 0, 0)) {l0 : Nat} {l1 : Int32} {l2 : Int32} {l3 : Int32} {l4 : Int32} {l5 : Int32} {S : JS} (h : bX6_fetch_7 X7 l0 l1 l2 l3 l4 l5 S Q) : jLf (jCall jmt jbud d) jbud (fun j => (jmt j).rk) none mX6_fetch (jqV Q) (7, [some (.ref l0), some (.int l1), some (.int l2), some (.int l3), some (.int l4), some (.int l5), none, none, none, none], [], S, 0, 0) := by
  have hc := jCall_mono jmt jbud d
  unfold bX6_fetch_7 at h
  refine jLf.bk hc 2 [] [some (.ref l0), some (.int l1), some (.int l2), some (.int l3), some (.int l4), some (.int l5), none, none, none, none] [.int 8, .int l5] S rfl rfl rfl trivial ?_
  refine jLf.two hc _ rfl (gs := []) (p1 := 8 ≤ l5) (p2 := ¬ (8 ≤ l5)) (c1 := (96, [some (.ref l0), some (.int l1), some (.int l2), some (.int l3), some (.int l4), some (.int l5), none, none, none, none], [], S, 0, 0)) (c2 := (10, [some (.ref l0), some (.int l1), some (.int l2), some (.int l3), some (.int l4), some (.int l5), none, none, none, none], [], S, 0, 0)) rfl trivial (fun hz => ?_) (fun hz => ?_)
  · have h := h.1 hz
    exact jLf.ret hc _ rfl (gs := [jrt none none]) (v := none) rfl trivial ⟨rfl, h⟩
  · have h := h.2 hz
    obtain ⟨g4, g5, g6, g7, h⟩ := h
    refine jLf.bk hc 7 [jA S l0 6, ¬ jR S l0 0 = none, jA S (jr S l0 0) 14, vp_in (l1 + l5) (jZ S (jr S l0 0))] [some (.ref l0), some (.int l1), some (.int l2), some (.int l3), some (.int l4), some (.int l5), some (.long (jJ S (jr S l0 0) (l1 + l5).toNatClampNeg)), none, none, none] [] S rfl rfl rfl ⟨g4, g5, g6, g7⟩ ?_
    generalize ex8 : (jJ S (jr S l0 0) (l1 + l5).toNatClampNeg : Int64) = x8
    have h := h x8 ex8.symm
    refine jLf.bk hc 1 [] [some (.ref l0), some (.int l1), some (.int l2), some (.int l3), some (.int l4), some (.int l5), some (.long x8), none, none, none] [.int l4] S rfl rfl rfl trivial ?_
    refine jLf.two hc _ rfl (gs := []) (p1 := l4 = 0) (p2 := ¬ (l4 = 0)) (c1 := (23, [some (.ref l0), some (.int l1), some (.int l2), some (.int l3), some (.int l4), some (.int l5), some (.long x8), none, none, none], [], S, 0, 0)) (c2 := (19, [some (.ref l0), some (.int l1), some (.int l2), some (.int l3), some (.int l4), some (.int l5), some (.long x8), none, none, none], [], S, 0, 0)) rfl trivial (fun hz => ?_) (fun hz => ?_)
    · have h := h.1 hz
      exact tX6_fetch_23 d hd hX7 h
    · have h := h.2 hz
      refine jLf.bk hc 3 [] [some (.ref l0), some (.int l1), some (.int l2), some (.int l3), some (.int l4), some (.int l5), some (.long x8), none, none, none] [.int (lg_cmp x8 (0 : Int64))] S rfl rfl rfl trivial ?_
      refine jLf.two hc _ rfl (gs := []) (p1 := ¬ (lg_cmp x8 (0 : Int64)) = 0) (p2 := ¬ (¬ (lg_cmp x8 (0 : Int64)) = 0)) (c1 := (34, [some (.ref l0), some (.int l1), some (.int l2), some (.int l3), some (.int l4), some (.int l5), some (.long x8), none, none, none], [], S, 0, 0)) (c2 := (23, [some (.ref l0), some (.int l1), some (.int l2), some (.int l3), some (.int l4), some (.int l5), some (.long x8), none, none, none], [], S, 0, 0)) rfl trivial (fun hz => ?_) (fun hz => ?_)
      · have h := h.1 hz
        refine jLf.bk hc 2 [] [some (.ref l0), some (.int l1), some (.int l2), some (.int l3), some (.int l4), some (.int l5), some (.long x8), none, none, none] [.int 6, .int l3] S rfl rfl rfl trivial ?_
        refine jLf.two hc _ rfl (gs := []) (p1 := 6 ≤ l3) (p2 := ¬ (6 ≤ l3)) (c1 := (62, [some (.ref l0), some (.int l1), some (.int l2), some (.int l3), some (.int l4), some (.int l5), some (.long x8), none, none, none], [], S, 0, 0)) (c2 := (37, [some (.ref l0), some (.int l1), some (.int l2), some (.int l3), some (.int l4), some (.int l5), some (.long x8), none, none, none], [], S, 0, 0)) rfl trivial (fun hz => ?_) (fun hz => ?_)
        · have h := h.1 hz
          refine jLf.bk hc 4 [] [some (.ref l0), some (.int l1), some (.int l2), some (.int l3), some (.int l4), some (.int l5), some (.long x8), none, none, none] [.int (l3 - (6 : Int32)), .int l5] S rfl rfl rfl trivial ?_
          refine jLf.inv hc _ rfl (gs := [2 ≤ ([.int (l3 - (6 : Int32)), .int l5] : List Value).length, (([] : List Value).map fun v => v.category).sum ≤ 8, 0 ≤ 0, 0 ≤ 0]) (k := 145) (args := [.int l5, .int (l3 - (6 : Int32))]) (r := []) (a := 0) (b := 0) rfl ⟨Nat.le_of_ble_eq_true rfl, Nat.le_of_ble_eq_true rfl, Nat.zero_le _, Nat.zero_le _⟩ (vX11_hasBit d (by omega) h) ?_
          rintro v S15 ⟨r16, rfl, h⟩
          show jLf (jCall jmt jbud d) jbud (fun j => (jmt j).rk) none mX6_fetch (jqV Q) (67, [some (.ref l0), some (.int l1), some (.int l2), some (.int l3), some (.int l4), some (.int l5), some (.long x8), none, none, none], [.int r16], S15, 0, 0)
          refine jLf.two hc _ rfl (gs := []) (p1 := r16 = 0) (p2 := ¬ (r16 = 0)) (c1 := (94, [some (.ref l0), some (.int l1), some (.int l2), some (.int l3), some (.int l4), some (.int l5), some (.long x8), none, none, none], [], S15, 0, 0)) (c2 := (68, [some (.ref l0), some (.int l1), some (.int l2), some (.int l3), some (.int l4), some (.int l5), some (.long x8), none, none, none], [], S15, 0, 0)) rfl trivial (fun hz => ?_) (fun hz => ?_)
          · have h := h.1 hz
            refine jLf.sub [some (.ref l0), some (.int l1), some (.int l2), some (.int l3), some (.int l4), some (.int l5), none, none, none, none] (jle_same (jle_same (jle_same (jle_same (jle_same (jle_same (jle_none (jle_same (jle_same (jle_same (jle_nil _))))))))))) ?_
            exact tX6_fetch_94 d hd hX7 h
          · have h := h.2 hz
            obtain ⟨g17, g18, g19, g20, h⟩ := h
            refine jLf.bk hc 10 [jA S15 l0 6, ¬ jR S15 l0 0 = none, jA S15 (jr S15 l0 0) 14, vp_in (l2 + l5) (jZ S15 (jr S15 l0 0)), jA S15 (jr S15 l0 0) 14, vp_in (l2 + l5) (jZ S15 (jr S15 l0 0))] [some (.ref l0), some (.int l1), some (.int l2), some (.int l3), some (.int l4), some (.int l5), some (.long x8), none, none, none] [] (uJ S15 (jr S15 l0 0) (l2 + l5).toNatClampNeg ((jJ S15 (jr S15 l0 0) (l2 + l5).toNatClampNeg) ||| x8)) rfl rfl rfl ⟨g17, g18, g19, g20, g19, g20⟩ ?_
            generalize eS21 : uJ S15 (jr S15 l0 0) (l2 + l5).toNatClampNeg ((jJ S15 (jr S15 l0 0) (l2 + l5).toNatClampNeg) ||| x8) = S21
            have h := h S21 eS21.symm
            obtain ⟨g22, g23, g24, g25, h⟩ := h
            refine jLf.bk hc 16 [jA S21 l0 6, ¬ jR S21 l0 0 = none, jA S21 (jr S21 l0 0) 14, vp_in (l2 + (l5 ^^^ ((1 : Int32) <<< ((l3 - (6 : Int32)) &&& 31)))) (jZ S21 (jr S21 l0 0)), jA S21 (jr S21 l0 0) 14, vp_in (l2 + (l5 ^^^ ((1 : Int32) <<< ((l3 - (6 : Int32)) &&& 31)))) (jZ S21 (jr S21 l0 0))] [some (.ref l0), some (.int l1), some (.int l2), some (.int l3), some (.int l4), some (.int l5), some (.long x8), none, none, none] [] (uJ S21 (jr S21 l0 0) (l2 + (l5 ^^^ ((1 : Int32) <<< ((l3 - (6 : Int32)) &&& 31)))).toNatClampNeg ((jJ S21 (jr S21 l0 0) (l2 + (l5 ^^^ ((1 : Int32) <<< ((l3 - (6 : Int32)) &&& 31)))).toNatClampNeg) ||| x8)) rfl rfl rfl ⟨g22, g23, g24, g25, g24, g25⟩ ?_
            generalize eS26 : uJ S21 (jr S21 l0 0) (l2 + (l5 ^^^ ((1 : Int32) <<< ((l3 - (6 : Int32)) &&& 31)))).toNatClampNeg ((jJ S21 (jr S21 l0 0) (l2 + (l5 ^^^ ((1 : Int32) <<< ((l3 - (6 : Int32)) &&& 31)))).toNatClampNeg) ||| x8) = S26
            have h := h S26 eS26.symm
            refine jLf.sub [some (.ref l0), some (.int l1), some (.int l2), some (.int l3), some (.int l4), some (.int l5), none, none, none, none] (jle_same (jle_same (jle_same (jle_same (jle_same (jle_same (jle_none (jle_same (jle_same (jle_same (jle_nil _))))))))))) ?_
            exact tX6_fetch_94 d hd hX7 h
        · have h := h.2 hz
          refine jLf.bk hc 1 [] [some (.ref l0), some (.int l1), some (.int l2), some (.int l3), some (.int l4), some (.int l5), some (.long x8), none, none, none] [.long x8] S rfl rfl rfl trivial ?_
          refine jLf.one hc _ rfl (gs := []) (c := (39, [some (.ref l0), some (.int l1), some (.int l2), some (.int l3), some (.int l4), some (.int l5), some (.long x8), none, none, none], [.ref (jX + 1), .long x8], S, 0, 0)) rfl trivial ?_
          refine jLf.bk hc 1 [] [some (.ref l0), some (.int l1), some (.int l2), some (.int l3), some (.int l4), some (.int l5), some (.long x8), none, none, none] [.int l3, .ref (jX + 1), .long x8] S rfl rfl rfl trivial ?_
          obtain ⟨gb, h⟩ := h
          refine jLf.one hc _ rfl (gs := [(jX + 1) = jX + 1, vp_in l3 6]) (c := (41, [some (.ref l0), some (.int l1), some (.int l2), some (.int l3), some (.int l4), some (.int l5), some (.long x8), none, none, none], [.long (jTW l3.toNatClampNeg), .long x8], S, 0, 0)) rfl ⟨rfl, gb⟩ ?_
          refine jLf.bk hc 4 [] [some (.ref l0), some (.int l1), some (.int l2), some (.int l3), some (.int l4), some (.int l5), some (.long x8), none, some (.long (x8 &&& ((jTW l3.toNatClampNeg) ^^^ (-1 : Int64)))), none] [] S rfl rfl rfl trivial ?_
          generalize ex27 : (x8 &&& ((jTW l3.toNatClampNeg) ^^^ (-1 : Int64)) : Int64) = x27
          have h := h x27 ex27.symm
          obtain ⟨g28, h⟩ := h
          refine jLf.bk hc 16 [jA S l0 6, ¬ jR S l0 0 = none, jA S (jr S l0 0) 14, vp_in (l2 + l5) (jZ S (jr S l0 0)), jA S (jr S l0 0) 14, vp_in (l2 + l5) (jZ S (jr S l0 0))] [some (.ref l0), some (.int l1), some (.int l2), some (.int l3), some (.int l4), some (.int l5), some (.long x8), none, some (.long x27), none] [] (uJ S (jr S l0 0) (l2 + l5).toNatClampNeg ((jJ S (jr S l0 0) (l2 + l5).toNatClampNeg) ||| (x27 ||| (jlushr x27 ((1 : Int32) <<< (l3 &&& 31)))))) rfl rfl rfl ⟨g4, g5, g6, g28, g6, g28⟩ ?_
          generalize eS29 : uJ S (jr S l0 0) (l2 + l5).toNatClampNeg ((jJ S (jr S l0 0) (l2 + l5).toNatClampNeg) ||| (x27 ||| (jlushr x27 ((1 : Int32) <<< (l3 &&& 31))))) = S29
          have h := h S29 eS29.symm
          refine jLf.one hc _ rfl (gs := []) (c := (94, [some (.ref l0), some (.int l1), some (.int l2), some (.int l3), some (.int l4), some (.int l5), some (.long x8), none, some (.long x27), none], [], S29, 0, 0)) rfl trivial ?_
          refine jLf.sub [some (.ref l0), some (.int l1), some (.int l2), some (.int l3), some (.int l4), some (.int l5), none, none, none, none] (jle_same (jle_same (jle_same (jle_same (jle_same (jle_same (jle_none (jle_same (jle_none (jle_same (jle_nil _))))))))))) ?_
          exact tX6_fetch_94 d hd hX7 h
      · have h := h.2 (Classical.not_not.mp hz)
        exact tX6_fetch_23 d hd hX7 h
def wX6_fetch_7   (l0 : Nat) (l1 : Int32) (l2 : Int32) (l3 : Int32) (l4 : Int32) (l5 : Int32) (S : JS) (Q : JS → Prop) : Prop :=
  jLoop (fun (X7 : Nat × Int32 × Int32 × Int32 × Int32 × Int32 × JS → Prop) q => bX6_fetch_7 (fun l0 l1 l2 l3 l4 l5 S => X7 (l0, l1, l2, l3, l4, l5, S)) q.1 q.2.1 q.2.2.1 q.2.2.2.1 q.2.2.2.2.1 q.2.2.2.2.2.1 q.2.2.2.2.2.2 Q) (l0, l1, l2, l3, l4, l5, S)
set_option maxRecDepth 20000 in
theorem tX6_fetch_7 {Q : JS → Prop}  (d : Nat) (hd : 1 ≤ d) {l0 : Nat} {l1 : Int32} {l2 : Int32} {l3 : Int32} {l4 : Int32} {l5 : Int32} {S : JS} (h : wX6_fetch_7 l0 l1 l2 l3 l4 l5 S Q) : jLf (jCall jmt jbud d) jbud (fun j => (jmt j).rk) none mX6_fetch (jqV Q) (7, [some (.ref l0), some (.int l1), some (.int l2), some (.int l3), some (.int l4), some (.int l5), none, none, none, none], [], S, 0, 0) := by
  have := h (fun q : Nat × Int32 × Int32 × Int32 × Int32 × Int32 × JS => jLf (jCall jmt jbud d) jbud (fun j => (jmt j).rk) none mX6_fetch (jqV Q) (7, [some (.ref (q.1)), some (.int (q.2.1)), some (.int (q.2.2.1)), some (.int (q.2.2.2.1)), some (.int (q.2.2.2.2.1)), some (.int (q.2.2.2.2.2.1)), none, none, none, none], [], q.2.2.2.2.2.2, 0, 0)) (fun q R hb hR => uX6_fetch_7 d hd  (fun _ _ _ _ _ _ _ => hR _) hb)
  exact this
def wX6_fetch  (this : Nat) (p1 : Int32) (p2 : Int32) (p3 : Int32) (S : JS) (Q : JS → Prop) : Prop :=
  jA S this 6 ∧ (wX11_hasBit (jI S this 1) p3 S (fun r3 S2 => wX6_fetch_7 this p1 p2 p3 r3 0 S2 Q))
set_option maxRecDepth 20000 in
theorem vX6_fetch {Q : JS → Prop} (d : Nat) (hd : 2 ≤ d) {this : Nat} {p1 : Int32} {p2 : Int32} {p3 : Int32} {S : JS} (h : wX6_fetch this p1 p2 p3 S Q) : jCall jmt jbud d 66 [.ref this, .int p1, .int p2, .int p3] S (jqV Q) := by
  obtain ⟨d, rfl⟩ : ∃ d2, d = d2 + 1 := ⟨d - 1, by omega⟩
  have hd : 1 ≤ d := by omega
  have hc := jCall_mono jmt jbud d
  unfold wX6_fetch at h
  refine ⟨Nat.le_of_ble_eq_true rfl, ?_⟩
  show jLf (jCall jmt jbud d) jbud (fun j => (jmt j).rk) none mX6_fetch (jqV Q) (0, [some (.ref this), some (.int p1), some (.int p2), some (.int p3), none, none, none, none, none, none], [], S, 0, 0)
  obtain ⟨g1, h⟩ := h
  refine jLf.bk hc 3 [jA S this 6] [some (.ref this), some (.int p1), some (.int p2), some (.int p3), none, none, none, none, none, none] [.int p3, .int (jI S this 1)] S rfl rfl rfl g1 ?_
  refine jLf.inv hc _ rfl (gs := [2 ≤ ([.int p3, .int (jI S this 1)] : List Value).length, (([] : List Value).map fun v => v.category).sum ≤ 8, 0 ≤ 0, 0 ≤ 0]) (k := 145) (args := [.int (jI S this 1), .int p3]) (r := []) (a := 0) (b := 0) rfl ⟨Nat.le_of_ble_eq_true rfl, Nat.le_of_ble_eq_true rfl, Nat.zero_le _, Nat.zero_le _⟩ (vX11_hasBit d (by omega) h) ?_
  rintro v S2 ⟨r3, rfl, h⟩
  show jLf (jCall jmt jbud d) jbud (fun j => (jmt j).rk) none mX6_fetch (jqV Q) (4, [some (.ref this), some (.int p1), some (.int p2), some (.int p3), none, none, none, none, none, none], [.int r3], S2, 0, 0)
  refine jLf.bk hc 3 [] [some (.ref this), some (.int p1), some (.int p2), some (.int p3), some (.int r3), some (.int 0), none, none, none, none] [] S2 rfl rfl rfl trivial ?_
  exact tX6_fetch_7 d hd  h
def wX6_lookBack_56  (X21 : Nat → Nat → Int32 → Int32 → JS → Prop) (X26 : Nat → Nat → Int32 → Int32 → Int32 → JS → Prop) (X36 : Nat → Nat → Int32 → Int32 → Int32 → Int32 → Int32 → JS → Prop) (l0 : Nat) (l1 : Nat) (l2 : Int32) (l4 : Int32) (l5 : Int32) (l6 : Int32) (l7 : Int32) (S : JS) (Q : JS → Prop) : Prop :=
  ∀ x13 : Int32, x13 = (l7 + 1) → (X36 l0 l1 l2 l4 l5 l6 x13 S)
set_option maxRecDepth 20000 in
theorem tX6_lookBack_56 {Q : JS → Prop} {X21 : Nat → Nat → Int32 → Int32 → JS → Prop} {X26 : Nat → Nat → Int32 → Int32 → Int32 → JS → Prop} {X36 : Nat → Nat → Int32 → Int32 → Int32 → Int32 → Int32 → JS → Prop} (d : Nat) (hd : 2 ≤ d) (hX21 : ∀ l0 l1 l2 l4 S, X21 l0 l1 l2 l4 S → jLf (jCall jmt jbud d) jbud (fun j => (jmt j).rk) none mX6_lookBack (jqV Q) (21, [some (.ref l0), some (.ref l1), some (.int l2), none, some (.int l4), none, none, none], [], S, 0, 0)) (hX26 : ∀ l0 l1 l2 l4 l5 S, X26 l0 l1 l2 l4 l5 S → jLf (jCall jmt jbud d) jbud (fun j => (jmt j).rk) none mX6_lookBack (jqV Q) (26, [some (.ref l0), some (.ref l1), some (.int l2), none, some (.int l4), some (.int l5), none, none], [], S, 0, 0)) (hX36 : ∀ l0 l1 l2 l4 l5 l6 l7 S, X36 l0 l1 l2 l4 l5 l6 l7 S → jLf (jCall jmt jbud d) jbud (fun j => (jmt j).rk) none mX6_lookBack (jqV Q) (36, [some (.ref l0), some (.ref l1), some (.int l2), none, some (.int l4), some (.int l5), some (.int l6), some (.int l7)], [], S, 0, 0)) {l0 : Nat} {l1 : Nat} {l2 : Int32} {l4 : Int32} {l5 : Int32} {l6 : Int32} {l7 : Int32} {S : JS} (h : wX6_lookBack_56 X21 X26 X36 l0 l1 l2 l4 l5 l6 l7 S Q) : jLf (jCall jmt jbud d) jbud (fun j => (jmt j).rk) none mX6_lookBack (jqV Q) (56, [some (.ref l0), some (.ref l1), some (.int l2), none, some (.int l4), some (.int l5), some (.int l6), some (.int l7)], [], S, 0, 0) := by
  have hc := jCall_mono jmt jbud d
  unfold wX6_lookBack_56 at h
  refine jLf.bk hc 1 [] [some (.ref l0), some (.ref l1), some (.int l2), none, some (.int l4), some (.int l5), some (.int l6), some (.int (l7 + 1))] [] S rfl rfl rfl trivial ?_
  generalize ex13 : (l7 + 1 : Int32) = x13
  have h := h x13 ex13.symm
  refine jLf.one hc _ rfl (gs := []) (c := (36, [some (.ref l0), some (.ref l1), some (.int l2), none, some (.int l4), some (.int l5), some (.int l6), some (.int x13)], [], S, 0, 0)) rfl trivial ?_
  exact hX36 _ _ _ _ _ _ _ _ h
def bX6_lookBack_36  (X21 : Nat → Nat → Int32 → Int32 → JS → Prop) (X26 : Nat → Nat → Int32 → Int32 → Int32 → JS → Prop) (X36 : Nat → Nat → Int32 → Int32 → Int32 → Int32 → Int32 → JS → Prop) (l0 : Nat) (l1 : Nat) (l2 : Int32) (l4 : Int32) (l5 : Int32) (l6 : Int32) (l7 : Int32) (S : JS) (Q : JS → Prop) : Prop :=
  (9 ≤ l7 → ∀ x10 : Int32, x10 = (l5 + 1) → (X26 l0 l1 l2 l4 x10 S)) ∧ (¬ (9 ≤ l7) → wX11_hasBit l6 l7 S (fun r12 S11 => (r12 = 0 → wX6_lookBack_56 X21 X26 X36 l0 l1 l2 l4 l5 l6 l7 S11 Q) ∧ (¬ r12 = 0 → wX6_wordOf l7 (l4 + (1 : Int32)) 0 S11 (fun r15 S14 => wX6_wordOf l5 l4 0 S14 (fun r17 S16 => jA S16 l0 6 ∧ (wX6_fetch l0 r15 r17 l7 S16 (fun S18 => wX6_lookBack_56 X21 X26 X36 l0 l1 l2 l4 l5 l6 l7 S18 Q)))))))
set_option maxRecDepth 20000 in
theorem uX6_lookBack_36 {Q : JS → Prop} {X21 : Nat → Nat → Int32 → Int32 → JS → Prop} {X26 : Nat → Nat → Int32 → Int32 → Int32 → JS → Prop} (d : Nat) (hd : 2 ≤ d) (hX21 : ∀ l0 l1 l2 l4 S, X21 l0 l1 l2 l4 S → jLf (jCall jmt jbud d) jbud (fun j => (jmt j).rk) none mX6_lookBack (jqV Q) (21, [some (.ref l0), some (.ref l1), some (.int l2), none, some (.int l4), none, none, none], [], S, 0, 0)) (hX26 : ∀ l0 l1 l2 l4 l5 S, X26 l0 l1 l2 l4 l5 S → jLf (jCall jmt jbud d) jbud (fun j => (jmt j).rk) none mX6_lookBack (jqV Q) (26, [some (.ref l0), some (.ref l1), some (.int l2), none, some (.int l4), some (.int l5), none, none], [], S, 0, 0)) {X36 : Nat → Nat → Int32 → Int32 → Int32 → Int32 → Int32 → JS → Prop} (hX36 : ∀ l0 l1 l2 l4 l5 l6 l7 S, X36 l0 l1 l2 l4 l5 l6 l7 S → jLf (jCall jmt jbud d) jbud (fun j => (jmt j).rk) none mX6_lookBack (jqV Q) (36, [some (.ref l0), some (.ref l1), some (.int l2), none, some (.int l4), some (.int l5), some (.int l6), some (.int l7)], [], S, 0, 0)) {l0 : Nat} {l1 : Nat} {l2 : Int32} {l4 : Int32} {l5 : Int32} {l6 : Int32} {l7 : Int32} {S : JS} (h : bX6_lookBack_36 X21 X26 X36 l0 l1 l2 l4 l5 l6 l7 S Q) : jLf (jCall jmt jbud d) jbud (fun j => (jmt j).rk) none mX6_lookBack (jqV Q) (36, [some (.ref l0), some (.ref l1), some (.int l2), none, some (.int l4), some (.int l5), some (.int l6), some (.int l7)], [], S, 0, 0) := by
  have hc := jCall_mono jmt jbud d
  unfold bX6_lookBack_36 at h
  refine jLf.bk hc 2 [] [some (.ref l0), some (.ref l1), some (.int l2), none, some (.int l4), some (.int l5), some (.int l6), some (.int l7)] [.int 9, .int l7] S rfl rfl rfl trivial ?_
  refine jLf.two hc _ rfl (gs := []) (p1 := 9 ≤ l7) (p2 := ¬ (9 ≤ l7)) (c1 := (58, [some (.ref l0), some (.ref l1), some (.int l2), none, some (.int l4), some (.int l5), some (.int l6), some (.int l7)], [], S, 0, 0)) (c2 := (39, [some (.ref l0), some (.ref l1), some (.int l2), none, some (.int l4), some (.int l5), some (.int l6), some (.int l7)], [], S, 0, 0)) rfl trivial (fun hz => ?_) (fun hz => ?_)
  · have h := h.1 hz
    refine jLf.bk hc 1 [] [some (.ref l0), some (.ref l1), some (.int l2), none, some (.int l4), some (.int (l5 + 1)), some (.int l6), some (.int l7)] [] S rfl rfl rfl trivial ?_
    generalize ex10 : (l5 + 1 : Int32) = x10
    have h := h x10 ex10.symm
    refine jLf.one hc _ rfl (gs := []) (c := (26, [some (.ref l0), some (.ref l1), some (.int l2), none, some (.int l4), some (.int x10), some (.int l6), some (.int l7)], [], S, 0, 0)) rfl trivial ?_
    refine jLf.sub [some (.ref l0), some (.ref l1), some (.int l2), none, some (.int l4), some (.int x10), none, none] (jle_same (jle_same (jle_same (jle_same (jle_same (jle_same (jle_none (jle_none (jle_nil _))))))))) ?_
    exact hX26 _ _ _ _ _ _ h
  · have h := h.2 hz
    refine jLf.bk hc 2 [] [some (.ref l0), some (.ref l1), some (.int l2), none, some (.int l4), some (.int l5), some (.int l6), some (.int l7)] [.int l7, .int l6] S rfl rfl rfl trivial ?_
    refine jLf.inv hc _ rfl (gs := [2 ≤ ([.int l7, .int l6] : List Value).length, (([] : List Value).map fun v => v.category).sum ≤ 8, 0 ≤ 0, 0 ≤ 0]) (k := 145) (args := [.int l6, .int l7]) (r := []) (a := 0) (b := 0) rfl ⟨Nat.le_of_ble_eq_true rfl, Nat.le_of_ble_eq_true rfl, Nat.zero_le _, Nat.zero_le _⟩ (vX11_hasBit d (by omega) h) ?_
    rintro v S11 ⟨r12, rfl, h⟩
    show jLf (jCall jmt jbud d) jbud (fun j => (jmt j).rk) none mX6_lookBack (jqV Q) (42, [some (.ref l0), some (.ref l1), some (.int l2), none, some (.int l4), some (.int l5), some (.int l6), some (.int l7)], [.int r12], S11, 0, 0)
    refine jLf.two hc _ rfl (gs := []) (p1 := r12 = 0) (p2 := ¬ (r12 = 0)) (c1 := (56, [some (.ref l0), some (.ref l1), some (.int l2), none, some (.int l4), some (.int l5), some (.int l6), some (.int l7)], [], S11, 0, 0)) (c2 := (43, [some (.ref l0), some (.ref l1), some (.int l2), none, some (.int l4), some (.int l5), some (.int l6), some (.int l7)], [], S11, 0, 0)) rfl trivial (fun hz => ?_) (fun hz => ?_)
    · have h := h.1 hz
      exact tX6_lookBack_56 d hd hX21 hX26 hX36 h
    · have h := h.2 hz
      refine jLf.bk hc 6 [] [some (.ref l0), some (.ref l1), some (.int l2), none, some (.int l4), some (.int l5), some (.int l6), some (.int l7)] [.int 0, .int (l4 + (1 : Int32)), .int l7, .ref l0] S11 rfl rfl rfl trivial ?_
      refine jLf.inv hc _ rfl (gs := [3 ≤ ([.int 0, .int (l4 + (1 : Int32)), .int l7, .ref l0] : List Value).length, (([.ref l0] : List Value).map fun v => v.category).sum ≤ 8, 0 ≤ 0, 0 ≤ 0]) (k := 69) (args := [.int l7, .int (l4 + (1 : Int32)), .int 0]) (r := [.ref l0]) (a := 0) (b := 0) rfl ⟨Nat.le_of_ble_eq_true rfl, Nat.le_of_ble_eq_true rfl, Nat.zero_le _, Nat.zero_le _⟩ (vX6_wordOf d (by omega) h) ?_
      rintro v S14 ⟨r15, rfl, h⟩
      show jLf (jCall jmt jbud d) jbud (fun j => (jmt j).rk) none mX6_lookBack (jqV Q) (50, [some (.ref l0), some (.ref l1), some (.int l2), none, some (.int l4), some (.int l5), some (.int l6), some (.int l7)], [.int r15, .ref l0], S14, 0, 0)
      refine jLf.bk hc 3 [] [some (.ref l0), some (.ref l1), some (.int l2), none, some (.int l4), some (.int l5), some (.int l6), some (.int l7)] [.int 0, .int l4, .int l5, .int r15, .ref l0] S14 rfl rfl rfl trivial ?_
      refine jLf.inv hc _ rfl (gs := [3 ≤ ([.int 0, .int l4, .int l5, .int r15, .ref l0] : List Value).length, (([.int r15, .ref l0] : List Value).map fun v => v.category).sum ≤ 8, 0 ≤ 0, 0 ≤ 0]) (k := 69) (args := [.int l5, .int l4, .int 0]) (r := [.int r15, .ref l0]) (a := 0) (b := 0) rfl ⟨Nat.le_of_ble_eq_true rfl, Nat.le_of_ble_eq_true rfl, Nat.zero_le _, Nat.zero_le _⟩ (vX6_wordOf d (by omega) h) ?_
      rintro v S16 ⟨r17, rfl, h⟩
      show jLf (jCall jmt jbud d) jbud (fun j => (jmt j).rk) none mX6_lookBack (jqV Q) (54, [some (.ref l0), some (.ref l1), some (.int l2), none, some (.int l4), some (.int l5), some (.int l6), some (.int l7)], [.int r17, .int r15, .ref l0], S16, 0, 0)
      refine jLf.bk hc 1 [] [some (.ref l0), some (.ref l1), some (.int l2), none, some (.int l4), some (.int l5), some (.int l6), some (.int l7)] [.int l7, .int r17, .int r15, .ref l0] S16 rfl rfl rfl trivial ?_
      obtain ⟨g20, h⟩ := h
      refine jLf.inv hc _ rfl (gs := [jA S16 l0 6, (([] : List Value).map fun v => v.category).sum ≤ 8, 0 ≤ 0, 0 ≤ 0]) (k := 66) (args := [.ref l0, .int r15, .int r17, .int l7]) (r := []) (a := 0) (b := 0) rfl ⟨g20, Nat.le_of_ble_eq_true rfl, Nat.zero_le _, Nat.zero_le _⟩ (vX6_fetch d (by omega) h) ?_
      rintro v S18 ⟨rfl, h⟩
      show jLf (jCall jmt jbud d) jbud (fun j => (jmt j).rk) none mX6_lookBack (jqV Q) (56, [some (.ref l0), some (.ref l1), some (.int l2), none, some (.int l4), some (.int l5), some (.int l6), some (.int l7)], [], S18, 0, 0)
      exact tX6_lookBack_56 d hd hX21 hX26 hX36 h
def wX6_lookBack_36  (X21 : Nat → Nat → Int32 → Int32 → JS → Prop) (X26 : Nat → Nat → Int32 → Int32 → Int32 → JS → Prop) (l0 : Nat) (l1 : Nat) (l2 : Int32) (l4 : Int32) (l5 : Int32) (l6 : Int32) (l7 : Int32) (S : JS) (Q : JS → Prop) : Prop :=
  jLoop (fun (X36 : Nat × Nat × Int32 × Int32 × Int32 × Int32 × Int32 × JS → Prop) q => bX6_lookBack_36 X21 X26 (fun l0 l1 l2 l4 l5 l6 l7 S => X36 (l0, l1, l2, l4, l5, l6, l7, S)) q.1 q.2.1 q.2.2.1 q.2.2.2.1 q.2.2.2.2.1 q.2.2.2.2.2.1 q.2.2.2.2.2.2.1 q.2.2.2.2.2.2.2 Q) (l0, l1, l2, l4, l5, l6, l7, S)
set_option maxRecDepth 20000 in
theorem tX6_lookBack_36 {Q : JS → Prop} {X21 : Nat → Nat → Int32 → Int32 → JS → Prop} {X26 : Nat → Nat → Int32 → Int32 → Int32 → JS → Prop} (d : Nat) (hd : 2 ≤ d) (hX21 : ∀ l0 l1 l2 l4 S, X21 l0 l1 l2 l4 S → jLf (jCall jmt jbud d) jbud (fun j => (jmt j).rk) none mX6_lookBack (jqV Q) (21, [some (.ref l0), some (.ref l1), some (.int l2), none, some (.int l4), none, none, none], [], S, 0, 0)) (hX26 : ∀ l0 l1 l2 l4 l5 S, X26 l0 l1 l2 l4 l5 S → jLf (jCall jmt jbud d) jbud (fun j => (jmt j).rk) none mX6_lookBack (jqV Q) (26, [some (.ref l0), some (.ref l1), some (.int l2), none, some (.int l4), some (.int l5), none, none], [], S, 0, 0)) {l0 : Nat} {l1 : Nat} {l2 : Int32} {l4 : Int32} {l5 : Int32} {l6 : Int32} {l7 : Int32} {S : JS} (h : wX6_lookBack_36 X21 X26 l0 l1 l2 l4 l5 l6 l7 S Q) : jLf (jCall jmt jbud d) jbud (fun j => (jmt j).rk) none mX6_lookBack (jqV Q) (36, [some (.ref l0), some (.ref l1), some (.int l2), none, some (.int l4), some (.int l5), some (.int l6), some (.int l7)], [], S, 0, 0) := by
  have := h (fun q : Nat × Nat × Int32 × Int32 × Int32 × Int32 × Int32 × JS => jLf (jCall jmt jbud d) jbud (fun j => (jmt j).rk) none mX6_lookBack (jqV Q) (36, [some (.ref (q.1)), some (.ref (q.2.1)), some (.int (q.2.2.1)), none, some (.int (q.2.2.2.1)), some (.int (q.2.2.2.2.1)), some (.int (q.2.2.2.2.2.1)), some (.int (q.2.2.2.2.2.2.1))], [], q.2.2.2.2.2.2.2, 0, 0)) (fun q R hb hR => uX6_lookBack_36 d hd hX21 hX26 (fun _ _ _ _ _ _ _ _ => hR _) hb)
  exact this
def bX6_lookBack_26  (X21 : Nat → Nat → Int32 → Int32 → JS → Prop) (X26 : Nat → Nat → Int32 → Int32 → Int32 → JS → Prop) (l0 : Nat) (l1 : Nat) (l2 : Int32) (l4 : Int32) (l5 : Int32) (S : JS) (Q : JS → Prop) : Prop :=
  (9 ≤ l5 → ∀ x6 : Int32, x6 = (l4 + (-1)) → (X21 l0 l1 l2 x6 S)) ∧ (¬ (9 ≤ l5) → jA S l1 1 ∧ (wX1_steps l1 l5 l4 S (fun r8 S7 => wX6_lookBack_36 X21 X26 l0 l1 l2 l4 l5 r8 0 S7 Q)))
set_option maxRecDepth 20000 in
theorem uX6_lookBack_26 {Q : JS → Prop} {X21 : Nat → Nat → Int32 → Int32 → JS → Prop} (d : Nat) (hd : 2 ≤ d) (hX21 : ∀ l0 l1 l2 l4 S, X21 l0 l1 l2 l4 S → jLf (jCall jmt jbud d) jbud (fun j => (jmt j).rk) none mX6_lookBack (jqV Q) (21, [some (.ref l0), some (.ref l1), some (.int l2), none, some (.int l4), none, none, none], [], S, 0, 0)) {X26 : Nat → Nat → Int32 → Int32 → Int32 → JS → Prop} (hX26 : ∀ l0 l1 l2 l4 l5 S, X26 l0 l1 l2 l4 l5 S → jLf (jCall jmt jbud d) jbud (fun j => (jmt j).rk) none mX6_lookBack (jqV Q) (26, [some (.ref l0), some (.ref l1), some (.int l2), none, some (.int l4), some (.int l5), none, none], [], S, 0, 0)) {l0 : Nat} {l1 : Nat} {l2 : Int32} {l4 : Int32} {l5 : Int32} {S : JS} (h : bX6_lookBack_26 X21 X26 l0 l1 l2 l4 l5 S Q) : jLf (jCall jmt jbud d) jbud (fun j => (jmt j).rk) none mX6_lookBack (jqV Q) (26, [some (.ref l0), some (.ref l1), some (.int l2), none, some (.int l4), some (.int l5), none, none], [], S, 0, 0) := by
  have hc := jCall_mono jmt jbud d
  unfold bX6_lookBack_26 at h
  refine jLf.bk hc 2 [] [some (.ref l0), some (.ref l1), some (.int l2), none, some (.int l4), some (.int l5), none, none] [.int 9, .int l5] S rfl rfl rfl trivial ?_
  refine jLf.two hc _ rfl (gs := []) (p1 := 9 ≤ l5) (p2 := ¬ (9 ≤ l5)) (c1 := (60, [some (.ref l0), some (.ref l1), some (.int l2), none, some (.int l4), some (.int l5), none, none], [], S, 0, 0)) (c2 := (29, [some (.ref l0), some (.ref l1), some (.int l2), none, some (.int l4), some (.int l5), none, none], [], S, 0, 0)) rfl trivial (fun hz => ?_) (fun hz => ?_)
  · have h := h.1 hz
    refine jLf.bk hc 1 [] [some (.ref l0), some (.ref l1), some (.int l2), none, some (.int (l4 + (-1))), some (.int l5), none, none] [] S rfl rfl rfl trivial ?_
    generalize ex6 : (l4 + (-1) : Int32) = x6
    have h := h x6 ex6.symm
    refine jLf.one hc _ rfl (gs := []) (c := (21, [some (.ref l0), some (.ref l1), some (.int l2), none, some (.int x6), some (.int l5), none, none], [], S, 0, 0)) rfl trivial ?_
    refine jLf.sub [some (.ref l0), some (.ref l1), some (.int l2), none, some (.int x6), none, none, none] (jle_same (jle_same (jle_same (jle_same (jle_same (jle_none (jle_same (jle_same (jle_nil _))))))))) ?_
    exact hX21 _ _ _ _ _ h
  · have h := h.2 hz
    refine jLf.bk hc 3 [] [some (.ref l0), some (.ref l1), some (.int l2), none, some (.int l4), some (.int l5), none, none] [.int l4, .int l5, .ref l1] S rfl rfl rfl trivial ?_
    obtain ⟨g9, h⟩ := h
    refine jLf.inv hc _ rfl (gs := [jA S l1 1, (([] : List Value).map fun v => v.category).sum ≤ 8, 0 ≤ 0, 0 ≤ 0]) (k := 15) (args := [.ref l1, .int l5, .int l4]) (r := []) (a := 0) (b := 0) rfl ⟨g9, Nat.le_of_ble_eq_true rfl, Nat.zero_le _, Nat.zero_le _⟩ (vX1_steps d (by omega) h) ?_
    rintro v S7 ⟨r8, rfl, h⟩
    show jLf (jCall jmt jbud d) jbud (fun j => (jmt j).rk) none mX6_lookBack (jqV Q) (33, [some (.ref l0), some (.ref l1), some (.int l2), none, some (.int l4), some (.int l5), none, none], [.int r8], S7, 0, 0)
    refine jLf.bk hc 3 [] [some (.ref l0), some (.ref l1), some (.int l2), none, some (.int l4), some (.int l5), some (.int r8), some (.int 0)] [] S7 rfl rfl rfl trivial ?_
    exact tX6_lookBack_36 d hd hX21 hX26 h
def wX6_lookBack_26  (X21 : Nat → Nat → Int32 → Int32 → JS → Prop) (l0 : Nat) (l1 : Nat) (l2 : Int32) (l4 : Int32) (l5 : Int32) (S : JS) (Q : JS → Prop) : Prop :=
  jLoop (fun (X26 : Nat × Nat × Int32 × Int32 × Int32 × JS → Prop) q => bX6_lookBack_26 X21 (fun l0 l1 l2 l4 l5 S => X26 (l0, l1, l2, l4, l5, S)) q.1 q.2.1 q.2.2.1 q.2.2.2.1 q.2.2.2.2.1 q.2.2.2.2.2 Q) (l0, l1, l2, l4, l5, S)
set_option maxRecDepth 20000 in
theorem tX6_lookBack_26 {Q : JS → Prop} {X21 : Nat → Nat → Int32 → Int32 → JS → Prop} (d : Nat) (hd : 2 ≤ d) (hX21 : ∀ l0 l1 l2 l4 S, X21 l0 l1 l2 l4 S → jLf (jCall jmt jbud d) jbud (fun j => (jmt j).rk) none mX6_lookBack (jqV Q) (21, [some (.ref l0), some (.ref l1), some (.int l2), none, some (.int l4), none, none, none], [], S, 0, 0)) {l0 : Nat} {l1 : Nat} {l2 : Int32} {l4 : Int32} {l5 : Int32} {S : JS} (h : wX6_lookBack_26 X21 l0 l1 l2 l4 l5 S Q) : jLf (jCall jmt jbud d) jbud (fun j => (jmt j).rk) none mX6_lookBack (jqV Q) (26, [some (.ref l0), some (.ref l1), some (.int l2), none, some (.int l4), some (.int l5), none, none], [], S, 0, 0) := by
  have := h (fun q : Nat × Nat × Int32 × Int32 × Int32 × JS => jLf (jCall jmt jbud d) jbud (fun j => (jmt j).rk) none mX6_lookBack (jqV Q) (26, [some (.ref (q.1)), some (.ref (q.2.1)), some (.int (q.2.2.1)), none, some (.int (q.2.2.2.1)), some (.int (q.2.2.2.2.1)), none, none], [], q.2.2.2.2.2, 0, 0)) (fun q R hb hR => uX6_lookBack_26 d hd hX21 (fun _ _ _ _ _ _ => hR _) hb)
  exact this
def bX6_lookBack_21   (X21 : Nat → Nat → Int32 → Int32 → JS → Prop) (l0 : Nat) (l1 : Nat) (l2 : Int32) (l4 : Int32) (S : JS) (Q : JS → Prop) : Prop :=
  (l4 < l2 → Q S) ∧ (¬ (l4 < l2) → wX6_lookBack_26 X21 l0 l1 l2 l4 0 S Q)
set_option maxRecDepth 20000 in
theorem uX6_lookBack_21 {Q : JS → Prop}  (d : Nat) (hd : 2 ≤ d) {X21 : Nat → Nat → Int32 → Int32 → JS → Prop} (hX21 : ∀ l0 l1 l2 l4 S, X21 l0 l1 l2 l4 S → jLf (jCall jmt jbud d) jbud (fun j => (jmt j).rk) none mX6_lookBack (jqV Q) (21, [some (.ref l0), some (.ref l1), some (.int l2), none, some (.int l4), none, none, none], [], S, 0, 0)) {l0 : Nat} {l1 : Nat} {l2 : Int32} {l4 : Int32} {S : JS} (h : bX6_lookBack_21 X21 l0 l1 l2 l4 S Q) : jLf (jCall jmt jbud d) jbud (fun j => (jmt j).rk) none mX6_lookBack (jqV Q) (21, [some (.ref l0), some (.ref l1), some (.int l2), none, some (.int l4), none, none, none], [], S, 0, 0) := by
  have hc := jCall_mono jmt jbud d
  unfold bX6_lookBack_21 at h
  refine jLf.bk hc 2 [] [some (.ref l0), some (.ref l1), some (.int l2), none, some (.int l4), none, none, none] [.int l2, .int l4] S rfl rfl rfl trivial ?_
  refine jLf.two hc _ rfl (gs := []) (p1 := l4 < l2) (p2 := ¬ (l4 < l2)) (c1 := (62, [some (.ref l0), some (.ref l1), some (.int l2), none, some (.int l4), none, none, none], [], S, 0, 0)) (c2 := (24, [some (.ref l0), some (.ref l1), some (.int l2), none, some (.int l4), none, none, none], [], S, 0, 0)) rfl trivial (fun hz => ?_) (fun hz => ?_)
  · have h := h.1 hz
    exact jLf.ret hc _ rfl (gs := [jrt none none]) (v := none) rfl trivial ⟨rfl, h⟩
  · have h := h.2 hz
    refine jLf.bk hc 2 [] [some (.ref l0), some (.ref l1), some (.int l2), none, some (.int l4), some (.int 0), none, none] [] S rfl rfl rfl trivial ?_
    exact tX6_lookBack_26 d hd hX21 h
def wX6_lookBack_21   (l0 : Nat) (l1 : Nat) (l2 : Int32) (l4 : Int32) (S : JS) (Q : JS → Prop) : Prop :=
  jLoop (fun (X21 : Nat × Nat × Int32 × Int32 × JS → Prop) q => bX6_lookBack_21 (fun l0 l1 l2 l4 S => X21 (l0, l1, l2, l4, S)) q.1 q.2.1 q.2.2.1 q.2.2.2.1 q.2.2.2.2 Q) (l0, l1, l2, l4, S)
set_option maxRecDepth 20000 in
theorem tX6_lookBack_21 {Q : JS → Prop}  (d : Nat) (hd : 2 ≤ d) {l0 : Nat} {l1 : Nat} {l2 : Int32} {l4 : Int32} {S : JS} (h : wX6_lookBack_21 l0 l1 l2 l4 S Q) : jLf (jCall jmt jbud d) jbud (fun j => (jmt j).rk) none mX6_lookBack (jqV Q) (21, [some (.ref l0), some (.ref l1), some (.int l2), none, some (.int l4), none, none, none], [], S, 0, 0) := by
  have := h (fun q : Nat × Nat × Int32 × Int32 × JS => jLf (jCall jmt jbud d) jbud (fun j => (jmt j).rk) none mX6_lookBack (jqV Q) (21, [some (.ref (q.1)), some (.ref (q.2.1)), some (.int (q.2.2.1)), none, some (.int (q.2.2.2.1)), none, none, none], [], q.2.2.2.2, 0, 0)) (fun q R hb hR => uX6_lookBack_21 d hd  (fun _ _ _ _ _ => hR _) hb)
  exact this
def bX6_lookBack_6   (X6 : Nat → Nat → Int32 → Int32 → Int32 → JS → Prop) (l0 : Nat) (l1 : Nat) (l2 : Int32) (l3 : Int32) (l4 : Int32) (S : JS) (Q : JS → Prop) : Prop :=
  (9 ≤ l4 → ∀ x5 : Int32, x5 = (l3 - (1 : Int32)) → (wX6_lookBack_21 l0 l1 l2 x5 S Q)) ∧ (¬ (9 ≤ l4) → jA S l0 6 ∧ (wX6_put l0 l4 l3 (jI S l0 1) S (fun S22 => ∀ x24 : Int32, x24 = (l4 + 1) → (X6 l0 l1 l2 l3 x24 S22))))
set_option maxRecDepth 20000 in
theorem uX6_lookBack_6 {Q : JS → Prop}  (d : Nat) (hd : 2 ≤ d) {X6 : Nat → Nat → Int32 → Int32 → Int32 → JS → Prop} (hX6 : ∀ l0 l1 l2 l3 l4 S, X6 l0 l1 l2 l3 l4 S → jLf (jCall jmt jbud d) jbud (fun j => (jmt j).rk) none mX6_lookBack (jqV Q) (6, [some (.ref l0), some (.ref l1), some (.int l2), some (.int l3), some (.int l4), none, none, none], [], S, 0, 0)) {l0 : Nat} {l1 : Nat} {l2 : Int32} {l3 : Int32} {l4 : Int32} {S : JS} (h : bX6_lookBack_6 X6 l0 l1 l2 l3 l4 S Q) : jLf (jCall jmt jbud d) jbud (fun j => (jmt j).rk) none mX6_lookBack (jqV Q) (6, [some (.ref l0), some (.ref l1), some (.int l2), some (.int l3), some (.int l4), none, none, none], [], S, 0, 0) := by
  have hc := jCall_mono jmt jbud d
  unfold bX6_lookBack_6 at h
  refine jLf.bk hc 2 [] [some (.ref l0), some (.ref l1), some (.int l2), some (.int l3), some (.int l4), none, none, none] [.int 9, .int l4] S rfl rfl rfl trivial ?_
  refine jLf.two hc _ rfl (gs := []) (p1 := 9 ≤ l4) (p2 := ¬ (9 ≤ l4)) (c1 := (17, [some (.ref l0), some (.ref l1), some (.int l2), some (.int l3), some (.int l4), none, none, none], [], S, 0, 0)) (c2 := (9, [some (.ref l0), some (.ref l1), some (.int l2), some (.int l3), some (.int l4), none, none, none], [], S, 0, 0)) rfl trivial (fun hz => ?_) (fun hz => ?_)
  · have h := h.1 hz
    refine jLf.bk hc 4 [] [some (.ref l0), some (.ref l1), some (.int l2), some (.int l3), some (.int (l3 - (1 : Int32))), none, none, none] [] S rfl rfl rfl trivial ?_
    generalize ex5 : (l3 - (1 : Int32) : Int32) = x5
    have h := h x5 ex5.symm
    refine jLf.sub [some (.ref l0), some (.ref l1), some (.int l2), none, some (.int x5), none, none, none] (jle_same (jle_same (jle_same (jle_none (jle_same (jle_same (jle_same (jle_same (jle_nil _))))))))) ?_
    exact tX6_lookBack_21 d hd  h
  · have h := h.2 hz
    obtain ⟨g21, h⟩ := h
    refine jLf.bk hc 5 [jA S l0 6] [some (.ref l0), some (.ref l1), some (.int l2), some (.int l3), some (.int l4), none, none, none] [.int (jI S l0 1), .int l3, .int l4, .ref l0] S rfl rfl rfl g21 ?_
    refine jLf.inv hc _ rfl (gs := [jA S l0 6, (([] : List Value).map fun v => v.category).sum ≤ 8, 0 ≤ 0, 0 ≤ 0]) (k := 67) (args := [.ref l0, .int l4, .int l3, .int (jI S l0 1)]) (r := []) (a := 0) (b := 0) rfl ⟨g21, Nat.le_of_ble_eq_true rfl, Nat.zero_le _, Nat.zero_le _⟩ (vX6_put d (by omega) h) ?_
    rintro v S22 ⟨rfl, h⟩
    show jLf (jCall jmt jbud d) jbud (fun j => (jmt j).rk) none mX6_lookBack (jqV Q) (15, [some (.ref l0), some (.ref l1), some (.int l2), some (.int l3), some (.int l4), none, none, none], [], S22, 0, 0)
    refine jLf.bk hc 1 [] [some (.ref l0), some (.ref l1), some (.int l2), some (.int l3), some (.int (l4 + 1)), none, none, none] [] S22 rfl rfl rfl trivial ?_
    generalize ex24 : (l4 + 1 : Int32) = x24
    have h := h x24 ex24.symm
    refine jLf.one hc _ rfl (gs := []) (c := (6, [some (.ref l0), some (.ref l1), some (.int l2), some (.int l3), some (.int x24), none, none, none], [], S22, 0, 0)) rfl trivial ?_
    exact hX6 _ _ _ _ _ _ h
def wX6_lookBack_6   (l0 : Nat) (l1 : Nat) (l2 : Int32) (l3 : Int32) (l4 : Int32) (S : JS) (Q : JS → Prop) : Prop :=
  jLoop (fun (X6 : Nat × Nat × Int32 × Int32 × Int32 × JS → Prop) q => bX6_lookBack_6 (fun l0 l1 l2 l3 l4 S => X6 (l0, l1, l2, l3, l4, S)) q.1 q.2.1 q.2.2.1 q.2.2.2.1 q.2.2.2.2.1 q.2.2.2.2.2 Q) (l0, l1, l2, l3, l4, S)
set_option maxRecDepth 20000 in
theorem tX6_lookBack_6 {Q : JS → Prop}  (d : Nat) (hd : 2 ≤ d) {l0 : Nat} {l1 : Nat} {l2 : Int32} {l3 : Int32} {l4 : Int32} {S : JS} (h : wX6_lookBack_6 l0 l1 l2 l3 l4 S Q) : jLf (jCall jmt jbud d) jbud (fun j => (jmt j).rk) none mX6_lookBack (jqV Q) (6, [some (.ref l0), some (.ref l1), some (.int l2), some (.int l3), some (.int l4), none, none, none], [], S, 0, 0) := by
  have := h (fun q : Nat × Nat × Int32 × Int32 × Int32 × JS => jLf (jCall jmt jbud d) jbud (fun j => (jmt j).rk) none mX6_lookBack (jqV Q) (6, [some (.ref (q.1)), some (.ref (q.2.1)), some (.int (q.2.2.1)), some (.int (q.2.2.2.1)), some (.int (q.2.2.2.2.1)), none, none, none], [], q.2.2.2.2.2, 0, 0)) (fun q R hb hR => uX6_lookBack_6 d hd  (fun _ _ _ _ _ _ => hR _) hb)
  exact this
def wX6_lookBack  (this : Nat) (p1 : Nat) (p2 : Int32) (p3 : Int32) (S : JS) (Q : JS → Prop) : Prop :=
  jA S this 6 ∧ (¬ jR S this 0 = none ∧ (wJ7_fill_d0a16 (jr S this 0) 0 S (fun S3 => wX6_lookBack_6 this p1 p2 p3 0 S3 Q)))
set_option maxRecDepth 20000 in
theorem vX6_lookBack {Q : JS → Prop} (d : Nat) (hd : 3 ≤ d) {this : Nat} {p1 : Nat} {p2 : Int32} {p3 : Int32} {S : JS} (h : wX6_lookBack this p1 p2 p3 S Q) : jCall jmt jbud d 65 [.ref this, .ref p1, .int p2, .int p3] S (jqV Q) := by
  obtain ⟨d, rfl⟩ : ∃ d2, d = d2 + 1 := ⟨d - 1, by omega⟩
  have hd : 2 ≤ d := by omega
  have hc := jCall_mono jmt jbud d
  unfold wX6_lookBack at h
  refine ⟨Nat.le_of_ble_eq_true rfl, ?_⟩
  show jLf (jCall jmt jbud d) jbud (fun j => (jmt j).rk) none mX6_lookBack (jqV Q) (0, [some (.ref this), some (.ref p1), some (.int p2), some (.int p3), none, none, none, none], [], S, 0, 0)
  obtain ⟨g1, g2, h⟩ := h
  refine jLf.bk hc 3 [jA S this 6, ¬ jR S this 0 = none] [some (.ref this), some (.ref p1), some (.int p2), some (.int p3), none, none, none, none] [.long 0, .ref (jr S this 0)] S rfl rfl rfl ⟨g1, g2⟩ ?_
  refine jLf.inv hc _ rfl (gs := [2 ≤ ([.long 0, .ref (jr S this 0)] : List Value).length, (([] : List Value).map fun v => v.category).sum ≤ 8, 0 ≤ 0, 0 ≤ 0]) (k := 233) (args := [.ref (jr S this 0), .long 0]) (r := []) (a := 0) (b := 0) rfl ⟨Nat.le_of_ble_eq_true rfl, Nat.le_of_ble_eq_true rfl, Nat.zero_le _, Nat.zero_le _⟩ (vJ7_fill_d0a16 d (by omega) h) ?_
  rintro v S3 ⟨rfl, h⟩
  show jLf (jCall jmt jbud d) jbud (fun j => (jmt j).rk) none mX6_lookBack (jqV Q) (4, [some (.ref this), some (.ref p1), some (.int p2), some (.int p3), none, none, none, none], [], S3, 0, 0)
  refine jLf.bk hc 2 [] [some (.ref this), some (.ref p1), some (.int p2), some (.int p3), some (.int 0), none, none, none] [] S3 rfl rfl rfl trivial ?_
  exact tX6_lookBack_6 d hd  h
def bX6_rockOfWay_19   (X19 : Nat → Nat → Int32 → Int32 → Int32 → Int32 → Int32 → Int32 → JS → Prop) (l0 : Nat) (l1 : Nat) (l3 : Int32) (l4 : Int32) (l6 : Int32) (l7 : Int32) (l8 : Int32) (l9 : Int32) (S : JS) (Q : Int32 → JS → Prop) : Prop :=
  ((l3 + l6) ≤ l9 → Q l7 S) ∧ (¬ ((l3 + l6) ≤ l9) → (l4 ≤ l9 → Q l7 S) ∧ (¬ (l4 ≤ l9) → jA S l1 1 ∧ (wX1_steps l1 l7 l9 S (fun r9 S8 => jA S8 l0 6 ∧ (wX6_firstStep l0 r9 l9 l8 l7 S8 (fun r12 S11 => jA S11 l0 6 ∧ (∀ x15 : Int32, x15 = (l8 ||| ((jI S11 l0 1) &&& ((1 : Int32) <<< (r12 &&& 31)))) → (∀ x16 : Int32, x16 = (l9 + 1) → (X19 l0 l1 l3 l4 l6 r12 x15 x16 S11)))))))))
set_option maxRecDepth 20000 in
theorem uX6_rockOfWay_19 {Q : Int32 → JS → Prop}  (d : Nat) (hd : 3 ≤ d) {X19 : Nat → Nat → Int32 → Int32 → Int32 → Int32 → Int32 → Int32 → JS → Prop} (hX19 : ∀ l0 l1 l3 l4 l6 l7 l8 l9 S, X19 l0 l1 l3 l4 l6 l7 l8 l9 S → jLf (jCall jmt jbud d) jbud (fun j => (jmt j).rk) none mX6_rockOfWay (jqI Q) (19, [some (.ref l0), some (.ref l1), none, some (.int l3), some (.int l4), none, some (.int l6), some (.int l7), some (.int l8), some (.int l9)], [], S, 0, 0)) {l0 : Nat} {l1 : Nat} {l3 : Int32} {l4 : Int32} {l6 : Int32} {l7 : Int32} {l8 : Int32} {l9 : Int32} {S : JS} (h : bX6_rockOfWay_19 X19 l0 l1 l3 l4 l6 l7 l8 l9 S Q) : jLf (jCall jmt jbud d) jbud (fun j => (jmt j).rk) none mX6_rockOfWay (jqI Q) (19, [some (.ref l0), some (.ref l1), none, some (.int l3), some (.int l4), none, some (.int l6), some (.int l7), some (.int l8), some (.int l9)], [], S, 0, 0) := by
  have hc := jCall_mono jmt jbud d
  unfold bX6_rockOfWay_19 at h
  refine jLf.bk hc 4 [] [some (.ref l0), some (.ref l1), none, some (.int l3), some (.int l4), none, some (.int l6), some (.int l7), some (.int l8), some (.int l9)] [.int (l3 + l6), .int l9] S rfl rfl rfl trivial ?_
  refine jLf.two hc _ rfl (gs := []) (p1 := (l3 + l6) ≤ l9) (p2 := ¬ ((l3 + l6) ≤ l9)) (c1 := (48, [some (.ref l0), some (.ref l1), none, some (.int l3), some (.int l4), none, some (.int l6), some (.int l7), some (.int l8), some (.int l9)], [], S, 0, 0)) (c2 := (24, [some (.ref l0), some (.ref l1), none, some (.int l3), some (.int l4), none, some (.int l6), some (.int l7), some (.int l8), some (.int l9)], [], S, 0, 0)) rfl trivial (fun hz => ?_) (fun hz => ?_)
  · have h := h.1 hz
    refine jLf.bk hc 1 [] [some (.ref l0), some (.ref l1), none, some (.int l3), some (.int l4), none, some (.int l6), some (.int l7), some (.int l8), some (.int l9)] [.int l7] S rfl rfl rfl trivial ?_
    exact jLf.ret hc _ rfl (gs := [True]) (v := some (.int l7)) rfl trivial ⟨l7, rfl, h⟩
  · have h := h.2 hz
    refine jLf.bk hc 2 [] [some (.ref l0), some (.ref l1), none, some (.int l3), some (.int l4), none, some (.int l6), some (.int l7), some (.int l8), some (.int l9)] [.int l4, .int l9] S rfl rfl rfl trivial ?_
    refine jLf.two hc _ rfl (gs := []) (p1 := l4 ≤ l9) (p2 := ¬ (l4 ≤ l9)) (c1 := (48, [some (.ref l0), some (.ref l1), none, some (.int l3), some (.int l4), none, some (.int l6), some (.int l7), some (.int l8), some (.int l9)], [], S, 0, 0)) (c2 := (27, [some (.ref l0), some (.ref l1), none, some (.int l3), some (.int l4), none, some (.int l6), some (.int l7), some (.int l8), some (.int l9)], [], S, 0, 0)) rfl trivial (fun hz => ?_) (fun hz => ?_)
    · have h := h.1 hz
      refine jLf.bk hc 1 [] [some (.ref l0), some (.ref l1), none, some (.int l3), some (.int l4), none, some (.int l6), some (.int l7), some (.int l8), some (.int l9)] [.int l7] S rfl rfl rfl trivial ?_
      exact jLf.ret hc _ rfl (gs := [True]) (v := some (.int l7)) rfl trivial ⟨l7, rfl, h⟩
    · have h := h.2 hz
      refine jLf.bk hc 4 [] [some (.ref l0), some (.ref l1), none, some (.int l3), some (.int l4), none, some (.int l6), some (.int l7), some (.int l8), some (.int l9)] [.int l9, .int l7, .ref l1, .ref l0] S rfl rfl rfl trivial ?_
      obtain ⟨g10, h⟩ := h
      refine jLf.inv hc _ rfl (gs := [jA S l1 1, (([.ref l0] : List Value).map fun v => v.category).sum ≤ 8, 0 ≤ 0, 0 ≤ 0]) (k := 15) (args := [.ref l1, .int l7, .int l9]) (r := [.ref l0]) (a := 0) (b := 0) rfl ⟨g10, Nat.le_of_ble_eq_true rfl, Nat.zero_le _, Nat.zero_le _⟩ (vX1_steps d (by omega) h) ?_
      rintro v S8 ⟨r9, rfl, h⟩
      show jLf (jCall jmt jbud d) jbud (fun j => (jmt j).rk) none mX6_rockOfWay (jqI Q) (32, [some (.ref l0), some (.ref l1), none, some (.int l3), some (.int l4), none, some (.int l6), some (.int l7), some (.int l8), some (.int l9)], [.int r9, .ref l0], S8, 0, 0)
      refine jLf.bk hc 3 [] [some (.ref l0), some (.ref l1), none, some (.int l3), some (.int l4), none, some (.int l6), some (.int l7), some (.int l8), some (.int l9)] [.int l7, .int l8, .int l9, .int r9, .ref l0] S8 rfl rfl rfl trivial ?_
      obtain ⟨g13, h⟩ := h
      refine jLf.inv hc _ rfl (gs := [jA S8 l0 6, (([] : List Value).map fun v => v.category).sum ≤ 8, 0 ≤ 0, 0 ≤ 0]) (k := 64) (args := [.ref l0, .int r9, .int l9, .int l8, .int l7]) (r := []) (a := 0) (b := 0) rfl ⟨g13, Nat.le_of_ble_eq_true rfl, Nat.zero_le _, Nat.zero_le _⟩ (vX6_firstStep d (by omega) h) ?_
      rintro v S11 ⟨r12, rfl, h⟩
      show jLf (jCall jmt jbud d) jbud (fun j => (jmt j).rk) none mX6_rockOfWay (jqI Q) (36, [some (.ref l0), some (.ref l1), none, some (.int l3), some (.int l4), none, some (.int l6), some (.int l7), some (.int l8), some (.int l9)], [.int r12], S11, 0, 0)
      obtain ⟨g14, h⟩ := h
      refine jLf.bk hc 10 [jA S11 l0 6] [some (.ref l0), some (.ref l1), none, some (.int l3), some (.int l4), none, some (.int l6), some (.int r12), some (.int (l8 ||| ((jI S11 l0 1) &&& ((1 : Int32) <<< (r12 &&& 31))))), some (.int l9)] [] S11 rfl rfl rfl g14 ?_
      generalize ex15 : (l8 ||| ((jI S11 l0 1) &&& ((1 : Int32) <<< (r12 &&& 31))) : Int32) = x15
      have h := h x15 ex15.symm
      refine jLf.bk hc 1 [] [some (.ref l0), some (.ref l1), none, some (.int l3), some (.int l4), none, some (.int l6), some (.int r12), some (.int x15), some (.int (l9 + 1))] [] S11 rfl rfl rfl trivial ?_
      generalize ex16 : (l9 + 1 : Int32) = x16
      have h := h x16 ex16.symm
      refine jLf.one hc _ rfl (gs := []) (c := (19, [some (.ref l0), some (.ref l1), none, some (.int l3), some (.int l4), none, some (.int l6), some (.int r12), some (.int x15), some (.int x16)], [], S11, 0, 0)) rfl trivial ?_
      exact hX19 _ _ _ _ _ _ _ _ _ h
def wX6_rockOfWay_19   (l0 : Nat) (l1 : Nat) (l3 : Int32) (l4 : Int32) (l6 : Int32) (l7 : Int32) (l8 : Int32) (l9 : Int32) (S : JS) (Q : Int32 → JS → Prop) : Prop :=
  jLoop (fun (X19 : Nat × Nat × Int32 × Int32 × Int32 × Int32 × Int32 × Int32 × JS → Prop) q => bX6_rockOfWay_19 (fun l0 l1 l3 l4 l6 l7 l8 l9 S => X19 (l0, l1, l3, l4, l6, l7, l8, l9, S)) q.1 q.2.1 q.2.2.1 q.2.2.2.1 q.2.2.2.2.1 q.2.2.2.2.2.1 q.2.2.2.2.2.2.1 q.2.2.2.2.2.2.2.1 q.2.2.2.2.2.2.2.2 Q) (l0, l1, l3, l4, l6, l7, l8, l9, S)
set_option maxRecDepth 20000 in
theorem tX6_rockOfWay_19 {Q : Int32 → JS → Prop}  (d : Nat) (hd : 3 ≤ d) {l0 : Nat} {l1 : Nat} {l3 : Int32} {l4 : Int32} {l6 : Int32} {l7 : Int32} {l8 : Int32} {l9 : Int32} {S : JS} (h : wX6_rockOfWay_19 l0 l1 l3 l4 l6 l7 l8 l9 S Q) : jLf (jCall jmt jbud d) jbud (fun j => (jmt j).rk) none mX6_rockOfWay (jqI Q) (19, [some (.ref l0), some (.ref l1), none, some (.int l3), some (.int l4), none, some (.int l6), some (.int l7), some (.int l8), some (.int l9)], [], S, 0, 0) := by
  have := h (fun q : Nat × Nat × Int32 × Int32 × Int32 × Int32 × Int32 × Int32 × JS => jLf (jCall jmt jbud d) jbud (fun j => (jmt j).rk) none mX6_rockOfWay (jqI Q) (19, [some (.ref (q.1)), some (.ref (q.2.1)), none, some (.int (q.2.2.1)), some (.int (q.2.2.2.1)), none, some (.int (q.2.2.2.2.1)), some (.int (q.2.2.2.2.2.1)), some (.int (q.2.2.2.2.2.2.1)), some (.int (q.2.2.2.2.2.2.2.1))], [], q.2.2.2.2.2.2.2.2, 0, 0)) (fun q R hb hR => uX6_rockOfWay_19 d hd  (fun _ _ _ _ _ _ _ _ _ => hR _) hb)
  exact this
def wX6_rockOfWay  (this : Nat) (p1 : Nat) (p2 : Int32) (p3 : Int32) (p4 : Int32) (p5 : Int32) (p6 : Int32) (S : JS) (Q : Int32 → JS → Prop) : Prop :=
  jA S this 6 ∧ (∀ S2 : JS, S2 = uI S this 1 p5 → (jA S2 this 6 ∧ (wX6_lookBack this p1 p3 p4 S2 (fun S3 => jA S3 this 6 ∧ (∀ x7 : Int32, x7 = ((jI S3 this 1) &&& ((1 : Int32) <<< (p2 &&& 31))) → (wX6_rockOfWay_19 this p1 p3 p4 p6 p2 x7 p3 S3 Q))))))
set_option maxRecDepth 20000 in
theorem vX6_rockOfWay {Q : Int32 → JS → Prop} (d : Nat) (hd : 4 ≤ d) {this : Nat} {p1 : Nat} {p2 : Int32} {p3 : Int32} {p4 : Int32} {p5 : Int32} {p6 : Int32} {S : JS} (h : wX6_rockOfWay this p1 p2 p3 p4 p5 p6 S Q) : jCall jmt jbud d 63 [.ref this, .ref p1, .int p2, .int p3, .int p4, .int p5, .int p6] S (jqI Q) := by
  obtain ⟨d, rfl⟩ : ∃ d2, d = d2 + 1 := ⟨d - 1, by omega⟩
  have hd : 3 ≤ d := by omega
  have hc := jCall_mono jmt jbud d
  unfold wX6_rockOfWay at h
  refine ⟨Nat.le_of_ble_eq_true rfl, ?_⟩
  show jLf (jCall jmt jbud d) jbud (fun j => (jmt j).rk) none mX6_rockOfWay (jqI Q) (0, [some (.ref this), some (.ref p1), some (.int p2), some (.int p3), some (.int p4), some (.int p5), some (.int p6), none, none, none], [], S, 0, 0)
  obtain ⟨g1, h⟩ := h
  refine jLf.bk hc 3 [jA S this 6] [some (.ref this), some (.ref p1), some (.int p2), some (.int p3), some (.int p4), some (.int p5), some (.int p6), none, none, none] [] (uI S this 1 p5) rfl rfl rfl g1 ?_
  generalize eS2 : uI S this 1 p5 = S2
  have h := h S2 eS2.symm
  refine jLf.bk hc 4 [] [some (.ref this), some (.ref p1), some (.int p2), some (.int p3), some (.int p4), some (.int p5), some (.int p6), none, none, none] [.int p4, .int p3, .ref p1, .ref this] S2 rfl rfl rfl trivial ?_
  obtain ⟨g5, h⟩ := h
  refine jLf.inv hc _ rfl (gs := [jA S2 this 6, (([] : List Value).map fun v => v.category).sum ≤ 8, 0 ≤ 0, 0 ≤ 0]) (k := 65) (args := [.ref this, .ref p1, .int p3, .int p4]) (r := []) (a := 0) (b := 0) rfl ⟨g5, Nat.le_of_ble_eq_true rfl, Nat.zero_le _, Nat.zero_le _⟩ (vX6_lookBack d (by omega) h) ?_
  rintro v S3 ⟨rfl, h⟩
  show jLf (jCall jmt jbud d) jbud (fun j => (jmt j).rk) none mX6_rockOfWay (jqI Q) (8, [some (.ref this), some (.ref p1), some (.int p2), some (.int p3), some (.int p4), some (.int p5), some (.int p6), none, none, none], [], S3, 0, 0)
  obtain ⟨g6, h⟩ := h
  refine jLf.bk hc 9 [jA S3 this 6] [some (.ref this), some (.ref p1), some (.int p2), some (.int p3), some (.int p4), some (.int p5), some (.int p6), some (.int p2), some (.int ((jI S3 this 1) &&& ((1 : Int32) <<< (p2 &&& 31)))), none] [] S3 rfl rfl rfl g6 ?_
  generalize ex7 : ((jI S3 this 1) &&& ((1 : Int32) <<< (p2 &&& 31)) : Int32) = x7
  have h := h x7 ex7.symm
  refine jLf.bk hc 2 [] [some (.ref this), some (.ref p1), some (.int p2), some (.int p3), some (.int p4), some (.int p5), some (.int p6), some (.int p2), some (.int x7), some (.int p3)] [] S3 rfl rfl rfl trivial ?_
  refine jLf.sub [some (.ref this), some (.ref p1), none, some (.int p3), some (.int p4), none, some (.int p6), some (.int p2), some (.int x7), some (.int p3)] (jle_same (jle_same (jle_none (jle_same (jle_same (jle_none (jle_same (jle_same (jle_same (jle_same (jle_nil _))))))))))) ?_
  exact tX6_rockOfWay_19 d hd  h
def wX7_init  (this : Nat) (S : JS) (Q : JS → Prop) : Prop :=
  jN S < 1000000 ∧ (∀ h3 : Nat, h3 = jN S → (∀ S1 : JS, S1 = uNew S 13 540 → (jA S1 this 7 ∧ (∀ S5 : JS, S5 = uR S1 this 0 (some h3) → (jN S5 < 1000000 ∧ (∀ h8 : Nat, h8 = jN S5 → (∀ S6 : JS, S6 = uNew S5 13 540 → (jA S6 this 7 ∧ (∀ S10 : JS, S10 = uR S6 this 1 (some h8) → (jN S10 < 1000000 ∧ (∀ h13 : Nat, h13 = jN S10 → (∀ S11 : JS, S11 = uNew S10 14 540 → (jA S11 this 7 ∧ (∀ S15 : JS, S15 = uR S11 this 2 (some h13) → (jN S15 < 1000000 ∧ (∀ h18 : Nat, h18 = jN S15 → (∀ S16 : JS, S16 = uNew S15 13 60 → (jA S16 this 7 ∧ (∀ S20 : JS, S20 = uR S16 this 3 (some h18) → (jN S20 < 1000000 ∧ (∀ h23 : Nat, h23 = jN S20 → (∀ S21 : JS, S21 = uNew S20 13 60 → (jA S21 this 7 ∧ (∀ S25 : JS, S25 = uR S21 this 4 (some h23) → (Q S25)))))))))))))))))))))))))
set_option maxRecDepth 20000 in
theorem vX7_init {Q : JS → Prop} (d : Nat) (hd : 1 ≤ d) {this : Nat} {S : JS} (h : wX7_init this S Q) : jCall jmt jbud d 70 [.ref this] S (jqV Q) := by
  obtain ⟨d, rfl⟩ : ∃ d2, d = d2 + 1 := ⟨d - 1, by omega⟩
  have hd : 0 ≤ d := by omega
  have hc := jCall_mono jmt jbud d
  unfold wX7_init at h
  refine ⟨Nat.le_of_ble_eq_true rfl, ?_⟩
  show jLf (jCall jmt jbud d) jbud (fun j => (jmt j).rk) none mX7_init (jqV Q) (0, [some (.ref this)], [], S, 5, 1740)
  refine jLf.bk hc 4 [(([] : List Value).map fun v => v.category).sum ≤ 8] [some (.ref this)] [.int 540, .ref this] S rfl rfl rfl (Nat.le_of_ble_eq_true rfl) ?_
  obtain ⟨g2, h⟩ := h
  refine jLf.one hc _ rfl (gs := [¬ (540 : Int32) < 0, 540 ≤ 1000000, 1 ≤ 5, 540 ≤ 1740, jN S < 1000000]) (c := (5, [some (.ref this)], [.ref (jN S), .ref this], (uNew S 13 540), 4, 1200)) rfl ⟨(by decide), Nat.le_of_ble_eq_true rfl, Nat.le_of_ble_eq_true rfl, Nat.le_of_ble_eq_true rfl, g2⟩ ?_
  generalize eS1 : uNew S 13 540 = S1
  generalize eh3 : jN S = h3
  have h := h h3 eh3.symm S1 eS1.symm
  obtain ⟨g4, h⟩ := h
  refine jLf.bk hc 1 [jA S1 this 7] [some (.ref this)] [] (uR S1 this 0 (some h3)) rfl rfl rfl g4 ?_
  generalize eS5 : uR S1 this 0 (some h3) = S5
  have h := h S5 eS5.symm
  refine jLf.bk hc 2 [] [some (.ref this)] [.int 540, .ref this] S5 rfl rfl rfl trivial ?_
  obtain ⟨g7, h⟩ := h
  refine jLf.one hc _ rfl (gs := [¬ (540 : Int32) < 0, 540 ≤ 1000000, 1 ≤ 4, 540 ≤ 1200, jN S5 < 1000000]) (c := (9, [some (.ref this)], [.ref (jN S5), .ref this], (uNew S5 13 540), 3, 660)) rfl ⟨(by decide), Nat.le_of_ble_eq_true rfl, Nat.le_of_ble_eq_true rfl, Nat.le_of_ble_eq_true rfl, g7⟩ ?_
  generalize eS6 : uNew S5 13 540 = S6
  generalize eh8 : jN S5 = h8
  have h := h h8 eh8.symm S6 eS6.symm
  obtain ⟨g9, h⟩ := h
  refine jLf.bk hc 1 [jA S6 this 7] [some (.ref this)] [] (uR S6 this 1 (some h8)) rfl rfl rfl g9 ?_
  generalize eS10 : uR S6 this 1 (some h8) = S10
  have h := h S10 eS10.symm
  refine jLf.bk hc 2 [] [some (.ref this)] [.int 540, .ref this] S10 rfl rfl rfl trivial ?_
  obtain ⟨g12, h⟩ := h
  refine jLf.one hc _ rfl (gs := [¬ (540 : Int32) < 0, 540 ≤ 1000000, 1 ≤ 3, 540 ≤ 660, jN S10 < 1000000]) (c := (13, [some (.ref this)], [.ref (jN S10), .ref this], (uNew S10 14 540), 2, 120)) rfl ⟨(by decide), Nat.le_of_ble_eq_true rfl, Nat.le_of_ble_eq_true rfl, Nat.le_of_ble_eq_true rfl, g12⟩ ?_
  generalize eS11 : uNew S10 14 540 = S11
  generalize eh13 : jN S10 = h13
  have h := h h13 eh13.symm S11 eS11.symm
  obtain ⟨g14, h⟩ := h
  refine jLf.bk hc 1 [jA S11 this 7] [some (.ref this)] [] (uR S11 this 2 (some h13)) rfl rfl rfl g14 ?_
  generalize eS15 : uR S11 this 2 (some h13) = S15
  have h := h S15 eS15.symm
  refine jLf.bk hc 2 [] [some (.ref this)] [.int 60, .ref this] S15 rfl rfl rfl trivial ?_
  obtain ⟨g17, h⟩ := h
  refine jLf.one hc _ rfl (gs := [¬ (60 : Int32) < 0, 60 ≤ 1000000, 1 ≤ 2, 60 ≤ 120, jN S15 < 1000000]) (c := (17, [some (.ref this)], [.ref (jN S15), .ref this], (uNew S15 13 60), 1, 60)) rfl ⟨(by decide), Nat.le_of_ble_eq_true rfl, Nat.le_of_ble_eq_true rfl, Nat.le_of_ble_eq_true rfl, g17⟩ ?_
  generalize eS16 : uNew S15 13 60 = S16
  generalize eh18 : jN S15 = h18
  have h := h h18 eh18.symm S16 eS16.symm
  obtain ⟨g19, h⟩ := h
  refine jLf.bk hc 1 [jA S16 this 7] [some (.ref this)] [] (uR S16 this 3 (some h18)) rfl rfl rfl g19 ?_
  generalize eS20 : uR S16 this 3 (some h18) = S20
  have h := h S20 eS20.symm
  refine jLf.bk hc 2 [] [some (.ref this)] [.int 60, .ref this] S20 rfl rfl rfl trivial ?_
  obtain ⟨g22, h⟩ := h
  refine jLf.one hc _ rfl (gs := [¬ (60 : Int32) < 0, 60 ≤ 1000000, 1 ≤ 1, 60 ≤ 60, jN S20 < 1000000]) (c := (21, [some (.ref this)], [.ref (jN S20), .ref this], (uNew S20 13 60), 0, 0)) rfl ⟨(by decide), Nat.le_of_ble_eq_true rfl, Nat.le_of_ble_eq_true rfl, Nat.le_of_ble_eq_true rfl, g22⟩ ?_
  generalize eS21 : uNew S20 13 60 = S21
  generalize eh23 : jN S20 = h23
  have h := h h23 eh23.symm S21 eS21.symm
  obtain ⟨g24, h⟩ := h
  refine jLf.bk hc 1 [jA S21 this 7] [some (.ref this)] [] (uR S21 this 4 (some h23)) rfl rfl rfl g24 ?_
  generalize eS25 : uR S21 this 4 (some h23) = S25
  have h := h S25 eS25.symm
  exact jLf.ret hc _ rfl (gs := [jrt none none]) (v := none) rfl trivial ⟨rfl, h⟩
def wX7_countLying_54  (X6 : Nat → Nat → Int32 → JS → Prop) (X13 : Nat → Nat → Int32 → Int32 → JS → Prop) (l0 : Nat) (l1 : Nat) (l2 : Int32) (l3 : Int32) (S : JS) (Q : JS → Prop) : Prop :=
  ∀ x21 : Int32, x21 = (l3 + 1) → (X13 l0 l1 l2 x21 S)
set_option maxRecDepth 20000 in
theorem tX7_countLying_54 {Q : JS → Prop} {X6 : Nat → Nat → Int32 → JS → Prop} {X13 : Nat → Nat → Int32 → Int32 → JS → Prop} (d : Nat) (hd : 1 ≤ d) (hX6 : ∀ l0 l1 l2 S, X6 l0 l1 l2 S → jLf (jCall jmt jbud d) jbud (fun j => (jmt j).rk) none mX7_countLying (jqV Q) (6, [some (.ref l0), some (.ref l1), some (.int l2), none, none], [], S, 0, 0)) (hX13 : ∀ l0 l1 l2 l3 S, X13 l0 l1 l2 l3 S → jLf (jCall jmt jbud d) jbud (fun j => (jmt j).rk) none mX7_countLying (jqV Q) (13, [some (.ref l0), some (.ref l1), some (.int l2), some (.int l3), none], [], S, 0, 0)) {l0 : Nat} {l1 : Nat} {l2 : Int32} {l3 : Int32} {S : JS} (h : wX7_countLying_54 X6 X13 l0 l1 l2 l3 S Q) : jLf (jCall jmt jbud d) jbud (fun j => (jmt j).rk) none mX7_countLying (jqV Q) (54, [some (.ref l0), some (.ref l1), some (.int l2), some (.int l3), none], [], S, 0, 0) := by
  have hc := jCall_mono jmt jbud d
  unfold wX7_countLying_54 at h
  refine jLf.bk hc 1 [] [some (.ref l0), some (.ref l1), some (.int l2), some (.int (l3 + 1)), none] [] S rfl rfl rfl trivial ?_
  generalize ex21 : (l3 + 1 : Int32) = x21
  have h := h x21 ex21.symm
  refine jLf.one hc _ rfl (gs := []) (c := (13, [some (.ref l0), some (.ref l1), some (.int l2), some (.int x21), none], [], S, 0, 0)) rfl trivial ?_
  exact hX13 _ _ _ _ _ h
def wX7_countLying_39  (X6 : Nat → Nat → Int32 → JS → Prop) (X13 : Nat → Nat → Int32 → Int32 → JS → Prop) (l0 : Nat) (l1 : Nat) (l2 : Int32) (l3 : Int32) (s0 : Int32) (s1 : Int32) (S : JS) (Q : JS → Prop) : Prop :=
  (s1 = s0 → wX7_countLying_54 X6 X13 l0 l1 l2 l3 S Q) ∧ (¬ s1 = s0 → jA S l0 7 ∧ (¬ jR S l0 0 = none ∧ (jA S l1 9 ∧ (¬ jR S l1 5 = none ∧ (jA S (jr S l1 5) 8 ∧ (¬ jR S (jr S l1 5) 1 = none ∧ (jA S (jr S (jr S l1 5) 1) 13 ∧ (vp_in l2 (jZ S (jr S (jr S l1 5) 1)) ∧ (wX11_placeOf l3 (jI S (jr S (jr S l1 5) 1) l2.toNatClampNeg) S (fun r31 S30 => jA S30 (jr S l0 0) 13 ∧ (vp_in r31 (jZ S30 (jr S l0 0)) ∧ (∀ S34 : JS, S34 = uI S30 (jr S l0 0) r31.toNatClampNeg ((jI S30 (jr S l0 0) r31.toNatClampNeg) + (1 : Int32)) → (wX7_countLying_54 X6 X13 l0 l1 l2 l3 S34 Q)))))))))))))
set_option maxRecDepth 20000 in
theorem tX7_countLying_39 {Q : JS → Prop} {X6 : Nat → Nat → Int32 → JS → Prop} {X13 : Nat → Nat → Int32 → Int32 → JS → Prop} (d : Nat) (hd : 1 ≤ d) (hX6 : ∀ l0 l1 l2 S, X6 l0 l1 l2 S → jLf (jCall jmt jbud d) jbud (fun j => (jmt j).rk) none mX7_countLying (jqV Q) (6, [some (.ref l0), some (.ref l1), some (.int l2), none, none], [], S, 0, 0)) (hX13 : ∀ l0 l1 l2 l3 S, X13 l0 l1 l2 l3 S → jLf (jCall jmt jbud d) jbud (fun j => (jmt j).rk) none mX7_countLying (jqV Q) (13, [some (.ref l0), some (.ref l1), some (.int l2), some (.int l3), none], [], S, 0, 0)) {l0 : Nat} {l1 : Nat} {l2 : Int32} {l3 : Int32} {s0 : Int32} {s1 : Int32} {S : JS} (h : wX7_countLying_39 X6 X13 l0 l1 l2 l3 s0 s1 S Q) : jLf (jCall jmt jbud d) jbud (fun j => (jmt j).rk) none mX7_countLying (jqV Q) (39, [some (.ref l0), some (.ref l1), some (.int l2), some (.int l3), none], [.int s0, .int s1], S, 0, 0) := by
  have hc := jCall_mono jmt jbud d
  unfold wX7_countLying_39 at h
  refine jLf.two hc _ rfl (gs := []) (p1 := s1 = s0) (p2 := ¬ (s1 = s0)) (c1 := (54, [some (.ref l0), some (.ref l1), some (.int l2), some (.int l3), none], [], S, 0, 0)) (c2 := (40, [some (.ref l0), some (.ref l1), some (.int l2), some (.int l3), none], [], S, 0, 0)) rfl trivial (fun hz => ?_) (fun hz => ?_)
  · have h := h.1 hz
    exact tX7_countLying_54 d hd hX6 hX13 h
  · have h := h.2 hz
    obtain ⟨g22, g23, g24, g25, g26, g27, g28, g29, h⟩ := h
    refine jLf.bk hc 8 [jA S l0 7, ¬ jR S l0 0 = none, jA S l1 9, ¬ jR S l1 5 = none, jA S (jr S l1 5) 8, ¬ jR S (jr S l1 5) 1 = none, jA S (jr S (jr S l1 5) 1) 13, vp_in l2 (jZ S (jr S (jr S l1 5) 1))] [some (.ref l0), some (.ref l1), some (.int l2), some (.int l3), none] [.int (jI S (jr S (jr S l1 5) 1) l2.toNatClampNeg), .int l3, .ref (jr S l0 0)] S rfl rfl rfl ⟨g22, g23, g24, g25, g26, g27, g28, g29⟩ ?_
    refine jLf.inv hc _ rfl (gs := [2 ≤ ([.int (jI S (jr S (jr S l1 5) 1) l2.toNatClampNeg), .int l3, .ref (jr S l0 0)] : List Value).length, (([.ref (jr S l0 0)] : List Value).map fun v => v.category).sum ≤ 8, 0 ≤ 0, 0 ≤ 0]) (k := 146) (args := [.int l3, .int (jI S (jr S (jr S l1 5) 1) l2.toNatClampNeg)]) (r := [.ref (jr S l0 0)]) (a := 0) (b := 0) rfl ⟨Nat.le_of_ble_eq_true rfl, Nat.le_of_ble_eq_true rfl, Nat.zero_le _, Nat.zero_le _⟩ (vX11_placeOf d (by omega) h) ?_
    rintro v S30 ⟨r31, rfl, h⟩
    show jLf (jCall jmt jbud d) jbud (fun j => (jmt j).rk) none mX7_countLying (jqV Q) (49, [some (.ref l0), some (.ref l1), some (.int l2), some (.int l3), none], [.int r31, .ref (jr S l0 0)], S30, 0, 0)
    obtain ⟨g32, g33, h⟩ := h
    refine jLf.bk hc 5 [jA S30 (jr S l0 0) 13, vp_in r31 (jZ S30 (jr S l0 0)), jA S30 (jr S l0 0) 13, vp_in r31 (jZ S30 (jr S l0 0))] [some (.ref l0), some (.ref l1), some (.int l2), some (.int l3), none] [] (uI S30 (jr S l0 0) r31.toNatClampNeg ((jI S30 (jr S l0 0) r31.toNatClampNeg) + (1 : Int32))) rfl rfl rfl ⟨g32, g33, g32, g33⟩ ?_
    generalize eS34 : uI S30 (jr S l0 0) r31.toNatClampNeg ((jI S30 (jr S l0 0) r31.toNatClampNeg) + (1 : Int32)) = S34
    have h := h S34 eS34.symm
    exact tX7_countLying_54 d hd hX6 hX13 h
def wX7_countLying_27  (X6 : Nat → Nat → Int32 → JS → Prop) (X13 : Nat → Nat → Int32 → Int32 → JS → Prop) (l0 : Nat) (l1 : Nat) (l2 : Int32) (l3 : Int32) (s0 : Int32) (S : JS) (Q : JS → Prop) : Prop :=
  jA S l1 9 ∧ (¬ jR S l1 5 = none ∧ (jA S (jr S l1 5) 8 ∧ (¬ jR S (jr S l1 5) 2 = none ∧ (jA S (jr S (jr S l1 5) 2) 13 ∧ (vp_in l2 (jZ S (jr S (jr S l1 5) 2)) ∧ ((¬ (jI S (jr S (jr S l1 5) 2) l2.toNatClampNeg) = 1 → wX7_countLying_39 X6 X13 l0 l1 l2 l3 0 s0 S Q) ∧ ((jI S (jr S (jr S l1 5) 2) l2.toNatClampNeg) = 1 → wX7_countLying_39 X6 X13 l0 l1 l2 l3 1 s0 S Q)))))))
set_option maxRecDepth 20000 in
theorem tX7_countLying_27 {Q : JS → Prop} {X6 : Nat → Nat → Int32 → JS → Prop} {X13 : Nat → Nat → Int32 → Int32 → JS → Prop} (d : Nat) (hd : 1 ≤ d) (hX6 : ∀ l0 l1 l2 S, X6 l0 l1 l2 S → jLf (jCall jmt jbud d) jbud (fun j => (jmt j).rk) none mX7_countLying (jqV Q) (6, [some (.ref l0), some (.ref l1), some (.int l2), none, none], [], S, 0, 0)) (hX13 : ∀ l0 l1 l2 l3 S, X13 l0 l1 l2 l3 S → jLf (jCall jmt jbud d) jbud (fun j => (jmt j).rk) none mX7_countLying (jqV Q) (13, [some (.ref l0), some (.ref l1), some (.int l2), some (.int l3), none], [], S, 0, 0)) {l0 : Nat} {l1 : Nat} {l2 : Int32} {l3 : Int32} {s0 : Int32} {S : JS} (h : wX7_countLying_27 X6 X13 l0 l1 l2 l3 s0 S Q) : jLf (jCall jmt jbud d) jbud (fun j => (jmt j).rk) none mX7_countLying (jqV Q) (27, [some (.ref l0), some (.ref l1), some (.int l2), some (.int l3), none], [.int s0], S, 0, 0) := by
  have hc := jCall_mono jmt jbud d
  unfold wX7_countLying_27 at h
  obtain ⟨g15, g16, g17, g18, g19, g20, h⟩ := h
  refine jLf.bk hc 8 [jA S l1 9, ¬ jR S l1 5 = none, jA S (jr S l1 5) 8, ¬ jR S (jr S l1 5) 2 = none, jA S (jr S (jr S l1 5) 2) 13, vp_in l2 (jZ S (jr S (jr S l1 5) 2))] [some (.ref l0), some (.ref l1), some (.int l2), some (.int l3), some (.int s0)] [.int 1, .int (jI S (jr S (jr S l1 5) 2) l2.toNatClampNeg), .int s0] S rfl rfl rfl ⟨g15, g16, g17, g18, g19, g20⟩ ?_
  refine jLf.two hc _ rfl (gs := []) (p1 := ¬ (jI S (jr S (jr S l1 5) 2) l2.toNatClampNeg) = 1) (p2 := ¬ (¬ (jI S (jr S (jr S l1 5) 2) l2.toNatClampNeg) = 1)) (c1 := (38, [some (.ref l0), some (.ref l1), some (.int l2), some (.int l3), some (.int s0)], [.int s0], S, 0, 0)) (c2 := (36, [some (.ref l0), some (.ref l1), some (.int l2), some (.int l3), some (.int s0)], [.int s0], S, 0, 0)) rfl trivial (fun hz => ?_) (fun hz => ?_)
  · have h := h.1 hz
    refine jLf.bk hc 1 [] [some (.ref l0), some (.ref l1), some (.int l2), some (.int l3), some (.int s0)] [.int 0, .int s0] S rfl rfl rfl trivial ?_
    refine jLf.sub [some (.ref l0), some (.ref l1), some (.int l2), some (.int l3), none] (jle_same (jle_same (jle_same (jle_same (jle_none (jle_nil _)))))) ?_
    exact tX7_countLying_39 d hd hX6 hX13 h
  · have h := h.2 (Classical.not_not.mp hz)
    refine jLf.bk hc 1 [] [some (.ref l0), some (.ref l1), some (.int l2), some (.int l3), some (.int s0)] [.int 1, .int s0] S rfl rfl rfl trivial ?_
    refine jLf.one hc _ rfl (gs := []) (c := (39, [some (.ref l0), some (.ref l1), some (.int l2), some (.int l3), some (.int s0)], [.int 1, .int s0], S, 0, 0)) rfl trivial ?_
    refine jLf.sub [some (.ref l0), some (.ref l1), some (.int l2), some (.int l3), none] (jle_same (jle_same (jle_same (jle_same (jle_none (jle_nil _)))))) ?_
    exact tX7_countLying_39 d hd hX6 hX13 h
def bX7_countLying_13  (X6 : Nat → Nat → Int32 → JS → Prop) (X13 : Nat → Nat → Int32 → Int32 → JS → Prop) (l0 : Nat) (l1 : Nat) (l2 : Int32) (l3 : Int32) (S : JS) (Q : JS → Prop) : Prop :=
  jA S l1 9 ∧ (((jI S l1 0) ≤ l3 → ∀ x9 : Int32, x9 = (l2 + 1) → (X6 l0 l1 x9 S)) ∧ (¬ ((jI S l1 0) ≤ l3) → ¬ jR S l1 5 = none ∧ (jA S (jr S l1 5) 8 ∧ (¬ jR S (jr S l1 5) 0 = none ∧ (jA S (jr S (jr S l1 5) 0) 13 ∧ (vp_in l2 (jZ S (jr S (jr S l1 5) 0)) ∧ ((¬ l3 = (jI S (jr S (jr S l1 5) 0) l2.toNatClampNeg) → wX7_countLying_27 X6 X13 l0 l1 l2 l3 0 S Q) ∧ (l3 = (jI S (jr S (jr S l1 5) 0) l2.toNatClampNeg) → wX7_countLying_27 X6 X13 l0 l1 l2 l3 1 S Q))))))))
set_option maxRecDepth 20000 in
theorem uX7_countLying_13 {Q : JS → Prop} {X6 : Nat → Nat → Int32 → JS → Prop} (d : Nat) (hd : 1 ≤ d) (hX6 : ∀ l0 l1 l2 S, X6 l0 l1 l2 S → jLf (jCall jmt jbud d) jbud (fun j => (jmt j).rk) none mX7_countLying (jqV Q) (6, [some (.ref l0), some (.ref l1), some (.int l2), none, none], [], S, 0, 0)) {X13 : Nat → Nat → Int32 → Int32 → JS → Prop} (hX13 : ∀ l0 l1 l2 l3 S, X13 l0 l1 l2 l3 S → jLf (jCall jmt jbud d) jbud (fun j => (jmt j).rk) none mX7_countLying (jqV Q) (13, [some (.ref l0), some (.ref l1), some (.int l2), some (.int l3), none], [], S, 0, 0)) {l0 : Nat} {l1 : Nat} {l2 : Int32} {l3 : Int32} {S : JS} (h : bX7_countLying_13 X6 X13 l0 l1 l2 l3 S Q) : jLf (jCall jmt jbud d) jbud (fun j => (jmt j).rk) none mX7_countLying (jqV Q) (13, [some (.ref l0), some (.ref l1), some (.int l2), some (.int l3), none], [], S, 0, 0) := by
  have hc := jCall_mono jmt jbud d
  unfold bX7_countLying_13 at h
  obtain ⟨g8, h⟩ := h
  refine jLf.bk hc 3 [jA S l1 9] [some (.ref l0), some (.ref l1), some (.int l2), some (.int l3), none] [.int (jI S l1 0), .int l3] S rfl rfl rfl g8 ?_
  refine jLf.two hc _ rfl (gs := []) (p1 := (jI S l1 0) ≤ l3) (p2 := ¬ ((jI S l1 0) ≤ l3)) (c1 := (56, [some (.ref l0), some (.ref l1), some (.int l2), some (.int l3), none], [], S, 0, 0)) (c2 := (17, [some (.ref l0), some (.ref l1), some (.int l2), some (.int l3), none], [], S, 0, 0)) rfl trivial (fun hz => ?_) (fun hz => ?_)
  · have h := h.1 hz
    refine jLf.bk hc 1 [] [some (.ref l0), some (.ref l1), some (.int (l2 + 1)), some (.int l3), none] [] S rfl rfl rfl trivial ?_
    generalize ex9 : (l2 + 1 : Int32) = x9
    have h := h x9 ex9.symm
    refine jLf.one hc _ rfl (gs := []) (c := (6, [some (.ref l0), some (.ref l1), some (.int x9), some (.int l3), none], [], S, 0, 0)) rfl trivial ?_
    refine jLf.sub [some (.ref l0), some (.ref l1), some (.int x9), none, none] (jle_same (jle_same (jle_same (jle_none (jle_same (jle_nil _)))))) ?_
    exact hX6 _ _ _ _ h
  · have h := h.2 hz
    obtain ⟨g10, g11, g12, g13, g14, h⟩ := h
    refine jLf.bk hc 6 [jA S l1 9, ¬ jR S l1 5 = none, jA S (jr S l1 5) 8, ¬ jR S (jr S l1 5) 0 = none, jA S (jr S (jr S l1 5) 0) 13, vp_in l2 (jZ S (jr S (jr S l1 5) 0))] [some (.ref l0), some (.ref l1), some (.int l2), some (.int l3), none] [.int (jI S (jr S (jr S l1 5) 0) l2.toNatClampNeg), .int l3] S rfl rfl rfl ⟨g8, g10, g11, g12, g13, g14⟩ ?_
    refine jLf.two hc _ rfl (gs := []) (p1 := ¬ l3 = (jI S (jr S (jr S l1 5) 0) l2.toNatClampNeg)) (p2 := ¬ (¬ l3 = (jI S (jr S (jr S l1 5) 0) l2.toNatClampNeg))) (c1 := (26, [some (.ref l0), some (.ref l1), some (.int l2), some (.int l3), none], [], S, 0, 0)) (c2 := (24, [some (.ref l0), some (.ref l1), some (.int l2), some (.int l3), none], [], S, 0, 0)) rfl trivial (fun hz => ?_) (fun hz => ?_)
    · have h := h.1 hz
      refine jLf.bk hc 1 [] [some (.ref l0), some (.ref l1), some (.int l2), some (.int l3), none] [.int 0] S rfl rfl rfl trivial ?_
      exact tX7_countLying_27 d hd hX6 hX13 h
    · have h := h.2 (Classical.not_not.mp hz)
      refine jLf.bk hc 1 [] [some (.ref l0), some (.ref l1), some (.int l2), some (.int l3), none] [.int 1] S rfl rfl rfl trivial ?_
      refine jLf.one hc _ rfl (gs := []) (c := (27, [some (.ref l0), some (.ref l1), some (.int l2), some (.int l3), none], [.int 1], S, 0, 0)) rfl trivial ?_
      exact tX7_countLying_27 d hd hX6 hX13 h
def wX7_countLying_13  (X6 : Nat → Nat → Int32 → JS → Prop) (l0 : Nat) (l1 : Nat) (l2 : Int32) (l3 : Int32) (S : JS) (Q : JS → Prop) : Prop :=
  jLoop (fun (X13 : Nat × Nat × Int32 × Int32 × JS → Prop) q => bX7_countLying_13 X6 (fun l0 l1 l2 l3 S => X13 (l0, l1, l2, l3, S)) q.1 q.2.1 q.2.2.1 q.2.2.2.1 q.2.2.2.2 Q) (l0, l1, l2, l3, S)
set_option maxRecDepth 20000 in
theorem tX7_countLying_13 {Q : JS → Prop} {X6 : Nat → Nat → Int32 → JS → Prop} (d : Nat) (hd : 1 ≤ d) (hX6 : ∀ l0 l1 l2 S, X6 l0 l1 l2 S → jLf (jCall jmt jbud d) jbud (fun j => (jmt j).rk) none mX7_countLying (jqV Q) (6, [some (.ref l0), some (.ref l1), some (.int l2), none, none], [], S, 0, 0)) {l0 : Nat} {l1 : Nat} {l2 : Int32} {l3 : Int32} {S : JS} (h : wX7_countLying_13 X6 l0 l1 l2 l3 S Q) : jLf (jCall jmt jbud d) jbud (fun j => (jmt j).rk) none mX7_countLying (jqV Q) (13, [some (.ref l0), some (.ref l1), some (.int l2), some (.int l3), none], [], S, 0, 0) := by
  have := h (fun q : Nat × Nat × Int32 × Int32 × JS => jLf (jCall jmt jbud d) jbud (fun j => (jmt j).rk) none mX7_countLying (jqV Q) (13, [some (.ref (q.1)), some (.ref (q.2.1)), some (.int (q.2.2.1)), some (.int (q.2.2.2.1)), none], [], q.2.2.2.2, 0, 0)) (fun q R hb hR => uX7_countLying_13 d hd hX6 (fun _ _ _ _ _ => hR _) hb)
  exact this
def bX7_countLying_6   (X6 : Nat → Nat → Int32 → JS → Prop) (l0 : Nat) (l1 : Nat) (l2 : Int32) (S : JS) (Q : JS → Prop) : Prop :=
  jA S l1 9 ∧ (¬ jR S l1 5 = none ∧ (jA S (jr S l1 5) 8 ∧ (((jI S (jr S l1 5) 3) ≤ l2 → Q S) ∧ (¬ ((jI S (jr S l1 5) 3) ≤ l2) → wX7_countLying_13 X6 l0 l1 l2 0 S Q))))
set_option maxRecDepth 20000 in
theorem uX7_countLying_6 {Q : JS → Prop}  (d : Nat) (hd : 1 ≤ d) {X6 : Nat → Nat → Int32 → JS → Prop} (hX6 : ∀ l0 l1 l2 S, X6 l0 l1 l2 S → jLf (jCall jmt jbud d) jbud (fun j => (jmt j).rk) none mX7_countLying (jqV Q) (6, [some (.ref l0), some (.ref l1), some (.int l2), none, none], [], S, 0, 0)) {l0 : Nat} {l1 : Nat} {l2 : Int32} {S : JS} (h : bX7_countLying_6 X6 l0 l1 l2 S Q) : jLf (jCall jmt jbud d) jbud (fun j => (jmt j).rk) none mX7_countLying (jqV Q) (6, [some (.ref l0), some (.ref l1), some (.int l2), none, none], [], S, 0, 0) := by
  have hc := jCall_mono jmt jbud d
  unfold bX7_countLying_6 at h
  obtain ⟨g5, g6, g7, h⟩ := h
  refine jLf.bk hc 4 [jA S l1 9, ¬ jR S l1 5 = none, jA S (jr S l1 5) 8] [some (.ref l0), some (.ref l1), some (.int l2), none, none] [.int (jI S (jr S l1 5) 3), .int l2] S rfl rfl rfl ⟨g5, g6, g7⟩ ?_
  refine jLf.two hc _ rfl (gs := []) (p1 := (jI S (jr S l1 5) 3) ≤ l2) (p2 := ¬ ((jI S (jr S l1 5) 3) ≤ l2)) (c1 := (58, [some (.ref l0), some (.ref l1), some (.int l2), none, none], [], S, 0, 0)) (c2 := (11, [some (.ref l0), some (.ref l1), some (.int l2), none, none], [], S, 0, 0)) rfl trivial (fun hz => ?_) (fun hz => ?_)
  · have h := h.1 hz
    exact jLf.ret hc _ rfl (gs := [jrt none none]) (v := none) rfl trivial ⟨rfl, h⟩
  · have h := h.2 hz
    refine jLf.bk hc 2 [] [some (.ref l0), some (.ref l1), some (.int l2), some (.int 0), none] [] S rfl rfl rfl trivial ?_
    exact tX7_countLying_13 d hd hX6 h
def wX7_countLying_6   (l0 : Nat) (l1 : Nat) (l2 : Int32) (S : JS) (Q : JS → Prop) : Prop :=
  jLoop (fun (X6 : Nat × Nat × Int32 × JS → Prop) q => bX7_countLying_6 (fun l0 l1 l2 S => X6 (l0, l1, l2, S)) q.1 q.2.1 q.2.2.1 q.2.2.2 Q) (l0, l1, l2, S)
set_option maxRecDepth 20000 in
theorem tX7_countLying_6 {Q : JS → Prop}  (d : Nat) (hd : 1 ≤ d) {l0 : Nat} {l1 : Nat} {l2 : Int32} {S : JS} (h : wX7_countLying_6 l0 l1 l2 S Q) : jLf (jCall jmt jbud d) jbud (fun j => (jmt j).rk) none mX7_countLying (jqV Q) (6, [some (.ref l0), some (.ref l1), some (.int l2), none, none], [], S, 0, 0) := by
  have := h (fun q : Nat × Nat × Int32 × JS => jLf (jCall jmt jbud d) jbud (fun j => (jmt j).rk) none mX7_countLying (jqV Q) (6, [some (.ref (q.1)), some (.ref (q.2.1)), some (.int (q.2.2.1)), none, none], [], q.2.2.2, 0, 0)) (fun q R hb hR => uX7_countLying_6 d hd  (fun _ _ _ _ => hR _) hb)
  exact this
def wX7_countLying  (this : Nat) (p1 : Nat) (S : JS) (Q : JS → Prop) : Prop :=
  jA S this 7 ∧ (¬ jR S this 0 = none ∧ (wJ7_fill_53178 (jr S this 0) 0 S (fun S3 => wX7_countLying_6 this p1 0 S3 Q)))
set_option maxRecDepth 20000 in
theorem vX7_countLying {Q : JS → Prop} (d : Nat) (hd : 2 ≤ d) {this : Nat} {p1 : Nat} {S : JS} (h : wX7_countLying this p1 S Q) : jCall jmt jbud d 72 [.ref this, .ref p1] S (jqV Q) := by
  obtain ⟨d, rfl⟩ : ∃ d2, d = d2 + 1 := ⟨d - 1, by omega⟩
  have hd : 1 ≤ d := by omega
  have hc := jCall_mono jmt jbud d
  unfold wX7_countLying at h
  refine ⟨Nat.le_of_ble_eq_true rfl, ?_⟩
  show jLf (jCall jmt jbud d) jbud (fun j => (jmt j).rk) none mX7_countLying (jqV Q) (0, [some (.ref this), some (.ref p1), none, none, none], [], S, 0, 0)
  obtain ⟨g1, g2, h⟩ := h
  refine jLf.bk hc 3 [jA S this 7, ¬ jR S this 0 = none] [some (.ref this), some (.ref p1), none, none, none] [.int 0, .ref (jr S this 0)] S rfl rfl rfl ⟨g1, g2⟩ ?_
  refine jLf.inv hc _ rfl (gs := [2 ≤ ([.int 0, .ref (jr S this 0)] : List Value).length, (([] : List Value).map fun v => v.category).sum ≤ 8, 0 ≤ 0, 0 ≤ 0]) (k := 234) (args := [.ref (jr S this 0), .int 0]) (r := []) (a := 0) (b := 0) rfl ⟨Nat.le_of_ble_eq_true rfl, Nat.le_of_ble_eq_true rfl, Nat.zero_le _, Nat.zero_le _⟩ (vJ7_fill_53178 d (by omega) h) ?_
  rintro v S3 ⟨rfl, h⟩
  show jLf (jCall jmt jbud d) jbud (fun j => (jmt j).rk) none mX7_countLying (jqV Q) (4, [some (.ref this), some (.ref p1), none, none, none], [], S3, 0, 0)
  refine jLf.bk hc 2 [] [some (.ref this), some (.ref p1), some (.int 0), none, none] [] S3 rfl rfl rfl trivial ?_
  exact tX7_countLying_6 d hd  h
def wX7_weigh_48  (X6 : Nat → Int32 → Int32 → Int32 → Int32 → Int64 → Int32 → JS → Prop) (l0 : Nat) (l1 : Int32) (l2 : Int32) (l3 : Int32) (l4 : Int32) (l5 : Int64) (l7 : Int32) (S : JS) (Q : JS → Prop) : Prop :=
  ∀ x25 : Int32, x25 = (l7 + 1) → (X6 l0 l1 l2 l3 l4 l5 x25 S)
set_option maxRecDepth 20000 in
theorem tX7_weigh_48 {Q : JS → Prop} {X6 : Nat → Int32 → Int32 → Int32 → Int32 → Int64 → Int32 → JS → Prop} (d : Nat) (hd : 1 ≤ d) (hX6 : ∀ l0 l1 l2 l3 l4 l5 l7 S, X6 l0 l1 l2 l3 l4 l5 l7 S → jLf (jCall jmt jbud d) jbud (fun j => (jmt j).rk) none mX7_weigh (jqV Q) (6, [some (.ref l0), some (.int l1), some (.int l2), some (.int l3), some (.int l4), some (.long l5), none, some (.int l7), none], [], S, 0, 0)) {l0 : Nat} {l1 : Int32} {l2 : Int32} {l3 : Int32} {l4 : Int32} {l5 : Int64} {l7 : Int32} {S : JS} (h : wX7_weigh_48 X6 l0 l1 l2 l3 l4 l5 l7 S Q) : jLf (jCall jmt jbud d) jbud (fun j => (jmt j).rk) none mX7_weigh (jqV Q) (48, [some (.ref l0), some (.int l1), some (.int l2), some (.int l3), some (.int l4), some (.long l5), none, some (.int l7), none], [], S, 0, 0) := by
  have hc := jCall_mono jmt jbud d
  unfold wX7_weigh_48 at h
  refine jLf.bk hc 1 [] [some (.ref l0), some (.int l1), some (.int l2), some (.int l3), some (.int l4), some (.long l5), none, some (.int (l7 + 1)), none] [] S rfl rfl rfl trivial ?_
  generalize ex25 : (l7 + 1 : Int32) = x25
  have h := h x25 ex25.symm
  refine jLf.one hc _ rfl (gs := []) (c := (6, [some (.ref l0), some (.int l1), some (.int l2), some (.int l3), some (.int l4), some (.long l5), none, some (.int x25), none], [], S, 0, 0)) rfl trivial ?_
  exact hX6 _ _ _ _ _ _ _ _ h
def wX7_weigh_42  (X6 : Nat → Int32 → Int32 → Int32 → Int32 → Int64 → Int32 → JS → Prop) (l0 : Nat) (l1 : Int32) (l2 : Int32) (l3 : Int32) (l7 : Int32) (l8 : Int32) (s0 : Int64) (S : JS) (Q : JS → Prop) : Prop :=
  jA S l0 7 ∧ (¬ jR S l0 1 = none ∧ (jA S (jr S l0 1) 13 ∧ (vp_in l8 (jZ S (jr S l0 1)) ∧ (∀ x37 : Int32, x37 = (jI S (jr S l0 1) l8.toNatClampNeg) → (wX7_weigh_48 X6 l0 l1 l2 l3 x37 s0 l7 S Q)))))
set_option maxRecDepth 20000 in
theorem tX7_weigh_42 {Q : JS → Prop} {X6 : Nat → Int32 → Int32 → Int32 → Int32 → Int64 → Int32 → JS → Prop} (d : Nat) (hd : 1 ≤ d) (hX6 : ∀ l0 l1 l2 l3 l4 l5 l7 S, X6 l0 l1 l2 l3 l4 l5 l7 S → jLf (jCall jmt jbud d) jbud (fun j => (jmt j).rk) none mX7_weigh (jqV Q) (6, [some (.ref l0), some (.int l1), some (.int l2), some (.int l3), some (.int l4), some (.long l5), none, some (.int l7), none], [], S, 0, 0)) {l0 : Nat} {l1 : Int32} {l2 : Int32} {l3 : Int32} {l7 : Int32} {l8 : Int32} {s0 : Int64} {S : JS} (h : wX7_weigh_42 X6 l0 l1 l2 l3 l7 l8 s0 S Q) : jLf (jCall jmt jbud d) jbud (fun j => (jmt j).rk) none mX7_weigh (jqV Q) (42, [some (.ref l0), some (.int l1), some (.int l2), some (.int l3), none, none, none, some (.int l7), some (.int l8)], [.long s0], S, 0, 0) := by
  have hc := jCall_mono jmt jbud d
  unfold wX7_weigh_42 at h
  obtain ⟨g33, g34, g35, g36, h⟩ := h
  refine jLf.bk hc 6 [jA S l0 7, ¬ jR S l0 1 = none, jA S (jr S l0 1) 13, vp_in l8 (jZ S (jr S l0 1))] [some (.ref l0), some (.int l1), some (.int l2), some (.int l3), some (.int (jI S (jr S l0 1) l8.toNatClampNeg)), some (.long s0), none, some (.int l7), some (.int l8)] [] S rfl rfl rfl ⟨g33, g34, g35, g36⟩ ?_
  generalize ex37 : (jI S (jr S l0 1) l8.toNatClampNeg : Int32) = x37
  have h := h x37 ex37.symm
  refine jLf.sub [some (.ref l0), some (.int l1), some (.int l2), some (.int l3), some (.int x37), some (.long s0), none, some (.int l7), none] (jle_same (jle_same (jle_same (jle_same (jle_same (jle_same (jle_same (jle_same (jle_none (jle_nil _)))))))))) ?_
  exact tX7_weigh_48 d hd hX6 h
def bX7_weigh_6   (X6 : Nat → Int32 → Int32 → Int32 → Int32 → Int64 → Int32 → JS → Prop) (l0 : Nat) (l1 : Int32) (l2 : Int32) (l3 : Int32) (l4 : Int32) (l5 : Int64) (l7 : Int32) (S : JS) (Q : JS → Prop) : Prop :=
  (9 ≤ l7 → jA S l0 7 ∧ (¬ jR S l0 1 = none ∧ (wX11_placeOf l1 l2 S (fun r4 S3 => jA S3 l0 7 ∧ (¬ jR S3 l0 0 = none ∧ (wX11_placeOf l1 l2 S3 (fun r8 S7 => jA S7 (jr S3 l0 0) 13 ∧ (vp_in r8 (jZ S7 (jr S3 l0 0)) ∧ (jA S7 (jr S l0 1) 13 ∧ (vp_in r4 (jZ S7 (jr S l0 1)) ∧ (∀ S13 : JS, S13 = uI S7 (jr S l0 1) r4.toNatClampNeg ((jI S7 (jr S3 l0 0) r8.toNatClampNeg) + l4) → (jA S13 l0 7 ∧ (¬ jR S13 l0 2 = none ∧ (wX11_placeOf l1 l2 S13 (fun r17 S16 => jA S16 (jr S13 l0 2) 14 ∧ (vp_in r17 (jZ S16 (jr S13 l0 2)) ∧ (∀ S20 : JS, S20 = uJ S16 (jr S13 l0 2) r17.toNatClampNeg (if l5 < (1000000000000 : Int64) then l5 else (1000000000000 : Int64)) → (Q S20)))))))))))))))))) ∧ (¬ (9 ≤ l7) → wX11_placeOf l7 (l2 + (1 : Int32)) S (fun r22 S21 => wX11_hasBit l3 l7 S21 (fun r24 S23 => (r24 = 0 → wX7_weigh_48 X6 l0 l1 l2 l3 l4 l5 l7 S23 Q) ∧ (¬ r24 = 0 → jA S23 l0 7 ∧ (¬ jR S23 l0 1 = none ∧ (jA S23 (jr S23 l0 1) 13 ∧ (vp_in r22 (jZ S23 (jr S23 l0 1)) ∧ ((l4 < (jI S23 (jr S23 l0 1) r22.toNatClampNeg) → wX7_weigh_48 X6 l0 l1 l2 l3 l4 l5 l7 S23 Q) ∧ (¬ (l4 < (jI S23 (jr S23 l0 1) r22.toNatClampNeg)) → (l4 ≤ (jI S23 (jr S23 l0 1) r22.toNatClampNeg) → ¬ jR S23 l0 2 = none ∧ (jA S23 (jr S23 l0 2) 14 ∧ (vp_in r22 (jZ S23 (jr S23 l0 2)) ∧ (wX7_weigh_42 X6 l0 l1 l2 l3 l7 r22 (l5 + (jJ S23 (jr S23 l0 2) r22.toNatClampNeg)) S23 Q)))) ∧ (¬ (l4 ≤ (jI S23 (jr S23 l0 1) r22.toNatClampNeg)) → ¬ jR S23 l0 2 = none ∧ (jA S23 (jr S23 l0 2) 14 ∧ (vp_in r22 (jZ S23 (jr S23 l0 2)) ∧ (wX7_weigh_42 X6 l0 l1 l2 l3 l7 r22 (jJ S23 (jr S23 l0 2) r22.toNatClampNeg) S23 Q)))))))))))))
set_option maxRecDepth 20000 in
theorem uX7_weigh_6 {Q : JS → Prop}  (d : Nat) (hd : 1 ≤ d) {X6 : Nat → Int32 → Int32 → Int32 → Int32 → Int64 → Int32 → JS → Prop} (hX6 : ∀ l0 l1 l2 l3 l4 l5 l7 S, X6 l0 l1 l2 l3 l4 l5 l7 S → jLf (jCall jmt jbud d) jbud (fun j => (jmt j).rk) none mX7_weigh (jqV Q) (6, [some (.ref l0), some (.int l1), some (.int l2), some (.int l3), some (.int l4), some (.long l5), none, some (.int l7), none], [], S, 0, 0)) {l0 : Nat} {l1 : Int32} {l2 : Int32} {l3 : Int32} {l4 : Int32} {l5 : Int64} {l7 : Int32} {S : JS} (h : bX7_weigh_6 X6 l0 l1 l2 l3 l4 l5 l7 S Q) : jLf (jCall jmt jbud d) jbud (fun j => (jmt j).rk) none mX7_weigh (jqV Q) (6, [some (.ref l0), some (.int l1), some (.int l2), some (.int l3), some (.int l4), some (.long l5), none, some (.int l7), none], [], S, 0, 0) := by
  have hc := jCall_mono jmt jbud d
  unfold bX7_weigh_6 at h
  refine jLf.bk hc 2 [] [some (.ref l0), some (.int l1), some (.int l2), some (.int l3), some (.int l4), some (.long l5), none, some (.int l7), none] [.int 9, .int l7] S rfl rfl rfl trivial ?_
  refine jLf.two hc _ rfl (gs := []) (p1 := 9 ≤ l7) (p2 := ¬ (9 ≤ l7)) (c1 := (50, [some (.ref l0), some (.int l1), some (.int l2), some (.int l3), some (.int l4), some (.long l5), none, some (.int l7), none], [], S, 0, 0)) (c2 := (9, [some (.ref l0), some (.int l1), some (.int l2), some (.int l3), some (.int l4), some (.long l5), none, some (.int l7), none], [], S, 0, 0)) rfl trivial (fun hz => ?_) (fun hz => ?_)
  · have h := h.1 hz
    obtain ⟨g1, g2, h⟩ := h
    refine jLf.bk hc 4 [jA S l0 7, ¬ jR S l0 1 = none] [some (.ref l0), some (.int l1), some (.int l2), some (.int l3), some (.int l4), some (.long l5), none, some (.int l7), none] [.int l2, .int l1, .ref (jr S l0 1)] S rfl rfl rfl ⟨g1, g2⟩ ?_
    refine jLf.inv hc _ rfl (gs := [2 ≤ ([.int l2, .int l1, .ref (jr S l0 1)] : List Value).length, (([.ref (jr S l0 1)] : List Value).map fun v => v.category).sum ≤ 8, 0 ≤ 0, 0 ≤ 0]) (k := 146) (args := [.int l1, .int l2]) (r := [.ref (jr S l0 1)]) (a := 0) (b := 0) rfl ⟨Nat.le_of_ble_eq_true rfl, Nat.le_of_ble_eq_true rfl, Nat.zero_le _, Nat.zero_le _⟩ (vX11_placeOf d (by omega) h) ?_
    rintro v S3 ⟨r4, rfl, h⟩
    show jLf (jCall jmt jbud d) jbud (fun j => (jmt j).rk) none mX7_weigh (jqV Q) (55, [some (.ref l0), some (.int l1), some (.int l2), some (.int l3), some (.int l4), some (.long l5), none, some (.int l7), none], [.int r4, .ref (jr S l0 1)], S3, 0, 0)
    obtain ⟨g5, g6, h⟩ := h
    refine jLf.bk hc 4 [jA S3 l0 7, ¬ jR S3 l0 0 = none] [some (.ref l0), some (.int l1), some (.int l2), some (.int l3), some (.int l4), some (.long l5), none, some (.int l7), none] [.int l2, .int l1, .ref (jr S3 l0 0), .int r4, .ref (jr S l0 1)] S3 rfl rfl rfl ⟨g5, g6⟩ ?_
    refine jLf.inv hc _ rfl (gs := [2 ≤ ([.int l2, .int l1, .ref (jr S3 l0 0), .int r4, .ref (jr S l0 1)] : List Value).length, (([.ref (jr S3 l0 0), .int r4, .ref (jr S l0 1)] : List Value).map fun v => v.category).sum ≤ 8, 0 ≤ 0, 0 ≤ 0]) (k := 146) (args := [.int l1, .int l2]) (r := [.ref (jr S3 l0 0), .int r4, .ref (jr S l0 1)]) (a := 0) (b := 0) rfl ⟨Nat.le_of_ble_eq_true rfl, Nat.le_of_ble_eq_true rfl, Nat.zero_le _, Nat.zero_le _⟩ (vX11_placeOf d (by omega) h) ?_
    rintro v S7 ⟨r8, rfl, h⟩
    show jLf (jCall jmt jbud d) jbud (fun j => (jmt j).rk) none mX7_weigh (jqV Q) (60, [some (.ref l0), some (.int l1), some (.int l2), some (.int l3), some (.int l4), some (.long l5), none, some (.int l7), none], [.int r8, .ref (jr S3 l0 0), .int r4, .ref (jr S l0 1)], S7, 0, 0)
    obtain ⟨g9, g10, g11, g12, h⟩ := h
    refine jLf.bk hc 4 [jA S7 (jr S3 l0 0) 13, vp_in r8 (jZ S7 (jr S3 l0 0)), jA S7 (jr S l0 1) 13, vp_in r4 (jZ S7 (jr S l0 1))] [some (.ref l0), some (.int l1), some (.int l2), some (.int l3), some (.int l4), some (.long l5), none, some (.int l7), none] [] (uI S7 (jr S l0 1) r4.toNatClampNeg ((jI S7 (jr S3 l0 0) r8.toNatClampNeg) + l4)) rfl rfl rfl ⟨g9, g10, g11, g12⟩ ?_
    generalize eS13 : uI S7 (jr S l0 1) r4.toNatClampNeg ((jI S7 (jr S3 l0 0) r8.toNatClampNeg) + l4) = S13
    have h := h S13 eS13.symm
    obtain ⟨g14, g15, h⟩ := h
    refine jLf.bk hc 4 [jA S13 l0 7, ¬ jR S13 l0 2 = none] [some (.ref l0), some (.int l1), some (.int l2), some (.int l3), some (.int l4), some (.long l5), none, some (.int l7), none] [.int l2, .int l1, .ref (jr S13 l0 2)] S13 rfl rfl rfl ⟨g14, g15⟩ ?_
    refine jLf.inv hc _ rfl (gs := [2 ≤ ([.int l2, .int l1, .ref (jr S13 l0 2)] : List Value).length, (([.ref (jr S13 l0 2)] : List Value).map fun v => v.category).sum ≤ 8, 0 ≤ 0, 0 ≤ 0]) (k := 146) (args := [.int l1, .int l2]) (r := [.ref (jr S13 l0 2)]) (a := 0) (b := 0) rfl ⟨Nat.le_of_ble_eq_true rfl, Nat.le_of_ble_eq_true rfl, Nat.zero_le _, Nat.zero_le _⟩ (vX11_placeOf d (by omega) h) ?_
    rintro v S16 ⟨r17, rfl, h⟩
    show jLf (jCall jmt jbud d) jbud (fun j => (jmt j).rk) none mX7_weigh (jqV Q) (69, [some (.ref l0), some (.int l1), some (.int l2), some (.int l3), some (.int l4), some (.long l5), none, some (.int l7), none], [.int r17, .ref (jr S13 l0 2)], S16, 0, 0)
    obtain ⟨g18, g19, h⟩ := h
    refine jLf.bk hc 4 [(([.int r17, .ref (jr S13 l0 2)] : List Value).map fun v => v.category).sum ≤ 8, jA S16 (jr S13 l0 2) 14, vp_in r17 (jZ S16 (jr S13 l0 2))] [some (.ref l0), some (.int l1), some (.int l2), some (.int l3), some (.int l4), some (.long l5), none, some (.int l7), none] [] (uJ S16 (jr S13 l0 2) r17.toNatClampNeg (if l5 < (1000000000000 : Int64) then l5 else (1000000000000 : Int64))) rfl rfl rfl ⟨(Nat.le_of_ble_eq_true rfl), g18, g19⟩ ?_
    generalize eS20 : uJ S16 (jr S13 l0 2) r17.toNatClampNeg (if l5 < (1000000000000 : Int64) then l5 else (1000000000000 : Int64)) = S20
    have h := h S20 eS20.symm
    exact jLf.ret hc _ rfl (gs := [jrt none none]) (v := none) rfl trivial ⟨rfl, h⟩
  · have h := h.2 hz
    refine jLf.bk hc 4 [] [some (.ref l0), some (.int l1), some (.int l2), some (.int l3), some (.int l4), some (.long l5), none, some (.int l7), none] [.int (l2 + (1 : Int32)), .int l7] S rfl rfl rfl trivial ?_
    refine jLf.inv hc _ rfl (gs := [2 ≤ ([.int (l2 + (1 : Int32)), .int l7] : List Value).length, (([] : List Value).map fun v => v.category).sum ≤ 8, 0 ≤ 0, 0 ≤ 0]) (k := 146) (args := [.int l7, .int (l2 + (1 : Int32))]) (r := []) (a := 0) (b := 0) rfl ⟨Nat.le_of_ble_eq_true rfl, Nat.le_of_ble_eq_true rfl, Nat.zero_le _, Nat.zero_le _⟩ (vX11_placeOf d (by omega) h) ?_
    rintro v S21 ⟨r22, rfl, h⟩
    show jLf (jCall jmt jbud d) jbud (fun j => (jmt j).rk) none mX7_weigh (jqV Q) (14, [some (.ref l0), some (.int l1), some (.int l2), some (.int l3), some (.int l4), some (.long l5), none, some (.int l7), none], [.int r22], S21, 0, 0)
    refine jLf.bk hc 3 [] [some (.ref l0), some (.int l1), some (.int l2), some (.int l3), some (.int l4), some (.long l5), none, some (.int l7), some (.int r22)] [.int l7, .int l3] S21 rfl rfl rfl trivial ?_
    refine jLf.inv hc _ rfl (gs := [2 ≤ ([.int l7, .int l3] : List Value).length, (([] : List Value).map fun v => v.category).sum ≤ 8, 0 ≤ 0, 0 ≤ 0]) (k := 145) (args := [.int l3, .int l7]) (r := []) (a := 0) (b := 0) rfl ⟨Nat.le_of_ble_eq_true rfl, Nat.le_of_ble_eq_true rfl, Nat.zero_le _, Nat.zero_le _⟩ (vX11_hasBit d (by omega) h) ?_
    rintro v S23 ⟨r24, rfl, h⟩
    show jLf (jCall jmt jbud d) jbud (fun j => (jmt j).rk) none mX7_weigh (jqV Q) (18, [some (.ref l0), some (.int l1), some (.int l2), some (.int l3), some (.int l4), some (.long l5), none, some (.int l7), some (.int r22)], [.int r24], S23, 0, 0)
    refine jLf.two hc _ rfl (gs := []) (p1 := r24 = 0) (p2 := ¬ (r24 = 0)) (c1 := (48, [some (.ref l0), some (.int l1), some (.int l2), some (.int l3), some (.int l4), some (.long l5), none, some (.int l7), some (.int r22)], [], S23, 0, 0)) (c2 := (19, [some (.ref l0), some (.int l1), some (.int l2), some (.int l3), some (.int l4), some (.long l5), none, some (.int l7), some (.int r22)], [], S23, 0, 0)) rfl trivial (fun hz => ?_) (fun hz => ?_)
    · have h := h.1 hz
      refine jLf.sub [some (.ref l0), some (.int l1), some (.int l2), some (.int l3), some (.int l4), some (.long l5), none, some (.int l7), none] (jle_same (jle_same (jle_same (jle_same (jle_same (jle_same (jle_same (jle_same (jle_none (jle_nil _)))))))))) ?_
      exact tX7_weigh_48 d hd hX6 h
    · have h := h.2 hz
      obtain ⟨g26, g27, g28, g29, h⟩ := h
      refine jLf.bk hc 5 [jA S23 l0 7, ¬ jR S23 l0 1 = none, jA S23 (jr S23 l0 1) 13, vp_in r22 (jZ S23 (jr S23 l0 1))] [some (.ref l0), some (.int l1), some (.int l2), some (.int l3), some (.int l4), some (.long l5), none, some (.int l7), some (.int r22)] [.int l4, .int (jI S23 (jr S23 l0 1) r22.toNatClampNeg)] S23 rfl rfl rfl ⟨g26, g27, g28, g29⟩ ?_
      refine jLf.two hc _ rfl (gs := []) (p1 := l4 < (jI S23 (jr S23 l0 1) r22.toNatClampNeg)) (p2 := ¬ (l4 < (jI S23 (jr S23 l0 1) r22.toNatClampNeg))) (c1 := (48, [some (.ref l0), some (.int l1), some (.int l2), some (.int l3), some (.int l4), some (.long l5), none, some (.int l7), some (.int r22)], [], S23, 0, 0)) (c2 := (25, [some (.ref l0), some (.int l1), some (.int l2), some (.int l3), some (.int l4), some (.long l5), none, some (.int l7), some (.int r22)], [], S23, 0, 0)) rfl trivial (fun hz => ?_) (fun hz => ?_)
      · have h := h.1 hz
        refine jLf.sub [some (.ref l0), some (.int l1), some (.int l2), some (.int l3), some (.int l4), some (.long l5), none, some (.int l7), none] (jle_same (jle_same (jle_same (jle_same (jle_same (jle_same (jle_same (jle_same (jle_none (jle_nil _)))))))))) ?_
        exact tX7_weigh_48 d hd hX6 h
      · have h := h.2 hz
        refine jLf.bk hc 5 [jA S23 l0 7, ¬ jR S23 l0 1 = none, jA S23 (jr S23 l0 1) 13, vp_in r22 (jZ S23 (jr S23 l0 1))] [some (.ref l0), some (.int l1), some (.int l2), some (.int l3), some (.int l4), some (.long l5), none, some (.int l7), some (.int r22)] [.int l4, .int (jI S23 (jr S23 l0 1) r22.toNatClampNeg)] S23 rfl rfl rfl ⟨g26, g27, g28, g29⟩ ?_
        refine jLf.two hc _ rfl (gs := []) (p1 := l4 ≤ (jI S23 (jr S23 l0 1) r22.toNatClampNeg)) (p2 := ¬ (l4 ≤ (jI S23 (jr S23 l0 1) r22.toNatClampNeg))) (c1 := (36, [some (.ref l0), some (.int l1), some (.int l2), some (.int l3), some (.int l4), some (.long l5), none, some (.int l7), some (.int r22)], [], S23, 0, 0)) (c2 := (31, [some (.ref l0), some (.int l1), some (.int l2), some (.int l3), some (.int l4), some (.long l5), none, some (.int l7), some (.int r22)], [], S23, 0, 0)) rfl trivial (fun hz => ?_) (fun hz => ?_)
        · have h := h.1 hz
          obtain ⟨g30, g31, g32, h⟩ := h
          refine jLf.bk hc 6 [jA S23 l0 7, ¬ jR S23 l0 2 = none, jA S23 (jr S23 l0 2) 14, vp_in r22 (jZ S23 (jr S23 l0 2))] [some (.ref l0), some (.int l1), some (.int l2), some (.int l3), some (.int l4), some (.long l5), none, some (.int l7), some (.int r22)] [.long (l5 + (jJ S23 (jr S23 l0 2) r22.toNatClampNeg))] S23 rfl rfl rfl ⟨g26, g30, g31, g32⟩ ?_
          refine jLf.sub [some (.ref l0), some (.int l1), some (.int l2), some (.int l3), none, none, none, some (.int l7), some (.int r22)] (jle_same (jle_same (jle_same (jle_same (jle_none (jle_none (jle_same (jle_same (jle_same (jle_nil _)))))))))) ?_
          exact tX7_weigh_42 d hd hX6 h
        · have h := h.2 hz
          obtain ⟨g38, g39, g40, h⟩ := h
          refine jLf.bk hc 4 [jA S23 l0 7, ¬ jR S23 l0 2 = none, jA S23 (jr S23 l0 2) 14, vp_in r22 (jZ S23 (jr S23 l0 2))] [some (.ref l0), some (.int l1), some (.int l2), some (.int l3), some (.int l4), some (.long l5), none, some (.int l7), some (.int r22)] [.long (jJ S23 (jr S23 l0 2) r22.toNatClampNeg)] S23 rfl rfl rfl ⟨g26, g38, g39, g40⟩ ?_
          refine jLf.one hc _ rfl (gs := []) (c := (42, [some (.ref l0), some (.int l1), some (.int l2), some (.int l3), some (.int l4), some (.long l5), none, some (.int l7), some (.int r22)], [.long (jJ S23 (jr S23 l0 2) r22.toNatClampNeg)], S23, 0, 0)) rfl trivial ?_
          refine jLf.sub [some (.ref l0), some (.int l1), some (.int l2), some (.int l3), none, none, none, some (.int l7), some (.int r22)] (jle_same (jle_same (jle_same (jle_same (jle_none (jle_none (jle_same (jle_same (jle_same (jle_nil _)))))))))) ?_
          exact tX7_weigh_42 d hd hX6 h
def wX7_weigh_6   (l0 : Nat) (l1 : Int32) (l2 : Int32) (l3 : Int32) (l4 : Int32) (l5 : Int64) (l7 : Int32) (S : JS) (Q : JS → Prop) : Prop :=
  jLoop (fun (X6 : Nat × Int32 × Int32 × Int32 × Int32 × Int64 × Int32 × JS → Prop) q => bX7_weigh_6 (fun l0 l1 l2 l3 l4 l5 l7 S => X6 (l0, l1, l2, l3, l4, l5, l7, S)) q.1 q.2.1 q.2.2.1 q.2.2.2.1 q.2.2.2.2.1 q.2.2.2.2.2.1 q.2.2.2.2.2.2.1 q.2.2.2.2.2.2.2 Q) (l0, l1, l2, l3, l4, l5, l7, S)
set_option maxRecDepth 20000 in
theorem tX7_weigh_6 {Q : JS → Prop}  (d : Nat) (hd : 1 ≤ d) {l0 : Nat} {l1 : Int32} {l2 : Int32} {l3 : Int32} {l4 : Int32} {l5 : Int64} {l7 : Int32} {S : JS} (h : wX7_weigh_6 l0 l1 l2 l3 l4 l5 l7 S Q) : jLf (jCall jmt jbud d) jbud (fun j => (jmt j).rk) none mX7_weigh (jqV Q) (6, [some (.ref l0), some (.int l1), some (.int l2), some (.int l3), some (.int l4), some (.long l5), none, some (.int l7), none], [], S, 0, 0) := by
  have := h (fun q : Nat × Int32 × Int32 × Int32 × Int32 × Int64 × Int32 × JS => jLf (jCall jmt jbud d) jbud (fun j => (jmt j).rk) none mX7_weigh (jqV Q) (6, [some (.ref (q.1)), some (.int (q.2.1)), some (.int (q.2.2.1)), some (.int (q.2.2.2.1)), some (.int (q.2.2.2.2.1)), some (.long (q.2.2.2.2.2.1)), none, some (.int (q.2.2.2.2.2.2.1)), none], [], q.2.2.2.2.2.2.2, 0, 0)) (fun q R hb hR => uX7_weigh_6 d hd  (fun _ _ _ _ _ _ _ _ => hR _) hb)
  exact this
def wX7_weigh  (this : Nat) (p1 : Int32) (p2 : Int32) (p3 : Int32) (S : JS) (Q : JS → Prop) : Prop :=
  wX7_weigh_6 this p1 p2 p3 17 0 0 S Q
set_option maxRecDepth 20000 in
theorem vX7_weigh {Q : JS → Prop} (d : Nat) (hd : 2 ≤ d) {this : Nat} {p1 : Int32} {p2 : Int32} {p3 : Int32} {S : JS} (h : wX7_weigh this p1 p2 p3 S Q) : jCall jmt jbud d 73 [.ref this, .int p1, .int p2, .int p3] S (jqV Q) := by
  obtain ⟨d, rfl⟩ : ∃ d2, d = d2 + 1 := ⟨d - 1, by omega⟩
  have hd : 1 ≤ d := by omega
  have hc := jCall_mono jmt jbud d
  unfold wX7_weigh at h
  refine ⟨Nat.le_of_ble_eq_true rfl, ?_⟩
  show jLf (jCall jmt jbud d) jbud (fun j => (jmt j).rk) none mX7_weigh (jqV Q) (0, [some (.ref this), some (.int p1), some (.int p2), some (.int p3), none, none, none, none, none], [], S, 0, 0)
  refine jLf.bk hc 6 [] [some (.ref this), some (.int p1), some (.int p2), some (.int p3), some (.int 17), some (.long 0), none, some (.int 0), none] [] S rfl rfl rfl trivial ?_
  exact tX7_weigh_6 d hd  h
def wX7_chooseStart_68  (X32 : Nat → Nat → Int32 → JS → Prop) (l0 : Nat) (l1 : Nat) (l2 : Int32) (S : JS) (Q : JS → Prop) : Prop :=
  ∀ x19 : Int32, x19 = (l2 + 1) → (X32 l0 l1 x19 S)
set_option maxRecDepth 20000 in
theorem tX7_chooseStart_68 {Q : JS → Prop} {X32 : Nat → Nat → Int32 → JS → Prop} (d : Nat) (hd : 1 ≤ d) (hX32 : ∀ l0 l1 l2 S, X32 l0 l1 l2 S → jLf (jCall jmt jbud d) jbud (fun j => (jmt j).rk) none mX7_chooseStart (jqV Q) (32, [some (.ref l0), some (.ref l1), some (.int l2)], [], S, 0, 0)) {l0 : Nat} {l1 : Nat} {l2 : Int32} {S : JS} (h : wX7_chooseStart_68 X32 l0 l1 l2 S Q) : jLf (jCall jmt jbud d) jbud (fun j => (jmt j).rk) none mX7_chooseStart (jqV Q) (68, [some (.ref l0), some (.ref l1), some (.int l2)], [], S, 0, 0) := by
  have hc := jCall_mono jmt jbud d
  unfold wX7_chooseStart_68 at h
  refine jLf.bk hc 1 [] [some (.ref l0), some (.ref l1), some (.int (l2 + 1))] [] S rfl rfl rfl trivial ?_
  generalize ex19 : (l2 + 1 : Int32) = x19
  have h := h x19 ex19.symm
  refine jLf.one hc _ rfl (gs := []) (c := (32, [some (.ref l0), some (.ref l1), some (.int x19)], [], S, 0, 0)) rfl trivial ?_
  exact hX32 _ _ _ _ h
def bX7_chooseStart_32   (X32 : Nat → Nat → Int32 → JS → Prop) (l0 : Nat) (l1 : Nat) (l2 : Int32) (S : JS) (Q : JS → Prop) : Prop :=
  jA S l1 9 ∧ (((jI S l1 0) ≤ l2 → Q S) ∧ (¬ ((jI S l1 0) ≤ l2) → jA S l0 7 ∧ (¬ jR S l0 1 = none ∧ (wX11_placeOf l2 0 S (fun r15 S14 => jA S14 (jr S l0 1) 13 ∧ (vp_in r15 (jZ S14 (jr S l0 1)) ∧ (jA S14 l0 7 ∧ ((¬ (jI S14 (jr S l0 1) r15.toNatClampNeg) = (jI S14 l0 5) → wX7_chooseStart_68 X32 l0 l1 l2 S14 Q) ∧ ((jI S14 (jr S l0 1) r15.toNatClampNeg) = (jI S14 l0 5) → ¬ jR S14 l0 3 = none ∧ (jA S14 (jr S14 l0 3) 13 ∧ (vp_in (0 : Int32) (jZ S14 (jr S14 l0 3)) ∧ (∀ S23 : JS, S23 = uI S14 (jr S14 l0 3) (0 : Int32).toNatClampNeg ((jI S14 (jr S14 l0 3) (0 : Int32).toNatClampNeg) ||| ((1 : Int32) <<< (l2 &&& 31))) → (jA S23 l0 7 ∧ (¬ jR S23 l0 2 = none ∧ (wX11_placeOf l2 0 S23 (fun r27 S26 => jA S26 (jr S23 l0 2) 14 ∧ (vp_in r27 (jZ S26 (jr S23 l0 2)) ∧ (jA S26 l0 7 ∧ (∀ S31 : JS, S31 = uJ S26 l0 6 (if ((jJ S23 l0 6) + (jJ S26 (jr S23 l0 2) r27.toNatClampNeg)) < (1000000000000 : Int64) then ((jJ S23 l0 6) + (jJ S26 (jr S23 l0 2) r27.toNatClampNeg)) else (1000000000000 : Int64)) → (wX7_chooseStart_68 X32 l0 l1 l2 S31 Q))))))))))))))))))))
set_option maxRecDepth 20000 in
theorem uX7_chooseStart_32 {Q : JS → Prop}  (d : Nat) (hd : 1 ≤ d) {X32 : Nat → Nat → Int32 → JS → Prop} (hX32 : ∀ l0 l1 l2 S, X32 l0 l1 l2 S → jLf (jCall jmt jbud d) jbud (fun j => (jmt j).rk) none mX7_chooseStart (jqV Q) (32, [some (.ref l0), some (.ref l1), some (.int l2)], [], S, 0, 0)) {l0 : Nat} {l1 : Nat} {l2 : Int32} {S : JS} (h : bX7_chooseStart_32 X32 l0 l1 l2 S Q) : jLf (jCall jmt jbud d) jbud (fun j => (jmt j).rk) none mX7_chooseStart (jqV Q) (32, [some (.ref l0), some (.ref l1), some (.int l2)], [], S, 0, 0) := by
  have hc := jCall_mono jmt jbud d
  unfold bX7_chooseStart_32 at h
  obtain ⟨g11, h⟩ := h
  refine jLf.bk hc 3 [jA S l1 9] [some (.ref l0), some (.ref l1), some (.int l2)] [.int (jI S l1 0), .int l2] S rfl rfl rfl g11 ?_
  refine jLf.two hc _ rfl (gs := []) (p1 := (jI S l1 0) ≤ l2) (p2 := ¬ ((jI S l1 0) ≤ l2)) (c1 := (70, [some (.ref l0), some (.ref l1), some (.int l2)], [], S, 0, 0)) (c2 := (36, [some (.ref l0), some (.ref l1), some (.int l2)], [], S, 0, 0)) rfl trivial (fun hz => ?_) (fun hz => ?_)
  · have h := h.1 hz
    exact jLf.ret hc _ rfl (gs := [jrt none none]) (v := none) rfl trivial ⟨rfl, h⟩
  · have h := h.2 hz
    obtain ⟨g12, g13, h⟩ := h
    refine jLf.bk hc 4 [jA S l0 7, ¬ jR S l0 1 = none] [some (.ref l0), some (.ref l1), some (.int l2)] [.int 0, .int l2, .ref (jr S l0 1)] S rfl rfl rfl ⟨g12, g13⟩ ?_
    refine jLf.inv hc _ rfl (gs := [2 ≤ ([.int 0, .int l2, .ref (jr S l0 1)] : List Value).length, (([.ref (jr S l0 1)] : List Value).map fun v => v.category).sum ≤ 8, 0 ≤ 0, 0 ≤ 0]) (k := 146) (args := [.int l2, .int 0]) (r := [.ref (jr S l0 1)]) (a := 0) (b := 0) rfl ⟨Nat.le_of_ble_eq_true rfl, Nat.le_of_ble_eq_true rfl, Nat.zero_le _, Nat.zero_le _⟩ (vX11_placeOf d (by omega) h) ?_
    rintro v S14 ⟨r15, rfl, h⟩
    show jLf (jCall jmt jbud d) jbud (fun j => (jmt j).rk) none mX7_chooseStart (jqV Q) (41, [some (.ref l0), some (.ref l1), some (.int l2)], [.int r15, .ref (jr S l0 1)], S14, 0, 0)
    obtain ⟨g16, g17, g18, h⟩ := h
    refine jLf.bk hc 3 [jA S14 (jr S l0 1) 13, vp_in r15 (jZ S14 (jr S l0 1)), jA S14 l0 7] [some (.ref l0), some (.ref l1), some (.int l2)] [.int (jI S14 l0 5), .int (jI S14 (jr S l0 1) r15.toNatClampNeg)] S14 rfl rfl rfl ⟨g16, g17, g18⟩ ?_
    refine jLf.two hc _ rfl (gs := []) (p1 := ¬ (jI S14 (jr S l0 1) r15.toNatClampNeg) = (jI S14 l0 5)) (p2 := ¬ (¬ (jI S14 (jr S l0 1) r15.toNatClampNeg) = (jI S14 l0 5))) (c1 := (68, [some (.ref l0), some (.ref l1), some (.int l2)], [], S14, 0, 0)) (c2 := (45, [some (.ref l0), some (.ref l1), some (.int l2)], [], S14, 0, 0)) rfl trivial (fun hz => ?_) (fun hz => ?_)
    · have h := h.1 hz
      exact tX7_chooseStart_68 d hd hX32 h
    · have h := h.2 (Classical.not_not.mp hz)
      obtain ⟨g20, g21, g22, h⟩ := h
      refine jLf.bk hc 10 [jA S14 l0 7, ¬ jR S14 l0 3 = none, jA S14 (jr S14 l0 3) 13, vp_in (0 : Int32) (jZ S14 (jr S14 l0 3)), jA S14 (jr S14 l0 3) 13, vp_in (0 : Int32) (jZ S14 (jr S14 l0 3))] [some (.ref l0), some (.ref l1), some (.int l2)] [] (uI S14 (jr S14 l0 3) (0 : Int32).toNatClampNeg ((jI S14 (jr S14 l0 3) (0 : Int32).toNatClampNeg) ||| ((1 : Int32) <<< (l2 &&& 31)))) rfl rfl rfl ⟨g18, g20, g21, g22, g21, g22⟩ ?_
      generalize eS23 : uI S14 (jr S14 l0 3) (0 : Int32).toNatClampNeg ((jI S14 (jr S14 l0 3) (0 : Int32).toNatClampNeg) ||| ((1 : Int32) <<< (l2 &&& 31))) = S23
      have h := h S23 eS23.symm
      obtain ⟨g24, g25, h⟩ := h
      refine jLf.bk hc 8 [jA S23 l0 7, jA S23 l0 7, ¬ jR S23 l0 2 = none] [some (.ref l0), some (.ref l1), some (.int l2)] [.int 0, .int l2, .ref (jr S23 l0 2), .long (jJ S23 l0 6), .long 1000000000000, .ref l0] S23 rfl rfl rfl ⟨g24, g24, g25⟩ ?_
      refine jLf.inv hc _ rfl (gs := [2 ≤ ([.int 0, .int l2, .ref (jr S23 l0 2), .long (jJ S23 l0 6), .long 1000000000000, .ref l0] : List Value).length, (([.ref (jr S23 l0 2), .long (jJ S23 l0 6), .long 1000000000000, .ref l0] : List Value).map fun v => v.category).sum ≤ 8, 0 ≤ 0, 0 ≤ 0]) (k := 146) (args := [.int l2, .int 0]) (r := [.ref (jr S23 l0 2), .long (jJ S23 l0 6), .long 1000000000000, .ref l0]) (a := 0) (b := 0) rfl ⟨Nat.le_of_ble_eq_true rfl, Nat.le_of_ble_eq_true rfl, Nat.zero_le _, Nat.zero_le _⟩ (vX11_placeOf d (by omega) h) ?_
      rintro v S26 ⟨r27, rfl, h⟩
      show jLf (jCall jmt jbud d) jbud (fun j => (jmt j).rk) none mX7_chooseStart (jqV Q) (64, [some (.ref l0), some (.ref l1), some (.int l2)], [.int r27, .ref (jr S23 l0 2), .long (jJ S23 l0 6), .long 1000000000000, .ref l0], S26, 0, 0)
      obtain ⟨g28, g29, g30, h⟩ := h
      refine jLf.bk hc 4 [jA S26 (jr S23 l0 2) 14, vp_in r27 (jZ S26 (jr S23 l0 2)), (([.ref l0] : List Value).map fun v => v.category).sum ≤ 8, jA S26 l0 7] [some (.ref l0), some (.ref l1), some (.int l2)] [] (uJ S26 l0 6 (if ((jJ S23 l0 6) + (jJ S26 (jr S23 l0 2) r27.toNatClampNeg)) < (1000000000000 : Int64) then ((jJ S23 l0 6) + (jJ S26 (jr S23 l0 2) r27.toNatClampNeg)) else (1000000000000 : Int64))) rfl rfl rfl ⟨g28, g29, (Nat.le_of_ble_eq_true rfl), g30⟩ ?_
      generalize eS31 : uJ S26 l0 6 (if ((jJ S23 l0 6) + (jJ S26 (jr S23 l0 2) r27.toNatClampNeg)) < (1000000000000 : Int64) then ((jJ S23 l0 6) + (jJ S26 (jr S23 l0 2) r27.toNatClampNeg)) else (1000000000000 : Int64)) = S31
      have h := h S31 eS31.symm
      exact tX7_chooseStart_68 d hd hX32 h
def wX7_chooseStart_32   (l0 : Nat) (l1 : Nat) (l2 : Int32) (S : JS) (Q : JS → Prop) : Prop :=
  jLoop (fun (X32 : Nat × Nat × Int32 × JS → Prop) q => bX7_chooseStart_32 (fun l0 l1 l2 S => X32 (l0, l1, l2, S)) q.1 q.2.1 q.2.2.1 q.2.2.2 Q) (l0, l1, l2, S)
set_option maxRecDepth 20000 in
theorem tX7_chooseStart_32 {Q : JS → Prop}  (d : Nat) (hd : 1 ≤ d) {l0 : Nat} {l1 : Nat} {l2 : Int32} {S : JS} (h : wX7_chooseStart_32 l0 l1 l2 S Q) : jLf (jCall jmt jbud d) jbud (fun j => (jmt j).rk) none mX7_chooseStart (jqV Q) (32, [some (.ref l0), some (.ref l1), some (.int l2)], [], S, 0, 0) := by
  have := h (fun q : Nat × Nat × Int32 × JS => jLf (jCall jmt jbud d) jbud (fun j => (jmt j).rk) none mX7_chooseStart (jqV Q) (32, [some (.ref (q.1)), some (.ref (q.2.1)), some (.int (q.2.2.1))], [], q.2.2.2, 0, 0)) (fun q R hb hR => uX7_chooseStart_32 d hd  (fun _ _ _ _ => hR _) hb)
  exact this
def bX7_chooseStart_5   (X5 : Nat → Nat → Int32 → JS → Prop) (l0 : Nat) (l1 : Nat) (l2 : Int32) (S : JS) (Q : JS → Prop) : Prop :=
  jA S l1 9 ∧ (((jI S l1 0) ≤ l2 → jA S l0 7 ∧ (∀ S5 : JS, S5 = uJ S l0 6 0 → (jA S5 l0 7 ∧ (¬ jR S5 l0 3 = none ∧ (jA S5 (jr S5 l0 3) 13 ∧ (vp_in (0 : Int32) (jZ S5 (jr S5 l0 3)) ∧ (∀ S10 : JS, S10 = uI S5 (jr S5 l0 3) (0 : Int32).toNatClampNeg 0 → (wX7_chooseStart_32 l0 l1 0 S10 Q)))))))) ∧ (¬ ((jI S l1 0) ≤ l2) → jA S l0 7 ∧ (¬ jR S l0 1 = none ∧ (wX11_placeOf l2 0 S (fun r35 S34 => jA S34 (jr S l0 1) 13 ∧ (vp_in r35 (jZ S34 (jr S l0 1)) ∧ (jA S34 l0 7 ∧ (∀ S39 : JS, S39 = uI S34 l0 5 (if (jI S34 (jr S l0 1) r35.toNatClampNeg) < (jI S l0 5) then (jI S34 (jr S l0 1) r35.toNatClampNeg) else (jI S l0 5)) → (∀ x40 : Int32, x40 = (l2 + 1) → (X5 l0 l1 x40 S39))))))))))
set_option maxRecDepth 20000 in
theorem uX7_chooseStart_5 {Q : JS → Prop}  (d : Nat) (hd : 1 ≤ d) {X5 : Nat → Nat → Int32 → JS → Prop} (hX5 : ∀ l0 l1 l2 S, X5 l0 l1 l2 S → jLf (jCall jmt jbud d) jbud (fun j => (jmt j).rk) none mX7_chooseStart (jqV Q) (5, [some (.ref l0), some (.ref l1), some (.int l2)], [], S, 0, 0)) {l0 : Nat} {l1 : Nat} {l2 : Int32} {S : JS} (h : bX7_chooseStart_5 X5 l0 l1 l2 S Q) : jLf (jCall jmt jbud d) jbud (fun j => (jmt j).rk) none mX7_chooseStart (jqV Q) (5, [some (.ref l0), some (.ref l1), some (.int l2)], [], S, 0, 0) := by
  have hc := jCall_mono jmt jbud d
  unfold bX7_chooseStart_5 at h
  obtain ⟨g3, h⟩ := h
  refine jLf.bk hc 3 [jA S l1 9] [some (.ref l0), some (.ref l1), some (.int l2)] [.int (jI S l1 0), .int l2] S rfl rfl rfl g3 ?_
  refine jLf.two hc _ rfl (gs := []) (p1 := (jI S l1 0) ≤ l2) (p2 := ¬ ((jI S l1 0) ≤ l2)) (c1 := (22, [some (.ref l0), some (.ref l1), some (.int l2)], [], S, 0, 0)) (c2 := (9, [some (.ref l0), some (.ref l1), some (.int l2)], [], S, 0, 0)) rfl trivial (fun hz => ?_) (fun hz => ?_)
  · have h := h.1 hz
    obtain ⟨g4, h⟩ := h
    refine jLf.bk hc 3 [jA S l0 7] [some (.ref l0), some (.ref l1), some (.int l2)] [] (uJ S l0 6 0) rfl rfl rfl g4 ?_
    generalize eS5 : uJ S l0 6 0 = S5
    have h := h S5 eS5.symm
    obtain ⟨g6, g7, g8, g9, h⟩ := h
    refine jLf.bk hc 5 [jA S5 l0 7, ¬ jR S5 l0 3 = none, jA S5 (jr S5 l0 3) 13, vp_in (0 : Int32) (jZ S5 (jr S5 l0 3))] [some (.ref l0), some (.ref l1), some (.int l2)] [] (uI S5 (jr S5 l0 3) (0 : Int32).toNatClampNeg 0) rfl rfl rfl ⟨g6, g7, g8, g9⟩ ?_
    generalize eS10 : uI S5 (jr S5 l0 3) (0 : Int32).toNatClampNeg 0 = S10
    have h := h S10 eS10.symm
    refine jLf.bk hc 2 [] [some (.ref l0), some (.ref l1), some (.int 0)] [] S10 rfl rfl rfl trivial ?_
    exact tX7_chooseStart_32 d hd  h
  · have h := h.2 hz
    obtain ⟨g32, g33, h⟩ := h
    refine jLf.bk hc 7 [jA S l0 7, jA S l0 7, ¬ jR S l0 1 = none] [some (.ref l0), some (.ref l1), some (.int l2)] [.int 0, .int l2, .ref (jr S l0 1), .int (jI S l0 5), .ref l0] S rfl rfl rfl ⟨g32, g32, g33⟩ ?_
    refine jLf.inv hc _ rfl (gs := [2 ≤ ([.int 0, .int l2, .ref (jr S l0 1), .int (jI S l0 5), .ref l0] : List Value).length, (([.ref (jr S l0 1), .int (jI S l0 5), .ref l0] : List Value).map fun v => v.category).sum ≤ 8, 0 ≤ 0, 0 ≤ 0]) (k := 146) (args := [.int l2, .int 0]) (r := [.ref (jr S l0 1), .int (jI S l0 5), .ref l0]) (a := 0) (b := 0) rfl ⟨Nat.le_of_ble_eq_true rfl, Nat.le_of_ble_eq_true rfl, Nat.zero_le _, Nat.zero_le _⟩ (vX11_placeOf d (by omega) h) ?_
    rintro v S34 ⟨r35, rfl, h⟩
    show jLf (jCall jmt jbud d) jbud (fun j => (jmt j).rk) none mX7_chooseStart (jqV Q) (17, [some (.ref l0), some (.ref l1), some (.int l2)], [.int r35, .ref (jr S l0 1), .int (jI S l0 5), .ref l0], S34, 0, 0)
    obtain ⟨g36, g37, g38, h⟩ := h
    refine jLf.bk hc 3 [jA S34 (jr S l0 1) 13, vp_in r35 (jZ S34 (jr S l0 1)), (([.ref l0] : List Value).map fun v => v.category).sum ≤ 8, jA S34 l0 7] [some (.ref l0), some (.ref l1), some (.int l2)] [] (uI S34 l0 5 (if (jI S34 (jr S l0 1) r35.toNatClampNeg) < (jI S l0 5) then (jI S34 (jr S l0 1) r35.toNatClampNeg) else (jI S l0 5))) rfl rfl rfl ⟨g36, g37, (Nat.le_of_ble_eq_true rfl), g38⟩ ?_
    generalize eS39 : uI S34 l0 5 (if (jI S34 (jr S l0 1) r35.toNatClampNeg) < (jI S l0 5) then (jI S34 (jr S l0 1) r35.toNatClampNeg) else (jI S l0 5)) = S39
    have h := h S39 eS39.symm
    refine jLf.bk hc 1 [] [some (.ref l0), some (.ref l1), some (.int (l2 + 1))] [] S39 rfl rfl rfl trivial ?_
    generalize ex40 : (l2 + 1 : Int32) = x40
    have h := h x40 ex40.symm
    refine jLf.one hc _ rfl (gs := []) (c := (5, [some (.ref l0), some (.ref l1), some (.int x40)], [], S39, 0, 0)) rfl trivial ?_
    exact hX5 _ _ _ _ h
def wX7_chooseStart_5   (l0 : Nat) (l1 : Nat) (l2 : Int32) (S : JS) (Q : JS → Prop) : Prop :=
  jLoop (fun (X5 : Nat × Nat × Int32 × JS → Prop) q => bX7_chooseStart_5 (fun l0 l1 l2 S => X5 (l0, l1, l2, S)) q.1 q.2.1 q.2.2.1 q.2.2.2 Q) (l0, l1, l2, S)
set_option maxRecDepth 20000 in
theorem tX7_chooseStart_5 {Q : JS → Prop}  (d : Nat) (hd : 1 ≤ d) {l0 : Nat} {l1 : Nat} {l2 : Int32} {S : JS} (h : wX7_chooseStart_5 l0 l1 l2 S Q) : jLf (jCall jmt jbud d) jbud (fun j => (jmt j).rk) none mX7_chooseStart (jqV Q) (5, [some (.ref l0), some (.ref l1), some (.int l2)], [], S, 0, 0) := by
  have := h (fun q : Nat × Nat × Int32 × JS => jLf (jCall jmt jbud d) jbud (fun j => (jmt j).rk) none mX7_chooseStart (jqV Q) (5, [some (.ref (q.1)), some (.ref (q.2.1)), some (.int (q.2.2.1))], [], q.2.2.2, 0, 0)) (fun q R hb hR => uX7_chooseStart_5 d hd  (fun _ _ _ _ => hR _) hb)
  exact this
def wX7_chooseStart  (this : Nat) (p1 : Nat) (S : JS) (Q : JS → Prop) : Prop :=
  jA S this 7 ∧ (∀ S2 : JS, S2 = uI S this 5 17 → (wX7_chooseStart_5 this p1 0 S2 Q))
set_option maxRecDepth 20000 in
theorem vX7_chooseStart {Q : JS → Prop} (d : Nat) (hd : 2 ≤ d) {this : Nat} {p1 : Nat} {S : JS} (h : wX7_chooseStart this p1 S Q) : jCall jmt jbud d 74 [.ref this, .ref p1] S (jqV Q) := by
  obtain ⟨d, rfl⟩ : ∃ d2, d = d2 + 1 := ⟨d - 1, by omega⟩
  have hd : 1 ≤ d := by omega
  have hc := jCall_mono jmt jbud d
  unfold wX7_chooseStart at h
  refine ⟨Nat.le_of_ble_eq_true rfl, ?_⟩
  show jLf (jCall jmt jbud d) jbud (fun j => (jmt j).rk) none mX7_chooseStart (jqV Q) (0, [some (.ref this), some (.ref p1), none], [], S, 0, 0)
  obtain ⟨g1, h⟩ := h
  refine jLf.bk hc 3 [jA S this 7] [some (.ref this), some (.ref p1), none] [] (uI S this 5 17) rfl rfl rfl g1 ?_
  generalize eS2 : uI S this 5 17 = S2
  have h := h S2 eS2.symm
  refine jLf.bk hc 2 [] [some (.ref this), some (.ref p1), some (.int 0)] [] S2 rfl rfl rfl trivial ?_
  exact tX7_chooseStart_5 d hd  h
