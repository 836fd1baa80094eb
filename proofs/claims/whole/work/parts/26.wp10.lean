/-! weakest preconditions, by program: X12_year X12_drawn X12_count X12_status -/
def bX12_year_162   (X162 : Nat → Int32 → Int32 → Int32 → JS → Prop) (l0 : Nat) (l4 : Int32) (l5 : Int32) (l6 : Int32) (S : JS) (Q : Int32 → JS → Prop) : Prop :=
  (9 ≤ l6 → jA S l0 12 ∧ (wX12_tell l0 l5 S (fun r22 S21 => Q r22 S21))) ∧ (¬ (9 ≤ l6) → ∀ x24 : Int32, x24 = (l5 + ((l4 >>> (l6 &&& 31)) &&& (1 : Int32))) → (∀ x25 : Int32, x25 = (l6 + 1) → (X162 l0 l4 x24 x25 S)))
set_option maxRecDepth 20000 in
theorem uX12_year_162 {Q : Int32 → JS → Prop}  (d : Nat) (hd : 6 ≤ d) {X162 : Nat → Int32 → Int32 → Int32 → JS → Prop} (hX162 : ∀ l0 l4 l5 l6 S, X162 l0 l4 l5 l6 S → jLf (jCall jmt jbud d) jbud (fun j => (jmt j).rk) none mX12_year (jqI Q) (162, [some (.ref l0), none, none, none, some (.int l4), some (.int l5), some (.int l6), none, none, none], [], S, 0, 0)) {l0 : Nat} {l4 : Int32} {l5 : Int32} {l6 : Int32} {S : JS} (h : bX12_year_162 X162 l0 l4 l5 l6 S Q) : jLf (jCall jmt jbud d) jbud (fun j => (jmt j).rk) none mX12_year (jqI Q) (162, [some (.ref l0), none, none, none, some (.int l4), some (.int l5), some (.int l6), none, none, none], [], S, 0, 0) := by
  have hc := jCall_mono jmt jbud d
  unfold bX12_year_162 at h
  refine jLf.bk hc 2 [] [some (.ref l0), none, none, none, some (.int l4), some (.int l5), some (.int l6), none, none, none] [.int 9, .int l6] S rfl rfl rfl trivial ?_
  refine jLf.two hc _ rfl (gs := []) (p1 := 9 ≤ l6) (p2 := ¬ (9 ≤ l6)) (c1 := (175, [some (.ref l0), none, none, none, some (.int l4), some (.int l5), some (.int l6), none, none, none], [], S, 0, 0)) (c2 := (165, [some (.ref l0), none, none, none, some (.int l4), some (.int l5), some (.int l6), none, none, none], [], S, 0, 0)) rfl trivial (fun hz => ?_) (fun hz => ?_)
  · have h := h.1 hz
    refine jLf.bk hc 2 [] [some (.ref l0), none, none, none, some (.int l4), some (.int l5), some (.int l6), none, none, none] [.int l5, .ref l0] S rfl rfl rfl trivial ?_
    obtain ⟨g23, h⟩ := h
    refine jLf.inv hc _ rfl (gs := [jA S l0 12, (([] : List Value).map fun v => v.category).sum ≤ 8, 0 ≤ 0, 0 ≤ 0]) (k := 150) (args := [.ref l0, .int l5]) (r := []) (a := 0) (b := 0) rfl ⟨g23, Nat.le_of_ble_eq_true rfl, Nat.zero_le _, Nat.zero_le _⟩ (vX12_tell d (by omega) h) ?_
    rintro v S21 ⟨r22, rfl, h⟩
    show jLf (jCall jmt jbud d) jbud (fun j => (jmt j).rk) none mX12_year (jqI Q) (178, [some (.ref l0), none, none, none, some (.int l4), some (.int l5), some (.int l6), none, none, none], [.int r22], S21, 0, 0)
    exact jLf.ret hc _ rfl (gs := [True]) (v := some (.int r22)) rfl trivial ⟨r22, rfl, h⟩
  · have h := h.2 hz
    refine jLf.bk hc 8 [] [some (.ref l0), none, none, none, some (.int l4), some (.int (l5 + ((l4 >>> (l6 &&& 31)) &&& (1 : Int32)))), some (.int l6), none, none, none] [] S rfl rfl rfl trivial ?_
    generalize ex24 : (l5 + ((l4 >>> (l6 &&& 31)) &&& (1 : Int32)) : Int32) = x24
    have h := h x24 ex24.symm
    refine jLf.bk hc 1 [] [some (.ref l0), none, none, none, some (.int l4), some (.int x24), some (.int (l6 + 1)), none, none, none] [] S rfl rfl rfl trivial ?_
    generalize ex25 : (l6 + 1 : Int32) = x25
    have h := h x25 ex25.symm
    refine jLf.one hc _ rfl (gs := []) (c := (162, [some (.ref l0), none, none, none, some (.int l4), some (.int x24), some (.int x25), none, none, none], [], S, 0, 0)) rfl trivial ?_
    exact hX162 _ _ _ _ _ h
def wX12_year_162   (l0 : Nat) (l4 : Int32) (l5 : Int32) (l6 : Int32) (S : JS) (Q : Int32 → JS → Prop) : Prop :=
  jLoop (fun (X162 : Nat × Int32 × Int32 × Int32 × JS → Prop) q => bX12_year_162 (fun l0 l4 l5 l6 S => X162 (l0, l4, l5, l6, S)) q.1 q.2.1 q.2.2.1 q.2.2.2.1 q.2.2.2.2 Q) (l0, l4, l5, l6, S)
set_option maxRecDepth 20000 in
theorem tX12_year_162 {Q : Int32 → JS → Prop}  (d : Nat) (hd : 6 ≤ d) {l0 : Nat} {l4 : Int32} {l5 : Int32} {l6 : Int32} {S : JS} (h : wX12_year_162 l0 l4 l5 l6 S Q) : jLf (jCall jmt jbud d) jbud (fun j => (jmt j).rk) none mX12_year (jqI Q) (162, [some (.ref l0), none, none, none, some (.int l4), some (.int l5), some (.int l6), none, none, none], [], S, 0, 0) := by
  have := h (fun q : Nat × Int32 × Int32 × Int32 × JS => jLf (jCall jmt jbud d) jbud (fun j => (jmt j).rk) none mX12_year (jqI Q) (162, [some (.ref (q.1)), none, none, none, some (.int (q.2.1)), some (.int (q.2.2.1)), some (.int (q.2.2.2.1)), none, none, none], [], q.2.2.2.2, 0, 0)) (fun q R hb hR => uX12_year_162 d hd  (fun _ _ _ _ _ => hR _) hb)
  exact this
def wX12_year_141  (X43 : Nat → Int32 → Int32 → Int32 → JS → Prop) (l0 : Nat) (l4 : Int32) (l5 : Int32) (l8 : Int32) (S : JS) (Q : Int32 → JS → Prop) : Prop :=
  ∀ x38 : Int32, x38 = (l4 ||| ((1 : Int32) <<< (l8 &&& 31))) → (jA S l0 12 ∧ (¬ jR S l0 42 = none ∧ (jA S (jr S l0 42) 13 ∧ (vp_in (l5 + (1 : Int32)) (jZ S (jr S l0 42)) ∧ (∀ S43 : JS, S43 = uI S (jr S l0 42) (l5 + (1 : Int32)).toNatClampNeg l8 → (∀ x44 : Int32, x44 = (l5 + 1) → (X43 l0 l8 x38 x44 S43)))))))
set_option maxRecDepth 20000 in
theorem tX12_year_141 {Q : Int32 → JS → Prop} {X43 : Nat → Int32 → Int32 → Int32 → JS → Prop} (d : Nat) (hd : 6 ≤ d) (hX43 : ∀ l0 l3 l4 l5 S, X43 l0 l3 l4 l5 S → jLf (jCall jmt jbud d) jbud (fun j => (jmt j).rk) none mX12_year (jqI Q) (43, [some (.ref l0), none, none, some (.int l3), some (.int l4), some (.int l5), none, none, none, none], [], S, 0, 0)) {l0 : Nat} {l4 : Int32} {l5 : Int32} {l8 : Int32} {S : JS} (h : wX12_year_141 X43 l0 l4 l5 l8 S Q) : jLf (jCall jmt jbud d) jbud (fun j => (jmt j).rk) none mX12_year (jqI Q) (141, [some (.ref l0), none, none, none, some (.int l4), some (.int l5), none, none, some (.int l8), none], [], S, 0, 0) := by
  have hc := jCall_mono jmt jbud d
  unfold wX12_year_141 at h
  refine jLf.bk hc 8 [] [some (.ref l0), none, none, some (.int l8), some (.int (l4 ||| ((1 : Int32) <<< (l8 &&& 31)))), some (.int l5), none, none, some (.int l8), none] [] S rfl rfl rfl trivial ?_
  generalize ex38 : (l4 ||| ((1 : Int32) <<< (l8 &&& 31)) : Int32) = x38
  have h := h x38 ex38.symm
  obtain ⟨g39, g40, g41, g42, h⟩ := h
  refine jLf.bk hc 7 [jA S l0 12, ¬ jR S l0 42 = none, jA S (jr S l0 42) 13, vp_in (l5 + (1 : Int32)) (jZ S (jr S l0 42))] [some (.ref l0), none, none, some (.int l8), some (.int x38), some (.int l5), none, none, some (.int l8), none] [] (uI S (jr S l0 42) (l5 + (1 : Int32)).toNatClampNeg l8) rfl rfl rfl ⟨g39, g40, g41, g42⟩ ?_
  generalize eS43 : uI S (jr S l0 42) (l5 + (1 : Int32)).toNatClampNeg l8 = S43
  have h := h S43 eS43.symm
  refine jLf.bk hc 1 [] [some (.ref l0), none, none, some (.int l8), some (.int x38), some (.int (l5 + 1)), none, none, some (.int l8), none] [] S43 rfl rfl rfl trivial ?_
  generalize ex44 : (l5 + 1 : Int32) = x44
  have h := h x44 ex44.symm
  refine jLf.one hc _ rfl (gs := []) (c := (43, [some (.ref l0), none, none, some (.int l8), some (.int x38), some (.int x44), none, none, some (.int l8), none], [], S43, 0, 0)) rfl trivial ?_
  refine jLf.sub [some (.ref l0), none, none, some (.int l8), some (.int x38), some (.int x44), none, none, none, none] (jle_same (jle_same (jle_same (jle_same (jle_same (jle_same (jle_same (jle_same (jle_none (jle_same (jle_nil _))))))))))) ?_
  exact hX43 _ _ _ _ _ h
def wX12_year_138  (X43 : Nat → Int32 → Int32 → Int32 → JS → Prop) (X102 : Nat → Int32 → Int32 → Int32 → Int32 → Int32 → Int32 → JS → Prop) (l0 : Nat) (l3 : Int32) (l4 : Int32) (l5 : Int32) (l7 : Int32) (l9 : Int32) (s0 : Int32) (S : JS) (Q : Int32 → JS → Prop) : Prop :=
  ∀ x46 : Int32, x46 = (l9 + 1) → (X102 l0 l3 l4 l5 l7 s0 x46 S)
set_option maxRecDepth 20000 in
theorem tX12_year_138 {Q : Int32 → JS → Prop} {X43 : Nat → Int32 → Int32 → Int32 → JS → Prop} {X102 : Nat → Int32 → Int32 → Int32 → Int32 → Int32 → Int32 → JS → Prop} (d : Nat) (hd : 6 ≤ d) (hX43 : ∀ l0 l3 l4 l5 S, X43 l0 l3 l4 l5 S → jLf (jCall jmt jbud d) jbud (fun j => (jmt j).rk) none mX12_year (jqI Q) (43, [some (.ref l0), none, none, some (.int l3), some (.int l4), some (.int l5), none, none, none, none], [], S, 0, 0)) (hX102 : ∀ l0 l3 l4 l5 l7 l8 l9 S, X102 l0 l3 l4 l5 l7 l8 l9 S → jLf (jCall jmt jbud d) jbud (fun j => (jmt j).rk) none mX12_year (jqI Q) (102, [some (.ref l0), none, none, some (.int l3), some (.int l4), some (.int l5), none, some (.int l7), some (.int l8), some (.int l9)], [], S, 0, 0)) {l0 : Nat} {l3 : Int32} {l4 : Int32} {l5 : Int32} {l7 : Int32} {l9 : Int32} {s0 : Int32} {S : JS} (h : wX12_year_138 X43 X102 l0 l3 l4 l5 l7 l9 s0 S Q) : jLf (jCall jmt jbud d) jbud (fun j => (jmt j).rk) none mX12_year (jqI Q) (138, [some (.ref l0), none, none, some (.int l3), some (.int l4), some (.int l5), none, some (.int l7), none, some (.int l9)], [.int s0], S, 0, 0) := by
  have hc := jCall_mono jmt jbud d
  unfold wX12_year_138 at h
  refine jLf.bk hc 2 [] [some (.ref l0), none, none, some (.int l3), some (.int l4), some (.int l5), none, some (.int l7), some (.int s0), some (.int (l9 + 1))] [] S rfl rfl rfl trivial ?_
  generalize ex46 : (l9 + 1 : Int32) = x46
  have h := h x46 ex46.symm
  refine jLf.one hc _ rfl (gs := []) (c := (102, [some (.ref l0), none, none, some (.int l3), some (.int l4), some (.int l5), none, some (.int l7), some (.int s0), some (.int x46)], [], S, 0, 0)) rfl trivial ?_
  exact hX102 _ _ _ _ _ _ _ _ h
def wX12_year_131  (X43 : Nat → Int32 → Int32 → Int32 → JS → Prop) (X102 : Nat → Int32 → Int32 → Int32 → Int32 → Int32 → Int32 → JS → Prop) (l0 : Nat) (l3 : Int32) (l4 : Int32) (l5 : Int32) (l8 : Int32) (l9 : Int32) (s0 : Int32) (s1 : Int32) (S : JS) (Q : Int32 → JS → Prop) : Prop :=
  ∀ x45 : Int32, x45 = (s1 - s0) → ((0 ≤ x45 → wX12_year_138 X43 X102 l0 l3 l4 l5 x45 l9 l8 S Q) ∧ (¬ (0 ≤ x45) → wX12_year_138 X43 X102 l0 l3 l4 l5 x45 l9 l9 S Q))
set_option maxRecDepth 20000 in
theorem tX12_year_131 {Q : Int32 → JS → Prop} {X43 : Nat → Int32 → Int32 → Int32 → JS → Prop} {X102 : Nat → Int32 → Int32 → Int32 → Int32 → Int32 → Int32 → JS → Prop} (d : Nat) (hd : 6 ≤ d) (hX43 : ∀ l0 l3 l4 l5 S, X43 l0 l3 l4 l5 S → jLf (jCall jmt jbud d) jbud (fun j => (jmt j).rk) none mX12_year (jqI Q) (43, [some (.ref l0), none, none, some (.int l3), some (.int l4), some (.int l5), none, none, none, none], [], S, 0, 0)) (hX102 : ∀ l0 l3 l4 l5 l7 l8 l9 S, X102 l0 l3 l4 l5 l7 l8 l9 S → jLf (jCall jmt jbud d) jbud (fun j => (jmt j).rk) none mX12_year (jqI Q) (102, [some (.ref l0), none, none, some (.int l3), some (.int l4), some (.int l5), none, some (.int l7), some (.int l8), some (.int l9)], [], S, 0, 0)) {l0 : Nat} {l3 : Int32} {l4 : Int32} {l5 : Int32} {l8 : Int32} {l9 : Int32} {s0 : Int32} {s1 : Int32} {S : JS} (h : wX12_year_131 X43 X102 l0 l3 l4 l5 l8 l9 s0 s1 S Q) : jLf (jCall jmt jbud d) jbud (fun j => (jmt j).rk) none mX12_year (jqI Q) (131, [some (.ref l0), none, none, some (.int l3), some (.int l4), some (.int l5), none, none, some (.int l8), some (.int l9)], [.int s0, .int s1], S, 0, 0) := by
  have hc := jCall_mono jmt jbud d
  unfold wX12_year_131 at h
  refine jLf.bk hc 2 [] [some (.ref l0), none, none, some (.int l3), some (.int l4), some (.int l5), none, some (.int (s1 - s0)), some (.int l8), some (.int l9)] [] S rfl rfl rfl trivial ?_
  generalize ex45 : (s1 - s0 : Int32) = x45
  have h := h x45 ex45.symm
  refine jLf.bk hc 1 [] [some (.ref l0), none, none, some (.int l3), some (.int l4), some (.int l5), none, some (.int x45), some (.int l8), some (.int l9)] [.int x45] S rfl rfl rfl trivial ?_
  refine jLf.two hc _ rfl (gs := []) (p1 := 0 ≤ x45) (p2 := ¬ (0 ≤ x45)) (c1 := (137, [some (.ref l0), none, none, some (.int l3), some (.int l4), some (.int l5), none, some (.int x45), some (.int l8), some (.int l9)], [], S, 0, 0)) (c2 := (135, [some (.ref l0), none, none, some (.int l3), some (.int l4), some (.int l5), none, some (.int x45), some (.int l8), some (.int l9)], [], S, 0, 0)) rfl trivial (fun hz => ?_) (fun hz => ?_)
  · have h := h.1 hz
    refine jLf.bk hc 1 [] [some (.ref l0), none, none, some (.int l3), some (.int l4), some (.int l5), none, some (.int x45), some (.int l8), some (.int l9)] [.int l8] S rfl rfl rfl trivial ?_
    refine jLf.sub [some (.ref l0), none, none, some (.int l3), some (.int l4), some (.int l5), none, some (.int x45), none, some (.int l9)] (jle_same (jle_same (jle_same (jle_same (jle_same (jle_same (jle_same (jle_same (jle_none (jle_same (jle_nil _))))))))))) ?_
    exact tX12_year_138 d hd hX43 hX102 h
  · have h := h.2 hz
    refine jLf.bk hc 1 [] [some (.ref l0), none, none, some (.int l3), some (.int l4), some (.int l5), none, some (.int x45), some (.int l8), some (.int l9)] [.int l9] S rfl rfl rfl trivial ?_
    refine jLf.one hc _ rfl (gs := []) (c := (138, [some (.ref l0), none, none, some (.int l3), some (.int l4), some (.int l5), none, some (.int x45), some (.int l8), some (.int l9)], [.int l9], S, 0, 0)) rfl trivial ?_
    refine jLf.sub [some (.ref l0), none, none, some (.int l3), some (.int l4), some (.int l5), none, some (.int x45), none, some (.int l9)] (jle_same (jle_same (jle_same (jle_same (jle_same (jle_same (jle_same (jle_same (jle_none (jle_same (jle_nil _))))))))))) ?_
    exact tX12_year_138 d hd hX43 hX102 h
def wX12_year_130  (X43 : Nat → Int32 → Int32 → Int32 → JS → Prop) (X102 : Nat → Int32 → Int32 → Int32 → Int32 → Int32 → Int32 → JS → Prop) (l0 : Nat) (l3 : Int32) (l4 : Int32) (l5 : Int32) (l8 : Int32) (l9 : Int32) (s0 : Int32) (S : JS) (Q : Int32 → JS → Prop) : Prop :=
  wX12_year_131 X43 X102 l0 l3 l4 l5 l8 l9 0 s0 S Q
set_option maxRecDepth 20000 in
theorem tX12_year_130 {Q : Int32 → JS → Prop} {X43 : Nat → Int32 → Int32 → Int32 → JS → Prop} {X102 : Nat → Int32 → Int32 → Int32 → Int32 → Int32 → Int32 → JS → Prop} (d : Nat) (hd : 6 ≤ d) (hX43 : ∀ l0 l3 l4 l5 S, X43 l0 l3 l4 l5 S → jLf (jCall jmt jbud d) jbud (fun j => (jmt j).rk) none mX12_year (jqI Q) (43, [some (.ref l0), none, none, some (.int l3), some (.int l4), some (.int l5), none, none, none, none], [], S, 0, 0)) (hX102 : ∀ l0 l3 l4 l5 l7 l8 l9 S, X102 l0 l3 l4 l5 l7 l8 l9 S → jLf (jCall jmt jbud d) jbud (fun j => (jmt j).rk) none mX12_year (jqI Q) (102, [some (.ref l0), none, none, some (.int l3), some (.int l4), some (.int l5), none, some (.int l7), some (.int l8), some (.int l9)], [], S, 0, 0)) {l0 : Nat} {l3 : Int32} {l4 : Int32} {l5 : Int32} {l8 : Int32} {l9 : Int32} {s0 : Int32} {S : JS} (h : wX12_year_130 X43 X102 l0 l3 l4 l5 l8 l9 s0 S Q) : jLf (jCall jmt jbud d) jbud (fun j => (jmt j).rk) none mX12_year (jqI Q) (130, [some (.ref l0), none, none, some (.int l3), some (.int l4), some (.int l5), none, none, some (.int l8), some (.int l9)], [.int s0], S, 0, 0) := by
  have hc := jCall_mono jmt jbud d
  unfold wX12_year_130 at h
  refine jLf.bk hc 1 [] [some (.ref l0), none, none, some (.int l3), some (.int l4), some (.int l5), none, none, some (.int l8), some (.int l9)] [.int 0, .int s0] S rfl rfl rfl trivial ?_
  exact tX12_year_131 d hd hX43 hX102 h
def bX12_year_102  (X43 : Nat → Int32 → Int32 → Int32 → JS → Prop) (X102 : Nat → Int32 → Int32 → Int32 → Int32 → Int32 → Int32 → JS → Prop) (l0 : Nat) (l3 : Int32) (l4 : Int32) (l5 : Int32) (l7 : Int32) (l8 : Int32) (l9 : Int32) (S : JS) (Q : Int32 → JS → Prop) : Prop :=
  jA S l0 12 ∧ (wX12_rocks l0 S (fun r36 S35 => (r36 ≤ l9 → wX12_year_141 X43 l0 l4 l5 l8 S35 Q) ∧ (¬ (r36 ≤ l9) → (l7 < 0 → wX12_year_141 X43 l0 l4 l5 l8 S35 Q) ∧ (¬ (l7 < 0) → (l9 = l3 → wX12_year_130 X43 X102 l0 l3 l4 l5 l8 l9 l7 S35 Q) ∧ (¬ l9 = l3 → jA S35 l0 12 ∧ (¬ jR S35 l0 33 = none ∧ (jA S35 (jr S35 l0 33) 13 ∧ (vp_in (((9 : Int32) * l5) + l3) (jZ S35 (jr S35 l0 33)) ∧ (wX12_is (jI S35 (jr S35 l0 33) (((9 : Int32) * l5) + l3).toNatClampNeg) l9 S35 (fun r52 S51 => (r52 = 0 → wX12_year_130 X43 X102 l0 l3 l4 l5 l8 l9 l7 S51 Q) ∧ (¬ r52 = 0 → jA S51 l0 12 ∧ (wX12_tells l0 1 l3 l5 l9 S51 (fun r54 S53 => wX12_year_131 X43 X102 l0 l3 l4 l5 l8 l9 r54 l7 S53 Q)))))))))))))
set_option maxRecDepth 20000 in
theorem uX12_year_102 {Q : Int32 → JS → Prop} {X43 : Nat → Int32 → Int32 → Int32 → JS → Prop} (d : Nat) (hd : 6 ≤ d) (hX43 : ∀ l0 l3 l4 l5 S, X43 l0 l3 l4 l5 S → jLf (jCall jmt jbud d) jbud (fun j => (jmt j).rk) none mX12_year (jqI Q) (43, [some (.ref l0), none, none, some (.int l3), some (.int l4), some (.int l5), none, none, none, none], [], S, 0, 0)) {X102 : Nat → Int32 → Int32 → Int32 → Int32 → Int32 → Int32 → JS → Prop} (hX102 : ∀ l0 l3 l4 l5 l7 l8 l9 S, X102 l0 l3 l4 l5 l7 l8 l9 S → jLf (jCall jmt jbud d) jbud (fun j => (jmt j).rk) none mX12_year (jqI Q) (102, [some (.ref l0), none, none, some (.int l3), some (.int l4), some (.int l5), none, some (.int l7), some (.int l8), some (.int l9)], [], S, 0, 0)) {l0 : Nat} {l3 : Int32} {l4 : Int32} {l5 : Int32} {l7 : Int32} {l8 : Int32} {l9 : Int32} {S : JS} (h : bX12_year_102 X43 X102 l0 l3 l4 l5 l7 l8 l9 S Q) : jLf (jCall jmt jbud d) jbud (fun j => (jmt j).rk) none mX12_year (jqI Q) (102, [some (.ref l0), none, none, some (.int l3), some (.int l4), some (.int l5), none, some (.int l7), some (.int l8), some (.int l9)], [], S, 0, 0) := by
  have hc := jCall_mono jmt jbud d
  unfold bX12_year_102 at h
  refine jLf.bk hc 2 [] [some (.ref l0), none, none, some (.int l3), some (.int l4), some (.int l5), none, some (.int l7), some (.int l8), some (.int l9)] [.ref l0, .int l9] S rfl rfl rfl trivial ?_
  obtain ⟨g37, h⟩ := h
  refine jLf.inv hc _ rfl (gs := [jA S l0 12, (([.int l9] : List Value).map fun v => v.category).sum ≤ 8, 0 ≤ 0, 0 ≤ 0]) (k := 154) (args := [.ref l0]) (r := [.int l9]) (a := 0) (b := 0) rfl ⟨g37, Nat.le_of_ble_eq_true rfl, Nat.zero_le _, Nat.zero_le _⟩ (vX12_rocks d (by omega) h) ?_
  rintro v S35 ⟨r36, rfl, h⟩
  show jLf (jCall jmt jbud d) jbud (fun j => (jmt j).rk) none mX12_year (jqI Q) (105, [some (.ref l0), none, none, some (.int l3), some (.int l4), some (.int l5), none, some (.int l7), some (.int l8), some (.int l9)], [.int r36, .int l9], S35, 0, 0)
  refine jLf.two hc _ rfl (gs := []) (p1 := r36 ≤ l9) (p2 := ¬ (r36 ≤ l9)) (c1 := (141, [some (.ref l0), none, none, some (.int l3), some (.int l4), some (.int l5), none, some (.int l7), some (.int l8), some (.int l9)], [], S35, 0, 0)) (c2 := (106, [some (.ref l0), none, none, some (.int l3), some (.int l4), some (.int l5), none, some (.int l7), some (.int l8), some (.int l9)], [], S35, 0, 0)) rfl trivial (fun hz => ?_) (fun hz => ?_)
  · have h := h.1 hz
    refine jLf.sub [some (.ref l0), none, none, none, some (.int l4), some (.int l5), none, none, some (.int l8), none] (jle_same (jle_same (jle_same (jle_none (jle_same (jle_same (jle_same (jle_none (jle_same (jle_none (jle_nil _))))))))))) ?_
    exact tX12_year_141 d hd hX43 h
  · have h := h.2 hz
    refine jLf.bk hc 1 [] [some (.ref l0), none, none, some (.int l3), some (.int l4), some (.int l5), none, some (.int l7), some (.int l8), some (.int l9)] [.int l7] S35 rfl rfl rfl trivial ?_
    refine jLf.two hc _ rfl (gs := []) (p1 := l7 < 0) (p2 := ¬ (l7 < 0)) (c1 := (141, [some (.ref l0), none, none, some (.int l3), some (.int l4), some (.int l5), none, some (.int l7), some (.int l8), some (.int l9)], [], S35, 0, 0)) (c2 := (108, [some (.ref l0), none, none, some (.int l3), some (.int l4), some (.int l5), none, some (.int l7), some (.int l8), some (.int l9)], [], S35, 0, 0)) rfl trivial (fun hz => ?_) (fun hz => ?_)
    · have h := h.1 hz
      refine jLf.sub [some (.ref l0), none, none, none, some (.int l4), some (.int l5), none, none, some (.int l8), none] (jle_same (jle_same (jle_same (jle_none (jle_same (jle_same (jle_same (jle_none (jle_same (jle_none (jle_nil _))))))))))) ?_
      exact tX12_year_141 d hd hX43 h
    · have h := h.2 hz
      refine jLf.bk hc 3 [] [some (.ref l0), none, none, some (.int l3), some (.int l4), some (.int l5), none, some (.int l7), some (.int l8), some (.int l9)] [.int l3, .int l9, .int l7] S35 rfl rfl rfl trivial ?_
      refine jLf.two hc _ rfl (gs := []) (p1 := l9 = l3) (p2 := ¬ (l9 = l3)) (c1 := (130, [some (.ref l0), none, none, some (.int l3), some (.int l4), some (.int l5), none, some (.int l7), some (.int l8), some (.int l9)], [.int l7], S35, 0, 0)) (c2 := (112, [some (.ref l0), none, none, some (.int l3), some (.int l4), some (.int l5), none, some (.int l7), some (.int l8), some (.int l9)], [.int l7], S35, 0, 0)) rfl trivial (fun hz => ?_) (fun hz => ?_)
      · have h := h.1 hz
        refine jLf.sub [some (.ref l0), none, none, some (.int l3), some (.int l4), some (.int l5), none, none, some (.int l8), some (.int l9)] (jle_same (jle_same (jle_same (jle_same (jle_same (jle_same (jle_same (jle_none (jle_same (jle_same (jle_nil _))))))))))) ?_
        exact tX12_year_130 d hd hX43 hX102 h
      · have h := h.2 hz
        obtain ⟨g47, g48, g49, g50, h⟩ := h
        refine jLf.bk hc 9 [jA S35 l0 12, ¬ jR S35 l0 33 = none, jA S35 (jr S35 l0 33) 13, vp_in (((9 : Int32) * l5) + l3) (jZ S35 (jr S35 l0 33))] [some (.ref l0), none, none, some (.int l3), some (.int l4), some (.int l5), none, some (.int l7), some (.int l8), some (.int l9)] [.int l9, .int (jI S35 (jr S35 l0 33) (((9 : Int32) * l5) + l3).toNatClampNeg), .int l7] S35 rfl rfl rfl ⟨g47, g48, g49, g50⟩ ?_
        refine jLf.inv hc _ rfl (gs := [2 ≤ ([.int l9, .int (jI S35 (jr S35 l0 33) (((9 : Int32) * l5) + l3).toNatClampNeg), .int l7] : List Value).length, (([.int l7] : List Value).map fun v => v.category).sum ≤ 8, 0 ≤ 0, 0 ≤ 0]) (k := 149) (args := [.int (jI S35 (jr S35 l0 33) (((9 : Int32) * l5) + l3).toNatClampNeg), .int l9]) (r := [.int l7]) (a := 0) (b := 0) rfl ⟨Nat.le_of_ble_eq_true rfl, Nat.le_of_ble_eq_true rfl, Nat.zero_le _, Nat.zero_le _⟩ (vX12_is d (by omega) h) ?_
        rintro v S51 ⟨r52, rfl, h⟩
        show jLf (jCall jmt jbud d) jbud (fun j => (jmt j).rk) none mX12_year (jqI Q) (122, [some (.ref l0), none, none, some (.int l3), some (.int l4), some (.int l5), none, some (.int l7), some (.int l8), some (.int l9)], [.int r52, .int l7], S51, 0, 0)
        refine jLf.two hc _ rfl (gs := []) (p1 := r52 = 0) (p2 := ¬ (r52 = 0)) (c1 := (130, [some (.ref l0), none, none, some (.int l3), some (.int l4), some (.int l5), none, some (.int l7), some (.int l8), some (.int l9)], [.int l7], S51, 0, 0)) (c2 := (123, [some (.ref l0), none, none, some (.int l3), some (.int l4), some (.int l5), none, some (.int l7), some (.int l8), some (.int l9)], [.int l7], S51, 0, 0)) rfl trivial (fun hz => ?_) (fun hz => ?_)
        · have h := h.1 hz
          refine jLf.sub [some (.ref l0), none, none, some (.int l3), some (.int l4), some (.int l5), none, none, some (.int l8), some (.int l9)] (jle_same (jle_same (jle_same (jle_same (jle_same (jle_same (jle_same (jle_none (jle_same (jle_same (jle_nil _))))))))))) ?_
          exact tX12_year_130 d hd hX43 hX102 h
        · have h := h.2 hz
          refine jLf.bk hc 5 [] [some (.ref l0), none, none, some (.int l3), some (.int l4), some (.int l5), none, some (.int l7), some (.int l8), some (.int l9)] [.int l9, .int l5, .int l3, .int 1, .ref l0, .int l7] S51 rfl rfl rfl trivial ?_
          obtain ⟨g55, h⟩ := h
          refine jLf.inv hc _ rfl (gs := [jA S51 l0 12, (([.int l7] : List Value).map fun v => v.category).sum ≤ 8, 0 ≤ 0, 0 ≤ 0]) (k := 195) (args := [.ref l0, .int 1, .int l3, .int l5, .int l9]) (r := [.int l7]) (a := 0) (b := 0) rfl ⟨g55, Nat.le_of_ble_eq_true rfl, Nat.zero_le _, Nat.zero_le _⟩ (vX12_tells d (by omega) h) ?_
          rintro v S53 ⟨r54, rfl, h⟩
          show jLf (jCall jmt jbud d) jbud (fun j => (jmt j).rk) none mX12_year (jqI Q) (129, [some (.ref l0), none, none, some (.int l3), some (.int l4), some (.int l5), none, some (.int l7), some (.int l8), some (.int l9)], [.int r54, .int l7], S53, 0, 0)
          refine jLf.one hc _ rfl (gs := []) (c := (131, [some (.ref l0), none, none, some (.int l3), some (.int l4), some (.int l5), none, some (.int l7), some (.int l8), some (.int l9)], [.int r54, .int l7], S53, 0, 0)) rfl trivial ?_
          refine jLf.sub [some (.ref l0), none, none, some (.int l3), some (.int l4), some (.int l5), none, none, some (.int l8), some (.int l9)] (jle_same (jle_same (jle_same (jle_same (jle_same (jle_same (jle_same (jle_none (jle_same (jle_same (jle_nil _))))))))))) ?_
          exact tX12_year_131 d hd hX43 hX102 h
def wX12_year_102  (X43 : Nat → Int32 → Int32 → Int32 → JS → Prop) (l0 : Nat) (l3 : Int32) (l4 : Int32) (l5 : Int32) (l7 : Int32) (l8 : Int32) (l9 : Int32) (S : JS) (Q : Int32 → JS → Prop) : Prop :=
  jLoop (fun (X102 : Nat × Int32 × Int32 × Int32 × Int32 × Int32 × Int32 × JS → Prop) q => bX12_year_102 X43 (fun l0 l3 l4 l5 l7 l8 l9 S => X102 (l0, l3, l4, l5, l7, l8, l9, S)) q.1 q.2.1 q.2.2.1 q.2.2.2.1 q.2.2.2.2.1 q.2.2.2.2.2.1 q.2.2.2.2.2.2.1 q.2.2.2.2.2.2.2 Q) (l0, l3, l4, l5, l7, l8, l9, S)
set_option maxRecDepth 20000 in
theorem tX12_year_102 {Q : Int32 → JS → Prop} {X43 : Nat → Int32 → Int32 → Int32 → JS → Prop} (d : Nat) (hd : 6 ≤ d) (hX43 : ∀ l0 l3 l4 l5 S, X43 l0 l3 l4 l5 S → jLf (jCall jmt jbud d) jbud (fun j => (jmt j).rk) none mX12_year (jqI Q) (43, [some (.ref l0), none, none, some (.int l3), some (.int l4), some (.int l5), none, none, none, none], [], S, 0, 0)) {l0 : Nat} {l3 : Int32} {l4 : Int32} {l5 : Int32} {l7 : Int32} {l8 : Int32} {l9 : Int32} {S : JS} (h : wX12_year_102 X43 l0 l3 l4 l5 l7 l8 l9 S Q) : jLf (jCall jmt jbud d) jbud (fun j => (jmt j).rk) none mX12_year (jqI Q) (102, [some (.ref l0), none, none, some (.int l3), some (.int l4), some (.int l5), none, some (.int l7), some (.int l8), some (.int l9)], [], S, 0, 0) := by
  have := h (fun q : Nat × Int32 × Int32 × Int32 × Int32 × Int32 × Int32 × JS => jLf (jCall jmt jbud d) jbud (fun j => (jmt j).rk) none mX12_year (jqI Q) (102, [some (.ref (q.1)), none, none, some (.int (q.2.1)), some (.int (q.2.2.1)), some (.int (q.2.2.2.1)), none, some (.int (q.2.2.2.2.1)), some (.int (q.2.2.2.2.2.1)), some (.int (q.2.2.2.2.2.2.1))], [], q.2.2.2.2.2.2.2, 0, 0)) (fun q R hb hR => uX12_year_102 d hd hX43 (fun _ _ _ _ _ _ _ _ => hR _) hb)
  exact this
def wX12_year_77  (X43 : Nat → Int32 → Int32 → Int32 → JS → Prop) (X50 : Nat → Int32 → Int32 → Int32 → Int32 → Int32 → JS → Prop) (l0 : Nat) (l3 : Int32) (l4 : Int32) (l5 : Int32) (l7 : Int32) (s0 : Int32) (s1 : Int32) (S : JS) (Q : Int32 → JS → Prop) : Prop :=
  ∀ x56 : Int32, x56 = (s1 + s0) → (∀ x57 : Int32, x57 = (l7 + 1) → (X50 l0 l3 l4 l5 x56 x57 S))
set_option maxRecDepth 20000 in
theorem tX12_year_77 {Q : Int32 → JS → Prop} {X43 : Nat → Int32 → Int32 → Int32 → JS → Prop} {X50 : Nat → Int32 → Int32 → Int32 → Int32 → Int32 → JS → Prop} (d : Nat) (hd : 6 ≤ d) (hX43 : ∀ l0 l3 l4 l5 S, X43 l0 l3 l4 l5 S → jLf (jCall jmt jbud d) jbud (fun j => (jmt j).rk) none mX12_year (jqI Q) (43, [some (.ref l0), none, none, some (.int l3), some (.int l4), some (.int l5), none, none, none, none], [], S, 0, 0)) (hX50 : ∀ l0 l3 l4 l5 l6 l7 S, X50 l0 l3 l4 l5 l6 l7 S → jLf (jCall jmt jbud d) jbud (fun j => (jmt j).rk) none mX12_year (jqI Q) (50, [some (.ref l0), none, none, some (.int l3), some (.int l4), some (.int l5), some (.int l6), some (.int l7), none, none], [], S, 0, 0)) {l0 : Nat} {l3 : Int32} {l4 : Int32} {l5 : Int32} {l7 : Int32} {s0 : Int32} {s1 : Int32} {S : JS} (h : wX12_year_77 X43 X50 l0 l3 l4 l5 l7 s0 s1 S Q) : jLf (jCall jmt jbud d) jbud (fun j => (jmt j).rk) none mX12_year (jqI Q) (77, [some (.ref l0), none, none, some (.int l3), some (.int l4), some (.int l5), none, some (.int l7), none, none], [.int s0, .int s1], S, 0, 0) := by
  have hc := jCall_mono jmt jbud d
  unfold wX12_year_77 at h
  refine jLf.bk hc 2 [] [some (.ref l0), none, none, some (.int l3), some (.int l4), some (.int l5), some (.int (s1 + s0)), some (.int l7), none, none] [] S rfl rfl rfl trivial ?_
  generalize ex56 : (s1 + s0 : Int32) = x56
  have h := h x56 ex56.symm
  refine jLf.bk hc 1 [] [some (.ref l0), none, none, some (.int l3), some (.int l4), some (.int l5), some (.int x56), some (.int (l7 + 1)), none, none] [] S rfl rfl rfl trivial ?_
  generalize ex57 : (l7 + 1 : Int32) = x57
  have h := h x57 ex57.symm
  refine jLf.one hc _ rfl (gs := []) (c := (50, [some (.ref l0), none, none, some (.int l3), some (.int l4), some (.int l5), some (.int x56), some (.int x57), none, none], [], S, 0, 0)) rfl trivial ?_
  exact hX50 _ _ _ _ _ _ _ h
def wX12_year_76  (X43 : Nat → Int32 → Int32 → Int32 → JS → Prop) (X50 : Nat → Int32 → Int32 → Int32 → Int32 → Int32 → JS → Prop) (l0 : Nat) (l3 : Int32) (l4 : Int32) (l5 : Int32) (l7 : Int32) (s0 : Int32) (S : JS) (Q : Int32 → JS → Prop) : Prop :=
  wX12_year_77 X43 X50 l0 l3 l4 l5 l7 0 s0 S Q
set_option maxRecDepth 20000 in
theorem tX12_year_76 {Q : Int32 → JS → Prop} {X43 : Nat → Int32 → Int32 → Int32 → JS → Prop} {X50 : Nat → Int32 → Int32 → Int32 → Int32 → Int32 → JS → Prop} (d : Nat) (hd : 6 ≤ d) (hX43 : ∀ l0 l3 l4 l5 S, X43 l0 l3 l4 l5 S → jLf (jCall jmt jbud d) jbud (fun j => (jmt j).rk) none mX12_year (jqI Q) (43, [some (.ref l0), none, none, some (.int l3), some (.int l4), some (.int l5), none, none, none, none], [], S, 0, 0)) (hX50 : ∀ l0 l3 l4 l5 l6 l7 S, X50 l0 l3 l4 l5 l6 l7 S → jLf (jCall jmt jbud d) jbud (fun j => (jmt j).rk) none mX12_year (jqI Q) (50, [some (.ref l0), none, none, some (.int l3), some (.int l4), some (.int l5), some (.int l6), some (.int l7), none, none], [], S, 0, 0)) {l0 : Nat} {l3 : Int32} {l4 : Int32} {l5 : Int32} {l7 : Int32} {s0 : Int32} {S : JS} (h : wX12_year_76 X43 X50 l0 l3 l4 l5 l7 s0 S Q) : jLf (jCall jmt jbud d) jbud (fun j => (jmt j).rk) none mX12_year (jqI Q) (76, [some (.ref l0), none, none, some (.int l3), some (.int l4), some (.int l5), none, some (.int l7), none, none], [.int s0], S, 0, 0) := by
  have hc := jCall_mono jmt jbud d
  unfold wX12_year_76 at h
  refine jLf.bk hc 1 [] [some (.ref l0), none, none, some (.int l3), some (.int l4), some (.int l5), none, some (.int l7), none, none] [.int 0, .int s0] S rfl rfl rfl trivial ?_
  exact tX12_year_77 d hd hX43 hX50 h
def bX12_year_50  (X43 : Nat → Int32 → Int32 → Int32 → JS → Prop) (X50 : Nat → Int32 → Int32 → Int32 → Int32 → Int32 → JS → Prop) (l0 : Nat) (l3 : Int32) (l4 : Int32) (l5 : Int32) (l6 : Int32) (l7 : Int32) (S : JS) (Q : Int32 → JS → Prop) : Prop :=
  jA S l0 12 ∧ (wX12_rocks l0 S (fun r27 S26 => (r27 ≤ l7 → jA S26 l0 12 ∧ (¬ (1000003 : Int64) = 0 ∧ (∀ S31 : JS, S31 = uJ S26 l0 41 ((((jJ S26 l0 41) * (1103 : Int64)) + (12345 : Int64)) - (((jJ S26 l0 41) * (1103 : Int64)) + (12345 : Int64)) / (1000003 : Int64) * (1000003 : Int64)) → (jA S31 l0 12 ∧ (¬ (l6.toInt64) = 0 ∧ (∀ x34 : Int32, x34 = (((jJ S31 l0 41) - (jJ S31 l0 41) / (l6.toInt64) * (l6.toInt64)).toInt32) → (wX12_year_102 X43 l0 l3 l4 l5 x34 l3 0 S31 Q))))))) ∧ (¬ (r27 ≤ l7) → (l7 = l3 → wX12_year_76 X43 X50 l0 l3 l4 l5 l7 l6 S26 Q) ∧ (¬ l7 = l3 → jA S26 l0 12 ∧ (¬ jR S26 l0 33 = none ∧ (jA S26 (jr S26 l0 33) 13 ∧ (vp_in (((9 : Int32) * l5) + l3) (jZ S26 (jr S26 l0 33)) ∧ (wX12_is (jI S26 (jr S26 l0 33) (((9 : Int32) * l5) + l3).toNatClampNeg) l7 S26 (fun r63 S62 => (r63 = 0 → wX12_year_76 X43 X50 l0 l3 l4 l5 l7 l6 S62 Q) ∧ (¬ r63 = 0 → jA S62 l0 12 ∧ (wX12_tells l0 1 l3 l5 l7 S62 (fun r65 S64 => wX12_year_77 X43 X50 l0 l3 l4 l5 l7 r65 l6 S64 Q))))))))))))
set_option maxRecDepth 20000 in
theorem uX12_year_50 {Q : Int32 → JS → Prop} {X43 : Nat → Int32 → Int32 → Int32 → JS → Prop} (d : Nat) (hd : 6 ≤ d) (hX43 : ∀ l0 l3 l4 l5 S, X43 l0 l3 l4 l5 S → jLf (jCall jmt jbud d) jbud (fun j => (jmt j).rk) none mX12_year (jqI Q) (43, [some (.ref l0), none, none, some (.int l3), some (.int l4), some (.int l5), none, none, none, none], [], S, 0, 0)) {X50 : Nat → Int32 → Int32 → Int32 → Int32 → Int32 → JS → Prop} (hX50 : ∀ l0 l3 l4 l5 l6 l7 S, X50 l0 l3 l4 l5 l6 l7 S → jLf (jCall jmt jbud d) jbud (fun j => (jmt j).rk) none mX12_year (jqI Q) (50, [some (.ref l0), none, none, some (.int l3), some (.int l4), some (.int l5), some (.int l6), some (.int l7), none, none], [], S, 0, 0)) {l0 : Nat} {l3 : Int32} {l4 : Int32} {l5 : Int32} {l6 : Int32} {l7 : Int32} {S : JS} (h : bX12_year_50 X43 X50 l0 l3 l4 l5 l6 l7 S Q) : jLf (jCall jmt jbud d) jbud (fun j => (jmt j).rk) none mX12_year (jqI Q) (50, [some (.ref l0), none, none, some (.int l3), some (.int l4), some (.int l5), some (.int l6), some (.int l7), none, none], [], S, 0, 0) := by
  have hc := jCall_mono jmt jbud d
  unfold bX12_year_50 at h
  refine jLf.bk hc 2 [] [some (.ref l0), none, none, some (.int l3), some (.int l4), some (.int l5), some (.int l6), some (.int l7), none, none] [.ref l0, .int l7] S rfl rfl rfl trivial ?_
  obtain ⟨g28, h⟩ := h
  refine jLf.inv hc _ rfl (gs := [jA S l0 12, (([.int l7] : List Value).map fun v => v.category).sum ≤ 8, 0 ≤ 0, 0 ≤ 0]) (k := 154) (args := [.ref l0]) (r := [.int l7]) (a := 0) (b := 0) rfl ⟨g28, Nat.le_of_ble_eq_true rfl, Nat.zero_le _, Nat.zero_le _⟩ (vX12_rocks d (by omega) h) ?_
  rintro v S26 ⟨r27, rfl, h⟩
  show jLf (jCall jmt jbud d) jbud (fun j => (jmt j).rk) none mX12_year (jqI Q) (53, [some (.ref l0), none, none, some (.int l3), some (.int l4), some (.int l5), some (.int l6), some (.int l7), none, none], [.int r27, .int l7], S26, 0, 0)
  refine jLf.two hc _ rfl (gs := []) (p1 := r27 ≤ l7) (p2 := ¬ (r27 ≤ l7)) (c1 := (81, [some (.ref l0), none, none, some (.int l3), some (.int l4), some (.int l5), some (.int l6), some (.int l7), none, none], [], S26, 0, 0)) (c2 := (54, [some (.ref l0), none, none, some (.int l3), some (.int l4), some (.int l5), some (.int l6), some (.int l7), none, none], [], S26, 0, 0)) rfl trivial (fun hz => ?_) (fun hz => ?_)
  · have h := h.1 hz
    obtain ⟨g29, g30, h⟩ := h
    refine jLf.bk hc 10 [jA S26 l0 12, ¬ (1000003 : Int64) = 0, jA S26 l0 12] [some (.ref l0), none, none, some (.int l3), some (.int l4), some (.int l5), some (.int l6), some (.int l7), none, none] [] (uJ S26 l0 41 ((((jJ S26 l0 41) * (1103 : Int64)) + (12345 : Int64)) - (((jJ S26 l0 41) * (1103 : Int64)) + (12345 : Int64)) / (1000003 : Int64) * (1000003 : Int64))) rfl rfl rfl ⟨g29, g30, g29⟩ ?_
    generalize eS31 : uJ S26 l0 41 ((((jJ S26 l0 41) * (1103 : Int64)) + (12345 : Int64)) - (((jJ S26 l0 41) * (1103 : Int64)) + (12345 : Int64)) / (1000003 : Int64) * (1000003 : Int64)) = S31
    have h := h S31 eS31.symm
    obtain ⟨g32, g33, h⟩ := h
    refine jLf.bk hc 7 [jA S31 l0 12, ¬ (l6.toInt64) = 0] [some (.ref l0), none, none, some (.int l3), some (.int l4), some (.int l5), some (.int l6), some (.int (((jJ S31 l0 41) - (jJ S31 l0 41) / (l6.toInt64) * (l6.toInt64)).toInt32)), none, none] [] S31 rfl rfl rfl ⟨g32, g33⟩ ?_
    generalize ex34 : (((jJ S31 l0 41) - (jJ S31 l0 41) / (l6.toInt64) * (l6.toInt64)).toInt32 : Int32) = x34
    have h := h x34 ex34.symm
    refine jLf.bk hc 4 [] [some (.ref l0), none, none, some (.int l3), some (.int l4), some (.int l5), some (.int l6), some (.int x34), some (.int l3), some (.int 0)] [] S31 rfl rfl rfl trivial ?_
    refine jLf.sub [some (.ref l0), none, none, some (.int l3), some (.int l4), some (.int l5), none, some (.int x34), some (.int l3), some (.int 0)] (jle_same (jle_same (jle_same (jle_same (jle_same (jle_same (jle_none (jle_same (jle_same (jle_same (jle_nil _))))))))))) ?_
    exact tX12_year_102 d hd hX43 h
  · have h := h.2 hz
    refine jLf.bk hc 3 [] [some (.ref l0), none, none, some (.int l3), some (.int l4), some (.int l5), some (.int l6), some (.int l7), none, none] [.int l3, .int l7, .int l6] S26 rfl rfl rfl trivial ?_
    refine jLf.two hc _ rfl (gs := []) (p1 := l7 = l3) (p2 := ¬ (l7 = l3)) (c1 := (76, [some (.ref l0), none, none, some (.int l3), some (.int l4), some (.int l5), some (.int l6), some (.int l7), none, none], [.int l6], S26, 0, 0)) (c2 := (58, [some (.ref l0), none, none, some (.int l3), some (.int l4), some (.int l5), some (.int l6), some (.int l7), none, none], [.int l6], S26, 0, 0)) rfl trivial (fun hz => ?_) (fun hz => ?_)
    · have h := h.1 hz
      refine jLf.sub [some (.ref l0), none, none, some (.int l3), some (.int l4), some (.int l5), none, some (.int l7), none, none] (jle_same (jle_same (jle_same (jle_same (jle_same (jle_same (jle_none (jle_same (jle_same (jle_same (jle_nil _))))))))))) ?_
      exact tX12_year_76 d hd hX43 hX50 h
    · have h := h.2 hz
      obtain ⟨g58, g59, g60, g61, h⟩ := h
      refine jLf.bk hc 9 [jA S26 l0 12, ¬ jR S26 l0 33 = none, jA S26 (jr S26 l0 33) 13, vp_in (((9 : Int32) * l5) + l3) (jZ S26 (jr S26 l0 33))] [some (.ref l0), none, none, some (.int l3), some (.int l4), some (.int l5), some (.int l6), some (.int l7), none, none] [.int l7, .int (jI S26 (jr S26 l0 33) (((9 : Int32) * l5) + l3).toNatClampNeg), .int l6] S26 rfl rfl rfl ⟨g58, g59, g60, g61⟩ ?_
      refine jLf.inv hc _ rfl (gs := [2 ≤ ([.int l7, .int (jI S26 (jr S26 l0 33) (((9 : Int32) * l5) + l3).toNatClampNeg), .int l6] : List Value).length, (([.int l6] : List Value).map fun v => v.category).sum ≤ 8, 0 ≤ 0, 0 ≤ 0]) (k := 149) (args := [.int (jI S26 (jr S26 l0 33) (((9 : Int32) * l5) + l3).toNatClampNeg), .int l7]) (r := [.int l6]) (a := 0) (b := 0) rfl ⟨Nat.le_of_ble_eq_true rfl, Nat.le_of_ble_eq_true rfl, Nat.zero_le _, Nat.zero_le _⟩ (vX12_is d (by omega) h) ?_
      rintro v S62 ⟨r63, rfl, h⟩
      show jLf (jCall jmt jbud d) jbud (fun j => (jmt j).rk) none mX12_year (jqI Q) (68, [some (.ref l0), none, none, some (.int l3), some (.int l4), some (.int l5), some (.int l6), some (.int l7), none, none], [.int r63, .int l6], S62, 0, 0)
      refine jLf.two hc _ rfl (gs := []) (p1 := r63 = 0) (p2 := ¬ (r63 = 0)) (c1 := (76, [some (.ref l0), none, none, some (.int l3), some (.int l4), some (.int l5), some (.int l6), some (.int l7), none, none], [.int l6], S62, 0, 0)) (c2 := (69, [some (.ref l0), none, none, some (.int l3), some (.int l4), some (.int l5), some (.int l6), some (.int l7), none, none], [.int l6], S62, 0, 0)) rfl trivial (fun hz => ?_) (fun hz => ?_)
      · have h := h.1 hz
        refine jLf.sub [some (.ref l0), none, none, some (.int l3), some (.int l4), some (.int l5), none, some (.int l7), none, none] (jle_same (jle_same (jle_same (jle_same (jle_same (jle_same (jle_none (jle_same (jle_same (jle_same (jle_nil _))))))))))) ?_
        exact tX12_year_76 d hd hX43 hX50 h
      · have h := h.2 hz
        refine jLf.bk hc 5 [] [some (.ref l0), none, none, some (.int l3), some (.int l4), some (.int l5), some (.int l6), some (.int l7), none, none] [.int l7, .int l5, .int l3, .int 1, .ref l0, .int l6] S62 rfl rfl rfl trivial ?_
        obtain ⟨g66, h⟩ := h
        refine jLf.inv hc _ rfl (gs := [jA S62 l0 12, (([.int l6] : List Value).map fun v => v.category).sum ≤ 8, 0 ≤ 0, 0 ≤ 0]) (k := 195) (args := [.ref l0, .int 1, .int l3, .int l5, .int l7]) (r := [.int l6]) (a := 0) (b := 0) rfl ⟨g66, Nat.le_of_ble_eq_true rfl, Nat.zero_le _, Nat.zero_le _⟩ (vX12_tells d (by omega) h) ?_
        rintro v S64 ⟨r65, rfl, h⟩
        show jLf (jCall jmt jbud d) jbud (fun j => (jmt j).rk) none mX12_year (jqI Q) (75, [some (.ref l0), none, none, some (.int l3), some (.int l4), some (.int l5), some (.int l6), some (.int l7), none, none], [.int r65, .int l6], S64, 0, 0)
        refine jLf.one hc _ rfl (gs := []) (c := (77, [some (.ref l0), none, none, some (.int l3), some (.int l4), some (.int l5), some (.int l6), some (.int l7), none, none], [.int r65, .int l6], S64, 0, 0)) rfl trivial ?_
        refine jLf.sub [some (.ref l0), none, none, some (.int l3), some (.int l4), some (.int l5), none, some (.int l7), none, none] (jle_same (jle_same (jle_same (jle_same (jle_same (jle_same (jle_none (jle_same (jle_same (jle_same (jle_nil _))))))))))) ?_
        exact tX12_year_77 d hd hX43 hX50 h
def wX12_year_50  (X43 : Nat → Int32 → Int32 → Int32 → JS → Prop) (l0 : Nat) (l3 : Int32) (l4 : Int32) (l5 : Int32) (l6 : Int32) (l7 : Int32) (S : JS) (Q : Int32 → JS → Prop) : Prop :=
  jLoop (fun (X50 : Nat × Int32 × Int32 × Int32 × Int32 × Int32 × JS → Prop) q => bX12_year_50 X43 (fun l0 l3 l4 l5 l6 l7 S => X50 (l0, l3, l4, l5, l6, l7, S)) q.1 q.2.1 q.2.2.1 q.2.2.2.1 q.2.2.2.2.1 q.2.2.2.2.2.1 q.2.2.2.2.2.2 Q) (l0, l3, l4, l5, l6, l7, S)
set_option maxRecDepth 20000 in
theorem tX12_year_50 {Q : Int32 → JS → Prop} {X43 : Nat → Int32 → Int32 → Int32 → JS → Prop} (d : Nat) (hd : 6 ≤ d) (hX43 : ∀ l0 l3 l4 l5 S, X43 l0 l3 l4 l5 S → jLf (jCall jmt jbud d) jbud (fun j => (jmt j).rk) none mX12_year (jqI Q) (43, [some (.ref l0), none, none, some (.int l3), some (.int l4), some (.int l5), none, none, none, none], [], S, 0, 0)) {l0 : Nat} {l3 : Int32} {l4 : Int32} {l5 : Int32} {l6 : Int32} {l7 : Int32} {S : JS} (h : wX12_year_50 X43 l0 l3 l4 l5 l6 l7 S Q) : jLf (jCall jmt jbud d) jbud (fun j => (jmt j).rk) none mX12_year (jqI Q) (50, [some (.ref l0), none, none, some (.int l3), some (.int l4), some (.int l5), some (.int l6), some (.int l7), none, none], [], S, 0, 0) := by
  have := h (fun q : Nat × Int32 × Int32 × Int32 × Int32 × Int32 × JS => jLf (jCall jmt jbud d) jbud (fun j => (jmt j).rk) none mX12_year (jqI Q) (50, [some (.ref (q.1)), none, none, some (.int (q.2.1)), some (.int (q.2.2.1)), some (.int (q.2.2.2.1)), some (.int (q.2.2.2.2.1)), some (.int (q.2.2.2.2.2.1)), none, none], [], q.2.2.2.2.2.2, 0, 0)) (fun q R hb hR => uX12_year_50 d hd hX43 (fun _ _ _ _ _ _ _ => hR _) hb)
  exact this
def bX12_year_43   (X43 : Nat → Int32 → Int32 → Int32 → JS → Prop) (l0 : Nat) (l3 : Int32) (l4 : Int32) (l5 : Int32) (S : JS) (Q : Int32 → JS → Prop) : Prop :=
  (59 ≤ l5 → wX12_year_162 l0 l4 0 0 S Q) ∧ (¬ (59 ≤ l5) → wX12_year_50 X43 l0 l3 l4 l5 10 0 S Q)
set_option maxRecDepth 20000 in
theorem uX12_year_43 {Q : Int32 → JS → Prop}  (d : Nat) (hd : 6 ≤ d) {X43 : Nat → Int32 → Int32 → Int32 → JS → Prop} (hX43 : ∀ l0 l3 l4 l5 S, X43 l0 l3 l4 l5 S → jLf (jCall jmt jbud d) jbud (fun j => (jmt j).rk) none mX12_year (jqI Q) (43, [some (.ref l0), none, none, some (.int l3), some (.int l4), some (.int l5), none, none, none, none], [], S, 0, 0)) {l0 : Nat} {l3 : Int32} {l4 : Int32} {l5 : Int32} {S : JS} (h : bX12_year_43 X43 l0 l3 l4 l5 S Q) : jLf (jCall jmt jbud d) jbud (fun j => (jmt j).rk) none mX12_year (jqI Q) (43, [some (.ref l0), none, none, some (.int l3), some (.int l4), some (.int l5), none, none, none, none], [], S, 0, 0) := by
  have hc := jCall_mono jmt jbud d
  unfold bX12_year_43 at h
  refine jLf.bk hc 2 [] [some (.ref l0), none, none, some (.int l3), some (.int l4), some (.int l5), none, none, none, none] [.int 59, .int l5] S rfl rfl rfl trivial ?_
  refine jLf.two hc _ rfl (gs := []) (p1 := 59 ≤ l5) (p2 := ¬ (59 ≤ l5)) (c1 := (158, [some (.ref l0), none, none, some (.int l3), some (.int l4), some (.int l5), none, none, none, none], [], S, 0, 0)) (c2 := (46, [some (.ref l0), none, none, some (.int l3), some (.int l4), some (.int l5), none, none, none, none], [], S, 0, 0)) rfl trivial (fun hz => ?_) (fun hz => ?_)
  · have h := h.1 hz
    refine jLf.bk hc 4 [] [some (.ref l0), none, none, some (.int l3), some (.int l4), some (.int 0), some (.int 0), none, none, none] [] S rfl rfl rfl trivial ?_
    refine jLf.sub [some (.ref l0), none, none, none, some (.int l4), some (.int 0), some (.int 0), none, none, none] (jle_same (jle_same (jle_same (jle_none (jle_same (jle_same (jle_same (jle_same (jle_same (jle_same (jle_nil _))))))))))) ?_
    exact tX12_year_162 d hd  h
  · have h := h.2 hz
    refine jLf.bk hc 4 [] [some (.ref l0), none, none, some (.int l3), some (.int l4), some (.int l5), some (.int 10), some (.int 0), none, none] [] S rfl rfl rfl trivial ?_
    exact tX12_year_50 d hd hX43 h
def wX12_year_43   (l0 : Nat) (l3 : Int32) (l4 : Int32) (l5 : Int32) (S : JS) (Q : Int32 → JS → Prop) : Prop :=
  jLoop (fun (X43 : Nat × Int32 × Int32 × Int32 × JS → Prop) q => bX12_year_43 (fun l0 l3 l4 l5 S => X43 (l0, l3, l4, l5, S)) q.1 q.2.1 q.2.2.1 q.2.2.2.1 q.2.2.2.2 Q) (l0, l3, l4, l5, S)
set_option maxRecDepth 20000 in
theorem tX12_year_43 {Q : Int32 → JS → Prop}  (d : Nat) (hd : 6 ≤ d) {l0 : Nat} {l3 : Int32} {l4 : Int32} {l5 : Int32} {S : JS} (h : wX12_year_43 l0 l3 l4 l5 S Q) : jLf (jCall jmt jbud d) jbud (fun j => (jmt j).rk) none mX12_year (jqI Q) (43, [some (.ref l0), none, none, some (.int l3), some (.int l4), some (.int l5), none, none, none, none], [], S, 0, 0) := by
  have := h (fun q : Nat × Int32 × Int32 × Int32 × JS => jLf (jCall jmt jbud d) jbud (fun j => (jmt j).rk) none mX12_year (jqI Q) (43, [some (.ref (q.1)), none, none, some (.int (q.2.1)), some (.int (q.2.2.1)), some (.int (q.2.2.2.1)), none, none, none, none], [], q.2.2.2.2, 0, 0)) (fun q R hb hR => uX12_year_43 d hd  (fun _ _ _ _ _ => hR _) hb)
  exact this
def wX12_year  (this : Nat) (p1 : Int32) (p2 : Int32) (S : JS) (Q : Int32 → JS → Prop) : Prop :=
  jA S this 12 ∧ (∀ S2 : JS, S2 = uI S this 0 0 → (wX12_in (p1.toInt64) 0 1000000 S2 (fun r4 S3 => (¬ r4 = 0 → jA S3 this 12 ∧ (wX12_isRock this p2 S3 (fun r6 S5 => (¬ r6 = 0 → jA S5 this 12 ∧ (wX12_layOut this S5 (fun S8 => jA S8 this 12 ∧ (∀ S12 : JS, S12 = uJ S8 this 41 (p1.toInt64) → (jA S12 this 12 ∧ (∀ S14 : JS, S14 = uI S12 this 43 1 → (∀ x15 : Int32, x15 = ((1 : Int32) <<< (p2 &&& 31)) → (jA S14 this 12 ∧ (¬ jR S14 this 42 = none ∧ (jA S14 (jr S14 this 42) 13 ∧ (vp_in (0 : Int32) (jZ S14 (jr S14 this 42)) ∧ (∀ S20 : JS, S20 = uI S14 (jr S14 this 42) (0 : Int32).toNatClampNeg p2 → (wX12_year_43 this p2 x15 0 S20 Q))))))))))))) ∧ (r6 = 0 → jA S5 this 12 ∧ (wX12_tell this (-2) S5 (fun r68 S67 => Q r68 S67)))))) ∧ (r4 = 0 → jA S3 this 12 ∧ (wX12_tell this (-1) S3 (fun r71 S70 => Q r71 S70))))))
set_option maxRecDepth 20000 in
theorem vX12_year {Q : Int32 → JS → Prop} (d : Nat) (hd : 7 ≤ d) {this : Nat} {p1 : Int32} {p2 : Int32} {S : JS} (h : wX12_year this p1 p2 S Q) : jCall jmt jbud d 227 [.ref this, .int p1, .int p2] S (jqI Q) := by
  obtain ⟨d, rfl⟩ : ∃ d2, d = d2 + 1 := ⟨d - 1, by omega⟩
  have hd : 6 ≤ d := by omega
  have hc := jCall_mono jmt jbud d
  unfold wX12_year at h
  refine ⟨Nat.le_of_ble_eq_true rfl, ?_⟩
  show jLf (jCall jmt jbud d) jbud (fun j => (jmt j).rk) none mX12_year (jqI Q) (0, [some (.ref this), some (.int p1), some (.int p2), none, none, none, none, none, none, none], [], S, 0, 0)
  obtain ⟨g1, h⟩ := h
  refine jLf.bk hc 3 [jA S this 12] [some (.ref this), some (.int p1), some (.int p2), none, none, none, none, none, none, none] [] (uI S this 0 0) rfl rfl rfl g1 ?_
  generalize eS2 : uI S this 0 0 = S2
  have h := h S2 eS2.symm
  refine jLf.bk hc 4 [] [some (.ref this), some (.int p1), some (.int p2), none, none, none, none, none, none, none] [.long 1000000, .long 0, .long (p1.toInt64)] S2 rfl rfl rfl trivial ?_
  refine jLf.inv hc _ rfl (gs := [3 ≤ ([.long 1000000, .long 0, .long (p1.toInt64)] : List Value).length, (([] : List Value).map fun v => v.category).sum ≤ 8, 0 ≤ 0, 0 ≤ 0]) (k := 148) (args := [.long (p1.toInt64), .long 0, .long 1000000]) (r := []) (a := 0) (b := 0) rfl ⟨Nat.le_of_ble_eq_true rfl, Nat.le_of_ble_eq_true rfl, Nat.zero_le _, Nat.zero_le _⟩ (vX12_in d (by omega) h) ?_
  rintro v S3 ⟨r4, rfl, h⟩
  show jLf (jCall jmt jbud d) jbud (fun j => (jmt j).rk) none mX12_year (jqI Q) (8, [some (.ref this), some (.int p1), some (.int p2), none, none, none, none, none, none, none], [.int r4], S3, 0, 0)
  refine jLf.two hc _ rfl (gs := []) (p1 := ¬ r4 = 0) (p2 := ¬ (¬ r4 = 0)) (c1 := (13, [some (.ref this), some (.int p1), some (.int p2), none, none, none, none, none, none, none], [], S3, 0, 0)) (c2 := (9, [some (.ref this), some (.int p1), some (.int p2), none, none, none, none, none, none, none], [], S3, 0, 0)) rfl trivial (fun hz => ?_) (fun hz => ?_)
  · have h := h.1 hz
    refine jLf.bk hc 2 [] [some (.ref this), some (.int p1), some (.int p2), none, none, none, none, none, none, none] [.int p2, .ref this] S3 rfl rfl rfl trivial ?_
    obtain ⟨g7, h⟩ := h
    refine jLf.inv hc _ rfl (gs := [jA S3 this 12, (([] : List Value).map fun v => v.category).sum ≤ 8, 0 ≤ 0, 0 ≤ 0]) (k := 155) (args := [.ref this, .int p2]) (r := []) (a := 0) (b := 0) rfl ⟨g7, Nat.le_of_ble_eq_true rfl, Nat.zero_le _, Nat.zero_le _⟩ (vX12_isRock d (by omega) h) ?_
    rintro v S5 ⟨r6, rfl, h⟩
    show jLf (jCall jmt jbud d) jbud (fun j => (jmt j).rk) none mX12_year (jqI Q) (16, [some (.ref this), some (.int p1), some (.int p2), none, none, none, none, none, none, none], [.int r6], S5, 0, 0)
    refine jLf.two hc _ rfl (gs := []) (p1 := ¬ r6 = 0) (p2 := ¬ (¬ r6 = 0)) (c1 := (21, [some (.ref this), some (.int p1), some (.int p2), none, none, none, none, none, none, none], [], S5, 0, 0)) (c2 := (17, [some (.ref this), some (.int p1), some (.int p2), none, none, none, none, none, none, none], [], S5, 0, 0)) rfl trivial (fun hz => ?_) (fun hz => ?_)
    · have h := h.1 hz
      refine jLf.bk hc 1 [] [some (.ref this), some (.int p1), some (.int p2), none, none, none, none, none, none, none] [.ref this] S5 rfl rfl rfl trivial ?_
      obtain ⟨g10, h⟩ := h
      refine jLf.inv hc _ rfl (gs := [jA S5 this 12, (([] : List Value).map fun v => v.category).sum ≤ 8, 0 ≤ 0, 0 ≤ 0]) (k := 210) (args := [.ref this]) (r := []) (a := 0) (b := 0) rfl ⟨g10, Nat.le_of_ble_eq_true rfl, Nat.zero_le _, Nat.zero_le _⟩ (vX12_layOut d (by omega) h) ?_
      rintro v S8 ⟨rfl, h⟩
      show jLf (jCall jmt jbud d) jbud (fun j => (jmt j).rk) none mX12_year (jqI Q) (23, [some (.ref this), some (.int p1), some (.int p2), none, none, none, none, none, none, none], [], S8, 0, 0)
      obtain ⟨g11, h⟩ := h
      refine jLf.bk hc 4 [jA S8 this 12] [some (.ref this), some (.int p1), some (.int p2), none, none, none, none, none, none, none] [] (uJ S8 this 41 (p1.toInt64)) rfl rfl rfl g11 ?_
      generalize eS12 : uJ S8 this 41 (p1.toInt64) = S12
      have h := h S12 eS12.symm
      obtain ⟨g13, h⟩ := h
      refine jLf.bk hc 3 [jA S12 this 12, jbit 1] [some (.ref this), some (.int p1), some (.int p2), none, none, none, none, none, none, none] [] (uI S12 this 43 1) rfl rfl rfl ⟨g13, (Or.inr rfl)⟩ ?_
      generalize eS14 : uI S12 this 43 1 = S14
      have h := h S14 eS14.symm
      refine jLf.bk hc 6 [] [some (.ref this), some (.int p1), some (.int p2), some (.int p2), some (.int ((1 : Int32) <<< (p2 &&& 31))), none, none, none, none, none] [] S14 rfl rfl rfl trivial ?_
      generalize ex15 : ((1 : Int32) <<< (p2 &&& 31) : Int32) = x15
      have h := h x15 ex15.symm
      obtain ⟨g16, g17, g18, g19, h⟩ := h
      refine jLf.bk hc 5 [jA S14 this 12, ¬ jR S14 this 42 = none, jA S14 (jr S14 this 42) 13, vp_in (0 : Int32) (jZ S14 (jr S14 this 42))] [some (.ref this), some (.int p1), some (.int p2), some (.int p2), some (.int x15), none, none, none, none, none] [] (uI S14 (jr S14 this 42) (0 : Int32).toNatClampNeg p2) rfl rfl rfl ⟨g16, g17, g18, g19⟩ ?_
      generalize eS20 : uI S14 (jr S14 this 42) (0 : Int32).toNatClampNeg p2 = S20
      have h := h S20 eS20.symm
      refine jLf.bk hc 2 [] [some (.ref this), some (.int p1), some (.int p2), some (.int p2), some (.int x15), some (.int 0), none, none, none, none] [] S20 rfl rfl rfl trivial ?_
      refine jLf.sub [some (.ref this), none, none, some (.int p2), some (.int x15), some (.int 0), none, none, none, none] (jle_same (jle_none (jle_none (jle_same (jle_same (jle_same (jle_same (jle_same (jle_same (jle_same (jle_nil _))))))))))) ?_
      exact tX12_year_43 d hd  h
    · have h := h.2 (Classical.not_not.mp hz)
      refine jLf.bk hc 2 [] [some (.ref this), some (.int p1), some (.int p2), none, none, none, none, none, none, none] [.int (-2), .ref this] S5 rfl rfl rfl trivial ?_
      obtain ⟨g69, h⟩ := h
      refine jLf.inv hc _ rfl (gs := [jA S5 this 12, (([] : List Value).map fun v => v.category).sum ≤ 8, 0 ≤ 0, 0 ≤ 0]) (k := 150) (args := [.ref this, .int (-2)]) (r := []) (a := 0) (b := 0) rfl ⟨g69, Nat.le_of_ble_eq_true rfl, Nat.zero_le _, Nat.zero_le _⟩ (vX12_tell d (by omega) h) ?_
      rintro v S67 ⟨r68, rfl, h⟩
      show jLf (jCall jmt jbud d) jbud (fun j => (jmt j).rk) none mX12_year (jqI Q) (20, [some (.ref this), some (.int p1), some (.int p2), none, none, none, none, none, none, none], [.int r68], S67, 0, 0)
      exact jLf.ret hc _ rfl (gs := [True]) (v := some (.int r68)) rfl trivial ⟨r68, rfl, h⟩
  · have h := h.2 (Classical.not_not.mp hz)
    refine jLf.bk hc 2 [] [some (.ref this), some (.int p1), some (.int p2), none, none, none, none, none, none, none] [.int (-1), .ref this] S3 rfl rfl rfl trivial ?_
    obtain ⟨g72, h⟩ := h
    refine jLf.inv hc _ rfl (gs := [jA S3 this 12, (([] : List Value).map fun v => v.category).sum ≤ 8, 0 ≤ 0, 0 ≤ 0]) (k := 150) (args := [.ref this, .int (-1)]) (r := []) (a := 0) (b := 0) rfl ⟨g72, Nat.le_of_ble_eq_true rfl, Nat.zero_le _, Nat.zero_le _⟩ (vX12_tell d (by omega) h) ?_
    rintro v S70 ⟨r71, rfl, h⟩
    show jLf (jCall jmt jbud d) jbud (fun j => (jmt j).rk) none mX12_year (jqI Q) (12, [some (.ref this), some (.int p1), some (.int p2), none, none, none, none, none, none, none], [.int r71], S70, 0, 0)
    exact jLf.ret hc _ rfl (gs := [True]) (v := some (.int r71)) rfl trivial ⟨r71, rfl, h⟩
def wX12_drawn  (this : Nat) (p1 : Int32) (S : JS) (Q : Int32 → JS → Prop) : Prop :=
  jA S this 12 ∧ (∀ S2 : JS, S2 = uI S this 0 0 → (jA S2 this 12 ∧ (((jI S2 this 43) = 0 → Q (-1) S2) ∧ (¬ (jI S2 this 43) = 0 → wX12_isNight p1 S2 (fun r5 S4 => (r5 = 0 → Q (-1) S4) ∧ (¬ r5 = 0 → jA S4 this 12 ∧ (¬ jR S4 this 42 = none ∧ (jA S4 (jr S4 this 42) 13 ∧ (vp_in p1 (jZ S4 (jr S4 this 42)) ∧ (Q (jI S4 (jr S4 this 42) p1.toNatClampNeg) S4))))))))))
set_option maxRecDepth 20000 in
theorem vX12_drawn {Q : Int32 → JS → Prop} (d : Nat) (hd : 3 ≤ d) {this : Nat} {p1 : Int32} {S : JS} (h : wX12_drawn this p1 S Q) : jCall jmt jbud d 228 [.ref this, .int p1] S (jqI Q) := by
  obtain ⟨d, rfl⟩ : ∃ d2, d = d2 + 1 := ⟨d - 1, by omega⟩
  have hd : 2 ≤ d := by omega
  have hc := jCall_mono jmt jbud d
  unfold wX12_drawn at h
  refine ⟨Nat.le_of_ble_eq_true rfl, ?_⟩
  show jLf (jCall jmt jbud d) jbud (fun j => (jmt j).rk) none mX12_drawn (jqI Q) (0, [some (.ref this), some (.int p1)], [], S, 0, 0)
  obtain ⟨g1, h⟩ := h
  refine jLf.bk hc 3 [jA S this 12] [some (.ref this), some (.int p1)] [] (uI S this 0 0) rfl rfl rfl g1 ?_
  generalize eS2 : uI S this 0 0 = S2
  have h := h S2 eS2.symm
  obtain ⟨g3, h⟩ := h
  refine jLf.bk hc 2 [jA S2 this 12] [some (.ref this), some (.int p1)] [.int (jI S2 this 43)] S2 rfl rfl rfl g3 ?_
  refine jLf.two hc _ rfl (gs := []) (p1 := (jI S2 this 43) = 0) (p2 := ¬ ((jI S2 this 43) = 0)) (c1 := (14, [some (.ref this), some (.int p1)], [], S2, 0, 0)) (c2 := (6, [some (.ref this), some (.int p1)], [], S2, 0, 0)) rfl trivial (fun hz => ?_) (fun hz => ?_)
  · have h := h.1 hz
    refine jLf.bk hc 1 [] [some (.ref this), some (.int p1)] [.int (-1)] S2 rfl rfl rfl trivial ?_
    exact jLf.ret hc _ rfl (gs := [True]) (v := some (.int (-1))) rfl trivial ⟨(-1), rfl, h⟩
  · have h := h.2 hz
    refine jLf.bk hc 1 [] [some (.ref this), some (.int p1)] [.int p1] S2 rfl rfl rfl trivial ?_
    refine jLf.inv hc _ rfl (gs := [1 ≤ ([.int p1] : List Value).length, (([] : List Value).map fun v => v.category).sum ≤ 8, 0 ≤ 0, 0 ≤ 0]) (k := 156) (args := [.int p1]) (r := []) (a := 0) (b := 0) rfl ⟨Nat.le_of_ble_eq_true rfl, Nat.le_of_ble_eq_true rfl, Nat.zero_le _, Nat.zero_le _⟩ (vX12_isNight d (by omega) h) ?_
    rintro v S4 ⟨r5, rfl, h⟩
    show jLf (jCall jmt jbud d) jbud (fun j => (jmt j).rk) none mX12_drawn (jqI Q) (8, [some (.ref this), some (.int p1)], [.int r5], S4, 0, 0)
    refine jLf.two hc _ rfl (gs := []) (p1 := r5 = 0) (p2 := ¬ (r5 = 0)) (c1 := (14, [some (.ref this), some (.int p1)], [], S4, 0, 0)) (c2 := (9, [some (.ref this), some (.int p1)], [], S4, 0, 0)) rfl trivial (fun hz => ?_) (fun hz => ?_)
    · have h := h.1 hz
      refine jLf.bk hc 1 [] [some (.ref this), some (.int p1)] [.int (-1)] S4 rfl rfl rfl trivial ?_
      exact jLf.ret hc _ rfl (gs := [True]) (v := some (.int (-1))) rfl trivial ⟨(-1), rfl, h⟩
    · have h := h.2 hz
      obtain ⟨g6, g7, g8, g9, h⟩ := h
      refine jLf.bk hc 4 [jA S4 this 12, ¬ jR S4 this 42 = none, jA S4 (jr S4 this 42) 13, vp_in p1 (jZ S4 (jr S4 this 42))] [some (.ref this), some (.int p1)] [.int (jI S4 (jr S4 this 42) p1.toNatClampNeg)] S4 rfl rfl rfl ⟨g6, g7, g8, g9⟩ ?_
      refine jLf.one hc _ rfl (gs := []) (c := (15, [some (.ref this), some (.int p1)], [.int (jI S4 (jr S4 this 42) p1.toNatClampNeg)], S4, 0, 0)) rfl trivial ?_
      exact jLf.ret hc _ rfl (gs := [True]) (v := some (.int (jI S4 (jr S4 this 42) p1.toNatClampNeg))) rfl trivial ⟨jI S4 (jr S4 this 42) p1.toNatClampNeg, rfl, h⟩
def bX12_count_7   (X7 : Nat → Int32 → Int32 → Int32 → JS → Prop) (l0 : Nat) (l1 : Int32) (l2 : Int32) (l3 : Int32) (S : JS) (Q : Int32 → JS → Prop) : Prop :=
  (59 < l3 → (l1 = 0 → jA S l0 12 ∧ (wX12_rocks l0 S (fun r4 S3 => Q r4 S3))) ∧ (¬ l1 = 0 → (l1 = 1 → Q l2 S) ∧ (¬ l1 = 1 → (l1 = 2 → jA S l0 12 ∧ (¬ jR S l0 3 = none ∧ (jA S (jr S l0 3) 13 ∧ (vp_in (3 : Int32) (jZ S (jr S l0 3)) ∧ (Q (jI S (jr S l0 3) (3 : Int32).toNatClampNeg) S))))) ∧ (¬ l1 = 2 → (l1 = 3 → jA S l0 12 ∧ (¬ jR S l0 3 = none ∧ (jA S (jr S l0 3) 13 ∧ (vp_in (5 : Int32) (jZ S (jr S l0 3)) ∧ (Q (jI S (jr S l0 3) (5 : Int32).toNatClampNeg) S))))) ∧ (¬ l1 = 3 → (l1 = 4 → jA S l0 12 ∧ (¬ jR S l0 3 = none ∧ (jA S (jr S l0 3) 13 ∧ (vp_in (6 : Int32) (jZ S (jr S l0 3)) ∧ (Q (jI S (jr S l0 3) (6 : Int32).toNatClampNeg) S))))) ∧ (¬ l1 = 4 → (l1 = 5 → jA S l0 12 ∧ (¬ jR S l0 3 = none ∧ (jA S (jr S l0 3) 13 ∧ (vp_in (7 : Int32) (jZ S (jr S l0 3)) ∧ (Q (jI S (jr S l0 3) (7 : Int32).toNatClampNeg) S))))) ∧ (¬ l1 = 5 → (l1 = 6 → jA S l0 12 ∧ (wX12_here l0 S (fun r23 S22 => Q r23 S22))) ∧ (¬ l1 = 6 → (l1 = 7 → jA S l0 12 ∧ (Q (jI S l0 8) S)) ∧ (¬ l1 = 7 → (l1 = 8 → jA S l0 12 ∧ (¬ jR S l0 2 = none ∧ (jA S (jr S l0 2) 13 ∧ (vp_in (1 : Int32) (jZ S (jr S l0 2)) ∧ (Q (jI S (jr S l0 2) (1 : Int32).toNatClampNeg) S))))) ∧ (¬ l1 = 8 → (l1 = 9 → jA S l0 12 ∧ (¬ jR S l0 2 = none ∧ (jA S (jr S l0 2) 13 ∧ (vp_in (2 : Int32) (jZ S (jr S l0 2)) ∧ (Q (jI S (jr S l0 2) (2 : Int32).toNatClampNeg) S))))) ∧ (¬ l1 = 9 → (l1 = 10 → jA S l0 12 ∧ (¬ jR S l0 2 = none ∧ (jA S (jr S l0 2) 13 ∧ (vp_in (3 : Int32) (jZ S (jr S l0 2)) ∧ (Q (jI S (jr S l0 2) (3 : Int32).toNatClampNeg) S))))) ∧ (¬ l1 = 10 → (l1 = 11 → jA S l0 12 ∧ (¬ jR S l0 2 = none ∧ (jA S (jr S l0 2) 13 ∧ (vp_in (5 : Int32) (jZ S (jr S l0 2)) ∧ (Q (jI S (jr S l0 2) (5 : Int32).toNatClampNeg) S))))) ∧ (¬ l1 = 11 → (l1 = 12 → jA S l0 12 ∧ (¬ jR S l0 2 = none ∧ (jA S (jr S l0 2) 13 ∧ (vp_in (6 : Int32) (jZ S (jr S l0 2)) ∧ (Q (jI S (jr S l0 2) (6 : Int32).toNatClampNeg) S))))) ∧ (¬ l1 = 12 → (l1 = 13 → jA S l0 12 ∧ (¬ jR S l0 3 = none ∧ (jA S (jr S l0 3) 13 ∧ (vp_in (4 : Int32) (jZ S (jr S l0 3)) ∧ (Q (jI S (jr S l0 3) (4 : Int32).toNatClampNeg) S))))) ∧ (¬ l1 = 13 → (l1 = 14 → jA S l0 12 ∧ (¬ jR S l0 3 = none ∧ (jA S (jr S l0 3) 13 ∧ (vp_in (1 : Int32) (jZ S (jr S l0 3)) ∧ (Q (jI S (jr S l0 3) (1 : Int32).toNatClampNeg) S))))) ∧ (¬ l1 = 14 → (l1 = 15 → jA S l0 12 ∧ (¬ jR S l0 3 = none ∧ (jA S (jr S l0 3) 13 ∧ (vp_in (2 : Int32) (jZ S (jr S l0 3)) ∧ (Q (jI S (jr S l0 3) (2 : Int32).toNatClampNeg) S))))) ∧ (¬ l1 = 15 → Q (-1) S))))))))))))))))) ∧ (¬ (59 < l3) → jA S l0 12 ∧ (¬ jR S l0 3 = none ∧ (jA S (jr S l0 3) 13 ∧ (vp_in ((8 : Int32) + l3) (jZ S (jr S l0 3)) ∧ (∀ x62 : Int32, x62 = (l2 + (jI S (jr S l0 3) ((8 : Int32) + l3).toNatClampNeg)) → (∀ x63 : Int32, x63 = (l3 + 1) → (X7 l0 l1 x62 x63 S)))))))
set_option maxRecDepth 20000 in
theorem uX12_count_7 {Q : Int32 → JS → Prop}  (d : Nat) (hd : 1 ≤ d) {X7 : Nat → Int32 → Int32 → Int32 → JS → Prop} (hX7 : ∀ l0 l1 l2 l3 S, X7 l0 l1 l2 l3 S → jLf (jCall jmt jbud d) jbud (fun j => (jmt j).rk) none mX12_count (jqI Q) (7, [some (.ref l0), some (.int l1), some (.int l2), some (.int l3)], [], S, 0, 0)) {l0 : Nat} {l1 : Int32} {l2 : Int32} {l3 : Int32} {S : JS} (h : bX12_count_7 X7 l0 l1 l2 l3 S Q) : jLf (jCall jmt jbud d) jbud (fun j => (jmt j).rk) none mX12_count (jqI Q) (7, [some (.ref l0), some (.int l1), some (.int l2), some (.int l3)], [], S, 0, 0) := by
  have hc := jCall_mono jmt jbud d
  unfold bX12_count_7 at h
  refine jLf.bk hc 2 [] [some (.ref l0), some (.int l1), some (.int l2), some (.int l3)] [.int 59, .int l3] S rfl rfl rfl trivial ?_
  refine jLf.two hc _ rfl (gs := []) (p1 := 59 < l3) (p2 := ¬ (59 < l3)) (c1 := (21, [some (.ref l0), some (.int l1), some (.int l2), some (.int l3)], [], S, 0, 0)) (c2 := (10, [some (.ref l0), some (.int l1), some (.int l2), some (.int l3)], [], S, 0, 0)) rfl trivial (fun hz => ?_) (fun hz => ?_)
  · have h := h.1 hz
    refine jLf.bk hc 1 [] [some (.ref l0), some (.int l1), some (.int l2), some (.int l3)] [.int l1] S rfl rfl rfl trivial ?_
    refine jLf.sw hc _ rfl rfl (by decide +kernel) ?_
    refine ⟨fun hz => ?_, fun hz => ?_⟩
    · have h := h.1 hz
      show jLf (jCall jmt jbud d) jbud (fun j => (jmt j).rk) none mX12_count (jqI Q) (23, [some (.ref l0), some (.int l1), some (.int l2), some (.int l3)], [], S, 0, 0)
      refine jLf.bk hc 1 [] [some (.ref l0), some (.int l1), some (.int l2), some (.int l3)] [.ref l0] S rfl rfl rfl trivial ?_
      obtain ⟨g5, h⟩ := h
      refine jLf.inv hc _ rfl (gs := [jA S l0 12, (([] : List Value).map fun v => v.category).sum ≤ 8, 0 ≤ 0, 0 ≤ 0]) (k := 154) (args := [.ref l0]) (r := []) (a := 0) (b := 0) rfl ⟨g5, Nat.le_of_ble_eq_true rfl, Nat.zero_le _, Nat.zero_le _⟩ (vX12_rocks d (by omega) h) ?_
      rintro v S3 ⟨r4, rfl, h⟩
      show jLf (jCall jmt jbud d) jbud (fun j => (jmt j).rk) none mX12_count (jqI Q) (25, [some (.ref l0), some (.int l1), some (.int l2), some (.int l3)], [.int r4], S3, 0, 0)
      exact jLf.ret hc _ rfl (gs := [True]) (v := some (.int r4)) rfl trivial ⟨r4, rfl, h⟩
    have h := h.2 hz
    refine ⟨fun hz => ?_, fun hz => ?_⟩
    · have h := h.1 hz
      show jLf (jCall jmt jbud d) jbud (fun j => (jmt j).rk) none mX12_count (jqI Q) (26, [some (.ref l0), some (.int l1), some (.int l2), some (.int l3)], [], S, 0, 0)
      refine jLf.bk hc 1 [] [some (.ref l0), some (.int l1), some (.int l2), some (.int l3)] [.int l2] S rfl rfl rfl trivial ?_
      exact jLf.ret hc _ rfl (gs := [True]) (v := some (.int l2)) rfl trivial ⟨l2, rfl, h⟩
    have h := h.2 hz
    refine ⟨fun hz => ?_, fun hz => ?_⟩
    · have h := h.1 hz
      show jLf (jCall jmt jbud d) jbud (fun j => (jmt j).rk) none mX12_count (jqI Q) (28, [some (.ref l0), some (.int l1), some (.int l2), some (.int l3)], [], S, 0, 0)
      obtain ⟨g6, g7, g8, g9, h⟩ := h
      refine jLf.bk hc 4 [jA S l0 12, ¬ jR S l0 3 = none, jA S (jr S l0 3) 13, vp_in (3 : Int32) (jZ S (jr S l0 3))] [some (.ref l0), some (.int l1), some (.int l2), some (.int l3)] [.int (jI S (jr S l0 3) (3 : Int32).toNatClampNeg)] S rfl rfl rfl ⟨g6, g7, g8, g9⟩ ?_
      exact jLf.ret hc _ rfl (gs := [True]) (v := some (.int (jI S (jr S l0 3) (3 : Int32).toNatClampNeg))) rfl trivial ⟨jI S (jr S l0 3) (3 : Int32).toNatClampNeg, rfl, h⟩
    have h := h.2 hz
    refine ⟨fun hz => ?_, fun hz => ?_⟩
    · have h := h.1 hz
      show jLf (jCall jmt jbud d) jbud (fun j => (jmt j).rk) none mX12_count (jqI Q) (33, [some (.ref l0), some (.int l1), some (.int l2), some (.int l3)], [], S, 0, 0)
      obtain ⟨g10, g11, g12, g13, h⟩ := h
      refine jLf.bk hc 4 [jA S l0 12, ¬ jR S l0 3 = none, jA S (jr S l0 3) 13, vp_in (5 : Int32) (jZ S (jr S l0 3))] [some (.ref l0), some (.int l1), some (.int l2), some (.int l3)] [.int (jI S (jr S l0 3) (5 : Int32).toNatClampNeg)] S rfl rfl rfl ⟨g10, g11, g12, g13⟩ ?_
      exact jLf.ret hc _ rfl (gs := [True]) (v := some (.int (jI S (jr S l0 3) (5 : Int32).toNatClampNeg))) rfl trivial ⟨jI S (jr S l0 3) (5 : Int32).toNatClampNeg, rfl, h⟩
    have h := h.2 hz
    refine ⟨fun hz => ?_, fun hz => ?_⟩
    · have h := h.1 hz
      show jLf (jCall jmt jbud d) jbud (fun j => (jmt j).rk) none mX12_count (jqI Q) (38, [some (.ref l0), some (.int l1), some (.int l2), some (.int l3)], [], S, 0, 0)
      obtain ⟨g14, g15, g16, g17, h⟩ := h
      refine jLf.bk hc 4 [jA S l0 12, ¬ jR S l0 3 = none, jA S (jr S l0 3) 13, vp_in (6 : Int32) (jZ S (jr S l0 3))] [some (.ref l0), some (.int l1), some (.int l2), some (.int l3)] [.int (jI S (jr S l0 3) (6 : Int32).toNatClampNeg)] S rfl rfl rfl ⟨g14, g15, g16, g17⟩ ?_
      exact jLf.ret hc _ rfl (gs := [True]) (v := some (.int (jI S (jr S l0 3) (6 : Int32).toNatClampNeg))) rfl trivial ⟨jI S (jr S l0 3) (6 : Int32).toNatClampNeg, rfl, h⟩
    have h := h.2 hz
    refine ⟨fun hz => ?_, fun hz => ?_⟩
    · have h := h.1 hz
      show jLf (jCall jmt jbud d) jbud (fun j => (jmt j).rk) none mX12_count (jqI Q) (43, [some (.ref l0), some (.int l1), some (.int l2), some (.int l3)], [], S, 0, 0)
      obtain ⟨g18, g19, g20, g21, h⟩ := h
      refine jLf.bk hc 4 [jA S l0 12, ¬ jR S l0 3 = none, jA S (jr S l0 3) 13, vp_in (7 : Int32) (jZ S (jr S l0 3))] [some (.ref l0), some (.int l1), some (.int l2), some (.int l3)] [.int (jI S (jr S l0 3) (7 : Int32).toNatClampNeg)] S rfl rfl rfl ⟨g18, g19, g20, g21⟩ ?_
      exact jLf.ret hc _ rfl (gs := [True]) (v := some (.int (jI S (jr S l0 3) (7 : Int32).toNatClampNeg))) rfl trivial ⟨jI S (jr S l0 3) (7 : Int32).toNatClampNeg, rfl, h⟩
    have h := h.2 hz
    refine ⟨fun hz => ?_, fun hz => ?_⟩
    · have h := h.1 hz
      show jLf (jCall jmt jbud d) jbud (fun j => (jmt j).rk) none mX12_count (jqI Q) (48, [some (.ref l0), some (.int l1), some (.int l2), some (.int l3)], [], S, 0, 0)
      refine jLf.bk hc 1 [] [some (.ref l0), some (.int l1), some (.int l2), some (.int l3)] [.ref l0] S rfl rfl rfl trivial ?_
      obtain ⟨g24, h⟩ := h
      refine jLf.inv hc _ rfl (gs := [jA S l0 12, (([] : List Value).map fun v => v.category).sum ≤ 8, 0 ≤ 0, 0 ≤ 0]) (k := 202) (args := [.ref l0]) (r := []) (a := 0) (b := 0) rfl ⟨g24, Nat.le_of_ble_eq_true rfl, Nat.zero_le _, Nat.zero_le _⟩ (vX12_here d (by omega) h) ?_
      rintro v S22 ⟨r23, rfl, h⟩
      show jLf (jCall jmt jbud d) jbud (fun j => (jmt j).rk) none mX12_count (jqI Q) (50, [some (.ref l0), some (.int l1), some (.int l2), some (.int l3)], [.int r23], S22, 0, 0)
      exact jLf.ret hc _ rfl (gs := [True]) (v := some (.int r23)) rfl trivial ⟨r23, rfl, h⟩
    have h := h.2 hz
    refine ⟨fun hz => ?_, fun hz => ?_⟩
    · have h := h.1 hz
      show jLf (jCall jmt jbud d) jbud (fun j => (jmt j).rk) none mX12_count (jqI Q) (51, [some (.ref l0), some (.int l1), some (.int l2), some (.int l3)], [], S, 0, 0)
      obtain ⟨g25, h⟩ := h
      refine jLf.bk hc 2 [jA S l0 12] [some (.ref l0), some (.int l1), some (.int l2), some (.int l3)] [.int (jI S l0 8)] S rfl rfl rfl g25 ?_
      exact jLf.ret hc _ rfl (gs := [True]) (v := some (.int (jI S l0 8))) rfl trivial ⟨jI S l0 8, rfl, h⟩
    have h := h.2 hz
    refine ⟨fun hz => ?_, fun hz => ?_⟩
    · have h := h.1 hz
      show jLf (jCall jmt jbud d) jbud (fun j => (jmt j).rk) none mX12_count (jqI Q) (54, [some (.ref l0), some (.int l1), some (.int l2), some (.int l3)], [], S, 0, 0)
      obtain ⟨g26, g27, g28, g29, h⟩ := h
      refine jLf.bk hc 4 [jA S l0 12, ¬ jR S l0 2 = none, jA S (jr S l0 2) 13, vp_in (1 : Int32) (jZ S (jr S l0 2))] [some (.ref l0), some (.int l1), some (.int l2), some (.int l3)] [.int (jI S (jr S l0 2) (1 : Int32).toNatClampNeg)] S rfl rfl rfl ⟨g26, g27, g28, g29⟩ ?_
      exact jLf.ret hc _ rfl (gs := [True]) (v := some (.int (jI S (jr S l0 2) (1 : Int32).toNatClampNeg))) rfl trivial ⟨jI S (jr S l0 2) (1 : Int32).toNatClampNeg, rfl, h⟩
    have h := h.2 hz
    refine ⟨fun hz => ?_, fun hz => ?_⟩
    · have h := h.1 hz
      show jLf (jCall jmt jbud d) jbud (fun j => (jmt j).rk) none mX12_count (jqI Q) (59, [some (.ref l0), some (.int l1), some (.int l2), some (.int l3)], [], S, 0, 0)
      obtain ⟨g30, g31, g32, g33, h⟩ := h
      refine jLf.bk hc 4 [jA S l0 12, ¬ jR S l0 2 = none, jA S (jr S l0 2) 13, vp_in (2 : Int32) (jZ S (jr S l0 2))] [some (.ref l0), some (.int l1), some (.int l2), some (.int l3)] [.int (jI S (jr S l0 2) (2 : Int32).toNatClampNeg)] S rfl rfl rfl ⟨g30, g31, g32, g33⟩ ?_
      exact jLf.ret hc _ rfl (gs := [True]) (v := some (.int (jI S (jr S l0 2) (2 : Int32).toNatClampNeg))) rfl trivial ⟨jI S (jr S l0 2) (2 : Int32).toNatClampNeg, rfl, h⟩
    have h := h.2 hz
    refine ⟨fun hz => ?_, fun hz => ?_⟩
    · have h := h.1 hz
      show jLf (jCall jmt jbud d) jbud (fun j => (jmt j).rk) none mX12_count (jqI Q) (64, [some (.ref l0), some (.int l1), some (.int l2), some (.int l3)], [], S, 0, 0)
      obtain ⟨g34, g35, g36, g37, h⟩ := h
      refine jLf.bk hc 4 [jA S l0 12, ¬ jR S l0 2 = none, jA S (jr S l0 2) 13, vp_in (3 : Int32) (jZ S (jr S l0 2))] [some (.ref l0), some (.int l1), some (.int l2), some (.int l3)] [.int (jI S (jr S l0 2) (3 : Int32).toNatClampNeg)] S rfl rfl rfl ⟨g34, g35, g36, g37⟩ ?_
      exact jLf.ret hc _ rfl (gs := [True]) (v := some (.int (jI S (jr S l0 2) (3 : Int32).toNatClampNeg))) rfl trivial ⟨jI S (jr S l0 2) (3 : Int32).toNatClampNeg, rfl, h⟩
    have h := h.2 hz
    refine ⟨fun hz => ?_, fun hz => ?_⟩
    · have h := h.1 hz
      show jLf (jCall jmt jbud d) jbud (fun j => (jmt j).rk) none mX12_count (jqI Q) (69, [some (.ref l0), some (.int l1), some (.int l2), some (.int l3)], [], S, 0, 0)
      obtain ⟨g38, g39, g40, g41, h⟩ := h
      refine jLf.bk hc 4 [jA S l0 12, ¬ jR S l0 2 = none, jA S (jr S l0 2) 13, vp_in (5 : Int32) (jZ S (jr S l0 2))] [some (.ref l0), some (.int l1), some (.int l2), some (.int l3)] [.int (jI S (jr S l0 2) (5 : Int32).toNatClampNeg)] S rfl rfl rfl ⟨g38, g39, g40, g41⟩ ?_
      exact jLf.ret hc _ rfl (gs := [True]) (v := some (.int (jI S (jr S l0 2) (5 : Int32).toNatClampNeg))) rfl trivial ⟨jI S (jr S l0 2) (5 : Int32).toNatClampNeg, rfl, h⟩
    have h := h.2 hz
    refine ⟨fun hz => ?_, fun hz => ?_⟩
    · have h := h.1 hz
      show jLf (jCall jmt jbud d) jbud (fun j => (jmt j).rk) none mX12_count (jqI Q) (74, [some (.ref l0), some (.int l1), some (.int l2), some (.int l3)], [], S, 0, 0)
      obtain ⟨g42, g43, g44, g45, h⟩ := h
      refine jLf.bk hc 4 [jA S l0 12, ¬ jR S l0 2 = none, jA S (jr S l0 2) 13, vp_in (6 : Int32) (jZ S (jr S l0 2))] [some (.ref l0), some (.int l1), some (.int l2), some (.int l3)] [.int (jI S (jr S l0 2) (6 : Int32).toNatClampNeg)] S rfl rfl rfl ⟨g42, g43, g44, g45⟩ ?_
      exact jLf.ret hc _ rfl (gs := [True]) (v := some (.int (jI S (jr S l0 2) (6 : Int32).toNatClampNeg))) rfl trivial ⟨jI S (jr S l0 2) (6 : Int32).toNatClampNeg, rfl, h⟩
    have h := h.2 hz
    refine ⟨fun hz => ?_, fun hz => ?_⟩
    · have h := h.1 hz
      show jLf (jCall jmt jbud d) jbud (fun j => (jmt j).rk) none mX12_count (jqI Q) (79, [some (.ref l0), some (.int l1), some (.int l2), some (.int l3)], [], S, 0, 0)
      obtain ⟨g46, g47, g48, g49, h⟩ := h
      refine jLf.bk hc 4 [jA S l0 12, ¬ jR S l0 3 = none, jA S (jr S l0 3) 13, vp_in (4 : Int32) (jZ S (jr S l0 3))] [some (.ref l0), some (.int l1), some (.int l2), some (.int l3)] [.int (jI S (jr S l0 3) (4 : Int32).toNatClampNeg)] S rfl rfl rfl ⟨g46, g47, g48, g49⟩ ?_
      exact jLf.ret hc _ rfl (gs := [True]) (v := some (.int (jI S (jr S l0 3) (4 : Int32).toNatClampNeg))) rfl trivial ⟨jI S (jr S l0 3) (4 : Int32).toNatClampNeg, rfl, h⟩
    have h := h.2 hz
    refine ⟨fun hz => ?_, fun hz => ?_⟩
    · have h := h.1 hz
      show jLf (jCall jmt jbud d) jbud (fun j => (jmt j).rk) none mX12_count (jqI Q) (84, [some (.ref l0), some (.int l1), some (.int l2), some (.int l3)], [], S, 0, 0)
      obtain ⟨g50, g51, g52, g53, h⟩ := h
      refine jLf.bk hc 4 [jA S l0 12, ¬ jR S l0 3 = none, jA S (jr S l0 3) 13, vp_in (1 : Int32) (jZ S (jr S l0 3))] [some (.ref l0), some (.int l1), some (.int l2), some (.int l3)] [.int (jI S (jr S l0 3) (1 : Int32).toNatClampNeg)] S rfl rfl rfl ⟨g50, g51, g52, g53⟩ ?_
      exact jLf.ret hc _ rfl (gs := [True]) (v := some (.int (jI S (jr S l0 3) (1 : Int32).toNatClampNeg))) rfl trivial ⟨jI S (jr S l0 3) (1 : Int32).toNatClampNeg, rfl, h⟩
    have h := h.2 hz
    refine ⟨fun hz => ?_, fun hz => ?_⟩
    · have h := h.1 hz
      show jLf (jCall jmt jbud d) jbud (fun j => (jmt j).rk) none mX12_count (jqI Q) (89, [some (.ref l0), some (.int l1), some (.int l2), some (.int l3)], [], S, 0, 0)
      obtain ⟨g54, g55, g56, g57, h⟩ := h
      refine jLf.bk hc 4 [jA S l0 12, ¬ jR S l0 3 = none, jA S (jr S l0 3) 13, vp_in (2 : Int32) (jZ S (jr S l0 3))] [some (.ref l0), some (.int l1), some (.int l2), some (.int l3)] [.int (jI S (jr S l0 3) (2 : Int32).toNatClampNeg)] S rfl rfl rfl ⟨g54, g55, g56, g57⟩ ?_
      exact jLf.ret hc _ rfl (gs := [True]) (v := some (.int (jI S (jr S l0 3) (2 : Int32).toNatClampNeg))) rfl trivial ⟨jI S (jr S l0 3) (2 : Int32).toNatClampNeg, rfl, h⟩
    have h := h.2 hz
    show jLf (jCall jmt jbud d) jbud (fun j => (jmt j).rk) none mX12_count (jqI Q) (94, [some (.ref l0), some (.int l1), some (.int l2), some (.int l3)], [], S, 0, 0)
    refine jLf.bk hc 1 [] [some (.ref l0), some (.int l1), some (.int l2), some (.int l3)] [.int (-1)] S rfl rfl rfl trivial ?_
    exact jLf.ret hc _ rfl (gs := [True]) (v := some (.int (-1))) rfl trivial ⟨(-1), rfl, h⟩
  · have h := h.2 hz
    obtain ⟨g58, g59, g60, g61, h⟩ := h
    refine jLf.bk hc 9 [jA S l0 12, ¬ jR S l0 3 = none, jA S (jr S l0 3) 13, vp_in ((8 : Int32) + l3) (jZ S (jr S l0 3))] [some (.ref l0), some (.int l1), some (.int (l2 + (jI S (jr S l0 3) ((8 : Int32) + l3).toNatClampNeg))), some (.int l3)] [] S rfl rfl rfl ⟨g58, g59, g60, g61⟩ ?_
    generalize ex62 : (l2 + (jI S (jr S l0 3) ((8 : Int32) + l3).toNatClampNeg) : Int32) = x62
    have h := h x62 ex62.symm
    refine jLf.bk hc 1 [] [some (.ref l0), some (.int l1), some (.int x62), some (.int (l3 + 1))] [] S rfl rfl rfl trivial ?_
    generalize ex63 : (l3 + 1 : Int32) = x63
    have h := h x63 ex63.symm
    refine jLf.one hc _ rfl (gs := []) (c := (7, [some (.ref l0), some (.int l1), some (.int x62), some (.int x63)], [], S, 0, 0)) rfl trivial ?_
    exact hX7 _ _ _ _ _ h
def wX12_count_7   (l0 : Nat) (l1 : Int32) (l2 : Int32) (l3 : Int32) (S : JS) (Q : Int32 → JS → Prop) : Prop :=
  jLoop (fun (X7 : Nat × Int32 × Int32 × Int32 × JS → Prop) q => bX12_count_7 (fun l0 l1 l2 l3 S => X7 (l0, l1, l2, l3, S)) q.1 q.2.1 q.2.2.1 q.2.2.2.1 q.2.2.2.2 Q) (l0, l1, l2, l3, S)
set_option maxRecDepth 20000 in
theorem tX12_count_7 {Q : Int32 → JS → Prop}  (d : Nat) (hd : 1 ≤ d) {l0 : Nat} {l1 : Int32} {l2 : Int32} {l3 : Int32} {S : JS} (h : wX12_count_7 l0 l1 l2 l3 S Q) : jLf (jCall jmt jbud d) jbud (fun j => (jmt j).rk) none mX12_count (jqI Q) (7, [some (.ref l0), some (.int l1), some (.int l2), some (.int l3)], [], S, 0, 0) := by
  have := h (fun q : Nat × Int32 × Int32 × Int32 × JS => jLf (jCall jmt jbud d) jbud (fun j => (jmt j).rk) none mX12_count (jqI Q) (7, [some (.ref (q.1)), some (.int (q.2.1)), some (.int (q.2.2.1)), some (.int (q.2.2.2.1))], [], q.2.2.2.2, 0, 0)) (fun q R hb hR => uX12_count_7 d hd  (fun _ _ _ _ _ => hR _) hb)
  exact this
def wX12_count  (this : Nat) (p1 : Int32) (S : JS) (Q : Int32 → JS → Prop) : Prop :=
  jA S this 12 ∧ (∀ S2 : JS, S2 = uI S this 0 0 → (wX12_count_7 this p1 0 0 S2 Q))
set_option maxRecDepth 20000 in
theorem vX12_count {Q : Int32 → JS → Prop} (d : Nat) (hd : 2 ≤ d) {this : Nat} {p1 : Int32} {S : JS} (h : wX12_count this p1 S Q) : jCall jmt jbud d 229 [.ref this, .int p1] S (jqI Q) := by
  obtain ⟨d, rfl⟩ : ∃ d2, d = d2 + 1 := ⟨d - 1, by omega⟩
  have hd : 1 ≤ d := by omega
  have hc := jCall_mono jmt jbud d
  unfold wX12_count at h
  refine ⟨Nat.le_of_ble_eq_true rfl, ?_⟩
  show jLf (jCall jmt jbud d) jbud (fun j => (jmt j).rk) none mX12_count (jqI Q) (0, [some (.ref this), some (.int p1), none, none], [], S, 0, 0)
  obtain ⟨g1, h⟩ := h
  refine jLf.bk hc 3 [jA S this 12] [some (.ref this), some (.int p1), none, none] [] (uI S this 0 0) rfl rfl rfl g1 ?_
  generalize eS2 : uI S this 0 0 = S2
  have h := h S2 eS2.symm
  refine jLf.bk hc 4 [] [some (.ref this), some (.int p1), some (.int 0), some (.int 0)] [] S2 rfl rfl rfl trivial ?_
  exact tX12_count_7 d hd  h
def wX12_status  (this : Nat) (S : JS) (Q : Int32 → JS → Prop) : Prop :=
  jA S this 12 ∧ (∀ S2 : JS, S2 = uI S this 0 0 → (jA S2 this 12 ∧ (Q (jI S2 this 1) S2)))
set_option maxRecDepth 20000 in
theorem vX12_status {Q : Int32 → JS → Prop} (d : Nat) (hd : 1 ≤ d) {this : Nat} {S : JS} (h : wX12_status this S Q) : jCall jmt jbud d 230 [.ref this] S (jqI Q) := by
  obtain ⟨d, rfl⟩ : ∃ d2, d = d2 + 1 := ⟨d - 1, by omega⟩
  have hd : 0 ≤ d := by omega
  have hc := jCall_mono jmt jbud d
  unfold wX12_status at h
  refine ⟨Nat.le_of_ble_eq_true rfl, ?_⟩
  show jLf (jCall jmt jbud d) jbud (fun j => (jmt j).rk) none mX12_status (jqI Q) (0, [some (.ref this)], [], S, 0, 0)
  obtain ⟨g1, h⟩ := h
  refine jLf.bk hc 3 [jA S this 12] [some (.ref this)] [] (uI S this 0 0) rfl rfl rfl g1 ?_
  generalize eS2 : uI S this 0 0 = S2
  have h := h S2 eS2.symm
  obtain ⟨g3, h⟩ := h
  refine jLf.bk hc 2 [jA S2 this 12] [some (.ref this)] [.int (jI S2 this 1)] S2 rfl rfl rfl g3 ?_
  exact jLf.ret hc _ rfl (gs := [True]) (v := some (.int (jI S2 this 1))) rfl trivial ⟨jI S2 this 1, rfl, h⟩
