/-! the law itself, by program -/
def wL_law_826 (G : Nat → List Value → JS → (Option Value → JS → Prop) → Prop) (X10 : Nat → Nat → Int32 → Nat → Nat → JS → Prop) (l1 : Nat) (l2 : Nat) (l3 : Int32) (rc : Nat) (rs : Nat) (L : Nat) (xs : Nat → Int32) (S : JS) (Q : Int32 → JS → Prop) : Prop :=
  ∀ x19 : Int32, x19 = (l3 + 6) → (X10 l1 l2 x19 rc rs S)
set_option maxRecDepth 20000 in
theorem tL_law_826 {Q : Int32 → JS → Prop} {G : Nat → List Value → JS → (Option Value → JS → Prop) → Prop} {L : Nat} {xs : Nat → Int32} {X10 : Nat → Nat → Int32 → Nat → Nat → JS → Prop} (d : Nat) (hd : 9 ≤ d) (hG : ∀ k args S Q, G k args S Q → jCall jmt jbud d k args S Q) (hX10 : ∀ l1 l2 l3 rc rs S, X10 l1 l2 l3 rc rs S → jLf (jCall jmt jbud d) jbud (fun j => (jmt j).rk) (some (L, xs)) mL_law (jqI Q) (10, [some (.ref jX), some (.ref l1), some (.ref l2), some (.int l3)], [], S, rc, rs)) {l1 : Nat} {l2 : Nat} {l3 : Int32} {rc : Nat} {rs : Nat} {S : JS} (h : wL_law_826 G X10 l1 l2 l3 rc rs L xs S Q) : jLf (jCall jmt jbud d) jbud (fun j => (jmt j).rk) (some (L, xs)) mL_law (jqI Q) (826, [some (.ref jX), some (.ref l1), some (.ref l2), some (.int l3)], [], S, rc, rs) := by
  have hc := jCall_mono jmt jbud d
  unfold wL_law_826 at h
  refine jLf.bk hc 1 [] [some (.ref jX), some (.ref l1), some (.ref l2), some (.int (l3 + 6))] [] S rfl rfl rfl trivial ?_
  generalize ex19 : (l3 + 6 : Int32) = x19
  have h := h x19 ex19.symm
  refine jLf.one hc _ rfl (gs := []) (c := (10, [some (.ref jX), some (.ref l1), some (.ref l2), some (.int x19)], [], S, rc, rs)) rfl trivial ?_
  exact hX10 _ _ _ _ _ _ h
set_option maxRecDepth 20000 in
def bL_law_10 (G : Nat → List Value → JS → (Option Value → JS → Prop) → Prop)  (X10 : Nat → Nat → Int32 → Nat → Nat → JS → Prop) (l1 : Nat) (l2 : Nat) (l3 : Int32) (rc : Nat) (rs : Nat) (L : Nat) (xs : Nat → Int32) (S : JS) (Q : Int32 → JS → Prop) : Prop :=
  (((Int32.ofNat L) - (6 : Int32)) < l3 → Q 1 S) ∧ (¬ (((Int32.ofNat L) - (6 : Int32)) < l3) → vp_in l3 L ∧ ((((xs l3.toNatClampNeg) &&& (63 : Int32)) = 0 → vp_in (l3 + (1 : Int32)) L ∧ (vp_in (l3 + (2 : Int32)) L ∧ (jA S l1 11 ∧ (wX11_terms l1 (xs (l3 + (1 : Int32)).toNatClampNeg) (xs (l3 + (2 : Int32)).toNatClampNeg) S (fun r14 S13 => vp_in (l3 + (1 : Int32)) L ∧ (vp_in (l3 + (2 : Int32)) L ∧ (jA S13 l2 12 ∧ (wX12_terms l2 (xs (l3 + (1 : Int32)).toNatClampNeg) (xs (l3 + (2 : Int32)).toNatClampNeg) S13 (fun r17 S16 => (r14 = r17 → wL_law_826 G X10 l1 l2 l3 rc rs L xs S16 Q) ∧ (¬ r14 = r17 → Q 0 S16)))))))))) ∧ (¬ ((xs l3.toNatClampNeg) &&& (63 : Int32)) = 0 → (((xs l3.toNatClampNeg) &&& (63 : Int32)) = 1 → vp_in (l3 + (1 : Int32)) L ∧ (vp_in (l3 + (2 : Int32)) L ∧ (jA S l1 11 ∧ (wX11_storm l1 (xs (l3 + (1 : Int32)).toNatClampNeg) (xs (l3 + (2 : Int32)).toNatClampNeg) S (fun r21 S20 => vp_in (l3 + (1 : Int32)) L ∧ (vp_in (l3 + (2 : Int32)) L ∧ (jA S20 l2 12 ∧ (wX12_storm l2 (xs (l3 + (1 : Int32)).toNatClampNeg) (xs (l3 + (2 : Int32)).toNatClampNeg) S20 (fun r24 S23 => (r21 = r24 → wL_law_826 G X10 l1 l2 l3 rc rs L xs S23 Q) ∧ (¬ r21 = r24 → Q 0 S23)))))))))) ∧ (¬ ((xs l3.toNatClampNeg) &&& (63 : Int32)) = 1 → (((xs l3.toNatClampNeg) &&& (63 : Int32)) = 2 → vp_in (l3 + (1 : Int32)) L ∧ (vp_in (l3 + (2 : Int32)) L ∧ (vp_in (l3 + (3 : Int32)) L ∧ (jA S l1 11 ∧ (wX11_wed l1 (xs (l3 + (1 : Int32)).toNatClampNeg) (xs (l3 + (2 : Int32)).toNatClampNeg) (xs (l3 + (3 : Int32)).toNatClampNeg) S (fun r27 S26 => vp_in (l3 + (1 : Int32)) L ∧ (vp_in (l3 + (2 : Int32)) L ∧ (vp_in (l3 + (3 : Int32)) L ∧ (jA S26 l2 12 ∧ (wX12_wed l2 (xs (l3 + (1 : Int32)).toNatClampNeg) (xs (l3 + (2 : Int32)).toNatClampNeg) (xs (l3 + (3 : Int32)).toNatClampNeg) S26 (fun r30 S29 => (r27 = r30 → wL_law_826 G X10 l1 l2 l3 rc rs L xs S29 Q) ∧ (¬ r27 = r30 → Q 0 S29)))))))))))) ∧ (¬ ((xs l3.toNatClampNeg) &&& (63 : Int32)) = 2 → (((xs l3.toNatClampNeg) &&& (63 : Int32)) = 3 → vp_in (l3 + (1 : Int32)) L ∧ (jA S l1 11 ∧ (wX11_jilt l1 (xs (l3 + (1 : Int32)).toNatClampNeg) S (fun r33 S32 => vp_in (l3 + (1 : Int32)) L ∧ (jA S32 l2 12 ∧ (wX12_jilt l2 (xs (l3 + (1 : Int32)).toNatClampNeg) S32 (fun r36 S35 => (r33 = r36 → wL_law_826 G X10 l1 l2 l3 rc rs L xs S35 Q) ∧ (¬ r33 = r36 → Q 0 S35)))))))) ∧ (¬ ((xs l3.toNatClampNeg) &&& (63 : Int32)) = 3 → (((xs l3.toNatClampNeg) &&& (63 : Int32)) = 4 → vp_in (l3 + (1 : Int32)) L ∧ (vp_in (l3 + (2 : Int32)) L ∧ (vp_in (l3 + (3 : Int32)) L ∧ (vp_in (l3 + (4 : Int32)) L ∧ (vp_in (l3 + (5 : Int32)) L ∧ (jA S l1 11 ∧ (wX11_feed l1 (xs (l3 + (1 : Int32)).toNatClampNeg) (xs (l3 + (2 : Int32)).toNatClampNeg) (xs (l3 + (3 : Int32)).toNatClampNeg) (xs (l3 + (4 : Int32)).toNatClampNeg) (xs (l3 + (5 : Int32)).toNatClampNeg) S (fun r39 S38 => vp_in (l3 + (1 : Int32)) L ∧ (vp_in (l3 + (2 : Int32)) L ∧ (vp_in (l3 + (3 : Int32)) L ∧ (vp_in (l3 + (4 : Int32)) L ∧ (vp_in (l3 + (5 : Int32)) L ∧ (jA S38 l2 12 ∧ (wX12_feed l2 (xs (l3 + (1 : Int32)).toNatClampNeg) (xs (l3 + (2 : Int32)).toNatClampNeg) (xs (l3 + (3 : Int32)).toNatClampNeg) (xs (l3 + (4 : Int32)).toNatClampNeg) (xs (l3 + (5 : Int32)).toNatClampNeg) S38 (fun r42 S41 => (r39 = r42 → wL_law_826 G X10 l1 l2 l3 rc rs L xs S41 Q) ∧ (¬ r39 = r42 → Q 0 S41)))))))))))))))) ∧ (¬ ((xs l3.toNatClampNeg) &&& (63 : Int32)) = 4 → (((xs l3.toNatClampNeg) &&& (63 : Int32)) = 5 → vp_in (l3 + (1 : Int32)) L ∧ (jA S l1 11 ∧ (wX11_end l1 (xs (l3 + (1 : Int32)).toNatClampNeg) S (fun r45 S44 => vp_in (l3 + (1 : Int32)) L ∧ (jA S44 l2 12 ∧ (wX12_end l2 (xs (l3 + (1 : Int32)).toNatClampNeg) S44 (fun r48 S47 => (r45 = r48 → wL_law_826 G X10 l1 l2 l3 rc rs L xs S47 Q) ∧ (¬ r45 = r48 → Q 0 S47)))))))) ∧ (¬ ((xs l3.toNatClampNeg) &&& (63 : Int32)) = 5 → (((xs l3.toNatClampNeg) &&& (63 : Int32)) = 6 → jA S l1 11 ∧ (wX11_row l1 S (fun r51 S50 => jA S50 l2 12 ∧ (wX12_row l2 S50 (fun r54 S53 => (r51 = r54 → wL_law_826 G X10 l1 l2 l3 rc rs L xs S53 Q) ∧ (¬ r51 = r54 → Q 0 S53)))))) ∧ (¬ ((xs l3.toNatClampNeg) &&& (63 : Int32)) = 6 → (((xs l3.toNatClampNeg) &&& (63 : Int32)) = 7 → jA S l1 11 ∧ (wX11_spray l1 S (fun r57 S56 => jA S56 l2 12 ∧ (wX12_spray l2 S56 (fun r60 S59 => (r57 = r60 → wL_law_826 G X10 l1 l2 l3 rc rs L xs S59 Q) ∧ (¬ r57 = r60 → Q 0 S59)))))) ∧ (¬ ((xs l3.toNatClampNeg) &&& (63 : Int32)) = 7 → (((xs l3.toNatClampNeg) &&& (63 : Int32)) = 8 → jA S l1 11 ∧ (6 ≤ rc ∧ (2006 ≤ rs ∧ (G 109 [.ref l1] S (jqI (fun r63 S62 => jA S62 l2 12 ∧ (wX12_law l2 S62 (fun r68 S67 => (r63 = r68 → wL_law_826 G X10 l1 l2 l3 (rc - 6) (rs - 2006) L xs S67 Q) ∧ (¬ r63 = r68 → Q 0 S67))))))))) ∧ (¬ ((xs l3.toNatClampNeg) &&& (63 : Int32)) = 8 → (((xs l3.toNatClampNeg) &&& (63 : Int32)) = 9 → jA S l1 11 ∧ (wX11_fault l1 S (fun r71 S70 => jA S70 l2 12 ∧ (wX12_fault l2 S70 (fun r74 S73 => (r71 = r74 → wL_law_826 G X10 l1 l2 l3 rc rs L xs S73 Q) ∧ (¬ r71 = r74 → Q 0 S73)))))) ∧ (¬ ((xs l3.toNatClampNeg) &&& (63 : Int32)) = 9 → (((xs l3.toNatClampNeg) &&& (63 : Int32)) = 10 → vp_in (l3 + (1 : Int32)) L ∧ (jA S l1 11 ∧ (wX11_force l1 (xs (l3 + (1 : Int32)).toNatClampNeg) S (fun r77 S76 => vp_in (l3 + (1 : Int32)) L ∧ (jA S76 l2 12 ∧ (wX12_force l2 (xs (l3 + (1 : Int32)).toNatClampNeg) S76 (fun r80 S79 => (r77 = r80 → wL_law_826 G X10 l1 l2 l3 rc rs L xs S79 Q) ∧ (¬ r77 = r80 → Q 0 S79)))))))) ∧ (¬ ((xs l3.toNatClampNeg) &&& (63 : Int32)) = 10 → (((xs l3.toNatClampNeg) &&& (63 : Int32)) = 11 → vp_in (l3 + (1 : Int32)) L ∧ (vp_in (l3 + (2 : Int32)) L ∧ (vp_in (l3 + (3 : Int32)) L ∧ (jA S l1 11 ∧ (wX11_goes l1 (xs (l3 + (1 : Int32)).toNatClampNeg) (xs (l3 + (2 : Int32)).toNatClampNeg) (xs (l3 + (3 : Int32)).toNatClampNeg) S (fun r83 S82 => vp_in (l3 + (1 : Int32)) L ∧ (vp_in (l3 + (2 : Int32)) L ∧ (vp_in (l3 + (3 : Int32)) L ∧ (jA S82 l2 12 ∧ (wX12_goes l2 (xs (l3 + (1 : Int32)).toNatClampNeg) (xs (l3 + (2 : Int32)).toNatClampNeg) (xs (l3 + (3 : Int32)).toNatClampNeg) S82 (fun r86 S85 => (r83 = r86 → wL_law_826 G X10 l1 l2 l3 rc rs L xs S85 Q) ∧ (¬ r83 = r86 → Q 0 S85)))))))))))) ∧ (¬ ((xs l3.toNatClampNeg) &&& (63 : Int32)) = 11 → (((xs l3.toNatClampNeg) &&& (63 : Int32)) = 12 → vp_in (l3 + (1 : Int32)) L ∧ (vp_in (l3 + (2 : Int32)) L ∧ (vp_in (l3 + (3 : Int32)) L ∧ (jA S l1 11 ∧ (wX11_of l1 (xs (l3 + (1 : Int32)).toNatClampNeg) (xs (l3 + (2 : Int32)).toNatClampNeg) (xs (l3 + (3 : Int32)).toNatClampNeg) S (fun r89 S88 => vp_in (l3 + (1 : Int32)) L ∧ (vp_in (l3 + (2 : Int32)) L ∧ (vp_in (l3 + (3 : Int32)) L ∧ (jA S88 l2 12 ∧ (wX12_of l2 (xs (l3 + (1 : Int32)).toNatClampNeg) (xs (l3 + (2 : Int32)).toNatClampNeg) (xs (l3 + (3 : Int32)).toNatClampNeg) S88 (fun r92 S91 => (r89 = r92 → wL_law_826 G X10 l1 l2 l3 rc rs L xs S91 Q) ∧ (¬ r89 = r92 → Q 0 S91)))))))))))) ∧ (¬ ((xs l3.toNatClampNeg) &&& (63 : Int32)) = 12 → (((xs l3.toNatClampNeg) &&& (63 : Int32)) = 13 → vp_in (l3 + (1 : Int32)) L ∧ (vp_in (l3 + (2 : Int32)) L ∧ (vp_in (l3 + (3 : Int32)) L ∧ (jA S l1 11 ∧ (wX11_will l1 (xs (l3 + (1 : Int32)).toNatClampNeg) (xs (l3 + (2 : Int32)).toNatClampNeg) (xs (l3 + (3 : Int32)).toNatClampNeg) S (fun r95 S94 => vp_in (l3 + (1 : Int32)) L ∧ (vp_in (l3 + (2 : Int32)) L ∧ (vp_in (l3 + (3 : Int32)) L ∧ (jA S94 l2 12 ∧ (wX12_will l2 (xs (l3 + (1 : Int32)).toNatClampNeg) (xs (l3 + (2 : Int32)).toNatClampNeg) (xs (l3 + (3 : Int32)).toNatClampNeg) S94 (fun r98 S97 => (r95 = r98 → wL_law_826 G X10 l1 l2 l3 rc rs L xs S97 Q) ∧ (¬ r95 = r98 → Q 0 S97)))))))))))) ∧ (¬ ((xs l3.toNatClampNeg) &&& (63 : Int32)) = 13 → (((xs l3.toNatClampNeg) &&& (63 : Int32)) = 14 → vp_in (l3 + (1 : Int32)) L ∧ (jA S l1 11 ∧ (wX11_oar l1 (xs (l3 + (1 : Int32)).toNatClampNeg) S (fun r101 S100 => vp_in (l3 + (1 : Int32)) L ∧ (jA S100 l2 12 ∧ (wX12_oar l2 (xs (l3 + (1 : Int32)).toNatClampNeg) S100 (fun r104 S103 => (r101 = r104 → wL_law_826 G X10 l1 l2 l3 rc rs L xs S103 Q) ∧ (¬ r101 = r104 → Q 0 S103)))))))) ∧ (¬ ((xs l3.toNatClampNeg) &&& (63 : Int32)) = 14 → (((xs l3.toNatClampNeg) &&& (63 : Int32)) = 15 → jA S l1 11 ∧ (wX11_unrow l1 S (fun r107 S106 => jA S106 l2 12 ∧ (wX12_unrow l2 S106 (fun r110 S109 => (r107 = r110 → wL_law_826 G X10 l1 l2 l3 rc rs L xs S109 Q) ∧ (¬ r107 = r110 → Q 0 S109)))))) ∧ (¬ ((xs l3.toNatClampNeg) &&& (63 : Int32)) = 15 → (((xs l3.toNatClampNeg) &&& (63 : Int32)) = 16 → vp_in (l3 + (1 : Int32)) L ∧ (jA S l1 11 ∧ (wX11_trail l1 (xs (l3 + (1 : Int32)).toNatClampNeg) S (fun r113 S112 => vp_in (l3 + (1 : Int32)) L ∧ (jA S112 l2 12 ∧ (wX12_trail l2 (xs (l3 + (1 : Int32)).toNatClampNeg) S112 (fun r116 S115 => (r113 = r116 → wL_law_826 G X10 l1 l2 l3 rc rs L xs S115 Q) ∧ (¬ r113 = r116 → Q 0 S115)))))))) ∧ (¬ ((xs l3.toNatClampNeg) &&& (63 : Int32)) = 16 → (((xs l3.toNatClampNeg) &&& (63 : Int32)) = 17 → jA S l1 11 ∧ (wX11_unwarned l1 S (fun r119 S118 => jA S118 l2 12 ∧ (wX12_unwarned l2 S118 (fun r122 S121 => (r119 = r122 → wL_law_826 G X10 l1 l2 l3 rc rs L xs S121 Q) ∧ (¬ r119 = r122 → Q 0 S121)))))) ∧ (¬ ((xs l3.toNatClampNeg) &&& (63 : Int32)) = 17 → (((xs l3.toNatClampNeg) &&& (63 : Int32)) = 18 → vp_in (l3 + (1 : Int32)) L ∧ (vp_in (l3 + (2 : Int32)) L ∧ (vp_in (l3 + (3 : Int32)) L ∧ (jA S l1 11 ∧ (wX11_report l1 (xs (l3 + (1 : Int32)).toNatClampNeg) (xs (l3 + (2 : Int32)).toNatClampNeg) (xs (l3 + (3 : Int32)).toNatClampNeg) S (fun r125 S124 => vp_in (l3 + (1 : Int32)) L ∧ (vp_in (l3 + (2 : Int32)) L ∧ (vp_in (l3 + (3 : Int32)) L ∧ (jA S124 l2 12 ∧ (wX12_report l2 (xs (l3 + (1 : Int32)).toNatClampNeg) (xs (l3 + (2 : Int32)).toNatClampNeg) (xs (l3 + (3 : Int32)).toNatClampNeg) S124 (fun r128 S127 => (r125 = r128 → wL_law_826 G X10 l1 l2 l3 rc rs L xs S127 Q) ∧ (¬ r125 = r128 → Q 0 S127)))))))))))) ∧ (¬ ((xs l3.toNatClampNeg) &&& (63 : Int32)) = 18 → (((xs l3.toNatClampNeg) &&& (63 : Int32)) = 19 → vp_in (l3 + (1 : Int32)) L ∧ (jA S l1 11 ∧ (wX11_burn l1 (xs (l3 + (1 : Int32)).toNatClampNeg) S (fun r131 S130 => vp_in (l3 + (1 : Int32)) L ∧ (jA S130 l2 12 ∧ (wX12_burn l2 (xs (l3 + (1 : Int32)).toNatClampNeg) S130 (fun r134 S133 => (r131 = r134 → wL_law_826 G X10 l1 l2 l3 rc rs L xs S133 Q) ∧ (¬ r131 = r134 → Q 0 S133)))))))) ∧ (¬ ((xs l3.toNatClampNeg) &&& (63 : Int32)) = 19 → (((xs l3.toNatClampNeg) &&& (63 : Int32)) = 20 → vp_in (l3 + (1 : Int32)) L ∧ (jA S l1 11 ∧ (wX11_could l1 (xs (l3 + (1 : Int32)).toNatClampNeg) S (fun r137 S136 => vp_in (l3 + (1 : Int32)) L ∧ (jA S136 l2 12 ∧ (wX12_could l2 (xs (l3 + (1 : Int32)).toNatClampNeg) S136 (fun r140 S139 => (r137 = r140 → wL_law_826 G X10 l1 l2 l3 rc rs L xs S139 Q) ∧ (¬ r137 = r140 → Q 0 S139)))))))) ∧ (¬ ((xs l3.toNatClampNeg) &&& (63 : Int32)) = 20 → (((xs l3.toNatClampNeg) &&& (63 : Int32)) = 21 → jA S l1 11 ∧ (wX11_lies l1 S (fun r143 S142 => jA S142 l2 12 ∧ (wX12_lies l2 S142 (fun r146 S145 => (r143 = r146 → wL_law_826 G X10 l1 l2 l3 rc rs L xs S145 Q) ∧ (¬ r143 = r146 → Q 0 S145)))))) ∧ (¬ ((xs l3.toNatClampNeg) &&& (63 : Int32)) = 21 → (((xs l3.toNatClampNeg) &&& (63 : Int32)) = 22 → jA S l1 11 ∧ (wX11_ways l1 S (fun r149 S148 => jA S148 l2 12 ∧ (wX12_ways l2 S148 (fun r152 S151 => ((lg_cmp r149 r152) = 0 → wL_law_826 G X10 l1 l2 l3 rc rs L xs S151 Q) ∧ (¬ (lg_cmp r149 r152) = 0 → Q 0 S151)))))) ∧ (¬ ((xs l3.toNatClampNeg) &&& (63 : Int32)) = 22 → (((xs l3.toNatClampNeg) &&& (63 : Int32)) = 23 → vp_in (l3 + (1 : Int32)) L ∧ (vp_in (l3 + (2 : Int32)) L ∧ (jA S l1 11 ∧ (wX11_likely l1 (xs (l3 + (1 : Int32)).toNatClampNeg) (xs (l3 + (2 : Int32)).toNatClampNeg) S (fun r155 S154 => vp_in (l3 + (1 : Int32)) L ∧ (vp_in (l3 + (2 : Int32)) L ∧ (jA S154 l2 12 ∧ (wX12_likely l2 (xs (l3 + (1 : Int32)).toNatClampNeg) (xs (l3 + (2 : Int32)).toNatClampNeg) S154 (fun r158 S157 => (r155 = r158 → wL_law_826 G X10 l1 l2 l3 rc rs L xs S157 Q) ∧ (¬ r155 = r158 → Q 0 S157)))))))))) ∧ (¬ ((xs l3.toNatClampNeg) &&& (63 : Int32)) = 23 → (((xs l3.toNatClampNeg) &&& (63 : Int32)) = 24 → vp_in (l3 + (1 : Int32)) L ∧ (jA S l1 11 ∧ (wX11_liars l1 (xs (l3 + (1 : Int32)).toNatClampNeg) S (fun r161 S160 => vp_in (l3 + (1 : Int32)) L ∧ (jA S160 l2 12 ∧ (wX12_liars l2 (xs (l3 + (1 : Int32)).toNatClampNeg) S160 (fun r164 S163 => (r161 = r164 → wL_law_826 G X10 l1 l2 l3 rc rs L xs S163 Q) ∧ (¬ r161 = r164 → Q 0 S163)))))))) ∧ (¬ ((xs l3.toNatClampNeg) &&& (63 : Int32)) = 24 → (((xs l3.toNatClampNeg) &&& (63 : Int32)) = 25 → vp_in (l3 + (1 : Int32)) L ∧ (vp_in (l3 + (2 : Int32)) L ∧ (vp_in (l3 + (3 : Int32)) L ∧ (vp_in (l3 + (4 : Int32)) L ∧ (jA S l1 11 ∧ (wX11_round l1 (xs (l3 + (1 : Int32)).toNatClampNeg) (xs (l3 + (2 : Int32)).toNatClampNeg) (xs (l3 + (3 : Int32)).toNatClampNeg) (xs (l3 + (4 : Int32)).toNatClampNeg) S (fun r167 S166 => vp_in (l3 + (1 : Int32)) L ∧ (vp_in (l3 + (2 : Int32)) L ∧ (vp_in (l3 + (3 : Int32)) L ∧ (vp_in (l3 + (4 : Int32)) L ∧ (jA S166 l2 12 ∧ (wX12_round l2 (xs (l3 + (1 : Int32)).toNatClampNeg) (xs (l3 + (2 : Int32)).toNatClampNeg) (xs (l3 + (3 : Int32)).toNatClampNeg) (xs (l3 + (4 : Int32)).toNatClampNeg) S166 (fun r170 S169 => (r167 = r170 → wL_law_826 G X10 l1 l2 l3 rc rs L xs S169 Q) ∧ (¬ r167 = r170 → Q 0 S169)))))))))))))) ∧ (¬ ((xs l3.toNatClampNeg) &&& (63 : Int32)) = 25 → (((xs l3.toNatClampNeg) &&& (63 : Int32)) = 26 → vp_in (l3 + (1 : Int32)) L ∧ (vp_in (l3 + (2 : Int32)) L ∧ (vp_in (l3 + (3 : Int32)) L ∧ (jA S l1 11 ∧ (wX11_reach l1 (xs (l3 + (1 : Int32)).toNatClampNeg) (xs (l3 + (2 : Int32)).toNatClampNeg) (xs (l3 + (3 : Int32)).toNatClampNeg) S (fun r173 S172 => vp_in (l3 + (1 : Int32)) L ∧ (vp_in (l3 + (2 : Int32)) L ∧ (vp_in (l3 + (3 : Int32)) L ∧ (jA S172 l2 12 ∧ (wX12_reach l2 (xs (l3 + (1 : Int32)).toNatClampNeg) (xs (l3 + (2 : Int32)).toNatClampNeg) (xs (l3 + (3 : Int32)).toNatClampNeg) S172 (fun r176 S175 => (r173 = r176 → wL_law_826 G X10 l1 l2 l3 rc rs L xs S175 Q) ∧ (¬ r173 = r176 → Q 0 S175)))))))))))) ∧ (¬ ((xs l3.toNatClampNeg) &&& (63 : Int32)) = 26 → (((xs l3.toNatClampNeg) &&& (63 : Int32)) = 27 → vp_in (l3 + (1 : Int32)) L ∧ (vp_in (l3 + (2 : Int32)) L ∧ (vp_in (l3 + (3 : Int32)) L ∧ (vp_in (l3 + (4 : Int32)) L ∧ (jA S l1 11 ∧ (wX11_guard l1 (xs (l3 + (1 : Int32)).toNatClampNeg) (xs (l3 + (2 : Int32)).toNatClampNeg) (xs (l3 + (3 : Int32)).toNatClampNeg) (xs (l3 + (4 : Int32)).toNatClampNeg) S (fun r179 S178 => vp_in (l3 + (1 : Int32)) L ∧ (vp_in (l3 + (2 : Int32)) L ∧ (vp_in (l3 + (3 : Int32)) L ∧ (vp_in (l3 + (4 : Int32)) L ∧ (jA S178 l2 12 ∧ (wX12_guard l2 (xs (l3 + (1 : Int32)).toNatClampNeg) (xs (l3 + (2 : Int32)).toNatClampNeg) (xs (l3 + (3 : Int32)).toNatClampNeg) (xs (l3 + (4 : Int32)).toNatClampNeg) S178 (fun r182 S181 => (r179 = r182 → wL_law_826 G X10 l1 l2 l3 rc rs L xs S181 Q) ∧ (¬ r179 = r182 → Q 0 S181)))))))))))))) ∧ (¬ ((xs l3.toNatClampNeg) &&& (63 : Int32)) = 27 → (((xs l3.toNatClampNeg) &&& (63 : Int32)) = 28 → vp_in (l3 + (1 : Int32)) L ∧ (vp_in (l3 + (2 : Int32)) L ∧ (jA S l1 11 ∧ (wX11_sea l1 (xs (l3 + (1 : Int32)).toNatClampNeg) (xs (l3 + (2 : Int32)).toNatClampNeg) S (fun r185 S184 => vp_in (l3 + (1 : Int32)) L ∧ (vp_in (l3 + (2 : Int32)) L ∧ (jA S184 l2 12 ∧ (wX12_sea l2 (xs (l3 + (1 : Int32)).toNatClampNeg) (xs (l3 + (2 : Int32)).toNatClampNeg) S184 (fun r188 S187 => (r185 = r188 → wL_law_826 G X10 l1 l2 l3 rc rs L xs S187 Q) ∧ (¬ r185 = r188 → Q 0 S187)))))))))) ∧ (¬ ((xs l3.toNatClampNeg) &&& (63 : Int32)) = 28 → (((xs l3.toNatClampNeg) &&& (63 : Int32)) = 29 → vp_in (l3 + (1 : Int32)) L ∧ (vp_in (l3 + (2 : Int32)) L ∧ (jA S l1 11 ∧ (wX11_search l1 (xs (l3 + (1 : Int32)).toNatClampNeg) (xs (l3 + (2 : Int32)).toNatClampNeg) S (fun r191 S190 => vp_in (l3 + (1 : Int32)) L ∧ (vp_in (l3 + (2 : Int32)) L ∧ (jA S190 l2 12 ∧ (wX12_search l2 (xs (l3 + (1 : Int32)).toNatClampNeg) (xs (l3 + (2 : Int32)).toNatClampNeg) S190 (fun r194 S193 => ((lg_cmp r191 r194) = 0 → wL_law_826 G X10 l1 l2 l3 rc rs L xs S193 Q) ∧ (¬ (lg_cmp r191 r194) = 0 → Q 0 S193)))))))))) ∧ (¬ ((xs l3.toNatClampNeg) &&& (63 : Int32)) = 29 → (((xs l3.toNatClampNeg) &&& (63 : Int32)) = 30 → vp_in (l3 + (1 : Int32)) L ∧ (vp_in (l3 + (2 : Int32)) L ∧ (jA S l1 11 ∧ (wX11_year l1 (xs (l3 + (1 : Int32)).toNatClampNeg) (xs (l3 + (2 : Int32)).toNatClampNeg) S (fun r197 S196 => vp_in (l3 + (1 : Int32)) L ∧ (vp_in (l3 + (2 : Int32)) L ∧ (jA S196 l2 12 ∧ (wX12_year l2 (xs (l3 + (1 : Int32)).toNatClampNeg) (xs (l3 + (2 : Int32)).toNatClampNeg) S196 (fun r200 S199 => (r197 = r200 → wL_law_826 G X10 l1 l2 l3 rc rs L xs S199 Q) ∧ (¬ r197 = r200 → Q 0 S199)))))))))) ∧ (¬ ((xs l3.toNatClampNeg) &&& (63 : Int32)) = 30 → (((xs l3.toNatClampNeg) &&& (63 : Int32)) = 31 → vp_in (l3 + (1 : Int32)) L ∧ (jA S l1 11 ∧ (wX11_drawn l1 (xs (l3 + (1 : Int32)).toNatClampNeg) S (fun r203 S202 => vp_in (l3 + (1 : Int32)) L ∧ (jA S202 l2 12 ∧ (wX12_drawn l2 (xs (l3 + (1 : Int32)).toNatClampNeg) S202 (fun r206 S205 => (r203 = r206 → wL_law_826 G X10 l1 l2 l3 rc rs L xs S205 Q) ∧ (¬ r203 = r206 → Q 0 S205)))))))) ∧ (¬ ((xs l3.toNatClampNeg) &&& (63 : Int32)) = 31 → (((xs l3.toNatClampNeg) &&& (63 : Int32)) = 32 → vp_in (l3 + (1 : Int32)) L ∧ (jA S l1 11 ∧ (12 ≤ rc ∧ (194 ≤ rs ∧ (wX11_image l1 (xs (l3 + (1 : Int32)).toNatClampNeg) S (fun r209 S208 => vp_in (l3 + (1 : Int32)) L ∧ (jA S208 l2 12 ∧ (wX12_image l2 (xs (l3 + (1 : Int32)).toNatClampNeg) S208 (fun r214 S213 => (r209 = r214 → wL_law_826 G X10 l1 l2 l3 (rc - 12) (rs - 194) L xs S213 Q) ∧ (¬ r209 = r214 → Q 0 S213)))))))))) ∧ (¬ ((xs l3.toNatClampNeg) &&& (63 : Int32)) = 32 → (((xs l3.toNatClampNeg) &&& (63 : Int32)) = 33 → vp_in (l3 + (1 : Int32)) L ∧ (jA S l1 11 ∧ (wX11_back l1 (xs (l3 + (1 : Int32)).toNatClampNeg) S (fun r217 S216 => vp_in (l3 + (1 : Int32)) L ∧ (jA S216 l2 12 ∧ (wX12_back l2 (xs (l3 + (1 : Int32)).toNatClampNeg) S216 (fun r220 S219 => (r217 = r220 → wL_law_826 G X10 l1 l2 l3 rc rs L xs S219 Q) ∧ (¬ r217 = r220 → Q 0 S219)))))))) ∧ (¬ ((xs l3.toNatClampNeg) &&& (63 : Int32)) = 33 → (((xs l3.toNatClampNeg) &&& (63 : Int32)) = 34 → vp_in (l3 + (1 : Int32)) L ∧ (jA S l1 11 ∧ (wX11_count l1 (xs (l3 + (1 : Int32)).toNatClampNeg) S (fun r223 S222 => vp_in (l3 + (1 : Int32)) L ∧ (jA S222 l2 12 ∧ (wX12_count l2 (xs (l3 + (1 : Int32)).toNatClampNeg) S222 (fun r226 S225 => (r223 = r226 → wL_law_826 G X10 l1 l2 l3 rc rs L xs S225 Q) ∧ (¬ r223 = r226 → Q 0 S225)))))))) ∧ (¬ ((xs l3.toNatClampNeg) &&& (63 : Int32)) = 34 → (((xs l3.toNatClampNeg) &&& (63 : Int32)) = 35 → jA S l1 11 ∧ (wX11_status l1 S (fun r229 S228 => jA S228 l2 12 ∧ (wX12_status l2 S228 (fun r232 S231 => (r229 = r232 → wL_law_826 G X10 l1 l2 l3 rc rs L xs S231 Q) ∧ (¬ r229 = r232 → Q 0 S231)))))) ∧ (¬ ((xs l3.toNatClampNeg) &&& (63 : Int32)) = 35 → wL_law_826 G X10 l1 l2 l3 rc rs L xs S Q))))))))))))))))))))))))))))))))))))))
set_option maxRecDepth 20000 in
theorem uL_law_10 {Q : Int32 → JS → Prop} {G : Nat → List Value → JS → (Option Value → JS → Prop) → Prop} {L : Nat} {xs : Nat → Int32}  (d : Nat) (hd : 9 ≤ d) (hG : ∀ k args S Q, G k args S Q → jCall jmt jbud d k args S Q) {X10 : Nat → Nat → Int32 → Nat → Nat → JS → Prop} (hX10 : ∀ l1 l2 l3 rc rs S, X10 l1 l2 l3 rc rs S → jLf (jCall jmt jbud d) jbud (fun j => (jmt j).rk) (some (L, xs)) mL_law (jqI Q) (10, [some (.ref jX), some (.ref l1), some (.ref l2), some (.int l3)], [], S, rc, rs)) {l1 : Nat} {l2 : Nat} {l3 : Int32} {rc : Nat} {rs : Nat} {S : JS} (h : bL_law_10 G X10 l1 l2 l3 rc rs L xs S Q) : jLf (jCall jmt jbud d) jbud (fun j => (jmt j).rk) (some (L, xs)) mL_law (jqI Q) (10, [some (.ref jX), some (.ref l1), some (.ref l2), some (.int l3)], [], S, rc, rs) := by
  have hc := jCall_mono jmt jbud d
  unfold bL_law_10 at h
  refine jLf.bk hc 2 [] [some (.ref jX), some (.ref l1), some (.ref l2), some (.int l3)] [.ref jX, .int l3] S rfl rfl rfl trivial ?_
  refine jLf.one hc _ rfl (gs := [jX = jX]) (c := (13, [some (.ref jX), some (.ref l1), some (.ref l2), some (.int l3)], [.int (Int32.ofNat L), .int l3], S, rc, rs)) rfl rfl ?_
  refine jLf.bk hc 2 [] [some (.ref jX), some (.ref l1), some (.ref l2), some (.int l3)] [.int ((Int32.ofNat L) - (6 : Int32)), .int l3] S rfl rfl rfl trivial ?_
  refine jLf.two hc _ rfl (gs := []) (p1 := ((Int32.ofNat L) - (6 : Int32)) < l3) (p2 := ¬ (((Int32.ofNat L) - (6 : Int32)) < l3)) (c1 := (828, [some (.ref jX), some (.ref l1), some (.ref l2), some (.int l3)], [], S, rc, rs)) (c2 := (16, [some (.ref jX), some (.ref l1), some (.ref l2), some (.int l3)], [], S, rc, rs)) rfl trivial (fun hz => ?_) (fun hz => ?_)
  · have h := h.1 hz
    refine jLf.bk hc 1 [] [some (.ref jX), some (.ref l1), some (.ref l2), some (.int l3)] [.int 1] S rfl rfl rfl trivial ?_
    exact jLf.ret hc _ rfl (gs := [jbit 1]) (v := some (.int 1)) rfl (Or.inr rfl) ⟨_, rfl, h⟩
  · have h := h.2 hz
    refine jLf.bk hc 2 [] [some (.ref jX), some (.ref l1), some (.ref l2), some (.int l3)] [.int l3, .ref jX] S rfl rfl rfl trivial ?_
    obtain ⟨gb, h⟩ := h
    refine jLf.one hc _ rfl (gs := [jX = jX, vp_in l3 L]) (c := (19, [some (.ref jX), some (.ref l1), some (.ref l2), some (.int l3)], [.int (xs l3.toNatClampNeg)], S, rc, rs)) rfl ⟨rfl, gb⟩ ?_
    refine jLf.bk hc 2 [] [some (.ref jX), some (.ref l1), some (.ref l2), some (.int l3)] [.int ((xs l3.toNatClampNeg) &&& (63 : Int32))] S rfl rfl rfl trivial ?_
    refine jLf.sw hc _ rfl rfl (by decide +kernel) ?_
    refine ⟨fun hz => ?_, fun hz => ?_⟩
    · have h := h.1 hz
      show jLf (jCall jmt jbud d) jbud (fun j => (jmt j).rk) (some (L, xs)) mL_law (jqI Q) (22, [some (.ref jX), some (.ref l1), some (.ref l2), some (.int l3)], [], S, rc, rs)
      refine jLf.bk hc 5 [] [some (.ref jX), some (.ref l1), some (.ref l2), some (.int l3)] [.int (l3 + (1 : Int32)), .ref jX, .ref l1] S rfl rfl rfl trivial ?_
      obtain ⟨gb, h⟩ := h
      refine jLf.one hc _ rfl (gs := [jX = jX, vp_in (l3 + (1 : Int32)) L]) (c := (28, [some (.ref jX), some (.ref l1), some (.ref l2), some (.int l3)], [.int (xs (l3 + (1 : Int32)).toNatClampNeg), .ref l1], S, rc, rs)) rfl ⟨rfl, gb⟩ ?_
      refine jLf.bk hc 4 [] [some (.ref jX), some (.ref l1), some (.ref l2), some (.int l3)] [.int (l3 + (2 : Int32)), .ref jX, .int (xs (l3 + (1 : Int32)).toNatClampNeg), .ref l1] S rfl rfl rfl trivial ?_
      obtain ⟨gb, h⟩ := h
      refine jLf.one hc _ rfl (gs := [jX = jX, vp_in (l3 + (2 : Int32)) L]) (c := (33, [some (.ref jX), some (.ref l1), some (.ref l2), some (.int l3)], [.int (xs (l3 + (2 : Int32)).toNatClampNeg), .int (xs (l3 + (1 : Int32)).toNatClampNeg), .ref l1], S, rc, rs)) rfl ⟨rfl, gb⟩ ?_
      obtain ⟨g15, h⟩ := h
      refine jLf.inv hc _ rfl (gs := [jA S l1 11, (([] : List Value).map fun v => v.category).sum ≤ 8, 0 ≤ rc, 0 ≤ rs]) (k := 101) (args := [.ref l1, .int (xs (l3 + (1 : Int32)).toNatClampNeg), .int (xs (l3 + (2 : Int32)).toNatClampNeg)]) (r := []) (a := rc) (b := rs) rfl ⟨g15, Nat.le_of_ble_eq_true rfl, Nat.zero_le _, Nat.zero_le _⟩ (vX11_terms d (by omega) h) ?_
      rintro v S13 ⟨r14, rfl, h⟩
      show jLf (jCall jmt jbud d) jbud (fun j => (jmt j).rk) (some (L, xs)) mL_law (jqI Q) (34, [some (.ref jX), some (.ref l1), some (.ref l2), some (.int l3)], [.int r14], S13, rc, rs)
      refine jLf.bk hc 5 [] [some (.ref jX), some (.ref l1), some (.ref l2), some (.int l3)] [.int (l3 + (1 : Int32)), .ref jX, .ref l2, .int r14] S13 rfl rfl rfl trivial ?_
      obtain ⟨gb, h⟩ := h
      refine jLf.one hc _ rfl (gs := [jX = jX, vp_in (l3 + (1 : Int32)) L]) (c := (40, [some (.ref jX), some (.ref l1), some (.ref l2), some (.int l3)], [.int (xs (l3 + (1 : Int32)).toNatClampNeg), .ref l2, .int r14], S13, rc, rs)) rfl ⟨rfl, gb⟩ ?_
      refine jLf.bk hc 4 [] [some (.ref jX), some (.ref l1), some (.ref l2), some (.int l3)] [.int (l3 + (2 : Int32)), .ref jX, .int (xs (l3 + (1 : Int32)).toNatClampNeg), .ref l2, .int r14] S13 rfl rfl rfl trivial ?_
      obtain ⟨gb, h⟩ := h
      refine jLf.one hc _ rfl (gs := [jX = jX, vp_in (l3 + (2 : Int32)) L]) (c := (45, [some (.ref jX), some (.ref l1), some (.ref l2), some (.int l3)], [.int (xs (l3 + (2 : Int32)).toNatClampNeg), .int (xs (l3 + (1 : Int32)).toNatClampNeg), .ref l2, .int r14], S13, rc, rs)) rfl ⟨rfl, gb⟩ ?_
      obtain ⟨g18, h⟩ := h
      refine jLf.inv hc _ rfl (gs := [jA S13 l2 12, (([.int r14] : List Value).map fun v => v.category).sum ≤ 8, 0 ≤ rc, 0 ≤ rs]) (k := 157) (args := [.ref l2, .int (xs (l3 + (1 : Int32)).toNatClampNeg), .int (xs (l3 + (2 : Int32)).toNatClampNeg)]) (r := [.int r14]) (a := rc) (b := rs) rfl ⟨g18, Nat.le_of_ble_eq_true rfl, Nat.zero_le _, Nat.zero_le _⟩ (vX12_terms d (by omega) h) ?_
      rintro v S16 ⟨r17, rfl, h⟩
      show jLf (jCall jmt jbud d) jbud (fun j => (jmt j).rk) (some (L, xs)) mL_law (jqI Q) (46, [some (.ref jX), some (.ref l1), some (.ref l2), some (.int l3)], [.int r17, .int r14], S16, rc, rs)
      refine jLf.two hc _ rfl (gs := []) (p1 := r14 = r17) (p2 := ¬ (r14 = r17)) (c1 := (826, [some (.ref jX), some (.ref l1), some (.ref l2), some (.int l3)], [], S16, rc, rs)) (c2 := (47, [some (.ref jX), some (.ref l1), some (.ref l2), some (.int l3)], [], S16, rc, rs)) rfl trivial (fun hz => ?_) (fun hz => ?_)
      · have h := h.1 hz
        exact tL_law_826 d hd hG hX10 h
      · have h := h.2 hz
        refine jLf.bk hc 1 [] [some (.ref jX), some (.ref l1), some (.ref l2), some (.int l3)] [.int 0] S16 rfl rfl rfl trivial ?_
        exact jLf.ret hc _ rfl (gs := [jbit 0]) (v := some (.int 0)) rfl (Or.inl rfl) ⟨_, rfl, h⟩
    have h := h.2 hz
    refine ⟨fun hz => ?_, fun hz => ?_⟩
    · have h := h.1 hz
      show jLf (jCall jmt jbud d) jbud (fun j => (jmt j).rk) (some (L, xs)) mL_law (jqI Q) (49, [some (.ref jX), some (.ref l1), some (.ref l2), some (.int l3)], [], S, rc, rs)
      refine jLf.bk hc 5 [] [some (.ref jX), some (.ref l1), some (.ref l2), some (.int l3)] [.int (l3 + (1 : Int32)), .ref jX, .ref l1] S rfl rfl rfl trivial ?_
      obtain ⟨gb, h⟩ := h
      refine jLf.one hc _ rfl (gs := [jX = jX, vp_in (l3 + (1 : Int32)) L]) (c := (55, [some (.ref jX), some (.ref l1), some (.ref l2), some (.int l3)], [.int (xs (l3 + (1 : Int32)).toNatClampNeg), .ref l1], S, rc, rs)) rfl ⟨rfl, gb⟩ ?_
      refine jLf.bk hc 4 [] [some (.ref jX), some (.ref l1), some (.ref l2), some (.int l3)] [.int (l3 + (2 : Int32)), .ref jX, .int (xs (l3 + (1 : Int32)).toNatClampNeg), .ref l1] S rfl rfl rfl trivial ?_
      obtain ⟨gb, h⟩ := h
      refine jLf.one hc _ rfl (gs := [jX = jX, vp_in (l3 + (2 : Int32)) L]) (c := (60, [some (.ref jX), some (.ref l1), some (.ref l2), some (.int l3)], [.int (xs (l3 + (2 : Int32)).toNatClampNeg), .int (xs (l3 + (1 : Int32)).toNatClampNeg), .ref l1], S, rc, rs)) rfl ⟨rfl, gb⟩ ?_
      obtain ⟨g22, h⟩ := h
      refine jLf.inv hc _ rfl (gs := [jA S l1 11, (([] : List Value).map fun v => v.category).sum ≤ 8, 0 ≤ rc, 0 ≤ rs]) (k := 102) (args := [.ref l1, .int (xs (l3 + (1 : Int32)).toNatClampNeg), .int (xs (l3 + (2 : Int32)).toNatClampNeg)]) (r := []) (a := rc) (b := rs) rfl ⟨g22, Nat.le_of_ble_eq_true rfl, Nat.zero_le _, Nat.zero_le _⟩ (vX11_storm d (by omega) h) ?_
      rintro v S20 ⟨r21, rfl, h⟩
      show jLf (jCall jmt jbud d) jbud (fun j => (jmt j).rk) (some (L, xs)) mL_law (jqI Q) (61, [some (.ref jX), some (.ref l1), some (.ref l2), some (.int l3)], [.int r21], S20, rc, rs)
      refine jLf.bk hc 5 [] [some (.ref jX), some (.ref l1), some (.ref l2), some (.int l3)] [.int (l3 + (1 : Int32)), .ref jX, .ref l2, .int r21] S20 rfl rfl rfl trivial ?_
      obtain ⟨gb, h⟩ := h
      refine jLf.one hc _ rfl (gs := [jX = jX, vp_in (l3 + (1 : Int32)) L]) (c := (67, [some (.ref jX), some (.ref l1), some (.ref l2), some (.int l3)], [.int (xs (l3 + (1 : Int32)).toNatClampNeg), .ref l2, .int r21], S20, rc, rs)) rfl ⟨rfl, gb⟩ ?_
      refine jLf.bk hc 4 [] [some (.ref jX), some (.ref l1), some (.ref l2), some (.int l3)] [.int (l3 + (2 : Int32)), .ref jX, .int (xs (l3 + (1 : Int32)).toNatClampNeg), .ref l2, .int r21] S20 rfl rfl rfl trivial ?_
      obtain ⟨gb, h⟩ := h
      refine jLf.one hc _ rfl (gs := [jX = jX, vp_in (l3 + (2 : Int32)) L]) (c := (72, [some (.ref jX), some (.ref l1), some (.ref l2), some (.int l3)], [.int (xs (l3 + (2 : Int32)).toNatClampNeg), .int (xs (l3 + (1 : Int32)).toNatClampNeg), .ref l2, .int r21], S20, rc, rs)) rfl ⟨rfl, gb⟩ ?_
      obtain ⟨g25, h⟩ := h
      refine jLf.inv hc _ rfl (gs := [jA S20 l2 12, (([.int r21] : List Value).map fun v => v.category).sum ≤ 8, 0 ≤ rc, 0 ≤ rs]) (k := 158) (args := [.ref l2, .int (xs (l3 + (1 : Int32)).toNatClampNeg), .int (xs (l3 + (2 : Int32)).toNatClampNeg)]) (r := [.int r21]) (a := rc) (b := rs) rfl ⟨g25, Nat.le_of_ble_eq_true rfl, Nat.zero_le _, Nat.zero_le _⟩ (vX12_storm d (by omega) h) ?_
      rintro v S23 ⟨r24, rfl, h⟩
      show jLf (jCall jmt jbud d) jbud (fun j => (jmt j).rk) (some (L, xs)) mL_law (jqI Q) (73, [some (.ref jX), some (.ref l1), some (.ref l2), some (.int l3)], [.int r24, .int r21], S23, rc, rs)
      refine jLf.two hc _ rfl (gs := []) (p1 := r21 = r24) (p2 := ¬ (r21 = r24)) (c1 := (826, [some (.ref jX), some (.ref l1), some (.ref l2), some (.int l3)], [], S23, rc, rs)) (c2 := (74, [some (.ref jX), some (.ref l1), some (.ref l2), some (.int l3)], [], S23, rc, rs)) rfl trivial (fun hz => ?_) (fun hz => ?_)
      · have h := h.1 hz
        exact tL_law_826 d hd hG hX10 h
      · have h := h.2 hz
        refine jLf.bk hc 1 [] [some (.ref jX), some (.ref l1), some (.ref l2), some (.int l3)] [.int 0] S23 rfl rfl rfl trivial ?_
        exact jLf.ret hc _ rfl (gs := [jbit 0]) (v := some (.int 0)) rfl (Or.inl rfl) ⟨_, rfl, h⟩
    have h := h.2 hz
    refine ⟨fun hz => ?_, fun hz => ?_⟩
    · have h := h.1 hz
      show jLf (jCall jmt jbud d) jbud (fun j => (jmt j).rk) (some (L, xs)) mL_law (jqI Q) (76, [some (.ref jX), some (.ref l1), some (.ref l2), some (.int l3)], [], S, rc, rs)
      refine jLf.bk hc 5 [] [some (.ref jX), some (.ref l1), some (.ref l2), some (.int l3)] [.int (l3 + (1 : Int32)), .ref jX, .ref l1] S rfl rfl rfl trivial ?_
      obtain ⟨gb, h⟩ := h
      refine jLf.one hc _ rfl (gs := [jX = jX, vp_in (l3 + (1 : Int32)) L]) (c := (82, [some (.ref jX), some (.ref l1), some (.ref l2), some (.int l3)], [.int (xs (l3 + (1 : Int32)).toNatClampNeg), .ref l1], S, rc, rs)) rfl ⟨rfl, gb⟩ ?_
      refine jLf.bk hc 4 [] [some (.ref jX), some (.ref l1), some (.ref l2), some (.int l3)] [.int (l3 + (2 : Int32)), .ref jX, .int (xs (l3 + (1 : Int32)).toNatClampNeg), .ref l1] S rfl rfl rfl trivial ?_
      obtain ⟨gb, h⟩ := h
      refine jLf.one hc _ rfl (gs := [jX = jX, vp_in (l3 + (2 : Int32)) L]) (c := (87, [some (.ref jX), some (.ref l1), some (.ref l2), some (.int l3)], [.int (xs (l3 + (2 : Int32)).toNatClampNeg), .int (xs (l3 + (1 : Int32)).toNatClampNeg), .ref l1], S, rc, rs)) rfl ⟨rfl, gb⟩ ?_
      refine jLf.bk hc 4 [] [some (.ref jX), some (.ref l1), some (.ref l2), some (.int l3)] [.int (l3 + (3 : Int32)), .ref jX, .int (xs (l3 + (2 : Int32)).toNatClampNeg), .int (xs (l3 + (1 : Int32)).toNatClampNeg), .ref l1] S rfl rfl rfl trivial ?_
      obtain ⟨gb, h⟩ := h
      refine jLf.one hc _ rfl (gs := [jX = jX, vp_in (l3 + (3 : Int32)) L]) (c := (92, [some (.ref jX), some (.ref l1), some (.ref l2), some (.int l3)], [.int (xs (l3 + (3 : Int32)).toNatClampNeg), .int (xs (l3 + (2 : Int32)).toNatClampNeg), .int (xs (l3 + (1 : Int32)).toNatClampNeg), .ref l1], S, rc, rs)) rfl ⟨rfl, gb⟩ ?_
      obtain ⟨g28, h⟩ := h
      refine jLf.inv hc _ rfl (gs := [jA S l1 11, (([] : List Value).map fun v => v.category).sum ≤ 8, 0 ≤ rc, 0 ≤ rs]) (k := 103) (args := [.ref l1, .int (xs (l3 + (1 : Int32)).toNatClampNeg), .int (xs (l3 + (2 : Int32)).toNatClampNeg), .int (xs (l3 + (3 : Int32)).toNatClampNeg)]) (r := []) (a := rc) (b := rs) rfl ⟨g28, Nat.le_of_ble_eq_true rfl, Nat.zero_le _, Nat.zero_le _⟩ (vX11_wed d (by omega) h) ?_
      rintro v S26 ⟨r27, rfl, h⟩
      show jLf (jCall jmt jbud d) jbud (fun j => (jmt j).rk) (some (L, xs)) mL_law (jqI Q) (93, [some (.ref jX), some (.ref l1), some (.ref l2), some (.int l3)], [.int r27], S26, rc, rs)
      refine jLf.bk hc 5 [] [some (.ref jX), some (.ref l1), some (.ref l2), some (.int l3)] [.int (l3 + (1 : Int32)), .ref jX, .ref l2, .int r27] S26 rfl rfl rfl trivial ?_
      obtain ⟨gb, h⟩ := h
      refine jLf.one hc _ rfl (gs := [jX = jX, vp_in (l3 + (1 : Int32)) L]) (c := (99, [some (.ref jX), some (.ref l1), some (.ref l2), some (.int l3)], [.int (xs (l3 + (1 : Int32)).toNatClampNeg), .ref l2, .int r27], S26, rc, rs)) rfl ⟨rfl, gb⟩ ?_
      refine jLf.bk hc 4 [] [some (.ref jX), some (.ref l1), some (.ref l2), some (.int l3)] [.int (l3 + (2 : Int32)), .ref jX, .int (xs (l3 + (1 : Int32)).toNatClampNeg), .ref l2, .int r27] S26 rfl rfl rfl trivial ?_
      obtain ⟨gb, h⟩ := h
      refine jLf.one hc _ rfl (gs := [jX = jX, vp_in (l3 + (2 : Int32)) L]) (c := (104, [some (.ref jX), some (.ref l1), some (.ref l2), some (.int l3)], [.int (xs (l3 + (2 : Int32)).toNatClampNeg), .int (xs (l3 + (1 : Int32)).toNatClampNeg), .ref l2, .int r27], S26, rc, rs)) rfl ⟨rfl, gb⟩ ?_
      refine jLf.bk hc 4 [] [some (.ref jX), some (.ref l1), some (.ref l2), some (.int l3)] [.int (l3 + (3 : Int32)), .ref jX, .int (xs (l3 + (2 : Int32)).toNatClampNeg), .int (xs (l3 + (1 : Int32)).toNatClampNeg), .ref l2, .int r27] S26 rfl rfl rfl trivial ?_
      obtain ⟨gb, h⟩ := h
      refine jLf.one hc _ rfl (gs := [jX = jX, vp_in (l3 + (3 : Int32)) L]) (c := (109, [some (.ref jX), some (.ref l1), some (.ref l2), some (.int l3)], [.int (xs (l3 + (3 : Int32)).toNatClampNeg), .int (xs (l3 + (2 : Int32)).toNatClampNeg), .int (xs (l3 + (1 : Int32)).toNatClampNeg), .ref l2, .int r27], S26, rc, rs)) rfl ⟨rfl, gb⟩ ?_
      obtain ⟨g31, h⟩ := h
      refine jLf.inv hc _ rfl (gs := [jA S26 l2 12, (([.int r27] : List Value).map fun v => v.category).sum ≤ 8, 0 ≤ rc, 0 ≤ rs]) (k := 159) (args := [.ref l2, .int (xs (l3 + (1 : Int32)).toNatClampNeg), .int (xs (l3 + (2 : Int32)).toNatClampNeg), .int (xs (l3 + (3 : Int32)).toNatClampNeg)]) (r := [.int r27]) (a := rc) (b := rs) rfl ⟨g31, Nat.le_of_ble_eq_true rfl, Nat.zero_le _, Nat.zero_le _⟩ (vX12_wed d (by omega) h) ?_
      rintro v S29 ⟨r30, rfl, h⟩
      show jLf (jCall jmt jbud d) jbud (fun j => (jmt j).rk) (some (L, xs)) mL_law (jqI Q) (110, [some (.ref jX), some (.ref l1), some (.ref l2), some (.int l3)], [.int r30, .int r27], S29, rc, rs)
      refine jLf.two hc _ rfl (gs := []) (p1 := r27 = r30) (p2 := ¬ (r27 = r30)) (c1 := (826, [some (.ref jX), some (.ref l1), some (.ref l2), some (.int l3)], [], S29, rc, rs)) (c2 := (111, [some (.ref jX), some (.ref l1), some (.ref l2), some (.int l3)], [], S29, rc, rs)) rfl trivial (fun hz => ?_) (fun hz => ?_)
      · have h := h.1 hz
        exact tL_law_826 d hd hG hX10 h
      · have h := h.2 hz
        refine jLf.bk hc 1 [] [some (.ref jX), some (.ref l1), some (.ref l2), some (.int l3)] [.int 0] S29 rfl rfl rfl trivial ?_
        exact jLf.ret hc _ rfl (gs := [jbit 0]) (v := some (.int 0)) rfl (Or.inl rfl) ⟨_, rfl, h⟩
    have h := h.2 hz
    refine ⟨fun hz => ?_, fun hz => ?_⟩
    · have h := h.1 hz
      show jLf (jCall jmt jbud d) jbud (fun j => (jmt j).rk) (some (L, xs)) mL_law (jqI Q) (113, [some (.ref jX), some (.ref l1), some (.ref l2), some (.int l3)], [], S, rc, rs)
      refine jLf.bk hc 5 [] [some (.ref jX), some (.ref l1), some (.ref l2), some (.int l3)] [.int (l3 + (1 : Int32)), .ref jX, .ref l1] S rfl rfl rfl trivial ?_
      obtain ⟨gb, h⟩ := h
      refine jLf.one hc _ rfl (gs := [jX = jX, vp_in (l3 + (1 : Int32)) L]) (c := (119, [some (.ref jX), some (.ref l1), some (.ref l2), some (.int l3)], [.int (xs (l3 + (1 : Int32)).toNatClampNeg), .ref l1], S, rc, rs)) rfl ⟨rfl, gb⟩ ?_
      obtain ⟨g34, h⟩ := h
      refine jLf.inv hc _ rfl (gs := [jA S l1 11, (([] : List Value).map fun v => v.category).sum ≤ 8, 0 ≤ rc, 0 ≤ rs]) (k := 104) (args := [.ref l1, .int (xs (l3 + (1 : Int32)).toNatClampNeg)]) (r := []) (a := rc) (b := rs) rfl ⟨g34, Nat.le_of_ble_eq_true rfl, Nat.zero_le _, Nat.zero_le _⟩ (vX11_jilt d (by omega) h) ?_
      rintro v S32 ⟨r33, rfl, h⟩
      show jLf (jCall jmt jbud d) jbud (fun j => (jmt j).rk) (some (L, xs)) mL_law (jqI Q) (120, [some (.ref jX), some (.ref l1), some (.ref l2), some (.int l3)], [.int r33], S32, rc, rs)
      refine jLf.bk hc 5 [] [some (.ref jX), some (.ref l1), some (.ref l2), some (.int l3)] [.int (l3 + (1 : Int32)), .ref jX, .ref l2, .int r33] S32 rfl rfl rfl trivial ?_
      obtain ⟨gb, h⟩ := h
      refine jLf.one hc _ rfl (gs := [jX = jX, vp_in (l3 + (1 : Int32)) L]) (c := (126, [some (.ref jX), some (.ref l1), some (.ref l2), some (.int l3)], [.int (xs (l3 + (1 : Int32)).toNatClampNeg), .ref l2, .int r33], S32, rc, rs)) rfl ⟨rfl, gb⟩ ?_
      obtain ⟨g37, h⟩ := h
      refine jLf.inv hc _ rfl (gs := [jA S32 l2 12, (([.int r33] : List Value).map fun v => v.category).sum ≤ 8, 0 ≤ rc, 0 ≤ rs]) (k := 160) (args := [.ref l2, .int (xs (l3 + (1 : Int32)).toNatClampNeg)]) (r := [.int r33]) (a := rc) (b := rs) rfl ⟨g37, Nat.le_of_ble_eq_true rfl, Nat.zero_le _, Nat.zero_le _⟩ (vX12_jilt d (by omega) h) ?_
      rintro v S35 ⟨r36, rfl, h⟩
      show jLf (jCall jmt jbud d) jbud (fun j => (jmt j).rk) (some (L, xs)) mL_law (jqI Q) (127, [some (.ref jX), some (.ref l1), some (.ref l2), some (.int l3)], [.int r36, .int r33], S35, rc, rs)
      refine jLf.two hc _ rfl (gs := []) (p1 := r33 = r36) (p2 := ¬ (r33 = r36)) (c1 := (826, [some (.ref jX), some (.ref l1), some (.ref l2), some (.int l3)], [], S35, rc, rs)) (c2 := (128, [some (.ref jX), some (.ref l1), some (.ref l2), some (.int l3)], [], S35, rc, rs)) rfl trivial (fun hz => ?_) (fun hz => ?_)
      · have h := h.1 hz
        exact tL_law_826 d hd hG hX10 h
      · have h := h.2 hz
        refine jLf.bk hc 1 [] [some (.ref jX), some (.ref l1), some (.ref l2), some (.int l3)] [.int 0] S35 rfl rfl rfl trivial ?_
        exact jLf.ret hc _ rfl (gs := [jbit 0]) (v := some (.int 0)) rfl (Or.inl rfl) ⟨_, rfl, h⟩
    have h := h.2 hz
    refine ⟨fun hz => ?_, fun hz => ?_⟩
    · have h := h.1 hz
      show jLf (jCall jmt jbud d) jbud (fun j => (jmt j).rk) (some (L, xs)) mL_law (jqI Q) (130, [some (.ref jX), some (.ref l1), some (.ref l2), some (.int l3)], [], S, rc, rs)
      refine jLf.bk hc 5 [] [some (.ref jX), some (.ref l1), some (.ref l2), some (.int l3)] [.int (l3 + (1 : Int32)), .ref jX, .ref l1] S rfl rfl rfl trivial ?_
      obtain ⟨gb, h⟩ := h
      refine jLf.one hc _ rfl (gs := [jX = jX, vp_in (l3 + (1 : Int32)) L]) (c := (136, [some (.ref jX), some (.ref l1), some (.ref l2), some (.int l3)], [.int (xs (l3 + (1 : Int32)).toNatClampNeg), .ref l1], S, rc, rs)) rfl ⟨rfl, gb⟩ ?_
      refine jLf.bk hc 4 [] [some (.ref jX), some (.ref l1), some (.ref l2), some (.int l3)] [.int (l3 + (2 : Int32)), .ref jX, .int (xs (l3 + (1 : Int32)).toNatClampNeg), .ref l1] S rfl rfl rfl trivial ?_
      obtain ⟨gb, h⟩ := h
      refine jLf.one hc _ rfl (gs := [jX = jX, vp_in (l3 + (2 : Int32)) L]) (c := (141, [some (.ref jX), some (.ref l1), some (.ref l2), some (.int l3)], [.int (xs (l3 + (2 : Int32)).toNatClampNeg), .int (xs (l3 + (1 : Int32)).toNatClampNeg), .ref l1], S, rc, rs)) rfl ⟨rfl, gb⟩ ?_
      refine jLf.bk hc 4 [] [some (.ref jX), some (.ref l1), some (.ref l2), some (.int l3)] [.int (l3 + (3 : Int32)), .ref jX, .int (xs (l3 + (2 : Int32)).toNatClampNeg), .int (xs (l3 + (1 : Int32)).toNatClampNeg), .ref l1] S rfl rfl rfl trivial ?_
      obtain ⟨gb, h⟩ := h
      refine jLf.one hc _ rfl (gs := [jX = jX, vp_in (l3 + (3 : Int32)) L]) (c := (146, [some (.ref jX), some (.ref l1), some (.ref l2), some (.int l3)], [.int (xs (l3 + (3 : Int32)).toNatClampNeg), .int (xs (l3 + (2 : Int32)).toNatClampNeg), .int (xs (l3 + (1 : Int32)).toNatClampNeg), .ref l1], S, rc, rs)) rfl ⟨rfl, gb⟩ ?_
      refine jLf.bk hc 4 [] [some (.ref jX), some (.ref l1), some (.ref l2), some (.int l3)] [.int (l3 + (4 : Int32)), .ref jX, .int (xs (l3 + (3 : Int32)).toNatClampNeg), .int (xs (l3 + (2 : Int32)).toNatClampNeg), .int (xs (l3 + (1 : Int32)).toNatClampNeg), .ref l1] S rfl rfl rfl trivial ?_
      obtain ⟨gb, h⟩ := h
      refine jLf.one hc _ rfl (gs := [jX = jX, vp_in (l3 + (4 : Int32)) L]) (c := (151, [some (.ref jX), some (.ref l1), some (.ref l2), some (.int l3)], [.int (xs (l3 + (4 : Int32)).toNatClampNeg), .int (xs (l3 + (3 : Int32)).toNatClampNeg), .int (xs (l3 + (2 : Int32)).toNatClampNeg), .int (xs (l3 + (1 : Int32)).toNatClampNeg), .ref l1], S, rc, rs)) rfl ⟨rfl, gb⟩ ?_
      refine jLf.bk hc 4 [] [some (.ref jX), some (.ref l1), some (.ref l2), some (.int l3)] [.int (l3 + (5 : Int32)), .ref jX, .int (xs (l3 + (4 : Int32)).toNatClampNeg), .int (xs (l3 + (3 : Int32)).toNatClampNeg), .int (xs (l3 + (2 : Int32)).toNatClampNeg), .int (xs (l3 + (1 : Int32)).toNatClampNeg), .ref l1] S rfl rfl rfl trivial ?_
      obtain ⟨gb, h⟩ := h
      refine jLf.one hc _ rfl (gs := [jX = jX, vp_in (l3 + (5 : Int32)) L]) (c := (156, [some (.ref jX), some (.ref l1), some (.ref l2), some (.int l3)], [.int (xs (l3 + (5 : Int32)).toNatClampNeg), .int (xs (l3 + (4 : Int32)).toNatClampNeg), .int (xs (l3 + (3 : Int32)).toNatClampNeg), .int (xs (l3 + (2 : Int32)).toNatClampNeg), .int (xs (l3 + (1 : Int32)).toNatClampNeg), .ref l1], S, rc, rs)) rfl ⟨rfl, gb⟩ ?_
      obtain ⟨g40, h⟩ := h
      refine jLf.inv hc _ rfl (gs := [jA S l1 11, (([] : List Value).map fun v => v.category).sum ≤ 8, 0 ≤ rc, 0 ≤ rs]) (k := 105) (args := [.ref l1, .int (xs (l3 + (1 : Int32)).toNatClampNeg), .int (xs (l3 + (2 : Int32)).toNatClampNeg), .int (xs (l3 + (3 : Int32)).toNatClampNeg), .int (xs (l3 + (4 : Int32)).toNatClampNeg), .int (xs (l3 + (5 : Int32)).toNatClampNeg)]) (r := []) (a := rc) (b := rs) rfl ⟨g40, Nat.le_of_ble_eq_true rfl, Nat.zero_le _, Nat.zero_le _⟩ (vX11_feed d (by omega) h) ?_
      rintro v S38 ⟨r39, rfl, h⟩
      show jLf (jCall jmt jbud d) jbud (fun j => (jmt j).rk) (some (L, xs)) mL_law (jqI Q) (157, [some (.ref jX), some (.ref l1), some (.ref l2), some (.int l3)], [.int r39], S38, rc, rs)
      refine jLf.bk hc 5 [] [some (.ref jX), some (.ref l1), some (.ref l2), some (.int l3)] [.int (l3 + (1 : Int32)), .ref jX, .ref l2, .int r39] S38 rfl rfl rfl trivial ?_
      obtain ⟨gb, h⟩ := h
      refine jLf.one hc _ rfl (gs := [jX = jX, vp_in (l3 + (1 : Int32)) L]) (c := (163, [some (.ref jX), some (.ref l1), some (.ref l2), some (.int l3)], [.int (xs (l3 + (1 : Int32)).toNatClampNeg), .ref l2, .int r39], S38, rc, rs)) rfl ⟨rfl, gb⟩ ?_
      refine jLf.bk hc 4 [] [some (.ref jX), some (.ref l1), some (.ref l2), some (.int l3)] [.int (l3 + (2 : Int32)), .ref jX, .int (xs (l3 + (1 : Int32)).toNatClampNeg), .ref l2, .int r39] S38 rfl rfl rfl trivial ?_
      obtain ⟨gb, h⟩ := h
      refine jLf.one hc _ rfl (gs := [jX = jX, vp_in (l3 + (2 : Int32)) L]) (c := (168, [some (.ref jX), some (.ref l1), some (.ref l2), some (.int l3)], [.int (xs (l3 + (2 : Int32)).toNatClampNeg), .int (xs (l3 + (1 : Int32)).toNatClampNeg), .ref l2, .int r39], S38, rc, rs)) rfl ⟨rfl, gb⟩ ?_
      refine jLf.bk hc 4 [] [some (.ref jX), some (.ref l1), some (.ref l2), some (.int l3)] [.int (l3 + (3 : Int32)), .ref jX, .int (xs (l3 + (2 : Int32)).toNatClampNeg), .int (xs (l3 + (1 : Int32)).toNatClampNeg), .ref l2, .int r39] S38 rfl rfl rfl trivial ?_
      obtain ⟨gb, h⟩ := h
      refine jLf.one hc _ rfl (gs := [jX = jX, vp_in (l3 + (3 : Int32)) L]) (c := (173, [some (.ref jX), some (.ref l1), some (.ref l2), some (.int l3)], [.int (xs (l3 + (3 : Int32)).toNatClampNeg), .int (xs (l3 + (2 : Int32)).toNatClampNeg), .int (xs (l3 + (1 : Int32)).toNatClampNeg), .ref l2, .int r39], S38, rc, rs)) rfl ⟨rfl, gb⟩ ?_
      refine jLf.bk hc 4 [] [some (.ref jX), some (.ref l1), some (.ref l2), some (.int l3)] [.int (l3 + (4 : Int32)), .ref jX, .int (xs (l3 + (3 : Int32)).toNatClampNeg), .int (xs (l3 + (2 : Int32)).toNatClampNeg), .int (xs (l3 + (1 : Int32)).toNatClampNeg), .ref l2, .int r39] S38 rfl rfl rfl trivial ?_
      obtain ⟨gb, h⟩ := h
      refine jLf.one hc _ rfl (gs := [jX = jX, vp_in (l3 + (4 : Int32)) L]) (c := (178, [some (.ref jX), some (.ref l1), some (.ref l2), some (.int l3)], [.int (xs (l3 + (4 : Int32)).toNatClampNeg), .int (xs (l3 + (3 : Int32)).toNatClampNeg), .int (xs (l3 + (2 : Int32)).toNatClampNeg), .int (xs (l3 + (1 : Int32)).toNatClampNeg), .ref l2, .int r39], S38, rc, rs)) rfl ⟨rfl, gb⟩ ?_
      refine jLf.bk hc 4 [] [some (.ref jX), some (.ref l1), some (.ref l2), some (.int l3)] [.int (l3 + (5 : Int32)), .ref jX, .int (xs (l3 + (4 : Int32)).toNatClampNeg), .int (xs (l3 + (3 : Int32)).toNatClampNeg), .int (xs (l3 + (2 : Int32)).toNatClampNeg), .int (xs (l3 + (1 : Int32)).toNatClampNeg), .ref l2, .int r39] S38 rfl rfl rfl trivial ?_
      obtain ⟨gb, h⟩ := h
      refine jLf.one hc _ rfl (gs := [jX = jX, vp_in (l3 + (5 : Int32)) L]) (c := (183, [some (.ref jX), some (.ref l1), some (.ref l2), some (.int l3)], [.int (xs (l3 + (5 : Int32)).toNatClampNeg), .int (xs (l3 + (4 : Int32)).toNatClampNeg), .int (xs (l3 + (3 : Int32)).toNatClampNeg), .int (xs (l3 + (2 : Int32)).toNatClampNeg), .int (xs (l3 + (1 : Int32)).toNatClampNeg), .ref l2, .int r39], S38, rc, rs)) rfl ⟨rfl, gb⟩ ?_
      obtain ⟨g43, h⟩ := h
      refine jLf.inv hc _ rfl (gs := [jA S38 l2 12, (([.int r39] : List Value).map fun v => v.category).sum ≤ 8, 0 ≤ rc, 0 ≤ rs]) (k := 164) (args := [.ref l2, .int (xs (l3 + (1 : Int32)).toNatClampNeg), .int (xs (l3 + (2 : Int32)).toNatClampNeg), .int (xs (l3 + (3 : Int32)).toNatClampNeg), .int (xs (l3 + (4 : Int32)).toNatClampNeg), .int (xs (l3 + (5 : Int32)).toNatClampNeg)]) (r := [.int r39]) (a := rc) (b := rs) rfl ⟨g43, Nat.le_of_ble_eq_true rfl, Nat.zero_le _, Nat.zero_le _⟩ (vX12_feed d (by omega) h) ?_
      rintro v S41 ⟨r42, rfl, h⟩
      show jLf (jCall jmt jbud d) jbud (fun j => (jmt j).rk) (some (L, xs)) mL_law (jqI Q) (184, [some (.ref jX), some (.ref l1), some (.ref l2), some (.int l3)], [.int r42, .int r39], S41, rc, rs)
      refine jLf.two hc _ rfl (gs := []) (p1 := r39 = r42) (p2 := ¬ (r39 = r42)) (c1 := (826, [some (.ref jX), some (.ref l1), some (.ref l2), some (.int l3)], [], S41, rc, rs)) (c2 := (185, [some (.ref jX), some (.ref l1), some (.ref l2), some (.int l3)], [], S41, rc, rs)) rfl trivial (fun hz => ?_) (fun hz => ?_)
      · have h := h.1 hz
        exact tL_law_826 d hd hG hX10 h
      · have h := h.2 hz
        refine jLf.bk hc 1 [] [some (.ref jX), some (.ref l1), some (.ref l2), some (.int l3)] [.int 0] S41 rfl rfl rfl trivial ?_
        exact jLf.ret hc _ rfl (gs := [jbit 0]) (v := some (.int 0)) rfl (Or.inl rfl) ⟨_, rfl, h⟩
    have h := h.2 hz
    refine ⟨fun hz => ?_, fun hz => ?_⟩
    · have h := h.1 hz
      show jLf (jCall jmt jbud d) jbud (fun j => (jmt j).rk) (some (L, xs)) mL_law (jqI Q) (187, [some (.ref jX), some (.ref l1), some (.ref l2), some (.int l3)], [], S, rc, rs)
      refine jLf.bk hc 5 [] [some (.ref jX), some (.ref l1), some (.ref l2), some (.int l3)] [.int (l3 + (1 : Int32)), .ref jX, .ref l1] S rfl rfl rfl trivial ?_
      obtain ⟨gb, h⟩ := h
      refine jLf.one hc _ rfl (gs := [jX = jX, vp_in (l3 + (1 : Int32)) L]) (c := (193, [some (.ref jX), some (.ref l1), some (.ref l2), some (.int l3)], [.int (xs (l3 + (1 : Int32)).toNatClampNeg), .ref l1], S, rc, rs)) rfl ⟨rfl, gb⟩ ?_
      obtain ⟨g46, h⟩ := h
      refine jLf.inv hc _ rfl (gs := [jA S l1 11, (([] : List Value).map fun v => v.category).sum ≤ 8, 0 ≤ rc, 0 ≤ rs]) (k := 106) (args := [.ref l1, .int (xs (l3 + (1 : Int32)).toNatClampNeg)]) (r := []) (a := rc) (b := rs) rfl ⟨g46, Nat.le_of_ble_eq_true rfl, Nat.zero_le _, Nat.zero_le _⟩ (vX11_end d (by omega) h) ?_
      rintro v S44 ⟨r45, rfl, h⟩
      show jLf (jCall jmt jbud d) jbud (fun j => (jmt j).rk) (some (L, xs)) mL_law (jqI Q) (194, [some (.ref jX), some (.ref l1), some (.ref l2), some (.int l3)], [.int r45], S44, rc, rs)
      refine jLf.bk hc 5 [] [some (.ref jX), some (.ref l1), some (.ref l2), some (.int l3)] [.int (l3 + (1 : Int32)), .ref jX, .ref l2, .int r45] S44 rfl rfl rfl trivial ?_
      obtain ⟨gb, h⟩ := h
      refine jLf.one hc _ rfl (gs := [jX = jX, vp_in (l3 + (1 : Int32)) L]) (c := (200, [some (.ref jX), some (.ref l1), some (.ref l2), some (.int l3)], [.int (xs (l3 + (1 : Int32)).toNatClampNeg), .ref l2, .int r45], S44, rc, rs)) rfl ⟨rfl, gb⟩ ?_
      obtain ⟨g49, h⟩ := h
      refine jLf.inv hc _ rfl (gs := [jA S44 l2 12, (([.int r45] : List Value).map fun v => v.category).sum ≤ 8, 0 ≤ rc, 0 ≤ rs]) (k := 165) (args := [.ref l2, .int (xs (l3 + (1 : Int32)).toNatClampNeg)]) (r := [.int r45]) (a := rc) (b := rs) rfl ⟨g49, Nat.le_of_ble_eq_true rfl, Nat.zero_le _, Nat.zero_le _⟩ (vX12_end d (by omega) h) ?_
      rintro v S47 ⟨r48, rfl, h⟩
      show jLf (jCall jmt jbud d) jbud (fun j => (jmt j).rk) (some (L, xs)) mL_law (jqI Q) (201, [some (.ref jX), some (.ref l1), some (.ref l2), some (.int l3)], [.int r48, .int r45], S47, rc, rs)
      refine jLf.two hc _ rfl (gs := []) (p1 := r45 = r48) (p2 := ¬ (r45 = r48)) (c1 := (826, [some (.ref jX), some (.ref l1), some (.ref l2), some (.int l3)], [], S47, rc, rs)) (c2 := (202, [some (.ref jX), some (.ref l1), some (.ref l2), some (.int l3)], [], S47, rc, rs)) rfl trivial (fun hz => ?_) (fun hz => ?_)
      · have h := h.1 hz
        exact tL_law_826 d hd hG hX10 h
      · have h := h.2 hz
        refine jLf.bk hc 1 [] [some (.ref jX), some (.ref l1), some (.ref l2), some (.int l3)] [.int 0] S47 rfl rfl rfl trivial ?_
        exact jLf.ret hc _ rfl (gs := [jbit 0]) (v := some (.int 0)) rfl (Or.inl rfl) ⟨_, rfl, h⟩
    have h := h.2 hz
    refine ⟨fun hz => ?_, fun hz => ?_⟩
    · have h := h.1 hz
      show jLf (jCall jmt jbud d) jbud (fun j => (jmt j).rk) (some (L, xs)) mL_law (jqI Q) (204, [some (.ref jX), some (.ref l1), some (.ref l2), some (.int l3)], [], S, rc, rs)
      refine jLf.bk hc 1 [] [some (.ref jX), some (.ref l1), some (.ref l2), some (.int l3)] [.ref l1] S rfl rfl rfl trivial ?_
      obtain ⟨g52, h⟩ := h
      refine jLf.inv hc _ rfl (gs := [jA S l1 11, (([] : List Value).map fun v => v.category).sum ≤ 8, 0 ≤ rc, 0 ≤ rs]) (k := 107) (args := [.ref l1]) (r := []) (a := rc) (b := rs) rfl ⟨g52, Nat.le_of_ble_eq_true rfl, Nat.zero_le _, Nat.zero_le _⟩ (vX11_row d (by omega) h) ?_
      rintro v S50 ⟨r51, rfl, h⟩
      show jLf (jCall jmt jbud d) jbud (fun j => (jmt j).rk) (some (L, xs)) mL_law (jqI Q) (206, [some (.ref jX), some (.ref l1), some (.ref l2), some (.int l3)], [.int r51], S50, rc, rs)
      refine jLf.bk hc 1 [] [some (.ref jX), some (.ref l1), some (.ref l2), some (.int l3)] [.ref l2, .int r51] S50 rfl rfl rfl trivial ?_
      obtain ⟨g55, h⟩ := h
      refine jLf.inv hc _ rfl (gs := [jA S50 l2 12, (([.int r51] : List Value).map fun v => v.category).sum ≤ 8, 0 ≤ rc, 0 ≤ rs]) (k := 161) (args := [.ref l2]) (r := [.int r51]) (a := rc) (b := rs) rfl ⟨g55, Nat.le_of_ble_eq_true rfl, Nat.zero_le _, Nat.zero_le _⟩ (vX12_row d (by omega) h) ?_
      rintro v S53 ⟨r54, rfl, h⟩
      show jLf (jCall jmt jbud d) jbud (fun j => (jmt j).rk) (some (L, xs)) mL_law (jqI Q) (208, [some (.ref jX), some (.ref l1), some (.ref l2), some (.int l3)], [.int r54, .int r51], S53, rc, rs)
      refine jLf.two hc _ rfl (gs := []) (p1 := r51 = r54) (p2 := ¬ (r51 = r54)) (c1 := (826, [some (.ref jX), some (.ref l1), some (.ref l2), some (.int l3)], [], S53, rc, rs)) (c2 := (209, [some (.ref jX), some (.ref l1), some (.ref l2), some (.int l3)], [], S53, rc, rs)) rfl trivial (fun hz => ?_) (fun hz => ?_)
      · have h := h.1 hz
        exact tL_law_826 d hd hG hX10 h
      · have h := h.2 hz
        refine jLf.bk hc 1 [] [some (.ref jX), some (.ref l1), some (.ref l2), some (.int l3)] [.int 0] S53 rfl rfl rfl trivial ?_
        exact jLf.ret hc _ rfl (gs := [jbit 0]) (v := some (.int 0)) rfl (Or.inl rfl) ⟨_, rfl, h⟩
    have h := h.2 hz
    refine ⟨fun hz => ?_, fun hz => ?_⟩
    · have h := h.1 hz
      show jLf (jCall jmt jbud d) jbud (fun j => (jmt j).rk) (some (L, xs)) mL_law (jqI Q) (211, [some (.ref jX), some (.ref l1), some (.ref l2), some (.int l3)], [], S, rc, rs)
      refine jLf.bk hc 1 [] [some (.ref jX), some (.ref l1), some (.ref l2), some (.int l3)] [.ref l1] S rfl rfl rfl trivial ?_
      obtain ⟨g58, h⟩ := h
      refine jLf.inv hc _ rfl (gs := [jA S l1 11, (([] : List Value).map fun v => v.category).sum ≤ 8, 0 ≤ rc, 0 ≤ rs]) (k := 108) (args := [.ref l1]) (r := []) (a := rc) (b := rs) rfl ⟨g58, Nat.le_of_ble_eq_true rfl, Nat.zero_le _, Nat.zero_le _⟩ (vX11_spray d (by omega) h) ?_
      rintro v S56 ⟨r57, rfl, h⟩
      show jLf (jCall jmt jbud d) jbud (fun j => (jmt j).rk) (some (L, xs)) mL_law (jqI Q) (213, [some (.ref jX), some (.ref l1), some (.ref l2), some (.int l3)], [.int r57], S56, rc, rs)
      refine jLf.bk hc 1 [] [some (.ref jX), some (.ref l1), some (.ref l2), some (.int l3)] [.ref l2, .int r57] S56 rfl rfl rfl trivial ?_
      obtain ⟨g61, h⟩ := h
      refine jLf.inv hc _ rfl (gs := [jA S56 l2 12, (([.int r57] : List Value).map fun v => v.category).sum ≤ 8, 0 ≤ rc, 0 ≤ rs]) (k := 162) (args := [.ref l2]) (r := [.int r57]) (a := rc) (b := rs) rfl ⟨g61, Nat.le_of_ble_eq_true rfl, Nat.zero_le _, Nat.zero_le _⟩ (vX12_spray d (by omega) h) ?_
      rintro v S59 ⟨r60, rfl, h⟩
      show jLf (jCall jmt jbud d) jbud (fun j => (jmt j).rk) (some (L, xs)) mL_law (jqI Q) (215, [some (.ref jX), some (.ref l1), some (.ref l2), some (.int l3)], [.int r60, .int r57], S59, rc, rs)
      refine jLf.two hc _ rfl (gs := []) (p1 := r57 = r60) (p2 := ¬ (r57 = r60)) (c1 := (826, [some (.ref jX), some (.ref l1), some (.ref l2), some (.int l3)], [], S59, rc, rs)) (c2 := (216, [some (.ref jX), some (.ref l1), some (.ref l2), some (.int l3)], [], S59, rc, rs)) rfl trivial (fun hz => ?_) (fun hz => ?_)
      · have h := h.1 hz
        exact tL_law_826 d hd hG hX10 h
      · have h := h.2 hz
        refine jLf.bk hc 1 [] [some (.ref jX), some (.ref l1), some (.ref l2), some (.int l3)] [.int 0] S59 rfl rfl rfl trivial ?_
        exact jLf.ret hc _ rfl (gs := [jbit 0]) (v := some (.int 0)) rfl (Or.inl rfl) ⟨_, rfl, h⟩
    have h := h.2 hz
    refine ⟨fun hz => ?_, fun hz => ?_⟩
    · have h := h.1 hz
      show jLf (jCall jmt jbud d) jbud (fun j => (jmt j).rk) (some (L, xs)) mL_law (jqI Q) (218, [some (.ref jX), some (.ref l1), some (.ref l2), some (.int l3)], [], S, rc, rs)
      refine jLf.bk hc 1 [] [some (.ref jX), some (.ref l1), some (.ref l2), some (.int l3)] [.ref l1] S rfl rfl rfl trivial ?_
      obtain ⟨g64, h⟩ := h
      obtain ⟨g65, g66, h⟩ := h
      refine jLf.inv hc _ rfl (gs := [jA S l1 11, (([] : List Value).map fun v => v.category).sum ≤ 8, 6 ≤ rc, 2006 ≤ rs]) (k := 109) (args := [.ref l1]) (r := []) (a := (rc - 6)) (b := (rs - 2006)) rfl ⟨g64, Nat.le_of_ble_eq_true rfl, g65, g66⟩ (hG _ _ _ _ h) ?_
      rintro v S62 ⟨r63, rfl, h⟩
      show jLf (jCall jmt jbud d) jbud (fun j => (jmt j).rk) (some (L, xs)) mL_law (jqI Q) (220, [some (.ref jX), some (.ref l1), some (.ref l2), some (.int l3)], [.int r63], S62, (rc - 6), (rs - 2006))
      refine jLf.bk hc 1 [] [some (.ref jX), some (.ref l1), some (.ref l2), some (.int l3)] [.ref l2, .int r63] S62 rfl rfl rfl trivial ?_
      obtain ⟨g69, h⟩ := h
      refine jLf.inv hc _ rfl (gs := [jA S62 l2 12, (([.int r63] : List Value).map fun v => v.category).sum ≤ 8, 0 ≤ (rc - 6), 0 ≤ (rs - 2006)]) (k := 189) (args := [.ref l2]) (r := [.int r63]) (a := (rc - 6)) (b := (rs - 2006)) rfl ⟨g69, Nat.le_of_ble_eq_true rfl, Nat.zero_le _, Nat.zero_le _⟩ (vX12_law d (by omega) h) ?_
      rintro v S67 ⟨r68, rfl, h⟩
      show jLf (jCall jmt jbud d) jbud (fun j => (jmt j).rk) (some (L, xs)) mL_law (jqI Q) (222, [some (.ref jX), some (.ref l1), some (.ref l2), some (.int l3)], [.int r68, .int r63], S67, (rc - 6), (rs - 2006))
      refine jLf.two hc _ rfl (gs := []) (p1 := r63 = r68) (p2 := ¬ (r63 = r68)) (c1 := (826, [some (.ref jX), some (.ref l1), some (.ref l2), some (.int l3)], [], S67, (rc - 6), (rs - 2006))) (c2 := (223, [some (.ref jX), some (.ref l1), some (.ref l2), some (.int l3)], [], S67, (rc - 6), (rs - 2006))) rfl trivial (fun hz => ?_) (fun hz => ?_)
      · have h := h.1 hz
        exact tL_law_826 d hd hG hX10 h
      · have h := h.2 hz
        refine jLf.bk hc 1 [] [some (.ref jX), some (.ref l1), some (.ref l2), some (.int l3)] [.int 0] S67 rfl rfl rfl trivial ?_
        exact jLf.ret hc _ rfl (gs := [jbit 0]) (v := some (.int 0)) rfl (Or.inl rfl) ⟨_, rfl, h⟩
    have h := h.2 hz
    refine ⟨fun hz => ?_, fun hz => ?_⟩
    · have h := h.1 hz
      show jLf (jCall jmt jbud d) jbud (fun j => (jmt j).rk) (some (L, xs)) mL_law (jqI Q) (225, [some (.ref jX), some (.ref l1), some (.ref l2), some (.int l3)], [], S, rc, rs)
      refine jLf.bk hc 1 [] [some (.ref jX), some (.ref l1), some (.ref l2), some (.int l3)] [.ref l1] S rfl rfl rfl trivial ?_
      obtain ⟨g72, h⟩ := h
      refine jLf.inv hc _ rfl (gs := [jA S l1 11, (([] : List Value).map fun v => v.category).sum ≤ 8, 0 ≤ rc, 0 ≤ rs]) (k := 110) (args := [.ref l1]) (r := []) (a := rc) (b := rs) rfl ⟨g72, Nat.le_of_ble_eq_true rfl, Nat.zero_le _, Nat.zero_le _⟩ (vX11_fault d (by omega) h) ?_
      rintro v S70 ⟨r71, rfl, h⟩
      show jLf (jCall jmt jbud d) jbud (fun j => (jmt j).rk) (some (L, xs)) mL_law (jqI Q) (227, [some (.ref jX), some (.ref l1), some (.ref l2), some (.int l3)], [.int r71], S70, rc, rs)
      refine jLf.bk hc 1 [] [some (.ref jX), some (.ref l1), some (.ref l2), some (.int l3)] [.ref l2, .int r71] S70 rfl rfl rfl trivial ?_
      obtain ⟨g75, h⟩ := h
      refine jLf.inv hc _ rfl (gs := [jA S70 l2 12, (([.int r71] : List Value).map fun v => v.category).sum ≤ 8, 0 ≤ rc, 0 ≤ rs]) (k := 173) (args := [.ref l2]) (r := [.int r71]) (a := rc) (b := rs) rfl ⟨g75, Nat.le_of_ble_eq_true rfl, Nat.zero_le _, Nat.zero_le _⟩ (vX12_fault d (by omega) h) ?_
      rintro v S73 ⟨r74, rfl, h⟩
      show jLf (jCall jmt jbud d) jbud (fun j => (jmt j).rk) (some (L, xs)) mL_law (jqI Q) (229, [some (.ref jX), some (.ref l1), some (.ref l2), some (.int l3)], [.int r74, .int r71], S73, rc, rs)
      refine jLf.two hc _ rfl (gs := []) (p1 := r71 = r74) (p2 := ¬ (r71 = r74)) (c1 := (826, [some (.ref jX), some (.ref l1), some (.ref l2), some (.int l3)], [], S73, rc, rs)) (c2 := (230, [some (.ref jX), some (.ref l1), some (.ref l2), some (.int l3)], [], S73, rc, rs)) rfl trivial (fun hz => ?_) (fun hz => ?_)
      · have h := h.1 hz
        exact tL_law_826 d hd hG hX10 h
      · have h := h.2 hz
        refine jLf.bk hc 1 [] [some (.ref jX), some (.ref l1), some (.ref l2), some (.int l3)] [.int 0] S73 rfl rfl rfl trivial ?_
        exact jLf.ret hc _ rfl (gs := [jbit 0]) (v := some (.int 0)) rfl (Or.inl rfl) ⟨_, rfl, h⟩
    have h := h.2 hz
    refine ⟨fun hz => ?_, fun hz => ?_⟩
    · have h := h.1 hz
      show jLf (jCall jmt jbud d) jbud (fun j => (jmt j).rk) (some (L, xs)) mL_law (jqI Q) (232, [some (.ref jX), some (.ref l1), some (.ref l2), some (.int l3)], [], S, rc, rs)
      refine jLf.bk hc 5 [] [some (.ref jX), some (.ref l1), some (.ref l2), some (.int l3)] [.int (l3 + (1 : Int32)), .ref jX, .ref l1] S rfl rfl rfl trivial ?_
      obtain ⟨gb, h⟩ := h
      refine jLf.one hc _ rfl (gs := [jX = jX, vp_in (l3 + (1 : Int32)) L]) (c := (238, [some (.ref jX), some (.ref l1), some (.ref l2), some (.int l3)], [.int (xs (l3 + (1 : Int32)).toNatClampNeg), .ref l1], S, rc, rs)) rfl ⟨rfl, gb⟩ ?_
      obtain ⟨g78, h⟩ := h
      refine jLf.inv hc _ rfl (gs := [jA S l1 11, (([] : List Value).map fun v => v.category).sum ≤ 8, 0 ≤ rc, 0 ≤ rs]) (k := 111) (args := [.ref l1, .int (xs (l3 + (1 : Int32)).toNatClampNeg)]) (r := []) (a := rc) (b := rs) rfl ⟨g78, Nat.le_of_ble_eq_true rfl, Nat.zero_le _, Nat.zero_le _⟩ (vX11_force d (by omega) h) ?_
      rintro v S76 ⟨r77, rfl, h⟩
      show jLf (jCall jmt jbud d) jbud (fun j => (jmt j).rk) (some (L, xs)) mL_law (jqI Q) (239, [some (.ref jX), some (.ref l1), some (.ref l2), some (.int l3)], [.int r77], S76, rc, rs)
      refine jLf.bk hc 5 [] [some (.ref jX), some (.ref l1), some (.ref l2), some (.int l3)] [.int (l3 + (1 : Int32)), .ref jX, .ref l2, .int r77] S76 rfl rfl rfl trivial ?_
      obtain ⟨gb, h⟩ := h
      refine jLf.one hc _ rfl (gs := [jX = jX, vp_in (l3 + (1 : Int32)) L]) (c := (245, [some (.ref jX), some (.ref l1), some (.ref l2), some (.int l3)], [.int (xs (l3 + (1 : Int32)).toNatClampNeg), .ref l2, .int r77], S76, rc, rs)) rfl ⟨rfl, gb⟩ ?_
      obtain ⟨g81, h⟩ := h
      refine jLf.inv hc _ rfl (gs := [jA S76 l2 12, (([.int r77] : List Value).map fun v => v.category).sum ≤ 8, 0 ≤ rc, 0 ≤ rs]) (k := 190) (args := [.ref l2, .int (xs (l3 + (1 : Int32)).toNatClampNeg)]) (r := [.int r77]) (a := rc) (b := rs) rfl ⟨g81, Nat.le_of_ble_eq_true rfl, Nat.zero_le _, Nat.zero_le _⟩ (vX12_force d (by omega) h) ?_
      rintro v S79 ⟨r80, rfl, h⟩
      show jLf (jCall jmt jbud d) jbud (fun j => (jmt j).rk) (some (L, xs)) mL_law (jqI Q) (246, [some (.ref jX), some (.ref l1), some (.ref l2), some (.int l3)], [.int r80, .int r77], S79, rc, rs)
      refine jLf.two hc _ rfl (gs := []) (p1 := r77 = r80) (p2 := ¬ (r77 = r80)) (c1 := (826, [some (.ref jX), some (.ref l1), some (.ref l2), some (.int l3)], [], S79, rc, rs)) (c2 := (247, [some (.ref jX), some (.ref l1), some (.ref l2), some (.int l3)], [], S79, rc, rs)) rfl trivial (fun hz => ?_) (fun hz => ?_)
      · have h := h.1 hz
        exact tL_law_826 d hd hG hX10 h
      · have h := h.2 hz
        refine jLf.bk hc 1 [] [some (.ref jX), some (.ref l1), some (.ref l2), some (.int l3)] [.int 0] S79 rfl rfl rfl trivial ?_
        exact jLf.ret hc _ rfl (gs := [jbit 0]) (v := some (.int 0)) rfl (Or.inl rfl) ⟨_, rfl, h⟩
    have h := h.2 hz
    refine ⟨fun hz => ?_, fun hz => ?_⟩
    · have h := h.1 hz
      show jLf (jCall jmt jbud d) jbud (fun j => (jmt j).rk) (some (L, xs)) mL_law (jqI Q) (249, [some (.ref jX), some (.ref l1), some (.ref l2), some (.int l3)], [], S, rc, rs)
      refine jLf.bk hc 5 [] [some (.ref jX), some (.ref l1), some (.ref l2), some (.int l3)] [.int (l3 + (1 : Int32)), .ref jX, .ref l1] S rfl rfl rfl trivial ?_
      obtain ⟨gb, h⟩ := h
      refine jLf.one hc _ rfl (gs := [jX = jX, vp_in (l3 + (1 : Int32)) L]) (c := (255, [some (.ref jX), some (.ref l1), some (.ref l2), some (.int l3)], [.int (xs (l3 + (1 : Int32)).toNatClampNeg), .ref l1], S, rc, rs)) rfl ⟨rfl, gb⟩ ?_
      refine jLf.bk hc 4 [] [some (.ref jX), some (.ref l1), some (.ref l2), some (.int l3)] [.int (l3 + (2 : Int32)), .ref jX, .int (xs (l3 + (1 : Int32)).toNatClampNeg), .ref l1] S rfl rfl rfl trivial ?_
      obtain ⟨gb, h⟩ := h
      refine jLf.one hc _ rfl (gs := [jX = jX, vp_in (l3 + (2 : Int32)) L]) (c := (260, [some (.ref jX), some (.ref l1), some (.ref l2), some (.int l3)], [.int (xs (l3 + (2 : Int32)).toNatClampNeg), .int (xs (l3 + (1 : Int32)).toNatClampNeg), .ref l1], S, rc, rs)) rfl ⟨rfl, gb⟩ ?_
      refine jLf.bk hc 4 [] [some (.ref jX), some (.ref l1), some (.ref l2), some (.int l3)] [.int (l3 + (3 : Int32)), .ref jX, .int (xs (l3 + (2 : Int32)).toNatClampNeg), .int (xs (l3 + (1 : Int32)).toNatClampNeg), .ref l1] S rfl rfl rfl trivial ?_
      obtain ⟨gb, h⟩ := h
      refine jLf.one hc _ rfl (gs := [jX = jX, vp_in (l3 + (3 : Int32)) L]) (c := (265, [some (.ref jX), some (.ref l1), some (.ref l2), some (.int l3)], [.int (xs (l3 + (3 : Int32)).toNatClampNeg), .int (xs (l3 + (2 : Int32)).toNatClampNeg), .int (xs (l3 + (1 : Int32)).toNatClampNeg), .ref l1], S, rc, rs)) rfl ⟨rfl, gb⟩ ?_
      obtain ⟨g84, h⟩ := h
      refine jLf.inv hc _ rfl (gs := [jA S l1 11, (([] : List Value).map fun v => v.category).sum ≤ 8, 0 ≤ rc, 0 ≤ rs]) (k := 112) (args := [.ref l1, .int (xs (l3 + (1 : Int32)).toNatClampNeg), .int (xs (l3 + (2 : Int32)).toNatClampNeg), .int (xs (l3 + (3 : Int32)).toNatClampNeg)]) (r := []) (a := rc) (b := rs) rfl ⟨g84, Nat.le_of_ble_eq_true rfl, Nat.zero_le _, Nat.zero_le _⟩ (vX11_goes d (by omega) h) ?_
      rintro v S82 ⟨r83, rfl, h⟩
      show jLf (jCall jmt jbud d) jbud (fun j => (jmt j).rk) (some (L, xs)) mL_law (jqI Q) (266, [some (.ref jX), some (.ref l1), some (.ref l2), some (.int l3)], [.int r83], S82, rc, rs)
      refine jLf.bk hc 5 [] [some (.ref jX), some (.ref l1), some (.ref l2), some (.int l3)] [.int (l3 + (1 : Int32)), .ref jX, .ref l2, .int r83] S82 rfl rfl rfl trivial ?_
      obtain ⟨gb, h⟩ := h
      refine jLf.one hc _ rfl (gs := [jX = jX, vp_in (l3 + (1 : Int32)) L]) (c := (272, [some (.ref jX), some (.ref l1), some (.ref l2), some (.int l3)], [.int (xs (l3 + (1 : Int32)).toNatClampNeg), .ref l2, .int r83], S82, rc, rs)) rfl ⟨rfl, gb⟩ ?_
      refine jLf.bk hc 4 [] [some (.ref jX), some (.ref l1), some (.ref l2), some (.int l3)] [.int (l3 + (2 : Int32)), .ref jX, .int (xs (l3 + (1 : Int32)).toNatClampNeg), .ref l2, .int r83] S82 rfl rfl rfl trivial ?_
      obtain ⟨gb, h⟩ := h
      refine jLf.one hc _ rfl (gs := [jX = jX, vp_in (l3 + (2 : Int32)) L]) (c := (277, [some (.ref jX), some (.ref l1), some (.ref l2), some (.int l3)], [.int (xs (l3 + (2 : Int32)).toNatClampNeg), .int (xs (l3 + (1 : Int32)).toNatClampNeg), .ref l2, .int r83], S82, rc, rs)) rfl ⟨rfl, gb⟩ ?_
      refine jLf.bk hc 4 [] [some (.ref jX), some (.ref l1), some (.ref l2), some (.int l3)] [.int (l3 + (3 : Int32)), .ref jX, .int (xs (l3 + (2 : Int32)).toNatClampNeg), .int (xs (l3 + (1 : Int32)).toNatClampNeg), .ref l2, .int r83] S82 rfl rfl rfl trivial ?_
      obtain ⟨gb, h⟩ := h
      refine jLf.one hc _ rfl (gs := [jX = jX, vp_in (l3 + (3 : Int32)) L]) (c := (282, [some (.ref jX), some (.ref l1), some (.ref l2), some (.int l3)], [.int (xs (l3 + (3 : Int32)).toNatClampNeg), .int (xs (l3 + (2 : Int32)).toNatClampNeg), .int (xs (l3 + (1 : Int32)).toNatClampNeg), .ref l2, .int r83], S82, rc, rs)) rfl ⟨rfl, gb⟩ ?_
      obtain ⟨g87, h⟩ := h
      refine jLf.inv hc _ rfl (gs := [jA S82 l2 12, (([.int r83] : List Value).map fun v => v.category).sum ≤ 8, 0 ≤ rc, 0 ≤ rs]) (k := 199) (args := [.ref l2, .int (xs (l3 + (1 : Int32)).toNatClampNeg), .int (xs (l3 + (2 : Int32)).toNatClampNeg), .int (xs (l3 + (3 : Int32)).toNatClampNeg)]) (r := [.int r83]) (a := rc) (b := rs) rfl ⟨g87, Nat.le_of_ble_eq_true rfl, Nat.zero_le _, Nat.zero_le _⟩ (vX12_goes d (by omega) h) ?_
      rintro v S85 ⟨r86, rfl, h⟩
      show jLf (jCall jmt jbud d) jbud (fun j => (jmt j).rk) (some (L, xs)) mL_law (jqI Q) (283, [some (.ref jX), some (.ref l1), some (.ref l2), some (.int l3)], [.int r86, .int r83], S85, rc, rs)
      refine jLf.two hc _ rfl (gs := []) (p1 := r83 = r86) (p2 := ¬ (r83 = r86)) (c1 := (826, [some (.ref jX), some (.ref l1), some (.ref l2), some (.int l3)], [], S85, rc, rs)) (c2 := (284, [some (.ref jX), some (.ref l1), some (.ref l2), some (.int l3)], [], S85, rc, rs)) rfl trivial (fun hz => ?_) (fun hz => ?_)
      · have h := h.1 hz
        exact tL_law_826 d hd hG hX10 h
      · have h := h.2 hz
        refine jLf.bk hc 1 [] [some (.ref jX), some (.ref l1), some (.ref l2), some (.int l3)] [.int 0] S85 rfl rfl rfl trivial ?_
        exact jLf.ret hc _ rfl (gs := [jbit 0]) (v := some (.int 0)) rfl (Or.inl rfl) ⟨_, rfl, h⟩
    have h := h.2 hz
    refine ⟨fun hz => ?_, fun hz => ?_⟩
    · have h := h.1 hz
      show jLf (jCall jmt jbud d) jbud (fun j => (jmt j).rk) (some (L, xs)) mL_law (jqI Q) (286, [some (.ref jX), some (.ref l1), some (.ref l2), some (.int l3)], [], S, rc, rs)
      refine jLf.bk hc 5 [] [some (.ref jX), some (.ref l1), some (.ref l2), some (.int l3)] [.int (l3 + (1 : Int32)), .ref jX, .ref l1] S rfl rfl rfl trivial ?_
      obtain ⟨gb, h⟩ := h
      refine jLf.one hc _ rfl (gs := [jX = jX, vp_in (l3 + (1 : Int32)) L]) (c := (292, [some (.ref jX), some (.ref l1), some (.ref l2), some (.int l3)], [.int (xs (l3 + (1 : Int32)).toNatClampNeg), .ref l1], S, rc, rs)) rfl ⟨rfl, gb⟩ ?_
      refine jLf.bk hc 4 [] [some (.ref jX), some (.ref l1), some (.ref l2), some (.int l3)] [.int (l3 + (2 : Int32)), .ref jX, .int (xs (l3 + (1 : Int32)).toNatClampNeg), .ref l1] S rfl rfl rfl trivial ?_
      obtain ⟨gb, h⟩ := h
      refine jLf.one hc _ rfl (gs := [jX = jX, vp_in (l3 + (2 : Int32)) L]) (c := (297, [some (.ref jX), some (.ref l1), some (.ref l2), some (.int l3)], [.int (xs (l3 + (2 : Int32)).toNatClampNeg), .int (xs (l3 + (1 : Int32)).toNatClampNeg), .ref l1], S, rc, rs)) rfl ⟨rfl, gb⟩ ?_
      refine jLf.bk hc 4 [] [some (.ref jX), some (.ref l1), some (.ref l2), some (.int l3)] [.int (l3 + (3 : Int32)), .ref jX, .int (xs (l3 + (2 : Int32)).toNatClampNeg), .int (xs (l3 + (1 : Int32)).toNatClampNeg), .ref l1] S rfl rfl rfl trivial ?_
      obtain ⟨gb, h⟩ := h
      refine jLf.one hc _ rfl (gs := [jX = jX, vp_in (l3 + (3 : Int32)) L]) (c := (302, [some (.ref jX), some (.ref l1), some (.ref l2), some (.int l3)], [.int (xs (l3 + (3 : Int32)).toNatClampNeg), .int (xs (l3 + (2 : Int32)).toNatClampNeg), .int (xs (l3 + (1 : Int32)).toNatClampNeg), .ref l1], S, rc, rs)) rfl ⟨rfl, gb⟩ ?_
      obtain ⟨g90, h⟩ := h
      refine jLf.inv hc _ rfl (gs := [jA S l1 11, (([] : List Value).map fun v => v.category).sum ≤ 8, 0 ≤ rc, 0 ≤ rs]) (k := 113) (args := [.ref l1, .int (xs (l3 + (1 : Int32)).toNatClampNeg), .int (xs (l3 + (2 : Int32)).toNatClampNeg), .int (xs (l3 + (3 : Int32)).toNatClampNeg)]) (r := []) (a := rc) (b := rs) rfl ⟨g90, Nat.le_of_ble_eq_true rfl, Nat.zero_le _, Nat.zero_le _⟩ (vX11_of d (by omega) h) ?_
      rintro v S88 ⟨r89, rfl, h⟩
      show jLf (jCall jmt jbud d) jbud (fun j => (jmt j).rk) (some (L, xs)) mL_law (jqI Q) (303, [some (.ref jX), some (.ref l1), some (.ref l2), some (.int l3)], [.int r89], S88, rc, rs)
      refine jLf.bk hc 5 [] [some (.ref jX), some (.ref l1), some (.ref l2), some (.int l3)] [.int (l3 + (1 : Int32)), .ref jX, .ref l2, .int r89] S88 rfl rfl rfl trivial ?_
      obtain ⟨gb, h⟩ := h
      refine jLf.one hc _ rfl (gs := [jX = jX, vp_in (l3 + (1 : Int32)) L]) (c := (309, [some (.ref jX), some (.ref l1), some (.ref l2), some (.int l3)], [.int (xs (l3 + (1 : Int32)).toNatClampNeg), .ref l2, .int r89], S88, rc, rs)) rfl ⟨rfl, gb⟩ ?_
      refine jLf.bk hc 4 [] [some (.ref jX), some (.ref l1), some (.ref l2), some (.int l3)] [.int (l3 + (2 : Int32)), .ref jX, .int (xs (l3 + (1 : Int32)).toNatClampNeg), .ref l2, .int r89] S88 rfl rfl rfl trivial ?_
      obtain ⟨gb, h⟩ := h
      refine jLf.one hc _ rfl (gs := [jX = jX, vp_in (l3 + (2 : Int32)) L]) (c := (314, [some (.ref jX), some (.ref l1), some (.ref l2), some (.int l3)], [.int (xs (l3 + (2 : Int32)).toNatClampNeg), .int (xs (l3 + (1 : Int32)).toNatClampNeg), .ref l2, .int r89], S88, rc, rs)) rfl ⟨rfl, gb⟩ ?_
      refine jLf.bk hc 4 [] [some (.ref jX), some (.ref l1), some (.ref l2), some (.int l3)] [.int (l3 + (3 : Int32)), .ref jX, .int (xs (l3 + (2 : Int32)).toNatClampNeg), .int (xs (l3 + (1 : Int32)).toNatClampNeg), .ref l2, .int r89] S88 rfl rfl rfl trivial ?_
      obtain ⟨gb, h⟩ := h
      refine jLf.one hc _ rfl (gs := [jX = jX, vp_in (l3 + (3 : Int32)) L]) (c := (319, [some (.ref jX), some (.ref l1), some (.ref l2), some (.int l3)], [.int (xs (l3 + (3 : Int32)).toNatClampNeg), .int (xs (l3 + (2 : Int32)).toNatClampNeg), .int (xs (l3 + (1 : Int32)).toNatClampNeg), .ref l2, .int r89], S88, rc, rs)) rfl ⟨rfl, gb⟩ ?_
      obtain ⟨g93, h⟩ := h
      refine jLf.inv hc _ rfl (gs := [jA S88 l2 12, (([.int r89] : List Value).map fun v => v.category).sum ≤ 8, 0 ≤ rc, 0 ≤ rs]) (k := 200) (args := [.ref l2, .int (xs (l3 + (1 : Int32)).toNatClampNeg), .int (xs (l3 + (2 : Int32)).toNatClampNeg), .int (xs (l3 + (3 : Int32)).toNatClampNeg)]) (r := [.int r89]) (a := rc) (b := rs) rfl ⟨g93, Nat.le_of_ble_eq_true rfl, Nat.zero_le _, Nat.zero_le _⟩ (vX12_of d (by omega) h) ?_
      rintro v S91 ⟨r92, rfl, h⟩
      show jLf (jCall jmt jbud d) jbud (fun j => (jmt j).rk) (some (L, xs)) mL_law (jqI Q) (320, [some (.ref jX), some (.ref l1), some (.ref l2), some (.int l3)], [.int r92, .int r89], S91, rc, rs)
      refine jLf.two hc _ rfl (gs := []) (p1 := r89 = r92) (p2 := ¬ (r89 = r92)) (c1 := (826, [some (.ref jX), some (.ref l1), some (.ref l2), some (.int l3)], [], S91, rc, rs)) (c2 := (321, [some (.ref jX), some (.ref l1), some (.ref l2), some (.int l3)], [], S91, rc, rs)) rfl trivial (fun hz => ?_) (fun hz => ?_)
      · have h := h.1 hz
        exact tL_law_826 d hd hG hX10 h
      · have h := h.2 hz
        refine jLf.bk hc 1 [] [some (.ref jX), some (.ref l1), some (.ref l2), some (.int l3)] [.int 0] S91 rfl rfl rfl trivial ?_
        exact jLf.ret hc _ rfl (gs := [jbit 0]) (v := some (.int 0)) rfl (Or.inl rfl) ⟨_, rfl, h⟩
    have h := h.2 hz
    refine ⟨fun hz => ?_, fun hz => ?_⟩
    · have h := h.1 hz
      show jLf (jCall jmt jbud d) jbud (fun j => (jmt j).rk) (some (L, xs)) mL_law (jqI Q) (323, [some (.ref jX), some (.ref l1), some (.ref l2), some (.int l3)], [], S, rc, rs)
      refine jLf.bk hc 5 [] [some (.ref jX), some (.ref l1), some (.ref l2), some (.int l3)] [.int (l3 + (1 : Int32)), .ref jX, .ref l1] S rfl rfl rfl trivial ?_
      obtain ⟨gb, h⟩ := h
      refine jLf.one hc _ rfl (gs := [jX = jX, vp_in (l3 + (1 : Int32)) L]) (c := (329, [some (.ref jX), some (.ref l1), some (.ref l2), some (.int l3)], [.int (xs (l3 + (1 : Int32)).toNatClampNeg), .ref l1], S, rc, rs)) rfl ⟨rfl, gb⟩ ?_
      refine jLf.bk hc 4 [] [some (.ref jX), some (.ref l1), some (.ref l2), some (.int l3)] [.int (l3 + (2 : Int32)), .ref jX, .int (xs (l3 + (1 : Int32)).toNatClampNeg), .ref l1] S rfl rfl rfl trivial ?_
      obtain ⟨gb, h⟩ := h
      refine jLf.one hc _ rfl (gs := [jX = jX, vp_in (l3 + (2 : Int32)) L]) (c := (334, [some (.ref jX), some (.ref l1), some (.ref l2), some (.int l3)], [.int (xs (l3 + (2 : Int32)).toNatClampNeg), .int (xs (l3 + (1 : Int32)).toNatClampNeg), .ref l1], S, rc, rs)) rfl ⟨rfl, gb⟩ ?_
      refine jLf.bk hc 4 [] [some (.ref jX), some (.ref l1), some (.ref l2), some (.int l3)] [.int (l3 + (3 : Int32)), .ref jX, .int (xs (l3 + (2 : Int32)).toNatClampNeg), .int (xs (l3 + (1 : Int32)).toNatClampNeg), .ref l1] S rfl rfl rfl trivial ?_
      obtain ⟨gb, h⟩ := h
      refine jLf.one hc _ rfl (gs := [jX = jX, vp_in (l3 + (3 : Int32)) L]) (c := (339, [some (.ref jX), some (.ref l1), some (.ref l2), some (.int l3)], [.int (xs (l3 + (3 : Int32)).toNatClampNeg), .int (xs (l3 + (2 : Int32)).toNatClampNeg), .int (xs (l3 + (1 : Int32)).toNatClampNeg), .ref l1], S, rc, rs)) rfl ⟨rfl, gb⟩ ?_
      obtain ⟨g96, h⟩ := h
      refine jLf.inv hc _ rfl (gs := [jA S l1 11, (([] : List Value).map fun v => v.category).sum ≤ 8, 0 ≤ rc, 0 ≤ rs]) (k := 114) (args := [.ref l1, .int (xs (l3 + (1 : Int32)).toNatClampNeg), .int (xs (l3 + (2 : Int32)).toNatClampNeg), .int (xs (l3 + (3 : Int32)).toNatClampNeg)]) (r := []) (a := rc) (b := rs) rfl ⟨g96, Nat.le_of_ble_eq_true rfl, Nat.zero_le _, Nat.zero_le _⟩ (vX11_will d (by omega) h) ?_
      rintro v S94 ⟨r95, rfl, h⟩
      show jLf (jCall jmt jbud d) jbud (fun j => (jmt j).rk) (some (L, xs)) mL_law (jqI Q) (340, [some (.ref jX), some (.ref l1), some (.ref l2), some (.int l3)], [.int r95], S94, rc, rs)
      refine jLf.bk hc 5 [] [some (.ref jX), some (.ref l1), some (.ref l2), some (.int l3)] [.int (l3 + (1 : Int32)), .ref jX, .ref l2, .int r95] S94 rfl rfl rfl trivial ?_
      obtain ⟨gb, h⟩ := h
      refine jLf.one hc _ rfl (gs := [jX = jX, vp_in (l3 + (1 : Int32)) L]) (c := (346, [some (.ref jX), some (.ref l1), some (.ref l2), some (.int l3)], [.int (xs (l3 + (1 : Int32)).toNatClampNeg), .ref l2, .int r95], S94, rc, rs)) rfl ⟨rfl, gb⟩ ?_
      refine jLf.bk hc 4 [] [some (.ref jX), some (.ref l1), some (.ref l2), some (.int l3)] [.int (l3 + (2 : Int32)), .ref jX, .int (xs (l3 + (1 : Int32)).toNatClampNeg), .ref l2, .int r95] S94 rfl rfl rfl trivial ?_
      obtain ⟨gb, h⟩ := h
      refine jLf.one hc _ rfl (gs := [jX = jX, vp_in (l3 + (2 : Int32)) L]) (c := (351, [some (.ref jX), some (.ref l1), some (.ref l2), some (.int l3)], [.int (xs (l3 + (2 : Int32)).toNatClampNeg), .int (xs (l3 + (1 : Int32)).toNatClampNeg), .ref l2, .int r95], S94, rc, rs)) rfl ⟨rfl, gb⟩ ?_
      refine jLf.bk hc 4 [] [some (.ref jX), some (.ref l1), some (.ref l2), some (.int l3)] [.int (l3 + (3 : Int32)), .ref jX, .int (xs (l3 + (2 : Int32)).toNatClampNeg), .int (xs (l3 + (1 : Int32)).toNatClampNeg), .ref l2, .int r95] S94 rfl rfl rfl trivial ?_
      obtain ⟨gb, h⟩ := h
      refine jLf.one hc _ rfl (gs := [jX = jX, vp_in (l3 + (3 : Int32)) L]) (c := (356, [some (.ref jX), some (.ref l1), some (.ref l2), some (.int l3)], [.int (xs (l3 + (3 : Int32)).toNatClampNeg), .int (xs (l3 + (2 : Int32)).toNatClampNeg), .int (xs (l3 + (1 : Int32)).toNatClampNeg), .ref l2, .int r95], S94, rc, rs)) rfl ⟨rfl, gb⟩ ?_
      obtain ⟨g99, h⟩ := h
      refine jLf.inv hc _ rfl (gs := [jA S94 l2 12, (([.int r95] : List Value).map fun v => v.category).sum ≤ 8, 0 ≤ rc, 0 ≤ rs]) (k := 201) (args := [.ref l2, .int (xs (l3 + (1 : Int32)).toNatClampNeg), .int (xs (l3 + (2 : Int32)).toNatClampNeg), .int (xs (l3 + (3 : Int32)).toNatClampNeg)]) (r := [.int r95]) (a := rc) (b := rs) rfl ⟨g99, Nat.le_of_ble_eq_true rfl, Nat.zero_le _, Nat.zero_le _⟩ (vX12_will d (by omega) h) ?_
      rintro v S97 ⟨r98, rfl, h⟩
      show jLf (jCall jmt jbud d) jbud (fun j => (jmt j).rk) (some (L, xs)) mL_law (jqI Q) (357, [some (.ref jX), some (.ref l1), some (.ref l2), some (.int l3)], [.int r98, .int r95], S97, rc, rs)
      refine jLf.two hc _ rfl (gs := []) (p1 := r95 = r98) (p2 := ¬ (r95 = r98)) (c1 := (826, [some (.ref jX), some (.ref l1), some (.ref l2), some (.int l3)], [], S97, rc, rs)) (c2 := (358, [some (.ref jX), some (.ref l1), some (.ref l2), some (.int l3)], [], S97, rc, rs)) rfl trivial (fun hz => ?_) (fun hz => ?_)
      · have h := h.1 hz
        exact tL_law_826 d hd hG hX10 h
      · have h := h.2 hz
        refine jLf.bk hc 1 [] [some (.ref jX), some (.ref l1), some (.ref l2), some (.int l3)] [.int 0] S97 rfl rfl rfl trivial ?_
        exact jLf.ret hc _ rfl (gs := [jbit 0]) (v := some (.int 0)) rfl (Or.inl rfl) ⟨_, rfl, h⟩
    have h := h.2 hz
    refine ⟨fun hz => ?_, fun hz => ?_⟩
    · have h := h.1 hz
      show jLf (jCall jmt jbud d) jbud (fun j => (jmt j).rk) (some (L, xs)) mL_law (jqI Q) (360, [some (.ref jX), some (.ref l1), some (.ref l2), some (.int l3)], [], S, rc, rs)
      refine jLf.bk hc 5 [] [some (.ref jX), some (.ref l1), some (.ref l2), some (.int l3)] [.int (l3 + (1 : Int32)), .ref jX, .ref l1] S rfl rfl rfl trivial ?_
      obtain ⟨gb, h⟩ := h
      refine jLf.one hc _ rfl (gs := [jX = jX, vp_in (l3 + (1 : Int32)) L]) (c := (366, [some (.ref jX), some (.ref l1), some (.ref l2), some (.int l3)], [.int (xs (l3 + (1 : Int32)).toNatClampNeg), .ref l1], S, rc, rs)) rfl ⟨rfl, gb⟩ ?_
      obtain ⟨g102, h⟩ := h
      refine jLf.inv hc _ rfl (gs := [jA S l1 11, (([] : List Value).map fun v => v.category).sum ≤ 8, 0 ≤ rc, 0 ≤ rs]) (k := 115) (args := [.ref l1, .int (xs (l3 + (1 : Int32)).toNatClampNeg)]) (r := []) (a := rc) (b := rs) rfl ⟨g102, Nat.le_of_ble_eq_true rfl, Nat.zero_le _, Nat.zero_le _⟩ (vX11_oar d (by omega) h) ?_
      rintro v S100 ⟨r101, rfl, h⟩
      show jLf (jCall jmt jbud d) jbud (fun j => (jmt j).rk) (some (L, xs)) mL_law (jqI Q) (367, [some (.ref jX), some (.ref l1), some (.ref l2), some (.int l3)], [.int r101], S100, rc, rs)
      refine jLf.bk hc 5 [] [some (.ref jX), some (.ref l1), some (.ref l2), some (.int l3)] [.int (l3 + (1 : Int32)), .ref jX, .ref l2, .int r101] S100 rfl rfl rfl trivial ?_
      obtain ⟨gb, h⟩ := h
      refine jLf.one hc _ rfl (gs := [jX = jX, vp_in (l3 + (1 : Int32)) L]) (c := (373, [some (.ref jX), some (.ref l1), some (.ref l2), some (.int l3)], [.int (xs (l3 + (1 : Int32)).toNatClampNeg), .ref l2, .int r101], S100, rc, rs)) rfl ⟨rfl, gb⟩ ?_
      obtain ⟨g105, h⟩ := h
      refine jLf.inv hc _ rfl (gs := [jA S100 l2 12, (([.int r101] : List Value).map fun v => v.category).sum ≤ 8, 0 ≤ rc, 0 ≤ rs]) (k := 203) (args := [.ref l2, .int (xs (l3 + (1 : Int32)).toNatClampNeg)]) (r := [.int r101]) (a := rc) (b := rs) rfl ⟨g105, Nat.le_of_ble_eq_true rfl, Nat.zero_le _, Nat.zero_le _⟩ (vX12_oar d (by omega) h) ?_
      rintro v S103 ⟨r104, rfl, h⟩
      show jLf (jCall jmt jbud d) jbud (fun j => (jmt j).rk) (some (L, xs)) mL_law (jqI Q) (374, [some (.ref jX), some (.ref l1), some (.ref l2), some (.int l3)], [.int r104, .int r101], S103, rc, rs)
      refine jLf.two hc _ rfl (gs := []) (p1 := r101 = r104) (p2 := ¬ (r101 = r104)) (c1 := (826, [some (.ref jX), some (.ref l1), some (.ref l2), some (.int l3)], [], S103, rc, rs)) (c2 := (375, [some (.ref jX), some (.ref l1), some (.ref l2), some (.int l3)], [], S103, rc, rs)) rfl trivial (fun hz => ?_) (fun hz => ?_)
      · have h := h.1 hz
        exact tL_law_826 d hd hG hX10 h
      · have h := h.2 hz
        refine jLf.bk hc 1 [] [some (.ref jX), some (.ref l1), some (.ref l2), some (.int l3)] [.int 0] S103 rfl rfl rfl trivial ?_
        exact jLf.ret hc _ rfl (gs := [jbit 0]) (v := some (.int 0)) rfl (Or.inl rfl) ⟨_, rfl, h⟩
    have h := h.2 hz
    refine ⟨fun hz => ?_, fun hz => ?_⟩
    · have h := h.1 hz
      show jLf (jCall jmt jbud d) jbud (fun j => (jmt j).rk) (some (L, xs)) mL_law (jqI Q) (377, [some (.ref jX), some (.ref l1), some (.ref l2), some (.int l3)], [], S, rc, rs)
      refine jLf.bk hc 1 [] [some (.ref jX), some (.ref l1), some (.ref l2), some (.int l3)] [.ref l1] S rfl rfl rfl trivial ?_
      obtain ⟨g108, h⟩ := h
      refine jLf.inv hc _ rfl (gs := [jA S l1 11, (([] : List Value).map fun v => v.category).sum ≤ 8, 0 ≤ rc, 0 ≤ rs]) (k := 116) (args := [.ref l1]) (r := []) (a := rc) (b := rs) rfl ⟨g108, Nat.le_of_ble_eq_true rfl, Nat.zero_le _, Nat.zero_le _⟩ (vX11_unrow d (by omega) h) ?_
      rintro v S106 ⟨r107, rfl, h⟩
      show jLf (jCall jmt jbud d) jbud (fun j => (jmt j).rk) (some (L, xs)) mL_law (jqI Q) (379, [some (.ref jX), some (.ref l1), some (.ref l2), some (.int l3)], [.int r107], S106, rc, rs)
      refine jLf.bk hc 1 [] [some (.ref jX), some (.ref l1), some (.ref l2), some (.int l3)] [.ref l2, .int r107] S106 rfl rfl rfl trivial ?_
      obtain ⟨g111, h⟩ := h
      refine jLf.inv hc _ rfl (gs := [jA S106 l2 12, (([.int r107] : List Value).map fun v => v.category).sum ≤ 8, 0 ≤ rc, 0 ≤ rs]) (k := 204) (args := [.ref l2]) (r := [.int r107]) (a := rc) (b := rs) rfl ⟨g111, Nat.le_of_ble_eq_true rfl, Nat.zero_le _, Nat.zero_le _⟩ (vX12_unrow d (by omega) h) ?_
      rintro v S109 ⟨r110, rfl, h⟩
      show jLf (jCall jmt jbud d) jbud (fun j => (jmt j).rk) (some (L, xs)) mL_law (jqI Q) (381, [some (.ref jX), some (.ref l1), some (.ref l2), some (.int l3)], [.int r110, .int r107], S109, rc, rs)
      refine jLf.two hc _ rfl (gs := []) (p1 := r107 = r110) (p2 := ¬ (r107 = r110)) (c1 := (826, [some (.ref jX), some (.ref l1), some (.ref l2), some (.int l3)], [], S109, rc, rs)) (c2 := (382, [some (.ref jX), some (.ref l1), some (.ref l2), some (.int l3)], [], S109, rc, rs)) rfl trivial (fun hz => ?_) (fun hz => ?_)
      · have h := h.1 hz
        exact tL_law_826 d hd hG hX10 h
      · have h := h.2 hz
        refine jLf.bk hc 1 [] [some (.ref jX), some (.ref l1), some (.ref l2), some (.int l3)] [.int 0] S109 rfl rfl rfl trivial ?_
        exact jLf.ret hc _ rfl (gs := [jbit 0]) (v := some (.int 0)) rfl (Or.inl rfl) ⟨_, rfl, h⟩
    have h := h.2 hz
    refine ⟨fun hz => ?_, fun hz => ?_⟩
    · have h := h.1 hz
      show jLf (jCall jmt jbud d) jbud (fun j => (jmt j).rk) (some (L, xs)) mL_law (jqI Q) (384, [some (.ref jX), some (.ref l1), some (.ref l2), some (.int l3)], [], S, rc, rs)
      refine jLf.bk hc 5 [] [some (.ref jX), some (.ref l1), some (.ref l2), some (.int l3)] [.int (l3 + (1 : Int32)), .ref jX, .ref l1] S rfl rfl rfl trivial ?_
      obtain ⟨gb, h⟩ := h
      refine jLf.one hc _ rfl (gs := [jX = jX, vp_in (l3 + (1 : Int32)) L]) (c := (390, [some (.ref jX), some (.ref l1), some (.ref l2), some (.int l3)], [.int (xs (l3 + (1 : Int32)).toNatClampNeg), .ref l1], S, rc, rs)) rfl ⟨rfl, gb⟩ ?_
      obtain ⟨g114, h⟩ := h
      refine jLf.inv hc _ rfl (gs := [jA S l1 11, (([] : List Value).map fun v => v.category).sum ≤ 8, 0 ≤ rc, 0 ≤ rs]) (k := 117) (args := [.ref l1, .int (xs (l3 + (1 : Int32)).toNatClampNeg)]) (r := []) (a := rc) (b := rs) rfl ⟨g114, Nat.le_of_ble_eq_true rfl, Nat.zero_le _, Nat.zero_le _⟩ (vX11_trail d (by omega) h) ?_
      rintro v S112 ⟨r113, rfl, h⟩
      show jLf (jCall jmt jbud d) jbud (fun j => (jmt j).rk) (some (L, xs)) mL_law (jqI Q) (391, [some (.ref jX), some (.ref l1), some (.ref l2), some (.int l3)], [.int r113], S112, rc, rs)
      refine jLf.bk hc 5 [] [some (.ref jX), some (.ref l1), some (.ref l2), some (.int l3)] [.int (l3 + (1 : Int32)), .ref jX, .ref l2, .int r113] S112 rfl rfl rfl trivial ?_
      obtain ⟨gb, h⟩ := h
      refine jLf.one hc _ rfl (gs := [jX = jX, vp_in (l3 + (1 : Int32)) L]) (c := (397, [some (.ref jX), some (.ref l1), some (.ref l2), some (.int l3)], [.int (xs (l3 + (1 : Int32)).toNatClampNeg), .ref l2, .int r113], S112, rc, rs)) rfl ⟨rfl, gb⟩ ?_
      obtain ⟨g117, h⟩ := h
      refine jLf.inv hc _ rfl (gs := [jA S112 l2 12, (([.int r113] : List Value).map fun v => v.category).sum ≤ 8, 0 ≤ rc, 0 ≤ rs]) (k := 205) (args := [.ref l2, .int (xs (l3 + (1 : Int32)).toNatClampNeg)]) (r := [.int r113]) (a := rc) (b := rs) rfl ⟨g117, Nat.le_of_ble_eq_true rfl, Nat.zero_le _, Nat.zero_le _⟩ (vX12_trail d (by omega) h) ?_
      rintro v S115 ⟨r116, rfl, h⟩
      show jLf (jCall jmt jbud d) jbud (fun j => (jmt j).rk) (some (L, xs)) mL_law (jqI Q) (398, [some (.ref jX), some (.ref l1), some (.ref l2), some (.int l3)], [.int r116, .int r113], S115, rc, rs)
      refine jLf.two hc _ rfl (gs := []) (p1 := r113 = r116) (p2 := ¬ (r113 = r116)) (c1 := (826, [some (.ref jX), some (.ref l1), some (.ref l2), some (.int l3)], [], S115, rc, rs)) (c2 := (399, [some (.ref jX), some (.ref l1), some (.ref l2), some (.int l3)], [], S115, rc, rs)) rfl trivial (fun hz => ?_) (fun hz => ?_)
      · have h := h.1 hz
        exact tL_law_826 d hd hG hX10 h
      · have h := h.2 hz
        refine jLf.bk hc 1 [] [some (.ref jX), some (.ref l1), some (.ref l2), some (.int l3)] [.int 0] S115 rfl rfl rfl trivial ?_
        exact jLf.ret hc _ rfl (gs := [jbit 0]) (v := some (.int 0)) rfl (Or.inl rfl) ⟨_, rfl, h⟩
    have h := h.2 hz
    refine ⟨fun hz => ?_, fun hz => ?_⟩
    · have h := h.1 hz
      show jLf (jCall jmt jbud d) jbud (fun j => (jmt j).rk) (some (L, xs)) mL_law (jqI Q) (401, [some (.ref jX), some (.ref l1), some (.ref l2), some (.int l3)], [], S, rc, rs)
      refine jLf.bk hc 1 [] [some (.ref jX), some (.ref l1), some (.ref l2), some (.int l3)] [.ref l1] S rfl rfl rfl trivial ?_
      obtain ⟨g120, h⟩ := h
      refine jLf.inv hc _ rfl (gs := [jA S l1 11, (([] : List Value).map fun v => v.category).sum ≤ 8, 0 ≤ rc, 0 ≤ rs]) (k := 118) (args := [.ref l1]) (r := []) (a := rc) (b := rs) rfl ⟨g120, Nat.le_of_ble_eq_true rfl, Nat.zero_le _, Nat.zero_le _⟩ (vX11_unwarned d (by omega) h) ?_
      rintro v S118 ⟨r119, rfl, h⟩
      show jLf (jCall jmt jbud d) jbud (fun j => (jmt j).rk) (some (L, xs)) mL_law (jqI Q) (403, [some (.ref jX), some (.ref l1), some (.ref l2), some (.int l3)], [.int r119], S118, rc, rs)
      refine jLf.bk hc 1 [] [some (.ref jX), some (.ref l1), some (.ref l2), some (.int l3)] [.ref l2, .int r119] S118 rfl rfl rfl trivial ?_
      obtain ⟨g123, h⟩ := h
      refine jLf.inv hc _ rfl (gs := [jA S118 l2 12, (([.int r119] : List Value).map fun v => v.category).sum ≤ 8, 0 ≤ rc, 0 ≤ rs]) (k := 207) (args := [.ref l2]) (r := [.int r119]) (a := rc) (b := rs) rfl ⟨g123, Nat.le_of_ble_eq_true rfl, Nat.zero_le _, Nat.zero_le _⟩ (vX12_unwarned d (by omega) h) ?_
      rintro v S121 ⟨r122, rfl, h⟩
      show jLf (jCall jmt jbud d) jbud (fun j => (jmt j).rk) (some (L, xs)) mL_law (jqI Q) (405, [some (.ref jX), some (.ref l1), some (.ref l2), some (.int l3)], [.int r122, .int r119], S121, rc, rs)
      refine jLf.two hc _ rfl (gs := []) (p1 := r119 = r122) (p2 := ¬ (r119 = r122)) (c1 := (826, [some (.ref jX), some (.ref l1), some (.ref l2), some (.int l3)], [], S121, rc, rs)) (c2 := (406, [some (.ref jX), some (.ref l1), some (.ref l2), some (.int l3)], [], S121, rc, rs)) rfl trivial (fun hz => ?_) (fun hz => ?_)
      · have h := h.1 hz
        exact tL_law_826 d hd hG hX10 h
      · have h := h.2 hz
        refine jLf.bk hc 1 [] [some (.ref jX), some (.ref l1), some (.ref l2), some (.int l3)] [.int 0] S121 rfl rfl rfl trivial ?_
        exact jLf.ret hc _ rfl (gs := [jbit 0]) (v := some (.int 0)) rfl (Or.inl rfl) ⟨_, rfl, h⟩
    have h := h.2 hz
    refine ⟨fun hz => ?_, fun hz => ?_⟩
    · have h := h.1 hz
      show jLf (jCall jmt jbud d) jbud (fun j => (jmt j).rk) (some (L, xs)) mL_law (jqI Q) (408, [some (.ref jX), some (.ref l1), some (.ref l2), some (.int l3)], [], S, rc, rs)
      refine jLf.bk hc 5 [] [some (.ref jX), some (.ref l1), some (.ref l2), some (.int l3)] [.int (l3 + (1 : Int32)), .ref jX, .ref l1] S rfl rfl rfl trivial ?_
      obtain ⟨gb, h⟩ := h
      refine jLf.one hc _ rfl (gs := [jX = jX, vp_in (l3 + (1 : Int32)) L]) (c := (414, [some (.ref jX), some (.ref l1), some (.ref l2), some (.int l3)], [.int (xs (l3 + (1 : Int32)).toNatClampNeg), .ref l1], S, rc, rs)) rfl ⟨rfl, gb⟩ ?_
      refine jLf.bk hc 4 [] [some (.ref jX), some (.ref l1), some (.ref l2), some (.int l3)] [.int (l3 + (2 : Int32)), .ref jX, .int (xs (l3 + (1 : Int32)).toNatClampNeg), .ref l1] S rfl rfl rfl trivial ?_
      obtain ⟨gb, h⟩ := h
      refine jLf.one hc _ rfl (gs := [jX = jX, vp_in (l3 + (2 : Int32)) L]) (c := (419, [some (.ref jX), some (.ref l1), some (.ref l2), some (.int l3)], [.int (xs (l3 + (2 : Int32)).toNatClampNeg), .int (xs (l3 + (1 : Int32)).toNatClampNeg), .ref l1], S, rc, rs)) rfl ⟨rfl, gb⟩ ?_
      refine jLf.bk hc 4 [] [some (.ref jX), some (.ref l1), some (.ref l2), some (.int l3)] [.int (l3 + (3 : Int32)), .ref jX, .int (xs (l3 + (2 : Int32)).toNatClampNeg), .int (xs (l3 + (1 : Int32)).toNatClampNeg), .ref l1] S rfl rfl rfl trivial ?_
      obtain ⟨gb, h⟩ := h
      refine jLf.one hc _ rfl (gs := [jX = jX, vp_in (l3 + (3 : Int32)) L]) (c := (424, [some (.ref jX), some (.ref l1), some (.ref l2), some (.int l3)], [.int (xs (l3 + (3 : Int32)).toNatClampNeg), .int (xs (l3 + (2 : Int32)).toNatClampNeg), .int (xs (l3 + (1 : Int32)).toNatClampNeg), .ref l1], S, rc, rs)) rfl ⟨rfl, gb⟩ ?_
      obtain ⟨g126, h⟩ := h
      refine jLf.inv hc _ rfl (gs := [jA S l1 11, (([] : List Value).map fun v => v.category).sum ≤ 8, 0 ≤ rc, 0 ≤ rs]) (k := 119) (args := [.ref l1, .int (xs (l3 + (1 : Int32)).toNatClampNeg), .int (xs (l3 + (2 : Int32)).toNatClampNeg), .int (xs (l3 + (3 : Int32)).toNatClampNeg)]) (r := []) (a := rc) (b := rs) rfl ⟨g126, Nat.le_of_ble_eq_true rfl, Nat.zero_le _, Nat.zero_le _⟩ (vX11_report d (by omega) h) ?_
      rintro v S124 ⟨r125, rfl, h⟩
      show jLf (jCall jmt jbud d) jbud (fun j => (jmt j).rk) (some (L, xs)) mL_law (jqI Q) (425, [some (.ref jX), some (.ref l1), some (.ref l2), some (.int l3)], [.int r125], S124, rc, rs)
      refine jLf.bk hc 5 [] [some (.ref jX), some (.ref l1), some (.ref l2), some (.int l3)] [.int (l3 + (1 : Int32)), .ref jX, .ref l2, .int r125] S124 rfl rfl rfl trivial ?_
      obtain ⟨gb, h⟩ := h
      refine jLf.one hc _ rfl (gs := [jX = jX, vp_in (l3 + (1 : Int32)) L]) (c := (431, [some (.ref jX), some (.ref l1), some (.ref l2), some (.int l3)], [.int (xs (l3 + (1 : Int32)).toNatClampNeg), .ref l2, .int r125], S124, rc, rs)) rfl ⟨rfl, gb⟩ ?_
      refine jLf.bk hc 4 [] [some (.ref jX), some (.ref l1), some (.ref l2), some (.int l3)] [.int (l3 + (2 : Int32)), .ref jX, .int (xs (l3 + (1 : Int32)).toNatClampNeg), .ref l2, .int r125] S124 rfl rfl rfl trivial ?_
      obtain ⟨gb, h⟩ := h
      refine jLf.one hc _ rfl (gs := [jX = jX, vp_in (l3 + (2 : Int32)) L]) (c := (436, [some (.ref jX), some (.ref l1), some (.ref l2), some (.int l3)], [.int (xs (l3 + (2 : Int32)).toNatClampNeg), .int (xs (l3 + (1 : Int32)).toNatClampNeg), .ref l2, .int r125], S124, rc, rs)) rfl ⟨rfl, gb⟩ ?_
      refine jLf.bk hc 4 [] [some (.ref jX), some (.ref l1), some (.ref l2), some (.int l3)] [.int (l3 + (3 : Int32)), .ref jX, .int (xs (l3 + (2 : Int32)).toNatClampNeg), .int (xs (l3 + (1 : Int32)).toNatClampNeg), .ref l2, .int r125] S124 rfl rfl rfl trivial ?_
      obtain ⟨gb, h⟩ := h
      refine jLf.one hc _ rfl (gs := [jX = jX, vp_in (l3 + (3 : Int32)) L]) (c := (441, [some (.ref jX), some (.ref l1), some (.ref l2), some (.int l3)], [.int (xs (l3 + (3 : Int32)).toNatClampNeg), .int (xs (l3 + (2 : Int32)).toNatClampNeg), .int (xs (l3 + (1 : Int32)).toNatClampNeg), .ref l2, .int r125], S124, rc, rs)) rfl ⟨rfl, gb⟩ ?_
      obtain ⟨g129, h⟩ := h
      refine jLf.inv hc _ rfl (gs := [jA S124 l2 12, (([.int r125] : List Value).map fun v => v.category).sum ≤ 8, 0 ≤ rc, 0 ≤ rs]) (k := 208) (args := [.ref l2, .int (xs (l3 + (1 : Int32)).toNatClampNeg), .int (xs (l3 + (2 : Int32)).toNatClampNeg), .int (xs (l3 + (3 : Int32)).toNatClampNeg)]) (r := [.int r125]) (a := rc) (b := rs) rfl ⟨g129, Nat.le_of_ble_eq_true rfl, Nat.zero_le _, Nat.zero_le _⟩ (vX12_report d (by omega) h) ?_
      rintro v S127 ⟨r128, rfl, h⟩
      show jLf (jCall jmt jbud d) jbud (fun j => (jmt j).rk) (some (L, xs)) mL_law (jqI Q) (442, [some (.ref jX), some (.ref l1), some (.ref l2), some (.int l3)], [.int r128, .int r125], S127, rc, rs)
      refine jLf.two hc _ rfl (gs := []) (p1 := r125 = r128) (p2 := ¬ (r125 = r128)) (c1 := (826, [some (.ref jX), some (.ref l1), some (.ref l2), some (.int l3)], [], S127, rc, rs)) (c2 := (443, [some (.ref jX), some (.ref l1), some (.ref l2), some (.int l3)], [], S127, rc, rs)) rfl trivial (fun hz => ?_) (fun hz => ?_)
      · have h := h.1 hz
        exact tL_law_826 d hd hG hX10 h
      · have h := h.2 hz
        refine jLf.bk hc 1 [] [some (.ref jX), some (.ref l1), some (.ref l2), some (.int l3)] [.int 0] S127 rfl rfl rfl trivial ?_
        exact jLf.ret hc _ rfl (gs := [jbit 0]) (v := some (.int 0)) rfl (Or.inl rfl) ⟨_, rfl, h⟩
    have h := h.2 hz
    refine ⟨fun hz => ?_, fun hz => ?_⟩
    · have h := h.1 hz
      show jLf (jCall jmt jbud d) jbud (fun j => (jmt j).rk) (some (L, xs)) mL_law (jqI Q) (445, [some (.ref jX), some (.ref l1), some (.ref l2), some (.int l3)], [], S, rc, rs)
      refine jLf.bk hc 5 [] [some (.ref jX), some (.ref l1), some (.ref l2), some (.int l3)] [.int (l3 + (1 : Int32)), .ref jX, .ref l1] S rfl rfl rfl trivial ?_
      obtain ⟨gb, h⟩ := h
      refine jLf.one hc _ rfl (gs := [jX = jX, vp_in (l3 + (1 : Int32)) L]) (c := (451, [some (.ref jX), some (.ref l1), some (.ref l2), some (.int l3)], [.int (xs (l3 + (1 : Int32)).toNatClampNeg), .ref l1], S, rc, rs)) rfl ⟨rfl, gb⟩ ?_
      obtain ⟨g132, h⟩ := h
      refine jLf.inv hc _ rfl (gs := [jA S l1 11, (([] : List Value).map fun v => v.category).sum ≤ 8, 0 ≤ rc, 0 ≤ rs]) (k := 120) (args := [.ref l1, .int (xs (l3 + (1 : Int32)).toNatClampNeg)]) (r := []) (a := rc) (b := rs) rfl ⟨g132, Nat.le_of_ble_eq_true rfl, Nat.zero_le _, Nat.zero_le _⟩ (vX11_burn d (by omega) h) ?_
      rintro v S130 ⟨r131, rfl, h⟩
      show jLf (jCall jmt jbud d) jbud (fun j => (jmt j).rk) (some (L, xs)) mL_law (jqI Q) (452, [some (.ref jX), some (.ref l1), some (.ref l2), some (.int l3)], [.int r131], S130, rc, rs)
      refine jLf.bk hc 5 [] [some (.ref jX), some (.ref l1), some (.ref l2), some (.int l3)] [.int (l3 + (1 : Int32)), .ref jX, .ref l2, .int r131] S130 rfl rfl rfl trivial ?_
      obtain ⟨gb, h⟩ := h
      refine jLf.one hc _ rfl (gs := [jX = jX, vp_in (l3 + (1 : Int32)) L]) (c := (458, [some (.ref jX), some (.ref l1), some (.ref l2), some (.int l3)], [.int (xs (l3 + (1 : Int32)).toNatClampNeg), .ref l2, .int r131], S130, rc, rs)) rfl ⟨rfl, gb⟩ ?_
      obtain ⟨g135, h⟩ := h
      refine jLf.inv hc _ rfl (gs := [jA S130 l2 12, (([.int r131] : List Value).map fun v => v.category).sum ≤ 8, 0 ≤ rc, 0 ≤ rs]) (k := 209) (args := [.ref l2, .int (xs (l3 + (1 : Int32)).toNatClampNeg)]) (r := [.int r131]) (a := rc) (b := rs) rfl ⟨g135, Nat.le_of_ble_eq_true rfl, Nat.zero_le _, Nat.zero_le _⟩ (vX12_burn d (by omega) h) ?_
      rintro v S133 ⟨r134, rfl, h⟩
      show jLf (jCall jmt jbud d) jbud (fun j => (jmt j).rk) (some (L, xs)) mL_law (jqI Q) (459, [some (.ref jX), some (.ref l1), some (.ref l2), some (.int l3)], [.int r134, .int r131], S133, rc, rs)
      refine jLf.two hc _ rfl (gs := []) (p1 := r131 = r134) (p2 := ¬ (r131 = r134)) (c1 := (826, [some (.ref jX), some (.ref l1), some (.ref l2), some (.int l3)], [], S133, rc, rs)) (c2 := (460, [some (.ref jX), some (.ref l1), some (.ref l2), some (.int l3)], [], S133, rc, rs)) rfl trivial (fun hz => ?_) (fun hz => ?_)
      · have h := h.1 hz
        exact tL_law_826 d hd hG hX10 h
      · have h := h.2 hz
        refine jLf.bk hc 1 [] [some (.ref jX), some (.ref l1), some (.ref l2), some (.int l3)] [.int 0] S133 rfl rfl rfl trivial ?_
        exact jLf.ret hc _ rfl (gs := [jbit 0]) (v := some (.int 0)) rfl (Or.inl rfl) ⟨_, rfl, h⟩
    have h := h.2 hz
    refine ⟨fun hz => ?_, fun hz => ?_⟩
    · have h := h.1 hz
      show jLf (jCall jmt jbud d) jbud (fun j => (jmt j).rk) (some (L, xs)) mL_law (jqI Q) (462, [some (.ref jX), some (.ref l1), some (.ref l2), some (.int l3)], [], S, rc, rs)
      refine jLf.bk hc 5 [] [some (.ref jX), some (.ref l1), some (.ref l2), some (.int l3)] [.int (l3 + (1 : Int32)), .ref jX, .ref l1] S rfl rfl rfl trivial ?_
      obtain ⟨gb, h⟩ := h
      refine jLf.one hc _ rfl (gs := [jX = jX, vp_in (l3 + (1 : Int32)) L]) (c := (468, [some (.ref jX), some (.ref l1), some (.ref l2), some (.int l3)], [.int (xs (l3 + (1 : Int32)).toNatClampNeg), .ref l1], S, rc, rs)) rfl ⟨rfl, gb⟩ ?_
      obtain ⟨g138, h⟩ := h
      refine jLf.inv hc _ rfl (gs := [jA S l1 11, (([] : List Value).map fun v => v.category).sum ≤ 8, 0 ≤ rc, 0 ≤ rs]) (k := 121) (args := [.ref l1, .int (xs (l3 + (1 : Int32)).toNatClampNeg)]) (r := []) (a := rc) (b := rs) rfl ⟨g138, Nat.le_of_ble_eq_true rfl, Nat.zero_le _, Nat.zero_le _⟩ (vX11_could d (by omega) h) ?_
      rintro v S136 ⟨r137, rfl, h⟩
      show jLf (jCall jmt jbud d) jbud (fun j => (jmt j).rk) (some (L, xs)) mL_law (jqI Q) (469, [some (.ref jX), some (.ref l1), some (.ref l2), some (.int l3)], [.int r137], S136, rc, rs)
      refine jLf.bk hc 5 [] [some (.ref jX), some (.ref l1), some (.ref l2), some (.int l3)] [.int (l3 + (1 : Int32)), .ref jX, .ref l2, .int r137] S136 rfl rfl rfl trivial ?_
      obtain ⟨gb, h⟩ := h
      refine jLf.one hc _ rfl (gs := [jX = jX, vp_in (l3 + (1 : Int32)) L]) (c := (475, [some (.ref jX), some (.ref l1), some (.ref l2), some (.int l3)], [.int (xs (l3 + (1 : Int32)).toNatClampNeg), .ref l2, .int r137], S136, rc, rs)) rfl ⟨rfl, gb⟩ ?_
      obtain ⟨g141, h⟩ := h
      refine jLf.inv hc _ rfl (gs := [jA S136 l2 12, (([.int r137] : List Value).map fun v => v.category).sum ≤ 8, 0 ≤ rc, 0 ≤ rs]) (k := 215) (args := [.ref l2, .int (xs (l3 + (1 : Int32)).toNatClampNeg)]) (r := [.int r137]) (a := rc) (b := rs) rfl ⟨g141, Nat.le_of_ble_eq_true rfl, Nat.zero_le _, Nat.zero_le _⟩ (vX12_could d (by omega) h) ?_
      rintro v S139 ⟨r140, rfl, h⟩
      show jLf (jCall jmt jbud d) jbud (fun j => (jmt j).rk) (some (L, xs)) mL_law (jqI Q) (476, [some (.ref jX), some (.ref l1), some (.ref l2), some (.int l3)], [.int r140, .int r137], S139, rc, rs)
      refine jLf.two hc _ rfl (gs := []) (p1 := r137 = r140) (p2 := ¬ (r137 = r140)) (c1 := (826, [some (.ref jX), some (.ref l1), some (.ref l2), some (.int l3)], [], S139, rc, rs)) (c2 := (477, [some (.ref jX), some (.ref l1), some (.ref l2), some (.int l3)], [], S139, rc, rs)) rfl trivial (fun hz => ?_) (fun hz => ?_)
      · have h := h.1 hz
        exact tL_law_826 d hd hG hX10 h
      · have h := h.2 hz
        refine jLf.bk hc 1 [] [some (.ref jX), some (.ref l1), some (.ref l2), some (.int l3)] [.int 0] S139 rfl rfl rfl trivial ?_
        exact jLf.ret hc _ rfl (gs := [jbit 0]) (v := some (.int 0)) rfl (Or.inl rfl) ⟨_, rfl, h⟩
    have h := h.2 hz
    refine ⟨fun hz => ?_, fun hz => ?_⟩
    · have h := h.1 hz
      show jLf (jCall jmt jbud d) jbud (fun j => (jmt j).rk) (some (L, xs)) mL_law (jqI Q) (479, [some (.ref jX), some (.ref l1), some (.ref l2), some (.int l3)], [], S, rc, rs)
      refine jLf.bk hc 1 [] [some (.ref jX), some (.ref l1), some (.ref l2), some (.int l3)] [.ref l1] S rfl rfl rfl trivial ?_
      obtain ⟨g144, h⟩ := h
      refine jLf.inv hc _ rfl (gs := [jA S l1 11, (([] : List Value).map fun v => v.category).sum ≤ 8, 0 ≤ rc, 0 ≤ rs]) (k := 122) (args := [.ref l1]) (r := []) (a := rc) (b := rs) rfl ⟨g144, Nat.le_of_ble_eq_true rfl, Nat.zero_le _, Nat.zero_le _⟩ (vX11_lies d (by omega) h) ?_
      rintro v S142 ⟨r143, rfl, h⟩
      show jLf (jCall jmt jbud d) jbud (fun j => (jmt j).rk) (some (L, xs)) mL_law (jqI Q) (481, [some (.ref jX), some (.ref l1), some (.ref l2), some (.int l3)], [.int r143], S142, rc, rs)
      refine jLf.bk hc 1 [] [some (.ref jX), some (.ref l1), some (.ref l2), some (.int l3)] [.ref l2, .int r143] S142 rfl rfl rfl trivial ?_
      obtain ⟨g147, h⟩ := h
      refine jLf.inv hc _ rfl (gs := [jA S142 l2 12, (([.int r143] : List Value).map fun v => v.category).sum ≤ 8, 0 ≤ rc, 0 ≤ rs]) (k := 216) (args := [.ref l2]) (r := [.int r143]) (a := rc) (b := rs) rfl ⟨g147, Nat.le_of_ble_eq_true rfl, Nat.zero_le _, Nat.zero_le _⟩ (vX12_lies d (by omega) h) ?_
      rintro v S145 ⟨r146, rfl, h⟩
      show jLf (jCall jmt jbud d) jbud (fun j => (jmt j).rk) (some (L, xs)) mL_law (jqI Q) (483, [some (.ref jX), some (.ref l1), some (.ref l2), some (.int l3)], [.int r146, .int r143], S145, rc, rs)
      refine jLf.two hc _ rfl (gs := []) (p1 := r143 = r146) (p2 := ¬ (r143 = r146)) (c1 := (826, [some (.ref jX), some (.ref l1), some (.ref l2), some (.int l3)], [], S145, rc, rs)) (c2 := (484, [some (.ref jX), some (.ref l1), some (.ref l2), some (.int l3)], [], S145, rc, rs)) rfl trivial (fun hz => ?_) (fun hz => ?_)
      · have h := h.1 hz
        exact tL_law_826 d hd hG hX10 h
      · have h := h.2 hz
        refine jLf.bk hc 1 [] [some (.ref jX), some (.ref l1), some (.ref l2), some (.int l3)] [.int 0] S145 rfl rfl rfl trivial ?_
        exact jLf.ret hc _ rfl (gs := [jbit 0]) (v := some (.int 0)) rfl (Or.inl rfl) ⟨_, rfl, h⟩
    have h := h.2 hz
    refine ⟨fun hz => ?_, fun hz => ?_⟩
    · have h := h.1 hz
      show jLf (jCall jmt jbud d) jbud (fun j => (jmt j).rk) (some (L, xs)) mL_law (jqI Q) (486, [some (.ref jX), some (.ref l1), some (.ref l2), some (.int l3)], [], S, rc, rs)
      refine jLf.bk hc 1 [] [some (.ref jX), some (.ref l1), some (.ref l2), some (.int l3)] [.ref l1] S rfl rfl rfl trivial ?_
      obtain ⟨g150, h⟩ := h
      refine jLf.inv hc _ rfl (gs := [jA S l1 11, (([] : List Value).map fun v => v.category).sum ≤ 8, 0 ≤ rc, 0 ≤ rs]) (k := 123) (args := [.ref l1]) (r := []) (a := rc) (b := rs) rfl ⟨g150, Nat.le_of_ble_eq_true rfl, Nat.zero_le _, Nat.zero_le _⟩ (vX11_ways d (by omega) h) ?_
      rintro v S148 ⟨r149, rfl, h⟩
      show jLf (jCall jmt jbud d) jbud (fun j => (jmt j).rk) (some (L, xs)) mL_law (jqI Q) (488, [some (.ref jX), some (.ref l1), some (.ref l2), some (.int l3)], [.long r149], S148, rc, rs)
      refine jLf.bk hc 1 [] [some (.ref jX), some (.ref l1), some (.ref l2), some (.int l3)] [.ref l2, .long r149] S148 rfl rfl rfl trivial ?_
      obtain ⟨g153, h⟩ := h
      refine jLf.inv hc _ rfl (gs := [jA S148 l2 12, (([.long r149] : List Value).map fun v => v.category).sum ≤ 8, 0 ≤ rc, 0 ≤ rs]) (k := 217) (args := [.ref l2]) (r := [.long r149]) (a := rc) (b := rs) rfl ⟨g153, Nat.le_of_ble_eq_true rfl, Nat.zero_le _, Nat.zero_le _⟩ (vX12_ways d (by omega) h) ?_
      rintro v S151 ⟨r152, rfl, h⟩
      show jLf (jCall jmt jbud d) jbud (fun j => (jmt j).rk) (some (L, xs)) mL_law (jqI Q) (490, [some (.ref jX), some (.ref l1), some (.ref l2), some (.int l3)], [.long r152, .long r149], S151, rc, rs)
      refine jLf.bk hc 1 [] [some (.ref jX), some (.ref l1), some (.ref l2), some (.int l3)] [.int (lg_cmp r149 r152)] S151 rfl rfl rfl trivial ?_
      refine jLf.two hc _ rfl (gs := []) (p1 := (lg_cmp r149 r152) = 0) (p2 := ¬ ((lg_cmp r149 r152) = 0)) (c1 := (826, [some (.ref jX), some (.ref l1), some (.ref l2), some (.int l3)], [], S151, rc, rs)) (c2 := (492, [some (.ref jX), some (.ref l1), some (.ref l2), some (.int l3)], [], S151, rc, rs)) rfl trivial (fun hz => ?_) (fun hz => ?_)
      · have h := h.1 hz
        exact tL_law_826 d hd hG hX10 h
      · have h := h.2 hz
        refine jLf.bk hc 1 [] [some (.ref jX), some (.ref l1), some (.ref l2), some (.int l3)] [.int 0] S151 rfl rfl rfl trivial ?_
        exact jLf.ret hc _ rfl (gs := [jbit 0]) (v := some (.int 0)) rfl (Or.inl rfl) ⟨_, rfl, h⟩
    have h := h.2 hz
    refine ⟨fun hz => ?_, fun hz => ?_⟩
    · have h := h.1 hz
      show jLf (jCall jmt jbud d) jbud (fun j => (jmt j).rk) (some (L, xs)) mL_law (jqI Q) (494, [some (.ref jX), some (.ref l1), some (.ref l2), some (.int l3)], [], S, rc, rs)
      refine jLf.bk hc 5 [] [some (.ref jX), some (.ref l1), some (.ref l2), some (.int l3)] [.int (l3 + (1 : Int32)), .ref jX, .ref l1] S rfl rfl rfl trivial ?_
      obtain ⟨gb, h⟩ := h
      refine jLf.one hc _ rfl (gs := [jX = jX, vp_in (l3 + (1 : Int32)) L]) (c := (500, [some (.ref jX), some (.ref l1), some (.ref l2), some (.int l3)], [.int (xs (l3 + (1 : Int32)).toNatClampNeg), .ref l1], S, rc, rs)) rfl ⟨rfl, gb⟩ ?_
      refine jLf.bk hc 4 [] [some (.ref jX), some (.ref l1), some (.ref l2), some (.int l3)] [.int (l3 + (2 : Int32)), .ref jX, .int (xs (l3 + (1 : Int32)).toNatClampNeg), .ref l1] S rfl rfl rfl trivial ?_
      obtain ⟨gb, h⟩ := h
      refine jLf.one hc _ rfl (gs := [jX = jX, vp_in (l3 + (2 : Int32)) L]) (c := (505, [some (.ref jX), some (.ref l1), some (.ref l2), some (.int l3)], [.int (xs (l3 + (2 : Int32)).toNatClampNeg), .int (xs (l3 + (1 : Int32)).toNatClampNeg), .ref l1], S, rc, rs)) rfl ⟨rfl, gb⟩ ?_
      obtain ⟨g156, h⟩ := h
      refine jLf.inv hc _ rfl (gs := [jA S l1 11, (([] : List Value).map fun v => v.category).sum ≤ 8, 0 ≤ rc, 0 ≤ rs]) (k := 124) (args := [.ref l1, .int (xs (l3 + (1 : Int32)).toNatClampNeg), .int (xs (l3 + (2 : Int32)).toNatClampNeg)]) (r := []) (a := rc) (b := rs) rfl ⟨g156, Nat.le_of_ble_eq_true rfl, Nat.zero_le _, Nat.zero_le _⟩ (vX11_likely d (by omega) h) ?_
      rintro v S154 ⟨r155, rfl, h⟩
      show jLf (jCall jmt jbud d) jbud (fun j => (jmt j).rk) (some (L, xs)) mL_law (jqI Q) (506, [some (.ref jX), some (.ref l1), some (.ref l2), some (.int l3)], [.int r155], S154, rc, rs)
      refine jLf.bk hc 5 [] [some (.ref jX), some (.ref l1), some (.ref l2), some (.int l3)] [.int (l3 + (1 : Int32)), .ref jX, .ref l2, .int r155] S154 rfl rfl rfl trivial ?_
      obtain ⟨gb, h⟩ := h
      refine jLf.one hc _ rfl (gs := [jX = jX, vp_in (l3 + (1 : Int32)) L]) (c := (512, [some (.ref jX), some (.ref l1), some (.ref l2), some (.int l3)], [.int (xs (l3 + (1 : Int32)).toNatClampNeg), .ref l2, .int r155], S154, rc, rs)) rfl ⟨rfl, gb⟩ ?_
      refine jLf.bk hc 4 [] [some (.ref jX), some (.ref l1), some (.ref l2), some (.int l3)] [.int (l3 + (2 : Int32)), .ref jX, .int (xs (l3 + (1 : Int32)).toNatClampNeg), .ref l2, .int r155] S154 rfl rfl rfl trivial ?_
      obtain ⟨gb, h⟩ := h
      refine jLf.one hc _ rfl (gs := [jX = jX, vp_in (l3 + (2 : Int32)) L]) (c := (517, [some (.ref jX), some (.ref l1), some (.ref l2), some (.int l3)], [.int (xs (l3 + (2 : Int32)).toNatClampNeg), .int (xs (l3 + (1 : Int32)).toNatClampNeg), .ref l2, .int r155], S154, rc, rs)) rfl ⟨rfl, gb⟩ ?_
      obtain ⟨g159, h⟩ := h
      refine jLf.inv hc _ rfl (gs := [jA S154 l2 12, (([.int r155] : List Value).map fun v => v.category).sum ≤ 8, 0 ≤ rc, 0 ≤ rs]) (k := 218) (args := [.ref l2, .int (xs (l3 + (1 : Int32)).toNatClampNeg), .int (xs (l3 + (2 : Int32)).toNatClampNeg)]) (r := [.int r155]) (a := rc) (b := rs) rfl ⟨g159, Nat.le_of_ble_eq_true rfl, Nat.zero_le _, Nat.zero_le _⟩ (vX12_likely d (by omega) h) ?_
      rintro v S157 ⟨r158, rfl, h⟩
      show jLf (jCall jmt jbud d) jbud (fun j => (jmt j).rk) (some (L, xs)) mL_law (jqI Q) (518, [some (.ref jX), some (.ref l1), some (.ref l2), some (.int l3)], [.int r158, .int r155], S157, rc, rs)
      refine jLf.two hc _ rfl (gs := []) (p1 := r155 = r158) (p2 := ¬ (r155 = r158)) (c1 := (826, [some (.ref jX), some (.ref l1), some (.ref l2), some (.int l3)], [], S157, rc, rs)) (c2 := (519, [some (.ref jX), some (.ref l1), some (.ref l2), some (.int l3)], [], S157, rc, rs)) rfl trivial (fun hz => ?_) (fun hz => ?_)
      · have h := h.1 hz
        exact tL_law_826 d hd hG hX10 h
      · have h := h.2 hz
        refine jLf.bk hc 1 [] [some (.ref jX), some (.ref l1), some (.ref l2), some (.int l3)] [.int 0] S157 rfl rfl rfl trivial ?_
        exact jLf.ret hc _ rfl (gs := [jbit 0]) (v := some (.int 0)) rfl (Or.inl rfl) ⟨_, rfl, h⟩
    have h := h.2 hz
    refine ⟨fun hz => ?_, fun hz => ?_⟩
    · have h := h.1 hz
      show jLf (jCall jmt jbud d) jbud (fun j => (jmt j).rk) (some (L, xs)) mL_law (jqI Q) (521, [some (.ref jX), some (.ref l1), some (.ref l2), some (.int l3)], [], S, rc, rs)
      refine jLf.bk hc 5 [] [some (.ref jX), some (.ref l1), some (.ref l2), some (.int l3)] [.int (l3 + (1 : Int32)), .ref jX, .ref l1] S rfl rfl rfl trivial ?_
      obtain ⟨gb, h⟩ := h
      refine jLf.one hc _ rfl (gs := [jX = jX, vp_in (l3 + (1 : Int32)) L]) (c := (527, [some (.ref jX), some (.ref l1), some (.ref l2), some (.int l3)], [.int (xs (l3 + (1 : Int32)).toNatClampNeg), .ref l1], S, rc, rs)) rfl ⟨rfl, gb⟩ ?_
      obtain ⟨g162, h⟩ := h
      refine jLf.inv hc _ rfl (gs := [jA S l1 11, (([] : List Value).map fun v => v.category).sum ≤ 8, 0 ≤ rc, 0 ≤ rs]) (k := 125) (args := [.ref l1, .int (xs (l3 + (1 : Int32)).toNatClampNeg)]) (r := []) (a := rc) (b := rs) rfl ⟨g162, Nat.le_of_ble_eq_true rfl, Nat.zero_le _, Nat.zero_le _⟩ (vX11_liars d (by omega) h) ?_
      rintro v S160 ⟨r161, rfl, h⟩
      show jLf (jCall jmt jbud d) jbud (fun j => (jmt j).rk) (some (L, xs)) mL_law (jqI Q) (528, [some (.ref jX), some (.ref l1), some (.ref l2), some (.int l3)], [.int r161], S160, rc, rs)
      refine jLf.bk hc 5 [] [some (.ref jX), some (.ref l1), some (.ref l2), some (.int l3)] [.int (l3 + (1 : Int32)), .ref jX, .ref l2, .int r161] S160 rfl rfl rfl trivial ?_
      obtain ⟨gb, h⟩ := h
      refine jLf.one hc _ rfl (gs := [jX = jX, vp_in (l3 + (1 : Int32)) L]) (c := (534, [some (.ref jX), some (.ref l1), some (.ref l2), some (.int l3)], [.int (xs (l3 + (1 : Int32)).toNatClampNeg), .ref l2, .int r161], S160, rc, rs)) rfl ⟨rfl, gb⟩ ?_
      obtain ⟨g165, h⟩ := h
      refine jLf.inv hc _ rfl (gs := [jA S160 l2 12, (([.int r161] : List Value).map fun v => v.category).sum ≤ 8, 0 ≤ rc, 0 ≤ rs]) (k := 219) (args := [.ref l2, .int (xs (l3 + (1 : Int32)).toNatClampNeg)]) (r := [.int r161]) (a := rc) (b := rs) rfl ⟨g165, Nat.le_of_ble_eq_true rfl, Nat.zero_le _, Nat.zero_le _⟩ (vX12_liars d (by omega) h) ?_
      rintro v S163 ⟨r164, rfl, h⟩
      show jLf (jCall jmt jbud d) jbud (fun j => (jmt j).rk) (some (L, xs)) mL_law (jqI Q) (535, [some (.ref jX), some (.ref l1), some (.ref l2), some (.int l3)], [.int r164, .int r161], S163, rc, rs)
      refine jLf.two hc _ rfl (gs := []) (p1 := r161 = r164) (p2 := ¬ (r161 = r164)) (c1 := (826, [some (.ref jX), some (.ref l1), some (.ref l2), some (.int l3)], [], S163, rc, rs)) (c2 := (536, [some (.ref jX), some (.ref l1), some (.ref l2), some (.int l3)], [], S163, rc, rs)) rfl trivial (fun hz => ?_) (fun hz => ?_)
      · have h := h.1 hz
        exact tL_law_826 d hd hG hX10 h
      · have h := h.2 hz
        refine jLf.bk hc 1 [] [some (.ref jX), some (.ref l1), some (.ref l2), some (.int l3)] [.int 0] S163 rfl rfl rfl trivial ?_
        exact jLf.ret hc _ rfl (gs := [jbit 0]) (v := some (.int 0)) rfl (Or.inl rfl) ⟨_, rfl, h⟩
    have h := h.2 hz
    refine ⟨fun hz => ?_, fun hz => ?_⟩
    · have h := h.1 hz
      show jLf (jCall jmt jbud d) jbud (fun j => (jmt j).rk) (some (L, xs)) mL_law (jqI Q) (538, [some (.ref jX), some (.ref l1), some (.ref l2), some (.int l3)], [], S, rc, rs)
      refine jLf.bk hc 5 [] [some (.ref jX), some (.ref l1), some (.ref l2), some (.int l3)] [.int (l3 + (1 : Int32)), .ref jX, .ref l1] S rfl rfl rfl trivial ?_
      obtain ⟨gb, h⟩ := h
      refine jLf.one hc _ rfl (gs := [jX = jX, vp_in (l3 + (1 : Int32)) L]) (c := (544, [some (.ref jX), some (.ref l1), some (.ref l2), some (.int l3)], [.int (xs (l3 + (1 : Int32)).toNatClampNeg), .ref l1], S, rc, rs)) rfl ⟨rfl, gb⟩ ?_
      refine jLf.bk hc 4 [] [some (.ref jX), some (.ref l1), some (.ref l2), some (.int l3)] [.int (l3 + (2 : Int32)), .ref jX, .int (xs (l3 + (1 : Int32)).toNatClampNeg), .ref l1] S rfl rfl rfl trivial ?_
      obtain ⟨gb, h⟩ := h
      refine jLf.one hc _ rfl (gs := [jX = jX, vp_in (l3 + (2 : Int32)) L]) (c := (549, [some (.ref jX), some (.ref l1), some (.ref l2), some (.int l3)], [.int (xs (l3 + (2 : Int32)).toNatClampNeg), .int (xs (l3 + (1 : Int32)).toNatClampNeg), .ref l1], S, rc, rs)) rfl ⟨rfl, gb⟩ ?_
      refine jLf.bk hc 4 [] [some (.ref jX), some (.ref l1), some (.ref l2), some (.int l3)] [.int (l3 + (3 : Int32)), .ref jX, .int (xs (l3 + (2 : Int32)).toNatClampNeg), .int (xs (l3 + (1 : Int32)).toNatClampNeg), .ref l1] S rfl rfl rfl trivial ?_
      obtain ⟨gb, h⟩ := h
      refine jLf.one hc _ rfl (gs := [jX = jX, vp_in (l3 + (3 : Int32)) L]) (c := (554, [some (.ref jX), some (.ref l1), some (.ref l2), some (.int l3)], [.int (xs (l3 + (3 : Int32)).toNatClampNeg), .int (xs (l3 + (2 : Int32)).toNatClampNeg), .int (xs (l3 + (1 : Int32)).toNatClampNeg), .ref l1], S, rc, rs)) rfl ⟨rfl, gb⟩ ?_
      refine jLf.bk hc 4 [] [some (.ref jX), some (.ref l1), some (.ref l2), some (.int l3)] [.int (l3 + (4 : Int32)), .ref jX, .int (xs (l3 + (3 : Int32)).toNatClampNeg), .int (xs (l3 + (2 : Int32)).toNatClampNeg), .int (xs (l3 + (1 : Int32)).toNatClampNeg), .ref l1] S rfl rfl rfl trivial ?_
      obtain ⟨gb, h⟩ := h
      refine jLf.one hc _ rfl (gs := [jX = jX, vp_in (l3 + (4 : Int32)) L]) (c := (559, [some (.ref jX), some (.ref l1), some (.ref l2), some (.int l3)], [.int (xs (l3 + (4 : Int32)).toNatClampNeg), .int (xs (l3 + (3 : Int32)).toNatClampNeg), .int (xs (l3 + (2 : Int32)).toNatClampNeg), .int (xs (l3 + (1 : Int32)).toNatClampNeg), .ref l1], S, rc, rs)) rfl ⟨rfl, gb⟩ ?_
      obtain ⟨g168, h⟩ := h
      refine jLf.inv hc _ rfl (gs := [jA S l1 11, (([] : List Value).map fun v => v.category).sum ≤ 8, 0 ≤ rc, 0 ≤ rs]) (k := 126) (args := [.ref l1, .int (xs (l3 + (1 : Int32)).toNatClampNeg), .int (xs (l3 + (2 : Int32)).toNatClampNeg), .int (xs (l3 + (3 : Int32)).toNatClampNeg), .int (xs (l3 + (4 : Int32)).toNatClampNeg)]) (r := []) (a := rc) (b := rs) rfl ⟨g168, Nat.le_of_ble_eq_true rfl, Nat.zero_le _, Nat.zero_le _⟩ (vX11_round d (by omega) h) ?_
      rintro v S166 ⟨r167, rfl, h⟩
      show jLf (jCall jmt jbud d) jbud (fun j => (jmt j).rk) (some (L, xs)) mL_law (jqI Q) (560, [some (.ref jX), some (.ref l1), some (.ref l2), some (.int l3)], [.int r167], S166, rc, rs)
      refine jLf.bk hc 5 [] [some (.ref jX), some (.ref l1), some (.ref l2), some (.int l3)] [.int (l3 + (1 : Int32)), .ref jX, .ref l2, .int r167] S166 rfl rfl rfl trivial ?_
      obtain ⟨gb, h⟩ := h
      refine jLf.one hc _ rfl (gs := [jX = jX, vp_in (l3 + (1 : Int32)) L]) (c := (566, [some (.ref jX), some (.ref l1), some (.ref l2), some (.int l3)], [.int (xs (l3 + (1 : Int32)).toNatClampNeg), .ref l2, .int r167], S166, rc, rs)) rfl ⟨rfl, gb⟩ ?_
      refine jLf.bk hc 4 [] [some (.ref jX), some (.ref l1), some (.ref l2), some (.int l3)] [.int (l3 + (2 : Int32)), .ref jX, .int (xs (l3 + (1 : Int32)).toNatClampNeg), .ref l2, .int r167] S166 rfl rfl rfl trivial ?_
      obtain ⟨gb, h⟩ := h
      refine jLf.one hc _ rfl (gs := [jX = jX, vp_in (l3 + (2 : Int32)) L]) (c := (571, [some (.ref jX), some (.ref l1), some (.ref l2), some (.int l3)], [.int (xs (l3 + (2 : Int32)).toNatClampNeg), .int (xs (l3 + (1 : Int32)).toNatClampNeg), .ref l2, .int r167], S166, rc, rs)) rfl ⟨rfl, gb⟩ ?_
      refine jLf.bk hc 4 [] [some (.ref jX), some (.ref l1), some (.ref l2), some (.int l3)] [.int (l3 + (3 : Int32)), .ref jX, .int (xs (l3 + (2 : Int32)).toNatClampNeg), .int (xs (l3 + (1 : Int32)).toNatClampNeg), .ref l2, .int r167] S166 rfl rfl rfl trivial ?_
      obtain ⟨gb, h⟩ := h
      refine jLf.one hc _ rfl (gs := [jX = jX, vp_in (l3 + (3 : Int32)) L]) (c := (576, [some (.ref jX), some (.ref l1), some (.ref l2), some (.int l3)], [.int (xs (l3 + (3 : Int32)).toNatClampNeg), .int (xs (l3 + (2 : Int32)).toNatClampNeg), .int (xs (l3 + (1 : Int32)).toNatClampNeg), .ref l2, .int r167], S166, rc, rs)) rfl ⟨rfl, gb⟩ ?_
      refine jLf.bk hc 4 [] [some (.ref jX), some (.ref l1), some (.ref l2), some (.int l3)] [.int (l3 + (4 : Int32)), .ref jX, .int (xs (l3 + (3 : Int32)).toNatClampNeg), .int (xs (l3 + (2 : Int32)).toNatClampNeg), .int (xs (l3 + (1 : Int32)).toNatClampNeg), .ref l2, .int r167] S166 rfl rfl rfl trivial ?_
      obtain ⟨gb, h⟩ := h
      refine jLf.one hc _ rfl (gs := [jX = jX, vp_in (l3 + (4 : Int32)) L]) (c := (581, [some (.ref jX), some (.ref l1), some (.ref l2), some (.int l3)], [.int (xs (l3 + (4 : Int32)).toNatClampNeg), .int (xs (l3 + (3 : Int32)).toNatClampNeg), .int (xs (l3 + (2 : Int32)).toNatClampNeg), .int (xs (l3 + (1 : Int32)).toNatClampNeg), .ref l2, .int r167], S166, rc, rs)) rfl ⟨rfl, gb⟩ ?_
      obtain ⟨g171, h⟩ := h
      refine jLf.inv hc _ rfl (gs := [jA S166 l2 12, (([.int r167] : List Value).map fun v => v.category).sum ≤ 8, 0 ≤ rc, 0 ≤ rs]) (k := 222) (args := [.ref l2, .int (xs (l3 + (1 : Int32)).toNatClampNeg), .int (xs (l3 + (2 : Int32)).toNatClampNeg), .int (xs (l3 + (3 : Int32)).toNatClampNeg), .int (xs (l3 + (4 : Int32)).toNatClampNeg)]) (r := [.int r167]) (a := rc) (b := rs) rfl ⟨g171, Nat.le_of_ble_eq_true rfl, Nat.zero_le _, Nat.zero_le _⟩ (vX12_round d (by omega) h) ?_
      rintro v S169 ⟨r170, rfl, h⟩
      show jLf (jCall jmt jbud d) jbud (fun j => (jmt j).rk) (some (L, xs)) mL_law (jqI Q) (582, [some (.ref jX), some (.ref l1), some (.ref l2), some (.int l3)], [.int r170, .int r167], S169, rc, rs)
      refine jLf.two hc _ rfl (gs := []) (p1 := r167 = r170) (p2 := ¬ (r167 = r170)) (c1 := (826, [some (.ref jX), some (.ref l1), some (.ref l2), some (.int l3)], [], S169, rc, rs)) (c2 := (583, [some (.ref jX), some (.ref l1), some (.ref l2), some (.int l3)], [], S169, rc, rs)) rfl trivial (fun hz => ?_) (fun hz => ?_)
      · have h := h.1 hz
        exact tL_law_826 d hd hG hX10 h
      · have h := h.2 hz
        refine jLf.bk hc 1 [] [some (.ref jX), some (.ref l1), some (.ref l2), some (.int l3)] [.int 0] S169 rfl rfl rfl trivial ?_
        exact jLf.ret hc _ rfl (gs := [jbit 0]) (v := some (.int 0)) rfl (Or.inl rfl) ⟨_, rfl, h⟩
    have h := h.2 hz
    refine ⟨fun hz => ?_, fun hz => ?_⟩
    · have h := h.1 hz
      show jLf (jCall jmt jbud d) jbud (fun j => (jmt j).rk) (some (L, xs)) mL_law (jqI Q) (585, [some (.ref jX), some (.ref l1), some (.ref l2), some (.int l3)], [], S, rc, rs)
      refine jLf.bk hc 5 [] [some (.ref jX), some (.ref l1), some (.ref l2), some (.int l3)] [.int (l3 + (1 : Int32)), .ref jX, .ref l1] S rfl rfl rfl trivial ?_
      obtain ⟨gb, h⟩ := h
      refine jLf.one hc _ rfl (gs := [jX = jX, vp_in (l3 + (1 : Int32)) L]) (c := (591, [some (.ref jX), some (.ref l1), some (.ref l2), some (.int l3)], [.int (xs (l3 + (1 : Int32)).toNatClampNeg), .ref l1], S, rc, rs)) rfl ⟨rfl, gb⟩ ?_
      refine jLf.bk hc 4 [] [some (.ref jX), some (.ref l1), some (.ref l2), some (.int l3)] [.int (l3 + (2 : Int32)), .ref jX, .int (xs (l3 + (1 : Int32)).toNatClampNeg), .ref l1] S rfl rfl rfl trivial ?_
      obtain ⟨gb, h⟩ := h
      refine jLf.one hc _ rfl (gs := [jX = jX, vp_in (l3 + (2 : Int32)) L]) (c := (596, [some (.ref jX), some (.ref l1), some (.ref l2), some (.int l3)], [.int (xs (l3 + (2 : Int32)).toNatClampNeg), .int (xs (l3 + (1 : Int32)).toNatClampNeg), .ref l1], S, rc, rs)) rfl ⟨rfl, gb⟩ ?_
      refine jLf.bk hc 4 [] [some (.ref jX), some (.ref l1), some (.ref l2), some (.int l3)] [.int (l3 + (3 : Int32)), .ref jX, .int (xs (l3 + (2 : Int32)).toNatClampNeg), .int (xs (l3 + (1 : Int32)).toNatClampNeg), .ref l1] S rfl rfl rfl trivial ?_
      obtain ⟨gb, h⟩ := h
      refine jLf.one hc _ rfl (gs := [jX = jX, vp_in (l3 + (3 : Int32)) L]) (c := (601, [some (.ref jX), some (.ref l1), some (.ref l2), some (.int l3)], [.int (xs (l3 + (3 : Int32)).toNatClampNeg), .int (xs (l3 + (2 : Int32)).toNatClampNeg), .int (xs (l3 + (1 : Int32)).toNatClampNeg), .ref l1], S, rc, rs)) rfl ⟨rfl, gb⟩ ?_
      obtain ⟨g174, h⟩ := h
      refine jLf.inv hc _ rfl (gs := [jA S l1 11, (([] : List Value).map fun v => v.category).sum ≤ 8, 0 ≤ rc, 0 ≤ rs]) (k := 127) (args := [.ref l1, .int (xs (l3 + (1 : Int32)).toNatClampNeg), .int (xs (l3 + (2 : Int32)).toNatClampNeg), .int (xs (l3 + (3 : Int32)).toNatClampNeg)]) (r := []) (a := rc) (b := rs) rfl ⟨g174, Nat.le_of_ble_eq_true rfl, Nat.zero_le _, Nat.zero_le _⟩ (vX11_reach d (by omega) h) ?_
      rintro v S172 ⟨r173, rfl, h⟩
      show jLf (jCall jmt jbud d) jbud (fun j => (jmt j).rk) (some (L, xs)) mL_law (jqI Q) (602, [some (.ref jX), some (.ref l1), some (.ref l2), some (.int l3)], [.int r173], S172, rc, rs)
      refine jLf.bk hc 5 [] [some (.ref jX), some (.ref l1), some (.ref l2), some (.int l3)] [.int (l3 + (1 : Int32)), .ref jX, .ref l2, .int r173] S172 rfl rfl rfl trivial ?_
      obtain ⟨gb, h⟩ := h
      refine jLf.one hc _ rfl (gs := [jX = jX, vp_in (l3 + (1 : Int32)) L]) (c := (608, [some (.ref jX), some (.ref l1), some (.ref l2), some (.int l3)], [.int (xs (l3 + (1 : Int32)).toNatClampNeg), .ref l2, .int r173], S172, rc, rs)) rfl ⟨rfl, gb⟩ ?_
      refine jLf.bk hc 4 [] [some (.ref jX), some (.ref l1), some (.ref l2), some (.int l3)] [.int (l3 + (2 : Int32)), .ref jX, .int (xs (l3 + (1 : Int32)).toNatClampNeg), .ref l2, .int r173] S172 rfl rfl rfl trivial ?_
      obtain ⟨gb, h⟩ := h
      refine jLf.one hc _ rfl (gs := [jX = jX, vp_in (l3 + (2 : Int32)) L]) (c := (613, [some (.ref jX), some (.ref l1), some (.ref l2), some (.int l3)], [.int (xs (l3 + (2 : Int32)).toNatClampNeg), .int (xs (l3 + (1 : Int32)).toNatClampNeg), .ref l2, .int r173], S172, rc, rs)) rfl ⟨rfl, gb⟩ ?_
      refine jLf.bk hc 4 [] [some (.ref jX), some (.ref l1), some (.ref l2), some (.int l3)] [.int (l3 + (3 : Int32)), .ref jX, .int (xs (l3 + (2 : Int32)).toNatClampNeg), .int (xs (l3 + (1 : Int32)).toNatClampNeg), .ref l2, .int r173] S172 rfl rfl rfl trivial ?_
      obtain ⟨gb, h⟩ := h
      refine jLf.one hc _ rfl (gs := [jX = jX, vp_in (l3 + (3 : Int32)) L]) (c := (618, [some (.ref jX), some (.ref l1), some (.ref l2), some (.int l3)], [.int (xs (l3 + (3 : Int32)).toNatClampNeg), .int (xs (l3 + (2 : Int32)).toNatClampNeg), .int (xs (l3 + (1 : Int32)).toNatClampNeg), .ref l2, .int r173], S172, rc, rs)) rfl ⟨rfl, gb⟩ ?_
      obtain ⟨g177, h⟩ := h
      refine jLf.inv hc _ rfl (gs := [jA S172 l2 12, (([.int r173] : List Value).map fun v => v.category).sum ≤ 8, 0 ≤ rc, 0 ≤ rs]) (k := 223) (args := [.ref l2, .int (xs (l3 + (1 : Int32)).toNatClampNeg), .int (xs (l3 + (2 : Int32)).toNatClampNeg), .int (xs (l3 + (3 : Int32)).toNatClampNeg)]) (r := [.int r173]) (a := rc) (b := rs) rfl ⟨g177, Nat.le_of_ble_eq_true rfl, Nat.zero_le _, Nat.zero_le _⟩ (vX12_reach d (by omega) h) ?_
      rintro v S175 ⟨r176, rfl, h⟩
      show jLf (jCall jmt jbud d) jbud (fun j => (jmt j).rk) (some (L, xs)) mL_law (jqI Q) (619, [some (.ref jX), some (.ref l1), some (.ref l2), some (.int l3)], [.int r176, .int r173], S175, rc, rs)
      refine jLf.two hc _ rfl (gs := []) (p1 := r173 = r176) (p2 := ¬ (r173 = r176)) (c1 := (826, [some (.ref jX), some (.ref l1), some (.ref l2), some (.int l3)], [], S175, rc, rs)) (c2 := (620, [some (.ref jX), some (.ref l1), some (.ref l2), some (.int l3)], [], S175, rc, rs)) rfl trivial (fun hz => ?_) (fun hz => ?_)
      · have h := h.1 hz
        exact tL_law_826 d hd hG hX10 h
      · have h := h.2 hz
        refine jLf.bk hc 1 [] [some (.ref jX), some (.ref l1), some (.ref l2), some (.int l3)] [.int 0] S175 rfl rfl rfl trivial ?_
        exact jLf.ret hc _ rfl (gs := [jbit 0]) (v := some (.int 0)) rfl (Or.inl rfl) ⟨_, rfl, h⟩
    have h := h.2 hz
    refine ⟨fun hz => ?_, fun hz => ?_⟩
    · have h := h.1 hz
      show jLf (jCall jmt jbud d) jbud (fun j => (jmt j).rk) (some (L, xs)) mL_law (jqI Q) (622, [some (.ref jX), some (.ref l1), some (.ref l2), some (.int l3)], [], S, rc, rs)
      refine jLf.bk hc 5 [] [some (.ref jX), some (.ref l1), some (.ref l2), some (.int l3)] [.int (l3 + (1 : Int32)), .ref jX, .ref l1] S rfl rfl rfl trivial ?_
      obtain ⟨gb, h⟩ := h
      refine jLf.one hc _ rfl (gs := [jX = jX, vp_in (l3 + (1 : Int32)) L]) (c := (628, [some (.ref jX), some (.ref l1), some (.ref l2), some (.int l3)], [.int (xs (l3 + (1 : Int32)).toNatClampNeg), .ref l1], S, rc, rs)) rfl ⟨rfl, gb⟩ ?_
      refine jLf.bk hc 4 [] [some (.ref jX), some (.ref l1), some (.ref l2), some (.int l3)] [.int (l3 + (2 : Int32)), .ref jX, .int (xs (l3 + (1 : Int32)).toNatClampNeg), .ref l1] S rfl rfl rfl trivial ?_
      obtain ⟨gb, h⟩ := h
      refine jLf.one hc _ rfl (gs := [jX = jX, vp_in (l3 + (2 : Int32)) L]) (c := (633, [some (.ref jX), some (.ref l1), some (.ref l2), some (.int l3)], [.int (xs (l3 + (2 : Int32)).toNatClampNeg), .int (xs (l3 + (1 : Int32)).toNatClampNeg), .ref l1], S, rc, rs)) rfl ⟨rfl, gb⟩ ?_
      refine jLf.bk hc 4 [] [some (.ref jX), some (.ref l1), some (.ref l2), some (.int l3)] [.int (l3 + (3 : Int32)), .ref jX, .int (xs (l3 + (2 : Int32)).toNatClampNeg), .int (xs (l3 + (1 : Int32)).toNatClampNeg), .ref l1] S rfl rfl rfl trivial ?_
      obtain ⟨gb, h⟩ := h
      refine jLf.one hc _ rfl (gs := [jX = jX, vp_in (l3 + (3 : Int32)) L]) (c := (638, [some (.ref jX), some (.ref l1), some (.ref l2), some (.int l3)], [.int (xs (l3 + (3 : Int32)).toNatClampNeg), .int (xs (l3 + (2 : Int32)).toNatClampNeg), .int (xs (l3 + (1 : Int32)).toNatClampNeg), .ref l1], S, rc, rs)) rfl ⟨rfl, gb⟩ ?_
      refine jLf.bk hc 4 [] [some (.ref jX), some (.ref l1), some (.ref l2), some (.int l3)] [.int (l3 + (4 : Int32)), .ref jX, .int (xs (l3 + (3 : Int32)).toNatClampNeg), .int (xs (l3 + (2 : Int32)).toNatClampNeg), .int (xs (l3 + (1 : Int32)).toNatClampNeg), .ref l1] S rfl rfl rfl trivial ?_
      obtain ⟨gb, h⟩ := h
      refine jLf.one hc _ rfl (gs := [jX = jX, vp_in (l3 + (4 : Int32)) L]) (c := (643, [some (.ref jX), some (.ref l1), some (.ref l2), some (.int l3)], [.int (xs (l3 + (4 : Int32)).toNatClampNeg), .int (xs (l3 + (3 : Int32)).toNatClampNeg), .int (xs (l3 + (2 : Int32)).toNatClampNeg), .int (xs (l3 + (1 : Int32)).toNatClampNeg), .ref l1], S, rc, rs)) rfl ⟨rfl, gb⟩ ?_
      obtain ⟨g180, h⟩ := h
      refine jLf.inv hc _ rfl (gs := [jA S l1 11, (([] : List Value).map fun v => v.category).sum ≤ 8, 0 ≤ rc, 0 ≤ rs]) (k := 128) (args := [.ref l1, .int (xs (l3 + (1 : Int32)).toNatClampNeg), .int (xs (l3 + (2 : Int32)).toNatClampNeg), .int (xs (l3 + (3 : Int32)).toNatClampNeg), .int (xs (l3 + (4 : Int32)).toNatClampNeg)]) (r := []) (a := rc) (b := rs) rfl ⟨g180, Nat.le_of_ble_eq_true rfl, Nat.zero_le _, Nat.zero_le _⟩ (vX11_guard d (by omega) h) ?_
      rintro v S178 ⟨r179, rfl, h⟩
      show jLf (jCall jmt jbud d) jbud (fun j => (jmt j).rk) (some (L, xs)) mL_law (jqI Q) (644, [some (.ref jX), some (.ref l1), some (.ref l2), some (.int l3)], [.int r179], S178, rc, rs)
      refine jLf.bk hc 5 [] [some (.ref jX), some (.ref l1), some (.ref l2), some (.int l3)] [.int (l3 + (1 : Int32)), .ref jX, .ref l2, .int r179] S178 rfl rfl rfl trivial ?_
      obtain ⟨gb, h⟩ := h
      refine jLf.one hc _ rfl (gs := [jX = jX, vp_in (l3 + (1 : Int32)) L]) (c := (650, [some (.ref jX), some (.ref l1), some (.ref l2), some (.int l3)], [.int (xs (l3 + (1 : Int32)).toNatClampNeg), .ref l2, .int r179], S178, rc, rs)) rfl ⟨rfl, gb⟩ ?_
      refine jLf.bk hc 4 [] [some (.ref jX), some (.ref l1), some (.ref l2), some (.int l3)] [.int (l3 + (2 : Int32)), .ref jX, .int (xs (l3 + (1 : Int32)).toNatClampNeg), .ref l2, .int r179] S178 rfl rfl rfl trivial ?_
      obtain ⟨gb, h⟩ := h
      refine jLf.one hc _ rfl (gs := [jX = jX, vp_in (l3 + (2 : Int32)) L]) (c := (655, [some (.ref jX), some (.ref l1), some (.ref l2), some (.int l3)], [.int (xs (l3 + (2 : Int32)).toNatClampNeg), .int (xs (l3 + (1 : Int32)).toNatClampNeg), .ref l2, .int r179], S178, rc, rs)) rfl ⟨rfl, gb⟩ ?_
      refine jLf.bk hc 4 [] [some (.ref jX), some (.ref l1), some (.ref l2), some (.int l3)] [.int (l3 + (3 : Int32)), .ref jX, .int (xs (l3 + (2 : Int32)).toNatClampNeg), .int (xs (l3 + (1 : Int32)).toNatClampNeg), .ref l2, .int r179] S178 rfl rfl rfl trivial ?_
      obtain ⟨gb, h⟩ := h
      refine jLf.one hc _ rfl (gs := [jX = jX, vp_in (l3 + (3 : Int32)) L]) (c := (660, [some (.ref jX), some (.ref l1), some (.ref l2), some (.int l3)], [.int (xs (l3 + (3 : Int32)).toNatClampNeg), .int (xs (l3 + (2 : Int32)).toNatClampNeg), .int (xs (l3 + (1 : Int32)).toNatClampNeg), .ref l2, .int r179], S178, rc, rs)) rfl ⟨rfl, gb⟩ ?_
      refine jLf.bk hc 4 [] [some (.ref jX), some (.ref l1), some (.ref l2), some (.int l3)] [.int (l3 + (4 : Int32)), .ref jX, .int (xs (l3 + (3 : Int32)).toNatClampNeg), .int (xs (l3 + (2 : Int32)).toNatClampNeg), .int (xs (l3 + (1 : Int32)).toNatClampNeg), .ref l2, .int r179] S178 rfl rfl rfl trivial ?_
      obtain ⟨gb, h⟩ := h
      refine jLf.one hc _ rfl (gs := [jX = jX, vp_in (l3 + (4 : Int32)) L]) (c := (665, [some (.ref jX), some (.ref l1), some (.ref l2), some (.int l3)], [.int (xs (l3 + (4 : Int32)).toNatClampNeg), .int (xs (l3 + (3 : Int32)).toNatClampNeg), .int (xs (l3 + (2 : Int32)).toNatClampNeg), .int (xs (l3 + (1 : Int32)).toNatClampNeg), .ref l2, .int r179], S178, rc, rs)) rfl ⟨rfl, gb⟩ ?_
      obtain ⟨g183, h⟩ := h
      refine jLf.inv hc _ rfl (gs := [jA S178 l2 12, (([.int r179] : List Value).map fun v => v.category).sum ≤ 8, 0 ≤ rc, 0 ≤ rs]) (k := 224) (args := [.ref l2, .int (xs (l3 + (1 : Int32)).toNatClampNeg), .int (xs (l3 + (2 : Int32)).toNatClampNeg), .int (xs (l3 + (3 : Int32)).toNatClampNeg), .int (xs (l3 + (4 : Int32)).toNatClampNeg)]) (r := [.int r179]) (a := rc) (b := rs) rfl ⟨g183, Nat.le_of_ble_eq_true rfl, Nat.zero_le _, Nat.zero_le _⟩ (vX12_guard d (by omega) h) ?_
      rintro v S181 ⟨r182, rfl, h⟩
      show jLf (jCall jmt jbud d) jbud (fun j => (jmt j).rk) (some (L, xs)) mL_law (jqI Q) (666, [some (.ref jX), some (.ref l1), some (.ref l2), some (.int l3)], [.int r182, .int r179], S181, rc, rs)
      refine jLf.two hc _ rfl (gs := []) (p1 := r179 = r182) (p2 := ¬ (r179 = r182)) (c1 := (826, [some (.ref jX), some (.ref l1), some (.ref l2), some (.int l3)], [], S181, rc, rs)) (c2 := (667, [some (.ref jX), some (.ref l1), some (.ref l2), some (.int l3)], [], S181, rc, rs)) rfl trivial (fun hz => ?_) (fun hz => ?_)
      · have h := h.1 hz
        exact tL_law_826 d hd hG hX10 h
      · have h := h.2 hz
        refine jLf.bk hc 1 [] [some (.ref jX), some (.ref l1), some (.ref l2), some (.int l3)] [.int 0] S181 rfl rfl rfl trivial ?_
        exact jLf.ret hc _ rfl (gs := [jbit 0]) (v := some (.int 0)) rfl (Or.inl rfl) ⟨_, rfl, h⟩
    have h := h.2 hz
    refine ⟨fun hz => ?_, fun hz => ?_⟩
    · have h := h.1 hz
      show jLf (jCall jmt jbud d) jbud (fun j => (jmt j).rk) (some (L, xs)) mL_law (jqI Q) (669, [some (.ref jX), some (.ref l1), some (.ref l2), some (.int l3)], [], S, rc, rs)
      refine jLf.bk hc 5 [] [some (.ref jX), some (.ref l1), some (.ref l2), some (.int l3)] [.int (l3 + (1 : Int32)), .ref jX, .ref l1] S rfl rfl rfl trivial ?_
      obtain ⟨gb, h⟩ := h
      refine jLf.one hc _ rfl (gs := [jX = jX, vp_in (l3 + (1 : Int32)) L]) (c := (675, [some (.ref jX), some (.ref l1), some (.ref l2), some (.int l3)], [.int (xs (l3 + (1 : Int32)).toNatClampNeg), .ref l1], S, rc, rs)) rfl ⟨rfl, gb⟩ ?_
      refine jLf.bk hc 4 [] [some (.ref jX), some (.ref l1), some (.ref l2), some (.int l3)] [.int (l3 + (2 : Int32)), .ref jX, .int (xs (l3 + (1 : Int32)).toNatClampNeg), .ref l1] S rfl rfl rfl trivial ?_
      obtain ⟨gb, h⟩ := h
      refine jLf.one hc _ rfl (gs := [jX = jX, vp_in (l3 + (2 : Int32)) L]) (c := (680, [some (.ref jX), some (.ref l1), some (.ref l2), some (.int l3)], [.int (xs (l3 + (2 : Int32)).toNatClampNeg), .int (xs (l3 + (1 : Int32)).toNatClampNeg), .ref l1], S, rc, rs)) rfl ⟨rfl, gb⟩ ?_
      obtain ⟨g186, h⟩ := h
      refine jLf.inv hc _ rfl (gs := [jA S l1 11, (([] : List Value).map fun v => v.category).sum ≤ 8, 0 ≤ rc, 0 ≤ rs]) (k := 129) (args := [.ref l1, .int (xs (l3 + (1 : Int32)).toNatClampNeg), .int (xs (l3 + (2 : Int32)).toNatClampNeg)]) (r := []) (a := rc) (b := rs) rfl ⟨g186, Nat.le_of_ble_eq_true rfl, Nat.zero_le _, Nat.zero_le _⟩ (vX11_sea d (by omega) h) ?_
      rintro v S184 ⟨r185, rfl, h⟩
      show jLf (jCall jmt jbud d) jbud (fun j => (jmt j).rk) (some (L, xs)) mL_law (jqI Q) (681, [some (.ref jX), some (.ref l1), some (.ref l2), some (.int l3)], [.int r185], S184, rc, rs)
      refine jLf.bk hc 5 [] [some (.ref jX), some (.ref l1), some (.ref l2), some (.int l3)] [.int (l3 + (1 : Int32)), .ref jX, .ref l2, .int r185] S184 rfl rfl rfl trivial ?_
      obtain ⟨gb, h⟩ := h
      refine jLf.one hc _ rfl (gs := [jX = jX, vp_in (l3 + (1 : Int32)) L]) (c := (687, [some (.ref jX), some (.ref l1), some (.ref l2), some (.int l3)], [.int (xs (l3 + (1 : Int32)).toNatClampNeg), .ref l2, .int r185], S184, rc, rs)) rfl ⟨rfl, gb⟩ ?_
      refine jLf.bk hc 4 [] [some (.ref jX), some (.ref l1), some (.ref l2), some (.int l3)] [.int (l3 + (2 : Int32)), .ref jX, .int (xs (l3 + (1 : Int32)).toNatClampNeg), .ref l2, .int r185] S184 rfl rfl rfl trivial ?_
      obtain ⟨gb, h⟩ := h
      refine jLf.one hc _ rfl (gs := [jX = jX, vp_in (l3 + (2 : Int32)) L]) (c := (692, [some (.ref jX), some (.ref l1), some (.ref l2), some (.int l3)], [.int (xs (l3 + (2 : Int32)).toNatClampNeg), .int (xs (l3 + (1 : Int32)).toNatClampNeg), .ref l2, .int r185], S184, rc, rs)) rfl ⟨rfl, gb⟩ ?_
      obtain ⟨g189, h⟩ := h
      refine jLf.inv hc _ rfl (gs := [jA S184 l2 12, (([.int r185] : List Value).map fun v => v.category).sum ≤ 8, 0 ≤ rc, 0 ≤ rs]) (k := 225) (args := [.ref l2, .int (xs (l3 + (1 : Int32)).toNatClampNeg), .int (xs (l3 + (2 : Int32)).toNatClampNeg)]) (r := [.int r185]) (a := rc) (b := rs) rfl ⟨g189, Nat.le_of_ble_eq_true rfl, Nat.zero_le _, Nat.zero_le _⟩ (vX12_sea d (by omega) h) ?_
      rintro v S187 ⟨r188, rfl, h⟩
      show jLf (jCall jmt jbud d) jbud (fun j => (jmt j).rk) (some (L, xs)) mL_law (jqI Q) (693, [some (.ref jX), some (.ref l1), some (.ref l2), some (.int l3)], [.int r188, .int r185], S187, rc, rs)
      refine jLf.two hc _ rfl (gs := []) (p1 := r185 = r188) (p2 := ¬ (r185 = r188)) (c1 := (826, [some (.ref jX), some (.ref l1), some (.ref l2), some (.int l3)], [], S187, rc, rs)) (c2 := (694, [some (.ref jX), some (.ref l1), some (.ref l2), some (.int l3)], [], S187, rc, rs)) rfl trivial (fun hz => ?_) (fun hz => ?_)
      · have h := h.1 hz
        exact tL_law_826 d hd hG hX10 h
      · have h := h.2 hz
        refine jLf.bk hc 1 [] [some (.ref jX), some (.ref l1), some (.ref l2), some (.int l3)] [.int 0] S187 rfl rfl rfl trivial ?_
        exact jLf.ret hc _ rfl (gs := [jbit 0]) (v := some (.int 0)) rfl (Or.inl rfl) ⟨_, rfl, h⟩
    have h := h.2 hz
    refine ⟨fun hz => ?_, fun hz => ?_⟩
    · have h := h.1 hz
      show jLf (jCall jmt jbud d) jbud (fun j => (jmt j).rk) (some (L, xs)) mL_law (jqI Q) (696, [some (.ref jX), some (.ref l1), some (.ref l2), some (.int l3)], [], S, rc, rs)
      refine jLf.bk hc 5 [] [some (.ref jX), some (.ref l1), some (.ref l2), some (.int l3)] [.int (l3 + (1 : Int32)), .ref jX, .ref l1] S rfl rfl rfl trivial ?_
      obtain ⟨gb, h⟩ := h
      refine jLf.one hc _ rfl (gs := [jX = jX, vp_in (l3 + (1 : Int32)) L]) (c := (702, [some (.ref jX), some (.ref l1), some (.ref l2), some (.int l3)], [.int (xs (l3 + (1 : Int32)).toNatClampNeg), .ref l1], S, rc, rs)) rfl ⟨rfl, gb⟩ ?_
      refine jLf.bk hc 4 [] [some (.ref jX), some (.ref l1), some (.ref l2), some (.int l3)] [.int (l3 + (2 : Int32)), .ref jX, .int (xs (l3 + (1 : Int32)).toNatClampNeg), .ref l1] S rfl rfl rfl trivial ?_
      obtain ⟨gb, h⟩ := h
      refine jLf.one hc _ rfl (gs := [jX = jX, vp_in (l3 + (2 : Int32)) L]) (c := (707, [some (.ref jX), some (.ref l1), some (.ref l2), some (.int l3)], [.int (xs (l3 + (2 : Int32)).toNatClampNeg), .int (xs (l3 + (1 : Int32)).toNatClampNeg), .ref l1], S, rc, rs)) rfl ⟨rfl, gb⟩ ?_
      obtain ⟨g192, h⟩ := h
      refine jLf.inv hc _ rfl (gs := [jA S l1 11, (([] : List Value).map fun v => v.category).sum ≤ 8, 0 ≤ rc, 0 ≤ rs]) (k := 130) (args := [.ref l1, .int (xs (l3 + (1 : Int32)).toNatClampNeg), .int (xs (l3 + (2 : Int32)).toNatClampNeg)]) (r := []) (a := rc) (b := rs) rfl ⟨g192, Nat.le_of_ble_eq_true rfl, Nat.zero_le _, Nat.zero_le _⟩ (vX11_search d (by omega) h) ?_
      rintro v S190 ⟨r191, rfl, h⟩
      show jLf (jCall jmt jbud d) jbud (fun j => (jmt j).rk) (some (L, xs)) mL_law (jqI Q) (708, [some (.ref jX), some (.ref l1), some (.ref l2), some (.int l3)], [.long r191], S190, rc, rs)
      refine jLf.bk hc 5 [] [some (.ref jX), some (.ref l1), some (.ref l2), some (.int l3)] [.int (l3 + (1 : Int32)), .ref jX, .ref l2, .long r191] S190 rfl rfl rfl trivial ?_
      obtain ⟨gb, h⟩ := h
      refine jLf.one hc _ rfl (gs := [jX = jX, vp_in (l3 + (1 : Int32)) L]) (c := (714, [some (.ref jX), some (.ref l1), some (.ref l2), some (.int l3)], [.int (xs (l3 + (1 : Int32)).toNatClampNeg), .ref l2, .long r191], S190, rc, rs)) rfl ⟨rfl, gb⟩ ?_
      refine jLf.bk hc 4 [] [some (.ref jX), some (.ref l1), some (.ref l2), some (.int l3)] [.int (l3 + (2 : Int32)), .ref jX, .int (xs (l3 + (1 : Int32)).toNatClampNeg), .ref l2, .long r191] S190 rfl rfl rfl trivial ?_
      obtain ⟨gb, h⟩ := h
      refine jLf.one hc _ rfl (gs := [jX = jX, vp_in (l3 + (2 : Int32)) L]) (c := (719, [some (.ref jX), some (.ref l1), some (.ref l2), some (.int l3)], [.int (xs (l3 + (2 : Int32)).toNatClampNeg), .int (xs (l3 + (1 : Int32)).toNatClampNeg), .ref l2, .long r191], S190, rc, rs)) rfl ⟨rfl, gb⟩ ?_
      obtain ⟨g195, h⟩ := h
      refine jLf.inv hc _ rfl (gs := [jA S190 l2 12, (([.long r191] : List Value).map fun v => v.category).sum ≤ 8, 0 ≤ rc, 0 ≤ rs]) (k := 226) (args := [.ref l2, .int (xs (l3 + (1 : Int32)).toNatClampNeg), .int (xs (l3 + (2 : Int32)).toNatClampNeg)]) (r := [.long r191]) (a := rc) (b := rs) rfl ⟨g195, Nat.le_of_ble_eq_true rfl, Nat.zero_le _, Nat.zero_le _⟩ (vX12_search d (by omega) h) ?_
      rintro v S193 ⟨r194, rfl, h⟩
      show jLf (jCall jmt jbud d) jbud (fun j => (jmt j).rk) (some (L, xs)) mL_law (jqI Q) (720, [some (.ref jX), some (.ref l1), some (.ref l2), some (.int l3)], [.long r194, .long r191], S193, rc, rs)
      refine jLf.bk hc 1 [] [some (.ref jX), some (.ref l1), some (.ref l2), some (.int l3)] [.int (lg_cmp r191 r194)] S193 rfl rfl rfl trivial ?_
      refine jLf.two hc _ rfl (gs := []) (p1 := (lg_cmp r191 r194) = 0) (p2 := ¬ ((lg_cmp r191 r194) = 0)) (c1 := (826, [some (.ref jX), some (.ref l1), some (.ref l2), some (.int l3)], [], S193, rc, rs)) (c2 := (722, [some (.ref jX), some (.ref l1), some (.ref l2), some (.int l3)], [], S193, rc, rs)) rfl trivial (fun hz => ?_) (fun hz => ?_)
      · have h := h.1 hz
        exact tL_law_826 d hd hG hX10 h
      · have h := h.2 hz
        refine jLf.bk hc 1 [] [some (.ref jX), some (.ref l1), some (.ref l2), some (.int l3)] [.int 0] S193 rfl rfl rfl trivial ?_
        exact jLf.ret hc _ rfl (gs := [jbit 0]) (v := some (.int 0)) rfl (Or.inl rfl) ⟨_, rfl, h⟩
    have h := h.2 hz
    refine ⟨fun hz => ?_, fun hz => ?_⟩
    · have h := h.1 hz
      show jLf (jCall jmt jbud d) jbud (fun j => (jmt j).rk) (some (L, xs)) mL_law (jqI Q) (724, [some (.ref jX), some (.ref l1), some (.ref l2), some (.int l3)], [], S, rc, rs)
      refine jLf.bk hc 5 [] [some (.ref jX), some (.ref l1), some (.ref l2), some (.int l3)] [.int (l3 + (1 : Int32)), .ref jX, .ref l1] S rfl rfl rfl trivial ?_
      obtain ⟨gb, h⟩ := h
      refine jLf.one hc _ rfl (gs := [jX = jX, vp_in (l3 + (1 : Int32)) L]) (c := (730, [some (.ref jX), some (.ref l1), some (.ref l2), some (.int l3)], [.int (xs (l3 + (1 : Int32)).toNatClampNeg), .ref l1], S, rc, rs)) rfl ⟨rfl, gb⟩ ?_
      refine jLf.bk hc 4 [] [some (.ref jX), some (.ref l1), some (.ref l2), some (.int l3)] [.int (l3 + (2 : Int32)), .ref jX, .int (xs (l3 + (1 : Int32)).toNatClampNeg), .ref l1] S rfl rfl rfl trivial ?_
      obtain ⟨gb, h⟩ := h
      refine jLf.one hc _ rfl (gs := [jX = jX, vp_in (l3 + (2 : Int32)) L]) (c := (735, [some (.ref jX), some (.ref l1), some (.ref l2), some (.int l3)], [.int (xs (l3 + (2 : Int32)).toNatClampNeg), .int (xs (l3 + (1 : Int32)).toNatClampNeg), .ref l1], S, rc, rs)) rfl ⟨rfl, gb⟩ ?_
      obtain ⟨g198, h⟩ := h
      refine jLf.inv hc _ rfl (gs := [jA S l1 11, (([] : List Value).map fun v => v.category).sum ≤ 8, 0 ≤ rc, 0 ≤ rs]) (k := 131) (args := [.ref l1, .int (xs (l3 + (1 : Int32)).toNatClampNeg), .int (xs (l3 + (2 : Int32)).toNatClampNeg)]) (r := []) (a := rc) (b := rs) rfl ⟨g198, Nat.le_of_ble_eq_true rfl, Nat.zero_le _, Nat.zero_le _⟩ (vX11_year d (by omega) h) ?_
      rintro v S196 ⟨r197, rfl, h⟩
      show jLf (jCall jmt jbud d) jbud (fun j => (jmt j).rk) (some (L, xs)) mL_law (jqI Q) (736, [some (.ref jX), some (.ref l1), some (.ref l2), some (.int l3)], [.int r197], S196, rc, rs)
      refine jLf.bk hc 5 [] [some (.ref jX), some (.ref l1), some (.ref l2), some (.int l3)] [.int (l3 + (1 : Int32)), .ref jX, .ref l2, .int r197] S196 rfl rfl rfl trivial ?_
      obtain ⟨gb, h⟩ := h
      refine jLf.one hc _ rfl (gs := [jX = jX, vp_in (l3 + (1 : Int32)) L]) (c := (742, [some (.ref jX), some (.ref l1), some (.ref l2), some (.int l3)], [.int (xs (l3 + (1 : Int32)).toNatClampNeg), .ref l2, .int r197], S196, rc, rs)) rfl ⟨rfl, gb⟩ ?_
      refine jLf.bk hc 4 [] [some (.ref jX), some (.ref l1), some (.ref l2), some (.int l3)] [.int (l3 + (2 : Int32)), .ref jX, .int (xs (l3 + (1 : Int32)).toNatClampNeg), .ref l2, .int r197] S196 rfl rfl rfl trivial ?_
      obtain ⟨gb, h⟩ := h
      refine jLf.one hc _ rfl (gs := [jX = jX, vp_in (l3 + (2 : Int32)) L]) (c := (747, [some (.ref jX), some (.ref l1), some (.ref l2), some (.int l3)], [.int (xs (l3 + (2 : Int32)).toNatClampNeg), .int (xs (l3 + (1 : Int32)).toNatClampNeg), .ref l2, .int r197], S196, rc, rs)) rfl ⟨rfl, gb⟩ ?_
      obtain ⟨g201, h⟩ := h
      refine jLf.inv hc _ rfl (gs := [jA S196 l2 12, (([.int r197] : List Value).map fun v => v.category).sum ≤ 8, 0 ≤ rc, 0 ≤ rs]) (k := 227) (args := [.ref l2, .int (xs (l3 + (1 : Int32)).toNatClampNeg), .int (xs (l3 + (2 : Int32)).toNatClampNeg)]) (r := [.int r197]) (a := rc) (b := rs) rfl ⟨g201, Nat.le_of_ble_eq_true rfl, Nat.zero_le _, Nat.zero_le _⟩ (vX12_year d (by omega) h) ?_
      rintro v S199 ⟨r200, rfl, h⟩
      show jLf (jCall jmt jbud d) jbud (fun j => (jmt j).rk) (some (L, xs)) mL_law (jqI Q) (748, [some (.ref jX), some (.ref l1), some (.ref l2), some (.int l3)], [.int r200, .int r197], S199, rc, rs)
      refine jLf.two hc _ rfl (gs := []) (p1 := r197 = r200) (p2 := ¬ (r197 = r200)) (c1 := (826, [some (.ref jX), some (.ref l1), some (.ref l2), some (.int l3)], [], S199, rc, rs)) (c2 := (749, [some (.ref jX), some (.ref l1), some (.ref l2), some (.int l3)], [], S199, rc, rs)) rfl trivial (fun hz => ?_) (fun hz => ?_)
      · have h := h.1 hz
        exact tL_law_826 d hd hG hX10 h
      · have h := h.2 hz
        refine jLf.bk hc 1 [] [some (.ref jX), some (.ref l1), some (.ref l2), some (.int l3)] [.int 0] S199 rfl rfl rfl trivial ?_
        exact jLf.ret hc _ rfl (gs := [jbit 0]) (v := some (.int 0)) rfl (Or.inl rfl) ⟨_, rfl, h⟩
    have h := h.2 hz
    refine ⟨fun hz => ?_, fun hz => ?_⟩
    · have h := h.1 hz
      show jLf (jCall jmt jbud d) jbud (fun j => (jmt j).rk) (some (L, xs)) mL_law (jqI Q) (751, [some (.ref jX), some (.ref l1), some (.ref l2), some (.int l3)], [], S, rc, rs)
      refine jLf.bk hc 5 [] [some (.ref jX), some (.ref l1), some (.ref l2), some (.int l3)] [.int (l3 + (1 : Int32)), .ref jX, .ref l1] S rfl rfl rfl trivial ?_
      obtain ⟨gb, h⟩ := h
      refine jLf.one hc _ rfl (gs := [jX = jX, vp_in (l3 + (1 : Int32)) L]) (c := (757, [some (.ref jX), some (.ref l1), some (.ref l2), some (.int l3)], [.int (xs (l3 + (1 : Int32)).toNatClampNeg), .ref l1], S, rc, rs)) rfl ⟨rfl, gb⟩ ?_
      obtain ⟨g204, h⟩ := h
      refine jLf.inv hc _ rfl (gs := [jA S l1 11, (([] : List Value).map fun v => v.category).sum ≤ 8, 0 ≤ rc, 0 ≤ rs]) (k := 132) (args := [.ref l1, .int (xs (l3 + (1 : Int32)).toNatClampNeg)]) (r := []) (a := rc) (b := rs) rfl ⟨g204, Nat.le_of_ble_eq_true rfl, Nat.zero_le _, Nat.zero_le _⟩ (vX11_drawn d (by omega) h) ?_
      rintro v S202 ⟨r203, rfl, h⟩
      show jLf (jCall jmt jbud d) jbud (fun j => (jmt j).rk) (some (L, xs)) mL_law (jqI Q) (758, [some (.ref jX), some (.ref l1), some (.ref l2), some (.int l3)], [.int r203], S202, rc, rs)
      refine jLf.bk hc 5 [] [some (.ref jX), some (.ref l1), some (.ref l2), some (.int l3)] [.int (l3 + (1 : Int32)), .ref jX, .ref l2, .int r203] S202 rfl rfl rfl trivial ?_
      obtain ⟨gb, h⟩ := h
      refine jLf.one hc _ rfl (gs := [jX = jX, vp_in (l3 + (1 : Int32)) L]) (c := (764, [some (.ref jX), some (.ref l1), some (.ref l2), some (.int l3)], [.int (xs (l3 + (1 : Int32)).toNatClampNeg), .ref l2, .int r203], S202, rc, rs)) rfl ⟨rfl, gb⟩ ?_
      obtain ⟨g207, h⟩ := h
      refine jLf.inv hc _ rfl (gs := [jA S202 l2 12, (([.int r203] : List Value).map fun v => v.category).sum ≤ 8, 0 ≤ rc, 0 ≤ rs]) (k := 228) (args := [.ref l2, .int (xs (l3 + (1 : Int32)).toNatClampNeg)]) (r := [.int r203]) (a := rc) (b := rs) rfl ⟨g207, Nat.le_of_ble_eq_true rfl, Nat.zero_le _, Nat.zero_le _⟩ (vX12_drawn d (by omega) h) ?_
      rintro v S205 ⟨r206, rfl, h⟩
      show jLf (jCall jmt jbud d) jbud (fun j => (jmt j).rk) (some (L, xs)) mL_law (jqI Q) (765, [some (.ref jX), some (.ref l1), some (.ref l2), some (.int l3)], [.int r206, .int r203], S205, rc, rs)
      refine jLf.two hc _ rfl (gs := []) (p1 := r203 = r206) (p2 := ¬ (r203 = r206)) (c1 := (826, [some (.ref jX), some (.ref l1), some (.ref l2), some (.int l3)], [], S205, rc, rs)) (c2 := (766, [some (.ref jX), some (.ref l1), some (.ref l2), some (.int l3)], [], S205, rc, rs)) rfl trivial (fun hz => ?_) (fun hz => ?_)
      · have h := h.1 hz
        exact tL_law_826 d hd hG hX10 h
      · have h := h.2 hz
        refine jLf.bk hc 1 [] [some (.ref jX), some (.ref l1), some (.ref l2), some (.int l3)] [.int 0] S205 rfl rfl rfl trivial ?_
        exact jLf.ret hc _ rfl (gs := [jbit 0]) (v := some (.int 0)) rfl (Or.inl rfl) ⟨_, rfl, h⟩
    have h := h.2 hz
    refine ⟨fun hz => ?_, fun hz => ?_⟩
    · have h := h.1 hz
      show jLf (jCall jmt jbud d) jbud (fun j => (jmt j).rk) (some (L, xs)) mL_law (jqI Q) (768, [some (.ref jX), some (.ref l1), some (.ref l2), some (.int l3)], [], S, rc, rs)
      refine jLf.bk hc 5 [] [some (.ref jX), some (.ref l1), some (.ref l2), some (.int l3)] [.int (l3 + (1 : Int32)), .ref jX, .ref l1] S rfl rfl rfl trivial ?_
      obtain ⟨gb, h⟩ := h
      refine jLf.one hc _ rfl (gs := [jX = jX, vp_in (l3 + (1 : Int32)) L]) (c := (774, [some (.ref jX), some (.ref l1), some (.ref l2), some (.int l3)], [.int (xs (l3 + (1 : Int32)).toNatClampNeg), .ref l1], S, rc, rs)) rfl ⟨rfl, gb⟩ ?_
      obtain ⟨g210, h⟩ := h
      obtain ⟨g211, g212, h⟩ := h
      refine jLf.inv hc _ rfl (gs := [jA S l1 11, (([] : List Value).map fun v => v.category).sum ≤ 8, 12 ≤ rc, 194 ≤ rs]) (k := 133) (args := [.ref l1, .int (xs (l3 + (1 : Int32)).toNatClampNeg)]) (r := []) (a := (rc - 12)) (b := (rs - 194)) rfl ⟨g210, Nat.le_of_ble_eq_true rfl, g211, g212⟩ (vX11_image d (by omega) h) ?_
      rintro v S208 ⟨r209, rfl, h⟩
      show jLf (jCall jmt jbud d) jbud (fun j => (jmt j).rk) (some (L, xs)) mL_law (jqI Q) (775, [some (.ref jX), some (.ref l1), some (.ref l2), some (.int l3)], [.int r209], S208, (rc - 12), (rs - 194))
      refine jLf.bk hc 5 [] [some (.ref jX), some (.ref l1), some (.ref l2), some (.int l3)] [.int (l3 + (1 : Int32)), .ref jX, .ref l2, .int r209] S208 rfl rfl rfl trivial ?_
      obtain ⟨gb, h⟩ := h
      refine jLf.one hc _ rfl (gs := [jX = jX, vp_in (l3 + (1 : Int32)) L]) (c := (781, [some (.ref jX), some (.ref l1), some (.ref l2), some (.int l3)], [.int (xs (l3 + (1 : Int32)).toNatClampNeg), .ref l2, .int r209], S208, (rc - 12), (rs - 194))) rfl ⟨rfl, gb⟩ ?_
      obtain ⟨g215, h⟩ := h
      refine jLf.inv hc _ rfl (gs := [jA S208 l2 12, (([.int r209] : List Value).map fun v => v.category).sum ≤ 8, 0 ≤ (rc - 12), 0 ≤ (rs - 194)]) (k := 152) (args := [.ref l2, .int (xs (l3 + (1 : Int32)).toNatClampNeg)]) (r := [.int r209]) (a := (rc - 12)) (b := (rs - 194)) rfl ⟨g215, Nat.le_of_ble_eq_true rfl, Nat.zero_le _, Nat.zero_le _⟩ (vX12_image d (by omega) h) ?_
      rintro v S213 ⟨r214, rfl, h⟩
      show jLf (jCall jmt jbud d) jbud (fun j => (jmt j).rk) (some (L, xs)) mL_law (jqI Q) (782, [some (.ref jX), some (.ref l1), some (.ref l2), some (.int l3)], [.int r214, .int r209], S213, (rc - 12), (rs - 194))
      refine jLf.two hc _ rfl (gs := []) (p1 := r209 = r214) (p2 := ¬ (r209 = r214)) (c1 := (826, [some (.ref jX), some (.ref l1), some (.ref l2), some (.int l3)], [], S213, (rc - 12), (rs - 194))) (c2 := (783, [some (.ref jX), some (.ref l1), some (.ref l2), some (.int l3)], [], S213, (rc - 12), (rs - 194))) rfl trivial (fun hz => ?_) (fun hz => ?_)
      · have h := h.1 hz
        exact tL_law_826 d hd hG hX10 h
      · have h := h.2 hz
        refine jLf.bk hc 1 [] [some (.ref jX), some (.ref l1), some (.ref l2), some (.int l3)] [.int 0] S213 rfl rfl rfl trivial ?_
        exact jLf.ret hc _ rfl (gs := [jbit 0]) (v := some (.int 0)) rfl (Or.inl rfl) ⟨_, rfl, h⟩
    have h := h.2 hz
    refine ⟨fun hz => ?_, fun hz => ?_⟩
    · have h := h.1 hz
      show jLf (jCall jmt jbud d) jbud (fun j => (jmt j).rk) (some (L, xs)) mL_law (jqI Q) (785, [some (.ref jX), some (.ref l1), some (.ref l2), some (.int l3)], [], S, rc, rs)
      refine jLf.bk hc 5 [] [some (.ref jX), some (.ref l1), some (.ref l2), some (.int l3)] [.int (l3 + (1 : Int32)), .ref jX, .ref l1] S rfl rfl rfl trivial ?_
      obtain ⟨gb, h⟩ := h
      refine jLf.one hc _ rfl (gs := [jX = jX, vp_in (l3 + (1 : Int32)) L]) (c := (791, [some (.ref jX), some (.ref l1), some (.ref l2), some (.int l3)], [.int (xs (l3 + (1 : Int32)).toNatClampNeg), .ref l1], S, rc, rs)) rfl ⟨rfl, gb⟩ ?_
      obtain ⟨g218, h⟩ := h
      refine jLf.inv hc _ rfl (gs := [jA S l1 11, (([] : List Value).map fun v => v.category).sum ≤ 8, 0 ≤ rc, 0 ≤ rs]) (k := 134) (args := [.ref l1, .int (xs (l3 + (1 : Int32)).toNatClampNeg)]) (r := []) (a := rc) (b := rs) rfl ⟨g218, Nat.le_of_ble_eq_true rfl, Nat.zero_le _, Nat.zero_le _⟩ (vX11_back d (by omega) h) ?_
      rintro v S216 ⟨r217, rfl, h⟩
      show jLf (jCall jmt jbud d) jbud (fun j => (jmt j).rk) (some (L, xs)) mL_law (jqI Q) (792, [some (.ref jX), some (.ref l1), some (.ref l2), some (.int l3)], [.int r217], S216, rc, rs)
      refine jLf.bk hc 5 [] [some (.ref jX), some (.ref l1), some (.ref l2), some (.int l3)] [.int (l3 + (1 : Int32)), .ref jX, .ref l2, .int r217] S216 rfl rfl rfl trivial ?_
      obtain ⟨gb, h⟩ := h
      refine jLf.one hc _ rfl (gs := [jX = jX, vp_in (l3 + (1 : Int32)) L]) (c := (798, [some (.ref jX), some (.ref l1), some (.ref l2), some (.int l3)], [.int (xs (l3 + (1 : Int32)).toNatClampNeg), .ref l2, .int r217], S216, rc, rs)) rfl ⟨rfl, gb⟩ ?_
      obtain ⟨g221, h⟩ := h
      refine jLf.inv hc _ rfl (gs := [jA S216 l2 12, (([.int r217] : List Value).map fun v => v.category).sum ≤ 8, 0 ≤ rc, 0 ≤ rs]) (k := 153) (args := [.ref l2, .int (xs (l3 + (1 : Int32)).toNatClampNeg)]) (r := [.int r217]) (a := rc) (b := rs) rfl ⟨g221, Nat.le_of_ble_eq_true rfl, Nat.zero_le _, Nat.zero_le _⟩ (vX12_back d (by omega) h) ?_
      rintro v S219 ⟨r220, rfl, h⟩
      show jLf (jCall jmt jbud d) jbud (fun j => (jmt j).rk) (some (L, xs)) mL_law (jqI Q) (799, [some (.ref jX), some (.ref l1), some (.ref l2), some (.int l3)], [.int r220, .int r217], S219, rc, rs)
      refine jLf.two hc _ rfl (gs := []) (p1 := r217 = r220) (p2 := ¬ (r217 = r220)) (c1 := (826, [some (.ref jX), some (.ref l1), some (.ref l2), some (.int l3)], [], S219, rc, rs)) (c2 := (800, [some (.ref jX), some (.ref l1), some (.ref l2), some (.int l3)], [], S219, rc, rs)) rfl trivial (fun hz => ?_) (fun hz => ?_)
      · have h := h.1 hz
        exact tL_law_826 d hd hG hX10 h
      · have h := h.2 hz
        refine jLf.bk hc 1 [] [some (.ref jX), some (.ref l1), some (.ref l2), some (.int l3)] [.int 0] S219 rfl rfl rfl trivial ?_
        exact jLf.ret hc _ rfl (gs := [jbit 0]) (v := some (.int 0)) rfl (Or.inl rfl) ⟨_, rfl, h⟩
    have h := h.2 hz
    refine ⟨fun hz => ?_, fun hz => ?_⟩
    · have h := h.1 hz
      show jLf (jCall jmt jbud d) jbud (fun j => (jmt j).rk) (some (L, xs)) mL_law (jqI Q) (802, [some (.ref jX), some (.ref l1), some (.ref l2), some (.int l3)], [], S, rc, rs)
      refine jLf.bk hc 5 [] [some (.ref jX), some (.ref l1), some (.ref l2), some (.int l3)] [.int (l3 + (1 : Int32)), .ref jX, .ref l1] S rfl rfl rfl trivial ?_
      obtain ⟨gb, h⟩ := h
      refine jLf.one hc _ rfl (gs := [jX = jX, vp_in (l3 + (1 : Int32)) L]) (c := (808, [some (.ref jX), some (.ref l1), some (.ref l2), some (.int l3)], [.int (xs (l3 + (1 : Int32)).toNatClampNeg), .ref l1], S, rc, rs)) rfl ⟨rfl, gb⟩ ?_
      obtain ⟨g224, h⟩ := h
      refine jLf.inv hc _ rfl (gs := [jA S l1 11, (([] : List Value).map fun v => v.category).sum ≤ 8, 0 ≤ rc, 0 ≤ rs]) (k := 135) (args := [.ref l1, .int (xs (l3 + (1 : Int32)).toNatClampNeg)]) (r := []) (a := rc) (b := rs) rfl ⟨g224, Nat.le_of_ble_eq_true rfl, Nat.zero_le _, Nat.zero_le _⟩ (vX11_count d (by omega) h) ?_
      rintro v S222 ⟨r223, rfl, h⟩
      show jLf (jCall jmt jbud d) jbud (fun j => (jmt j).rk) (some (L, xs)) mL_law (jqI Q) (809, [some (.ref jX), some (.ref l1), some (.ref l2), some (.int l3)], [.int r223], S222, rc, rs)
      refine jLf.bk hc 5 [] [some (.ref jX), some (.ref l1), some (.ref l2), some (.int l3)] [.int (l3 + (1 : Int32)), .ref jX, .ref l2, .int r223] S222 rfl rfl rfl trivial ?_
      obtain ⟨gb, h⟩ := h
      refine jLf.one hc _ rfl (gs := [jX = jX, vp_in (l3 + (1 : Int32)) L]) (c := (815, [some (.ref jX), some (.ref l1), some (.ref l2), some (.int l3)], [.int (xs (l3 + (1 : Int32)).toNatClampNeg), .ref l2, .int r223], S222, rc, rs)) rfl ⟨rfl, gb⟩ ?_
      obtain ⟨g227, h⟩ := h
      refine jLf.inv hc _ rfl (gs := [jA S222 l2 12, (([.int r223] : List Value).map fun v => v.category).sum ≤ 8, 0 ≤ rc, 0 ≤ rs]) (k := 229) (args := [.ref l2, .int (xs (l3 + (1 : Int32)).toNatClampNeg)]) (r := [.int r223]) (a := rc) (b := rs) rfl ⟨g227, Nat.le_of_ble_eq_true rfl, Nat.zero_le _, Nat.zero_le _⟩ (vX12_count d (by omega) h) ?_
      rintro v S225 ⟨r226, rfl, h⟩
      show jLf (jCall jmt jbud d) jbud (fun j => (jmt j).rk) (some (L, xs)) mL_law (jqI Q) (816, [some (.ref jX), some (.ref l1), some (.ref l2), some (.int l3)], [.int r226, .int r223], S225, rc, rs)
      refine jLf.two hc _ rfl (gs := []) (p1 := r223 = r226) (p2 := ¬ (r223 = r226)) (c1 := (826, [some (.ref jX), some (.ref l1), some (.ref l2), some (.int l3)], [], S225, rc, rs)) (c2 := (817, [some (.ref jX), some (.ref l1), some (.ref l2), some (.int l3)], [], S225, rc, rs)) rfl trivial (fun hz => ?_) (fun hz => ?_)
      · have h := h.1 hz
        exact tL_law_826 d hd hG hX10 h
      · have h := h.2 hz
        refine jLf.bk hc 1 [] [some (.ref jX), some (.ref l1), some (.ref l2), some (.int l3)] [.int 0] S225 rfl rfl rfl trivial ?_
        exact jLf.ret hc _ rfl (gs := [jbit 0]) (v := some (.int 0)) rfl (Or.inl rfl) ⟨_, rfl, h⟩
    have h := h.2 hz
    refine ⟨fun hz => ?_, fun hz => ?_⟩
    · have h := h.1 hz
      show jLf (jCall jmt jbud d) jbud (fun j => (jmt j).rk) (some (L, xs)) mL_law (jqI Q) (819, [some (.ref jX), some (.ref l1), some (.ref l2), some (.int l3)], [], S, rc, rs)
      refine jLf.bk hc 1 [] [some (.ref jX), some (.ref l1), some (.ref l2), some (.int l3)] [.ref l1] S rfl rfl rfl trivial ?_
      obtain ⟨g230, h⟩ := h
      refine jLf.inv hc _ rfl (gs := [jA S l1 11, (([] : List Value).map fun v => v.category).sum ≤ 8, 0 ≤ rc, 0 ≤ rs]) (k := 136) (args := [.ref l1]) (r := []) (a := rc) (b := rs) rfl ⟨g230, Nat.le_of_ble_eq_true rfl, Nat.zero_le _, Nat.zero_le _⟩ (vX11_status d (by omega) h) ?_
      rintro v S228 ⟨r229, rfl, h⟩
      show jLf (jCall jmt jbud d) jbud (fun j => (jmt j).rk) (some (L, xs)) mL_law (jqI Q) (821, [some (.ref jX), some (.ref l1), some (.ref l2), some (.int l3)], [.int r229], S228, rc, rs)
      refine jLf.bk hc 1 [] [some (.ref jX), some (.ref l1), some (.ref l2), some (.int l3)] [.ref l2, .int r229] S228 rfl rfl rfl trivial ?_
      obtain ⟨g233, h⟩ := h
      refine jLf.inv hc _ rfl (gs := [jA S228 l2 12, (([.int r229] : List Value).map fun v => v.category).sum ≤ 8, 0 ≤ rc, 0 ≤ rs]) (k := 230) (args := [.ref l2]) (r := [.int r229]) (a := rc) (b := rs) rfl ⟨g233, Nat.le_of_ble_eq_true rfl, Nat.zero_le _, Nat.zero_le _⟩ (vX12_status d (by omega) h) ?_
      rintro v S231 ⟨r232, rfl, h⟩
      show jLf (jCall jmt jbud d) jbud (fun j => (jmt j).rk) (some (L, xs)) mL_law (jqI Q) (823, [some (.ref jX), some (.ref l1), some (.ref l2), some (.int l3)], [.int r232, .int r229], S231, rc, rs)
      refine jLf.two hc _ rfl (gs := []) (p1 := r229 = r232) (p2 := ¬ (r229 = r232)) (c1 := (826, [some (.ref jX), some (.ref l1), some (.ref l2), some (.int l3)], [], S231, rc, rs)) (c2 := (824, [some (.ref jX), some (.ref l1), some (.ref l2), some (.int l3)], [], S231, rc, rs)) rfl trivial (fun hz => ?_) (fun hz => ?_)
      · have h := h.1 hz
        exact tL_law_826 d hd hG hX10 h
      · have h := h.2 hz
        refine jLf.bk hc 1 [] [some (.ref jX), some (.ref l1), some (.ref l2), some (.int l3)] [.int 0] S231 rfl rfl rfl trivial ?_
        exact jLf.ret hc _ rfl (gs := [jbit 0]) (v := some (.int 0)) rfl (Or.inl rfl) ⟨_, rfl, h⟩
    have h := h.2 hz
    show jLf (jCall jmt jbud d) jbud (fun j => (jmt j).rk) (some (L, xs)) mL_law (jqI Q) (826, [some (.ref jX), some (.ref l1), some (.ref l2), some (.int l3)], [], S, rc, rs)
    exact tL_law_826 d hd hG hX10 h
def wL_law_10 (G : Nat → List Value → JS → (Option Value → JS → Prop) → Prop)  (l1 : Nat) (l2 : Nat) (l3 : Int32) (rc : Nat) (rs : Nat) (L : Nat) (xs : Nat → Int32) (S : JS) (Q : Int32 → JS → Prop) : Prop :=
  jLoop (fun (X10 : Nat × Nat × Int32 × Nat × Nat × JS → Prop) q => bL_law_10 G (fun l1 l2 l3 rc rs S => X10 (l1, l2, l3, rc, rs, S)) q.1 q.2.1 q.2.2.1 q.2.2.2.1 q.2.2.2.2.1 L xs q.2.2.2.2.2 Q) (l1, l2, l3, rc, rs, S)
set_option maxRecDepth 20000 in
theorem tL_law_10 {Q : Int32 → JS → Prop} {G : Nat → List Value → JS → (Option Value → JS → Prop) → Prop} {L : Nat} {xs : Nat → Int32}  (d : Nat) (hd : 9 ≤ d) (hG : ∀ k args S Q, G k args S Q → jCall jmt jbud d k args S Q) {l1 : Nat} {l2 : Nat} {l3 : Int32} {rc : Nat} {rs : Nat} {S : JS} (h : wL_law_10 G l1 l2 l3 rc rs L xs S Q) : jLf (jCall jmt jbud d) jbud (fun j => (jmt j).rk) (some (L, xs)) mL_law (jqI Q) (10, [some (.ref jX), some (.ref l1), some (.ref l2), some (.int l3)], [], S, rc, rs) := by
  have := h (fun q : Nat × Nat × Int32 × Nat × Nat × JS => jLf (jCall jmt jbud d) jbud (fun j => (jmt j).rk) (some (L, xs)) mL_law (jqI Q) (10, [some (.ref jX), some (.ref (q.1)), some (.ref (q.2.1)), some (.int (q.2.2.1))], [], q.2.2.2.2.2, q.2.2.2.1, q.2.2.2.2.1)) (fun q R hb hR => uL_law_10 d hd hG  (fun _ _ _ _ _ _ => hR _) hb)
  exact this
def wL_law (G : Nat → List Value → JS → (Option Value → JS → Prop) → Prop) (L : Nat) (xs : Nat → Int32) (S : JS) (Q : Int32 → JS → Prop) : Prop :=
  jN S < 1000000 ∧ (∀ h3 : Nat, h3 = jN S → (∀ S1 : JS, S1 = uNew S 11 14 → (jA S1 h3 11 ∧ (wX11_init h3 S1 (fun S4 => jN S4 < 1000000 ∧ (∀ h9 : Nat, h9 = jN S4 → (∀ S7 : JS, S7 = uNew S4 12 44 → (jA S7 h9 12 ∧ (wX12_init h9 S7 (fun S10 => wL_law_10 G h3 h9 0 599931 6985248 L xs S10 Q))))))))))
set_option maxRecDepth 20000 in
theorem vL_law {Q : Int32 → JS → Prop} {G : Nat → List Value → JS → (Option Value → JS → Prop) → Prop} {L : Nat} {xs : Nat → Int32} (d : Nat) (hd : 9 ≤ d) (hG : ∀ k args S Q, G k args S Q → jCall jmt jbud d k args S Q)  {S : JS} (h : wL_law G L xs S Q) : jLf (jCall jmt jbud d) jbud (fun j => (jmt j).rk) (some (L, xs)) mL_law (jqI Q) (0, [some (.ref jX), none, none, none], [], S, 600000, 7302250) := by
  have hc := jCall_mono jmt jbud d
  unfold wL_law at h
  obtain ⟨g2, h⟩ := h
  refine jLf.one hc _ rfl (gs := [1 ≤ 600000, 14 ≤ 7302250, jN S < 1000000]) (c := (1, [some (.ref jX), none, none, none], [.ref (jN S)], (uNew S 11 14), 599999, 7302236)) rfl ⟨Nat.le_of_ble_eq_true rfl, Nat.le_of_ble_eq_true rfl, g2⟩ ?_
  generalize eS1 : uNew S 11 14 = S1
  generalize eh3 : jN S = h3
  have h := h h3 eh3.symm S1 eS1.symm
  refine jLf.bk hc 1 [(.ref h3 : Value).category = 1] [some (.ref jX), none, none, none] [.ref h3, .ref h3] S1 rfl rfl rfl rfl ?_
  obtain ⟨g6, h⟩ := h
  refine jLf.inv hc _ rfl (gs := [jA S1 h3 11, (([.ref h3] : List Value).map fun v => v.category).sum ≤ 8, 44 ≤ 599999, 9689 ≤ 7302236]) (k := 100) (args := [.ref h3]) (r := [.ref h3]) (a := 599955) (b := 7292547) rfl ⟨g6, Nat.le_of_ble_eq_true rfl, Nat.le_of_ble_eq_true rfl, Nat.le_of_ble_eq_true rfl⟩ (vX11_init d (by omega) h) ?_
  rintro v S4 ⟨rfl, h⟩
  show jLf (jCall jmt jbud d) jbud (fun j => (jmt j).rk) (some (L, xs)) mL_law (jqI Q) (3, [some (.ref jX), none, none, none], [.ref h3], S4, 599955, 7292547)
  refine jLf.bk hc 1 [] [some (.ref jX), some (.ref h3), none, none] [] S4 rfl rfl rfl trivial ?_
  obtain ⟨g8, h⟩ := h
  refine jLf.one hc _ rfl (gs := [1 ≤ 599955, 44 ≤ 7292547, jN S4 < 1000000]) (c := (5, [some (.ref jX), some (.ref h3), none, none], [.ref (jN S4)], (uNew S4 12 44), 599954, 7292503)) rfl ⟨Nat.le_of_ble_eq_true rfl, Nat.le_of_ble_eq_true rfl, g8⟩ ?_
  generalize eS7 : uNew S4 12 44 = S7
  generalize eh9 : jN S4 = h9
  have h := h h9 eh9.symm S7 eS7.symm
  refine jLf.bk hc 1 [(.ref h9 : Value).category = 1] [some (.ref jX), some (.ref h3), none, none] [.ref h9, .ref h9] S7 rfl rfl rfl rfl ?_
  obtain ⟨g12, h⟩ := h
  refine jLf.inv hc _ rfl (gs := [jA S7 h9 12, (([.ref h9] : List Value).map fun v => v.category).sum ≤ 8, 23 ≤ 599954, 307255 ≤ 7292503]) (k := 147) (args := [.ref h9]) (r := [.ref h9]) (a := 599931) (b := 6985248) rfl ⟨g12, Nat.le_of_ble_eq_true rfl, Nat.le_of_ble_eq_true rfl, Nat.le_of_ble_eq_true rfl⟩ (vX12_init d (by omega) h) ?_
  rintro v S10 ⟨rfl, h⟩
  show jLf (jCall jmt jbud d) jbud (fun j => (jmt j).rk) (some (L, xs)) mL_law (jqI Q) (7, [some (.ref jX), some (.ref h3), none, none], [.ref h9], S10, 599931, 6985248)
  refine jLf.bk hc 3 [] [some (.ref jX), some (.ref h3), some (.ref h9), some (.int 0)] [] S10 rfl rfl rfl trivial ?_
  exact tL_law_10 d hd hG  h
