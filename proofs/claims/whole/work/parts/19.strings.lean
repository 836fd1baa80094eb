/-! THE STRING CONSTANTS over the machine -/
section JS9
variable {p : Program} {l : Launch} {e : Env} {R : Room} {s : State} {m : MethodId} {args : Array Value} {below : List Frame} {meth : Method} {c : Code} {H : Heap} {locs : List Loc} {cells slots : Nat} {Q : State → Prop} {pc : Nat} {ls : Array Slot} {st0 rest : List Value}
theorem jsame {P : Option Value → Prop} (hr : va_Run p l e R s m args below meth c H locs cells slots 0 0 (F0 m pc ls st0) rest (fun st oc t => ∃ v, oc = .returned v ∧ P v ∧ t.heap = st.heap) (fun _ => False)) (kk : ∀ v, P v → W p l e R s m args below meth c H locs cells slots Q (F0 m (pc + 3) ls (v.toList ++ rest))) : W p l e R s m args below meth c H locs cells slots Q (F0 m pc ls st0) := by
  intro T hT X
  obtain ⟨v, st₀, t, T', L, h0, X', hL, e1, e2, ⟨v2, hv, hp, hh⟩, st⟩ := hr T hT X
  cases hv
  have hLn : L = [] := by
    cases L with
    | nil => rfl
    | cons q L => exact (hL q List.mem_cons_self).elim
  subst hLn
  simp only [List.append_nil, Nat.add_zero] at X'
  obtain ⟨t2, a1, b1⟩ := kk v hp T' (by rw [e1, hh, h0]) X'
  exact ⟨t2, st t2 a1, b1⟩
end JS9
def jSMr (d : Nat) : Room := { frames := d, cells := 0, slots := 0, locals := 64 * d }
def jSMw (y : MethodName) (cc : ByteArray) (nL : Nat) (ret : Option FieldType) : List Cond := .code y cc nL ret :: jBIG
def jSM (l : Launch) (E : JE) (y : MethodName) (cc : ByteArray) (nL : Nat) (ret : Option FieldType) (d : Nat) (args : List Value) (P : Option Value → Prop) : Prop :=
  Met l y (jSMw y cc nL ret) (jSMr d) (va_Pc args (fun U => jEnv E U U.heap)) (fun _ st oc t => ∃ v, oc = .returned v ∧ P v ∧ t.heap = st.heap) 0 0 (fun _ => False)
theorem jSMin {y : MethodName} {cc : ByteArray} {nL : Nat} {ret : Option FieldType} (h : (.code y cc nL ret : Cond) ∈ jBIG) {Ts : List Cond} (hT : ∀ w ∈ jBIG, w ∈ Ts) : GoodIn Ts (jSMw y cc nL ret) := by
  intro w hw
  have hb : w ∈ jBIG := by
    rcases List.mem_cons.mp hw with e1 | e1
    · rw [e1]; exact h
    · exact e1
  exact ⟨hT w hb, jBIG_good hb⟩
theorem jSMblind {E : JE} {args : List Value} : FrameBlind (va_Pc args (fun U => jEnv E U U.heap)) := fun a U g mk h => ⟨h.1, jEnv.same (u := U) rfl h.2⟩
theorem jSMpre {E : JE} {s : State} {H : Heap} {locs : List Loc} {As : List Value} (hE : jEnv E s s.heap) (hS : va_S E.A s.heap H locs) : ∀ U : State, U.heap = H → s.WarmedH U.vm → va_Pc As (fun U => jEnv E U U.heap) As.toArray U := by
  intro U hU hW
  refine ⟨rfl, ?_⟩
  show jEnv E U U.heap
  rw [hU]
  exact (hE.kept hS.2.1).warm hW
set_option maxHeartbeats 4000000 in
theorem sm_check3 (l : Launch) (E : JE) (i n : Int32) (f : Value) (hf : f = .null ∨ ∃ t, f = .ref t) (h0 : ¬ i < 0) (h1 : i < n) : jSM l E yJ3_checkIndex_8e157 cJ3_checkIndex_8e157 3 (some .int) 0 [.int i, .int n, f] (fun v => v = some (.int i)) := by
  refine Met.ofW (cc := cJ3_checkIndex_8e157) (maxL := 3) (ret := some .int) (by decide) rfl ?_
  intro p e s m args below meth c s₁ B hml hv
  obtain ⟨rfl, hE⟩ := hv
  have hx := B.exec
  have hb := B.bytes
  have hr := B.returns
  have hlocks := B.notSynchronized
  have hcat : f.category = 1 := by rcases hf with rfl | ⟨t, rfl⟩ <;> rfl
  have hl := lv_entry ([.int i, .int n, f]) (n := 3) (by rcases hf with rfl | ⟨t, rfl⟩ <;> exact Nat.le_of_ble_eq_true rfl)
  rw [lg_entry_eq]
  generalize (lg_sl ([.int i, .int n, f]) ++ List.replicate (3 - (lg_sl ([.int i, .int n, f])).length) Slot.unset).toArray = ls at hl ⊢
  have hl : lv_has ls 3 [(0, .int i), (1, .int n), (2, f)] := hl
  refine lv_iload_n hx hb dJ3_checkIndex_8e157_0 rfl (lv_at hl 0 rfl) ?_
  refine lv_if_lt (tgt := 9) hx hb dJ3_checkIndex_8e157_1 (by decide) (fun q => absurd q h0) (fun _ => ?_)
  refine lv_iload_n hx hb dJ3_checkIndex_8e157_4 rfl (lv_at hl 0 rfl) ?_
  refine lv_iload_n hx hb dJ3_checkIndex_8e157_5 rfl (lv_at hl 1 rfl) ?_
  refine lv_icmp_lt (tgt := 16) hx hb dJ3_checkIndex_8e157_6 (by decide) (fun _ => ?_) (fun q => absurd h1 q)
  refine lv_iload_n hx hb dJ3_checkIndex_8e157_16 rfl (lv_at hl 0 rfl) ?_
  exact W.iret hx hb hr (fun t ht _ => ⟨_, rfl, rfl, ht⟩) (fun q hq => by cases hq) dJ3_checkIndex_8e157_17
set_option maxHeartbeats 4000000 in
theorem sm_check0 (l : Launch) (E : JE) (i n : Int32) (h0 : ¬ i < 0) (h1 : i < n) : jSM l E yJ0_checkIndex_df160 cJ0_checkIndex_df160 2 none 1 [.int i, .int n] (fun v => v = none) := by
  refine Met.ofW (cc := cJ0_checkIndex_df160) (maxL := 2) (ret := none) (by decide) rfl ?_
  intro p e s m args below meth c s₁ B hml hv
  obtain ⟨rfl, hE⟩ := hv
  have hx := B.exec
  have hb := B.bytes
  have hr := B.returns
  have hlocks := B.notSynchronized
  have hts0 := atoms_spec (ws := jSMw yJ0_checkIndex_df160 cJ0_checkIndex_df160 2 none) B.pre
  have hts : ∀ w ∈ jBIG, w.before _ s = true := fun w hw => hts0 w (List.mem_cons_of_mem _ hw)
  have hown : s.vm.findClass RJ0 = some m.cls := findClass_of_methodNamed B.named
  have hS : va_S E.A s.heap s.heap [] := va_S.rf
  have hl := lv_entry ([.int i, .int n]) (n := 2) (Nat.le_of_ble_eq_true rfl)
  rw [lg_entry_eq]
  generalize (lg_sl ([.int i, .int n]) ++ List.replicate (2 - (lg_sl ([.int i, .int n])).length) Slot.unset).toArray = ls at hl ⊢
  have hl : lv_has ls 2 [(0, .int i), (1, .int n)] := hl
  refine lv_iload_n hx hb dJ0_checkIndex_df160_0 rfl (lv_at hl 0 rfl) ?_
  refine lv_iload_n hx hb dJ0_checkIndex_df160_1 rfl (lv_at hl 1 rfl) ?_
  have go : ∀ f : Value, (f = .null ∨ ∃ t, f = .ref t) → va_Z "jdk/internal/util/Preconditions" "SIOOBE_FORMATTER" "Ljava/util/function/BiFunction;" f E.A s s.heap → W p l e (headSpec (jSMw yJ0_checkIndex_df160 cJ0_checkIndex_df160 2 none) (jSMr 1)).room s m ([Value.int i, Value.int n] : List Value).toArray below meth c s.heap [] 0 0 (MQ below (fun _ st oc t => ∃ v, oc = .returned v ∧ v = none ∧ t.heap = st.heap) ([Value.int i, Value.int n] : List Value).toArray s 0 0 (fun _ => False)) (F0 m 2 ls [.int n, .int i]) := by
    intro f hf hZ
    refine va_gets hx hb hZ hS hown (hts _ js_f1053) (fun _ z => z) dJ0_checkIndex_df160_2 ?_
    refine jsame (rest := []) (va_runS (As := [.int i, .int n, f]) (bytes := cJ3_checkIndex_8e157) (maxL := 3) (ret := some .int) (n := 3) ⟨hx, hb, hml, hown, hts⟩ (sm_check3 l E i n f hf h0 h1) ⟨callB_of 3 hts (jSMin js_cJ3_checkIndex_8e157 (fun _ z => z)) rfl rfl rfl (hts _ js_nJ3_checkIndex_8e157) (hts _ js_l1059) (by decide +kernel) ⟨Nat.le_of_ble_eq_true rfl, Nat.le_of_ble_eq_true rfl⟩, hts _ js_sJ3_checkIndex_8e157⟩ ⟨jSMblind, jSMpre hE hS⟩ rfl rfl hl.1 rfl (lv_room (Nat.le_of_ble_eq_true rfl)) dJ0_checkIndex_df160_5 ⟨Nat.le_of_ble_eq_true rfl, Nat.le_of_ble_eq_true rfl⟩) (fun v hv => ?_)
    subst hv
    refine lv_pop hx hb dJ0_checkIndex_df160_8 rfl ?_
    exact W.vret hx hb hr (fun t ht _ => ⟨_, rfl, rfl, ht⟩) (fun q hq => by cases hq) dJ0_checkIndex_df160_9
  rcases hE.2.2.2.2.2.2.2.2.2.1 with hZ | ⟨t, hZ⟩
  · exact go _ (Or.inl rfl) hZ
  · exact go _ (Or.inr ⟨t, rfl⟩) hZ
theorem jSlen_at : ∀ q, q < 13 → jSlen.getD q 0 = (jSL.getD q []).length := by decide +kernel
theorem jSL_small : ∀ q, q < 13 → (jSL.getD q []).length < 2 ^ 31 := by decide +kernel
theorem jSchar : ∀ q, q < 13 → ∀ k, k < (jSL.getD q []).length → (((jSbyt.getD q []).getD k 0 &&& 255).toUInt32 % 65536).toInt32 = Int32.ofNat ((jSL.getD q []).getD k 0) := by decide +kernel
theorem jSnar : ∀ q, q < 13 → ∀ k, k < (jSL.getD q []).length → narrow .char (.int (Int32.ofNat ((jSL.getD q []).getD k 0))) = .int (Int32.ofNat ((jSL.getD q []).getD k 0)) := by decide +kernel
set_option maxHeartbeats 4000000 in
theorem sm_lat (l : Launch) (E : JE) (q : Nat) (hq : q < 13) (k : Int32) (hk : vp_in k (jSL.getD q []).length) : jSM l E yJ1_charAt_3b067 cJ1_charAt_3b067 2 (some .char) 2 [.ref (E.aV q), .int k] (fun v => v = some (.int (Int32.ofNat ((jSL.getD q []).getD k.toNatClampNeg 0)))) := by
  refine Met.ofW (cc := cJ1_charAt_3b067) (maxL := 2) (ret := some .char) (by decide) rfl ?_
  intro p e s m args below meth c s₁ B hml hv
  obtain ⟨rfl, hE⟩ := hv
  have hx := B.exec
  have hb := B.bytes
  have hr := B.returns
  have hlocks := B.notSynchronized
  have hts0 := atoms_spec (ws := jSMw yJ1_charAt_3b067 cJ1_charAt_3b067 2 (some .char)) B.pre
  have hts : ∀ w ∈ jBIG, w.before _ s = true := fun w hw => hts0 w (List.mem_cons_of_mem _ hw)
  have hown : s.vm.findClass RJ1 = some m.cls := findClass_of_methodNamed B.named
  have hS : va_S E.A s.heap s.heap [] := va_S.rf
  have hT := (hE.2.2.2.2.2.2.2.1.1 q hq).2.2.2
  rw [jSlen_at q hq] at hT
  have hsm := jSL_small q hq
  have hlt : k.toNatClampNeg < (jSL.getD q []).length := Nat.not_le.mp fun z => hk (Or.inr z)
  have h0 : ¬ k < 0 := fun z => hk (Or.inl z)
  have h1 : k < Int32.ofNat (jSL.getD q []).length := by
    obtain ⟨j, hj, rfl⟩ := vp_in_of hk hsm
    exact nI_lt hj hsm
  have hl := lv_entry ([.ref (E.aV q), .int k]) (n := 2) (Nat.le_of_ble_eq_true rfl)
  rw [lg_entry_eq]
  generalize (lg_sl ([.ref (E.aV q), .int k]) ++ List.replicate (2 - (lg_sl ([.ref (E.aV q), .int k])).length) Slot.unset).toArray = ls at hl ⊢
  have hl : lv_has ls 2 [(0, .ref (E.aV q)), (1, .int k)] := hl
  refine lv_iload_n hx hb dJ1_charAt_3b067_0 rfl (lv_at hl 1 rfl) ?_
  refine lv_aload_n hx hb dJ1_charAt_3b067_1 rfl (lv_at hl 0 rfl) ?_
  refine va_tlen hx hb hT hS rfl dJ1_charAt_3b067_2 ?_
  refine jsame (rest := []) (va_runS (As := [.int k, .int (Int32.ofNat (jSL.getD q []).length)]) (bytes := cJ0_checkIndex_df160) (maxL := 2) (ret := none) (n := 2) ⟨hx, hb, hml, hown, hts⟩ (sm_check0 l E k _ h0 h1) ⟨callB_of 2 hts (jSMin js_cJ0_checkIndex_df160 (fun _ z => z)) rfl rfl rfl (hts _ js_nJ0_checkIndex_df160) (hts _ js_l9) (by decide +kernel) ⟨Nat.le_of_ble_eq_true rfl, Nat.le_of_ble_eq_true rfl⟩, hts _ js_sJ0_checkIndex_df160⟩ ⟨jSMblind, jSMpre hE hS⟩ rfl rfl hl.1 rfl (lv_room (Nat.le_of_ble_eq_true rfl)) dJ1_charAt_3b067_3 ⟨Nat.le_of_ble_eq_true rfl, Nat.le_of_ble_eq_true rfl⟩) (fun v hv => ?_)
  subst hv
  refine lv_aload_n hx hb dJ1_charAt_3b067_6 rfl (lv_at hl 0 rfl) ?_
  refine lv_iload_n hx hb dJ1_charAt_3b067_7 rfl (lv_at hl 1 rfl) ?_
  refine va_tb hx hb hT hS hk rfl dJ1_charAt_3b067_8 ?_
  refine lv_sipush (v := 255) hx hb dJ1_charAt_3b067_9 (by decide) ?_
  refine lv_iand hx hb dJ1_charAt_3b067_12 ?_
  refine lv_i2c hx hb dJ1_charAt_3b067_13 (jSchar q hq _ hlt) ?_
  exact W.zret hx hb hr (jSnar q hq _ hlt) (fun t ht _ => ⟨_, rfl, rfl, ht⟩) (fun q hq => by cases hq) dJ1_charAt_3b067_14
set_option maxHeartbeats 4000000 in
theorem sm_coder (l : Launch) (E : JE) (q : Nat) (hq : q < 13) : jSM l E yJ0_coder_7d493 cJ0_coder_7d493 1 (some .byte) 0 [.ref (E.aK q)] (fun v => v = some (.int 0)) := by
  refine Met.ofW (cc := cJ0_coder_7d493) (maxL := 1) (ret := some .byte) (by decide) rfl ?_
  intro p e s m args below meth c s₁ B hml hv
  obtain ⟨rfl, hE⟩ := hv
  have hx := B.exec
  have hb := B.bytes
  have hr := B.returns
  have hlocks := B.notSynchronized
  have hts0 := atoms_spec (ws := jSMw yJ0_coder_7d493 cJ0_coder_7d493 1 (some .byte)) B.pre
  have hts : ∀ w ∈ jBIG, w.before _ s = true := fun w hw => hts0 w (List.mem_cons_of_mem _ hw)
  have hown : s.vm.findClass RJ0 = some m.cls := findClass_of_methodNamed B.named
  have hS : va_S E.A s.heap s.heap [] := va_S.rf
  have hK := (hE.2.2.2.2.2.2.2.1.1 q hq).2.1
  have hl := lv_entry ([.ref (E.aK q)]) (n := 1) (Nat.le_of_ble_eq_true rfl)
  rw [lg_entry_eq]
  generalize (lg_sl ([.ref (E.aK q)]) ++ List.replicate (1 - (lg_sl ([.ref (E.aK q)])).length) Slot.unset).toArray = ls at hl ⊢
  have hl : lv_has ls 1 [(0, .ref (E.aK q))] := hl
  refine va_gets hx hb hE.2.2.2.2.2.2.2.2.1 hS hown (hts _ js_f38) (fun _ z => z) dJ0_coder_7d493_0 ?_
  refine lv_if_eq (tgt := 13) hx hb dJ0_coder_7d493_3 (by decide) (fun z => absurd z (by decide)) (fun _ => ?_)
  refine lv_aload_n hx hb dJ0_coder_7d493_6 rfl (lv_at hl 0 rfl) ?_
  refine vk_getf hx hb hK hS hown (hts _ js_f15) (fun _ z => z) dJ0_coder_7d493_7 ?_
  refine lv_goto (tgt := 14) hx hb dJ0_coder_7d493_10 (by decide) ?_
  exact W.zret hx hb hr (by decide +kernel) (fun t ht _ => ⟨_, rfl, rfl, ht⟩) (fun q hq => by cases hq) dJ0_coder_7d493_14
set_option maxHeartbeats 4000000 in
theorem sm_latin (l : Launch) (E : JE) (q : Nat) (hq : q < 13) : jSM l E yJ0_isLatin1_aae02 cJ0_isLatin1_aae02 1 (some .boolean) 0 [.ref (E.aK q)] (fun v => v = some (.int 1)) := by
  refine Met.ofW (cc := cJ0_isLatin1_aae02) (maxL := 1) (ret := some .boolean) (by decide) rfl ?_
  intro p e s m args below meth c s₁ B hml hv
  obtain ⟨rfl, hE⟩ := hv
  have hx := B.exec
  have hb := B.bytes
  have hr := B.returns
  have hlocks := B.notSynchronized
  have hts0 := atoms_spec (ws := jSMw yJ0_isLatin1_aae02 cJ0_isLatin1_aae02 1 (some .boolean)) B.pre
  have hts : ∀ w ∈ jBIG, w.before _ s = true := fun w hw => hts0 w (List.mem_cons_of_mem _ hw)
  have hown : s.vm.findClass RJ0 = some m.cls := findClass_of_methodNamed B.named
  have hS : va_S E.A s.heap s.heap [] := va_S.rf
  have hK := (hE.2.2.2.2.2.2.2.1.1 q hq).2.1
  have hl := lv_entry ([.ref (E.aK q)]) (n := 1) (Nat.le_of_ble_eq_true rfl)
  rw [lg_entry_eq]
  generalize (lg_sl ([.ref (E.aK q)]) ++ List.replicate (1 - (lg_sl ([.ref (E.aK q)])).length) Slot.unset).toArray = ls at hl ⊢
  have hl : lv_has ls 1 [(0, .ref (E.aK q))] := hl
  refine va_gets hx hb hE.2.2.2.2.2.2.2.2.1 hS hown (hts _ js_f38) (fun _ z => z) dJ0_isLatin1_aae02_0 ?_
  refine lv_if_eq (tgt := 17) hx hb dJ0_isLatin1_aae02_3 (by decide) (fun z => absurd z (by decide)) (fun _ => ?_)
  refine lv_aload_n hx hb dJ0_isLatin1_aae02_6 rfl (lv_at hl 0 rfl) ?_
  refine vk_getf hx hb hK hS hown (hts _ js_f15) (fun _ z => z) dJ0_isLatin1_aae02_7 ?_
  refine lv_if_ne (tgt := 17) hx hb dJ0_isLatin1_aae02_10 (by decide) (fun z => absurd rfl z) (fun _ => ?_)
  refine lv_iconst (v := 1) hx hb dJ0_isLatin1_aae02_13 (by decide) ?_
  refine lv_goto (tgt := 18) hx hb dJ0_isLatin1_aae02_14 (by decide) ?_
  exact W.zret hx hb hr (by decide +kernel) (fun t ht _ => ⟨_, rfl, rfl, ht⟩) (fun q hq => by cases hq) dJ0_isLatin1_aae02_18
set_option maxHeartbeats 4000000 in
theorem sm_len (l : Launch) (E : JE) (q : Nat) (hq : q < 13) : jSM l E yJ0_length_8abf5 cJ0_length_8abf5 1 (some .int) 1 [.ref (E.aK q)] (fun v => v = some (.int (Int32.ofNat (jSL.getD q []).length))) := by
  refine Met.ofW (cc := cJ0_length_8abf5) (maxL := 1) (ret := some .int) (by decide) rfl ?_
  intro p e s m args below meth c s₁ B hml hv
  obtain ⟨rfl, hE⟩ := hv
  have hx := B.exec
  have hb := B.bytes
  have hr := B.returns
  have hlocks := B.notSynchronized
  have hts0 := atoms_spec (ws := jSMw yJ0_length_8abf5 cJ0_length_8abf5 1 (some .int)) B.pre
  have hts : ∀ w ∈ jBIG, w.before _ s = true := fun w hw => hts0 w (List.mem_cons_of_mem _ hw)
  have hown : s.vm.findClass RJ0 = some m.cls := findClass_of_methodNamed B.named
  have hS : va_S E.A s.heap s.heap [] := va_S.rf
  have hV := (hE.2.2.2.2.2.2.2.1.1 q hq).2.2.1
  have hT := (hE.2.2.2.2.2.2.2.1.1 q hq).2.2.2
  rw [jSlen_at q hq] at hT
  have hl := lv_entry ([.ref (E.aK q)]) (n := 1) (Nat.le_of_ble_eq_true rfl)
  rw [lg_entry_eq]
  generalize (lg_sl ([.ref (E.aK q)]) ++ List.replicate (1 - (lg_sl ([.ref (E.aK q)])).length) Slot.unset).toArray = ls at hl ⊢
  have hl : lv_has ls 1 [(0, .ref (E.aK q))] := hl
  refine lv_aload_n hx hb dJ0_length_8abf5_0 rfl (lv_at hl 0 rfl) ?_
  refine vk_getf hx hb hV hS hown (hts _ js_f9) (fun _ z => z) dJ0_length_8abf5_1 ?_
  refine va_tlen hx hb hT hS rfl dJ0_length_8abf5_4 ?_
  refine lv_aload_n hx hb dJ0_length_8abf5_5 rfl (lv_at hl 0 rfl) ?_
  refine jsame (rest := [.int (Int32.ofNat (jSL.getD q []).length)]) (va_runV (As := []) (C := RJ0) (bytes := cJ0_coder_7d493) (maxL := 1) (ret := some .byte) (n := 0) ⟨hx, hb, hml, hown, hts⟩ (sm_coder l E q hq) ⟨callB_of 0 hts (jSMin js_cJ0_coder_7d493 (fun _ z => z)) rfl rfl rfl (hts _ js_nJ0_coder_7d493) (hts _ js_l335) (by decide +kernel) ⟨Nat.le_of_ble_eq_true rfl, Nat.le_of_ble_eq_true rfl⟩, hts _ js_iJ0_coder_7d493, hts _ js_eJ0_coder_7d493⟩ ⟨jSMblind, vk_recv hE.2.2.2.2.2.2.2.1 hq hS, jSMpre hE hS⟩ rfl rfl hl.1 rfl (lv_room (Nat.le_of_ble_eq_true rfl)) dJ0_length_8abf5_6 ⟨Nat.le_of_ble_eq_true rfl, Nat.le_of_ble_eq_true rfl⟩) (fun v hv => ?_)
  subst hv
  refine lv_ishr hx hb dJ0_length_8abf5_9 ?_
  rw [sb_shr0]
  exact W.iret hx hb hr (fun t ht _ => ⟨_, rfl, rfl, ht⟩) (fun q hq => by cases hq) dJ0_length_8abf5_10
set_option maxHeartbeats 4000000 in
theorem sm_chr (l : Launch) (E : JE) (q : Nat) (hq : q < 13) (k : Int32) (hk : vp_in k (jSL.getD q []).length) : jSM l E yJ0_charAt_5068e cJ0_charAt_5068e 2 (some .char) 3 [.ref (E.aK q), .int k] (fun v => v = some (.int (Int32.ofNat ((jSL.getD q []).getD k.toNatClampNeg 0)))) := by
  refine Met.ofW (cc := cJ0_charAt_5068e) (maxL := 2) (ret := some .char) (by decide) rfl ?_
  intro p e s m args below meth c s₁ B hml hv
  obtain ⟨rfl, hE⟩ := hv
  have hx := B.exec
  have hb := B.bytes
  have hr := B.returns
  have hlocks := B.notSynchronized
  have hts0 := atoms_spec (ws := jSMw yJ0_charAt_5068e cJ0_charAt_5068e 2 (some .char)) B.pre
  have hts : ∀ w ∈ jBIG, w.before _ s = true := fun w hw => hts0 w (List.mem_cons_of_mem _ hw)
  have hown : s.vm.findClass RJ0 = some m.cls := findClass_of_methodNamed B.named
  have hS : va_S E.A s.heap s.heap [] := va_S.rf
  have hlt : k.toNatClampNeg < (jSL.getD q []).length := Nat.not_le.mp fun z => hk (Or.inr z)
  have hV := (hE.2.2.2.2.2.2.2.1.1 q hq).2.2.1
  have hl := lv_entry ([.ref (E.aK q), .int k]) (n := 2) (Nat.le_of_ble_eq_true rfl)
  rw [lg_entry_eq]
  generalize (lg_sl ([.ref (E.aK q), .int k]) ++ List.replicate (2 - (lg_sl ([.ref (E.aK q), .int k])).length) Slot.unset).toArray = ls at hl ⊢
  have hl : lv_has ls 2 [(0, .ref (E.aK q)), (1, .int k)] := hl
  refine lv_aload_n hx hb dJ0_charAt_5068e_0 rfl (lv_at hl 0 rfl) ?_
  refine jsame (rest := []) (va_runV (As := []) (C := RJ0) (bytes := cJ0_isLatin1_aae02) (maxL := 1) (ret := some .boolean) (n := 0) ⟨hx, hb, hml, hown, hts⟩ (sm_latin l E q hq) ⟨callB_of 0 hts (jSMin js_cJ0_isLatin1_aae02 (fun _ z => z)) rfl rfl rfl (hts _ js_nJ0_isLatin1_aae02) (hts _ js_l492) (by decide +kernel) ⟨Nat.le_of_ble_eq_true rfl, Nat.le_of_ble_eq_true rfl⟩, hts _ js_iJ0_isLatin1_aae02, hts _ js_eJ0_isLatin1_aae02⟩ ⟨jSMblind, vk_recv hE.2.2.2.2.2.2.2.1 hq hS, jSMpre hE hS⟩ rfl rfl hl.1 rfl (lv_room (Nat.le_of_ble_eq_true rfl)) dJ0_charAt_5068e_1 ⟨Nat.le_of_ble_eq_true rfl, Nat.le_of_ble_eq_true rfl⟩) (fun v hv => ?_)
  subst hv
  refine lv_if_eq (tgt := 16) hx hb dJ0_charAt_5068e_4 (by decide) (fun z => absurd z (by decide)) (fun _ => ?_)
  refine lv_aload_n hx hb dJ0_charAt_5068e_7 rfl (lv_at hl 0 rfl) ?_
  refine vk_getf hx hb hV hS hown (hts _ js_f9) (fun _ z => z) dJ0_charAt_5068e_8 ?_
  refine lv_iload_n hx hb dJ0_charAt_5068e_11 rfl (lv_at hl 1 rfl) ?_
  refine jsame (rest := []) (va_runS (As := [.ref (E.aV q), .int k]) (bytes := cJ1_charAt_3b067) (maxL := 2) (ret := some .char) (n := 2) ⟨hx, hb, hml, hown, hts⟩ (sm_lat l E q hq k hk) ⟨callB_of 2 hts (jSMin js_cJ1_charAt_3b067 (fun _ z => z)) rfl rfl rfl (hts _ js_nJ1_charAt_3b067) (hts _ js_l495) (by decide +kernel) ⟨Nat.le_of_ble_eq_true rfl, Nat.le_of_ble_eq_true rfl⟩, hts _ js_sJ1_charAt_3b067⟩ ⟨jSMblind, jSMpre hE hS⟩ rfl rfl hl.1 rfl (lv_room (Nat.le_of_ble_eq_true rfl)) dJ0_charAt_5068e_12 ⟨Nat.le_of_ble_eq_true rfl, Nat.le_of_ble_eq_true rfl⟩) (fun v hv => ?_)
  subst hv
  exact W.zret hx hb hr (jSnar q hq _ hlt) (fun t ht _ => ⟨_, rfl, rfl, ht⟩) (fun q hq => by cases hq) dJ0_charAt_5068e_15
