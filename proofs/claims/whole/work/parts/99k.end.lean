/-! THE END -/
theorem hd_0 : HD jS0 0 [] [] (fun _ _ => 0) (fun _ _ => 0) [] := ⟨rfl, fun q hq => absurd hq List.not_mem_nil, ⟨fun q hq => absurd hq List.not_mem_nil, fun _ _ _ => rfl⟩, fun _ _ => rfl, fun _ _ => rfl, fun q hq => absurd hq List.not_mem_nil, fun _ _ => ⟨rfl, rfl⟩⟩
theorem law_goal : jLawGoal jbud 100 := by
  intro L xs hL
  have e : jqI (fun r _ => r = 1) = (fun v _ => v = some (.int 1)) := by
    funext v S
    exact propext ⟨fun ⟨x, a, b⟩ => by rw [a, b], fun a => ⟨1, a, rfl⟩⟩
  have h := vL_law (Q := fun r _ => r = 1) (G := jCall jmt jbud 100) (L := L) (xs := xs) 100 (by omega) (fun _ _ _ _ z => z) (first_go hd_0 (fun S hI hN => law_go (Q := fun r _ => r = 1) hL (fun _ => rfl) 512 0 S 599931 6985248 (by omega) hI (by omega) (by omega) (by omega)))
  rw [e] at h
  exact h
theorem whole_start {p : Program} {e : Env} {s : State} {m : MethodId} {below : List Frame} {meth : Method} {c : Code} (l : Launch) {b L : Nat} {xs : Nat → Int32} (hL : L ≤ 3072) (C0 : lw_At p s m meth c b L xs) : W p l e room_1 s m #[Value.ref b] below meth c s.heap [] 0 0 (lw_Z below #[Value.ref b] s) (entryFrame m ([Value.ref b] : List Value).toArray 4) := whole_of law_goal (by omega) l hL C0
