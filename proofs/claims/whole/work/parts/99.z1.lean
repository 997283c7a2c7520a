/-! ===== what the statement gives at the start ===== -/
def flG : List Cond := flatC (Jvm.Cond.and given_1 narrow_1)
section ENV
variable {s : State} {b : Nat}
abbrev rdT (nm : String) : Term := .static "HoppingMesh$Reader" nm "[I"
theorem en_T0 (hs : ∀ w ∈ flG, w.before #[Value.ref b] s = true) : ∃ t : Nat, (rdT "RULE_LEAST").eval #[Value.ref b] s none [] s = some (.ref t) ∧ va_T .int t 5 (fun k => .int (Int32.ofInt ((aXl 0).getD k 0))) (LwA s) s s.heap := by
  refine va_Tof (by decide) (hs (.arrayOf (rdT "RULE_LEAST") .int) (by decide +kernel)) (va_eqt (hs (.eq (.length (rdT "RULE_LEAST")) (.int 5)) (by decide +kernel))) (fun k hk => ?_) (fun a h => Nat.not_le.mpr h)
  match k, hk with
  | 0, _ => exact va_eqt (hs (.eq (.elem (rdT "RULE_LEAST") (.int 0)) (.int 4)) (by decide +kernel))
  | 1, _ => exact va_eqt (hs (.eq (.elem (rdT "RULE_LEAST") (.int 1)) (.int 1)) (by decide +kernel))
  | 2, _ => exact va_eqt (hs (.eq (.elem (rdT "RULE_LEAST") (.int 2)) (.int 2)) (by decide +kernel))
  | 3, _ => exact va_eqt (hs (.eq (.elem (rdT "RULE_LEAST") (.int 3)) (.int 2)) (by decide +kernel))
  | 4, _ => exact va_eqt (hs (.eq (.elem (rdT "RULE_LEAST") (.int 4)) (.int 0)) (by decide +kernel))
  | k + 5, hk => exact absurd hk (by omega)
theorem en_T1 (hs : ∀ w ∈ flG, w.before #[Value.ref b] s = true) : ∃ t : Nat, (rdT "RULE_MOST").eval #[Value.ref b] s none [] s = some (.ref t) ∧ va_T .int t 5 (fun k => .int (Int32.ofInt ((aXl 1).getD k 0))) (LwA s) s s.heap := by
  refine va_Tof (by decide) (hs (.arrayOf (rdT "RULE_MOST") .int) (by decide +kernel)) (va_eqt (hs (.eq (.length (rdT "RULE_MOST")) (.int 5)) (by decide +kernel))) (fun k hk => ?_) (fun a h => Nat.not_le.mpr h)
  match k, hk with
  | 0, _ => exact va_eqt (hs (.eq (.elem (rdT "RULE_MOST") (.int 0)) (.int 16)) (by decide +kernel))
  | 1, _ => exact va_eqt (hs (.eq (.elem (rdT "RULE_MOST") (.int 1)) (.int 4)) (by decide +kernel))
  | 2, _ => exact va_eqt (hs (.eq (.elem (rdT "RULE_MOST") (.int 2)) (.int 9)) (by decide +kernel))
  | 3, _ => exact va_eqt (hs (.eq (.elem (rdT "RULE_MOST") (.int 3)) (.int 9)) (by decide +kernel))
  | 4, _ => exact va_eqt (hs (.eq (.elem (rdT "RULE_MOST") (.int 4)) (.int 1)) (by decide +kernel))
  | k + 5, hk => exact absurd hk (by omega)
theorem en_T2 (hs : ∀ w ∈ flG, w.before #[Value.ref b] s = true) : ∃ t : Nat, (rdT "RULE_USUAL").eval #[Value.ref b] s none [] s = some (.ref t) ∧ va_T .int t 5 (fun k => .int (Int32.ofInt ((aXl 2).getD k 0))) (LwA s) s s.heap := by
  refine va_Tof (by decide) (hs (.arrayOf (rdT "RULE_USUAL") .int) (by decide +kernel)) (va_eqt (hs (.eq (.length (rdT "RULE_USUAL")) (.int 5)) (by decide +kernel))) (fun k hk => ?_) (fun a h => Nat.not_le.mpr h)
  match k, hk with
  | 0, _ => exact va_eqt (hs (.eq (.elem (rdT "RULE_USUAL") (.int 0)) (.int 10)) (by decide +kernel))
  | 1, _ => exact va_eqt (hs (.eq (.elem (rdT "RULE_USUAL") (.int 1)) (.int 2)) (by decide +kernel))
  | 2, _ => exact va_eqt (hs (.eq (.elem (rdT "RULE_USUAL") (.int 2)) (.int 3)) (by decide +kernel))
  | 3, _ => exact va_eqt (hs (.eq (.elem (rdT "RULE_USUAL") (.int 3)) (.int 4)) (by decide +kernel))
  | 4, _ => exact va_eqt (hs (.eq (.elem (rdT "RULE_USUAL") (.int 4)) (.int 1)) (by decide +kernel))
  | k + 5, hk => exact absurd hk (by omega)
theorem en_T3 (hs : ∀ w ∈ flG, w.before #[Value.ref b] s = true) : ∃ t : Nat, (rdT "PAIR_LEAST").eval #[Value.ref b] s none [] s = some (.ref t) ∧ va_T .int t 4 (fun k => .int (Int32.ofInt ((aXl 3).getD k 0))) (LwA s) s s.heap := by
  refine va_Tof (by decide) (hs (.arrayOf (rdT "PAIR_LEAST") .int) (by decide +kernel)) (va_eqt (hs (.eq (.length (rdT "PAIR_LEAST")) (.int 4)) (by decide +kernel))) (fun k hk => ?_) (fun a h => Nat.not_le.mpr h)
  match k, hk with
  | 0, _ => exact va_eqt (hs (.eq (.elem (rdT "PAIR_LEAST") (.int 0)) (.int 0)) (by decide +kernel))
  | 1, _ => exact va_eqt (hs (.eq (.elem (rdT "PAIR_LEAST") (.int 1)) (.int 0)) (by decide +kernel))
  | 2, _ => exact va_eqt (hs (.eq (.elem (rdT "PAIR_LEAST") (.int 2)) (.int 2)) (by decide +kernel))
  | 3, _ => exact va_eqt (hs (.eq (.elem (rdT "PAIR_LEAST") (.int 3)) (.int 0)) (by decide +kernel))
  | k + 4, hk => exact absurd hk (by omega)
theorem en_T4 (hs : ∀ w ∈ flG, w.before #[Value.ref b] s = true) : ∃ t : Nat, (rdT "PAIR_MOST").eval #[Value.ref b] s none [] s = some (.ref t) ∧ va_T .int t 4 (fun k => .int (Int32.ofInt ((aXl 4).getD k 0))) (LwA s) s s.heap := by
  refine va_Tof (by decide) (hs (.arrayOf (rdT "PAIR_MOST") .int) (by decide +kernel)) (va_eqt (hs (.eq (.length (rdT "PAIR_MOST")) (.int 4)) (by decide +kernel))) (fun k hk => ?_) (fun a h => Nat.not_le.mpr h)
  match k, hk with
  | 0, _ => exact va_eqt (hs (.eq (.elem (rdT "PAIR_MOST") (.int 0)) (.int 5)) (by decide +kernel))
  | 1, _ => exact va_eqt (hs (.eq (.elem (rdT "PAIR_MOST") (.int 1)) (.int 5)) (by decide +kernel))
  | 2, _ => exact va_eqt (hs (.eq (.elem (rdT "PAIR_MOST") (.int 2)) (.int 3)) (by decide +kernel))
  | 3, _ => exact va_eqt (hs (.eq (.elem (rdT "PAIR_MOST") (.int 3)) (.int 9)) (by decide +kernel))
  | k + 4, hk => exact absurd hk (by omega)
theorem en_T5 (hs : ∀ w ∈ flG, w.before #[Value.ref b] s = true) : ∃ t : Nat, (rdT "PAIR_USUAL").eval #[Value.ref b] s none [] s = some (.ref t) ∧ va_T .int t 4 (fun k => .int (Int32.ofInt ((aXl 5).getD k 0))) (LwA s) s s.heap := by
  refine va_Tof (by decide) (hs (.arrayOf (rdT "PAIR_USUAL") .int) (by decide +kernel)) (va_eqt (hs (.eq (.length (rdT "PAIR_USUAL")) (.int 4)) (by decide +kernel))) (fun k hk => ?_) (fun a h => Nat.not_le.mpr h)
  match k, hk with
  | 0, _ => exact va_eqt (hs (.eq (.elem (rdT "PAIR_USUAL") (.int 0)) (.int 0)) (by decide +kernel))
  | 1, _ => exact va_eqt (hs (.eq (.elem (rdT "PAIR_USUAL") (.int 1)) (.int 1)) (by decide +kernel))
  | 2, _ => exact va_eqt (hs (.eq (.elem (rdT "PAIR_USUAL") (.int 2)) (.int 2)) (by decide +kernel))
  | 3, _ => exact va_eqt (hs (.eq (.elem (rdT "PAIR_USUAL") (.int 3)) (.int 1)) (by decide +kernel))
  | k + 4, hk => exact absurd hk (by omega)
abbrev stT (i : Nat) : Term := .string "HoppingMesh$Reader" (match i with | 0 => 74 | _ => 89)
theorem en_S (hs : ∀ w ∈ flG, w.before #[Value.ref b] s = true) : ∃ adK adV : Nat → Nat, vk_S 2 [5, 4] [[119, 99, 116, 109, 117], [97, 98, 107, 108]] adK adV (LwA s) s s.heap ∧ ∀ i : Nat, i < 2 → (stT i).eval #[Value.ref b] s none [] s = some (.ref (adK i)) := by
  refine vk_Sof (tm := stT) (fun i hi => ?_) (fun i hi => ?_) (fun i hi => ?_) (fun i hi => ?_) (fun i hi => ?_) (fun i hi j hj => ?_) (fun i j hi hj hne => ?_) (fun a h => Nat.not_le.mpr h)
  · rcases (by omega : i = 0 ∨ i = 1) with rfl | rfl <;> decide
  · rcases (by omega : i = 0 ∨ i = 1) with rfl | rfl
    · exact hs (.exactly (.string "HoppingMesh$Reader" 74) "java/lang/String") (by decide +kernel)
    · exact hs (.exactly (.string "HoppingMesh$Reader" 89) "java/lang/String") (by decide +kernel)
  · rcases (by omega : i = 0 ∨ i = 1) with rfl | rfl
    · exact hs (.eq (.field (.string "HoppingMesh$Reader" 74) "java/lang/String" "coder" "B") (.int 0)) (by decide +kernel)
    · exact hs (.eq (.field (.string "HoppingMesh$Reader" 89) "java/lang/String" "coder" "B") (.int 0)) (by decide +kernel)
  · rcases (by omega : i = 0 ∨ i = 1) with rfl | rfl
    · exact hs (.arrayOf (.field (.string "HoppingMesh$Reader" 74) "java/lang/String" "value" "[B") .byte) (by decide +kernel)
    · exact hs (.arrayOf (.field (.string "HoppingMesh$Reader" 89) "java/lang/String" "value" "[B") .byte) (by decide +kernel)
  · rcases (by omega : i = 0 ∨ i = 1) with rfl | rfl
    · exact hs (.eq (.length (.field (.string "HoppingMesh$Reader" 74) "java/lang/String" "value" "[B")) (.int 5)) (by decide +kernel)
    · exact hs (.eq (.length (.field (.string "HoppingMesh$Reader" 89) "java/lang/String" "value" "[B")) (.int 4)) (by decide +kernel)
  · rcases (by omega : i = 0 ∨ i = 1) with rfl | rfl
    · match j, hj with
      | 0, _ => exact hs (.eq (.elem (.field (.string "HoppingMesh$Reader" 74) "java/lang/String" "value" "[B") (.int 0)) (.int 119)) (by decide +kernel)
      | 1, _ => exact hs (.eq (.elem (.field (.string "HoppingMesh$Reader" 74) "java/lang/String" "value" "[B") (.int 1)) (.int 99)) (by decide +kernel)
      | 2, _ => exact hs (.eq (.elem (.field (.string "HoppingMesh$Reader" 74) "java/lang/String" "value" "[B") (.int 2)) (.int 116)) (by decide +kernel)
      | 3, _ => exact hs (.eq (.elem (.field (.string "HoppingMesh$Reader" 74) "java/lang/String" "value" "[B") (.int 3)) (.int 109)) (by decide +kernel)
      | 4, _ => exact hs (.eq (.elem (.field (.string "HoppingMesh$Reader" 74) "java/lang/String" "value" "[B") (.int 4)) (.int 117)) (by decide +kernel)
      | j + 5, hj => exact absurd hj (by simp)
    · match j, hj with
      | 0, _ => exact hs (.eq (.elem (.field (.string "HoppingMesh$Reader" 89) "java/lang/String" "value" "[B") (.int 0)) (.int 97)) (by decide +kernel)
      | 1, _ => exact hs (.eq (.elem (.field (.string "HoppingMesh$Reader" 89) "java/lang/String" "value" "[B") (.int 1)) (.int 98)) (by decide +kernel)
      | 2, _ => exact hs (.eq (.elem (.field (.string "HoppingMesh$Reader" 89) "java/lang/String" "value" "[B") (.int 2)) (.int 107)) (by decide +kernel)
      | 3, _ => exact hs (.eq (.elem (.field (.string "HoppingMesh$Reader" 89) "java/lang/String" "value" "[B") (.int 3)) (.int 108)) (by decide +kernel)
      | j + 4, hj => exact absurd hj (by simp)
  · rcases (by omega : (i = 0 ∧ j = 1) ∨ (i = 1 ∧ j = 0)) with ⟨rfl, rfl⟩ | ⟨rfl, rfl⟩
    · exact Or.inl (hs (.not (.eq (.string "HoppingMesh$Reader" 74) (.string "HoppingMesh$Reader" 89))) (by decide +kernel))
    · exact Or.inr (hs (.not (.eq (.string "HoppingMesh$Reader" 74) (.string "HoppingMesh$Reader" 89))) (by decide +kernel))
theorem vk_S_cg {N : Nat} {len : List Nat} {byt : List (List Int32)} {adK adV adK' adV' : Nat → Nat} {A : Nat → Prop} {U : State} {H : Heap} (h : vk_S N len byt adK adV A U H) (e1 : ∀ i, i < N → adK' i = adK i) (e2 : ∀ i, i < N → adV' i = adV i) : vk_S N len byt adK' adV' A U H := by
  refine ⟨fun i hi => ?_, fun i j hi hj e => h.2 i j hi hj (by rw [← e1 i hi, ← e1 j hj]; exact e)⟩
  rw [e1 i hi, e2 i hi]; exact h.1 i hi
theorem en_E (hs : ∀ w ∈ flG, w.before #[Value.ref b] s = true) (hts : ∀ w ∈ lw_tbl, w.before #[Value.ref b] s = true) : ∃ xd : Nat → Nat, aEnv xd (LwA s) s s.heap := by
  have hA : ∀ a : Nat, a < s.heap.size → ¬ LwA s a := fun a h => Nat.not_le.mpr h
  obtain ⟨ta0, v0, T0⟩ := en_T0 hs
  obtain ⟨ta1, v1, T1⟩ := en_T1 hs
  obtain ⟨ta2, v2, T2⟩ := en_T2 hs
  obtain ⟨ta3, v3, T3⟩ := en_T3 hs
  obtain ⟨ta4, v4, T4⟩ := en_T4 hs
  obtain ⟨ta5, v5, T5⟩ := en_T5 hs
  obtain ⟨adK, adV, hS, hv⟩ := en_S hs
  have hi : (Cond.initialized "HoppingMesh$Reader").before #[Value.ref b] s = true := hts _ (t1 (List.mem_of_getElem? (i := 4) rfl))
  refine ⟨fun j => match j with | 0 => ta0 | 1 => ta1 | 2 => ta2 | 3 => ta3 | 4 => ta4 | 5 => ta5 | 6 => adK 0 | 7 => adK 1 | 8 => adV 0 | _ => adV 1, fun w hw hn => va_Nw.of (a_isN_on hn) (hts w hw), va_AO.of (hts _ (t1 (List.mem_of_getElem? (i := 117) rfl))), hts (.arrayOver (.array .int)) (t2 (List.mem_of_getElem? (i := 18) rfl)), fun j hj => ?_, fun j hj => ?_, vk_R.of (hts _ (t2 (List.mem_of_getElem? (i := 161) rfl))) (hv 0 (by omega)), vk_R.of (hts _ (t3 (List.mem_of_getElem? (i := 26) rfl))) (hv 1 (by omega)), vk_S_cg hS (fun i hi => ?_) (fun i hi => ?_), va_Zof (hts _ (t2 (List.mem_of_getElem? (i := 179) rfl))) (hts _ (t1 (List.mem_of_getElem? (i := 15) rfl))) (va_eqt (hs (.eq (.static "java/lang/String" "COMPACT_STRINGS" "Z") (.int 1)) (by decide +kernel))) hA⟩
  · match j, hj with
    | 0, _ => exact va_Zref (hts _ (t2 (List.mem_of_getElem? (i := 163) rfl))) hi v0 hA
    | 1, _ => exact va_Zref (hts _ (t2 (List.mem_of_getElem? (i := 165) rfl))) hi v1 hA
    | 2, _ => exact va_Zref (hts _ (t2 (List.mem_of_getElem? (i := 145) rfl))) hi v2 hA
    | 3, _ => exact va_Zref (hts _ (t3 (List.mem_of_getElem? (i := 28) rfl))) hi v3 hA
    | 4, _ => exact va_Zref (hts _ (t3 (List.mem_of_getElem? (i := 30) rfl))) hi v4 hA
    | 5, _ => exact va_Zref (hts _ (t3 (List.mem_of_getElem? (i := 25) rfl))) hi v5 hA
    | j + 6, hj => exact absurd hj (by omega)
  · match j, hj with
    | 0, _ => exact T0
    | 1, _ => exact T1
    | 2, _ => exact T2
    | 3, _ => exact T3
    | 4, _ => exact T4
    | 5, _ => exact T5
    | j + 6, hj => exact absurd hj (by omega)
  · rcases (by omega : i = 0 ∨ i = 1) with rfl | rfl <;> rfl
  · rcases (by omega : i = 0 ∨ i = 1) with rfl | rfl <;> rfl
theorem en_X (hs : ∀ w ∈ flG, w.before #[Value.ref b] s = true) (hts : ∀ w ∈ lw_tbl, w.before #[Value.ref b] s = true) : aThE (LwA s) s s.heap := by
  have hA : ∀ a : Nat, a < s.heap.size → ¬ LwA s a := fun a h => Nat.not_le.mpr h
  have hi : (Cond.initialized Bundle.tN).before #[Value.ref b] s = true := hts _ (t1 (List.mem_of_getElem? (i := 22) rfl))
  refine ⟨fun w hw => va_Nw.of (th_tab w hw) (hts w ?_), vx_Zqof (hts _ (t6 (List.mem_of_getElem? (i := 78) rfl))) hi (hs (.isRef (.static Bundle.tN "UNASSIGNED_STACK" Bundle.steD)) (by decide +kernel)) hA, vx_Zqof (hts _ (t6 (List.mem_of_getElem? (i := 80) rfl))) hi (hs (.isRef (.static Bundle.tN "SUPPRESSED_SENTINEL" Bundle.listD)) (by decide +kernel)) hA⟩
  rcases List.mem_cons.mp hw with rfl | hw
  · exact t6 (List.mem_of_getElem? (i := 54) rfl)
  rcases List.mem_cons.mp hw with rfl | hw
  · exact t6 (List.mem_of_getElem? (i := 56) rfl)
  rcases List.mem_cons.mp hw with rfl | hw
  · exact t6 (List.mem_of_getElem? (i := 58) rfl)
  rcases List.mem_cons.mp hw with rfl | hw
  · exact t6 (List.mem_of_getElem? (i := 53) rfl)
  cases hw
theorem kn_of (hts : ∀ w ∈ aG, w.before #[Value.ref b] s = true) {own : String} {idx ci : Nat} (h : a_nw own idx ci) : ∃ q9 : ClassId × (Nat → Nat), ∀ q : vw_C, vwCl[ci]? = some q → u_Kn s q.1 q.2.1 q.2.2 q9.1 q9.2 := by
  obtain ⟨C, T, N, ty0, ⟨c1, c2, -⟩, -, w2, -⟩ := h
  obtain ⟨cC, iS, hk⟩ := u_known (C := C) (T := T) (N := N) (n := N) hts c2 (hts _ w2)
  refine ⟨(cC, iS), fun q hq => ?_⟩
  cases Option.some.inj (c1.symm.trans hq)
  exact hk
theorem en_K (hts : ∀ w ∈ lw_tbl, w.before #[Value.ref b] s = true) : ∃ (D : va_G) (cI cL cA : ClassId), va_K D vwCl (aTys cI cL cA) s := by
  have htG : ∀ w ∈ aG, w.before #[Value.ref b] s = true := fun w h => hts w (List.mem_filter.mp h).1
  have h0 : ∀ k : Nat, ∃ q9 : ClassId × (Nat → Nat), ∀ q : vw_C, vwCl[k]? = some q → u_Kn s q.1 q.2.1 q.2.2 q9.1 q9.2 := by
    intro k
    match k with
    | 0 => exact kn_of htG wX11_50
    | 1 => exact kn_of htG wX11_41
    | 2 => exact kn_of htG wX3_5
    | 3 => exact kn_of htG wX4_3
    | 4 => exact kn_of htG wX11_32
    | 5 => exact kn_of htG wX11_66
    | 6 => exact kn_of htG wX11_59
    | 7 => exact kn_of htG wX11_16
    | 8 => exact kn_of htG wX11_23
    | 9 => exact kn_of htG wX3_3
    | 10 => exact kn_of htG wX11_7
    | 11 => exact kn_of htG wL_8
    | 12 => exact kn_of htG wL_16
    | k + 13 => exact ⟨(0, fun _ => 0), fun q hq => by cases hq⟩
  obtain ⟨dd, hdd⟩ := Classical.axiomOfChoice h0
  obtain ⟨cI, kI, compI, i1, i2, i3⟩ := Cond.arrayClass_spec (args := #[Value.ref b]) (first := s) (o := none) (s := s) (idx := []) (htG _ q_int)
  obtain ⟨compL, cL, kL, l1, l2, l3, l4, l5⟩ := Cond.arrayOver_spec (args := #[Value.ref b]) (first := s) (o := none) (s := s) (idx := []) (hts (.arrayOver (.object "HoppingMesh$Link")) (t1 (List.mem_of_getElem? (i := 117) rfl)))
  obtain ⟨compA, cA, kA, a1, a2, a3, a4, a5⟩ := arrayOverA_spec (hts (.arrayOver (.array .int)) (t2 (List.mem_of_getElem? (i := 18) rfl)))
  refine ⟨(fun k => (dd k).1, fun k => (dd k).2), cI, cL, cA, fun k q hq => hdd k q hq, fun k q hq => ?_⟩
  match k, hq with
  | 0, hq => cases hq; exact ⟨fun N z => ⟨(fun k h => by cases h), kI, i2, compI, i3⟩, i1⟩
  | 1, hq => cases hq; exact ⟨fun N z => ⟨(fun k h => by cases h), kL, l3, compL, l4⟩, ⟨kL, compL, l3, l4, l1, l5⟩⟩
  | 2, hq => cases hq; exact ⟨fun N z => ⟨(fun k h => by cases h), kA, a3, compA, a4⟩, a5⟩
  | k + 3, hq => cases hq
end ENV
