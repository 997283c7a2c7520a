/-! ===== the law: its loop, its start ===== -/
section LOOP
variable {p : Program} {l : Launch} {e : Env} {s : State} {m : MethodId} {below : List Frame} {meth : Method} {c : Code} {b L : Nat} {xs : Nat → Int32} {D : va_G} {cI cL cA cJ : ClassId} {xd : Nat → Nat} {xx xm o : Nat}
theorem LwI.nx {j : Nat} {H : Heap} {locs : List Jvm.Loc} {cells slots : Nat} (h : LwI D cI cL cA cJ s j xx xm o H locs cells slots) (hj : j + 1 ≤ 600) : LwI D cI cL cA cJ s (j + 1) xx xm o H locs cells slots := by
  obtain ⟨mm, ad1, ad2, sh, iv, lw, rv, lw2, E, F, N, G, O, T, S, f, h1, h2, hD, hw1, hw2, hSim, hc, hs⟩ := h
  exact ⟨mm, ad1, ad2, sh, iv, lw, rv, lw2, E, F, N, G, O, T, S, f, h1, h2, hD, hw1, hw2, hSim.mono (by omega) (by omega), by omega, by omega⟩
theorem LwI.cs {j : Nat} {H : Heap} {locs : List Jvm.Loc} {cells slots : Nat} (h : LwI D cI cL cA cJ s j xx xm o H locs cells slots) : cells ≤ 240 + 2 * j ∧ slots ≤ 80000 + 12 * j := by
  obtain ⟨mm, ad1, ad2, sh, iv, lw, rv, lw2, E, F, N, G, O, T, S, f, h1, h2, hD, hw1, hw2, hSim, hc, hs⟩ := h
  have := hSim.made.2.1
  exact ⟨by omega, by omega⟩
theorem lw_sw (hC : LwC l p s m meth c b L xs D cI cL cA cJ xd) (hL : L ≤ 3072) {i j : Nat} (hi : i + 5 < L) (hj : j + 1 ≤ 600) {H : Heap} {locs : List Jvm.Loc} {cells slots : Nat} {jls : Array Slot} {Q : State → Prop} (hl : LwL jls b xx xm o i) (hI : LwI D cI cL cA cJ s j xx xm o H locs cells slots) {y : Int32}
    (kk : ∀ (jls' : Array Slot) (H' : Heap) (locs' : List Jvm.Loc) (cells' slots' : Nat), LwL jls' b xx xm o i → LwI D cI cL cA cJ s (j + 1) xx xm o H' locs' cells' slots' → W p l e room_1 s m #[Value.ref b] below meth c H' locs' cells' slots' Q (F0 m 1345 jls' [])) : W p l e room_1 s m #[Value.ref b] below meth c H locs cells slots Q (F0 m 40 jls [.int y]) := by
  obtain ⟨hx, hb, -⟩ := id hC
  have k1 : ∀ (H' : Heap) (locs' : List Jvm.Loc) (cells' slots' : Nat), LwI D cI cL cA cJ s (j + 1) xx xm o H' locs' cells' slots' → W p l e room_1 s m #[Value.ref b] below meth c H' locs' cells' slots' Q (F0 m 1345 jls []) := fun H' locs' cells' slots' h => kk jls H' locs' cells' slots' hl h
  by_cases hy : y.toInt < 0 ∨ 33 < y.toInt
  · refine lv_tableOut (tgt := 1345) hx hb dL_law_40 hy rfl ?_
    exact k1 H locs cells slots (hI.nx hj)
  obtain ⟨z, hz⟩ : ∃ z : Int, y.toInt = z := ⟨_, rfl⟩
  have hzr : 0 ≤ z ∧ z ≤ 33 := by omega
  have hd : z = 0 ∨ z = 1 ∨ z = 2 ∨ z = 3 ∨ z = 4 ∨ z = 5 ∨ z = 6 ∨ z = 7 ∨ z = 8 ∨ z = 9 ∨ z = 10 ∨ z = 11 ∨ z = 12 ∨ z = 13 ∨ z = 14 ∨ z = 15 ∨ z = 16 ∨ z = 17 ∨ z = 18 ∨ z = 19 ∨ z = 20 ∨ z = 21 ∨ z = 22 ∨ z = 23 ∨ z = 24 ∨ z = 25 ∨ z = 26 ∨ z = 27 ∨ z = 28 ∨ z = 29 ∨ z = 30 ∨ z = 31 ∨ z = 32 ∨ z = 33 := by omega
  rcases hd with rfl | rfl | rfl | rfl | rfl | rfl | rfl | rfl | rfl | rfl | rfl | rfl | rfl | rfl | rfl | rfl | rfl | rfl | rfl | rfl | rfl | rfl | rfl | rfl | rfl | rfl | rfl | rfl | rfl | rfl | rfl | rfl | rfl | rfl
  · refine lv_tableIn (tgt := 192) hx hb dL_law_40 (by omega) (by omega) (by rw [hz]; rfl) rfl ?_
    exact lc_feed hC hL hl hi hj hI k1
  · refine lv_tableIn (tgt := 265) hx hb dL_law_40 (by omega) (by omega) (by rw [hz]; rfl) rfl ?_
    exact lc_end hC hL hl hi hj hI k1
  · refine lv_tableIn (tgt := 290) hx hb dL_law_40 (by omega) (by omega) (by rw [hz]; rfl) rfl ?_
    exact lc_fault hC hL hl hi hj hI k1
  · refine lv_tableIn (tgt := 315) hx hb dL_law_40 (by omega) (by omega) (by rw [hz]; rfl) rfl ?_
    exact lc_text hC hL hl hi hj hI k1
  · refine lv_tableIn (tgt := 340) hx hb dL_law_40 (by omega) (by omega) (by rw [hz]; rfl) rfl ?_
    exact lc_rule hC hL hl hi hj hI k1
  · refine lv_tableIn (tgt := 365) hx hb dL_law_40 (by omega) (by omega) (by rw [hz]; rfl) rfl ?_
    exact lc_pair hC hL hl hi hj hI kk
  · refine lv_tableIn (tgt := 433) hx hb dL_law_40 (by omega) (by omega) (by rw [hz]; rfl) rfl ?_
    exact lc_cell hC hL hl hi hj hI k1
  · refine lv_tableIn (tgt := 494) hx hb dL_law_40 (by omega) (by omega) (by rw [hz]; rfl) rfl ?_
    exact lc_waits hC hL hl hi hj hI k1
  · refine lv_tableIn (tgt := 543) hx hb dL_law_40 (by omega) (by omega) (by rw [hz]; rfl) rfl ?_
    exact lc_letter hC hL hl hi hj hI k1
  · refine lv_tableIn (tgt := 580) hx hb dL_law_40 (by omega) (by omega) (by rw [hz]; rfl) rfl ?_
    exact lc_channel hC hL hl hi hj hI k1
  · refine lv_tableIn (tgt := 617) hx hb dL_law_40 (by omega) (by omega) (by rw [hz]; rfl) rfl ?_
    exact lc_loss hC hL hl hi hj hI k1
  · refine lv_tableIn (tgt := 642) hx hb dL_law_40 (by omega) (by omega) (by rw [hz]; rfl) rfl ?_
    exact lc_frames hC hL hl hi hj hI k1
  · refine lv_tableIn (tgt := 667) hx hb dL_law_40 (by omega) (by omega) (by rw [hz]; rfl) rfl ?_
    exact lc_deal hC hL hl hi hj hI k1
  · refine lv_tableIn (tgt := 716) hx hb dL_law_40 (by omega) (by omega) (by rw [hz]; rfl) rfl ?_
    exact lc_lose hC hL hl hi hj hI k1
  · refine lv_tableIn (tgt := 741) hx hb dL_law_40 (by omega) (by omega) (by rw [hz]; rfl) rfl ?_
    exact lc_jam hC hL hl hi hj hI k1
  · refine lv_tableIn (tgt := 766) hx hb dL_law_40 (by omega) (by omega) (by rw [hz]; rfl) rfl ?_
    exact lc_load hC hL hl hi hj hI k1
  · refine lv_tableIn (tgt := 803) hx hb dL_law_40 (by omega) (by omega) (by rw [hz]; rfl) rfl ?_
    exact lc_auto hC hL hl hi hj hI k1
  · refine lv_tableIn (tgt := 816) hx hb dL_law_40 (by omega) (by omega) (by rw [hz]; rfl) rfl ?_
    exact lc_years hC hL hl hi hj hI k1
  · refine lv_tableIn (tgt := 885) hx hb dL_law_40 (by omega) (by omega) (by rw [hz]; rfl) rfl ?_
    exact lc_status hC hL hl hi hj hI k1
  · refine lv_tableIn (tgt := 910) hx hb dL_law_40 (by omega) (by omega) (by rw [hz]; rfl) rfl ?_
    exact lc_undo hC hL hl hi hj hI k1
  · refine lv_tableIn (tgt := 923) hx hb dL_law_40 (by omega) (by omega) (by rw [hz]; rfl) rfl ?_
    exact lc_log hC hL hl hi hj hI k1
  · refine lv_tableIn (tgt := 960) hx hb dL_law_40 (by omega) (by omega) (by rw [hz]; rfl) rfl ?_
    exact lc_offer hC hL hl hi hj hI k1
  · refine lv_tableIn (tgt := 1021) hx hb dL_law_40 (by omega) (by omega) (by rw [hz]; rfl) rfl ?_
    exact lc_comes hC hL hl hi hj hI k1
  · refine lv_tableIn (tgt := 1070) hx hb dL_law_40 (by omega) (by omega) (by rw [hz]; rfl) rfl ?_
    exact lc_agree hC hL hl hi hj hI k1
  · refine lv_tableIn (tgt := 1095) hx hb dL_law_40 (by omega) (by omega) (by rw [hz]; rfl) rfl ?_
    exact lc_healed hC hL hl hi hj hI k1
  · refine lv_tableIn (tgt := 1108) hx hb dL_law_40 (by omega) (by omega) (by rw [hz]; rfl) rfl ?_
    exact lc_steady hC hL hl hi hj hI k1
  · refine lv_tableIn (tgt := 1121) hx hb dL_law_40 (by omega) (by omega) (by rw [hz]; rfl) rfl ?_
    exact lc_harm hC hL hl hi hj hI k1
  · refine lv_tableIn (tgt := 1158) hx hb dL_law_40 (by omega) (by omega) (by rw [hz]; rfl) rfl ?_
    exact lc_odds hC hL hl hi hj hI k1
  · refine lv_tableIn (tgt := 1195) hx hb dL_law_40 (by omega) (by omega) (by rw [hz]; rfl) rfl ?_
    exact lc_shares hC hL hl hi hj hI k1
  · refine lv_tableIn (tgt := 1232) hx hb dL_law_40 (by omega) (by omega) (by rw [hz]; rfl) rfl ?_
    exact lc_node hC hL hl hi hj hI k1
  · refine lv_tableIn (tgt := 1269) hx hb dL_law_40 (by omega) (by omega) (by rw [hz]; rfl) rfl ?_
    exact lc_most hC hL hl hi hj hI k1
  · refine lv_tableIn (tgt := 1294) hx hb dL_law_40 (by omega) (by omega) (by rw [hz]; rfl) rfl ?_
    exact lc_image hC hL hl hi hj hI k1
  · refine lv_tableIn (tgt := 1307) hx hb dL_law_40 (by omega) (by omega) (by rw [hz]; rfl) rfl ?_
    exact lc_back hC hL hl hi hj hI k1
  · refine lv_tableIn (tgt := 1320) hx hb dL_law_40 (by omega) (by omega) (by rw [hz]; rfl) rfl ?_
    exact lc_count hC hL hl hi hj hI k1
theorem lw_loop (hC : LwC l p s m meth c b L xs D cI cL cA cJ xd) (hL : L ≤ 3072) : ∀ (n i j : Nat) (H : Heap) (locs : List Jvm.Loc) (cells slots : Nat) (jls : Array Slot), i = 6 * j → i ≤ 3100 → L < i + n → LwL jls b xx xm o i → LwI D cI cL cA cJ s j xx xm o H locs cells slots → W p l e room_1 s m #[Value.ref b] below meth c H locs cells slots (lw_Z below #[Value.ref b] s) (F0 m 23 jls []) := by
  obtain ⟨hx, hb, hr, hml, hown, hts, hK, hKJ, hE, hT, hX, hbl, hlk, hstt⟩ := id hC
  intro n
  induction n with
  | zero =>
    intro i j H locs cells slots jls hij hi0 hn hl hI
    have hS := hI.S
    refine lv_iload hx hb dL_law_23 (lv_at hl 0 rfl) ?_
    refine lv_aload_n hx hb dL_law_25 rfl (lv_at hl 4 rfl) ?_
    refine va_slen (A := LwA s) hx hb hX hbl (Nat.not_le.mpr hbl) hS dL_law_26 ?_
    refine lv_bipush (v := Int32.ofInt 6) hx hb dL_law_27 rfl ?_
    refine lv_isub hx hb dL_law_29 ?_
    have e1 : Int32.ofNat L - Int32.ofInt 6 = Int32.ofInt ((L : Int) - 6) := by rw [Int32.ofInt_sub]; rfl
    rw [e1]
    have hc := hI.cs
    refine lv_icmp_gt (tgt := 1351) hx hb dL_law_30 rfl (fun _ => ?_) (fun q => absurd ((a_b_lt ⟨by omega, by omega⟩ ⟨by omega, by omega⟩).mpr (by omega)) q)
    refine lv_iconst (v := 1) hx hb dL_law_1351 rfl ?_
    refine va_forget hS.2.2 ?_
    refine W.widen (k := 601024) (n := 7293033) (by omega) (by omega) ?_
    exact lw_ret hx hb hr hlk dL_law_1352
  | succ n ih =>
    intro i j H locs cells slots jls hij hi0 hn hl hI
    have hS := hI.S
    refine lv_iload hx hb dL_law_23 (lv_at hl 0 rfl) ?_
    refine lv_aload_n hx hb dL_law_25 rfl (lv_at hl 4 rfl) ?_
    refine va_slen (A := LwA s) hx hb hX hbl (Nat.not_le.mpr hbl) hS dL_law_26 ?_
    refine lv_bipush (v := Int32.ofInt 6) hx hb dL_law_27 rfl ?_
    refine lv_isub hx hb dL_law_29 ?_
    have e1 : Int32.ofNat L - Int32.ofInt 6 = Int32.ofInt ((L : Int) - 6) := by rw [Int32.ofInt_sub]; rfl
    rw [e1]
    have hc := hI.cs
    refine lv_icmp_gt (tgt := 1351) hx hb dL_law_30 rfl (fun _ => ?_) (fun q => ?_)
    · refine lv_iconst (v := 1) hx hb dL_law_1351 rfl ?_
      refine va_forget hS.2.2 ?_
      refine W.widen (k := 601024) (n := 7293033) (by omega) (by omega) ?_
      exact lw_ret hx hb hr hlk dL_law_1352
    · rw [a_b_lt ⟨by omega, by omega⟩ ⟨by omega, by omega⟩] at q
      have hi : i + 5 < L := by omega
      have hj : j + 1 ≤ 600 := by omega
      refine lv_aload_n hx hb dL_law_33 rfl (lv_at hl 4 rfl) ?_
      refine lv_iload hx hb dL_law_34 (lv_at hl 0 rfl) ?_
      have e0 : (Int32.ofInt (i : Int)).toNatClampNeg = i := lw_i0 (by omega)
      refine va_sld (A := LwA s) hx hb hX hbl (Nat.not_le.mpr hbl) hS (lw_nn e0 (by rw [a_toInt ⟨by omega, by omega⟩]; omega) (by omega)) dL_law_36 ?_
      refine lv_bipush (v := 63) hx hb dL_law_37 rfl ?_
      refine lv_iand hx hb dL_law_39 ?_
      refine lw_sw hC hL hi hj hl hI (fun jls' H' locs' cells' slots' hl' hI' => ?_)
      refine lv_iinc (v := Int32.ofInt ((i + 6 : Nat) : Int)) (lv' := [(4, .int (Int32.ofInt ((i + 6 : Nat) : Int))), (3, .ref o), (2, .ref xm), (1, .ref xx), (0, .ref b)]) hx hb dL_law_1345 hl' (k := 0) rfl (by rw [← Int32.ofInt_add, show ((i + 6 : Nat) : Int) = (i : Int) + 6 by omega]) (by decide) rfl (fun jl2 hl2 => ?_)
      refine lv_goto (tgt := 23) hx hb dL_law_1348 rfl ?_
      exact ih (i + 6) (j + 1) H' locs' cells' slots' jl2 (by omega) (by omega) (by omega) hl2 hI'
end LOOP
theorem a_fs0 {ci : Nat} {C : String} {T : u_T} {N : Nat} {ty0 : Nat → FieldType} (h : a_cls ci C T N ty0) (hft : ∀ t ∈ a_ft ci, t ≤ 3) (q : Nat) : ∀ j : Nat, j < N → defaultValue (ty0 j) = vp_V (a_fs (fun _ => q) Z0 Z0 N0 0 (a_ft ci)) j := by
  obtain ⟨c1, c2, c3, c4, c5, c6⟩ := h
  subst c5
  intro j hj
  have hjt : (a_ft ci)[j]? = some (a_ft ci)[j] := List.getElem?_eq_getElem hj
  have h6 := c6 j hj
  rw [show (a_ft ci).getD j 0 = (a_ft ci)[j] by simp [List.getD, hj]] at h6
  unfold vp_V
  rw [List.getD, a_fs_get hjt]
  have h3 := hft _ (List.getElem_mem hj)
  generalize (a_ft ci)[j] = t at h6 h3
  show _ = a_fv _ _ _ _ _ _ _
  match t, h6, h3 with
  | 0, h6, _ => rw [show ty0 j = .int from h6]; rfl
  | 1, h6, _ => rw [show ty0 j = .boolean from h6]; rfl
  | 2, h6, _ => rw [show ty0 j = .long from h6]; rfl
  | 3, h6, _ =>
    show defaultValue (ty0 j) = Value.null
    rcases (show (∃ n, ty0 j = .object n) ∨ ∃ u, ty0 j = .array u from h6) with ⟨n, e⟩ | ⟨u, e⟩ <;> rw [e] <;> rfl
  | t + 4, _, h3 => exact absurd h3 (by omega)
theorem z_wf (n : Nat) : a_wf n Z0 Z0 N0 := ⟨fun _ _ => a_r0, fun _ _ => ⟨(show (-9223372036854775808 : Int) ≤ 0 by decide), (show (0 : Int) < 9223372036854775808 by decide)⟩, fun _ _ _ h => (by cases h)⟩
theorem st_lt {s : State} {w1 w2 : va_W} {sz : Nat} (hz : s.heap.size ≤ sz) (d1 : va_D (LwA s) w1) (h : va_D (va_A w1 sz) w2) : va_D (LwA s) w2 := h.weaken (fun k q hk h => by
  rcases h with ⟨k, e, hk⟩ | hq
  · exact d1.2 k (q.1, e) hk
  · exact Nat.le_trans hz hq)
set_option maxHeartbeats 4000000 in
theorem whole_start {p : Program} {e : Env} {s : State} {m : MethodId} {below : List Frame} {meth : Method} {c : Code} (l : Launch) (hflags : l.flags = flags0) {b L : Nat} {xs : Nat → Int32} (hL : L ≤ 3072) (C0 : lw_At p s m meth c b L xs) : W p l e room_1 s m #[Value.ref b] below meth c s.heap [] 0 0 (lw_Z below #[Value.ref b] s) (entryFrame m ([Value.ref b] : List Value).toArray 7) := by
  obtain ⟨hx, hb, hr, hml, hown, hts, hX, hbl, hlocks, hgv⟩ := id C0
  have hs : ∀ w ∈ flG, w.before #[Value.ref b] s = true := flat_of_before _ hgv
  have htG : ∀ w ∈ aG, w.before #[Value.ref b] s = true := fun w h => hts w (List.mem_filter.mp h).1
  obtain ⟨xd, hE⟩ := en_E hs hts
  have hT := en_X hs hts
  obtain ⟨D, cI, cL, cA, hK⟩ := en_K hts
  have hst : l.stackTraces = false := by
    unfold Launch.stackTraces
    rw [hflags]
    decide +kernel
  have hownL : s.vm.findClass RL = some m.cls := hown
  have hA0 : ∀ q : Nat, s.heap.size ≤ q → LwA s q := fun _ h => h
  have hl := lv_entry ([.ref b]) (n := 7) (Nat.le_of_ble_eq_true rfl)
  rw [lg_entry_eq]
  generalize (lg_sl ([.ref b]) ++ List.replicate (7 - (lg_sl ([.ref b])).length) Slot.unset).toArray = ls at hl ⊢
  have hl : lv_has ls 7 [(0, .ref b)] := hl
  have hS : va_S (LwA s) s.heap s.heap [] := va_S.rf
  have hK0 : va_K D vwCl [] s := hK.sub [] rfl
  have hP : va_P D vwCl [] s.heap := fun k q h => by cases h
  have hD : va_D (LwA s) [] := ⟨fun i j p q h => (by cases h), fun k q h => (by cases h)⟩
  obtain ⟨C1, T1, N1, ty1, hc1, u1, u2, u3⟩ := wL_8
  have hn1 : (a_ft 11).length = N1 := hc1.2.2.2.2.1
  refine va_new (ci := 11) (fs := a_fs (fun _ => 0) Z0 Z0 N0 0 (a_ft 11)) hx hb htG hc1.2.1 ty1 hc1.2.2.1 hownL (htG _ u1) (htG _ u2) (htG _ u3) hK0 hP hD hS hA0 hc1.1 (a_fs0 hc1 (by decide) 0) (Nat.le_of_ble_eq_true rfl) (by rw [← hn1]; exact Nat.le_of_ble_eq_true rfl) dL_law_0 (fun q1 H1 hP1 hD1 hS1 => ?_)
  have hP1 : va_P D vwCl (a_W cI cL cA (fun _ => q1) [(3, 11)] Z0 Z0 N0) H1 := hP1
  have hD1 : va_D (LwA s) (a_W cI cL cA (fun _ => q1) [(3, 11)] Z0 Z0 N0) := hD1
  refine W.widen (k := 1) (n := 11) (by omega) (by rw [← hn1]; exact Nat.le_of_ble_eq_true rfl) ?_
  refine lv_dup hx hb dL_law_3 rfl ?_
  refine lq_callI (d := 6) (ad := fun _ => q1) (rest := [.ref q1]) (R' := fun r sh iv lw rv => r = none ∧ sh = SHC ∧ iv = IV10 ∧ lw = Z0 ∧ rv = RV10) hx hb hml hownL htG hK hE hA0 hP1 hD1 hS1 (z_wf _) hl.1 dL_law_4 vL_15 (by decide) (Nat.le_of_ble_eq_true rfl) (Nat.le_of_ble_eq_true rfl) (Nat.le_of_ble_eq_true rfl) (Nat.le_of_ble_eq_true rfl) ⟨Nat.le_of_ble_eq_true rfl, Nat.le_of_ble_eq_true rfl⟩ (y_init (d := 0) ⟨rfl, rfl, rfl, rfl, rfl⟩) (fun ad1 r sh1 iv1 lw1 rv1 H2 locs2 g0 g1 g2 gP gD gw gk gS => ?_)
  obtain ⟨rfl, rfl, rfl, rfl, rfl⟩ := g2
  have x1 : ad1 0 = q1 := g0 0 (by decide)
  have gD1 := st_lt hS1.1 hD1 gD
  refine lv_astore_n (lv' := [(1, .ref q1), (0, .ref b)]) hx hb dL_law_7 rfl hl (by decide) rfl (fun ls2 hl2 => ?_)
  obtain ⟨C2, T2, N2, ty2, hc2, w1, w2, w3⟩ := wL_16
  have hn2 : (a_ft 12).length = N2 := hc2.2.2.2.2.1
  refine va_new (ci := 12) (fs := a_fs (fun _ => 0) Z0 Z0 N0 0 (a_ft 12)) hx hb htG hc2.2.1 ty2 hc2.2.2.1 hownL (htG _ w1) (htG _ w2) (htG _ w3) hK0 gP gD1 gS hA0 hc2.1 (a_fs0 hc2 (by decide) 0) (Nat.le_of_ble_eq_true rfl) (by rw [← hn2]; exact Nat.le_of_ble_eq_true rfl) dL_law_8 (fun q2 H3 hP3 hD3 hS3 => ?_)
  obtain ⟨p1, p2⟩ := fr_S hP3
  obtain ⟨d1, d2, j12⟩ := fr_D hD3
  have p2 : va_P D vwCl (a_W cI cL cA (fun _ => q2) [(3, 12)] Z0 Z0 N0) H3 := p2
  have d2 : va_D (LwA s) (a_W cI cL cA (fun _ => q2) [(3, 12)] Z0 Z0 N0) := d2
  have j12 : dj (a_W cI cL cA ad1 SHC IV10 Z0 RV10) (a_W cI cL cA (fun _ => q2) [(3, 12)] Z0 Z0 N0) := j12
  refine W.widen (k := 89) (n := 2830) (Nat.le_of_ble_eq_true rfl) (by rw [← hn2]; exact Nat.le_of_ble_eq_true rfl) ?_
  refine lv_dup hx hb dL_law_11 rfl ?_
  refine lq_callI (d := 1) (ad := fun _ => q2) (rest := [.ref q2]) (R' := fun r sh iv lw rv => r = none ∧ sh = SHR ∧ iv = ST Z0 F0i (fun _ => 0) (fun _ => 0) (fun _ => 0) (fun _ => 0) (fun _ => 0) ∧ lw = Z0 ∧ rv = RVR) hx hb hml hownL htG hK hE hA0 p2 d2 hS3 (z_wf _) hl2.1 dL_law_12 vL_18 (by decide) (Nat.le_of_ble_eq_true rfl) (Nat.le_of_ble_eq_true rfl) (Nat.le_of_ble_eq_true rfl) (Nat.le_of_ble_eq_true rfl) ⟨Nat.le_of_ble_eq_true rfl, Nat.le_of_ble_eq_true rfl⟩ (s_init (d := 0) ⟨rfl, rfl, rfl, rfl, rfl⟩) (fun ad2 r sh2 iv2 lw2 rv2 H4 locs4 k0 k1 k2 kP kD kw kq kS => ?_)
  obtain ⟨rfl, rfl, rfl, rfl, rfl⟩ := k2
  have x2 : ad2 0 = q2 := k0 0 (by decide)
  have kD1 := st_lt hS3.1 d2 kD
  have r1 := fr_P p1 j12.sym kq
  have j12' := (fr_dj p1 j12.sym kD).sym
  refine lv_astore_n (lv' := [(2, .ref q2), (1, .ref q1), (0, .ref b)]) hx hb dL_law_15 rfl hl2 (by decide) rfl (fun ls3 hl3 => ?_)
  refine lv_iconst (v := 1) hx hb dL_law_16 rfl ?_
  refine va_newa (atype := .long) (ty := .long) (a0 := (1, .inr (.inl (fun _ => 0)))) (N' := 1) hx hb (htG _ qL_long) rfl hK0 (r1.app kP) (d1.app kD1 j12') kS hA0 (fun _ => rfl) (by decide) (by decide) (by decide) (Nat.le_of_ble_eq_true rfl) (Nat.le_of_ble_eq_true rfl) dL_law_17 (fun q3 cJ H5 hKJ hP5 hD5 hS5 => ?_)
  obtain ⟨pa, po⟩ := fr_S hP5
  obtain ⟨pa1, pa2⟩ := fr_S pa
  obtain ⟨da, dO, ja⟩ := fr_D hD5
  refine lv_astore_n (lv' := [(3, .ref q3), (2, .ref q2), (1, .ref q1), (0, .ref b)]) hx hb dL_law_19 rfl hl3 (by decide) rfl (fun ls4 hl4 => ?_)
  refine lv_iconst (v := 0) hx hb dL_law_20 rfl ?_
  refine lv_istore (lv' := [(4, .int 0), (3, .ref q3), (2, .ref q2), (1, .ref q1), (0, .ref b)]) hx hb dL_law_21 hl4 (by decide) rfl (fun ls5 hl5 => ?_)
  have hC : LwC l p s m meth c b L xs D cI cL cA cJ xd := ⟨hx, hb, hr, hml, hownL, htG, hK, hKJ, hE, hT, hX, hbl, hlocks, hst⟩
  refine lw_loop hC hL (L + 1) 0 0 H5 _ _ _ ls5 rfl (by omega) (by omega) hl5 ⟨0, ad1, ad2, SHC, IV10, Z0, RV10, Z0, Z0, F0i, fun _ => 0, fun _ => 0, fun _ => 0, fun _ => 0, fun _ => 0, fun _ => 0, x1, x2, ⟨⟨pa1, pa2, po⟩, ⟨d1, kD1, dO⟩, ⟨j12', fun i j p q a b e => ja i j p q (fr_l a) b e, fun i j p q a b e => ja _ j p q (fr_r a) b e⟩, hS5⟩, gw, kw, Sim0, Nat.le_of_ble_eq_true rfl, Nat.le_of_ble_eq_true rfl⟩
