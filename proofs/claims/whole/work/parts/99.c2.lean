/-! ===== the case of pair ===== -/
theorem qL_desc : ∀ sig, parseMethodDescriptor yL_pair.desc = some sig → 4 = sig.parameters.length := by
  intro sig h
  have h2 : (parseMethodDescriptor yL_pair.desc).map (fun d => d.parameters.length) = some 4 := by decide +kernel
  rw [h] at h2
  exact (Option.some.inj h2).symm
section LCP
variable {p : Program} {l : Launch} {e : Env} {s : State} {m : MethodId} {below : List Frame} {meth : Method} {c : Code} {b L : Nat} {xs : Nat → Int32} {D : va_G} {cI cL cA cJ : ClassId} {xd : Nat → Nat} {H : Heap} {locs : List Jvm.Loc} {cells slots : Nat} {Q : State → Prop} {jls : Array Slot} {i j xx xm o : Nat}
theorem lw_pairS {d kc ks : Nat} {x y kv : Int32} {f f' : Nat → Int64} {ad : Nat → Nat} {sh : aSh} {iv lw : aF} {rv : aP} (hM : Met l yL_pair (Cond.codeWith yL_pair cL_pair 5 (some .int) hL_pair :: aG) (aRoom d kc ks) (va_Pc [.ref (ad 0), .int x, .int y, .ref o] (lpPre D cI cL cA cJ xd ad H.size sh iv lw rv o f)) (lpQ D cI cL cA cJ ad H.size sh iv lw rv o kv f') kc ks (lpA (a_W cI cL cA ad sh iv lw rv) o H.size)) (hC : LwC l p s m meth c b L xs D cI cL cA cJ xd)
    (p1 : va_P D vwCl (a_W cI cL cA ad sh iv lw rv) H) (p3 : va_P D vwCl (wO cJ o f) H) (d1 : va_D (LwA s) (a_W cI cL cA ad sh iv lw rv)) (d3 : va_D (LwA s) (wO cJ o f)) (j13 : dj (a_W cI cL cA ad sh iv lw rv) (wO cJ o f)) (hS : va_S (LwA s) s.heap H locs) (hjl : jls.size = 7) (hdd : d ≤ 100) (hf : cells + kc ≤ 601024 ∧ slots + ks ≤ 7293033)
    (kk : ∀ (ad' : Nat → Nat) (H1 : Heap) (locs1 : List Jvm.Loc), (∀ i, i < sh.length → ad' i = ad i) → va_P D vwCl (a_W cI cL cA ad' sh iv lw rv) H1 → va_D (va_A (a_W cI cL cA ad sh iv lw rv) H.size) (a_W cI cL cA ad' sh iv lw rv) → va_P D vwCl (wO cJ o f') H1 → (∀ q : Nat, q < H.size → ¬ lpA (a_W cI cL cA ad sh iv lw rv) o H.size q → H1[q]? = H[q]?) → va_S (LwA s) s.heap H1 locs1 → W p l e room_1 s m #[Value.ref b] below meth c H1 locs1 (cells + kc) (slots + ks) Q (F0 m 382 jls [.int kv])) : W p l e room_1 s m #[Value.ref b] below meth c H locs cells slots Q (F0 m 379 jls [.ref o, .int y, .int x, .ref (ad 0)]) := by
  obtain ⟨hx, hb, hr, hml, hown, hts, hK, hKJ, hE, hT, hX, hbl, hlk, hstt⟩ := id hC
  have hAA : ∀ q, lpA (a_W cI cL cA ad sh iv lw rv) o H.size q → LwA s q := by
    intro q hq
    rcases hq with (⟨k, e, hk⟩ | hq) | hq
    · exact d1.2 k (q, e) hk
    · exact Nat.le_trans hS.1 hq
    · rw [hq]; exact d3.2 0 _ rfl
  have hEH : aEnv xd (lpA (a_W cI cL cA ad sh iv lw rv) o H.size) s H := (hE.kept (fun q a b => hS.2.1 q a b)).narrow hAA
  have hTH : aThE (lpA (a_W cI cL cA ad sh iv lw rv) o H.size) s H := (hT.kept (fun q a b => hS.2.1 q a b)).narrow hAA
  have hrun := vx_runSW (g := F0 m 379 jls [.ref o, .int y, .int x, .ref (ad 0)]) (cells := cells) (slots := slots) (locs := locs) (H := H) (As := [.ref (ad 0), .int x, .int y, .ref o]) (rest := []) (R := room_1) (e := e) (below := below) (meth := meth) (cc := code) (nL := 7) ⟨hx, hb, hml, hown, hts⟩ hM ⟨⟨rfl, rfl, (by show d + 1 ≤ 2048; omega), (by show 8 + (5 + 11) + 64 * d ≤ 84000; omega), pay_in hts (fun w hw => by
      rcases List.mem_cons.mp hw with rfl | hw
      · exact ⟨qL_code, good_of_word (a_good qL_code)⟩
      · exact ⟨hw, good_of_word (a_good hw)⟩), List.mem_cons_self⟩, hts _ qL_code, hts _ qL_ini, ⟨by decide +kernel, by decide +kernel⟩, qL_desc, hts _ qL_42, hts _ qL_stat⟩ ⟨lp_blind, fun U hU hW => ⟨rfl, by rw [hU], ⟨by rw [hU]; exact p1, by rw [hU]; exact p3⟩, ⟨va_K.moved hW.alike hK, va_K.moved hW.alike hKJ⟩, ⟨d1.weaken (fun _ _ _ _ => trivial), j13⟩, by rw [hU]; exact hEH.warm hW, by rw [hU]; exact hTH.warm hW⟩⟩ rfl rfl hjl rfl (Nat.le_of_ble_eq_true rfl) dL_law_379 hf
  intro T hT9 X
  obtain ⟨v, st₀, t, T', L9, h0, X', hL9, e1, e2, ⟨⟨hv, ⟨ad', g0, gP, gD⟩, gO⟩, hz, hk⟩, st⟩ := hrun T hT9 X
  cases hv
  rw [h0] at hz hk
  rw [← e1] at hz hk gP gO
  obtain ⟨t2, a1, b1⟩ := kk ad' T'.heap (locs ++ L9) g0 gP gD gO hk
    ⟨Nat.le_trans hS.1 hz, fun q h1 h2 => (hk q (Nat.lt_of_lt_of_le h1 hS.1) (fun z => h2 (hAA q z))).trans (hS.2.1 q h1 h2), fun q hq => by
      rcases List.mem_append.mp hq with h | h
      · exact hS.2.2 q h
      · exact hAA _ (hL9 q h)⟩ T' rfl X'
  exact ⟨t2, st t2 a1, b1⟩
theorem up_F0 {F : Int → Int} {t : Int} : EqF F (up F 0 t) := by
  intro j hj
  unfold up
  rw [if_neg (by omega)]
theorem up_00 {F : Int → Int} {t : Int} : up F 0 t 0 = t := by unfold up; rw [if_pos rfl]
/-- from behind the class's pair to the end of the case -/
theorem lw_pairR {mm : Nat} {ad1 ad2 : Nat → Nat} {sh : aSh} {iv lw : aF} {rv : aP} {lw2 E : aF} {F N G O T S : Int → Int} {f : Nat → Int64} {kv : Int32} {tt vv : Int} (hC : LwC l p s m meth c b L xs D cI cL cA cJ xd) (hL : L ≤ 3072) (hl : LwL jls b xx xm o i) (hi : i + 5 < L) (hj : j + 1 ≤ 600)
    (hx1 : ad1 0 = xx) (hx2 : ad2 0 = xm) (hD : LwD D cJ s (a_W cI cL cA ad1 sh iv lw rv) (a_W cI cL cA ad2 SHR (ST E F N G O T S) lw2 RVR) o f H locs) (hw1 : a_wf sh.length iv lw rv) (hw2 : a_wf SHR.length (ST E F N G O T S) lw2 RVR) (hSim : Sim j mm sh iv rv E F N) (hc : cells ≤ 201 + mm + 2 * j) (hs : slots ≤ 60006 + 429 * mm + 12 * j)
    (hkv : Int32.ofInt tt = kv) (ho : (kv = 0 ∧ f 0 = (Int32.ofInt vv).toInt64) ∨ ¬ kv = 0)
    (hp : wp 16 mX12_pair 0 (a_loc [aR 0, aI (xs (i + 1)).toInt, aI (xs (i + 2)).toInt] 3) [] SHR (ST E F N G O T S) lw2 RVR 0 0 (fun r sh' iv' _ rv' => r = some (aI vv) ∧ sh' = SHR ∧ rv' = RVR ∧ iv' = ST E (up F 0 tt) N G O T S))
    (kk : ∀ (jls' : Array Slot) (H' : Heap) (locs' : List Jvm.Loc) (cells' slots' : Nat), LwL jls' b xx xm o i → LwI D cI cL cA cJ s (j + 1) xx xm o H' locs' cells' slots' → W p l e room_1 s m #[Value.ref b] below meth c H' locs' cells' slots' Q (F0 m 1345 jls' [])) : W p l e room_1 s m #[Value.ref b] below meth c H locs cells slots Q (F0 m 382 jls [.int kv]) := by
  obtain ⟨hx, hb, hr, hml, hown, hts, hK, hKJ, hE, hT, hX, hbl, hlk, hstt⟩ := id hC
  obtain ⟨⟨p1, p2, p3⟩, ⟨d1, d2, d3⟩, ⟨j12, j13, j23⟩, hS⟩ := id hD
  have hm40 := hSim.made.2.1
  refine lv_istore (lv' := [(5, .int kv), (4, .int (Int32.ofInt (i : Int))), (3, .ref o), (2, .ref xm), (1, .ref xx), (0, .ref b)]) hx hb dL_law_382 hl (by decide) rfl (fun jl1 hl1 => ?_)
  have hq1 : LwL jl1 b xx xm o i := lv_sub hl1 [1, 2, 3, 4, 5] rfl
  refine lv_aload_n hx hb dL_law_384 rfl (lv_at hl1 3 rfl) ?_
  refine lw_arg (k := 1) hC hL hq1 hS rfl (by omega) dL_law_385 dL_law_386 dL_law_388 dL_law_389 dL_law_390 ?_
  refine lw_arg (k := 2) hC hL hq1 hS rfl (by omega) dL_law_391 dL_law_392 dL_law_394 dL_law_395 dL_law_396 ?_
  refine lq_callV (as := [aI (xs (i + 1)).toInt, aI (xs (i + 2)).toInt]) (rest := []) hx hb hml hown hts hK hE (fun q h => h) p2 d2 hS hw2 hl1.1 dL_law_397 vL_47 rfl (List.forall_mem_cons.mpr ⟨ok_i _, List.forall_mem_cons.mpr ⟨ok_i _, fun _ h => by cases h⟩⟩) (by rw [hx2]; rfl) (Nat.le_of_ble_eq_true rfl) (Nat.le_of_ble_eq_true rfl) (Nat.le_of_ble_eq_true rfl) (Nat.le_of_ble_eq_true rfl) ⟨by show cells + 0 ≤ 601024; omega, by show slots + 0 ≤ 7293033; omega⟩ hp (fun ad3 r sh2 iv2 lw3 rv2 H1 locs1 k0 k1 k2 kP kD kw kq kS => ?_)
  obtain ⟨rfl, rfl, rfl, rfl⟩ := k2
  have r1 := fr_P p1 j12.sym kq
  have r3 := fr_P p3 j23 kq
  have j12' := (fr_dj p1 j12.sym kD).sym
  have j23' := fr_dj p3 j23 kD
  have d2' : va_D (LwA s) (a_W cI cL cA ad3 SHR (ST E (up F 0 tt) N G O T S) lw3 RVR) := kD.weaken (fun k q hk h => by
    rcases h with ⟨k, e, hk⟩ | hq
    · exact d2.2 k (q.1, e) hk
    · exact Nat.le_trans hS.1 hq)
  refine lv_istore (x := Int32.ofInt vv) (lv' := [(6, .int (Int32.ofInt vv)), (5, .int kv), (4, .int (Int32.ofInt (i : Int))), (3, .ref o), (2, .ref xm), (1, .ref xx), (0, .ref b)]) hx hb dL_law_400 hl1 (by decide) rfl (fun jl2 hl2 => ?_)
  have hq2 : LwL jl2 b xx xm o i := lv_sub hl2 [2, 3, 4, 5, 6] rfl
  refine lv_aload_n hx hb dL_law_402 rfl (lv_at hl2 4 rfl) ?_
  have hx3 : ad3 0 = xm := (k0 0 (Nat.le_of_ble_eq_true rfl)).trans hx2
  refine lq_callV (d := 16) (as := []) (rest := []) (R' := fun r sh' iv' _ rv' => r = some (aI (up F 0 tt 0)) ∧ sh' = SHR ∧ rv' = RVR ∧ iv' = ST E (up F 0 tt) N G O T S) hx hb hml hown hts hK hE (fun q h => h) kP d2' kS kw hl2.1 dL_law_403 vL_48 rfl (fun _ h => by cases h) (by rw [hx3]; rfl) (Nat.le_of_ble_eq_true rfl) (Nat.le_of_ble_eq_true rfl) (Nat.le_of_ble_eq_true rfl) (Nat.le_of_ble_eq_true rfl) ⟨by show cells + 0 + 0 ≤ 601024; omega, by show slots + 0 + 0 ≤ 7293033; omega⟩ (s_thrown ⟨rfl, rfl, rfl, rfl⟩) (fun ad4 r4 sh4 iv4 lw4 rv4 H2 locs2 m0 m1 m2 mP mD mw mq mS => ?_)
  obtain ⟨rfl, rfl, rfl, rfl⟩ := m2
  have n1 := fr_P r1 j12'.sym mq
  have n3 := fr_P r3 j23' mq
  have j12'' := (fr_dj r1 j12'.sym mD).sym
  have j23'' := fr_dj r3 j23' mD
  have d2'' : va_D (LwA s) (a_W cI cL cA ad4 SHR (ST E (up F 0 tt) N G O T S) lw4 RVR) := mD.weaken (fun k q hk h => by
    rcases h with ⟨k, e, hk⟩ | hq
    · exact d2'.2 k (q.1, e) hk
    · exact Nat.le_trans kS.1 hq)
  have hfin : W p l e room_1 s m #[Value.ref b] below meth c H2 locs2 (cells + 0 + 0) (slots + 0 + 0) Q (F0 m 430 jl2 []) := by
    refine lv_goto (tgt := 1345) hx hb dL_law_430 rfl ?_
    exact kk jl2 H2 locs2 _ _ hq2 ⟨mm, ad1, ad4, sh, iv, lw, rv, lw4, E, up F 0 tt, N, G, O, T, S, f, hx1, (m0 0 (Nat.le_of_ble_eq_true rfl)).trans hx3, ⟨⟨n1, mP, n3⟩, ⟨d1, d2'', d3⟩, ⟨j12'', j13, j23''⟩, mS⟩, hw1, mw, by rw [show ((j + 1 : Nat) : Int) = (j : Int) + 1 by omega]; exact (hSim.mono (by omega) (by omega)).q (fun _ _ => rfl) up_F0, by omega, by omega⟩
  refine lv_iload hx hb dL_law_406 (lv_at hl2 1 rfl) ?_
  refine lv_icmp_eq (tgt := 413) hx hb dL_law_408 rfl (fun _ => ?_) (fun z => absurd (by rw [up_00]; exact hkv) z)
  refine lv_iload hx hb dL_law_413 (lv_at hl2 1 rfl) ?_
  refine lv_if_ne (tgt := 430) hx hb dL_law_415 rfl (fun _ => hfin) (fun z => ?_)
  rcases ho with ⟨-, hf0⟩ | ho
  · refine lv_aload_n hx hb dL_law_418 rfl (lv_at hl2 3 rfl) ?_
    refine lv_iconst (v := 0) hx hb dL_law_419 rfl ?_
    refine va_lald hx hb hKJ n3 0 0 rfl rfl (by intro q; rcases q with q | q <;> exact absurd q (by decide)) dL_law_420 ?_
    refine lv_iload hx hb dL_law_421 (lv_at hl2 0 rfl) ?_
    refine lv_i2l hx hb dL_law_423 rfl ?_
    refine W.lcmp hx hb dL_law_424 ?_
    refine lv_if_eq (tgt := 430) hx hb dL_law_425 rfl (fun _ => hfin) (fun z => absurd ?_ z)
    rw [show f ((0 : Int32).toNatClampNeg) = (Int32.ofInt vv).toInt64 from hf0]
    simp [lg_cmp]
  · exact absurd z ho
theorem lc_pair (hC : LwC l p s m meth c b L xs D cI cL cA cJ xd) (hL : L ≤ 3072) (hl : LwL jls b xx xm o i) (hi : i + 5 < L) (hj : j + 1 ≤ 600) (hI : LwI D cI cL cA cJ s j xx xm o H locs cells slots)
    (kk : ∀ (jls' : Array Slot) (H' : Heap) (locs' : List Jvm.Loc) (cells' slots' : Nat), LwL jls' b xx xm o i → LwI D cI cL cA cJ s (j + 1) xx xm o H' locs' cells' slots' → W p l e room_1 s m #[Value.ref b] below meth c H' locs' cells' slots' Q (F0 m 1345 jls' [])) : W p l e room_1 s m #[Value.ref b] below meth c H locs cells slots Q (F0 m 365 jls []) := by
  obtain ⟨hx, hb, hr, hml, hown, hts, hK, hKJ, hE, hT, hX, hbl, hlk, hstt⟩ := id hC
  have hS0 := hI.S
  obtain ⟨mm, ad1, ad2, sh, iv, lw, rv, lw2, E, F, N, G, O, T, S, f, hx1, hx2, hD, hw1, hw2, hSim, hc, hs⟩ := hI
  obtain ⟨⟨p1, p2, p3⟩, ⟨d1, d2, d3⟩, ⟨j12, j13, j23⟩, hS⟩ := id hD
  have hm40 := hSim.made.2.1
  refine lv_aload_n hx hb dL_law_365 rfl (lv_at hl 3 rfl) ?_
  refine lw_arg (k := 1) hC hL hl hS0 rfl (by omega) dL_law_366 dL_law_367 dL_law_369 dL_law_370 dL_law_371 ?_
  refine lw_arg (k := 2) hC hL hl hS0 rfl (by omega) dL_law_372 dL_law_373 dL_law_375 dL_law_376 dL_law_377 ?_
  refine lv_aload_n hx hb dL_law_378 rfl (lv_at hl 1 rfl) ?_
  have nxt : ∀ (kv : Int32) (f' : Nat → Int64) (tt vv : Int) (ad' : Nat → Nat) (H1 : Heap) (locs1 : List Jvm.Loc) (kc ks : Nat), kc ≤ 1 → ks ≤ 6 → Int32.ofInt tt = kv → ((kv = 0 ∧ f' 0 = (Int32.ofInt vv).toInt64) ∨ ¬ kv = 0) → wp 16 mX12_pair 0 (a_loc [aR 0, aI (xs (i + 1)).toInt, aI (xs (i + 2)).toInt] 3) [] SHR (ST E F N G O T S) lw2 RVR 0 0 (fun r sh' iv' _ rv' => r = some (aI vv) ∧ sh' = SHR ∧ rv' = RVR ∧ iv' = ST E (up F 0 tt) N G O T S) →
      (∀ i, i < sh.length → ad' i = ad1 i) → va_P D vwCl (a_W cI cL cA ad' sh iv lw rv) H1 → va_D (va_A (a_W cI cL cA ad1 sh iv lw rv) H.size) (a_W cI cL cA ad' sh iv lw rv) → va_P D vwCl (wO cJ o f') H1 → (∀ q : Nat, q < H.size → ¬ lpA (a_W cI cL cA ad1 sh iv lw rv) o H.size q → H1[q]? = H[q]?) → va_S (LwA s) s.heap H1 locs1 → W p l e room_1 s m #[Value.ref b] below meth c H1 locs1 (cells + kc) (slots + ks) Q (F0 m 382 jls [.int kv]) := by
    intro kv f' tt vv ad' H1 locs1 kc ks hkc hks hkv hof hwp g0 gP gD gO gk gS
    have dO : ∀ (k : Nat) (q : Nat × va_E), (a_W cI cL cA ad2 SHR (ST E F N G O T S) lw2 RVR)[k]? = some q → ¬ lpA (a_W cI cL cA ad1 sh iv lw rv) o H.size q.1 := by
      intro k q hk z
      rcases z with z | z
      · exact fr_n p2 j12 hk z
      · exact j23 k 0 q (o, .inl (cJ, 1, .inr (.inl f))) hk rfl z
    have q2 : va_P D vwCl (a_W cI cL cA ad2 SHR (ST E F N G O T S) lw2 RVR) H1 := p2.kept (fun k q hk => gk q.1 (vx_lt p2 hk) (dO k q hk))
    have d1' : va_D (LwA s) (a_W cI cL cA ad' sh iv lw rv) := gD.weaken (fun k q hk h => by
      rcases h with ⟨k, e, hk⟩ | hq
      · exact d1.2 k (q.1, e) hk
      · exact Nat.le_trans hS.1 hq)
    have jO : dj (a_W cI cL cA ad' sh iv lw rv) (wO cJ o f') := by
      intro i j p q a b e
      have h1 : j < 1 := (List.getElem?_eq_some_iff.mp b).1
      rw [show j = 0 by omega] at b
      cases b
      exact (fr_dj p3 j13 gD) i 0 p (o, .inl (cJ, 1, .inr (.inl f))) a rfl e
    have jO2 : dj (a_W cI cL cA ad2 SHR (ST E F N G O T S) lw2 RVR) (wO cJ o f') := by
      intro i j p q a b e
      have h1 : j < 1 := (List.getElem?_eq_some_iff.mp b).1
      rw [show j = 0 by omega] at b
      cases b
      exact j23 i 0 p (o, .inl (cJ, 1, .inr (.inl f))) a rfl e
    exact lw_pairR (ad1 := ad') hC hL hl hi hj ((g0 0 (a_lt hSim.hm.1)).trans hx1) hx2 ⟨⟨gP, q2, gO⟩, ⟨d1', d2, wO_D (d3.2 0 _ rfl)⟩, ⟨fr_dj p2 j12 gD, jO, jO2⟩, gS⟩ hw1 hw2 hSim (by omega) (by omega) hkv hof hwp kk
  have hp1 : iR (xs (i + 1)).toInt := ok_i _
  have hp2 : iR (xs (i + 2)).toInt := ok_i _
  rw [← hx1]
  by_cases hn : (0 ≤ (xs (i + 1)).toInt ∧ (xs (i + 1)).toInt < F 13) ∧ 0 ≤ (xs (i + 2)).toInt ∧ (xs (i + 2)).toInt ≤ 10
  · exact lw_pairS (lp_N (d := 16) (v := aPair E N (xs (i + 1)).toInt (xs (i + 2)).toInt) l hp1 hp2 hSim.hm.1 hw1 (y_pairN hSim hn.1 hn.2 ⟨rfl, rfl, rfl, rfl, rfl⟩) D cI cL cA cJ xd ad1 H.size o f) hC p1 p3 d1 d3 j13 hS hl.1 (by omega) ⟨by omega, by omega⟩ (fun ad' H1 locs1 g0 gP gD gO gk gS => nxt 0 _ 0 (aPair E N (xs (i + 1)).toInt (xs (i + 2)).toInt) ad' H1 locs1 0 0 (by omega) (by omega) rfl (Or.inl ⟨rfl, by simp [vp_updL]⟩) (s_pair hSim.tld (fun q => absurd hn q) (fun _ => ⟨rfl, rfl, rfl, rfl⟩)) g0 gP gD gO gk gS)
  · exact lw_pairS (lp_T (d := 16) l hstt hp1 hp2 hSim.hm.1 hw1 (y_pairT hSim hn ⟨rfl, rfl, rfl, rfl⟩) D cI cL cA cJ xd ad1 H.size o f) hC p1 p3 d1 d3 j13 hS hl.1 (by omega) ⟨by omega, by omega⟩ (fun ad' H1 locs1 g0 gP gD gO gk gS => nxt 1 f 1 0 ad' H1 locs1 1 6 (by omega) (by omega) rfl (Or.inr (by decide)) (s_pair hSim.tld (fun _ => ⟨rfl, rfl, rfl, rfl⟩) (fun q => absurd q hn)) g0 gP gD gO gk gS)
end LCP
