section R25a
variable {E : aF} {F N : Int → Int} {p : Int}
theorem uI_ss {lw : aF} {i : Nat} {k v : Int} : uI lw i k v i k = v := by unfold uI; rw [if_pos ⟨rfl, rfl⟩]
theorem uI_uu {lw : aF} {i : Nat} {k v x : Int} : uI (uI lw i k v) i k x = uI lw i k x := by
  funext a b; unfold uI; split <;> rfl
theorem Inv.jam {c : Int} (hP : Prm E F) (h : Inv E F N) (hc : 0 ≤ c ∧ c < 16) : Inv E F (jmN N c) := by
  obtain ⟨hW1, hW2, hO1, hO2, hT1, hT2, hI1, hI2, hF1, hF2⟩ := id hP
  obtain ⟨hB, hPI, hj, ha, h0, hU⟩ := h
  have hx := (Bts.self hj).xor (Bts.one hc)
  unfold jmN
  refine ⟨hB.far (by omega), fun a x y => (hPI a x y).cg hB (by omega) (fun k hk => up_n (by omega)), ?_, ?_, ?_, fun a x y => ?_⟩
  · rw [up_s]; exact ⟨hx.1, hx.2.1⟩
  · rw [up_n (by omega)]; exact ha
  · rw [up_n (by omega)]; exact h0
  · rw [up_n (by omega), up_n (by omega), up_n (by omega)]; exact hU a x y
theorem Inv.aut (hP : Prm E F) (h : Inv E F N) : Inv E F (up N 367 (1 - N 367)) := by
  obtain ⟨hW1, hW2, hO1, hO2, hT1, hT2, hI1, hI2, hF1, hF2⟩ := id hP
  obtain ⟨hB, hPI, hj, ha, h0, hU⟩ := h
  refine ⟨hB.far (by omega), fun a x y => (hPI a x y).cg hB (by omega) (fun k hk => up_n (by omega)), ?_, ?_, ?_, fun a x y => ?_⟩
  · rw [up_n (by omega)]; exact hj
  · rw [up_s]; omega
  · rw [up_n (by omega)]; exact h0
  · rw [up_n (by omega), up_n (by omega), up_n (by omega)]; exact hU a x y
theorem Inv.lod {v : Int} (hP : Prm E F) (h : Inv E F N) (hp : 0 ≤ p ∧ p < 6) (hv : 0 ≤ v ∧ v ≤ 9) : Inv E F (up N (61 * p + 58) v) := by
  obtain ⟨hW1, hW2, hO1, hO2, hT1, hT2, hI1, hI2, hF1, hF2⟩ := id hP
  obtain ⟨hB, hPI, hj, ha, h0, hU⟩ := h
  refine ⟨hB.bup (by omega) (by rw [k58]; exact hv), fun a x y => (hPI a x y).cg hB (by omega) (fun k hk => up_n (by omega)), ?_, ?_, ?_, fun a x y => ?_⟩
  · rw [up_n (by omega)]; exact hj
  · rw [up_n (by omega)]; exact ha
  · rw [up_n (by omega)]; exact h0
  · rw [up_n (by omega), up_n (by omega), up_n (by omega)]; exact hU a x y
theorem Inv.beg {kd n : Int} (hP : Prm E F) (h : Inv E F N) (hp : 0 ≤ p ∧ p < F 13) (hfr : N 368 ≤ 20000) (hn : 0 ≤ n ∧ n < 6) (hkd : 0 ≤ kd ∧ kd ≤ 3) (h03 : kd ≤ 1 → n ≤ 3) : Inv E F (begF E F N p kd n) := by
  obtain ⟨hW1, hW2, hO1, hO2, hT1, hT2, hI1, hI2, hF1, hF2⟩ := id hP
  obtain ⟨hB, hPI, hj, ha, h0, hU⟩ := h
  have hl : Loc p N (begF E F N p kd n) := Loc.lbegF hB (by omega) hP hn hkd h03
  refine ⟨begF_bok hB (by omega) hP ⟨h0, hfr⟩ hn hkd h03, PI.all hPI hF2 hB (fun j hj => hl j (by omega)) ((hPI p hp.1 hp.2).beg hP hB (by omega) hn hkd h03), ?_, ?_, ?_, fun a x y => ?_⟩
  · rw [hl _ (by omega)]; exact hj
  · rw [hl _ (by omega)]; exact ha
  · rw [hl _ (by omega)]; exact h0
  · rw [hl _ (by omega), hl _ (by omega), hl _ (by omega)]; exact hU a x y
theorem drv_r {x m : Int} (hm : 0 < m) : 0 ≤ drv x m ∧ drv x m < m := by
  unfold drv
  exact ⟨Int.emod_nonneg _ (by omega), Int.emod_lt_of_pos _ hm⟩
theorem dfN_ok {x : Int} (hP : Prm E F) (h : Inv E F N) (hF : 0 < F 13) : Inv E F (dfN F N x) ∧ dfN F N x 368 = N 368 ∧ dfN F N x 369 = N 369 := by
  have hF6 : F 13 ≤ 6 := hP.2.2.2.2.2.2.2.2.2
  have r1 := drv_r (x := drw x) (m := F 13) hF
  have h2 : Inv E F (df2 F N x) ∧ df2 F N x 368 = N 368 ∧ df2 F N x 369 = N 369 := by
    unfold df2
    split
    · exact ⟨h.drop hP (by omega), up_n (by omega), up_n (by omega)⟩
    · exact ⟨h, rfl, rfl⟩
  have r2 := drv_r (x := drw (df1 F x)) (m := 16) (by decide)
  unfold dfN
  split
  · exact ⟨h2.1.jam hP r2, by unfold jmN; rw [up_n (by omega)]; exact h2.2.1, by unfold jmN; rw [up_n (by omega)]; exact h2.2.2⟩
  · exact h2
theorem dfx_q {F' : Int → Int} {x : Int} (h : EqF F F') : dfx F' x = dfx F x ∧ dfN F' N x = dfN F N x := by
  have e1 : df1 F' x = df1 F x := by unfold df1; rw [h 17 (by omega)]
  have e2 : df2 F' N x = df2 F N x := by unfold df2; rw [h 17 (by omega), h 13 (by omega)]
  exact ⟨by unfold dfx; rw [e1], by unfold dfN; rw [e1, e2]⟩
end R25a
noncomputable def yrE : Nat → aF → (Int → Int) → (Int → Int) → Int → aF
  | 0, E, _, _, _ => E
  | m + 1, E, F, N, x => yrE m (kpE E F N) (kpG F) (pasF E F (dfN F N x)) (dfx F x)
noncomputable def yrN (E : aF) (F : Int → Int) : Nat → (Int → Int) → Int → (Int → Int)
  | 0, N, _ => N
  | m + 1, N, x => yrN E F m (pasF E F (dfN F N x)) (dfx F x)
theorem kpG_f {F : Int → Int} : ∀ j : Int, j = 13 ∨ j = 17 → kpG F j = F j := fun j hj => by unfold kpG; rw [up_n (by omega)]
theorem dfx_k {F N : Int → Int} {x : Int} : dfx (kpG F) x = dfx F x ∧ dfN (kpG F) N x = dfN F N x := by
  have e1 : df1 (kpG F) x = df1 F x := by unfold df1; rw [kpG_f 17 (by omega)]
  have e2 : df2 (kpG F) N x = df2 F N x := by unfold df2; rw [kpG_f 17 (by omega), kpG_f 13 (by omega)]
  exact ⟨by unfold dfx; rw [e1], by unfold dfN; rw [e1, e2]⟩
theorem yrE_q (m : Nat) : ∀ (E E1 : aF) (F F1 N : Int → Int) (x : Int), EqE E E1 → EqF F F1 → EqE (yrE m E F N x) (yrE m E1 F1 N x) := by
  induction m with
  | zero => intro E E1 F F1 N x h _; exact h
  | succ m ih => intro E E1 F F1 N x h hf; rw [yrE, yrE, (dfx_q (N := N) hf).1, (dfx_q hf).2, pasF_q (h.p hf)]; exact ih _ _ _ _ _ _ (h.kp hf) hf.kp
theorem yrN_q {E E1 : aF} {F F1 : Int → Int} (h : EqP E E1 F F1) (h17 : F1 17 = F 17) (m : Nat) : ∀ (N : Int → Int) (x : Int), yrN E1 F1 m N x = yrN E F m N x := by
  have e1 : ∀ x, df1 F1 x = df1 F x := fun x => by unfold df1; rw [h17]
  have e2 : ∀ N x, df2 F1 N x = df2 F N x := fun N x => by unfold df2; rw [h17, h.2.2.2.1]
  have e3 : ∀ x, dfx F1 x = dfx F x := fun x => by unfold dfx; rw [e1]
  have e4 : ∀ N x, dfN F1 N x = dfN F N x := fun N x => by unfold dfN; rw [e1, e2]
  induction m with
  | zero => intro N x; rfl
  | succ m ih => intro N x; rw [yrN, yrN, e3, e4, pasF_q h, ih]
section R25
variable {d : Nat} {iv lw : aF} {F N G O T S K : Int → Int} {R : aPost}
theorem s_draw {m : Int} (hm : 0 < m ∧ m ≤ 100) (k : R (some (aI (drv (lw 0 26) m))) SHR (ST iv F N G O T S) (uI lw 0 26 (drw (lw 0 26))) RVR) : wp (d) mX12_draw 0 [some (aR 0), some (aI m)] [] SHR (ST iv F N G O T S) lw RVR 0 0 R := by
  have hd := drv_r (x := lw 0 26) hm.1
  unfold drv at hd k
  refine wp_aload_n dX12_draw_0 rfl ?_
  refine wp_aload_n dX12_draw_1 rfl ?_
  refine wp_getL dX12_draw_2 fX12_334 rfl ?_
  refine wp_ldc2 (v := 6364136223846793005) dX12_draw_5 zX12_338 rfl ⟨by decide, by decide⟩ ?_
  refine wp_lmul dX12_draw_8 ?_
  refine wp_ldc2 (v := 1442695040888963407) dX12_draw_9 zX12_340 rfl ⟨by decide, by decide⟩ ?_
  refine wp_ladd dX12_draw_12 ?_
  refine wp_putL dX12_draw_13 fX12_334 rfl ?_
  refine wp_aload_n dX12_draw_16 rfl ?_
  refine wp_getL dX12_draw_17 fX12_334 rfl ?_
  rw [uI_ss, show wL (wL (lw 0 26 * 6364136223846793005) + 1442695040888963407) = drw (lw 0 26) from rfl]
  refine wp_bipush dX12_draw_20 ?_
  refine wp_lushr33 dX12_draw_22 ?_
  refine wp_iload_n dX12_draw_23 rfl ?_
  refine wp_i2l dX12_draw_24 ?_
  refine wp_lrem dX12_draw_25 (by omega) hm.1 ?_
  refine wp_l2i dX12_draw_26 ⟨by omega, by omega⟩ ?_
  refine wp_ireturn dX12_draw_27 rfl ?_
  exact k
theorem s_drawFrame {x : Int} (hx : lw 0 26 = x) (hP : Prm iv F) (hF : 0 < F 13) (hj : 0 ≤ N 366 ∧ N 366 < 65536) (k : R none SHR (ST iv F (dfN F N x) G O T S) (uI lw 0 26 (dfx F x)) RVR) : wp (d + 1) mX12_drawFrame 0 [some (aR 0)] [] SHR (ST iv F N G O T S) lw RVR 0 0 R := by
  obtain ⟨hW1, hW2, hO1, hO2, hT1, hT2, hI1, hI2, hF1, hF2⟩ := id hP
  unfold dfN dfx at k
  have hc1 : ∀ x : Int, 0 ≤ drv x (F 13) ∧ drv x (F 13) < F 13 := fun x => drv_r hF
  have hc2 : ∀ x : Int, 0 ≤ drv x 16 ∧ drv x 16 < 16 := fun x => drv_r (by decide)
  refine wp_aload_n dX12_drawFrame_0 rfl ?_
  refine wp_bipush dX12_drawFrame_1 ?_
  refine wp_callV (as := [_]) (ls0 := [_, _]) (kc := 0) (ks := 0) (bc' := 0) (bs' := 0) dX12_drawFrame_3 vX12_342 rfl rfl rfl (Nat.le_of_ble_eq_true rfl) (Nat.le_of_ble_eq_true rfl) (by omega) (by omega) ?_
  refine s_draw (by omega) ?_
  rw [hx]
  refine wp_aload_n dX12_drawFrame_6 rfl ?_
  refine wp_getI dX12_drawFrame_7 fX12_37 rfl ?_
  try simp only [ST0, ST5, ST6, ST7, ST8, ST10, ST11, ST12, ST13]
  refine wp_icmp_ge (tgt := 28) dX12_drawFrame_10 rfl (fun h10 => ?_) (fun h10 => ?_)
  · refine wp_aload_n dX12_drawFrame_28 rfl ?_
    refine wp_bipush dX12_drawFrame_29 ?_
    refine wp_callV (as := [_]) (ls0 := [_, _]) (kc := 0) (ks := 0) (bc' := 0) (bs' := 0) dX12_drawFrame_31 vX12_342 rfl rfl rfl (Nat.le_of_ble_eq_true rfl) (Nat.le_of_ble_eq_true rfl) (by omega) (by omega) ?_
    first
    | (refine s_draw (lw := uI lw 0 26 (drw (drw x))) (by omega) ?_
       rw [uI_ss, uI_uu]
       have e1 : df1 F x = drw (drw x) := by unfold df1; rw [if_pos (by omega)]
       have e2 : df2 F N x = up N (61 * drv (drw x) (F 13) + 43) 0 := by unfold df2; rw [if_pos (by omega)]
       rw [e1, e2] at k)
    | (refine s_draw (lw := uI lw 0 26 (drw x)) (by omega) ?_
       rw [uI_ss, uI_uu]
       have e1 : df1 F x = drw x := by unfold df1; rw [if_neg (by omega)]
       have e2 : df2 F N x = N := by unfold df2; rw [if_neg (by omega)]
       rw [e1, e2] at k)
    refine wp_iconst dX12_drawFrame_34 ?_
    refine wp_icmp_ge (tgt := 57) dX12_drawFrame_35 rfl (fun h35 => ?_) (fun h35 => ?_)
    · refine wp_return dX12_drawFrame_57 rfl ?_
      first
      | (rw [if_neg (by omega), if_neg (by omega)] at k; exact k)
      | exact k
      | (unfold jmN at k; rw [up_n (by omega)] at k; exact k)
    · refine wp_aload_n dX12_drawFrame_38 rfl ?_
      refine wp_getR rfl dX12_drawFrame_39 fX12_31 rfl ?_
      refine wp_sipush dX12_drawFrame_42 ?_
      refine wp_dup2 dX12_drawFrame_45 rfl rfl ?_
      refine wp_iald dX12_drawFrame_46 rfl (by omega) (by omega) ?_
      try simp only [ST0, ST5, ST6, ST7, ST8, ST10, ST11, ST12, ST13]
      try rw [up_n (by omega)]
      refine wp_iconst dX12_drawFrame_47 ?_
      refine wp_aload_n dX12_drawFrame_48 rfl ?_
      refine wp_bipush dX12_drawFrame_49 ?_
      refine wp_callV (as := [_]) (ls0 := [_, _]) (kc := 0) (ks := 0) (bc' := 0) (bs' := 0) dX12_drawFrame_51 vX12_342 rfl rfl rfl (Nat.le_of_ble_eq_true rfl) (Nat.le_of_ble_eq_true rfl) (by omega) (by omega) ?_
      refine s_draw (by omega) ?_
      rw [uI_ss, uI_uu]
      have h16 := hc2 (drw (df1 F x))
      rw [e1] at h16
      have hp2 := p2_r h16
      rw [if_pos (by omega), if_pos (by omega)] at k
      refine wp_ishl dX12_drawFrame_54 (by omega) (by omega) (by exact ⟨by omega, by omega⟩) ?_
      refine wp_ixor dX12_drawFrame_55 (by omega) (by omega) ?_
      refine wp_iast dX12_drawFrame_56 rfl (by omega) (by omega) ?_
      try simp only [STu0, STu8, STu10, STu11, STu12, STu13]
      refine wp_return dX12_drawFrame_57 rfl ?_
      first
      | (rw [if_neg (by omega), if_neg (by omega)] at k; exact k)
      | exact k
      | (unfold jmN at k; rw [up_n (by omega)] at k; exact k)
  · refine wp_aload_n dX12_drawFrame_13 rfl ?_
    refine wp_aload_n dX12_drawFrame_14 rfl ?_
    refine wp_aload_n dX12_drawFrame_15 rfl ?_
    refine wp_getI dX12_drawFrame_16 fX12_138 rfl ?_
    try simp only [ST0, ST5, ST6, ST7, ST8, ST10, ST11, ST12, ST13]
    refine wp_callV (as := [_]) (ls0 := [_, _]) (kc := 0) (ks := 0) (bc' := 0) (bs' := 0) dX12_drawFrame_19 vX12_342 rfl rfl rfl (Nat.le_of_ble_eq_true rfl) (Nat.le_of_ble_eq_true rfl) (by omega) (by omega) ?_
    refine s_draw (by omega) ?_
    rw [uI_ss, uI_uu]
    have hp1 := hc1 (drw x)
    refine wp_bipush dX12_drawFrame_22 ?_
    refine wp_iconst dX12_drawFrame_24 ?_
    refine wp_callV (as := [_, _, _]) (ls0 := [_, _, _, _]) (kc := 0) (ks := 0) (bc' := 0) (bs' := 0) dX12_drawFrame_25 vX12_141 rfl rfl rfl (Nat.le_of_ble_eq_true rfl) (Nat.le_of_ble_eq_true rfl) (by omega) (by omega) ?_
    refine s_set (by omega) (by omega) ?_
    refine wp_aload_n dX12_drawFrame_28 rfl ?_
    refine wp_bipush dX12_drawFrame_29 ?_
    refine wp_callV (as := [_]) (ls0 := [_, _]) (kc := 0) (ks := 0) (bc' := 0) (bs' := 0) dX12_drawFrame_31 vX12_342 rfl rfl rfl (Nat.le_of_ble_eq_true rfl) (Nat.le_of_ble_eq_true rfl) (by omega) (by omega) ?_
    first
    | (refine s_draw (lw := uI lw 0 26 (drw (drw x))) (by omega) ?_
       rw [uI_ss, uI_uu]
       have e1 : df1 F x = drw (drw x) := by unfold df1; rw [if_pos (by omega)]
       have e2 : df2 F N x = up N (61 * drv (drw x) (F 13) + 43) 0 := by unfold df2; rw [if_pos (by omega)]
       rw [e1, e2] at k)
    | (refine s_draw (lw := uI lw 0 26 (drw x)) (by omega) ?_
       rw [uI_ss, uI_uu]
       have e1 : df1 F x = drw x := by unfold df1; rw [if_neg (by omega)]
       have e2 : df2 F N x = N := by unfold df2; rw [if_neg (by omega)]
       rw [e1, e2] at k)
    refine wp_iconst dX12_drawFrame_34 ?_
    refine wp_icmp_ge (tgt := 57) dX12_drawFrame_35 rfl (fun h35 => ?_) (fun h35 => ?_)
    · refine wp_return dX12_drawFrame_57 rfl ?_
      first
      | (rw [if_neg (by omega), if_neg (by omega)] at k; exact k)
      | exact k
      | (unfold jmN at k; rw [up_n (by omega)] at k; exact k)
    · refine wp_aload_n dX12_drawFrame_38 rfl ?_
      refine wp_getR rfl dX12_drawFrame_39 fX12_31 rfl ?_
      refine wp_sipush dX12_drawFrame_42 ?_
      refine wp_dup2 dX12_drawFrame_45 rfl rfl ?_
      refine wp_iald dX12_drawFrame_46 rfl (by omega) (by omega) ?_
      try simp only [ST0, ST5, ST6, ST7, ST8, ST10, ST11, ST12, ST13]
      try rw [up_n (by omega)]
      refine wp_iconst dX12_drawFrame_47 ?_
      refine wp_aload_n dX12_drawFrame_48 rfl ?_
      refine wp_bipush dX12_drawFrame_49 ?_
      refine wp_callV (as := [_]) (ls0 := [_, _]) (kc := 0) (ks := 0) (bc' := 0) (bs' := 0) dX12_drawFrame_51 vX12_342 rfl rfl rfl (Nat.le_of_ble_eq_true rfl) (Nat.le_of_ble_eq_true rfl) (by omega) (by omega) ?_
      refine s_draw (by omega) ?_
      rw [uI_ss, uI_uu]
      have h16 := hc2 (drw (df1 F x))
      rw [e1] at h16
      have hp2 := p2_r h16
      rw [if_pos (by omega), if_pos (by omega)] at k
      refine wp_ishl dX12_drawFrame_54 (by omega) (by omega) (by exact ⟨by omega, by omega⟩) ?_
      refine wp_ixor dX12_drawFrame_55 (by omega) (by omega) ?_
      refine wp_iast dX12_drawFrame_56 rfl (by omega) (by omega) ?_
      try simp only [STu0, STu8, STu10, STu11, STu12, STu13]
      refine wp_return dX12_drawFrame_57 rfl ?_
      first
      | (rw [if_neg (by omega), if_neg (by omega)] at k; exact k)
      | exact k
      | (unfold jmN at k; rw [up_n (by omega)] at k; exact k)
theorem l_years {n sd1 : Int} (hn : n ≤ 40) (m : Nat) : ∀ (i : Int) (iv lw : aF) (F N G O T S : Int → Int) (x : Int), 0 ≤ i → i + m = n → lw 0 26 = x → 0 < F 13 → Prm iv F → Prm2 iv F → Inv iv F N → N 368 + m ≤ 9999 → (0 ≤ N 369 ∧ N 369 ≤ 60) → (0 ≤ F 25 ∧ F 25 ≤ 40) → (∀ (E' lw' : aF) (F' G' O' T' S' : Int → Int), EqE (yrE m iv F N x) E' → EqF (frG m F) F' → R (some (aI (N 368 + m))) SHR (ST E' F' (yrN iv F m N x) G' O' T' S') lw' RVR) → wp (d + 10) mX12_years 25 [some (aR 0), some (aI n), some (aL sd1), none, some (aI i)] [] SHR (ST iv F N G O T S) lw RVR 0 0 R := by
  induction m with
  | zero =>
    intro i iv lw F N G O T S x h0 hm hlw hF hP hP2 hI hf h9 h25 k
    refine wp_iload dX12_years_25 rfl ?_
    refine wp_iload_n dX12_years_27 rfl ?_
    refine wp_icmp_ge (tgt := 49) dX12_years_28 rfl (fun h28 => ?_) (fun h28 => by exfalso; omega)
    refine wp_aload_n dX12_years_49 rfl ?_
    refine wp_getR rfl dX12_years_50 fX12_31 rfl ?_
    refine wp_sipush dX12_years_53 ?_
    refine wp_iald dX12_years_56 rfl (by omega) (by omega) ?_
    try simp only [ST0, ST5, ST6, ST7, ST8, ST10, ST11, ST12, ST13]
    refine wp_ireturn dX12_years_57 rfl ?_
    have hk := k iv lw F G O T S EqE.rf EqF.rf
    rw [show N 368 + ((0 : Nat) : Int) = N 368 by omega] at hk; exact hk
  | succ m ih =>
    intro i iv lw F N G O T S x h0 hm hlw hF hP hP2 hI hf h9 h25 k
    have hd := dfN_ok (x := x) hP hI hF
    refine wp_iload dX12_years_25 rfl ?_
    refine wp_iload_n dX12_years_27 rfl ?_
    refine wp_icmp_ge (tgt := 49) dX12_years_28 rfl (fun h28 => by exfalso; omega) (fun h28 => ?_)
    refine wp_aload_n dX12_years_31 rfl ?_
    refine wp_callV (as := []) (ls0 := [_, _]) (kc := 0) (ks := 0) (bc' := 0) (bs' := 0) dX12_years_32 vX12_325 rfl rfl rfl (Nat.le_of_ble_eq_true rfl) (Nat.le_of_ble_eq_true rfl) (by omega) (by omega) ?_
    refine s_keep (by omega) ?_
    refine wp_aload_n dX12_years_35 rfl ?_
    refine wp_callV (as := []) (ls0 := [_]) (kc := 0) (ks := 0) (bc' := 0) (bs' := 0) dX12_years_36 vX12_345 rfl rfl rfl (Nat.le_of_ble_eq_true rfl) (Nat.le_of_ble_eq_true rfl) (by omega) (by omega) ?_
    refine s_drawFrame (iv := kpE iv F N) (F := kpG F) hlw (Prm_q kp_q hP) (by rw [kpG_f 13 (by omega)]; exact hF) hI.2.2.1 ?_
    rw [(dfx_k (N := N)).1, dfx_k.2]
    refine wp_aload_n dX12_years_39 rfl ?_
    refine wp_callV (as := []) (ls0 := [_, _]) (kc := 0) (ks := 0) (bc' := 0) (bs' := 0) dX12_years_40 vX12_328 rfl rfl rfl (Nat.le_of_ble_eq_true rfl) (Nat.le_of_ble_eq_true rfl) (by omega) (by omega) ?_
    refine s_passFrame (iv := kpE iv F N) (F := kpG F) (Prm_q kp_q hP) (Prm2_q kp_q hP2) (Inv_q kp_q hd.1) (by rw [hd.2.1]; omega) (by rw [hd.2.2]; exact h9) (fun F3 G' O' T' S' f1 => ?_)
    have hp := pasF_inv (Prm_q (kp_q (N := N)) hP) (Inv_q kp_q hd.1) (by rw [hd.2.1]; omega) (by rw [hd.2.2]; exact h9)
    have q3 : EqP (kpE iv F N) (kpE iv F N) (kpG F) F3 := EqP.f1 (fun j hj => f1 j (by omega) (by omega))
    have hr25 := kpa_r h25
    have f25 : F3 25 = kpa (F 25) + 1 := by rw [f1 25 (by omega) (by omega)]; unfold kpG; rw [up_s]
    have e3 : EqF (kpG F) F3 := fun j hj => f1 j (by omega) (by omega)
    refine wp_iinc (ls' := [_, _, _, _, _]) dX12_years_43 (by decide) rfl rfl ⟨by omega, by omega⟩ rfl ?_
    refine wp_goto (tgt := 25) dX12_years_46 rfl ?_
    refine ih _ _ _ _ _ _ _ _ _ _ (by omega) (by omega) uI_ss (by rw [e3 13 (by omega), kpG_f 13 (by omega)]; exact hF) (Prm_q q3 (Prm_q kp_q hP)) (Prm2_q q3 (Prm2_q kp_q hP2)) (Inv_q q3 hp.1) (by rw [hp.2.1, hd.2.1]; omega) hp.2.2 (by omega) (fun E4 lw4 F4 G4 O4 T4 S4 g1 g2 => ?_)
    rw [pasF_q kp_q] at g1 hp ⊢
    have hk := k E4 lw4 F4 G4 O4 T4 S4 ((yrE_q m _ _ _ _ (pasF iv F (dfN F N x)) (dfx F x) EqE.rf e3).tr g1) ((frG_q m _ _ e3).tr g2)
    rw [yrN, ← yrN_q (kp_q.tr q3) (by rw [e3 17 (by omega), kpG_f 17 (by omega)])] at hk
    rw [hp.2.1, hd.2.1, show N 368 + 1 + (m : Int) = N 368 + ((m + 1 : Nat) : Int) by omega]
    exact hk
def yrR (F N : Int → Int) (n : Int) : Prop := F 13 = 0 ∨ ¬ ((1 ≤ n ∧ n ≤ 40) ∧ N 368 + n ≤ 9999)
theorem s_years {n sd1 : Int} (hT : Tld iv F N) (k0 : yrR F N n → R (some (aI (-1))) SHR (ST iv F N G O T S) lw RVR) (k1 : ¬ yrR F N n → ∀ (E' lw' : aF) (F' G' O' T' S' : Int → Int), EqE (yrE n.toNat iv F N sd1) E' → EqF (frG n.toNat F) F' → R (some (aI (N 368 + n))) SHR (ST E' F' (yrN iv F n.toNat N sd1) G' O' T' S') lw' RVR) : wp (d + 10) mX12_years 0 [some (aR 0), some (aI n), some (aL sd1), none, none] [] SHR (ST iv F N G O T S) lw RVR 0 0 R := by
  obtain ⟨hr, hP2, h9, h8, hc, h25, hT2⟩ := id hT
  refine wp_aload_n dX12_years_0 rfl ?_
  refine wp_getI dX12_years_1 fX12_138 rfl ?_
  try simp only [ST0, ST5, ST6, ST7, ST8, ST10, ST11, ST12, ST13]
  refine wp_if_eq (tgt := 15) dX12_years_4 rfl (fun h4 => ?_) (fun h4 => ?_)
  · refine wp_iconst dX12_years_15 ?_
    refine wp_ireturn dX12_years_16 rfl ?_
    exact k0 (by unfold yrR; omega)
  · refine wp_aload_n dX12_years_7 rfl ?_
    refine wp_iload_n dX12_years_8 rfl ?_
    refine wp_callV (as := [_]) (ls0 := [_, _]) (kc := 0) (ks := 0) (bc' := 0) (bs' := 0) dX12_years_9 vX12_319 rfl rfl rfl (Nat.le_of_ble_eq_true rfl) (Nat.le_of_ble_eq_true rfl) (by omega) (by omega) ?_
    refine s_areFrames (by omega) (fun h9 => ?_) (fun h9 => ?_)
    · refine wp_if_ne (tgt := 17) dX12_years_12 rfl (fun _ => ?_) (fun q => absurd q (by decide))
      refine wp_aload_n dX12_years_17 rfl ?_
      refine wp_lload_n dX12_years_18 rfl ?_
      refine wp_putL dX12_years_19 fX12_334 rfl ?_
      refine wp_iconst dX12_years_22 ?_
      refine wp_istore (ls' := [_, _, _, _, _]) dX12_years_23 (by decide) rfl rfl ?_
      have hh := k1 (by unfold yrR; omega)
      obtain ⟨hP, hI⟩ := hT2 (by omega)
      refine l_years (sd1 := sd1) (by omega) n.toNat 0 _ _ _ _ _ _ _ _ sd1 (by omega) (by omega) uI_ss (by omega) hP hP2 hI (by omega) hT.2.2.1 h25 (fun E' lw' F' G' O' T' S' g1 g2 => ?_)
      rw [show ((n.toNat : Nat) : Int) = n by omega]
      exact hh E' lw' F' G' O' T' S' g1 g2
    · refine wp_if_ne (tgt := 17) dX12_years_12 rfl (fun q => absurd q (by decide)) (fun _ => ?_)
      refine wp_iconst dX12_years_15 ?_
      refine wp_ireturn dX12_years_16 rfl ?_
      exact k0 (by unfold yrR; omega)
end R25
