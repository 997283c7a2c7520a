/-- rows of acts made by j keepings -/
def nwC : Nat → Nat → Int → Nat
  | 0, _, _ => 0
  | j + 1, m, a => n1 m a + nwC j (m + n1 m a) ((a + 1) % 40)
section C34
variable {d m : Nat} {sh : aSh} {iv lw E : aF} {rv : aP} {F N : Int → Int} {R : aPost} {c : Int}
theorem l_framesC {n : Int} (hn : n ≤ 40) (j : Nat) : ∀ (i : Int) (m bq : Nat) (sh : aSh) (iv lw E : aF) (rv : aP) (F N : Int → Int), Sim c m sh iv rv E F N → 0 < F 13 → 0 ≤ i → i + j = n → N 368 + j ≤ 9999 → bq = nwC j m (iv 45 4) → (∀ (sh' : aSh) (iv' lw' : aF) (rv' : aP), Sim c (m + bq) sh' iv' rv' (frE j E F N) (frG j F) (frN E F j N) → R (some (aI (N 368 + j))) sh' iv' lw' rv') → wp (d + 13) mX11_frames 56 [some (aR 0), some (aI n), some (aI i)] [] sh iv lw rv bq (429 * bq) R := by
  induction j with
  | zero =>
    intro i m bq sh iv lw E rv F N hS h13 h0 hm hf hb k
    have e0 : bq = 0 := hb
    subst e0
    have kk := k sh iv lw rv hS
    rw [show N 368 + ((0 : Nat) : Int) = N 368 by omega] at kk
    refine wp_iload_n dX11_frames_56 rfl ?_
    refine wp_iload_n dX11_frames_57 rfl ?_
    refine wp_icmp_ge (tgt := 85) dX11_frames_58 rfl (fun h58 => ?_) (fun h58 => by exfalso; omega)
    refine wp_aload_n dX11_frames_85 rfl ?_
    refine wp_getR hS.hm.2.2.2.2.1 dX11_frames_86 fX11_37 hS.hm.1 ?_
    refine wp_callV (as := []) (ls0 := [_]) (kc := 0) (ks := 0) (bc' := 0) (bs' := 0) dX11_frames_89 vX11_186 hS.n0.s11 rfl rfl (Nat.le_of_ble_eq_true rfl) (Nat.le_of_ble_eq_true rfl) (by omega) (by omega) ?_
    refine fl0 ?_
    refine x_frame (b := 0) hS.n0 hS.rel ?_
    rw [CS0id]
    refine wp_ireturn dX11_frames_92 rfl ?_
    exact kk
  | succ j ih =>
    intro i m bq sh iv lw E rv F N hS h13 h0 hm hf hb k
    rw [nwC] at hb
    obtain ⟨b1, hb1⟩ : ∃ b : Nat, b = n1 m (iv 45 4) := ⟨_, rfl⟩
    obtain ⟨b2, hb2⟩ : ∃ b : Nat, b = nwC j (m + n1 m (iv 45 4)) ((iv 45 4 + 1) % 40) := ⟨_, rfl⟩
    rw [← hb1] at hb hb2
    rw [← hb2] at hb
    have hPI : Prm E F ∧ Inv E F N := ⟨hS.prm h13, hS.inv h13⟩
    have hps := pasF_inv hPI.1 hPI.2 (by have := hS.n8; omega) hS.n9
    refine wp_iload_n dX11_frames_56 rfl ?_
    refine wp_iload_n dX11_frames_57 rfl ?_
    refine wp_icmp_ge (tgt := 85) dX11_frames_58 rfl (fun h58 => by exfalso; omega) (fun h58 => ?_)
    refine wp_aload_n dX11_frames_61 rfl ?_
    refine wp_getR hS.hm.2.2.2.2.2.2.2.1 dX11_frames_62 fX11_62 hS.hm.1 ?_
    refine wp_aload_n dX11_frames_65 rfl ?_
    refine wp_getR hS.hm.2.2.2.2.1 dX11_frames_66 fX11_37 hS.hm.1 ?_
    refine wp_getR hS.n0.r11w dX11_frames_69 fX11_189 hS.n0.s11 ?_
    refine wp_callV (as := [_]) (ls0 := [_, _]) (kc := b1) (ks := (429 * b1)) (bc' := b2) (bs' := (429 * b2)) dX11_frames_72 vX11_192 hS.ps.1 rfl rfl (Nat.le_of_ble_eq_true rfl) (Nat.le_of_ble_eq_true rfl) (by omega) (by omega) ?_
    refine y_keep hb1 hS h13 (fun sh iv lw rv hS hKS hlw ha => ?_)
    replace h13 : 0 < kpG F 13 := by unfold kpG; rw [up_n (by omega)]; exact h13
    refine wp_aload_n dX11_frames_75 rfl ?_
    refine wp_callV (as := []) (ls0 := [_]) (kc := 0) (ks := 0) (bc' := b2) (bs' := (429 * b2)) dX11_frames_76 vX11_196 hS.hm.1 rfl rfl (Nat.le_of_ble_eq_true rfl) (Nat.le_of_ble_eq_true rfl) (by omega) (by omega) ?_
    refine y_goOne hS hKS h13 (by omega) (fun iv2 hS2 ha2 => ?_)
    rw [pasF_q kp_q] at hS2
    rw [ha] at ha2
    refine wp_iinc (ls' := [_, _, _]) dX11_frames_79 (by decide) rfl rfl ⟨by omega, by omega⟩ rfl ?_
    refine wp_goto (tgt := 56) dX11_frames_82 rfl ?_
    subst hb
    refine ih _ (m + b1) b2 _ _ _ _ _ _ _ hS2 h13 (by omega) (by omega) (by rw [hps.2.1]; omega) (by rw [ha2]; exact hb2) (fun sh' iv' lw' rv' hS3 => ?_)
    rw [frN_q kp_q, Nat.add_assoc] at hS3
    have kk := k sh' iv' lw' rv' hS3
    rw [hps.2.1, show N 368 + 1 + (j : Int) = N 368 + ((j + 1 : Nat) : Int) by omega]
    exact kk
theorem y_frames {n : Int} {bq : Nat} (hb0 : bq = if frR F N n = -1 then nwC n.toNat m (iv 45 4) else 0) (hc : c + 1 ≤ 600) (hS : Sim c m sh iv rv E F N) (k0 : ¬ frR F N n = -1 → ∀ iv' : aF, Sim (c + 1) m sh iv' rv (rfF E (frR F N n)) F N → R (some (aI (-1))) sh iv' lw rv) (k1 : frR F N n = -1 → ∀ (sh' : aSh) (iv' lw' : aF) (rv' : aP), Sim (c + 1) (m + bq) sh' iv' rv' (frE n.toNat E F N) (frG n.toNat F) (frN E F n.toNat N) → R (some (aI (N 368 + n))) sh' iv' lw' rv') : wp (d + 13) mX11_frames 0 [some (aR 0), some (aI n), none] [] sh iv lw rv bq (429 * bq) R := by
  have hf13 := hS.f13
  have hn8 := hS.n8
  refine wp_aload_n dX11_frames_0 rfl ?_
  refine wp_getR hS.hm.2.2.1 dX11_frames_1 fX11_19 hS.hm.1 ?_
  refine wp_callV (as := []) (ls0 := [_]) (kc := 0) (ks := 0) (bc' := bq) (bs' := (429 * bq)) dX11_frames_4 vX11_123 hS.pls.1 rfl rfl (Nat.le_of_ble_eq_true rfl) (Nat.le_of_ble_eq_true rfl) (by omega) (by omega) ?_
  refine n_isTold hS.plan (fun h4 => ?_) (fun h4 => ?_)
  · refine wp_if_ne (tgt := 16) dX11_frames_7 rfl (fun _ => ?_) (fun q => absurd q (by decide))
    refine wp_iload_n dX11_frames_16 rfl ?_
    refine wp_iconst dX11_frames_17 ?_
    refine wp_icmp_lt (tgt := 27) dX11_frames_18 rfl (fun h18 => ?_) (fun h18 => ?_)
    · refine wp_aload_n dX11_frames_27 rfl ?_
      refine wp_iconst dX11_frames_28 ?_
      refine wp_callV (as := [_]) (ls0 := [_, _]) (kc := 0) (ks := 0) (bc' := bq) (bs' := (429 * bq)) dX11_frames_29 vX11_183 hS.hm.1 rfl rfl (Nat.le_of_ble_eq_true rfl) (Nat.le_of_ble_eq_true rfl) (by omega) (by omega) ?_
      refine y_refuse (y := 1) hS (by omega) hc (fun iv hS => ?_)
      refine wp_ireturn dX11_frames_32 rfl ?_
      have er : frR F N n = 1 := by unfold frR; rw [if_neg (by omega), if_pos (by omega)]
      rw [er] at k0
      exact k0 (by decide) _ hS
    · refine wp_iload_n dX11_frames_21 rfl ?_
      refine wp_bipush dX11_frames_22 ?_
      refine wp_icmp_le (tgt := 33) dX11_frames_24 rfl (fun h24 => ?_) (fun h24 => ?_)
      · refine wp_aload_n dX11_frames_33 rfl ?_
        refine wp_getR hS.hm.2.2.2.2.1 dX11_frames_34 fX11_37 hS.hm.1 ?_
        refine wp_callV (as := []) (ls0 := [_]) (kc := 0) (ks := 0) (bc' := bq) (bs' := (429 * bq)) dX11_frames_37 vX11_186 hS.n0.s11 rfl rfl (Nat.le_of_ble_eq_true rfl) (Nat.le_of_ble_eq_true rfl) (by omega) (by omega) ?_
        refine fl0 ?_
        refine x_frame (b := 0) hS.n0 hS.rel ?_
        rw [CS0id]
        refine wp_iload_n dX11_frames_40 rfl ?_
        refine wp_iadd dX11_frames_41 ⟨by omega, by omega⟩ ?_
        refine wp_sipush dX11_frames_42 ?_
        refine wp_icmp_le (tgt := 54) dX11_frames_45 rfl (fun h45 => ?_) (fun h45 => ?_)
        · refine wp_iconst dX11_frames_54 ?_
          refine wp_istore_n (ls' := [_, _, _]) dX11_frames_55 (by decide) rfl rfl ?_
          have er : frR F N n = -1 := by unfold frR; rw [if_neg (by omega), if_neg (by omega), if_neg (by omega)]
          rw [if_pos er] at hb0
          exact l_framesC (by omega) n.toNat 0 m bq _ _ _ _ _ _ _ hS (by omega) (by omega) (by omega) (by omega) hb0 (fun sh' iv' lw' rv' hS3 => by
            have kk := k1 er sh' iv' lw' rv' (hS3.mono (by omega) hc)
            rw [show N 368 + ((n.toNat : Nat) : Int) = N 368 + n by omega]; exact kk)
        · refine wp_aload_n dX11_frames_48 rfl ?_
          refine wp_iconst dX11_frames_49 ?_
          refine wp_callV (as := [_]) (ls0 := [_, _]) (kc := 0) (ks := 0) (bc' := bq) (bs' := (429 * bq)) dX11_frames_50 vX11_183 hS.hm.1 rfl rfl (Nat.le_of_ble_eq_true rfl) (Nat.le_of_ble_eq_true rfl) (by omega) (by omega) ?_
          refine y_refuse (y := 4) hS (by omega) hc (fun iv hS => ?_)
          refine wp_ireturn dX11_frames_53 rfl ?_
          have er : frR F N n = 4 := by unfold frR; rw [if_neg (by omega), if_neg (by omega), if_pos (by omega)]
          rw [er] at k0
          exact k0 (by decide) _ hS
      · refine wp_aload_n dX11_frames_27 rfl ?_
        refine wp_iconst dX11_frames_28 ?_
        refine wp_callV (as := [_]) (ls0 := [_, _]) (kc := 0) (ks := 0) (bc' := bq) (bs' := (429 * bq)) dX11_frames_29 vX11_183 hS.hm.1 rfl rfl (Nat.le_of_ble_eq_true rfl) (Nat.le_of_ble_eq_true rfl) (by omega) (by omega) ?_
        refine y_refuse (y := 1) hS (by omega) hc (fun iv hS => ?_)
        refine wp_ireturn dX11_frames_32 rfl ?_
        have er : frR F N n = 1 := by unfold frR; rw [if_neg (by omega), if_pos (by omega)]
        rw [er] at k0
        exact k0 (by decide) _ hS
  · refine wp_if_ne (tgt := 16) dX11_frames_7 rfl (fun q => absurd q (by decide)) (fun _ => ?_)
    refine wp_aload_n dX11_frames_10 rfl ?_
    refine wp_iconst dX11_frames_11 ?_
    refine wp_callV (as := [_]) (ls0 := [_, _]) (kc := 0) (ks := 0) (bc' := bq) (bs' := (429 * bq)) dX11_frames_12 vX11_183 hS.hm.1 rfl rfl (Nat.le_of_ble_eq_true rfl) (Nat.le_of_ble_eq_true rfl) (by omega) (by omega) ?_
    refine y_refuse (y := 0) hS (by omega) hc (fun iv hS => ?_)
    refine wp_ireturn dX11_frames_15 rfl ?_
    have er : frR F N n = 0 := by unfold frR; rw [if_pos (by omega)]
    rw [er] at k0
    exact k0 (by decide) _ hS
theorem y_drawBelow {j : Int} (hj : 0 < j ∧ j ≤ 100) (hS : Sim c m sh iv rv E F N) (k : R (some (aI (drv (lw 0 10) j))) sh iv (uI lw 0 10 (drw (lw 0 10))) rv) : wp (d) mX11_drawBelow 0 [some (aR 0), some (aI j)] [] sh iv lw rv 0 0 R := by
  have hr := drv_r (x := lw 0 10) hj.1
  have hd0 : 0 ≤ drw (lw 0 10) % 18446744073709551616 / 8589934592 := by omega
  unfold drv at hr k
  refine wp_aload_n dX11_drawBelow_0 rfl ?_
  refine wp_aload_n dX11_drawBelow_1 rfl ?_
  refine wp_getL dX11_drawBelow_2 fX11_232 hS.hm.1 ?_
  refine wp_ldc2 (v := 6364136223846793005) dX11_drawBelow_5 zX11_329 rfl ⟨by decide, by decide⟩ ?_
  refine wp_lmul dX11_drawBelow_8 ?_
  refine wp_ldc2 (v := 1442695040888963407) dX11_drawBelow_9 zX11_331 rfl ⟨by decide, by decide⟩ ?_
  refine wp_ladd dX11_drawBelow_12 ?_
  refine wp_putL dX11_drawBelow_13 fX11_232 hS.hm.1 ?_
  rw [show wL (wL (lw 0 10 * 6364136223846793005) + 1442695040888963407) = drw (lw 0 10) from rfl]
  refine wp_iload_n dX11_drawBelow_16 rfl ?_
  refine wp_if_le (tgt := 34) dX11_drawBelow_17 rfl (fun h17 => by exfalso; omega) (fun h17 => ?_)
  refine wp_aload_n dX11_drawBelow_20 rfl ?_
  refine wp_getL dX11_drawBelow_21 fX11_232 hS.hm.1 ?_
  rw [uI_ss]
  refine wp_bipush dX11_drawBelow_24 ?_
  refine wp_lushr33 dX11_drawBelow_26 ?_
  refine wp_iload_n dX11_drawBelow_27 rfl ?_
  refine wp_i2l dX11_drawBelow_28 ?_
  refine wp_lrem dX11_drawBelow_29 hd0 hj.1 ?_
  refine wp_l2i dX11_drawBelow_30 ⟨by omega, by omega⟩ ?_
  refine wp_goto (tgt := 35) dX11_drawBelow_31 rfl ?_
  refine wp_ireturn dX11_drawBelow_35 rfl ?_
  exact k
theorem l_draw2 {y : Int} (hS : Sim c m sh iv rv E F N) (h13 : 0 < F 13) (hy : lw 0 10 = y) (v : Option aV) (k1 : drv y 20 < 1 → ∀ iv' lw' : aF, Sim c m sh iv' rv E F (jmN N (drv (drw y) 16)) → lw' 0 10 = drw (drw y) → iv' 45 = iv 45 → iv' 48 = iv 48 → R none sh iv' lw' rv) (k0 : ¬ drv y 20 < 1 → ∀ lw' : aF, lw' 0 10 = drw y → R none sh iv lw' rv) : wp (d + 2) mX11_drawWhatIsAhead 51 [some (aR 0), v] [] sh iv lw rv 0 0 R := by
  have r2 := drv_r (x := drw y) (m := 16) (by decide)
  refine wp_aload_n dX11_drawWhatIsAhead_51 rfl ?_
  refine wp_bipush dX11_drawWhatIsAhead_52 ?_
  refine wp_callV (as := [_]) (ls0 := [_, _]) (kc := 0) (ks := 0) (bc' := 0) (bs' := 0) dX11_drawWhatIsAhead_54 vX11_326 hS.hm.1 rfl rfl (Nat.le_of_ble_eq_true rfl) (Nat.le_of_ble_eq_true rfl) (by omega) (by omega) ?_
  refine y_drawBelow (by omega) hS ?_
  rw [hy]
  refine wp_iconst dX11_drawWhatIsAhead_57 ?_
  refine wp_icmp_ge (tgt := 74) dX11_drawWhatIsAhead_58 rfl (fun h58 => ?_) (fun h58 => ?_)
  · refine wp_return dX11_drawWhatIsAhead_74 rfl ?_
    first | exact kk | exact k0 (by omega) _ uI_ss
  · refine wp_aload_n dX11_drawWhatIsAhead_61 rfl ?_
    refine wp_getR hS.hm.2.2.2.2.1 dX11_drawWhatIsAhead_62 fX11_37 hS.hm.1 ?_
    refine wp_aload_n dX11_drawWhatIsAhead_65 rfl ?_
    refine wp_bipush dX11_drawWhatIsAhead_66 ?_
    refine wp_callV (as := [_]) (ls0 := [_, _]) (kc := 0) (ks := 0) (bc' := 0) (bs' := 0) dX11_drawWhatIsAhead_68 vX11_326 hS.hm.1 rfl rfl (Nat.le_of_ble_eq_true rfl) (Nat.le_of_ble_eq_true rfl) (by omega) (by omega) ?_
    refine y_drawBelow (by omega) hS ?_
    rw [uI_ss, uI_uu]
    refine wp_callV (as := [_]) (ls0 := [_, _]) (kc := 0) (ks := 0) (bc' := 0) (bs' := 0) dX11_drawWhatIsAhead_71 vX11_220 hS.n0.s11 rfl rfl (Nat.le_of_ble_eq_true rfl) (Nat.le_of_ble_eq_true rfl) (by omega) (by omega) ?_
    refine fl0 ?_
    refine x_turnJam (b := 0) hS.n0 hS.rel (hS.inv h13).2.2.1.1 r2 (fun w1 hw1 => ?_)
    have hS2 := Sim.w0 (N' := jmN N (drv (drw y) 16)) (D := iv 38) (O := iv 39) (T := iv 40) (S := iv 43) (C := iv 44) hS hS.z0 hw1 (fun _ => (hS.inv h13).jam (hS.prm h13) r2) (fun j hj => by unfold jmN; rw [up_n (by omega)])
    have kk := k1 (by omega) _ (uI lw 0 10 (drw (drw y))) hS2 uI_ss (CSn (by omega)) (CSn (by omega))
    refine wp_return dX11_drawWhatIsAhead_74 rfl ?_
    first | exact kk | exact k0 (by omega) _ uI_ss
theorem y_drawW {x : Int} (hS : Sim c m sh iv rv E F N) (h13 : 0 < F 13) (hx : lw 0 10 = x) (k : ∀ iv' lw' : aF, Sim c m sh iv' rv E F (dfN F N x) → lw' 0 10 = dfx F x → iv' 45 = iv 45 → iv' 48 = iv 48 → R none sh iv' lw' rv) : wp (d + 2) mX11_drawWhatIsAhead 0 [some (aR 0), none] [] sh iv lw rv 0 0 R := by
  have hf13 := hS.f13
  have r1 := drv_r (x := drw x) (m := F 13) h13
  have hp : 0 ≤ drv (drw x) (F 13) ∧ drv (drw x) (F 13) < 6 := by omega
  unfold dfN dfx df1 df2 at k
  refine wp_aload_n dX11_drawWhatIsAhead_0 rfl ?_
  refine wp_bipush dX11_drawWhatIsAhead_1 ?_
  refine wp_callV (as := [_]) (ls0 := [_, _]) (kc := 0) (ks := 0) (bc' := 0) (bs' := 0) dX11_drawWhatIsAhead_3 vX11_326 hS.hm.1 rfl rfl (Nat.le_of_ble_eq_true rfl) (Nat.le_of_ble_eq_true rfl) (by omega) (by omega) ?_
  refine y_drawBelow (by omega) hS ?_
  rw [hx]
  refine wp_aload_n dX11_drawWhatIsAhead_6 rfl ?_
  refine wp_getI dX11_drawWhatIsAhead_7 fX11_77 hS.hm.1 ?_
  rw [hS.los.1]
  refine wp_icmp_ge (tgt := 51) dX11_drawWhatIsAhead_10 rfl (fun h10 => ?_) (fun h10 => ?_)
  · rw [if_neg (show ¬ drv x 10 < F 17 by omega), if_neg (show ¬ drv x 10 < F 17 by omega)] at k
    first
    | exact l_draw2 hS2 h13 uI_ss _ (fun q iv' lw' a b d f => by rw [if_pos q, if_pos q] at k; exact k iv' lw' a b (by rw [d, uA_n (by omega)]) (by rw [f, uA_n (by omega)])) (fun q lw' b => by rw [if_neg q, if_neg q] at k; exact k _ lw' hS2 b (uA_n (by omega)) (uA_n (by omega)))
    | exact l_draw2 hS h13 uI_ss _ (fun q iv' lw' a b d f => by rw [if_pos q, if_pos q] at k; exact k iv' lw' a b d f) (fun q lw' b => by rw [if_neg q, if_neg q] at k; exact k _ lw' hS b rfl rfl)
  · rw [if_pos (show drv x 10 < F 17 by omega), if_pos (show drv x 10 < F 17 by omega)] at k
    refine wp_aload_n dX11_drawWhatIsAhead_13 rfl ?_
    refine wp_aload_n dX11_drawWhatIsAhead_14 rfl ?_
    refine wp_getR hS.hm.2.2.1 dX11_drawWhatIsAhead_15 fX11_19 hS.hm.1 ?_
    refine wp_callV (as := []) (ls0 := [_]) (kc := 0) (ks := 0) (bc' := 0) (bs' := 0) dX11_drawWhatIsAhead_18 vX11_114 hS.pls.1 rfl rfl (Nat.le_of_ble_eq_true rfl) (Nat.le_of_ble_eq_true rfl) (by omega) (by omega) ?_
    refine n_pairs hS.plan ?_
    refine wp_callV (as := [_]) (ls0 := [_, _]) (kc := 0) (ks := 0) (bc' := 0) (bs' := 0) dX11_drawWhatIsAhead_21 vX11_326 hS.hm.1 rfl rfl (Nat.le_of_ble_eq_true rfl) (Nat.le_of_ble_eq_true rfl) (by omega) (by omega) ?_
    refine y_drawBelow (by omega) hS ?_
    rw [uI_ss, uI_uu]
    refine wp_istore_n (ls' := [_, _]) dX11_drawWhatIsAhead_24 (by decide) rfl rfl ?_
    refine wp_aload_n dX11_drawWhatIsAhead_25 rfl ?_
    refine wp_getR hS.hm.2.2.1 dX11_drawWhatIsAhead_26 fX11_19 hS.hm.1 ?_
    refine wp_iload_n dX11_drawWhatIsAhead_29 rfl ?_
    refine wp_callV (as := [_]) (ls0 := [_, _]) (kc := 0) (ks := 0) (bc' := 0) (bs' := 0) dX11_drawWhatIsAhead_30 vX11_133 hS.pls.1 rfl rfl (Nat.le_of_ble_eq_true rfl) (Nat.le_of_ble_eq_true rfl) (by omega) (by omega) ?_
    refine n_hasPair hS.plan (fun _ => ?_) (fun z => absurd r1 z)
    refine wp_if_eq (tgt := 51) dX11_drawWhatIsAhead_33 rfl (fun q => absurd q (by decide)) (fun _ => ?_)
    refine wp_aload_n dX11_drawWhatIsAhead_36 rfl ?_
    refine wp_getR hS.hm.2.2.2.2.1 dX11_drawWhatIsAhead_37 fX11_37 hS.hm.1 ?_
    refine wp_getR hS.n0.r11l dX11_drawWhatIsAhead_40 fX11_143 hS.n0.s11 ?_
    refine wp_iload_n dX11_drawWhatIsAhead_43 rfl ?_
    refine wp_aaldL dX11_drawWhatIsAhead_44 hS.n0.s13 (by omega) (by omega) (hS.n0.r13 hp) ?_
    refine wp_getR (hS.n0.lk0 hp).rM dX11_drawWhatIsAhead_45 fX11_170 (hS.n0.lk0 hp).1 ?_
    refine wp_callV (as := []) (ls0 := [_]) (kc := 0) (ks := 0) (bc' := 0) (bs' := 0) dX11_drawWhatIsAhead_48 vX11_214 (hS.n0.lk0 hp).sM.1 rfl rfl (Nat.le_of_ble_eq_true rfl) (Nat.le_of_ble_eq_true rfl) (by omega) (by omega) ?_
    refine fl12 ?_
    refine t_drop (hS.n0.lk0 hp).sM hS.rel (fun w1 hw1 => ?_)
    have hS2 := Sim.w12 hS hw1 (fun _ => (hS.inv h13).drop (hS.prm h13) hp) (fun j hj => up_n (by omega))
    first
    | exact l_draw2 hS2 h13 uI_ss _ (fun q iv' lw' a b d f => by rw [if_pos q, if_pos q] at k; exact k iv' lw' a b (by rw [d, uA_n (by omega)]) (by rw [f, uA_n (by omega)])) (fun q lw' b => by rw [if_neg q, if_neg q] at k; exact k _ lw' hS2 b (uA_n (by omega)) (uA_n (by omega)))
    | exact l_draw2 hS h13 uI_ss _ (fun q iv' lw' a b d f => by rw [if_pos q, if_pos q] at k; exact k iv' lw' a b d f) (fun q lw' b => by rw [if_neg q, if_neg q] at k; exact k _ lw' hS b rfl rfl)
theorem l_yearsC {n sd1 : Int} (hn : n ≤ 40) (j : Nat) : ∀ (i x : Int) (m bq : Nat) (sh : aSh) (iv lw E : aF) (rv : aP) (F N : Int → Int), Sim c m sh iv rv E F N → 0 < F 13 → lw 0 10 = x → 0 ≤ i → i + j = n → N 368 + j ≤ 9999 → bq = nwC j m (iv 45 4) → (∀ (sh' : aSh) (iv' lw' : aF) (rv' : aP), Sim c (m + bq) sh' iv' rv' (yrE j E F N x) (frG j F) (yrN E F j N x) → R (some (aI (N 368 + j))) sh' iv' lw' rv') → wp (d + 13) mX11_years 46 [some (aR 0), some (aI n), some (aL sd1), none, some (aI i)] [] sh iv lw rv bq (429 * bq) R := by
  induction j with
  | zero =>
    intro i x m bq sh iv lw E rv F N hS h13 hx h0 hm hf hb k
    have e0 : bq = 0 := hb
    subst e0
    have kk := k sh iv lw rv hS
    rw [show N 368 + ((0 : Nat) : Int) = N 368 by omega] at kk
    refine wp_iload dX11_years_46 rfl ?_
    refine wp_iload_n dX11_years_48 rfl ?_
    refine wp_icmp_ge (tgt := 80) dX11_years_49 rfl (fun h49 => ?_) (fun h49 => by exfalso; omega)
    refine wp_aload_n dX11_years_80 rfl ?_
    refine wp_getR hS.hm.2.2.2.2.1 dX11_years_81 fX11_37 hS.hm.1 ?_
    refine wp_callV (as := []) (ls0 := [_]) (kc := 0) (ks := 0) (bc' := 0) (bs' := 0) dX11_years_84 vX11_186 hS.n0.s11 rfl rfl (Nat.le_of_ble_eq_true rfl) (Nat.le_of_ble_eq_true rfl) (by omega) (by omega) ?_
    refine fl0 ?_
    refine x_frame (b := 0) hS.n0 hS.rel ?_
    rw [CS0id]
    refine wp_ireturn dX11_years_87 rfl ?_
    exact kk
  | succ j ih =>
    intro i x m bq sh iv lw E rv F N hS h13 hx h0 hm hf hb k
    rw [nwC] at hb
    obtain ⟨b1, hb1⟩ : ∃ b : Nat, b = n1 m (iv 45 4) := ⟨_, rfl⟩
    obtain ⟨b2, hb2⟩ : ∃ b : Nat, b = nwC j (m + n1 m (iv 45 4)) ((iv 45 4 + 1) % 40) := ⟨_, rfl⟩
    rw [← hb1] at hb hb2
    rw [← hb2] at hb
    have hPI : Prm E F ∧ Inv E F N := ⟨hS.prm h13, hS.inv h13⟩
    have hdf := dfN_ok (x := x) hPI.1 hPI.2 h13
    have hps := pasF_inv hPI.1 hdf.1 (by have := hS.n8; omega) (by rw [hdf.2.2]; exact hS.n9)
    refine wp_iload dX11_years_46 rfl ?_
    refine wp_iload_n dX11_years_48 rfl ?_
    refine wp_icmp_ge (tgt := 80) dX11_years_49 rfl (fun h49 => by exfalso; omega) (fun h49 => ?_)
    refine wp_aload_n dX11_years_52 rfl ?_
    refine wp_getR hS.hm.2.2.2.2.2.2.2.1 dX11_years_53 fX11_62 hS.hm.1 ?_
    refine wp_aload_n dX11_years_56 rfl ?_
    refine wp_getR hS.hm.2.2.2.2.1 dX11_years_57 fX11_37 hS.hm.1 ?_
    refine wp_getR hS.n0.r11w dX11_years_60 fX11_189 hS.n0.s11 ?_
    refine wp_callV (as := [_]) (ls0 := [_, _]) (kc := b1) (ks := (429 * b1)) (bc' := b2) (bs' := (429 * b2)) dX11_years_63 vX11_192 hS.ps.1 rfl rfl (Nat.le_of_ble_eq_true rfl) (Nat.le_of_ble_eq_true rfl) (by omega) (by omega) ?_
    refine y_keep hb1 hS h13 (fun sh iv lw rv hS hKS hlw ha => ?_)
    replace h13 : 0 < kpG F 13 := by unfold kpG; rw [up_n (by omega)]; exact h13
    refine wp_aload_n dX11_years_66 rfl ?_
    refine wp_callV (as := []) (ls0 := [_, _]) (kc := 0) (ks := 0) (bc' := b2) (bs' := (429 * b2)) dX11_years_67 vX11_236 hS.hm.1 rfl rfl (Nat.le_of_ble_eq_true rfl) (Nat.le_of_ble_eq_true rfl) (by omega) (by omega) ?_
    refine y_drawW hS h13 (show lw 0 10 = x by rw [hlw]; exact hx) (fun iv2 lw2 hS2 hx2 q45 q48 => ?_)
    rw [dfx_k.2] at hS2
    rw [(dfx_k (N := N)).1] at hx2
    have hKS2 : KpS iv2 (kpG F) := by unfold KpS at *; rw [q45, q48]; exact hKS
    replace hS := hS2
    refine wp_aload_n dX11_years_70 rfl ?_
    refine wp_callV (as := []) (ls0 := [_]) (kc := 0) (ks := 0) (bc' := b2) (bs' := (429 * b2)) dX11_years_71 vX11_196 hS.hm.1 rfl rfl (Nat.le_of_ble_eq_true rfl) (Nat.le_of_ble_eq_true rfl) (by omega) (by omega) ?_
    refine y_goOne hS hKS2 h13 (by rw [hdf.2.1]; omega) (fun iv3 hS3 ha2 => ?_)
    rw [pasF_q kp_q] at hS3
    rw [q45, ha] at ha2
    refine wp_iinc (ls' := [_, _, _, _, _]) dX11_years_74 (by decide) rfl rfl ⟨by omega, by omega⟩ rfl ?_
    refine wp_goto (tgt := 46) dX11_years_77 rfl ?_
    subst hb
    refine ih _ (dfx F x) (m + b1) b2 _ _ _ _ _ _ _ hS3 h13 hx2 (by omega) (by omega) (by rw [hps.2.1, hdf.2.1]; omega) (by rw [ha2]; exact hb2) (fun sh' iv' lw' rv' hS4 => ?_)
    rw [yrN_q kp_q (kpG_f 17 (by omega)), Nat.add_assoc] at hS4
    have kk := k sh' iv' lw' rv' hS4
    rw [hps.2.1, hdf.2.1, show N 368 + 1 + (j : Int) = N 368 + ((j + 1 : Nat) : Int) by omega]
    exact kk
theorem y_years {n sd1 : Int} {bq : Nat} (hy : ¬ yrR F N n → bq = nwC n.toNat m (iv 45 4)) (hS : Sim c m sh iv rv E F N) (k0 : yrR F N n → R (some (aI (-1))) sh iv lw rv) (k1 : ¬ yrR F N n → ∀ (sh' : aSh) (iv' lw' : aF) (rv' : aP), Sim c (m + bq) sh' iv' rv' (yrE n.toNat E F N sd1) (frG n.toNat F) (yrN E F n.toNat N sd1) → R (some (aI (N 368 + n))) sh' iv' lw' rv') : wp (d + 13) mX11_years 0 [some (aR 0), some (aI n), some (aL sd1), none, none] [] sh iv lw rv bq (429 * bq) R := by
  have hf13 := hS.f13
  have hn8 := hS.n8
  refine wp_aload_n dX11_years_0 rfl ?_
  refine wp_getR hS.hm.2.2.1 dX11_years_1 fX11_19 hS.hm.1 ?_
  refine wp_callV (as := []) (ls0 := [_]) (kc := 0) (ks := 0) (bc' := bq) (bs' := (429 * bq)) dX11_years_4 vX11_123 hS.pls.1 rfl rfl (Nat.le_of_ble_eq_true rfl) (Nat.le_of_ble_eq_true rfl) (by omega) (by omega) ?_
  refine n_isTold hS.plan (fun h4 => ?_) (fun h4 => ?_)
  · refine wp_if_eq (tgt := 36) dX11_years_7 rfl (fun q => absurd q (by decide)) (fun _ => ?_)
    refine wp_iload_n dX11_years_10 rfl ?_
    refine wp_iconst dX11_years_11 ?_
    refine wp_icmp_lt (tgt := 36) dX11_years_12 rfl (fun h12 => ?_) (fun h12 => ?_)
    · refine wp_iconst dX11_years_36 ?_
      refine wp_ireturn dX11_years_37 rfl ?_
      exact k0 (by unfold yrR; omega)
    · refine wp_iload_n dX11_years_15 rfl ?_
      refine wp_bipush dX11_years_16 ?_
      refine wp_icmp_gt (tgt := 36) dX11_years_18 rfl (fun h18 => ?_) (fun h18 => ?_)
      · refine wp_iconst dX11_years_36 ?_
        refine wp_ireturn dX11_years_37 rfl ?_
        exact k0 (by unfold yrR; omega)
      · refine wp_aload_n dX11_years_21 rfl ?_
        refine wp_getR hS.hm.2.2.2.2.1 dX11_years_22 fX11_37 hS.hm.1 ?_
        refine wp_callV (as := []) (ls0 := [_]) (kc := 0) (ks := 0) (bc' := bq) (bs' := (429 * bq)) dX11_years_25 vX11_186 hS.n0.s11 rfl rfl (Nat.le_of_ble_eq_true rfl) (Nat.le_of_ble_eq_true rfl) (by omega) (by omega) ?_
        refine fl0 ?_
        refine x_frame (b := 0) hS.n0 hS.rel ?_
        rw [CS0id]
        refine wp_iload_n dX11_years_28 rfl ?_
        refine wp_iadd dX11_years_29 ⟨by omega, by omega⟩ ?_
        refine wp_sipush dX11_years_30 ?_
        refine wp_icmp_le (tgt := 38) dX11_years_33 rfl (fun h33 => ?_) (fun h33 => ?_)
        · refine wp_aload_n dX11_years_38 rfl ?_
          refine wp_lload_n dX11_years_39 rfl ?_
          refine wp_putL dX11_years_40 fX11_232 hS.hm.1 ?_
          refine wp_iconst dX11_years_43 ?_
          refine wp_istore (ls' := [_, _, _, _, _]) dX11_years_44 (by decide) rfl rfl ?_
          have er : ¬ yrR F N n := by unfold yrR; omega
          exact l_yearsC (by omega) n.toNat 0 sd1 m bq _ _ _ _ _ _ _ hS (by omega) uI_ss (by omega) (by omega) (by omega) (hy er) (fun sh' iv' lw' rv' hS3 => by
            have kk := k1 er sh' iv' lw' rv' hS3
            rw [show N 368 + ((n.toNat : Nat) : Int) = N 368 + n by omega]; exact kk)
        · refine wp_iconst dX11_years_36 ?_
          refine wp_ireturn dX11_years_37 rfl ?_
          exact k0 (by unfold yrR; omega)
  · refine wp_if_eq (tgt := 36) dX11_years_7 rfl (fun _ => ?_) (fun q => absurd q (by decide))
    refine wp_iconst dX11_years_36 ?_
    refine wp_ireturn dX11_years_37 rfl ?_
    exact k0 (by unfold yrR; omega)
end C34
