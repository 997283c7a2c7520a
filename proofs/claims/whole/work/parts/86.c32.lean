/-- rows of acts made by one keeping -/
def n1 (m : Nat) (a : Int) : Nat := if a = m then 1 else 0
section C32a
variable {sh : aSh} {iv E : aF} {rv : aP} {D O T S K C w f g F N N' : Int → Int} {c : Int} {m : Nat}
theorem PW_o {r : Nat} (hr : 88 ≤ r) : ∀ i : Nat, ¬ i = 45 → ¬ i = 48 → ¬ i = r → PW (uA iv r g) f (iv 46) T (iv 12) (iv 49) (iv 50) i = iv i := by
  intro i h1 h2 h3
  by_cases e1 : i = 46
  · rw [e1, PW46]
  · by_cases e2 : i = 12
    · rw [e2, PW12]
    · by_cases e3 : i = 49
      · rw [e3, PW49]
      · by_cases e4 : i = 50
        · rw [e4, PW50]
        · rw [PWn ⟨h1, e1, h2, e2, e3, e4⟩, uA_n h3]
theorem Sim.w0 (h : Sim c m sh iv rv E F N) (hz : ZK K) (hr : Rel w N') (hI : 0 < F 13 → Inv E F N') (hN : ∀ j : Int, 368 ≤ j → N' j = N j) : Sim c m sh (uA (CD iv 0 D O T S K C) (12 + 42 * 0) w) rv E F N' :=
  h.now (fun i a b d f => CSn (by unfold Scr at a; omega)) (by rw [show (42 : Nat) = 42 + 42 * 0 from rfl, CS42 (by omega)]; exact hz) (by rw [CSn (by omega)]; exact h.z1) (by rw [show (12 : Nat) = 12 + 42 * 0 from rfl, CSw]; exact hr) hI hN
theorem Sim.w12 (h : Sim c m sh iv rv E F N) (hr : Rel w N') (hI : 0 < F 13 → Inv E F N') (hN : ∀ j : Int, 368 ≤ j → N' j = N j) : Sim c m sh (uA iv (12 + 42 * 0) w) rv E F N' :=
  h.now (fun i a b d f => uA_n b) (by rw [uA_n (by omega)]; exact h.z0) (by rw [uA_n (by omega)]; exact h.z1) (by rw [show (12 : Nat) = 12 + 42 * 0 from rfl, uA_s]; exact hr) hI hN
end C32a
section C32
variable {d m : Nat} {sh : aSh} {iv lw E : aF} {rv : aP} {F N : Int → Int} {R : aPost} {c : Int}
theorem y_keep {bq : Nat} (hb : bq = n1 m (iv 45 4)) (hS : Sim c m sh iv rv E F N) (h13 : 0 < F 13) (k : ∀ (sh' : aSh) (iv' lw' : aF) (rv' : aP), Sim c (m + bq) sh' iv' rv' (kpE E F N) (kpG F) N → KpS iv' (kpG F) → lw' 0 = lw 0 → iv' 45 4 = (iv 45 4 + 1) % 40 → R none sh' iv' lw' rv') : wp (d + 1) mX6_keepAct 0 [some (aR 45), some (aR 12)] [] sh iv lw rv bq (429 * bq) R := by
  have g2 := hS.psr.2.1
  have g1 := hS.psr.1
  have f25 := hS.f25
  obtain ⟨m1, m2, m3, m4⟩ := hS.made
  have e4 : ∀ (r : Nat) (gg T2 : Int → Int), PW (uA iv r gg) (up (up (iv 45) 4 ((iv 45 4 + 1) % 40)) 5 (mnI (iv 45 5 + 1) 40)) (iv 46) T2 (iv 12) (iv 49) (iv 50) 45 4 = (iv 45 4 + 1) % 40 := fun r gg T2 => by rw [PW45, up_n (by omega), up_s]
  by_cases e : iv 45 4 = m
  · have e1 : n1 m (iv 45 4) = 1 := if_pos e
    rw [e1] at hb
    subst hb
    refine flP ?_
    refine q_keepN hS.ps ⟨g2.1, g2.2.1⟩ (by omega) (by rw [e]; exact m4 m (Nat.le_refl _) (by omega)) (by omega) ?_
    have hl : sh.length = 88 + (iv 45 4).toNat := by omega
    have hlx : ∀ r : Nat, r = 88 + (iv 45 4).toNat → 88 ≤ r := fun r hr => by omega
    have hM := hS.made.ext (by omega)
    rw [← e] at hM
    have hs := hS.keep (sh' := sh ++ [(0, 429)]) (iv' := PW (uA iv sh.length (cpyI (iv 12) (fun _ => 0) 0 0 429)) (up (up (iv 45) 4 ((iv 45 4 + 1) % 40)) 5 (mnI (iv 45 5 + 1) 40)) (iv 46) (up (iv 48) (iv 45 4) (iv 45 1)) (iv 12) (iv 49) (iv 50)) (m' := m + 1) h13 ((hS.1.1.new (by omega)).cg (fun i hi => PW_o (by omega) i (by omega) (by omega) (by omega))) hM (by omega) (by omega) (fun i a b d => PW_o (by omega) i a b (by omega)) PW45 PW48 (by rw [PWn (by omega), ← hl, uA_s]; exact hS.rel.cy)
    exact k _ _ _ _ hs.1 hs.2 (uA_n (by omega)) (e4 _ _ _)
  · have e1 : n1 m (iv 45 4) = 0 := if_neg e
    rw [e1] at hb
    subst hb
    have hm := m3 (iv 45 4).toNat (by omega)
    rw [show (((iv 45 4).toNat : Nat) : Int) = iv 45 4 by omega] at hm
    refine flP ?_
    refine q_keepO hS.ps ⟨g2.1, g2.2.1⟩ (by omega) hm.2 hm.1 (by omega) ?_
    have hs := hS.keep (sh' := sh) (rv' := rv) (iv' := PW (uA iv (88 + (iv 45 4).toNat) (cpyI (iv 12) (iv (88 + (iv 45 4).toNat)) 0 0 429)) (up (up (iv 45) 4 ((iv 45 4 + 1) % 40)) 5 (mnI (iv 45 5 + 1) 40)) (iv 46) (up (iv 48) (iv 45 4) (iv 45 1)) (iv 12) (iv 49) (iv 50)) (m' := m) h13 (hS.1.1.cg (fun i hi => PW_o (by omega) i (by omega) (by omega) (by omega))) hS.made (by omega) (by omega) (fun i a b d => PW_o (by omega) i a b d) PW45 PW48 (by rw [PWn (by omega), uA_s]; exact hS.rel.cy)
    exact k _ _ _ _ hs.1 hs.2 rfl (e4 _ _ _)
theorem y_refuse {y : Int} (hS : Sim c m sh iv rv E F N) (hy : 0 ≤ y ∧ y ≤ 4) (hc : c + 1 ≤ 600) (k : ∀ iv' : aF, Sim (c + 1) m sh iv' rv (rfF E y) F N → R (some (aI (-1))) sh iv' lw rv) : wp (d) mX11_refuse 0 [some (aR 0), some (aI y)] [] sh iv lw rv 0 0 R := by
  have h7 := hS.rfr.2 y (by omega) (by omega)
  have h71 := hS.rfr.1
  have kk := k _ (hS.rf hy hc)
  refine wp_iload_n dX11_refuse_0 rfl ?_
  refine wp_if_lt (tgt := 23) dX11_refuse_1 rfl (fun h1 => by exfalso; omega) (fun h1 => ?_)
  refine wp_iload_n dX11_refuse_4 rfl ?_
  refine wp_aload_n dX11_refuse_5 rfl ?_
  refine wp_getR hS.hm.2.2.2.2.2.2.2.2.2.1 dX11_refuse_6 fX11_73 hS.hm.1 ?_
  refine wp_alen dX11_refuse_9 hS.hm.2.2.2.2.2.2.2.2.2.2 rfl ⟨by decide, by decide⟩ ?_
  refine wp_icmp_ge (tgt := 23) dX11_refuse_10 rfl (fun h10 => by exfalso; omega) (fun h10 => ?_)
  refine wp_aload_n dX11_refuse_13 rfl ?_
  refine wp_getR hS.hm.2.2.2.2.2.2.2.2.2.1 dX11_refuse_14 fX11_73 hS.hm.1 ?_
  refine wp_iload_n dX11_refuse_17 rfl ?_
  refine wp_dup2 dX11_refuse_18 rfl rfl ?_
  refine wp_iald dX11_refuse_19 hS.hm.2.2.2.2.2.2.2.2.2.2 (by omega) (by omega) ?_
  rw [(hS.rfr.2 _ (by omega) (by omega)).1]
  refine wp_iconst dX11_refuse_20 ?_
  refine wp_iadd dX11_refuse_21 ⟨by omega, by omega⟩ ?_
  refine wp_iast dX11_refuse_22 hS.hm.2.2.2.2.2.2.2.2.2.2 (by omega) (by omega) ?_
  refine wp_iconst dX11_refuse_23 ?_
  refine wp_ireturn dX11_refuse_24 rfl ?_
  rw [← h7.1]; exact kk
theorem y_jam {c1 : Int} {bq : Nat} (hb0 : bq = if jmR F c1 = -1 then n1 m (iv 45 4) else 0) (hc : c + 1 ≤ 600) (hS : Sim c m sh iv rv E F N) (k0 : ¬ jmR F c1 = -1 → ∀ iv' : aF, Sim (c + 1) m sh iv' rv (rfF E (jmR F c1)) F N → R (some (aI (-1))) sh iv' lw rv) (k1 : jmR F c1 = -1 → ∀ (sh' : aSh) (iv' lw' : aF) (rv' : aP), Sim (c + 1) (m + bq) sh' iv' rv' (kpE E F N) (kpG F) (jmN N c1) → R (some (aI (((((jmN N c1 366 / 2 ^ c1.toNat).toNat &&& (1 : Int).toNat : Nat) : Int))))) sh' iv' lw' rv') : wp (d + 3) mX11_jam 0 [some (aR 0), some (aI c1)] [] sh iv lw rv bq (429 * bq) R := by
  have hf13 := hS.f13
  refine wp_aload_n dX11_jam_0 rfl ?_
  refine wp_getR hS.hm.2.2.1 dX11_jam_1 fX11_19 hS.hm.1 ?_
  refine wp_callV (as := []) (ls0 := [_]) (kc := 0) (ks := 0) (bc' := bq) (bs' := (429 * bq)) dX11_jam_4 vX11_123 hS.pls.1 rfl rfl (Nat.le_of_ble_eq_true rfl) (Nat.le_of_ble_eq_true rfl) (by omega) (by omega) ?_
  refine n_isTold hS.plan (fun h4 => ?_) (fun h4 => ?_)
  · have h13 := h4
    refine wp_if_ne (tgt := 16) dX11_jam_7 rfl (fun _ => ?_) (fun q => absurd q (by decide))
    refine wp_iload_n dX11_jam_16 rfl ?_
    refine wp_if_lt (tgt := 26) dX11_jam_17 rfl (fun h17 => ?_) (fun h17 => ?_)
    · refine wp_aload_n dX11_jam_26 rfl ?_
      refine wp_iconst dX11_jam_27 ?_
      refine wp_callV (as := [_]) (ls0 := [_, _]) (kc := 0) (ks := 0) (bc' := bq) (bs' := (429 * bq)) dX11_jam_28 vX11_183 hS.hm.1 rfl rfl (Nat.le_of_ble_eq_true rfl) (Nat.le_of_ble_eq_true rfl) (by omega) (by omega) ?_
      refine y_refuse (y := 1) hS (by omega) hc (fun iv hS => ?_)
      refine wp_ireturn dX11_jam_31 rfl ?_
      have er : jmR F c1 = 1 := by unfold jmR; rw [if_neg (by omega), if_pos (by omega)]
      rw [er] at k0
      exact k0 (by decide) _ hS
    · refine wp_iload_n dX11_jam_20 rfl ?_
      refine wp_bipush dX11_jam_21 ?_
      refine wp_icmp_lt (tgt := 32) dX11_jam_23 rfl (fun h23 => ?_) (fun h23 => ?_)
      · have er : jmR F c1 = -1 := by unfold jmR; rw [if_neg (by omega), if_neg (by omega)]
        rw [if_pos er] at hb0
        have hb := hb0
        refine wp_aload_n dX11_jam_32 rfl ?_
        refine wp_getR hS.hm.2.2.2.2.2.2.2.1 dX11_jam_33 fX11_62 hS.hm.1 ?_
        refine wp_aload_n dX11_jam_36 rfl ?_
        refine wp_getR hS.hm.2.2.2.2.1 dX11_jam_37 fX11_37 hS.hm.1 ?_
        refine wp_getR hS.n0.r11w dX11_jam_40 fX11_189 hS.n0.s11 ?_
        refine wp_callV (as := [_]) (ls0 := [_, _]) (kc := bq) (ks := (429 * bq)) (bc' := 0) (bs' := 0) dX11_jam_43 vX11_192 hS.ps.1 rfl rfl (Nat.le_of_ble_eq_true rfl) (Nat.le_of_ble_eq_true rfl) (by omega) (by omega) ?_
        refine y_keep hb hS h13 (fun sh iv lw rv hS hKS hlw ha => ?_)
        replace h13 : 0 < kpG F 13 := by unfold kpG; rw [up_n (by omega)]; exact h13
        refine wp_aload_n dX11_jam_46 rfl ?_
        refine wp_getR hS.hm.2.2.2.2.1 dX11_jam_47 fX11_37 hS.hm.1 ?_
        refine wp_iload_n dX11_jam_50 rfl ?_
        refine wp_callV (as := [_]) (ls0 := [_, _]) (kc := 0) (ks := 0) (bc' := 0) (bs' := 0) dX11_jam_51 vX11_220 hS.n0.s11 rfl rfl (Nat.le_of_ble_eq_true rfl) (Nat.le_of_ble_eq_true rfl) (by omega) (by omega) ?_
        refine fl0 ?_
        refine x_turnJam (b := 0) hS.n0 hS.rel (hS.inv h13).2.2.1.1 (by omega) (fun w1 hw1 => ?_)
        replace hS := Sim.w0 (N' := jmN N c1) (D := iv 38) (O := iv 39) (T := iv 40) (S := iv 43) (C := iv 44) hS hS.z0 hw1 (fun _ => (hS.inv h13).jam (hS.prm h13) (by omega)) (fun j hj => by unfold jmN; rw [up_n (by omega)])
        refine wp_aload_n dX11_jam_54 rfl ?_
        refine wp_getR hS.hm.2.2.2.2.1 dX11_jam_55 fX11_37 hS.hm.1 ?_
        refine wp_iload_n dX11_jam_58 rfl ?_
        refine wp_callV (as := [_]) (ls0 := [_, _]) (kc := 0) (ks := 0) (bc' := 0) (bs' := 0) dX11_jam_59 vX11_223 hS.n0.s11 rfl rfl (Nat.le_of_ble_eq_true rfl) (Nat.le_of_ble_eq_true rfl) (by omega) (by omega) ?_
        refine fl0 ?_
        refine x_isJammed (b := 0) hS.n0 hS.rel (hS.inv h13).2.2.1.1 (by omega) (fun h59 => ?_) (fun h59 => ?_) <;> rw [CS0id]
        · refine wp_if_eq (tgt := 69) dX11_jam_62 rfl (fun q => absurd q (by decide)) (fun _ => ?_)
          refine wp_iconst dX11_jam_65 ?_
          refine wp_goto (tgt := 70) dX11_jam_66 rfl ?_
          refine wp_ireturn dX11_jam_70 rfl ?_
          have hS2 := hS.mono (c' := c + 1) (by omega) hc
          have ea : ((((jmN N c1 366 / 2 ^ c1.toNat).toNat &&& (1 : Int).toNat : Nat) : Int)) = 1 := h59
          have kk := k1 er _ _ lw _ hS2
          rw [ea] at kk; exact kk
        · refine wp_if_eq (tgt := 69) dX11_jam_62 rfl (fun _ => ?_) (fun q => absurd q (by decide))
          refine wp_iconst dX11_jam_69 ?_
          refine wp_ireturn dX11_jam_70 rfl ?_
          have hS2 := hS.mono (c' := c + 1) (by omega) hc
          have ea : ((((jmN N c1 366 / 2 ^ c1.toNat).toNat &&& (1 : Int).toNat : Nat) : Int)) = 0 := bt_01.resolve_right h59
          have kk := k1 er _ _ lw _ hS2
          rw [ea] at kk; exact kk
      · refine wp_aload_n dX11_jam_26 rfl ?_
        refine wp_iconst dX11_jam_27 ?_
        refine wp_callV (as := [_]) (ls0 := [_, _]) (kc := 0) (ks := 0) (bc' := bq) (bs' := (429 * bq)) dX11_jam_28 vX11_183 hS.hm.1 rfl rfl (Nat.le_of_ble_eq_true rfl) (Nat.le_of_ble_eq_true rfl) (by omega) (by omega) ?_
        refine y_refuse (y := 1) hS (by omega) hc (fun iv hS => ?_)
        refine wp_ireturn dX11_jam_31 rfl ?_
        have er : jmR F c1 = 1 := by unfold jmR; rw [if_neg (by omega), if_pos (by omega)]
        rw [er] at k0
        exact k0 (by decide) _ hS
  · refine wp_if_ne (tgt := 16) dX11_jam_7 rfl (fun q => absurd q (by decide)) (fun _ => ?_)
    refine wp_aload_n dX11_jam_10 rfl ?_
    refine wp_iconst dX11_jam_11 ?_
    refine wp_callV (as := [_]) (ls0 := [_, _]) (kc := 0) (ks := 0) (bc' := bq) (bs' := (429 * bq)) dX11_jam_12 vX11_183 hS.hm.1 rfl rfl (Nat.le_of_ble_eq_true rfl) (Nat.le_of_ble_eq_true rfl) (by omega) (by omega) ?_
    refine y_refuse (y := 0) hS (by omega) hc (fun iv hS => ?_)
    refine wp_ireturn dX11_jam_15 rfl ?_
    have er : jmR F c1 = 0 := by unfold jmR; rw [if_pos (by omega)]
    rw [er] at k0
    exact k0 (by decide) _ hS
theorem y_auto {bq : Nat} (hb0 : bq = if auR F = -1 then n1 m (iv 45 4) else 0) (hc : c + 1 ≤ 600) (hS : Sim c m sh iv rv E F N) (k0 : ¬ auR F = -1 → ∀ iv' : aF, Sim (c + 1) m sh iv' rv (rfF E (auR F)) F N → R (some (aI (-1))) sh iv' lw rv) (k1 : auR F = -1 → ∀ (sh' : aSh) (iv' lw' : aF) (rv' : aP), Sim (c + 1) (m + bq) sh' iv' rv' (kpE E F N) (kpG F) (up N 367 (1 - N 367)) → R (some (aI (1 - N 367))) sh' iv' lw' rv') : wp (d + 3) mX11_auto 0 [some (aR 0)] [] sh iv lw rv bq (429 * bq) R := by
  have hf13 := hS.f13
  refine wp_aload_n dX11_auto_0 rfl ?_
  refine wp_getR hS.hm.2.2.1 dX11_auto_1 fX11_19 hS.hm.1 ?_
  refine wp_callV (as := []) (ls0 := [_]) (kc := 0) (ks := 0) (bc' := bq) (bs' := (429 * bq)) dX11_auto_4 vX11_123 hS.pls.1 rfl rfl (Nat.le_of_ble_eq_true rfl) (Nat.le_of_ble_eq_true rfl) (by omega) (by omega) ?_
  refine n_isTold hS.plan (fun h4 => ?_) (fun h4 => ?_)
  · have h13 := h4
    refine wp_if_ne (tgt := 16) dX11_auto_7 rfl (fun _ => ?_) (fun q => absurd q (by decide))
    have er : auR F = -1 := by unfold auR; rw [if_neg (by omega)]
    rw [if_pos er] at hb0
    have hb := hb0
    refine wp_aload_n dX11_auto_16 rfl ?_
    refine wp_getR hS.hm.2.2.2.2.2.2.2.1 dX11_auto_17 fX11_62 hS.hm.1 ?_
    refine wp_aload_n dX11_auto_20 rfl ?_
    refine wp_getR hS.hm.2.2.2.2.1 dX11_auto_21 fX11_37 hS.hm.1 ?_
    refine wp_getR hS.n0.r11w dX11_auto_24 fX11_189 hS.n0.s11 ?_
    refine wp_callV (as := [_]) (ls0 := [_, _]) (kc := bq) (ks := (429 * bq)) (bc' := 0) (bs' := 0) dX11_auto_27 vX11_192 hS.ps.1 rfl rfl (Nat.le_of_ble_eq_true rfl) (Nat.le_of_ble_eq_true rfl) (by omega) (by omega) ?_
    refine y_keep hb hS h13 (fun sh iv lw rv hS hKS hlw ha => ?_)
    replace h13 : 0 < kpG F 13 := by unfold kpG; rw [up_n (by omega)]; exact h13
    refine wp_aload_n dX11_auto_30 rfl ?_
    refine wp_getR hS.hm.2.2.2.2.1 dX11_auto_31 fX11_37 hS.hm.1 ?_
    refine wp_callV (as := []) (ls0 := [_]) (kc := 0) (ks := 0) (bc' := 0) (bs' := 0) dX11_auto_34 vX11_229 hS.n0.s11 rfl rfl (Nat.le_of_ble_eq_true rfl) (Nat.le_of_ble_eq_true rfl) (by omega) (by omega) ?_
    refine fl0 ?_
    refine x_turnAuto (b := 0) hS.n0 hS.rel (hS.inv h13).2.2.2.1 (fun w1 hw1 => ?_)
    replace hS := Sim.w0 (D := iv 38) (O := iv 39) (T := iv 40) (S := iv 43) (C := iv 44) hS hS.z0 hw1 (fun _ => (hS.inv h13).aut (hS.prm h13)) (fun j hj => up_n (by omega))
    refine wp_aload_n dX11_auto_37 rfl ?_
    refine wp_getR hS.hm.2.2.2.2.1 dX11_auto_38 fX11_37 hS.hm.1 ?_
    refine wp_callV (as := []) (ls0 := [_]) (kc := 0) (ks := 0) (bc' := 0) (bs' := 0) dX11_auto_41 vX11_127 hS.n0.s11 rfl rfl (Nat.le_of_ble_eq_true rfl) (Nat.le_of_ble_eq_true rfl) (by omega) (by omega) ?_
    refine fl0 ?_
    refine x_autoNow (b := 0) hS.n0 hS.rel ?_
    rw [CS0id, up_s]
    refine wp_ireturn dX11_auto_44 rfl ?_
    have hS2 := hS.mono (c' := c + 1) (by omega) hc
    exact k1 er _ _ _ _ hS2
  · refine wp_if_ne (tgt := 16) dX11_auto_7 rfl (fun q => absurd q (by decide)) (fun _ => ?_)
    refine wp_aload_n dX11_auto_10 rfl ?_
    refine wp_iconst dX11_auto_11 ?_
    refine wp_callV (as := [_]) (ls0 := [_, _]) (kc := 0) (ks := 0) (bc' := bq) (bs' := (429 * bq)) dX11_auto_12 vX11_183 hS.hm.1 rfl rfl (Nat.le_of_ble_eq_true rfl) (Nat.le_of_ble_eq_true rfl) (by omega) (by omega) ?_
    refine y_refuse (y := 0) hS (by omega) hc (fun iv hS => ?_)
    refine wp_ireturn dX11_auto_15 rfl ?_
    have er : auR F = 0 := by unfold auR; rw [if_pos (by omega)]
    rw [er] at k0
    exact k0 (by decide) _ hS
theorem y_lose {p : Int} {bq : Nat} (hb0 : bq = if lsR F N p = -1 then n1 m (iv 45 4) else 0) (hc : c + 1 ≤ 600) (hS : Sim c m sh iv rv E F N) (k0 : ¬ lsR F N p = -1 → ∀ iv' : aF, Sim (c + 1) m sh iv' rv (rfF E (lsR F N p)) F N → R (some (aI (-1))) sh iv' lw rv) (k1 : lsR F N p = -1 → ∀ (sh' : aSh) (iv' lw' : aF) (rv' : aP), Sim (c + 1) (m + bq) sh' iv' rv' (kpE E F N) (kpG F) (up N (61 * p + 43) 0) → R (some (aI (N (61 * p + 44)))) sh' iv' lw' rv') : wp (d + 3) mX11_lose 0 [some (aR 0), some (aI p), none] [] sh iv lw rv bq (429 * bq) R := by
  have hf13 := hS.f13
  refine wp_aload_n dX11_lose_0 rfl ?_
  refine wp_getR hS.hm.2.2.1 dX11_lose_1 fX11_19 hS.hm.1 ?_
  refine wp_iload_n dX11_lose_4 rfl ?_
  refine wp_callV (as := [_]) (ls0 := [_, _]) (kc := 0) (ks := 0) (bc' := bq) (bs' := (429 * bq)) dX11_lose_5 vX11_133 hS.pls.1 rfl rfl (Nat.le_of_ble_eq_true rfl) (Nat.le_of_ble_eq_true rfl) (by omega) (by omega) ?_
  refine n_hasPair hS.plan (fun h5 => ?_) (fun h5 => ?_)
  · have hp : 0 ≤ p ∧ p < 6 := ⟨h5.1, by have := hS.f13; omega⟩
    have h13 : 0 < F 13 := by omega
    have h43 := (hS.bok h13).v43 hp
    refine wp_if_ne (tgt := 17) dX11_lose_8 rfl (fun _ => ?_) (fun q => absurd q (by decide))
    refine wp_aload_n dX11_lose_17 rfl ?_
    refine wp_getR hS.hm.2.2.2.2.1 dX11_lose_18 fX11_37 hS.hm.1 ?_
    refine wp_getR hS.n0.r11l dX11_lose_21 fX11_143 hS.n0.s11 ?_
    refine wp_iload_n dX11_lose_24 rfl ?_
    refine wp_aaldL dX11_lose_25 hS.n0.s13 (by omega) (by omega) (hS.n0.r13 hp) ?_
    refine wp_getR (hS.n0.lk0 hp).rM dX11_lose_26 fX11_170 (hS.n0.lk0 hp).1 ?_
    refine wp_astore_n (ls' := [_, _, _]) dX11_lose_29 (by decide) rfl rfl ?_
    refine wp_aload_n dX11_lose_30 rfl ?_
    refine wp_callV (as := []) (ls0 := [_]) (kc := 0) (ks := 0) (bc' := bq) (bs' := (429 * bq)) dX11_lose_31 vX11_211 (hS.n0.lk0 hp).sM.1 rfl rfl (Nat.le_of_ble_eq_true rfl) (Nat.le_of_ble_eq_true rfl) (by omega) (by omega) ?_
    refine fl12 ?_
    refine t_isUnderWay (hS.n0.lk0 hp).sM hS.rel (fun h31 => ?_) (fun h31 => ?_) <;> rw [id12]
    · refine wp_if_ne (tgt := 43) dX11_lose_34 rfl (fun _ => ?_) (fun q => absurd q (by decide))
      have er : lsR F N p = -1 := by unfold lsR; rw [if_neg (fun z => z h5), if_neg (by omega)]
      rw [if_pos er] at hb0
      have hb := hb0
      refine wp_aload_n dX11_lose_43 rfl ?_
      refine wp_getR hS.hm.2.2.2.2.2.2.2.1 dX11_lose_44 fX11_62 hS.hm.1 ?_
      refine wp_aload_n dX11_lose_47 rfl ?_
      refine wp_getR hS.hm.2.2.2.2.1 dX11_lose_48 fX11_37 hS.hm.1 ?_
      refine wp_getR hS.n0.r11w dX11_lose_51 fX11_189 hS.n0.s11 ?_
      refine wp_callV (as := [_]) (ls0 := [_, _]) (kc := bq) (ks := (429 * bq)) (bc' := 0) (bs' := 0) dX11_lose_54 vX11_192 hS.ps.1 rfl rfl (Nat.le_of_ble_eq_true rfl) (Nat.le_of_ble_eq_true rfl) (by omega) (by omega) ?_
      refine y_keep hb hS h13 (fun sh iv lw rv hS hKS hlw ha => ?_)
      replace h13 : 0 < kpG F 13 := by unfold kpG; rw [up_n (by omega)]; exact h13
      refine wp_aload_n dX11_lose_57 rfl ?_
      refine wp_callV (as := []) (ls0 := [_]) (kc := 0) (ks := 0) (bc' := 0) (bs' := 0) dX11_lose_58 vX11_214 (hS.n0.lk0 hp).sM.1 rfl rfl (Nat.le_of_ble_eq_true rfl) (Nat.le_of_ble_eq_true rfl) (by omega) (by omega) ?_
      refine fl12 ?_
      refine t_drop (hS.n0.lk0 hp).sM hS.rel (fun w1 hw1 => ?_)
      replace hS := Sim.w12 hS hw1 (fun _ => (hS.inv h13).drop (hS.prm h13) hp) (fun j hj => up_n (by omega))
      refine wp_aload_n dX11_lose_61 rfl ?_
      refine wp_callV (as := []) (ls0 := [_]) (kc := 0) (ks := 0) (bc' := 0) (bs' := 0) dX11_lose_62 vX11_217 (hS.n0.lk0 hp).sM.1 rfl rfl (Nat.le_of_ble_eq_true rfl) (Nat.le_of_ble_eq_true rfl) (by omega) (by omega) ?_
      refine fl12 ?_
      refine t_sort (hS.n0.lk0 hp).sM hS.rel ?_
      rw [id12]
      rw [up_n (by omega)]
      refine wp_ireturn dX11_lose_65 rfl ?_
      have hS2 := hS.mono (c' := c + 1) (by omega) hc
      exact k1 er _ _ _ _ hS2
    · refine wp_if_ne (tgt := 43) dX11_lose_34 rfl (fun q => absurd q (by decide)) (fun _ => ?_)
      refine wp_aload_n dX11_lose_37 rfl ?_
      refine wp_iconst dX11_lose_38 ?_
      refine wp_callV (as := [_]) (ls0 := [_, _]) (kc := 0) (ks := 0) (bc' := bq) (bs' := (429 * bq)) dX11_lose_39 vX11_183 hS.hm.1 rfl rfl (Nat.le_of_ble_eq_true rfl) (Nat.le_of_ble_eq_true rfl) (by omega) (by omega) ?_
      refine y_refuse (y := 2) hS (by omega) hc (fun iv hS => ?_)
      refine wp_ireturn dX11_lose_42 rfl ?_
      have er : lsR F N p = 2 := by unfold lsR; rw [if_neg (fun z => z h5), if_pos (by omega)]
      rw [er] at k0
      exact k0 (by decide) _ hS
  · refine wp_if_ne (tgt := 17) dX11_lose_8 rfl (fun q => absurd q (by decide)) (fun _ => ?_)
    refine wp_aload_n dX11_lose_11 rfl ?_
    refine wp_iconst dX11_lose_12 ?_
    refine wp_callV (as := [_]) (ls0 := [_, _]) (kc := 0) (ks := 0) (bc' := bq) (bs' := (429 * bq)) dX11_lose_13 vX11_183 hS.hm.1 rfl rfl (Nat.le_of_ble_eq_true rfl) (Nat.le_of_ble_eq_true rfl) (by omega) (by omega) ?_
    refine y_refuse (y := 0) hS (by omega) hc (fun iv hS => ?_)
    refine wp_ireturn dX11_lose_16 rfl ?_
    have er : lsR F N p = 0 := by unfold lsR; rw [if_pos h5]
    rw [er] at k0
    exact k0 (by decide) _ hS
theorem y_load {p : Int} {x : Int} {bq : Nat} (hb0 : bq = if ldR F N p x = -1 then n1 m (iv 45 4) else 0) (hc : c + 1 ≤ 600) (hS : Sim c m sh iv rv E F N) (k0 : ¬ ldR F N p x = -1 → ∀ iv' : aF, Sim (c + 1) m sh iv' rv (rfF E (ldR F N p x)) F N → R (some (aI (-1))) sh iv' lw rv) (k1 : ldR F N p x = -1 → ∀ (sh' : aSh) (iv' lw' : aF) (rv' : aP), Sim (c + 1) (m + bq) sh' iv' rv' (kpE E F N) (kpG F) (up N (61 * p + 58) x) → R (some (aI (N (61 * p + 58)))) sh' iv' lw' rv') : wp (d + 3) mX11_load 0 [some (aR 0), some (aI p), some (aI x), none, none] [] sh iv lw rv bq (429 * bq) R := by
  have hf13 := hS.f13
  refine wp_aload_n dX11_load_0 rfl ?_
  refine wp_getR hS.hm.2.2.1 dX11_load_1 fX11_19 hS.hm.1 ?_
  refine wp_iload_n dX11_load_4 rfl ?_
  refine wp_callV (as := [_]) (ls0 := [_, _]) (kc := 0) (ks := 0) (bc' := bq) (bs' := (429 * bq)) dX11_load_5 vX11_133 hS.pls.1 rfl rfl (Nat.le_of_ble_eq_true rfl) (Nat.le_of_ble_eq_true rfl) (by omega) (by omega) ?_
  refine n_hasPair hS.plan (fun h5 => ?_) (fun h5 => ?_)
  · have hp : 0 ≤ p ∧ p < 6 := ⟨h5.1, by have := hS.f13; omega⟩
    have h13 : 0 < F 13 := by omega
    refine wp_if_ne (tgt := 17) dX11_load_8 rfl (fun _ => ?_) (fun q => absurd q (by decide))
    refine wp_iload_n dX11_load_17 rfl ?_
    refine wp_if_lt (tgt := 27) dX11_load_18 rfl (fun h18 => ?_) (fun h18 => ?_)
    · refine wp_aload_n dX11_load_27 rfl ?_
      refine wp_iconst dX11_load_28 ?_
      refine wp_callV (as := [_]) (ls0 := [_, _]) (kc := 0) (ks := 0) (bc' := bq) (bs' := (429 * bq)) dX11_load_29 vX11_183 hS.hm.1 rfl rfl (Nat.le_of_ble_eq_true rfl) (Nat.le_of_ble_eq_true rfl) (by omega) (by omega) ?_
      refine y_refuse (y := 1) hS (by omega) hc (fun iv hS => ?_)
      refine wp_ireturn dX11_load_32 rfl ?_
      have er : ldR F N p x = 1 := by unfold ldR; rw [if_neg (fun z => z h5), if_pos (by omega)]
      rw [er] at k0
      exact k0 (by decide) _ hS
    · refine wp_iload_n dX11_load_21 rfl ?_
      refine wp_bipush dX11_load_22 ?_
      refine wp_icmp_le (tgt := 33) dX11_load_24 rfl (fun h24 => ?_) (fun h24 => ?_)
      · refine wp_aload_n dX11_load_33 rfl ?_
        refine wp_getR hS.hm.2.2.2.2.1 dX11_load_34 fX11_37 hS.hm.1 ?_
        refine wp_getR hS.n0.r11l dX11_load_37 fX11_143 hS.n0.s11 ?_
        refine wp_iload_n dX11_load_40 rfl ?_
        refine wp_aaldL dX11_load_41 hS.n0.s13 (by omega) (by omega) (hS.n0.r13 hp) ?_
        refine wp_astore_n (ls' := [_, _, _, _, _]) dX11_load_42 (by decide) rfl rfl ?_
        refine wp_aload_n dX11_load_43 rfl ?_
        refine wp_iconst dX11_load_44 ?_
        refine wp_callV (as := [_]) (ls0 := [_, _]) (kc := 0) (ks := 0) (bc' := bq) (bs' := (429 * bq)) dX11_load_45 vX11_147 (hS.n0.lk0 hp).1 rfl rfl (Nat.le_of_ble_eq_true rfl) (Nat.le_of_ble_eq_true rfl) (by omega) (by omega) ?_
        refine fl12 ?_
        refine k_tell (hS.n0.lk0 hp) hS.rel ?_
        rw [id12]
        rw [if_pos rfl]
        refine wp_istore (ls' := [_, _, _, _, _]) dX11_load_48 (by decide) rfl rfl ?_
        refine wp_iload dX11_load_50 rfl ?_
        refine wp_iload_n dX11_load_52 rfl ?_
        refine wp_icmp_ne (tgt := 62) dX11_load_53 rfl (fun h53 => ?_) (fun h53 => ?_)
        · have er : ldR F N p x = -1 := by unfold ldR; rw [if_neg (fun z => z h5), if_neg (by omega), if_neg (by omega)]
          rw [if_pos er] at hb0
          have hb := hb0
          refine wp_aload_n dX11_load_62 rfl ?_
          refine wp_getR hS.hm.2.2.2.2.2.2.2.1 dX11_load_63 fX11_62 hS.hm.1 ?_
          refine wp_aload_n dX11_load_66 rfl ?_
          refine wp_getR hS.hm.2.2.2.2.1 dX11_load_67 fX11_37 hS.hm.1 ?_
          refine wp_getR hS.n0.r11w dX11_load_70 fX11_189 hS.n0.s11 ?_
          refine wp_callV (as := [_]) (ls0 := [_, _]) (kc := bq) (ks := (429 * bq)) (bc' := 0) (bs' := 0) dX11_load_73 vX11_192 hS.ps.1 rfl rfl (Nat.le_of_ble_eq_true rfl) (Nat.le_of_ble_eq_true rfl) (by omega) (by omega) ?_
          refine y_keep hb hS h13 (fun sh iv lw rv hS hKS hlw ha => ?_)
          replace h13 : 0 < kpG F 13 := by unfold kpG; rw [up_n (by omega)]; exact h13
          refine wp_aload_n dX11_load_76 rfl ?_
          refine wp_iload_n dX11_load_77 rfl ?_
          refine wp_callV (as := [_]) (ls0 := [_, _]) (kc := 0) (ks := 0) (bc' := 0) (bs' := 0) dX11_load_78 vX11_226 (hS.n0.lk0 hp).1 rfl rfl (Nat.le_of_ble_eq_true rfl) (Nat.le_of_ble_eq_true rfl) (by omega) (by omega) ?_
          refine fl12 ?_
          refine k_setLoad (hS.n0.lk0 hp) hS.rel (fun w1 hw1 => ?_)
          replace hS := Sim.w12 hS hw1 (fun _ => (hS.inv h13).lod (hS.prm h13) hp (by omega)) (fun j hj => up_n (by omega))
          refine wp_iload dX11_load_81 rfl ?_
          refine wp_ireturn dX11_load_83 rfl ?_
          have hS2 := hS.mono (c' := c + 1) (by omega) hc
          exact k1 er _ _ _ _ hS2
        · refine wp_aload_n dX11_load_56 rfl ?_
          refine wp_iconst dX11_load_57 ?_
          refine wp_callV (as := [_]) (ls0 := [_, _]) (kc := 0) (ks := 0) (bc' := bq) (bs' := (429 * bq)) dX11_load_58 vX11_183 hS.hm.1 rfl rfl (Nat.le_of_ble_eq_true rfl) (Nat.le_of_ble_eq_true rfl) (by omega) (by omega) ?_
          refine y_refuse (y := 2) hS (by omega) hc (fun iv hS => ?_)
          refine wp_ireturn dX11_load_61 rfl ?_
          have er : ldR F N p x = 2 := by unfold ldR; rw [if_neg (fun z => z h5), if_neg (by omega), if_pos (by omega)]
          rw [er] at k0
          exact k0 (by decide) _ hS
      · refine wp_aload_n dX11_load_27 rfl ?_
        refine wp_iconst dX11_load_28 ?_
        refine wp_callV (as := [_]) (ls0 := [_, _]) (kc := 0) (ks := 0) (bc' := bq) (bs' := (429 * bq)) dX11_load_29 vX11_183 hS.hm.1 rfl rfl (Nat.le_of_ble_eq_true rfl) (Nat.le_of_ble_eq_true rfl) (by omega) (by omega) ?_
        refine y_refuse (y := 1) hS (by omega) hc (fun iv hS => ?_)
        refine wp_ireturn dX11_load_32 rfl ?_
        have er : ldR F N p x = 1 := by unfold ldR; rw [if_neg (fun z => z h5), if_pos (by omega)]
        rw [er] at k0
        exact k0 (by decide) _ hS
  · refine wp_if_ne (tgt := 17) dX11_load_8 rfl (fun q => absurd q (by decide)) (fun _ => ?_)
    refine wp_aload_n dX11_load_11 rfl ?_
    refine wp_iconst dX11_load_12 ?_
    refine wp_callV (as := [_]) (ls0 := [_, _]) (kc := 0) (ks := 0) (bc' := bq) (bs' := (429 * bq)) dX11_load_13 vX11_183 hS.hm.1 rfl rfl (Nat.le_of_ble_eq_true rfl) (Nat.le_of_ble_eq_true rfl) (by omega) (by omega) ?_
    refine y_refuse (y := 0) hS (by omega) hc (fun iv hS => ?_)
    refine wp_ireturn dX11_load_16 rfl ?_
    have er : ldR F N p x = 0 := by unfold ldR; rw [if_pos h5]
    rw [er] at k0
    exact k0 (by decide) _ hS
theorem Sim.loss {v : Int} (hS : Sim c m sh iv rv E F N) (hv : 0 ≤ v ∧ v ≤ 9) : Sim c m sh (uI iv 0 9 v) rv E (up F 17 v) N := by
  have qp : EqP E E F (up F 17 v) := EqP.f1 (fun j hj => up_n (by omega))
  have fo : ∀ j : Int, ¬ j = 17 → up F 17 v j = F j := fun j hj => up_n hj
  rw [uI_eq]
  have e : ∀ i : Nat, ¬ i = 0 → uA iv 0 (up (iv 0) 9 v) i = iv i := fun i hi => uA_n hi
  obtain ⟨⟨h1, h2⟩, h3, h4, h5, h6, h7, h8, h9, ⟨t1, t2, t3, t4, t5, t6, t7⟩, h11⟩ := hS
  have hc1 : ClW sh (uA iv 0 (up (iv 0) 9 v)) rv := h1.cg (fun i hi => e i (by omega))
  refine ⟨⟨hc1, h2⟩, Sim.pl' hc1 h3 (fun i a b => e i (by omega)) qp, by rw [e 12 (by omega)]; exact h4, by rw [e 42 (by omega), e 84 (by omega)]; exact h5, ?_, ?_, ?_, ?_, ⟨by rw [fo 13 (by omega)]; exact t1, Prm2_q qp t2, t3, t4, t5, by rw [fo 25 (by omega)]; exact t6, fun hh => by rw [fo 13 (by omega)] at hh; exact ⟨Prm_q qp (t7 hh).1, Inv_q qp (t7 hh).2⟩⟩, ?_⟩
  · unfold TpR at *; rw [e 1 (by omega), e 2 (by omega), fo 2 (by omega)]; exact h6
  · unfold RfR at *; rw [e 87 (by omega)]; exact h7
  · rw [uA_s, up_s, up_s]; exact ⟨rfl, hv⟩
  · refine PsR.cg ?_ (iv := iv) (fun i hi => e i (by omega))
    obtain ⟨g1, g2, g3, g4, g5, g6, g7, g8⟩ := h9
    refine ⟨by rw [fo 25 (by omega)]; exact g1, g2, g3, fun j a b => ?_, fun i j a b d => g5 i j a b (by rw [fo 25 (by omega)] at d; exact d), by rw [fo 30 (by omega)]; exact g6, fun hh => ?_, fun hh => by rw [fo 13 (by omega)]; exact g8 (by rw [fo 25 (by omega), fo 30 (by omega)] at hh; exact hh)⟩
    · rw [fo 25 (by omega)] at b ⊢
      have := g4 j a b
      exact ⟨this.1, this.2.1, this.2.2.1.q qp, this.2.2.2⟩
    · rw [fo 30 (by omega)] at hh
      have := g7 hh
      exact ⟨this.1, this.2.1.q qp, this.2.2⟩
  · unfold Nne at *; rw [fo 13 (by omega)]; exact h11
theorem y_loss {v : Int} (hS : Sim c m sh iv rv E F N) (kt : (0 ≤ v ∧ v ≤ 9) ∧ ¬ v = F 17 → ∀ iv' : aF, Sim c m sh iv' rv E (up F 17 v) N → R (some (aI 1)) sh iv' lw rv) (kf : ¬ ((0 ≤ v ∧ v ≤ 9) ∧ ¬ v = F 17) → R (some (aI 0)) sh iv lw rv) : wp (d) mX11_loss 0 [some (aR 0), some (aI (v))] [] sh iv lw rv 0 0 R := by
  refine wp_iload_n dX11_loss_0 rfl ?_
  refine wp_if_lt (tgt := 18) dX11_loss_1 rfl (fun h1 => ?_) (fun h1 => ?_)
  · refine wp_iconst dX11_loss_18 ?_
    refine wp_zreturn dX11_loss_19 rfl (Or.inl rfl) ?_
    exact kf (by omega)
  · refine wp_iload_n dX11_loss_4 rfl ?_
    refine wp_bipush dX11_loss_5 ?_
    refine wp_icmp_gt (tgt := 18) dX11_loss_7 rfl (fun h7 => ?_) (fun h7 => ?_)
    · refine wp_iconst dX11_loss_18 ?_
      refine wp_zreturn dX11_loss_19 rfl (Or.inl rfl) ?_
      exact kf (by omega)
    · refine wp_iload_n dX11_loss_10 rfl ?_
      refine wp_aload_n dX11_loss_11 rfl ?_
      refine wp_getI dX11_loss_12 fX11_77 hS.hm.1 ?_
      rw [hS.los.1]
      refine wp_icmp_ne (tgt := 20) dX11_loss_15 rfl (fun h15 => ?_) (fun h15 => ?_)
      · refine wp_aload_n dX11_loss_20 rfl ?_
        refine wp_iload_n dX11_loss_21 rfl ?_
        refine wp_putI dX11_loss_22 fX11_77 hS.hm.1 ?_
        refine wp_iconst dX11_loss_25 ?_
        refine wp_zreturn dX11_loss_26 rfl (Or.inr rfl) ?_
        exact kt ⟨by omega, by omega⟩ _ (hS.loss (by omega))
      · refine wp_iconst dX11_loss_18 ?_
        refine wp_zreturn dX11_loss_19 rfl (Or.inl rfl) ?_
        exact kf (by omega)
end C32
