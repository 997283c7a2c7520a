def OtA (sh : aSh) (rv : aP) : Prop := sh[51]? = some (3, 5) ∧ rv 51 0 = some (11 + 42 * 0) ∧ rv 51 1 = some (11 + 42 * 1) ∧ rv 51 2 = some (41 + 39 * 1) ∧ rv 51 3 = some 52 ∧ sh[52]? = some (0, 6)
def ZK (K : Int → Int) : Prop := ∀ c : Int, 0 ≤ c → c < 160 → K c = 0
section C19
variable {d : Nat} {sh : aSh} {iv lw E : aF} {rv : aP} {D O T S K C w N F : Int → Int} {R : aPost} {p : Int}
theorem Rel.cp {w' : Int → Int} (h : Rel w N) (e : ∀ x : Int, 0 ≤ x → x < 429 → w' x = w x) : Rel w' N := by
  refine ⟨fun p k h1 h2 h3 => ?_, ?_, ?_, ?_⟩
  · have := cmk_r h3; rw [e _ (by omega) (by omega)]; exact h.1 p k h1 h2 h3
  · rw [e _ (by omega) (by omega)]; exact h.2.1
  · rw [e _ (by omega) (by omega)]; exact h.2.2.1
  · rw [e _ (by omega) (by omega)]; exact h.2.2.2
theorem Rel.cy {v : Int → Int} (h : Rel w N) : Rel (cpyI w v 0 0 429) N := h.cp (fun x a b => by unfold cpyI; rw [if_pos (by omega), show (0 : Int) + (x - 0) = x by omega])
theorem CSz {k v : Int} {Z : Int → Int} : uI (uA (CD (uA iv 52 Z) 1 D O T S K C) (12 + 42 * 1) w) 52 k v = uA (CD (uA iv 52 (up Z k v)) 1 D O T S K C) (12 + 42 * 1) w := by
  rw [uI_eq, CSn (by omega), uA_s, uA_c (by decide)]
  congr 1
  funext a
  unfold uA CD
  by_cases e : a = 52
  · subst e; rfl
  · simp only [if_neg e]
theorem NtA.cg {b : Nat} {iv' : aF} (h : NtA sh rv iv b) (e : ∀ i : Nat, 14 + 42 * b ≤ i → i < 38 + 42 * b → iv' i = iv i) : NtA sh rv iv' b := by
  refine ⟨h.1, h.2.1, fun p a c => ?_, h.2.2.2⟩
  have g := h.2.2.1 p a c
  refine ⟨g.1, ?_⟩
  have g2 := g.2
  have e1 := e (lid b p) (by unfold lid; omega) (by unfold lid; omega)
  have e2 := e (sid b p) (by unfold sid; omega) (by unfold sid; omega)
  have e3 := e (rid b p) (by unfold rid; omega) (by unfold rid; omega)
  have e4 := e (mid b p) (by unfold mid; omega) (by unfold mid; omega)
  unfold LkA SdA LtA at g2 ⊢
  rw [e1, e2, e3, e4]
  exact g2
theorem o_startFrom (h0 : NtA sh rv iv 0) (hN : NtA sh rv iv 1) (hO : OtA sh rv) (hR0 : Rel (iv 12) N) (k : ∀ w', Rel w' N → R none sh (uA (CD iv 1 D O T S K C) (12 + 42 * 1) w') lw rv) : wp (d + 1) mX5_startFrom 0 [some (aR 51), some (aR (12 + 42 * 0))] [] sh (uA (CD iv 1 D O T S K C) (12 + 42 * 1) w) lw rv 0 0 R := by
  refine wp_aload_n dX5_startFrom_0 rfl ?_
  refine wp_iconst dX5_startFrom_1 ?_
  refine wp_aload_n dX5_startFrom_2 rfl ?_
  refine wp_getR hO.2.2.1 dX5_startFrom_3 fX5_28 hO.1 ?_
  refine wp_getR hN.r11w dX5_startFrom_6 fX5_45 hN.s11 ?_
  refine wp_iconst dX5_startFrom_9 ?_
  refine wp_sipush dX5_startFrom_10 ?_
  refine wp_copy dX5_startFrom_13 aX5_109 h0.s12 hN.s12 (by omega) (by decide) (by decide) (by decide) (by decide) (by decide) (Nat.le_of_ble_eq_true rfl) ?_
  rw [CSw, CSn (by omega), uA_uA]
  refine wp_return dX5_startFrom_16 rfl ?_
  exact k _ hR0.cy
theorem gsm_s (m : Nat) : ∀ N : Int → Int, gsm E F p (m + 1) N = gsm E F p m N + gtn E F (preF E F (liN E F m N)) p := by
  induction m with
  | zero => intro N; simp only [gsm, liN]; omega
  | succ m ih => intro N; rw [gsm, ih, gsm, liN]; omega
theorem l_after {n z : Int} (h0 : NtA sh rv iv 0) (hN : NtA sh rv iv 1) (hO : OtA sh rv) (hl : PlA sh rv iv E F) (hP : Prm E F) (hP2 : Prm2 E F) (hp : 0 ≤ p ∧ p < 6) (hpF : p < F 13) (hn : n ≤ 60) (m : Nat) : ∀ (i x : Int) (w N D O T S K C : Int → Int), 0 ≤ i → i + m = n → (0 ≤ x ∧ x ≤ 6 * i) → Rel w N → Inv E F N → N 368 + m ≤ 14000 → ZK K → (∀ D' O' T' S' K' C' w' : Int → Int, ZK K' → Rel w' (liN E F m N) → wp (d + 6) mX5_afterFrames 49 [some (aR 51), some (aI p), some (aI n), some (aI z), some (aI (x + gsm E F p m N)), some (aI n)] [] sh (uA (CD iv 1 D' O' T' S' K' C') (12 + 42 * 1) w') lw rv 0 0 R) → wp (d + 6) mX5_afterFrames 17 [some (aR 51), some (aI p), some (aI n), some (aI z), some (aI x), some (aI i)] [] sh (uA (CD iv 1 D O T S K C) (12 + 42 * 1) w) lw rv 0 0 R := by
  obtain ⟨hW1, hW2, hO1, hO2, hT1, hT2, hI1, hI2, hF1, hF2⟩ := id hP
  induction m with
  | zero =>
    intro i x w N D O T S K C h0' hm hx hR hI hf hK k
    have hk := k D O T S K C w hK hR
    rw [gsm, Int.add_zero] at hk
    rw [show i = n by omega]
    refine wp_iload dX5_afterFrames_17 rfl ?_
    refine wp_iload_n dX5_afterFrames_19 rfl ?_
    refine wp_icmp_ge (tgt := 49) dX5_afterFrames_20 rfl (fun h20 => ?_) (fun h20 => by exfalso; omega)
    exact hk
  | succ m ih =>
    intro i x w N D O T S K C h0' hm hx hR hI hf hK k
    have hL := Inv.liv hP hI (by omega)
    have hB3 : Bok (E 5 0) (E 5 1) (preF E F N) := Bok.bquL (F 13).toNat 0 _ (by omega) (by omega) (Inv.mid hP hI (by omega)).2.1.1
    have hgr := gtn_r (F := F) (p := p) hB3 hp
    refine wp_iload dX5_afterFrames_17 rfl ?_
    refine wp_iload_n dX5_afterFrames_19 rfl ?_
    refine wp_icmp_ge (tgt := 49) dX5_afterFrames_20 rfl (fun h20 => by exfalso; omega) (fun h20 => ?_)
    refine wp_aload_n dX5_afterFrames_23 rfl ?_
    refine wp_getR hO.2.2.2.1 dX5_afterFrames_24 fX5_41 hO.1 ?_
    refine wp_callV (as := []) (ls0 := [_, _, _, _, _]) (kc := 0) (ks := 0) (bc' := 0) (bs' := 0) dX5_afterFrames_27 vX5_52 hN.s41 rfl rfl (Nat.le_of_ble_eq_true rfl) (Nat.le_of_ble_eq_true rfl) (by omega) (by omega) ?_
    refine f_passFrame hN hl hP hP2 hR hI (by omega) hK (fun w D O T S K C hR hK hC => ?_)
    refine wp_iload dX5_afterFrames_30 rfl ?_
    refine wp_aload_n dX5_afterFrames_32 rfl ?_
    refine wp_getR hO.2.2.2.1 dX5_afterFrames_33 fX5_41 hO.1 ?_
    refine wp_iload_n dX5_afterFrames_36 rfl ?_
    refine wp_callV (as := [_]) (ls0 := [_, _]) (kc := 0) (ks := 0) (bc' := 0) (bs' := 0) dX5_afterFrames_37 vX5_55 hN.s41 rfl rfl (Nat.le_of_ble_eq_true rfl) (Nat.le_of_ble_eq_true rfl) (by omega) (by omega) ?_
    refine f_cameOf hN hp ?_
    rw [hC p hp.1 hpF]
    refine wp_iadd dX5_afterFrames_40 ⟨by omega, by omega⟩ ?_
    refine wp_istore (ls' := [_, _, _, _, _, _]) dX5_afterFrames_41 (by decide) rfl rfl ?_
    refine wp_iinc (ls' := [_, _, _, _, _, _]) dX5_afterFrames_43 (by decide) rfl rfl ⟨by omega, by omega⟩ rfl ?_
    refine wp_goto (tgt := 17) dX5_afterFrames_46 rfl ?_
    refine ih _ _ _ _ _ _ _ _ _ _ (by omega) (by omega) (by omega) hR hL.1 (by rw [hL.2.1]; omega) hK (fun D O T S K C w hK hR => ?_)
    have hk := k D O T S K C w hK hR
    rw [gsm, ← Int.add_assoc] at hk
    exact hk
theorem o_after {n z : Int} (h0 : NtA sh rv iv 0) (hN : NtA sh rv iv 1) (hO : OtA sh rv) (hl : PlA sh rv iv E F) (hP : Prm E F) (hP2 : Prm2 E F) (hI : Inv E F N) (hK : ZK K) (hfr : N 368 ≤ 9999) (hp : 0 ≤ p ∧ p < 6) (hpF : p < F 13) (hn : 0 ≤ n ∧ n ≤ 60) (hz : 0 ≤ z ∧ z ≤ 2) (hR0 : Rel (iv 12) N) (k : ∀ D' O' T' S' K' C' w' : Int → Int, ZK K' → R (some (aI (if z = 0 then gsm E F p n.toNat N else if z = 1 then liN E F n.toNat N (61 * p + 57) else liN E F n.toNat N (61 * p + 18)))) sh (uA (CD iv 1 D' O' T' S' K' C') (12 + 42 * 1) w') lw rv) : wp (d + 6) mX5_afterFrames 0 [some (aR 51), some (aI p), some (aI n), some (aI z), none, none] [] sh (uA (CD iv 1 D O T S K C) (12 + 42 * 1) w) lw rv 0 0 R := by
  refine wp_aload_n dX5_afterFrames_0 rfl ?_
  refine wp_aload_n dX5_afterFrames_1 rfl ?_
  refine wp_getR hO.2.1 dX5_afterFrames_2 fX5_15 hO.1 ?_
  refine wp_getR h0.r11w dX5_afterFrames_5 fX5_45 h0.s11 ?_
  refine wp_callV (as := [_]) (ls0 := [_, _]) (kc := 0) (ks := 0) (bc' := 0) (bs' := 0) dX5_afterFrames_8 vX5_48 hO.1 rfl rfl (Nat.le_of_ble_eq_true rfl) (Nat.le_of_ble_eq_true rfl) (by omega) (by omega) ?_
  refine o_startFrom h0 hN hO hR0 (fun w hR => ?_)
  refine wp_iconst dX5_afterFrames_11 ?_
  refine wp_istore (ls' := [_, _, _, _, _, _]) dX5_afterFrames_12 (by decide) rfl rfl ?_
  refine wp_iconst dX5_afterFrames_14 ?_
  refine wp_istore (ls' := [_, _, _, _, _, _]) dX5_afterFrames_15 (by decide) rfl rfl ?_
  refine l_after h0 hN hO hl hP hP2 hp hpF (by omega) n.toNat 0 0 _ _ _ _ _ _ _ _ (by omega) (by omega) (by omega) hR hI (by omega) hK (fun D' O' T' S' K' C' w' hK' hR' => ?_)
  have hk := k D' O' T' S' K' C' w' hK'
  refine wp_iload_n dX5_afterFrames_49 rfl ?_
  refine wp_if_ne (tgt := 56) dX5_afterFrames_50 rfl (fun h50 => ?_) (fun h50 => ?_)
  · refine wp_aload_n dX5_afterFrames_56 rfl ?_
    refine wp_getR hO.2.2.1 dX5_afterFrames_57 fX5_28 hO.1 ?_
    refine wp_getR hN.r11l dX5_afterFrames_60 fX5_59 hN.s11 ?_
    refine wp_iload_n dX5_afterFrames_63 rfl ?_
    refine wp_aaldL dX5_afterFrames_64 hN.s13 (by omega) (by omega) (hN.r13 hp) ?_
    refine wp_iload_n dX5_afterFrames_65 rfl ?_
    refine wp_iconst dX5_afterFrames_66 ?_
    refine wp_icmp_ne (tgt := 74) dX5_afterFrames_67 rfl (fun h67 => ?_) (fun h67 => ?_)
    · refine wp_bipush dX5_afterFrames_74 ?_
      refine wp_callV (as := [_]) (ls0 := [_, _]) (kc := 0) (ks := 0) (bc' := 0) (bs' := 0) dX5_afterFrames_76 vX5_65 (hN.sl hp) rfl rfl (Nat.le_of_ble_eq_true rfl) (Nat.le_of_ble_eq_true rfl) (by omega) (by omega) ?_
      refine k_tell (hN.lk hp) hR' ?_
      rw [if_neg (by decide), if_neg (by decide), if_neg (by decide), if_neg (by decide), if_neg (by decide), if_neg (by decide), if_pos rfl]
      refine wp_ireturn dX5_afterFrames_79 rfl ?_
      first | (rw [if_neg h50, if_pos h67] at hk; exact hk) | (rw [if_neg h50, if_neg h67] at hk; exact hk)
    · refine wp_iconst dX5_afterFrames_70 ?_
      refine wp_goto (tgt := 76) dX5_afterFrames_71 rfl ?_
      refine wp_callV (as := [_]) (ls0 := [_, _]) (kc := 0) (ks := 0) (bc' := 0) (bs' := 0) dX5_afterFrames_76 vX5_65 (hN.sl hp) rfl rfl (Nat.le_of_ble_eq_true rfl) (Nat.le_of_ble_eq_true rfl) (by omega) (by omega) ?_
      refine k_tell (hN.lk hp) hR' ?_
      rw [if_neg (by decide), if_pos rfl]
      refine wp_ireturn dX5_afterFrames_79 rfl ?_
      first | (rw [if_neg h50, if_pos h67] at hk; exact hk) | (rw [if_neg h50, if_neg h67] at hk; exact hk)
  · refine wp_iload dX5_afterFrames_53 rfl ?_
    refine wp_ireturn dX5_afterFrames_55 rfl ?_
    rw [if_pos h50] at hk; rw [Int.zero_add]; exact hk
theorem l_agreed (h0 : NtA sh rv iv 0) (hN : NtA sh rv iv 1) (hO : OtA sh rv) (hl : PlA sh rv iv E F) (hP : Prm E F) (hP2 : Prm2 E F) (m : Nat) : ∀ (i : Int) (w N D O T S K C : Int → Int), 0 ≤ i → i + m = 99 → Rel w N → Inv E F N → N 368 + m ≤ 14000 → ZK K → (∀ D' O' T' S' K' C' w' : Int → Int, ZK K' → R (some (aI (hlL E F m i N))) sh (uA (CD iv 1 D' O' T' S' K' C') (12 + 42 * 1) w') lw rv) → wp (d + 6) mX5_framesTillAgreed 13 [some (aR 51), some (aI i)] [] sh (uA (CD iv 1 D O T S K C) (12 + 42 * 1) w) lw rv 0 0 R := by
  obtain ⟨hW1, hW2, hO1, hO2, hT1, hT2, hI1, hI2, hF1, hF2⟩ := id hP
  induction m with
  | zero =>
    intro i w N D O T S K C h0' hm hR hI hf hK k
    have hB := hI.1
    have hrr : ∀ a : Int, 0 ≤ a → a < F 13 → RR N a := fun a x y => (hI.2.1 a x y).2.1
    refine wp_iload_n dX5_framesTillAgreed_13 rfl ?_
    refine wp_bipush dX5_framesTillAgreed_14 ?_
    refine wp_icmp_ge (tgt := 44) dX5_framesTillAgreed_16 rfl (fun h16 => ?_) (fun h16 => by exfalso; omega)
    refine wp_aload_n dX5_framesTillAgreed_44 rfl ?_
    refine wp_getR hO.2.2.1 dX5_framesTillAgreed_45 fX5_28 hO.1 ?_
    refine wp_callV (as := []) (ls0 := [_, _]) (kc := 0) (ks := 0) (bc' := 0) (bs' := 0) dX5_framesTillAgreed_48 vX5_68 hN.s11 rfl rfl (Nat.le_of_ble_eq_true rfl) (Nat.le_of_ble_eq_true rfl) (by omega) (by omega) ?_
    refine x_allAgree hN hl hP hR hB hrr (fun h48 => ?_) (fun h48 => ?_)
    · refine wp_if_eq (tgt := 59) dX5_framesTillAgreed_51 rfl (fun q => absurd q (by decide)) (fun _ => ?_)
      refine wp_bipush dX5_framesTillAgreed_54 ?_
      refine wp_goto (tgt := 60) dX5_framesTillAgreed_56 rfl ?_
      refine wp_ireturn dX5_framesTillAgreed_60 rfl ?_
      have hk := k D O T S K C w hK
      rw [hlL] at hk
      first
      | (rw [if_pos h48, show i = 99 by omega] at hk; exact hk)
      | (rw [if_neg h48] at hk; exact hk)
    · refine wp_if_eq (tgt := 59) dX5_framesTillAgreed_51 rfl (fun _ => ?_) (fun q => absurd q (by decide))
      refine wp_iconst dX5_framesTillAgreed_59 ?_
      refine wp_ireturn dX5_framesTillAgreed_60 rfl ?_
      have hk := k D O T S K C w hK
      rw [hlL] at hk
      first
      | (rw [if_pos h48, show i = 99 by omega] at hk; exact hk)
      | (rw [if_neg h48] at hk; exact hk)
  | succ m ih =>
    intro i w N D O T S K C h0' hm hR hI hf hK k
    have hB := hI.1
    have hrr : ∀ a : Int, 0 ≤ a → a < F 13 → RR N a := fun a x y => (hI.2.1 a x y).2.1
    have hL := Inv.liv hP hI (by omega)
    refine wp_iload_n dX5_framesTillAgreed_13 rfl ?_
    refine wp_bipush dX5_framesTillAgreed_14 ?_
    refine wp_icmp_ge (tgt := 44) dX5_framesTillAgreed_16 rfl (fun h16 => by exfalso; omega) (fun h16 => ?_)
    refine wp_aload_n dX5_framesTillAgreed_19 rfl ?_
    refine wp_getR hO.2.2.1 dX5_framesTillAgreed_20 fX5_28 hO.1 ?_
    refine wp_callV (as := []) (ls0 := [_, _]) (kc := 0) (ks := 0) (bc' := 0) (bs' := 0) dX5_framesTillAgreed_23 vX5_68 hN.s11 rfl rfl (Nat.le_of_ble_eq_true rfl) (Nat.le_of_ble_eq_true rfl) (by omega) (by omega) ?_
    refine x_allAgree hN hl hP hR hB hrr (fun h23 => ?_) (fun h23 => ?_)
    · refine wp_if_eq (tgt := 31) dX5_framesTillAgreed_26 rfl (fun q => absurd q (by decide)) (fun _ => ?_)
      refine wp_iload_n dX5_framesTillAgreed_29 rfl ?_
      refine wp_ireturn dX5_framesTillAgreed_30 rfl ?_
      have hk := k D O T S K C w hK
      rw [hlL, if_pos h23] at hk; exact hk
    · refine wp_if_eq (tgt := 31) dX5_framesTillAgreed_26 rfl (fun _ => ?_) (fun q => absurd q (by decide))
      refine wp_aload_n dX5_framesTillAgreed_31 rfl ?_
      refine wp_getR hO.2.2.2.1 dX5_framesTillAgreed_32 fX5_41 hO.1 ?_
      refine wp_callV (as := []) (ls0 := [_, _, _, _, _]) (kc := 0) (ks := 0) (bc' := 0) (bs' := 0) dX5_framesTillAgreed_35 vX5_52 hN.s41 rfl rfl (Nat.le_of_ble_eq_true rfl) (Nat.le_of_ble_eq_true rfl) (by omega) (by omega) ?_
      refine f_passFrame hN hl hP hP2 hR hI (by omega) hK (fun w D O T S K C hR hK hC => ?_)
      refine wp_iinc (ls' := [_, _]) dX5_framesTillAgreed_38 (by decide) rfl rfl ⟨by omega, by omega⟩ rfl ?_
      refine wp_goto (tgt := 13) dX5_framesTillAgreed_41 rfl ?_
      exact ih _ _ _ _ _ _ _ _ _ (by omega) (by omega) hR hL.1 (by rw [hL.2.1]; omega) hK (by rw [hlL, if_neg h23] at k; exact k)
theorem o_agreed (h0 : NtA sh rv iv 0) (hN : NtA sh rv iv 1) (hO : OtA sh rv) (hl : PlA sh rv iv E F) (hP : Prm E F) (hP2 : Prm2 E F) (hI : Inv E F N) (hK : ZK K) (hfr : N 368 ≤ 9999) (hR0 : Rel (iv 12) N) (k : ∀ D' O' T' S' K' C' w' : Int → Int, ZK K' → R (some (aI (hlL E F 99 0 N))) sh (uA (CD iv 1 D' O' T' S' K' C') (12 + 42 * 1) w') lw rv) : wp (d + 6) mX5_framesTillAgreed 0 [some (aR 51), none] [] sh (uA (CD iv 1 D O T S K C) (12 + 42 * 1) w) lw rv 0 0 R := by
  refine wp_aload_n dX5_framesTillAgreed_0 rfl ?_
  refine wp_aload_n dX5_framesTillAgreed_1 rfl ?_
  refine wp_getR hO.2.1 dX5_framesTillAgreed_2 fX5_15 hO.1 ?_
  refine wp_getR h0.r11w dX5_framesTillAgreed_5 fX5_45 h0.s11 ?_
  refine wp_callV (as := [_]) (ls0 := [_, _]) (kc := 0) (ks := 0) (bc' := 0) (bs' := 0) dX5_framesTillAgreed_8 vX5_48 hO.1 rfl rfl (Nat.le_of_ble_eq_true rfl) (Nat.le_of_ble_eq_true rfl) (by omega) (by omega) ?_
  refine o_startFrom h0 hN hO hR0 (fun w hR => ?_)
  refine wp_iconst dX5_framesTillAgreed_11 ?_
  refine wp_istore_n (ls' := [_, _]) dX5_framesTillAgreed_12 (by decide) rfl rfl ?_
  exact l_agreed h0 hN hO hl hP hP2 99 0 _ _ _ _ _ _ _ _ (by omega) (by omega) hR hI (by omega) hK k
theorem l_odds1 {fr : Int} (h0 : NtA sh rv iv 0) (hN : NtA sh rv iv 1) (hO : OtA sh rv) (hl : PlA sh rv iv E F) (hP : Prm E F) (hP2 : Prm2 E F) (hp : 0 ≤ p ∧ p < 6) (hpF : p < F 13) (m : Nat) : ∀ (i x : Int) (w N D O T S K C : Int → Int), 0 ≤ i → i + m = 30 → (0 ≤ x ∧ x ≤ i) → Rel w N → Inv E F N → N 368 + m ≤ 14000 → ZK K → (∀ D' O' T' S' K' C' w' : Int → Int, ZK K' → R (some (aI (if (i ≤ fr ∧ fr < 30) ∧ ¬ liN E F (fr - i).toNat N (61 * p + 43) = 1 then -1 else x + hmN E F fr p m i N))) sh (uA (CD iv 1 D' O' T' S' K' C') (12 + 42 * 1) w') lw rv) → wp (d + 6) mX5_framesAtOdds 16 [some (aR 51), some (aI fr), some (aI p), some (aI x), some (aI i)] [] sh (uA (CD iv 1 D O T S K C) (12 + 42 * 1) w) lw rv 0 0 R := by
  obtain ⟨hW1, hW2, hO1, hO2, hT1, hT2, hI1, hI2, hF1, hF2⟩ := id hP
  induction m with
  | zero =>
    intro i x w N D O T S K C h0' hm hx hR hI hf hK k
    refine wp_iload dX5_framesAtOdds_16 rfl ?_
    refine wp_bipush dX5_framesAtOdds_18 ?_
    refine wp_icmp_ge (tgt := 95) dX5_framesAtOdds_20 rfl (fun h20 => ?_) (fun h20 => by exfalso; omega)
    refine wp_iload_n dX5_framesAtOdds_95 rfl ?_
    refine wp_ireturn dX5_framesAtOdds_96 rfl ?_
    have hk := k D O T S K C w hK
    rw [if_neg (by omega), hmN, Int.add_zero] at hk; exact hk
  | succ m ih =>
    intro i x w N D O T S K C h0' hm hx hR hI hf hK k
    have hs := hmS_ok (fr := fr) (p := p) (k := i) hP hI (by omega) hp
    have hB := hs.1.1
    have hrr : ∀ a : Int, 0 ≤ a → a < F 13 → RR (hmS E F fr p i N) a := fun a x y => (hs.1.2.1 a x y).2.1
    by_cases hfi : i = fr
    · have hd := hI.drop (p := p) hP hp
      have e368 : up N (61 * p + 43) 0 368 = N 368 := up_n (by omega)
      have es : hmS E F fr p i N = livF E F (up N (61 * p + 43) 0) := by unfold hmS; rw [if_pos hfi]
      have el : liN E F (fr - i).toNat N = N := by rw [show (fr - i).toNat = 0 by omega, liN]
      rw [el] at k
      refine wp_iload dX5_framesAtOdds_16 rfl ?_
      refine wp_bipush dX5_framesAtOdds_18 ?_
      refine wp_icmp_ge (tgt := 95) dX5_framesAtOdds_20 rfl (fun h20 => by exfalso; omega) (fun h20 => ?_)
      refine wp_iload dX5_framesAtOdds_23 rfl ?_
      refine wp_iload_n dX5_framesAtOdds_25 rfl ?_
      refine wp_icmp_ne (tgt := 64) dX5_framesAtOdds_26 rfl (fun h26 => by exfalso; omega) (fun h26 => ?_)
      refine wp_aload_n dX5_framesAtOdds_29 rfl ?_
      refine wp_getR hO.2.2.1 dX5_framesAtOdds_30 fX5_28 hO.1 ?_
      refine wp_getR hN.r11l dX5_framesAtOdds_33 fX5_59 hN.s11 ?_
      refine wp_iload_n dX5_framesAtOdds_36 rfl ?_
      refine wp_aaldL dX5_framesAtOdds_37 hN.s13 (by omega) (by omega) (hN.r13 hp) ?_
      refine wp_getR (hN.rlm hp) dX5_framesAtOdds_38 fX5_75 (hN.sl hp) ?_
      refine wp_callV (as := []) (ls0 := [_]) (kc := 0) (ks := 0) (bc' := 0) (bs' := 0) dX5_framesAtOdds_41 vX5_79 (hN.sm hp) rfl rfl (Nat.le_of_ble_eq_true rfl) (Nat.le_of_ble_eq_true rfl) (by omega) (by omega) ?_
      refine t_isUnderWay (hN.lk hp).sM hR (fun h41 => ?_) (fun h41 => ?_)
      · refine wp_if_ne (tgt := 49) dX5_framesAtOdds_44 rfl (fun _ => ?_) (fun q => absurd q (by decide))
        refine wp_aload_n dX5_framesAtOdds_49 rfl ?_
        refine wp_getR hO.2.2.1 dX5_framesAtOdds_50 fX5_28 hO.1 ?_
        refine wp_getR hN.r11l dX5_framesAtOdds_53 fX5_59 hN.s11 ?_
        refine wp_iload_n dX5_framesAtOdds_56 rfl ?_
        refine wp_aaldL dX5_framesAtOdds_57 hN.s13 (by omega) (by omega) (hN.r13 hp) ?_
        refine wp_getR (hN.rlm hp) dX5_framesAtOdds_58 fX5_75 (hN.sl hp) ?_
        refine wp_callV (as := []) (ls0 := [_]) (kc := 0) (ks := 0) (bc' := 0) (bs' := 0) dX5_framesAtOdds_61 vX5_84 (hN.sm hp) rfl rfl (Nat.le_of_ble_eq_true rfl) (Nat.le_of_ble_eq_true rfl) (by omega) (by omega) ?_
        refine t_drop (hN.lk hp).sM hR (fun w hR => ?_)
        refine wp_aload_n dX5_framesAtOdds_64 rfl ?_
        refine wp_getR hO.2.2.2.1 dX5_framesAtOdds_65 fX5_41 hO.1 ?_
        refine wp_callV (as := []) (ls0 := [_, _, _, _, _]) (kc := 0) (ks := 0) (bc' := 0) (bs' := 0) dX5_framesAtOdds_68 vX5_52 hN.s41 rfl rfl (Nat.le_of_ble_eq_true rfl) (Nat.le_of_ble_eq_true rfl) (by omega) (by omega) ?_
        refine f_passFrame hN hl hP hP2 hR hd (by omega) hK (fun w D O T S K C hR hK hC => ?_)
        rw [← es] at hR
        refine wp_iload_n dX5_framesAtOdds_71 rfl ?_
        refine wp_aload_n dX5_framesAtOdds_72 rfl ?_
        refine wp_getR hO.2.2.1 dX5_framesAtOdds_73 fX5_28 hO.1 ?_
        refine wp_callV (as := []) (ls0 := [_, _]) (kc := 0) (ks := 0) (bc' := 0) (bs' := 0) dX5_framesAtOdds_76 vX5_68 hN.s11 rfl rfl (Nat.le_of_ble_eq_true rfl) (Nat.le_of_ble_eq_true rfl) (by omega) (by omega) ?_
        refine x_allAgree hN hl hP hR hB hrr (fun h76 => ?_) (fun h76 => ?_)
        · have hc := cn1_f (P := ¬ AllA F (hmS E F fr p i N)) (fun z => z h76)
          refine wp_if_eq (tgt := 86) dX5_framesAtOdds_79 rfl (fun q => absurd q (by decide)) (fun _ => ?_)
          refine wp_iconst dX5_framesAtOdds_82 ?_
          refine wp_goto (tgt := 87) dX5_framesAtOdds_83 rfl ?_
          refine wp_iadd dX5_framesAtOdds_87 ⟨by omega, by omega⟩ ?_
          refine wp_istore_n (ls' := [_, _, _, _, _]) dX5_framesAtOdds_88 (by decide) rfl rfl ?_
          refine wp_iinc (ls' := [_, _, _, _, _]) dX5_framesAtOdds_89 (by decide) rfl rfl ⟨by omega, by omega⟩ rfl ?_
          refine wp_goto (tgt := 16) dX5_framesAtOdds_92 rfl ?_
          refine ih _ _ _ _ _ _ _ _ _ _ (by omega) (by omega) (by omega) hR hs.1 (by rw [hs.2.2]; omega) hK (fun D O T S K C w hK => ?_)
          have hk := k D O T S K C w hK
          rw [if_neg (fun z => z.2 h41), hmN, hc, ← Int.add_assoc] at hk
          rw [if_neg (by omega)]
          exact hk
        · have hc := cn1_t (P := ¬ AllA F (hmS E F fr p i N)) h76
          refine wp_if_eq (tgt := 86) dX5_framesAtOdds_79 rfl (fun _ => ?_) (fun q => absurd q (by decide))
          refine wp_iconst dX5_framesAtOdds_86 ?_
          refine wp_iadd dX5_framesAtOdds_87 ⟨by omega, by omega⟩ ?_
          refine wp_istore_n (ls' := [_, _, _, _, _]) dX5_framesAtOdds_88 (by decide) rfl rfl ?_
          refine wp_iinc (ls' := [_, _, _, _, _]) dX5_framesAtOdds_89 (by decide) rfl rfl ⟨by omega, by omega⟩ rfl ?_
          refine wp_goto (tgt := 16) dX5_framesAtOdds_92 rfl ?_
          refine ih _ _ _ _ _ _ _ _ _ _ (by omega) (by omega) (by omega) hR hs.1 (by rw [hs.2.2]; omega) hK (fun D O T S K C w hK => ?_)
          have hk := k D O T S K C w hK
          rw [if_neg (fun z => z.2 h41), hmN, hc, ← Int.add_assoc] at hk
          rw [if_neg (by omega)]
          exact hk
      · refine wp_if_ne (tgt := 49) dX5_framesAtOdds_44 rfl (fun q => absurd q (by decide)) (fun _ => ?_)
        refine wp_iconst dX5_framesAtOdds_47 ?_
        refine wp_ireturn dX5_framesAtOdds_48 rfl ?_
        have hk := k D O T S K C w hK
        rw [if_pos ⟨by omega, h41⟩] at hk; exact hk
    · have es : hmS E F fr p i N = livF E F N := by unfold hmS; rw [if_neg hfi]
      refine wp_iload dX5_framesAtOdds_16 rfl ?_
      refine wp_bipush dX5_framesAtOdds_18 ?_
      refine wp_icmp_ge (tgt := 95) dX5_framesAtOdds_20 rfl (fun h20 => by exfalso; omega) (fun h20 => ?_)
      refine wp_iload dX5_framesAtOdds_23 rfl ?_
      refine wp_iload_n dX5_framesAtOdds_25 rfl ?_
      refine wp_icmp_ne (tgt := 64) dX5_framesAtOdds_26 rfl (fun h26 => ?_) (fun h26 => by exfalso; omega)
      refine wp_aload_n dX5_framesAtOdds_64 rfl ?_
      refine wp_getR hO.2.2.2.1 dX5_framesAtOdds_65 fX5_41 hO.1 ?_
      refine wp_callV (as := []) (ls0 := [_, _, _, _, _]) (kc := 0) (ks := 0) (bc' := 0) (bs' := 0) dX5_framesAtOdds_68 vX5_52 hN.s41 rfl rfl (Nat.le_of_ble_eq_true rfl) (Nat.le_of_ble_eq_true rfl) (by omega) (by omega) ?_
      refine f_passFrame hN hl hP hP2 hR hI (by omega) hK (fun w D O T S K C hR hK hC => ?_)
      rw [← es] at hR
      refine wp_iload_n dX5_framesAtOdds_71 rfl ?_
      refine wp_aload_n dX5_framesAtOdds_72 rfl ?_
      refine wp_getR hO.2.2.1 dX5_framesAtOdds_73 fX5_28 hO.1 ?_
      refine wp_callV (as := []) (ls0 := [_, _]) (kc := 0) (ks := 0) (bc' := 0) (bs' := 0) dX5_framesAtOdds_76 vX5_68 hN.s11 rfl rfl (Nat.le_of_ble_eq_true rfl) (Nat.le_of_ble_eq_true rfl) (by omega) (by omega) ?_
      refine x_allAgree hN hl hP hR hB hrr (fun h76 => ?_) (fun h76 => ?_)
      · have hc := cn1_f (P := ¬ AllA F (hmS E F fr p i N)) (fun z => z h76)
        refine wp_if_eq (tgt := 86) dX5_framesAtOdds_79 rfl (fun q => absurd q (by decide)) (fun _ => ?_)
        refine wp_iconst dX5_framesAtOdds_82 ?_
        refine wp_goto (tgt := 87) dX5_framesAtOdds_83 rfl ?_
        refine wp_iadd dX5_framesAtOdds_87 ⟨by omega, by omega⟩ ?_
        refine wp_istore_n (ls' := [_, _, _, _, _]) dX5_framesAtOdds_88 (by decide) rfl rfl ?_
        refine wp_iinc (ls' := [_, _, _, _, _]) dX5_framesAtOdds_89 (by decide) rfl rfl ⟨by omega, by omega⟩ rfl ?_
        refine wp_goto (tgt := 16) dX5_framesAtOdds_92 rfl ?_
        refine ih _ _ _ _ _ _ _ _ _ _ (by omega) (by omega) (by omega) hR hs.1 (by rw [hs.2.2]; omega) hK (fun D O T S K C w hK => ?_)
        have hk := k D O T S K C w hK
        by_cases hr : i ≤ fr ∧ fr < 30
        · rw [show (fr - i).toNat = (fr - (i + 1)).toNat + 1 by omega, liN, ← es, hmN, hc, ← Int.add_assoc] at hk
          by_cases hz : liN E F (fr - (i + 1)).toNat (hmS E F fr p i N) (61 * p + 43) = 1
          · rw [if_neg (fun z => z.2 hz)] at hk ⊢; exact hk
          · rw [if_pos ⟨hr, hz⟩] at hk; rw [if_pos ⟨by omega, hz⟩]; exact hk
        · rw [if_neg (fun z => hr z.1), hmN, hc, ← Int.add_assoc] at hk
          rw [if_neg (fun z => by omega)]; exact hk
      · have hc := cn1_t (P := ¬ AllA F (hmS E F fr p i N)) h76
        refine wp_if_eq (tgt := 86) dX5_framesAtOdds_79 rfl (fun _ => ?_) (fun q => absurd q (by decide))
        refine wp_iconst dX5_framesAtOdds_86 ?_
        refine wp_iadd dX5_framesAtOdds_87 ⟨by omega, by omega⟩ ?_
        refine wp_istore_n (ls' := [_, _, _, _, _]) dX5_framesAtOdds_88 (by decide) rfl rfl ?_
        refine wp_iinc (ls' := [_, _, _, _, _]) dX5_framesAtOdds_89 (by decide) rfl rfl ⟨by omega, by omega⟩ rfl ?_
        refine wp_goto (tgt := 16) dX5_framesAtOdds_92 rfl ?_
        refine ih _ _ _ _ _ _ _ _ _ _ (by omega) (by omega) (by omega) hR hs.1 (by rw [hs.2.2]; omega) hK (fun D O T S K C w hK => ?_)
        have hk := k D O T S K C w hK
        by_cases hr : i ≤ fr ∧ fr < 30
        · rw [show (fr - i).toNat = (fr - (i + 1)).toNat + 1 by omega, liN, ← es, hmN, hc, ← Int.add_assoc] at hk
          by_cases hz : liN E F (fr - (i + 1)).toNat (hmS E F fr p i N) (61 * p + 43) = 1
          · rw [if_neg (fun z => z.2 hz)] at hk ⊢; exact hk
          · rw [if_pos ⟨hr, hz⟩] at hk; rw [if_pos ⟨by omega, hz⟩]; exact hk
        · rw [if_neg (fun z => hr z.1), hmN, hc, ← Int.add_assoc] at hk
          rw [if_neg (fun z => by omega)]; exact hk
theorem o_atOdds {fr : Int} (h0 : NtA sh rv iv 0) (hN : NtA sh rv iv 1) (hO : OtA sh rv) (hl : PlA sh rv iv E F) (hP : Prm E F) (hP2 : Prm2 E F) (hI : Inv E F N) (hK : ZK K) (hfr : N 368 ≤ 9999) (hp : 0 ≤ p ∧ p < 6) (hpF : p < F 13) (hf : 0 ≤ fr ∧ fr < 30) (hR0 : Rel (iv 12) N) (k : ∀ D' O' T' S' K' C' w' : Int → Int, ZK K' → R (some (aI (hmV E F N fr p))) sh (uA (CD iv 1 D' O' T' S' K' C') (12 + 42 * 1) w') lw rv) : wp (d + 6) mX5_framesAtOdds 0 [some (aR 51), some (aI fr), some (aI p), none, none] [] sh (uA (CD iv 1 D O T S K C) (12 + 42 * 1) w) lw rv 0 0 R := by
  refine wp_aload_n dX5_framesAtOdds_0 rfl ?_
  refine wp_aload_n dX5_framesAtOdds_1 rfl ?_
  refine wp_getR hO.2.1 dX5_framesAtOdds_2 fX5_15 hO.1 ?_
  refine wp_getR h0.r11w dX5_framesAtOdds_5 fX5_45 h0.s11 ?_
  refine wp_callV (as := [_]) (ls0 := [_, _]) (kc := 0) (ks := 0) (bc' := 0) (bs' := 0) dX5_framesAtOdds_8 vX5_48 hO.1 rfl rfl (Nat.le_of_ble_eq_true rfl) (Nat.le_of_ble_eq_true rfl) (by omega) (by omega) ?_
  refine o_startFrom h0 hN hO hR0 (fun w hR => ?_)
  refine wp_iconst dX5_framesAtOdds_11 ?_
  refine wp_istore_n (ls' := [_, _, _, _, _]) dX5_framesAtOdds_12 (by decide) rfl rfl ?_
  refine wp_iconst dX5_framesAtOdds_13 ?_
  refine wp_istore (ls' := [_, _, _, _, _]) dX5_framesAtOdds_14 (by decide) rfl rfl ?_
  refine l_odds1 h0 hN hO hl hP hP2 hp hpF 30 0 0 _ _ _ _ _ _ _ _ (by omega) (by omega) (by omega) hR hI (by omega) hK (fun D' O' T' S' K' C' w' hK' => ?_)
  have hk := k D' O' T' S' K' C' w' hK'
  unfold hmV at hk
  rw [show fr - 0 = fr by omega, Int.zero_add]
  by_cases hz : liN E F fr.toNat N (61 * p + 43) = 1
  · rw [if_pos hz] at hk; rw [if_neg (fun z => z.2 hz)]; exact hk
  · rw [if_neg hz] at hk; rw [if_pos ⟨by omega, hz⟩]; exact hk
end C19
