section C8
variable {d b : Nat} {sh : aSh} {iv lw E : aF} {rv : aP} {D O T S K C w N F : Int → Int} {R : aPost} {p : Int}
theorem Rel.eq {N' : Int → Int} (h : Rel w N) (e : N = N') : Rel w N' := e ▸ h
theorem e_isTwoSteps (hN : NtA sh rv iv b) (hl : PlA sh rv iv E F) (hP : Prm E F) (hp : 0 ≤ p ∧ p < 6) (hpF : p < F 13) (kt : E 6 (4 * p + 2) = 2 → R (some (aI 1)) sh (uA (CD iv b D O T S K C) (12 + 42 * b) w) lw rv) (kf : ¬ E 6 (4 * p + 2) = 2 → R (some (aI 0)) sh (uA (CD iv b D O T S K C) (12 + 42 * b) w) lw rv) : wp (d + 1) mX1_isTwoSteps 0 [some (aR (38 + 43 * b)), some (aR (lid b p))] [] sh (uA (CD iv b D O T S K C) (12 + 42 * b) w) lw rv 0 0 R := by
  obtain ⟨hW1, hW2, hO1, hO2, hT1, hT2, hI1, hI2, hF1, hF2⟩ := id hP
  refine wp_aload_n dX1_isTwoSteps_0 rfl ?_
  refine wp_getR hN.r38p dX1_isTwoSteps_1 fX1_30 hN.s38 ?_
  refine wp_aload_n dX1_isTwoSteps_4 rfl ?_
  refine wp_getI dX1_isTwoSteps_5 fX1_192 (hN.sl hp) ?_
  rw [hN.no hp]
  refine wp_iconst dX1_isTwoSteps_8 ?_
  refine wp_callV (as := [_, _]) (ls0 := [_, _, _]) (kc := 0) (ks := 0) (bc' := 0) (bs' := 0) dX1_isTwoSteps_9 vX1_195 hl.1 rfl rfl (Nat.le_of_ble_eq_true rfl) (Nat.le_of_ble_eq_true rfl) (by omega) (by omega) ?_
  refine n_itemOf (by omega) (by omega) (by omega) (hN.pl hl) ?_
  refine wp_iconst dX1_isTwoSteps_12 ?_
  refine wp_icmp_ne (tgt := 20) dX1_isTwoSteps_13 rfl (fun h13 => ?_) (fun h13 => ?_)
  · refine wp_iconst dX1_isTwoSteps_20 ?_
    refine wp_zreturn dX1_isTwoSteps_21 rfl (Or.inl rfl) ?_
    exact kf (by assumption)
  · refine wp_iconst dX1_isTwoSteps_16 ?_
    refine wp_goto (tgt := 21) dX1_isTwoSteps_17 rfl ?_
    refine wp_zreturn dX1_isTwoSteps_21 rfl (Or.inr rfl) ?_
    exact kt (by assumption)
theorem e_senderOf (hN : NtA sh rv iv b) (hl : PlA sh rv iv E F) (hP : Prm E F) (hp : 0 ≤ p ∧ p < 6) (hpF : p < F 13) (k : R (some (aI (E 6 (4 * p + 0)))) sh (uA (CD iv b D O T S K C) (12 + 42 * b) w) lw rv) : wp (d + 1) mX1_senderOf 0 [some (aR (38 + 43 * b)), some (aR (lid b p))] [] sh (uA (CD iv b D O T S K C) (12 + 42 * b) w) lw rv 0 0 R := by
  obtain ⟨hW1, hW2, hO1, hO2, hT1, hT2, hI1, hI2, hF1, hF2⟩ := id hP
  refine wp_aload_n dX1_senderOf_0 rfl ?_
  refine wp_getR hN.r38p dX1_senderOf_1 fX1_30 hN.s38 ?_
  refine wp_aload_n dX1_senderOf_4 rfl ?_
  refine wp_getI dX1_senderOf_5 fX1_192 (hN.sl hp) ?_
  rw [hN.no hp]
  refine wp_iconst dX1_senderOf_8 ?_
  refine wp_callV (as := [_, _]) (ls0 := [_, _, _]) (kc := 0) (ks := 0) (bc' := 0) (bs' := 0) dX1_senderOf_9 vX1_195 hl.1 rfl rfl (Nat.le_of_ble_eq_true rfl) (Nat.le_of_ble_eq_true rfl) (by omega) (by omega) ?_
  refine n_itemOf (by omega) (by omega) (by omega) (hN.pl hl) ?_
  refine wp_ireturn dX1_senderOf_12 rfl ?_
  exact k
theorem e_receiverOf (hN : NtA sh rv iv b) (hl : PlA sh rv iv E F) (hP : Prm E F) (hp : 0 ≤ p ∧ p < 6) (hpF : p < F 13) (k : R (some (aI (E 6 (4 * p + 1)))) sh (uA (CD iv b D O T S K C) (12 + 42 * b) w) lw rv) : wp (d + 1) mX1_receiverOf 0 [some (aR (38 + 43 * b)), some (aR (lid b p))] [] sh (uA (CD iv b D O T S K C) (12 + 42 * b) w) lw rv 0 0 R := by
  obtain ⟨hW1, hW2, hO1, hO2, hT1, hT2, hI1, hI2, hF1, hF2⟩ := id hP
  refine wp_aload_n dX1_receiverOf_0 rfl ?_
  refine wp_getR hN.r38p dX1_receiverOf_1 fX1_30 hN.s38 ?_
  refine wp_aload_n dX1_receiverOf_4 rfl ?_
  refine wp_getI dX1_receiverOf_5 fX1_192 (hN.sl hp) ?_
  rw [hN.no hp]
  refine wp_iconst dX1_receiverOf_8 ?_
  refine wp_callV (as := [_, _]) (ls0 := [_, _, _]) (kc := 0) (ks := 0) (bc' := 0) (bs' := 0) dX1_receiverOf_9 vX1_195 hl.1 rfl rfl (Nat.le_of_ble_eq_true rfl) (Nat.le_of_ble_eq_true rfl) (by omega) (by omega) ?_
  refine n_itemOf (by omega) (by omega) (by omega) (hN.pl hl) ?_
  refine wp_ireturn dX1_receiverOf_12 rfl ?_
  exact k
theorem em_lt {a W : Int} (h0 : 0 ≤ a) (h1 : a < W) : a % W = a := Int.emod_eq_of_lt h0 h1
theorem em_sub {a W : Int} (h0 : 0 ≤ a - W) (h1 : a - W < W) : a % W = a - W := by
  have e : (a - W + W) % W = (a - W) % W := Int.add_emod_right (a - W) W
  rw [show a - W + W = a by omega, Int.emod_eq_of_lt h0 h1] at e
  exact e
theorem offs_mod {Q : Int → Prop} {W Of p fr : Int} (m : Nat) : ∀ k : Int, offs Q W Of p (fr % W) m k = offs Q W Of p fr m k := by
  induction m with
  | zero => intro k; rfl
  | succ m ih => intro k; rw [offs, offs, Int.emod_add_emod, ih]
theorem Lf_c {x : Int} {L : List Int} {j : Int} (hj : 0 ≤ j) : Lf (x :: L) (j + 1) = Lf L j := by
  unfold Lf; rw [show (j + 1).toNat = j.toNat + 1 by omega]; rfl
theorem Lf_0 {x : Int} {L : List Int} : Lf (x :: L) 0 = x := rfl
theorem len_c {x : Int} {L : List Int} : ((x :: L).length : Int) = (L.length : Int) + 1 := by rw [List.length_cons]; rfl
theorem l_gather {x fr most : Int} {Q : Int → Prop} (hN : NtA sh rv iv b) (hl : PlA sh rv iv E F) (hP : Prm E F) (hp : 0 ≤ p ∧ p < 6) (hx : Bts x Q) (hfr : 0 ≤ fr ∧ fr ≤ E 5 0) (hmo : 0 ≤ most ∧ most ≤ 16) (m : Nat) : ∀ (j n : Int) (D O : Int → Int) (v7 : Option aV), 0 ≤ j → j + m = E 5 0 → 0 ≤ n → n ≤ j → D 4 = n → n ≤ most → (∀ D' O' : Int → Int, D' 5 = D 5 → D' 4 = mnI most (n + ((offs Q (E 5 0) (E 5 1) p fr m j).length : Int)) → (∀ z : Int, 0 ≤ z → z < n → O' z = O z) → (∀ z : Int, 0 ≤ z → n + z < D' 4 → O' (n + z) = Lf (offs Q (E 5 0) (E 5 1) p fr m j) z) → R (some (aI (D' 4))) sh (uA (CD iv b D' O' T S K C) (12 + 42 * b) w) lw rv) → wp (d + 1) mX1_gatherOffers 17 [some (aR (38 + 43 * b)), some (aI p), some (aI x), some (aI fr), some (aI most), some (aI (E 5 0)), some (aI j), v7] [] sh (uA (CD iv b D O T S K C) (12 + 42 * b) w) lw rv 0 0 R := by
  obtain ⟨hW1, hW2, hO1, hO2, hT1, hT2, hI1, hI2, hF1, hF2⟩ := id hP
  have hx1 := hx.1
  induction m with
  | zero =>
    intro j n D O v7 h0 hm hn hnj hD hnm k
    refine wp_iload dX1_gatherOffers_17 rfl ?_
    refine wp_iload dX1_gatherOffers_19 rfl ?_
    refine wp_icmp_ge (tgt := 109) dX1_gatherOffers_21 rfl (fun h21 => ?_) (fun h21 => by exfalso; omega)
    refine wp_aload_n dX1_gatherOffers_109 rfl ?_
    refine wp_getI dX1_gatherOffers_110 fX1_37 hN.s38 ?_
    rw [CS38]
    refine wp_ireturn dX1_gatherOffers_113 rfl ?_
    refine k D O rfl ?_ (fun _ _ _ => rfl) (fun z z1 z2 => by omega)
    unfold mnI
    rw [show ((offs Q (E 5 0) (E 5 1) p fr 0 j).length : Int) = 0 from rfl]
    split <;> omega
  | succ m ih =>
    intro j n D O v7 h0 hm hn hnj hD hnm k
    have hln : 0 ≤ ((offs Q (E 5 0) (E 5 1) p fr (m + 1) j).length : Int) := Int.natCast_nonneg _
    refine wp_iload dX1_gatherOffers_17 rfl ?_
    refine wp_iload dX1_gatherOffers_19 rfl ?_
    refine wp_icmp_ge (tgt := 109) dX1_gatherOffers_21 rfl (fun h21 => by exfalso; omega) (fun h21 => ?_)
    refine wp_iload dX1_gatherOffers_24 rfl ?_
    refine wp_bipush dX1_gatherOffers_26 ?_
    refine wp_icmp_ge (tgt := 109) dX1_gatherOffers_28 rfl (fun h28 => by exfalso; omega) (fun h28 => ?_)
    refine wp_aload_n dX1_gatherOffers_31 rfl ?_
    refine wp_getI dX1_gatherOffers_32 fX1_37 hN.s38 ?_
    rw [CS38]
    rw [hD]
    refine wp_iload dX1_gatherOffers_35 rfl ?_
    refine wp_icmp_ge (tgt := 109) dX1_gatherOffers_37 rfl (fun h37 => ?_) (fun h37 => ?_)
    · refine wp_aload_n dX1_gatherOffers_109 rfl ?_
      refine wp_getI dX1_gatherOffers_110 fX1_37 hN.s38 ?_
      rw [CS38]
      refine wp_ireturn dX1_gatherOffers_113 rfl ?_
      refine k D O rfl ?_ (fun _ _ _ => rfl) (fun z z1 z2 => by omega)
      unfold mnI
      split <;> omega
    · refine wp_iload_n dX1_gatherOffers_40 rfl ?_
      refine wp_iload dX1_gatherOffers_41 rfl ?_
      refine wp_iadd dX1_gatherOffers_43 ⟨by omega, by omega⟩ ?_
      refine wp_iload dX1_gatherOffers_44 rfl ?_
      refine wp_icmp_ge (tgt := 56) dX1_gatherOffers_46 rfl (fun h46 => ?_) (fun h46 => ?_)
      · have es : (fr + j) % E 5 0 = fr + j - E 5 0 := em_sub (by omega) (by omega)
        refine wp_iload_n dX1_gatherOffers_56 rfl ?_
        refine wp_iload dX1_gatherOffers_57 rfl ?_
        refine wp_iadd dX1_gatherOffers_59 ⟨by omega, by omega⟩ ?_
        refine wp_iload dX1_gatherOffers_60 rfl ?_
        refine wp_isub dX1_gatherOffers_62 ⟨by omega, by omega⟩ ?_
        refine wp_istore (ls' := [_, _, _, _, _, _, _, _]) dX1_gatherOffers_63 (by decide) rfl rfl ?_
        refine wp_iload_n dX1_gatherOffers_65 rfl ?_
        refine wp_iload dX1_gatherOffers_66 rfl ?_
        refine wp_ishr dX1_gatherOffers_68 (by omega) (by omega) ?_
        refine wp_iconst dX1_gatherOffers_69 ?_
        refine wp_iand dX1_gatherOffers_70 (by first | exact bt_nn hx1 | decide) (by first | exact bt_nn hx1 | decide) ?_
        refine wp_if_ne (tgt := 103) dX1_gatherOffers_71 rfl (fun h71 => ?_) (fun h71 => ?_)
        · refine wp_iinc (ls' := [_, _, _, _, _, _, _, _]) dX1_gatherOffers_103 (by decide) rfl rfl ⟨by omega, by omega⟩ rfl ?_
          refine wp_goto (tgt := 17) dX1_gatherOffers_106 rfl ?_
          first
          | (have h71' : Q ((fr + j) % E 5 0) := by rw [es]; exact (hx.2.2 _ (by omega) (by omega)).mp (bt_n0 h71)
             rw [offs_t h71'] at k
             exact ih _ _ _ _ _ (by omega) (by omega) (by omega) (by omega) hD hnm k)
          | (have h71' : ¬ Q ((fr + j) % E 5 0) := by rw [es]; exact fun z => bt_0 h71 ((hx.2.2 _ (by omega) (by omega)).mpr z)
             rw [offs_f h71', es] at k
             refine ih _ _ _ _ _ (by omega) (by omega) (by omega) (by omega) up_s (by omega) (fun D' O' g1 g2 g3 g4 => k D' O' (by rw [g1, up_n (by omega)]) (by rw [g2, len_c]; congr 1; omega) (fun z z1 z2 => by rw [g3 z z1 (by omega), up_n (by omega)]) (fun z z1 z2 => ?_))
             by_cases e0 : z = 0
             · rw [e0, Lf_0, show n + 0 = n by omega, g3 n (by omega) (by omega), up_s]
             · have := g4 (z - 1) (by omega) (by omega)
               rw [show n + 1 + (z - 1) = n + z by omega] at this
               rw [this, show z = z - 1 + 1 by omega, Lf_c (by omega), show z - 1 + 1 - 1 = z - 1 by omega])
        · refine wp_aload_n dX1_gatherOffers_74 rfl ?_
          refine wp_getR hN.r38o dX1_gatherOffers_75 fX1_9 hN.s38 ?_
          refine wp_aload_n dX1_gatherOffers_78 rfl ?_
          refine wp_getI dX1_gatherOffers_79 fX1_37 hN.s38 ?_
          rw [CS38]
          rw [hD]
          refine wp_aload_n dX1_gatherOffers_82 rfl ?_
          refine wp_getR hN.r38p dX1_gatherOffers_83 fX1_30 hN.s38 ?_
          refine wp_iload dX1_gatherOffers_86 rfl ?_
          refine wp_iload_n dX1_gatherOffers_88 rfl ?_
          refine wp_callV (as := [_, _]) (ls0 := [_, _, _, _]) (kc := 0) (ks := 0) (bc' := 0) (bs' := 0) dX1_gatherOffers_89 vX1_41 hl.1 rfl rfl (Nat.le_of_ble_eq_true rfl) (Nat.le_of_ble_eq_true rfl) (by omega) (by omega) ?_
          refine n_cellInSlot hP (by omega) hp (hN.pl hl) ?_
          refine wp_iast dX1_gatherOffers_92 hN.s39 (by omega) (by omega) ?_
          rw [CSu39]
          refine wp_aload_n dX1_gatherOffers_93 rfl ?_
          refine wp_dup dX1_gatherOffers_94 rfl ?_
          refine wp_getI dX1_gatherOffers_95 fX1_37 hN.s38 ?_
          rw [CS38]
          rw [hD]
          refine wp_iconst dX1_gatherOffers_98 ?_
          refine wp_iadd dX1_gatherOffers_99 ⟨by omega, by omega⟩ ?_
          refine wp_putI dX1_gatherOffers_100 fX1_37 hN.s38 ?_
          rw [CSu38]
          refine wp_iinc (ls' := [_, _, _, _, _, _, _, _]) dX1_gatherOffers_103 (by decide) rfl rfl ⟨by omega, by omega⟩ rfl ?_
          refine wp_goto (tgt := 17) dX1_gatherOffers_106 rfl ?_
          first
          | (have h71' : Q ((fr + j) % E 5 0) := by rw [es]; exact (hx.2.2 _ (by omega) (by omega)).mp (bt_n0 h71)
             rw [offs_t h71'] at k
             exact ih _ _ _ _ _ (by omega) (by omega) (by omega) (by omega) hD hnm k)
          | (have h71' : ¬ Q ((fr + j) % E 5 0) := by rw [es]; exact fun z => bt_0 h71 ((hx.2.2 _ (by omega) (by omega)).mpr z)
             rw [offs_f h71', es] at k
             refine ih _ _ _ _ _ (by omega) (by omega) (by omega) (by omega) up_s (by omega) (fun D' O' g1 g2 g3 g4 => k D' O' (by rw [g1, up_n (by omega)]) (by rw [g2, len_c]; congr 1; omega) (fun z z1 z2 => by rw [g3 z z1 (by omega), up_n (by omega)]) (fun z z1 z2 => ?_))
             by_cases e0 : z = 0
             · rw [e0, Lf_0, show n + 0 = n by omega, g3 n (by omega) (by omega), up_s]
             · have := g4 (z - 1) (by omega) (by omega)
               rw [show n + 1 + (z - 1) = n + z by omega] at this
               rw [this, show z = z - 1 + 1 by omega, Lf_c (by omega), show z - 1 + 1 - 1 = z - 1 by omega])
      · have es : (fr + j) % E 5 0 = fr + j := em_lt (by omega) (by omega)
        refine wp_iload_n dX1_gatherOffers_49 rfl ?_
        refine wp_iload dX1_gatherOffers_50 rfl ?_
        refine wp_iadd dX1_gatherOffers_52 ⟨by omega, by omega⟩ ?_
        refine wp_goto (tgt := 63) dX1_gatherOffers_53 rfl ?_
        refine wp_istore (ls' := [_, _, _, _, _, _, _, _]) dX1_gatherOffers_63 (by decide) rfl rfl ?_
        refine wp_iload_n dX1_gatherOffers_65 rfl ?_
        refine wp_iload dX1_gatherOffers_66 rfl ?_
        refine wp_ishr dX1_gatherOffers_68 (by omega) (by omega) ?_
        refine wp_iconst dX1_gatherOffers_69 ?_
        refine wp_iand dX1_gatherOffers_70 (by first | exact bt_nn hx1 | decide) (by first | exact bt_nn hx1 | decide) ?_
        refine wp_if_ne (tgt := 103) dX1_gatherOffers_71 rfl (fun h71 => ?_) (fun h71 => ?_)
        · refine wp_iinc (ls' := [_, _, _, _, _, _, _, _]) dX1_gatherOffers_103 (by decide) rfl rfl ⟨by omega, by omega⟩ rfl ?_
          refine wp_goto (tgt := 17) dX1_gatherOffers_106 rfl ?_
          first
          | (have h71' : Q ((fr + j) % E 5 0) := by rw [es]; exact (hx.2.2 _ (by omega) (by omega)).mp (bt_n0 h71)
             rw [offs_t h71'] at k
             exact ih _ _ _ _ _ (by omega) (by omega) (by omega) (by omega) hD hnm k)
          | (have h71' : ¬ Q ((fr + j) % E 5 0) := by rw [es]; exact fun z => bt_0 h71 ((hx.2.2 _ (by omega) (by omega)).mpr z)
             rw [offs_f h71', es] at k
             refine ih _ _ _ _ _ (by omega) (by omega) (by omega) (by omega) up_s (by omega) (fun D' O' g1 g2 g3 g4 => k D' O' (by rw [g1, up_n (by omega)]) (by rw [g2, len_c]; congr 1; omega) (fun z z1 z2 => by rw [g3 z z1 (by omega), up_n (by omega)]) (fun z z1 z2 => ?_))
             by_cases e0 : z = 0
             · rw [e0, Lf_0, show n + 0 = n by omega, g3 n (by omega) (by omega), up_s]
             · have := g4 (z - 1) (by omega) (by omega)
               rw [show n + 1 + (z - 1) = n + z by omega] at this
               rw [this, show z = z - 1 + 1 by omega, Lf_c (by omega), show z - 1 + 1 - 1 = z - 1 by omega])
        · refine wp_aload_n dX1_gatherOffers_74 rfl ?_
          refine wp_getR hN.r38o dX1_gatherOffers_75 fX1_9 hN.s38 ?_
          refine wp_aload_n dX1_gatherOffers_78 rfl ?_
          refine wp_getI dX1_gatherOffers_79 fX1_37 hN.s38 ?_
          rw [CS38]
          rw [hD]
          refine wp_aload_n dX1_gatherOffers_82 rfl ?_
          refine wp_getR hN.r38p dX1_gatherOffers_83 fX1_30 hN.s38 ?_
          refine wp_iload dX1_gatherOffers_86 rfl ?_
          refine wp_iload_n dX1_gatherOffers_88 rfl ?_
          refine wp_callV (as := [_, _]) (ls0 := [_, _, _, _]) (kc := 0) (ks := 0) (bc' := 0) (bs' := 0) dX1_gatherOffers_89 vX1_41 hl.1 rfl rfl (Nat.le_of_ble_eq_true rfl) (Nat.le_of_ble_eq_true rfl) (by omega) (by omega) ?_
          refine n_cellInSlot hP (by omega) hp (hN.pl hl) ?_
          refine wp_iast dX1_gatherOffers_92 hN.s39 (by omega) (by omega) ?_
          rw [CSu39]
          refine wp_aload_n dX1_gatherOffers_93 rfl ?_
          refine wp_dup dX1_gatherOffers_94 rfl ?_
          refine wp_getI dX1_gatherOffers_95 fX1_37 hN.s38 ?_
          rw [CS38]
          rw [hD]
          refine wp_iconst dX1_gatherOffers_98 ?_
          refine wp_iadd dX1_gatherOffers_99 ⟨by omega, by omega⟩ ?_
          refine wp_putI dX1_gatherOffers_100 fX1_37 hN.s38 ?_
          rw [CSu38]
          refine wp_iinc (ls' := [_, _, _, _, _, _, _, _]) dX1_gatherOffers_103 (by decide) rfl rfl ⟨by omega, by omega⟩ rfl ?_
          refine wp_goto (tgt := 17) dX1_gatherOffers_106 rfl ?_
          first
          | (have h71' : Q ((fr + j) % E 5 0) := by rw [es]; exact (hx.2.2 _ (by omega) (by omega)).mp (bt_n0 h71)
             rw [offs_t h71'] at k
             exact ih _ _ _ _ _ (by omega) (by omega) (by omega) (by omega) hD hnm k)
          | (have h71' : ¬ Q ((fr + j) % E 5 0) := by rw [es]; exact fun z => bt_0 h71 ((hx.2.2 _ (by omega) (by omega)).mpr z)
             rw [offs_f h71', es] at k
             refine ih _ _ _ _ _ (by omega) (by omega) (by omega) (by omega) up_s (by omega) (fun D' O' g1 g2 g3 g4 => k D' O' (by rw [g1, up_n (by omega)]) (by rw [g2, len_c]; congr 1; omega) (fun z z1 z2 => by rw [g3 z z1 (by omega), up_n (by omega)]) (fun z z1 z2 => ?_))
             by_cases e0 : z = 0
             · rw [e0, Lf_0, show n + 0 = n by omega, g3 n (by omega) (by omega), up_s]
             · have := g4 (z - 1) (by omega) (by omega)
               rw [show n + 1 + (z - 1) = n + z by omega] at this
               rw [this, show z = z - 1 + 1 by omega, Lf_c (by omega), show z - 1 + 1 - 1 = z - 1 by omega])
theorem e_gather {x fr most : Int} {Q : Int → Prop} (hN : NtA sh rv iv b) (hl : PlA sh rv iv E F) (hP : Prm E F) (hp : 0 ≤ p ∧ p < 6) (hx : Bts x Q) (hfr : 0 ≤ fr ∧ fr ≤ E 5 0) (hmo : 0 ≤ most ∧ most ≤ 16) (k : ∀ D' O' : Int → Int, D' 5 = D 5 → D' 4 = mnI most (((offs Q (E 5 0) (E 5 1) p fr (E 5 0).toNat 0).length : Int)) → (∀ z : Int, 0 ≤ z → z < D' 4 → O' z = Lf (offs Q (E 5 0) (E 5 1) p fr (E 5 0).toNat 0) z) → R (some (aI (D' 4))) sh (uA (CD iv b D' O' T S K C) (12 + 42 * b) w) lw rv) : wp (d + 1) mX1_gatherOffers 0 [some (aR (38 + 43 * b)), some (aI p), some (aI x), some (aI fr), some (aI most), none, none, none] [] sh (uA (CD iv b D O T S K C) (12 + 42 * b) w) lw rv 0 0 R := by
  obtain ⟨hW1, hW2, hO1, hO2, hT1, hT2, hI1, hI2, hF1, hF2⟩ := id hP
  refine wp_aload_n dX1_gatherOffers_0 rfl ?_
  refine wp_getR hN.r38p dX1_gatherOffers_1 fX1_30 hN.s38 ?_
  refine wp_callV (as := []) (ls0 := [_]) (kc := 0) (ks := 0) (bc' := 0) (bs' := 0) dX1_gatherOffers_4 vX1_31 hl.1 rfl rfl (Nat.le_of_ble_eq_true rfl) (Nat.le_of_ble_eq_true rfl) (by omega) (by omega) ?_
  refine n_slots (hN.pl hl) ?_
  refine wp_istore (ls' := [_, _, _, _, _, _, _, _]) dX1_gatherOffers_7 (by decide) rfl rfl ?_
  refine wp_aload_n dX1_gatherOffers_9 rfl ?_
  refine wp_iconst dX1_gatherOffers_10 ?_
  refine wp_putI dX1_gatherOffers_11 fX1_37 hN.s38 ?_
  rw [CSu38]
  refine wp_iconst dX1_gatherOffers_14 ?_
  refine wp_istore (ls' := [_, _, _, _, _, _, _, _]) dX1_gatherOffers_15 (by decide) rfl rfl ?_
  refine l_gather hN hl hP hp hx hfr hmo (E 5 0).toNat 0 0 _ _ _ (by omega) (by omega) (by omega) (by omega) up_s (by omega) (fun D' O' g1 g2 g3 g4 => k D' O' (by rw [g1, up_n (by omega)]) (by rw [g2, Int.zero_add]) (fun z z1 z2 => ?_))
  have := g4 z z1 (by omega)
  rw [Int.zero_add] at this
  exact this
def prm1 (N : Int → Int) (p q c : Int) : Int → Int := up (up N (61 * p + (35 + 4 * q + N (61 * p + (33 + q)))) c) (61 * p + (33 + q)) (N (61 * p + (33 + q)) + 1)
def cofL (p q : Int) (f : Int → Int) : Nat → Int → (Int → Int) → (Int → Int)
  | 0, _, N => N
  | m + 1, i, N => cofL p q f m (i + 1) (encF (prm1 N p q (f i)) p (f i))
theorem l_pof {si : Nat} {q : Int} (hN : NtA sh rv iv b) (hp : 0 ≤ p ∧ p < 6) (hA : SdA sh (CD iv b D O T S K C) rv si (12 + 42 * b) p q) (m : Nat) : ∀ (j : Int) (w N : Int → Int), 0 ≤ j → j + m = D 4 → D 4 ≤ 16 → Rel w N → 0 ≤ N (61 * p + (33 + q)) → N (61 * p + (33 + q)) + m ≤ 4 → 0 ≤ N (61 * p + 48) → N (61 * p + 48) + m ≤ 4 → (∀ w', Rel w' (cofL p q O m j N) → R none sh (uA (CD iv b D O T S K C) (12 + 42 * b) w') lw rv) → wp (d + 1) mX1_promiseOffers 2 [some (aR (38 + 43 * b)), some (aR si), some (aR (mid b p)), some (aI j)] [] sh (uA (CD iv b D O T S K C) (12 + 42 * b) w) lw rv 0 0 R := by
  have hq := hA.2.2.2.2.2.2
  induction m with
  | zero =>
    intro j w N h0 hm h16 hR a1 a2 a3 a4 k
    refine wp_iload_n dX1_promiseOffers_2 rfl ?_
    refine wp_aload_n dX1_promiseOffers_3 rfl ?_
    refine wp_getI dX1_promiseOffers_4 fX1_37 hN.s38 ?_
    rw [CS38]
    refine wp_icmp_ge (tgt := 36) dX1_promiseOffers_7 rfl (fun h7 => ?_) (fun h7 => by exfalso; omega)
    refine wp_return dX1_promiseOffers_36 rfl ?_
    exact k _ hR
  | succ m ih =>
    intro j w N h0 hm h16 hR a1 a2 a3 a4 k
    have e48 : prm1 N p q (O j) (61 * p + 48) = N (61 * p + 48) := by unfold prm1; rw [up_n (by omega), up_n (by omega)]
    have e33 : encF (prm1 N p q (O j)) p (O j) (61 * p + (33 + q)) = N (61 * p + (33 + q)) + 1 := by
      rw [encF_k (by omega) (by omega)]; unfold prm1; rw [up_s]
    have e48b : encF (prm1 N p q (O j)) p (O j) (61 * p + 48) = N (61 * p + 48) + 1 := by unfold encF; rw [up_s, e48]
    refine wp_iload_n dX1_promiseOffers_2 rfl ?_
    refine wp_aload_n dX1_promiseOffers_3 rfl ?_
    refine wp_getI dX1_promiseOffers_4 fX1_37 hN.s38 ?_
    rw [CS38]
    refine wp_icmp_ge (tgt := 36) dX1_promiseOffers_7 rfl (fun h7 => by exfalso; omega) (fun h7 => ?_)
    refine wp_aload_n dX1_promiseOffers_10 rfl ?_
    refine wp_aload_n dX1_promiseOffers_11 rfl ?_
    refine wp_getR hN.r38o dX1_promiseOffers_12 fX1_9 hN.s38 ?_
    refine wp_iload_n dX1_promiseOffers_15 rfl ?_
    refine wp_iald dX1_promiseOffers_16 hN.s39 (by omega) (by omega) ?_
    rw [CS39]
    refine wp_callV (as := [_]) (ls0 := [_, _, _]) (kc := 0) (ks := 0) (bc' := 0) (bs' := 0) dX1_promiseOffers_17 vX1_209 hA.1 rfl rfl (Nat.le_of_ble_eq_true rfl) (Nat.le_of_ble_eq_true rfl) (by omega) (by omega) ?_
    refine c_promise hA hR (by omega) (fun w hR => ?_)
    have hR : Rel w (prm1 N p q (O j)) := hR
    refine wp_aload_n dX1_promiseOffers_20 rfl ?_
    refine wp_aload_n dX1_promiseOffers_21 rfl ?_
    refine wp_getR hN.r38o dX1_promiseOffers_22 fX1_9 hN.s38 ?_
    refine wp_iload_n dX1_promiseOffers_25 rfl ?_
    refine wp_iald dX1_promiseOffers_26 hN.s39 (by omega) (by omega) ?_
    rw [CS39]
    refine wp_callV (as := [_]) (ls0 := [_, _, _]) (kc := 0) (ks := 0) (bc' := 0) (bs' := 0) dX1_promiseOffers_27 vX1_102 (hN.sm hp) rfl rfl (Nat.le_of_ble_eq_true rfl) (Nat.le_of_ble_eq_true rfl) (by omega) (by omega) ?_
    refine t_enclose (hN.lk hp).sM hR (by omega) (fun w hR => ?_)
    refine wp_iinc (ls' := [_, _, _, _]) dX1_promiseOffers_30 (by decide) rfl rfl ⟨by omega, by omega⟩ rfl ?_
    refine wp_goto (tgt := 2) dX1_promiseOffers_33 rfl ?_
    exact ih _ _ _ (by omega) (by omega) h16 hR (by omega) (by omega) (by omega) (by omega) k
theorem e_promiseOffers {si : Nat} {q : Int} (hN : NtA sh rv iv b) (hp : 0 ≤ p ∧ p < 6) (hA : SdA sh (CD iv b D O T S K C) rv si (12 + 42 * b) p q) (hR : Rel w N) (h4 : 0 ≤ D 4 ∧ D 4 ≤ 4) (h33 : N (61 * p + (33 + q)) = 0) (h48 : 0 ≤ N (61 * p + 48) ∧ N (61 * p + 48) + D 4 ≤ 4) (k : ∀ w', Rel w' (cofL p q O (D 4).toNat 0 N) → R none sh (uA (CD iv b D O T S K C) (12 + 42 * b) w') lw rv) : wp (d + 1) mX1_promiseOffers 0 [some (aR (38 + 43 * b)), some (aR si), some (aR (mid b p)), none] [] sh (uA (CD iv b D O T S K C) (12 + 42 * b) w) lw rv 0 0 R := by
  refine wp_iconst dX1_promiseOffers_0 ?_
  refine wp_istore_n (ls' := [_, _, _, _]) dX1_promiseOffers_1 (by decide) rfl rfl ?_
  exact l_pof hN hp hA (D 4).toNat 0 _ _ (by omega) (by omega) (by omega) hR (by omega) (by omega) (by omega) (by omega) k
theorem l_pat {si : Nat} {q : Int} (hN : NtA sh rv iv b) (hP : Prm E F) (hp : 0 ≤ p ∧ p < 6) (hA : SdA sh (CD iv b D O T S K C) rv si (12 + 42 * b) p q) (hT : ∀ z : Int, 0 ≤ z → z < D 5 → Vc (E 5 0) (E 5 1) (T z)) (m : Nat) : ∀ (j : Int) (w N : Int → Int), 0 ≤ j → j + m = D 5 → D 5 ≤ 4 → Rel w N → Bok (E 5 0) (E 5 1) N → (∀ w', Rel w' (insA p q T m j N) → R none sh (uA (CD iv b D O T S K C) (12 + 42 * b) w') lw rv) → wp (d + 2) mX1_putAllTold 2 [some (aR (38 + 43 * b)), some (aR si), some (aI j)] [] sh (uA (CD iv b D O T S K C) (12 + 42 * b) w) lw rv 0 0 R := by
  have hq := hA.2.2.2.2.2.2
  induction m with
  | zero =>
    intro j w N h0 hm h4 hR hB k
    refine wp_iload_n dX1_putAllTold_2 rfl ?_
    refine wp_aload_n dX1_putAllTold_3 rfl ?_
    refine wp_getI dX1_putAllTold_4 fX1_112 hN.s38 ?_
    rw [CS38]
    refine wp_icmp_ge (tgt := 26) dX1_putAllTold_7 rfl (fun h7 => ?_) (fun h7 => by exfalso; omega)
    refine wp_return dX1_putAllTold_26 rfl ?_
    exact k _ hR
  | succ m ih =>
    intro j w N h0 hm h4 hR hB k
    refine wp_iload_n dX1_putAllTold_2 rfl ?_
    refine wp_aload_n dX1_putAllTold_3 rfl ?_
    refine wp_getI dX1_putAllTold_4 fX1_112 hN.s38 ?_
    rw [CS38]
    refine wp_icmp_ge (tgt := 26) dX1_putAllTold_7 rfl (fun h7 => by exfalso; omega) (fun h7 => ?_)
    refine wp_aload_n dX1_putAllTold_10 rfl ?_
    refine wp_aload_n dX1_putAllTold_11 rfl ?_
    refine wp_getR hN.r38t dX1_putAllTold_12 fX1_17 hN.s38 ?_
    refine wp_iload_n dX1_putAllTold_15 rfl ?_
    refine wp_iald dX1_putAllTold_16 hN.s40 (by omega) (by omega) ?_
    rw [CS40]
    refine wp_callV (as := [_]) (ls0 := [_, _, _, _]) (kc := 0) (ks := 0) (bc' := 0) (bs' := 0) dX1_putAllTold_17 vX1_170 hA.1 rfl rfl (Nat.le_of_ble_eq_true rfl) (Nat.le_of_ble_eq_true rfl) (by omega) (by omega) ?_
    refine c_put hA hR hB (fun w hR => ?_)
    refine wp_iinc (ls' := [_, _, _]) dX1_putAllTold_20 (by decide) rfl rfl ⟨by omega, by omega⟩ rfl ?_
    refine wp_goto (tgt := 2) dX1_putAllTold_23 rfl ?_
    exact ih _ _ _ (by omega) (by omega) h4 hR (hB.binsF hp hq (hT j h0 (by omega))) k
theorem e_putAllTold {si : Nat} {q : Int} (hN : NtA sh rv iv b) (hP : Prm E F) (hp : 0 ≤ p ∧ p < 6) (hA : SdA sh (CD iv b D O T S K C) rv si (12 + 42 * b) p q) (hT : ∀ z : Int, 0 ≤ z → z < D 5 → Vc (E 5 0) (E 5 1) (T z)) (hR : Rel w N) (hB : Bok (E 5 0) (E 5 1) N) (h4 : 0 ≤ D 5 ∧ D 5 ≤ 4) (k : ∀ w', Rel w' (insA p q T (D 5).toNat 0 N) → R none sh (uA (CD iv b D O T S K C) (12 + 42 * b) w') lw rv) : wp (d + 2) mX1_putAllTold 0 [some (aR (38 + 43 * b)), some (aR si), none] [] sh (uA (CD iv b D O T S K C) (12 + 42 * b) w) lw rv 0 0 R := by
  refine wp_iconst dX1_putAllTold_0 ?_
  refine wp_istore_n (ls' := [_, _, _]) dX1_putAllTold_1 (by decide) rfl rfl ?_
  exact l_pat hN hP hp hA hT (D 5).toNat 0 _ _ (by omega) (by omega) (by omega) hR hB k
theorem l_pft {si : Nat} {q x most : Int} (hN : NtA sh rv iv b) (hP : Prm E F) (hp : 0 ≤ p ∧ p < 6) (hpF : p < F 13) (hA : SdA sh (CD iv b D O T S K C) rv si (12 + 42 * b) p q) (hT : ∀ z : Int, 0 ≤ z → z < D 5 → Vc (E 5 0) (E 5 1) (T z)) (hds : ∀ y z : Int, 0 ≤ y → y < z → z < D 5 → ¬ T y / 10 = T z / 10) (hx1 : 0 ≤ x) (m : Nat) : ∀ (j n : Int) (w N : Int → Int), 0 ≤ j → j + m = D 5 → D 5 ≤ 4 → Rel w N → Bok (E 5 0) (E 5 1) N → N (61 * p + 48) + m ≤ 4 → (0 ≤ n ∧ n ≤ j ∧ -1 ≤ most ∧ most ≤ 10) → (∀ z : Int, j ≤ z → z < D 5 → (bt x (T z / 10) ↔ Tkn N (E 6) (F 13) (E 6 (4 * p + q)) (T z / 10))) → (∀ w', Rel w' (tkI (E 6) T (F 13) p q most m j n N) → R none sh (uA (CD iv b D O T S K C) (12 + 42 * b) w') lw rv) → wp (d + 2) mX1_putFreeTold 9 [some (aR (38 + 43 * b)), some (aR si), some (aR (mid b p)), some (aI x), some (aI (most - n)), some (aI j)] [] sh (uA (CD iv b D O T S K C) (12 + 42 * b) w) lw rv 0 0 R := by
  have hq := hA.2.2.2.2.2.2
  obtain ⟨hW1, hW2, hO1, hO2, hT1, hT2, hI1, hI2, hF1, hF2⟩ := id hP
  induction m with
  | zero =>
    intro j n w N h0 hm h4 hR hB h48 hn hbt k
    refine wp_iload dX1_putFreeTold_9 rfl ?_
    refine wp_aload_n dX1_putFreeTold_11 rfl ?_
    refine wp_getI dX1_putFreeTold_12 fX1_112 hN.s38 ?_
    rw [CS38]
    refine wp_icmp_ge (tgt := 78) dX1_putFreeTold_15 rfl (fun h15 => ?_) (fun h15 => by exfalso; omega)
    refine wp_return dX1_putFreeTold_78 rfl ?_
    exact k _ hR
  | succ m ih =>
    intro j n w N h0 hm h4 hR hB h48 hn hbt k
    have hmn := hB.mny hp hq
    have h48b := hB.v48 hp
    have hv := hT j h0 (by omega)
    have hv2 := hv
    unfold Vc at hv2
    rw [tkI] at k
    refine wp_iload dX1_putFreeTold_9 rfl ?_
    refine wp_aload_n dX1_putFreeTold_11 rfl ?_
    refine wp_getI dX1_putFreeTold_12 fX1_112 hN.s38 ?_
    rw [CS38]
    refine wp_icmp_ge (tgt := 78) dX1_putFreeTold_15 rfl (fun h15 => by exfalso; omega) (fun h15 => ?_)
    refine wp_iload dX1_putFreeTold_18 rfl ?_
    refine wp_if_le (tgt := 78) dX1_putFreeTold_20 rfl (fun h20 => ?_) (fun h20 => ?_)
    · rw [if_pos (Or.inl (by omega))] at k
      refine wp_return dX1_putFreeTold_78 rfl ?_
      exact k _ hR
    · refine wp_aload_n dX1_putFreeTold_23 rfl ?_
      refine wp_callV (as := []) (ls0 := [_]) (kc := 0) (ks := 0) (bc' := 0) (bs' := 0) dX1_putFreeTold_24 vX1_212 hA.1 rfl rfl (Nat.le_of_ble_eq_true rfl) (Nat.le_of_ble_eq_true rfl) (by omega) (by omega) ?_
      refine c_hasRoom hA hR (fun h24 => ?_) (fun h24 => ?_)
      · refine wp_if_eq (tgt := 78) dX1_putFreeTold_27 rfl (fun q => absurd q (by decide)) (fun _ => ?_)
        refine wp_iload_n dX1_putFreeTold_30 rfl ?_
        refine wp_aload_n dX1_putFreeTold_31 rfl ?_
        refine wp_getR hN.r38t dX1_putFreeTold_32 fX1_17 hN.s38 ?_
        refine wp_iload dX1_putFreeTold_35 rfl ?_
        refine wp_iald dX1_putFreeTold_37 hN.s40 (by omega) (by omega) ?_
        rw [CS40]
        refine wp_bipush dX1_putFreeTold_38 ?_
        refine wp_idiv dX1_putFreeTold_40 (by omega) (by omega) ?_
        refine wp_ishr dX1_putFreeTold_41 (by omega) (by omega) ?_
        refine wp_iconst dX1_putFreeTold_42 ?_
        refine wp_iand dX1_putFreeTold_43 (by first | exact bt_nn hx1 | decide) (by first | exact bt_nn hx1 | decide) ?_
        refine wp_if_ne (tgt := 72) dX1_putFreeTold_44 rfl (fun h44 => ?_) (fun h44 => ?_)
        · refine wp_iinc (ls' := [_, _, _, _, _, _]) dX1_putFreeTold_72 (by decide) rfl rfl ⟨by omega, by omega⟩ rfl ?_
          refine wp_goto (tgt := 9) dX1_putFreeTold_75 rfl ?_
          rw [if_neg (by omega)] at k
          first
          | (have h44' := (hbt j (by omega) (by omega)).mp (bt_n0 h44)
             rw [if_pos h44'] at k
             exact ih _ _ _ _ (by omega) (by omega) h4 hR hB (by omega) (by omega) (fun z z1 z2 => hbt z (by omega) z2) k)
          | (have h44' : ¬ Tkn N (E 6) (F 13) (E 6 (4 * p + q)) (T j / 10) := fun z => bt_0 h44 ((hbt j (by omega) (by omega)).mpr z)
             rw [if_neg h44'] at k
             have hpl : plc N p q (T j) = -1 := Classical.byContradiction (fun z => h44' (Tkn_in hB (by omega) (by omega) hq z))
             rw [show most - n + -1 = most - (n + 1) by omega]
             refine ih _ _ _ _ (by omega) (by omega) h4 hR (hB1.bencF (by omega) hv) (by unfold encF; rw [up_s, e48]; omega) (by omega) (fun z z1 z2 => ?_) k
             rw [Tkn_enc hB1 (by omega) hp, Tkn_ins hB (by omega) (by omega) hq rfl h24 hpl]
             have hd := hds j z h0 (by omega) z2
             rw [hbt z (by omega) z2]
             exact ⟨Or.inl, fun y => y.elim id (fun y => absurd y hd)⟩)
        · refine wp_aload_n dX1_putFreeTold_47 rfl ?_
          refine wp_aload_n dX1_putFreeTold_48 rfl ?_
          refine wp_getR hN.r38t dX1_putFreeTold_49 fX1_17 hN.s38 ?_
          refine wp_iload dX1_putFreeTold_52 rfl ?_
          refine wp_iald dX1_putFreeTold_54 hN.s40 (by omega) (by omega) ?_
          rw [CS40]
          refine wp_callV (as := [_]) (ls0 := [_, _, _, _]) (kc := 0) (ks := 0) (bc' := 0) (bs' := 0) dX1_putFreeTold_55 vX1_170 hA.1 rfl rfl (Nat.le_of_ble_eq_true rfl) (Nat.le_of_ble_eq_true rfl) (by omega) (by omega) ?_
          refine c_put hA hR hB (fun w hR => ?_)
          have hB1 := hB.binsF (c := T j) hp hq hv
          have e48 : insF N p q (T j) (61 * p + 48) = N (61 * p + 48) := insF_n hmn (by omega)
          refine wp_aload_n dX1_putFreeTold_58 rfl ?_
          refine wp_aload_n dX1_putFreeTold_59 rfl ?_
          refine wp_getR hN.r38t dX1_putFreeTold_60 fX1_17 hN.s38 ?_
          refine wp_iload dX1_putFreeTold_63 rfl ?_
          refine wp_iald dX1_putFreeTold_65 hN.s40 (by omega) (by omega) ?_
          rw [CS40]
          refine wp_callV (as := [_]) (ls0 := [_, _, _]) (kc := 0) (ks := 0) (bc' := 0) (bs' := 0) dX1_putFreeTold_66 vX1_102 (hN.sm hp) rfl rfl (Nat.le_of_ble_eq_true rfl) (Nat.le_of_ble_eq_true rfl) (by omega) (by omega) ?_
          refine t_enclose (hN.lk hp).sM hR (by omega) (fun w hR => ?_)
          refine wp_iinc (ls' := [_, _, _, _, _, _]) dX1_putFreeTold_69 (by decide) rfl rfl ⟨by omega, by omega⟩ rfl ?_
          refine wp_iinc (ls' := [_, _, _, _, _, _]) dX1_putFreeTold_72 (by decide) rfl rfl ⟨by omega, by omega⟩ rfl ?_
          refine wp_goto (tgt := 9) dX1_putFreeTold_75 rfl ?_
          rw [if_neg (by omega)] at k
          first
          | (have h44' := (hbt j (by omega) (by omega)).mp (bt_n0 h44)
             rw [if_pos h44'] at k
             exact ih _ _ _ _ (by omega) (by omega) h4 hR hB (by omega) (by omega) (fun z z1 z2 => hbt z (by omega) z2) k)
          | (have h44' : ¬ Tkn N (E 6) (F 13) (E 6 (4 * p + q)) (T j / 10) := fun z => bt_0 h44 ((hbt j (by omega) (by omega)).mpr z)
             rw [if_neg h44'] at k
             have hpl : plc N p q (T j) = -1 := Classical.byContradiction (fun z => h44' (Tkn_in hB (by omega) (by omega) hq z))
             rw [show most - n + -1 = most - (n + 1) by omega]
             refine ih _ _ _ _ (by omega) (by omega) h4 hR (hB1.bencF (by omega) hv) (by unfold encF; rw [up_s, e48]; omega) (by omega) (fun z z1 z2 => ?_) k
             rw [Tkn_enc hB1 (by omega) hp, Tkn_ins hB (by omega) (by omega) hq rfl h24 hpl]
             have hd := hds j z h0 (by omega) z2
             rw [hbt z (by omega) z2]
             exact ⟨Or.inl, fun y => y.elim id (fun y => absurd y hd)⟩)
      · refine wp_if_eq (tgt := 78) dX1_putFreeTold_27 rfl (fun _ => ?_) (fun z => absurd rfl z)
        rw [if_pos (Or.inr (by omega))] at k
        refine wp_return dX1_putFreeTold_78 rfl ?_
        exact k _ hR
theorem e_putFreeTold {si : Nat} {q x : Int} (hN : NtA sh rv iv b) (hP : Prm E F) (hp : 0 ≤ p ∧ p < 6) (hpF : p < F 13) (hA : SdA sh (CD iv b D O T S K C) rv si (12 + 42 * b) p q) (hT : ∀ z : Int, 0 ≤ z → z < D 5 → Vc (E 5 0) (E 5 1) (T z)) (hds : ∀ y z : Int, 0 ≤ y → y < z → z < D 5 → ¬ T y / 10 = T z / 10) (hR : Rel w N) (hB : Bok (E 5 0) (E 5 1) N) (h4 : 0 ≤ D 5 ∧ D 5 ≤ 4) (h48 : N (61 * p + 48) = 0) (hx : Bts x (Tkn N (E 6) (F 13) (E 6 (4 * p + q)))) (k : ∀ w', Rel w' (tkI (E 6) T (F 13) p q (N (61 * p + 49)) (D 5).toNat 0 0 N) → R none sh (uA (CD iv b D O T S K C) (12 + 42 * b) w') lw rv) : wp (d + 2) mX1_putFreeTold 0 [some (aR (38 + 43 * b)), some (aR si), some (aR (mid b p)), some (aI x), none, none] [] sh (uA (CD iv b D O T S K C) (12 + 42 * b) w) lw rv 0 0 R := by
  have h49 := hB.v49 hp
  obtain ⟨hW1, hW2, hO1, hO2, hT1, hT2, hI1, hI2, hF1, hF2⟩ := id hP
  refine wp_aload_n dX1_putFreeTold_0 rfl ?_
  refine wp_callV (as := []) (ls0 := [_]) (kc := 0) (ks := 0) (bc' := 0) (bs' := 0) dX1_putFreeTold_1 vX1_206 (hN.sm hp) rfl rfl (Nat.le_of_ble_eq_true rfl) (Nat.le_of_ble_eq_true rfl) (by omega) (by omega) ?_
  refine t_amount (hN.lk hp).sM hR ?_
  refine wp_istore (ls' := [_, _, _, _, _, _]) dX1_putFreeTold_4 (by decide) rfl rfl ?_
  refine wp_iconst dX1_putFreeTold_6 ?_
  refine wp_istore (ls' := [_, _, _, _, _, _]) dX1_putFreeTold_7 (by decide) rfl rfl ?_
  have g := l_pft (d := d) (lw := lw) (R := R) (most := N (61 * p + 49)) hN hP hp hpF hA hT hds hx.1 (D 5).toNat 0 0 w N (by omega) (by omega) (by omega) hR hB (by omega) (by omega) (fun z z1 z2 => ?_) k
  · rw [show N (61 * p + 49) - 0 = N (61 * p + 49) by omega] at g
    exact g
  · have := hT z z1 z2
    unfold Vc at this
    exact hx.2.2 _ (by omega) (by omega)
theorem e_answer {re : Int} (hN : NtA sh rv iv b) (hp : 0 ≤ p ∧ p < 6) (hR : Rel w N) (k : ∀ w', Rel w' (wriF N p 1 (N (61 * p + 45)) re (N (61 * p + 49))) → R none sh (uA (CD iv b D O T S K C) (12 + 42 * b) w') lw rv) : wp (d + 1) mX1_answer 0 [some (aR (38 + 43 * b)), some (aR (lid b p)), some (aI re)] [] sh (uA (CD iv b D O T S K C) (12 + 42 * b) w) lw rv 0 0 R := by
  refine wp_aload_n dX1_answer_0 rfl ?_
  refine wp_getR (hN.rlm hp) dX1_answer_1 fX1_72 (hN.sl hp) ?_
  refine wp_iconst dX1_answer_4 ?_
  refine wp_aload_n dX1_answer_5 rfl ?_
  refine wp_getR (hN.rlm hp) dX1_answer_6 fX1_72 (hN.sl hp) ?_
  refine wp_callV (as := []) (ls0 := [_]) (kc := 0) (ks := 0) (bc' := 0) (bs' := 0) dX1_answer_9 vX1_128 (hN.sm hp) rfl rfl (Nat.le_of_ble_eq_true rfl) (Nat.le_of_ble_eq_true rfl) (by omega) (by omega) ?_
  refine t_kind (hN.lk hp).sM hR ?_
  refine wp_iload_n dX1_answer_12 rfl ?_
  refine wp_iconst dX1_answer_13 ?_
  refine wp_aload_n dX1_answer_14 rfl ?_
  refine wp_getR (hN.rlm hp) dX1_answer_15 fX1_72 (hN.sl hp) ?_
  refine wp_callV (as := []) (ls0 := [_]) (kc := 0) (ks := 0) (bc' := 0) (bs' := 0) dX1_answer_18 vX1_206 (hN.sm hp) rfl rfl (Nat.le_of_ble_eq_true rfl) (Nat.le_of_ble_eq_true rfl) (by omega) (by omega) ?_
  refine t_amount (hN.lk hp).sM hR ?_
  refine wp_callV (as := [_, _, _, _, _]) (ls0 := [_, _, _, _, _, _]) (kc := 0) (ks := 0) (bc' := 0) (bs' := 0) dX1_answer_21 vX1_79 (hN.sm hp) rfl rfl (Nat.le_of_ble_eq_true rfl) (Nat.le_of_ble_eq_true rfl) (by omega) (by omega) ?_
  refine t_send (hN.lk hp).sM hR (by rw [if_neg (by decide)]) (fun w hR => ?_)
  refine wp_return dX1_answer_24 rfl ?_
  exact k _ hR
def eaF (N : Int → Int) (p : Int) : Int → Int := if N (61 * p + 48) = 0 then wriF N p 1 (N (61 * p + 45)) 1 (N (61 * p + 49)) else stpF N p 1
theorem e_endAnswer (hN : NtA sh rv iv b) (hp : 0 ≤ p ∧ p < 6) (hR : Rel w N) (hB : Bok (E 5 0) (E 5 1) N) (k : ∀ w', Rel w' (eaF N p) → R none sh (uA (CD iv b D O T S K C) (12 + 42 * b) w') lw rv) : wp (d + 2) mX1_endAnswer 0 [some (aR (38 + 43 * b)), some (aR (lid b p))] [] sh (uA (CD iv b D O T S K C) (12 + 42 * b) w) lw rv 0 0 R := by
  refine wp_aload_n dX1_endAnswer_0 rfl ?_
  refine wp_getR (hN.rlm hp) dX1_endAnswer_1 fX1_72 (hN.sl hp) ?_
  refine wp_callV (as := []) (ls0 := [_]) (kc := 0) (ks := 0) (bc' := 0) (bs' := 0) dX1_endAnswer_4 vX1_106 (hN.sm hp) rfl rfl (Nat.le_of_ble_eq_true rfl) (Nat.le_of_ble_eq_true rfl) (by omega) (by omega) ?_
  refine t_cells (hN.lk hp).sM hR ?_
  refine wp_if_ne (tgt := 19) dX1_endAnswer_7 rfl (fun h7 => ?_) (fun h7 => ?_)
  · refine wp_aload_n dX1_endAnswer_19 rfl ?_
    refine wp_getR (hN.rlr hp) dX1_endAnswer_20 fX1_122 (hN.sl hp) ?_
    refine wp_callV (as := []) (ls0 := [_, _]) (kc := 0) (ks := 0) (bc' := 0) (bs' := 0) dX1_endAnswer_23 vX1_173 (hN.sr hp) rfl rfl (Nat.le_of_ble_eq_true rfl) (Nat.le_of_ble_eq_true rfl) (by omega) (by omega) ?_
    refine c_raiseSeq (hN.lk hp).sR hR (hB.seq hp (Or.inr rfl)) (fun w hR => ?_)
    refine wp_return dX1_endAnswer_26 rfl ?_
    refine k _ ?_
    unfold eaF
    first | (rw [if_pos (by assumption)]; exact hR) | (rw [if_neg (by assumption)]; exact hR)
  · refine wp_aload_n dX1_endAnswer_10 rfl ?_
    refine wp_aload_n dX1_endAnswer_11 rfl ?_
    refine wp_iconst dX1_endAnswer_12 ?_
    refine wp_callV (as := [_, _]) (ls0 := [_, _, _]) (kc := 0) (ks := 0) (bc' := 0) (bs' := 0) dX1_endAnswer_13 vX1_134 hN.s38 rfl rfl (Nat.le_of_ble_eq_true rfl) (Nat.le_of_ble_eq_true rfl) (by omega) (by omega) ?_
    refine e_answer hN hp hR (fun w hR => ?_)
    refine wp_goto (tgt := 26) dX1_endAnswer_16 rfl ?_
    refine wp_return dX1_endAnswer_26 rfl ?_
    refine k _ ?_
    unfold eaF
    first | (rw [if_pos (by assumption)]; exact hR) | (rw [if_neg (by assumption)]; exact hR)
end C8
