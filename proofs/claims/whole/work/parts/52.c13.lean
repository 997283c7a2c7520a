section C13
variable {d b : Nat} {sh : aSh} {iv lw E : aF} {rv : aP} {D O T S K C w N F : Int → Int} {R : aPost} {p : Int}
theorem sdv_qu {a : Int} (h : ¬ a = p) : sdv (quF N p) a = sdv N a := by
  unfold sdv quF; rw [up_n (by omega), up_n (by omega)]
theorem min_sdv {x y : Int} : (if y < x then y else x) = mnI y x := by unfold mnI; split <;> split <;> omega
theorem quF_cel {a i : Int} (hi : 0 ≤ i ∧ i < 6) : quF N p (61 * a + (bq 0 + i)) = N (61 * a + (bq 0 + i)) := by unfold quF; rw [bq0, up_n (by omega)]
theorem Ris.qu {a : Int} (h : Ris N a 0) (hm : N (61 * a + mq 0) ≤ 6) : Ris (quF N p) a 0 :=
  h.cg hm (by unfold quF; rw [mq0, up_n (by omega)]) (fun j h0 h1 => quF_cel ⟨h0, h1⟩)
theorem natp {m : Int} (h : 0 ≤ m) : (m + 1).toNat = m.toNat + 1 := by omega
theorem mkD_le {c s : Int} (hB : Bok (E 5 0) (E 5 1) N) (hp : 0 ≤ p ∧ p < 6) (h : Ris N p 0) (hs : s = sdv N p) : mkD N p c 1 s.toNat 0 ≤ 1 := by
  have h2 := mnI_r (hB.v18 hp).1 (hB.v57 hp).1
  rw [hs]
  exact h.d h2.2.1
theorem l_sa1 (hN : NtA sh rv iv b) (hl : PlA sh rv iv E F) (hP : Prm E F) (m : Nat) : ∀ (p : Int) (w N S K : Int → Int) (v3 : Option aV), 0 ≤ p → p + m = F 13 → Rel w N → Bok (E 5 0) (E 5 1) N → (∀ a : Int, 0 ≤ a → a < F 13 → Ris N a 0) → (∀ a : Int, 0 ≤ a → a < p → S a = sdv N a) → (∀ c : Int, 0 ≤ c → c < 160 → K c = mkB N S c p.toNat) → (∀ (w' S' K' : Int → Int) (v2' v3' : Option aV), Rel w' (quL m p N) → (∀ a : Int, 0 ≤ a → a < F 13 → S' a = sdv (quL m p N) a) → (∀ c : Int, 0 ≤ c → c < 160 → K' c = mkB (quL m p N) S' c (F 13).toNat) → wp (d + 4) mX0_sendAll 70 [some (aR (41 + 39 * b)), some (aI (F 13)), v2', v3'] [] sh (uA (CD iv b D O T S' K' C) (12 + 42 * b) w') lw rv 0 0 R) → wp (d + 4) mX0_sendAll 10 [some (aR (41 + 39 * b)), some (aI (F 13)), some (aI p), v3] [] sh (uA (CD iv b D O T S K C) (12 + 42 * b) w) lw rv 0 0 R := by
  obtain ⟨hW1, hW2, hO1, hO2, hT1, hT2, hI1, hI2, hF1, hF2⟩ := id hP
  induction m with
  | zero =>
    intro p w N S K v3 h0 hm hR hB hRis hS hK k
    have ep : p = F 13 := by omega
    refine wp_iload_n dX0_sendAll_10 rfl ?_
    refine wp_iload_n dX0_sendAll_11 rfl ?_
    refine wp_icmp_ge (tgt := 70) dX0_sendAll_12 rfl (fun _ => ?_) (fun h12 => by exfalso; omega)
    exact k w S K _ _ hR (fun a a0 a1 => hS a a0 (by omega)) (fun c c0 c1 => by rw [← ep]; exact hK c c0 c1)
  | succ m ih =>
    intro p w N S K v3 h0 hm hR hB hRis hS hK k
    have hp : 0 ≤ p ∧ p < 6 := by omega
    have hBq := hB.bqu hp
    have e57 : quF N p (61 * p + 57) = mnI 99 (N (61 * p + 57) + N (61 * p + 58)) := by unfold quF; rw [up_s]
    have hs6 := sdv_r hBq hp
    have hle := mnI_r (hBq.v18 hp).1 (hBq.v57 hp).1
    rw [show mnI (quF N p (61 * p + 18)) (quF N p (61 * p + 57)) = sdv (quF N p) p from rfl] at hle
    have hRq : ∀ a : Int, 0 ≤ a → a < F 13 → Ris (quF N p) a 0 := fun a a0 a1 => (hRis a a0 a1).qu (hB.mny (p := a) (by omega) (Or.inl rfl)).2
    have hKr : ∀ c : Int, 0 ≤ c → c < 160 → -90 ≤ K c ∧ K c ≤ 90 := fun c c0 c1 => by
      have := mkB_r (N := N) (S := S) (c := c) p.toNat (fun a a0 a1 => mkD_le hB (by omega) (hRis a a0 (by omega)) (hS a a0 (by omega)))
      rw [hK c c0 c1]; omega
    refine wp_iload_n dX0_sendAll_10 rfl ?_
    refine wp_iload_n dX0_sendAll_11 rfl ?_
    refine wp_icmp_ge (tgt := 70) dX0_sendAll_12 rfl (fun h12 => by exfalso; omega) (fun h12 => ?_)
    refine wp_aload_n dX0_sendAll_15 rfl ?_
    refine wp_getR hN.r41n dX0_sendAll_16 fX0_21 hN.s41 ?_
    refine wp_getR hN.r11l dX0_sendAll_19 fX0_42 hN.s11 ?_
    refine wp_iload_n dX0_sendAll_22 rfl ?_
    refine wp_aaldL dX0_sendAll_23 hN.s13 (by omega) (by omega) (hN.r13 hp) ?_
    refine wp_astore_n (ls' := [_, _, _, _]) dX0_sendAll_24 (by decide) rfl rfl ?_
    refine wp_aload_n dX0_sendAll_25 rfl ?_
    refine wp_callV (as := []) (ls0 := [_]) (kc := 0) (ks := 0) (bc' := 0) (bs' := 0) dX0_sendAll_26 vX0_93 (hN.sl hp) rfl rfl (Nat.le_of_ble_eq_true rfl) (Nat.le_of_ble_eq_true rfl) (by omega) (by omega) ?_
    refine k_growQueue (hN.lk hp) hR hB (fun w hR => ?_)
    refine wp_aload_n dX0_sendAll_29 rfl ?_
    refine wp_getR hN.r41s dX0_sendAll_30 fX0_15 hN.s41 ?_
    refine wp_iload_n dX0_sendAll_33 rfl ?_
    refine wp_aload_n dX0_sendAll_34 rfl ?_
    refine wp_callV (as := []) (ls0 := [_]) (kc := 0) (ks := 0) (bc' := 0) (bs' := 0) dX0_sendAll_35 vX0_96 (hN.sl hp) rfl rfl (Nat.le_of_ble_eq_true rfl) (Nat.le_of_ble_eq_true rfl) (by omega) (by omega) ?_
    refine k_queue (hN.lk hp) hR ?_
    refine wp_aload_n dX0_sendAll_38 rfl ?_
    refine wp_getR (hN.rls hp) dX0_sendAll_39 fX0_99 (hN.sl hp) ?_
    refine wp_callV (as := []) (ls0 := [_]) (kc := 0) (ks := 0) (bc' := 0) (bs' := 0) dX0_sendAll_42 vX0_103 (hN.ss hp) rfl rfl (Nat.le_of_ble_eq_true rfl) (Nat.le_of_ble_eq_true rfl) (by omega) (by omega) ?_
    refine c_size (hN.lk hp).sS hR ?_
    rw [mq0]
    refine wp_mmin dX0_sendAll_45 (by omega) (Nat.le_of_ble_eq_true rfl) nX0_108 q_min ?_
    rw [min_sdv, show mnI (quF N p (61 * p + 18)) (quF N p (61 * p + 57)) = sdv (quF N p) p from rfl]
    refine wp_iast dX0_sendAll_48 hN.s43 (by omega) (by omega) ?_
    rw [CSu43 hN.hb]
    refine wp_aload_n dX0_sendAll_49 rfl ?_
    refine wp_aload_n dX0_sendAll_50 rfl ?_
    refine wp_getR (hN.rls hp) dX0_sendAll_51 fX0_99 (hN.sl hp) ?_
    refine wp_aload_n dX0_sendAll_54 rfl ?_
    refine wp_getR hN.r41s dX0_sendAll_55 fX0_15 hN.s41 ?_
    refine wp_iload_n dX0_sendAll_58 rfl ?_
    refine wp_iald dX0_sendAll_59 hN.s43 (by omega) (by omega) ?_
    rw [CS43 hN.hb]
    rw [up_s]
    refine wp_iconst dX0_sendAll_60 ?_
    refine wp_callV (as := [_, _, _]) (ls0 := [_, _, _, _, _, _]) (kc := 0) (ks := 0) (bc' := 0) (bs' := 0) dX0_sendAll_61 vX0_114 hN.s41 rfl rfl (Nat.le_of_ble_eq_true rfl) (Nat.le_of_ble_eq_true rfl) (by omega) (by omega) ?_
    refine f_markCells hN (hN.lk hp).sS hP hp hR hBq (by omega) (Or.inl rfl) hKr (fun K' hK' => ?_)
    refine wp_iinc (ls' := [_, _, _, _]) dX0_sendAll_64 (by decide) rfl rfl ⟨by omega, by omega⟩ rfl ?_
    refine wp_goto (tgt := 10) dX0_sendAll_67 rfl ?_
    refine ih _ _ _ _ _ _ (by omega) (by omega) hR hBq hRq (fun a a0 a1 => ?_) (fun c c0 c1 => ?_) k
    · by_cases e : a = p
      · rw [e, up_s]
      · rw [up_n e, sdv_qu e]; exact hS a a0 (by omega)
    · rw [hK' c c0 c1, hK c c0 c1, natp h0, mkB, show ((p.toNat : Nat) : Int) = p by omega, up_s, mkB_c (N := N) (N' := quF N p) (S := S) (S' := up S p (sdv (quF N p) p)) p.toNat (fun a a0 a1 => up_n (by omega)) (fun a i a0 a1 i0 i1 => quF_cel (by have := sdv_r hB (p := a) (by omega); have := hS a a0 (by omega); omega))]
theorem l_sa3 {N1 : Int → Int} (hN : NtA sh rv iv b) (hl : PlA sh rv iv E F) (hP : Prm E F) (hRis : ∀ a : Int, 0 ≤ a → a < F 13 → Ris N a 0) (hR : Rel w N) (hB : Bok (E 5 0) (E 5 1) N) (hS : ∀ a : Int, 0 ≤ a → a < F 13 → 0 ≤ S a ∧ S a ≤ N (61 * a + 18)) (k : ∀ K', (∀ c : Int, 0 ≤ c → c < 160 → K' c = 0) → R none sh (uA (CD iv b D O T S K' C) (12 + 42 * b) w) lw rv) (m : Nat) : ∀ (p : Int) (K : Int → Int) (v3 : Option aV), 0 ≤ p → p + m = F 13 → (∀ c : Int, 0 ≤ c → c < 160 → K c = mkB N S c (F 13).toNat - mkB N S c p.toNat) → wp (d + 4) mX0_sendAll 110 [some (aR (41 + 39 * b)), some (aI (F 13)), some (aI p), v3] [] sh (uA (CD iv b D O T S K C) (12 + 42 * b) w) lw rv 0 0 R := by
  obtain ⟨hW1, hW2, hO1, hO2, hT1, hT2, hI1, hI2, hF1, hF2⟩ := id hP
  have hle : ∀ c a : Int, 0 ≤ a → a < F 13 → mkD N a c 1 (S a).toNat 0 ≤ 1 := fun c a a0 a1 => (hRis a a0 a1).d (hS a a0 a1).2
  induction m with
  | zero =>
    intro p K v3 h0 hm hK
    refine wp_iload_n dX0_sendAll_110 rfl ?_
    refine wp_iload_n dX0_sendAll_111 rfl ?_
    refine wp_icmp_ge (tgt := 144) dX0_sendAll_112 rfl (fun h112 => ?_) (fun h112 => by exfalso; omega)
    refine wp_return dX0_sendAll_144 rfl ?_
    exact k K (fun c c0 c1 => by rw [hK c c0 c1, show p = F 13 by omega]; omega)
  | succ m ih =>
    intro p K v3 h0 hm hK
    have hp : 0 ≤ p ∧ p < 6 := by omega
    have hSp := hS p h0 (by omega)
    have hKr : ∀ c : Int, 0 ≤ c → c < 160 → -90 ≤ K c ∧ K c ≤ 90 := fun c c0 c1 => by
      have h1 := mkB_r (N := N) (S := S) (c := c) p.toNat (fun a a0 a1 => hle c a a0 (by omega))
      have h2 := mkB_r (N := N) (S := S) (c := c) (F 13).toNat (fun a a0 a1 => hle c a a0 (by omega))
      rw [hK c c0 c1]; omega
    refine wp_iload_n dX0_sendAll_110 rfl ?_
    refine wp_iload_n dX0_sendAll_111 rfl ?_
    refine wp_icmp_ge (tgt := 144) dX0_sendAll_112 rfl (fun h112 => by exfalso; omega) (fun h112 => ?_)
    refine wp_aload_n dX0_sendAll_115 rfl ?_
    refine wp_aload_n dX0_sendAll_116 rfl ?_
    refine wp_getR hN.r41n dX0_sendAll_117 fX0_21 hN.s41 ?_
    refine wp_getR hN.r11l dX0_sendAll_120 fX0_42 hN.s11 ?_
    refine wp_iload_n dX0_sendAll_123 rfl ?_
    refine wp_aaldL dX0_sendAll_124 hN.s13 (by omega) (by omega) (hN.r13 hp) ?_
    refine wp_getR (hN.rls hp) dX0_sendAll_125 fX0_99 (hN.sl hp) ?_
    refine wp_aload_n dX0_sendAll_128 rfl ?_
    refine wp_getR hN.r41s dX0_sendAll_129 fX0_15 hN.s41 ?_
    refine wp_iload_n dX0_sendAll_132 rfl ?_
    refine wp_iald dX0_sendAll_133 hN.s43 (by omega) (by omega) ?_
    rw [CS43 hN.hb]
    refine wp_iconst dX0_sendAll_134 ?_
    refine wp_callV (as := [_, _, _]) (ls0 := [_, _, _, _, _, _]) (kc := 0) (ks := 0) (bc' := 0) (bs' := 0) dX0_sendAll_135 vX0_114 hN.s41 rfl rfl (Nat.le_of_ble_eq_true rfl) (Nat.le_of_ble_eq_true rfl) (by omega) (by omega) ?_
    refine f_markCells hN (hN.lk hp).sS hP hp hR hB hSp (Or.inr rfl) hKr (fun K' hK' => ?_)
    refine wp_iinc (ls' := [_, _, _, _]) dX0_sendAll_138 (by decide) rfl rfl ⟨by omega, by omega⟩ rfl ?_
    refine wp_goto (tgt := 110) dX0_sendAll_141 rfl ?_
    refine ih _ _ _ (by omega) (by omega) (fun c c0 c1 => ?_)
    rw [hK' c c0 c1, hK c c0 c1, natp h0, mkB, show ((p.toNat : Nat) : Int) = p by omega, mkD_neg]; omega
theorem l_sa2 {N1 : Int → Int} (hN : NtA sh rv iv b) (hl : PlA sh rv iv E F) (hP : Prm E F) (hP2 : Prm2 E F) (hB1 : Bok (E 5 0) (E 5 1) N1) (hfr : 0 ≤ N1 368 ∧ N1 368 ≤ 20000) (hj : 0 ≤ N1 366) (hU : ∀ a : Int, 0 ≤ a → a < F 13 → N1 (61 * a + 59) ≤ 100000 ∧ N1 (61 * a + 60) ≤ 100000) (hS : ∀ a : Int, 0 ≤ a → a < F 13 → S a = sdv N1 a) (hRis : ∀ a : Int, 0 ≤ a → a < F 13 → Ris N1 a 0) (hKm : ∀ c : Int, 0 ≤ c → c < 160 → K c = mkB N1 S c (F 13).toNat) (m : Nat) : ∀ (p : Int) (w N C : Int → Int) (v3 : Option aV), 0 ≤ p → p + m = F 13 → Rel w N → Bok (E 5 0) (E 5 1) N → Sam N N1 → (∀ a k : Int, p ≤ a → a < F 13 → 57 ≤ k → k < 61 → N (61 * a + k) = N1 (61 * a + k)) → (∀ a : Int, 0 ≤ a → a < p → C a = gtn E F N1 a) → (∀ (w' K' C' : Int → Int), Rel w' (s2L E F N1 m p N) → (∀ c : Int, 0 ≤ c → c < 160 → K' c = 0) → (∀ a : Int, 0 ≤ a → a < F 13 → C' a = gtn E F N1 a) → R none sh (uA (CD iv b D O T S K' C') (12 + 42 * b) w') lw rv) → wp (d + 4) mX0_sendAll 72 [some (aR (41 + 39 * b)), some (aI (F 13)), some (aI p), v3] [] sh (uA (CD iv b D O T S K C) (12 + 42 * b) w) lw rv 0 0 R := by
  obtain ⟨hW1, hW2, hO1, hO2, hT1, hT2, hI1, hI2, hF1, hF2⟩ := id hP
  induction m with
  | zero =>
    intro p w N C v3 h0 hm hR hB hSam h57 hC k
    have ep : p = F 13 := by omega
    have hSN : ∀ a : Int, 0 ≤ a → a < F 13 → 0 ≤ S a ∧ S a ≤ N (61 * a + 18) := fun a a0 a1 => by
      have h2 := mnI_r (hB1.v18 (p := a) (by omega)).1 (hB1.v57 (p := a) (by omega)).1
      rw [show N (61 * a + 18) = N1 (61 * a + 18) from hSam.1 a 18 a0 (by omega) (by omega), hS a a0 a1]
      exact ⟨h2.1, h2.2.1⟩
    have hRN : ∀ a : Int, 0 ≤ a → a < F 13 → Ris N a 0 := fun a a0 a1 => (hRis a a0 a1).cg (hB1.mny (p := a) (by omega) (Or.inl rfl)).2 (by rw [mq0]; exact hSam.1 a 18 a0 (by omega) (by omega)) (fun j j0 j1 => by rw [bq0]; exact hSam.1 a (0 + j) a0 (by omega) (by omega))
    refine wp_iload_n dX0_sendAll_72 rfl ?_
    refine wp_iload_n dX0_sendAll_73 rfl ?_
    refine wp_icmp_ge (tgt := 108) dX0_sendAll_74 rfl (fun _ => ?_) (fun h12 => by exfalso; omega)
    refine wp_iconst dX0_sendAll_108 ?_
    refine wp_istore_n (ls' := [_, _, _, _]) dX0_sendAll_109 (by decide) rfl rfl ?_
    refine l_sa3 (N1 := N1) hN hl hP hRN hR hB hSN (fun K' hK' => k w K' C hR hK' (fun a a0 a1 => hC a a0 (by omega))) (F 13).toNat 0 K _ (by omega) (by omega) (fun c c0 c1 => ?_)
    rw [hKm c c0 c1, mkB_c (N := N1) (N' := N) (S := S) (S' := S) _ (fun a a0 a1 => rfl) (fun a i a0 a1 i0 i1 => by rw [bq0]; exact hSam.1 a (0 + i) a0 (by omega) (by have := hSN a a0 (by omega); have := (hB.v18 (p := a) (by omega)).2; omega)), show (0 : Int).toNat = 0 from rfl, mkB]; omega
  | succ m ih =>
    intro p w N C v3 h0 hm hR hB hSam h57 hC k
    have hp : 0 ≤ p ∧ p < 6 := by omega
    have hpF : p < F 13 := by omega
    have u59 := h57 p 59 (by omega) hpF (by omega) (by omega)
    have u60 := h57 p 60 (by omega) hpF (by omega) (by omega)
    have u57 := h57 p 57 (by omega) hpF (by omega) (by omega)
    have hUp := hU p h0 hpF
    have hs6 := sdv_r hB1 hp
    have hok := sdN_ok (Q := Got E F N1 (sdv N1) p) (W := E 5 0) (Of := E 5 1) (N1 := N1) hp (sdv N1 p).toNat 0 N (by omega) (by omega) (by omega) hB hSam
    have hok2 := upF_ok (s := sdv N1 p) hok.1 hok.2.1 hp hs6.1
    have hlod : Lod p N (s2P E F N1 N p) := hok.2.2.1.tr hok2.2.2
    refine wp_iload_n dX0_sendAll_72 rfl ?_
    refine wp_iload_n dX0_sendAll_73 rfl ?_
    refine wp_icmp_ge (tgt := 108) dX0_sendAll_74 rfl (fun h74 => by exfalso; omega) (fun h74 => ?_)
    refine wp_aload_n dX0_sendAll_77 rfl ?_
    refine wp_getR hN.r41c dX0_sendAll_78 fX0_18 hN.s41 ?_
    refine wp_iload_n dX0_sendAll_81 rfl ?_
    refine wp_aload_n dX0_sendAll_82 rfl ?_
    refine wp_aload_n dX0_sendAll_83 rfl ?_
    refine wp_getR hN.r41n dX0_sendAll_84 fX0_21 hN.s41 ?_
    refine wp_getR hN.r11l dX0_sendAll_87 fX0_42 hN.s11 ?_
    refine wp_iload_n dX0_sendAll_90 rfl ?_
    refine wp_aaldL dX0_sendAll_91 hN.s13 (by omega) (by omega) (hN.r13 hp) ?_
    refine wp_aload_n dX0_sendAll_92 rfl ?_
    refine wp_getR hN.r41s dX0_sendAll_93 fX0_15 hN.s41 ?_
    refine wp_iload_n dX0_sendAll_96 rfl ?_
    refine wp_iald dX0_sendAll_97 hN.s43 (by omega) (by omega) ?_
    rw [CS43 hN.hb]
    refine wp_callV (as := [_, _]) (ls0 := [_, _, _, _, _]) (kc := 0) (ks := 0) (bc' := 0) (bs' := 0) dX0_sendAll_98 vX0_118 hN.s41 rfl rfl (Nat.le_of_ble_eq_true rfl) (Nat.le_of_ble_eq_true rfl) (by omega) (by omega) ?_
    refine f_sendOf hN hl hP hP2 hp hpF hB1 hfr hj hS hRis hKm hR hB hSam (by omega) (fun w hR => ?_)
    refine wp_iast dX0_sendAll_101 hN.s44 (by omega) (by omega) ?_
    rw [CSu44 hN.hb]
    refine wp_iinc (ls' := [_, _, _, _]) dX0_sendAll_102 (by decide) rfl rfl ⟨by omega, by omega⟩ rfl ?_
    refine wp_goto (tgt := 72) dX0_sendAll_105 rfl ?_
    refine ih _ _ _ _ _ (by omega) (by omega) hR hok2.1 hok2.2.1 (fun a k a0 a1 k0 k1 => ?_) (fun a a0 a1 => ?_) k
    · rw [hlod (61 * a + k) (by omega)]; exact h57 a k (by omega) a1 k0 k1
    · by_cases e : a = p
      · rw [e, up_s]
      · rw [up_n e]; exact hC a a0 (by omega)
theorem f_sendAll (hN : NtA sh rv iv b) (hl : PlA sh rv iv E F) (hP : Prm E F) (hP2 : Prm2 E F) (hR : Rel w N) (hB : Bok (E 5 0) (E 5 1) N) (hfr : 0 ≤ N 368 ∧ N 368 ≤ 20000) (hj : 0 ≤ N 366) (hU : ∀ a : Int, 0 ≤ a → a < F 13 → N (61 * a + 59) ≤ 100000 ∧ N (61 * a + 60) ≤ 100000) (hRis : ∀ a : Int, 0 ≤ a → a < F 13 → Ris N a 0) (hK : ∀ c : Int, 0 ≤ c → c < 160 → K c = 0) (k : ∀ (w' S' K' C' : Int → Int), Rel w' (s2L E F (quL (F 13).toNat 0 N) (F 13).toNat 0 (quL (F 13).toNat 0 N)) → (∀ c : Int, 0 ≤ c → c < 160 → K' c = 0) → (∀ a : Int, 0 ≤ a → a < F 13 → C' a = gtn E F (quL (F 13).toNat 0 N) a) → R none sh (uA (CD iv b D O T S' K' C') (12 + 42 * b) w') lw rv) : wp (d + 4) mX0_sendAll 0 [some (aR (41 + 39 * b)), none, none, none] [] sh (uA (CD iv b D O T S K C) (12 + 42 * b) w) lw rv 0 0 R := by
  obtain ⟨hW1, hW2, hO1, hO2, hT1, hT2, hI1, hI2, hF1, hF2⟩ := id hP
  have hBq : Bok (E 5 0) (E 5 1) (quL (F 13).toNat 0 N) := Bok.bquL _ _ _ (by omega) (by omega) hB
  have hqn : ∀ a k : Int, ¬ k = 57 → 0 ≤ k → k < 61 → 0 ≤ a → quL (F 13).toNat 0 N (61 * a + k) = N (61 * a + k) := fun a k k1 k2 k3 a0 => quL_n _ _ _ _ (fun x x0 x1 => by omega)
  have q368 : quL (F 13).toNat 0 N 368 = N 368 := quL_n _ _ _ _ (fun x x0 x1 => by omega)
  have q366 : quL (F 13).toNat 0 N 366 = N 366 := quL_n _ _ _ _ (fun x x0 x1 => by omega)
  have hRq : ∀ a : Int, 0 ≤ a → a < F 13 → Ris (quL (F 13).toNat 0 N) a 0 := fun a a0 a1 => (hRis a a0 a1).cg (hB.mny (p := a) (by omega) (Or.inl rfl)).2 (by rw [mq0]; exact hqn a 18 (by omega) (by omega) (by omega) a0) (fun j j0 j1 => by rw [bq0]; exact hqn a (0 + j) (by omega) (by omega) (by omega) a0)
  refine wp_aload_n dX0_sendAll_0 rfl ?_
  refine wp_getR hN.r41p dX0_sendAll_1 fX0_31 hN.s41 ?_
  refine wp_callV (as := []) (ls0 := [_]) (kc := 0) (ks := 0) (bc' := 0) (bs' := 0) dX0_sendAll_4 vX0_36 hl.1 rfl rfl (Nat.le_of_ble_eq_true rfl) (Nat.le_of_ble_eq_true rfl) (by omega) (by omega) ?_
  refine n_pairs (hN.pl hl) ?_
  refine wp_istore_n (ls' := [_, _, _, _]) dX0_sendAll_7 (by decide) rfl rfl ?_
  refine wp_iconst dX0_sendAll_8 ?_
  refine wp_istore_n (ls' := [_, _, _, _]) dX0_sendAll_9 (by decide) rfl rfl ?_
  refine l_sa1 hN hl hP (F 13).toNat 0 w N S K _ (by omega) (by omega) hR hB hRis (fun a a0 a1 => by omega) (fun c c0 c1 => by rw [hK c c0 c1]; rfl) (fun w' S' K' v2' v3' hR' hS' hK' => ?_)
  refine wp_iconst dX0_sendAll_70 ?_
  refine wp_istore_n (ls' := [_, _, _, _]) dX0_sendAll_71 (by decide) rfl rfl ?_
  exact l_sa2 hN hl hP hP2 hBq (by rw [q368]; exact hfr) (by rw [q366]; exact hj) (fun a a0 a1 => by rw [hqn a 59 (by omega) (by omega) (by omega) a0, hqn a 60 (by omega) (by omega) (by omega) a0]; exact hU a a0 a1) hS' hRq hK' (F 13).toNat 0 w' _ C _ (by omega) (by omega) hR' hBq Sam.rf (fun a k a0 a1 k0 k1 => rfl) (fun a a0 a1 => by omega) (fun w2 K2 C2 g1 g2 g3 => k w2 S' K2 C2 g1 g2 g3)
end C13
