/-- a node's slot is taken by a cell of a table or by a promised one -/
def Tkn (N pa : Int → Int) (np nd sl : Int) : Prop := ∃ p q : Int, 0 ≤ p ∧ p < np ∧ (q = 0 ∨ q = 1) ∧ pa (4 * p + q) = nd ∧ ((∃ i : Int, 0 ≤ i ∧ i < N (61 * p + mq q) ∧ N (61 * p + (bq q + i)) / 10 = sl) ∨ ∃ i : Int, 0 ≤ i ∧ i < N (61 * p + (33 + q)) ∧ N (61 * p + (35 + 4 * q + i)) / 10 = sl)
def TkOK (N : Int → Int) (np : Int) : Prop := ∀ p q : Int, 0 ≤ p → p < np → (q = 0 ∨ q = 1) → (0 ≤ N (61 * p + mq q) ∧ N (61 * p + mq q) ≤ 6) ∧ (0 ≤ N (61 * p + (33 + q)) ∧ N (61 * p + (33 + q)) ≤ 4) ∧ (∀ i : Int, 0 ≤ i → i < N (61 * p + mq q) → 0 ≤ N (61 * p + (bq q + i))) ∧ ∀ i : Int, 0 ≤ i → i < N (61 * p + (33 + q)) → 0 ≤ N (61 * p + (35 + 4 * q + i))
section R3
variable {d : Nat} {iv lw : aF} {F N G O T S : Int → Int} {R : aPost}
theorem l_tkC {nd sl p q z : Int} (hok : TkOK N (F 13)) (hF : 0 ≤ F 13 ∧ F 13 ≤ 6) (h0 : 0 ≤ p ∧ p < F 13) (hq : q = 0 ∨ q = 1) (hz : z = 1) (kt : (∃ i : Int, 0 ≤ i ∧ i < N (61 * p + mq q) ∧ N (61 * p + (bq q + i)) / 10 = sl) → R (some (aI 1)) SHR (ST iv F N G O T S) lw RVR) (kn : ∀ i : Int, (∀ j : Int, 0 ≤ j → j < N (61 * p + mq q) → ¬ N (61 * p + (bq q + j)) / 10 = sl) → wp (d + 2) mX12_isTaken 81 [some (aR 0), some (aI nd), some (aI sl), some (aI p), some (aI q), some (aI z), some (aI i)] [] SHR (ST iv F N G O T S) lw RVR 0 0 R) (n : Nat) : ∀ i : Int, 0 ≤ i → i + n = N (61 * p + mq q) → (∀ j : Int, 0 ≤ j → j < i → ¬ N (61 * p + (bq q + j)) / 10 = sl) → wp (d + 2) mX12_isTaken 40 [some (aR 0), some (aI nd), some (aI sl), some (aI p), some (aI q), some (aI z), some (aI i)] [] SHR (ST iv F N G O T S) lw RVR 0 0 R := by
  obtain ⟨hm, -, hc, -⟩ := hok p q h0.1 h0.2 hq
  induction n with
  | zero =>
    intro i hi hn hj
    refine wp_iload dX12_isTaken_40 rfl ?_
    refine wp_aload_n dX12_isTaken_42 rfl ?_
    refine wp_iload_n dX12_isTaken_43 rfl ?_
    refine wp_iload dX12_isTaken_44 rfl ?_
    refine wp_callV (as := [_, _]) (ls0 := [_, _, _]) (kc := 0) (ks := 0) (bc' := 0) (bs' := 0) dX12_isTaken_46 vX12_164 rfl rfl rfl (Nat.le_of_ble_eq_true rfl) (Nat.le_of_ble_eq_true rfl) (by omega) (by omega) ?_
    refine s_manyOf (by omega) (by omega) ?_
    refine wp_icmp_ge (tgt := 81) dX12_isTaken_49 rfl (fun h49 => ?_) (fun h49 => by exfalso; omega)
    exact kn _ (fun j h1 h2 => hj j h1 (by omega))
  | succ n ih =>
    intro i hi hn hj
    have hci := hc i hi (by omega)
    refine wp_iload dX12_isTaken_40 rfl ?_
    refine wp_aload_n dX12_isTaken_42 rfl ?_
    refine wp_iload_n dX12_isTaken_43 rfl ?_
    refine wp_iload dX12_isTaken_44 rfl ?_
    refine wp_callV (as := [_, _]) (ls0 := [_, _, _]) (kc := 0) (ks := 0) (bc' := 0) (bs' := 0) dX12_isTaken_46 vX12_164 rfl rfl rfl (Nat.le_of_ble_eq_true rfl) (Nat.le_of_ble_eq_true rfl) (by omega) (by omega) ?_
    refine s_manyOf (by omega) (by omega) ?_
    refine wp_icmp_ge (tgt := 81) dX12_isTaken_49 rfl (fun h49 => by exfalso; omega) (fun h49 => ?_)
    refine wp_iload dX12_isTaken_52 rfl ?_
    refine wp_if_eq (tgt := 81) dX12_isTaken_54 rfl (fun h54 => by exfalso; omega) (fun h54 => ?_)
    refine wp_aload_n dX12_isTaken_57 rfl ?_
    refine wp_iload_n dX12_isTaken_58 rfl ?_
    refine wp_iload dX12_isTaken_59 rfl ?_
    refine wp_iload dX12_isTaken_61 rfl ?_
    refine wp_callV (as := [_, _, _]) (ls0 := [_, _, _, _]) (kc := 0) (ks := 0) (bc' := 0) (bs' := 0) dX12_isTaken_63 vX12_167 rfl rfl rfl (Nat.le_of_ble_eq_true rfl) (Nat.le_of_ble_eq_true rfl) (by omega) (by omega) ?_
    refine s_cellOf (by omega) (by omega) (by omega) ?_
    refine wp_bipush dX12_isTaken_66 ?_
    refine wp_idiv dX12_isTaken_68 (by omega) (by omega) ?_
    refine wp_iload_n dX12_isTaken_69 rfl ?_
    refine wp_icmp_ne (tgt := 75) dX12_isTaken_70 rfl (fun h70 => ?_) (fun h70 => ?_)
    · refine wp_iinc (ls' := [_, _, _, _, _, _, _]) dX12_isTaken_75 (by decide) rfl rfl ⟨by omega, by omega⟩ rfl ?_
      refine wp_goto (tgt := 40) dX12_isTaken_78 rfl ?_
      exact ih _ (by omega) (by omega) (fun j h1 h2 => (Decidable.em (j = i)).elim (fun e => by rw [e]; exact h70) (fun e => hj j h1 (by omega)))
    · refine wp_iconst dX12_isTaken_73 ?_
      refine wp_zreturn dX12_isTaken_74 rfl (Or.inr rfl) ?_
      exact kt ⟨i, hi, by omega, h70⟩
theorem l_tkP {nd sl p q z : Int} (hok : TkOK N (F 13)) (hF : 0 ≤ F 13 ∧ F 13 ≤ 6) (h0 : 0 ≤ p ∧ p < F 13) (hq : q = 0 ∨ q = 1) (hz : z = 1) (kt : (∃ i : Int, 0 ≤ i ∧ i < N (61 * p + (33 + q)) ∧ N (61 * p + (35 + 4 * q + i)) / 10 = sl) → R (some (aI 1)) SHR (ST iv F N G O T S) lw RVR) (kn : ∀ i : Int, (∀ j : Int, 0 ≤ j → j < N (61 * p + (33 + q)) → ¬ N (61 * p + (35 + 4 * q + j)) / 10 = sl) → wp (d + 2) mX12_isTaken 134 [some (aR 0), some (aI nd), some (aI sl), some (aI p), some (aI q), some (aI z), some (aI i)] [] SHR (ST iv F N G O T S) lw RVR 0 0 R) (n : Nat) : ∀ i : Int, 0 ≤ i → i + n = N (61 * p + (33 + q)) → (∀ j : Int, 0 ≤ j → j < i → ¬ N (61 * p + (35 + 4 * q + j)) / 10 = sl) → wp (d + 2) mX12_isTaken 84 [some (aR 0), some (aI nd), some (aI sl), some (aI p), some (aI q), some (aI z), some (aI i)] [] SHR (ST iv F N G O T S) lw RVR 0 0 R := by
  obtain ⟨-, hm, -, hc⟩ := hok p q h0.1 h0.2 hq
  induction n with
  | zero =>
    intro i hi hn hj
    refine wp_iload dX12_isTaken_84 rfl ?_
    refine wp_aload_n dX12_isTaken_86 rfl ?_
    refine wp_iload_n dX12_isTaken_87 rfl ?_
    refine wp_bipush dX12_isTaken_88 ?_
    refine wp_iload dX12_isTaken_90 rfl ?_
    refine wp_iadd dX12_isTaken_92 ⟨by omega, by omega⟩ ?_
    refine wp_callV (as := [_, _]) (ls0 := [_, _, _]) (kc := 0) (ks := 0) (bc' := 0) (bs' := 0) dX12_isTaken_93 vX12_161 rfl rfl rfl (Nat.le_of_ble_eq_true rfl) (Nat.le_of_ble_eq_true rfl) (by omega) (by omega) ?_
    refine s_of (by omega) (by omega) ?_
    refine wp_icmp_ge (tgt := 134) dX12_isTaken_96 rfl (fun h96 => ?_) (fun h96 => by exfalso; omega)
    exact kn _ (fun j h1 h2 => hj j h1 (by omega))
  | succ n ih =>
    intro i hi hn hj
    have hci := hc i hi (by omega)
    refine wp_iload dX12_isTaken_84 rfl ?_
    refine wp_aload_n dX12_isTaken_86 rfl ?_
    refine wp_iload_n dX12_isTaken_87 rfl ?_
    refine wp_bipush dX12_isTaken_88 ?_
    refine wp_iload dX12_isTaken_90 rfl ?_
    refine wp_iadd dX12_isTaken_92 ⟨by omega, by omega⟩ ?_
    refine wp_callV (as := [_, _]) (ls0 := [_, _, _]) (kc := 0) (ks := 0) (bc' := 0) (bs' := 0) dX12_isTaken_93 vX12_161 rfl rfl rfl (Nat.le_of_ble_eq_true rfl) (Nat.le_of_ble_eq_true rfl) (by omega) (by omega) ?_
    refine s_of (by omega) (by omega) ?_
    refine wp_icmp_ge (tgt := 134) dX12_isTaken_96 rfl (fun h96 => by exfalso; omega) (fun h96 => ?_)
    refine wp_iload dX12_isTaken_99 rfl ?_
    refine wp_if_eq (tgt := 134) dX12_isTaken_101 rfl (fun h101 => by exfalso; omega) (fun h101 => ?_)
    refine wp_aload_n dX12_isTaken_104 rfl ?_
    refine wp_iload_n dX12_isTaken_105 rfl ?_
    refine wp_bipush dX12_isTaken_106 ?_
    refine wp_iconst dX12_isTaken_108 ?_
    refine wp_iload dX12_isTaken_109 rfl ?_
    refine wp_imul dX12_isTaken_111 ⟨by omega, by omega⟩ ?_
    refine wp_iadd dX12_isTaken_112 ⟨by omega, by omega⟩ ?_
    refine wp_iload dX12_isTaken_113 rfl ?_
    refine wp_iadd dX12_isTaken_115 ⟨by omega, by omega⟩ ?_
    refine wp_callV (as := [_, _]) (ls0 := [_, _, _]) (kc := 0) (ks := 0) (bc' := 0) (bs' := 0) dX12_isTaken_116 vX12_161 rfl rfl rfl (Nat.le_of_ble_eq_true rfl) (Nat.le_of_ble_eq_true rfl) (by omega) (by omega) ?_
    refine s_of (by omega) (by omega) ?_
    refine wp_bipush dX12_isTaken_119 ?_
    refine wp_idiv dX12_isTaken_121 (by omega) (by omega) ?_
    refine wp_iload_n dX12_isTaken_122 rfl ?_
    refine wp_icmp_ne (tgt := 128) dX12_isTaken_123 rfl (fun h123 => ?_) (fun h123 => ?_)
    · refine wp_iinc (ls' := [_, _, _, _, _, _, _]) dX12_isTaken_128 (by decide) rfl rfl ⟨by omega, by omega⟩ rfl ?_
      refine wp_goto (tgt := 84) dX12_isTaken_131 rfl ?_
      exact ih _ (by omega) (by omega) (fun j h1 h2 => (Decidable.em (j = i)).elim (fun e => by rw [e]; exact h123) (fun e => hj j h1 (by omega)))
    · refine wp_iconst dX12_isTaken_126 ?_
      refine wp_zreturn dX12_isTaken_127 rfl (Or.inr rfl) ?_
      exact kt ⟨i, hi, by omega, h123⟩
theorem l_tkS {nd sl p q : Int} {vz vi : Option aV} (hok : TkOK N (F 13)) (hF : 0 ≤ F 13 ∧ F 13 ≤ 6) (h0 : 0 ≤ p ∧ p < F 13) (hq : q = 0 ∨ q = 1) (kt : iv 6 (4 * p + q) = nd ∧ ((∃ i : Int, 0 ≤ i ∧ i < N (61 * p + mq q) ∧ N (61 * p + (bq q + i)) / 10 = sl) ∨ ∃ i : Int, 0 ≤ i ∧ i < N (61 * p + (33 + q)) ∧ N (61 * p + (35 + 4 * q + i)) / 10 = sl) → R (some (aI 1)) SHR (ST iv F N G O T S) lw RVR) (kn : ∀ (z i : Int), ¬ (iv 6 (4 * p + q) = nd ∧ ((∃ i : Int, 0 ≤ i ∧ i < N (61 * p + mq q) ∧ N (61 * p + (bq q + i)) / 10 = sl) ∨ ∃ i : Int, 0 ≤ i ∧ i < N (61 * p + (33 + q)) ∧ N (61 * p + (35 + 4 * q + i)) / 10 = sl)) → wp (d + 2) mX12_isTaken 134 [some (aR 0), some (aI nd), some (aI sl), some (aI p), some (aI q), some (aI z), some (aI i)] [] SHR (ST iv F N G O T S) lw RVR 0 0 R) : wp (d + 2) mX12_isTaken 19 [some (aR 0), some (aI nd), some (aI sl), some (aI p), some (aI q), vz, vi] [] SHR (ST iv F N G O T S) lw RVR 0 0 R := by
  obtain ⟨hm, hm2, -, -⟩ := hok p q h0.1 h0.2 hq
  refine wp_aload_n dX12_isTaken_19 rfl ?_
  refine wp_iload_n dX12_isTaken_20 rfl ?_
  refine wp_iload dX12_isTaken_21 rfl ?_
  refine wp_callV (as := [_, _]) (ls0 := [_, _, _]) (kc := 0) (ks := 0) (bc' := 0) (bs' := 0) dX12_isTaken_23 vX12_178 rfl rfl rfl (Nat.le_of_ble_eq_true rfl) (Nat.le_of_ble_eq_true rfl) (by omega) (by omega) ?_
  refine s_nodeOf (by omega) (by omega) ?_
  refine wp_iload_n dX12_isTaken_26 rfl ?_
  refine wp_icmp_ne (tgt := 34) dX12_isTaken_27 rfl (fun h27 => ?_) (fun h27 => ?_)
  · refine wp_iconst dX12_isTaken_34 ?_
    refine wp_istore (ls' := [_, _, _, _, _, _, _]) dX12_isTaken_35 (by decide) rfl rfl ?_
    refine wp_iconst dX12_isTaken_37 ?_
    refine wp_istore (ls' := [_, _, _, _, _, _, _]) dX12_isTaken_38 (by decide) rfl rfl ?_
    refine wp_iload dX12_isTaken_40 rfl ?_
    refine wp_aload_n dX12_isTaken_42 rfl ?_
    refine wp_iload_n dX12_isTaken_43 rfl ?_
    refine wp_iload dX12_isTaken_44 rfl ?_
    refine wp_callV (as := [_, _]) (ls0 := [_, _, _]) (kc := 0) (ks := 0) (bc' := 0) (bs' := 0) dX12_isTaken_46 vX12_164 rfl rfl rfl (Nat.le_of_ble_eq_true rfl) (Nat.le_of_ble_eq_true rfl) (by omega) (by omega) ?_
    refine s_manyOf (by omega) (by omega) ?_
    refine wp_icmp_ge (tgt := 81) dX12_isTaken_49 rfl (fun h49 => ?_) (fun h49 => ?_)
    · refine wp_iconst dX12_isTaken_81 ?_
      refine wp_istore (ls' := [_, _, _, _, _, _, _]) dX12_isTaken_82 (by decide) rfl rfl ?_
      refine wp_iload dX12_isTaken_84 rfl ?_
      refine wp_aload_n dX12_isTaken_86 rfl ?_
      refine wp_iload_n dX12_isTaken_87 rfl ?_
      refine wp_bipush dX12_isTaken_88 ?_
      refine wp_iload dX12_isTaken_90 rfl ?_
      refine wp_iadd dX12_isTaken_92 ⟨by omega, by omega⟩ ?_
      refine wp_callV (as := [_, _]) (ls0 := [_, _, _]) (kc := 0) (ks := 0) (bc' := 0) (bs' := 0) dX12_isTaken_93 vX12_161 rfl rfl rfl (Nat.le_of_ble_eq_true rfl) (Nat.le_of_ble_eq_true rfl) (by omega) (by omega) ?_
      refine s_of (by omega) (by omega) ?_
      refine wp_icmp_ge (tgt := 134) dX12_isTaken_96 rfl (fun h96 => ?_) (fun h96 => ?_)
      · exact kn _ _ (fun h => h27 h.1)
      · refine wp_iload dX12_isTaken_99 rfl ?_
        refine wp_if_eq (tgt := 134) dX12_isTaken_101 rfl (fun _ => ?_) (fun q => absurd q (by decide))
        exact kn _ _ (fun h => h27 h.1)
    · refine wp_iload dX12_isTaken_52 rfl ?_
      refine wp_if_eq (tgt := 81) dX12_isTaken_54 rfl (fun _ => ?_) (fun q => absurd q (by decide))
      refine wp_iconst dX12_isTaken_81 ?_
      refine wp_istore (ls' := [_, _, _, _, _, _, _]) dX12_isTaken_82 (by decide) rfl rfl ?_
      refine wp_iload dX12_isTaken_84 rfl ?_
      refine wp_aload_n dX12_isTaken_86 rfl ?_
      refine wp_iload_n dX12_isTaken_87 rfl ?_
      refine wp_bipush dX12_isTaken_88 ?_
      refine wp_iload dX12_isTaken_90 rfl ?_
      refine wp_iadd dX12_isTaken_92 ⟨by omega, by omega⟩ ?_
      refine wp_callV (as := [_, _]) (ls0 := [_, _, _]) (kc := 0) (ks := 0) (bc' := 0) (bs' := 0) dX12_isTaken_93 vX12_161 rfl rfl rfl (Nat.le_of_ble_eq_true rfl) (Nat.le_of_ble_eq_true rfl) (by omega) (by omega) ?_
      refine s_of (by omega) (by omega) ?_
      refine wp_icmp_ge (tgt := 134) dX12_isTaken_96 rfl (fun h96 => ?_) (fun h96 => ?_)
      · exact kn _ _ (fun h => h27 h.1)
      · refine wp_iload dX12_isTaken_99 rfl ?_
        refine wp_if_eq (tgt := 134) dX12_isTaken_101 rfl (fun _ => ?_) (fun q => absurd q (by decide))
        exact kn _ _ (fun h => h27 h.1)
  · refine wp_iconst dX12_isTaken_30 ?_
    refine wp_goto (tgt := 35) dX12_isTaken_31 rfl ?_
    refine wp_istore (ls' := [_, _, _, _, _, _, _]) dX12_isTaken_35 (by decide) rfl rfl ?_
    refine wp_iconst dX12_isTaken_37 ?_
    refine wp_istore (ls' := [_, _, _, _, _, _, _]) dX12_isTaken_38 (by decide) rfl rfl ?_
    refine l_tkC hok hF h0 hq rfl (fun h => kt ⟨h27, Or.inl h⟩) (fun i hn1 => ?_) (N (61 * p + mq q)).toNat 0 (by omega) (by omega) (fun j h1 h2 => by omega)
    refine wp_iconst dX12_isTaken_81 ?_
    refine wp_istore (ls' := [_, _, _, _, _, _, _]) dX12_isTaken_82 (by decide) rfl rfl ?_
    refine l_tkP hok hF h0 hq rfl (fun h => kt ⟨h27, Or.inr h⟩) (fun i hn2 => ?_) (N (61 * p + (33 + q))).toNat 0 (by omega) (by omega) (fun j h1 h2 => by omega)
    exact kn _ _ (fun ⟨_, h⟩ => h.elim (fun ⟨i, a, b, c⟩ => hn1 i a b c) (fun ⟨i, a, b, c⟩ => hn2 i a b c))
theorem l_tkN {nd sl : Int} (hok : TkOK N (F 13)) (hF : 0 ≤ F 13 ∧ F 13 ≤ 6) (kt : Tkn N (iv 6) (F 13) nd sl → R (some (aI 1)) SHR (ST iv F N G O T S) lw RVR) (kf : ¬ Tkn N (iv 6) (F 13) nd sl → R (some (aI 0)) SHR (ST iv F N G O T S) lw RVR) (n : Nat) : ∀ (p : Int) (vq vz vi : Option aV), 0 ≤ p → p + n = F 13 → (∀ a q : Int, 0 ≤ a → a < p → (q = 0 ∨ q = 1) → ¬ (iv 6 (4 * a + q) = nd ∧ ((∃ i : Int, 0 ≤ i ∧ i < N (61 * a + mq q) ∧ N (61 * a + (bq q + i)) / 10 = sl) ∨ ∃ i : Int, 0 ≤ i ∧ i < N (61 * a + (33 + q)) ∧ N (61 * a + (35 + 4 * q + i)) / 10 = sl))) → wp (d + 2) mX12_isTaken 2 [some (aR 0), some (aI nd), some (aI sl), some (aI p), vq, vz, vi] [] SHR (ST iv F N G O T S) lw RVR 0 0 R := by
  induction n with
  | zero =>
    intro p vq vz vi hp0 hpn hj
    refine wp_iload_n dX12_isTaken_2 rfl ?_
    refine wp_aload_n dX12_isTaken_3 rfl ?_
    refine wp_getI dX12_isTaken_4 fX12_138 rfl ?_
    try simp only [ST0, ST5, ST6, ST7, ST8, ST10, ST11, ST12, ST13]
    refine wp_icmp_ge (tgt := 146) dX12_isTaken_7 rfl (fun h7 => ?_) (fun h7 => by exfalso; omega)
    refine wp_iconst dX12_isTaken_146 ?_
    refine wp_zreturn dX12_isTaken_147 rfl (Or.inl rfl) ?_
    exact kf (fun ⟨a, q, h1, h2, h3, h4, h5⟩ => hj a q h1 (by omega) h3 ⟨h4, h5⟩)
  | succ n ih =>
    intro p vq vz vi hp0 hpn hj
    have h0 : 0 ≤ p ∧ p < F 13 := ⟨hp0, by omega⟩
    refine wp_iload_n dX12_isTaken_2 rfl ?_
    refine wp_aload_n dX12_isTaken_3 rfl ?_
    refine wp_getI dX12_isTaken_4 fX12_138 rfl ?_
    try simp only [ST0, ST5, ST6, ST7, ST8, ST10, ST11, ST12, ST13]
    refine wp_icmp_ge (tgt := 146) dX12_isTaken_7 rfl (fun h7 => by exfalso; omega) (fun h7 => ?_)
    refine wp_iconst dX12_isTaken_10 ?_
    refine wp_istore (ls' := [_, _, _, _, _, _, _]) dX12_isTaken_11 (by decide) rfl rfl ?_
    refine wp_iload dX12_isTaken_13 rfl ?_
    refine wp_iconst dX12_isTaken_15 ?_
    refine wp_icmp_ge (tgt := 140) dX12_isTaken_16 rfl (fun q => absurd q (by decide)) (fun _ => ?_)
    refine l_tkS hok hF h0 (Or.inl rfl) (fun h => kt ⟨p, 0, h0.1, h0.2, Or.inl rfl, h.1, h.2⟩) (fun z i hn0 => ?_)
    refine wp_iinc (ls' := [_, _, _, _, _, _, _]) dX12_isTaken_134 (by decide) rfl rfl ⟨by omega, by omega⟩ rfl ?_
    refine wp_goto (tgt := 13) dX12_isTaken_137 rfl ?_
    refine wp_iload dX12_isTaken_13 rfl ?_
    refine wp_iconst dX12_isTaken_15 ?_
    refine wp_icmp_ge (tgt := 140) dX12_isTaken_16 rfl (fun h16 => by exfalso; omega) (fun h16 => ?_)
    refine l_tkS (q := 0 + 1) hok hF h0 (Or.inr rfl) (fun h => kt ⟨p, 0 + 1, h0.1, h0.2, Or.inr rfl, h.1, h.2⟩) (fun z i hn1 => ?_)
    refine wp_iinc (ls' := [_, _, _, _, _, _, _]) dX12_isTaken_134 (by decide) rfl rfl ⟨by omega, by omega⟩ rfl ?_
    refine wp_goto (tgt := 13) dX12_isTaken_137 rfl ?_
    refine wp_iload dX12_isTaken_13 rfl ?_
    refine wp_iconst dX12_isTaken_15 ?_
    refine wp_icmp_ge (tgt := 140) dX12_isTaken_16 rfl (fun h16 => ?_) (fun h16 => by exfalso; omega)
    refine wp_iinc (ls' := [_, _, _, _, _, _, _]) dX12_isTaken_140 (by decide) rfl rfl ⟨by omega, by omega⟩ rfl ?_
    refine wp_goto (tgt := 2) dX12_isTaken_143 rfl ?_
    exact ih _ _ _ _ (by omega) (by omega) (fun a q h1 h2 h3 => (Decidable.em (a = p)).elim (fun e => by rw [e]; rcases h3 with rfl | rfl; exact hn0; exact hn1) (fun e => hj a q h1 (by omega) h3))
theorem s_isTaken {nd sl : Int} (hok : TkOK N (F 13)) (hF : 0 ≤ F 13 ∧ F 13 ≤ 6) (kt : Tkn N (iv 6) (F 13) nd sl → R (some (aI 1)) SHR (ST iv F N G O T S) lw RVR) (kf : ¬ Tkn N (iv 6) (F 13) nd sl → R (some (aI 0)) SHR (ST iv F N G O T S) lw RVR) : wp (d + 2) mX12_isTaken 0 [some (aR 0), some (aI nd), some (aI sl), none, none, none, none] [] SHR (ST iv F N G O T S) lw RVR 0 0 R := by
  refine wp_iconst dX12_isTaken_0 ?_
  refine wp_istore_n (ls' := [_, _, _, _, _, _, _]) dX12_isTaken_1 (by decide) rfl rfl ?_
  exact l_tkN hok hF kt kf (F 13).toNat 0 _ _ _ (by omega) (by omega) (fun a q h1 h2 => by omega)
end R3
