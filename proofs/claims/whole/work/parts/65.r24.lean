section R24
variable {d : Nat} {iv lw : aF} {F N G O T S K : Int → Int} {R : aPost}
def gtS (N : Int → Int) : Nat → Int
  | 0 => 0
  | m + 1 => gtS N m + gtO N m (N (61 * (m : Int) + 18)).toNat
theorem gtS_r {W Of : Int} (hB : Bok W Of N) (m : Nat) (hm : m ≤ 6) : 0 ≤ gtS N m ∧ gtS N m ≤ 5994 * m := by
  induction m with
  | zero => exact ⟨Int.le_refl _, Int.le_refl _⟩
  | succ m ih =>
    have h1 := ih (by omega)
    have h3 := hB.v18 (p := m) (by omega)
    have h2 := gtO_r (p := m) hB (by omega) (N (61 * (m : Int) + 18)).toNat (by omega)
    rw [gtS]; omega
theorem l_gotOf {p : Int} (hp : 0 ≤ p ∧ p < 6) (hB : Bok (iv 5 0) (iv 5 1) N) (k : R (some (aI (gtO N p (N (61 * p + 18)).toNat))) SHR (ST iv F N G O T S) lw RVR) (m : Nat) : ∀ x i : Int, 0 ≤ i → i + m = N (61 * p + 18) → x = gtO N p i.toNat → wp (d + 1) mX12_gotOf 4 [some (aR 0), some (aI p), some (aI x), some (aI i)] [] SHR (ST iv F N G O T S) lw RVR 0 0 R := by
  have h18 := hB.v18 hp
  induction m with
  | zero =>
    intro x i h0 hm hx
    refine wp_iload_n dX12_gotOf_4 rfl ?_
    refine wp_aload_n dX12_gotOf_5 rfl ?_
    refine wp_iload_n dX12_gotOf_6 rfl ?_
    refine wp_bipush dX12_gotOf_7 ?_
    refine wp_callV (as := [_, _]) (ls0 := [_, _, _]) (kc := 0) (ks := 0) (bc' := 0) (bs' := 0) dX12_gotOf_9 vX12_161 rfl rfl rfl (Nat.le_of_ble_eq_true rfl) (Nat.le_of_ble_eq_true rfl) (by omega) (by omega) ?_
    refine s_of (by omega) (by omega) ?_
    refine wp_icmp_ge (tgt := 33) dX12_gotOf_12 rfl (fun h12 => ?_) (fun h12 => by exfalso; omega)
    refine wp_iload_n dX12_gotOf_33 rfl ?_
    refine wp_ireturn dX12_gotOf_34 rfl ?_
    rw [hx, show i = N (61 * p + 18) by omega]; exact k
  | succ m ih =>
    intro x i h0 hm hx
    have hr := gtO_r hB hp i.toNat (by omega)
    have h2 := hB p (12 + i) hp.1 hp.2 (by omega) (by omega)
    rw [k999 (by omega)] at h2
    refine wp_iload_n dX12_gotOf_4 rfl ?_
    refine wp_aload_n dX12_gotOf_5 rfl ?_
    refine wp_iload_n dX12_gotOf_6 rfl ?_
    refine wp_bipush dX12_gotOf_7 ?_
    refine wp_callV (as := [_, _]) (ls0 := [_, _, _]) (kc := 0) (ks := 0) (bc' := 0) (bs' := 0) dX12_gotOf_9 vX12_161 rfl rfl rfl (Nat.le_of_ble_eq_true rfl) (Nat.le_of_ble_eq_true rfl) (by omega) (by omega) ?_
    refine s_of (by omega) (by omega) ?_
    refine wp_icmp_ge (tgt := 33) dX12_gotOf_12 rfl (fun h12 => by exfalso; omega) (fun h12 => ?_)
    refine wp_iload_n dX12_gotOf_15 rfl ?_
    refine wp_aload_n dX12_gotOf_16 rfl ?_
    refine wp_iload_n dX12_gotOf_17 rfl ?_
    refine wp_bipush dX12_gotOf_18 ?_
    refine wp_iload_n dX12_gotOf_20 rfl ?_
    refine wp_iadd dX12_gotOf_21 ⟨by omega, by omega⟩ ?_
    refine wp_callV (as := [_, _]) (ls0 := [_, _, _]) (kc := 0) (ks := 0) (bc' := 0) (bs' := 0) dX12_gotOf_22 vX12_161 rfl rfl rfl (Nat.le_of_ble_eq_true rfl) (Nat.le_of_ble_eq_true rfl) (by omega) (by omega) ?_
    refine s_of (by omega) (by omega) ?_
    refine wp_iadd dX12_gotOf_25 ⟨by omega, by omega⟩ ?_
    refine wp_istore_n (ls' := [_, _, _, _]) dX12_gotOf_26 (by decide) rfl rfl ?_
    refine wp_iinc (ls' := [_, _, _, _]) dX12_gotOf_27 (by decide) rfl rfl ⟨by omega, by omega⟩ rfl ?_
    refine wp_goto (tgt := 4) dX12_gotOf_30 rfl ?_
    exact ih _ _ (by omega) (by omega) (by rw [toN1 h0, gtO, toNI h0, hx])
theorem s_gotOf {p : Int} (hp : 0 ≤ p ∧ p < 6) (hB : Bok (iv 5 0) (iv 5 1) N) (k : R (some (aI (gtO N p (N (61 * p + 18)).toNat))) SHR (ST iv F N G O T S) lw RVR) : wp (d + 1) mX12_gotOf 0 [some (aR 0), some (aI p), none, none] [] SHR (ST iv F N G O T S) lw RVR 0 0 R := by
  have h18 := hB.v18 hp
  refine wp_iconst dX12_gotOf_0 ?_
  refine wp_istore_n (ls' := [_, _, _, _]) dX12_gotOf_1 (by decide) rfl rfl ?_
  refine wp_iconst dX12_gotOf_2 ?_
  refine wp_istore_n (ls' := [_, _, _, _]) dX12_gotOf_3 (by decide) rfl rfl ?_
  exact l_gotOf hp hB k (N (61 * p + 18)).toNat _ _ (by omega) (by omega) rfl
theorem l_shares {p c : Int} (hP : Prm iv F) (hB : Bok (iv 5 0) (iv 5 1) N) (k : ∀ v4 : aV, wp (d + 2) mX12_shares 50 [some (aR 0), some (aI p), some (aI c), some (aI (gtS N (F 13).toNat)), some v4] [] SHR (ST iv F N G O T S) lw RVR 0 0 R) (m : Nat) : ∀ x a : Int, 0 ≤ a → a + m = F 13 → x = gtS N a.toNat → wp (d + 2) mX12_shares 26 [some (aR 0), some (aI p), some (aI c), some (aI x), some (aI a)] [] SHR (ST iv F N G O T S) lw RVR 0 0 R := by
  obtain ⟨hW1, hW2, hO1, hO2, hT1, hT2, hI1, hI2, hF1, hF2⟩ := id hP
  induction m with
  | zero =>
    intro x a h0 hm hx
    refine wp_iload dX12_shares_26 rfl ?_
    refine wp_aload_n dX12_shares_28 rfl ?_
    refine wp_getI dX12_shares_29 fX12_138 rfl ?_
    try simp only [ST0, ST5, ST6, ST7, ST8, ST10, ST11, ST12, ST13]
    refine wp_icmp_ge (tgt := 50) dX12_shares_32 rfl (fun h32 => ?_) (fun h32 => by exfalso; omega)
    rw [hx, show a = F 13 by omega]; exact k _
  | succ m ih =>
    intro x a h0 hm hx
    have hr := gtS_r hB a.toNat (by omega)
    have h18 := hB.v18 (p := a) (by omega)
    have hr2 := gtO_r (p := a) hB (by omega) (N (61 * a + 18)).toNat (by omega)
    refine wp_iload dX12_shares_26 rfl ?_
    refine wp_aload_n dX12_shares_28 rfl ?_
    refine wp_getI dX12_shares_29 fX12_138 rfl ?_
    try simp only [ST0, ST5, ST6, ST7, ST8, ST10, ST11, ST12, ST13]
    refine wp_icmp_ge (tgt := 50) dX12_shares_32 rfl (fun h32 => by exfalso; omega) (fun h32 => ?_)
    refine wp_iload_n dX12_shares_35 rfl ?_
    refine wp_aload_n dX12_shares_36 rfl ?_
    refine wp_iload dX12_shares_37 rfl ?_
    refine wp_callV (as := [_]) (ls0 := [_, _, _, _]) (kc := 0) (ks := 0) (bc' := 0) (bs' := 0) dX12_shares_39 vX12_373 rfl rfl rfl (Nat.le_of_ble_eq_true rfl) (Nat.le_of_ble_eq_true rfl) (by omega) (by omega) ?_
    refine s_gotOf (by omega) hB ?_
    refine wp_iadd dX12_shares_42 ⟨by omega, by omega⟩ ?_
    refine wp_istore_n (ls' := [_, _, _, _, _]) dX12_shares_43 (by decide) rfl rfl ?_
    refine wp_iinc (ls' := [_, _, _, _, _]) dX12_shares_44 (by decide) rfl rfl ⟨by omega, by omega⟩ rfl ?_
    refine wp_goto (tgt := 26) dX12_shares_47 rfl ?_
    exact ih _ _ (by omega) (by omega) (by rw [toN1 h0, gtS, toNI h0, hx])
def aShares (F N : Int → Int) (p c : Int) : Int := if ¬ (0 ≤ p ∧ p < F 13) then -1 else if ¬ (0 ≤ c ∧ c ≤ 999) then -1 else if gtS N (F 13).toNat = 0 then 0 else c * gtO N p (N (61 * p + 18)).toNat / gtS N (F 13).toNat
theorem shm {a b : Int} (ha : 0 ≤ a ∧ a ≤ 999) (hb : 0 ≤ b ∧ b ≤ 5994) : 0 ≤ a * b ∧ a * b ≤ 5988006 := by
  have h1 : a * b ≤ 999 * b := Int.mul_le_mul_of_nonneg_right ha.2 hb.1
  exact ⟨Int.mul_nonneg ha.1 hb.1, by omega⟩
theorem s_shares {p c : Int} (hT : Tld iv F N) (k : R (some (aI (aShares F N p c))) SHR (ST iv F N G O T S) lw RVR) : wp (d + 2) mX12_shares 0 [some (aR 0), some (aI p), some (aI c), none, none] [] SHR (ST iv F N G O T S) lw RVR 0 0 R := by
  obtain ⟨hr, hP2, h9, h8, hc, h25, hT2⟩ := id hT
  refine wp_aload_n dX12_shares_0 rfl ?_
  refine wp_iload_n dX12_shares_1 rfl ?_
  refine wp_callV (as := [_]) (ls0 := [_, _]) (kc := 0) (ks := 0) (bc' := 0) (bs' := 0) dX12_shares_2 vX12_313 rfl rfl rfl (Nat.le_of_ble_eq_true rfl) (Nat.le_of_ble_eq_true rfl) (by omega) (by omega) ?_
  refine s_isPair (by omega) (fun h2 => ?_) (fun h2 => ?_)
  · refine wp_if_eq (tgt := 19) dX12_shares_5 rfl (fun q => absurd q (by decide)) (fun _ => ?_)
    refine wp_iload_n dX12_shares_8 rfl ?_
    refine wp_iconst dX12_shares_9 ?_
    refine wp_sipush dX12_shares_10 ?_
    refine wp_callS (as := [_, _, _]) (ls0 := [_, _, _]) (kc := 0) (ks := 0) (bc' := 0) (bs' := 0) dX12_shares_13 vX12_75 rfl rfl (Nat.le_of_ble_eq_true rfl) (Nat.le_of_ble_eq_true rfl) (by omega) (by omega) ?_
    refine s_in (fun h13 => ?_) (fun h13 => ?_)
    · refine wp_if_ne (tgt := 21) dX12_shares_16 rfl (fun _ => ?_) (fun q => absurd q (by decide))
      refine wp_iconst dX12_shares_21 ?_
      refine wp_istore_n (ls' := [_, _, _, _, _]) dX12_shares_22 (by decide) rfl rfl ?_
      refine wp_iconst dX12_shares_23 ?_
      refine wp_istore (ls' := [_, _, _, _, _]) dX12_shares_24 (by decide) rfl rfl ?_
      obtain ⟨hP, hI⟩ := hT2 (by omega)
      have hB := hI.1
      have hr := gtS_r hB (F 13).toNat (by omega)
      have h18 := hB.v18 (p := p) (by omega)
      have hr2 := gtO_r (p := p) hB (by omega) (N (61 * p + 18)).toNat (by omega)
      have hm := shm (a := c) (b := gtO N p (N (61 * p + 18)).toNat) (by omega) (by omega)
      refine l_shares hP hB (fun v4 => ?_) (F 13).toNat _ _ (by omega) (by omega) rfl
      refine wp_iload_n dX12_shares_50 rfl ?_
      refine wp_if_ne (tgt := 58) dX12_shares_51 rfl (fun h51 => ?_) (fun h51 => ?_)
      · refine wp_iload_n dX12_shares_58 rfl ?_
        refine wp_aload_n dX12_shares_59 rfl ?_
        refine wp_iload_n dX12_shares_60 rfl ?_
        refine wp_callV (as := [_]) (ls0 := [_, _, _, _]) (kc := 0) (ks := 0) (bc' := 0) (bs' := 0) dX12_shares_61 vX12_373 rfl rfl rfl (Nat.le_of_ble_eq_true rfl) (Nat.le_of_ble_eq_true rfl) (by omega) (by omega) ?_
        refine s_gotOf (by omega) hB ?_
        refine wp_imul dX12_shares_64 ⟨by omega, by omega⟩ ?_
        refine wp_iload_n dX12_shares_65 rfl ?_
        refine wp_idiv dX12_shares_66 (by omega) (by omega) ?_
        refine wp_ireturn dX12_shares_67 rfl ?_
        unfold aShares at k; (repeat' split at k) <;> first | exact k | (exfalso; omega)
      · refine wp_iconst dX12_shares_54 ?_
        refine wp_goto (tgt := 67) dX12_shares_55 rfl ?_
        refine wp_ireturn dX12_shares_67 rfl ?_
        unfold aShares at k; (repeat' split at k) <;> first | exact k | (exfalso; omega)
    · refine wp_if_ne (tgt := 21) dX12_shares_16 rfl (fun q => absurd q (by decide)) (fun _ => ?_)
      refine wp_iconst dX12_shares_19 ?_
      refine wp_ireturn dX12_shares_20 rfl ?_
      unfold aShares at k; (repeat' split at k) <;> first | exact k | (exfalso; omega)
  · refine wp_if_eq (tgt := 19) dX12_shares_5 rfl (fun _ => ?_) (fun q => absurd q (by decide))
    refine wp_iconst dX12_shares_19 ?_
    refine wp_ireturn dX12_shares_20 rfl ?_
    unfold aShares at k; (repeat' split at k) <;> first | exact k | (exfalso; omega)
/-- cells of a slot in a node's tables -/
noncomputable def ctS (N pa : Int → Int) (nd sl p q : Int) : Int := if pa (4 * p + q) = nd then cntP (fun i => N (61 * p + (bq q + i)) / 10 = sl) (N (61 * p + mq q)).toNat else 0
noncomputable def ctA (N pa : Int → Int) (nd sl : Int) : Nat → Int
  | 0 => 0
  | m + 1 => ctA N pa nd sl m + (ctS N pa nd sl m 0 + ctS N pa nd sl m 1)
theorem ctS_r {W Of nd sl p q : Int} {pa : Int → Int} (hB : Bok W Of N) (hp : 0 ≤ p ∧ p < 6) (hq : q = 0 ∨ q = 1) : 0 ≤ ctS N pa nd sl p q ∧ ctS N pa nd sl p q ≤ 6 := by
  have h := cntP_r (Q := fun i => N (61 * p + (bq q + i)) / 10 = sl) (N (61 * p + mq q)).toNat
  have hm := hB.mny hp hq
  unfold ctS; split <;> omega
theorem ctA_r {W Of nd sl : Int} {pa : Int → Int} (hB : Bok W Of N) (m : Nat) (hm : m ≤ 6) : 0 ≤ ctA N pa nd sl m ∧ ctA N pa nd sl m ≤ 12 * m := by
  induction m with
  | zero => exact ⟨Int.le_refl _, Int.le_refl _⟩
  | succ m ih =>
    have h1 := ih (by omega)
    have h2 := ctS_r (pa := pa) (nd := nd) (sl := sl) (p := m) (q := 0) hB (by omega) (Or.inl rfl)
    have h3 := ctS_r (pa := pa) (nd := nd) (sl := sl) (p := m) (q := 1) hB (by omega) (Or.inr rfl)
    rw [ctA]; omega
theorem l_ca1 {nd sl p q n : Int} (hp : 0 ≤ p ∧ p < 6) (hq : q = 0 ∨ q = 1) (hB : Bok (iv 5 0) (iv 5 1) N) (hn : 0 ≤ n ∧ n ≤ 100) (k : ∀ v6 : aV, wp (d + 2) mX12_cellsAt 82 [some (aR 0), some (aI nd), some (aI sl), some (aI (n + ctS N (iv 6) nd sl p q)), some (aI p), some (aI q), some v6] [] SHR (ST iv F N G O T S) lw RVR 0 0 R) (m : Nat) : ∀ x i : Int, 0 ≤ i → i + m = N (61 * p + mq q) → (iv 6 (4 * p + q) = nd ∨ i = 0) → x = n + cntP (fun i => N (61 * p + (bq q + i)) / 10 = sl) i.toNat → wp (d + 2) mX12_cellsAt 26 [some (aR 0), some (aI nd), some (aI sl), some (aI x), some (aI p), some (aI q), some (aI i)] [] SHR (ST iv F N G O T S) lw RVR 0 0 R := by
  have hm6 := hB.mny hp hq
  have fin0 : ∀ i : Int, i = N (61 * p + mq q) → (iv 6 (4 * p + q) = nd ∨ i = 0) → cntP (fun i => N (61 * p + (bq q + i)) / 10 = sl) i.toNat = ctS N (iv 6) nd sl p q := fun i e h => by
    unfold ctS
    split
    · rw [e]
    · rename_i hne
      rcases h with h | h
      · exact absurd h hne
      · rw [h]; rfl
  induction m with
  | zero =>
    intro x i h0 hm hd hx
    refine wp_iload dX12_cellsAt_26 rfl ?_
    refine wp_aload_n dX12_cellsAt_28 rfl ?_
    refine wp_iload dX12_cellsAt_29 rfl ?_
    refine wp_iload dX12_cellsAt_31 rfl ?_
    refine wp_callV (as := [_, _]) (ls0 := [_, _, _]) (kc := 0) (ks := 0) (bc' := 0) (bs' := 0) dX12_cellsAt_33 vX12_164 rfl rfl rfl (Nat.le_of_ble_eq_true rfl) (Nat.le_of_ble_eq_true rfl) (by omega) (by omega) ?_
    refine s_manyOf hp hq ?_
    refine wp_icmp_ge (tgt := 82) dX12_cellsAt_36 rfl (fun h36 => ?_) (fun h36 => by exfalso; omega)
    rw [hx, fin0 i (by omega) hd]; exact k _
  | succ m ih =>
    intro x i h0 hm hd hx
    have hr := cntP_r (Q := fun i => N (61 * p + (bq q + i)) / 10 = sl) i.toNat
    have hv := (hB.cel hp hq (i := i) (by omega)).1
    refine wp_iload dX12_cellsAt_26 rfl ?_
    refine wp_aload_n dX12_cellsAt_28 rfl ?_
    refine wp_iload dX12_cellsAt_29 rfl ?_
    refine wp_iload dX12_cellsAt_31 rfl ?_
    refine wp_callV (as := [_, _]) (ls0 := [_, _, _]) (kc := 0) (ks := 0) (bc' := 0) (bs' := 0) dX12_cellsAt_33 vX12_164 rfl rfl rfl (Nat.le_of_ble_eq_true rfl) (Nat.le_of_ble_eq_true rfl) (by omega) (by omega) ?_
    refine s_manyOf hp hq ?_
    refine wp_icmp_ge (tgt := 82) dX12_cellsAt_36 rfl (fun h36 => by exfalso; omega) (fun h36 => ?_)
    refine wp_aload_n dX12_cellsAt_39 rfl ?_
    refine wp_iload dX12_cellsAt_40 rfl ?_
    refine wp_iload dX12_cellsAt_42 rfl ?_
    refine wp_callV (as := [_, _]) (ls0 := [_, _, _]) (kc := 0) (ks := 0) (bc' := 0) (bs' := 0) dX12_cellsAt_44 vX12_178 rfl rfl rfl (Nat.le_of_ble_eq_true rfl) (Nat.le_of_ble_eq_true rfl) (by omega) (by omega) ?_
    refine s_nodeOf hp hq ?_
    refine wp_iload_n dX12_cellsAt_47 rfl ?_
    refine wp_icmp_ne (tgt := 82) dX12_cellsAt_48 rfl (fun h48 => ?_) (fun h48 => ?_)
    · have e0 : i = 0 := hd.resolve_left h48
      have ec : ctS N (iv 6) nd sl p q = 0 := by unfold ctS; rw [if_neg h48]
      have hk := k (aI i)
      rw [ec, Int.add_zero] at hk
      rw [hx, e0, show (0 : Int).toNat = 0 from rfl, cntP, Int.add_zero, ← e0]
      exact hk
    · refine wp_iload_n dX12_cellsAt_51 rfl ?_
      refine wp_aload_n dX12_cellsAt_52 rfl ?_
      refine wp_iload dX12_cellsAt_53 rfl ?_
      refine wp_iload dX12_cellsAt_55 rfl ?_
      refine wp_iload dX12_cellsAt_57 rfl ?_
      refine wp_callV (as := [_, _, _]) (ls0 := [_, _, _, _]) (kc := 0) (ks := 0) (bc' := 0) (bs' := 0) dX12_cellsAt_59 vX12_167 rfl rfl rfl (Nat.le_of_ble_eq_true rfl) (Nat.le_of_ble_eq_true rfl) (by omega) (by omega) ?_
      refine s_cellOf hp hq (by omega) ?_
      refine wp_bipush dX12_cellsAt_62 ?_
      refine wp_idiv dX12_cellsAt_64 (by omega) (by omega) ?_
      refine wp_iload_n dX12_cellsAt_65 rfl ?_
      refine wp_icmp_ne (tgt := 73) dX12_cellsAt_66 rfl (fun h66 => ?_) (fun h66 => ?_)
      · have hc := cn1_f (P := N (61 * p + (bq q + i)) / 10 = sl) h66
        refine wp_iconst dX12_cellsAt_73 ?_
        refine wp_iadd dX12_cellsAt_74 ⟨by omega, by omega⟩ ?_
        refine wp_istore_n (ls' := [_, _, _, _, _, _, _]) dX12_cellsAt_75 (by decide) rfl rfl ?_
        refine wp_iinc (ls' := [_, _, _, _, _, _, _]) dX12_cellsAt_76 (by decide) rfl rfl ⟨by omega, by omega⟩ rfl ?_
        refine wp_goto (tgt := 26) dX12_cellsAt_79 rfl ?_
        exact ih _ _ (by omega) (by omega) (Or.inl h48) (by rw [toN1 h0, cntP, toNI h0]; show _ = n + (_ + cn1 (N (61 * p + (bq q + i)) / 10 = sl)); rw [hc]; omega)
      · have hc := cn1_t (P := N (61 * p + (bq q + i)) / 10 = sl) h66
        refine wp_iconst dX12_cellsAt_69 ?_
        refine wp_goto (tgt := 74) dX12_cellsAt_70 rfl ?_
        refine wp_iadd dX12_cellsAt_74 ⟨by omega, by omega⟩ ?_
        refine wp_istore_n (ls' := [_, _, _, _, _, _, _]) dX12_cellsAt_75 (by decide) rfl rfl ?_
        refine wp_iinc (ls' := [_, _, _, _, _, _, _]) dX12_cellsAt_76 (by decide) rfl rfl ⟨by omega, by omega⟩ rfl ?_
        refine wp_goto (tgt := 26) dX12_cellsAt_79 rfl ?_
        exact ih _ _ (by omega) (by omega) (Or.inl h48) (by rw [toN1 h0, cntP, toNI h0]; show _ = n + (_ + cn1 (N (61 * p + (bq q + i)) / 10 = sl)); rw [hc]; omega)
theorem l_ca2 {nd sl : Int} (hP : Prm iv F) (hB : Bok (iv 5 0) (iv 5 1) N) (k : R (some (aI (ctA N (iv 6) nd sl (F 13).toNat))) SHR (ST iv F N G O T S) lw RVR) (m : Nat) : ∀ (x p : Int) (v5 v6 : Option aV), 0 ≤ p → p + m = F 13 → x = ctA N (iv 6) nd sl p.toNat → wp (d + 2) mX12_cellsAt 5 [some (aR 0), some (aI nd), some (aI sl), some (aI x), some (aI p), v5, v6] [] SHR (ST iv F N G O T S) lw RVR 0 0 R := by
  obtain ⟨hW1, hW2, hO1, hO2, hT1, hT2, hI1, hI2, hF1, hF2⟩ := id hP
  induction m with
  | zero =>
    intro x p v5 v6 h0 hm hx
    refine wp_iload dX12_cellsAt_5 rfl ?_
    refine wp_aload_n dX12_cellsAt_7 rfl ?_
    refine wp_getI dX12_cellsAt_8 fX12_138 rfl ?_
    try simp only [ST0, ST5, ST6, ST7, ST8, ST10, ST11, ST12, ST13]
    refine wp_icmp_ge (tgt := 94) dX12_cellsAt_11 rfl (fun h11 => ?_) (fun h11 => by exfalso; omega)
    refine wp_iload_n dX12_cellsAt_94 rfl ?_
    refine wp_ireturn dX12_cellsAt_95 rfl ?_
    rw [hx, show p = F 13 by omega]; exact k
  | succ m ih =>
    intro x p v5 v6 h0 hm hx
    have hp : 0 ≤ p ∧ p < 6 := by omega
    have hr := ctA_r (pa := iv 6) (nd := nd) (sl := sl) hB p.toNat (by omega)
    have h2 := ctS_r (pa := iv 6) (nd := nd) (sl := sl) (p := p) (q := 0) hB hp (Or.inl rfl)
    refine wp_iload dX12_cellsAt_5 rfl ?_
    refine wp_aload_n dX12_cellsAt_7 rfl ?_
    refine wp_getI dX12_cellsAt_8 fX12_138 rfl ?_
    try simp only [ST0, ST5, ST6, ST7, ST8, ST10, ST11, ST12, ST13]
    refine wp_icmp_ge (tgt := 94) dX12_cellsAt_11 rfl (fun h11 => by exfalso; omega) (fun h11 => ?_)
    refine wp_iconst dX12_cellsAt_14 ?_
    refine wp_istore (ls' := [_, _, _, _, _, _, _]) dX12_cellsAt_15 (by decide) rfl rfl ?_
    refine wp_iload dX12_cellsAt_17 rfl ?_
    refine wp_iconst dX12_cellsAt_19 ?_
    refine wp_icmp_ge (tgt := 88) dX12_cellsAt_20 rfl (fun q => absurd q (by decide)) (fun _ => ?_)
    refine wp_iconst dX12_cellsAt_23 ?_
    refine wp_istore (ls' := [_, _, _, _, _, _, _]) dX12_cellsAt_24 (by decide) rfl rfl ?_
    refine l_ca1 (n := x) hp (Or.inl rfl) hB (by omega) (fun v6 => ?_) (N (61 * p + mq 0)).toNat _ _ (by omega) (by have := hB.mny hp (Or.inl rfl); omega) (Or.inr rfl) (by rw [show (0 : Int).toNat = 0 from rfl, cntP]; omega)
    refine wp_iinc (ls' := [_, _, _, _, _, _, _]) dX12_cellsAt_82 (by decide) rfl rfl ⟨by omega, by omega⟩ rfl ?_
    refine wp_goto (tgt := 17) dX12_cellsAt_85 rfl ?_
    refine wp_iload dX12_cellsAt_17 rfl ?_
    refine wp_iconst dX12_cellsAt_19 ?_
    refine wp_icmp_ge (tgt := 88) dX12_cellsAt_20 rfl (fun h20 => by exfalso; omega) (fun h20 => ?_)
    refine wp_iconst dX12_cellsAt_23 ?_
    refine wp_istore (ls' := [_, _, _, _, _, _, _]) dX12_cellsAt_24 (by decide) rfl rfl ?_
    refine l_ca1 (q := 1) (n := x + ctS N (iv 6) nd sl p 0) hp (Or.inr rfl) hB (by omega) (fun v6 => ?_) (N (61 * p + mq 1)).toNat _ _ (by omega) (by have := hB.mny hp (Or.inr rfl); omega) (Or.inr rfl) (by rw [show (0 : Int).toNat = 0 from rfl, cntP]; omega)
    refine wp_iinc (ls' := [_, _, _, _, _, _, _]) dX12_cellsAt_82 (by decide) rfl rfl ⟨by omega, by omega⟩ rfl ?_
    refine wp_goto (tgt := 17) dX12_cellsAt_85 rfl ?_
    refine wp_iload dX12_cellsAt_17 rfl ?_
    refine wp_iconst dX12_cellsAt_19 ?_
    refine wp_icmp_ge (tgt := 88) dX12_cellsAt_20 rfl (fun h20 => ?_) (fun h20 => by exfalso; omega)
    refine wp_iinc (ls' := [_, _, _, _, _, _, _]) dX12_cellsAt_88 (by decide) rfl rfl ⟨by omega, by omega⟩ rfl ?_
    refine wp_goto (tgt := 5) dX12_cellsAt_91 rfl ?_
    exact ih _ _ _ _ (by omega) (by omega) (by rw [toN1 h0, ctA, toNI h0, hx]; omega)
theorem s_cellsAt {nd sl : Int} (hP : Prm iv F) (hB : Bok (iv 5 0) (iv 5 1) N) (k : R (some (aI (ctA N (iv 6) nd sl (F 13).toNat))) SHR (ST iv F N G O T S) lw RVR) : wp (d + 2) mX12_cellsAt 0 [some (aR 0), some (aI nd), some (aI sl), none, none, none, none] [] SHR (ST iv F N G O T S) lw RVR 0 0 R := by
  obtain ⟨hW1, hW2, hO1, hO2, hT1, hT2, hI1, hI2, hF1, hF2⟩ := id hP
  refine wp_iconst dX12_cellsAt_0 ?_
  refine wp_istore_n (ls' := [_, _, _, _, _, _, _]) dX12_cellsAt_1 (by decide) rfl rfl ?_
  refine wp_iconst dX12_cellsAt_2 ?_
  refine wp_istore (ls' := [_, _, _, _, _, _, _]) dX12_cellsAt_3 (by decide) rfl rfl ?_
  exact l_ca2 hP hB k (F 13).toNat _ _ _ _ (by omega) (by omega) rfl
def NdP (iv : aF) (F N : Int → Int) (nd w : Int) : Int → Prop := fun s => (w = 0 ∧ Tkn N (iv 6) (F 13) nd s) ∨ (w = 1 ∧ 1 < ctA N (iv 6) nd s (F 13).toNat)
noncomputable def aNode (iv : aF) (F N : Int → Int) (nd w : Int) : Int := if F 13 = 0 then -1 else if ¬ (0 ≤ nd ∧ nd ≤ 5) then -1 else if ¬ (0 ≤ w ∧ w ≤ 1) then -1 else bsv (Blw (NdP iv F N nd w) (iv 5 0))
theorem l_node {nd w : Int} (hw : 0 ≤ w ∧ w ≤ 1) (hP : Prm iv F) (hB : Bok (iv 5 0) (iv 5 1) N) (k : ∀ x, Bts x (Blw (NdP iv F N nd w) (iv 5 0)) → R (some (aI x)) SHR (ST iv F N G O T S) lw RVR) (m : Nat) : ∀ (x p : Int) (v5 : Option aV), 0 ≤ p → p + m = iv 5 0 → Bts x (Blw (NdP iv F N nd w) p) → wp (d + 3) mX12_node 32 [some (aR 0), some (aI nd), some (aI w), some (aI x), some (aI p), v5] [] SHR (ST iv F N G O T S) lw RVR 0 0 R := by
  obtain ⟨hW1, hW2, hO1, hO2, hT1, hT2, hI1, hI2, hF1, hF2⟩ := id hP
  induction m with
  | zero =>
    intro x p v5 h0 hm hx
    refine wp_iload dX12_node_32 rfl ?_
    refine wp_aload_n dX12_node_34 rfl ?_
    refine wp_getR rfl dX12_node_35 fX12_22 rfl ?_
    refine wp_iconst dX12_node_38 ?_
    refine wp_iald dX12_node_39 rfl (by omega) (by omega) ?_
    try simp only [ST0, ST5, ST6, ST7, ST8, ST10, ST11, ST12, ST13]
    refine wp_icmp_ge (tgt := 97) dX12_node_40 rfl (fun h40 => ?_) (fun h40 => by exfalso; omega)
    refine wp_iload_n dX12_node_97 rfl ?_
    refine wp_ireturn dX12_node_98 rfl ?_
    exact k _ (by rw [show iv 5 0 = p by omega]; exact hx)
  | succ m ih =>
    intro x p v5 h0 hm hx
    have hx1 := hx.1
    have h2 := p2_r (k := p) (by omega)
    refine wp_iload dX12_node_32 rfl ?_
    refine wp_aload_n dX12_node_34 rfl ?_
    refine wp_getR rfl dX12_node_35 fX12_22 rfl ?_
    refine wp_iconst dX12_node_38 ?_
    refine wp_iald dX12_node_39 rfl (by omega) (by omega) ?_
    try simp only [ST0, ST5, ST6, ST7, ST8, ST10, ST11, ST12, ST13]
    refine wp_icmp_ge (tgt := 97) dX12_node_40 rfl (fun h40 => by exfalso; omega) (fun h40 => ?_)
    refine wp_iload_n dX12_node_43 rfl ?_
    refine wp_if_ne (tgt := 57) dX12_node_44 rfl (fun h44 => ?_) (fun h44 => ?_)
    · refine wp_aload_n dX12_node_57 rfl ?_
      refine wp_iload_n dX12_node_58 rfl ?_
      refine wp_iload dX12_node_59 rfl ?_
      refine wp_callV (as := [_, _]) (ls0 := [_, _, _, _, _, _, _]) (kc := 0) (ks := 0) (bc' := 0) (bs' := 0) dX12_node_61 vX12_376 rfl rfl rfl (Nat.le_of_ble_eq_true rfl) (Nat.le_of_ble_eq_true rfl) (by omega) (by omega) ?_
      refine s_cellsAt hP hB ?_
      refine wp_iconst dX12_node_64 ?_
      refine wp_icmp_le (tgt := 72) dX12_node_65 rfl (fun h65 => ?_) (fun h65 => ?_)
      · refine wp_iconst dX12_node_72 ?_
        refine wp_istore (ls' := [_, _, _, _, _, _]) dX12_node_73 (by decide) rfl rfl ?_
        refine wp_iload_n dX12_node_75 rfl ?_
        refine wp_iload dX12_node_76 rfl ?_
        refine wp_if_eq (tgt := 88) dX12_node_78 rfl (fun _ => ?_) (fun q => absurd q (by decide))
        refine wp_iconst dX12_node_88 ?_
        refine wp_ior dX12_node_89 (by omega) (by omega) ?_
        refine wp_istore_n (ls' := [_, _, _, _, _, _]) dX12_node_90 (by decide) rfl rfl ?_
        refine wp_iinc (ls' := [_, _, _, _, _, _]) dX12_node_91 (by decide) rfl rfl ⟨by omega, by omega⟩ rfl ?_
        refine wp_goto (tgt := 32) dX12_node_94 rfl ?_
        refine ih _ _ _ (by omega) (by omega) ?_
        first
        | exact hx.bt (by omega) (Or.inl ⟨h44, h51⟩)
        | exact hx.bf0 (fun z => by rcases z with z | z; exact h51 z.2; omega) rfl
        | exact hx.bt (by omega) (Or.inr ⟨by omega, by omega⟩)
        | exact hx.bf0 (fun z => by rcases z with z | z <;> omega) rfl
      · refine wp_iconst dX12_node_68 ?_
        refine wp_goto (tgt := 73) dX12_node_69 rfl ?_
        refine wp_istore (ls' := [_, _, _, _, _, _]) dX12_node_73 (by decide) rfl rfl ?_
        refine wp_iload_n dX12_node_75 rfl ?_
        refine wp_iload dX12_node_76 rfl ?_
        refine wp_if_eq (tgt := 88) dX12_node_78 rfl (fun q => absurd q (by decide)) (fun _ => ?_)
        refine wp_iconst dX12_node_81 ?_
        refine wp_iload dX12_node_82 rfl ?_
        refine wp_ishl dX12_node_84 (by omega) (by omega) (by exact ⟨by omega, by omega⟩) ?_
        refine wp_goto (tgt := 89) dX12_node_85 rfl ?_
        refine wp_ior dX12_node_89 (by omega) (by omega) ?_
        refine wp_istore_n (ls' := [_, _, _, _, _, _]) dX12_node_90 (by decide) rfl rfl ?_
        refine wp_iinc (ls' := [_, _, _, _, _, _]) dX12_node_91 (by decide) rfl rfl ⟨by omega, by omega⟩ rfl ?_
        refine wp_goto (tgt := 32) dX12_node_94 rfl ?_
        refine ih _ _ _ (by omega) (by omega) ?_
        first
        | exact hx.bt (by omega) (Or.inl ⟨h44, h51⟩)
        | exact hx.bf0 (fun z => by rcases z with z | z; exact h51 z.2; omega) rfl
        | exact hx.bt (by omega) (Or.inr ⟨by omega, by omega⟩)
        | exact hx.bf0 (fun z => by rcases z with z | z <;> omega) rfl
    · refine wp_aload_n dX12_node_47 rfl ?_
      refine wp_iload_n dX12_node_48 rfl ?_
      refine wp_iload dX12_node_49 rfl ?_
      refine wp_callV (as := [_, _]) (ls0 := [_, _, _, _, _, _, _]) (kc := 0) (ks := 0) (bc' := 0) (bs' := 0) dX12_node_51 vX12_181 rfl rfl rfl (Nat.le_of_ble_eq_true rfl) (Nat.le_of_ble_eq_true rfl) (by omega) (by omega) ?_
      refine s_isTaken (hB.tk hF2) (by omega) (fun h51 => ?_) (fun h51 => ?_)
      · refine wp_goto (tgt := 73) dX12_node_54 rfl ?_
        refine wp_istore (ls' := [_, _, _, _, _, _]) dX12_node_73 (by decide) rfl rfl ?_
        refine wp_iload_n dX12_node_75 rfl ?_
        refine wp_iload dX12_node_76 rfl ?_
        refine wp_if_eq (tgt := 88) dX12_node_78 rfl (fun q => absurd q (by decide)) (fun _ => ?_)
        refine wp_iconst dX12_node_81 ?_
        refine wp_iload dX12_node_82 rfl ?_
        refine wp_ishl dX12_node_84 (by omega) (by omega) (by exact ⟨by omega, by omega⟩) ?_
        refine wp_goto (tgt := 89) dX12_node_85 rfl ?_
        refine wp_ior dX12_node_89 (by omega) (by omega) ?_
        refine wp_istore_n (ls' := [_, _, _, _, _, _]) dX12_node_90 (by decide) rfl rfl ?_
        refine wp_iinc (ls' := [_, _, _, _, _, _]) dX12_node_91 (by decide) rfl rfl ⟨by omega, by omega⟩ rfl ?_
        refine wp_goto (tgt := 32) dX12_node_94 rfl ?_
        refine ih _ _ _ (by omega) (by omega) ?_
        first
        | exact hx.bt (by omega) (Or.inl ⟨h44, h51⟩)
        | exact hx.bf0 (fun z => by rcases z with z | z; exact h51 z.2; omega) rfl
        | exact hx.bt (by omega) (Or.inr ⟨by omega, by omega⟩)
        | exact hx.bf0 (fun z => by rcases z with z | z <;> omega) rfl
      · refine wp_goto (tgt := 73) dX12_node_54 rfl ?_
        refine wp_istore (ls' := [_, _, _, _, _, _]) dX12_node_73 (by decide) rfl rfl ?_
        refine wp_iload_n dX12_node_75 rfl ?_
        refine wp_iload dX12_node_76 rfl ?_
        refine wp_if_eq (tgt := 88) dX12_node_78 rfl (fun _ => ?_) (fun q => absurd q (by decide))
        refine wp_iconst dX12_node_88 ?_
        refine wp_ior dX12_node_89 (by omega) (by omega) ?_
        refine wp_istore_n (ls' := [_, _, _, _, _, _]) dX12_node_90 (by decide) rfl rfl ?_
        refine wp_iinc (ls' := [_, _, _, _, _, _]) dX12_node_91 (by decide) rfl rfl ⟨by omega, by omega⟩ rfl ?_
        refine wp_goto (tgt := 32) dX12_node_94 rfl ?_
        refine ih _ _ _ (by omega) (by omega) ?_
        first
        | exact hx.bt (by omega) (Or.inl ⟨h44, h51⟩)
        | exact hx.bf0 (fun z => by rcases z with z | z; exact h51 z.2; omega) rfl
        | exact hx.bt (by omega) (Or.inr ⟨by omega, by omega⟩)
        | exact hx.bf0 (fun z => by rcases z with z | z <;> omega) rfl
theorem s_node {nd w : Int} (hT : Tld iv F N) (k : R (some (aI (aNode iv F N nd w))) SHR (ST iv F N G O T S) lw RVR) : wp (d + 3) mX12_node 0 [some (aR 0), some (aI nd), some (aI w), none, none, none] [] SHR (ST iv F N G O T S) lw RVR 0 0 R := by
  obtain ⟨hr, hP2, h9, h8, hc, h25, hT2⟩ := id hT
  refine wp_aload_n dX12_node_0 rfl ?_
  refine wp_getI dX12_node_1 fX12_138 rfl ?_
  try simp only [ST0, ST5, ST6, ST7, ST8, ST10, ST11, ST12, ST13]
  refine wp_if_eq (tgt := 25) dX12_node_4 rfl (fun h4 => ?_) (fun h4 => ?_)
  · refine wp_iconst dX12_node_25 ?_
    refine wp_ireturn dX12_node_26 rfl ?_
    unfold aNode at k; (repeat' split at k) <;> first | exact k | (exfalso; omega)
  · refine wp_iload_n dX12_node_7 rfl ?_
    refine wp_iconst dX12_node_8 ?_
    refine wp_iconst dX12_node_9 ?_
    refine wp_callS (as := [_, _, _]) (ls0 := [_, _, _]) (kc := 0) (ks := 0) (bc' := 0) (bs' := 0) dX12_node_10 vX12_75 rfl rfl (Nat.le_of_ble_eq_true rfl) (Nat.le_of_ble_eq_true rfl) (by omega) (by omega) ?_
    refine s_in (fun h10 => ?_) (fun h10 => ?_)
    · refine wp_if_eq (tgt := 25) dX12_node_13 rfl (fun q => absurd q (by decide)) (fun _ => ?_)
      refine wp_iload_n dX12_node_16 rfl ?_
      refine wp_iconst dX12_node_17 ?_
      refine wp_iconst dX12_node_18 ?_
      refine wp_callS (as := [_, _, _]) (ls0 := [_, _, _]) (kc := 0) (ks := 0) (bc' := 0) (bs' := 0) dX12_node_19 vX12_75 rfl rfl (Nat.le_of_ble_eq_true rfl) (Nat.le_of_ble_eq_true rfl) (by omega) (by omega) ?_
      refine s_in (fun h19 => ?_) (fun h19 => ?_)
      · refine wp_if_ne (tgt := 27) dX12_node_22 rfl (fun _ => ?_) (fun q => absurd q (by decide))
        refine wp_iconst dX12_node_27 ?_
        refine wp_istore_n (ls' := [_, _, _, _, _, _]) dX12_node_28 (by decide) rfl rfl ?_
        refine wp_iconst dX12_node_29 ?_
        refine wp_istore (ls' := [_, _, _, _, _, _]) dX12_node_30 (by decide) rfl rfl ?_
        obtain ⟨hP, hI⟩ := hT2 (by omega)
        refine l_node (by omega) hP hI.1 (fun x hx => ?_) (iv 5 0).toNat _ _ _ (by omega) (by have := hP.1; omega) Bts.b0
        unfold aNode at k
        rw [if_neg (by omega), if_neg (by omega), if_neg (by omega)] at k
        rw [hx.v]; exact k
      · refine wp_if_ne (tgt := 27) dX12_node_22 rfl (fun q => absurd q (by decide)) (fun _ => ?_)
        refine wp_iconst dX12_node_25 ?_
        refine wp_ireturn dX12_node_26 rfl ?_
        unfold aNode at k; (repeat' split at k) <;> first | exact k | (exfalso; omega)
    · refine wp_if_eq (tgt := 25) dX12_node_13 rfl (fun _ => ?_) (fun q => absurd q (by decide))
      refine wp_iconst dX12_node_25 ?_
      refine wp_ireturn dX12_node_26 rfl ?_
      unfold aNode at k; (repeat' split at k) <;> first | exact k | (exfalso; omega)
theorem l_dc1 {p i : Int} (hp : 0 ≤ p ∧ p < 6) (hi : 0 ≤ i ∧ i < N (61 * p + 18)) (hP : Prm iv F) (hB : Bok (iv 5 0) (iv 5 1) N) (kt : Clp F N p → R (some (aI 1)) SHR (ST iv F N G O T S) lw RVR) (k : ∀ v3 : aV, (∀ a : Int, 0 ≤ a → a < F 13 → ¬ a = p → plc N a 0 (N (61 * p + (0 + i))) = -1) → wp (d + 3) mX12_doesCollide 53 [some (aR 0), some (aI p), some (aI i), some v3] [] SHR (ST iv F N G O T S) lw RVR 0 0 R) (m : Nat) : ∀ a : Int, 0 ≤ a → a + m = F 13 → (∀ z : Int, 0 ≤ z → z < a → ¬ z = p → plc N z 0 (N (61 * p + (0 + i))) = -1) → wp (d + 3) mX12_doesCollide 15 [some (aR 0), some (aI p), some (aI i), some (aI a)] [] SHR (ST iv F N G O T S) lw RVR 0 0 R := by
  obtain ⟨hW1, hW2, hO1, hO2, hT1, hT2, hI1, hI2, hF1, hF2⟩ := id hP
  have h18 := hB.v18 hp
  induction m with
  | zero =>
    intro a h0 hm hz
    refine wp_iload_n dX12_doesCollide_15 rfl ?_
    refine wp_aload_n dX12_doesCollide_16 rfl ?_
    refine wp_getI dX12_doesCollide_17 fX12_138 rfl ?_
    try simp only [ST0, ST5, ST6, ST7, ST8, ST10, ST11, ST12, ST13]
    refine wp_icmp_ge (tgt := 53) dX12_doesCollide_20 rfl (fun h20 => ?_) (fun h20 => by exfalso; omega)
    exact k _ (fun z x y => hz z x (by omega))
  | succ m ih =>
    intro a h0 hm hz
    refine wp_iload_n dX12_doesCollide_15 rfl ?_
    refine wp_aload_n dX12_doesCollide_16 rfl ?_
    refine wp_getI dX12_doesCollide_17 fX12_138 rfl ?_
    try simp only [ST0, ST5, ST6, ST7, ST8, ST10, ST11, ST12, ST13]
    refine wp_icmp_ge (tgt := 53) dX12_doesCollide_20 rfl (fun h20 => by exfalso; omega) (fun h20 => ?_)
    refine wp_iload_n dX12_doesCollide_23 rfl ?_
    refine wp_iload_n dX12_doesCollide_24 rfl ?_
    refine wp_icmp_eq (tgt := 47) dX12_doesCollide_25 rfl (fun h25 => ?_) (fun h25 => ?_)
    · refine wp_iinc (ls' := [_, _, _, _]) dX12_doesCollide_47 (by decide) rfl rfl ⟨by omega, by omega⟩ rfl ?_
      refine wp_goto (tgt := 15) dX12_doesCollide_50 rfl ?_
      exact ih _ (by omega) (by omega) (fun z x y w => by
        by_cases e : z = a
        · first | (exact absurd (e.trans h25) w) | (rw [e]; exact h42)
        · exact hz z x (by omega) w)
    · refine wp_aload_n dX12_doesCollide_28 rfl ?_
      refine wp_iload_n dX12_doesCollide_29 rfl ?_
      refine wp_iconst dX12_doesCollide_30 ?_
      refine wp_aload_n dX12_doesCollide_31 rfl ?_
      refine wp_iload_n dX12_doesCollide_32 rfl ?_
      refine wp_iconst dX12_doesCollide_33 ?_
      refine wp_iload_n dX12_doesCollide_34 rfl ?_
      refine wp_callV (as := [_, _, _]) (ls0 := [_, _, _, _]) (kc := 0) (ks := 0) (bc' := 0) (bs' := 0) dX12_doesCollide_35 vX12_167 rfl rfl rfl (Nat.le_of_ble_eq_true rfl) (Nat.le_of_ble_eq_true rfl) (by omega) (by omega) ?_
      refine s_cellOf (by omega) (by omega) (by omega) ?_
      refine wp_callV (as := [_, _, _]) (ls0 := [_, _, _, _, _]) (kc := 0) (ks := 0) (bc' := 0) (bs' := 0) dX12_doesCollide_38 vX12_171 rfl rfl rfl (Nat.le_of_ble_eq_true rfl) (Nat.le_of_ble_eq_true rfl) (by omega) (by omega) ?_
      refine s_placeIn (by omega) (Or.inl rfl) (hB.mny (by omega) (Or.inl rfl)) ?_
      refine wp_iconst dX12_doesCollide_41 ?_
      refine wp_icmp_eq (tgt := 47) dX12_doesCollide_42 rfl (fun h42 => ?_) (fun h42 => ?_)
      · refine wp_iinc (ls' := [_, _, _, _]) dX12_doesCollide_47 (by decide) rfl rfl ⟨by omega, by omega⟩ rfl ?_
        refine wp_goto (tgt := 15) dX12_doesCollide_50 rfl ?_
        exact ih _ (by omega) (by omega) (fun z x y w => by
          by_cases e : z = a
          · first | (exact absurd (e.trans h25) w) | (rw [e]; exact h42)
          · exact hz z x (by omega) w)
      · refine wp_iconst dX12_doesCollide_45 ?_
        refine wp_zreturn dX12_doesCollide_46 rfl (Or.inr rfl) ?_
        exact kt ⟨i, a, hi, by omega, h25, h42⟩
theorem l_dc2 {p : Int} (hp : 0 ≤ p ∧ p < 6) (hP : Prm iv F) (hB : Bok (iv 5 0) (iv 5 1) N) (kt : Clp F N p → R (some (aI 1)) SHR (ST iv F N G O T S) lw RVR) (kf : ¬ Clp F N p → R (some (aI 0)) SHR (ST iv F N G O T S) lw RVR) (m : Nat) : ∀ (i : Int) (v3 : Option aV), 0 ≤ i → i + m = N (61 * p + 18) → (∀ z a : Int, 0 ≤ z → z < i → 0 ≤ a → a < F 13 → ¬ a = p → plc N a 0 (N (61 * p + (0 + z))) = -1) → wp (d + 3) mX12_doesCollide 2 [some (aR 0), some (aI p), some (aI i), v3] [] SHR (ST iv F N G O T S) lw RVR 0 0 R := by
  obtain ⟨hW1, hW2, hO1, hO2, hT1, hT2, hI1, hI2, hF1, hF2⟩ := id hP
  have h18 := hB.v18 hp
  induction m with
  | zero =>
    intro i v3 h0 hm hz
    refine wp_iload_n dX12_doesCollide_2 rfl ?_
    refine wp_aload_n dX12_doesCollide_3 rfl ?_
    refine wp_iload_n dX12_doesCollide_4 rfl ?_
    refine wp_bipush dX12_doesCollide_5 ?_
    refine wp_callV (as := [_, _]) (ls0 := [_, _, _]) (kc := 0) (ks := 0) (bc' := 0) (bs' := 0) dX12_doesCollide_7 vX12_161 rfl rfl rfl (Nat.le_of_ble_eq_true rfl) (Nat.le_of_ble_eq_true rfl) (by omega) (by omega) ?_
    refine s_of (by omega) (by omega) ?_
    refine wp_icmp_ge (tgt := 59) dX12_doesCollide_10 rfl (fun h10 => ?_) (fun h10 => by exfalso; omega)
    refine wp_iconst dX12_doesCollide_59 ?_
    refine wp_zreturn dX12_doesCollide_60 rfl (Or.inl rfl) ?_
    exact kf (fun ⟨z, a, h1, h2, h3, h4⟩ => h4 (hz z a h1.1 (by omega) h2.1 h2.2 h3))
  | succ m ih =>
    intro i v3 h0 hm hz
    refine wp_iload_n dX12_doesCollide_2 rfl ?_
    refine wp_aload_n dX12_doesCollide_3 rfl ?_
    refine wp_iload_n dX12_doesCollide_4 rfl ?_
    refine wp_bipush dX12_doesCollide_5 ?_
    refine wp_callV (as := [_, _]) (ls0 := [_, _, _]) (kc := 0) (ks := 0) (bc' := 0) (bs' := 0) dX12_doesCollide_7 vX12_161 rfl rfl rfl (Nat.le_of_ble_eq_true rfl) (Nat.le_of_ble_eq_true rfl) (by omega) (by omega) ?_
    refine s_of (by omega) (by omega) ?_
    refine wp_icmp_ge (tgt := 59) dX12_doesCollide_10 rfl (fun h10 => by exfalso; omega) (fun h10 => ?_)
    refine wp_iconst dX12_doesCollide_13 ?_
    refine wp_istore_n (ls' := [_, _, _, _]) dX12_doesCollide_14 (by decide) rfl rfl ?_
    refine l_dc1 hp (by omega) hP hB kt (fun v3 hno => ?_) (F 13).toNat _ (by omega) (by omega) (fun z x y => by omega)
    refine wp_iinc (ls' := [_, _, _, _]) dX12_doesCollide_53 (by decide) rfl rfl ⟨by omega, by omega⟩ rfl ?_
    refine wp_goto (tgt := 2) dX12_doesCollide_56 rfl ?_
    exact ih _ _ (by omega) (by omega) (fun z a x1 x2 x3 x4 x5 => by
      by_cases e : z = i
      · rw [e]; exact hno a x3 x4 x5
      · exact hz z a x1 (by omega) x3 x4 x5)
theorem s_doesCollide {p : Int} (hp : 0 ≤ p ∧ p < 6) (hP : Prm iv F) (hB : Bok (iv 5 0) (iv 5 1) N) (kt : Clp F N p → R (some (aI 1)) SHR (ST iv F N G O T S) lw RVR) (kf : ¬ Clp F N p → R (some (aI 0)) SHR (ST iv F N G O T S) lw RVR) : wp (d + 3) mX12_doesCollide 0 [some (aR 0), some (aI p), none, none] [] SHR (ST iv F N G O T S) lw RVR 0 0 R := by
  have h18 := hB.v18 hp
  refine wp_iconst dX12_doesCollide_0 ?_
  refine wp_istore_n (ls' := [_, _, _, _]) dX12_doesCollide_1 (by decide) rfl rfl ?_
  exact l_dc2 hp hP hB kt kf (N (61 * p + 18)).toNat _ _ (by omega) (by omega) (fun z a x1 x2 => by omega)
theorem l_ones {z : Int} (hz : 0 ≤ z ∧ z ≤ 2) (hP : Prm iv F) (hB : Bok (iv 5 0) (iv 5 1) N) (k : ∀ x, Bts x (Blw (Mkd F N z) (F 13)) → R (some (aI x)) SHR (ST iv F N G O T S) lw RVR) (m : Nat) : ∀ (x p : Int) (v4 : Option aV), 0 ≤ p → p + m = F 13 → Bts x (Blw (Mkd F N z) p) → wp (d + 4) mX12_onesWho 4 [some (aR 0), some (aI z), some (aI x), some (aI p), v4] [] SHR (ST iv F N G O T S) lw RVR 0 0 R := by
  obtain ⟨hW1, hW2, hO1, hO2, hT1, hT2, hI1, hI2, hF1, hF2⟩ := id hP
  induction m with
  | zero =>
    intro x p v4 h0 hm hx
    refine wp_iload_n dX12_onesWho_4 rfl ?_
    refine wp_aload_n dX12_onesWho_5 rfl ?_
    refine wp_getI dX12_onesWho_6 fX12_138 rfl ?_
    try simp only [ST0, ST5, ST6, ST7, ST8, ST10, ST11, ST12, ST13]
    refine wp_icmp_ge (tgt := 67) dX12_onesWho_9 rfl (fun h9 => ?_) (fun h9 => by exfalso; omega)
    refine wp_iload_n dX12_onesWho_67 rfl ?_
    refine wp_ireturn dX12_onesWho_68 rfl ?_
    exact k _ (by rw [show F 13 = p by omega]; exact hx)
  | succ m ih =>
    intro x p v4 h0 hm hx
    have hx1 := hx.1
    have h2 := p2_r (k := p) (by omega)
    have e1 : z = 1 → 28 + z - 1 = 28 := fun e => by omega
    have e2 : z = 2 → 28 + z - 1 = 29 := fun e => by omega
    refine wp_iload_n dX12_onesWho_4 rfl ?_
    refine wp_aload_n dX12_onesWho_5 rfl ?_
    refine wp_getI dX12_onesWho_6 fX12_138 rfl ?_
    try simp only [ST0, ST5, ST6, ST7, ST8, ST10, ST11, ST12, ST13]
    refine wp_icmp_ge (tgt := 67) dX12_onesWho_9 rfl (fun h9 => by exfalso; omega) (fun h9 => ?_)
    refine wp_iload_n dX12_onesWho_12 rfl ?_
    refine wp_if_ne (tgt := 24) dX12_onesWho_13 rfl (fun h13 => ?_) (fun h13 => ?_)
    · refine wp_aload_n dX12_onesWho_24 rfl ?_
      refine wp_iload_n dX12_onesWho_25 rfl ?_
      refine wp_bipush dX12_onesWho_26 ?_
      refine wp_iload_n dX12_onesWho_28 rfl ?_
      refine wp_iadd dX12_onesWho_29 ⟨by omega, by omega⟩ ?_
      refine wp_iconst dX12_onesWho_30 ?_
      refine wp_isub dX12_onesWho_31 ⟨by omega, by omega⟩ ?_
      refine wp_callV (as := [_, _]) (ls0 := [_, _, _]) (kc := 0) (ks := 0) (bc' := 0) (bs' := 0) dX12_onesWho_32 vX12_161 rfl rfl rfl (Nat.le_of_ble_eq_true rfl) (Nat.le_of_ble_eq_true rfl) (by omega) (by omega) ?_
      refine s_of (by omega) (by omega) ?_
      refine wp_iconst dX12_onesWho_35 ?_
      refine wp_icmp_ne (tgt := 43) dX12_onesWho_36 rfl (fun h36 => ?_) (fun h36 => ?_)
      · refine wp_iconst dX12_onesWho_43 ?_
        refine wp_istore (ls' := [_, _, _, _, _]) dX12_onesWho_44 (by decide) rfl rfl ?_
        refine wp_iload_n dX12_onesWho_46 rfl ?_
        refine wp_iload dX12_onesWho_47 rfl ?_
        refine wp_if_eq (tgt := 58) dX12_onesWho_49 rfl (fun _ => ?_) (fun q => absurd q (by decide))
        refine wp_iconst dX12_onesWho_58 ?_
        refine wp_ior dX12_onesWho_59 (by omega) (by omega) ?_
        refine wp_istore_n (ls' := [_, _, _, _, _]) dX12_onesWho_60 (by decide) rfl rfl ?_
        refine wp_iinc (ls' := [_, _, _, _, _]) dX12_onesWho_61 (by decide) rfl rfl ⟨by omega, by omega⟩ rfl ?_
        refine wp_goto (tgt := 4) dX12_onesWho_64 rfl ?_
        refine ih _ _ _ (by omega) (by omega) ?_
        first
        | exact hx.bt (by omega) (Or.inl ⟨h13, h18⟩)
        | exact hx.bf0 (fun y => by unfold Mkd at y; rcases y with y | y | y | y | y; exact h18 y.2; all_goals omega) rfl
        | (rcases (by omega : z = 1 ∨ z = 2) with e | e
           · rw [e1 e] at h36
             first
             | exact hx.bt (by omega) (Or.inr (Or.inl ⟨e, by omega⟩))
             | exact hx.bf0 (fun y => by unfold Mkd at y; rcases y with y | y | y | y | y <;> omega) rfl
           · rw [e2 e] at h36
             first
             | exact hx.bt (by omega) (Or.inr (Or.inr (Or.inl ⟨e, by omega⟩)))
             | exact hx.bf0 (fun y => by unfold Mkd at y; rcases y with y | y | y | y | y <;> omega) rfl)
      · refine wp_iconst dX12_onesWho_39 ?_
        refine wp_goto (tgt := 44) dX12_onesWho_40 rfl ?_
        refine wp_istore (ls' := [_, _, _, _, _]) dX12_onesWho_44 (by decide) rfl rfl ?_
        refine wp_iload_n dX12_onesWho_46 rfl ?_
        refine wp_iload dX12_onesWho_47 rfl ?_
        refine wp_if_eq (tgt := 58) dX12_onesWho_49 rfl (fun q => absurd q (by decide)) (fun _ => ?_)
        refine wp_iconst dX12_onesWho_52 ?_
        refine wp_iload_n dX12_onesWho_53 rfl ?_
        refine wp_ishl dX12_onesWho_54 (by omega) (by omega) (by exact ⟨by omega, by omega⟩) ?_
        refine wp_goto (tgt := 59) dX12_onesWho_55 rfl ?_
        refine wp_ior dX12_onesWho_59 (by omega) (by omega) ?_
        refine wp_istore_n (ls' := [_, _, _, _, _]) dX12_onesWho_60 (by decide) rfl rfl ?_
        refine wp_iinc (ls' := [_, _, _, _, _]) dX12_onesWho_61 (by decide) rfl rfl ⟨by omega, by omega⟩ rfl ?_
        refine wp_goto (tgt := 4) dX12_onesWho_64 rfl ?_
        refine ih _ _ _ (by omega) (by omega) ?_
        first
        | exact hx.bt (by omega) (Or.inl ⟨h13, h18⟩)
        | exact hx.bf0 (fun y => by unfold Mkd at y; rcases y with y | y | y | y | y; exact h18 y.2; all_goals omega) rfl
        | (rcases (by omega : z = 1 ∨ z = 2) with e | e
           · rw [e1 e] at h36
             first
             | exact hx.bt (by omega) (Or.inr (Or.inl ⟨e, by omega⟩))
             | exact hx.bf0 (fun y => by unfold Mkd at y; rcases y with y | y | y | y | y <;> omega) rfl
           · rw [e2 e] at h36
             first
             | exact hx.bt (by omega) (Or.inr (Or.inr (Or.inl ⟨e, by omega⟩)))
             | exact hx.bf0 (fun y => by unfold Mkd at y; rcases y with y | y | y | y | y <;> omega) rfl)
    · refine wp_aload_n dX12_onesWho_16 rfl ?_
      refine wp_iload_n dX12_onesWho_17 rfl ?_
      refine wp_callV (as := [_]) (ls0 := [_, _, _, _]) (kc := 0) (ks := 0) (bc' := 0) (bs' := 0) dX12_onesWho_18 vX12_379 rfl rfl rfl (Nat.le_of_ble_eq_true rfl) (Nat.le_of_ble_eq_true rfl) (by omega) (by omega) ?_
      refine s_doesCollide (by omega) hP hB (fun h18 => ?_) (fun h18 => ?_)
      · refine wp_goto (tgt := 44) dX12_onesWho_21 rfl ?_
        refine wp_istore (ls' := [_, _, _, _, _]) dX12_onesWho_44 (by decide) rfl rfl ?_
        refine wp_iload_n dX12_onesWho_46 rfl ?_
        refine wp_iload dX12_onesWho_47 rfl ?_
        refine wp_if_eq (tgt := 58) dX12_onesWho_49 rfl (fun q => absurd q (by decide)) (fun _ => ?_)
        refine wp_iconst dX12_onesWho_52 ?_
        refine wp_iload_n dX12_onesWho_53 rfl ?_
        refine wp_ishl dX12_onesWho_54 (by omega) (by omega) (by exact ⟨by omega, by omega⟩) ?_
        refine wp_goto (tgt := 59) dX12_onesWho_55 rfl ?_
        refine wp_ior dX12_onesWho_59 (by omega) (by omega) ?_
        refine wp_istore_n (ls' := [_, _, _, _, _]) dX12_onesWho_60 (by decide) rfl rfl ?_
        refine wp_iinc (ls' := [_, _, _, _, _]) dX12_onesWho_61 (by decide) rfl rfl ⟨by omega, by omega⟩ rfl ?_
        refine wp_goto (tgt := 4) dX12_onesWho_64 rfl ?_
        refine ih _ _ _ (by omega) (by omega) ?_
        first
        | exact hx.bt (by omega) (Or.inl ⟨h13, h18⟩)
        | exact hx.bf0 (fun y => by unfold Mkd at y; rcases y with y | y | y | y | y; exact h18 y.2; all_goals omega) rfl
        | (rcases (by omega : z = 1 ∨ z = 2) with e | e
           · rw [e1 e] at h36
             first
             | exact hx.bt (by omega) (Or.inr (Or.inl ⟨e, by omega⟩))
             | exact hx.bf0 (fun y => by unfold Mkd at y; rcases y with y | y | y | y | y <;> omega) rfl
           · rw [e2 e] at h36
             first
             | exact hx.bt (by omega) (Or.inr (Or.inr (Or.inl ⟨e, by omega⟩)))
             | exact hx.bf0 (fun y => by unfold Mkd at y; rcases y with y | y | y | y | y <;> omega) rfl)
      · refine wp_goto (tgt := 44) dX12_onesWho_21 rfl ?_
        refine wp_istore (ls' := [_, _, _, _, _]) dX12_onesWho_44 (by decide) rfl rfl ?_
        refine wp_iload_n dX12_onesWho_46 rfl ?_
        refine wp_iload dX12_onesWho_47 rfl ?_
        refine wp_if_eq (tgt := 58) dX12_onesWho_49 rfl (fun _ => ?_) (fun q => absurd q (by decide))
        refine wp_iconst dX12_onesWho_58 ?_
        refine wp_ior dX12_onesWho_59 (by omega) (by omega) ?_
        refine wp_istore_n (ls' := [_, _, _, _, _]) dX12_onesWho_60 (by decide) rfl rfl ?_
        refine wp_iinc (ls' := [_, _, _, _, _]) dX12_onesWho_61 (by decide) rfl rfl ⟨by omega, by omega⟩ rfl ?_
        refine wp_goto (tgt := 4) dX12_onesWho_64 rfl ?_
        refine ih _ _ _ (by omega) (by omega) ?_
        first
        | exact hx.bt (by omega) (Or.inl ⟨h13, h18⟩)
        | exact hx.bf0 (fun y => by unfold Mkd at y; rcases y with y | y | y | y | y; exact h18 y.2; all_goals omega) rfl
        | (rcases (by omega : z = 1 ∨ z = 2) with e | e
           · rw [e1 e] at h36
             first
             | exact hx.bt (by omega) (Or.inr (Or.inl ⟨e, by omega⟩))
             | exact hx.bf0 (fun y => by unfold Mkd at y; rcases y with y | y | y | y | y <;> omega) rfl
           · rw [e2 e] at h36
             first
             | exact hx.bt (by omega) (Or.inr (Or.inr (Or.inl ⟨e, by omega⟩)))
             | exact hx.bf0 (fun y => by unfold Mkd at y; rcases y with y | y | y | y | y <;> omega) rfl)
theorem s_ones {z : Int} (hz : 0 ≤ z ∧ z ≤ 2) (hP : Prm iv F) (hB : Bok (iv 5 0) (iv 5 1) N) (k : ∀ x, Bts x (Blw (Mkd F N z) (F 13)) → R (some (aI x)) SHR (ST iv F N G O T S) lw RVR) : wp (d + 4) mX12_onesWho 0 [some (aR 0), some (aI z), none, none, none] [] SHR (ST iv F N G O T S) lw RVR 0 0 R := by
  obtain ⟨hW1, hW2, hO1, hO2, hT1, hT2, hI1, hI2, hF1, hF2⟩ := id hP
  refine wp_iconst dX12_onesWho_0 ?_
  refine wp_istore_n (ls' := [_, _, _, _, _]) dX12_onesWho_1 (by decide) rfl rfl ?_
  refine wp_iconst dX12_onesWho_2 ?_
  refine wp_istore_n (ls' := [_, _, _, _, _]) dX12_onesWho_3 (by decide) rfl rfl ?_
  exact l_ones hz hP hB k (F 13).toNat _ _ _ (by omega) (by omega) Bts.b0
theorem l_topBy {z : Int} (hz : 0 ≤ z ∧ z < 61) (hP : Prm iv F) (m : Nat) : ∀ x p : Int, 1 ≤ p → (p + m = F 13 ∨ (m = 0 ∧ F 13 ≤ p)) → (0 ≤ x ∧ x < 6) → R (some (aI (tpL N z m p x))) SHR (ST iv F N G O T S) lw RVR → wp (d + 1) mX12_topBy 4 [some (aR 0), some (aI z), some (aI x), some (aI p)] [] SHR (ST iv F N G O T S) lw RVR 0 0 R := by
  obtain ⟨hW1, hW2, hO1, hO2, hT1, hT2, hI1, hI2, hF1, hF2⟩ := id hP
  induction m with
  | zero =>
    intro x p h0 hm hx k
    refine wp_iload_n dX12_topBy_4 rfl ?_
    refine wp_aload_n dX12_topBy_5 rfl ?_
    refine wp_getI dX12_topBy_6 fX12_138 rfl ?_
    try simp only [ST0, ST5, ST6, ST7, ST8, ST10, ST11, ST12, ST13]
    refine wp_icmp_ge (tgt := 39) dX12_topBy_9 rfl (fun h9 => ?_) (fun h9 => by exfalso; omega)
    refine wp_iload_n dX12_topBy_39 rfl ?_
    refine wp_ireturn dX12_topBy_40 rfl ?_
    exact k
  | succ m ih =>
    intro x p h0 hm hx k
    refine wp_iload_n dX12_topBy_4 rfl ?_
    refine wp_aload_n dX12_topBy_5 rfl ?_
    refine wp_getI dX12_topBy_6 fX12_138 rfl ?_
    try simp only [ST0, ST5, ST6, ST7, ST8, ST10, ST11, ST12, ST13]
    refine wp_icmp_ge (tgt := 39) dX12_topBy_9 rfl (fun h9 => by exfalso; omega) (fun h9 => ?_)
    refine wp_aload_n dX12_topBy_12 rfl ?_
    refine wp_iload_n dX12_topBy_13 rfl ?_
    refine wp_iload_n dX12_topBy_14 rfl ?_
    refine wp_callV (as := [_, _]) (ls0 := [_, _, _]) (kc := 0) (ks := 0) (bc' := 0) (bs' := 0) dX12_topBy_15 vX12_161 rfl rfl rfl (Nat.le_of_ble_eq_true rfl) (Nat.le_of_ble_eq_true rfl) (by omega) (by omega) ?_
    refine s_of (by omega) (by omega) ?_
    refine wp_aload_n dX12_topBy_18 rfl ?_
    refine wp_iload_n dX12_topBy_19 rfl ?_
    refine wp_iload_n dX12_topBy_20 rfl ?_
    refine wp_callV (as := [_, _]) (ls0 := [_, _, _]) (kc := 0) (ks := 0) (bc' := 0) (bs' := 0) dX12_topBy_21 vX12_161 rfl rfl rfl (Nat.le_of_ble_eq_true rfl) (Nat.le_of_ble_eq_true rfl) (by omega) (by omega) ?_
    refine s_of (by omega) (by omega) ?_
    refine wp_icmp_le (tgt := 31) dX12_topBy_24 rfl (fun h24 => ?_) (fun h24 => ?_)
    · rw [tpL, if_neg (by omega)] at k
      refine wp_iload_n dX12_topBy_31 rfl ?_
      refine wp_istore_n (ls' := [_, _, _, _]) dX12_topBy_32 (by decide) rfl rfl ?_
      refine wp_iinc (ls' := [_, _, _, _]) dX12_topBy_33 (by decide) rfl rfl ⟨by omega, by omega⟩ rfl ?_
      refine wp_goto (tgt := 4) dX12_topBy_36 rfl ?_
      exact ih _ _ (by omega) (by omega) (by omega) k
    · rw [tpL, if_pos (by omega)] at k
      refine wp_iload_n dX12_topBy_27 rfl ?_
      refine wp_goto (tgt := 32) dX12_topBy_28 rfl ?_
      refine wp_istore_n (ls' := [_, _, _, _]) dX12_topBy_32 (by decide) rfl rfl ?_
      refine wp_iinc (ls' := [_, _, _, _]) dX12_topBy_33 (by decide) rfl rfl ⟨by omega, by omega⟩ rfl ?_
      refine wp_goto (tgt := 4) dX12_topBy_36 rfl ?_
      exact ih _ _ (by omega) (by omega) (by omega) k
theorem s_topBy {z : Int} (hz : 0 ≤ z ∧ z < 61) (hP : Prm iv F) (k : R (some (aI (tpL N z ((F 13).toNat - 1) 1 0))) SHR (ST iv F N G O T S) lw RVR) : wp (d + 1) mX12_topBy 0 [some (aR 0), some (aI z), none, none] [] SHR (ST iv F N G O T S) lw RVR 0 0 R := by
  obtain ⟨hW1, hW2, hO1, hO2, hT1, hT2, hI1, hI2, hF1, hF2⟩ := id hP
  refine wp_iconst dX12_topBy_0 ?_
  refine wp_istore_n (ls' := [_, _, _, _]) dX12_topBy_1 (by decide) rfl rfl ?_
  refine wp_iconst dX12_topBy_2 ?_
  refine wp_istore_n (ls' := [_, _, _, _]) dX12_topBy_3 (by decide) rfl rfl ?_
  exact l_topBy hz hP ((F 13).toNat - 1) _ _ (by omega) (by omega) (by omega) k
theorem l_fb (hP : Prm iv F) (hB : Bok (iv 5 0) (iv 5 1) N) (m : Nat) : ∀ (p : Int) (v2 : Option aV), 0 ≤ p → p + m = F 13 → R (some (aI (fbL N m p))) SHR (ST iv F N G O T S) lw RVR → wp (d + 3) mX12_firstBad 2 [some (aR 0), some (aI p), v2] [] SHR (ST iv F N G O T S) lw RVR 0 0 R := by
  obtain ⟨hW1, hW2, hO1, hO2, hT1, hT2, hI1, hI2, hF1, hF2⟩ := id hP
  induction m with
  | zero =>
    intro p v2 h0 hm k
    refine wp_iload_n dX12_firstBad_2 rfl ?_
    refine wp_aload_n dX12_firstBad_3 rfl ?_
    refine wp_getI dX12_firstBad_4 fX12_138 rfl ?_
    try simp only [ST0, ST5, ST6, ST7, ST8, ST10, ST11, ST12, ST13]
    refine wp_icmp_ge (tgt := 35) dX12_firstBad_7 rfl (fun h7 => ?_) (fun h7 => by exfalso; omega)
    refine wp_iconst dX12_firstBad_35 ?_
    refine wp_ireturn dX12_firstBad_36 rfl ?_
    exact k
  | succ m ih =>
    intro p v2 h0 hm k
    have hp : 0 ≤ p ∧ p < 6 := by omega
    have h18 := hB.v18 hp
    have hbr := bad_r (N := N) (p := p) h18.1
    refine wp_iload_n dX12_firstBad_2 rfl ?_
    refine wp_aload_n dX12_firstBad_3 rfl ?_
    refine wp_getI dX12_firstBad_4 fX12_138 rfl ?_
    try simp only [ST0, ST5, ST6, ST7, ST8, ST10, ST11, ST12, ST13]
    refine wp_icmp_ge (tgt := 35) dX12_firstBad_7 rfl (fun h7 => by exfalso; omega) (fun h7 => ?_)
    refine wp_aload_n dX12_firstBad_10 rfl ?_
    refine wp_iload_n dX12_firstBad_11 rfl ?_
    refine wp_callV (as := [_]) (ls0 := [_, _, _, _, _]) (kc := 0) (ks := 0) (bc' := 0) (bs' := 0) dX12_firstBad_12 vX12_284 rfl rfl rfl (Nat.le_of_ble_eq_true rfl) (Nat.le_of_ble_eq_true rfl) (by omega) (by omega) ?_
    refine s_badPlace hp hB ?_
    refine wp_istore_n (ls' := [_, _, _]) dX12_firstBad_15 (by decide) rfl rfl ?_
    refine wp_iload_n dX12_firstBad_16 rfl ?_
    refine wp_iconst dX12_firstBad_17 ?_
    refine wp_icmp_eq (tgt := 29) dX12_firstBad_18 rfl (fun h18 => ?_) (fun h18 => ?_)
    · rw [fbL, if_pos h18] at k
      refine wp_iinc (ls' := [_, _, _]) dX12_firstBad_29 (by decide) rfl rfl ⟨by omega, by omega⟩ rfl ?_
      refine wp_goto (tgt := 2) dX12_firstBad_32 rfl ?_
      exact ih _ _ (by omega) (by omega) k
    · rw [fbL, if_neg h18] at k
      refine wp_aload_n dX12_firstBad_21 rfl ?_
      refine wp_iload_n dX12_firstBad_22 rfl ?_
      refine wp_iconst dX12_firstBad_23 ?_
      refine wp_iload_n dX12_firstBad_24 rfl ?_
      refine wp_callV (as := [_, _, _]) (ls0 := [_, _, _, _]) (kc := 0) (ks := 0) (bc' := 0) (bs' := 0) dX12_firstBad_25 vX12_167 rfl rfl rfl (Nat.le_of_ble_eq_true rfl) (Nat.le_of_ble_eq_true rfl) (by omega) (by omega) ?_
      refine s_cellOf hp (Or.inl rfl) (by omega) ?_
      rw [bq0]
      refine wp_ireturn dX12_firstBad_28 rfl ?_
      exact k
theorem s_fb (hP : Prm iv F) (hB : Bok (iv 5 0) (iv 5 1) N) (k : R (some (aI (fbL N (F 13).toNat 0))) SHR (ST iv F N G O T S) lw RVR) : wp (d + 3) mX12_firstBad 0 [some (aR 0), none, none] [] SHR (ST iv F N G O T S) lw RVR 0 0 R := by
  obtain ⟨hW1, hW2, hO1, hO2, hT1, hT2, hI1, hI2, hF1, hF2⟩ := id hP
  refine wp_iconst dX12_firstBad_0 ?_
  refine wp_istore_n (ls' := [_, _, _]) dX12_firstBad_1 (by decide) rfl rfl ?_
  exact l_fb hP hB (F 13).toNat _ _ (by omega) (by omega) k
noncomputable def aMost (F N : Int → Int) (w : Int) : Int := if F 13 = 0 then -1000000 else if ¬ (0 ≤ w ∧ w ≤ 9) then -1000000 else if w ≤ 4 then bsv (Blw (Mkd F N w) (F 13)) else if w = 5 then tpL N 18 ((F 13).toNat - 1) 1 0 else if w = 6 then tpL N 57 ((F 13).toNat - 1) 1 0 else if w = 7 then tpL N 58 ((F 13).toNat - 1) 1 0 else if w = 8 then N 366 else fbL N (F 13).toNat 0
theorem s_most {w : Int} (hT : Tld iv F N) (k : R (some (aI (aMost F N w))) SHR (ST iv F N G O T S) lw RVR) : wp (d + 5) mX12_most 0 [some (aR 0), some (aI w)] [] SHR (ST iv F N G O T S) lw RVR 0 0 R := by
  obtain ⟨hr, hP2, h9, h8, hc, h25, hT2⟩ := id hT
  refine wp_aload_n dX12_most_0 rfl ?_
  refine wp_getI dX12_most_1 fX12_138 rfl ?_
  try simp only [ST0, ST5, ST6, ST7, ST8, ST10, ST11, ST12, ST13]
  refine wp_if_eq (tgt := 17) dX12_most_4 rfl (fun h4 => ?_) (fun h4 => ?_)
  · refine wp_ldcw (v := -1000000) dX12_most_17 zX12_382 rfl ⟨by decide, by decide⟩ ?_
    refine wp_ireturn dX12_most_20 rfl ?_
    unfold aMost at k; (repeat' split at k) <;> first | exact k | (exfalso; omega) | (rw [show w = 3 by omega] at k; rw [hx]; exact k) | (rw [show w = 4 by omega] at k; rw [hx]; exact k) | (rw [hx]; exact k)
  · refine wp_iload_n dX12_most_7 rfl ?_
    refine wp_iconst dX12_most_8 ?_
    refine wp_bipush dX12_most_9 ?_
    refine wp_callS (as := [_, _, _]) (ls0 := [_, _, _]) (kc := 0) (ks := 0) (bc' := 0) (bs' := 0) dX12_most_11 vX12_75 rfl rfl (Nat.le_of_ble_eq_true rfl) (Nat.le_of_ble_eq_true rfl) (by omega) (by omega) ?_
    refine s_in (fun h11 => ?_) (fun h11 => ?_)
    · obtain ⟨hP, hI⟩ := hT2 (by omega)
      have hB := hI.1
      refine wp_if_ne (tgt := 21) dX12_most_14 rfl (fun _ => ?_) (fun q => absurd q (by decide))
      refine wp_iload_n dX12_most_21 rfl ?_
      rcases (by omega : w = 3 ∨ w = 4 ∨ w = 5 ∨ w = 6 ∨ w = 7 ∨ w = 8 ∨ w = 9 ∨ (w < 3 ∨ 9 < w)) with h22 | h22 | h22 | h22 | h22 | h22 | h22 | h22
      · refine wp_tswIn (tgt := 64) dX12_most_22 (by omega) (by omega) (by rw [h22]; rfl) rfl ?_
        refine wp_aload_n dX12_most_64 rfl ?_
        refine wp_callV (as := []) (ls0 := [_, _, _]) (kc := 0) (ks := 0) (bc' := 0) (bs' := 0) dX12_most_65 vX12_302 rfl rfl rfl (Nat.le_of_ble_eq_true rfl) (Nat.le_of_ble_eq_true rfl) (by omega) (by omega) ?_
        refine s_letterPairs hP (fun x hx => ?_)
        have hx := (hx.cg (Q := Blw (Mkd F N 3) (F 13)) (fun s _ _ => ⟨fun z => ⟨z.1, z.2.1, Or.inr (Or.inr (Or.inr (Or.inl ⟨rfl, z.2.2⟩)))⟩, fun z => ⟨z.1, z.2.1, by have y := z.2.2; unfold Mkd at y; rcases y with y | y | y | y | y; omega; omega; omega; exact y.2; omega⟩⟩)).v
        refine wp_ireturn dX12_most_68 rfl ?_
        unfold aMost at k; (repeat' split at k) <;> first | exact k | (exfalso; omega) | (rw [show w = 3 by omega] at k; rw [hx]; exact k) | (rw [show w = 4 by omega] at k; rw [hx]; exact k) | (rw [hx]; exact k)
      · refine wp_tswIn (tgt := 69) dX12_most_22 (by omega) (by omega) (by rw [h22]; rfl) rfl ?_
        refine wp_aload_n dX12_most_69 rfl ?_
        refine wp_callV (as := []) (ls0 := [_, _, _]) (kc := 0) (ks := 0) (bc' := 0) (bs' := 0) dX12_most_70 vX12_357 rfl rfl rfl (Nat.le_of_ble_eq_true rfl) (Nat.le_of_ble_eq_true rfl) (by omega) (by omega) ?_
        refine s_atOdds hP hB (fun x hx => ?_)
        have hx := (hx.cg (Q := Blw (Mkd F N 4) (F 13)) (fun s _ _ => ⟨fun z => ⟨z.1, z.2.1, Or.inr (Or.inr (Or.inr (Or.inr ⟨rfl, z.2.2⟩)))⟩, fun z => ⟨z.1, z.2.1, by have y := z.2.2; unfold Mkd at y; rcases y with y | y | y | y | y; omega; omega; omega; omega; exact y.2⟩⟩)).v
        refine wp_ireturn dX12_most_73 rfl ?_
        unfold aMost at k; (repeat' split at k) <;> first | exact k | (exfalso; omega) | (rw [show w = 3 by omega] at k; rw [hx]; exact k) | (rw [show w = 4 by omega] at k; rw [hx]; exact k) | (rw [hx]; exact k)
      · refine wp_tswIn (tgt := 74) dX12_most_22 (by omega) (by omega) (by rw [h22]; rfl) rfl ?_
        refine wp_aload_n dX12_most_74 rfl ?_
        refine wp_bipush dX12_most_75 ?_
        refine wp_callV (as := [_]) (ls0 := [_, _, _, _]) (kc := 0) (ks := 0) (bc' := 0) (bs' := 0) dX12_most_77 vX12_383 rfl rfl rfl (Nat.le_of_ble_eq_true rfl) (Nat.le_of_ble_eq_true rfl) (by omega) (by omega) ?_
        refine s_topBy (by omega) hP ?_
        refine wp_ireturn dX12_most_80 rfl ?_
        unfold aMost at k; (repeat' split at k) <;> first | exact k | (exfalso; omega) | (rw [show w = 3 by omega] at k; rw [hx]; exact k) | (rw [show w = 4 by omega] at k; rw [hx]; exact k) | (rw [hx]; exact k)
      · refine wp_tswIn (tgt := 81) dX12_most_22 (by omega) (by omega) (by rw [h22]; rfl) rfl ?_
        refine wp_aload_n dX12_most_81 rfl ?_
        refine wp_bipush dX12_most_82 ?_
        refine wp_callV (as := [_]) (ls0 := [_, _, _, _]) (kc := 0) (ks := 0) (bc' := 0) (bs' := 0) dX12_most_84 vX12_383 rfl rfl rfl (Nat.le_of_ble_eq_true rfl) (Nat.le_of_ble_eq_true rfl) (by omega) (by omega) ?_
        refine s_topBy (by omega) hP ?_
        refine wp_ireturn dX12_most_87 rfl ?_
        unfold aMost at k; (repeat' split at k) <;> first | exact k | (exfalso; omega) | (rw [show w = 3 by omega] at k; rw [hx]; exact k) | (rw [show w = 4 by omega] at k; rw [hx]; exact k) | (rw [hx]; exact k)
      · refine wp_tswIn (tgt := 88) dX12_most_22 (by omega) (by omega) (by rw [h22]; rfl) rfl ?_
        refine wp_aload_n dX12_most_88 rfl ?_
        refine wp_bipush dX12_most_89 ?_
        refine wp_callV (as := [_]) (ls0 := [_, _, _, _]) (kc := 0) (ks := 0) (bc' := 0) (bs' := 0) dX12_most_91 vX12_383 rfl rfl rfl (Nat.le_of_ble_eq_true rfl) (Nat.le_of_ble_eq_true rfl) (by omega) (by omega) ?_
        refine s_topBy (by omega) hP ?_
        refine wp_ireturn dX12_most_94 rfl ?_
        unfold aMost at k; (repeat' split at k) <;> first | exact k | (exfalso; omega) | (rw [show w = 3 by omega] at k; rw [hx]; exact k) | (rw [show w = 4 by omega] at k; rw [hx]; exact k) | (rw [hx]; exact k)
      · refine wp_tswIn (tgt := 95) dX12_most_22 (by omega) (by omega) (by rw [h22]; rfl) rfl ?_
        refine wp_aload_n dX12_most_95 rfl ?_
        refine wp_getR rfl dX12_most_96 fX12_31 rfl ?_
        refine wp_sipush dX12_most_99 ?_
        refine wp_iald dX12_most_102 rfl (by omega) (by omega) ?_
        try simp only [ST0, ST5, ST6, ST7, ST8, ST10, ST11, ST12, ST13]
        refine wp_ireturn dX12_most_103 rfl ?_
        unfold aMost at k; (repeat' split at k) <;> first | exact k | (exfalso; omega) | (rw [show w = 3 by omega] at k; rw [hx]; exact k) | (rw [show w = 4 by omega] at k; rw [hx]; exact k) | (rw [hx]; exact k)
      · refine wp_tswIn (tgt := 104) dX12_most_22 (by omega) (by omega) (by rw [h22]; rfl) rfl ?_
        refine wp_aload_n dX12_most_104 rfl ?_
        refine wp_callV (as := []) (ls0 := [_, _, _]) (kc := 0) (ks := 0) (bc' := 0) (bs' := 0) dX12_most_105 vX12_386 rfl rfl rfl (Nat.le_of_ble_eq_true rfl) (Nat.le_of_ble_eq_true rfl) (by omega) (by omega) ?_
        refine s_fb hP hB ?_
        refine wp_ireturn dX12_most_108 rfl ?_
        unfold aMost at k; (repeat' split at k) <;> first | exact k | (exfalso; omega) | (rw [show w = 3 by omega] at k; rw [hx]; exact k) | (rw [show w = 4 by omega] at k; rw [hx]; exact k) | (rw [hx]; exact k)
      · refine wp_tswOut (tgt := 109) dX12_most_22 (by omega) rfl ?_
        refine wp_aload_n dX12_most_109 rfl ?_
        refine wp_iload_n dX12_most_110 rfl ?_
        refine wp_callV (as := [_]) (ls0 := [_, _, _, _, _]) (kc := 0) (ks := 0) (bc' := 0) (bs' := 0) dX12_most_111 vX12_389 rfl rfl rfl (Nat.le_of_ble_eq_true rfl) (Nat.le_of_ble_eq_true rfl) (by omega) (by omega) ?_
        refine s_ones (by omega) hP hB (fun x hx => ?_)
        have hx := hx.v
        refine wp_ireturn dX12_most_114 rfl ?_
        unfold aMost at k; (repeat' split at k) <;> first | exact k | (exfalso; omega) | (rw [show w = 3 by omega] at k; rw [hx]; exact k) | (rw [show w = 4 by omega] at k; rw [hx]; exact k) | (rw [hx]; exact k)
    · refine wp_if_ne (tgt := 21) dX12_most_14 rfl (fun q => absurd q (by decide)) (fun _ => ?_)
      refine wp_ldcw (v := -1000000) dX12_most_17 zX12_382 rfl ⟨by decide, by decide⟩ ?_
      refine wp_ireturn dX12_most_20 rfl ?_
      unfold aMost at k; (repeat' split at k) <;> first | exact k | (exfalso; omega) | (rw [show w = 3 by omega] at k; rw [hx]; exact k) | (rw [show w = 4 by omega] at k; rw [hx]; exact k) | (rw [hx]; exact k)
end R24
