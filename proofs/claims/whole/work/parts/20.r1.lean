/-! ===== the reference: its cells ===== -/
def SHR : aSh := [(3, 12), (0, 240), (0, 5), (0, 24), (0, 16), (0, 5), (0, 24), (0, 16), (0, 550), (0, 5), (0, 6), (0, 16), (0, 7), (0, 6), (0, 22000), (0, 3321), (0, 81), (0, 550)]
def RVR : aP := fun i k => if i = 0 then (match k with
  | 1 => some 1
  | 5 => some 2
  | 6 => some 3
  | 7 => some 4
  | 10 => some 5
  | 11 => some 6
  | 12 => some 7
  | 15 => some 8
  | 16 => some 9
  | 18 => some 10
  | 20 => some 11
  | 21 => some 12
  | 23 => some 13
  | 24 => some 14
  | 27 => some 15
  | 28 => some 16
  | 29 => some 17
  | _ => none) else none
def fnd (f : Int → Int) (a c : Int) : Nat → Int → Int
  | 0, _ => -1
  | n + 1, i => if f (a + i) = c then i else fnd f a c n (i + 1)
section R1
variable {d : Nat} {iv lw : aF} {R : aPost}
theorem s_in {v lo hi : Int} {sh : aSh} {rv : aP} (kt : lo ≤ v ∧ v ≤ hi → R (some (aI 1)) sh iv lw rv) (kf : ¬ (lo ≤ v ∧ v ≤ hi) → R (some (aI 0)) sh iv lw rv) : wp d mX12_in 0 [some (aI v), some (aI lo), some (aI hi)] [] sh iv lw rv 0 0 R := by
  refine wp_iload_n dX12_in_0 rfl ?_
  refine wp_iload_n dX12_in_1 rfl ?_
  refine wp_icmp_lt (tgt := 14) dX12_in_2 rfl (fun h2 => ?_) (fun h2 => ?_)
  · refine wp_iconst dX12_in_14 ?_
    refine wp_zreturn dX12_in_15 rfl (Or.inl rfl) ?_
    exact kf (by omega)
  · refine wp_iload_n dX12_in_5 rfl ?_
    refine wp_iload_n dX12_in_6 rfl ?_
    refine wp_icmp_gt (tgt := 14) dX12_in_7 rfl (fun h7 => ?_) (fun h7 => ?_)
    · refine wp_iconst dX12_in_14 ?_
      refine wp_zreturn dX12_in_15 rfl (Or.inl rfl) ?_
      exact kf (by omega)
    · refine wp_iconst dX12_in_10 ?_
      refine wp_goto (tgt := 15) dX12_in_11 rfl ?_
      refine wp_zreturn dX12_in_15 rfl (Or.inr rfl) ?_
      exact kt ⟨by omega, by omega⟩
theorem s_of {p q : Int} (hp : 0 ≤ p ∧ p < 6) (hq : 0 ≤ q ∧ q < 61) (k : R (some (aI (iv 8 (61 * p + q)))) SHR iv lw RVR) : wp d mX12_of 0 [some (aR 0), some (aI p), some (aI q)] [] SHR iv lw RVR 0 0 R := by
  refine wp_aload_n dX12_of_0 rfl ?_
  refine wp_getR rfl dX12_of_1 fX12_31 rfl ?_
  refine wp_bipush dX12_of_4 ?_
  refine wp_iload_n dX12_of_6 rfl ?_
  refine wp_imul dX12_of_7 ⟨by omega, by omega⟩ ?_
  refine wp_iload_n dX12_of_8 rfl ?_
  refine wp_iadd dX12_of_9 ⟨by omega, by omega⟩ ?_
  refine wp_iald dX12_of_10 rfl (by omega) (by omega) ?_
  refine wp_ireturn dX12_of_11 rfl ?_
  exact k
theorem s_set {p q v : Int} (hp : 0 ≤ p ∧ p < 6) (hq : 0 ≤ q ∧ q < 61) (k : R none SHR (uI iv 8 (61 * p + q) v) lw RVR) : wp d mX12_set 0 [some (aR 0), some (aI p), some (aI q), some (aI v)] [] SHR iv lw RVR 0 0 R := by
  refine wp_aload_n dX12_set_0 rfl ?_
  refine wp_getR rfl dX12_set_1 fX12_31 rfl ?_
  refine wp_bipush dX12_set_4 ?_
  refine wp_iload_n dX12_set_6 rfl ?_
  refine wp_imul dX12_set_7 ⟨by omega, by omega⟩ ?_
  refine wp_iload_n dX12_set_8 rfl ?_
  refine wp_iadd dX12_set_9 ⟨by omega, by omega⟩ ?_
  refine wp_iload_n dX12_set_10 rfl ?_
  refine wp_iast dX12_set_11 rfl (by omega) (by omega) ?_
  refine wp_return dX12_set_12 rfl ?_
  exact k
theorem s_isPair {p : Int} (hr : iR (iv 0 13 - 1)) (kt : 0 ≤ p ∧ p < iv 0 13 → R (some (aI 1)) SHR iv lw RVR) (kf : ¬ (0 ≤ p ∧ p < iv 0 13) → R (some (aI 0)) SHR iv lw RVR) : wp (d + 1) mX12_isPair 0 [some (aR 0), some (aI p)] [] SHR iv lw RVR 0 0 R := by
  unfold iR at hr
  refine wp_iload_n dX12_isPair_0 rfl ?_
  refine wp_iconst dX12_isPair_1 ?_
  refine wp_aload_n dX12_isPair_2 rfl ?_
  refine wp_getI dX12_isPair_3 fX12_138 rfl ?_
  refine wp_iconst dX12_isPair_6 ?_
  refine wp_isub dX12_isPair_7 ⟨by omega, by omega⟩ ?_
  refine wp_callS (as := [_, _, _]) (ls0 := [_, _, _]) (kc := 0) (ks := 0) (bc' := 0) (bs' := 0) dX12_isPair_8 vX12_75 rfl rfl (Nat.le_of_ble_eq_true rfl) (Nat.le_of_ble_eq_true rfl) (by omega) (by omega) ?_
  refine s_in (fun h8 => ?_) (fun h8 => ?_)
  · refine wp_zreturn dX12_isPair_11 rfl (Or.inr rfl) ?_
    exact kt (by omega)
  · refine wp_zreturn dX12_isPair_11 rfl (Or.inl rfl) ?_
    exact kf (by omega)
theorem s_nodeOf {p q : Int} (hp : 0 ≤ p ∧ p < 6) (hq : q = 0 ∨ q = 1) (k : R (some (aI (iv 6 (4 * p + q)))) SHR iv lw RVR) : wp d mX12_nodeOf 0 [some (aR 0), some (aI p), some (aI q)] [] SHR iv lw RVR 0 0 R := by
  refine wp_aload_n dX12_nodeOf_0 rfl ?_
  refine wp_getR rfl dX12_nodeOf_1 fX12_25 rfl ?_
  refine wp_iconst dX12_nodeOf_4 ?_
  refine wp_iload_n dX12_nodeOf_5 rfl ?_
  refine wp_imul dX12_nodeOf_6 ⟨by omega, by omega⟩ ?_
  refine wp_iload_n dX12_nodeOf_7 rfl ?_
  refine wp_iadd dX12_nodeOf_8 ⟨by omega, by omega⟩ ?_
  refine wp_iald dX12_nodeOf_9 rfl (by omega) (by omega) ?_
  refine wp_ireturn dX12_nodeOf_10 rfl ?_
  exact k
theorem s_isTwoStep {p : Int} (hp : 0 ≤ p ∧ p < 6) (kt : iv 6 (4 * p + 2) = 2 → R (some (aI 1)) SHR iv lw RVR) (kf : ¬ iv 6 (4 * p + 2) = 2 → R (some (aI 0)) SHR iv lw RVR) : wp d mX12_isTwoStep 0 [some (aR 0), some (aI p)] [] SHR iv lw RVR 0 0 R := by
  refine wp_aload_n dX12_isTwoStep_0 rfl ?_
  refine wp_getR rfl dX12_isTwoStep_1 fX12_25 rfl ?_
  refine wp_iconst dX12_isTwoStep_4 ?_
  refine wp_iload_n dX12_isTwoStep_5 rfl ?_
  refine wp_imul dX12_isTwoStep_6 ⟨by omega, by omega⟩ ?_
  refine wp_iconst dX12_isTwoStep_7 ?_
  refine wp_iadd dX12_isTwoStep_8 ⟨by omega, by omega⟩ ?_
  refine wp_iald dX12_isTwoStep_9 rfl (by omega) (by omega) ?_
  refine wp_iconst dX12_isTwoStep_10 ?_
  refine wp_icmp_ne (tgt := 18) dX12_isTwoStep_11 rfl (fun h11 => ?_) (fun h11 => ?_)
  · refine wp_iconst dX12_isTwoStep_18 ?_
    refine wp_zreturn dX12_isTwoStep_19 rfl (Or.inl rfl) ?_
    exact kf (by assumption)
  · refine wp_iconst dX12_isTwoStep_14 ?_
    refine wp_goto (tgt := 19) dX12_isTwoStep_15 rfl ?_
    refine wp_zreturn dX12_isTwoStep_19 rfl (Or.inr rfl) ?_
    exact kt (by assumption)
theorem s_manyOf {p q : Int} (hp : 0 ≤ p ∧ p < 6) (hq : q = 0 ∨ q = 1) (k : R (some (aI (iv 8 (61 * p + (18 + 7 * q))))) SHR iv lw RVR) : wp (d + 1) mX12_manyOf 0 [some (aR 0), some (aI p), some (aI q)] [] SHR iv lw RVR 0 0 R := by
  refine wp_aload_n dX12_manyOf_0 rfl ?_
  refine wp_iload_n dX12_manyOf_1 rfl ?_
  refine wp_iload_n dX12_manyOf_2 rfl ?_
  refine wp_if_ne (tgt := 11) dX12_manyOf_3 rfl (fun h3 => ?_) (fun h3 => ?_)
  · refine wp_bipush dX12_manyOf_11 ?_
    refine wp_callV (as := [_, _]) (ls0 := [_, _, _]) (kc := 0) (ks := 0) (bc' := 0) (bs' := 0) dX12_manyOf_13 vX12_161 rfl rfl rfl (Nat.le_of_ble_eq_true rfl) (Nat.le_of_ble_eq_true rfl) (by omega) (by omega) ?_
    refine s_of (by omega) (by omega) ?_
    refine wp_ireturn dX12_manyOf_16 rfl ?_
    rcases hq with rfl | rfl <;> first | exact k | omega
  · refine wp_bipush dX12_manyOf_6 ?_
    refine wp_goto (tgt := 13) dX12_manyOf_8 rfl ?_
    refine wp_callV (as := [_, _]) (ls0 := [_, _, _]) (kc := 0) (ks := 0) (bc' := 0) (bs' := 0) dX12_manyOf_13 vX12_161 rfl rfl rfl (Nat.le_of_ble_eq_true rfl) (Nat.le_of_ble_eq_true rfl) (by omega) (by omega) ?_
    refine s_of (by omega) (by omega) ?_
    refine wp_ireturn dX12_manyOf_16 rfl ?_
    rcases hq with rfl | rfl <;> first | exact k | omega
theorem s_cellOf {p q i : Int} (hp : 0 ≤ p ∧ p < 6) (hq : q = 0 ∨ q = 1) (hi : 0 ≤ i ∧ i < 6) (k : R (some (aI (iv 8 (61 * p + (19 * q + i))))) SHR iv lw RVR) : wp (d + 1) mX12_cellOf 0 [some (aR 0), some (aI p), some (aI q), some (aI i)] [] SHR iv lw RVR 0 0 R := by
  refine wp_aload_n dX12_cellOf_0 rfl ?_
  refine wp_iload_n dX12_cellOf_1 rfl ?_
  refine wp_iload_n dX12_cellOf_2 rfl ?_
  refine wp_if_ne (tgt := 10) dX12_cellOf_3 rfl (fun h3 => ?_) (fun h3 => ?_)
  · refine wp_bipush dX12_cellOf_10 ?_
    refine wp_iload_n dX12_cellOf_12 rfl ?_
    refine wp_iadd dX12_cellOf_13 ⟨by omega, by omega⟩ ?_
    refine wp_callV (as := [_, _]) (ls0 := [_, _, _]) (kc := 0) (ks := 0) (bc' := 0) (bs' := 0) dX12_cellOf_14 vX12_161 rfl rfl rfl (Nat.le_of_ble_eq_true rfl) (Nat.le_of_ble_eq_true rfl) (by omega) (by omega) ?_
    refine s_of (by omega) (by omega) ?_
    refine wp_ireturn dX12_cellOf_17 rfl ?_
    rcases hq with rfl | rfl <;> first | exact k | omega
  · refine wp_iconst dX12_cellOf_6 ?_
    refine wp_goto (tgt := 12) dX12_cellOf_7 rfl ?_
    refine wp_iload_n dX12_cellOf_12 rfl ?_
    refine wp_iadd dX12_cellOf_13 ⟨by omega, by omega⟩ ?_
    refine wp_callV (as := [_, _]) (ls0 := [_, _, _]) (kc := 0) (ks := 0) (bc' := 0) (bs' := 0) dX12_cellOf_14 vX12_161 rfl rfl rfl (Nat.le_of_ble_eq_true rfl) (Nat.le_of_ble_eq_true rfl) (by omega) (by omega) ?_
    refine s_of (by omega) (by omega) ?_
    refine wp_ireturn dX12_cellOf_17 rfl ?_
    rcases hq with rfl | rfl <;> first | exact k | omega
theorem l_placeIn {p q c : Int} (hp : 0 ≤ p ∧ p < 6) (hq : q = 0 ∨ q = 1) (hm : 0 ≤ iv 8 (61 * p + (18 + 7 * q)) ∧ iv 8 (61 * p + (18 + 7 * q)) ≤ 6) (n : Nat) : ∀ i : Int, 0 ≤ i → i + n = iv 8 (61 * p + (18 + 7 * q)) → R (some (aI (fnd (iv 8) (61 * p + 19 * q) c n i))) SHR iv lw RVR → wp (d + 2) mX12_placeIn 3 [some (aR 0), some (aI p), some (aI q), some (aI c), some (aI i)] [] SHR iv lw RVR 0 0 R := by
  induction n with
  | zero =>
    intro i hi hn k
    refine wp_iload dX12_placeIn_3 rfl ?_
    refine wp_aload_n dX12_placeIn_5 rfl ?_
    refine wp_iload_n dX12_placeIn_6 rfl ?_
    refine wp_iload_n dX12_placeIn_7 rfl ?_
    refine wp_callV (as := [_, _]) (ls0 := [_, _, _]) (kc := 0) (ks := 0) (bc' := 0) (bs' := 0) dX12_placeIn_8 vX12_164 rfl rfl rfl (Nat.le_of_ble_eq_true rfl) (Nat.le_of_ble_eq_true rfl) (by omega) (by omega) ?_
    refine s_manyOf (by omega) (by omega) ?_
    refine wp_icmp_ge (tgt := 35) dX12_placeIn_11 rfl (fun h11 => ?_) (fun h11 => by exfalso; omega)
    refine wp_iconst dX12_placeIn_35 ?_
    refine wp_ireturn dX12_placeIn_36 rfl ?_
    exact k
  | succ n ih =>
    intro i hi hn k
    refine wp_iload dX12_placeIn_3 rfl ?_
    refine wp_aload_n dX12_placeIn_5 rfl ?_
    refine wp_iload_n dX12_placeIn_6 rfl ?_
    refine wp_iload_n dX12_placeIn_7 rfl ?_
    refine wp_callV (as := [_, _]) (ls0 := [_, _, _]) (kc := 0) (ks := 0) (bc' := 0) (bs' := 0) dX12_placeIn_8 vX12_164 rfl rfl rfl (Nat.le_of_ble_eq_true rfl) (Nat.le_of_ble_eq_true rfl) (by omega) (by omega) ?_
    refine s_manyOf (by omega) (by omega) ?_
    refine wp_icmp_ge (tgt := 35) dX12_placeIn_11 rfl (fun h11 => by exfalso; omega) (fun h11 => ?_)
    refine wp_aload_n dX12_placeIn_14 rfl ?_
    refine wp_iload_n dX12_placeIn_15 rfl ?_
    refine wp_iload_n dX12_placeIn_16 rfl ?_
    refine wp_iload dX12_placeIn_17 rfl ?_
    refine wp_callV (as := [_, _, _]) (ls0 := [_, _, _, _]) (kc := 0) (ks := 0) (bc' := 0) (bs' := 0) dX12_placeIn_19 vX12_167 rfl rfl rfl (Nat.le_of_ble_eq_true rfl) (Nat.le_of_ble_eq_true rfl) (by omega) (by omega) ?_
    refine s_cellOf (by omega) (by omega) (by omega) ?_
    refine wp_iload_n dX12_placeIn_22 rfl ?_
    refine wp_icmp_ne (tgt := 29) dX12_placeIn_23 rfl (fun h23 => ?_) (fun h23 => ?_)
    · refine wp_iinc (ls' := [_, _, _, _, _]) dX12_placeIn_29 (by decide) rfl rfl ⟨by omega, by omega⟩ rfl ?_
      refine wp_goto (tgt := 3) dX12_placeIn_32 rfl ?_
      exact ih _ (by omega) (by omega) (by rw [fnd, if_neg h23] at k; exact k)
    · refine wp_iload dX12_placeIn_26 rfl ?_
      refine wp_ireturn dX12_placeIn_28 rfl ?_
      rw [fnd, if_pos h23] at k; exact k
theorem s_placeIn {p q c : Int} (hp : 0 ≤ p ∧ p < 6) (hq : q = 0 ∨ q = 1) (hm : 0 ≤ iv 8 (61 * p + (18 + 7 * q)) ∧ iv 8 (61 * p + (18 + 7 * q)) ≤ 6) (k : R (some (aI (fnd (iv 8) (61 * p + 19 * q) c (iv 8 (61 * p + (18 + 7 * q))).toNat 0))) SHR iv lw RVR) : wp (d + 2) mX12_placeIn 0 [some (aR 0), some (aI p), some (aI q), some (aI c), none] [] SHR iv lw RVR 0 0 R := by
  refine wp_iconst dX12_placeIn_0 ?_
  refine wp_istore (ls' := [_, _, _, _, _]) dX12_placeIn_1 (by decide) rfl rfl ?_
  exact l_placeIn hp hq hm _ 0 (by omega) (by omega) k
end R1
