/-- byte k of a word -/
def bw (x k : Int) : Int := x / 2 ^ (24 - 8 * k).toNat % 256
def TW (iv : aF) (l s : Int → Int) : aF := uA (uA iv 1 l) 2 s
section C25a
variable {iv : aF} {l s f g : Int → Int} {x k v n : Int}
theorem TW1 : TW iv l s 1 = l := by unfold TW; rw [uA_n (by decide), uA_s]
theorem TW2 : TW iv l s 2 = s := by unfold TW; rw [uA_s]
theorem TWu1 : uI (TW iv l s) 1 k v = TW iv (up l k v) s := by rw [uI_eq, TW1]; unfold TW; rw [uA_c (show (1 : Nat) ≠ 2 by decide), uA_uA]
theorem TWu2 : uI (TW iv l s) 2 k v = TW iv l (up s k v) := by rw [uI_eq, TW2]; unfold TW; rw [uA_uA]
theorem TW_id : TW iv (iv 1) (iv 2) = iv := by unfold TW; rw [uA_id, uA_id]
theorem bw_q {y : Int} (h : 0 ≤ k ∧ k < 4) (hy : y = 24 - 8 * k) : (if y = 0 then x else x % 4294967296 / 2 ^ y.toNat) % 256 = bw x k := by
  subst hy
  unfold bw
  rcases (by omega : k = 0 ∨ k = 1 ∨ k = 2 ∨ k = 3) with rfl | rfl | rfl | rfl
  · rw [if_neg (by decide), show (2 : Int) ^ (24 - 8 * 0 : Int).toNat = 16777216 from rfl]; omega
  · rw [if_neg (by decide), show (2 : Int) ^ (24 - 8 * 1 : Int).toNat = 65536 from rfl]; omega
  · rw [if_neg (by decide), show (2 : Int) ^ (24 - 8 * 2 : Int).toNat = 256 from rfl]; omega
  · rw [if_pos (by decide), show (2 : Int) ^ (24 - 8 * 3 : Int).toNat = 1 from rfl]; omega
theorem bw_r : 0 ≤ bw x k ∧ bw x k < 256 := by unfold bw; exact ⟨Int.emod_nonneg _ (by decide), Int.emod_lt_of_pos _ (by decide)⟩
theorem apN_ge (m : Nat) : ∀ (k n : Int), n ≤ apN f m k n := by
  induction m with
  | zero => intro k n; rw [apN]; omega
  | succ m ih =>
    intro k n
    rw [apN]
    have := ih (k + 1) (if f k = 0 then n else n + 1)
    split at this <;> (rename_i e; first | rw [if_pos e] | rw [if_neg e]) <;> omega
theorem apN_add (m m' : Nat) : ∀ (k n : Int), apN f (m + m') k n = apN f m' (k + m) (apN f m k n) := by
  induction m with
  | zero => intro k n; rw [Nat.zero_add, apN, show k + ((0 : Nat) : Int) = k by omega]
  | succ m ih => intro k n; rw [show m + 1 + m' = m + m' + 1 by omega, apN, apN, ih, show k + 1 + (m : Int) = k + ((m + 1 : Nat) : Int) by omega]
theorem apT_add (m m' : Nat) : ∀ (k n : Int) (t : Int → Int), apT f (m + m') k n t = apT f m' (k + m) (apN f m k n) (apT f m k n t) := by
  induction m with
  | zero => intro k n t; rw [Nat.zero_add, apN, apT, show k + ((0 : Nat) : Int) = k by omega]
  | succ m ih =>
    intro k n t
    rw [show m + 1 + m' = m + m' + 1 by omega, apT, apN, apT]
    by_cases e : f k = 0
    · rw [if_pos e, if_pos e, if_pos e, ih, show k + 1 + (m : Int) = k + ((m + 1 : Nat) : Int) by omega]
    · rw [if_neg e, if_neg e, if_neg e, ih, show k + 1 + (m : Int) = k + ((m + 1 : Nat) : Int) by omega]
theorem ap_cg (m : Nat) : ∀ (k k' n : Int) (t : Int → Int), (∀ j : Int, 0 ≤ j → j < m → f (k + j) = g (k' + j)) → apN f m k n = apN g m k' n ∧ apT f m k n t = apT g m k' n t := by
  induction m with
  | zero => intro k k' n t h; exact ⟨rfl, rfl⟩
  | succ m ih =>
    intro k k' n t h
    have e0 : f k = g k' := by have := h 0 (by omega) (by omega); rwa [Int.add_zero, Int.add_zero] at this
    have hs : ∀ j : Int, 0 ≤ j → j < m → f (k + 1 + j) = g (k' + 1 + j) := fun j h0 h1 => by rw [show k + 1 + j = k + (1 + j) by omega, show k' + 1 + j = k' + (1 + j) by omega]; exact h _ (by omega) (by omega)
    rw [apN, apN, apT, apT, e0]
    refine ⟨(ih _ _ _ t hs).1, ?_⟩
    split
    · exact (ih _ _ _ _ hs).2
    · exact (ih _ _ _ _ hs).2
theorem apT_eq (m : Nat) : ∀ (k n : Int) (s t : Int → Int), (∀ i : Int, 0 ≤ i → i < n → s i = t i) → 0 ≤ n → ∀ i : Int, 0 ≤ i → i < apN f m k n → apT f m k n s i = apT f m k n t i := by
  induction m with
  | zero => intro k n s t h _ i h0 h1; rw [apN] at h1; rw [apT, apT]; exact h i h0 h1
  | succ m ih =>
    intro k n s t h hn i h0 h1
    rw [apN] at h1
    rw [apT, apT]
    by_cases e : f k = 0
    · rw [if_pos e] at h1 ⊢; rw [if_pos e]; exact ih _ _ _ _ h hn i h0 h1
    · rw [if_neg e] at h1 ⊢; rw [if_neg e]
      refine ih _ _ _ _ (fun j a b => ?_) (by omega) i h0 h1
      unfold up
      split
      · rfl
      · exact h j a (by omega)
theorem apT_b (m : Nat) (hf : ∀ k : Int, 0 ≤ f k ∧ f k < 256) : ∀ (k n : Int) (t : Int → Int), (∀ i : Int, 0 ≤ i → i < n → 1 ≤ t i ∧ t i ≤ 255) → 0 ≤ n → ∀ i : Int, 0 ≤ i → i < apN f m k n → 1 ≤ apT f m k n t i ∧ apT f m k n t i ≤ 255 := by
  induction m with
  | zero => intro k n t h _ i h0 h1; rw [apN] at h1; rw [apT]; exact h i h0 h1
  | succ m ih =>
    intro k n t h hn i h0 h1
    rw [apN] at h1
    rw [apT]
    by_cases e : f k = 0
    · rw [if_pos e] at h1 ⊢; exact ih _ _ _ h hn i h0 h1
    · rw [if_neg e] at h1 ⊢
      refine ih _ _ _ (fun j a b => ?_) (by omega) i h0 h1
      unfold up
      split
      · have := hf k; omega
      · exact h j a (by omega)
end C25a
section C25
variable {d : Nat} {sh : aSh} {iv lw E : aF} {rv : aP} {R : aPost} {l s t F : Int → Int} {n : Int}
theorem l_signsIn {x : Int} (k : R (some (aI (cntP (fun j => ¬ bw x j = 0) 4))) sh iv lw rv) (m : Nat) : ∀ i c : Int, 0 ≤ i → i + m = 4 → c = cntP (fun j => ¬ bw x j = 0) i.toNat → wp d mX10_signsIn 5 [some (aI x), some (aI c), some (aI (24 - 8 * i))] [] sh iv lw rv 0 0 R := by
  induction m with
  | zero =>
    intro i c h0 hm hc
    have e4 : i = 4 := by omega
    subst e4
    refine wp_iload_n dX10_signsIn_5 rfl ?_
    refine wp_if_lt (tgt := 28) dX10_signsIn_6 rfl (fun h6 => ?_) (fun h6 => by exfalso; omega)
    refine wp_iload_n dX10_signsIn_28 rfl ?_
    refine wp_ireturn dX10_signsIn_29 rfl ?_
    rw [hc]; exact k
  | succ m ih =>
    intro i c h0 hm hc
    have hcr := cntP_r (Q := fun j => ¬ bw x j = 0) i.toNat
    refine wp_iload_n dX10_signsIn_5 rfl ?_
    refine wp_if_lt (tgt := 28) dX10_signsIn_6 rfl (fun h6 => by exfalso; omega) (fun h6 => ?_)
    refine wp_iload_n dX10_signsIn_9 rfl ?_
    refine wp_iload_n dX10_signsIn_10 rfl ?_
    refine wp_iushr dX10_signsIn_11 (by omega) (by omega) ?_
    refine wp_sipush dX10_signsIn_12 ?_
    refine wp_iand_255 dX10_signsIn_15 rfl ?_
    rw [bw_q (k := i) (by omega) rfl]
    refine wp_if_eq (tgt := 22) dX10_signsIn_16 rfl (fun h16 => ?_) (fun h16 => ?_)
    · have hc1 := cn1_f (P := ¬ bw x i = 0) (fun z => z h16)
      refine wp_iinc (ls' := [_, _, _]) dX10_signsIn_22 (by decide) rfl rfl ⟨by omega, by omega⟩ rfl ?_
      refine wp_goto (tgt := 5) dX10_signsIn_25 rfl ?_
      rw [show 24 - 8 * i + -8 = 24 - 8 * (i + 1) by omega]
      exact ih _ _ (by omega) (by omega) (by rw [toN1 h0, cntP, toNI h0]; show _ = _ + cn1 (¬ bw x i = 0); rw [hc1]; omega)
    · have hc1 := cn1_t (P := ¬ bw x i = 0) h16
      refine wp_iinc (ls' := [_, _, _]) dX10_signsIn_19 (by decide) rfl rfl ⟨by omega, by omega⟩ rfl ?_
      refine wp_iinc (ls' := [_, _, _]) dX10_signsIn_22 (by decide) rfl rfl ⟨by omega, by omega⟩ rfl ?_
      refine wp_goto (tgt := 5) dX10_signsIn_25 rfl ?_
      rw [show 24 - 8 * i + -8 = 24 - 8 * (i + 1) by omega]
      exact ih _ _ (by omega) (by omega) (by rw [toN1 h0, cntP, toNI h0]; show _ = _ + cn1 (¬ bw x i = 0); rw [hc1]; omega)
theorem p_signsIn {x : Int} (k : R (some (aI (cntP (fun j => ¬ bw x j = 0) 4))) sh iv lw rv) : wp d mX10_signsIn 0 [some (aI x), none, none] [] sh iv lw rv 0 0 R := by
  refine wp_iconst dX10_signsIn_0 ?_
  refine wp_istore_n (ls' := [_, _, _]) dX10_signsIn_1 (by decide) rfl rfl ?_
  refine wp_bipush dX10_signsIn_2 ?_
  refine wp_istore_n (ls' := [_, _, _]) dX10_signsIn_4 (by decide) rfl rfl ?_
  exact l_signsIn k 4 0 0 (by omega) (by omega) rfl
theorem p_hasRoom {m : Int} (hT0 : TpA sh rv) (hn : l 1 = n) (hb : 0 ≤ n ∧ n ≤ 240) (hm : 0 ≤ m ∧ m ≤ 1000) (kt : n + m ≤ 240 → R (some (aI 1)) sh (TW iv l s) lw rv) (kf : ¬ n + m ≤ 240 → R (some (aI 0)) sh (TW iv l s) lw rv) : wp d mX10_hasRoom 0 [some (aR 1), some (aI m)] [] sh (TW iv l s) lw rv 0 0 R := by
  refine wp_aload_n dX10_hasRoom_0 rfl ?_
  refine wp_getI dX10_hasRoom_1 fX10_15 hT0.1 ?_
  try rw [TW1]
  rw [hn]
  refine wp_iload_n dX10_hasRoom_4 rfl ?_
  refine wp_iadd dX10_hasRoom_5 ⟨by omega, by omega⟩ ?_
  refine wp_sipush dX10_hasRoom_6 ?_
  refine wp_icmp_gt (tgt := 16) dX10_hasRoom_9 rfl (fun h9 => ?_) (fun h9 => ?_)
  · refine wp_iconst dX10_hasRoom_16 ?_
    refine wp_zreturn dX10_hasRoom_17 rfl (Or.inl rfl) ?_
    exact kf (by omega)
  · refine wp_iconst dX10_hasRoom_12 ?_
    refine wp_goto (tgt := 17) dX10_hasRoom_13 rfl ?_
    refine wp_zreturn dX10_hasRoom_17 rfl (Or.inr rfl) ?_
    exact kt (by omega)
theorem p_cutTo {m : Int} (hT0 : TpA sh rv) (hn : l 1 = n) (kt : 0 ≤ m ∧ m ≤ n → R (some (aI 1)) sh (TW iv (up l 1 m) s) lw rv) (kf : ¬ (0 ≤ m ∧ m ≤ n) → R (some (aI 0)) sh (TW iv l s) lw rv) : wp d mX10_cutTo 0 [some (aR 1), some (aI m)] [] sh (TW iv l s) lw rv 0 0 R := by
  refine wp_iload_n dX10_cutTo_0 rfl ?_
  refine wp_if_lt (tgt := 12) dX10_cutTo_1 rfl (fun h1 => ?_) (fun h1 => ?_)
  · refine wp_iconst dX10_cutTo_12 ?_
    refine wp_zreturn dX10_cutTo_13 rfl (Or.inl rfl) ?_
    exact kf (by omega)
  · refine wp_iload_n dX10_cutTo_4 rfl ?_
    refine wp_aload_n dX10_cutTo_5 rfl ?_
    refine wp_getI dX10_cutTo_6 fX10_15 hT0.1 ?_
    try rw [TW1]
    rw [hn]
    refine wp_icmp_le (tgt := 14) dX10_cutTo_9 rfl (fun h9 => ?_) (fun h9 => ?_)
    · refine wp_aload_n dX10_cutTo_14 rfl ?_
      refine wp_iload_n dX10_cutTo_15 rfl ?_
      refine wp_putI dX10_cutTo_16 fX10_15 hT0.1 ?_
      rw [TWu1]
      refine wp_iconst dX10_cutTo_19 ?_
      refine wp_zreturn dX10_cutTo_20 rfl (Or.inr rfl) ?_
      exact kt (by omega)
    · refine wp_iconst dX10_cutTo_12 ?_
      refine wp_zreturn dX10_cutTo_13 rfl (Or.inl rfl) ?_
      exact kf (by omega)
theorem l_append {x : Int} (hT0 : TpA sh rv) (m : Nat) : ∀ (i n : Int) (s : Int → Int) (v : Option aV), 0 ≤ i → i + m = 4 → 0 ≤ n → apN (bw x) m i n ≤ 240 → R none sh (TW iv (up l 1 (apN (bw x) m i n)) (apT (bw x) m i n s)) lw rv → wp d mX10_append 3 [some (aR 1), some (aI x), some (aI (24 - 8 * i)), v] [] sh (TW iv (up l 1 n) s) lw rv 0 0 R := by
  induction m with
  | zero =>
    intro i n s v h0 hm hn hx k
    have e4 : i = 4 := by omega
    subst e4
    refine wp_iload_n dX10_append_3 rfl ?_
    refine wp_if_lt (tgt := 55) dX10_append_4 rfl (fun h4 => ?_) (fun h4 => by exfalso; omega)
    refine wp_return dX10_append_55 rfl ?_
    exact k
  | succ m ih =>
    intro i n s v h0 hm hn hx k
    have hb := bw_r (x := x) (k := i)
    rw [apN] at hx k
    rw [apT] at k
    refine wp_iload_n dX10_append_3 rfl ?_
    refine wp_if_lt (tgt := 55) dX10_append_4 rfl (fun h4 => by exfalso; omega) (fun h4 => ?_)
    refine wp_iload_n dX10_append_7 rfl ?_
    refine wp_iload_n dX10_append_8 rfl ?_
    refine wp_iushr dX10_append_9 (by omega) (by omega) ?_
    refine wp_sipush dX10_append_10 ?_
    refine wp_iand_255 dX10_append_13 rfl ?_
    rw [bw_q (k := i) (by omega) rfl]
    refine wp_istore_n (ls' := [_, _, _, _]) dX10_append_14 (by decide) rfl rfl ?_
    refine wp_iload_n dX10_append_15 rfl ?_
    refine wp_if_eq (tgt := 49) dX10_append_16 rfl (fun h16 => ?_) (fun h16 => ?_)
    · rw [if_pos h16] at hx
      rw [if_pos h16, if_pos h16] at k
      refine wp_iinc (ls' := [_, _, _, _]) dX10_append_49 (by decide) rfl rfl ⟨by omega, by omega⟩ rfl ?_
      refine wp_goto (tgt := 3) dX10_append_52 rfl ?_
      rw [show 24 - 8 * i + -8 = 24 - 8 * (i + 1) by omega]
      exact ih _ _ _ _ (by omega) (by omega) (by omega) hx k
    · rw [if_neg h16] at hx
      rw [if_neg h16, if_neg h16] at k
      have hge := apN_ge (f := bw x) m (i + 1) (n + 1)
      refine wp_aload_n dX10_append_19 rfl ?_
      refine wp_getI dX10_append_20 fX10_15 hT0.1 ?_
      rw [TW1, up_s]
      refine wp_sipush dX10_append_23 ?_
      refine wp_icmp_ge (tgt := 49) dX10_append_26 rfl (fun h26 => by exfalso; omega) (fun h26 => ?_)
      refine wp_aload_n dX10_append_29 rfl ?_
      refine wp_getR hT0.2.1 dX10_append_30 fX10_11 hT0.1 ?_
      refine wp_aload_n dX10_append_33 rfl ?_
      refine wp_getI dX10_append_34 fX10_15 hT0.1 ?_
      rw [TW1, up_s]
      refine wp_iload_n dX10_append_37 rfl ?_
      refine wp_iast dX10_append_38 hT0.2.2 (by omega) (by omega) ?_
      rw [TWu2]
      refine wp_aload_n dX10_append_39 rfl ?_
      refine wp_dup dX10_append_40 rfl ?_
      refine wp_getI dX10_append_41 fX10_15 hT0.1 ?_
      rw [TW1, up_s]
      refine wp_iconst dX10_append_44 ?_
      refine wp_iadd dX10_append_45 ⟨by omega, by omega⟩ ?_
      refine wp_putI dX10_append_46 fX10_15 hT0.1 ?_
      rw [TWu1, up_uu]
      refine wp_iinc (ls' := [_, _, _, _]) dX10_append_49 (by decide) rfl rfl ⟨by omega, by omega⟩ rfl ?_
      refine wp_goto (tgt := 3) dX10_append_52 rfl ?_
      rw [show 24 - 8 * i + -8 = 24 - 8 * (i + 1) by omega]
      exact ih _ _ _ _ (by omega) (by omega) (by omega) hx k
theorem p_append {x : Int} (hT0 : TpA sh rv) (hl : l 1 = n) (hn : 0 ≤ n) (hx : apN (bw x) 4 0 n ≤ 240) (k : R none sh (TW iv (up l 1 (apN (bw x) 4 0 n)) (apT (bw x) 4 0 n s)) lw rv) : wp d mX10_append 0 [some (aR 1), some (aI x), none, none] [] sh (TW iv l s) lw rv 0 0 R := by
  rw [show TW iv l s = TW iv (up l 1 n) s by rw [← hl, show up l 1 (l 1) = l by funext j; unfold up; split; (rename_i h; rw [h]); rfl]]
  refine wp_bipush dX10_append_0 ?_
  refine wp_istore_n (ls' := [_, _, _, _]) dX10_append_2 (by decide) rfl rfl ?_
  exact l_append hT0 4 0 n s _ (by omega) (by omega) hn hx k
/-- the plan's own shapes and links -/
def PlS (sh : aSh) (rv : aP) : Prop := sh[3]? = some (3, 7) ∧ rv 3 0 = some 4 ∧ rv 3 1 = some 5 ∧ rv 3 2 = some 6 ∧ sh[4]? = some (0, 5) ∧ sh[5]? = some (0, 24) ∧ sh[6]? = some (0, 16)
theorem n_takeMesh (hl : PlS sh rv) (hA : RdA sh rv) (k : ∀ iv' : aF, (∀ i : Nat, ¬ i = 3 → ¬ i = 4 → ¬ i = 5 → iv' i = iv i) → iv' 3 = up (iv 3) 3 (iv 7 4) → iv' 4 = cpyI (iv 8) (iv 4) 0 0 5 → iv' 5 = cpyI (iv 9) (iv 5) 0 0 24 → R none sh iv' lw rv) : wp (d + 1) mX7_takeMesh 0 [some (aR 3), some (aR 7)] [] sh iv lw rv 0 0 R := by
  refine wp_aload_n dX7_takeMesh_0 rfl ?_
  refine wp_getR hA.2.2.1 dX7_takeMesh_1 fX7_21 hA.1 ?_
  refine wp_iconst dX7_takeMesh_4 ?_
  refine wp_aload_n dX7_takeMesh_5 rfl ?_
  refine wp_getR hl.2.1 dX7_takeMesh_6 fX7_11 hl.1 ?_
  refine wp_iconst dX7_takeMesh_9 ?_
  refine wp_iconst dX7_takeMesh_10 ?_
  refine wp_copy dX7_takeMesh_11 aX7_24 hA.2.2.2.2.2.1 hl.2.2.2.2.1 (by omega) (by decide) (by decide) (by decide) (by decide) (by decide) (Nat.le_of_ble_eq_true rfl) ?_
  refine wp_aload_n dX7_takeMesh_14 rfl ?_
  refine wp_getR hA.2.2.2.1 dX7_takeMesh_15 fX7_30 hA.1 ?_
  refine wp_iconst dX7_takeMesh_18 ?_
  refine wp_aload_n dX7_takeMesh_19 rfl ?_
  refine wp_getR hl.2.2.1 dX7_takeMesh_20 fX7_15 hl.1 ?_
  refine wp_iconst dX7_takeMesh_23 ?_
  refine wp_aload_n dX7_takeMesh_24 rfl ?_
  refine wp_getR hl.2.2.1 dX7_takeMesh_25 fX7_15 hl.1 ?_
  refine wp_alen dX7_takeMesh_28 hl.2.2.2.2.2.1 rfl ⟨by decide, by decide⟩ ?_
  refine wp_copy dX7_takeMesh_29 aX7_24 hA.2.2.2.2.2.2.1 hl.2.2.2.2.2.1 (by omega) (by decide) (by decide) (by decide) (by decide) (by decide) (Nat.le_of_ble_eq_true rfl) ?_
  refine wp_aload_n dX7_takeMesh_32 rfl ?_
  refine wp_aload_n dX7_takeMesh_33 rfl ?_
  refine wp_getI dX7_takeMesh_34 fX7_31 hA.1 ?_
  refine wp_putI dX7_takeMesh_37 fX7_35 hl.1 ?_
  refine wp_return dX7_takeMesh_40 rfl ?_
  refine k _ (fun i h3 h4 h5 => ?_) ?_ ?_ ?_
  · rw [uI_eq, uA_n h3, uA_n h5, uA_n h4]
  · rw [uI_eq, uA_s, uA_n (by decide), uA_n (by decide), uA_n (by decide), uA_n (by decide)]
  · rw [uI_eq, uA_n (by decide), uA_n (by decide), uA_s]
  · rw [uI_eq, uA_n (by decide), uA_s, uA_n (by decide), uA_n (by decide)]; rfl
theorem n_takeHops (hl : PlS sh rv) (hA : RdA sh rv) (k : ∀ iv' : aF, (∀ i : Nat, ¬ i = 3 → ¬ i = 6 → iv' i = iv i) → iv' 3 = up (iv 3) 4 (iv 7 5) → iv' 6 = cpyI (iv 10) (iv 6) 0 0 16 → R none sh iv' lw rv) : wp (d + 1) mX7_takeHops 0 [some (aR 3), some (aR 7)] [] sh iv lw rv 0 0 R := by
  refine wp_aload_n dX7_takeHops_0 rfl ?_
  refine wp_getR hA.2.2.2.2.1 dX7_takeHops_1 fX7_36 hA.1 ?_
  refine wp_iconst dX7_takeHops_4 ?_
  refine wp_aload_n dX7_takeHops_5 rfl ?_
  refine wp_getR hl.2.2.2.1 dX7_takeHops_6 fX7_18 hl.1 ?_
  refine wp_iconst dX7_takeHops_9 ?_
  refine wp_bipush dX7_takeHops_10 ?_
  refine wp_copy dX7_takeHops_12 aX7_24 hA.2.2.2.2.2.2.2 hl.2.2.2.2.2.2 (by omega) (by decide) (by decide) (by decide) (by decide) (by decide) (Nat.le_of_ble_eq_true rfl) ?_
  refine wp_aload_n dX7_takeHops_15 rfl ?_
  refine wp_aload_n dX7_takeHops_16 rfl ?_
  refine wp_getI dX7_takeHops_17 fX7_37 hA.1 ?_
  refine wp_putI dX7_takeHops_20 fX7_40 hl.1 ?_
  refine wp_return dX7_takeHops_23 rfl ?_
  refine k _ (fun i h3 h4 => ?_) ?_ ?_
  · rw [uI_eq, uA_n h3, uA_n h4]
  · rw [uI_eq, uA_s, uA_n (by decide), uA_n (by decide)]
  · rw [uI_eq, uA_n (by decide), uA_s]
end C25
