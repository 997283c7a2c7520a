abbrev lss (N : Int → Int) (p i j t : Int) : Prop := t * N (61 * p + (12 + i)) * N (61 * p + (6 + j)) < N (61 * p + (12 + j)) * N (61 * p + (6 + i))
def nbF (N : Int → Int) (p b i : Int) : Int := if b = -1 ∨ lss N p b i 1 then i else b
def nwF (N : Int → Int) (p w i : Int) : Int := if w = -1 ∨ lss N p i w 1 then i else w
def bdL (N : Int → Int) (p : Int) : Nat → Int → Int → Int → Int × Int
  | 0, _, b, w => (b, w)
  | m + 1, i, b, w => if N (61 * p + (6 + i)) < 4 then bdL N p m (i + 1) b w else bdL N p m (i + 1) (nbF N p b i) (nwF N p w i)
def bdR (N : Int → Int) (p : Int) (r : Int × Int) : Int := if ¬ r.1 = -1 ∧ lss N p r.2 r.1 2 then r.2 else -1
/-- the place of the bad cell; -1: none -/
def bad (N : Int → Int) (p : Int) : Int := bdR N p (bdL N p (N (61 * p + 18)).toNat 0 (-1) (-1))
theorem m999 {a b A B : Int} (ha : 0 ≤ a ∧ a ≤ A) (hb : 0 ≤ b ∧ b ≤ B) : 0 ≤ a * b ∧ a * b ≤ A * B := by
  refine ⟨Int.mul_nonneg ha.1 hb.1, ?_⟩
  have h1 : a * b ≤ A * b := Int.mul_le_mul_of_nonneg_right ha.2 hb.1
  have h2 : A * b ≤ A * B := Int.mul_le_mul_of_nonneg_left hb.2 (by omega)
  omega
section R15
variable {d : Nat} {iv lw : aF} {F N G O T S : Int → Int} {R : aPost}
theorem s_isLess {p i j t : Int} (hp : 0 ≤ p ∧ p < 6) (hB : Bok (iv 5 0) (iv 5 1) N) (hi : 0 ≤ i ∧ i < 6) (hj : 0 ≤ j ∧ j < 6) (ht : t = 1 ∨ t = 2) (kt : lss N p i j t → R (some (aI 1)) SHR (ST iv F N G O T S) lw RVR) (kf : ¬ lss N p i j t → R (some (aI 0)) SHR (ST iv F N G O T S) lw RVR) : wp (d + 1) mX12_isLess 0 [some (aR 0), some (aI p), some (aI i), some (aI j), some (aI t)] [] SHR (ST iv F N G O T S) lw RVR 0 0 R := by
  have a1 := hB p (12 + i) hp.1 hp.2 (by omega) (by omega)
  have a2 := hB p (6 + j) hp.1 hp.2 (by omega) (by omega)
  have a3 := hB p (12 + j) hp.1 hp.2 (by omega) (by omega)
  have a4 := hB p (6 + i) hp.1 hp.2 (by omega) (by omega)
  rw [k999 (by omega)] at a1 a2 a3 a4
  have b1 : 0 ≤ t * N (61 * p + (12 + i)) ∧ t * N (61 * p + (12 + i)) ≤ 1998 := by rcases ht with rfl | rfl <;> omega
  have b2 := m999 b1 a2
  have b3 := m999 a3 a4
  refine wp_iload dX12_isLess_0 rfl ?_
  refine wp_aload_n dX12_isLess_2 rfl ?_
  refine wp_iload_n dX12_isLess_3 rfl ?_
  refine wp_bipush dX12_isLess_4 ?_
  refine wp_iload_n dX12_isLess_6 rfl ?_
  refine wp_iadd dX12_isLess_7 ⟨by omega, by omega⟩ ?_
  refine wp_callV (as := [_, _]) (ls0 := [_, _, _]) (kc := 0) (ks := 0) (bc' := 0) (bs' := 0) dX12_isLess_8 vX12_161 rfl rfl rfl (Nat.le_of_ble_eq_true rfl) (Nat.le_of_ble_eq_true rfl) (by omega) (by omega) ?_
  refine s_of (by omega) (by omega) ?_
  refine wp_imul dX12_isLess_11 ⟨by omega, by omega⟩ ?_
  refine wp_aload_n dX12_isLess_12 rfl ?_
  refine wp_iload_n dX12_isLess_13 rfl ?_
  refine wp_bipush dX12_isLess_14 ?_
  refine wp_iload_n dX12_isLess_16 rfl ?_
  refine wp_iadd dX12_isLess_17 ⟨by omega, by omega⟩ ?_
  refine wp_callV (as := [_, _]) (ls0 := [_, _, _]) (kc := 0) (ks := 0) (bc' := 0) (bs' := 0) dX12_isLess_18 vX12_161 rfl rfl rfl (Nat.le_of_ble_eq_true rfl) (Nat.le_of_ble_eq_true rfl) (by omega) (by omega) ?_
  refine s_of (by omega) (by omega) ?_
  refine wp_imul dX12_isLess_21 ⟨by omega, by omega⟩ ?_
  refine wp_aload_n dX12_isLess_22 rfl ?_
  refine wp_iload_n dX12_isLess_23 rfl ?_
  refine wp_bipush dX12_isLess_24 ?_
  refine wp_iload_n dX12_isLess_26 rfl ?_
  refine wp_iadd dX12_isLess_27 ⟨by omega, by omega⟩ ?_
  refine wp_callV (as := [_, _]) (ls0 := [_, _, _]) (kc := 0) (ks := 0) (bc' := 0) (bs' := 0) dX12_isLess_28 vX12_161 rfl rfl rfl (Nat.le_of_ble_eq_true rfl) (Nat.le_of_ble_eq_true rfl) (by omega) (by omega) ?_
  refine s_of (by omega) (by omega) ?_
  refine wp_aload_n dX12_isLess_31 rfl ?_
  refine wp_iload_n dX12_isLess_32 rfl ?_
  refine wp_bipush dX12_isLess_33 ?_
  refine wp_iload_n dX12_isLess_35 rfl ?_
  refine wp_iadd dX12_isLess_36 ⟨by omega, by omega⟩ ?_
  refine wp_callV (as := [_, _]) (ls0 := [_, _, _]) (kc := 0) (ks := 0) (bc' := 0) (bs' := 0) dX12_isLess_37 vX12_161 rfl rfl rfl (Nat.le_of_ble_eq_true rfl) (Nat.le_of_ble_eq_true rfl) (by omega) (by omega) ?_
  refine s_of (by omega) (by omega) ?_
  refine wp_imul dX12_isLess_40 ⟨by omega, by omega⟩ ?_
  refine wp_icmp_ge (tgt := 48) dX12_isLess_41 rfl (fun h41 => ?_) (fun h41 => ?_)
  · refine wp_iconst dX12_isLess_48 ?_
    refine wp_zreturn dX12_isLess_49 rfl (Or.inl rfl) ?_
    exact kf (by unfold lss; omega)
  · refine wp_iconst dX12_isLess_44 ?_
    refine wp_goto (tgt := 49) dX12_isLess_45 rfl ?_
    refine wp_zreturn dX12_isLess_49 rfl (Or.inr rfl) ?_
    exact kt (by unfold lss; omega)
theorem l_bad {p : Int} (hp : 0 ≤ p ∧ p < 6) (hB : Bok (iv 5 0) (iv 5 1) N) (m : Nat) : ∀ (i b w : Int), 0 ≤ i → i + m = N (61 * p + 18) → (b = -1 ∨ (0 ≤ b ∧ b < 6)) → ((w = -1 ∧ b = -1) ∨ (0 ≤ w ∧ w < 6 ∧ ¬ b = -1)) → R (some (aI (bdR N p (bdL N p m i b w)))) SHR (ST iv F N G O T S) lw RVR → wp (d + 2) mX12_badPlace 7 [some (aR 0), some (aI p), some (aI b), some (aI w), some (aI i)] [] SHR (ST iv F N G O T S) lw RVR 0 0 R := by
  have h18 := hB.v18 hp
  induction m with
  | zero =>
    intro i b w h0 hm hb hw k
    refine wp_iload dX12_badPlace_7 rfl ?_
    refine wp_aload_n dX12_badPlace_9 rfl ?_
    refine wp_iload_n dX12_badPlace_10 rfl ?_
    refine wp_bipush dX12_badPlace_11 ?_
    refine wp_callV (as := [_, _]) (ls0 := [_, _, _]) (kc := 0) (ks := 0) (bc' := 0) (bs' := 0) dX12_badPlace_13 vX12_161 rfl rfl rfl (Nat.le_of_ble_eq_true rfl) (Nat.le_of_ble_eq_true rfl) (by omega) (by omega) ?_
    refine s_of (by omega) (by omega) ?_
    refine wp_icmp_ge (tgt := 87) dX12_badPlace_16 rfl (fun h16 => ?_) (fun h16 => by exfalso; omega)
    refine wp_iload_n dX12_badPlace_87 rfl ?_
    refine wp_iconst dX12_badPlace_88 ?_
    refine wp_icmp_eq (tgt := 107) dX12_badPlace_89 rfl (fun h89 => ?_) (fun h89 => ?_)
    · refine wp_iconst dX12_badPlace_107 ?_
      refine wp_ireturn dX12_badPlace_108 rfl ?_
      rw [bdL] at k
      unfold bdR at k
      dsimp only at k
      split at k
      · rename_i hh
        first | exact k | exact absurd h89 hh.1 | exact absurd hh.2 h97
      · rename_i hh
        first | exact k | exact absurd ⟨h89, h97⟩ hh
    · refine wp_aload_n dX12_badPlace_92 rfl ?_
      refine wp_iload_n dX12_badPlace_93 rfl ?_
      refine wp_iload_n dX12_badPlace_94 rfl ?_
      refine wp_iload_n dX12_badPlace_95 rfl ?_
      refine wp_iconst dX12_badPlace_96 ?_
      refine wp_callV (as := [_, _, _, _]) (ls0 := [_, _, _, _, _]) (kc := 0) (ks := 0) (bc' := 0) (bs' := 0) dX12_badPlace_97 vX12_280 rfl rfl rfl (Nat.le_of_ble_eq_true rfl) (Nat.le_of_ble_eq_true rfl) (by omega) (by omega) ?_
      refine s_isLess hp hB (by omega) (by omega) (by omega) (fun h97 => ?_) (fun h97 => ?_)
      · refine wp_if_eq (tgt := 107) dX12_badPlace_100 rfl (fun q => absurd q (by decide)) (fun _ => ?_)
        refine wp_iload_n dX12_badPlace_103 rfl ?_
        refine wp_goto (tgt := 108) dX12_badPlace_104 rfl ?_
        refine wp_ireturn dX12_badPlace_108 rfl ?_
        rw [bdL] at k
        unfold bdR at k
        dsimp only at k
        split at k
        · rename_i hh
          first | exact k | exact absurd h89 hh.1 | exact absurd hh.2 h97
        · rename_i hh
          first | exact k | exact absurd ⟨h89, h97⟩ hh
      · refine wp_if_eq (tgt := 107) dX12_badPlace_100 rfl (fun _ => ?_) (fun q => absurd q (by decide))
        refine wp_iconst dX12_badPlace_107 ?_
        refine wp_ireturn dX12_badPlace_108 rfl ?_
        rw [bdL] at k
        unfold bdR at k
        dsimp only at k
        split at k
        · rename_i hh
          first | exact k | exact absurd h89 hh.1 | exact absurd hh.2 h97
        · rename_i hh
          first | exact k | exact absurd ⟨h89, h97⟩ hh
  | succ m ih =>
    intro i b w h0 hm hb hw k
    refine wp_iload dX12_badPlace_7 rfl ?_
    refine wp_aload_n dX12_badPlace_9 rfl ?_
    refine wp_iload_n dX12_badPlace_10 rfl ?_
    refine wp_bipush dX12_badPlace_11 ?_
    refine wp_callV (as := [_, _]) (ls0 := [_, _, _]) (kc := 0) (ks := 0) (bc' := 0) (bs' := 0) dX12_badPlace_13 vX12_161 rfl rfl rfl (Nat.le_of_ble_eq_true rfl) (Nat.le_of_ble_eq_true rfl) (by omega) (by omega) ?_
    refine s_of (by omega) (by omega) ?_
    refine wp_icmp_ge (tgt := 87) dX12_badPlace_16 rfl (fun h16 => by exfalso; omega) (fun h16 => ?_)
    refine wp_aload_n dX12_badPlace_19 rfl ?_
    refine wp_iload_n dX12_badPlace_20 rfl ?_
    refine wp_bipush dX12_badPlace_21 ?_
    refine wp_iload dX12_badPlace_23 rfl ?_
    refine wp_iadd dX12_badPlace_25 ⟨by omega, by omega⟩ ?_
    refine wp_callV (as := [_, _]) (ls0 := [_, _, _]) (kc := 0) (ks := 0) (bc' := 0) (bs' := 0) dX12_badPlace_26 vX12_161 rfl rfl rfl (Nat.le_of_ble_eq_true rfl) (Nat.le_of_ble_eq_true rfl) (by omega) (by omega) ?_
    refine s_of (by omega) (by omega) ?_
    refine wp_iconst dX12_badPlace_29 ?_
    refine wp_icmp_lt (tgt := 81) dX12_badPlace_30 rfl (fun h30 => ?_) (fun h30 => ?_)
    · rw [bdL, if_pos h30] at k
      refine wp_iinc (ls' := [_, _, _, _, _]) dX12_badPlace_81 (by decide) rfl rfl ⟨by omega, by omega⟩ rfl ?_
      refine wp_goto (tgt := 7) dX12_badPlace_84 rfl ?_
      first
      | exact ih _ _ _ (by omega) (by omega) hb hw k
      | (have hb1 : nbF N p b i = i ∨ nbF N p b i = b := by unfold nbF; split <;> simp
         have hw1 : nwF N p w i = i ∨ nwF N p w i = w := by unfold nwF; split <;> simp
         rw [bdL, if_neg h30] at k
         first | rw [show nbF N p b i = i from if_pos (Or.inl h35)] at k | rw [show nbF N p b i = i from if_pos (Or.inr h44)] at k | rw [show nbF N p b i = b from if_neg (fun q => q.elim h35 h44)] at k
         first | rw [show nwF N p w i = i from if_pos (Or.inl h59)] at k | rw [show nwF N p w i = i from if_pos (Or.inr h68)] at k | rw [show nwF N p w i = w from if_neg (fun q => q.elim h59 h68)] at k
         exact ih _ _ _ (by omega) (by omega) (by omega) (by omega) k)
    · refine wp_iload_n dX12_badPlace_33 rfl ?_
      refine wp_iconst dX12_badPlace_34 ?_
      refine wp_icmp_eq (tgt := 50) dX12_badPlace_35 rfl (fun h35 => ?_) (fun h35 => ?_)
      · refine wp_iload dX12_badPlace_50 rfl ?_
        refine wp_goto (tgt := 56) dX12_badPlace_52 rfl ?_
        refine wp_istore_n (ls' := [_, _, _, _, _]) dX12_badPlace_56 (by decide) rfl rfl ?_
        refine wp_iload_n dX12_badPlace_57 rfl ?_
        refine wp_iconst dX12_badPlace_58 ?_
        refine wp_icmp_eq (tgt := 74) dX12_badPlace_59 rfl (fun h59 => ?_) (fun h59 => ?_)
        · refine wp_iload dX12_badPlace_74 rfl ?_
          refine wp_goto (tgt := 80) dX12_badPlace_76 rfl ?_
          refine wp_istore_n (ls' := [_, _, _, _, _]) dX12_badPlace_80 (by decide) rfl rfl ?_
          refine wp_iinc (ls' := [_, _, _, _, _]) dX12_badPlace_81 (by decide) rfl rfl ⟨by omega, by omega⟩ rfl ?_
          refine wp_goto (tgt := 7) dX12_badPlace_84 rfl ?_
          first
          | exact ih _ _ _ (by omega) (by omega) hb hw k
          | (have hb1 : nbF N p b i = i ∨ nbF N p b i = b := by unfold nbF; split <;> simp
             have hw1 : nwF N p w i = i ∨ nwF N p w i = w := by unfold nwF; split <;> simp
             rw [bdL, if_neg h30] at k
             first | rw [show nbF N p b i = i from if_pos (Or.inl h35)] at k | rw [show nbF N p b i = i from if_pos (Or.inr h44)] at k | rw [show nbF N p b i = b from if_neg (fun q => q.elim h35 h44)] at k
             first | rw [show nwF N p w i = i from if_pos (Or.inl h59)] at k | rw [show nwF N p w i = i from if_pos (Or.inr h68)] at k | rw [show nwF N p w i = w from if_neg (fun q => q.elim h59 h68)] at k
             exact ih _ _ _ (by omega) (by omega) (by omega) (by omega) k)
        · refine wp_aload_n dX12_badPlace_62 rfl ?_
          refine wp_iload_n dX12_badPlace_63 rfl ?_
          refine wp_iload dX12_badPlace_64 rfl ?_
          refine wp_iload_n dX12_badPlace_66 rfl ?_
          refine wp_iconst dX12_badPlace_67 ?_
          refine wp_callV (as := [_, _, _, _]) (ls0 := [_, _, _, _, _]) (kc := 0) (ks := 0) (bc' := 0) (bs' := 0) dX12_badPlace_68 vX12_280 rfl rfl rfl (Nat.le_of_ble_eq_true rfl) (Nat.le_of_ble_eq_true rfl) (by omega) (by omega) ?_
          refine s_isLess hp hB (by omega) (by omega) (by omega) (fun h68 => ?_) (fun h68 => ?_)
          · refine wp_if_eq (tgt := 79) dX12_badPlace_71 rfl (fun q => absurd q (by decide)) (fun _ => ?_)
            refine wp_iload dX12_badPlace_74 rfl ?_
            refine wp_goto (tgt := 80) dX12_badPlace_76 rfl ?_
            refine wp_istore_n (ls' := [_, _, _, _, _]) dX12_badPlace_80 (by decide) rfl rfl ?_
            refine wp_iinc (ls' := [_, _, _, _, _]) dX12_badPlace_81 (by decide) rfl rfl ⟨by omega, by omega⟩ rfl ?_
            refine wp_goto (tgt := 7) dX12_badPlace_84 rfl ?_
            first
            | exact ih _ _ _ (by omega) (by omega) hb hw k
            | (have hb1 : nbF N p b i = i ∨ nbF N p b i = b := by unfold nbF; split <;> simp
               have hw1 : nwF N p w i = i ∨ nwF N p w i = w := by unfold nwF; split <;> simp
               rw [bdL, if_neg h30] at k
               first | rw [show nbF N p b i = i from if_pos (Or.inl h35)] at k | rw [show nbF N p b i = i from if_pos (Or.inr h44)] at k | rw [show nbF N p b i = b from if_neg (fun q => q.elim h35 h44)] at k
               first | rw [show nwF N p w i = i from if_pos (Or.inl h59)] at k | rw [show nwF N p w i = i from if_pos (Or.inr h68)] at k | rw [show nwF N p w i = w from if_neg (fun q => q.elim h59 h68)] at k
               exact ih _ _ _ (by omega) (by omega) (by omega) (by omega) k)
          · refine wp_if_eq (tgt := 79) dX12_badPlace_71 rfl (fun _ => ?_) (fun q => absurd q (by decide))
            refine wp_iload_n dX12_badPlace_79 rfl ?_
            refine wp_istore_n (ls' := [_, _, _, _, _]) dX12_badPlace_80 (by decide) rfl rfl ?_
            refine wp_iinc (ls' := [_, _, _, _, _]) dX12_badPlace_81 (by decide) rfl rfl ⟨by omega, by omega⟩ rfl ?_
            refine wp_goto (tgt := 7) dX12_badPlace_84 rfl ?_
            first
            | exact ih _ _ _ (by omega) (by omega) hb hw k
            | (have hb1 : nbF N p b i = i ∨ nbF N p b i = b := by unfold nbF; split <;> simp
               have hw1 : nwF N p w i = i ∨ nwF N p w i = w := by unfold nwF; split <;> simp
               rw [bdL, if_neg h30] at k
               first | rw [show nbF N p b i = i from if_pos (Or.inl h35)] at k | rw [show nbF N p b i = i from if_pos (Or.inr h44)] at k | rw [show nbF N p b i = b from if_neg (fun q => q.elim h35 h44)] at k
               first | rw [show nwF N p w i = i from if_pos (Or.inl h59)] at k | rw [show nwF N p w i = i from if_pos (Or.inr h68)] at k | rw [show nwF N p w i = w from if_neg (fun q => q.elim h59 h68)] at k
               exact ih _ _ _ (by omega) (by omega) (by omega) (by omega) k)
      · refine wp_aload_n dX12_badPlace_38 rfl ?_
        refine wp_iload_n dX12_badPlace_39 rfl ?_
        refine wp_iload_n dX12_badPlace_40 rfl ?_
        refine wp_iload dX12_badPlace_41 rfl ?_
        refine wp_iconst dX12_badPlace_43 ?_
        refine wp_callV (as := [_, _, _, _]) (ls0 := [_, _, _, _, _]) (kc := 0) (ks := 0) (bc' := 0) (bs' := 0) dX12_badPlace_44 vX12_280 rfl rfl rfl (Nat.le_of_ble_eq_true rfl) (Nat.le_of_ble_eq_true rfl) (by omega) (by omega) ?_
        refine s_isLess hp hB (by omega) (by omega) (by omega) (fun h44 => ?_) (fun h44 => ?_)
        · refine wp_if_eq (tgt := 55) dX12_badPlace_47 rfl (fun q => absurd q (by decide)) (fun _ => ?_)
          refine wp_iload dX12_badPlace_50 rfl ?_
          refine wp_goto (tgt := 56) dX12_badPlace_52 rfl ?_
          refine wp_istore_n (ls' := [_, _, _, _, _]) dX12_badPlace_56 (by decide) rfl rfl ?_
          refine wp_iload_n dX12_badPlace_57 rfl ?_
          refine wp_iconst dX12_badPlace_58 ?_
          refine wp_icmp_eq (tgt := 74) dX12_badPlace_59 rfl (fun h59 => ?_) (fun h59 => ?_)
          · refine wp_iload dX12_badPlace_74 rfl ?_
            refine wp_goto (tgt := 80) dX12_badPlace_76 rfl ?_
            refine wp_istore_n (ls' := [_, _, _, _, _]) dX12_badPlace_80 (by decide) rfl rfl ?_
            refine wp_iinc (ls' := [_, _, _, _, _]) dX12_badPlace_81 (by decide) rfl rfl ⟨by omega, by omega⟩ rfl ?_
            refine wp_goto (tgt := 7) dX12_badPlace_84 rfl ?_
            first
            | exact ih _ _ _ (by omega) (by omega) hb hw k
            | (have hb1 : nbF N p b i = i ∨ nbF N p b i = b := by unfold nbF; split <;> simp
               have hw1 : nwF N p w i = i ∨ nwF N p w i = w := by unfold nwF; split <;> simp
               rw [bdL, if_neg h30] at k
               first | rw [show nbF N p b i = i from if_pos (Or.inl h35)] at k | rw [show nbF N p b i = i from if_pos (Or.inr h44)] at k | rw [show nbF N p b i = b from if_neg (fun q => q.elim h35 h44)] at k
               first | rw [show nwF N p w i = i from if_pos (Or.inl h59)] at k | rw [show nwF N p w i = i from if_pos (Or.inr h68)] at k | rw [show nwF N p w i = w from if_neg (fun q => q.elim h59 h68)] at k
               exact ih _ _ _ (by omega) (by omega) (by omega) (by omega) k)
          · refine wp_aload_n dX12_badPlace_62 rfl ?_
            refine wp_iload_n dX12_badPlace_63 rfl ?_
            refine wp_iload dX12_badPlace_64 rfl ?_
            refine wp_iload_n dX12_badPlace_66 rfl ?_
            refine wp_iconst dX12_badPlace_67 ?_
            refine wp_callV (as := [_, _, _, _]) (ls0 := [_, _, _, _, _]) (kc := 0) (ks := 0) (bc' := 0) (bs' := 0) dX12_badPlace_68 vX12_280 rfl rfl rfl (Nat.le_of_ble_eq_true rfl) (Nat.le_of_ble_eq_true rfl) (by omega) (by omega) ?_
            refine s_isLess hp hB (by omega) (by omega) (by omega) (fun h68 => ?_) (fun h68 => ?_)
            · refine wp_if_eq (tgt := 79) dX12_badPlace_71 rfl (fun q => absurd q (by decide)) (fun _ => ?_)
              refine wp_iload dX12_badPlace_74 rfl ?_
              refine wp_goto (tgt := 80) dX12_badPlace_76 rfl ?_
              refine wp_istore_n (ls' := [_, _, _, _, _]) dX12_badPlace_80 (by decide) rfl rfl ?_
              refine wp_iinc (ls' := [_, _, _, _, _]) dX12_badPlace_81 (by decide) rfl rfl ⟨by omega, by omega⟩ rfl ?_
              refine wp_goto (tgt := 7) dX12_badPlace_84 rfl ?_
              first
              | exact ih _ _ _ (by omega) (by omega) hb hw k
              | (have hb1 : nbF N p b i = i ∨ nbF N p b i = b := by unfold nbF; split <;> simp
                 have hw1 : nwF N p w i = i ∨ nwF N p w i = w := by unfold nwF; split <;> simp
                 rw [bdL, if_neg h30] at k
                 first | rw [show nbF N p b i = i from if_pos (Or.inl h35)] at k | rw [show nbF N p b i = i from if_pos (Or.inr h44)] at k | rw [show nbF N p b i = b from if_neg (fun q => q.elim h35 h44)] at k
                 first | rw [show nwF N p w i = i from if_pos (Or.inl h59)] at k | rw [show nwF N p w i = i from if_pos (Or.inr h68)] at k | rw [show nwF N p w i = w from if_neg (fun q => q.elim h59 h68)] at k
                 exact ih _ _ _ (by omega) (by omega) (by omega) (by omega) k)
            · refine wp_if_eq (tgt := 79) dX12_badPlace_71 rfl (fun _ => ?_) (fun q => absurd q (by decide))
              refine wp_iload_n dX12_badPlace_79 rfl ?_
              refine wp_istore_n (ls' := [_, _, _, _, _]) dX12_badPlace_80 (by decide) rfl rfl ?_
              refine wp_iinc (ls' := [_, _, _, _, _]) dX12_badPlace_81 (by decide) rfl rfl ⟨by omega, by omega⟩ rfl ?_
              refine wp_goto (tgt := 7) dX12_badPlace_84 rfl ?_
              first
              | exact ih _ _ _ (by omega) (by omega) hb hw k
              | (have hb1 : nbF N p b i = i ∨ nbF N p b i = b := by unfold nbF; split <;> simp
                 have hw1 : nwF N p w i = i ∨ nwF N p w i = w := by unfold nwF; split <;> simp
                 rw [bdL, if_neg h30] at k
                 first | rw [show nbF N p b i = i from if_pos (Or.inl h35)] at k | rw [show nbF N p b i = i from if_pos (Or.inr h44)] at k | rw [show nbF N p b i = b from if_neg (fun q => q.elim h35 h44)] at k
                 first | rw [show nwF N p w i = i from if_pos (Or.inl h59)] at k | rw [show nwF N p w i = i from if_pos (Or.inr h68)] at k | rw [show nwF N p w i = w from if_neg (fun q => q.elim h59 h68)] at k
                 exact ih _ _ _ (by omega) (by omega) (by omega) (by omega) k)
        · refine wp_if_eq (tgt := 55) dX12_badPlace_47 rfl (fun _ => ?_) (fun q => absurd q (by decide))
          refine wp_iload_n dX12_badPlace_55 rfl ?_
          refine wp_istore_n (ls' := [_, _, _, _, _]) dX12_badPlace_56 (by decide) rfl rfl ?_
          refine wp_iload_n dX12_badPlace_57 rfl ?_
          refine wp_iconst dX12_badPlace_58 ?_
          refine wp_icmp_eq (tgt := 74) dX12_badPlace_59 rfl (fun h59 => ?_) (fun h59 => ?_)
          · refine wp_iload dX12_badPlace_74 rfl ?_
            refine wp_goto (tgt := 80) dX12_badPlace_76 rfl ?_
            refine wp_istore_n (ls' := [_, _, _, _, _]) dX12_badPlace_80 (by decide) rfl rfl ?_
            refine wp_iinc (ls' := [_, _, _, _, _]) dX12_badPlace_81 (by decide) rfl rfl ⟨by omega, by omega⟩ rfl ?_
            refine wp_goto (tgt := 7) dX12_badPlace_84 rfl ?_
            first
            | exact ih _ _ _ (by omega) (by omega) hb hw k
            | (have hb1 : nbF N p b i = i ∨ nbF N p b i = b := by unfold nbF; split <;> simp
               have hw1 : nwF N p w i = i ∨ nwF N p w i = w := by unfold nwF; split <;> simp
               rw [bdL, if_neg h30] at k
               first | rw [show nbF N p b i = i from if_pos (Or.inl h35)] at k | rw [show nbF N p b i = i from if_pos (Or.inr h44)] at k | rw [show nbF N p b i = b from if_neg (fun q => q.elim h35 h44)] at k
               first | rw [show nwF N p w i = i from if_pos (Or.inl h59)] at k | rw [show nwF N p w i = i from if_pos (Or.inr h68)] at k | rw [show nwF N p w i = w from if_neg (fun q => q.elim h59 h68)] at k
               exact ih _ _ _ (by omega) (by omega) (by omega) (by omega) k)
          · refine wp_aload_n dX12_badPlace_62 rfl ?_
            refine wp_iload_n dX12_badPlace_63 rfl ?_
            refine wp_iload dX12_badPlace_64 rfl ?_
            refine wp_iload_n dX12_badPlace_66 rfl ?_
            refine wp_iconst dX12_badPlace_67 ?_
            refine wp_callV (as := [_, _, _, _]) (ls0 := [_, _, _, _, _]) (kc := 0) (ks := 0) (bc' := 0) (bs' := 0) dX12_badPlace_68 vX12_280 rfl rfl rfl (Nat.le_of_ble_eq_true rfl) (Nat.le_of_ble_eq_true rfl) (by omega) (by omega) ?_
            refine s_isLess hp hB (by omega) (by omega) (by omega) (fun h68 => ?_) (fun h68 => ?_)
            · refine wp_if_eq (tgt := 79) dX12_badPlace_71 rfl (fun q => absurd q (by decide)) (fun _ => ?_)
              refine wp_iload dX12_badPlace_74 rfl ?_
              refine wp_goto (tgt := 80) dX12_badPlace_76 rfl ?_
              refine wp_istore_n (ls' := [_, _, _, _, _]) dX12_badPlace_80 (by decide) rfl rfl ?_
              refine wp_iinc (ls' := [_, _, _, _, _]) dX12_badPlace_81 (by decide) rfl rfl ⟨by omega, by omega⟩ rfl ?_
              refine wp_goto (tgt := 7) dX12_badPlace_84 rfl ?_
              first
              | exact ih _ _ _ (by omega) (by omega) hb hw k
              | (have hb1 : nbF N p b i = i ∨ nbF N p b i = b := by unfold nbF; split <;> simp
                 have hw1 : nwF N p w i = i ∨ nwF N p w i = w := by unfold nwF; split <;> simp
                 rw [bdL, if_neg h30] at k
                 first | rw [show nbF N p b i = i from if_pos (Or.inl h35)] at k | rw [show nbF N p b i = i from if_pos (Or.inr h44)] at k | rw [show nbF N p b i = b from if_neg (fun q => q.elim h35 h44)] at k
                 first | rw [show nwF N p w i = i from if_pos (Or.inl h59)] at k | rw [show nwF N p w i = i from if_pos (Or.inr h68)] at k | rw [show nwF N p w i = w from if_neg (fun q => q.elim h59 h68)] at k
                 exact ih _ _ _ (by omega) (by omega) (by omega) (by omega) k)
            · refine wp_if_eq (tgt := 79) dX12_badPlace_71 rfl (fun _ => ?_) (fun q => absurd q (by decide))
              refine wp_iload_n dX12_badPlace_79 rfl ?_
              refine wp_istore_n (ls' := [_, _, _, _, _]) dX12_badPlace_80 (by decide) rfl rfl ?_
              refine wp_iinc (ls' := [_, _, _, _, _]) dX12_badPlace_81 (by decide) rfl rfl ⟨by omega, by omega⟩ rfl ?_
              refine wp_goto (tgt := 7) dX12_badPlace_84 rfl ?_
              first
              | exact ih _ _ _ (by omega) (by omega) hb hw k
              | (have hb1 : nbF N p b i = i ∨ nbF N p b i = b := by unfold nbF; split <;> simp
                 have hw1 : nwF N p w i = i ∨ nwF N p w i = w := by unfold nwF; split <;> simp
                 rw [bdL, if_neg h30] at k
                 first | rw [show nbF N p b i = i from if_pos (Or.inl h35)] at k | rw [show nbF N p b i = i from if_pos (Or.inr h44)] at k | rw [show nbF N p b i = b from if_neg (fun q => q.elim h35 h44)] at k
                 first | rw [show nwF N p w i = i from if_pos (Or.inl h59)] at k | rw [show nwF N p w i = i from if_pos (Or.inr h68)] at k | rw [show nwF N p w i = w from if_neg (fun q => q.elim h59 h68)] at k
                 exact ih _ _ _ (by omega) (by omega) (by omega) (by omega) k)
theorem bdL_r {p : Int} (m : Nat) : ∀ (i b w : Int), 0 ≤ i → (b = -1 ∨ (0 ≤ b ∧ b < i)) → (w = -1 ∨ (0 ≤ w ∧ w < i)) → ((bdL N p m i b w).2 = -1 ∨ (0 ≤ (bdL N p m i b w).2 ∧ (bdL N p m i b w).2 < i + m)) := by
  induction m with
  | zero => intro i b w h0 hb hw; rw [bdL]; simp; omega
  | succ m ih =>
    intro i b w h0 hb hw
    rw [bdL]
    split
    · have := ih (i + 1) b w (by omega) (by omega) (by omega); omega
    · have hb1 : nbF N p b i = i ∨ nbF N p b i = b := by unfold nbF; split <;> simp
      have hw1 : nwF N p w i = i ∨ nwF N p w i = w := by unfold nwF; split <;> simp
      have := ih (i + 1) (nbF N p b i) (nwF N p w i) (by omega) (by omega) (by omega); omega
theorem bad_r {p : Int} (hm : 0 ≤ N (61 * p + 18)) : bad N p = -1 ∨ (0 ≤ bad N p ∧ bad N p < N (61 * p + 18)) := by
  have := bdL_r (N := N) (p := p) (N (61 * p + 18)).toNat 0 (-1) (-1) (by omega) (by omega) (by omega)
  unfold bad bdR
  split
  · omega
  · left; rfl
theorem s_badPlace {p : Int} (hp : 0 ≤ p ∧ p < 6) (hB : Bok (iv 5 0) (iv 5 1) N) (k : R (some (aI (bad N p))) SHR (ST iv F N G O T S) lw RVR) : wp (d + 2) mX12_badPlace 0 [some (aR 0), some (aI p), none, none, none] [] SHR (ST iv F N G O T S) lw RVR 0 0 R := by
  have h18 := hB.v18 hp
  refine wp_iconst dX12_badPlace_0 ?_
  refine wp_istore_n (ls' := [_, _, _, _, _]) dX12_badPlace_1 (by decide) rfl rfl ?_
  refine wp_iconst dX12_badPlace_2 ?_
  refine wp_istore_n (ls' := [_, _, _, _, _]) dX12_badPlace_3 (by decide) rfl rfl ?_
  refine wp_iconst dX12_badPlace_4 ?_
  refine wp_istore (ls' := [_, _, _, _, _]) dX12_badPlace_5 (by decide) rfl rfl ?_
  exact l_bad hp hB (N (61 * p + 18)).toNat 0 (-1) (-1) (by omega) (by omega) (by omega) (by omega) k
noncomputable def wn1 (N : Int → Int) (p : Int) : Int → Int := up (up N (61 * p + 59) 0) (61 * p + 60) 0
noncomputable def wnF (iv : aF) (F N : Int → Int) (p : Int) : Int → Int :=
  if N 367 = 0 ∨ ¬ (N (61 * p + 28) = 0 ∧ N (61 * p + 43) = 0) then wn1 N p else
  if 3 * N (61 * p + 60) < 4 * N (61 * p + 59) ∨ (N (61 * p + 18) = 0 ∧ 0 < N (61 * p + 57)) then begF iv F (wn1 N p) p 0 1 else
  if 4 * N (61 * p + 59) < N (61 * p + 60) ∧ 2 ≤ N (61 * p + 18) then begF iv F (wn1 N p) p 1 1 else
  if bad (wn1 N p) p = -1 then wn1 N p else begF iv F (wn1 N p) p 2 (bad (wn1 N p) p)
noncomputable def wnL (iv : aF) (F : Int → Int) : Nat → Int → (Int → Int) → (Int → Int)
  | 0, _, N => N
  | m + 1, p, N => wnL iv F m (p + 1) (wnF iv F N p)
theorem wn1_n {N : Int → Int} {p j : Int} (h : ¬ (j = 61 * p + 59 ∨ j = 61 * p + 60)) : wn1 N p j = N j := by unfold wn1; rw [up_n (by omega), up_n (by omega)]
theorem s_windowOf {p : Int} (hp : 0 ≤ p ∧ p < 6) (hP : Prm iv F) (hB : Bok (iv 5 0) (iv 5 1) N) (hfr : 0 ≤ N 368 ∧ N 368 ≤ 20000) (hU : N (61 * p + 59) ≤ 100000 ∧ N (61 * p + 60) ≤ 100000) (k : ∀ O', R none SHR (ST iv F (wnF iv F N p) G O' T S) lw RVR) : wp (d + 6) mX12_windowOf 0 [some (aR 0), some (aI p), none, none, none] [] SHR (ST iv F N G O T S) lw RVR 0 0 R := by
  have u1 := hB p 59 hp.1 hp.2 (by omega) (by omega)
  have u2 := hB p 60 hp.1 hp.2 (by omega) (by omega)
  rw [k59] at u1
  rw [k60] at u2
  have hB1 : Bok (iv 5 0) (iv 5 1) (wn1 N p) := (hB.bup (k := 59) (by omega) (by rw [k59]; omega)).bup (by omega) (by rw [k60]; omega)
  have h18 := hB.v18 hp
  have e18 : wn1 N p (61 * p + 18) = N (61 * p + 18) := wn1_n (by omega)
  have e28 : wn1 N p (61 * p + 28) = N (61 * p + 28) := wn1_n (by omega)
  have e43 : wn1 N p (61 * p + 43) = N (61 * p + 43) := wn1_n (by omega)
  have e57 : wn1 N p (61 * p + 57) = N (61 * p + 57) := wn1_n (by omega)
  have e367 : wn1 N p 367 = N 367 := wn1_n (by omega)
  have hbr := bad_r (N := wn1 N p) (p := p) (by rw [e18]; exact h18.1)
  refine wp_aload_n dX12_windowOf_0 rfl ?_
  refine wp_iload_n dX12_windowOf_1 rfl ?_
  refine wp_bipush dX12_windowOf_2 ?_
  refine wp_callV (as := [_, _]) (ls0 := [_, _, _]) (kc := 0) (ks := 0) (bc' := 0) (bs' := 0) dX12_windowOf_4 vX12_161 rfl rfl rfl (Nat.le_of_ble_eq_true rfl) (Nat.le_of_ble_eq_true rfl) (by omega) (by omega) ?_
  refine s_of (by omega) (by omega) ?_
  refine wp_istore_n (ls' := [_, _, _, _, _]) dX12_windowOf_7 (by decide) rfl rfl ?_
  refine wp_aload_n dX12_windowOf_8 rfl ?_
  refine wp_iload_n dX12_windowOf_9 rfl ?_
  refine wp_bipush dX12_windowOf_10 ?_
  refine wp_callV (as := [_, _]) (ls0 := [_, _, _]) (kc := 0) (ks := 0) (bc' := 0) (bs' := 0) dX12_windowOf_12 vX12_161 rfl rfl rfl (Nat.le_of_ble_eq_true rfl) (Nat.le_of_ble_eq_true rfl) (by omega) (by omega) ?_
  refine s_of (by omega) (by omega) ?_
  refine wp_istore_n (ls' := [_, _, _, _, _]) dX12_windowOf_15 (by decide) rfl rfl ?_
  refine wp_aload_n dX12_windowOf_16 rfl ?_
  refine wp_iload_n dX12_windowOf_17 rfl ?_
  refine wp_bipush dX12_windowOf_18 ?_
  refine wp_iconst dX12_windowOf_20 ?_
  refine wp_callV (as := [_, _, _]) (ls0 := [_, _, _, _]) (kc := 0) (ks := 0) (bc' := 0) (bs' := 0) dX12_windowOf_21 vX12_141 rfl rfl rfl (Nat.le_of_ble_eq_true rfl) (Nat.le_of_ble_eq_true rfl) (by omega) (by omega) ?_
  refine s_set (by omega) (by omega) ?_
  refine wp_aload_n dX12_windowOf_24 rfl ?_
  refine wp_iload_n dX12_windowOf_25 rfl ?_
  refine wp_bipush dX12_windowOf_26 ?_
  refine wp_iconst dX12_windowOf_28 ?_
  refine wp_callV (as := [_, _, _]) (ls0 := [_, _, _, _]) (kc := 0) (ks := 0) (bc' := 0) (bs' := 0) dX12_windowOf_29 vX12_141 rfl rfl rfl (Nat.le_of_ble_eq_true rfl) (Nat.le_of_ble_eq_true rfl) (by omega) (by omega) ?_
  refine s_set (by omega) (by omega) ?_
  rw [show up (up N (61 * p + 59) 0) (61 * p + 60) 0 = wn1 N p from rfl]
  refine wp_aload_n dX12_windowOf_32 rfl ?_
  refine wp_getR rfl dX12_windowOf_33 fX12_31 rfl ?_
  refine wp_sipush dX12_windowOf_36 ?_
  refine wp_iald dX12_windowOf_39 rfl (by omega) (by omega) ?_
  try simp only [ST0, ST5, ST6, ST7, ST8, ST10, ST11, ST12, ST13]
  rw [e367]
  refine wp_if_eq (tgt := 51) dX12_windowOf_40 rfl (fun h40 => ?_) (fun h40 => ?_)
  · refine wp_return dX12_windowOf_51 rfl ?_
    first
    | (have hk := k O'
       rw [wnF] at hk
       first
       | (rw [if_pos (Or.inl h40)] at hk; exact hk)
       | (rw [if_pos (Or.inr h45)] at hk; exact hk)
       | (rw [if_neg (fun q => q.elim h40 (fun z => z h45))] at hk
          first
          | (rw [if_pos (by omega)] at hk; exact hk)
          | (rw [if_neg (by omega)] at hk
             first
             | (rw [if_pos (by omega)] at hk; exact hk)
             | (rw [if_neg (by omega)] at hk
                first
                | (rw [if_pos h129] at hk; exact hk)
                | (rw [if_neg h129] at hk; exact hk)))))
    | (have hk := k O
       rw [wnF] at hk
       first
       | (rw [if_pos (Or.inl h40)] at hk; exact hk)
       | (rw [if_pos (Or.inr h45)] at hk; exact hk)
       | (rw [if_neg (fun q => q.elim h40 (fun z => z h45))] at hk
          first
          | (rw [if_pos (by omega)] at hk; exact hk)
          | (rw [if_neg (by omega)] at hk
             first
             | (rw [if_pos (by omega)] at hk; exact hk)
             | (rw [if_neg (by omega)] at hk
                first
                | (rw [if_pos h129] at hk; exact hk)
                | (rw [if_neg h129] at hk; exact hk)))))
  · refine wp_aload_n dX12_windowOf_43 rfl ?_
    refine wp_iload_n dX12_windowOf_44 rfl ?_
    refine wp_callV (as := [_]) (ls0 := [_, _]) (kc := 0) (ks := 0) (bc' := 0) (bs' := 0) dX12_windowOf_45 vX12_188 rfl rfl rfl (Nat.le_of_ble_eq_true rfl) (Nat.le_of_ble_eq_true rfl) (by omega) (by omega) ?_
    refine s_canDeal hp (fun h45 => ?_) (fun h45 => ?_)
    all_goals rw [e28, e43] at h45
    · refine wp_if_ne (tgt := 52) dX12_windowOf_48 rfl (fun _ => ?_) (fun q => absurd q (by decide))
      refine wp_aload_n dX12_windowOf_52 rfl ?_
      refine wp_iload_n dX12_windowOf_53 rfl ?_
      refine wp_callV (as := [_]) (ls0 := [_, _, _, _, _]) (kc := 0) (ks := 0) (bc' := 0) (bs' := 0) dX12_windowOf_54 vX12_284 rfl rfl rfl (Nat.le_of_ble_eq_true rfl) (Nat.le_of_ble_eq_true rfl) (by omega) (by omega) ?_
      refine s_badPlace hp hB1 ?_
      refine wp_istore (ls' := [_, _, _, _, _]) dX12_windowOf_57 (by decide) rfl rfl ?_
      refine wp_iconst dX12_windowOf_59 ?_
      refine wp_iload_n dX12_windowOf_60 rfl ?_
      refine wp_imul dX12_windowOf_61 ⟨by omega, by omega⟩ ?_
      refine wp_iconst dX12_windowOf_62 ?_
      refine wp_iload_n dX12_windowOf_63 rfl ?_
      refine wp_imul dX12_windowOf_64 ⟨by omega, by omega⟩ ?_
      refine wp_icmp_gt (tgt := 88) dX12_windowOf_65 rfl (fun h65 => ?_) (fun h65 => ?_)
      · refine wp_aload_n dX12_windowOf_88 rfl ?_
        refine wp_iload_n dX12_windowOf_89 rfl ?_
        refine wp_iconst dX12_windowOf_90 ?_
        refine wp_iconst dX12_windowOf_91 ?_
        refine wp_callV (as := [_, _, _]) (ls0 := [_, _, _, _, _, _, _]) (kc := 0) (ks := 0) (bc' := 0) (bs' := 0) dX12_windowOf_92 vX12_253 rfl rfl rfl (Nat.le_of_ble_eq_true rfl) (Nat.le_of_ble_eq_true rfl) (by omega) (by omega) ?_
        refine s_begin hp hP hB1 (by omega) (by omega) (by omega) (fun O' => ?_)
        refine wp_goto (tgt := 140) dX12_windowOf_95 rfl ?_
        refine wp_return dX12_windowOf_140 rfl ?_
        first
        | (have hk := k O'
           rw [wnF] at hk
           first
           | (rw [if_pos (Or.inl h40)] at hk; exact hk)
           | (rw [if_pos (Or.inr h45)] at hk; exact hk)
           | (rw [if_neg (fun q => q.elim h40 (fun z => z h45))] at hk
              first
              | (rw [if_pos (by omega)] at hk; exact hk)
              | (rw [if_neg (by omega)] at hk
                 first
                 | (rw [if_pos (by omega)] at hk; exact hk)
                 | (rw [if_neg (by omega)] at hk
                    first
                    | (rw [if_pos h129] at hk; exact hk)
                    | (rw [if_neg h129] at hk; exact hk)))))
        | (have hk := k O
           rw [wnF] at hk
           first
           | (rw [if_pos (Or.inl h40)] at hk; exact hk)
           | (rw [if_pos (Or.inr h45)] at hk; exact hk)
           | (rw [if_neg (fun q => q.elim h40 (fun z => z h45))] at hk
              first
              | (rw [if_pos (by omega)] at hk; exact hk)
              | (rw [if_neg (by omega)] at hk
                 first
                 | (rw [if_pos (by omega)] at hk; exact hk)
                 | (rw [if_neg (by omega)] at hk
                    first
                    | (rw [if_pos h129] at hk; exact hk)
                    | (rw [if_neg h129] at hk; exact hk)))))
      · refine wp_aload_n dX12_windowOf_68 rfl ?_
        refine wp_iload_n dX12_windowOf_69 rfl ?_
        refine wp_bipush dX12_windowOf_70 ?_
        refine wp_callV (as := [_, _]) (ls0 := [_, _, _]) (kc := 0) (ks := 0) (bc' := 0) (bs' := 0) dX12_windowOf_72 vX12_161 rfl rfl rfl (Nat.le_of_ble_eq_true rfl) (Nat.le_of_ble_eq_true rfl) (by omega) (by omega) ?_
        refine s_of (by omega) (by omega) ?_
        rw [e18]
        refine wp_if_ne (tgt := 98) dX12_windowOf_75 rfl (fun h75 => ?_) (fun h75 => ?_)
        · refine wp_iconst dX12_windowOf_98 ?_
          refine wp_iload_n dX12_windowOf_99 rfl ?_
          refine wp_imul dX12_windowOf_100 ⟨by omega, by omega⟩ ?_
          refine wp_iload_n dX12_windowOf_101 rfl ?_
          refine wp_icmp_ge (tgt := 126) dX12_windowOf_102 rfl (fun h102 => ?_) (fun h102 => ?_)
          · refine wp_iload dX12_windowOf_126 rfl ?_
            refine wp_iconst dX12_windowOf_128 ?_
            refine wp_icmp_eq (tgt := 140) dX12_windowOf_129 rfl (fun h129 => ?_) (fun h129 => ?_)
            · refine wp_return dX12_windowOf_140 rfl ?_
              first
              | (have hk := k O'
                 rw [wnF] at hk
                 first
                 | (rw [if_pos (Or.inl h40)] at hk; exact hk)
                 | (rw [if_pos (Or.inr h45)] at hk; exact hk)
                 | (rw [if_neg (fun q => q.elim h40 (fun z => z h45))] at hk
                    first
                    | (rw [if_pos (by omega)] at hk; exact hk)
                    | (rw [if_neg (by omega)] at hk
                       first
                       | (rw [if_pos (by omega)] at hk; exact hk)
                       | (rw [if_neg (by omega)] at hk
                          first
                          | (rw [if_pos h129] at hk; exact hk)
                          | (rw [if_neg h129] at hk; exact hk)))))
              | (have hk := k O
                 rw [wnF] at hk
                 first
                 | (rw [if_pos (Or.inl h40)] at hk; exact hk)
                 | (rw [if_pos (Or.inr h45)] at hk; exact hk)
                 | (rw [if_neg (fun q => q.elim h40 (fun z => z h45))] at hk
                    first
                    | (rw [if_pos (by omega)] at hk; exact hk)
                    | (rw [if_neg (by omega)] at hk
                       first
                       | (rw [if_pos (by omega)] at hk; exact hk)
                       | (rw [if_neg (by omega)] at hk
                          first
                          | (rw [if_pos h129] at hk; exact hk)
                          | (rw [if_neg h129] at hk; exact hk)))))
            · refine wp_aload_n dX12_windowOf_132 rfl ?_
              refine wp_iload_n dX12_windowOf_133 rfl ?_
              refine wp_iconst dX12_windowOf_134 ?_
              refine wp_iload dX12_windowOf_135 rfl ?_
              refine wp_callV (as := [_, _, _]) (ls0 := [_, _, _, _, _, _, _]) (kc := 0) (ks := 0) (bc' := 0) (bs' := 0) dX12_windowOf_137 vX12_253 rfl rfl rfl (Nat.le_of_ble_eq_true rfl) (Nat.le_of_ble_eq_true rfl) (by omega) (by omega) ?_
              refine s_begin hp hP hB1 (by omega) (by omega) (by omega) (fun O' => ?_)
              refine wp_return dX12_windowOf_140 rfl ?_
              first
              | (have hk := k O'
                 rw [wnF] at hk
                 first
                 | (rw [if_pos (Or.inl h40)] at hk; exact hk)
                 | (rw [if_pos (Or.inr h45)] at hk; exact hk)
                 | (rw [if_neg (fun q => q.elim h40 (fun z => z h45))] at hk
                    first
                    | (rw [if_pos (by omega)] at hk; exact hk)
                    | (rw [if_neg (by omega)] at hk
                       first
                       | (rw [if_pos (by omega)] at hk; exact hk)
                       | (rw [if_neg (by omega)] at hk
                          first
                          | (rw [if_pos h129] at hk; exact hk)
                          | (rw [if_neg h129] at hk; exact hk)))))
              | (have hk := k O
                 rw [wnF] at hk
                 first
                 | (rw [if_pos (Or.inl h40)] at hk; exact hk)
                 | (rw [if_pos (Or.inr h45)] at hk; exact hk)
                 | (rw [if_neg (fun q => q.elim h40 (fun z => z h45))] at hk
                    first
                    | (rw [if_pos (by omega)] at hk; exact hk)
                    | (rw [if_neg (by omega)] at hk
                       first
                       | (rw [if_pos (by omega)] at hk; exact hk)
                       | (rw [if_neg (by omega)] at hk
                          first
                          | (rw [if_pos h129] at hk; exact hk)
                          | (rw [if_neg h129] at hk; exact hk)))))
          · refine wp_aload_n dX12_windowOf_105 rfl ?_
            refine wp_iload_n dX12_windowOf_106 rfl ?_
            refine wp_bipush dX12_windowOf_107 ?_
            refine wp_callV (as := [_, _]) (ls0 := [_, _, _]) (kc := 0) (ks := 0) (bc' := 0) (bs' := 0) dX12_windowOf_109 vX12_161 rfl rfl rfl (Nat.le_of_ble_eq_true rfl) (Nat.le_of_ble_eq_true rfl) (by omega) (by omega) ?_
            refine s_of (by omega) (by omega) ?_
            rw [e18]
            refine wp_iconst dX12_windowOf_112 ?_
            refine wp_icmp_lt (tgt := 126) dX12_windowOf_113 rfl (fun h113 => ?_) (fun h113 => ?_)
            · refine wp_iload dX12_windowOf_126 rfl ?_
              refine wp_iconst dX12_windowOf_128 ?_
              refine wp_icmp_eq (tgt := 140) dX12_windowOf_129 rfl (fun h129 => ?_) (fun h129 => ?_)
              · refine wp_return dX12_windowOf_140 rfl ?_
                first
                | (have hk := k O'
                   rw [wnF] at hk
                   first
                   | (rw [if_pos (Or.inl h40)] at hk; exact hk)
                   | (rw [if_pos (Or.inr h45)] at hk; exact hk)
                   | (rw [if_neg (fun q => q.elim h40 (fun z => z h45))] at hk
                      first
                      | (rw [if_pos (by omega)] at hk; exact hk)
                      | (rw [if_neg (by omega)] at hk
                         first
                         | (rw [if_pos (by omega)] at hk; exact hk)
                         | (rw [if_neg (by omega)] at hk
                            first
                            | (rw [if_pos h129] at hk; exact hk)
                            | (rw [if_neg h129] at hk; exact hk)))))
                | (have hk := k O
                   rw [wnF] at hk
                   first
                   | (rw [if_pos (Or.inl h40)] at hk; exact hk)
                   | (rw [if_pos (Or.inr h45)] at hk; exact hk)
                   | (rw [if_neg (fun q => q.elim h40 (fun z => z h45))] at hk
                      first
                      | (rw [if_pos (by omega)] at hk; exact hk)
                      | (rw [if_neg (by omega)] at hk
                         first
                         | (rw [if_pos (by omega)] at hk; exact hk)
                         | (rw [if_neg (by omega)] at hk
                            first
                            | (rw [if_pos h129] at hk; exact hk)
                            | (rw [if_neg h129] at hk; exact hk)))))
              · refine wp_aload_n dX12_windowOf_132 rfl ?_
                refine wp_iload_n dX12_windowOf_133 rfl ?_
                refine wp_iconst dX12_windowOf_134 ?_
                refine wp_iload dX12_windowOf_135 rfl ?_
                refine wp_callV (as := [_, _, _]) (ls0 := [_, _, _, _, _, _, _]) (kc := 0) (ks := 0) (bc' := 0) (bs' := 0) dX12_windowOf_137 vX12_253 rfl rfl rfl (Nat.le_of_ble_eq_true rfl) (Nat.le_of_ble_eq_true rfl) (by omega) (by omega) ?_
                refine s_begin hp hP hB1 (by omega) (by omega) (by omega) (fun O' => ?_)
                refine wp_return dX12_windowOf_140 rfl ?_
                first
                | (have hk := k O'
                   rw [wnF] at hk
                   first
                   | (rw [if_pos (Or.inl h40)] at hk; exact hk)
                   | (rw [if_pos (Or.inr h45)] at hk; exact hk)
                   | (rw [if_neg (fun q => q.elim h40 (fun z => z h45))] at hk
                      first
                      | (rw [if_pos (by omega)] at hk; exact hk)
                      | (rw [if_neg (by omega)] at hk
                         first
                         | (rw [if_pos (by omega)] at hk; exact hk)
                         | (rw [if_neg (by omega)] at hk
                            first
                            | (rw [if_pos h129] at hk; exact hk)
                            | (rw [if_neg h129] at hk; exact hk)))))
                | (have hk := k O
                   rw [wnF] at hk
                   first
                   | (rw [if_pos (Or.inl h40)] at hk; exact hk)
                   | (rw [if_pos (Or.inr h45)] at hk; exact hk)
                   | (rw [if_neg (fun q => q.elim h40 (fun z => z h45))] at hk
                      first
                      | (rw [if_pos (by omega)] at hk; exact hk)
                      | (rw [if_neg (by omega)] at hk
                         first
                         | (rw [if_pos (by omega)] at hk; exact hk)
                         | (rw [if_neg (by omega)] at hk
                            first
                            | (rw [if_pos h129] at hk; exact hk)
                            | (rw [if_neg h129] at hk; exact hk)))))
            · refine wp_aload_n dX12_windowOf_116 rfl ?_
              refine wp_iload_n dX12_windowOf_117 rfl ?_
              refine wp_iconst dX12_windowOf_118 ?_
              refine wp_iconst dX12_windowOf_119 ?_
              refine wp_callV (as := [_, _, _]) (ls0 := [_, _, _, _, _, _, _]) (kc := 0) (ks := 0) (bc' := 0) (bs' := 0) dX12_windowOf_120 vX12_253 rfl rfl rfl (Nat.le_of_ble_eq_true rfl) (Nat.le_of_ble_eq_true rfl) (by omega) (by omega) ?_
              refine s_begin hp hP hB1 (by omega) (by omega) (by omega) (fun O' => ?_)
              refine wp_goto (tgt := 140) dX12_windowOf_123 rfl ?_
              refine wp_return dX12_windowOf_140 rfl ?_
              first
              | (have hk := k O'
                 rw [wnF] at hk
                 first
                 | (rw [if_pos (Or.inl h40)] at hk; exact hk)
                 | (rw [if_pos (Or.inr h45)] at hk; exact hk)
                 | (rw [if_neg (fun q => q.elim h40 (fun z => z h45))] at hk
                    first
                    | (rw [if_pos (by omega)] at hk; exact hk)
                    | (rw [if_neg (by omega)] at hk
                       first
                       | (rw [if_pos (by omega)] at hk; exact hk)
                       | (rw [if_neg (by omega)] at hk
                          first
                          | (rw [if_pos h129] at hk; exact hk)
                          | (rw [if_neg h129] at hk; exact hk)))))
              | (have hk := k O
                 rw [wnF] at hk
                 first
                 | (rw [if_pos (Or.inl h40)] at hk; exact hk)
                 | (rw [if_pos (Or.inr h45)] at hk; exact hk)
                 | (rw [if_neg (fun q => q.elim h40 (fun z => z h45))] at hk
                    first
                    | (rw [if_pos (by omega)] at hk; exact hk)
                    | (rw [if_neg (by omega)] at hk
                       first
                       | (rw [if_pos (by omega)] at hk; exact hk)
                       | (rw [if_neg (by omega)] at hk
                          first
                          | (rw [if_pos h129] at hk; exact hk)
                          | (rw [if_neg h129] at hk; exact hk)))))
        · refine wp_aload_n dX12_windowOf_78 rfl ?_
          refine wp_iload_n dX12_windowOf_79 rfl ?_
          refine wp_bipush dX12_windowOf_80 ?_
          refine wp_callV (as := [_, _]) (ls0 := [_, _, _]) (kc := 0) (ks := 0) (bc' := 0) (bs' := 0) dX12_windowOf_82 vX12_161 rfl rfl rfl (Nat.le_of_ble_eq_true rfl) (Nat.le_of_ble_eq_true rfl) (by omega) (by omega) ?_
          refine s_of (by omega) (by omega) ?_
          rw [e57]
          refine wp_if_le (tgt := 98) dX12_windowOf_85 rfl (fun h85 => ?_) (fun h85 => ?_)
          · refine wp_iconst dX12_windowOf_98 ?_
            refine wp_iload_n dX12_windowOf_99 rfl ?_
            refine wp_imul dX12_windowOf_100 ⟨by omega, by omega⟩ ?_
            refine wp_iload_n dX12_windowOf_101 rfl ?_
            refine wp_icmp_ge (tgt := 126) dX12_windowOf_102 rfl (fun h102 => ?_) (fun h102 => ?_)
            · refine wp_iload dX12_windowOf_126 rfl ?_
              refine wp_iconst dX12_windowOf_128 ?_
              refine wp_icmp_eq (tgt := 140) dX12_windowOf_129 rfl (fun h129 => ?_) (fun h129 => ?_)
              · refine wp_return dX12_windowOf_140 rfl ?_
                first
                | (have hk := k O'
                   rw [wnF] at hk
                   first
                   | (rw [if_pos (Or.inl h40)] at hk; exact hk)
                   | (rw [if_pos (Or.inr h45)] at hk; exact hk)
                   | (rw [if_neg (fun q => q.elim h40 (fun z => z h45))] at hk
                      first
                      | (rw [if_pos (by omega)] at hk; exact hk)
                      | (rw [if_neg (by omega)] at hk
                         first
                         | (rw [if_pos (by omega)] at hk; exact hk)
                         | (rw [if_neg (by omega)] at hk
                            first
                            | (rw [if_pos h129] at hk; exact hk)
                            | (rw [if_neg h129] at hk; exact hk)))))
                | (have hk := k O
                   rw [wnF] at hk
                   first
                   | (rw [if_pos (Or.inl h40)] at hk; exact hk)
                   | (rw [if_pos (Or.inr h45)] at hk; exact hk)
                   | (rw [if_neg (fun q => q.elim h40 (fun z => z h45))] at hk
                      first
                      | (rw [if_pos (by omega)] at hk; exact hk)
                      | (rw [if_neg (by omega)] at hk
                         first
                         | (rw [if_pos (by omega)] at hk; exact hk)
                         | (rw [if_neg (by omega)] at hk
                            first
                            | (rw [if_pos h129] at hk; exact hk)
                            | (rw [if_neg h129] at hk; exact hk)))))
              · refine wp_aload_n dX12_windowOf_132 rfl ?_
                refine wp_iload_n dX12_windowOf_133 rfl ?_
                refine wp_iconst dX12_windowOf_134 ?_
                refine wp_iload dX12_windowOf_135 rfl ?_
                refine wp_callV (as := [_, _, _]) (ls0 := [_, _, _, _, _, _, _]) (kc := 0) (ks := 0) (bc' := 0) (bs' := 0) dX12_windowOf_137 vX12_253 rfl rfl rfl (Nat.le_of_ble_eq_true rfl) (Nat.le_of_ble_eq_true rfl) (by omega) (by omega) ?_
                refine s_begin hp hP hB1 (by omega) (by omega) (by omega) (fun O' => ?_)
                refine wp_return dX12_windowOf_140 rfl ?_
                first
                | (have hk := k O'
                   rw [wnF] at hk
                   first
                   | (rw [if_pos (Or.inl h40)] at hk; exact hk)
                   | (rw [if_pos (Or.inr h45)] at hk; exact hk)
                   | (rw [if_neg (fun q => q.elim h40 (fun z => z h45))] at hk
                      first
                      | (rw [if_pos (by omega)] at hk; exact hk)
                      | (rw [if_neg (by omega)] at hk
                         first
                         | (rw [if_pos (by omega)] at hk; exact hk)
                         | (rw [if_neg (by omega)] at hk
                            first
                            | (rw [if_pos h129] at hk; exact hk)
                            | (rw [if_neg h129] at hk; exact hk)))))
                | (have hk := k O
                   rw [wnF] at hk
                   first
                   | (rw [if_pos (Or.inl h40)] at hk; exact hk)
                   | (rw [if_pos (Or.inr h45)] at hk; exact hk)
                   | (rw [if_neg (fun q => q.elim h40 (fun z => z h45))] at hk
                      first
                      | (rw [if_pos (by omega)] at hk; exact hk)
                      | (rw [if_neg (by omega)] at hk
                         first
                         | (rw [if_pos (by omega)] at hk; exact hk)
                         | (rw [if_neg (by omega)] at hk
                            first
                            | (rw [if_pos h129] at hk; exact hk)
                            | (rw [if_neg h129] at hk; exact hk)))))
            · refine wp_aload_n dX12_windowOf_105 rfl ?_
              refine wp_iload_n dX12_windowOf_106 rfl ?_
              refine wp_bipush dX12_windowOf_107 ?_
              refine wp_callV (as := [_, _]) (ls0 := [_, _, _]) (kc := 0) (ks := 0) (bc' := 0) (bs' := 0) dX12_windowOf_109 vX12_161 rfl rfl rfl (Nat.le_of_ble_eq_true rfl) (Nat.le_of_ble_eq_true rfl) (by omega) (by omega) ?_
              refine s_of (by omega) (by omega) ?_
              rw [e18]
              refine wp_iconst dX12_windowOf_112 ?_
              refine wp_icmp_lt (tgt := 126) dX12_windowOf_113 rfl (fun h113 => ?_) (fun h113 => ?_)
              · refine wp_iload dX12_windowOf_126 rfl ?_
                refine wp_iconst dX12_windowOf_128 ?_
                refine wp_icmp_eq (tgt := 140) dX12_windowOf_129 rfl (fun h129 => ?_) (fun h129 => ?_)
                · refine wp_return dX12_windowOf_140 rfl ?_
                  first
                  | (have hk := k O'
                     rw [wnF] at hk
                     first
                     | (rw [if_pos (Or.inl h40)] at hk; exact hk)
                     | (rw [if_pos (Or.inr h45)] at hk; exact hk)
                     | (rw [if_neg (fun q => q.elim h40 (fun z => z h45))] at hk
                        first
                        | (rw [if_pos (by omega)] at hk; exact hk)
                        | (rw [if_neg (by omega)] at hk
                           first
                           | (rw [if_pos (by omega)] at hk; exact hk)
                           | (rw [if_neg (by omega)] at hk
                              first
                              | (rw [if_pos h129] at hk; exact hk)
                              | (rw [if_neg h129] at hk; exact hk)))))
                  | (have hk := k O
                     rw [wnF] at hk
                     first
                     | (rw [if_pos (Or.inl h40)] at hk; exact hk)
                     | (rw [if_pos (Or.inr h45)] at hk; exact hk)
                     | (rw [if_neg (fun q => q.elim h40 (fun z => z h45))] at hk
                        first
                        | (rw [if_pos (by omega)] at hk; exact hk)
                        | (rw [if_neg (by omega)] at hk
                           first
                           | (rw [if_pos (by omega)] at hk; exact hk)
                           | (rw [if_neg (by omega)] at hk
                              first
                              | (rw [if_pos h129] at hk; exact hk)
                              | (rw [if_neg h129] at hk; exact hk)))))
                · refine wp_aload_n dX12_windowOf_132 rfl ?_
                  refine wp_iload_n dX12_windowOf_133 rfl ?_
                  refine wp_iconst dX12_windowOf_134 ?_
                  refine wp_iload dX12_windowOf_135 rfl ?_
                  refine wp_callV (as := [_, _, _]) (ls0 := [_, _, _, _, _, _, _]) (kc := 0) (ks := 0) (bc' := 0) (bs' := 0) dX12_windowOf_137 vX12_253 rfl rfl rfl (Nat.le_of_ble_eq_true rfl) (Nat.le_of_ble_eq_true rfl) (by omega) (by omega) ?_
                  refine s_begin hp hP hB1 (by omega) (by omega) (by omega) (fun O' => ?_)
                  refine wp_return dX12_windowOf_140 rfl ?_
                  first
                  | (have hk := k O'
                     rw [wnF] at hk
                     first
                     | (rw [if_pos (Or.inl h40)] at hk; exact hk)
                     | (rw [if_pos (Or.inr h45)] at hk; exact hk)
                     | (rw [if_neg (fun q => q.elim h40 (fun z => z h45))] at hk
                        first
                        | (rw [if_pos (by omega)] at hk; exact hk)
                        | (rw [if_neg (by omega)] at hk
                           first
                           | (rw [if_pos (by omega)] at hk; exact hk)
                           | (rw [if_neg (by omega)] at hk
                              first
                              | (rw [if_pos h129] at hk; exact hk)
                              | (rw [if_neg h129] at hk; exact hk)))))
                  | (have hk := k O
                     rw [wnF] at hk
                     first
                     | (rw [if_pos (Or.inl h40)] at hk; exact hk)
                     | (rw [if_pos (Or.inr h45)] at hk; exact hk)
                     | (rw [if_neg (fun q => q.elim h40 (fun z => z h45))] at hk
                        first
                        | (rw [if_pos (by omega)] at hk; exact hk)
                        | (rw [if_neg (by omega)] at hk
                           first
                           | (rw [if_pos (by omega)] at hk; exact hk)
                           | (rw [if_neg (by omega)] at hk
                              first
                              | (rw [if_pos h129] at hk; exact hk)
                              | (rw [if_neg h129] at hk; exact hk)))))
              · refine wp_aload_n dX12_windowOf_116 rfl ?_
                refine wp_iload_n dX12_windowOf_117 rfl ?_
                refine wp_iconst dX12_windowOf_118 ?_
                refine wp_iconst dX12_windowOf_119 ?_
                refine wp_callV (as := [_, _, _]) (ls0 := [_, _, _, _, _, _, _]) (kc := 0) (ks := 0) (bc' := 0) (bs' := 0) dX12_windowOf_120 vX12_253 rfl rfl rfl (Nat.le_of_ble_eq_true rfl) (Nat.le_of_ble_eq_true rfl) (by omega) (by omega) ?_
                refine s_begin hp hP hB1 (by omega) (by omega) (by omega) (fun O' => ?_)
                refine wp_goto (tgt := 140) dX12_windowOf_123 rfl ?_
                refine wp_return dX12_windowOf_140 rfl ?_
                first
                | (have hk := k O'
                   rw [wnF] at hk
                   first
                   | (rw [if_pos (Or.inl h40)] at hk; exact hk)
                   | (rw [if_pos (Or.inr h45)] at hk; exact hk)
                   | (rw [if_neg (fun q => q.elim h40 (fun z => z h45))] at hk
                      first
                      | (rw [if_pos (by omega)] at hk; exact hk)
                      | (rw [if_neg (by omega)] at hk
                         first
                         | (rw [if_pos (by omega)] at hk; exact hk)
                         | (rw [if_neg (by omega)] at hk
                            first
                            | (rw [if_pos h129] at hk; exact hk)
                            | (rw [if_neg h129] at hk; exact hk)))))
                | (have hk := k O
                   rw [wnF] at hk
                   first
                   | (rw [if_pos (Or.inl h40)] at hk; exact hk)
                   | (rw [if_pos (Or.inr h45)] at hk; exact hk)
                   | (rw [if_neg (fun q => q.elim h40 (fun z => z h45))] at hk
                      first
                      | (rw [if_pos (by omega)] at hk; exact hk)
                      | (rw [if_neg (by omega)] at hk
                         first
                         | (rw [if_pos (by omega)] at hk; exact hk)
                         | (rw [if_neg (by omega)] at hk
                            first
                            | (rw [if_pos h129] at hk; exact hk)
                            | (rw [if_neg h129] at hk; exact hk)))))
          · refine wp_aload_n dX12_windowOf_88 rfl ?_
            refine wp_iload_n dX12_windowOf_89 rfl ?_
            refine wp_iconst dX12_windowOf_90 ?_
            refine wp_iconst dX12_windowOf_91 ?_
            refine wp_callV (as := [_, _, _]) (ls0 := [_, _, _, _, _, _, _]) (kc := 0) (ks := 0) (bc' := 0) (bs' := 0) dX12_windowOf_92 vX12_253 rfl rfl rfl (Nat.le_of_ble_eq_true rfl) (Nat.le_of_ble_eq_true rfl) (by omega) (by omega) ?_
            refine s_begin hp hP hB1 (by omega) (by omega) (by omega) (fun O' => ?_)
            refine wp_goto (tgt := 140) dX12_windowOf_95 rfl ?_
            refine wp_return dX12_windowOf_140 rfl ?_
            first
            | (have hk := k O'
               rw [wnF] at hk
               first
               | (rw [if_pos (Or.inl h40)] at hk; exact hk)
               | (rw [if_pos (Or.inr h45)] at hk; exact hk)
               | (rw [if_neg (fun q => q.elim h40 (fun z => z h45))] at hk
                  first
                  | (rw [if_pos (by omega)] at hk; exact hk)
                  | (rw [if_neg (by omega)] at hk
                     first
                     | (rw [if_pos (by omega)] at hk; exact hk)
                     | (rw [if_neg (by omega)] at hk
                        first
                        | (rw [if_pos h129] at hk; exact hk)
                        | (rw [if_neg h129] at hk; exact hk)))))
            | (have hk := k O
               rw [wnF] at hk
               first
               | (rw [if_pos (Or.inl h40)] at hk; exact hk)
               | (rw [if_pos (Or.inr h45)] at hk; exact hk)
               | (rw [if_neg (fun q => q.elim h40 (fun z => z h45))] at hk
                  first
                  | (rw [if_pos (by omega)] at hk; exact hk)
                  | (rw [if_neg (by omega)] at hk
                     first
                     | (rw [if_pos (by omega)] at hk; exact hk)
                     | (rw [if_neg (by omega)] at hk
                        first
                        | (rw [if_pos h129] at hk; exact hk)
                        | (rw [if_neg h129] at hk; exact hk)))))
    · refine wp_if_ne (tgt := 52) dX12_windowOf_48 rfl (fun q => absurd q (by decide)) (fun _ => ?_)
      refine wp_return dX12_windowOf_51 rfl ?_
      first
      | (have hk := k O'
         rw [wnF] at hk
         first
         | (rw [if_pos (Or.inl h40)] at hk; exact hk)
         | (rw [if_pos (Or.inr h45)] at hk; exact hk)
         | (rw [if_neg (fun q => q.elim h40 (fun z => z h45))] at hk
            first
            | (rw [if_pos (by omega)] at hk; exact hk)
            | (rw [if_neg (by omega)] at hk
               first
               | (rw [if_pos (by omega)] at hk; exact hk)
               | (rw [if_neg (by omega)] at hk
                  first
                  | (rw [if_pos h129] at hk; exact hk)
                  | (rw [if_neg h129] at hk; exact hk)))))
      | (have hk := k O
         rw [wnF] at hk
         first
         | (rw [if_pos (Or.inl h40)] at hk; exact hk)
         | (rw [if_pos (Or.inr h45)] at hk; exact hk)
         | (rw [if_neg (fun q => q.elim h40 (fun z => z h45))] at hk
            first
            | (rw [if_pos (by omega)] at hk; exact hk)
            | (rw [if_neg (by omega)] at hk
               first
               | (rw [if_pos (by omega)] at hk; exact hk)
               | (rw [if_neg (by omega)] at hk
                  first
                  | (rw [if_pos h129] at hk; exact hk)
                  | (rw [if_neg h129] at hk; exact hk)))))
end R15
