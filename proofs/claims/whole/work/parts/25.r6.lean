def mnI (x y : Int) : Int := if y < x then y else x
noncomputable def bgo (iv : aF) (F N : Int → Int) (p kd n : Int) : List Int := if kd = 0 then ofr iv F N p (iv 6 (4 * p + 0)) 0 else ofr iv F N p (iv 6 (4 * p + 0)) ((N (61 * p + (0 + n)) / 10 + 1) % iv 5 0)
noncomputable def mnm (iv : aF) (F N : Int → Int) (p kd n : Int) : Int := if kd = 1 then mnI n (N (61 * p + 18)) else if kd = 0 then mnI (n + 1) ((bgo iv F N p kd n).length : Int) else mnI 2 ((bgo iv F N p kd n).length : Int)
/-- for how many cells a dealing asks; -1: it can't be begun -/
noncomputable def mny (iv : aF) (F N : Int → Int) (p kd n : Int) : Int := if ¬ (N (61 * p + 28) = 0 ∧ N (61 * p + 43) = 0) then -1 else if kd = 3 ∨ (kd = 0 ∧ ¬ iv 6 (4 * p + 2) = 2) then 0 else if mnm iv F N p kd n = 0 then -1 else mnm iv F N p kd n
def delL (p : Int) : Nat → Int → (Int → Int) → (Int → Int)
  | 0, _, N => N
  | m + 1, i, N => delL p m (i + 1) (encF N p (N (61 * p + (0 + i))))
noncomputable def begF (iv : aF) (F N : Int → Int) (p kd n : Int) : Int → Int := if mny iv F N p kd n = -1 then N else
  up (waiF (if kd = 1 then delL p (mny iv F N p kd n).toNat (N (61 * p + 18) - mny iv F N p kd n) (wriF N p 0 kd (-1) n)
    else prmF (encL p (Lf (bgo iv F N p kd n)) (mny iv F N p kd n).toNat 0 (if kd = 2 then encF (wriF N p 0 kd (-1) (-1)) p (N (61 * p + (0 + n))) else wriF N p 0 kd (-1) (if kd = 0 then n else -1))) p 0 (mny iv F N p kd n) (Lf (bgo iv F N p kd n))) p 0) (61 * p + 32) kd
theorem wriF_n {N : Int → Int} {p so ki re as k : Int} (h : k < 43 ∨ 49 < k) : wriF N p so ki re as (61 * p + k) = N (61 * p + k) := by
  unfold wriF
  rw [up_n (by omega), up_n (by omega), up_n (by omega), up_n (by omega), up_n (by omega), up_n (by omega), up_n (by omega)]
theorem wriF_48 {N : Int → Int} {p so ki re as : Int} : wriF N p so ki re as (61 * p + 48) = 0 := up_s
theorem encF_n {N : Int → Int} {p c k : Int} (hm : 0 ≤ N (61 * p + 48)) (h : k < 48) : encF N p c (61 * p + k) = N (61 * p + k) := by
  unfold encF; rw [up_n (by omega), up_n (by omega)]
theorem prmF_c {N f g : Int → Int} {p q n : Int} (h : ∀ j : Int, 0 ≤ j → j < n → f j = g j) : prmF N p q n f = prmF N p q n g := prmL_c _ _ _ (fun j a b => h j a (by omega))
theorem mnm_r {iv : aF} {F N : Int → Int} {p kd n : Int} (hP : Prm iv F) (hs : 0 ≤ N (61 * p + 18)) (hn : 0 ≤ n ∧ n ≤ 6) (hk : 0 ≤ kd ∧ kd ≤ 2) : 0 ≤ mnm iv F N p kd n ∧ (kd = 0 → mnm iv F N p kd n ≤ n + 1 ∧ mnm iv F N p kd n ≤ (bgo iv F N p kd n).length) ∧ (kd = 1 → mnm iv F N p kd n ≤ n ∧ mnm iv F N p kd n ≤ N (61 * p + 18)) ∧ (kd = 2 → mnm iv F N p kd n ≤ 2 ∧ mnm iv F N p kd n ≤ (bgo iv F N p kd n).length) := by
  unfold mnm mnI
  refine ⟨?_, ?_, ?_, ?_⟩
  · repeat' split
    all_goals omega
  · intro h; subst h; rw [if_neg (by decide), if_pos rfl]; split <;> omega
  · intro h; subst h; rw [if_pos rfl]; split <;> omega
  · intro h; subst h; rw [if_neg (by decide), if_neg (by decide)]; split <;> omega
theorem mny_r {iv : aF} {F N : Int → Int} {p kd n : Int} (hP : Prm iv F) (hs : 0 ≤ N (61 * p + 18)) (hn : 0 ≤ n ∧ n ≤ 6) (hk : 0 ≤ kd ∧ kd ≤ 3) : mny iv F N p kd n = -1 ∨ (0 ≤ mny iv F N p kd n ∧ (kd = 0 → mny iv F N p kd n ≤ n + 1 ∧ mny iv F N p kd n ≤ (bgo iv F N p kd n).length) ∧ (kd = 1 → mny iv F N p kd n ≤ n ∧ mny iv F N p kd n ≤ N (61 * p + 18)) ∧ (kd = 2 → mny iv F N p kd n ≤ 2 ∧ mny iv F N p kd n ≤ (bgo iv F N p kd n).length) ∧ (kd = 3 → mny iv F N p kd n = 0)) := by
  by_cases h1 : ¬ (N (61 * p + 28) = 0 ∧ N (61 * p + 43) = 0)
  · left; unfold mny; rw [if_pos h1]
  · by_cases h2 : kd = 3 ∨ (kd = 0 ∧ ¬ iv 6 (4 * p + 2) = 2)
    · right; unfold mny; rw [if_neg h1, if_pos h2]; omega
    · by_cases h3 : mnm iv F N p kd n = 0
      · left; unfold mny; rw [if_neg h1, if_neg h2, if_pos h3]
      · right
        have e : mny iv F N p kd n = mnm iv F N p kd n := by unfold mny; rw [if_neg h1, if_neg h2, if_neg h3]
        rw [e]
        have := mnm_r (iv := iv) (F := F) (N := N) (p := p) (kd := kd) (n := n) hP hs hn (by omega)
        omega
section R6
variable {d : Nat} {iv lw : aF} {F N G O T S : Int → Int} {R : aPost}
theorem mny_n {p kd n : Int} (h : ¬ (N (61 * p + 28) = 0 ∧ N (61 * p + 43) = 0)) : mny iv F N p kd n = -1 := by unfold mny; rw [if_pos h]
theorem mny_0 {p kd n : Int} (h : N (61 * p + 28) = 0 ∧ N (61 * p + 43) = 0) (h2 : kd = 3 ∨ (kd = 0 ∧ ¬ iv 6 (4 * p + 2) = 2)) : mny iv F N p kd n = 0 := by unfold mny; rw [if_neg (fun q => q h), if_pos h2]
theorem mny_z {p kd n : Int} (h : N (61 * p + 28) = 0 ∧ N (61 * p + 43) = 0) (h2 : ¬ (kd = 3 ∨ (kd = 0 ∧ ¬ iv 6 (4 * p + 2) = 2))) (h3 : mnm iv F N p kd n = 0) : mny iv F N p kd n = -1 := by unfold mny; rw [if_neg (fun q => q h), if_neg h2, if_pos h3]
theorem mny_p {p kd n : Int} (h : N (61 * p + 28) = 0 ∧ N (61 * p + 43) = 0) (h2 : ¬ (kd = 3 ∨ (kd = 0 ∧ ¬ iv 6 (4 * p + 2) = 2))) (h3 : ¬ mnm iv F N p kd n = 0) : mny iv F N p kd n = mnm iv F N p kd n := by unfold mny; rw [if_neg (fun q => q h), if_neg h2, if_neg h3]
theorem s_manyFor3 {p n : Int} (hp : 0 ≤ p ∧ p < 6) (hP : Prm iv F) (hB : Bok (iv 5 0) (iv 5 1) N) (hn : 0 ≤ n ∧ n < 6) (k : ∀ O', (0 < mny iv F N p 3 n → ¬ (3 : Int) = 1 → ∀ j : Int, 0 ≤ j → j < mny iv F N p 3 n → O' j = Lf (bgo iv F N p 3 n) j) → R (some (aI (mny iv F N p 3 n))) SHR (ST iv F N G O' T S) lw RVR) : wp (d + 4) mX12_manyFor 0 [some (aR 0), some (aI p), some (aI 3), some (aI n), none] [] SHR (ST iv F N G O T S) lw RVR 0 0 R := by
  obtain ⟨hW1, hW2, hO1, hO2, hT1, hT2, hI1, hI2, hF1, hF2⟩ := id hP
  refine wp_aload_n dX12_manyFor_0 rfl ?_
  refine wp_iload_n dX12_manyFor_1 rfl ?_
  refine wp_callV (as := [_]) (ls0 := [_, _]) (kc := 0) (ks := 0) (bc' := 0) (bs' := 0) dX12_manyFor_2 vX12_188 rfl rfl rfl (Nat.le_of_ble_eq_true rfl) (Nat.le_of_ble_eq_true rfl) (by omega) (by omega) ?_
  refine s_canDeal (by omega) (fun h2 => ?_) (fun h2 => ?_)
  · refine wp_if_ne (tgt := 10) dX12_manyFor_5 rfl (fun _ => ?_) (fun q => absurd q (by decide))
    refine wp_iload_n dX12_manyFor_10 rfl ?_
    refine wp_iconst dX12_manyFor_11 ?_
    refine wp_icmp_eq (tgt := 27) dX12_manyFor_12 rfl (fun _ => ?_) (fun q => absurd q (by decide))
    refine wp_iconst dX12_manyFor_27 ?_
    refine wp_ireturn dX12_manyFor_28 rfl ?_
    rw [mny_0 h2 (Or.inl rfl)] at k; exact k O (fun h => by omega)
  · rw [mny_n h2] at k
    refine wp_if_ne (tgt := 10) dX12_manyFor_5 rfl (fun q => absurd q (by decide)) (fun _ => ?_)
    refine wp_iconst dX12_manyFor_8 ?_
    refine wp_ireturn dX12_manyFor_9 rfl ?_
    exact k O (fun h => by omega)
theorem s_manyFor1 {p n : Int} (hp : 0 ≤ p ∧ p < 6) (hP : Prm iv F) (hB : Bok (iv 5 0) (iv 5 1) N) (hn : 0 ≤ n ∧ n < 6) (k : ∀ O', (0 < mny iv F N p 1 n → ¬ (1 : Int) = 1 → ∀ j : Int, 0 ≤ j → j < mny iv F N p 1 n → O' j = Lf (bgo iv F N p 1 n) j) → R (some (aI (mny iv F N p 1 n))) SHR (ST iv F N G O' T S) lw RVR) : wp (d + 4) mX12_manyFor 0 [some (aR 0), some (aI p), some (aI 1), some (aI n), none] [] SHR (ST iv F N G O T S) lw RVR 0 0 R := by
  obtain ⟨hW1, hW2, hO1, hO2, hT1, hT2, hI1, hI2, hF1, hF2⟩ := id hP
  have h18 := hB.v18 hp
  have hmm : mnm iv F N p 1 n = mnI n (N (61 * p + 18)) := by unfold mnm; rw [if_pos rfl]
  refine wp_aload_n dX12_manyFor_0 rfl ?_
  refine wp_iload_n dX12_manyFor_1 rfl ?_
  refine wp_callV (as := [_]) (ls0 := [_, _]) (kc := 0) (ks := 0) (bc' := 0) (bs' := 0) dX12_manyFor_2 vX12_188 rfl rfl rfl (Nat.le_of_ble_eq_true rfl) (Nat.le_of_ble_eq_true rfl) (by omega) (by omega) ?_
  refine s_canDeal (by omega) (fun h2 => ?_) (fun h2 => ?_)
  · refine wp_if_ne (tgt := 10) dX12_manyFor_5 rfl (fun _ => ?_) (fun q => absurd q (by decide))
    refine wp_iload_n dX12_manyFor_10 rfl ?_
    refine wp_iconst dX12_manyFor_11 ?_
    refine wp_icmp_eq (tgt := 27) dX12_manyFor_12 rfl (fun q => absurd q (by decide)) (fun _ => ?_)
    refine wp_iload_n dX12_manyFor_15 rfl ?_
    refine wp_if_ne (tgt := 29) dX12_manyFor_16 rfl (fun _ => ?_) (fun q => absurd q (by decide))
    refine wp_iload_n dX12_manyFor_29 rfl ?_
    refine wp_iconst dX12_manyFor_30 ?_
    refine wp_icmp_ne (tgt := 50) dX12_manyFor_31 rfl (fun q => absurd q (by decide)) (fun _ => ?_)
    refine wp_iload_n dX12_manyFor_34 rfl ?_
    refine wp_aload_n dX12_manyFor_35 rfl ?_
    refine wp_iload_n dX12_manyFor_36 rfl ?_
    refine wp_bipush dX12_manyFor_37 ?_
    refine wp_callV (as := [_, _]) (ls0 := [_, _, _]) (kc := 0) (ks := 0) (bc' := 0) (bs' := 0) dX12_manyFor_39 vX12_161 rfl rfl rfl (Nat.le_of_ble_eq_true rfl) (Nat.le_of_ble_eq_true rfl) (by omega) (by omega) ?_
    refine s_of (by omega) (by omega) ?_
    refine wp_mmin dX12_manyFor_42 (by omega) (Nat.le_of_ble_eq_true rfl) nX12_194 q_min ?_
    refine wp_istore (ls' := [_, _, _, _, _]) dX12_manyFor_45 (by decide) rfl rfl ?_
    refine wp_goto (tgt := 114) dX12_manyFor_47 rfl ?_
    refine wp_iload dX12_manyFor_114 rfl ?_
    refine wp_if_ne (tgt := 123) dX12_manyFor_116 rfl (fun h116 => ?_) (fun h116 => ?_)
    · refine wp_iload dX12_manyFor_123 rfl ?_
      refine wp_ireturn dX12_manyFor_125 rfl ?_
      first
      | rw [mny_z h2 (by omega) (hmm.trans h116)] at k; exact k O (fun h => by omega)
      | rw [mny_p h2 (by omega) (by rw [hmm]; exact h116), hmm] at k; exact k O (fun _ h => absurd rfl h)
    · refine wp_iconst dX12_manyFor_119 ?_
      refine wp_goto (tgt := 125) dX12_manyFor_120 rfl ?_
      refine wp_ireturn dX12_manyFor_125 rfl ?_
      first
      | rw [mny_z h2 (by omega) (hmm.trans h116)] at k; exact k O (fun h => by omega)
      | rw [mny_p h2 (by omega) (by rw [hmm]; exact h116), hmm] at k; exact k O (fun _ h => absurd rfl h)
  · rw [mny_n h2] at k
    refine wp_if_ne (tgt := 10) dX12_manyFor_5 rfl (fun q => absurd q (by decide)) (fun _ => ?_)
    refine wp_iconst dX12_manyFor_8 ?_
    refine wp_ireturn dX12_manyFor_9 rfl ?_
    exact k O (fun h => by omega)
theorem s_manyFor0 {p n : Int} (hp : 0 ≤ p ∧ p < 6) (hP : Prm iv F) (hB : Bok (iv 5 0) (iv 5 1) N) (hn : 0 ≤ n ∧ n < 6) (k : ∀ O', (0 < mny iv F N p 0 n → ¬ (0 : Int) = 1 → ∀ j : Int, 0 ≤ j → j < mny iv F N p 0 n → O' j = Lf (bgo iv F N p 0 n) j) → R (some (aI (mny iv F N p 0 n))) SHR (ST iv F N G O' T S) lw RVR) : wp (d + 4) mX12_manyFor 0 [some (aR 0), some (aI p), some (aI 0), some (aI n), none] [] SHR (ST iv F N G O T S) lw RVR 0 0 R := by
  obtain ⟨hW1, hW2, hO1, hO2, hT1, hT2, hI1, hI2, hF1, hF2⟩ := id hP
  have hb0 : bgo iv F N p 0 n = ofr iv F N p (iv 6 (4 * p + 0)) 0 := by unfold bgo; rw [if_pos rfl]
  have hmm : mnm iv F N p 0 n = mnI (n + 1) ((bgo iv F N p 0 n).length : Int) := by unfold mnm; rw [if_neg (by decide), if_pos rfl]
  rw [hb0] at hmm
  have hol := ofr_len (N := N) (p := p) (nd := iv 6 (4 * p + 0)) (fr := 0) hP
  refine wp_aload_n dX12_manyFor_0 rfl ?_
  refine wp_iload_n dX12_manyFor_1 rfl ?_
  refine wp_callV (as := [_]) (ls0 := [_, _]) (kc := 0) (ks := 0) (bc' := 0) (bs' := 0) dX12_manyFor_2 vX12_188 rfl rfl rfl (Nat.le_of_ble_eq_true rfl) (Nat.le_of_ble_eq_true rfl) (by omega) (by omega) ?_
  refine s_canDeal (by omega) (fun h2 => ?_) (fun h2 => ?_)
  · refine wp_if_ne (tgt := 10) dX12_manyFor_5 rfl (fun _ => ?_) (fun q => absurd q (by decide))
    refine wp_iload_n dX12_manyFor_10 rfl ?_
    refine wp_iconst dX12_manyFor_11 ?_
    refine wp_icmp_eq (tgt := 27) dX12_manyFor_12 rfl (fun q => absurd q (by decide)) (fun _ => ?_)
    refine wp_iload_n dX12_manyFor_15 rfl ?_
    refine wp_if_ne (tgt := 29) dX12_manyFor_16 rfl (fun q => absurd q (by decide)) (fun _ => ?_)
    refine wp_aload_n dX12_manyFor_19 rfl ?_
    refine wp_iload_n dX12_manyFor_20 rfl ?_
    refine wp_callV (as := [_]) (ls0 := [_, _]) (kc := 0) (ks := 0) (bc' := 0) (bs' := 0) dX12_manyFor_21 vX12_191 rfl rfl rfl (Nat.le_of_ble_eq_true rfl) (Nat.le_of_ble_eq_true rfl) (by omega) (by omega) ?_
    refine s_isTwoStep (by omega) (fun h21 => ?_) (fun h21 => ?_)
    · refine wp_if_ne (tgt := 29) dX12_manyFor_24 rfl (fun _ => ?_) (fun q => absurd q (by decide))
      refine wp_iload_n dX12_manyFor_29 rfl ?_
      refine wp_iconst dX12_manyFor_30 ?_
      refine wp_icmp_ne (tgt := 50) dX12_manyFor_31 rfl (fun _ => ?_) (fun q => absurd q (by decide))
      refine wp_iload_n dX12_manyFor_50 rfl ?_
      refine wp_if_ne (tgt := 77) dX12_manyFor_51 rfl (fun q => absurd q (by decide)) (fun _ => ?_)
      refine wp_iload_n dX12_manyFor_54 rfl ?_
      refine wp_iconst dX12_manyFor_55 ?_
      refine wp_iadd dX12_manyFor_56 ⟨by omega, by omega⟩ ?_
      refine wp_aload_n dX12_manyFor_57 rfl ?_
      refine wp_iload_n dX12_manyFor_58 rfl ?_
      refine wp_aload_n dX12_manyFor_59 rfl ?_
      refine wp_iload_n dX12_manyFor_60 rfl ?_
      refine wp_iconst dX12_manyFor_61 ?_
      refine wp_callV (as := [_, _]) (ls0 := [_, _, _]) (kc := 0) (ks := 0) (bc' := 0) (bs' := 0) dX12_manyFor_62 vX12_178 rfl rfl rfl (Nat.le_of_ble_eq_true rfl) (Nat.le_of_ble_eq_true rfl) (by omega) (by omega) ?_
      refine s_nodeOf (by omega) (by omega) ?_
      refine wp_iconst dX12_manyFor_65 ?_
      refine wp_callV (as := [_, _, _]) (ls0 := [_, _, _, _, _, _, _]) (kc := 0) (ks := 0) (bc' := 0) (bs' := 0) dX12_manyFor_66 vX12_199 rfl rfl rfl (Nat.le_of_ble_eq_true rfl) (Nat.le_of_ble_eq_true rfl) (by omega) (by omega) ?_
      refine s_layOffers (by omega) hP hB (by omega) (fun O' hO' => ?_)
      refine wp_mmin dX12_manyFor_69 (by omega) (Nat.le_of_ble_eq_true rfl) nX12_194 q_min ?_
      refine wp_istore (ls' := [_, _, _, _, _]) dX12_manyFor_72 (by decide) rfl rfl ?_
      refine wp_goto (tgt := 114) dX12_manyFor_74 rfl ?_
      refine wp_iload dX12_manyFor_114 rfl ?_
      refine wp_if_ne (tgt := 123) dX12_manyFor_116 rfl (fun h116 => ?_) (fun h116 => ?_)
      · refine wp_iload dX12_manyFor_123 rfl ?_
        refine wp_ireturn dX12_manyFor_125 rfl ?_
        first
        | rw [mny_z h2 (fun q => by rcases q with q | q; exact absurd q (by decide); exact q.2 h21) (hmm.trans h116)] at k; exact k O' (fun h => by omega)
        | have hle := hmm
          rw [mny_p h2 (fun q => by rcases q with q | q; exact absurd q (by decide); exact q.2 h21) (by rw [hmm]; exact h116), hmm] at k
          refine k O' (fun _ _ j a b => ?_)
          rw [hb0]
          exact hO' j a (by unfold mnI at b; split at b <;> omega)
      · refine wp_iconst dX12_manyFor_119 ?_
        refine wp_goto (tgt := 125) dX12_manyFor_120 rfl ?_
        refine wp_ireturn dX12_manyFor_125 rfl ?_
        first
        | rw [mny_z h2 (fun q => by rcases q with q | q; exact absurd q (by decide); exact q.2 h21) (hmm.trans h116)] at k; exact k O' (fun h => by omega)
        | have hle := hmm
          rw [mny_p h2 (fun q => by rcases q with q | q; exact absurd q (by decide); exact q.2 h21) (by rw [hmm]; exact h116), hmm] at k
          refine k O' (fun _ _ j a b => ?_)
          rw [hb0]
          exact hO' j a (by unfold mnI at b; split at b <;> omega)
    · refine wp_if_ne (tgt := 29) dX12_manyFor_24 rfl (fun q => absurd q (by decide)) (fun _ => ?_)
      refine wp_iconst dX12_manyFor_27 ?_
      refine wp_ireturn dX12_manyFor_28 rfl ?_
      rw [mny_0 h2 (Or.inr ⟨rfl, h21⟩)] at k; exact k O (fun h => by omega)
  · rw [mny_n h2] at k
    refine wp_if_ne (tgt := 10) dX12_manyFor_5 rfl (fun q => absurd q (by decide)) (fun _ => ?_)
    refine wp_iconst dX12_manyFor_8 ?_
    refine wp_ireturn dX12_manyFor_9 rfl ?_
    exact k O (fun h => by omega)
theorem s_manyFor2 {p n : Int} (hp : 0 ≤ p ∧ p < 6) (hP : Prm iv F) (hB : Bok (iv 5 0) (iv 5 1) N) (hn : 0 ≤ n ∧ n < 6) (k : ∀ O', (0 < mny iv F N p 2 n → ¬ (2 : Int) = 1 → ∀ j : Int, 0 ≤ j → j < mny iv F N p 2 n → O' j = Lf (bgo iv F N p 2 n) j) → R (some (aI (mny iv F N p 2 n))) SHR (ST iv F N G O' T S) lw RVR) : wp (d + 4) mX12_manyFor 0 [some (aR 0), some (aI p), some (aI 2), some (aI n), none] [] SHR (ST iv F N G O T S) lw RVR 0 0 R := by
  obtain ⟨hW1, hW2, hO1, hO2, hT1, hT2, hI1, hI2, hF1, hF2⟩ := id hP
  have hcl := (hB.cel (q := 0) (i := n) hp (Or.inl rfl) (by omega))
  rw [bq0] at hcl
  have hcl0 := hcl.1
  have hb0 : bgo iv F N p 2 n = ofr iv F N p (iv 6 (4 * p + 0)) ((N (61 * p + (0 + n)) / 10 + 1) % iv 5 0) := by unfold bgo; rw [if_neg (by decide)]
  have hmm : mnm iv F N p 2 n = mnI 2 ((bgo iv F N p 2 n).length : Int) := by unfold mnm; rw [if_neg (by decide), if_neg (by decide)]
  rw [hb0] at hmm
  have hol := ofr_len (N := N) (p := p) (nd := iv 6 (4 * p + 0)) (fr := (N (61 * p + (0 + n)) / 10 + 1) % iv 5 0) hP
  have a1 := Int.emod_nonneg (N (61 * p + (0 + n)) / 10 + 1) (by omega : iv 5 0 ≠ 0)
  have a2 := Int.emod_lt_of_pos (N (61 * p + (0 + n)) / 10 + 1) (by omega : 0 < iv 5 0)
  have hcl1 := hcl.2.1
  refine wp_aload_n dX12_manyFor_0 rfl ?_
  refine wp_iload_n dX12_manyFor_1 rfl ?_
  refine wp_callV (as := [_]) (ls0 := [_, _]) (kc := 0) (ks := 0) (bc' := 0) (bs' := 0) dX12_manyFor_2 vX12_188 rfl rfl rfl (Nat.le_of_ble_eq_true rfl) (Nat.le_of_ble_eq_true rfl) (by omega) (by omega) ?_
  refine s_canDeal (by omega) (fun h2 => ?_) (fun h2 => ?_)
  · refine wp_if_ne (tgt := 10) dX12_manyFor_5 rfl (fun _ => ?_) (fun q => absurd q (by decide))
    refine wp_iload_n dX12_manyFor_10 rfl ?_
    refine wp_iconst dX12_manyFor_11 ?_
    refine wp_icmp_eq (tgt := 27) dX12_manyFor_12 rfl (fun q => absurd q (by decide)) (fun _ => ?_)
    refine wp_iload_n dX12_manyFor_15 rfl ?_
    refine wp_if_ne (tgt := 29) dX12_manyFor_16 rfl (fun _ => ?_) (fun q => absurd q (by decide))
    refine wp_iload_n dX12_manyFor_29 rfl ?_
    refine wp_iconst dX12_manyFor_30 ?_
    refine wp_icmp_ne (tgt := 50) dX12_manyFor_31 rfl (fun _ => ?_) (fun q => absurd q (by decide))
    refine wp_iload_n dX12_manyFor_50 rfl ?_
    refine wp_if_ne (tgt := 77) dX12_manyFor_51 rfl (fun _ => ?_) (fun q => absurd q (by decide))
    refine wp_iconst dX12_manyFor_77 ?_
    refine wp_aload_n dX12_manyFor_78 rfl ?_
    refine wp_iload_n dX12_manyFor_79 rfl ?_
    refine wp_aload_n dX12_manyFor_80 rfl ?_
    refine wp_iload_n dX12_manyFor_81 rfl ?_
    refine wp_iconst dX12_manyFor_82 ?_
    refine wp_callV (as := [_, _]) (ls0 := [_, _, _]) (kc := 0) (ks := 0) (bc' := 0) (bs' := 0) dX12_manyFor_83 vX12_178 rfl rfl rfl (Nat.le_of_ble_eq_true rfl) (Nat.le_of_ble_eq_true rfl) (by omega) (by omega) ?_
    refine s_nodeOf (by omega) (by omega) ?_
    refine wp_aload_n dX12_manyFor_86 rfl ?_
    refine wp_iload_n dX12_manyFor_87 rfl ?_
    refine wp_iconst dX12_manyFor_88 ?_
    refine wp_iload_n dX12_manyFor_89 rfl ?_
    refine wp_iadd dX12_manyFor_90 ⟨by omega, by omega⟩ ?_
    refine wp_callV (as := [_, _]) (ls0 := [_, _, _]) (kc := 0) (ks := 0) (bc' := 0) (bs' := 0) dX12_manyFor_91 vX12_161 rfl rfl rfl (Nat.le_of_ble_eq_true rfl) (Nat.le_of_ble_eq_true rfl) (by omega) (by omega) ?_
    refine s_of (by omega) (by omega) ?_
    refine wp_bipush dX12_manyFor_94 ?_
    refine wp_idiv dX12_manyFor_96 (by omega) (by omega) ?_
    refine wp_iconst dX12_manyFor_97 ?_
    refine wp_iadd dX12_manyFor_98 ⟨by omega, by omega⟩ ?_
    refine wp_aload_n dX12_manyFor_99 rfl ?_
    refine wp_getR rfl dX12_manyFor_100 fX12_22 rfl ?_
    refine wp_iconst dX12_manyFor_103 ?_
    refine wp_iald dX12_manyFor_104 rfl (by omega) (by omega) ?_
    try simp only [ST0, ST5, ST6, ST7, ST8, ST10, ST11, ST12, ST13]
    refine wp_irem dX12_manyFor_105 (by omega) (by omega) ?_
    refine wp_callV (as := [_, _, _]) (ls0 := [_, _, _, _, _, _, _]) (kc := 0) (ks := 0) (bc' := 0) (bs' := 0) dX12_manyFor_106 vX12_199 rfl rfl rfl (Nat.le_of_ble_eq_true rfl) (Nat.le_of_ble_eq_true rfl) (by omega) (by omega) ?_
    refine s_layOffers (by omega) hP hB (by omega) (fun O' hO' => ?_)
    refine wp_mmin dX12_manyFor_109 (by omega) (Nat.le_of_ble_eq_true rfl) nX12_194 q_min ?_
    refine wp_istore (ls' := [_, _, _, _, _]) dX12_manyFor_112 (by decide) rfl rfl ?_
    refine wp_iload dX12_manyFor_114 rfl ?_
    refine wp_if_ne (tgt := 123) dX12_manyFor_116 rfl (fun h116 => ?_) (fun h116 => ?_)
    · refine wp_iload dX12_manyFor_123 rfl ?_
      refine wp_ireturn dX12_manyFor_125 rfl ?_
      first
      | rw [mny_z h2 (by omega) (hmm.trans h116)] at k; exact k O' (fun h => by omega)
      | have hle := hmm
        rw [mny_p h2 (by omega) (by rw [hmm]; exact h116), hmm] at k
        refine k O' (fun _ _ j a b => ?_)
        rw [hb0]
        exact hO' j a (by unfold mnI at b; split at b <;> omega)
    · refine wp_iconst dX12_manyFor_119 ?_
      refine wp_goto (tgt := 125) dX12_manyFor_120 rfl ?_
      refine wp_ireturn dX12_manyFor_125 rfl ?_
      first
      | rw [mny_z h2 (by omega) (hmm.trans h116)] at k; exact k O' (fun h => by omega)
      | have hle := hmm
        rw [mny_p h2 (by omega) (by rw [hmm]; exact h116), hmm] at k
        refine k O' (fun _ _ j a b => ?_)
        rw [hb0]
        exact hO' j a (by unfold mnI at b; split at b <;> omega)
  · rw [mny_n h2] at k
    refine wp_if_ne (tgt := 10) dX12_manyFor_5 rfl (fun q => absurd q (by decide)) (fun _ => ?_)
    refine wp_iconst dX12_manyFor_8 ?_
    refine wp_ireturn dX12_manyFor_9 rfl ?_
    exact k O (fun h => by omega)
theorem s_manyFor {p kd n : Int} (hp : 0 ≤ p ∧ p < 6) (hP : Prm iv F) (hB : Bok (iv 5 0) (iv 5 1) N) (hn : 0 ≤ n ∧ n < 6) (hkd : 0 ≤ kd ∧ kd ≤ 3) (k : ∀ O', (0 < mny iv F N p kd n → ¬ kd = 1 → ∀ j : Int, 0 ≤ j → j < mny iv F N p kd n → O' j = Lf (bgo iv F N p kd n) j) → R (some (aI (mny iv F N p kd n))) SHR (ST iv F N G O' T S) lw RVR) : wp (d + 4) mX12_manyFor 0 [some (aR 0), some (aI p), some (aI kd), some (aI n), none] [] SHR (ST iv F N G O T S) lw RVR 0 0 R := by
  rcases (by omega : kd = 0 ∨ kd = 1 ∨ kd = 2 ∨ kd = 3) with rfl | rfl | rfl | rfl
  · exact s_manyFor0 hp hP hB hn k
  · exact s_manyFor1 hp hP hB hn k
  · exact s_manyFor2 hp hP hB hn k
  · exact s_manyFor3 hp hP hB hn k
end R6
