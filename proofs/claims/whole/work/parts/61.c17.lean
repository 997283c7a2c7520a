section C17a
variable {d i wd s r m : Nat} {sh : aSh} {iv lw : aF} {rv : aP} {w N : Int → Int} {R : aPost} {p q W Of : Int}
theorem c_tellCell {c z : Int} (hA : SdA sh iv rv i wd p 0) (hR : Rel w N) (hB : Bok W Of N) (k : R (some (aI (if 0 ≤ c ∧ c < N (61 * p + 18) ∧ 0 ≤ z ∧ z ≤ 2 then (if z = 0 then N (61 * p + (0 + c)) else if z = 1 then N (61 * p + (6 + c)) else N (61 * p + (12 + c))) else -1))) sh (uA iv wd w) lw rv) : wp (d + 1) mX9_tellCell 0 [some (aR i), some (aI c), some (aI z)] [] sh (uA iv wd w) lw rv 0 0 R := by
  have hat := hA.at
  have hp := hA.2.2.2.2.2.1
  have hq := hA.2.2.2.2.2.2
  have hm := hB.v18 hp
  refine wp_iload_n dX9_tellCell_0 rfl ?_
  refine wp_if_lt (tgt := 21) dX9_tellCell_1 rfl (fun h1 => ?_) (fun h1 => ?_)
  · refine wp_iconst dX9_tellCell_21 ?_
    refine wp_ireturn dX9_tellCell_22 rfl ?_
    first | (rw [if_pos (by omega)] at k; exact k) | (rw [if_neg (by omega)] at k; exact k)
  · refine wp_iload_n dX9_tellCell_4 rfl ?_
    refine wp_aload_n dX9_tellCell_5 rfl ?_
    refine wp_callV (as := []) (ls0 := [_]) (kc := 0) (ks := 0) (bc' := 0) (bs' := 0) dX9_tellCell_6 vX9_23 hA.1 rfl rfl (Nat.le_of_ble_eq_true rfl) (Nat.le_of_ble_eq_true rfl) (by omega) (by omega) ?_
    refine c_size hA hR ?_
    rw [mq0]
    refine wp_icmp_ge (tgt := 21) dX9_tellCell_9 rfl (fun h9 => ?_) (fun h9 => ?_)
    · refine wp_iconst dX9_tellCell_21 ?_
      refine wp_ireturn dX9_tellCell_22 rfl ?_
      first | (rw [if_pos (by omega)] at k; exact k) | (rw [if_neg (by omega)] at k; exact k)
    · refine wp_iload_n dX9_tellCell_12 rfl ?_
      refine wp_if_lt (tgt := 21) dX9_tellCell_13 rfl (fun h13 => ?_) (fun h13 => ?_)
      · refine wp_iconst dX9_tellCell_21 ?_
        refine wp_ireturn dX9_tellCell_22 rfl ?_
        first | (rw [if_pos (by omega)] at k; exact k) | (rw [if_neg (by omega)] at k; exact k)
      · refine wp_iload_n dX9_tellCell_16 rfl ?_
        refine wp_iconst dX9_tellCell_17 ?_
        refine wp_icmp_le (tgt := 23) dX9_tellCell_18 rfl (fun h18 => ?_) (fun h18 => ?_)
        · have hz : z = 0 ∨ z = 1 ∨ z = 2 := by omega
          refine wp_aload_n dX9_tellCell_23 rfl ?_
          refine wp_getR hA.2.1 dX9_tellCell_24 fX9_11 hA.1 ?_
          refine wp_aload_n dX9_tellCell_27 rfl ?_
          refine wp_getI dX9_tellCell_28 fX9_15 hA.1 ?_
          rw [hat]
          refine wp_bipush dX9_tellCell_31 ?_
          refine wp_iadd dX9_tellCell_33 ⟨by omega, by omega⟩ ?_
          refine wp_iload_n dX9_tellCell_34 rfl ?_
          refine wp_bipush dX9_tellCell_35 ?_
          refine wp_imul dX9_tellCell_37 ⟨by omega, by omega⟩ ?_
          refine wp_iadd dX9_tellCell_38 ⟨by omega, by omega⟩ ?_
          refine wp_iload_n dX9_tellCell_39 rfl ?_
          refine wp_iadd dX9_tellCell_40 ⟨by omega, by omega⟩ ?_
          refine wp_iald dX9_tellCell_41 hA.2.2.1 (by omega) (by omega) ?_
          rw [uA_s]
          have e : w (7 + 71 * p + 28 * 0 + 10 + z * 6 + c) = if z = 0 then N (61 * p + (0 + c)) else if z = 1 then N (61 * p + (6 + c)) else N (61 * p + (12 + c)) := by
            rcases hz with rfl | rfl | rfl
            · rw [if_pos rfl, show 7 + 71 * p + 28 * 0 + 10 + 0 * 6 + c = 7 + 71 * p + 28 * 0 + 10 + c by omega, hR.rd hp (cm_cel (Or.inl rfl) (by omega)), bq0]
            · rw [if_neg (by decide), if_pos rfl, show 7 + 71 * p + 28 * 0 + 10 + 1 * 6 + c = 7 + 71 * p + 28 * 0 + 16 + c by omega, hR.rd hp (cm_snt (by omega))]
            · rw [if_neg (by decide), if_neg (by decide), show 7 + 71 * p + 28 * 0 + 10 + 2 * 6 + c = 7 + 71 * p + 28 * 0 + 22 + c by omega, hR.rd hp (cm_got (by omega))]
          rw [e]
          refine wp_ireturn dX9_tellCell_42 rfl ?_
          first | (rw [if_pos (by omega)] at k; exact k) | (rw [if_neg (by omega)] at k; exact k)
        · refine wp_iconst dX9_tellCell_21 ?_
          refine wp_ireturn dX9_tellCell_22 rfl ?_
          first | (rw [if_pos (by omega)] at k; exact k) | (rw [if_neg (by omega)] at k; exact k)
theorem c_tellWait {z : Int} (hA : SdA sh iv rv i wd p q) (hR : Rel w N) (k : R (some (aI (if z = 0 then N (61 * p + (28 + q)) else if z = 1 then (if N (61 * p + (28 + q)) = 1 then N (61 * p + (30 + q)) else -1) else if z = 2 then N (61 * p + (33 + q)) else -1))) sh (uA iv wd w) lw rv) : wp (d + 1) mX9_tellWait 0 [some (aR i), some (aI z)] [] sh (uA iv wd w) lw rv 0 0 R := by
  have hat := hA.at
  have hp := hA.2.2.2.2.2.1
  have hq := hA.2.2.2.2.2.2
  refine wp_iload_n dX9_tellWait_0 rfl ?_
  rcases (by omega : z = 0 ∨ z = 1 ∨ z = 2 ∨ (z < 0 ∨ 2 < z)) with h1 | h1 | h1 | h1
  · refine wp_tswIn (tgt := 28) dX9_tellWait_1 (by omega) (by omega) (by rw [h1]; rfl) rfl ?_
    refine wp_aload_n dX9_tellWait_28 rfl ?_
    refine wp_getR hA.2.1 dX9_tellWait_29 fX9_11 hA.1 ?_
    refine wp_aload_n dX9_tellWait_32 rfl ?_
    refine wp_getI dX9_tellWait_33 fX9_15 hA.1 ?_
    rw [hat]
    refine wp_iconst dX9_tellWait_36 ?_
    refine wp_iadd dX9_tellWait_37 ⟨by omega, by omega⟩ ?_
    refine wp_iald dX9_tellWait_38 hA.2.2.1 (by omega) (by omega) ?_
    rw [uA_s]
    rw [hR.rd hp (cm_wai hq)]
    refine wp_ireturn dX9_tellWait_39 rfl ?_
    (repeat' split at k) <;> first | exact k | (exfalso; omega)
  · refine wp_tswIn (tgt := 40) dX9_tellWait_1 (by omega) (by omega) (by rw [h1]; rfl) rfl ?_
    refine wp_aload_n dX9_tellWait_40 rfl ?_
    refine wp_callV (as := []) (ls0 := [_]) (kc := 0) (ks := 0) (bc' := 0) (bs' := 0) dX9_tellWait_41 vX9_19 hA.1 rfl rfl (Nat.le_of_ble_eq_true rfl) (Nat.le_of_ble_eq_true rfl) (by omega) (by omega) ?_
    refine c_isWaiting hA hR (fun h41 => ?_) (fun h41 => ?_)
    · refine wp_if_eq (tgt := 61) dX9_tellWait_44 rfl (fun q => absurd q (by decide)) (fun _ => ?_)
      refine wp_aload_n dX9_tellWait_47 rfl ?_
      refine wp_getR hA.2.1 dX9_tellWait_48 fX9_11 hA.1 ?_
      refine wp_aload_n dX9_tellWait_51 rfl ?_
      refine wp_getI dX9_tellWait_52 fX9_15 hA.1 ?_
      rw [hat]
      refine wp_iconst dX9_tellWait_55 ?_
      refine wp_iadd dX9_tellWait_56 ⟨by omega, by omega⟩ ?_
      refine wp_iald dX9_tellWait_57 hA.2.2.1 (by omega) (by omega) ?_
      rw [uA_s]
      rw [hR.rd hp (cm_frm hq)]
      refine wp_goto (tgt := 62) dX9_tellWait_58 rfl ?_
      refine wp_ireturn dX9_tellWait_62 rfl ?_
      (repeat' split at k) <;> first | exact k | (exfalso; omega)
    · refine wp_if_eq (tgt := 61) dX9_tellWait_44 rfl (fun _ => ?_) (fun q => absurd q (by decide))
      refine wp_iconst dX9_tellWait_61 ?_
      refine wp_ireturn dX9_tellWait_62 rfl ?_
      (repeat' split at k) <;> first | exact k | (exfalso; omega)
  · refine wp_tswIn (tgt := 63) dX9_tellWait_1 (by omega) (by omega) (by rw [h1]; rfl) rfl ?_
    refine wp_aload_n dX9_tellWait_63 rfl ?_
    refine wp_getR hA.2.1 dX9_tellWait_64 fX9_11 hA.1 ?_
    refine wp_aload_n dX9_tellWait_67 rfl ?_
    refine wp_getI dX9_tellWait_68 fX9_15 hA.1 ?_
    rw [hat]
    refine wp_iconst dX9_tellWait_71 ?_
    refine wp_iadd dX9_tellWait_72 ⟨by omega, by omega⟩ ?_
    refine wp_iald dX9_tellWait_73 hA.2.2.1 (by omega) (by omega) ?_
    rw [uA_s]
    rw [hR.rd hp (cm_pmn hq)]
    refine wp_ireturn dX9_tellWait_74 rfl ?_
    (repeat' split at k) <;> first | exact k | (exfalso; omega)
  · refine wp_tswOut (tgt := 75) dX9_tellWait_1 (by omega) rfl ?_
    refine wp_iconst dX9_tellWait_75 ?_
    refine wp_ireturn dX9_tellWait_76 rfl ?_
    (repeat' split at k) <;> first | exact k | (exfalso; omega)
theorem l_alsoIn {i2 : Nat} (hA : SdA sh iv rv i wd p 0) (hA2 : SdA sh iv rv i2 wd p 1) (hR : Rel w N) (hB : Bok W Of N) (k : R (some (aI (shP N p))) sh (uA iv wd w) lw rv) (m : Nat) : ∀ j x : Int, 0 ≤ j → j + m = N (61 * p + 18) → x = cntP (fun i => ¬ plc N p 1 (N (61 * p + (0 + i))) = -1) j.toNat → wp (d + 1) mX9_cellsAlsoIn 18 [some (aR i), some (aR i2), some (aI x), some (aI (N (61 * p + 18))), some (aI j)] [] sh (uA iv wd w) lw rv 0 0 R := by
  have hat := hA.at
  have hp := hA.2.2.2.2.2.1
  have hq := hA.2.2.2.2.2.2
  have hm6 := hB.v18 hp
  induction m with
  | zero =>
    intro j x h0 hm hx
    refine wp_iload dX9_cellsAlsoIn_18 rfl ?_
    refine wp_iload_n dX9_cellsAlsoIn_20 rfl ?_
    refine wp_icmp_ge (tgt := 56) dX9_cellsAlsoIn_21 rfl (fun h21 => ?_) (fun h21 => by exfalso; omega)
    refine wp_iload_n dX9_cellsAlsoIn_56 rfl ?_
    refine wp_ireturn dX9_cellsAlsoIn_57 rfl ?_
    rw [hx, show j = N (61 * p + 18) by omega]; exact k
  | succ m ih =>
    intro j x h0 hm hx
    have hr := cntP_r (Q := fun i => ¬ plc N p 1 (N (61 * p + (0 + i))) = -1) j.toNat
    refine wp_iload dX9_cellsAlsoIn_18 rfl ?_
    refine wp_iload_n dX9_cellsAlsoIn_20 rfl ?_
    refine wp_icmp_ge (tgt := 56) dX9_cellsAlsoIn_21 rfl (fun h21 => by exfalso; omega) (fun h21 => ?_)
    refine wp_aload_n dX9_cellsAlsoIn_24 rfl ?_
    refine wp_aload_n dX9_cellsAlsoIn_25 rfl ?_
    refine wp_getR hA.2.1 dX9_cellsAlsoIn_26 fX9_11 hA.1 ?_
    refine wp_aload_n dX9_cellsAlsoIn_29 rfl ?_
    refine wp_getI dX9_cellsAlsoIn_30 fX9_15 hA.1 ?_
    rw [hat]
    refine wp_bipush dX9_cellsAlsoIn_33 ?_
    refine wp_iadd dX9_cellsAlsoIn_35 ⟨by omega, by omega⟩ ?_
    refine wp_iload dX9_cellsAlsoIn_36 rfl ?_
    refine wp_iadd dX9_cellsAlsoIn_38 ⟨by omega, by omega⟩ ?_
    refine wp_iald dX9_cellsAlsoIn_39 hA.2.2.1 (by omega) (by omega) ?_
    rw [uA_s]
    rw [hR.rd hp (cm_cel (Or.inl rfl) (by omega)), bq0]
    refine wp_callV (as := [_]) (ls0 := [_, _, _, _]) (kc := 0) (ks := 0) (bc' := 0) (bs' := 0) dX9_cellsAlsoIn_40 vX9_27 hA2.1 rfl rfl (Nat.le_of_ble_eq_true rfl) (Nat.le_of_ble_eq_true rfl) (by omega) (by omega) ?_
    refine c_placeOf hA2 hR hB ?_
    refine wp_iconst dX9_cellsAlsoIn_43 ?_
    refine wp_icmp_eq (tgt := 50) dX9_cellsAlsoIn_44 rfl (fun h44 => ?_) (fun h44 => ?_)
    · have hc := cn1_f (P := ¬ plc N p 1 (N (61 * p + (0 + j))) = -1) (fun z => z h44)
      refine wp_iinc (ls' := [_, _, _, _, _]) dX9_cellsAlsoIn_50 (by decide) rfl rfl ⟨by omega, by omega⟩ rfl ?_
      refine wp_goto (tgt := 18) dX9_cellsAlsoIn_53 rfl ?_
      exact ih _ _ (by omega) (by omega) (by rw [toN1 h0, cntP, toNI h0]; show _ = _ + cn1 (¬ plc N p 1 (N (61 * p + (0 + j))) = -1); rw [hc]; omega)
    · have hc := cn1_t (P := ¬ plc N p 1 (N (61 * p + (0 + j))) = -1) h44
      refine wp_iinc (ls' := [_, _, _, _, _]) dX9_cellsAlsoIn_47 (by decide) rfl rfl ⟨by omega, by omega⟩ rfl ?_
      refine wp_iinc (ls' := [_, _, _, _, _]) dX9_cellsAlsoIn_50 (by decide) rfl rfl ⟨by omega, by omega⟩ rfl ?_
      refine wp_goto (tgt := 18) dX9_cellsAlsoIn_53 rfl ?_
      exact ih _ _ (by omega) (by omega) (by rw [toN1 h0, cntP, toNI h0]; show _ = _ + cn1 (¬ plc N p 1 (N (61 * p + (0 + j))) = -1); rw [hc]; omega)
theorem c_alsoIn {i2 : Nat} (hA : SdA sh iv rv i wd p 0) (hA2 : SdA sh iv rv i2 wd p 1) (hR : Rel w N) (hB : Bok W Of N) (k : R (some (aI (shP N p))) sh (uA iv wd w) lw rv) : wp (d + 1) mX9_cellsAlsoIn 0 [some (aR i), some (aR i2), none, none, none] [] sh (uA iv wd w) lw rv 0 0 R := by
  have hat := hA.at
  have hp := hA.2.2.2.2.2.1
  have hq := hA.2.2.2.2.2.2
  have hm6 := hB.v18 hp
  refine wp_iconst dX9_cellsAlsoIn_0 ?_
  refine wp_istore_n (ls' := [_, _, _, _, _]) dX9_cellsAlsoIn_1 (by decide) rfl rfl ?_
  refine wp_aload_n dX9_cellsAlsoIn_2 rfl ?_
  refine wp_getR hA.2.1 dX9_cellsAlsoIn_3 fX9_11 hA.1 ?_
  refine wp_aload_n dX9_cellsAlsoIn_6 rfl ?_
  refine wp_getI dX9_cellsAlsoIn_7 fX9_15 hA.1 ?_
  rw [hat]
  refine wp_bipush dX9_cellsAlsoIn_10 ?_
  refine wp_iadd dX9_cellsAlsoIn_12 ⟨by omega, by omega⟩ ?_
  refine wp_iald dX9_cellsAlsoIn_13 hA.2.2.1 (by omega) (by omega) ?_
  rw [uA_s]
  rw [hR.rd hp (cm_mny (Or.inl rfl)), mq0]
  refine wp_istore_n (ls' := [_, _, _, _, _]) dX9_cellsAlsoIn_14 (by decide) rfl rfl ?_
  refine wp_iconst dX9_cellsAlsoIn_15 ?_
  refine wp_istore (ls' := [_, _, _, _, _]) dX9_cellsAlsoIn_16 (by decide) rfl rfl ?_
  exact l_alsoIn hA hA2 hR hB k (N (61 * p + 18)).toNat _ _ (by omega) (by omega) rfl
def SamC (N : Int → Int) (p : Int) : Prop := N (61 * p + 18) = N (61 * p + 25) ∧ ∀ j : Int, 0 ≤ j → j < N (61 * p + 18) → N (61 * p + (0 + j)) = N (61 * p + (19 + j))
theorem l_same {i2 : Nat} (hA : SdA sh iv rv i wd p 0) (hA2 : SdA sh iv rv i2 wd p 1) (hR : Rel w N) (hB : Bok W Of N) (he : N (61 * p + 18) = N (61 * p + 25)) (kt : SamC N p → R (some (aI 1)) sh (uA iv wd w) lw rv) (kf : ¬ SamC N p → R (some (aI 0)) sh (uA iv wd w) lw rv) (m : Nat) : ∀ j : Int, 0 ≤ j → j + m = N (61 * p + 18) → (∀ z : Int, 0 ≤ z → z < j → N (61 * p + (0 + z)) = N (61 * p + (19 + z))) → wp (d) mX9_hasSameCells 33 [some (aR i), some (aR i2), some (aI (N (61 * p + 18))), some (aI j)] [] sh (uA iv wd w) lw rv 0 0 R := by
  have hat := hA.at
  have hp := hA.2.2.2.2.2.1
  have hq := hA.2.2.2.2.2.2
  have hm6 := hB.v18 hp
  have hat2 := hA2.at
  induction m with
  | zero =>
    intro j h0 hm ha
    refine wp_iload_n dX9_hasSameCells_33 rfl ?_
    refine wp_iload_n dX9_hasSameCells_34 rfl ?_
    refine wp_icmp_ge (tgt := 77) dX9_hasSameCells_35 rfl (fun h35 => ?_) (fun h35 => by exfalso; omega)
    refine wp_iconst dX9_hasSameCells_77 ?_
    refine wp_zreturn dX9_hasSameCells_78 rfl (Or.inr rfl) ?_
    exact kt ⟨he, fun z a b => ha z a (by omega)⟩
  | succ m ih =>
    intro j h0 hm ha
    refine wp_iload_n dX9_hasSameCells_33 rfl ?_
    refine wp_iload_n dX9_hasSameCells_34 rfl ?_
    refine wp_icmp_ge (tgt := 77) dX9_hasSameCells_35 rfl (fun h35 => by exfalso; omega) (fun h35 => ?_)
    refine wp_aload_n dX9_hasSameCells_38 rfl ?_
    refine wp_getR hA.2.1 dX9_hasSameCells_39 fX9_11 hA.1 ?_
    refine wp_aload_n dX9_hasSameCells_42 rfl ?_
    refine wp_getI dX9_hasSameCells_43 fX9_15 hA.1 ?_
    first | rw [hat] | rw [hat2]
    refine wp_bipush dX9_hasSameCells_46 ?_
    refine wp_iadd dX9_hasSameCells_48 ⟨by omega, by omega⟩ ?_
    refine wp_iload_n dX9_hasSameCells_49 rfl ?_
    refine wp_iadd dX9_hasSameCells_50 ⟨by omega, by omega⟩ ?_
    refine wp_iald dX9_hasSameCells_51 hA.2.2.1 (by omega) (by omega) ?_
    rw [uA_s]
    rw [hR.rd hp (cm_cel (Or.inl rfl) (by omega)), bq0]
    refine wp_aload_n dX9_hasSameCells_52 rfl ?_
    refine wp_getR hA2.2.1 dX9_hasSameCells_53 fX9_11 hA2.1 ?_
    refine wp_aload_n dX9_hasSameCells_56 rfl ?_
    refine wp_getI dX9_hasSameCells_57 fX9_15 hA2.1 ?_
    first | rw [hat] | rw [hat2]
    refine wp_bipush dX9_hasSameCells_60 ?_
    refine wp_iadd dX9_hasSameCells_62 ⟨by omega, by omega⟩ ?_
    refine wp_iload_n dX9_hasSameCells_63 rfl ?_
    refine wp_iadd dX9_hasSameCells_64 ⟨by omega, by omega⟩ ?_
    refine wp_iald dX9_hasSameCells_65 hA.2.2.1 (by omega) (by omega) ?_
    rw [uA_s]
    rw [hR.rd hp (cm_cel (Or.inr rfl) (by omega)), bq1]
    refine wp_icmp_eq (tgt := 71) dX9_hasSameCells_66 rfl (fun h66 => ?_) (fun h66 => ?_)
    · refine wp_iinc (ls' := [_, _, _, _]) dX9_hasSameCells_71 (by decide) rfl rfl ⟨by omega, by omega⟩ rfl ?_
      refine wp_goto (tgt := 33) dX9_hasSameCells_74 rfl ?_
      exact ih _ (by omega) (by omega) (fun z a b => by
        by_cases e : z = j
        · rw [e]; exact h66
        · exact ha z a (by omega))
    · refine wp_iconst dX9_hasSameCells_69 ?_
      refine wp_zreturn dX9_hasSameCells_70 rfl (Or.inl rfl) ?_
      exact kf (fun z => h66 (z.2 j h0 (by omega)))
theorem c_same {i2 : Nat} (hA : SdA sh iv rv i wd p 0) (hA2 : SdA sh iv rv i2 wd p 1) (hR : Rel w N) (hB : Bok W Of N) (kt : SamC N p → R (some (aI 1)) sh (uA iv wd w) lw rv) (kf : ¬ SamC N p → R (some (aI 0)) sh (uA iv wd w) lw rv) : wp (d) mX9_hasSameCells 0 [some (aR i), some (aR i2), none, none] [] sh (uA iv wd w) lw rv 0 0 R := by
  have hat := hA.at
  have hp := hA.2.2.2.2.2.1
  have hq := hA.2.2.2.2.2.2
  have hm6 := hB.v18 hp
  have hat2 := hA2.at
  refine wp_aload_n dX9_hasSameCells_0 rfl ?_
  refine wp_getR hA.2.1 dX9_hasSameCells_1 fX9_11 hA.1 ?_
  refine wp_aload_n dX9_hasSameCells_4 rfl ?_
  refine wp_getI dX9_hasSameCells_5 fX9_15 hA.1 ?_
  first | rw [hat] | rw [hat2]
  refine wp_bipush dX9_hasSameCells_8 ?_
  refine wp_iadd dX9_hasSameCells_10 ⟨by omega, by omega⟩ ?_
  refine wp_iald dX9_hasSameCells_11 hA.2.2.1 (by omega) (by omega) ?_
  rw [uA_s]
  rw [hR.rd hp (cm_mny (Or.inl rfl)), mq0]
  refine wp_istore_n (ls' := [_, _, _, _]) dX9_hasSameCells_12 (by decide) rfl rfl ?_
  refine wp_iload_n dX9_hasSameCells_13 rfl ?_
  refine wp_aload_n dX9_hasSameCells_14 rfl ?_
  refine wp_getR hA2.2.1 dX9_hasSameCells_15 fX9_11 hA2.1 ?_
  refine wp_aload_n dX9_hasSameCells_18 rfl ?_
  refine wp_getI dX9_hasSameCells_19 fX9_15 hA2.1 ?_
  first | rw [hat] | rw [hat2]
  refine wp_bipush dX9_hasSameCells_22 ?_
  refine wp_iadd dX9_hasSameCells_24 ⟨by omega, by omega⟩ ?_
  refine wp_iald dX9_hasSameCells_25 hA.2.2.1 (by omega) (by omega) ?_
  rw [uA_s]
  rw [hR.rd hp (cm_mny (Or.inr rfl)), mq1]
  refine wp_icmp_eq (tgt := 31) dX9_hasSameCells_26 rfl (fun h26 => ?_) (fun h26 => ?_)
  · refine wp_iconst dX9_hasSameCells_31 ?_
    refine wp_istore_n (ls' := [_, _, _, _]) dX9_hasSameCells_32 (by decide) rfl rfl ?_
    exact l_same hA hA2 hR hB h26 kt kf (N (61 * p + 18)).toNat _ (by omega) (by omega) (fun z a b => by omega)
  · refine wp_iconst dX9_hasSameCells_29 ?_
    refine wp_zreturn dX9_hasSameCells_30 rfl (Or.inl rfl) ?_
    exact kf (fun z => h26 z.1)
/-- what is got in all of a pair's cells -/
def gtO (N : Int → Int) (p : Int) : Nat → Int
  | 0 => 0
  | m + 1 => gtO N p m + N (61 * p + (12 + (m : Int)))
theorem gtO_r (hB : Bok W Of N) (hp : 0 ≤ p ∧ p < 6) (m : Nat) (hm : m ≤ 6) : 0 ≤ gtO N p m ∧ gtO N p m ≤ 999 * m := by
  induction m with
  | zero => exact ⟨Int.le_refl _, Int.le_refl _⟩
  | succ m ih =>
    have h1 := ih (by omega)
    have h2 := hB p (12 + (m : Int)) hp.1 hp.2 (by omega) (by omega)
    rw [k999 (by omega)] at h2
    rw [gtO]; omega
theorem l_gotIn (hA : SdA sh iv rv i wd p 0) (hR : Rel w N) (hB : Bok W Of N) (k : R (some (aI (gtO N p (N (61 * p + 18)).toNat))) sh (uA iv wd w) lw rv) (m : Nat) : ∀ j x : Int, 0 ≤ j → j + m = N (61 * p + 18) → x = gtO N p j.toNat → wp (d + 1) mX9_gotInAll 9 [some (aR i), some (aI (N (61 * p + 18))), some (aI x), some (aI j)] [] sh (uA iv wd w) lw rv 0 0 R := by
  have hat := hA.at
  have hp := hA.2.2.2.2.2.1
  have hq := hA.2.2.2.2.2.2
  have hm6 := hB.v18 hp
  induction m with
  | zero =>
    intro j x h0 hm hx
    refine wp_iload_n dX9_gotInAll_9 rfl ?_
    refine wp_iload_n dX9_gotInAll_10 rfl ?_
    refine wp_icmp_ge (tgt := 37) dX9_gotInAll_11 rfl (fun h11 => ?_) (fun h11 => by exfalso; omega)
    refine wp_iload_n dX9_gotInAll_37 rfl ?_
    refine wp_ireturn dX9_gotInAll_38 rfl ?_
    rw [hx, show j = N (61 * p + 18) by omega]; exact k
  | succ m ih =>
    intro j x h0 hm hx
    have hr := gtO_r hB hp j.toNat (by omega)
    have h2 := hB p (12 + j) hp.1 hp.2 (by omega) (by omega)
    rw [k999 (by omega)] at h2
    refine wp_iload_n dX9_gotInAll_9 rfl ?_
    refine wp_iload_n dX9_gotInAll_10 rfl ?_
    refine wp_icmp_ge (tgt := 37) dX9_gotInAll_11 rfl (fun h11 => by exfalso; omega) (fun h11 => ?_)
    refine wp_iload_n dX9_gotInAll_14 rfl ?_
    refine wp_aload_n dX9_gotInAll_15 rfl ?_
    refine wp_getR hA.2.1 dX9_gotInAll_16 fX9_11 hA.1 ?_
    refine wp_aload_n dX9_gotInAll_19 rfl ?_
    refine wp_getI dX9_gotInAll_20 fX9_15 hA.1 ?_
    rw [hat]
    refine wp_bipush dX9_gotInAll_23 ?_
    refine wp_iadd dX9_gotInAll_25 ⟨by omega, by omega⟩ ?_
    refine wp_iload_n dX9_gotInAll_26 rfl ?_
    refine wp_iadd dX9_gotInAll_27 ⟨by omega, by omega⟩ ?_
    refine wp_iald dX9_gotInAll_28 hA.2.2.1 (by omega) (by omega) ?_
    rw [uA_s]
    rw [hR.rd hp (cm_got (by omega))]
    refine wp_iadd dX9_gotInAll_29 ⟨by omega, by omega⟩ ?_
    refine wp_istore_n (ls' := [_, _, _, _]) dX9_gotInAll_30 (by decide) rfl rfl ?_
    refine wp_iinc (ls' := [_, _, _, _]) dX9_gotInAll_31 (by decide) rfl rfl ⟨by omega, by omega⟩ rfl ?_
    refine wp_goto (tgt := 9) dX9_gotInAll_34 rfl ?_
    exact ih _ _ (by omega) (by omega) (by rw [toN1 h0, gtO, toNI h0, hx])
theorem c_gotIn (hA : SdA sh iv rv i wd p 0) (hR : Rel w N) (hB : Bok W Of N) (k : R (some (aI (gtO N p (N (61 * p + 18)).toNat))) sh (uA iv wd w) lw rv) : wp (d + 1) mX9_gotInAll 0 [some (aR i), none, none, none] [] sh (uA iv wd w) lw rv 0 0 R := by
  have hat := hA.at
  have hp := hA.2.2.2.2.2.1
  have hq := hA.2.2.2.2.2.2
  have hm6 := hB.v18 hp
  refine wp_aload_n dX9_gotInAll_0 rfl ?_
  refine wp_callV (as := []) (ls0 := [_]) (kc := 0) (ks := 0) (bc' := 0) (bs' := 0) dX9_gotInAll_1 vX9_23 hA.1 rfl rfl (Nat.le_of_ble_eq_true rfl) (Nat.le_of_ble_eq_true rfl) (by omega) (by omega) ?_
  refine c_size hA hR ?_
  rw [mq0]
  refine wp_istore_n (ls' := [_, _, _, _]) dX9_gotInAll_4 (by decide) rfl rfl ?_
  refine wp_iconst dX9_gotInAll_5 ?_
  refine wp_istore_n (ls' := [_, _, _, _]) dX9_gotInAll_6 (by decide) rfl rfl ?_
  refine wp_iconst dX9_gotInAll_7 ?_
  refine wp_istore_n (ls' := [_, _, _, _]) dX9_gotInAll_8 (by decide) rfl rfl ?_
  exact l_gotIn hA hR hB k (N (61 * p + 18)).toNat _ _ (by omega) (by omega) rfl
theorem t_tell {z : Int} (hz0 : iR z) (hA : LtA sh iv rv i wd p) (hR : Rel w N) (hB : Bok W Of N) (k : R (some (aI (if N (61 * p + 43) = 0 then -1 else if ¬ (0 ≤ z ∧ z ≤ 12) then -1 else if z = 0 then N (61 * p + 44) else if z = 1 then N (61 * p + 45) else if z = 2 then N (61 * p + 46) else if z = 3 then N (61 * p + 47) else if z = 4 then N (61 * p + 49) else if z = 5 then N (61 * p + 48) else if z - 6 < N (61 * p + 48) then N (61 * p + (50 + (z - 6))) else -1))) sh (uA iv wd w) lw rv) : wp (d + 1) mX2_tell 0 [some (aR i), some (aI z)] [] sh (uA iv wd w) lw rv 0 0 R := by
  have hat := hA.at
  have hp := hA.2.2.2.2.2
  have hz1 := hz0.1
  have hz2 := hz0.2
  have h43 := hB.v43 hp
  have h48 := hB.v48 hp
  refine wp_aload_n dX2_tell_0 rfl ?_
  refine wp_callV (as := []) (ls0 := [_]) (kc := 0) (ks := 0) (bc' := 0) (bs' := 0) dX2_tell_1 vX2_19 hA.1 rfl rfl (Nat.le_of_ble_eq_true rfl) (Nat.le_of_ble_eq_true rfl) (by omega) (by omega) ?_
  refine t_isUnderWay hA hR (fun h1 => ?_) (fun h1 => ?_)
  · refine wp_if_eq (tgt := 11) dX2_tell_4 rfl (fun q => absurd q (by decide)) (fun _ => ?_)
    refine wp_iload_n dX2_tell_7 rfl ?_
    refine wp_if_ge (tgt := 13) dX2_tell_8 rfl (fun h8 => ?_) (fun h8 => ?_)
    · refine wp_iload_n dX2_tell_13 rfl ?_
      refine wp_iconst dX2_tell_14 ?_
      refine wp_icmp_gt (tgt := 34) dX2_tell_15 rfl (fun h15 => ?_) (fun h15 => ?_)
      · refine wp_aload_n dX2_tell_34 rfl ?_
        refine wp_iload_n dX2_tell_35 rfl ?_
        refine wp_bipush dX2_tell_36 ?_
        refine wp_isub dX2_tell_38 ⟨by omega, by omega⟩ ?_
        refine wp_callV (as := [_]) (ls0 := [_, _]) (kc := 0) (ks := 0) (bc' := 0) (bs' := 0) dX2_tell_39 vX2_23 hA.1 rfl rfl (Nat.le_of_ble_eq_true rfl) (Nat.le_of_ble_eq_true rfl) (by omega) (by omega) ?_
        refine t_numberAt hA hR h48 ?_
        refine wp_ireturn dX2_tell_42 rfl ?_
        (repeat' split at k) <;> first | exact k | (exfalso; omega) | ((repeat' split) <;> first | exact k | (exfalso; omega))
      · have hz : z = 0 ∨ z = 1 ∨ z = 2 ∨ z = 3 ∨ z = 4 ∨ z = 5 := by omega
        refine wp_aload_n dX2_tell_18 rfl ?_
        refine wp_getR hA.2.1 dX2_tell_19 fX2_11 hA.1 ?_
        refine wp_aload_n dX2_tell_22 rfl ?_
        refine wp_getI dX2_tell_23 fX2_15 hA.1 ?_
        rw [hat]
        refine wp_iconst dX2_tell_26 ?_
        refine wp_iadd dX2_tell_27 ⟨by omega, by omega⟩ ?_
        refine wp_iload_n dX2_tell_28 rfl ?_
        refine wp_iadd dX2_tell_29 ⟨by omega, by omega⟩ ?_
        refine wp_iald dX2_tell_30 hA.2.2.1 (by omega) (by omega) ?_
        rw [uA_s]
        have e : w (63 + 71 * p + 1 + z) = if z = 0 then N (61 * p + 44) else if z = 1 then N (61 * p + 45) else if z = 2 then N (61 * p + 46) else if z = 3 then N (61 * p + 47) else if z = 4 then N (61 * p + 49) else N (61 * p + 48) := by
          rcases hz with rfl | rfl | rfl | rfl | rfl | rfl
          · exact hR.rd (k := 44) hp ⟨by rw [show cmk 44 = 61 from rfl]; omega, by unfold vis; omega⟩
          · exact hR.rd (k := 45) hp ⟨by rw [show cmk 45 = 62 from rfl]; omega, by unfold vis; omega⟩
          · exact hR.rd (k := 46) hp ⟨by rw [show cmk 46 = 63 from rfl]; omega, by unfold vis; omega⟩
          · exact hR.rd (k := 47) hp ⟨by rw [show cmk 47 = 64 from rfl]; omega, by unfold vis; omega⟩
          · exact hR.rd (k := 49) hp ⟨by rw [show cmk 49 = 65 from rfl]; omega, by unfold vis; omega⟩
          · exact hR.rd (k := 48) hp ⟨by rw [show cmk 48 = 66 from rfl]; omega, by unfold vis; omega⟩
        rw [e]
        refine wp_goto (tgt := 42) dX2_tell_31 rfl ?_
        refine wp_ireturn dX2_tell_42 rfl ?_
        (repeat' split at k) <;> first | exact k | (exfalso; omega) | ((repeat' split) <;> first | exact k | (exfalso; omega))
    · refine wp_iconst dX2_tell_11 ?_
      refine wp_ireturn dX2_tell_12 rfl ?_
      (repeat' split at k) <;> first | exact k | (exfalso; omega) | ((repeat' split) <;> first | exact k | (exfalso; omega))
  · refine wp_if_eq (tgt := 11) dX2_tell_4 rfl (fun _ => ?_) (fun q => absurd q (by decide))
    refine wp_iconst dX2_tell_11 ?_
    refine wp_ireturn dX2_tell_12 rfl ?_
    (repeat' split at k) <;> first | exact k | (exfalso; omega) | ((repeat' split) <;> first | exact k | (exfalso; omega))
theorem k_tell {z : Int} (hA : LkA sh iv rv i wd s r m p) (hR : Rel w N) (k : R (some (aI (if z = 3 then N (61 * p + 58) else if z = 4 then N (61 * p + 57) else if z = 5 then N (61 * p + 59) else if z = 6 then N (61 * p + 60) else if z = 7 then N (61 * p + 26) else if z = 8 then N (61 * p + 27) else if z = 9 then N (61 * p + 18) else if z = 10 then N (61 * p + 25) else -1))) sh (uA iv wd w) lw rv) : wp (d + 1) mX3_tell 0 [some (aR i), some (aI z)] [] sh (uA iv wd w) lw rv 0 0 R := by
  have hat := hA.at
  have hp := hA.2.2.2.2.2.1
  refine wp_iload_n dX3_tell_0 rfl ?_
  rcases (by omega : z = 3 ∨ z = 4 ∨ z = 5 ∨ z = 6 ∨ z = 7 ∨ z = 8 ∨ z = 9 ∨ z = 10 ∨ (z < 3 ∨ 10 < z)) with h1 | h1 | h1 | h1 | h1 | h1 | h1 | h1 | h1
  · refine wp_tswIn (tgt := 48) dX3_tell_1 (by omega) (by omega) (by rw [h1]; rfl) rfl ?_
    refine wp_aload_n dX3_tell_48 rfl ?_
    refine wp_getR hA.2.1 dX3_tell_49 fX3_19 hA.1 ?_
    refine wp_aload_n dX3_tell_52 rfl ?_
    refine wp_getI dX3_tell_53 fX3_23 hA.1 ?_
    rw [hat]
    refine wp_iconst dX3_tell_56 ?_
    refine wp_iadd dX3_tell_57 ⟨by omega, by omega⟩ ?_
    refine wp_iald dX3_tell_58 hA.2.2.1 (by omega) (by omega) ?_
    rw [uA_s]
    rw [hR.rd hp cm58]
    refine wp_ireturn dX3_tell_59 rfl ?_
    (repeat' split at k) <;> first | exact k | (exfalso; omega)
  · refine wp_tswIn (tgt := 60) dX3_tell_1 (by omega) (by omega) (by rw [h1]; rfl) rfl ?_
    refine wp_aload_n dX3_tell_60 rfl ?_
    refine wp_getR hA.2.1 dX3_tell_61 fX3_19 hA.1 ?_
    refine wp_aload_n dX3_tell_64 rfl ?_
    refine wp_getI dX3_tell_65 fX3_23 hA.1 ?_
    rw [hat]
    refine wp_iconst dX3_tell_68 ?_
    refine wp_iadd dX3_tell_69 ⟨by omega, by omega⟩ ?_
    refine wp_iald dX3_tell_70 hA.2.2.1 (by omega) (by omega) ?_
    rw [uA_s]
    rw [hR.rd hp cm57]
    refine wp_ireturn dX3_tell_71 rfl ?_
    (repeat' split at k) <;> first | exact k | (exfalso; omega)
  · refine wp_tswIn (tgt := 72) dX3_tell_1 (by omega) (by omega) (by rw [h1]; rfl) rfl ?_
    refine wp_aload_n dX3_tell_72 rfl ?_
    refine wp_getR hA.2.1 dX3_tell_73 fX3_19 hA.1 ?_
    refine wp_aload_n dX3_tell_76 rfl ?_
    refine wp_getI dX3_tell_77 fX3_23 hA.1 ?_
    rw [hat]
    refine wp_iconst dX3_tell_80 ?_
    refine wp_iadd dX3_tell_81 ⟨by omega, by omega⟩ ?_
    refine wp_iald dX3_tell_82 hA.2.2.1 (by omega) (by omega) ?_
    rw [uA_s]
    rw [hR.rd hp cm59]
    refine wp_ireturn dX3_tell_83 rfl ?_
    (repeat' split at k) <;> first | exact k | (exfalso; omega)
  · refine wp_tswIn (tgt := 84) dX3_tell_1 (by omega) (by omega) (by rw [h1]; rfl) rfl ?_
    refine wp_aload_n dX3_tell_84 rfl ?_
    refine wp_getR hA.2.1 dX3_tell_85 fX3_19 hA.1 ?_
    refine wp_aload_n dX3_tell_88 rfl ?_
    refine wp_getI dX3_tell_89 fX3_23 hA.1 ?_
    rw [hat]
    refine wp_iconst dX3_tell_92 ?_
    refine wp_iadd dX3_tell_93 ⟨by omega, by omega⟩ ?_
    refine wp_iald dX3_tell_94 hA.2.2.1 (by omega) (by omega) ?_
    rw [uA_s]
    rw [hR.rd hp cm60]
    refine wp_ireturn dX3_tell_95 rfl ?_
    (repeat' split at k) <;> first | exact k | (exfalso; omega)
  · refine wp_tswIn (tgt := 96) dX3_tell_1 (by omega) (by omega) (by rw [h1]; rfl) rfl ?_
    refine wp_aload_n dX3_tell_96 rfl ?_
    refine wp_getR hA.rS dX3_tell_97 fX3_29 hA.1 ?_
    refine wp_callV (as := []) (ls0 := [_]) (kc := 0) (ks := 0) (bc' := 0) (bs' := 0) dX3_tell_100 vX3_41 hA.sS.1 rfl rfl (Nat.le_of_ble_eq_true rfl) (Nat.le_of_ble_eq_true rfl) (by omega) (by omega) ?_
    refine c_seq hA.sS hR ?_
    rw [show (26 : Int) + 0 = 26 from rfl]
    refine wp_ireturn dX3_tell_103 rfl ?_
    (repeat' split at k) <;> first | exact k | (exfalso; omega)
  · refine wp_tswIn (tgt := 104) dX3_tell_1 (by omega) (by omega) (by rw [h1]; rfl) rfl ?_
    refine wp_aload_n dX3_tell_104 rfl ?_
    refine wp_getR hA.rR dX3_tell_105 fX3_33 hA.1 ?_
    refine wp_callV (as := []) (ls0 := [_]) (kc := 0) (ks := 0) (bc' := 0) (bs' := 0) dX3_tell_108 vX3_41 hA.sR.1 rfl rfl (Nat.le_of_ble_eq_true rfl) (Nat.le_of_ble_eq_true rfl) (by omega) (by omega) ?_
    refine c_seq hA.sR hR ?_
    rw [show (26 : Int) + 1 = 27 from rfl]
    refine wp_ireturn dX3_tell_111 rfl ?_
    (repeat' split at k) <;> first | exact k | (exfalso; omega)
  · refine wp_tswIn (tgt := 112) dX3_tell_1 (by omega) (by omega) (by rw [h1]; rfl) rfl ?_
    refine wp_aload_n dX3_tell_112 rfl ?_
    refine wp_getR hA.rS dX3_tell_113 fX3_29 hA.1 ?_
    refine wp_callV (as := []) (ls0 := [_]) (kc := 0) (ks := 0) (bc' := 0) (bs' := 0) dX3_tell_116 vX3_45 hA.sS.1 rfl rfl (Nat.le_of_ble_eq_true rfl) (Nat.le_of_ble_eq_true rfl) (by omega) (by omega) ?_
    refine c_size hA.sS hR ?_
    rw [mq0]
    refine wp_ireturn dX3_tell_119 rfl ?_
    (repeat' split at k) <;> first | exact k | (exfalso; omega)
  · refine wp_tswIn (tgt := 120) dX3_tell_1 (by omega) (by omega) (by rw [h1]; rfl) rfl ?_
    refine wp_aload_n dX3_tell_120 rfl ?_
    refine wp_getR hA.rR dX3_tell_121 fX3_33 hA.1 ?_
    refine wp_callV (as := []) (ls0 := [_]) (kc := 0) (ks := 0) (bc' := 0) (bs' := 0) dX3_tell_124 vX3_45 hA.sR.1 rfl rfl (Nat.le_of_ble_eq_true rfl) (Nat.le_of_ble_eq_true rfl) (by omega) (by omega) ?_
    refine c_size hA.sR hR ?_
    rw [mq1]
    refine wp_ireturn dX3_tell_127 rfl ?_
    (repeat' split at k) <;> first | exact k | (exfalso; omega)
  · refine wp_tswOut (tgt := 128) dX3_tell_1 (by omega) rfl ?_
    refine wp_iconst dX3_tell_128 ?_
    refine wp_ireturn dX3_tell_129 rfl ?_
    (repeat' split at k) <;> first | exact k | (exfalso; omega)
/-- tables that rise and have the same cells are alike place by place -/
theorem same_iff (hB : Bok W Of N) (hp : 0 ≤ p ∧ p < 6) (hr : RR N p) : SamC N p ↔ (N (61 * p + 18) = N (61 * p + 25) ∧ ∀ i : Int, 0 ≤ i → i < N (61 * p + 18) → ¬ plc N p 1 (N (61 * p + (0 + i))) = -1) := by
  have h18 := hB.v18 hp
  have h25 := hB.v25 hp
  constructor
  · rintro ⟨h1, h2⟩
    exact ⟨h1, fun j a b => plc_f (q := 1) (by rw [mq1]; omega) a (by rw [mq1]; omega) (by rw [bq1]; exact (h2 j a b).symm)⟩
  · rintro ⟨h1, h2⟩
    refine ⟨h1, ?_⟩
    have hx : ∀ j : Int, 0 ≤ j → j < N (61 * p + 18) → ∃ t : Int, 0 ≤ t ∧ t < N (61 * p + 18) ∧ N (61 * p + (19 + t)) = N (61 * p + (0 + j)) := fun j a b => by
      refine Classical.byContradiction (fun hn => h2 j a b ?_)
      have hf : ∀ (n : Nat) (z : Int), 0 ≤ z → z + n ≤ N (61 * p + 18) → fnd N p 19 (N (61 * p + (0 + j))) n z = -1 := by
        intro n
        induction n with
        | zero => intro z _ _; rfl
        | succ n ih => intro z z0 z1; rw [fnd, if_neg (fun e => hn ⟨z, z0, by omega, e⟩), ih _ (by omega) (by omega)]
      unfold plc
      rw [bq1, mq1]
      exact hf _ _ (by omega) (by omega)
    have lo : ∀ (n : Nat) (t : Int), (n : Int) < N (61 * p + 18) → 0 ≤ t → t < N (61 * p + 18) → N (61 * p + (19 + t)) = N (61 * p + (0 + n)) → (n : Int) ≤ t := by
      intro n
      induction n with
      | zero => intro t _ a _ _; omega
      | succ n ih =>
        intro t hn a b e
        obtain ⟨t2, c1, c2, c3⟩ := hx n (by omega) (by omega)
        have h3 := ih t2 (by omega) c1 c2 c3
        have h4 := hr.1 n (n + 1) (by omega) (by omega) (by rw [mq0]; omega)
        rw [bq0] at h4
        refine Classical.byContradiction (fun hlt => ?_)
        have h5 : t ≤ t2 := by omega
        by_cases e2 : t = t2
        · subst e2; rw [c3] at e; rw [show (((n + 1 : Nat)) : Int) = (n : Int) + 1 by omega] at e; omega
        · have h6 := hr.2 t t2 a (by omega) (by rw [mq1]; omega)
          rw [bq1] at h6
          rw [show (((n + 1 : Nat)) : Int) = (n : Int) + 1 by omega] at e
          omega
    have hi : ∀ (n : Nat) (t : Int), (n : Int) < N (61 * p + 18) → 0 ≤ t → t < N (61 * p + 18) → N (61 * p + (19 + t)) = N (61 * p + (0 + (N (61 * p + 18) - 1 - n))) → t ≤ N (61 * p + 18) - 1 - n := by
      intro n
      induction n with
      | zero => intro t _ a b _; omega
      | succ n ih =>
        intro t hn a b e
        obtain ⟨t2, c1, c2, c3⟩ := hx (N (61 * p + 18) - 1 - n) (by omega) (by omega)
        have h3 := ih t2 (by omega) c1 c2 c3
        have h4 := hr.1 (N (61 * p + 18) - 1 - (n + 1)) (N (61 * p + 18) - 1 - n) (by omega) (by omega) (by rw [mq0]; omega)
        rw [bq0] at h4
        refine Classical.byContradiction (fun hlt => ?_)
        have h5 : t2 ≤ t := by omega
        rw [show N (61 * p + 18) - 1 - (((n + 1 : Nat)) : Int) = N (61 * p + 18) - 1 - ((n : Int) + 1) by omega] at e
        by_cases e2 : t = t2
        · subst e2; rw [c3] at e; omega
        · have h6 := hr.2 t2 t c1 (by omega) (by rw [mq1]; omega)
          rw [bq1] at h6
          omega
    intro j a b
    obtain ⟨t, c1, c2, c3⟩ := hx j a b
    have g1 := lo j.toNat t (by omega) c1 c2 (by rw [show ((j.toNat : Nat) : Int) = j by omega]; exact c3)
    have g2 := hi (N (61 * p + 18) - 1 - j).toNat t (by omega) c1 c2 (by rw [show N (61 * p + 18) - 1 - (((N (61 * p + 18) - 1 - j).toNat : Nat) : Int) = j by omega]; exact c3)
    rw [← c3, show t = j by omega]
theorem k_agrees (hA : LkA sh iv rv i wd s r m p) (hR : Rel w N) (hB : Bok W Of N) (hr : RR N p) (kt : Agr N p → R (some (aI 1)) sh (uA iv wd w) lw rv) (kf : ¬ Agr N p → R (some (aI 0)) sh (uA iv wd w) lw rv) : wp (d + 1) mX3_agrees 0 [some (aR i)] [] sh (uA iv wd w) lw rv 0 0 R := by
  have hat := hA.at
  have hp := hA.2.2.2.2.2.1
  have hs := same_iff hB hp hr
  refine wp_aload_n dX3_agrees_0 rfl ?_
  refine wp_getR hA.rS dX3_agrees_1 fX3_29 hA.1 ?_
  refine wp_callV (as := []) (ls0 := [_]) (kc := 0) (ks := 0) (bc' := 0) (bs' := 0) dX3_agrees_4 vX3_41 hA.sS.1 rfl rfl (Nat.le_of_ble_eq_true rfl) (Nat.le_of_ble_eq_true rfl) (by omega) (by omega) ?_
  refine c_seq hA.sS hR ?_
  rw [show (26 : Int) + 0 = 26 from rfl]
  refine wp_aload_n dX3_agrees_7 rfl ?_
  refine wp_getR hA.rR dX3_agrees_8 fX3_33 hA.1 ?_
  refine wp_callV (as := []) (ls0 := [_]) (kc := 0) (ks := 0) (bc' := 0) (bs' := 0) dX3_agrees_11 vX3_41 hA.sR.1 rfl rfl (Nat.le_of_ble_eq_true rfl) (Nat.le_of_ble_eq_true rfl) (by omega) (by omega) ?_
  refine c_seq hA.sR hR ?_
  rw [show (26 : Int) + 1 = 27 from rfl]
  refine wp_icmp_ne (tgt := 35) dX3_agrees_14 rfl (fun h14 => ?_) (fun h14 => ?_)
  · refine wp_iconst dX3_agrees_35 ?_
    refine wp_zreturn dX3_agrees_36 rfl (Or.inl rfl) ?_
    first | exact kf (fun z => h25 (hs.mpr ⟨z.1.1, z.2⟩)) | exact kf (fun z => h14 z.1.2)
  · refine wp_aload_n dX3_agrees_17 rfl ?_
    refine wp_getR hA.rS dX3_agrees_18 fX3_29 hA.1 ?_
    refine wp_aload_n dX3_agrees_21 rfl ?_
    refine wp_getR hA.rR dX3_agrees_22 fX3_33 hA.1 ?_
    refine wp_callV (as := [_]) (ls0 := [_, _, _, _]) (kc := 0) (ks := 0) (bc' := 0) (bs' := 0) dX3_agrees_25 vX3_61 hA.sS.1 rfl rfl (Nat.le_of_ble_eq_true rfl) (Nat.le_of_ble_eq_true rfl) (by omega) (by omega) ?_
    refine c_same hA.sS hA.sR hR hB (fun h25 => ?_) (fun h25 => ?_)
    · refine wp_if_eq (tgt := 35) dX3_agrees_28 rfl (fun q => absurd q (by decide)) (fun _ => ?_)
      refine wp_iconst dX3_agrees_31 ?_
      refine wp_goto (tgt := 36) dX3_agrees_32 rfl ?_
      refine wp_zreturn dX3_agrees_36 rfl (Or.inr rfl) ?_
      exact kt ⟨⟨(hs.mp h25).1, h14⟩, (hs.mp h25).2⟩
    · refine wp_if_eq (tgt := 35) dX3_agrees_28 rfl (fun _ => ?_) (fun q => absurd q (by decide))
      refine wp_iconst dX3_agrees_35 ?_
      refine wp_zreturn dX3_agrees_36 rfl (Or.inl rfl) ?_
      first | exact kf (fun z => h25 (hs.mpr ⟨z.1.1, z.2⟩)) | exact kf (fun z => h14 z.1.2)
end C17a
