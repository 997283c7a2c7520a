/-- the plan: object 3, rules 4, items 5, hops 6; E, F: what the reference holds -/
def PlA (sh : aSh) (rv : aP) (iv E : aF) (F : Int → Int) : Prop := sh[3]? = some (3, 7) ∧ rv 3 0 = some 4 ∧ rv 3 1 = some 5 ∧ rv 3 2 = some 6 ∧ sh[4]? = some (0, 5) ∧ sh[5]? = some (0, 24) ∧ sh[6]? = some (0, 16) ∧ iv 3 3 = F 13 ∧ iv 3 4 = F 14 ∧ (∀ k : Int, 0 ≤ k → k < 5 → iv 4 k = E 5 k) ∧ (∀ k : Int, 0 ≤ k → k < 4 * F 13 → iv 5 k = E 6 k) ∧ ∀ k : Int, 0 ≤ k → k < F 14 → iv 6 k = E 7 k
theorem PlA.np {sh : aSh} {rv : aP} {iv E : aF} {F : Int → Int} (h : PlA sh rv iv E F) : iv 3 3 = F 13 := h.2.2.2.2.2.2.2.1
theorem PlA.nh {sh : aSh} {rv : aP} {iv E : aF} {F : Int → Int} (h : PlA sh rv iv E F) : iv 3 4 = F 14 := h.2.2.2.2.2.2.2.2.1
theorem PlA.ru {sh : aSh} {rv : aP} {iv E : aF} {F : Int → Int} {k : Int} (h : PlA sh rv iv E F) (hk : 0 ≤ k ∧ k < 5) : iv 4 k = E 5 k := h.2.2.2.2.2.2.2.2.2.1 k hk.1 hk.2
theorem PlA.it {sh : aSh} {rv : aP} {iv E : aF} {F : Int → Int} {k : Int} (h : PlA sh rv iv E F) (hk : 0 ≤ k ∧ k < 4 * F 13) : iv 5 k = E 6 k := h.2.2.2.2.2.2.2.2.2.2.1 k hk.1 hk.2
theorem PlA.ho {sh : aSh} {rv : aP} {iv E : aF} {F : Int → Int} {k : Int} (h : PlA sh rv iv E F) (hk : 0 ≤ k ∧ k < F 14) : iv 6 k = E 7 k := h.2.2.2.2.2.2.2.2.2.2.2 k hk.1 hk.2
theorem PlA.cg {sh : aSh} {rv : aP} {iv iv' E : aF} {F : Int → Int} (h : PlA sh rv iv E F) (e3 : iv' 3 = iv 3) (e4 : iv' 4 = iv 4) (e5 : iv' 5 = iv 5) (e6 : iv' 6 = iv 6) : PlA sh rv iv' E F := by
  unfold PlA at h ⊢; rw [e3, e4, e5, e6]; exact h
section C5a
variable {d : Nat} {sh : aSh} {iv lw E : aF} {rv : aP} {F : Int → Int} {R : aPost}
theorem n_pairs (hl : PlA sh rv iv E F) (k : R (some (aI (F 13))) sh iv lw rv) : wp (d) mX7_pairs 0 [some (aR 3)] [] sh iv lw rv 0 0 R := by
  refine wp_aload_n dX7_pairs_0 rfl ?_
  refine wp_getI dX7_pairs_1 fX7_35 hl.1 ?_
  rw [hl.np]
  refine wp_ireturn dX7_pairs_4 rfl ?_
  exact k
theorem n_hopCount (hl : PlA sh rv iv E F) (k : R (some (aI (F 14))) sh iv lw rv) : wp (d) mX7_hopCount 0 [some (aR 3)] [] sh iv lw rv 0 0 R := by
  refine wp_aload_n dX7_hopCount_0 rfl ?_
  refine wp_getI dX7_hopCount_1 fX7_40 hl.1 ?_
  rw [hl.nh]
  refine wp_ireturn dX7_hopCount_4 rfl ?_
  exact k
theorem n_slots (hl : PlA sh rv iv E F) (k : R (some (aI (E 5 0))) sh iv lw rv) : wp (d) mX7_slots 0 [some (aR 3)] [] sh iv lw rv 0 0 R := by
  refine wp_aload_n dX7_slots_0 rfl ?_
  refine wp_getR hl.2.1 dX7_slots_1 fX7_11 hl.1 ?_
  refine wp_iconst dX7_slots_4 ?_
  refine wp_iald dX7_slots_5 hl.2.2.2.2.1 (by omega) (by omega) ?_
  rw [hl.ru (by omega)]
  refine wp_ireturn dX7_slots_6 rfl ?_
  exact k
theorem n_timeout (hl : PlA sh rv iv E F) (k : R (some (aI (E 5 2))) sh iv lw rv) : wp (d) mX7_timeout 0 [some (aR 3)] [] sh iv lw rv 0 0 R := by
  refine wp_aload_n dX7_timeout_0 rfl ?_
  refine wp_getR hl.2.1 dX7_timeout_1 fX7_11 hl.1 ?_
  refine wp_iconst dX7_timeout_4 ?_
  refine wp_iald dX7_timeout_5 hl.2.2.2.2.1 (by omega) (by omega) ?_
  rw [hl.ru (by omega)]
  refine wp_ireturn dX7_timeout_6 rfl ?_
  exact k
theorem n_itemOf {p z : Int} (hF : F 13 ≤ 6) (hp : 0 ≤ p ∧ p < F 13) (hz : 0 ≤ z ∧ z < 4) (hl : PlA sh rv iv E F) (k : R (some (aI (E 6 (4 * p + z)))) sh iv lw rv) : wp (d) mX7_itemOf 0 [some (aR 3), some (aI p), some (aI z)] [] sh iv lw rv 0 0 R := by
  refine wp_iload_n dX7_itemOf_0 rfl ?_
  refine wp_if_lt (tgt := 34) dX7_itemOf_1 rfl (fun h1 => by exfalso; omega) (fun h1 => ?_)
  refine wp_iload_n dX7_itemOf_4 rfl ?_
  refine wp_aload_n dX7_itemOf_5 rfl ?_
  refine wp_getI dX7_itemOf_6 fX7_35 hl.1 ?_
  rw [hl.np]
  refine wp_icmp_ge (tgt := 34) dX7_itemOf_9 rfl (fun h9 => by exfalso; omega) (fun h9 => ?_)
  refine wp_iload_n dX7_itemOf_12 rfl ?_
  refine wp_if_lt (tgt := 34) dX7_itemOf_13 rfl (fun h13 => by exfalso; omega) (fun h13 => ?_)
  refine wp_iload_n dX7_itemOf_16 rfl ?_
  refine wp_iconst dX7_itemOf_17 ?_
  refine wp_icmp_ge (tgt := 34) dX7_itemOf_18 rfl (fun h18 => by exfalso; omega) (fun h18 => ?_)
  refine wp_aload_n dX7_itemOf_21 rfl ?_
  refine wp_getR hl.2.2.1 dX7_itemOf_22 fX7_15 hl.1 ?_
  refine wp_iload_n dX7_itemOf_25 rfl ?_
  refine wp_iconst dX7_itemOf_26 ?_
  refine wp_imul dX7_itemOf_27 ⟨by omega, by omega⟩ ?_
  refine wp_iload_n dX7_itemOf_28 rfl ?_
  refine wp_iadd dX7_itemOf_29 ⟨by omega, by omega⟩ ?_
  refine wp_iald dX7_itemOf_30 hl.2.2.2.2.2.1 (by omega) (by omega) ?_
  rw [hl.it (by omega)]
  refine wp_goto (tgt := 35) dX7_itemOf_31 rfl ?_
  refine wp_ireturn dX7_itemOf_35 rfl ?_
  rw [show p * 4 + z = 4 * p + z by omega]; exact k
theorem n_ruleOf {z : Int} (hl : PlA sh rv iv E F) (k : R (some (aI (if 0 ≤ z ∧ z < 5 then E 5 z else -1))) sh iv lw rv) : wp (d) mX7_ruleOf 0 [some (aR 3), some (aI z)] [] sh iv lw rv 0 0 R := by
  refine wp_iload_n dX7_ruleOf_0 rfl ?_
  refine wp_if_lt (tgt := 18) dX7_ruleOf_1 rfl (fun h1 => ?_) (fun h1 => ?_)
  · refine wp_iconst dX7_ruleOf_18 ?_
    refine wp_ireturn dX7_ruleOf_19 rfl ?_
    first | (rw [if_pos (by omega)] at k; exact k) | (rw [if_neg (by omega)] at k; exact k)
  · refine wp_iload_n dX7_ruleOf_4 rfl ?_
    refine wp_iconst dX7_ruleOf_5 ?_
    refine wp_icmp_ge (tgt := 18) dX7_ruleOf_6 rfl (fun h6 => ?_) (fun h6 => ?_)
    · refine wp_iconst dX7_ruleOf_18 ?_
      refine wp_ireturn dX7_ruleOf_19 rfl ?_
      first | (rw [if_pos (by omega)] at k; exact k) | (rw [if_neg (by omega)] at k; exact k)
    · refine wp_aload_n dX7_ruleOf_9 rfl ?_
      refine wp_getR hl.2.1 dX7_ruleOf_10 fX7_11 hl.1 ?_
      refine wp_iload_n dX7_ruleOf_13 rfl ?_
      refine wp_iald dX7_ruleOf_14 hl.2.2.2.2.1 (by omega) (by omega) ?_
      rw [hl.ru (by omega)]
      refine wp_goto (tgt := 19) dX7_ruleOf_15 rfl ?_
      refine wp_ireturn dX7_ruleOf_19 rfl ?_
      first | (rw [if_pos (by omega)] at k; exact k) | (rw [if_neg (by omega)] at k; exact k)
theorem n_cellInSlot {s p : Int} (hP : Prm E F) (hs : 0 ≤ s ∧ s < 16) (hp : 0 ≤ p ∧ p < 6) (hl : PlA sh rv iv E F) (k : R (some (aI (10 * s + (s + p) % E 5 1))) sh iv lw rv) : wp (d) mX7_cellInSlot 0 [some (aR 3), some (aI s), some (aI p), none] [] sh iv lw rv 0 0 R := by
  obtain ⟨hW1, hW2, hO1, hO2, hT1, hT2, hI1, hI2, hF1, hF2⟩ := id hP
  have e1 := Int.emod_nonneg (s + p) (by omega : E 5 1 ≠ 0)
  have e2 := Int.emod_lt_of_pos (s + p) (by omega : 0 < E 5 1)
  refine wp_aload_n dX7_cellInSlot_0 rfl ?_
  refine wp_getR hl.2.1 dX7_cellInSlot_1 fX7_11 hl.1 ?_
  refine wp_iconst dX7_cellInSlot_4 ?_
  refine wp_iald dX7_cellInSlot_5 hl.2.2.2.2.1 (by omega) (by omega) ?_
  rw [hl.ru (by omega)]
  refine wp_if_le (tgt := 22) dX7_cellInSlot_6 rfl (fun h6 => by exfalso; omega) (fun h6 => ?_)
  refine wp_iload_n dX7_cellInSlot_9 rfl ?_
  refine wp_iload_n dX7_cellInSlot_10 rfl ?_
  refine wp_iadd dX7_cellInSlot_11 ⟨by omega, by omega⟩ ?_
  refine wp_aload_n dX7_cellInSlot_12 rfl ?_
  refine wp_getR hl.2.1 dX7_cellInSlot_13 fX7_11 hl.1 ?_
  refine wp_iconst dX7_cellInSlot_16 ?_
  refine wp_iald dX7_cellInSlot_17 hl.2.2.2.2.1 (by omega) (by omega) ?_
  rw [hl.ru (by omega)]
  refine wp_irem dX7_cellInSlot_18 (by omega) (by omega) ?_
  refine wp_goto (tgt := 23) dX7_cellInSlot_19 rfl ?_
  refine wp_istore_n (ls' := [_, _, _, _]) dX7_cellInSlot_23 (by decide) rfl rfl ?_
  refine wp_iload_n dX7_cellInSlot_24 rfl ?_
  refine wp_bipush dX7_cellInSlot_25 ?_
  refine wp_imul dX7_cellInSlot_27 ⟨by omega, by omega⟩ ?_
  refine wp_iload_n dX7_cellInSlot_28 rfl ?_
  refine wp_iadd dX7_cellInSlot_29 ⟨by omega, by omega⟩ ?_
  refine wp_ireturn dX7_cellInSlot_30 rfl ?_
  rw [show s * 10 + (s + p) % E 5 1 = 10 * s + (s + p) % E 5 1 by omega]; exact k
theorem n_isTold (hl : PlA sh rv iv E F) (kt : 0 < F 13 → R (some (aI 1)) sh iv lw rv) (kf : ¬ (0 < F 13) → R (some (aI 0)) sh iv lw rv) : wp (d) mX7_isTold 0 [some (aR 3)] [] sh iv lw rv 0 0 R := by
  refine wp_aload_n dX7_isTold_0 rfl ?_
  refine wp_getI dX7_isTold_1 fX7_35 hl.1 ?_
  rw [hl.np]
  refine wp_if_le (tgt := 11) dX7_isTold_4 rfl (fun h4 => ?_) (fun h4 => ?_)
  · refine wp_iconst dX7_isTold_11 ?_
    refine wp_zreturn dX7_isTold_12 rfl (Or.inl rfl) ?_
    exact kf (by omega)
  · refine wp_iconst dX7_isTold_7 ?_
    refine wp_goto (tgt := 12) dX7_isTold_8 rfl ?_
    refine wp_zreturn dX7_isTold_12 rfl (Or.inr rfl) ?_
    exact kt (by omega)
theorem n_hasPair {p : Int} (hl : PlA sh rv iv E F) (kt : 0 ≤ p ∧ p < F 13 → R (some (aI 1)) sh iv lw rv) (kf : ¬ (0 ≤ p ∧ p < F 13) → R (some (aI 0)) sh iv lw rv) : wp (d) mX7_hasPair 0 [some (aR 3), some (aI p)] [] sh iv lw rv 0 0 R := by
  refine wp_iload_n dX7_hasPair_0 rfl ?_
  refine wp_if_lt (tgt := 16) dX7_hasPair_1 rfl (fun h1 => ?_) (fun h1 => ?_)
  · refine wp_iconst dX7_hasPair_16 ?_
    refine wp_zreturn dX7_hasPair_17 rfl (Or.inl rfl) ?_
    exact kf (by omega)
  · refine wp_iload_n dX7_hasPair_4 rfl ?_
    refine wp_aload_n dX7_hasPair_5 rfl ?_
    refine wp_getI dX7_hasPair_6 fX7_35 hl.1 ?_
    rw [hl.np]
    refine wp_icmp_ge (tgt := 16) dX7_hasPair_9 rfl (fun h9 => ?_) (fun h9 => ?_)
    · refine wp_iconst dX7_hasPair_16 ?_
      refine wp_zreturn dX7_hasPair_17 rfl (Or.inl rfl) ?_
      exact kf (by omega)
    · refine wp_iconst dX7_hasPair_12 ?_
      refine wp_goto (tgt := 17) dX7_hasPair_13 rfl ?_
      refine wp_zreturn dX7_hasPair_17 rfl (Or.inr rfl) ?_
      exact kt (by omega)
theorem n_hasCell {c : Int} (hl : PlA sh rv iv E F) (kt : 0 < F 13 ∧ 0 ≤ c ∧ c / 10 < E 5 0 ∧ c % 10 < E 5 1 → R (some (aI 1)) sh iv lw rv) (kf : ¬ (0 < F 13 ∧ 0 ≤ c ∧ c / 10 < E 5 0 ∧ c % 10 < E 5 1) → R (some (aI 0)) sh iv lw rv) : wp (d) mX7_hasCell 0 [some (aR 3), some (aI c)] [] sh iv lw rv 0 0 R := by
  refine wp_aload_n dX7_hasCell_0 rfl ?_
  refine wp_getI dX7_hasCell_1 fX7_35 hl.1 ?_
  rw [hl.np]
  refine wp_if_le (tgt := 41) dX7_hasCell_4 rfl (fun h4 => ?_) (fun h4 => ?_)
  · refine wp_iconst dX7_hasCell_41 ?_
    refine wp_zreturn dX7_hasCell_42 rfl (Or.inl rfl) ?_
    exact kf (by omega)
  · refine wp_iload_n dX7_hasCell_7 rfl ?_
    refine wp_if_lt (tgt := 41) dX7_hasCell_8 rfl (fun h8 => ?_) (fun h8 => ?_)
    · refine wp_iconst dX7_hasCell_41 ?_
      refine wp_zreturn dX7_hasCell_42 rfl (Or.inl rfl) ?_
      exact kf (by omega)
    · refine wp_iload_n dX7_hasCell_11 rfl ?_
      refine wp_bipush dX7_hasCell_12 ?_
      refine wp_idiv dX7_hasCell_14 (by omega) (by omega) ?_
      refine wp_aload_n dX7_hasCell_15 rfl ?_
      refine wp_getR hl.2.1 dX7_hasCell_16 fX7_11 hl.1 ?_
      refine wp_iconst dX7_hasCell_19 ?_
      refine wp_iald dX7_hasCell_20 hl.2.2.2.2.1 (by omega) (by omega) ?_
      rw [hl.ru (by omega)]
      refine wp_icmp_ge (tgt := 41) dX7_hasCell_21 rfl (fun h21 => ?_) (fun h21 => ?_)
      · refine wp_iconst dX7_hasCell_41 ?_
        refine wp_zreturn dX7_hasCell_42 rfl (Or.inl rfl) ?_
        exact kf (by omega)
      · refine wp_iload_n dX7_hasCell_24 rfl ?_
        refine wp_bipush dX7_hasCell_25 ?_
        refine wp_irem dX7_hasCell_27 (by omega) (by omega) ?_
        refine wp_aload_n dX7_hasCell_28 rfl ?_
        refine wp_getR hl.2.1 dX7_hasCell_29 fX7_11 hl.1 ?_
        refine wp_iconst dX7_hasCell_32 ?_
        refine wp_iald dX7_hasCell_33 hl.2.2.2.2.1 (by omega) (by omega) ?_
        rw [hl.ru (by omega)]
        refine wp_icmp_ge (tgt := 41) dX7_hasCell_34 rfl (fun h34 => ?_) (fun h34 => ?_)
        · refine wp_iconst dX7_hasCell_41 ?_
          refine wp_zreturn dX7_hasCell_42 rfl (Or.inl rfl) ?_
          exact kf (by omega)
        · refine wp_iconst dX7_hasCell_37 ?_
          refine wp_goto (tgt := 42) dX7_hasCell_38 rfl ?_
          refine wp_zreturn dX7_hasCell_42 rfl (Or.inr rfl) ?_
          exact kt (by omega)
theorem n_endsWindow {f : Int} (hP : Prm E F) (hf : 0 ≤ f ∧ f ≤ 20000) (hl : PlA sh rv iv E F) (kt : (f + 1) % E 5 3 = 0 → R (some (aI 1)) sh iv lw rv) (kf : ¬ ((f + 1) % E 5 3 = 0) → R (some (aI 0)) sh iv lw rv) : wp (d) mX7_endsWindow 0 [some (aR 3), some (aI f)] [] sh iv lw rv 0 0 R := by
  obtain ⟨hW1, hW2, hO1, hO2, hT1, hT2, hI1, hI2, hF1, hF2⟩ := id hP
  refine wp_aload_n dX7_endsWindow_0 rfl ?_
  refine wp_getR hl.2.1 dX7_endsWindow_1 fX7_11 hl.1 ?_
  refine wp_iconst dX7_endsWindow_4 ?_
  refine wp_iald dX7_endsWindow_5 hl.2.2.2.2.1 (by omega) (by omega) ?_
  rw [hl.ru (by omega)]
  refine wp_if_le (tgt := 26) dX7_endsWindow_6 rfl (fun h6 => by exfalso; omega) (fun h6 => ?_)
  refine wp_iload_n dX7_endsWindow_9 rfl ?_
  refine wp_iconst dX7_endsWindow_10 ?_
  refine wp_iadd dX7_endsWindow_11 ⟨by omega, by omega⟩ ?_
  refine wp_aload_n dX7_endsWindow_12 rfl ?_
  refine wp_getR hl.2.1 dX7_endsWindow_13 fX7_11 hl.1 ?_
  refine wp_iconst dX7_endsWindow_16 ?_
  refine wp_iald dX7_endsWindow_17 hl.2.2.2.2.1 (by omega) (by omega) ?_
  rw [hl.ru (by omega)]
  refine wp_irem dX7_endsWindow_18 (by omega) (by omega) ?_
  refine wp_if_ne (tgt := 26) dX7_endsWindow_19 rfl (fun h19 => ?_) (fun h19 => ?_)
  · refine wp_iconst dX7_endsWindow_26 ?_
    refine wp_zreturn dX7_endsWindow_27 rfl (Or.inl rfl) ?_
    exact kf (by omega)
  · refine wp_iconst dX7_endsWindow_22 ?_
    refine wp_goto (tgt := 27) dX7_endsWindow_23 rfl ?_
    refine wp_zreturn dX7_endsWindow_27 rfl (Or.inr rfl) ?_
    exact kt (by omega)
theorem n_channelOf {fr c : Int} (hP : Prm E F) (hP2 : Prm2 E F) (hf : 0 ≤ fr ∧ fr ≤ 20000) (hc : 0 ≤ c) (hc2 : c ≤ 1000000) (hl : PlA sh rv iv E F) (k : R (some (aI (chn E F fr c))) sh iv lw rv) : wp (d) mX7_channelOf 0 [some (aR 3), some (aI fr), some (aI c), none] [] sh iv lw rv 0 0 R := by
  have hm := chn_mul hP hf
  obtain ⟨hW1, hW2, hO1, hO2, hT1, hT2, hI1, hI2, hF1, hF2⟩ := id hP
  obtain ⟨g1, g2, g3⟩ := hP2
  have e1 := Int.emod_nonneg (fr * E 5 0 + c / 10 + c % 10) (by omega : E 5 1 ≠ 0)
  have e2 := Int.emod_lt_of_pos (fr * E 5 0 + c / 10 + c % 10) (by omega : 0 < E 5 1)
  refine wp_iload_n dX7_channelOf_0 rfl ?_
  refine wp_aload_n dX7_channelOf_1 rfl ?_
  refine wp_getR hl.2.1 dX7_channelOf_2 fX7_11 hl.1 ?_
  refine wp_iconst dX7_channelOf_5 ?_
  refine wp_iald dX7_channelOf_6 hl.2.2.2.2.1 (by omega) (by omega) ?_
  rw [hl.ru (by omega)]
  refine wp_imul dX7_channelOf_7 ⟨by omega, by omega⟩ ?_
  refine wp_iload_n dX7_channelOf_8 rfl ?_
  refine wp_bipush dX7_channelOf_9 ?_
  refine wp_idiv dX7_channelOf_11 (by omega) (by omega) ?_
  refine wp_iadd dX7_channelOf_12 ⟨by omega, by omega⟩ ?_
  refine wp_iload_n dX7_channelOf_13 rfl ?_
  refine wp_bipush dX7_channelOf_14 ?_
  refine wp_irem dX7_channelOf_16 (by omega) (by omega) ?_
  refine wp_iadd dX7_channelOf_17 ⟨by omega, by omega⟩ ?_
  refine wp_istore_n (ls' := [_, _, _, _]) dX7_channelOf_18 (by decide) rfl rfl ?_
  refine wp_iload_n dX7_channelOf_19 rfl ?_
  refine wp_if_ge (tgt := 25) dX7_channelOf_20 rfl (fun h20 => ?_) (fun h20 => by exfalso; omega)
  refine wp_aload_n dX7_channelOf_25 rfl ?_
  refine wp_getI dX7_channelOf_26 fX7_40 hl.1 ?_
  rw [hl.nh]
  refine wp_if_le (tgt := 44) dX7_channelOf_29 rfl (fun h29 => ?_) (fun h29 => ?_)
  · refine wp_aload_n dX7_channelOf_44 rfl ?_
    refine wp_getR hl.2.1 dX7_channelOf_45 fX7_11 hl.1 ?_
    refine wp_iconst dX7_channelOf_48 ?_
    refine wp_iald dX7_channelOf_49 hl.2.2.2.2.1 (by omega) (by omega) ?_
    rw [hl.ru (by omega)]
    refine wp_if_le (tgt := 64) dX7_channelOf_50 rfl (fun h50 => by exfalso; omega) (fun h50 => ?_)
    refine wp_iload_n dX7_channelOf_53 rfl ?_
    refine wp_aload_n dX7_channelOf_54 rfl ?_
    refine wp_getR hl.2.1 dX7_channelOf_55 fX7_11 hl.1 ?_
    refine wp_iconst dX7_channelOf_58 ?_
    refine wp_iald dX7_channelOf_59 hl.2.2.2.2.1 (by omega) (by omega) ?_
    rw [hl.ru (by omega)]
    refine wp_irem dX7_channelOf_60 (by omega) (by omega) ?_
    refine wp_goto (tgt := 65) dX7_channelOf_61 rfl ?_
    refine wp_ireturn dX7_channelOf_65 rfl ?_
    unfold chn at k; first | (rw [if_pos (by omega)] at k; exact k) | (rw [if_neg (by omega)] at k; exact k)
  · have e3 := Int.emod_nonneg (fr * E 5 0 + c / 10 + c % 10) (by omega : F 14 ≠ 0)
    have e4 := Int.emod_lt_of_pos (fr * E 5 0 + c / 10 + c % 10) (by omega : 0 < F 14)
    refine wp_aload_n dX7_channelOf_32 rfl ?_
    refine wp_getR hl.2.2.2.1 dX7_channelOf_33 fX7_18 hl.1 ?_
    refine wp_iload_n dX7_channelOf_36 rfl ?_
    refine wp_aload_n dX7_channelOf_37 rfl ?_
    refine wp_getI dX7_channelOf_38 fX7_40 hl.1 ?_
    rw [hl.nh]
    refine wp_irem dX7_channelOf_41 (by omega) (by omega) ?_
    refine wp_iald dX7_channelOf_42 hl.2.2.2.2.2.2.1 (by omega) (by omega) ?_
    rw [hl.ho (by omega)]
    refine wp_ireturn dX7_channelOf_43 rfl ?_
    unfold chn at k; first | (rw [if_pos (by omega)] at k; exact k) | (rw [if_neg (by omega)] at k; exact k)
end C5a
/-- of a net (b = 0: the living one; b = 1: the one apart) with its Dealings and Course: fields D of Dealings, offers O, told T, sends S, sendersIn K, came C -/
def CD (iv : aF) (b : Nat) (D O T S K C : Int → Int) : aF := fun i => if i = 38 + 43 * b then D else if i = 39 + 43 * b then O else if i = 40 + 43 * b then T else if i = 43 + 42 * b then S else if i = 42 + 42 * b then K else if i = 44 + 42 * b then C else iv i
def lid (b : Nat) (p : Int) : Nat := 14 + 42 * b + 4 * p.toNat
def sid (b : Nat) (p : Int) : Nat := 15 + 42 * b + 4 * p.toNat
def rid (b : Nat) (p : Int) : Nat := 16 + 42 * b + 4 * p.toNat
def mid (b : Nat) (p : Int) : Nat := 17 + 42 * b + 4 * p.toNat
def NtA (sh : aSh) (rv : aP) (iv : aF) (b : Nat) : Prop := b ≤ 1 ∧
  (sh[11 + 42 * b]? = some (3, 4) ∧ sh[12 + 42 * b]? = some (0, 429) ∧ sh[13 + 42 * b]? = some (1, 6) ∧ rv (11 + 42 * b) 0 = some 3 ∧ rv (11 + 42 * b) 1 = some (12 + 42 * b) ∧ rv (11 + 42 * b) 2 = some (13 + 42 * b)) ∧
  (∀ p : Int, 0 ≤ p → p < 6 → rv (13 + 42 * b) p = some (lid b p) ∧ LkA sh iv rv (lid b p) (12 + 42 * b) (sid b p) (rid b p) (mid b p) p) ∧
  (sh[38 + 43 * b]? = some (3, 1) ∧ sh[39 + 43 * b]? = some (0, 16) ∧ sh[40 + 43 * b]? = some (0, 4) ∧ rv (38 + 43 * b) 0 = some (11 + 42 * b) ∧ rv (38 + 43 * b) 1 = some 3 ∧ rv (38 + 43 * b) 2 = some (39 + 43 * b) ∧ rv (38 + 43 * b) 3 = some (40 + 43 * b)) ∧
  (sh[41 + 39 * b]? = some (3, 0) ∧ sh[42 + 42 * b]? = some (0, 160) ∧ sh[43 + 42 * b]? = some (0, 6) ∧ sh[44 + 42 * b]? = some (0, 6) ∧ rv (41 + 39 * b) 0 = some (11 + 42 * b) ∧ rv (41 + 39 * b) 1 = some 3 ∧ rv (41 + 39 * b) 2 = some (38 + 43 * b) ∧ rv (41 + 39 * b) 3 = some (42 + 42 * b) ∧ rv (41 + 39 * b) 4 = some (43 + 42 * b) ∧ rv (41 + 39 * b) 5 = some (44 + 42 * b))
section C5b
variable {iv : aF} {b : Nat} {D O T S K C w : Int → Int}
theorem CD38 : CD iv b D O T S K C (38 + 43 * b) = D := by unfold CD; rw [if_pos rfl]
theorem CD39 : CD iv b D O T S K C (39 + 43 * b) = O := by unfold CD; rw [if_neg (by omega), if_pos rfl]
theorem CD40 : CD iv b D O T S K C (40 + 43 * b) = T := by unfold CD; rw [if_neg (by omega), if_neg (by omega), if_pos rfl]
theorem CD43 (hb : b ≤ 1) : CD iv b D O T S K C (43 + 42 * b) = S := by unfold CD; rw [if_neg (by omega), if_neg (by omega), if_neg (by omega), if_pos rfl]
theorem CD42 (hb : b ≤ 1) : CD iv b D O T S K C (42 + 42 * b) = K := by unfold CD; rw [if_neg (by omega), if_neg (by omega), if_neg (by omega), if_neg (by omega), if_pos rfl]
theorem CD44 (hb : b ≤ 1) : CD iv b D O T S K C (44 + 42 * b) = C := by unfold CD; rw [if_neg (by omega), if_neg (by omega), if_neg (by omega), if_neg (by omega), if_neg (by omega), if_pos rfl]
theorem CDn {i : Nat} (h : ¬ (i = 38 + 43 * b ∨ i = 39 + 43 * b ∨ i = 40 + 43 * b ∨ i = 43 + 42 * b ∨ i = 42 + 42 * b ∨ i = 44 + 42 * b)) : CD iv b D O T S K C i = iv i := by
  unfold CD; rw [if_neg (by omega), if_neg (by omega), if_neg (by omega), if_neg (by omega), if_neg (by omega), if_neg (by omega)]
theorem CDx {i : Nat} (hb : b ≤ 1) (h : i < 38 + 42 * b) (h2 : 45 + 41 * b ≤ 42 * b + i ∨ b = 0 ∨ i < 38) : b = 1 ∧ 38 ≤ i ∨ CD iv b D O T S K C i = iv i := by
  by_cases h3 : b = 1 ∧ 38 ≤ i
  · exact Or.inl h3
  · right; exact CDn (by omega)
theorem CSw : (uA (CD iv b D O T S K C) (12 + 42 * b) w) (12 + 42 * b) = w := uA_s
theorem CS38 : (uA (CD iv b D O T S K C) (12 + 42 * b) w) (38 + 43 * b) = D := by rw [uA_n (by omega), CD38]
theorem CS39 : (uA (CD iv b D O T S K C) (12 + 42 * b) w) (39 + 43 * b) = O := by rw [uA_n (by omega), CD39]
theorem CS40 : (uA (CD iv b D O T S K C) (12 + 42 * b) w) (40 + 43 * b) = T := by rw [uA_n (by omega), CD40]
theorem CS42 (hb : b ≤ 1) : (uA (CD iv b D O T S K C) (12 + 42 * b) w) (42 + 42 * b) = K := by rw [uA_n (by omega), CD42 hb]
theorem CS43 (hb : b ≤ 1) : (uA (CD iv b D O T S K C) (12 + 42 * b) w) (43 + 42 * b) = S := by rw [uA_n (by omega), CD43 hb]
theorem CS44 (hb : b ≤ 1) : (uA (CD iv b D O T S K C) (12 + 42 * b) w) (44 + 42 * b) = C := by rw [uA_n (by omega), CD44 hb]
theorem CSn {i : Nat} (h : ¬ (i = 12 + 42 * b ∨ i = 38 + 43 * b ∨ i = 39 + 43 * b ∨ i = 40 + 43 * b ∨ i = 43 + 42 * b ∨ i = 42 + 42 * b ∨ i = 44 + 42 * b)) : (uA (CD iv b D O T S K C) (12 + 42 * b) w) i = iv i := by rw [uA_n (by omega), CDn (by omega)]
theorem CSu {i : Nat} {f : Int → Int} (h : ¬ i = 12 + 42 * b) : uA (uA (CD iv b D O T S K C) (12 + 42 * b) w) i f = uA (uA (CD iv b D O T S K C) i f) (12 + 42 * b) w := by rw [uA_c (by omega)]
theorem CSu38 {k v : Int} : uI (uA (CD iv b D O T S K C) (12 + 42 * b) w) (38 + 43 * b) k v = uA (CD iv b (up D k v) O T S K C) (12 + 42 * b) w := by
  rw [uI_eq, CS38, CSu (by omega)]
  show uA _ _ _ = uA _ _ _
  congr 1; funext a; unfold uA CD; split <;> rfl
theorem CSu39 {k v : Int} : uI (uA (CD iv b D O T S K C) (12 + 42 * b) w) (39 + 43 * b) k v = uA (CD iv b D (up O k v) T S K C) (12 + 42 * b) w := by
  rw [uI_eq, CS39, CSu (by omega)]
  show uA _ _ _ = uA _ _ _
  congr 1; funext a
  by_cases e : a = 39 + 43 * b
  · rw [e, uA_s, CD39]
  · rw [uA_n e]; simp only [CD, if_neg e]
theorem CSu40 {k v : Int} : uI (uA (CD iv b D O T S K C) (12 + 42 * b) w) (40 + 43 * b) k v = uA (CD iv b D O (up T k v) S K C) (12 + 42 * b) w := by
  rw [uI_eq, CS40, CSu (by omega)]
  show uA _ _ _ = uA _ _ _
  congr 1; funext a
  by_cases e : a = 40 + 43 * b
  · rw [e, uA_s, CD40]
  · rw [uA_n e]; simp only [CD, if_neg e]
theorem CSu43 {k v : Int} (hb : b ≤ 1) : uI (uA (CD iv b D O T S K C) (12 + 42 * b) w) (43 + 42 * b) k v = uA (CD iv b D O T (up S k v) K C) (12 + 42 * b) w := by
  rw [uI_eq, CS43 hb, CSu (by omega)]
  show uA _ _ _ = uA _ _ _
  congr 1; funext a
  by_cases e : a = 43 + 42 * b
  · rw [e, uA_s, CD43 hb]
  · rw [uA_n e]; simp only [CD, if_neg e]
theorem CSu42 {k v : Int} (hb : b ≤ 1) : uI (uA (CD iv b D O T S K C) (12 + 42 * b) w) (42 + 42 * b) k v = uA (CD iv b D O T S (up K k v) C) (12 + 42 * b) w := by
  rw [uI_eq, CS42 hb, CSu (by omega)]
  show uA _ _ _ = uA _ _ _
  congr 1; funext a
  by_cases e : a = 42 + 42 * b
  · rw [e, uA_s, CD42 hb]
  · rw [uA_n e]; simp only [CD, if_neg e]
theorem CSu44 {k v : Int} (hb : b ≤ 1) : uI (uA (CD iv b D O T S K C) (12 + 42 * b) w) (44 + 42 * b) k v = uA (CD iv b D O T S K (up C k v)) (12 + 42 * b) w := by
  rw [uI_eq, CS44 hb, CSu (by omega)]
  show uA _ _ _ = uA _ _ _
  congr 1; funext a
  by_cases e : a = 44 + 42 * b
  · rw [e, uA_s, CD44 hb]
  · rw [uA_n e]; simp only [CD, if_neg e]
theorem CSuw {k v : Int} : uI (uA (CD iv b D O T S K C) (12 + 42 * b) w) (12 + 42 * b) k v = uA (CD iv b D O T S K C) (12 + 42 * b) (up w k v) := by rw [uI_eq, CSw, uA_uA]
end C5b
section C5c
variable {sh : aSh} {rv : aP} {iv E : aF} {b : Nat} {D O T S K C w F : Int → Int} {p : Int}
theorem NtA.hb (h : NtA sh rv iv b) : b ≤ 1 := h.1
theorem NtA.s11 (h : NtA sh rv iv b) : sh[11 + 42 * b]? = some (3, 4) := h.2.1.1
theorem NtA.s12 (h : NtA sh rv iv b) : sh[12 + 42 * b]? = some (0, 429) := h.2.1.2.1
theorem NtA.s13 (h : NtA sh rv iv b) : sh[13 + 42 * b]? = some (1, 6) := h.2.1.2.2.1
theorem NtA.r11p (h : NtA sh rv iv b) : rv (11 + 42 * b) 0 = some 3 := h.2.1.2.2.2.1
theorem NtA.r11w (h : NtA sh rv iv b) : rv (11 + 42 * b) 1 = some (12 + 42 * b) := h.2.1.2.2.2.2.1
theorem NtA.r11l (h : NtA sh rv iv b) : rv (11 + 42 * b) 2 = some (13 + 42 * b) := h.2.1.2.2.2.2.2
theorem NtA.r13 (h : NtA sh rv iv b) (hp : 0 ≤ p ∧ p < 6) : rv (13 + 42 * b) p = some (lid b p) := (h.2.2.1 p hp.1 hp.2).1
theorem NtA.s38 (h : NtA sh rv iv b) : sh[38 + 43 * b]? = some (3, 1) := h.2.2.2.1.1
theorem NtA.s39 (h : NtA sh rv iv b) : sh[39 + 43 * b]? = some (0, 16) := h.2.2.2.1.2.1
theorem NtA.s40 (h : NtA sh rv iv b) : sh[40 + 43 * b]? = some (0, 4) := h.2.2.2.1.2.2.1
theorem NtA.r38n (h : NtA sh rv iv b) : rv (38 + 43 * b) 0 = some (11 + 42 * b) := h.2.2.2.1.2.2.2.1
theorem NtA.r38p (h : NtA sh rv iv b) : rv (38 + 43 * b) 1 = some 3 := h.2.2.2.1.2.2.2.2.1
theorem NtA.r38o (h : NtA sh rv iv b) : rv (38 + 43 * b) 2 = some (39 + 43 * b) := h.2.2.2.1.2.2.2.2.2.1
theorem NtA.r38t (h : NtA sh rv iv b) : rv (38 + 43 * b) 3 = some (40 + 43 * b) := h.2.2.2.1.2.2.2.2.2.2
theorem NtA.s41 (h : NtA sh rv iv b) : sh[41 + 39 * b]? = some (3, 0) := h.2.2.2.2.1
theorem NtA.s42 (h : NtA sh rv iv b) : sh[42 + 42 * b]? = some (0, 160) := h.2.2.2.2.2.1
theorem NtA.s43 (h : NtA sh rv iv b) : sh[43 + 42 * b]? = some (0, 6) := h.2.2.2.2.2.2.1
theorem NtA.s44 (h : NtA sh rv iv b) : sh[44 + 42 * b]? = some (0, 6) := h.2.2.2.2.2.2.2.1
theorem NtA.r41n (h : NtA sh rv iv b) : rv (41 + 39 * b) 0 = some (11 + 42 * b) := h.2.2.2.2.2.2.2.2.1
theorem NtA.r41p (h : NtA sh rv iv b) : rv (41 + 39 * b) 1 = some 3 := h.2.2.2.2.2.2.2.2.2.1
theorem NtA.r41d (h : NtA sh rv iv b) : rv (41 + 39 * b) 2 = some (38 + 43 * b) := h.2.2.2.2.2.2.2.2.2.2.1
theorem NtA.r41k (h : NtA sh rv iv b) : rv (41 + 39 * b) 3 = some (42 + 42 * b) := h.2.2.2.2.2.2.2.2.2.2.2.1
theorem NtA.r41s (h : NtA sh rv iv b) : rv (41 + 39 * b) 4 = some (43 + 42 * b) := h.2.2.2.2.2.2.2.2.2.2.2.2.1
theorem NtA.r41c (h : NtA sh rv iv b) : rv (41 + 39 * b) 5 = some (44 + 42 * b) := h.2.2.2.2.2.2.2.2.2.2.2.2.2
/-- a link, seen in the net's world -/
theorem NtA.lk (h : NtA sh rv iv b) (hp : 0 ≤ p ∧ p < 6) : LkA sh (CD iv b D O T S K C) rv (lid b p) (12 + 42 * b) (sid b p) (rid b p) (mid b p) p := by
  have hb := h.1
  have g := (h.2.2.1 p hp.1 hp.2).2
  have hn : p.toNat < 6 := by omega
  have e1 : CD iv b D O T S K C (lid b p) = iv (lid b p) := CDn (by unfold lid; omega)
  have e2 : CD iv b D O T S K C (sid b p) = iv (sid b p) := CDn (by unfold sid; omega)
  have e3 : CD iv b D O T S K C (rid b p) = iv (rid b p) := CDn (by unfold rid; omega)
  have e4 : CD iv b D O T S K C (mid b p) = iv (mid b p) := CDn (by unfold mid; omega)
  unfold LkA SdA LtA at g ⊢
  rw [e1, e2, e3, e4]
  exact g
theorem NtA.pl (h : NtA sh rv iv b) (hl : PlA sh rv iv E F) : PlA sh rv (uA (CD iv b D O T S K C) (12 + 42 * b) w) E F := by
  have hb := h.1
  exact hl.cg (CSn (by omega)) (CSn (by omega)) (CSn (by omega)) (CSn (by omega))
end C5c
