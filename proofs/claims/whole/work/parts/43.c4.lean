def LtA (sh : aSh) (iv : aF) (rv : aP) (i wd : Nat) (p : Int) : Prop := sh[i]? = some (3, 2) ∧ rv i 0 = some wd ∧ sh[wd]? = some (0, 429) ∧ i ≠ wd ∧ iv i 1 = 63 + 71 * p ∧ (0 ≤ p ∧ p < 6)
def LkA (sh : aSh) (iv : aF) (rv : aP) (i wd s r m : Nat) (p : Int) : Prop := sh[i]? = some (3, 3) ∧ rv i 1 = some wd ∧ sh[wd]? = some (0, 429) ∧ i ≠ wd ∧ iv i 2 = 3 + 71 * p ∧ (0 ≤ p ∧ p < 6) ∧ iv i 0 = p ∧ rv i 3 = some s ∧ rv i 4 = some r ∧ rv i 5 = some m ∧ SdA sh iv rv s wd p 0 ∧ SdA sh iv rv r wd p 1 ∧ LtA sh iv rv m wd p
theorem cm43 {p : Int} : 63 + 71 * p + 0 = 3 + 71 * p + cmk 43 ∧ vis 43 := by rw [show cmk 43 = 60 from by decide]; unfold vis; omega
theorem cm44 {p : Int} : 63 + 71 * p + 1 = 3 + 71 * p + cmk 44 ∧ vis 44 := by rw [show cmk 44 = 61 from by decide]; unfold vis; omega
theorem cm45 {p : Int} : 63 + 71 * p + 2 = 3 + 71 * p + cmk 45 ∧ vis 45 := by rw [show cmk 45 = 62 from by decide]; unfold vis; omega
theorem cm46 {p : Int} : 63 + 71 * p + 3 = 3 + 71 * p + cmk 46 ∧ vis 46 := by rw [show cmk 46 = 63 from by decide]; unfold vis; omega
theorem cm47 {p : Int} : 63 + 71 * p + 4 = 3 + 71 * p + cmk 47 ∧ vis 47 := by rw [show cmk 47 = 64 from by decide]; unfold vis; omega
theorem cm49 {p : Int} : 63 + 71 * p + 5 = 3 + 71 * p + cmk 49 ∧ vis 49 := by rw [show cmk 49 = 65 from by decide]; unfold vis; omega
theorem cm48 {p : Int} : 63 + 71 * p + 6 = 3 + 71 * p + cmk 48 ∧ vis 48 := by rw [show cmk 48 = 66 from by decide]; unfold vis; omega
theorem cm58 {p : Int} : 3 + 71 * p + 0 = 3 + 71 * p + cmk 58 ∧ vis 58 := by rw [show cmk 58 = 0 from by decide]; unfold vis; omega
theorem cm57 {p : Int} : 3 + 71 * p + 1 = 3 + 71 * p + cmk 57 ∧ vis 57 := by rw [show cmk 57 = 1 from by decide]; unfold vis; omega
theorem cm59 {p : Int} : 3 + 71 * p + 2 = 3 + 71 * p + cmk 59 ∧ vis 59 := by rw [show cmk 59 = 2 from by decide]; unfold vis; omega
theorem cm60 {p : Int} : 3 + 71 * p + 3 = 3 + 71 * p + cmk 60 ∧ vis 60 := by rw [show cmk 60 = 3 from by decide]; unfold vis; omega
theorem cm_lcl {p j : Int} (hj : 0 ≤ j ∧ j < 4) : 63 + 71 * p + 7 + j = 3 + 71 * p + cmk (50 + j) ∧ vis (50 + j) := by
  rcases (by omega : j = 0 ∨ j = 1 ∨ j = 2 ∨ j = 3) with rfl | rfl | rfl | rfl
  · rw [show cmk (50 + 0) = 67 from by decide]; unfold vis; omega
  · rw [show cmk (50 + 1) = 68 from by decide]; unfold vis; omega
  · rw [show cmk (50 + 2) = 69 from by decide]; unfold vis; omega
  · rw [show cmk (50 + 3) = 70 from by decide]; unfold vis; omega
section C4
variable {d i wd s r m : Nat} {sh : aSh} {iv lw : aF} {rv : aP} {w N : Int → Int} {R : aPost} {p W Of : Int}
theorem LtA.at (hA : LtA sh iv rv i wd p) (f : Int → Int) : uA iv wd f i 1 = 63 + 71 * p := by
  rw [uA_n hA.2.2.2.1]; exact hA.2.2.2.2.1
theorem LkA.at (hA : LkA sh iv rv i wd s r m p) (f : Int → Int) : uA iv wd f i 2 = 3 + 71 * p := by
  rw [uA_n hA.2.2.2.1]; exact hA.2.2.2.2.1
theorem LkA.no (hA : LkA sh iv rv i wd s r m p) (f : Int → Int) : uA iv wd f i 0 = p := by
  rw [uA_n hA.2.2.2.1]; exact hA.2.2.2.2.2.2.1
theorem LkA.sS (hA : LkA sh iv rv i wd s r m p) : SdA sh iv rv s wd p 0 := hA.2.2.2.2.2.2.2.2.2.2.1
theorem LkA.sR (hA : LkA sh iv rv i wd s r m p) : SdA sh iv rv r wd p 1 := hA.2.2.2.2.2.2.2.2.2.2.2.1
theorem LkA.sM (hA : LkA sh iv rv i wd s r m p) : LtA sh iv rv m wd p := hA.2.2.2.2.2.2.2.2.2.2.2.2
theorem LkA.rS (hA : LkA sh iv rv i wd s r m p) : rv i 3 = some s := hA.2.2.2.2.2.2.2.1
theorem LkA.rR (hA : LkA sh iv rv i wd s r m p) : rv i 4 = some r := hA.2.2.2.2.2.2.2.2.1
theorem LkA.rM (hA : LkA sh iv rv i wd s r m p) : rv i 5 = some m := hA.2.2.2.2.2.2.2.2.2.1
theorem t_sort (hA : LtA sh iv rv i wd p) (hR : Rel w N) (k : R (some (aI (N (61 * p + 44)))) sh (uA iv wd w) lw rv) : wp (d) mX2_sort 0 [some (aR i)] [] sh (uA iv wd w) lw rv 0 0 R := by
  have hat := hA.at
  have hp := hA.2.2.2.2.2
  refine wp_aload_n dX2_sort_0 rfl ?_
  refine wp_getR hA.2.1 dX2_sort_1 fX2_11 hA.1 ?_
  refine wp_aload_n dX2_sort_4 rfl ?_
  refine wp_getI dX2_sort_5 fX2_15 hA.1 ?_
  rw [hat]
  refine wp_iconst dX2_sort_8 ?_
  refine wp_iadd dX2_sort_9 ⟨by omega, by omega⟩ ?_
  refine wp_iald dX2_sort_10 hA.2.2.1 (by omega) (by omega) ?_
  rw [uA_s]
  rw [hR.rd hp cm44]
  refine wp_ireturn dX2_sort_11 rfl ?_
  exact k
theorem t_kind (hA : LtA sh iv rv i wd p) (hR : Rel w N) (k : R (some (aI (N (61 * p + 45)))) sh (uA iv wd w) lw rv) : wp (d) mX2_kind 0 [some (aR i)] [] sh (uA iv wd w) lw rv 0 0 R := by
  have hat := hA.at
  have hp := hA.2.2.2.2.2
  refine wp_aload_n dX2_kind_0 rfl ?_
  refine wp_getR hA.2.1 dX2_kind_1 fX2_11 hA.1 ?_
  refine wp_aload_n dX2_kind_4 rfl ?_
  refine wp_getI dX2_kind_5 fX2_15 hA.1 ?_
  rw [hat]
  refine wp_iconst dX2_kind_8 ?_
  refine wp_iadd dX2_kind_9 ⟨by omega, by omega⟩ ?_
  refine wp_iald dX2_kind_10 hA.2.2.1 (by omega) (by omega) ?_
  rw [uA_s]
  rw [hR.rd hp cm45]
  refine wp_ireturn dX2_kind_11 rfl ?_
  exact k
theorem t_result (hA : LtA sh iv rv i wd p) (hR : Rel w N) (k : R (some (aI (N (61 * p + 46)))) sh (uA iv wd w) lw rv) : wp (d) mX2_result 0 [some (aR i)] [] sh (uA iv wd w) lw rv 0 0 R := by
  have hat := hA.at
  have hp := hA.2.2.2.2.2
  refine wp_aload_n dX2_result_0 rfl ?_
  refine wp_getR hA.2.1 dX2_result_1 fX2_11 hA.1 ?_
  refine wp_aload_n dX2_result_4 rfl ?_
  refine wp_getI dX2_result_5 fX2_15 hA.1 ?_
  rw [hat]
  refine wp_iconst dX2_result_8 ?_
  refine wp_iadd dX2_result_9 ⟨by omega, by omega⟩ ?_
  refine wp_iald dX2_result_10 hA.2.2.1 (by omega) (by omega) ?_
  rw [uA_s]
  rw [hR.rd hp cm46]
  refine wp_ireturn dX2_result_11 rfl ?_
  exact k
theorem t_seq (hA : LtA sh iv rv i wd p) (hR : Rel w N) (k : R (some (aI (N (61 * p + 47)))) sh (uA iv wd w) lw rv) : wp (d) mX2_seq 0 [some (aR i)] [] sh (uA iv wd w) lw rv 0 0 R := by
  have hat := hA.at
  have hp := hA.2.2.2.2.2
  refine wp_aload_n dX2_seq_0 rfl ?_
  refine wp_getR hA.2.1 dX2_seq_1 fX2_11 hA.1 ?_
  refine wp_aload_n dX2_seq_4 rfl ?_
  refine wp_getI dX2_seq_5 fX2_15 hA.1 ?_
  rw [hat]
  refine wp_iconst dX2_seq_8 ?_
  refine wp_iadd dX2_seq_9 ⟨by omega, by omega⟩ ?_
  refine wp_iald dX2_seq_10 hA.2.2.1 (by omega) (by omega) ?_
  rw [uA_s]
  rw [hR.rd hp cm47]
  refine wp_ireturn dX2_seq_11 rfl ?_
  exact k
theorem t_amount (hA : LtA sh iv rv i wd p) (hR : Rel w N) (k : R (some (aI (N (61 * p + 49)))) sh (uA iv wd w) lw rv) : wp (d) mX2_amount 0 [some (aR i)] [] sh (uA iv wd w) lw rv 0 0 R := by
  have hat := hA.at
  have hp := hA.2.2.2.2.2
  refine wp_aload_n dX2_amount_0 rfl ?_
  refine wp_getR hA.2.1 dX2_amount_1 fX2_11 hA.1 ?_
  refine wp_aload_n dX2_amount_4 rfl ?_
  refine wp_getI dX2_amount_5 fX2_15 hA.1 ?_
  rw [hat]
  refine wp_iconst dX2_amount_8 ?_
  refine wp_iadd dX2_amount_9 ⟨by omega, by omega⟩ ?_
  refine wp_iald dX2_amount_10 hA.2.2.1 (by omega) (by omega) ?_
  rw [uA_s]
  rw [hR.rd hp cm49]
  refine wp_ireturn dX2_amount_11 rfl ?_
  exact k
theorem t_cells (hA : LtA sh iv rv i wd p) (hR : Rel w N) (k : R (some (aI (N (61 * p + 48)))) sh (uA iv wd w) lw rv) : wp (d) mX2_cells 0 [some (aR i)] [] sh (uA iv wd w) lw rv 0 0 R := by
  have hat := hA.at
  have hp := hA.2.2.2.2.2
  refine wp_aload_n dX2_cells_0 rfl ?_
  refine wp_getR hA.2.1 dX2_cells_1 fX2_11 hA.1 ?_
  refine wp_aload_n dX2_cells_4 rfl ?_
  refine wp_getI dX2_cells_5 fX2_15 hA.1 ?_
  rw [hat]
  refine wp_bipush dX2_cells_8 ?_
  refine wp_iadd dX2_cells_10 ⟨by omega, by omega⟩ ?_
  refine wp_iald dX2_cells_11 hA.2.2.1 (by omega) (by omega) ?_
  rw [uA_s]
  rw [hR.rd hp cm48]
  refine wp_ireturn dX2_cells_12 rfl ?_
  exact k
theorem t_isUnderWay (hA : LtA sh iv rv i wd p) (hR : Rel w N) (kt : N (61 * p + 43) = 1 → R (some (aI 1)) sh (uA iv wd w) lw rv) (kf : ¬ N (61 * p + 43) = 1 → R (some (aI 0)) sh (uA iv wd w) lw rv) : wp (d) mX2_isUnderWay 0 [some (aR i)] [] sh (uA iv wd w) lw rv 0 0 R := by
  have hat := hA.at
  have hp := hA.2.2.2.2.2
  refine wp_aload_n dX2_isUnderWay_0 rfl ?_
  refine wp_getR hA.2.1 dX2_isUnderWay_1 fX2_11 hA.1 ?_
  refine wp_aload_n dX2_isUnderWay_4 rfl ?_
  refine wp_getI dX2_isUnderWay_5 fX2_15 hA.1 ?_
  rw [hat]
  refine wp_iconst dX2_isUnderWay_8 ?_
  refine wp_iadd dX2_isUnderWay_9 ⟨by omega, by omega⟩ ?_
  refine wp_iald dX2_isUnderWay_10 hA.2.2.1 (by omega) (by omega) ?_
  rw [uA_s]
  rw [hR.rd hp cm43]
  refine wp_iconst dX2_isUnderWay_11 ?_
  refine wp_icmp_ne (tgt := 19) dX2_isUnderWay_12 rfl (fun h12 => ?_) (fun h12 => ?_)
  · refine wp_iconst dX2_isUnderWay_19 ?_
    refine wp_zreturn dX2_isUnderWay_20 rfl (Or.inl rfl) ?_
    exact kf (by assumption)
  · refine wp_iconst dX2_isUnderWay_15 ?_
    refine wp_goto (tgt := 20) dX2_isUnderWay_16 rfl ?_
    refine wp_zreturn dX2_isUnderWay_20 rfl (Or.inr rfl) ?_
    exact kt (by assumption)
theorem t_drop (hA : LtA sh iv rv i wd p) (hR : Rel w N) (k : ∀ w', Rel w' (up N (61 * p + 43) 0) → R none sh (uA iv wd w') lw rv) : wp (d) mX2_drop 0 [some (aR i)] [] sh (uA iv wd w) lw rv 0 0 R := by
  have hat := hA.at
  have hp := hA.2.2.2.2.2
  refine wp_aload_n dX2_drop_0 rfl ?_
  refine wp_getR hA.2.1 dX2_drop_1 fX2_11 hA.1 ?_
  refine wp_aload_n dX2_drop_4 rfl ?_
  refine wp_getI dX2_drop_5 fX2_15 hA.1 ?_
  rw [hat]
  refine wp_iconst dX2_drop_8 ?_
  refine wp_iadd dX2_drop_9 ⟨by omega, by omega⟩ ?_
  refine wp_iconst dX2_drop_10 ?_
  refine wp_iast dX2_drop_11 hA.2.2.1 (by omega) (by omega) ?_
  rw [uI_eq, uA_s, uA_uA]
  refine wp_return dX2_drop_12 rfl ?_
  exact k _ (hR.wr hp cm43)
theorem t_send {so ki re sq as : Int} (hA : LtA sh iv rv i wd p) (hR : Rel w N) (hs : sq = if so = 0 then N (61 * p + 26) else -1) (k : ∀ w', Rel w' (wriF N p so ki re as) → R none sh (uA iv wd w') lw rv) : wp (d) mX2_send 0 [some (aR i), some (aI so), some (aI ki), some (aI re), some (aI sq), some (aI as)] [] sh (uA iv wd w) lw rv 0 0 R := by
  have hat := hA.at
  have hp := hA.2.2.2.2.2
  subst hs
  refine wp_aload_n dX2_send_0 rfl ?_
  refine wp_getR hA.2.1 dX2_send_1 fX2_11 hA.1 ?_
  refine wp_aload_n dX2_send_4 rfl ?_
  refine wp_getI dX2_send_5 fX2_15 hA.1 ?_
  rw [hat]
  refine wp_iconst dX2_send_8 ?_
  refine wp_iadd dX2_send_9 ⟨by omega, by omega⟩ ?_
  refine wp_iconst dX2_send_10 ?_
  refine wp_iast dX2_send_11 hA.2.2.1 (by omega) (by omega) ?_
  rw [uI_eq, uA_s, uA_uA]
  refine wp_aload_n dX2_send_12 rfl ?_
  refine wp_getR hA.2.1 dX2_send_13 fX2_11 hA.1 ?_
  refine wp_aload_n dX2_send_16 rfl ?_
  refine wp_getI dX2_send_17 fX2_15 hA.1 ?_
  rw [hat]
  refine wp_iconst dX2_send_20 ?_
  refine wp_iadd dX2_send_21 ⟨by omega, by omega⟩ ?_
  refine wp_iload_n dX2_send_22 rfl ?_
  refine wp_iast dX2_send_23 hA.2.2.1 (by omega) (by omega) ?_
  rw [uI_eq, uA_s, uA_uA]
  refine wp_aload_n dX2_send_24 rfl ?_
  refine wp_getR hA.2.1 dX2_send_25 fX2_11 hA.1 ?_
  refine wp_aload_n dX2_send_28 rfl ?_
  refine wp_getI dX2_send_29 fX2_15 hA.1 ?_
  rw [hat]
  refine wp_iconst dX2_send_32 ?_
  refine wp_iadd dX2_send_33 ⟨by omega, by omega⟩ ?_
  refine wp_iload_n dX2_send_34 rfl ?_
  refine wp_iast dX2_send_35 hA.2.2.1 (by omega) (by omega) ?_
  rw [uI_eq, uA_s, uA_uA]
  refine wp_aload_n dX2_send_36 rfl ?_
  refine wp_getR hA.2.1 dX2_send_37 fX2_11 hA.1 ?_
  refine wp_aload_n dX2_send_40 rfl ?_
  refine wp_getI dX2_send_41 fX2_15 hA.1 ?_
  rw [hat]
  refine wp_iconst dX2_send_44 ?_
  refine wp_iadd dX2_send_45 ⟨by omega, by omega⟩ ?_
  refine wp_iload_n dX2_send_46 rfl ?_
  refine wp_iast dX2_send_47 hA.2.2.1 (by omega) (by omega) ?_
  rw [uI_eq, uA_s, uA_uA]
  refine wp_aload_n dX2_send_48 rfl ?_
  refine wp_getR hA.2.1 dX2_send_49 fX2_11 hA.1 ?_
  refine wp_aload_n dX2_send_52 rfl ?_
  refine wp_getI dX2_send_53 fX2_15 hA.1 ?_
  rw [hat]
  refine wp_iconst dX2_send_56 ?_
  refine wp_iadd dX2_send_57 ⟨by omega, by omega⟩ ?_
  refine wp_iload dX2_send_58 rfl ?_
  refine wp_iast dX2_send_60 hA.2.2.1 (by omega) (by omega) ?_
  rw [uI_eq, uA_s, uA_uA]
  refine wp_aload_n dX2_send_61 rfl ?_
  refine wp_getR hA.2.1 dX2_send_62 fX2_11 hA.1 ?_
  refine wp_aload_n dX2_send_65 rfl ?_
  refine wp_getI dX2_send_66 fX2_15 hA.1 ?_
  rw [hat]
  refine wp_iconst dX2_send_69 ?_
  refine wp_iadd dX2_send_70 ⟨by omega, by omega⟩ ?_
  refine wp_iload dX2_send_71 rfl ?_
  refine wp_iast dX2_send_73 hA.2.2.1 (by omega) (by omega) ?_
  rw [uI_eq, uA_s, uA_uA]
  refine wp_aload_n dX2_send_74 rfl ?_
  refine wp_getR hA.2.1 dX2_send_75 fX2_11 hA.1 ?_
  refine wp_aload_n dX2_send_78 rfl ?_
  refine wp_getI dX2_send_79 fX2_15 hA.1 ?_
  rw [hat]
  refine wp_bipush dX2_send_82 ?_
  refine wp_iadd dX2_send_84 ⟨by omega, by omega⟩ ?_
  refine wp_iconst dX2_send_85 ?_
  refine wp_iast dX2_send_86 hA.2.2.1 (by omega) (by omega) ?_
  rw [uI_eq, uA_s, uA_uA]
  refine wp_return dX2_send_87 rfl ?_
  exact k _ (((((((hR.wr hp cm43).wr hp cm44).wr hp cm45).wr hp cm46).wr hp cm47).wr hp cm49).wr hp cm48)
theorem t_enclose {c : Int} (hA : LtA sh iv rv i wd p) (hR : Rel w N) (hm : 0 ≤ N (61 * p + 48) ∧ N (61 * p + 48) < 4) (k : ∀ w', Rel w' (encF N p c) → R none sh (uA iv wd w') lw rv) : wp (d) mX2_enclose 0 [some (aR i), some (aI c), none] [] sh (uA iv wd w) lw rv 0 0 R := by
  have hat := hA.at
  have hp := hA.2.2.2.2.2
  refine wp_aload_n dX2_enclose_0 rfl ?_
  refine wp_getR hA.2.1 dX2_enclose_1 fX2_11 hA.1 ?_
  refine wp_aload_n dX2_enclose_4 rfl ?_
  refine wp_getI dX2_enclose_5 fX2_15 hA.1 ?_
  rw [hat]
  refine wp_bipush dX2_enclose_8 ?_
  refine wp_iadd dX2_enclose_10 ⟨by omega, by omega⟩ ?_
  refine wp_iald dX2_enclose_11 hA.2.2.1 (by omega) (by omega) ?_
  rw [uA_s]
  rw [hR.rd hp cm48]
  refine wp_istore_n (ls' := [_, _, _]) dX2_enclose_12 (by decide) rfl rfl ?_
  refine wp_iload_n dX2_enclose_13 rfl ?_
  refine wp_if_lt (tgt := 52) dX2_enclose_14 rfl (fun h14 => by exfalso; omega) (fun h14 => ?_)
  refine wp_iload_n dX2_enclose_17 rfl ?_
  refine wp_iconst dX2_enclose_18 ?_
  refine wp_icmp_ge (tgt := 52) dX2_enclose_19 rfl (fun h19 => by exfalso; omega) (fun h19 => ?_)
  refine wp_aload_n dX2_enclose_22 rfl ?_
  refine wp_getR hA.2.1 dX2_enclose_23 fX2_11 hA.1 ?_
  refine wp_aload_n dX2_enclose_26 rfl ?_
  refine wp_getI dX2_enclose_27 fX2_15 hA.1 ?_
  rw [hat]
  refine wp_bipush dX2_enclose_30 ?_
  refine wp_iadd dX2_enclose_32 ⟨by omega, by omega⟩ ?_
  refine wp_iload_n dX2_enclose_33 rfl ?_
  refine wp_iadd dX2_enclose_34 ⟨by omega, by omega⟩ ?_
  refine wp_iload_n dX2_enclose_35 rfl ?_
  refine wp_iast dX2_enclose_36 hA.2.2.1 (by omega) (by omega) ?_
  rw [uI_eq, uA_s, uA_uA]
  refine wp_aload_n dX2_enclose_37 rfl ?_
  refine wp_getR hA.2.1 dX2_enclose_38 fX2_11 hA.1 ?_
  refine wp_aload_n dX2_enclose_41 rfl ?_
  refine wp_getI dX2_enclose_42 fX2_15 hA.1 ?_
  rw [hat]
  refine wp_bipush dX2_enclose_45 ?_
  refine wp_iadd dX2_enclose_47 ⟨by omega, by omega⟩ ?_
  refine wp_iload_n dX2_enclose_48 rfl ?_
  refine wp_iconst dX2_enclose_49 ?_
  refine wp_iadd dX2_enclose_50 ⟨by omega, by omega⟩ ?_
  refine wp_iast dX2_enclose_51 hA.2.2.1 (by omega) (by omega) ?_
  rw [uI_eq, uA_s, uA_uA]
  refine wp_return dX2_enclose_52 rfl ?_
  exact k _ ((hR.wr hp (cm_lcl (by omega))).wr hp cm48)
theorem t_numberAt {c : Int} (hA : LtA sh iv rv i wd p) (hR : Rel w N) (hm : 0 ≤ N (61 * p + 48) ∧ N (61 * p + 48) ≤ 4) (k : R (some (aI (if 0 ≤ c ∧ c < N (61 * p + 48) then N (61 * p + (50 + c)) else -1))) sh (uA iv wd w) lw rv) : wp (d) mX2_numberAt 0 [some (aR i), some (aI c)] [] sh (uA iv wd w) lw rv 0 0 R := by
  have hat := hA.at
  have hp := hA.2.2.2.2.2
  refine wp_iload_n dX2_numberAt_0 rfl ?_
  refine wp_if_lt (tgt := 37) dX2_numberAt_1 rfl (fun h1 => ?_) (fun h1 => ?_)
  · refine wp_iconst dX2_numberAt_37 ?_
    refine wp_ireturn dX2_numberAt_38 rfl ?_
    first | (rw [if_pos (by omega)] at k; exact k) | (rw [if_neg (by omega)] at k; exact k)
  · refine wp_iload_n dX2_numberAt_4 rfl ?_
    refine wp_aload_n dX2_numberAt_5 rfl ?_
    refine wp_getR hA.2.1 dX2_numberAt_6 fX2_11 hA.1 ?_
    refine wp_aload_n dX2_numberAt_9 rfl ?_
    refine wp_getI dX2_numberAt_10 fX2_15 hA.1 ?_
    rw [hat]
    refine wp_bipush dX2_numberAt_13 ?_
    refine wp_iadd dX2_numberAt_15 ⟨by omega, by omega⟩ ?_
    refine wp_iald dX2_numberAt_16 hA.2.2.1 (by omega) (by omega) ?_
    rw [uA_s]
    rw [hR.rd hp cm48]
    refine wp_icmp_ge (tgt := 37) dX2_numberAt_17 rfl (fun h17 => ?_) (fun h17 => ?_)
    · refine wp_iconst dX2_numberAt_37 ?_
      refine wp_ireturn dX2_numberAt_38 rfl ?_
      first | (rw [if_pos (by omega)] at k; exact k) | (rw [if_neg (by omega)] at k; exact k)
    · refine wp_aload_n dX2_numberAt_20 rfl ?_
      refine wp_getR hA.2.1 dX2_numberAt_21 fX2_11 hA.1 ?_
      refine wp_aload_n dX2_numberAt_24 rfl ?_
      refine wp_getI dX2_numberAt_25 fX2_15 hA.1 ?_
      rw [hat]
      refine wp_bipush dX2_numberAt_28 ?_
      refine wp_iadd dX2_numberAt_30 ⟨by omega, by omega⟩ ?_
      refine wp_iload_n dX2_numberAt_31 rfl ?_
      refine wp_iadd dX2_numberAt_32 ⟨by omega, by omega⟩ ?_
      refine wp_iald dX2_numberAt_33 hA.2.2.1 (by omega) (by omega) ?_
      rw [uA_s]
      rw [hR.rd hp (cm_lcl (by omega))]
      refine wp_goto (tgt := 38) dX2_numberAt_34 rfl ?_
      refine wp_ireturn dX2_numberAt_38 rfl ?_
      first | (rw [if_pos (by omega)] at k; exact k) | (rw [if_neg (by omega)] at k; exact k)
theorem k_queue (hA : LkA sh iv rv i wd s r m p) (hR : Rel w N) (k : R (some (aI (N (61 * p + 57)))) sh (uA iv wd w) lw rv) : wp (d) mX3_queue 0 [some (aR i)] [] sh (uA iv wd w) lw rv 0 0 R := by
  have hat := hA.at
  have hp := hA.2.2.2.2.2.1
  refine wp_aload_n dX3_queue_0 rfl ?_
  refine wp_getR hA.2.1 dX3_queue_1 fX3_19 hA.1 ?_
  refine wp_aload_n dX3_queue_4 rfl ?_
  refine wp_getI dX3_queue_5 fX3_23 hA.1 ?_
  rw [hat]
  refine wp_iconst dX3_queue_8 ?_
  refine wp_iadd dX3_queue_9 ⟨by omega, by omega⟩ ?_
  refine wp_iald dX3_queue_10 hA.2.2.1 (by omega) (by omega) ?_
  rw [uA_s]
  rw [hR.rd hp cm57]
  refine wp_ireturn dX3_queue_11 rfl ?_
  exact k
theorem k_setLoad {v : Int} (hA : LkA sh iv rv i wd s r m p) (hR : Rel w N) (k : ∀ w', Rel w' (up N (61 * p + 58) v) → R none sh (uA iv wd w') lw rv) : wp (d) mX3_setLoad 0 [some (aR i), some (aI v)] [] sh (uA iv wd w) lw rv 0 0 R := by
  have hat := hA.at
  have hp := hA.2.2.2.2.2.1
  refine wp_aload_n dX3_setLoad_0 rfl ?_
  refine wp_getR hA.2.1 dX3_setLoad_1 fX3_19 hA.1 ?_
  refine wp_aload_n dX3_setLoad_4 rfl ?_
  refine wp_getI dX3_setLoad_5 fX3_23 hA.1 ?_
  rw [hat]
  refine wp_iconst dX3_setLoad_8 ?_
  refine wp_iadd dX3_setLoad_9 ⟨by omega, by omega⟩ ?_
  refine wp_iload_n dX3_setLoad_10 rfl ?_
  refine wp_iast dX3_setLoad_11 hA.2.2.1 (by omega) (by omega) ?_
  rw [uI_eq, uA_s, uA_uA]
  refine wp_return dX3_setLoad_12 rfl ?_
  exact k _ (hR.wr hp cm58)
theorem k_growQueue (hA : LkA sh iv rv i wd s r m p) (hR : Rel w N) (hB : Bok W Of N) (k : ∀ w', Rel w' (quF N p) → R none sh (uA iv wd w') lw rv) : wp (d + 1) mX3_growQueue 0 [some (aR i)] [] sh (uA iv wd w) lw rv 0 0 R := by
  have hat := hA.at
  have hp := hA.2.2.2.2.2.1
  have h57 := hB.v57 hp
  have h58 := hB.v58 hp
  refine wp_aload_n dX3_growQueue_0 rfl ?_
  refine wp_getR hA.2.1 dX3_growQueue_1 fX3_19 hA.1 ?_
  refine wp_aload_n dX3_growQueue_4 rfl ?_
  refine wp_getI dX3_growQueue_5 fX3_23 hA.1 ?_
  rw [hat]
  refine wp_iconst dX3_growQueue_8 ?_
  refine wp_iadd dX3_growQueue_9 ⟨by omega, by omega⟩ ?_
  refine wp_bipush dX3_growQueue_10 ?_
  refine wp_aload_n dX3_growQueue_12 rfl ?_
  refine wp_getR hA.2.1 dX3_growQueue_13 fX3_19 hA.1 ?_
  refine wp_aload_n dX3_growQueue_16 rfl ?_
  refine wp_getI dX3_growQueue_17 fX3_23 hA.1 ?_
  rw [hat]
  refine wp_iconst dX3_growQueue_20 ?_
  refine wp_iadd dX3_growQueue_21 ⟨by omega, by omega⟩ ?_
  refine wp_iald dX3_growQueue_22 hA.2.2.1 (by omega) (by omega) ?_
  rw [uA_s]
  rw [hR.rd hp cm57]
  refine wp_aload_n dX3_growQueue_23 rfl ?_
  refine wp_getR hA.2.1 dX3_growQueue_24 fX3_19 hA.1 ?_
  refine wp_aload_n dX3_growQueue_27 rfl ?_
  refine wp_getI dX3_growQueue_28 fX3_23 hA.1 ?_
  rw [hat]
  refine wp_iconst dX3_growQueue_31 ?_
  refine wp_iadd dX3_growQueue_32 ⟨by omega, by omega⟩ ?_
  refine wp_iald dX3_growQueue_33 hA.2.2.1 (by omega) (by omega) ?_
  rw [uA_s]
  rw [hR.rd hp cm58]
  refine wp_iadd dX3_growQueue_34 ⟨by omega, by omega⟩ ?_
  refine wp_mmin dX3_growQueue_35 (by omega) (Nat.le_of_ble_eq_true rfl) nX3_48 q_min ?_
  refine wp_iast dX3_growQueue_38 hA.2.2.1 (by omega) (by omega) ?_
  rw [uI_eq, uA_s, uA_uA]
  refine wp_return dX3_growQueue_39 rfl ?_
  exact k _ (hR.wr hp cm57)
theorem k_endWindow (hA : LkA sh iv rv i wd s r m p) (hR : Rel w N) (k : ∀ w', Rel w' (wn1 N p) → R none sh (uA iv wd w') lw rv) : wp (d) mX3_endWindow 0 [some (aR i)] [] sh (uA iv wd w) lw rv 0 0 R := by
  have hat := hA.at
  have hp := hA.2.2.2.2.2.1
  refine wp_aload_n dX3_endWindow_0 rfl ?_
  refine wp_getR hA.2.1 dX3_endWindow_1 fX3_19 hA.1 ?_
  refine wp_aload_n dX3_endWindow_4 rfl ?_
  refine wp_getI dX3_endWindow_5 fX3_23 hA.1 ?_
  rw [hat]
  refine wp_iconst dX3_endWindow_8 ?_
  refine wp_iadd dX3_endWindow_9 ⟨by omega, by omega⟩ ?_
  refine wp_iconst dX3_endWindow_10 ?_
  refine wp_iast dX3_endWindow_11 hA.2.2.1 (by omega) (by omega) ?_
  rw [uI_eq, uA_s, uA_uA]
  refine wp_aload_n dX3_endWindow_12 rfl ?_
  refine wp_getR hA.2.1 dX3_endWindow_13 fX3_19 hA.1 ?_
  refine wp_aload_n dX3_endWindow_16 rfl ?_
  refine wp_getI dX3_endWindow_17 fX3_23 hA.1 ?_
  rw [hat]
  refine wp_iconst dX3_endWindow_20 ?_
  refine wp_iadd dX3_endWindow_21 ⟨by omega, by omega⟩ ?_
  refine wp_iconst dX3_endWindow_22 ?_
  refine wp_iast dX3_endWindow_23 hA.2.2.1 (by omega) (by omega) ?_
  rw [uI_eq, uA_s, uA_uA]
  refine wp_return dX3_endWindow_24 rfl ?_
  exact k _ ((hR.wr hp cm59).wr hp cm60)
theorem k_noteSending {sn gt : Int} (hA : LkA sh iv rv i wd s r m p) (hR : Rel w N) (hB : Bok W Of N) (hU : N (61 * p + 59) ≤ 100000 ∧ N (61 * p + 60) ≤ 100000) (hs : 0 ≤ sn ∧ sn ≤ 6) (hg : 0 ≤ gt ∧ gt ≤ 6) (k : ∀ w', Rel w' (upF (up N (61 * p + 57) (N (61 * p + 57) - gt)) p sn) → R none sh (uA iv wd w') lw rv) : wp (d + 1) mX3_noteSending 0 [some (aR i), some (aI sn), some (aI gt)] [] sh (uA iv wd w) lw rv 0 0 R := by
  have hat := hA.at
  have hp := hA.2.2.2.2.2.1
  have h57 := hB.v57 hp
  have h18 := hB.v18 hp
  have u1 := hB p 59 hp.1 hp.2 (by omega) (by omega)
  have u2 := hB p 60 hp.1 hp.2 (by omega) (by omega)
  rw [k59] at u1
  rw [k60] at u2
  have r1 : Rel _ _ := hR.wr (v := N (61 * p + 57) - gt) hp cm57
  have e1 : up N (61 * p + 57) (N (61 * p + 57) - gt) (61 * p + 59) = N (61 * p + 59) := up_n (by omega)
  have e3 : up N (61 * p + 57) (N (61 * p + 57) - gt) (61 * p + 60) = N (61 * p + 60) := up_n (by omega)
  have e4 : up N (61 * p + 57) (N (61 * p + 57) - gt) (61 * p + 18) = N (61 * p + 18) := up_n (by omega)
  have r2 : Rel _ _ := r1.wr (v := N (61 * p + 59) + sn) hp cm59
  refine wp_aload_n dX3_noteSending_0 rfl ?_
  refine wp_getR hA.2.1 dX3_noteSending_1 fX3_19 hA.1 ?_
  refine wp_aload_n dX3_noteSending_4 rfl ?_
  refine wp_getI dX3_noteSending_5 fX3_23 hA.1 ?_
  rw [hat]
  refine wp_iconst dX3_noteSending_8 ?_
  refine wp_iadd dX3_noteSending_9 ⟨by omega, by omega⟩ ?_
  refine wp_dup2 dX3_noteSending_10 rfl rfl ?_
  refine wp_iald dX3_noteSending_11 hA.2.2.1 (by omega) (by omega) ?_
  rw [uA_s]
  rw [hR.rd hp cm57]
  refine wp_iload_n dX3_noteSending_12 rfl ?_
  refine wp_isub dX3_noteSending_13 ⟨by omega, by omega⟩ ?_
  refine wp_iast dX3_noteSending_14 hA.2.2.1 (by omega) (by omega) ?_
  rw [uI_eq, uA_s, uA_uA]
  refine wp_aload_n dX3_noteSending_15 rfl ?_
  refine wp_getR hA.2.1 dX3_noteSending_16 fX3_19 hA.1 ?_
  refine wp_aload_n dX3_noteSending_19 rfl ?_
  refine wp_getI dX3_noteSending_20 fX3_23 hA.1 ?_
  rw [hat]
  refine wp_iconst dX3_noteSending_23 ?_
  refine wp_iadd dX3_noteSending_24 ⟨by omega, by omega⟩ ?_
  refine wp_dup2 dX3_noteSending_25 rfl rfl ?_
  refine wp_iald dX3_noteSending_26 hA.2.2.1 (by omega) (by omega) ?_
  rw [uA_s]
  rw [r1.rd hp cm59, e1]
  refine wp_iload_n dX3_noteSending_27 rfl ?_
  refine wp_iadd dX3_noteSending_28 ⟨by omega, by omega⟩ ?_
  refine wp_iast dX3_noteSending_29 hA.2.2.1 (by omega) (by omega) ?_
  rw [uI_eq, uA_s, uA_uA]
  refine wp_aload_n dX3_noteSending_30 rfl ?_
  refine wp_getR hA.2.1 dX3_noteSending_31 fX3_19 hA.1 ?_
  refine wp_aload_n dX3_noteSending_34 rfl ?_
  refine wp_getI dX3_noteSending_35 fX3_23 hA.1 ?_
  rw [hat]
  refine wp_iconst dX3_noteSending_38 ?_
  refine wp_iadd dX3_noteSending_39 ⟨by omega, by omega⟩ ?_
  refine wp_dup2 dX3_noteSending_40 rfl rfl ?_
  refine wp_iald dX3_noteSending_41 hA.2.2.1 (by omega) (by omega) ?_
  rw [uA_s]
  rw [r2.rd hp cm60, up_n (by omega : ¬ 61 * p + 60 = 61 * p + 59), e3]
  refine wp_aload_n dX3_noteSending_42 rfl ?_
  refine wp_getR hA.rS dX3_noteSending_43 fX3_29 hA.1 ?_
  refine wp_callV (as := []) (ls0 := [_]) (kc := 0) (ks := 0) (bc' := 0) (bs' := 0) dX3_noteSending_46 vX3_45 hA.sS.1 rfl rfl (Nat.le_of_ble_eq_true rfl) (Nat.le_of_ble_eq_true rfl) (by omega) (by omega) ?_
  refine c_size hA.sS r2 ?_
  rw [mq0, up_n (by omega : ¬ 61 * p + 18 = 61 * p + 59), e4]
  refine wp_iadd dX3_noteSending_49 ⟨by omega, by omega⟩ ?_
  refine wp_iast dX3_noteSending_50 hA.2.2.1 (by omega) (by omega) ?_
  rw [uI_eq, uA_s, uA_uA]
  refine wp_return dX3_noteSending_51 rfl ?_
  refine k _ ?_
  unfold upF
  rw [e1, e3, e4]
  exact r2.wr hp cm60
theorem k_wantsMore (hA : LkA sh iv rv i wd s r m p) (hR : Rel w N) (hB : Bok W Of N) (hU : N (61 * p + 59) ≤ 100000 ∧ N (61 * p + 60) ≤ 100000) (kt : (3 * N (61 * p + 60) < 4 * N (61 * p + 59) ∨ (N (61 * p + 18) = 0 ∧ 0 < N (61 * p + 57))) → R (some (aI 1)) sh (uA iv wd w) lw rv) (kf : ¬ (3 * N (61 * p + 60) < 4 * N (61 * p + 59) ∨ (N (61 * p + 18) = 0 ∧ 0 < N (61 * p + 57))) → R (some (aI 0)) sh (uA iv wd w) lw rv) : wp (d + 1) mX3_wantsMore 0 [some (aR i)] [] sh (uA iv wd w) lw rv 0 0 R := by
  have hat := hA.at
  have hp := hA.2.2.2.2.2.1
  have h57 := hB.v57 hp
  have h18 := hB.v18 hp
  have u1 := hB p 59 hp.1 hp.2 (by omega) (by omega)
  have u2 := hB p 60 hp.1 hp.2 (by omega) (by omega)
  rw [k59] at u1
  rw [k60] at u2
  refine wp_iconst dX3_wantsMore_0 ?_
  refine wp_aload_n dX3_wantsMore_1 rfl ?_
  refine wp_getR hA.2.1 dX3_wantsMore_2 fX3_19 hA.1 ?_
  refine wp_aload_n dX3_wantsMore_5 rfl ?_
  refine wp_getI dX3_wantsMore_6 fX3_23 hA.1 ?_
  rw [hat]
  refine wp_iconst dX3_wantsMore_9 ?_
  refine wp_iadd dX3_wantsMore_10 ⟨by omega, by omega⟩ ?_
  refine wp_iald dX3_wantsMore_11 hA.2.2.1 (by omega) (by omega) ?_
  rw [uA_s]
  rw [hR.rd hp cm59]
  refine wp_imul dX3_wantsMore_12 ⟨by omega, by omega⟩ ?_
  refine wp_iconst dX3_wantsMore_13 ?_
  refine wp_aload_n dX3_wantsMore_14 rfl ?_
  refine wp_getR hA.2.1 dX3_wantsMore_15 fX3_19 hA.1 ?_
  refine wp_aload_n dX3_wantsMore_18 rfl ?_
  refine wp_getI dX3_wantsMore_19 fX3_23 hA.1 ?_
  rw [hat]
  refine wp_iconst dX3_wantsMore_22 ?_
  refine wp_iadd dX3_wantsMore_23 ⟨by omega, by omega⟩ ?_
  refine wp_iald dX3_wantsMore_24 hA.2.2.1 (by omega) (by omega) ?_
  rw [uA_s]
  rw [hR.rd hp cm60]
  refine wp_imul dX3_wantsMore_25 ⟨by omega, by omega⟩ ?_
  refine wp_icmp_gt (tgt := 53) dX3_wantsMore_26 rfl (fun h26 => ?_) (fun h26 => ?_)
  · refine wp_iconst dX3_wantsMore_53 ?_
    refine wp_goto (tgt := 58) dX3_wantsMore_54 rfl ?_
    refine wp_zreturn dX3_wantsMore_58 rfl (Or.inr rfl) ?_
    exact kt (by omega)
  · refine wp_aload_n dX3_wantsMore_29 rfl ?_
    refine wp_getR hA.rS dX3_wantsMore_30 fX3_29 hA.1 ?_
    refine wp_callV (as := []) (ls0 := [_]) (kc := 0) (ks := 0) (bc' := 0) (bs' := 0) dX3_wantsMore_33 vX3_45 hA.sS.1 rfl rfl (Nat.le_of_ble_eq_true rfl) (Nat.le_of_ble_eq_true rfl) (by omega) (by omega) ?_
    refine c_size hA.sS hR ?_
    rw [mq0]
    refine wp_if_ne (tgt := 57) dX3_wantsMore_36 rfl (fun h36 => ?_) (fun h36 => ?_)
    · refine wp_iconst dX3_wantsMore_57 ?_
      refine wp_zreturn dX3_wantsMore_58 rfl (Or.inl rfl) ?_
      exact kf (by omega)
    · refine wp_aload_n dX3_wantsMore_39 rfl ?_
      refine wp_getR hA.2.1 dX3_wantsMore_40 fX3_19 hA.1 ?_
      refine wp_aload_n dX3_wantsMore_43 rfl ?_
      refine wp_getI dX3_wantsMore_44 fX3_23 hA.1 ?_
      rw [hat]
      refine wp_iconst dX3_wantsMore_47 ?_
      refine wp_iadd dX3_wantsMore_48 ⟨by omega, by omega⟩ ?_
      refine wp_iald dX3_wantsMore_49 hA.2.2.1 (by omega) (by omega) ?_
      rw [uA_s]
      rw [hR.rd hp cm57]
      refine wp_if_le (tgt := 57) dX3_wantsMore_50 rfl (fun h50 => ?_) (fun h50 => ?_)
      · refine wp_iconst dX3_wantsMore_57 ?_
        refine wp_zreturn dX3_wantsMore_58 rfl (Or.inl rfl) ?_
        exact kf (by omega)
      · refine wp_iconst dX3_wantsMore_53 ?_
        refine wp_goto (tgt := 58) dX3_wantsMore_54 rfl ?_
        refine wp_zreturn dX3_wantsMore_58 rfl (Or.inr rfl) ?_
        exact kt (by omega)
theorem k_wantsLess (hA : LkA sh iv rv i wd s r m p) (hR : Rel w N) (hB : Bok W Of N) (hU : N (61 * p + 59) ≤ 100000 ∧ N (61 * p + 60) ≤ 100000) (kt : (4 * N (61 * p + 59) < N (61 * p + 60) ∧ 2 ≤ N (61 * p + 18)) → R (some (aI 1)) sh (uA iv wd w) lw rv) (kf : ¬ (4 * N (61 * p + 59) < N (61 * p + 60) ∧ 2 ≤ N (61 * p + 18)) → R (some (aI 0)) sh (uA iv wd w) lw rv) : wp (d + 1) mX3_wantsLess 0 [some (aR i)] [] sh (uA iv wd w) lw rv 0 0 R := by
  have hat := hA.at
  have hp := hA.2.2.2.2.2.1
  have h57 := hB.v57 hp
  have h18 := hB.v18 hp
  have u1 := hB p 59 hp.1 hp.2 (by omega) (by omega)
  have u2 := hB p 60 hp.1 hp.2 (by omega) (by omega)
  rw [k59] at u1
  rw [k60] at u2
  refine wp_iconst dX3_wantsLess_0 ?_
  refine wp_aload_n dX3_wantsLess_1 rfl ?_
  refine wp_getR hA.2.1 dX3_wantsLess_2 fX3_19 hA.1 ?_
  refine wp_aload_n dX3_wantsLess_5 rfl ?_
  refine wp_getI dX3_wantsLess_6 fX3_23 hA.1 ?_
  rw [hat]
  refine wp_iconst dX3_wantsLess_9 ?_
  refine wp_iadd dX3_wantsLess_10 ⟨by omega, by omega⟩ ?_
  refine wp_iald dX3_wantsLess_11 hA.2.2.1 (by omega) (by omega) ?_
  rw [uA_s]
  rw [hR.rd hp cm59]
  refine wp_imul dX3_wantsLess_12 ⟨by omega, by omega⟩ ?_
  refine wp_aload_n dX3_wantsLess_13 rfl ?_
  refine wp_getR hA.2.1 dX3_wantsLess_14 fX3_19 hA.1 ?_
  refine wp_aload_n dX3_wantsLess_17 rfl ?_
  refine wp_getI dX3_wantsLess_18 fX3_23 hA.1 ?_
  rw [hat]
  refine wp_iconst dX3_wantsLess_21 ?_
  refine wp_iadd dX3_wantsLess_22 ⟨by omega, by omega⟩ ?_
  refine wp_iald dX3_wantsLess_23 hA.2.2.1 (by omega) (by omega) ?_
  rw [uA_s]
  rw [hR.rd hp cm60]
  refine wp_icmp_ge (tgt := 42) dX3_wantsLess_24 rfl (fun h24 => ?_) (fun h24 => ?_)
  · refine wp_iconst dX3_wantsLess_42 ?_
    refine wp_zreturn dX3_wantsLess_43 rfl (Or.inl rfl) ?_
    exact kf (by omega)
  · refine wp_aload_n dX3_wantsLess_27 rfl ?_
    refine wp_getR hA.rS dX3_wantsLess_28 fX3_29 hA.1 ?_
    refine wp_callV (as := []) (ls0 := [_]) (kc := 0) (ks := 0) (bc' := 0) (bs' := 0) dX3_wantsLess_31 vX3_45 hA.sS.1 rfl rfl (Nat.le_of_ble_eq_true rfl) (Nat.le_of_ble_eq_true rfl) (by omega) (by omega) ?_
    refine c_size hA.sS hR ?_
    rw [mq0]
    refine wp_iconst dX3_wantsLess_34 ?_
    refine wp_icmp_lt (tgt := 42) dX3_wantsLess_35 rfl (fun h35 => ?_) (fun h35 => ?_)
    · refine wp_iconst dX3_wantsLess_42 ?_
      refine wp_zreturn dX3_wantsLess_43 rfl (Or.inl rfl) ?_
      exact kf (by omega)
    · refine wp_iconst dX3_wantsLess_38 ?_
      refine wp_goto (tgt := 43) dX3_wantsLess_39 rfl ?_
      refine wp_zreturn dX3_wantsLess_43 rfl (Or.inr rfl) ?_
      exact kt (by omega)
theorem k_isIdle (hA : LkA sh iv rv i wd s r m p) (hR : Rel w N) (hB : Bok W Of N) (kt : (N (61 * p + 28) = 0 ∧ N (61 * p + 43) = 0) → R (some (aI 1)) sh (uA iv wd w) lw rv) (kf : ¬ (N (61 * p + 28) = 0 ∧ N (61 * p + 43) = 0) → R (some (aI 0)) sh (uA iv wd w) lw rv) : wp (d + 1) mX3_isIdle 0 [some (aR i)] [] sh (uA iv wd w) lw rv 0 0 R := by
  have hat := hA.at
  have hp := hA.2.2.2.2.2.1
  have h28 := hB.v28 hp
  have h43 := hB.v43 hp
  refine wp_aload_n dX3_isIdle_0 rfl ?_
  refine wp_getR hA.rS dX3_isIdle_1 fX3_29 hA.1 ?_
  refine wp_callV (as := []) (ls0 := [_]) (kc := 0) (ks := 0) (bc' := 0) (bs' := 0) dX3_isIdle_4 vX3_54 hA.sS.1 rfl rfl (Nat.le_of_ble_eq_true rfl) (Nat.le_of_ble_eq_true rfl) (by omega) (by omega) ?_
  refine c_isWaiting hA.sS hR (fun h4 => ?_) (fun h4 => ?_)
  all_goals rw [show (28 : Int) + 0 = 28 from rfl] at h4
  · refine wp_if_ne (tgt := 24) dX3_isIdle_7 rfl (fun _ => ?_) (fun q => absurd q (by decide))
    refine wp_iconst dX3_isIdle_24 ?_
    refine wp_zreturn dX3_isIdle_25 rfl (Or.inl rfl) ?_
    exact kf (by omega)
  · refine wp_if_ne (tgt := 24) dX3_isIdle_7 rfl (fun q => absurd q (by decide)) (fun _ => ?_)
    refine wp_aload_n dX3_isIdle_10 rfl ?_
    refine wp_getR hA.rM dX3_isIdle_11 fX3_37 hA.1 ?_
    refine wp_callV (as := []) (ls0 := [_]) (kc := 0) (ks := 0) (bc' := 0) (bs' := 0) dX3_isIdle_14 vX3_58 hA.sM.1 rfl rfl (Nat.le_of_ble_eq_true rfl) (Nat.le_of_ble_eq_true rfl) (by omega) (by omega) ?_
    refine t_isUnderWay hA.sM hR (fun h14 => ?_) (fun h14 => ?_)
    · refine wp_if_ne (tgt := 24) dX3_isIdle_17 rfl (fun _ => ?_) (fun q => absurd q (by decide))
      refine wp_iconst dX3_isIdle_24 ?_
      refine wp_zreturn dX3_isIdle_25 rfl (Or.inl rfl) ?_
      exact kf (by omega)
    · refine wp_if_ne (tgt := 24) dX3_isIdle_17 rfl (fun q => absurd q (by decide)) (fun _ => ?_)
      refine wp_iconst dX3_isIdle_20 ?_
      refine wp_goto (tgt := 25) dX3_isIdle_21 rfl ?_
      refine wp_zreturn dX3_isIdle_25 rfl (Or.inr rfl) ?_
      exact kt (by omega)
end C4
