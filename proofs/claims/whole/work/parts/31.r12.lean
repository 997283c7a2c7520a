def wI (x : Int) : Int := (Int32.ofInt x).toInt
theorem wI_r (x : Int) : iR (wI x) := ⟨Int32.le_toInt _, Int32.toInt_lt _⟩
theorem wI_eq {x : Int} (h : iR x) : wI x = x := a_toInt h
theorem wp_iadd_w {d : Nat} {M : aMth} {pc : Nat} {ls : List (Option aV)} {st : List aV} {sh : aSh} {iv lw : aF} {rv : aP} {bc bs : Nat} {R : aPost} {x y : Int} (hd : decode M.2.1 pc = .ok (.iadd, 1)) (k : wp d M (pc + 1) ls (aI (wI (x + y)) :: st) sh iv lw rv bc bs R) : wp d M pc ls (aI y :: aI x :: st) sh iv lw rv bc bs R := by
  intro p l e s m args below meth c D cI cL cA xd A mc ms ad0 n0 hC ad H locs cells slots jls hD
  obtain ⟨hx, hb, hml, hr, hlk, hown, hnm, hts, hK, hE, hA⟩ := id hC
  obtain ⟨h1, h2, hP, hDs, hS, hc, hs, hl, hw, ho, hol⟩ := hD
  obtain ⟨o0, ho1⟩ := List.forall_mem_cons.mp ho
  obtain ⟨o1, ho2⟩ := List.forall_mem_cons.mp ho1
  refine lv_iadd hx hb hd ?_
  rw [← Int32.ofInt_add, ← Int32.ofInt_toInt (Int32.ofInt (x + y))]
  exact k p l e s m args below meth c D cI cL cA xd A mc ms ad0 n0 hC ad H locs cells slots jls ⟨h1, h2, hP, hDs, hS, hc, hs, hl, hw, List.forall_mem_cons.mpr ⟨wI_r _, ho2⟩, hol⟩
def Prm2 (iv : aF) (F : Int → Int) : Prop := 0 ≤ F 14 ∧ F 14 ≤ 16 ∧ ∀ j : Int, 0 ≤ j → j < F 14 → 0 ≤ iv 7 j ∧ iv 7 j ≤ 9
def chn (iv : aF) (F : Int → Int) (fr c : Int) : Int := if F 14 = 0 then (fr * iv 5 0 + c / 10 + c % 10) % iv 5 1 else iv 7 ((fr * iv 5 0 + c / 10 + c % 10) % F 14)
def bt (x k : Int) : Prop := (((x / 2 ^ k.toNat).toNat &&& (1 : Int).toNat : Nat) : Int) = 1
theorem chn_mul {iv : aF} {F : Int → Int} {fr : Int} (hP : Prm iv F) (hf : 0 ≤ fr ∧ fr ≤ 20000) : 0 ≤ fr * iv 5 0 ∧ fr * iv 5 0 ≤ 320000 := by
  obtain ⟨hW1, hW2, -⟩ := hP
  refine ⟨Int.mul_nonneg hf.1 (by omega), ?_⟩
  have h1 : fr * iv 5 0 ≤ fr * 16 := Int.mul_le_mul_of_nonneg_left hW2 hf.1
  omega
theorem chn_r {iv : aF} {F : Int → Int} {fr c : Int} (hP : Prm iv F) (hP2 : Prm2 iv F) (hf : 0 ≤ fr ∧ fr ≤ 20000) (hc : 0 ≤ c) : 0 ≤ chn iv F fr c ∧ chn iv F fr c ≤ 9 := by
  have hm := chn_mul hP hf
  obtain ⟨hW1, hW2, hO1, hO2, -⟩ := hP
  obtain ⟨h1, h2, h3⟩ := hP2
  unfold chn
  split
  · have := Int.emod_nonneg (fr * iv 5 0 + c / 10 + c % 10) (by omega : iv 5 1 ≠ 0)
    have := Int.emod_lt_of_pos (fr * iv 5 0 + c / 10 + c % 10) (by omega : 0 < iv 5 1)
    omega
  · exact h3 _ (Int.emod_nonneg _ (by omega)) (Int.emod_lt_of_pos _ (by omega))
def Snd (N S : Int → Int) (p c : Int) : Prop := ∃ i : Int, 0 ≤ i ∧ i < S p ∧ N (61 * p + (bq 0 + i)) = c
def Got (iv : aF) (F N S : Int → Int) (p c : Int) : Prop := (¬ plc N p 1 c = -1 ∧ ¬ bt (N 366) (chn iv F (N 368) c)) ∧ ∀ a : Int, 0 ≤ a → a < F 13 → ¬ a = p → ¬ Snd N S a c
section R12
variable {d : Nat} {iv lw : aF} {F N G O T S : Int → Int} {R : aPost}
theorem s_channelOf {fr c : Int} (hP : Prm iv F) (hP2 : Prm2 iv F) (hf : 0 ≤ fr ∧ fr ≤ 20000) (hc : 0 ≤ c ∧ c ≤ 1000000) (k : R (some (aI (chn iv F fr c))) SHR (ST iv F N G O T S) lw RVR) : wp (d) mX12_channelOf 0 [some (aR 0), some (aI fr), some (aI c), none] [] SHR (ST iv F N G O T S) lw RVR 0 0 R := by
  have hm := chn_mul hP hf
  have hcr := chn_r hP hP2 hf hc.1
  obtain ⟨hW1, hW2, hO1, hO2, hT1, hT2, hI1, hI2, hF1, hF2⟩ := id hP
  obtain ⟨g1, g2, g3⟩ := hP2
  have e1 := Int.emod_nonneg (fr * iv 5 0 + c / 10 + c % 10) (by omega : iv 5 1 ≠ 0)
  have e2 := Int.emod_lt_of_pos (fr * iv 5 0 + c / 10 + c % 10) (by omega : 0 < iv 5 1)
  refine wp_iload_n dX12_channelOf_0 rfl ?_
  refine wp_aload_n dX12_channelOf_1 rfl ?_
  refine wp_getR rfl dX12_channelOf_2 fX12_22 rfl ?_
  refine wp_iconst dX12_channelOf_5 ?_
  refine wp_iald dX12_channelOf_6 rfl (by omega) (by omega) ?_
  try simp only [ST0, ST5, ST6, ST7, ST8, ST10, ST11, ST12, ST13]
  refine wp_imul dX12_channelOf_7 ⟨by omega, by omega⟩ ?_
  refine wp_iload_n dX12_channelOf_8 rfl ?_
  refine wp_bipush dX12_channelOf_9 ?_
  refine wp_idiv dX12_channelOf_11 (by omega) (by omega) ?_
  refine wp_iadd dX12_channelOf_12 ⟨by omega, by omega⟩ ?_
  refine wp_iload_n dX12_channelOf_13 rfl ?_
  refine wp_bipush dX12_channelOf_14 ?_
  refine wp_irem dX12_channelOf_16 (by omega) (by omega) ?_
  refine wp_iadd dX12_channelOf_17 ⟨by omega, by omega⟩ ?_
  refine wp_istore_n (ls' := [_, _, _, _]) dX12_channelOf_18 (by decide) rfl rfl ?_
  refine wp_aload_n dX12_channelOf_19 rfl ?_
  refine wp_getI dX12_channelOf_20 fX12_152 rfl ?_
  try simp only [ST0, ST5, ST6, ST7, ST8, ST10, ST11, ST12, ST13]
  refine wp_if_ne (tgt := 37) dX12_channelOf_23 rfl (fun h23 => ?_) (fun h23 => ?_)
  · have e3 := Int.emod_nonneg (fr * iv 5 0 + c / 10 + c % 10) (by omega : F 14 ≠ 0)
    have e4 := Int.emod_lt_of_pos (fr * iv 5 0 + c / 10 + c % 10) (by omega : 0 < F 14)
    refine wp_aload_n dX12_channelOf_37 rfl ?_
    refine wp_getR rfl dX12_channelOf_38 fX12_28 rfl ?_
    refine wp_iload_n dX12_channelOf_41 rfl ?_
    refine wp_aload_n dX12_channelOf_42 rfl ?_
    refine wp_getI dX12_channelOf_43 fX12_152 rfl ?_
    try simp only [ST0, ST5, ST6, ST7, ST8, ST10, ST11, ST12, ST13]
    refine wp_irem dX12_channelOf_46 (by omega) (by omega) ?_
    refine wp_iald dX12_channelOf_47 rfl (by omega) (by omega) ?_
    try simp only [ST0, ST5, ST6, ST7, ST8, ST10, ST11, ST12, ST13]
    refine wp_ireturn dX12_channelOf_48 rfl ?_
    unfold chn at k; first | (rw [if_pos (by assumption)] at k; exact k) | (rw [if_neg (by assumption)] at k; exact k)
  · refine wp_iload_n dX12_channelOf_26 rfl ?_
    refine wp_aload_n dX12_channelOf_27 rfl ?_
    refine wp_getR rfl dX12_channelOf_28 fX12_22 rfl ?_
    refine wp_iconst dX12_channelOf_31 ?_
    refine wp_iald dX12_channelOf_32 rfl (by omega) (by omega) ?_
    try simp only [ST0, ST5, ST6, ST7, ST8, ST10, ST11, ST12, ST13]
    refine wp_irem dX12_channelOf_33 (by omega) (by omega) ?_
    refine wp_goto (tgt := 48) dX12_channelOf_34 rfl ?_
    refine wp_ireturn dX12_channelOf_48 rfl ?_
    unfold chn at k; first | (rw [if_pos (by assumption)] at k; exact k) | (rw [if_neg (by assumption)] at k; exact k)
theorem s_has {x q : Int} {sh : aSh} {rv : aP} (hx : 0 ≤ x) (hq : 0 ≤ q ∧ q < 32) (kt : bt x q → R (some (aI 1)) sh iv lw rv) (kf : ¬ bt x q → R (some (aI 0)) sh iv lw rv) : wp d mX12_has 0 [some (aI x), some (aI q)] [] sh iv lw rv 0 0 R := by
  have hnn : 0 ≤ x / 2 ^ q.toNat := Int.ediv_nonneg hx (Int.le_of_lt (Int.pow_pos (by decide)))
  refine wp_iload_n dX12_has_0 rfl ?_
  refine wp_iload_n dX12_has_1 rfl ?_
  refine wp_ishr dX12_has_2 (by omega) (by omega) ?_
  refine wp_iconst dX12_has_3 ?_
  refine wp_iand dX12_has_4 (by first | exact hnn | decide) (by first | exact hnn | decide) ?_
  refine wp_iconst dX12_has_5 ?_
  refine wp_icmp_ne (tgt := 13) dX12_has_6 rfl (fun h6 => ?_) (fun h6 => ?_)
  · refine wp_iconst dX12_has_13 ?_
    refine wp_zreturn dX12_has_14 rfl (Or.inl rfl) ?_
    exact kf (by assumption)
  · refine wp_iconst dX12_has_9 ?_
    refine wp_goto (tgt := 14) dX12_has_10 rfl ?_
    refine wp_zreturn dX12_has_14 rfl (Or.inr rfl) ?_
    exact kt (by assumption)
theorem l_doesSend {p c : Int} (hp : 0 ≤ p ∧ p < 6) (hs : 0 ≤ S p ∧ S p ≤ 6) (kt : Snd N S p c → R (some (aI 1)) SHR (ST iv F N G O T S) lw RVR) (kf : ¬ Snd N S p c → R (some (aI 0)) SHR (ST iv F N G O T S) lw RVR) (m : Nat) : ∀ i : Int, 0 ≤ i → i + m = S p → (∀ j : Int, 0 ≤ j → j < i → ¬ N (61 * p + (bq 0 + j)) = c) → wp (d + 2) mX12_doesSend 2 [some (aR 0), some (aI p), some (aI c), some (aI i)] [] SHR (ST iv F N G O T S) lw RVR 0 0 R := by
  induction m with
  | zero =>
    intro i h1 h2 h3
    refine wp_iload_n dX12_doesSend_2 rfl ?_
    refine wp_aload_n dX12_doesSend_3 rfl ?_
    refine wp_getR rfl dX12_doesSend_4 fX12_50 rfl ?_
    refine wp_iload_n dX12_doesSend_7 rfl ?_
    refine wp_iald dX12_doesSend_8 rfl (by omega) (by omega) ?_
    try simp only [ST0, ST5, ST6, ST7, ST8, ST10, ST11, ST12, ST13]
    refine wp_icmp_ge (tgt := 31) dX12_doesSend_9 rfl (fun h9 => ?_) (fun h9 => by exfalso; omega)
    refine wp_iconst dX12_doesSend_31 ?_
    refine wp_zreturn dX12_doesSend_32 rfl (Or.inl rfl) ?_
    exact kf (fun ⟨j, a, b, e⟩ => h3 j a (by omega) e)
  | succ m ih =>
    intro i h1 h2 h3
    refine wp_iload_n dX12_doesSend_2 rfl ?_
    refine wp_aload_n dX12_doesSend_3 rfl ?_
    refine wp_getR rfl dX12_doesSend_4 fX12_50 rfl ?_
    refine wp_iload_n dX12_doesSend_7 rfl ?_
    refine wp_iald dX12_doesSend_8 rfl (by omega) (by omega) ?_
    try simp only [ST0, ST5, ST6, ST7, ST8, ST10, ST11, ST12, ST13]
    refine wp_icmp_ge (tgt := 31) dX12_doesSend_9 rfl (fun h9 => by exfalso; omega) (fun h9 => ?_)
    refine wp_aload_n dX12_doesSend_12 rfl ?_
    refine wp_iload_n dX12_doesSend_13 rfl ?_
    refine wp_iconst dX12_doesSend_14 ?_
    refine wp_iload_n dX12_doesSend_15 rfl ?_
    refine wp_callV (as := [_, _, _]) (ls0 := [_, _, _, _]) (kc := 0) (ks := 0) (bc' := 0) (bs' := 0) dX12_doesSend_16 vX12_167 rfl rfl rfl (Nat.le_of_ble_eq_true rfl) (Nat.le_of_ble_eq_true rfl) (by omega) (by omega) ?_
    refine s_cellOf (by omega) (by omega) (by omega) ?_
    refine wp_iload_n dX12_doesSend_19 rfl ?_
    refine wp_icmp_ne (tgt := 25) dX12_doesSend_20 rfl (fun h20 => ?_) (fun h20 => ?_)
    · refine wp_iinc (ls' := [_, _, _, _]) dX12_doesSend_25 (by decide) rfl rfl ⟨by omega, by omega⟩ rfl ?_
      refine wp_goto (tgt := 2) dX12_doesSend_28 rfl ?_
      exact ih _ (by omega) (by omega) (fun j a b => (Decidable.em (j = i)).elim (fun e => by rw [e]; exact h20) (fun e => h3 j a (by omega)))
    · refine wp_iconst dX12_doesSend_23 ?_
      refine wp_zreturn dX12_doesSend_24 rfl (Or.inr rfl) ?_
      exact kt ⟨i, h1, by omega, h20⟩
theorem s_doesSend {p c : Int} (hp : 0 ≤ p ∧ p < 6) (hs : 0 ≤ S p ∧ S p ≤ 6) (kt : Snd N S p c → R (some (aI 1)) SHR (ST iv F N G O T S) lw RVR) (kf : ¬ Snd N S p c → R (some (aI 0)) SHR (ST iv F N G O T S) lw RVR) : wp (d + 2) mX12_doesSend 0 [some (aR 0), some (aI p), some (aI c), none] [] SHR (ST iv F N G O T S) lw RVR 0 0 R := by
  refine wp_iconst dX12_doesSend_0 ?_
  refine wp_istore_n (ls' := [_, _, _, _]) dX12_doesSend_1 (by decide) rfl rfl ?_
  exact l_doesSend hp hs kt kf (S p).toNat 0 (by omega) (by omega) (fun j a b => by omega)
theorem l_isGot0 {p c : Int} (hF : F 13 ≤ 6) (kf : R (some (aI 0)) SHR (ST iv F N G O T S) lw RVR) (m : Nat) : ∀ a : Int, 0 ≤ a → a + m = F 13 → wp (d + 3) mX12_isGot 47 [some (aR 0), some (aI p), some (aI c), some (aI 0), some (aI a)] [] SHR (ST iv F N G O T S) lw RVR 0 0 R := by
  induction m with
  | zero =>
    intro a h1 h2
    refine wp_iload dX12_isGot_47 rfl ?_
    refine wp_aload_n dX12_isGot_49 rfl ?_
    refine wp_getI dX12_isGot_50 fX12_138 rfl ?_
    try simp only [ST0, ST5, ST6, ST7, ST8, ST10, ST11, ST12, ST13]
    refine wp_icmp_ge (tgt := 88) dX12_isGot_53 rfl (fun h53 => ?_) (fun h53 => by exfalso; omega)
    refine wp_iload_n dX12_isGot_88 rfl ?_
    refine wp_zreturn dX12_isGot_89 rfl (Or.inl rfl) ?_
    exact kf
  | succ m ih =>
    intro a h1 h2
    refine wp_iload dX12_isGot_47 rfl ?_
    refine wp_aload_n dX12_isGot_49 rfl ?_
    refine wp_getI dX12_isGot_50 fX12_138 rfl ?_
    try simp only [ST0, ST5, ST6, ST7, ST8, ST10, ST11, ST12, ST13]
    refine wp_icmp_ge (tgt := 88) dX12_isGot_53 rfl (fun h53 => by exfalso; omega) (fun h53 => ?_)
    refine wp_iload_n dX12_isGot_56 rfl ?_
    refine wp_if_eq (tgt := 80) dX12_isGot_57 rfl (fun _ => ?_) (fun q => absurd q (by decide))
    refine wp_iconst dX12_isGot_80 ?_
    refine wp_istore_n (ls' := [_, _, _, _, _]) dX12_isGot_81 (by decide) rfl rfl ?_
    refine wp_iinc (ls' := [_, _, _, _, _]) dX12_isGot_82 (by decide) rfl rfl ⟨by omega, by omega⟩ rfl ?_
    refine wp_goto (tgt := 47) dX12_isGot_85 rfl ?_
    exact ih _ (by omega) (by omega)
theorem l_isGot1 {p c : Int} (hF : F 13 ≤ 6) (hS : ∀ a : Int, 0 ≤ a → a < F 13 → 0 ≤ S a ∧ S a ≤ 6) (hb : ¬ plc N p 1 c = -1 ∧ ¬ bt (N 366) (chn iv F (N 368) c)) (kt : Got iv F N S p c → R (some (aI 1)) SHR (ST iv F N G O T S) lw RVR) (kf : ¬ Got iv F N S p c → R (some (aI 0)) SHR (ST iv F N G O T S) lw RVR) (m : Nat) : ∀ a : Int, 0 ≤ a → a + m = F 13 → (∀ b : Int, 0 ≤ b → b < a → ¬ b = p → ¬ Snd N S b c) → wp (d + 3) mX12_isGot 47 [some (aR 0), some (aI p), some (aI c), some (aI 1), some (aI a)] [] SHR (ST iv F N G O T S) lw RVR 0 0 R := by
  induction m with
  | zero =>
    intro a h1 h2 h3
    refine wp_iload dX12_isGot_47 rfl ?_
    refine wp_aload_n dX12_isGot_49 rfl ?_
    refine wp_getI dX12_isGot_50 fX12_138 rfl ?_
    try simp only [ST0, ST5, ST6, ST7, ST8, ST10, ST11, ST12, ST13]
    refine wp_icmp_ge (tgt := 88) dX12_isGot_53 rfl (fun h53 => ?_) (fun h53 => by exfalso; omega)
    refine wp_iload_n dX12_isGot_88 rfl ?_
    refine wp_zreturn dX12_isGot_89 rfl (Or.inr rfl) ?_
    exact kt ⟨hb, fun b x y => h3 b x (by omega)⟩
  | succ m ih =>
    intro a h1 h2 h3
    have hsa := hS a h1 (by omega)
    refine wp_iload dX12_isGot_47 rfl ?_
    refine wp_aload_n dX12_isGot_49 rfl ?_
    refine wp_getI dX12_isGot_50 fX12_138 rfl ?_
    try simp only [ST0, ST5, ST6, ST7, ST8, ST10, ST11, ST12, ST13]
    refine wp_icmp_ge (tgt := 88) dX12_isGot_53 rfl (fun h53 => by exfalso; omega) (fun h53 => ?_)
    refine wp_iload_n dX12_isGot_56 rfl ?_
    refine wp_if_eq (tgt := 80) dX12_isGot_57 rfl (fun q => absurd q (by decide)) (fun _ => ?_)
    refine wp_iload dX12_isGot_60 rfl ?_
    refine wp_iload_n dX12_isGot_62 rfl ?_
    refine wp_icmp_eq (tgt := 76) dX12_isGot_63 rfl (fun h63 => ?_) (fun h63 => ?_)
    · refine wp_iconst dX12_isGot_76 ?_
      refine wp_goto (tgt := 81) dX12_isGot_77 rfl ?_
      refine wp_istore_n (ls' := [_, _, _, _, _]) dX12_isGot_81 (by decide) rfl rfl ?_
      refine wp_iinc (ls' := [_, _, _, _, _]) dX12_isGot_82 (by decide) rfl rfl ⟨by omega, by omega⟩ rfl ?_
      refine wp_goto (tgt := 47) dX12_isGot_85 rfl ?_
      exact ih _ (by omega) (by omega) (fun b x y hne => (Decidable.em (b = a)).elim (fun e => by first | exact absurd (e.trans h63) hne | (rw [e]; exact h70)) (fun e => h3 b x (by omega) hne))
    · refine wp_aload_n dX12_isGot_66 rfl ?_
      refine wp_iload dX12_isGot_67 rfl ?_
      refine wp_iload_n dX12_isGot_69 rfl ?_
      refine wp_callV (as := [_, _]) (ls0 := [_, _, _, _]) (kc := 0) (ks := 0) (bc' := 0) (bs' := 0) dX12_isGot_70 vX12_271 rfl rfl rfl (Nat.le_of_ble_eq_true rfl) (Nat.le_of_ble_eq_true rfl) (by omega) (by omega) ?_
      refine s_doesSend (by omega) hsa (fun h70 => ?_) (fun h70 => ?_)
      · refine wp_if_ne (tgt := 80) dX12_isGot_73 rfl (fun _ => ?_) (fun q => absurd q (by decide))
        refine wp_iconst dX12_isGot_80 ?_
        refine wp_istore_n (ls' := [_, _, _, _, _]) dX12_isGot_81 (by decide) rfl rfl ?_
        refine wp_iinc (ls' := [_, _, _, _, _]) dX12_isGot_82 (by decide) rfl rfl ⟨by omega, by omega⟩ rfl ?_
        refine wp_goto (tgt := 47) dX12_isGot_85 rfl ?_
        exact l_isGot0 hF (kf (fun g => g.2 a h1 (by omega) h63 h70)) m _ (by omega) (by omega)
      · refine wp_if_ne (tgt := 80) dX12_isGot_73 rfl (fun q => absurd q (by decide)) (fun _ => ?_)
        refine wp_iconst dX12_isGot_76 ?_
        refine wp_goto (tgt := 81) dX12_isGot_77 rfl ?_
        refine wp_istore_n (ls' := [_, _, _, _, _]) dX12_isGot_81 (by decide) rfl rfl ?_
        refine wp_iinc (ls' := [_, _, _, _, _]) dX12_isGot_82 (by decide) rfl rfl ⟨by omega, by omega⟩ rfl ?_
        refine wp_goto (tgt := 47) dX12_isGot_85 rfl ?_
        exact ih _ (by omega) (by omega) (fun b x y hne => (Decidable.em (b = a)).elim (fun e => by first | exact absurd (e.trans h63) hne | (rw [e]; exact h70)) (fun e => h3 b x (by omega) hne))
theorem s_isGot {p c : Int} (hp : 0 ≤ p ∧ p < 6) (hP : Prm iv F) (hP2 : Prm2 iv F) (hB : Bok (iv 5 0) (iv 5 1) N) (hfr : 0 ≤ N 368 ∧ N 368 ≤ 20000) (hj : 0 ≤ N 366) (hS : ∀ a : Int, 0 ≤ a → a < F 13 → 0 ≤ S a ∧ S a ≤ 6) (hc : 0 ≤ c ∧ c ≤ 1000000) (kt : Got iv F N S p c → R (some (aI 1)) SHR (ST iv F N G O T S) lw RVR) (kf : ¬ Got iv F N S p c → R (some (aI 0)) SHR (ST iv F N G O T S) lw RVR) : wp (d + 3) mX12_isGot 0 [some (aR 0), some (aI p), some (aI c), none, none] [] SHR (ST iv F N G O T S) lw RVR 0 0 R := by
  have hm := hB.mny hp (q := 1) (Or.inr rfl)
  have hcr := chn_r hP hP2 hfr hc.1
  obtain ⟨hW1, hW2, hO1, hO2, hT1, hT2, hI1, hI2, hF1, hF2⟩ := id hP
  refine wp_aload_n dX12_isGot_0 rfl ?_
  refine wp_iload_n dX12_isGot_1 rfl ?_
  refine wp_iconst dX12_isGot_2 ?_
  refine wp_iload_n dX12_isGot_3 rfl ?_
  refine wp_callV (as := [_, _, _]) (ls0 := [_, _, _, _, _]) (kc := 0) (ks := 0) (bc' := 0) (bs' := 0) dX12_isGot_4 vX12_171 rfl rfl rfl (Nat.le_of_ble_eq_true rfl) (Nat.le_of_ble_eq_true rfl) (by omega) (by omega) ?_
  refine s_placeIn (by omega) (by omega) hm ?_
  refine wp_iconst dX12_isGot_7 ?_
  refine wp_icmp_eq (tgt := 42) dX12_isGot_8 rfl (fun h8 => ?_) (fun h8 => ?_)
  · refine wp_iconst dX12_isGot_42 ?_
    refine wp_istore_n (ls' := [_, _, _, _, _]) dX12_isGot_43 (by decide) rfl rfl ?_
    refine wp_iconst dX12_isGot_44 ?_
    refine wp_istore (ls' := [_, _, _, _, _]) dX12_isGot_45 (by decide) rfl rfl ?_
    first | exact l_isGot0 hF2 (kf (fun g => g.1.1 h8)) (F 13).toNat 0 (by omega) (by omega) | exact l_isGot0 hF2 (kf (fun g => g.1.2 h32)) (F 13).toNat 0 (by omega) (by omega)
  · refine wp_aload_n dX12_isGot_11 rfl ?_
    refine wp_getR rfl dX12_isGot_12 fX12_31 rfl ?_
    refine wp_sipush dX12_isGot_15 ?_
    refine wp_iald dX12_isGot_18 rfl (by omega) (by omega) ?_
    try simp only [ST0, ST5, ST6, ST7, ST8, ST10, ST11, ST12, ST13]
    refine wp_aload_n dX12_isGot_19 rfl ?_
    refine wp_aload_n dX12_isGot_20 rfl ?_
    refine wp_getR rfl dX12_isGot_21 fX12_31 rfl ?_
    refine wp_sipush dX12_isGot_24 ?_
    refine wp_iald dX12_isGot_27 rfl (by omega) (by omega) ?_
    try simp only [ST0, ST5, ST6, ST7, ST8, ST10, ST11, ST12, ST13]
    refine wp_iload_n dX12_isGot_28 rfl ?_
    refine wp_callV (as := [_, _]) (ls0 := [_, _, _, _]) (kc := 0) (ks := 0) (bc' := 0) (bs' := 0) dX12_isGot_29 vX12_268 rfl rfl rfl (Nat.le_of_ble_eq_true rfl) (Nat.le_of_ble_eq_true rfl) (by omega) (by omega) ?_
    refine s_channelOf hP hP2 hfr hc ?_
    refine wp_callS (as := [_, _]) (ls0 := [_, _]) (kc := 0) (ks := 0) (bc' := 0) (bs' := 0) dX12_isGot_32 vX12_106 rfl rfl (Nat.le_of_ble_eq_true rfl) (Nat.le_of_ble_eq_true rfl) (by omega) (by omega) ?_
    refine s_has hj (by omega) (fun h32 => ?_) (fun h32 => ?_)
    · refine wp_if_ne (tgt := 42) dX12_isGot_35 rfl (fun _ => ?_) (fun q => absurd q (by decide))
      refine wp_iconst dX12_isGot_42 ?_
      refine wp_istore_n (ls' := [_, _, _, _, _]) dX12_isGot_43 (by decide) rfl rfl ?_
      refine wp_iconst dX12_isGot_44 ?_
      refine wp_istore (ls' := [_, _, _, _, _]) dX12_isGot_45 (by decide) rfl rfl ?_
      first | exact l_isGot0 hF2 (kf (fun g => g.1.1 h8)) (F 13).toNat 0 (by omega) (by omega) | exact l_isGot0 hF2 (kf (fun g => g.1.2 h32)) (F 13).toNat 0 (by omega) (by omega)
    · refine wp_if_ne (tgt := 42) dX12_isGot_35 rfl (fun q => absurd q (by decide)) (fun _ => ?_)
      refine wp_iconst dX12_isGot_38 ?_
      refine wp_goto (tgt := 43) dX12_isGot_39 rfl ?_
      refine wp_istore_n (ls' := [_, _, _, _, _]) dX12_isGot_43 (by decide) rfl rfl ?_
      refine wp_iconst dX12_isGot_44 ?_
      refine wp_istore (ls' := [_, _, _, _, _]) dX12_isGot_45 (by decide) rfl rfl ?_
      exact l_isGot1 hF2 hS ⟨h8, h32⟩ kt kf (F 13).toNat 0 (by omega) (by omega) (fun b x y => by omega)
end R12
