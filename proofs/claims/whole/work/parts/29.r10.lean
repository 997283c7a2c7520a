/-! ===== a deed on a pair leaves all else alone ===== -/
def Loc (p : Int) (N N' : Int → Int) : Prop := ∀ j : Int, j < 61 * p ∨ 61 * p + 57 ≤ j → N' j = N j
section LC
variable {p q : Int} {N N1 N2 : Int → Int}
theorem Loc.rf : Loc p N N := fun _ _ => rfl
theorem Loc.tr (h1 : Loc p N N1) (h2 : Loc p N1 N2) : Loc p N N2 := fun j hj => (h2 j hj).trans (h1 j hj)
theorem Loc.u {k v : Int} (h : Loc p N N1) (hk : 0 ≤ k ∧ k < 57) : Loc p N (up N1 (61 * p + k) v) := fun j hj => by rw [up_n (by omega)]; exact h j hj
theorem Loc.lsh1 {k a b : Int} (h : Loc p N N1) (hk : 0 ≤ k + b ∧ k + b < 57) : Loc p N (sh1 N1 p k a b) := h.u hk
theorem Loc.lsh3 {a b : Int} (h : Loc p N N1) (hb : 0 ≤ b ∧ b < 6) : Loc p N (sh3 N1 p q a b) := by
  unfold sh3; split
  · exact ((h.lsh1 (by omega)).lsh1 (by omega)).lsh1 (by omega)
  · exact h.lsh1 (by omega)
theorem Loc.linsE {c n i : Int} (h : Loc p N N1) (hi : 0 ≤ i ∧ i < 6) : Loc p N (insE N1 p q c n i) := by
  unfold insE; split
  · exact (((h.u (by omega)).u (by omega)).u (by omega)).u (by omega)
  · exact (h.u (by omega)).u (by omega)
theorem Loc.linsL {c n : Int} (hn : n < 6) (m : Nat) : ∀ (i : Int) (N1 : Int → Int), i = m → i ≤ n → Loc p N N1 → Loc p N (insL p q c n m i N1) := by
  induction m with
  | zero => intro i N1 h1 h2 h; exact h.linsE (by omega)
  | succ m ih =>
    intro i N1 h1 h2 h
    rw [insL]; split
    · exact h.linsE (by omega)
    · exact ih _ _ (by omega) (by omega) (h.lsh3 (by omega))
theorem Loc.linsF {c : Int} (h : Loc p N N1) (hm : 0 ≤ N1 (61 * p + mq q) ∧ N1 (61 * p + mq q) ≤ 6) : Loc p N (insF N1 p q c) := by
  unfold insF; split
  · exact h
  · rename_i hc
    have : ¬ N1 (61 * p + mq q) = 6 := fun e => hc (Or.inl e)
    exact Loc.linsL (by omega) _ _ _ (by omega) (by omega) h
theorem Loc.lremL (m : Nat) : ∀ (i : Int) (N1 : Int → Int), 1 ≤ i → i + m ≤ 6 → Loc p N N1 → Loc p N (remL p q m i N1) := by
  induction m with
  | zero => intro i N1 h1 h2 h; exact h
  | succ m ih => intro i N1 h1 h2 h; exact ih _ _ (by omega) (by omega) (h.lsh3 (by omega))
theorem Loc.lremF {c : Int} (h : Loc p N N1) (hq : q = 0 ∨ q = 1) (hm : 0 ≤ N1 (61 * p + mq q) ∧ N1 (61 * p + mq q) ≤ 6) : Loc p N (remF N1 p q c) := by
  have hpl := plc_r (N := N1) (p := p) (q := q) (c := c) hm.1
  have := mq_r hq
  unfold remF; split
  · exact h
  · exact (Loc.lremL _ _ _ (by omega) (by omega) h).u (by omega)
theorem Loc.lclrF (h : Loc p N N1) (hq : q = 0 ∨ q = 1) : Loc p N (clrF N1 p q) := by have := mq_r hq; exact (h.u (by omega)).u (by omega)
theorem Loc.lstoF (h : Loc p N N1) (hq : q = 0 ∨ q = 1) : Loc p N (stoF N1 p q) := (h.u (by omega)).u (by omega)
theorem Loc.lwaiF (h : Loc p N N1) (hq : q = 0 ∨ q = 1) : Loc p N (waiF N1 p q) := (h.u (by omega)).u (by omega)
theorem Loc.lwriF {so ki re as : Int} (h : Loc p N N1) : Loc p N (wriF N1 p so ki re as) := ((((((h.u (by omega)).u (by omega)).u (by omega)).u (by omega)).u (by omega)).u (by omega)).u (by omega)
theorem Loc.lencF {c : Int} (h : Loc p N N1) (hm : 0 ≤ N1 (61 * p + 48) ∧ N1 (61 * p + 48) ≤ 6) : Loc p N (encF N1 p c) := (h.u (by omega)).u (by omega)
theorem Loc.lencL {f : Int → Int} (m : Nat) : ∀ (i : Int) (N1 : Int → Int), 0 ≤ N1 (61 * p + 48) → N1 (61 * p + 48) + m ≤ 6 → Loc p N N1 → Loc p N (encL p f m i N1) := by
  induction m with
  | zero => intro i N1 h1 h2 h; exact h
  | succ m ih => intro i N1 h1 h2 h; exact ih _ _ (by rw [encF_48]; omega) (by rw [encF_48]; omega) (h.lencF (by omega))
theorem Loc.lprmL {f : Int → Int} (hq : q = 0 ∨ q = 1) (m : Nat) : ∀ (i : Int) (N1 : Int → Int), 0 ≤ i → i + m ≤ 4 → Loc p N N1 → Loc p N (prmL p q f m i N1) := by
  induction m with
  | zero => intro i N1 h1 h2 h; exact h
  | succ m ih => intro i N1 h1 h2 h; exact ih _ _ (by omega) (by omega) (h.u (by omega))
theorem Loc.lprmF {n : Int} {f : Int → Int} (h : Loc p N N1) (hq : q = 0 ∨ q = 1) (hn : n ≤ 4) : Loc p N (prmF N1 p q n f) := Loc.lprmL hq _ _ _ (by omega) (by omega) (h.u (by omega))
theorem Loc.lstpF (h : Loc p N N1) (hq : q = 0 ∨ q = 1) : Loc p N (stpF N1 p q) := h.u (by omega)
theorem Loc.lansF (h : Loc p N N1) : Loc p N (ansF N1 p) := by
  unfold ansF; split
  · exact h.u (by omega)
  · exact (h.u (by omega)).lstpF (Or.inr rfl)
theorem Loc.ldelL (m : Nat) : ∀ (i : Int) (N1 : Int → Int), 0 ≤ N1 (61 * p + 48) → N1 (61 * p + 48) + m ≤ 6 → Loc p N N1 → Loc p N (delL p m i N1) := by
  induction m with
  | zero => intro i N1 h1 h2 h; exact h
  | succ m ih => intro i N1 h1 h2 h; exact ih _ _ (by rw [encF_48]; omega) (by rw [encF_48]; omega) (h.lencF (by omega))
variable {pa f : Int → Int} {np most tm W Of : Int}
theorem Loc.ltkI (hp : 0 ≤ p ∧ p < 6) (hq : q = 0 ∨ q = 1) (m : Nat) : ∀ (i n : Int) (N1 : Int → Int), (∀ j : Int, i ≤ j → j < i + m → Vc W Of (f j)) → N1 (61 * p + 48) + m ≤ 4 → Bok W Of N1 → Loc p N N1 → Loc p N (tkI pa f np p q most m i n N1) := by
  induction m with
  | zero => intro i n N1 hf h4 hB h; exact h
  | succ m ih =>
    intro i n N1 hf h4 hB h
    have hfi := hf i (by omega) (by omega)
    have h48 := hB.v48 hp
    have e : insF N1 p q (f i) (61 * p + 48) = N1 (61 * p + 48) := insF_n (hB.mny hp hq) (by decide)
    by_cases h1 : most ≤ n ∨ 6 ≤ N1 (61 * p + mq q)
    · rw [tkI_e h1]; exact h
    · by_cases h2 : Tkn N1 pa np (pa (4 * p + q)) (f i / 10)
      · rw [tkI_t h1 h2]; exact ih _ _ _ (fun j a b => hf j (by omega) (by omega)) (by omega) hB h
      · rw [tkI_f h1 h2]; exact ih _ _ _ (fun j a b => hf j (by omega) (by omega)) (by rw [encF_48, e]; omega) ((hB.binsF hp hq hfi).bencF (by rw [e]; omega) hfi) ((h.linsF (hB.mny hp hq)).lencF (by rw [e]; omega))
theorem Loc.lmvF (hB : Bok W Of N1) (hp : 0 ≤ p ∧ p < 6) (h48 : N1 (61 * p + 48) = 0) (h : Loc p N N1) : Loc p N (mvF pa f N1 np p tm) := by
  unfold mvF; split
  · have hm := hB.mny hp (q := 1) (Or.inr rfl)
    have hB1 := hB.bremF (q := 1) (c := f 0) hp (Or.inr rfl)
    have e1 : remF N1 p 1 (f 0) (61 * p + 48) = N1 (61 * p + 48) := remF_n (Or.inr rfl) hm (by decide)
    have hm1 := hB1.mny hp (q := 1) (Or.inr rfl)
    have e2 : ∀ c, insF (remF N1 p 1 (f 0)) p 1 c (61 * p + 48) = N1 (61 * p + 48) := fun c => by rw [insF_n hm1 (by decide), e1]
    exact (((h.lremF (Or.inr rfl) hm).linsF hm1).lencF (by rw [e2]; omega)).lencF (by rw [encF_48, e2]; omega)
  · exact h
theorem Loc.ldlQ (hp : 0 ≤ p ∧ p < 6) (m : Nat) : ∀ (i : Int) (N1 : Int → Int), (∀ j : Int, i ≤ j → j < i + m → Vc W Of (f j)) → N1 (61 * p + 48) + m ≤ 4 → Bok W Of N1 → Loc p N N1 → Loc p N (dlQ p f m i N1) := by
  induction m with
  | zero => intro i N1 hf h4 hB h; exact h
  | succ m ih =>
    intro i N1 hf h4 hB h
    have h48 := hB.v48 hp
    have hm := hB.mny hp (q := 1) (Or.inr rfl)
    rw [dlQ]; split
    · exact ih _ _ (fun j a b => hf j (by omega) (by omega)) (by omega) hB h
    · have e1 : remF N1 p 1 (f i) (61 * p + 48) = N1 (61 * p + 48) := remF_n (Or.inr rfl) hm (by decide)
      exact ih _ _ (fun j a b => hf j (by omega) (by omega)) (by rw [encF_48, e1]; omega) ((hB.bremF hp (Or.inr rfl)).bencF (by rw [e1]; omega) (hf i (by omega) (by omega))) ((h.lremF (Or.inr rfl) hm).lencF (by rw [e1]; omega))
theorem Loc.linsA (hp : 0 ≤ p ∧ p < 6) (hq : q = 0 ∨ q = 1) (m : Nat) : ∀ (i : Int) (N1 : Int → Int), (∀ j : Int, i ≤ j → j < i + m → Vc W Of (f j)) → Bok W Of N1 → Loc p N N1 → Loc p N (insA p q f m i N1) := by
  induction m with
  | zero => intro i N1 hf hB h; exact h
  | succ m ih => intro i N1 hf hB h; exact ih _ _ (fun j a b => hf j (by omega) (by omega)) (hB.binsF hp hq (hf i (by omega) (by omega))) (h.linsF (hB.mny hp hq))
theorem Loc.lremA (hp : 0 ≤ p ∧ p < 6) (hq : q = 0 ∨ q = 1) (m : Nat) : ∀ (i : Int) (N1 : Int → Int), Bok W Of N1 → Loc p N N1 → Loc p N (remA p q f m i N1) := by
  induction m with
  | zero => intro i N1 hB h; exact h
  | succ m ih => intro i N1 hB h; exact ih _ _ (hB.bremF hp hq) (h.lremF hq (hB.mny hp hq))
end LC
section R10
variable {d : Nat} {iv lw : aF} {F N G O T S : Int → Int} {R : aPost}
theorem l_cf {p tm : Int} (hp : 0 ≤ p ∧ p < 6) (hF : F 22 = tm) (m : Nat) : ∀ (i : Int) (N : Int → Int), 0 ≤ i → i + m = tm → tm ≤ 4 → Bok (iv 5 0) (iv 5 1) N → (∀ j : Int, 0 ≤ j → j < tm → Vc (iv 5 0) (iv 5 1) (T j)) → (∀ N', N' = insA p 1 T m i N → R none SHR (ST iv F (stoF (if 0 < tm then stpF N' p 1 else N') p 1) G O T S) lw RVR) → wp (d + 4) mX12_readConfirm 26 [some (aR 0), some (aI p), some (aI i)] [] SHR (ST iv F N G O T S) lw RVR 0 0 R := by
  induction m with
  | zero =>
    intro i N h1 h2 h3 hB hT k
    have hsq := hB.seq hp (q := 1) (Or.inr rfl)
    have hk := k N rfl
    refine wp_iload_n dX12_readConfirm_26 rfl ?_
    refine wp_aload_n dX12_readConfirm_27 rfl ?_
    refine wp_getI dX12_readConfirm_28 fX12_218 rfl ?_
    try simp only [ST0, ST5, ST6, ST7, ST8, ST10, ST11, ST12, ST13]
    refine wp_icmp_ge (tgt := 52) dX12_readConfirm_31 rfl (fun h31 => ?_) (fun h31 => by exfalso; omega)
    refine wp_aload_n dX12_readConfirm_52 rfl ?_
    refine wp_getI dX12_readConfirm_53 fX12_218 rfl ?_
    try simp only [ST0, ST5, ST6, ST7, ST8, ST10, ST11, ST12, ST13]
    refine wp_if_le (tgt := 65) dX12_readConfirm_56 rfl (fun h56 => ?_) (fun h56 => ?_)
    · refine wp_aload_n dX12_readConfirm_65 rfl ?_
      refine wp_iload_n dX12_readConfirm_66 rfl ?_
      refine wp_iconst dX12_readConfirm_67 ?_
      refine wp_callV (as := [_, _]) (ls0 := [_, _, _]) (kc := 0) (ks := 0) (bc' := 0) (bs' := 0) dX12_readConfirm_68 vX12_238 rfl rfl rfl (Nat.le_of_ble_eq_true rfl) (Nat.le_of_ble_eq_true rfl) (by omega) (by omega) ?_
      refine s_waitNoMore (by omega) (by omega) ?_
      refine wp_return dX12_readConfirm_71 rfl ?_
      first | (rw [if_neg (by omega)] at hk; exact hk) | (rw [if_pos (by omega)] at hk; exact hk)
    · refine wp_aload_n dX12_readConfirm_59 rfl ?_
      refine wp_iload_n dX12_readConfirm_60 rfl ?_
      refine wp_iconst dX12_readConfirm_61 ?_
      refine wp_callV (as := [_, _]) (ls0 := [_, _, _]) (kc := 0) (ks := 0) (bc' := 0) (bs' := 0) dX12_readConfirm_62 vX12_225 rfl rfl rfl (Nat.le_of_ble_eq_true rfl) (Nat.le_of_ble_eq_true rfl) (by omega) (by omega) ?_
      refine s_stepOn (by omega) (by omega) hsq ?_
      refine wp_aload_n dX12_readConfirm_65 rfl ?_
      refine wp_iload_n dX12_readConfirm_66 rfl ?_
      refine wp_iconst dX12_readConfirm_67 ?_
      refine wp_callV (as := [_, _]) (ls0 := [_, _, _]) (kc := 0) (ks := 0) (bc' := 0) (bs' := 0) dX12_readConfirm_68 vX12_238 rfl rfl rfl (Nat.le_of_ble_eq_true rfl) (Nat.le_of_ble_eq_true rfl) (by omega) (by omega) ?_
      refine s_waitNoMore (by omega) (by omega) ?_
      refine wp_return dX12_readConfirm_71 rfl ?_
      first | (rw [if_neg (by omega)] at hk; exact hk) | (rw [if_pos (by omega)] at hk; exact hk)
  | succ m ih =>
    intro i N h1 h2 h3 hB hT k
    have hm := hB.mny hp (q := 1) (Or.inr rfl)
    refine wp_iload_n dX12_readConfirm_26 rfl ?_
    refine wp_aload_n dX12_readConfirm_27 rfl ?_
    refine wp_getI dX12_readConfirm_28 fX12_218 rfl ?_
    try simp only [ST0, ST5, ST6, ST7, ST8, ST10, ST11, ST12, ST13]
    refine wp_icmp_ge (tgt := 52) dX12_readConfirm_31 rfl (fun h31 => by exfalso; omega) (fun h31 => ?_)
    refine wp_aload_n dX12_readConfirm_34 rfl ?_
    refine wp_iload_n dX12_readConfirm_35 rfl ?_
    refine wp_iconst dX12_readConfirm_36 ?_
    refine wp_aload_n dX12_readConfirm_37 rfl ?_
    refine wp_getR rfl dX12_readConfirm_38 fX12_47 rfl ?_
    refine wp_iload_n dX12_readConfirm_41 rfl ?_
    refine wp_iald dX12_readConfirm_42 rfl (by omega) (by omega) ?_
    try simp only [ST0, ST5, ST6, ST7, ST8, ST10, ST11, ST12, ST13]
    refine wp_callV (as := [_, _, _]) (ls0 := [_, _, _, _, _, _]) (kc := 0) (ks := 0) (bc' := 0) (bs' := 0) dX12_readConfirm_43 vX12_228 rfl rfl rfl (Nat.le_of_ble_eq_true rfl) (Nat.le_of_ble_eq_true rfl) (by omega) (by omega) ?_
    refine s_insert (by omega) (by omega) hm ?_
    refine wp_iinc (ls' := [_, _, _]) dX12_readConfirm_46 (by decide) rfl rfl ⟨by omega, by omega⟩ rfl ?_
    refine wp_goto (tgt := 26) dX12_readConfirm_49 rfl ?_
    exact ih _ _ (by omega) (by omega) h3 (hB.binsF hp (Or.inr rfl) (hT i h1 (by omega))) hT k
theorem s_readConfirm {p : Int} (hp : 0 ≤ p ∧ p < 6) (hB : Bok (iv 5 0) (iv 5 1) N) (k : ∀ O' T', R none SHR (ST iv (up F 22 (N (61 * p + 48))) (cfF N p) G O' T' S) lw RVR) : wp (d + 4) mX12_readConfirm 0 [some (aR 0), some (aI p), none] [] SHR (ST iv F N G O T S) lw RVR 0 0 R := by
  have h48 := hB.v48 hp
  have hFu : up F 22 (N (61 * p + 48)) 22 = N (61 * p + 48) := up_s
  have hB1 : Bok (iv 5 0) (iv 5 1) (up N (61 * p + 43) 0) := hB.bup (by omega) (by rw [k43]; omega)
  refine wp_aload_n dX12_readConfirm_0 rfl ?_
  refine wp_iload_n dX12_readConfirm_1 rfl ?_
  refine wp_callV (as := [_]) (ls0 := [_, _, _]) (kc := 0) (ks := 0) (bc' := 0) (bs' := 0) dX12_readConfirm_2 vX12_234 rfl rfl rfl (Nat.le_of_ble_eq_true rfl) (Nat.le_of_ble_eq_true rfl) (by omega) (by omega) ?_
  refine s_layTold hp (by omega) (fun T' hT' => ?_)
  refine wp_aload_n dX12_readConfirm_5 rfl ?_
  refine wp_iload_n dX12_readConfirm_6 rfl ?_
  refine wp_bipush dX12_readConfirm_7 ?_
  refine wp_iconst dX12_readConfirm_9 ?_
  refine wp_callV (as := [_, _, _]) (ls0 := [_, _, _, _]) (kc := 0) (ks := 0) (bc' := 0) (bs' := 0) dX12_readConfirm_10 vX12_141 rfl rfl rfl (Nat.le_of_ble_eq_true rfl) (Nat.le_of_ble_eq_true rfl) (by omega) (by omega) ?_
  refine s_set (by omega) (by omega) ?_
  refine wp_aload_n dX12_readConfirm_13 rfl ?_
  refine wp_iload_n dX12_readConfirm_14 rfl ?_
  refine wp_bipush dX12_readConfirm_15 ?_
  refine wp_callV (as := [_, _]) (ls0 := [_, _, _]) (kc := 0) (ks := 0) (bc' := 0) (bs' := 0) dX12_readConfirm_17 vX12_161 rfl rfl rfl (Nat.le_of_ble_eq_true rfl) (Nat.le_of_ble_eq_true rfl) (by omega) (by omega) ?_
  refine s_of (by omega) (by omega) ?_
  rw [up_n (by omega)]
  refine wp_if_ne (tgt := 24) dX12_readConfirm_20 rfl (fun h20 => ?_) (fun h20 => ?_)
  · refine wp_iconst dX12_readConfirm_24 ?_
    refine wp_istore_n (ls' := [_, _, _]) dX12_readConfirm_25 (by decide) rfl rfl ?_
    refine l_cf hp hFu (N (61 * p + 48)).toNat 0 _ (by omega) (by omega) h48.2 hB1 (fun j a b => by rw [hT' j a b]; exact hB.lcl hp (by omega)) (fun N' hN' => ?_)
    have hk := k O T'
    rw [cfF, if_neg h20] at hk
    rw [insA_c (g := tld N p) _ _ _ (fun j a b => hT' j a (by omega))] at hN'
    rw [hN']
    exact hk
  · refine wp_return dX12_readConfirm_23 rfl ?_
    have hk := k O T'; rw [cfF, if_pos h20] at hk; exact hk
theorem l_ok0 {p as tm : Int} (hp : 0 ≤ p ∧ p < 6) (hF : F 22 = tm) (m : Nat) : ∀ (i : Int) (N : Int → Int), 0 ≤ i → i + m = tm → tm ≤ 4 → Bok (iv 5 0) (iv 5 1) N → (∀ j : Int, 0 ≤ j → j < tm → Vc (iv 5 0) (iv 5 1) (T j)) → R none SHR (ST iv F (stpF (insA p 0 T m i N) p 0) G O T S) lw RVR → wp (d + 5) mX12_readOk 60 [some (aR 0), some (aI p), some (aI 0), some (aI as), some (aI i)] [] SHR (ST iv F N G O T S) lw RVR 0 0 R := by
  induction m with
  | zero =>
    intro i N h1 h2 h3 hB hT k
    have hsq := hB.seq hp (q := 0) (Or.inl rfl)
    refine wp_iload dX12_readOk_60 rfl ?_
    refine wp_aload_n dX12_readOk_62 rfl ?_
    refine wp_getI dX12_readOk_63 fX12_218 rfl ?_
    try simp only [ST0, ST5, ST6, ST7, ST8, ST10, ST11, ST12, ST13]
    refine wp_icmp_ge (tgt := 113) dX12_readOk_66 rfl (fun h66 => ?_) (fun h66 => by exfalso; omega)
    refine wp_iload_n dX12_readOk_113 rfl ?_
    refine wp_iconst dX12_readOk_114 ?_
    refine wp_icmp_ne (tgt := 158) dX12_readOk_115 rfl (fun _ => ?_) (fun q => absurd q (by decide))
    refine wp_aload_n dX12_readOk_158 rfl ?_
    refine wp_iload_n dX12_readOk_159 rfl ?_
    refine wp_iconst dX12_readOk_160 ?_
    refine wp_callV (as := [_, _]) (ls0 := [_, _, _]) (kc := 0) (ks := 0) (bc' := 0) (bs' := 0) dX12_readOk_161 vX12_225 rfl rfl rfl (Nat.le_of_ble_eq_true rfl) (Nat.le_of_ble_eq_true rfl) (by omega) (by omega) ?_
    refine s_stepOn (by omega) (by omega) hsq ?_
    refine wp_return dX12_readOk_164 rfl ?_
    exact k
  | succ m ih =>
    intro i N h1 h2 h3 hB hT k
    have hm := hB.mny hp (q := 0) (Or.inl rfl)
    refine wp_iload dX12_readOk_60 rfl ?_
    refine wp_aload_n dX12_readOk_62 rfl ?_
    refine wp_getI dX12_readOk_63 fX12_218 rfl ?_
    try simp only [ST0, ST5, ST6, ST7, ST8, ST10, ST11, ST12, ST13]
    refine wp_icmp_ge (tgt := 113) dX12_readOk_66 rfl (fun h66 => by exfalso; omega) (fun h66 => ?_)
    refine wp_iload_n dX12_readOk_69 rfl ?_
    refine wp_iconst dX12_readOk_70 ?_
    refine wp_icmp_eq (tgt := 113) dX12_readOk_71 rfl (fun q => absurd q (by decide)) (fun _ => ?_)
    refine wp_iload_n dX12_readOk_74 rfl ?_
    refine wp_if_ne (tgt := 94) dX12_readOk_75 rfl (fun q => absurd q (by decide)) (fun _ => ?_)
    refine wp_aload_n dX12_readOk_78 rfl ?_
    refine wp_iload_n dX12_readOk_79 rfl ?_
    refine wp_iconst dX12_readOk_80 ?_
    refine wp_aload_n dX12_readOk_81 rfl ?_
    refine wp_getR rfl dX12_readOk_82 fX12_47 rfl ?_
    refine wp_iload dX12_readOk_85 rfl ?_
    refine wp_iald dX12_readOk_87 rfl (by omega) (by omega) ?_
    try simp only [ST0, ST5, ST6, ST7, ST8, ST10, ST11, ST12, ST13]
    refine wp_callV (as := [_, _, _]) (ls0 := [_, _, _, _, _, _]) (kc := 0) (ks := 0) (bc' := 0) (bs' := 0) dX12_readOk_88 vX12_228 rfl rfl rfl (Nat.le_of_ble_eq_true rfl) (Nat.le_of_ble_eq_true rfl) (by omega) (by omega) ?_
    refine s_insert (by omega) (by omega) hm ?_
    refine wp_goto (tgt := 107) dX12_readOk_91 rfl ?_
    refine wp_iinc (ls' := [_, _, _, _, _]) dX12_readOk_107 (by decide) rfl rfl ⟨by omega, by omega⟩ rfl ?_
    refine wp_goto (tgt := 60) dX12_readOk_110 rfl ?_
    exact ih _ _ (by omega) (by omega) h3 (hB.binsF hp (Or.inl rfl) (hT i h1 (by omega))) hT k
theorem l_ok1 {p as tm : Int} (hp : 0 ≤ p ∧ p < 6) (hF : F 22 = tm) (m : Nat) : ∀ (i : Int) (N : Int → Int), 0 ≤ i → i + m = tm → tm ≤ 4 → Bok (iv 5 0) (iv 5 1) N → (∀ j : Int, 0 ≤ j → j < tm → Vc (iv 5 0) (iv 5 1) (T j)) → R none SHR (ST iv F (stpF (remA p 0 T m i N) p 0) G O T S) lw RVR → wp (d + 5) mX12_readOk 60 [some (aR 0), some (aI p), some (aI 1), some (aI as), some (aI i)] [] SHR (ST iv F N G O T S) lw RVR 0 0 R := by
  induction m with
  | zero =>
    intro i N h1 h2 h3 hB hT k
    have hsq := hB.seq hp (q := 0) (Or.inl rfl)
    refine wp_iload dX12_readOk_60 rfl ?_
    refine wp_aload_n dX12_readOk_62 rfl ?_
    refine wp_getI dX12_readOk_63 fX12_218 rfl ?_
    try simp only [ST0, ST5, ST6, ST7, ST8, ST10, ST11, ST12, ST13]
    refine wp_icmp_ge (tgt := 113) dX12_readOk_66 rfl (fun h66 => ?_) (fun h66 => by exfalso; omega)
    refine wp_iload_n dX12_readOk_113 rfl ?_
    refine wp_iconst dX12_readOk_114 ?_
    refine wp_icmp_ne (tgt := 158) dX12_readOk_115 rfl (fun _ => ?_) (fun q => absurd q (by decide))
    refine wp_aload_n dX12_readOk_158 rfl ?_
    refine wp_iload_n dX12_readOk_159 rfl ?_
    refine wp_iconst dX12_readOk_160 ?_
    refine wp_callV (as := [_, _]) (ls0 := [_, _, _]) (kc := 0) (ks := 0) (bc' := 0) (bs' := 0) dX12_readOk_161 vX12_225 rfl rfl rfl (Nat.le_of_ble_eq_true rfl) (Nat.le_of_ble_eq_true rfl) (by omega) (by omega) ?_
    refine s_stepOn (by omega) (by omega) hsq ?_
    refine wp_return dX12_readOk_164 rfl ?_
    exact k
  | succ m ih =>
    intro i N h1 h2 h3 hB hT k
    have hm := hB.mny hp (q := 0) (Or.inl rfl)
    refine wp_iload dX12_readOk_60 rfl ?_
    refine wp_aload_n dX12_readOk_62 rfl ?_
    refine wp_getI dX12_readOk_63 fX12_218 rfl ?_
    try simp only [ST0, ST5, ST6, ST7, ST8, ST10, ST11, ST12, ST13]
    refine wp_icmp_ge (tgt := 113) dX12_readOk_66 rfl (fun h66 => by exfalso; omega) (fun h66 => ?_)
    refine wp_iload_n dX12_readOk_69 rfl ?_
    refine wp_iconst dX12_readOk_70 ?_
    refine wp_icmp_eq (tgt := 113) dX12_readOk_71 rfl (fun q => absurd q (by decide)) (fun _ => ?_)
    refine wp_iload_n dX12_readOk_74 rfl ?_
    refine wp_if_ne (tgt := 94) dX12_readOk_75 rfl (fun _ => ?_) (fun q => absurd q (by decide))
    refine wp_aload_n dX12_readOk_94 rfl ?_
    refine wp_iload_n dX12_readOk_95 rfl ?_
    refine wp_iconst dX12_readOk_96 ?_
    refine wp_aload_n dX12_readOk_97 rfl ?_
    refine wp_getR rfl dX12_readOk_98 fX12_47 rfl ?_
    refine wp_iload dX12_readOk_101 rfl ?_
    refine wp_iald dX12_readOk_103 rfl (by omega) (by omega) ?_
    try simp only [ST0, ST5, ST6, ST7, ST8, ST10, ST11, ST12, ST13]
    refine wp_callV (as := [_, _, _]) (ls0 := [_, _, _, _, _, _]) (kc := 0) (ks := 0) (bc' := 0) (bs' := 0) dX12_readOk_104 vX12_231 rfl rfl rfl (Nat.le_of_ble_eq_true rfl) (Nat.le_of_ble_eq_true rfl) (by omega) (by omega) ?_
    refine s_remove (by omega) (by omega) hm ?_
    refine wp_iinc (ls' := [_, _, _, _, _]) dX12_readOk_107 (by decide) rfl rfl ⟨by omega, by omega⟩ rfl ?_
    refine wp_goto (tgt := 60) dX12_readOk_110 rfl ?_
    exact ih _ _ (by omega) (by omega) h3 (hB.bremF hp (Or.inl rfl)) hT k
theorem s_ok3 {p as : Int} (hp : 0 ≤ p ∧ p < 6) (hP : Prm iv F) (hT : ∀ j : Int, 0 ≤ j → j < F 22 → Vc (iv 5 0) (iv 5 1) (T j)) (ht : 0 ≤ F 22 ∧ F 22 ≤ 4) (hB : Bok (iv 5 0) (iv 5 1) N) (has : -1 ≤ as ∧ as ≤ 3) (k : R none SHR (ST iv F (okF iv F N T p 3 as (F 22)) G O T S) lw RVR) : wp (d + 5) mX12_readOk 0 [some (aR 0), some (aI p), some (aI 3), some (aI as), none] [] SHR (ST iv F N G O T S) lw RVR 0 0 R := by
  obtain ⟨hW1, hW2, hO1, hO2, hT1, hT2, hI1, hI2, hF1, hF2⟩ := id hP
  have hsq := hB.seq hp (q := 0) (Or.inl rfl)
  have hm := hB.mny hp (q := 0) (Or.inl rfl)
  refine wp_iload_n dX12_readOk_0 rfl ?_
  refine wp_if_ne (tgt := 45) dX12_readOk_1 rfl (fun _ => ?_) (fun q => absurd q (by decide))
  refine wp_iload_n dX12_readOk_45 rfl ?_
  refine wp_iconst dX12_readOk_46 ?_
  refine wp_icmp_ne (tgt := 57) dX12_readOk_47 rfl (fun q => absurd q (by decide)) (fun _ => ?_)
  refine wp_aload_n dX12_readOk_50 rfl ?_
  refine wp_iload_n dX12_readOk_51 rfl ?_
  refine wp_iconst dX12_readOk_52 ?_
  refine wp_callV (as := [_, _]) (ls0 := [_, _, _]) (kc := 0) (ks := 0) (bc' := 0) (bs' := 0) dX12_readOk_53 vX12_241 rfl rfl rfl (Nat.le_of_ble_eq_true rfl) (Nat.le_of_ble_eq_true rfl) (by omega) (by omega) ?_
  refine s_emptyTable (by omega) (by omega) ?_
  refine wp_return dX12_readOk_56 rfl ?_
  rw [okF, if_neg (by omega), if_pos rfl] at k; exact k
theorem s_ok1 {p as : Int} (hp : 0 ≤ p ∧ p < 6) (hP : Prm iv F) (hT : ∀ j : Int, 0 ≤ j → j < F 22 → Vc (iv 5 0) (iv 5 1) (T j)) (ht : 0 ≤ F 22 ∧ F 22 ≤ 4) (hB : Bok (iv 5 0) (iv 5 1) N) (has : -1 ≤ as ∧ as ≤ 3) (k : R none SHR (ST iv F (okF iv F N T p 1 as (F 22)) G O T S) lw RVR) : wp (d + 5) mX12_readOk 0 [some (aR 0), some (aI p), some (aI 1), some (aI as), none] [] SHR (ST iv F N G O T S) lw RVR 0 0 R := by
  obtain ⟨hW1, hW2, hO1, hO2, hT1, hT2, hI1, hI2, hF1, hF2⟩ := id hP
  have hsq := hB.seq hp (q := 0) (Or.inl rfl)
  have hm := hB.mny hp (q := 0) (Or.inl rfl)
  refine wp_iload_n dX12_readOk_0 rfl ?_
  refine wp_if_ne (tgt := 45) dX12_readOk_1 rfl (fun _ => ?_) (fun q => absurd q (by decide))
  refine wp_iload_n dX12_readOk_45 rfl ?_
  refine wp_iconst dX12_readOk_46 ?_
  refine wp_icmp_ne (tgt := 57) dX12_readOk_47 rfl (fun _ => ?_) (fun q => absurd q (by decide))
  refine wp_iconst dX12_readOk_57 ?_
  refine wp_istore (ls' := [_, _, _, _, _]) dX12_readOk_58 (by decide) rfl rfl ?_
  refine l_ok1 hp rfl (F 22).toNat 0 N (by omega) (by omega) ht.2 hB hT ?_
  rw [okF, if_neg (by omega), if_neg (by omega), if_neg (by omega), if_neg (by omega)] at k; exact k
theorem s_ok0 {p as : Int} (hp : 0 ≤ p ∧ p < 6) (hP : Prm iv F) (hT : ∀ j : Int, 0 ≤ j → j < F 22 → Vc (iv 5 0) (iv 5 1) (T j)) (ht : 0 ≤ F 22 ∧ F 22 ≤ 4) (hB : Bok (iv 5 0) (iv 5 1) N) (has : -1 ≤ as ∧ as ≤ 3) (k : R none SHR (ST iv F (okF iv F N T p 0 as (F 22)) G O T S) lw RVR) : wp (d + 5) mX12_readOk 0 [some (aR 0), some (aI p), some (aI 0), some (aI as), none] [] SHR (ST iv F N G O T S) lw RVR 0 0 R := by
  obtain ⟨hW1, hW2, hO1, hO2, hT1, hT2, hI1, hI2, hF1, hF2⟩ := id hP
  have hsq := hB.seq hp (q := 0) (Or.inl rfl)
  have hm := hB.mny hp (q := 0) (Or.inl rfl)
  have hBw : Bok (iv 5 0) (iv 5 1) (wriF N p 2 0 (-1) as) := hB.bwriF hp (by omega) (by omega) (by omega) has
  have hBt : Bok (iv 5 0) (iv 5 1) (tkI (iv 6) T (F 13) p 0 as (F 22).toNat 0 0 (wriF N p 2 0 (-1) as)) := Bok.btkI hp (Or.inl rfl) _ _ _ _ (fun j a b => hT j a (by omega)) (by rw [wriF_48]; omega) hBw
  refine wp_iload_n dX12_readOk_0 rfl ?_
  refine wp_if_ne (tgt := 45) dX12_readOk_1 rfl (fun q => absurd q (by decide)) (fun _ => ?_)
  refine wp_aload_n dX12_readOk_4 rfl ?_
  refine wp_iload_n dX12_readOk_5 rfl ?_
  refine wp_callV (as := [_]) (ls0 := [_, _]) (kc := 0) (ks := 0) (bc' := 0) (bs' := 0) dX12_readOk_6 vX12_191 rfl rfl rfl (Nat.le_of_ble_eq_true rfl) (Nat.le_of_ble_eq_true rfl) (by omega) (by omega) ?_
  refine s_isTwoStep (by omega) (fun h6 => ?_) (fun h6 => ?_)
  · refine wp_if_ne (tgt := 45) dX12_readOk_9 rfl (fun _ => ?_) (fun q => absurd q (by decide))
    refine wp_iload_n dX12_readOk_45 rfl ?_
    refine wp_iconst dX12_readOk_46 ?_
    refine wp_icmp_ne (tgt := 57) dX12_readOk_47 rfl (fun _ => ?_) (fun q => absurd q (by decide))
    refine wp_iconst dX12_readOk_57 ?_
    refine wp_istore (ls' := [_, _, _, _, _]) dX12_readOk_58 (by decide) rfl rfl ?_
    refine l_ok0 hp rfl (F 22).toNat 0 N (by omega) (by omega) ht.2 hB hT ?_
    rw [okF, if_neg (by omega), if_neg (by omega), if_pos rfl] at k; exact k
  · refine wp_if_ne (tgt := 45) dX12_readOk_9 rfl (fun q => absurd q (by decide)) (fun _ => ?_)
    refine wp_aload_n dX12_readOk_12 rfl ?_
    refine wp_iload_n dX12_readOk_13 rfl ?_
    refine wp_iconst dX12_readOk_14 ?_
    refine wp_iconst dX12_readOk_15 ?_
    refine wp_iconst dX12_readOk_16 ?_
    refine wp_iload_n dX12_readOk_17 rfl ?_
    refine wp_callV (as := [_, _, _, _, _]) (ls0 := [_, _, _, _, _, _]) (kc := 0) (ks := 0) (bc' := 0) (bs' := 0) dX12_readOk_18 vX12_205 rfl rfl rfl (Nat.le_of_ble_eq_true rfl) (Nat.le_of_ble_eq_true rfl) (by omega) (by omega) ?_
    refine s_write (by omega) ?_
    refine wp_aload_n dX12_readOk_21 rfl ?_
    refine wp_iload_n dX12_readOk_22 rfl ?_
    refine wp_iconst dX12_readOk_23 ?_
    refine wp_iload_n dX12_readOk_24 rfl ?_
    refine wp_callV (as := [_, _, _]) (ls0 := [_, _, _, _, _, _]) (kc := 0) (ks := 0) (bc' := 0) (bs' := 0) dX12_readOk_25 vX12_244 rfl rfl rfl (Nat.le_of_ble_eq_true rfl) (Nat.le_of_ble_eq_true rfl) (by omega) (by omega) ?_
    refine s_takeIn hp (Or.inl rfl) hP hT ht hBw wriF_48 ?_
    refine wp_aload_n dX12_readOk_28 rfl ?_
    refine wp_iload_n dX12_readOk_29 rfl ?_
    refine wp_bipush dX12_readOk_30 ?_
    refine wp_callV (as := [_, _]) (ls0 := [_, _, _]) (kc := 0) (ks := 0) (bc' := 0) (bs' := 0) dX12_readOk_32 vX12_161 rfl rfl rfl (Nat.le_of_ble_eq_true rfl) (Nat.le_of_ble_eq_true rfl) (by omega) (by omega) ?_
    refine s_of (by omega) (by omega) ?_
    refine wp_if_le (tgt := 44) dX12_readOk_35 rfl (fun h35 => ?_) (fun h35 => ?_)
    · refine wp_return dX12_readOk_44 rfl ?_
      rw [okF, if_pos (by omega)] at k; first | (rw [if_neg (by omega)] at k; exact k) | (rw [if_pos (by omega)] at k; exact k)
    · refine wp_aload_n dX12_readOk_38 rfl ?_
      refine wp_iload_n dX12_readOk_39 rfl ?_
      refine wp_iconst dX12_readOk_40 ?_
      refine wp_callV (as := [_, _]) (ls0 := [_, _, _]) (kc := 0) (ks := 0) (bc' := 0) (bs' := 0) dX12_readOk_41 vX12_225 rfl rfl rfl (Nat.le_of_ble_eq_true rfl) (Nat.le_of_ble_eq_true rfl) (by omega) (by omega) ?_
      refine s_stepOn (by omega) (by omega) (hBt.seq hp (q := 0) (Or.inl rfl)) ?_
      refine wp_return dX12_readOk_44 rfl ?_
      rw [okF, if_pos (by omega)] at k; first | (rw [if_neg (by omega)] at k; exact k) | (rw [if_pos (by omega)] at k; exact k)
theorem s_ok2 {p as : Int} (hp : 0 ≤ p ∧ p < 6) (hP : Prm iv F) (hT : ∀ j : Int, 0 ≤ j → j < F 22 → Vc (iv 5 0) (iv 5 1) (T j)) (ht : 0 ≤ F 22 ∧ F 22 ≤ 4) (hB : Bok (iv 5 0) (iv 5 1) N) (has : -1 ≤ as ∧ as ≤ 3) (h2 : F 22 = 2) (k : R none SHR (ST iv F (okF iv F N T p 2 as (F 22)) G O T S) lw RVR) : wp (d + 5) mX12_readOk 0 [some (aR 0), some (aI p), some (aI 2), some (aI as), none] [] SHR (ST iv F N G O T S) lw RVR 0 0 R := by
  obtain ⟨hW1, hW2, hO1, hO2, hT1, hT2, hI1, hI2, hF1, hF2⟩ := id hP
  have hsq := hB.seq hp (q := 0) (Or.inl rfl)
  have hm := hB.mny hp (q := 0) (Or.inl rfl)
  have hB1 := hB.bremF (q := 0) (c := T 0) hp (Or.inl rfl)
  have hm1 := hB1.mny hp (q := 0) (Or.inl rfl)
  have hB2 := hB1.binsF (q := 0) hp (Or.inl rfl) (hT 1 (by omega) (by omega))
  refine wp_iload_n dX12_readOk_0 rfl ?_
  refine wp_if_ne (tgt := 45) dX12_readOk_1 rfl (fun _ => ?_) (fun q => absurd q (by decide))
  refine wp_iload_n dX12_readOk_45 rfl ?_
  refine wp_iconst dX12_readOk_46 ?_
  refine wp_icmp_ne (tgt := 57) dX12_readOk_47 rfl (fun _ => ?_) (fun q => absurd q (by decide))
  refine wp_iconst dX12_readOk_57 ?_
  refine wp_istore (ls' := [_, _, _, _, _]) dX12_readOk_58 (by decide) rfl rfl ?_
  refine wp_iload dX12_readOk_60 rfl ?_
  refine wp_aload_n dX12_readOk_62 rfl ?_
  refine wp_getI dX12_readOk_63 fX12_218 rfl ?_
  try simp only [ST0, ST5, ST6, ST7, ST8, ST10, ST11, ST12, ST13]
  refine wp_icmp_ge (tgt := 113) dX12_readOk_66 rfl (fun h66 => by exfalso; omega) (fun h66 => ?_)
  refine wp_iload_n dX12_readOk_69 rfl ?_
  refine wp_iconst dX12_readOk_70 ?_
  refine wp_icmp_eq (tgt := 113) dX12_readOk_71 rfl (fun _ => ?_) (fun q => absurd q (by decide))
  refine wp_iload_n dX12_readOk_113 rfl ?_
  refine wp_iconst dX12_readOk_114 ?_
  refine wp_icmp_ne (tgt := 158) dX12_readOk_115 rfl (fun q => absurd q (by decide)) (fun _ => ?_)
  refine wp_aload_n dX12_readOk_118 rfl ?_
  refine wp_iload_n dX12_readOk_119 rfl ?_
  refine wp_iconst dX12_readOk_120 ?_
  refine wp_aload_n dX12_readOk_121 rfl ?_
  refine wp_getR rfl dX12_readOk_122 fX12_47 rfl ?_
  refine wp_iconst dX12_readOk_125 ?_
  refine wp_iald dX12_readOk_126 rfl (by omega) (by omega) ?_
  try simp only [ST0, ST5, ST6, ST7, ST8, ST10, ST11, ST12, ST13]
  refine wp_callV (as := [_, _, _]) (ls0 := [_, _, _, _, _]) (kc := 0) (ks := 0) (bc' := 0) (bs' := 0) dX12_readOk_127 vX12_171 rfl rfl rfl (Nat.le_of_ble_eq_true rfl) (Nat.le_of_ble_eq_true rfl) (by omega) (by omega) ?_
  refine s_placeIn (by omega) (by omega) hm ?_
  refine wp_iconst dX12_readOk_130 ?_
  refine wp_icmp_eq (tgt := 158) dX12_readOk_131 rfl (fun h131 => ?_) (fun h131 => ?_)
  · refine wp_aload_n dX12_readOk_158 rfl ?_
    refine wp_iload_n dX12_readOk_159 rfl ?_
    refine wp_iconst dX12_readOk_160 ?_
    refine wp_callV (as := [_, _]) (ls0 := [_, _, _]) (kc := 0) (ks := 0) (bc' := 0) (bs' := 0) dX12_readOk_161 vX12_225 rfl rfl rfl (Nat.le_of_ble_eq_true rfl) (Nat.le_of_ble_eq_true rfl) (by omega) (by omega) ?_
    first | refine s_stepOn (by omega) (by omega) hsq ?_ | refine s_stepOn (by omega) (by omega) (hB2.seq hp (q := 0) (Or.inl rfl)) ?_
    refine wp_return dX12_readOk_164 rfl ?_
    rw [okF, if_neg (by omega), if_neg (by omega), if_neg (by omega), if_pos rfl] at k; first | (rw [if_pos h131] at k; exact k) | (rw [if_neg h131] at k; exact k)
  · refine wp_aload_n dX12_readOk_134 rfl ?_
    refine wp_iload_n dX12_readOk_135 rfl ?_
    refine wp_iconst dX12_readOk_136 ?_
    refine wp_aload_n dX12_readOk_137 rfl ?_
    refine wp_getR rfl dX12_readOk_138 fX12_47 rfl ?_
    refine wp_iconst dX12_readOk_141 ?_
    refine wp_iald dX12_readOk_142 rfl (by omega) (by omega) ?_
    try simp only [ST0, ST5, ST6, ST7, ST8, ST10, ST11, ST12, ST13]
    refine wp_callV (as := [_, _, _]) (ls0 := [_, _, _, _, _, _]) (kc := 0) (ks := 0) (bc' := 0) (bs' := 0) dX12_readOk_143 vX12_231 rfl rfl rfl (Nat.le_of_ble_eq_true rfl) (Nat.le_of_ble_eq_true rfl) (by omega) (by omega) ?_
    refine s_remove (by omega) (by omega) hm ?_
    refine wp_aload_n dX12_readOk_146 rfl ?_
    refine wp_iload_n dX12_readOk_147 rfl ?_
    refine wp_iconst dX12_readOk_148 ?_
    refine wp_aload_n dX12_readOk_149 rfl ?_
    refine wp_getR rfl dX12_readOk_150 fX12_47 rfl ?_
    refine wp_iconst dX12_readOk_153 ?_
    refine wp_iald dX12_readOk_154 rfl (by omega) (by omega) ?_
    try simp only [ST0, ST5, ST6, ST7, ST8, ST10, ST11, ST12, ST13]
    refine wp_callV (as := [_, _, _]) (ls0 := [_, _, _, _, _, _]) (kc := 0) (ks := 0) (bc' := 0) (bs' := 0) dX12_readOk_155 vX12_228 rfl rfl rfl (Nat.le_of_ble_eq_true rfl) (Nat.le_of_ble_eq_true rfl) (by omega) (by omega) ?_
    refine s_insert (by omega) (by omega) hm1 ?_
    refine wp_aload_n dX12_readOk_158 rfl ?_
    refine wp_iload_n dX12_readOk_159 rfl ?_
    refine wp_iconst dX12_readOk_160 ?_
    refine wp_callV (as := [_, _]) (ls0 := [_, _, _]) (kc := 0) (ks := 0) (bc' := 0) (bs' := 0) dX12_readOk_161 vX12_225 rfl rfl rfl (Nat.le_of_ble_eq_true rfl) (Nat.le_of_ble_eq_true rfl) (by omega) (by omega) ?_
    first | refine s_stepOn (by omega) (by omega) hsq ?_ | refine s_stepOn (by omega) (by omega) (hB2.seq hp (q := 0) (Or.inl rfl)) ?_
    refine wp_return dX12_readOk_164 rfl ?_
    rw [okF, if_neg (by omega), if_neg (by omega), if_neg (by omega), if_pos rfl] at k; first | (rw [if_pos h131] at k; exact k) | (rw [if_neg h131] at k; exact k)
theorem s_readOk {p kd as : Int} (hp : 0 ≤ p ∧ p < 6) (hP : Prm iv F) (hT : ∀ j : Int, 0 ≤ j → j < F 22 → Vc (iv 5 0) (iv 5 1) (T j)) (ht : 0 ≤ F 22 ∧ F 22 ≤ 4) (hB : Bok (iv 5 0) (iv 5 1) N) (has : -1 ≤ as ∧ as ≤ 3) (hkd : 0 ≤ kd ∧ kd ≤ 3) (h2 : kd = 2 → F 22 = 2) (k : R none SHR (ST iv F (okF iv F N T p kd as (F 22)) G O T S) lw RVR) : wp (d + 5) mX12_readOk 0 [some (aR 0), some (aI p), some (aI kd), some (aI as), none] [] SHR (ST iv F N G O T S) lw RVR 0 0 R := by
  rcases (by omega : kd = 0 ∨ kd = 1 ∨ kd = 2 ∨ kd = 3) with rfl | rfl | rfl | rfl
  · exact s_ok0 hp hP hT ht hB has k
  · exact s_ok1 hp hP hT ht hB has k
  · exact s_ok2 hp hP hT ht hB has (h2 rfl) k
  · exact s_ok3 hp hP hT ht hB has k
theorem okF_F {v p kd as tm : Int} : okF iv (up F 22 v) N T p kd as tm = okF iv F N T p kd as tm := by unfold okF; rw [up22]
theorem okF_c {f g : Int → Int} {p kd as tm : Int} (ht : kd = 2 → tm = 2) (h : ∀ j : Int, 0 ≤ j → j < tm → f j = g j) : okF iv F N f p kd as tm = okF iv F N g p kd as tm := by
  unfold okF
  rw [tkI_c (g := g) _ _ _ _ (fun j a b => h j a (by omega)), insA_c (g := g) _ _ _ (fun j a b => h j a (by omega)), remA_c (g := g) _ _ _ (fun j a b => h j a (by omega))]
  by_cases e : kd = 2
  · have := ht e
    rw [h 0 (by omega) (by omega), h 1 (by omega) (by omega)]
  · rw [if_neg e, if_neg e]
theorem s_readAnswer {p : Int} (hp : 0 ≤ p ∧ p < 6) (hP : Prm iv F) (hB : Bok (iv 5 0) (iv 5 1) N) (h2 : N (61 * p + 46) = 0 → N (61 * p + 45) = 2 → N (61 * p + 48) = 2) (k : ∀ O' T', R none SHR (ST iv (up F 22 (N (61 * p + 48))) (anF iv F N p) G O' T' S) lw RVR) : wp (d + 6) mX12_readAnswer 0 [some (aR 0), some (aI p), none, none, none] [] SHR (ST iv F N G O T S) lw RVR 0 0 R := by
  obtain ⟨hW1, hW2, hO1, hO2, hT1, hT2, hI1, hI2, hF1, hF2⟩ := id hP
  have h45 := hB.v45 hp
  have h46 := hB.v46 hp
  have h48 := hB.v48 hp
  have h49 := hB.v49 hp
  have hFu : up F 22 (N (61 * p + 48)) 22 = N (61 * p + 48) := up_s
  have hB1 : Bok (iv 5 0) (iv 5 1) (stoF (up N (61 * p + 43) 0) p 0) := (hB.bup (k := 43) (by omega) (by rw [k43]; omega)).bstoF (Or.inl rfl)
  refine wp_aload_n dX12_readAnswer_0 rfl ?_
  refine wp_iload_n dX12_readAnswer_1 rfl ?_
  refine wp_bipush dX12_readAnswer_2 ?_
  refine wp_callV (as := [_, _]) (ls0 := [_, _, _]) (kc := 0) (ks := 0) (bc' := 0) (bs' := 0) dX12_readAnswer_4 vX12_161 rfl rfl rfl (Nat.le_of_ble_eq_true rfl) (Nat.le_of_ble_eq_true rfl) (by omega) (by omega) ?_
  refine s_of (by omega) (by omega) ?_
  refine wp_istore_n (ls' := [_, _, _, _, _]) dX12_readAnswer_7 (by decide) rfl rfl ?_
  refine wp_aload_n dX12_readAnswer_8 rfl ?_
  refine wp_iload_n dX12_readAnswer_9 rfl ?_
  refine wp_bipush dX12_readAnswer_10 ?_
  refine wp_callV (as := [_, _]) (ls0 := [_, _, _]) (kc := 0) (ks := 0) (bc' := 0) (bs' := 0) dX12_readAnswer_12 vX12_161 rfl rfl rfl (Nat.le_of_ble_eq_true rfl) (Nat.le_of_ble_eq_true rfl) (by omega) (by omega) ?_
  refine s_of (by omega) (by omega) ?_
  refine wp_istore_n (ls' := [_, _, _, _, _]) dX12_readAnswer_15 (by decide) rfl rfl ?_
  refine wp_aload_n dX12_readAnswer_16 rfl ?_
  refine wp_iload_n dX12_readAnswer_17 rfl ?_
  refine wp_bipush dX12_readAnswer_18 ?_
  refine wp_callV (as := [_, _]) (ls0 := [_, _, _]) (kc := 0) (ks := 0) (bc' := 0) (bs' := 0) dX12_readAnswer_20 vX12_161 rfl rfl rfl (Nat.le_of_ble_eq_true rfl) (Nat.le_of_ble_eq_true rfl) (by omega) (by omega) ?_
  refine s_of (by omega) (by omega) ?_
  refine wp_istore (ls' := [_, _, _, _, _]) dX12_readAnswer_23 (by decide) rfl rfl ?_
  refine wp_aload_n dX12_readAnswer_25 rfl ?_
  refine wp_iload_n dX12_readAnswer_26 rfl ?_
  refine wp_callV (as := [_]) (ls0 := [_, _, _]) (kc := 0) (ks := 0) (bc' := 0) (bs' := 0) dX12_readAnswer_27 vX12_234 rfl rfl rfl (Nat.le_of_ble_eq_true rfl) (Nat.le_of_ble_eq_true rfl) (by omega) (by omega) ?_
  refine s_layTold hp (by omega) (fun T' hT' => ?_)
  refine wp_aload_n dX12_readAnswer_30 rfl ?_
  refine wp_iload_n dX12_readAnswer_31 rfl ?_
  refine wp_bipush dX12_readAnswer_32 ?_
  refine wp_iconst dX12_readAnswer_34 ?_
  refine wp_callV (as := [_, _, _]) (ls0 := [_, _, _, _]) (kc := 0) (ks := 0) (bc' := 0) (bs' := 0) dX12_readAnswer_35 vX12_141 rfl rfl rfl (Nat.le_of_ble_eq_true rfl) (Nat.le_of_ble_eq_true rfl) (by omega) (by omega) ?_
  refine s_set (by omega) (by omega) ?_
  refine wp_aload_n dX12_readAnswer_38 rfl ?_
  refine wp_iload_n dX12_readAnswer_39 rfl ?_
  refine wp_iconst dX12_readAnswer_40 ?_
  refine wp_callV (as := [_, _]) (ls0 := [_, _, _]) (kc := 0) (ks := 0) (bc' := 0) (bs' := 0) dX12_readAnswer_41 vX12_238 rfl rfl rfl (Nat.le_of_ble_eq_true rfl) (Nat.le_of_ble_eq_true rfl) (by omega) (by omega) ?_
  refine s_waitNoMore (by omega) (by omega) ?_
  refine wp_iload_n dX12_readAnswer_44 rfl ?_
  refine wp_iconst dX12_readAnswer_45 ?_
  refine wp_icmp_ne (tgt := 59) dX12_readAnswer_46 rfl (fun h46_ => ?_) (fun h46_ => ?_)
  · refine wp_iload_n dX12_readAnswer_59 rfl ?_
    refine wp_if_ne (tgt := 71) dX12_readAnswer_60 rfl (fun h60 => ?_) (fun h60 => ?_)
    · refine wp_return dX12_readAnswer_71 rfl ?_
      first | (have hk := k O' T'; rw [anF, if_pos h46_] at hk; exact hk) | (have hk := k O T'; rw [anF, if_neg h46_, if_pos h60] at hk; exact hk) | (have hk := k O T'; rw [anF, if_neg h46_, if_neg h60] at hk; exact hk)
    · refine wp_aload_n dX12_readAnswer_63 rfl ?_
      refine wp_iload_n dX12_readAnswer_64 rfl ?_
      refine wp_iload_n dX12_readAnswer_65 rfl ?_
      refine wp_iload dX12_readAnswer_66 rfl ?_
      refine wp_callV (as := [_, _, _]) (ls0 := [_, _, _, _, _]) (kc := 0) (ks := 0) (bc' := 0) (bs' := 0) dX12_readAnswer_68 vX12_256 rfl rfl rfl (Nat.le_of_ble_eq_true rfl) (Nat.le_of_ble_eq_true rfl) (by omega) (by omega) ?_
      refine s_readOk hp hP.u22 (fun j a b => by rw [hFu] at b; rw [hT' j a b]; exact hB.lcl hp (by omega)) (by rw [hFu]; omega) hB1 h49 h45 (fun e => by rw [hFu]; exact h2 h60 e) ?_
      rw [okF_F, hFu, okF_c (g := tld N p) (h2 h60) (fun j a b => hT' j a b)]
      refine wp_return dX12_readAnswer_71 rfl ?_
      first | (have hk := k O' T'; rw [anF, if_pos h46_] at hk; exact hk) | (have hk := k O T'; rw [anF, if_neg h46_, if_pos h60] at hk; exact hk) | (have hk := k O T'; rw [anF, if_neg h46_, if_neg h60] at hk; exact hk)
  · refine wp_aload_n dX12_readAnswer_49 rfl ?_
    refine wp_iload_n dX12_readAnswer_50 rfl ?_
    refine wp_iconst dX12_readAnswer_51 ?_
    refine wp_iconst dX12_readAnswer_52 ?_
    refine wp_callV (as := [_, _, _]) (ls0 := [_, _, _, _, _, _, _]) (kc := 0) (ks := 0) (bc' := 0) (bs' := 0) dX12_readAnswer_53 vX12_253 rfl rfl rfl (Nat.le_of_ble_eq_true rfl) (Nat.le_of_ble_eq_true rfl) (by omega) (by omega) ?_
    refine s_begin hp hP.u22 hB1 (by omega) (by omega) (by omega) (fun O' => ?_)
    rw [begF_F]
    refine wp_goto (tgt := 71) dX12_readAnswer_56 rfl ?_
    refine wp_return dX12_readAnswer_71 rfl ?_
    first | (have hk := k O' T'; rw [anF, if_pos h46_] at hk; exact hk) | (have hk := k O T'; rw [anF, if_neg h46_, if_pos h60] at hk; exact hk) | (have hk := k O T'; rw [anF, if_neg h46_, if_neg h60] at hk; exact hk)
end R10
