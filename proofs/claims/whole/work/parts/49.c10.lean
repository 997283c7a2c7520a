section C10a
variable {N X Y T : Int → Int} {p q W Of : Int}
theorem up_same {f : Int → Int} {k v : Int} (h : f k = v) : up f k v = f := by subst h; exact up_id
theorem wri_re {so ki re r0 as : Int} : wriF X p so ki re as = up (wriF X p so ki r0 as) (61 * p + 46) re := by
  unfold wriF
  rw [up_comm (show ¬ 61 * p + 48 = 61 * p + 46 by omega), up_comm (show ¬ 61 * p + 49 = 61 * p + 46 by omega), up_comm (show ¬ 61 * p + 47 = 61 * p + 46 by omega), up_up]
theorem wri_43 {so ki re as v : Int} : wriF (up X (61 * p + 43) v) p so ki re as = wriF X p so ki re as := by
  unfold wriF
  rw [up_up, up_n (show ¬ 61 * p + 26 = 61 * p + 43 by omega)]
theorem sto_43 {v : Int} (hq : q = 0 ∨ q = 1) : stoF (up N (61 * p + 43) v) p q = up (stoF N p q) (61 * p + 43) v := by
  unfold stoF
  rw [up_comm (show ¬ 61 * p + 43 = 61 * p + (28 + q) by omega), up_comm (show ¬ 61 * p + 43 = 61 * p + (33 + q) by omega)]
theorem rq1_eq : wriF (stoF (up N (61 * p + 43) 0) p 1) p 1 (N (61 * p + 45)) 0 (N (61 * p + 49)) = rq1 N p := by
  rw [sto_43 (Or.inr rfl), wri_43]; rfl
theorem rq1_re {re : Int} : wriF (stoF (up N (61 * p + 43) 0) p 1) p 1 (N (61 * p + 45)) re (N (61 * p + 49)) = up (rq1 N p) (61 * p + 46) re := by
  rw [wri_re (r0 := 0), rq1_eq]
theorem rq1_43 : rq1 N p (61 * p + 43) = 1 := by unfold rq1 wriF; rw [up_n (by omega), up_n (by omega), up_n (by omega), up_n (by omega), up_n (by omega), up_n (by omega), up_s]
theorem rq1_44 : rq1 N p (61 * p + 44) = 1 := by unfold rq1; rw [wriF_44]
theorem rq1_45 : rq1 N p (61 * p + 45) = N (61 * p + 45) := by unfold rq1; rw [wriF_45]
theorem rq1_46 : rq1 N p (61 * p + 46) = 0 := by unfold rq1 wriF; rw [up_n (by omega), up_n (by omega), up_n (by omega), up_s]
theorem rq1_47 : rq1 N p (61 * p + 47) = -1 := by unfold rq1 wriF; rw [up_n (by omega), up_n (by omega), up_s, if_neg (by decide)]
theorem rq1_49 : rq1 N p (61 * p + 49) = N (61 * p + 49) := by unfold rq1 wriF; rw [up_n (by omega), up_s]
theorem rq1_48 : rq1 N p (61 * p + 48) = 0 := by unfold rq1; rw [wriF_48]
theorem rq1_34 : rq1 N p (61 * p + 34) = 0 := by unfold rq1; rw [wriF_n (by omega)]; unfold stoF; rw [show (33 : Int) + 1 = 34 from rfl, up_s]
theorem rq1_bok (hB : Bok W Of N) (hp : 0 ≤ p ∧ p < 6) : Bok W Of (rq1 N p) := (hB.bstoF (Or.inr rfl)).bwriF hp (by omega) (hB.v45 hp) (by omega) (hB.v49 hp)
theorem ea_ans (h43 : Y (61 * p + 43) = 1) (h44 : Y (61 * p + 44) = 1) (h46 : Y (61 * p + 46) = 0) (h47 : Y (61 * p + 47) = -1) : eaF Y p = ansF Y p := by
  unfold eaF ansF
  split
  · rename_i h48
    unfold wriF
    rw [if_neg (show ¬ (1 : Int) = 0 by decide), up_same h43, up_same h44, up_same rfl, up_same (f := up Y (61 * p + 46) 1) (k := 61 * p + 47) (by rw [up_n (by omega)]; exact h47), up_same (f := up Y (61 * p + 46) 1) (k := 61 * p + 49) (by rw [up_n (by omega)]), up_same (f := up Y (61 * p + 46) 1) (k := 61 * p + 48) (by rw [up_n (by omega)]; exact h48)]
  · rw [up_same h46]
theorem tkI_k {pa : Int → Int} {np most k : Int} (hk : 26 ≤ k ∧ (k < 48 ∨ k = 49)) (hp : 0 ≤ p ∧ p < 6) (hq : q = 0 ∨ q = 1) (m : Nat) : ∀ (i n : Int) (N : Int → Int), (∀ j : Int, i ≤ j → j < i + m → Vc W Of (T j)) → N (61 * p + 48) + m ≤ 4 → Bok W Of N → tkI pa T np p q most m i n N (61 * p + k) = N (61 * p + k) := by
  induction m with
  | zero => intro i n N _ _ _; rfl
  | succ m ih =>
    intro i n N hT h48 hB
    have hm := hB.mny hp hq
    have hv := hB.v48 hp
    have e48 : insF N p q (T i) (61 * p + 48) = N (61 * p + 48) := insF_n hm (by omega)
    have hB1 := hB.binsF (c := T i) hp hq (hT i (by omega) (by omega))
    by_cases h : most ≤ n ∨ 6 ≤ N (61 * p + mq q)
    · rw [tkI_e h]
    · by_cases h2 : Tkn N pa np (pa (4 * p + q)) (T i / 10)
      · rw [tkI_t h h2, ih _ _ _ (fun j h1 h2 => hT j (by omega) (by omega)) (by omega) hB]
      · rw [tkI_f h h2, ih _ _ _ (fun j h1 h2 => hT j (by omega) (by omega)) (by rw [encF_48, e48]; omega) (hB1.bencF (by omega) (hT i (by omega) (by omega))), encF_k (by omega) (by omega), insF_n hm (by omega)]
theorem dlQ_k {k : Int} (hk : 26 ≤ k ∧ (k < 48 ∨ k = 49)) (hp : 0 ≤ p ∧ p < 6) (m : Nat) : ∀ (i : Int) (N : Int → Int), (∀ j : Int, i ≤ j → j < i + m → Vc W Of (T j)) → N (61 * p + 48) + m ≤ 4 → Bok W Of N → dlQ p T m i N (61 * p + k) = N (61 * p + k) := by
  induction m with
  | zero => intro i N _ _ _; rfl
  | succ m ih =>
    intro i N hT h48 hB
    have hm := hB.mny hp (Or.inr rfl : (1 : Int) = 0 ∨ (1 : Int) = 1)
    have hv := hB.v48 hp
    have e48 : remF N p 1 (T i) (61 * p + 48) = N (61 * p + 48) := remF_n (Or.inr rfl) hm (by omega)
    have hB1 : Bok W Of (remF N p 1 (T i)) := hB.bremF hp (Or.inr rfl)
    rw [dlQ]
    split
    · exact ih _ _ (fun j h1 h2 => hT j (by omega) (by omega)) (by omega) hB
    · rw [ih _ _ (fun j h1 h2 => hT j (by omega) (by omega)) (by rw [encF_48, e48]; omega) (hB1.bencF (by omega) (hT i (by omega) (by omega))), encF_k (by omega) (by omega), remF_n (Or.inr rfl) hm (by omega)]
theorem mvF_k {pa : Int → Int} {np tm k : Int} (hk : 26 ≤ k ∧ (k < 48 ∨ k = 49)) (hp : 0 ≤ p ∧ p < 6) (hB : Bok W Of N) : mvF pa T N np p tm (61 * p + k) = N (61 * p + k) := by
  have hm := hB.mny hp (Or.inr rfl : (1 : Int) = 0 ∨ (1 : Int) = 1)
  have hv := hB.v48 hp
  have hB1 : Bok W Of (remF N p 1 (T 0)) := hB.bremF hp (Or.inr rfl)
  have hm1 := hB1.mny hp (Or.inr rfl : (1 : Int) = 0 ∨ (1 : Int) = 1)
  unfold mvF
  split
  · rw [encF_k (by rw [encF_48, insF_n hm1 (by omega), remF_n (Or.inr rfl) hm (by omega)]; omega) (by omega), encF_k (by rw [insF_n hm1 (by omega), remF_n (Or.inr rfl) hm (by omega)]; omega) (by omega), insF_n hm1 (by omega), remF_n (Or.inr rfl) hm (by omega)]
  · rfl
end C10a
section C10
variable {d b : Nat} {sh : aSh} {iv lw E : aF} {rv : aP} {D O T S K C w N F : Int → Int} {R : aPost} {p : Int}
theorem cm_48 (hB : Bok (E 5 0) (E 5 1) N) (hp : 0 ≤ p ∧ p < 6) {j : Int} (h0 : 0 ≤ j) (h1 : j < N (61 * p + 48)) : Vc (E 5 0) (E 5 1) (N (61 * p + (50 + j))) := hB.lcl hp (by have := hB.v48 hp; omega)
theorem l_open (hN : NtA sh rv iv b) (hp : 0 ≤ p ∧ p < 6) (hR : Rel w N) (hB : Bok (E 5 0) (E 5 1) N) (hD5 : D 5 = N (61 * p + 48)) (k : ∀ (T' w' : Int → Int), (∀ j : Int, 0 ≤ j → j < N (61 * p + 48) → T' j = N (61 * p + (50 + j))) → Rel w' (up N (61 * p + 43) 0) → R (some (aI (N (61 * p + 44)))) sh (uA (CD iv b D O T' S K C) (12 + 42 * b) w') lw rv) (m : Nat) : ∀ (j : Int) (T : Int → Int), 0 ≤ j → j + m = N (61 * p + 48) → (∀ z : Int, 0 ≤ z → z < j → T z = N (61 * p + (50 + z))) → wp (d + 1) mX1_open 17 [some (aR (38 + 43 * b)), some (aR (lid b p)), some (aI j)] [] sh (uA (CD iv b D O T S K C) (12 + 42 * b) w) lw rv 0 0 R := by
  have h48 := hB.v48 hp
  induction m with
  | zero =>
    intro j T h0 hm hT
    refine wp_iload_n dX1_open_17 rfl ?_
    refine wp_aload_n dX1_open_18 rfl ?_
    refine wp_getI dX1_open_19 fX1_112 hN.s38 ?_
    rw [CS38]
    rw [hD5]
    refine wp_icmp_ge (tgt := 45) dX1_open_22 rfl (fun h22 => ?_) (fun h22 => by exfalso; omega)
    refine wp_aload_n dX1_open_45 rfl ?_
    refine wp_getR (hN.rlm hp) dX1_open_46 fX1_72 (hN.sl hp) ?_
    refine wp_callV (as := []) (ls0 := [_]) (kc := 0) (ks := 0) (bc' := 0) (bs' := 0) dX1_open_49 vX1_116 (hN.sm hp) rfl rfl (Nat.le_of_ble_eq_true rfl) (Nat.le_of_ble_eq_true rfl) (by omega) (by omega) ?_
    refine t_drop (hN.lk hp).sM hR (fun w hR => ?_)
    refine wp_aload_n dX1_open_52 rfl ?_
    refine wp_getR (hN.rlm hp) dX1_open_53 fX1_72 (hN.sl hp) ?_
    refine wp_callV (as := []) (ls0 := [_]) (kc := 0) (ks := 0) (bc' := 0) (bs' := 0) dX1_open_56 vX1_119 (hN.sm hp) rfl rfl (Nat.le_of_ble_eq_true rfl) (Nat.le_of_ble_eq_true rfl) (by omega) (by omega) ?_
    refine t_sort (hN.lk hp).sM hR ?_
    rw [up_n (by omega)]
    refine wp_ireturn dX1_open_59 rfl ?_
    exact k T w (fun z z0 z1 => hT z z0 (by omega)) hR
  | succ m ih =>
    intro j T h0 hm hT
    refine wp_iload_n dX1_open_17 rfl ?_
    refine wp_aload_n dX1_open_18 rfl ?_
    refine wp_getI dX1_open_19 fX1_112 hN.s38 ?_
    rw [CS38]
    rw [hD5]
    refine wp_icmp_ge (tgt := 45) dX1_open_22 rfl (fun h22 => by exfalso; omega) (fun h22 => ?_)
    refine wp_aload_n dX1_open_25 rfl ?_
    refine wp_getR hN.r38t dX1_open_26 fX1_17 hN.s38 ?_
    refine wp_iload_n dX1_open_29 rfl ?_
    refine wp_aload_n dX1_open_30 rfl ?_
    refine wp_getR (hN.rlm hp) dX1_open_31 fX1_72 (hN.sl hp) ?_
    refine wp_iload_n dX1_open_34 rfl ?_
    refine wp_callV (as := [_]) (ls0 := [_, _]) (kc := 0) (ks := 0) (bc' := 0) (bs' := 0) dX1_open_35 vX1_115 (hN.sm hp) rfl rfl (Nat.le_of_ble_eq_true rfl) (Nat.le_of_ble_eq_true rfl) (by omega) (by omega) ?_
    refine t_numberAt (hN.lk hp).sM hR h48 ?_
    rw [if_pos (by omega)]
    refine wp_iast dX1_open_38 hN.s40 (by omega) (by omega) ?_
    rw [CSu40]
    refine wp_iinc (ls' := [_, _, _]) dX1_open_39 (by decide) rfl rfl ⟨by omega, by omega⟩ rfl ?_
    refine wp_goto (tgt := 17) dX1_open_42 rfl ?_
    refine ih _ _ (by omega) (by omega) (fun z z0 z1 => ?_)
    by_cases e : z = j
    · rw [e, up_s]
    · rw [up_n e]; exact hT z z0 (by omega)
theorem e_open (hN : NtA sh rv iv b) (hp : 0 ≤ p ∧ p < 6) (hR : Rel w N) (hB : Bok (E 5 0) (E 5 1) N) (k : ∀ (D' T' w' : Int → Int), D' 5 = N (61 * p + 48) → (∀ j : Int, 0 ≤ j → j < N (61 * p + 48) → T' j = N (61 * p + (50 + j))) → Rel w' (up N (61 * p + 43) 0) → R (some (aI (N (61 * p + 44)))) sh (uA (CD iv b D' O T' S K C) (12 + 42 * b) w') lw rv) : wp (d + 1) mX1_open 0 [some (aR (38 + 43 * b)), some (aR (lid b p)), none] [] sh (uA (CD iv b D O T S K C) (12 + 42 * b) w) lw rv 0 0 R := by
  have h48 := hB.v48 hp
  refine wp_aload_n dX1_open_0 rfl ?_
  refine wp_aload_n dX1_open_1 rfl ?_
  refine wp_getR (hN.rlm hp) dX1_open_2 fX1_72 (hN.sl hp) ?_
  refine wp_callV (as := []) (ls0 := [_]) (kc := 0) (ks := 0) (bc' := 0) (bs' := 0) dX1_open_5 vX1_106 (hN.sm hp) rfl rfl (Nat.le_of_ble_eq_true rfl) (Nat.le_of_ble_eq_true rfl) (by omega) (by omega) ?_
  refine t_cells (hN.lk hp).sM hR ?_
  refine wp_iconst dX1_open_8 ?_
  refine wp_mmin dX1_open_9 (by omega) (Nat.le_of_ble_eq_true rfl) nX1_109 q_min ?_
  rw [show (if (4 : Int) < N (61 * p + 48) then 4 else N (61 * p + 48)) = N (61 * p + 48) from if_neg (by omega)]
  refine wp_putI dX1_open_12 fX1_112 hN.s38 ?_
  rw [CSu38]
  refine wp_iconst dX1_open_15 ?_
  refine wp_istore_n (ls' := [_, _, _]) dX1_open_16 (by decide) rfl rfl ?_
  exact l_open hN hp hR hB up_s (fun T' w' g1 g2 => k _ T' w' up_s g1 g2) (N (61 * p + 48)).toNat 0 _ (by omega) (by omega) (fun z z0 z1 => by omega)
theorem e_accept (hN : NtA sh rv iv b) (hl : PlA sh rv iv E F) (hP : Prm E F) (hp : 0 ≤ p ∧ p < 6) (hpF : p < F 13) (hR : Rel w (stoF (up N (61 * p + 43) 0) p 1)) (hB : Bok (E 5 0) (E 5 1) N) (hTl : ∀ j : Int, 0 ≤ j → j < N (61 * p + 48) → T j = N (61 * p + (50 + j))) (hD5 : D 5 = N (61 * p + 48)) (hds : ∀ y z : Int, 0 ≤ y → y < z → z < N (61 * p + 48) → ¬ N (61 * p + (50 + y)) / 10 = N (61 * p + (50 + z)) / 10) (k : ∀ (D' O' w' : Int → Int), Rel w' (ansF (tkI (E 6) (tld N p) (F 13) p 1 (N (61 * p + 49)) (N (61 * p + 48)).toNat 0 0 (rq1 N p)) p) → R none sh (uA (CD iv b D' O' T S K C) (12 + 42 * b) w') lw rv) : wp (d + 3) mX1_acceptCells 0 [some (aR (38 + 43 * b)), some (aR (lid b p)), none] [] sh (uA (CD iv b D O T S K C) (12 + 42 * b) w) lw rv 0 0 R := by
  obtain ⟨hW1, hW2, hO1, hO2, hT1, hT2, hI1, hI2, hF1, hF2⟩ := id hP
  have hB1 : Bok (E 5 0) (E 5 1) (stoF (up N (61 * p + 43) 0) p 1) := (hB.bup (by omega) (by rw [k43]; omega)).bstoF (Or.inr rfl)
  have hB2 := rq1_bok hB hp
  have h48 := hB.v48 hp
  have e45 : stoF (up N (61 * p + 43) 0) p 1 (61 * p + 45) = N (61 * p + 45) := by rw [stoF_n (by omega) (Or.inr rfl), up_n (by omega)]
  have e49 : stoF (up N (61 * p + 43) 0) p 1 (61 * p + 49) = N (61 * p + 49) := by rw [stoF_n (by omega) (Or.inr rfl), up_n (by omega)]
  have hcv : ∀ z : Int, 0 ≤ z → z < D 5 → Vc (E 5 0) (E 5 1) (T z) := fun z z0 z1 => by rw [hTl z z0 (by omega)]; exact cm_48 hB hp z0 (by omega)
  have htk : ∀ nd s : Int, Tkn (rq1 N p) (E 6) (F 13) nd s ↔ Tkn (stoF (up N (61 * p + 43) 0) p 1) (E 6) (F 13) nd s := fun nd s => by rw [← rq1_eq]; exact Tkn_wri hB1 hF2 hp
  refine wp_aload_n dX1_acceptCells_0 rfl ?_
  refine wp_getR hN.r38n dX1_acceptCells_1 fX1_20 hN.s38 ?_
  refine wp_aload_n dX1_acceptCells_4 rfl ?_
  refine wp_aload_n dX1_acceptCells_5 rfl ?_
  refine wp_callV (as := [_]) (ls0 := [_, _]) (kc := 0) (ks := 0) (bc' := 0) (bs' := 0) dX1_acceptCells_6 vX1_215 hN.s38 rfl rfl (Nat.le_of_ble_eq_true rfl) (Nat.le_of_ble_eq_true rfl) (by omega) (by omega) ?_
  refine e_receiverOf hN hl hP hp hpF ?_
  refine wp_callV (as := [_]) (ls0 := [_, _, _, _]) (kc := 0) (ks := 0) (bc' := 0) (bs' := 0) dX1_acceptCells_9 vX1_55 hN.s11 rfl rfl (Nat.le_of_ble_eq_true rfl) (Nat.le_of_ble_eq_true rfl) (by omega) (by omega) ?_
  refine x_takenAt hN hl hP hR hB1 (fun x hx => ?_)
  refine wp_istore_n (ls' := [_, _, _]) dX1_acceptCells_12 (by decide) rfl rfl ?_
  refine wp_aload_n dX1_acceptCells_13 rfl ?_
  refine wp_aload_n dX1_acceptCells_14 rfl ?_
  refine wp_iconst dX1_acceptCells_15 ?_
  refine wp_callV (as := [_, _]) (ls0 := [_, _, _]) (kc := 0) (ks := 0) (bc' := 0) (bs' := 0) dX1_acceptCells_16 vX1_134 hN.s38 rfl rfl (Nat.le_of_ble_eq_true rfl) (Nat.le_of_ble_eq_true rfl) (by omega) (by omega) ?_
  refine e_answer hN hp hR (fun w hR => ?_)
  rw [e45, e49, rq1_eq] at hR
  refine wp_aload_n dX1_acceptCells_19 rfl ?_
  refine wp_aload_n dX1_acceptCells_20 rfl ?_
  refine wp_getR (hN.rlr hp) dX1_acceptCells_21 fX1_122 (hN.sl hp) ?_
  refine wp_aload_n dX1_acceptCells_24 rfl ?_
  refine wp_getR (hN.rlm hp) dX1_acceptCells_25 fX1_72 (hN.sl hp) ?_
  refine wp_iload_n dX1_acceptCells_28 rfl ?_
  refine wp_callV (as := [_, _, _]) (ls0 := [_, _, _, _, _, _]) (kc := 0) (ks := 0) (bc' := 0) (bs' := 0) dX1_acceptCells_29 vX1_218 hN.s38 rfl rfl (Nat.le_of_ble_eq_true rfl) (Nat.le_of_ble_eq_true rfl) (by omega) (by omega) ?_
  refine e_putFreeTold hN hP hp hpF (hN.lk hp).sR hcv (fun y z y0 yz z1 => by rw [hTl y y0 (by omega), hTl z (by omega) (by omega)]; exact hds y z y0 yz (by omega)) hR hB2 (by omega) rq1_48 (hx.cg (fun s _ _ => (htk _ _).symm)) (fun w hR => ?_)
  rw [rq1_49, hD5] at hR
  have hcv2 : ∀ j : Int, 0 ≤ j → j < 0 + ((N (61 * p + 48)).toNat : Int) → Vc (E 5 0) (E 5 1) (T j) := fun j j0 j1 => hcv j j0 (by omega)
  have hBY := Bok.btkI (pa := E 6) (np := F 13) (most := N (61 * p + 49)) hp (Or.inr rfl : (1 : Int) = 0 ∨ (1 : Int) = 1) (N (61 * p + 48)).toNat 0 0 (rq1 N p) hcv2 (by rw [rq1_48]; omega) hB2
  have hY := fun k (hk : 26 ≤ k ∧ (k < 48 ∨ k = 49)) => tkI_k (pa := E 6) (np := F 13) (most := N (61 * p + 49)) hk hp (Or.inr rfl : (1 : Int) = 0 ∨ (1 : Int) = 1) (N (61 * p + 48)).toNat 0 0 (rq1 N p) hcv2 (by rw [rq1_48]; omega) hB2
  have hY43 := (hY 43 (by omega)).trans rq1_43
  have hY44 := (hY 44 (by omega)).trans rq1_44
  have hY46 := (hY 46 (by omega)).trans rq1_46
  have hY47 := (hY 47 (by omega)).trans rq1_47
  refine wp_aload_n dX1_acceptCells_32 rfl ?_
  refine wp_aload_n dX1_acceptCells_33 rfl ?_
  refine wp_callV (as := [_]) (ls0 := [_, _]) (kc := 0) (ks := 0) (bc' := 0) (bs' := 0) dX1_acceptCells_34 vX1_222 hN.s38 rfl rfl (Nat.le_of_ble_eq_true rfl) (Nat.le_of_ble_eq_true rfl) (by omega) (by omega) ?_
  refine e_endAnswer hN hp hR hBY (fun w hR => ?_)
  rw [ea_ans hY43 hY44 hY46 hY47] at hR
  refine wp_return dX1_acceptCells_37 rfl ?_
  refine k D O w ?_
  rw [tkI_c (f := tld N p) (g := T)]
  · exact hR
  · intro j j0 j1; exact (hTl j j0 (by omega)).symm
theorem e_offer (hN : NtA sh rv iv b) (hl : PlA sh rv iv E F) (hP : Prm E F) (hp : 0 ≤ p ∧ p < 6) (hpF : p < F 13) (hR : Rel w (stoF (up N (61 * p + 43) 0) p 1)) (hB : Bok (E 5 0) (E 5 1) N) (hTl : ∀ j : Int, 0 ≤ j → j < N (61 * p + 48) → T j = N (61 * p + (50 + j))) (hD5 : D 5 = N (61 * p + 48)) (hfr : 0 ≤ N 368 ∧ N 368 ≤ 20000) (k : ∀ (D' O' w' : Int → Int), Rel w' (if mnI (N (61 * p + 49) + 1) ((ofr E F (rq1 N p) p (E 6 (4 * p + 1)) 0).length : Int) = 0 then up (rq1 N p) (61 * p + 46) 1 else waiF (prmF (encL p (Lf (ofr E F (rq1 N p) p (E 6 (4 * p + 1)) 0)) (mnI (N (61 * p + 49) + 1) ((ofr E F (rq1 N p) p (E 6 (4 * p + 1)) 0).length : Int)).toNat 0 (up (rq1 N p) (61 * p + 46) 0)) p 1 (mnI (N (61 * p + 49) + 1) ((ofr E F (rq1 N p) p (E 6 (4 * p + 1)) 0).length : Int)) (Lf (ofr E F (rq1 N p) p (E 6 (4 * p + 1)) 0))) p 1) → R none sh (uA (CD iv b D' O' T S K C) (12 + 42 * b) w') lw rv) : wp (d + 2) mX1_offerCells 0 [some (aR (38 + 43 * b)), some (aR (lid b p)), none, none] [] sh (uA (CD iv b D O T S K C) (12 + 42 * b) w) lw rv 0 0 R := by
  obtain ⟨hW1, hW2, hO1, hO2, hT1, hT2, hI1, hI2, hF1, hF2⟩ := id hP
  have hB1 : Bok (E 5 0) (E 5 1) (stoF (up N (61 * p + 43) 0) p 1) := (hB.bup (by omega) (by rw [k43]; omega)).bstoF (Or.inr rfl)
  have hB2 := rq1_bok hB hp
  have h48 := hB.v48 hp
  have e45 : stoF (up N (61 * p + 43) 0) p 1 (61 * p + 45) = N (61 * p + 45) := by rw [stoF_n (by omega) (Or.inr rfl), up_n (by omega)]
  have e49 : stoF (up N (61 * p + 43) 0) p 1 (61 * p + 49) = N (61 * p + 49) := by rw [stoF_n (by omega) (Or.inr rfl), up_n (by omega)]
  have hcv : ∀ z : Int, 0 ≤ z → z < D 5 → Vc (E 5 0) (E 5 1) (T z) := fun z z0 z1 => by rw [hTl z z0 (by omega)]; exact cm_48 hB hp z0 (by omega)
  have htk : ∀ nd s : Int, Tkn (rq1 N p) (E 6) (F 13) nd s ↔ Tkn (stoF (up N (61 * p + 43) 0) p 1) (E 6) (F 13) nd s := fun nd s => by rw [← rq1_eq]; exact Tkn_wri hB1 hF2 hp
  have h49 := hB.v49 hp
  have hof : ofr E F (rq1 N p) p (E 6 (4 * p + 1)) 0 = offs (Tkn (stoF (up N (61 * p + 43) 0) p 1) (E 6) (F 13) (E 6 (4 * p + 1))) (E 5 0) (E 5 1) p 0 (E 5 0).toNat 0 := ofr_cg (fun s => htk _ s)
  have hmr := mnI_r (x := N (61 * p + 49) + 1) (y := ((ofr E F (rq1 N p) p (E 6 (4 * p + 1)) 0).length : Int)) (by omega) (Int.natCast_nonneg _)
  refine wp_aload_n dX1_offerCells_0 rfl ?_
  refine wp_getR (hN.rlm hp) dX1_offerCells_1 fX1_72 (hN.sl hp) ?_
  refine wp_callV (as := []) (ls0 := [_]) (kc := 0) (ks := 0) (bc' := 0) (bs' := 0) dX1_offerCells_4 vX1_206 (hN.sm hp) rfl rfl (Nat.le_of_ble_eq_true rfl) (Nat.le_of_ble_eq_true rfl) (by omega) (by omega) ?_
  refine t_amount (hN.lk hp).sM hR ?_
  rw [e49]
  refine wp_istore_n (ls' := [_, _, _, _]) dX1_offerCells_7 (by decide) rfl rfl ?_
  refine wp_aload_n dX1_offerCells_8 rfl ?_
  refine wp_aload_n dX1_offerCells_9 rfl ?_
  refine wp_getI dX1_offerCells_10 fX1_192 (hN.sl hp) ?_
  rw [hN.no hp]
  refine wp_aload_n dX1_offerCells_13 rfl ?_
  refine wp_getR hN.r38n dX1_offerCells_14 fX1_20 hN.s38 ?_
  refine wp_aload_n dX1_offerCells_17 rfl ?_
  refine wp_aload_n dX1_offerCells_18 rfl ?_
  refine wp_callV (as := [_]) (ls0 := [_, _]) (kc := 0) (ks := 0) (bc' := 0) (bs' := 0) dX1_offerCells_19 vX1_215 hN.s38 rfl rfl (Nat.le_of_ble_eq_true rfl) (Nat.le_of_ble_eq_true rfl) (by omega) (by omega) ?_
  refine e_receiverOf hN hl hP hp hpF ?_
  refine wp_callV (as := [_]) (ls0 := [_, _, _, _]) (kc := 0) (ks := 0) (bc' := 0) (bs' := 0) dX1_offerCells_22 vX1_55 hN.s11 rfl rfl (Nat.le_of_ble_eq_true rfl) (Nat.le_of_ble_eq_true rfl) (by omega) (by omega) ?_
  refine x_takenAt hN hl hP hR hB1 (fun x hx => ?_)
  refine wp_iconst dX1_offerCells_25 ?_
  refine wp_iload_n dX1_offerCells_26 rfl ?_
  refine wp_iconst dX1_offerCells_27 ?_
  refine wp_iadd dX1_offerCells_28 ⟨by omega, by omega⟩ ?_
  refine wp_callV (as := [_, _, _, _]) (ls0 := [_, _, _, _, _, _, _, _]) (kc := 0) (ks := 0) (bc' := 0) (bs' := 0) dX1_offerCells_29 vX1_198 hN.s38 rfl rfl (Nat.le_of_ble_eq_true rfl) (Nat.le_of_ble_eq_true rfl) (by omega) (by omega) ?_
  refine e_gather hN hl hP hp hx (by omega) (by omega) (fun D O g1 g2 g3 => ?_)
  rw [← hof] at g2 g3
  refine wp_istore_n (ls' := [_, _, _, _]) dX1_offerCells_32 (by decide) rfl rfl ?_
  refine wp_iload_n dX1_offerCells_33 rfl ?_
  refine wp_if_ne (tgt := 44) dX1_offerCells_34 rfl (fun h34 => ?_) (fun h34 => ?_)
  · refine wp_aload_n dX1_offerCells_44 rfl ?_
    refine wp_aload_n dX1_offerCells_45 rfl ?_
    refine wp_iconst dX1_offerCells_46 ?_
    refine wp_callV (as := [_, _]) (ls0 := [_, _, _]) (kc := 0) (ks := 0) (bc' := 0) (bs' := 0) dX1_offerCells_47 vX1_134 hN.s38 rfl rfl (Nat.le_of_ble_eq_true rfl) (Nat.le_of_ble_eq_true rfl) (by omega) (by omega) ?_
    refine e_answer hN hp hR (fun w hR => ?_)
    rw [e45, e49, rq1_eq] at hR
    refine wp_aload_n dX1_offerCells_50 rfl ?_
    refine wp_aload_n dX1_offerCells_51 rfl ?_
    refine wp_getR (hN.rlr hp) dX1_offerCells_52 fX1_122 (hN.sl hp) ?_
    refine wp_aload_n dX1_offerCells_55 rfl ?_
    refine wp_getR (hN.rlm hp) dX1_offerCells_56 fX1_72 (hN.sl hp) ?_
    refine wp_callV (as := [_, _]) (ls0 := [_, _, _, _]) (kc := 0) (ks := 0) (bc' := 0) (bs' := 0) dX1_offerCells_59 vX1_202 hN.s38 rfl rfl (Nat.le_of_ble_eq_true rfl) (Nat.le_of_ble_eq_true rfl) (by omega) (by omega) ?_
    refine e_promiseOffers hN hp (hN.lk hp).sR hR (by omega) rq1_34 (by rw [rq1_48]; omega) (fun w hR => ?_)
    refine wp_aload_n dX1_offerCells_62 rfl ?_
    refine wp_getR (hN.rlr hp) dX1_offerCells_63 fX1_122 (hN.sl hp) ?_
    refine wp_aload_n dX1_offerCells_66 rfl ?_
    refine wp_getR hN.r38n dX1_offerCells_67 fX1_20 hN.s38 ?_
    refine wp_callV (as := []) (ls0 := [_]) (kc := 0) (ks := 0) (bc' := 0) (bs' := 0) dX1_offerCells_70 vX1_83 hN.s11 rfl rfl (Nat.le_of_ble_eq_true rfl) (Nat.le_of_ble_eq_true rfl) (by omega) (by omega) ?_
    refine x_frame hN hR ?_
    rw [cofL_far (Or.inr rfl) _ _ _ (by omega) (by rw [show (33 : Int) + 1 = 34 from rfl, rq1_34]; omega) (by rw [show (33 : Int) + 1 = 34 from rfl, rq1_34]; omega) (by rw [rq1_48]; omega) (by rw [rq1_48]; omega)]
    refine wp_iconst dX1_offerCells_73 ?_
    refine wp_callV (as := [_, _]) (ls0 := [_, _, _]) (kc := 0) (ks := 0) (bc' := 0) (bs' := 0) dX1_offerCells_74 vX1_86 (hN.sr hp) rfl rfl (Nat.le_of_ble_eq_true rfl) (Nat.le_of_ble_eq_true rfl) (by omega) (by omega) ?_
    refine c_startWaiting1 (hN.lk hp).sR hR rfl (fun w hR => ?_)
    refine wp_return dX1_offerCells_77 rfl ?_
    refine k D O w ?_
    rw [if_neg (by omega), up_same rq1_46, cof_eq (Or.inr rfl) (by rw [show (33 : Int) + 1 = 34 from rfl, rq1_34]) (by rw [rq1_48]; omega) (by omega)]
    rw [g2] at hR g3
    rw [cofL_c (f := Lf (ofr E F (rq1 N p) p (E 6 (4 * p + 1)) 0)) (g := O)]
    · unfold waiF
      rw [cofL_far (Or.inr rfl) _ _ _ (by omega) (by rw [show (33 : Int) + 1 = 34 from rfl, rq1_34]; omega) (by rw [show (33 : Int) + 1 = 34 from rfl, rq1_34]; omega) (by rw [rq1_48]; omega) (by rw [rq1_48]; omega)]
      exact hR
    · intro j j0 j1; exact (g3 j j0 (by omega)).symm
  · refine wp_aload_n dX1_offerCells_37 rfl ?_
    refine wp_aload_n dX1_offerCells_38 rfl ?_
    refine wp_iconst dX1_offerCells_39 ?_
    refine wp_callV (as := [_, _]) (ls0 := [_, _, _]) (kc := 0) (ks := 0) (bc' := 0) (bs' := 0) dX1_offerCells_40 vX1_134 hN.s38 rfl rfl (Nat.le_of_ble_eq_true rfl) (Nat.le_of_ble_eq_true rfl) (by omega) (by omega) ?_
    refine e_answer hN hp hR (fun w hR => ?_)
    rw [e45, e49, rq1_re] at hR
    refine wp_return dX1_offerCells_43 rfl ?_
    refine k D O w ?_
    rw [if_pos (by omega)]
    exact hR
theorem l_giveUp (hN : NtA sh rv iv b) (hP : Prm E F) (hp : 0 ≤ p ∧ p < 6) (hcv : ∀ z : Int, 0 ≤ z → z < D 5 → Vc (E 5 0) (E 5 1) (T z)) (h5 : D 5 ≤ 4) (m : Nat) : ∀ (j : Int) (w N : Int → Int), 0 ≤ j → j + m = D 5 → Rel w N → Bok (E 5 0) (E 5 1) N → N (61 * p + 48) + m ≤ 4 → (∀ w', Rel w' (eaF (dlQ p T m j N) p) → R none sh (uA (CD iv b D O T S K C) (12 + 42 * b) w') lw rv) → wp (d + 3) mX1_giveUpCells 8 [some (aR (38 + 43 * b)), some (aR (lid b p)), some (aI j)] [] sh (uA (CD iv b D O T S K C) (12 + 42 * b) w) lw rv 0 0 R := by
  induction m with
  | zero =>
    intro j w N h0 hm hR hB h48 k
    refine wp_iload_n dX1_giveUpCells_8 rfl ?_
    refine wp_aload_n dX1_giveUpCells_9 rfl ?_
    refine wp_getI dX1_giveUpCells_10 fX1_112 hN.s38 ?_
    rw [CS38]
    refine wp_icmp_ge (tgt := 51) dX1_giveUpCells_13 rfl (fun h13 => ?_) (fun h13 => by exfalso; omega)
    refine wp_aload_n dX1_giveUpCells_51 rfl ?_
    refine wp_aload_n dX1_giveUpCells_52 rfl ?_
    refine wp_callV (as := [_]) (ls0 := [_, _]) (kc := 0) (ks := 0) (bc' := 0) (bs' := 0) dX1_giveUpCells_53 vX1_222 hN.s38 rfl rfl (Nat.le_of_ble_eq_true rfl) (Nat.le_of_ble_eq_true rfl) (by omega) (by omega) ?_
    refine e_endAnswer hN hp hR hB (fun w hR => ?_)
    refine wp_return dX1_giveUpCells_56 rfl ?_
    exact k w hR
  | succ m ih =>
    intro j w N h0 hm hR hB h48 k
    have hmn := hB.mny hp (Or.inr rfl : (1 : Int) = 0 ∨ (1 : Int) = 1)
    have hv := hB.v48 hp
    have e48 : remF N p 1 (T j) (61 * p + 48) = N (61 * p + 48) := remF_n (Or.inr rfl) hmn (by omega)
    have hB1 : Bok (E 5 0) (E 5 1) (remF N p 1 (T j)) := hB.bremF hp (Or.inr rfl)
    rw [dlQ] at k
    refine wp_iload_n dX1_giveUpCells_8 rfl ?_
    refine wp_aload_n dX1_giveUpCells_9 rfl ?_
    refine wp_getI dX1_giveUpCells_10 fX1_112 hN.s38 ?_
    rw [CS38]
    refine wp_icmp_ge (tgt := 51) dX1_giveUpCells_13 rfl (fun h13 => by exfalso; omega) (fun h13 => ?_)
    refine wp_aload_n dX1_giveUpCells_16 rfl ?_
    refine wp_getR (hN.rlr hp) dX1_giveUpCells_17 fX1_122 (hN.sl hp) ?_
    refine wp_aload_n dX1_giveUpCells_20 rfl ?_
    refine wp_getR hN.r38t dX1_giveUpCells_21 fX1_17 hN.s38 ?_
    refine wp_iload_n dX1_giveUpCells_24 rfl ?_
    refine wp_iald dX1_giveUpCells_25 hN.s40 (by omega) (by omega) ?_
    rw [CS40]
    refine wp_callV (as := [_]) (ls0 := [_, _, _, _, _]) (kc := 0) (ks := 0) (bc' := 0) (bs' := 0) dX1_giveUpCells_26 vX1_166 (hN.sr hp) rfl rfl (Nat.le_of_ble_eq_true rfl) (Nat.le_of_ble_eq_true rfl) (by omega) (by omega) ?_
    refine c_takeOut (hN.lk hp).sR hR hB (fun h26 w hR => ?_) (fun h26 => ?_)
    · refine wp_if_eq (tgt := 45) dX1_giveUpCells_29 rfl (fun q => absurd q (by decide)) (fun _ => ?_)
      refine wp_aload_n dX1_giveUpCells_32 rfl ?_
      refine wp_getR (hN.rlm hp) dX1_giveUpCells_33 fX1_72 (hN.sl hp) ?_
      refine wp_aload_n dX1_giveUpCells_36 rfl ?_
      refine wp_getR hN.r38t dX1_giveUpCells_37 fX1_17 hN.s38 ?_
      refine wp_iload_n dX1_giveUpCells_40 rfl ?_
      refine wp_iald dX1_giveUpCells_41 hN.s40 (by omega) (by omega) ?_
      rw [CS40]
      refine wp_callV (as := [_]) (ls0 := [_, _, _]) (kc := 0) (ks := 0) (bc' := 0) (bs' := 0) dX1_giveUpCells_42 vX1_102 (hN.sm hp) rfl rfl (Nat.le_of_ble_eq_true rfl) (Nat.le_of_ble_eq_true rfl) (by omega) (by omega) ?_
      refine t_enclose (hN.lk hp).sM hR (by omega) (fun w hR => ?_)
      refine wp_iinc (ls' := [_, _, _]) dX1_giveUpCells_45 (by decide) rfl rfl ⟨by omega, by omega⟩ rfl ?_
      refine wp_goto (tgt := 8) dX1_giveUpCells_48 rfl ?_
      first
      | (rw [if_pos h26] at k
         exact ih _ _ _ (by omega) (by omega) hR hB (by omega) k)
      | (rw [if_neg h26] at k
         exact ih _ _ _ (by omega) (by omega) hR (hB1.bencF (by omega) (hcv j h0 (by omega))) (by rw [encF_48, e48]; omega) k)
    · refine wp_if_eq (tgt := 45) dX1_giveUpCells_29 rfl (fun _ => ?_) (fun q => absurd q (by decide))
      refine wp_iinc (ls' := [_, _, _]) dX1_giveUpCells_45 (by decide) rfl rfl ⟨by omega, by omega⟩ rfl ?_
      refine wp_goto (tgt := 8) dX1_giveUpCells_48 rfl ?_
      first
      | (rw [if_pos h26] at k
         exact ih _ _ _ (by omega) (by omega) hR hB (by omega) k)
      | (rw [if_neg h26] at k
         exact ih _ _ _ (by omega) (by omega) hR (hB1.bencF (by omega) (hcv j h0 (by omega))) (by rw [encF_48, e48]; omega) k)
theorem e_giveUp (hN : NtA sh rv iv b) (hl : PlA sh rv iv E F) (hP : Prm E F) (hp : 0 ≤ p ∧ p < 6) (hpF : p < F 13) (hR : Rel w (stoF (up N (61 * p + 43) 0) p 1)) (hB : Bok (E 5 0) (E 5 1) N) (hTl : ∀ j : Int, 0 ≤ j → j < N (61 * p + 48) → T j = N (61 * p + (50 + j))) (hD5 : D 5 = N (61 * p + 48)) (k : ∀ (D' O' w' : Int → Int), Rel w' (ansF (dlQ p (tld N p) (N (61 * p + 48)).toNat 0 (rq1 N p)) p) → R none sh (uA (CD iv b D' O' T S K C) (12 + 42 * b) w') lw rv) : wp (d + 3) mX1_giveUpCells 0 [some (aR (38 + 43 * b)), some (aR (lid b p)), none] [] sh (uA (CD iv b D O T S K C) (12 + 42 * b) w) lw rv 0 0 R := by
  obtain ⟨hW1, hW2, hO1, hO2, hT1, hT2, hI1, hI2, hF1, hF2⟩ := id hP
  have hB1 : Bok (E 5 0) (E 5 1) (stoF (up N (61 * p + 43) 0) p 1) := (hB.bup (by omega) (by rw [k43]; omega)).bstoF (Or.inr rfl)
  have hB2 := rq1_bok hB hp
  have h48 := hB.v48 hp
  have e45 : stoF (up N (61 * p + 43) 0) p 1 (61 * p + 45) = N (61 * p + 45) := by rw [stoF_n (by omega) (Or.inr rfl), up_n (by omega)]
  have e49 : stoF (up N (61 * p + 43) 0) p 1 (61 * p + 49) = N (61 * p + 49) := by rw [stoF_n (by omega) (Or.inr rfl), up_n (by omega)]
  have hcv : ∀ z : Int, 0 ≤ z → z < D 5 → Vc (E 5 0) (E 5 1) (T z) := fun z z0 z1 => by rw [hTl z z0 (by omega)]; exact cm_48 hB hp z0 (by omega)
  have htk : ∀ nd s : Int, Tkn (rq1 N p) (E 6) (F 13) nd s ↔ Tkn (stoF (up N (61 * p + 43) 0) p 1) (E 6) (F 13) nd s := fun nd s => by rw [← rq1_eq]; exact Tkn_wri hB1 hF2 hp
  have hcv2 : ∀ j : Int, 0 ≤ j → j < 0 + ((N (61 * p + 48)).toNat : Int) → Vc (E 5 0) (E 5 1) (T j) := fun j j0 j1 => hcv j j0 (by omega)
  have hY := fun k (hk : 26 ≤ k ∧ (k < 48 ∨ k = 49)) => dlQ_k hk hp (N (61 * p + 48)).toNat 0 (rq1 N p) hcv2 (by rw [rq1_48]; omega) hB2
  have hY43 := (hY 43 (by omega)).trans rq1_43
  have hY44 := (hY 44 (by omega)).trans rq1_44
  have hY46 := (hY 46 (by omega)).trans rq1_46
  have hY47 := (hY 47 (by omega)).trans rq1_47
  refine wp_aload_n dX1_giveUpCells_0 rfl ?_
  refine wp_aload_n dX1_giveUpCells_1 rfl ?_
  refine wp_iconst dX1_giveUpCells_2 ?_
  refine wp_callV (as := [_, _]) (ls0 := [_, _, _]) (kc := 0) (ks := 0) (bc' := 0) (bs' := 0) dX1_giveUpCells_3 vX1_134 hN.s38 rfl rfl (Nat.le_of_ble_eq_true rfl) (Nat.le_of_ble_eq_true rfl) (by omega) (by omega) ?_
  refine e_answer hN hp hR (fun w hR => ?_)
  rw [e45, e49, rq1_eq] at hR
  refine wp_iconst dX1_giveUpCells_6 ?_
  refine wp_istore_n (ls' := [_, _, _]) dX1_giveUpCells_7 (by decide) rfl rfl ?_
  refine l_giveUp hN hP hp hcv (by omega) (N (61 * p + 48)).toNat 0 _ _ (by omega) (by omega) hR hB2 (by rw [rq1_48]; omega) (fun w hR => ?_)
  rw [ea_ans hY43 hY44 hY46 hY47] at hR
  refine k D O w ?_
  rw [dlQ_c (f := tld N p) (g := T)]
  · exact hR
  · intro j j0 j1; exact (hTl j j0 (by omega)).symm
theorem l_move {x : Int} (hN : NtA sh rv iv b) (hP : Prm E F) (hp : 0 ≤ p ∧ p < 6) (hpF : p < F 13) (hR : Rel w N) (hB : Bok (E 5 0) (E 5 1) N) (hcv : ∀ z : Int, 0 ≤ z → z < D 5 → Vc (E 5 0) (E 5 1) (T z)) (h5 : 1 ≤ D 5 ∧ D 5 ≤ 4) (hx : Bts x (Tkn N (E 6) (F 13) (E 6 (4 * p + 1)))) (h48 : N (61 * p + 48) = 0) (hpl : ¬ plc N p 1 (T 0) = -1) (m : Nat) : ∀ (j : Int), 1 ≤ j → j + m = D 5 → (∀ w' Y, Rel w' (eaF Y p) → Y = (if mvI (E 6) T N (F 13) (E 6 (4 * p + 1)) m j < D 5 then encF (encF (insF (remF N p 1 (T 0)) p 1 (T (mvI (E 6) T N (F 13) (E 6 (4 * p + 1)) m j))) p (T 0)) p (T (mvI (E 6) T N (F 13) (E 6 (4 * p + 1)) m j)) else N) → R none sh (uA (CD iv b D O T S K C) (12 + 42 * b) w') lw rv) → wp (d + 3) mX1_moveCell 45 [some (aR (38 + 43 * b)), some (aR (lid b p)), some (aI x), some (aI j)] [] sh (uA (CD iv b D O T S K C) (12 + 42 * b) w) lw rv 0 0 R := by
  obtain ⟨hW1, hW2, hO1, hO2, hT1, hT2, hI1, hI2, hF1, hF2⟩ := id hP
  have hmn := hB.mny hp (Or.inr rfl : (1 : Int) = 0 ∨ (1 : Int) = 1)
  have e48 : remF N p 1 (T 0) (61 * p + 48) = 0 := (remF_n (Or.inr rfl) hmn (by omega)).trans h48
  have hB1 : Bok (E 5 0) (E 5 1) (remF N p 1 (T 0)) := hB.bremF hp (Or.inr rfl)
  have hmn1 := hB1.mny hp (Or.inr rfl : (1 : Int) = 0 ∨ (1 : Int) = 1)
  induction m with
  | zero =>
    intro j h0 hm k
    refine wp_iload_n dX1_moveCell_45 rfl ?_
    refine wp_aload_n dX1_moveCell_46 rfl ?_
    refine wp_getI dX1_moveCell_47 fX1_112 hN.s38 ?_
    rw [CS38]
    refine wp_icmp_ge (tgt := 131) dX1_moveCell_50 rfl (fun h50 => ?_) (fun h50 => by exfalso; omega)
    refine wp_aload_n dX1_moveCell_131 rfl ?_
    refine wp_aload_n dX1_moveCell_132 rfl ?_
    refine wp_callV (as := [_]) (ls0 := [_, _]) (kc := 0) (ks := 0) (bc' := 0) (bs' := 0) dX1_moveCell_133 vX1_222 hN.s38 rfl rfl (Nat.le_of_ble_eq_true rfl) (Nat.le_of_ble_eq_true rfl) (by omega) (by omega) ?_
    refine e_endAnswer hN hp hR hB (fun w hR => ?_)
    refine wp_return dX1_moveCell_136 rfl ?_
    exact k w N hR (by rw [mvI, if_neg (by omega)])
  | succ m ih =>
    intro j h0 hm k
    have hcj := hcv j (by omega) (by omega)
    have hcj2 := hcj
    unfold Vc at hcj2
    have hbt := hx.2.2 (T j / 10) (by omega) (by omega)
    have e48b : insF (remF N p 1 (T 0)) p 1 (T j) (61 * p + 48) = 0 := (insF_n hmn1 (by omega)).trans e48
    have hB3 : Bok (E 5 0) (E 5 1) (insF (remF N p 1 (T 0)) p 1 (T j)) := hB1.binsF hp (Or.inr rfl) hcj
    have hB4 := hB3.bencF (p := p) (c := T 0) (by omega) (hcv 0 (by omega) (by omega))
    have hB5 := hB4.bencF (p := p) (c := T j) (by rw [encF_48, e48b]; omega) hcj
    refine wp_iload_n dX1_moveCell_45 rfl ?_
    refine wp_aload_n dX1_moveCell_46 rfl ?_
    refine wp_getI dX1_moveCell_47 fX1_112 hN.s38 ?_
    rw [CS38]
    refine wp_icmp_ge (tgt := 131) dX1_moveCell_50 rfl (fun h50 => by exfalso; omega) (fun h50 => ?_)
    refine wp_iload_n dX1_moveCell_53 rfl ?_
    refine wp_aload_n dX1_moveCell_54 rfl ?_
    refine wp_getR hN.r38t dX1_moveCell_55 fX1_17 hN.s38 ?_
    refine wp_iload_n dX1_moveCell_58 rfl ?_
    refine wp_iald dX1_moveCell_59 hN.s40 (by omega) (by omega) ?_
    rw [CS40]
    refine wp_bipush dX1_moveCell_60 ?_
    refine wp_idiv dX1_moveCell_62 (by omega) (by omega) ?_
    refine wp_ishr dX1_moveCell_63 (by omega) (by omega) ?_
    refine wp_iconst dX1_moveCell_64 ?_
    refine wp_iand dX1_moveCell_65 (by first | exact bt_nn hx.1 | decide) (by first | exact bt_nn hx.1 | decide) ?_
    refine wp_if_ne (tgt := 125) dX1_moveCell_66 rfl (fun h66 => ?_) (fun h66 => ?_)
    · refine wp_iinc (ls' := [_, _, _, _]) dX1_moveCell_125 (by decide) rfl rfl ⟨by omega, by omega⟩ rfl ?_
      refine wp_goto (tgt := 45) dX1_moveCell_128 rfl ?_
      have h66 := hbt.mp (bt_n0 h66)
      exact ih _ (by omega) (by omega) (by rw [mvI_t h66] at k; exact k)
    · refine wp_aload_n dX1_moveCell_69 rfl ?_
      refine wp_getR (hN.rlr hp) dX1_moveCell_70 fX1_122 (hN.sl hp) ?_
      refine wp_aload_n dX1_moveCell_73 rfl ?_
      refine wp_getR hN.r38t dX1_moveCell_74 fX1_17 hN.s38 ?_
      refine wp_iconst dX1_moveCell_77 ?_
      refine wp_iald dX1_moveCell_78 hN.s40 (by omega) (by omega) ?_
      rw [CS40]
      refine wp_callV (as := [_]) (ls0 := [_, _, _, _, _]) (kc := 0) (ks := 0) (bc' := 0) (bs' := 0) dX1_moveCell_79 vX1_166 (hN.sr hp) rfl rfl (Nat.le_of_ble_eq_true rfl) (Nat.le_of_ble_eq_true rfl) (by omega) (by omega) ?_
      refine c_takeOut (hN.lk hp).sR hR hB (fun h79 w hR => ?_) (fun h79 => absurd h79 hpl)
      refine wp_pop dX1_moveCell_82 rfl ?_
      refine wp_aload_n dX1_moveCell_83 rfl ?_
      refine wp_getR (hN.rlr hp) dX1_moveCell_84 fX1_122 (hN.sl hp) ?_
      refine wp_aload_n dX1_moveCell_87 rfl ?_
      refine wp_getR hN.r38t dX1_moveCell_88 fX1_17 hN.s38 ?_
      refine wp_iload_n dX1_moveCell_91 rfl ?_
      refine wp_iald dX1_moveCell_92 hN.s40 (by omega) (by omega) ?_
      rw [CS40]
      refine wp_callV (as := [_]) (ls0 := [_, _, _, _]) (kc := 0) (ks := 0) (bc' := 0) (bs' := 0) dX1_moveCell_93 vX1_170 (hN.sr hp) rfl rfl (Nat.le_of_ble_eq_true rfl) (Nat.le_of_ble_eq_true rfl) (by omega) (by omega) ?_
      refine c_put (hN.lk hp).sR hR hB1 (fun w hR => ?_)
      refine wp_aload_n dX1_moveCell_96 rfl ?_
      refine wp_getR (hN.rlm hp) dX1_moveCell_97 fX1_72 (hN.sl hp) ?_
      refine wp_aload_n dX1_moveCell_100 rfl ?_
      refine wp_getR hN.r38t dX1_moveCell_101 fX1_17 hN.s38 ?_
      refine wp_iconst dX1_moveCell_104 ?_
      refine wp_iald dX1_moveCell_105 hN.s40 (by omega) (by omega) ?_
      rw [CS40]
      refine wp_callV (as := [_]) (ls0 := [_, _, _]) (kc := 0) (ks := 0) (bc' := 0) (bs' := 0) dX1_moveCell_106 vX1_102 (hN.sm hp) rfl rfl (Nat.le_of_ble_eq_true rfl) (Nat.le_of_ble_eq_true rfl) (by omega) (by omega) ?_
      refine t_enclose (hN.lk hp).sM hR (by omega) (fun w hR => ?_)
      refine wp_aload_n dX1_moveCell_109 rfl ?_
      refine wp_getR (hN.rlm hp) dX1_moveCell_110 fX1_72 (hN.sl hp) ?_
      refine wp_aload_n dX1_moveCell_113 rfl ?_
      refine wp_getR hN.r38t dX1_moveCell_114 fX1_17 hN.s38 ?_
      refine wp_iload_n dX1_moveCell_117 rfl ?_
      refine wp_iald dX1_moveCell_118 hN.s40 (by omega) (by omega) ?_
      rw [CS40]
      refine wp_callV (as := [_]) (ls0 := [_, _, _]) (kc := 0) (ks := 0) (bc' := 0) (bs' := 0) dX1_moveCell_119 vX1_102 (hN.sm hp) rfl rfl (Nat.le_of_ble_eq_true rfl) (Nat.le_of_ble_eq_true rfl) (by omega) (by omega) ?_
      refine t_enclose (hN.lk hp).sM hR (by rw [encF_48, e48b]; omega) (fun w hR => ?_)
      refine wp_goto (tgt := 131) dX1_moveCell_122 rfl ?_
      refine wp_aload_n dX1_moveCell_131 rfl ?_
      refine wp_aload_n dX1_moveCell_132 rfl ?_
      refine wp_callV (as := [_]) (ls0 := [_, _]) (kc := 0) (ks := 0) (bc' := 0) (bs' := 0) dX1_moveCell_133 vX1_222 hN.s38 rfl rfl (Nat.le_of_ble_eq_true rfl) (Nat.le_of_ble_eq_true rfl) (by omega) (by omega) ?_
      refine e_endAnswer hN hp hR hB5 (fun w hR => ?_)
      refine wp_return dX1_moveCell_136 rfl ?_
      have h66 : ¬ Tkn N (E 6) (F 13) (E 6 (4 * p + 1)) (T j / 10) := fun z => bt_0 h66 (hbt.mpr z)
      rw [mvI_f h66, if_pos (by omega)] at k
      exact k w _ hR rfl
theorem e_move (hN : NtA sh rv iv b) (hl : PlA sh rv iv E F) (hP : Prm E F) (hp : 0 ≤ p ∧ p < 6) (hpF : p < F 13) (hR : Rel w (stoF (up N (61 * p + 43) 0) p 1)) (hB : Bok (E 5 0) (E 5 1) N) (hTl : ∀ j : Int, 0 ≤ j → j < N (61 * p + 48) → T j = N (61 * p + (50 + j))) (hD5 : D 5 = N (61 * p + 48)) (k : ∀ (D' O' w' : Int → Int), Rel w' (ansF (mvF (E 6) (tld N p) (rq1 N p) (F 13) p (N (61 * p + 48))) p) → R none sh (uA (CD iv b D' O' T S K C) (12 + 42 * b) w') lw rv) : wp (d + 3) mX1_moveCell 0 [some (aR (38 + 43 * b)), some (aR (lid b p)), none, none] [] sh (uA (CD iv b D O T S K C) (12 + 42 * b) w) lw rv 0 0 R := by
  obtain ⟨hW1, hW2, hO1, hO2, hT1, hT2, hI1, hI2, hF1, hF2⟩ := id hP
  have hB1 : Bok (E 5 0) (E 5 1) (stoF (up N (61 * p + 43) 0) p 1) := (hB.bup (by omega) (by rw [k43]; omega)).bstoF (Or.inr rfl)
  have hB2 := rq1_bok hB hp
  have h48 := hB.v48 hp
  have e45 : stoF (up N (61 * p + 43) 0) p 1 (61 * p + 45) = N (61 * p + 45) := by rw [stoF_n (by omega) (Or.inr rfl), up_n (by omega)]
  have e49 : stoF (up N (61 * p + 43) 0) p 1 (61 * p + 49) = N (61 * p + 49) := by rw [stoF_n (by omega) (Or.inr rfl), up_n (by omega)]
  have hcv : ∀ z : Int, 0 ≤ z → z < D 5 → Vc (E 5 0) (E 5 1) (T z) := fun z z0 z1 => by rw [hTl z z0 (by omega)]; exact cm_48 hB hp z0 (by omega)
  have htk : ∀ nd s : Int, Tkn (rq1 N p) (E 6) (F 13) nd s ↔ Tkn (stoF (up N (61 * p + 43) 0) p 1) (E 6) (F 13) nd s := fun nd s => by rw [← rq1_eq]; exact Tkn_wri hB1 hF2 hp
  have hY := fun k (hk : 26 ≤ k ∧ (k < 48 ∨ k = 49)) => mvF_k (pa := E 6) (T := T) (np := F 13) (tm := N (61 * p + 48)) hk hp hB2
  have hY43 := (hY 43 (by omega)).trans rq1_43
  have hY44 := (hY 44 (by omega)).trans rq1_44
  have hY46 := (hY 46 (by omega)).trans rq1_46
  have hY47 := (hY 47 (by omega)).trans rq1_47
  rw [mvF_c (f := tld N p) (g := T) (fun j j0 j1 => (hTl j j0 j1).symm), ← ea_ans hY43 hY44 hY46 hY47] at k
  refine wp_aload_n dX1_moveCell_0 rfl ?_
  refine wp_getR hN.r38n dX1_moveCell_1 fX1_20 hN.s38 ?_
  refine wp_aload_n dX1_moveCell_4 rfl ?_
  refine wp_aload_n dX1_moveCell_5 rfl ?_
  refine wp_callV (as := [_]) (ls0 := [_, _]) (kc := 0) (ks := 0) (bc' := 0) (bs' := 0) dX1_moveCell_6 vX1_215 hN.s38 rfl rfl (Nat.le_of_ble_eq_true rfl) (Nat.le_of_ble_eq_true rfl) (by omega) (by omega) ?_
  refine e_receiverOf hN hl hP hp hpF ?_
  refine wp_callV (as := [_]) (ls0 := [_, _, _, _]) (kc := 0) (ks := 0) (bc' := 0) (bs' := 0) dX1_moveCell_9 vX1_55 hN.s11 rfl rfl (Nat.le_of_ble_eq_true rfl) (Nat.le_of_ble_eq_true rfl) (by omega) (by omega) ?_
  refine x_takenAt hN hl hP hR hB1 (fun x hx => ?_)
  have hx := hx.cg (fun s _ _ => (htk _ s).symm)
  refine wp_istore_n (ls' := [_, _, _, _]) dX1_moveCell_12 (by decide) rfl rfl ?_
  refine wp_aload_n dX1_moveCell_13 rfl ?_
  refine wp_aload_n dX1_moveCell_14 rfl ?_
  refine wp_iconst dX1_moveCell_15 ?_
  refine wp_callV (as := [_, _]) (ls0 := [_, _, _]) (kc := 0) (ks := 0) (bc' := 0) (bs' := 0) dX1_moveCell_16 vX1_134 hN.s38 rfl rfl (Nat.le_of_ble_eq_true rfl) (Nat.le_of_ble_eq_true rfl) (by omega) (by omega) ?_
  refine e_answer hN hp hR (fun w hR => ?_)
  rw [e45, e49, rq1_eq] at hR
  refine wp_aload_n dX1_moveCell_19 rfl ?_
  refine wp_getI dX1_moveCell_20 fX1_112 hN.s38 ?_
  rw [CS38]
  refine wp_if_le (tgt := 131) dX1_moveCell_23 rfl (fun h23 => ?_) (fun h23 => ?_)
  · refine wp_aload_n dX1_moveCell_131 rfl ?_
    refine wp_aload_n dX1_moveCell_132 rfl ?_
    refine wp_callV (as := [_]) (ls0 := [_, _]) (kc := 0) (ks := 0) (bc' := 0) (bs' := 0) dX1_moveCell_133 vX1_222 hN.s38 rfl rfl (Nat.le_of_ble_eq_true rfl) (Nat.le_of_ble_eq_true rfl) (by omega) (by omega) ?_
    refine e_endAnswer hN hp hR hB2 (fun w hR => ?_)
    refine wp_return dX1_moveCell_136 rfl ?_
    refine k D O w ?_
    unfold mvF
    have hmv := mvI_r (pa := E 6) (T := T) (N := rq1 N p) (np := F 13) (nd := E 6 (4 * p + 1)) (N (61 * p + 48) - 1).toNat 1
    rw [if_neg (by rintro ⟨z1, z2⟩; first | exact z2 h40 | omega)]; exact hR
  · refine wp_aload_n dX1_moveCell_26 rfl ?_
    refine wp_getR (hN.rlr hp) dX1_moveCell_27 fX1_122 (hN.sl hp) ?_
    refine wp_aload_n dX1_moveCell_30 rfl ?_
    refine wp_getR hN.r38t dX1_moveCell_31 fX1_17 hN.s38 ?_
    refine wp_iconst dX1_moveCell_34 ?_
    refine wp_iald dX1_moveCell_35 hN.s40 (by omega) (by omega) ?_
    rw [CS40]
    refine wp_callV (as := [_]) (ls0 := [_, _, _, _]) (kc := 0) (ks := 0) (bc' := 0) (bs' := 0) dX1_moveCell_36 vX1_225 (hN.sr hp) rfl rfl (Nat.le_of_ble_eq_true rfl) (Nat.le_of_ble_eq_true rfl) (by omega) (by omega) ?_
    refine c_placeOf (hN.lk hp).sR hR hB2 ?_
    refine wp_iconst dX1_moveCell_39 ?_
    refine wp_icmp_eq (tgt := 131) dX1_moveCell_40 rfl (fun h40 => ?_) (fun h40 => ?_)
    · refine wp_aload_n dX1_moveCell_131 rfl ?_
      refine wp_aload_n dX1_moveCell_132 rfl ?_
      refine wp_callV (as := [_]) (ls0 := [_, _]) (kc := 0) (ks := 0) (bc' := 0) (bs' := 0) dX1_moveCell_133 vX1_222 hN.s38 rfl rfl (Nat.le_of_ble_eq_true rfl) (Nat.le_of_ble_eq_true rfl) (by omega) (by omega) ?_
      refine e_endAnswer hN hp hR hB2 (fun w hR => ?_)
      refine wp_return dX1_moveCell_136 rfl ?_
      refine k D O w ?_
      unfold mvF
      have hmv := mvI_r (pa := E 6) (T := T) (N := rq1 N p) (np := F 13) (nd := E 6 (4 * p + 1)) (N (61 * p + 48) - 1).toNat 1
      rw [if_neg (by rintro ⟨z1, z2⟩; first | exact z2 h40 | omega)]; exact hR
    · refine wp_iconst dX1_moveCell_43 ?_
      refine wp_istore_n (ls' := [_, _, _, _]) dX1_moveCell_44 (by decide) rfl rfl ?_
      refine l_move hN hP hp hpF hR hB2 hcv (by omega) hx rq1_48 h40 (N (61 * p + 48) - 1).toNat 1 (by omega) (by omega) (fun w Y hR hYe => ?_)
      refine k D O w ?_
      unfold mvF
      rw [hD5] at hYe
      by_cases hi : mvI (E 6) T (rq1 N p) (F 13) (E 6 (4 * p + 1)) (N (61 * p + 48) - 1).toNat 1 < N (61 * p + 48)
      · rw [if_pos ⟨hi, h40⟩]
        rw [if_pos hi] at hYe
        rw [← hYe]; exact hR
      · rw [if_neg (fun z => hi z.1)]
        rw [if_neg hi] at hYe
        rw [← hYe]; exact hR
theorem e_readRequest (hN : NtA sh rv iv b) (hl : PlA sh rv iv E F) (hP : Prm E F) (hp : 0 ≤ p ∧ p < 6) (hpF : p < F 13) (hR : Rel w (up N (61 * p + 43) 0)) (hB : Bok (E 5 0) (E 5 1) N) (hTl : ∀ j : Int, 0 ≤ j → j < N (61 * p + 48) → T j = N (61 * p + (50 + j))) (hD5 : D 5 = N (61 * p + 48)) (hfr : 0 ≤ N 368 ∧ N 368 ≤ 20000) (hds : N (61 * p + 45) = 0 → ∀ y z : Int, 0 ≤ y → y < z → z < N (61 * p + 48) → ¬ N (61 * p + (50 + y)) / 10 = N (61 * p + (50 + z)) / 10) (k : ∀ (D' O' w' : Int → Int), Rel w' (rqF E F N p) → R none sh (uA (CD iv b D' O' T S K C) (12 + 42 * b) w') lw rv) : wp (d + 4) mX1_readRequest 0 [some (aR (38 + 43 * b)), some (aR (lid b p)), none] [] sh (uA (CD iv b D O T S K C) (12 + 42 * b) w) lw rv 0 0 R := by
  obtain ⟨hW1, hW2, hO1, hO2, hT1, hT2, hI1, hI2, hF1, hF2⟩ := id hP
  have hB1 : Bok (E 5 0) (E 5 1) (stoF (up N (61 * p + 43) 0) p 1) := (hB.bup (by omega) (by rw [k43]; omega)).bstoF (Or.inr rfl)
  have hB2 := rq1_bok hB hp
  have h48 := hB.v48 hp
  have e45 : stoF (up N (61 * p + 43) 0) p 1 (61 * p + 45) = N (61 * p + 45) := by rw [stoF_n (by omega) (Or.inr rfl), up_n (by omega)]
  have e49 : stoF (up N (61 * p + 43) 0) p 1 (61 * p + 49) = N (61 * p + 49) := by rw [stoF_n (by omega) (Or.inr rfl), up_n (by omega)]
  have hcv : ∀ z : Int, 0 ≤ z → z < D 5 → Vc (E 5 0) (E 5 1) (T z) := fun z z0 z1 => by rw [hTl z z0 (by omega)]; exact cm_48 hB hp z0 (by omega)
  have htk : ∀ nd s : Int, Tkn (rq1 N p) (E 6) (F 13) nd s ↔ Tkn (stoF (up N (61 * p + 43) 0) p 1) (E 6) (F 13) nd s := fun nd s => by rw [← rq1_eq]; exact Tkn_wri hB1 hF2 hp
  have h45 := hB.v45 hp
  unfold rqF at k
  refine wp_aload_n dX1_readRequest_0 rfl ?_
  refine wp_getR (hN.rlr hp) dX1_readRequest_1 fX1_122 (hN.sl hp) ?_
  refine wp_callV (as := []) (ls0 := [_]) (kc := 0) (ks := 0) (bc' := 0) (bs' := 0) dX1_readRequest_4 vX1_125 (hN.sr hp) rfl rfl (Nat.le_of_ble_eq_true rfl) (Nat.le_of_ble_eq_true rfl) (by omega) (by omega) ?_
  refine c_stopWaiting (hN.lk hp).sR hR (fun w hR => ?_)
  refine wp_aload_n dX1_readRequest_7 rfl ?_
  refine wp_getR (hN.rlm hp) dX1_readRequest_8 fX1_72 (hN.sl hp) ?_
  refine wp_callV (as := []) (ls0 := [_]) (kc := 0) (ks := 0) (bc' := 0) (bs' := 0) dX1_readRequest_11 vX1_128 (hN.sm hp) rfl rfl (Nat.le_of_ble_eq_true rfl) (Nat.le_of_ble_eq_true rfl) (by omega) (by omega) ?_
  refine t_kind (hN.lk hp).sM hR ?_
  rw [e45]
  refine wp_istore_n (ls' := [_, _, _]) dX1_readRequest_14 (by decide) rfl rfl ?_
  refine wp_iload_n dX1_readRequest_15 rfl ?_
  refine wp_iconst dX1_readRequest_16 ?_
  refine wp_icmp_ne (tgt := 36) dX1_readRequest_17 rfl (fun h17 => ?_) (fun h17 => ?_)
  · refine wp_aload_n dX1_readRequest_36 rfl ?_
    refine wp_getR (hN.rlr hp) dX1_readRequest_37 fX1_122 (hN.sl hp) ?_
    refine wp_callV (as := []) (ls0 := [_]) (kc := 0) (ks := 0) (bc' := 0) (bs' := 0) dX1_readRequest_40 vX1_76 (hN.sr hp) rfl rfl (Nat.le_of_ble_eq_true rfl) (Nat.le_of_ble_eq_true rfl) (by omega) (by omega) ?_
    refine c_seq (hN.lk hp).sR hR ?_
    rw [show (26 : Int) + 1 = 27 from rfl, stoF_n (by omega) (Or.inr rfl), up_n (by omega)]
    refine wp_aload_n dX1_readRequest_43 rfl ?_
    refine wp_getR (hN.rlm hp) dX1_readRequest_44 fX1_72 (hN.sl hp) ?_
    refine wp_callV (as := []) (ls0 := [_]) (kc := 0) (ks := 0) (bc' := 0) (bs' := 0) dX1_readRequest_47 vX1_138 (hN.sm hp) rfl rfl (Nat.le_of_ble_eq_true rfl) (Nat.le_of_ble_eq_true rfl) (by omega) (by omega) ?_
    refine t_seq (hN.lk hp).sM hR ?_
    rw [stoF_n (by omega) (Or.inr rfl), up_n (by omega)]
    refine wp_icmp_eq (tgt := 62) dX1_readRequest_50 rfl (fun h50 => ?_) (fun h50 => ?_)
    · refine wp_iload_n dX1_readRequest_62 rfl ?_
      refine wp_if_ne (tgt := 82) dX1_readRequest_63 rfl (fun h63 => ?_) (fun h63 => ?_)
      · refine wp_iload_n dX1_readRequest_82 rfl ?_
        refine wp_if_ne (tgt := 94) dX1_readRequest_83 rfl (fun h83 => ?_) (fun h83 => ?_)
        · refine wp_iload_n dX1_readRequest_94 rfl ?_
          refine wp_iconst dX1_readRequest_95 ?_
          refine wp_icmp_ne (tgt := 107) dX1_readRequest_96 rfl (fun h96 => ?_) (fun h96 => ?_)
          · refine wp_aload_n dX1_readRequest_107 rfl ?_
            refine wp_aload_n dX1_readRequest_108 rfl ?_
            refine wp_callV (as := [_]) (ls0 := [_, _, _, _]) (kc := 0) (ks := 0) (bc' := 0) (bs' := 0) dX1_readRequest_109 vX1_149 hN.s38 rfl rfl (Nat.le_of_ble_eq_true rfl) (Nat.le_of_ble_eq_true rfl) (by omega) (by omega) ?_
            refine e_move hN hl hP hp hpF hR hB hTl hD5 (fun D' O' w' hR => ?_)
            refine wp_return dX1_readRequest_112 rfl ?_
            first
            | (exfalso; omega)
            | (rw [if_pos h17] at k; exact k D O w hR)
            | (rw [if_neg h17, if_pos (by omega)] at k; exact k D O w hR)
            | (rw [if_neg h17, if_neg (by omega)] at k
               first
               | (rw [if_neg (fun z => z.2 h68), if_pos h63] at k; exact k D' O' w' hR)
               | (rw [if_pos ⟨h63, h68⟩] at k; exact k D' O' w' hR)
               | (rw [if_neg (fun z => h63 z.1), if_neg h63] at k
                  first
                  | (rw [if_pos (by omega)] at k; exact k D' O' w' hR)
                  | (rw [if_neg (by omega)] at k; exact k D' O' w' hR)))
          · refine wp_aload_n dX1_readRequest_99 rfl ?_
            refine wp_aload_n dX1_readRequest_100 rfl ?_
            refine wp_callV (as := [_]) (ls0 := [_, _, _]) (kc := 0) (ks := 0) (bc' := 0) (bs' := 0) dX1_readRequest_101 vX1_146 hN.s38 rfl rfl (Nat.le_of_ble_eq_true rfl) (Nat.le_of_ble_eq_true rfl) (by omega) (by omega) ?_
            refine e_giveUp hN hl hP hp hpF hR hB hTl hD5 (fun D' O' w' hR => ?_)
            refine wp_goto (tgt := 112) dX1_readRequest_104 rfl ?_
            refine wp_return dX1_readRequest_112 rfl ?_
            first
            | (exfalso; omega)
            | (rw [if_pos h17] at k; exact k D O w hR)
            | (rw [if_neg h17, if_pos (by omega)] at k; exact k D O w hR)
            | (rw [if_neg h17, if_neg (by omega)] at k
               first
               | (rw [if_neg (fun z => z.2 h68), if_pos h63] at k; exact k D' O' w' hR)
               | (rw [if_pos ⟨h63, h68⟩] at k; exact k D' O' w' hR)
               | (rw [if_neg (fun z => h63 z.1), if_neg h63] at k
                  first
                  | (rw [if_pos (by omega)] at k; exact k D' O' w' hR)
                  | (rw [if_neg (by omega)] at k; exact k D' O' w' hR)))
        · refine wp_aload_n dX1_readRequest_86 rfl ?_
          refine wp_aload_n dX1_readRequest_87 rfl ?_
          refine wp_callV (as := [_]) (ls0 := [_, _, _, _]) (kc := 0) (ks := 0) (bc' := 0) (bs' := 0) dX1_readRequest_88 vX1_143 hN.s38 rfl rfl (Nat.le_of_ble_eq_true rfl) (Nat.le_of_ble_eq_true rfl) (by omega) (by omega) ?_
          refine e_offer hN hl hP hp hpF hR hB hTl hD5 hfr (fun D' O' w' hR => ?_)
          refine wp_goto (tgt := 112) dX1_readRequest_91 rfl ?_
          refine wp_return dX1_readRequest_112 rfl ?_
          first
          | (exfalso; omega)
          | (rw [if_pos h17] at k; exact k D O w hR)
          | (rw [if_neg h17, if_pos (by omega)] at k; exact k D O w hR)
          | (rw [if_neg h17, if_neg (by omega)] at k
             first
             | (rw [if_neg (fun z => z.2 h68), if_pos h63] at k; exact k D' O' w' hR)
             | (rw [if_pos ⟨h63, h68⟩] at k; exact k D' O' w' hR)
             | (rw [if_neg (fun z => h63 z.1), if_neg h63] at k
                first
                | (rw [if_pos (by omega)] at k; exact k D' O' w' hR)
                | (rw [if_neg (by omega)] at k; exact k D' O' w' hR)))
      · refine wp_aload_n dX1_readRequest_66 rfl ?_
        refine wp_aload_n dX1_readRequest_67 rfl ?_
        refine wp_callV (as := [_]) (ls0 := [_, _]) (kc := 0) (ks := 0) (bc' := 0) (bs' := 0) dX1_readRequest_68 vX1_59 hN.s38 rfl rfl (Nat.le_of_ble_eq_true rfl) (Nat.le_of_ble_eq_true rfl) (by omega) (by omega) ?_
        refine e_isTwoSteps hN hl hP hp hpF (fun h68 => ?_) (fun h68 => ?_)
        · refine wp_if_eq (tgt := 82) dX1_readRequest_71 rfl (fun q => absurd q (by decide)) (fun _ => ?_)
          refine wp_aload_n dX1_readRequest_74 rfl ?_
          refine wp_aload_n dX1_readRequest_75 rfl ?_
          refine wp_callV (as := [_]) (ls0 := [_, _, _]) (kc := 0) (ks := 0) (bc' := 0) (bs' := 0) dX1_readRequest_76 vX1_139 hN.s38 rfl rfl (Nat.le_of_ble_eq_true rfl) (Nat.le_of_ble_eq_true rfl) (by omega) (by omega) ?_
          refine e_accept hN hl hP hp hpF hR hB hTl hD5 (hds h63) (fun D' O' w' hR => ?_)
          refine wp_goto (tgt := 112) dX1_readRequest_79 rfl ?_
          refine wp_return dX1_readRequest_112 rfl ?_
          first
          | (exfalso; omega)
          | (rw [if_pos h17] at k; exact k D O w hR)
          | (rw [if_neg h17, if_pos (by omega)] at k; exact k D O w hR)
          | (rw [if_neg h17, if_neg (by omega)] at k
             first
             | (rw [if_neg (fun z => z.2 h68), if_pos h63] at k; exact k D' O' w' hR)
             | (rw [if_pos ⟨h63, h68⟩] at k; exact k D' O' w' hR)
             | (rw [if_neg (fun z => h63 z.1), if_neg h63] at k
                first
                | (rw [if_pos (by omega)] at k; exact k D' O' w' hR)
                | (rw [if_neg (by omega)] at k; exact k D' O' w' hR)))
        · refine wp_if_eq (tgt := 82) dX1_readRequest_71 rfl (fun _ => ?_) (fun q => absurd q (by decide))
          refine wp_iload_n dX1_readRequest_82 rfl ?_
          refine wp_if_ne (tgt := 94) dX1_readRequest_83 rfl (fun h83 => ?_) (fun h83 => ?_)
          · refine wp_iload_n dX1_readRequest_94 rfl ?_
            refine wp_iconst dX1_readRequest_95 ?_
            refine wp_icmp_ne (tgt := 107) dX1_readRequest_96 rfl (fun h96 => ?_) (fun h96 => ?_)
            · refine wp_aload_n dX1_readRequest_107 rfl ?_
              refine wp_aload_n dX1_readRequest_108 rfl ?_
              refine wp_callV (as := [_]) (ls0 := [_, _, _, _]) (kc := 0) (ks := 0) (bc' := 0) (bs' := 0) dX1_readRequest_109 vX1_149 hN.s38 rfl rfl (Nat.le_of_ble_eq_true rfl) (Nat.le_of_ble_eq_true rfl) (by omega) (by omega) ?_
              refine e_move hN hl hP hp hpF hR hB hTl hD5 (fun D' O' w' hR => ?_)
              refine wp_return dX1_readRequest_112 rfl ?_
              first
              | (exfalso; omega)
              | (rw [if_pos h17] at k; exact k D O w hR)
              | (rw [if_neg h17, if_pos (by omega)] at k; exact k D O w hR)
              | (rw [if_neg h17, if_neg (by omega)] at k
                 first
                 | (rw [if_neg (fun z => z.2 h68), if_pos h63] at k; exact k D' O' w' hR)
                 | (rw [if_pos ⟨h63, h68⟩] at k; exact k D' O' w' hR)
                 | (rw [if_neg (fun z => h63 z.1), if_neg h63] at k
                    first
                    | (rw [if_pos (by omega)] at k; exact k D' O' w' hR)
                    | (rw [if_neg (by omega)] at k; exact k D' O' w' hR)))
            · refine wp_aload_n dX1_readRequest_99 rfl ?_
              refine wp_aload_n dX1_readRequest_100 rfl ?_
              refine wp_callV (as := [_]) (ls0 := [_, _, _]) (kc := 0) (ks := 0) (bc' := 0) (bs' := 0) dX1_readRequest_101 vX1_146 hN.s38 rfl rfl (Nat.le_of_ble_eq_true rfl) (Nat.le_of_ble_eq_true rfl) (by omega) (by omega) ?_
              refine e_giveUp hN hl hP hp hpF hR hB hTl hD5 (fun D' O' w' hR => ?_)
              refine wp_goto (tgt := 112) dX1_readRequest_104 rfl ?_
              refine wp_return dX1_readRequest_112 rfl ?_
              first
              | (exfalso; omega)
              | (rw [if_pos h17] at k; exact k D O w hR)
              | (rw [if_neg h17, if_pos (by omega)] at k; exact k D O w hR)
              | (rw [if_neg h17, if_neg (by omega)] at k
                 first
                 | (rw [if_neg (fun z => z.2 h68), if_pos h63] at k; exact k D' O' w' hR)
                 | (rw [if_pos ⟨h63, h68⟩] at k; exact k D' O' w' hR)
                 | (rw [if_neg (fun z => h63 z.1), if_neg h63] at k
                    first
                    | (rw [if_pos (by omega)] at k; exact k D' O' w' hR)
                    | (rw [if_neg (by omega)] at k; exact k D' O' w' hR)))
          · refine wp_aload_n dX1_readRequest_86 rfl ?_
            refine wp_aload_n dX1_readRequest_87 rfl ?_
            refine wp_callV (as := [_]) (ls0 := [_, _, _, _]) (kc := 0) (ks := 0) (bc' := 0) (bs' := 0) dX1_readRequest_88 vX1_143 hN.s38 rfl rfl (Nat.le_of_ble_eq_true rfl) (Nat.le_of_ble_eq_true rfl) (by omega) (by omega) ?_
            refine e_offer hN hl hP hp hpF hR hB hTl hD5 hfr (fun D' O' w' hR => ?_)
            refine wp_goto (tgt := 112) dX1_readRequest_91 rfl ?_
            refine wp_return dX1_readRequest_112 rfl ?_
            first
            | (exfalso; omega)
            | (rw [if_pos h17] at k; exact k D O w hR)
            | (rw [if_neg h17, if_pos (by omega)] at k; exact k D O w hR)
            | (rw [if_neg h17, if_neg (by omega)] at k
               first
               | (rw [if_neg (fun z => z.2 h68), if_pos h63] at k; exact k D' O' w' hR)
               | (rw [if_pos ⟨h63, h68⟩] at k; exact k D' O' w' hR)
               | (rw [if_neg (fun z => h63 z.1), if_neg h63] at k
                  first
                  | (rw [if_pos (by omega)] at k; exact k D' O' w' hR)
                  | (rw [if_neg (by omega)] at k; exact k D' O' w' hR)))
    · refine wp_aload_n dX1_readRequest_53 rfl ?_
      refine wp_aload_n dX1_readRequest_54 rfl ?_
      refine wp_iconst dX1_readRequest_55 ?_
      refine wp_callV (as := [_, _]) (ls0 := [_, _, _]) (kc := 0) (ks := 0) (bc' := 0) (bs' := 0) dX1_readRequest_56 vX1_134 hN.s38 rfl rfl (Nat.le_of_ble_eq_true rfl) (Nat.le_of_ble_eq_true rfl) (by omega) (by omega) ?_
      refine e_answer hN hp hR (fun w hR => ?_)
      rw [e45, e49, rq1_re] at hR
      refine wp_goto (tgt := 112) dX1_readRequest_59 rfl ?_
      refine wp_return dX1_readRequest_112 rfl ?_
      first
      | (exfalso; omega)
      | (rw [if_pos h17] at k; exact k D O w hR)
      | (rw [if_neg h17, if_pos (by omega)] at k; exact k D O w hR)
      | (rw [if_neg h17, if_neg (by omega)] at k
         first
         | (rw [if_neg (fun z => z.2 h68), if_pos h63] at k; exact k D' O' w' hR)
         | (rw [if_pos ⟨h63, h68⟩] at k; exact k D' O' w' hR)
         | (rw [if_neg (fun z => h63 z.1), if_neg h63] at k
            first
            | (rw [if_pos (by omega)] at k; exact k D' O' w' hR)
            | (rw [if_neg (by omega)] at k; exact k D' O' w' hR)))
  · refine wp_aload_n dX1_readRequest_20 rfl ?_
    refine wp_getR (hN.rlr hp) dX1_readRequest_21 fX1_122 (hN.sl hp) ?_
    refine wp_callV (as := []) (ls0 := [_]) (kc := 0) (ks := 0) (bc' := 0) (bs' := 0) dX1_readRequest_24 vX1_131 (hN.sr hp) rfl rfl (Nat.le_of_ble_eq_true rfl) (Nat.le_of_ble_eq_true rfl) (by omega) (by omega) ?_
    refine c_clearTable (hN.lk hp).sR hR (fun w hR => ?_)
    refine wp_aload_n dX1_readRequest_27 rfl ?_
    refine wp_aload_n dX1_readRequest_28 rfl ?_
    refine wp_iconst dX1_readRequest_29 ?_
    refine wp_callV (as := [_, _]) (ls0 := [_, _, _]) (kc := 0) (ks := 0) (bc' := 0) (bs' := 0) dX1_readRequest_30 vX1_134 hN.s38 rfl rfl (Nat.le_of_ble_eq_true rfl) (Nat.le_of_ble_eq_true rfl) (by omega) (by omega) ?_
    refine e_answer hN hp hR (fun w hR => ?_)
    have ec : wriF (clrF (stoF (up N (61 * p + 43) 0) p 1) p 1) p 1 (clrF (stoF (up N (61 * p + 43) 0) p 1) p 1 (61 * p + 45)) 0 (clrF (stoF (up N (61 * p + 43) 0) p 1) p 1 (61 * p + 49)) = clrF (rq1 N p) p 1 := by
      rw [show clrF (stoF (up N (61 * p + 43) 0) p 1) p 1 (61 * p + 45) = N (61 * p + 45) by unfold clrF; rw [mq1, up_n (by omega), up_n (by omega), e45], show clrF (stoF (up N (61 * p + 43) 0) p 1) p 1 (61 * p + 49) = N (61 * p + 49) by unfold clrF; rw [mq1, up_n (by omega), up_n (by omega), e49], ← rq1_eq]
      funext j
      unfold wriF clrF
      rw [mq1]
      simp only [up]
      repeat' split
      all_goals first | rfl | omega
    rw [ec] at hR
    refine wp_goto (tgt := 112) dX1_readRequest_33 rfl ?_
    refine wp_return dX1_readRequest_112 rfl ?_
    first
    | (exfalso; omega)
    | (rw [if_pos h17] at k; exact k D O w hR)
    | (rw [if_neg h17, if_pos (by omega)] at k; exact k D O w hR)
    | (rw [if_neg h17, if_neg (by omega)] at k
       first
       | (rw [if_neg (fun z => z.2 h68), if_pos h63] at k; exact k D' O' w' hR)
       | (rw [if_pos ⟨h63, h68⟩] at k; exact k D' O' w' hR)
       | (rw [if_neg (fun z => h63 z.1), if_neg h63] at k
          first
          | (rw [if_pos (by omega)] at k; exact k D' O' w' hR)
          | (rw [if_neg (by omega)] at k; exact k D' O' w' hR)))
end C10
