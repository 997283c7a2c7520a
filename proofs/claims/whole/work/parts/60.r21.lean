/-! ===== both tables agree ===== -/
def Agr (N : Int → Int) (p : Int) : Prop := (N (61 * p + 18) = N (61 * p + 25) ∧ N (61 * p + 26) = N (61 * p + 27)) ∧ ∀ i : Int, 0 ≤ i → i < N (61 * p + 18) → ¬ plc N p 1 (N (61 * p + (0 + i))) = -1
def AllA (F N : Int → Int) : Prop := ∀ p : Int, 0 ≤ p → p < F 13 → Agr N p
noncomputable def liN (E : aF) (F : Int → Int) : Nat → (Int → Int) → (Int → Int)
  | 0, N => N
  | m + 1, N => liN E F m (livF E F N)
/-- what a pair gets in the frames to come -/
noncomputable def gsm (E : aF) (F : Int → Int) (p : Int) : Nat → (Int → Int) → Int
  | 0, _ => 0
  | m + 1, N => gtn E F (preF E F N) p + gsm E F p m (livF E F N)
noncomputable def hlL (E : aF) (F : Int → Int) : Nat → Int → (Int → Int) → Int
  | 0, i, N => @ite _ (AllA F N) (Classical.propDecidable _) i (-1)
  | m + 1, i, N => @ite _ (AllA F N) (Classical.propDecidable _) i (hlL E F m (i + 1) (livF E F N))
def crL (N : Int → Int) : Nat → Int → Int → Int
  | 0, _, x => x
  | m + 1, p, x => crL N m (p + 1) (10 * x + N (61 * p + 18))
noncomputable def crw (F N : Int → Int) : Int := crL N (F 13).toNat 0 0
noncomputable def stR (c : Int → Int) : Nat → Int → Int
  | 0, _ => -1
  | m + 1, n => @ite _ (∀ k : Int, 1 ≤ k → k ≤ 40 → c (n + k) = c n) (Classical.propDecidable _) n (stR c m (n + 1))
noncomputable def cAt (E : aF) (F N : Int → Int) : Int → Int := fun i => crw F (liN E F i.toNat N)
/-- behind how many frames not all agree, a letter being lost ahead of one -/
noncomputable def hmS (E : aF) (F : Int → Int) (fr p k : Int) (N : Int → Int) : Int → Int := livF E F (if k = fr then up N (61 * p + 43) 0 else N)
noncomputable def hmN (E : aF) (F : Int → Int) (fr p : Int) : Nat → Int → (Int → Int) → Int
  | 0, _, _ => 0
  | m + 1, k, N => cn1 (¬ AllA F (hmS E F fr p k N)) + hmN E F fr p m (k + 1) (hmS E F fr p k N)
noncomputable def hmV (E : aF) (F N : Int → Int) (fr p : Int) : Int := if liN E F fr.toNat N (61 * p + 43) = 1 then hmN E F fr p 30 0 N else -1
noncomputable def hm2 (E : aF) (F N : Int → Int) (k : Int) : Nat → Int → Int × Int → Int × Int
  | 0, _, r => r
  | m + 1, p, r => hm2 E F N k m (p + 1) (if r.2 < hmV E F N k p then (10 * k + p, hmV E F N k p) else r)
noncomputable def hm1 (E : aF) (F N : Int → Int) : Nat → Int → Int × Int → Int × Int
  | 0, _, r => r
  | m + 1, k, r => hm1 E F N m (k + 1) (hm2 E F N k (F 13).toNat 0 r)
def drL : Nat → Int → (Int → Int) → (Int → Int)
  | 0, _, N => N
  | m + 1, p, N => drL m (p + 1) (up N (61 * p + 43) 0)
noncomputable def odR (E : aF) (F : Int → Int) (ch : Int) : Nat → (Int → Int) → Int → Int
  | 0, N, x => @ite _ (AllA F N) (Classical.propDecidable _) x 0
  | m + 1, N, x => odR E F ch m (livF E F N) (x - x * ch / 100) + odR E F ch m (livF E F (drL (F 13).toNat 0 N)) (x * ch / 100)
def Out (N M : Int → Int) : Prop := ∀ k : Int, k < 0 ∨ 369 ≤ k → M k = N k
section R21a
variable {E : aF} {F N M K : Int → Int} {p : Int}
theorem Out.rf : Out N N := fun _ _ => rfl
theorem Out.tr {L : Int → Int} (h : Out N M) (h2 : Out M L) : Out N L := fun k hk => (h2 k hk).trans (h k hk)
theorem Out.u {j v : Int} (h : Out N M) (hj : 0 ≤ j ∧ j < 369) : Out N (up M j v) := fun k hk => by rw [up_n (by omega)]; exact h k hk
theorem rdL_neg (hP : Prm E F) (m : Nat) : ∀ (p : Int) (N : Int → Int), 0 ≤ p → p + m = F 13 → Bok (E 5 0) (E 5 1) N → (0 ≤ N 368 ∧ N 368 ≤ 20000) → (∀ a : Int, p ≤ a → a < F 13 → LetOK N a) → ∀ j : Int, j < 0 → rdL E F m p N j = N j := by
  obtain ⟨hW1, hW2, hO1, hO2, hT1, hT2, hI1, hI2, hF1, hF2⟩ := id hP
  induction m with
  | zero => intro p N _ _ _ _ _ j _; rfl
  | succ m ih =>
    intro p N h0 hm hB hfr hlt j hj
    have hp : 0 ≤ p ∧ p < 6 := by omega
    have h1 := rdP_ok hB hp hP hfr (hlt p (by omega) (by omega))
    rw [rdL, ih (p + 1) (rdP E F N p) (by omega) (by omega) h1.1 (by rw [far_of h1.2 hp]; exact hfr) (fun a x y => (hlt a (by omega) y).loc h1.2 (by omega)) j hj, h1.2 j (by omega)]
theorem toL_neg {t : Int} (m : Nat) : ∀ (p : Int) (N : Int → Int), 0 ≤ p → Bok (E 5 0) (E 5 1) N → ∀ j : Int, j < 0 → toL t m p N j = N j := by
  induction m with
  | zero => intro p N _ _ j _; rfl
  | succ m ih => intro p N h0 hB j hj; have h1 := toS2_ok (t := t) (p := p) hB; rw [toL, ih _ _ (by omega) h1.1 j hj, h1.2 j (by omega)]
theorem s2L_neg {N1 : Int → Int} (hF : F 13 ≤ 6) (hB1 : Bok (E 5 0) (E 5 1) N1) (m : Nat) : ∀ (p : Int) (N : Int → Int), 0 ≤ p → p + m = F 13 → Bok (E 5 0) (E 5 1) N → Sam N N1 → (∀ a k : Int, p ≤ a → a < F 13 → 57 ≤ k → k < 61 → N (61 * a + k) = N1 (61 * a + k)) → ∀ j : Int, j < 0 → s2L E F N1 m p N j = N j := by
  induction m with
  | zero => intro p N _ _ _ _ _ j _; rfl
  | succ m ih =>
    intro p N h0 hm hB hS hk j hj
    have hp : 0 ≤ p ∧ p < 6 := ⟨h0, by omega⟩
    have hsp := sdv_r (N := N1) hB1 hp
    have k57' := hk p 57 (by omega) (by omega) (by omega) (by omega)
    have hc := sdN_ok (Q := Got E F N1 (sdv N1) p) (N1 := N1) hp (sdv N1 p).toNat 0 N (by omega) (by omega) (by omega) hB hS
    have hu2 := upF_ok (s := sdv N1 p) hc.1 hc.2.1 hp hsp.1
    rw [s2L, ih (p + 1) (s2P E F N1 N p) (by omega) (by omega) hu2.1 hu2.2.1 (fun a k x y z w => by unfold s2P; rw [hu2.2.2 _ (by omega), hc.2.2.1 _ (by omega)]; exact hk a k (by omega) y z w) j hj]
    unfold s2P; rw [hu2.2.2 j (by omega), hc.2.2.1 j (by omega)]
theorem wnL_neg (hP : Prm E F) (m : Nat) : ∀ (p : Int) (N : Int → Int), 0 ≤ p → p + m = F 13 → Bok (E 5 0) (E 5 1) N → (0 ≤ N 368 ∧ N 368 ≤ 20000) → ∀ j : Int, j < 0 → wnL E F m p N j = N j := by
  obtain ⟨hW1, hW2, hO1, hO2, hT1, hT2, hI1, hI2, hF1, hF2⟩ := id hP
  induction m with
  | zero => intro p N _ _ _ _ j _; rfl
  | succ m ih => intro p N h0 hm hB hfr j hj; have h1 := wnF_ok (p := p) (by omega) hP hB hfr; rw [wnL, ih _ _ (by omega) (by omega) h1.1 (by rw [h1.2 368 (by omega)]; exact hfr) j hj, h1.2 j (by omega)]
theorem Out.liv (hP : Prm E F) (h : Inv E F N) (hfr : N 368 ≤ 14000) : Out N (livF E F N) := fun k hk => by
  obtain ⟨hW1, hW2, hO1, hO2, hT1, hT2, hI1, hI2, hF1, hF2⟩ := id hP
  rcases hk with hk | hk
  · obtain ⟨⟨b1, j1, p1⟩, ⟨b2, j2, p2, u2⟩, b4, j4, p4, u4⟩ := Inv.mid hP h hfr
    obtain ⟨hB, hPI, hj, ha, h0, hU⟩ := h
    have q1 := rdL_neg hP (F 13).toNat 0 N (by omega) (by omega) hB (by omega) (fun a x y => (hPI a (by omega) y).1) k hk
    have q2 := toL_neg (E := E) (t := E 5 2) (F 13).toNat 0 _ (by omega) b1 k hk
    have q3 : preF E F N k = toL (E 5 2) (F 13).toNat 0 (rdL E F (F 13).toNat 0 N) k := quL_n _ _ _ _ (fun a x y => by omega)
    have hB3 : Bok (E 5 0) (E 5 1) (preF E F N) := Bok.bquL (F 13).toNat 0 _ (by omega) (by omega) b2
    have q4 := s2L_neg (F := F) hF2 hB3 (F 13).toNat 0 _ (by omega) (by omega) hB3 Sam.rf (fun _ _ _ _ _ _ => rfl) k hk
    rw [livF_eq, up_n (by omega)]
    split
    · rw [wnL_neg hP _ _ _ (by omega) (by omega) b4 (by rw [j4 368 (by omega)]; omega) k hk, q4, q3, q2, q1]
    · rw [q4, q3, q2, q1]
  · exact (Inv.liv hP h hfr).2.2 k (by omega) (by omega)
theorem Inv.drop (h : Inv E F N) (hP : Prm E F) (hp : 0 ≤ p ∧ p < 6) : Inv E F (up N (61 * p + 43) 0) := by
  obtain ⟨hW1, hW2, hO1, hO2, hT1, hT2, hI1, hI2, hF1, hF2⟩ := id hP
  obtain ⟨hB, hPI, hj, ha, h0, hU⟩ := h
  refine ⟨bok43 hB, fun a x y => ?_, ?_, ?_, ?_, fun a x y => ?_⟩
  · by_cases e : a = p
    · rw [e]; exact (hPI p hp.1 (by omega)).drop hB hp
    · exact (hPI a x y).cg hB (by omega) (fun k hk => up_n (by omega))
  · rw [up_n (by omega)]; exact hj
  · rw [up_n (by omega)]; exact ha
  · rw [up_n (by omega)]; exact h0
  · rw [up_n (by omega), up_n (by omega), up_n (by omega)]; exact hU a x y
theorem drL_ok (hP : Prm E F) (m : Nat) : ∀ (p : Int) (N : Int → Int), 0 ≤ p → p + m ≤ 6 → Inv E F N → Inv E F (drL m p N) ∧ Out N (drL m p N) ∧ drL m p N 368 = N 368 := by
  induction m with
  | zero => intro p N _ _ h; exact ⟨h, Out.rf, rfl⟩
  | succ m ih => intro p N h0 hm h; have h1 := ih (p + 1) _ (by omega) (by omega) (h.drop (p := p) hP (by omega)); exact ⟨h1.1, (Out.rf.u (by omega)).tr h1.2.1, by rw [drL, h1.2.2, up_n (by omega)]⟩
theorem back_eq {off : Int} (h : Out N M) : cpR M (cpW K N off 369) off 369 = N := by
  funext k
  unfold cpR
  by_cases e : 0 ≤ k ∧ k < 369
  · rw [if_pos e]; unfold cpW; rw [if_pos (by omega), show off + k - off = k by omega]
  · rw [if_neg e]; exact h k (by omega)
theorem cpR_c {K' : Int → Int} {off c : Int} (h : ∀ z : Int, off ≤ z → z < off + c → K' z = K z) : cpR M K' off c = cpR M K off c := by
  funext k
  unfold cpR
  split
  · exact h _ (by omega) (by omega)
  · rfl
theorem sdC_q {Q : Int → Prop} (m : Nat) : ∀ i : Int, 0 ≤ sdC Q N p m i ∧ sdC Q N p m i ≤ m := by
  induction m with
  | zero => intro i; exact ⟨Int.le_refl _, Int.le_refl _⟩
  | succ m ih => intro i; rw [sdC]; have := ih (i + 1); split <;> omega
theorem gtn_r (hB : Bok (E 5 0) (E 5 1) N) (hp : 0 ≤ p ∧ p < 6) : 0 ≤ gtn E F N p ∧ gtn E F N p ≤ 6 := by
  have h1 := sdC_q (Q := Got E F N (sdv N) p) (N := N) (p := p) (sdv N p).toNat 0
  have h2 := sdv_r hB hp
  unfold gtn; omega
theorem Bts.x0 {x : Int} {Q : Int → Prop} {n : Int} (h : Bts x (Blw Q n)) (hn : n ≤ 16) : x = 0 ↔ ∀ s : Int, 0 ≤ s → s < n → ¬ Q s := by
  constructor
  · intro e s h0 h1 hq
    have := (h.2.2 s h0 (by omega)).mpr ⟨h0, h1, hq⟩
    rw [e] at this
    exact ((Bts.zero).2.2 s h0 (by omega)).mp this
  · intro hs
    exact h.ext (Bts.zero.cg (fun s _ _ => ⟨False.elim, fun z => hs s z.1 z.2.1 z.2.2⟩))
end R21a
section R21
variable {d : Nat} {iv lw : aF} {F N G O T S K : Int → Int} {R : aPost}
theorem l_da0 {p : Int} (hp : 0 ≤ p ∧ p < 6) (hB : Bok (iv 5 0) (iv 5 1) N) (kf : R (some (aI 0)) SHR (ST iv F N G O T S) lw RVR) (m : Nat) : ∀ i : Int, 0 ≤ i → i + m = N (61 * p + 18) → wp (d + 3) mX12_doesAgree 42 [some (aR 0), some (aI p), some (aI 0), some (aI i)] [] SHR (ST iv F N G O T S) lw RVR 0 0 R := by
  have h18 := hB.v18 hp
  induction m with
  | zero =>
    intro i h0 hm
    refine wp_iload_n dX12_doesAgree_42 rfl ?_
    refine wp_aload_n dX12_doesAgree_43 rfl ?_
    refine wp_iload_n dX12_doesAgree_44 rfl ?_
    refine wp_bipush dX12_doesAgree_45 ?_
    refine wp_callV (as := [_, _]) (ls0 := [_, _, _]) (kc := 0) (ks := 0) (bc' := 0) (bs' := 0) dX12_doesAgree_47 vX12_161 rfl rfl rfl (Nat.le_of_ble_eq_true rfl) (Nat.le_of_ble_eq_true rfl) (by omega) (by omega) ?_
    refine s_of (by omega) (by omega) ?_
    refine wp_icmp_ge (tgt := 86) dX12_doesAgree_50 rfl (fun h50 => ?_) (fun h50 => by exfalso; omega)
    refine wp_iload_n dX12_doesAgree_86 rfl ?_
    refine wp_zreturn dX12_doesAgree_87 rfl (Or.inl rfl) ?_
    exact kf
  | succ m ih =>
    intro i h0 hm
    refine wp_iload_n dX12_doesAgree_42 rfl ?_
    refine wp_aload_n dX12_doesAgree_43 rfl ?_
    refine wp_iload_n dX12_doesAgree_44 rfl ?_
    refine wp_bipush dX12_doesAgree_45 ?_
    refine wp_callV (as := [_, _]) (ls0 := [_, _, _]) (kc := 0) (ks := 0) (bc' := 0) (bs' := 0) dX12_doesAgree_47 vX12_161 rfl rfl rfl (Nat.le_of_ble_eq_true rfl) (Nat.le_of_ble_eq_true rfl) (by omega) (by omega) ?_
    refine s_of (by omega) (by omega) ?_
    refine wp_icmp_ge (tgt := 86) dX12_doesAgree_50 rfl (fun h50 => by exfalso; omega) (fun h50 => ?_)
    refine wp_iload_n dX12_doesAgree_53 rfl ?_
    refine wp_if_eq (tgt := 78) dX12_doesAgree_54 rfl (fun _ => ?_) (fun q => absurd q (by decide))
    refine wp_iconst dX12_doesAgree_78 ?_
    refine wp_istore_n (ls' := [_, _, _, _]) dX12_doesAgree_79 (by decide) rfl rfl ?_
    refine wp_iinc (ls' := [_, _, _, _]) dX12_doesAgree_80 (by decide) rfl rfl ⟨by omega, by omega⟩ rfl ?_
    refine wp_goto (tgt := 42) dX12_doesAgree_83 rfl ?_
    exact ih _ (by omega) (by omega)
theorem l_da1 {p : Int} (hp : 0 ≤ p ∧ p < 6) (hB : Bok (iv 5 0) (iv 5 1) N) (hb : N (61 * p + 18) = N (61 * p + 25) ∧ N (61 * p + 26) = N (61 * p + 27)) (kt : Agr N p → R (some (aI 1)) SHR (ST iv F N G O T S) lw RVR) (kf : ¬ Agr N p → R (some (aI 0)) SHR (ST iv F N G O T S) lw RVR) (m : Nat) : ∀ i : Int, 0 ≤ i → i + m = N (61 * p + 18) → (∀ j : Int, 0 ≤ j → j < i → ¬ plc N p 1 (N (61 * p + (0 + j))) = -1) → wp (d + 3) mX12_doesAgree 42 [some (aR 0), some (aI p), some (aI 1), some (aI i)] [] SHR (ST iv F N G O T S) lw RVR 0 0 R := by
  have h18 := hB.v18 hp
  induction m with
  | zero =>
    intro i h0 hm ha
    refine wp_iload_n dX12_doesAgree_42 rfl ?_
    refine wp_aload_n dX12_doesAgree_43 rfl ?_
    refine wp_iload_n dX12_doesAgree_44 rfl ?_
    refine wp_bipush dX12_doesAgree_45 ?_
    refine wp_callV (as := [_, _]) (ls0 := [_, _, _]) (kc := 0) (ks := 0) (bc' := 0) (bs' := 0) dX12_doesAgree_47 vX12_161 rfl rfl rfl (Nat.le_of_ble_eq_true rfl) (Nat.le_of_ble_eq_true rfl) (by omega) (by omega) ?_
    refine s_of (by omega) (by omega) ?_
    refine wp_icmp_ge (tgt := 86) dX12_doesAgree_50 rfl (fun h50 => ?_) (fun h50 => by exfalso; omega)
    refine wp_iload_n dX12_doesAgree_86 rfl ?_
    refine wp_zreturn dX12_doesAgree_87 rfl (Or.inr rfl) ?_
    exact kt ⟨hb, fun j x y => ha j x (by omega)⟩
  | succ m ih =>
    intro i h0 hm ha
    refine wp_iload_n dX12_doesAgree_42 rfl ?_
    refine wp_aload_n dX12_doesAgree_43 rfl ?_
    refine wp_iload_n dX12_doesAgree_44 rfl ?_
    refine wp_bipush dX12_doesAgree_45 ?_
    refine wp_callV (as := [_, _]) (ls0 := [_, _, _]) (kc := 0) (ks := 0) (bc' := 0) (bs' := 0) dX12_doesAgree_47 vX12_161 rfl rfl rfl (Nat.le_of_ble_eq_true rfl) (Nat.le_of_ble_eq_true rfl) (by omega) (by omega) ?_
    refine s_of (by omega) (by omega) ?_
    refine wp_icmp_ge (tgt := 86) dX12_doesAgree_50 rfl (fun h50 => by exfalso; omega) (fun h50 => ?_)
    refine wp_iload_n dX12_doesAgree_53 rfl ?_
    refine wp_if_eq (tgt := 78) dX12_doesAgree_54 rfl (fun q => absurd q (by decide)) (fun _ => ?_)
    refine wp_aload_n dX12_doesAgree_57 rfl ?_
    refine wp_iload_n dX12_doesAgree_58 rfl ?_
    refine wp_iconst dX12_doesAgree_59 ?_
    refine wp_aload_n dX12_doesAgree_60 rfl ?_
    refine wp_iload_n dX12_doesAgree_61 rfl ?_
    refine wp_iconst dX12_doesAgree_62 ?_
    refine wp_iload_n dX12_doesAgree_63 rfl ?_
    refine wp_callV (as := [_, _, _]) (ls0 := [_, _, _, _]) (kc := 0) (ks := 0) (bc' := 0) (bs' := 0) dX12_doesAgree_64 vX12_167 rfl rfl rfl (Nat.le_of_ble_eq_true rfl) (Nat.le_of_ble_eq_true rfl) (by omega) (by omega) ?_
    refine s_cellOf (by omega) (by omega) (by omega) ?_
    refine wp_callV (as := [_, _, _]) (ls0 := [_, _, _, _, _]) (kc := 0) (ks := 0) (bc' := 0) (bs' := 0) dX12_doesAgree_67 vX12_171 rfl rfl rfl (Nat.le_of_ble_eq_true rfl) (Nat.le_of_ble_eq_true rfl) (by omega) (by omega) ?_
    refine s_placeIn hp (Or.inr rfl) (hB.mny hp (Or.inr rfl)) ?_
    refine wp_iconst dX12_doesAgree_70 ?_
    refine wp_icmp_eq (tgt := 78) dX12_doesAgree_71 rfl (fun h71 => ?_) (fun h71 => ?_)
    · have hno : ¬ Agr N p := fun z => z.2 i h0 (by omega) h71
      refine wp_iconst dX12_doesAgree_78 ?_
      refine wp_istore_n (ls' := [_, _, _, _]) dX12_doesAgree_79 (by decide) rfl rfl ?_
      refine wp_iinc (ls' := [_, _, _, _]) dX12_doesAgree_80 (by decide) rfl rfl ⟨by omega, by omega⟩ rfl ?_
      refine wp_goto (tgt := 42) dX12_doesAgree_83 rfl ?_
      first
      | exact ih _ (by omega) (by omega) (fun j x y => by
          by_cases e : j = i
          · rw [e]; exact hye
          · exact ha j x (by omega))
      | exact l_da0 hp hB (kf hno) m _ (by omega) (by omega)
    · have hye := h71
      refine wp_iconst dX12_doesAgree_74 ?_
      refine wp_goto (tgt := 79) dX12_doesAgree_75 rfl ?_
      refine wp_istore_n (ls' := [_, _, _, _]) dX12_doesAgree_79 (by decide) rfl rfl ?_
      refine wp_iinc (ls' := [_, _, _, _]) dX12_doesAgree_80 (by decide) rfl rfl ⟨by omega, by omega⟩ rfl ?_
      refine wp_goto (tgt := 42) dX12_doesAgree_83 rfl ?_
      first
      | exact ih _ (by omega) (by omega) (fun j x y => by
          by_cases e : j = i
          · rw [e]; exact hye
          · exact ha j x (by omega))
      | exact l_da0 hp hB (kf hno) m _ (by omega) (by omega)
theorem s_doesAgree {p : Int} (hp : 0 ≤ p ∧ p < 6) (hB : Bok (iv 5 0) (iv 5 1) N) (kt : Agr N p → R (some (aI 1)) SHR (ST iv F N G O T S) lw RVR) (kf : ¬ Agr N p → R (some (aI 0)) SHR (ST iv F N G O T S) lw RVR) : wp (d + 3) mX12_doesAgree 0 [some (aR 0), some (aI p), none, none] [] SHR (ST iv F N G O T S) lw RVR 0 0 R := by
  have h18 := hB.v18 hp
  refine wp_aload_n dX12_doesAgree_0 rfl ?_
  refine wp_iload_n dX12_doesAgree_1 rfl ?_
  refine wp_bipush dX12_doesAgree_2 ?_
  refine wp_callV (as := [_, _]) (ls0 := [_, _, _]) (kc := 0) (ks := 0) (bc' := 0) (bs' := 0) dX12_doesAgree_4 vX12_161 rfl rfl rfl (Nat.le_of_ble_eq_true rfl) (Nat.le_of_ble_eq_true rfl) (by omega) (by omega) ?_
  refine s_of (by omega) (by omega) ?_
  refine wp_aload_n dX12_doesAgree_7 rfl ?_
  refine wp_iload_n dX12_doesAgree_8 rfl ?_
  refine wp_bipush dX12_doesAgree_9 ?_
  refine wp_callV (as := [_, _]) (ls0 := [_, _, _]) (kc := 0) (ks := 0) (bc' := 0) (bs' := 0) dX12_doesAgree_11 vX12_161 rfl rfl rfl (Nat.le_of_ble_eq_true rfl) (Nat.le_of_ble_eq_true rfl) (by omega) (by omega) ?_
  refine s_of (by omega) (by omega) ?_
  refine wp_icmp_ne (tgt := 38) dX12_doesAgree_14 rfl (fun h14 => ?_) (fun h14 => ?_)
  · refine wp_iconst dX12_doesAgree_38 ?_
    refine wp_istore_n (ls' := [_, _, _, _]) dX12_doesAgree_39 (by decide) rfl rfl ?_
    refine wp_iconst dX12_doesAgree_40 ?_
    refine wp_istore_n (ls' := [_, _, _, _]) dX12_doesAgree_41 (by decide) rfl rfl ?_
    first
    | exact l_da1 hp hB ⟨by omega, by omega⟩ kt kf (N (61 * p + 18)).toNat 0 (by omega) (by omega) (fun j x y => by omega)
    | exact l_da0 hp hB (kf (fun z => by have := z.1; omega)) (N (61 * p + 18)).toNat 0 (by omega) (by omega)
  · refine wp_aload_n dX12_doesAgree_17 rfl ?_
    refine wp_iload_n dX12_doesAgree_18 rfl ?_
    refine wp_bipush dX12_doesAgree_19 ?_
    refine wp_callV (as := [_, _]) (ls0 := [_, _, _]) (kc := 0) (ks := 0) (bc' := 0) (bs' := 0) dX12_doesAgree_21 vX12_161 rfl rfl rfl (Nat.le_of_ble_eq_true rfl) (Nat.le_of_ble_eq_true rfl) (by omega) (by omega) ?_
    refine s_of (by omega) (by omega) ?_
    refine wp_aload_n dX12_doesAgree_24 rfl ?_
    refine wp_iload_n dX12_doesAgree_25 rfl ?_
    refine wp_bipush dX12_doesAgree_26 ?_
    refine wp_callV (as := [_, _]) (ls0 := [_, _, _]) (kc := 0) (ks := 0) (bc' := 0) (bs' := 0) dX12_doesAgree_28 vX12_161 rfl rfl rfl (Nat.le_of_ble_eq_true rfl) (Nat.le_of_ble_eq_true rfl) (by omega) (by omega) ?_
    refine s_of (by omega) (by omega) ?_
    refine wp_icmp_ne (tgt := 38) dX12_doesAgree_31 rfl (fun h31 => ?_) (fun h31 => ?_)
    · refine wp_iconst dX12_doesAgree_38 ?_
      refine wp_istore_n (ls' := [_, _, _, _]) dX12_doesAgree_39 (by decide) rfl rfl ?_
      refine wp_iconst dX12_doesAgree_40 ?_
      refine wp_istore_n (ls' := [_, _, _, _]) dX12_doesAgree_41 (by decide) rfl rfl ?_
      first
      | exact l_da1 hp hB ⟨by omega, by omega⟩ kt kf (N (61 * p + 18)).toNat 0 (by omega) (by omega) (fun j x y => by omega)
      | exact l_da0 hp hB (kf (fun z => by have := z.1; omega)) (N (61 * p + 18)).toNat 0 (by omega) (by omega)
    · refine wp_iconst dX12_doesAgree_34 ?_
      refine wp_goto (tgt := 39) dX12_doesAgree_35 rfl ?_
      refine wp_istore_n (ls' := [_, _, _, _]) dX12_doesAgree_39 (by decide) rfl rfl ?_
      refine wp_iconst dX12_doesAgree_40 ?_
      refine wp_istore_n (ls' := [_, _, _, _]) dX12_doesAgree_41 (by decide) rfl rfl ?_
      first
      | exact l_da1 hp hB ⟨by omega, by omega⟩ kt kf (N (61 * p + 18)).toNat 0 (by omega) (by omega) (fun j x y => by omega)
      | exact l_da0 hp hB (kf (fun z => by have := z.1; omega)) (N (61 * p + 18)).toNat 0 (by omega) (by omega)
theorem l_atOdds (hP : Prm iv F) (hB : Bok (iv 5 0) (iv 5 1) N) (k : ∀ x, Bts x (Blw (fun p => ¬ Agr N p) (F 13)) → R (some (aI x)) SHR (ST iv F N G O T S) lw RVR) (m : Nat) : ∀ p x : Int, 0 ≤ p → p + m = F 13 → Bts x (Blw (fun p => ¬ Agr N p) p) → wp (d + 4) mX12_atOdds 4 [some (aR 0), some (aI x), some (aI p)] [] SHR (ST iv F N G O T S) lw RVR 0 0 R := by
  obtain ⟨hW1, hW2, hO1, hO2, hT1, hT2, hI1, hI2, hF1, hF2⟩ := id hP
  induction m with
  | zero =>
    intro p x h0 hm hx
    refine wp_iload_n dX12_atOdds_4 rfl ?_
    refine wp_aload_n dX12_atOdds_5 rfl ?_
    refine wp_getI dX12_atOdds_6 fX12_138 rfl ?_
    try simp only [ST0, ST5, ST6, ST7, ST8, ST10, ST11, ST12, ST13]
    refine wp_icmp_ge (tgt := 36) dX12_atOdds_9 rfl (fun h9 => ?_) (fun h9 => by exfalso; omega)
    refine wp_iload_n dX12_atOdds_36 rfl ?_
    refine wp_ireturn dX12_atOdds_37 rfl ?_
    exact k _ (by rw [show F 13 = p by omega]; exact hx)
  | succ m ih =>
    intro p x h0 hm hx
    have hx1 := hx.1
    have h2 := p2_r (k := p) (by omega)
    refine wp_iload_n dX12_atOdds_4 rfl ?_
    refine wp_aload_n dX12_atOdds_5 rfl ?_
    refine wp_getI dX12_atOdds_6 fX12_138 rfl ?_
    try simp only [ST0, ST5, ST6, ST7, ST8, ST10, ST11, ST12, ST13]
    refine wp_icmp_ge (tgt := 36) dX12_atOdds_9 rfl (fun h9 => by exfalso; omega) (fun h9 => ?_)
    refine wp_iload_n dX12_atOdds_12 rfl ?_
    refine wp_aload_n dX12_atOdds_13 rfl ?_
    refine wp_iload_n dX12_atOdds_14 rfl ?_
    refine wp_callV (as := [_]) (ls0 := [_, _, _, _]) (kc := 0) (ks := 0) (bc' := 0) (bs' := 0) dX12_atOdds_15 vX12_354 rfl rfl rfl (Nat.le_of_ble_eq_true rfl) (Nat.le_of_ble_eq_true rfl) (by omega) (by omega) ?_
    refine s_doesAgree (by omega) hB (fun h15 => ?_) (fun h15 => ?_)
    · refine wp_if_eq (tgt := 25) dX12_atOdds_18 rfl (fun q => absurd q (by decide)) (fun _ => ?_)
      refine wp_iconst dX12_atOdds_21 ?_
      refine wp_goto (tgt := 28) dX12_atOdds_22 rfl ?_
      refine wp_ior dX12_atOdds_28 (by omega) (by omega) ?_
      refine wp_istore_n (ls' := [_, _, _]) dX12_atOdds_29 (by decide) rfl rfl ?_
      refine wp_iinc (ls' := [_, _, _]) dX12_atOdds_30 (by decide) rfl rfl ⟨by omega, by omega⟩ rfl ?_
      refine wp_goto (tgt := 4) dX12_atOdds_33 rfl ?_
      exact ih _ _ (by omega) (by omega) (by first | exact hx.bf0 (fun z => z h15) rfl | exact hx.bt (by omega) h15)
    · refine wp_if_eq (tgt := 25) dX12_atOdds_18 rfl (fun _ => ?_) (fun q => absurd q (by decide))
      refine wp_iconst dX12_atOdds_25 ?_
      refine wp_iload_n dX12_atOdds_26 rfl ?_
      refine wp_ishl dX12_atOdds_27 (by omega) (by omega) (by exact ⟨by omega, by omega⟩) ?_
      refine wp_ior dX12_atOdds_28 (by omega) (by omega) ?_
      refine wp_istore_n (ls' := [_, _, _]) dX12_atOdds_29 (by decide) rfl rfl ?_
      refine wp_iinc (ls' := [_, _, _]) dX12_atOdds_30 (by decide) rfl rfl ⟨by omega, by omega⟩ rfl ?_
      refine wp_goto (tgt := 4) dX12_atOdds_33 rfl ?_
      exact ih _ _ (by omega) (by omega) (by first | exact hx.bf0 (fun z => z h15) rfl | exact hx.bt (by omega) h15)
theorem s_atOdds (hP : Prm iv F) (hB : Bok (iv 5 0) (iv 5 1) N) (k : ∀ x, Bts x (Blw (fun p => ¬ Agr N p) (F 13)) → R (some (aI x)) SHR (ST iv F N G O T S) lw RVR) : wp (d + 4) mX12_atOdds 0 [some (aR 0), none, none] [] SHR (ST iv F N G O T S) lw RVR 0 0 R := by
  obtain ⟨hW1, hW2, hO1, hO2, hT1, hT2, hI1, hI2, hF1, hF2⟩ := id hP
  refine wp_iconst dX12_atOdds_0 ?_
  refine wp_istore_n (ls' := [_, _, _]) dX12_atOdds_1 (by decide) rfl rfl ?_
  refine wp_iconst dX12_atOdds_2 ?_
  refine wp_istore_n (ls' := [_, _, _]) dX12_atOdds_3 (by decide) rfl rfl ?_
  exact l_atOdds hP hB k (F 13).toNat _ _ (by omega) (by omega) Bts.b0
/-- as a question -/
theorem s_atOdds0 (hP : Prm iv F) (hB : Bok (iv 5 0) (iv 5 1) N) (k : ∀ x, (x = 0 ↔ AllA F N) → R (some (aI x)) SHR (ST iv F N G O T S) lw RVR) : wp (d + 4) mX12_atOdds 0 [some (aR 0), none, none] [] SHR (ST iv F N G O T S) lw RVR 0 0 R := by
  obtain ⟨hW1, hW2, hO1, hO2, hT1, hT2, hI1, hI2, hF1, hF2⟩ := id hP
  refine s_atOdds hP hB (fun x hx => k x ((hx.x0 (by omega)).trans ⟨fun h p a b => Classical.not_not.mp (h p a b), fun h p a b z => z (h p a b)⟩))
theorem s_agree {p : Int} (hT : Tld iv F N) (k0 : ¬ (0 ≤ p ∧ p < F 13) → R (some (aI (-1))) SHR (ST iv F N G O T S) lw RVR) (kt : (0 ≤ p ∧ p < F 13) → Agr N p → R (some (aI 1)) SHR (ST iv F N G O T S) lw RVR) (kf : (0 ≤ p ∧ p < F 13) → ¬ Agr N p → R (some (aI 0)) SHR (ST iv F N G O T S) lw RVR) : wp (d + 4) mX12_agree 0 [some (aR 0), some (aI p)] [] SHR (ST iv F N G O T S) lw RVR 0 0 R := by
  obtain ⟨hr, hP2, h9, h8, hc, h25, hT2⟩ := id hT
  refine wp_aload_n dX12_agree_0 rfl ?_
  refine wp_iload_n dX12_agree_1 rfl ?_
  refine wp_callV (as := [_]) (ls0 := [_, _]) (kc := 0) (ks := 0) (bc' := 0) (bs' := 0) dX12_agree_2 vX12_313 rfl rfl rfl (Nat.le_of_ble_eq_true rfl) (Nat.le_of_ble_eq_true rfl) (by omega) (by omega) ?_
  refine s_isPair (by omega) (fun h2 => ?_) (fun h2 => ?_)
  · obtain ⟨hP, hI⟩ := hT2 (by omega)
    have hB := hI.1
    refine wp_if_ne (tgt := 12) dX12_agree_5 rfl (fun _ => ?_) (fun q => absurd q (by decide))
    refine wp_aload_n dX12_agree_12 rfl ?_
    refine wp_iload_n dX12_agree_13 rfl ?_
    refine wp_callV (as := [_]) (ls0 := [_, _, _, _]) (kc := 0) (ks := 0) (bc' := 0) (bs' := 0) dX12_agree_14 vX12_354 rfl rfl rfl (Nat.le_of_ble_eq_true rfl) (Nat.le_of_ble_eq_true rfl) (by omega) (by omega) ?_
    refine s_doesAgree (by omega) hB (fun h14 => ?_) (fun h14 => ?_)
    · refine wp_if_eq (tgt := 24) dX12_agree_17 rfl (fun q => absurd q (by decide)) (fun _ => ?_)
      refine wp_iconst dX12_agree_20 ?_
      refine wp_goto (tgt := 25) dX12_agree_21 rfl ?_
      refine wp_ireturn dX12_agree_25 rfl ?_
      exact kt h2 h14
    · refine wp_if_eq (tgt := 24) dX12_agree_17 rfl (fun _ => ?_) (fun q => absurd q (by decide))
      refine wp_iconst dX12_agree_24 ?_
      refine wp_ireturn dX12_agree_25 rfl ?_
      exact kf h2 h14
  · refine wp_if_ne (tgt := 12) dX12_agree_5 rfl (fun q => absurd q (by decide)) (fun _ => ?_)
    refine wp_iconst dX12_agree_8 ?_
    refine wp_goto (tgt := 25) dX12_agree_9 rfl ?_
    refine wp_ireturn dX12_agree_25 rfl ?_
    exact k0 h2
theorem s_liveI (hP : Prm iv F) (hP2 : Prm2 iv F) (hI : Inv iv F N) (hfr : N 368 ≤ 14000) (k : ∀ (F3 G' O' T' S' : Int → Int), (∀ j : Int, ¬ j = 19 → ¬ j = 22 → F3 j = F j) → (∀ a : Int, 0 ≤ a → a < F 13 → 0 ≤ G a → G a ≤ 1000000000 → G' a = G a + gtn iv F (preF iv F N) a) → R none SHR (ST iv F3 (livF iv F N) G' O' T' S') lw RVR) : wp (d + 8) mX12_live 0 [some (aR 0), none] [] SHR (ST iv F N G O T S) lw RVR 0 0 R := by
  obtain ⟨hB, hPI, hj, ha, h0, hU⟩ := hI
  exact s_live hP hP2 hB (by omega) (by omega) (fun a x y => (hPI a x y).1) (fun a x y => by have := hU a x y; omega) (fun F3 G' O' T' S' f1 _ f3 => k F3 G' O' T' S' f1 f3)
theorem F3q {F3 : Int → Int} (f1 : ∀ j : Int, ¬ j = 19 → ¬ j = 22 → F3 j = F j) : EqP iv iv F F3 ∧ EqF F F3 := ⟨EqP.f1 (fun j hj => f1 j (by omega) (by omega)), fun j hj => f1 j (by omega) (by omega)⟩
theorem AllA_q {F3 : Int → Int} (h : F3 13 = F 13) : AllA F3 N ↔ AllA F N := by unfold AllA; rw [h]
theorem liN_q {E E' : aF} {F F' : Int → Int} (h : EqP E E' F F') (m : Nat) : ∀ N : Int → Int, liN E' F' m N = liN E F m N := by
  induction m with
  | zero => intro N; rfl
  | succ m ih => intro N; rw [liN, liN, livF_q h, ih]
theorem gsm_q {E E' : aF} {F F' : Int → Int} {p : Int} (h : EqP E E' F F') (m : Nat) : ∀ N : Int → Int, gsm E' F' p m N = gsm E F p m N := by
  induction m with
  | zero => intro N; rfl
  | succ m ih => intro N; rw [gsm, gsm, livF_q h, preF_q h, gtn_q h, ih]
theorem hlL_q {E E' : aF} {F F' : Int → Int} (h : EqP E E' F F') (m : Nat) : ∀ (i : Int) (N : Int → Int), hlL E' F' m i N = hlL E F m i N := by
  induction m with
  | zero => intro i N; rw [hlL, hlL, show AllA F' N = AllA F N from propext (AllA_q h.2.2.2.1)]
  | succ m ih => intro i N; rw [hlL, hlL, livF_q h, ih, show AllA F' N = AllA F N from propext (AllA_q h.2.2.2.1)]
noncomputable def aComes (iv : aF) (F N : Int → Int) (p n w : Int) : Int := if ¬ (0 ≤ p ∧ p < F 13) then -1 else if ¬ (0 ≤ n ∧ n ≤ 60) then -1 else if ¬ (0 ≤ w ∧ w ≤ 2) then -1 else if w = 0 then gsm iv F p n.toNat N else if w = 1 then liN iv F n.toNat N (61 * p + 57) else liN iv F n.toNat N (61 * p + 18)
theorem l_comes {p n w : Int} (m : Nat) : ∀ (i : Int) (F N G O T S : Int → Int), 0 ≤ i → i + m = n → (0 ≤ p ∧ p < F 13) → Prm iv F → Prm2 iv F → Inv iv F N → N 368 + m ≤ 14000 → n ≤ 60 → 0 ≤ G p → G p ≤ 1000 + 6 * i → (∀ (F' G' O' T' S' : Int → Int), EqF F F' → G' p = G p + gsm iv F p m N → Inv iv F (liN iv F m N) → Out N (liN iv F m N) → wp (d + 9) mX12_comes 60 [some (aR 0), some (aI p), some (aI n), some (aI w), some (aI n)] [] SHR (ST iv F' (liN iv F m N) G' O' T' S') lw RVR 0 0 R) → wp (d + 9) mX12_comes 44 [some (aR 0), some (aI p), some (aI n), some (aI w), some (aI i)] [] SHR (ST iv F N G O T S) lw RVR 0 0 R := by
  induction m with
  | zero =>
    intro i F N G O T S h0 hm hp hP hP2 hI hf hn hG0 hG k
    rw [show i = n by omega]
    refine wp_iload dX12_comes_44 rfl ?_
    refine wp_iload_n dX12_comes_46 rfl ?_
    refine wp_icmp_ge (tgt := 60) dX12_comes_47 rfl (fun h47 => ?_) (fun h47 => by exfalso; omega)
    exact k F G O T S EqF.rf (by rw [gsm]; omega) hI Out.rf
  | succ m ih =>
    intro i F N G O T S h0 hm hp hP hP2 hI hf hn hG0 hG k
    have hF6 : F 13 ≤ 6 := hP.2.2.2.2.2.2.2.2.2
    have hL := Inv.liv hP hI (by omega)
    have hO := Out.liv hP hI (by omega)
    have hB3 : Bok (iv 5 0) (iv 5 1) (preF iv F N) := Bok.bquL (F 13).toNat 0 _ (by omega) (by omega) (Inv.mid hP hI (by omega)).2.1.1
    have hgr := gtn_r (F := F) (p := p) hB3 (by omega)
    refine wp_iload dX12_comes_44 rfl ?_
    refine wp_iload_n dX12_comes_46 rfl ?_
    refine wp_icmp_ge (tgt := 60) dX12_comes_47 rfl (fun h47 => by exfalso; omega) (fun h47 => ?_)
    refine wp_aload_n dX12_comes_50 rfl ?_
    refine wp_callV (as := []) (ls0 := [_, _]) (kc := 0) (ks := 0) (bc' := 0) (bs' := 0) dX12_comes_51 vX12_299 rfl rfl rfl (Nat.le_of_ble_eq_true rfl) (Nat.le_of_ble_eq_true rfl) (by omega) (by omega) ?_
    refine s_liveI hP hP2 hI (by omega) (fun F3 G3 O3 T3 S3 f1 f3 => ?_)
    have q3 := F3q (iv := iv) f1
    have g3 := f3 p hp.1 hp.2 hG0 (by omega)
    refine wp_iinc (ls' := [_, _, _, _, _]) dX12_comes_54 (by decide) rfl rfl ⟨by omega, by omega⟩ rfl ?_
    refine wp_goto (tgt := 44) dX12_comes_57 rfl ?_
    refine ih _ _ _ _ _ _ _ (by omega) (by omega) (by rw [q3.1.2.2.2.1]; exact hp) (Prm_q q3.1 hP) (Prm2_q q3.1 hP2) (Inv_q q3.1 hL.1) (by rw [hL.2.1]; omega) hn (by omega) (by omega) (fun F' G' O' T' S' e1 e2 e3 e4 => ?_)
    rw [liN_q q3.1] at e3 e4 ⊢
    rw [gsm_q q3.1] at e2
    exact k F' G' O' T' S' (q3.2.tr e1) (by rw [gsm]; omega) (Inv_q q3.1.sy e3) (hO.tr e4)
theorem s_comes {p n w : Int} (hT : Tld iv F N) (k : ∀ (E' : aF) (F' G' O' T' S' : Int → Int), EqE iv E' → EqF F F' → R (some (aI (aComes iv F N p n w))) SHR (ST E' F' N G' O' T' S') lw RVR) : wp (d + 9) mX12_comes 0 [some (aR 0), some (aI p), some (aI n), some (aI w), none] [] SHR (ST iv F N G O T S) lw RVR 0 0 R := by
  obtain ⟨hr, hP2, h9, h8, hc, h25, hT2⟩ := id hT
  have hrd : ∀ (K : Int → Int), EqE iv (uA iv 15 K) := fun K i hi => uA_n (by omega)
  have hq15 : ∀ (K : Int → Int), EqP iv (uA iv 15 K) F F := fun K => EqP.e1 (by decide) (by decide) (by decide)
  refine wp_aload_n dX12_comes_0 rfl ?_
  refine wp_iload_n dX12_comes_1 rfl ?_
  refine wp_callV (as := [_]) (ls0 := [_, _]) (kc := 0) (ks := 0) (bc' := 0) (bs' := 0) dX12_comes_2 vX12_313 rfl rfl rfl (Nat.le_of_ble_eq_true rfl) (Nat.le_of_ble_eq_true rfl) (by omega) (by omega) ?_
  refine s_isPair (by omega) (fun h2 => ?_) (fun h2 => ?_)
  · obtain ⟨hP, hI⟩ := hT2 (by omega)
    refine wp_if_eq (tgt := 27) dX12_comes_5 rfl (fun q => absurd q (by decide)) (fun _ => ?_)
    refine wp_iload_n dX12_comes_8 rfl ?_
    refine wp_iconst dX12_comes_9 ?_
    refine wp_bipush dX12_comes_10 ?_
    refine wp_callS (as := [_, _, _]) (ls0 := [_, _, _]) (kc := 0) (ks := 0) (bc' := 0) (bs' := 0) dX12_comes_12 vX12_75 rfl rfl (Nat.le_of_ble_eq_true rfl) (Nat.le_of_ble_eq_true rfl) (by omega) (by omega) ?_
    refine s_in (fun h12 => ?_) (fun h12 => ?_)
    · refine wp_if_eq (tgt := 27) dX12_comes_15 rfl (fun q => absurd q (by decide)) (fun _ => ?_)
      refine wp_iload_n dX12_comes_18 rfl ?_
      refine wp_iconst dX12_comes_19 ?_
      refine wp_iconst dX12_comes_20 ?_
      refine wp_callS (as := [_, _, _]) (ls0 := [_, _, _]) (kc := 0) (ks := 0) (bc' := 0) (bs' := 0) dX12_comes_21 vX12_75 rfl rfl (Nat.le_of_ble_eq_true rfl) (Nat.le_of_ble_eq_true rfl) (by omega) (by omega) ?_
      refine s_in (fun h21 => ?_) (fun h21 => ?_)
      · refine wp_if_ne (tgt := 29) dX12_comes_24 rfl (fun _ => ?_) (fun q => absurd q (by decide))
        refine wp_aload_n dX12_comes_29 rfl ?_
        refine wp_iconst dX12_comes_30 ?_
        refine wp_callV (as := [_]) (ls0 := [_, _, _]) (kc := 0) (ks := 0) (bc' := 0) (bs' := 0) dX12_comes_31 vX12_348 rfl rfl rfl (Nat.le_of_ble_eq_true rfl) (Nat.le_of_ble_eq_true rfl) (by omega) (by omega) ?_
        refine s_putAside (by omega) ?_
        refine wp_aload_n dX12_comes_34 rfl ?_
        refine wp_getR rfl dX12_comes_35 fX12_41 rfl ?_
        refine wp_iload_n dX12_comes_38 rfl ?_
        refine wp_iconst dX12_comes_39 ?_
        refine wp_iast dX12_comes_40 rfl (by omega) (by omega) ?_
        try simp only [STu0, STu8, STu10, STu11, STu12, STu13]
        refine wp_iconst dX12_comes_41 ?_
        refine wp_istore (ls' := [_, _, _, _, _]) dX12_comes_42 (by decide) rfl rfl ?_
        refine l_comes (iv := uA iv 15 (cpW (iv 15) N (369 * 0) 369)) n.toNat 0 F N _ _ _ _ (by omega) (by omega) (by omega) (Prm_q (hq15 _) hP) (Prm2_q (hq15 _) hP2) (Inv_q (hq15 _) hI) (by omega) (by omega) (by rw [up_s]; omega) (by rw [up_s]; omega) (fun F' G' O' T' S' e1 e2 e3 e4 => ?_)
        rw [liN_q (hq15 _)] at e3 e4 ⊢
        rw [gsm_q (hq15 _), up_s] at e2
        have hk := k (uA iv 15 (cpW (iv 15) N (369 * 0) 369)) F' G' O' T' S' (hrd _) e1
        unfold aComes at hk
        rw [if_neg (by omega), if_neg (by omega), if_neg (by omega)] at hk
        refine wp_iload_n dX12_comes_60 rfl ?_
        refine wp_if_ne (tgt := 73) dX12_comes_61 rfl (fun h61 => ?_) (fun h61 => ?_)
        · rw [if_neg h61] at hk
          refine wp_iload_n dX12_comes_73 rfl ?_
          refine wp_iconst dX12_comes_74 ?_
          refine wp_icmp_ne (tgt := 88) dX12_comes_75 rfl (fun h75 => ?_) (fun h75 => ?_)
          · rw [if_neg h75] at hk
            refine wp_aload_n dX12_comes_88 rfl ?_
            refine wp_iload_n dX12_comes_89 rfl ?_
            refine wp_bipush dX12_comes_90 ?_
            refine wp_callV (as := [_, _]) (ls0 := [_, _, _]) (kc := 0) (ks := 0) (bc' := 0) (bs' := 0) dX12_comes_92 vX12_161 rfl rfl rfl (Nat.le_of_ble_eq_true rfl) (Nat.le_of_ble_eq_true rfl) (by omega) (by omega) ?_
            refine s_of (by omega) (by omega) ?_
            refine wp_istore (ls' := [_, _, _, _, _]) dX12_comes_95 (by decide) rfl rfl ?_
            refine wp_aload_n dX12_comes_97 rfl ?_
            refine wp_iconst dX12_comes_98 ?_
            refine wp_callV (as := [_]) (ls0 := [_, _, _]) (kc := 0) (ks := 0) (bc' := 0) (bs' := 0) dX12_comes_99 vX12_351 rfl rfl rfl (Nat.le_of_ble_eq_true rfl) (Nat.le_of_ble_eq_true rfl) (by omega) (by omega) ?_
            refine s_takeBack (by omega) ?_
            refine wp_iload dX12_comes_102 rfl ?_
            refine wp_ireturn dX12_comes_104 rfl ?_
            rw [uA_s, back_eq e4]
            first
            | (rw [show G' p = gsm iv F p n.toNat N by omega]; exact hk)
            | exact hk
          · rw [if_pos h75] at hk
            refine wp_aload_n dX12_comes_78 rfl ?_
            refine wp_iload_n dX12_comes_79 rfl ?_
            refine wp_bipush dX12_comes_80 ?_
            refine wp_callV (as := [_, _]) (ls0 := [_, _, _]) (kc := 0) (ks := 0) (bc' := 0) (bs' := 0) dX12_comes_82 vX12_161 rfl rfl rfl (Nat.le_of_ble_eq_true rfl) (Nat.le_of_ble_eq_true rfl) (by omega) (by omega) ?_
            refine s_of (by omega) (by omega) ?_
            refine wp_goto (tgt := 95) dX12_comes_85 rfl ?_
            refine wp_istore (ls' := [_, _, _, _, _]) dX12_comes_95 (by decide) rfl rfl ?_
            refine wp_aload_n dX12_comes_97 rfl ?_
            refine wp_iconst dX12_comes_98 ?_
            refine wp_callV (as := [_]) (ls0 := [_, _, _]) (kc := 0) (ks := 0) (bc' := 0) (bs' := 0) dX12_comes_99 vX12_351 rfl rfl rfl (Nat.le_of_ble_eq_true rfl) (Nat.le_of_ble_eq_true rfl) (by omega) (by omega) ?_
            refine s_takeBack (by omega) ?_
            refine wp_iload dX12_comes_102 rfl ?_
            refine wp_ireturn dX12_comes_104 rfl ?_
            rw [uA_s, back_eq e4]
            first
            | (rw [show G' p = gsm iv F p n.toNat N by omega]; exact hk)
            | exact hk
        · rw [if_pos h61] at hk
          refine wp_aload_n dX12_comes_64 rfl ?_
          refine wp_getR rfl dX12_comes_65 fX12_41 rfl ?_
          refine wp_iload_n dX12_comes_68 rfl ?_
          refine wp_iald dX12_comes_69 rfl (by omega) (by omega) ?_
          try simp only [ST0, ST5, ST6, ST7, ST8, ST10, ST11, ST12, ST13]
          refine wp_goto (tgt := 95) dX12_comes_70 rfl ?_
          refine wp_istore (ls' := [_, _, _, _, _]) dX12_comes_95 (by decide) rfl rfl ?_
          refine wp_aload_n dX12_comes_97 rfl ?_
          refine wp_iconst dX12_comes_98 ?_
          refine wp_callV (as := [_]) (ls0 := [_, _, _]) (kc := 0) (ks := 0) (bc' := 0) (bs' := 0) dX12_comes_99 vX12_351 rfl rfl rfl (Nat.le_of_ble_eq_true rfl) (Nat.le_of_ble_eq_true rfl) (by omega) (by omega) ?_
          refine s_takeBack (by omega) ?_
          refine wp_iload dX12_comes_102 rfl ?_
          refine wp_ireturn dX12_comes_104 rfl ?_
          rw [uA_s, back_eq e4]
          first
          | (rw [show G' p = gsm iv F p n.toNat N by omega]; exact hk)
          | exact hk
      · refine wp_if_ne (tgt := 29) dX12_comes_24 rfl (fun q => absurd q (by decide)) (fun _ => ?_)
        refine wp_iconst dX12_comes_27 ?_
        refine wp_ireturn dX12_comes_28 rfl ?_
        have k := k iv F G O T S EqE.rf EqF.rf
        unfold aComes at k; (repeat' split at k) <;> first | exact k | (exfalso; omega)
    · refine wp_if_eq (tgt := 27) dX12_comes_15 rfl (fun _ => ?_) (fun q => absurd q (by decide))
      refine wp_iconst dX12_comes_27 ?_
      refine wp_ireturn dX12_comes_28 rfl ?_
      have k := k iv F G O T S EqE.rf EqF.rf
      unfold aComes at k; (repeat' split at k) <;> first | exact k | (exfalso; omega)
  · refine wp_if_eq (tgt := 27) dX12_comes_5 rfl (fun _ => ?_) (fun q => absurd q (by decide))
    refine wp_iconst dX12_comes_27 ?_
    refine wp_ireturn dX12_comes_28 rfl ?_
    have k := k iv F G O T S EqE.rf EqF.rf
    unfold aComes at k; (repeat' split at k) <;> first | exact k | (exfalso; omega)
theorem l_healed {N0 : Int → Int} (m : Nat) : ∀ (i : Int) (F N G O T S : Int → Int), 0 ≤ i → i + m = 99 → Prm iv F → Prm2 iv F → Inv iv F N → N 368 + m ≤ 14000 → Out N0 N → (∀ (F' M G' O' T' S' : Int → Int) (n x : Int), EqF F F' → Inv iv F M → Out N0 M → (x = 0 ↔ AllA F M) → (0 ≤ n ∧ n ≤ 99) → (if x = 0 then n else -1) = hlL iv F m i N → wp (d + 9) mX12_healed 43 [some (aR 0), some (aI n), none] [aI x] SHR (ST iv F' M G' O' T' S') lw RVR 0 0 R) → wp (d + 9) mX12_healed 16 [some (aR 0), some (aI i), none] [] SHR (ST iv F N G O T S) lw RVR 0 0 R := by
  induction m with
  | zero =>
    intro i F N G O T S h0 hm hP hP2 hI hf hO k
    have hB := hI.1
    refine wp_iload_n dX12_healed_16 rfl ?_
    refine wp_bipush dX12_healed_17 ?_
    refine wp_icmp_ge (tgt := 39) dX12_healed_19 rfl (fun h19 => ?_) (fun h19 => by exfalso; omega)
    refine wp_aload_n dX12_healed_39 rfl ?_
    refine wp_callV (as := []) (ls0 := [_, _, _]) (kc := 0) (ks := 0) (bc' := 0) (bs' := 0) dX12_healed_40 vX12_357 rfl rfl rfl (Nat.le_of_ble_eq_true rfl) (Nat.le_of_ble_eq_true rfl) (by omega) (by omega) ?_
    refine s_atOdds0 hP hB (fun x40 hx40 => ?_)
    refine k F N G O T S i x40 EqF.rf hI hO hx40 (by omega) ?_
    rw [hlL]
    by_cases e : x40 = 0
    · rw [if_pos e, if_pos (hx40.mp e)]
    · rw [if_neg e, if_neg (fun z => e (hx40.mpr z))]
  | succ m ih =>
    intro i F N G O T S h0 hm hP hP2 hI hf hO k
    have hB := hI.1
    have hL := Inv.liv hP hI (by omega)
    have hOl := Out.liv hP hI (by omega)
    refine wp_iload_n dX12_healed_16 rfl ?_
    refine wp_bipush dX12_healed_17 ?_
    refine wp_icmp_ge (tgt := 39) dX12_healed_19 rfl (fun h19 => by exfalso; omega) (fun h19 => ?_)
    refine wp_aload_n dX12_healed_22 rfl ?_
    refine wp_callV (as := []) (ls0 := [_, _, _]) (kc := 0) (ks := 0) (bc' := 0) (bs' := 0) dX12_healed_23 vX12_357 rfl rfl rfl (Nat.le_of_ble_eq_true rfl) (Nat.le_of_ble_eq_true rfl) (by omega) (by omega) ?_
    refine s_atOdds0 hP hB (fun x23 hx23 => ?_)
    refine wp_if_eq (tgt := 39) dX12_healed_26 rfl (fun h26 => ?_) (fun h26 => ?_)
    · refine wp_aload_n dX12_healed_39 rfl ?_
      refine wp_callV (as := []) (ls0 := [_, _, _]) (kc := 0) (ks := 0) (bc' := 0) (bs' := 0) dX12_healed_40 vX12_357 rfl rfl rfl (Nat.le_of_ble_eq_true rfl) (Nat.le_of_ble_eq_true rfl) (by omega) (by omega) ?_
      refine s_atOdds0 hP hB (fun x40 hx40 => ?_)
      refine k F N G O T S i x40 EqF.rf hI hO hx40 (by omega) ?_
      have e : x40 = 0 := hx40.mpr (hx23.mp (by omega))
      rw [hlL, if_pos e, if_pos (hx40.mp e)]
    · refine wp_aload_n dX12_healed_29 rfl ?_
      refine wp_callV (as := []) (ls0 := [_, _]) (kc := 0) (ks := 0) (bc' := 0) (bs' := 0) dX12_healed_30 vX12_299 rfl rfl rfl (Nat.le_of_ble_eq_true rfl) (Nat.le_of_ble_eq_true rfl) (by omega) (by omega) ?_
      refine s_liveI hP hP2 hI (by omega) (fun F3 G3 O3 T3 S3 f1 f3 => ?_)
      have q3 := F3q (iv := iv) f1
      refine wp_iinc (ls' := [_, _, _]) dX12_healed_33 (by decide) rfl rfl ⟨by omega, by omega⟩ rfl ?_
      refine wp_goto (tgt := 16) dX12_healed_36 rfl ?_
      refine ih _ _ _ _ _ _ _ (by omega) (by omega) (Prm_q q3.1 hP) (Prm2_q q3.1 hP2) (Inv_q q3.1 hL.1) (by rw [hL.2.1]; omega) (hO.tr hOl) (fun F' M G' O' T' S' n x e1 e2 e3 e4 e5 e6 => ?_)
      rw [hlL_q q3.1] at e6
      exact k F' M G' O' T' S' n x (q3.2.tr e1) (Inv_q q3.1.sy e2) e3 (e4.trans (AllA_q q3.1.2.2.2.1)) e5 (by rw [hlL, if_neg (fun z => h26 (hx23.mpr z))]; exact e6)
noncomputable def aHeal (iv : aF) (F N : Int → Int) : Int := if F 13 = 0 then -1 else hlL iv F 99 0 N
theorem s_healed (hT : Tld iv F N) (k : ∀ (E' : aF) (F' G' O' T' S' : Int → Int), EqE iv E' → EqF F F' → R (some (aI (aHeal iv F N))) SHR (ST E' F' N G' O' T' S') lw RVR) : wp (d + 9) mX12_healed 0 [some (aR 0), none, none] [] SHR (ST iv F N G O T S) lw RVR 0 0 R := by
  obtain ⟨hr, hP2, h9, h8, hc, h25, hT2⟩ := id hT
  have hrd : ∀ (K : Int → Int), EqE iv (uA iv 15 K) := fun K i hi => uA_n (by omega)
  have hq15 : ∀ (K : Int → Int), EqP iv (uA iv 15 K) F F := fun K => EqP.e1 (by decide) (by decide) (by decide)
  refine wp_aload_n dX12_healed_0 rfl ?_
  refine wp_getI dX12_healed_1 fX12_138 rfl ?_
  try simp only [ST0, ST5, ST6, ST7, ST8, ST10, ST11, ST12, ST13]
  refine wp_if_ne (tgt := 9) dX12_healed_4 rfl (fun h4 => ?_) (fun h4 => ?_)
  · refine wp_aload_n dX12_healed_9 rfl ?_
    refine wp_iconst dX12_healed_10 ?_
    refine wp_callV (as := [_]) (ls0 := [_, _, _]) (kc := 0) (ks := 0) (bc' := 0) (bs' := 0) dX12_healed_11 vX12_348 rfl rfl rfl (Nat.le_of_ble_eq_true rfl) (Nat.le_of_ble_eq_true rfl) (by omega) (by omega) ?_
    refine s_putAside (by omega) ?_
    refine wp_iconst dX12_healed_14 ?_
    refine wp_istore_n (ls' := [_, _, _]) dX12_healed_15 (by decide) rfl rfl ?_
    obtain ⟨hP, hI⟩ := hT2 (by omega)
    refine l_healed (iv := uA iv 15 (cpW (iv 15) N (369 * 0) 369)) (N0 := N) 99 0 F N _ _ _ _ (by omega) (by omega) (Prm_q (hq15 _) hP) (Prm2_q (hq15 _) hP2) (Inv_q (hq15 _) hI) (by omega) Out.rf (fun F' M G' O' T' S' n x e1 e2 e3 e4 e5 e6 => ?_)
    rw [hlL_q (hq15 _)] at e6
    have hk := k (uA iv 15 (cpW (iv 15) N (369 * 0) 369)) F' G' O' T' S' (hrd _) e1
    unfold aHeal at hk
    rw [if_neg h4, ← e6] at hk
    refine wp_if_ne (tgt := 50) dX12_healed_43 rfl (fun h43 => ?_) (fun h43 => ?_)
    · rw [if_neg h43] at hk
      refine wp_iconst dX12_healed_50 ?_
      refine wp_istore_n (ls' := [_, _, _]) dX12_healed_51 (by decide) rfl rfl ?_
      refine wp_aload_n dX12_healed_52 rfl ?_
      refine wp_iconst dX12_healed_53 ?_
      refine wp_callV (as := [_]) (ls0 := [_, _, _]) (kc := 0) (ks := 0) (bc' := 0) (bs' := 0) dX12_healed_54 vX12_351 rfl rfl rfl (Nat.le_of_ble_eq_true rfl) (Nat.le_of_ble_eq_true rfl) (by omega) (by omega) ?_
      refine s_takeBack (by omega) ?_
      refine wp_iload_n dX12_healed_57 rfl ?_
      refine wp_if_eq (tgt := 65) dX12_healed_58 rfl (fun _ => ?_) (fun q => absurd q (by decide))
      refine wp_iconst dX12_healed_65 ?_
      refine wp_ireturn dX12_healed_66 rfl ?_
      rw [uA_s, back_eq e3]; exact hk
    · rw [if_pos h43] at hk
      refine wp_iconst dX12_healed_46 ?_
      refine wp_goto (tgt := 51) dX12_healed_47 rfl ?_
      refine wp_istore_n (ls' := [_, _, _]) dX12_healed_51 (by decide) rfl rfl ?_
      refine wp_aload_n dX12_healed_52 rfl ?_
      refine wp_iconst dX12_healed_53 ?_
      refine wp_callV (as := [_]) (ls0 := [_, _, _]) (kc := 0) (ks := 0) (bc' := 0) (bs' := 0) dX12_healed_54 vX12_351 rfl rfl rfl (Nat.le_of_ble_eq_true rfl) (Nat.le_of_ble_eq_true rfl) (by omega) (by omega) ?_
      refine s_takeBack (by omega) ?_
      refine wp_iload_n dX12_healed_57 rfl ?_
      refine wp_if_eq (tgt := 65) dX12_healed_58 rfl (fun q => absurd q (by decide)) (fun _ => ?_)
      refine wp_iload_n dX12_healed_61 rfl ?_
      refine wp_goto (tgt := 66) dX12_healed_62 rfl ?_
      refine wp_ireturn dX12_healed_66 rfl ?_
      rw [uA_s, back_eq e3]; exact hk
  · refine wp_iconst dX12_healed_7 ?_
    refine wp_ireturn dX12_healed_8 rfl ?_
    have k := k iv F G O T S EqE.rf EqF.rf
    unfold aHeal at k; rw [if_pos h4] at k; exact k
end R21
