def quF (N : Int → Int) (p : Int) : Int → Int := up N (61 * p + 57) (mnI 99 (N (61 * p + 57) + N (61 * p + 58)))
def quL : Nat → Int → (Int → Int) → (Int → Int)
  | 0, _, N => N
  | m + 1, p, N => quL m (p + 1) (quF N p)
def sdv (N : Int → Int) : Int → Int := fun p => mnI (N (61 * p + 18)) (N (61 * p + 57))
def sn1 (N : Int → Int) (p i : Int) : Int → Int := up N (61 * p + (6 + i)) (mnI 999 (N (61 * p + (6 + i)) + 1))
def gt1 (N : Int → Int) (p i : Int) : Int → Int := up (up N (61 * p + (12 + i)) (mnI 999 (N (61 * p + (12 + i)) + 1))) (61 * p + 57) (up N (61 * p + (12 + i)) (mnI 999 (N (61 * p + (12 + i)) + 1)) (61 * p + 57) - 1)
noncomputable def sdN (Q : Int → Prop) (p : Int) : Nat → Int → (Int → Int) → (Int → Int)
  | 0, _, N => N
  | m + 1, i, N => @ite _ (Q (N (61 * p + (bq 0 + i)))) (Classical.propDecidable _) (sdN Q p m (i + 1) (gt1 (sn1 N p i) p i)) (sdN Q p m (i + 1) (sn1 N p i))
noncomputable def sdC (Q : Int → Prop) (N : Int → Int) (p : Int) : Nat → Int → Int
  | 0, _ => 0
  | m + 1, i => @ite _ (Q (N (61 * p + (bq 0 + i)))) (Classical.propDecidable _) (1 + sdC Q N p m (i + 1)) (sdC Q N p m (i + 1))
def upF (N : Int → Int) (p s : Int) : Int → Int := up (up N (61 * p + 59) (N (61 * p + 59) + s)) (61 * p + 60) (N (61 * p + 60) + N (61 * p + 18))
noncomputable def s2P (iv : aF) (F N1 N : Int → Int) (p : Int) : Int → Int := upF (sdN (Got iv F N1 (sdv N1) p) p (sdv N1 p).toNat 0 N) p (sdv N1 p)
noncomputable def s2L (iv : aF) (F N1 : Int → Int) : Nat → Int → (Int → Int) → (Int → Int)
  | 0, _, N => N
  | m + 1, p, N => s2L iv F N1 m (p + 1) (s2P iv F N1 N p)
/-- how many a pair got in this frame -/
noncomputable def gtn (iv : aF) (F N1 : Int → Int) (p : Int) : Int := sdC (Got iv F N1 (sdv N1) p) N1 p (sdv N1 p).toNat 0
noncomputable def gtA (iv : aF) (F N1 : Int → Int) : Nat → Int → Int
  | 0, _ => 0
  | m + 1, p => gtn iv F N1 p + gtA iv F N1 m (p + 1)
/-- the places that sending leaves alone -/
def Sam (N N0 : Int → Int) : Prop := (∀ a k : Int, 0 ≤ a → a < 6 → (0 ≤ k ∧ k < 6) ∨ (18 ≤ k ∧ k < 57) ∨ k = 58 → N (61 * a + k) = N0 (61 * a + k)) ∧ ∀ j : Int, 366 ≤ j → N j = N0 j
section D13
variable {iv : aF} {F N N0 N1 S S1 : Int → Int} {p i c : Int} {Q : Int → Prop}
theorem Sam.rf : Sam N N := ⟨fun _ _ _ _ _ => rfl, fun _ _ => rfl⟩
theorem Sam.u {k v : Int} (h : Sam N N0) (hp : 0 ≤ p ∧ p < 6) (hk : (6 ≤ k ∧ k < 18) ∨ k = 57 ∨ k = 59 ∨ k = 60) : Sam (up N (61 * p + k) v) N0 :=
  ⟨fun a b h1 h2 h3 => by rw [up_n (by omega)]; exact h.1 a b h1 h2 h3, fun j hj => by rw [up_n (by omega)]; exact h.2 j hj⟩
theorem fnd_c {f g : Int → Int} {b : Int} (n : Nat) : ∀ j : Int, (∀ x : Int, j ≤ x → x < j + n → f (61 * p + (b + x)) = g (61 * p + (b + x))) → fnd f p b c n j = fnd g p b c n j := by
  induction n with
  | zero => intro j h; rfl
  | succ n ih => intro j h; rw [fnd, fnd, h j (by omega) (by omega), ih _ (fun x a b => h x (by omega) (by omega))]
theorem plc_c {q : Int} (hq : q = 0 ∨ q = 1) (hm : 0 ≤ N0 (61 * p + mq q) ∧ N0 (61 * p + mq q) ≤ 6) (h1 : N (61 * p + mq q) = N0 (61 * p + mq q)) (h2 : ∀ x : Int, 0 ≤ x → x < 6 → N (61 * p + (bq q + x)) = N0 (61 * p + (bq q + x))) : plc N p q c = plc N0 p q c := by
  unfold plc
  rw [h1]
  exact fnd_c _ _ (fun x a b => h2 x a (by omega))
theorem Sam.got (h : Sam N N0) (hp : 0 ≤ p ∧ p < 6) (hF : F 13 ≤ 6) (hm : 0 ≤ N0 (61 * p + mq 1) ∧ N0 (61 * p + mq 1) ≤ 6) (hS : ∀ a : Int, 0 ≤ a → a < F 13 → S a = S1 a ∧ S1 a ≤ 6) : Got iv F N S p c ↔ Got iv F N0 S1 p c := by
  have e1 : plc N p 1 c = plc N0 p 1 c := plc_c (Or.inr rfl) hm (h.1 p 25 hp.1 hp.2 (by decide)) (fun x a b => h.1 p (19 + x) hp.1 hp.2 (by omega))
  have e2 : ∀ a : Int, 0 ≤ a → a < F 13 → (Snd N S a c ↔ Snd N0 S1 a c) := fun a h1 h2 => by
    have := hS a h1 h2
    constructor
    · rintro ⟨i, a1, a2, a3⟩
      refine ⟨i, a1, by omega, ?_⟩
      rw [← h.1 a (bq 0 + i) h1 (by omega) (by rw [bq0]; omega)]; exact a3
    · rintro ⟨i, a1, a2, a3⟩
      refine ⟨i, a1, by omega, ?_⟩
      rw [h.1 a (bq 0 + i) h1 (by omega) (by rw [bq0]; omega)]; exact a3
  unfold Got
  rw [e1, h.2 366 (by decide), h.2 368 (by decide)]
  constructor
  · rintro ⟨g1, g2⟩; exact ⟨g1, fun a h1 h2 h3 h4 => g2 a h1 h2 h3 ((e2 a h1 h2).mpr h4)⟩
  · rintro ⟨g1, g2⟩; exact ⟨g1, fun a h1 h2 h3 h4 => g2 a h1 h2 h3 ((e2 a h1 h2).mp h4)⟩
theorem mnI_r {x y : Int} (hx : 0 ≤ x) (hy : 0 ≤ y) : 0 ≤ mnI x y ∧ mnI x y ≤ x ∧ mnI x y ≤ y := by unfold mnI; split <;> omega
theorem Sam.sn (h : Sam N N0) (hp : 0 ≤ p ∧ p < 6) (hi : 0 ≤ i ∧ i < 6) : Sam (sn1 N p i) N0 := h.u hp (by omega)
theorem Sam.gt (h : Sam N N0) (hp : 0 ≤ p ∧ p < 6) (hi : 0 ≤ i ∧ i < 6) : Sam (gt1 N p i) N0 := (h.u hp (by omega)).u hp (by omega)
theorem Bok.bsn {W Of : Int} (h : Bok W Of N) (hp : 0 ≤ p ∧ p < 6) (hi : 0 ≤ i ∧ i < 6) : Bok W Of (sn1 N p i) := by
  have h1 := h p (6 + i) hp.1 hp.2 (by omega) (by omega)
  rw [k999 (by omega)] at h1
  refine h.bup (by omega) ?_
  rw [k999 (by omega)]
  have := mnI_r (x := 999) (y := N (61 * p + (6 + i)) + 1) (by omega) (by omega)
  omega
theorem Bok.bgt {W Of : Int} (h : Bok W Of N) (hp : 0 ≤ p ∧ p < 6) (hi : 0 ≤ i ∧ i < 6) (hq : 1 ≤ N (61 * p + 57)) : Bok W Of (gt1 N p i) := by
  have h1 := h p (12 + i) hp.1 hp.2 (by omega) (by omega)
  rw [k999 (by omega)] at h1
  have h57 := h.v57 hp
  have := mnI_r (x := 999) (y := N (61 * p + (12 + i)) + 1) (by omega) (by omega)
  refine (h.bup (k := 12 + i) (by omega) (by rw [k999 (by omega)]; omega)).bup (by omega) ?_
  rw [k57, up_n (by omega)]
  omega
theorem gt1_57 (hi : 0 ≤ i ∧ i < 6) : gt1 N p i (61 * p + 57) = N (61 * p + 57) - 1 := by unfold gt1; rw [up_s, up_n (by omega)]
theorem sn1_57 (hi : 0 ≤ i ∧ i < 6) : sn1 N p i (61 * p + 57) = N (61 * p + 57) := by unfold sn1; rw [up_n (by omega)]
theorem sdN_t {m : Nat} (h : Q (N (61 * p + (bq 0 + i)))) : sdN Q p (m + 1) i N = sdN Q p m (i + 1) (gt1 (sn1 N p i) p i) := by rw [sdN, if_pos h]
theorem sdN_f {m : Nat} (h : ¬ Q (N (61 * p + (bq 0 + i)))) : sdN Q p (m + 1) i N = sdN Q p m (i + 1) (sn1 N p i) := by rw [sdN, if_neg h]
theorem sdC_t {m : Nat} (h : Q (N (61 * p + (bq 0 + i)))) : sdC Q N p (m + 1) i = 1 + sdC Q N p m (i + 1) := by rw [sdC, if_pos h]
theorem sdC_f {m : Nat} (h : ¬ Q (N (61 * p + (bq 0 + i)))) : sdC Q N p (m + 1) i = sdC Q N p m (i + 1) := by rw [sdC, if_neg h]
theorem sdC_r (m : Nat) : ∀ i : Int, 0 ≤ sdC Q N p m i ∧ sdC Q N p m i ≤ m := by
  induction m with
  | zero => intro i; rw [sdC]; omega
  | succ m ih =>
    intro i
    have := ih (i + 1)
    by_cases h : Q (N (61 * p + (bq 0 + i)))
    · rw [sdC_t h]; omega
    · rw [sdC_f h]; omega
theorem quL_n (m : Nat) : ∀ (p : Int) (N : Int → Int) (j : Int), (∀ a : Int, p ≤ a → a < p + m → ¬ j = 61 * a + 57) → quL m p N j = N j := by
  induction m with
  | zero => intro p N j h; rfl
  | succ m ih => intro p N j h; rw [quL, ih _ _ _ (fun a x y => h a (by omega) (by omega))]; exact up_n (h p (by omega) (by omega))
theorem Bok.bqu {W Of : Int} (h : Bok W Of N) (hp : 0 ≤ p ∧ p < 6) : Bok W Of (quF N p) := by
  have a1 := h.v57 hp
  have a2 := h.v58 hp
  have := mnI_r (x := 99) (y := N (61 * p + 57) + N (61 * p + 58)) (by omega) (by omega)
  exact h.bup (by omega) (by rw [k57]; omega)
theorem Bok.bquL {W Of : Int} (m : Nat) : ∀ (p : Int) (N : Int → Int), 0 ≤ p → p + m ≤ 6 → Bok W Of N → Bok W Of (quL m p N) := by
  induction m with
  | zero => intro p N h1 h2 h; exact h
  | succ m ih => intro p N h1 h2 h; exact ih _ _ (by omega) (by omega) (h.bqu (by omega))
theorem sdv_r {W Of : Int} (h : Bok W Of N) (hp : 0 ≤ p ∧ p < 6) : 0 ≤ sdv N p ∧ sdv N p ≤ 6 ∧ sdv N p ≤ N (61 * p + 57) := by
  have a1 := h.v57 hp
  have a2 := h.v18 hp
  have := mnI_r (x := N (61 * p + 18)) (y := N (61 * p + 57)) (by omega) (by omega)
  unfold sdv; omega
end D13
section R13
variable {d : Nat} {iv lw : aF} {F N G O T S : Int → Int} {R : aPost}
theorem l_send1 (m : Nat) : ∀ (p : Int) (N S : Int → Int) (vi : Option aV), 0 ≤ p → p + m = F 13 → F 13 ≤ 6 → Bok (iv 5 0) (iv 5 1) N → (∀ a : Int, 0 ≤ a → a < p → S a = sdv N a) → (∀ S' vp, (∀ a : Int, 0 ≤ a → a < F 13 → S' a = sdv (quL m p N) a) → wp (d + 4) mX12_sendAll 71 [some (aR 0), vp, vi] [] SHR (ST iv F (quL m p N) G O T S') lw RVR 0 0 R) → wp (d + 4) mX12_sendAll 7 [some (aR 0), some (aI p), vi] [] SHR (ST iv F N G O T S) lw RVR 0 0 R := by
  induction m with
  | zero =>
    intro p N S vi h0 hm hF hB hS k
    refine wp_iload_n dX12_sendAll_7 rfl ?_
    refine wp_aload_n dX12_sendAll_8 rfl ?_
    refine wp_getI dX12_sendAll_9 fX12_138 rfl ?_
    try simp only [ST0, ST5, ST6, ST7, ST8, ST10, ST11, ST12, ST13]
    refine wp_icmp_ge (tgt := 71) dX12_sendAll_12 rfl (fun h12 => ?_) (fun h12 => by exfalso; omega)
    exact k S _ (fun a x y => hS a x (by omega))
  | succ m ih =>
    intro p N S vi h0 hm hF hB hS k
    have hp : 0 ≤ p ∧ p < 6 := ⟨h0, by omega⟩
    have a1 := hB.v57 hp
    have a2 := hB.v58 hp
    have hB1 := hB.bqu hp
    have hq : up N (61 * p + 57) (if N (61 * p + 57) + N (61 * p + 58) < 99 then N (61 * p + 57) + N (61 * p + 58) else 99) = quF N p := rfl
    refine wp_iload_n dX12_sendAll_7 rfl ?_
    refine wp_aload_n dX12_sendAll_8 rfl ?_
    refine wp_getI dX12_sendAll_9 fX12_138 rfl ?_
    try simp only [ST0, ST5, ST6, ST7, ST8, ST10, ST11, ST12, ST13]
    refine wp_icmp_ge (tgt := 71) dX12_sendAll_12 rfl (fun h12 => by exfalso; omega) (fun h12 => ?_)
    refine wp_aload_n dX12_sendAll_15 rfl ?_
    refine wp_iload_n dX12_sendAll_16 rfl ?_
    refine wp_bipush dX12_sendAll_17 ?_
    refine wp_bipush dX12_sendAll_19 ?_
    refine wp_aload_n dX12_sendAll_21 rfl ?_
    refine wp_iload_n dX12_sendAll_22 rfl ?_
    refine wp_bipush dX12_sendAll_23 ?_
    refine wp_callV (as := [_, _]) (ls0 := [_, _, _]) (kc := 0) (ks := 0) (bc' := 0) (bs' := 0) dX12_sendAll_25 vX12_161 rfl rfl rfl (Nat.le_of_ble_eq_true rfl) (Nat.le_of_ble_eq_true rfl) (by omega) (by omega) ?_
    refine s_of (by omega) (by omega) ?_
    refine wp_aload_n dX12_sendAll_28 rfl ?_
    refine wp_iload_n dX12_sendAll_29 rfl ?_
    refine wp_bipush dX12_sendAll_30 ?_
    refine wp_callV (as := [_, _]) (ls0 := [_, _, _]) (kc := 0) (ks := 0) (bc' := 0) (bs' := 0) dX12_sendAll_32 vX12_161 rfl rfl rfl (Nat.le_of_ble_eq_true rfl) (Nat.le_of_ble_eq_true rfl) (by omega) (by omega) ?_
    refine s_of (by omega) (by omega) ?_
    refine wp_iadd dX12_sendAll_35 ⟨by omega, by omega⟩ ?_
    refine wp_mmin dX12_sendAll_36 (by omega) (Nat.le_of_ble_eq_true rfl) nX12_194 q_min ?_
    refine wp_callV (as := [_, _, _]) (ls0 := [_, _, _, _]) (kc := 0) (ks := 0) (bc' := 0) (bs' := 0) dX12_sendAll_39 vX12_141 rfl rfl rfl (Nat.le_of_ble_eq_true rfl) (Nat.le_of_ble_eq_true rfl) (by omega) (by omega) ?_
    refine s_set (by omega) (by omega) ?_
    rw [hq]
    refine wp_aload_n dX12_sendAll_42 rfl ?_
    refine wp_getR rfl dX12_sendAll_43 fX12_50 rfl ?_
    refine wp_iload_n dX12_sendAll_46 rfl ?_
    refine wp_aload_n dX12_sendAll_47 rfl ?_
    refine wp_iload_n dX12_sendAll_48 rfl ?_
    refine wp_bipush dX12_sendAll_49 ?_
    refine wp_callV (as := [_, _]) (ls0 := [_, _, _]) (kc := 0) (ks := 0) (bc' := 0) (bs' := 0) dX12_sendAll_51 vX12_161 rfl rfl rfl (Nat.le_of_ble_eq_true rfl) (Nat.le_of_ble_eq_true rfl) (by omega) (by omega) ?_
    refine s_of (by omega) (by omega) ?_
    refine wp_aload_n dX12_sendAll_54 rfl ?_
    refine wp_iload_n dX12_sendAll_55 rfl ?_
    refine wp_bipush dX12_sendAll_56 ?_
    refine wp_callV (as := [_, _]) (ls0 := [_, _, _]) (kc := 0) (ks := 0) (bc' := 0) (bs' := 0) dX12_sendAll_58 vX12_161 rfl rfl rfl (Nat.le_of_ble_eq_true rfl) (Nat.le_of_ble_eq_true rfl) (by omega) (by omega) ?_
    refine s_of (by omega) (by omega) ?_
    refine wp_mmin dX12_sendAll_61 (by omega) (Nat.le_of_ble_eq_true rfl) nX12_194 q_min ?_
    refine wp_iast dX12_sendAll_64 rfl (by omega) (by omega) ?_
    try simp only [STu0, STu8, STu10, STu11, STu12, STu13]
    refine wp_iinc (ls' := [_, _, _]) dX12_sendAll_65 (by decide) rfl rfl ⟨by omega, by omega⟩ rfl ?_
    refine wp_goto (tgt := 7) dX12_sendAll_68 rfl ?_
    refine ih _ _ _ _ (by omega) (by omega) hF hB1 (fun a x y => ?_) k
    by_cases e : a = p
    · rw [e, up_s]; rfl
    · rw [up_n e, hS a x (by omega)]
      unfold sdv quF
      rw [up_n (by omega), up_n (by omega)]
theorem l_send2 {N1 : Int → Int} {p : Int} (hp : 0 ≤ p ∧ p < 6) (hP2 : Prm2 iv F) (hP : Prm iv F) (hpn : p < F 13) (hB1 : Bok (iv 5 0) (iv 5 1) N1) (hfr : 0 ≤ N1 368 ∧ N1 368 ≤ 20000) (hj : 0 ≤ N1 366) (hS : ∀ a : Int, 0 ≤ a → a < F 13 → S a = sdv N1 a) (m : Nat) : ∀ (i : Int) (F2 N G : Int → Int), 0 ≤ i → i + m = S p → (∀ j : Int, ¬ j = 19 → F2 j = F j) → (0 ≤ F2 19 ∧ F2 19 + m ≤ 100) → Bok (iv 5 0) (iv 5 1) N → Sam N N1 → m ≤ N (61 * p + 57) → (∀ (F3 G' : Int → Int) (i' : Int), (∀ j : Int, ¬ j = 19 → F3 j = F j) → F3 19 = F2 19 + sdC (Got iv F N1 (sdv N1) p) N1 p m i → (∀ a : Int, ¬ a = p → G' a = G a) → (0 ≤ G p → G p + m ≤ 2000000000 → G' p = G p + sdC (Got iv F N1 (sdv N1) p) N1 p m i) → wp (d + 4) mX12_sendAll 202 [some (aR 0), some (aI p), some (aI i')] [] SHR (ST iv F3 (sdN (Got iv F N1 (sdv N1) p) p m i N) G' O T S) lw RVR 0 0 R) → wp (d + 4) mX12_sendAll 83 [some (aR 0), some (aI p), some (aI i)] [] SHR (ST iv F2 N G O T S) lw RVR 0 0 R := by
  obtain ⟨hW1, hW2, hO1, hO2, hT1, hT2, hI1, hI2, hF1, hF2⟩ := id hP
  have hs6 : ∀ a : Int, 0 ≤ a → a < F 13 → 0 ≤ S a ∧ S a ≤ 6 := fun a x y => by rw [hS a x y]; have := sdv_r (N := N1) (p := a) hB1 (by omega); omega
  have hsp := hs6 p hp.1 hpn
  induction m with
  | zero =>
    intro i F2 N G h0 hm hF2 h19 hB hSm hq k
    refine wp_iload_n dX12_sendAll_83 rfl ?_
    refine wp_aload_n dX12_sendAll_84 rfl ?_
    refine wp_getR rfl dX12_sendAll_85 fX12_50 rfl ?_
    refine wp_iload_n dX12_sendAll_88 rfl ?_
    refine wp_iald dX12_sendAll_89 rfl (by omega) (by omega) ?_
    try simp only [ST0, ST5, ST6, ST7, ST8, ST10, ST11, ST12, ST13]
    refine wp_icmp_ge (tgt := 202) dX12_sendAll_90 rfl (fun h90 => ?_) (fun h90 => by exfalso; omega)
    exact k F2 G _ hF2 (by rw [sdC]; omega) (fun _ _ => rfl) (fun _ _ => by rw [sdC]; omega)
  | succ m ih =>
    intro i F2 N G h0 hm hF2 h19 hB hSm hq k
    have hi : 0 ≤ i ∧ i < 6 := ⟨h0, by omega⟩
    have e13 : F2 13 = F 13 := hF2 13 (by decide)
    have e14 : F2 14 = F 14 := hF2 14 (by decide)
    have hPr : Prm iv F2 := by unfold Prm at *; rw [e13]; exact hP
    have hPr2 : Prm2 iv F2 := by unfold Prm2 at *; rw [e14]; exact hP2
    have s1 := hB p (6 + i) hp.1 hp.2 (by omega) (by omega)
    rw [k999 (by omega)] at s1
    have hBs := hB.bsn (i := i) hp hi
    have hSs := hSm.sn (i := i) hp hi
    have g1 := hBs p (12 + i) hp.1 hp.2 (by omega) (by omega)
    rw [k999 (by omega)] at g1
    have hcl := hBs.cel (q := 0) (i := i) hp (Or.inl rfl) hi
    have hcell : sn1 N p i (61 * p + (bq 0 + i)) = N1 (61 * p + (bq 0 + i)) := hSs.1 p (bq 0 + i) hp.1 hp.2 (by rw [bq0]; omega)
    have hcell0 : N (61 * p + (bq 0 + i)) = N1 (61 * p + (bq 0 + i)) := hSm.1 p (bq 0 + i) hp.1 hp.2 (by rw [bq0]; omega)
    have hgot : ∀ c, Got iv F2 (sn1 N p i) S p c ↔ Got iv F N1 (sdv N1) p c := fun c => by
      rw [hSs.got (S1 := sdv N1) hp (by omega) (hB1.mny hp (Or.inr rfl)) (fun a x y => ⟨hS a x (by omega), by rw [← hS a x (by omega)]; exact (hs6 a x (by omega)).2⟩)]
      unfold Got chn
      rw [e13, e14]
    have hcx : 0 ≤ sn1 N p i (61 * p + (bq 0 + i)) ∧ sn1 N p i (61 * p + (bq 0 + i)) ≤ 1000000 := by have := hcl.1; have := hcl.2.1; omega
    have e57 : sn1 N p i (61 * p + 57) = N (61 * p + 57) := sn1_57 hi
    have q57 := hB.v57 hp
    refine wp_iload_n dX12_sendAll_83 rfl ?_
    refine wp_aload_n dX12_sendAll_84 rfl ?_
    refine wp_getR rfl dX12_sendAll_85 fX12_50 rfl ?_
    refine wp_iload_n dX12_sendAll_88 rfl ?_
    refine wp_iald dX12_sendAll_89 rfl (by omega) (by omega) ?_
    try simp only [ST0, ST5, ST6, ST7, ST8, ST10, ST11, ST12, ST13]
    refine wp_icmp_ge (tgt := 202) dX12_sendAll_90 rfl (fun h90 => by exfalso; omega) (fun h90 => ?_)
    refine wp_aload_n dX12_sendAll_93 rfl ?_
    refine wp_iload_n dX12_sendAll_94 rfl ?_
    refine wp_bipush dX12_sendAll_95 ?_
    refine wp_iload_n dX12_sendAll_97 rfl ?_
    refine wp_iadd dX12_sendAll_98 ⟨by omega, by omega⟩ ?_
    refine wp_sipush dX12_sendAll_99 ?_
    refine wp_aload_n dX12_sendAll_102 rfl ?_
    refine wp_iload_n dX12_sendAll_103 rfl ?_
    refine wp_bipush dX12_sendAll_104 ?_
    refine wp_iload_n dX12_sendAll_106 rfl ?_
    refine wp_iadd dX12_sendAll_107 ⟨by omega, by omega⟩ ?_
    refine wp_callV (as := [_, _]) (ls0 := [_, _, _]) (kc := 0) (ks := 0) (bc' := 0) (bs' := 0) dX12_sendAll_108 vX12_161 rfl rfl rfl (Nat.le_of_ble_eq_true rfl) (Nat.le_of_ble_eq_true rfl) (by omega) (by omega) ?_
    refine s_of (by omega) (by omega) ?_
    refine wp_iconst dX12_sendAll_111 ?_
    refine wp_iadd dX12_sendAll_112 ⟨by omega, by omega⟩ ?_
    refine wp_mmin dX12_sendAll_113 (by omega) (Nat.le_of_ble_eq_true rfl) nX12_194 q_min ?_
    refine wp_callV (as := [_, _, _]) (ls0 := [_, _, _, _]) (kc := 0) (ks := 0) (bc' := 0) (bs' := 0) dX12_sendAll_116 vX12_141 rfl rfl rfl (Nat.le_of_ble_eq_true rfl) (Nat.le_of_ble_eq_true rfl) (by omega) (by omega) ?_
    refine s_set (by omega) (by omega) ?_
    rw [show up N (61 * p + (6 + i)) (if N (61 * p + (6 + i)) + 1 < 999 then N (61 * p + (6 + i)) + 1 else 999) = sn1 N p i from rfl]
    refine wp_aload_n dX12_sendAll_119 rfl ?_
    refine wp_iload_n dX12_sendAll_120 rfl ?_
    refine wp_aload_n dX12_sendAll_121 rfl ?_
    refine wp_iload_n dX12_sendAll_122 rfl ?_
    refine wp_iconst dX12_sendAll_123 ?_
    refine wp_iload_n dX12_sendAll_124 rfl ?_
    refine wp_callV (as := [_, _, _]) (ls0 := [_, _, _, _]) (kc := 0) (ks := 0) (bc' := 0) (bs' := 0) dX12_sendAll_125 vX12_167 rfl rfl rfl (Nat.le_of_ble_eq_true rfl) (Nat.le_of_ble_eq_true rfl) (by omega) (by omega) ?_
    refine s_cellOf (by omega) (by omega) (by omega) ?_
    refine wp_callV (as := [_, _]) (ls0 := [_, _, _, _, _]) (kc := 0) (ks := 0) (bc' := 0) (bs' := 0) dX12_sendAll_128 vX12_277 rfl rfl rfl (Nat.le_of_ble_eq_true rfl) (Nat.le_of_ble_eq_true rfl) (by omega) (by omega) ?_
    refine s_isGot hp hPr hPr2 hBs (by rw [hSs.2 368 (by decide)]; exact hfr) (by rw [hSs.2 366 (by decide)]; exact hj) (fun a x y => hs6 a x (by omega)) hcx (fun h128 => ?_) (fun h128 => ?_)
    · refine wp_if_eq (tgt := 196) dX12_sendAll_131 rfl (fun q => absurd q (by decide)) (fun _ => ?_)
      refine wp_aload_n dX12_sendAll_134 rfl ?_
      refine wp_iload_n dX12_sendAll_135 rfl ?_
      refine wp_bipush dX12_sendAll_136 ?_
      refine wp_iload_n dX12_sendAll_138 rfl ?_
      refine wp_iadd dX12_sendAll_139 ⟨by omega, by omega⟩ ?_
      refine wp_sipush dX12_sendAll_140 ?_
      refine wp_aload_n dX12_sendAll_143 rfl ?_
      refine wp_iload_n dX12_sendAll_144 rfl ?_
      refine wp_bipush dX12_sendAll_145 ?_
      refine wp_iload_n dX12_sendAll_147 rfl ?_
      refine wp_iadd dX12_sendAll_148 ⟨by omega, by omega⟩ ?_
      refine wp_callV (as := [_, _]) (ls0 := [_, _, _]) (kc := 0) (ks := 0) (bc' := 0) (bs' := 0) dX12_sendAll_149 vX12_161 rfl rfl rfl (Nat.le_of_ble_eq_true rfl) (Nat.le_of_ble_eq_true rfl) (by omega) (by omega) ?_
      refine s_of (by omega) (by omega) ?_
      refine wp_iconst dX12_sendAll_152 ?_
      refine wp_iadd dX12_sendAll_153 ⟨by omega, by omega⟩ ?_
      refine wp_mmin dX12_sendAll_154 (by omega) (Nat.le_of_ble_eq_true rfl) nX12_194 q_min ?_
      refine wp_callV (as := [_, _, _]) (ls0 := [_, _, _, _]) (kc := 0) (ks := 0) (bc' := 0) (bs' := 0) dX12_sendAll_157 vX12_141 rfl rfl rfl (Nat.le_of_ble_eq_true rfl) (Nat.le_of_ble_eq_true rfl) (by omega) (by omega) ?_
      refine s_set (by omega) (by omega) ?_
      refine wp_aload_n dX12_sendAll_160 rfl ?_
      refine wp_iload_n dX12_sendAll_161 rfl ?_
      refine wp_bipush dX12_sendAll_162 ?_
      refine wp_aload_n dX12_sendAll_164 rfl ?_
      refine wp_iload_n dX12_sendAll_165 rfl ?_
      refine wp_bipush dX12_sendAll_166 ?_
      refine wp_callV (as := [_, _]) (ls0 := [_, _, _]) (kc := 0) (ks := 0) (bc' := 0) (bs' := 0) dX12_sendAll_168 vX12_161 rfl rfl rfl (Nat.le_of_ble_eq_true rfl) (Nat.le_of_ble_eq_true rfl) (by omega) (by omega) ?_
      refine s_of (by omega) (by omega) ?_
      rw [up_n (by omega)]
      refine wp_iconst dX12_sendAll_171 ?_
      refine wp_isub dX12_sendAll_172 ⟨by omega, by omega⟩ ?_
      refine wp_callV (as := [_, _, _]) (ls0 := [_, _, _, _]) (kc := 0) (ks := 0) (bc' := 0) (bs' := 0) dX12_sendAll_173 vX12_141 rfl rfl rfl (Nat.le_of_ble_eq_true rfl) (Nat.le_of_ble_eq_true rfl) (by omega) (by omega) ?_
      refine s_set (by omega) (by omega) ?_
      rw [show up (up (sn1 N p i) (61 * p + (12 + i)) (if sn1 N p i (61 * p + (12 + i)) + 1 < 999 then sn1 N p i (61 * p + (12 + i)) + 1 else 999)) (61 * p + 57) (sn1 N p i (61 * p + 57) - 1) = gt1 (sn1 N p i) p i by unfold gt1; rw [up_n (k := 61 * p + (12 + i)) (j := 61 * p + 57) (by omega)]; rfl]
      refine wp_aload_n dX12_sendAll_176 rfl ?_
      refine wp_getR rfl dX12_sendAll_177 fX12_41 rfl ?_
      refine wp_iload_n dX12_sendAll_180 rfl ?_
      refine wp_dup2 dX12_sendAll_181 rfl rfl ?_
      refine wp_iald dX12_sendAll_182 rfl (by omega) (by omega) ?_
      try simp only [ST0, ST5, ST6, ST7, ST8, ST10, ST11, ST12, ST13]
      refine wp_iconst dX12_sendAll_183 ?_
      refine wp_iadd_w dX12_sendAll_184 ?_
      refine wp_iast dX12_sendAll_185 rfl (by omega) (by omega) ?_
      try simp only [STu0, STu8, STu10, STu11, STu12, STu13]
      refine wp_aload_n dX12_sendAll_186 rfl ?_
      refine wp_dup dX12_sendAll_187 rfl ?_
      refine wp_getI dX12_sendAll_188 fX12_274 rfl ?_
      try simp only [ST0, ST5, ST6, ST7, ST8, ST10, ST11, ST12, ST13]
      refine wp_iconst dX12_sendAll_191 ?_
      refine wp_iadd dX12_sendAll_192 ⟨by omega, by omega⟩ ?_
      refine wp_putI dX12_sendAll_193 fX12_274 rfl ?_
      try simp only [STu0, STu8, STu10, STu11, STu12, STu13]
      refine wp_iinc (ls' := [_, _, _]) dX12_sendAll_196 (by decide) rfl rfl ⟨by omega, by omega⟩ rfl ?_
      refine wp_goto (tgt := 83) dX12_sendAll_199 rfl ?_
      first
      | (have hQ : Got iv F N1 (sdv N1) p (N (61 * p + (bq 0 + i))) := by rw [hcell0, ← hcell]; exact (hgot _).mp h128
         have hQ1 : Got iv F N1 (sdv N1) p (N1 (61 * p + (bq 0 + i))) := by rw [← hcell0]; exact hQ
         refine ih _ _ _ _ (by omega) (by omega) (fun j hj => by rw [up_n hj]; exact hF2 j hj) (by rw [up_s]; omega) (hBs.bgt hp hi (by omega)) (hSs.gt hp hi) (by rw [gt1_57 hi, sn1_57 hi]; omega) (fun F3 G' i' a1 a2 a3 a4 => ?_)
         rw [sdN_t hQ, sdC_t hQ1] at k
         refine k F3 G' i' a1 (by rw [a2, up_s]; omega) (fun a ha => by rw [a3 a ha, up_n ha]) (fun x y => ?_)
         rw [up_s, wI_eq ⟨by omega, by omega⟩] at a4
         rw [a4 (by omega) (by omega)]
         omega)
      | (have hQ : ¬ Got iv F N1 (sdv N1) p (N (61 * p + (bq 0 + i))) := by rw [hcell0, ← hcell]; exact fun z => h128 ((hgot _).mpr z)
         have hQ1 : ¬ Got iv F N1 (sdv N1) p (N1 (61 * p + (bq 0 + i))) := by rw [← hcell0]; exact hQ
         refine ih _ _ _ _ (by omega) (by omega) hF2 (by omega) hBs hSs (by rw [sn1_57 hi]; omega) (fun F3 G' i' a1 a2 a3 a4 => ?_)
         rw [sdN_f hQ, sdC_f hQ1] at k
         exact k F3 G' i' a1 a2 a3 (fun x y => a4 x (by omega)))
    · refine wp_if_eq (tgt := 196) dX12_sendAll_131 rfl (fun _ => ?_) (fun q => absurd q (by decide))
      refine wp_iinc (ls' := [_, _, _]) dX12_sendAll_196 (by decide) rfl rfl ⟨by omega, by omega⟩ rfl ?_
      refine wp_goto (tgt := 83) dX12_sendAll_199 rfl ?_
      first
      | (have hQ : Got iv F N1 (sdv N1) p (N (61 * p + (bq 0 + i))) := by rw [hcell0, ← hcell]; exact (hgot _).mp h128
         have hQ1 : Got iv F N1 (sdv N1) p (N1 (61 * p + (bq 0 + i))) := by rw [← hcell0]; exact hQ
         refine ih _ _ _ _ (by omega) (by omega) (fun j hj => by rw [up_n hj]; exact hF2 j hj) (by rw [up_s]; omega) (hBs.bgt hp hi (by omega)) (hSs.gt hp hi) (by rw [gt1_57 hi, sn1_57 hi]; omega) (fun F3 G' i' a1 a2 a3 a4 => ?_)
         rw [sdN_t hQ, sdC_t hQ1] at k
         refine k F3 G' i' a1 (by rw [a2, up_s]; omega) (fun a ha => by rw [a3 a ha, up_n ha]) (fun x y => ?_)
         rw [up_s, wI_eq ⟨by omega, by omega⟩] at a4
         rw [a4 (by omega) (by omega)]
         omega)
      | (have hQ : ¬ Got iv F N1 (sdv N1) p (N (61 * p + (bq 0 + i))) := by rw [hcell0, ← hcell]; exact fun z => h128 ((hgot _).mpr z)
         have hQ1 : ¬ Got iv F N1 (sdv N1) p (N1 (61 * p + (bq 0 + i))) := by rw [← hcell0]; exact hQ
         refine ih _ _ _ _ (by omega) (by omega) hF2 (by omega) hBs hSs (by rw [sn1_57 hi]; omega) (fun F3 G' i' a1 a2 a3 a4 => ?_)
         rw [sdN_f hQ, sdC_f hQ1] at k
         exact k F3 G' i' a1 a2 a3 (fun x y => a4 x (by omega)))
end R13
