/-! ===== how many bits ===== -/
def popc (n : Nat) : Int := (n.testBit 0).toNat + (n.testBit 1).toNat + (n.testBit 2).toNat + (n.testBit 3).toNat + (n.testBit 4).toNat + (n.testBit 5).toNat
def bcA (x : Int) : Int := x - ((((if (1 : Int) = 0 then x else x % 4294967296 / 2 ^ (1 : Int).toNat).toNat &&& (1431655765 : Int).toNat : Nat)) : Int)
def bcB (x : Int) : Int := (((bcA x).toNat &&& (858993459 : Int).toNat : Nat) : Int) + ((((if (2 : Int) = 0 then bcA x else bcA x % 4294967296 / 2 ^ (2 : Int).toNat).toNat &&& (858993459 : Int).toNat : Nat)) : Int)
def bcC (x : Int) : Int := bcB x + (if (4 : Int) = 0 then bcB x else bcB x % 4294967296 / 2 ^ (4 : Int).toNat)
def bcD (x : Int) : Int := (((bcC x).toNat &&& (252645135 : Int).toNat : Nat) : Int)
def bcE (x : Int) : Int := bcD x + (if (8 : Int) = 0 then bcD x else bcD x % 4294967296 / 2 ^ (8 : Int).toNat)
def bcF (x : Int) : Int := bcE x + (if (16 : Int) = 0 then bcE x else bcE x % 4294967296 / 2 ^ (16 : Int).toNat)
def bcG (x : Int) : Int := (((bcF x).toNat &&& (63 : Int).toNat : Nat) : Int)
theorem bc_d : ∀ n : Fin 64, (0 ≤ bcA n.val ∧ bcA n.val < 64) ∧ (0 ≤ bcB n.val ∧ bcB n.val < 128) ∧ (0 ≤ bcC n.val ∧ bcC n.val < 256) ∧ (0 ≤ bcD n.val ∧ bcD n.val < 256) ∧ (0 ≤ bcE n.val ∧ bcE n.val < 512) ∧ (0 ≤ bcF n.val ∧ bcF n.val < 512) ∧ bcG n.val = popc n.val := by decide +kernel
theorem bc_r {x : Int} (h : 0 ≤ x ∧ x < 64) : (0 ≤ bcA x ∧ bcA x < 64) ∧ (0 ≤ bcB x ∧ bcB x < 128) ∧ (0 ≤ bcC x ∧ bcC x < 256) ∧ (0 ≤ bcD x ∧ bcD x < 256) ∧ (0 ≤ bcE x ∧ bcE x < 512) ∧ (0 ≤ bcF x ∧ bcF x < 512) ∧ bcG x = popc x.toNat := by
  have := bc_d ⟨x.toNat, by omega⟩
  rw [show (((⟨x.toNat, by omega⟩ : Fin 64).val : Nat) : Int) = x by show ((x.toNat : Nat) : Int) = x; omega] at this
  exact this
noncomputable def cn1 (P : Prop) : Int := @ite _ P (Classical.propDecidable _) 1 0
theorem cn1_t {P : Prop} (h : P) : cn1 P = 1 := if_pos h
theorem cn1_f {P : Prop} (h : ¬ P) : cn1 P = 0 := if_neg h
/-- of how many below n it holds -/
noncomputable def cntP (Q : Int → Prop) : Nat → Int
  | 0 => 0
  | m + 1 => cntP Q m + cn1 (Q m)
theorem cntP_c {Q Q' : Int → Prop} (m : Nat) (h : ∀ a : Int, 0 ≤ a → a < m → (Q a ↔ Q' a)) : cntP Q m = cntP Q' m := by
  induction m with
  | zero => rfl
  | succ m ih => rw [cntP, cntP, ih (fun a x y => h a x (by omega)), show Q (m : Int) = Q' (m : Int) from propext (h m (by omega) (by omega))]
theorem cntP_r {Q : Int → Prop} (m : Nat) : 0 ≤ cntP Q m ∧ cntP Q m ≤ m := by
  induction m with
  | zero => exact ⟨Int.le_refl _, Int.le_refl _⟩
  | succ m ih => rw [cntP]; unfold cn1; split <;> omega
theorem cntP_z {Q : Int → Prop} (n : Nat) (h : ∀ a : Int, (n : Int) ≤ a → ¬ Q a) (k : Nat) : cntP Q (n + k) = cntP Q n := by
  induction k with
  | zero => rfl
  | succ k ih => rw [← Nat.add_assoc, cntP, ih, cn1_f (h _ (by omega))]; omega
theorem bt_bool {x s : Int} (hx : 0 ≤ x) : (((x.toNat.testBit s.toNat).toNat : Nat) : Int) = cn1 (bt x s) := by
  by_cases h : bt x s
  · rw [cn1_t h, (bt_tb hx).mp h]; rfl
  · rw [cn1_f h, show x.toNat.testBit s.toNat = false from by
      cases hh : x.toNat.testBit s.toNat with
      | false => rfl
      | true => exact absurd ((bt_tb hx).mpr hh) h]; rfl
theorem popc_bt {x : Int} {P : Int → Prop} (h : Bts x P) : popc x.toNat = cntP P 6 := by
  have e : ∀ s : Nat, s < 6 → (((x.toNat.testBit s).toNat : Nat) : Int) = cn1 (P s) := fun s hs => by
    have := bt_bool (x := x) (s := (s : Int)) h.1
    rw [show ((s : Int)).toNat = s by omega] at this
    rw [this, show bt x (s : Int) = P s from propext (h.2.2 s (by omega) (by omega))]
  unfold popc
  rw [e 0 (by omega), e 1 (by omega), e 2 (by omega), e 3 (by omega), e 4 (by omega), e 5 (by omega)]
  simp only [cntP]
  omega
theorem Bts.lt64 {x : Int} {P : Int → Prop} (h : Bts x P) (hP : ∀ s : Int, 0 ≤ s → P s → s < 6) : x < 64 := by
  have h1 : x.toNat < 2 ^ 6 := by
    refine Nat.lt_pow_two_of_testBit _ (fun i hi => ?_)
    cases hh : x.toNat.testBit i with
    | false => rfl
    | true =>
      exfalso
      by_cases h16 : i < 16
      · have hb : bt x (i : Int) := (bt_tb h.1).mpr (by rw [show ((i : Int)).toNat = i by omega]; exact hh)
        have := hP i (by omega) ((h.2.2 i (by omega) (by omega)).mp hb)
        omega
      · have : x.toNat < 2 ^ i := Nat.lt_of_lt_of_le (show x.toNat < 2 ^ 16 by have := h.2.1; omega) (Nat.pow_le_pow_right (by decide) (by omega))
        rw [Nat.testBit_lt_two_pow this] at hh
        cases hh
  omega
/-- the bits of a set -/
noncomputable def bsv (P : Int → Prop) : Int := Classical.epsilon (fun x => Bts x P)
theorem Bts.v {x : Int} {P : Int → Prop} (h : Bts x P) : x = bsv P := h.ext (Classical.epsilon_spec (p := fun x => Bts x P) ⟨x, h⟩)
theorem Bts.or0 {x y : Int} {P : Int → Prop} (h : Bts x P) (hy : y = 0) : Bts (((x.toNat ||| y.toNat : Nat) : Int)) P := by
  rw [hy, show (0 : Int).toNat = 0 from rfl, Nat.or_zero, show ((x.toNat : Nat) : Int) = x by have := h.1; omega]; exact h
/-- the pairs below p of which Q holds -/
def Blw (Q : Int → Prop) (p : Int) : Int → Prop := fun s => 0 ≤ s ∧ s < p ∧ Q s
theorem Blw0 {Q : Int → Prop} {s : Int} : Blw Q 0 s ↔ False := ⟨fun h => by unfold Blw at h; omega, False.elim⟩
theorem Bts.b0 {Q : Int → Prop} : Bts 0 (Blw Q 0) := Bts.zero.cg (fun s _ _ => Blw0.symm)
theorem Bts.bt {Q : Int → Prop} {x p : Int} (h : Bts x (Blw Q p)) (hp : 0 ≤ p ∧ p < 16) (hq : Q p) : Bts (((x.toNat ||| (1 * 2 ^ p.toNat : Int).toNat : Nat) : Int)) (Blw Q (p + 1)) :=
  (h.or (Bts.one hp)).cg (fun s h0 _ => by
    unfold Blw
    constructor
    · rintro (⟨a, b, c⟩ | rfl)
      · exact ⟨a, by omega, c⟩
      · exact ⟨h0, by omega, hq⟩
    · rintro ⟨a, b, c⟩
      by_cases e : p = s
      · exact Or.inr e
      · exact Or.inl ⟨a, by omega, c⟩)
theorem Bts.bf {Q : Int → Prop} {x p : Int} (h : Bts x (Blw Q p)) (hq : ¬ Q p) : Bts x (Blw Q (p + 1)) :=
  h.cg (fun s h0 _ => by
    unfold Blw
    constructor
    · rintro ⟨a, b, c⟩; exact ⟨a, by omega, c⟩
    · rintro ⟨a, b, c⟩
      by_cases e : s = p
      · exact absurd (e ▸ c) hq
      · exact ⟨a, by omega, c⟩)
theorem Bts.bf0 {Q : Int → Prop} {x y p : Int} (h : Bts x (Blw Q p)) (hq : ¬ Q p) (hy : y = 0) : Bts (((x.toNat ||| y.toNat : Nat) : Int)) (Blw Q (p + 1)) := (h.bf hq).or0 hy
theorem cnt_blw {Q : Int → Prop} {n : Int} (hn : 0 ≤ n ∧ n ≤ 6) : cntP (Blw Q n) 6 = cntP Q n.toNat := by
  obtain ⟨k, hk⟩ : ∃ k : Nat, 6 = n.toNat + k := ⟨6 - n.toNat, by omega⟩
  rw [hk, cntP_z _ (fun a ha h => by unfold Blw at h; omega)]
  exact cntP_c _ (fun a x y => ⟨fun h => h.2.2, fun h => ⟨x, by omega, h⟩⟩)
section R17
variable {d : Nat} {iv lw : aF} {F N G O T S : Int → Int} {R : aPost}
abbrev LtP (N : Int → Int) : Int → Prop := fun p => N (61 * p + 43) = 1
theorem s_bitCount {x : Int} {sh : aSh} {rv : aP} (hx : 0 ≤ x ∧ x < 64) (k : R (some (aI (popc x.toNat))) sh iv lw rv) : wp d mJ6_bitCount_0f7a4 0 [some (aI x)] [] sh iv lw rv 0 0 R := by
  obtain ⟨qA, qB, qC, qD, qE, qF, qG⟩ := bc_r hx
  rw [← qG] at k
  refine wp_iload_n dJ6_bitCount_0f7a4_0 rfl ?_
  refine wp_iload_n dJ6_bitCount_0f7a4_1 rfl ?_
  refine wp_iconst dJ6_bitCount_0f7a4_2 ?_
  refine wp_iushr dJ6_bitCount_0f7a4_3 (by decide) (by decide) ?_
  refine wp_ldcw (v := 1431655765) dJ6_bitCount_0f7a4_4 zJ6_265 rfl ⟨by decide, by decide⟩ ?_
  refine wp_iand dJ6_bitCount_0f7a4_7 (by show 0 ≤ (if (1 : Int) = 0 then x else x % 4294967296 / 2 ^ (1 : Int).toNat); rw [if_neg (by decide)]; exact Int.ediv_nonneg (by omega) (by decide)) (by decide) ?_
  refine wp_isub dJ6_bitCount_0f7a4_8 (show iR (bcA x) from ⟨by omega, by omega⟩) ?_
  refine wp_istore_n (ls' := [_]) dJ6_bitCount_0f7a4_9 (by decide) rfl rfl ?_
  refine wp_iload_n dJ6_bitCount_0f7a4_10 rfl ?_
  refine wp_ldcw (v := 858993459) dJ6_bitCount_0f7a4_11 zJ6_266 rfl ⟨by decide, by decide⟩ ?_
  refine wp_iand dJ6_bitCount_0f7a4_14 (by show 0 ≤ bcA x; omega) (by decide) ?_
  refine wp_iload_n dJ6_bitCount_0f7a4_15 rfl ?_
  refine wp_iconst dJ6_bitCount_0f7a4_16 ?_
  refine wp_iushr dJ6_bitCount_0f7a4_17 (by decide) (by decide) ?_
  refine wp_ldcw (v := 858993459) dJ6_bitCount_0f7a4_18 zJ6_266 rfl ⟨by decide, by decide⟩ ?_
  refine wp_iand dJ6_bitCount_0f7a4_21 (by show 0 ≤ (if (2 : Int) = 0 then bcA x else bcA x % 4294967296 / 2 ^ (2 : Int).toNat); rw [if_neg (by decide)]; exact Int.ediv_nonneg (by omega) (by decide)) (by decide) ?_
  refine wp_iadd dJ6_bitCount_0f7a4_22 (show iR (bcB x) from ⟨by omega, by omega⟩) ?_
  refine wp_istore_n (ls' := [_]) dJ6_bitCount_0f7a4_23 (by decide) rfl rfl ?_
  refine wp_iload_n dJ6_bitCount_0f7a4_24 rfl ?_
  refine wp_iload_n dJ6_bitCount_0f7a4_25 rfl ?_
  refine wp_iconst dJ6_bitCount_0f7a4_26 ?_
  refine wp_iushr dJ6_bitCount_0f7a4_27 (by decide) (by decide) ?_
  refine wp_iadd dJ6_bitCount_0f7a4_28 (show iR (bcC x) from ⟨by omega, by omega⟩) ?_
  refine wp_ldcw (v := 252645135) dJ6_bitCount_0f7a4_29 zJ6_267 rfl ⟨by decide, by decide⟩ ?_
  refine wp_iand dJ6_bitCount_0f7a4_32 (by show 0 ≤ bcC x; omega) (by decide) ?_
  refine wp_istore_n (ls' := [_]) dJ6_bitCount_0f7a4_33 (by decide) rfl rfl ?_
  refine wp_iload_n dJ6_bitCount_0f7a4_34 rfl ?_
  refine wp_iload_n dJ6_bitCount_0f7a4_35 rfl ?_
  refine wp_bipush dJ6_bitCount_0f7a4_36 ?_
  refine wp_iushr dJ6_bitCount_0f7a4_38 (by decide) (by decide) ?_
  refine wp_iadd dJ6_bitCount_0f7a4_39 (show iR (bcE x) from ⟨by omega, by omega⟩) ?_
  refine wp_istore_n (ls' := [_]) dJ6_bitCount_0f7a4_40 (by decide) rfl rfl ?_
  refine wp_iload_n dJ6_bitCount_0f7a4_41 rfl ?_
  refine wp_iload_n dJ6_bitCount_0f7a4_42 rfl ?_
  refine wp_bipush dJ6_bitCount_0f7a4_43 ?_
  refine wp_iushr dJ6_bitCount_0f7a4_45 (by decide) (by decide) ?_
  refine wp_iadd dJ6_bitCount_0f7a4_46 (show iR (bcF x) from ⟨by omega, by omega⟩) ?_
  refine wp_istore_n (ls' := [_]) dJ6_bitCount_0f7a4_47 (by decide) rfl rfl ?_
  refine wp_iload_n dJ6_bitCount_0f7a4_48 rfl ?_
  refine wp_bipush dJ6_bitCount_0f7a4_49 ?_
  refine wp_iand dJ6_bitCount_0f7a4_51 (by show 0 ≤ bcF x; omega) (by decide) ?_
  refine wp_ireturn dJ6_bitCount_0f7a4_52 rfl ?_
  exact k
theorem l_letterPairs (hP : Prm iv F) (k : ∀ x, Bts x (Blw (LtP N) (F 13)) → R (some (aI x)) SHR (ST iv F N G O T S) lw RVR) (m : Nat) : ∀ p x : Int, 0 ≤ p → p + m = F 13 → Bts x (Blw (LtP N) p) → wp (d + 1) mX12_letterPairs 4 [some (aR 0), some (aI x), some (aI p)] [] SHR (ST iv F N G O T S) lw RVR 0 0 R := by
  obtain ⟨hW1, hW2, hO1, hO2, hT1, hT2, hI1, hI2, hF1, hF2⟩ := id hP
  induction m with
  | zero =>
    intro p x h0 hm hx
    refine wp_iload_n dX12_letterPairs_4 rfl ?_
    refine wp_aload_n dX12_letterPairs_5 rfl ?_
    refine wp_getI dX12_letterPairs_6 fX12_138 rfl ?_
    try simp only [ST0, ST5, ST6, ST7, ST8, ST10, ST11, ST12, ST13]
    refine wp_icmp_ge (tgt := 39) dX12_letterPairs_9 rfl (fun h9 => ?_) (fun h9 => by exfalso; omega)
    refine wp_iload_n dX12_letterPairs_39 rfl ?_
    refine wp_ireturn dX12_letterPairs_40 rfl ?_
    exact k _ (by rw [show F 13 = p by omega]; exact hx)
  | succ m ih =>
    intro p x h0 hm hx
    have hx1 := hx.1
    have h2 := p2_r (k := p) (by omega)
    refine wp_iload_n dX12_letterPairs_4 rfl ?_
    refine wp_aload_n dX12_letterPairs_5 rfl ?_
    refine wp_getI dX12_letterPairs_6 fX12_138 rfl ?_
    try simp only [ST0, ST5, ST6, ST7, ST8, ST10, ST11, ST12, ST13]
    refine wp_icmp_ge (tgt := 39) dX12_letterPairs_9 rfl (fun h9 => by exfalso; omega) (fun h9 => ?_)
    refine wp_iload_n dX12_letterPairs_12 rfl ?_
    refine wp_aload_n dX12_letterPairs_13 rfl ?_
    refine wp_iload_n dX12_letterPairs_14 rfl ?_
    refine wp_bipush dX12_letterPairs_15 ?_
    refine wp_callV (as := [_, _]) (ls0 := [_, _, _]) (kc := 0) (ks := 0) (bc' := 0) (bs' := 0) dX12_letterPairs_17 vX12_161 rfl rfl rfl (Nat.le_of_ble_eq_true rfl) (Nat.le_of_ble_eq_true rfl) (by omega) (by omega) ?_
    refine s_of (by omega) (by omega) ?_
    refine wp_iconst dX12_letterPairs_20 ?_
    refine wp_icmp_ne (tgt := 30) dX12_letterPairs_21 rfl (fun h21 => ?_) (fun h21 => ?_)
    · refine wp_iconst dX12_letterPairs_30 ?_
      refine wp_ior dX12_letterPairs_31 (by omega) (by omega) ?_
      refine wp_istore_n (ls' := [_, _, _]) dX12_letterPairs_32 (by decide) rfl rfl ?_
      refine wp_iinc (ls' := [_, _, _]) dX12_letterPairs_33 (by decide) rfl rfl ⟨by omega, by omega⟩ rfl ?_
      refine wp_goto (tgt := 4) dX12_letterPairs_36 rfl ?_
      exact ih _ _ (by omega) (by omega) (by first | exact hx.bf0 h21 rfl | exact hx.bt (by omega) (Classical.not_not.mp h21) | exact hx.bt (by omega) h21)
    · refine wp_iconst dX12_letterPairs_24 ?_
      refine wp_iload_n dX12_letterPairs_25 rfl ?_
      refine wp_ishl dX12_letterPairs_26 (by omega) (by omega) (by exact ⟨by omega, by omega⟩) ?_
      refine wp_goto (tgt := 31) dX12_letterPairs_27 rfl ?_
      refine wp_ior dX12_letterPairs_31 (by omega) (by omega) ?_
      refine wp_istore_n (ls' := [_, _, _]) dX12_letterPairs_32 (by decide) rfl rfl ?_
      refine wp_iinc (ls' := [_, _, _]) dX12_letterPairs_33 (by decide) rfl rfl ⟨by omega, by omega⟩ rfl ?_
      refine wp_goto (tgt := 4) dX12_letterPairs_36 rfl ?_
      exact ih _ _ (by omega) (by omega) (by first | exact hx.bf0 h21 rfl | exact hx.bt (by omega) (Classical.not_not.mp h21) | exact hx.bt (by omega) h21)
theorem s_letterPairs (hP : Prm iv F) (k : ∀ x, Bts x (Blw (LtP N) (F 13)) → R (some (aI x)) SHR (ST iv F N G O T S) lw RVR) : wp (d + 1) mX12_letterPairs 0 [some (aR 0), none, none] [] SHR (ST iv F N G O T S) lw RVR 0 0 R := by
  obtain ⟨hW1, hW2, hO1, hO2, hT1, hT2, hI1, hI2, hF1, hF2⟩ := id hP
  refine wp_iconst dX12_letterPairs_0 ?_
  refine wp_istore_n (ls' := [_, _, _]) dX12_letterPairs_1 (by decide) rfl rfl ?_
  refine wp_iconst dX12_letterPairs_2 ?_
  refine wp_istore_n (ls' := [_, _, _]) dX12_letterPairs_3 (by decide) rfl rfl ?_
  exact l_letterPairs hP k (F 13).toNat _ _ (by omega) (by omega) Bts.b0
/-- how many cells of the sender's table the receiver's has -/
noncomputable def shP (N : Int → Int) (p : Int) : Int := cntP (fun i => ¬ plc N p 1 (N (61 * p + (0 + i))) = -1) (N (61 * p + 18)).toNat
noncomputable def shA (N : Int → Int) : Nat → Int
  | 0 => 0
  | m + 1 => shA N m + shP N m
theorem shP_r {p : Int} (h : 0 ≤ N (61 * p + 18) ∧ N (61 * p + 18) ≤ 6) : 0 ≤ shP N p ∧ shP N p ≤ 6 := by
  have := cntP_r (Q := fun i => ¬ plc N p 1 (N (61 * p + (0 + i))) = -1) (N (61 * p + 18)).toNat
  unfold shP; omega
theorem shA_r {W Of : Int} (hB : Bok W Of N) (m : Nat) (hm : m ≤ 6) : 0 ≤ shA N m ∧ shA N m ≤ 6 * m := by
  induction m with
  | zero => exact ⟨Int.le_refl _, Int.le_refl _⟩
  | succ m ih => have h1 := ih (by omega); have h2 := shP_r (N := N) (p := m) (hB.v18 (by omega)); rw [shA]; omega
theorem toN1 {p : Int} (h : 0 ≤ p) : (p + 1).toNat = p.toNat + 1 := by omega
theorem toNI {p : Int} (h : 0 ≤ p) : ((p.toNat : Nat) : Int) = p := by omega
theorem l_shared1 {p n : Int} (hp : 0 ≤ p ∧ p < 6) (hP : Prm iv F) (hB : Bok (iv 5 0) (iv 5 1) N) (hn : 0 ≤ n ∧ n ≤ 36) (k : ∀ v3, wp (d + 3) mX12_sharedCells 56 [some (aR 0), some (aI (n + shP N p)), some (aI p), some v3] [] SHR (ST iv F N G O T S) lw RVR 0 0 R) (m : Nat) : ∀ i x : Int, 0 ≤ i → i + m = N (61 * p + 18) → x = n + cntP (fun i => ¬ plc N p 1 (N (61 * p + (0 + i))) = -1) i.toNat → wp (d + 3) mX12_sharedCells 14 [some (aR 0), some (aI x), some (aI p), some (aI i)] [] SHR (ST iv F N G O T S) lw RVR 0 0 R := by
  obtain ⟨hW1, hW2, hO1, hO2, hT1, hT2, hI1, hI2, hF1, hF2⟩ := id hP
  have h18 := hB.v18 hp
  induction m with
  | zero =>
    intro i x h0 hm hx
    refine wp_iload_n dX12_sharedCells_14 rfl ?_
    refine wp_aload_n dX12_sharedCells_15 rfl ?_
    refine wp_iload_n dX12_sharedCells_16 rfl ?_
    refine wp_bipush dX12_sharedCells_17 ?_
    refine wp_callV (as := [_, _]) (ls0 := [_, _, _]) (kc := 0) (ks := 0) (bc' := 0) (bs' := 0) dX12_sharedCells_19 vX12_161 rfl rfl rfl (Nat.le_of_ble_eq_true rfl) (Nat.le_of_ble_eq_true rfl) (by omega) (by omega) ?_
    refine s_of (by omega) (by omega) ?_
    refine wp_icmp_ge (tgt := 56) dX12_sharedCells_22 rfl (fun h22 => ?_) (fun h22 => by exfalso; omega)
    rw [hx, show i = N (61 * p + 18) by omega]; exact k _
  | succ m ih =>
    intro i x h0 hm hx
    have hr := cntP_r (Q := fun i => ¬ plc N p 1 (N (61 * p + (0 + i))) = -1) i.toNat
    refine wp_iload_n dX12_sharedCells_14 rfl ?_
    refine wp_aload_n dX12_sharedCells_15 rfl ?_
    refine wp_iload_n dX12_sharedCells_16 rfl ?_
    refine wp_bipush dX12_sharedCells_17 ?_
    refine wp_callV (as := [_, _]) (ls0 := [_, _, _]) (kc := 0) (ks := 0) (bc' := 0) (bs' := 0) dX12_sharedCells_19 vX12_161 rfl rfl rfl (Nat.le_of_ble_eq_true rfl) (Nat.le_of_ble_eq_true rfl) (by omega) (by omega) ?_
    refine s_of (by omega) (by omega) ?_
    refine wp_icmp_ge (tgt := 56) dX12_sharedCells_22 rfl (fun h22 => by exfalso; omega) (fun h22 => ?_)
    refine wp_iload_n dX12_sharedCells_25 rfl ?_
    refine wp_aload_n dX12_sharedCells_26 rfl ?_
    refine wp_iload_n dX12_sharedCells_27 rfl ?_
    refine wp_iconst dX12_sharedCells_28 ?_
    refine wp_aload_n dX12_sharedCells_29 rfl ?_
    refine wp_iload_n dX12_sharedCells_30 rfl ?_
    refine wp_iconst dX12_sharedCells_31 ?_
    refine wp_iload_n dX12_sharedCells_32 rfl ?_
    refine wp_callV (as := [_, _, _]) (ls0 := [_, _, _, _]) (kc := 0) (ks := 0) (bc' := 0) (bs' := 0) dX12_sharedCells_33 vX12_167 rfl rfl rfl (Nat.le_of_ble_eq_true rfl) (Nat.le_of_ble_eq_true rfl) (by omega) (by omega) ?_
    refine s_cellOf (by omega) (by omega) (by omega) ?_
    refine wp_callV (as := [_, _, _]) (ls0 := [_, _, _, _, _]) (kc := 0) (ks := 0) (bc' := 0) (bs' := 0) dX12_sharedCells_36 vX12_171 rfl rfl rfl (Nat.le_of_ble_eq_true rfl) (Nat.le_of_ble_eq_true rfl) (by omega) (by omega) ?_
    refine s_placeIn hp (Or.inr rfl) (hB.mny hp (Or.inr rfl)) ?_
    refine wp_iconst dX12_sharedCells_39 ?_
    refine wp_icmp_eq (tgt := 47) dX12_sharedCells_40 rfl (fun h40 => ?_) (fun h40 => ?_)
    · have hc := cn1_f (P := ¬ plc N p 1 (N (61 * p + (0 + i))) = -1) (fun z => z h40)
      refine wp_iconst dX12_sharedCells_47 ?_
      refine wp_iadd dX12_sharedCells_48 ⟨by omega, by omega⟩ ?_
      refine wp_istore_n (ls' := [_, _, _, _]) dX12_sharedCells_49 (by decide) rfl rfl ?_
      refine wp_iinc (ls' := [_, _, _, _]) dX12_sharedCells_50 (by decide) rfl rfl ⟨by omega, by omega⟩ rfl ?_
      refine wp_goto (tgt := 14) dX12_sharedCells_53 rfl ?_
      exact ih _ _ (by omega) (by omega) (by rw [toN1 h0, cntP, toNI h0]; show _ = n + (_ + cn1 (¬ plc N p 1 (N (61 * p + (0 + i))) = -1)); rw [hc]; omega)
    · have hc := cn1_t (P := ¬ plc N p 1 (N (61 * p + (0 + i))) = -1) h40
      refine wp_iconst dX12_sharedCells_43 ?_
      refine wp_goto (tgt := 48) dX12_sharedCells_44 rfl ?_
      refine wp_iadd dX12_sharedCells_48 ⟨by omega, by omega⟩ ?_
      refine wp_istore_n (ls' := [_, _, _, _]) dX12_sharedCells_49 (by decide) rfl rfl ?_
      refine wp_iinc (ls' := [_, _, _, _]) dX12_sharedCells_50 (by decide) rfl rfl ⟨by omega, by omega⟩ rfl ?_
      refine wp_goto (tgt := 14) dX12_sharedCells_53 rfl ?_
      exact ih _ _ (by omega) (by omega) (by rw [toN1 h0, cntP, toNI h0]; show _ = n + (_ + cn1 (¬ plc N p 1 (N (61 * p + (0 + i))) = -1)); rw [hc]; omega)
theorem l_shared2 (hP : Prm iv F) (hB : Bok (iv 5 0) (iv 5 1) N) (k : R (some (aI (shA N (F 13).toNat))) SHR (ST iv F N G O T S) lw RVR) (m : Nat) : ∀ (p x : Int) (v3 : Option aV), 0 ≤ p → p + m = F 13 → x = shA N p.toNat → wp (d + 3) mX12_sharedCells 4 [some (aR 0), some (aI x), some (aI p), v3] [] SHR (ST iv F N G O T S) lw RVR 0 0 R := by
  obtain ⟨hW1, hW2, hO1, hO2, hT1, hT2, hI1, hI2, hF1, hF2⟩ := id hP
  induction m with
  | zero =>
    intro p x v3 h0 hm hx
    refine wp_iload_n dX12_sharedCells_4 rfl ?_
    refine wp_aload_n dX12_sharedCells_5 rfl ?_
    refine wp_getI dX12_sharedCells_6 fX12_138 rfl ?_
    try simp only [ST0, ST5, ST6, ST7, ST8, ST10, ST11, ST12, ST13]
    refine wp_icmp_ge (tgt := 62) dX12_sharedCells_9 rfl (fun h9 => ?_) (fun h9 => by exfalso; omega)
    refine wp_iload_n dX12_sharedCells_62 rfl ?_
    refine wp_ireturn dX12_sharedCells_63 rfl ?_
    rw [hx, show p = F 13 by omega]; exact k
  | succ m ih =>
    intro p x v3 h0 hm hx
    have hp : 0 ≤ p ∧ p < 6 := by omega
    have h18 := hB.v18 hp
    have hr := shA_r hB p.toNat (by omega)
    refine wp_iload_n dX12_sharedCells_4 rfl ?_
    refine wp_aload_n dX12_sharedCells_5 rfl ?_
    refine wp_getI dX12_sharedCells_6 fX12_138 rfl ?_
    try simp only [ST0, ST5, ST6, ST7, ST8, ST10, ST11, ST12, ST13]
    refine wp_icmp_ge (tgt := 62) dX12_sharedCells_9 rfl (fun h9 => by exfalso; omega) (fun h9 => ?_)
    refine wp_iconst dX12_sharedCells_12 ?_
    refine wp_istore_n (ls' := [_, _, _, _]) dX12_sharedCells_13 (by decide) rfl rfl ?_
    refine l_shared1 (n := x) hp hP hB (by omega) (fun v3 => ?_) (N (61 * p + 18)).toNat _ _ (by omega) (by omega) (by rw [show (0 : Int).toNat = 0 from rfl, cntP]; omega)
    refine wp_iinc (ls' := [_, _, _, _]) dX12_sharedCells_56 (by decide) rfl rfl ⟨by omega, by omega⟩ rfl ?_
    refine wp_goto (tgt := 4) dX12_sharedCells_59 rfl ?_
    exact ih _ _ _ (by omega) (by omega) (by rw [toN1 h0, shA, toNI h0, hx])
theorem s_sharedCells (hP : Prm iv F) (hB : Bok (iv 5 0) (iv 5 1) N) (k : R (some (aI (shA N (F 13).toNat))) SHR (ST iv F N G O T S) lw RVR) : wp (d + 3) mX12_sharedCells 0 [some (aR 0), none, none, none] [] SHR (ST iv F N G O T S) lw RVR 0 0 R := by
  obtain ⟨hW1, hW2, hO1, hO2, hT1, hT2, hI1, hI2, hF1, hF2⟩ := id hP
  refine wp_iconst dX12_sharedCells_0 ?_
  refine wp_istore_n (ls' := [_, _, _, _]) dX12_sharedCells_1 (by decide) rfl rfl ?_
  refine wp_iconst dX12_sharedCells_2 ?_
  refine wp_istore_n (ls' := [_, _, _, _]) dX12_sharedCells_3 (by decide) rfl rfl ?_
  exact l_shared2 hP hB k (F 13).toNat _ _ _ (by omega) (by omega) rfl
end R17
