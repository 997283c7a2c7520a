theorem bt_tb {x k : Int} (hx : 0 ≤ x) : bt x k ↔ x.toNat.testBit k.toNat = true := by
  unfold bt
  obtain ⟨n, rfl⟩ : ∃ n : Nat, x = n := ⟨x.toNat, by omega⟩
  rw [Nat.testBit_eq_decide_div_mod_eq, decide_eq_true_eq, show ((n : Int) / 2 ^ k.toNat).toNat = n / 2 ^ k.toNat from by
    rw [show ((2 : Int) ^ k.toNat) = ((2 ^ k.toNat : Nat) : Int) from by rw [Int.natCast_pow]; rfl, ← Int.natCast_ediv]; exact Int.toNat_natCast _]
  rw [Int.toNat_natCast, show ((1 : Int).toNat) = 1 from rfl, Nat.and_one_is_mod]
  omega
def Bts (x : Int) (P : Int → Prop) : Prop := 0 ≤ x ∧ x < 65536 ∧ ∀ s : Int, 0 ≤ s → s < 16 → (bt x s ↔ P s)
theorem Bts.or {x y : Int} {P Q : Int → Prop} (h : Bts x P) (h2 : Bts y Q) : Bts (((x.toNat ||| y.toNat : Nat) : Int)) (fun s => P s ∨ Q s) := by
  obtain ⟨a1, a2, a3⟩ := h
  obtain ⟨b1, b2, b3⟩ := h2
  have hb : x.toNat ||| y.toNat < 2 ^ 16 := Nat.or_lt_two_pow (by omega) (by omega)
  refine ⟨by omega, by omega, fun s h0 h1 => ?_⟩
  rw [bt_tb (by omega), Int.toNat_natCast, Nat.testBit_or, Bool.or_eq_true, ← bt_tb a1, ← bt_tb b1, a3 s h0 h1, b3 s h0 h1]
theorem Bts.xor {x y : Int} {P Q : Int → Prop} (h : Bts x P) (h2 : Bts y Q) : Bts (((x.toNat ^^^ y.toNat : Nat) : Int)) (fun s => ¬ (P s ↔ Q s)) := by
  obtain ⟨a1, a2, a3⟩ := h
  obtain ⟨b1, b2, b3⟩ := h2
  have hb : x.toNat ^^^ y.toNat < 2 ^ 16 := Nat.xor_lt_two_pow (by omega) (by omega)
  refine ⟨by omega, by omega, fun s h0 h1 => ?_⟩
  show _ ↔ ¬ (P s ↔ Q s)
  rw [bt_tb (by omega), Int.toNat_natCast, Nat.testBit_xor, ← a3 s h0 h1, ← b3 s h0 h1, bt_tb a1, bt_tb b1]
  cases x.toNat.testBit s.toNat <;> cases y.toNat.testBit s.toNat <;> simp
theorem Bts.and {x y : Int} {P Q : Int → Prop} (h : Bts x P) (h2 : Bts y Q) : Bts (((x.toNat &&& y.toNat : Nat) : Int)) (fun s => P s ∧ Q s) := by
  obtain ⟨a1, a2, a3⟩ := h
  obtain ⟨b1, b2, b3⟩ := h2
  have hb : x.toNat &&& y.toNat < 2 ^ 16 := Nat.and_lt_two_pow _ (by omega)
  refine ⟨by omega, by omega, fun s h0 h1 => ?_⟩
  rw [bt_tb (by omega), Int.toNat_natCast, Nat.testBit_and, Bool.and_eq_true, ← bt_tb a1, ← bt_tb b1, a3 s h0 h1, b3 s h0 h1]
theorem p2_r {k : Int} (hk : 0 ≤ k ∧ k < 16) : 0 ≤ (1 : Int) * 2 ^ k.toNat ∧ (1 : Int) * 2 ^ k.toNat < 65536 ∧ ((1 : Int) * 2 ^ k.toNat).toNat = 2 ^ k.toNat := by
  have e : (1 : Int) * 2 ^ k.toNat = ((2 ^ k.toNat : Nat) : Int) := by rw [Int.one_mul, Int.natCast_pow]; rfl
  have h : (2 : Nat) ^ k.toNat < 2 ^ 16 := Nat.pow_lt_pow_right (by decide) (by omega)
  rw [e]
  exact ⟨Int.natCast_nonneg _, Int.ofNat_lt.mpr h, Int.toNat_natCast _⟩
theorem Bts.one {k : Int} (hk : 0 ≤ k ∧ k < 16) : Bts (1 * 2 ^ k.toNat) (fun s => k = s) := by
  obtain ⟨h1, h2, h3⟩ := p2_r hk
  refine ⟨h1, h2, fun s h0 h4 => ?_⟩
  rw [bt_tb h1, h3, Nat.testBit_two_pow, decide_eq_true_eq]
  omega
theorem Bts.zero : Bts 0 (fun _ => False) := by
  refine ⟨by decide, by decide, fun s h0 h1 => ?_⟩
  rw [bt_tb (by decide), show (0 : Int).toNat = 0 from rfl, Nat.zero_testBit]
  simp
theorem Bts.cg {x : Int} {P Q : Int → Prop} (h : Bts x P) (e : ∀ s : Int, 0 ≤ s → s < 16 → (P s ↔ Q s)) : Bts x Q := ⟨h.1, h.2.1, fun s h0 h1 => (h.2.2 s h0 h1).trans (e s h0 h1)⟩
theorem Bts.self {x : Int} (h : 0 ≤ x ∧ x < 65536) : Bts x (bt x) := ⟨h.1, h.2, fun _ _ _ => Iff.rfl⟩
theorem Bts.ext {x y : Int} {P : Int → Prop} (h : Bts x P) (h2 : Bts y P) : x = y := by
  have e : x.toNat = y.toNat := by
    refine Nat.eq_of_testBit_eq (fun i => ?_)
    by_cases hi : i < 16
    · have a := h.2.2 i (by omega) (by omega)
      have b := h2.2.2 i (by omega) (by omega)
      rw [bt_tb h.1, Int.toNat_natCast] at a
      rw [bt_tb h2.1, Int.toNat_natCast] at b
      exact Bool.eq_iff_iff.mpr (a.trans b.symm)
    · rw [Nat.testBit_lt_two_pow (x := x.toNat), Nat.testBit_lt_two_pow (x := y.toNat)]
      · have := h2.1; have := h2.2.1
        exact Nat.lt_of_lt_of_le (by omega : y.toNat < 2 ^ 16) (Nat.pow_le_pow_right (by decide) (by omega))
      · have := h.1; have := h.2.1
        exact Nat.lt_of_lt_of_le (by omega : x.toNat < 2 ^ 16) (Nat.pow_le_pow_right (by decide) (by omega))
  have := h.1; have := h2.1
  omega
/-- all bits below n -/
theorem Bts.full {n : Int} (hn : 0 ≤ n ∧ n ≤ 16) : Bts (1 * 2 ^ n.toNat - 1) (fun s => s < n) := by
  have e : (1 : Int) * 2 ^ n.toNat - 1 = ((2 ^ n.toNat - 1 : Nat) : Int) := by
    have h1 : 1 ≤ 2 ^ n.toNat := Nat.one_le_two_pow
    rw [Int.one_mul, Int.natCast_sub h1, Int.natCast_pow]; rfl
  have h : (2 : Nat) ^ n.toNat ≤ 2 ^ 16 := Nat.pow_le_pow_right (by decide) (by omega)
  rw [e]
  refine ⟨by omega, by omega, fun s h0 h1 => ?_⟩
  rw [bt_tb (by omega), Int.toNat_natCast, Nat.testBit_two_pow_sub_one, decide_eq_true_eq]
  omega
theorem bt_nn {x k : Int} (hx : 0 ≤ x) : 0 ≤ x / 2 ^ k.toNat := Int.ediv_nonneg hx (Int.le_of_lt (Int.pow_pos (by decide)))
/-- the bit is 0 or 1 -/
theorem bt_01 {x k : Int} : ((((x / 2 ^ k.toNat).toNat &&& (1 : Int).toNat : Nat) : Int)) = 0 ∨ ((((x / 2 ^ k.toNat).toNat &&& (1 : Int).toNat : Nat) : Int)) = 1 := by
  rw [show ((1 : Int).toNat) = 1 from rfl, Nat.and_one_is_mod]
  omega
theorem bt_0 {x k : Int} (h : (((x / 2 ^ k.toNat).toNat &&& (1 : Int).toNat : Nat) : Int) = 0) : ¬ bt x k := by unfold bt; omega
theorem bt_n0 {x k : Int} (h : ¬ (((x / 2 ^ k.toNat).toNat &&& (1 : Int).toNat : Nat) : Int) = 0) : bt x k := by
  have := bt_01 (x := x) (k := k); unfold bt; omega
def tkS (N : Int → Int) (p q j : Int) : Int → Prop := fun s => ∃ i : Int, 0 ≤ i ∧ i < j ∧ N (61 * p + (bq q + i)) / 10 = s
def tkP (N : Int → Int) (p q j : Int) : Int → Prop := fun s => ∃ i : Int, 0 ≤ i ∧ i < j ∧ N (61 * p + (35 + 4 * q + i)) / 10 = s
theorem tk0 {f : Int → Int} {s : Int} : (∃ i : Int, 0 ≤ i ∧ i < 0 ∧ f i / 10 = s) ↔ False := ⟨fun ⟨i, h1, h2, _⟩ => by omega, False.elim⟩
theorem tk1 {f : Int → Int} {j s : Int} (hj : 0 ≤ j) : (∃ i : Int, 0 ≤ i ∧ i < j + 1 ∧ f i / 10 = s) ↔ (∃ i : Int, 0 ≤ i ∧ i < j ∧ f i / 10 = s) ∨ f j / 10 = s :=
  ⟨fun ⟨i, h1, h2, h3⟩ => if e : i = j then Or.inr (e ▸ h3) else Or.inl ⟨i, h1, by omega, h3⟩, fun h => h.elim (fun ⟨i, h1, h2, h3⟩ => ⟨i, h1, by omega, h3⟩) (fun h => ⟨j, hj, by omega, h⟩)⟩
/-- the slots that a side has taken -/
def sdT (N : Int → Int) (p q : Int) : Int → Prop := fun s => tkS N p q (N (61 * p + mq q)) s ∨ tkP N p q (N (61 * p + (33 + q))) s
section C3
variable {d i wd : Nat} {sh : aSh} {iv lw : aF} {rv : aP} {w N : Int → Int} {R : aPost} {p q W Of : Int}
theorem l_tk2 (hA : SdA sh iv rv i wd p q) (hR : Rel w N) (hB : Bok W Of N) (hW : W ≤ 16) {n : Int} (k : ∀ x, Bts x (sdT N p q) → R (some (aI x)) sh (uA iv wd w) lw rv) (m : Nat) : ∀ j x : Int, 0 ≤ j → j + m = N (61 * p + (33 + q)) → Bts x (fun s => tkS N p q (N (61 * p + mq q)) s ∨ tkP N p q j s) → wp (d) mX9_takenSlots 65 [some (aR i), some (aI x), some (aI n), some (aI (N (61 * p + (33 + q)))), some (aI j)] [] sh (uA iv wd w) lw rv 0 0 R := by
  have hat := hA.at
  have hp := hA.2.2.2.2.2.1
  have hq := hA.2.2.2.2.2.2
  have hpm := hB.pmn hp hq
  induction m with
  | zero =>
    intro j x h0 hm hx
    refine wp_iload dX9_takenSlots_65 rfl ?_
    refine wp_iload_n dX9_takenSlots_67 rfl ?_
    refine wp_icmp_ge (tgt := 99) dX9_takenSlots_68 rfl (fun h68 => ?_) (fun h68 => by exfalso; omega)
    refine wp_iload_n dX9_takenSlots_99 rfl ?_
    refine wp_ireturn dX9_takenSlots_100 rfl ?_
    have ej : j = N (61 * p + (33 + q)) := by omega
    rw [ej] at hx
    exact k _ hx
  | succ m ih =>
    intro j x h0 hm hx
    have hv := hB.prm hp hq (i := j) (by omega)
    unfold Vc at hv
    have ho := Bts.one (k := N (61 * p + (35 + 4 * q + j)) / 10) (by omega)
    have hx1 := hx.1
    refine wp_iload dX9_takenSlots_65 rfl ?_
    refine wp_iload_n dX9_takenSlots_67 rfl ?_
    refine wp_icmp_ge (tgt := 99) dX9_takenSlots_68 rfl (fun h68 => by exfalso; omega) (fun h68 => ?_)
    refine wp_iload_n dX9_takenSlots_71 rfl ?_
    refine wp_iconst dX9_takenSlots_72 ?_
    refine wp_aload_n dX9_takenSlots_73 rfl ?_
    refine wp_getR hA.2.1 dX9_takenSlots_74 fX9_11 hA.1 ?_
    refine wp_aload_n dX9_takenSlots_77 rfl ?_
    refine wp_getI dX9_takenSlots_78 fX9_15 hA.1 ?_
    rw [hat]
    refine wp_iconst dX9_takenSlots_81 ?_
    refine wp_iadd dX9_takenSlots_82 ⟨by omega, by omega⟩ ?_
    refine wp_iload dX9_takenSlots_83 rfl ?_
    refine wp_iadd dX9_takenSlots_85 ⟨by omega, by omega⟩ ?_
    refine wp_iald dX9_takenSlots_86 hA.2.2.1 (by omega) (by omega) ?_
    rw [uA_s]
    rw [hR.rd hp (cm_prm hq (by omega))]
    refine wp_bipush dX9_takenSlots_87 ?_
    refine wp_idiv dX9_takenSlots_89 (by omega) (by omega) ?_
    refine wp_ishl dX9_takenSlots_90 (by omega) (by omega) (by exact ⟨by have := ho.1; omega, by have := ho.2.1; omega⟩) ?_
    refine wp_ior dX9_takenSlots_91 (by first | exact hx1 | exact ho.1) (by first | exact hx1 | exact ho.1) ?_
    refine wp_istore_n (ls' := [_, _, _, _, _]) dX9_takenSlots_92 (by decide) rfl rfl ?_
    refine wp_iinc (ls' := [_, _, _, _, _]) dX9_takenSlots_93 (by decide) rfl rfl ⟨by omega, by omega⟩ rfl ?_
    refine wp_goto (tgt := 65) dX9_takenSlots_96 rfl ?_
    refine ih _ _ (by omega) (by omega) ((hx.or ho).cg (fun s _ _ => ?_))
    have := tk1 (f := fun i => N (61 * p + (35 + 4 * q + i))) (s := s) h0
    unfold tkP
    rw [this, or_assoc]
theorem l_tk1 (hA : SdA sh iv rv i wd p q) (hR : Rel w N) (hB : Bok W Of N) (hW : W ≤ 16) (k : ∀ x, Bts x (sdT N p q) → R (some (aI x)) sh (uA iv wd w) lw rv) (m : Nat) : ∀ j x : Int, 0 ≤ j → j + m = N (61 * p + mq q) → Bts x (tkS N p q j) → wp (d) mX9_takenSlots 17 [some (aR i), some (aI x), some (aI (N (61 * p + mq q))), some (aI j), none] [] sh (uA iv wd w) lw rv 0 0 R := by
  have hat := hA.at
  have hp := hA.2.2.2.2.2.1
  have hq := hA.2.2.2.2.2.2
  have hpm := hB.pmn hp hq
  have hm6 := hB.mny hp hq
  induction m with
  | zero =>
    intro j x h0 hm hx
    refine wp_iload_n dX9_takenSlots_17 rfl ?_
    refine wp_iload_n dX9_takenSlots_18 rfl ?_
    refine wp_icmp_ge (tgt := 50) dX9_takenSlots_19 rfl (fun h19 => ?_) (fun h19 => by exfalso; omega)
    refine wp_aload_n dX9_takenSlots_50 rfl ?_
    refine wp_getR hA.2.1 dX9_takenSlots_51 fX9_11 hA.1 ?_
    refine wp_aload_n dX9_takenSlots_54 rfl ?_
    refine wp_getI dX9_takenSlots_55 fX9_15 hA.1 ?_
    rw [hat]
    refine wp_iconst dX9_takenSlots_58 ?_
    refine wp_iadd dX9_takenSlots_59 ⟨by omega, by omega⟩ ?_
    refine wp_iald dX9_takenSlots_60 hA.2.2.1 (by omega) (by omega) ?_
    rw [uA_s]
    rw [hR.rd hp (cm_pmn hq)]
    refine wp_istore_n (ls' := [_, _, _, _, _]) dX9_takenSlots_61 (by decide) rfl rfl ?_
    refine wp_iconst dX9_takenSlots_62 ?_
    refine wp_istore (ls' := [_, _, _, _, _]) dX9_takenSlots_63 (by decide) rfl rfl ?_
    refine l_tk2 hA hR hB hW k (N (61 * p + (33 + q))).toNat _ _ (by omega) (by omega) ?_
    have ej : j = N (61 * p + mq q) := by omega
    rw [ej] at hx
    refine hx.cg (fun s _ _ => ?_)
    have := tk0 (f := fun i => N (61 * p + (35 + 4 * q + i))) (s := s)
    unfold tkP
    rw [this, or_false]
  | succ m ih =>
    intro j x h0 hm hx
    have hv := hB.cel hp hq (i := j) (by omega)
    unfold Vc at hv
    have ho := Bts.one (k := N (61 * p + (bq q + j)) / 10) (by omega)
    have hx1 := hx.1
    refine wp_iload_n dX9_takenSlots_17 rfl ?_
    refine wp_iload_n dX9_takenSlots_18 rfl ?_
    refine wp_icmp_ge (tgt := 50) dX9_takenSlots_19 rfl (fun h19 => by exfalso; omega) (fun h19 => ?_)
    refine wp_iload_n dX9_takenSlots_22 rfl ?_
    refine wp_iconst dX9_takenSlots_23 ?_
    refine wp_aload_n dX9_takenSlots_24 rfl ?_
    refine wp_getR hA.2.1 dX9_takenSlots_25 fX9_11 hA.1 ?_
    refine wp_aload_n dX9_takenSlots_28 rfl ?_
    refine wp_getI dX9_takenSlots_29 fX9_15 hA.1 ?_
    rw [hat]
    refine wp_bipush dX9_takenSlots_32 ?_
    refine wp_iadd dX9_takenSlots_34 ⟨by omega, by omega⟩ ?_
    refine wp_iload_n dX9_takenSlots_35 rfl ?_
    refine wp_iadd dX9_takenSlots_36 ⟨by omega, by omega⟩ ?_
    refine wp_iald dX9_takenSlots_37 hA.2.2.1 (by omega) (by omega) ?_
    rw [uA_s]
    rw [hR.rd hp (cm_cel hq (by omega))]
    refine wp_bipush dX9_takenSlots_38 ?_
    refine wp_idiv dX9_takenSlots_40 (by omega) (by omega) ?_
    refine wp_ishl dX9_takenSlots_41 (by omega) (by omega) (by exact ⟨by have := ho.1; omega, by have := ho.2.1; omega⟩) ?_
    refine wp_ior dX9_takenSlots_42 (by first | exact hx1 | exact ho.1) (by first | exact hx1 | exact ho.1) ?_
    refine wp_istore_n (ls' := [_, _, _, _, _]) dX9_takenSlots_43 (by decide) rfl rfl ?_
    refine wp_iinc (ls' := [_, _, _, _, _]) dX9_takenSlots_44 (by decide) rfl rfl ⟨by omega, by omega⟩ rfl ?_
    refine wp_goto (tgt := 17) dX9_takenSlots_47 rfl ?_
    refine ih _ _ (by omega) (by omega) ((hx.or ho).cg (fun s _ _ => ?_))
    have := tk1 (f := fun i => N (61 * p + (bq q + i))) (s := s) h0
    unfold tkS
    rw [this]
theorem c_takenSlots (hA : SdA sh iv rv i wd p q) (hR : Rel w N) (hB : Bok W Of N) (hW : W ≤ 16) (k : ∀ x, Bts x (sdT N p q) → R (some (aI x)) sh (uA iv wd w) lw rv) : wp (d) mX9_takenSlots 0 [some (aR i), none, none, none, none] [] sh (uA iv wd w) lw rv 0 0 R := by
  have hat := hA.at
  have hp := hA.2.2.2.2.2.1
  have hq := hA.2.2.2.2.2.2
  have hm6 := hB.mny hp hq
  refine wp_iconst dX9_takenSlots_0 ?_
  refine wp_istore_n (ls' := [_, _, _, _, _]) dX9_takenSlots_1 (by decide) rfl rfl ?_
  refine wp_aload_n dX9_takenSlots_2 rfl ?_
  refine wp_getR hA.2.1 dX9_takenSlots_3 fX9_11 hA.1 ?_
  refine wp_aload_n dX9_takenSlots_6 rfl ?_
  refine wp_getI dX9_takenSlots_7 fX9_15 hA.1 ?_
  rw [hat]
  refine wp_bipush dX9_takenSlots_10 ?_
  refine wp_iadd dX9_takenSlots_12 ⟨by omega, by omega⟩ ?_
  refine wp_iald dX9_takenSlots_13 hA.2.2.1 (by omega) (by omega) ?_
  rw [uA_s]
  rw [hR.rd hp (cm_mny hq)]
  refine wp_istore_n (ls' := [_, _, _, _, _]) dX9_takenSlots_14 (by decide) rfl rfl ?_
  refine wp_iconst dX9_takenSlots_15 ?_
  refine wp_istore_n (ls' := [_, _, _, _, _]) dX9_takenSlots_16 (by decide) rfl rfl ?_
  refine l_tk1 hA hR hB hW k (N (61 * p + mq q)).toNat _ _ (by omega) (by omega) (Bts.zero.cg (fun s _ _ => ?_))
  have := tk0 (f := fun i => N (61 * p + (bq q + i))) (s := s)
  unfold tkS
  rw [this]
theorem c_comesLess {a b : Int} (hA : SdA sh iv rv i wd p q) (hR : Rel w N) (hB : Bok W Of N) (h0 : q = 0) (ha : 0 ≤ a ∧ a < 6) (hb : 0 ≤ b ∧ b < 6) (kt : lss N p a b 1 → R (some (aI 1)) sh (uA iv wd w) lw rv) (kf : ¬ lss N p a b 1 → R (some (aI 0)) sh (uA iv wd w) lw rv) : wp (d) mX9_comesLess 0 [some (aR i), some (aI a), some (aI b)] [] sh (uA iv wd w) lw rv 0 0 R := by
  have hat := hA.at
  have hp := hA.2.2.2.2.2.1
  have hq := hA.2.2.2.2.2.2
  subst h0
  have h1 := hB p (12 + a) hp.1 hp.2 (by omega) (by omega)
  have h2 := hB p (6 + b) hp.1 hp.2 (by omega) (by omega)
  have h3 := hB p (12 + b) hp.1 hp.2 (by omega) (by omega)
  have h4 := hB p (6 + a) hp.1 hp.2 (by omega) (by omega)
  rw [k999 (by omega)] at h1 h2 h3 h4
  have m1 := m999 h1 h2
  have m2 := m999 h3 h4
  refine wp_aload_n dX9_comesLess_0 rfl ?_
  refine wp_getR hA.2.1 dX9_comesLess_1 fX9_11 hA.1 ?_
  refine wp_aload_n dX9_comesLess_4 rfl ?_
  refine wp_getI dX9_comesLess_5 fX9_15 hA.1 ?_
  rw [hat]
  refine wp_bipush dX9_comesLess_8 ?_
  refine wp_iadd dX9_comesLess_10 ⟨by omega, by omega⟩ ?_
  refine wp_iload_n dX9_comesLess_11 rfl ?_
  refine wp_iadd dX9_comesLess_12 ⟨by omega, by omega⟩ ?_
  refine wp_iald dX9_comesLess_13 hA.2.2.1 (by omega) (by omega) ?_
  rw [uA_s]
  rw [hR.rd hp (cm_got (by omega))]
  refine wp_aload_n dX9_comesLess_14 rfl ?_
  refine wp_getR hA.2.1 dX9_comesLess_15 fX9_11 hA.1 ?_
  refine wp_aload_n dX9_comesLess_18 rfl ?_
  refine wp_getI dX9_comesLess_19 fX9_15 hA.1 ?_
  rw [hat]
  refine wp_bipush dX9_comesLess_22 ?_
  refine wp_iadd dX9_comesLess_24 ⟨by omega, by omega⟩ ?_
  refine wp_iload_n dX9_comesLess_25 rfl ?_
  refine wp_iadd dX9_comesLess_26 ⟨by omega, by omega⟩ ?_
  refine wp_iald dX9_comesLess_27 hA.2.2.1 (by omega) (by omega) ?_
  rw [uA_s]
  rw [hR.rd hp (cm_snt (by omega))]
  refine wp_imul dX9_comesLess_28 ⟨by omega, by omega⟩ ?_
  refine wp_aload_n dX9_comesLess_29 rfl ?_
  refine wp_getR hA.2.1 dX9_comesLess_30 fX9_11 hA.1 ?_
  refine wp_aload_n dX9_comesLess_33 rfl ?_
  refine wp_getI dX9_comesLess_34 fX9_15 hA.1 ?_
  rw [hat]
  refine wp_bipush dX9_comesLess_37 ?_
  refine wp_iadd dX9_comesLess_39 ⟨by omega, by omega⟩ ?_
  refine wp_iload_n dX9_comesLess_40 rfl ?_
  refine wp_iadd dX9_comesLess_41 ⟨by omega, by omega⟩ ?_
  refine wp_iald dX9_comesLess_42 hA.2.2.1 (by omega) (by omega) ?_
  rw [uA_s]
  rw [hR.rd hp (cm_got (by omega))]
  refine wp_aload_n dX9_comesLess_43 rfl ?_
  refine wp_getR hA.2.1 dX9_comesLess_44 fX9_11 hA.1 ?_
  refine wp_aload_n dX9_comesLess_47 rfl ?_
  refine wp_getI dX9_comesLess_48 fX9_15 hA.1 ?_
  rw [hat]
  refine wp_bipush dX9_comesLess_51 ?_
  refine wp_iadd dX9_comesLess_53 ⟨by omega, by omega⟩ ?_
  refine wp_iload_n dX9_comesLess_54 rfl ?_
  refine wp_iadd dX9_comesLess_55 ⟨by omega, by omega⟩ ?_
  refine wp_iald dX9_comesLess_56 hA.2.2.1 (by omega) (by omega) ?_
  rw [uA_s]
  rw [hR.rd hp (cm_snt (by omega))]
  refine wp_imul dX9_comesLess_57 ⟨by omega, by omega⟩ ?_
  refine wp_icmp_ge (tgt := 65) dX9_comesLess_58 rfl (fun h58 => ?_) (fun h58 => ?_)
  · refine wp_iconst dX9_comesLess_65 ?_
    refine wp_zreturn dX9_comesLess_66 rfl (Or.inl rfl) ?_
    exact kf (by unfold lss; rw [Int.one_mul]; omega)
  · refine wp_iconst dX9_comesLess_61 ?_
    refine wp_goto (tgt := 66) dX9_comesLess_62 rfl ?_
    refine wp_zreturn dX9_comesLess_66 rfl (Or.inr rfl) ?_
    exact kt (by unfold lss; rw [Int.one_mul]; omega)
theorem l_cbad (hA : SdA sh iv rv i wd p q) (hR : Rel w N) (hB : Bok W Of N) (h0 : q = 0) (m : Nat) : ∀ (j b z : Int), 0 ≤ j → j + m = N (61 * p + 18) → (b = -1 ∨ (0 ≤ b ∧ b < 6)) → ((z = -1 ∧ b = -1) ∨ (0 ≤ z ∧ z < 6 ∧ ¬ b = -1)) → R (some (aI (bdR N p (bdL N p m j b z)))) sh (uA iv wd w) lw rv → wp (d + 1) mX9_badPlace 12 [some (aR i), some (aI b), some (aI z), some (aI (N (61 * p + 18))), some (aI j)] [] sh (uA iv wd w) lw rv 0 0 R := by
  have hat := hA.at
  have hp := hA.2.2.2.2.2.1
  have hq := hA.2.2.2.2.2.2
  subst h0
  have h18 := hB.v18 hp
  induction m with
  | zero =>
    intro j b z g0 hm hb hz k
    unfold bdL at k
    have s1 : ∀ x : Int, 0 ≤ x ∧ x < 6 → 0 ≤ N (61 * p + (12 + x)) ∧ N (61 * p + (12 + x)) ≤ 999 := fun x hx => by
      have := hB p (12 + x) hp.1 hp.2 (by omega) (by omega); rw [k999 (by omega)] at this; exact this
    have s2 : ∀ x : Int, 0 ≤ x ∧ x < 6 → 0 ≤ N (61 * p + (6 + x)) ∧ N (61 * p + (6 + x)) ≤ 999 := fun x hx => by
      have := hB p (6 + x) hp.1 hp.2 (by omega) (by omega); rw [k999 (by omega)] at this; exact this
    refine wp_iload dX9_badPlace_12 rfl ?_
    refine wp_iload_n dX9_badPlace_14 rfl ?_
    refine wp_icmp_ge (tgt := 87) dX9_badPlace_15 rfl (fun h15 => ?_) (fun h15 => by exfalso; omega)
    refine wp_iload_n dX9_badPlace_87 rfl ?_
    refine wp_iconst dX9_badPlace_88 ?_
    refine wp_icmp_ne (tgt := 94) dX9_badPlace_89 rfl (fun h89 => ?_) (fun h89 => ?_)
    · have hbz : (0 ≤ b ∧ b < 6) ∧ (0 ≤ z ∧ z < 6) := by omega
      have m1 := m999 (A := 1998) (B := 999) (a := 2 * N (61 * p + (12 + z))) (b := N (61 * p + (6 + b))) (by have := s1 z hbz.2; omega) (s2 b hbz.1)
      have m2 := m999 (s1 b hbz.1) (s2 z hbz.2)
      have m3 := s1 z hbz.2
      refine wp_iconst dX9_badPlace_94 ?_
      refine wp_aload_n dX9_badPlace_95 rfl ?_
      refine wp_getR hA.2.1 dX9_badPlace_96 fX9_11 hA.1 ?_
      refine wp_aload_n dX9_badPlace_99 rfl ?_
      refine wp_getI dX9_badPlace_100 fX9_15 hA.1 ?_
      rw [hat]
      refine wp_bipush dX9_badPlace_103 ?_
      refine wp_iadd dX9_badPlace_105 ⟨by omega, by omega⟩ ?_
      refine wp_iload_n dX9_badPlace_106 rfl ?_
      refine wp_iadd dX9_badPlace_107 ⟨by omega, by omega⟩ ?_
      refine wp_iald dX9_badPlace_108 hA.2.2.1 (by omega) (by omega) ?_
      rw [uA_s]
      rw [hR.rd hp (cm_got (by omega))]
      refine wp_imul dX9_badPlace_109 ⟨by omega, by omega⟩ ?_
      refine wp_aload_n dX9_badPlace_110 rfl ?_
      refine wp_getR hA.2.1 dX9_badPlace_111 fX9_11 hA.1 ?_
      refine wp_aload_n dX9_badPlace_114 rfl ?_
      refine wp_getI dX9_badPlace_115 fX9_15 hA.1 ?_
      rw [hat]
      refine wp_bipush dX9_badPlace_118 ?_
      refine wp_iadd dX9_badPlace_120 ⟨by omega, by omega⟩ ?_
      refine wp_iload_n dX9_badPlace_121 rfl ?_
      refine wp_iadd dX9_badPlace_122 ⟨by omega, by omega⟩ ?_
      refine wp_iald dX9_badPlace_123 hA.2.2.1 (by omega) (by omega) ?_
      rw [uA_s]
      rw [hR.rd hp (cm_snt (by omega))]
      refine wp_imul dX9_badPlace_124 ⟨by omega, by omega⟩ ?_
      refine wp_istore (ls' := [_, _, _, _, _]) dX9_badPlace_125 (by decide) rfl rfl ?_
      refine wp_iload dX9_badPlace_127 rfl ?_
      refine wp_aload_n dX9_badPlace_129 rfl ?_
      refine wp_getR hA.2.1 dX9_badPlace_130 fX9_11 hA.1 ?_
      refine wp_aload_n dX9_badPlace_133 rfl ?_
      refine wp_getI dX9_badPlace_134 fX9_15 hA.1 ?_
      rw [hat]
      refine wp_bipush dX9_badPlace_137 ?_
      refine wp_iadd dX9_badPlace_139 ⟨by omega, by omega⟩ ?_
      refine wp_iload_n dX9_badPlace_140 rfl ?_
      refine wp_iadd dX9_badPlace_141 ⟨by omega, by omega⟩ ?_
      refine wp_iald dX9_badPlace_142 hA.2.2.1 (by omega) (by omega) ?_
      rw [uA_s]
      rw [hR.rd hp (cm_got (by omega))]
      refine wp_aload_n dX9_badPlace_143 rfl ?_
      refine wp_getR hA.2.1 dX9_badPlace_144 fX9_11 hA.1 ?_
      refine wp_aload_n dX9_badPlace_147 rfl ?_
      refine wp_getI dX9_badPlace_148 fX9_15 hA.1 ?_
      rw [hat]
      refine wp_bipush dX9_badPlace_151 ?_
      refine wp_iadd dX9_badPlace_153 ⟨by omega, by omega⟩ ?_
      refine wp_iload_n dX9_badPlace_154 rfl ?_
      refine wp_iadd dX9_badPlace_155 ⟨by omega, by omega⟩ ?_
      refine wp_iald dX9_badPlace_156 hA.2.2.1 (by omega) (by omega) ?_
      rw [uA_s]
      rw [hR.rd hp (cm_snt (by omega))]
      refine wp_imul dX9_badPlace_157 ⟨by omega, by omega⟩ ?_
      refine wp_icmp_ge (tgt := 165) dX9_badPlace_158 rfl (fun h158 => ?_) (fun h158 => ?_)
      · refine wp_iconst dX9_badPlace_165 ?_
        refine wp_ireturn dX9_badPlace_166 rfl ?_
        unfold bdR at k
        dsimp only at k
        split at k
        · rename_i hh
          first | exact k | exact absurd hh.2 (by unfold lss; omega)
        · rename_i hh
          first | exact k | exact absurd ⟨by omega, by unfold lss; omega⟩ hh
      · refine wp_iload_n dX9_badPlace_161 rfl ?_
        refine wp_goto (tgt := 166) dX9_badPlace_162 rfl ?_
        refine wp_ireturn dX9_badPlace_166 rfl ?_
        unfold bdR at k
        dsimp only at k
        split at k
        · rename_i hh
          first | exact k | exact absurd hh.2 (by unfold lss; omega)
        · rename_i hh
          first | exact k | exact absurd ⟨by omega, by unfold lss; omega⟩ hh
    · refine wp_iconst dX9_badPlace_92 ?_
      refine wp_ireturn dX9_badPlace_93 rfl ?_
      unfold bdR at k; rw [if_neg (by simp only; omega)] at k; exact k
  | succ m ih =>
    intro j b z g0 hm hb hz k
    refine wp_iload dX9_badPlace_12 rfl ?_
    refine wp_iload_n dX9_badPlace_14 rfl ?_
    refine wp_icmp_ge (tgt := 87) dX9_badPlace_15 rfl (fun h15 => by exfalso; omega) (fun h15 => ?_)
    refine wp_aload_n dX9_badPlace_18 rfl ?_
    refine wp_getR hA.2.1 dX9_badPlace_19 fX9_11 hA.1 ?_
    refine wp_aload_n dX9_badPlace_22 rfl ?_
    refine wp_getI dX9_badPlace_23 fX9_15 hA.1 ?_
    rw [hat]
    refine wp_bipush dX9_badPlace_26 ?_
    refine wp_iadd dX9_badPlace_28 ⟨by omega, by omega⟩ ?_
    refine wp_iload dX9_badPlace_29 rfl ?_
    refine wp_iadd dX9_badPlace_31 ⟨by omega, by omega⟩ ?_
    refine wp_iald dX9_badPlace_32 hA.2.2.1 (by omega) (by omega) ?_
    rw [uA_s]
    rw [hR.rd hp (cm_snt (by omega))]
    refine wp_iconst dX9_badPlace_33 ?_
    refine wp_icmp_lt (tgt := 81) dX9_badPlace_34 rfl (fun h34 => ?_) (fun h34 => ?_)
    · rw [bdL, if_pos h34] at k
      refine wp_iinc (ls' := [_, _, _, _, _]) dX9_badPlace_81 (by decide) rfl rfl ⟨by omega, by omega⟩ rfl ?_
      refine wp_goto (tgt := 12) dX9_badPlace_84 rfl ?_
      first
      | exact ih _ _ _ (by omega) (by omega) hb hz k
      | (have hb1 : nbF N p b j = j ∨ nbF N p b j = b := by unfold nbF; split <;> simp
         have hw1 : nwF N p z j = j ∨ nwF N p z j = z := by unfold nwF; split <;> simp
         rw [bdL, if_neg (by omega)] at k
         first | rw [show nbF N p b j = j from if_pos (Or.inl h39)] at k | rw [show nbF N p b j = j from if_pos (Or.inr h46)] at k | rw [show nbF N p b j = b from if_neg (fun q => q.elim h39 h46)] at k
         first | rw [show nwF N p z j = j from if_pos (Or.inl h61)] at k | rw [show nwF N p z j = j from if_pos (Or.inr h68)] at k | rw [show nwF N p z j = z from if_neg (fun q => q.elim h61 h68)] at k
         exact ih _ _ _ (by omega) (by omega) (by omega) (by omega) k)
    · refine wp_iload_n dX9_badPlace_37 rfl ?_
      refine wp_iconst dX9_badPlace_38 ?_
      refine wp_icmp_eq (tgt := 52) dX9_badPlace_39 rfl (fun h39 => ?_) (fun h39 => ?_)
      · refine wp_iload dX9_badPlace_52 rfl ?_
        refine wp_goto (tgt := 58) dX9_badPlace_54 rfl ?_
        refine wp_istore_n (ls' := [_, _, _, _, _]) dX9_badPlace_58 (by decide) rfl rfl ?_
        refine wp_iload_n dX9_badPlace_59 rfl ?_
        refine wp_iconst dX9_badPlace_60 ?_
        refine wp_icmp_eq (tgt := 74) dX9_badPlace_61 rfl (fun h61 => ?_) (fun h61 => ?_)
        · refine wp_iload dX9_badPlace_74 rfl ?_
          refine wp_goto (tgt := 80) dX9_badPlace_76 rfl ?_
          refine wp_istore_n (ls' := [_, _, _, _, _]) dX9_badPlace_80 (by decide) rfl rfl ?_
          refine wp_iinc (ls' := [_, _, _, _, _]) dX9_badPlace_81 (by decide) rfl rfl ⟨by omega, by omega⟩ rfl ?_
          refine wp_goto (tgt := 12) dX9_badPlace_84 rfl ?_
          first
          | exact ih _ _ _ (by omega) (by omega) hb hz k
          | (have hb1 : nbF N p b j = j ∨ nbF N p b j = b := by unfold nbF; split <;> simp
             have hw1 : nwF N p z j = j ∨ nwF N p z j = z := by unfold nwF; split <;> simp
             rw [bdL, if_neg (by omega)] at k
             first | rw [show nbF N p b j = j from if_pos (Or.inl h39)] at k | rw [show nbF N p b j = j from if_pos (Or.inr h46)] at k | rw [show nbF N p b j = b from if_neg (fun q => q.elim h39 h46)] at k
             first | rw [show nwF N p z j = j from if_pos (Or.inl h61)] at k | rw [show nwF N p z j = j from if_pos (Or.inr h68)] at k | rw [show nwF N p z j = z from if_neg (fun q => q.elim h61 h68)] at k
             exact ih _ _ _ (by omega) (by omega) (by omega) (by omega) k)
        · refine wp_aload_n dX9_badPlace_64 rfl ?_
          refine wp_iload dX9_badPlace_65 rfl ?_
          refine wp_iload_n dX9_badPlace_67 rfl ?_
          refine wp_callV (as := [_, _]) (ls0 := [_, _, _]) (kc := 0) (ks := 0) (bc' := 0) (bs' := 0) dX9_badPlace_68 vX9_35 hA.1 rfl rfl (Nat.le_of_ble_eq_true rfl) (Nat.le_of_ble_eq_true rfl) (by omega) (by omega) ?_
          refine c_comesLess hA hR hB rfl (by omega) (by omega) (fun h68 => ?_) (fun h68 => ?_)
          · refine wp_if_eq (tgt := 79) dX9_badPlace_71 rfl (fun q => absurd q (by decide)) (fun _ => ?_)
            refine wp_iload dX9_badPlace_74 rfl ?_
            refine wp_goto (tgt := 80) dX9_badPlace_76 rfl ?_
            refine wp_istore_n (ls' := [_, _, _, _, _]) dX9_badPlace_80 (by decide) rfl rfl ?_
            refine wp_iinc (ls' := [_, _, _, _, _]) dX9_badPlace_81 (by decide) rfl rfl ⟨by omega, by omega⟩ rfl ?_
            refine wp_goto (tgt := 12) dX9_badPlace_84 rfl ?_
            first
            | exact ih _ _ _ (by omega) (by omega) hb hz k
            | (have hb1 : nbF N p b j = j ∨ nbF N p b j = b := by unfold nbF; split <;> simp
               have hw1 : nwF N p z j = j ∨ nwF N p z j = z := by unfold nwF; split <;> simp
               rw [bdL, if_neg (by omega)] at k
               first | rw [show nbF N p b j = j from if_pos (Or.inl h39)] at k | rw [show nbF N p b j = j from if_pos (Or.inr h46)] at k | rw [show nbF N p b j = b from if_neg (fun q => q.elim h39 h46)] at k
               first | rw [show nwF N p z j = j from if_pos (Or.inl h61)] at k | rw [show nwF N p z j = j from if_pos (Or.inr h68)] at k | rw [show nwF N p z j = z from if_neg (fun q => q.elim h61 h68)] at k
               exact ih _ _ _ (by omega) (by omega) (by omega) (by omega) k)
          · refine wp_if_eq (tgt := 79) dX9_badPlace_71 rfl (fun _ => ?_) (fun q => absurd q (by decide))
            refine wp_iload_n dX9_badPlace_79 rfl ?_
            refine wp_istore_n (ls' := [_, _, _, _, _]) dX9_badPlace_80 (by decide) rfl rfl ?_
            refine wp_iinc (ls' := [_, _, _, _, _]) dX9_badPlace_81 (by decide) rfl rfl ⟨by omega, by omega⟩ rfl ?_
            refine wp_goto (tgt := 12) dX9_badPlace_84 rfl ?_
            first
            | exact ih _ _ _ (by omega) (by omega) hb hz k
            | (have hb1 : nbF N p b j = j ∨ nbF N p b j = b := by unfold nbF; split <;> simp
               have hw1 : nwF N p z j = j ∨ nwF N p z j = z := by unfold nwF; split <;> simp
               rw [bdL, if_neg (by omega)] at k
               first | rw [show nbF N p b j = j from if_pos (Or.inl h39)] at k | rw [show nbF N p b j = j from if_pos (Or.inr h46)] at k | rw [show nbF N p b j = b from if_neg (fun q => q.elim h39 h46)] at k
               first | rw [show nwF N p z j = j from if_pos (Or.inl h61)] at k | rw [show nwF N p z j = j from if_pos (Or.inr h68)] at k | rw [show nwF N p z j = z from if_neg (fun q => q.elim h61 h68)] at k
               exact ih _ _ _ (by omega) (by omega) (by omega) (by omega) k)
      · refine wp_aload_n dX9_badPlace_42 rfl ?_
        refine wp_iload_n dX9_badPlace_43 rfl ?_
        refine wp_iload dX9_badPlace_44 rfl ?_
        refine wp_callV (as := [_, _]) (ls0 := [_, _, _]) (kc := 0) (ks := 0) (bc' := 0) (bs' := 0) dX9_badPlace_46 vX9_35 hA.1 rfl rfl (Nat.le_of_ble_eq_true rfl) (Nat.le_of_ble_eq_true rfl) (by omega) (by omega) ?_
        refine c_comesLess hA hR hB rfl (by omega) (by omega) (fun h46 => ?_) (fun h46 => ?_)
        · refine wp_if_eq (tgt := 57) dX9_badPlace_49 rfl (fun q => absurd q (by decide)) (fun _ => ?_)
          refine wp_iload dX9_badPlace_52 rfl ?_
          refine wp_goto (tgt := 58) dX9_badPlace_54 rfl ?_
          refine wp_istore_n (ls' := [_, _, _, _, _]) dX9_badPlace_58 (by decide) rfl rfl ?_
          refine wp_iload_n dX9_badPlace_59 rfl ?_
          refine wp_iconst dX9_badPlace_60 ?_
          refine wp_icmp_eq (tgt := 74) dX9_badPlace_61 rfl (fun h61 => ?_) (fun h61 => ?_)
          · refine wp_iload dX9_badPlace_74 rfl ?_
            refine wp_goto (tgt := 80) dX9_badPlace_76 rfl ?_
            refine wp_istore_n (ls' := [_, _, _, _, _]) dX9_badPlace_80 (by decide) rfl rfl ?_
            refine wp_iinc (ls' := [_, _, _, _, _]) dX9_badPlace_81 (by decide) rfl rfl ⟨by omega, by omega⟩ rfl ?_
            refine wp_goto (tgt := 12) dX9_badPlace_84 rfl ?_
            first
            | exact ih _ _ _ (by omega) (by omega) hb hz k
            | (have hb1 : nbF N p b j = j ∨ nbF N p b j = b := by unfold nbF; split <;> simp
               have hw1 : nwF N p z j = j ∨ nwF N p z j = z := by unfold nwF; split <;> simp
               rw [bdL, if_neg (by omega)] at k
               first | rw [show nbF N p b j = j from if_pos (Or.inl h39)] at k | rw [show nbF N p b j = j from if_pos (Or.inr h46)] at k | rw [show nbF N p b j = b from if_neg (fun q => q.elim h39 h46)] at k
               first | rw [show nwF N p z j = j from if_pos (Or.inl h61)] at k | rw [show nwF N p z j = j from if_pos (Or.inr h68)] at k | rw [show nwF N p z j = z from if_neg (fun q => q.elim h61 h68)] at k
               exact ih _ _ _ (by omega) (by omega) (by omega) (by omega) k)
          · refine wp_aload_n dX9_badPlace_64 rfl ?_
            refine wp_iload dX9_badPlace_65 rfl ?_
            refine wp_iload_n dX9_badPlace_67 rfl ?_
            refine wp_callV (as := [_, _]) (ls0 := [_, _, _]) (kc := 0) (ks := 0) (bc' := 0) (bs' := 0) dX9_badPlace_68 vX9_35 hA.1 rfl rfl (Nat.le_of_ble_eq_true rfl) (Nat.le_of_ble_eq_true rfl) (by omega) (by omega) ?_
            refine c_comesLess hA hR hB rfl (by omega) (by omega) (fun h68 => ?_) (fun h68 => ?_)
            · refine wp_if_eq (tgt := 79) dX9_badPlace_71 rfl (fun q => absurd q (by decide)) (fun _ => ?_)
              refine wp_iload dX9_badPlace_74 rfl ?_
              refine wp_goto (tgt := 80) dX9_badPlace_76 rfl ?_
              refine wp_istore_n (ls' := [_, _, _, _, _]) dX9_badPlace_80 (by decide) rfl rfl ?_
              refine wp_iinc (ls' := [_, _, _, _, _]) dX9_badPlace_81 (by decide) rfl rfl ⟨by omega, by omega⟩ rfl ?_
              refine wp_goto (tgt := 12) dX9_badPlace_84 rfl ?_
              first
              | exact ih _ _ _ (by omega) (by omega) hb hz k
              | (have hb1 : nbF N p b j = j ∨ nbF N p b j = b := by unfold nbF; split <;> simp
                 have hw1 : nwF N p z j = j ∨ nwF N p z j = z := by unfold nwF; split <;> simp
                 rw [bdL, if_neg (by omega)] at k
                 first | rw [show nbF N p b j = j from if_pos (Or.inl h39)] at k | rw [show nbF N p b j = j from if_pos (Or.inr h46)] at k | rw [show nbF N p b j = b from if_neg (fun q => q.elim h39 h46)] at k
                 first | rw [show nwF N p z j = j from if_pos (Or.inl h61)] at k | rw [show nwF N p z j = j from if_pos (Or.inr h68)] at k | rw [show nwF N p z j = z from if_neg (fun q => q.elim h61 h68)] at k
                 exact ih _ _ _ (by omega) (by omega) (by omega) (by omega) k)
            · refine wp_if_eq (tgt := 79) dX9_badPlace_71 rfl (fun _ => ?_) (fun q => absurd q (by decide))
              refine wp_iload_n dX9_badPlace_79 rfl ?_
              refine wp_istore_n (ls' := [_, _, _, _, _]) dX9_badPlace_80 (by decide) rfl rfl ?_
              refine wp_iinc (ls' := [_, _, _, _, _]) dX9_badPlace_81 (by decide) rfl rfl ⟨by omega, by omega⟩ rfl ?_
              refine wp_goto (tgt := 12) dX9_badPlace_84 rfl ?_
              first
              | exact ih _ _ _ (by omega) (by omega) hb hz k
              | (have hb1 : nbF N p b j = j ∨ nbF N p b j = b := by unfold nbF; split <;> simp
                 have hw1 : nwF N p z j = j ∨ nwF N p z j = z := by unfold nwF; split <;> simp
                 rw [bdL, if_neg (by omega)] at k
                 first | rw [show nbF N p b j = j from if_pos (Or.inl h39)] at k | rw [show nbF N p b j = j from if_pos (Or.inr h46)] at k | rw [show nbF N p b j = b from if_neg (fun q => q.elim h39 h46)] at k
                 first | rw [show nwF N p z j = j from if_pos (Or.inl h61)] at k | rw [show nwF N p z j = j from if_pos (Or.inr h68)] at k | rw [show nwF N p z j = z from if_neg (fun q => q.elim h61 h68)] at k
                 exact ih _ _ _ (by omega) (by omega) (by omega) (by omega) k)
        · refine wp_if_eq (tgt := 57) dX9_badPlace_49 rfl (fun _ => ?_) (fun q => absurd q (by decide))
          refine wp_iload_n dX9_badPlace_57 rfl ?_
          refine wp_istore_n (ls' := [_, _, _, _, _]) dX9_badPlace_58 (by decide) rfl rfl ?_
          refine wp_iload_n dX9_badPlace_59 rfl ?_
          refine wp_iconst dX9_badPlace_60 ?_
          refine wp_icmp_eq (tgt := 74) dX9_badPlace_61 rfl (fun h61 => ?_) (fun h61 => ?_)
          · refine wp_iload dX9_badPlace_74 rfl ?_
            refine wp_goto (tgt := 80) dX9_badPlace_76 rfl ?_
            refine wp_istore_n (ls' := [_, _, _, _, _]) dX9_badPlace_80 (by decide) rfl rfl ?_
            refine wp_iinc (ls' := [_, _, _, _, _]) dX9_badPlace_81 (by decide) rfl rfl ⟨by omega, by omega⟩ rfl ?_
            refine wp_goto (tgt := 12) dX9_badPlace_84 rfl ?_
            first
            | exact ih _ _ _ (by omega) (by omega) hb hz k
            | (have hb1 : nbF N p b j = j ∨ nbF N p b j = b := by unfold nbF; split <;> simp
               have hw1 : nwF N p z j = j ∨ nwF N p z j = z := by unfold nwF; split <;> simp
               rw [bdL, if_neg (by omega)] at k
               first | rw [show nbF N p b j = j from if_pos (Or.inl h39)] at k | rw [show nbF N p b j = j from if_pos (Or.inr h46)] at k | rw [show nbF N p b j = b from if_neg (fun q => q.elim h39 h46)] at k
               first | rw [show nwF N p z j = j from if_pos (Or.inl h61)] at k | rw [show nwF N p z j = j from if_pos (Or.inr h68)] at k | rw [show nwF N p z j = z from if_neg (fun q => q.elim h61 h68)] at k
               exact ih _ _ _ (by omega) (by omega) (by omega) (by omega) k)
          · refine wp_aload_n dX9_badPlace_64 rfl ?_
            refine wp_iload dX9_badPlace_65 rfl ?_
            refine wp_iload_n dX9_badPlace_67 rfl ?_
            refine wp_callV (as := [_, _]) (ls0 := [_, _, _]) (kc := 0) (ks := 0) (bc' := 0) (bs' := 0) dX9_badPlace_68 vX9_35 hA.1 rfl rfl (Nat.le_of_ble_eq_true rfl) (Nat.le_of_ble_eq_true rfl) (by omega) (by omega) ?_
            refine c_comesLess hA hR hB rfl (by omega) (by omega) (fun h68 => ?_) (fun h68 => ?_)
            · refine wp_if_eq (tgt := 79) dX9_badPlace_71 rfl (fun q => absurd q (by decide)) (fun _ => ?_)
              refine wp_iload dX9_badPlace_74 rfl ?_
              refine wp_goto (tgt := 80) dX9_badPlace_76 rfl ?_
              refine wp_istore_n (ls' := [_, _, _, _, _]) dX9_badPlace_80 (by decide) rfl rfl ?_
              refine wp_iinc (ls' := [_, _, _, _, _]) dX9_badPlace_81 (by decide) rfl rfl ⟨by omega, by omega⟩ rfl ?_
              refine wp_goto (tgt := 12) dX9_badPlace_84 rfl ?_
              first
              | exact ih _ _ _ (by omega) (by omega) hb hz k
              | (have hb1 : nbF N p b j = j ∨ nbF N p b j = b := by unfold nbF; split <;> simp
                 have hw1 : nwF N p z j = j ∨ nwF N p z j = z := by unfold nwF; split <;> simp
                 rw [bdL, if_neg (by omega)] at k
                 first | rw [show nbF N p b j = j from if_pos (Or.inl h39)] at k | rw [show nbF N p b j = j from if_pos (Or.inr h46)] at k | rw [show nbF N p b j = b from if_neg (fun q => q.elim h39 h46)] at k
                 first | rw [show nwF N p z j = j from if_pos (Or.inl h61)] at k | rw [show nwF N p z j = j from if_pos (Or.inr h68)] at k | rw [show nwF N p z j = z from if_neg (fun q => q.elim h61 h68)] at k
                 exact ih _ _ _ (by omega) (by omega) (by omega) (by omega) k)
            · refine wp_if_eq (tgt := 79) dX9_badPlace_71 rfl (fun _ => ?_) (fun q => absurd q (by decide))
              refine wp_iload_n dX9_badPlace_79 rfl ?_
              refine wp_istore_n (ls' := [_, _, _, _, _]) dX9_badPlace_80 (by decide) rfl rfl ?_
              refine wp_iinc (ls' := [_, _, _, _, _]) dX9_badPlace_81 (by decide) rfl rfl ⟨by omega, by omega⟩ rfl ?_
              refine wp_goto (tgt := 12) dX9_badPlace_84 rfl ?_
              first
              | exact ih _ _ _ (by omega) (by omega) hb hz k
              | (have hb1 : nbF N p b j = j ∨ nbF N p b j = b := by unfold nbF; split <;> simp
                 have hw1 : nwF N p z j = j ∨ nwF N p z j = z := by unfold nwF; split <;> simp
                 rw [bdL, if_neg (by omega)] at k
                 first | rw [show nbF N p b j = j from if_pos (Or.inl h39)] at k | rw [show nbF N p b j = j from if_pos (Or.inr h46)] at k | rw [show nbF N p b j = b from if_neg (fun q => q.elim h39 h46)] at k
                 first | rw [show nwF N p z j = j from if_pos (Or.inl h61)] at k | rw [show nwF N p z j = j from if_pos (Or.inr h68)] at k | rw [show nwF N p z j = z from if_neg (fun q => q.elim h61 h68)] at k
                 exact ih _ _ _ (by omega) (by omega) (by omega) (by omega) k)
theorem c_badPlace (hA : SdA sh iv rv i wd p q) (hR : Rel w N) (hB : Bok W Of N) (h0 : q = 0) (k : R (some (aI (bad N p))) sh (uA iv wd w) lw rv) : wp (d + 1) mX9_badPlace 0 [some (aR i), none, none, none, none] [] sh (uA iv wd w) lw rv 0 0 R := by
  have hat := hA.at
  have hp := hA.2.2.2.2.2.1
  have hq := hA.2.2.2.2.2.2
  subst h0
  have h18 := hB.v18 hp
  refine wp_iconst dX9_badPlace_0 ?_
  refine wp_istore_n (ls' := [_, _, _, _, _]) dX9_badPlace_1 (by decide) rfl rfl ?_
  refine wp_iconst dX9_badPlace_2 ?_
  refine wp_istore_n (ls' := [_, _, _, _, _]) dX9_badPlace_3 (by decide) rfl rfl ?_
  refine wp_aload_n dX9_badPlace_4 rfl ?_
  refine wp_callV (as := []) (ls0 := [_]) (kc := 0) (ks := 0) (bc' := 0) (bs' := 0) dX9_badPlace_5 vX9_23 hA.1 rfl rfl (Nat.le_of_ble_eq_true rfl) (Nat.le_of_ble_eq_true rfl) (by omega) (by omega) ?_
  refine c_size hA hR ?_
  rw [mq0]
  refine wp_istore_n (ls' := [_, _, _, _, _]) dX9_badPlace_8 (by decide) rfl rfl ?_
  refine wp_iconst dX9_badPlace_9 ?_
  refine wp_istore (ls' := [_, _, _, _, _]) dX9_badPlace_10 (by decide) rfl rfl ?_
  exact l_cbad hA hR hB rfl (N (61 * p + 18)).toNat _ _ _ (by omega) (by omega) (by omega) (by omega) k
end C3
