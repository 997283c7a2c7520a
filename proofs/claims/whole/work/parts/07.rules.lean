/-! ===== plain facts of 32 bits ===== -/
theorem a_toInt {x : Int} (h : iR x) : (Int32.ofInt x).toInt = x := Int32.toInt_ofInt_of_le h.1 h.2
theorem a_inj {x y : Int} (hx : iR x) (hy : iR y) : Int32.ofInt x = Int32.ofInt y ↔ x = y := by
  rw [← Int32.toInt_inj, a_toInt hx, a_toInt hy]
theorem a_b_eq {x y : Int} (hx : iR x) (hy : iR y) : Int32.ofInt x = Int32.ofInt y ↔ x = y := a_inj hx hy
theorem a_b_ne {x y : Int} (hx : iR x) (hy : iR y) : ¬ Int32.ofInt x = Int32.ofInt y ↔ ¬ x = y := not_congr (a_inj hx hy)
theorem a_b_lt {x y : Int} (hx : iR x) (hy : iR y) : Int32.ofInt x < Int32.ofInt y ↔ x < y := by rw [Int32.lt_iff_toInt_lt, a_toInt hx, a_toInt hy]
theorem a_b_ge {x y : Int} (hx : iR x) (hy : iR y) : Int32.ofInt y ≤ Int32.ofInt x ↔ y ≤ x := by rw [Int32.le_iff_toInt_le, a_toInt hx, a_toInt hy]
theorem a_b_gt {x y : Int} (hx : iR x) (hy : iR y) : Int32.ofInt y < Int32.ofInt x ↔ y < x := a_b_lt hy hx
theorem a_b_le {x y : Int} (hx : iR x) (hy : iR y) : Int32.ofInt x ≤ Int32.ofInt y ↔ x ≤ y := a_b_ge hy hx
theorem a_r0 : iR 0 := ⟨by decide, by decide⟩
theorem a_b0_eq {x : Int} (hx : iR x) : Int32.ofInt x = 0 ↔ x = 0 := a_b_eq hx a_r0
theorem a_b0_ne {x : Int} (hx : iR x) : ¬ Int32.ofInt x = 0 ↔ ¬ x = 0 := a_b_ne hx a_r0
theorem a_b0_lt {x : Int} (hx : iR x) : Int32.ofInt x < 0 ↔ x < 0 := a_b_lt hx a_r0
theorem a_b0_ge {x : Int} (hx : iR x) : 0 ≤ Int32.ofInt x ↔ 0 ≤ x := a_b_ge hx a_r0
theorem a_b0_gt {x : Int} (hx : iR x) : 0 < Int32.ofInt x ↔ 0 < x := a_b_gt hx a_r0
theorem a_b0_le {x : Int} (hx : iR x) : Int32.ofInt x ≤ 0 ↔ x ≤ 0 := a_b_le hx a_r0
theorem a_ne0 {y : Int} (hy : iR y) (h : 0 < y) : ¬ Int32.ofInt y = 0 := fun q => by
  have := (a_b0_eq hy).mp q; omega
theorem a_div_r {x y : Int} (hx : iR x) (h0 : 0 ≤ x) (hy : 0 < y) : iR (x / y) := by
  have h1 := Int.ediv_nonneg h0 (Int.le_of_lt hy)
  have h2 := Int.ediv_le_self y h0
  exact ⟨by omega, by have := hx.2; omega⟩
theorem a_mod_r {x y : Int} (hy : iR y) (h0 : 0 ≤ x) (h : 0 < y) : iR (x % y) := by
  have h1 := Int.emod_nonneg x (by omega : y ≠ 0)
  have h2 := Int.emod_lt_of_pos x h
  exact ⟨by omega, by have := hy.2; omega⟩
theorem a_div {x y : Int} (hx : iR x) (hy : iR y) (h0 : 0 ≤ x) (h : 0 < y) : Int32.ofInt x / Int32.ofInt y = Int32.ofInt (x / y) := by
  rw [← Int32.toInt_inj, Int32.toInt_div_of_ne_right _ _ (fun q => by have := congrArg Int32.toInt q; rw [a_toInt hy] at this; have e : (-1 : Int32).toInt = -1 := rfl; omega), a_toInt hx, a_toInt hy, a_toInt (a_div_r hx h0 h), Int.tdiv_eq_ediv_of_nonneg h0]
theorem a_rem {x y : Int} (hx : iR x) (hy : iR y) (h0 : 0 ≤ x) (h : 0 < y) : Int32.ofInt x - Int32.ofInt x / Int32.ofInt y * Int32.ofInt y = Int32.ofInt (x % y) := by
  rw [a_div hx hy h0 h, ← Int32.ofInt_mul, ← Int32.ofInt_sub, Int.emod_def, Int.mul_comm]
theorem a_nat {x : Int} (h0 : 0 ≤ x) : Int32.ofInt x = Int32.ofNat x.toNat := by
  rw [← Int32.ofInt_eq_ofNat, Int.toNat_of_nonneg h0]
theorem a_tn {n : Nat} (h : n < 2 ^ 32) : (Int32.ofNat n).toBitVec.toNat = n := pk_tn h
theorem a_b8 {v : Int} (h : -128 ≤ v ∧ v < 128) : (Int8.ofInt v).toInt32 = Int32.ofInt v := by
  rw [← Int32.toInt_inj, Int8.toInt_toInt32, Int8.toInt_ofInt_of_le (by omega) (by omega), a_toInt ⟨by omega, by omega⟩]
theorem a_b16 {v : Int} (h : -32768 ≤ v ∧ v < 32768) : (Int16.ofInt v).toInt32 = Int32.ofInt v := by
  rw [← Int32.toInt_inj, Int16.toInt_toInt32, Int16.toInt_ofInt_of_le (by omega) (by omega), a_toInt ⟨by omega, by omega⟩]
theorem a_hol1 {ls : List (Option aV)} {i n : Nat} {v : aV} (hi : i < ls.length) (o0 : a_ok n v) (hol : ∀ (k : Nat) (v : aV), a_nth ls k = some v → a_ok n v) : ∀ (k : Nat) (w : aV), a_nth (a_put ls i (some v)) k = some w → a_ok n w := by
  intro k w hk
  rw [a_nth_put hi] at hk
  by_cases e : k = i
  · rw [if_pos e] at hk; cases hk; exact o0
  · rw [if_neg e] at hk; exact hol k w hk
theorem a_bv (z : Int) : (Int32.ofInt z).toBitVec.toNat = (z % 4294967296).toNat := by
  show (BitVec.ofInt 32 z).toNat = _
  rw [BitVec.toNat_ofInt]
  rfl
theorem a_bvi {a b : Int32} (h : a.toBitVec.toNat = b.toBitVec.toNat) : a = b := Int32.toBitVec.inj (BitVec.eq_of_toNat_eq h)
theorem a_bvn {z : Int} (h : iR z) (h0 : 0 ≤ z) : (Int32.ofInt z).toBitVec.toNat = z.toNat := by
  rw [a_bv]; congr 1; have := h.2; omega
theorem a_and_r {x : Int} {m : Nat} (hx : iR x) (h0 : 0 ≤ x) : iR ((x.toNat &&& m : Nat) : Int) := by
  have h1 : x.toNat &&& m ≤ x.toNat := Nat.and_le_left
  have := hx.2
  exact ⟨by omega, by omega⟩
theorem a_lt31 {x : Int} (hx : iR x) (h0 : 0 ≤ x) : x.toNat < 2 ^ 31 := by have := hx.2; omega
theorem a_or_r {x y : Int} (hx : iR x) (hy : iR y) (h0 : 0 ≤ x) (h1 : 0 ≤ y) : iR ((x.toNat ||| y.toNat : Nat) : Int) := by
  have h2 := Nat.or_lt_two_pow (a_lt31 hx h0) (a_lt31 hy h1)
  exact ⟨by omega, by omega⟩
theorem a_xor_r {x y : Int} (hx : iR x) (hy : iR y) (h0 : 0 ≤ x) (h1 : 0 ≤ y) : iR ((x.toNat ^^^ y.toNat : Nat) : Int) := by
  have h2 := Nat.xor_lt_two_pow (a_lt31 hx h0) (a_lt31 hy h1)
  exact ⟨by omega, by omega⟩
theorem a_and {x y : Int} (hx : iR x) (hy : iR y) (h0 : 0 ≤ x) (h1 : 0 ≤ y) : Int32.ofInt x &&& Int32.ofInt y = Int32.ofInt ((x.toNat &&& y.toNat : Nat) : Int) := by
  apply a_bvi
  rw [Int32.toBitVec_and, BitVec.toNat_and, a_bvn hx h0, a_bvn hy h1, a_bvn (a_and_r hx h0) (Int.natCast_nonneg _), Int.toNat_natCast]
theorem a_or {x y : Int} (hx : iR x) (hy : iR y) (h0 : 0 ≤ x) (h1 : 0 ≤ y) : Int32.ofInt x ||| Int32.ofInt y = Int32.ofInt ((x.toNat ||| y.toNat : Nat) : Int) := by
  apply a_bvi
  rw [Int32.toBitVec_or, BitVec.toNat_or, a_bvn hx h0, a_bvn hy h1, a_bvn (a_or_r hx hy h0 h1) (Int.natCast_nonneg _), Int.toNat_natCast]
theorem a_xor {x y : Int} (hx : iR x) (hy : iR y) (h0 : 0 ≤ x) (h1 : 0 ≤ y) : Int32.ofInt x ^^^ Int32.ofInt y = Int32.ofInt ((x.toNat ^^^ y.toNat : Nat) : Int) := by
  apply a_bvi
  rw [Int32.toBitVec_xor, BitVec.toNat_xor, a_bvn hx h0, a_bvn hy h1, a_bvn (a_xor_r hx hy h0 h1) (Int.natCast_nonneg _), Int.toNat_natCast]
theorem a_and255 {x : Int} : Int32.ofInt x &&& Int32.ofInt 255 = Int32.ofInt (x % 256) := by
  apply a_bvi
  rw [pk_and (Int32.ofInt x) (m := Int32.ofInt 255) 8 (by decide +kernel), a_bv, a_bv]
  show (nI _).toBitVec.toNat = _
  rw [pk_tn (by omega)]
  omega
theorem a_s31 : ∀ n : Fin 32, ((Int32.ofInt (n.val : Int) &&& 31).toBitVec.smod 32).toNat = n.val := by decide +kernel
theorem a_u31 : ∀ n : Fin 32, (((Int32.ofInt (n.val : Int)).toUInt32 &&& Int32.toUInt32 31).toBitVec % 32).toNat = n.val := by decide +kernel
theorem a_sm {y : Int} (h0 : 0 ≤ y) (hy : y < 32) : ((Int32.ofInt y &&& 31).toBitVec.smod 32).toNat = y.toNat := by
  have := a_s31 ⟨y.toNat, by omega⟩
  simpa [Int.toNat_of_nonneg h0] using this
theorem a_um {y : Int} (h0 : 0 ≤ y) (hy : y < 32) : (((Int32.ofInt y).toUInt32 &&& Int32.toUInt32 31).toBitVec % 32).toNat = y.toNat := by
  have := a_u31 ⟨y.toNat, by omega⟩
  simpa [Int.toNat_of_nonneg h0] using this
theorem a_shl {x y : Int} (h0 : 0 ≤ y) (hy : y < 32) : Int32.ofInt x <<< (Int32.ofInt y &&& 31) = Int32.ofInt (x * 2 ^ y.toNat) := by
  apply a_bvi
  rw [pk_shl _ _ y.toNat (a_sm h0 hy), a_bv, a_bv]
  generalize y.toNat = n
  have e1 : (((x % 4294967296).toNat * 2 ^ n % 2 ^ 32 : Nat) : Int) = (x % 4294967296) * 2 ^ n % 4294967296 := by
    rw [Int.natCast_emod, Int.natCast_mul, Int.toNat_of_nonneg (by omega)]
    simp
  have e2 : (x % 4294967296) * 2 ^ n % 4294967296 = x * 2 ^ n % 4294967296 := by rw [Int.mul_emod, Int.emod_emod, ← Int.mul_emod]
  have e3 : 0 ≤ x * 2 ^ n % 4294967296 := by omega
  omega
theorem a_shr_r {x : Int} {n : Nat} (hx : iR x) : iR (x / 2 ^ n) := by
  have hp : (0 : Int) < 2 ^ n := Int.pow_pos (by decide)
  have h1 : (1 : Int) ≤ 2 ^ n := hp
  obtain ⟨a, b⟩ := hx
  refine ⟨?_, ?_⟩
  · rw [Int.le_ediv_iff_mul_le hp]
    have : -2147483648 * (2 : Int) ^ n ≤ -2147483648 * 1 := Int.mul_le_mul_of_nonpos_left (by decide) h1
    omega
  · rw [Int.ediv_lt_iff_lt_mul hp]
    have : 2147483648 * (1 : Int) ≤ 2147483648 * 2 ^ n := Int.mul_le_mul_of_nonneg_left h1 (by decide)
    omega
theorem a_shr {x y : Int} (hx : iR x) (h0 : 0 ≤ y) (hy : y < 32) : Int32.ofInt x >>> (Int32.ofInt y &&& 31) = Int32.ofInt (x / 2 ^ y.toNat) := by
  rw [← Int32.toInt_inj, pk_shr _ _ y.toNat (a_sm h0 hy), a_toInt hx, a_toInt (a_shr_r hx), Int.shiftRight_eq_div_pow]
  simp
theorem a_ushr_r {x y : Int} (hx : iR x) (h0 : 0 ≤ y) : iR (if y = 0 then x else x % 4294967296 / 2 ^ y.toNat) := by
  split
  · exact hx
  · rename_i hne
    have hp : (2 : Int) ≤ 2 ^ y.toNat := by
      obtain ⟨k, hk⟩ : ∃ k, y.toNat = k + 1 := ⟨y.toNat - 1, by omega⟩
      rw [hk, Int.pow_succ]
      have : (1 : Int) ≤ 2 ^ k := Int.pow_pos (by decide)
      omega
    have h1 : 0 ≤ x % 4294967296 / 2 ^ y.toNat := Int.ediv_nonneg (by omega) (by omega)
    refine ⟨by omega, ?_⟩
    rw [Int.ediv_lt_iff_lt_mul (by omega)]
    have : 2147483648 * (2 : Int) ≤ 2147483648 * 2 ^ y.toNat := Int.mul_le_mul_of_nonneg_left hp (by decide)
    omega
theorem a_ushr {x y : Int} (hx : iR x) (h0 : 0 ≤ y) (hy : y < 32) : ((Int32.ofInt x).toUInt32 >>> ((Int32.ofInt y).toUInt32 &&& Int32.toUInt32 31)).toInt32 = Int32.ofInt (if y = 0 then x else x % 4294967296 / 2 ^ y.toNat) := by
  apply a_bvi
  rw [pk_ushr _ _ y.toNat (a_um h0 hy), a_bv, a_bv]
  split
  · rename_i h; subst h; simp
  · have hq := a_ushr_r hx h0
    rw [if_neg (by assumption)] at hq
    have h1 : 0 ≤ x % 4294967296 / 2 ^ y.toNat := Int.ediv_nonneg (by omega) (Int.le_of_lt (Int.pow_pos (by decide)))
    have h2 := hq.2
    have e : (((x % 4294967296).toNat / 2 ^ y.toNat : Nat) : Int) = x % 4294967296 / 2 ^ y.toNat := by
      rw [Int.natCast_ediv, Int.toNat_of_nonneg (by omega)]
      simp
    omega
section WPR
variable {d : Nat} {M : aMth} {pc : Nat} {ls ls' : List (Option aV)} {st : List aV} {sh : aSh} {iv lw : aF} {rv : aP} {bc bs : Nat} {R : aPost}
theorem wp_iconst {v : Int} (hd : decode M.2.1 pc = .ok (.iconst v, 1)) (k : wp d M (pc + 1) ls (aI v :: st) sh iv lw rv bc bs R) (hv : -2147483648 ≤ v ∧ v < 2147483648 := by decide) : wp d M pc ls st sh iv lw rv bc bs R := by
  intro p l e s m args below meth c D cI cL cA xd A mc ms ad0 n0 hC ad H locs cells slots jls hD
  obtain ⟨hx, hb, hml, hr, hlk, hown, hnm, hts, hK, hE, hA⟩ := id hC
  obtain ⟨h1, h2, hP, hDs, hS, hc, hs, hl, hw, ho, hol⟩ := hD
  refine lv_iconst (v := Int32.ofInt v) hx hb hd rfl ?_
  exact k p l e s m args below meth c D cI cL cA xd A mc ms ad0 n0 hC ad H locs cells slots jls ⟨h1, h2, hP, hDs, hS, hc, hs, hl, hw, List.forall_mem_cons.mpr ⟨(show iR v from ⟨by omega, by omega⟩), ho⟩, hol⟩
theorem wp_bipush {v : Int} (hd : decode M.2.1 pc = .ok (.bipush v, 2)) (k : wp d M (pc + 2) ls (aI v :: st) sh iv lw rv bc bs R) (hv : -128 ≤ v ∧ v < 128 := by decide) : wp d M pc ls st sh iv lw rv bc bs R := by
  intro p l e s m args below meth c D cI cL cA xd A mc ms ad0 n0 hC ad H locs cells slots jls hD
  obtain ⟨hx, hb, hml, hr, hlk, hown, hnm, hts, hK, hE, hA⟩ := id hC
  obtain ⟨h1, h2, hP, hDs, hS, hc, hs, hl, hw, ho, hol⟩ := hD
  refine lv_bipush (v := Int32.ofInt v) hx hb hd (a_b8 hv) ?_
  exact k p l e s m args below meth c D cI cL cA xd A mc ms ad0 n0 hC ad H locs cells slots jls ⟨h1, h2, hP, hDs, hS, hc, hs, hl, hw, List.forall_mem_cons.mpr ⟨(show iR v from ⟨by omega, by omega⟩), ho⟩, hol⟩
theorem wp_sipush {v : Int} (hd : decode M.2.1 pc = .ok (.sipush v, 3)) (k : wp d M (pc + 3) ls (aI v :: st) sh iv lw rv bc bs R) (hv : -32768 ≤ v ∧ v < 32768 := by decide) : wp d M pc ls st sh iv lw rv bc bs R := by
  intro p l e s m args below meth c D cI cL cA xd A mc ms ad0 n0 hC ad H locs cells slots jls hD
  obtain ⟨hx, hb, hml, hr, hlk, hown, hnm, hts, hK, hE, hA⟩ := id hC
  obtain ⟨h1, h2, hP, hDs, hS, hc, hs, hl, hw, ho, hol⟩ := hD
  refine lv_sipush (v := Int32.ofInt v) hx hb hd (a_b16 hv) ?_
  exact k p l e s m args below meth c D cI cL cA xd A mc ms ad0 n0 hC ad H locs cells slots jls ⟨h1, h2, hP, hDs, hS, hc, hs, hl, hw, List.forall_mem_cons.mpr ⟨(show iR v from ⟨by omega, by omega⟩), ho⟩, hol⟩
theorem wp_lconst0 (hd : decode M.2.1 pc = .ok (.lconst 0, 1)) (k : wp d M (pc + 1) ls (aL 0 :: st) sh iv lw rv bc bs R) : wp d M pc ls st sh iv lw rv bc bs R := by
  intro p l e s m args below meth c D cI cL cA xd A mc ms ad0 n0 hC ad H locs cells slots jls hD
  obtain ⟨hx, hb, hml, hr, hlk, hown, hnm, hts, hK, hE, hA⟩ := id hC
  obtain ⟨h1, h2, hP, hDs, hS, hc, hs, hl, hw, ho, hol⟩ := hD
  refine lv_lconst (v := Int64.ofInt 0) hx hb hd rfl ?_
  exact k p l e s m args below meth c D cI cL cA xd A mc ms ad0 n0 hC ad H locs cells slots jls ⟨h1, h2, hP, hDs, hS, hc, hs, hl, hw, List.forall_mem_cons.mpr ⟨(show lR 0 from ⟨by decide, by decide⟩), ho⟩, hol⟩
theorem wp_null (hd : decode M.2.1 pc = .ok (.aconst_null, 1)) (k : wp d M (pc + 1) ls (aN :: st) sh iv lw rv bc bs R) : wp d M pc ls st sh iv lw rv bc bs R := by
  intro p l e s m args below meth c D cI cL cA xd A mc ms ad0 n0 hC ad H locs cells slots jls hD
  obtain ⟨hx, hb, hml, hr, hlk, hown, hnm, hts, hK, hE, hA⟩ := id hC
  obtain ⟨h1, h2, hP, hDs, hS, hc, hs, hl, hw, ho, hol⟩ := hD
  refine lv_null hx hb hd ?_
  exact k p l e s m args below meth c D cI cL cA xd A mc ms ad0 n0 hC ad H locs cells slots jls ⟨h1, h2, hP, hDs, hS, hc, hs, hl, hw, List.forall_mem_cons.mpr ⟨trivial, ho⟩, hol⟩
theorem wp_iload_n {k : Fin 4} {x : Int} (hd : decode M.2.1 pc = .ok (.iload_n k, 1)) (hv : a_nth ls k = some (aI x)) (kk : wp d M (pc + 1) ls (aI x :: st) sh iv lw rv bc bs R) : wp d M pc ls st sh iv lw rv bc bs R := by
  intro p l e s m args below meth c D cI cL cA xd A mc ms ad0 n0 hC ad H locs cells slots jls hD
  obtain ⟨hx, hb, hml, hr, hlk, hown, hnm, hts, hK, hE, hA⟩ := id hC
  obtain ⟨h1, h2, hP, hDs, hS, hc, hs, hl, hw, ho, hol⟩ := hD
  refine lv_iload_n hx hb hd rfl (hl.2.2.2 _ _ hv) ?_
  exact kk p l e s m args below meth c D cI cL cA xd A mc ms ad0 n0 hC ad H locs cells slots jls ⟨h1, h2, hP, hDs, hS, hc, hs, hl, hw, List.forall_mem_cons.mpr ⟨hol _ _ hv, ho⟩, hol⟩
theorem wp_lload_n {k : Fin 4} {x : Int} (hd : decode M.2.1 pc = .ok (.lload_n k, 1)) (hv : a_nth ls k = some (aL x)) (kk : wp d M (pc + 1) ls (aL x :: st) sh iv lw rv bc bs R) : wp d M pc ls st sh iv lw rv bc bs R := by
  intro p l e s m args below meth c D cI cL cA xd A mc ms ad0 n0 hC ad H locs cells slots jls hD
  obtain ⟨hx, hb, hml, hr, hlk, hown, hnm, hts, hK, hE, hA⟩ := id hC
  obtain ⟨h1, h2, hP, hDs, hS, hc, hs, hl, hw, ho, hol⟩ := hD
  refine lv_lload_n hx hb hd rfl (hl.2.2.2 _ _ hv) ?_
  exact kk p l e s m args below meth c D cI cL cA xd A mc ms ad0 n0 hC ad H locs cells slots jls ⟨h1, h2, hP, hDs, hS, hc, hs, hl, hw, List.forall_mem_cons.mpr ⟨hol _ _ hv, ho⟩, hol⟩
theorem wp_aload_n {k : Fin 4} {x : Option (Nat ⊕ Nat)} (hd : decode M.2.1 pc = .ok (.aload_n k, 1)) (hv : a_nth ls k = some (.inr (.inr x))) (kk : wp d M (pc + 1) ls (.inr (.inr x) :: st) sh iv lw rv bc bs R) : wp d M pc ls st sh iv lw rv bc bs R := by
  intro p l e s m args below meth c D cI cL cA xd A mc ms ad0 n0 hC ad H locs cells slots jls hD
  obtain ⟨hx, hb, hml, hr, hlk, hown, hnm, hts, hK, hE, hA⟩ := id hC
  obtain ⟨h1, h2, hP, hDs, hS, hc, hs, hl, hw, ho, hol⟩ := hD
  rcases x with _ | x | x
  · refine lv_aload_nN hx hb hd rfl (hl.2.2.2 _ _ hv) ?_
    exact kk p l e s m args below meth c D cI cL cA xd A mc ms ad0 n0 hC ad H locs cells slots jls ⟨h1, h2, hP, hDs, hS, hc, hs, hl, hw, List.forall_mem_cons.mpr ⟨hol _ _ hv, ho⟩, hol⟩
  · refine lv_aload_n hx hb hd rfl (hl.2.2.2 _ _ hv) ?_
    exact kk p l e s m args below meth c D cI cL cA xd A mc ms ad0 n0 hC ad H locs cells slots jls ⟨h1, h2, hP, hDs, hS, hc, hs, hl, hw, List.forall_mem_cons.mpr ⟨hol _ _ hv, ho⟩, hol⟩
  · refine lv_aload_n hx hb hd rfl (hl.2.2.2 _ _ hv) ?_
    exact kk p l e s m args below meth c D cI cL cA xd A mc ms ad0 n0 hC ad H locs cells slots jls ⟨h1, h2, hP, hDs, hS, hc, hs, hl, hw, List.forall_mem_cons.mpr ⟨hol _ _ hv, ho⟩, hol⟩
theorem wp_iload {i : Nat} {x : Int} (hd : decode M.2.1 pc = .ok (.iload i, 2)) (hv : a_nth ls i = some (aI x)) (kk : wp d M (pc + 2) ls (aI x :: st) sh iv lw rv bc bs R) : wp d M pc ls st sh iv lw rv bc bs R := by
  intro p l e s m args below meth c D cI cL cA xd A mc ms ad0 n0 hC ad H locs cells slots jls hD
  obtain ⟨hx, hb, hml, hr, hlk, hown, hnm, hts, hK, hE, hA⟩ := id hC
  obtain ⟨h1, h2, hP, hDs, hS, hc, hs, hl, hw, ho, hol⟩ := hD
  refine lv_iload hx hb hd (hl.2.2.2 _ _ hv) ?_
  exact kk p l e s m args below meth c D cI cL cA xd A mc ms ad0 n0 hC ad H locs cells slots jls ⟨h1, h2, hP, hDs, hS, hc, hs, hl, hw, List.forall_mem_cons.mpr ⟨hol _ _ hv, ho⟩, hol⟩
theorem wp_lload {i : Nat} {x : Int} (hd : decode M.2.1 pc = .ok (.lload i, 2)) (hv : a_nth ls i = some (aL x)) (kk : wp d M (pc + 2) ls (aL x :: st) sh iv lw rv bc bs R) : wp d M pc ls st sh iv lw rv bc bs R := by
  intro p l e s m args below meth c D cI cL cA xd A mc ms ad0 n0 hC ad H locs cells slots jls hD
  obtain ⟨hx, hb, hml, hr, hlk, hown, hnm, hts, hK, hE, hA⟩ := id hC
  obtain ⟨h1, h2, hP, hDs, hS, hc, hs, hl, hw, ho, hol⟩ := hD
  refine lv_lload hx hb hd (hl.2.2.2 _ _ hv) ?_
  exact kk p l e s m args below meth c D cI cL cA xd A mc ms ad0 n0 hC ad H locs cells slots jls ⟨h1, h2, hP, hDs, hS, hc, hs, hl, hw, List.forall_mem_cons.mpr ⟨hol _ _ hv, ho⟩, hol⟩
theorem wp_aload {i : Nat} {x : Option (Nat ⊕ Nat)} (hd : decode M.2.1 pc = .ok (.aload i, 2)) (hv : a_nth ls i = some (.inr (.inr x))) (kk : wp d M (pc + 2) ls (.inr (.inr x) :: st) sh iv lw rv bc bs R) : wp d M pc ls st sh iv lw rv bc bs R := by
  intro p l e s m args below meth c D cI cL cA xd A mc ms ad0 n0 hC ad H locs cells slots jls hD
  obtain ⟨hx, hb, hml, hr, hlk, hown, hnm, hts, hK, hE, hA⟩ := id hC
  obtain ⟨h1, h2, hP, hDs, hS, hc, hs, hl, hw, ho, hol⟩ := hD
  rcases x with _ | x | x
  · refine lv_aloadN hx hb hd (hl.2.2.2 _ _ hv) ?_
    exact kk p l e s m args below meth c D cI cL cA xd A mc ms ad0 n0 hC ad H locs cells slots jls ⟨h1, h2, hP, hDs, hS, hc, hs, hl, hw, List.forall_mem_cons.mpr ⟨hol _ _ hv, ho⟩, hol⟩
  · refine lv_aload hx hb hd (hl.2.2.2 _ _ hv) ?_
    exact kk p l e s m args below meth c D cI cL cA xd A mc ms ad0 n0 hC ad H locs cells slots jls ⟨h1, h2, hP, hDs, hS, hc, hs, hl, hw, List.forall_mem_cons.mpr ⟨hol _ _ hv, ho⟩, hol⟩
  · refine lv_aload hx hb hd (hl.2.2.2 _ _ hv) ?_
    exact kk p l e s m args below meth c D cI cL cA xd A mc ms ad0 n0 hC ad H locs cells slots jls ⟨h1, h2, hP, hDs, hS, hc, hs, hl, hw, List.forall_mem_cons.mpr ⟨hol _ _ hv, ho⟩, hol⟩
theorem wp_istore_n {k : Fin 4} {x : Int} (hd : decode M.2.1 pc = .ok (.istore_n k, 1)) (hn : (k : Nat) < M.2.2.1) (hnl : a_nl ls (k : Nat) = true) (he : a_put ls (k : Nat) (some (aI x)) = ls') (kk : wp d M (pc + 1) ls' st sh iv lw rv bc bs R) : wp d M pc ls (aI x :: st) sh iv lw rv bc bs R := by
  intro p l e s m args below meth c D cI cL cA xd A mc ms ad0 n0 hC ad H locs cells slots jls hD
  obtain ⟨hx, hb, hml, hr, hlk, hown, hnm, hts, hK, hE, hA⟩ := id hC
  obtain ⟨h1, h2, hP, hDs, hS, hc, hs, hl, hw, ho, hol⟩ := hD
  obtain ⟨o0, hoo⟩ := List.forall_mem_cons.mp ho
  clear ho
  have ho := hoo
  clear hoo
  subst he
  refine lv_istore_n hx hb hd rfl hl.has hn rfl (fun jls' hj => ?_)
  exact kk p l e s m args below meth c D cI cL cA xd A mc ms ad0 n0 hC ad H locs cells slots jls' ⟨h1, h2, hP, hDs, hS, hc, hs, hl.st1 hn hnl hj, hw, ho, (a_hol1 (i := (k : Nat)) (by rw [hl.1]; exact hn) o0 hol)⟩
theorem wp_astore_n {k : Fin 4} {x : Option (Nat ⊕ Nat)} (hd : decode M.2.1 pc = .ok (.astore_n k, 1)) (hn : (k : Nat) < M.2.2.1) (hnl : a_nl ls (k : Nat) = true) (he : a_put ls (k : Nat) (some (.inr (.inr x))) = ls') (kk : wp d M (pc + 1) ls' st sh iv lw rv bc bs R) : wp d M pc ls (.inr (.inr x) :: st) sh iv lw rv bc bs R := by
  intro p l e s m args below meth c D cI cL cA xd A mc ms ad0 n0 hC ad H locs cells slots jls hD
  obtain ⟨hx, hb, hml, hr, hlk, hown, hnm, hts, hK, hE, hA⟩ := id hC
  obtain ⟨h1, h2, hP, hDs, hS, hc, hs, hl, hw, ho, hol⟩ := hD
  obtain ⟨o0, hoo⟩ := List.forall_mem_cons.mp ho
  clear ho
  have ho := hoo
  clear hoo
  subst he
  rcases x with _ | x | x
  · refine lv_astore_nN hx hb hd rfl hl.has hn rfl (fun jls' hj => ?_)
    exact kk p l e s m args below meth c D cI cL cA xd A mc ms ad0 n0 hC ad H locs cells slots jls' ⟨h1, h2, hP, hDs, hS, hc, hs, hl.st1 (v := aN) hn hnl hj, hw, ho, (a_hol1 (i := (k : Nat)) (by rw [hl.1]; exact hn) o0 hol)⟩
  · refine lv_astore_n hx hb hd rfl hl.has hn rfl (fun jls' hj => ?_)
    exact kk p l e s m args below meth c D cI cL cA xd A mc ms ad0 n0 hC ad H locs cells slots jls' ⟨h1, h2, hP, hDs, hS, hc, hs, hl.st1 (v := aR x) hn hnl hj, hw, ho, (a_hol1 (i := (k : Nat)) (by rw [hl.1]; exact hn) o0 hol)⟩
  · refine lv_astore_n hx hb hd rfl hl.has hn rfl (fun jls' hj => ?_)
    exact kk p l e s m args below meth c D cI cL cA xd A mc ms ad0 n0 hC ad H locs cells slots jls' ⟨h1, h2, hP, hDs, hS, hc, hs, hl.st1 (v := aX x) hn hnl hj, hw, ho, (a_hol1 (i := (k : Nat)) (by rw [hl.1]; exact hn) o0 hol)⟩
theorem wp_lstore_n {k : Fin 4} {x : Int} (hd : decode M.2.1 pc = .ok (.lstore_n k, 1)) (hn : (k : Nat) + 1 < M.2.2.1) (hnl : a_nl ls (k : Nat) = true) (he : a_put (a_put ls (k : Nat) (some (aL x))) ((k : Nat) + 1) none = ls') (kk : wp d M (pc + 1) ls' st sh iv lw rv bc bs R) : wp d M pc ls (aL x :: st) sh iv lw rv bc bs R := by
  intro p l e s m args below meth c D cI cL cA xd A mc ms ad0 n0 hC ad H locs cells slots jls hD
  obtain ⟨hx, hb, hml, hr, hlk, hown, hnm, hts, hK, hE, hA⟩ := id hC
  obtain ⟨h1, h2, hP, hDs, hS, hc, hs, hl, hw, ho, hol⟩ := hD
  obtain ⟨o0, hoo⟩ := List.forall_mem_cons.mp ho
  clear ho
  have ho := hoo
  clear hoo
  subst he
  refine lv_lstore_n hx hb hd rfl hl.has hn rfl (fun jls' hj => ?_)
  refine kk p l e s m args below meth c D cI cL cA xd A mc ms ad0 n0 hC ad H locs cells slots jls' ⟨h1, h2, hP, hDs, hS, hc, hs, hl.st2 (v := aL x) hn hnl hj, hw, ho, ?_⟩
  intro kz vz hz
  rw [a_nth_put (by rw [a_put_len, hl.1]; exact hn)] at hz
  by_cases e1 : kz = (k : Nat) + 1
  · rw [if_pos e1] at hz; cases hz
  · rw [if_neg e1, a_nth_put (by rw [hl.1]; omega)] at hz
    by_cases e : kz = (k : Nat)
    · rw [if_pos e] at hz; cases hz; exact o0
    · rw [if_neg e] at hz; exact hol kz vz hz
theorem wp_istore {i : Nat} {x : Int} (hd : decode M.2.1 pc = .ok (.istore i, 2)) (hn : i < M.2.2.1) (hnl : a_nl ls i = true) (he : a_put ls i (some (aI x)) = ls') (kk : wp d M (pc + 2) ls' st sh iv lw rv bc bs R) : wp d M pc ls (aI x :: st) sh iv lw rv bc bs R := by
  intro p l e s m args below meth c D cI cL cA xd A mc ms ad0 n0 hC ad H locs cells slots jls hD
  obtain ⟨hx, hb, hml, hr, hlk, hown, hnm, hts, hK, hE, hA⟩ := id hC
  obtain ⟨h1, h2, hP, hDs, hS, hc, hs, hl, hw, ho, hol⟩ := hD
  obtain ⟨o0, hoo⟩ := List.forall_mem_cons.mp ho
  clear ho
  have ho := hoo
  clear hoo
  subst he
  refine lv_istore hx hb hd hl.has hn rfl (fun jls' hj => ?_)
  exact kk p l e s m args below meth c D cI cL cA xd A mc ms ad0 n0 hC ad H locs cells slots jls' ⟨h1, h2, hP, hDs, hS, hc, hs, hl.st1 hn hnl hj, hw, ho, (a_hol1 (i := i) (by rw [hl.1]; exact hn) o0 hol)⟩
theorem wp_astore {i : Nat} {x : Option (Nat ⊕ Nat)} (hd : decode M.2.1 pc = .ok (.astore i, 2)) (hn : i < M.2.2.1) (hnl : a_nl ls i = true) (he : a_put ls i (some (.inr (.inr x))) = ls') (kk : wp d M (pc + 2) ls' st sh iv lw rv bc bs R) : wp d M pc ls (.inr (.inr x) :: st) sh iv lw rv bc bs R := by
  intro p l e s m args below meth c D cI cL cA xd A mc ms ad0 n0 hC ad H locs cells slots jls hD
  obtain ⟨hx, hb, hml, hr, hlk, hown, hnm, hts, hK, hE, hA⟩ := id hC
  obtain ⟨h1, h2, hP, hDs, hS, hc, hs, hl, hw, ho, hol⟩ := hD
  obtain ⟨o0, hoo⟩ := List.forall_mem_cons.mp ho
  clear ho
  have ho := hoo
  clear hoo
  subst he
  rcases x with _ | x | x
  · refine lv_astoreN hx hb hd hl.has hn rfl (fun jls' hj => ?_)
    exact kk p l e s m args below meth c D cI cL cA xd A mc ms ad0 n0 hC ad H locs cells slots jls' ⟨h1, h2, hP, hDs, hS, hc, hs, hl.st1 (v := aN) hn hnl hj, hw, ho, (a_hol1 (i := i) (by rw [hl.1]; exact hn) o0 hol)⟩
  · refine lv_astore hx hb hd hl.has hn rfl (fun jls' hj => ?_)
    exact kk p l e s m args below meth c D cI cL cA xd A mc ms ad0 n0 hC ad H locs cells slots jls' ⟨h1, h2, hP, hDs, hS, hc, hs, hl.st1 (v := aR x) hn hnl hj, hw, ho, (a_hol1 (i := i) (by rw [hl.1]; exact hn) o0 hol)⟩
  · refine lv_astore hx hb hd hl.has hn rfl (fun jls' hj => ?_)
    exact kk p l e s m args below meth c D cI cL cA xd A mc ms ad0 n0 hC ad H locs cells slots jls' ⟨h1, h2, hP, hDs, hS, hc, hs, hl.st1 (v := aX x) hn hnl hj, hw, ho, (a_hol1 (i := i) (by rw [hl.1]; exact hn) o0 hol)⟩
theorem wp_lstore {i : Nat} {x : Int} (hd : decode M.2.1 pc = .ok (.lstore i, 2)) (hn : i + 1 < M.2.2.1) (hnl : a_nl ls i = true) (he : a_put (a_put ls i (some (aL x))) (i + 1) none = ls') (kk : wp d M (pc + 2) ls' st sh iv lw rv bc bs R) : wp d M pc ls (aL x :: st) sh iv lw rv bc bs R := by
  intro p l e s m args below meth c D cI cL cA xd A mc ms ad0 n0 hC ad H locs cells slots jls hD
  obtain ⟨hx, hb, hml, hr, hlk, hown, hnm, hts, hK, hE, hA⟩ := id hC
  obtain ⟨h1, h2, hP, hDs, hS, hc, hs, hl, hw, ho, hol⟩ := hD
  obtain ⟨o0, hoo⟩ := List.forall_mem_cons.mp ho
  clear ho
  have ho := hoo
  clear hoo
  subst he
  refine lv_lstore hx hb hd hl.has hn rfl (fun jls' hj => ?_)
  refine kk p l e s m args below meth c D cI cL cA xd A mc ms ad0 n0 hC ad H locs cells slots jls' ⟨h1, h2, hP, hDs, hS, hc, hs, hl.st2 (v := aL x) hn hnl hj, hw, ho, ?_⟩
  intro kz vz hz
  rw [a_nth_put (by rw [a_put_len, hl.1]; exact hn)] at hz
  by_cases e1 : kz = i + 1
  · rw [if_pos e1] at hz; cases hz
  · rw [if_neg e1, a_nth_put (by rw [hl.1]; omega)] at hz
    by_cases e : kz = i
    · rw [if_pos e] at hz; cases hz; exact o0
    · rw [if_neg e] at hz; exact hol kz vz hz
theorem wp_iinc {i : Nat} {x n : Int} (hd : decode M.2.1 pc = .ok (.iinc i n, 3)) (hn : i < M.2.2.1) (hnl : a_nl ls i = true) (hv : a_nth ls i = some (aI x)) (hr : iR (x + n)) (he : a_put ls i (some (aI (x + n))) = ls') (kk : wp d M (pc + 3) ls' st sh iv lw rv bc bs R) : wp d M pc ls st sh iv lw rv bc bs R := by
  intro p l e s m args below meth c D cI cL cA xd A mc ms ad0 n0 hC ad H locs cells slots jls hD
  obtain ⟨hx, hb, hml, hr, hlk, hown, hnm, hts, hK, hE, hA⟩ := id hC
  obtain ⟨h1, h2, hP, hDs, hS, hc, hs, hl, hw, ho, hol⟩ := hD
  subst he
  obtain ⟨kq, hkq⟩ := List.mem_iff_getElem?.mp (a_lv_mem (ad := ad) (xd := xd) hv)
  refine lv_iinc (v := Int32.ofInt (x + n)) hx hb hd hl.has hkq (Int32.ofInt_add x n).symm hn rfl (fun jls' hj => ?_)
  exact kk p l e s m args below meth c D cI cL cA xd A mc ms ad0 n0 hC ad H locs cells slots jls' ⟨h1, h2, hP, hDs, hS, hc, hs, hl.st1 (v := aI (x + n)) hn hnl hj, hw, ho, (a_hol1 (i := i) (by rw [hl.1]; exact hn) ‹iR (x + n)› hol)⟩
theorem wp_dup {v : aV} (hd : decode M.2.1 pc = .ok (.dup, 1)) (hv : a_lg (some v) = false) (k : wp d M (pc + 1) ls (v :: v :: st) sh iv lw rv bc bs R) : wp d M pc ls (v :: st) sh iv lw rv bc bs R := by
  intro p l e s m args below meth c D cI cL cA xd A mc ms ad0 n0 hC ad H locs cells slots jls hD
  obtain ⟨hx, hb, hml, hr, hlk, hown, hnm, hts, hK, hE, hA⟩ := id hC
  obtain ⟨h1, h2, hP, hDs, hS, hc, hs, hl, hw, ho, hol⟩ := hD
  obtain ⟨o0, hoo⟩ := List.forall_mem_cons.mp ho
  clear ho
  have ho := hoo
  clear hoo
  refine lv_dup hx hb hd (by rcases v with v | v | _ | v | v <;> simp [a_lg] at hv <;> rfl) ?_
  exact k p l e s m args below meth c D cI cL cA xd A mc ms ad0 n0 hC ad H locs cells slots jls ⟨h1, h2, hP, hDs, hS, hc, hs, hl, hw, List.forall_mem_cons.mpr ⟨o0, List.forall_mem_cons.mpr ⟨o0, ho⟩⟩, hol⟩
theorem wp_dup2 {v w : aV} (hd : decode M.2.1 pc = .ok (.dup2, 1)) (hv : a_lg (some v) = false) (hv2 : a_lg (some w) = false) (k : wp d M (pc + 1) ls (v :: w :: v :: w :: st) sh iv lw rv bc bs R) : wp d M pc ls (v :: w :: st) sh iv lw rv bc bs R := by
  intro p l e s m args below meth c D cI cL cA xd A mc ms ad0 n0 hC ad H locs cells slots jls hD
  obtain ⟨hx, hb, hml, hr, hlk, hown, hnm, hts, hK, hE, hA⟩ := id hC
  obtain ⟨h1, h2, hP, hDs, hS, hc, hs, hl, hw, ho, hol⟩ := hD
  obtain ⟨o0, hoo⟩ := List.forall_mem_cons.mp ho
  clear ho
  have ho := hoo
  clear hoo
  obtain ⟨o1, hoo⟩ := List.forall_mem_cons.mp ho
  clear ho
  have ho := hoo
  clear hoo
  refine lv_dup2_11 hx hb hd (by rcases v with v | v | _ | v | v <;> simp [a_lg] at hv <;> rfl) (by rcases w with v | v | _ | v | v <;> simp [a_lg] at hv2 <;> rfl) ?_
  exact k p l e s m args below meth c D cI cL cA xd A mc ms ad0 n0 hC ad H locs cells slots jls ⟨h1, h2, hP, hDs, hS, hc, hs, hl, hw, List.forall_mem_cons.mpr ⟨o0, List.forall_mem_cons.mpr ⟨o1, List.forall_mem_cons.mpr ⟨o0, List.forall_mem_cons.mpr ⟨o1, ho⟩⟩⟩⟩, hol⟩
theorem wp_pop {v : aV} (hd : decode M.2.1 pc = .ok (.pop, 1)) (hv : a_lg (some v) = false) (k : wp d M (pc + 1) ls st sh iv lw rv bc bs R) : wp d M pc ls (v :: st) sh iv lw rv bc bs R := by
  intro p l e s m args below meth c D cI cL cA xd A mc ms ad0 n0 hC ad H locs cells slots jls hD
  obtain ⟨hx, hb, hml, hr, hlk, hown, hnm, hts, hK, hE, hA⟩ := id hC
  obtain ⟨h1, h2, hP, hDs, hS, hc, hs, hl, hw, ho, hol⟩ := hD
  obtain ⟨o0, hoo⟩ := List.forall_mem_cons.mp ho
  clear ho
  have ho := hoo
  clear hoo
  refine lv_pop hx hb hd (by rcases v with v | v | _ | v | v <;> simp [a_lg] at hv <;> rfl) ?_
  exact k p l e s m args below meth c D cI cL cA xd A mc ms ad0 n0 hC ad H locs cells slots jls ⟨h1, h2, hP, hDs, hS, hc, hs, hl, hw, ho, hol⟩
theorem wp_iadd {x y : Int} (hd : decode M.2.1 pc = .ok (.iadd, 1)) (hq : iR (x + y)) (k : wp d M (pc + 1) ls (aI (x + y) :: st) sh iv lw rv bc bs R) : wp d M pc ls (aI y :: aI x :: st) sh iv lw rv bc bs R := by
  intro p l e s m args below meth c D cI cL cA xd A mc ms ad0 n0 hC ad H locs cells slots jls hD
  obtain ⟨hx, hb, hml, hr, hlk, hown, hnm, hts, hK, hE, hA⟩ := id hC
  obtain ⟨h1, h2, hP, hDs, hS, hc, hs, hl, hw, ho, hol⟩ := hD
  obtain ⟨o0, hoo⟩ := List.forall_mem_cons.mp ho
  clear ho
  have ho := hoo
  clear hoo
  obtain ⟨o1, hoo⟩ := List.forall_mem_cons.mp ho
  clear ho
  have ho := hoo
  clear hoo
  refine lv_iadd hx hb hd ?_
  rw [← Int32.ofInt_add]
  exact k p l e s m args below meth c D cI cL cA xd A mc ms ad0 n0 hC ad H locs cells slots jls ⟨h1, h2, hP, hDs, hS, hc, hs, hl, hw, List.forall_mem_cons.mpr ⟨hq, ho⟩, hol⟩
theorem wp_isub {x y : Int} (hd : decode M.2.1 pc = .ok (.isub, 1)) (hq : iR (x - y)) (k : wp d M (pc + 1) ls (aI (x - y) :: st) sh iv lw rv bc bs R) : wp d M pc ls (aI y :: aI x :: st) sh iv lw rv bc bs R := by
  intro p l e s m args below meth c D cI cL cA xd A mc ms ad0 n0 hC ad H locs cells slots jls hD
  obtain ⟨hx, hb, hml, hr, hlk, hown, hnm, hts, hK, hE, hA⟩ := id hC
  obtain ⟨h1, h2, hP, hDs, hS, hc, hs, hl, hw, ho, hol⟩ := hD
  obtain ⟨o0, hoo⟩ := List.forall_mem_cons.mp ho
  clear ho
  have ho := hoo
  clear hoo
  obtain ⟨o1, hoo⟩ := List.forall_mem_cons.mp ho
  clear ho
  have ho := hoo
  clear hoo
  refine lv_isub hx hb hd ?_
  rw [← Int32.ofInt_sub]
  exact k p l e s m args below meth c D cI cL cA xd A mc ms ad0 n0 hC ad H locs cells slots jls ⟨h1, h2, hP, hDs, hS, hc, hs, hl, hw, List.forall_mem_cons.mpr ⟨hq, ho⟩, hol⟩
theorem wp_imul {x y : Int} (hd : decode M.2.1 pc = .ok (.imul, 1)) (hq : iR (x * y)) (k : wp d M (pc + 1) ls (aI (x * y) :: st) sh iv lw rv bc bs R) : wp d M pc ls (aI y :: aI x :: st) sh iv lw rv bc bs R := by
  intro p l e s m args below meth c D cI cL cA xd A mc ms ad0 n0 hC ad H locs cells slots jls hD
  obtain ⟨hx, hb, hml, hr, hlk, hown, hnm, hts, hK, hE, hA⟩ := id hC
  obtain ⟨h1, h2, hP, hDs, hS, hc, hs, hl, hw, ho, hol⟩ := hD
  obtain ⟨o0, hoo⟩ := List.forall_mem_cons.mp ho
  clear ho
  have ho := hoo
  clear hoo
  obtain ⟨o1, hoo⟩ := List.forall_mem_cons.mp ho
  clear ho
  have ho := hoo
  clear hoo
  refine lv_imul hx hb hd ?_
  rw [← Int32.ofInt_mul]
  exact k p l e s m args below meth c D cI cL cA xd A mc ms ad0 n0 hC ad H locs cells slots jls ⟨h1, h2, hP, hDs, hS, hc, hs, hl, hw, List.forall_mem_cons.mpr ⟨hq, ho⟩, hol⟩
theorem wp_idiv {x y : Int} (hd : decode M.2.1 pc = .ok (.idiv, 1)) (h0 : 0 ≤ x) (hy : 0 < y) (k : wp d M (pc + 1) ls (aI (x / y) :: st) sh iv lw rv bc bs R) : wp d M pc ls (aI y :: aI x :: st) sh iv lw rv bc bs R := by
  intro p l e s m args below meth c D cI cL cA xd A mc ms ad0 n0 hC ad H locs cells slots jls hD
  obtain ⟨hx, hb, hml, hr, hlk, hown, hnm, hts, hK, hE, hA⟩ := id hC
  obtain ⟨h1, h2, hP, hDs, hS, hc, hs, hl, hw, ho, hol⟩ := hD
  obtain ⟨o0, hoo⟩ := List.forall_mem_cons.mp ho
  clear ho
  have ho := hoo
  clear hoo
  obtain ⟨o1, hoo⟩ := List.forall_mem_cons.mp ho
  clear ho
  have ho := hoo
  clear hoo
  have hq : iR (x / y) := a_div_r o1 h0 hy
  refine lv_idiv hx hb hd (a_ne0 o0 hy) ?_
  rw [a_div o1 o0 h0 hy]
  exact k p l e s m args below meth c D cI cL cA xd A mc ms ad0 n0 hC ad H locs cells slots jls ⟨h1, h2, hP, hDs, hS, hc, hs, hl, hw, List.forall_mem_cons.mpr ⟨hq, ho⟩, hol⟩
theorem wp_irem {x y : Int} (hd : decode M.2.1 pc = .ok (.irem, 1)) (h0 : 0 ≤ x) (hy : 0 < y) (k : wp d M (pc + 1) ls (aI (x % y) :: st) sh iv lw rv bc bs R) : wp d M pc ls (aI y :: aI x :: st) sh iv lw rv bc bs R := by
  intro p l e s m args below meth c D cI cL cA xd A mc ms ad0 n0 hC ad H locs cells slots jls hD
  obtain ⟨hx, hb, hml, hr, hlk, hown, hnm, hts, hK, hE, hA⟩ := id hC
  obtain ⟨h1, h2, hP, hDs, hS, hc, hs, hl, hw, ho, hol⟩ := hD
  obtain ⟨o0, hoo⟩ := List.forall_mem_cons.mp ho
  clear ho
  have ho := hoo
  clear hoo
  obtain ⟨o1, hoo⟩ := List.forall_mem_cons.mp ho
  clear ho
  have ho := hoo
  clear hoo
  have hq : iR (x % y) := a_mod_r o0 h0 hy
  refine lv_irem hx hb hd (a_ne0 o0 hy) ?_
  rw [a_rem o1 o0 h0 hy]
  exact k p l e s m args below meth c D cI cL cA xd A mc ms ad0 n0 hC ad H locs cells slots jls ⟨h1, h2, hP, hDs, hS, hc, hs, hl, hw, List.forall_mem_cons.mpr ⟨hq, ho⟩, hol⟩
theorem wp_iand {x y : Int} (hd : decode M.2.1 pc = .ok (.iand, 1)) (h0 : 0 ≤ x) (hy : 0 ≤ y) (k : wp d M (pc + 1) ls (aI (((x.toNat &&& y.toNat : Nat) : Int)) :: st) sh iv lw rv bc bs R) : wp d M pc ls (aI y :: aI x :: st) sh iv lw rv bc bs R := by
  intro p l e s m args below meth c D cI cL cA xd A mc ms ad0 n0 hC ad H locs cells slots jls hD
  obtain ⟨hx, hb, hml, hr, hlk, hown, hnm, hts, hK, hE, hA⟩ := id hC
  obtain ⟨h1, h2, hP, hDs, hS, hc, hs, hl, hw, ho, hol⟩ := hD
  obtain ⟨o0, hoo⟩ := List.forall_mem_cons.mp ho
  clear ho
  have ho := hoo
  clear hoo
  obtain ⟨o1, hoo⟩ := List.forall_mem_cons.mp ho
  clear ho
  have ho := hoo
  clear hoo
  have hq : iR ((x.toNat &&& y.toNat : Nat) : Int) := a_and_r o1 h0
  refine lv_iand hx hb hd ?_
  rw [a_and o1 o0 h0 hy]
  exact k p l e s m args below meth c D cI cL cA xd A mc ms ad0 n0 hC ad H locs cells slots jls ⟨h1, h2, hP, hDs, hS, hc, hs, hl, hw, List.forall_mem_cons.mpr ⟨hq, ho⟩, hol⟩
theorem wp_iand_255 {x y : Int} (hd : decode M.2.1 pc = .ok (.iand, 1)) (hy : y = 255) (k : wp d M (pc + 1) ls (aI (x % 256) :: st) sh iv lw rv bc bs R) : wp d M pc ls (aI y :: aI x :: st) sh iv lw rv bc bs R := by
  intro p l e s m args below meth c D cI cL cA xd A mc ms ad0 n0 hC ad H locs cells slots jls hD
  obtain ⟨hx, hb, hml, hr, hlk, hown, hnm, hts, hK, hE, hA⟩ := id hC
  obtain ⟨h1, h2, hP, hDs, hS, hc, hs, hl, hw, ho, hol⟩ := hD
  obtain ⟨o0, hoo⟩ := List.forall_mem_cons.mp ho
  clear ho
  have ho := hoo
  clear hoo
  obtain ⟨o1, hoo⟩ := List.forall_mem_cons.mp ho
  clear ho
  have ho := hoo
  clear hoo
  have hq : iR (x % 256) := ⟨by omega, by omega⟩
  refine lv_iand hx hb hd ?_
  subst hy
  rw [a_and255]
  exact k p l e s m args below meth c D cI cL cA xd A mc ms ad0 n0 hC ad H locs cells slots jls ⟨h1, h2, hP, hDs, hS, hc, hs, hl, hw, List.forall_mem_cons.mpr ⟨hq, ho⟩, hol⟩
theorem wp_ior {x y : Int} (hd : decode M.2.1 pc = .ok (.ior, 1)) (h0 : 0 ≤ x) (hy : 0 ≤ y) (k : wp d M (pc + 1) ls (aI (((x.toNat ||| y.toNat : Nat) : Int)) :: st) sh iv lw rv bc bs R) : wp d M pc ls (aI y :: aI x :: st) sh iv lw rv bc bs R := by
  intro p l e s m args below meth c D cI cL cA xd A mc ms ad0 n0 hC ad H locs cells slots jls hD
  obtain ⟨hx, hb, hml, hr, hlk, hown, hnm, hts, hK, hE, hA⟩ := id hC
  obtain ⟨h1, h2, hP, hDs, hS, hc, hs, hl, hw, ho, hol⟩ := hD
  obtain ⟨o0, hoo⟩ := List.forall_mem_cons.mp ho
  clear ho
  have ho := hoo
  clear hoo
  obtain ⟨o1, hoo⟩ := List.forall_mem_cons.mp ho
  clear ho
  have ho := hoo
  clear hoo
  have hq : iR ((x.toNat ||| y.toNat : Nat) : Int) := a_or_r o1 o0 h0 hy
  refine lv_ior hx hb hd ?_
  rw [a_or o1 o0 h0 hy]
  exact k p l e s m args below meth c D cI cL cA xd A mc ms ad0 n0 hC ad H locs cells slots jls ⟨h1, h2, hP, hDs, hS, hc, hs, hl, hw, List.forall_mem_cons.mpr ⟨hq, ho⟩, hol⟩
theorem wp_ixor {x y : Int} (hd : decode M.2.1 pc = .ok (.ixor, 1)) (h0 : 0 ≤ x) (hy : 0 ≤ y) (k : wp d M (pc + 1) ls (aI (((x.toNat ^^^ y.toNat : Nat) : Int)) :: st) sh iv lw rv bc bs R) : wp d M pc ls (aI y :: aI x :: st) sh iv lw rv bc bs R := by
  intro p l e s m args below meth c D cI cL cA xd A mc ms ad0 n0 hC ad H locs cells slots jls hD
  obtain ⟨hx, hb, hml, hr, hlk, hown, hnm, hts, hK, hE, hA⟩ := id hC
  obtain ⟨h1, h2, hP, hDs, hS, hc, hs, hl, hw, ho, hol⟩ := hD
  obtain ⟨o0, hoo⟩ := List.forall_mem_cons.mp ho
  clear ho
  have ho := hoo
  clear hoo
  obtain ⟨o1, hoo⟩ := List.forall_mem_cons.mp ho
  clear ho
  have ho := hoo
  clear hoo
  have hq : iR ((x.toNat ^^^ y.toNat : Nat) : Int) := a_xor_r o1 o0 h0 hy
  refine lv_ixor hx hb hd ?_
  rw [a_xor o1 o0 h0 hy]
  exact k p l e s m args below meth c D cI cL cA xd A mc ms ad0 n0 hC ad H locs cells slots jls ⟨h1, h2, hP, hDs, hS, hc, hs, hl, hw, List.forall_mem_cons.mpr ⟨hq, ho⟩, hol⟩
theorem wp_ishl {x y : Int} (hd : decode M.2.1 pc = .ok (.ishl, 1)) (h0 : 0 ≤ y) (hy : y < 32) (hq : iR (x * 2 ^ y.toNat)) (k : wp d M (pc + 1) ls (aI (x * 2 ^ y.toNat) :: st) sh iv lw rv bc bs R) : wp d M pc ls (aI y :: aI x :: st) sh iv lw rv bc bs R := by
  intro p l e s m args below meth c D cI cL cA xd A mc ms ad0 n0 hC ad H locs cells slots jls hD
  obtain ⟨hx, hb, hml, hr, hlk, hown, hnm, hts, hK, hE, hA⟩ := id hC
  obtain ⟨h1, h2, hP, hDs, hS, hc, hs, hl, hw, ho, hol⟩ := hD
  obtain ⟨o0, hoo⟩ := List.forall_mem_cons.mp ho
  clear ho
  have ho := hoo
  clear hoo
  obtain ⟨o1, hoo⟩ := List.forall_mem_cons.mp ho
  clear ho
  have ho := hoo
  clear hoo
  refine lv_ishl hx hb hd ?_
  rw [a_shl h0 hy]
  exact k p l e s m args below meth c D cI cL cA xd A mc ms ad0 n0 hC ad H locs cells slots jls ⟨h1, h2, hP, hDs, hS, hc, hs, hl, hw, List.forall_mem_cons.mpr ⟨hq, ho⟩, hol⟩
theorem wp_ishr {x y : Int} (hd : decode M.2.1 pc = .ok (.ishr, 1)) (h0 : 0 ≤ y) (hy : y < 32) (k : wp d M (pc + 1) ls (aI (x / 2 ^ y.toNat) :: st) sh iv lw rv bc bs R) : wp d M pc ls (aI y :: aI x :: st) sh iv lw rv bc bs R := by
  intro p l e s m args below meth c D cI cL cA xd A mc ms ad0 n0 hC ad H locs cells slots jls hD
  obtain ⟨hx, hb, hml, hr, hlk, hown, hnm, hts, hK, hE, hA⟩ := id hC
  obtain ⟨h1, h2, hP, hDs, hS, hc, hs, hl, hw, ho, hol⟩ := hD
  obtain ⟨o0, hoo⟩ := List.forall_mem_cons.mp ho
  clear ho
  have ho := hoo
  clear hoo
  obtain ⟨o1, hoo⟩ := List.forall_mem_cons.mp ho
  clear ho
  have ho := hoo
  clear hoo
  have hq : iR (x / 2 ^ y.toNat) := a_shr_r o1
  refine lv_ishr hx hb hd ?_
  rw [a_shr o1 h0 hy]
  exact k p l e s m args below meth c D cI cL cA xd A mc ms ad0 n0 hC ad H locs cells slots jls ⟨h1, h2, hP, hDs, hS, hc, hs, hl, hw, List.forall_mem_cons.mpr ⟨hq, ho⟩, hol⟩
theorem wp_iushr {x y : Int} (hd : decode M.2.1 pc = .ok (.iushr, 1)) (h0 : 0 ≤ y) (hy : y < 32) (k : wp d M (pc + 1) ls (aI (if y = 0 then x else x % 4294967296 / 2 ^ y.toNat) :: st) sh iv lw rv bc bs R) : wp d M pc ls (aI y :: aI x :: st) sh iv lw rv bc bs R := by
  intro p l e s m args below meth c D cI cL cA xd A mc ms ad0 n0 hC ad H locs cells slots jls hD
  obtain ⟨hx, hb, hml, hr, hlk, hown, hnm, hts, hK, hE, hA⟩ := id hC
  obtain ⟨h1, h2, hP, hDs, hS, hc, hs, hl, hw, ho, hol⟩ := hD
  obtain ⟨o0, hoo⟩ := List.forall_mem_cons.mp ho
  clear ho
  have ho := hoo
  clear hoo
  obtain ⟨o1, hoo⟩ := List.forall_mem_cons.mp ho
  clear ho
  have ho := hoo
  clear hoo
  have hq : iR (if y = 0 then x else x % 4294967296 / 2 ^ y.toNat) := a_ushr_r o1 h0
  refine lv_iushr hx hb hd (a_ushr o1 h0 hy) ?_
  exact k p l e s m args below meth c D cI cL cA xd A mc ms ad0 n0 hC ad H locs cells slots jls ⟨h1, h2, hP, hDs, hS, hc, hs, hl, hw, List.forall_mem_cons.mpr ⟨hq, ho⟩, hol⟩
theorem wp_if_eq {x : Int} {off : Int} {tgt : Nat} (hd : decode M.2.1 pc = .ok (.ifCond .eq off, 3)) (ht : (pc : Int) + off = (tgt : Int)) (kt : x = 0 → wp d M tgt ls st sh iv lw rv bc bs R) (kf : ¬ (x = 0) → wp d M (pc + 3) ls st sh iv lw rv bc bs R) : wp d M pc ls (aI x :: st) sh iv lw rv bc bs R := by
  intro p l e s m args below meth c D cI cL cA xd A mc ms ad0 n0 hC ad H locs cells slots jls hD
  obtain ⟨hx, hb, hml, hr, hlk, hown, hnm, hts, hK, hE, hA⟩ := id hC
  obtain ⟨h1, h2, hP, hDs, hS, hc, hs, hl, hw, ho, hol⟩ := hD
  obtain ⟨o0, hoo⟩ := List.forall_mem_cons.mp ho
  clear ho
  have ho := hoo
  clear hoo
  refine lv_if_eq hx hb hd ht (fun q => ?_) (fun q => ?_)
  · exact kt ((a_b0_eq o0).mp q) p l e s m args below meth c D cI cL cA xd A mc ms ad0 n0 hC ad H locs cells slots jls ⟨h1, h2, hP, hDs, hS, hc, hs, hl, hw, ho, hol⟩
  · exact kf (fun q2 => q ((a_b0_eq o0).mpr q2)) p l e s m args below meth c D cI cL cA xd A mc ms ad0 n0 hC ad H locs cells slots jls ⟨h1, h2, hP, hDs, hS, hc, hs, hl, hw, ho, hol⟩
theorem wp_icmp_eq {x y : Int} {off : Int} {tgt : Nat} (hd : decode M.2.1 pc = .ok (.if_icmp .eq off, 3)) (ht : (pc : Int) + off = (tgt : Int)) (kt : x = y → wp d M tgt ls st sh iv lw rv bc bs R) (kf : ¬ (x = y) → wp d M (pc + 3) ls st sh iv lw rv bc bs R) : wp d M pc ls (aI y :: aI x :: st) sh iv lw rv bc bs R := by
  intro p l e s m args below meth c D cI cL cA xd A mc ms ad0 n0 hC ad H locs cells slots jls hD
  obtain ⟨hx, hb, hml, hr, hlk, hown, hnm, hts, hK, hE, hA⟩ := id hC
  obtain ⟨h1, h2, hP, hDs, hS, hc, hs, hl, hw, ho, hol⟩ := hD
  obtain ⟨o0, hoo⟩ := List.forall_mem_cons.mp ho
  clear ho
  have ho := hoo
  clear hoo
  obtain ⟨o1, hoo⟩ := List.forall_mem_cons.mp ho
  clear ho
  have ho := hoo
  clear hoo
  refine lv_icmp_eq hx hb hd ht (fun q => ?_) (fun q => ?_)
  · exact kt ((a_b_eq o1 o0).mp q) p l e s m args below meth c D cI cL cA xd A mc ms ad0 n0 hC ad H locs cells slots jls ⟨h1, h2, hP, hDs, hS, hc, hs, hl, hw, ho, hol⟩
  · exact kf (fun q2 => q ((a_b_eq o1 o0).mpr q2)) p l e s m args below meth c D cI cL cA xd A mc ms ad0 n0 hC ad H locs cells slots jls ⟨h1, h2, hP, hDs, hS, hc, hs, hl, hw, ho, hol⟩
theorem wp_if_ne {x : Int} {off : Int} {tgt : Nat} (hd : decode M.2.1 pc = .ok (.ifCond .ne off, 3)) (ht : (pc : Int) + off = (tgt : Int)) (kt : ¬ x = 0 → wp d M tgt ls st sh iv lw rv bc bs R) (kf : x = 0 → wp d M (pc + 3) ls st sh iv lw rv bc bs R) : wp d M pc ls (aI x :: st) sh iv lw rv bc bs R := by
  intro p l e s m args below meth c D cI cL cA xd A mc ms ad0 n0 hC ad H locs cells slots jls hD
  obtain ⟨hx, hb, hml, hr, hlk, hown, hnm, hts, hK, hE, hA⟩ := id hC
  obtain ⟨h1, h2, hP, hDs, hS, hc, hs, hl, hw, ho, hol⟩ := hD
  obtain ⟨o0, hoo⟩ := List.forall_mem_cons.mp ho
  clear ho
  have ho := hoo
  clear hoo
  refine lv_if_ne hx hb hd ht (fun q => ?_) (fun q => ?_)
  · exact kt ((a_b0_ne o0).mp q) p l e s m args below meth c D cI cL cA xd A mc ms ad0 n0 hC ad H locs cells slots jls ⟨h1, h2, hP, hDs, hS, hc, hs, hl, hw, ho, hol⟩
  · exact kf ((a_b0_eq o0).mp q) p l e s m args below meth c D cI cL cA xd A mc ms ad0 n0 hC ad H locs cells slots jls ⟨h1, h2, hP, hDs, hS, hc, hs, hl, hw, ho, hol⟩
theorem wp_icmp_ne {x y : Int} {off : Int} {tgt : Nat} (hd : decode M.2.1 pc = .ok (.if_icmp .ne off, 3)) (ht : (pc : Int) + off = (tgt : Int)) (kt : ¬ x = y → wp d M tgt ls st sh iv lw rv bc bs R) (kf : x = y → wp d M (pc + 3) ls st sh iv lw rv bc bs R) : wp d M pc ls (aI y :: aI x :: st) sh iv lw rv bc bs R := by
  intro p l e s m args below meth c D cI cL cA xd A mc ms ad0 n0 hC ad H locs cells slots jls hD
  obtain ⟨hx, hb, hml, hr, hlk, hown, hnm, hts, hK, hE, hA⟩ := id hC
  obtain ⟨h1, h2, hP, hDs, hS, hc, hs, hl, hw, ho, hol⟩ := hD
  obtain ⟨o0, hoo⟩ := List.forall_mem_cons.mp ho
  clear ho
  have ho := hoo
  clear hoo
  obtain ⟨o1, hoo⟩ := List.forall_mem_cons.mp ho
  clear ho
  have ho := hoo
  clear hoo
  refine lv_icmp_ne hx hb hd ht (fun q => ?_) (fun q => ?_)
  · exact kt ((a_b_ne o1 o0).mp q) p l e s m args below meth c D cI cL cA xd A mc ms ad0 n0 hC ad H locs cells slots jls ⟨h1, h2, hP, hDs, hS, hc, hs, hl, hw, ho, hol⟩
  · exact kf ((a_b_eq o1 o0).mp q) p l e s m args below meth c D cI cL cA xd A mc ms ad0 n0 hC ad H locs cells slots jls ⟨h1, h2, hP, hDs, hS, hc, hs, hl, hw, ho, hol⟩
theorem wp_if_lt {x : Int} {off : Int} {tgt : Nat} (hd : decode M.2.1 pc = .ok (.ifCond .lt off, 3)) (ht : (pc : Int) + off = (tgt : Int)) (kt : x < 0 → wp d M tgt ls st sh iv lw rv bc bs R) (kf : ¬ (x < 0) → wp d M (pc + 3) ls st sh iv lw rv bc bs R) : wp d M pc ls (aI x :: st) sh iv lw rv bc bs R := by
  intro p l e s m args below meth c D cI cL cA xd A mc ms ad0 n0 hC ad H locs cells slots jls hD
  obtain ⟨hx, hb, hml, hr, hlk, hown, hnm, hts, hK, hE, hA⟩ := id hC
  obtain ⟨h1, h2, hP, hDs, hS, hc, hs, hl, hw, ho, hol⟩ := hD
  obtain ⟨o0, hoo⟩ := List.forall_mem_cons.mp ho
  clear ho
  have ho := hoo
  clear hoo
  refine lv_if_lt hx hb hd ht (fun q => ?_) (fun q => ?_)
  · exact kt ((a_b0_lt o0).mp q) p l e s m args below meth c D cI cL cA xd A mc ms ad0 n0 hC ad H locs cells slots jls ⟨h1, h2, hP, hDs, hS, hc, hs, hl, hw, ho, hol⟩
  · exact kf (fun q2 => q ((a_b0_lt o0).mpr q2)) p l e s m args below meth c D cI cL cA xd A mc ms ad0 n0 hC ad H locs cells slots jls ⟨h1, h2, hP, hDs, hS, hc, hs, hl, hw, ho, hol⟩
theorem wp_icmp_lt {x y : Int} {off : Int} {tgt : Nat} (hd : decode M.2.1 pc = .ok (.if_icmp .lt off, 3)) (ht : (pc : Int) + off = (tgt : Int)) (kt : x < y → wp d M tgt ls st sh iv lw rv bc bs R) (kf : ¬ (x < y) → wp d M (pc + 3) ls st sh iv lw rv bc bs R) : wp d M pc ls (aI y :: aI x :: st) sh iv lw rv bc bs R := by
  intro p l e s m args below meth c D cI cL cA xd A mc ms ad0 n0 hC ad H locs cells slots jls hD
  obtain ⟨hx, hb, hml, hr, hlk, hown, hnm, hts, hK, hE, hA⟩ := id hC
  obtain ⟨h1, h2, hP, hDs, hS, hc, hs, hl, hw, ho, hol⟩ := hD
  obtain ⟨o0, hoo⟩ := List.forall_mem_cons.mp ho
  clear ho
  have ho := hoo
  clear hoo
  obtain ⟨o1, hoo⟩ := List.forall_mem_cons.mp ho
  clear ho
  have ho := hoo
  clear hoo
  refine lv_icmp_lt hx hb hd ht (fun q => ?_) (fun q => ?_)
  · exact kt ((a_b_lt o1 o0).mp q) p l e s m args below meth c D cI cL cA xd A mc ms ad0 n0 hC ad H locs cells slots jls ⟨h1, h2, hP, hDs, hS, hc, hs, hl, hw, ho, hol⟩
  · exact kf (fun q2 => q ((a_b_lt o1 o0).mpr q2)) p l e s m args below meth c D cI cL cA xd A mc ms ad0 n0 hC ad H locs cells slots jls ⟨h1, h2, hP, hDs, hS, hc, hs, hl, hw, ho, hol⟩
theorem wp_if_ge {x : Int} {off : Int} {tgt : Nat} (hd : decode M.2.1 pc = .ok (.ifCond .ge off, 3)) (ht : (pc : Int) + off = (tgt : Int)) (kt : 0 ≤ x → wp d M tgt ls st sh iv lw rv bc bs R) (kf : ¬ (0 ≤ x) → wp d M (pc + 3) ls st sh iv lw rv bc bs R) : wp d M pc ls (aI x :: st) sh iv lw rv bc bs R := by
  intro p l e s m args below meth c D cI cL cA xd A mc ms ad0 n0 hC ad H locs cells slots jls hD
  obtain ⟨hx, hb, hml, hr, hlk, hown, hnm, hts, hK, hE, hA⟩ := id hC
  obtain ⟨h1, h2, hP, hDs, hS, hc, hs, hl, hw, ho, hol⟩ := hD
  obtain ⟨o0, hoo⟩ := List.forall_mem_cons.mp ho
  clear ho
  have ho := hoo
  clear hoo
  refine lv_if_ge hx hb hd ht (fun q => ?_) (fun q => ?_)
  · exact kt ((a_b0_ge o0).mp q) p l e s m args below meth c D cI cL cA xd A mc ms ad0 n0 hC ad H locs cells slots jls ⟨h1, h2, hP, hDs, hS, hc, hs, hl, hw, ho, hol⟩
  · exact kf (fun q2 => q ((a_b0_ge o0).mpr q2)) p l e s m args below meth c D cI cL cA xd A mc ms ad0 n0 hC ad H locs cells slots jls ⟨h1, h2, hP, hDs, hS, hc, hs, hl, hw, ho, hol⟩
theorem wp_icmp_ge {x y : Int} {off : Int} {tgt : Nat} (hd : decode M.2.1 pc = .ok (.if_icmp .ge off, 3)) (ht : (pc : Int) + off = (tgt : Int)) (kt : y ≤ x → wp d M tgt ls st sh iv lw rv bc bs R) (kf : ¬ (y ≤ x) → wp d M (pc + 3) ls st sh iv lw rv bc bs R) : wp d M pc ls (aI y :: aI x :: st) sh iv lw rv bc bs R := by
  intro p l e s m args below meth c D cI cL cA xd A mc ms ad0 n0 hC ad H locs cells slots jls hD
  obtain ⟨hx, hb, hml, hr, hlk, hown, hnm, hts, hK, hE, hA⟩ := id hC
  obtain ⟨h1, h2, hP, hDs, hS, hc, hs, hl, hw, ho, hol⟩ := hD
  obtain ⟨o0, hoo⟩ := List.forall_mem_cons.mp ho
  clear ho
  have ho := hoo
  clear hoo
  obtain ⟨o1, hoo⟩ := List.forall_mem_cons.mp ho
  clear ho
  have ho := hoo
  clear hoo
  refine lv_icmp_ge hx hb hd ht (fun q => ?_) (fun q => ?_)
  · exact kt ((a_b_ge o1 o0).mp q) p l e s m args below meth c D cI cL cA xd A mc ms ad0 n0 hC ad H locs cells slots jls ⟨h1, h2, hP, hDs, hS, hc, hs, hl, hw, ho, hol⟩
  · exact kf (fun q2 => q ((a_b_ge o1 o0).mpr q2)) p l e s m args below meth c D cI cL cA xd A mc ms ad0 n0 hC ad H locs cells slots jls ⟨h1, h2, hP, hDs, hS, hc, hs, hl, hw, ho, hol⟩
theorem wp_if_gt {x : Int} {off : Int} {tgt : Nat} (hd : decode M.2.1 pc = .ok (.ifCond .gt off, 3)) (ht : (pc : Int) + off = (tgt : Int)) (kt : 0 < x → wp d M tgt ls st sh iv lw rv bc bs R) (kf : ¬ (0 < x) → wp d M (pc + 3) ls st sh iv lw rv bc bs R) : wp d M pc ls (aI x :: st) sh iv lw rv bc bs R := by
  intro p l e s m args below meth c D cI cL cA xd A mc ms ad0 n0 hC ad H locs cells slots jls hD
  obtain ⟨hx, hb, hml, hr, hlk, hown, hnm, hts, hK, hE, hA⟩ := id hC
  obtain ⟨h1, h2, hP, hDs, hS, hc, hs, hl, hw, ho, hol⟩ := hD
  obtain ⟨o0, hoo⟩ := List.forall_mem_cons.mp ho
  clear ho
  have ho := hoo
  clear hoo
  refine lv_if_gt hx hb hd ht (fun q => ?_) (fun q => ?_)
  · exact kt ((a_b0_gt o0).mp q) p l e s m args below meth c D cI cL cA xd A mc ms ad0 n0 hC ad H locs cells slots jls ⟨h1, h2, hP, hDs, hS, hc, hs, hl, hw, ho, hol⟩
  · exact kf (fun q2 => q ((a_b0_gt o0).mpr q2)) p l e s m args below meth c D cI cL cA xd A mc ms ad0 n0 hC ad H locs cells slots jls ⟨h1, h2, hP, hDs, hS, hc, hs, hl, hw, ho, hol⟩
theorem wp_icmp_gt {x y : Int} {off : Int} {tgt : Nat} (hd : decode M.2.1 pc = .ok (.if_icmp .gt off, 3)) (ht : (pc : Int) + off = (tgt : Int)) (kt : y < x → wp d M tgt ls st sh iv lw rv bc bs R) (kf : ¬ (y < x) → wp d M (pc + 3) ls st sh iv lw rv bc bs R) : wp d M pc ls (aI y :: aI x :: st) sh iv lw rv bc bs R := by
  intro p l e s m args below meth c D cI cL cA xd A mc ms ad0 n0 hC ad H locs cells slots jls hD
  obtain ⟨hx, hb, hml, hr, hlk, hown, hnm, hts, hK, hE, hA⟩ := id hC
  obtain ⟨h1, h2, hP, hDs, hS, hc, hs, hl, hw, ho, hol⟩ := hD
  obtain ⟨o0, hoo⟩ := List.forall_mem_cons.mp ho
  clear ho
  have ho := hoo
  clear hoo
  obtain ⟨o1, hoo⟩ := List.forall_mem_cons.mp ho
  clear ho
  have ho := hoo
  clear hoo
  refine lv_icmp_gt hx hb hd ht (fun q => ?_) (fun q => ?_)
  · exact kt ((a_b_gt o1 o0).mp q) p l e s m args below meth c D cI cL cA xd A mc ms ad0 n0 hC ad H locs cells slots jls ⟨h1, h2, hP, hDs, hS, hc, hs, hl, hw, ho, hol⟩
  · exact kf (fun q2 => q ((a_b_gt o1 o0).mpr q2)) p l e s m args below meth c D cI cL cA xd A mc ms ad0 n0 hC ad H locs cells slots jls ⟨h1, h2, hP, hDs, hS, hc, hs, hl, hw, ho, hol⟩
theorem wp_if_le {x : Int} {off : Int} {tgt : Nat} (hd : decode M.2.1 pc = .ok (.ifCond .le off, 3)) (ht : (pc : Int) + off = (tgt : Int)) (kt : x ≤ 0 → wp d M tgt ls st sh iv lw rv bc bs R) (kf : ¬ (x ≤ 0) → wp d M (pc + 3) ls st sh iv lw rv bc bs R) : wp d M pc ls (aI x :: st) sh iv lw rv bc bs R := by
  intro p l e s m args below meth c D cI cL cA xd A mc ms ad0 n0 hC ad H locs cells slots jls hD
  obtain ⟨hx, hb, hml, hr, hlk, hown, hnm, hts, hK, hE, hA⟩ := id hC
  obtain ⟨h1, h2, hP, hDs, hS, hc, hs, hl, hw, ho, hol⟩ := hD
  obtain ⟨o0, hoo⟩ := List.forall_mem_cons.mp ho
  clear ho
  have ho := hoo
  clear hoo
  refine lv_if_le hx hb hd ht (fun q => ?_) (fun q => ?_)
  · exact kt ((a_b0_le o0).mp q) p l e s m args below meth c D cI cL cA xd A mc ms ad0 n0 hC ad H locs cells slots jls ⟨h1, h2, hP, hDs, hS, hc, hs, hl, hw, ho, hol⟩
  · exact kf (fun q2 => q ((a_b0_le o0).mpr q2)) p l e s m args below meth c D cI cL cA xd A mc ms ad0 n0 hC ad H locs cells slots jls ⟨h1, h2, hP, hDs, hS, hc, hs, hl, hw, ho, hol⟩
theorem wp_icmp_le {x y : Int} {off : Int} {tgt : Nat} (hd : decode M.2.1 pc = .ok (.if_icmp .le off, 3)) (ht : (pc : Int) + off = (tgt : Int)) (kt : x ≤ y → wp d M tgt ls st sh iv lw rv bc bs R) (kf : ¬ (x ≤ y) → wp d M (pc + 3) ls st sh iv lw rv bc bs R) : wp d M pc ls (aI y :: aI x :: st) sh iv lw rv bc bs R := by
  intro p l e s m args below meth c D cI cL cA xd A mc ms ad0 n0 hC ad H locs cells slots jls hD
  obtain ⟨hx, hb, hml, hr, hlk, hown, hnm, hts, hK, hE, hA⟩ := id hC
  obtain ⟨h1, h2, hP, hDs, hS, hc, hs, hl, hw, ho, hol⟩ := hD
  obtain ⟨o0, hoo⟩ := List.forall_mem_cons.mp ho
  clear ho
  have ho := hoo
  clear hoo
  obtain ⟨o1, hoo⟩ := List.forall_mem_cons.mp ho
  clear ho
  have ho := hoo
  clear hoo
  refine lv_icmp_le hx hb hd ht (fun q => ?_) (fun q => ?_)
  · exact kt ((a_b_le o1 o0).mp q) p l e s m args below meth c D cI cL cA xd A mc ms ad0 n0 hC ad H locs cells slots jls ⟨h1, h2, hP, hDs, hS, hc, hs, hl, hw, ho, hol⟩
  · exact kf (fun q2 => q ((a_b_le o1 o0).mpr q2)) p l e s m args below meth c D cI cL cA xd A mc ms ad0 n0 hC ad H locs cells slots jls ⟨h1, h2, hP, hDs, hS, hc, hs, hl, hw, ho, hol⟩
theorem wp_goto {off : Int} {tgt : Nat} (hd : decode M.2.1 pc = .ok (.goto off, 3)) (ht : (pc : Int) + off = (tgt : Int)) (k : wp d M tgt ls st sh iv lw rv bc bs R) : wp d M pc ls st sh iv lw rv bc bs R := by
  intro p l e s m args below meth c D cI cL cA xd A mc ms ad0 n0 hC ad H locs cells slots jls hD
  obtain ⟨hx, hb, hml, hr, hlk, hown, hnm, hts, hK, hE, hA⟩ := id hC
  obtain ⟨h1, h2, hP, hDs, hS, hc, hs, hl, hw, ho, hol⟩ := hD
  refine lv_goto hx hb hd ht ?_
  exact k p l e s m args below meth c D cI cL cA xd A mc ms ad0 n0 hC ad H locs cells slots jls ⟨h1, h2, hP, hDs, hS, hc, hs, hl, hw, ho, hol⟩
theorem wp_ifnonnull {q : Nat ⊕ Nat} {off : Int} {tgt : Nat} (hd : decode M.2.1 pc = .ok (.ifnonnull off, 3)) (ht : (pc : Int) + off = (tgt : Int)) (k : wp d M tgt ls st sh iv lw rv bc bs R) : wp d M pc ls (.inr (.inr (some q)) :: st) sh iv lw rv bc bs R := by
  intro p l e s m args below meth c D cI cL cA xd A mc ms ad0 n0 hC ad H locs cells slots jls hD
  obtain ⟨hx, hb, hml, hr, hlk, hown, hnm, hts, hK, hE, hA⟩ := id hC
  obtain ⟨h1, h2, hP, hDs, hS, hc, hs, hl, hw, ho, hol⟩ := hD
  obtain ⟨o0, hoo⟩ := List.forall_mem_cons.mp ho
  clear ho
  have ho := hoo
  clear hoo
  rcases q with q | q
  · refine lv_ifnonnull hx hb hd ht ?_
    exact k p l e s m args below meth c D cI cL cA xd A mc ms ad0 n0 hC ad H locs cells slots jls ⟨h1, h2, hP, hDs, hS, hc, hs, hl, hw, ho, hol⟩
  · refine lv_ifnonnull hx hb hd ht ?_
    exact k p l e s m args below meth c D cI cL cA xd A mc ms ad0 n0 hC ad H locs cells slots jls ⟨h1, h2, hP, hDs, hS, hc, hs, hl, hw, ho, hol⟩
theorem wp_ifnonnullN {off : Int} (hd : decode M.2.1 pc = .ok (.ifnonnull off, 3)) (k : wp d M (pc + 3) ls st sh iv lw rv bc bs R) : wp d M pc ls (aN :: st) sh iv lw rv bc bs R := by
  intro p l e s m args below meth c D cI cL cA xd A mc ms ad0 n0 hC ad H locs cells slots jls hD
  obtain ⟨hx, hb, hml, hr, hlk, hown, hnm, hts, hK, hE, hA⟩ := id hC
  obtain ⟨h1, h2, hP, hDs, hS, hc, hs, hl, hw, ho, hol⟩ := hD
  obtain ⟨o0, hoo⟩ := List.forall_mem_cons.mp ho
  clear ho
  have ho := hoo
  clear hoo
  refine lv_ifnonnullN hx hb hd ?_
  exact k p l e s m args below meth c D cI cL cA xd A mc ms ad0 n0 hC ad H locs cells slots jls ⟨h1, h2, hP, hDs, hS, hc, hs, hl, hw, ho, hol⟩
theorem wp_tswIn {x dflt lo hi : Int} {offs : Array Int} {len : Nat} {off : Int} {tgt : Nat} (hd : decode M.2.1 pc = .ok (.tableswitch dflt lo hi offs, len)) (h1 : lo ≤ x) (h2 : x ≤ hi) (hof : offs[(x - lo).toNat]? = some off) (ht : (pc : Int) + off = (tgt : Int)) (k : wp d M tgt ls st sh iv lw rv bc bs R) : wp d M pc ls (aI x :: st) sh iv lw rv bc bs R := by
  intro p l e s m args below meth c D cI cL cA xd A mc ms ad0 n0 hC ad H locs cells slots jls hD
  obtain ⟨hx, hb, hml, hr, hlk, hown, hnm, hts, hK, hE, hA⟩ := id hC
  obtain ⟨h1, h2, hP, hDs, hS, hc, hs, hl, hw, ho, hol⟩ := hD
  obtain ⟨o0, hoo⟩ := List.forall_mem_cons.mp ho
  clear ho
  have ho := hoo
  clear hoo
  have ex : (Int32.ofInt x).toInt = x := a_toInt o0
  refine lv_tableIn hx hb hd (by rw [ex]; omega) (by rw [ex]; omega) (by rw [ex]; exact hof) ht ?_
  exact k p l e s m args below meth c D cI cL cA xd A mc ms ad0 n0 hC ad H locs cells slots jls ⟨h1, h2, hP, hDs, hS, hc, hs, hl, hw, ho, hol⟩
theorem wp_tswOut {x dflt lo hi : Int} {offs : Array Int} {len : Nat} {tgt : Nat} (hd : decode M.2.1 pc = .ok (.tableswitch dflt lo hi offs, len)) (hx1 : x < lo ∨ hi < x) (ht : (pc : Int) + dflt = (tgt : Int)) (k : wp d M tgt ls st sh iv lw rv bc bs R) : wp d M pc ls (aI x :: st) sh iv lw rv bc bs R := by
  intro p l e s m args below meth c D cI cL cA xd A mc ms ad0 n0 hC ad H locs cells slots jls hD
  obtain ⟨hx, hb, hml, hr, hlk, hown, hnm, hts, hK, hE, hA⟩ := id hC
  obtain ⟨h1, h2, hP, hDs, hS, hc, hs, hl, hw, ho, hol⟩ := hD
  obtain ⟨o0, hoo⟩ := List.forall_mem_cons.mp ho
  clear ho
  have ho := hoo
  clear hoo
  have ex : (Int32.ofInt x).toInt = x := a_toInt o0
  refine lv_tableOut hx hb hd (by rw [ex]; exact hx1) ht ?_
  exact k p l e s m args below meth c D cI cL cA xd A mc ms ad0 n0 hC ad H locs cells slots jls ⟨h1, h2, hP, hDs, hS, hc, hs, hl, hw, ho, hol⟩
theorem wp_ireturn {x : Int} (hd : decode M.2.1 pc = .ok (.ireturn, 1)) (hM : M.2.2.2 = some .int) (k : R (some (aI x)) sh iv lw rv) : wp d M pc ls (aI x :: []) sh iv lw rv bc bs R := by
  intro p l e s m args below meth c D cI cL cA xd A mc ms ad0 n0 hC ad H locs cells slots jls hD
  obtain ⟨hx, hb, hml, hr, hlk, hown, hnm, hts, hK, hE, hA⟩ := id hC
  obtain ⟨h1, h2, hP, hDs, hS, hc, hs, hl, hw, ho, hol⟩ := hD
  refine W.widen (k := mc) (n := ms) (by omega) (by omega) ?_
  exact W.iret hx hb (hr.trans hM) (fun t ht hW => ⟨⟨ad, some (aI x), sh, iv, lw, rv, h1, h2, rfl, k, by rw [ht]; exact hP, hDs, hw, fun v hv => by cases hv; exact ho _ List.mem_cons_self⟩, hS.F ht⟩) hS.2.2 hd hlk
theorem wp_zreturn {x : Int} (hd : decode M.2.1 pc = .ok (.ireturn, 1)) (hM : M.2.2.2 = some .boolean) (hz : x = 0 ∨ x = 1) (k : R (some (aI x)) sh iv lw rv) : wp d M pc ls (aI x :: []) sh iv lw rv bc bs R := by
  intro p l e s m args below meth c D cI cL cA xd A mc ms ad0 n0 hC ad H locs cells slots jls hD
  obtain ⟨hx, hb, hml, hr, hlk, hown, hnm, hts, hK, hE, hA⟩ := id hC
  obtain ⟨h1, h2, hP, hDs, hS, hc, hs, hl, hw, ho, hol⟩ := hD
  refine W.widen (k := mc) (n := ms) (by omega) (by omega) ?_
  exact W.zret hx hb (hr.trans hM) (by rcases hz with rfl | rfl <;> rfl) (fun t ht hW => ⟨⟨ad, some (aI x), sh, iv, lw, rv, h1, h2, rfl, k, by rw [ht]; exact hP, hDs, hw, fun v hv => by cases hv; exact ho _ List.mem_cons_self⟩, hS.F ht⟩) hS.2.2 hd hlk
theorem wp_lreturn {x : Int} (hd : decode M.2.1 pc = .ok (.lreturn, 1)) (hM : M.2.2.2 = some .long) (k : R (some (aL x)) sh iv lw rv) : wp d M pc ls (aL x :: []) sh iv lw rv bc bs R := by
  intro p l e s m args below meth c D cI cL cA xd A mc ms ad0 n0 hC ad H locs cells slots jls hD
  obtain ⟨hx, hb, hml, hr, hlk, hown, hnm, hts, hK, hE, hA⟩ := id hC
  obtain ⟨h1, h2, hP, hDs, hS, hc, hs, hl, hw, ho, hol⟩ := hD
  refine W.widen (k := mc) (n := ms) (by omega) (by omega) ?_
  exact W.lret hx hb (hr.trans hM) (fun t ht hW => ⟨⟨ad, some (aL x), sh, iv, lw, rv, h1, h2, rfl, k, by rw [ht]; exact hP, hDs, hw, fun v hv => by cases hv; exact ho _ List.mem_cons_self⟩, hS.F ht⟩) hS.2.2 hd hlk
theorem wp_areturn {x : Option (Nat ⊕ Nat)} {q : String} (hd : decode M.2.1 pc = .ok (.areturn, 1)) (hM : M.2.2.2 = some (.object q)) (k : R (some (.inr (.inr x))) sh iv lw rv) : wp d M pc ls (.inr (.inr x) :: []) sh iv lw rv bc bs R := by
  intro p l e s m args below meth c D cI cL cA xd A mc ms ad0 n0 hC ad H locs cells slots jls hD
  obtain ⟨hx, hb, hml, hr, hlk, hown, hnm, hts, hK, hE, hA⟩ := id hC
  obtain ⟨h1, h2, hP, hDs, hS, hc, hs, hl, hw, ho, hol⟩ := hD
  refine W.widen (k := mc) (n := ms) (by omega) (by omega) ?_
  exact W.aret hx hb (hr.trans hM) (Or.inl ⟨_, rfl⟩) (by rcases x with _ | x | x <;> first | exact Or.inl rfl | exact Or.inr ⟨_, rfl⟩) (fun t ht hW => ⟨⟨ad, some (.inr (.inr x)), sh, iv, lw, rv, h1, h2, rfl, k, by rw [ht]; exact hP, hDs, hw, fun v hv => by cases hv; exact ho _ List.mem_cons_self⟩, hS.F ht⟩) hS.2.2 hd hlk
theorem wp_return (hd : decode M.2.1 pc = .ok (.return_, 1)) (hM : M.2.2.2 = none) (k : R none sh iv lw rv) : wp d M pc ls [] sh iv lw rv bc bs R := by
  intro p l e s m args below meth c D cI cL cA xd A mc ms ad0 n0 hC ad H locs cells slots jls hD
  obtain ⟨hx, hb, hml, hr, hlk, hown, hnm, hts, hK, hE, hA⟩ := id hC
  obtain ⟨h1, h2, hP, hDs, hS, hc, hs, hl, hw, ho, hol⟩ := hD
  refine W.widen (k := mc) (n := ms) (by omega) (by omega) ?_
  exact W.vret hx hb (hr.trans hM) (fun t ht hW => ⟨⟨ad, none, sh, iv, lw, rv, h1, h2, rfl, k, by rw [ht]; exact hP, hDs, hw, fun v hv => by cases hv⟩, hS.F ht⟩) hS.2.2 hd hlk
end WPR
