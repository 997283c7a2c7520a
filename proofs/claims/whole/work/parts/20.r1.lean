/-! ===== plain words on rows of numbers ===== -/
def up (f : Int → Int) (k v : Int) : Int → Int := fun j => if j = k then v else f j
theorem up_s {f : Int → Int} {k v : Int} : up f k v k = v := by simp [up]
theorem up_n {f : Int → Int} {k v j : Int} (h : ¬ j = k) : up f k v j = f j := by simp [up, h]
theorem uI_eq {iv : aF} {i : Nat} {k v : Int} : uI iv i k v = uA iv i (up (iv i) k v) := by
  funext a b
  unfold uI uA up
  by_cases h : a = i
  · subst h; simp
  · simp [h]
theorem uA_s {iv : aF} {i : Nat} {f : Int → Int} : (uA iv i f) i = f := by funext b; simp [uA]
theorem uA_n {iv : aF} {i j : Nat} {f : Int → Int} (h : j ≠ i) : (uA iv i f) j = iv j := by funext b; simp [uA, h]
theorem uA_uA {iv : aF} {i : Nat} {f g : Int → Int} : uA (uA iv i f) i g = uA iv i g := by
  funext a b; unfold uA; split <;> rfl
theorem uA_c {iv : aF} {i j : Nat} {f g : Int → Int} (h : i ≠ j) : uA (uA iv j g) i f = uA (uA iv i f) j g := by
  funext a b; unfold uA
  by_cases h1 : a = i
  · subst h1; simp [h]
  · simp [h1]
theorem uA_id {iv : aF} {i : Nat} : uA iv i (iv i) = iv := by
  funext a b; unfold uA; split
  · rename_i h; rw [h]
  · rfl
/-! ===== the reference: its cells ===== -/
def SHR : aSh := [(3, 12), (0, 240), (0, 5), (0, 24), (0, 16), (0, 5), (0, 24), (0, 16), (0, 550), (0, 5), (0, 6), (0, 16), (0, 7), (0, 6), (0, 22000), (0, 3321), (0, 81), (0, 550)]
def RVR : aP := fun i k => if i = 0 then (match k with
  | 1 => some 1
  | 5 => some 2
  | 6 => some 3
  | 7 => some 4
  | 10 => some 5
  | 11 => some 6
  | 12 => some 7
  | 15 => some 8
  | 16 => some 9
  | 18 => some 10
  | 20 => some 11
  | 21 => some 12
  | 23 => some 13
  | 24 => some 14
  | 27 => some 15
  | 28 => some 16
  | 29 => some 17
  | _ => none) else none
/-- its world: fields F, now N, gotten G, offers O, told T, sends S; the others as iv has them -/
def ST (iv : aF) (F N G O T S : Int → Int) : aF := fun i => match i with
  | 0 => F
  | 8 => N
  | 10 => G
  | 11 => O
  | 12 => T
  | 13 => S
  | i => iv i
theorem ST_id (iv : aF) : ST iv (iv 0) (iv 8) (iv 10) (iv 11) (iv 12) (iv 13) = iv := by
  funext i; unfold ST; split <;> rfl
section R0
variable {iv : aF} {F N G O T S : Int → Int}
theorem ST0 : ST iv F N G O T S 0 = F := rfl
theorem ST1 : ST iv F N G O T S 1 = iv 1 := rfl
theorem ST2 : ST iv F N G O T S 2 = iv 2 := rfl
theorem ST3 : ST iv F N G O T S 3 = iv 3 := rfl
theorem ST4 : ST iv F N G O T S 4 = iv 4 := rfl
theorem ST5 : ST iv F N G O T S 5 = iv 5 := rfl
theorem ST6 : ST iv F N G O T S 6 = iv 6 := rfl
theorem ST7 : ST iv F N G O T S 7 = iv 7 := rfl
theorem ST8 : ST iv F N G O T S 8 = N := rfl
theorem ST9 : ST iv F N G O T S 9 = iv 9 := rfl
theorem ST10 : ST iv F N G O T S 10 = G := rfl
theorem ST11 : ST iv F N G O T S 11 = O := rfl
theorem ST12 : ST iv F N G O T S 12 = T := rfl
theorem ST13 : ST iv F N G O T S 13 = S := rfl
theorem ST14 : ST iv F N G O T S 14 = iv 14 := rfl
theorem ST15 : ST iv F N G O T S 15 = iv 15 := rfl
theorem ST16 : ST iv F N G O T S 16 = iv 16 := rfl
theorem ST17 : ST iv F N G O T S 17 = iv 17 := rfl
theorem STa0 {f : Int → Int} : uA (ST iv F N G O T S) 0 f = ST iv f N G O T S := by
  funext a
  by_cases h : a = 0
  · subst h; exact uA_s
  · rw [uA_n h]; unfold ST; split <;> first | rfl | exact absurd rfl h
theorem STu0 {k v : Int} : uI (ST iv F N G O T S) 0 k v = ST iv (up F k v) N G O T S := by rw [uI_eq, STa0]; rfl
theorem STa1 {f : Int → Int} : uA (ST iv F N G O T S) 1 f = ST (uA iv 1 f) F N G O T S := by
  funext a
  by_cases h : a = 1
  · subst h; rw [uA_s]; exact uA_s.symm
  · rw [uA_n h]; unfold ST; split <;> first | rfl | exact (uA_n h).symm
theorem STu1 {k v : Int} : uI (ST iv F N G O T S) 1 k v = ST (uA iv 1 (up (iv 1) k v)) F N G O T S := by rw [uI_eq, STa1]; rfl
theorem STa2 {f : Int → Int} : uA (ST iv F N G O T S) 2 f = ST (uA iv 2 f) F N G O T S := by
  funext a
  by_cases h : a = 2
  · subst h; rw [uA_s]; exact uA_s.symm
  · rw [uA_n h]; unfold ST; split <;> first | rfl | exact (uA_n h).symm
theorem STu2 {k v : Int} : uI (ST iv F N G O T S) 2 k v = ST (uA iv 2 (up (iv 2) k v)) F N G O T S := by rw [uI_eq, STa2]; rfl
theorem STa3 {f : Int → Int} : uA (ST iv F N G O T S) 3 f = ST (uA iv 3 f) F N G O T S := by
  funext a
  by_cases h : a = 3
  · subst h; rw [uA_s]; exact uA_s.symm
  · rw [uA_n h]; unfold ST; split <;> first | rfl | exact (uA_n h).symm
theorem STu3 {k v : Int} : uI (ST iv F N G O T S) 3 k v = ST (uA iv 3 (up (iv 3) k v)) F N G O T S := by rw [uI_eq, STa3]; rfl
theorem STa4 {f : Int → Int} : uA (ST iv F N G O T S) 4 f = ST (uA iv 4 f) F N G O T S := by
  funext a
  by_cases h : a = 4
  · subst h; rw [uA_s]; exact uA_s.symm
  · rw [uA_n h]; unfold ST; split <;> first | rfl | exact (uA_n h).symm
theorem STu4 {k v : Int} : uI (ST iv F N G O T S) 4 k v = ST (uA iv 4 (up (iv 4) k v)) F N G O T S := by rw [uI_eq, STa4]; rfl
theorem STa5 {f : Int → Int} : uA (ST iv F N G O T S) 5 f = ST (uA iv 5 f) F N G O T S := by
  funext a
  by_cases h : a = 5
  · subst h; rw [uA_s]; exact uA_s.symm
  · rw [uA_n h]; unfold ST; split <;> first | rfl | exact (uA_n h).symm
theorem STu5 {k v : Int} : uI (ST iv F N G O T S) 5 k v = ST (uA iv 5 (up (iv 5) k v)) F N G O T S := by rw [uI_eq, STa5]; rfl
theorem STa6 {f : Int → Int} : uA (ST iv F N G O T S) 6 f = ST (uA iv 6 f) F N G O T S := by
  funext a
  by_cases h : a = 6
  · subst h; rw [uA_s]; exact uA_s.symm
  · rw [uA_n h]; unfold ST; split <;> first | rfl | exact (uA_n h).symm
theorem STu6 {k v : Int} : uI (ST iv F N G O T S) 6 k v = ST (uA iv 6 (up (iv 6) k v)) F N G O T S := by rw [uI_eq, STa6]; rfl
theorem STa7 {f : Int → Int} : uA (ST iv F N G O T S) 7 f = ST (uA iv 7 f) F N G O T S := by
  funext a
  by_cases h : a = 7
  · subst h; rw [uA_s]; exact uA_s.symm
  · rw [uA_n h]; unfold ST; split <;> first | rfl | exact (uA_n h).symm
theorem STu7 {k v : Int} : uI (ST iv F N G O T S) 7 k v = ST (uA iv 7 (up (iv 7) k v)) F N G O T S := by rw [uI_eq, STa7]; rfl
theorem STa8 {f : Int → Int} : uA (ST iv F N G O T S) 8 f = ST iv F f G O T S := by
  funext a
  by_cases h : a = 8
  · subst h; exact uA_s
  · rw [uA_n h]; unfold ST; split <;> first | rfl | exact absurd rfl h
theorem STu8 {k v : Int} : uI (ST iv F N G O T S) 8 k v = ST iv F (up N k v) G O T S := by rw [uI_eq, STa8]; rfl
theorem STa9 {f : Int → Int} : uA (ST iv F N G O T S) 9 f = ST (uA iv 9 f) F N G O T S := by
  funext a
  by_cases h : a = 9
  · subst h; rw [uA_s]; exact uA_s.symm
  · rw [uA_n h]; unfold ST; split <;> first | rfl | exact (uA_n h).symm
theorem STu9 {k v : Int} : uI (ST iv F N G O T S) 9 k v = ST (uA iv 9 (up (iv 9) k v)) F N G O T S := by rw [uI_eq, STa9]; rfl
theorem STa10 {f : Int → Int} : uA (ST iv F N G O T S) 10 f = ST iv F N f O T S := by
  funext a
  by_cases h : a = 10
  · subst h; exact uA_s
  · rw [uA_n h]; unfold ST; split <;> first | rfl | exact absurd rfl h
theorem STu10 {k v : Int} : uI (ST iv F N G O T S) 10 k v = ST iv F N (up G k v) O T S := by rw [uI_eq, STa10]; rfl
theorem STa11 {f : Int → Int} : uA (ST iv F N G O T S) 11 f = ST iv F N G f T S := by
  funext a
  by_cases h : a = 11
  · subst h; exact uA_s
  · rw [uA_n h]; unfold ST; split <;> first | rfl | exact absurd rfl h
theorem STu11 {k v : Int} : uI (ST iv F N G O T S) 11 k v = ST iv F N G (up O k v) T S := by rw [uI_eq, STa11]; rfl
theorem STa12 {f : Int → Int} : uA (ST iv F N G O T S) 12 f = ST iv F N G O f S := by
  funext a
  by_cases h : a = 12
  · subst h; exact uA_s
  · rw [uA_n h]; unfold ST; split <;> first | rfl | exact absurd rfl h
theorem STu12 {k v : Int} : uI (ST iv F N G O T S) 12 k v = ST iv F N G O (up T k v) S := by rw [uI_eq, STa12]; rfl
theorem STa13 {f : Int → Int} : uA (ST iv F N G O T S) 13 f = ST iv F N G O T f := by
  funext a
  by_cases h : a = 13
  · subst h; exact uA_s
  · rw [uA_n h]; unfold ST; split <;> first | rfl | exact absurd rfl h
theorem STu13 {k v : Int} : uI (ST iv F N G O T S) 13 k v = ST iv F N G O T (up S k v) := by rw [uI_eq, STa13]; rfl
theorem STa14 {f : Int → Int} : uA (ST iv F N G O T S) 14 f = ST (uA iv 14 f) F N G O T S := by
  funext a
  by_cases h : a = 14
  · subst h; rw [uA_s]; exact uA_s.symm
  · rw [uA_n h]; unfold ST; split <;> first | rfl | exact (uA_n h).symm
theorem STu14 {k v : Int} : uI (ST iv F N G O T S) 14 k v = ST (uA iv 14 (up (iv 14) k v)) F N G O T S := by rw [uI_eq, STa14]; rfl
theorem STa15 {f : Int → Int} : uA (ST iv F N G O T S) 15 f = ST (uA iv 15 f) F N G O T S := by
  funext a
  by_cases h : a = 15
  · subst h; rw [uA_s]; exact uA_s.symm
  · rw [uA_n h]; unfold ST; split <;> first | rfl | exact (uA_n h).symm
theorem STu15 {k v : Int} : uI (ST iv F N G O T S) 15 k v = ST (uA iv 15 (up (iv 15) k v)) F N G O T S := by rw [uI_eq, STa15]; rfl
theorem STa16 {f : Int → Int} : uA (ST iv F N G O T S) 16 f = ST (uA iv 16 f) F N G O T S := by
  funext a
  by_cases h : a = 16
  · subst h; rw [uA_s]; exact uA_s.symm
  · rw [uA_n h]; unfold ST; split <;> first | rfl | exact (uA_n h).symm
theorem STu16 {k v : Int} : uI (ST iv F N G O T S) 16 k v = ST (uA iv 16 (up (iv 16) k v)) F N G O T S := by rw [uI_eq, STa16]; rfl
theorem STa17 {f : Int → Int} : uA (ST iv F N G O T S) 17 f = ST (uA iv 17 f) F N G O T S := by
  funext a
  by_cases h : a = 17
  · subst h; rw [uA_s]; exact uA_s.symm
  · rw [uA_n h]; unfold ST; split <;> first | rfl | exact (uA_n h).symm
theorem STu17 {k v : Int} : uI (ST iv F N G O T S) 17 k v = ST (uA iv 17 (up (iv 17) k v)) F N G O T S := by rw [uI_eq, STa17]; rfl
end R0
def bq (q : Int) : Int := if q = 0 then 0 else 19
def mq (q : Int) : Int := if q = 0 then 18 else 25
theorem bq0 : bq 0 = 0 := rfl
theorem bq1 : bq 1 = 19 := rfl
theorem mq0 : mq 0 = 18 := rfl
theorem mq1 : mq 1 = 25 := rfl
theorem bq_r {q : Int} (h : q = 0 ∨ q = 1) : 0 ≤ bq q ∧ bq q ≤ 19 := by rcases h with rfl | rfl <;> decide
theorem mq_r {q : Int} (h : q = 0 ∨ q = 1) : 18 ≤ mq q ∧ mq q ≤ 25 := by rcases h with rfl | rfl <;> decide
/-- the first place from i on, of n, at which c stands; -1: none -/
def fnd (f : Int → Int) (p b c : Int) : Nat → Int → Int
  | 0, _ => -1
  | n + 1, i => if f (61 * p + (b + i)) = c then i else fnd f p b c n (i + 1)
/-- where a cell stands in a table -/
def plc (N : Int → Int) (p q c : Int) : Int := fnd N p (bq q) c (N (61 * p + mq q)).toNat 0
section R1
variable {d : Nat} {iv lw : aF} {F N G O T S : Int → Int} {R : aPost}
theorem s_in {v lo hi : Int} {sh : aSh} {rv : aP} (kt : lo ≤ v ∧ v ≤ hi → R (some (aI 1)) sh iv lw rv) (kf : ¬ (lo ≤ v ∧ v ≤ hi) → R (some (aI 0)) sh iv lw rv) : wp d mX12_in 0 [some (aI v), some (aI lo), some (aI hi)] [] sh iv lw rv 0 0 R := by
  refine wp_iload_n dX12_in_0 rfl ?_
  refine wp_iload_n dX12_in_1 rfl ?_
  refine wp_icmp_lt (tgt := 14) dX12_in_2 rfl (fun h2 => ?_) (fun h2 => ?_)
  · refine wp_iconst dX12_in_14 ?_
    refine wp_zreturn dX12_in_15 rfl (Or.inl rfl) ?_
    exact kf (by omega)
  · refine wp_iload_n dX12_in_5 rfl ?_
    refine wp_iload_n dX12_in_6 rfl ?_
    refine wp_icmp_gt (tgt := 14) dX12_in_7 rfl (fun h7 => ?_) (fun h7 => ?_)
    · refine wp_iconst dX12_in_14 ?_
      refine wp_zreturn dX12_in_15 rfl (Or.inl rfl) ?_
      exact kf (by omega)
    · refine wp_iconst dX12_in_10 ?_
      refine wp_goto (tgt := 15) dX12_in_11 rfl ?_
      refine wp_zreturn dX12_in_15 rfl (Or.inr rfl) ?_
      exact kt ⟨by omega, by omega⟩
theorem s_of {p q : Int} (hp : 0 ≤ p ∧ p < 6) (hq : 0 ≤ q ∧ q < 61) (k : R (some (aI (N (61 * p + q)))) SHR (ST iv F N G O T S) lw RVR) : wp (d) mX12_of 0 [some (aR 0), some (aI p), some (aI q)] [] SHR (ST iv F N G O T S) lw RVR 0 0 R := by
  refine wp_aload_n dX12_of_0 rfl ?_
  refine wp_getR rfl dX12_of_1 fX12_31 rfl ?_
  refine wp_bipush dX12_of_4 ?_
  refine wp_iload_n dX12_of_6 rfl ?_
  refine wp_imul dX12_of_7 ⟨by omega, by omega⟩ ?_
  refine wp_iload_n dX12_of_8 rfl ?_
  refine wp_iadd dX12_of_9 ⟨by omega, by omega⟩ ?_
  refine wp_iald dX12_of_10 rfl (by omega) (by omega) ?_
  try simp only [ST0, ST5, ST6, ST7, ST8, ST10, ST11, ST12, ST13]
  refine wp_ireturn dX12_of_11 rfl ?_
  exact k
theorem s_set {p q v : Int} (hp : 0 ≤ p ∧ p < 6) (hq : 0 ≤ q ∧ q < 61) (k : R none SHR (ST iv F (up N (61 * p + q) v) G O T S) lw RVR) : wp (d) mX12_set 0 [some (aR 0), some (aI p), some (aI q), some (aI v)] [] SHR (ST iv F N G O T S) lw RVR 0 0 R := by
  refine wp_aload_n dX12_set_0 rfl ?_
  refine wp_getR rfl dX12_set_1 fX12_31 rfl ?_
  refine wp_bipush dX12_set_4 ?_
  refine wp_iload_n dX12_set_6 rfl ?_
  refine wp_imul dX12_set_7 ⟨by omega, by omega⟩ ?_
  refine wp_iload_n dX12_set_8 rfl ?_
  refine wp_iadd dX12_set_9 ⟨by omega, by omega⟩ ?_
  refine wp_iload_n dX12_set_10 rfl ?_
  refine wp_iast dX12_set_11 rfl (by omega) (by omega) ?_
  try simp only [STu0, STu8, STu10, STu11, STu12, STu13]
  refine wp_return dX12_set_12 rfl ?_
  exact k
theorem s_isPair {p : Int} (hr : 0 ≤ F 13 ∧ F 13 ≤ 6) (kt : 0 ≤ p ∧ p < F 13 → R (some (aI 1)) SHR (ST iv F N G O T S) lw RVR) (kf : ¬ (0 ≤ p ∧ p < F 13) → R (some (aI 0)) SHR (ST iv F N G O T S) lw RVR) : wp (d + 1) mX12_isPair 0 [some (aR 0), some (aI p)] [] SHR (ST iv F N G O T S) lw RVR 0 0 R := by
  refine wp_iload_n dX12_isPair_0 rfl ?_
  refine wp_iconst dX12_isPair_1 ?_
  refine wp_aload_n dX12_isPair_2 rfl ?_
  refine wp_getI dX12_isPair_3 fX12_138 rfl ?_
  try simp only [ST0, ST5, ST6, ST7, ST8, ST10, ST11, ST12, ST13]
  refine wp_iconst dX12_isPair_6 ?_
  refine wp_isub dX12_isPair_7 ⟨by omega, by omega⟩ ?_
  refine wp_callS (as := [_, _, _]) (ls0 := [_, _, _]) (kc := 0) (ks := 0) (bc' := 0) (bs' := 0) dX12_isPair_8 vX12_75 rfl rfl (Nat.le_of_ble_eq_true rfl) (Nat.le_of_ble_eq_true rfl) (by omega) (by omega) ?_
  refine s_in (fun h8 => ?_) (fun h8 => ?_)
  · refine wp_zreturn dX12_isPair_11 rfl (Or.inr rfl) ?_
    exact kt (by omega)
  · refine wp_zreturn dX12_isPair_11 rfl (Or.inl rfl) ?_
    exact kf (by omega)
theorem s_nodeOf {p q : Int} (hp : 0 ≤ p ∧ p < 6) (hq : q = 0 ∨ q = 1) (k : R (some (aI (iv 6 (4 * p + q)))) SHR (ST iv F N G O T S) lw RVR) : wp (d) mX12_nodeOf 0 [some (aR 0), some (aI p), some (aI q)] [] SHR (ST iv F N G O T S) lw RVR 0 0 R := by
  refine wp_aload_n dX12_nodeOf_0 rfl ?_
  refine wp_getR rfl dX12_nodeOf_1 fX12_25 rfl ?_
  refine wp_iconst dX12_nodeOf_4 ?_
  refine wp_iload_n dX12_nodeOf_5 rfl ?_
  refine wp_imul dX12_nodeOf_6 ⟨by omega, by omega⟩ ?_
  refine wp_iload_n dX12_nodeOf_7 rfl ?_
  refine wp_iadd dX12_nodeOf_8 ⟨by omega, by omega⟩ ?_
  refine wp_iald dX12_nodeOf_9 rfl (by omega) (by omega) ?_
  try simp only [ST0, ST5, ST6, ST7, ST8, ST10, ST11, ST12, ST13]
  refine wp_ireturn dX12_nodeOf_10 rfl ?_
  exact k
theorem s_isTwoStep {p : Int} (hp : 0 ≤ p ∧ p < 6) (kt : iv 6 (4 * p + 2) = 2 → R (some (aI 1)) SHR (ST iv F N G O T S) lw RVR) (kf : ¬ iv 6 (4 * p + 2) = 2 → R (some (aI 0)) SHR (ST iv F N G O T S) lw RVR) : wp (d) mX12_isTwoStep 0 [some (aR 0), some (aI p)] [] SHR (ST iv F N G O T S) lw RVR 0 0 R := by
  refine wp_aload_n dX12_isTwoStep_0 rfl ?_
  refine wp_getR rfl dX12_isTwoStep_1 fX12_25 rfl ?_
  refine wp_iconst dX12_isTwoStep_4 ?_
  refine wp_iload_n dX12_isTwoStep_5 rfl ?_
  refine wp_imul dX12_isTwoStep_6 ⟨by omega, by omega⟩ ?_
  refine wp_iconst dX12_isTwoStep_7 ?_
  refine wp_iadd dX12_isTwoStep_8 ⟨by omega, by omega⟩ ?_
  refine wp_iald dX12_isTwoStep_9 rfl (by omega) (by omega) ?_
  try simp only [ST0, ST5, ST6, ST7, ST8, ST10, ST11, ST12, ST13]
  refine wp_iconst dX12_isTwoStep_10 ?_
  refine wp_icmp_ne (tgt := 18) dX12_isTwoStep_11 rfl (fun h11 => ?_) (fun h11 => ?_)
  · refine wp_iconst dX12_isTwoStep_18 ?_
    refine wp_zreturn dX12_isTwoStep_19 rfl (Or.inl rfl) ?_
    exact kf (by assumption)
  · refine wp_iconst dX12_isTwoStep_14 ?_
    refine wp_goto (tgt := 19) dX12_isTwoStep_15 rfl ?_
    refine wp_zreturn dX12_isTwoStep_19 rfl (Or.inr rfl) ?_
    exact kt (by assumption)
theorem s_manyOf {p q : Int} (hp : 0 ≤ p ∧ p < 6) (hq : q = 0 ∨ q = 1) (k : R (some (aI (N (61 * p + mq q)))) SHR (ST iv F N G O T S) lw RVR) : wp (d + 1) mX12_manyOf 0 [some (aR 0), some (aI p), some (aI q)] [] SHR (ST iv F N G O T S) lw RVR 0 0 R := by
  refine wp_aload_n dX12_manyOf_0 rfl ?_
  refine wp_iload_n dX12_manyOf_1 rfl ?_
  refine wp_iload_n dX12_manyOf_2 rfl ?_
  refine wp_if_ne (tgt := 11) dX12_manyOf_3 rfl (fun h3 => ?_) (fun h3 => ?_)
  · refine wp_bipush dX12_manyOf_11 ?_
    refine wp_callV (as := [_, _]) (ls0 := [_, _, _]) (kc := 0) (ks := 0) (bc' := 0) (bs' := 0) dX12_manyOf_13 vX12_161 rfl rfl rfl (Nat.le_of_ble_eq_true rfl) (Nat.le_of_ble_eq_true rfl) (by omega) (by omega) ?_
    refine s_of (by omega) (by omega) ?_
    refine wp_ireturn dX12_manyOf_16 rfl ?_
    rcases hq with rfl | rfl <;> first | exact k | omega
  · refine wp_bipush dX12_manyOf_6 ?_
    refine wp_goto (tgt := 13) dX12_manyOf_8 rfl ?_
    refine wp_callV (as := [_, _]) (ls0 := [_, _, _]) (kc := 0) (ks := 0) (bc' := 0) (bs' := 0) dX12_manyOf_13 vX12_161 rfl rfl rfl (Nat.le_of_ble_eq_true rfl) (Nat.le_of_ble_eq_true rfl) (by omega) (by omega) ?_
    refine s_of (by omega) (by omega) ?_
    refine wp_ireturn dX12_manyOf_16 rfl ?_
    rcases hq with rfl | rfl <;> first | exact k | omega
theorem s_cellOf {p q i : Int} (hp : 0 ≤ p ∧ p < 6) (hq : q = 0 ∨ q = 1) (hi : 0 ≤ i ∧ i < 6) (k : R (some (aI (N (61 * p + (bq q + i))))) SHR (ST iv F N G O T S) lw RVR) : wp (d + 1) mX12_cellOf 0 [some (aR 0), some (aI p), some (aI q), some (aI i)] [] SHR (ST iv F N G O T S) lw RVR 0 0 R := by
  refine wp_aload_n dX12_cellOf_0 rfl ?_
  refine wp_iload_n dX12_cellOf_1 rfl ?_
  refine wp_iload_n dX12_cellOf_2 rfl ?_
  refine wp_if_ne (tgt := 10) dX12_cellOf_3 rfl (fun h3 => ?_) (fun h3 => ?_)
  · refine wp_bipush dX12_cellOf_10 ?_
    refine wp_iload_n dX12_cellOf_12 rfl ?_
    refine wp_iadd dX12_cellOf_13 ⟨by omega, by omega⟩ ?_
    refine wp_callV (as := [_, _]) (ls0 := [_, _, _]) (kc := 0) (ks := 0) (bc' := 0) (bs' := 0) dX12_cellOf_14 vX12_161 rfl rfl rfl (Nat.le_of_ble_eq_true rfl) (Nat.le_of_ble_eq_true rfl) (by omega) (by omega) ?_
    refine s_of (by omega) (by omega) ?_
    refine wp_ireturn dX12_cellOf_17 rfl ?_
    rcases hq with rfl | rfl <;> first | exact k | omega
  · refine wp_iconst dX12_cellOf_6 ?_
    refine wp_goto (tgt := 12) dX12_cellOf_7 rfl ?_
    refine wp_iload_n dX12_cellOf_12 rfl ?_
    refine wp_iadd dX12_cellOf_13 ⟨by omega, by omega⟩ ?_
    refine wp_callV (as := [_, _]) (ls0 := [_, _, _]) (kc := 0) (ks := 0) (bc' := 0) (bs' := 0) dX12_cellOf_14 vX12_161 rfl rfl rfl (Nat.le_of_ble_eq_true rfl) (Nat.le_of_ble_eq_true rfl) (by omega) (by omega) ?_
    refine s_of (by omega) (by omega) ?_
    refine wp_ireturn dX12_cellOf_17 rfl ?_
    rcases hq with rfl | rfl <;> first | exact k | omega
theorem l_placeIn {p q c : Int} (hp : 0 ≤ p ∧ p < 6) (hq : q = 0 ∨ q = 1) (hm : 0 ≤ N (61 * p + mq q) ∧ N (61 * p + mq q) ≤ 6) (n : Nat) : ∀ i : Int, 0 ≤ i → i + n = N (61 * p + mq q) → R (some (aI (fnd N p (bq q) c n i))) SHR (ST iv F N G O T S) lw RVR → wp (d + 2) mX12_placeIn 3 [some (aR 0), some (aI p), some (aI q), some (aI c), some (aI i)] [] SHR (ST iv F N G O T S) lw RVR 0 0 R := by
  induction n with
  | zero =>
    intro i hi hn k
    refine wp_iload dX12_placeIn_3 rfl ?_
    refine wp_aload_n dX12_placeIn_5 rfl ?_
    refine wp_iload_n dX12_placeIn_6 rfl ?_
    refine wp_iload_n dX12_placeIn_7 rfl ?_
    refine wp_callV (as := [_, _]) (ls0 := [_, _, _]) (kc := 0) (ks := 0) (bc' := 0) (bs' := 0) dX12_placeIn_8 vX12_164 rfl rfl rfl (Nat.le_of_ble_eq_true rfl) (Nat.le_of_ble_eq_true rfl) (by omega) (by omega) ?_
    refine s_manyOf (by omega) (by omega) ?_
    refine wp_icmp_ge (tgt := 35) dX12_placeIn_11 rfl (fun h11 => ?_) (fun h11 => by exfalso; omega)
    refine wp_iconst dX12_placeIn_35 ?_
    refine wp_ireturn dX12_placeIn_36 rfl ?_
    exact k
  | succ n ih =>
    intro i hi hn k
    refine wp_iload dX12_placeIn_3 rfl ?_
    refine wp_aload_n dX12_placeIn_5 rfl ?_
    refine wp_iload_n dX12_placeIn_6 rfl ?_
    refine wp_iload_n dX12_placeIn_7 rfl ?_
    refine wp_callV (as := [_, _]) (ls0 := [_, _, _]) (kc := 0) (ks := 0) (bc' := 0) (bs' := 0) dX12_placeIn_8 vX12_164 rfl rfl rfl (Nat.le_of_ble_eq_true rfl) (Nat.le_of_ble_eq_true rfl) (by omega) (by omega) ?_
    refine s_manyOf (by omega) (by omega) ?_
    refine wp_icmp_ge (tgt := 35) dX12_placeIn_11 rfl (fun h11 => by exfalso; omega) (fun h11 => ?_)
    refine wp_aload_n dX12_placeIn_14 rfl ?_
    refine wp_iload_n dX12_placeIn_15 rfl ?_
    refine wp_iload_n dX12_placeIn_16 rfl ?_
    refine wp_iload dX12_placeIn_17 rfl ?_
    refine wp_callV (as := [_, _, _]) (ls0 := [_, _, _, _]) (kc := 0) (ks := 0) (bc' := 0) (bs' := 0) dX12_placeIn_19 vX12_167 rfl rfl rfl (Nat.le_of_ble_eq_true rfl) (Nat.le_of_ble_eq_true rfl) (by omega) (by omega) ?_
    refine s_cellOf (by omega) (by omega) (by omega) ?_
    refine wp_iload_n dX12_placeIn_22 rfl ?_
    refine wp_icmp_ne (tgt := 29) dX12_placeIn_23 rfl (fun h23 => ?_) (fun h23 => ?_)
    · refine wp_iinc (ls' := [_, _, _, _, _]) dX12_placeIn_29 (by decide) rfl rfl ⟨by omega, by omega⟩ rfl ?_
      refine wp_goto (tgt := 3) dX12_placeIn_32 rfl ?_
      exact ih _ (by omega) (by omega) (by rw [fnd, if_neg h23] at k; exact k)
    · refine wp_iload dX12_placeIn_26 rfl ?_
      refine wp_ireturn dX12_placeIn_28 rfl ?_
      rw [fnd, if_pos h23] at k; exact k
theorem s_placeIn {p q c : Int} (hp : 0 ≤ p ∧ p < 6) (hq : q = 0 ∨ q = 1) (hm : 0 ≤ N (61 * p + mq q) ∧ N (61 * p + mq q) ≤ 6) (k : R (some (aI (plc N p q c))) SHR (ST iv F N G O T S) lw RVR) : wp (d + 2) mX12_placeIn 0 [some (aR 0), some (aI p), some (aI q), some (aI c), none] [] SHR (ST iv F N G O T S) lw RVR 0 0 R := by
  refine wp_iconst dX12_placeIn_0 ?_
  refine wp_istore (ls' := [_, _, _, _, _]) dX12_placeIn_1 (by decide) rfl rfl ?_
  exact l_placeIn hp hq hm _ 0 (by omega) (by omega) k
theorem s_shift {p k a b : Int} (hp : 0 ≤ p ∧ p < 6) (h1 : 0 ≤ k + a ∧ k + a < 61) (h2 : 0 ≤ k + b ∧ k + b < 61) (h3 : 0 ≤ k ∧ k < 61) (kk : R none SHR (ST iv F (up N (61 * p + (k + b)) (N (61 * p + (k + a)))) G O T S) lw RVR) : wp (d + 1) mX12_shift 0 [some (aR 0), some (aI p), some (aI k), some (aI a), some (aI b)] [] SHR (ST iv F N G O T S) lw RVR 0 0 R := by
  refine wp_aload_n dX12_shift_0 rfl ?_
  refine wp_iload_n dX12_shift_1 rfl ?_
  refine wp_iload_n dX12_shift_2 rfl ?_
  refine wp_iload dX12_shift_3 rfl ?_
  refine wp_iadd dX12_shift_5 ⟨by omega, by omega⟩ ?_
  refine wp_aload_n dX12_shift_6 rfl ?_
  refine wp_iload_n dX12_shift_7 rfl ?_
  refine wp_iload_n dX12_shift_8 rfl ?_
  refine wp_iload_n dX12_shift_9 rfl ?_
  refine wp_iadd dX12_shift_10 ⟨by omega, by omega⟩ ?_
  refine wp_callV (as := [_, _]) (ls0 := [_, _, _]) (kc := 0) (ks := 0) (bc' := 0) (bs' := 0) dX12_shift_11 vX12_161 rfl rfl rfl (Nat.le_of_ble_eq_true rfl) (Nat.le_of_ble_eq_true rfl) (by omega) (by omega) ?_
  refine s_of (by omega) (by omega) ?_
  refine wp_callV (as := [_, _, _]) (ls0 := [_, _, _, _]) (kc := 0) (ks := 0) (bc' := 0) (bs' := 0) dX12_shift_14 vX12_141 rfl rfl rfl (Nat.le_of_ble_eq_true rfl) (Nat.le_of_ble_eq_true rfl) (by omega) (by omega) ?_
  refine s_set (by omega) (by omega) ?_
  refine wp_return dX12_shift_17 rfl ?_
  exact kk
end R1
