/-! ===== the class's words hold what the reference's row holds ===== -/
def cmk (k : Int) : Int := if k < 6 then 14 + k else if k < 12 then 14 + k else if k < 18 then 14 + k else if k = 18 then 13 else if k < 25 then 23 + k else if k = 25 then 41 else if k = 26 then 4 else if k = 27 then 32 else if k = 28 then 5 else if k = 29 then 33 else if k = 30 then 6 else if k = 31 then 34 else if k = 32 then 7 else if k = 33 then 8 else if k = 34 then 36 else if k < 39 then k - 26 else if k < 43 then k - 2 else if k < 48 then 17 + k else if k = 48 then 66 else if k = 49 then 65 else if k < 54 then 17 + k else if k = 57 then 1 else if k = 58 then 0 else if k = 59 then 2 else 3
def vis (k : Int) : Prop := (0 ≤ k ∧ k < 54) ∨ (57 ≤ k ∧ k < 61)
def Rel (w N : Int → Int) : Prop := (∀ p k : Int, 0 ≤ p → p < 6 → vis k → w (3 + 71 * p + cmk k) = N (61 * p + k)) ∧ w 0 = N 368 ∧ w 1 = N 367 ∧ w 2 = N 366
theorem cmk_d : ∀ k : Fin 61, (k.val < 54 ∨ 57 ≤ k.val) → 0 ≤ cmk k.val ∧ cmk k.val < 71 ∧ ∀ l : Fin 61, (l.val < 54 ∨ 57 ≤ l.val) → cmk k.val = cmk l.val → k = l := by decide +kernel
theorem cmk_r {k : Int} (h : vis k) : 0 ≤ cmk k ∧ cmk k < 71 := by
  unfold vis at h
  have := cmk_d ⟨k.toNat, by omega⟩ (by show k.toNat < 54 ∨ 57 ≤ k.toNat; omega)
  simp only [] at this
  rw [show ((k.toNat : Nat) : Int) = k by omega] at this
  exact ⟨this.1, this.2.1⟩
theorem cmk_i {k l : Int} (h : vis k) (h2 : vis l) (e : cmk k = cmk l) : k = l := by
  unfold vis at h h2
  have := (cmk_d ⟨k.toNat, by omega⟩ (by show k.toNat < 54 ∨ 57 ≤ k.toNat; omega)).2.2 ⟨l.toNat, by omega⟩ (by show l.toNat < 54 ∨ 57 ≤ l.toNat; omega)
  simp only [] at this
  rw [show ((k.toNat : Nat) : Int) = k by omega, show ((l.toNat : Nat) : Int) = l by omega] at this
  have := congrArg Fin.val (this e)
  simp only [] at this
  omega
section RL
variable {w N : Int → Int} {p q j v : Int}
theorem Rel.u {k x : Int} (h : Rel w N) (hp : 0 ≤ p ∧ p < 6) (hk : vis k) (hx : x = 3 + 71 * p + cmk k) : Rel (up w x v) (up N (61 * p + k) v) := by
  subst hx
  have hr := cmk_r hk
  have hk' := hk
  unfold vis at hk'
  refine ⟨fun a b h1 h2 h3 => ?_, ?_, ?_, ?_⟩
  · have hr2 := cmk_r h3
    have h3' := h3
    unfold vis at h3'
    by_cases e : a = p ∧ b = k
    · obtain ⟨rfl, rfl⟩ := e; rw [up_s, up_s]
    · rw [up_n, up_n (by omega)]
      · exact h.1 a b h1 h2 h3
      · intro e2
        have e3 : a = p := by omega
        exact e ⟨e3, cmk_i h3 hk (by omega)⟩
  · rw [up_n (by omega), up_n (by omega)]; exact h.2.1
  · rw [up_n (by omega), up_n (by omega)]; exact h.2.2.1
  · rw [up_n (by omega), up_n (by omega)]; exact h.2.2.2
/-- a word that the reference has not -/
theorem Rel.inv {x : Int} (h : Rel w N) (hx : 3 ≤ x) (hn : ∀ p k : Int, 0 ≤ p → p < 6 → vis k → ¬ 3 + 71 * p + cmk k = x) : Rel (up w x v) N :=
  ⟨fun a b h1 h2 h3 => by rw [up_n (hn a b h1 h2 h3)]; exact h.1 a b h1 h2 h3, by rw [up_n (by omega)]; exact h.2.1, by rw [up_n (by omega)]; exact h.2.2.1, by rw [up_n (by omega)]; exact h.2.2.2⟩
theorem cmk_h : ∀ k : Fin 61, (k.val < 54 ∨ 57 ≤ k.val) → ∀ j : Fin 71, (j.val = 35 ∨ (48 ≤ j.val ∧ j.val < 60)) → ¬ cmk k.val = j.val := by decide +kernel
theorem hid {x : Int} (hp : 0 ≤ p ∧ p < 6) (hx : x = 35 ∨ (48 ≤ x ∧ x < 60)) : ∀ a k : Int, 0 ≤ a → a < 6 → vis k → ¬ 3 + 71 * a + cmk k = 3 + 71 * p + x := by
  intro a k h1 h2 h3 e
  have hr := cmk_r h3
  unfold vis at h3
  have e1 : cmk k = x := by omega
  have := cmk_h ⟨k.toNat, by omega⟩ (by show k.toNat < 54 ∨ 57 ≤ k.toNat; omega) ⟨x.toNat, by omega⟩ (by show x.toNat = 35 ∨ (48 ≤ x.toNat ∧ x.toNat < 60); omega)
  simp only [] at this
  rw [show ((k.toNat : Nat) : Int) = k by omega, show ((x.toNat : Nat) : Int) = x by omega] at this
  exact this e1
theorem cm_cel (hq : q = 0 ∨ q = 1) (hj : 0 ≤ j ∧ j < 6) : 7 + 71 * p + 28 * q + 10 + j = 3 + 71 * p + cmk (bq q + j) ∧ vis (bq q + j) := by
  rcases hq with rfl | rfl
  · rw [bq0]; unfold cmk vis; rw [if_pos (by omega)]; omega
  · rw [bq1]; unfold cmk vis; rw [if_neg (by omega), if_neg (by omega), if_neg (by omega), if_neg (by omega), if_pos (by omega)]; omega
theorem cm_mny (hq : q = 0 ∨ q = 1) : 7 + 71 * p + 28 * q + 9 = 3 + 71 * p + cmk (mq q) ∧ vis (mq q) := by
  rcases hq with rfl | rfl
  · rw [mq0, show cmk 18 = 13 from by decide]; unfold vis; omega
  · rw [mq1, show cmk 25 = 41 from by decide]; unfold vis; omega
theorem cm_seq (hq : q = 0 ∨ q = 1) : 7 + 71 * p + 28 * q + 0 = 3 + 71 * p + cmk (26 + q) ∧ vis (26 + q) := by
  rcases hq with rfl | rfl
  · rw [show cmk (26 + 0) = 4 from by decide]; unfold vis; omega
  · rw [show cmk (26 + 1) = 32 from by decide]; unfold vis; omega
theorem cm_wai (hq : q = 0 ∨ q = 1) : 7 + 71 * p + 28 * q + 1 = 3 + 71 * p + cmk (28 + q) ∧ vis (28 + q) := by
  rcases hq with rfl | rfl
  · rw [show cmk (28 + 0) = 5 from by decide]; unfold vis; omega
  · rw [show cmk (28 + 1) = 33 from by decide]; unfold vis; omega
theorem cm_frm (hq : q = 0 ∨ q = 1) : 7 + 71 * p + 28 * q + 2 = 3 + 71 * p + cmk (30 + q) ∧ vis (30 + q) := by
  rcases hq with rfl | rfl
  · rw [show cmk (30 + 0) = 6 from by decide]; unfold vis; omega
  · rw [show cmk (30 + 1) = 34 from by decide]; unfold vis; omega
theorem cm_pmn (hq : q = 0 ∨ q = 1) : 7 + 71 * p + 28 * q + 4 = 3 + 71 * p + cmk (33 + q) ∧ vis (33 + q) := by
  rcases hq with rfl | rfl
  · rw [show cmk (33 + 0) = 8 from by decide]; unfold vis; omega
  · rw [show cmk (33 + 1) = 36 from by decide]; unfold vis; omega
theorem cm_prm (hq : q = 0 ∨ q = 1) (hj : 0 ≤ j ∧ j < 4) : 7 + 71 * p + 28 * q + 5 + j = 3 + 71 * p + cmk (35 + 4 * q + j) ∧ vis (35 + 4 * q + j) := by
  rcases (by omega : j = 0 ∨ j = 1 ∨ j = 2 ∨ j = 3) with rfl | rfl | rfl | rfl <;> rcases hq with rfl | rfl
  · rw [show cmk (35 + 4 * 0 + 0) = 9 from by decide]; unfold vis; omega
  · rw [show cmk (35 + 4 * 1 + 0) = 37 from by decide]; unfold vis; omega
  · rw [show cmk (35 + 4 * 0 + 1) = 10 from by decide]; unfold vis; omega
  · rw [show cmk (35 + 4 * 1 + 1) = 38 from by decide]; unfold vis; omega
  · rw [show cmk (35 + 4 * 0 + 2) = 11 from by decide]; unfold vis; omega
  · rw [show cmk (35 + 4 * 1 + 2) = 39 from by decide]; unfold vis; omega
  · rw [show cmk (35 + 4 * 0 + 3) = 12 from by decide]; unfold vis; omega
  · rw [show cmk (35 + 4 * 1 + 3) = 40 from by decide]; unfold vis; omega
theorem cm_snt (hj : 0 ≤ j ∧ j < 6) : 7 + 71 * p + 28 * 0 + 16 + j = 3 + 71 * p + cmk (6 + j) ∧ vis (6 + j) := by
  unfold cmk vis; rw [if_neg (by omega), if_pos (by omega)]; omega
theorem cm_got (hj : 0 ≤ j ∧ j < 6) : 7 + 71 * p + 28 * 0 + 22 + j = 3 + 71 * p + cmk (12 + j) ∧ vis (12 + j) := by
  unfold cmk vis; rw [if_neg (by omega), if_neg (by omega), if_pos (by omega)]; omega
theorem Rel.rd {k x : Int} (h : Rel w N) (hp : 0 ≤ p ∧ p < 6) (hc : x = 3 + 71 * p + cmk k ∧ vis k) : w x = N (61 * p + k) := by rw [hc.1]; exact h.1 p k hp.1 hp.2 hc.2
theorem Rel.wr {k x : Int} (h : Rel w N) (hp : 0 ≤ p ∧ p < 6) (hc : x = 3 + 71 * p + cmk k ∧ vis k) : Rel (up w x v) (up N (61 * p + k) v) := h.u hp hc.2 hc.1
end RL
/-- a side of a pair: where it stands -/
def SdA (sh : aSh) (iv : aF) (rv : aP) (i wd : Nat) (p q : Int) : Prop := sh[i]? = some (3, 9) ∧ rv i 0 = some wd ∧ sh[wd]? = some (0, 429) ∧ i ≠ wd ∧ iv i 1 = 7 + 71 * p + 28 * q ∧ (0 ≤ p ∧ p < 6) ∧ (q = 0 ∨ q = 1)
section C1
variable {d i wd : Nat} {sh : aSh} {iv lw : aF} {rv : aP} {w N : Int → Int} {R : aPost} {p q W Of : Int}
theorem SdA.at (hA : SdA sh iv rv i wd p q) (f : Int → Int) : uA iv wd f i 1 = 7 + 71 * p + 28 * q := by
  rw [uA_n hA.2.2.2.1]; exact hA.2.2.2.2.1
theorem c_seq (hA : SdA sh iv rv i wd p q) (hR : Rel w N) (k : R (some (aI (N (61 * p + (26 + q))))) sh (uA iv wd w) lw rv) : wp (d) mX9_seq 0 [some (aR i)] [] sh (uA iv wd w) lw rv 0 0 R := by
  have hat := hA.at
  have hp := hA.2.2.2.2.2.1
  have hq := hA.2.2.2.2.2.2
  refine wp_aload_n dX9_seq_0 rfl ?_
  refine wp_getR hA.2.1 dX9_seq_1 fX9_11 hA.1 ?_
  refine wp_aload_n dX9_seq_4 rfl ?_
  refine wp_getI dX9_seq_5 fX9_15 hA.1 ?_
  rw [hat]
  refine wp_iconst dX9_seq_8 ?_
  refine wp_iadd dX9_seq_9 ⟨by omega, by omega⟩ ?_
  refine wp_iald dX9_seq_10 hA.2.2.1 (by omega) (by omega) ?_
  rw [uA_s]
  rw [hR.rd hp (cm_seq hq)]
  refine wp_ireturn dX9_seq_11 rfl ?_
  exact k
theorem c_size (hA : SdA sh iv rv i wd p q) (hR : Rel w N) (k : R (some (aI (N (61 * p + mq q)))) sh (uA iv wd w) lw rv) : wp (d) mX9_size 0 [some (aR i)] [] sh (uA iv wd w) lw rv 0 0 R := by
  have hat := hA.at
  have hp := hA.2.2.2.2.2.1
  have hq := hA.2.2.2.2.2.2
  refine wp_aload_n dX9_size_0 rfl ?_
  refine wp_getR hA.2.1 dX9_size_1 fX9_11 hA.1 ?_
  refine wp_aload_n dX9_size_4 rfl ?_
  refine wp_getI dX9_size_5 fX9_15 hA.1 ?_
  rw [hat]
  refine wp_bipush dX9_size_8 ?_
  refine wp_iadd dX9_size_10 ⟨by omega, by omega⟩ ?_
  refine wp_iald dX9_size_11 hA.2.2.1 (by omega) (by omega) ?_
  rw [uA_s]
  rw [hR.rd hp (cm_mny hq)]
  refine wp_ireturn dX9_size_12 rfl ?_
  exact k
theorem c_stopWaiting (hA : SdA sh iv rv i wd p q) (hR : Rel w N) (k : ∀ w', Rel w' (stoF N p q) → R none sh (uA iv wd w') lw rv) : wp (d) mX9_stopWaiting 0 [some (aR i)] [] sh (uA iv wd w) lw rv 0 0 R := by
  have hat := hA.at
  have hp := hA.2.2.2.2.2.1
  have hq := hA.2.2.2.2.2.2
  refine wp_aload_n dX9_stopWaiting_0 rfl ?_
  refine wp_getR hA.2.1 dX9_stopWaiting_1 fX9_11 hA.1 ?_
  refine wp_aload_n dX9_stopWaiting_4 rfl ?_
  refine wp_getI dX9_stopWaiting_5 fX9_15 hA.1 ?_
  rw [hat]
  refine wp_iconst dX9_stopWaiting_8 ?_
  refine wp_iadd dX9_stopWaiting_9 ⟨by omega, by omega⟩ ?_
  refine wp_iconst dX9_stopWaiting_10 ?_
  refine wp_iast dX9_stopWaiting_11 hA.2.2.1 (by omega) (by omega) ?_
  rw [uI_eq, uA_s, uA_uA]
  refine wp_aload_n dX9_stopWaiting_12 rfl ?_
  refine wp_getR hA.2.1 dX9_stopWaiting_13 fX9_11 hA.1 ?_
  refine wp_aload_n dX9_stopWaiting_16 rfl ?_
  refine wp_getI dX9_stopWaiting_17 fX9_15 hA.1 ?_
  rw [hat]
  refine wp_iconst dX9_stopWaiting_20 ?_
  refine wp_iadd dX9_stopWaiting_21 ⟨by omega, by omega⟩ ?_
  refine wp_iconst dX9_stopWaiting_22 ?_
  refine wp_iast dX9_stopWaiting_23 hA.2.2.1 (by omega) (by omega) ?_
  rw [uI_eq, uA_s, uA_uA]
  refine wp_return dX9_stopWaiting_24 rfl ?_
  exact k _ ((hR.wr hp (cm_wai hq)).wr hp (cm_pmn hq))
theorem c_clearTable (hA : SdA sh iv rv i wd p q) (hR : Rel w N) (k : ∀ w', Rel w' (clrF N p q) → R none sh (uA iv wd w') lw rv) : wp (d) mX9_clearTable 0 [some (aR i)] [] sh (uA iv wd w) lw rv 0 0 R := by
  have hat := hA.at
  have hp := hA.2.2.2.2.2.1
  have hq := hA.2.2.2.2.2.2
  refine wp_aload_n dX9_clearTable_0 rfl ?_
  refine wp_getR hA.2.1 dX9_clearTable_1 fX9_11 hA.1 ?_
  refine wp_aload_n dX9_clearTable_4 rfl ?_
  refine wp_getI dX9_clearTable_5 fX9_15 hA.1 ?_
  rw [hat]
  refine wp_bipush dX9_clearTable_8 ?_
  refine wp_iadd dX9_clearTable_10 ⟨by omega, by omega⟩ ?_
  refine wp_iconst dX9_clearTable_11 ?_
  refine wp_iast dX9_clearTable_12 hA.2.2.1 (by omega) (by omega) ?_
  rw [uI_eq, uA_s, uA_uA]
  refine wp_aload_n dX9_clearTable_13 rfl ?_
  refine wp_getR hA.2.1 dX9_clearTable_14 fX9_11 hA.1 ?_
  refine wp_aload_n dX9_clearTable_17 rfl ?_
  refine wp_getI dX9_clearTable_18 fX9_15 hA.1 ?_
  rw [hat]
  refine wp_iconst dX9_clearTable_21 ?_
  refine wp_iadd dX9_clearTable_22 ⟨by omega, by omega⟩ ?_
  refine wp_iconst dX9_clearTable_23 ?_
  refine wp_iast dX9_clearTable_24 hA.2.2.1 (by omega) (by omega) ?_
  rw [uI_eq, uA_s, uA_uA]
  refine wp_return dX9_clearTable_25 rfl ?_
  exact k _ ((hR.wr hp (cm_mny hq)).wr hp (cm_seq hq))
theorem c_isWaiting (hA : SdA sh iv rv i wd p q) (hR : Rel w N) (kt : N (61 * p + (28 + q)) = 1 → R (some (aI 1)) sh (uA iv wd w) lw rv) (kf : ¬ N (61 * p + (28 + q)) = 1 → R (some (aI 0)) sh (uA iv wd w) lw rv) : wp (d) mX9_isWaiting 0 [some (aR i)] [] sh (uA iv wd w) lw rv 0 0 R := by
  have hat := hA.at
  have hp := hA.2.2.2.2.2.1
  have hq := hA.2.2.2.2.2.2
  refine wp_aload_n dX9_isWaiting_0 rfl ?_
  refine wp_getR hA.2.1 dX9_isWaiting_1 fX9_11 hA.1 ?_
  refine wp_aload_n dX9_isWaiting_4 rfl ?_
  refine wp_getI dX9_isWaiting_5 fX9_15 hA.1 ?_
  rw [hat]
  refine wp_iconst dX9_isWaiting_8 ?_
  refine wp_iadd dX9_isWaiting_9 ⟨by omega, by omega⟩ ?_
  refine wp_iald dX9_isWaiting_10 hA.2.2.1 (by omega) (by omega) ?_
  rw [uA_s]
  rw [hR.rd hp (cm_wai hq)]
  refine wp_iconst dX9_isWaiting_11 ?_
  refine wp_icmp_ne (tgt := 19) dX9_isWaiting_12 rfl (fun h12 => ?_) (fun h12 => ?_)
  · refine wp_iconst dX9_isWaiting_19 ?_
    refine wp_zreturn dX9_isWaiting_20 rfl (Or.inl rfl) ?_
    exact kf (by assumption)
  · refine wp_iconst dX9_isWaiting_15 ?_
    refine wp_goto (tgt := 20) dX9_isWaiting_16 rfl ?_
    refine wp_zreturn dX9_isWaiting_20 rfl (Or.inr rfl) ?_
    exact kt (by assumption)
theorem l_placeOf {c n : Int} (hA : SdA sh iv rv i wd p q) (hR : Rel w N) (hn : n ≤ 6) (m : Nat) : ∀ j : Int, 0 ≤ j → j + m = n → R (some (aI (fnd N p (bq q) c m j))) sh (uA iv wd w) lw rv → wp (d) mX9_placeOf 15 [some (aR i), some (aI c), some (aI n), some (aI j)] [] sh (uA iv wd w) lw rv 0 0 R := by
  have hat := hA.at
  have hp := hA.2.2.2.2.2.1
  have hq := hA.2.2.2.2.2.2
  induction m with
  | zero =>
    intro j h0 hm k
    refine wp_iload_n dX9_placeOf_15 rfl ?_
    refine wp_iload_n dX9_placeOf_16 rfl ?_
    refine wp_icmp_ge (tgt := 46) dX9_placeOf_17 rfl (fun h17 => ?_) (fun h17 => by exfalso; omega)
    refine wp_iconst dX9_placeOf_46 ?_
    refine wp_ireturn dX9_placeOf_47 rfl ?_
    exact k
  | succ m ih =>
    intro j h0 hm k
    refine wp_iload_n dX9_placeOf_15 rfl ?_
    refine wp_iload_n dX9_placeOf_16 rfl ?_
    refine wp_icmp_ge (tgt := 46) dX9_placeOf_17 rfl (fun h17 => by exfalso; omega) (fun h17 => ?_)
    refine wp_aload_n dX9_placeOf_20 rfl ?_
    refine wp_getR hA.2.1 dX9_placeOf_21 fX9_11 hA.1 ?_
    refine wp_aload_n dX9_placeOf_24 rfl ?_
    refine wp_getI dX9_placeOf_25 fX9_15 hA.1 ?_
    rw [hat]
    refine wp_bipush dX9_placeOf_28 ?_
    refine wp_iadd dX9_placeOf_30 ⟨by omega, by omega⟩ ?_
    refine wp_iload_n dX9_placeOf_31 rfl ?_
    refine wp_iadd dX9_placeOf_32 ⟨by omega, by omega⟩ ?_
    refine wp_iald dX9_placeOf_33 hA.2.2.1 (by omega) (by omega) ?_
    rw [uA_s]
    rw [hR.rd hp (cm_cel hq (by omega))]
    refine wp_iload_n dX9_placeOf_34 rfl ?_
    refine wp_icmp_ne (tgt := 40) dX9_placeOf_35 rfl (fun h35 => ?_) (fun h35 => ?_)
    · refine wp_iinc (ls' := [_, _, _, _]) dX9_placeOf_40 (by decide) rfl rfl ⟨by omega, by omega⟩ rfl ?_
      refine wp_goto (tgt := 15) dX9_placeOf_43 rfl ?_
      exact ih _ (by omega) (by omega) (by rw [fnd, if_neg h35] at k; exact k)
    · refine wp_iload_n dX9_placeOf_38 rfl ?_
      refine wp_ireturn dX9_placeOf_39 rfl ?_
      rw [fnd, if_pos h35] at k; exact k
theorem c_placeOf {c : Int} (hA : SdA sh iv rv i wd p q) (hR : Rel w N) (hB : Bok W Of N) (k : R (some (aI (plc N p q c))) sh (uA iv wd w) lw rv) : wp (d) mX9_placeOf 0 [some (aR i), some (aI c), none, none] [] sh (uA iv wd w) lw rv 0 0 R := by
  have hat := hA.at
  have hp := hA.2.2.2.2.2.1
  have hq := hA.2.2.2.2.2.2
  have hm := hB.mny hp hq
  refine wp_aload_n dX9_placeOf_0 rfl ?_
  refine wp_getR hA.2.1 dX9_placeOf_1 fX9_11 hA.1 ?_
  refine wp_aload_n dX9_placeOf_4 rfl ?_
  refine wp_getI dX9_placeOf_5 fX9_15 hA.1 ?_
  rw [hat]
  refine wp_bipush dX9_placeOf_8 ?_
  refine wp_iadd dX9_placeOf_10 ⟨by omega, by omega⟩ ?_
  
  refine wp_iald dX9_placeOf_11 hA.2.2.1 (by omega) (by omega) ?_
  rw [uA_s]
  rw [hR.rd hp (cm_mny hq)]
  refine wp_istore_n (ls' := [_, _, _, _]) dX9_placeOf_12 (by decide) rfl rfl ?_
  refine wp_iconst dX9_placeOf_13 ?_
  refine wp_istore_n (ls' := [_, _, _, _]) dX9_placeOf_14 (by decide) rfl rfl ?_
  exact l_placeOf hA hR hm.2 _ 0 (by omega) (by omega) k
theorem c_shift {a b : Int} (hA : SdA sh iv rv i wd p q) (hR : Rel w N) (ha : 0 ≤ a ∧ a < 6) (hb : 0 ≤ b ∧ b < 6) (k : ∀ w', Rel w' (sh3 N p q a b) → R none sh (uA iv wd w') lw rv) : wp (d) mX9_shift 0 [some (aR i), some (aI a), some (aI b)] [] sh (uA iv wd w) lw rv 0 0 R := by
  have hat := hA.at
  have hp := hA.2.2.2.2.2.1
  have hq := hA.2.2.2.2.2.2
  refine wp_aload_n dX9_shift_0 rfl ?_
  refine wp_getR hA.2.1 dX9_shift_1 fX9_11 hA.1 ?_
  refine wp_aload_n dX9_shift_4 rfl ?_
  refine wp_getI dX9_shift_5 fX9_15 hA.1 ?_
  rw [hat]
  refine wp_bipush dX9_shift_8 ?_
  refine wp_iadd dX9_shift_10 ⟨by omega, by omega⟩ ?_
  refine wp_iload_n dX9_shift_11 rfl ?_
  refine wp_iadd dX9_shift_12 ⟨by omega, by omega⟩ ?_
  refine wp_aload_n dX9_shift_13 rfl ?_
  refine wp_getR hA.2.1 dX9_shift_14 fX9_11 hA.1 ?_
  refine wp_aload_n dX9_shift_17 rfl ?_
  refine wp_getI dX9_shift_18 fX9_15 hA.1 ?_
  rw [hat]
  refine wp_bipush dX9_shift_21 ?_
  refine wp_iadd dX9_shift_23 ⟨by omega, by omega⟩ ?_
  refine wp_iload_n dX9_shift_24 rfl ?_
  refine wp_iadd dX9_shift_25 ⟨by omega, by omega⟩ ?_
  refine wp_iald dX9_shift_26 hA.2.2.1 (by omega) (by omega) ?_
  rw [uA_s]
  refine wp_iast dX9_shift_27 hA.2.2.1 (by omega) (by omega) ?_
  rw [uI_eq, uA_s, uA_uA]
  refine wp_aload_n dX9_shift_28 rfl ?_
  refine wp_getR hA.2.1 dX9_shift_29 fX9_11 hA.1 ?_
  refine wp_aload_n dX9_shift_32 rfl ?_
  refine wp_getI dX9_shift_33 fX9_15 hA.1 ?_
  rw [hat]
  refine wp_bipush dX9_shift_36 ?_
  refine wp_iadd dX9_shift_38 ⟨by omega, by omega⟩ ?_
  refine wp_iload_n dX9_shift_39 rfl ?_
  refine wp_iadd dX9_shift_40 ⟨by omega, by omega⟩ ?_
  refine wp_aload_n dX9_shift_41 rfl ?_
  refine wp_getR hA.2.1 dX9_shift_42 fX9_11 hA.1 ?_
  refine wp_aload_n dX9_shift_45 rfl ?_
  refine wp_getI dX9_shift_46 fX9_15 hA.1 ?_
  rw [hat]
  refine wp_bipush dX9_shift_49 ?_
  refine wp_iadd dX9_shift_51 ⟨by omega, by omega⟩ ?_
  refine wp_iload_n dX9_shift_52 rfl ?_
  refine wp_iadd dX9_shift_53 ⟨by omega, by omega⟩ ?_
  refine wp_iald dX9_shift_54 hA.2.2.1 (by omega) (by omega) ?_
  rw [uA_s]
  refine wp_iast dX9_shift_55 hA.2.2.1 (by omega) (by omega) ?_
  rw [uI_eq, uA_s, uA_uA]
  refine wp_aload_n dX9_shift_56 rfl ?_
  refine wp_getR hA.2.1 dX9_shift_57 fX9_11 hA.1 ?_
  refine wp_aload_n dX9_shift_60 rfl ?_
  refine wp_getI dX9_shift_61 fX9_15 hA.1 ?_
  rw [hat]
  refine wp_bipush dX9_shift_64 ?_
  refine wp_iadd dX9_shift_66 ⟨by omega, by omega⟩ ?_
  refine wp_iload_n dX9_shift_67 rfl ?_
  refine wp_iadd dX9_shift_68 ⟨by omega, by omega⟩ ?_
  refine wp_aload_n dX9_shift_69 rfl ?_
  refine wp_getR hA.2.1 dX9_shift_70 fX9_11 hA.1 ?_
  refine wp_aload_n dX9_shift_73 rfl ?_
  refine wp_getI dX9_shift_74 fX9_15 hA.1 ?_
  rw [hat]
  refine wp_bipush dX9_shift_77 ?_
  refine wp_iadd dX9_shift_79 ⟨by omega, by omega⟩ ?_
  refine wp_iload_n dX9_shift_80 rfl ?_
  refine wp_iadd dX9_shift_81 ⟨by omega, by omega⟩ ?_
  refine wp_iald dX9_shift_82 hA.2.2.1 (by omega) (by omega) ?_
  rw [uA_s]
  refine wp_iast dX9_shift_83 hA.2.2.1 (by omega) (by omega) ?_
  rw [uI_eq, uA_s, uA_uA]
  refine wp_return dX9_shift_84 rfl ?_
  refine k _ ?_
  unfold sh3
  rcases hq with rfl | rfl
  · rw [if_pos rfl]
    have e1 := hR.rd hp (cm_cel (q := 0) (p := p) (j := a) (Or.inl rfl) ha)
    rw [bq0] at e1
    have r1 : Rel _ (sh1 N p 0 a b) := hR.wr (v := N (61 * p + (0 + a))) hp (cm_cel (q := 0) (j := b) (Or.inl rfl) hb)
    have e2 := r1.rd hp (cm_snt (p := p) (j := a) ha)
    have r2 : Rel _ (sh1 (sh1 N p 0 a b) p 6 a b) := r1.wr (v := sh1 N p 0 a b (61 * p + (6 + a))) hp (cm_snt (j := b) hb)
    have e3 := r2.rd hp (cm_got (p := p) (j := a) ha)
    have r3 : Rel _ (sh1 (sh1 (sh1 N p 0 a b) p 6 a b) p 12 a b) := r2.wr (v := sh1 (sh1 N p 0 a b) p 6 a b (61 * p + (12 + a))) hp (cm_got (j := b) hb)
    rw [e1, e2, e3]
    exact r3
  · rw [if_neg (by decide)]
    have e1 := hR.rd hp (cm_cel (q := 1) (p := p) (j := a) (Or.inr rfl) ha)
    rw [bq1] at e1
    have r1 : Rel _ (sh1 N p 19 a b) := hR.wr (v := N (61 * p + (19 + a))) hp (cm_cel (q := 1) (j := b) (Or.inr rfl) hb)
    rw [e1]
    exact (r1.inv (by omega) (by rw [show 7 + 71 * p + 28 * 1 + 16 + b = 3 + 71 * p + (48 + b) by omega]; exact hid hp (by omega))).inv (by omega) (by rw [show 7 + 71 * p + 28 * 1 + 22 + b = 3 + 71 * p + (54 + b) by omega]; exact hid hp (by omega))
end C1
