def Prm (iv : aF) (F : Int → Int) : Prop := 4 ≤ iv 5 0 ∧ iv 5 0 ≤ 16 ∧ 1 ≤ iv 5 1 ∧ iv 5 1 ≤ 4 ∧ 2 ≤ iv 5 2 ∧ iv 5 2 ≤ 9 ∧ 2 ≤ iv 5 3 ∧ iv 5 3 ≤ 9 ∧ 0 ≤ F 13 ∧ F 13 ≤ 6
def Lf (L : List Int) : Int → Int := fun j => L.getD j.toNat 0
noncomputable def offs (Q : Int → Prop) (W Of p fr : Int) : Nat → Int → List Int
  | 0, _ => []
  | m + 1, k => @ite _ (Q ((fr + k) % W)) (Classical.propDecidable _) (offs Q W Of p fr m (k + 1)) ((10 * ((fr + k) % W) + ((fr + k) % W + p) % Of) :: offs Q W Of p fr m (k + 1))
theorem offs_t {Q : Int → Prop} {W Of p fr k : Int} {m : Nat} (h : Q ((fr + k) % W)) : offs Q W Of p fr (m + 1) k = offs Q W Of p fr m (k + 1) := by rw [offs, if_pos h]
theorem offs_f {Q : Int → Prop} {W Of p fr k : Int} {m : Nat} (h : ¬ Q ((fr + k) % W)) : offs Q W Of p fr (m + 1) k = (10 * ((fr + k) % W) + ((fr + k) % W + p) % Of) :: offs Q W Of p fr m (k + 1) := by rw [offs, if_neg h]
theorem offs_len {Q : Int → Prop} {W Of p fr : Int} (m : Nat) : ∀ k : Int, (offs Q W Of p fr m k).length ≤ m := by
  induction m with
  | zero => intro k; exact Nat.le_refl _
  | succ m ih =>
    intro k
    have := ih (k + 1)
    by_cases h : Q ((fr + k) % W)
    · rw [offs_t h]; omega
    · rw [offs_f h, List.length_cons]; omega
theorem offs_vc {Q : Int → Prop} {W Of p fr : Int} (hW : 0 < W) (hO : 0 < Of ∧ Of ≤ 10) (m : Nat) : ∀ (k : Int) (x : Int), x ∈ offs Q W Of p fr m k → Vc W Of x := by
  induction m with
  | zero => intro k x hx; cases hx
  | succ m ih =>
    intro k x hx
    by_cases h : Q ((fr + k) % W)
    · rw [offs_t h] at hx; exact ih _ _ hx
    · rw [offs_f h] at hx
      rcases List.mem_cons.mp hx with rfl | hx
      · have a1 := Int.emod_nonneg (fr + k) (by omega : W ≠ 0)
        have a2 := Int.emod_lt_of_pos (fr + k) hW
        have b1 := Int.emod_nonneg ((fr + k) % W + p) (by omega : Of ≠ 0)
        have b2 := Int.emod_lt_of_pos ((fr + k) % W + p) hO.1
        generalize (fr + k) % W = s at *
        generalize (s + p) % Of = r at *
        exact ⟨by omega, by omega, by omega⟩
      · exact ih _ _ hx
theorem Lf_vc {W Of : Int} {L : List Int} (h : ∀ x ∈ L, Vc W Of x) {j : Int} (h0 : 0 ≤ j) (h1 : j < L.length) : Vc W Of (Lf L j) := by
  unfold Lf
  have hj : j.toNat < L.length := by omega
  have := h _ (List.getElem_mem hj)
  simpa [List.getD, hj] using this
/-- the offers of a node for a pair from a slot on -/
noncomputable def ofr (iv : aF) (F N : Int → Int) (p nd fr : Int) : List Int := offs (Tkn N (iv 6) (F 13) nd) (iv 5 0) (iv 5 1) p fr (iv 5 0).toNat 0
theorem ofr_vc {iv : aF} {F N : Int → Int} {p nd fr : Int} (hP : Prm iv F) : ∀ x ∈ ofr iv F N p nd fr, Vc (iv 5 0) (iv 5 1) x := by
  obtain ⟨hW1, hW2, hO1, hO2, hT1, hT2, hI1, hI2, hF1, hF2⟩ := id hP
  exact offs_vc (by omega) (by omega) _ _
theorem ofr_len {iv : aF} {F N : Int → Int} {p nd fr : Int} (hP : Prm iv F) : ((ofr iv F N p nd fr).length : Int) ≤ 16 := by
  obtain ⟨hW1, hW2, hO1, hO2, hT1, hT2, hI1, hI2, hF1, hF2⟩ := id hP
  have := offs_len (Q := Tkn N (iv 6) (F 13) nd) (W := iv 5 0) (Of := iv 5 1) (p := p) (fr := fr) (iv 5 0).toNat 0
  unfold ofr; omega
section R5
variable {d : Nat} {iv lw : aF} {F N G O T S : Int → Int} {R : aPost}
theorem l_layOffers {p nd fr : Int} (hp : 0 ≤ p ∧ p < 6) (hP : Prm iv F) (hB : Bok (iv 5 0) (iv 5 1) N) (hfr : 0 ≤ fr ∧ fr ≤ 20) (m : Nat) : ∀ (n kk : Int) (O : Int → Int) (vs : Option aV), 0 ≤ n → n ≤ kk → kk + m = iv 5 0 → (∀ O', (∀ j : Int, 0 ≤ j → j < n → O' j = O j) → (∀ j : Int, 0 ≤ j → j < ((offs (Tkn N (iv 6) (F 13) nd) (iv 5 0) (iv 5 1) p fr m kk).length : Int) → O' (n + j) = Lf (offs (Tkn N (iv 6) (F 13) nd) (iv 5 0) (iv 5 1) p fr m kk) j) → R (some (aI (n + ((offs (Tkn N (iv 6) (F 13) nd) (iv 5 0) (iv 5 1) p fr m kk).length : Int)))) SHR (ST iv F N G O' T S) lw RVR) → wp (d + 3) mX12_layOffers 6 [some (aR 0), some (aI p), some (aI nd), some (aI fr), some (aI n), some (aI kk), vs] [] SHR (ST iv F N G O T S) lw RVR 0 0 R := by
  obtain ⟨hW1, hW2, hO1, hO2, hT1, hT2, hI1, hI2, hF1, hF2⟩ := id hP
  have hok := hB.tk hF2
  induction m with
  | zero =>
    intro n kk O vs h1 h2 h3 k
    refine wp_iload dX12_layOffers_6 rfl ?_
    refine wp_aload_n dX12_layOffers_8 rfl ?_
    refine wp_getR rfl dX12_layOffers_9 fX12_22 rfl ?_
    refine wp_iconst dX12_layOffers_12 ?_
    refine wp_iald dX12_layOffers_13 rfl (by omega) (by omega) ?_
    try simp only [ST0, ST5, ST6, ST7, ST8, ST10, ST11, ST12, ST13]
    refine wp_icmp_ge (tgt := 73) dX12_layOffers_14 rfl (fun h14 => ?_) (fun h14 => by exfalso; omega)
    refine wp_iload dX12_layOffers_73 rfl ?_
    refine wp_ireturn dX12_layOffers_75 rfl ?_
    have := k O (fun _ _ _ => rfl) (fun j a b => by simp [offs] at b; omega)
    simpa [offs] using this
  | succ m ih =>
    intro n kk O vs h1 h2 h3 k
    have a1 := Int.emod_nonneg (fr + kk) (by omega : iv 5 0 ≠ 0)
    have a2 := Int.emod_lt_of_pos (fr + kk) (by omega : 0 < iv 5 0)
    have b1 := Int.emod_nonneg ((fr + kk) % iv 5 0 + p) (by omega : iv 5 1 ≠ 0)
    have b2 := Int.emod_lt_of_pos ((fr + kk) % iv 5 0 + p) (by omega : 0 < iv 5 1)
    refine wp_iload dX12_layOffers_6 rfl ?_
    refine wp_aload_n dX12_layOffers_8 rfl ?_
    refine wp_getR rfl dX12_layOffers_9 fX12_22 rfl ?_
    refine wp_iconst dX12_layOffers_12 ?_
    refine wp_iald dX12_layOffers_13 rfl (by omega) (by omega) ?_
    try simp only [ST0, ST5, ST6, ST7, ST8, ST10, ST11, ST12, ST13]
    refine wp_icmp_ge (tgt := 73) dX12_layOffers_14 rfl (fun h14 => by exfalso; omega) (fun h14 => ?_)
    refine wp_iload_n dX12_layOffers_17 rfl ?_
    refine wp_iload dX12_layOffers_18 rfl ?_
    refine wp_iadd dX12_layOffers_20 ⟨by omega, by omega⟩ ?_
    refine wp_aload_n dX12_layOffers_21 rfl ?_
    refine wp_getR rfl dX12_layOffers_22 fX12_22 rfl ?_
    refine wp_iconst dX12_layOffers_25 ?_
    refine wp_iald dX12_layOffers_26 rfl (by omega) (by omega) ?_
    try simp only [ST0, ST5, ST6, ST7, ST8, ST10, ST11, ST12, ST13]
    refine wp_irem dX12_layOffers_27 (by omega) (by omega) ?_
    refine wp_istore (ls' := [_, _, _, _, _, _, _]) dX12_layOffers_28 (by decide) rfl rfl ?_
    refine wp_aload_n dX12_layOffers_30 rfl ?_
    refine wp_iload_n dX12_layOffers_31 rfl ?_
    refine wp_iload dX12_layOffers_32 rfl ?_
    refine wp_callV (as := [_, _]) (ls0 := [_, _, _, _, _, _, _]) (kc := 0) (ks := 0) (bc' := 0) (bs' := 0) dX12_layOffers_34 vX12_181 rfl rfl rfl (Nat.le_of_ble_eq_true rfl) (Nat.le_of_ble_eq_true rfl) (by omega) (by omega) ?_
    refine s_isTaken hok ⟨hF1, hF2⟩ (fun h34 => ?_) (fun h34 => ?_)
    · refine wp_if_ne (tgt := 67) dX12_layOffers_37 rfl (fun _ => ?_) (fun q => absurd q (by decide))
      refine wp_iinc (ls' := [_, _, _, _, _, _, _]) dX12_layOffers_67 (by decide) rfl rfl ⟨by omega, by omega⟩ rfl ?_
      refine wp_goto (tgt := 6) dX12_layOffers_70 rfl ?_
      first
      | exact ih _ _ _ _ (by omega) (by omega) (by omega) (fun O' g1 g2 => by rw [offs_t h34] at k; exact k O' g1 g2)
      | refine ih _ _ _ _ (by omega) (by omega) (by omega) (fun O' g1 g2 => ?_)
        rw [offs_f h34] at k
        have hk := k O' (fun j a b => by rw [g1 j a (by omega), up_n (by omega)]) (fun j a b => by
          by_cases e : j = 0
          · subst e; rw [Int.add_zero, g1 n (by omega) (by omega), up_s]; rfl
          · have := g2 (j - 1) (by omega) (by rw [List.length_cons] at b; omega)
            rw [show n + j = n + 1 + (j - 1) by omega, this]
            unfold Lf
            rw [show j.toNat = (j - 1).toNat + 1 by omega]
            rfl)
        rw [List.length_cons] at hk
        rw [show n + 1 + ((offs (Tkn N (iv 6) (F 13) nd) (iv 5 0) (iv 5 1) p fr m (kk + 1)).length : Int) = n + (((offs (Tkn N (iv 6) (F 13) nd) (iv 5 0) (iv 5 1) p fr m (kk + 1)).length + 1 : Nat) : Int) by omega]
        exact hk
    · refine wp_if_ne (tgt := 67) dX12_layOffers_37 rfl (fun q => absurd q (by decide)) (fun _ => ?_)
      refine wp_aload_n dX12_layOffers_40 rfl ?_
      refine wp_getR rfl dX12_layOffers_41 fX12_44 rfl ?_
      refine wp_iload dX12_layOffers_44 rfl ?_
      refine wp_bipush dX12_layOffers_46 ?_
      refine wp_iload dX12_layOffers_48 rfl ?_
      refine wp_imul dX12_layOffers_50 ⟨by omega, by omega⟩ ?_
      refine wp_iload dX12_layOffers_51 rfl ?_
      refine wp_iload_n dX12_layOffers_53 rfl ?_
      refine wp_iadd dX12_layOffers_54 ⟨by omega, by omega⟩ ?_
      refine wp_aload_n dX12_layOffers_55 rfl ?_
      refine wp_getR rfl dX12_layOffers_56 fX12_22 rfl ?_
      refine wp_iconst dX12_layOffers_59 ?_
      refine wp_iald dX12_layOffers_60 rfl (by omega) (by omega) ?_
      try simp only [ST0, ST5, ST6, ST7, ST8, ST10, ST11, ST12, ST13]
      refine wp_irem dX12_layOffers_61 (by omega) (by omega) ?_
      refine wp_iadd dX12_layOffers_62 ⟨by omega, by omega⟩ ?_
      refine wp_iast dX12_layOffers_63 rfl (by omega) (by omega) ?_
      try simp only [STu0, STu8, STu10, STu11, STu12, STu13]
      refine wp_iinc (ls' := [_, _, _, _, _, _, _]) dX12_layOffers_64 (by decide) rfl rfl ⟨by omega, by omega⟩ rfl ?_
      refine wp_iinc (ls' := [_, _, _, _, _, _, _]) dX12_layOffers_67 (by decide) rfl rfl ⟨by omega, by omega⟩ rfl ?_
      refine wp_goto (tgt := 6) dX12_layOffers_70 rfl ?_
      first
      | exact ih _ _ _ _ (by omega) (by omega) (by omega) (fun O' g1 g2 => by rw [offs_t h34] at k; exact k O' g1 g2)
      | refine ih _ _ _ _ (by omega) (by omega) (by omega) (fun O' g1 g2 => ?_)
        rw [offs_f h34] at k
        have hk := k O' (fun j a b => by rw [g1 j a (by omega), up_n (by omega)]) (fun j a b => by
          by_cases e : j = 0
          · subst e; rw [Int.add_zero, g1 n (by omega) (by omega), up_s]; rfl
          · have := g2 (j - 1) (by omega) (by rw [List.length_cons] at b; omega)
            rw [show n + j = n + 1 + (j - 1) by omega, this]
            unfold Lf
            rw [show j.toNat = (j - 1).toNat + 1 by omega]
            rfl)
        rw [List.length_cons] at hk
        rw [show n + 1 + ((offs (Tkn N (iv 6) (F 13) nd) (iv 5 0) (iv 5 1) p fr m (kk + 1)).length : Int) = n + (((offs (Tkn N (iv 6) (F 13) nd) (iv 5 0) (iv 5 1) p fr m (kk + 1)).length + 1 : Nat) : Int) by omega]
        exact hk
theorem s_layOffers {p nd fr : Int} (hp : 0 ≤ p ∧ p < 6) (hP : Prm iv F) (hB : Bok (iv 5 0) (iv 5 1) N) (hfr : 0 ≤ fr ∧ fr ≤ 20) (k : ∀ O', (∀ j : Int, 0 ≤ j → j < ((ofr iv F N p nd fr).length : Int) → O' j = Lf (ofr iv F N p nd fr) j) → R (some (aI ((ofr iv F N p nd fr).length : Int))) SHR (ST iv F N G O' T S) lw RVR) : wp (d + 3) mX12_layOffers 0 [some (aR 0), some (aI p), some (aI nd), some (aI fr), none, none, none] [] SHR (ST iv F N G O T S) lw RVR 0 0 R := by
  obtain ⟨hW1, hW2, hO1, hO2, hT1, hT2, hI1, hI2, hF1, hF2⟩ := id hP
  refine wp_iconst dX12_layOffers_0 ?_
  refine wp_istore (ls' := [_, _, _, _, _, _, _]) dX12_layOffers_1 (by decide) rfl rfl ?_
  refine wp_iconst dX12_layOffers_3 ?_
  refine wp_istore (ls' := [_, _, _, _, _, _, _]) dX12_layOffers_4 (by decide) rfl rfl ?_
  refine l_layOffers hp hP hB hfr (iv 5 0).toNat 0 0 O _ (by omega) (by omega) (by omega) (fun O' g1 g2 => ?_)
  have := k O' (fun j a b => by have := g2 j a b; rwa [Int.zero_add] at this)
  rw [Int.zero_add]
  exact this
end R5
