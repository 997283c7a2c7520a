noncomputable def livF (iv : aF) (F N : Int → Int) : Int → Int :=
  up (if (N 368 + 1) % iv 5 3 = 0 then wnL iv F (F 13).toNat 0 (s2L iv F (quL (F 13).toNat 0 (toL (iv 5 2) (F 13).toNat 0 (rdL iv F (F 13).toNat 0 N))) (F 13).toNat 0 (quL (F 13).toNat 0 (toL (iv 5 2) (F 13).toNat 0 (rdL iv F (F 13).toNat 0 N))))
    else s2L iv F (quL (F 13).toNat 0 (toL (iv 5 2) (F 13).toNat 0 (rdL iv F (F 13).toNat 0 N))) (F 13).toNat 0 (quL (F 13).toNat 0 (toL (iv 5 2) (F 13).toNat 0 (rdL iv F (F 13).toNat 0 N)))) 368 (N 368 + 1)
section D16
variable {iv : aF} {F F' N : Int → Int}
theorem ofr_13 {p nd fr : Int} (h : F' 13 = F 13) : ofr iv F' N p nd fr = ofr iv F N p nd fr := by unfold ofr; rw [h]
theorem bgo_13 {p kd n : Int} (h : F' 13 = F 13) : bgo iv F' N p kd n = bgo iv F N p kd n := by unfold bgo; rw [ofr_13 h, ofr_13 h]
theorem mny_13 {p kd n : Int} (h : F' 13 = F 13) : mny iv F' N p kd n = mny iv F N p kd n := by unfold mny mnm; rw [bgo_13 h]
theorem begF_13 {p kd n : Int} (h : F' 13 = F 13) : begF iv F' N p kd n = begF iv F N p kd n := by unfold begF; rw [bgo_13 h, mny_13 h]
theorem wnF_13 {p : Int} (h : F' 13 = F 13) : wnF iv F' N p = wnF iv F N p := by unfold wnF; rw [begF_13 h, begF_13 h, begF_13 h]
theorem wnL_13 (h : F' 13 = F 13) (m : Nat) : ∀ (p : Int) (N : Int → Int), wnL iv F' m p N = wnL iv F m p N := by
  induction m with
  | zero => intro p N; rfl
  | succ m ih => intro p N; rw [wnL, wnL, wnF_13 h, ih]
theorem Got_14 {S : Int → Int} {p : Int} (h : F' 13 = F 13) (h2 : F' 14 = F 14) : Got iv F' N S p = Got iv F N S p := by funext c; unfold Got chn; rw [h, h2]
theorem gtn_14 {p : Int} (h : F' 13 = F 13) (h2 : F' 14 = F 14) : gtn iv F' N p = gtn iv F N p := by unfold gtn; rw [Got_14 h h2]
theorem gtA_14 (h : F' 13 = F 13) (h2 : F' 14 = F 14) (m : Nat) : ∀ p : Int, gtA iv F' N m p = gtA iv F N m p := by
  induction m with
  | zero => intro p; rfl
  | succ m ih => intro p; rw [gtA, gtA, gtn_14 h h2, ih]
theorem s2L_14 {N1 : Int → Int} (h : F' 13 = F 13) (h2 : F' 14 = F 14) (m : Nat) : ∀ (p : Int) (N : Int → Int), s2L iv F' N1 m p N = s2L iv F N1 m p N := by
  induction m with
  | zero => intro p N; rfl
  | succ m ih => intro p N; rw [s2L, s2L, ih]; unfold s2P; rw [Got_14 h h2]
/-- letters: an answer OK to a move has both its cells, also behind the next deed -/
theorem LetOK.z {p : Int} (h : N (61 * p + 43) = 0 ∨ ¬ N (61 * p + 44) = 1 ∨ ¬ N (61 * p + 46) = 0 ∨ ¬ N (61 * p + 45) = 2) : LetOK N p := fun a b c e => by omega
theorem encF_k {p c k : Int} (hm : 0 ≤ N (61 * p + 48)) (h : k < 48 ∨ k = 49) : encF N p c (61 * p + k) = N (61 * p + k) := by
  unfold encF; rw [up_n (by omega), up_n (by omega)]
theorem encL_k {p k : Int} {f : Int → Int} (h : k < 48 ∨ k = 49) (m : Nat) : ∀ (i : Int) (N : Int → Int), 0 ≤ N (61 * p + 48) → encL p f m i N (61 * p + k) = N (61 * p + k) := by
  induction m with
  | zero => intro i N h0; rfl
  | succ m ih => intro i N h0; rw [encL, ih _ _ (by rw [encF_48]; omega), encF_k h0 h]
theorem delL_k {p k : Int} (h : k < 48 ∨ k = 49) (m : Nat) : ∀ (i : Int) (N : Int → Int), 0 ≤ N (61 * p + 48) → delL p m i N (61 * p + k) = N (61 * p + k) := by
  induction m with
  | zero => intro i N h0; rfl
  | succ m ih => intro i N h0; rw [delL, ih _ _ (by rw [encF_48]; omega), encF_k h0 h]
theorem prmL_k {p q k : Int} {f : Int → Int} (hq : q = 0 ∨ q = 1) (h : 43 ≤ k) (m : Nat) : ∀ (i : Int) (N : Int → Int), 0 ≤ i → i + m ≤ 4 → prmL p q f m i N (61 * p + k) = N (61 * p + k) := by
  induction m with
  | zero => intro i N h0 h1; rfl
  | succ m ih => intro i N h0 h1; rw [prmL, ih _ _ (by omega) (by omega), up_n (by omega)]
theorem prmF_k {p q n k : Int} {f : Int → Int} (hq : q = 0 ∨ q = 1) (hn : n ≤ 4) (h : 43 ≤ k) : prmF N p q n f (61 * p + k) = N (61 * p + k) := by
  unfold prmF; rw [prmL_k hq h _ _ _ (by omega) (by omega), up_n (by omega)]
theorem waiF_k {p q k : Int} (hq : q = 0 ∨ q = 1) (h : 32 ≤ k ∨ k < 28) : waiF N p q (61 * p + k) = N (61 * p + k) := by unfold waiF; rw [up_n (by omega), up_n (by omega)]
theorem wriF_44 {p so ki re as : Int} : wriF N p so ki re as (61 * p + 44) = so := by
  unfold wriF; rw [up_n (by omega), up_n (by omega), up_n (by omega), up_n (by omega), up_n (by omega), up_s]
theorem wriF_45 {p so ki re as : Int} : wriF N p so ki re as (61 * p + 45) = ki := by
  unfold wriF; rw [up_n (by omega), up_n (by omega), up_n (by omega), up_n (by omega), up_s]
theorem begF_44 {p kd n : Int} (hP : Prm iv F) (hs : 0 ≤ N (61 * p + 18)) (hn : 0 ≤ n ∧ n < 6) (hkd : 0 ≤ kd ∧ kd ≤ 3) (h03 : kd ≤ 1 → n ≤ 3) (h : ¬ mny iv F N p kd n = -1) : begF iv F N p kd n (61 * p + 44) = 0 := by
  have hmr := (mny_r (iv := iv) (F := F) (N := N) (p := p) (kd := kd) (n := n) hP hs (by omega) hkd).resolve_left h
  unfold begF
  rw [if_neg h, up_n (by omega), waiF_k (Or.inl rfl) (by omega)]
  by_cases e1 : kd = 1
  · rw [if_pos e1, delL_k (by omega) _ _ _ (by rw [wriF_48]; omega), wriF_44]
  · rw [if_neg e1, prmF_k (Or.inl rfl) (by omega) (by omega)]
    by_cases e2 : kd = 2
    · rw [if_pos e2, encL_k (by omega) _ _ _ (by rw [encF_48, wriF_48]; omega), encF_k (by rw [wriF_48]; omega) (by omega), wriF_44]
    · rw [if_neg e2, encL_k (by omega) _ _ _ (by rw [wriF_48]; omega), wriF_44]
theorem begF_let {p kd n : Int} (hP : Prm iv F) (hs : 0 ≤ N (61 * p + 18)) (hn : 0 ≤ n ∧ n < 6) (hkd : 0 ≤ kd ∧ kd ≤ 3) (h03 : kd ≤ 1 → n ≤ 3) (hl : LetOK N p) : LetOK (begF iv F N p kd n) p := by
  by_cases h : mny iv F N p kd n = -1
  · unfold begF; rw [if_pos h]; exact hl
  · exact LetOK.z (Or.inr (Or.inl (by rw [begF_44 hP hs hn hkd h03 h]; decide)))
end D16
section R16
variable {d : Nat} {iv lw : aF} {F N G O T S : Int → Int} {R : aPost}
theorem rdL_ok (hP : Prm iv F) (m : Nat) : ∀ (p : Int) (N : Int → Int), 0 ≤ p → p + m = F 13 → Bok (iv 5 0) (iv 5 1) N → (0 ≤ N 368 ∧ N 368 ≤ 20000) → (∀ a : Int, p ≤ a → a < F 13 → LetOK N a) → Bok (iv 5 0) (iv 5 1) (rdL iv F m p N) ∧ (∀ j : Int, 366 ≤ j → rdL iv F m p N j = N j) ∧ (∀ a k : Int, 57 ≤ k → k < 61 → rdL iv F m p N (61 * a + k) = N (61 * a + k)) := by
  obtain ⟨hW1, hW2, hO1, hO2, hT1, hT2, hI1, hI2, hF1, hF2⟩ := id hP
  induction m with
  | zero => intro p N h0 hm hB hfr hlt; exact ⟨hB, fun _ _ => rfl, fun _ _ _ _ => rfl⟩
  | succ m ih =>
    intro p N h0 hm hB hfr hlt
    have hp : 0 ≤ p ∧ p < 6 := ⟨h0, by omega⟩
    have h1 := rdP_ok hB hp hP hfr (hlt p (by omega) (by omega))
    have h2 := ih (p + 1) (rdP iv F N p) (by omega) (by omega) h1.1 (by rw [far_of h1.2 hp]; exact hfr) (fun a x y => (hlt a (by omega) y).loc h1.2 (by omega))
    exact ⟨h2.1, fun j hj => by rw [rdL, h2.2.1 j hj, h1.2 j (by omega)], fun a k x y => by rw [rdL, h2.2.2 a k x y, h1.2 _ (by omega)]⟩
theorem toL_ok {t : Int} (hF : F 13 ≤ 6) (m : Nat) : ∀ (p : Int) (N : Int → Int), 0 ≤ p → p + m = F 13 → Bok (iv 5 0) (iv 5 1) N → Bok (iv 5 0) (iv 5 1) (toL t m p N) ∧ (∀ j : Int, 366 ≤ j → toL t m p N j = N j) ∧ (∀ a k : Int, 57 ≤ k → k < 61 → toL t m p N (61 * a + k) = N (61 * a + k)) := by
  induction m with
  | zero => intro p N h0 hm hB; exact ⟨hB, fun _ _ => rfl, fun _ _ _ _ => rfl⟩
  | succ m ih =>
    intro p N h0 hm hB
    have h1 := toS_ok (iv := iv) (t := t) (p := p) (q := 0) hB (Or.inl rfl)
    have h2 := toS_ok (iv := iv) (t := t) (p := p) (q := 1) h1.1 (Or.inr rfl)
    have h3 := ih (p + 1) _ (by omega) (by omega) h2.1
    have h4 := h1.2.tr h2.2
    exact ⟨h3.1, fun j hj => by rw [toL, h3.2.1 j hj, h4 j (by omega)], fun a k x y => by rw [toL, h3.2.2 a k x y, h4 _ (by omega)]⟩
theorem s2L_ok {N1 : Int → Int} (hF : F 13 ≤ 6) (hB1 : Bok (iv 5 0) (iv 5 1) N1) (m : Nat) : ∀ (p : Int) (N : Int → Int), 0 ≤ p → p + m = F 13 → Bok (iv 5 0) (iv 5 1) N → Sam N N1 → (∀ a k : Int, p ≤ a → a < F 13 → 57 ≤ k → k < 61 → N (61 * a + k) = N1 (61 * a + k)) → Bok (iv 5 0) (iv 5 1) (s2L iv F N1 m p N) ∧ Sam (s2L iv F N1 m p N) N1 ∧ (∀ a : Int, p ≤ a → a < F 13 → s2L iv F N1 m p N (61 * a + 59) = N1 (61 * a + 59) + sdv N1 a ∧ s2L iv F N1 m p N (61 * a + 60) = N1 (61 * a + 60) + N1 (61 * a + 18)) ∧ (∀ a k : Int, a < p → 0 ≤ k → k < 61 → s2L iv F N1 m p N (61 * a + k) = N (61 * a + k)) := by
  induction m with
  | zero => intro p N h0 hm hB hS hk; exact ⟨hB, hS, fun a x y => by omega, fun _ _ _ _ _ => rfl⟩
  | succ m ih =>
    intro p N h0 hm hB hS hk
    have hp : 0 ≤ p ∧ p < 6 := ⟨h0, by omega⟩
    have hsp := sdv_r (N := N1) hB1 hp
    have k57' := hk p 57 (by omega) (by omega) (by omega) (by omega)
    have k59' := hk p 59 (by omega) (by omega) (by omega) (by omega)
    have k60' := hk p 60 (by omega) (by omega) (by omega) (by omega)
    have hc := sdN_ok (Q := Got iv F N1 (sdv N1) p) (N1 := N1) hp (sdv N1 p).toNat 0 N (by omega) (by omega) (by omega) hB hS
    have c59 := hc.2.2.2 59 (by decide)
    have c60 := hc.2.2.2 60 (by decide)
    have c18 := hc.2.1.1 p 18 hp.1 hp.2 (by omega)
    have hu2 := upF_ok (s := sdv N1 p) hc.1 hc.2.1 hp hsp.1
    have h3 := ih (p + 1) (s2P iv F N1 N p) (by omega) (by omega) hu2.1 hu2.2.1 (fun a k x y z w => by unfold s2P; rw [hu2.2.2 _ (by omega), hc.2.2.1 _ (by omega)]; exact hk a k (by omega) y z w)
    refine ⟨h3.1, h3.2.1, fun a x y => ?_, fun a k x y z => ?_⟩
    · by_cases e : a = p
      · subst e
        rw [s2L, h3.2.2.2 a 59 (by omega) (by omega) (by omega), h3.2.2.2 a 60 (by omega) (by omega) (by omega)]
        unfold s2P upF
        rw [up_n (by omega), up_s, up_s, c59, c60, c18, k59', k60']
        exact ⟨rfl, rfl⟩
      · exact h3.2.2.1 a (by omega) y
    · rw [s2L, h3.2.2.2 a k (by omega) y z]
      unfold s2P
      rw [hu2.2.2 _ (by omega), hc.2.2.1 _ (by omega)]
theorem wnF_ok {p : Int} (hp : 0 ≤ p ∧ p < 6) (hP : Prm iv F) (hB : Bok (iv 5 0) (iv 5 1) N) (hfr : 0 ≤ N 368 ∧ N 368 ≤ 20000) : Bok (iv 5 0) (iv 5 1) (wnF iv F N p) ∧ (∀ j : Int, j < 61 * p ∨ 61 * p + 61 ≤ j → wnF iv F N p j = N j) := by
  have hB1 : Bok (iv 5 0) (iv 5 1) (wn1 N p) := (hB.bup (k := 59) (by omega) (by rw [k59]; omega)).bup (by omega) (by rw [k60]; omega)
  have h18 := hB1.v18 hp
  have hfr1 : 0 ≤ wn1 N p 368 ∧ wn1 N p 368 ≤ 20000 := by rw [wn1_n (by omega)]; exact hfr
  have hbr := bad_r (N := wn1 N p) (p := p) h18.1
  have hw : ∀ j : Int, j < 61 * p ∨ 61 * p + 61 ≤ j → wn1 N p j = N j := fun j hj => wn1_n (by omega)
  have hb : ∀ kd n : Int, (0 ≤ n ∧ n < 6) → (0 ≤ kd ∧ kd ≤ 3) → (kd ≤ 1 → n ≤ 3) → Bok (iv 5 0) (iv 5 1) (begF iv F (wn1 N p) p kd n) ∧ (∀ j : Int, j < 61 * p ∨ 61 * p + 61 ≤ j → begF iv F (wn1 N p) p kd n j = N j) := fun kd n a b c =>
    ⟨begF_bok hB1 hp hP hfr1 a b c, fun j hj => by rw [Loc.lbegF hB1 hp hP a b c j (by omega), hw j hj]⟩
  unfold wnF
  repeat' split
  · exact ⟨hB1, hw⟩
  · exact hb 0 1 (by decide) (by decide) (by decide)
  · exact hb 1 1 (by decide) (by decide) (by decide)
  · exact ⟨hB1, hw⟩
  · exact hb 2 _ (by omega) (by decide) (fun h => by omega)
theorem l_live {fr : Int} (hw : (fr + 1) % iv 5 3 = 0) (hfr : 0 ≤ fr ∧ fr ≤ 19999) (m : Nat) : ∀ (p : Int) (N O : Int → Int), 0 ≤ p → p + m = F 13 → Prm iv F → Bok (iv 5 0) (iv 5 1) N → N 368 = fr → (∀ a : Int, p ≤ a → a < F 13 → N (61 * a + 59) ≤ 100000 ∧ N (61 * a + 60) ≤ 100000) → (∀ O', R none SHR (ST iv F (up (wnL iv F m p N) 368 (fr + 1)) G O' T S) lw RVR) → wp (d + 8) mX12_live 14 [some (aR 0), some (aI p)] [] SHR (ST iv F N G O T S) lw RVR 0 0 R := by
  induction m with
  | zero =>
    intro p N O h0 hm hP hB hN hU k
    refine wp_iload_n dX12_live_14 rfl ?_
    refine wp_aload_n dX12_live_15 rfl ?_
    refine wp_getI dX12_live_16 fX12_138 rfl ?_
    try simp only [ST0, ST5, ST6, ST7, ST8, ST10, ST11, ST12, ST13]
    refine wp_icmp_ge (tgt := 53) dX12_live_19 rfl (fun h19 => ?_) (fun h19 => by exfalso; omega)
    refine wp_aload_n dX12_live_53 rfl ?_
    refine wp_getR rfl dX12_live_54 fX12_31 rfl ?_
    refine wp_sipush dX12_live_57 ?_
    refine wp_dup2 dX12_live_60 rfl rfl ?_
    
    refine wp_iald dX12_live_61 rfl (by omega) (by omega) ?_
    try simp only [ST0, ST5, ST6, ST7, ST8, ST10, ST11, ST12, ST13]
    refine wp_iconst dX12_live_62 ?_
    refine wp_iadd dX12_live_63 ⟨by omega, by omega⟩ ?_
    refine wp_iast dX12_live_64 rfl (by omega) (by omega) ?_
    try simp only [STu0, STu8, STu10, STu11, STu12, STu13]
    refine wp_return dX12_live_65 rfl ?_
    have hk := k O; rw [wnL] at hk; rw [hN]; exact hk
  | succ m ih =>
    intro p N O h0 hm hP hB hN hU k
    obtain ⟨hW1, hW2, hO1, hO2, hT1, hT2, hI1, hI2, hF1, hF2⟩ := id hP
    have hp : 0 ≤ p ∧ p < 6 := ⟨h0, by omega⟩
    have hfr1 : 0 ≤ N 368 ∧ N 368 ≤ 20000 := by omega
    have h1 := wnF_ok hp hP hB hfr1
    have hz : (N 368 + 1) % iv 5 3 = 0 := by rw [hN]; exact hw
    refine wp_iload_n dX12_live_14 rfl ?_
    refine wp_aload_n dX12_live_15 rfl ?_
    refine wp_getI dX12_live_16 fX12_138 rfl ?_
    try simp only [ST0, ST5, ST6, ST7, ST8, ST10, ST11, ST12, ST13]
    refine wp_icmp_ge (tgt := 53) dX12_live_19 rfl (fun h19 => by exfalso; omega) (fun h19 => ?_)
    refine wp_aload_n dX12_live_22 rfl ?_
    refine wp_getR rfl dX12_live_23 fX12_31 rfl ?_
    refine wp_sipush dX12_live_26 ?_
    refine wp_iald dX12_live_29 rfl (by omega) (by omega) ?_
    try simp only [ST0, ST5, ST6, ST7, ST8, ST10, ST11, ST12, ST13]
    refine wp_iconst dX12_live_30 ?_
    refine wp_iadd dX12_live_31 ⟨by omega, by omega⟩ ?_
    refine wp_aload_n dX12_live_32 rfl ?_
    refine wp_getR rfl dX12_live_33 fX12_22 rfl ?_
    refine wp_iconst dX12_live_36 ?_
    refine wp_iald dX12_live_37 rfl (by omega) (by omega) ?_
    try simp only [ST0, ST5, ST6, ST7, ST8, ST10, ST11, ST12, ST13]
    refine wp_irem dX12_live_38 (by omega) (by omega) ?_
    refine wp_if_ne (tgt := 53) dX12_live_39 rfl (fun h39 => by exfalso; omega) (fun h39 => ?_)
    refine wp_aload_n dX12_live_42 rfl ?_
    refine wp_iload_n dX12_live_43 rfl ?_
    refine wp_callV (as := [_]) (ls0 := [_, _, _, _, _]) (kc := 0) (ks := 0) (bc' := 0) (bs' := 0) dX12_live_44 vX12_296 rfl rfl rfl (Nat.le_of_ble_eq_true rfl) (Nat.le_of_ble_eq_true rfl) (by omega) (by omega) ?_
    refine s_windowOf hp hP hB hfr1 (hU p (by omega) (by omega)) (fun O' => ?_)
    refine wp_iinc (ls' := [_, _]) dX12_live_47 (by decide) rfl rfl ⟨by omega, by omega⟩ rfl ?_
    refine wp_goto (tgt := 14) dX12_live_50 rfl ?_
    exact ih _ _ _ (by omega) (by omega) hP h1.1 (by rw [h1.2 368 (by omega)]; exact hN) (fun a x y => by rw [h1.2 _ (by omega), h1.2 _ (by omega)]; exact hU a (by omega) y) k
theorem s_live (hP : Prm iv F) (hP2 : Prm2 iv F) (hB : Bok (iv 5 0) (iv 5 1) N) (hfr : 0 ≤ N 368 ∧ N 368 ≤ 19999) (hj : 0 ≤ N 366) (hlt : ∀ a : Int, 0 ≤ a → a < F 13 → LetOK N a) (hU : ∀ a : Int, 0 ≤ a → a < F 13 → N (61 * a + 59) ≤ 90000 ∧ N (61 * a + 60) ≤ 90000) (k : ∀ (F3 G' O' T' S' : Int → Int), (∀ j : Int, ¬ j = 19 → ¬ j = 22 → F3 j = F j) → F3 19 = gtA iv F (quL (F 13).toNat 0 (toL (iv 5 2) (F 13).toNat 0 (rdL iv F (F 13).toNat 0 N))) (F 13).toNat 0 → (∀ a : Int, 0 ≤ a → a < F 13 → 0 ≤ G a → G a ≤ 1000000000 → G' a = G a + gtn iv F (quL (F 13).toNat 0 (toL (iv 5 2) (F 13).toNat 0 (rdL iv F (F 13).toNat 0 N))) a) → R none SHR (ST iv F3 (livF iv F N) G' O' T' S') lw RVR) : wp (d + 8) mX12_live 0 [some (aR 0), none] [] SHR (ST iv F N G O T S) lw RVR 0 0 R := by
  obtain ⟨hW1, hW2, hO1, hO2, hT1, hT2, hI1, hI2, hF1, hF2⟩ := id hP
  have r1 := rdL_ok hP (F 13).toNat 0 N (by omega) (by omega) hB (by omega) hlt
  have e1 := r1.2.1 368 (by decide)
  have j1 := r1.2.1 366 (by decide)
  have r2 := toL_ok (iv := iv) (t := iv 5 2) hF2 (F 13).toNat 0 _ (by omega) (by omega) r1.1
  have e2 := r2.2.1 368 (by decide)
  have j2 := r2.2.1 366 (by decide)
  have hB3 := Bok.bquL (F 13).toNat 0 _ (by omega) (by omega) r2.1
  have hqn : ∀ j : Int, (∀ a : Int, 0 ≤ a → a < F 13 → ¬ j = 61 * a + 57) → quL (F 13).toNat 0 (toL (iv 5 2) (F 13).toNat 0 (rdL iv F (F 13).toNat 0 N)) j = toL (iv 5 2) (F 13).toNat 0 (rdL iv F (F 13).toNat 0 N) j := fun j h => quL_n _ _ _ _ (fun a x y => h a x (by omega))
  have r4 := s2L_ok (iv := iv) (F := F) hF2 hB3 (F 13).toNat 0 _ (by omega) (by omega) hB3 Sam.rf (fun _ _ _ _ _ _ => rfl)
  have e4 : s2L iv F (quL (F 13).toNat 0 (toL (iv 5 2) (F 13).toNat 0 (rdL iv F (F 13).toNat 0 N))) (F 13).toNat 0 (quL (F 13).toNat 0 (toL (iv 5 2) (F 13).toNat 0 (rdL iv F (F 13).toNat 0 N))) 368 = N 368 := by
    rw [r4.2.1.2 368 (by decide), hqn 368 (fun a x y => by omega), e2, e1]
  have hUU : ∀ a : Int, 0 ≤ a → a < F 13 → toL (iv 5 2) (F 13).toNat 0 (rdL iv F (F 13).toNat 0 N) (61 * a + 59) ≤ 90000 ∧ toL (iv 5 2) (F 13).toNat 0 (rdL iv F (F 13).toNat 0 N) (61 * a + 60) ≤ 90000 := fun a x y => by
    rw [r2.2.2 a 59 (by omega) (by omega), r2.2.2 a 60 (by omega) (by omega), r1.2.2 a 59 (by omega) (by omega), r1.2.2 a 60 (by omega) (by omega)]; exact hU a x y
  refine wp_aload_n dX12_live_0 rfl ?_
  refine wp_callV (as := []) (ls0 := [_, _]) (kc := 0) (ks := 0) (bc' := 0) (bs' := 0) dX12_live_1 vX12_287 rfl rfl rfl (Nat.le_of_ble_eq_true rfl) (Nat.le_of_ble_eq_true rfl) (by omega) (by omega) ?_
  refine s_readLetters hP hB (by omega) hlt (fun F1 O1 T1 hF1' => ?_)
  have f13 : F1 13 = F 13 := hF1' 13 (by decide)
  have f14 : F1 14 = F 14 := hF1' 14 (by decide)
  have hPa : Prm iv F1 := by unfold Prm at *; rw [f13]; exact hP
  have hPb : Prm2 iv F1 := by unfold Prm2 at *; rw [f14]; exact hP2
  refine wp_aload_n dX12_live_4 rfl ?_
  refine wp_callV (as := []) (ls0 := [_, _, _]) (kc := 0) (ks := 0) (bc' := 0) (bs' := 0) dX12_live_5 vX12_290 rfl rfl rfl (Nat.le_of_ble_eq_true rfl) (Nat.le_of_ble_eq_true rfl) (by omega) (by omega) ?_
  refine s_timeOut hPa r1.1 (by omega) ?_
  rw [f13]
  refine wp_aload_n dX12_live_8 rfl ?_
  refine wp_callV (as := []) (ls0 := [_, _, _]) (kc := 0) (ks := 0) (bc' := 0) (bs' := 0) dX12_live_9 vX12_293 rfl rfl rfl (Nat.le_of_ble_eq_true rfl) (Nat.le_of_ble_eq_true rfl) (by omega) (by omega) ?_
  refine s_sendAll hPb hPa r2.1 (by omega) (by omega) (fun a x y => by have := hUU a x (by omega); omega) (fun F3 G3 S3 b1 b2 b3 => ?_)
  rw [f13] at b2 b3
  rw [f13, s2L_14 f13 f14]
  rw [gtA_14 f13 f14] at b2
  have g13 : F3 13 = F 13 := by rw [b1 13 (by decide), f13]
  have hF3 : ∀ j : Int, ¬ j = 19 → ¬ j = 22 → F3 j = F j := fun j x y => by rw [b1 j x, hF1' j y]
  have hPc : Prm iv F3 := by unfold Prm at *; rw [g13]; exact hP
  have hG : ∀ a : Int, 0 ≤ a → a < F 13 → 0 ≤ G a → G a ≤ 1000000000 → G3 a = G a + gtn iv F (quL (F 13).toNat 0 (toL (iv 5 2) (F 13).toNat 0 (rdL iv F (F 13).toNat 0 N))) a := fun a x y z w => by rw [b3 a x y z w, gtn_14 f13 f14]
  refine wp_iconst dX12_live_12 ?_
  refine wp_istore_n (ls' := [_, _]) dX12_live_13 (by decide) rfl rfl ?_
  by_cases hw : (N 368 + 1) % iv 5 3 = 0
  · refine l_live (F := F3) hw (by omega) (F 13).toNat 0 _ _ (by omega) (by rw [g13]; omega) hPc r4.1 e4 (fun a x y => ?_) (fun O' => ?_)
    · rw [g13] at y
      have u := hUU a x y
      have s6 := sdv_r (p := a) hB3 ⟨x, by omega⟩
      have m6 := hB3.v18 (p := a) ⟨x, by omega⟩
      rw [(r4.2.2.1 a x y).1, (r4.2.2.1 a x y).2, hqn (61 * a + 59) (fun b z w => by omega), hqn (61 * a + 60) (fun b z w => by omega)]
      omega
    · have hk := k F3 G3 O' T1 S3 hF3 b2 hG
      unfold livF at hk
      rw [if_pos hw] at hk
      rw [wnL_13 g13]
      exact hk
  · have hk := k F3 G3 O1 T1 S3 hF3 b2 hG
    unfold livF at hk
    rw [if_neg hw] at hk
    refine wp_iload_n dX12_live_14 rfl ?_
    refine wp_aload_n dX12_live_15 rfl ?_
    refine wp_getI dX12_live_16 fX12_138 rfl ?_
    try simp only [ST0, ST5, ST6, ST7, ST8, ST10, ST11, ST12, ST13]
    refine wp_icmp_ge (tgt := 53) dX12_live_19 rfl (fun h19 => ?_) (fun h19 => ?_)
    · refine wp_aload_n dX12_live_53 rfl ?_
      refine wp_getR rfl dX12_live_54 fX12_31 rfl ?_
      refine wp_sipush dX12_live_57 ?_
      refine wp_dup2 dX12_live_60 rfl rfl ?_
      refine wp_iald dX12_live_61 rfl (by omega) (by omega) ?_
      try simp only [ST0, ST5, ST6, ST7, ST8, ST10, ST11, ST12, ST13]
      refine wp_iconst dX12_live_62 ?_
      refine wp_iadd dX12_live_63 ⟨by omega, by omega⟩ ?_
      refine wp_iast dX12_live_64 rfl (by omega) (by omega) ?_
      try simp only [STu0, STu8, STu10, STu11, STu12, STu13]
      refine wp_return dX12_live_65 rfl ?_
      rw [e4]; exact hk
    · refine wp_aload_n dX12_live_22 rfl ?_
      refine wp_getR rfl dX12_live_23 fX12_31 rfl ?_
      refine wp_sipush dX12_live_26 ?_
      refine wp_iald dX12_live_29 rfl (by omega) (by omega) ?_
      try simp only [ST0, ST5, ST6, ST7, ST8, ST10, ST11, ST12, ST13]
      refine wp_iconst dX12_live_30 ?_
      refine wp_iadd dX12_live_31 ⟨by omega, by omega⟩ ?_
      refine wp_aload_n dX12_live_32 rfl ?_
      refine wp_getR rfl dX12_live_33 fX12_22 rfl ?_
      refine wp_iconst dX12_live_36 ?_
      refine wp_iald dX12_live_37 rfl (by omega) (by omega) ?_
      try simp only [ST0, ST5, ST6, ST7, ST8, ST10, ST11, ST12, ST13]
      rw [e4]
      refine wp_irem dX12_live_38 (by omega) (by omega) ?_
      refine wp_if_ne (tgt := 53) dX12_live_39 rfl (fun h39 => ?_) (fun h39 => by exfalso; omega)
      refine wp_aload_n dX12_live_53 rfl ?_
      refine wp_getR rfl dX12_live_54 fX12_31 rfl ?_
      refine wp_sipush dX12_live_57 ?_
      refine wp_dup2 dX12_live_60 rfl rfl ?_
      refine wp_iald dX12_live_61 rfl (by omega) (by omega) ?_
      try simp only [ST0, ST5, ST6, ST7, ST8, ST10, ST11, ST12, ST13]
      refine wp_iconst dX12_live_62 ?_
      refine wp_iadd dX12_live_63 ⟨by omega, by omega⟩ ?_
      refine wp_iast dX12_live_64 rfl (by omega) (by omega) ?_
      try simp only [STu0, STu8, STu10, STu11, STu12, STu13]
      refine wp_return dX12_live_65 rfl ?_
      rw [e4]; exact hk
end R16
