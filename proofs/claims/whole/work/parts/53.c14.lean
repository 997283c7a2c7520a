section C14a
variable {N f : Int → Int} {E : aF} {F : Int → Int} {p q c k v W Of : Int}
theorem wri_k {so ki re as : Int} (hk : 57 ≤ k) : wriF (up N (61 * p + k) v) p so ki re as = up (wriF N p so ki re as) (61 * p + k) v := by
  unfold wriF
  rw [up_n (show ¬ 61 * p + 26 = 61 * p + k by omega), up_comm (show ¬ 61 * p + k = 61 * p + 43 by omega), up_comm (show ¬ 61 * p + k = 61 * p + 44 by omega), up_comm (show ¬ 61 * p + k = 61 * p + 45 by omega), up_comm (show ¬ 61 * p + k = 61 * p + 46 by omega), up_comm (show ¬ 61 * p + k = 61 * p + 47 by omega), up_comm (show ¬ 61 * p + k = 61 * p + 49 by omega), up_comm (show ¬ 61 * p + k = 61 * p + 48 by omega)]
theorem enc_k (hk : 57 ≤ k) (h : N (61 * p + 48) ≤ 6) : encF (up N (61 * p + k) v) p c = up (encF N p c) (61 * p + k) v := by
  unfold encF
  rw [up_n (show ¬ 61 * p + 48 = 61 * p + k by omega), up_comm (show ¬ 61 * p + k = 61 * p + (50 + N (61 * p + 48)) by omega), up_comm (show ¬ 61 * p + k = 61 * p + 48 by omega)]
theorem encLk (hk : 57 ≤ k) (m : Nat) : ∀ (i : Int) (N : Int → Int), N (61 * p + 48) + m ≤ 6 → encL p f m i (up N (61 * p + k) v) = up (encL p f m i N) (61 * p + k) v := by
  induction m with
  | zero => intro i N _; rfl
  | succ m ih => intro i N h; rw [encL, encL, enc_k hk (by omega), ih _ _ (by rw [encF_48]; omega)]
theorem delLk (hk : 57 ≤ k) (m : Nat) : ∀ (i : Int) (N : Int → Int), 0 ≤ i → i + m ≤ 6 → N (61 * p + 48) + m ≤ 6 → delL p m i (up N (61 * p + k) v) = up (delL p m i N) (61 * p + k) v := by
  induction m with
  | zero => intro i N _ _ _; rfl
  | succ m ih => intro i N h0 h1 h; rw [delL, delL, up_n (by omega), enc_k hk (by omega), ih _ _ (by omega) (by omega) (by rw [encF_48]; omega)]
theorem prmLk (hq : q = 0 ∨ q = 1) (hk : 57 ≤ k) (m : Nat) : ∀ (i : Int) (N : Int → Int), 0 ≤ i → i + m ≤ 4 → prmL p q f m i (up N (61 * p + k) v) = up (prmL p q f m i N) (61 * p + k) v := by
  induction m with
  | zero => intro i N _ _; rfl
  | succ m ih => intro i N h0 h1; rw [prmL, prmL, up_comm (show ¬ 61 * p + k = 61 * p + (35 + 4 * q + i) by omega), ih _ _ (by omega) (by omega)]
theorem prmFk {n : Int} (hq : q = 0 ∨ q = 1) (hk : 57 ≤ k) (hn : n ≤ 4) : prmF (up N (61 * p + k) v) p q n f = up (prmF N p q n f) (61 * p + k) v := by
  unfold prmF
  rw [up_comm (show ¬ 61 * p + k = 61 * p + (33 + q) by omega), prmLk hq hk _ _ _ (by omega) (by omega)]
theorem waiFk (hq : q = 0 ∨ q = 1) (hk : 57 ≤ k) (hj : ¬ 368 = 61 * p + k) : waiF (up N (61 * p + k) v) p q = up (waiF N p q) (61 * p + k) v := by
  unfold waiF
  rw [up_n hj, up_comm (show ¬ 61 * p + k = 61 * p + (28 + q) by omega), up_comm (show ¬ 61 * p + k = 61 * p + (30 + q) by omega)]
theorem ofr_k {nd fr : Int} (hB : Bok (E 5 0) (E 5 1) N) (hF : F 13 ≤ 6) (hp : 0 ≤ p ∧ p < 6) (hk : 57 ≤ k ∧ k < 61) : ofr E F (up N (61 * p + k) v) p nd fr = ofr E F N p nd fr :=
  ofr_cg (fun s => Tkn_cg hB hF (fun a z h1 h2 h3 => up_n (by omega)))
theorem bgo_k {kd n : Int} (hB : Bok (E 5 0) (E 5 1) N) (hF : F 13 ≤ 6) (hp : 0 ≤ p ∧ p < 6) (hk : 57 ≤ k ∧ k < 61) (hn : n < 6) : bgo E F (up N (61 * p + k) v) p kd n = bgo E F N p kd n := by
  unfold bgo; rw [ofr_k hB hF hp hk, ofr_k hB hF hp hk, up_n (show ¬ 61 * p + (0 + n) = 61 * p + k by omega)]
theorem mny_k {kd n : Int} (hB : Bok (E 5 0) (E 5 1) N) (hF : F 13 ≤ 6) (hp : 0 ≤ p ∧ p < 6) (hk : 57 ≤ k ∧ k < 61) (hn : n < 6) : mny E F (up N (61 * p + k) v) p kd n = mny E F N p kd n := by
  unfold mny mnm; rw [bgo_k hB hF hp hk hn, up_n (show ¬ 61 * p + 28 = 61 * p + k by omega), up_n (show ¬ 61 * p + 43 = 61 * p + k by omega), up_n (show ¬ 61 * p + 18 = 61 * p + k by omega)]
theorem begF_k {kd n : Int} (hP : Prm E F) (hB : Bok (E 5 0) (E 5 1) N) (hp : 0 ≤ p ∧ p < 6) (hk : 57 ≤ k ∧ k < 61) (hn : 0 ≤ n ∧ n < 6) (hkd : 0 ≤ kd ∧ kd ≤ 3) (h03 : kd ≤ 1 → n ≤ 3) : begF E F (up N (61 * p + k) v) p kd n = up (begF E F N p kd n) (61 * p + k) v := by
  obtain ⟨hW1, hW2, hO1, hO2, hT1, hT2, hI1, hI2, hF1, hF2⟩ := id hP
  have h18 := hB.v18 hp
  have hmr := mny_r (F := F) (N := N) (p := p) (kd := kd) (n := n) hP h18.1 (by omega) hkd
  unfold begF
  rw [mny_k hB hF2 hp hk hn.2, bgo_k hB hF2 hp hk hn.2]
  by_cases h : mny E F N p kd n = -1
  · rw [if_pos h, if_pos h]
  · rw [if_neg h, if_neg h]
    rcases hmr with hmr | hmr
    · exact absurd hmr h
    have w48 : ∀ so ki re as : Int, wriF N p so ki re as (61 * p + 48) = 0 := fun _ _ _ _ => wriF_48
    by_cases k1 : kd = 1
    · have := hmr.2.2.1 k1
      rw [if_pos k1, if_pos k1, wri_k hk.1, up_n (show ¬ 61 * p + 18 = 61 * p + k by omega), delLk hk.1 _ _ _ (by omega) (by omega) (by rw [w48]; omega), waiFk (Or.inl rfl) hk.1 (by omega), up_comm (by omega)]
    · have hm4 : mny E F N p kd n ≤ 4 := by
        have a0 := hmr.2.1
        have a2 := hmr.2.2.2.1
        have a3 := hmr.2.2.2.2
        rcases (by omega : kd = 0 ∨ kd = 2 ∨ kd = 3) with e | e | e
        · have := a0 e; omega
        · have := a2 e; omega
        · have := a3 e; omega
      rw [if_neg k1, if_neg k1, up_n (show ¬ 61 * p + (0 + n) = 61 * p + k by omega), wri_k hk.1, wri_k hk.1]
      by_cases k2 : kd = 2
      · have := hmr.2.2.2.1 k2
        rw [if_pos k2, if_pos k2, enc_k hk.1 (by rw [w48]; omega), encLk hk.1 _ _ _ (by rw [encF_48, w48]; omega), prmFk (Or.inl rfl) hk.1 hm4, waiFk (Or.inl rfl) hk.1 (by omega), up_comm (by omega)]
      · rw [if_neg k2, if_neg k2, encLk hk.1 _ _ _ (by rw [w48]; omega), prmFk (Or.inl rfl) hk.1 hm4, waiFk (Or.inl rfl) hk.1 (by omega), up_comm (by omega)]
theorem wn1_def : wn1 N p = up (up N (61 * p + 59) 0) (61 * p + 60) 0 := rfl
theorem begF_wn {kd n : Int} (hP : Prm E F) (hB : Bok (E 5 0) (E 5 1) N) (hp : 0 ≤ p ∧ p < 6) (hn : 0 ≤ n ∧ n < 6) (hkd : 0 ≤ kd ∧ kd ≤ 3) (h03 : kd ≤ 1 → n ≤ 3) : begF E F (wn1 N p) p kd n = wn1 (begF E F N p kd n) p := by
  rw [wn1_def, begF_k hP (hB.bup (by omega) (by rw [k59]; omega)) hp (by omega) hn hkd h03, begF_k hP hB hp (by omega) hn hkd h03]; rfl
theorem bdL_c {N' : Int → Int} (h : ∀ j : Int, 6 ≤ j → j < 18 → N' (61 * p + j) = N (61 * p + j)) (m : Nat) : ∀ (i b w : Int), 0 ≤ i → i + m ≤ 6 → (b = -1 ∨ (0 ≤ b ∧ b < 6)) → (w = -1 ∨ (0 ≤ w ∧ w < 6)) → bdL N' p m i b w = bdL N p m i b w := by
  induction m with
  | zero => intro i b w _ _ _ _; rfl
  | succ m ih =>
    intro i b w h0 h1 hb hw
    have l : ∀ x y t : Int, (0 ≤ x ∧ x < 6) → (0 ≤ y ∧ y < 6) → lss N' p x y t = lss N p x y t := fun x y t hx hy => by
      unfold lss; rw [h (12 + x) (by omega) (by omega), h (6 + y) (by omega) (by omega), h (12 + y) (by omega) (by omega), h (6 + x) (by omega) (by omega)]
    have e1 : nbF N' p b i = nbF N p b i := by
      unfold nbF
      rcases hb with rfl | hb
      · rw [if_pos (Or.inl rfl), if_pos (Or.inl rfl)]
      · simp only [l b i 1 hb (by omega)]
    have e2 : nwF N' p w i = nwF N p w i := by
      unfold nwF
      rcases hw with rfl | hw
      · rw [if_pos (Or.inl rfl), if_pos (Or.inl rfl)]
      · simp only [l i w 1 (by omega) hw]
    have f1 : nbF N p b i = i ∨ nbF N p b i = b := by unfold nbF; split <;> simp
    have f2 : nwF N p w i = i ∨ nwF N p w i = w := by unfold nwF; split <;> simp
    rw [bdL, bdL, h (6 + i) (by omega) (by omega), e1, e2, ih _ _ _ (by omega) (by omega) hb hw, ih _ _ _ (by omega) (by omega) (by omega) (by omega)]
theorem bdL_b {p : Int} (m : Nat) : ∀ (i b w : Int), 0 ≤ i → i + m ≤ 6 → (b = -1 ∨ (0 ≤ b ∧ b < 6)) → ((bdL N p m i b w).1 = -1 ∨ (0 ≤ (bdL N p m i b w).1 ∧ (bdL N p m i b w).1 < 6)) := by
  induction m with
  | zero => intro i b w _ _ hb; rw [bdL]; exact hb
  | succ m ih =>
    intro i b w h0 h1 hb
    have f1 : nbF N p b i = i ∨ nbF N p b i = b := by unfold nbF; split <;> simp
    rw [bdL]
    split
    · exact ih _ _ _ (by omega) (by omega) hb
    · exact ih _ _ _ (by omega) (by omega) (by omega)
theorem bdL_w {p : Int} (m : Nat) : ∀ (i b w : Int), 0 ≤ i → i + m ≤ 6 → ((b = -1 ∧ w = -1) ∨ (¬ b = -1 ∧ 0 ≤ w ∧ w < 6)) → ((bdL N p m i b w).1 = -1 ∧ (bdL N p m i b w).2 = -1 ∨ (¬ (bdL N p m i b w).1 = -1 ∧ 0 ≤ (bdL N p m i b w).2 ∧ (bdL N p m i b w).2 < 6)) := by
  induction m with
  | zero => intro i b w _ _ hb; rw [bdL]; exact hb
  | succ m ih =>
    intro i b w h0 h1 hb
    have f1 : nbF N p b i = i ∨ nbF N p b i = b := by unfold nbF; split <;> simp
    have f2 : nwF N p w i = i ∨ nwF N p w i = w := by unfold nwF; split <;> simp
    have f3 : b = -1 → nbF N p b i = i := fun e => by unfold nbF; rw [if_pos (Or.inl e)]
    have f4 : w = -1 → nwF N p w i = i := fun e => by unfold nwF; rw [if_pos (Or.inl e)]
    rw [bdL]
    split
    · exact ih _ _ _ (by omega) (by omega) hb
    · exact ih _ _ _ (by omega) (by omega) (by omega)
theorem bad_c {N' : Int → Int} (hm : 0 ≤ N (61 * p + 18) ∧ N (61 * p + 18) ≤ 6) (h : ∀ j : Int, 6 ≤ j → j < 19 → N' (61 * p + j) = N (61 * p + j)) : bad N' p = bad N p := by
  unfold bad
  rw [h 18 (by omega) (by omega), bdL_c (fun j h1 h2 => h j h1 (by omega)) _ _ _ _ (by omega) (by omega) (by omega) (by omega)]
  have hb := bdL_b (N := N) (p := p) (N (61 * p + 18)).toNat 0 (-1) (-1) (by omega) (by omega) (by omega)
  have hw := bdL_w (N := N) (p := p) (N (61 * p + 18)).toNat 0 (-1) (-1) (by omega) (by omega) (by omega)
  unfold bdR
  rcases hw with ⟨h1, h2⟩ | ⟨h1, h2, h3⟩
  · rw [if_neg (fun z => z.1 h1), if_neg (fun z => z.1 h1)]
  · rcases hb with hb | hb
    · exact absurd hb h1
    · have l : ∀ x y t : Int, (0 ≤ x ∧ x < 6) → (0 ≤ y ∧ y < 6) → lss N' p x y t = lss N p x y t := fun x y t hx hy => by
        unfold lss; rw [h (12 + x) (by omega) (by omega), h (6 + y) (by omega) (by omega), h (12 + y) (by omega) (by omega), h (6 + x) (by omega) (by omega)]
      simp only [l _ _ 2 ⟨h2, h3⟩ hb]
end C14a
section C14
variable {d b : Nat} {sh : aSh} {iv lw E : aF} {rv : aP} {D O T S K C w N F : Int → Int} {R : aPost} {p : Int}
/-- a dealing of the window: the class begins, then ends the window -/
theorem wn_eq {kd n : Int} (hw : wnF E F N p = if N 367 = 0 ∨ ¬ (N (61 * p + 28) = 0 ∧ N (61 * p + 43) = 0) then wn1 N p else begF E F (wn1 N p) p kd n) (hP : Prm E F) (hB : Bok (E 5 0) (E 5 1) N) (hp : 0 ≤ p ∧ p < 6) (hn : 0 ≤ n ∧ n < 6) (hkd : 0 ≤ kd ∧ kd ≤ 2) (h03 : kd ≤ 1 → n ≤ 3) (h367 : N 367 = 0 ∨ N 367 = 1) : (N 367 = 1 → ¬ mny E F N p kd n = -1 → wnF E F N p = wn1 (begF E F N p kd n) p) ∧ (¬ (N 367 = 1) ∨ mny E F N p kd n = -1 → wnF E F N p = wn1 N p) := by
  rw [hw]
  constructor
  · intro h1 h2
    have hid : N (61 * p + 28) = 0 ∧ N (61 * p + 43) = 0 := Classical.byContradiction (fun z => h2 (mny_n z))
    rw [if_neg (fun z => z.elim (by omega) (fun y => y hid)), begF_wn hP hB hp hn (by omega) h03]
  · intro h
    split
    · rfl
    · rename_i h3
      have h4 : mny E F N p kd n = -1 := by
        rcases h with h | h
        · exact absurd (Or.inl (by omega)) h3
        · exact h
      rw [begF_wn hP hB hp hn (by omega) h03]
      unfold begF; rw [if_pos h4]
theorem f_followLoad (hN : NtA sh rv iv b) (hl : PlA sh rv iv E F) (hP : Prm E F) (hp : 0 ≤ p ∧ p < 6) (hpF : p < F 13) (hR : Rel w N) (hB : Bok (E 5 0) (E 5 1) N) (hfr : 0 ≤ N 368 ∧ N 368 ≤ 20000) (hU : N (61 * p + 59) ≤ 100000 ∧ N (61 * p + 60) ≤ 100000) (h367 : N 367 = 0 ∨ N 367 = 1) (hpm : N (61 * p + 28) = 0 → N (61 * p + 33) = 0) (k : ∀ (D' O' w' : Int → Int), Rel w' (wnF E F N p) → R none sh (uA (CD iv b D' O' T S K C) (12 + 42 * b) w') lw rv) : wp (d + 4) mX0_followLoad 0 [some (aR (41 + 39 * b)), some (aR (lid b p)), none, none] [] sh (uA (CD iv b D O T S K C) (12 + 42 * b) w) lw rv 0 0 R := by
  obtain ⟨hW1, hW2, hO1, hO2, hT1, hT2, hI1, hI2, hF1, hF2⟩ := id hP
  have h18 := hB.v18 hp
  have hbr := bad_r (N := N) (p := p) h18.1
  have hbc : bad (wn1 N p) p = bad N p := bad_c h18 (fun j h1 h2 => wn1_n (by omega))
  have hid : ∀ {kd n : Int}, ¬ mny E F N p kd n = -1 → N (61 * p + 28) = 0 := fun z => (Classical.byContradiction (fun y => z (mny_n y)) : N (61 * p + 28) = 0 ∧ N (61 * p + 43) = 0).1
  refine wp_aload_n dX0_followLoad_0 rfl ?_
  refine wp_getR (hN.rls hp) dX0_followLoad_1 fX0_99 (hN.sl hp) ?_
  refine wp_callV (as := []) (ls0 := [_, _, _, _, _]) (kc := 0) (ks := 0) (bc' := 0) (bs' := 0) dX0_followLoad_4 vX0_153 (hN.ss hp) rfl rfl (Nat.le_of_ble_eq_true rfl) (Nat.le_of_ble_eq_true rfl) (by omega) (by omega) ?_
  refine c_badPlace (hN.lk hp).sS hR hB rfl ?_
  refine wp_istore_n (ls' := [_, _, _, _]) dX0_followLoad_7 (by decide) rfl rfl ?_
  refine wp_aload_n dX0_followLoad_8 rfl ?_
  refine wp_callV (as := []) (ls0 := [_]) (kc := 0) (ks := 0) (bc' := 0) (bs' := 0) dX0_followLoad_9 vX0_156 (hN.sl hp) rfl rfl (Nat.le_of_ble_eq_true rfl) (Nat.le_of_ble_eq_true rfl) (by omega) (by omega) ?_
  refine k_wantsMore (hN.lk hp) hR hB hU (fun h9 => ?_) (fun h9 => ?_)
  · have hw := wn_eq (kd := 0) (n := 1) (E := E) (F := F) (by unfold wnF; rw [if_pos h9]) hP hB hp (by omega) (by omega) (by omega) h367
    refine wp_if_eq (tgt := 19) dX0_followLoad_12 rfl (fun q => absurd q (by decide)) (fun _ => ?_)
    refine wp_iconst dX0_followLoad_15 ?_
    refine wp_goto (tgt := 40) dX0_followLoad_16 rfl ?_
    refine wp_istore_n (ls' := [_, _, _, _]) dX0_followLoad_40 (by decide) rfl rfl ?_
    refine wp_aload_n dX0_followLoad_41 rfl ?_
    refine wp_getR hN.r41n dX0_followLoad_42 fX0_21 hN.s41 ?_
    refine wp_callV (as := []) (ls0 := [_]) (kc := 0) (ks := 0) (bc' := 0) (bs' := 0) dX0_followLoad_45 vX0_162 hN.s11 rfl rfl (Nat.le_of_ble_eq_true rfl) (Nat.le_of_ble_eq_true rfl) (by omega) (by omega) ?_
    refine x_autoNow hN hR ?_
    refine wp_iconst dX0_followLoad_48 ?_
    refine wp_icmp_ne (tgt := 89) dX0_followLoad_49 rfl (fun h49 => ?_) (fun h49 => ?_)
    · refine wp_aload_n dX0_followLoad_89 rfl ?_
      refine wp_callV (as := []) (ls0 := [_]) (kc := 0) (ks := 0) (bc' := 0) (bs' := 0) dX0_followLoad_90 vX0_172 (hN.sl hp) rfl rfl (Nat.le_of_ble_eq_true rfl) (Nat.le_of_ble_eq_true rfl) (by omega) (by omega) ?_
      refine k_endWindow (hN.lk hp) hR (fun w hR => ?_)
      refine wp_return dX0_followLoad_93 rfl ?_
      first
      | exact k D' O' w (by rw [hw.1 h49 h63]; exact hR)
      | exact k D O w (by rw [hw.2 (Or.inr h63)]; exact hR)
      | exact k D O w (by rw [hw.2 (Or.inl h49)]; exact hR)
      | exact k D O w (by rw [hw]; exact hR)
    · refine wp_iload_n dX0_followLoad_52 rfl ?_
      refine wp_iconst dX0_followLoad_53 ?_
      refine wp_icmp_eq (tgt := 89) dX0_followLoad_54 rfl (fun q => absurd q (by decide)) (fun _ => ?_)
      refine wp_aload_n dX0_followLoad_57 rfl ?_
      refine wp_getR hN.r41d dX0_followLoad_58 fX0_32 hN.s41 ?_
      refine wp_aload_n dX0_followLoad_61 rfl ?_
      refine wp_iload_n dX0_followLoad_62 rfl ?_
      refine wp_callV (as := [_, _]) (ls0 := [_, _, _, _]) (kc := 0) (ks := 0) (bc' := 0) (bs' := 0) dX0_followLoad_63 vX0_165 hN.s38 rfl rfl (Nat.le_of_ble_eq_true rfl) (Nat.le_of_ble_eq_true rfl) (by omega) (by omega) ?_
      refine e_canBegin (n := 1) hN hl hP hp hpF hR hB (by omega) (by omega) (by omega) (fun h63 => ?_) (fun h63 => ?_)
      · refine wp_if_eq (tgt := 89) dX0_followLoad_66 rfl (fun q => absurd q (by decide)) (fun _ => ?_)
        refine wp_aload_n dX0_followLoad_69 rfl ?_
        refine wp_getR hN.r41d dX0_followLoad_70 fX0_32 hN.s41 ?_
        refine wp_aload_n dX0_followLoad_73 rfl ?_
        refine wp_iload_n dX0_followLoad_74 rfl ?_
        refine wp_iload_n dX0_followLoad_75 rfl ?_
        refine wp_iconst dX0_followLoad_76 ?_
        refine wp_icmp_ne (tgt := 84) dX0_followLoad_77 rfl (fun _ => ?_) (fun q => absurd q (by decide))
        refine wp_iconst dX0_followLoad_84 ?_
        refine wp_callV (as := [_, _, _]) (ls0 := [_, _, _, _, _, _, _]) (kc := 0) (ks := 0) (bc' := 0) (bs' := 0) dX0_followLoad_85 vX0_168 hN.s38 rfl rfl (Nat.le_of_ble_eq_true rfl) (Nat.le_of_ble_eq_true rfl) (by omega) (by omega) ?_
        refine e_begin0 hN hl hP hp hpF hR hB hfr (by omega) (hpm (hid h63)) (by omega) h63 (fun D' O' w g1 hR => ?_)
        refine wp_pop dX0_followLoad_88 rfl ?_
        refine wp_aload_n dX0_followLoad_89 rfl ?_
        refine wp_callV (as := []) (ls0 := [_]) (kc := 0) (ks := 0) (bc' := 0) (bs' := 0) dX0_followLoad_90 vX0_172 (hN.sl hp) rfl rfl (Nat.le_of_ble_eq_true rfl) (Nat.le_of_ble_eq_true rfl) (by omega) (by omega) ?_
        refine k_endWindow (hN.lk hp) hR (fun w hR => ?_)
        refine wp_return dX0_followLoad_93 rfl ?_
        first
        | exact k D' O' w (by rw [hw.1 h49 h63]; exact hR)
        | exact k D O w (by rw [hw.2 (Or.inr h63)]; exact hR)
        | exact k D O w (by rw [hw.2 (Or.inl h49)]; exact hR)
        | exact k D O w (by rw [hw]; exact hR)
      · refine wp_if_eq (tgt := 89) dX0_followLoad_66 rfl (fun _ => ?_) (fun q => absurd q (by decide))
        refine wp_aload_n dX0_followLoad_89 rfl ?_
        refine wp_callV (as := []) (ls0 := [_]) (kc := 0) (ks := 0) (bc' := 0) (bs' := 0) dX0_followLoad_90 vX0_172 (hN.sl hp) rfl rfl (Nat.le_of_ble_eq_true rfl) (Nat.le_of_ble_eq_true rfl) (by omega) (by omega) ?_
        refine k_endWindow (hN.lk hp) hR (fun w hR => ?_)
        refine wp_return dX0_followLoad_93 rfl ?_
        first
        | exact k D' O' w (by rw [hw.1 h49 h63]; exact hR)
        | exact k D O w (by rw [hw.2 (Or.inr h63)]; exact hR)
        | exact k D O w (by rw [hw.2 (Or.inl h49)]; exact hR)
        | exact k D O w (by rw [hw]; exact hR)
  · refine wp_if_eq (tgt := 19) dX0_followLoad_12 rfl (fun _ => ?_) (fun q => absurd q (by decide))
    refine wp_aload_n dX0_followLoad_19 rfl ?_
    refine wp_callV (as := []) (ls0 := [_]) (kc := 0) (ks := 0) (bc' := 0) (bs' := 0) dX0_followLoad_20 vX0_159 (hN.sl hp) rfl rfl (Nat.le_of_ble_eq_true rfl) (Nat.le_of_ble_eq_true rfl) (by omega) (by omega) ?_
    refine k_wantsLess (hN.lk hp) hR hB hU (fun h20 => ?_) (fun h20 => ?_)
    · have hw := wn_eq (kd := 1) (n := 1) (E := E) (F := F) (by unfold wnF; rw [if_neg h9, if_pos h20]) hP hB hp (by omega) (by omega) (by omega) h367
      refine wp_if_eq (tgt := 30) dX0_followLoad_23 rfl (fun q => absurd q (by decide)) (fun _ => ?_)
      refine wp_iconst dX0_followLoad_26 ?_
      refine wp_goto (tgt := 40) dX0_followLoad_27 rfl ?_
      refine wp_istore_n (ls' := [_, _, _, _]) dX0_followLoad_40 (by decide) rfl rfl ?_
      refine wp_aload_n dX0_followLoad_41 rfl ?_
      refine wp_getR hN.r41n dX0_followLoad_42 fX0_21 hN.s41 ?_
      refine wp_callV (as := []) (ls0 := [_]) (kc := 0) (ks := 0) (bc' := 0) (bs' := 0) dX0_followLoad_45 vX0_162 hN.s11 rfl rfl (Nat.le_of_ble_eq_true rfl) (Nat.le_of_ble_eq_true rfl) (by omega) (by omega) ?_
      refine x_autoNow hN hR ?_
      refine wp_iconst dX0_followLoad_48 ?_
      refine wp_icmp_ne (tgt := 89) dX0_followLoad_49 rfl (fun h49 => ?_) (fun h49 => ?_)
      · refine wp_aload_n dX0_followLoad_89 rfl ?_
        refine wp_callV (as := []) (ls0 := [_]) (kc := 0) (ks := 0) (bc' := 0) (bs' := 0) dX0_followLoad_90 vX0_172 (hN.sl hp) rfl rfl (Nat.le_of_ble_eq_true rfl) (Nat.le_of_ble_eq_true rfl) (by omega) (by omega) ?_
        refine k_endWindow (hN.lk hp) hR (fun w hR => ?_)
        refine wp_return dX0_followLoad_93 rfl ?_
        first
        | exact k D' O' w (by rw [hw.1 h49 h63]; exact hR)
        | exact k D O w (by rw [hw.2 (Or.inr h63)]; exact hR)
        | exact k D O w (by rw [hw.2 (Or.inl h49)]; exact hR)
        | exact k D O w (by rw [hw]; exact hR)
      · refine wp_iload_n dX0_followLoad_52 rfl ?_
        refine wp_iconst dX0_followLoad_53 ?_
        refine wp_icmp_eq (tgt := 89) dX0_followLoad_54 rfl (fun q => absurd q (by decide)) (fun _ => ?_)
        refine wp_aload_n dX0_followLoad_57 rfl ?_
        refine wp_getR hN.r41d dX0_followLoad_58 fX0_32 hN.s41 ?_
        refine wp_aload_n dX0_followLoad_61 rfl ?_
        refine wp_iload_n dX0_followLoad_62 rfl ?_
        refine wp_callV (as := [_, _]) (ls0 := [_, _, _, _]) (kc := 0) (ks := 0) (bc' := 0) (bs' := 0) dX0_followLoad_63 vX0_165 hN.s38 rfl rfl (Nat.le_of_ble_eq_true rfl) (Nat.le_of_ble_eq_true rfl) (by omega) (by omega) ?_
        refine e_canBegin (n := 1) hN hl hP hp hpF hR hB (by omega) (by omega) (by omega) (fun h63 => ?_) (fun h63 => ?_)
        · refine wp_if_eq (tgt := 89) dX0_followLoad_66 rfl (fun q => absurd q (by decide)) (fun _ => ?_)
          refine wp_aload_n dX0_followLoad_69 rfl ?_
          refine wp_getR hN.r41d dX0_followLoad_70 fX0_32 hN.s41 ?_
          refine wp_aload_n dX0_followLoad_73 rfl ?_
          refine wp_iload_n dX0_followLoad_74 rfl ?_
          refine wp_iload_n dX0_followLoad_75 rfl ?_
          refine wp_iconst dX0_followLoad_76 ?_
          refine wp_icmp_ne (tgt := 84) dX0_followLoad_77 rfl (fun _ => ?_) (fun q => absurd q (by decide))
          refine wp_iconst dX0_followLoad_84 ?_
          refine wp_callV (as := [_, _, _]) (ls0 := [_, _, _, _, _, _, _]) (kc := 0) (ks := 0) (bc' := 0) (bs' := 0) dX0_followLoad_85 vX0_168 hN.s38 rfl rfl (Nat.le_of_ble_eq_true rfl) (Nat.le_of_ble_eq_true rfl) (by omega) (by omega) ?_
          refine e_begin1 hN hl hP hp hpF hR hB hfr (by omega) (hpm (hid h63)) (by omega) h63 (fun D' O' w g1 hR => ?_)
          refine wp_pop dX0_followLoad_88 rfl ?_
          refine wp_aload_n dX0_followLoad_89 rfl ?_
          refine wp_callV (as := []) (ls0 := [_]) (kc := 0) (ks := 0) (bc' := 0) (bs' := 0) dX0_followLoad_90 vX0_172 (hN.sl hp) rfl rfl (Nat.le_of_ble_eq_true rfl) (Nat.le_of_ble_eq_true rfl) (by omega) (by omega) ?_
          refine k_endWindow (hN.lk hp) hR (fun w hR => ?_)
          refine wp_return dX0_followLoad_93 rfl ?_
          first
          | exact k D' O' w (by rw [hw.1 h49 h63]; exact hR)
          | exact k D O w (by rw [hw.2 (Or.inr h63)]; exact hR)
          | exact k D O w (by rw [hw.2 (Or.inl h49)]; exact hR)
          | exact k D O w (by rw [hw]; exact hR)
        · refine wp_if_eq (tgt := 89) dX0_followLoad_66 rfl (fun _ => ?_) (fun q => absurd q (by decide))
          refine wp_aload_n dX0_followLoad_89 rfl ?_
          refine wp_callV (as := []) (ls0 := [_]) (kc := 0) (ks := 0) (bc' := 0) (bs' := 0) dX0_followLoad_90 vX0_172 (hN.sl hp) rfl rfl (Nat.le_of_ble_eq_true rfl) (Nat.le_of_ble_eq_true rfl) (by omega) (by omega) ?_
          refine k_endWindow (hN.lk hp) hR (fun w hR => ?_)
          refine wp_return dX0_followLoad_93 rfl ?_
          first
          | exact k D' O' w (by rw [hw.1 h49 h63]; exact hR)
          | exact k D O w (by rw [hw.2 (Or.inr h63)]; exact hR)
          | exact k D O w (by rw [hw.2 (Or.inl h49)]; exact hR)
          | exact k D O w (by rw [hw]; exact hR)
    · refine wp_if_eq (tgt := 30) dX0_followLoad_23 rfl (fun _ => ?_) (fun q => absurd q (by decide))
      refine wp_iload_n dX0_followLoad_30 rfl ?_
      refine wp_iconst dX0_followLoad_31 ?_
      refine wp_icmp_eq (tgt := 39) dX0_followLoad_32 rfl (fun h32 => ?_) (fun h32 => ?_)
      · have hw : wnF E F N p = wn1 N p := by
          unfold wnF; rw [if_neg h9, if_neg h20, hbc, if_pos h32]; split <;> rfl
        refine wp_iconst dX0_followLoad_39 ?_
        refine wp_istore_n (ls' := [_, _, _, _]) dX0_followLoad_40 (by decide) rfl rfl ?_
        refine wp_aload_n dX0_followLoad_41 rfl ?_
        refine wp_getR hN.r41n dX0_followLoad_42 fX0_21 hN.s41 ?_
        refine wp_callV (as := []) (ls0 := [_]) (kc := 0) (ks := 0) (bc' := 0) (bs' := 0) dX0_followLoad_45 vX0_162 hN.s11 rfl rfl (Nat.le_of_ble_eq_true rfl) (Nat.le_of_ble_eq_true rfl) (by omega) (by omega) ?_
        refine x_autoNow hN hR ?_
        refine wp_iconst dX0_followLoad_48 ?_
        refine wp_icmp_ne (tgt := 89) dX0_followLoad_49 rfl (fun h49 => ?_) (fun h49 => ?_)
        · refine wp_aload_n dX0_followLoad_89 rfl ?_
          refine wp_callV (as := []) (ls0 := [_]) (kc := 0) (ks := 0) (bc' := 0) (bs' := 0) dX0_followLoad_90 vX0_172 (hN.sl hp) rfl rfl (Nat.le_of_ble_eq_true rfl) (Nat.le_of_ble_eq_true rfl) (by omega) (by omega) ?_
          refine k_endWindow (hN.lk hp) hR (fun w hR => ?_)
          refine wp_return dX0_followLoad_93 rfl ?_
          first
          | exact k D' O' w (by rw [hw.1 h49 h63]; exact hR)
          | exact k D O w (by rw [hw.2 (Or.inr h63)]; exact hR)
          | exact k D O w (by rw [hw.2 (Or.inl h49)]; exact hR)
          | exact k D O w (by rw [hw]; exact hR)
        · refine wp_iload_n dX0_followLoad_52 rfl ?_
          refine wp_iconst dX0_followLoad_53 ?_
          refine wp_icmp_eq (tgt := 89) dX0_followLoad_54 rfl (fun _ => ?_) (fun q => absurd q (by decide))
          refine wp_aload_n dX0_followLoad_89 rfl ?_
          refine wp_callV (as := []) (ls0 := [_]) (kc := 0) (ks := 0) (bc' := 0) (bs' := 0) dX0_followLoad_90 vX0_172 (hN.sl hp) rfl rfl (Nat.le_of_ble_eq_true rfl) (Nat.le_of_ble_eq_true rfl) (by omega) (by omega) ?_
          refine k_endWindow (hN.lk hp) hR (fun w hR => ?_)
          refine wp_return dX0_followLoad_93 rfl ?_
          first
          | exact k D' O' w (by rw [hw.1 h49 h63]; exact hR)
          | exact k D O w (by rw [hw.2 (Or.inr h63)]; exact hR)
          | exact k D O w (by rw [hw.2 (Or.inl h49)]; exact hR)
          | exact k D O w (by rw [hw]; exact hR)
      · have hw := wn_eq (kd := 2) (n := bad N p) (E := E) (F := F) (by unfold wnF; rw [if_neg h9, if_neg h20, hbc, if_neg h32]) hP hB hp (by omega) (by omega) (by omega) h367
        refine wp_iconst dX0_followLoad_35 ?_
        refine wp_goto (tgt := 40) dX0_followLoad_36 rfl ?_
        refine wp_istore_n (ls' := [_, _, _, _]) dX0_followLoad_40 (by decide) rfl rfl ?_
        refine wp_aload_n dX0_followLoad_41 rfl ?_
        refine wp_getR hN.r41n dX0_followLoad_42 fX0_21 hN.s41 ?_
        refine wp_callV (as := []) (ls0 := [_]) (kc := 0) (ks := 0) (bc' := 0) (bs' := 0) dX0_followLoad_45 vX0_162 hN.s11 rfl rfl (Nat.le_of_ble_eq_true rfl) (Nat.le_of_ble_eq_true rfl) (by omega) (by omega) ?_
        refine x_autoNow hN hR ?_
        refine wp_iconst dX0_followLoad_48 ?_
        refine wp_icmp_ne (tgt := 89) dX0_followLoad_49 rfl (fun h49 => ?_) (fun h49 => ?_)
        · refine wp_aload_n dX0_followLoad_89 rfl ?_
          refine wp_callV (as := []) (ls0 := [_]) (kc := 0) (ks := 0) (bc' := 0) (bs' := 0) dX0_followLoad_90 vX0_172 (hN.sl hp) rfl rfl (Nat.le_of_ble_eq_true rfl) (Nat.le_of_ble_eq_true rfl) (by omega) (by omega) ?_
          refine k_endWindow (hN.lk hp) hR (fun w hR => ?_)
          refine wp_return dX0_followLoad_93 rfl ?_
          first
          | exact k D' O' w (by rw [hw.1 h49 h63]; exact hR)
          | exact k D O w (by rw [hw.2 (Or.inr h63)]; exact hR)
          | exact k D O w (by rw [hw.2 (Or.inl h49)]; exact hR)
          | exact k D O w (by rw [hw]; exact hR)
        · refine wp_iload_n dX0_followLoad_52 rfl ?_
          refine wp_iconst dX0_followLoad_53 ?_
          refine wp_icmp_eq (tgt := 89) dX0_followLoad_54 rfl (fun q => absurd q (by decide)) (fun _ => ?_)
          refine wp_aload_n dX0_followLoad_57 rfl ?_
          refine wp_getR hN.r41d dX0_followLoad_58 fX0_32 hN.s41 ?_
          refine wp_aload_n dX0_followLoad_61 rfl ?_
          refine wp_iload_n dX0_followLoad_62 rfl ?_
          refine wp_callV (as := [_, _]) (ls0 := [_, _, _, _]) (kc := 0) (ks := 0) (bc' := 0) (bs' := 0) dX0_followLoad_63 vX0_165 hN.s38 rfl rfl (Nat.le_of_ble_eq_true rfl) (Nat.le_of_ble_eq_true rfl) (by omega) (by omega) ?_
          refine e_canBegin (n := bad N p) hN hl hP hp hpF hR hB (by omega) (by omega) (by omega) (fun h63 => ?_) (fun h63 => ?_)
          · refine wp_if_eq (tgt := 89) dX0_followLoad_66 rfl (fun q => absurd q (by decide)) (fun _ => ?_)
            refine wp_aload_n dX0_followLoad_69 rfl ?_
            refine wp_getR hN.r41d dX0_followLoad_70 fX0_32 hN.s41 ?_
            refine wp_aload_n dX0_followLoad_73 rfl ?_
            refine wp_iload_n dX0_followLoad_74 rfl ?_
            refine wp_iload_n dX0_followLoad_75 rfl ?_
            refine wp_iconst dX0_followLoad_76 ?_
            refine wp_icmp_ne (tgt := 84) dX0_followLoad_77 rfl (fun q => absurd q (by decide)) (fun _ => ?_)
            refine wp_iload_n dX0_followLoad_80 rfl ?_
            refine wp_goto (tgt := 85) dX0_followLoad_81 rfl ?_
            refine wp_callV (as := [_, _, _]) (ls0 := [_, _, _, _, _, _, _]) (kc := 0) (ks := 0) (bc' := 0) (bs' := 0) dX0_followLoad_85 vX0_168 hN.s38 rfl rfl (Nat.le_of_ble_eq_true rfl) (Nat.le_of_ble_eq_true rfl) (by omega) (by omega) ?_
            refine e_begin2 hN hl hP hp hpF hR hB hfr (by omega) (hpm (hid h63)) (by omega) h63 (fun D' O' w g1 hR => ?_)
            refine wp_pop dX0_followLoad_88 rfl ?_
            refine wp_aload_n dX0_followLoad_89 rfl ?_
            refine wp_callV (as := []) (ls0 := [_]) (kc := 0) (ks := 0) (bc' := 0) (bs' := 0) dX0_followLoad_90 vX0_172 (hN.sl hp) rfl rfl (Nat.le_of_ble_eq_true rfl) (Nat.le_of_ble_eq_true rfl) (by omega) (by omega) ?_
            refine k_endWindow (hN.lk hp) hR (fun w hR => ?_)
            refine wp_return dX0_followLoad_93 rfl ?_
            first
            | exact k D' O' w (by rw [hw.1 h49 h63]; exact hR)
            | exact k D O w (by rw [hw.2 (Or.inr h63)]; exact hR)
            | exact k D O w (by rw [hw.2 (Or.inl h49)]; exact hR)
            | exact k D O w (by rw [hw]; exact hR)
          · refine wp_if_eq (tgt := 89) dX0_followLoad_66 rfl (fun _ => ?_) (fun q => absurd q (by decide))
            refine wp_aload_n dX0_followLoad_89 rfl ?_
            refine wp_callV (as := []) (ls0 := [_]) (kc := 0) (ks := 0) (bc' := 0) (bs' := 0) dX0_followLoad_90 vX0_172 (hN.sl hp) rfl rfl (Nat.le_of_ble_eq_true rfl) (Nat.le_of_ble_eq_true rfl) (by omega) (by omega) ?_
            refine k_endWindow (hN.lk hp) hR (fun w hR => ?_)
            refine wp_return dX0_followLoad_93 rfl ?_
            first
            | exact k D' O' w (by rw [hw.1 h49 h63]; exact hR)
            | exact k D O w (by rw [hw.2 (Or.inr h63)]; exact hR)
            | exact k D O w (by rw [hw.2 (Or.inl h49)]; exact hR)
            | exact k D O w (by rw [hw]; exact hR)
end C14
