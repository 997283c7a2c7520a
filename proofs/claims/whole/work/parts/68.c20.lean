section C20a
variable {E : aF} {F N N1 N2 : Int → Int} {p : Int}
theorem crL_inj (m : Nat) : ∀ (p x y : Int), (∀ a : Int, p ≤ a → a < p + m → (0 ≤ N1 (61 * a + 18) ∧ N1 (61 * a + 18) ≤ 6) ∧ (0 ≤ N2 (61 * a + 18) ∧ N2 (61 * a + 18) ≤ 6)) → (crL N1 m p x = crL N2 m p y ↔ x = y ∧ ∀ a : Int, p ≤ a → a < p + m → N1 (61 * a + 18) = N2 (61 * a + 18)) := by
  induction m with
  | zero => intro p x y _; rw [crL, crL]; exact ⟨fun h => ⟨h, fun a b c => by omega⟩, fun h => h.1⟩
  | succ m ih =>
    intro p x y hd
    have h1 := hd p (by omega) (by omega)
    rw [crL, crL, ih (p + 1) _ _ (fun a b c => hd a (by omega) (by omega))]
    constructor
    · rintro ⟨e, h⟩
      refine ⟨by omega, fun a b c => ?_⟩
      by_cases ea : a = p
      · rw [ea]; omega
      · exact h a (by omega) (by omega)
    · rintro ⟨e, h⟩
      have := h p (by omega) (by omega)
      exact ⟨by omega, fun a b c => h a (by omega) (by omega)⟩
def Veq (F N1 N2 : Int → Int) : Prop := ∀ a : Int, 0 ≤ a → a < F 13 → N1 (61 * a + 18) = N2 (61 * a + 18)
theorem crw_iff (hF : 0 ≤ F 13 ∧ F 13 ≤ 6) (h1 : Bok (E 5 0) (E 5 1) N1) (h2 : Bok (E 5 0) (E 5 1) N2) : crw F N1 = crw F N2 ↔ Veq F N1 N2 := by
  unfold crw
  rw [crL_inj _ _ _ _ (fun a b c => ⟨h1.v18 (by omega), h2.v18 (by omega)⟩)]
  exact ⟨fun h a b c => h.2 a b (by omega), fun h => ⟨rfl, fun a b c => h a b (by omega)⟩⟩
theorem liN_ok (hP : Prm E F) (m : Nat) : ∀ N : Int → Int, Inv E F N → N 368 + m ≤ 14000 → Inv E F (liN E F m N) ∧ liN E F m N 368 = N 368 + m := by
  induction m with
  | zero => intro N h _; exact ⟨h, by rw [liN]; omega⟩
  | succ m ih => intro N h hf; have hL := Inv.liv hP h (by omega); have h2 := ih _ hL.1 (by rw [hL.2.1]; omega); exact ⟨h2.1, by rw [liN, h2.2, hL.2.1]; omega⟩
theorem liN_s (m : Nat) : ∀ N : Int → Int, liN E F (m + 1) N = livF E F (liN E F m N) := by
  induction m with
  | zero => intro N; rfl
  | succ m ih => intro N; rw [liN, ih, liN]
theorem stR_at {C : Int → Int} {x : Int} (m : Nat) : ∀ n : Int, n ≤ x → x < n + m → (∀ z : Int, n ≤ z → z < x → ¬ ∀ k : Int, 1 ≤ k → k ≤ 40 → C (z + k) = C z) → (∀ k : Int, 1 ≤ k → k ≤ 40 → C (x + k) = C x) → stR C m n = x := by
  induction m with
  | zero => intro n a b _ _; omega
  | succ m ih =>
    intro n a b h1 h2
    rw [stR]
    by_cases e : n = x
    · subst e; rw [if_pos h2]
    · rw [if_neg (h1 n (by omega) (by omega))]; exact ih _ (by omega) (by omega) (fun z c d => h1 z (by omega) d) h2
theorem stR_no {C : Int → Int} (m : Nat) : ∀ n : Int, (∀ z : Int, n ≤ z → z < n + m → ¬ ∀ k : Int, 1 ≤ k → k ≤ 40 → C (z + k) = C z) → stR C m n = -1 := by
  induction m with
  | zero => intro n _; rfl
  | succ m ih => intro n h; rw [stR, if_neg (h n (by omega) (by omega))]; exact ih _ (fun z c d => h z (by omega) (by omega))
end C20a
section C20
variable {d : Nat} {sh : aSh} {iv lw E : aF} {rv : aP} {D O T S K C w N F : Int → Int} {R : aPost} {p : Int}
theorem PlA.c52 {Z : Int → Int} (h : PlA sh rv iv E F) : PlA sh rv (uA iv 52 Z) E F := h.cg (uA_n (by decide)) (uA_n (by decide)) (uA_n (by decide)) (uA_n (by decide))
theorem NtA.c52 {b : Nat} {Z : Int → Int} (h : NtA sh rv iv b) : NtA sh rv (uA iv 52 Z) b := h.cg (fun i x y => uA_n (by have := h.1; omega))
theorem l_notes (h0 : NtA sh rv iv 0) (hN : NtA sh rv iv 1) (hO : OtA sh rv) (hl : PlA sh rv iv E F) (hP : Prm E F) (hR : Rel w N) (hB : Bok (E 5 0) (E 5 1) N) {Z0 : Int → Int} (k : ∀ (f : Int) (Z : Int → Int), ((f = 1 ∧ ¬ ∀ a : Int, 0 ≤ a → a < F 13 → N (61 * a + 18) = Z0 a) ∨ (f = 0 ∧ ∀ a : Int, 0 ≤ a → a < F 13 → N (61 * a + 18) = Z0 a)) → (∀ a : Int, 0 ≤ a → a < F 13 → Z a = N (61 * a + 18)) → R (some (aI f)) sh (uA (CD (uA iv 52 Z) 1 D O T S K C) (12 + 42 * 1) w) lw rv) (m : Nat) : ∀ (p f : Int) (Z : Int → Int) (v3 : Option aV), 0 ≤ p → p + m = F 13 → ((f = 1 ∧ ¬ ∀ a : Int, 0 ≤ a → a < F 13 → N (61 * a + 18) = Z0 a) ∨ (f = 0 ∧ ∀ a : Int, 0 ≤ a → a < p → N (61 * a + 18) = Z0 a)) → (∀ a : Int, 0 ≤ a → a < p → Z a = N (61 * a + 18)) → (∀ a : Int, p ≤ a → a < F 13 → Z a = Z0 a) → wp (d + 1) mX5_notesChange 4 [some (aR 51), some (aI f), some (aI p), v3] [] sh (uA (CD (uA iv 52 Z) 1 D O T S K C) (12 + 42 * 1) w) lw rv 0 0 R := by
  obtain ⟨hW1, hW2, hO1, hO2, hT1, hT2, hI1, hI2, hF1, hF2⟩ := id hP
  induction m with
  | zero =>
    intro p f Z v3 h0' hm hf hz hz0
    have hN := hN.c52 (Z := Z)
    have h0 := h0.c52 (Z := Z)
    have hl := hl.c52 (Z := Z)
    refine wp_iload_n dX5_notesChange_4 rfl ?_
    refine wp_aload_n dX5_notesChange_5 rfl ?_
    refine wp_getR hO.2.1 dX5_notesChange_6 fX5_15 hO.1 ?_
    refine wp_getR h0.r11p dX5_notesChange_9 fX5_21 h0.s11 ?_
    refine wp_callV (as := []) (ls0 := [_]) (kc := 0) (ks := 0) (bc' := 0) (bs' := 0) dX5_notesChange_12 vX5_94 hl.1 rfl rfl (Nat.le_of_ble_eq_true rfl) (Nat.le_of_ble_eq_true rfl) (by omega) (by omega) ?_
    refine n_pairs (hN.pl hl) ?_
    refine wp_icmp_ge (tgt := 67) dX5_notesChange_15 rfl (fun h15 => ?_) (fun h15 => by exfalso; omega)
    refine wp_iload_n dX5_notesChange_67 rfl ?_
    refine wp_zreturn dX5_notesChange_68 rfl (by rcases hf with hf | hf <;> omega) ?_
    exact k f Z (hf.imp id (fun h => ⟨h.1, fun a x y => h.2 a x (by omega)⟩)) (fun a x y => hz a x (by omega))
  | succ m ih =>
    intro p f Z v3 h0' hm hf hz hz0
    have hp : 0 ≤ p ∧ p < 6 := by omega
    have hzp := hz0 p (by omega) (by omega)
    have hno := hN
    have hN := hN.c52 (Z := Z)
    have h0 := h0.c52 (Z := Z)
    have hl := hl.c52 (Z := Z)
    refine wp_iload_n dX5_notesChange_4 rfl ?_
    refine wp_aload_n dX5_notesChange_5 rfl ?_
    refine wp_getR hO.2.1 dX5_notesChange_6 fX5_15 hO.1 ?_
    refine wp_getR h0.r11p dX5_notesChange_9 fX5_21 h0.s11 ?_
    refine wp_callV (as := []) (ls0 := [_]) (kc := 0) (ks := 0) (bc' := 0) (bs' := 0) dX5_notesChange_12 vX5_94 hl.1 rfl rfl (Nat.le_of_ble_eq_true rfl) (Nat.le_of_ble_eq_true rfl) (by omega) (by omega) ?_
    refine n_pairs (hN.pl hl) ?_
    refine wp_icmp_ge (tgt := 67) dX5_notesChange_15 rfl (fun h15 => by exfalso; omega) (fun h15 => ?_)
    refine wp_aload_n dX5_notesChange_18 rfl ?_
    refine wp_getR hO.2.2.1 dX5_notesChange_19 fX5_28 hO.1 ?_
    refine wp_getR hN.r11l dX5_notesChange_22 fX5_59 hN.s11 ?_
    refine wp_iload_n dX5_notesChange_25 rfl ?_
    refine wp_aaldL dX5_notesChange_26 hN.s13 (by omega) (by omega) (hN.r13 hp) ?_
    refine wp_getR (hN.rls hp) dX5_notesChange_27 fX5_100 (hN.sl hp) ?_
    refine wp_callV (as := []) (ls0 := [_]) (kc := 0) (ks := 0) (bc' := 0) (bs' := 0) dX5_notesChange_30 vX5_104 (hN.ss hp) rfl rfl (Nat.le_of_ble_eq_true rfl) (Nat.le_of_ble_eq_true rfl) (by omega) (by omega) ?_
    refine c_size (hN.lk hp).sS hR ?_
    rw [mq0]
    refine wp_istore_n (ls' := [_, _, _, _]) dX5_notesChange_33 (by decide) rfl rfl ?_
    refine wp_iload_n dX5_notesChange_34 rfl ?_
    refine wp_if_ne (tgt := 48) dX5_notesChange_35 rfl (fun h35 => ?_) (fun h35 => ?_)
    · refine wp_iconst dX5_notesChange_48 ?_
      refine wp_goto (tgt := 53) dX5_notesChange_49 rfl ?_
      refine wp_istore_n (ls' := [_, _, _, _]) dX5_notesChange_53 (by decide) rfl rfl ?_
      refine wp_aload_n dX5_notesChange_54 rfl ?_
      refine wp_getR hO.2.2.2.2.1 dX5_notesChange_55 fX5_9 hO.1 ?_
      refine wp_iload_n dX5_notesChange_58 rfl ?_
      refine wp_iload_n dX5_notesChange_59 rfl ?_
      refine wp_iast dX5_notesChange_60 hO.2.2.2.2.2 (by omega) (by omega) ?_
      rw [CSz]
      refine wp_iinc (ls' := [_, _, _, _]) dX5_notesChange_61 (by decide) rfl rfl ⟨by omega, by omega⟩ rfl ?_
      refine wp_goto (tgt := 4) dX5_notesChange_64 rfl ?_
      refine ih _ _ _ _ (by omega) (by omega) ?_ (fun a x y => ?_) (fun a x y => ?_)
      · first
        | exact Or.inl ⟨rfl, (hf.resolve_right (fun z => by omega)).2⟩
        | exact Or.inl ⟨rfl, fun z => h45 (z p (by omega) (by omega))⟩
        | exact Or.inr ⟨rfl, fun a x y => by
            by_cases e : a = p
            · rw [e]; exact h45
            · exact (hf.resolve_left (fun z => by omega)).2 a x (by omega)⟩
      · by_cases e : a = p
        · rw [e, up_s]
        · rw [up_n e]; exact hz a x (by omega)
      · rw [up_n (by omega)]; exact hz0 a (by omega) y
    · refine wp_iload_n dX5_notesChange_38 rfl ?_
      refine wp_aload_n dX5_notesChange_39 rfl ?_
      refine wp_getR hO.2.2.2.2.1 dX5_notesChange_40 fX5_9 hO.1 ?_
      refine wp_iload_n dX5_notesChange_43 rfl ?_
      refine wp_iald dX5_notesChange_44 hO.2.2.2.2.2 (by omega) (by omega) ?_
      rw [CSn (by omega), uA_s]
      rw [hzp]
      refine wp_icmp_eq (tgt := 52) dX5_notesChange_45 rfl (fun h45 => ?_) (fun h45 => ?_)
      · refine wp_iconst dX5_notesChange_52 ?_
        refine wp_istore_n (ls' := [_, _, _, _]) dX5_notesChange_53 (by decide) rfl rfl ?_
        refine wp_aload_n dX5_notesChange_54 rfl ?_
        refine wp_getR hO.2.2.2.2.1 dX5_notesChange_55 fX5_9 hO.1 ?_
        refine wp_iload_n dX5_notesChange_58 rfl ?_
        refine wp_iload_n dX5_notesChange_59 rfl ?_
        refine wp_iast dX5_notesChange_60 hO.2.2.2.2.2 (by omega) (by omega) ?_
        rw [CSz]
        refine wp_iinc (ls' := [_, _, _, _]) dX5_notesChange_61 (by decide) rfl rfl ⟨by omega, by omega⟩ rfl ?_
        refine wp_goto (tgt := 4) dX5_notesChange_64 rfl ?_
        refine ih _ _ _ _ (by omega) (by omega) ?_ (fun a x y => ?_) (fun a x y => ?_)
        · first
          | exact Or.inl ⟨rfl, (hf.resolve_right (fun z => by omega)).2⟩
          | exact Or.inl ⟨rfl, fun z => h45 (z p (by omega) (by omega))⟩
          | exact Or.inr ⟨rfl, fun a x y => by
              by_cases e : a = p
              · rw [e]; exact h45
              · exact (hf.resolve_left (fun z => by omega)).2 a x (by omega)⟩
        · by_cases e : a = p
          · rw [e, up_s]
          · rw [up_n e]; exact hz a x (by omega)
        · rw [up_n (by omega)]; exact hz0 a (by omega) y
      · refine wp_iconst dX5_notesChange_48 ?_
        refine wp_goto (tgt := 53) dX5_notesChange_49 rfl ?_
        refine wp_istore_n (ls' := [_, _, _, _]) dX5_notesChange_53 (by decide) rfl rfl ?_
        refine wp_aload_n dX5_notesChange_54 rfl ?_
        refine wp_getR hO.2.2.2.2.1 dX5_notesChange_55 fX5_9 hO.1 ?_
        refine wp_iload_n dX5_notesChange_58 rfl ?_
        refine wp_iload_n dX5_notesChange_59 rfl ?_
        refine wp_iast dX5_notesChange_60 hO.2.2.2.2.2 (by omega) (by omega) ?_
        rw [CSz]
        refine wp_iinc (ls' := [_, _, _, _]) dX5_notesChange_61 (by decide) rfl rfl ⟨by omega, by omega⟩ rfl ?_
        refine wp_goto (tgt := 4) dX5_notesChange_64 rfl ?_
        refine ih _ _ _ _ (by omega) (by omega) ?_ (fun a x y => ?_) (fun a x y => ?_)
        · first
          | exact Or.inl ⟨rfl, (hf.resolve_right (fun z => by omega)).2⟩
          | exact Or.inl ⟨rfl, fun z => h45 (z p (by omega) (by omega))⟩
          | exact Or.inr ⟨rfl, fun a x y => by
              by_cases e : a = p
              · rw [e]; exact h45
              · exact (hf.resolve_left (fun z => by omega)).2 a x (by omega)⟩
        · by_cases e : a = p
          · rw [e, up_s]
          · rw [up_n e]; exact hz a x (by omega)
        · rw [up_n (by omega)]; exact hz0 a (by omega) y
theorem o_notes (h0 : NtA sh rv iv 0) (hN : NtA sh rv iv 1) (hO : OtA sh rv) (hl : PlA sh rv iv E F) (hP : Prm E F) (hR : Rel w N) (hB : Bok (E 5 0) (E 5 1) N) {Z : Int → Int} (k : ∀ (f : Int) (Z' : Int → Int), ((f = 1 ∧ ¬ ∀ a : Int, 0 ≤ a → a < F 13 → N (61 * a + 18) = Z a) ∨ (f = 0 ∧ ∀ a : Int, 0 ≤ a → a < F 13 → N (61 * a + 18) = Z a)) → (∀ a : Int, 0 ≤ a → a < F 13 → Z' a = N (61 * a + 18)) → R (some (aI f)) sh (uA (CD (uA iv 52 Z') 1 D O T S K C) (12 + 42 * 1) w) lw rv) : wp (d + 1) mX5_notesChange 0 [some (aR 51), none, none, none] [] sh (uA (CD (uA iv 52 Z) 1 D O T S K C) (12 + 42 * 1) w) lw rv 0 0 R := by
  obtain ⟨hW1, hW2, hO1, hO2, hT1, hT2, hI1, hI2, hF1, hF2⟩ := id hP
  refine wp_iconst dX5_notesChange_0 ?_
  refine wp_istore_n (ls' := [_, _, _, _]) dX5_notesChange_1 (by decide) rfl rfl ?_
  refine wp_iconst dX5_notesChange_2 ?_
  refine wp_istore_n (ls' := [_, _, _, _]) dX5_notesChange_3 (by decide) rfl rfl ?_
  exact l_notes h0 hN hO hl hP hR hB k (F 13).toNat _ _ _ _ (by omega) (by omega) (Or.inr ⟨rfl, fun a x y => by omega⟩) (fun a x y => by omega) (fun a x y => rfl)
theorem l_steady (h0 : NtA sh rv iv 0) (hN : NtA sh rv iv 1) (hO : OtA sh rv) (hl : PlA sh rv iv E F) (hP : Prm E F) (hP2 : Prm2 E F) {N0 : Int → Int} (hI0 : Inv E F N0) (hf0 : N0 368 ≤ 9999) (k : (∀ D' O' T' S' K' C' w' Z' : Int → Int, ZK K' → R (some (aI (stR (cAt E F N0) 41 0))) sh (uA (CD (uA iv 52 Z') 1 D' O' T' S' K' C') (12 + 42 * 1) w') lw rv)) (m : Nat) : ∀ (i c : Int) (w Z D O T S K C : Int → Int), 1 ≤ i → i + m = 81 → (0 ≤ c ∧ c < i ∧ i - 1 - c < 40) → Rel w (liN E F (i - 1).toNat N0) → ZK K → (∀ a : Int, 0 ≤ a → a < F 13 → Z a = liN E F (i - 1).toNat N0 (61 * a + 18)) → (∀ t : Int, c ≤ t → t < i → cAt E F N0 t = cAt E F N0 (i - 1)) → (∀ n : Int, 0 ≤ n → n < c → ¬ ∀ k : Int, 1 ≤ k → k ≤ 40 → cAt E F N0 (n + k) = cAt E F N0 n) → wp (d + 6) mX5_framesTillSteady 20 [some (aR 51), some (aI c), some (aI i)] [] sh (uA (CD (uA iv 52 Z) 1 D O T S K C) (12 + 42 * 1) w) lw rv 0 0 R := by
  obtain ⟨hW1, hW2, hO1, hO2, hT1, hT2, hI1, hI2, hF1, hF2⟩ := id hP
  have hli : ∀ t : Int, 0 ≤ t → t ≤ 100 → Inv E F (liN E F t.toNat N0) := fun t a b => (liN_ok hP t.toNat N0 hI0 (by omega)).1
  have h368 : ∀ t : Int, 0 ≤ t → t ≤ 100 → liN E F t.toNat N0 368 ≤ 10100 := fun t a b => by rw [(liN_ok hP t.toNat N0 hI0 (by omega)).2]; omega
  induction m with
  | zero =>
    intro i c w Z D O T S K C h1 hm hc hR hK hZ hcon hno
    refine wp_iload_n dX5_framesTillSteady_20 rfl ?_
    refine wp_bipush dX5_framesTillSteady_21 ?_
    refine wp_icmp_gt (tgt := 64) dX5_framesTillSteady_23 rfl (fun h23 => ?_) (fun h23 => by exfalso; omega)
    refine wp_iconst dX5_framesTillSteady_64 ?_
    refine wp_ireturn dX5_framesTillSteady_65 rfl ?_
    have hk := k D O T S K C w Z hK
    rw [stR_no 41 0 (fun z a b => hno z a (by omega))] at hk
    exact hk
  | succ m ih =>
    intro i c w Z D O T S K C h1 hm hc hR hK hZ hcon hno
    have hNo := hN
    have h0o := h0
    have hlo := hl
    have hN := hN.c52 (Z := Z)
    have h0 := h0.c52 (Z := Z)
    have hl := hl.c52 (Z := Z)
    have es : livF E F (liN E F (i - 1).toNat N0) = liN E F i.toNat N0 := by rw [show i.toNat = (i - 1).toNat + 1 by omega, liN_s]
    have hv : cAt E F N0 i = cAt E F N0 (i - 1) ↔ ∀ a : Int, 0 ≤ a → a < F 13 → liN E F i.toNat N0 (61 * a + 18) = Z a := by
      unfold cAt
      rw [crw_iff ⟨hF1, hF2⟩ (hli i (by omega) (by omega)).1 (hli (i - 1) (by omega) (by omega)).1]
      exact ⟨fun h a x y => by rw [hZ a x y]; exact h a x y, fun h a x y => by rw [h a x y]; exact hZ a x y⟩
    have fin : ∀ x : Int, 0 ≤ x → x ≤ 40 → i - x = 40 → (∀ t : Int, x ≤ t → t ≤ i → cAt E F N0 t = cAt E F N0 i) → (∀ n : Int, 0 ≤ n → n < x → ¬ ∀ k : Int, 1 ≤ k → k ≤ 40 → cAt E F N0 (n + k) = cAt E F N0 n) → stR (cAt E F N0) 41 0 = x := fun x a b e h h' =>
      stR_at 41 0 a (by omega) h' (fun k k1 k2 => by rw [h (x + k) (by omega) (by omega), h x (by omega) (by omega)])
    refine wp_iload_n dX5_framesTillSteady_20 rfl ?_
    refine wp_bipush dX5_framesTillSteady_21 ?_
    refine wp_icmp_gt (tgt := 64) dX5_framesTillSteady_23 rfl (fun h23 => by exfalso; omega) (fun h23 => ?_)
    refine wp_iload_n dX5_framesTillSteady_26 rfl ?_
    refine wp_bipush dX5_framesTillSteady_27 ?_
    refine wp_icmp_gt (tgt := 64) dX5_framesTillSteady_29 rfl (fun h29 => ?_) (fun h29 => ?_)
    · have hk := k D O T S K C w Z hK
      rw [stR_no 41 0 (fun z a b => hno z a (by omega))] at hk
      refine wp_iconst dX5_framesTillSteady_64 ?_
      refine wp_ireturn dX5_framesTillSteady_65 rfl ?_
      exact hk
    · refine wp_aload_n dX5_framesTillSteady_32 rfl ?_
      refine wp_getR hO.2.2.2.1 dX5_framesTillSteady_33 fX5_41 hO.1 ?_
      refine wp_callV (as := []) (ls0 := [_, _, _, _, _]) (kc := 0) (ks := 0) (bc' := 0) (bs' := 0) dX5_framesTillSteady_36 vX5_52 hN.s41 rfl rfl (Nat.le_of_ble_eq_true rfl) (Nat.le_of_ble_eq_true rfl) (by omega) (by omega) ?_
      refine f_passFrame hN hl hP hP2 hR (hli (i - 1) (by omega) (by omega)) (by have := h368 (i - 1) (by omega) (by omega); omega) hK (fun w D O T S K C hR hK hC => ?_)
      rw [es] at hR
      refine wp_aload_n dX5_framesTillSteady_39 rfl ?_
      refine wp_callV (as := []) (ls0 := [_, _, _, _]) (kc := 0) (ks := 0) (bc' := 0) (bs' := 0) dX5_framesTillSteady_40 vX5_72 hO.1 rfl rfl (Nat.le_of_ble_eq_true rfl) (Nat.le_of_ble_eq_true rfl) (by omega) (by omega) ?_
      refine o_notes h0o hNo hO hlo hP hR (hli i (by omega) (by omega)).1 (fun f Z' hf hz => ?_)
      have hZ' : ∀ a : Int, 0 ≤ a → a < F 13 → Z' a = liN E F (i + 1 - 1).toNat N0 (61 * a + 18) := fun a x y => by rw [show i + 1 - 1 = i by omega]; exact hz a x y
      have hR' : Rel w (liN E F (i + 1 - 1).toNat N0) := by rw [show i + 1 - 1 = i by omega]; exact hR
      have hch : f = 1 ∨ f = 0 := by rcases hf with h | h; exact Or.inl h.1; exact Or.inr h.1
      have hcf : f = 1 → ¬ cAt E F N0 i = cAt E F N0 (i - 1) := fun e z => (hf.resolve_right (fun y => by omega)).2 (hv.mp z)
      have hct : f = 0 → cAt E F N0 i = cAt E F N0 (i - 1) := fun e => hv.mpr (hf.resolve_left (fun y => by omega)).2
      clear hN h0 hl
      refine wp_if_eq (tgt := 48) dX5_framesTillSteady_43 rfl (fun h43 => ?_) (fun h43 => ?_)
      · have hsame := hct h43
        refine wp_iload_n dX5_framesTillSteady_48 rfl ?_
        refine wp_iload_n dX5_framesTillSteady_49 rfl ?_
        refine wp_isub dX5_framesTillSteady_50 ⟨by omega, by omega⟩ ?_
        refine wp_bipush dX5_framesTillSteady_51 ?_
        refine wp_icmp_ne (tgt := 58) dX5_framesTillSteady_53 rfl (fun h53 => ?_) (fun h53 => ?_)
        · refine wp_iinc (ls' := [_, _, _]) dX5_framesTillSteady_58 (by decide) rfl rfl ⟨by omega, by omega⟩ rfl ?_
          refine wp_goto (tgt := 20) dX5_framesTillSteady_61 rfl ?_
          first
          | exact ih _ _ _ _ _ _ _ _ _ _ (by omega) (by omega) (by omega) hR' hK hZ' (fun t a b => by
              rw [show i + 1 - 1 = i by omega]
              by_cases e : t = i
              · rw [e]
              · rw [hcon t a (by omega), hsame]) hno
          | exact ih _ _ _ _ _ _ _ _ _ _ (by omega) (by omega) (by omega) hR' hK hZ' (fun t a b => by
              rw [show t = i + 1 - 1 by omega]) (fun n a b z => by
              by_cases e : n < c
              · exact hno n a e z
              · refine hdiff ?_
                have z1 := z (i - n) (by omega) (by omega)
                rw [show n + (i - n) = i by omega, hcon n (by omega) (by omega)] at z1
                exact z1)
        · refine wp_iload_n dX5_framesTillSteady_56 rfl ?_
          refine wp_ireturn dX5_framesTillSteady_57 rfl ?_
          first
          | (have hk := k D O T S K C w Z' hK
             rw [fin c (by omega) (by omega) (by omega) (fun t a b => by
               by_cases e : t = i
               · rw [e]
               · rw [hcon t a (by omega), hsame]) hno] at hk
             exact hk)
          | (exfalso; omega)
      · have hdiff := hcf (by omega)
        refine wp_iload_n dX5_framesTillSteady_46 rfl ?_
        refine wp_istore_n (ls' := [_, _, _]) dX5_framesTillSteady_47 (by decide) rfl rfl ?_
        refine wp_iload_n dX5_framesTillSteady_48 rfl ?_
        refine wp_iload_n dX5_framesTillSteady_49 rfl ?_
        refine wp_isub dX5_framesTillSteady_50 ⟨by omega, by omega⟩ ?_
        refine wp_bipush dX5_framesTillSteady_51 ?_
        refine wp_icmp_ne (tgt := 58) dX5_framesTillSteady_53 rfl (fun h53 => ?_) (fun h53 => ?_)
        · refine wp_iinc (ls' := [_, _, _]) dX5_framesTillSteady_58 (by decide) rfl rfl ⟨by omega, by omega⟩ rfl ?_
          refine wp_goto (tgt := 20) dX5_framesTillSteady_61 rfl ?_
          first
          | exact ih _ _ _ _ _ _ _ _ _ _ (by omega) (by omega) (by omega) hR' hK hZ' (fun t a b => by
              rw [show i + 1 - 1 = i by omega]
              by_cases e : t = i
              · rw [e]
              · rw [hcon t a (by omega), hsame]) hno
          | exact ih _ _ _ _ _ _ _ _ _ _ (by omega) (by omega) (by omega) hR' hK hZ' (fun t a b => by
              rw [show t = i + 1 - 1 by omega]) (fun n a b z => by
              by_cases e : n < c
              · exact hno n a e z
              · refine hdiff ?_
                have z1 := z (i - n) (by omega) (by omega)
                rw [show n + (i - n) = i by omega, hcon n (by omega) (by omega)] at z1
                exact z1)
        · refine wp_iload_n dX5_framesTillSteady_56 rfl ?_
          refine wp_ireturn dX5_framesTillSteady_57 rfl ?_
          first
          | (have hk := k D O T S K C w Z' hK
             rw [fin c (by omega) (by omega) (by omega) (fun t a b => by
               by_cases e : t = i
               · rw [e]
               · rw [hcon t a (by omega), hsame]) hno] at hk
             exact hk)
          | (exfalso; omega)
theorem o_steady (h0 : NtA sh rv iv 0) (hN : NtA sh rv iv 1) (hO : OtA sh rv) (hl : PlA sh rv iv E F) (hP : Prm E F) (hP2 : Prm2 E F) (hI : Inv E F N) (hK : ZK K) (hfr : N 368 ≤ 9999) (hR0 : Rel (iv 12) N) (k : (∀ D' O' T' S' K' C' w' Z' : Int → Int, ZK K' → R (some (aI (stR (cAt E F N) 41 0))) sh (uA (CD (uA iv 52 Z') 1 D' O' T' S' K' C') (12 + 42 * 1) w') lw rv)) : wp (d + 6) mX5_framesTillSteady 0 [some (aR 51), none, none] [] sh (uA (CD iv 1 D O T S K C) (12 + 42 * 1) w) lw rv 0 0 R := by
  have hB := hI.1
  rw [show (uA (CD iv 1 D O T S K C) (12 + 42 * 1) w) = (uA (CD (uA iv 52 (iv 52)) 1 D O T S K C) (12 + 42 * 1) w) by rw [uA_id]]
  refine wp_aload_n dX5_framesTillSteady_0 rfl ?_
  refine wp_aload_n dX5_framesTillSteady_1 rfl ?_
  refine wp_getR hO.2.1 dX5_framesTillSteady_2 fX5_15 hO.1 ?_
  refine wp_getR h0.r11w dX5_framesTillSteady_5 fX5_45 h0.s11 ?_
  refine wp_callV (as := [_]) (ls0 := [_, _]) (kc := 0) (ks := 0) (bc' := 0) (bs' := 0) dX5_framesTillSteady_8 vX5_48 hO.1 rfl rfl (Nat.le_of_ble_eq_true rfl) (Nat.le_of_ble_eq_true rfl) (by omega) (by omega) ?_
  refine o_startFrom h0.c52 hN.c52 hO (by rw [uA_n (by decide)]; exact hR0) (fun w hR => ?_)
  refine wp_aload_n dX5_framesTillSteady_11 rfl ?_
  refine wp_callV (as := []) (ls0 := [_, _, _, _]) (kc := 0) (ks := 0) (bc' := 0) (bs' := 0) dX5_framesTillSteady_12 vX5_72 hO.1 rfl rfl (Nat.le_of_ble_eq_true rfl) (Nat.le_of_ble_eq_true rfl) (by omega) (by omega) ?_
  refine o_notes h0 hN hO hl hP hR hB (fun f Z' _ hz => ?_)
  refine wp_pop dX5_framesTillSteady_15 rfl ?_
  refine wp_iconst dX5_framesTillSteady_16 ?_
  refine wp_istore_n (ls' := [_, _, _]) dX5_framesTillSteady_17 (by decide) rfl rfl ?_
  refine wp_iconst dX5_framesTillSteady_18 ?_
  refine wp_istore_n (ls' := [_, _, _]) dX5_framesTillSteady_19 (by decide) rfl rfl ?_
  refine l_steady h0 hN hO hl hP hP2 hI hfr k 80 1 0 _ _ _ _ _ _ _ _ (by omega) (by omega) (by omega) hR hK hz (fun t a b => by rw [show t = 1 - 1 by omega]) (fun n a b => by omega)
/-- the parts of one row of losses, a bit a frame -/
noncomputable def ptG (E : aF) (F : Int → Int) (ch : Int) : Nat → Nat → (Int → Int) → Int → Int
  | 0, _, N, x => @ite _ (AllA F N) (Classical.propDecidable _) x 0
  | m + 1, ls, N, x => if ls % 2 = 1 then ptG E F ch m (ls / 2) (livF E F (drL (F 13).toNat 0 N)) (x * ch / 100) else ptG E F ch m (ls / 2) (livF E F N) (x - x * ch / 100)
theorem ptG_0 {ch : Int} (m : Nat) : ∀ (ls : Nat) (N : Int → Int), ptG E F ch m ls N 0 = 0 := by
  induction m with
  | zero => intro ls N; rw [ptG]; split <;> rfl
  | succ m ih => intro ls N; rw [ptG, show (0 : Int) * ch / 100 = 0 by rw [Int.zero_mul]; rfl, show (0 : Int) - 0 = 0 from rfl, ih, ih]; split <;> rfl
theorem ptG_r {ch : Int} (hc : 0 ≤ ch ∧ ch ≤ 100) (m : Nat) : ∀ (ls : Nat) (N : Int → Int) (x : Int), (0 ≤ x ∧ x ≤ 1000000000) → 0 ≤ ptG E F ch m ls N x ∧ ptG E F ch m ls N x ≤ x := by
  induction m with
  | zero => intro ls N x hx; rw [ptG]; split <;> omega
  | succ m ih =>
    intro ls N x hx
    have hl := lost_r hx hc
    rw [ptG]
    split
    · have := ih (ls / 2) (livF E F (drL (F 13).toNat 0 N)) (x * ch / 100) (by omega); omega
    · have := ih (ls / 2) (livF E F N) (x - x * ch / 100) (by omega); omega
def smT (f : Nat → Int) : Nat → Int
  | 0 => 0
  | m + 1 => smT f m + f m
theorem smT_c {f g : Nat → Int} (m : Nat) (h : ∀ a : Nat, a < m → f a = g a) : smT f m = smT g m := by
  induction m with
  | zero => rfl
  | succ m ih => rw [smT, smT, ih (fun a x => h a (by omega)), h m (by omega)]
theorem smT_2 {f : Nat → Int} (m : Nat) : smT f (2 * m) = smT (fun h => f (2 * h)) m + smT (fun h => f (2 * h + 1)) m := by
  induction m with
  | zero => rfl
  | succ m ih => rw [show 2 * (m + 1) = 2 * m + 1 + 1 by omega, smT, smT, ih, smT, smT]; omega
theorem smT_le {f : Nat → Int} (hf : ∀ a, 0 ≤ f a) (n : Nat) : ∀ m : Nat, m ≤ n → 0 ≤ smT f m ∧ smT f m ≤ smT f n := by
  induction n with
  | zero => intro m h; rw [show m = 0 by omega]; exact ⟨Int.le_refl _, Int.le_refl _⟩
  | succ n ih =>
    intro m h
    have h1 := hf n
    rw [smT]
    by_cases e : m = n + 1
    · subst e; rw [smT]; have := (ih n (by omega)).1; omega
    · have := ih m (by omega); omega
theorem odR_sm {ch : Int} (m : Nat) : ∀ (N : Int → Int) (x : Int), odR E F ch m N x = smT (fun ls => ptG E F ch m ls N x) (2 ^ m) := by
  induction m with
  | zero => intro N x; simp only [odR, Nat.pow_zero, smT, ptG]; omega
  | succ m ih =>
    intro N x
    rw [Nat.pow_succ, Nat.mul_comm, smT_2, odR, ih, ih]
    congr 1
    · exact smT_c _ (fun a _ => by show _ = ptG E F ch (m + 1) (2 * a) N x; rw [ptG, if_neg (by omega), show 2 * a / 2 = a by omega])
    · exact smT_c _ (fun a _ => by show _ = ptG E F ch (m + 1) (2 * a + 1) N x; rw [ptG, if_pos (by omega), show (2 * a + 1) / 2 = a by omega])
theorem bit_md {x k : Int} (hx : 0 ≤ x) (hk : 0 ≤ k) : ((((x / 2 ^ k.toNat).toNat &&& (1 : Int).toNat : Nat) : Int) = 1) ↔ (x.toNat / 2 ^ k.toNat) % 2 = 1 := by
  have e : (x / 2 ^ k.toNat).toNat = x.toNat / 2 ^ k.toNat := by
    obtain ⟨n, rfl⟩ : ∃ n : Nat, x = n := ⟨x.toNat, by omega⟩
    rw [show ((2 : Int) ^ k.toNat) = ((2 ^ k.toNat : Nat) : Int) by simp, ← Int.natCast_ediv]
    rfl
  rw [e, show (1 : Int).toNat = 1 from rfl, Nat.and_one_is_mod]
  omega
theorem lcmp0 {x : Int} (hx : 0 ≤ x) : (if x = 0 then (0 : Int) else if 0 < x then 1 else -1) = if x = 0 then 0 else 1 := by
  split
  · rfl
  · rw [if_pos (by omega)]
theorem l_parts {ls n ch : Int} (hls : 0 ≤ ls) (hc : 0 ≤ ch ∧ ch ≤ 100) (hn : n ≤ 6) (h0 : NtA sh rv iv 0) (hN : NtA sh rv iv 1) (hO : OtA sh rv) (hl : PlA sh rv iv E F) (hP : Prm E F) (hP2 : Prm2 E F) (m : Nat) : ∀ (i x : Int) (v7 : Option aV) (v8 : Option aV) (w N D O T S K C : Int → Int), (v8 = none ∧ a_lg v7 = true ∨ v7 = none ∧ v8 = none) → 0 ≤ i → i + m = n → (0 ≤ x ∧ x ≤ 1000000000) → Rel w N → Inv E F N → N 368 + m ≤ 14000 → ZK K → (∀ D' O' T' S' K' C' w' : Int → Int, ZK K' → R (some (aL (ptG E F ch m (ls.toNat / 2 ^ i.toNat) N x))) sh (uA (CD iv 1 D' O' T' S' K' C') (12 + 42 * 1) w') lw rv) → wp (d + 6) mX5_partsOf 19 [some (aR 51), some (aI ls), some (aI n), some (aI ch), some (aL (x)), none, some (aI i), v7, v8] [] sh (uA (CD iv 1 D O T S K C) (12 + 42 * 1) w) lw rv 0 0 R := by
  obtain ⟨hW1, hW2, hO1, hO2, hT1, hT2, hI1, hI2, hF1, hF2⟩ := id hP
  have fin : ∀ (x : Int) (w N D O T S K C : Int → Int), True := fun _ _ _ _ _ _ _ _ _ => trivial
  induction m with
  | zero =>
    intro i x v7 v8 w N D O T S K C hv h0' hm hx hR hI hf hK k
    have hB := hI.1
    have hrr : ∀ a : Int, 0 ≤ a → a < F 13 → RR N a := fun a x y => (hI.2.1 a x y).2.1
    refine wp_iload dX5_partsOf_19 rfl ?_
    refine wp_iload_n dX5_partsOf_21 rfl ?_
    refine wp_icmp_ge (tgt := 87) dX5_partsOf_22 rfl (fun h22 => ?_) (fun h22 => by exfalso; omega)
    refine wp_aload_n dX5_partsOf_87 rfl ?_
    refine wp_getR hO.2.2.1 dX5_partsOf_88 fX5_28 hO.1 ?_
    refine wp_callV (as := []) (ls0 := [_, _]) (kc := 0) (ks := 0) (bc' := 0) (bs' := 0) dX5_partsOf_91 vX5_68 hN.s11 rfl rfl (Nat.le_of_ble_eq_true rfl) (Nat.le_of_ble_eq_true rfl) (by omega) (by omega) ?_
    refine x_allAgree hN hl hP hR hB hrr (fun h91 => ?_) (fun h91 => ?_)
    · refine wp_if_eq (tgt := 102) dX5_partsOf_94 rfl (fun q => absurd q (by decide)) (fun _ => ?_)
      refine wp_lload dX5_partsOf_97 rfl ?_
      refine wp_goto (tgt := 103) dX5_partsOf_99 rfl ?_
      refine wp_lreturn dX5_partsOf_103 rfl ?_
      have hk := k D O T S K C w hK
      rw [ptG] at hk
      first | (rw [if_pos h91] at hk; exact hk) | (rw [if_neg h91] at hk; exact hk)
    · refine wp_if_eq (tgt := 102) dX5_partsOf_94 rfl (fun _ => ?_) (fun q => absurd q (by decide))
      refine wp_lconst0 dX5_partsOf_102 ?_
      refine wp_lreturn dX5_partsOf_103 rfl ?_
      have hk := k D O T S K C w hK
      rw [ptG] at hk
      first | (rw [if_pos h91] at hk; exact hk) | (rw [if_neg h91] at hk; exact hk)
  | succ m ih =>
    intro i x v7 v8 w N D O T S K C hv h0' hm hx hR hI hf hK k
    have hB := hI.1
    have hrr : ∀ a : Int, 0 ≤ a → a < F 13 → RR N a := fun a x y => (hI.2.1 a x y).2.1
    have hL := Inv.liv hP hI (by omega)
    have hd := drL_ok hP (F 13).toNat 0 N (by omega) (by omega) hI
    have hLd := Inv.liv hP hd.1 (by rw [hd.2.2]; omega)
    have hl' := lost_r hx hc
    have hbm := bit_md hls h0'
    have e2 : ls.toNat / 2 ^ i.toNat / 2 = ls.toNat / 2 ^ (i + 1).toNat := by rw [toN1 h0', Nat.pow_succ, Nat.div_div_eq_div_mul]
    refine wp_iload dX5_partsOf_19 rfl ?_
    refine wp_iload_n dX5_partsOf_21 rfl ?_
    refine wp_icmp_ge (tgt := 87) dX5_partsOf_22 rfl (fun h22 => by exfalso; omega) (fun h22 => ?_)
    refine wp_lload dX5_partsOf_25 rfl ?_
    refine wp_lconst0 dX5_partsOf_27 ?_
    refine wp_lcmp dX5_partsOf_28 ?_
    rw [lcmp0 hx.1]
    refine wp_if_le (tgt := 87) dX5_partsOf_29 rfl (fun h29 => ?_) (fun h29 => ?_)
    · skip
      refine wp_aload_n dX5_partsOf_87 rfl ?_
      refine wp_getR hO.2.2.1 dX5_partsOf_88 fX5_28 hO.1 ?_
      refine wp_callV (as := []) (ls0 := [_, _]) (kc := 0) (ks := 0) (bc' := 0) (bs' := 0) dX5_partsOf_91 vX5_68 hN.s11 rfl rfl (Nat.le_of_ble_eq_true rfl) (Nat.le_of_ble_eq_true rfl) (by omega) (by omega) ?_
      refine x_allAgree hN hl hP hR hB hrr (fun h91 => ?_) (fun h91 => ?_)
      · refine wp_if_eq (tgt := 102) dX5_partsOf_94 rfl (fun q => absurd q (by decide)) (fun _ => ?_)
        refine wp_lload dX5_partsOf_97 rfl ?_
        refine wp_goto (tgt := 103) dX5_partsOf_99 rfl ?_
        refine wp_lreturn dX5_partsOf_103 rfl ?_
        have hk := k D O T S K C w hK
        have ex : x = 0 := Classical.byContradiction (fun e => by rw [if_neg e] at h29; omega)
        subst ex
        rw [ptG_0] at hk
        exact hk
      · refine wp_if_eq (tgt := 102) dX5_partsOf_94 rfl (fun _ => ?_) (fun q => absurd q (by decide))
        refine wp_lconst0 dX5_partsOf_102 ?_
        refine wp_lreturn dX5_partsOf_103 rfl ?_
        have hk := k D O T S K C w hK
        have ex : x = 0 := Classical.byContradiction (fun e => by rw [if_neg e] at h29; omega)
        subst ex
        rw [ptG_0] at hk
        exact hk
    · refine wp_lload dX5_partsOf_32 rfl ?_
      refine wp_iload_n dX5_partsOf_34 rfl ?_
      refine wp_i2l dX5_partsOf_35 ?_
      refine wp_lmul_n dX5_partsOf_36 ⟨by omega, by omega⟩ ?_
      refine wp_ldc2 (v := 100) dX5_partsOf_37 zX5_89 rfl ⟨by decide, by decide⟩ ?_
      refine wp_ldiv dX5_partsOf_40 (by omega) (by decide) ?_
      have hst : wp (d + 6) mX5_partsOf 43 [some (aR 51), some (aI ls), some (aI n), some (aI ch), some (aL x), none, some (aI i), some (aL (x * ch / 100)), none] [] sh (uA (CD iv 1 D O T S K C) (12 + 42 * 1) w) lw rv 0 0 R := by
        refine wp_iload_n dX5_partsOf_43 rfl ?_
        refine wp_iload dX5_partsOf_44 rfl ?_
        refine wp_ishr dX5_partsOf_46 (by omega) (by omega) ?_
        refine wp_iconst dX5_partsOf_47 ?_
        refine wp_iand dX5_partsOf_48 (by first | exact bt_nn hls | decide) (by first | exact bt_nn hls | decide) ?_
        refine wp_iconst dX5_partsOf_49 ?_
        refine wp_icmp_ne (tgt := 67) dX5_partsOf_50 rfl (fun h50 => ?_) (fun h50 => ?_)
        · refine wp_lload dX5_partsOf_67 rfl ?_
          refine wp_lload dX5_partsOf_69 rfl ?_
          refine wp_lsub dX5_partsOf_71 ⟨by omega, by omega⟩ ?_
          refine wp_lstore (ls' := [_, _, _, _, _, _, _, _, _]) dX5_partsOf_72 (by decide) rfl rfl ?_
          refine wp_aload_n dX5_partsOf_74 rfl ?_
          refine wp_getR hO.2.2.2.1 dX5_partsOf_75 fX5_41 hO.1 ?_
          refine wp_callV (as := []) (ls0 := [_, _, _, _, _]) (kc := 0) (ks := 0) (bc' := 0) (bs' := 0) dX5_partsOf_78 vX5_52 hN.s41 rfl rfl (Nat.le_of_ble_eq_true rfl) (Nat.le_of_ble_eq_true rfl) (by omega) (by omega) ?_
          first
          | (refine f_passFrame hN hl hP hP2 hR hd.1 (by rw [hd.2.2]; omega) hK (fun w D O T S K C hR hK hC => ?_))
          | (refine f_passFrame hN hl hP hP2 hR hI (by omega) hK (fun w D O T S K C hR hK hC => ?_))
          refine wp_iinc (ls' := [_, _, _, _, _, _, _, _, _]) dX5_partsOf_81 (by decide) rfl rfl ⟨by omega, by omega⟩ rfl ?_
          refine wp_goto (tgt := 19) dX5_partsOf_84 rfl ?_
          first
          | exact ih _ _ _ _ _ _ _ _ _ _ _ _ (Or.inl ⟨rfl, rfl⟩) (by omega) (by omega) (by omega) hR hLd.1 (by rw [hLd.2.1, hd.2.2]; omega) hK (by rw [ptG, if_pos (hbm.mp h50), e2] at k; exact k)
          | exact ih _ _ _ _ _ _ _ _ _ _ _ _ (Or.inl ⟨rfl, rfl⟩) (by omega) (by omega) (by omega) hR hL.1 (by rw [hL.2.1]; omega) hK (by rw [ptG, if_neg (fun z => h50 (hbm.mpr z)), e2] at k; exact k)
        · refine wp_lload dX5_partsOf_53 rfl ?_
          refine wp_lstore (ls' := [_, _, _, _, _, _, _, _, _]) dX5_partsOf_55 (by decide) rfl rfl ?_
          refine wp_aload_n dX5_partsOf_57 rfl ?_
          refine wp_getR hO.2.2.1 dX5_partsOf_58 fX5_28 hO.1 ?_
          refine wp_callV (as := []) (ls0 := [_, _]) (kc := 0) (ks := 0) (bc' := 0) (bs' := 0) dX5_partsOf_61 vX5_91 hN.s11 rfl rfl (Nat.le_of_ble_eq_true rfl) (Nat.le_of_ble_eq_true rfl) (by omega) (by omega) ?_
          refine x_loseL hN hl hP hR (fun w hR => ?_)
          refine wp_goto (tgt := 74) dX5_partsOf_64 rfl ?_
          refine wp_aload_n dX5_partsOf_74 rfl ?_
          refine wp_getR hO.2.2.2.1 dX5_partsOf_75 fX5_41 hO.1 ?_
          refine wp_callV (as := []) (ls0 := [_, _, _, _, _]) (kc := 0) (ks := 0) (bc' := 0) (bs' := 0) dX5_partsOf_78 vX5_52 hN.s41 rfl rfl (Nat.le_of_ble_eq_true rfl) (Nat.le_of_ble_eq_true rfl) (by omega) (by omega) ?_
          first
          | (refine f_passFrame hN hl hP hP2 hR hd.1 (by rw [hd.2.2]; omega) hK (fun w D O T S K C hR hK hC => ?_))
          | (refine f_passFrame hN hl hP hP2 hR hI (by omega) hK (fun w D O T S K C hR hK hC => ?_))
          refine wp_iinc (ls' := [_, _, _, _, _, _, _, _, _]) dX5_partsOf_81 (by decide) rfl rfl ⟨by omega, by omega⟩ rfl ?_
          refine wp_goto (tgt := 19) dX5_partsOf_84 rfl ?_
          first
          | exact ih _ _ _ _ _ _ _ _ _ _ _ _ (Or.inl ⟨rfl, rfl⟩) (by omega) (by omega) (by omega) hR hLd.1 (by rw [hLd.2.1, hd.2.2]; omega) hK (by rw [ptG, if_pos (hbm.mp h50), e2] at k; exact k)
          | exact ih _ _ _ _ _ _ _ _ _ _ _ _ (Or.inl ⟨rfl, rfl⟩) (by omega) (by omega) (by omega) hR hL.1 (by rw [hL.2.1]; omega) hK (by rw [ptG, if_neg (fun z => h50 (hbm.mpr z)), e2] at k; exact k)
      rcases hv with ⟨rfl, hlg⟩ | ⟨rfl, rfl⟩
      · refine wp_lstore (ls' := [_, _, _, _, _, _, _, _, _]) dX5_partsOf_41 (by decide) rfl rfl ?_
        exact hst
      · refine wp_lstore (ls' := [_, _, _, _, _, _, _, _, _]) dX5_partsOf_41 (by decide) rfl rfl ?_
        exact hst
theorem o_parts {ls n ch : Int} (hls : 0 ≤ ls) (hc : 0 ≤ ch ∧ ch ≤ 100) (hn : 0 ≤ n ∧ n ≤ 6) (h0 : NtA sh rv iv 0) (hN : NtA sh rv iv 1) (hO : OtA sh rv) (hl : PlA sh rv iv E F) (hP : Prm E F) (hP2 : Prm2 E F) (hI : Inv E F N) (hK : ZK K) (hfr : N 368 ≤ 9999) (hR0 : Rel (iv 12) N) (k : ∀ D' O' T' S' K' C' w' : Int → Int, ZK K' → R (some (aL (ptG E F ch n.toNat ls.toNat N 1000000000))) sh (uA (CD iv 1 D' O' T' S' K' C') (12 + 42 * 1) w') lw rv) : wp (d + 6) mX5_partsOf 0 [some (aR 51), some (aI ls), some (aI n), some (aI ch), none, none, none, none, none] [] sh (uA (CD iv 1 D O T S K C) (12 + 42 * 1) w) lw rv 0 0 R := by
  refine wp_aload_n dX5_partsOf_0 rfl ?_
  refine wp_aload_n dX5_partsOf_1 rfl ?_
  refine wp_getR hO.2.1 dX5_partsOf_2 fX5_15 hO.1 ?_
  refine wp_getR h0.r11w dX5_partsOf_5 fX5_45 h0.s11 ?_
  refine wp_callV (as := [_]) (ls0 := [_, _]) (kc := 0) (ks := 0) (bc' := 0) (bs' := 0) dX5_partsOf_8 vX5_48 hO.1 rfl rfl (Nat.le_of_ble_eq_true rfl) (Nat.le_of_ble_eq_true rfl) (by omega) (by omega) ?_
  refine o_startFrom h0 hN hO hR0 (fun w hR => ?_)
  refine wp_ldc2 (v := 1000000000) dX5_partsOf_11 zX5_87 rfl ⟨by decide, by decide⟩ ?_
  refine wp_lstore (ls' := [_, _, _, _, _, _, _, _, _]) dX5_partsOf_14 (by decide) rfl rfl ?_
  refine wp_iconst dX5_partsOf_16 ?_
  refine wp_istore (ls' := [_, _, _, _, _, _, _, _, _]) dX5_partsOf_17 (by decide) rfl rfl ?_
  exact l_parts hls hc hn.2 h0 hN hO hl hP hP2 n.toNat 0 1000000000 none none _ _ _ _ _ _ _ _ (Or.inr ⟨rfl, rfl⟩) (by omega) (by omega) (by omega) hR hI (by omega) hK (by rw [show (0 : Int).toNat = 0 from rfl, Nat.pow_zero, Nat.div_one]; exact k)
end C20
