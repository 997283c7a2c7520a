def HopF (W : Int × Int × (Int → Int)) (E E' : aF) (F F' : Int → Int) : Prop := (∀ i : Nat, ¬ i = 2 → ¬ i = 3 → ¬ i = 4 → ¬ i = 7 → E' i = E i) ∧ E' 7 = cpR (E 7) W.2.2 0 W.2.1 ∧ (∀ j : Int, ¬ j = 2 → ¬ j = 3 → ¬ j = 4 → ¬ j = 8 → ¬ j = 9 → ¬ j = 14 → F' j = F j) ∧ F' 2 = 0 ∧ F' 14 = W.2.1
section C38a
variable {sh : aSh} {iv iv' E E' : aF} {rv : aP} {F F' N : Int → Int} {c : Int} {m : Nat} {W : Int × Int × (Int → Int)}
theorem HopF.r7 (h : HopF W E E' F F') {k : Int} (hk : 0 ≤ k ∧ k < W.2.1) : E' 7 k = W.2.2 k := by rw [h.2.1]; unfold cpR; rw [if_pos ⟨hk.1, hk.2⟩, show (0 : Int) + k = k by omega]
theorem Sim.hops (h : Sim c m sh iv rv E F N) (hW : (0 ≤ W.2.1 ∧ W.2.1 ≤ 16) ∧ ∀ k : Int, 0 ≤ k → k < W.2.1 → 0 ≤ W.2.2 k ∧ W.2.2 k ≤ 9) (hM : HopF W E E' F F')
    (e : ∀ i : Nat, ¬ Scr i → ¬ i = 1 → ¬ i = 3 → ¬ i = 6 → iv' i = iv i) (e1 : iv' 1 1 = 0) (e3 : iv' 3 3 = iv 3 3) (e34 : iv' 3 4 = W.2.1) (e6 : ∀ k : Int, 0 ≤ k → k < W.2.1 → iv' 6 k = W.2.2 k) : Sim c m sh iv' rv E' F' N := by
  obtain ⟨⟨h1, h2⟩, h3, h4, h5, h6, h7, h8, h9, ⟨t1, t2, t3, t4, t5, t6, t7⟩, h11⟩ := h
  obtain ⟨q1, q2, q4, q5, q6⟩ := id hM
  have eo : ∀ i : Nat, ¬ i = 2 → ¬ i = 3 → ¬ i = 4 → ¬ i = 7 → E' i = E i := q1
  have fo : ∀ j : Int, j = 13 ∨ j = 17 ∨ j = 25 ∨ j = 30 → F' j = F j := fun j hj => q4 j (by omega) (by omega) (by omega) (by omega) (by omega) (by omega)
  have e' : ∀ i : Nat, ((11 ≤ i ∧ i < 38) ∨ i = 41 ∨ i = 42 ∨ (45 ≤ i ∧ i < 52) ∨ (55 ≤ i ∧ i < 81) ∨ i = 84 ∨ i = 0 ∨ i = 2 ∨ i = 4 ∨ i = 5 ∨ 87 ≤ i) → iv' i = iv i := fun i hi => e i (by unfold Scr; omega) (by omega) (by omega) (by omega)
  have c1 : ClW sh iv' rv := h1.cg (fun i hi => e' i (by omega))
  have i5 : E' 5 = E 5 := eo 5 (by omega) (by omega) (by omega) (by omega)
  have f13 : F' 13 = F 13 := fo 13 (by omega)
  have qi : ∀ M : Int → Int, Inv E F M → Inv E' F' M := fun M hm => by unfold Inv at *; rw [i5, f13]; exact hm
  have qo : ∀ M : Int → Int, Okn E F M → Okn E' F' M := fun M hm => ⟨qi M hm.1, hm.2⟩
  have ek : ∀ r : Int, Kn E' r = Kn E r := fun r => by unfold Kn; rw [eo 14 (by omega) (by omega) (by omega) (by omega)]
  refine ⟨⟨c1, h2⟩, ?_, by rw [e' 12 (by omega)]; exact h4, by rw [e' 42 (by omega), e' 84 (by omega)]; exact h5, ?_, ?_, ?_, ?_, ⟨by rw [f13]; exact t1, ?_, t3, t4, by rw [eo 9 (by omega) (by omega) (by omega) (by omega)]; exact t5, by rw [fo 25 (by omega)]; exact t6, fun hh => ?_⟩, ?_⟩
  · obtain ⟨p1, p2, p3, p4, p5, p6, p7⟩ := c1.2.2.1
    obtain ⟨_, _, _, _, _, _, _, s8, _, s10, s11, _⟩ := h3
    refine ⟨p1, p2, p3, p4, p5, p6, p7, by rw [e3, f13]; exact s8, by rw [e34, q6], fun k a b => by rw [e' 4 (by omega), i5]; exact s10 k a b, fun k a b => by rw [f13] at b; rw [e' 5 (by omega), eo 6 (by omega) (by omega) (by omega) (by omega)]; exact s11 k a b, fun k a b => by rw [q6] at b; rw [e6 k a b, hM.r7 ⟨a, b⟩]⟩
  · exact ⟨by rw [e1, q5], by omega, fun i a b => by omega, fun i a b => by omega⟩
  · unfold RfR at *; rw [e' 87 (by omega), eo 9 (by omega) (by omega) (by omega) (by omega)]; exact h7
  · rw [e' 0 (by omega), fo 17 (by omega)]; exact h8
  · refine PsR.cg ?_ (iv := iv) (fun i hi => e' i (by omega))
    obtain ⟨g1, g2, g3, g4, g5, g6, g7, g8⟩ := h9
    refine ⟨by rw [fo 25 (by omega)]; exact g1, g2, g3, fun j a b => ?_, fun i j a b d => g5 i j a b (by rw [fo 25 (by omega)] at d; exact d), by rw [fo 30 (by omega)]; exact g6, fun hh => ?_, fun hh => by rw [f13]; exact g8 (by rw [fo 25 (by omega), fo 30 (by omega)] at hh; exact hh)⟩
    · rw [fo 25 (by omega)] at b ⊢
      have := g4 j a b
      rw [ek]
      exact ⟨this.1, this.2.1, qo _ this.2.2.1, this.2.2.2⟩
    · rw [fo 30 (by omega)] at hh
      have := g7 hh
      unfold ImR at *
      rw [eo 17 (by omega) (by omega) (by omega) (by omega)]
      exact ⟨this.1, qo _ this.2.1, this.2.2⟩
  · exact ⟨by omega, by omega, fun j a b => by rw [q6] at b; rw [hM.r7 ⟨a, b⟩]; exact hW.2 j a b⟩
  · rw [f13] at hh
    exact ⟨by have := (t7 hh).1; unfold Prm at *; rw [i5, f13]; exact this, qi _ (t7 hh).2⟩
  · unfold Nne at *; rw [eo 6 (by omega) (by omega) (by omega) (by omega), f13]; exact h11
end C38a
section C38
variable {d m : Nat} {sh : aSh} {iv lw E : aF} {rv : aP} {F N : Int → Int} {R : aPost} {c : Int}
theorem y_text {s : Int} (hS : Sim c m sh iv rv E F N) (km : s = 0 → (mshV (E 1) (F 2) (E 2) (E 3)).1 = -1 → ∀ iv' : aF, (∀ (E' : aF) (F' : Int → Int), MshF (mshV (E 1) (F 2) (E 2) (E 3)) E E' F F' → Sim c m sh iv' rv E' F' (tmN (E' 6) (mshV (E 1) (F 2) (E 2) (E 3)).2.1 (E' 5 4) N)) → R (some (aI (mshV (E 1) (F 2) (E 2) (E 3)).2.1)) sh iv' lw rv) (kh : s = 1 → (hopV (E 1) (F 2) (E 4)).1 = -1 → ∀ iv' : aF, (∀ (E' : aF) (F' : Int → Int), HopF (hopV (E 1) (F 2) (E 4)) E E' F F' → Sim c m sh iv' rv E' F' N) → R (some (aI (hopV (E 1) (F 2) (E 4)).2.1)) sh iv' lw rv) (kn : (s = 0 → ¬ (mshV (E 1) (F 2) (E 2) (E 3)).1 = -1) → (s = 1 → ¬ (hopV (E 1) (F 2) (E 4)).1 = -1) → ∀ iv' : aF, Sim c m sh iv' rv E F N → R (some (aI (-1))) sh iv' lw rv) : wp (d + 8) mX11_text 0 [some (aR 0), some (aI s)] [] sh iv lw rv 0 0 R := by
  by_cases hq : s = 0 ∧ (mshV (E 1) (F 2) (E 2) (E 3)).1 = -1
  · obtain ⟨hs, hv⟩ := hq
    have hB := mshV_b hS.tpr.2.1.1 hv
    have hb1 := hB.1
    obtain ⟨E0, hE0⟩ : ∃ E0 : aF, E0 = uA (uA E 5 (cpR (E 5) (mshV (E 1) (F 2) (E 2) (E 3)).2.2.1 0 5)) 6 (cpR (E 6) (mshV (E 1) (F 2) (E 2) (E 3)).2.2.2 0 24) := ⟨_, rfl⟩
    obtain ⟨F0, hF0⟩ : ∃ F0 : Int → Int, F0 = up (up (up (up F 2 0) 13 (mshV (E 1) (F 2) (E 2) (E 3)).2.1) 25 0) 30 0 := ⟨_, rfl⟩
    have hM0 : MshF (mshV (E 1) (F 2) (E 2) (E 3)) E E0 F F0 := by
      subst hE0 hF0
      exact ⟨fun i _ _ _ a b => by rw [uA_n b, uA_n a], by rw [uA_n (by decide), uA_s], by rw [uA_s], fun j a _ _ _ _ b d f => by rw [up_n f, up_n d, up_n b, up_n a], by rw [up_n (by decide), up_n (by decide), up_n (by decide), up_s], by rw [up_n (by decide), up_n (by decide), up_s], by rw [up_n (by decide), up_s], up_s⟩
    have hP0 := hM0.prm hB
    refine wp_iload_n dX11_text_0 rfl ?_
    refine wp_if_ne (tgt := 57) dX11_text_1 rfl (fun h1 => by exfalso; omega) (fun h1 => ?_)
    refine wp_aload_n dX11_text_4 rfl ?_
    refine wp_getR hS.hm.2.2.2.1 dX11_text_5 fX11_28 hS.hm.1 ?_
    refine wp_callV (as := []) (ls0 := [_, _, _]) (kc := 0) (ks := 0) (bc' := 0) (bs' := 0) dX11_text_8 vX11_100 hS.rd.1 rfl rfl (Nat.le_of_ble_eq_true rfl) (Nat.le_of_ble_eq_true rfl) (by omega) (by omega) ?_
    refine flR ?_
    refine p_meshFault (X2 := E 2) (Y2 := E 3) hS.rd hS.tp hS.tpr (fun _ a1 u1 q1 X1 Y1 hX hY => ?_) (fun z => absurd hv z)
    refine wp_iconst dX11_text_11 ?_
    refine wp_icmp_ne (tgt := 57) dX11_text_12 rfl (fun h12 => by exfalso; omega) (fun h12 => ?_)
    refine wp_aload_n dX11_text_15 rfl ?_
    refine wp_getR hS.hm.2.2.1 dX11_text_16 fX11_19 hS.hm.1 ?_
    refine wp_aload_n dX11_text_19 rfl ?_
    refine wp_getR hS.hm.2.2.2.1 dX11_text_20 fX11_28 hS.hm.1 ?_
    refine wp_callV (as := [_]) (ls0 := [_, _]) (kc := 0) (ks := 0) (bc' := 0) (bs' := 0) dX11_text_23 vX11_106 hS.pls.1 rfl rfl (Nat.le_of_ble_eq_true rfl) (Nat.le_of_ble_eq_true rfl) (by omega) (by omega) ?_
    refine n_takeMesh hS.pls hS.rd (fun iv1 f1 f2 f3 f4 => ?_)
    rw [CR7, RQ4] at f2
    rw [CR8] at f3
    rw [CR9] at f4
    have c0 : ∀ i : Nat, ¬ (7 ≤ i ∧ i < 11) → ∀ r X Y Z : Int → Int, CR iv r X Y Z i = iv i := fun i hi r X Y Z => by unfold CR; rw [uA_n (by omega), uA_n (by omega), uA_n (by omega), uA_n (by omega)]
    rw [c0 3 (by omega)] at f2
    have g1 : ∀ i : Nat, ¬ Scr i → ¬ i = 3 → ¬ i = 4 → ¬ i = 5 → iv1 i = iv i := fun i a b d f => by rw [f1 i b d f, c0 i (by unfold Scr at a; omega)]
    have v4 : ∀ k : Int, 0 ≤ k → k < 5 → iv1 4 k = (mshV (E 1) (F 2) (E 2) (E 3)).2.2.1 k := fun k a b => by rw [f3]; unfold cpyI; rw [if_pos (by omega), show (0 : Int) + (k - 0) = k by omega]; exact hX k a b
    have v5 : ∀ k : Int, 0 ≤ k → k < 4 * (mshV (E 1) (F 2) (E 2) (E 3)).2.1 → iv1 5 k = (mshV (E 1) (F 2) (E 2) (E 3)).2.2.2 k := fun k a b => by rw [f4]; unfold cpyI; rw [if_pos (by omega), show (0 : Int) + (k - 0) = k by omega]; exact hY k a b
    have hN1 : NtA sh rv iv1 0 := hS.n0.cg (fun i a b => g1 i (by unfold Scr; omega) (by omega) (by omega) (by omega))
    have hPl0 : PlA sh rv iv1 E0 F0 := by
      obtain ⟨p1, p2, p3, p4, p5, p6, p7⟩ := hS.pls
      obtain ⟨_, _, _, _, _, _, _, _, s9, _, _, s12⟩ := hS.plan
      have q14 : F0 14 = F 14 := hM0.2.2.2.1 14 (by omega) (by omega) (by omega) (by omega) (by omega) (by omega) (by omega) (by omega)
      refine ⟨p1, p2, p3, p4, p5, p6, p7, by rw [f2, up_s, hM0.2.2.2.2.2.1], by rw [f2, up_n (by omega), q14]; exact s9, fun k a b => by rw [v4 k a b, hM0.r5 ⟨a, b⟩], fun k a b => by rw [hM0.2.2.2.2.2.1] at b; rw [v5 k a b, hM0.r6 hB ⟨a, b⟩], fun k a b => ?_⟩
      rw [g1 6 (by unfold Scr; omega) (by omega) (by omega) (by omega), hM0.1 7 (by omega) (by omega) (by omega) (by omega) (by omega)]
      exact s12 k a (by rw [← q14]; exact b)
    refine wp_aload_n dX11_text_26 rfl ?_
    refine wp_getR hS.hm.2.2.2.2.1 dX11_text_27 fX11_37 hS.hm.1 ?_
    refine wp_callV (as := []) (ls0 := [_, _]) (kc := 0) (ks := 0) (bc' := 0) (bs' := 0) dX11_text_30 vX11_110 hS.n0.s11 rfl rfl (Nat.le_of_ble_eq_true rfl) (Nat.le_of_ble_eq_true rfl) (by omega) (by omega) ?_
    refine fl0 ?_
    refine x_startAnew (b := 0) (M := N) hN1 hPl0 hP0 (fun w1 hw1 => ?_)
    generalize hi2 : uA (CD iv1 0 (iv1 38) (iv1 39) (iv1 40) (iv1 43) (iv1 42) (iv1 44)) (12 + 42 * 0) w1 = iv2
    have g2 : ∀ i : Nat, ¬ i = 12 → iv2 i = iv1 i := fun i a => by
      have := congrFun (CS0id (iv := iv1)) i
      rw [← hi2, uA_n a]
      rw [uA_n a] at this
      exact this
    have w12 : iv2 12 = w1 := by rw [← hi2]; exact CSw
    refine wp_aload_n dX11_text_33 rfl ?_
    refine wp_getR hS.hm.2.2.2.2.2.2.2.1 dX11_text_34 fX11_62 hS.hm.1 ?_
    refine wp_callV (as := []) (ls0 := [_]) (kc := 0) (ks := 0) (bc' := 0) (bs' := 0) dX11_text_37 vX11_113 hS.ps.1 rfl rfl (Nat.le_of_ble_eq_true rfl) (Nat.le_of_ble_eq_true rfl) (by omega) (by omega) ?_
    refine flP ?_
    refine q_startAnew hS.ps ?_
    generalize hi3 : PW iv2 (up (up (up (iv2 45) 1 0) 5 0) 9 0) (iv2 46) (iv2 48) (iv2 12) (iv2 49) (iv2 50) = iv3
    have g3 : ∀ i : Nat, ¬ i = 45 → iv3 i = iv2 i := fun i a => by
      rw [← hi3]
      have := congrFun (PW_id (iv := iv2)) i
      unfold PW at *
      by_cases b1 : i = 50
      · rw [b1, uA_s]
      · by_cases b2 : i = 49
        · rw [b2, uA_n (by omega), uA_s]
        · by_cases b3 : i = 12
          · rw [b3, uA_n (by omega), uA_n (by omega), uA_s]
          · by_cases b4 : i = 48
            · rw [b4, uA_n (by omega), uA_n (by omega), uA_n (by omega), uA_s]
            · by_cases b5 : i = 46
              · rw [b5, uA_n (by omega), uA_n (by omega), uA_n (by omega), uA_n (by omega), uA_s]
              · rw [uA_n b1, uA_n b2, uA_n b3, uA_n b4, uA_n b5, uA_n a]
    have w45 : iv3 45 = up (up (up (iv2 45) 1 0) 5 0) 9 0 := by rw [← hi3]; exact PW45
    refine wp_aload_n dX11_text_40 rfl ?_
    refine wp_getR hS.hm.2.1 dX11_text_41 fX11_10 hS.hm.1 ?_
    refine wp_iconst dX11_text_44 ?_
    refine wp_callV (as := [_]) (ls0 := [_, _]) (kc := 0) (ks := 0) (bc' := 0) (bs' := 0) dX11_text_45 vX11_97 hS.tp.1 rfl rfl (Nat.le_of_ble_eq_true rfl) (Nat.le_of_ble_eq_true rfl) (by omega) (by omega) ?_
    have l11 : iv3 1 1 = F 2 := by rw [g3 1 (by omega), g2 1 (by omega), g1 1 (by unfold Scr; omega) (by omega) (by omega) (by omega)]; exact hS.tpr.1
    have hF20 := hS.tpr.2.1
    refine flT ?_
    refine p_cutTo hS.tp l11 (fun _ => ?_) (fun z => absurd ⟨by omega, by omega⟩ z)
    generalize hi4 : TW iv3 (up (iv3 1) 1 0) (iv3 2) = iv4
    have g4 : ∀ i : Nat, ¬ i = 1 → iv4 i = iv3 i := fun i a => by
      rw [← hi4]; unfold TW
      by_cases b1 : i = 2
      · rw [b1, uA_s]
      · rw [uA_n b1, uA_n a]
    have w11 : iv4 1 1 = 0 := by rw [← hi4, TW1, up_s]
    have hAll : ∀ (E' : aF) (F' : Int → Int), MshF (mshV (E 1) (F 2) (E 2) (E 3)) E E' F F' → Sim c m sh iv4 rv E' F' (tmN (E' 6) (mshV (E 1) (F 2) (E 2) (E 3)).2.1 (E' 5 4) N) := fun E' F' hM => by
      have e56 : E' 5 = E0 5 ∧ E' 6 = E0 6 := ⟨hM.2.1.trans hM0.2.1.symm, hM.2.2.1.trans hM0.2.2.1.symm⟩
      refine hS.mesh hB hM (fun i a b d f g j l => ?_) w11 ?_ ?_ (fun k a b => ?_) (fun k a b => ?_) ?_ ?_
      · rw [g4 i b, g3 i l, g2 i j, g1 i a d f g]
      · rw [g4 3 (by omega), g3 3 (by omega), g2 3 (by omega), f2, up_s]
      · rw [g4 3 (by omega), g3 3 (by omega), g2 3 (by omega), f2, up_n (by omega)]
      · rw [g4 4 (by omega), g3 4 (by omega), g2 4 (by omega)]; exact v4 k a b
      · rw [g4 5 (by omega), g3 5 (by omega), g2 5 (by omega)]; exact v5 k a b
      · rw [g4 12 (by omega), g3 12 (by omega), w12, e56.1, e56.2, ← hM0.2.2.2.2.2.1]; exact hw1
      · rw [g4 45 (by omega), w45, g2 45 (by omega), g1 45 (by unfold Scr; omega) (by omega) (by omega) (by omega)]
    refine wp_pop dX11_text_48 rfl ?_
    refine wp_aload_n dX11_text_49 rfl ?_
    refine wp_getR hS.hm.2.2.1 dX11_text_50 fX11_19 hS.hm.1 ?_
    refine wp_callV (as := []) (ls0 := [_]) (kc := 0) (ks := 0) (bc' := 0) (bs' := 0) dX11_text_53 vX11_114 hS.pls.1 rfl rfl (Nat.le_of_ble_eq_true rfl) (Nat.le_of_ble_eq_true rfl) (by omega) (by omega) ?_
    refine n_pairs (hAll E0 F0 hM0).plan ?_
    rw [hM0.2.2.2.2.2.1]
    refine wp_ireturn dX11_text_56 rfl ?_
    exact km hs hv _ hAll
  · by_cases hh : s = 1 ∧ (hopV (E 1) (F 2) (E 4)).1 = -1
    · obtain ⟨hs, hv⟩ := hh
      have hW := hpL_b (t := E 1) (n := F 2) (F 2).toNat 0 0 (E 4) (by omega) (fun k a b => by omega)
      have hb1 := hW.1
      rw [show hpL (E 1) (F 2) (F 2).toNat 0 0 (E 4) = (hopV (E 1) (F 2) (E 4)) from rfl] at hW hb1
      obtain ⟨E0, hE0⟩ : ∃ E0 : aF, E0 = uA E 7 (cpR (E 7) (hopV (E 1) (F 2) (E 4)).2.2 0 (hopV (E 1) (F 2) (E 4)).2.1) := ⟨_, rfl⟩
      obtain ⟨F0, hF0⟩ : ∃ F0 : Int → Int, F0 = up (up F 2 0) 14 (hopV (E 1) (F 2) (E 4)).2.1 := ⟨_, rfl⟩
      have hM0 : HopF (hopV (E 1) (F 2) (E 4)) E E0 F F0 := by
        subst hE0 hF0
        exact ⟨fun i _ _ _ a => uA_n a, uA_s, fun j a _ _ _ _ b => by rw [up_n b, up_n a], by rw [up_n (by decide), up_s], up_s⟩
      refine wp_iload_n dX11_text_0 rfl ?_
      refine wp_if_ne (tgt := 57) dX11_text_1 rfl (fun h1 => ?_) (fun h1 => by exfalso; omega)
      refine wp_iload_n dX11_text_57 rfl ?_
      refine wp_iconst dX11_text_58 ?_
      refine wp_icmp_ne (tgt := 101) dX11_text_59 rfl (fun h59 => by exfalso; omega) (fun h59 => ?_)
      refine wp_aload_n dX11_text_62 rfl ?_
      refine wp_getR hS.hm.2.2.2.1 dX11_text_63 fX11_28 hS.hm.1 ?_
      refine wp_callV (as := []) (ls0 := [_, _, _]) (kc := 0) (ks := 0) (bc' := 0) (bs' := 0) dX11_text_66 vX11_103 hS.rd.1 rfl rfl (Nat.le_of_ble_eq_true rfl) (Nat.le_of_ble_eq_true rfl) (by omega) (by omega) ?_
      refine flR ?_
      refine p_hopsFault (Z2 := E 4) hS.rd hS.tp hS.tpr (fun _ Z1 hZ => ?_) (fun z => absurd hv z)
      refine wp_iconst dX11_text_69 ?_
      refine wp_icmp_ne (tgt := 101) dX11_text_70 rfl (fun h70 => by exfalso; omega) (fun h70 => ?_)
      refine wp_aload_n dX11_text_73 rfl ?_
      refine wp_getR hS.hm.2.2.1 dX11_text_74 fX11_19 hS.hm.1 ?_
      refine wp_aload_n dX11_text_77 rfl ?_
      refine wp_getR hS.hm.2.2.2.1 dX11_text_78 fX11_28 hS.hm.1 ?_
      refine wp_callV (as := [_]) (ls0 := [_, _]) (kc := 0) (ks := 0) (bc' := 0) (bs' := 0) dX11_text_81 vX11_117 hS.pls.1 rfl rfl (Nat.le_of_ble_eq_true rfl) (Nat.le_of_ble_eq_true rfl) (by omega) (by omega) ?_
      refine n_takeHops hS.pls hS.rd (fun iv1 f1 f2 f3 => ?_)
      rw [CR7, RQ5] at f2
      rw [CR10] at f3
      have c0 : ∀ i : Nat, ¬ (7 ≤ i ∧ i < 11) → ∀ r X Y Z : Int → Int, CR iv r X Y Z i = iv i := fun i hi r X Y Z => by unfold CR; rw [uA_n (by omega), uA_n (by omega), uA_n (by omega), uA_n (by omega)]
      rw [c0 3 (by omega)] at f2
      have g1 : ∀ i : Nat, ¬ Scr i → ¬ i = 3 → ¬ i = 6 → iv1 i = iv i := fun i a b d => by rw [f1 i b d, c0 i (by unfold Scr at a; omega)]
      have v6 : ∀ k : Int, 0 ≤ k → k < (hopV (E 1) (F 2) (E 4)).2.1 → iv1 6 k = (hopV (E 1) (F 2) (E 4)).2.2 k := fun k a b => by rw [f3]; unfold cpyI; rw [if_pos (by omega), show (0 : Int) + (k - 0) = k by omega]; exact hZ k a b
      refine wp_aload_n dX11_text_84 rfl ?_
      refine wp_getR hS.hm.2.1 dX11_text_85 fX11_10 hS.hm.1 ?_
      refine wp_iconst dX11_text_88 ?_
      refine wp_callV (as := [_]) (ls0 := [_, _]) (kc := 0) (ks := 0) (bc' := 0) (bs' := 0) dX11_text_89 vX11_97 hS.tp.1 rfl rfl (Nat.le_of_ble_eq_true rfl) (Nat.le_of_ble_eq_true rfl) (by omega) (by omega) ?_
      have l11 : iv1 1 1 = F 2 := by rw [g1 1 (by unfold Scr; omega) (by omega) (by omega)]; exact hS.tpr.1
      have hF20 := hS.tpr.2.1
      refine flT ?_
      refine p_cutTo hS.tp l11 (fun _ => ?_) (fun z => absurd ⟨by omega, by omega⟩ z)
      generalize hi4 : TW iv1 (up (iv1 1) 1 0) (iv1 2) = iv4
      have g4 : ∀ i : Nat, ¬ i = 1 → iv4 i = iv1 i := fun i a => by
        rw [← hi4]; unfold TW
        by_cases b1 : i = 2
        · rw [b1, uA_s]
        · rw [uA_n b1, uA_n a]
      have w11 : iv4 1 1 = 0 := by rw [← hi4, TW1, up_s]
      have hAll : ∀ (E' : aF) (F' : Int → Int), HopF (hopV (E 1) (F 2) (E 4)) E E' F F' → Sim c m sh iv4 rv E' F' N := fun E' F' hM => by
        refine hS.hops hW hM (fun i a b d f => ?_) w11 ?_ ?_ (fun k a b => ?_)
        · rw [g4 i b, g1 i a d f]
        · rw [g4 3 (by omega), f2, up_n (by omega)]
        · rw [g4 3 (by omega), f2, up_s]
        · rw [g4 6 (by omega)]; exact v6 k a b
      refine wp_pop dX11_text_92 rfl ?_
      refine wp_aload_n dX11_text_93 rfl ?_
      refine wp_getR hS.hm.2.2.1 dX11_text_94 fX11_19 hS.hm.1 ?_
      refine wp_callV (as := []) (ls0 := [_]) (kc := 0) (ks := 0) (bc' := 0) (bs' := 0) dX11_text_97 vX11_120 hS.pls.1 rfl rfl (Nat.le_of_ble_eq_true rfl) (Nat.le_of_ble_eq_true rfl) (by omega) (by omega) ?_
      refine n_hopCount (hAll E0 F0 hM0).plan ?_
      rw [hM0.2.2.2.2]
      refine wp_ireturn dX11_text_100 rfl ?_
      exact kh hs hv _ hAll
    · have hf13 := hS.f13
      refine wp_iload_n dX11_text_0 rfl ?_
      refine wp_if_ne (tgt := 57) dX11_text_1 rfl (fun h1 => ?_) (fun h1 => ?_)
      · refine wp_iload_n dX11_text_57 rfl ?_
        refine wp_iconst dX11_text_58 ?_
        refine wp_icmp_ne (tgt := 101) dX11_text_59 rfl (fun h59 => ?_) (fun h59 => ?_)
        · refine wp_iconst dX11_text_101 ?_
          refine wp_ireturn dX11_text_102 rfl ?_
          first | exact kn (fun a b => hq ⟨a, b⟩) (fun a b => hh ⟨a, b⟩) _ hS | (exfalso; omega)
        · refine wp_aload_n dX11_text_62 rfl ?_
          refine wp_getR hS.hm.2.2.2.1 dX11_text_63 fX11_28 hS.hm.1 ?_
          refine wp_callV (as := []) (ls0 := [_, _, _]) (kc := 0) (ks := 0) (bc' := 0) (bs' := 0) dX11_text_66 vX11_103 hS.rd.1 rfl rfl (Nat.le_of_ble_eq_true rfl) (Nat.le_of_ble_eq_true rfl) (by omega) (by omega) ?_
          refine flR ?_
          refine p_hopsFault (Z2 := E 4) hS.rd hS.tp hS.tpr (fun z => absurd z (fun y => hh ⟨by omega, y⟩)) (fun hv2 h1 Z1 => ?_)
          replace hS := Sim.sr (r := RQ (iv 7) (iv 7 4) h1 (iv 7 6) (iv 7 7) (iv 7 8)) (X := iv 8) (Y := iv 9) (Z := Z1) hS
          refine wp_iconst dX11_text_69 ?_
          refine wp_icmp_ne (tgt := 101) dX11_text_70 rfl (fun h70 => ?_) (fun h70 => by exfalso; omega)
          refine wp_iconst dX11_text_101 ?_
          refine wp_ireturn dX11_text_102 rfl ?_
          first | exact kn (fun a b => hq ⟨a, b⟩) (fun a b => hh ⟨a, b⟩) _ hS | (exfalso; omega)
      · refine wp_aload_n dX11_text_4 rfl ?_
        refine wp_getR hS.hm.2.2.2.1 dX11_text_5 fX11_28 hS.hm.1 ?_
        refine wp_callV (as := []) (ls0 := [_, _, _]) (kc := 0) (ks := 0) (bc' := 0) (bs' := 0) dX11_text_8 vX11_100 hS.rd.1 rfl rfl (Nat.le_of_ble_eq_true rfl) (Nat.le_of_ble_eq_true rfl) (by omega) (by omega) ?_
        refine flR ?_
        refine p_meshFault (X2 := E 2) (Y2 := E 3) hS.rd hS.tp hS.tpr (fun z => absurd z (fun y => hq ⟨by omega, y⟩)) (fun hv a1 u1 q1 p1 X1 Y1 => ?_)
        replace hS := Sim.sr (r := RQ (iv 7) p1 (iv 7 5) q1 a1 u1) (X := X1) (Y := Y1) (Z := iv 10) hS
        refine wp_iconst dX11_text_11 ?_
        refine wp_icmp_ne (tgt := 57) dX11_text_12 rfl (fun h12 => ?_) (fun h12 => by exfalso; omega)
        refine wp_iload_n dX11_text_57 rfl ?_
        refine wp_iconst dX11_text_58 ?_
        refine wp_icmp_ne (tgt := 101) dX11_text_59 rfl (fun h59 => ?_) (fun h59 => ?_)
        · refine wp_iconst dX11_text_101 ?_
          refine wp_ireturn dX11_text_102 rfl ?_
          first | exact kn (fun a b => hq ⟨a, b⟩) (fun a b => hh ⟨a, b⟩) _ hS | (exfalso; omega)
        · refine wp_aload_n dX11_text_62 rfl ?_
          refine wp_getR hS.hm.2.2.2.1 dX11_text_63 fX11_28 hS.hm.1 ?_
          refine wp_callV (as := []) (ls0 := [_, _, _]) (kc := 0) (ks := 0) (bc' := 0) (bs' := 0) dX11_text_66 vX11_103 hS.rd.1 rfl rfl (Nat.le_of_ble_eq_true rfl) (Nat.le_of_ble_eq_true rfl) (by omega) (by omega) ?_
          refine flR ?_
          refine p_hopsFault (Z2 := E 4) hS.rd hS.tp hS.tpr (fun z => absurd z (fun y => hh ⟨by omega, y⟩)) (fun hv2 h1 Z1 => ?_)
          replace hS := Sim.sr (r := RQ (iv 7) (iv 7 4) h1 (iv 7 6) (iv 7 7) (iv 7 8)) (X := iv 8) (Y := iv 9) (Z := Z1) hS
          refine wp_iconst dX11_text_69 ?_
          refine wp_icmp_ne (tgt := 101) dX11_text_70 rfl (fun h70 => ?_) (fun h70 => by exfalso; omega)
          refine wp_iconst dX11_text_101 ?_
          refine wp_ireturn dX11_text_102 rfl ?_
          first | exact kn (fun a b => hq ⟨a, b⟩) (fun a b => hh ⟨a, b⟩) _ hS | (exfalso; omega)
end C38
