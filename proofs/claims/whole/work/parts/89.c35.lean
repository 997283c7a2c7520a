section C35a
variable {sh : aSh} {iv iv' E E' : aF} {rv : aP} {F F' N r X Y Z : Int → Int} {c : Int} {m : Nat}
theorem Sim.sr (h : Sim c m sh iv rv E F N) : Sim c m sh (CR iv r X Y Z) rv E F N := by
  have e : ∀ i : Nat, ¬ (7 ≤ i ∧ i < 11) → CR iv r X Y Z i = iv i := fun i hi => by unfold CR; rw [uA_n (by omega), uA_n (by omega), uA_n (by omega), uA_n (by omega)]
  exact h.scr (fun i a _ _ => e i (by unfold Scr at a; omega)) (by rw [e 42 (by omega)]; exact h.z0) (by rw [e 84 (by omega)]; exact h.z1)
theorem Sim.tape (hS : Sim c m sh iv rv E F N) (e : ∀ i : Nat, ¬ i = 1 → ¬ i = 2 → iv' i = iv i) (eo : ∀ i : Nat, ¬ i = 1 → E' i = E i) (fo : ∀ j : Int, ¬ j = 2 → F' j = F j) (ht : TpR iv' (E' 1) (F' 2)) : Sim c m sh iv' rv E' F' N := by
  have qp : EqP E E' F F' := ⟨eo 5 (by omega), eo 6 (by omega), eo 7 (by omega), fo 13 (by omega), fo 14 (by omega)⟩
  have ek : ∀ r : Int, Kn E' r = Kn E r := fun r => by unfold Kn; rw [eo 14 (by omega)]
  obtain ⟨⟨h1, h2⟩, h3, h4, h5, h6, h7, h8, h9, ⟨t1, t2, t3, t4, t5, t6, t7⟩, h11⟩ := hS
  have hc1 : ClW sh iv' rv := h1.cg (fun i hi => e i (by omega) (by omega))
  refine ⟨⟨hc1, h2⟩, Sim.pl' hc1 h3 (fun i a b => e i (by omega) (by omega)) qp, by rw [e 12 (by omega) (by omega)]; exact h4, by rw [e 42 (by omega) (by omega), e 84 (by omega) (by omega)]; exact h5, ht, ?_, ?_, ?_, ⟨by rw [fo 13 (by omega)]; exact t1, Prm2_q qp t2, t3, t4, by rw [eo 9 (by omega)]; exact t5, by rw [fo 25 (by omega)]; exact t6, fun hh => by rw [fo 13 (by omega)] at hh; exact ⟨Prm_q qp (t7 hh).1, Inv_q qp (t7 hh).2⟩⟩, ?_⟩
  · unfold RfR at *; rw [e 87 (by omega) (by omega), eo 9 (by omega)]; exact h7
  · rw [e 0 (by omega) (by omega), fo 17 (by omega)]; exact h8
  · refine PsR.cg ?_ (iv := iv) (fun i hi => e i (by omega) (by omega))
    obtain ⟨g1, g2, g3, g4, g5, g6, g7, g8⟩ := h9
    refine ⟨by rw [fo 25 (by omega)]; exact g1, g2, g3, fun j a b => ?_, fun i j a b d => g5 i j a b (by rw [fo 25 (by omega)] at d; exact d), by rw [fo 30 (by omega)]; exact g6, fun hh => ?_, fun hh => by rw [fo 13 (by omega)]; exact g8 (by rw [fo 25 (by omega), fo 30 (by omega)] at hh; exact hh)⟩
    · rw [fo 25 (by omega)] at b ⊢
      have := g4 j a b
      rw [ek]
      exact ⟨this.1, this.2.1, this.2.2.1.q qp, this.2.2.2⟩
    · rw [fo 30 (by omega)] at hh
      have := g7 hh
      unfold ImR at *
      rw [eo 17 (by omega)]
      exact ⟨this.1, this.2.1.q qp, this.2.2⟩
  · unfold Nne at *; rw [eo 6 (by omega), fo 13 (by omega)]; exact h11
theorem apN_4 {f : Int → Int} {n : Int} : apN f 4 0 n = n + cntP (fun j => ¬ f j = 0) 4 := by
  have := apN_cnt (f := f) 4 0 n
  rw [show ((0 : Nat) : Int) = 0 from rfl, show 0 + 4 = 4 from rfl] at this
  rw [this]
  show n + (cntP _ 4 - 0) = _
  omega
theorem byF_w {a b c e f j : Int} (h : 0 ≤ j ∧ j < 4) : byF a b c e f (0 + j) = bw a (0 + j) ∧ byF a b c e f (4 + j) = bw b (0 + j) ∧ byF a b c e f (8 + j) = bw c (0 + j) ∧ byF a b c e f (12 + j) = bw e (0 + j) ∧ byF a b c e f (16 + j) = bw f (0 + j) := by
  unfold byF bw
  refine ⟨?_, ?_, ?_, ?_, ?_⟩
  · rw [if_pos (by omega), show (0 + j) % 4 = 0 + j by omega]
  · rw [if_neg (by omega), if_pos (by omega), show (4 + j) % 4 = 0 + j by omega]
  · rw [if_neg (by omega), if_neg (by omega), if_pos (by omega), show (8 + j) % 4 = 0 + j by omega]
  · rw [if_neg (by omega), if_neg (by omega), if_neg (by omega), if_pos (by omega), show (12 + j) % 4 = 0 + j by omega]
  · rw [if_neg (by omega), if_neg (by omega), if_neg (by omega), if_neg (by omega), show (16 + j) % 4 = 0 + j by omega]
theorem ap_20 {a b c e f n : Int} {t : Int → Int} : apN (byF a b c e f) 20 0 n = apN (bw f) 4 0 (apN (bw e) 4 0 (apN (bw c) 4 0 (apN (bw b) 4 0 (apN (bw a) 4 0 n)))) ∧ apT (byF a b c e f) 20 0 n t = apT (bw f) 4 0 (apN (bw e) 4 0 (apN (bw c) 4 0 (apN (bw b) 4 0 (apN (bw a) 4 0 n)))) (apT (bw e) 4 0 (apN (bw c) 4 0 (apN (bw b) 4 0 (apN (bw a) 4 0 n))) (apT (bw c) 4 0 (apN (bw b) 4 0 (apN (bw a) 4 0 n)) (apT (bw b) 4 0 (apN (bw a) 4 0 n) (apT (bw a) 4 0 n t)))) := by
  have g0 := fun (n : Int) (t : Int → Int) => ap_cg (f := byF a b c e f) (g := bw a) 4 0 0 n t (fun j h0 h1 => (byF_w ⟨h0, h1⟩).1)
  have g1 := fun (n : Int) (t : Int → Int) => ap_cg (f := byF a b c e f) (g := bw b) 4 4 0 n t (fun j h0 h1 => (byF_w ⟨h0, h1⟩).2.1)
  have g2 := fun (n : Int) (t : Int → Int) => ap_cg (f := byF a b c e f) (g := bw c) 4 8 0 n t (fun j h0 h1 => (byF_w ⟨h0, h1⟩).2.2.1)
  have g3 := fun (n : Int) (t : Int → Int) => ap_cg (f := byF a b c e f) (g := bw e) 4 12 0 n t (fun j h0 h1 => (byF_w ⟨h0, h1⟩).2.2.2.1)
  have g4 := fun (n : Int) (t : Int → Int) => ap_cg (f := byF a b c e f) (g := bw f) 4 16 0 n t (fun j h0 h1 => (byF_w ⟨h0, h1⟩).2.2.2.2)
  have s1 := fun (n : Int) (t : Int → Int) => And.intro (apN_add (f := byF a b c e f) 4 16 0 n) (apT_add (f := byF a b c e f) 4 16 0 n t)
  have s2 := fun (n : Int) (t : Int → Int) => And.intro (apN_add (f := byF a b c e f) 4 12 4 n) (apT_add (f := byF a b c e f) 4 12 4 n t)
  have s3 := fun (n : Int) (t : Int → Int) => And.intro (apN_add (f := byF a b c e f) 4 8 8 n) (apT_add (f := byF a b c e f) 4 8 8 n t)
  have s4 := fun (n : Int) (t : Int → Int) => And.intro (apN_add (f := byF a b c e f) 4 4 12 n) (apT_add (f := byF a b c e f) 4 4 12 n t)
  refine ⟨?_, ?_⟩
  · rw [show (20 : Nat) = 4 + 16 from rfl, (s1 n t).1, (g0 n t).1, show (0 : Int) + ((4 : Nat) : Int) = 4 from rfl, show (16 : Nat) = 4 + 12 from rfl, (s2 _ t).1, (g1 _ t).1, show (4 : Int) + ((4 : Nat) : Int) = 8 from rfl, show (12 : Nat) = 4 + 8 from rfl, (s3 _ t).1, (g2 _ t).1, show (8 : Int) + ((4 : Nat) : Int) = 12 from rfl, show (8 : Nat) = 4 + 4 from rfl, (s4 _ t).1, (g3 _ t).1, show (12 : Int) + ((4 : Nat) : Int) = 16 from rfl, (g4 _ t).1]
  · rw [show (20 : Nat) = 4 + 16 from rfl, (s1 n t).2, (g0 n t).1, (g0 n t).2, show (0 : Int) + ((4 : Nat) : Int) = 4 from rfl, show (16 : Nat) = 4 + 12 from rfl, (s2 _ _).2, (g1 _ t).1, (g1 _ _).2, show (4 : Int) + ((4 : Nat) : Int) = 8 from rfl, show (12 : Nat) = 4 + 8 from rfl, (s3 _ _).2, (g2 _ t).1, (g2 _ _).2, show (8 : Int) + ((4 : Nat) : Int) = 12 from rfl, show (8 : Nat) = 4 + 4 from rfl, (s4 _ _).2, (g3 _ t).1, (g3 _ _).2, show (12 : Int) + ((4 : Nat) : Int) = 16 from rfl, (g4 _ _).2]
end C35a
section C35
variable {d m : Nat} {sh : aSh} {iv lw E : aF} {rv : aP} {F N : Int → Int} {R : aPost} {c : Int}
theorem y_end {n : Int} (hS : Sim c m sh iv rv E F N) (kt : 0 ≤ n ∧ n ≤ F 2 → ∀ iv' : aF, Sim c m sh iv' rv E (up F 2 n) N → R (some (aI 1)) sh iv' lw rv) (kf : ¬ (0 ≤ n ∧ n ≤ F 2) → R (some (aI 0)) sh iv lw rv) : wp (d + 1) mX11_end 0 [some (aR 0), some (aI n)] [] sh iv lw rv 0 0 R := by
  obtain ⟨q1, q2, q3, q4⟩ := id hS.tpr
  refine wp_aload_n dX11_end_0 rfl ?_
  refine wp_getR hS.hm.2.1 dX11_end_1 fX11_10 hS.hm.1 ?_
  refine wp_iload_n dX11_end_4 rfl ?_
  refine wp_callV (as := [_]) (ls0 := [_, _]) (kc := 0) (ks := 0) (bc' := 0) (bs' := 0) dX11_end_5 vX11_97 hS.tp.1 rfl rfl (Nat.le_of_ble_eq_true rfl) (Nat.le_of_ble_eq_true rfl) (by omega) (by omega) ?_
  refine flT ?_
  refine p_cutTo hS.tp q1 (fun h5 => ?_) (fun h5 => ?_)
  · refine wp_zreturn dX11_end_8 rfl (Or.inr rfl) ?_
    refine kt h5 _ (hS.tape (fun i a b => by unfold TW; rw [uA_n b, uA_n a]) (fun _ _ => rfl) (fun j hj => up_n hj) ⟨?_, ?_, fun i a b => ?_, fun i a b => ?_⟩)
    · rw [TW1, up_s, up_s]
    · rw [up_s]; omega
    · rw [up_s] at b; rw [TW2]; exact q3 i a (by omega)
    · rw [up_s] at b; exact q4 i a (by omega)
  · rw [TW_id]
    refine wp_zreturn dX11_end_8 rfl (Or.inl rfl) ?_
    exact kf h5
theorem y_fault {s : Int} (hS : Sim c m sh iv rv E F N) (k : ∀ iv' : aF, Sim c m sh iv' rv E F N → R (some (aI (aFault E F s))) sh iv' lw rv) : wp (d + 7) mX11_fault 0 [some (aR 0), some (aI s)] [] sh iv lw rv 0 0 R := by
  unfold aFault at k
  refine wp_iload_n dX11_fault_0 rfl ?_
  refine wp_if_ne (tgt := 12) dX11_fault_1 rfl (fun h1 => ?_) (fun h1 => ?_)
  · refine wp_iload_n dX11_fault_12 rfl ?_
    refine wp_iconst dX11_fault_13 ?_
    refine wp_icmp_ne (tgt := 27) dX11_fault_14 rfl (fun h14 => ?_) (fun h14 => ?_)
    · refine wp_bipush dX11_fault_27 ?_
      refine wp_ireturn dX11_fault_29 rfl ?_
      have kk := k _ hS
      rw [if_neg (by omega), if_neg (by omega)] at kk; exact kk
    · refine wp_aload_n dX11_fault_17 rfl ?_
      refine wp_getR hS.hm.2.2.2.1 dX11_fault_18 fX11_28 hS.hm.1 ?_
      refine wp_callV (as := []) (ls0 := [_, _, _]) (kc := 0) (ks := 0) (bc' := 0) (bs' := 0) dX11_fault_21 vX11_103 hS.rd.1 rfl rfl (Nat.le_of_ble_eq_true rfl) (Nat.le_of_ble_eq_true rfl) (by omega) (by omega) ?_
      refine flR ?_
      refine p_hopsFault (Z2 := E 4) hS.rd hS.tp hS.tpr (fun hv Z1 hZ => ?_) (fun hv h1 Z1 => ?_)
      all_goals
        refine wp_goto (tgt := 29) dX11_fault_24 rfl ?_
        refine wp_ireturn dX11_fault_29 rfl ?_
        rw [if_neg (by omega), if_pos (by omega)] at k
        first | exact k _ (Sim.sr hS) | (rw [hv] at k; exact k _ (Sim.sr hS))
  · refine wp_aload_n dX11_fault_4 rfl ?_
    refine wp_getR hS.hm.2.2.2.1 dX11_fault_5 fX11_28 hS.hm.1 ?_
    refine wp_callV (as := []) (ls0 := [_, _, _]) (kc := 0) (ks := 0) (bc' := 0) (bs' := 0) dX11_fault_8 vX11_100 hS.rd.1 rfl rfl (Nat.le_of_ble_eq_true rfl) (Nat.le_of_ble_eq_true rfl) (by omega) (by omega) ?_
    refine flR ?_
    refine p_meshFault (X2 := E 2) (Y2 := E 3) hS.rd hS.tp hS.tpr (fun hv a1 u1 q1 X1 Y1 hX hY => ?_) (fun hv a1 u1 q1 p1 X1 Y1 => ?_)
    all_goals
      refine wp_ireturn dX11_fault_11 rfl ?_
      rw [if_pos (by omega)] at k
      first | exact k _ (Sim.sr hS) | (rw [hv] at k; exact k _ (Sim.sr hS))
theorem y_feed {a b c2 e f : Int} (hS : Sim c m sh iv rv E F N) (k0 : 240 < F 2 + cntP (fun j => ¬ byF a b c2 e f j = 0) 20 → R (some (aI (-1))) sh iv lw rv) (k1 : ¬ 240 < F 2 + cntP (fun j => ¬ byF a b c2 e f j = 0) 20 → ∀ iv' : aF, Sim c m sh iv' rv (uA E 1 (apT (byF a b c2 e f) 20 0 (F 2) (E 1))) (up F 2 (apN (byF a b c2 e f) 20 0 (F 2))) N → R (some (aI (apN (byF a b c2 e f) 20 0 (F 2)))) sh iv' lw rv) : wp (d + 2) mX11_feed 0 [some (aR 0), some (aI a), some (aI b), some (aI c2), some (aI e), some (aI f), none] [] sh iv lw rv 0 0 R := by
  obtain ⟨q1, q2, q3, q4⟩ := id hS.tpr
  have hall : apN (byF a b c2 e f) 20 0 (F 2) = F 2 + cntP (fun j => ¬ byF a b c2 e f j = 0) 20 := by
    have := apN_cnt (f := byF a b c2 e f) 20 0 (F 2)
    rw [show ((0 : Nat) : Int) = 0 from rfl, show 0 + 20 = 20 from rfl] at this
    rw [this]
    show F 2 + (cntP _ 20 - 0) = _
    omega
  have e20 := (ap_20 (a := a) (b := b) (c := c2) (e := e) (f := f) (n := F 2) (t := iv 2)).1
  have e20T := fun t => (ap_20 (a := a) (b := b) (c := c2) (e := e) (f := f) (n := F 2) (t := t)).2
  have m0 := apN_4 (f := bw a) (n := F 2)
  have m1 := apN_4 (f := bw b) (n := (apN (bw a) 4 0 (F 2)))
  have m2 := apN_4 (f := bw c2) (n := (apN (bw b) 4 0 (apN (bw a) 4 0 (F 2))))
  have m3 := apN_4 (f := bw e) (n := (apN (bw c2) 4 0 (apN (bw b) 4 0 (apN (bw a) 4 0 (F 2)))))
  have m4 := apN_4 (f := bw f) (n := (apN (bw e) 4 0 (apN (bw c2) 4 0 (apN (bw b) 4 0 (apN (bw a) 4 0 (F 2))))))
  have hcn0 := cntP_r (Q := fun j => ¬ bw a j = 0) 4
  have hcn1 := cntP_r (Q := fun j => ¬ bw b j = 0) 4
  have hcn2 := cntP_r (Q := fun j => ¬ bw c2 j = 0) 4
  have hcn3 := cntP_r (Q := fun j => ¬ bw e j = 0) 4
  have hcn4 := cntP_r (Q := fun j => ¬ bw f j = 0) 4
  refine wp_iload_n dX11_feed_0 rfl ?_
  refine wp_callS (as := [_]) (ls0 := [_, _, _]) (kc := 0) (ks := 0) (bc' := 0) (bs' := 0) dX11_feed_1 vX11_81 rfl rfl (Nat.le_of_ble_eq_true rfl) (Nat.le_of_ble_eq_true rfl) (by omega) (by omega) ?_
  refine p_signsIn ?_
  refine wp_iload_n dX11_feed_4 rfl ?_
  refine wp_callS (as := [_]) (ls0 := [_, _, _]) (kc := 0) (ks := 0) (bc' := 0) (bs' := 0) dX11_feed_5 vX11_81 rfl rfl (Nat.le_of_ble_eq_true rfl) (Nat.le_of_ble_eq_true rfl) (by omega) (by omega) ?_
  refine p_signsIn ?_
  refine wp_iadd dX11_feed_8 ⟨by omega, by omega⟩ ?_
  refine wp_iload_n dX11_feed_9 rfl ?_
  refine wp_callS (as := [_]) (ls0 := [_, _, _]) (kc := 0) (ks := 0) (bc' := 0) (bs' := 0) dX11_feed_10 vX11_81 rfl rfl (Nat.le_of_ble_eq_true rfl) (Nat.le_of_ble_eq_true rfl) (by omega) (by omega) ?_
  refine p_signsIn ?_
  refine wp_iadd dX11_feed_13 ⟨by omega, by omega⟩ ?_
  refine wp_iload dX11_feed_14 rfl ?_
  refine wp_callS (as := [_]) (ls0 := [_, _, _]) (kc := 0) (ks := 0) (bc' := 0) (bs' := 0) dX11_feed_16 vX11_81 rfl rfl (Nat.le_of_ble_eq_true rfl) (Nat.le_of_ble_eq_true rfl) (by omega) (by omega) ?_
  refine p_signsIn ?_
  refine wp_iadd dX11_feed_19 ⟨by omega, by omega⟩ ?_
  refine wp_iload dX11_feed_20 rfl ?_
  refine wp_callS (as := [_]) (ls0 := [_, _, _]) (kc := 0) (ks := 0) (bc' := 0) (bs' := 0) dX11_feed_22 vX11_81 rfl rfl (Nat.le_of_ble_eq_true rfl) (Nat.le_of_ble_eq_true rfl) (by omega) (by omega) ?_
  refine p_signsIn ?_
  refine wp_iadd dX11_feed_25 ⟨by omega, by omega⟩ ?_
  refine wp_istore (ls' := [_, _, _, _, _, _, _]) dX11_feed_26 (by decide) rfl rfl ?_
  refine wp_aload_n dX11_feed_28 rfl ?_
  refine wp_getR hS.hm.2.1 dX11_feed_29 fX11_10 hS.hm.1 ?_
  refine wp_iload dX11_feed_32 rfl ?_
  refine wp_callV (as := [_]) (ls0 := [_, _]) (kc := 0) (ks := 0) (bc' := 0) (bs' := 0) dX11_feed_34 vX11_85 hS.tp.1 rfl rfl (Nat.le_of_ble_eq_true rfl) (Nat.le_of_ble_eq_true rfl) (by omega) (by omega) ?_
  refine flT ?_
  refine p_hasRoom hS.tp q1 q2 (by omega) (fun h34 => ?_) (fun h34 => ?_) <;> rw [TW_id]
  · refine wp_if_ne (tgt := 42) dX11_feed_37 rfl (fun _ => ?_) (fun q => absurd q (by decide))
    refine wp_aload_n dX11_feed_42 rfl ?_
    refine wp_getR hS.hm.2.1 dX11_feed_43 fX11_10 hS.hm.1 ?_
    refine wp_iload_n dX11_feed_46 rfl ?_
    refine wp_callV (as := [_]) (ls0 := [_, _, _, _]) (kc := 0) (ks := 0) (bc' := 0) (bs' := 0) dX11_feed_47 vX11_89 hS.tp.1 rfl rfl (Nat.le_of_ble_eq_true rfl) (Nat.le_of_ble_eq_true rfl) (by omega) (by omega) ?_
    refine flT ?_
    refine p_append hS.tp (n := F 2) q1 (by omega) (by omega) ?_
    refine wp_aload_n dX11_feed_50 rfl ?_
    refine wp_getR hS.hm.2.1 dX11_feed_51 fX11_10 hS.hm.1 ?_
    refine wp_iload_n dX11_feed_54 rfl ?_
    refine wp_callV (as := [_]) (ls0 := [_, _, _, _]) (kc := 0) (ks := 0) (bc' := 0) (bs' := 0) dX11_feed_55 vX11_89 hS.tp.1 rfl rfl (Nat.le_of_ble_eq_true rfl) (Nat.le_of_ble_eq_true rfl) (by omega) (by omega) ?_
    refine p_append hS.tp (n := (apN (bw a) 4 0 (F 2))) up_s (by omega) (by omega) ?_
    rw [up_uu]
    refine wp_aload_n dX11_feed_58 rfl ?_
    refine wp_getR hS.hm.2.1 dX11_feed_59 fX11_10 hS.hm.1 ?_
    refine wp_iload_n dX11_feed_62 rfl ?_
    refine wp_callV (as := [_]) (ls0 := [_, _, _, _]) (kc := 0) (ks := 0) (bc' := 0) (bs' := 0) dX11_feed_63 vX11_89 hS.tp.1 rfl rfl (Nat.le_of_ble_eq_true rfl) (Nat.le_of_ble_eq_true rfl) (by omega) (by omega) ?_
    refine p_append hS.tp (n := (apN (bw b) 4 0 (apN (bw a) 4 0 (F 2)))) up_s (by omega) (by omega) ?_
    rw [up_uu]
    refine wp_aload_n dX11_feed_66 rfl ?_
    refine wp_getR hS.hm.2.1 dX11_feed_67 fX11_10 hS.hm.1 ?_
    refine wp_iload dX11_feed_70 rfl ?_
    refine wp_callV (as := [_]) (ls0 := [_, _, _, _]) (kc := 0) (ks := 0) (bc' := 0) (bs' := 0) dX11_feed_72 vX11_89 hS.tp.1 rfl rfl (Nat.le_of_ble_eq_true rfl) (Nat.le_of_ble_eq_true rfl) (by omega) (by omega) ?_
    refine p_append hS.tp (n := (apN (bw c2) 4 0 (apN (bw b) 4 0 (apN (bw a) 4 0 (F 2))))) up_s (by omega) (by omega) ?_
    rw [up_uu]
    refine wp_aload_n dX11_feed_75 rfl ?_
    refine wp_getR hS.hm.2.1 dX11_feed_76 fX11_10 hS.hm.1 ?_
    refine wp_iload dX11_feed_79 rfl ?_
    refine wp_callV (as := [_]) (ls0 := [_, _, _, _]) (kc := 0) (ks := 0) (bc' := 0) (bs' := 0) dX11_feed_81 vX11_89 hS.tp.1 rfl rfl (Nat.le_of_ble_eq_true rfl) (Nat.le_of_ble_eq_true rfl) (by omega) (by omega) ?_
    refine p_append hS.tp (n := (apN (bw e) 4 0 (apN (bw c2) 4 0 (apN (bw b) 4 0 (apN (bw a) 4 0 (F 2)))))) up_s (by omega) (by omega) ?_
    rw [up_uu]
    have hSf := hS.tape (iv' := TW iv (up (iv 1) 1 (apN (bw f) 4 0 (apN (bw e) 4 0 (apN (bw c2) 4 0 (apN (bw b) 4 0 (apN (bw a) 4 0 (F 2))))))) (apT (bw f) 4 0 (apN (bw e) 4 0 (apN (bw c2) 4 0 (apN (bw b) 4 0 (apN (bw a) 4 0 (F 2))))) (apT (bw e) 4 0 (apN (bw c2) 4 0 (apN (bw b) 4 0 (apN (bw a) 4 0 (F 2)))) (apT (bw c2) 4 0 (apN (bw b) 4 0 (apN (bw a) 4 0 (F 2))) (apT (bw b) 4 0 (apN (bw a) 4 0 (F 2)) (apT (bw a) 4 0 (F 2) (iv 2))))))) (E' := uA E 1 (apT (byF a b c2 e f) 20 0 (F 2) (E 1))) (F' := up F 2 (apN (byF a b c2 e f) 20 0 (F 2))) (fun i a b => by unfold TW; rw [uA_n b, uA_n a]) (fun i hi => uA_n hi) (fun j hj => up_n hj) ⟨by rw [TW1, up_s, up_s, e20], by rw [up_s]; omega, fun i x y => by
      rw [up_s] at y
      rw [TW2, uA_s, ← e20T]
      exact apT_eq 20 0 (F 2) _ _ q3 q2.1 i x y, fun i x y => by
      rw [up_s] at y
      rw [uA_s]
      exact apT_b 20 (fun k => byF_r) 0 (F 2) _ q4 q2.1 i x y⟩
    replace hS := hSf
    refine wp_aload_n dX11_feed_84 rfl ?_
    refine wp_getR hS.hm.2.1 dX11_feed_85 fX11_10 hS.hm.1 ?_
    refine wp_callV (as := []) (ls0 := [_]) (kc := 0) (ks := 0) (bc' := 0) (bs' := 0) dX11_feed_88 vX11_93 hS.tp.1 rfl rfl (Nat.le_of_ble_eq_true rfl) (Nat.le_of_ble_eq_true rfl) (by omega) (by omega) ?_
    refine flR ?_
    refine p_size hS.tp hS.tpr ?_
    rw [CRQ_id, up_s]
    refine wp_ireturn dX11_feed_91 rfl ?_
    exact k1 (by omega) _ hS
  · refine wp_if_ne (tgt := 42) dX11_feed_37 rfl (fun q => absurd q (by decide)) (fun _ => ?_)
    refine wp_iconst dX11_feed_40 ?_
    refine wp_ireturn dX11_feed_41 rfl ?_
    exact k0 (by omega)
end C35
