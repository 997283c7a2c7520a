section C31a
variable {sh : aSh} {iv E : aF} {rv : aP} {D O T S K C w F N Z : Int → Int} {c : Int} {m : Nat}
theorem Sim.sc1 (h : Sim c m sh iv rv E F N) (hz : ZK K) : Sim c m sh (uA (CD iv 1 D O T S K C) (12 + 42 * 1) w) rv E F N :=
  h.scr (fun i a b d => CSn (by unfold Scr at a; omega)) (by rw [CSn (by omega)]; exact h.z0) (by rw [show (84 : Nat) = 42 + 42 * 1 from rfl, CS42 (by omega)]; exact hz)
theorem Sim.sc2 (h : Sim c m sh iv rv E F N) (hz : ZK K) : Sim c m sh (uA (CD (uA iv 52 Z) 1 D O T S K C) (12 + 42 * 1) w) rv E F N :=
  Sim.sc1 (h.scr (fun i a b d => uA_n (by unfold Scr at a; omega)) (by rw [uA_n (by omega)]; exact h.z0) (by rw [uA_n (by omega)]; exact h.z1)) hz
theorem Sim.sc0 (h : Sim c m sh iv rv E F N) (hz : ZK K) (hr : Rel w N) : Sim c m sh (uA (CD iv 0 D O T S K C) (12 + 42 * 0) w) rv E F N :=
  h.now (fun i a b d f => CSn (by unfold Scr at a; omega)) (by rw [show (42 : Nat) = 42 + 42 * 0 from rfl, CS42 (by omega)]; exact hz) (by rw [CSn (by omega)]; exact h.z1) (by rw [show (12 : Nat) = 12 + 42 * 0 from rfl, CSw]; exact hr) (fun h13 => h.inv h13) (fun _ _ => rfl)
theorem tkn_lt {W Of np nd s : Int} {pa : Int → Int} (hB : Bok W Of N) (h6 : np ≤ 6) (h : Tkn N pa np nd s) : s < W := by
  obtain ⟨p, q, h1, h2, hq, -, ⟨i, i0, i1, e⟩ | ⟨i, i0, i1, e⟩⟩ := h
  · have a := hB.mny (show 0 ≤ p ∧ p < 6 by omega) hq
    have b := hB.cel (show 0 ≤ p ∧ p < 6 by omega) hq (show 0 ≤ i ∧ i < 6 by omega)
    have := b.2.1
    omega
  · have a := hB.pmn (show 0 ≤ p ∧ p < 6 by omega) hq
    have b := hB.prm (show 0 ≤ p ∧ p < 6 by omega) hq (show 0 ≤ i ∧ i < 4 by omega)
    have := b.2.1
    omega
theorem cntP_no {Q : Int → Prop} (n : Nat) (h : ∀ a : Int, 0 ≤ a → a < n → ¬ Q a) : cntP Q n = 0 := by
  induction n with
  | zero => rfl
  | succ n ih => rw [cntP, ih (fun a x y => h a x (by omega)), cn1_f (h n (by omega) (by omega))]; rfl
theorem ctS_hi {W Of nd s p q : Int} {pa : Int → Int} (hB : Bok W Of N) (hp : 0 ≤ p ∧ p < 6) (hq : q = 0 ∨ q = 1) (hs : W ≤ s) : ctS N pa nd s p q = 0 := by
  unfold ctS
  split
  · refine cntP_no _ (fun a x y => ?_)
    have hm := hB.mny hp hq
    have b := hB.cel hp hq (show 0 ≤ a ∧ a < 6 by omega)
    have := b.2.1
    omega
  · rfl
theorem ctA_hi {W Of nd s : Int} {pa : Int → Int} (hB : Bok W Of N) (hs : W ≤ s) (n : Nat) (hn : n ≤ 6) : ctA N pa nd s n = 0 := by
  induction n with
  | zero => rfl
  | succ n ih => rw [ctA, ih (by omega), ctS_hi hB (by omega) (Or.inl rfl) hs, ctS_hi hB (by omega) (Or.inr rfl) hs]; rfl
theorem mul_b {x y a b : Int} (hx : 0 ≤ x ∧ x ≤ a) (hy : 0 ≤ y ∧ y ≤ b) : 0 ≤ x * y ∧ x * y ≤ a * b := ⟨Int.mul_nonneg hx.1 hy.1, Int.mul_le_mul hx.2 hy.2 hy.1 (by omega)⟩
theorem p2n {n : Int} (h : 0 ≤ n ∧ n ≤ 6) : (((2 ^ n.toNat : Nat)) : Int) = (2 : Int) ^ n.toNat := by
  rcases (by omega : n = 0 ∨ n = 1 ∨ n = 2 ∨ n = 3 ∨ n = 4 ∨ n = 5 ∨ n = 6) with rfl | rfl | rfl | rfl | rfl | rfl | rfl <;> rfl
end C31a
section C31
variable {d m : Nat} {sh : aSh} {iv lw E : aF} {rv : aP} {F N : Int → Int} {R : aPost} {c : Int}
theorem y_comes {p n w : Int} (hS : Sim c m sh iv rv E F N) (k : ∀ iv' : aF, Sim c m sh iv' rv E F N → R (some (aI (aComes E F N p n w))) sh iv' lw rv) : wp (d + 7) mX11_comes 0 [some (aR 0), some (aI p), some (aI n), some (aI w)] [] sh iv lw rv 0 0 R := by
  have hf13 := hS.f13
  refine wp_aload_n dX11_comes_0 rfl ?_
  refine wp_getR hS.hm.2.2.1 dX11_comes_1 fX11_19 hS.hm.1 ?_
  refine wp_iload_n dX11_comes_4 rfl ?_
  refine wp_callV (as := [_]) (ls0 := [_, _]) (kc := 0) (ks := 0) (bc' := 0) (bs' := 0) dX11_comes_5 vX11_133 hS.pls.1 rfl rfl (Nat.le_of_ble_eq_true rfl) (Nat.le_of_ble_eq_true rfl) (by omega) (by omega) ?_
  refine n_hasPair hS.plan (fun h5 => ?_) (fun h5 => ?_)
  · have hp : 0 ≤ p ∧ p < 6 := ⟨h5.1, by have := hS.f13; omega⟩
    have h13 : 0 < F 13 := by omega
    refine wp_if_eq (tgt := 30) dX11_comes_8 rfl (fun q => absurd q (by decide)) (fun _ => ?_)
    refine wp_iload_n dX11_comes_11 rfl ?_
    refine wp_if_lt (tgt := 30) dX11_comes_12 rfl (fun h12 => ?_) (fun h12 => ?_)
    · refine wp_iconst dX11_comes_30 ?_
      refine wp_ireturn dX11_comes_31 rfl ?_
      have kk := k _ hS
      unfold aComes at kk
      (repeat' split at kk) <;> first | exact kk | (exfalso; omega)
    · refine wp_iload_n dX11_comes_15 rfl ?_
      refine wp_bipush dX11_comes_16 ?_
      refine wp_icmp_gt (tgt := 30) dX11_comes_18 rfl (fun h18 => ?_) (fun h18 => ?_)
      · refine wp_iconst dX11_comes_30 ?_
        refine wp_ireturn dX11_comes_31 rfl ?_
        have kk := k _ hS
        unfold aComes at kk
        (repeat' split at kk) <;> first | exact kk | (exfalso; omega)
      · refine wp_iload_n dX11_comes_21 rfl ?_
        refine wp_if_lt (tgt := 30) dX11_comes_22 rfl (fun h22 => ?_) (fun h22 => ?_)
        · refine wp_iconst dX11_comes_30 ?_
          refine wp_ireturn dX11_comes_31 rfl ?_
          have kk := k _ hS
          unfold aComes at kk
          (repeat' split at kk) <;> first | exact kk | (exfalso; omega)
        · refine wp_iload_n dX11_comes_25 rfl ?_
          refine wp_iconst dX11_comes_26 ?_
          refine wp_icmp_le (tgt := 32) dX11_comes_27 rfl (fun h27 => ?_) (fun h27 => ?_)
          · refine wp_aload_n dX11_comes_32 rfl ?_
            refine wp_getR hS.hm.2.2.2.2.2.2.2.2.1 dX11_comes_33 fX11_69 hS.hm.1 ?_
            refine wp_iload_n dX11_comes_36 rfl ?_
            refine wp_iload_n dX11_comes_37 rfl ?_
            refine wp_iload_n dX11_comes_38 rfl ?_
            refine wp_callV (as := [_, _, _]) (ls0 := [_, _, _, _, _, _]) (kc := 0) (ks := 0) (bc' := 0) (bs' := 0) dX11_comes_39 vX11_262 hS.ot.1 rfl rfl (Nat.le_of_ble_eq_true rfl) (Nat.le_of_ble_eq_true rfl) (by omega) (by omega) ?_
            refine fl1 ?_
            refine o_after hS.n0 hS.n1 hS.ot hS.plan (hS.prm h13) hS.prm2 (hS.inv h13) hS.z1 hS.n8.2 hp h5.2 (by omega) (by omega) hS.rel (fun D1 O1 T1 S1 K1 C1 w1 hz1 => ?_)
            replace hS := Sim.sc1 (D := D1) (O := O1) (T := T1) (S := S1) (C := C1) (w := w1) hS hz1
            refine wp_ireturn dX11_comes_42 rfl ?_
            have kk := k _ hS
            unfold aComes at kk
            rw [if_neg (fun z => z h5), if_neg (by omega), if_neg (by omega)] at kk
            exact kk
          · refine wp_iconst dX11_comes_30 ?_
            refine wp_ireturn dX11_comes_31 rfl ?_
            have kk := k _ hS
            unfold aComes at kk
            (repeat' split at kk) <;> first | exact kk | (exfalso; omega)
  · refine wp_if_eq (tgt := 30) dX11_comes_8 rfl (fun _ => ?_) (fun q => absurd q (by decide))
    refine wp_iconst dX11_comes_30 ?_
    refine wp_ireturn dX11_comes_31 rfl ?_
    have kk := k _ hS
    unfold aComes at kk
    (repeat' split at kk) <;> first | exact kk | (exfalso; omega)
theorem y_healed (hS : Sim c m sh iv rv E F N) (k : ∀ iv' : aF, Sim c m sh iv' rv E F N → R (some (aI (aHeal E F N))) sh iv' lw rv) : wp (d + 7) mX11_healed 0 [some (aR 0)] [] sh iv lw rv 0 0 R := by
  have hf13 := hS.f13
  refine wp_aload_n dX11_healed_0 rfl ?_
  refine wp_getR hS.hm.2.2.1 dX11_healed_1 fX11_19 hS.hm.1 ?_
  refine wp_callV (as := []) (ls0 := [_]) (kc := 0) (ks := 0) (bc' := 0) (bs' := 0) dX11_healed_4 vX11_123 hS.pls.1 rfl rfl (Nat.le_of_ble_eq_true rfl) (Nat.le_of_ble_eq_true rfl) (by omega) (by omega) ?_
  refine n_isTold hS.plan (fun h4 => ?_) (fun h4 => ?_)
  · have h13 := h4
    refine wp_if_eq (tgt := 20) dX11_healed_7 rfl (fun q => absurd q (by decide)) (fun _ => ?_)
    refine wp_aload_n dX11_healed_10 rfl ?_
    refine wp_getR hS.hm.2.2.2.2.2.2.2.2.1 dX11_healed_11 fX11_69 hS.hm.1 ?_
    refine wp_callV (as := []) (ls0 := [_, _]) (kc := 0) (ks := 0) (bc' := 0) (bs' := 0) dX11_healed_14 vX11_269 hS.ot.1 rfl rfl (Nat.le_of_ble_eq_true rfl) (Nat.le_of_ble_eq_true rfl) (by omega) (by omega) ?_
    refine fl1 ?_
    refine o_agreed hS.n0 hS.n1 hS.ot hS.plan (hS.prm h13) hS.prm2 (hS.inv h13) hS.z1 hS.n8.2 hS.rel (fun D1 O1 T1 S1 K1 C1 w1 hz1 => ?_)
    replace hS := Sim.sc1 (D := D1) (O := O1) (T := T1) (S := S1) (C := C1) (w := w1) hS hz1
    refine wp_goto (tgt := 21) dX11_healed_17 rfl ?_
    refine wp_ireturn dX11_healed_21 rfl ?_
    have kk := k _ hS
    unfold aHeal at kk
    first | (rw [if_pos (by omega)] at kk; exact kk) | (rw [if_neg (by omega)] at kk; exact kk)
  · refine wp_if_eq (tgt := 20) dX11_healed_7 rfl (fun _ => ?_) (fun q => absurd q (by decide))
    refine wp_iconst dX11_healed_20 ?_
    refine wp_ireturn dX11_healed_21 rfl ?_
    have kk := k _ hS
    unfold aHeal at kk
    first | (rw [if_pos (by omega)] at kk; exact kk) | (rw [if_neg (by omega)] at kk; exact kk)
theorem y_steady (hS : Sim c m sh iv rv E F N) (k : ∀ iv' : aF, Sim c m sh iv' rv E F N → R (some (aI (aSteady E F N))) sh iv' lw rv) : wp (d + 7) mX11_steady 0 [some (aR 0)] [] sh iv lw rv 0 0 R := by
  have hf13 := hS.f13
  refine wp_aload_n dX11_steady_0 rfl ?_
  refine wp_getR hS.hm.2.2.1 dX11_steady_1 fX11_19 hS.hm.1 ?_
  refine wp_callV (as := []) (ls0 := [_]) (kc := 0) (ks := 0) (bc' := 0) (bs' := 0) dX11_steady_4 vX11_123 hS.pls.1 rfl rfl (Nat.le_of_ble_eq_true rfl) (Nat.le_of_ble_eq_true rfl) (by omega) (by omega) ?_
  refine n_isTold hS.plan (fun h4 => ?_) (fun h4 => ?_)
  · have h13 := h4
    refine wp_if_eq (tgt := 20) dX11_steady_7 rfl (fun q => absurd q (by decide)) (fun _ => ?_)
    refine wp_aload_n dX11_steady_10 rfl ?_
    refine wp_getR hS.hm.2.2.2.2.2.2.2.2.1 dX11_steady_11 fX11_69 hS.hm.1 ?_
    refine wp_callV (as := []) (ls0 := [_, _, _]) (kc := 0) (ks := 0) (bc' := 0) (bs' := 0) dX11_steady_14 vX11_272 hS.ot.1 rfl rfl (Nat.le_of_ble_eq_true rfl) (Nat.le_of_ble_eq_true rfl) (by omega) (by omega) ?_
    refine fl1 ?_
    refine o_steady hS.n0 hS.n1 hS.ot hS.plan (hS.prm h13) hS.prm2 (hS.inv h13) hS.z1 hS.n8.2 hS.rel (fun D1 O1 T1 S1 K1 C1 w1 Z1 hz1 => ?_)
    replace hS := Sim.sc2 (Z := Z1) (D := D1) (O := O1) (T := T1) (S := S1) (C := C1) (w := w1) hS hz1
    refine wp_goto (tgt := 21) dX11_steady_17 rfl ?_
    refine wp_ireturn dX11_steady_21 rfl ?_
    have kk := k _ hS
    unfold aSteady at kk
    first | (rw [if_pos (by omega)] at kk; exact kk) | (rw [if_neg (by omega)] at kk; exact kk)
  · refine wp_if_eq (tgt := 20) dX11_steady_7 rfl (fun _ => ?_) (fun q => absurd q (by decide))
    refine wp_iconst dX11_steady_20 ?_
    refine wp_ireturn dX11_steady_21 rfl ?_
    have kk := k _ hS
    unfold aSteady at kk
    first | (rw [if_pos (by omega)] at kk; exact kk) | (rw [if_neg (by omega)] at kk; exact kk)
theorem l_hrm2 {n w q : Int} (hq : 0 ≤ q ∧ q < 6) (h13 : 0 < F 13) (j : Nat) : ∀ (p : Int) (r : Int × Int) (v : Option aV) (iv : aF), Sim c m sh iv rv E F N → 0 ≤ p → p + j = F 13 → (∀ (iv' : aF) (v6 v7 : Option aV), Sim c m sh iv' rv E F N → wp (d + 7) mX11_harm 100 [some (aR 0), some (aI n), some (aI w), some (aI (hm2 E F N q j p r).1), some (aI (hm2 E F N q j p r).2), some (aI q), v6, v7] [] sh iv' lw rv 0 0 R) → wp (d + 7) mX11_harm 49 [some (aR 0), some (aI n), some (aI w), some (aI r.1), some (aI r.2), some (aI q), some (aI p), v] [] sh iv lw rv 0 0 R := by
  induction j with
  | zero =>
    intro p r v iv hS h0 hm k
    refine wp_iload dX11_harm_49 rfl ?_
    refine wp_aload_n dX11_harm_51 rfl ?_
    refine wp_getR hS.hm.2.2.1 dX11_harm_52 fX11_19 hS.hm.1 ?_
    refine wp_callV (as := []) (ls0 := [_]) (kc := 0) (ks := 0) (bc' := 0) (bs' := 0) dX11_harm_55 vX11_114 hS.pls.1 rfl rfl (Nat.le_of_ble_eq_true rfl) (Nat.le_of_ble_eq_true rfl) (by omega) (by omega) ?_
    refine n_pairs hS.plan ?_
    refine wp_icmp_ge (tgt := 100) dX11_harm_58 rfl (fun h58 => ?_) (fun h58 => by exfalso; omega)
    exact k _ _ _ hS
  | succ j ih =>
    intro p r v iv hS h0 hm k
    have hf13 := hS.f13
    have hp : 0 ≤ p ∧ p < 6 := by omega
    have hpF : p < F 13 := by omega
    rw [hm2] at k
    refine wp_iload dX11_harm_49 rfl ?_
    refine wp_aload_n dX11_harm_51 rfl ?_
    refine wp_getR hS.hm.2.2.1 dX11_harm_52 fX11_19 hS.hm.1 ?_
    refine wp_callV (as := []) (ls0 := [_]) (kc := 0) (ks := 0) (bc' := 0) (bs' := 0) dX11_harm_55 vX11_114 hS.pls.1 rfl rfl (Nat.le_of_ble_eq_true rfl) (Nat.le_of_ble_eq_true rfl) (by omega) (by omega) ?_
    refine n_pairs hS.plan ?_
    refine wp_icmp_ge (tgt := 100) dX11_harm_58 rfl (fun h58 => by exfalso; omega) (fun h58 => ?_)
    refine wp_aload_n dX11_harm_61 rfl ?_
    refine wp_getR hS.hm.2.2.2.2.2.2.2.2.1 dX11_harm_62 fX11_69 hS.hm.1 ?_
    refine wp_iload dX11_harm_65 rfl ?_
    refine wp_iload dX11_harm_67 rfl ?_
    refine wp_callV (as := [_, _]) (ls0 := [_, _, _, _, _]) (kc := 0) (ks := 0) (bc' := 0) (bs' := 0) dX11_harm_69 vX11_275 hS.ot.1 rfl rfl (Nat.le_of_ble_eq_true rfl) (Nat.le_of_ble_eq_true rfl) (by omega) (by omega) ?_
    refine fl1 ?_
    refine o_atOdds hS.n0 hS.n1 hS.ot hS.plan (hS.prm h13) hS.prm2 (hS.inv h13) hS.z1 hS.n8.2 hp hpF (by omega) hS.rel (fun D1 O1 T1 S1 K1 C1 w1 hz1 => ?_)
    replace hS := Sim.sc1 (D := D1) (O := O1) (T := T1) (S := S1) (C := C1) (w := w1) hS hz1
    refine wp_istore (ls' := [_, _, _, _, _, _, _, _]) dX11_harm_72 (by decide) rfl rfl ?_
    refine wp_iload dX11_harm_74 rfl ?_
    refine wp_iload dX11_harm_76 rfl ?_
    refine wp_icmp_le (tgt := 94) dX11_harm_78 rfl (fun h78 => ?_) (fun h78 => ?_)
    · rw [if_neg (by omega)] at k
      refine wp_iinc (ls' := [_, _, _, _, _, _, _, _]) dX11_harm_94 (by decide) rfl rfl ⟨by omega, by omega⟩ rfl ?_
      refine wp_goto (tgt := 49) dX11_harm_97 rfl ?_
      first
      | exact ih _ (10 * q + p, hmV E F N q p) _ _ hS (by omega) (by omega) k
      | exact ih _ _ _ _ hS (by omega) (by omega) k
    · rw [if_pos (by omega)] at k
      refine wp_iload dX11_harm_81 rfl ?_
      refine wp_istore (ls' := [_, _, _, _, _, _, _, _]) dX11_harm_83 (by decide) rfl rfl ?_
      refine wp_bipush dX11_harm_85 ?_
      refine wp_iload dX11_harm_87 rfl ?_
      refine wp_imul dX11_harm_89 ⟨by omega, by omega⟩ ?_
      refine wp_iload dX11_harm_90 rfl ?_
      refine wp_iadd dX11_harm_92 ⟨by omega, by omega⟩ ?_
      refine wp_istore_n (ls' := [_, _, _, _, _, _, _, _]) dX11_harm_93 (by decide) rfl rfl ?_
      refine wp_iinc (ls' := [_, _, _, _, _, _, _, _]) dX11_harm_94 (by decide) rfl rfl ⟨by omega, by omega⟩ rfl ?_
      refine wp_goto (tgt := 49) dX11_harm_97 rfl ?_
      first
      | exact ih _ (10 * q + p, hmV E F N q p) _ _ hS (by omega) (by omega) k
      | exact ih _ _ _ _ hS (by omega) (by omega) k
theorem l_hrm1 {n w : Int} (hn : n ≤ 6) (h13 : 0 < F 13) (j : Nat) : ∀ (q : Int) (r : Int × Int) (v6 v7 : Option aV) (iv : aF), Sim c m sh iv rv E F N → 0 ≤ q → q + j = n → (∀ iv' : aF, Sim c m sh iv' rv E F N → R (some (aI (if w = 0 then (hm1 E F N j q r).1 else (hm1 E F N j q r).2))) sh iv' lw rv) → wp (d + 7) mX11_harm 40 [some (aR 0), some (aI n), some (aI w), some (aI r.1), some (aI r.2), some (aI q), v6, v7] [] sh iv lw rv 0 0 R := by
  induction j with
  | zero =>
    intro q r v6 v7 iv hS h0 hm k
    have kk := k _ hS
    rw [hm1] at kk
    refine wp_iload dX11_harm_40 rfl ?_
    refine wp_iload_n dX11_harm_42 rfl ?_
    refine wp_icmp_ge (tgt := 106) dX11_harm_43 rfl (fun h43 => ?_) (fun h43 => by exfalso; omega)
    refine wp_iload_n dX11_harm_106 rfl ?_
    refine wp_if_ne (tgt := 114) dX11_harm_107 rfl (fun h107 => ?_) (fun h107 => ?_)
    · refine wp_iload dX11_harm_114 rfl ?_
      refine wp_ireturn dX11_harm_116 rfl ?_
      first | (rw [if_pos (by omega)] at kk; exact kk) | (rw [if_neg (by omega)] at kk; exact kk)
    · refine wp_iload_n dX11_harm_110 rfl ?_
      refine wp_goto (tgt := 116) dX11_harm_111 rfl ?_
      refine wp_ireturn dX11_harm_116 rfl ?_
      first | (rw [if_pos (by omega)] at kk; exact kk) | (rw [if_neg (by omega)] at kk; exact kk)
  | succ j ih =>
    intro q r v6 v7 iv hS h0 hm k
    rw [hm1] at k
    refine wp_iload dX11_harm_40 rfl ?_
    refine wp_iload_n dX11_harm_42 rfl ?_
    refine wp_icmp_ge (tgt := 106) dX11_harm_43 rfl (fun h43 => by exfalso; omega) (fun h43 => ?_)
    refine wp_iconst dX11_harm_46 ?_
    refine wp_istore (ls' := [_, _, _, _, _, _, _, _]) dX11_harm_47 (by decide) rfl rfl ?_
    refine l_hrm2 (by omega) h13 (F 13).toNat 0 r _ _ hS (by omega) (by omega) (fun iv1 v6 v7 hS => ?_)
    refine wp_iinc (ls' := [_, _, _, _, _, _, _, _]) dX11_harm_100 (by decide) rfl rfl ⟨by omega, by omega⟩ rfl ?_
    refine wp_goto (tgt := 40) dX11_harm_103 rfl ?_
    exact ih _ _ _ _ _ hS (by omega) (by omega) k
theorem y_harm {n w : Int} (hS : Sim c m sh iv rv E F N) (k : ∀ iv' : aF, Sim c m sh iv' rv E F N → R (some (aI (aHarm E F N n w))) sh iv' lw rv) : wp (d + 7) mX11_harm 0 [some (aR 0), some (aI n), some (aI w), none, none, none, none, none] [] sh iv lw rv 0 0 R := by
  have hf13 := hS.f13
  refine wp_aload_n dX11_harm_0 rfl ?_
  refine wp_getR hS.hm.2.2.1 dX11_harm_1 fX11_19 hS.hm.1 ?_
  refine wp_callV (as := []) (ls0 := [_]) (kc := 0) (ks := 0) (bc' := 0) (bs' := 0) dX11_harm_4 vX11_123 hS.pls.1 rfl rfl (Nat.le_of_ble_eq_true rfl) (Nat.le_of_ble_eq_true rfl) (by omega) (by omega) ?_
  refine n_isTold hS.plan (fun h4 => ?_) (fun h4 => ?_)
  · refine wp_if_eq (tgt := 30) dX11_harm_7 rfl (fun q => absurd q (by decide)) (fun _ => ?_)
    refine wp_iload_n dX11_harm_10 rfl ?_
    refine wp_iconst dX11_harm_11 ?_
    refine wp_icmp_lt (tgt := 30) dX11_harm_12 rfl (fun h12 => ?_) (fun h12 => ?_)
    · refine wp_iconst dX11_harm_30 ?_
      refine wp_ireturn dX11_harm_31 rfl ?_
      have kk := k _ hS
      unfold aHarm at kk
      (repeat' split at kk) <;> first | exact kk | (exfalso; omega)
    · refine wp_iload_n dX11_harm_15 rfl ?_
      refine wp_bipush dX11_harm_16 ?_
      refine wp_icmp_gt (tgt := 30) dX11_harm_18 rfl (fun h18 => ?_) (fun h18 => ?_)
      · refine wp_iconst dX11_harm_30 ?_
        refine wp_ireturn dX11_harm_31 rfl ?_
        have kk := k _ hS
        unfold aHarm at kk
        (repeat' split at kk) <;> first | exact kk | (exfalso; omega)
      · refine wp_iload_n dX11_harm_21 rfl ?_
        refine wp_if_lt (tgt := 30) dX11_harm_22 rfl (fun h22 => ?_) (fun h22 => ?_)
        · refine wp_iconst dX11_harm_30 ?_
          refine wp_ireturn dX11_harm_31 rfl ?_
          have kk := k _ hS
          unfold aHarm at kk
          (repeat' split at kk) <;> first | exact kk | (exfalso; omega)
        · refine wp_iload_n dX11_harm_25 rfl ?_
          refine wp_iconst dX11_harm_26 ?_
          refine wp_icmp_le (tgt := 32) dX11_harm_27 rfl (fun h27 => ?_) (fun h27 => ?_)
          · refine wp_iconst dX11_harm_32 ?_
            refine wp_istore_n (ls' := [_, _, _, _, _, _, _, _]) dX11_harm_33 (by decide) rfl rfl ?_
            refine wp_iconst dX11_harm_34 ?_
            refine wp_istore (ls' := [_, _, _, _, _, _, _, _]) dX11_harm_35 (by decide) rfl rfl ?_
            refine wp_iconst dX11_harm_37 ?_
            refine wp_istore (ls' := [_, _, _, _, _, _, _, _]) dX11_harm_38 (by decide) rfl rfl ?_
            exact l_hrm1 (r := (-1, -1)) (by omega) h4 n.toNat 0 _ _ _ hS (by omega) (by omega) (fun iv' hS => by
              have kk := k _ hS
              unfold aHarm at kk
              rw [if_neg (by omega), if_neg (by omega), if_neg (by omega)] at kk
              exact kk)
          · refine wp_iconst dX11_harm_30 ?_
            refine wp_ireturn dX11_harm_31 rfl ?_
            have kk := k _ hS
            unfold aHarm at kk
            (repeat' split at kk) <;> first | exact kk | (exfalso; omega)
  · refine wp_if_eq (tgt := 30) dX11_harm_7 rfl (fun _ => ?_) (fun q => absurd q (by decide))
    refine wp_iconst dX11_harm_30 ?_
    refine wp_ireturn dX11_harm_31 rfl ?_
    have kk := k _ hS
    unfold aHarm at kk
    (repeat' split at kk) <;> first | exact kk | (exfalso; omega)
theorem l_odds {n ch : Int} (hn : 0 ≤ n ∧ n ≤ 6) (hc : 0 ≤ ch ∧ ch ≤ 100) (h13 : 0 < F 13) (j : Nat) : ∀ (ls x : Int) (iv : aF), Sim c m sh iv rv E F N → 0 ≤ ls → ls + j = 2 ^ n.toNat → x = smT (fun ls => ptG E F ch n.toNat ls N 1000000000) ls.toNat → (∀ iv' : aF, Sim c m sh iv' rv E F N → R (some (aI (odR E F ch n.toNat N 1000000000))) sh iv' lw rv) → wp (d + 7) mX11_odds 37 [some (aR 0), some (aI n), some (aI ch), some (aL x), none, some (aI ls)] [] sh iv lw rv 0 0 R := by
  have h2 : (2 : Int) ^ n.toNat ≤ 64 ∧ 1 ≤ (2 : Int) ^ n.toNat := by
    rcases (by omega : n = 0 ∨ n = 1 ∨ n = 2 ∨ n = 3 ∨ n = 4 ∨ n = 5 ∨ n = 6) with rfl | rfl | rfl | rfl | rfl | rfl | rfl <;> decide
  have e2 := p2n hn
  have hod := odR_sm (E := E) (F := F) (ch := ch) n.toNat N 1000000000
  have hor := odR_r (E := E) (F := F) hc n.toNat N 1000000000 (by omega)
  induction j with
  | zero =>
    intro ls x iv hS h0 hm hx k
    have el : ls.toNat = 2 ^ n.toNat := by omega
    rw [el, ← hod] at hx
    refine wp_iload dX11_odds_37 rfl ?_
    refine wp_iconst dX11_odds_39 ?_
    refine wp_iload_n dX11_odds_40 rfl ?_
    refine wp_ishl dX11_odds_41 (by omega) (by omega) (by exact ⟨by omega, by omega⟩) ?_
    refine wp_icmp_ge (tgt := 65) dX11_odds_42 rfl (fun h42 => ?_) (fun h42 => by exfalso; omega)
    refine wp_lload_n dX11_odds_65 rfl ?_
    refine wp_l2i dX11_odds_66 ⟨by omega, by omega⟩ ?_
    refine wp_ireturn dX11_odds_67 rfl ?_
    rw [hx]; exact k _ hS
  | succ j ih =>
    intro ls x iv hS h0 hm hx k
    have hsl := smT_le (f := (fun ls => ptG E F ch n.toNat ls N 1000000000)) (fun a => (ptG_r hc n.toNat a N 1000000000 (by omega)).1) (2 ^ n.toNat) ls.toNat (by omega)
    rw [← hod] at hsl
    have hpr := ptG_r (E := E) (F := F) hc n.toNat ls.toNat N 1000000000 (by omega)
    refine wp_iload dX11_odds_37 rfl ?_
    refine wp_iconst dX11_odds_39 ?_
    refine wp_iload_n dX11_odds_40 rfl ?_
    refine wp_ishl dX11_odds_41 (by omega) (by omega) (by exact ⟨by omega, by omega⟩) ?_
    refine wp_icmp_ge (tgt := 65) dX11_odds_42 rfl (fun h42 => by exfalso; omega) (fun h42 => ?_)
    refine wp_lload_n dX11_odds_45 rfl ?_
    refine wp_aload_n dX11_odds_46 rfl ?_
    refine wp_getR hS.hm.2.2.2.2.2.2.2.2.1 dX11_odds_47 fX11_69 hS.hm.1 ?_
    refine wp_iload dX11_odds_50 rfl ?_
    refine wp_iload_n dX11_odds_52 rfl ?_
    refine wp_iload_n dX11_odds_53 rfl ?_
    refine wp_callV (as := [_, _, _]) (ls0 := [_, _, _, _, _, _, _, _, _]) (kc := 0) (ks := 0) (bc' := 0) (bs' := 0) dX11_odds_54 vX11_278 hS.ot.1 rfl rfl (Nat.le_of_ble_eq_true rfl) (Nat.le_of_ble_eq_true rfl) (by omega) (by omega) ?_
    refine fl1 ?_
    refine o_parts h0 hc hn hS.n0 hS.n1 hS.ot hS.plan (hS.prm h13) hS.prm2 (hS.inv h13) hS.z1 hS.n8.2 hS.rel (fun D1 O1 T1 S1 K1 C1 w1 hz1 => ?_)
    replace hS := Sim.sc1 (D := D1) (O := O1) (T := T1) (S := S1) (C := C1) (w := w1) hS hz1
    refine wp_ladd_n dX11_odds_57 ⟨by omega, by omega⟩ ?_
    refine wp_lstore_n (ls' := [_, _, _, _, _, _]) dX11_odds_58 (by decide) rfl rfl ?_
    refine wp_iinc (ls' := [_, _, _, _, _, _]) dX11_odds_59 (by decide) rfl rfl ⟨by omega, by omega⟩ rfl ?_
    refine wp_goto (tgt := 37) dX11_odds_62 rfl ?_
    exact ih _ _ _ hS (by omega) (by omega) (by rw [toN1 h0, smT, hx]) k
theorem y_odds {n ch : Int} (hS : Sim c m sh iv rv E F N) (k : ∀ iv' : aF, Sim c m sh iv' rv E F N → R (some (aI (aOdds E F N n ch))) sh iv' lw rv) : wp (d + 7) mX11_odds 0 [some (aR 0), some (aI n), some (aI ch), none, none, none] [] sh iv lw rv 0 0 R := by
  have hf13 := hS.f13
  refine wp_aload_n dX11_odds_0 rfl ?_
  refine wp_getR hS.hm.2.2.1 dX11_odds_1 fX11_19 hS.hm.1 ?_
  refine wp_callV (as := []) (ls0 := [_]) (kc := 0) (ks := 0) (bc' := 0) (bs' := 0) dX11_odds_4 vX11_123 hS.pls.1 rfl rfl (Nat.le_of_ble_eq_true rfl) (Nat.le_of_ble_eq_true rfl) (by omega) (by omega) ?_
  refine n_isTold hS.plan (fun h4 => ?_) (fun h4 => ?_)
  · refine wp_if_eq (tgt := 30) dX11_odds_7 rfl (fun q => absurd q (by decide)) (fun _ => ?_)
    refine wp_iload_n dX11_odds_10 rfl ?_
    refine wp_if_lt (tgt := 30) dX11_odds_11 rfl (fun h11 => ?_) (fun h11 => ?_)
    · refine wp_iconst dX11_odds_30 ?_
      refine wp_ireturn dX11_odds_31 rfl ?_
      have kk := k _ hS
      unfold aOdds at kk
      (repeat' split at kk) <;> first | exact kk | (exfalso; omega)
    · refine wp_iload_n dX11_odds_14 rfl ?_
      refine wp_bipush dX11_odds_15 ?_
      refine wp_icmp_gt (tgt := 30) dX11_odds_17 rfl (fun h17 => ?_) (fun h17 => ?_)
      · refine wp_iconst dX11_odds_30 ?_
        refine wp_ireturn dX11_odds_31 rfl ?_
        have kk := k _ hS
        unfold aOdds at kk
        (repeat' split at kk) <;> first | exact kk | (exfalso; omega)
      · refine wp_iload_n dX11_odds_20 rfl ?_
        refine wp_if_lt (tgt := 30) dX11_odds_21 rfl (fun h21 => ?_) (fun h21 => ?_)
        · refine wp_iconst dX11_odds_30 ?_
          refine wp_ireturn dX11_odds_31 rfl ?_
          have kk := k _ hS
          unfold aOdds at kk
          (repeat' split at kk) <;> first | exact kk | (exfalso; omega)
        · refine wp_iload_n dX11_odds_24 rfl ?_
          refine wp_bipush dX11_odds_25 ?_
          refine wp_icmp_le (tgt := 32) dX11_odds_27 rfl (fun h27 => ?_) (fun h27 => ?_)
          · refine wp_lconst0 dX11_odds_32 ?_
            refine wp_lstore_n (ls' := [_, _, _, _, _, _]) dX11_odds_33 (by decide) rfl rfl ?_
            refine wp_iconst dX11_odds_34 ?_
            refine wp_istore (ls' := [_, _, _, _, _, _]) dX11_odds_35 (by decide) rfl rfl ?_
            exact l_odds ⟨by omega, by omega⟩ ⟨by omega, by omega⟩ h4 (2 ^ n.toNat : Nat) 0 0 _ hS (by omega) (by rw [p2n ⟨by omega, by omega⟩]; omega) rfl (fun iv' hS => by
              have kk := k _ hS
              unfold aOdds at kk
              rw [if_neg (by omega), if_neg (by omega), if_neg (by omega)] at kk
              exact kk)
          · refine wp_iconst dX11_odds_30 ?_
            refine wp_ireturn dX11_odds_31 rfl ?_
            have kk := k _ hS
            unfold aOdds at kk
            (repeat' split at kk) <;> first | exact kk | (exfalso; omega)
  · refine wp_if_eq (tgt := 30) dX11_odds_7 rfl (fun _ => ?_) (fun q => absurd q (by decide))
    refine wp_iconst dX11_odds_30 ?_
    refine wp_ireturn dX11_odds_31 rfl ?_
    have kk := k _ hS
    unfold aOdds at kk
    (repeat' split at kk) <;> first | exact kk | (exfalso; omega)
theorem l_shr {p n : Int} (hS : Sim c m sh iv rv E F N) (hpp : 0 ≤ p ∧ p < F 13) (hn : 0 ≤ n ∧ n ≤ 999) (k : R (some (aI (if gtS N (F 13).toNat = 0 then 0 else n * gtO N p (N (61 * p + 18)).toNat / gtS N (F 13).toNat))) sh iv lw rv) (j : Nat) : ∀ (a x : Int), 0 ≤ a → a + j = F 13 → x = gtS N a.toNat → wp (d + 3) mX11_shares 29 [some (aR 0), some (aI p), some (aI n), some (aI x), some (aI a)] [] sh iv lw rv 0 0 R := by
  have hf13 := hS.f13
  have h13 : 0 < F 13 := by omega
  have hB := hS.bok h13
  have hgo := gtO_r hB (show 0 ≤ p ∧ p < 6 by omega) (N (61 * p + 18)).toNat (by have := hB.v18 (show 0 ≤ p ∧ p < 6 by omega); omega)
  induction j with
  | zero =>
    intro a x h0 hm hx
    have ea : a = F 13 := by omega
    have hgs := gtS_r hB (F 13).toNat (by omega)
    have hp : 0 ≤ p ∧ p < 6 := by omega
    have h18 := hB.v18 hp
    have hml := mul_b (x := n) (y := gtO N p (N (61 * p + 18)).toNat) (a := 999) (b := 5994) (by omega) (by omega)
    rw [ea] at hx
    refine wp_iload dX11_shares_29 rfl ?_
    refine wp_aload_n dX11_shares_31 rfl ?_
    refine wp_getR hS.hm.2.2.1 dX11_shares_32 fX11_19 hS.hm.1 ?_
    refine wp_callV (as := []) (ls0 := [_]) (kc := 0) (ks := 0) (bc' := 0) (bs' := 0) dX11_shares_35 vX11_114 hS.pls.1 rfl rfl (Nat.le_of_ble_eq_true rfl) (Nat.le_of_ble_eq_true rfl) (by omega) (by omega) ?_
    refine n_pairs hS.plan ?_
    refine wp_icmp_ge (tgt := 66) dX11_shares_38 rfl (fun h38 => ?_) (fun h38 => by exfalso; omega)
    refine wp_iload_n dX11_shares_66 rfl ?_
    refine wp_if_le (tgt := 92) dX11_shares_67 rfl (fun h67 => ?_) (fun h67 => ?_)
    · refine wp_iconst dX11_shares_92 ?_
      refine wp_ireturn dX11_shares_93 rfl ?_
      rw [hx] at *
      first | (rw [if_pos (by omega)] at k; exact k) | (rw [if_neg (by omega)] at k; exact k)
    · refine wp_iload_n dX11_shares_70 rfl ?_
      refine wp_aload_n dX11_shares_71 rfl ?_
      refine wp_getR hS.hm.2.2.2.2.1 dX11_shares_72 fX11_37 hS.hm.1 ?_
      refine wp_getR hS.n0.r11l dX11_shares_75 fX11_143 hS.n0.s11 ?_
      refine wp_iload_n dX11_shares_78 rfl ?_
      refine wp_aaldL dX11_shares_79 hS.n0.s13 (by omega) (by omega) (hS.n0.r13 hp) ?_
      refine wp_getR (hS.n0.lk0 hp).rS dX11_shares_80 fX11_152 (hS.n0.lk0 hp).1 ?_
      refine wp_callV (as := []) (ls0 := [_, _, _, _]) (kc := 0) (ks := 0) (bc' := 0) (bs' := 0) dX11_shares_83 vX11_282 (hS.n0.lk0 hp).sS.1 rfl rfl (Nat.le_of_ble_eq_true rfl) (Nat.le_of_ble_eq_true rfl) (by omega) (by omega) ?_
      refine fl12 ?_
      refine c_gotIn (hS.n0.lk0 hp).sS hS.rel (hS.bok h13) ?_
      rw [id12]
      refine wp_imul dX11_shares_86 ⟨by omega, by omega⟩ ?_
      refine wp_iload_n dX11_shares_87 rfl ?_
      refine wp_idiv dX11_shares_88 (by omega) (by omega) ?_
      refine wp_goto (tgt := 93) dX11_shares_89 rfl ?_
      refine wp_ireturn dX11_shares_93 rfl ?_
      rw [hx] at *
      first | (rw [if_pos (by omega)] at k; exact k) | (rw [if_neg (by omega)] at k; exact k)
  | succ j ih =>
    intro a x h0 hm hx
    have hp : 0 ≤ a ∧ a < 6 := by omega
    have h18 := hB.v18 hp
    have hgs := gtS_r hB a.toNat (by omega)
    have hga := gtO_r hB hp (N (61 * a + 18)).toNat (by have := hB.v18 hp; omega)
    refine wp_iload dX11_shares_29 rfl ?_
    refine wp_aload_n dX11_shares_31 rfl ?_
    refine wp_getR hS.hm.2.2.1 dX11_shares_32 fX11_19 hS.hm.1 ?_
    refine wp_callV (as := []) (ls0 := [_]) (kc := 0) (ks := 0) (bc' := 0) (bs' := 0) dX11_shares_35 vX11_114 hS.pls.1 rfl rfl (Nat.le_of_ble_eq_true rfl) (Nat.le_of_ble_eq_true rfl) (by omega) (by omega) ?_
    refine n_pairs hS.plan ?_
    refine wp_icmp_ge (tgt := 66) dX11_shares_38 rfl (fun h38 => by exfalso; omega) (fun h38 => ?_)
    refine wp_iload_n dX11_shares_41 rfl ?_
    refine wp_aload_n dX11_shares_42 rfl ?_
    refine wp_getR hS.hm.2.2.2.2.1 dX11_shares_43 fX11_37 hS.hm.1 ?_
    refine wp_getR hS.n0.r11l dX11_shares_46 fX11_143 hS.n0.s11 ?_
    refine wp_iload dX11_shares_49 rfl ?_
    refine wp_aaldL dX11_shares_51 hS.n0.s13 (by omega) (by omega) (hS.n0.r13 hp) ?_
    refine wp_getR (hS.n0.lk0 hp).rS dX11_shares_52 fX11_152 (hS.n0.lk0 hp).1 ?_
    refine wp_callV (as := []) (ls0 := [_, _, _, _]) (kc := 0) (ks := 0) (bc' := 0) (bs' := 0) dX11_shares_55 vX11_282 (hS.n0.lk0 hp).sS.1 rfl rfl (Nat.le_of_ble_eq_true rfl) (Nat.le_of_ble_eq_true rfl) (by omega) (by omega) ?_
    refine fl12 ?_
    refine c_gotIn (hS.n0.lk0 hp).sS hS.rel (hS.bok h13) ?_
    rw [id12]
    refine wp_iadd dX11_shares_58 ⟨by omega, by omega⟩ ?_
    refine wp_istore_n (ls' := [_, _, _, _, _]) dX11_shares_59 (by decide) rfl rfl ?_
    refine wp_iinc (ls' := [_, _, _, _, _]) dX11_shares_60 (by decide) rfl rfl ⟨by omega, by omega⟩ rfl ?_
    refine wp_goto (tgt := 29) dX11_shares_63 rfl ?_
    exact ih _ _ (by omega) (by omega) (by rw [toN1 h0, gtS, toNI h0, hx])
theorem y_shares {p n : Int} (hS : Sim c m sh iv rv E F N) (k : R (some (aI (aShares F N p n))) sh iv lw rv) : wp (d + 3) mX11_shares 0 [some (aR 0), some (aI p), some (aI n), none, none] [] sh iv lw rv 0 0 R := by
  unfold aShares at k
  refine wp_aload_n dX11_shares_0 rfl ?_
  refine wp_getR hS.hm.2.2.1 dX11_shares_1 fX11_19 hS.hm.1 ?_
  refine wp_iload_n dX11_shares_4 rfl ?_
  refine wp_callV (as := [_]) (ls0 := [_, _]) (kc := 0) (ks := 0) (bc' := 0) (bs' := 0) dX11_shares_5 vX11_133 hS.pls.1 rfl rfl (Nat.le_of_ble_eq_true rfl) (Nat.le_of_ble_eq_true rfl) (by omega) (by omega) ?_
  refine n_hasPair hS.plan (fun h5 => ?_) (fun h5 => ?_)
  · refine wp_if_eq (tgt := 22) dX11_shares_8 rfl (fun q => absurd q (by decide)) (fun _ => ?_)
    refine wp_iload_n dX11_shares_11 rfl ?_
    refine wp_if_lt (tgt := 22) dX11_shares_12 rfl (fun h12 => ?_) (fun h12 => ?_)
    · refine wp_iconst dX11_shares_22 ?_
      refine wp_ireturn dX11_shares_23 rfl ?_
      first | (rw [if_pos h5] at k; exact k) | (rw [if_neg (fun z => z h5), if_pos (by omega)] at k; exact k)
    · refine wp_iload_n dX11_shares_15 rfl ?_
      refine wp_sipush dX11_shares_16 ?_
      refine wp_icmp_le (tgt := 24) dX11_shares_19 rfl (fun h19 => ?_) (fun h19 => ?_)
      · refine wp_iconst dX11_shares_24 ?_
        refine wp_istore_n (ls' := [_, _, _, _, _]) dX11_shares_25 (by decide) rfl rfl ?_
        refine wp_iconst dX11_shares_26 ?_
        refine wp_istore (ls' := [_, _, _, _, _]) dX11_shares_27 (by decide) rfl rfl ?_
        rw [if_neg (fun z => z h5), if_neg (by omega)] at k
        exact l_shr hS h5 ⟨by omega, by omega⟩ k (F 13).toNat 0 0 (by omega) (by omega) rfl
      · refine wp_iconst dX11_shares_22 ?_
        refine wp_ireturn dX11_shares_23 rfl ?_
        first | (rw [if_pos h5] at k; exact k) | (rw [if_neg (fun z => z h5), if_pos (by omega)] at k; exact k)
  · refine wp_if_eq (tgt := 22) dX11_shares_8 rfl (fun _ => ?_) (fun q => absurd q (by decide))
    refine wp_iconst dX11_shares_22 ?_
    refine wp_ireturn dX11_shares_23 rfl ?_
    first | (rw [if_pos h5] at k; exact k) | (rw [if_neg (fun z => z h5), if_pos (by omega)] at k; exact k)
theorem y_node {nd w : Int} (hS : Sim c m sh iv rv E F N) (k : R (some (aI (aNode E F N nd w))) sh iv lw rv) : wp (d + 4) mX11_node 0 [some (aR 0), some (aI nd), some (aI w)] [] sh iv lw rv 0 0 R := by
  have hf13 := hS.f13
  unfold aNode at k
  refine wp_aload_n dX11_node_0 rfl ?_
  refine wp_getR hS.hm.2.2.1 dX11_node_1 fX11_19 hS.hm.1 ?_
  refine wp_callV (as := []) (ls0 := [_]) (kc := 0) (ks := 0) (bc' := 0) (bs' := 0) dX11_node_4 vX11_123 hS.pls.1 rfl rfl (Nat.le_of_ble_eq_true rfl) (Nat.le_of_ble_eq_true rfl) (by omega) (by omega) ?_
  refine n_isTold hS.plan (fun h4 => ?_) (fun h4 => ?_)
  · have h13 := h4
    have hP := hS.prm h13
    have hB := hS.bok h13
    obtain ⟨hW1, hW2, hO1, hO2, hT1, hT2, hI1, hI2, hF1, hF2⟩ := id hP
    refine wp_if_eq (tgt := 20) dX11_node_7 rfl (fun q => absurd q (by decide)) (fun _ => ?_)
    refine wp_iload_n dX11_node_10 rfl ?_
    refine wp_if_lt (tgt := 20) dX11_node_11 rfl (fun h11 => ?_) (fun h11 => ?_)
    · refine wp_iconst dX11_node_20 ?_
      refine wp_ireturn dX11_node_21 rfl ?_
      (repeat' split at k) <;> (repeat' split) <;> first | exact k | (exfalso; omega)
    · refine wp_iload_n dX11_node_14 rfl ?_
      refine wp_bipush dX11_node_15 ?_
      refine wp_icmp_lt (tgt := 22) dX11_node_17 rfl (fun h17 => ?_) (fun h17 => ?_)
      · refine wp_iload_n dX11_node_22 rfl ?_
        refine wp_if_ne (tgt := 35) dX11_node_23 rfl (fun h23 => ?_) (fun h23 => ?_)
        · refine wp_iload_n dX11_node_35 rfl ?_
          refine wp_iconst dX11_node_36 ?_
          refine wp_icmp_ne (tgt := 51) dX11_node_37 rfl (fun h37 => ?_) (fun h37 => ?_)
          · refine wp_iconst dX11_node_51 ?_
            refine wp_ireturn dX11_node_52 rfl ?_
            rw [if_neg (by omega), if_neg (by omega), if_pos (by omega)] at k; exact k
          · refine wp_aload_n dX11_node_40 rfl ?_
            refine wp_getR hS.hm.2.2.2.2.1 dX11_node_41 fX11_37 hS.hm.1 ?_
            refine wp_iload_n dX11_node_44 rfl ?_
            refine wp_callV (as := [_]) (ls0 := [_, _, _, _, _, _, _, _, _]) (kc := 0) (ks := 0) (bc' := 0) (bs' := 0) dX11_node_45 vX11_285 hS.n0.s11 rfl rfl (Nat.le_of_ble_eq_true rfl) (Nat.le_of_ble_eq_true rfl) (by omega) (by omega) ?_
            refine fl0 ?_
            refine x_doubledAt (b := 0) hS.n0 hS.plan hP hS.nne hS.rel hB (fun x hx => ?_)
            rw [CS0id]
            refine wp_goto (tgt := 52) dX11_node_48 rfl ?_
            refine wp_ireturn dX11_node_52 rfl ?_
            rw [if_neg (by omega), if_neg (by omega), if_neg (by omega)] at k
            have hb : Bts x (Blw (NdP E F N nd w) (E 5 0)) := hx.cg (fun s s0 _ => ⟨fun h => ⟨s0, Classical.byContradiction (fun z => by rw [ctA_hi hB (by omega) _ (by omega)] at h; omega), Or.inr ⟨by omega, h⟩⟩, fun h => h.2.2.elim (fun z => by have := z.1; omega) (fun z => z.2)⟩)
            rw [← hb.v] at k; exact k
        · refine wp_aload_n dX11_node_26 rfl ?_
          refine wp_getR hS.hm.2.2.2.2.1 dX11_node_27 fX11_37 hS.hm.1 ?_
          refine wp_iload_n dX11_node_30 rfl ?_
          refine wp_callV (as := [_]) (ls0 := [_, _, _, _]) (kc := 0) (ks := 0) (bc' := 0) (bs' := 0) dX11_node_31 vX11_252 hS.n0.s11 rfl rfl (Nat.le_of_ble_eq_true rfl) (Nat.le_of_ble_eq_true rfl) (by omega) (by omega) ?_
          refine fl0 ?_
          refine x_takenAt (b := 0) hS.n0 hS.plan hP hS.rel hB (fun x hx => ?_)
          rw [CS0id]
          refine wp_ireturn dX11_node_34 rfl ?_
          rw [if_neg (by omega), if_neg (by omega), if_neg (by omega)] at k
          have hb : Bts x (Blw (NdP E F N nd w) (E 5 0)) := hx.cg (fun s s0 _ => ⟨fun h => ⟨s0, tkn_lt hB hF2 h, Or.inl ⟨by omega, h⟩⟩, fun h => h.2.2.elim (fun z => z.2) (fun z => by have := z.1; omega)⟩)
          rw [← hb.v] at k; exact k
      · refine wp_iconst dX11_node_20 ?_
        refine wp_ireturn dX11_node_21 rfl ?_
        (repeat' split at k) <;> (repeat' split) <;> first | exact k | (exfalso; omega)
  · refine wp_if_eq (tgt := 20) dX11_node_7 rfl (fun _ => ?_) (fun q => absurd q (by decide))
    refine wp_iconst dX11_node_20 ?_
    refine wp_ireturn dX11_node_21 rfl ?_
    (repeat' split at k) <;> (repeat' split) <;> first | exact k | (exfalso; omega)
theorem y_most {w : Int} (hS : Sim c m sh iv rv E F N) (k : R (some (aI (aMost F N w))) sh iv lw rv) : wp (d + 5) mX11_most 0 [some (aR 0), some (aI w)] [] sh iv lw rv 0 0 R := by
  have hf13 := hS.f13
  unfold aMost at k
  refine wp_aload_n dX11_most_0 rfl ?_
  refine wp_getR hS.hm.2.2.1 dX11_most_1 fX11_19 hS.hm.1 ?_
  refine wp_callV (as := []) (ls0 := [_]) (kc := 0) (ks := 0) (bc' := 0) (bs' := 0) dX11_most_4 vX11_123 hS.pls.1 rfl rfl (Nat.le_of_ble_eq_true rfl) (Nat.le_of_ble_eq_true rfl) (by omega) (by omega) ?_
  refine n_isTold hS.plan (fun h4 => ?_) (fun h4 => ?_)
  · have h13 := h4
    have hP := hS.prm h13
    have hB := hS.bok h13
    have hrr : ∀ a : Int, 0 ≤ a → a < F 13 → RR N a := fun a x y => ((hS.inv h13).2.1 a x y).2.1
    refine wp_if_eq (tgt := 20) dX11_most_7 rfl (fun q => absurd q (by decide)) (fun _ => ?_)
    refine wp_iload_n dX11_most_10 rfl ?_
    refine wp_if_lt (tgt := 20) dX11_most_11 rfl (fun h11 => ?_) (fun h11 => ?_)
    · refine wp_ldcw (v := -1000000) dX11_most_20 zX11_288 rfl ⟨by decide, by decide⟩ ?_
      refine wp_ireturn dX11_most_23 rfl ?_
      (repeat' split at k) <;> (repeat' split) <;> first | exact k | (exfalso; omega)
    · refine wp_iload_n dX11_most_14 rfl ?_
      refine wp_bipush dX11_most_15 ?_
      refine wp_icmp_le (tgt := 24) dX11_most_17 rfl (fun h17 => ?_) (fun h17 => ?_)
      · refine wp_iload_n dX11_most_24 rfl ?_
        rcases (by omega : w = 5 ∨ w = 6 ∨ w = 7 ∨ w = 8 ∨ w = 9 ∨ (w < 5 ∨ 9 < w)) with h25 | h25 | h25 | h25 | h25 | h25
        · refine wp_tswIn (tgt := 60) dX11_most_25 (by omega) (by omega) (by rw [h25]; rfl) rfl ?_
          refine wp_aload_n dX11_most_60 rfl ?_
          refine wp_getR hS.hm.2.2.2.2.1 dX11_most_61 fX11_37 hS.hm.1 ?_
          refine wp_bipush dX11_most_64 ?_
          refine wp_callV (as := [_]) (ls0 := [_, _, _, _]) (kc := 0) (ks := 0) (bc' := 0) (bs' := 0) dX11_most_66 vX11_289 hS.n0.s11 rfl rfl (Nat.le_of_ble_eq_true rfl) (Nat.le_of_ble_eq_true rfl) (by omega) (by omega) ?_
          refine fl0 ?_
          refine x_greatest (b := 0) (by omega) hS.n0 hS.plan hP hS.rel ?_
          rw [CS0id]
          refine wp_ireturn dX11_most_69 rfl ?_
          (repeat' split at k) <;> (repeat' split) <;> first | exact k | (exfalso; omega)
        · refine wp_tswIn (tgt := 70) dX11_most_25 (by omega) (by omega) (by rw [h25]; rfl) rfl ?_
          refine wp_aload_n dX11_most_70 rfl ?_
          refine wp_getR hS.hm.2.2.2.2.1 dX11_most_71 fX11_37 hS.hm.1 ?_
          refine wp_iconst dX11_most_74 ?_
          refine wp_callV (as := [_]) (ls0 := [_, _, _, _]) (kc := 0) (ks := 0) (bc' := 0) (bs' := 0) dX11_most_75 vX11_289 hS.n0.s11 rfl rfl (Nat.le_of_ble_eq_true rfl) (Nat.le_of_ble_eq_true rfl) (by omega) (by omega) ?_
          refine fl0 ?_
          refine x_greatest (b := 0) (by omega) hS.n0 hS.plan hP hS.rel ?_
          rw [CS0id]
          refine wp_ireturn dX11_most_78 rfl ?_
          (repeat' split at k) <;> (repeat' split) <;> first | exact k | (exfalso; omega)
        · refine wp_tswIn (tgt := 79) dX11_most_25 (by omega) (by omega) (by rw [h25]; rfl) rfl ?_
          refine wp_aload_n dX11_most_79 rfl ?_
          refine wp_getR hS.hm.2.2.2.2.1 dX11_most_80 fX11_37 hS.hm.1 ?_
          refine wp_iconst dX11_most_83 ?_
          refine wp_callV (as := [_]) (ls0 := [_, _, _, _]) (kc := 0) (ks := 0) (bc' := 0) (bs' := 0) dX11_most_84 vX11_289 hS.n0.s11 rfl rfl (Nat.le_of_ble_eq_true rfl) (Nat.le_of_ble_eq_true rfl) (by omega) (by omega) ?_
          refine fl0 ?_
          refine x_greatest (b := 0) (by omega) hS.n0 hS.plan hP hS.rel ?_
          rw [CS0id]
          refine wp_ireturn dX11_most_87 rfl ?_
          (repeat' split at k) <;> (repeat' split) <;> first | exact k | (exfalso; omega)
        · refine wp_tswIn (tgt := 88) dX11_most_25 (by omega) (by omega) (by rw [h25]; rfl) rfl ?_
          refine wp_aload_n dX11_most_88 rfl ?_
          refine wp_getR hS.hm.2.2.2.2.1 dX11_most_89 fX11_37 hS.hm.1 ?_
          refine wp_callV (as := []) (ls0 := [_]) (kc := 0) (ks := 0) (bc' := 0) (bs' := 0) dX11_most_92 vX11_292 hS.n0.s11 rfl rfl (Nat.le_of_ble_eq_true rfl) (Nat.le_of_ble_eq_true rfl) (by omega) (by omega) ?_
          refine fl0 ?_
          refine x_jammedBits (b := 0) hS.n0 hS.rel ?_
          rw [CS0id]
          refine wp_ireturn dX11_most_95 rfl ?_
          (repeat' split at k) <;> (repeat' split) <;> first | exact k | (exfalso; omega)
        · refine wp_tswIn (tgt := 96) dX11_most_25 (by omega) (by omega) (by rw [h25]; rfl) rfl ?_
          refine wp_aload_n dX11_most_96 rfl ?_
          refine wp_getR hS.hm.2.2.2.2.1 dX11_most_97 fX11_37 hS.hm.1 ?_
          refine wp_callV (as := []) (ls0 := [_, _, _]) (kc := 0) (ks := 0) (bc' := 0) (bs' := 0) dX11_most_100 vX11_295 hS.n0.s11 rfl rfl (Nat.le_of_ble_eq_true rfl) (Nat.le_of_ble_eq_true rfl) (by omega) (by omega) ?_
          refine fl0 ?_
          refine x_fbad (b := 0) hS.n0 hS.plan hP hS.rel hB ?_
          rw [CS0id]
          refine wp_ireturn dX11_most_103 rfl ?_
          (repeat' split at k) <;> (repeat' split) <;> first | exact k | (exfalso; omega)
        · refine wp_tswOut (tgt := 104) dX11_most_25 (by omega) rfl ?_
          refine wp_aload_n dX11_most_104 rfl ?_
          refine wp_getR hS.hm.2.2.2.2.1 dX11_most_105 fX11_37 hS.hm.1 ?_
          refine wp_iload_n dX11_most_108 rfl ?_
          refine wp_callV (as := [_]) (ls0 := [_, _, _, _]) (kc := 0) (ks := 0) (bc' := 0) (bs' := 0) dX11_most_109 vX11_298 hS.n0.s11 rfl rfl (Nat.le_of_ble_eq_true rfl) (Nat.le_of_ble_eq_true rfl) (by omega) (by omega) ?_
          refine fl0 ?_
          refine x_pairBits (b := 0) (by omega) hS.n0 hS.plan hP hS.rel hB hrr (fun x hx => ?_)
          rw [CS0id, hx.v]
          refine wp_ireturn dX11_most_112 rfl ?_
          (repeat' split at k) <;> (repeat' split) <;> first | exact k | (exfalso; omega)
      · refine wp_ldcw (v := -1000000) dX11_most_20 zX11_288 rfl ⟨by decide, by decide⟩ ?_
        refine wp_ireturn dX11_most_23 rfl ?_
        (repeat' split at k) <;> (repeat' split) <;> first | exact k | (exfalso; omega)
  · refine wp_if_eq (tgt := 20) dX11_most_7 rfl (fun _ => ?_) (fun q => absurd q (by decide))
    refine wp_ldcw (v := -1000000) dX11_most_20 zX11_288 rfl ⟨by decide, by decide⟩ ?_
    refine wp_ireturn dX11_most_23 rfl ?_
    (repeat' split at k) <;> (repeat' split) <;> first | exact k | (exfalso; omega)
theorem y_offer {p nd sl i : Int} (hS : Sim c m sh iv rv E F N) (k : ∀ iv' : aF, Sim c m sh iv' rv E F N → R (some (aI (aOffer E F N p nd sl i))) sh iv' lw rv) : wp (d + 4) mX11_offer 0 [some (aR 0), some (aI p), some (aI nd), some (aI sl), some (aI i), none] [] sh iv lw rv 0 0 R := by
  have hf13 := hS.f13
  refine wp_aload_n dX11_offer_0 rfl ?_
  refine wp_getR hS.hm.2.2.1 dX11_offer_1 fX11_19 hS.hm.1 ?_
  refine wp_iload_n dX11_offer_4 rfl ?_
  refine wp_callV (as := [_]) (ls0 := [_, _]) (kc := 0) (ks := 0) (bc' := 0) (bs' := 0) dX11_offer_5 vX11_133 hS.pls.1 rfl rfl (Nat.le_of_ble_eq_true rfl) (Nat.le_of_ble_eq_true rfl) (by omega) (by omega) ?_
  refine n_hasPair hS.plan (fun h5 => ?_) (fun h5 => ?_)
  · have hp : 0 ≤ p ∧ p < 6 := ⟨h5.1, by have := hS.f13; omega⟩
    have h13 : 0 < F 13 := by omega
    have hP := hS.prm h13
    have hB := hS.bok h13
    obtain ⟨hW1, hW2, hO1, hO2, hT1, hT2, hI1, hI2, hF1, hF2⟩ := id hP
    refine wp_if_eq (tgt := 32) dX11_offer_8 rfl (fun q => absurd q (by decide)) (fun _ => ?_)
    refine wp_iload_n dX11_offer_11 rfl ?_
    refine wp_if_lt (tgt := 32) dX11_offer_12 rfl (fun h12 => ?_) (fun h12 => ?_)
    · refine wp_iconst dX11_offer_32 ?_
      refine wp_ireturn dX11_offer_33 rfl ?_
      have kk := k _ hS
      unfold aOffer at kk
      (repeat' split at kk) <;> first | exact kk | (exfalso; omega)
    · refine wp_iload_n dX11_offer_15 rfl ?_
      refine wp_aload_n dX11_offer_16 rfl ?_
      refine wp_getR hS.hm.2.2.1 dX11_offer_17 fX11_19 hS.hm.1 ?_
      refine wp_callV (as := []) (ls0 := [_]) (kc := 0) (ks := 0) (bc' := 0) (bs' := 0) dX11_offer_20 vX11_249 hS.pls.1 rfl rfl (Nat.le_of_ble_eq_true rfl) (Nat.le_of_ble_eq_true rfl) (by omega) (by omega) ?_
      refine n_slots hS.plan ?_
      refine wp_icmp_ge (tgt := 32) dX11_offer_23 rfl (fun h23 => ?_) (fun h23 => ?_)
      · refine wp_iconst dX11_offer_32 ?_
        refine wp_ireturn dX11_offer_33 rfl ?_
        have kk := k _ hS
        unfold aOffer at kk
        (repeat' split at kk) <;> first | exact kk | (exfalso; omega)
      · refine wp_iload dX11_offer_26 rfl ?_
        refine wp_iconst dX11_offer_28 ?_
        refine wp_icmp_ge (tgt := 34) dX11_offer_29 rfl (fun h29 => ?_) (fun h29 => ?_)
        · refine wp_iload_n dX11_offer_34 rfl ?_
          refine wp_aload_n dX11_offer_35 rfl ?_
          refine wp_getR hS.hm.2.2.1 dX11_offer_36 fX11_19 hS.hm.1 ?_
          refine wp_iload_n dX11_offer_39 rfl ?_
          refine wp_iconst dX11_offer_40 ?_
          refine wp_callV (as := [_, _]) (ls0 := [_, _, _]) (kc := 0) (ks := 0) (bc' := 0) (bs' := 0) dX11_offer_41 vX11_139 hS.pls.1 rfl rfl (Nat.le_of_ble_eq_true rfl) (Nat.le_of_ble_eq_true rfl) (by omega) (by omega) ?_
          refine n_itemOf hS.f13.2 (by omega) (by omega) hS.plan ?_
          refine wp_icmp_eq (tgt := 62) dX11_offer_44 rfl (fun h44 => ?_) (fun h44 => ?_)
          · refine wp_aload_n dX11_offer_62 rfl ?_
            refine wp_getR hS.hm.2.2.2.2.2.1 dX11_offer_63 fX11_46 hS.hm.1 ?_
            refine wp_iload_n dX11_offer_66 rfl ?_
            refine wp_aload_n dX11_offer_67 rfl ?_
            refine wp_getR hS.hm.2.2.2.2.1 dX11_offer_68 fX11_37 hS.hm.1 ?_
            refine wp_iload_n dX11_offer_71 rfl ?_
            refine wp_callV (as := [_]) (ls0 := [_, _, _, _]) (kc := 0) (ks := 0) (bc' := 0) (bs' := 0) dX11_offer_72 vX11_252 hS.n0.s11 rfl rfl (Nat.le_of_ble_eq_true rfl) (Nat.le_of_ble_eq_true rfl) (by omega) (by omega) ?_
            refine fl0 ?_
            refine x_takenAt (b := 0) hS.n0 hS.plan hP hS.rel hB (fun x hx => ?_)
            rw [CS0id]
            refine wp_iload_n dX11_offer_75 rfl ?_
            refine wp_bipush dX11_offer_76 ?_
            refine wp_callV (as := [_, _, _, _]) (ls0 := [_, _, _, _, _, _, _, _]) (kc := 0) (ks := 0) (bc' := 0) (bs' := 0) dX11_offer_78 vX11_255 hS.n0.s38 rfl rfl (Nat.le_of_ble_eq_true rfl) (Nat.le_of_ble_eq_true rfl) (by omega) (by omega) ?_
            refine fl0 ?_
            refine e_gather (b := 0) hS.n0 hS.plan hP hp hx (by omega) (by omega) (fun D1 O1 g1 g2 g3 => ?_)
            have hlen := offs_len (Q := Tkn N (E 6) (F 13) nd) (W := E 5 0) (Of := E 5 1) (p := p) (fr := sl) (E 5 0).toNat 0
            have eof : offs (Tkn N (E 6) (F 13) nd) (E 5 0) (E 5 1) p sl (E 5 0).toNat 0 = ofr E F N p nd sl := rfl
            rw [eof] at g2 g3 hlen
            have g4 : D1 4 = ((ofr E F N p nd sl).length : Int) := by rw [g2]; unfold mnI; split <;> omega
            have hS0 := hS
            replace hS := Sim.sc0 (D := D1) (O := O1) (T := iv 40) (S := iv 43) (C := iv 44) hS hS.z0 hS.rel
            refine wp_istore (ls' := [_, _, _, _, _, _]) dX11_offer_81 (by decide) rfl rfl ?_
            refine wp_iload dX11_offer_83 rfl ?_
            refine wp_iconst dX11_offer_85 ?_
            refine wp_icmp_ne (tgt := 94) dX11_offer_86 rfl (fun h86 => ?_) (fun h86 => ?_)
            · refine wp_aload_n dX11_offer_94 rfl ?_
              refine wp_getR hS.hm.2.2.2.2.2.1 dX11_offer_95 fX11_46 hS.hm.1 ?_
              refine wp_iload dX11_offer_98 rfl ?_
              refine wp_callV (as := [_]) (ls0 := [_, _]) (kc := 0) (ks := 0) (bc' := 0) (bs' := 0) dX11_offer_100 vX11_259 hS.n0.s38 rfl rfl (Nat.le_of_ble_eq_true rfl) (Nat.le_of_ble_eq_true rfl) (by omega) (by omega) ?_
              refine e_offerAt (b := 0) hS0.n0 (by omega) ?_
              refine wp_ireturn dX11_offer_103 rfl ?_
              have kk := k _ hS
              unfold aOffer at kk
              rw [if_neg (fun z => z h5), if_neg (by omega), if_neg (by omega), if_neg (by omega)] at kk
              rw [g4]
              first
              | (rw [if_pos (by omega)] at kk; exact kk)
              | (rw [if_neg (by omega)] at kk
                 by_cases q : i < ((ofr E F N p nd sl).length : Int)
                 · rw [if_pos q] at kk; rw [if_pos (by omega), g3 i (by omega) (by omega)]; exact kk
                 · rw [if_neg q] at kk; rw [if_neg (by omega)]; exact kk)
            · refine wp_iload dX11_offer_89 rfl ?_
              refine wp_goto (tgt := 103) dX11_offer_91 rfl ?_
              refine wp_ireturn dX11_offer_103 rfl ?_
              have kk := k _ hS
              unfold aOffer at kk
              rw [if_neg (fun z => z h5), if_neg (by omega), if_neg (by omega), if_neg (by omega)] at kk
              rw [g4]
              first
              | (rw [if_pos (by omega)] at kk; exact kk)
              | (rw [if_neg (by omega)] at kk
                 by_cases q : i < ((ofr E F N p nd sl).length : Int)
                 · rw [if_pos q] at kk; rw [if_pos (by omega), g3 i (by omega) (by omega)]; exact kk
                 · rw [if_neg q] at kk; rw [if_neg (by omega)]; exact kk)
          · refine wp_iload_n dX11_offer_47 rfl ?_
            refine wp_aload_n dX11_offer_48 rfl ?_
            refine wp_getR hS.hm.2.2.1 dX11_offer_49 fX11_19 hS.hm.1 ?_
            refine wp_iload_n dX11_offer_52 rfl ?_
            refine wp_iconst dX11_offer_53 ?_
            refine wp_callV (as := [_, _]) (ls0 := [_, _, _]) (kc := 0) (ks := 0) (bc' := 0) (bs' := 0) dX11_offer_54 vX11_139 hS.pls.1 rfl rfl (Nat.le_of_ble_eq_true rfl) (Nat.le_of_ble_eq_true rfl) (by omega) (by omega) ?_
            refine n_itemOf hS.f13.2 (by omega) (by omega) hS.plan ?_
            refine wp_icmp_eq (tgt := 62) dX11_offer_57 rfl (fun h57 => ?_) (fun h57 => ?_)
            · refine wp_aload_n dX11_offer_62 rfl ?_
              refine wp_getR hS.hm.2.2.2.2.2.1 dX11_offer_63 fX11_46 hS.hm.1 ?_
              refine wp_iload_n dX11_offer_66 rfl ?_
              refine wp_aload_n dX11_offer_67 rfl ?_
              refine wp_getR hS.hm.2.2.2.2.1 dX11_offer_68 fX11_37 hS.hm.1 ?_
              refine wp_iload_n dX11_offer_71 rfl ?_
              refine wp_callV (as := [_]) (ls0 := [_, _, _, _]) (kc := 0) (ks := 0) (bc' := 0) (bs' := 0) dX11_offer_72 vX11_252 hS.n0.s11 rfl rfl (Nat.le_of_ble_eq_true rfl) (Nat.le_of_ble_eq_true rfl) (by omega) (by omega) ?_
              refine fl0 ?_
              refine x_takenAt (b := 0) hS.n0 hS.plan hP hS.rel hB (fun x hx => ?_)
              rw [CS0id]
              refine wp_iload_n dX11_offer_75 rfl ?_
              refine wp_bipush dX11_offer_76 ?_
              refine wp_callV (as := [_, _, _, _]) (ls0 := [_, _, _, _, _, _, _, _]) (kc := 0) (ks := 0) (bc' := 0) (bs' := 0) dX11_offer_78 vX11_255 hS.n0.s38 rfl rfl (Nat.le_of_ble_eq_true rfl) (Nat.le_of_ble_eq_true rfl) (by omega) (by omega) ?_
              refine fl0 ?_
              refine e_gather (b := 0) hS.n0 hS.plan hP hp hx (by omega) (by omega) (fun D1 O1 g1 g2 g3 => ?_)
              have hlen := offs_len (Q := Tkn N (E 6) (F 13) nd) (W := E 5 0) (Of := E 5 1) (p := p) (fr := sl) (E 5 0).toNat 0
              have eof : offs (Tkn N (E 6) (F 13) nd) (E 5 0) (E 5 1) p sl (E 5 0).toNat 0 = ofr E F N p nd sl := rfl
              rw [eof] at g2 g3 hlen
              have g4 : D1 4 = ((ofr E F N p nd sl).length : Int) := by rw [g2]; unfold mnI; split <;> omega
              have hS0 := hS
              replace hS := Sim.sc0 (D := D1) (O := O1) (T := iv 40) (S := iv 43) (C := iv 44) hS hS.z0 hS.rel
              refine wp_istore (ls' := [_, _, _, _, _, _]) dX11_offer_81 (by decide) rfl rfl ?_
              refine wp_iload dX11_offer_83 rfl ?_
              refine wp_iconst dX11_offer_85 ?_
              refine wp_icmp_ne (tgt := 94) dX11_offer_86 rfl (fun h86 => ?_) (fun h86 => ?_)
              · refine wp_aload_n dX11_offer_94 rfl ?_
                refine wp_getR hS.hm.2.2.2.2.2.1 dX11_offer_95 fX11_46 hS.hm.1 ?_
                refine wp_iload dX11_offer_98 rfl ?_
                refine wp_callV (as := [_]) (ls0 := [_, _]) (kc := 0) (ks := 0) (bc' := 0) (bs' := 0) dX11_offer_100 vX11_259 hS.n0.s38 rfl rfl (Nat.le_of_ble_eq_true rfl) (Nat.le_of_ble_eq_true rfl) (by omega) (by omega) ?_
                refine e_offerAt (b := 0) hS0.n0 (by omega) ?_
                refine wp_ireturn dX11_offer_103 rfl ?_
                have kk := k _ hS
                unfold aOffer at kk
                rw [if_neg (fun z => z h5), if_neg (by omega), if_neg (by omega), if_neg (by omega)] at kk
                rw [g4]
                first
                | (rw [if_pos (by omega)] at kk; exact kk)
                | (rw [if_neg (by omega)] at kk
                   by_cases q : i < ((ofr E F N p nd sl).length : Int)
                   · rw [if_pos q] at kk; rw [if_pos (by omega), g3 i (by omega) (by omega)]; exact kk
                   · rw [if_neg q] at kk; rw [if_neg (by omega)]; exact kk)
              · refine wp_iload dX11_offer_89 rfl ?_
                refine wp_goto (tgt := 103) dX11_offer_91 rfl ?_
                refine wp_ireturn dX11_offer_103 rfl ?_
                have kk := k _ hS
                unfold aOffer at kk
                rw [if_neg (fun z => z h5), if_neg (by omega), if_neg (by omega), if_neg (by omega)] at kk
                rw [g4]
                first
                | (rw [if_pos (by omega)] at kk; exact kk)
                | (rw [if_neg (by omega)] at kk
                   by_cases q : i < ((ofr E F N p nd sl).length : Int)
                   · rw [if_pos q] at kk; rw [if_pos (by omega), g3 i (by omega) (by omega)]; exact kk
                   · rw [if_neg q] at kk; rw [if_neg (by omega)]; exact kk)
            · refine wp_iconst dX11_offer_60 ?_
              refine wp_ireturn dX11_offer_61 rfl ?_
              have kk := k _ hS
              unfold aOffer at kk
              (repeat' split at kk) <;> first | exact kk | (exfalso; omega)
        · refine wp_iconst dX11_offer_32 ?_
          refine wp_ireturn dX11_offer_33 rfl ?_
          have kk := k _ hS
          unfold aOffer at kk
          (repeat' split at kk) <;> first | exact kk | (exfalso; omega)
  · refine wp_if_eq (tgt := 32) dX11_offer_8 rfl (fun _ => ?_) (fun q => absurd q (by decide))
    refine wp_iconst dX11_offer_32 ?_
    refine wp_ireturn dX11_offer_33 rfl ?_
    have kk := k _ hS
    unfold aOffer at kk
    (repeat' split at kk) <;> first | exact kk | (exfalso; omega)
end C31
