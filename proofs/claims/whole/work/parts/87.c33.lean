section C33
variable {d m : Nat} {sh : aSh} {iv lw E : aF} {rv : aP} {F N : Int → Int} {R : aPost} {c : Int}
theorem y_isDealing {kd n : Int} (kt : asd kd n → R (some (aI 1)) sh iv lw rv) (kf : ¬ asd kd n → R (some (aI 0)) sh iv lw rv) : wp d mX11_isDealing 0 [some (aI kd), some (aI n)] [] sh iv lw rv 0 0 R := by
  refine wp_iload_n dX11_isDealing_0 rfl ?_
  rcases (by omega : kd = 0 ∨ kd = 1 ∨ kd = 2 ∨ kd = 3 ∨ (kd < 0 ∨ 3 < kd)) with h1 | h1 | h1 | h1 | h1
  · refine wp_tswIn (tgt := 32) dX11_isDealing_1 (by omega) (by omega) (by rw [h1]; rfl) rfl ?_
    refine wp_iload_n dX11_isDealing_32 rfl ?_
    refine wp_iconst dX11_isDealing_33 ?_
    refine wp_icmp_lt (tgt := 46) dX11_isDealing_34 rfl (fun h34 => ?_) (fun h34 => ?_)
    · refine wp_iconst dX11_isDealing_46 ?_
      refine wp_zreturn dX11_isDealing_47 rfl (Or.inl rfl) ?_
      exact kf (by unfold asd; omega)
    · refine wp_iload_n dX11_isDealing_37 rfl ?_
      refine wp_iconst dX11_isDealing_38 ?_
      refine wp_icmp_gt (tgt := 46) dX11_isDealing_39 rfl (fun h39 => ?_) (fun h39 => ?_)
      · refine wp_iconst dX11_isDealing_46 ?_
        refine wp_zreturn dX11_isDealing_47 rfl (Or.inl rfl) ?_
        exact kf (by unfold asd; omega)
      · refine wp_iconst dX11_isDealing_42 ?_
        refine wp_goto (tgt := 47) dX11_isDealing_43 rfl ?_
        refine wp_zreturn dX11_isDealing_47 rfl (Or.inr rfl) ?_
        exact kt (by unfold asd; omega)
  · refine wp_tswIn (tgt := 32) dX11_isDealing_1 (by omega) (by omega) (by rw [h1]; rfl) rfl ?_
    refine wp_iload_n dX11_isDealing_32 rfl ?_
    refine wp_iconst dX11_isDealing_33 ?_
    refine wp_icmp_lt (tgt := 46) dX11_isDealing_34 rfl (fun h34 => ?_) (fun h34 => ?_)
    · refine wp_iconst dX11_isDealing_46 ?_
      refine wp_zreturn dX11_isDealing_47 rfl (Or.inl rfl) ?_
      exact kf (by unfold asd; omega)
    · refine wp_iload_n dX11_isDealing_37 rfl ?_
      refine wp_iconst dX11_isDealing_38 ?_
      refine wp_icmp_gt (tgt := 46) dX11_isDealing_39 rfl (fun h39 => ?_) (fun h39 => ?_)
      · refine wp_iconst dX11_isDealing_46 ?_
        refine wp_zreturn dX11_isDealing_47 rfl (Or.inl rfl) ?_
        exact kf (by unfold asd; omega)
      · refine wp_iconst dX11_isDealing_42 ?_
        refine wp_goto (tgt := 47) dX11_isDealing_43 rfl ?_
        refine wp_zreturn dX11_isDealing_47 rfl (Or.inr rfl) ?_
        exact kt (by unfold asd; omega)
  · refine wp_tswIn (tgt := 48) dX11_isDealing_1 (by omega) (by omega) (by rw [h1]; rfl) rfl ?_
    refine wp_iload_n dX11_isDealing_48 rfl ?_
    refine wp_if_lt (tgt := 62) dX11_isDealing_49 rfl (fun h49 => ?_) (fun h49 => ?_)
    · refine wp_iconst dX11_isDealing_62 ?_
      refine wp_zreturn dX11_isDealing_63 rfl (Or.inl rfl) ?_
      exact kf (by unfold asd; omega)
    · refine wp_iload_n dX11_isDealing_52 rfl ?_
      refine wp_bipush dX11_isDealing_53 ?_
      refine wp_icmp_ge (tgt := 62) dX11_isDealing_55 rfl (fun h55 => ?_) (fun h55 => ?_)
      · refine wp_iconst dX11_isDealing_62 ?_
        refine wp_zreturn dX11_isDealing_63 rfl (Or.inl rfl) ?_
        exact kf (by unfold asd; omega)
      · refine wp_iconst dX11_isDealing_58 ?_
        refine wp_goto (tgt := 63) dX11_isDealing_59 rfl ?_
        refine wp_zreturn dX11_isDealing_63 rfl (Or.inr rfl) ?_
        exact kt (by unfold asd; omega)
  · refine wp_tswIn (tgt := 64) dX11_isDealing_1 (by omega) (by omega) (by rw [h1]; rfl) rfl ?_
    refine wp_iload_n dX11_isDealing_64 rfl ?_
    refine wp_if_ne (tgt := 72) dX11_isDealing_65 rfl (fun h65 => ?_) (fun h65 => ?_)
    · refine wp_iconst dX11_isDealing_72 ?_
      refine wp_zreturn dX11_isDealing_73 rfl (Or.inl rfl) ?_
      exact kf (by unfold asd; omega)
    · refine wp_iconst dX11_isDealing_68 ?_
      refine wp_goto (tgt := 73) dX11_isDealing_69 rfl ?_
      refine wp_zreturn dX11_isDealing_73 rfl (Or.inr rfl) ?_
      exact kt (by unfold asd; omega)
  · refine wp_tswOut (tgt := 74) dX11_isDealing_1 (by omega) rfl ?_
    refine wp_iconst dX11_isDealing_74 ?_
    refine wp_zreturn dX11_isDealing_75 rfl (Or.inl rfl) ?_
    exact kf (by unfold asd; omega)
theorem y_deal {p kd n : Int} {bq : Nat} (hb0 : bq = if dlR E F N p kd n = -1 then n1 m (iv 45 4) else 0) (hc : c + 1 ≤ 600) (hS : Sim c m sh iv rv E F N) (k0 : ¬ dlR E F N p kd n = -1 → ∀ iv' : aF, Sim (c + 1) m sh iv' rv (rfF E (dlR E F N p kd n)) F N → R (some (aI (-1))) sh iv' lw rv) (k1 : dlR E F N p kd n = -1 → ∀ (sh' : aSh) (iv' lw' : aF) (rv' : aP), Sim (c + 1) (m + bq) sh' iv' rv' (kpE E F N) (kpG F) (begF E F N p kd n) → R (some (aI (begF E F N p kd n (61 * p + 48)))) sh' iv' lw' rv') : wp (d + 4) mX11_deal 0 [some (aR 0), some (aI p), some (aI kd), some (aI n), none] [] sh iv lw rv bq (429 * bq) R := by
  have hf13 := hS.f13
  refine wp_aload_n dX11_deal_0 rfl ?_
  refine wp_getR hS.hm.2.2.1 dX11_deal_1 fX11_19 hS.hm.1 ?_
  refine wp_iload_n dX11_deal_4 rfl ?_
  refine wp_callV (as := [_]) (ls0 := [_, _]) (kc := 0) (ks := 0) (bc' := bq) (bs' := (429 * bq)) dX11_deal_5 vX11_133 hS.pls.1 rfl rfl (Nat.le_of_ble_eq_true rfl) (Nat.le_of_ble_eq_true rfl) (by omega) (by omega) ?_
  refine n_hasPair hS.plan (fun h5 => ?_) (fun h5 => ?_)
  · have hp : 0 ≤ p ∧ p < 6 := ⟨h5.1, by have := hS.f13; omega⟩
    have h13 : 0 < F 13 := by omega
    have h18 := (hS.bok h13).v18 hp
    refine wp_if_ne (tgt := 17) dX11_deal_8 rfl (fun _ => ?_) (fun q => absurd q (by decide))
    refine wp_iload_n dX11_deal_17 rfl ?_
    refine wp_iload_n dX11_deal_18 rfl ?_
    refine wp_callS (as := [_, _]) (ls0 := [_, _]) (kc := 0) (ks := 0) (bc' := bq) (bs' := (429 * bq)) dX11_deal_19 vX11_199 rfl rfl (Nat.le_of_ble_eq_true rfl) (Nat.le_of_ble_eq_true rfl) (by omega) (by omega) ?_
    refine y_isDealing (fun h19 => ?_) (fun h19 => ?_)
    · refine wp_if_ne (tgt := 31) dX11_deal_22 rfl (fun _ => ?_) (fun q => absurd q (by decide))
      refine wp_aload_n dX11_deal_31 rfl ?_
      refine wp_getR hS.hm.2.2.2.2.1 dX11_deal_32 fX11_37 hS.hm.1 ?_
      refine wp_getR hS.n0.r11l dX11_deal_35 fX11_143 hS.n0.s11 ?_
      refine wp_iload_n dX11_deal_38 rfl ?_
      refine wp_aaldL dX11_deal_39 hS.n0.s13 (by omega) (by omega) (hS.n0.r13 hp) ?_
      refine wp_astore (ls' := [_, _, _, _, _]) dX11_deal_40 (by decide) rfl rfl ?_
      refine wp_iload_n dX11_deal_42 rfl ?_
      refine wp_iconst dX11_deal_43 ?_
      refine wp_icmp_ne (tgt := 66) dX11_deal_44 rfl (fun h44 => ?_) (fun h44 => ?_)
      · have hn18 : n < N (61 * p + 18) ∨ ¬ kd = 2 := by first | exact Or.inr (by omega) | exact Or.inl (Classical.byContradiction (fun z => h57 (by rw [if_neg (by omega)])))
        refine wp_aload_n dX11_deal_66 rfl ?_
        refine wp_getR hS.hm.2.2.2.2.2.1 dX11_deal_67 fX11_46 hS.hm.1 ?_
        refine wp_aload dX11_deal_70 rfl ?_
        refine wp_iload_n dX11_deal_72 rfl ?_
        refine wp_callV (as := [_, _]) (ls0 := [_, _, _, _]) (kc := 0) (ks := 0) (bc' := bq) (bs' := (429 * bq)) dX11_deal_73 vX11_203 hS.n0.s38 rfl rfl (Nat.le_of_ble_eq_true rfl) (Nat.le_of_ble_eq_true rfl) (by omega) (by omega) ?_
        refine fl0 ?_
        refine e_canBegin (n := n) (b := 0) hS.n0 hS.plan (hS.prm h13) hp h5.2 hS.rel (hS.bok h13) (by unfold asd at h19; omega) (by unfold asd at h19; omega) (by unfold asd at h19; omega) (fun hmy => ?_) (fun hmy => ?_) <;> rw [CS0id]
        · refine wp_if_ne (tgt := 85) dX11_deal_76 rfl (fun _ => ?_) (fun q => absurd q (by decide))
          have er : dlR E F N p kd n = -1 := by unfold dlR; rw [if_neg (fun z => z h5), if_neg (fun z => z h19), if_neg (by omega), if_neg hmy]
          rw [if_pos er] at hb0
          have hb := hb0
          have hn18 : kd = 2 → n < N (61 * p + 18) := fun z => by omega
          refine wp_aload_n dX11_deal_85 rfl ?_
          refine wp_getR hS.hm.2.2.2.2.2.2.2.1 dX11_deal_86 fX11_62 hS.hm.1 ?_
          refine wp_aload_n dX11_deal_89 rfl ?_
          refine wp_getR hS.hm.2.2.2.2.1 dX11_deal_90 fX11_37 hS.hm.1 ?_
          refine wp_getR hS.n0.r11w dX11_deal_93 fX11_189 hS.n0.s11 ?_
          refine wp_callV (as := [_]) (ls0 := [_, _]) (kc := bq) (ks := (429 * bq)) (bc' := 0) (bs' := 0) dX11_deal_96 vX11_192 hS.ps.1 rfl rfl (Nat.le_of_ble_eq_true rfl) (Nat.le_of_ble_eq_true rfl) (by omega) (by omega) ?_
          refine y_keep hb hS h13 (fun sh iv lw rv hS hKS hlw ha => ?_)
          replace h13 : 0 < kpG F 13 := by unfold kpG; rw [up_n (by omega)]; exact h13
          refine wp_aload_n dX11_deal_99 rfl ?_
          refine wp_getR hS.hm.2.2.2.2.2.1 dX11_deal_100 fX11_46 hS.hm.1 ?_
          refine wp_aload dX11_deal_103 rfl ?_
          refine wp_iload_n dX11_deal_105 rfl ?_
          refine wp_iload_n dX11_deal_106 rfl ?_
          refine wp_callV (as := [_, _, _]) (ls0 := [_, _, _, _, _, _, _]) (kc := 0) (ks := 0) (bc' := 0) (bs' := 0) dX11_deal_107 vX11_207 hS.n0.s38 rfl rfl (Nat.le_of_ble_eq_true rfl) (Nat.le_of_ble_eq_true rfl) (by omega) (by omega) ?_
          have hpK : p < kpG F 13 := by unfold kpG; rw [up_n (by omega)]; exact h5.2
          have hid : N (61 * p + 28) = 0 ∧ N (61 * p + 43) = 0 := Classical.byContradiction (fun z => hmy (mny_n z))
          have h33 : N (61 * p + 33) = 0 := ((hS.inv h13).2.1 p h5.1 hpK).2.2.2 hid.1
          have hdk : 0 ≤ kd ∧ kd ≤ 3 ∧ (0 ≤ n ∧ n < 6) ∧ (kd ≤ 1 → n ≤ 3) ∧ (kd = 1 → 1 ≤ n) := by unfold asd at h19; omega
          have hIb : Inv (kpE E F N) (kpG F) (begF E F N p kd n) := by
            have := (hS.inv h13).beg (hS.prm h13) (p := p) (kd := kd) (n := n) ⟨h5.1, hpK⟩ (by have := hS.n8; omega) hdk.2.2.1 ⟨hdk.1, hdk.2.1⟩ hdk.2.2.2.1
            rw [begF_q kp_q] at this; exact this
          have hNb : ∀ j : Int, 368 ≤ j → begF E F N p kd n j = N j := fun j hj => by
            have := Loc.lbegF (iv := kpE E F N) (F := kpG F) (kd := kd) (n := n) (hS.bok h13) hp (hS.prm h13) hdk.2.2.1 ⟨hdk.1, hdk.2.1⟩ hdk.2.2.2.1
            rw [begF_q kp_q] at this
            exact this j (by omega)
          rcases (by omega : kd = 0 ∨ kd = 1 ∨ kd = 2 ∨ kd = 3) with rfl | rfl | rfl | rfl
          · refine fl0 ?_
            refine e_begin0 (b := 0) hS.n0 hS.plan (hS.prm h13) hp hpK hS.rel (hS.bok h13) (by have := hS.n8; omega) (by omega) h33 (by omega) (by rw [mny_q kp_q]; exact hmy) (fun D1 O1 w1 g1 hw1 => ?_)
            rw [begF_q kp_q] at hw1 ⊢
            replace hS := Sim.w0 (D := D1) (O := O1) (T := iv 40) (S := iv 43) (C := iv 44) hS hS.z0 hw1 (fun _ => hIb) hNb
            refine wp_ireturn dX11_deal_110 rfl ?_
            have hS2 := hS.mono (c' := c + 1) (by omega) hc
            exact k1 er _ _ _ _ hS2
          · refine fl0 ?_
            refine e_begin1 (b := 0) hS.n0 hS.plan (hS.prm h13) hp hpK hS.rel (hS.bok h13) (by have := hS.n8; omega) (by omega) h33 (by omega) (by rw [mny_q kp_q]; exact hmy) (fun D1 O1 w1 g1 hw1 => ?_)
            rw [begF_q kp_q] at hw1 ⊢
            replace hS := Sim.w0 (D := D1) (O := O1) (T := iv 40) (S := iv 43) (C := iv 44) hS hS.z0 hw1 (fun _ => hIb) hNb
            refine wp_ireturn dX11_deal_110 rfl ?_
            have hS2 := hS.mono (c' := c + 1) (by omega) hc
            exact k1 er _ _ _ _ hS2
          · refine fl0 ?_
            refine e_begin2 (b := 0) hS.n0 hS.plan (hS.prm h13) hp hpK hS.rel (hS.bok h13) (by have := hS.n8; omega) (by omega) h33 (hn18 rfl) (by rw [mny_q kp_q]; exact hmy) (fun D1 O1 w1 g1 hw1 => ?_)
            rw [begF_q kp_q] at hw1 ⊢
            replace hS := Sim.w0 (D := D1) (O := O1) (T := iv 40) (S := iv 43) (C := iv 44) hS hS.z0 hw1 (fun _ => hIb) hNb
            refine wp_ireturn dX11_deal_110 rfl ?_
            have hS2 := hS.mono (c' := c + 1) (by omega) hc
            exact k1 er _ _ _ _ hS2
          · refine fl0 ?_
            refine e_begin3 (b := 0) hS.n0 hS.plan (hS.prm h13) hp hpK hS.rel (hS.bok h13) (by have := hS.n8; omega) (by omega) h33 (by rw [mny_q kp_q]; exact hmy) (fun D1 O1 w1 g1 hw1 => ?_)
            rw [begF_q kp_q] at hw1 ⊢
            replace hS := Sim.w0 (D := D1) (O := O1) (T := iv 40) (S := iv 43) (C := iv 44) hS hS.z0 hw1 (fun _ => hIb) hNb
            refine wp_ireturn dX11_deal_110 rfl ?_
            have hS2 := hS.mono (c' := c + 1) (by omega) hc
            exact k1 er _ _ _ _ hS2
        · refine wp_if_ne (tgt := 85) dX11_deal_76 rfl (fun q => absurd q (by decide)) (fun _ => ?_)
          refine wp_aload_n dX11_deal_79 rfl ?_
          refine wp_iconst dX11_deal_80 ?_
          refine wp_callV (as := [_]) (ls0 := [_, _]) (kc := 0) (ks := 0) (bc' := bq) (bs' := (429 * bq)) dX11_deal_81 vX11_183 hS.hm.1 rfl rfl (Nat.le_of_ble_eq_true rfl) (Nat.le_of_ble_eq_true rfl) (by omega) (by omega) ?_
          refine y_refuse (y := 3) hS (by omega) hc (fun iv hS => ?_)
          refine wp_ireturn dX11_deal_84 rfl ?_
          have er : dlR E F N p kd n = 3 := by unfold dlR; rw [if_neg (fun z => z h5), if_neg (fun z => z h19), if_neg (by omega), if_pos hmy]
          rw [er] at k0
          exact k0 (by decide) _ hS
      · refine wp_aload dX11_deal_47 rfl ?_
        refine wp_getR (hS.n0.lk0 hp).rS dX11_deal_49 fX11_152 (hS.n0.lk0 hp).1 ?_
        refine wp_iload_n dX11_deal_52 rfl ?_
        refine wp_callV (as := [_]) (ls0 := [_, _]) (kc := 0) (ks := 0) (bc' := bq) (bs' := (429 * bq)) dX11_deal_53 vX11_164 (hS.n0.lk0 hp).sS.1 rfl rfl (Nat.le_of_ble_eq_true rfl) (Nat.le_of_ble_eq_true rfl) (by omega) (by omega) ?_
        refine fl12 ?_
        refine c_numberAt (hS.n0.lk0 hp).sS hS.rel (hS.bok h13) ?_
        rw [id12, show N (61 * p + mq 0) = N (61 * p + 18) from rfl]
        refine wp_iconst dX11_deal_56 ?_
        have hcv := (hS.bok h13).cel hp (Or.inl rfl : (0 : Int) = 0 ∨ (0 : Int) = 1) (i := n)
        refine wp_icmp_ne (tgt := 66) dX11_deal_57 rfl (fun h57 => ?_) (fun h57 => ?_)
        · have hn18 : n < N (61 * p + 18) ∨ ¬ kd = 2 := by first | exact Or.inr (by omega) | exact Or.inl (Classical.byContradiction (fun z => h57 (by rw [if_neg (by omega)])))
          refine wp_aload_n dX11_deal_66 rfl ?_
          refine wp_getR hS.hm.2.2.2.2.2.1 dX11_deal_67 fX11_46 hS.hm.1 ?_
          refine wp_aload dX11_deal_70 rfl ?_
          refine wp_iload_n dX11_deal_72 rfl ?_
          refine wp_callV (as := [_, _]) (ls0 := [_, _, _, _]) (kc := 0) (ks := 0) (bc' := bq) (bs' := (429 * bq)) dX11_deal_73 vX11_203 hS.n0.s38 rfl rfl (Nat.le_of_ble_eq_true rfl) (Nat.le_of_ble_eq_true rfl) (by omega) (by omega) ?_
          refine fl0 ?_
          refine e_canBegin (n := n) (b := 0) hS.n0 hS.plan (hS.prm h13) hp h5.2 hS.rel (hS.bok h13) (by unfold asd at h19; omega) (by unfold asd at h19; omega) (by unfold asd at h19; omega) (fun hmy => ?_) (fun hmy => ?_) <;> rw [CS0id]
          · refine wp_if_ne (tgt := 85) dX11_deal_76 rfl (fun _ => ?_) (fun q => absurd q (by decide))
            have er : dlR E F N p kd n = -1 := by unfold dlR; rw [if_neg (fun z => z h5), if_neg (fun z => z h19), if_neg (by omega), if_neg hmy]
            rw [if_pos er] at hb0
            have hb := hb0
            have hn18 : kd = 2 → n < N (61 * p + 18) := fun z => by omega
            refine wp_aload_n dX11_deal_85 rfl ?_
            refine wp_getR hS.hm.2.2.2.2.2.2.2.1 dX11_deal_86 fX11_62 hS.hm.1 ?_
            refine wp_aload_n dX11_deal_89 rfl ?_
            refine wp_getR hS.hm.2.2.2.2.1 dX11_deal_90 fX11_37 hS.hm.1 ?_
            refine wp_getR hS.n0.r11w dX11_deal_93 fX11_189 hS.n0.s11 ?_
            refine wp_callV (as := [_]) (ls0 := [_, _]) (kc := bq) (ks := (429 * bq)) (bc' := 0) (bs' := 0) dX11_deal_96 vX11_192 hS.ps.1 rfl rfl (Nat.le_of_ble_eq_true rfl) (Nat.le_of_ble_eq_true rfl) (by omega) (by omega) ?_
            refine y_keep hb hS h13 (fun sh iv lw rv hS hKS hlw ha => ?_)
            replace h13 : 0 < kpG F 13 := by unfold kpG; rw [up_n (by omega)]; exact h13
            refine wp_aload_n dX11_deal_99 rfl ?_
            refine wp_getR hS.hm.2.2.2.2.2.1 dX11_deal_100 fX11_46 hS.hm.1 ?_
            refine wp_aload dX11_deal_103 rfl ?_
            refine wp_iload_n dX11_deal_105 rfl ?_
            refine wp_iload_n dX11_deal_106 rfl ?_
            refine wp_callV (as := [_, _, _]) (ls0 := [_, _, _, _, _, _, _]) (kc := 0) (ks := 0) (bc' := 0) (bs' := 0) dX11_deal_107 vX11_207 hS.n0.s38 rfl rfl (Nat.le_of_ble_eq_true rfl) (Nat.le_of_ble_eq_true rfl) (by omega) (by omega) ?_
            have hpK : p < kpG F 13 := by unfold kpG; rw [up_n (by omega)]; exact h5.2
            have hid : N (61 * p + 28) = 0 ∧ N (61 * p + 43) = 0 := Classical.byContradiction (fun z => hmy (mny_n z))
            have h33 : N (61 * p + 33) = 0 := ((hS.inv h13).2.1 p h5.1 hpK).2.2.2 hid.1
            have hdk : 0 ≤ kd ∧ kd ≤ 3 ∧ (0 ≤ n ∧ n < 6) ∧ (kd ≤ 1 → n ≤ 3) ∧ (kd = 1 → 1 ≤ n) := by unfold asd at h19; omega
            have hIb : Inv (kpE E F N) (kpG F) (begF E F N p kd n) := by
              have := (hS.inv h13).beg (hS.prm h13) (p := p) (kd := kd) (n := n) ⟨h5.1, hpK⟩ (by have := hS.n8; omega) hdk.2.2.1 ⟨hdk.1, hdk.2.1⟩ hdk.2.2.2.1
              rw [begF_q kp_q] at this; exact this
            have hNb : ∀ j : Int, 368 ≤ j → begF E F N p kd n j = N j := fun j hj => by
              have := Loc.lbegF (iv := kpE E F N) (F := kpG F) (kd := kd) (n := n) (hS.bok h13) hp (hS.prm h13) hdk.2.2.1 ⟨hdk.1, hdk.2.1⟩ hdk.2.2.2.1
              rw [begF_q kp_q] at this
              exact this j (by omega)
            rcases (by omega : kd = 0 ∨ kd = 1 ∨ kd = 2 ∨ kd = 3) with rfl | rfl | rfl | rfl
            · refine fl0 ?_
              refine e_begin0 (b := 0) hS.n0 hS.plan (hS.prm h13) hp hpK hS.rel (hS.bok h13) (by have := hS.n8; omega) (by omega) h33 (by omega) (by rw [mny_q kp_q]; exact hmy) (fun D1 O1 w1 g1 hw1 => ?_)
              rw [begF_q kp_q] at hw1 ⊢
              replace hS := Sim.w0 (D := D1) (O := O1) (T := iv 40) (S := iv 43) (C := iv 44) hS hS.z0 hw1 (fun _ => hIb) hNb
              refine wp_ireturn dX11_deal_110 rfl ?_
              have hS2 := hS.mono (c' := c + 1) (by omega) hc
              exact k1 er _ _ _ _ hS2
            · refine fl0 ?_
              refine e_begin1 (b := 0) hS.n0 hS.plan (hS.prm h13) hp hpK hS.rel (hS.bok h13) (by have := hS.n8; omega) (by omega) h33 (by omega) (by rw [mny_q kp_q]; exact hmy) (fun D1 O1 w1 g1 hw1 => ?_)
              rw [begF_q kp_q] at hw1 ⊢
              replace hS := Sim.w0 (D := D1) (O := O1) (T := iv 40) (S := iv 43) (C := iv 44) hS hS.z0 hw1 (fun _ => hIb) hNb
              refine wp_ireturn dX11_deal_110 rfl ?_
              have hS2 := hS.mono (c' := c + 1) (by omega) hc
              exact k1 er _ _ _ _ hS2
            · refine fl0 ?_
              refine e_begin2 (b := 0) hS.n0 hS.plan (hS.prm h13) hp hpK hS.rel (hS.bok h13) (by have := hS.n8; omega) (by omega) h33 (hn18 rfl) (by rw [mny_q kp_q]; exact hmy) (fun D1 O1 w1 g1 hw1 => ?_)
              rw [begF_q kp_q] at hw1 ⊢
              replace hS := Sim.w0 (D := D1) (O := O1) (T := iv 40) (S := iv 43) (C := iv 44) hS hS.z0 hw1 (fun _ => hIb) hNb
              refine wp_ireturn dX11_deal_110 rfl ?_
              have hS2 := hS.mono (c' := c + 1) (by omega) hc
              exact k1 er _ _ _ _ hS2
            · refine fl0 ?_
              refine e_begin3 (b := 0) hS.n0 hS.plan (hS.prm h13) hp hpK hS.rel (hS.bok h13) (by have := hS.n8; omega) (by omega) h33 (by rw [mny_q kp_q]; exact hmy) (fun D1 O1 w1 g1 hw1 => ?_)
              rw [begF_q kp_q] at hw1 ⊢
              replace hS := Sim.w0 (D := D1) (O := O1) (T := iv 40) (S := iv 43) (C := iv 44) hS hS.z0 hw1 (fun _ => hIb) hNb
              refine wp_ireturn dX11_deal_110 rfl ?_
              have hS2 := hS.mono (c' := c + 1) (by omega) hc
              exact k1 er _ _ _ _ hS2
          · refine wp_if_ne (tgt := 85) dX11_deal_76 rfl (fun q => absurd q (by decide)) (fun _ => ?_)
            refine wp_aload_n dX11_deal_79 rfl ?_
            refine wp_iconst dX11_deal_80 ?_
            refine wp_callV (as := [_]) (ls0 := [_, _]) (kc := 0) (ks := 0) (bc' := bq) (bs' := (429 * bq)) dX11_deal_81 vX11_183 hS.hm.1 rfl rfl (Nat.le_of_ble_eq_true rfl) (Nat.le_of_ble_eq_true rfl) (by omega) (by omega) ?_
            refine y_refuse (y := 3) hS (by omega) hc (fun iv hS => ?_)
            refine wp_ireturn dX11_deal_84 rfl ?_
            have er : dlR E F N p kd n = 3 := by unfold dlR; rw [if_neg (fun z => z h5), if_neg (fun z => z h19), if_neg (by omega), if_pos hmy]
            rw [er] at k0
            exact k0 (by decide) _ hS
        · refine wp_aload_n dX11_deal_60 rfl ?_
          refine wp_iconst dX11_deal_61 ?_
          refine wp_callV (as := [_]) (ls0 := [_, _]) (kc := 0) (ks := 0) (bc' := bq) (bs' := (429 * bq)) dX11_deal_62 vX11_183 hS.hm.1 rfl rfl (Nat.le_of_ble_eq_true rfl) (Nat.le_of_ble_eq_true rfl) (by omega) (by omega) ?_
          refine y_refuse (y := 2) hS (by omega) hc (fun iv hS => ?_)
          refine wp_ireturn dX11_deal_65 rfl ?_
          have er : dlR E F N p kd n = 2 := by unfold dlR; rw [if_neg (fun z => z h5), if_neg (fun z => z h19), if_pos (show kd = 2 ∧ N (61 * p + 18) ≤ n from ⟨by omega, Classical.byContradiction (fun z => by rw [if_pos ⟨by unfold asd at h19; omega, by omega⟩] at h57; have := hcv ⟨by unfold asd at h19; omega, by omega⟩; unfold Vc at this; omega)⟩)]
          rw [er] at k0
          exact k0 (by decide) _ hS
    · refine wp_if_ne (tgt := 31) dX11_deal_22 rfl (fun q => absurd q (by decide)) (fun _ => ?_)
      refine wp_aload_n dX11_deal_25 rfl ?_
      refine wp_iconst dX11_deal_26 ?_
      refine wp_callV (as := [_]) (ls0 := [_, _]) (kc := 0) (ks := 0) (bc' := bq) (bs' := (429 * bq)) dX11_deal_27 vX11_183 hS.hm.1 rfl rfl (Nat.le_of_ble_eq_true rfl) (Nat.le_of_ble_eq_true rfl) (by omega) (by omega) ?_
      refine y_refuse (y := 1) hS (by omega) hc (fun iv hS => ?_)
      refine wp_ireturn dX11_deal_30 rfl ?_
      have er : dlR E F N p kd n = 1 := by unfold dlR; rw [if_neg (fun z => z h5), if_pos h19]
      rw [er] at k0
      exact k0 (by decide) _ hS
  · refine wp_if_ne (tgt := 17) dX11_deal_8 rfl (fun q => absurd q (by decide)) (fun _ => ?_)
    refine wp_aload_n dX11_deal_11 rfl ?_
    refine wp_iconst dX11_deal_12 ?_
    refine wp_callV (as := [_]) (ls0 := [_, _]) (kc := 0) (ks := 0) (bc' := bq) (bs' := (429 * bq)) dX11_deal_13 vX11_183 hS.hm.1 rfl rfl (Nat.le_of_ble_eq_true rfl) (Nat.le_of_ble_eq_true rfl) (by omega) (by omega) ?_
    refine y_refuse (y := 0) hS (by omega) hc (fun iv hS => ?_)
    refine wp_ireturn dX11_deal_16 rfl ?_
    have er : dlR E F N p kd n = 0 := by unfold dlR; rw [if_pos h5]
    rw [er] at k0
    exact k0 (by decide) _ hS
theorem y_undo (hS : Sim c m sh iv rv E F N) (k0 : F 25 = 0 → R (some (aI (-1))) sh iv lw rv) (k1 : 1 ≤ F 25 → ∀ iv' : aF, Sim c m sh iv' rv E (up F 25 (F 25 - 1)) (cpR N (E 14) (550 * (F 25 - 1)) 550) → R (some (aI (F 25 - 1))) sh iv' lw rv) : wp (d + 2) mX11_undo 0 [some (aR 0)] [] sh iv lw rv 0 0 R := by
  have f25 := hS.f25
  have g1 := hS.psr.1
  have g2 := hS.psr.2.1
  by_cases h0 : F 25 = 0
  · have kk := k0 h0
    refine wp_aload_n dX11_undo_0 rfl ?_
    refine wp_getR hS.hm.2.2.2.2.2.2.2.1 dX11_undo_1 fX11_62 hS.hm.1 ?_
    refine wp_aload_n dX11_undo_4 rfl ?_
    refine wp_getR hS.hm.2.2.2.2.1 dX11_undo_5 fX11_37 hS.hm.1 ?_
    refine wp_getR hS.n0.r11w dX11_undo_8 fX11_189 hS.n0.s11 ?_
    refine wp_callV (as := [_]) (ls0 := [_, _, _]) (kc := 0) (ks := 0) (bc' := 0) (bs' := 0) dX11_undo_11 vX11_239 hS.ps.1 rfl rfl (Nat.le_of_ble_eq_true rfl) (Nat.le_of_ble_eq_true rfl) (by omega) (by omega) ?_
    refine flP ?_
    refine q_backN hS.ps ⟨g2.1, g2.2.1⟩ (by omega) ?_
    rw [PW_id]
    refine wp_if_eq (tgt := 27) dX11_undo_14 rfl (fun _ => ?_) (fun q => absurd q (by decide))
    refine wp_iconst dX11_undo_27 ?_
    refine wp_ireturn dX11_undo_28 rfl ?_
    exact kk
  · have o0 := hS.psr.2.2.2.1 0 (by omega) (by omega)
    have hpr := plA_r (a := iv 45 4) (j := 0)
    have hm := hS.made.2.2.1 (plA (iv 45 4) 0).toNat o0.1.1
    rw [show (((plA (iv 45 4) 0).toNat : Nat) : Int) = plA (iv 45 4) 0 by omega] at hm
    have hS1 := hS.undo (iv' := PW iv (up (up (up (iv 45) 1 (iv 48 ((iv 45 4 + 40 - 1) % 40))) 4 ((iv 45 4 + 40 - 1) % 40)) 5 (iv 45 5 - 1)) (iv 46) (iv 48) (cpyI (iv (88 + (plA (iv 45 4) 0).toNat)) (iv 12) 0 0 429) (iv 49) (iv 50)) (by omega) (fun i h1 h2 => by
      by_cases e1 : i = 46
      · rw [e1, PW46]
      · by_cases e2 : i = 48
        · rw [e2, PW48]
        · by_cases e3 : i = 49
          · rw [e3, PW49]
          · by_cases e4 : i = 50
            · rw [e4, PW50]
            · exact PWn ⟨h2, e1, e2, h1, e3, e4⟩) (fun K hK => by rw [PW12]; exact hK.cy) PW45
    refine wp_aload_n dX11_undo_0 rfl ?_
    refine wp_getR hS.hm.2.2.2.2.2.2.2.1 dX11_undo_1 fX11_62 hS.hm.1 ?_
    refine wp_aload_n dX11_undo_4 rfl ?_
    refine wp_getR hS.hm.2.2.2.2.1 dX11_undo_5 fX11_37 hS.hm.1 ?_
    refine wp_getR hS.n0.r11w dX11_undo_8 fX11_189 hS.n0.s11 ?_
    refine wp_callV (as := [_]) (ls0 := [_, _, _]) (kc := 0) (ks := 0) (bc' := 0) (bs' := 0) dX11_undo_11 vX11_239 hS.ps.1 rfl rfl (Nat.le_of_ble_eq_true rfl) (Nat.le_of_ble_eq_true rfl) (by omega) (by omega) ?_
    refine flP ?_
    refine q_backT hS.ps ⟨g2.1, g2.2.1⟩ (by omega) (by rw [plA_1]; exact hm.2) hm.1 (by omega) ?_
    replace hS := hS1
    refine wp_if_eq (tgt := 27) dX11_undo_14 rfl (fun q => absurd q (by decide)) (fun _ => ?_)
    refine wp_aload_n dX11_undo_17 rfl ?_
    refine wp_getR hS.hm.2.2.2.2.2.2.2.1 dX11_undo_18 fX11_62 hS.hm.1 ?_
    refine wp_callV (as := []) (ls0 := [_]) (kc := 0) (ks := 0) (bc' := 0) (bs' := 0) dX11_undo_21 vX11_243 hS.ps.1 rfl rfl (Nat.le_of_ble_eq_true rfl) (Nat.le_of_ble_eq_true rfl) (by omega) (by omega) ?_
    refine flP ?_
    refine q_acts hS.ps ?_
    rw [PW_id, hS.psr.1, up_s]
    refine wp_goto (tgt := 28) dX11_undo_24 rfl ?_
    refine wp_ireturn dX11_undo_28 rfl ?_
    exact k1 (by omega) _ hS
theorem y_image (hS : Sim c m sh iv rv E F N) (k0 : F 13 = 0 → R (some (aI (-1))) sh iv lw rv) (k1 : ¬ F 13 = 0 → ∀ iv' : aF, Sim c m sh iv' rv (uA E 17 (cpW (E 17) N 0 550)) (up F 30 1) N → R (some (aI (N 368))) sh iv' lw rv) : wp (d + 4) mX11_image 0 [some (aR 0)] [] sh iv lw rv 0 0 R := by
  have hf13 := hS.f13
  have g3 := hS.psr.2.2.1
  have hn8 := hS.n8
  refine wp_aload_n dX11_image_0 rfl ?_
  refine wp_getR hS.hm.2.2.1 dX11_image_1 fX11_19 hS.hm.1 ?_
  refine wp_callV (as := []) (ls0 := [_]) (kc := 0) (ks := 0) (bc' := 0) (bs' := 0) dX11_image_4 vX11_123 hS.pls.1 rfl rfl (Nat.le_of_ble_eq_true rfl) (Nat.le_of_ble_eq_true rfl) (by omega) (by omega) ?_
  refine n_isTold hS.plan (fun h4 => ?_) (fun h4 => ?_)
  · refine wp_if_ne (tgt := 12) dX11_image_7 rfl (fun _ => ?_) (fun q => absurd q (by decide))
    refine wp_aload_n dX11_image_12 rfl ?_
    refine wp_getR hS.hm.2.2.2.2.2.2.2.1 dX11_image_13 fX11_62 hS.hm.1 ?_
    refine wp_aload_n dX11_image_16 rfl ?_
    refine wp_getR hS.hm.2.2.2.2.1 dX11_image_17 fX11_37 hS.hm.1 ?_
    refine wp_getR hS.n0.r11w dX11_image_20 fX11_189 hS.n0.s11 ?_
    refine wp_callV (as := [_]) (ls0 := [_, _, _, _]) (kc := 0) (ks := 0) (bc' := 0) (bs' := 0) dX11_image_23 vX11_301 hS.ps.1 rfl rfl (Nat.le_of_ble_eq_true rfl) (Nat.le_of_ble_eq_true rfl) (by omega) (by omega) ?_
    refine flP ?_
    refine q_keepImage hS.ps ⟨g3.1.1, by have := g3.1.2; omega⟩ (fun J' hJ' => ?_)
    have hS1 := hS.image (iv' := PW iv (up (up (iv 45) 8 (mnI (iv 45 1) 60)) 9 1) (iv 46) (iv 48) (iv 12) (cpyI (iv 12) (iv 49) 0 0 429) J') h4 (fun i h1 h2 h3 => by
      by_cases e1 : i = 46
      · rw [e1, PW46]
      · by_cases e2 : i = 48
        · rw [e2, PW48]
        · by_cases e3 : i = 12
          · rw [e3, PW12]
          · exact PWn ⟨h1, e1, e2, e3, h2, h3⟩) (by rw [PW49]; exact hS.rel.cy) PW45 (fun i z a b d f => by rw [PW50]; exact hJ' i z a b d f)
    replace hS := hS1
    refine wp_aload_n dX11_image_26 rfl ?_
    refine wp_getR hS.hm.2.2.2.2.1 dX11_image_27 fX11_37 hS.hm.1 ?_
    refine wp_callV (as := []) (ls0 := [_]) (kc := 0) (ks := 0) (bc' := 0) (bs' := 0) dX11_image_30 vX11_186 hS.n0.s11 rfl rfl (Nat.le_of_ble_eq_true rfl) (Nat.le_of_ble_eq_true rfl) (by omega) (by omega) ?_
    refine fl0 ?_
    refine x_frame (b := 0) hS.n0 hS.rel ?_
    rw [CS0id]
    refine wp_ireturn dX11_image_33 rfl ?_
    exact k1 (by omega) _ hS
  · refine wp_if_ne (tgt := 12) dX11_image_7 rfl (fun q => absurd q (by decide)) (fun _ => ?_)
    refine wp_iconst dX11_image_10 ?_
    refine wp_ireturn dX11_image_11 rfl ?_
    exact k0 (by omega)
theorem y_back (hS : Sim c m sh iv rv E F N) (k0 : F 30 = 0 → R (some (aI (-1))) sh iv lw rv) (k1 : F 30 = 1 → ∀ iv' : aF, Sim c m sh iv' rv E (up F 25 0) (cpR N (E 17) 0 550) → R (some (aI (cpR N (E 17) 0 550 368))) sh iv' lw rv) : wp (d + 2) mX11_back 0 [some (aR 0)] [] sh iv lw rv 0 0 R := by
  have g6 := hS.psr.2.2.2.2.2.1
  by_cases h0 : F 30 = 0
  · have kk := k0 h0
    refine wp_aload_n dX11_back_0 rfl ?_
    refine wp_getR hS.hm.2.2.2.2.2.2.2.1 dX11_back_1 fX11_62 hS.hm.1 ?_
    refine wp_aload_n dX11_back_4 rfl ?_
    refine wp_getR hS.hm.2.2.2.2.1 dX11_back_5 fX11_37 hS.hm.1 ?_
    refine wp_getR hS.n0.r11w dX11_back_8 fX11_189 hS.n0.s11 ?_
    refine wp_callV (as := [_]) (ls0 := [_, _]) (kc := 0) (ks := 0) (bc' := 0) (bs' := 0) dX11_back_11 vX11_304 hS.ps.1 rfl rfl (Nat.le_of_ble_eq_true rfl) (Nat.le_of_ble_eq_true rfl) (by omega) (by omega) ?_
    refine flP ?_
    refine q_takeN hS.ps (by omega) ?_
    rw [PW_id]
    refine wp_if_eq (tgt := 27) dX11_back_14 rfl (fun _ => ?_) (fun q => absurd q (by decide))
    refine wp_iconst dX11_back_27 ?_
    refine wp_ireturn dX11_back_28 rfl ?_
    exact kk
  · have h30 : F 30 = 1 := by omega
    have im := hS.psr.2.2.2.2.2.2.1 h30
    have i60 := im.2.1.2.1
    have hS1 := hS.back (iv' := PW iv (up (up (iv 45) 1 (iv 45 8)) 5 0) (cpyI (iv 50) (iv 46) 0 0 (iv 45 8 * 3)) (iv 48) (cpyI (iv 49) (iv 12) 0 0 429) (iv 49) (iv 50)) h30 (fun i h1 h2 h3 => by
      by_cases e1 : i = 48
      · rw [e1, PW48]
      · by_cases e2 : i = 49
        · rw [e2, PW49]
        · by_cases e3 : i = 50
          · rw [e3, PW50]
          · exact PWn ⟨h2, h3, e1, h1, e2, e3⟩) (fun K hK => by rw [PW12]; exact hK.cy) PW45 PW46
    refine wp_aload_n dX11_back_0 rfl ?_
    refine wp_getR hS.hm.2.2.2.2.2.2.2.1 dX11_back_1 fX11_62 hS.hm.1 ?_
    refine wp_aload_n dX11_back_4 rfl ?_
    refine wp_getR hS.hm.2.2.2.2.1 dX11_back_5 fX11_37 hS.hm.1 ?_
    refine wp_getR hS.n0.r11w dX11_back_8 fX11_189 hS.n0.s11 ?_
    refine wp_callV (as := [_]) (ls0 := [_, _]) (kc := 0) (ks := 0) (bc' := 0) (bs' := 0) dX11_back_11 vX11_304 hS.ps.1 rfl rfl (Nat.le_of_ble_eq_true rfl) (Nat.le_of_ble_eq_true rfl) (by omega) (by omega) ?_
    refine flP ?_
    refine q_takeT hS.ps (by omega) (by have := im.2.2.1; omega) ?_
    replace hS := hS1
    refine wp_if_eq (tgt := 27) dX11_back_14 rfl (fun q => absurd q (by decide)) (fun _ => ?_)
    refine wp_aload_n dX11_back_17 rfl ?_
    refine wp_getR hS.hm.2.2.2.2.1 dX11_back_18 fX11_37 hS.hm.1 ?_
    refine wp_callV (as := []) (ls0 := [_]) (kc := 0) (ks := 0) (bc' := 0) (bs' := 0) dX11_back_21 vX11_186 hS.n0.s11 rfl rfl (Nat.le_of_ble_eq_true rfl) (Nat.le_of_ble_eq_true rfl) (by omega) (by omega) ?_
    refine fl0 ?_
    refine x_frame (b := 0) hS.n0 hS.rel ?_
    rw [CS0id]
    refine wp_goto (tgt := 28) dX11_back_24 rfl ?_
    refine wp_ireturn dX11_back_28 rfl ?_
    exact k1 h30 _ hS
theorem y_goOne (hS : Sim c m sh iv rv E F N) (hKS : KpS iv F) (h13 : 0 < F 13) (hf : N 368 + 1 ≤ 9999) (k : ∀ iv' : aF, Sim c m sh iv' rv E F (pasF E F N) → iv' 45 4 = iv 45 4 → R none sh iv' lw rv) : wp (d + 12) mX11_goOneFrame 0 [some (aR 0)] [] sh iv lw rv 0 0 R := by
  have hP := hS.prm h13
  have hI := hS.inv h13
  have hL := Inv.liv hP hI (by omega)
  have g3 := hS.psr.2.2.1
  have hf13 := hS.f13
  refine wp_aload_n dX11_goOneFrame_0 rfl ?_
  refine wp_getR hS.hm.2.2.2.2.2.2.1 dX11_goOneFrame_1 fX11_55 hS.hm.1 ?_
  refine wp_callV (as := []) (ls0 := [_, _, _, _, _]) (kc := 0) (ks := 0) (bc' := 0) (bs' := 0) dX11_goOneFrame_4 vX11_310 hS.n0.s41 rfl rfl (Nat.le_of_ble_eq_true rfl) (Nat.le_of_ble_eq_true rfl) (by omega) (by omega) ?_
  refine fl0 ?_
  refine f_passFrame (b := 0) hS.n0 hS.plan hP hS.prm2 hS.rel hI (by omega) hS.z0 (fun w1 D1 O1 T1 S1 K1 C1 hw1 hK1 hC1 => ?_)
  have hN1 : NtA sh rv iv 0 := hS.n0
  have hPl := hN1.pl (D := D1) (O := O1) (T := T1) (S := S1) (K := K1) (C := C1) (w := w1) hS.plan
  have eiv : ∀ i : Nat, ¬ Scr i → ¬ i = 12 → ¬ i = 42 → (uA (CD iv 0 D1 O1 T1 S1 K1 C1) (12 + 42 * 0) w1) i = iv i := fun i a b d => CSn (by unfold Scr at a; omega)
  refine wp_aload_n dX11_goOneFrame_7 rfl ?_
  refine wp_getR hS.hm.2.2.2.2.2.2.2.1 dX11_goOneFrame_8 fX11_62 hS.hm.1 ?_
  refine wp_aload_n dX11_goOneFrame_11 rfl ?_
  refine wp_getR hS.hm.2.2.2.2.1 dX11_goOneFrame_12 fX11_37 hS.hm.1 ?_
  refine wp_callV (as := []) (ls0 := [_, _, _]) (kc := 0) (ks := 0) (bc' := 0) (bs' := 0) dX11_goOneFrame_15 vX11_313 hS.n0.s11 rfl rfl (Nat.le_of_ble_eq_true rfl) (Nat.le_of_ble_eq_true rfl) (by omega) (by omega) ?_
  refine x_letters (b := 0) hN1 hS.plan hP hw1 hL.1.1 ?_
  refine wp_aload_n dX11_goOneFrame_18 rfl ?_
  refine wp_getR hS.hm.2.2.2.2.1 dX11_goOneFrame_19 fX11_37 hS.hm.1 ?_
  refine wp_callV (as := []) (ls0 := [_, _, _]) (kc := 0) (ks := 0) (bc' := 0) (bs' := 0) dX11_goOneFrame_22 vX11_316 hS.n0.s11 rfl rfl (Nat.le_of_ble_eq_true rfl) (Nat.le_of_ble_eq_true rfl) (by omega) (by omega) ?_
  refine x_both (b := 0) hN1 hS.plan hP hw1 hL.1.1 ?_
  refine wp_aload_n dX11_goOneFrame_25 rfl ?_
  refine wp_getR hS.hm.2.2.2.2.2.2.1 dX11_goOneFrame_26 fX11_55 hS.hm.1 ?_
  refine wp_callV (as := []) (ls0 := [_, _, _]) (kc := 0) (ks := 0) (bc' := 0) (bs' := 0) dX11_goOneFrame_29 vX11_319 hS.n0.s41 rfl rfl (Nat.le_of_ble_eq_true rfl) (Nat.le_of_ble_eq_true rfl) (by omega) (by omega) ?_
  refine f_cameAll (b := 0) hN1 hS.plan hP (fun a x y => by rw [hC1 a x y]; exact gtn_r (Bok.bquL (F 13).toNat 0 _ (by omega) (by omega) (Inv.mid hP hI (by omega)).2.1.1) (by omega)) ?_
  have esm : smC C1 (F 13).toNat = gtA E F (preF E F N) (F 13).toNat 0 := by rw [smC_c (F 13).toNat (fun a x y => hC1 a x (by omega))]; have := gtA_sm (E := E) (F := F) (N1 := preF E F N) (F 13).toNat 0; rw [Nat.zero_add] at this; rw [← this]; show (0 : Int) + gtA E F (preF E F N) (F 13).toNat 0 = _; omega
  rw [esm]
  refine wp_callV (as := [_, _, _]) (ls0 := [_, _, _, _, _]) (kc := 0) (ks := 0) (bc' := 0) (bs' := 0) dX11_goOneFrame_32 vX11_322 hS.ps.1 rfl rfl (Nat.le_of_ble_eq_true rfl) (Nat.le_of_ble_eq_true rfl) (by omega) (by omega) ?_
  generalize hiv : uA (CD iv 0 D1 O1 T1 S1 K1 C1) (12 + 42 * 0) w1 = iv1
  have e45 : iv1 45 = iv 45 := by rw [← hiv]; exact eiv 45 (by unfold Scr; omega) (by omega) (by omega)
  have e46 : iv1 46 = iv 46 := by rw [← hiv]; exact eiv 46 (by unfold Scr; omega) (by omega) (by omega)
  have e12 : iv1 12 = w1 := by rw [← hiv]; exact CSw
  have e42 : iv1 42 = K1 := by rw [← hiv]; exact CS42 (by omega)
  refine flP ?_
  refine q_addLog hS.ps (by rw [e45]; exact ⟨g3.1.1, by have := g3.1.2; omega⟩) ?_
  have hS1 := hS.frame (iv' := PW iv1 (up (iv1 45) 1 (iv1 45 1 + 1)) (up (up (up (iv1 46) (iv1 45 1 % 100 * 3) (cntP (LtP (livF E F N)) (F 13).toNat)) (iv1 45 1 % 100 * 3 + 1) (shA (livF E F N) (F 13).toNat)) (iv1 45 1 % 100 * 3 + 2) (gtA E F (preF E F N) (F 13).toNat 0)) (iv1 48) (iv1 12) (iv1 49) (iv1 50)) hKS h13 hf (fun i a b d f g j => by
    have e1 : PW iv1 (up (iv1 45) 1 (iv1 45 1 + 1)) (up (up (up (iv1 46) (iv1 45 1 % 100 * 3) (cntP (LtP (livF E F N)) (F 13).toNat)) (iv1 45 1 % 100 * 3 + 1) (shA (livF E F N) (F 13).toNat)) (iv1 45 1 % 100 * 3 + 2) (gtA E F (preF E F N) (F 13).toNat 0)) (iv1 48) (iv1 12) (iv1 49) (iv1 50) i = iv1 i := by
      by_cases q1 : i = 48
      · rw [q1, PW48]
      · by_cases q2 : i = 49
        · rw [q2, PW49]
        · by_cases q3 : i = 50
          · rw [q3, PW50]
          · exact PWn ⟨g, j, q1, b, q2, q3⟩
    rw [e1, ← hiv]; exact eiv i a b d) (by rw [PWn (by omega), e42]; exact hK1) (by rw [PWn (by omega), ← hiv, CSn (by omega)]; exact hS.z1) (by rw [PW12, e12]; exact hw1) (by rw [PW45, e45]) (by rw [PW46, e45, e46]; rfl)
  have ea : PW iv1 (up (iv1 45) 1 (iv1 45 1 + 1)) (up (up (up (iv1 46) (iv1 45 1 % 100 * 3) (cntP (LtP (livF E F N)) (F 13).toNat)) (iv1 45 1 % 100 * 3 + 1) (shA (livF E F N) (F 13).toNat)) (iv1 45 1 % 100 * 3 + 2) (gtA E F (preF E F N) (F 13).toNat 0)) (iv1 48) (iv1 12) (iv1 49) (iv1 50) 45 4 = iv 45 4 := by rw [PW45, e45, up_n (by omega)]
  refine wp_return dX11_goOneFrame_35 rfl ?_
  exact k _ hS1 ea
end C33
