section C22
variable {d : Nat} {sh : aSh} {iv lw : aF} {rv : aP} {R : aPost} {r X Y Z t : Int → Int} {p h q a u n : Int}
theorem x_lo {k : Int} (h : 0 ≤ k ∧ k < 5) : (aXl 0).getD k.toNat 0 = loF 115 k ∧ (aXl 1).getD k.toNat 0 = hiF 115 k := by
  rcases (by omega : k = 0 ∨ k = 1 ∨ k = 2 ∨ k = 3 ∨ k = 4) with rfl | rfl | rfl | rfl | rfl <;> exact ⟨rfl, rfl⟩
theorem x_lp {k : Int} (h : 0 ≤ k ∧ k < 4) : (aXl 3).getD k.toNat 0 = loF 112 k ∧ (aXl 4).getD k.toNat 0 = hiF 112 k := by
  rcases (by omega : k = 0 ∨ k = 1 ∨ k = 2 ∨ k = 3) with rfl | rfl | rfl | rfl <;> exact ⟨rfl, rfl⟩
theorem p_numberT {lo hi : Int} (hA : RdA sh rv) (hT0 : TpA sh rv) (hT : TpR iv t n) (ha : 0 ≤ a ∧ a < n) (e : nmw t n (skp t n (a + 1)) lo hi = -1) (k : R (some (aI (-1))) sh (CR iv (RQ r (p) (h) (q) (nma t n (skp t n (a + 1))) (nmv t n (skp t n (a + 1)))) X Y Z) lw rv) : wp (d + 2) mX8_readNumber 0 [some (aR 7), some (aI lo), some (aI hi), none, none] [] sh (CR iv (RQ r (p) (h) (q) (a) (u)) X Y Z) lw rv 0 0 R := p_number hA hT0 hT ha (fun _ => k) (fun z => absurd e z)
theorem p_numberF {lo hi : Int} (hA : RdA sh rv) (hT0 : TpA sh rv) (hT : TpR iv t n) (ha : 0 ≤ a ∧ a < n) (e : ¬ nmw t n (skp t n (a + 1)) lo hi = -1) (k : ∀ a' u' : Int, R (some (aI (nmw t n (skp t n (a + 1)) lo hi))) sh (CR iv (RQ r (p) (h) (q) (a') (u')) X Y Z) lw rv) : wp (d + 2) mX8_readNumber 0 [some (aR 7), some (aI lo), some (aI hi), none, none] [] sh (CR iv (RQ r (p) (h) (q) (a) (u)) X Y Z) lw rv 0 0 R := p_number hA hT0 hT ha (fun z => absurd z e) (fun _ => k)
def rIt (t : Int → Int) (n : Int) (x : Int) : Int := if sg t n x = -1 ∨ sg t n x = 59 then -1 else x
theorem l_items0 (hA : RdA sh rv) (hT0 : TpA sh rv) (hT : TpR iv t n) (m : Nat) : ∀ (a g c u : Int) (X : Int → Int) (v8 v9 v10 : Option aV), (0 ≤ a ∧ a ≤ n) → (0 ≤ g ∧ g < 32) → popc g.toNat + m = 6 → c = popc g.toNat → ((itL t n 115 0 m a g X).1 = -1 → ∀ u' : Int, R (some (aI (rIt t n (itL t n 115 0 m a g X).2.1))) sh (CR iv (RQ r (p) (h) (q) ((itL t n 115 0 m a g X).2.1) (u')) (itL t n 115 0 m a g X).2.2 Y Z) lw rv) → (¬ (itL t n 115 0 m a g X).1 = -1 → ∀ (a' u' : Int) (X' : Int → Int), R (some (aI ((itL t n 115 0 m a g X).1))) sh (CR iv (RQ r (p) (h) (q) (a') (u')) X' Y Z) lw rv) → wp (d + 4) mX8_readItems 6 [some (aR 7), some (aX (6 + 0)), some (aX 0), some (aX 1), some (aR 8), some (aI 0), some (aI g), some (aI c), v8, v9, v10] [] sh (CR iv (RQ r (p) (h) (q) (a) (u)) X Y Z) lw rv 0 0 R := by
  obtain ⟨-, hn, -, -⟩ := id hT
  induction m with
  | zero =>
    intro a g c u X v8 v9 v10 ha hg hm hc kt kf
    have := pop_f (g := g) (k := 0) (by omega) (by omega)
    omega
  | succ m ih =>
    intro a g c u X v8 v9 v10 ha hg hm hc kt kf
    have hpf := pop_f (g := g) (k := 0) (by omega) (by omega)
    have hp0 : 0 ≤ popc g.toNat := by unfold popc; omega
    have hs := skp_r (t := t) ha.1 ha.2
    have hb := sgb (i := skp t n a) hT
    have hk := itF_r (cl := 115) (c := sg t n (skp t n a))
    rw [itL] at kt kf
    generalize hj : skp t n a = j at *
    by_cases c1 : itF 115 (sg t n j) = -1 ∨ bt g (itF 115 (sg t n j))
    · rw [if_pos c1] at kt
      have hkk : ∀ u' : Int, R (some (aI (rIt t n j))) sh (CR iv (RQ r (p) (h) (q) (j) (u')) X Y Z) lw rv := kt rfl
      unfold rIt at hkk
      refine wp_iload dX8_readItems_6 rfl ?_
      refine wp_aload_n dX8_readItems_8 rfl ?_
      refine wp_callX (i := 0) (as := []) (ls0 := [_]) (kc := 0) (ks := 0) (bc' := 0) (bs' := 0) dX8_readItems_9 vX8_97 (by decide) rfl rfl (Nat.le_of_ble_eq_true rfl) (Nat.le_of_ble_eq_true rfl) (by omega) (by omega) ?_
      refine u_length0 ?_
      refine wp_icmp_gt (tgt := 152) dX8_readItems_12 rfl (fun h12 => by exfalso; omega) (fun h12 => ?_)
      refine wp_aload_n dX8_readItems_15 rfl ?_
      refine wp_callV (as := []) (ls0 := [_, _]) (kc := 0) (ks := 0) (bc' := 0) (bs' := 0) dX8_readItems_16 vX8_71 hA.1 rfl rfl (Nat.le_of_ble_eq_true rfl) (Nat.le_of_ble_eq_true rfl) (by omega) (by omega) ?_
      refine p_skip hA hT0 hT ha ?_
      rw [hj]
      refine wp_aload_n dX8_readItems_19 rfl ?_
      refine wp_getR hA.2.1 dX8_readItems_20 fX8_23 hA.1 ?_
      refine wp_aload_n dX8_readItems_23 rfl ?_
      refine wp_getI dX8_readItems_24 fX8_27 hA.1 ?_
      try simp only [CR1, CR2, CR7, CR8, CR9, CR10, RQ4, RQ5, RQ6, RQ7, RQ8, hT.1]
      refine wp_callV (as := [_]) (ls0 := [_, _]) (kc := 0) (ks := 0) (bc' := 0) (bs' := 0) dX8_readItems_27 vX8_63 hT0.1 rfl rfl (Nat.le_of_ble_eq_true rfl) (Nat.le_of_ble_eq_true rfl) (by omega) (by omega) ?_
      refine p_signAt hT0 hT ?_
      refine wp_istore (ls' := [_, _, _, _, _, _, _, _, _, _, _]) dX8_readItems_30 (by decide) rfl rfl ?_
      refine wp_iload dX8_readItems_32 rfl ?_
      refine wp_iconst dX8_readItems_34 ?_
      refine wp_icmp_eq (tgt := 45) dX8_readItems_35 rfl (fun h35 => ?_) (fun h35 => ?_)
      · refine wp_iconst dX8_readItems_45 ?_
        refine wp_ireturn dX8_readItems_46 rfl ?_
        first
        | (rw [if_pos (by omega)] at hkk; exact hkk _)
        | (rw [if_neg (by omega)] at hkk; exact hkk _)
      · refine wp_iload dX8_readItems_38 rfl ?_
        refine wp_bipush dX8_readItems_40 ?_
        refine wp_icmp_ne (tgt := 47) dX8_readItems_42 rfl (fun h42 => ?_) (fun h42 => ?_)
        · refine wp_aload_n dX8_readItems_47 rfl ?_
          refine wp_iload dX8_readItems_48 rfl ?_
          refine wp_i2c dX8_readItems_50 (by omega) (by omega) ?_
          refine wp_callX (i := 0) (as := [_]) (ls0 := [_, _]) (kc := 0) (ks := 0) (bc' := 0) (bs' := 0) dX8_readItems_51 vX8_102 (by decide) rfl rfl (Nat.le_of_ble_eq_true rfl) (Nat.le_of_ble_eq_true rfl) (by omega) (by omega) ?_
          refine u_idx0 (by omega) ?_
          refine wp_istore (ls' := [_, _, _, _, _, _, _, _, _, _, _]) dX8_readItems_54 (by decide) rfl rfl ?_
          refine wp_iload dX8_readItems_56 rfl ?_
          refine wp_if_lt (tgt := 86) dX8_readItems_58 rfl (fun h58 => ?_) (fun h58 => ?_)
          · refine wp_aload_n dX8_readItems_86 rfl ?_
            refine wp_getI dX8_readItems_87 fX8_27 hA.1 ?_
            try simp only [CR1, CR2, CR7, CR8, CR9, CR10, RQ4, RQ5, RQ6, RQ7, RQ8, hT.1]
            refine wp_ireturn dX8_readItems_90 rfl ?_
            first
            | (rw [if_pos (by omega)] at hkk; exact hkk _)
            | (rw [if_neg (by omega)] at hkk; exact hkk _)
          · refine wp_iload dX8_readItems_61 rfl ?_
            refine wp_aload_n dX8_readItems_63 rfl ?_
            refine wp_xlen (q := 0) (nz := 5) dX8_readItems_64 (by decide) rfl ⟨by decide, by decide⟩ ?_
            refine wp_icmp_ge (tgt := 86) dX8_readItems_65 rfl (fun h65 => ?_) (fun h65 => ?_)
            · exfalso; have := hk.2.2; omega
            · refine wp_iload dX8_readItems_68 rfl ?_
              refine wp_aload_n dX8_readItems_70 rfl ?_
              refine wp_xlen (q := 1) (nz := 5) dX8_readItems_71 (by decide) rfl ⟨by decide, by decide⟩ ?_
              refine wp_icmp_ge (tgt := 86) dX8_readItems_72 rfl (fun h72 => ?_) (fun h72 => ?_)
              · exfalso; have := hk.2.2; omega
              · refine wp_iload dX8_readItems_75 rfl ?_
                refine wp_iload dX8_readItems_77 rfl ?_
                refine wp_ishr dX8_readItems_79 (by omega) (by omega) ?_
                refine wp_iconst dX8_readItems_80 ?_
                refine wp_iand dX8_readItems_81 (by first | exact bt_nn hg.1 | decide) (by first | exact bt_nn hg.1 | decide) ?_
                refine wp_iconst dX8_readItems_82 ?_
                refine wp_icmp_ne (tgt := 91) dX8_readItems_83 rfl (fun h83 => ?_) (fun h83 => ?_)
                · exact absurd c1 (fun z => z.elim (fun y => by omega) (fun y => h83 y))
                · refine wp_aload_n dX8_readItems_86 rfl ?_
                  refine wp_getI dX8_readItems_87 fX8_27 hA.1 ?_
                  try simp only [CR1, CR2, CR7, CR8, CR9, CR10, RQ4, RQ5, RQ6, RQ7, RQ8, hT.1]
                  refine wp_ireturn dX8_readItems_90 rfl ?_
                  first
                  | (rw [if_pos (by omega)] at hkk; exact hkk _)
                  | (rw [if_neg (by omega)] at hkk; exact hkk _)
        · refine wp_iconst dX8_readItems_45 ?_
          refine wp_ireturn dX8_readItems_46 rfl ?_
          first
          | (rw [if_pos (by omega)] at hkk; exact hkk _)
          | (rw [if_neg (by omega)] at hkk; exact hkk _)
    · rw [if_neg c1] at kt kf
      have hl := sg_lt (t := t) (n := n) (i := j) (fun e => c1 (Or.inl (by rw [e]; exact itF_n.1)))
      have hk0 : ¬ itF 115 (sg t n j) = -1 := fun e => c1 (Or.inl e)
      have h59 : ¬ sg t n j = 59 := fun e => hk0 (by rw [e]; exact itF_n.2)
      have hbt : ¬ bt g (itF 115 (sg t n j)) := fun e => c1 (Or.inr e)
      have hk3 : itF 115 (sg t n j) < 5 := by have := hk.2.2; omega
      have hps := pop_s (g := g) (k := itF 115 (sg t n j)) (by omega) (by omega) hbt
      have h2 := p2_r (k := itF 115 (sg t n j)) (by omega)
      have hx := x_lo (k := itF 115 (sg t n j)) (by omega)
      by_cases c2 : nmw t n (skp t n (j + 1)) (loF 115 (itF 115 (sg t n j))) (hiF 115 (itF 115 (sg t n j))) = -1
      · rw [if_pos c2] at kt kf
        have hs2 := skp_r (t := t) (n := n) (i := j + 1) (by omega) (by omega)
        have hr := nma_r (nmw_d c2 (by omega))
        refine wp_iload dX8_readItems_6 rfl ?_
        refine wp_aload_n dX8_readItems_8 rfl ?_
        refine wp_callX (i := 0) (as := []) (ls0 := [_]) (kc := 0) (ks := 0) (bc' := 0) (bs' := 0) dX8_readItems_9 vX8_97 (by decide) rfl rfl (Nat.le_of_ble_eq_true rfl) (Nat.le_of_ble_eq_true rfl) (by omega) (by omega) ?_
        refine u_length0 ?_
        refine wp_icmp_gt (tgt := 152) dX8_readItems_12 rfl (fun h12 => by exfalso; omega) (fun h12 => ?_)
        refine wp_aload_n dX8_readItems_15 rfl ?_
        refine wp_callV (as := []) (ls0 := [_, _]) (kc := 0) (ks := 0) (bc' := 0) (bs' := 0) dX8_readItems_16 vX8_71 hA.1 rfl rfl (Nat.le_of_ble_eq_true rfl) (Nat.le_of_ble_eq_true rfl) (by omega) (by omega) ?_
        refine p_skip hA hT0 hT ha ?_
        rw [hj]
        refine wp_aload_n dX8_readItems_19 rfl ?_
        refine wp_getR hA.2.1 dX8_readItems_20 fX8_23 hA.1 ?_
        refine wp_aload_n dX8_readItems_23 rfl ?_
        refine wp_getI dX8_readItems_24 fX8_27 hA.1 ?_
        try simp only [CR1, CR2, CR7, CR8, CR9, CR10, RQ4, RQ5, RQ6, RQ7, RQ8, hT.1]
        refine wp_callV (as := [_]) (ls0 := [_, _]) (kc := 0) (ks := 0) (bc' := 0) (bs' := 0) dX8_readItems_27 vX8_63 hT0.1 rfl rfl (Nat.le_of_ble_eq_true rfl) (Nat.le_of_ble_eq_true rfl) (by omega) (by omega) ?_
        refine p_signAt hT0 hT ?_
        refine wp_istore (ls' := [_, _, _, _, _, _, _, _, _, _, _]) dX8_readItems_30 (by decide) rfl rfl ?_
        refine wp_iload dX8_readItems_32 rfl ?_
        refine wp_iconst dX8_readItems_34 ?_
        refine wp_icmp_eq (tgt := 45) dX8_readItems_35 rfl (fun h35 => by exfalso; omega) (fun h35 => ?_)
        refine wp_iload dX8_readItems_38 rfl ?_
        refine wp_bipush dX8_readItems_40 ?_
        refine wp_icmp_ne (tgt := 47) dX8_readItems_42 rfl (fun h42 => ?_) (fun h42 => by exfalso; omega)
        refine wp_aload_n dX8_readItems_47 rfl ?_
        refine wp_iload dX8_readItems_48 rfl ?_
        refine wp_i2c dX8_readItems_50 (by omega) (by omega) ?_
        refine wp_callX (i := 0) (as := [_]) (ls0 := [_, _]) (kc := 0) (ks := 0) (bc' := 0) (bs' := 0) dX8_readItems_51 vX8_102 (by decide) rfl rfl (Nat.le_of_ble_eq_true rfl) (Nat.le_of_ble_eq_true rfl) (by omega) (by omega) ?_
        refine u_idx0 (by omega) ?_
        refine wp_istore (ls' := [_, _, _, _, _, _, _, _, _, _, _]) dX8_readItems_54 (by decide) rfl rfl ?_
        refine wp_iload dX8_readItems_56 rfl ?_
        refine wp_if_lt (tgt := 86) dX8_readItems_58 rfl (fun h58 => by exfalso; omega) (fun h58 => ?_)
        refine wp_iload dX8_readItems_61 rfl ?_
        refine wp_aload_n dX8_readItems_63 rfl ?_
        refine wp_xlen (q := 0) (nz := 5) dX8_readItems_64 (by decide) rfl ⟨by decide, by decide⟩ ?_
        refine wp_icmp_ge (tgt := 86) dX8_readItems_65 rfl (fun h65 => by exfalso; omega) (fun h65 => ?_)
        refine wp_iload dX8_readItems_68 rfl ?_
        refine wp_aload_n dX8_readItems_70 rfl ?_
        refine wp_xlen (q := 1) (nz := 5) dX8_readItems_71 (by decide) rfl ⟨by decide, by decide⟩ ?_
        refine wp_icmp_ge (tgt := 86) dX8_readItems_72 rfl (fun h72 => by exfalso; omega) (fun h72 => ?_)
        refine wp_iload dX8_readItems_75 rfl ?_
        refine wp_iload dX8_readItems_77 rfl ?_
        refine wp_ishr dX8_readItems_79 (by omega) (by omega) ?_
        refine wp_iconst dX8_readItems_80 ?_
        refine wp_iand dX8_readItems_81 (by first | exact bt_nn hg.1 | decide) (by first | exact bt_nn hg.1 | decide) ?_
        refine wp_iconst dX8_readItems_82 ?_
        refine wp_icmp_ne (tgt := 91) dX8_readItems_83 rfl (fun h83 => ?_) (fun h83 => by exfalso; exact hbt h83)
        refine wp_iload dX8_readItems_91 rfl ?_
        refine wp_iconst dX8_readItems_93 ?_
        refine wp_iload dX8_readItems_94 rfl ?_
        refine wp_ishl dX8_readItems_96 (by omega) (by omega) (by exact ⟨by omega, by omega⟩) ?_
        refine wp_ior dX8_readItems_97 (by omega) (by omega) ?_
        refine wp_istore (ls' := [_, _, _, _, _, _, _, _, _, _, _]) dX8_readItems_98 (by decide) rfl rfl ?_
        refine wp_aload_n dX8_readItems_100 rfl ?_
        refine wp_aload_n dX8_readItems_101 rfl ?_
        refine wp_iload dX8_readItems_102 rfl ?_
        refine wp_xald (q := 0) dX8_readItems_104 (by decide) (by omega) (by show _ < ((5 : Nat) : Int); omega) ?_
        refine wp_aload_n dX8_readItems_105 rfl ?_
        refine wp_iload dX8_readItems_106 rfl ?_
        refine wp_xald (q := 1) dX8_readItems_108 (by decide) (by omega) (by show _ < ((5 : Nat) : Int); omega) ?_
        refine wp_callV (as := [_, _]) (ls0 := [_, _, _, _, _]) (kc := 0) (ks := 0) (bc' := 0) (bs' := 0) dX8_readItems_109 vX8_105 hA.1 rfl rfl (Nat.le_of_ble_eq_true rfl) (Nat.le_of_ble_eq_true rfl) (by omega) (by omega) ?_
        rw [hx.1, hx.2]
        refine p_numberT hA hT0 hT hl c2 ?_
        refine wp_istore (ls' := [_, _, _, _, _, _, _, _, _, _, _]) dX8_readItems_112 (by decide) rfl rfl ?_
        refine wp_iload dX8_readItems_114 rfl ?_
        refine wp_iconst dX8_readItems_116 ?_
        refine wp_icmp_eq (tgt := 123) dX8_readItems_117 rfl (fun h117 => ?_) (fun h117 => by exfalso; omega)
        refine wp_iload dX8_readItems_123 rfl ?_
        refine wp_iload dX8_readItems_125 rfl ?_
        refine wp_iadd dX8_readItems_127 ⟨by omega, by omega⟩ ?_
        refine wp_aload dX8_readItems_128 rfl ?_
        refine wp_alen dX8_readItems_130 hA.2.2.2.2.2.1 rfl ⟨by decide, by decide⟩ ?_
        refine wp_icmp_ge (tgt := 146) dX8_readItems_131 rfl (fun h131 => by exfalso; omega) (fun h131 => ?_)
        refine wp_aload dX8_readItems_134 rfl ?_
        refine wp_iload dX8_readItems_136 rfl ?_
        refine wp_iload dX8_readItems_138 rfl ?_
        refine wp_iadd dX8_readItems_140 ⟨by omega, by omega⟩ ?_
        refine wp_aload_n dX8_readItems_141 rfl ?_
        refine wp_getI dX8_readItems_142 fX8_109 hA.1 ?_
        try simp only [CR1, CR2, CR7, CR8, CR9, CR10, RQ4, RQ5, RQ6, RQ7, RQ8, hT.1]
        refine wp_iast dX8_readItems_145 hA.2.2.2.2.2.1 (by omega) (by omega) ?_
        try simp only [CRu7, CRu8, CRu9, CRu10, RQu4, RQu5, RQu6, RQu7, RQu8]
        refine wp_iinc (ls' := [_, _, _, _, _, _, _, _, _, _, _]) dX8_readItems_146 (by decide) rfl rfl ⟨by omega, by omega⟩ rfl ?_
        refine wp_goto (tgt := 6) dX8_readItems_149 rfl ?_
        exact ih _ _ _ _ _ _ _ _ ⟨by omega, by omega⟩ ⟨hps.2.1.1, by have := hps.2.1.2; unfold orB at this; omega⟩ (by have := hps.1; unfold orB at this; omega) (by have := hps.1; unfold orB at this; omega) kt kf
      · rw [if_neg c2] at kf
        have hkk := kf c2
        refine wp_iload dX8_readItems_6 rfl ?_
        refine wp_aload_n dX8_readItems_8 rfl ?_
        refine wp_callX (i := 0) (as := []) (ls0 := [_]) (kc := 0) (ks := 0) (bc' := 0) (bs' := 0) dX8_readItems_9 vX8_97 (by decide) rfl rfl (Nat.le_of_ble_eq_true rfl) (Nat.le_of_ble_eq_true rfl) (by omega) (by omega) ?_
        refine u_length0 ?_
        refine wp_icmp_gt (tgt := 152) dX8_readItems_12 rfl (fun h12 => by exfalso; omega) (fun h12 => ?_)
        refine wp_aload_n dX8_readItems_15 rfl ?_
        refine wp_callV (as := []) (ls0 := [_, _]) (kc := 0) (ks := 0) (bc' := 0) (bs' := 0) dX8_readItems_16 vX8_71 hA.1 rfl rfl (Nat.le_of_ble_eq_true rfl) (Nat.le_of_ble_eq_true rfl) (by omega) (by omega) ?_
        refine p_skip hA hT0 hT ha ?_
        rw [hj]
        refine wp_aload_n dX8_readItems_19 rfl ?_
        refine wp_getR hA.2.1 dX8_readItems_20 fX8_23 hA.1 ?_
        refine wp_aload_n dX8_readItems_23 rfl ?_
        refine wp_getI dX8_readItems_24 fX8_27 hA.1 ?_
        try simp only [CR1, CR2, CR7, CR8, CR9, CR10, RQ4, RQ5, RQ6, RQ7, RQ8, hT.1]
        refine wp_callV (as := [_]) (ls0 := [_, _]) (kc := 0) (ks := 0) (bc' := 0) (bs' := 0) dX8_readItems_27 vX8_63 hT0.1 rfl rfl (Nat.le_of_ble_eq_true rfl) (Nat.le_of_ble_eq_true rfl) (by omega) (by omega) ?_
        refine p_signAt hT0 hT ?_
        refine wp_istore (ls' := [_, _, _, _, _, _, _, _, _, _, _]) dX8_readItems_30 (by decide) rfl rfl ?_
        refine wp_iload dX8_readItems_32 rfl ?_
        refine wp_iconst dX8_readItems_34 ?_
        refine wp_icmp_eq (tgt := 45) dX8_readItems_35 rfl (fun h35 => by exfalso; omega) (fun h35 => ?_)
        refine wp_iload dX8_readItems_38 rfl ?_
        refine wp_bipush dX8_readItems_40 ?_
        refine wp_icmp_ne (tgt := 47) dX8_readItems_42 rfl (fun h42 => ?_) (fun h42 => by exfalso; omega)
        refine wp_aload_n dX8_readItems_47 rfl ?_
        refine wp_iload dX8_readItems_48 rfl ?_
        refine wp_i2c dX8_readItems_50 (by omega) (by omega) ?_
        refine wp_callX (i := 0) (as := [_]) (ls0 := [_, _]) (kc := 0) (ks := 0) (bc' := 0) (bs' := 0) dX8_readItems_51 vX8_102 (by decide) rfl rfl (Nat.le_of_ble_eq_true rfl) (Nat.le_of_ble_eq_true rfl) (by omega) (by omega) ?_
        refine u_idx0 (by omega) ?_
        refine wp_istore (ls' := [_, _, _, _, _, _, _, _, _, _, _]) dX8_readItems_54 (by decide) rfl rfl ?_
        refine wp_iload dX8_readItems_56 rfl ?_
        refine wp_if_lt (tgt := 86) dX8_readItems_58 rfl (fun h58 => by exfalso; omega) (fun h58 => ?_)
        refine wp_iload dX8_readItems_61 rfl ?_
        refine wp_aload_n dX8_readItems_63 rfl ?_
        refine wp_xlen (q := 0) (nz := 5) dX8_readItems_64 (by decide) rfl ⟨by decide, by decide⟩ ?_
        refine wp_icmp_ge (tgt := 86) dX8_readItems_65 rfl (fun h65 => by exfalso; omega) (fun h65 => ?_)
        refine wp_iload dX8_readItems_68 rfl ?_
        refine wp_aload_n dX8_readItems_70 rfl ?_
        refine wp_xlen (q := 1) (nz := 5) dX8_readItems_71 (by decide) rfl ⟨by decide, by decide⟩ ?_
        refine wp_icmp_ge (tgt := 86) dX8_readItems_72 rfl (fun h72 => by exfalso; omega) (fun h72 => ?_)
        refine wp_iload dX8_readItems_75 rfl ?_
        refine wp_iload dX8_readItems_77 rfl ?_
        refine wp_ishr dX8_readItems_79 (by omega) (by omega) ?_
        refine wp_iconst dX8_readItems_80 ?_
        refine wp_iand dX8_readItems_81 (by first | exact bt_nn hg.1 | decide) (by first | exact bt_nn hg.1 | decide) ?_
        refine wp_iconst dX8_readItems_82 ?_
        refine wp_icmp_ne (tgt := 91) dX8_readItems_83 rfl (fun h83 => ?_) (fun h83 => by exfalso; exact hbt h83)
        refine wp_iload dX8_readItems_91 rfl ?_
        refine wp_iconst dX8_readItems_93 ?_
        refine wp_iload dX8_readItems_94 rfl ?_
        refine wp_ishl dX8_readItems_96 (by omega) (by omega) (by exact ⟨by omega, by omega⟩) ?_
        refine wp_ior dX8_readItems_97 (by omega) (by omega) ?_
        refine wp_istore (ls' := [_, _, _, _, _, _, _, _, _, _, _]) dX8_readItems_98 (by decide) rfl rfl ?_
        refine wp_aload_n dX8_readItems_100 rfl ?_
        refine wp_aload_n dX8_readItems_101 rfl ?_
        refine wp_iload dX8_readItems_102 rfl ?_
        refine wp_xald (q := 0) dX8_readItems_104 (by decide) (by omega) (by show _ < ((5 : Nat) : Int); omega) ?_
        refine wp_aload_n dX8_readItems_105 rfl ?_
        refine wp_iload dX8_readItems_106 rfl ?_
        refine wp_xald (q := 1) dX8_readItems_108 (by decide) (by omega) (by show _ < ((5 : Nat) : Int); omega) ?_
        refine wp_callV (as := [_, _]) (ls0 := [_, _, _, _, _]) (kc := 0) (ks := 0) (bc' := 0) (bs' := 0) dX8_readItems_109 vX8_105 hA.1 rfl rfl (Nat.le_of_ble_eq_true rfl) (Nat.le_of_ble_eq_true rfl) (by omega) (by omega) ?_
        rw [hx.1, hx.2]
        refine p_numberF hA hT0 hT hl c2 (fun a' u' => ?_)
        refine wp_istore (ls' := [_, _, _, _, _, _, _, _, _, _, _]) dX8_readItems_112 (by decide) rfl rfl ?_
        refine wp_iload dX8_readItems_114 rfl ?_
        refine wp_iconst dX8_readItems_116 ?_
        refine wp_icmp_eq (tgt := 123) dX8_readItems_117 rfl (fun h117 => by exfalso; omega) (fun h117 => ?_)
        refine wp_iload dX8_readItems_120 rfl ?_
        refine wp_ireturn dX8_readItems_122 rfl ?_
        exact hkk _ _ _
theorem p_items0 (hA : RdA sh rv) (hT0 : TpA sh rv) (hT : TpR iv t n) (ha : 0 ≤ a ∧ a ≤ n) (kt : (itL t n 115 0 6 a 0 X).1 = -1 → ∀ u' : Int, R (some (aI (rIt t n (itL t n 115 0 6 a 0 X).2.1))) sh (CR iv (RQ r (p) (h) (q) ((itL t n 115 0 6 a 0 X).2.1) (u')) (itL t n 115 0 6 a 0 X).2.2 Y Z) lw rv) (kf : ¬ (itL t n 115 0 6 a 0 X).1 = -1 → ∀ (a' u' : Int) (X' : Int → Int), R (some (aI ((itL t n 115 0 6 a 0 X).1))) sh (CR iv (RQ r (p) (h) (q) (a') (u')) X' Y Z) lw rv) : wp (d + 4) mX8_readItems 0 [some (aR 7), some (aX (6 + 0)), some (aX 0), some (aX 1), some (aR 8), some (aI 0), none, none, none, none, none] [] sh (CR iv (RQ r (p) (h) (q) (a) (u)) X Y Z) lw rv 0 0 R := by
  refine wp_iconst dX8_readItems_0 ?_
  refine wp_istore (ls' := [_, _, _, _, _, _, _, _, _, _, _]) dX8_readItems_1 (by decide) rfl rfl ?_
  refine wp_iconst dX8_readItems_3 ?_
  refine wp_istore (ls' := [_, _, _, _, _, _, _, _, _, _, _]) dX8_readItems_4 (by decide) rfl rfl ?_
  exact l_items0 hA hT0 hT 6 _ 0 0 _ _ _ _ _ ha (by omega) (by decide) (by decide) kt kf
theorem l_items1 {q0 : Int} (hA : RdA sh rv) (hT0 : TpA sh rv) (hT : TpR iv t n) (hq0 : 0 ≤ q0 ∧ q0 < 6) (m : Nat) : ∀ (a g c u : Int) (Y : Int → Int) (v8 v9 v10 : Option aV), (0 ≤ a ∧ a ≤ n) → (0 ≤ g ∧ g < 16) → popc g.toNat + m = 5 → c = popc g.toNat → ((itL t n 112 (4 * q0) m a g Y).1 = -1 → ∀ u' : Int, R (some (aI (rIt t n (itL t n 112 (4 * q0) m a g Y).2.1))) sh (CR iv (RQ r (p) (h) (q) ((itL t n 112 (4 * q0) m a g Y).2.1) (u')) X (itL t n 112 (4 * q0) m a g Y).2.2 Z) lw rv) → (¬ (itL t n 112 (4 * q0) m a g Y).1 = -1 → ∀ (a' u' : Int) (Y' : Int → Int), R (some (aI ((itL t n 112 (4 * q0) m a g Y).1))) sh (CR iv (RQ r (p) (h) (q) (a') (u')) X Y' Z) lw rv) → wp (d + 4) mX8_readItems 6 [some (aR 7), some (aX (6 + 1)), some (aX 3), some (aX 4), some (aR 9), some (aI (4 * q0)), some (aI g), some (aI c), v8, v9, v10] [] sh (CR iv (RQ r (p) (h) (q) (a) (u)) X Y Z) lw rv 0 0 R := by
  obtain ⟨-, hn, -, -⟩ := id hT
  induction m with
  | zero =>
    intro a g c u Y v8 v9 v10 ha hg hm hc kt kf
    have := pop_f (g := g) (k := 0) (by omega) (by omega)
    omega
  | succ m ih =>
    intro a g c u Y v8 v9 v10 ha hg hm hc kt kf
    have hpf := pop_f (g := g) (k := 0) (by omega) (by omega)
    have hp0 : 0 ≤ popc g.toNat := by unfold popc; omega
    have hs := skp_r (t := t) ha.1 ha.2
    have hb := sgb (i := skp t n a) hT
    have hk := itF_r (cl := 112) (c := sg t n (skp t n a))
    rw [itL] at kt kf
    generalize hj : skp t n a = j at *
    by_cases c1 : itF 112 (sg t n j) = -1 ∨ bt g (itF 112 (sg t n j))
    · rw [if_pos c1] at kt
      have hkk : ∀ u' : Int, R (some (aI (rIt t n j))) sh (CR iv (RQ r (p) (h) (q) (j) (u')) X Y Z) lw rv := kt rfl
      unfold rIt at hkk
      refine wp_iload dX8_readItems_6 rfl ?_
      refine wp_aload_n dX8_readItems_8 rfl ?_
      refine wp_callX (i := 1) (as := []) (ls0 := [_]) (kc := 0) (ks := 0) (bc' := 0) (bs' := 0) dX8_readItems_9 vX8_97 (by decide) rfl rfl (Nat.le_of_ble_eq_true rfl) (Nat.le_of_ble_eq_true rfl) (by omega) (by omega) ?_
      refine u_length1 ?_
      refine wp_icmp_gt (tgt := 152) dX8_readItems_12 rfl (fun h12 => by exfalso; omega) (fun h12 => ?_)
      refine wp_aload_n dX8_readItems_15 rfl ?_
      refine wp_callV (as := []) (ls0 := [_, _]) (kc := 0) (ks := 0) (bc' := 0) (bs' := 0) dX8_readItems_16 vX8_71 hA.1 rfl rfl (Nat.le_of_ble_eq_true rfl) (Nat.le_of_ble_eq_true rfl) (by omega) (by omega) ?_
      refine p_skip hA hT0 hT ha ?_
      rw [hj]
      refine wp_aload_n dX8_readItems_19 rfl ?_
      refine wp_getR hA.2.1 dX8_readItems_20 fX8_23 hA.1 ?_
      refine wp_aload_n dX8_readItems_23 rfl ?_
      refine wp_getI dX8_readItems_24 fX8_27 hA.1 ?_
      try simp only [CR1, CR2, CR7, CR8, CR9, CR10, RQ4, RQ5, RQ6, RQ7, RQ8, hT.1]
      refine wp_callV (as := [_]) (ls0 := [_, _]) (kc := 0) (ks := 0) (bc' := 0) (bs' := 0) dX8_readItems_27 vX8_63 hT0.1 rfl rfl (Nat.le_of_ble_eq_true rfl) (Nat.le_of_ble_eq_true rfl) (by omega) (by omega) ?_
      refine p_signAt hT0 hT ?_
      refine wp_istore (ls' := [_, _, _, _, _, _, _, _, _, _, _]) dX8_readItems_30 (by decide) rfl rfl ?_
      refine wp_iload dX8_readItems_32 rfl ?_
      refine wp_iconst dX8_readItems_34 ?_
      refine wp_icmp_eq (tgt := 45) dX8_readItems_35 rfl (fun h35 => ?_) (fun h35 => ?_)
      · refine wp_iconst dX8_readItems_45 ?_
        refine wp_ireturn dX8_readItems_46 rfl ?_
        first
        | (rw [if_pos (by omega)] at hkk; exact hkk _)
        | (rw [if_neg (by omega)] at hkk; exact hkk _)
      · refine wp_iload dX8_readItems_38 rfl ?_
        refine wp_bipush dX8_readItems_40 ?_
        refine wp_icmp_ne (tgt := 47) dX8_readItems_42 rfl (fun h42 => ?_) (fun h42 => ?_)
        · refine wp_aload_n dX8_readItems_47 rfl ?_
          refine wp_iload dX8_readItems_48 rfl ?_
          refine wp_i2c dX8_readItems_50 (by omega) (by omega) ?_
          refine wp_callX (i := 1) (as := [_]) (ls0 := [_, _]) (kc := 0) (ks := 0) (bc' := 0) (bs' := 0) dX8_readItems_51 vX8_102 (by decide) rfl rfl (Nat.le_of_ble_eq_true rfl) (Nat.le_of_ble_eq_true rfl) (by omega) (by omega) ?_
          refine u_idx1 (by omega) ?_
          refine wp_istore (ls' := [_, _, _, _, _, _, _, _, _, _, _]) dX8_readItems_54 (by decide) rfl rfl ?_
          refine wp_iload dX8_readItems_56 rfl ?_
          refine wp_if_lt (tgt := 86) dX8_readItems_58 rfl (fun h58 => ?_) (fun h58 => ?_)
          · refine wp_aload_n dX8_readItems_86 rfl ?_
            refine wp_getI dX8_readItems_87 fX8_27 hA.1 ?_
            try simp only [CR1, CR2, CR7, CR8, CR9, CR10, RQ4, RQ5, RQ6, RQ7, RQ8, hT.1]
            refine wp_ireturn dX8_readItems_90 rfl ?_
            first
            | (rw [if_pos (by omega)] at hkk; exact hkk _)
            | (rw [if_neg (by omega)] at hkk; exact hkk _)
          · refine wp_iload dX8_readItems_61 rfl ?_
            refine wp_aload_n dX8_readItems_63 rfl ?_
            refine wp_xlen (q := 3) (nz := 4) dX8_readItems_64 (by decide) rfl ⟨by decide, by decide⟩ ?_
            refine wp_icmp_ge (tgt := 86) dX8_readItems_65 rfl (fun h65 => ?_) (fun h65 => ?_)
            · exfalso; have := hk.2.2; omega
            · refine wp_iload dX8_readItems_68 rfl ?_
              refine wp_aload_n dX8_readItems_70 rfl ?_
              refine wp_xlen (q := 4) (nz := 4) dX8_readItems_71 (by decide) rfl ⟨by decide, by decide⟩ ?_
              refine wp_icmp_ge (tgt := 86) dX8_readItems_72 rfl (fun h72 => ?_) (fun h72 => ?_)
              · exfalso; have := hk.2.2; omega
              · refine wp_iload dX8_readItems_75 rfl ?_
                refine wp_iload dX8_readItems_77 rfl ?_
                refine wp_ishr dX8_readItems_79 (by omega) (by omega) ?_
                refine wp_iconst dX8_readItems_80 ?_
                refine wp_iand dX8_readItems_81 (by first | exact bt_nn hg.1 | decide) (by first | exact bt_nn hg.1 | decide) ?_
                refine wp_iconst dX8_readItems_82 ?_
                refine wp_icmp_ne (tgt := 91) dX8_readItems_83 rfl (fun h83 => ?_) (fun h83 => ?_)
                · exact absurd c1 (fun z => z.elim (fun y => by omega) (fun y => h83 y))
                · refine wp_aload_n dX8_readItems_86 rfl ?_
                  refine wp_getI dX8_readItems_87 fX8_27 hA.1 ?_
                  try simp only [CR1, CR2, CR7, CR8, CR9, CR10, RQ4, RQ5, RQ6, RQ7, RQ8, hT.1]
                  refine wp_ireturn dX8_readItems_90 rfl ?_
                  first
                  | (rw [if_pos (by omega)] at hkk; exact hkk _)
                  | (rw [if_neg (by omega)] at hkk; exact hkk _)
        · refine wp_iconst dX8_readItems_45 ?_
          refine wp_ireturn dX8_readItems_46 rfl ?_
          first
          | (rw [if_pos (by omega)] at hkk; exact hkk _)
          | (rw [if_neg (by omega)] at hkk; exact hkk _)
    · rw [if_neg c1] at kt kf
      have hl := sg_lt (t := t) (n := n) (i := j) (fun e => c1 (Or.inl (by rw [e]; exact itF_n.1)))
      have hk0 : ¬ itF 112 (sg t n j) = -1 := fun e => c1 (Or.inl e)
      have h59 : ¬ sg t n j = 59 := fun e => hk0 (by rw [e]; exact itF_n.2)
      have hbt : ¬ bt g (itF 112 (sg t n j)) := fun e => c1 (Or.inr e)
      have hk3 : itF 112 (sg t n j) < 4 := by have := hk.2.2; omega
      have hps := pop_s (g := g) (k := itF 112 (sg t n j)) (by omega) (by omega) hbt
      have h2 := p2_r (k := itF 112 (sg t n j)) (by omega)
      have hx := x_lp (k := itF 112 (sg t n j)) (by omega)
      by_cases c2 : nmw t n (skp t n (j + 1)) (loF 112 (itF 112 (sg t n j))) (hiF 112 (itF 112 (sg t n j))) = -1
      · rw [if_pos c2] at kt kf
        have hs2 := skp_r (t := t) (n := n) (i := j + 1) (by omega) (by omega)
        have hr := nma_r (nmw_d c2 (by omega))
        refine wp_iload dX8_readItems_6 rfl ?_
        refine wp_aload_n dX8_readItems_8 rfl ?_
        refine wp_callX (i := 1) (as := []) (ls0 := [_]) (kc := 0) (ks := 0) (bc' := 0) (bs' := 0) dX8_readItems_9 vX8_97 (by decide) rfl rfl (Nat.le_of_ble_eq_true rfl) (Nat.le_of_ble_eq_true rfl) (by omega) (by omega) ?_
        refine u_length1 ?_
        refine wp_icmp_gt (tgt := 152) dX8_readItems_12 rfl (fun h12 => by exfalso; omega) (fun h12 => ?_)
        refine wp_aload_n dX8_readItems_15 rfl ?_
        refine wp_callV (as := []) (ls0 := [_, _]) (kc := 0) (ks := 0) (bc' := 0) (bs' := 0) dX8_readItems_16 vX8_71 hA.1 rfl rfl (Nat.le_of_ble_eq_true rfl) (Nat.le_of_ble_eq_true rfl) (by omega) (by omega) ?_
        refine p_skip hA hT0 hT ha ?_
        rw [hj]
        refine wp_aload_n dX8_readItems_19 rfl ?_
        refine wp_getR hA.2.1 dX8_readItems_20 fX8_23 hA.1 ?_
        refine wp_aload_n dX8_readItems_23 rfl ?_
        refine wp_getI dX8_readItems_24 fX8_27 hA.1 ?_
        try simp only [CR1, CR2, CR7, CR8, CR9, CR10, RQ4, RQ5, RQ6, RQ7, RQ8, hT.1]
        refine wp_callV (as := [_]) (ls0 := [_, _]) (kc := 0) (ks := 0) (bc' := 0) (bs' := 0) dX8_readItems_27 vX8_63 hT0.1 rfl rfl (Nat.le_of_ble_eq_true rfl) (Nat.le_of_ble_eq_true rfl) (by omega) (by omega) ?_
        refine p_signAt hT0 hT ?_
        refine wp_istore (ls' := [_, _, _, _, _, _, _, _, _, _, _]) dX8_readItems_30 (by decide) rfl rfl ?_
        refine wp_iload dX8_readItems_32 rfl ?_
        refine wp_iconst dX8_readItems_34 ?_
        refine wp_icmp_eq (tgt := 45) dX8_readItems_35 rfl (fun h35 => by exfalso; omega) (fun h35 => ?_)
        refine wp_iload dX8_readItems_38 rfl ?_
        refine wp_bipush dX8_readItems_40 ?_
        refine wp_icmp_ne (tgt := 47) dX8_readItems_42 rfl (fun h42 => ?_) (fun h42 => by exfalso; omega)
        refine wp_aload_n dX8_readItems_47 rfl ?_
        refine wp_iload dX8_readItems_48 rfl ?_
        refine wp_i2c dX8_readItems_50 (by omega) (by omega) ?_
        refine wp_callX (i := 1) (as := [_]) (ls0 := [_, _]) (kc := 0) (ks := 0) (bc' := 0) (bs' := 0) dX8_readItems_51 vX8_102 (by decide) rfl rfl (Nat.le_of_ble_eq_true rfl) (Nat.le_of_ble_eq_true rfl) (by omega) (by omega) ?_
        refine u_idx1 (by omega) ?_
        refine wp_istore (ls' := [_, _, _, _, _, _, _, _, _, _, _]) dX8_readItems_54 (by decide) rfl rfl ?_
        refine wp_iload dX8_readItems_56 rfl ?_
        refine wp_if_lt (tgt := 86) dX8_readItems_58 rfl (fun h58 => by exfalso; omega) (fun h58 => ?_)
        refine wp_iload dX8_readItems_61 rfl ?_
        refine wp_aload_n dX8_readItems_63 rfl ?_
        refine wp_xlen (q := 3) (nz := 4) dX8_readItems_64 (by decide) rfl ⟨by decide, by decide⟩ ?_
        refine wp_icmp_ge (tgt := 86) dX8_readItems_65 rfl (fun h65 => by exfalso; omega) (fun h65 => ?_)
        refine wp_iload dX8_readItems_68 rfl ?_
        refine wp_aload_n dX8_readItems_70 rfl ?_
        refine wp_xlen (q := 4) (nz := 4) dX8_readItems_71 (by decide) rfl ⟨by decide, by decide⟩ ?_
        refine wp_icmp_ge (tgt := 86) dX8_readItems_72 rfl (fun h72 => by exfalso; omega) (fun h72 => ?_)
        refine wp_iload dX8_readItems_75 rfl ?_
        refine wp_iload dX8_readItems_77 rfl ?_
        refine wp_ishr dX8_readItems_79 (by omega) (by omega) ?_
        refine wp_iconst dX8_readItems_80 ?_
        refine wp_iand dX8_readItems_81 (by first | exact bt_nn hg.1 | decide) (by first | exact bt_nn hg.1 | decide) ?_
        refine wp_iconst dX8_readItems_82 ?_
        refine wp_icmp_ne (tgt := 91) dX8_readItems_83 rfl (fun h83 => ?_) (fun h83 => by exfalso; exact hbt h83)
        refine wp_iload dX8_readItems_91 rfl ?_
        refine wp_iconst dX8_readItems_93 ?_
        refine wp_iload dX8_readItems_94 rfl ?_
        refine wp_ishl dX8_readItems_96 (by omega) (by omega) (by exact ⟨by omega, by omega⟩) ?_
        refine wp_ior dX8_readItems_97 (by omega) (by omega) ?_
        refine wp_istore (ls' := [_, _, _, _, _, _, _, _, _, _, _]) dX8_readItems_98 (by decide) rfl rfl ?_
        refine wp_aload_n dX8_readItems_100 rfl ?_
        refine wp_aload_n dX8_readItems_101 rfl ?_
        refine wp_iload dX8_readItems_102 rfl ?_
        refine wp_xald (q := 3) dX8_readItems_104 (by decide) (by omega) (by show _ < ((4 : Nat) : Int); omega) ?_
        refine wp_aload_n dX8_readItems_105 rfl ?_
        refine wp_iload dX8_readItems_106 rfl ?_
        refine wp_xald (q := 4) dX8_readItems_108 (by decide) (by omega) (by show _ < ((4 : Nat) : Int); omega) ?_
        refine wp_callV (as := [_, _]) (ls0 := [_, _, _, _, _]) (kc := 0) (ks := 0) (bc' := 0) (bs' := 0) dX8_readItems_109 vX8_105 hA.1 rfl rfl (Nat.le_of_ble_eq_true rfl) (Nat.le_of_ble_eq_true rfl) (by omega) (by omega) ?_
        rw [hx.1, hx.2]
        refine p_numberT hA hT0 hT hl c2 ?_
        refine wp_istore (ls' := [_, _, _, _, _, _, _, _, _, _, _]) dX8_readItems_112 (by decide) rfl rfl ?_
        refine wp_iload dX8_readItems_114 rfl ?_
        refine wp_iconst dX8_readItems_116 ?_
        refine wp_icmp_eq (tgt := 123) dX8_readItems_117 rfl (fun h117 => ?_) (fun h117 => by exfalso; omega)
        refine wp_iload dX8_readItems_123 rfl ?_
        refine wp_iload dX8_readItems_125 rfl ?_
        refine wp_iadd dX8_readItems_127 ⟨by omega, by omega⟩ ?_
        refine wp_aload dX8_readItems_128 rfl ?_
        refine wp_alen dX8_readItems_130 hA.2.2.2.2.2.2.1 rfl ⟨by decide, by decide⟩ ?_
        refine wp_icmp_ge (tgt := 146) dX8_readItems_131 rfl (fun h131 => by exfalso; omega) (fun h131 => ?_)
        refine wp_aload dX8_readItems_134 rfl ?_
        refine wp_iload dX8_readItems_136 rfl ?_
        refine wp_iload dX8_readItems_138 rfl ?_
        refine wp_iadd dX8_readItems_140 ⟨by omega, by omega⟩ ?_
        refine wp_aload_n dX8_readItems_141 rfl ?_
        refine wp_getI dX8_readItems_142 fX8_109 hA.1 ?_
        try simp only [CR1, CR2, CR7, CR8, CR9, CR10, RQ4, RQ5, RQ6, RQ7, RQ8, hT.1]
        refine wp_iast dX8_readItems_145 hA.2.2.2.2.2.2.1 (by omega) (by omega) ?_
        try simp only [CRu7, CRu8, CRu9, CRu10, RQu4, RQu5, RQu6, RQu7, RQu8]
        refine wp_iinc (ls' := [_, _, _, _, _, _, _, _, _, _, _]) dX8_readItems_146 (by decide) rfl rfl ⟨by omega, by omega⟩ rfl ?_
        refine wp_goto (tgt := 6) dX8_readItems_149 rfl ?_
        exact ih _ _ _ _ _ _ _ _ ⟨by omega, by omega⟩ ⟨hps.2.1.1, by have := hps.2.2 (by omega) (by omega); unfold orB at this; omega⟩ (by have := hps.1; unfold orB at this; omega) (by have := hps.1; unfold orB at this; omega) kt kf
      · rw [if_neg c2] at kf
        have hkk := kf c2
        refine wp_iload dX8_readItems_6 rfl ?_
        refine wp_aload_n dX8_readItems_8 rfl ?_
        refine wp_callX (i := 1) (as := []) (ls0 := [_]) (kc := 0) (ks := 0) (bc' := 0) (bs' := 0) dX8_readItems_9 vX8_97 (by decide) rfl rfl (Nat.le_of_ble_eq_true rfl) (Nat.le_of_ble_eq_true rfl) (by omega) (by omega) ?_
        refine u_length1 ?_
        refine wp_icmp_gt (tgt := 152) dX8_readItems_12 rfl (fun h12 => by exfalso; omega) (fun h12 => ?_)
        refine wp_aload_n dX8_readItems_15 rfl ?_
        refine wp_callV (as := []) (ls0 := [_, _]) (kc := 0) (ks := 0) (bc' := 0) (bs' := 0) dX8_readItems_16 vX8_71 hA.1 rfl rfl (Nat.le_of_ble_eq_true rfl) (Nat.le_of_ble_eq_true rfl) (by omega) (by omega) ?_
        refine p_skip hA hT0 hT ha ?_
        rw [hj]
        refine wp_aload_n dX8_readItems_19 rfl ?_
        refine wp_getR hA.2.1 dX8_readItems_20 fX8_23 hA.1 ?_
        refine wp_aload_n dX8_readItems_23 rfl ?_
        refine wp_getI dX8_readItems_24 fX8_27 hA.1 ?_
        try simp only [CR1, CR2, CR7, CR8, CR9, CR10, RQ4, RQ5, RQ6, RQ7, RQ8, hT.1]
        refine wp_callV (as := [_]) (ls0 := [_, _]) (kc := 0) (ks := 0) (bc' := 0) (bs' := 0) dX8_readItems_27 vX8_63 hT0.1 rfl rfl (Nat.le_of_ble_eq_true rfl) (Nat.le_of_ble_eq_true rfl) (by omega) (by omega) ?_
        refine p_signAt hT0 hT ?_
        refine wp_istore (ls' := [_, _, _, _, _, _, _, _, _, _, _]) dX8_readItems_30 (by decide) rfl rfl ?_
        refine wp_iload dX8_readItems_32 rfl ?_
        refine wp_iconst dX8_readItems_34 ?_
        refine wp_icmp_eq (tgt := 45) dX8_readItems_35 rfl (fun h35 => by exfalso; omega) (fun h35 => ?_)
        refine wp_iload dX8_readItems_38 rfl ?_
        refine wp_bipush dX8_readItems_40 ?_
        refine wp_icmp_ne (tgt := 47) dX8_readItems_42 rfl (fun h42 => ?_) (fun h42 => by exfalso; omega)
        refine wp_aload_n dX8_readItems_47 rfl ?_
        refine wp_iload dX8_readItems_48 rfl ?_
        refine wp_i2c dX8_readItems_50 (by omega) (by omega) ?_
        refine wp_callX (i := 1) (as := [_]) (ls0 := [_, _]) (kc := 0) (ks := 0) (bc' := 0) (bs' := 0) dX8_readItems_51 vX8_102 (by decide) rfl rfl (Nat.le_of_ble_eq_true rfl) (Nat.le_of_ble_eq_true rfl) (by omega) (by omega) ?_
        refine u_idx1 (by omega) ?_
        refine wp_istore (ls' := [_, _, _, _, _, _, _, _, _, _, _]) dX8_readItems_54 (by decide) rfl rfl ?_
        refine wp_iload dX8_readItems_56 rfl ?_
        refine wp_if_lt (tgt := 86) dX8_readItems_58 rfl (fun h58 => by exfalso; omega) (fun h58 => ?_)
        refine wp_iload dX8_readItems_61 rfl ?_
        refine wp_aload_n dX8_readItems_63 rfl ?_
        refine wp_xlen (q := 3) (nz := 4) dX8_readItems_64 (by decide) rfl ⟨by decide, by decide⟩ ?_
        refine wp_icmp_ge (tgt := 86) dX8_readItems_65 rfl (fun h65 => by exfalso; omega) (fun h65 => ?_)
        refine wp_iload dX8_readItems_68 rfl ?_
        refine wp_aload_n dX8_readItems_70 rfl ?_
        refine wp_xlen (q := 4) (nz := 4) dX8_readItems_71 (by decide) rfl ⟨by decide, by decide⟩ ?_
        refine wp_icmp_ge (tgt := 86) dX8_readItems_72 rfl (fun h72 => by exfalso; omega) (fun h72 => ?_)
        refine wp_iload dX8_readItems_75 rfl ?_
        refine wp_iload dX8_readItems_77 rfl ?_
        refine wp_ishr dX8_readItems_79 (by omega) (by omega) ?_
        refine wp_iconst dX8_readItems_80 ?_
        refine wp_iand dX8_readItems_81 (by first | exact bt_nn hg.1 | decide) (by first | exact bt_nn hg.1 | decide) ?_
        refine wp_iconst dX8_readItems_82 ?_
        refine wp_icmp_ne (tgt := 91) dX8_readItems_83 rfl (fun h83 => ?_) (fun h83 => by exfalso; exact hbt h83)
        refine wp_iload dX8_readItems_91 rfl ?_
        refine wp_iconst dX8_readItems_93 ?_
        refine wp_iload dX8_readItems_94 rfl ?_
        refine wp_ishl dX8_readItems_96 (by omega) (by omega) (by exact ⟨by omega, by omega⟩) ?_
        refine wp_ior dX8_readItems_97 (by omega) (by omega) ?_
        refine wp_istore (ls' := [_, _, _, _, _, _, _, _, _, _, _]) dX8_readItems_98 (by decide) rfl rfl ?_
        refine wp_aload_n dX8_readItems_100 rfl ?_
        refine wp_aload_n dX8_readItems_101 rfl ?_
        refine wp_iload dX8_readItems_102 rfl ?_
        refine wp_xald (q := 3) dX8_readItems_104 (by decide) (by omega) (by show _ < ((4 : Nat) : Int); omega) ?_
        refine wp_aload_n dX8_readItems_105 rfl ?_
        refine wp_iload dX8_readItems_106 rfl ?_
        refine wp_xald (q := 4) dX8_readItems_108 (by decide) (by omega) (by show _ < ((4 : Nat) : Int); omega) ?_
        refine wp_callV (as := [_, _]) (ls0 := [_, _, _, _, _]) (kc := 0) (ks := 0) (bc' := 0) (bs' := 0) dX8_readItems_109 vX8_105 hA.1 rfl rfl (Nat.le_of_ble_eq_true rfl) (Nat.le_of_ble_eq_true rfl) (by omega) (by omega) ?_
        rw [hx.1, hx.2]
        refine p_numberF hA hT0 hT hl c2 (fun a' u' => ?_)
        refine wp_istore (ls' := [_, _, _, _, _, _, _, _, _, _, _]) dX8_readItems_112 (by decide) rfl rfl ?_
        refine wp_iload dX8_readItems_114 rfl ?_
        refine wp_iconst dX8_readItems_116 ?_
        refine wp_icmp_eq (tgt := 123) dX8_readItems_117 rfl (fun h117 => by exfalso; omega) (fun h117 => ?_)
        refine wp_iload dX8_readItems_120 rfl ?_
        refine wp_ireturn dX8_readItems_122 rfl ?_
        exact hkk _ _ _
theorem p_items1 {q0 : Int} (hA : RdA sh rv) (hT0 : TpA sh rv) (hT : TpR iv t n) (hq0 : 0 ≤ q0 ∧ q0 < 6) (ha : 0 ≤ a ∧ a ≤ n) (kt : (itL t n 112 (4 * q0) 5 a 0 Y).1 = -1 → ∀ u' : Int, R (some (aI (rIt t n (itL t n 112 (4 * q0) 5 a 0 Y).2.1))) sh (CR iv (RQ r (p) (h) (q) ((itL t n 112 (4 * q0) 5 a 0 Y).2.1) (u')) X (itL t n 112 (4 * q0) 5 a 0 Y).2.2 Z) lw rv) (kf : ¬ (itL t n 112 (4 * q0) 5 a 0 Y).1 = -1 → ∀ (a' u' : Int) (Y' : Int → Int), R (some (aI ((itL t n 112 (4 * q0) 5 a 0 Y).1))) sh (CR iv (RQ r (p) (h) (q) (a') (u')) X Y' Z) lw rv) : wp (d + 4) mX8_readItems 0 [some (aR 7), some (aX (6 + 1)), some (aX 3), some (aX 4), some (aR 9), some (aI (4 * q0)), none, none, none, none, none] [] sh (CR iv (RQ r (p) (h) (q) (a) (u)) X Y Z) lw rv 0 0 R := by
  refine wp_iconst dX8_readItems_0 ?_
  refine wp_istore (ls' := [_, _, _, _, _, _, _, _, _, _, _]) dX8_readItems_1 (by decide) rfl rfl ?_
  refine wp_iconst dX8_readItems_3 ?_
  refine wp_istore (ls' := [_, _, _, _, _, _, _, _, _, _, _]) dX8_readItems_4 (by decide) rfl rfl ?_
  exact l_items1 hA hT0 hT hq0 5 _ 0 0 _ _ _ _ _ ha (by omega) (by decide) (by decide) kt kf
end C22
