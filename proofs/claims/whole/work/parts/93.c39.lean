theorem nwC_le (j : Nat) : ∀ (m : Nat) (a : Int), 0 ≤ a → a ≤ m → a < 40 → m ≤ 40 → m + nwC j m a ≤ 40 := by
  induction j with
  | zero => intro m a _ _ _ h; exact h
  | succ j ih =>
    intro m a h0 h1 h2 h3
    have hn : n1 m a ≤ 1 ∧ (n1 m a = 1 → a = m) ∧ (n1 m a = 0 → a < m) := by
      unfold n1
      by_cases e : a = m
      · rw [if_pos e]; omega
      · rw [if_neg e]; omega
    have := ih (m + n1 m a) ((a + 1) % 40) (by omega) (by omega) (by omega) (by omega)
    rw [nwC]
    omega
section C39
variable {d m : Nat} {sh : aSh} {iv lw E : aF} {rv : aP} {F N : Int → Int} {R : aPost} {c : Int}
theorem y_pairN {p w : Int} (hS : Sim c m sh iv rv E F N) (hp1 : 0 ≤ p ∧ p < F 13) (hw : 0 ≤ w ∧ w ≤ 10) (k : R (some (aI (aPair E N p w))) sh iv lw rv) : wp (d + 3) mX11_pair 0 [some (aR 0), some (aI p), some (aI w)] [] sh iv lw rv 0 0 R := by
  have hp : 0 ≤ p ∧ p < 6 := ⟨hp1.1, by have := hS.f13; omega⟩
  have h13 : 0 < F 13 := by omega
  unfold aPair at k
  refine wp_aload_n dX11_pair_0 rfl ?_
  refine wp_getR hS.hm.2.2.1 dX11_pair_1 fX11_19 hS.hm.1 ?_
  refine wp_iload_n dX11_pair_4 rfl ?_
  refine wp_callV (as := [_]) (ls0 := [_, _]) (kc := 0) (ks := 0) (bc' := 0) (bs' := 0) dX11_pair_5 vX11_133 hS.pls.1 rfl rfl (Nat.le_of_ble_eq_true rfl) (Nat.le_of_ble_eq_true rfl) (by omega) (by omega) ?_
  refine n_hasPair hS.plan (fun _ => ?_) (fun z => absurd hp1 z)
  refine wp_if_eq (tgt := 21) dX11_pair_8 rfl (fun q => absurd q (by decide)) (fun _ => ?_)
  refine wp_iload_n dX11_pair_11 rfl ?_
  refine wp_if_lt (tgt := 21) dX11_pair_12 rfl (fun h12 => by exfalso; omega) (fun h12 => ?_)
  refine wp_iload_n dX11_pair_15 rfl ?_
  refine wp_bipush dX11_pair_16 ?_
  refine wp_icmp_le (tgt := 29) dX11_pair_18 rfl (fun h18 => ?_) (fun h18 => by exfalso; omega)
  refine wp_iload_n dX11_pair_29 rfl ?_
  refine wp_iconst dX11_pair_30 ?_
  refine wp_icmp_ge (tgt := 46) dX11_pair_31 rfl (fun h31 => ?_) (fun h31 => ?_)
  · refine wp_aload_n dX11_pair_46 rfl ?_
    refine wp_getR hS.hm.2.2.2.2.1 dX11_pair_47 fX11_37 hS.hm.1 ?_
    refine wp_getR hS.n0.r11l dX11_pair_50 fX11_143 hS.n0.s11 ?_
    refine wp_iload_n dX11_pair_53 rfl ?_
    refine wp_aaldL dX11_pair_54 hS.n0.s13 (by omega) (by omega) (hS.n0.r13 hp) ?_
    refine wp_iload_n dX11_pair_55 rfl ?_
    refine wp_callV (as := [_]) (ls0 := [_, _]) (kc := 0) (ks := 0) (bc' := 0) (bs' := 0) dX11_pair_56 vX11_147 (hS.n0.lk0 hp).1 rfl rfl (Nat.le_of_ble_eq_true rfl) (Nat.le_of_ble_eq_true rfl) (by omega) (by omega) ?_
    refine fl12 ?_
    refine k_tell (hS.n0.lk0 hp) hS.rel ?_
    rw [id12]
    refine wp_ireturn dX11_pair_59 rfl ?_
    (repeat' split at k) <;> (repeat' split) <;> first | exact k | (exfalso; omega)
  · refine wp_aload_n dX11_pair_34 rfl ?_
    refine wp_getR hS.hm.2.2.1 dX11_pair_35 fX11_19 hS.hm.1 ?_
    refine wp_iload_n dX11_pair_38 rfl ?_
    refine wp_iload_n dX11_pair_39 rfl ?_
    refine wp_callV (as := [_, _]) (ls0 := [_, _, _]) (kc := 0) (ks := 0) (bc' := 0) (bs' := 0) dX11_pair_40 vX11_139 hS.pls.1 rfl rfl (Nat.le_of_ble_eq_true rfl) (Nat.le_of_ble_eq_true rfl) (by omega) (by omega) ?_
    refine n_itemOf hS.f13.2 (by omega) (by omega) hS.plan ?_
    refine wp_goto (tgt := 59) dX11_pair_43 rfl ?_
    refine wp_ireturn dX11_pair_59 rfl ?_
    (repeat' split at k) <;> (repeat' split) <;> first | exact k | (exfalso; omega)
end C39
