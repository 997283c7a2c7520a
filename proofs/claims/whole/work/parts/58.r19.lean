def EqP (E E' : aF) (F F' : Int → Int) : Prop := E' 5 = E 5 ∧ E' 6 = E 6 ∧ E' 7 = E 7 ∧ F' 13 = F 13 ∧ F' 14 = F 14
section R19a
variable {E E' : aF} {F F' N S N1 T : Int → Int} {p : Int}
theorem ofr_q {nd fr : Int} (h : EqP E E' F F') : ofr E' F' N p nd fr = ofr E F N p nd fr := by unfold ofr; rw [h.1, h.2.1, h.2.2.2.1]
theorem bgo_q {kd n : Int} (h : EqP E E' F F') : bgo E' F' N p kd n = bgo E F N p kd n := by unfold bgo; rw [ofr_q h, ofr_q h, h.1, h.2.1]
theorem mny_q {kd n : Int} (h : EqP E E' F F') : mny E' F' N p kd n = mny E F N p kd n := by unfold mny mnm; rw [bgo_q h, h.2.1]
theorem begF_q {kd n : Int} (h : EqP E E' F F') : begF E' F' N p kd n = begF E F N p kd n := by unfold begF; rw [bgo_q h, mny_q h]
theorem rqF_q (h : EqP E E' F F') : rqF E' F' N p = rqF E F N p := by unfold rqF; rw [ofr_q h, h.2.1, h.2.2.2.1]
theorem okF_q {kd as tm : Int} (h : EqP E E' F F') : okF E' F' N T p kd as tm = okF E F N T p kd as tm := by unfold okF; rw [h.2.1, h.2.2.2.1]
theorem anF_q (h : EqP E E' F F') : anF E' F' N p = anF E F N p := by unfold anF; rw [begF_q h, okF_q h]
theorem rdP_q (h : EqP E E' F F') : rdP E' F' N p = rdP E F N p := by unfold rdP; rw [rqF_q h, anF_q h]
theorem rdL_q (h : EqP E E' F F') (m : Nat) : ∀ (p : Int) (N : Int → Int), rdL E' F' m p N = rdL E F m p N := by
  induction m with
  | zero => intro p N; rfl
  | succ m ih => intro p N; rw [rdL, rdL, rdP_q h, ih]
theorem chn_q {fr c : Int} (h : EqP E E' F F') : chn E' F' fr c = chn E F fr c := by unfold chn; rw [h.1, h.2.2.1, h.2.2.2.2]
theorem Got_q (h : EqP E E' F F') : Got E' F' N S p = Got E F N S p := by funext c; unfold Got; rw [chn_q h, h.2.2.2.1]
theorem gtn_q (h : EqP E E' F F') : gtn E' F' N p = gtn E F N p := by unfold gtn; rw [Got_q h]
theorem gtA_q (h : EqP E E' F F') (m : Nat) : ∀ p : Int, gtA E' F' N m p = gtA E F N m p := by
  induction m with
  | zero => intro p; rfl
  | succ m ih => intro p; rw [gtA, gtA, gtn_q h, ih]
theorem s2L_q (h : EqP E E' F F') (m : Nat) : ∀ (p : Int) (N : Int → Int), s2L E' F' N1 m p N = s2L E F N1 m p N := by
  induction m with
  | zero => intro p N; rfl
  | succ m ih => intro p N; rw [s2L, s2L, ih]; unfold s2P; rw [Got_q h]
theorem wnF_q (h : EqP E E' F F') : wnF E' F' N p = wnF E F N p := by unfold wnF; rw [begF_q h, begF_q h, begF_q h]
theorem wnL_q (h : EqP E E' F F') (m : Nat) : ∀ (p : Int) (N : Int → Int), wnL E' F' m p N = wnL E F m p N := by
  induction m with
  | zero => intro p N; rfl
  | succ m ih => intro p N; rw [wnL, wnL, wnF_q h, ih]
theorem preF_q (h : EqP E E' F F') : preF E' F' N = preF E F N := by unfold preF; rw [h.1, h.2.2.2.1, rdL_q h]
theorem livF_q (h : EqP E E' F F') : livF E' F' N = livF E F N := by rw [livF_eq, livF_eq, preF_q h, wnL_q h, s2L_q h, h.1, h.2.2.2.1]
theorem pasF_q (h : EqP E E' F F') : pasF E' F' N = pasF E F N := by unfold pasF; rw [livF_q h, preF_q h, gtA_q h, h.2.2.2.1]
theorem Prm_q (h : EqP E E' F F') (hP : Prm E F) : Prm E' F' := by unfold Prm at *; rw [h.1, h.2.2.2.1]; exact hP
theorem Prm2_q (h : EqP E E' F F') (hP : Prm2 E F) : Prm2 E' F' := by unfold Prm2 at *; rw [h.2.2.1, h.2.2.2.2]; exact hP
theorem Inv_q (h : EqP E E' F F') (hP : Inv E F N) : Inv E' F' N := by unfold Inv at *; rw [h.1, h.2.2.2.1]; exact hP
theorem EqP.f1 (h : ∀ j : Int, j = 13 ∨ j = 14 → F' j = F j) : EqP E E F F' := ⟨rfl, rfl, rfl, h 13 (by omega), h 14 (by omega)⟩
theorem EqP.e1 {i : Nat} {f : Int → Int} (h : ¬ i = 5) (h2 : ¬ i = 6) (h3 : ¬ i = 7) : EqP E (uA E i f) F F := ⟨uA_n (fun q => h q.symm), uA_n (fun q => h2 q.symm), uA_n (fun q => h3 q.symm), rfl, rfl⟩
theorem EqP.tr {E'' : aF} {F'' : Int → Int} (h : EqP E E' F F') (h2 : EqP E' E'' F' F'') : EqP E E'' F F'' := ⟨h2.1.trans h.1, h2.2.1.trans h.2.1, h2.2.2.1.trans h.2.2.1, h2.2.2.2.1.trans h.2.2.2.1, h2.2.2.2.2.trans h.2.2.2.2⟩
theorem EqP.sy (h : EqP E E' F F') : EqP E' E F' F := ⟨h.1.symm, h.2.1.symm, h.2.2.1.symm, h.2.2.2.1.symm, h.2.2.2.2.symm⟩
theorem lgF_369 {a b c : Int} (h : 0 ≤ N 369 ∧ N 369 ≤ 60) : 0 ≤ lgF N a b c 369 ∧ lgF N a b c 369 ≤ 60 := by
  unfold lgF lgt; rw [up_s]; split <;> omega
theorem pasF_inv (hP : Prm E F) (hI : Inv E F N) (hfr : N 368 ≤ 14000) (h9 : 0 ≤ N 369 ∧ N 369 ≤ 60) : Inv E F (pasF E F N) ∧ pasF E F N 368 = N 368 + 1 ∧ (0 ≤ pasF E F N 369 ∧ pasF E F N 369 ≤ 60) := by
  have hL := Inv.liv hP hI hfr
  have e9 : livF E F N 369 = N 369 := hL.2.2 369 (by omega) (by omega)
  have en : ∀ j : Int, j < 369 → pasF E F N j = livF E F N j := fun j hj => lgF_n (by omega) hj
  exact ⟨hL.1.cg hP en, by rw [en 368 (by omega), hL.2.1], lgF_369 (by omega)⟩
end R19a
/-- before a MESH nothing is asked of the rules -/
def Tld (iv : aF) (F N : Int → Int) : Prop := (0 ≤ F 13 ∧ F 13 ≤ 6) ∧ Prm2 iv F ∧ (0 ≤ N 369 ∧ N 369 ≤ 60) ∧ (0 ≤ N 368 ∧ N 368 ≤ 9999) ∧ (∀ z : Int, 0 ≤ z → z < 5 → 0 ≤ iv 9 z ∧ iv 9 z ≤ 100000) ∧ (0 ≤ F 25 ∧ F 25 ≤ 40) ∧ (0 < F 13 → Prm iv F ∧ Inv iv F N)
def rfF (iv : aF) (y : Int) : aF := uA iv 9 (up (iv 9) y (iv 9 y + 1))
def kpE (iv : aF) (F N : Int → Int) : aF := uA iv 14 (kpF (iv 14) N (F 25))
def kpG (F : Int → Int) : Int → Int := up F 25 (kpa (F 25) + 1)
theorem kp_q {iv : aF} {F N : Int → Int} : EqP iv (kpE iv F N) F (kpG F) := (EqP.e1 (by decide) (by decide) (by decide)).tr (EqP.f1 (fun j hj => by unfold kpG; rw [up_n (by omega)]))
theorem kpa_r {a : Int} (h : 0 ≤ a ∧ a ≤ 40) : 0 ≤ kpa a + 1 ∧ kpa a + 1 ≤ 40 := by unfold kpa; split <;> omega
section R19
variable {d : Nat} {iv lw : aF} {F N G O T S K : Int → Int} {R : aPost}
theorem s_isRefusedY {y : Int} (hy : 0 ≤ y ∧ y ≤ 4) (hc : ∀ z : Int, 0 ≤ z → z < 5 → 0 ≤ iv 9 z ∧ iv 9 z ≤ 100000) (k : R (some (aI 1)) SHR (ST (rfF iv y) F N G O T S) lw RVR) : wp (d) mX12_isRefused 0 [some (aR 0), some (aI y)] [] SHR (ST iv F N G O T S) lw RVR 0 0 R := s_isRefused (by omega) hc (fun _ => k) (fun h => by omega)
theorem s_isRefusedN (hc : ∀ z : Int, 0 ≤ z → z < 5 → 0 ≤ iv 9 z ∧ iv 9 z ≤ 100000) (k : R (some (aI 0)) SHR (ST iv F N G O T S) lw RVR) : wp (d) mX12_isRefused 0 [some (aR 0), some (aI (-1))] [] SHR (ST iv F N G O T S) lw RVR 0 0 R := s_isRefused (by omega) hc (fun h => by omega) (fun _ => k)
def frR (F N : Int → Int) (n : Int) : Int := if F 13 = 0 then 0 else if ¬ (1 ≤ n ∧ n ≤ 40) then 1 else if ¬ N 368 + n ≤ 9999 then 4 else -1
/-- frames go: acts, their number, the state -/
noncomputable def frE : Nat → aF → (Int → Int) → (Int → Int) → aF
  | 0, E, _, _ => E
  | m + 1, E, F, N => frE m (kpE E F N) (kpG F) (pasF E F N)
def frG : Nat → (Int → Int) → (Int → Int)
  | 0, F => F
  | m + 1, F => frG m (kpG F)
noncomputable def frN (E : aF) (F : Int → Int) : Nat → (Int → Int) → (Int → Int)
  | 0, N => N
  | m + 1, N => frN E F m (pasF E F N)
/-- the rows of the reference that are more than scratch -/
def EqE (E E' : aF) : Prop := ∀ i : Nat, i = 1 ∨ i = 5 ∨ i = 6 ∨ i = 7 ∨ i = 9 ∨ i = 14 ∨ i = 17 → E' i = E i
def EqF (F F' : Int → Int) : Prop := ∀ j : Int, j = 2 ∨ j = 13 ∨ j = 14 ∨ j = 17 ∨ j = 25 ∨ j = 30 → F' j = F j
theorem EqE.rf {E : aF} : EqE E E := fun _ _ => rfl
theorem EqF.rf {F : Int → Int} : EqF F F := fun _ _ => rfl
theorem EqE.tr {E E1 E2 : aF} (h : EqE E E1) (h2 : EqE E1 E2) : EqE E E2 := fun i hi => (h2 i hi).trans (h i hi)
theorem EqF.tr {F F1 F2 : Int → Int} (h : EqF F F1) (h2 : EqF F1 F2) : EqF F F2 := fun i hi => (h2 i hi).trans (h i hi)
theorem EqE.kp {E E1 : aF} {F F1 N : Int → Int} (h : EqE E E1) (hf : EqF F F1) : EqE (kpE E F N) (kpE E1 F1 N) := fun i hi => by
  unfold kpE
  by_cases e : i = 14
  · rw [e, uA_s, uA_s, h 14 (by omega), hf 25 (by omega)]
  · rw [uA_n e, uA_n e]; exact h i hi
theorem EqF.kp {F F1 : Int → Int} (h : EqF F F1) : EqF (kpG F) (kpG F1) := fun j hj => by
  unfold kpG
  by_cases e : j = 25
  · rw [e, up_s, up_s, h 25 (by omega)]
  · rw [up_n e, up_n e]; exact h j hj
theorem EqE.p {E E1 : aF} {F F1 : Int → Int} (h : EqE E E1) (hf : EqF F F1) : EqP E E1 F F1 := ⟨h 5 (by omega), h 6 (by omega), h 7 (by omega), hf 13 (by omega), hf 14 (by omega)⟩
theorem frE_q (m : Nat) : ∀ (E E1 : aF) (F F1 N : Int → Int), EqE E E1 → EqF F F1 → EqE (frE m E F N) (frE m E1 F1 N) := by
  induction m with
  | zero => intro E E1 F F1 N h _; exact h
  | succ m ih => intro E E1 F F1 N h hf; rw [frE, frE, pasF_q (h.p hf)]; exact ih _ _ _ _ _ (h.kp hf) hf.kp
theorem frG_q (m : Nat) : ∀ (F F1 : Int → Int), EqF F F1 → EqF (frG m F) (frG m F1) := by
  induction m with
  | zero => intro F F1 h; exact h
  | succ m ih => intro F F1 h; rw [frG, frG]; exact ih _ _ h.kp
theorem frN_q {E E1 : aF} {F F1 : Int → Int} (h : EqP E E1 F F1) (m : Nat) : ∀ N : Int → Int, frN E1 F1 m N = frN E F m N := by
  induction m with
  | zero => intro N; rfl
  | succ m ih => intro N; rw [frN, frN, pasF_q h, ih]
theorem l_frames {n : Int} (hn : n ≤ 40) (m : Nat) : ∀ (i : Int) (iv : aF) (F N G O T S : Int → Int), 0 ≤ i → i + m = n → Prm iv F → Prm2 iv F → Inv iv F N → N 368 + m ≤ 9999 → (0 ≤ N 369 ∧ N 369 ≤ 60) → (0 ≤ F 25 ∧ F 25 ≤ 40) → (∀ (E' : aF) (F' G' O' T' S' : Int → Int), EqE (frE m iv F N) E' → EqF (frG m F) F' → R (some (aI (N 368 + m))) SHR (ST E' F' (frN iv F m N) G' O' T' S') lw RVR) → wp (d + 10) mX12_frames 49 [some (aR 0), some (aI n), some (aI i)] [] SHR (ST iv F N G O T S) lw RVR 0 0 R := by
  induction m with
  | zero =>
    intro i iv F N G O T S h0 hm hP hP2 hI hf h9 h25 k
    refine wp_iload_n dX12_frames_49 rfl ?_
    refine wp_iload_n dX12_frames_50 rfl ?_
    refine wp_icmp_ge (tgt := 68) dX12_frames_51 rfl (fun h51 => ?_) (fun h51 => by exfalso; omega)
    refine wp_aload_n dX12_frames_68 rfl ?_
    refine wp_getR rfl dX12_frames_69 fX12_31 rfl ?_
    refine wp_sipush dX12_frames_72 ?_
    refine wp_iald dX12_frames_75 rfl (by omega) (by omega) ?_
    try simp only [ST0, ST5, ST6, ST7, ST8, ST10, ST11, ST12, ST13]
    refine wp_ireturn dX12_frames_76 rfl ?_
    have hk := k iv F G O T S EqE.rf EqF.rf
    rw [show N 368 + ((0 : Nat) : Int) = N 368 by omega] at hk; exact hk
  | succ m ih =>
    intro i iv F N G O T S h0 hm hP hP2 hI hf h9 h25 k
    refine wp_iload_n dX12_frames_49 rfl ?_
    refine wp_iload_n dX12_frames_50 rfl ?_
    refine wp_icmp_ge (tgt := 68) dX12_frames_51 rfl (fun h51 => by exfalso; omega) (fun h51 => ?_)
    refine wp_aload_n dX12_frames_54 rfl ?_
    refine wp_callV (as := []) (ls0 := [_, _]) (kc := 0) (ks := 0) (bc' := 0) (bs' := 0) dX12_frames_55 vX12_325 rfl rfl rfl (Nat.le_of_ble_eq_true rfl) (Nat.le_of_ble_eq_true rfl) (by omega) (by omega) ?_
    refine s_keep (by omega) ?_
    refine wp_aload_n dX12_frames_58 rfl ?_
    refine wp_callV (as := []) (ls0 := [_, _]) (kc := 0) (ks := 0) (bc' := 0) (bs' := 0) dX12_frames_59 vX12_328 rfl rfl rfl (Nat.le_of_ble_eq_true rfl) (Nat.le_of_ble_eq_true rfl) (by omega) (by omega) ?_
    refine s_passFrame (iv := kpE iv F N) (F := kpG F) (Prm_q kp_q hP) (Prm2_q kp_q hP2) (Inv_q kp_q hI) (by omega) h9 (fun F3 G' O' T' S' f1 => ?_)
    have hp := pasF_inv (Prm_q (kp_q (N := N)) hP) (Inv_q kp_q hI) (by omega) h9
    have q3 : EqP (kpE iv F N) (kpE iv F N) (kpG F) F3 := EqP.f1 (fun j hj => f1 j (by omega) (by omega))
    have hr25 := kpa_r h25
    have f25 : F3 25 = kpa (F 25) + 1 := by rw [f1 25 (by omega) (by omega)]; unfold kpG; rw [up_s]
    have e3 : EqF (kpG F) F3 := fun j hj => f1 j (by omega) (by omega)
    refine wp_iinc (ls' := [_, _, _]) dX12_frames_62 (by decide) rfl rfl ⟨by omega, by omega⟩ rfl ?_
    refine wp_goto (tgt := 49) dX12_frames_65 rfl ?_
    refine ih _ _ _ _ _ _ _ _ (by omega) (by omega) (Prm_q q3 (Prm_q kp_q hP)) (Prm2_q q3 (Prm2_q kp_q hP2)) (Inv_q q3 hp.1) (by rw [hp.2.1]; omega) hp.2.2 (by omega) (fun E4 F4 G4 O4 T4 S4 g1 g2 => ?_)
    rw [pasF_q kp_q] at g1 hp ⊢
    have hk := k E4 F4 G4 O4 T4 S4 ((frE_q m _ _ _ _ (pasF iv F N) EqE.rf e3).tr g1) ((frG_q m _ _ e3).tr g2)
    rw [frN, ← frN_q (kp_q.tr q3)] at hk
    rw [hp.2.1, show N 368 + 1 + (m : Int) = N 368 + ((m + 1 : Nat) : Int) by omega]
    exact hk
theorem s_frames {n : Int} (hT : Tld iv F N) (k0 : ¬ frR F N n = -1 → R (some (aI (-1))) SHR (ST (rfF iv (frR F N n)) F N G O T S) lw RVR) (k1 : frR F N n = -1 → (∀ (E' : aF) (F' G' O' T' S' : Int → Int), EqE (frE n.toNat iv F N) E' → EqF (frG n.toNat F) F' → R (some (aI (N 368 + n))) SHR (ST E' F' (frN iv F n.toNat N) G' O' T' S') lw RVR)) : wp (d + 10) mX12_frames 0 [some (aR 0), some (aI n), none] [] SHR (ST iv F N G O T S) lw RVR 0 0 R := by
  obtain ⟨hr, hP2, h9, h8, hc, h25, hT2⟩ := id hT
  refine wp_aload_n dX12_frames_0 rfl ?_
  refine wp_aload_n dX12_frames_1 rfl ?_
  refine wp_getI dX12_frames_2 fX12_138 rfl ?_
  try simp only [ST0, ST5, ST6, ST7, ST8, ST10, ST11, ST12, ST13]
  refine wp_if_ne (tgt := 12) dX12_frames_5 rfl (fun h5 => ?_) (fun h5 => ?_)
  · refine wp_iload_n dX12_frames_12 rfl ?_
    refine wp_iconst dX12_frames_13 ?_
    refine wp_bipush dX12_frames_14 ?_
    refine wp_callS (as := [_, _, _]) (ls0 := [_, _, _]) (kc := 0) (ks := 0) (bc' := 0) (bs' := 0) dX12_frames_16 vX12_75 rfl rfl (Nat.le_of_ble_eq_true rfl) (Nat.le_of_ble_eq_true rfl) (by omega) (by omega) ?_
    refine s_in (fun h16 => ?_) (fun h16 => ?_)
    · refine wp_if_ne (tgt := 26) dX12_frames_19 rfl (fun _ => ?_) (fun q => absurd q (by decide))
      refine wp_aload_n dX12_frames_26 rfl ?_
      refine wp_iload_n dX12_frames_27 rfl ?_
      refine wp_callV (as := [_]) (ls0 := [_, _]) (kc := 0) (ks := 0) (bc' := 0) (bs' := 0) dX12_frames_28 vX12_319 rfl rfl rfl (Nat.le_of_ble_eq_true rfl) (Nat.le_of_ble_eq_true rfl) (by omega) (by omega) ?_
      refine s_areFrames (by omega) (fun h28 => ?_) (fun h28 => ?_)
      · refine wp_if_ne (tgt := 38) dX12_frames_31 rfl (fun _ => ?_) (fun q => absurd q (by decide))
        refine wp_iconst dX12_frames_38 ?_
        refine wp_callV (as := [_]) (ls0 := [_, _]) (kc := 0) (ks := 0) (bc' := 0) (bs' := 0) dX12_frames_39 vX12_322 rfl rfl rfl (Nat.le_of_ble_eq_true rfl) (Nat.le_of_ble_eq_true rfl) (by omega) (by omega) ?_
        have er : frR F N n = -1 := by unfold frR; (repeat' split) <;> omega
        refine s_isRefusedN hc ?_
        refine wp_if_eq (tgt := 47) dX12_frames_42 rfl (fun _ => ?_) (fun q => absurd q (by decide))
        refine wp_iconst dX12_frames_47 ?_
        refine wp_istore_n (ls' := [_, _, _]) dX12_frames_48 (by decide) rfl rfl ?_
        have hh := k1 er
        obtain ⟨hP, hI⟩ := hT2 (by omega)
        refine l_frames (by omega) n.toNat 0 _ _ _ _ _ _ _ (by omega) (by omega) hP hP2 hI (by omega) h9 h25 (fun E' F' G' O' T' S' g1 g2 => ?_)
        rw [show ((n.toNat : Nat) : Int) = n by omega]
        exact hh E' F' G' O' T' S' g1 g2
      · refine wp_if_ne (tgt := 38) dX12_frames_31 rfl (fun q => absurd q (by decide)) (fun _ => ?_)
        refine wp_iconst dX12_frames_34 ?_
        refine wp_goto (tgt := 39) dX12_frames_35 rfl ?_
        refine wp_callV (as := [_]) (ls0 := [_, _]) (kc := 0) (ks := 0) (bc' := 0) (bs' := 0) dX12_frames_39 vX12_322 rfl rfl rfl (Nat.le_of_ble_eq_true rfl) (Nat.le_of_ble_eq_true rfl) (by omega) (by omega) ?_
        have er : frR F N n = 4 := by unfold frR; (repeat' split) <;> omega
        refine s_isRefusedY (by decide) hc ?_
        refine wp_if_eq (tgt := 47) dX12_frames_42 rfl (fun q => absurd q (by decide)) (fun _ => ?_)
        refine wp_iconst dX12_frames_45 ?_
        refine wp_ireturn dX12_frames_46 rfl ?_
        rw [er] at k0; exact k0 (by decide)
    · refine wp_if_ne (tgt := 26) dX12_frames_19 rfl (fun q => absurd q (by decide)) (fun _ => ?_)
      refine wp_iconst dX12_frames_22 ?_
      refine wp_goto (tgt := 39) dX12_frames_23 rfl ?_
      refine wp_callV (as := [_]) (ls0 := [_, _]) (kc := 0) (ks := 0) (bc' := 0) (bs' := 0) dX12_frames_39 vX12_322 rfl rfl rfl (Nat.le_of_ble_eq_true rfl) (Nat.le_of_ble_eq_true rfl) (by omega) (by omega) ?_
      have er : frR F N n = 1 := by unfold frR; (repeat' split) <;> omega
      refine s_isRefusedY (by decide) hc ?_
      refine wp_if_eq (tgt := 47) dX12_frames_42 rfl (fun q => absurd q (by decide)) (fun _ => ?_)
      refine wp_iconst dX12_frames_45 ?_
      refine wp_ireturn dX12_frames_46 rfl ?_
      rw [er] at k0; exact k0 (by decide)
  · refine wp_iconst dX12_frames_8 ?_
    refine wp_goto (tgt := 39) dX12_frames_9 rfl ?_
    refine wp_callV (as := [_]) (ls0 := [_, _]) (kc := 0) (ks := 0) (bc' := 0) (bs' := 0) dX12_frames_39 vX12_322 rfl rfl rfl (Nat.le_of_ble_eq_true rfl) (Nat.le_of_ble_eq_true rfl) (by omega) (by omega) ?_
    have er : frR F N n = 0 := by unfold frR; (repeat' split) <;> omega
    refine s_isRefusedY (by decide) hc ?_
    refine wp_if_eq (tgt := 47) dX12_frames_42 rfl (fun q => absurd q (by decide)) (fun _ => ?_)
    refine wp_iconst dX12_frames_45 ?_
    refine wp_ireturn dX12_frames_46 rfl ?_
    rw [er] at k0; exact k0 (by decide)
end R19
