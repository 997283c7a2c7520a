section C6
variable {d b : Nat} {sh : aSh} {iv lw E : aF} {rv : aP} {D O T S K C w N F : Int → Int} {R : aPost} {p : Int}
theorem NtA.sl (h : NtA sh rv iv b) (hp : 0 ≤ p ∧ p < 6) : sh[lid b p]? = some (3, 3) := (h.2.2.1 p hp.1 hp.2).2.1
theorem NtA.rls (h : NtA sh rv iv b) (hp : 0 ≤ p ∧ p < 6) : rv (lid b p) 3 = some (sid b p) := (h.2.2.1 p hp.1 hp.2).2.rS
theorem NtA.rlr (h : NtA sh rv iv b) (hp : 0 ≤ p ∧ p < 6) : rv (lid b p) 4 = some (rid b p) := (h.2.2.1 p hp.1 hp.2).2.rR
theorem NtA.rlm (h : NtA sh rv iv b) (hp : 0 ≤ p ∧ p < 6) : rv (lid b p) 5 = some (mid b p) := (h.2.2.1 p hp.1 hp.2).2.rM
theorem NtA.rlw (h : NtA sh rv iv b) (hp : 0 ≤ p ∧ p < 6) : rv (lid b p) 1 = some (12 + 42 * b) := (h.2.2.1 p hp.1 hp.2).2.2.1
theorem NtA.ss (h : NtA sh rv iv b) (hp : 0 ≤ p ∧ p < 6) : sh[sid b p]? = some (3, 9) := (h.2.2.1 p hp.1 hp.2).2.sS.1
theorem NtA.sr (h : NtA sh rv iv b) (hp : 0 ≤ p ∧ p < 6) : sh[rid b p]? = some (3, 9) := (h.2.2.1 p hp.1 hp.2).2.sR.1
theorem NtA.sm (h : NtA sh rv iv b) (hp : 0 ≤ p ∧ p < 6) : sh[mid b p]? = some (3, 2) := (h.2.2.1 p hp.1 hp.2).2.sM.1
theorem NtA.no (h : NtA sh rv iv b) (hp : 0 ≤ p ∧ p < 6) : (uA (CD iv b D O T S K C) (12 + 42 * b) w) (lid b p) 0 = p := by
  have g := h.lk (D := D) (O := O) (T := T) (S := S) (K := K) (C := C) hp
  exact g.no w
theorem x_frame (hN : NtA sh rv iv b) (hR : Rel w N) (k : R (some (aI (N 368))) sh (uA (CD iv b D O T S K C) (12 + 42 * b) w) lw rv) : wp (d) mX4_frame 0 [some (aR (11 + 42 * b))] [] sh (uA (CD iv b D O T S K C) (12 + 42 * b) w) lw rv 0 0 R := by
  refine wp_aload_n dX4_frame_0 rfl ?_
  refine wp_getR hN.r11w dX4_frame_1 fX4_13 hN.s11 ?_
  refine wp_iconst dX4_frame_4 ?_
  refine wp_iald dX4_frame_5 hN.s12 (by omega) (by omega) ?_
  rw [CSw]
  rw [hR.2.1]
  refine wp_ireturn dX4_frame_6 rfl ?_
  exact k
theorem x_autoNow (hN : NtA sh rv iv b) (hR : Rel w N) (k : R (some (aI (N 367))) sh (uA (CD iv b D O T S K C) (12 + 42 * b) w) lw rv) : wp (d) mX4_autoNow 0 [some (aR (11 + 42 * b))] [] sh (uA (CD iv b D O T S K C) (12 + 42 * b) w) lw rv 0 0 R := by
  refine wp_aload_n dX4_autoNow_0 rfl ?_
  refine wp_getR hN.r11w dX4_autoNow_1 fX4_13 hN.s11 ?_
  refine wp_iconst dX4_autoNow_4 ?_
  refine wp_iald dX4_autoNow_5 hN.s12 (by omega) (by omega) ?_
  rw [CSw]
  rw [hR.2.2.1]
  refine wp_ireturn dX4_autoNow_6 rfl ?_
  exact k
theorem x_jammedBits (hN : NtA sh rv iv b) (hR : Rel w N) (k : R (some (aI (N 366))) sh (uA (CD iv b D O T S K C) (12 + 42 * b) w) lw rv) : wp (d) mX4_jammedBits 0 [some (aR (11 + 42 * b))] [] sh (uA (CD iv b D O T S K C) (12 + 42 * b) w) lw rv 0 0 R := by
  refine wp_aload_n dX4_jammedBits_0 rfl ?_
  refine wp_getR hN.r11w dX4_jammedBits_1 fX4_13 hN.s11 ?_
  refine wp_iconst dX4_jammedBits_4 ?_
  refine wp_iald dX4_jammedBits_5 hN.s12 (by omega) (by omega) ?_
  rw [CSw]
  rw [hR.2.2.2]
  refine wp_ireturn dX4_jammedBits_6 rfl ?_
  exact k
theorem Rel.u0 {v : Int} (h : Rel w N) : Rel (up w 0 v) (up N 368 v) := by
  refine ⟨fun a k h1 h2 h3 => ?_, ?_, ?_, ?_⟩
  · have := cmk_r h3; have h3' := h3; unfold vis at h3'; rw [up_n (by omega), up_n (by omega)]; exact h.1 a k h1 h2 h3
  · rw [up_s, up_s]
  · rw [up_n (by omega), up_n (by omega)]; exact h.2.2.1
  · rw [up_n (by omega), up_n (by omega)]; exact h.2.2.2
theorem Rel.u1 {v : Int} (h : Rel w N) : Rel (up w 1 v) (up N 367 v) := by
  refine ⟨fun a k h1 h2 h3 => ?_, ?_, ?_, ?_⟩
  · have := cmk_r h3; have h3' := h3; unfold vis at h3'; rw [up_n (by omega), up_n (by omega)]; exact h.1 a k h1 h2 h3
  · rw [up_n (by omega), up_n (by omega)]; exact h.2.1
  · rw [up_s, up_s]
  · rw [up_n (by omega), up_n (by omega)]; exact h.2.2.2
theorem Rel.u2 {v : Int} (h : Rel w N) : Rel (up w 2 v) (up N 366 v) := by
  refine ⟨fun a k h1 h2 h3 => ?_, ?_, ?_, ?_⟩
  · have := cmk_r h3; have h3' := h3; unfold vis at h3'; rw [up_n (by omega), up_n (by omega)]; exact h.1 a k h1 h2 h3
  · rw [up_n (by omega), up_n (by omega)]; exact h.2.1
  · rw [up_n (by omega), up_n (by omega)]; exact h.2.2.1
  · rw [up_s, up_s]
theorem x_goToNextFrame (hN : NtA sh rv iv b) (hR : Rel w N) (hf : 0 ≤ N 368 ∧ N 368 ≤ 20000) (k : ∀ w', Rel w' (up N 368 (N 368 + 1)) → R none sh (uA (CD iv b D O T S K C) (12 + 42 * b) w') lw rv) : wp (d) mX4_goToNextFrame 0 [some (aR (11 + 42 * b))] [] sh (uA (CD iv b D O T S K C) (12 + 42 * b) w) lw rv 0 0 R := by
  refine wp_aload_n dX4_goToNextFrame_0 rfl ?_
  refine wp_getR hN.r11w dX4_goToNextFrame_1 fX4_13 hN.s11 ?_
  refine wp_iconst dX4_goToNextFrame_4 ?_
  refine wp_dup2 dX4_goToNextFrame_5 rfl rfl ?_
  refine wp_iald dX4_goToNextFrame_6 hN.s12 (by omega) (by omega) ?_
  rw [CSw]
  rw [hR.2.1]
  refine wp_iconst dX4_goToNextFrame_7 ?_
  refine wp_iadd dX4_goToNextFrame_8 ⟨by omega, by omega⟩ ?_
  refine wp_iast dX4_goToNextFrame_9 hN.s12 (by omega) (by omega) ?_
  rw [CSuw]
  refine wp_return dX4_goToNextFrame_10 rfl ?_
  exact k _ hR.u0
theorem x_turnAuto (hN : NtA sh rv iv b) (hR : Rel w N) (hf : N 367 = 0 ∨ N 367 = 1) (k : ∀ w', Rel w' (up N 367 (1 - N 367)) → R none sh (uA (CD iv b D O T S K C) (12 + 42 * b) w') lw rv) : wp (d) mX4_turnAuto 0 [some (aR (11 + 42 * b))] [] sh (uA (CD iv b D O T S K C) (12 + 42 * b) w) lw rv 0 0 R := by
  refine wp_aload_n dX4_turnAuto_0 rfl ?_
  refine wp_getR hN.r11w dX4_turnAuto_1 fX4_13 hN.s11 ?_
  refine wp_iconst dX4_turnAuto_4 ?_
  refine wp_iconst dX4_turnAuto_5 ?_
  refine wp_aload_n dX4_turnAuto_6 rfl ?_
  refine wp_getR hN.r11w dX4_turnAuto_7 fX4_13 hN.s11 ?_
  refine wp_iconst dX4_turnAuto_10 ?_
  refine wp_iald dX4_turnAuto_11 hN.s12 (by omega) (by omega) ?_
  rw [CSw]
  rw [hR.2.2.1]
  refine wp_isub dX4_turnAuto_12 ⟨by omega, by omega⟩ ?_
  refine wp_iast dX4_turnAuto_13 hN.s12 (by omega) (by omega) ?_
  rw [CSuw]
  refine wp_return dX4_turnAuto_14 rfl ?_
  exact k _ hR.u1
theorem x_turnJam {c : Int} (hN : NtA sh rv iv b) (hR : Rel w N) (hj : 0 ≤ N 366) (hc : 0 ≤ c ∧ c < 16) (k : ∀ w', Rel w' (up N 366 ((((N 366).toNat ^^^ ((1 * 2 ^ c.toNat : Int)).toNat : Nat) : Int))) → R none sh (uA (CD iv b D O T S K C) (12 + 42 * b) w') lw rv) : wp (d) mX4_turnJam 0 [some (aR (11 + 42 * b)), some (aI c)] [] sh (uA (CD iv b D O T S K C) (12 + 42 * b) w) lw rv 0 0 R := by
  have h2 := p2_r hc
  refine wp_aload_n dX4_turnJam_0 rfl ?_
  refine wp_getR hN.r11w dX4_turnJam_1 fX4_13 hN.s11 ?_
  refine wp_iconst dX4_turnJam_4 ?_
  refine wp_dup2 dX4_turnJam_5 rfl rfl ?_
  refine wp_iald dX4_turnJam_6 hN.s12 (by omega) (by omega) ?_
  rw [CSw]
  rw [hR.2.2.2]
  refine wp_iconst dX4_turnJam_7 ?_
  refine wp_iload_n dX4_turnJam_8 rfl ?_
  refine wp_ishl dX4_turnJam_9 (by omega) (by omega) (by exact ⟨by omega, by omega⟩) ?_
  refine wp_ixor dX4_turnJam_10 (by omega) (by omega) ?_
  refine wp_iast dX4_turnJam_11 hN.s12 (by omega) (by omega) ?_
  rw [CSuw]
  refine wp_return dX4_turnJam_12 rfl ?_
  exact k _ hR.u2
theorem x_isJammed {c : Int} (hN : NtA sh rv iv b) (hR : Rel w N) (hj : 0 ≤ N 366) (hc : 0 ≤ c ∧ c < 32) (kt : bt (N 366) c → R (some (aI 1)) sh (uA (CD iv b D O T S K C) (12 + 42 * b) w) lw rv) (kf : ¬ bt (N 366) c → R (some (aI 0)) sh (uA (CD iv b D O T S K C) (12 + 42 * b) w) lw rv) : wp (d) mX4_isJammed 0 [some (aR (11 + 42 * b)), some (aI c)] [] sh (uA (CD iv b D O T S K C) (12 + 42 * b) w) lw rv 0 0 R := by
  have hnn := bt_nn (k := c) hj
  refine wp_aload_n dX4_isJammed_0 rfl ?_
  refine wp_getR hN.r11w dX4_isJammed_1 fX4_13 hN.s11 ?_
  refine wp_iconst dX4_isJammed_4 ?_
  refine wp_iald dX4_isJammed_5 hN.s12 (by omega) (by omega) ?_
  rw [CSw]
  rw [hR.2.2.2]
  refine wp_iload_n dX4_isJammed_6 rfl ?_
  refine wp_ishr dX4_isJammed_7 (by omega) (by omega) ?_
  refine wp_iconst dX4_isJammed_8 ?_
  refine wp_iand dX4_isJammed_9 (by first | exact hnn | decide) (by first | exact hnn | decide) ?_
  refine wp_iconst dX4_isJammed_10 ?_
  refine wp_icmp_ne (tgt := 18) dX4_isJammed_11 rfl (fun h11 => ?_) (fun h11 => ?_)
  · refine wp_iconst dX4_isJammed_18 ?_
    refine wp_zreturn dX4_isJammed_19 rfl (Or.inl rfl) ?_
    exact kf (by assumption)
  · refine wp_iconst dX4_isJammed_14 ?_
    refine wp_goto (tgt := 19) dX4_isJammed_15 rfl ?_
    refine wp_zreturn dX4_isJammed_19 rfl (Or.inr rfl) ?_
    exact kt (by assumption)
/-- what the pairs below p have taken at a node -/
def TkB (N pa : Int → Int) (nd p : Int) : Int → Prop := Tkn N pa p nd
theorem TkB0 {N pa : Int → Int} {nd s : Int} : TkB N pa nd 0 s ↔ False := ⟨fun ⟨p, q, h1, h2, _⟩ => by omega, False.elim⟩
theorem TkB1 {N pa : Int → Int} {nd p s : Int} (hp : 0 ≤ p) : TkB N pa nd (p + 1) s ↔ TkB N pa nd p s ∨ (pa (4 * p + 0) = nd ∧ sdT N p 0 s) ∨ (pa (4 * p + 1) = nd ∧ sdT N p 1 s) := by
  constructor
  · rintro ⟨a, q, h1, h2, h3, h4, h5⟩
    by_cases e : a = p
    · subst e
      rcases h3 with rfl | rfl
      · exact Or.inr (Or.inl ⟨h4, h5⟩)
      · exact Or.inr (Or.inr ⟨h4, h5⟩)
    · exact Or.inl ⟨a, q, h1, by omega, h3, h4, h5⟩
  · rintro (⟨a, q, h1, h2, h3, h4, h5⟩ | ⟨h4, h5⟩ | ⟨h4, h5⟩)
    · exact ⟨a, q, h1, by omega, h3, h4, h5⟩
    · exact ⟨p, 0, hp, by omega, Or.inl rfl, h4, h5⟩
    · exact ⟨p, 1, hp, by omega, Or.inr rfl, h4, h5⟩
theorem l_takenAt {nd : Int} (hN : NtA sh rv iv b) (hl : PlA sh rv iv E F) (hP : Prm E F) (hR : Rel w N) (hB : Bok (E 5 0) (E 5 1) N) (k : ∀ x, Bts x (Tkn N (E 6) (F 13) nd) → R (some (aI x)) sh (uA (CD iv b D O T S K C) (12 + 42 * b) w) lw rv) (m : Nat) : ∀ p x : Int, 0 ≤ p → p + m = F 13 → Bts x (TkB N (E 6) nd p) → wp (d + 1) mX4_takenAt 4 [some (aR (11 + 42 * b)), some (aI nd), some (aI x), some (aI p)] [] sh (uA (CD iv b D O T S K C) (12 + 42 * b) w) lw rv 0 0 R := by
  obtain ⟨hW1, hW2, hO1, hO2, hT1, hT2, hI1, hI2, hF1, hF2⟩ := id hP
  induction m with
  | zero =>
    intro p x h0 hm hx
    have ej : p = F 13 := by omega
    refine wp_iload_n dX4_takenAt_4 rfl ?_
    refine wp_aload_n dX4_takenAt_5 rfl ?_
    refine wp_getR hN.r11p dX4_takenAt_6 fX4_21 hN.s11 ?_
    refine wp_callV (as := []) (ls0 := [_]) (kc := 0) (ks := 0) (bc' := 0) (bs' := 0) dX4_takenAt_9 vX4_40 hl.1 rfl rfl (Nat.le_of_ble_eq_true rfl) (Nat.le_of_ble_eq_true rfl) (by omega) (by omega) ?_
    refine n_pairs (hN.pl hl) ?_
    refine wp_icmp_ge (tgt := 77) dX4_takenAt_12 rfl (fun h12 => ?_) (fun h12 => by exfalso; omega)
    refine wp_iload_n dX4_takenAt_77 rfl ?_
    refine wp_ireturn dX4_takenAt_78 rfl ?_
    rw [ej] at hx
    exact k _ hx
  | succ m ih =>
    intro p x h0 hm hx
    have hp : 0 ≤ p ∧ p < 6 := by omega
    have hx1 := hx.1
    refine wp_iload_n dX4_takenAt_4 rfl ?_
    refine wp_aload_n dX4_takenAt_5 rfl ?_
    refine wp_getR hN.r11p dX4_takenAt_6 fX4_21 hN.s11 ?_
    refine wp_callV (as := []) (ls0 := [_]) (kc := 0) (ks := 0) (bc' := 0) (bs' := 0) dX4_takenAt_9 vX4_40 hl.1 rfl rfl (Nat.le_of_ble_eq_true rfl) (Nat.le_of_ble_eq_true rfl) (by omega) (by omega) ?_
    refine n_pairs (hN.pl hl) ?_
    refine wp_icmp_ge (tgt := 77) dX4_takenAt_12 rfl (fun h12 => by exfalso; omega) (fun h12 => ?_)
    refine wp_aload_n dX4_takenAt_15 rfl ?_
    refine wp_getR hN.r11p dX4_takenAt_16 fX4_21 hN.s11 ?_
    refine wp_iload_n dX4_takenAt_19 rfl ?_
    refine wp_iconst dX4_takenAt_20 ?_
    refine wp_callV (as := [_, _]) (ls0 := [_, _, _]) (kc := 0) (ks := 0) (bc' := 0) (bs' := 0) dX4_takenAt_21 vX4_44 hl.1 rfl rfl (Nat.le_of_ble_eq_true rfl) (Nat.le_of_ble_eq_true rfl) (by omega) (by omega) ?_
    refine n_itemOf (by omega) (by omega) (by omega) (hN.pl hl) ?_
    refine wp_iload_n dX4_takenAt_24 rfl ?_
    refine wp_icmp_ne (tgt := 43) dX4_takenAt_25 rfl (fun h25 => ?_) (fun h25 => ?_)
    · refine wp_aload_n dX4_takenAt_43 rfl ?_
      refine wp_getR hN.r11p dX4_takenAt_44 fX4_21 hN.s11 ?_
      refine wp_iload_n dX4_takenAt_47 rfl ?_
      refine wp_iconst dX4_takenAt_48 ?_
      refine wp_callV (as := [_, _]) (ls0 := [_, _, _]) (kc := 0) (ks := 0) (bc' := 0) (bs' := 0) dX4_takenAt_49 vX4_44 hl.1 rfl rfl (Nat.le_of_ble_eq_true rfl) (Nat.le_of_ble_eq_true rfl) (by omega) (by omega) ?_
      refine n_itemOf (by omega) (by omega) (by omega) (hN.pl hl) ?_
      refine wp_iload_n dX4_takenAt_52 rfl ?_
      refine wp_icmp_ne (tgt := 71) dX4_takenAt_53 rfl (fun h53 => ?_) (fun h53 => ?_)
      · refine wp_iinc (ls' := [_, _, _, _]) dX4_takenAt_71 (by decide) rfl rfl ⟨by omega, by omega⟩ rfl ?_
        refine wp_goto (tgt := 4) dX4_takenAt_74 rfl ?_
        refine ih _ _ (by omega) (by omega) ?_
        first
        | exact ((hx.or hx38).or hx66).cg (fun s _ _ => by rw [TkB1 h0, or_assoc]; simp only [h25, h53, true_and])
        | exact (hx.or hx38).cg (fun s _ _ => by rw [TkB1 h0]; simp only [h25, h53, true_and, false_and, or_false])
        | exact (hx.or hx66).cg (fun s _ _ => by rw [TkB1 h0]; simp only [h25, h53, true_and, false_and, false_or])
        | exact hx.cg (fun s _ _ => by rw [TkB1 h0]; simp only [h25, h53, false_and, or_false])
      · refine wp_iload_n dX4_takenAt_56 rfl ?_
        refine wp_aload_n dX4_takenAt_57 rfl ?_
        refine wp_getR hN.r11l dX4_takenAt_58 fX4_17 hN.s11 ?_
        refine wp_iload_n dX4_takenAt_61 rfl ?_
        refine wp_aaldL dX4_takenAt_62 hN.s13 (by omega) (by omega) (hN.r13 hp) ?_
        refine wp_getR (hN.rlr hp) dX4_takenAt_63 fX4_74 (hN.sl hp) ?_
        refine wp_callV (as := []) (ls0 := [_, _, _, _, _]) (kc := 0) (ks := 0) (bc' := 0) (bs' := 0) dX4_takenAt_66 vX4_69 (hN.sr hp) rfl rfl (Nat.le_of_ble_eq_true rfl) (Nat.le_of_ble_eq_true rfl) (by omega) (by omega) ?_
        refine c_takenSlots (hN.lk hp).sR hR hB hW2 (fun x66 hx66 => ?_)
        refine wp_ior dX4_takenAt_69 (by first | exact hx1 | exact hx66.1 | exact (hx.or hx38).1) (by first | exact hx1 | exact hx66.1 | exact (hx.or hx38).1) ?_
        refine wp_istore_n (ls' := [_, _, _, _]) dX4_takenAt_70 (by decide) rfl rfl ?_
        refine wp_iinc (ls' := [_, _, _, _]) dX4_takenAt_71 (by decide) rfl rfl ⟨by omega, by omega⟩ rfl ?_
        refine wp_goto (tgt := 4) dX4_takenAt_74 rfl ?_
        refine ih _ _ (by omega) (by omega) ?_
        first
        | exact ((hx.or hx38).or hx66).cg (fun s _ _ => by rw [TkB1 h0, or_assoc]; simp only [h25, h53, true_and])
        | exact (hx.or hx38).cg (fun s _ _ => by rw [TkB1 h0]; simp only [h25, h53, true_and, false_and, or_false])
        | exact (hx.or hx66).cg (fun s _ _ => by rw [TkB1 h0]; simp only [h25, h53, true_and, false_and, false_or])
        | exact hx.cg (fun s _ _ => by rw [TkB1 h0]; simp only [h25, h53, false_and, or_false])
    · refine wp_iload_n dX4_takenAt_28 rfl ?_
      refine wp_aload_n dX4_takenAt_29 rfl ?_
      refine wp_getR hN.r11l dX4_takenAt_30 fX4_17 hN.s11 ?_
      refine wp_iload_n dX4_takenAt_33 rfl ?_
      refine wp_aaldL dX4_takenAt_34 hN.s13 (by omega) (by omega) (hN.r13 hp) ?_
      refine wp_getR (hN.rls hp) dX4_takenAt_35 fX4_65 (hN.sl hp) ?_
      refine wp_callV (as := []) (ls0 := [_, _, _, _, _]) (kc := 0) (ks := 0) (bc' := 0) (bs' := 0) dX4_takenAt_38 vX4_69 (hN.ss hp) rfl rfl (Nat.le_of_ble_eq_true rfl) (Nat.le_of_ble_eq_true rfl) (by omega) (by omega) ?_
      refine c_takenSlots (hN.lk hp).sS hR hB hW2 (fun x38 hx38 => ?_)
      refine wp_ior dX4_takenAt_41 (by first | exact hx1 | exact hx38.1) (by first | exact hx1 | exact hx38.1) ?_
      refine wp_istore_n (ls' := [_, _, _, _]) dX4_takenAt_42 (by decide) rfl rfl ?_
      refine wp_aload_n dX4_takenAt_43 rfl ?_
      refine wp_getR hN.r11p dX4_takenAt_44 fX4_21 hN.s11 ?_
      refine wp_iload_n dX4_takenAt_47 rfl ?_
      refine wp_iconst dX4_takenAt_48 ?_
      refine wp_callV (as := [_, _]) (ls0 := [_, _, _]) (kc := 0) (ks := 0) (bc' := 0) (bs' := 0) dX4_takenAt_49 vX4_44 hl.1 rfl rfl (Nat.le_of_ble_eq_true rfl) (Nat.le_of_ble_eq_true rfl) (by omega) (by omega) ?_
      refine n_itemOf (by omega) (by omega) (by omega) (hN.pl hl) ?_
      refine wp_iload_n dX4_takenAt_52 rfl ?_
      refine wp_icmp_ne (tgt := 71) dX4_takenAt_53 rfl (fun h53 => ?_) (fun h53 => ?_)
      · refine wp_iinc (ls' := [_, _, _, _]) dX4_takenAt_71 (by decide) rfl rfl ⟨by omega, by omega⟩ rfl ?_
        refine wp_goto (tgt := 4) dX4_takenAt_74 rfl ?_
        refine ih _ _ (by omega) (by omega) ?_
        first
        | exact ((hx.or hx38).or hx66).cg (fun s _ _ => by rw [TkB1 h0, or_assoc]; simp only [h25, h53, true_and])
        | exact (hx.or hx38).cg (fun s _ _ => by rw [TkB1 h0]; simp only [h25, h53, true_and, false_and, or_false])
        | exact (hx.or hx66).cg (fun s _ _ => by rw [TkB1 h0]; simp only [h25, h53, true_and, false_and, false_or])
        | exact hx.cg (fun s _ _ => by rw [TkB1 h0]; simp only [h25, h53, false_and, or_false])
      · refine wp_iload_n dX4_takenAt_56 rfl ?_
        refine wp_aload_n dX4_takenAt_57 rfl ?_
        refine wp_getR hN.r11l dX4_takenAt_58 fX4_17 hN.s11 ?_
        refine wp_iload_n dX4_takenAt_61 rfl ?_
        refine wp_aaldL dX4_takenAt_62 hN.s13 (by omega) (by omega) (hN.r13 hp) ?_
        refine wp_getR (hN.rlr hp) dX4_takenAt_63 fX4_74 (hN.sl hp) ?_
        refine wp_callV (as := []) (ls0 := [_, _, _, _, _]) (kc := 0) (ks := 0) (bc' := 0) (bs' := 0) dX4_takenAt_66 vX4_69 (hN.sr hp) rfl rfl (Nat.le_of_ble_eq_true rfl) (Nat.le_of_ble_eq_true rfl) (by omega) (by omega) ?_
        refine c_takenSlots (hN.lk hp).sR hR hB hW2 (fun x66 hx66 => ?_)
        refine wp_ior dX4_takenAt_69 (by first | exact hx1 | exact hx66.1 | exact (hx.or hx38).1) (by first | exact hx1 | exact hx66.1 | exact (hx.or hx38).1) ?_
        refine wp_istore_n (ls' := [_, _, _, _]) dX4_takenAt_70 (by decide) rfl rfl ?_
        refine wp_iinc (ls' := [_, _, _, _]) dX4_takenAt_71 (by decide) rfl rfl ⟨by omega, by omega⟩ rfl ?_
        refine wp_goto (tgt := 4) dX4_takenAt_74 rfl ?_
        refine ih _ _ (by omega) (by omega) ?_
        first
        | exact ((hx.or hx38).or hx66).cg (fun s _ _ => by rw [TkB1 h0, or_assoc]; simp only [h25, h53, true_and])
        | exact (hx.or hx38).cg (fun s _ _ => by rw [TkB1 h0]; simp only [h25, h53, true_and, false_and, or_false])
        | exact (hx.or hx66).cg (fun s _ _ => by rw [TkB1 h0]; simp only [h25, h53, true_and, false_and, false_or])
        | exact hx.cg (fun s _ _ => by rw [TkB1 h0]; simp only [h25, h53, false_and, or_false])
theorem x_takenAt {nd : Int} (hN : NtA sh rv iv b) (hl : PlA sh rv iv E F) (hP : Prm E F) (hR : Rel w N) (hB : Bok (E 5 0) (E 5 1) N) (k : ∀ x, Bts x (Tkn N (E 6) (F 13) nd) → R (some (aI x)) sh (uA (CD iv b D O T S K C) (12 + 42 * b) w) lw rv) : wp (d + 1) mX4_takenAt 0 [some (aR (11 + 42 * b)), some (aI nd), none, none] [] sh (uA (CD iv b D O T S K C) (12 + 42 * b) w) lw rv 0 0 R := by
  obtain ⟨hW1, hW2, hO1, hO2, hT1, hT2, hI1, hI2, hF1, hF2⟩ := id hP
  refine wp_iconst dX4_takenAt_0 ?_
  refine wp_istore_n (ls' := [_, _, _, _]) dX4_takenAt_1 (by decide) rfl rfl ?_
  refine wp_iconst dX4_takenAt_2 ?_
  refine wp_istore_n (ls' := [_, _, _, _]) dX4_takenAt_3 (by decide) rfl rfl ?_
  exact l_takenAt hN hl hP hR hB k (F 13).toNat _ _ (by omega) (by omega) (Bts.zero.cg (fun s _ _ => TkB0.symm))
end C6
