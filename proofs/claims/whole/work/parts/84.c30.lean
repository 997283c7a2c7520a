section C30a
variable {d pc bc bs m : Nat} {M : aMth} {ls : List (Option aV)} {st : List aV} {sh : aSh} {iv lw E : aF} {rv : aP} {F N : Int → Int} {R : aPost} {c : Int}
theorem Sim.hm (h : Sim c m sh iv rv E F N) : HmA sh rv := h.1.1.1
theorem Sim.tp (h : Sim c m sh iv rv E F N) : TpA sh rv := h.1.1.2.1
theorem Sim.pls (h : Sim c m sh iv rv E F N) : PlS sh rv := h.1.1.2.2.1
theorem Sim.rd (h : Sim c m sh iv rv E F N) : RdA sh rv := h.1.1.2.2.2.1
theorem Sim.n0 (h : Sim c m sh iv rv E F N) : NtA sh rv iv 0 := h.1.1.2.2.2.2.1
theorem Sim.n1 (h : Sim c m sh iv rv E F N) : NtA sh rv iv 1 := h.1.1.2.2.2.2.2.1
theorem Sim.ot (h : Sim c m sh iv rv E F N) : OtA sh rv := h.1.1.2.2.2.2.2.2.1
theorem Sim.ps (h : Sim c m sh iv rv E F N) : PsA sh rv := h.1.1.2.2.2.2.2.2.2
theorem Sim.made (h : Sim c m sh iv rv E F N) : Made sh rv m := h.1.2
theorem Sim.plan (h : Sim c m sh iv rv E F N) : PlA sh rv iv E F := h.2.1
theorem Sim.rel (h : Sim c m sh iv rv E F N) : Rel (iv 12) N := h.2.2.1
theorem Sim.z0 (h : Sim c m sh iv rv E F N) : ZK (iv 42) := h.2.2.2.1.1
theorem Sim.z1 (h : Sim c m sh iv rv E F N) : ZK (iv 84) := h.2.2.2.1.2
theorem Sim.tpr (h : Sim c m sh iv rv E F N) : TpR iv (E 1) (F 2) := h.2.2.2.2.1
theorem Sim.rfr (h : Sim c m sh iv rv E F N) : RfR c iv E := h.2.2.2.2.2.1
theorem Sim.los (h : Sim c m sh iv rv E F N) : iv 0 9 = F 17 ∧ 0 ≤ F 17 ∧ F 17 ≤ 9 := h.2.2.2.2.2.2.1
theorem Sim.psr (h : Sim c m sh iv rv E F N) : PsR m iv E F N := h.2.2.2.2.2.2.2.1
theorem Sim.tld (h : Sim c m sh iv rv E F N) : Tld E F N := h.2.2.2.2.2.2.2.2.1
theorem Sim.nne (h : Sim c m sh iv rv E F N) : Nne E F := h.2.2.2.2.2.2.2.2.2
theorem Sim.f13 (h : Sim c m sh iv rv E F N) : 0 ≤ F 13 ∧ F 13 ≤ 6 := h.tld.1
theorem Sim.prm2 (h : Sim c m sh iv rv E F N) : Prm2 E F := h.tld.2.1
theorem Sim.n9 (h : Sim c m sh iv rv E F N) : 0 ≤ N 369 ∧ N 369 ≤ 60 := h.tld.2.2.1
theorem Sim.n8 (h : Sim c m sh iv rv E F N) : 0 ≤ N 368 ∧ N 368 ≤ 9999 := h.tld.2.2.2.1
theorem Sim.f25 (h : Sim c m sh iv rv E F N) : 0 ≤ F 25 ∧ F 25 ≤ 40 := h.tld.2.2.2.2.2.1
theorem Sim.prm (h : Sim c m sh iv rv E F N) (h13 : 0 < F 13) : Prm E F := (h.tld.2.2.2.2.2.2 h13).1
theorem Sim.inv (h : Sim c m sh iv rv E F N) (h13 : 0 < F 13) : Inv E F N := (h.tld.2.2.2.2.2.2 h13).2
theorem Sim.bok (h : Sim c m sh iv rv E F N) (h13 : 0 < F 13) : Bok (E 5 0) (E 5 1) N := (h.inv h13).1
theorem NtA.lk0 {b : Nat} {p : Int} (h : NtA sh rv iv b) (hp : 0 ≤ p ∧ p < 6) : LkA sh iv rv (lid b p) (12 + 42 * b) (sid b p) (rid b p) (mid b p) p := (h.2.2.1 p hp.1 hp.2).2
theorem id12 : uA iv (12 + 42 * 0) (iv 12) = iv := uA_id
theorem CS0id : uA (CD iv 0 (iv 38) (iv 39) (iv 40) (iv 43) (iv 42) (iv 44)) (12 + 42 * 0) (iv 12) = iv := by
  funext i j
  unfold uA CD
  (repeat' split) <;> first | rfl | (rename_i h; subst h; rfl)
theorem CS1id : uA (CD iv 1 (iv 81) (iv 82) (iv 83) (iv 85) (iv 84) (iv 86)) (12 + 42 * 1) (iv 54) = iv := by
  funext i j
  unfold uA CD
  (repeat' split) <;> first | rfl | (rename_i h; subst h; rfl)
theorem CRQ_id : CR iv (RQ (iv 7) (iv 7 4) (iv 7 5) (iv 7 6) (iv 7 7) (iv 7 8)) (iv 8) (iv 9) (iv 10) = iv := by
  have e : RQ (iv 7) (iv 7 4) (iv 7 5) (iv 7 6) (iv 7 7) (iv 7 8) = iv 7 := by unfold RQ; rw [up_id, up_id, up_id, up_id, up_id]
  rw [e]; unfold CR; rw [uA_id, uA_id, uA_id, uA_id]
theorem fl12 (k : wp d M pc ls st sh (uA iv (12 + 42 * 0) (iv 12)) lw rv bc bs R) : wp d M pc ls st sh iv lw rv bc bs R := by rw [id12] at k; exact k
theorem fl0 (k : wp d M pc ls st sh (uA (CD iv 0 (iv 38) (iv 39) (iv 40) (iv 43) (iv 42) (iv 44)) (12 + 42 * 0) (iv 12)) lw rv bc bs R) : wp d M pc ls st sh iv lw rv bc bs R := by rw [CS0id] at k; exact k
theorem fl1 (k : wp d M pc ls st sh (uA (CD iv 1 (iv 81) (iv 82) (iv 83) (iv 85) (iv 84) (iv 86)) (12 + 42 * 1) (iv 54)) lw rv bc bs R) : wp d M pc ls st sh iv lw rv bc bs R := by rw [CS1id] at k; exact k
theorem flP (k : wp d M pc ls st sh (PW iv (iv 45) (iv 46) (iv 48) (iv 12) (iv 49) (iv 50)) lw rv bc bs R) : wp d M pc ls st sh iv lw rv bc bs R := by rw [PW_id] at k; exact k
theorem flT (k : wp d M pc ls st sh (TW iv (iv 1) (iv 2)) lw rv bc bs R) : wp d M pc ls st sh iv lw rv bc bs R := by rw [TW_id] at k; exact k
theorem flR (k : wp d M pc ls st sh (CR iv (RQ (iv 7) (iv 7 4) (iv 7 5) (iv 7 6) (iv 7 7) (iv 7 8)) (iv 8) (iv 9) (iv 10)) lw rv bc bs R) : wp d M pc ls st sh iv lw rv bc bs R := by rw [CRQ_id] at k; exact k
end C30a
section C30
variable {d m : Nat} {sh : aSh} {iv lw E : aF} {rv : aP} {F N : Int → Int} {R : aPost} {c : Int}
theorem y_rule {w : Int} (hS : Sim c m sh iv rv E F N) (k : R (some (aI (aRule E F N w))) sh iv lw rv) : wp (d + 2) mX11_rule 0 [some (aR 0), some (aI w)] [] sh iv lw rv 0 0 R := by
  have hf13 := hS.f13
  unfold aRule at k
  refine wp_aload_n dX11_rule_0 rfl ?_
  refine wp_getR hS.hm.2.2.1 dX11_rule_1 fX11_19 hS.hm.1 ?_
  refine wp_callV (as := []) (ls0 := [_]) (kc := 0) (ks := 0) (bc' := 0) (bs' := 0) dX11_rule_4 vX11_123 hS.pls.1 rfl rfl (Nat.le_of_ble_eq_true rfl) (Nat.le_of_ble_eq_true rfl) (by omega) (by omega) ?_
  refine n_isTold hS.plan (fun h4 => ?_) (fun h4 => ?_)
  · refine wp_if_ne (tgt := 12) dX11_rule_7 rfl (fun _ => ?_) (fun q => absurd q (by decide))
    refine wp_iload_n dX11_rule_12 rfl ?_
    refine wp_iconst dX11_rule_13 ?_
    refine wp_icmp_ne (tgt := 27) dX11_rule_14 rfl (fun h14 => ?_) (fun h14 => ?_)
    · refine wp_aload_n dX11_rule_27 rfl ?_
      refine wp_getR hS.hm.2.2.1 dX11_rule_28 fX11_19 hS.hm.1 ?_
      refine wp_iload_n dX11_rule_31 rfl ?_
      refine wp_callV (as := [_]) (ls0 := [_, _]) (kc := 0) (ks := 0) (bc' := 0) (bs' := 0) dX11_rule_32 vX11_130 hS.pls.1 rfl rfl (Nat.le_of_ble_eq_true rfl) (Nat.le_of_ble_eq_true rfl) (by omega) (by omega) ?_
      refine n_ruleOf hS.plan ?_
      refine wp_ireturn dX11_rule_35 rfl ?_
      (repeat' split at k) <;> (repeat' split) <;> first | exact k | (exfalso; omega)
    · refine wp_aload_n dX11_rule_17 rfl ?_
      refine wp_getR hS.hm.2.2.2.2.1 dX11_rule_18 fX11_37 hS.hm.1 ?_
      refine wp_callV (as := []) (ls0 := [_]) (kc := 0) (ks := 0) (bc' := 0) (bs' := 0) dX11_rule_21 vX11_127 hS.n0.s11 rfl rfl (Nat.le_of_ble_eq_true rfl) (Nat.le_of_ble_eq_true rfl) (by omega) (by omega) ?_
      refine fl0 ?_
      refine x_autoNow (b := 0) hS.n0 hS.rel ?_
      rw [CS0id]
      refine wp_goto (tgt := 35) dX11_rule_24 rfl ?_
      refine wp_ireturn dX11_rule_35 rfl ?_
      (repeat' split at k) <;> (repeat' split) <;> first | exact k | (exfalso; omega)
  · refine wp_if_ne (tgt := 12) dX11_rule_7 rfl (fun q => absurd q (by decide)) (fun _ => ?_)
    refine wp_iconst dX11_rule_10 ?_
    refine wp_ireturn dX11_rule_11 rfl ?_
    (repeat' split at k) <;> (repeat' split) <;> first | exact k | (exfalso; omega)
theorem y_cell {p s i w : Int} (hS : Sim c m sh iv rv E F N) (k : R (some (aI (aCell F N p s i w))) sh iv lw rv) : wp (d + 3) mX11_cell 0 [some (aR 0), some (aI p), some (aI s), some (aI i), some (aI w)] [] sh iv lw rv 0 0 R := by
  have hf13 := hS.f13
  unfold aCell at k
  refine wp_aload_n dX11_cell_0 rfl ?_
  refine wp_getR hS.hm.2.2.1 dX11_cell_1 fX11_19 hS.hm.1 ?_
  refine wp_iload_n dX11_cell_4 rfl ?_
  refine wp_callV (as := [_]) (ls0 := [_, _]) (kc := 0) (ks := 0) (bc' := 0) (bs' := 0) dX11_cell_5 vX11_133 hS.pls.1 rfl rfl (Nat.le_of_ble_eq_true rfl) (Nat.le_of_ble_eq_true rfl) (by omega) (by omega) ?_
  refine n_hasPair hS.plan (fun h5 => ?_) (fun h5 => ?_)
  · have hp : 0 ≤ p ∧ p < 6 := ⟨h5.1, by have := hS.f13; omega⟩
    have h13 : 0 < F 13 := by omega
    refine wp_if_ne (tgt := 13) dX11_cell_8 rfl (fun _ => ?_) (fun q => absurd q (by decide))
    refine wp_iload_n dX11_cell_13 rfl ?_
    refine wp_if_ne (tgt := 36) dX11_cell_14 rfl (fun h14 => ?_) (fun h14 => ?_)
    · refine wp_iload_n dX11_cell_36 rfl ?_
      refine wp_iconst dX11_cell_37 ?_
      refine wp_icmp_ne (tgt := 65) dX11_cell_38 rfl (fun h38 => ?_) (fun h38 => ?_)
      · refine wp_iconst dX11_cell_65 ?_
        refine wp_ireturn dX11_cell_66 rfl ?_
        rw [if_neg (fun z => z h5), if_neg h14] at k
        have em : N (61 * p + mq 1) = N (61 * p + 25) := rfl
        have eb : bq 1 = 19 := rfl
        try rw [em, eb]
        (repeat' split at k) <;> (repeat' split) <;> first | exact k | (exfalso; omega)
      · refine wp_iload dX11_cell_41 rfl ?_
        refine wp_if_ne (tgt := 65) dX11_cell_43 rfl (fun h43 => ?_) (fun h43 => ?_)
        · refine wp_iconst dX11_cell_65 ?_
          refine wp_ireturn dX11_cell_66 rfl ?_
          rw [if_neg (fun z => z h5), if_neg h14] at k
          have em : N (61 * p + mq 1) = N (61 * p + 25) := rfl
          have eb : bq 1 = 19 := rfl
          try rw [em, eb]
          (repeat' split at k) <;> (repeat' split) <;> first | exact k | (exfalso; omega)
        · refine wp_aload_n dX11_cell_46 rfl ?_
          refine wp_getR hS.hm.2.2.2.2.1 dX11_cell_47 fX11_37 hS.hm.1 ?_
          refine wp_getR hS.n0.r11l dX11_cell_50 fX11_143 hS.n0.s11 ?_
          refine wp_iload_n dX11_cell_53 rfl ?_
          refine wp_aaldL dX11_cell_54 hS.n0.s13 (by omega) (by omega) (hS.n0.r13 hp) ?_
          refine wp_getR (hS.n0.lk0 hp).rR dX11_cell_55 fX11_161 (hS.n0.lk0 hp).1 ?_
          refine wp_iload_n dX11_cell_58 rfl ?_
          refine wp_callV (as := [_]) (ls0 := [_, _]) (kc := 0) (ks := 0) (bc' := 0) (bs' := 0) dX11_cell_59 vX11_164 (hS.n0.lk0 hp).sR.1 rfl rfl (Nat.le_of_ble_eq_true rfl) (Nat.le_of_ble_eq_true rfl) (by omega) (by omega) ?_
          refine fl12 ?_
          refine c_numberAt (hS.n0.lk0 hp).sR hS.rel (hS.bok h13) ?_
          rw [id12]
          refine wp_goto (tgt := 66) dX11_cell_62 rfl ?_
          refine wp_ireturn dX11_cell_66 rfl ?_
          rw [if_neg (fun z => z h5), if_neg h14] at k
          have em : N (61 * p + mq 1) = N (61 * p + 25) := rfl
          have eb : bq 1 = 19 := rfl
          try rw [em, eb]
          (repeat' split at k) <;> (repeat' split) <;> first | exact k | (exfalso; omega)
    · refine wp_aload_n dX11_cell_17 rfl ?_
      refine wp_getR hS.hm.2.2.2.2.1 dX11_cell_18 fX11_37 hS.hm.1 ?_
      refine wp_getR hS.n0.r11l dX11_cell_21 fX11_143 hS.n0.s11 ?_
      refine wp_iload_n dX11_cell_24 rfl ?_
      refine wp_aaldL dX11_cell_25 hS.n0.s13 (by omega) (by omega) (hS.n0.r13 hp) ?_
      refine wp_getR (hS.n0.lk0 hp).rS dX11_cell_26 fX11_152 (hS.n0.lk0 hp).1 ?_
      refine wp_iload_n dX11_cell_29 rfl ?_
      refine wp_iload dX11_cell_30 rfl ?_
      refine wp_callV (as := [_, _]) (ls0 := [_, _, _]) (kc := 0) (ks := 0) (bc' := 0) (bs' := 0) dX11_cell_32 vX11_156 (hS.n0.lk0 hp).sS.1 rfl rfl (Nat.le_of_ble_eq_true rfl) (Nat.le_of_ble_eq_true rfl) (by omega) (by omega) ?_
      refine fl12 ?_
      refine c_tellCell (hS.n0.lk0 hp).sS hS.rel (hS.bok h13) ?_
      rw [id12]
      refine wp_ireturn dX11_cell_35 rfl ?_
      rw [if_neg (fun z => z h5), if_pos h14] at k; exact k
  · refine wp_if_ne (tgt := 13) dX11_cell_8 rfl (fun q => absurd q (by decide)) (fun _ => ?_)
    refine wp_iconst dX11_cell_11 ?_
    refine wp_ireturn dX11_cell_12 rfl ?_
    rw [if_pos h5] at k; exact k
theorem y_waits {p s w : Int} (hS : Sim c m sh iv rv E F N) (k : R (some (aI (aWaits F N p s w))) sh iv lw rv) : wp (d + 3) mX11_waits 0 [some (aR 0), some (aI p), some (aI s), some (aI w), none] [] sh iv lw rv 0 0 R := by
  unfold aWaits at k
  refine wp_aload_n dX11_waits_0 rfl ?_
  refine wp_getR hS.hm.2.2.1 dX11_waits_1 fX11_19 hS.hm.1 ?_
  refine wp_iload_n dX11_waits_4 rfl ?_
  refine wp_callV (as := [_]) (ls0 := [_, _]) (kc := 0) (ks := 0) (bc' := 0) (bs' := 0) dX11_waits_5 vX11_133 hS.pls.1 rfl rfl (Nat.le_of_ble_eq_true rfl) (Nat.le_of_ble_eq_true rfl) (by omega) (by omega) ?_
  refine n_hasPair hS.plan (fun h5 => ?_) (fun h5 => ?_)
  · have hp : 0 ≤ p ∧ p < 6 := ⟨h5.1, by have := hS.f13; omega⟩
    have h13 : 0 < F 13 := by omega
    refine wp_if_eq (tgt := 20) dX11_waits_8 rfl (fun q => absurd q (by decide)) (fun _ => ?_)
    refine wp_iload_n dX11_waits_11 rfl ?_
    refine wp_if_lt (tgt := 20) dX11_waits_12 rfl (fun h12 => ?_) (fun h12 => ?_)
    · refine wp_iconst dX11_waits_20 ?_
      refine wp_ireturn dX11_waits_21 rfl ?_
      first | (rw [if_pos h5] at k; exact k) | (rw [if_neg (fun z => z h5), if_pos (by omega)] at k; exact k)
    · refine wp_iload_n dX11_waits_15 rfl ?_
      refine wp_iconst dX11_waits_16 ?_
      refine wp_icmp_le (tgt := 22) dX11_waits_17 rfl (fun h17 => ?_) (fun h17 => ?_)
      · refine wp_aload_n dX11_waits_22 rfl ?_
        refine wp_getR hS.hm.2.2.2.2.1 dX11_waits_23 fX11_37 hS.hm.1 ?_
        refine wp_getR hS.n0.r11l dX11_waits_26 fX11_143 hS.n0.s11 ?_
        refine wp_iload_n dX11_waits_29 rfl ?_
        refine wp_aaldL dX11_waits_30 hS.n0.s13 (by omega) (by omega) (hS.n0.r13 hp) ?_
        refine wp_astore (ls' := [_, _, _, _, _]) dX11_waits_31 (by decide) rfl rfl ?_
        refine wp_iload_n dX11_waits_33 rfl ?_
        refine wp_if_ne (tgt := 45) dX11_waits_34 rfl (fun h34 => ?_) (fun h34 => ?_)
        · refine wp_aload dX11_waits_45 rfl ?_
          refine wp_getR (hS.n0.lk0 hp).rR dX11_waits_47 fX11_161 (hS.n0.lk0 hp).1 ?_
          refine wp_iload_n dX11_waits_50 rfl ?_
          refine wp_callV (as := [_]) (ls0 := [_, _]) (kc := 0) (ks := 0) (bc' := 0) (bs' := 0) dX11_waits_51 vX11_167 (hS.n0.lk0 hp).sR.1 rfl rfl (Nat.le_of_ble_eq_true rfl) (Nat.le_of_ble_eq_true rfl) (by omega) (by omega) ?_
          refine fl12 ?_
          refine c_tellWait (hS.n0.lk0 hp).sR hS.rel ?_
          rw [id12]
          refine wp_ireturn dX11_waits_54 rfl ?_
          rw [if_neg (fun z => z h5), if_neg (by omega)] at k
          first
          | (have es : s = 0 := by omega
             subst es; exact k)
          | (have es : s = 1 := by omega
             subst es; exact k)
        · refine wp_aload dX11_waits_37 rfl ?_
          refine wp_getR (hS.n0.lk0 hp).rS dX11_waits_39 fX11_152 (hS.n0.lk0 hp).1 ?_
          refine wp_goto (tgt := 50) dX11_waits_42 rfl ?_
          refine wp_iload_n dX11_waits_50 rfl ?_
          refine wp_callV (as := [_]) (ls0 := [_, _]) (kc := 0) (ks := 0) (bc' := 0) (bs' := 0) dX11_waits_51 vX11_167 (hS.n0.lk0 hp).sS.1 rfl rfl (Nat.le_of_ble_eq_true rfl) (Nat.le_of_ble_eq_true rfl) (by omega) (by omega) ?_
          refine fl12 ?_
          refine c_tellWait (hS.n0.lk0 hp).sS hS.rel ?_
          rw [id12]
          refine wp_ireturn dX11_waits_54 rfl ?_
          rw [if_neg (fun z => z h5), if_neg (by omega)] at k
          first
          | (have es : s = 0 := by omega
             subst es; exact k)
          | (have es : s = 1 := by omega
             subst es; exact k)
      · refine wp_iconst dX11_waits_20 ?_
        refine wp_ireturn dX11_waits_21 rfl ?_
        first | (rw [if_pos h5] at k; exact k) | (rw [if_neg (fun z => z h5), if_pos (by omega)] at k; exact k)
  · refine wp_if_eq (tgt := 20) dX11_waits_8 rfl (fun _ => ?_) (fun q => absurd q (by decide))
    refine wp_iconst dX11_waits_20 ?_
    refine wp_ireturn dX11_waits_21 rfl ?_
    first | (rw [if_pos h5] at k; exact k) | (rw [if_neg (fun z => z h5), if_pos (by omega)] at k; exact k)
theorem y_letter {p w : Int} (hw : iR w) (hS : Sim c m sh iv rv E F N) (k : R (some (aI (aLetter F N p w))) sh iv lw rv) : wp (d + 3) mX11_letter 0 [some (aR 0), some (aI p), some (aI w)] [] sh iv lw rv 0 0 R := by
  unfold aLetter at k
  refine wp_aload_n dX11_letter_0 rfl ?_
  refine wp_getR hS.hm.2.2.1 dX11_letter_1 fX11_19 hS.hm.1 ?_
  refine wp_iload_n dX11_letter_4 rfl ?_
  refine wp_callV (as := [_]) (ls0 := [_, _]) (kc := 0) (ks := 0) (bc' := 0) (bs' := 0) dX11_letter_5 vX11_133 hS.pls.1 rfl rfl (Nat.le_of_ble_eq_true rfl) (Nat.le_of_ble_eq_true rfl) (by omega) (by omega) ?_
  refine n_hasPair hS.plan (fun h5 => ?_) (fun h5 => ?_)
  · have hp : 0 ≤ p ∧ p < 6 := ⟨h5.1, by have := hS.f13; omega⟩
    have h13 : 0 < F 13 := by omega
    refine wp_if_eq (tgt := 30) dX11_letter_8 rfl (fun q => absurd q (by decide)) (fun _ => ?_)
    refine wp_aload_n dX11_letter_11 rfl ?_
    refine wp_getR hS.hm.2.2.2.2.1 dX11_letter_12 fX11_37 hS.hm.1 ?_
    refine wp_getR hS.n0.r11l dX11_letter_15 fX11_143 hS.n0.s11 ?_
    refine wp_iload_n dX11_letter_18 rfl ?_
    refine wp_aaldL dX11_letter_19 hS.n0.s13 (by omega) (by omega) (hS.n0.r13 hp) ?_
    refine wp_getR (hS.n0.lk0 hp).rM dX11_letter_20 fX11_170 (hS.n0.lk0 hp).1 ?_
    refine wp_iload_n dX11_letter_23 rfl ?_
    refine wp_callV (as := [_]) (ls0 := [_, _]) (kc := 0) (ks := 0) (bc' := 0) (bs' := 0) dX11_letter_24 vX11_174 (hS.n0.lk0 hp).sM.1 rfl rfl (Nat.le_of_ble_eq_true rfl) (Nat.le_of_ble_eq_true rfl) (by omega) (by omega) ?_
    refine fl12 ?_
    refine t_tell hw (hS.n0.lk0 hp).sM hS.rel (hS.bok h13) ?_
    rw [id12]
    refine wp_goto (tgt := 31) dX11_letter_27 rfl ?_
    refine wp_ireturn dX11_letter_31 rfl ?_
    first | (rw [if_pos h5] at k; exact k) | (rw [if_neg (fun z => z h5)] at k; exact k)
  · refine wp_if_eq (tgt := 30) dX11_letter_8 rfl (fun _ => ?_) (fun q => absurd q (by decide))
    refine wp_iconst dX11_letter_30 ?_
    refine wp_ireturn dX11_letter_31 rfl ?_
    first | (rw [if_pos h5] at k; exact k) | (rw [if_neg (fun z => z h5)] at k; exact k)
theorem y_channel {fr c1 : Int} (hS : Sim c m sh iv rv E F N) (k : R (some (aI (aChan E F fr c1))) sh iv lw rv) : wp (d + 2) mX11_channel 0 [some (aR 0), some (aI fr), some (aI c1)] [] sh iv lw rv 0 0 R := by
  unfold aChan okC at k
  refine wp_iload_n dX11_channel_0 rfl ?_
  refine wp_if_lt (tgt := 22) dX11_channel_1 rfl (fun h1 => ?_) (fun h1 => ?_)
  · refine wp_iconst dX11_channel_22 ?_
    refine wp_ireturn dX11_channel_23 rfl ?_
    first | (rw [if_neg (fun z => h16 z.1)] at k; exact k) | (rw [if_neg (fun z => by omega)] at k; exact k)
  · refine wp_iload_n dX11_channel_4 rfl ?_
    refine wp_sipush dX11_channel_5 ?_
    refine wp_icmp_gt (tgt := 22) dX11_channel_8 rfl (fun h8 => ?_) (fun h8 => ?_)
    · refine wp_iconst dX11_channel_22 ?_
      refine wp_ireturn dX11_channel_23 rfl ?_
      first | (rw [if_neg (fun z => h16 z.1)] at k; exact k) | (rw [if_neg (fun z => by omega)] at k; exact k)
    · refine wp_aload_n dX11_channel_11 rfl ?_
      refine wp_getR hS.hm.2.2.1 dX11_channel_12 fX11_19 hS.hm.1 ?_
      refine wp_iload_n dX11_channel_15 rfl ?_
      refine wp_callV (as := [_]) (ls0 := [_, _]) (kc := 0) (ks := 0) (bc' := 0) (bs' := 0) dX11_channel_16 vX11_177 hS.pls.1 rfl rfl (Nat.le_of_ble_eq_true rfl) (Nat.le_of_ble_eq_true rfl) (by omega) (by omega) ?_
      refine n_hasCell hS.plan (fun h16 => ?_) (fun h16 => ?_)
      · have hP := hS.prm h16.1
        obtain ⟨hW1, hW2, hO1, hO2, hT1, hT2, hI1, hI2, hF1, hF2⟩ := id hP
        refine wp_if_ne (tgt := 24) dX11_channel_19 rfl (fun _ => ?_) (fun q => absurd q (by decide))
        refine wp_aload_n dX11_channel_24 rfl ?_
        refine wp_getR hS.hm.2.2.1 dX11_channel_25 fX11_19 hS.hm.1 ?_
        refine wp_iload_n dX11_channel_28 rfl ?_
        refine wp_iload_n dX11_channel_29 rfl ?_
        refine wp_callV (as := [_, _]) (ls0 := [_, _, _, _]) (kc := 0) (ks := 0) (bc' := 0) (bs' := 0) dX11_channel_30 vX11_180 hS.pls.1 rfl rfl (Nat.le_of_ble_eq_true rfl) (Nat.le_of_ble_eq_true rfl) (by omega) (by omega) ?_
        refine n_channelOf hP hS.prm2 (by omega) (by omega) (by omega) hS.plan ?_
        refine wp_ireturn dX11_channel_33 rfl ?_
        rw [if_pos ⟨h16, by omega, by omega⟩] at k; exact k
      · refine wp_if_ne (tgt := 24) dX11_channel_19 rfl (fun q => absurd q (by decide)) (fun _ => ?_)
        refine wp_iconst dX11_channel_22 ?_
        refine wp_ireturn dX11_channel_23 rfl ?_
        first | (rw [if_neg (fun z => h16 z.1)] at k; exact k) | (rw [if_neg (fun z => by omega)] at k; exact k)
theorem y_status {w : Int} (hS : Sim c m sh iv rv E F N) (k : R (some (aI (aStat E w))) sh iv lw rv) : wp (d) mX11_status 0 [some (aR 0), some (aI w)] [] sh iv lw rv 0 0 R := by
  unfold aStat at k
  refine wp_iload_n dX11_status_0 rfl ?_
  refine wp_if_lt (tgt := 22) dX11_status_1 rfl (fun h1 => ?_) (fun h1 => ?_)
  · refine wp_iconst dX11_status_22 ?_
    refine wp_ireturn dX11_status_23 rfl ?_
    first | (rw [if_pos (by omega)] at k; exact k) | (rw [if_neg (by omega)] at k; exact k)
  · refine wp_iload_n dX11_status_4 rfl ?_
    refine wp_aload_n dX11_status_5 rfl ?_
    refine wp_getR hS.hm.2.2.2.2.2.2.2.2.2.1 dX11_status_6 fX11_73 hS.hm.1 ?_
    refine wp_alen dX11_status_9 hS.hm.2.2.2.2.2.2.2.2.2.2 rfl ⟨by decide, by decide⟩ ?_
    refine wp_icmp_ge (tgt := 22) dX11_status_10 rfl (fun h10 => ?_) (fun h10 => ?_)
    · refine wp_iconst dX11_status_22 ?_
      refine wp_ireturn dX11_status_23 rfl ?_
      first | (rw [if_pos (by omega)] at k; exact k) | (rw [if_neg (by omega)] at k; exact k)
    · refine wp_aload_n dX11_status_13 rfl ?_
      refine wp_getR hS.hm.2.2.2.2.2.2.2.2.2.1 dX11_status_14 fX11_73 hS.hm.1 ?_
      refine wp_iload_n dX11_status_17 rfl ?_
      refine wp_iald dX11_status_18 hS.hm.2.2.2.2.2.2.2.2.2.2 (by omega) (by omega) ?_
      rw [(hS.rfr.2 _ (by omega) (by omega)).1]
      refine wp_goto (tgt := 23) dX11_status_19 rfl ?_
      refine wp_ireturn dX11_status_23 rfl ?_
      first | (rw [if_pos (by omega)] at k; exact k) | (rw [if_neg (by omega)] at k; exact k)
theorem y_log {i w : Int} (hS : Sim c m sh iv rv E F N) (k : R (some (aI (aLog N i w))) sh iv lw rv) : wp (d + 3) mX11_log 0 [some (aR 0), some (aI i), some (aI w)] [] sh iv lw rv 0 0 R := by
  have g3 := hS.psr.2.2.1
  have hn8 := hS.n8
  unfold aLog at k
  refine wp_aload_n dX11_log_0 rfl ?_
  refine wp_getR hS.hm.2.2.2.2.2.2.2.1 dX11_log_1 fX11_62 hS.hm.1 ?_
  refine wp_iload_n dX11_log_4 rfl ?_
  refine wp_iload_n dX11_log_5 rfl ?_
  refine wp_callV (as := [_, _]) (ls0 := [_, _, _]) (kc := 0) (ks := 0) (bc' := 0) (bs' := 0) dX11_log_6 vX11_246 hS.ps.1 rfl rfl (Nat.le_of_ble_eq_true rfl) (Nat.le_of_ble_eq_true rfl) (by omega) (by omega) ?_
  refine flP ?_
  refine q_tellLog hS.ps ⟨g3.1.1, by have := g3.1.2; omega⟩ ?_
  rw [PW_id]
  refine wp_ireturn dX11_log_9 rfl ?_
  rw [← g3.2.1]
  by_cases q : 0 ≤ i ∧ i < N 369 ∧ 0 ≤ w ∧ w ≤ 2
  · rw [if_pos q] at k ⊢; rw [g3.2.2 i w q.1 q.2.1 q.2.2.1 (by omega)]; exact k
  · rw [if_neg q] at k ⊢; exact k
theorem y_agree {p : Int} (hS : Sim c m sh iv rv E F N) (k0 : ¬ (0 ≤ p ∧ p < F 13) → R (some (aI (-1))) sh iv lw rv) (kt : (0 ≤ p ∧ p < F 13) → Agr N p → R (some (aI 1)) sh iv lw rv) (kf : (0 ≤ p ∧ p < F 13) → ¬ Agr N p → R (some (aI 0)) sh iv lw rv) : wp (d + 3) mX11_agree 0 [some (aR 0), some (aI p)] [] sh iv lw rv 0 0 R := by
  refine wp_aload_n dX11_agree_0 rfl ?_
  refine wp_getR hS.hm.2.2.1 dX11_agree_1 fX11_19 hS.hm.1 ?_
  refine wp_iload_n dX11_agree_4 rfl ?_
  refine wp_callV (as := [_]) (ls0 := [_, _]) (kc := 0) (ks := 0) (bc' := 0) (bs' := 0) dX11_agree_5 vX11_133 hS.pls.1 rfl rfl (Nat.le_of_ble_eq_true rfl) (Nat.le_of_ble_eq_true rfl) (by omega) (by omega) ?_
  refine n_hasPair hS.plan (fun h5 => ?_) (fun h5 => ?_)
  · have hp : 0 ≤ p ∧ p < 6 := ⟨h5.1, by have := hS.f13; omega⟩
    have h13 : 0 < F 13 := by omega
    refine wp_if_ne (tgt := 13) dX11_agree_8 rfl (fun _ => ?_) (fun q => absurd q (by decide))
    refine wp_aload_n dX11_agree_13 rfl ?_
    refine wp_getR hS.hm.2.2.2.2.1 dX11_agree_14 fX11_37 hS.hm.1 ?_
    refine wp_getR hS.n0.r11l dX11_agree_17 fX11_143 hS.n0.s11 ?_
    refine wp_iload_n dX11_agree_20 rfl ?_
    refine wp_aaldL dX11_agree_21 hS.n0.s13 (by omega) (by omega) (hS.n0.r13 hp) ?_
    refine wp_callV (as := []) (ls0 := [_]) (kc := 0) (ks := 0) (bc' := 0) (bs' := 0) dX11_agree_22 vX11_266 (hS.n0.lk0 hp).1 rfl rfl (Nat.le_of_ble_eq_true rfl) (Nat.le_of_ble_eq_true rfl) (by omega) (by omega) ?_
    refine fl12 ?_
    refine k_agrees (hS.n0.lk0 hp) hS.rel (hS.bok h13) ((hS.inv h13).2.1 p h5.1 h5.2).2.1 (fun h22 => ?_) (fun h22 => ?_) <;> rw [id12]
    · refine wp_if_eq (tgt := 32) dX11_agree_25 rfl (fun q => absurd q (by decide)) (fun _ => ?_)
      refine wp_iconst dX11_agree_28 ?_
      refine wp_goto (tgt := 33) dX11_agree_29 rfl ?_
      refine wp_ireturn dX11_agree_33 rfl ?_
      exact kt h5 h22
    · refine wp_if_eq (tgt := 32) dX11_agree_25 rfl (fun _ => ?_) (fun q => absurd q (by decide))
      refine wp_iconst dX11_agree_32 ?_
      refine wp_ireturn dX11_agree_33 rfl ?_
      exact kf h5 h22
  · refine wp_if_ne (tgt := 13) dX11_agree_8 rfl (fun q => absurd q (by decide)) (fun _ => ?_)
    refine wp_iconst dX11_agree_11 ?_
    refine wp_ireturn dX11_agree_12 rfl ?_
    exact k0 h5
theorem y_count {w : Int} (hS : Sim c m sh iv rv E F N) (k : R (some (aI (aCount F N w))) sh iv lw rv) : wp (d + 3) mX11_count 0 [some (aR 0), some (aI w)] [] sh iv lw rv 0 0 R := by
  have g3 := hS.psr.2.2.1
  unfold aCount at k
  refine wp_iload_n dX11_count_0 rfl ?_
  rcases (by omega : w = 0 ∨ w = 1 ∨ w = 2 ∨ w = 3 ∨ w = 4 ∨ w = 5 ∨ w = 6 ∨ (w < 0 ∨ 6 < w)) with h1 | h1 | h1 | h1 | h1 | h1 | h1 | h1
  · refine wp_tswIn (tgt := 44) dX11_count_1 (by omega) (by omega) (by rw [h1]; rfl) rfl ?_
    refine wp_aload_n dX11_count_44 rfl ?_
    refine wp_getR hS.hm.2.2.1 dX11_count_45 fX11_19 hS.hm.1 ?_
    refine wp_callV (as := []) (ls0 := [_]) (kc := 0) (ks := 0) (bc' := 0) (bs' := 0) dX11_count_48 vX11_114 hS.pls.1 rfl rfl (Nat.le_of_ble_eq_true rfl) (Nat.le_of_ble_eq_true rfl) (by omega) (by omega) ?_
    refine n_pairs hS.plan ?_
    refine wp_ireturn dX11_count_51 rfl ?_
    first | ((repeat' split at k) <;> first | exact k | (exfalso; omega) | (rw [← g3.2.1]; exact k))
  · refine wp_tswIn (tgt := 52) dX11_count_1 (by omega) (by omega) (by rw [h1]; rfl) rfl ?_
    refine wp_aload_n dX11_count_52 rfl ?_
    refine wp_getR hS.hm.2.2.1 dX11_count_53 fX11_19 hS.hm.1 ?_
    refine wp_callV (as := []) (ls0 := [_]) (kc := 0) (ks := 0) (bc' := 0) (bs' := 0) dX11_count_56 vX11_120 hS.pls.1 rfl rfl (Nat.le_of_ble_eq_true rfl) (Nat.le_of_ble_eq_true rfl) (by omega) (by omega) ?_
    refine n_hopCount hS.plan ?_
    refine wp_ireturn dX11_count_59 rfl ?_
    first | ((repeat' split at k) <;> first | exact k | (exfalso; omega) | (rw [← g3.2.1]; exact k))
  · refine wp_tswIn (tgt := 60) dX11_count_1 (by omega) (by omega) (by rw [h1]; rfl) rfl ?_
    refine wp_aload_n dX11_count_60 rfl ?_
    refine wp_getR hS.hm.2.1 dX11_count_61 fX11_10 hS.hm.1 ?_
    refine wp_callV (as := []) (ls0 := [_]) (kc := 0) (ks := 0) (bc' := 0) (bs' := 0) dX11_count_64 vX11_93 hS.tp.1 rfl rfl (Nat.le_of_ble_eq_true rfl) (Nat.le_of_ble_eq_true rfl) (by omega) (by omega) ?_
    refine flR ?_
    refine p_size hS.tp hS.tpr ?_
    rw [CRQ_id]
    refine wp_ireturn dX11_count_67 rfl ?_
    first | ((repeat' split at k) <;> first | exact k | (exfalso; omega) | (rw [← g3.2.1]; exact k))
  · refine wp_tswIn (tgt := 68) dX11_count_1 (by omega) (by omega) (by rw [h1]; rfl) rfl ?_
    refine wp_aload_n dX11_count_68 rfl ?_
    refine wp_getR hS.hm.2.2.2.2.1 dX11_count_69 fX11_37 hS.hm.1 ?_
    refine wp_callV (as := []) (ls0 := [_]) (kc := 0) (ks := 0) (bc' := 0) (bs' := 0) dX11_count_72 vX11_186 hS.n0.s11 rfl rfl (Nat.le_of_ble_eq_true rfl) (Nat.le_of_ble_eq_true rfl) (by omega) (by omega) ?_
    refine fl0 ?_
    refine x_frame (b := 0) hS.n0 hS.rel ?_
    rw [CS0id]
    refine wp_ireturn dX11_count_75 rfl ?_
    first | ((repeat' split at k) <;> first | exact k | (exfalso; omega) | (rw [← g3.2.1]; exact k))
  · refine wp_tswIn (tgt := 76) dX11_count_1 (by omega) (by omega) (by rw [h1]; rfl) rfl ?_
    refine wp_aload_n dX11_count_76 rfl ?_
    refine wp_getI dX11_count_77 fX11_77 hS.hm.1 ?_
    rw [hS.los.1]
    refine wp_ireturn dX11_count_80 rfl ?_
    first | ((repeat' split at k) <;> first | exact k | (exfalso; omega) | (rw [← g3.2.1]; exact k))
  · refine wp_tswIn (tgt := 81) dX11_count_1 (by omega) (by omega) (by rw [h1]; rfl) rfl ?_
    refine wp_aload_n dX11_count_81 rfl ?_
    refine wp_getR hS.hm.2.2.2.2.2.2.2.1 dX11_count_82 fX11_62 hS.hm.1 ?_
    refine wp_callV (as := []) (ls0 := [_]) (kc := 0) (ks := 0) (bc' := 0) (bs' := 0) dX11_count_85 vX11_307 hS.ps.1 rfl rfl (Nat.le_of_ble_eq_true rfl) (Nat.le_of_ble_eq_true rfl) (by omega) (by omega) ?_
    refine flP ?_
    refine q_logLen hS.ps ?_
    rw [PW_id]
    refine wp_ireturn dX11_count_88 rfl ?_
    first | ((repeat' split at k) <;> first | exact k | (exfalso; omega) | (rw [← g3.2.1]; exact k))
  · refine wp_tswIn (tgt := 89) dX11_count_1 (by omega) (by omega) (by rw [h1]; rfl) rfl ?_
    refine wp_aload_n dX11_count_89 rfl ?_
    refine wp_getR hS.hm.2.2.2.2.2.2.2.1 dX11_count_90 fX11_62 hS.hm.1 ?_
    refine wp_callV (as := []) (ls0 := [_]) (kc := 0) (ks := 0) (bc' := 0) (bs' := 0) dX11_count_93 vX11_243 hS.ps.1 rfl rfl (Nat.le_of_ble_eq_true rfl) (Nat.le_of_ble_eq_true rfl) (by omega) (by omega) ?_
    refine flP ?_
    refine q_acts hS.ps ?_
    rw [PW_id, hS.psr.1]
    refine wp_ireturn dX11_count_96 rfl ?_
    first | ((repeat' split at k) <;> first | exact k | (exfalso; omega) | (rw [← g3.2.1]; exact k))
  · refine wp_tswOut (tgt := 97) dX11_count_1 (by omega) rfl ?_
    refine wp_ldcw (v := -1000000) dX11_count_97 zX11_288 rfl ⟨by decide, by decide⟩ ?_
    refine wp_ireturn dX11_count_100 rfl ?_
    first | ((repeat' split at k) <;> first | exact k | (exfalso; omega) | (rw [← g3.2.1]; exact k))
end C30
