theorem up_id {f : Int → Int} {k : Int} : up f k (f k) = f := by
  funext z
  unfold up
  split
  · rename_i e; rw [e]
  · rfl
section C2
variable {d i wd : Nat} {sh : aSh} {iv lw : aF} {rv : aP} {w N : Int → Int} {R : aPost} {p q W Of : Int}
theorem c_raiseSeq (hA : SdA sh iv rv i wd p q) (hR : Rel w N) (hs : 0 ≤ N (61 * p + (26 + q)) ∧ N (61 * p + (26 + q)) ≤ 255) (k : ∀ w', Rel w' (stpF N p q) → R none sh (uA iv wd w') lw rv) : wp (d) mX9_raiseSeq 0 [some (aR i), none] [] sh (uA iv wd w) lw rv 0 0 R := by
  have hat := hA.at
  have hp := hA.2.2.2.2.2.1
  have hq := hA.2.2.2.2.2.2
  refine wp_aload_n dX9_raiseSeq_0 rfl ?_
  refine wp_getR hA.2.1 dX9_raiseSeq_1 fX9_11 hA.1 ?_
  refine wp_aload_n dX9_raiseSeq_4 rfl ?_
  refine wp_getI dX9_raiseSeq_5 fX9_15 hA.1 ?_
  rw [hat]
  refine wp_iconst dX9_raiseSeq_8 ?_
  refine wp_iadd dX9_raiseSeq_9 ⟨by omega, by omega⟩ ?_
  refine wp_iald dX9_raiseSeq_10 hA.2.2.1 (by omega) (by omega) ?_
  rw [uA_s]
  rw [hR.rd hp (cm_seq hq)]
  refine wp_istore_n (ls' := [_, _]) dX9_raiseSeq_11 (by decide) rfl rfl ?_
  refine wp_aload_n dX9_raiseSeq_12 rfl ?_
  refine wp_getR hA.2.1 dX9_raiseSeq_13 fX9_11 hA.1 ?_
  refine wp_aload_n dX9_raiseSeq_16 rfl ?_
  refine wp_getI dX9_raiseSeq_17 fX9_15 hA.1 ?_
  rw [hat]
  refine wp_iconst dX9_raiseSeq_20 ?_
  refine wp_iadd dX9_raiseSeq_21 ⟨by omega, by omega⟩ ?_
  refine wp_iload_n dX9_raiseSeq_22 rfl ?_
  refine wp_sipush dX9_raiseSeq_23 ?_
  refine wp_icmp_lt (tgt := 33) dX9_raiseSeq_26 rfl (fun h26 => ?_) (fun h26 => ?_)
  · refine wp_iload_n dX9_raiseSeq_33 rfl ?_
    refine wp_iconst dX9_raiseSeq_34 ?_
    refine wp_iadd dX9_raiseSeq_35 ⟨by omega, by omega⟩ ?_
    refine wp_iast dX9_raiseSeq_36 hA.2.2.1 (by omega) (by omega) ?_
    rw [uI_eq, uA_s, uA_uA]
    refine wp_return dX9_raiseSeq_37 rfl ?_
    refine k _ ?_
    have r : Rel (up w (7 + 71 * p + 28 * q + 0) (nxt (N (61 * p + (26 + q))))) (stpF N p q) := hR.wr (v := nxt (N (61 * p + (26 + q)))) hp (cm_seq hq)
    first | (have e : nxt (N (61 * p + (26 + q))) = 1 := by (unfold nxt; split <;> omega)
             rw [e] at r; exact r) | (have e : nxt (N (61 * p + (26 + q))) = N (61 * p + (26 + q)) + 1 := by (unfold nxt; split <;> omega)
                                      rw [e] at r; exact r)
  · refine wp_iconst dX9_raiseSeq_29 ?_
    refine wp_goto (tgt := 36) dX9_raiseSeq_30 rfl ?_
    refine wp_iast dX9_raiseSeq_36 hA.2.2.1 (by omega) (by omega) ?_
    rw [uI_eq, uA_s, uA_uA]
    refine wp_return dX9_raiseSeq_37 rfl ?_
    refine k _ ?_
    have r : Rel (up w (7 + 71 * p + 28 * q + 0) (nxt (N (61 * p + (26 + q))))) (stpF N p q) := hR.wr (v := nxt (N (61 * p + (26 + q)))) hp (cm_seq hq)
    first | (have e : nxt (N (61 * p + (26 + q))) = 1 := by (unfold nxt; split <;> omega)
             rw [e] at r; exact r) | (have e : nxt (N (61 * p + (26 + q))) = N (61 * p + (26 + q)) + 1 := by (unfold nxt; split <;> omega)
                                      rw [e] at r; exact r)
theorem c_awaits {c : Int} (hA : SdA sh iv rv i wd p q) (hR : Rel w N) (h0 : q = 0) (kt : N (61 * p + 28) = 1 ∧ N (61 * p + 32) = c → R (some (aI 1)) sh (uA iv wd w) lw rv) (kf : ¬ (N (61 * p + 28) = 1 ∧ N (61 * p + 32) = c) → R (some (aI 0)) sh (uA iv wd w) lw rv) : wp (d + 1) mX9_awaits 0 [some (aR i), some (aI c)] [] sh (uA iv wd w) lw rv 0 0 R := by
  have hat := hA.at
  have hp := hA.2.2.2.2.2.1
  have hq := hA.2.2.2.2.2.2
  subst h0
  have ecm : 7 + 71 * p + 28 * 0 + 3 = 3 + 71 * p + cmk 32 ∧ vis 32 := by rw [show cmk 32 = 7 from by decide]; unfold vis; omega
  refine wp_aload_n dX9_awaits_0 rfl ?_
  refine wp_callV (as := []) (ls0 := [_]) (kc := 0) (ks := 0) (bc' := 0) (bs' := 0) dX9_awaits_1 vX9_19 hA.1 rfl rfl (Nat.le_of_ble_eq_true rfl) (Nat.le_of_ble_eq_true rfl) (by omega) (by omega) ?_
  refine c_isWaiting hA hR (fun h1 => ?_) (fun h1 => ?_)
  all_goals rw [show (28 : Int) + 0 = 28 from rfl] at h1
  · refine wp_if_eq (tgt := 26) dX9_awaits_4 rfl (fun q => absurd q (by decide)) (fun _ => ?_)
    refine wp_aload_n dX9_awaits_7 rfl ?_
    refine wp_getR hA.2.1 dX9_awaits_8 fX9_11 hA.1 ?_
    refine wp_aload_n dX9_awaits_11 rfl ?_
    refine wp_getI dX9_awaits_12 fX9_15 hA.1 ?_
    rw [hat]
    refine wp_iconst dX9_awaits_15 ?_
    refine wp_iadd dX9_awaits_16 ⟨by omega, by omega⟩ ?_
    refine wp_iald dX9_awaits_17 hA.2.2.1 (by omega) (by omega) ?_
    rw [uA_s]
    rw [hR.rd hp ecm]
    refine wp_iload_n dX9_awaits_18 rfl ?_
    refine wp_icmp_ne (tgt := 26) dX9_awaits_19 rfl (fun h19 => ?_) (fun h19 => ?_)
    · refine wp_iconst dX9_awaits_26 ?_
      refine wp_zreturn dX9_awaits_27 rfl (Or.inl rfl) ?_
      exact kf (by omega)
    · refine wp_iconst dX9_awaits_22 ?_
      refine wp_goto (tgt := 27) dX9_awaits_23 rfl ?_
      refine wp_zreturn dX9_awaits_27 rfl (Or.inr rfl) ?_
      exact kt (by omega)
  · refine wp_if_eq (tgt := 26) dX9_awaits_4 rfl (fun _ => ?_) (fun q => absurd q (by decide))
    refine wp_iconst dX9_awaits_26 ?_
    refine wp_zreturn dX9_awaits_27 rfl (Or.inl rfl) ?_
    exact kf (by omega)
theorem c_hasWaited {f t : Int} (hA : SdA sh iv rv i wd p q) (hR : Rel w N) (hB : Bok W Of N) (hf : 0 ≤ f ∧ f ≤ 20000) (kt : N (61 * p + (28 + q)) = 1 ∧ t ≤ f - N (61 * p + (30 + q)) → R (some (aI 1)) sh (uA iv wd w) lw rv) (kf : ¬ (N (61 * p + (28 + q)) = 1 ∧ t ≤ f - N (61 * p + (30 + q))) → R (some (aI 0)) sh (uA iv wd w) lw rv) : wp (d + 1) mX9_hasWaited 0 [some (aR i), some (aI f), some (aI t)] [] sh (uA iv wd w) lw rv 0 0 R := by
  have hat := hA.at
  have hp := hA.2.2.2.2.2.1
  have hq := hA.2.2.2.2.2.2
  have hfm := hB.frm hp hq
  refine wp_aload_n dX9_hasWaited_0 rfl ?_
  refine wp_callV (as := []) (ls0 := [_]) (kc := 0) (ks := 0) (bc' := 0) (bs' := 0) dX9_hasWaited_1 vX9_19 hA.1 rfl rfl (Nat.le_of_ble_eq_true rfl) (Nat.le_of_ble_eq_true rfl) (by omega) (by omega) ?_
  refine c_isWaiting hA hR (fun h1 => ?_) (fun h1 => ?_)
  · refine wp_if_eq (tgt := 28) dX9_hasWaited_4 rfl (fun q => absurd q (by decide)) (fun _ => ?_)
    refine wp_iload_n dX9_hasWaited_7 rfl ?_
    refine wp_aload_n dX9_hasWaited_8 rfl ?_
    refine wp_getR hA.2.1 dX9_hasWaited_9 fX9_11 hA.1 ?_
    refine wp_aload_n dX9_hasWaited_12 rfl ?_
    refine wp_getI dX9_hasWaited_13 fX9_15 hA.1 ?_
    rw [hat]
    refine wp_iconst dX9_hasWaited_16 ?_
    refine wp_iadd dX9_hasWaited_17 ⟨by omega, by omega⟩ ?_
    refine wp_iald dX9_hasWaited_18 hA.2.2.1 (by omega) (by omega) ?_
    rw [uA_s]
    rw [hR.rd hp (cm_frm hq)]
    refine wp_isub dX9_hasWaited_19 ⟨by omega, by omega⟩ ?_
    refine wp_iload_n dX9_hasWaited_20 rfl ?_
    refine wp_icmp_lt (tgt := 28) dX9_hasWaited_21 rfl (fun h21 => ?_) (fun h21 => ?_)
    · refine wp_iconst dX9_hasWaited_28 ?_
      refine wp_zreturn dX9_hasWaited_29 rfl (Or.inl rfl) ?_
      exact kf (by omega)
    · refine wp_iconst dX9_hasWaited_24 ?_
      refine wp_goto (tgt := 29) dX9_hasWaited_25 rfl ?_
      refine wp_zreturn dX9_hasWaited_29 rfl (Or.inr rfl) ?_
      exact kt (by omega)
  · refine wp_if_eq (tgt := 28) dX9_hasWaited_4 rfl (fun _ => ?_) (fun q => absurd q (by decide))
    refine wp_iconst dX9_hasWaited_28 ?_
    refine wp_zreturn dX9_hasWaited_29 rfl (Or.inl rfl) ?_
    exact kf (by omega)
theorem c_startWaiting0 {f c : Int} (hA : SdA sh iv rv i wd p q) (hR : Rel w N) (h0 : q = 0) (k : ∀ w', Rel w' (up (up (up N (61 * p + (28 + q)) 1) (61 * p + (30 + q)) f) (61 * p + 32) c) → R none sh (uA iv wd w') lw rv) : wp (d) mX9_startWaiting 0 [some (aR i), some (aI f), some (aI c)] [] sh (uA iv wd w) lw rv 0 0 R := by
  have hat := hA.at
  have hp := hA.2.2.2.2.2.1
  have hq := hA.2.2.2.2.2.2
  have ecm : 7 + 71 * p + 28 * q + 3 = 3 + 71 * p + cmk 32 ∧ vis 32 := by rw [show cmk 32 = 7 from by decide, h0]; unfold vis; omega
  refine wp_aload_n dX9_startWaiting_0 rfl ?_
  refine wp_getR hA.2.1 dX9_startWaiting_1 fX9_11 hA.1 ?_
  refine wp_aload_n dX9_startWaiting_4 rfl ?_
  refine wp_getI dX9_startWaiting_5 fX9_15 hA.1 ?_
  rw [hat]
  refine wp_iconst dX9_startWaiting_8 ?_
  refine wp_iadd dX9_startWaiting_9 ⟨by omega, by omega⟩ ?_
  refine wp_iconst dX9_startWaiting_10 ?_
  refine wp_iast dX9_startWaiting_11 hA.2.2.1 (by omega) (by omega) ?_
  rw [uI_eq, uA_s, uA_uA]
  refine wp_aload_n dX9_startWaiting_12 rfl ?_
  refine wp_getR hA.2.1 dX9_startWaiting_13 fX9_11 hA.1 ?_
  refine wp_aload_n dX9_startWaiting_16 rfl ?_
  refine wp_getI dX9_startWaiting_17 fX9_15 hA.1 ?_
  rw [hat]
  refine wp_iconst dX9_startWaiting_20 ?_
  refine wp_iadd dX9_startWaiting_21 ⟨by omega, by omega⟩ ?_
  refine wp_iload_n dX9_startWaiting_22 rfl ?_
  refine wp_iast dX9_startWaiting_23 hA.2.2.1 (by omega) (by omega) ?_
  rw [uI_eq, uA_s, uA_uA]
  refine wp_aload_n dX9_startWaiting_24 rfl ?_
  refine wp_getR hA.2.1 dX9_startWaiting_25 fX9_11 hA.1 ?_
  refine wp_aload_n dX9_startWaiting_28 rfl ?_
  refine wp_getI dX9_startWaiting_29 fX9_15 hA.1 ?_
  rw [hat]
  refine wp_iconst dX9_startWaiting_32 ?_
  refine wp_iadd dX9_startWaiting_33 ⟨by omega, by omega⟩ ?_
  refine wp_iload_n dX9_startWaiting_34 rfl ?_
  refine wp_iast dX9_startWaiting_35 hA.2.2.1 (by omega) (by omega) ?_
  rw [uI_eq, uA_s, uA_uA]
  refine wp_return dX9_startWaiting_36 rfl ?_
  exact k _ (((hR.wr hp (cm_wai hq)).wr hp (cm_frm hq)).wr hp ecm)
theorem c_startWaiting1 {f c : Int} (hA : SdA sh iv rv i wd p q) (hR : Rel w N) (h0 : q = 1) (k : ∀ w', Rel w' (up (up N (61 * p + (28 + q)) 1) (61 * p + (30 + q)) f) → R none sh (uA iv wd w') lw rv) : wp (d) mX9_startWaiting 0 [some (aR i), some (aI f), some (aI c)] [] sh (uA iv wd w) lw rv 0 0 R := by
  have hat := hA.at
  have hp := hA.2.2.2.2.2.1
  have hq := hA.2.2.2.2.2.2
  refine wp_aload_n dX9_startWaiting_0 rfl ?_
  refine wp_getR hA.2.1 dX9_startWaiting_1 fX9_11 hA.1 ?_
  refine wp_aload_n dX9_startWaiting_4 rfl ?_
  refine wp_getI dX9_startWaiting_5 fX9_15 hA.1 ?_
  rw [hat]
  refine wp_iconst dX9_startWaiting_8 ?_
  refine wp_iadd dX9_startWaiting_9 ⟨by omega, by omega⟩ ?_
  refine wp_iconst dX9_startWaiting_10 ?_
  refine wp_iast dX9_startWaiting_11 hA.2.2.1 (by omega) (by omega) ?_
  rw [uI_eq, uA_s, uA_uA]
  refine wp_aload_n dX9_startWaiting_12 rfl ?_
  refine wp_getR hA.2.1 dX9_startWaiting_13 fX9_11 hA.1 ?_
  refine wp_aload_n dX9_startWaiting_16 rfl ?_
  refine wp_getI dX9_startWaiting_17 fX9_15 hA.1 ?_
  rw [hat]
  refine wp_iconst dX9_startWaiting_20 ?_
  refine wp_iadd dX9_startWaiting_21 ⟨by omega, by omega⟩ ?_
  refine wp_iload_n dX9_startWaiting_22 rfl ?_
  refine wp_iast dX9_startWaiting_23 hA.2.2.1 (by omega) (by omega) ?_
  rw [uI_eq, uA_s, uA_uA]
  refine wp_aload_n dX9_startWaiting_24 rfl ?_
  refine wp_getR hA.2.1 dX9_startWaiting_25 fX9_11 hA.1 ?_
  refine wp_aload_n dX9_startWaiting_28 rfl ?_
  refine wp_getI dX9_startWaiting_29 fX9_15 hA.1 ?_
  rw [hat]
  refine wp_iconst dX9_startWaiting_32 ?_
  refine wp_iadd dX9_startWaiting_33 ⟨by omega, by omega⟩ ?_
  refine wp_iload_n dX9_startWaiting_34 rfl ?_
  refine wp_iast dX9_startWaiting_35 hA.2.2.1 (by omega) (by omega) ?_
  rw [uI_eq, uA_s, uA_uA]
  refine wp_return dX9_startWaiting_36 rfl ?_
  exact k _ (((hR.wr hp (cm_wai hq)).wr hp (cm_frm hq)).inv (by omega) (by rw [h0, show 7 + 71 * p + 28 * 1 + 3 = 3 + 71 * p + 35 by omega]; exact hid hp (by omega)))
theorem c_promise {c : Int} (hA : SdA sh iv rv i wd p q) (hR : Rel w N) (hm : 0 ≤ N (61 * p + (33 + q)) ∧ N (61 * p + (33 + q)) < 4) (k : ∀ w', Rel w' (up (up N (61 * p + (35 + 4 * q + N (61 * p + (33 + q)))) c) (61 * p + (33 + q)) (N (61 * p + (33 + q)) + 1)) → R none sh (uA iv wd w') lw rv) : wp (d) mX9_promise 0 [some (aR i), some (aI c), none] [] sh (uA iv wd w) lw rv 0 0 R := by
  have hat := hA.at
  have hp := hA.2.2.2.2.2.1
  have hq := hA.2.2.2.2.2.2
  refine wp_aload_n dX9_promise_0 rfl ?_
  refine wp_getR hA.2.1 dX9_promise_1 fX9_11 hA.1 ?_
  refine wp_aload_n dX9_promise_4 rfl ?_
  refine wp_getI dX9_promise_5 fX9_15 hA.1 ?_
  rw [hat]
  refine wp_iconst dX9_promise_8 ?_
  refine wp_iadd dX9_promise_9 ⟨by omega, by omega⟩ ?_
  refine wp_iald dX9_promise_10 hA.2.2.1 (by omega) (by omega) ?_
  rw [uA_s]
  rw [hR.rd hp (cm_pmn hq)]
  refine wp_istore_n (ls' := [_, _, _]) dX9_promise_11 (by decide) rfl rfl ?_
  refine wp_iload_n dX9_promise_12 rfl ?_
  refine wp_if_lt (tgt := 49) dX9_promise_13 rfl (fun h13 => by exfalso; omega) (fun h13 => ?_)
  refine wp_iload_n dX9_promise_16 rfl ?_
  refine wp_iconst dX9_promise_17 ?_
  refine wp_icmp_ge (tgt := 49) dX9_promise_18 rfl (fun h18 => by exfalso; omega) (fun h18 => ?_)
  refine wp_aload_n dX9_promise_21 rfl ?_
  refine wp_getR hA.2.1 dX9_promise_22 fX9_11 hA.1 ?_
  refine wp_aload_n dX9_promise_25 rfl ?_
  refine wp_getI dX9_promise_26 fX9_15 hA.1 ?_
  rw [hat]
  refine wp_iconst dX9_promise_29 ?_
  refine wp_iadd dX9_promise_30 ⟨by omega, by omega⟩ ?_
  refine wp_iload_n dX9_promise_31 rfl ?_
  refine wp_iadd dX9_promise_32 ⟨by omega, by omega⟩ ?_
  refine wp_iload_n dX9_promise_33 rfl ?_
  refine wp_iast dX9_promise_34 hA.2.2.1 (by omega) (by omega) ?_
  rw [uI_eq, uA_s, uA_uA]
  refine wp_aload_n dX9_promise_35 rfl ?_
  refine wp_getR hA.2.1 dX9_promise_36 fX9_11 hA.1 ?_
  refine wp_aload_n dX9_promise_39 rfl ?_
  refine wp_getI dX9_promise_40 fX9_15 hA.1 ?_
  rw [hat]
  refine wp_iconst dX9_promise_43 ?_
  refine wp_iadd dX9_promise_44 ⟨by omega, by omega⟩ ?_
  refine wp_iload_n dX9_promise_45 rfl ?_
  refine wp_iconst dX9_promise_46 ?_
  refine wp_iadd dX9_promise_47 ⟨by omega, by omega⟩ ?_
  refine wp_iast dX9_promise_48 hA.2.2.1 (by omega) (by omega) ?_
  rw [uI_eq, uA_s, uA_uA]
  refine wp_return dX9_promise_49 rfl ?_
  exact k _ ((hR.wr hp (cm_prm hq (by omega))).wr hp (cm_pmn hq))
theorem c_numberAt {c : Int} (hA : SdA sh iv rv i wd p q) (hR : Rel w N) (hB : Bok W Of N) (k : R (some (aI (if 0 ≤ c ∧ c < N (61 * p + mq q) then N (61 * p + (bq q + c)) else -1))) sh (uA iv wd w) lw rv) : wp (d + 1) mX9_numberAt 0 [some (aR i), some (aI c)] [] sh (uA iv wd w) lw rv 0 0 R := by
  have hat := hA.at
  have hp := hA.2.2.2.2.2.1
  have hq := hA.2.2.2.2.2.2
  have hm := hB.mny hp hq
  refine wp_iload_n dX9_numberAt_0 rfl ?_
  refine wp_if_lt (tgt := 29) dX9_numberAt_1 rfl (fun h1 => ?_) (fun h1 => ?_)
  · refine wp_iconst dX9_numberAt_29 ?_
    refine wp_ireturn dX9_numberAt_30 rfl ?_
    first | (rw [if_pos (by omega)] at k; rw [hR.rd hp (cm_cel hq (by omega))]; exact k) | (rw [if_neg (by omega)] at k; exact k)
  · refine wp_iload_n dX9_numberAt_4 rfl ?_
    refine wp_aload_n dX9_numberAt_5 rfl ?_
    refine wp_callV (as := []) (ls0 := [_]) (kc := 0) (ks := 0) (bc' := 0) (bs' := 0) dX9_numberAt_6 vX9_23 hA.1 rfl rfl (Nat.le_of_ble_eq_true rfl) (Nat.le_of_ble_eq_true rfl) (by omega) (by omega) ?_
    refine c_size hA hR ?_
    refine wp_icmp_ge (tgt := 29) dX9_numberAt_9 rfl (fun h9 => ?_) (fun h9 => ?_)
    · refine wp_iconst dX9_numberAt_29 ?_
      refine wp_ireturn dX9_numberAt_30 rfl ?_
      first | (rw [if_pos (by omega)] at k; rw [hR.rd hp (cm_cel hq (by omega))]; exact k) | (rw [if_neg (by omega)] at k; exact k)
    · refine wp_aload_n dX9_numberAt_12 rfl ?_
      refine wp_getR hA.2.1 dX9_numberAt_13 fX9_11 hA.1 ?_
      refine wp_aload_n dX9_numberAt_16 rfl ?_
      refine wp_getI dX9_numberAt_17 fX9_15 hA.1 ?_
      rw [hat]
      refine wp_bipush dX9_numberAt_20 ?_
      refine wp_iadd dX9_numberAt_22 ⟨by omega, by omega⟩ ?_
      refine wp_iload_n dX9_numberAt_23 rfl ?_
      refine wp_iadd dX9_numberAt_24 ⟨by omega, by omega⟩ ?_
      refine wp_iald dX9_numberAt_25 hA.2.2.1 (by omega) (by omega) ?_
      rw [uA_s]
      refine wp_goto (tgt := 30) dX9_numberAt_26 rfl ?_
      refine wp_ireturn dX9_numberAt_30 rfl ?_
      first | (rw [if_pos (by omega)] at k; rw [hR.rd hp (cm_cel hq (by omega))]; exact k) | (rw [if_neg (by omega)] at k; exact k)
theorem c_hasRoom (hA : SdA sh iv rv i wd p q) (hR : Rel w N) (kt : N (61 * p + mq q) < 6 → R (some (aI 1)) sh (uA iv wd w) lw rv) (kf : ¬ (N (61 * p + mq q) < 6) → R (some (aI 0)) sh (uA iv wd w) lw rv) : wp (d + 1) mX9_hasRoom 0 [some (aR i)] [] sh (uA iv wd w) lw rv 0 0 R := by
  have hat := hA.at
  have hp := hA.2.2.2.2.2.1
  have hq := hA.2.2.2.2.2.2
  refine wp_aload_n dX9_hasRoom_0 rfl ?_
  refine wp_callV (as := []) (ls0 := [_]) (kc := 0) (ks := 0) (bc' := 0) (bs' := 0) dX9_hasRoom_1 vX9_23 hA.1 rfl rfl (Nat.le_of_ble_eq_true rfl) (Nat.le_of_ble_eq_true rfl) (by omega) (by omega) ?_
  refine c_size hA hR ?_
  refine wp_bipush dX9_hasRoom_4 ?_
  refine wp_icmp_ge (tgt := 13) dX9_hasRoom_6 rfl (fun h6 => ?_) (fun h6 => ?_)
  · refine wp_iconst dX9_hasRoom_13 ?_
    refine wp_zreturn dX9_hasRoom_14 rfl (Or.inl rfl) ?_
    exact kf (by omega)
  · refine wp_iconst dX9_hasRoom_9 ?_
    refine wp_goto (tgt := 14) dX9_hasRoom_10 rfl ?_
    refine wp_zreturn dX9_hasRoom_14 rfl (Or.inr rfl) ?_
    exact kt (by omega)
theorem l_put {c n : Int} (hA : SdA sh iv rv i wd p q) (hn : 0 ≤ n ∧ n < 6) (m : Nat) : ∀ (j : Int) (w N : Int → Int), j = m → j ≤ n → Rel w N → (∀ w', Rel w' (insL p q c n m j N) → R none sh (uA iv wd w') lw rv) → wp (d + 1) mX9_put 27 [some (aR i), some (aI c), some (aI n), some (aI j)] [] sh (uA iv wd w) lw rv 0 0 R := by
  have hat := hA.at
  have hp := hA.2.2.2.2.2.1
  have hq := hA.2.2.2.2.2.2
  have hE : ∀ (j : Int) (w N : Int → Int), 0 ≤ j → j ≤ n → Rel w N → Rel (up (up (up (up w (7 + 71 * p + 28 * q + 10 + j) c) (7 + 71 * p + 28 * q + 16 + j) 0) (7 + 71 * p + 28 * q + 22 + j) 0) (7 + 71 * p + 28 * q + 9) (n + 1)) (insE N p q c n j) := by
    intro j w N h0 h1 hR
    unfold insE
    rcases hq with rfl | rfl
    · rw [if_pos rfl]
      exact (((hR.wr hp (cm_cel (q := 0) (j := j) (Or.inl rfl) (by omega))).wr hp (cm_snt (j := j) (by omega))).wr hp (cm_got (j := j) (by omega))).wr hp (cm_mny (q := 0) (Or.inl rfl))
    · rw [if_neg (by decide)]
      exact (((hR.wr hp (cm_cel (q := 1) (j := j) (Or.inr rfl) (by omega))).inv (by omega) (by rw [show 7 + 71 * p + 28 * 1 + 16 + j = 3 + 71 * p + (48 + j) by omega]; exact hid hp (by omega))).inv (by omega) (by rw [show 7 + 71 * p + 28 * 1 + 22 + j = 3 + 71 * p + (54 + j) by omega]; exact hid hp (by omega))).wr hp (cm_mny (q := 1) (Or.inr rfl))
  induction m with
  | zero =>
    intro j w N hj hjn hR k
    refine wp_iload_n dX9_put_27 rfl ?_
    refine wp_if_le (tgt := 65) dX9_put_28 rfl (fun h28 => ?_) (fun h28 => by exfalso; omega)
    refine wp_aload_n dX9_put_65 rfl ?_
    refine wp_getR hA.2.1 dX9_put_66 fX9_11 hA.1 ?_
    refine wp_aload_n dX9_put_69 rfl ?_
    refine wp_getI dX9_put_70 fX9_15 hA.1 ?_
    rw [hat]
    refine wp_bipush dX9_put_73 ?_
    refine wp_iadd dX9_put_75 ⟨by omega, by omega⟩ ?_
    refine wp_iload_n dX9_put_76 rfl ?_
    refine wp_iadd dX9_put_77 ⟨by omega, by omega⟩ ?_
    refine wp_iload_n dX9_put_78 rfl ?_
    refine wp_iast dX9_put_79 hA.2.2.1 (by omega) (by omega) ?_
    rw [uI_eq, uA_s, uA_uA]
    refine wp_aload_n dX9_put_80 rfl ?_
    refine wp_getR hA.2.1 dX9_put_81 fX9_11 hA.1 ?_
    refine wp_aload_n dX9_put_84 rfl ?_
    refine wp_getI dX9_put_85 fX9_15 hA.1 ?_
    rw [hat]
    refine wp_bipush dX9_put_88 ?_
    refine wp_iadd dX9_put_90 ⟨by omega, by omega⟩ ?_
    refine wp_iload_n dX9_put_91 rfl ?_
    refine wp_iadd dX9_put_92 ⟨by omega, by omega⟩ ?_
    refine wp_iconst dX9_put_93 ?_
    refine wp_iast dX9_put_94 hA.2.2.1 (by omega) (by omega) ?_
    rw [uI_eq, uA_s, uA_uA]
    refine wp_aload_n dX9_put_95 rfl ?_
    refine wp_getR hA.2.1 dX9_put_96 fX9_11 hA.1 ?_
    refine wp_aload_n dX9_put_99 rfl ?_
    refine wp_getI dX9_put_100 fX9_15 hA.1 ?_
    rw [hat]
    refine wp_bipush dX9_put_103 ?_
    refine wp_iadd dX9_put_105 ⟨by omega, by omega⟩ ?_
    refine wp_iload_n dX9_put_106 rfl ?_
    refine wp_iadd dX9_put_107 ⟨by omega, by omega⟩ ?_
    refine wp_iconst dX9_put_108 ?_
    refine wp_iast dX9_put_109 hA.2.2.1 (by omega) (by omega) ?_
    rw [uI_eq, uA_s, uA_uA]
    refine wp_aload_n dX9_put_110 rfl ?_
    refine wp_getR hA.2.1 dX9_put_111 fX9_11 hA.1 ?_
    refine wp_aload_n dX9_put_114 rfl ?_
    refine wp_getI dX9_put_115 fX9_15 hA.1 ?_
    rw [hat]
    refine wp_bipush dX9_put_118 ?_
    refine wp_iadd dX9_put_120 ⟨by omega, by omega⟩ ?_
    refine wp_iload_n dX9_put_121 rfl ?_
    refine wp_iconst dX9_put_122 ?_
    refine wp_iadd dX9_put_123 ⟨by omega, by omega⟩ ?_
    refine wp_iast dX9_put_124 hA.2.2.1 (by omega) (by omega) ?_
    rw [uI_eq, uA_s, uA_uA]
    refine wp_return dX9_put_125 rfl ?_
    exact k _ (hE j w N (by omega) hjn hR)
  | succ m ih =>
    intro j w N hj hjn hR k
    have ecj : w (7 + 71 * p + 28 * q + 10 + j - 1) = N (61 * p + (bq q + (j - 1))) := by
      rw [show 7 + 71 * p + 28 * q + 10 + j - 1 = 7 + 71 * p + 28 * q + 10 + (j - 1) by omega]; exact hR.rd hp (cm_cel hq (by omega))
    refine wp_iload_n dX9_put_27 rfl ?_
    refine wp_if_le (tgt := 65) dX9_put_28 rfl (fun h28 => by exfalso; omega) (fun h28 => ?_)
    refine wp_aload_n dX9_put_31 rfl ?_
    refine wp_getR hA.2.1 dX9_put_32 fX9_11 hA.1 ?_
    refine wp_aload_n dX9_put_35 rfl ?_
    refine wp_getI dX9_put_36 fX9_15 hA.1 ?_
    rw [hat]
    refine wp_bipush dX9_put_39 ?_
    refine wp_iadd dX9_put_41 ⟨by omega, by omega⟩ ?_
    refine wp_iload_n dX9_put_42 rfl ?_
    refine wp_iadd dX9_put_43 ⟨by omega, by omega⟩ ?_
    refine wp_iconst dX9_put_44 ?_
    refine wp_isub dX9_put_45 ⟨by omega, by omega⟩ ?_
    refine wp_iald dX9_put_46 hA.2.2.1 (by omega) (by omega) ?_
    rw [uA_s]
    rw [ecj]
    refine wp_iload_n dX9_put_47 rfl ?_
    refine wp_icmp_le (tgt := 65) dX9_put_48 rfl (fun h48 => ?_) (fun h48 => ?_)
    · refine wp_aload_n dX9_put_65 rfl ?_
      refine wp_getR hA.2.1 dX9_put_66 fX9_11 hA.1 ?_
      refine wp_aload_n dX9_put_69 rfl ?_
      refine wp_getI dX9_put_70 fX9_15 hA.1 ?_
      rw [hat]
      refine wp_bipush dX9_put_73 ?_
      refine wp_iadd dX9_put_75 ⟨by omega, by omega⟩ ?_
      refine wp_iload_n dX9_put_76 rfl ?_
      refine wp_iadd dX9_put_77 ⟨by omega, by omega⟩ ?_
      refine wp_iload_n dX9_put_78 rfl ?_
      refine wp_iast dX9_put_79 hA.2.2.1 (by omega) (by omega) ?_
      rw [uI_eq, uA_s, uA_uA]
      refine wp_aload_n dX9_put_80 rfl ?_
      refine wp_getR hA.2.1 dX9_put_81 fX9_11 hA.1 ?_
      refine wp_aload_n dX9_put_84 rfl ?_
      refine wp_getI dX9_put_85 fX9_15 hA.1 ?_
      rw [hat]
      refine wp_bipush dX9_put_88 ?_
      refine wp_iadd dX9_put_90 ⟨by omega, by omega⟩ ?_
      refine wp_iload_n dX9_put_91 rfl ?_
      refine wp_iadd dX9_put_92 ⟨by omega, by omega⟩ ?_
      refine wp_iconst dX9_put_93 ?_
      refine wp_iast dX9_put_94 hA.2.2.1 (by omega) (by omega) ?_
      rw [uI_eq, uA_s, uA_uA]
      refine wp_aload_n dX9_put_95 rfl ?_
      refine wp_getR hA.2.1 dX9_put_96 fX9_11 hA.1 ?_
      refine wp_aload_n dX9_put_99 rfl ?_
      refine wp_getI dX9_put_100 fX9_15 hA.1 ?_
      rw [hat]
      refine wp_bipush dX9_put_103 ?_
      refine wp_iadd dX9_put_105 ⟨by omega, by omega⟩ ?_
      refine wp_iload_n dX9_put_106 rfl ?_
      refine wp_iadd dX9_put_107 ⟨by omega, by omega⟩ ?_
      refine wp_iconst dX9_put_108 ?_
      refine wp_iast dX9_put_109 hA.2.2.1 (by omega) (by omega) ?_
      rw [uI_eq, uA_s, uA_uA]
      refine wp_aload_n dX9_put_110 rfl ?_
      refine wp_getR hA.2.1 dX9_put_111 fX9_11 hA.1 ?_
      refine wp_aload_n dX9_put_114 rfl ?_
      refine wp_getI dX9_put_115 fX9_15 hA.1 ?_
      rw [hat]
      refine wp_bipush dX9_put_118 ?_
      refine wp_iadd dX9_put_120 ⟨by omega, by omega⟩ ?_
      refine wp_iload_n dX9_put_121 rfl ?_
      refine wp_iconst dX9_put_122 ?_
      refine wp_iadd dX9_put_123 ⟨by omega, by omega⟩ ?_
      refine wp_iast dX9_put_124 hA.2.2.1 (by omega) (by omega) ?_
      rw [uI_eq, uA_s, uA_uA]
      refine wp_return dX9_put_125 rfl ?_
      rw [insL, if_pos h48] at k; exact k _ (hE j w N (by omega) hjn hR)
    · refine wp_aload_n dX9_put_51 rfl ?_
      refine wp_iload_n dX9_put_52 rfl ?_
      refine wp_iconst dX9_put_53 ?_
      refine wp_isub dX9_put_54 ⟨by omega, by omega⟩ ?_
      refine wp_iload_n dX9_put_55 rfl ?_
      refine wp_callV (as := [_, _]) (ls0 := [_, _, _]) (kc := 0) (ks := 0) (bc' := 0) (bs' := 0) dX9_put_56 vX9_31 hA.1 rfl rfl (Nat.le_of_ble_eq_true rfl) (Nat.le_of_ble_eq_true rfl) (by omega) (by omega) ?_
      refine c_shift hA hR (by omega) (by omega) (fun w56 hR56 => ?_)
      refine wp_iinc (ls' := [_, _, _, _]) dX9_put_59 (by decide) rfl rfl ⟨by omega, by omega⟩ rfl ?_
      refine wp_goto (tgt := 27) dX9_put_62 rfl ?_
      exact ih _ _ _ (by omega) (by omega) hR56 (by rw [insL, if_neg h48] at k; exact k)
theorem c_put {c : Int} (hA : SdA sh iv rv i wd p q) (hR : Rel w N) (hB : Bok W Of N) (k : ∀ w', Rel w' (insF N p q c) → R none sh (uA iv wd w') lw rv) : wp (d + 1) mX9_put 0 [some (aR i), some (aI c), none, none] [] sh (uA iv wd w) lw rv 0 0 R := by
  have hat := hA.at
  have hp := hA.2.2.2.2.2.1
  have hq := hA.2.2.2.2.2.2
  have hm := hB.mny hp hq
  refine wp_aload_n dX9_put_0 rfl ?_
  refine wp_callV (as := []) (ls0 := [_]) (kc := 0) (ks := 0) (bc' := 0) (bs' := 0) dX9_put_1 vX9_23 hA.1 rfl rfl (Nat.le_of_ble_eq_true rfl) (Nat.le_of_ble_eq_true rfl) (by omega) (by omega) ?_
  refine c_size hA hR ?_
  refine wp_istore_n (ls' := [_, _, _, _]) dX9_put_4 (by decide) rfl rfl ?_
  refine wp_iload_n dX9_put_5 rfl ?_
  refine wp_if_lt (tgt := 24) dX9_put_6 rfl (fun h6 => by exfalso; omega) (fun h6 => ?_)
  refine wp_iload_n dX9_put_9 rfl ?_
  refine wp_bipush dX9_put_10 ?_
  refine wp_icmp_ge (tgt := 24) dX9_put_12 rfl (fun h12 => ?_) (fun h12 => ?_)
  · refine wp_return dX9_put_24 rfl ?_
    rw [insF] at k
    split at k
    · exact k _ hR
    · rename_i hh
      first | exact absurd (Or.inl (by omega)) hh | exact absurd (Or.inr h21) hh
  · refine wp_aload_n dX9_put_15 rfl ?_
    refine wp_iload_n dX9_put_16 rfl ?_
    refine wp_callV (as := [_]) (ls0 := [_, _, _, _]) (kc := 0) (ks := 0) (bc' := 0) (bs' := 0) dX9_put_17 vX9_27 hA.1 rfl rfl (Nat.le_of_ble_eq_true rfl) (Nat.le_of_ble_eq_true rfl) (by omega) (by omega) ?_
    refine c_placeOf hA hR hB ?_
    refine wp_iconst dX9_put_20 ?_
    refine wp_icmp_eq (tgt := 25) dX9_put_21 rfl (fun h21 => ?_) (fun h21 => ?_)
    · refine wp_iload_n dX9_put_25 rfl ?_
      refine wp_istore_n (ls' := [_, _, _, _]) dX9_put_26 (by decide) rfl rfl ?_
      exact l_put hA (by omega) (N (61 * p + mq q)).toNat _ _ _ (by omega) (by omega) hR (by rw [insF, if_neg (fun z => z.elim (by omega) (fun y => y h21))] at k; exact k)
    · refine wp_return dX9_put_24 rfl ?_
      rw [insF] at k
      split at k
      · exact k _ hR
      · rename_i hh
        first | exact absurd (Or.inl (by omega)) hh | exact absurd (Or.inr h21) hh
theorem l_takeOut {c z n : Int} (hA : SdA sh iv rv i wd p q) (hn : 1 ≤ n ∧ n ≤ 6) (m : Nat) : ∀ (j : Int) (w N : Int → Int), 0 ≤ j → j + 1 + m = n → Rel w N → (∀ w', Rel w' (remL p q m (j + 1) N) → R (some (aI 1)) sh (uA iv wd (up w' (7 + 71 * p + 28 * q + 9) (n - 1))) lw rv) → wp (d + 1) mX9_takeOut 23 [some (aR i), some (aI c), some (aI z), some (aI (n - 1)), some (aI j)] [] sh (uA iv wd w) lw rv 0 0 R := by
  have hat := hA.at
  have hp := hA.2.2.2.2.2.1
  have hq := hA.2.2.2.2.2.2
  induction m with
  | zero =>
    intro j w N h0 hm hR k
    refine wp_iload dX9_takeOut_23 rfl ?_
    refine wp_iload_n dX9_takeOut_25 rfl ?_
    refine wp_icmp_ge (tgt := 45) dX9_takeOut_26 rfl (fun h26 => ?_) (fun h26 => by exfalso; omega)
    refine wp_aload_n dX9_takeOut_45 rfl ?_
    refine wp_getR hA.2.1 dX9_takeOut_46 fX9_11 hA.1 ?_
    refine wp_aload_n dX9_takeOut_49 rfl ?_
    refine wp_getI dX9_takeOut_50 fX9_15 hA.1 ?_
    rw [hat]
    refine wp_bipush dX9_takeOut_53 ?_
    refine wp_iadd dX9_takeOut_55 ⟨by omega, by omega⟩ ?_
    refine wp_iload_n dX9_takeOut_56 rfl ?_
    refine wp_iast dX9_takeOut_57 hA.2.2.1 (by omega) (by omega) ?_
    rw [uI_eq, uA_s, uA_uA]
    refine wp_iconst dX9_takeOut_58 ?_
    refine wp_zreturn dX9_takeOut_59 rfl (Or.inr rfl) ?_
    exact k _ hR
  | succ m ih =>
    intro j w N h0 hm hR k
    refine wp_iload dX9_takeOut_23 rfl ?_
    refine wp_iload_n dX9_takeOut_25 rfl ?_
    refine wp_icmp_ge (tgt := 45) dX9_takeOut_26 rfl (fun h26 => by exfalso; omega) (fun h26 => ?_)
    refine wp_aload_n dX9_takeOut_29 rfl ?_
    refine wp_iload dX9_takeOut_30 rfl ?_
    refine wp_iconst dX9_takeOut_32 ?_
    refine wp_iadd dX9_takeOut_33 ⟨by omega, by omega⟩ ?_
    refine wp_iload dX9_takeOut_34 rfl ?_
    refine wp_callV (as := [_, _]) (ls0 := [_, _, _]) (kc := 0) (ks := 0) (bc' := 0) (bs' := 0) dX9_takeOut_36 vX9_31 hA.1 rfl rfl (Nat.le_of_ble_eq_true rfl) (Nat.le_of_ble_eq_true rfl) (by omega) (by omega) ?_
    refine c_shift hA hR (by omega) (by omega) (fun w36 hR36 => ?_)
    refine wp_iinc (ls' := [_, _, _, _, _]) dX9_takeOut_39 (by decide) rfl rfl ⟨by omega, by omega⟩ rfl ?_
    refine wp_goto (tgt := 23) dX9_takeOut_42 rfl ?_
    refine ih _ w36 (sh3 N p q (j + 1) (j + 1 - 1)) (by omega) (by omega) (by rw [show j + 1 - 1 = j by omega]; exact hR36) (fun w' hw' => k w' ?_)
    rw [remL]; exact hw'
theorem c_takeOut {c : Int} (hA : SdA sh iv rv i wd p q) (hR : Rel w N) (hB : Bok W Of N) (kt : ¬ plc N p q c = -1 → ∀ w', Rel w' (remF N p q c) → R (some (aI 1)) sh (uA iv wd w') lw rv) (kf : plc N p q c = -1 → R (some (aI 0)) sh (uA iv wd w) lw rv) : wp (d + 1) mX9_takeOut 0 [some (aR i), some (aI c), none, none, none] [] sh (uA iv wd w) lw rv 0 0 R := by
  have hat := hA.at
  have hp := hA.2.2.2.2.2.1
  have hq := hA.2.2.2.2.2.2
  have hm := hB.mny hp hq
  have hpl := plc_r (N := N) (p := p) (q := q) (c := c) hm.1
  refine wp_aload_n dX9_takeOut_0 rfl ?_
  refine wp_iload_n dX9_takeOut_1 rfl ?_
  refine wp_callV (as := [_]) (ls0 := [_, _, _, _]) (kc := 0) (ks := 0) (bc' := 0) (bs' := 0) dX9_takeOut_2 vX9_27 hA.1 rfl rfl (Nat.le_of_ble_eq_true rfl) (Nat.le_of_ble_eq_true rfl) (by omega) (by omega) ?_
  refine c_placeOf hA hR hB ?_
  refine wp_istore_n (ls' := [_, _, _, _, _]) dX9_takeOut_5 (by decide) rfl rfl ?_
  refine wp_iload_n dX9_takeOut_6 rfl ?_
  refine wp_iconst dX9_takeOut_7 ?_
  refine wp_icmp_ne (tgt := 13) dX9_takeOut_8 rfl (fun h8 => ?_) (fun h8 => ?_)
  · refine wp_aload_n dX9_takeOut_13 rfl ?_
    refine wp_callV (as := []) (ls0 := [_]) (kc := 0) (ks := 0) (bc' := 0) (bs' := 0) dX9_takeOut_14 vX9_23 hA.1 rfl rfl (Nat.le_of_ble_eq_true rfl) (Nat.le_of_ble_eq_true rfl) (by omega) (by omega) ?_
    refine c_size hA hR ?_
    refine wp_iconst dX9_takeOut_17 ?_
    refine wp_isub dX9_takeOut_18 ⟨by omega, by omega⟩ ?_
    refine wp_istore_n (ls' := [_, _, _, _, _]) dX9_takeOut_19 (by decide) rfl rfl ?_
    refine wp_iload_n dX9_takeOut_20 rfl ?_
    refine wp_istore (ls' := [_, _, _, _, _]) dX9_takeOut_21 (by decide) rfl rfl ?_
    refine l_takeOut hA (by omega) (N (61 * p + mq q) - (plc N p q c + 1)).toNat _ _ _ (by omega) (by omega) hR (fun w' hw' => ?_)
    refine kt h8 _ ?_
    rw [remF, if_neg h8]
    have r := hw'.wr (v := N (61 * p + mq q) - 1) hp (cm_mny hq)
    rw [remL_m hq _ _ _ (by omega) (by omega)]
    exact r
  · refine wp_iconst dX9_takeOut_11 ?_
    refine wp_zreturn dX9_takeOut_12 rfl (Or.inl rfl) ?_
    exact kf h8
theorem c_countSent {c : Int} (hA : SdA sh iv rv i wd p q) (hR : Rel w N) (hB : Bok W Of N) (h0 : q = 0) (hc : 0 ≤ c ∧ c < N (61 * p + mq q)) (k : ∀ w', Rel w' (up N (61 * p + (6 + c)) (mnI 999 (N (61 * p + (6 + c)) + 1))) → R none sh (uA iv wd w') lw rv) : wp (d + 1) mX9_countSent 0 [some (aR i), some (aI c)] [] sh (uA iv wd w) lw rv 0 0 R := by
  have hat := hA.at
  have hp := hA.2.2.2.2.2.1
  have hq := hA.2.2.2.2.2.2
  have hm := hB.mny hp hq
  subst h0
  have hkk := hB p (6 + c) hp.1 hp.2 (by omega) (by omega)
  rw [k999 (by omega)] at hkk
  have erd := hR.rd hp (cm_snt (p := p) (j := c) (by omega))
  refine wp_iload_n dX9_countSent_0 rfl ?_
  refine wp_if_lt (tgt := 50) dX9_countSent_1 rfl (fun h1 => by exfalso; omega) (fun h1 => ?_)
  refine wp_iload_n dX9_countSent_4 rfl ?_
  refine wp_aload_n dX9_countSent_5 rfl ?_
  refine wp_callV (as := []) (ls0 := [_]) (kc := 0) (ks := 0) (bc' := 0) (bs' := 0) dX9_countSent_6 vX9_23 hA.1 rfl rfl (Nat.le_of_ble_eq_true rfl) (Nat.le_of_ble_eq_true rfl) (by omega) (by omega) ?_
  refine c_size hA hR ?_
  refine wp_icmp_ge (tgt := 50) dX9_countSent_9 rfl (fun h9 => by exfalso; omega) (fun h9 => ?_)
  refine wp_aload_n dX9_countSent_12 rfl ?_
  refine wp_getR hA.2.1 dX9_countSent_13 fX9_11 hA.1 ?_
  refine wp_aload_n dX9_countSent_16 rfl ?_
  refine wp_getI dX9_countSent_17 fX9_15 hA.1 ?_
  rw [hat]
  refine wp_bipush dX9_countSent_20 ?_
  refine wp_iadd dX9_countSent_22 ⟨by omega, by omega⟩ ?_
  refine wp_iload_n dX9_countSent_23 rfl ?_
  refine wp_iadd dX9_countSent_24 ⟨by omega, by omega⟩ ?_
  refine wp_iald dX9_countSent_25 hA.2.2.1 (by omega) (by omega) ?_
  rw [uA_s]
  rw [erd]
  refine wp_sipush dX9_countSent_26 ?_
  refine wp_icmp_ge (tgt := 50) dX9_countSent_29 rfl (fun h29 => ?_) (fun h29 => ?_)
  · refine wp_return dX9_countSent_50 rfl ?_
    first
    | (have r := hR.wr (v := mnI 999 (N (61 * p + (6 + c)) + 1)) hp (cm_snt (p := p) (j := c) (by omega))
       rw [show mnI 999 (N (61 * p + (6 + c)) + 1) = N (61 * p + (6 + c)) + 1 by unfold mnI; split <;> omega] at r k
       exact k _ r)
    | (refine k _ ?_
       rw [show mnI 999 (N (61 * p + (6 + c)) + 1) = N (61 * p + (6 + c)) by unfold mnI; split <;> omega]
       rw [up_id]
       exact hR)
  · refine wp_aload_n dX9_countSent_32 rfl ?_
    refine wp_getR hA.2.1 dX9_countSent_33 fX9_11 hA.1 ?_
    refine wp_aload_n dX9_countSent_36 rfl ?_
    refine wp_getI dX9_countSent_37 fX9_15 hA.1 ?_
    rw [hat]
    refine wp_bipush dX9_countSent_40 ?_
    refine wp_iadd dX9_countSent_42 ⟨by omega, by omega⟩ ?_
    refine wp_iload_n dX9_countSent_43 rfl ?_
    refine wp_iadd dX9_countSent_44 ⟨by omega, by omega⟩ ?_
    refine wp_dup2 dX9_countSent_45 rfl rfl ?_
    refine wp_iald dX9_countSent_46 hA.2.2.1 (by omega) (by omega) ?_
    rw [uA_s]
    rw [erd]
    refine wp_iconst dX9_countSent_47 ?_
    refine wp_iadd dX9_countSent_48 ⟨by omega, by omega⟩ ?_
    refine wp_iast dX9_countSent_49 hA.2.2.1 (by omega) (by omega) ?_
    rw [uI_eq, uA_s, uA_uA]
    refine wp_return dX9_countSent_50 rfl ?_
    first
    | (have r := hR.wr (v := mnI 999 (N (61 * p + (6 + c)) + 1)) hp (cm_snt (p := p) (j := c) (by omega))
       rw [show mnI 999 (N (61 * p + (6 + c)) + 1) = N (61 * p + (6 + c)) + 1 by unfold mnI; split <;> omega] at r k
       exact k _ r)
    | (refine k _ ?_
       rw [show mnI 999 (N (61 * p + (6 + c)) + 1) = N (61 * p + (6 + c)) by unfold mnI; split <;> omega]
       rw [up_id]
       exact hR)
theorem c_countGot {c : Int} (hA : SdA sh iv rv i wd p q) (hR : Rel w N) (hB : Bok W Of N) (h0 : q = 0) (hc : 0 ≤ c ∧ c < N (61 * p + mq q)) (k : ∀ w', Rel w' (up N (61 * p + (12 + c)) (mnI 999 (N (61 * p + (12 + c)) + 1))) → R none sh (uA iv wd w') lw rv) : wp (d + 1) mX9_countGot 0 [some (aR i), some (aI c)] [] sh (uA iv wd w) lw rv 0 0 R := by
  have hat := hA.at
  have hp := hA.2.2.2.2.2.1
  have hq := hA.2.2.2.2.2.2
  have hm := hB.mny hp hq
  subst h0
  have hkk := hB p (12 + c) hp.1 hp.2 (by omega) (by omega)
  rw [k999 (by omega)] at hkk
  have erd := hR.rd hp (cm_got (p := p) (j := c) (by omega))
  refine wp_iload_n dX9_countGot_0 rfl ?_
  refine wp_if_lt (tgt := 50) dX9_countGot_1 rfl (fun h1 => by exfalso; omega) (fun h1 => ?_)
  refine wp_iload_n dX9_countGot_4 rfl ?_
  refine wp_aload_n dX9_countGot_5 rfl ?_
  refine wp_callV (as := []) (ls0 := [_]) (kc := 0) (ks := 0) (bc' := 0) (bs' := 0) dX9_countGot_6 vX9_23 hA.1 rfl rfl (Nat.le_of_ble_eq_true rfl) (Nat.le_of_ble_eq_true rfl) (by omega) (by omega) ?_
  refine c_size hA hR ?_
  refine wp_icmp_ge (tgt := 50) dX9_countGot_9 rfl (fun h9 => by exfalso; omega) (fun h9 => ?_)
  refine wp_aload_n dX9_countGot_12 rfl ?_
  refine wp_getR hA.2.1 dX9_countGot_13 fX9_11 hA.1 ?_
  refine wp_aload_n dX9_countGot_16 rfl ?_
  refine wp_getI dX9_countGot_17 fX9_15 hA.1 ?_
  rw [hat]
  refine wp_bipush dX9_countGot_20 ?_
  refine wp_iadd dX9_countGot_22 ⟨by omega, by omega⟩ ?_
  refine wp_iload_n dX9_countGot_23 rfl ?_
  refine wp_iadd dX9_countGot_24 ⟨by omega, by omega⟩ ?_
  refine wp_iald dX9_countGot_25 hA.2.2.1 (by omega) (by omega) ?_
  rw [uA_s]
  rw [erd]
  refine wp_sipush dX9_countGot_26 ?_
  refine wp_icmp_ge (tgt := 50) dX9_countGot_29 rfl (fun h29 => ?_) (fun h29 => ?_)
  · refine wp_return dX9_countGot_50 rfl ?_
    first
    | (have r := hR.wr (v := mnI 999 (N (61 * p + (12 + c)) + 1)) hp (cm_got (p := p) (j := c) (by omega))
       rw [show mnI 999 (N (61 * p + (12 + c)) + 1) = N (61 * p + (12 + c)) + 1 by unfold mnI; split <;> omega] at r k
       exact k _ r)
    | (refine k _ ?_
       rw [show mnI 999 (N (61 * p + (12 + c)) + 1) = N (61 * p + (12 + c)) by unfold mnI; split <;> omega]
       rw [up_id]
       exact hR)
  · refine wp_aload_n dX9_countGot_32 rfl ?_
    refine wp_getR hA.2.1 dX9_countGot_33 fX9_11 hA.1 ?_
    refine wp_aload_n dX9_countGot_36 rfl ?_
    refine wp_getI dX9_countGot_37 fX9_15 hA.1 ?_
    rw [hat]
    refine wp_bipush dX9_countGot_40 ?_
    refine wp_iadd dX9_countGot_42 ⟨by omega, by omega⟩ ?_
    refine wp_iload_n dX9_countGot_43 rfl ?_
    refine wp_iadd dX9_countGot_44 ⟨by omega, by omega⟩ ?_
    refine wp_dup2 dX9_countGot_45 rfl rfl ?_
    refine wp_iald dX9_countGot_46 hA.2.2.1 (by omega) (by omega) ?_
    rw [uA_s]
    rw [erd]
    refine wp_iconst dX9_countGot_47 ?_
    refine wp_iadd dX9_countGot_48 ⟨by omega, by omega⟩ ?_
    refine wp_iast dX9_countGot_49 hA.2.2.1 (by omega) (by omega) ?_
    rw [uI_eq, uA_s, uA_uA]
    refine wp_return dX9_countGot_50 rfl ?_
    first
    | (have r := hR.wr (v := mnI 999 (N (61 * p + (12 + c)) + 1)) hp (cm_got (p := p) (j := c) (by omega))
       rw [show mnI 999 (N (61 * p + (12 + c)) + 1) = N (61 * p + (12 + c)) + 1 by unfold mnI; split <;> omega] at r k
       exact k _ r)
    | (refine k _ ?_
       rw [show mnI 999 (N (61 * p + (12 + c)) + 1) = N (61 * p + (12 + c)) by unfold mnI; split <;> omega]
       rw [up_id]
       exact hR)
end C2
