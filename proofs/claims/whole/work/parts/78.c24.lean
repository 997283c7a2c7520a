/-- the past: object 45, log 46, states 47, loggedThen 48, imageState 49, imageLog 50; with the words 12 -/
def PW (iv : aF) (f L T w I J : Int → Int) : aF := uA (uA (uA (uA (uA (uA iv 45 f) 46 L) 48 T) 12 w) 49 I) 50 J
section C24a
variable {iv : aF} {f L T w I J g : Int → Int} {k v : Int}
theorem PW45 : PW iv f L T w I J 45 = f := by unfold PW; rw [uA_n (by decide), uA_n (by decide), uA_n (by decide), uA_n (by decide), uA_n (by decide), uA_s]
theorem PWa45 : uA (PW iv f L T w I J) 45 g = PW iv g L T w I J := by unfold PW; rw [uA_c (show (45 : Nat) ≠ 50 by decide), uA_c (show (45 : Nat) ≠ 49 by decide), uA_c (show (45 : Nat) ≠ 12 by decide), uA_c (show (45 : Nat) ≠ 48 by decide), uA_c (show (45 : Nat) ≠ 46 by decide), uA_uA]
theorem PWu45 : uI (PW iv f L T w I J) 45 k v = PW iv (up f k v) L T w I J := by rw [uI_eq, PW45, PWa45]
theorem PW46 : PW iv f L T w I J 46 = L := by unfold PW; rw [uA_n (by decide), uA_n (by decide), uA_n (by decide), uA_n (by decide), uA_s]
theorem PWa46 : uA (PW iv f L T w I J) 46 g = PW iv f g T w I J := by unfold PW; rw [uA_c (show (46 : Nat) ≠ 50 by decide), uA_c (show (46 : Nat) ≠ 49 by decide), uA_c (show (46 : Nat) ≠ 12 by decide), uA_c (show (46 : Nat) ≠ 48 by decide), uA_uA]
theorem PWu46 : uI (PW iv f L T w I J) 46 k v = PW iv f (up L k v) T w I J := by rw [uI_eq, PW46, PWa46]
theorem PW48 : PW iv f L T w I J 48 = T := by unfold PW; rw [uA_n (by decide), uA_n (by decide), uA_n (by decide), uA_s]
theorem PWa48 : uA (PW iv f L T w I J) 48 g = PW iv f L g w I J := by unfold PW; rw [uA_c (show (48 : Nat) ≠ 50 by decide), uA_c (show (48 : Nat) ≠ 49 by decide), uA_c (show (48 : Nat) ≠ 12 by decide), uA_uA]
theorem PWu48 : uI (PW iv f L T w I J) 48 k v = PW iv f L (up T k v) w I J := by rw [uI_eq, PW48, PWa48]
theorem PW12 : PW iv f L T w I J 12 = w := by unfold PW; rw [uA_n (by decide), uA_n (by decide), uA_s]
theorem PWa12 : uA (PW iv f L T w I J) 12 g = PW iv f L T g I J := by unfold PW; rw [uA_c (show (12 : Nat) ≠ 50 by decide), uA_c (show (12 : Nat) ≠ 49 by decide), uA_uA]
theorem PWu12 : uI (PW iv f L T w I J) 12 k v = PW iv f L T (up w k v) I J := by rw [uI_eq, PW12, PWa12]
theorem PW49 : PW iv f L T w I J 49 = I := by unfold PW; rw [uA_n (by decide), uA_s]
theorem PWa49 : uA (PW iv f L T w I J) 49 g = PW iv f L T w g J := by unfold PW; rw [uA_c (show (49 : Nat) ≠ 50 by decide), uA_uA]
theorem PWu49 : uI (PW iv f L T w I J) 49 k v = PW iv f L T w (up I k v) J := by rw [uI_eq, PW49, PWa49]
theorem PW50 : PW iv f L T w I J 50 = J := by unfold PW; rw [uA_s]
theorem PWa50 : uA (PW iv f L T w I J) 50 g = PW iv f L T w I g := by unfold PW; rw [uA_uA]
theorem PWu50 : uI (PW iv f L T w I J) 50 k v = PW iv f L T w I (up J k v) := by rw [uI_eq, PW50, PWa50]
theorem PWn {i : Nat} (h : ¬ i = 45 ∧ ¬ i = 46 ∧ ¬ i = 48 ∧ ¬ i = 12 ∧ ¬ i = 49 ∧ ¬ i = 50) : PW iv f L T w I J i = iv i := by
  unfold PW; rw [uA_n h.2.2.2.2.2, uA_n h.2.2.2.2.1, uA_n h.2.2.2.1, uA_n h.2.2.1, uA_n h.2.1, uA_n h.1]
theorem PWx {i : Nat} (h : ¬ i = 45 ∧ ¬ i = 46 ∧ ¬ i = 48 ∧ ¬ i = 12 ∧ ¬ i = 49 ∧ ¬ i = 50) : uA (PW iv f L T w I J) i g = PW (uA iv i g) f L T w I J := by
  unfold PW
  rw [uA_c h.2.2.2.2.2, uA_c h.2.2.2.2.1, uA_c h.2.2.2.1, uA_c h.2.2.1, uA_c h.2.1, uA_c h.1]
theorem PW_id : PW iv (iv 45) (iv 46) (iv 48) (iv 12) (iv 49) (iv 50) = iv := by unfold PW; rw [uA_id, uA_id, uA_id, uA_id, uA_id, uA_id]
end C24a
def PsA (sh : aSh) (rv : aP) : Prop := sh[45]? = some (3, 6) ∧ sh[46]? = some (0, 300) ∧ sh[47]? = some (2, 40) ∧ sh[48]? = some (0, 40) ∧ sh[49]? = some (0, 429) ∧ sh[50]? = some (0, 180) ∧ sh[12]? = some (0, 429) ∧ rv 45 0 = some 46 ∧ rv 45 2 = some 47 ∧ rv 45 3 = some 48 ∧ rv 45 6 = some 49 ∧ rv 45 7 = some 50
section C24
variable {d : Nat} {sh : aSh} {iv lw : aF} {rv : aP} {R : aPost} {f L T w I J : Int → Int}
theorem mod_r {x m : Int} (hm : 0 < m) : 0 ≤ x % m ∧ x % m < m := ⟨Int.emod_nonneg _ (by omega), Int.emod_lt_of_pos _ hm⟩
theorem q_acts (hA : PsA sh rv) (k : R (some (aI (f 5))) sh (PW iv f L T w I J) lw rv) : wp (d) mX6_acts 0 [some (aR 45)] [] sh (PW iv f L T w I J) lw rv 0 0 R := by
  refine wp_aload_n dX6_acts_0 rfl ?_
  refine wp_getI dX6_acts_1 fX6_35 hA.1 ?_
  try simp only [PW45, PW46, PW48, PW12, PW49, PW50]
  refine wp_ireturn dX6_acts_4 rfl ?_
  exact k
theorem q_logLen (hA : PsA sh rv) (k : R (some (aI (mnI (f 1) 60))) sh (PW iv f L T w I J) lw rv) : wp (d + 1) mX6_logLength 0 [some (aR 45)] [] sh (PW iv f L T w I J) lw rv 0 0 R := by
  refine wp_aload_n dX6_logLength_0 rfl ?_
  refine wp_getI dX6_logLength_1 fX6_31 hA.1 ?_
  try simp only [PW45, PW46, PW48, PW12, PW49, PW50]
  refine wp_bipush dX6_logLength_4 ?_
  refine wp_mmin dX6_logLength_6 (by omega) (Nat.le_of_ble_eq_true rfl) nX6_42 q_min ?_
  refine wp_ireturn dX6_logLength_9 rfl ?_
  unfold mnI at k; exact k
theorem q_startAnew (hA : PsA sh rv) (k : R none sh (PW iv (up (up (up f 1 0) 5 0) 9 0) L T w I J) lw rv) : wp (d) mX6_startAnew 0 [some (aR 45)] [] sh (PW iv f L T w I J) lw rv 0 0 R := by
  refine wp_aload_n dX6_startAnew_0 rfl ?_
  refine wp_iconst dX6_startAnew_1 ?_
  refine wp_putI dX6_startAnew_2 fX6_31 hA.1 ?_
  try simp only [PWu45, PWu46, PWu48, PWu12, PWu49, PWu50]
  refine wp_aload_n dX6_startAnew_5 rfl ?_
  refine wp_iconst dX6_startAnew_6 ?_
  refine wp_putI dX6_startAnew_7 fX6_35 hA.1 ?_
  try simp only [PWu45, PWu46, PWu48, PWu12, PWu49, PWu50]
  refine wp_aload_n dX6_startAnew_10 rfl ?_
  refine wp_iconst dX6_startAnew_11 ?_
  refine wp_putZ (Or.inl rfl) dX6_startAnew_12 fX6_38 hA.1 ?_
  try simp only [PWu45, PWu46, PWu48, PWu12, PWu49, PWu50]
  refine wp_return dX6_startAnew_15 rfl ?_
  exact k
theorem q_addLog {a b c : Int} (hA : PsA sh rv) (h1 : 0 ≤ f 1 ∧ f 1 ≤ 100000) (k : R none sh (PW iv (up f 1 (f 1 + 1)) (up (up (up L (f 1 % 100 * 3) a) (f 1 % 100 * 3 + 1) b) (f 1 % 100 * 3 + 2) c) T w I J) lw rv) : wp (d) mX6_addToLog 0 [some (aR 45), some (aI a), some (aI b), some (aI c), none] [] sh (PW iv f L T w I J) lw rv 0 0 R := by
  have hm := mod_r (x := f 1) (m := 100) (by decide)
  refine wp_aload_n dX6_addToLog_0 rfl ?_
  refine wp_getI dX6_addToLog_1 fX6_31 hA.1 ?_
  try simp only [PW45, PW46, PW48, PW12, PW49, PW50]
  refine wp_bipush dX6_addToLog_4 ?_
  refine wp_irem dX6_addToLog_6 (by omega) (by omega) ?_
  refine wp_iconst dX6_addToLog_7 ?_
  refine wp_imul dX6_addToLog_8 ⟨by omega, by omega⟩ ?_
  refine wp_istore (ls' := [_, _, _, _, _]) dX6_addToLog_9 (by decide) rfl rfl ?_
  refine wp_aload_n dX6_addToLog_11 rfl ?_
  refine wp_getR hA.2.2.2.2.2.2.2.1 dX6_addToLog_12 fX6_11 hA.1 ?_
  refine wp_iload dX6_addToLog_15 rfl ?_
  refine wp_iload_n dX6_addToLog_17 rfl ?_
  refine wp_iast dX6_addToLog_18 hA.2.1 (by omega) (by omega) ?_
  try simp only [PWu45, PWu46, PWu48, PWu12, PWu49, PWu50]
  refine wp_aload_n dX6_addToLog_19 rfl ?_
  refine wp_getR hA.2.2.2.2.2.2.2.1 dX6_addToLog_20 fX6_11 hA.1 ?_
  refine wp_iload dX6_addToLog_23 rfl ?_
  refine wp_iconst dX6_addToLog_25 ?_
  refine wp_iadd dX6_addToLog_26 ⟨by omega, by omega⟩ ?_
  refine wp_iload_n dX6_addToLog_27 rfl ?_
  refine wp_iast dX6_addToLog_28 hA.2.1 (by omega) (by omega) ?_
  try simp only [PWu45, PWu46, PWu48, PWu12, PWu49, PWu50]
  refine wp_aload_n dX6_addToLog_29 rfl ?_
  refine wp_getR hA.2.2.2.2.2.2.2.1 dX6_addToLog_30 fX6_11 hA.1 ?_
  refine wp_iload dX6_addToLog_33 rfl ?_
  refine wp_iconst dX6_addToLog_35 ?_
  refine wp_iadd dX6_addToLog_36 ⟨by omega, by omega⟩ ?_
  refine wp_iload_n dX6_addToLog_37 rfl ?_
  refine wp_iast dX6_addToLog_38 hA.2.1 (by omega) (by omega) ?_
  try simp only [PWu45, PWu46, PWu48, PWu12, PWu49, PWu50]
  refine wp_aload_n dX6_addToLog_39 rfl ?_
  refine wp_dup dX6_addToLog_40 rfl ?_
  refine wp_getI dX6_addToLog_41 fX6_31 hA.1 ?_
  try simp only [PW45, PW46, PW48, PW12, PW49, PW50]
  refine wp_iconst dX6_addToLog_44 ?_
  refine wp_iadd dX6_addToLog_45 ⟨by omega, by omega⟩ ?_
  refine wp_putI dX6_addToLog_46 fX6_31 hA.1 ?_
  try simp only [PWu45, PWu46, PWu48, PWu12, PWu49, PWu50]
  refine wp_return dX6_addToLog_49 rfl ?_
  exact k
theorem q_tellLog {i z : Int} (hA : PsA sh rv) (h1 : 0 ≤ f 1 ∧ f 1 ≤ 100000) (k : R (some (aI (if 0 ≤ i ∧ i < mnI (f 1) 60 ∧ 0 ≤ z ∧ z ≤ 2 then L ((f 1 - 1 - i) % 100 * 3 + z) else -1))) sh (PW iv f L T w I J) lw rv) : wp (d + 2) mX6_tellLog 0 [some (aR 45), some (aI i), some (aI z)] [] sh (PW iv f L T w I J) lw rv 0 0 R := by
  have hm := mod_r (x := f 1 - 1 - i) (m := 100) (by decide)
  have hmn := mnI_r (x := f 1) (y := 60) h1.1 (by decide)
  refine wp_iload_n dX6_tellLog_0 rfl ?_
  refine wp_if_lt (tgt := 21) dX6_tellLog_1 rfl (fun h1 => ?_) (fun h1 => ?_)
  · refine wp_iconst dX6_tellLog_21 ?_
    refine wp_ireturn dX6_tellLog_22 rfl ?_
    first | (rw [if_pos (by omega)] at k; exact k) | (rw [if_neg (by omega)] at k; exact k)
  · refine wp_iload_n dX6_tellLog_4 rfl ?_
    refine wp_aload_n dX6_tellLog_5 rfl ?_
    refine wp_callV (as := []) (ls0 := [_]) (kc := 0) (ks := 0) (bc' := 0) (bs' := 0) dX6_tellLog_6 vX6_48 hA.1 rfl rfl (Nat.le_of_ble_eq_true rfl) (Nat.le_of_ble_eq_true rfl) (by omega) (by omega) ?_
    refine q_logLen hA ?_
    refine wp_icmp_ge (tgt := 21) dX6_tellLog_9 rfl (fun h9 => ?_) (fun h9 => ?_)
    · refine wp_iconst dX6_tellLog_21 ?_
      refine wp_ireturn dX6_tellLog_22 rfl ?_
      first | (rw [if_pos (by omega)] at k; exact k) | (rw [if_neg (by omega)] at k; exact k)
    · refine wp_iload_n dX6_tellLog_12 rfl ?_
      refine wp_if_lt (tgt := 21) dX6_tellLog_13 rfl (fun h13 => ?_) (fun h13 => ?_)
      · refine wp_iconst dX6_tellLog_21 ?_
        refine wp_ireturn dX6_tellLog_22 rfl ?_
        first | (rw [if_pos (by omega)] at k; exact k) | (rw [if_neg (by omega)] at k; exact k)
      · refine wp_iload_n dX6_tellLog_16 rfl ?_
        refine wp_iconst dX6_tellLog_17 ?_
        refine wp_icmp_lt (tgt := 23) dX6_tellLog_18 rfl (fun h18 => ?_) (fun h18 => ?_)
        · refine wp_aload_n dX6_tellLog_23 rfl ?_
          refine wp_getR hA.2.2.2.2.2.2.2.1 dX6_tellLog_24 fX6_11 hA.1 ?_
          refine wp_aload_n dX6_tellLog_27 rfl ?_
          refine wp_getI dX6_tellLog_28 fX6_31 hA.1 ?_
          try simp only [PW45, PW46, PW48, PW12, PW49, PW50]
          refine wp_iconst dX6_tellLog_31 ?_
          refine wp_isub dX6_tellLog_32 ⟨by omega, by omega⟩ ?_
          refine wp_iload_n dX6_tellLog_33 rfl ?_
          refine wp_isub dX6_tellLog_34 ⟨by omega, by omega⟩ ?_
          refine wp_bipush dX6_tellLog_35 ?_
          refine wp_irem dX6_tellLog_37 (by omega) (by omega) ?_
          refine wp_iconst dX6_tellLog_38 ?_
          refine wp_imul dX6_tellLog_39 ⟨by omega, by omega⟩ ?_
          refine wp_iload_n dX6_tellLog_40 rfl ?_
          refine wp_iadd dX6_tellLog_41 ⟨by omega, by omega⟩ ?_
          refine wp_iald dX6_tellLog_42 hA.2.1 (by omega) (by omega) ?_
          try simp only [PW45, PW46, PW48, PW12, PW49, PW50]
          refine wp_ireturn dX6_tellLog_43 rfl ?_
          first | (rw [if_pos (by omega)] at k; exact k) | (rw [if_neg (by omega)] at k; exact k)
        · refine wp_iconst dX6_tellLog_21 ?_
          refine wp_ireturn dX6_tellLog_22 rfl ?_
          first | (rw [if_pos (by omega)] at k; exact k) | (rw [if_neg (by omega)] at k; exact k)
theorem PsA.ext {c : Nat × Nat} {g : Int → Option Nat} {j : Int} {q : Option Nat} (h : PsA sh rv) (hl : 88 ≤ sh.length) : PsA (sh ++ [c]) (uP (uQ rv sh.length g) 47 j q) := by
  obtain ⟨h1, h2, h3, h4, h5, h6, h7, g1, g2, g3, g4, g5⟩ := h
  have e : ∀ (i : Nat) (x : Nat × Nat), sh[i]? = some x → (sh ++ [c])[i]? = some x := fun i x hi => by rw [List.getElem?_append_left (List.getElem?_eq_some_iff.mp hi).1]; exact hi
  have f : ∀ (k : Int), uP (uQ rv sh.length g) 47 j q 45 k = rv 45 k := fun k => by unfold uP uQ; rw [if_neg (by omega), if_neg (by omega)]
  exact ⟨e _ _ h1, e _ _ h2, e _ _ h3, e _ _ h4, e _ _ h5, e _ _ h6, e _ _ h7, by rw [f]; exact g1, by rw [f]; exact g2, by rw [f]; exact g3, by rw [f]; exact g4, by rw [f]; exact g5⟩
theorem q_keepO {rw : Nat} (hA : PsA sh rv) (h4 : 0 ≤ f 4 ∧ f 4 < 40) (h5 : 0 ≤ f 5 ∧ f 5 ≤ 40) (hq : rv 47 (f 4) = some rw) (hs : sh[rw]? = some (0, 429)) (h88 : 88 ≤ rw) (k : R none sh (PW (uA iv rw (cpyI w (iv rw) 0 0 429)) (up (up f 4 ((f 4 + 1) % 40)) 5 (mnI (f 5 + 1) 40)) L (up T (f 4) (f 1)) w I J) lw rv) : wp (d + 1) mX6_keepAct 0 [some (aR 45), some (aR 12)] [] sh (PW iv f L T w I J) lw rv 0 0 R := by
  have hm := mod_r (x := f 4 + 1) (m := 40) (by decide)
  unfold mnI at k
  refine wp_aload_n dX6_keepAct_0 rfl ?_
  refine wp_getR hA.2.2.2.2.2.2.2.2.1 dX6_keepAct_1 fX6_16 hA.1 ?_
  refine wp_aload_n dX6_keepAct_4 rfl ?_
  refine wp_getI dX6_keepAct_5 fX6_52 hA.1 ?_
  try simp only [PW45, PW46, PW48, PW12, PW49, PW50]
  refine wp_aaldA dX6_keepAct_8 hA.2.2.1 (by omega) (by omega) hq ?_
  refine wp_ifnonnull (tgt := 26) dX6_keepAct_9 rfl ?_
  refine wp_aload_n dX6_keepAct_26 rfl ?_
  refine wp_iconst dX6_keepAct_27 ?_
  refine wp_aload_n dX6_keepAct_28 rfl ?_
  refine wp_getR hA.2.2.2.2.2.2.2.2.1 dX6_keepAct_29 fX6_16 hA.1 ?_
  refine wp_aload_n dX6_keepAct_32 rfl ?_
  refine wp_getI dX6_keepAct_33 fX6_52 hA.1 ?_
  try simp only [PW45, PW46, PW48, PW12, PW49, PW50]
  refine wp_aaldA dX6_keepAct_36 hA.2.2.1 (by omega) (by omega) hq ?_
  refine wp_iconst dX6_keepAct_37 ?_
  refine wp_sipush dX6_keepAct_38 ?_
  refine wp_copy dX6_keepAct_41 aX6_55 hA.2.2.2.2.2.2.1 hs (by omega) (by decide) (by decide) (by decide) (by decide) (by decide) (Nat.le_of_ble_eq_true rfl) ?_
  rw [PW12, PWn (show ¬ rw = 45 ∧ ¬ rw = 46 ∧ ¬ rw = 48 ∧ ¬ rw = 12 ∧ ¬ rw = 49 ∧ ¬ rw = 50 by omega), PWx (show ¬ rw = 45 ∧ ¬ rw = 46 ∧ ¬ rw = 48 ∧ ¬ rw = 12 ∧ ¬ rw = 49 ∧ ¬ rw = 50 by omega)]
  refine wp_aload_n dX6_keepAct_44 rfl ?_
  refine wp_getR hA.2.2.2.2.2.2.2.2.2.1 dX6_keepAct_45 fX6_20 hA.1 ?_
  refine wp_aload_n dX6_keepAct_48 rfl ?_
  refine wp_getI dX6_keepAct_49 fX6_52 hA.1 ?_
  try simp only [PW45, PW46, PW48, PW12, PW49, PW50]
  refine wp_aload_n dX6_keepAct_52 rfl ?_
  refine wp_getI dX6_keepAct_53 fX6_31 hA.1 ?_
  try simp only [PW45, PW46, PW48, PW12, PW49, PW50]
  refine wp_iast dX6_keepAct_56 hA.2.2.2.1 (by omega) (by omega) ?_
  try simp only [PWu45, PWu46, PWu48, PWu12, PWu49, PWu50]
  refine wp_aload_n dX6_keepAct_57 rfl ?_
  refine wp_aload_n dX6_keepAct_58 rfl ?_
  refine wp_getI dX6_keepAct_59 fX6_52 hA.1 ?_
  try simp only [PW45, PW46, PW48, PW12, PW49, PW50]
  refine wp_iconst dX6_keepAct_62 ?_
  refine wp_iadd dX6_keepAct_63 ⟨by omega, by omega⟩ ?_
  refine wp_bipush dX6_keepAct_64 ?_
  refine wp_irem dX6_keepAct_66 (by omega) (by omega) ?_
  refine wp_putI dX6_keepAct_67 fX6_52 hA.1 ?_
  try simp only [PWu45, PWu46, PWu48, PWu12, PWu49, PWu50]
  refine wp_aload_n dX6_keepAct_70 rfl ?_
  refine wp_aload_n dX6_keepAct_71 rfl ?_
  refine wp_getI dX6_keepAct_72 fX6_35 hA.1 ?_
  try simp only [PW45, PW46, PW48, PW12, PW49, PW50]
  rw [up_n (show ¬ (5 : Int) = 4 by decide)]
  refine wp_iconst dX6_keepAct_75 ?_
  refine wp_iadd dX6_keepAct_76 ⟨by omega, by omega⟩ ?_
  refine wp_bipush dX6_keepAct_77 ?_
  refine wp_mmin dX6_keepAct_79 (by omega) (Nat.le_of_ble_eq_true rfl) nX6_42 q_min ?_
  refine wp_putI dX6_keepAct_82 fX6_35 hA.1 ?_
  try simp only [PWu45, PWu46, PWu48, PWu12, PWu49, PWu50]
  refine wp_return dX6_keepAct_85 rfl ?_
  exact k
theorem q_keepN (hA : PsA sh rv) (h4 : 0 ≤ f 4 ∧ f 4 < 40) (h5 : 0 ≤ f 5 ∧ f 5 ≤ 40) (hq : rv 47 (f 4) = none) (hl : 88 ≤ sh.length) (k : R none (sh ++ [(0, 429)]) (PW (uA iv sh.length (cpyI w (fun _ => 0) 0 0 429)) (up (up f 4 ((f 4 + 1) % 40)) 5 (mnI (f 5 + 1) 40)) L (up T (f 4) (f 1)) w I J) (uA lw sh.length (fun _ => 0)) (uP (uQ rv sh.length (fun _ => none)) 47 (f 4) (some sh.length))) : wp (d + 1) mX6_keepAct 0 [some (aR 45), some (aR 12)] [] sh (PW iv f L T w I J) lw rv 1 429 R := by
  have hm := mod_r (x := f 4 + 1) (m := 40) (by decide)
  unfold mnI at k
  refine wp_aload_n dX6_keepAct_0 rfl ?_
  refine wp_getR hA.2.2.2.2.2.2.2.2.1 dX6_keepAct_1 fX6_16 hA.1 ?_
  refine wp_aload_n dX6_keepAct_4 rfl ?_
  refine wp_getI dX6_keepAct_5 fX6_52 hA.1 ?_
  try simp only [PW45, PW46, PW48, PW12, PW49, PW50]
  refine wp_aaldAN dX6_keepAct_8 hA.2.2.1 (by omega) (by omega) hq ?_
  refine wp_ifnonnullN dX6_keepAct_9 ?_
  refine wp_aload_n dX6_keepAct_12 rfl ?_
  refine wp_getR hA.2.2.2.2.2.2.2.2.1 dX6_keepAct_13 fX6_16 hA.1 ?_
  refine wp_aload_n dX6_keepAct_16 rfl ?_
  refine wp_getI dX6_keepAct_17 fX6_52 hA.1 ?_
  try simp only [PW45, PW46, PW48, PW12, PW49, PW50]
  refine wp_sipush dX6_keepAct_20 ?_
  refine wp_newI (N := 429) dX6_keepAct_23 rfl (by decide) ?_
  have hA0 := hA
  have hs : (sh ++ [(0, 429)])[sh.length]? = some (0, 429) := by rw [List.getElem?_append_right (by omega)]; simp
  rw [PWx (show ¬ sh.length = 45 ∧ ¬ sh.length = 46 ∧ ¬ sh.length = 48 ∧ ¬ sh.length = 12 ∧ ¬ sh.length = 49 ∧ ¬ sh.length = 50 by omega)]
  refine wp_aastA dX6_keepAct_25 (show (sh ++ [(0, 429)])[47]? = some (2, 40) by rw [List.getElem?_append_left (by omega)]; exact hA.2.2.1) hs (by omega) (by omega) ?_
  replace hA := hA0.ext (c := (0, 429)) (g := fun _ => none) (j := f 4) (q := some sh.length) hl
  have hq2 : (uP (uQ rv sh.length (fun _ => none)) 47 (f 4) (some sh.length)) 47 (f 4) = some sh.length := by unfold uP; rw [if_pos ⟨rfl, rfl⟩]
  refine wp_aload_n dX6_keepAct_26 rfl ?_
  refine wp_iconst dX6_keepAct_27 ?_
  refine wp_aload_n dX6_keepAct_28 rfl ?_
  refine wp_getR hA.2.2.2.2.2.2.2.2.1 dX6_keepAct_29 fX6_16 hA.1 ?_
  refine wp_aload_n dX6_keepAct_32 rfl ?_
  refine wp_getI dX6_keepAct_33 fX6_52 hA.1 ?_
  try simp only [PW45, PW46, PW48, PW12, PW49, PW50]
  refine wp_aaldA dX6_keepAct_36 hA.2.2.1 (by omega) (by omega) hq2 ?_
  refine wp_iconst dX6_keepAct_37 ?_
  refine wp_sipush dX6_keepAct_38 ?_
  refine wp_copy dX6_keepAct_41 aX6_55 hA.2.2.2.2.2.2.1 hs (by omega) (by decide) (by decide) (by decide) (by decide) (by decide) (Nat.le_of_ble_eq_true rfl) ?_
  rw [PW12, PWn (show ¬ sh.length = 45 ∧ ¬ sh.length = 46 ∧ ¬ sh.length = 48 ∧ ¬ sh.length = 12 ∧ ¬ sh.length = 49 ∧ ¬ sh.length = 50 by omega), PWx (show ¬ sh.length = 45 ∧ ¬ sh.length = 46 ∧ ¬ sh.length = 48 ∧ ¬ sh.length = 12 ∧ ¬ sh.length = 49 ∧ ¬ sh.length = 50 by omega), uA_uA, uA_s]
  refine wp_aload_n dX6_keepAct_44 rfl ?_
  refine wp_getR hA.2.2.2.2.2.2.2.2.2.1 dX6_keepAct_45 fX6_20 hA.1 ?_
  refine wp_aload_n dX6_keepAct_48 rfl ?_
  refine wp_getI dX6_keepAct_49 fX6_52 hA.1 ?_
  try simp only [PW45, PW46, PW48, PW12, PW49, PW50]
  refine wp_aload_n dX6_keepAct_52 rfl ?_
  refine wp_getI dX6_keepAct_53 fX6_31 hA.1 ?_
  try simp only [PW45, PW46, PW48, PW12, PW49, PW50]
  refine wp_iast dX6_keepAct_56 hA.2.2.2.1 (by omega) (by omega) ?_
  try simp only [PWu45, PWu46, PWu48, PWu12, PWu49, PWu50]
  refine wp_aload_n dX6_keepAct_57 rfl ?_
  refine wp_aload_n dX6_keepAct_58 rfl ?_
  refine wp_getI dX6_keepAct_59 fX6_52 hA.1 ?_
  try simp only [PW45, PW46, PW48, PW12, PW49, PW50]
  refine wp_iconst dX6_keepAct_62 ?_
  refine wp_iadd dX6_keepAct_63 ⟨by omega, by omega⟩ ?_
  refine wp_bipush dX6_keepAct_64 ?_
  refine wp_irem dX6_keepAct_66 (by omega) (by omega) ?_
  refine wp_putI dX6_keepAct_67 fX6_52 hA.1 ?_
  try simp only [PWu45, PWu46, PWu48, PWu12, PWu49, PWu50]
  refine wp_aload_n dX6_keepAct_70 rfl ?_
  refine wp_aload_n dX6_keepAct_71 rfl ?_
  refine wp_getI dX6_keepAct_72 fX6_35 hA.1 ?_
  try simp only [PW45, PW46, PW48, PW12, PW49, PW50]
  rw [up_n (show ¬ (5 : Int) = 4 by decide)]
  refine wp_iconst dX6_keepAct_75 ?_
  refine wp_iadd dX6_keepAct_76 ⟨by omega, by omega⟩ ?_
  refine wp_bipush dX6_keepAct_77 ?_
  refine wp_mmin dX6_keepAct_79 (by omega) (Nat.le_of_ble_eq_true rfl) nX6_42 q_min ?_
  refine wp_putI dX6_keepAct_82 fX6_35 hA.1 ?_
  try simp only [PWu45, PWu46, PWu48, PWu12, PWu49, PWu50]
  refine wp_return dX6_keepAct_85 rfl ?_
  exact k
theorem q_backN (hA : PsA sh rv) (h4 : 0 ≤ f 4 ∧ f 4 < 40) (h5 : f 5 = 0) (k : R (some (aI 0)) sh (PW iv f L T w I J) lw rv) : wp (d + 1) mX6_takeBackAct 0 [some (aR 45), some (aR 12), none] [] sh (PW iv f L T w I J) lw rv 0 0 R := by
  refine wp_aload_n dX6_takeBackAct_0 rfl ?_
  refine wp_getI dX6_takeBackAct_1 fX6_52 hA.1 ?_
  try simp only [PW45, PW46, PW48, PW12, PW49, PW50]
  refine wp_bipush dX6_takeBackAct_4 ?_
  refine wp_iadd dX6_takeBackAct_6 ⟨by omega, by omega⟩ ?_
  refine wp_iconst dX6_takeBackAct_7 ?_
  refine wp_isub dX6_takeBackAct_8 ⟨by omega, by omega⟩ ?_
  refine wp_bipush dX6_takeBackAct_9 ?_
  refine wp_irem dX6_takeBackAct_11 (by omega) (by omega) ?_
  refine wp_istore_n (ls' := [_, _, _]) dX6_takeBackAct_12 (by decide) rfl rfl ?_
  refine wp_aload_n dX6_takeBackAct_13 rfl ?_
  refine wp_getI dX6_takeBackAct_14 fX6_35 hA.1 ?_
  try simp only [PW45, PW46, PW48, PW12, PW49, PW50]
  refine wp_if_eq (tgt := 29) dX6_takeBackAct_17 rfl (fun h17 => ?_) (fun h17 => by exfalso; omega)
  refine wp_iconst dX6_takeBackAct_29 ?_
  refine wp_zreturn dX6_takeBackAct_30 rfl (Or.inl rfl) ?_
  exact k
theorem q_backT {rw : Nat} (hA : PsA sh rv) (h4 : 0 ≤ f 4 ∧ f 4 < 40) (h5 : 1 ≤ f 5 ∧ f 5 ≤ 40) (hq : rv 47 ((f 4 + 40 - 1) % 40) = some rw) (hs : sh[rw]? = some (0, 429)) (h88 : 88 ≤ rw) (k : R (some (aI 1)) sh (PW iv (up (up (up f 1 (T ((f 4 + 40 - 1) % 40))) 4 ((f 4 + 40 - 1) % 40)) 5 (f 5 - 1)) L T (cpyI (iv rw) w 0 0 429) I J) lw rv) : wp (d + 1) mX6_takeBackAct 0 [some (aR 45), some (aR 12), none] [] sh (PW iv f L T w I J) lw rv 0 0 R := by
  have hm := mod_r (x := f 4 + 40 - 1) (m := 40) (by decide)
  refine wp_aload_n dX6_takeBackAct_0 rfl ?_
  refine wp_getI dX6_takeBackAct_1 fX6_52 hA.1 ?_
  try simp only [PW45, PW46, PW48, PW12, PW49, PW50]
  refine wp_bipush dX6_takeBackAct_4 ?_
  refine wp_iadd dX6_takeBackAct_6 ⟨by omega, by omega⟩ ?_
  refine wp_iconst dX6_takeBackAct_7 ?_
  refine wp_isub dX6_takeBackAct_8 ⟨by omega, by omega⟩ ?_
  refine wp_bipush dX6_takeBackAct_9 ?_
  refine wp_irem dX6_takeBackAct_11 (by omega) (by omega) ?_
  refine wp_istore_n (ls' := [_, _, _]) dX6_takeBackAct_12 (by decide) rfl rfl ?_
  refine wp_aload_n dX6_takeBackAct_13 rfl ?_
  refine wp_getI dX6_takeBackAct_14 fX6_35 hA.1 ?_
  try simp only [PW45, PW46, PW48, PW12, PW49, PW50]
  refine wp_if_eq (tgt := 29) dX6_takeBackAct_17 rfl (fun h17 => by exfalso; omega) (fun h17 => ?_)
  refine wp_aload_n dX6_takeBackAct_20 rfl ?_
  refine wp_getR hA.2.2.2.2.2.2.2.2.1 dX6_takeBackAct_21 fX6_16 hA.1 ?_
  refine wp_iload_n dX6_takeBackAct_24 rfl ?_
  refine wp_aaldA dX6_takeBackAct_25 hA.2.2.1 (by omega) (by omega) hq ?_
  refine wp_ifnonnull (tgt := 31) dX6_takeBackAct_26 rfl ?_
  refine wp_aload_n dX6_takeBackAct_31 rfl ?_
  refine wp_getR hA.2.2.2.2.2.2.2.2.1 dX6_takeBackAct_32 fX6_16 hA.1 ?_
  refine wp_iload_n dX6_takeBackAct_35 rfl ?_
  refine wp_aaldA dX6_takeBackAct_36 hA.2.2.1 (by omega) (by omega) hq ?_
  refine wp_iconst dX6_takeBackAct_37 ?_
  refine wp_aload_n dX6_takeBackAct_38 rfl ?_
  refine wp_iconst dX6_takeBackAct_39 ?_
  refine wp_sipush dX6_takeBackAct_40 ?_
  refine wp_copy dX6_takeBackAct_43 aX6_55 hs hA.2.2.2.2.2.2.1 (by omega) (by decide) (by decide) (by decide) (by decide) (by decide) (Nat.le_of_ble_eq_true rfl) ?_
  rw [PW12, PWn (show ¬ rw = 45 ∧ ¬ rw = 46 ∧ ¬ rw = 48 ∧ ¬ rw = 12 ∧ ¬ rw = 49 ∧ ¬ rw = 50 by omega), PWa12]
  refine wp_aload_n dX6_takeBackAct_46 rfl ?_
  refine wp_aload_n dX6_takeBackAct_47 rfl ?_
  refine wp_getR hA.2.2.2.2.2.2.2.2.2.1 dX6_takeBackAct_48 fX6_20 hA.1 ?_
  refine wp_iload_n dX6_takeBackAct_51 rfl ?_
  refine wp_iald dX6_takeBackAct_52 hA.2.2.2.1 (by omega) (by omega) ?_
  try simp only [PW45, PW46, PW48, PW12, PW49, PW50]
  refine wp_putI dX6_takeBackAct_53 fX6_31 hA.1 ?_
  try simp only [PWu45, PWu46, PWu48, PWu12, PWu49, PWu50]
  refine wp_aload_n dX6_takeBackAct_56 rfl ?_
  refine wp_iload_n dX6_takeBackAct_57 rfl ?_
  refine wp_putI dX6_takeBackAct_58 fX6_52 hA.1 ?_
  try simp only [PWu45, PWu46, PWu48, PWu12, PWu49, PWu50]
  refine wp_aload_n dX6_takeBackAct_61 rfl ?_
  refine wp_dup dX6_takeBackAct_62 rfl ?_
  refine wp_getI dX6_takeBackAct_63 fX6_35 hA.1 ?_
  try simp only [PW45, PW46, PW48, PW12, PW49, PW50]
  rw [up_n (show ¬ (5 : Int) = 4 by decide), up_n (show ¬ (5 : Int) = 1 by decide)]
  refine wp_iconst dX6_takeBackAct_66 ?_
  refine wp_isub dX6_takeBackAct_67 ⟨by omega, by omega⟩ ?_
  refine wp_putI dX6_takeBackAct_68 fX6_35 hA.1 ?_
  try simp only [PWu45, PWu46, PWu48, PWu12, PWu49, PWu50]
  refine wp_iconst dX6_takeBackAct_71 ?_
  refine wp_zreturn dX6_takeBackAct_72 rfl (Or.inr rfl) ?_
  exact k
theorem q_takeN (hA : PsA sh rv) (h9 : f 9 = 0) (k : R (some (aI 0)) sh (PW iv f L T w I J) lw rv) : wp (d + 1) mX6_takeImage 0 [some (aR 45), some (aR 12)] [] sh (PW iv f L T w I J) lw rv 0 0 R := by
  refine wp_aload_n dX6_takeImage_0 rfl ?_
  refine wp_getZ dX6_takeImage_1 fX6_38 hA.1 ?_
  try simp only [PW45, PW46, PW48, PW12, PW49, PW50]
  refine wp_if_ne (tgt := 9) dX6_takeImage_4 rfl (fun h4 => by exfalso; omega) (fun h4 => ?_)
  refine wp_iconst dX6_takeImage_7 ?_
  refine wp_zreturn dX6_takeImage_8 rfl (Or.inl rfl) ?_
  exact k
theorem q_takeT (hA : PsA sh rv) (h9 : f 9 = 1) (h8 : 0 ≤ f 8 ∧ f 8 ≤ 60) (k : R (some (aI 1)) sh (PW iv (up (up f 1 (f 8)) 5 0) (cpyI J L 0 0 (f 8 * 3)) T (cpyI I w 0 0 429) I J) lw rv) : wp (d + 1) mX6_takeImage 0 [some (aR 45), some (aR 12)] [] sh (PW iv f L T w I J) lw rv 0 0 R := by
  refine wp_aload_n dX6_takeImage_0 rfl ?_
  refine wp_getZ dX6_takeImage_1 fX6_38 hA.1 ?_
  try simp only [PW45, PW46, PW48, PW12, PW49, PW50]
  refine wp_if_ne (tgt := 9) dX6_takeImage_4 rfl (fun h4 => ?_) (fun h4 => by exfalso; omega)
  refine wp_aload_n dX6_takeImage_9 rfl ?_
  refine wp_getR hA.2.2.2.2.2.2.2.2.2.2.1 dX6_takeImage_10 fX6_25 hA.1 ?_
  refine wp_iconst dX6_takeImage_13 ?_
  refine wp_aload_n dX6_takeImage_14 rfl ?_
  refine wp_iconst dX6_takeImage_15 ?_
  refine wp_sipush dX6_takeImage_16 ?_
  refine wp_copy dX6_takeImage_19 aX6_55 hA.2.2.2.2.1 hA.2.2.2.2.2.2.1 (by omega) (by decide) (by decide) (by decide) (by decide) (by decide) (Nat.le_of_ble_eq_true rfl) ?_
  rw [PW12, PW49, PWa12]
  refine wp_aload_n dX6_takeImage_22 rfl ?_
  refine wp_getR hA.2.2.2.2.2.2.2.2.2.2.2 dX6_takeImage_23 fX6_28 hA.1 ?_
  refine wp_iconst dX6_takeImage_26 ?_
  refine wp_aload_n dX6_takeImage_27 rfl ?_
  refine wp_getR hA.2.2.2.2.2.2.2.1 dX6_takeImage_28 fX6_11 hA.1 ?_
  refine wp_iconst dX6_takeImage_31 ?_
  refine wp_aload_n dX6_takeImage_32 rfl ?_
  refine wp_getI dX6_takeImage_33 fX6_61 hA.1 ?_
  try simp only [PW45, PW46, PW48, PW12, PW49, PW50]
  refine wp_iconst dX6_takeImage_36 ?_
  refine wp_imul dX6_takeImage_37 ⟨by omega, by omega⟩ ?_
  refine wp_copy dX6_takeImage_38 aX6_55 hA.2.2.2.2.2.1 hA.2.1 (by omega) (by decide) (by decide) (by omega) (by omega) (by omega) (Nat.le_of_ble_eq_true rfl) ?_
  rw [PW46, PW50, PWa46]
  refine wp_aload_n dX6_takeImage_41 rfl ?_
  refine wp_aload_n dX6_takeImage_42 rfl ?_
  refine wp_getI dX6_takeImage_43 fX6_61 hA.1 ?_
  try simp only [PW45, PW46, PW48, PW12, PW49, PW50]
  refine wp_putI dX6_takeImage_46 fX6_31 hA.1 ?_
  try simp only [PWu45, PWu46, PWu48, PWu12, PWu49, PWu50]
  refine wp_aload_n dX6_takeImage_49 rfl ?_
  refine wp_iconst dX6_takeImage_50 ?_
  refine wp_putI dX6_takeImage_51 fX6_35 hA.1 ?_
  try simp only [PWu45, PWu46, PWu48, PWu12, PWu49, PWu50]
  refine wp_iconst dX6_takeImage_54 ?_
  refine wp_zreturn dX6_takeImage_55 rfl (Or.inr rfl) ?_
  exact k
theorem im_step {J : Int → Int} {g : Int → Int → Int} {i : Int} (h0 : 0 ≤ i) (h : ∀ i' z : Int, 0 ≤ i' → i' < i → 0 ≤ z → z < 3 → J (i' * 3 + z) = g i' z) : ∀ i' z : Int, 0 ≤ i' → i' < i + 1 → 0 ≤ z → z < 3 → up (up (up J (i * 3 + 0) (g i 0)) (i * 3 + (0 + 1)) (g i (0 + 1))) (i * 3 + (0 + 1 + 1)) (g i (0 + 1 + 1)) (i' * 3 + z) = g i' z := by
  intro i' z h1 h2 h3 h4
  by_cases e : i' = i
  · subst e
    rcases (by omega : z = 0 ∨ z = 1 ∨ z = 2) with rfl | rfl | rfl
    · rw [up_n (by omega), up_n (by omega), up_s]
    · rw [up_n (by omega), show (0 : Int) + 1 = 1 from rfl, up_s]
    · rw [show (0 : Int) + 1 + 1 = 2 from rfl, up_s]
  · rw [up_n (by omega), up_n (by omega), up_n (by omega)]
    exact h i' z h1 (by omega) h3 h4
theorem l_imageP (hA : PsA sh rv) (h1 : 0 ≤ f 1 ∧ f 1 ≤ 100000) (h8 : f 8 = mnI (f 1) 60) (n : Nat) : ∀ (i : Int) (J : Int → Int) (v : Option aV), 0 ≤ i → i + n = f 8 → (∀ i' z : Int, 0 ≤ i' → i' < i → 0 ≤ z → z < 3 → J (i' * 3 + z) = L ((f 1 - 1 - (f 8 - 1 - i')) % 100 * 3 + z)) → (∀ J' : Int → Int, (∀ i' z : Int, 0 ≤ i' → i' < f 8 → 0 ≤ z → z < 3 → J' (i' * 3 + z) = L ((f 1 - 1 - (f 8 - 1 - i')) % 100 * 3 + z)) → R none sh (PW iv (up f 9 1) L T w I J') lw rv) → wp (d + 3) mX6_keepImage 23 [some (aR 45), some (aR 12), some (aI i), v] [] sh (PW iv f L T w I J) lw rv 0 0 R := by
  have hmn := mnI_r (x := f 1) (y := 60) h1.1 (by decide)
  induction n with
  | zero =>
    intro i J v h0 hi hJ k
    have k := k J (fun i' z a b c e => hJ i' z a (by omega) c e)
    refine wp_iload_n dX6_keepImage_23 rfl ?_
    refine wp_aload_n dX6_keepImage_24 rfl ?_
    refine wp_getI dX6_keepImage_25 fX6_61 hA.1 ?_
    try simp only [PW45, PW46, PW48, PW12, PW49, PW50]
    refine wp_icmp_ge (tgt := 73) dX6_keepImage_28 rfl (fun h28 => ?_) (fun h28 => by exfalso; omega)
    refine wp_aload_n dX6_keepImage_73 rfl ?_
    refine wp_iconst dX6_keepImage_74 ?_
    refine wp_putZ (Or.inr rfl) dX6_keepImage_75 fX6_38 hA.1 ?_
    try simp only [PWu45, PWu46, PWu48, PWu12, PWu49, PWu50]
    refine wp_return dX6_keepImage_78 rfl ?_
    exact k
  | succ n ih =>
    intro i J v h0 hi hJ k
    refine wp_iload_n dX6_keepImage_23 rfl ?_
    refine wp_aload_n dX6_keepImage_24 rfl ?_
    refine wp_getI dX6_keepImage_25 fX6_61 hA.1 ?_
    try simp only [PW45, PW46, PW48, PW12, PW49, PW50]
    refine wp_icmp_ge (tgt := 73) dX6_keepImage_28 rfl (fun h28 => by exfalso; omega) (fun h28 => ?_)
    refine wp_iconst dX6_keepImage_31 ?_
    refine wp_istore_n (ls' := [_, _, _, _]) dX6_keepImage_32 (by decide) rfl rfl ?_
    refine wp_iload_n dX6_keepImage_33 rfl ?_
    refine wp_iconst dX6_keepImage_34 ?_
    refine wp_icmp_ge (tgt := 67) dX6_keepImage_35 rfl (fun q => absurd q (by decide)) (fun _ => ?_)
    refine wp_aload_n dX6_keepImage_38 rfl ?_
    refine wp_getR hA.2.2.2.2.2.2.2.2.2.2.2 dX6_keepImage_39 fX6_28 hA.1 ?_
    refine wp_iload_n dX6_keepImage_42 rfl ?_
    refine wp_iconst dX6_keepImage_43 ?_
    refine wp_imul dX6_keepImage_44 ⟨by omega, by omega⟩ ?_
    refine wp_iload_n dX6_keepImage_45 rfl ?_
    refine wp_iadd dX6_keepImage_46 ⟨by omega, by omega⟩ ?_
    refine wp_aload_n dX6_keepImage_47 rfl ?_
    refine wp_aload_n dX6_keepImage_48 rfl ?_
    refine wp_getI dX6_keepImage_49 fX6_61 hA.1 ?_
    try simp only [PW45, PW46, PW48, PW12, PW49, PW50]
    refine wp_iconst dX6_keepImage_52 ?_
    refine wp_isub dX6_keepImage_53 ⟨by omega, by omega⟩ ?_
    refine wp_iload_n dX6_keepImage_54 rfl ?_
    refine wp_isub dX6_keepImage_55 ⟨by omega, by omega⟩ ?_
    refine wp_iload_n dX6_keepImage_56 rfl ?_
    refine wp_callV (as := [_, _]) (ls0 := [_, _, _]) (kc := 0) (ks := 0) (bc' := 0) (bs' := 0) dX6_keepImage_57 vX6_64 hA.1 rfl rfl (Nat.le_of_ble_eq_true rfl) (Nat.le_of_ble_eq_true rfl) (by omega) (by omega) ?_
    refine q_tellLog hA h1 ?_
    rw [if_pos (by omega)]
    refine wp_iast dX6_keepImage_60 hA.2.2.2.2.2.1 (by omega) (by omega) ?_
    try simp only [PWu45, PWu46, PWu48, PWu12, PWu49, PWu50]
    refine wp_iinc (ls' := [_, _, _, _]) dX6_keepImage_61 (by decide) rfl rfl ⟨by omega, by omega⟩ rfl ?_
    refine wp_goto (tgt := 33) dX6_keepImage_64 rfl ?_
    refine wp_iload_n dX6_keepImage_33 rfl ?_
    refine wp_iconst dX6_keepImage_34 ?_
    refine wp_icmp_ge (tgt := 67) dX6_keepImage_35 rfl (fun q => absurd q (by decide)) (fun _ => ?_)
    refine wp_aload_n dX6_keepImage_38 rfl ?_
    refine wp_getR hA.2.2.2.2.2.2.2.2.2.2.2 dX6_keepImage_39 fX6_28 hA.1 ?_
    refine wp_iload_n dX6_keepImage_42 rfl ?_
    refine wp_iconst dX6_keepImage_43 ?_
    refine wp_imul dX6_keepImage_44 ⟨by omega, by omega⟩ ?_
    refine wp_iload_n dX6_keepImage_45 rfl ?_
    refine wp_iadd dX6_keepImage_46 ⟨by omega, by omega⟩ ?_
    refine wp_aload_n dX6_keepImage_47 rfl ?_
    refine wp_aload_n dX6_keepImage_48 rfl ?_
    refine wp_getI dX6_keepImage_49 fX6_61 hA.1 ?_
    try simp only [PW45, PW46, PW48, PW12, PW49, PW50]
    refine wp_iconst dX6_keepImage_52 ?_
    refine wp_isub dX6_keepImage_53 ⟨by omega, by omega⟩ ?_
    refine wp_iload_n dX6_keepImage_54 rfl ?_
    refine wp_isub dX6_keepImage_55 ⟨by omega, by omega⟩ ?_
    refine wp_iload_n dX6_keepImage_56 rfl ?_
    refine wp_callV (as := [_, _]) (ls0 := [_, _, _]) (kc := 0) (ks := 0) (bc' := 0) (bs' := 0) dX6_keepImage_57 vX6_64 hA.1 rfl rfl (Nat.le_of_ble_eq_true rfl) (Nat.le_of_ble_eq_true rfl) (by omega) (by omega) ?_
    refine q_tellLog hA h1 ?_
    rw [if_pos (by omega)]
    refine wp_iast dX6_keepImage_60 hA.2.2.2.2.2.1 (by omega) (by omega) ?_
    try simp only [PWu45, PWu46, PWu48, PWu12, PWu49, PWu50]
    refine wp_iinc (ls' := [_, _, _, _]) dX6_keepImage_61 (by decide) rfl rfl ⟨by omega, by omega⟩ rfl ?_
    refine wp_goto (tgt := 33) dX6_keepImage_64 rfl ?_
    refine wp_iload_n dX6_keepImage_33 rfl ?_
    refine wp_iconst dX6_keepImage_34 ?_
    refine wp_icmp_ge (tgt := 67) dX6_keepImage_35 rfl (fun q => absurd q (by decide)) (fun _ => ?_)
    refine wp_aload_n dX6_keepImage_38 rfl ?_
    refine wp_getR hA.2.2.2.2.2.2.2.2.2.2.2 dX6_keepImage_39 fX6_28 hA.1 ?_
    refine wp_iload_n dX6_keepImage_42 rfl ?_
    refine wp_iconst dX6_keepImage_43 ?_
    refine wp_imul dX6_keepImage_44 ⟨by omega, by omega⟩ ?_
    refine wp_iload_n dX6_keepImage_45 rfl ?_
    refine wp_iadd dX6_keepImage_46 ⟨by omega, by omega⟩ ?_
    refine wp_aload_n dX6_keepImage_47 rfl ?_
    refine wp_aload_n dX6_keepImage_48 rfl ?_
    refine wp_getI dX6_keepImage_49 fX6_61 hA.1 ?_
    try simp only [PW45, PW46, PW48, PW12, PW49, PW50]
    refine wp_iconst dX6_keepImage_52 ?_
    refine wp_isub dX6_keepImage_53 ⟨by omega, by omega⟩ ?_
    refine wp_iload_n dX6_keepImage_54 rfl ?_
    refine wp_isub dX6_keepImage_55 ⟨by omega, by omega⟩ ?_
    refine wp_iload_n dX6_keepImage_56 rfl ?_
    refine wp_callV (as := [_, _]) (ls0 := [_, _, _]) (kc := 0) (ks := 0) (bc' := 0) (bs' := 0) dX6_keepImage_57 vX6_64 hA.1 rfl rfl (Nat.le_of_ble_eq_true rfl) (Nat.le_of_ble_eq_true rfl) (by omega) (by omega) ?_
    refine q_tellLog hA h1 ?_
    rw [if_pos (by omega)]
    refine wp_iast dX6_keepImage_60 hA.2.2.2.2.2.1 (by omega) (by omega) ?_
    try simp only [PWu45, PWu46, PWu48, PWu12, PWu49, PWu50]
    refine wp_iinc (ls' := [_, _, _, _]) dX6_keepImage_61 (by decide) rfl rfl ⟨by omega, by omega⟩ rfl ?_
    refine wp_goto (tgt := 33) dX6_keepImage_64 rfl ?_
    refine wp_iload_n dX6_keepImage_33 rfl ?_
    refine wp_iconst dX6_keepImage_34 ?_
    refine wp_icmp_ge (tgt := 67) dX6_keepImage_35 rfl (fun _ => ?_) (fun q => absurd q (by decide))
    refine wp_iinc (ls' := [_, _, _, _]) dX6_keepImage_67 (by decide) rfl rfl ⟨by omega, by omega⟩ rfl ?_
    refine wp_goto (tgt := 23) dX6_keepImage_70 rfl ?_
    exact ih _ _ _ (by omega) (by omega) (im_step (g := fun i z => L ((f 1 - 1 - (f 8 - 1 - i)) % 100 * 3 + z)) h0 hJ) k
theorem q_keepImage (hA : PsA sh rv) (h1 : 0 ≤ f 1 ∧ f 1 ≤ 100000) (k : ∀ J' : Int → Int, (∀ i' z : Int, 0 ≤ i' → i' < mnI (f 1) 60 → 0 ≤ z → z < 3 → J' (i' * 3 + z) = L ((f 1 - 1 - (mnI (f 1) 60 - 1 - i')) % 100 * 3 + z)) → R none sh (PW iv (up (up f 8 (mnI (f 1) 60)) 9 1) L T w (cpyI w I 0 0 429) J') lw rv) : wp (d + 3) mX6_keepImage 0 [some (aR 45), some (aR 12), none, none] [] sh (PW iv f L T w I J) lw rv 0 0 R := by
  have hmn := mnI_r (x := f 1) (y := 60) h1.1 (by decide)
  have e1 : up f 8 (mnI (f 1) 60) 1 = f 1 := up_n (by decide)
  have e8 : up f 8 (mnI (f 1) 60) 8 = mnI (f 1) 60 := up_s
  refine wp_aload_n dX6_keepImage_0 rfl ?_
  refine wp_iconst dX6_keepImage_1 ?_
  refine wp_aload_n dX6_keepImage_2 rfl ?_
  refine wp_getR hA.2.2.2.2.2.2.2.2.2.2.1 dX6_keepImage_3 fX6_25 hA.1 ?_
  refine wp_iconst dX6_keepImage_6 ?_
  refine wp_sipush dX6_keepImage_7 ?_
  refine wp_copy dX6_keepImage_10 aX6_55 hA.2.2.2.2.2.2.1 hA.2.2.2.2.1 (by omega) (by decide) (by decide) (by decide) (by decide) (by decide) (Nat.le_of_ble_eq_true rfl) ?_
  rw [PW12, PW49, PWa49]
  refine wp_aload_n dX6_keepImage_13 rfl ?_
  refine wp_aload_n dX6_keepImage_14 rfl ?_
  refine wp_callV (as := []) (ls0 := [_]) (kc := 0) (ks := 0) (bc' := 0) (bs' := 0) dX6_keepImage_15 vX6_48 hA.1 rfl rfl (Nat.le_of_ble_eq_true rfl) (Nat.le_of_ble_eq_true rfl) (by omega) (by omega) ?_
  refine q_logLen hA ?_
  refine wp_putI dX6_keepImage_18 fX6_61 hA.1 ?_
  try simp only [PWu45, PWu46, PWu48, PWu12, PWu49, PWu50]
  refine wp_iconst dX6_keepImage_21 ?_
  refine wp_istore_n (ls' := [_, _, _, _]) dX6_keepImage_22 (by decide) rfl rfl ?_
  exact l_imageP hA (by rw [e1]; exact h1) (by rw [e8, e1]) (mnI (f 1) 60).toNat 0 _ _ (by omega) (by rw [e8]; omega) (fun i' z a b => by omega) (fun J' hJ => by rw [e1, e8] at hJ; exact k J' hJ)
end C24
