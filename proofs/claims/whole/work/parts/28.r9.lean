/-! ===== what is told, told by the letter itself ===== -/
section C8
variable {pa f g : Int → Int} {np p q most nd tm : Int}
theorem tkI_c (m : Nat) : ∀ (i n : Int) (N : Int → Int), (∀ j : Int, i ≤ j → j < i + m → f j = g j) → tkI pa f np p q most m i n N = tkI pa g np p q most m i n N := by
  induction m with
  | zero => intro i n N h; rfl
  | succ m ih =>
    intro i n N h
    have e := h i (by omega) (by omega)
    rw [tkI, tkI, e, ih _ _ _ (fun j a b => h j (by omega) (by omega)), ih _ _ _ (fun j a b => h j (by omega) (by omega))]
theorem mvI_c {N : Int → Int} (m : Nat) : ∀ (i : Int), (∀ j : Int, i ≤ j → j < i + m → f j = g j) → mvI pa f N np nd m i = mvI pa g N np nd m i := by
  induction m with
  | zero => intro i h; rfl
  | succ m ih => intro i h; rw [mvI, mvI, h i (by omega) (by omega), ih _ (fun j a b => h j (by omega) (by omega))]
theorem mvF_c {N : Int → Int} (h : ∀ j : Int, 0 ≤ j → j < tm → f j = g j) : mvF pa f N np p tm = mvF pa g N np p tm := by
  have e := mvI_c (pa := pa) (N := N) (np := np) (nd := pa (4 * p + 1)) (f := f) (g := g) (tm - 1).toNat 1 (fun j a b => h j (by omega) (by omega))
  have hr := mvI_r (pa := pa) (T := g) (N := N) (np := np) (nd := pa (4 * p + 1)) (tm - 1).toNat 1
  unfold mvF
  rw [e]
  by_cases hc : mvI pa g N np (pa (4 * p + 1)) (tm - 1).toNat 1 < tm
  · rw [h 0 (by omega) (by omega), h _ (by omega) hc]
  · rw [if_neg (fun q => hc q.1), if_neg (fun q => hc q.1)]
theorem dlQ_c (m : Nat) : ∀ (i : Int) (N : Int → Int), (∀ j : Int, i ≤ j → j < i + m → f j = g j) → dlQ p f m i N = dlQ p g m i N := by
  induction m with
  | zero => intro i N h; rfl
  | succ m ih =>
    intro i N h
    have e := h i (by omega) (by omega)
    rw [dlQ, dlQ, e, ih _ _ (fun j a b => h j (by omega) (by omega)), ih _ _ (fun j a b => h j (by omega) (by omega))]
theorem insA_c (m : Nat) : ∀ (i : Int) (N : Int → Int), (∀ j : Int, i ≤ j → j < i + m → f j = g j) → insA p q f m i N = insA p q g m i N := by
  induction m with
  | zero => intro i N h; rfl
  | succ m ih => intro i N h; rw [insA, insA, h i (by omega) (by omega), ih _ _ (fun j a b => h j (by omega) (by omega))]
theorem remA_c (m : Nat) : ∀ (i : Int) (N : Int → Int), (∀ j : Int, i ≤ j → j < i + m → f j = g j) → remA p q f m i N = remA p q g m i N := by
  induction m with
  | zero => intro i N h; rfl
  | succ m ih => intro i N h; rw [remA, remA, h i (by omega) (by omega), ih _ _ (fun j a b => h j (by omega) (by omega))]
variable {W Of : Int}
theorem Bok.btkI (hp : 0 ≤ p ∧ p < 6) (hq : q = 0 ∨ q = 1) (m : Nat) : ∀ (i n : Int) (N : Int → Int), (∀ j : Int, i ≤ j → j < i + m → Vc W Of (f j)) → N (61 * p + 48) + m ≤ 4 → Bok W Of N → Bok W Of (tkI pa f np p q most m i n N) := by
  induction m with
  | zero => intro i n N hf h4 h; exact h
  | succ m ih =>
    intro i n N hf h4 h
    have hfi := hf i (by omega) (by omega)
    have h48 := h.v48 hp
    have e : insF N p q (f i) (61 * p + 48) = N (61 * p + 48) := insF_n (h.mny hp hq) (by decide)
    by_cases h1 : most ≤ n ∨ 6 ≤ N (61 * p + mq q)
    · rw [tkI_e h1]; exact h
    · by_cases h2 : Tkn N pa np (pa (4 * p + q)) (f i / 10)
      · rw [tkI_t h1 h2]; exact ih _ _ _ (fun j a b => hf j (by omega) (by omega)) (by omega) h
      · rw [tkI_f h1 h2]; exact ih _ _ _ (fun j a b => hf j (by omega) (by omega)) (by rw [encF_48, e]; omega) ((h.binsF hp hq hfi).bencF (by rw [e]; omega) hfi)
theorem Bok.bmvF {N : Int → Int} (h : Bok W Of N) (hp : 0 ≤ p ∧ p < 6) (ht : tm ≤ 4) (hf : ∀ j : Int, 0 ≤ j → j < tm → Vc W Of (f j)) (h48 : N (61 * p + 48) = 0) : Bok W Of (mvF pa f N np p tm) := by
  have hr := mvI_r (pa := pa) (T := f) (N := N) (np := np) (nd := pa (4 * p + 1)) (tm - 1).toNat 1
  unfold mvF
  split
  · rename_i hc
    have hm := h.mny hp (q := 1) (Or.inr rfl)
    have hB1 := h.bremF (q := 1) (c := f 0) hp (Or.inr rfl)
    have e1 : remF N p 1 (f 0) (61 * p + 48) = N (61 * p + 48) := remF_n (Or.inr rfl) hm (by decide)
    have hm1 := hB1.mny hp (q := 1) (Or.inr rfl)
    have hB2 := hB1.binsF (q := 1) hp (Or.inr rfl) (hf _ (by omega) hc.1)
    have e2 : ∀ c, insF (remF N p 1 (f 0)) p 1 c (61 * p + 48) = N (61 * p + 48) := fun c => by rw [insF_n hm1 (by decide), e1]
    exact (hB2.bencF (by rw [e2]; omega) (hf 0 (by omega) (by omega))).bencF (by rw [encF_48, e2]; omega) (hf _ (by omega) hc.1)
  · exact h
theorem Bok.bdlQ (hp : 0 ≤ p ∧ p < 6) (m : Nat) : ∀ (i : Int) (N : Int → Int), (∀ j : Int, i ≤ j → j < i + m → Vc W Of (f j)) → N (61 * p + 48) + m ≤ 4 → Bok W Of N → Bok W Of (dlQ p f m i N) := by
  induction m with
  | zero => intro i N hf h4 h; exact h
  | succ m ih =>
    intro i N hf h4 h
    have h48 := h.v48 hp
    rw [dlQ]
    split
    · exact ih _ _ (fun j a b => hf j (by omega) (by omega)) (by omega) h
    · have e1 : remF N p 1 (f i) (61 * p + 48) = N (61 * p + 48) := remF_n (Or.inr rfl) (h.mny hp (Or.inr rfl)) (by decide)
      exact ih _ _ (fun j a b => hf j (by omega) (by omega)) (by rw [encF_48, e1]; omega) ((h.bremF hp (Or.inr rfl)).bencF (by rw [e1]; omega) (hf i (by omega) (by omega)))
theorem Bok.binsA (hp : 0 ≤ p ∧ p < 6) (hq : q = 0 ∨ q = 1) (m : Nat) : ∀ (i : Int) (N : Int → Int), (∀ j : Int, i ≤ j → j < i + m → Vc W Of (f j)) → Bok W Of N → Bok W Of (insA p q f m i N) := by
  induction m with
  | zero => intro i N hf h; exact h
  | succ m ih => intro i N hf h; exact ih _ _ (fun j a b => hf j (by omega) (by omega)) (h.binsF hp hq (hf i (by omega) (by omega)))
theorem Bok.bremA (hp : 0 ≤ p ∧ p < 6) (hq : q = 0 ∨ q = 1) (m : Nat) : ∀ (i : Int) (N : Int → Int), Bok W Of N → Bok W Of (remA p q f m i N) := by
  induction m with
  | zero => intro i N h; exact h
  | succ m ih => intro i N h; exact ih _ _ (h.bremF hp hq)
end C8
/-! ===== the letters' deeds on the row ===== -/
def tld (N : Int → Int) (p : Int) : Int → Int := fun j => N (61 * p + (50 + j))
noncomputable def rq1 (N : Int → Int) (p : Int) : Int → Int := wriF (stoF N p 1) p 1 (N (61 * p + 45)) 0 (N (61 * p + 49))
noncomputable def rqF (iv : aF) (F N : Int → Int) (p : Int) : Int → Int :=
  if N (61 * p + 45) = 3 then clrF (rq1 N p) p 1 else
  if ¬ N (61 * p + 47) = N (61 * p + 27) then up (rq1 N p) (61 * p + 46) 2 else
  if N (61 * p + 45) = 0 ∧ ¬ iv 6 (4 * p + 2) = 2 then
    (if mnI (N (61 * p + 49) + 1) ((ofr iv F (rq1 N p) p (iv 6 (4 * p + 1)) 0).length : Int) = 0 then up (rq1 N p) (61 * p + 46) 1
      else waiF (prmF (encL p (Lf (ofr iv F (rq1 N p) p (iv 6 (4 * p + 1)) 0)) (mnI (N (61 * p + 49) + 1) ((ofr iv F (rq1 N p) p (iv 6 (4 * p + 1)) 0).length : Int)).toNat 0 (up (rq1 N p) (61 * p + 46) 0)) p 1 (mnI (N (61 * p + 49) + 1) ((ofr iv F (rq1 N p) p (iv 6 (4 * p + 1)) 0).length : Int)) (Lf (ofr iv F (rq1 N p) p (iv 6 (4 * p + 1)) 0))) p 1)
  else ansF (if N (61 * p + 45) = 0 then tkI (iv 6) (tld N p) (F 13) p 1 (N (61 * p + 49)) (N (61 * p + 48)).toNat 0 0 (rq1 N p)
    else if N (61 * p + 45) = 2 then mvF (iv 6) (tld N p) (rq1 N p) (F 13) p (N (61 * p + 48)) else dlQ p (tld N p) (N (61 * p + 48)).toNat 0 (rq1 N p)) p
def cfF (N : Int → Int) (p : Int) : Int → Int := if N (61 * p + 29) = 0 then up N (61 * p + 43) 0 else stoF (if 0 < N (61 * p + 48) then stpF (insA p 1 (tld N p) (N (61 * p + 48)).toNat 0 (up N (61 * p + 43) 0)) p 1 else insA p 1 (tld N p) (N (61 * p + 48)).toNat 0 (up N (61 * p + 43) 0)) p 1
noncomputable def okF (iv : aF) (F N T : Int → Int) (p kd as tm : Int) : Int → Int :=
  if kd = 0 ∧ ¬ iv 6 (4 * p + 2) = 2 then (if 0 < tkI (iv 6) T (F 13) p 0 as tm.toNat 0 0 (wriF N p 2 0 (-1) as) (61 * p + 48) then stpF (tkI (iv 6) T (F 13) p 0 as tm.toNat 0 0 (wriF N p 2 0 (-1) as)) p 0 else tkI (iv 6) T (F 13) p 0 as tm.toNat 0 0 (wriF N p 2 0 (-1) as))
  else if kd = 3 then clrF N p 0
  else stpF (if kd = 0 then insA p 0 T tm.toNat 0 N else if kd = 2 then (if plc N p 0 (T 0) = -1 then N else insF (remF N p 0 (T 0)) p 0 (T 1)) else remA p 0 T tm.toNat 0 N) p 0
noncomputable def anF (iv : aF) (F N : Int → Int) (p : Int) : Int → Int :=
  if N (61 * p + 46) = 2 then begF iv F (stoF (up N (61 * p + 43) 0) p 0) p 3 0
  else if N (61 * p + 46) = 0 then okF iv F (stoF (up N (61 * p + 43) 0) p 0) (tld N p) p (N (61 * p + 45)) (N (61 * p + 49)) (N (61 * p + 48))
  else stoF (up N (61 * p + 43) 0) p 0
section R9
variable {d : Nat} {iv lw : aF} {F N G O T S : Int → Int} {R : aPost}
theorem stoF_n {p q k : Int} (h : k < 28 ∨ 34 < k) (hq : q = 0 ∨ q = 1) : stoF N p q (61 * p + k) = N (61 * p + k) := by unfold stoF; rw [up_n (by omega), up_n (by omega)]
theorem stp_n {p q k : Int} (h : k < 26 ∨ 27 < k) (hq : q = 0 ∨ q = 1) : stpF N p q (61 * p + k) = N (61 * p + k) := by unfold stpF; rw [up_n (by omega)]
theorem up22 {v : Int} : up F 22 v 13 = F 13 := up_n (by decide)
theorem Prm.u22 {v : Int} (h : Prm iv F) : Prm iv (up F 22 v) := by unfold Prm at *; rw [up22]; exact h
theorem ofr_F {v p nd fr : Int} : ofr iv (up F 22 v) N p nd fr = ofr iv F N p nd fr := by unfold ofr; rw [up22]
theorem bgo_F {v p kd n : Int} : bgo iv (up F 22 v) N p kd n = bgo iv F N p kd n := by unfold bgo; rw [ofr_F, ofr_F]
theorem mny_F {v p kd n : Int} : mny iv (up F 22 v) N p kd n = mny iv F N p kd n := by unfold mny mnm; rw [bgo_F]
theorem begF_F {v p kd n : Int} : begF iv (up F 22 v) N p kd n = begF iv F N p kd n := by unfold begF; rw [bgo_F, mny_F]
theorem l_rqD {p sq as tm : Int} (hp : 0 ≤ p ∧ p < 6) (hF : F 22 = tm) (ht : tm ≤ 4) (m : Nat) : ∀ (i : Int) (N : Int → Int), 0 ≤ i → i + m = tm → Bok (iv 5 0) (iv 5 1) N → (∀ j : Int, 0 ≤ j → j < tm → Vc (iv 5 0) (iv 5 1) (T j)) → N (61 * p + 48) + m ≤ 4 → R none SHR (ST iv F (ansF (dlQ p T m i N) p) G O T S) lw RVR → wp (d + 5) mX12_readRequest 189 [some (aR 0), some (aI p), some (aI 1), some (aI sq), some (aI as), some (aI i)] [] SHR (ST iv F N G O T S) lw RVR 0 0 R := by
  induction m with
  | zero =>
    intro i N h1 h2 hB hT h5 k
    refine wp_iload dX12_readRequest_189 rfl ?_
    refine wp_aload_n dX12_readRequest_191 rfl ?_
    refine wp_getI dX12_readRequest_192 fX12_218 rfl ?_
    try simp only [ST0, ST5, ST6, ST7, ST8, ST10, ST11, ST12, ST13]
    refine wp_icmp_ge (tgt := 251) dX12_readRequest_195 rfl (fun h195 => ?_) (fun h195 => by exfalso; omega)
    refine wp_aload_n dX12_readRequest_251 rfl ?_
    refine wp_iload_n dX12_readRequest_252 rfl ?_
    refine wp_callV (as := [_]) (ls0 := [_, _]) (kc := 0) (ks := 0) (bc' := 0) (bs' := 0) dX12_readRequest_253 vX12_250 rfl rfl rfl (Nat.le_of_ble_eq_true rfl) (Nat.le_of_ble_eq_true rfl) (by omega) (by omega) ?_
    refine s_answerTaken hp hB ?_
    refine wp_return dX12_readRequest_256 rfl ?_
    exact k
  | succ m ih =>
    intro i N h1 h2 hB hT h5 k
    have hm := hB.mny hp (q := 1) (Or.inr rfl)
    have h48 := hB.v48 hp
    have hti := hT i h1 (by omega)
    have e1 : remF N p 1 (T i) (61 * p + 48) = N (61 * p + 48) := remF_n (Or.inr rfl) hm (by decide)
    refine wp_iload dX12_readRequest_189 rfl ?_
    refine wp_aload_n dX12_readRequest_191 rfl ?_
    refine wp_getI dX12_readRequest_192 fX12_218 rfl ?_
    try simp only [ST0, ST5, ST6, ST7, ST8, ST10, ST11, ST12, ST13]
    refine wp_icmp_ge (tgt := 251) dX12_readRequest_195 rfl (fun h195 => by exfalso; omega) (fun h195 => ?_)
    refine wp_iload_n dX12_readRequest_198 rfl ?_
    refine wp_iconst dX12_readRequest_199 ?_
    refine wp_icmp_ne (tgt := 251) dX12_readRequest_200 rfl (fun q => absurd q (by decide)) (fun _ => ?_)
    refine wp_aload_n dX12_readRequest_203 rfl ?_
    refine wp_iload_n dX12_readRequest_204 rfl ?_
    refine wp_iconst dX12_readRequest_205 ?_
    refine wp_aload_n dX12_readRequest_206 rfl ?_
    refine wp_getR rfl dX12_readRequest_207 fX12_47 rfl ?_
    refine wp_iload dX12_readRequest_210 rfl ?_
    refine wp_iald dX12_readRequest_212 rfl (by omega) (by omega) ?_
    try simp only [ST0, ST5, ST6, ST7, ST8, ST10, ST11, ST12, ST13]
    refine wp_callV (as := [_, _, _]) (ls0 := [_, _, _, _, _]) (kc := 0) (ks := 0) (bc' := 0) (bs' := 0) dX12_readRequest_213 vX12_171 rfl rfl rfl (Nat.le_of_ble_eq_true rfl) (Nat.le_of_ble_eq_true rfl) (by omega) (by omega) ?_
    refine s_placeIn (by omega) (by omega) hm ?_
    refine wp_iconst dX12_readRequest_216 ?_
    refine wp_icmp_eq (tgt := 245) dX12_readRequest_217 rfl (fun h217 => ?_) (fun h217 => ?_)
    · refine wp_iinc (ls' := [_, _, _, _, _, _]) dX12_readRequest_245 (by decide) rfl rfl ⟨by omega, by omega⟩ rfl ?_
      refine wp_goto (tgt := 189) dX12_readRequest_248 rfl ?_
      first
      | exact ih _ _ (by omega) (by omega) hB hT (by omega) (by rw [dlQ, if_pos h217] at k; exact k)
      | exact ih _ _ (by omega) (by omega) ((hB.bremF hp (Or.inr rfl)).bencF (by rw [e1]; omega) hti) hT (by rw [encF_48, e1]; omega) (by rw [dlQ, if_neg h217] at k; exact k)
    · refine wp_aload_n dX12_readRequest_220 rfl ?_
      refine wp_iload_n dX12_readRequest_221 rfl ?_
      refine wp_iconst dX12_readRequest_222 ?_
      refine wp_aload_n dX12_readRequest_223 rfl ?_
      refine wp_getR rfl dX12_readRequest_224 fX12_47 rfl ?_
      refine wp_iload dX12_readRequest_227 rfl ?_
      refine wp_iald dX12_readRequest_229 rfl (by omega) (by omega) ?_
      try simp only [ST0, ST5, ST6, ST7, ST8, ST10, ST11, ST12, ST13]
      refine wp_callV (as := [_, _, _]) (ls0 := [_, _, _, _, _, _]) (kc := 0) (ks := 0) (bc' := 0) (bs' := 0) dX12_readRequest_230 vX12_231 rfl rfl rfl (Nat.le_of_ble_eq_true rfl) (Nat.le_of_ble_eq_true rfl) (by omega) (by omega) ?_
      refine s_remove (by omega) (by omega) hm ?_
      refine wp_aload_n dX12_readRequest_233 rfl ?_
      refine wp_iload_n dX12_readRequest_234 rfl ?_
      refine wp_aload_n dX12_readRequest_235 rfl ?_
      refine wp_getR rfl dX12_readRequest_236 fX12_47 rfl ?_
      refine wp_iload dX12_readRequest_239 rfl ?_
      refine wp_iald dX12_readRequest_241 rfl (by omega) (by omega) ?_
      try simp only [ST0, ST5, ST6, ST7, ST8, ST10, ST11, ST12, ST13]
      refine wp_callV (as := [_, _]) (ls0 := [_, _, _]) (kc := 0) (ks := 0) (bc' := 0) (bs' := 0) dX12_readRequest_242 vX12_184 rfl rfl rfl (Nat.le_of_ble_eq_true rfl) (Nat.le_of_ble_eq_true rfl) (by omega) (by omega) ?_
      refine s_writeCell (by omega) (by rw [e1]; omega) ?_
      refine wp_iinc (ls' := [_, _, _, _, _, _]) dX12_readRequest_245 (by decide) rfl rfl ⟨by omega, by omega⟩ rfl ?_
      refine wp_goto (tgt := 189) dX12_readRequest_248 rfl ?_
      first
      | exact ih _ _ (by omega) (by omega) hB hT (by omega) (by rw [dlQ, if_pos h217] at k; exact k)
      | exact ih _ _ (by omega) (by omega) ((hB.bremF hp (Or.inr rfl)).bencF (by rw [e1]; omega) hti) hT (by rw [encF_48, e1]; omega) (by rw [dlQ, if_neg h217] at k; exact k)
theorem s_rq3 {p : Int} (hp : 0 ≤ p ∧ p < 6) (hP : Prm iv F) (hB : Bok (iv 5 0) (iv 5 1) N) (hfr : 0 ≤ N 368 ∧ N 368 ≤ 20000) (hkd : N (61 * p + 45) = 3) (k : ∀ O' T', R none SHR (ST iv (up F 22 (N (61 * p + 48))) (rqF iv F N p) G O' T' S) lw RVR) : wp (d + 6) mX12_readRequest 0 [some (aR 0), some (aI p), none, none, none, none] [] SHR (ST iv F N G O T S) lw RVR 0 0 R := by
  obtain ⟨hW1, hW2, hO1, hO2, hT1, hT2, hI1, hI2, hF1, hF2⟩ := id hP
  have h45 := hB.v45 hp
  have h48 := hB.v48 hp
  have h49 := hB.v49 hp
  have h47 := hB.v47 hp
  have hB1 : Bok (iv 5 0) (iv 5 1) (rq1 N p) := (hB.bstoF (Or.inr rfl)).bwriF hp (by omega) (by omega) (by omega) (by omega)
  have hr48 : rq1 N p (61 * p + 48) = 0 := wriF_48
  have hr27 : rq1 N p (61 * p + 27) = N (61 * p + 27) := by unfold rq1; rw [wriF_n (by decide), stoF_n (by decide) (Or.inr rfl)]
  have hm1 := hB1.mny hp (q := 1) (Or.inr rfl)
  have hFu : up F 22 (N (61 * p + 48)) 22 = N (61 * p + 48) := up_s
  have hV : ∀ T' : Int → Int, (∀ j : Int, 0 ≤ j → j < N (61 * p + 48) → T' j = N (61 * p + (50 + j))) → ∀ j : Int, 0 ≤ j → j < up F 22 (N (61 * p + 48)) 22 → Vc (iv 5 0) (iv 5 1) (T' j) := fun T' hT' j a b => by
    rw [hFu] at b; rw [hT' j a b]; exact hB.lcl hp (by omega)
  have hr368 : rq1 N p 368 = N 368 := by
    unfold rq1 wriF stoF
    rw [up_n (by omega), up_n (by omega), up_n (by omega), up_n (by omega), up_n (by omega), up_n (by omega), up_n (by omega), up_n (by omega), up_n (by omega)]
  refine wp_aload_n dX12_readRequest_0 rfl ?_
  refine wp_iload_n dX12_readRequest_1 rfl ?_
  refine wp_bipush dX12_readRequest_2 ?_
  refine wp_callV (as := [_, _]) (ls0 := [_, _, _]) (kc := 0) (ks := 0) (bc' := 0) (bs' := 0) dX12_readRequest_4 vX12_161 rfl rfl rfl (Nat.le_of_ble_eq_true rfl) (Nat.le_of_ble_eq_true rfl) (by omega) (by omega) ?_
  refine s_of (by omega) (by omega) ?_
  refine wp_istore_n (ls' := [_, _, _, _, _, _]) dX12_readRequest_7 (by decide) rfl rfl ?_
  refine wp_aload_n dX12_readRequest_8 rfl ?_
  refine wp_iload_n dX12_readRequest_9 rfl ?_
  refine wp_bipush dX12_readRequest_10 ?_
  refine wp_callV (as := [_, _]) (ls0 := [_, _, _]) (kc := 0) (ks := 0) (bc' := 0) (bs' := 0) dX12_readRequest_12 vX12_161 rfl rfl rfl (Nat.le_of_ble_eq_true rfl) (Nat.le_of_ble_eq_true rfl) (by omega) (by omega) ?_
  refine s_of (by omega) (by omega) ?_
  refine wp_istore_n (ls' := [_, _, _, _, _, _]) dX12_readRequest_15 (by decide) rfl rfl ?_
  refine wp_aload_n dX12_readRequest_16 rfl ?_
  refine wp_iload_n dX12_readRequest_17 rfl ?_
  refine wp_bipush dX12_readRequest_18 ?_
  refine wp_callV (as := [_, _]) (ls0 := [_, _, _]) (kc := 0) (ks := 0) (bc' := 0) (bs' := 0) dX12_readRequest_20 vX12_161 rfl rfl rfl (Nat.le_of_ble_eq_true rfl) (Nat.le_of_ble_eq_true rfl) (by omega) (by omega) ?_
  refine s_of (by omega) (by omega) ?_
  refine wp_istore (ls' := [_, _, _, _, _, _]) dX12_readRequest_23 (by decide) rfl rfl ?_
  refine wp_aload_n dX12_readRequest_25 rfl ?_
  refine wp_iload_n dX12_readRequest_26 rfl ?_
  refine wp_callV (as := [_]) (ls0 := [_, _, _]) (kc := 0) (ks := 0) (bc' := 0) (bs' := 0) dX12_readRequest_27 vX12_234 rfl rfl rfl (Nat.le_of_ble_eq_true rfl) (Nat.le_of_ble_eq_true rfl) (by omega) (by omega) ?_
  refine s_layTold hp (by omega) (fun T' hT' => ?_)
  refine wp_aload_n dX12_readRequest_30 rfl ?_
  refine wp_iload_n dX12_readRequest_31 rfl ?_
  refine wp_iconst dX12_readRequest_32 ?_
  refine wp_callV (as := [_, _]) (ls0 := [_, _, _]) (kc := 0) (ks := 0) (bc' := 0) (bs' := 0) dX12_readRequest_33 vX12_238 rfl rfl rfl (Nat.le_of_ble_eq_true rfl) (Nat.le_of_ble_eq_true rfl) (by omega) (by omega) ?_
  refine s_waitNoMore (by omega) (by omega) ?_
  refine wp_aload_n dX12_readRequest_36 rfl ?_
  refine wp_iload_n dX12_readRequest_37 rfl ?_
  refine wp_iconst dX12_readRequest_38 ?_
  refine wp_iload_n dX12_readRequest_39 rfl ?_
  refine wp_iconst dX12_readRequest_40 ?_
  refine wp_iload dX12_readRequest_41 rfl ?_
  refine wp_callV (as := [_, _, _, _, _]) (ls0 := [_, _, _, _, _, _]) (kc := 0) (ks := 0) (bc' := 0) (bs' := 0) dX12_readRequest_43 vX12_205 rfl rfl rfl (Nat.le_of_ble_eq_true rfl) (Nat.le_of_ble_eq_true rfl) (by omega) (by omega) ?_
  refine s_write (by omega) ?_
  rw [show wriF (stoF N p 1) p 1 (N (61 * p + 45)) 0 (N (61 * p + 49)) = rq1 N p from rfl]
  rw [hkd]
  refine ?_
  refine wp_iload_n dX12_readRequest_46 rfl ?_
  refine wp_iconst dX12_readRequest_47 ?_
  refine wp_icmp_ne (tgt := 60) dX12_readRequest_48 rfl (fun q => absurd q (by decide)) (fun _ => ?_)
  refine wp_aload_n dX12_readRequest_51 rfl ?_
  refine wp_iload_n dX12_readRequest_52 rfl ?_
  refine wp_iconst dX12_readRequest_53 ?_
  refine wp_callV (as := [_, _]) (ls0 := [_, _, _]) (kc := 0) (ks := 0) (bc' := 0) (bs' := 0) dX12_readRequest_54 vX12_241 rfl rfl rfl (Nat.le_of_ble_eq_true rfl) (Nat.le_of_ble_eq_true rfl) (by omega) (by omega) ?_
  refine s_emptyTable (by omega) (by omega) ?_
  refine wp_goto (tgt := 256) dX12_readRequest_57 rfl ?_
  refine wp_return dX12_readRequest_256 rfl ?_
  have hk := k O T'; rw [rqF, if_pos hkd] at hk; exact hk
theorem s_rq1 {p : Int} (hp : 0 ≤ p ∧ p < 6) (hP : Prm iv F) (hB : Bok (iv 5 0) (iv 5 1) N) (hfr : 0 ≤ N 368 ∧ N 368 ≤ 20000) (hkd : N (61 * p + 45) = 1) (k : ∀ O' T', R none SHR (ST iv (up F 22 (N (61 * p + 48))) (rqF iv F N p) G O' T' S) lw RVR) : wp (d + 6) mX12_readRequest 0 [some (aR 0), some (aI p), none, none, none, none] [] SHR (ST iv F N G O T S) lw RVR 0 0 R := by
  obtain ⟨hW1, hW2, hO1, hO2, hT1, hT2, hI1, hI2, hF1, hF2⟩ := id hP
  have h45 := hB.v45 hp
  have h48 := hB.v48 hp
  have h49 := hB.v49 hp
  have h47 := hB.v47 hp
  have hB1 : Bok (iv 5 0) (iv 5 1) (rq1 N p) := (hB.bstoF (Or.inr rfl)).bwriF hp (by omega) (by omega) (by omega) (by omega)
  have hr48 : rq1 N p (61 * p + 48) = 0 := wriF_48
  have hr27 : rq1 N p (61 * p + 27) = N (61 * p + 27) := by unfold rq1; rw [wriF_n (by decide), stoF_n (by decide) (Or.inr rfl)]
  have hm1 := hB1.mny hp (q := 1) (Or.inr rfl)
  have hFu : up F 22 (N (61 * p + 48)) 22 = N (61 * p + 48) := up_s
  have hV : ∀ T' : Int → Int, (∀ j : Int, 0 ≤ j → j < N (61 * p + 48) → T' j = N (61 * p + (50 + j))) → ∀ j : Int, 0 ≤ j → j < up F 22 (N (61 * p + 48)) 22 → Vc (iv 5 0) (iv 5 1) (T' j) := fun T' hT' j a b => by
    rw [hFu] at b; rw [hT' j a b]; exact hB.lcl hp (by omega)
  have hr368 : rq1 N p 368 = N 368 := by
    unfold rq1 wriF stoF
    rw [up_n (by omega), up_n (by omega), up_n (by omega), up_n (by omega), up_n (by omega), up_n (by omega), up_n (by omega), up_n (by omega), up_n (by omega)]
  refine wp_aload_n dX12_readRequest_0 rfl ?_
  refine wp_iload_n dX12_readRequest_1 rfl ?_
  refine wp_bipush dX12_readRequest_2 ?_
  refine wp_callV (as := [_, _]) (ls0 := [_, _, _]) (kc := 0) (ks := 0) (bc' := 0) (bs' := 0) dX12_readRequest_4 vX12_161 rfl rfl rfl (Nat.le_of_ble_eq_true rfl) (Nat.le_of_ble_eq_true rfl) (by omega) (by omega) ?_
  refine s_of (by omega) (by omega) ?_
  refine wp_istore_n (ls' := [_, _, _, _, _, _]) dX12_readRequest_7 (by decide) rfl rfl ?_
  refine wp_aload_n dX12_readRequest_8 rfl ?_
  refine wp_iload_n dX12_readRequest_9 rfl ?_
  refine wp_bipush dX12_readRequest_10 ?_
  refine wp_callV (as := [_, _]) (ls0 := [_, _, _]) (kc := 0) (ks := 0) (bc' := 0) (bs' := 0) dX12_readRequest_12 vX12_161 rfl rfl rfl (Nat.le_of_ble_eq_true rfl) (Nat.le_of_ble_eq_true rfl) (by omega) (by omega) ?_
  refine s_of (by omega) (by omega) ?_
  refine wp_istore_n (ls' := [_, _, _, _, _, _]) dX12_readRequest_15 (by decide) rfl rfl ?_
  refine wp_aload_n dX12_readRequest_16 rfl ?_
  refine wp_iload_n dX12_readRequest_17 rfl ?_
  refine wp_bipush dX12_readRequest_18 ?_
  refine wp_callV (as := [_, _]) (ls0 := [_, _, _]) (kc := 0) (ks := 0) (bc' := 0) (bs' := 0) dX12_readRequest_20 vX12_161 rfl rfl rfl (Nat.le_of_ble_eq_true rfl) (Nat.le_of_ble_eq_true rfl) (by omega) (by omega) ?_
  refine s_of (by omega) (by omega) ?_
  refine wp_istore (ls' := [_, _, _, _, _, _]) dX12_readRequest_23 (by decide) rfl rfl ?_
  refine wp_aload_n dX12_readRequest_25 rfl ?_
  refine wp_iload_n dX12_readRequest_26 rfl ?_
  refine wp_callV (as := [_]) (ls0 := [_, _, _]) (kc := 0) (ks := 0) (bc' := 0) (bs' := 0) dX12_readRequest_27 vX12_234 rfl rfl rfl (Nat.le_of_ble_eq_true rfl) (Nat.le_of_ble_eq_true rfl) (by omega) (by omega) ?_
  refine s_layTold hp (by omega) (fun T' hT' => ?_)
  refine wp_aload_n dX12_readRequest_30 rfl ?_
  refine wp_iload_n dX12_readRequest_31 rfl ?_
  refine wp_iconst dX12_readRequest_32 ?_
  refine wp_callV (as := [_, _]) (ls0 := [_, _, _]) (kc := 0) (ks := 0) (bc' := 0) (bs' := 0) dX12_readRequest_33 vX12_238 rfl rfl rfl (Nat.le_of_ble_eq_true rfl) (Nat.le_of_ble_eq_true rfl) (by omega) (by omega) ?_
  refine s_waitNoMore (by omega) (by omega) ?_
  refine wp_aload_n dX12_readRequest_36 rfl ?_
  refine wp_iload_n dX12_readRequest_37 rfl ?_
  refine wp_iconst dX12_readRequest_38 ?_
  refine wp_iload_n dX12_readRequest_39 rfl ?_
  refine wp_iconst dX12_readRequest_40 ?_
  refine wp_iload dX12_readRequest_41 rfl ?_
  refine wp_callV (as := [_, _, _, _, _]) (ls0 := [_, _, _, _, _, _]) (kc := 0) (ks := 0) (bc' := 0) (bs' := 0) dX12_readRequest_43 vX12_205 rfl rfl rfl (Nat.le_of_ble_eq_true rfl) (Nat.le_of_ble_eq_true rfl) (by omega) (by omega) ?_
  refine s_write (by omega) ?_
  rw [show wriF (stoF N p 1) p 1 (N (61 * p + 45)) 0 (N (61 * p + 49)) = rq1 N p from rfl]
  rw [hkd]
  refine ?_
  refine wp_iload_n dX12_readRequest_46 rfl ?_
  refine wp_iconst dX12_readRequest_47 ?_
  refine wp_icmp_ne (tgt := 60) dX12_readRequest_48 rfl (fun _ => ?_) (fun q => absurd q (by decide))
  refine wp_iload_n dX12_readRequest_60 rfl ?_
  refine wp_aload_n dX12_readRequest_61 rfl ?_
  refine wp_iload_n dX12_readRequest_62 rfl ?_
  refine wp_bipush dX12_readRequest_63 ?_
  refine wp_callV (as := [_, _]) (ls0 := [_, _, _]) (kc := 0) (ks := 0) (bc' := 0) (bs' := 0) dX12_readRequest_65 vX12_161 rfl rfl rfl (Nat.le_of_ble_eq_true rfl) (Nat.le_of_ble_eq_true rfl) (by omega) (by omega) ?_
  refine s_of (by omega) (by omega) ?_
  rw [hr27]
  refine wp_icmp_eq (tgt := 82) dX12_readRequest_68 rfl (fun h68 => ?_) (fun h68 => ?_)
  · refine wp_iload_n dX12_readRequest_82 rfl ?_
    refine wp_if_ne (tgt := 161) dX12_readRequest_83 rfl (fun _ => ?_) (fun q => absurd q (by decide))
    refine wp_iload_n dX12_readRequest_161 rfl ?_
    refine wp_if_ne (tgt := 176) dX12_readRequest_162 rfl (fun _ => ?_) (fun q => absurd q (by decide))
    refine wp_iload_n dX12_readRequest_176 rfl ?_
    refine wp_iconst dX12_readRequest_177 ?_
    refine wp_icmp_ne (tgt := 186) dX12_readRequest_178 rfl (fun _ => ?_) (fun q => absurd q (by decide))
    refine wp_iconst dX12_readRequest_186 ?_
    refine wp_istore (ls' := [_, _, _, _, _, _]) dX12_readRequest_187 (by decide) rfl rfl ?_
    refine l_rqD hp hFu (by omega) (N (61 * p + 48)).toNat _ _ (by omega) (by omega) hB1 (fun j a b => hV T' hT' j a (by rw [hFu]; exact b)) (by omega) ?_
    have hk := k O T'
    rw [rqF, if_neg (by omega), if_neg (by omega), if_neg (by omega), if_neg (by omega), if_neg (by omega)] at hk
    rw [dlQ_c (g := tld N p) _ _ _ (fun j a b => hT' j (by omega) (by omega))]
    exact hk
  · refine wp_aload_n dX12_readRequest_71 rfl ?_
    refine wp_iload_n dX12_readRequest_72 rfl ?_
    refine wp_bipush dX12_readRequest_73 ?_
    refine wp_iconst dX12_readRequest_75 ?_
    refine wp_callV (as := [_, _, _]) (ls0 := [_, _, _, _]) (kc := 0) (ks := 0) (bc' := 0) (bs' := 0) dX12_readRequest_76 vX12_141 rfl rfl rfl (Nat.le_of_ble_eq_true rfl) (Nat.le_of_ble_eq_true rfl) (by omega) (by omega) ?_
    refine s_set (by omega) (by omega) ?_
    refine wp_goto (tgt := 256) dX12_readRequest_79 rfl ?_
    refine wp_return dX12_readRequest_256 rfl ?_
    have hk := k O T'; rw [rqF, if_neg (by omega), if_pos (by omega)] at hk; exact hk
theorem s_rq2 {p : Int} (hp : 0 ≤ p ∧ p < 6) (hP : Prm iv F) (hB : Bok (iv 5 0) (iv 5 1) N) (hfr : 0 ≤ N 368 ∧ N 368 ≤ 20000) (hkd : N (61 * p + 45) = 2) (k : ∀ O' T', R none SHR (ST iv (up F 22 (N (61 * p + 48))) (rqF iv F N p) G O' T' S) lw RVR) : wp (d + 6) mX12_readRequest 0 [some (aR 0), some (aI p), none, none, none, none] [] SHR (ST iv F N G O T S) lw RVR 0 0 R := by
  obtain ⟨hW1, hW2, hO1, hO2, hT1, hT2, hI1, hI2, hF1, hF2⟩ := id hP
  have h45 := hB.v45 hp
  have h48 := hB.v48 hp
  have h49 := hB.v49 hp
  have h47 := hB.v47 hp
  have hB1 : Bok (iv 5 0) (iv 5 1) (rq1 N p) := (hB.bstoF (Or.inr rfl)).bwriF hp (by omega) (by omega) (by omega) (by omega)
  have hr48 : rq1 N p (61 * p + 48) = 0 := wriF_48
  have hr27 : rq1 N p (61 * p + 27) = N (61 * p + 27) := by unfold rq1; rw [wriF_n (by decide), stoF_n (by decide) (Or.inr rfl)]
  have hm1 := hB1.mny hp (q := 1) (Or.inr rfl)
  have hFu : up F 22 (N (61 * p + 48)) 22 = N (61 * p + 48) := up_s
  have hV : ∀ T' : Int → Int, (∀ j : Int, 0 ≤ j → j < N (61 * p + 48) → T' j = N (61 * p + (50 + j))) → ∀ j : Int, 0 ≤ j → j < up F 22 (N (61 * p + 48)) 22 → Vc (iv 5 0) (iv 5 1) (T' j) := fun T' hT' j a b => by
    rw [hFu] at b; rw [hT' j a b]; exact hB.lcl hp (by omega)
  have hr368 : rq1 N p 368 = N 368 := by
    unfold rq1 wriF stoF
    rw [up_n (by omega), up_n (by omega), up_n (by omega), up_n (by omega), up_n (by omega), up_n (by omega), up_n (by omega), up_n (by omega), up_n (by omega)]
  refine wp_aload_n dX12_readRequest_0 rfl ?_
  refine wp_iload_n dX12_readRequest_1 rfl ?_
  refine wp_bipush dX12_readRequest_2 ?_
  refine wp_callV (as := [_, _]) (ls0 := [_, _, _]) (kc := 0) (ks := 0) (bc' := 0) (bs' := 0) dX12_readRequest_4 vX12_161 rfl rfl rfl (Nat.le_of_ble_eq_true rfl) (Nat.le_of_ble_eq_true rfl) (by omega) (by omega) ?_
  refine s_of (by omega) (by omega) ?_
  refine wp_istore_n (ls' := [_, _, _, _, _, _]) dX12_readRequest_7 (by decide) rfl rfl ?_
  refine wp_aload_n dX12_readRequest_8 rfl ?_
  refine wp_iload_n dX12_readRequest_9 rfl ?_
  refine wp_bipush dX12_readRequest_10 ?_
  refine wp_callV (as := [_, _]) (ls0 := [_, _, _]) (kc := 0) (ks := 0) (bc' := 0) (bs' := 0) dX12_readRequest_12 vX12_161 rfl rfl rfl (Nat.le_of_ble_eq_true rfl) (Nat.le_of_ble_eq_true rfl) (by omega) (by omega) ?_
  refine s_of (by omega) (by omega) ?_
  refine wp_istore_n (ls' := [_, _, _, _, _, _]) dX12_readRequest_15 (by decide) rfl rfl ?_
  refine wp_aload_n dX12_readRequest_16 rfl ?_
  refine wp_iload_n dX12_readRequest_17 rfl ?_
  refine wp_bipush dX12_readRequest_18 ?_
  refine wp_callV (as := [_, _]) (ls0 := [_, _, _]) (kc := 0) (ks := 0) (bc' := 0) (bs' := 0) dX12_readRequest_20 vX12_161 rfl rfl rfl (Nat.le_of_ble_eq_true rfl) (Nat.le_of_ble_eq_true rfl) (by omega) (by omega) ?_
  refine s_of (by omega) (by omega) ?_
  refine wp_istore (ls' := [_, _, _, _, _, _]) dX12_readRequest_23 (by decide) rfl rfl ?_
  refine wp_aload_n dX12_readRequest_25 rfl ?_
  refine wp_iload_n dX12_readRequest_26 rfl ?_
  refine wp_callV (as := [_]) (ls0 := [_, _, _]) (kc := 0) (ks := 0) (bc' := 0) (bs' := 0) dX12_readRequest_27 vX12_234 rfl rfl rfl (Nat.le_of_ble_eq_true rfl) (Nat.le_of_ble_eq_true rfl) (by omega) (by omega) ?_
  refine s_layTold hp (by omega) (fun T' hT' => ?_)
  refine wp_aload_n dX12_readRequest_30 rfl ?_
  refine wp_iload_n dX12_readRequest_31 rfl ?_
  refine wp_iconst dX12_readRequest_32 ?_
  refine wp_callV (as := [_, _]) (ls0 := [_, _, _]) (kc := 0) (ks := 0) (bc' := 0) (bs' := 0) dX12_readRequest_33 vX12_238 rfl rfl rfl (Nat.le_of_ble_eq_true rfl) (Nat.le_of_ble_eq_true rfl) (by omega) (by omega) ?_
  refine s_waitNoMore (by omega) (by omega) ?_
  refine wp_aload_n dX12_readRequest_36 rfl ?_
  refine wp_iload_n dX12_readRequest_37 rfl ?_
  refine wp_iconst dX12_readRequest_38 ?_
  refine wp_iload_n dX12_readRequest_39 rfl ?_
  refine wp_iconst dX12_readRequest_40 ?_
  refine wp_iload dX12_readRequest_41 rfl ?_
  refine wp_callV (as := [_, _, _, _, _]) (ls0 := [_, _, _, _, _, _]) (kc := 0) (ks := 0) (bc' := 0) (bs' := 0) dX12_readRequest_43 vX12_205 rfl rfl rfl (Nat.le_of_ble_eq_true rfl) (Nat.le_of_ble_eq_true rfl) (by omega) (by omega) ?_
  refine s_write (by omega) ?_
  rw [show wriF (stoF N p 1) p 1 (N (61 * p + 45)) 0 (N (61 * p + 49)) = rq1 N p from rfl]
  rw [hkd]
  refine ?_
  refine wp_iload_n dX12_readRequest_46 rfl ?_
  refine wp_iconst dX12_readRequest_47 ?_
  refine wp_icmp_ne (tgt := 60) dX12_readRequest_48 rfl (fun _ => ?_) (fun q => absurd q (by decide))
  refine wp_iload_n dX12_readRequest_60 rfl ?_
  refine wp_aload_n dX12_readRequest_61 rfl ?_
  refine wp_iload_n dX12_readRequest_62 rfl ?_
  refine wp_bipush dX12_readRequest_63 ?_
  refine wp_callV (as := [_, _]) (ls0 := [_, _, _]) (kc := 0) (ks := 0) (bc' := 0) (bs' := 0) dX12_readRequest_65 vX12_161 rfl rfl rfl (Nat.le_of_ble_eq_true rfl) (Nat.le_of_ble_eq_true rfl) (by omega) (by omega) ?_
  refine s_of (by omega) (by omega) ?_
  rw [hr27]
  refine wp_icmp_eq (tgt := 82) dX12_readRequest_68 rfl (fun h68 => ?_) (fun h68 => ?_)
  · refine wp_iload_n dX12_readRequest_82 rfl ?_
    refine wp_if_ne (tgt := 161) dX12_readRequest_83 rfl (fun _ => ?_) (fun q => absurd q (by decide))
    refine wp_iload_n dX12_readRequest_161 rfl ?_
    refine wp_if_ne (tgt := 176) dX12_readRequest_162 rfl (fun _ => ?_) (fun q => absurd q (by decide))
    refine wp_iload_n dX12_readRequest_176 rfl ?_
    refine wp_iconst dX12_readRequest_177 ?_
    refine wp_icmp_ne (tgt := 186) dX12_readRequest_178 rfl (fun q => absurd q (by decide)) (fun _ => ?_)
    refine wp_aload_n dX12_readRequest_181 rfl ?_
    refine wp_iload_n dX12_readRequest_182 rfl ?_
    refine wp_callV (as := [_]) (ls0 := [_, _, _]) (kc := 0) (ks := 0) (bc' := 0) (bs' := 0) dX12_readRequest_183 vX12_247 rfl rfl rfl (Nat.le_of_ble_eq_true rfl) (Nat.le_of_ble_eq_true rfl) (by omega) (by omega) ?_
    refine s_readMove hp hP.u22 (hV T' hT') (by rw [hFu]; omega) hB1 hr48 ?_
    rw [up22, hFu, mvF_c (g := tld N p) (fun j a b => hT' j a b)]
    refine wp_iconst dX12_readRequest_186 ?_
    refine wp_istore (ls' := [_, _, _, _, _, _]) dX12_readRequest_187 (by decide) rfl rfl ?_
    refine wp_iload dX12_readRequest_189 rfl ?_
    refine wp_aload_n dX12_readRequest_191 rfl ?_
    refine wp_getI dX12_readRequest_192 fX12_218 rfl ?_
    try simp only [ST0, ST5, ST6, ST7, ST8, ST10, ST11, ST12, ST13]
    refine wp_icmp_ge (tgt := 251) dX12_readRequest_195 rfl (fun h195 => ?_) (fun h195 => ?_)
    · refine wp_aload_n dX12_readRequest_251 rfl ?_
      refine wp_iload_n dX12_readRequest_252 rfl ?_
      refine wp_callV (as := [_]) (ls0 := [_, _]) (kc := 0) (ks := 0) (bc' := 0) (bs' := 0) dX12_readRequest_253 vX12_250 rfl rfl rfl (Nat.le_of_ble_eq_true rfl) (Nat.le_of_ble_eq_true rfl) (by omega) (by omega) ?_
      refine s_answerTaken hp (hB1.bmvF hp (by omega) (fun j a b => hB.lcl hp (by omega)) hr48) ?_
      refine wp_return dX12_readRequest_256 rfl ?_
      first | (have hk := k O T'; rw [rqF, if_neg (by omega), if_pos (by omega)] at hk; exact hk) | (have hk := k O T'; rw [rqF, if_neg (by omega), if_neg (by omega), if_neg (by omega), if_neg (by omega), if_pos hkd] at hk; exact hk)
    · refine wp_iload_n dX12_readRequest_198 rfl ?_
      refine wp_iconst dX12_readRequest_199 ?_
      refine wp_icmp_ne (tgt := 251) dX12_readRequest_200 rfl (fun _ => ?_) (fun q => absurd q (by decide))
      refine wp_aload_n dX12_readRequest_251 rfl ?_
      refine wp_iload_n dX12_readRequest_252 rfl ?_
      refine wp_callV (as := [_]) (ls0 := [_, _]) (kc := 0) (ks := 0) (bc' := 0) (bs' := 0) dX12_readRequest_253 vX12_250 rfl rfl rfl (Nat.le_of_ble_eq_true rfl) (Nat.le_of_ble_eq_true rfl) (by omega) (by omega) ?_
      refine s_answerTaken hp (hB1.bmvF hp (by omega) (fun j a b => hB.lcl hp (by omega)) hr48) ?_
      refine wp_return dX12_readRequest_256 rfl ?_
      first | (have hk := k O T'; rw [rqF, if_neg (by omega), if_pos (by omega)] at hk; exact hk) | (have hk := k O T'; rw [rqF, if_neg (by omega), if_neg (by omega), if_neg (by omega), if_neg (by omega), if_pos hkd] at hk; exact hk)
  · refine wp_aload_n dX12_readRequest_71 rfl ?_
    refine wp_iload_n dX12_readRequest_72 rfl ?_
    refine wp_bipush dX12_readRequest_73 ?_
    refine wp_iconst dX12_readRequest_75 ?_
    refine wp_callV (as := [_, _, _]) (ls0 := [_, _, _, _]) (kc := 0) (ks := 0) (bc' := 0) (bs' := 0) dX12_readRequest_76 vX12_141 rfl rfl rfl (Nat.le_of_ble_eq_true rfl) (Nat.le_of_ble_eq_true rfl) (by omega) (by omega) ?_
    refine s_set (by omega) (by omega) ?_
    refine wp_goto (tgt := 256) dX12_readRequest_79 rfl ?_
    refine wp_return dX12_readRequest_256 rfl ?_
    first | (have hk := k O T'; rw [rqF, if_neg (by omega), if_pos (by omega)] at hk; exact hk) | (have hk := k O T'; rw [rqF, if_neg (by omega), if_neg (by omega), if_neg (by omega), if_neg (by omega), if_pos hkd] at hk; exact hk)
theorem s_rq0 {p : Int} (hp : 0 ≤ p ∧ p < 6) (hP : Prm iv F) (hB : Bok (iv 5 0) (iv 5 1) N) (hfr : 0 ≤ N 368 ∧ N 368 ≤ 20000) (hkd : N (61 * p + 45) = 0) (k : ∀ O' T', R none SHR (ST iv (up F 22 (N (61 * p + 48))) (rqF iv F N p) G O' T' S) lw RVR) : wp (d + 6) mX12_readRequest 0 [some (aR 0), some (aI p), none, none, none, none] [] SHR (ST iv F N G O T S) lw RVR 0 0 R := by
  obtain ⟨hW1, hW2, hO1, hO2, hT1, hT2, hI1, hI2, hF1, hF2⟩ := id hP
  have h45 := hB.v45 hp
  have h48 := hB.v48 hp
  have h49 := hB.v49 hp
  have h47 := hB.v47 hp
  have hB1 : Bok (iv 5 0) (iv 5 1) (rq1 N p) := (hB.bstoF (Or.inr rfl)).bwriF hp (by omega) (by omega) (by omega) (by omega)
  have hr48 : rq1 N p (61 * p + 48) = 0 := wriF_48
  have hr27 : rq1 N p (61 * p + 27) = N (61 * p + 27) := by unfold rq1; rw [wriF_n (by decide), stoF_n (by decide) (Or.inr rfl)]
  have hm1 := hB1.mny hp (q := 1) (Or.inr rfl)
  have hFu : up F 22 (N (61 * p + 48)) 22 = N (61 * p + 48) := up_s
  have hV : ∀ T' : Int → Int, (∀ j : Int, 0 ≤ j → j < N (61 * p + 48) → T' j = N (61 * p + (50 + j))) → ∀ j : Int, 0 ≤ j → j < up F 22 (N (61 * p + 48)) 22 → Vc (iv 5 0) (iv 5 1) (T' j) := fun T' hT' j a b => by
    rw [hFu] at b; rw [hT' j a b]; exact hB.lcl hp (by omega)
  have hr368 : rq1 N p 368 = N 368 := by
    unfold rq1 wriF stoF
    rw [up_n (by omega), up_n (by omega), up_n (by omega), up_n (by omega), up_n (by omega), up_n (by omega), up_n (by omega), up_n (by omega), up_n (by omega)]
  refine wp_aload_n dX12_readRequest_0 rfl ?_
  refine wp_iload_n dX12_readRequest_1 rfl ?_
  refine wp_bipush dX12_readRequest_2 ?_
  refine wp_callV (as := [_, _]) (ls0 := [_, _, _]) (kc := 0) (ks := 0) (bc' := 0) (bs' := 0) dX12_readRequest_4 vX12_161 rfl rfl rfl (Nat.le_of_ble_eq_true rfl) (Nat.le_of_ble_eq_true rfl) (by omega) (by omega) ?_
  refine s_of (by omega) (by omega) ?_
  refine wp_istore_n (ls' := [_, _, _, _, _, _]) dX12_readRequest_7 (by decide) rfl rfl ?_
  refine wp_aload_n dX12_readRequest_8 rfl ?_
  refine wp_iload_n dX12_readRequest_9 rfl ?_
  refine wp_bipush dX12_readRequest_10 ?_
  refine wp_callV (as := [_, _]) (ls0 := [_, _, _]) (kc := 0) (ks := 0) (bc' := 0) (bs' := 0) dX12_readRequest_12 vX12_161 rfl rfl rfl (Nat.le_of_ble_eq_true rfl) (Nat.le_of_ble_eq_true rfl) (by omega) (by omega) ?_
  refine s_of (by omega) (by omega) ?_
  refine wp_istore_n (ls' := [_, _, _, _, _, _]) dX12_readRequest_15 (by decide) rfl rfl ?_
  refine wp_aload_n dX12_readRequest_16 rfl ?_
  refine wp_iload_n dX12_readRequest_17 rfl ?_
  refine wp_bipush dX12_readRequest_18 ?_
  refine wp_callV (as := [_, _]) (ls0 := [_, _, _]) (kc := 0) (ks := 0) (bc' := 0) (bs' := 0) dX12_readRequest_20 vX12_161 rfl rfl rfl (Nat.le_of_ble_eq_true rfl) (Nat.le_of_ble_eq_true rfl) (by omega) (by omega) ?_
  refine s_of (by omega) (by omega) ?_
  refine wp_istore (ls' := [_, _, _, _, _, _]) dX12_readRequest_23 (by decide) rfl rfl ?_
  refine wp_aload_n dX12_readRequest_25 rfl ?_
  refine wp_iload_n dX12_readRequest_26 rfl ?_
  refine wp_callV (as := [_]) (ls0 := [_, _, _]) (kc := 0) (ks := 0) (bc' := 0) (bs' := 0) dX12_readRequest_27 vX12_234 rfl rfl rfl (Nat.le_of_ble_eq_true rfl) (Nat.le_of_ble_eq_true rfl) (by omega) (by omega) ?_
  refine s_layTold hp (by omega) (fun T' hT' => ?_)
  refine wp_aload_n dX12_readRequest_30 rfl ?_
  refine wp_iload_n dX12_readRequest_31 rfl ?_
  refine wp_iconst dX12_readRequest_32 ?_
  refine wp_callV (as := [_, _]) (ls0 := [_, _, _]) (kc := 0) (ks := 0) (bc' := 0) (bs' := 0) dX12_readRequest_33 vX12_238 rfl rfl rfl (Nat.le_of_ble_eq_true rfl) (Nat.le_of_ble_eq_true rfl) (by omega) (by omega) ?_
  refine s_waitNoMore (by omega) (by omega) ?_
  refine wp_aload_n dX12_readRequest_36 rfl ?_
  refine wp_iload_n dX12_readRequest_37 rfl ?_
  refine wp_iconst dX12_readRequest_38 ?_
  refine wp_iload_n dX12_readRequest_39 rfl ?_
  refine wp_iconst dX12_readRequest_40 ?_
  refine wp_iload dX12_readRequest_41 rfl ?_
  refine wp_callV (as := [_, _, _, _, _]) (ls0 := [_, _, _, _, _, _]) (kc := 0) (ks := 0) (bc' := 0) (bs' := 0) dX12_readRequest_43 vX12_205 rfl rfl rfl (Nat.le_of_ble_eq_true rfl) (Nat.le_of_ble_eq_true rfl) (by omega) (by omega) ?_
  refine s_write (by omega) ?_
  rw [show wriF (stoF N p 1) p 1 (N (61 * p + 45)) 0 (N (61 * p + 49)) = rq1 N p from rfl]
  rw [hkd]
  refine ?_
  refine wp_iload_n dX12_readRequest_46 rfl ?_
  refine wp_iconst dX12_readRequest_47 ?_
  refine wp_icmp_ne (tgt := 60) dX12_readRequest_48 rfl (fun _ => ?_) (fun q => absurd q (by decide))
  refine wp_iload_n dX12_readRequest_60 rfl ?_
  refine wp_aload_n dX12_readRequest_61 rfl ?_
  refine wp_iload_n dX12_readRequest_62 rfl ?_
  refine wp_bipush dX12_readRequest_63 ?_
  refine wp_callV (as := [_, _]) (ls0 := [_, _, _]) (kc := 0) (ks := 0) (bc' := 0) (bs' := 0) dX12_readRequest_65 vX12_161 rfl rfl rfl (Nat.le_of_ble_eq_true rfl) (Nat.le_of_ble_eq_true rfl) (by omega) (by omega) ?_
  refine s_of (by omega) (by omega) ?_
  rw [hr27]
  refine wp_icmp_eq (tgt := 82) dX12_readRequest_68 rfl (fun h68 => ?_) (fun h68 => ?_)
  · refine wp_iload_n dX12_readRequest_82 rfl ?_
    refine wp_if_ne (tgt := 161) dX12_readRequest_83 rfl (fun q => absurd q (by decide)) (fun _ => ?_)
    refine wp_aload_n dX12_readRequest_86 rfl ?_
    refine wp_iload_n dX12_readRequest_87 rfl ?_
    refine wp_callV (as := [_]) (ls0 := [_, _]) (kc := 0) (ks := 0) (bc' := 0) (bs' := 0) dX12_readRequest_88 vX12_191 rfl rfl rfl (Nat.le_of_ble_eq_true rfl) (Nat.le_of_ble_eq_true rfl) (by omega) (by omega) ?_
    refine s_isTwoStep (by omega) (fun h88 => ?_) (fun h88 => ?_)
    · refine wp_if_ne (tgt := 161) dX12_readRequest_91 rfl (fun _ => ?_) (fun q => absurd q (by decide))
      refine wp_iload_n dX12_readRequest_161 rfl ?_
      refine wp_if_ne (tgt := 176) dX12_readRequest_162 rfl (fun q => absurd q (by decide)) (fun _ => ?_)
      refine wp_aload_n dX12_readRequest_165 rfl ?_
      refine wp_iload_n dX12_readRequest_166 rfl ?_
      refine wp_iconst dX12_readRequest_167 ?_
      refine wp_iload dX12_readRequest_168 rfl ?_
      refine wp_callV (as := [_, _, _]) (ls0 := [_, _, _, _, _, _]) (kc := 0) (ks := 0) (bc' := 0) (bs' := 0) dX12_readRequest_170 vX12_244 rfl rfl rfl (Nat.le_of_ble_eq_true rfl) (Nat.le_of_ble_eq_true rfl) (by omega) (by omega) ?_
      refine s_takeIn hp (Or.inr rfl) hP.u22 (hV T' hT') (by rw [hFu]; omega) hB1 hr48 ?_
      rw [up22, hFu, tkI_c (g := tld N p) _ _ _ _ (fun j a b => hT' j (by omega) (by omega))]
      refine wp_goto (tgt := 186) dX12_readRequest_173 rfl ?_
      refine wp_iconst dX12_readRequest_186 ?_
      refine wp_istore (ls' := [_, _, _, _, _, _]) dX12_readRequest_187 (by decide) rfl rfl ?_
      refine wp_iload dX12_readRequest_189 rfl ?_
      refine wp_aload_n dX12_readRequest_191 rfl ?_
      refine wp_getI dX12_readRequest_192 fX12_218 rfl ?_
      try simp only [ST0, ST5, ST6, ST7, ST8, ST10, ST11, ST12, ST13]
      refine wp_icmp_ge (tgt := 251) dX12_readRequest_195 rfl (fun h195 => ?_) (fun h195 => ?_)
      · refine wp_aload_n dX12_readRequest_251 rfl ?_
        refine wp_iload_n dX12_readRequest_252 rfl ?_
        refine wp_callV (as := [_]) (ls0 := [_, _]) (kc := 0) (ks := 0) (bc' := 0) (bs' := 0) dX12_readRequest_253 vX12_250 rfl rfl rfl (Nat.le_of_ble_eq_true rfl) (Nat.le_of_ble_eq_true rfl) (by omega) (by omega) ?_
        refine s_answerTaken hp (Bok.btkI hp (Or.inr rfl) _ _ _ _ (fun j a b => hB.lcl hp (by omega)) (by rw [hr48]; omega) hB1) ?_
        refine wp_return dX12_readRequest_256 rfl ?_
        first
        | (have hk := k O T'; rw [rqF, if_neg (by omega), if_pos (by omega)] at hk; exact hk)
        | (have hk := k O T'; rw [rqF, if_neg (by omega), if_neg (by omega), if_neg (by omega), if_pos hkd] at hk; exact hk)
        | (have hk := k O' T'; rw [rqF, if_neg (by omega), if_neg (by omega), if_pos ⟨hkd, by assumption⟩, if_pos (by assumption)] at hk; exact hk)
        | (have hk := k O' T'
           rw [rqF, if_neg (by omega), if_neg (by omega), if_pos ⟨hkd, by assumption⟩, if_neg (by assumption)] at hk
           rw [prmF_c (fun j a b => hO' j a (by omega)), encL_c _ _ _ (fun j a b => hO' j a (by omega))]
           exact hk)
        | (exfalso; omega)
      · refine wp_iload_n dX12_readRequest_198 rfl ?_
        refine wp_iconst dX12_readRequest_199 ?_
        refine wp_icmp_ne (tgt := 251) dX12_readRequest_200 rfl (fun _ => ?_) (fun q => absurd q (by decide))
        refine wp_aload_n dX12_readRequest_251 rfl ?_
        refine wp_iload_n dX12_readRequest_252 rfl ?_
        refine wp_callV (as := [_]) (ls0 := [_, _]) (kc := 0) (ks := 0) (bc' := 0) (bs' := 0) dX12_readRequest_253 vX12_250 rfl rfl rfl (Nat.le_of_ble_eq_true rfl) (Nat.le_of_ble_eq_true rfl) (by omega) (by omega) ?_
        refine s_answerTaken hp (Bok.btkI hp (Or.inr rfl) _ _ _ _ (fun j a b => hB.lcl hp (by omega)) (by rw [hr48]; omega) hB1) ?_
        refine wp_return dX12_readRequest_256 rfl ?_
        first
        | (have hk := k O T'; rw [rqF, if_neg (by omega), if_pos (by omega)] at hk; exact hk)
        | (have hk := k O T'; rw [rqF, if_neg (by omega), if_neg (by omega), if_neg (by omega), if_pos hkd] at hk; exact hk)
        | (have hk := k O' T'; rw [rqF, if_neg (by omega), if_neg (by omega), if_pos ⟨hkd, by assumption⟩, if_pos (by assumption)] at hk; exact hk)
        | (have hk := k O' T'
           rw [rqF, if_neg (by omega), if_neg (by omega), if_pos ⟨hkd, by assumption⟩, if_neg (by assumption)] at hk
           rw [prmF_c (fun j a b => hO' j a (by omega)), encL_c _ _ _ (fun j a b => hO' j a (by omega))]
           exact hk)
        | (exfalso; omega)
    · refine wp_if_ne (tgt := 161) dX12_readRequest_91 rfl (fun q => absurd q (by decide)) (fun _ => ?_)
      refine wp_iload dX12_readRequest_94 rfl ?_
      refine wp_iconst dX12_readRequest_96 ?_
      refine wp_iadd dX12_readRequest_97 ⟨by omega, by omega⟩ ?_
      refine wp_aload_n dX12_readRequest_98 rfl ?_
      refine wp_iload_n dX12_readRequest_99 rfl ?_
      refine wp_aload_n dX12_readRequest_100 rfl ?_
      refine wp_iload_n dX12_readRequest_101 rfl ?_
      refine wp_iconst dX12_readRequest_102 ?_
      refine wp_callV (as := [_, _]) (ls0 := [_, _, _]) (kc := 0) (ks := 0) (bc' := 0) (bs' := 0) dX12_readRequest_103 vX12_178 rfl rfl rfl (Nat.le_of_ble_eq_true rfl) (Nat.le_of_ble_eq_true rfl) (by omega) (by omega) ?_
      refine s_nodeOf (by omega) (by omega) ?_
      refine wp_iconst dX12_readRequest_106 ?_
      refine wp_callV (as := [_, _, _]) (ls0 := [_, _, _, _, _, _, _]) (kc := 0) (ks := 0) (bc' := 0) (bs' := 0) dX12_readRequest_107 vX12_199 rfl rfl rfl (Nat.le_of_ble_eq_true rfl) (Nat.le_of_ble_eq_true rfl) (by omega) (by omega) ?_
      refine s_layOffers hp hP.u22 hB1 (by omega) (fun O' hO' => ?_)
      rw [ofr_F] at hO' ⊢
      have hol := ofr_len (iv := iv) (F := F) (N := rq1 N p) (p := p) (nd := iv 6 (4 * p + 1)) (fr := 0) hP
      refine wp_mmin dX12_readRequest_110 (by omega) (Nat.le_of_ble_eq_true rfl) nX12_194 q_min ?_
      rw [show (if ((ofr iv F (rq1 N p) p (iv 6 (4 * p + 1)) 0).length : Int) < N (61 * p + 49) + 1 then ((ofr iv F (rq1 N p) p (iv 6 (4 * p + 1)) 0).length : Int) else N (61 * p + 49) + 1) = mnI (N (61 * p + 49) + 1) ((ofr iv F (rq1 N p) p (iv 6 (4 * p + 1)) 0).length : Int) from rfl]
      have hmx : mnI (N (61 * p + 49) + 1) ((ofr iv F (rq1 N p) p (iv 6 (4 * p + 1)) 0).length : Int) ≤ 4 ∧ mnI (N (61 * p + 49) + 1) ((ofr iv F (rq1 N p) p (iv 6 (4 * p + 1)) 0).length : Int) ≤ ((ofr iv F (rq1 N p) p (iv 6 (4 * p + 1)) 0).length : Int) ∧ 0 ≤ mnI (N (61 * p + 49) + 1) ((ofr iv F (rq1 N p) p (iv 6 (4 * p + 1)) 0).length : Int) := by unfold mnI; split <;> omega
      refine wp_istore (ls' := [_, _, _, _, _, _]) dX12_readRequest_113 (by decide) rfl rfl ?_
      refine wp_aload_n dX12_readRequest_115 rfl ?_
      refine wp_iload_n dX12_readRequest_116 rfl ?_
      refine wp_bipush dX12_readRequest_117 ?_
      refine wp_iload dX12_readRequest_119 rfl ?_
      refine wp_if_ne (tgt := 128) dX12_readRequest_121 rfl (fun h121 => ?_) (fun h121 => ?_)
      · refine wp_iconst dX12_readRequest_128 ?_
        refine wp_callV (as := [_, _, _]) (ls0 := [_, _, _, _]) (kc := 0) (ks := 0) (bc' := 0) (bs' := 0) dX12_readRequest_129 vX12_141 rfl rfl rfl (Nat.le_of_ble_eq_true rfl) (Nat.le_of_ble_eq_true rfl) (by omega) (by omega) ?_
        refine s_set (by omega) (by omega) ?_
        refine wp_iload dX12_readRequest_132 rfl ?_
        refine wp_if_le (tgt := 158) dX12_readRequest_134 rfl (fun h134 => ?_) (fun h134 => ?_)
        · refine wp_goto (tgt := 256) dX12_readRequest_158 rfl ?_
          refine wp_return dX12_readRequest_256 rfl ?_
          first
          | (have hk := k O T'; rw [rqF, if_neg (by omega), if_pos (by omega)] at hk; exact hk)
          | (have hk := k O T'; rw [rqF, if_neg (by omega), if_neg (by omega), if_neg (by omega), if_pos hkd] at hk; exact hk)
          | (have hk := k O' T'; rw [rqF, if_neg (by omega), if_neg (by omega), if_pos ⟨hkd, by assumption⟩, if_pos (by assumption)] at hk; exact hk)
          | (have hk := k O' T'
             rw [rqF, if_neg (by omega), if_neg (by omega), if_pos ⟨hkd, by assumption⟩, if_neg (by assumption)] at hk
             rw [prmF_c (fun j a b => hO' j a (by omega)), encL_c _ _ _ (fun j a b => hO' j a (by omega))]
             exact hk)
          | (exfalso; omega)
        · refine wp_aload_n dX12_readRequest_137 rfl ?_
          refine wp_iload_n dX12_readRequest_138 rfl ?_
          refine wp_iload dX12_readRequest_139 rfl ?_
          refine wp_callV (as := [_, _]) (ls0 := [_, _, _, _]) (kc := 0) (ks := 0) (bc' := 0) (bs' := 0) dX12_readRequest_141 vX12_209 rfl rfl rfl (Nat.le_of_ble_eq_true rfl) (Nat.le_of_ble_eq_true rfl) (by omega) (by omega) ?_
          refine s_writeOffers hp (by omega) (by rw [up_n (by omega), hr48]; omega) ?_
          refine wp_aload_n dX12_readRequest_144 rfl ?_
          refine wp_iload_n dX12_readRequest_145 rfl ?_
          refine wp_iconst dX12_readRequest_146 ?_
          refine wp_iload dX12_readRequest_147 rfl ?_
          refine wp_callV (as := [_, _, _]) (ls0 := [_, _, _, _, _]) (kc := 0) (ks := 0) (bc' := 0) (bs' := 0) dX12_readRequest_149 vX12_212 rfl rfl rfl (Nat.le_of_ble_eq_true rfl) (Nat.le_of_ble_eq_true rfl) (by omega) (by omega) ?_
          refine s_promise hp (by omega) (by omega) ?_
          refine wp_aload_n dX12_readRequest_152 rfl ?_
          refine wp_iload_n dX12_readRequest_153 rfl ?_
          refine wp_iconst dX12_readRequest_154 ?_
          refine wp_callV (as := [_, _]) (ls0 := [_, _, _]) (kc := 0) (ks := 0) (bc' := 0) (bs' := 0) dX12_readRequest_155 vX12_215 rfl rfl rfl (Nat.le_of_ble_eq_true rfl) (Nat.le_of_ble_eq_true rfl) (by omega) (by omega) ?_
          refine s_waitFor hp (by omega) ?_
          refine wp_goto (tgt := 256) dX12_readRequest_158 rfl ?_
          refine wp_return dX12_readRequest_256 rfl ?_
          first
          | (have hk := k O T'; rw [rqF, if_neg (by omega), if_pos (by omega)] at hk; exact hk)
          | (have hk := k O T'; rw [rqF, if_neg (by omega), if_neg (by omega), if_neg (by omega), if_pos hkd] at hk; exact hk)
          | (have hk := k O' T'; rw [rqF, if_neg (by omega), if_neg (by omega), if_pos ⟨hkd, by assumption⟩, if_pos (by assumption)] at hk; exact hk)
          | (have hk := k O' T'
             rw [rqF, if_neg (by omega), if_neg (by omega), if_pos ⟨hkd, by assumption⟩, if_neg (by assumption)] at hk
             rw [prmF_c (fun j a b => hO' j a (by omega)), encL_c _ _ _ (fun j a b => hO' j a (by omega))]
             exact hk)
          | (exfalso; omega)
      · refine wp_iconst dX12_readRequest_124 ?_
        refine wp_goto (tgt := 129) dX12_readRequest_125 rfl ?_
        refine wp_callV (as := [_, _, _]) (ls0 := [_, _, _, _]) (kc := 0) (ks := 0) (bc' := 0) (bs' := 0) dX12_readRequest_129 vX12_141 rfl rfl rfl (Nat.le_of_ble_eq_true rfl) (Nat.le_of_ble_eq_true rfl) (by omega) (by omega) ?_
        refine s_set (by omega) (by omega) ?_
        refine wp_iload dX12_readRequest_132 rfl ?_
        refine wp_if_le (tgt := 158) dX12_readRequest_134 rfl (fun h134 => ?_) (fun h134 => ?_)
        · refine wp_goto (tgt := 256) dX12_readRequest_158 rfl ?_
          refine wp_return dX12_readRequest_256 rfl ?_
          first
          | (have hk := k O T'; rw [rqF, if_neg (by omega), if_pos (by omega)] at hk; exact hk)
          | (have hk := k O T'; rw [rqF, if_neg (by omega), if_neg (by omega), if_neg (by omega), if_pos hkd] at hk; exact hk)
          | (have hk := k O' T'; rw [rqF, if_neg (by omega), if_neg (by omega), if_pos ⟨hkd, by assumption⟩, if_pos (by assumption)] at hk; exact hk)
          | (have hk := k O' T'
             rw [rqF, if_neg (by omega), if_neg (by omega), if_pos ⟨hkd, by assumption⟩, if_neg (by assumption)] at hk
             rw [prmF_c (fun j a b => hO' j a (by omega)), encL_c _ _ _ (fun j a b => hO' j a (by omega))]
             exact hk)
          | (exfalso; omega)
        · refine wp_aload_n dX12_readRequest_137 rfl ?_
          refine wp_iload_n dX12_readRequest_138 rfl ?_
          refine wp_iload dX12_readRequest_139 rfl ?_
          refine wp_callV (as := [_, _]) (ls0 := [_, _, _, _]) (kc := 0) (ks := 0) (bc' := 0) (bs' := 0) dX12_readRequest_141 vX12_209 rfl rfl rfl (Nat.le_of_ble_eq_true rfl) (Nat.le_of_ble_eq_true rfl) (by omega) (by omega) ?_
          refine s_writeOffers hp (by omega) (by rw [up_n (by omega), hr48]; omega) ?_
          refine wp_aload_n dX12_readRequest_144 rfl ?_
          refine wp_iload_n dX12_readRequest_145 rfl ?_
          refine wp_iconst dX12_readRequest_146 ?_
          refine wp_iload dX12_readRequest_147 rfl ?_
          refine wp_callV (as := [_, _, _]) (ls0 := [_, _, _, _, _]) (kc := 0) (ks := 0) (bc' := 0) (bs' := 0) dX12_readRequest_149 vX12_212 rfl rfl rfl (Nat.le_of_ble_eq_true rfl) (Nat.le_of_ble_eq_true rfl) (by omega) (by omega) ?_
          refine s_promise hp (by omega) (by omega) ?_
          refine wp_aload_n dX12_readRequest_152 rfl ?_
          refine wp_iload_n dX12_readRequest_153 rfl ?_
          refine wp_iconst dX12_readRequest_154 ?_
          refine wp_callV (as := [_, _]) (ls0 := [_, _, _]) (kc := 0) (ks := 0) (bc' := 0) (bs' := 0) dX12_readRequest_155 vX12_215 rfl rfl rfl (Nat.le_of_ble_eq_true rfl) (Nat.le_of_ble_eq_true rfl) (by omega) (by omega) ?_
          refine s_waitFor hp (by omega) ?_
          refine wp_goto (tgt := 256) dX12_readRequest_158 rfl ?_
          refine wp_return dX12_readRequest_256 rfl ?_
          first
          | (have hk := k O T'; rw [rqF, if_neg (by omega), if_pos (by omega)] at hk; exact hk)
          | (have hk := k O T'; rw [rqF, if_neg (by omega), if_neg (by omega), if_neg (by omega), if_pos hkd] at hk; exact hk)
          | (have hk := k O' T'; rw [rqF, if_neg (by omega), if_neg (by omega), if_pos ⟨hkd, by assumption⟩, if_pos (by assumption)] at hk; exact hk)
          | (have hk := k O' T'
             rw [rqF, if_neg (by omega), if_neg (by omega), if_pos ⟨hkd, by assumption⟩, if_neg (by assumption)] at hk
             rw [prmF_c (fun j a b => hO' j a (by omega)), encL_c _ _ _ (fun j a b => hO' j a (by omega))]
             exact hk)
          | (exfalso; omega)
  · refine wp_aload_n dX12_readRequest_71 rfl ?_
    refine wp_iload_n dX12_readRequest_72 rfl ?_
    refine wp_bipush dX12_readRequest_73 ?_
    refine wp_iconst dX12_readRequest_75 ?_
    refine wp_callV (as := [_, _, _]) (ls0 := [_, _, _, _]) (kc := 0) (ks := 0) (bc' := 0) (bs' := 0) dX12_readRequest_76 vX12_141 rfl rfl rfl (Nat.le_of_ble_eq_true rfl) (Nat.le_of_ble_eq_true rfl) (by omega) (by omega) ?_
    refine s_set (by omega) (by omega) ?_
    refine wp_goto (tgt := 256) dX12_readRequest_79 rfl ?_
    refine wp_return dX12_readRequest_256 rfl ?_
    first
    | (have hk := k O T'; rw [rqF, if_neg (by omega), if_pos (by omega)] at hk; exact hk)
    | (have hk := k O T'; rw [rqF, if_neg (by omega), if_neg (by omega), if_neg (by omega), if_pos hkd] at hk; exact hk)
    | (have hk := k O' T'; rw [rqF, if_neg (by omega), if_neg (by omega), if_pos ⟨hkd, by assumption⟩, if_pos (by assumption)] at hk; exact hk)
    | (have hk := k O' T'
       rw [rqF, if_neg (by omega), if_neg (by omega), if_pos ⟨hkd, by assumption⟩, if_neg (by assumption)] at hk
       rw [prmF_c (fun j a b => hO' j a (by omega)), encL_c _ _ _ (fun j a b => hO' j a (by omega))]
       exact hk)
    | (exfalso; omega)
theorem s_readRequest {p : Int} (hp : 0 ≤ p ∧ p < 6) (hP : Prm iv F) (hB : Bok (iv 5 0) (iv 5 1) N) (hfr : 0 ≤ N 368 ∧ N 368 ≤ 20000) (k : ∀ O' T', R none SHR (ST iv (up F 22 (N (61 * p + 48))) (rqF iv F N p) G O' T' S) lw RVR) : wp (d + 6) mX12_readRequest 0 [some (aR 0), some (aI p), none, none, none, none] [] SHR (ST iv F N G O T S) lw RVR 0 0 R := by
  have h45 := hB.v45 hp
  rcases (by omega : N (61 * p + 45) = 0 ∨ N (61 * p + 45) = 1 ∨ N (61 * p + 45) = 2 ∨ N (61 * p + 45) = 3) with h | h | h | h
  · exact s_rq0 hp hP hB hfr h k
  · exact s_rq1 hp hP hB hfr h k
  · exact s_rq2 hp hP hB hfr h k
  · exact s_rq3 hp hP hB hfr h k
end R9
