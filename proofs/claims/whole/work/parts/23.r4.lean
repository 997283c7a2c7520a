/-! ===== what each place may hold ===== -/
def Vc (W Of x : Int) : Prop := 0 ≤ x ∧ x / 10 < W ∧ x % 10 < Of
def KOK (W Of k v : Int) : Prop :=
  if k < 6 then Vc W Of v else if k < 18 then 0 ≤ v ∧ v ≤ 999 else if k = 18 then 0 ≤ v ∧ v ≤ 6 else if k < 25 then Vc W Of v else if k = 25 then 0 ≤ v ∧ v ≤ 6 else if k < 28 then 0 ≤ v ∧ v ≤ 255
  else if k < 30 then v = 0 ∨ v = 1 else if k < 32 then 0 ≤ v ∧ v ≤ 20000 else if k = 32 then 0 ≤ v ∧ v ≤ 3 else if k < 35 then 0 ≤ v ∧ v ≤ 4 else if k < 43 then Vc W Of v else if k = 43 then v = 0 ∨ v = 1
  else if k = 44 then 0 ≤ v ∧ v ≤ 2 else if k = 45 then 0 ≤ v ∧ v ≤ 3 else if k = 46 then -1 ≤ v ∧ v ≤ 2 else if k = 47 then -1 ≤ v ∧ v ≤ 255 else if k = 48 then 0 ≤ v ∧ v ≤ 4 else if k = 49 then -1 ≤ v ∧ v ≤ 3
  else if k < 57 then Vc W Of v else if k = 57 then 0 ≤ v ∧ v ≤ 99 else if k = 58 then 0 ≤ v ∧ v ≤ 9 else 0 ≤ v
def Bok (W Of : Int) (N : Int → Int) : Prop := ∀ p k : Int, 0 ≤ p → p < 6 → 0 ≤ k → k < 61 → KOK W Of k (N (61 * p + k))
theorem Bok.bup {W Of : Int} {N : Int → Int} {p k v : Int} (h : Bok W Of N) (hk : 0 ≤ k ∧ k < 61) (hv : KOK W Of k v) : Bok W Of (up N (61 * p + k) v) := by
  intro a b h1 h2 h3 h4
  by_cases e : 61 * a + b = 61 * p + k
  · have e1 : b = k := by omega
    rw [e, up_s, e1]; exact hv
  · rw [up_n e]; exact h a b h1 h2 h3 h4
theorem Bok.far {W Of : Int} {N : Int → Int} {j v : Int} (h : Bok W Of N) (hj : 366 ≤ j) : Bok W Of (up N j v) := by
  intro a b h1 h2 h3 h4
  rw [up_n (by omega)]; exact h a b h1 h2 h3 h4
section BK
variable {W Of : Int} {N : Int → Int} {p q i v : Int}
theorem kVc {k : Int} (h : (0 ≤ k ∧ k < 6) ∨ (19 ≤ k ∧ k < 25) ∨ (35 ≤ k ∧ k < 43) ∨ (50 ≤ k ∧ k < 57)) : KOK W Of k v = Vc W Of v := by
  unfold KOK
  rcases h with h | h | h | h
  · rw [if_pos (by omega)]
  · rw [if_neg (by omega), if_neg (by omega), if_neg (by omega), if_pos (by omega)]
  · rw [if_neg (by omega), if_neg (by omega), if_neg (by omega), if_neg (by omega), if_neg (by omega), if_neg (by omega), if_neg (by omega), if_neg (by omega), if_neg (by omega), if_neg (by omega), if_pos (by omega)]
  · rw [if_neg (by omega), if_neg (by omega), if_neg (by omega), if_neg (by omega), if_neg (by omega), if_neg (by omega), if_neg (by omega), if_neg (by omega), if_neg (by omega), if_neg (by omega), if_neg (by omega), if_neg (by omega), if_neg (by omega), if_neg (by omega), if_neg (by omega), if_neg (by omega), if_neg (by omega), if_neg (by omega), if_pos (by omega)]
theorem k999 {k : Int} (h : 6 ≤ k ∧ k < 18) : KOK W Of k v = (0 ≤ v ∧ v ≤ 999) := by
  unfold KOK
  rw [if_neg (by omega), if_pos (by omega)]
theorem k18 : KOK W Of 18 v = (0 ≤ v ∧ v ≤ 6) := by unfold KOK; simp
theorem k25 : KOK W Of 25 v = (0 ≤ v ∧ v ≤ 6) := by unfold KOK; simp
theorem kmq (hq : q = 0 ∨ q = 1) : KOK W Of (mq q) v = (0 ≤ v ∧ v ≤ 6) := by rcases hq with rfl | rfl; exact k18; exact k25
theorem kseq (hq : q = 0 ∨ q = 1) : KOK W Of (26 + q) v = (0 ≤ v ∧ v ≤ 255) := by rcases hq with rfl | rfl <;> (unfold KOK; simp)
theorem kwai (hq : q = 0 ∨ q = 1) : KOK W Of (28 + q) v = (v = 0 ∨ v = 1) := by rcases hq with rfl | rfl <;> (unfold KOK; simp)
theorem kfrm (hq : q = 0 ∨ q = 1) : KOK W Of (30 + q) v = (0 ≤ v ∧ v ≤ 20000) := by rcases hq with rfl | rfl <;> (unfold KOK; simp)
theorem kpmn (hq : q = 0 ∨ q = 1) : KOK W Of (33 + q) v = (0 ≤ v ∧ v ≤ 4) := by rcases hq with rfl | rfl <;> (unfold KOK; simp)
theorem k26 : KOK W Of 26 v = (0 ≤ v ∧ v ≤ 255) := by unfold KOK; simp
theorem k27 : KOK W Of 27 v = (0 ≤ v ∧ v ≤ 255) := by unfold KOK; simp
theorem k28 : KOK W Of 28 v = (v = 0 ∨ v = 1) := by unfold KOK; simp
theorem k29 : KOK W Of 29 v = (v = 0 ∨ v = 1) := by unfold KOK; simp
theorem k32 : KOK W Of 32 v = (0 ≤ v ∧ v ≤ 3) := by unfold KOK; simp
theorem k43 : KOK W Of 43 v = (v = 0 ∨ v = 1) := by unfold KOK; simp
theorem k44 : KOK W Of 44 v = (0 ≤ v ∧ v ≤ 2) := by unfold KOK; simp
theorem k45 : KOK W Of 45 v = (0 ≤ v ∧ v ≤ 3) := by unfold KOK; simp
theorem k46 : KOK W Of 46 v = (-1 ≤ v ∧ v ≤ 2) := by unfold KOK; simp
theorem k47 : KOK W Of 47 v = (-1 ≤ v ∧ v ≤ 255) := by unfold KOK; simp
theorem k48 : KOK W Of 48 v = (0 ≤ v ∧ v ≤ 4) := by unfold KOK; simp
theorem k49 : KOK W Of 49 v = (-1 ≤ v ∧ v ≤ 3) := by unfold KOK; simp
theorem k57 : KOK W Of 57 v = (0 ≤ v ∧ v ≤ 99) := by unfold KOK; simp
theorem k58 : KOK W Of 58 v = (0 ≤ v ∧ v ≤ 9) := by unfold KOK; simp
theorem k59 : KOK W Of 59 v = (0 ≤ v) := by unfold KOK; simp
theorem k60 : KOK W Of 60 v = (0 ≤ v) := by unfold KOK; simp
theorem Bok.mny (h : Bok W Of N) (hp : 0 ≤ p ∧ p < 6) (hq : q = 0 ∨ q = 1) : 0 ≤ N (61 * p + mq q) ∧ N (61 * p + mq q) ≤ 6 := by
  have := mq_r hq
  have h1 := h p (mq q) hp.1 hp.2 (by omega) (by omega)
  rwa [kmq hq] at h1
theorem Bok.cel (h : Bok W Of N) (hp : 0 ≤ p ∧ p < 6) (hq : q = 0 ∨ q = 1) (hi : 0 ≤ i ∧ i < 6) : Vc W Of (N (61 * p + (bq q + i))) := by
  have := bq_r hq
  have h1 := h p (bq q + i) hp.1 hp.2 (by omega) (by omega)
  rwa [kVc (by rcases hq with rfl | rfl; rw [bq0]; omega; rw [bq1]; omega)] at h1
theorem Bok.pmn (h : Bok W Of N) (hp : 0 ≤ p ∧ p < 6) (hq : q = 0 ∨ q = 1) : 0 ≤ N (61 * p + (33 + q)) ∧ N (61 * p + (33 + q)) ≤ 4 := by
  have h1 := h p (33 + q) hp.1 hp.2 (by omega) (by omega)
  rwa [kpmn hq] at h1
theorem Bok.prm (h : Bok W Of N) (hp : 0 ≤ p ∧ p < 6) (hq : q = 0 ∨ q = 1) (hi : 0 ≤ i ∧ i < 4) : Vc W Of (N (61 * p + (35 + 4 * q + i))) := by
  have h1 := h p (35 + 4 * q + i) hp.1 hp.2 (by omega) (by omega)
  rwa [kVc (by omega)] at h1
theorem Bok.lcl (h : Bok W Of N) (hp : 0 ≤ p ∧ p < 6) (hi : 0 ≤ i ∧ i < 7) : Vc W Of (N (61 * p + (50 + i))) := by
  have h1 := h p (50 + i) hp.1 hp.2 (by omega) (by omega)
  rwa [kVc (by omega)] at h1
theorem Bok.tk {np : Int} (h : Bok W Of N) (hnp : np ≤ 6) : TkOK N np := fun p q h1 h2 hq =>
  ⟨h.mny ⟨h1, by omega⟩ hq, h.pmn ⟨h1, by omega⟩ hq, fun i hi hj => (h.cel (i := i) ⟨h1, by omega⟩ hq ⟨hi, by have := h.mny (p := p) (q := q) ⟨h1, by omega⟩ hq; omega⟩).1, fun i hi hj => (h.prm (i := i) ⟨h1, by omega⟩ hq ⟨hi, by have := h.pmn (p := p) (q := q) ⟨h1, by omega⟩ hq; omega⟩).1⟩
theorem Bok.v26 (h : Bok W Of N) (hp : 0 ≤ p ∧ p < 6) : 0 ≤ N (61 * p + 26) ∧ N (61 * p + 26) ≤ 255 := by
  have h1 := h p 26 hp.1 hp.2 (by omega) (by omega)
  rwa [k26] at h1
theorem Bok.v27 (h : Bok W Of N) (hp : 0 ≤ p ∧ p < 6) : 0 ≤ N (61 * p + 27) ∧ N (61 * p + 27) ≤ 255 := by
  have h1 := h p 27 hp.1 hp.2 (by omega) (by omega)
  rwa [k27] at h1
theorem Bok.v28 (h : Bok W Of N) (hp : 0 ≤ p ∧ p < 6) : N (61 * p + 28) = 0 ∨ N (61 * p + 28) = 1 := by
  have h1 := h p 28 hp.1 hp.2 (by omega) (by omega)
  rwa [k28] at h1
theorem Bok.v29 (h : Bok W Of N) (hp : 0 ≤ p ∧ p < 6) : N (61 * p + 29) = 0 ∨ N (61 * p + 29) = 1 := by
  have h1 := h p 29 hp.1 hp.2 (by omega) (by omega)
  rwa [k29] at h1
theorem Bok.v32 (h : Bok W Of N) (hp : 0 ≤ p ∧ p < 6) : 0 ≤ N (61 * p + 32) ∧ N (61 * p + 32) ≤ 3 := by
  have h1 := h p 32 hp.1 hp.2 (by omega) (by omega)
  rwa [k32] at h1
theorem Bok.v43 (h : Bok W Of N) (hp : 0 ≤ p ∧ p < 6) : N (61 * p + 43) = 0 ∨ N (61 * p + 43) = 1 := by
  have h1 := h p 43 hp.1 hp.2 (by omega) (by omega)
  rwa [k43] at h1
theorem Bok.v44 (h : Bok W Of N) (hp : 0 ≤ p ∧ p < 6) : 0 ≤ N (61 * p + 44) ∧ N (61 * p + 44) ≤ 2 := by
  have h1 := h p 44 hp.1 hp.2 (by omega) (by omega)
  rwa [k44] at h1
theorem Bok.v45 (h : Bok W Of N) (hp : 0 ≤ p ∧ p < 6) : 0 ≤ N (61 * p + 45) ∧ N (61 * p + 45) ≤ 3 := by
  have h1 := h p 45 hp.1 hp.2 (by omega) (by omega)
  rwa [k45] at h1
theorem Bok.v46 (h : Bok W Of N) (hp : 0 ≤ p ∧ p < 6) : -1 ≤ N (61 * p + 46) ∧ N (61 * p + 46) ≤ 2 := by
  have h1 := h p 46 hp.1 hp.2 (by omega) (by omega)
  rwa [k46] at h1
theorem Bok.v47 (h : Bok W Of N) (hp : 0 ≤ p ∧ p < 6) : -1 ≤ N (61 * p + 47) ∧ N (61 * p + 47) ≤ 255 := by
  have h1 := h p 47 hp.1 hp.2 (by omega) (by omega)
  rwa [k47] at h1
theorem Bok.v48 (h : Bok W Of N) (hp : 0 ≤ p ∧ p < 6) : 0 ≤ N (61 * p + 48) ∧ N (61 * p + 48) ≤ 4 := by
  have h1 := h p 48 hp.1 hp.2 (by omega) (by omega)
  rwa [k48] at h1
theorem Bok.v49 (h : Bok W Of N) (hp : 0 ≤ p ∧ p < 6) : -1 ≤ N (61 * p + 49) ∧ N (61 * p + 49) ≤ 3 := by
  have h1 := h p 49 hp.1 hp.2 (by omega) (by omega)
  rwa [k49] at h1
theorem Bok.v57 (h : Bok W Of N) (hp : 0 ≤ p ∧ p < 6) : 0 ≤ N (61 * p + 57) ∧ N (61 * p + 57) ≤ 99 := by
  have h1 := h p 57 hp.1 hp.2 (by omega) (by omega)
  rwa [k57] at h1
theorem Bok.v58 (h : Bok W Of N) (hp : 0 ≤ p ∧ p < 6) : 0 ≤ N (61 * p + 58) ∧ N (61 * p + 58) ≤ 9 := by
  have h1 := h p 58 hp.1 hp.2 (by omega) (by omega)
  rwa [k58] at h1
theorem Bok.v18 (h : Bok W Of N) (hp : 0 ≤ p ∧ p < 6) : 0 ≤ N (61 * p + 18) ∧ N (61 * p + 18) ≤ 6 := by
  have h1 := h p 18 hp.1 hp.2 (by omega) (by omega)
  rwa [k18] at h1
theorem Bok.v25 (h : Bok W Of N) (hp : 0 ≤ p ∧ p < 6) : 0 ≤ N (61 * p + 25) ∧ N (61 * p + 25) ≤ 6 := by
  have h1 := h p 25 hp.1 hp.2 (by omega) (by omega)
  rwa [k25] at h1
theorem Bok.seq (h : Bok W Of N) (hp : 0 ≤ p ∧ p < 6) (hq : q = 0 ∨ q = 1) : 0 ≤ N (61 * p + (26 + q)) ∧ N (61 * p + (26 + q)) ≤ 255 := by
  have h1 := h p (26 + q) hp.1 hp.2 (by omega) (by omega)
  rwa [kseq hq] at h1
theorem Bok.frm (h : Bok W Of N) (hp : 0 ≤ p ∧ p < 6) (hq : q = 0 ∨ q = 1) : 0 ≤ N (61 * p + (30 + q)) ∧ N (61 * p + (30 + q)) ≤ 20000 := by
  have h1 := h p (30 + q) hp.1 hp.2 (by omega) (by omega)
  rwa [kfrm hq] at h1
/-! ===== the deeds keep it ===== -/
theorem Bok.bsh1 {k a b : Int} (h : Bok W Of N) (hp : 0 ≤ p ∧ p < 6) (hb : 0 ≤ b ∧ b < 6) (ha : 0 ≤ a ∧ a < 6) (hk : k = 0 ∨ k = 6 ∨ k = 12 ∨ k = 19) : Bok W Of (sh1 N p k a b) := by
  refine h.bup (by omega) ?_
  have h1 := h p (k + a) hp.1 hp.2 (by omega) (by omega)
  rcases hk with rfl | rfl | rfl | rfl
  · rw [kVc (by omega)] at h1 ⊢; exact h1
  · rw [k999 (by omega)] at h1 ⊢; exact h1
  · rw [k999 (by omega)] at h1 ⊢; exact h1
  · rw [kVc (by omega)] at h1 ⊢; exact h1
theorem Bok.bsh3 {a b : Int} (h : Bok W Of N) (hp : 0 ≤ p ∧ p < 6) (hb : 0 ≤ b ∧ b < 6) (ha : 0 ≤ a ∧ a < 6) : Bok W Of (sh3 N p q a b) := by
  unfold sh3
  split
  · exact ((h.bsh1 hp hb ha (by decide)).bsh1 hp hb ha (by decide)).bsh1 hp hb ha (by decide)
  · exact h.bsh1 hp hb ha (by decide)
theorem Bok.binsE {c n : Int} (h : Bok W Of N) (hc : Vc W Of c) (hi : 0 ≤ i ∧ i < 6) (hn : 0 ≤ n ∧ n < 6) : Bok W Of (insE N p q c n i) := by
  unfold insE
  split
  · exact (((h.bup (by omega) (by rw [kVc (by omega)]; exact hc)).bup (by omega) (by rw [k999 (by omega)]; omega)).bup (by omega) (by rw [k999 (by omega)]; omega)).bup (by omega) (by rw [k18]; omega)
  · exact (h.bup (by omega) (by rw [kVc (by omega)]; exact hc)).bup (by omega) (by rw [k25]; omega)
theorem Bok.binsL {c n : Int} (hp : 0 ≤ p ∧ p < 6) (hc : Vc W Of c) (hn : 0 ≤ n ∧ n < 6) (m : Nat) : ∀ (i : Int) (N : Int → Int), i = m → i ≤ n → Bok W Of N → Bok W Of (insL p q c n m i N) := by
  induction m with
  | zero => intro i N hi hin h; exact h.binsE hc (by omega) hn
  | succ m ih =>
    intro i N hi hin h
    rw [insL]
    split
    · exact h.binsE hc (by omega) hn
    · exact ih _ _ (by omega) (by omega) (h.bsh3 hp (by omega) (by omega))
theorem Bok.binsF {c : Int} (h : Bok W Of N) (hp : 0 ≤ p ∧ p < 6) (hq : q = 0 ∨ q = 1) (hc : Vc W Of c) : Bok W Of (insF N p q c) := by
  have hm := h.mny hp hq
  unfold insF
  split
  · exact h
  · rename_i hne
    have hn6 : ¬ N (61 * p + mq q) = 6 := fun e => hne (Or.inl e)
    exact Bok.binsL hp hc (by omega) _ _ _ (by omega) (by omega) h
theorem Bok.bremL (hp : 0 ≤ p ∧ p < 6) (m : Nat) : ∀ (i : Int) (N : Int → Int), 1 ≤ i → i + m ≤ 6 → Bok W Of N → Bok W Of (remL p q m i N) := by
  induction m with
  | zero => intro i N hi hin h; exact h
  | succ m ih =>
    intro i N hi hin h
    exact ih _ _ (by omega) (by omega) (h.bsh3 hp (by omega) (by omega))
theorem remL_m (hq : q = 0 ∨ q = 1) (m : Nat) : ∀ (i : Int) (N : Int → Int), 1 ≤ i → i + m ≤ 6 → remL p q m i N (61 * p + mq q) = N (61 * p + mq q) := by
  induction m with
  | zero => intro i N hi hin; rfl
  | succ m ih =>
    intro i N hi hin
    rw [remL, ih _ _ (by omega) (by omega), sh3_m hq (by omega) (by rcases hq with rfl | rfl <;> decide)]
theorem Bok.bremF {c : Int} (h : Bok W Of N) (hp : 0 ≤ p ∧ p < 6) (hq : q = 0 ∨ q = 1) : Bok W Of (remF N p q c) := by
  have hm := h.mny hp hq
  have hmq := mq_r hq
  have hpl := plc_r (N := N) (p := p) (q := q) (c := c) hm.1
  unfold remF
  split
  · exact h
  · have hb := Bok.bremL (q := q) hp (N (61 * p + mq q) - (plc N p q c + 1)).toNat (plc N p q c + 1) N (by omega) (by omega) h
    refine hb.bup (by omega) ?_
    rw [kmq hq, remL_m hq _ _ _ (by omega) (by omega)]
    omega
theorem Bok.bclrF (h : Bok W Of N) (hq : q = 0 ∨ q = 1) : Bok W Of (clrF N p q) := by
  have hmq := mq_r hq
  exact (h.bup (by omega) (by rw [kmq hq]; omega)).bup (by omega) (by rw [kseq hq]; omega)
theorem Bok.bstoF (h : Bok W Of N) (hq : q = 0 ∨ q = 1) : Bok W Of (stoF N p q) :=
  (h.bup (by omega) (by rw [kwai hq]; omega)).bup (by omega) (by rw [kpmn hq]; omega)
theorem Bok.bwaiF (h : Bok W Of N) (hq : q = 0 ∨ q = 1) (hf : 0 ≤ N 368 ∧ N 368 ≤ 20000) : Bok W Of (waiF N p q) :=
  (h.bup (by omega) (by rw [kwai hq]; omega)).bup (by omega) (by rw [kfrm hq]; omega)
theorem Bok.bwriF {so ki re as : Int} (h : Bok W Of N) (hp : 0 ≤ p ∧ p < 6) (h1 : 0 ≤ so ∧ so ≤ 2) (h2 : 0 ≤ ki ∧ ki ≤ 3) (h3 : -1 ≤ re ∧ re ≤ 2) (h4 : -1 ≤ as ∧ as ≤ 3) : Bok W Of (wriF N p so ki re as) := by
  have hs := h.v26 hp
  unfold wriF
  exact ((((((h.bup (by omega) (by rw [k43]; omega)).bup (by omega) (by rw [k44]; omega)).bup (by omega) (by rw [k45]; omega)).bup (by omega) (by rw [k46]; omega)).bup (by omega) (by rw [k47]; split <;> omega)).bup (by omega) (by rw [k49]; omega)).bup (by omega) (by rw [k48]; omega)
theorem Bok.bencF {c : Int} (h : Bok W Of N) (hm : 0 ≤ N (61 * p + 48) ∧ N (61 * p + 48) < 4) (hc : Vc W Of c) : Bok W Of (encF N p c) :=
  (h.bup (by omega) (by rw [kVc (by omega)]; exact hc)).bup (by omega) (by rw [k48]; omega)
theorem Bok.bencL {f : Int → Int} (m : Nat) : ∀ (i : Int) (N : Int → Int), 0 ≤ N (61 * p + 48) → N (61 * p + 48) + m ≤ 4 → (∀ j : Int, i ≤ j → j < i + m → Vc W Of (f j)) → Bok W Of N → Bok W Of (encL p f m i N) := by
  induction m with
  | zero => intro i N h1 h2 hf h; exact h
  | succ m ih =>
    intro i N h1 h2 hf h
    exact ih _ _ (by rw [encF_48]; omega) (by rw [encF_48]; omega) (fun j a b => hf j (by omega) (by omega)) (h.bencF (by omega) (hf i (by omega) (by omega)))
theorem encL_48 {f : Int → Int} (m : Nat) : ∀ (i : Int) (N : Int → Int), encL p f m i N (61 * p + 48) = N (61 * p + 48) + m := by
  induction m with
  | zero => intro i N; simp [encL]
  | succ m ih => intro i N; rw [encL, ih, encF_48]; omega
theorem encL_c {f g : Int → Int} (m : Nat) : ∀ (i : Int) (N : Int → Int), (∀ j : Int, i ≤ j → j < i + m → f j = g j) → encL p f m i N = encL p g m i N := by
  induction m with
  | zero => intro i N h; rfl
  | succ m ih => intro i N h; rw [encL, encL, h i (by omega) (by omega), ih _ _ (fun j a b => h j (by omega) (by omega))]
theorem prmL_c {f g : Int → Int} (m : Nat) : ∀ (i : Int) (N : Int → Int), (∀ j : Int, i ≤ j → j < i + m → f j = g j) → prmL p q f m i N = prmL p q g m i N := by
  induction m with
  | zero => intro i N h; rfl
  | succ m ih => intro i N h; rw [prmL, prmL, h i (by omega) (by omega), ih _ _ (fun j a b => h j (by omega) (by omega))]
theorem Bok.bprmL {f : Int → Int} (hq : q = 0 ∨ q = 1) (m : Nat) : ∀ (i : Int) (N : Int → Int), 0 ≤ i → i + m ≤ 4 → (∀ j : Int, i ≤ j → j < i + m → Vc W Of (f j)) → Bok W Of N → Bok W Of (prmL p q f m i N) := by
  induction m with
  | zero => intro i N h1 h2 hf h; exact h
  | succ m ih =>
    intro i N h1 h2 hf h
    exact ih _ _ (by omega) (by omega) (fun j a b => hf j (by omega) (by omega)) (h.bup (by omega) (by rw [kVc (by omega)]; exact hf i (by omega) (by omega)))
theorem Bok.bprmF {n : Int} {f : Int → Int} (h : Bok W Of N) (hq : q = 0 ∨ q = 1) (hn : 0 ≤ n ∧ n ≤ 4) (hf : ∀ j : Int, 0 ≤ j → j < n → Vc W Of (f j)) : Bok W Of (prmF N p q n f) :=
  Bok.bprmL hq _ _ _ (by omega) (by omega) (fun j a b => hf j a (by omega)) (h.bup (by omega) (by rw [kpmn hq]; exact hn))
end BK
