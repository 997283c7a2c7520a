section R30a
variable {t X Y X2 Y2 : Int → Int} {n cl fr : Int}
theorem nmv_r {j lo hi : Int} (h : nmw t n j lo hi = -1) (hj : 0 ≤ j) : lo ≤ nmv t n j ∧ nmv t n j ≤ hi := by
  have hd := nmw_d h hj
  unfold nmw at h
  rw [if_neg (fun z => z hd)] at h
  unfold nmv
  by_cases e : ¬ dg (sg t n (j + 1))
  · rw [if_pos e] at h ⊢; split at h; assumption; omega
  · rw [if_neg e] at h ⊢
    split at h
    · omega
    · split at h; assumption; omega
theorem itL_b (m : Nat) : ∀ (i g : Int) (X : Int → Int), 0 ≤ i → i ≤ n → (∀ k : Int, 0 ≤ k → k < 5 → (¬ cl = 115 → k < 4) → loF cl k ≤ X (fr + k) ∧ X (fr + k) ≤ hiF cl k) → (itL t n cl fr m i g X).1 = -1 → (∀ k : Int, 0 ≤ k → k < 5 → (¬ cl = 115 → k < 4) → loF cl k ≤ (itL t n cl fr m i g X).2.2 (fr + k) ∧ (itL t n cl fr m i g X).2.2 (fr + k) ≤ hiF cl k) ∧ ∀ z : Int, (z < fr ∨ fr + 5 ≤ z ∨ (¬ cl = 115 ∧ fr + 4 ≤ z)) → (itL t n cl fr m i g X).2.2 z = X z := by
  induction m with
  | zero => intro i g X h0 h1 hX h; have hs := skp_r (t := t) h0 h1; rw [itL] at h; simp only [] at h; omega
  | succ m ih =>
    intro i g X h0 h1 hX h
    have hs := skp_r (t := t) h0 h1
    rw [itL] at h ⊢
    by_cases c1 : itF cl (sg t n (skp t n i)) = -1 ∨ bt g (itF cl (sg t n (skp t n i)))
    · rw [if_pos c1]; exact ⟨hX, fun z _ => rfl⟩
    · rw [if_neg c1] at h ⊢
      have hl := sg_lt (t := t) (n := n) (i := skp t n i) (fun e => c1 (Or.inl (by rw [e]; exact itF_n.1)))
      have hs2 := skp_r (t := t) (n := n) (i := skp t n i + 1) (by omega) (by omega)
      have hk := itF_r (cl := cl) (c := sg t n (skp t n i))
      have hk0 : ¬ itF cl (sg t n (skp t n i)) = -1 := fun e => c1 (Or.inl e)
      by_cases c2 : nmw t n (skp t n (skp t n i + 1)) (loF cl (itF cl (sg t n (skp t n i)))) (hiF cl (itF cl (sg t n (skp t n i)))) = -1
      · rw [if_pos c2] at h ⊢
        have hr := nma_r (nmw_d c2 (by omega))
        have hv := nmv_r c2 (by omega)
        have h3 := ih (nma t n (skp t n (skp t n i + 1))) (orB g (itF cl (sg t n (skp t n i)))) (up X (fr + itF cl (sg t n (skp t n i))) (nmv t n (skp t n (skp t n i + 1)))) (by omega) (by omega) (fun k a b c => by
          by_cases e : k = itF cl (sg t n (skp t n i))
          · rw [e, up_s]; exact hv
          · rw [up_n (by omega)]; exact hX k a b c) h
        exact ⟨h3.1, fun z hz => by rw [h3.2 z hz, up_n (by have := hk.2.2; omega)]⟩
      · rw [if_neg c2] at h; exact absurd h c2
theorem us_b {k : Int} (h0 : 0 ≤ k) (h5 : k < 5) : loF cl k ≤ usF cl k ∧ usF cl k ≤ hiF cl k := by
  unfold loF usF hiF
  by_cases h : cl = 115
  · simp only [if_pos h]; constructor <;> (repeat' split) <;> omega
  · simp only [if_neg h]; constructor <;> (repeat' split) <;> omega
theorem itL_cg (m : Nat) : ∀ (i g : Int) (X X2 : Int → Int), (itL t n cl fr m i g X).1 = (itL t n cl fr m i g X2).1 ∧ (itL t n cl fr m i g X).2.1 = (itL t n cl fr m i g X2).2.1 ∧ ∀ z : Int, X z = X2 z → (itL t n cl fr m i g X).2.2 z = (itL t n cl fr m i g X2).2.2 z := by
  induction m with
  | zero => intro i g X X2; rw [itL, itL]; exact ⟨rfl, rfl, fun z h => h⟩
  | succ m ih =>
    intro i g X X2
    rw [itL, itL]
    by_cases c1 : itF cl (sg t n (skp t n i)) = -1 ∨ bt g (itF cl (sg t n (skp t n i)))
    · rw [if_pos c1, if_pos c1]; exact ⟨rfl, rfl, fun z h => h⟩
    · rw [if_neg c1, if_neg c1]
      by_cases c2 : nmw t n (skp t n (skp t n i + 1)) (loF cl (itF cl (sg t n (skp t n i)))) (hiF cl (itF cl (sg t n (skp t n i)))) = -1
      · rw [if_pos c2, if_pos c2]
        have h3 := ih (nma t n (skp t n (skp t n i + 1))) (orB g (itF cl (sg t n (skp t n i)))) (up X (fr + itF cl (sg t n (skp t n i))) (nmv t n (skp t n (skp t n i + 1)))) (up X2 (fr + itF cl (sg t n (skp t n i))) (nmv t n (skp t n (skp t n i + 1))))
        refine ⟨h3.1, h3.2.1, fun z h => h3.2.2 z ?_⟩
        by_cases e : z = fr + itF cl (sg t n (skp t n i))
        · rw [e, up_s, up_s]
        · rw [up_n e, up_n e]; exact h
      · rw [if_neg c2, if_neg c2]; exact ⟨rfl, rfl, fun z h => h⟩
theorem Whl_cg {np : Int} (h : ∀ z : Int, 0 ≤ z → z < 4 * np → Y z = Y2 z) : Whl np Y ↔ Whl np Y2 := by
  unfold Whl
  constructor
  · rintro ⟨a, b⟩
    refine ⟨a, fun p p0 p1 => ?_⟩
    rw [← h (4 * p + 0) (by omega) (by omega), ← h (4 * p + 1) (by omega) (by omega)]
    exact ⟨(b p p0 p1).1, fun q q0 q1 => by rw [← h (4 * q + 0) (by omega) (by omega), ← h (4 * q + 1) (by omega) (by omega)]; exact (b p p0 p1).2 q q0 q1⟩
  · rintro ⟨a, b⟩
    refine ⟨a, fun p p0 p1 => ?_⟩
    rw [h (4 * p + 0) (by omega) (by omega), h (4 * p + 1) (by omega) (by omega)]
    exact ⟨(b p p0 p1).1, fun q q0 q1 => by rw [h (4 * q + 0) (by omega) (by omega), h (4 * q + 1) (by omega) (by omega)]; exact (b p p0 p1).2 q q0 q1⟩
/-- a mesh that is read: its bounds -/
def MsB (r : Int × Int × (Int → Int) × (Int → Int)) : Prop := (0 < r.2.1 ∧ r.2.1 ≤ 6) ∧ (∀ k : Int, 0 ≤ k → k < 5 → loF 115 k ≤ r.2.2.1 k ∧ r.2.2.1 k ≤ hiF 115 k) ∧ (∀ p k : Int, 0 ≤ p → p < r.2.1 → 0 ≤ k → k < 4 → loF 112 k ≤ r.2.2.2 (4 * p + k) ∧ r.2.2.2 (4 * p + k) ≤ hiF 112 k) ∧ Whl r.2.1 r.2.2.2
theorem msL_b (m : Nat) : ∀ (i ru np : Int) (X Y : Int → Int), 0 ≤ i → i ≤ n → (0 ≤ np ∧ np ≤ 6) → (∀ k : Int, 0 ≤ k → k < 5 → loF 115 k ≤ X k ∧ X k ≤ hiF 115 k) → (∀ p k : Int, 0 ≤ p → p < np → 0 ≤ k → k < 4 → loF 112 k ≤ Y (4 * p + k) ∧ Y (4 * p + k) ≤ hiF 112 k) → (msL t n m i ru np X Y).1 = -1 → MsB (msL t n m i ru np X Y) := by
  induction m with
  | zero => intro i ru np X Y h0 h1 _ _ _ h; rw [msL] at h; simp only [] at h; omega
  | succ m ih =>
    intro i ru np X Y h0 h1 hnp hX hY h
    have hs := skp_r (t := t) h0 h1
    rw [msL] at h ⊢
    have fin : ∀ (k : Int → Int × Int × (Int → Int) × (Int → Int)) (w a np' : Int) (X' Y' : Int → Int), (0 ≤ np' ∧ np' ≤ 6) → (w = -1 → (0 ≤ a ∧ a ≤ n) ∧ (∀ k : Int, 0 ≤ k → k < 5 → loF 115 k ≤ X' k ∧ X' k ≤ hiF 115 k) ∧ (∀ p k : Int, 0 ≤ p → p < np' → 0 ≤ k → k < 4 → loF 112 k ≤ Y' (4 * p + k) ∧ Y' (4 * p + k) ≤ hiF 112 k)) → (w = -1 → a < n → (k (a + 1)).1 = -1 → MsB (k (a + 1))) → (msC t n k w a np' X' Y').1 = -1 → MsB (msC t n k w a np' X' Y') := by
      intro k w a np' X' Y' hn' hw hk hh
      unfold msC at hh ⊢
      by_cases e : ¬ w = -1
      · rw [if_pos e] at hh; exact absurd hh e
      · rw [if_neg e] at hh ⊢
        have ew : w = -1 := Classical.byContradiction e
        by_cases e2 : sg t n a = 59
        · rw [if_pos e2] at hh ⊢
          exact hk ew (sg_lt (t := t) (n := n) (i := a) (by omega)).2 hh
        · rw [if_neg e2] at hh ⊢
          by_cases e3 : sg t n a = -1 ∧ Whl np' Y'
          · rw [if_pos e3]; exact ⟨⟨e3.2.1, hn'.2⟩, (hw ew).2.1, (hw ew).2.2, e3.2⟩
          · rw [if_neg e3] at hh; have := (hw ew).1; simp only [] at hh; omega
    by_cases c1 : sg t n (skp t n i) = 115 ∧ ru = 0
    · rw [if_pos c1] at h ⊢
      have hl := sg_lt (t := t) (n := n) (i := skp t n i) (by omega)
      refine fin _ _ _ _ _ _ hnp (fun e => ?_) (fun e ha hh => ?_) h
      · have hr := itL_r (t := t) (n := n) (cl := 115) (fr := 0) 6 (skp t n i + 1) 0 (cpW X (usF 115) 0 5) (by omega) (by omega) e
        have hb := itL_b (t := t) (n := n) (cl := 115) (fr := 0) 6 (skp t n i + 1) 0 (cpW X (usF 115) 0 5) (by omega) (by omega) (fun k a b _ => by unfold cpW; rw [if_pos (by omega), show 0 + k - 0 = k by omega]; exact us_b a (by omega)) e
        exact ⟨⟨hr.1, hr.2.1⟩, fun k a b => by have := hb.1 k a b (fun z => absurd rfl z); rw [Int.zero_add] at this; exact this, hY⟩
      · have hr := itL_r (t := t) (n := n) (cl := 115) (fr := 0) 6 (skp t n i + 1) 0 (cpW X (usF 115) 0 5) (by omega) (by omega) e
        have hb := itL_b (t := t) (n := n) (cl := 115) (fr := 0) 6 (skp t n i + 1) 0 (cpW X (usF 115) 0 5) (by omega) (by omega) (fun k a b _ => by unfold cpW; rw [if_pos (by omega), show 0 + k - 0 = k by omega]; exact us_b a (by omega)) e
        exact ih _ _ _ _ _ (by omega) (by omega) hnp (fun k a b => by have := hb.1 k a b (fun z => absurd rfl z); rw [Int.zero_add] at this; exact this) hY hh
    · rw [if_neg c1] at h ⊢
      by_cases c2 : sg t n (skp t n i) = 112 ∧ np < 6
      · rw [if_pos c2] at h ⊢
        have hl := sg_lt (t := t) (n := n) (i := skp t n i) (by omega)
        have hb : (itL t n 112 (4 * np) 5 (skp t n i + 1) 0 (cpW Y (usF 112) (4 * np) 4)).1 = -1 → ∀ p k : Int, 0 ≤ p → p < np + 1 → 0 ≤ k → k < 4 → loF 112 k ≤ (itL t n 112 (4 * np) 5 (skp t n i + 1) 0 (cpW Y (usF 112) (4 * np) 4)).2.2 (4 * p + k) ∧ (itL t n 112 (4 * np) 5 (skp t n i + 1) 0 (cpW Y (usF 112) (4 * np) 4)).2.2 (4 * p + k) ≤ hiF 112 k := fun e p k p0 p1 k0 k1 => by
          have hb := itL_b (t := t) (n := n) (cl := 112) (fr := 4 * np) 5 (skp t n i + 1) 0 (cpW Y (usF 112) (4 * np) 4) (by omega) (by omega) (fun k a b c => by have := c (by decide); unfold cpW; rw [if_pos (by omega), show 4 * np + k - 4 * np = k by omega]; exact us_b a (by omega)) e
          by_cases ep : p = np
          · rw [ep]; exact hb.1 k k0 (by omega) (fun _ => k1)
          · rw [hb.2 _ (by omega)]; unfold cpW; rw [if_neg (by omega)]; exact hY p k p0 (by omega) k0 k1
        refine fin _ _ _ _ _ _ (by omega) (fun e => ?_) (fun e ha hh => ?_) h
        · have hr := itL_r (t := t) (n := n) (cl := 112) (fr := 4 * np) 5 (skp t n i + 1) 0 (cpW Y (usF 112) (4 * np) 4) (by omega) (by omega) e
          exact ⟨⟨hr.1, hr.2.1⟩, hX, hb e⟩
        · have hr := itL_r (t := t) (n := n) (cl := 112) (fr := 4 * np) 5 (skp t n i + 1) 0 (cpW Y (usF 112) (4 * np) 4) (by omega) (by omega) e
          exact ih _ _ _ _ _ (by omega) (by omega) (by omega) hX (hb e) hh
      · rw [if_neg c2] at h; simp only [] at h; omega
/-- two readings over other drafts -/
def MsE (r s : Int × Int × (Int → Int) × (Int → Int)) : Prop := r.1 = s.1 ∧ r.2.1 = s.2.1 ∧ (∀ k : Int, 0 ≤ k → k < 5 → r.2.2.1 k = s.2.2.1 k) ∧ ∀ k : Int, 0 ≤ k → k < 4 * r.2.1 → r.2.2.2 k = s.2.2.2 k
theorem msL_cg (m : Nat) : ∀ (i ru np : Int) (X X2 Y Y2 : Int → Int), 0 ≤ np → (∀ k : Int, 0 ≤ k → k < 5 → X k = X2 k) → (∀ k : Int, 0 ≤ k → k < 4 * np → Y k = Y2 k) → MsE (msL t n m i ru np X Y) (msL t n m i ru np X2 Y2) := by
  induction m with
  | zero => intro i ru np X X2 Y Y2 _ hX hY; rw [msL, msL]; exact ⟨rfl, rfl, hX, hY⟩
  | succ m ih =>
    intro i ru np X X2 Y Y2 h0 hX hY
    rw [msL, msL]
    have fin : ∀ (k k2 : Int → Int × Int × (Int → Int) × (Int → Int)) (w w2 a a2 np' : Int) (X' X2' Y' Y2' : Int → Int), w = w2 → a = a2 → (∀ k : Int, 0 ≤ k → k < 5 → X' k = X2' k) → (∀ k : Int, 0 ≤ k → k < 4 * np' → Y' k = Y2' k) → (∀ z, MsE (k z) (k2 z)) → MsE (msC t n k w a np' X' Y') (msC t n k2 w2 a2 np' X2' Y2') := by
      intro k k2 w w2 a a2 np' X' X2' Y' Y2' e1 e2 hX' hY' hk
      subst e1 e2
      unfold msC
      rw [show Whl np' Y' = Whl np' Y2' from propext (Whl_cg hY')]
      split
      · exact ⟨rfl, rfl, hX', hY'⟩
      · split
        · exact hk _
        · split
          · exact ⟨rfl, rfl, hX', hY'⟩
          · exact ⟨rfl, rfl, hX', hY'⟩
    by_cases c1 : sg t n (skp t n i) = 115 ∧ ru = 0
    · rw [if_pos c1, if_pos c1]
      have hc := itL_cg (t := t) (n := n) (cl := 115) (fr := 0) 6 (skp t n i + 1) 0 (cpW X (usF 115) 0 5) (cpW X2 (usF 115) 0 5)
      have hx : ∀ k : Int, 0 ≤ k → k < 5 → (itL t n 115 0 6 (skp t n i + 1) 0 (cpW X (usF 115) 0 5)).2.2 k = (itL t n 115 0 6 (skp t n i + 1) 0 (cpW X2 (usF 115) 0 5)).2.2 k := fun k a b => hc.2.2 k (by unfold cpW; rw [if_pos (by omega), if_pos (by omega)])
      exact fin _ _ _ _ _ _ _ _ _ _ _ hc.1 hc.2.1 hx hY (fun z => ih _ _ _ _ _ _ _ h0 hx hY)
    · rw [if_neg c1, if_neg c1]
      by_cases c2 : sg t n (skp t n i) = 112 ∧ np < 6
      · rw [if_pos c2, if_pos c2]
        have hc := itL_cg (t := t) (n := n) (cl := 112) (fr := 4 * np) 5 (skp t n i + 1) 0 (cpW Y (usF 112) (4 * np) 4) (cpW Y2 (usF 112) (4 * np) 4)
        have hy : ∀ k : Int, 0 ≤ k → k < 4 * (np + 1) → (itL t n 112 (4 * np) 5 (skp t n i + 1) 0 (cpW Y (usF 112) (4 * np) 4)).2.2 k = (itL t n 112 (4 * np) 5 (skp t n i + 1) 0 (cpW Y2 (usF 112) (4 * np) 4)).2.2 k := fun k a b => hc.2.2 k (by
          unfold cpW
          by_cases e : 4 * np ≤ k ∧ k < 4 * np + 4
          · rw [if_pos e, if_pos e]
          · rw [if_neg e, if_neg e]; exact hY k a (by omega))
        exact fin _ _ _ _ _ _ _ _ _ _ _ hc.1 hc.2.1 hX hy (fun z => ih _ _ _ _ _ _ _ (by omega) hX hy)
      · rw [if_neg c2, if_neg c2]; exact ⟨rfl, rfl, hX, hY⟩
theorem mshV_cg : MsE (mshV t n X Y) (mshV t n X2 Y2) := msL_cg _ _ _ _ _ _ _ _ (Int.le_refl _) (fun k a b => by unfold cpW; rw [if_pos (by omega), if_pos (by omega)]) (fun k a b => by omega)
theorem mshV_b (hn : 0 ≤ n) (h : (mshV t n X Y).1 = -1) : MsB (mshV t n X Y) := msL_b _ _ _ _ _ _ (Int.le_refl _) hn (by omega) (fun k a b => by unfold cpW; rw [if_pos (by omega), show k - 0 = k by omega]; exact us_b a (by omega)) (fun p k a b => by omega) h
theorem hpL_b (m : Nat) : ∀ (i c : Int) (H : Int → Int), (0 ≤ c ∧ c ≤ 16) → (∀ k : Int, 0 ≤ k → k < c → 0 ≤ H k ∧ H k ≤ 9) → (0 ≤ (hpL t n m i c H).2.1 ∧ (hpL t n m i c H).2.1 ≤ 16) ∧ ∀ k : Int, 0 ≤ k → k < (hpL t n m i c H).2.1 → 0 ≤ (hpL t n m i c H).2.2 k ∧ (hpL t n m i c H).2.2 k ≤ 9 := by
  induction m with
  | zero => intro i c H hc hH; rw [hpL]; exact ⟨hc, hH⟩
  | succ m ih =>
    intro i c H hc hH
    rw [hpL]
    split
    · exact ih _ _ _ hc hH
    · by_cases e : ¬ dg (sg t n i) ∨ 16 ≤ c
      · rw [if_pos e]; exact ⟨hc, hH⟩
      · rw [if_neg e]
        have hd : dg (sg t n i) := Classical.byContradiction (fun z => e (Or.inl z))
        unfold dg at hd
        have hc2 : c < 16 := Classical.byContradiction (fun z => e (Or.inr (by omega)))
        exact ih _ _ _ (by omega) (fun k a b => by
          by_cases ek : k = c
          · rw [ek, up_s]; omega
          · rw [up_n ek]; exact hH k a (by omega))
theorem hpL_cg (m : Nat) : ∀ (i c : Int) (H H2 : Int → Int), 0 ≤ c → (∀ k : Int, 0 ≤ k → k < c → H k = H2 k) → (hpL t n m i c H).1 = (hpL t n m i c H2).1 ∧ (hpL t n m i c H).2.1 = (hpL t n m i c H2).2.1 ∧ ∀ k : Int, 0 ≤ k → k < (hpL t n m i c H).2.1 → (hpL t n m i c H).2.2 k = (hpL t n m i c H2).2.2 k := by
  induction m with
  | zero => intro i c H H2 _ h; rw [hpL, hpL]; exact ⟨rfl, rfl, h⟩
  | succ m ih =>
    intro i c H H2 h0 h
    rw [hpL, hpL]
    split
    · exact ih _ _ _ _ h0 h
    · by_cases e : ¬ dg (sg t n i) ∨ 16 ≤ c
      · rw [if_pos e, if_pos e]; exact ⟨rfl, rfl, h⟩
      · rw [if_neg e, if_neg e]
        exact ih _ _ _ _ (by omega) (fun k a b => by
          by_cases ek : k = c
          · rw [ek, up_s, up_s]
          · rw [up_n ek, up_n ek]; exact h k a (by omega))
end R30a
section R30
variable {d : Nat} {iv lw : aF} {F N G O T S X Y Z : Int → Int} {R : aPost} {a w p h : Int}
/-- scratch of reading alone -/
def EqR (iv E' : aF) (F F' : Int → Int) : Prop := (∀ i : Nat, ¬ i = 2 → ¬ i = 3 → ¬ i = 4 → E' i = iv i) ∧ ∀ j : Int, ¬ j = 3 → ¬ j = 4 → ¬ j = 8 → ¬ j = 9 → F' j = F j
theorem EqR.re : EqR iv (RE iv X Y Z) F (RF F a w p h) := ⟨fun i h2 h3 h4 => by unfold RE; rw [uA_n h4, uA_n h3, uA_n h2], fun j h3 h4 h8 h9 => RFn h3 h4 h8 h9⟩
theorem EqR.ee {E' : aF} {F' : Int → Int} (h : EqR iv E' F F') : EqE iv E' := fun i hi => h.1 i (by omega) (by omega) (by omega)
theorem EqR.ff {E' : aF} {F' : Int → Int} (h : EqR iv E' F F') : EqF F F' := fun j hj => h.2 j (by omega) (by omega) (by omega) (by omega)
noncomputable def aFault (iv : aF) (F : Int → Int) (s : Int) : Int := if s = 0 then (mshV (iv 1) (F 2) (iv 2) (iv 3)).1 else if s = 1 then (hopV (iv 1) (F 2) (iv 4)).1 else -2
theorem s_fault {s : Int} (hn : 0 ≤ F 2 ∧ F 2 ≤ 240) (htp : ∀ i : Int, 0 ≤ i → i < F 2 → ¬ iv 1 i = -1) (k : ∀ (E' : aF) (F' : Int → Int), EqR iv E' F F' → R (some (aI (aFault iv F s))) SHR (ST E' F' N G O T S) lw RVR) : wp (d + 5) mX12_fault 0 [some (aR 0), some (aI s)] [] SHR (ST iv F N G O T S) lw RVR 0 0 R := by
  unfold aFault at k
  rw [show ST iv F N G O T S = ST (RE iv (iv 2) (iv 3) (iv 4)) (RF F (F 3) (F 4) (F 8) (F 9)) N G O T S by rw [RE_id, RF_id]]
  refine wp_iload_n dX12_fault_0 rfl ?_
  refine wp_if_ne (tgt := 11) dX12_fault_1 rfl (fun h1 => ?_) (fun h1 => ?_)
  · refine wp_iload_n dX12_fault_11 rfl ?_
    refine wp_iconst dX12_fault_12 ?_
    refine wp_icmp_ne (tgt := 23) dX12_fault_13 rfl (fun h13 => ?_) (fun h13 => ?_)
    · refine wp_bipush dX12_fault_23 ?_
      refine wp_ireturn dX12_fault_25 rfl ?_
      rw [if_neg h1, if_neg h13] at k
      exact k _ _ EqR.re
    · refine wp_aload_n dX12_fault_16 rfl ?_
      refine wp_callV (as := []) (ls0 := [_]) (kc := 0) (ks := 0) (bc' := 0) (bs' := 0) dX12_fault_17 vX12_136 rfl rfl rfl (Nat.le_of_ble_eq_true rfl) (Nat.le_of_ble_eq_true rfl) (by omega) (by omega) ?_
      rw [if_neg h1, if_pos h13] at k
      refine s_readHops hn htp (fun e a' => ?_) (fun e a' h' Z' => ?_)
      · rw [e] at k
        refine wp_goto (tgt := 25) dX12_fault_20 rfl ?_
        refine wp_ireturn dX12_fault_25 rfl ?_
        exact k _ _ EqR.re
      · refine wp_goto (tgt := 25) dX12_fault_20 rfl ?_
        refine wp_ireturn dX12_fault_25 rfl ?_
        exact k _ _ EqR.re
  · refine wp_aload_n dX12_fault_4 rfl ?_
    refine wp_callV (as := []) (ls0 := [_, _, _, _]) (kc := 0) (ks := 0) (bc' := 0) (bs' := 0) dX12_fault_5 vX12_133 rfl rfl rfl (Nat.le_of_ble_eq_true rfl) (Nat.le_of_ble_eq_true rfl) (by omega) (by omega) ?_
    rw [if_pos h1] at k
    refine s_readMesh hn (fun e a' => ?_) (fun e a' p' X' Y' => ?_)
    · rw [e] at k
      refine wp_goto (tgt := 25) dX12_fault_8 rfl ?_
      refine wp_ireturn dX12_fault_25 rfl ?_
      exact k _ _ EqR.re
    · refine wp_goto (tgt := 25) dX12_fault_8 rfl ?_
      refine wp_ireturn dX12_fault_25 rfl ?_
      exact k _ _ EqR.re
theorem s_text {s : Int} (hn : 0 ≤ F 2 ∧ F 2 ≤ 240) (htp : ∀ i : Int, 0 ≤ i → i < F 2 → ¬ iv 1 i = -1) 
    (km : s = 0 → (mshV (iv 1) (F 2) (iv 2) (iv 3)).1 = -1 → ∀ (E' : aF) (F' : Int → Int), (∀ i : Nat, ¬ i = 2 → ¬ i = 3 → ¬ i = 4 → ¬ i = 5 → ¬ i = 6 → E' i = iv i) → E' 5 = cpR (iv 5) (mshV (iv 1) (F 2) (iv 2) (iv 3)).2.2.1 0 5 → E' 6 = cpR (iv 6) (mshV (iv 1) (F 2) (iv 2) (iv 3)).2.2.2 0 24 → (∀ j : Int, ¬ j = 2 → ¬ j = 3 → ¬ j = 4 → ¬ j = 8 → ¬ j = 9 → ¬ j = 13 → ¬ j = 25 → ¬ j = 30 → F' j = F j) → F' 2 = 0 → F' 13 = (mshV (iv 1) (F 2) (iv 2) (iv 3)).2.1 → F' 25 = 0 → F' 30 = 0 → R (some (aI (mshV (iv 1) (F 2) (iv 2) (iv 3)).2.1)) SHR (ST E' F' (tmN (E' 6) (mshV (iv 1) (F 2) (iv 2) (iv 3)).2.1 (E' 5 4) N) G O T S) lw RVR)
    (kh : s = 1 → (hopV (iv 1) (F 2) (iv 4)).1 = -1 → ∀ (E' : aF) (F' : Int → Int), (∀ i : Nat, ¬ i = 2 → ¬ i = 3 → ¬ i = 4 → ¬ i = 7 → E' i = iv i) → E' 7 = cpR (iv 7) (hopV (iv 1) (F 2) (iv 4)).2.2 0 (hopV (iv 1) (F 2) (iv 4)).2.1 → (∀ j : Int, ¬ j = 2 → ¬ j = 3 → ¬ j = 4 → ¬ j = 8 → ¬ j = 9 → ¬ j = 14 → F' j = F j) → F' 2 = 0 → F' 14 = (hopV (iv 1) (F 2) (iv 4)).2.1 → R (some (aI (hopV (iv 1) (F 2) (iv 4)).2.1)) SHR (ST E' F' N G O T S) lw RVR)
    (kn : (s = 0 → ¬ (mshV (iv 1) (F 2) (iv 2) (iv 3)).1 = -1) → (s = 1 → ¬ (hopV (iv 1) (F 2) (iv 4)).1 = -1) → ∀ (E' : aF) (F' : Int → Int), EqR iv E' F F' → R (some (aI (-1))) SHR (ST E' F' N G O T S) lw RVR) : wp (d + 5) mX12_text 0 [some (aR 0), some (aI s)] [] SHR (ST iv F N G O T S) lw RVR 0 0 R := by
  rw [show ST iv F N G O T S = ST (RE iv (iv 2) (iv 3) (iv 4)) (RF F (F 3) (F 4) (F 8) (F 9)) N G O T S by rw [RE_id, RF_id]]
  refine wp_iload_n dX12_text_0 rfl ?_
  refine wp_if_ne (tgt := 22) dX12_text_1 rfl (fun h1 => ?_) (fun h1 => ?_)
  · refine wp_iload_n dX12_text_22 rfl ?_
    refine wp_iconst dX12_text_23 ?_
    refine wp_icmp_ne (tgt := 45) dX12_text_24 rfl (fun h24 => ?_) (fun h24 => ?_)
    · refine wp_iconst dX12_text_45 ?_
      refine wp_ireturn dX12_text_46 rfl ?_
      exact kn (fun z => by omega) (fun z => by omega) _ _ EqR.re
    · refine wp_aload_n dX12_text_27 rfl ?_
      refine wp_callV (as := []) (ls0 := [_]) (kc := 0) (ks := 0) (bc' := 0) (bs' := 0) dX12_text_28 vX12_136 rfl rfl rfl (Nat.le_of_ble_eq_true rfl) (Nat.le_of_ble_eq_true rfl) (by omega) (by omega) ?_
      refine s_readHops hn htp (fun e a' => ?_) (fun e a' h' Z' => ?_)
      · have hb := hpL_b (t := iv 1) (n := F 2) (F 2).toNat 0 0 (iv 4) (by omega) (fun k x y => by omega)
        have hb1 : 0 ≤ (hopV (iv 1) (F 2) (iv 4)).2.1 ∧ (hopV (iv 1) (F 2) (iv 4)).2.1 ≤ 16 := hb.1
        refine wp_iconst dX12_text_31 ?_
        refine wp_icmp_ne (tgt := 45) dX12_text_32 rfl (fun q => absurd q (by decide)) (fun _ => ?_)
        refine wp_aload_n dX12_text_35 rfl ?_
        refine wp_iconst dX12_text_36 ?_
        refine wp_putI dX12_text_37 fX12_72 rfl ?_
        try simp only [STu0, STu8, STu10, STu11, STu12, STu13]
        refine wp_aload_n dX12_text_40 rfl ?_
        refine wp_callV (as := []) (ls0 := [_, _]) (kc := 0) (ks := 0) (bc' := 0) (bs' := 0) dX12_text_41 vX12_158 rfl rfl rfl (Nat.le_of_ble_eq_true rfl) (Nat.le_of_ble_eq_true rfl) (by omega) (by omega) ?_
        refine s_takeHops (by rw [up_n (by decide), RF9]; exact hb1) ?_
        rw [up_n (show ¬ (9 : Int) = 2 by decide), RF9, RE4, show RE iv (iv 2) (iv 3) (hopV (iv 1) (F 2) (iv 4)).2.2 7 = iv 7 by unfold RE; rw [uA_n (by decide), uA_n (by decide), uA_n (by decide)]]
        refine wp_ireturn dX12_text_44 rfl ?_
        exact kh (by omega) e _ _ (fun i a b c dd => by rw [uA_n dd]; unfold RE; rw [uA_n c, uA_n b, uA_n a]) uA_s (fun j q2 q3 q4 q8 q9 q14 => by rw [up_n q14, up_n q2, RFn q3 q4 q8 q9]) (by rw [up_n (by decide), up_s]) up_s
      · refine wp_iconst dX12_text_31 ?_
        refine wp_icmp_ne (tgt := 45) dX12_text_32 rfl (fun h32 => ?_) (fun h32 => absurd h32 e)
        refine wp_iconst dX12_text_45 ?_
        refine wp_ireturn dX12_text_46 rfl ?_
        exact kn (fun z => by omega) (fun _ => e) _ _ EqR.re
  · refine wp_aload_n dX12_text_4 rfl ?_
    refine wp_callV (as := []) (ls0 := [_, _, _, _]) (kc := 0) (ks := 0) (bc' := 0) (bs' := 0) dX12_text_5 vX12_133 rfl rfl rfl (Nat.le_of_ble_eq_true rfl) (Nat.le_of_ble_eq_true rfl) (by omega) (by omega) ?_
    refine s_readMesh hn (fun e a' => ?_) (fun e a' p' X' Y' => ?_)
    · have hb := mshV_b hn.1 e
      refine wp_iconst dX12_text_8 ?_
      refine wp_icmp_ne (tgt := 22) dX12_text_9 rfl (fun q => absurd q (by decide)) (fun _ => ?_)
      refine wp_aload_n dX12_text_12 rfl ?_
      refine wp_iconst dX12_text_13 ?_
      refine wp_putI dX12_text_14 fX12_72 rfl ?_
      try simp only [STu0, STu8, STu10, STu11, STu12, STu13]
      refine wp_aload_n dX12_text_17 rfl ?_
      refine wp_callV (as := []) (ls0 := [_, _]) (kc := 0) (ks := 0) (bc' := 0) (bs' := 0) dX12_text_18 vX12_155 rfl rfl rfl (Nat.le_of_ble_eq_true rfl) (Nat.le_of_ble_eq_true rfl) (by omega) (by omega) ?_
      refine s_takeMesh (by rw [up_n (by decide), RF8]; have := hb.1; omega) ?_
      rw [up_n (show ¬ (8 : Int) = 2 by decide), RF8, RE2, RE3, show RE iv (mshV (iv 1) (F 2) (iv 2) (iv 3)).2.2.1 (mshV (iv 1) (F 2) (iv 2) (iv 3)).2.2.2 (iv 4) 5 = iv 5 by unfold RE; rw [uA_n (by decide), uA_n (by decide), uA_n (by decide)], show RE iv (mshV (iv 1) (F 2) (iv 2) (iv 3)).2.2.1 (mshV (iv 1) (F 2) (iv 2) (iv 3)).2.2.2 (iv 4) 6 = iv 6 by unfold RE; rw [uA_n (by decide), uA_n (by decide), uA_n (by decide)]]
      refine wp_ireturn dX12_text_21 rfl ?_
      have hk := km (by omega) e (uA (uA (RE iv (mshV (iv 1) (F 2) (iv 2) (iv 3)).2.2.1 (mshV (iv 1) (F 2) (iv 2) (iv 3)).2.2.2 (iv 4)) 5 (cpR (iv 5) (mshV (iv 1) (F 2) (iv 2) (iv 3)).2.2.1 0 5)) 6 (cpR (iv 6) (mshV (iv 1) (F 2) (iv 2) (iv 3)).2.2.2 0 24)) (up (up (up (up (RF F a' (-1) (mshV (iv 1) (F 2) (iv 2) (iv 3)).2.1 (F 9)) 2 0) 13 (mshV (iv 1) (F 2) (iv 2) (iv 3)).2.1) 25 0) 30 0) (fun i a b c dd ee => by rw [uA_n ee, uA_n dd]; unfold RE; rw [uA_n c, uA_n b, uA_n a]) (by rw [uA_n (by decide), uA_s]) uA_s (fun j q2 q3 q4 q8 q9 q13 q25 q30 => by rw [up_n q30, up_n q25, up_n q13, up_n q2, RFn q3 q4 q8 q9]) (by rw [up_n (by decide), up_n (by decide), up_n (by decide), up_s]) (by rw [up_n (by decide), up_n (by decide), up_s]) (by rw [up_n (by decide), up_s]) up_s
      rw [uA_s, M565] at hk
      exact hk
    · refine wp_iconst dX12_text_8 ?_
      refine wp_icmp_ne (tgt := 22) dX12_text_9 rfl (fun h9 => ?_) (fun h9 => absurd h9 e)
      refine wp_iload_n dX12_text_22 rfl ?_
      refine wp_iconst dX12_text_23 ?_
      refine wp_icmp_ne (tgt := 45) dX12_text_24 rfl (fun h24 => ?_) (fun h24 => by exfalso; omega)
      refine wp_iconst dX12_text_45 ?_
      refine wp_ireturn dX12_text_46 rfl ?_
      exact kn (fun _ => e) (fun z => by omega) _ _ EqR.re
end R30
