section C7
variable {N pa : Int → Int} {p q c n W Of : Int}
def own (q k : Int) : Prop := (q = 0 ∧ 0 ≤ k ∧ k < 19) ∨ (q = 1 ∧ 19 ≤ k ∧ k < 26)
theorem own_b {j : Int} (hq : q = 0 ∨ q = 1) (hj : 0 ≤ j ∧ j < 6) : own q (bq q + j) := by
  rcases hq with rfl | rfl
  · rw [bq0]; left; omega
  · rw [bq1]; right; omega
theorem own_m (hq : q = 0 ∨ q = 1) : own q (mq q) := by
  rcases hq with rfl | rfl
  · rw [mq0]; left; omega
  · rw [mq1]; right; omega
theorem sh3_o {a b k : Int} (hq : q = 0 ∨ q = 1) (hb : 0 ≤ b ∧ b < 6) (hk : ¬ own q k) : sh3 N p q a b (61 * p + k) = N (61 * p + k) := by
  unfold own at hk
  unfold sh3 sh1
  rcases hq with rfl | rfl
  · rw [if_pos rfl, up_n (by omega), up_n (by omega), up_n (by omega)]
  · rw [if_neg (by decide), up_n (by omega)]
theorem sh3_b {a b j : Int} (hq : q = 0 ∨ q = 1) (hb : 0 ≤ b ∧ b < 6) (hj : 0 ≤ j ∧ j < 6) : sh3 N p q a b (61 * p + (bq q + j)) = if j = b then N (61 * p + (bq q + a)) else N (61 * p + (bq q + j)) := by
  unfold sh3 sh1
  rcases hq with rfl | rfl
  · rw [if_pos rfl, bq0, up_n (by omega), up_n (by omega)]
    split
    · rename_i e; rw [e, up_s]
    · rw [up_n (by omega)]
  · rw [if_neg (by decide), bq1]
    split
    · rename_i e; rw [e, up_s]
    · rw [up_n (by omega)]
theorem insE_o {i k : Int} (hq : q = 0 ∨ q = 1) (hi : 0 ≤ i ∧ i < 6) (hk : ¬ own q k) : insE N p q c n i (61 * p + k) = N (61 * p + k) := by
  unfold own at hk
  unfold insE
  rcases hq with rfl | rfl
  · rw [if_pos rfl, up_n (by omega), up_n (by omega), up_n (by omega), up_n (by omega)]
  · rw [if_neg (by decide), up_n (by omega), up_n (by omega)]
theorem insE_b {i j : Int} (hq : q = 0 ∨ q = 1) (hi : 0 ≤ i ∧ i < 6) (hj : 0 ≤ j ∧ j < 6) : insE N p q c n i (61 * p + (bq q + j)) = if j = i then c else N (61 * p + (bq q + j)) := by
  unfold insE
  rcases hq with rfl | rfl
  · rw [if_pos rfl, bq0, up_n (by omega), up_n (by omega), up_n (by omega)]
    split
    · rename_i e; rw [e, up_s]
    · rw [up_n (by omega)]
  · rw [if_neg (by decide), bq1, up_n (by omega)]
    split
    · rename_i e; rw [e, up_s]
    · rw [up_n (by omega)]
theorem insE_m {i : Int} (hq : q = 0 ∨ q = 1) : insE N p q c n i (61 * p + mq q) = n + 1 := by
  unfold insE
  rcases hq with rfl | rfl
  · rw [if_pos rfl, mq0, up_s]
  · rw [if_neg (by decide), mq1, up_s]
theorem insL_o {k : Int} (hq : q = 0 ∨ q = 1) (hn : n < 6) (hk : ¬ own q k) (m : Nat) : ∀ (i : Int) (N : Int → Int), i = m → i ≤ n → insL p q c n m i N (61 * p + k) = N (61 * p + k) := by
  induction m with
  | zero => intro i N h1 h2; rw [insL, insE_o hq (by omega) hk]
  | succ m ih =>
    intro i N h1 h2
    rw [insL]
    split
    · rw [insE_o hq (by omega) hk]
    · rw [ih _ _ (by omega) (by omega), sh3_o hq (by omega) hk]
/-- where the new cell stands: at t -/
theorem insL_c (hq : q = 0 ∨ q = 1) (hn : n < 6) (m : Nat) : ∀ (i : Int) (N : Int → Int), i = m → i ≤ n → ∃ t : Int, 0 ≤ t ∧ t ≤ i ∧ (∀ j : Int, 0 ≤ j → j < 6 → insL p q c n m i N (61 * p + (bq q + j)) = if j < t then N (61 * p + (bq q + j)) else if j = t then c else if j ≤ i then N (61 * p + (bq q + (j - 1))) else N (61 * p + (bq q + j))) ∧ insL p q c n m i N (61 * p + mq q) = n + 1 ∧ (∀ j : Int, t ≤ j → j < i → c < N (61 * p + (bq q + j))) ∧ (t = 0 ∨ N (61 * p + (bq q + (t - 1))) ≤ c) := by
  induction m with
  | zero =>
    intro i N h1 h2
    refine ⟨0, by omega, by omega, fun j h3 h4 => ?_, ?_, fun j h3 h4 => by omega, Or.inl rfl⟩
    · have e0 : i = 0 := by omega
      subst e0
      rw [insL, insE_b hq (by omega) (by omega), if_neg (show ¬ j < 0 by omega)]
      by_cases e : j = 0
      · rw [if_pos e, if_pos e]
      · rw [if_neg e, if_neg e, if_neg (by omega)]
    · rw [insL, insE_m hq]
  | succ m ih =>
    intro i N h1 h2
    rw [insL]
    split
    · rename_i hle
      refine ⟨i, by omega, by omega, fun j h3 h4 => ?_, insE_m hq, fun j h3 h4 => by omega, Or.inr hle⟩
      rw [insE_b hq (by omega) (by omega)]
      by_cases a : j = i
      · rw [if_pos a, if_neg (by omega), if_pos a]
      · rw [if_neg a]
        by_cases a2 : j < i
        · rw [if_pos a2]
        · rw [if_neg a2, if_neg a, if_neg (by omega)]
    · rename_i hle
      obtain ⟨t, g1, g2, g3, g4, g5, g6⟩ := ih (i + -1) (sh3 N p q (i - 1) i) (by omega) (by omega)
      refine ⟨t, g1, by omega, fun j h3 h4 => ?_, g4, fun j h3 h4 => ?_, ?_⟩
      · rw [g3 j h3 h4]
        by_cases a : j < t
        · rw [if_pos a, if_pos a, sh3_b hq (by omega) (by omega), if_neg (by omega)]
        · rw [if_neg a, if_neg a]
          by_cases a1 : j = t
          · rw [if_pos a1, if_pos a1]
          · rw [if_neg a1, if_neg a1]
            by_cases a2 : j ≤ i + -1
            · rw [if_pos a2, if_pos (by omega), sh3_b hq (by omega) (by omega), if_neg (by omega)]
            · rw [if_neg a2, sh3_b hq (by omega) (by omega)]
              by_cases a3 : j = i
              · rw [if_pos a3, if_pos (by omega), a3]
              · rw [if_neg a3, if_neg (by omega)]
      · by_cases a : j = i - 1
        · rw [a]; omega
        · have := g5 j h3 (by omega)
          rw [sh3_b hq (by omega) (by omega), if_neg (by omega)] at this
          exact this
      · rcases g6 with g6 | g6
        · exact Or.inl g6
        · right
          by_cases a : t = 0
          · subst a; rw [sh3_o hq (by omega) (by rcases hq with rfl | rfl <;> (unfold own; first | rw [bq0] | rw [bq1]) <;> omega)] at g6; exact g6
          · rw [sh3_b hq (by omega) (by omega), if_neg (by omega)] at g6; exact g6
def Ris (N : Int → Int) (p q : Int) : Prop := ∀ i j : Int, 0 ≤ i → i < j → j < N (61 * p + mq q) → N (61 * p + (bq q + i)) < N (61 * p + (bq q + j))
theorem fnd_n {f : Int → Int} {b : Int} (n : Nat) : ∀ i : Int, 0 ≤ i → fnd f p b c n i = -1 → ∀ j : Int, i ≤ j → j < i + n → ¬ f (61 * p + (b + j)) = c := by
  induction n with
  | zero => intro i h0 h j h1 h2; omega
  | succ n ih =>
    intro i h0 h j h1 h2
    rw [fnd] at h
    split at h
    · omega
    · by_cases e : j = i
      · subst e; assumption
      · exact ih (i + 1) (by omega) h j (by omega) (by omega)
theorem plc_n (hm : 0 ≤ N (61 * p + mq q)) (h : plc N p q c = -1) (j : Int) (h1 : 0 ≤ j) (h2 : j < N (61 * p + mq q)) : ¬ N (61 * p + (bq q + j)) = c :=
  fnd_n _ 0 (by omega) h j h1 (by omega)
theorem fnd_f {f : Int → Int} {b : Int} (n : Nat) : ∀ i j : Int, 0 ≤ i → i ≤ j → j < i + n → f (61 * p + (b + j)) = c → ¬ fnd f p b c n i = -1 := by
  induction n with
  | zero => intro i j h0 h1 h2; omega
  | succ n ih =>
    intro i j h0 h1 h2 e
    rw [fnd]
    split
    · omega
    · rename_i h3
      exact ih (i + 1) j (by omega) (by by_cases a : j = i; (subst a; exact absurd e h3); omega) (by omega) e
theorem plc_f (hm : 0 ≤ N (61 * p + mq q)) {j : Int} (h1 : 0 ≤ j) (h2 : j < N (61 * p + mq q)) (e : N (61 * p + (bq q + j)) = c) : ¬ plc N p q c = -1 :=
  fnd_f _ 0 j (by omega) h1 (by omega) e
theorem insF_o {k : Int} (hq : q = 0 ∨ q = 1) (hm : 0 ≤ N (61 * p + mq q) ∧ N (61 * p + mq q) ≤ 6) (hk : ¬ own q k) : insF N p q c (61 * p + k) = N (61 * p + k) := by
  unfold insF
  split
  · rfl
  · rename_i h
    have h6 : ¬ N (61 * p + mq q) = 6 := fun e => h (Or.inl e)
    exact insL_o hq (by omega) hk _ _ _ (by omega) (by omega)
theorem insF_c (hq : q = 0 ∨ q = 1) (hm : 0 ≤ N (61 * p + mq q) ∧ N (61 * p + mq q) < 6) (hc : plc N p q c = -1) : ∃ t : Int, 0 ≤ t ∧ t ≤ N (61 * p + mq q) ∧ (∀ j : Int, 0 ≤ j → j < 6 → insF N p q c (61 * p + (bq q + j)) = if j < t then N (61 * p + (bq q + j)) else if j = t then c else if j ≤ N (61 * p + mq q) then N (61 * p + (bq q + (j - 1))) else N (61 * p + (bq q + j))) ∧ insF N p q c (61 * p + mq q) = N (61 * p + mq q) + 1 ∧ (∀ j : Int, t ≤ j → j < N (61 * p + mq q) → c < N (61 * p + (bq q + j))) ∧ (t = 0 ∨ N (61 * p + (bq q + (t - 1))) ≤ c) := by
  unfold insF
  rw [if_neg (fun e => e.elim (by omega) (fun z => z hc))]
  exact insL_c hq (by omega) _ _ _ (by omega) (by omega)
theorem Ris.ins (h : Ris N p q) (hq : q = 0 ∨ q = 1) (hm : 0 ≤ N (61 * p + mq q) ∧ N (61 * p + mq q) ≤ 6) : Ris (insF N p q c) p q := by
  by_cases h6 : N (61 * p + mq q) = 6 ∨ plc N p q c ≠ -1
  · unfold insF; rw [if_pos h6]; exact h
  · have hn6 : ¬ N (61 * p + mq q) = 6 := fun e => h6 (Or.inl e)
    have hpl : plc N p q c = -1 := by
      by_cases e : plc N p q c = -1
      · exact e
      · exact absurd (Or.inr e) h6
    obtain ⟨t, g1, g2, g3, g4, g5, g6⟩ := insF_c (c := c) hq (by omega) hpl
    have hnc := plc_n hm.1 hpl
    intro i j h1 h2 h3
    rw [g4] at h3
    rw [g3 i h1 (by omega), g3 j (by omega) (by omega)]
    have lo : ∀ x : Int, 0 ≤ x → x < t → N (61 * p + (bq q + x)) < c := by
      intro x hx1 hx2
      have a1 : N (61 * p + (bq q + (t - 1))) ≤ c := by rcases g6 with g6 | g6 <;> omega
      have a2 := hnc x hx1 (by omega)
      by_cases e : x = t - 1
      · subst e; omega
      · have := h x (t - 1) hx1 (by omega) (by omega); omega
    by_cases a : i < t
    · rw [if_pos a]
      by_cases b : j < t
      · rw [if_pos b]; exact h i j h1 h2 (by omega)
      · rw [if_neg b]
        by_cases b1 : j = t
        · rw [if_pos b1]; exact lo i h1 a
        · rw [if_neg b1, if_pos (by omega)]
          have e1 := lo i h1 a
          have e2 := g5 (j - 1) (by omega) (by omega)
          omega
    · rw [if_neg a, if_neg (show ¬ j < t by omega), if_neg (show ¬ j = t by omega), if_pos (show j ≤ N (61 * p + mq q) by omega)]
      by_cases b : i = t
      · rw [if_pos b]
        exact g5 (j - 1) (by omega) (by omega)
      · rw [if_neg b, if_pos (by omega)]
        exact h (i - 1) (j - 1) (by omega) (by omega) (by omega)
theorem remL_o {k : Int} (hq : q = 0 ∨ q = 1) (hk : ¬ own q k) (m : Nat) : ∀ (i : Int) (N : Int → Int), 1 ≤ i → i + m ≤ 6 → remL p q m i N (61 * p + k) = N (61 * p + k) := by
  induction m with
  | zero => intro i N h1 h2; rw [remL]
  | succ m ih => intro i N h1 h2; rw [remL, ih _ _ (by omega) (by omega), sh3_o hq (by omega) hk]
theorem remL_b (hq : q = 0 ∨ q = 1) (m : Nat) : ∀ (i : Int) (N : Int → Int), 1 ≤ i → i + m ≤ 6 → ∀ j : Int, 0 ≤ j → j < 6 → remL p q m i N (61 * p + (bq q + j)) = if i - 1 ≤ j ∧ j < i - 1 + m then N (61 * p + (bq q + (j + 1))) else N (61 * p + (bq q + j)) := by
  induction m with
  | zero => intro i N h1 h2 j h3 h4; rw [remL, if_neg (by omega)]
  | succ m ih =>
    intro i N h1 h2 j h3 h4
    rw [remL, ih _ _ (by omega) (by omega) j h3 h4]
    by_cases a : i + 1 - 1 ≤ j ∧ j < i + 1 - 1 + m
    · rw [if_pos a, if_pos (by omega), sh3_b hq (by omega) (by omega), if_neg (by omega)]
    · rw [if_neg a, sh3_b hq (by omega) (by omega)]
      by_cases b : j = i - 1
      · rw [if_pos b, if_pos (by omega), b, show i - 1 + 1 = i by omega]
      · rw [if_neg b, if_neg (by omega)]
theorem remF_o {k : Int} (hq : q = 0 ∨ q = 1) (hm : 0 ≤ N (61 * p + mq q) ∧ N (61 * p + mq q) ≤ 6) (hk : ¬ own q k) : remF N p q c (61 * p + k) = N (61 * p + k) := by
  have hpl := plc_r (N := N) (p := p) (q := q) (c := c) hm.1
  have hom := own_m hq
  unfold remF
  split
  · rfl
  · rename_i h
    rw [up_n (fun e => hk (by rw [show k = mq q by omega]; exact hom)), remL_o hq hk _ _ _ (by omega) (by omega)]
theorem remF_c (hq : q = 0 ∨ q = 1) (hm : 0 ≤ N (61 * p + mq q) ∧ N (61 * p + mq q) ≤ 6) (hc : ¬ plc N p q c = -1) : (∀ j : Int, 0 ≤ j → j < 6 → remF N p q c (61 * p + (bq q + j)) = if plc N p q c ≤ j ∧ j < N (61 * p + mq q) - 1 then N (61 * p + (bq q + (j + 1))) else N (61 * p + (bq q + j))) ∧ remF N p q c (61 * p + mq q) = N (61 * p + mq q) - 1 := by
  have hpl := plc_r (N := N) (p := p) (q := q) (c := c) hm.1
  unfold remF
  rw [if_neg hc]
  constructor
  · intro j h1 h2
    rw [up_n (by rcases hq with rfl | rfl <;> (first | rw [bq0, mq0] | rw [bq1, mq1]) <;> omega), remL_b hq _ _ _ (by omega) (by omega) j h1 h2]
    by_cases a : plc N p q c ≤ j ∧ j < N (61 * p + mq q) - 1
    · rw [if_pos a, if_pos (by omega)]
    · rw [if_neg a, if_neg (by omega)]
  · rw [up_s, remL_m hq _ _ _ (by omega) (by omega)]
theorem Ris.rem (h : Ris N p q) (hq : q = 0 ∨ q = 1) (hm : 0 ≤ N (61 * p + mq q) ∧ N (61 * p + mq q) ≤ 6) : Ris (remF N p q c) p q := by
  by_cases hc : plc N p q c = -1
  · unfold remF; rw [if_pos hc]; exact h
  · obtain ⟨g1, g2⟩ := remF_c (c := c) hq hm hc
    intro i j h1 h2 h3
    rw [g2] at h3
    rw [g1 i h1 (by omega), g1 j (by omega) (by omega)]
    by_cases a : plc N p q c ≤ i ∧ i < N (61 * p + mq q) - 1
    · rw [if_pos a, if_pos (by omega)]; exact h _ _ (by omega) (by omega) (by omega)
    · rw [if_neg a]
      split
      · exact h _ _ (by omega) (by omega) (by omega)
      · exact h _ _ (by omega) (by omega) (by omega)
theorem Ris.cg {N' : Int → Int} (h : Ris N p q) (hm : N (61 * p + mq q) ≤ 6) (e1 : N' (61 * p + mq q) = N (61 * p + mq q)) (e2 : ∀ j : Int, 0 ≤ j → j < 6 → N' (61 * p + (bq q + j)) = N (61 * p + (bq q + j))) : Ris N' p q := by
  intro i j h1 h2 h3
  rw [e1] at h3
  rw [e2 i h1 (by omega), e2 j (by omega) (by omega)]
  exact h i j h1 h2 h3
theorem Ris.zero (h : N (61 * p + mq q) = 0) : Ris N p q := fun i j h1 h2 h3 => by omega
/-- the slots taken speak of tables and promises alone -/
theorem sdT_cg {N' : Int → Int} (hq : q = 0 ∨ q = 1) (hm : N (61 * p + mq q) ≤ 6 ∧ N (61 * p + (33 + q)) ≤ 4) (e : ∀ k : Int, (0 ≤ k ∧ k < 26) ∨ (33 ≤ k ∧ k < 43) → N' (61 * p + k) = N (61 * p + k)) {s : Int} : sdT N' p q s ↔ sdT N p q s := by
  have hb := bq_r hq
  have hmr := mq_r hq
  have hbb : bq q + 6 ≤ 25 := by rcases hq with rfl | rfl <;> decide
  unfold sdT tkS tkP
  rw [e (mq q) (by omega), e (33 + q) (by omega)]
  constructor
  · rintro (⟨i, h1, h2, h3⟩ | ⟨i, h1, h2, h3⟩)
    · left; exact ⟨i, h1, h2, by rw [e (bq q + i) (by omega)] at h3; exact h3⟩
    · right; exact ⟨i, h1, h2, by rw [e (35 + 4 * q + i) (by omega)] at h3; exact h3⟩
  · rintro (⟨i, h1, h2, h3⟩ | ⟨i, h1, h2, h3⟩)
    · left; exact ⟨i, h1, h2, by rw [e (bq q + i) (by omega)]; exact h3⟩
    · right; exact ⟨i, h1, h2, by rw [e (35 + 4 * q + i) (by omega)]; exact h3⟩
theorem Tkn_sd {np nd s : Int} : Tkn N pa np nd s ↔ ∃ a b : Int, 0 ≤ a ∧ a < np ∧ (b = 0 ∨ b = 1) ∧ pa (4 * a + b) = nd ∧ sdT N a b s := Iff.rfl
theorem Tkn_cg {N' : Int → Int} {np nd s : Int} (hB : Bok W Of N) (hnp : np ≤ 6) (e : ∀ a k : Int, 0 ≤ a → a < 6 → (0 ≤ k ∧ k < 26) ∨ (33 ≤ k ∧ k < 43) → N' (61 * a + k) = N (61 * a + k)) : Tkn N' pa np nd s ↔ Tkn N pa np nd s := by
  rw [Tkn_sd, Tkn_sd]
  constructor
  · rintro ⟨a, b, h1, h2, h3, h4, h5⟩
    exact ⟨a, b, h1, h2, h3, h4, (sdT_cg h3 ⟨(hB.mny ⟨h1, by omega⟩ h3).2, (hB.pmn ⟨h1, by omega⟩ h3).2⟩ (fun k hk => e a k h1 (by omega) hk)).mp h5⟩
  · rintro ⟨a, b, h1, h2, h3, h4, h5⟩
    exact ⟨a, b, h1, h2, h3, h4, (sdT_cg h3 ⟨(hB.mny ⟨h1, by omega⟩ h3).2, (hB.pmn ⟨h1, by omega⟩ h3).2⟩ (fun k hk => e a k h1 (by omega) hk)).mpr h5⟩
theorem Tkn_enc {np nd s : Int} (hB : Bok W Of N) (hnp : np ≤ 6) (hp : 0 ≤ p ∧ p < 6) : Tkn (encF N p c) pa np nd s ↔ Tkn N pa np nd s := by
  have h48 := hB.v48 hp
  exact Tkn_cg hB hnp (fun a k h1 h2 h3 => by unfold encF; rw [up_n (by omega), up_n (by omega)])
theorem Tkn_wri {so ki re as np nd s : Int} (hB : Bok W Of N) (hnp : np ≤ 6) (hp : 0 ≤ p ∧ p < 6) : Tkn (wriF N p so ki re as) pa np nd s ↔ Tkn N pa np nd s :=
  Tkn_cg hB hnp (fun a k h1 h2 h3 => by unfold wriF; rw [up_n (by omega), up_n (by omega), up_n (by omega), up_n (by omega), up_n (by omega), up_n (by omega), up_n (by omega)])
theorem sdT_ins {s : Int} (hq : q = 0 ∨ q = 1) (hm : 0 ≤ N (61 * p + mq q) ∧ N (61 * p + mq q) < 6) (hc : plc N p q c = -1) : sdT (insF N p q c) p q s ↔ sdT N p q s ∨ c / 10 = s := by
  obtain ⟨t, g1, g2, g3, g4, g5, g6⟩ := insF_c (c := c) hq hm hc
  have hmm : 0 ≤ N (61 * p + mq q) ∧ N (61 * p + mq q) ≤ 6 := by omega
  have o1 : ∀ k : Int, 26 ≤ k → insF N p q c (61 * p + k) = N (61 * p + k) := fun k hk => insF_n hmm hk
  unfold sdT tkS tkP
  rw [g4, o1 (33 + q) (by omega)]
  have o2 : ∀ i : Int, 0 ≤ i → insF N p q c (61 * p + (35 + 4 * q + i)) = N (61 * p + (35 + 4 * q + i)) := fun i hi => o1 _ (by omega)
  constructor
  · rintro (⟨i, h1, h2, h3⟩ | ⟨i, h1, h2, h3⟩)
    · rw [g3 i h1 (by omega)] at h3
      split at h3
      · exact Or.inl (Or.inl ⟨i, h1, by omega, h3⟩)
      · split at h3
        · exact Or.inr h3
        · rw [if_pos (by omega)] at h3
          exact Or.inl (Or.inl ⟨i - 1, by omega, by omega, h3⟩)
    · rw [o2 i h1] at h3
      exact Or.inl (Or.inr ⟨i, h1, h2, h3⟩)
  · rintro ((⟨i, h1, h2, h3⟩ | ⟨i, h1, h2, h3⟩) | h3)
    · left
      by_cases a : i < t
      · exact ⟨i, h1, by omega, by rw [g3 i h1 (by omega), if_pos a]; exact h3⟩
      · exact ⟨i + 1, by omega, by omega, by rw [g3 (i + 1) (by omega) (by omega), if_neg (by omega), if_neg (by omega), if_pos (by omega), show i + 1 - 1 = i by omega]; exact h3⟩
    · right; exact ⟨i, h1, h2, by rw [o2 i h1]; exact h3⟩
    · left; exact ⟨t, g1, by omega, by rw [g3 t g1 (by omega), if_neg (by omega), if_pos rfl]; exact h3⟩
theorem own_n {a k : Int} (hq : q = 0 ∨ q = 1) (hk : 0 ≤ k ∧ k < 61) (h : ¬ a = p ∨ ¬ own q k) : ¬ own q (61 * (a - p) + k) := by
  rcases h with h | h
  · unfold own; omega
  · by_cases e : a = p
    · subst e; rw [show 61 * (a - a) + k = k by omega]; exact h
    · unfold own; omega
/-- what a side that is not this one has taken stays -/
theorem sdT_io {a b s : Int} (hB : Bok W Of N) (hp : 0 ≤ p ∧ p < 6) (ha : 0 ≤ a ∧ a < 6) (hq : q = 0 ∨ q = 1) (hb : b = 0 ∨ b = 1) (h : ¬ (a = p ∧ b = q)) (N' : Int → Int) (hN : ∀ k : Int, ¬ own q k → N' (61 * p + k) = N (61 * p + k)) : sdT N' a b s ↔ sdT N a b s := by
  have e : ∀ k : Int, 0 ≤ k ∧ k < 61 → ¬ a = p ∨ ¬ own q k → N' (61 * a + k) = N (61 * a + k) := by
    intro k hk hx
    have := hN (61 * (a - p) + k) (own_n hq hk hx)
    rw [show 61 * p + (61 * (a - p) + k) = 61 * a + k by omega] at this
    exact this
  have hm := hB.mny ha hb
  have hpm := hB.pmn ha hb
  have hmr := mq_r hb
  have hbr := bq_r hb
  have f : ∀ k : Int, own b k → ¬ a = p ∨ ¬ own q k := by
    intro k hk
    by_cases e1 : a = p
    · right
      have : ¬ b = q := fun e2 => h ⟨e1, e2⟩
      unfold own at hk ⊢; omega
    · exact Or.inl e1
  have e1 := e (mq b) (by omega) (f _ (own_m hb))
  have e2 := e (33 + b) (by omega) (Or.inr (by unfold own; omega))
  have e3 : ∀ i : Int, 0 ≤ i → i < 6 → N' (61 * a + (bq b + i)) = N (61 * a + (bq b + i)) := fun i h1 h2 => e _ (by omega) (f _ (own_b hb ⟨h1, h2⟩))
  have e4 : ∀ i : Int, 0 ≤ i → i < 4 → N' (61 * a + (35 + 4 * b + i)) = N (61 * a + (35 + 4 * b + i)) := fun i h1 h2 => e _ (by omega) (Or.inr (by unfold own; omega))
  unfold sdT tkS tkP
  rw [e1, e2]
  constructor
  · rintro (⟨i, h1, h2, h3⟩ | ⟨i, h1, h2, h3⟩)
    · left; exact ⟨i, h1, h2, by rw [e3 i h1 (by omega)] at h3; exact h3⟩
    · right; exact ⟨i, h1, h2, by rw [e4 i h1 (by omega)] at h3; exact h3⟩
  · rintro (⟨i, h1, h2, h3⟩ | ⟨i, h1, h2, h3⟩)
    · left; exact ⟨i, h1, h2, by rw [e3 i h1 (by omega)]; exact h3⟩
    · right; exact ⟨i, h1, h2, by rw [e4 i h1 (by omega)]; exact h3⟩
theorem Tkn_ins {np nd s : Int} (hB : Bok W Of N) (hnp : np ≤ 6) (hp : 0 ≤ p ∧ p < np) (hq : q = 0 ∨ q = 1) (hn : pa (4 * p + q) = nd) (hm : N (61 * p + mq q) < 6) (hc : plc N p q c = -1) : Tkn (insF N p q c) pa np nd s ↔ Tkn N pa np nd s ∨ c / 10 = s := by
  have hm0 := hB.mny (p := p) (q := q) (by omega) hq
  have hio : ∀ {k : Int}, ¬ own q k → insF N p q c (61 * p + k) = N (61 * p + k) := fun hk => insF_o hq hm0 hk
  rw [Tkn_sd, Tkn_sd]
  constructor
  · rintro ⟨a, b, h1, h2, h3, h4, h5⟩
    by_cases e : a = p ∧ b = q
    · obtain ⟨rfl, rfl⟩ := e
      rcases (sdT_ins hq (by omega) hc).mp h5 with h6 | h6
      · exact Or.inl ⟨a, b, h1, h2, h3, h4, h6⟩
      · exact Or.inr h6
    · exact Or.inl ⟨a, b, h1, h2, h3, h4, (sdT_io hB (by omega) (by omega) hq h3 e _ (fun k hk => hio hk)).mp h5⟩
  · rintro (⟨a, b, h1, h2, h3, h4, h5⟩ | h)
    · refine ⟨a, b, h1, h2, h3, h4, ?_⟩
      by_cases e : a = p ∧ b = q
      · obtain ⟨rfl, rfl⟩ := e
        exact (sdT_ins hq (by omega) hc).mpr (Or.inl h5)
      · exact (sdT_io hB (by omega) (by omega) hq h3 e _ (fun k hk => hio hk)).mpr h5
    · exact ⟨p, q, hp.1, hp.2, hq, hn, (sdT_ins hq (by omega) hc).mpr (Or.inr h)⟩
/-- a cell in the table has its slot taken -/
theorem Tkn_in {np : Int} (hB : Bok W Of N) (hnp : np ≤ 6) (hp : 0 ≤ p ∧ p < np) (hq : q = 0 ∨ q = 1) (hc : ¬ plc N p q c = -1) : Tkn N pa np (pa (4 * p + q)) (c / 10) := by
  have hm0 := hB.mny (p := p) (q := q) (by omega) hq
  rcases plc_r (N := N) (p := p) (q := q) (c := c) hm0.1 with h | ⟨h1, h2, h3⟩
  · exact absurd h hc
  · exact ⟨p, q, hp.1, hp.2, hq, rfl, Or.inl ⟨plc N p q c, h1, h2, by rw [h3]⟩⟩
end C7
