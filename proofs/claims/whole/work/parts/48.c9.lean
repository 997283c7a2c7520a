section C9a
variable {N f g : Int → Int} {p q c W Of : Int}
theorem up_comm {a b x y : Int} (h : ¬ a = b) : up (up N a x) b y = up (up N b y) a x := by
  funext j; unfold up
  by_cases e : j = b
  · rw [if_pos e, if_neg (by omega), if_pos e]
  · rw [if_neg e, if_neg e]
theorem up_up {a x y : Int} : up (up N a x) a y = up N a y := by
  funext j; unfold up; split <;> rfl
theorem encF_up {k v : Int} (hk : k < 48) (h0 : 0 ≤ N (61 * p + 48)) : encF (up N (61 * p + k) v) p c = up (encF N p c) (61 * p + k) v := by
  unfold encF
  rw [up_n (show ¬ 61 * p + 48 = 61 * p + k by omega), up_comm (show ¬ 61 * p + k = 61 * p + (50 + N (61 * p + 48)) by omega), up_comm (show ¬ 61 * p + k = 61 * p + 48 by omega)]
theorem prm1_up {k v : Int} (hq : q = 0 ∨ q = 1) (hk : k < 33) (h0 : 0 ≤ N (61 * p + (33 + q))) : prm1 (up N (61 * p + k) v) p q c = up (prm1 N p q c) (61 * p + k) v := by
  unfold prm1
  rw [up_n (show ¬ 61 * p + (33 + q) = 61 * p + k by omega), up_comm (show ¬ 61 * p + k = 61 * p + (35 + 4 * q + N (61 * p + (33 + q))) by omega), up_comm (show ¬ 61 * p + k = 61 * p + (33 + q) by omega)]
theorem prm1_48 (hq : q = 0 ∨ q = 1) (h : 0 ≤ N (61 * p + (33 + q)) ∧ N (61 * p + (33 + q)) < 4) : prm1 N p q c (61 * p + 48) = N (61 * p + 48) := by
  unfold prm1; rw [up_n (by omega), up_n (by omega)]
theorem prm1_33 : prm1 N p q c (61 * p + (33 + q)) = N (61 * p + (33 + q)) + 1 := by unfold prm1; rw [up_s]
theorem cofL_up {k v : Int} (hq : q = 0 ∨ q = 1) (hk : k < 33) (m : Nat) : ∀ (i : Int) (N : Int → Int), 0 ≤ N (61 * p + (33 + q)) → N (61 * p + (33 + q)) + m ≤ 4 → 0 ≤ N (61 * p + 48) → cofL p q f m i (up N (61 * p + k) v) = up (cofL p q f m i N) (61 * p + k) v := by
  induction m with
  | zero => intro i N _ _ _; rfl
  | succ m ih =>
    intro i N h1 h2 h3
    have e48 : prm1 N p q (f i) (61 * p + 48) = N (61 * p + 48) := prm1_48 hq (by omega)
    have e33 : encF (prm1 N p q (f i)) p (f i) (61 * p + (33 + q)) = N (61 * p + (33 + q)) + 1 := by rw [encF_k (by omega) (by omega), prm1_33]
    rw [cofL, cofL, prm1_up hq hk h1, encF_up (by omega) (by rw [e48]; exact h3), ih]
    · rw [e33]; omega
    · rw [e33]; omega
    · rw [encF_48, e48]; omega
theorem cofL_c (m : Nat) : ∀ (i : Int) (N : Int → Int), (∀ j : Int, i ≤ j → j < i + m → f j = g j) → cofL p q f m i N = cofL p q g m i N := by
  induction m with
  | zero => intro i N _; rfl
  | succ m ih =>
    intro i N h
    rw [cofL, cofL, h i (by omega) (by omega)]
    exact ih _ _ (fun j h1 h2 => h j (by omega) (by omega))
theorem cofL_far {j : Int} (hq : q = 0 ∨ q = 1) (m : Nat) : ∀ (i : Int) (N : Int → Int), (j < 61 * p + 33 ∨ 61 * p + 54 ≤ j) → 0 ≤ N (61 * p + (33 + q)) → N (61 * p + (33 + q)) + m ≤ 4 → 0 ≤ N (61 * p + 48) → N (61 * p + 48) + m ≤ 4 → cofL p q f m i N j = N j := by
  induction m with
  | zero => intro i N _ _ _ _ _; rfl
  | succ m ih =>
    intro i N hj h1 h2 h3 h4
    have e48 : prm1 N p q (f i) (61 * p + 48) = N (61 * p + 48) := prm1_48 hq (by omega)
    have e33 : encF (prm1 N p q (f i)) p (f i) (61 * p + (33 + q)) = N (61 * p + (33 + q)) + 1 := by rw [encF_k (by omega) (by omega), prm1_33]
    have e48b : encF (prm1 N p q (f i)) p (f i) (61 * p + 48) = N (61 * p + 48) + 1 := by rw [encF_48, e48]
    rw [cofL, ih _ _ hj (by omega) (by omega) (by omega) (by omega)]
    unfold encF
    rw [up_n (by omega), up_n (by omega)]
    unfold prm1
    rw [up_n (by omega), up_n (by omega)]
theorem encL_pt (m : Nat) : ∀ (i : Int) (N : Int → Int) (j : Int), 0 ≤ N (61 * p + 48) → encL p f m i N j = if j = 61 * p + 48 then N (61 * p + 48) + m else if 61 * p + 50 + N (61 * p + 48) ≤ j ∧ j < 61 * p + 50 + N (61 * p + 48) + m then f (i + (j - (61 * p + 50 + N (61 * p + 48)))) else N j := by
  induction m with
  | zero =>
    intro i N j h0
    rw [encL, if_neg (show ¬ (61 * p + 50 + N (61 * p + 48) ≤ j ∧ j < 61 * p + 50 + N (61 * p + 48) + (0 : Nat)) by omega)]
    split
    · rename_i e; rw [e]; omega
    · rfl
  | succ m ih =>
    intro i N j h0
    rw [encL, ih _ _ _ (by rw [encF_48]; omega), encF_48]
    by_cases a : j = 61 * p + 48
    · rw [if_pos a, if_pos a]; omega
    · rw [if_neg a, if_neg a]
      by_cases b : j = 61 * p + (50 + N (61 * p + 48))
      · rw [if_neg (by omega), if_pos (by omega)]
        unfold encF
        rw [up_n a, b, up_s]
        congr 1; omega
      · by_cases b2 : 61 * p + 50 + (N (61 * p + 48) + 1) ≤ j ∧ j < 61 * p + 50 + (N (61 * p + 48) + 1) + m
        · rw [if_pos b2, if_pos (by omega)]; congr 1; omega
        · rw [if_neg b2, if_neg (by omega)]
          unfold encF
          rw [up_n a, up_n b]
theorem prmL_pt (m : Nat) : ∀ (i : Int) (N : Int → Int) (j : Int), prmL p q f m i N j = if 61 * p + (35 + 4 * q) + i ≤ j ∧ j < 61 * p + (35 + 4 * q) + i + m then f (j - (61 * p + (35 + 4 * q))) else N j := by
  induction m with
  | zero => intro i N j; rw [prmL, if_neg (by omega)]
  | succ m ih =>
    intro i N j
    rw [prmL, ih]
    by_cases b : j = 61 * p + (35 + 4 * q + i)
    · rw [if_neg (by omega), if_pos (by omega), b, up_s]; congr 1; omega
    · by_cases b2 : 61 * p + (35 + 4 * q) + (i + 1) ≤ j ∧ j < 61 * p + (35 + 4 * q) + (i + 1) + m
      · rw [if_pos b2, if_pos (by omega)]
      · rw [if_neg b2, if_neg (by omega), up_n b]
theorem cofL_pt (hq : q = 0 ∨ q = 1) (m : Nat) : ∀ (i : Int) (N : Int → Int) (j : Int), 0 ≤ N (61 * p + (33 + q)) → N (61 * p + (33 + q)) + m ≤ 4 → 0 ≤ N (61 * p + 48) → N (61 * p + 48) + m ≤ 4 → cofL p q f m i N j = if j = 61 * p + 48 then N (61 * p + 48) + m else if 61 * p + 50 + N (61 * p + 48) ≤ j ∧ j < 61 * p + 50 + N (61 * p + 48) + m then f (i + (j - (61 * p + 50 + N (61 * p + 48)))) else if j = 61 * p + (33 + q) then N (61 * p + (33 + q)) + m else if 61 * p + (35 + 4 * q) + N (61 * p + (33 + q)) ≤ j ∧ j < 61 * p + (35 + 4 * q) + N (61 * p + (33 + q)) + m then f (i + (j - (61 * p + (35 + 4 * q) + N (61 * p + (33 + q))))) else N j := by
  induction m with
  | zero =>
    intro i N j h1 h2 h3 h4
    rw [cofL, if_neg (show ¬ (61 * p + 50 + N (61 * p + 48) ≤ j ∧ j < 61 * p + 50 + N (61 * p + 48) + (0 : Nat)) by omega), if_neg (show ¬ (61 * p + (35 + 4 * q) + N (61 * p + (33 + q)) ≤ j ∧ j < 61 * p + (35 + 4 * q) + N (61 * p + (33 + q)) + (0 : Nat)) by omega)]
    split
    · rename_i e; rw [e]; omega
    · split
      · rename_i e; rw [e]; omega
      · rfl
  | succ m ih =>
    intro i N j h1 h2 h3 h4
    have e48 : prm1 N p q (f i) (61 * p + 48) = N (61 * p + 48) := prm1_48 hq (by omega)
    have e33 : encF (prm1 N p q (f i)) p (f i) (61 * p + (33 + q)) = N (61 * p + (33 + q)) + 1 := by rw [encF_k (by omega) (by omega), prm1_33]
    have e48b : encF (prm1 N p q (f i)) p (f i) (61 * p + 48) = N (61 * p + 48) + 1 := by rw [encF_48, e48]
    rw [cofL, ih _ _ _ (by omega) (by omega) (by omega) (by omega), e48b, e33]
    by_cases a : j = 61 * p + 48
    · rw [if_pos a, if_pos a]; omega
    · rw [if_neg a, if_neg a]
      have ej : encF (prm1 N p q (f i)) p (f i) j = if j = 61 * p + (50 + N (61 * p + 48)) then f i else prm1 N p q (f i) j := by
        unfold encF
        rw [up_n a, e48]
        rfl
      by_cases b : j = 61 * p + (50 + N (61 * p + 48))
      · rw [if_neg (by omega), if_neg (by omega), if_neg (by omega), if_pos (by omega), ej, if_pos b]; congr 1; omega
      · by_cases b2 : 61 * p + 50 + (N (61 * p + 48) + 1) ≤ j ∧ j < 61 * p + 50 + (N (61 * p + 48) + 1) + m
        · rw [if_pos b2, if_pos (by omega)]; congr 1; omega
        · rw [if_neg b2, if_neg (show ¬ (61 * p + 50 + N (61 * p + 48) ≤ j ∧ j < 61 * p + 50 + N (61 * p + 48) + (m + 1 : Nat)) by omega)]
          by_cases b3 : j = 61 * p + (33 + q)
          · rw [if_pos b3, if_pos b3]; omega
          · rw [if_neg b3, if_neg b3]
            by_cases b4 : j = 61 * p + (35 + 4 * q + N (61 * p + (33 + q)))
            · rw [if_neg (by omega), if_pos (by omega), ej, if_neg b]
              unfold prm1
              rw [up_n b3, b4, up_s]; congr 1; omega
            · by_cases b5 : 61 * p + (35 + 4 * q) + (N (61 * p + (33 + q)) + 1) ≤ j ∧ j < 61 * p + (35 + 4 * q) + (N (61 * p + (33 + q)) + 1) + m
              · rw [if_pos b5, if_pos (by omega)]; congr 1; omega
              · rw [if_neg b5, if_neg (by omega), ej, if_neg b]
                unfold prm1
                rw [up_n b3, up_n b4]
/-- the reference writes all, then promises all; the class does both cell by cell -/
theorem cof_eq {m : Int} (hq : q = 0 ∨ q = 1) (h33 : N (61 * p + (33 + q)) = 0) (h48 : 0 ≤ N (61 * p + 48) ∧ N (61 * p + 48) + m ≤ 4) (hm : 0 ≤ m ∧ m ≤ 4) : prmF (encL p f m.toNat 0 N) p q m f = cofL p q f m.toNat 0 N := by
  funext j
  unfold prmF
  rw [prmL_pt, cofL_pt hq _ _ _ _ (by omega) (by omega) (by omega) (by omega), h33]
  by_cases a : j = 61 * p + 48
  · rw [if_neg (by omega), up_n (by omega), encL_pt _ _ _ _ h48.1, if_pos a, if_pos a]
  · rw [if_neg a]
    by_cases b : 61 * p + 50 + N (61 * p + 48) ≤ j ∧ j < 61 * p + 50 + N (61 * p + 48) + m.toNat
    · rw [if_neg (by omega), if_pos b, up_n (by omega), encL_pt _ _ _ _ h48.1, if_neg a, if_pos b]
    · rw [if_neg b]
      by_cases b3 : j = 61 * p + (33 + q)
      · rw [if_neg (by omega), if_pos b3, b3, up_s]; omega
      · rw [if_neg b3]
        by_cases b4 : 61 * p + (35 + 4 * q) + 0 ≤ j ∧ j < 61 * p + (35 + 4 * q) + 0 + m.toNat
        · rw [if_pos b4, if_pos b4]; congr 1; omega
        · rw [if_neg b4, if_neg b4, up_n b3, encL_pt _ _ _ _ h48.1, if_neg a, if_neg b]
theorem delL_up {k v : Int} (hk : 6 ≤ k ∧ k < 48) (m : Nat) : ∀ (i : Int) (N : Int → Int), 0 ≤ i → i + m ≤ 6 → 0 ≤ N (61 * p + 48) → delL p m i (up N (61 * p + k) v) = up (delL p m i N) (61 * p + k) v := by
  induction m with
  | zero => intro i N _ _ _; rfl
  | succ m ih =>
    intro i N h1 h2 h3
    rw [delL, delL, up_n (by omega), encF_up (by omega) h3, ih _ _ (by omega) (by omega) (by rw [encF_48]; omega)]
theorem waiF_w {kd : Int} {M : Int → Int} : up (waiF M p 0) (61 * p + 32) kd = up (up (up M (61 * p + 28) 1) (61 * p + 30) (M 368)) (61 * p + 32) kd := rfl
/-- all slots are taken -/
theorem offs_0 {Q : Int → Prop} {fr : Int} (hW : 0 < W) (m : Nat) : ∀ k : Int, (offs Q W Of p fr m k).length = 0 ↔ ∀ j : Int, k ≤ j → j < k + m → Q ((fr + j) % W) := by
  induction m with
  | zero => intro k; exact ⟨fun _ j h1 h2 => by omega, fun _ => rfl⟩
  | succ m ih =>
    intro k
    by_cases h : Q ((fr + k) % W)
    · rw [offs_t h, ih]
      exact ⟨fun g j h1 h2 => if e : j = k then e ▸ h else g j (by omega) (by omega), fun g j h1 h2 => g j (by omega) (by omega)⟩
    · rw [offs_f h, List.length_cons]
      exact ⟨fun g => by omega, fun g => absurd (g k (by omega) (by omega)) h⟩
theorem offs_a {Q : Int → Prop} {fr : Int} (hW : 0 < W) : (offs Q W Of p fr W.toNat 0).length = 0 ↔ ∀ s : Int, 0 ≤ s → s < W → Q s := by
  rw [offs_0 hW]
  constructor
  · intro h s h0 h1
    have h2 := Int.emod_nonneg (s - fr) (by omega : W ≠ 0)
    have h3 := Int.emod_lt_of_pos (s - fr) hW
    have := h ((s - fr) % W) h2 (by omega)
    rw [Int.add_emod_emod, show fr + (s - fr) = s by omega, Int.emod_eq_of_lt h0 h1] at this
    exact this
  · intro h j _ _
    exact h _ (Int.emod_nonneg _ (by omega)) (Int.emod_lt_of_pos _ hW)
theorem Tkn_lt {pa : Int → Int} {np nd s : Int} (hB : Bok W Of N) (hnp : np ≤ 6) (h : Tkn N pa np nd s) : 0 ≤ s ∧ s < W := by
  obtain ⟨a, b, h1, h2, h3, _, h5⟩ := h
  have hm := hB.mny (p := a) ⟨h1, by omega⟩ h3
  have hpm := hB.pmn (p := a) ⟨h1, by omega⟩ h3
  rcases h5 with ⟨i, i1, i2, i3⟩ | ⟨i, i1, i2, i3⟩
  · have := hB.cel (p := a) ⟨h1, by omega⟩ h3 (i := i) (by omega)
    unfold Vc at this; omega
  · have := hB.prm (p := a) ⟨h1, by omega⟩ h3 (i := i) (by omega)
    unfold Vc at this; omega
theorem full_iff {pa : Int → Int} {np nd x : Int} (hB : Bok W Of N) (hW : 0 ≤ W ∧ W ≤ 16) (hnp : np ≤ 6) (hx : Bts x (Tkn N pa np nd)) : x = 1 * 2 ^ W.toNat - 1 ↔ ∀ s : Int, 0 ≤ s → s < W → Tkn N pa np nd s := by
  have hf := Bts.full hW
  constructor
  · intro e s h0 h1
    subst e
    exact (hx.2.2 s h0 (by omega)).mp ((hf.2.2 s h0 (by omega)).mpr h1)
  · intro h
    exact hx.ext (hf.cg (fun s h0 h1 => ⟨fun h2 => h s h0 h2, fun h2 => (Tkn_lt hB hnp h2).2⟩))
end C9a
section C9
variable {d b : Nat} {sh : aSh} {iv lw E : aF} {rv : aP} {D O T S K C w N F : Int → Int} {R : aPost} {p : Int}
/-- whether a dealing can't be begun, when the pair is idle -/
theorem mny_iff {kd n : Int} (hP : Prm E F) (hB : Bok (E 5 0) (E 5 1) N) (hp : 0 ≤ p ∧ p < 6) (hid : N (61 * p + 28) = 0 ∧ N (61 * p + 43) = 0) (hkd : 0 ≤ kd ∧ kd ≤ 3) (hn : 0 ≤ n) (h1 : kd = 1 → 1 ≤ n) : mny E F N p kd n = -1 ↔ (kd = 1 ∧ N (61 * p + 18) = 0) ∨ (((kd = 0 ∧ E 6 (4 * p + 2) = 2) ∨ kd = 2) ∧ ∀ s : Int, 0 ≤ s → s < E 5 0 → Tkn N (E 6) (F 13) (E 6 (4 * p + 0)) s) := by
  obtain ⟨hW1, hW2, hO1, hO2, hT1, hT2, hI1, hI2, hF1, hF2⟩ := id hP
  have h18 := hB.v18 hp
  have ha : ∀ fr : Int, (ofr E F N p (E 6 (4 * p + 0)) fr).length = 0 ↔ ∀ s : Int, 0 ≤ s → s < E 5 0 → Tkn N (E 6) (F 13) (E 6 (4 * p + 0)) s := fun fr => offs_a (by omega)
  by_cases h2 : kd = 3 ∨ (kd = 0 ∧ ¬ E 6 (4 * p + 2) = 2)
  · rw [mny_0 hid h2]
    constructor
    · intro e; omega
    · rintro (⟨e, _⟩ | ⟨(⟨e, e2⟩ | e), _⟩)
      · omega
      · rcases h2 with h2 | h2
        · omega
        · exact absurd e2 h2.2
      · omega
  · have hmm : mny E F N p kd n = -1 ↔ mnm E F N p kd n = 0 := by
      by_cases h3 : mnm E F N p kd n = 0
      · rw [mny_z hid h2 h3]; simp [h3]
      · rw [mny_p hid h2 h3]
        have := mnm_r hP h18.1 (n := n) (kd := kd) (p := p)
        constructor
        · intro e
          exfalso
          unfold mnm mnI at e h3
          split at e
          · split at e <;> omega
          · split at e
            · split at e <;> omega
            · split at e <;> omega
        · intro e; exact absurd e h3
    rw [hmm]
    unfold mnm
    by_cases k1 : kd = 1
    · rw [if_pos k1]
      have := h1 k1
      unfold mnI
      constructor
      · intro e; left; refine ⟨k1, ?_⟩; split at e <;> omega
      · rintro (⟨_, e⟩ | ⟨(⟨e, _⟩ | e), _⟩)
        · split <;> omega
        · omega
        · omega
    · rw [if_neg k1]
      by_cases k0 : kd = 0
      · rw [if_pos k0]
        have hb : (bgo E F N p kd n) = ofr E F N p (E 6 (4 * p + 0)) 0 := by unfold bgo; rw [if_pos k0]
        rw [hb]
        have h2s : E 6 (4 * p + 2) = 2 := Classical.byContradiction (fun z => h2 (Or.inr ⟨k0, z⟩))
        rw [← ha 0]
        unfold mnI
        constructor
        · intro e; right; refine ⟨Or.inl ⟨k0, h2s⟩, ?_⟩; split at e <;> omega
        · rintro (⟨e, _⟩ | ⟨_, e⟩)
          · omega
          · split <;> omega
      · rw [if_neg k0]
        have k2 : kd = 2 := by omega
        have hb : (bgo E F N p kd n) = ofr E F N p (E 6 (4 * p + 0)) ((N (61 * p + (0 + n)) / 10 + 1) % E 5 0) := by unfold bgo; rw [if_neg k0]
        rw [hb, ← ha ((N (61 * p + (0 + n)) / 10 + 1) % E 5 0)]
        unfold mnI
        constructor
        · intro e; right; refine ⟨Or.inr k2, ?_⟩; split at e <;> omega
        · rintro (⟨e, _⟩ | ⟨_, e⟩)
          · omega
          · split <;> omega
theorem e_canBegin {kd n : Int} (hN : NtA sh rv iv b) (hl : PlA sh rv iv E F) (hP : Prm E F) (hp : 0 ≤ p ∧ p < 6) (hpF : p < F 13) (hR : Rel w N) (hB : Bok (E 5 0) (E 5 1) N) (hkd : 0 ≤ kd ∧ kd ≤ 3) (hn : 0 ≤ n) (h1 : kd = 1 → 1 ≤ n) (kt : ¬ mny E F N p kd n = -1 → R (some (aI 1)) sh (uA (CD iv b D O T S K C) (12 + 42 * b) w) lw rv) (kf : mny E F N p kd n = -1 → R (some (aI 0)) sh (uA (CD iv b D O T S K C) (12 + 42 * b) w) lw rv) : wp (d + 2) mX1_canBegin 0 [some (aR (38 + 43 * b)), some (aR (lid b p)), some (aI kd), none] [] sh (uA (CD iv b D O T S K C) (12 + 42 * b) w) lw rv 0 0 R := by
  obtain ⟨hW1, hW2, hO1, hO2, hT1, hT2, hI1, hI2, hF1, hF2⟩ := id hP
  have h18 := hB.v18 hp
  refine wp_aload_n dX1_canBegin_0 rfl ?_
  refine wp_callV (as := []) (ls0 := [_]) (kc := 0) (ks := 0) (bc' := 0) (bs' := 0) dX1_canBegin_1 vX1_45 (hN.sl hp) rfl rfl (Nat.le_of_ble_eq_true rfl) (Nat.le_of_ble_eq_true rfl) (by omega) (by omega) ?_
  refine k_isIdle (hN.lk hp) hR hB (fun h1_ => ?_) (fun h1_ => ?_)
  · have hmi := mny_iff (kd := kd) (n := n) hP hB hp h1_ hkd hn h1
    refine wp_if_ne (tgt := 9) dX1_canBegin_4 rfl (fun _ => ?_) (fun q => absurd q (by decide))
    refine wp_aload_n dX1_canBegin_9 rfl ?_
    refine wp_getR hN.r38n dX1_canBegin_10 fX1_20 hN.s38 ?_
    refine wp_aload_n dX1_canBegin_13 rfl ?_
    refine wp_aload_n dX1_canBegin_14 rfl ?_
    refine wp_callV (as := [_]) (ls0 := [_, _]) (kc := 0) (ks := 0) (bc' := 0) (bs' := 0) dX1_canBegin_15 vX1_51 hN.s38 rfl rfl (Nat.le_of_ble_eq_true rfl) (Nat.le_of_ble_eq_true rfl) (by omega) (by omega) ?_
    refine e_senderOf hN hl hP hp hpF ?_
    refine wp_callV (as := [_]) (ls0 := [_, _, _, _]) (kc := 0) (ks := 0) (bc' := 0) (bs' := 0) dX1_canBegin_18 vX1_55 hN.s11 rfl rfl (Nat.le_of_ble_eq_true rfl) (Nat.le_of_ble_eq_true rfl) (by omega) (by omega) ?_
    refine x_takenAt hN hl hP hR hB (fun x18 hx18 => ?_)
    have hfu := full_iff hB (by omega : 0 ≤ E 5 0 ∧ E 5 0 ≤ 16) (by omega) hx18
    have hfl := Bts.full (n := E 5 0) (by omega)
    refine wp_iconst dX1_canBegin_21 ?_
    refine wp_aload_n dX1_canBegin_22 rfl ?_
    refine wp_getR hN.r38p dX1_canBegin_23 fX1_30 hN.s38 ?_
    refine wp_callV (as := []) (ls0 := [_]) (kc := 0) (ks := 0) (bc' := 0) (bs' := 0) dX1_canBegin_26 vX1_31 hl.1 rfl rfl (Nat.le_of_ble_eq_true rfl) (Nat.le_of_ble_eq_true rfl) (by omega) (by omega) ?_
    refine n_slots (hN.pl hl) ?_
    refine wp_ishl dX1_canBegin_29 (by omega) (by omega) (by exact ⟨by have := hfl.1; omega, by have := hfl.2.1; omega⟩) ?_
    refine wp_iconst dX1_canBegin_30 ?_
    refine wp_isub dX1_canBegin_31 ⟨by have := hfl.1; have := hfl.2.1; omega, by have := hfl.1; have := hfl.2.1; omega⟩ ?_
    refine wp_icmp_eq (tgt := 39) dX1_canBegin_32 rfl (fun h32 => ?_) (fun h32 => ?_)
    · refine wp_iconst dX1_canBegin_39 ?_
      refine wp_istore_n (ls' := [_, _, _, _]) dX1_canBegin_40 (by decide) rfl rfl ?_
      refine wp_iload_n dX1_canBegin_41 rfl ?_
      rcases (by omega : kd = 0 ∨ kd = 1 ∨ kd = 2 ∨ (kd < 0 ∨ 2 < kd)) with h42 | h42 | h42 | h42
      · refine wp_tswIn (tgt := 68) dX1_canBegin_42 (by omega) (by omega) (by rw [h42]; rfl) rfl ?_
        refine wp_iload_n dX1_canBegin_68 rfl ?_
        refine wp_if_ne (tgt := 80) dX1_canBegin_69 rfl (fun q => absurd q (by decide)) (fun _ => ?_)
        refine wp_aload_n dX1_canBegin_72 rfl ?_
        refine wp_aload_n dX1_canBegin_73 rfl ?_
        refine wp_callV (as := [_]) (ls0 := [_, _]) (kc := 0) (ks := 0) (bc' := 0) (bs' := 0) dX1_canBegin_74 vX1_59 hN.s38 rfl rfl (Nat.le_of_ble_eq_true rfl) (Nat.le_of_ble_eq_true rfl) (by omega) (by omega) ?_
        refine e_isTwoSteps hN hl hP hp hpF (fun h74 => ?_) (fun h74 => ?_)
        · refine wp_if_ne (tgt := 84) dX1_canBegin_77 rfl (fun _ => ?_) (fun q => absurd q (by decide))
          refine wp_iconst dX1_canBegin_84 ?_
          refine wp_zreturn dX1_canBegin_85 rfl (Or.inl rfl) ?_
          refine kf (hmi.mpr ?_)
          first | exact Or.inl ⟨by omega, by omega⟩ | exact Or.inr ⟨Or.inl ⟨by omega, h74⟩, hfu.mp h32⟩ | exact Or.inr ⟨Or.inr (by omega), hfu.mp h32⟩
        · refine wp_if_ne (tgt := 84) dX1_canBegin_77 rfl (fun q => absurd q (by decide)) (fun _ => ?_)
          refine wp_iconst dX1_canBegin_80 ?_
          refine wp_goto (tgt := 85) dX1_canBegin_81 rfl ?_
          refine wp_zreturn dX1_canBegin_85 rfl (Or.inr rfl) ?_
          refine kt (fun z => ?_)
          rw [hmi] at z
          first | (rcases z with ⟨a1, a2⟩ | ⟨(⟨a1, a2⟩ | a1), a3⟩ <;> omega) | (rcases z with ⟨a1, a2⟩ | ⟨_, a3⟩; omega; exact h32 (hfu.mpr a3)) | (rcases z with ⟨a1, a2⟩ | ⟨(⟨a1, a2⟩ | a1), a3⟩; omega; exact h74 a2; omega)
      · refine wp_tswIn (tgt := 86) dX1_canBegin_42 (by omega) (by omega) (by rw [h42]; rfl) rfl ?_
        refine wp_aload_n dX1_canBegin_86 rfl ?_
        refine wp_getR (hN.rls hp) dX1_canBegin_87 fX1_63 (hN.sl hp) ?_
        refine wp_callV (as := []) (ls0 := [_]) (kc := 0) (ks := 0) (bc' := 0) (bs' := 0) dX1_canBegin_90 vX1_67 (hN.ss hp) rfl rfl (Nat.le_of_ble_eq_true rfl) (Nat.le_of_ble_eq_true rfl) (by omega) (by omega) ?_
        refine c_size (hN.lk hp).sS hR ?_
        rw [mq0]
        refine wp_if_le (tgt := 100) dX1_canBegin_93 rfl (fun h93 => ?_) (fun h93 => ?_)
        · refine wp_iconst dX1_canBegin_100 ?_
          refine wp_zreturn dX1_canBegin_101 rfl (Or.inl rfl) ?_
          refine kf (hmi.mpr ?_)
          first | exact Or.inl ⟨by omega, by omega⟩ | exact Or.inr ⟨Or.inl ⟨by omega, h74⟩, hfu.mp h32⟩ | exact Or.inr ⟨Or.inr (by omega), hfu.mp h32⟩
        · refine wp_iconst dX1_canBegin_96 ?_
          refine wp_goto (tgt := 101) dX1_canBegin_97 rfl ?_
          refine wp_zreturn dX1_canBegin_101 rfl (Or.inr rfl) ?_
          refine kt (fun z => ?_)
          rw [hmi] at z
          first | (rcases z with ⟨a1, a2⟩ | ⟨(⟨a1, a2⟩ | a1), a3⟩ <;> omega) | (rcases z with ⟨a1, a2⟩ | ⟨_, a3⟩; omega; exact h32 (hfu.mpr a3)) | (rcases z with ⟨a1, a2⟩ | ⟨(⟨a1, a2⟩ | a1), a3⟩; omega; exact h74 a2; omega)
      · refine wp_tswIn (tgt := 102) dX1_canBegin_42 (by omega) (by omega) (by rw [h42]; rfl) rfl ?_
        refine wp_iload_n dX1_canBegin_102 rfl ?_
        refine wp_zreturn dX1_canBegin_103 rfl (Or.inl rfl) ?_
        refine kf (hmi.mpr ?_)
        first | exact Or.inl ⟨by omega, by omega⟩ | exact Or.inr ⟨Or.inl ⟨by omega, h74⟩, hfu.mp h32⟩ | exact Or.inr ⟨Or.inr (by omega), hfu.mp h32⟩
      · refine wp_tswOut (tgt := 104) dX1_canBegin_42 (by omega) rfl ?_
        refine wp_iconst dX1_canBegin_104 ?_
        refine wp_zreturn dX1_canBegin_105 rfl (Or.inr rfl) ?_
        refine kt (fun z => ?_)
        rw [hmi] at z
        first | (rcases z with ⟨a1, a2⟩ | ⟨(⟨a1, a2⟩ | a1), a3⟩ <;> omega) | (rcases z with ⟨a1, a2⟩ | ⟨_, a3⟩; omega; exact h32 (hfu.mpr a3)) | (rcases z with ⟨a1, a2⟩ | ⟨(⟨a1, a2⟩ | a1), a3⟩; omega; exact h74 a2; omega)
    · refine wp_iconst dX1_canBegin_35 ?_
      refine wp_goto (tgt := 40) dX1_canBegin_36 rfl ?_
      refine wp_istore_n (ls' := [_, _, _, _]) dX1_canBegin_40 (by decide) rfl rfl ?_
      refine wp_iload_n dX1_canBegin_41 rfl ?_
      rcases (by omega : kd = 0 ∨ kd = 1 ∨ kd = 2 ∨ (kd < 0 ∨ 2 < kd)) with h42 | h42 | h42 | h42
      · refine wp_tswIn (tgt := 68) dX1_canBegin_42 (by omega) (by omega) (by rw [h42]; rfl) rfl ?_
        refine wp_iload_n dX1_canBegin_68 rfl ?_
        refine wp_if_ne (tgt := 80) dX1_canBegin_69 rfl (fun _ => ?_) (fun q => absurd q (by decide))
        refine wp_iconst dX1_canBegin_80 ?_
        refine wp_goto (tgt := 85) dX1_canBegin_81 rfl ?_
        refine wp_zreturn dX1_canBegin_85 rfl (Or.inr rfl) ?_
        refine kt (fun z => ?_)
        rw [hmi] at z
        first | (rcases z with ⟨a1, a2⟩ | ⟨(⟨a1, a2⟩ | a1), a3⟩ <;> omega) | (rcases z with ⟨a1, a2⟩ | ⟨_, a3⟩; omega; exact h32 (hfu.mpr a3)) | (rcases z with ⟨a1, a2⟩ | ⟨(⟨a1, a2⟩ | a1), a3⟩; omega; exact h74 a2; omega)
      · refine wp_tswIn (tgt := 86) dX1_canBegin_42 (by omega) (by omega) (by rw [h42]; rfl) rfl ?_
        refine wp_aload_n dX1_canBegin_86 rfl ?_
        refine wp_getR (hN.rls hp) dX1_canBegin_87 fX1_63 (hN.sl hp) ?_
        refine wp_callV (as := []) (ls0 := [_]) (kc := 0) (ks := 0) (bc' := 0) (bs' := 0) dX1_canBegin_90 vX1_67 (hN.ss hp) rfl rfl (Nat.le_of_ble_eq_true rfl) (Nat.le_of_ble_eq_true rfl) (by omega) (by omega) ?_
        refine c_size (hN.lk hp).sS hR ?_
        rw [mq0]
        refine wp_if_le (tgt := 100) dX1_canBegin_93 rfl (fun h93 => ?_) (fun h93 => ?_)
        · refine wp_iconst dX1_canBegin_100 ?_
          refine wp_zreturn dX1_canBegin_101 rfl (Or.inl rfl) ?_
          refine kf (hmi.mpr ?_)
          first | exact Or.inl ⟨by omega, by omega⟩ | exact Or.inr ⟨Or.inl ⟨by omega, h74⟩, hfu.mp h32⟩ | exact Or.inr ⟨Or.inr (by omega), hfu.mp h32⟩
        · refine wp_iconst dX1_canBegin_96 ?_
          refine wp_goto (tgt := 101) dX1_canBegin_97 rfl ?_
          refine wp_zreturn dX1_canBegin_101 rfl (Or.inr rfl) ?_
          refine kt (fun z => ?_)
          rw [hmi] at z
          first | (rcases z with ⟨a1, a2⟩ | ⟨(⟨a1, a2⟩ | a1), a3⟩ <;> omega) | (rcases z with ⟨a1, a2⟩ | ⟨_, a3⟩; omega; exact h32 (hfu.mpr a3)) | (rcases z with ⟨a1, a2⟩ | ⟨(⟨a1, a2⟩ | a1), a3⟩; omega; exact h74 a2; omega)
      · refine wp_tswIn (tgt := 102) dX1_canBegin_42 (by omega) (by omega) (by rw [h42]; rfl) rfl ?_
        refine wp_iload_n dX1_canBegin_102 rfl ?_
        refine wp_zreturn dX1_canBegin_103 rfl (Or.inr rfl) ?_
        refine kt (fun z => ?_)
        rw [hmi] at z
        first | (rcases z with ⟨a1, a2⟩ | ⟨(⟨a1, a2⟩ | a1), a3⟩ <;> omega) | (rcases z with ⟨a1, a2⟩ | ⟨_, a3⟩; omega; exact h32 (hfu.mpr a3)) | (rcases z with ⟨a1, a2⟩ | ⟨(⟨a1, a2⟩ | a1), a3⟩; omega; exact h74 a2; omega)
      · refine wp_tswOut (tgt := 104) dX1_canBegin_42 (by omega) rfl ?_
        refine wp_iconst dX1_canBegin_104 ?_
        refine wp_zreturn dX1_canBegin_105 rfl (Or.inr rfl) ?_
        refine kt (fun z => ?_)
        rw [hmi] at z
        first | (rcases z with ⟨a1, a2⟩ | ⟨(⟨a1, a2⟩ | a1), a3⟩ <;> omega) | (rcases z with ⟨a1, a2⟩ | ⟨_, a3⟩; omega; exact h32 (hfu.mpr a3)) | (rcases z with ⟨a1, a2⟩ | ⟨(⟨a1, a2⟩ | a1), a3⟩; omega; exact h74 a2; omega)
  · refine wp_if_ne (tgt := 9) dX1_canBegin_4 rfl (fun q => absurd q (by decide)) (fun _ => ?_)
    refine wp_iconst dX1_canBegin_7 ?_
    refine wp_zreturn dX1_canBegin_8 rfl (Or.inl rfl) ?_
    exact kf (by rw [mny]; rw [if_pos h1_])
theorem e_promiseFreeSlots {fr most : Int} (hN : NtA sh rv iv b) (hl : PlA sh rv iv E F) (hP : Prm E F) (hp : 0 ≤ p ∧ p < 6) (hpF : p < F 13) (hR : Rel w N) (hB : Bok (E 5 0) (E 5 1) N) (hfr : 0 ≤ fr ∧ fr ≤ E 5 0) (hmo : 0 ≤ most ∧ most ≤ 4) (h33 : N (61 * p + 33) = 0) (h48 : 0 ≤ N (61 * p + 48) ∧ N (61 * p + 48) + most ≤ 4) (k : ∀ (D' O' w' : Int → Int), D' 5 = D 5 → Rel w' (cofL p 0 (Lf (ofr E F N p (E 6 (4 * p + 0)) fr)) (mnI most ((ofr E F N p (E 6 (4 * p + 0)) fr).length : Int)).toNat 0 N) → R none sh (uA (CD iv b D' O' T S K C) (12 + 42 * b) w') lw rv) : wp (d + 2) mX1_promiseFreeSlots 0 [some (aR (38 + 43 * b)), some (aR (lid b p)), some (aI fr), some (aI most)] [] sh (uA (CD iv b D O T S K C) (12 + 42 * b) w) lw rv 0 0 R := by
  obtain ⟨hW1, hW2, hO1, hO2, hT1, hT2, hI1, hI2, hF1, hF2⟩ := id hP
  refine wp_aload_n dX1_promiseFreeSlots_0 rfl ?_
  refine wp_aload_n dX1_promiseFreeSlots_1 rfl ?_
  refine wp_getI dX1_promiseFreeSlots_2 fX1_192 (hN.sl hp) ?_
  rw [hN.no hp]
  refine wp_aload_n dX1_promiseFreeSlots_5 rfl ?_
  refine wp_getR hN.r38n dX1_promiseFreeSlots_6 fX1_20 hN.s38 ?_
  refine wp_aload_n dX1_promiseFreeSlots_9 rfl ?_
  refine wp_aload_n dX1_promiseFreeSlots_10 rfl ?_
  refine wp_callV (as := [_]) (ls0 := [_, _]) (kc := 0) (ks := 0) (bc' := 0) (bs' := 0) dX1_promiseFreeSlots_11 vX1_51 hN.s38 rfl rfl (Nat.le_of_ble_eq_true rfl) (Nat.le_of_ble_eq_true rfl) (by omega) (by omega) ?_
  refine e_senderOf hN hl hP hp hpF ?_
  refine wp_callV (as := [_]) (ls0 := [_, _, _, _]) (kc := 0) (ks := 0) (bc' := 0) (bs' := 0) dX1_promiseFreeSlots_14 vX1_55 hN.s11 rfl rfl (Nat.le_of_ble_eq_true rfl) (Nat.le_of_ble_eq_true rfl) (by omega) (by omega) ?_
  refine x_takenAt hN hl hP hR hB (fun x14 hx14 => ?_)
  refine wp_iload_n dX1_promiseFreeSlots_17 rfl ?_
  refine wp_iload_n dX1_promiseFreeSlots_18 rfl ?_
  refine wp_callV (as := [_, _, _, _]) (ls0 := [_, _, _, _, _, _, _, _]) (kc := 0) (ks := 0) (bc' := 0) (bs' := 0) dX1_promiseFreeSlots_19 vX1_198 hN.s38 rfl rfl (Nat.le_of_ble_eq_true rfl) (Nat.le_of_ble_eq_true rfl) (by omega) (by omega) ?_
  refine e_gather hN hl hP hp hx14 hfr (by omega) (fun D O g1 g2 g3 => ?_)
  rw [show offs (Tkn N (E 6) (F 13) (E 6 (4 * p + 0))) (E 5 0) (E 5 1) p fr (E 5 0).toNat 0 = ofr E F N p (E 6 (4 * p + 0)) fr from rfl] at g2 g3
  have hmn := mnI_r (x := most) (y := ((ofr E F N p (E 6 (4 * p + 0)) fr).length : Int)) hmo.1 (Int.natCast_nonneg _)
  refine wp_pop dX1_promiseFreeSlots_22 rfl ?_
  refine wp_aload_n dX1_promiseFreeSlots_23 rfl ?_
  refine wp_aload_n dX1_promiseFreeSlots_24 rfl ?_
  refine wp_getR (hN.rls hp) dX1_promiseFreeSlots_25 fX1_63 (hN.sl hp) ?_
  refine wp_aload_n dX1_promiseFreeSlots_28 rfl ?_
  refine wp_getR (hN.rlm hp) dX1_promiseFreeSlots_29 fX1_72 (hN.sl hp) ?_
  refine wp_callV (as := [_, _]) (ls0 := [_, _, _, _]) (kc := 0) (ks := 0) (bc' := 0) (bs' := 0) dX1_promiseFreeSlots_32 vX1_202 hN.s38 rfl rfl (Nat.le_of_ble_eq_true rfl) (Nat.le_of_ble_eq_true rfl) (by omega) (by omega) ?_
  refine e_promiseOffers hN hp (hN.lk hp).sS hR (by omega) h33 (by omega) (fun w hR => ?_)
  refine wp_return dX1_promiseFreeSlots_35 rfl ?_
  refine k D O w g1 ?_
  rw [g2] at hR g3
  rw [cofL_c (g := O)]
  · exact hR
  · intro j j0 j1; exact (g3 j j0 (by omega)).symm
def bg2 (N : Int → Int) (p kd as : Int) : Int → Int := up (up (up (wriF N p 0 kd (-1) as) (61 * p + 28) 1) (61 * p + 30) (N 368)) (61 * p + 32) kd
theorem bg2_k {kd as k : Int} (h : ¬ (k = 28 ∨ k = 30 ∨ k = 32)) (h2 : k < 43 ∨ 49 < k) : bg2 N p kd as (61 * p + k) = N (61 * p + k) := by
  unfold bg2; rw [up_n (by omega), up_n (by omega), up_n (by omega), wriF_n h2]
theorem bg2_48 {kd as : Int} : bg2 N p kd as (61 * p + 48) = 0 := by unfold bg2; rw [up_n (by omega), up_n (by omega), up_n (by omega), wriF_48]
theorem bg2_bok {kd as : Int} (hB : Bok (E 5 0) (E 5 1) N) (hp : 0 ≤ p ∧ p < 6) (hfr : 0 ≤ N 368 ∧ N 368 ≤ 20000) (hkd : 0 ≤ kd ∧ kd ≤ 3) (has : -1 ≤ as ∧ as ≤ 3) : Bok (E 5 0) (E 5 1) (bg2 N p kd as) :=
  (((hB.bwriF hp (by omega) hkd (by omega) has).bup (by omega) (by rw [k28]; omega)).bup (k := 30) (by omega) (by have := kfrm (W := E 5 0) (Of := E 5 1) (q := 0) (v := N 368) (Or.inl rfl); rw [show (30 : Int) + 0 = 30 from rfl] at this; rw [this]; exact hfr)).bup (by omega) (by rw [k32]; exact hkd)
theorem bg2_tkn {kd as nd s : Int} (hB : Bok (E 5 0) (E 5 1) N) (hF : F 13 ≤ 6) (hp : 0 ≤ p ∧ p < 6) : Tkn (bg2 N p kd as) (E 6) (F 13) nd s ↔ Tkn N (E 6) (F 13) nd s :=
  Tkn_cg hB hF (fun a k h1 h2 h3 => by unfold bg2 wriF; rw [up_n (by omega), up_n (by omega), up_n (by omega), up_n (by omega), up_n (by omega), up_n (by omega), up_n (by omega), up_n (by omega), up_n (by omega), up_n (by omega)])
theorem ofr_cg {N' : Int → Int} {nd fr : Int} (h : ∀ s : Int, Tkn N' (E 6) (F 13) nd s ↔ Tkn N (E 6) (F 13) nd s) : ofr E F N' p nd fr = ofr E F N p nd fr := by
  unfold ofr; rw [show Tkn N' (E 6) (F 13) nd = Tkn N (E 6) (F 13) nd from funext (fun s => propext (h s))]
theorem ofr_mod {nd fr : Int} : ofr E F N p nd (fr % E 5 0) = ofr E F N p nd fr := by unfold ofr; rw [offs_mod]
theorem begF_nn {kd n : Int} (h : ¬ mny E F N p kd n = -1) : begF E F N p kd n = up (waiF (if kd = 1 then delL p (mny E F N p kd n).toNat (N (61 * p + 18) - mny E F N p kd n) (wriF N p 0 kd (-1) n)
    else prmF (encL p (Lf (bgo E F N p kd n)) (mny E F N p kd n).toNat 0 (if kd = 2 then encF (wriF N p 0 kd (-1) (-1)) p (N (61 * p + (0 + n))) else wriF N p 0 kd (-1) (if kd = 0 then n else -1))) p 0 (mny E F N p kd n) (Lf (bgo E F N p kd n))) p 0) (61 * p + 32) kd := by
  rw [begF, if_neg h]
/-- what the class writes, told as the reference does: no offers -/
theorem bg_eq0 {kd n as : Int} (h : ¬ mny E F N p kd n = -1) (hm : mny E F N p kd n = 0) (hk : kd = 3 ∨ kd = 0) (has : as = if kd = 0 then n else -1) (h33 : N (61 * p + 33) = 0) : begF E F N p kd n = bg2 N p kd as := by
  rw [begF_nn h, hm, if_neg (by omega), if_neg (by omega), ← has]
  have e33 : wriF N p 0 kd (-1) as (61 * p + (33 + 0)) = 0 := by rw [wriF_n (by omega)]; exact h33
  rw [show (0 : Int).toNat = 0 from rfl, encL]
  have e : prmF (wriF N p 0 kd (-1) as) p 0 0 (Lf (bgo E F N p kd n)) = wriF N p 0 kd (-1) as := by
    unfold prmF
    rw [show (0 : Int).toNat = 0 from rfl, prmL]
    have := up_id (f := wriF N p 0 kd (-1) as) (k := 61 * p + (33 + 0))
    rw [e33] at this; exact this
  rw [e, waiF_w]
  unfold bg2
  rw [show wriF N p 0 kd (-1) as 368 = wriF N p 0 kd (-1) as (61 * p + (368 - 61 * p)) by congr 1; omega]
  by_cases hp : 368 - 61 * p < 43 ∨ 49 < 368 - 61 * p
  · rw [wriF_n hp, show 61 * p + (368 - 61 * p) = 368 by omega]
  · unfold wriF; omega
theorem wri_far {kd as re so : Int} (hp : 0 ≤ p ∧ p < 6) : wriF N p so kd re as 368 = N 368 := by
  have := wriF_n (N := N) (p := p) (so := so) (ki := kd) (re := re) (as := as) (k := 368 - 61 * p) (by omega)
  rw [show 61 * p + (368 - 61 * p) = 368 by omega] at this
  exact this
theorem bg_eqO {kd n as m : Int} {L : List Int} {M : Int → Int} (hp : 0 ≤ p ∧ p < 6) (hM : M 368 = N 368) (h33 : M (61 * p + 33) = 0) (h48 : 0 ≤ M (61 * p + 48) ∧ M (61 * p + 48) + m ≤ 4) (hm : 0 ≤ m ∧ m ≤ 4) : up (waiF (prmF (encL p (Lf L) m.toNat 0 M) p 0 m (Lf L)) p 0) (61 * p + 32) kd = cofL p 0 (Lf L) m.toNat 0 (up (up (up M (61 * p + 28) 1) (61 * p + 30) (N 368)) (61 * p + 32) kd) := by
  rw [cof_eq (Or.inl rfl) (by rw [show (33 : Int) + 0 = 33 from rfl]; exact h33) h48 hm, waiF_w]
  rw [cofL_up (Or.inl rfl) (by omega), cofL_up (Or.inl rfl) (by omega), cofL_up (Or.inl rfl) (by omega), cofL_far (Or.inl rfl) _ _ _ (by omega), hM]
  all_goals (try rw [show (33 : Int) + 0 = 33 from rfl])
  all_goals (try rw [up_n (by omega)])
  all_goals (try rw [up_n (by omega)])
  all_goals (try rw [up_n (by omega)])
  all_goals omega
theorem e_begin3 {n : Int} (hN : NtA sh rv iv b) (hl : PlA sh rv iv E F) (hP : Prm E F) (hp : 0 ≤ p ∧ p < 6) (hpF : p < F 13) (hR : Rel w N) (hB : Bok (E 5 0) (E 5 1) N) (hfr : 0 ≤ N 368 ∧ N 368 ≤ 20000) (hn : 0 ≤ n ∧ n < 6) (h33 : N (61 * p + 33) = 0) (hc : ¬ mny E F N p 3 n = -1) (k : ∀ (D' O' w' : Int → Int), D' 5 = D 5 → Rel w' (begF E F N p 3 n) → R (some (aI (begF E F N p 3 n (61 * p + 48)))) sh (uA (CD iv b D' O' T S K C) (12 + 42 * b) w') lw rv) : wp (d + 3) mX1_begin 0 [some (aR (38 + 43 * b)), some (aR (lid b p)), some (aI 3), some (aI n), none, none, none] [] sh (uA (CD iv b D O T S K C) (12 + 42 * b) w) lw rv 0 0 R := by
  obtain ⟨hW1, hW2, hO1, hO2, hT1, hT2, hI1, hI2, hF1, hF2⟩ := id hP
  have hid : N (61 * p + 28) = 0 ∧ N (61 * p + 43) = 0 := Classical.byContradiction (fun z => hc (mny_n z))
  have e := bg_eq0 (as := -1) hc (mny_0 hid (Or.inl rfl)) (Or.inl rfl) (by rw [if_neg (by decide)]) h33
  rw [e] at k
  refine wp_iload_n dX1_begin_0 rfl ?_
  refine wp_if_eq (tgt := 9) dX1_begin_1 rfl (fun q => absurd q (by decide)) (fun _ => ?_)
  refine wp_iload_n dX1_begin_4 rfl ?_
  refine wp_iconst dX1_begin_5 ?_
  refine wp_icmp_ne (tgt := 13) dX1_begin_6 rfl (fun _ => ?_) (fun q => absurd q (by decide))
  refine wp_iconst dX1_begin_13 ?_
  refine wp_istore (ls' := [_, _, _, _, _, _, _]) dX1_begin_14 (by decide) rfl rfl ?_
  refine wp_aload_n dX1_begin_16 rfl ?_
  refine wp_getR (hN.rlm hp) dX1_begin_17 fX1_72 (hN.sl hp) ?_
  refine wp_iconst dX1_begin_20 ?_
  refine wp_iload_n dX1_begin_21 rfl ?_
  refine wp_iconst dX1_begin_22 ?_
  refine wp_aload_n dX1_begin_23 rfl ?_
  refine wp_getR (hN.rls hp) dX1_begin_24 fX1_63 (hN.sl hp) ?_
  refine wp_callV (as := []) (ls0 := [_]) (kc := 0) (ks := 0) (bc' := 0) (bs' := 0) dX1_begin_27 vX1_76 (hN.ss hp) rfl rfl (Nat.le_of_ble_eq_true rfl) (Nat.le_of_ble_eq_true rfl) (by omega) (by omega) ?_
  refine c_seq (hN.lk hp).sS hR ?_
  refine wp_iload dX1_begin_30 rfl ?_
  refine wp_callV (as := [_, _, _, _, _]) (ls0 := [_, _, _, _, _, _]) (kc := 0) (ks := 0) (bc' := 0) (bs' := 0) dX1_begin_32 vX1_79 (hN.sm hp) rfl rfl (Nat.le_of_ble_eq_true rfl) (Nat.le_of_ble_eq_true rfl) (by omega) (by omega) ?_
  refine t_send (hN.lk hp).sM hR (by rw [if_pos rfl, show (26 : Int) + 0 = 26 from rfl]) (fun w hR => ?_)
  refine wp_aload_n dX1_begin_35 rfl ?_
  refine wp_getR (hN.rls hp) dX1_begin_36 fX1_63 (hN.sl hp) ?_
  refine wp_aload_n dX1_begin_39 rfl ?_
  refine wp_getR hN.r38n dX1_begin_40 fX1_20 hN.s38 ?_
  refine wp_callV (as := []) (ls0 := [_]) (kc := 0) (ks := 0) (bc' := 0) (bs' := 0) dX1_begin_43 vX1_83 hN.s11 rfl rfl (Nat.le_of_ble_eq_true rfl) (Nat.le_of_ble_eq_true rfl) (by omega) (by omega) ?_
  refine x_frame hN hR ?_
  rw [wri_far hp]
  refine wp_iload_n dX1_begin_46 rfl ?_
  refine wp_callV (as := [_, _]) (ls0 := [_, _, _]) (kc := 0) (ks := 0) (bc' := 0) (bs' := 0) dX1_begin_47 vX1_86 (hN.ss hp) rfl rfl (Nat.le_of_ble_eq_true rfl) (Nat.le_of_ble_eq_true rfl) (by omega) (by omega) ?_
  refine c_startWaiting0 (hN.lk hp).sS hR rfl (fun w hR => ?_)
  have hR : Rel w (bg2 N p 3 (-1)) := hR
  refine wp_iload_n dX1_begin_50 rfl ?_
  refine wp_if_ne (tgt := 74) dX1_begin_51 rfl (fun _ => ?_) (fun q => absurd q (by decide))
  refine wp_iload_n dX1_begin_74 rfl ?_
  refine wp_iconst dX1_begin_75 ?_
  refine wp_icmp_ne (tgt := 130) dX1_begin_76 rfl (fun _ => ?_) (fun q => absurd q (by decide))
  refine wp_iload_n dX1_begin_130 rfl ?_
  refine wp_iconst dX1_begin_131 ?_
  refine wp_icmp_ne (tgt := 167) dX1_begin_132 rfl (fun _ => ?_) (fun q => absurd q (by decide))
  refine wp_aload_n dX1_begin_167 rfl ?_
  refine wp_getR (hN.rlm hp) dX1_begin_168 fX1_72 (hN.sl hp) ?_
  refine wp_callV (as := []) (ls0 := [_]) (kc := 0) (ks := 0) (bc' := 0) (bs' := 0) dX1_begin_171 vX1_106 (hN.sm hp) rfl rfl (Nat.le_of_ble_eq_true rfl) (Nat.le_of_ble_eq_true rfl) (by omega) (by omega) ?_
  refine t_cells (hN.lk hp).sM hR ?_
  refine wp_ireturn dX1_begin_174 rfl ?_
  exact k D O w rfl hR
theorem e_begin0 {n : Int} (hN : NtA sh rv iv b) (hl : PlA sh rv iv E F) (hP : Prm E F) (hp : 0 ≤ p ∧ p < 6) (hpF : p < F 13) (hR : Rel w N) (hB : Bok (E 5 0) (E 5 1) N) (hfr : 0 ≤ N 368 ∧ N 368 ≤ 20000) (hn : 0 ≤ n ∧ n < 6) (h33 : N (61 * p + 33) = 0) (hn3 : n ≤ 3) (hc : ¬ mny E F N p 0 n = -1) (k : ∀ (D' O' w' : Int → Int), D' 5 = D 5 → Rel w' (begF E F N p 0 n) → R (some (aI (begF E F N p 0 n (61 * p + 48)))) sh (uA (CD iv b D' O' T S K C) (12 + 42 * b) w') lw rv) : wp (d + 3) mX1_begin 0 [some (aR (38 + 43 * b)), some (aR (lid b p)), some (aI 0), some (aI n), none, none, none] [] sh (uA (CD iv b D O T S K C) (12 + 42 * b) w) lw rv 0 0 R := by
  obtain ⟨hW1, hW2, hO1, hO2, hT1, hT2, hI1, hI2, hF1, hF2⟩ := id hP
  have hid : N (61 * p + 28) = 0 ∧ N (61 * p + 43) = 0 := Classical.byContradiction (fun z => hc (mny_n z))
  refine wp_iload_n dX1_begin_0 rfl ?_
  refine wp_if_eq (tgt := 9) dX1_begin_1 rfl (fun _ => ?_) (fun q => absurd q (by decide))
  refine wp_iload_n dX1_begin_9 rfl ?_
  refine wp_goto (tgt := 14) dX1_begin_10 rfl ?_
  refine wp_istore (ls' := [_, _, _, _, _, _, _]) dX1_begin_14 (by decide) rfl rfl ?_
  refine wp_aload_n dX1_begin_16 rfl ?_
  refine wp_getR (hN.rlm hp) dX1_begin_17 fX1_72 (hN.sl hp) ?_
  refine wp_iconst dX1_begin_20 ?_
  refine wp_iload_n dX1_begin_21 rfl ?_
  refine wp_iconst dX1_begin_22 ?_
  refine wp_aload_n dX1_begin_23 rfl ?_
  refine wp_getR (hN.rls hp) dX1_begin_24 fX1_63 (hN.sl hp) ?_
  refine wp_callV (as := []) (ls0 := [_]) (kc := 0) (ks := 0) (bc' := 0) (bs' := 0) dX1_begin_27 vX1_76 (hN.ss hp) rfl rfl (Nat.le_of_ble_eq_true rfl) (Nat.le_of_ble_eq_true rfl) (by omega) (by omega) ?_
  refine c_seq (hN.lk hp).sS hR ?_
  refine wp_iload dX1_begin_30 rfl ?_
  refine wp_callV (as := [_, _, _, _, _]) (ls0 := [_, _, _, _, _, _]) (kc := 0) (ks := 0) (bc' := 0) (bs' := 0) dX1_begin_32 vX1_79 (hN.sm hp) rfl rfl (Nat.le_of_ble_eq_true rfl) (Nat.le_of_ble_eq_true rfl) (by omega) (by omega) ?_
  refine t_send (hN.lk hp).sM hR (by rw [if_pos rfl, show (26 : Int) + 0 = 26 from rfl]) (fun w hR => ?_)
  refine wp_aload_n dX1_begin_35 rfl ?_
  refine wp_getR (hN.rls hp) dX1_begin_36 fX1_63 (hN.sl hp) ?_
  refine wp_aload_n dX1_begin_39 rfl ?_
  refine wp_getR hN.r38n dX1_begin_40 fX1_20 hN.s38 ?_
  refine wp_callV (as := []) (ls0 := [_]) (kc := 0) (ks := 0) (bc' := 0) (bs' := 0) dX1_begin_43 vX1_83 hN.s11 rfl rfl (Nat.le_of_ble_eq_true rfl) (Nat.le_of_ble_eq_true rfl) (by omega) (by omega) ?_
  refine x_frame hN hR ?_
  rw [wri_far hp]
  refine wp_iload_n dX1_begin_46 rfl ?_
  refine wp_callV (as := [_, _]) (ls0 := [_, _, _]) (kc := 0) (ks := 0) (bc' := 0) (bs' := 0) dX1_begin_47 vX1_86 (hN.ss hp) rfl rfl (Nat.le_of_ble_eq_true rfl) (Nat.le_of_ble_eq_true rfl) (by omega) (by omega) ?_
  refine c_startWaiting0 (hN.lk hp).sS hR rfl (fun w hR => ?_)
  have hR : Rel w (bg2 N p 0 n) := hR
  refine wp_iload_n dX1_begin_50 rfl ?_
  refine wp_if_ne (tgt := 74) dX1_begin_51 rfl (fun q => absurd q (by decide)) (fun _ => ?_)
  refine wp_aload_n dX1_begin_54 rfl ?_
  refine wp_aload_n dX1_begin_55 rfl ?_
  refine wp_callV (as := [_]) (ls0 := [_, _]) (kc := 0) (ks := 0) (bc' := 0) (bs' := 0) dX1_begin_56 vX1_59 hN.s38 rfl rfl (Nat.le_of_ble_eq_true rfl) (Nat.le_of_ble_eq_true rfl) (by omega) (by omega) ?_
  refine e_isTwoSteps hN hl hP hp hpF (fun h56 => ?_) (fun h56 => ?_)
  · refine wp_if_eq (tgt := 74) dX1_begin_59 rfl (fun q => absurd q (by decide)) (fun _ => ?_)
    refine wp_aload_n dX1_begin_62 rfl ?_
    refine wp_aload_n dX1_begin_63 rfl ?_
    refine wp_iconst dX1_begin_64 ?_
    refine wp_iload_n dX1_begin_65 rfl ?_
    refine wp_iconst dX1_begin_66 ?_
    refine wp_iadd dX1_begin_67 ⟨by omega, by omega⟩ ?_
    refine wp_callV (as := [_, _, _]) (ls0 := [_, _, _, _]) (kc := 0) (ks := 0) (bc' := 0) (bs' := 0) dX1_begin_68 vX1_90 hN.s38 rfl rfl (Nat.le_of_ble_eq_true rfl) (Nat.le_of_ble_eq_true rfl) (by omega) (by omega) ?_
    refine e_promiseFreeSlots hN hl hP hp hpF hR (bg2_bok hB hp hfr (by omega) (by omega)) (by omega) (by omega) (by rw [bg2_k (by omega) (by omega)]; exact h33) (by rw [bg2_48]; omega) (fun D O w g1 hR => ?_)
    rw [ofr_cg (fun s => bg2_tkn hB hF2 hp)] at hR
    have hmny := mny_p (iv := E) (F := F) (n := n) hid (by omega) (fun z => hc (mny_z hid (by omega) z))
    have hmnm : mnm E F N p 0 n = mnI (n + 1) ((ofr E F N p (E 6 (4 * p + 0)) 0).length : Int) := by
      unfold mnm bgo; rw [if_neg (by decide), if_pos rfl, if_pos rfl]
    have hmr := mnI_r (x := n + 1) (y := ((ofr E F N p (E 6 (4 * p + 0)) 0).length : Int)) (by omega) (Int.natCast_nonneg _)
    have e : begF E F N p 0 n = cofL p 0 (Lf (ofr E F N p (E 6 (4 * p + 0)) 0)) (mnI (n + 1) ((ofr E F N p (E 6 (4 * p + 0)) 0).length : Int)).toNat 0 (bg2 N p 0 n) := by
      rw [begF_nn hc, if_neg (by decide), if_neg (by decide), if_pos rfl, hmny, hmnm, show bgo E F N p 0 n = ofr E F N p (E 6 (4 * p + 0)) 0 from by unfold bgo; rw [if_pos rfl]]
      exact bg_eqO (n := n) (as := n) hp (wri_far hp) (by rw [wriF_n (by omega)]; exact h33) (by rw [wriF_48]; omega) (by omega)
    rw [← e] at hR
    refine wp_goto (tgt := 167) dX1_begin_71 rfl ?_
    refine wp_aload_n dX1_begin_167 rfl ?_
    refine wp_getR (hN.rlm hp) dX1_begin_168 fX1_72 (hN.sl hp) ?_
    refine wp_callV (as := []) (ls0 := [_]) (kc := 0) (ks := 0) (bc' := 0) (bs' := 0) dX1_begin_171 vX1_106 (hN.sm hp) rfl rfl (Nat.le_of_ble_eq_true rfl) (Nat.le_of_ble_eq_true rfl) (by omega) (by omega) ?_
    refine t_cells (hN.lk hp).sM hR ?_
    refine wp_ireturn dX1_begin_174 rfl ?_
    first | exact k D O w rfl hR | exact k D O w g1 hR
  · have e := bg_eq0 (as := n) hc (mny_0 hid (Or.inr ⟨rfl, h56⟩)) (Or.inr rfl) (by rw [if_pos rfl]) h33
    rw [e] at k
    refine wp_if_eq (tgt := 74) dX1_begin_59 rfl (fun _ => ?_) (fun q => absurd q (by decide))
    refine wp_iload_n dX1_begin_74 rfl ?_
    refine wp_iconst dX1_begin_75 ?_
    refine wp_icmp_ne (tgt := 130) dX1_begin_76 rfl (fun _ => ?_) (fun q => absurd q (by decide))
    refine wp_iload_n dX1_begin_130 rfl ?_
    refine wp_iconst dX1_begin_131 ?_
    refine wp_icmp_ne (tgt := 167) dX1_begin_132 rfl (fun _ => ?_) (fun q => absurd q (by decide))
    refine wp_aload_n dX1_begin_167 rfl ?_
    refine wp_getR (hN.rlm hp) dX1_begin_168 fX1_72 (hN.sl hp) ?_
    refine wp_callV (as := []) (ls0 := [_]) (kc := 0) (ks := 0) (bc' := 0) (bs' := 0) dX1_begin_171 vX1_106 (hN.sm hp) rfl rfl (Nat.le_of_ble_eq_true rfl) (Nat.le_of_ble_eq_true rfl) (by omega) (by omega) ?_
    refine t_cells (hN.lk hp).sM hR ?_
    refine wp_ireturn dX1_begin_174 rfl ?_
    first | exact k D O w rfl hR | exact k D O w g1 hR
theorem e_begin2 {n : Int} (hN : NtA sh rv iv b) (hl : PlA sh rv iv E F) (hP : Prm E F) (hp : 0 ≤ p ∧ p < 6) (hpF : p < F 13) (hR : Rel w N) (hB : Bok (E 5 0) (E 5 1) N) (hfr : 0 ≤ N 368 ∧ N 368 ≤ 20000) (hn : 0 ≤ n ∧ n < 6) (h33 : N (61 * p + 33) = 0) (hn18 : n < N (61 * p + 18)) (hc : ¬ mny E F N p 2 n = -1) (k : ∀ (D' O' w' : Int → Int), D' 5 = D 5 → Rel w' (begF E F N p 2 n) → R (some (aI (begF E F N p 2 n (61 * p + 48)))) sh (uA (CD iv b D' O' T S K C) (12 + 42 * b) w') lw rv) : wp (d + 3) mX1_begin 0 [some (aR (38 + 43 * b)), some (aR (lid b p)), some (aI 2), some (aI n), none, none, none] [] sh (uA (CD iv b D O T S K C) (12 + 42 * b) w) lw rv 0 0 R := by
  obtain ⟨hW1, hW2, hO1, hO2, hT1, hT2, hI1, hI2, hF1, hF2⟩ := id hP
  have hid : N (61 * p + 28) = 0 ∧ N (61 * p + 43) = 0 := Classical.byContradiction (fun z => hc (mny_n z))
  have hcv : Vc (E 5 0) (E 5 1) (N (61 * p + (0 + n))) := by have := hB.cel hp (Or.inl rfl : (0 : Int) = 0 ∨ (0 : Int) = 1) (i := n) (by omega); rw [bq0] at this; exact this
  have hcv2 := hcv
  unfold Vc at hcv2
  refine wp_iload_n dX1_begin_0 rfl ?_
  refine wp_if_eq (tgt := 9) dX1_begin_1 rfl (fun q => absurd q (by decide)) (fun _ => ?_)
  refine wp_iload_n dX1_begin_4 rfl ?_
  refine wp_iconst dX1_begin_5 ?_
  refine wp_icmp_ne (tgt := 13) dX1_begin_6 rfl (fun _ => ?_) (fun q => absurd q (by decide))
  refine wp_iconst dX1_begin_13 ?_
  refine wp_istore (ls' := [_, _, _, _, _, _, _]) dX1_begin_14 (by decide) rfl rfl ?_
  refine wp_aload_n dX1_begin_16 rfl ?_
  refine wp_getR (hN.rlm hp) dX1_begin_17 fX1_72 (hN.sl hp) ?_
  refine wp_iconst dX1_begin_20 ?_
  refine wp_iload_n dX1_begin_21 rfl ?_
  refine wp_iconst dX1_begin_22 ?_
  refine wp_aload_n dX1_begin_23 rfl ?_
  refine wp_getR (hN.rls hp) dX1_begin_24 fX1_63 (hN.sl hp) ?_
  refine wp_callV (as := []) (ls0 := [_]) (kc := 0) (ks := 0) (bc' := 0) (bs' := 0) dX1_begin_27 vX1_76 (hN.ss hp) rfl rfl (Nat.le_of_ble_eq_true rfl) (Nat.le_of_ble_eq_true rfl) (by omega) (by omega) ?_
  refine c_seq (hN.lk hp).sS hR ?_
  refine wp_iload dX1_begin_30 rfl ?_
  refine wp_callV (as := [_, _, _, _, _]) (ls0 := [_, _, _, _, _, _]) (kc := 0) (ks := 0) (bc' := 0) (bs' := 0) dX1_begin_32 vX1_79 (hN.sm hp) rfl rfl (Nat.le_of_ble_eq_true rfl) (Nat.le_of_ble_eq_true rfl) (by omega) (by omega) ?_
  refine t_send (hN.lk hp).sM hR (by rw [if_pos rfl, show (26 : Int) + 0 = 26 from rfl]) (fun w hR => ?_)
  refine wp_aload_n dX1_begin_35 rfl ?_
  refine wp_getR (hN.rls hp) dX1_begin_36 fX1_63 (hN.sl hp) ?_
  refine wp_aload_n dX1_begin_39 rfl ?_
  refine wp_getR hN.r38n dX1_begin_40 fX1_20 hN.s38 ?_
  refine wp_callV (as := []) (ls0 := [_]) (kc := 0) (ks := 0) (bc' := 0) (bs' := 0) dX1_begin_43 vX1_83 hN.s11 rfl rfl (Nat.le_of_ble_eq_true rfl) (Nat.le_of_ble_eq_true rfl) (by omega) (by omega) ?_
  refine x_frame hN hR ?_
  rw [wri_far hp]
  refine wp_iload_n dX1_begin_46 rfl ?_
  refine wp_callV (as := [_, _]) (ls0 := [_, _, _]) (kc := 0) (ks := 0) (bc' := 0) (bs' := 0) dX1_begin_47 vX1_86 (hN.ss hp) rfl rfl (Nat.le_of_ble_eq_true rfl) (Nat.le_of_ble_eq_true rfl) (by omega) (by omega) ?_
  refine c_startWaiting0 (hN.lk hp).sS hR rfl (fun w hR => ?_)
  have hR : Rel w (bg2 N p 2 (-1)) := hR
  refine wp_iload_n dX1_begin_50 rfl ?_
  refine wp_if_ne (tgt := 74) dX1_begin_51 rfl (fun _ => ?_) (fun q => absurd q (by decide))
  refine wp_iload_n dX1_begin_74 rfl ?_
  refine wp_iconst dX1_begin_75 ?_
  refine wp_icmp_ne (tgt := 130) dX1_begin_76 rfl (fun _ => ?_) (fun q => absurd q (by decide))
  refine wp_iload_n dX1_begin_130 rfl ?_
  refine wp_iconst dX1_begin_131 ?_
  refine wp_icmp_ne (tgt := 167) dX1_begin_132 rfl (fun q => absurd q (by decide)) (fun _ => ?_)
  refine wp_aload_n dX1_begin_135 rfl ?_
  refine wp_getR (hN.rls hp) dX1_begin_136 fX1_63 (hN.sl hp) ?_
  refine wp_iload_n dX1_begin_139 rfl ?_
  refine wp_callV (as := [_]) (ls0 := [_, _]) (kc := 0) (ks := 0) (bc' := 0) (bs' := 0) dX1_begin_140 vX1_99 (hN.ss hp) rfl rfl (Nat.le_of_ble_eq_true rfl) (Nat.le_of_ble_eq_true rfl) (by omega) (by omega) ?_
  refine c_numberAt (hN.lk hp).sS hR (bg2_bok hB hp hfr (by omega) (by omega)) ?_
  rw [mq0, bq0, bg2_k (by omega) (by omega), bg2_k (by omega) (by omega), if_pos (by omega)]
  refine wp_istore (ls' := [_, _, _, _, _, _, _]) dX1_begin_143 (by decide) rfl rfl ?_
  refine wp_aload_n dX1_begin_145 rfl ?_
  refine wp_getR (hN.rlm hp) dX1_begin_146 fX1_72 (hN.sl hp) ?_
  refine wp_iload dX1_begin_149 rfl ?_
  refine wp_callV (as := [_]) (ls0 := [_, _, _]) (kc := 0) (ks := 0) (bc' := 0) (bs' := 0) dX1_begin_151 vX1_102 (hN.sm hp) rfl rfl (Nat.le_of_ble_eq_true rfl) (Nat.le_of_ble_eq_true rfl) (by omega) (by omega) ?_
  refine t_enclose (hN.lk hp).sM hR (by rw [bg2_48]; omega) (fun w hR => ?_)
  refine wp_aload_n dX1_begin_154 rfl ?_
  refine wp_aload_n dX1_begin_155 rfl ?_
  refine wp_iload dX1_begin_156 rfl ?_
  refine wp_bipush dX1_begin_158 ?_
  refine wp_idiv dX1_begin_160 (by omega) (by omega) ?_
  refine wp_iconst dX1_begin_161 ?_
  refine wp_iadd dX1_begin_162 ⟨by omega, by omega⟩ ?_
  refine wp_iconst dX1_begin_163 ?_
  refine wp_callV (as := [_, _, _]) (ls0 := [_, _, _, _]) (kc := 0) (ks := 0) (bc' := 0) (bs' := 0) dX1_begin_164 vX1_90 hN.s38 rfl rfl (Nat.le_of_ble_eq_true rfl) (Nat.le_of_ble_eq_true rfl) (by omega) (by omega) ?_
  refine e_promiseFreeSlots hN hl hP hp hpF hR ((bg2_bok hB hp hfr (by omega) (by omega)).bencF (by rw [bg2_48]; omega) hcv) (by omega) (by omega) (by rw [encF_k (by rw [bg2_48]; omega) (by omega), bg2_k (by omega) (by omega)]; exact h33) (by rw [encF_48, bg2_48]; omega) (fun D O w g1 hR => ?_)
  rw [ofr_cg (fun s => (Tkn_enc (bg2_bok hB hp hfr (by omega) (by omega)) hF2 hp).trans (bg2_tkn hB hF2 hp)), ← ofr_mod] at hR
  have hmny := mny_p (iv := E) (F := F) (n := n) hid (by omega) (fun z => hc (mny_z hid (by omega) z))
  have hbgo : bgo E F N p 2 n = ofr E F N p (E 6 (4 * p + 0)) ((N (61 * p + (0 + n)) / 10 + 1) % E 5 0) := by unfold bgo; rw [if_neg (by decide)]
  have hmnm : mnm E F N p 2 n = mnI 2 ((ofr E F N p (E 6 (4 * p + 0)) ((N (61 * p + (0 + n)) / 10 + 1) % E 5 0)).length : Int) := by
    unfold mnm; rw [if_neg (by decide), if_neg (by decide), hbgo]
  have hmr := mnI_r (x := 2) (y := ((ofr E F N p (E 6 (4 * p + 0)) ((N (61 * p + (0 + n)) / 10 + 1) % E 5 0)).length : Int)) (by omega) (Int.natCast_nonneg _)
  have e : begF E F N p 2 n = cofL p 0 (Lf (ofr E F N p (E 6 (4 * p + 0)) ((N (61 * p + (0 + n)) / 10 + 1) % E 5 0))) (mnI 2 ((ofr E F N p (E 6 (4 * p + 0)) ((N (61 * p + (0 + n)) / 10 + 1) % E 5 0)).length : Int)).toNat 0 (encF (bg2 N p 2 (-1)) p (N (61 * p + (0 + n)))) := by
    rw [begF_nn hc, if_neg (by decide), if_pos rfl, hmny, hmnm, hbgo, bg_eqO (N := N) (n := n) (as := n) hp (by unfold encF; rw [up_n (by omega), wriF_48, up_n (by omega), wri_far hp]) (by rw [encF_k (by rw [wriF_48]; omega) (by omega), wriF_n (by omega)]; exact h33) (by rw [encF_48, wriF_48]; omega) (by omega)]
    unfold bg2
    rw [encF_up (by omega) (by rw [up_n (by omega), up_n (by omega), wriF_48]; omega), encF_up (by omega) (by rw [up_n (by omega), wriF_48]; omega), encF_up (by omega) (by rw [wriF_48]; omega)]
  rw [← e] at hR
  refine wp_aload_n dX1_begin_167 rfl ?_
  refine wp_getR (hN.rlm hp) dX1_begin_168 fX1_72 (hN.sl hp) ?_
  refine wp_callV (as := []) (ls0 := [_]) (kc := 0) (ks := 0) (bc' := 0) (bs' := 0) dX1_begin_171 vX1_106 (hN.sm hp) rfl rfl (Nat.le_of_ble_eq_true rfl) (Nat.le_of_ble_eq_true rfl) (by omega) (by omega) ?_
  refine t_cells (hN.lk hp).sM hR ?_
  refine wp_ireturn dX1_begin_174 rfl ?_
  exact k D O w g1 hR
theorem l_begin1 {n s as : Int} (hN : NtA sh rv iv b) (hp : 0 ≤ p ∧ p < 6) (hP : Prm E F) (hs : 0 ≤ s ∧ s ≤ 6) (m : Nat) : ∀ (j : Int) (w N : Int → Int), 0 ≤ j → j + m = s → N (61 * p + 18) = s → 0 ≤ N (61 * p + 48) → N (61 * p + 48) + m ≤ 4 → Bok (E 5 0) (E 5 1) N → Rel w N → (∀ w' : Int → Int, Rel w' (delL p m j N) → R (some (aI (delL p m j N (61 * p + 48)))) sh (uA (CD iv b D O T S K C) (12 + 42 * b) w') lw rv) → wp (d + 3) mX1_begin 98 [some (aR (38 + 43 * b)), some (aR (lid b p)), some (aI 1), some (aI n), some (aI as), some (aI s), some (aI j)] [] sh (uA (CD iv b D O T S K C) (12 + 42 * b) w) lw rv 0 0 R := by
  induction m with
  | zero =>
    intro j w N h0 hm h18 h48 h48b hB hR k
    refine wp_iload dX1_begin_98 rfl ?_
    refine wp_iload dX1_begin_100 rfl ?_
    refine wp_icmp_ge (tgt := 127) dX1_begin_102 rfl (fun h102 => ?_) (fun h102 => by exfalso; omega)
    refine wp_goto (tgt := 167) dX1_begin_127 rfl ?_
    refine wp_aload_n dX1_begin_167 rfl ?_
    refine wp_getR (hN.rlm hp) dX1_begin_168 fX1_72 (hN.sl hp) ?_
    refine wp_callV (as := []) (ls0 := [_]) (kc := 0) (ks := 0) (bc' := 0) (bs' := 0) dX1_begin_171 vX1_106 (hN.sm hp) rfl rfl (Nat.le_of_ble_eq_true rfl) (Nat.le_of_ble_eq_true rfl) (by omega) (by omega) ?_
    refine t_cells (hN.lk hp).sM hR ?_
    refine wp_ireturn dX1_begin_174 rfl ?_
    exact k w hR
  | succ m ih =>
    intro j w N h0 hm h18 h48 h48b hB hR k
    have hcv : Vc (E 5 0) (E 5 1) (N (61 * p + (0 + j))) := by have := hB.cel hp (Or.inl rfl : (0 : Int) = 0 ∨ (0 : Int) = 1) (i := j) (by omega); rw [bq0] at this; exact this
    refine wp_iload dX1_begin_98 rfl ?_
    refine wp_iload dX1_begin_100 rfl ?_
    refine wp_icmp_ge (tgt := 127) dX1_begin_102 rfl (fun h102 => by exfalso; omega) (fun h102 => ?_)
    refine wp_aload_n dX1_begin_105 rfl ?_
    refine wp_getR (hN.rlm hp) dX1_begin_106 fX1_72 (hN.sl hp) ?_
    refine wp_aload_n dX1_begin_109 rfl ?_
    refine wp_getR (hN.rls hp) dX1_begin_110 fX1_63 (hN.sl hp) ?_
    refine wp_iload dX1_begin_113 rfl ?_
    refine wp_callV (as := [_]) (ls0 := [_, _]) (kc := 0) (ks := 0) (bc' := 0) (bs' := 0) dX1_begin_115 vX1_99 (hN.ss hp) rfl rfl (Nat.le_of_ble_eq_true rfl) (Nat.le_of_ble_eq_true rfl) (by omega) (by omega) ?_
    refine c_numberAt (hN.lk hp).sS hR hB ?_
    rw [mq0, bq0, if_pos (by omega)]
    refine wp_callV (as := [_]) (ls0 := [_, _, _]) (kc := 0) (ks := 0) (bc' := 0) (bs' := 0) dX1_begin_118 vX1_102 (hN.sm hp) rfl rfl (Nat.le_of_ble_eq_true rfl) (Nat.le_of_ble_eq_true rfl) (by omega) (by omega) ?_
    refine t_enclose (hN.lk hp).sM hR (by omega) (fun w hR => ?_)
    refine wp_iinc (ls' := [_, _, _, _, _, _, _]) dX1_begin_121 (by decide) rfl rfl ⟨by omega, by omega⟩ rfl ?_
    refine wp_goto (tgt := 98) dX1_begin_124 rfl ?_
    exact ih _ _ _ (by omega) (by omega) (by rw [encF_k h48 (by omega)]; exact h18) (by rw [encF_48]; omega) (by rw [encF_48]; omega) (hB.bencF (by omega) hcv) hR k
theorem e_begin1 {n : Int} (hN : NtA sh rv iv b) (hl : PlA sh rv iv E F) (hP : Prm E F) (hp : 0 ≤ p ∧ p < 6) (hpF : p < F 13) (hR : Rel w N) (hB : Bok (E 5 0) (E 5 1) N) (hfr : 0 ≤ N 368 ∧ N 368 ≤ 20000) (hn : 0 ≤ n ∧ n < 6) (h33 : N (61 * p + 33) = 0) (hn3 : 1 ≤ n ∧ n ≤ 3) (hc : ¬ mny E F N p 1 n = -1) (k : ∀ (D' O' w' : Int → Int), D' 5 = D 5 → Rel w' (begF E F N p 1 n) → R (some (aI (begF E F N p 1 n (61 * p + 48)))) sh (uA (CD iv b D' O' T S K C) (12 + 42 * b) w') lw rv) : wp (d + 3) mX1_begin 0 [some (aR (38 + 43 * b)), some (aR (lid b p)), some (aI 1), some (aI n), none, none, none] [] sh (uA (CD iv b D O T S K C) (12 + 42 * b) w) lw rv 0 0 R := by
  obtain ⟨hW1, hW2, hO1, hO2, hT1, hT2, hI1, hI2, hF1, hF2⟩ := id hP
  have hid : N (61 * p + 28) = 0 ∧ N (61 * p + 43) = 0 := Classical.byContradiction (fun z => hc (mny_n z))
  have h18 := hB.v18 hp
  have hmny := mny_p (iv := E) (F := F) (n := n) hid (by omega) (fun z => hc (mny_z hid (by omega) z))
  have hmnm : mnm E F N p 1 n = mnI n (N (61 * p + 18)) := by unfold mnm; rw [if_pos rfl]
  have hmr := mnI_r (x := n) (y := N (61 * p + 18)) (by omega) h18.1
  have hmm : mnI n (N (61 * p + 18)) = N (61 * p + 18) - (if 0 < N (61 * p + 18) - n then N (61 * p + 18) - n else 0) := by unfold mnI; split <;> split <;> omega
  have e : begF E F N p 1 n = delL p (mnI n (N (61 * p + 18))).toNat (N (61 * p + 18) - mnI n (N (61 * p + 18))) (bg2 N p 1 n) := by
    rw [begF_nn hc, if_pos rfl, hmny, hmnm, waiF_w]
    unfold bg2
    have h48 : wriF N p 0 1 (-1) n (61 * p + 48) = 0 := wriF_48
    rw [delL_up (by omega) _ _ _ (by omega) (by omega) (by rw [up_n (by omega), up_n (by omega), h48]; omega), delL_up (by omega) _ _ _ (by omega) (by omega) (by rw [up_n (by omega), h48]; omega), delL_up (by omega) _ _ _ (by omega) (by omega) (by rw [h48]; omega)]
    have hfar : delL p (mnI n (N (61 * p + 18))).toNat (N (61 * p + 18) - mnI n (N (61 * p + 18))) (wriF N p 0 1 (-1) n) 368 = N 368 := by
      have hl : Loc p (wriF N p 0 1 (-1) n) (delL p (mnI n (N (61 * p + 18))).toNat (N (61 * p + 18) - mnI n (N (61 * p + 18))) (wriF N p 0 1 (-1) n)) := Loc.ldelL _ _ _ (by omega) (by omega) Loc.rf
      rw [hl 368 (by omega), wri_far hp]
    rw [hfar]
  rw [e] at k
  refine wp_iload_n dX1_begin_0 rfl ?_
  refine wp_if_eq (tgt := 9) dX1_begin_1 rfl (fun q => absurd q (by decide)) (fun _ => ?_)
  refine wp_iload_n dX1_begin_4 rfl ?_
  refine wp_iconst dX1_begin_5 ?_
  refine wp_icmp_ne (tgt := 13) dX1_begin_6 rfl (fun q => absurd q (by decide)) (fun _ => ?_)
  refine wp_iload_n dX1_begin_9 rfl ?_
  refine wp_goto (tgt := 14) dX1_begin_10 rfl ?_
  refine wp_istore (ls' := [_, _, _, _, _, _, _]) dX1_begin_14 (by decide) rfl rfl ?_
  refine wp_aload_n dX1_begin_16 rfl ?_
  refine wp_getR (hN.rlm hp) dX1_begin_17 fX1_72 (hN.sl hp) ?_
  refine wp_iconst dX1_begin_20 ?_
  refine wp_iload_n dX1_begin_21 rfl ?_
  refine wp_iconst dX1_begin_22 ?_
  refine wp_aload_n dX1_begin_23 rfl ?_
  refine wp_getR (hN.rls hp) dX1_begin_24 fX1_63 (hN.sl hp) ?_
  refine wp_callV (as := []) (ls0 := [_]) (kc := 0) (ks := 0) (bc' := 0) (bs' := 0) dX1_begin_27 vX1_76 (hN.ss hp) rfl rfl (Nat.le_of_ble_eq_true rfl) (Nat.le_of_ble_eq_true rfl) (by omega) (by omega) ?_
  refine c_seq (hN.lk hp).sS hR ?_
  refine wp_iload dX1_begin_30 rfl ?_
  refine wp_callV (as := [_, _, _, _, _]) (ls0 := [_, _, _, _, _, _]) (kc := 0) (ks := 0) (bc' := 0) (bs' := 0) dX1_begin_32 vX1_79 (hN.sm hp) rfl rfl (Nat.le_of_ble_eq_true rfl) (Nat.le_of_ble_eq_true rfl) (by omega) (by omega) ?_
  refine t_send (hN.lk hp).sM hR (by rw [if_pos rfl, show (26 : Int) + 0 = 26 from rfl]) (fun w hR => ?_)
  refine wp_aload_n dX1_begin_35 rfl ?_
  refine wp_getR (hN.rls hp) dX1_begin_36 fX1_63 (hN.sl hp) ?_
  refine wp_aload_n dX1_begin_39 rfl ?_
  refine wp_getR hN.r38n dX1_begin_40 fX1_20 hN.s38 ?_
  refine wp_callV (as := []) (ls0 := [_]) (kc := 0) (ks := 0) (bc' := 0) (bs' := 0) dX1_begin_43 vX1_83 hN.s11 rfl rfl (Nat.le_of_ble_eq_true rfl) (Nat.le_of_ble_eq_true rfl) (by omega) (by omega) ?_
  refine x_frame hN hR ?_
  rw [wri_far hp]
  refine wp_iload_n dX1_begin_46 rfl ?_
  refine wp_callV (as := [_, _]) (ls0 := [_, _, _]) (kc := 0) (ks := 0) (bc' := 0) (bs' := 0) dX1_begin_47 vX1_86 (hN.ss hp) rfl rfl (Nat.le_of_ble_eq_true rfl) (Nat.le_of_ble_eq_true rfl) (by omega) (by omega) ?_
  refine c_startWaiting0 (hN.lk hp).sS hR rfl (fun w hR => ?_)
  have hR : Rel w (bg2 N p 1 n) := hR
  refine wp_iload_n dX1_begin_50 rfl ?_
  refine wp_if_ne (tgt := 74) dX1_begin_51 rfl (fun _ => ?_) (fun q => absurd q (by decide))
  refine wp_iload_n dX1_begin_74 rfl ?_
  refine wp_iconst dX1_begin_75 ?_
  refine wp_icmp_ne (tgt := 130) dX1_begin_76 rfl (fun q => absurd q (by decide)) (fun _ => ?_)
  refine wp_aload_n dX1_begin_79 rfl ?_
  refine wp_getR (hN.rls hp) dX1_begin_80 fX1_63 (hN.sl hp) ?_
  refine wp_callV (as := []) (ls0 := [_]) (kc := 0) (ks := 0) (bc' := 0) (bs' := 0) dX1_begin_83 vX1_67 (hN.ss hp) rfl rfl (Nat.le_of_ble_eq_true rfl) (Nat.le_of_ble_eq_true rfl) (by omega) (by omega) ?_
  refine c_size (hN.lk hp).sS hR ?_
  rw [mq0, bg2_k (by omega) (by omega)]
  refine wp_istore (ls' := [_, _, _, _, _, _, _]) dX1_begin_86 (by decide) rfl rfl ?_
  refine wp_iconst dX1_begin_88 ?_
  refine wp_iload dX1_begin_89 rfl ?_
  refine wp_iload_n dX1_begin_91 rfl ?_
  refine wp_isub dX1_begin_92 ⟨by omega, by omega⟩ ?_
  refine wp_mmax dX1_begin_93 (by omega) (Nat.le_of_ble_eq_true rfl) nX1_94 q_max ?_
  refine wp_istore (ls' := [_, _, _, _, _, _, _]) dX1_begin_96 (by decide) rfl rfl ?_
  refine l_begin1 hN hp hP h18 (mnI n (N (61 * p + 18))).toNat _ _ _ (by split <;> omega) (by split <;> omega) (by rw [bg2_k (by omega) (by omega)]) (by rw [bg2_48]; omega) (by rw [bg2_48]; omega) (bg2_bok hB hp hfr (by omega) (by omega)) hR (fun w hR => ?_)
  rw [show (if 0 < N (61 * p + 18) - n then N (61 * p + 18) - n else 0) = N (61 * p + 18) - mnI n (N (61 * p + 18)) by omega] at hR ⊢
  exact k D O w rfl hR
end C9
