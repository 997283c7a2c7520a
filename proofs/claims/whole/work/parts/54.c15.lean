/-- an ADD's letter has cells of slots that differ -/
def Dl (N : Int → Int) (p : Int) : Prop := ∀ y z : Int, 0 ≤ y → y < z → z < N (61 * p + 48) → ¬ N (61 * p + (50 + y)) / 10 = N (61 * p + (50 + z)) / 10
def Dst (N : Int → Int) (p : Int) : Prop := N (61 * p + 43) = 1 → N (61 * p + 45) = 0 → Dl N p
def RR (N : Int → Int) (p : Int) : Prop := Ris N p 0 ∧ Ris N p 1
def Pmz (N : Int → Int) (p : Int) : Prop := N (61 * p + 28) = 0 → N (61 * p + 33) = 0
def PI (N : Int → Int) (p : Int) : Prop := LetOK N p ∧ RR N p ∧ Dst N p ∧ Pmz N p
/-- both tables are kept -/
def Kp (p : Int) (N N' : Int → Int) : Prop := ∀ k : Int, 0 ≤ k → k < 26 → N' (61 * p + k) = N (61 * p + k)
section C15a
variable {N N1 N2 T f pa : Int → Int} {E : aF} {F : Int → Int} {p q c k v W Of np : Int}
theorem Kp.rf : Kp p N N := fun _ _ _ => rfl
theorem Kp.tr (h : Kp p N N1) (h2 : Kp p N1 N2) : Kp p N N2 := fun k a b => (h2 k a b).trans (h k a b)
theorem Kp.u (h : Kp p N N1) (hk : 26 ≤ k) : Kp p N (up N1 (61 * p + k) v) := fun j a b => by rw [up_n (by omega)]; exact h j a b
theorem Kp.wri {so ki re as : Int} (h : Kp p N N1) : Kp p N (wriF N1 p so ki re as) := ((((((h.u (by omega)).u (by omega)).u (by omega)).u (by omega)).u (by omega)).u (by omega)).u (by omega)
theorem Kp.enc (h : Kp p N N1) (h0 : 0 ≤ N1 (61 * p + 48)) : Kp p N (encF N1 p c) := (h.u (by omega)).u (by omega)
theorem Kp.encl (m : Nat) : ∀ (i : Int) (N1 : Int → Int), 0 ≤ N1 (61 * p + 48) → Kp p N N1 → Kp p N (encL p f m i N1) := by
  induction m with
  | zero => intro i N1 _ h; exact h
  | succ m ih => intro i N1 h0 h; exact ih _ _ (by rw [encF_48]; omega) (h.enc h0)
theorem Kp.dell (m : Nat) : ∀ (i : Int) (N1 : Int → Int), 0 ≤ N1 (61 * p + 48) → Kp p N N1 → Kp p N (delL p m i N1) := by
  induction m with
  | zero => intro i N1 _ h; exact h
  | succ m ih => intro i N1 h0 h; exact ih _ _ (by rw [encF_48]; omega) (h.enc h0)
theorem Kp.prml (hq : q = 0 ∨ q = 1) (m : Nat) : ∀ (i : Int) (N1 : Int → Int), 0 ≤ i → Kp p N N1 → Kp p N (prmL p q f m i N1) := by
  induction m with
  | zero => intro i N1 _ h; exact h
  | succ m ih => intro i N1 h0 h; exact ih _ _ (by omega) (h.u (by omega))
theorem Kp.prm {n : Int} (hq : q = 0 ∨ q = 1) (h : Kp p N N1) : Kp p N (prmF N1 p q n f) := Kp.prml hq _ _ _ (by omega) (h.u (by omega))
theorem Kp.wai (hq : q = 0 ∨ q = 1) (h : Kp p N N1) : Kp p N (waiF N1 p q) := (h.u (by omega)).u (by omega)
theorem Kp.sto (hq : q = 0 ∨ q = 1) (h : Kp p N N1) : Kp p N (stoF N1 p q) := (h.u (by omega)).u (by omega)
theorem Kp.stp (hq : q = 0 ∨ q = 1) (h : Kp p N N1) : Kp p N (stpF N1 p q) := h.u (by omega)
theorem Kp.ans (h : Kp p N N1) : Kp p N (ansF N1 p) := by
  unfold ansF; split
  · exact h.u (by omega)
  · exact (h.u (by omega)).stp (Or.inr rfl)
theorem own_r (h : own q k) : 0 ≤ k ∧ k < 26 := by unfold own at h; omega
theorem RR.cg (h : RR N p) (hB : Bok W Of N) (hp : 0 ≤ p ∧ p < 6) (hk : Kp p N N1) : RR N1 p :=
  ⟨h.1.cg (hB.mny hp (Or.inl rfl)).2 (by rw [mq0]; exact hk _ (by omega) (by omega)) (fun j a b => by rw [bq0]; exact hk _ (by omega) (by omega)),
   h.2.cg (hB.mny hp (Or.inr rfl)).2 (by rw [mq1]; exact hk _ (by omega) (by omega)) (fun j a b => by rw [bq1]; exact hk _ (by omega) (by omega))⟩
theorem RR.ins (h : RR N p) (hB : Bok W Of N) (hp : 0 ≤ p ∧ p < 6) (hq : q = 0 ∨ q = 1) : RR (insF N p q c) p := by
  have m0 := hB.mny hp (Or.inl rfl)
  have m1 := hB.mny hp (Or.inr rfl)
  rcases hq with rfl | rfl
  · exact ⟨h.1.ins (Or.inl rfl) m0, h.2.cg m1.2 (by rw [mq1]; exact insF_o (Or.inl rfl) m0 (by unfold own; omega)) (fun j a b => by rw [bq1]; exact insF_o (Or.inl rfl) m0 (by unfold own; omega))⟩
  · exact ⟨h.1.cg m0.2 (by rw [mq0]; exact insF_o (Or.inr rfl) m1 (by unfold own; omega)) (fun j a b => by rw [bq0]; exact insF_o (Or.inr rfl) m1 (by unfold own; omega)), h.2.ins (Or.inr rfl) m1⟩
theorem RR.rem (h : RR N p) (hB : Bok W Of N) (hp : 0 ≤ p ∧ p < 6) (hq : q = 0 ∨ q = 1) : RR (remF N p q c) p := by
  have m0 := hB.mny hp (Or.inl rfl)
  have m1 := hB.mny hp (Or.inr rfl)
  rcases hq with rfl | rfl
  · exact ⟨h.1.rem (Or.inl rfl) m0, h.2.cg m1.2 (by rw [mq1]; exact remF_o (Or.inl rfl) m0 (by unfold own; omega)) (fun j a b => by rw [bq1]; exact remF_o (Or.inl rfl) m0 (by unfold own; omega))⟩
  · exact ⟨h.1.cg m0.2 (by rw [mq0]; exact remF_o (Or.inr rfl) m1 (by unfold own; omega)) (fun j a b => by rw [bq0]; exact remF_o (Or.inr rfl) m1 (by unfold own; omega)), h.2.rem (Or.inr rfl) m1⟩
theorem clrF_n (hq : q = 0 ∨ q = 1) (h : ¬ k = mq q) (h2 : ¬ k = 26 + q) : clrF N p q (61 * p + k) = N (61 * p + k) := by unfold clrF; rw [up_n (by omega), up_n (by omega)]
theorem clrF_m (hq : q = 0 ∨ q = 1) : clrF N p q (61 * p + mq q) = 0 := by have := mq_r hq; unfold clrF; rw [up_n (by omega), up_s]
theorem RR.clr (h : RR N p) (hB : Bok W Of N) (hp : 0 ≤ p ∧ p < 6) (hq : q = 0 ∨ q = 1) : RR (clrF N p q) p := by
  have m0 := hB.mny hp (Or.inl rfl)
  have m1 := hB.mny hp (Or.inr rfl)
  rcases hq with rfl | rfl
  · exact ⟨Ris.zero (clrF_m (Or.inl rfl)), h.2.cg m1.2 (clrF_n (Or.inl rfl) (by rw [mq0, mq1]; omega) (by rw [mq1]; omega)) (fun j a b => clrF_n (Or.inl rfl) (by rw [mq0, bq1]; omega) (by rw [bq1]; omega))⟩
  · exact ⟨h.1.cg m0.2 (clrF_n (Or.inr rfl) (by rw [mq0, mq1]; omega) (by rw [mq0]; omega)) (fun j a b => clrF_n (Or.inr rfl) (by rw [mq1, bq0]; omega) (by rw [bq0]; omega)), Ris.zero (clrF_m (Or.inr rfl))⟩
theorem RR.insa (hp : 0 ≤ p ∧ p < 6) (hq : q = 0 ∨ q = 1) (m : Nat) : ∀ (i : Int) (N : Int → Int), (∀ j : Int, i ≤ j → j < i + m → Vc W Of (T j)) → Bok W Of N → RR N p → RR (insA p q T m i N) p := by
  induction m with
  | zero => intro i N _ _ h; exact h
  | succ m ih => intro i N hV hB h; exact ih _ _ (fun j a b => hV j (by omega) (by omega)) (hB.binsF hp hq (hV i (by omega) (by omega))) (h.ins hB hp hq)
theorem RR.rema (hp : 0 ≤ p ∧ p < 6) (hq : q = 0 ∨ q = 1) (m : Nat) : ∀ (i : Int) (N : Int → Int), Bok W Of N → RR N p → RR (remA p q T m i N) p := by
  induction m with
  | zero => intro i N _ h; exact h
  | succ m ih => intro i N hB h; exact ih _ _ (hB.bremF hp hq) (h.rem hB hp hq)
theorem ins48 (hB : Bok W Of N) (hp : 0 ≤ p ∧ p < 6) (hq : q = 0 ∨ q = 1) (hk : 26 ≤ k) : insF N p q c (61 * p + k) = N (61 * p + k) := insF_o hq (hB.mny hp hq) (by unfold own; omega)
theorem rem48 (hB : Bok W Of N) (hp : 0 ≤ p ∧ p < 6) (hq : q = 0 ∨ q = 1) (hk : 26 ≤ k) : remF N p q c (61 * p + k) = N (61 * p + k) := remF_o hq (hB.mny hp hq) (by unfold own; omega)
theorem insA_k (hp : 0 ≤ p ∧ p < 6) (hq : q = 0 ∨ q = 1) (hk : 26 ≤ k) (m : Nat) : ∀ (i : Int) (N : Int → Int), (∀ j : Int, i ≤ j → j < i + m → Vc W Of (T j)) → Bok W Of N → insA p q T m i N (61 * p + k) = N (61 * p + k) := by
  induction m with
  | zero => intro i N _ _; rfl
  | succ m ih => intro i N hV hB; rw [insA, ih _ _ (fun j a b => hV j (by omega) (by omega)) (hB.binsF hp hq (hV i (by omega) (by omega))), ins48 hB hp hq hk]
theorem remA_k (hp : 0 ≤ p ∧ p < 6) (hq : q = 0 ∨ q = 1) (hk : 26 ≤ k) (m : Nat) : ∀ (i : Int) (N : Int → Int), Bok W Of N → remA p q T m i N (61 * p + k) = N (61 * p + k) := by
  induction m with
  | zero => intro i N _; rfl
  | succ m ih => intro i N hB; rw [remA, ih _ _ (hB.bremF hp hq), rem48 hB hp hq hk]
theorem RR.tki {most : Int} (hp : 0 ≤ p ∧ p < 6) (hq : q = 0 ∨ q = 1) (m : Nat) : ∀ (i n : Int) (N : Int → Int), (∀ j : Int, i ≤ j → j < i + m → Vc W Of (T j)) → N (61 * p + 48) + m ≤ 4 → Bok W Of N → RR N p → RR (tkI pa T np p q most m i n N) p := by
  induction m with
  | zero => intro i n N _ _ _ h; exact h
  | succ m ih =>
    intro i n N hV h4 hB h
    have e48 := ins48 (k := 48) (c := T i) hB hp hq (by omega)
    have m48 := hB.v48 hp
    by_cases c1 : most ≤ n ∨ 6 ≤ N (61 * p + mq q)
    · rw [tkI_e c1]; exact h
    · by_cases c2 : Tkn N pa np (pa (4 * p + q)) (T i / 10)
      · rw [tkI_t c1 c2]; exact ih _ _ _ (fun j a b => hV j (by omega) (by omega)) (by omega) hB h
      · rw [tkI_f c1 c2]
        have hBi := hB.binsF hp hq (hV i (by omega) (by omega))
        exact ih _ _ _ (fun j a b => hV j (by omega) (by omega)) (by rw [encF_48, e48]; omega) (hBi.bencF (by omega) (hV i (by omega) (by omega))) ((h.ins hB hp hq).cg hBi hp (Kp.rf.enc (by omega)))
theorem RR.dlq (hp : 0 ≤ p ∧ p < 6) (m : Nat) : ∀ (i : Int) (N : Int → Int), (∀ j : Int, i ≤ j → j < i + m → Vc W Of (T j)) → N (61 * p + 48) + m ≤ 4 → Bok W Of N → RR N p → RR (dlQ p T m i N) p := by
  induction m with
  | zero => intro i N _ _ _ h; exact h
  | succ m ih =>
    intro i N hV h4 hB h
    have e48 := rem48 (k := 48) (c := T i) (q := 1) hB hp (Or.inr rfl) (by omega)
    have m48 := hB.v48 hp
    rw [dlQ]
    split
    · exact ih _ _ (fun j a b => hV j (by omega) (by omega)) (by omega) hB h
    · have hBi := hB.bremF (c := T i) hp (Or.inr rfl)
      exact ih _ _ (fun j a b => hV j (by omega) (by omega)) (by rw [encF_48, e48]; omega) (hBi.bencF (by omega) (hV i (by omega) (by omega))) ((h.rem hB hp (Or.inr rfl)).cg hBi hp (Kp.rf.enc (by omega)))
theorem mvI_q {nd : Int} (m : Nat) : ∀ i : Int, i ≤ mvI pa T N np nd m i ∧ mvI pa T N np nd m i ≤ i + m := by
  induction m with
  | zero => intro i; rw [mvI]; omega
  | succ m ih => intro i; rw [mvI]; have := ih (i + 1); split <;> omega
theorem RR.mvf {tm : Int} (h : RR N p) (hB : Bok W Of N) (hp : 0 ≤ p ∧ p < 6) (h48 : N (61 * p + 48) = 0) (hV : ∀ j : Int, 0 ≤ j → j < tm → Vc W Of (T j)) : RR (mvF pa T N np p tm) p := by
  unfold mvF
  have hm := mvI_q (pa := pa) (T := T) (N := N) (np := np) (nd := pa (4 * p + 1)) (tm - 1).toNat 1
  split
  · rename_i hh
    have hB1 := hB.bremF (c := T 0) hp (Or.inr rfl)
    have hB2 := hB1.binsF (c := T (mvI pa T N np (pa (4 * p + 1)) (tm - 1).toNat 1)) hp (Or.inr rfl) (hV _ (by omega) (by omega))
    have e1 := rem48 (k := 48) (c := T 0) (q := 1) hB hp (Or.inr rfl) (by omega)
    have e2 := ins48 (k := 48) (c := T (mvI pa T N np (pa (4 * p + 1)) (tm - 1).toNat 1)) (q := 1) hB1 hp (Or.inr rfl) (by omega)
    exact ((h.rem hB hp (Or.inr rfl)).ins hB1 hp (Or.inr rfl)).cg hB2 hp ((Kp.rf.enc (by omega)).enc (by rw [encF_48]; omega))
  · exact h
theorem mvF_48 {tm : Int} (hB : Bok W Of N) (hp : 0 ≤ p ∧ p < 6) (h48 : N (61 * p + 48) = 0) (hV : ∀ j : Int, 0 ≤ j → j < tm → Vc W Of (T j)) : mvF pa T N np p tm (61 * p + 48) = 0 ∨ mvF pa T N np p tm (61 * p + 48) = 2 := by
  unfold mvF
  have hm := mvI_q (pa := pa) (T := T) (N := N) (np := np) (nd := pa (4 * p + 1)) (tm - 1).toNat 1
  split
  · rename_i hh
    have hB1 := hB.bremF (c := T 0) hp (Or.inr rfl)
    have e1 := rem48 (k := 48) (c := T 0) (q := 1) hB hp (Or.inr rfl) (by omega)
    have e2 := ins48 (k := 48) (c := T (mvI pa T N np (pa (4 * p + 1)) (tm - 1).toNat 1)) (q := 1) hB1 hp (Or.inr rfl) (by omega)
    right; rw [encF_48, encF_48, e2, e1, h48]; decide
  · left; exact h48
theorem Dl.z (h : N (61 * p + 48) = 0) : Dl N p := fun y z a b e => by omega
theorem Dl.cg (h : Dl N p) (e48 : N1 (61 * p + 48) = N (61 * p + 48)) (e : ∀ y : Int, 0 ≤ y → y < N (61 * p + 48) → N1 (61 * p + (50 + y)) = N (61 * p + (50 + y))) : Dl N1 p := fun y z a b g => by
  rw [e48] at g; rw [e y a (by omega), e z (by omega) g]; exact h y z a b g
theorem Dl.enc (h : Dl N p) (h0 : 0 ≤ N (61 * p + 48)) (hc : ∀ y : Int, 0 ≤ y → y < N (61 * p + 48) → ¬ N (61 * p + (50 + y)) / 10 = c / 10) : Dl (encF N p c) p := fun y z a b g => by
  rw [encF_48] at g
  have ey : ∀ y : Int, 0 ≤ y → y < N (61 * p + 48) → encF N p c (61 * p + (50 + y)) = N (61 * p + (50 + y)) := fun y a b => by unfold encF; rw [up_n (by omega), up_n (by omega)]
  have ez : encF N p c (61 * p + (50 + N (61 * p + 48))) = c := by unfold encF; rw [up_n (by omega), up_s]
  by_cases e : z = N (61 * p + 48)
  · rw [e, ez, ey y a (by omega)]; exact hc y a (by omega)
  · rw [ey y a (by omega), ey z (by omega) (by omega)]; exact h y z a b (by omega)
theorem Dl.tki {most : Int} (hp : 0 ≤ p ∧ p < 6) (hq : q = 0 ∨ q = 1) (m : Nat) : ∀ (i n : Int) (N : Int → Int), (∀ j : Int, i ≤ j → j < i + m → Vc W Of (T j)) → N (61 * p + 48) + m ≤ 4 → Bok W Of N → Dl N p → (∀ y z : Int, i ≤ y → y < z → z < i + m → ¬ T y / 10 = T z / 10) → (∀ y z : Int, 0 ≤ y → y < N (61 * p + 48) → i ≤ z → z < i + m → ¬ N (61 * p + (50 + y)) / 10 = T z / 10) → Dl (tkI pa T np p q most m i n N) p := by
  induction m with
  | zero => intro i n N _ _ _ h _ _; exact h
  | succ m ih =>
    intro i n N hV h4 hB h hT hN
    have e48 := ins48 (k := 48) (c := T i) hB hp hq (by omega)
    have m48 := hB.v48 hp
    by_cases c1 : most ≤ n ∨ 6 ≤ N (61 * p + mq q)
    · rw [tkI_e c1]; exact h
    · by_cases c2 : Tkn N pa np (pa (4 * p + q)) (T i / 10)
      · rw [tkI_t c1 c2]; exact ih _ _ _ (fun j a b => hV j (by omega) (by omega)) (by omega) hB h (fun y z a b g => hT y z (by omega) b (by omega)) (fun y z a b g e => hN y z a b (by omega) (by omega))
      · rw [tkI_f c1 c2]
        have hBi := hB.binsF hp hq (hV i (by omega) (by omega))
        have ei : ∀ y : Int, 0 ≤ y → insF N p q (T i) (61 * p + (50 + y)) = N (61 * p + (50 + y)) := fun y a => ins48 hB hp hq (by omega)
        have hD : Dl (insF N p q (T i)) p := h.cg e48 (fun y a _ => ei y a)
        refine ih _ _ _ (fun j a b => hV j (by omega) (by omega)) (by rw [encF_48, e48]; omega) (hBi.bencF (by omega) (hV i (by omega) (by omega))) (hD.enc (by omega) (fun y a b => by rw [ei y a]; exact hN y i a (by omega) (by omega) (by omega))) (fun y z a b g => hT y z (by omega) b (by omega)) (fun y z a b g e => ?_)
        rw [encF_48, e48] at b
        by_cases ey : y = N (61 * p + 48)
        · rw [ey]
          have : encF (insF N p q (T i)) p (T i) (61 * p + (50 + N (61 * p + 48))) = T i := by unfold encF; rw [up_n (by omega), e48, up_s]
          rw [this]; exact hT i z (by omega) (by omega) (by omega)
        · have : encF (insF N p q (T i)) p (T i) (61 * p + (50 + y)) = N (61 * p + (50 + y)) := by unfold encF; rw [up_n (by omega), e48, up_n (by omega), ei y a]
          rw [this]; exact hN y z a (by omega) (by omega) (by omega)
theorem offs_j {Q : Int → Prop} {fr : Int} (hO : 0 < Of ∧ Of ≤ 10) (m : Nat) : ∀ (k x : Int), x ∈ offs Q W Of p fr m k → ∃ j : Int, k ≤ j ∧ j < k + m ∧ x / 10 = (fr + j) % W := by
  induction m with
  | zero => intro k x h; rw [offs] at h; cases h
  | succ m ih =>
    intro k x h
    by_cases c : Q ((fr + k) % W)
    · rw [offs_t c] at h
      obtain ⟨j, a, b, e⟩ := ih _ _ h
      exact ⟨j, by omega, by omega, e⟩
    · rw [offs_f c] at h
      rcases List.mem_cons.mp h with h | h
      · refine ⟨k, by omega, by omega, ?_⟩
        have e1 := Int.emod_nonneg ((fr + k) % W + p) (by omega : Of ≠ 0)
        have e2 := Int.emod_lt_of_pos ((fr + k) % W + p) hO.1
        omega
      · obtain ⟨j, a, b, e⟩ := ih _ _ h
        exact ⟨j, by omega, by omega, e⟩
theorem md_ne {fr x y : Int} (h : x < y) (h2 : y < x + W) : ¬ (fr + x) % W = (fr + y) % W := fun e => by
  have h1 := Int.emod_emod_of_dvd (fr + y - (fr + x)) (Int.dvd_refl W)
  have h3 : (fr + y - (fr + x)) % W = 0 := by rw [Int.sub_emod, ← e]; simp
  have h4 : (y - x) % W = 0 := by rw [← h3]; congr 1; omega
  rw [Int.emod_eq_of_lt (by omega) (by omega)] at h4
  omega
theorem offs_pw {Q : Int → Prop} {fr : Int} (hO : 0 < Of ∧ Of ≤ 10) (m : Nat) : ∀ k : Int, (m : Int) ≤ W → (offs Q W Of p fr m k).Pairwise (fun x y => ¬ x / 10 = y / 10) := by
  induction m with
  | zero => intro k _; rw [offs]; exact List.Pairwise.nil
  | succ m ih =>
    intro k hm
    by_cases c : Q ((fr + k) % W)
    · rw [offs_t c]; exact ih _ (by omega)
    · rw [offs_f c]
      refine List.Pairwise.cons (fun y hy => ?_) (ih _ (by omega))
      obtain ⟨j, a, b, e⟩ := offs_j hO m _ _ hy
      have e1 := Int.emod_nonneg ((fr + k) % W + p) (by omega : Of ≠ 0)
      have e2 := Int.emod_lt_of_pos ((fr + k) % W + p) hO.1
      have := md_ne (W := W) (fr := fr) (x := k) (y := j) (by omega) (by omega)
      omega
theorem Lf_pw {L : List Int} (h : L.Pairwise (fun x y => ¬ x / 10 = y / 10)) {y z : Int} (h0 : 0 ≤ y) (h1 : y < z) (h2 : z < L.length) : ¬ Lf L y / 10 = Lf L z / 10 := by
  have a1 : y.toNat < L.length := by omega
  have a2 : z.toNat < L.length := by omega
  unfold Lf
  rw [List.getD_eq_getElem?_getD, List.getD_eq_getElem?_getD, List.getElem?_eq_getElem a1, List.getElem?_eq_getElem a2]
  exact List.pairwise_iff_getElem.mp h y.toNat z.toNat a1 a2 (by omega)
theorem ofr_pw {nd fr : Int} (hP : Prm E F) : (ofr E F N p nd fr).Pairwise (fun x y => ¬ x / 10 = y / 10) := by
  obtain ⟨hW1, hW2, hO1, hO2, hT1, hT2, hI1, hI2, hF1, hF2⟩ := id hP
  exact offs_pw (by omega) _ _ (by omega)
theorem Dl.encl {L : List Int} (hL : L.Pairwise (fun x y => ¬ x / 10 = y / 10)) (h48 : N (61 * p + 48) = 0) (m : Nat) (hm : (m : Int) ≤ L.length) : Dl (encL p (Lf L) m 0 N) p := fun y z a b g => by
  rw [encL_pt _ _ _ _ (by omega), if_pos rfl] at g
  rw [encL_pt _ _ _ _ (by omega), encL_pt _ _ _ _ (by omega), if_neg (by omega), if_pos (by omega), if_neg (by omega), if_pos (by omega)]
  have := Lf_pw hL (y := y) (z := z) a b (by omega)
  rw [show (0 : Int) + (61 * p + (50 + y) - (61 * p + 50 + N (61 * p + 48))) = y by omega, show (0 : Int) + (61 * p + (50 + z) - (61 * p + 50 + N (61 * p + 48))) = z by omega]
  exact this
theorem PI.cg (h : PI N p) (hB : Bok W Of N) (hp : 0 ≤ p ∧ p < 6) (e : ∀ k : Int, (0 ≤ k ∧ k < 6) ∨ (18 ≤ k ∧ k < 57) → N1 (61 * p + k) = N (61 * p + k)) : PI N1 p := by
  obtain ⟨h1, ⟨h2, h3⟩, h4, h5⟩ := h
  have m18 := hB.v18 hp
  have m25 := hB.v25 hp
  have m48 := hB.v48 hp
  refine ⟨?_, ⟨?_, ?_⟩, ?_, ?_⟩
  · unfold LetOK at *; rw [e 43 (by omega), e 44 (by omega), e 45 (by omega), e 46 (by omega), e 48 (by omega)]; exact h1
  · exact h2.cg (by rw [mq0]; omega) (by rw [mq0]; exact e 18 (by omega)) (fun j j0 j1 => by rw [bq0]; exact e (0 + j) (by omega))
  · exact h3.cg (by rw [mq1]; omega) (by rw [mq1]; exact e 25 (by omega)) (fun j j0 j1 => by rw [bq1]; exact e (19 + j) (by omega))
  · intro a b
    rw [e 43 (by omega)] at a; rw [e 45 (by omega)] at b
    exact (h4 a b).cg (e 48 (by omega)) (fun y y0 y1 => e (50 + y) (by omega))
  · unfold Pmz at *; rw [e 28 (by omega), e 33 (by omega)]; exact h5
theorem Dst.z (h : N (61 * p + 43) = 0 ∨ ¬ N (61 * p + 45) = 0 ∨ N (61 * p + 48) = 0) : Dst N p := fun a b => by
  rcases h with h | h | h
  · omega
  · omega
  · exact Dl.z h
/-- the letter is gone -/
theorem PI.drop (h : PI N p) (hB : Bok W Of N) (hp : 0 ≤ p ∧ p < 6) : PI (up N (61 * p + 43) 0) p :=
  ⟨LetOK.z (Or.inl up_s), h.2.1.cg hB hp (Kp.rf.u (by omega)), Dst.z (Or.inl up_s), by unfold Pmz; rw [up_n (by omega), up_n (by omega)]; exact h.2.2.2⟩
theorem begF_45 {kd n : Int} (hP : Prm E F) (hs : 0 ≤ N (61 * p + 18)) (hn : 0 ≤ n ∧ n < 6) (hkd : 0 ≤ kd ∧ kd ≤ 3) (h03 : kd ≤ 1 → n ≤ 3) (h : ¬ mny E F N p kd n = -1) : begF E F N p kd n (61 * p + 45) = kd := by
  have hmr := (mny_r (iv := E) (F := F) (N := N) (p := p) (kd := kd) (n := n) hP hs (by omega) hkd).resolve_left h
  unfold begF
  rw [if_neg h, up_n (by omega), waiF_k (Or.inl rfl) (by omega)]
  by_cases e1 : kd = 1
  · rw [if_pos e1, delL_k (by omega) _ _ _ (by rw [wriF_48]; omega), wriF_45]
  · rw [if_neg e1, prmF_k (Or.inl rfl) (by omega) (by omega)]
    by_cases e2 : kd = 2
    · rw [if_pos e2, encL_k (by omega) _ _ _ (by rw [encF_48, wriF_48]; omega), encF_k (by rw [wriF_48]; omega) (by omega), wriF_45]
    · rw [if_neg e2, encL_k (by omega) _ _ _ (by rw [wriF_48]; omega), wriF_45]
theorem PI.beg {kd n : Int} (h : PI N p) (hP : Prm E F) (hB : Bok (E 5 0) (E 5 1) N) (hp : 0 ≤ p ∧ p < 6) (hn : 0 ≤ n ∧ n < 6) (hkd : 0 ≤ kd ∧ kd ≤ 3) (h03 : kd ≤ 1 → n ≤ 3) : PI (begF E F N p kd n) p := by
  by_cases hm : mny E F N p kd n = -1
  · unfold begF; rw [if_pos hm]; exact h
  have h18 := hB.v18 hp
  have hmr := (mny_r (iv := E) (F := F) (N := N) (p := p) (kd := kd) (n := n) hP h18.1 (by omega) hkd).resolve_left hm
  refine ⟨begF_let hP h18.1 hn hkd h03 h.1, h.2.1.cg hB hp ?_, ?_, ?_⟩
  · unfold begF
    rw [if_neg hm]
    refine (Kp.wai (Or.inl rfl) ?_).u (by omega)
    split
    · exact Kp.dell _ _ _ (by rw [wriF_48]; omega) Kp.rf.wri
    · refine Kp.prm (Or.inl rfl) ?_
      split
      · exact Kp.encl _ _ _ (by rw [encF_48, wriF_48]; omega) (Kp.rf.wri.enc (by rw [wriF_48]; omega))
      · exact Kp.encl _ _ _ (by rw [wriF_48]; omega) Kp.rf.wri
  · intro a b
    rw [begF_45 hP h18.1 hn hkd h03 hm] at b
    subst b
    have hm4 := hmr.2.1 rfl
    unfold begF
    rw [if_neg hm, if_neg (by decide), if_neg (by decide)]
    refine (Dl.encl (L := bgo E F N p 0 n) (N := wriF N p 0 0 (-1) (if (0 : Int) = 0 then n else -1)) ?_ wriF_48 (mny E F N p 0 n).toNat (by omega)).cg ?_ (fun y y0 y1 => ?_)
    · unfold bgo; rw [if_pos rfl]; exact ofr_pw hP
    · rw [up_n (by omega), waiF_k (Or.inl rfl) (by omega), prmF_k (Or.inl rfl) (by omega) (by omega)]
    · rw [up_n (by omega), waiF_k (Or.inl rfl) (by omega), prmF_k (Or.inl rfl) (by omega) (by omega)]
  · intro a
    unfold begF at a
    rw [if_neg hm, up_n (by omega)] at a
    unfold waiF at a
    rw [up_n (by omega), show (28 : Int) + 0 = 28 from rfl, up_s] at a
    omega
theorem ans_k (h : ¬ k = 46) (h2 : ¬ k = 27) : ansF N p (61 * p + k) = N (61 * p + k) := by
  unfold ansF; split
  · rw [up_n (by omega)]
  · unfold stpF; rw [up_n (by omega), up_n (by omega)]
theorem ans_46 : ansF N p (61 * p + 46) = if N (61 * p + 48) = 0 then 1 else 0 := by
  unfold ansF; split
  · rw [up_s]
  · unfold stpF; rw [up_n (by omega), up_s]
theorem rq1_k (h : k < 28 ∨ k = 28 ∨ k = 33) : rq1 N p (61 * p + k) = N (61 * p + k) := by
  unfold rq1; rw [wriF_n (by omega)]; unfold stoF; rw [up_n (by omega), up_n (by omega)]
theorem RR.rqq (h : RR N p) (hB : Bok W Of N) (hp : 0 ≤ p ∧ p < 6) : RR (rq1 N p) p := h.cg hB hp (fun k a b => rq1_k (by omega))
theorem PI.rq (h : PI N p) (hP : Prm E F) (hB : Bok (E 5 0) (E 5 1) N) (hp : 0 ≤ p ∧ p < 6) (hu : N (61 * p + 43) = 1) : PI (rqF E F N p) p := by
  obtain ⟨hW1, hW2, hO1, hO2, hT1, hT2, hI1, hI2, hF1, hF2⟩ := id hP
  have hB1 := rq1_bok hB hp
  have hr := h.2.1.rqq hB hp
  have m48 := hB.v48 hp
  have m45 := hB.v45 hp
  have m49 := hB.v49 hp
  have hV : ∀ j : Int, 0 ≤ j → j < 0 + ((N (61 * p + 48)).toNat : Int) → Vc (E 5 0) (E 5 1) (tld N p j) := fun j a b => hB.lcl hp (by omega)
  have hpm : ∀ N1 : Int → Int, N1 (61 * p + 28) = rq1 N p (61 * p + 28) → N1 (61 * p + 33) = rq1 N p (61 * p + 33) → Pmz N1 p := fun N1 a b => by
    unfold Pmz; rw [a, b, rq1_k (by omega), rq1_k (by omega)]; exact h.2.2.2
  unfold rqF
  by_cases c3 : N (61 * p + 45) = 3
  · rw [if_pos c3]
    have e45 : clrF (rq1 N p) p 1 (61 * p + 45) = 3 := by rw [clrF_n (Or.inr rfl) (by rw [mq1]; omega) (by omega), rq1_45, c3]
    exact ⟨LetOK.z (by omega), hr.clr hB1 hp (Or.inr rfl), Dst.z (by omega), hpm _ (clrF_n (Or.inr rfl) (by rw [mq1]; omega) (by omega)) (clrF_n (Or.inr rfl) (by rw [mq1]; omega) (by omega))⟩
  rw [if_neg c3]
  by_cases cs : ¬ N (61 * p + 47) = N (61 * p + 27)
  · rw [if_pos cs]
    exact ⟨LetOK.z (Or.inr (Or.inr (Or.inl (by rw [up_s]; decide)))), hr.cg hB1 hp (Kp.rf.u (by omega)), Dst.z (Or.inr (Or.inr (by rw [up_n (by omega), rq1_48]))), hpm _ (up_n (by omega)) (up_n (by omega))⟩
  rw [if_neg cs]
  by_cases ca : N (61 * p + 45) = 0 ∧ ¬ E 6 (4 * p + 2) = 2
  · rw [if_pos ca]
    by_cases cm : mnI (N (61 * p + 49) + 1) ((ofr E F (rq1 N p) p (E 6 (4 * p + 1)) 0).length : Int) = 0
    · rw [if_pos cm]
      exact ⟨LetOK.z (Or.inr (Or.inr (Or.inl (by rw [up_s]; decide)))), hr.cg hB1 hp (Kp.rf.u (by omega)), Dst.z (Or.inr (Or.inr (by rw [up_n (by omega), rq1_48]))), hpm _ (up_n (by omega)) (up_n (by omega))⟩
    · rw [if_neg cm]
      have hmn := mnI_r (x := N (61 * p + 49) + 1) (y := ((ofr E F (rq1 N p) p (E 6 (4 * p + 1)) 0).length : Int)) (by omega) (by omega)
      generalize hmm : mnI (N (61 * p + 49) + 1) ((ofr E F (rq1 N p) p (E 6 (4 * p + 1)) 0).length : Int) = mm at *
      have h48 : up (rq1 N p) (61 * p + 46) 0 (61 * p + 48) = 0 := by rw [up_n (by omega), rq1_48]
      have hk43 : ∀ k : Int, 43 ≤ k → waiF (prmF (encL p (Lf (ofr E F (rq1 N p) p (E 6 (4 * p + 1)) 0)) mm.toNat 0 (up (rq1 N p) (61 * p + 46) 0)) p 1 mm (Lf (ofr E F (rq1 N p) p (E 6 (4 * p + 1)) 0))) p 1 (61 * p + k) = encL p (Lf (ofr E F (rq1 N p) p (E 6 (4 * p + 1)) 0)) mm.toNat 0 (up (rq1 N p) (61 * p + 46) 0) (61 * p + k) := fun k a => by
        rw [waiF_k (Or.inr rfl) (by omega), prmF_k (Or.inr rfl) (by omega) (by omega)]
      refine ⟨LetOK.z (Or.inr (Or.inr (Or.inr ?_))), hr.cg hB1 hp (Kp.wai (Or.inr rfl) (Kp.prm (Or.inr rfl) (Kp.encl _ _ _ (by omega) (Kp.rf.u (by omega))))), fun a b => ?_, hpm _ ?_ ?_⟩
      · rw [hk43 45 (by omega), encL_k (by omega) _ _ _ (by omega), up_n (by omega), rq1_45, ca.1]; decide
      · exact (Dl.encl (ofr_pw hP) h48 mm.toNat (by omega)).cg (hk43 48 (by omega)) (fun y y0 y1 => hk43 (50 + y) (by omega))
      · unfold waiF prmF; rw [up_n (by omega), up_n (by omega), prmL_pt, if_neg (by omega), up_n (by omega), encL_k (by omega) _ _ _ (by omega), up_n (by omega)]
      · unfold waiF prmF; rw [up_n (by omega), up_n (by omega), prmL_pt, if_neg (by omega), up_n (by omega), encL_k (by omega) _ _ _ (by omega), up_n (by omega)]
  rw [if_neg ca]
  have hfin : ∀ X : Int → Int, RR X p → Bok (E 5 0) (E 5 1) X → (∀ k : Int, 26 ≤ k ∧ (k < 48 ∨ k = 49) → X (61 * p + k) = rq1 N p (61 * p + k)) → (N (61 * p + 45) = 0 → Dl X p) → (N (61 * p + 45) = 2 → X (61 * p + 48) = 0 ∨ X (61 * p + 48) = 2) → PI (ansF X p) p := fun X hX hBX hk hd h2 => by
    refine ⟨fun a b g e => ?_, hX.cg hBX hp Kp.rf.ans, fun a b => ?_, hpm _ ?_ ?_⟩
    · rw [ans_46] at g
      rw [ans_k (by omega) (by omega), hk 45 (by omega), rq1_45] at e
      rw [ans_k (by omega) (by omega)]
      split at g
      · omega
      · rcases h2 e with z | z
        · omega
        · exact z
    · rw [ans_k (by omega) (by omega), hk 45 (by omega), rq1_45] at b
      exact (hd b).cg (ans_k (by omega) (by omega)) (fun y y0 y1 => ans_k (by omega) (by omega))
    · rw [ans_k (by omega) (by omega), hk 28 (by omega)]
    · rw [ans_k (by omega) (by omega), hk 33 (by omega)]
  have r48 : rq1 N p (61 * p + 48) = 0 := rq1_48
  repeat' split
  · rename_i c0
    exact hfin _ (RR.tki hp (Or.inr rfl) _ _ _ _ hV (by omega) hB1 hr) (Bok.btkI hp (Or.inr rfl) _ _ _ _ hV (by omega) hB1) (fun k a => tkI_k a hp (Or.inr rfl) _ _ _ _ hV (by omega) hB1)
      (fun _ => Dl.tki hp (Or.inr rfl) _ _ _ _ hV (by omega) hB1 (Dl.z r48) (fun y z a b g => h.2.2.1 hu c0 y z a b (by omega)) (fun y z a b g e => by omega)) (fun e => by omega)
  · rename_i c0 c2
    exact hfin _ (hr.mvf hB1 hp r48 (fun j a b => hV j a (by omega))) (hB1.bmvF hp (by omega) (fun j a b => hV j a (by omega)) r48) (fun k a => mvF_k a hp hB1) (fun e => by omega) (fun _ => mvF_48 hB1 hp r48 (fun j a b => hV j a (by omega)))
  · rename_i c0 c2
    exact hfin _ (RR.dlq hp _ _ _ hV (by omega) hB1 hr) (Bok.bdlQ hp _ _ _ hV (by omega) hB1) (fun k a => dlQ_k a hp _ _ _ hV (by omega) hB1) (fun e => by omega) (fun e => by omega)
end C15a
