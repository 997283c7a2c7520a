section C12a
variable {N N' X S S' : Int → Int} {p c dd W Of : Int} {Q : Int → Prop}
/-- how often c stands in places j to j + m of the sender's table, dd each -/
def mkD (N : Int → Int) (p c dd : Int) : Nat → Int → Int
  | 0, _ => 0
  | m + 1, j => (if N (61 * p + (bq 0 + j)) = c then dd else 0) + mkD N p c dd m (j + 1)
theorem mkD_c (m : Nat) : ∀ j : Int, (∀ i : Int, j ≤ i → i < j + m → N' (61 * p + (bq 0 + i)) = N (61 * p + (bq 0 + i))) → mkD N' p c dd m j = mkD N p c dd m j := by
  induction m with
  | zero => intro j _; rfl
  | succ m ih => intro j h; rw [mkD, mkD, h j (by omega) (by omega), ih _ (fun i h1 h2 => h i (by omega) (by omega))]
theorem mkD_neg (m : Nat) : ∀ j : Int, mkD N p c (-1) m j = - mkD N p c 1 m j := by
  induction m with
  | zero => intro j; rfl
  | succ m ih => intro j; rw [mkD, mkD, ih]; split <;> omega
theorem mkD_0 (m : Nat) : ∀ j : Int, 0 ≤ mkD N p c 1 m j ∧ (mkD N p c 1 m j = 0 ↔ ∀ i : Int, j ≤ i → i < j + m → ¬ N (61 * p + (bq 0 + i)) = c) := by
  induction m with
  | zero => intro j; exact ⟨Int.le_refl 0, fun _ i h1 h2 => by omega, fun _ => rfl⟩
  | succ m ih =>
    intro j
    obtain ⟨h1, h2⟩ := ih (j + 1)
    rw [mkD]
    split
    · rename_i e
      exact ⟨by omega, fun z => by omega, fun z => absurd e (z j (by omega) (by omega))⟩
    · rename_i e
      refine ⟨by omega, ?_⟩
      rw [Int.zero_add, h2]
      exact ⟨fun z i i1 i2 => if a : i = j then a ▸ e else z i (by omega) (by omega), fun z i i1 i2 => z i (by omega) (by omega)⟩
theorem mkD_1 (m : Nat) : ∀ j : Int, 0 ≤ j → (∀ a b : Int, j ≤ a → a < b → b < j + m → ¬ N (61 * p + (bq 0 + a)) = N (61 * p + (bq 0 + b))) → mkD N p c 1 m j ≤ 1 := by
  induction m with
  | zero => intro j _ _; exact (by decide : (0 : Int) ≤ 1)
  | succ m ih =>
    intro j h0 h
    have := ih (j + 1) (by omega) (fun a b h1 h2 h3 => h a b (by omega) h2 (by omega))
    rw [mkD]
    split
    · rename_i e
      have := (mkD_0 (N := N) (p := p) (c := c) m (j + 1)).2.mpr (fun i i1 i2 z => h j i (by omega) (by omega) (by omega) (by rw [e, z]))
      omega
    · omega
/-- how many senders a cell has among the first pairs -/
def mkB (N S : Int → Int) (c : Int) : Nat → Int
  | 0 => 0
  | m + 1 => mkB N S c m + mkD N m c 1 (S m).toNat 0
theorem mkB_c (m : Nat) : (∀ a : Int, 0 ≤ a → a < m → S' a = S a) → (∀ a i : Int, 0 ≤ a → a < m → 0 ≤ i → i < S a → N' (61 * a + (bq 0 + i)) = N (61 * a + (bq 0 + i))) → mkB N' S' c m = mkB N S c m := by
  induction m with
  | zero => intro _ _; rfl
  | succ m ih =>
    intro h1 h2
    rw [mkB, mkB, ih (fun a a0 a1 => h1 a a0 (by omega)) (fun a i a0 a1 => h2 a i a0 (by omega)), h1 m (by omega) (by omega), mkD_c _ _ (fun i i1 i2 => h2 m i (by omega) (by omega) i1 (by omega))]
theorem mkB_r (m : Nat) : (∀ a : Int, 0 ≤ a → a < m → mkD N a c 1 (S a).toNat 0 ≤ 1) → 0 ≤ mkB N S c m ∧ mkB N S c m ≤ m ∧ (mkB N S c m = 0 ↔ ∀ a : Int, 0 ≤ a → a < m → mkD N a c 1 (S a).toNat 0 = 0) := by
  induction m with
  | zero => intro _; exact ⟨Int.le_refl 0, Int.le_refl 0, fun _ a a0 a1 => by omega, fun _ => rfl⟩
  | succ m ih =>
    intro h
    obtain ⟨g1, g2, g3⟩ := ih (fun a a0 a1 => h a a0 (by omega))
    have hm := h m (by omega) (by omega)
    have h0 := (mkD_0 (N := N) (p := m) (c := c) (S m).toNat 0).1
    rw [mkB]
    refine ⟨by omega, by omega, ?_⟩
    constructor
    · intro z a a0 a1
      by_cases e : a = m
      · subst e; omega
      · exact g3.mp (by omega) a a0 (by omega)
    · intro z
      have := g3.mpr (fun a a0 a1 => z a a0 (by omega))
      have := z m (by omega) (by omega)
      omega
theorem mkB_1 (m : Nat) : (∀ a : Int, 0 ≤ a → a < m → mkD N a c 1 (S a).toNat 0 ≤ 1) → ∀ p : Int, 0 ≤ p → p < m → mkD N p c 1 (S p).toNat 0 = 1 → (mkB N S c m = 1 ↔ ∀ a : Int, 0 ≤ a → a < m → ¬ a = p → mkD N a c 1 (S a).toNat 0 = 0) := by
  induction m with
  | zero => intro _ p h0 h1; omega
  | succ m ih =>
    intro h p h0 h1 hp
    have hr := mkB_r (N := N) (S := S) (c := c) m (fun a a0 a1 => h a a0 (by omega))
    have hm := h m (by omega) (by omega)
    have hm0 := (mkD_0 (N := N) (p := m) (c := c) (S m).toNat 0).1
    rw [mkB]
    by_cases e : p = m
    · subst e
      rw [hp]
      constructor
      · intro z a a0 a1 a2; exact hr.2.2.mp (by omega) a a0 (by omega)
      · intro z; have := hr.2.2.mpr (fun a a0 a1 => z a a0 (by omega) (by omega)); omega
    · have hi := ih (fun a a0 a1 => h a a0 (by omega)) p h0 (by omega) hp
      have hnz : ¬ mkB N S c m = 0 := fun z => by have := hr.2.2.mp z p h0 (by omega); omega
      constructor
      · intro z a a0 a1 a2
        by_cases e2 : a = m
        · subst e2; omega
        · exact hi.mp (by omega) a a0 (by omega) a2
      · intro z
        have := hi.mpr (fun a a0 a1 a2 => z a a0 (by omega) a2)
        have := z m (by omega) (by omega) (by omega)
        omega
theorem Ris.d (h : Ris N p 0) {s : Int} (hs : s ≤ N (61 * p + 18)) : mkD N p c 1 s.toNat 0 ≤ 1 :=
  mkD_1 _ 0 (by omega) (fun a b h1 h2 h3 z => by have := h a b h1 h2 (by rw [mq0]; omega); omega)
theorem snd_iff {s : Int} (hs : S p = s) : mkD N p c 1 (S p).toNat 0 = 0 ↔ ¬ Snd N S p c := by
  rw [(mkD_0 (N := N) (p := p) (c := c) (S p).toNat 0).2]
  unfold Snd
  exact ⟨fun h ⟨i, h1, h2, h3⟩ => h i h1 (by omega) h3, fun h i h1 h2 h3 => h ⟨i, h1, by omega, h3⟩⟩
/-- the class's sending: the queue is told at the end -/
def gc1 (N : Int → Int) (p i : Int) : Int → Int := up N (61 * p + (12 + i)) (mnI 999 (N (61 * p + (12 + i)) + 1))
noncomputable def sdX (Q : Int → Prop) (p : Int) : Nat → Int → (Int → Int) → (Int → Int)
  | 0, _, N => N
  | m + 1, i, N => @ite _ (Q (N (61 * p + (bq 0 + i)))) (Classical.propDecidable _) (sdX Q p m (i + 1) (gc1 (sn1 N p i) p i)) (sdX Q p m (i + 1) (sn1 N p i))
theorem sdX_t {m : Nat} {i : Int} (h : Q (N (61 * p + (bq 0 + i)))) : sdX Q p (m + 1) i N = sdX Q p m (i + 1) (gc1 (sn1 N p i) p i) := by rw [sdX, if_pos h]
theorem sdX_f {m : Nat} {i : Int} (h : ¬ Q (N (61 * p + (bq 0 + i)))) : sdX Q p (m + 1) i N = sdX Q p m (i + 1) (sn1 N p i) := by rw [sdX, if_neg h]
theorem sn1_up {i v : Int} (hi : 0 ≤ i ∧ i < 6) : sn1 (up N (61 * p + 57) v) p i = up (sn1 N p i) (61 * p + 57) v := by
  unfold sn1; rw [up_n (by omega), up_comm (by omega)]
theorem gc1_up {i v : Int} (hi : 0 ≤ i ∧ i < 6) : gc1 (up N (61 * p + 57) v) p i = up (gc1 N p i) (61 * p + 57) v := by
  unfold gc1; rw [up_n (by omega), up_comm (by omega)]
theorem gt1_gc {i : Int} (hi : 0 ≤ i ∧ i < 6) : gt1 N p i = up (gc1 N p i) (61 * p + 57) (N (61 * p + 57) - 1) := by
  unfold gt1 gc1; rw [up_n (show ¬ 61 * p + 57 = 61 * p + (12 + i) by omega)]
theorem sdX_up {v : Int} (m : Nat) : ∀ (i : Int) (N : Int → Int), 0 ≤ i → i + m ≤ 6 → sdX Q p m i (up N (61 * p + 57) v) = up (sdX Q p m i N) (61 * p + 57) v := by
  induction m with
  | zero => intro i N _ _; rfl
  | succ m ih =>
    intro i N h0 h1
    have e : up N (61 * p + 57) v (61 * p + (bq 0 + i)) = N (61 * p + (bq 0 + i)) := by rw [bq0, up_n (by omega)]
    by_cases h : Q (N (61 * p + (bq 0 + i)))
    · rw [sdX_t (by rw [e]; exact h), sdX_t h, sn1_up (by omega), gc1_up (by omega), ih _ _ (by omega) (by omega)]
    · rw [sdX_f (by rw [e]; exact h), sdX_f h, sn1_up (by omega), ih _ _ (by omega) (by omega)]
theorem sdC_c (m : Nat) : ∀ i : Int, (∀ j : Int, i ≤ j → j < i + m → N' (61 * p + (bq 0 + j)) = N (61 * p + (bq 0 + j))) → sdC Q N' p m i = sdC Q N p m i := by
  induction m with
  | zero => intro i _; rfl
  | succ m ih =>
    intro i h
    have e := h i (by omega) (by omega)
    have g := ih (i + 1) (fun j h1 h2 => h j (by omega) (by omega))
    by_cases a : Q (N (61 * p + (bq 0 + i)))
    · rw [sdC_t a, sdC_t (by rw [e]; exact a), g]
    · rw [sdC_f a, sdC_f (by rw [e]; exact a), g]
theorem sdX_N (m : Nat) : ∀ (i : Int) (N : Int → Int), 0 ≤ i → i + m ≤ 6 → sdN Q p m i N = up (sdX Q p m i N) (61 * p + 57) (N (61 * p + 57) - sdC Q N p m i) := by
  induction m with
  | zero => intro i N _ _; rw [sdN, sdX, sdC]; exact (up_same (by omega)).symm
  | succ m ih =>
    intro i N h0 h1
    have e1 : ∀ j : Int, i + 1 ≤ j → j < i + 1 + m → sn1 N p i (61 * p + (bq 0 + j)) = N (61 * p + (bq 0 + j)) := fun j j0 j1 => by unfold sn1; rw [bq0, up_n (by omega)]
    have e2 : ∀ j : Int, i + 1 ≤ j → j < i + 1 + m → gt1 (sn1 N p i) p i (61 * p + (bq 0 + j)) = N (61 * p + (bq 0 + j)) := fun j j0 j1 => by
      rw [← e1 j j0 j1]; unfold gt1; rw [bq0, up_n (by omega), up_n (by omega)]
    have e57 := sn1_57 (N := N) (p := p) (i := i) (by omega)
    by_cases h : Q (N (61 * p + (bq 0 + i)))
    · rw [sdN_t h, sdX_t h, sdC_t h, ih _ _ (by omega) (by omega), sdC_c _ _ e2, gt1_57 (by omega), e57, gt1_gc (by omega), sdX_up _ _ _ (by omega) (by omega), up_up]
      congr 1; omega
    · rw [sdN_f h, sdX_f h, sdC_f h, ih _ _ (by omega) (by omega), sdC_c _ _ e1, e57]
theorem sdX_57 (m : Nat) : ∀ (i : Int) (N : Int → Int), 0 ≤ i → i + m ≤ 6 → sdX Q p m i N (61 * p + 57) = N (61 * p + 57) := by
  induction m with
  | zero => intro i N _ _; rfl
  | succ m ih =>
    intro i N h0 h1
    have e57 := sn1_57 (N := N) (p := p) (i := i) (by omega)
    by_cases h : Q (N (61 * p + (bq 0 + i)))
    · rw [sdX_t h, ih _ _ (by omega) (by omega)]; unfold gc1; rw [up_n (by omega), e57]
    · rw [sdX_f h, ih _ _ (by omega) (by omega), e57]
theorem Bok.bgc (h : Bok W Of N) (hp : 0 ≤ p ∧ p < 6) {i : Int} (hi : 0 ≤ i ∧ i < 6) : Bok W Of (gc1 N p i) := by
  have hk := h p (12 + i) hp.1 hp.2 (by omega) (by omega)
  rw [k999 (by omega)] at hk
  exact h.bup (by omega) (by rw [k999 (by omega)]; unfold mnI; split <;> omega)
theorem Sam.gc {N0 : Int → Int} (h : Sam N N0) (hp : 0 ≤ p ∧ p < 6) {i : Int} (hi : 0 ≤ i ∧ i < 6) : Sam (gc1 N p i) N0 := h.u hp (by omega)
end C12a
section C12
variable {d b : Nat} {sh : aSh} {iv lw E : aF} {rv : aP} {D O T S K C w N F : Int → Int} {R : aPost} {p : Int}
theorem l_mark {si : Nat} {s dd : Int} (hN : NtA sh rv iv b) (hA : SdA sh (CD iv b D O T S K C) rv si (12 + 42 * b) p 0) (hP : Prm E F) (hp : 0 ≤ p ∧ p < 6) (hR : Rel w N) (hB : Bok (E 5 0) (E 5 1) N) (hs : s ≤ N (61 * p + 18)) (hdd : dd = 1 ∨ dd = -1) (m : Nat) : ∀ (j : Int) (K : Int → Int) (v5 : Option aV), SdA sh (CD iv b D O T S K C) rv si (12 + 42 * b) p 0 → 0 ≤ j → j + m = s → (∀ c : Int, 0 ≤ c → c < 160 → -100 ≤ K c - m ∧ K c + m ≤ 100) → (∀ K', (∀ c : Int, 0 ≤ c → c < 160 → K' c = K c + mkD N p c dd m j) → R none sh (uA (CD iv b D O T S K' C) (12 + 42 * b) w) lw rv) → wp (d + 2) mX0_markCells 3 [some (aR (41 + 39 * b)), some (aR si), some (aI s), some (aI dd), some (aI j), v5] [] sh (uA (CD iv b D O T S K C) (12 + 42 * b) w) lw rv 0 0 R := by
  obtain ⟨hW1, hW2, hO1, hO2, hT1, hT2, hI1, hI2, hF1, hF2⟩ := id hP
  have h18 := hB.v18 hp
  induction m with
  | zero =>
    intro j K v5 hA h0 hm hK k
    refine wp_iload dX0_markCells_3 rfl ?_
    refine wp_iload_n dX0_markCells_5 rfl ?_
    refine wp_icmp_ge (tgt := 47) dX0_markCells_6 rfl (fun h6 => ?_) (fun h6 => by exfalso; omega)
    refine wp_return dX0_markCells_47 rfl ?_
    exact k K (fun c _ _ => by rw [mkD]; omega)
  | succ m ih =>
    intro j K v5 hA h0 hm hK k
    have hv := hB.cel hp (Or.inl rfl : (0 : Int) = 0 ∨ (0 : Int) = 1) (i := j) (by omega)
    unfold Vc at hv
    have hc0 : 0 ≤ N (61 * p + (bq 0 + j)) ∧ N (61 * p + (bq 0 + j)) < 160 := by omega
    have hKc := hK _ hc0.1 hc0.2
    refine wp_iload dX0_markCells_3 rfl ?_
    refine wp_iload_n dX0_markCells_5 rfl ?_
    refine wp_icmp_ge (tgt := 47) dX0_markCells_6 rfl (fun h6 => by exfalso; omega) (fun h6 => ?_)
    refine wp_aload_n dX0_markCells_9 rfl ?_
    refine wp_iload dX0_markCells_10 rfl ?_
    refine wp_callV (as := [_]) (ls0 := [_, _]) (kc := 0) (ks := 0) (bc' := 0) (bs' := 0) dX0_markCells_12 vX0_122 hA.1 rfl rfl (Nat.le_of_ble_eq_true rfl) (Nat.le_of_ble_eq_true rfl) (by omega) (by omega) ?_
    refine c_numberAt hA hR hB ?_
    rw [mq0, if_pos (by omega)]
    refine wp_istore (ls' := [_, _, _, _, _, _]) dX0_markCells_15 (by decide) rfl rfl ?_
    refine wp_iload dX0_markCells_17 rfl ?_
    refine wp_if_lt (tgt := 41) dX0_markCells_19 rfl (fun h19 => by exfalso; omega) (fun h19 => ?_)
    refine wp_iload dX0_markCells_22 rfl ?_
    refine wp_sipush dX0_markCells_24 ?_
    refine wp_icmp_ge (tgt := 41) dX0_markCells_27 rfl (fun h27 => by exfalso; omega) (fun h27 => ?_)
    refine wp_aload_n dX0_markCells_30 rfl ?_
    refine wp_getR hN.r41k dX0_markCells_31 fX0_11 hN.s41 ?_
    refine wp_iload dX0_markCells_34 rfl ?_
    refine wp_dup2 dX0_markCells_36 rfl rfl ?_
    refine wp_iald dX0_markCells_37 hN.s42 (by omega) (by omega) ?_
    rw [CS42 hN.hb]
    refine wp_iload_n dX0_markCells_38 rfl ?_
    refine wp_iadd dX0_markCells_39 ⟨by omega, by omega⟩ ?_
    refine wp_iast dX0_markCells_40 hN.s42 (by omega) (by omega) ?_
    rw [CSu42 hN.hb]
    refine wp_iinc (ls' := [_, _, _, _, _, _]) dX0_markCells_41 (by decide) rfl rfl ⟨by omega, by omega⟩ rfl ?_
    refine wp_goto (tgt := 3) dX0_markCells_44 rfl ?_
    refine ih _ _ _ ?_ (by omega) (by omega) (fun c c0 c1 => ?_) (fun K' hK' => k K' (fun c c0 c1 => ?_))
    · unfold SdA at hA ⊢
      refine ⟨hA.1, hA.2.1, hA.2.2.1, hA.2.2.2.1, ?_, hA.2.2.2.2.2⟩
      have h1 := hA.2.2.2.2.1
      have hne : ¬ si = 42 + 42 * b := fun e => by
        have := hA.1; rw [e, hN.s42] at this; exact absurd this (by decide)
      unfold CD at h1 ⊢
      simp only [if_neg hne] at h1 ⊢
      exact h1
    · have := hK c c0 c1
      unfold up; split <;> omega
    · rw [hK' c c0 c1, mkD]
      by_cases e : N (61 * p + (bq 0 + j)) = c
      · rw [if_pos e, e, up_s]; omega
      · rw [if_neg e, up_n (by omega)]; omega
theorem f_markCells {si : Nat} {s dd : Int} (hN : NtA sh rv iv b) (hA : SdA sh (CD iv b D O T S K C) rv si (12 + 42 * b) p 0) (hP : Prm E F) (hp : 0 ≤ p ∧ p < 6) (hR : Rel w N) (hB : Bok (E 5 0) (E 5 1) N) (hs : 0 ≤ s ∧ s ≤ N (61 * p + 18)) (hdd : dd = 1 ∨ dd = -1) (hK : ∀ c : Int, 0 ≤ c → c < 160 → -90 ≤ K c ∧ K c ≤ 90) (k : ∀ K', (∀ c : Int, 0 ≤ c → c < 160 → K' c = K c + mkD N p c dd s.toNat 0) → R none sh (uA (CD iv b D O T S K' C) (12 + 42 * b) w) lw rv) : wp (d + 2) mX0_markCells 0 [some (aR (41 + 39 * b)), some (aR si), some (aI s), some (aI dd), none, none] [] sh (uA (CD iv b D O T S K C) (12 + 42 * b) w) lw rv 0 0 R := by
  have h18 := hB.v18 hp
  refine wp_iconst dX0_markCells_0 ?_
  refine wp_istore (ls' := [_, _, _, _, _, _]) dX0_markCells_1 (by decide) rfl rfl ?_
  exact l_mark hN hA hP hp hR hB hs.2 hdd s.toNat 0 K _ hA (by omega) (by omega) (fun c c0 c1 => by have := hK c c0 c1; omega) k
theorem f_comesOver {c : Int} {N1 : Int → Int} (hN : NtA sh rv iv b) (hl : PlA sh rv iv E F) (hP : Prm E F) (hP2 : Prm2 E F) (hp : 0 ≤ p ∧ p < 6) (hpF : p < F 13) (hR : Rel w N) (hB : Bok (E 5 0) (E 5 1) N) (hfr : 0 ≤ N 368 ∧ N 368 ≤ 20000) (hj : 0 ≤ N 366) (hc : 0 ≤ c ∧ c < 160) (hK : K c = 1 ↔ ∀ a : Int, 0 ≤ a → a < F 13 → ¬ a = p → ¬ Snd N S a c) (kt : Got E F N S p c → R (some (aI 1)) sh (uA (CD iv b D O T S K C) (12 + 42 * b) w) lw rv) (kf : ¬ Got E F N S p c → R (some (aI 0)) sh (uA (CD iv b D O T S K C) (12 + 42 * b) w) lw rv) : wp (d + 2) mX0_comesOver 0 [some (aR (41 + 39 * b)), some (aR (lid b p)), some (aI c)] [] sh (uA (CD iv b D O T S K C) (12 + 42 * b) w) lw rv 0 0 R := by
  obtain ⟨hW1, hW2, hO1, hO2, hT1, hT2, hI1, hI2, hF1, hF2⟩ := id hP
  have hcr := chn_r hP hP2 hfr hc.1
  refine wp_iload_n dX0_comesOver_0 rfl ?_
  refine wp_if_lt (tgt := 62) dX0_comesOver_1 rfl (fun h1 => by exfalso; omega) (fun h1 => ?_)
  refine wp_iload_n dX0_comesOver_4 rfl ?_
  refine wp_sipush dX0_comesOver_5 ?_
  refine wp_icmp_ge (tgt := 62) dX0_comesOver_8 rfl (fun h8 => by exfalso; omega) (fun h8 => ?_)
  refine wp_aload_n dX0_comesOver_11 rfl ?_
  refine wp_getR hN.r41k dX0_comesOver_12 fX0_11 hN.s41 ?_
  refine wp_iload_n dX0_comesOver_15 rfl ?_
  refine wp_iald dX0_comesOver_16 hN.s42 (by omega) (by omega) ?_
  rw [CS42 hN.hb]
  refine wp_iconst dX0_comesOver_17 ?_
  refine wp_icmp_ne (tgt := 62) dX0_comesOver_18 rfl (fun h18 => ?_) (fun h18 => ?_)
  · refine wp_iconst dX0_comesOver_62 ?_
    refine wp_zreturn dX0_comesOver_63 rfl (Or.inl rfl) ?_
    first | exact kf (fun z => h18 (hK.mpr z.2)) | exact kf (fun z => z.1.1 h30) | exact kf (fun z => z.1.2 h52)
  · refine wp_aload_n dX0_comesOver_21 rfl ?_
    refine wp_getR (hN.rlr hp) dX0_comesOver_22 fX0_141 (hN.sl hp) ?_
    refine wp_iload_n dX0_comesOver_25 rfl ?_
    refine wp_callV (as := [_]) (ls0 := [_, _, _, _]) (kc := 0) (ks := 0) (bc' := 0) (bs' := 0) dX0_comesOver_26 vX0_144 (hN.sr hp) rfl rfl (Nat.le_of_ble_eq_true rfl) (Nat.le_of_ble_eq_true rfl) (by omega) (by omega) ?_
    refine c_placeOf (hN.lk hp).sR hR hB ?_
    refine wp_iconst dX0_comesOver_29 ?_
    refine wp_icmp_eq (tgt := 62) dX0_comesOver_30 rfl (fun h30 => ?_) (fun h30 => ?_)
    · refine wp_iconst dX0_comesOver_62 ?_
      refine wp_zreturn dX0_comesOver_63 rfl (Or.inl rfl) ?_
      first | exact kf (fun z => h18 (hK.mpr z.2)) | exact kf (fun z => z.1.1 h30) | exact kf (fun z => z.1.2 h52)
    · refine wp_aload_n dX0_comesOver_33 rfl ?_
      refine wp_getR hN.r41n dX0_comesOver_34 fX0_21 hN.s41 ?_
      refine wp_aload_n dX0_comesOver_37 rfl ?_
      refine wp_getR hN.r41p dX0_comesOver_38 fX0_31 hN.s41 ?_
      refine wp_aload_n dX0_comesOver_41 rfl ?_
      refine wp_getR hN.r41n dX0_comesOver_42 fX0_21 hN.s41 ?_
      refine wp_callV (as := []) (ls0 := [_]) (kc := 0) (ks := 0) (bc' := 0) (bs' := 0) dX0_comesOver_45 vX0_80 hN.s11 rfl rfl (Nat.le_of_ble_eq_true rfl) (Nat.le_of_ble_eq_true rfl) (by omega) (by omega) ?_
      refine x_frame hN hR ?_
      refine wp_iload_n dX0_comesOver_48 rfl ?_
      refine wp_callV (as := [_, _]) (ls0 := [_, _, _, _]) (kc := 0) (ks := 0) (bc' := 0) (bs' := 0) dX0_comesOver_49 vX0_147 hl.1 rfl rfl (Nat.le_of_ble_eq_true rfl) (Nat.le_of_ble_eq_true rfl) (by omega) (by omega) ?_
      refine n_channelOf hP hP2 hfr hc.1 (by omega) (hN.pl hl) ?_
      refine wp_callV (as := [_]) (ls0 := [_, _]) (kc := 0) (ks := 0) (bc' := 0) (bs' := 0) dX0_comesOver_52 vX0_150 hN.s11 rfl rfl (Nat.le_of_ble_eq_true rfl) (Nat.le_of_ble_eq_true rfl) (by omega) (by omega) ?_
      refine x_isJammed hN hR hj (by omega) (fun h52 => ?_) (fun h52 => ?_)
      · refine wp_if_ne (tgt := 62) dX0_comesOver_55 rfl (fun _ => ?_) (fun q => absurd q (by decide))
        refine wp_iconst dX0_comesOver_62 ?_
        refine wp_zreturn dX0_comesOver_63 rfl (Or.inl rfl) ?_
        first | exact kf (fun z => h18 (hK.mpr z.2)) | exact kf (fun z => z.1.1 h30) | exact kf (fun z => z.1.2 h52)
      · refine wp_if_ne (tgt := 62) dX0_comesOver_55 rfl (fun q => absurd q (by decide)) (fun _ => ?_)
        refine wp_iconst dX0_comesOver_58 ?_
        refine wp_goto (tgt := 63) dX0_comesOver_59 rfl ?_
        refine wp_zreturn dX0_comesOver_63 rfl (Or.inr rfl) ?_
        exact kt ⟨⟨h30, h52⟩, hK.mp h18⟩
theorem K_iff {N1 : Int → Int} {c : Int} (hP : Prm E F) (hB1 : Bok (E 5 0) (E 5 1) N1) (hp : 0 ≤ p ∧ p < 6) (hpF : p < F 13) (hS : ∀ a : Int, 0 ≤ a → a < F 13 → S a = sdv N1 a) (hRis : ∀ a : Int, 0 ≤ a → a < F 13 → Ris N1 a 0) (hKm : ∀ c : Int, 0 ≤ c → c < 160 → K c = mkB N1 S c (F 13).toNat) (hc : 0 ≤ c ∧ c < 160) (hsp : Snd N1 S p c) : K c = 1 ↔ ∀ a : Int, 0 ≤ a → a < F 13 → ¬ a = p → ¬ Snd N1 S a c := by
  obtain ⟨hW1, hW2, hO1, hO2, hT1, hT2, hI1, hI2, hF1, hF2⟩ := id hP
  have hle : ∀ a : Int, 0 ≤ a → a < ((F 13).toNat : Int) → mkD N1 a c 1 (S a).toNat 0 ≤ 1 := fun a a0 a1 => by
    have := sdv_r hB1 (p := a) (by omega)
    have h2 := mnI_r (hB1.v18 (p := a) (by omega)).1 (hB1.v57 (p := a) (by omega)).1
    rw [hS a a0 (by omega)]
    exact (hRis a a0 (by omega)).d h2.2.1
  have h1 : mkD N1 p c 1 (S p).toNat 0 = 1 := by
    have h0 := (mkD_0 (N := N1) (p := p) (c := c) (S p).toNat 0).1
    have h3 := hle p hp.1 (by omega)
    have h4 : ¬ mkD N1 p c 1 (S p).toNat 0 = 0 := fun z => (snd_iff rfl).mp z hsp
    omega
  rw [hKm c hc.1 hc.2, mkB_1 _ hle p hp.1 (by omega) h1]
  exact ⟨fun z a a0 a1 a2 => (snd_iff rfl).mp (z a a0 (by omega) a2), fun z a a0 a1 a2 => (snd_iff rfl).mpr (z a a0 (by omega) a2)⟩
theorem l_sendOf {N1 : Int → Int} (hN : NtA sh rv iv b) (hl : PlA sh rv iv E F) (hP : Prm E F) (hP2 : Prm2 E F) (hp : 0 ≤ p ∧ p < 6) (hpF : p < F 13) (hB1 : Bok (E 5 0) (E 5 1) N1) (hfr : 0 ≤ N1 368 ∧ N1 368 ≤ 20000) (hj : 0 ≤ N1 366) (hS : ∀ a : Int, 0 ≤ a → a < F 13 → S a = sdv N1 a) (hRis : ∀ a : Int, 0 ≤ a → a < F 13 → Ris N1 a 0) (hKm : ∀ c : Int, 0 ≤ c → c < 160 → K c = mkB N1 S c (F 13).toNat) (m : Nat) : ∀ (j g : Int) (w N : Int → Int), 0 ≤ j → j + m = S p → 0 ≤ g → g ≤ j → Rel w N → Bok (E 5 0) (E 5 1) N → Sam N N1 → N (61 * p + 59) ≤ 100000 → N (61 * p + 60) ≤ 100000 → (∀ w', Rel w' (upF (up (sdX (Got E F N1 (sdv N1) p) p m j N) (61 * p + 57) (N (61 * p + 57) - (g + sdC (Got E F N1 (sdv N1) p) N1 p m j))) p (S p)) → R (some (aI (g + sdC (Got E F N1 (sdv N1) p) N1 p m j))) sh (uA (CD iv b D O T S K C) (12 + 42 * b) w') lw rv) → wp (d + 3) mX0_sendOf 5 [some (aR (41 + 39 * b)), some (aR (lid b p)), some (aI (S p)), some (aI g), some (aI j)] [] sh (uA (CD iv b D O T S K C) (12 + 42 * b) w) lw rv 0 0 R := by
  obtain ⟨hW1, hW2, hO1, hO2, hT1, hT2, hI1, hI2, hF1, hF2⟩ := id hP
  have hs6 := sdv_r hB1 hp
  have hSp := hS p hp.1 hpF
  have h18 := hB1.v18 hp
  have hle := mnI_r (hB1.v18 hp).1 (hB1.v57 hp).1
  rw [show mnI (N1 (61 * p + 18)) (N1 (61 * p + 57)) = sdv N1 p from rfl] at hle
  induction m with
  | zero =>
    intro j g w N h0 hm hg hgj hR hB hSam hu1 hu2 k
    rw [sdX, sdC, show g + 0 = g by omega] at k
    refine wp_iload dX0_sendOf_5 rfl ?_
    refine wp_iload_n dX0_sendOf_7 rfl ?_
    refine wp_icmp_ge (tgt := 55) dX0_sendOf_8 rfl (fun h8 => ?_) (fun h8 => by exfalso; omega)
    refine wp_aload_n dX0_sendOf_55 rfl ?_
    refine wp_iload_n dX0_sendOf_56 rfl ?_
    refine wp_iload_n dX0_sendOf_57 rfl ?_
    refine wp_callV (as := [_, _]) (ls0 := [_, _, _]) (kc := 0) (ks := 0) (bc' := 0) (bs' := 0) dX0_sendOf_58 vX0_137 (hN.sl hp) rfl rfl (Nat.le_of_ble_eq_true rfl) (Nat.le_of_ble_eq_true rfl) (by omega) (by omega) ?_
    refine k_noteSending (hN.lk hp) hR hB ⟨hu1, hu2⟩ (by omega) (by omega) (fun w hR => ?_)
    refine wp_iload_n dX0_sendOf_61 rfl ?_
    refine wp_ireturn dX0_sendOf_62 rfl ?_
    exact k w hR
  | succ m ih =>
    intro j g w N h0 hm hg hgj hR hB hSam hu1 hu2 k
    have hcel : N (61 * p + (bq 0 + j)) = N1 (61 * p + (bq 0 + j)) := by rw [bq0]; exact hSam.1 p (0 + j) hp.1 hp.2 (by omega)
    have e18 : N (61 * p + 18) = N1 (61 * p + 18) := hSam.1 p 18 hp.1 hp.2 (by omega)
    have hsn := hSam.sn hp (i := j) (by omega)
    have hBs := hB.bsn hp (i := j) (by omega)
    have hcel2 : sn1 N p j (61 * p + (bq 0 + j)) = N1 (61 * p + (bq 0 + j)) := by rw [bq0]; exact hsn.1 p (0 + j) hp.1 hp.2 (by omega)
    have f18 : sn1 N p j (61 * p + 18) = N1 (61 * p + 18) := hsn.1 p 18 hp.1 hp.2 (by omega)
    have hv := hB1.cel hp (Or.inl rfl : (0 : Int) = 0 ∨ (0 : Int) = 1) (i := j) (by omega)
    unfold Vc at hv
    have hc160 : 0 ≤ N1 (61 * p + (bq 0 + j)) ∧ N1 (61 * p + (bq 0 + j)) < 160 := by omega
    have hsp : Snd N1 S p (N1 (61 * p + (bq 0 + j))) := ⟨j, h0, by omega, rfl⟩
    have hKi := K_iff hP hB1 hp hpF hS hRis hKm hc160 hsp
    have hGot : Got E F (sn1 N p j) S p (N1 (61 * p + (bq 0 + j))) ↔ Got E F N1 (sdv N1) p (N1 (61 * p + (bq 0 + j))) := hsn.got hp hF2 (hB1.mny hp (Or.inr rfl)) (fun a a0 a1 => ⟨hS a a0 a1, (sdv_r hB1 (p := a) (by omega)).2.1⟩)
    have hSnd : ∀ a c : Int, 0 ≤ a → a < F 13 → (Snd (sn1 N p j) S a c ↔ Snd N1 S a c) := by
      intro a c a0 a1
      have hs := sdv_r hB1 (p := a) (by omega)
      have hSa := hS a a0 a1
      unfold Snd
      exact ⟨fun ⟨i, i0, i1, i2⟩ => ⟨i, i0, i1, by rw [bq0] at i2 ⊢; rw [← i2]; exact (hsn.1 a (0 + i) a0 (by omega) (by omega)).symm⟩, fun ⟨i, i0, i1, i2⟩ => ⟨i, i0, i1, by rw [bq0] at i2 ⊢; rw [← i2]; exact hsn.1 a (0 + i) a0 (by omega) (by omega)⟩⟩
    have hK2 : K (N1 (61 * p + (bq 0 + j))) = 1 ↔ ∀ a : Int, 0 ≤ a → a < F 13 → ¬ a = p → ¬ Snd (sn1 N p j) S a (N1 (61 * p + (bq 0 + j))) :=
      hKi.trans ⟨fun z a a0 a1 a2 y => z a a0 a1 a2 ((hSnd a _ a0 a1).mp y), fun z a a0 a1 a2 y => z a a0 a1 a2 ((hSnd a _ a0 a1).mpr y)⟩
    have s368 : sn1 N p j 368 = N1 368 := hsn.2 368 (by omega)
    have s366 : sn1 N p j 366 = N1 366 := hsn.2 366 (by omega)
    have e57 := sn1_57 (N := N) (p := p) (i := j) (by omega)
    have e59 : sn1 N p j (61 * p + 59) = N (61 * p + 59) := by unfold sn1; rw [up_n (by omega)]
    have e60 : sn1 N p j (61 * p + 60) = N (61 * p + 60) := by unfold sn1; rw [up_n (by omega)]
    refine wp_iload dX0_sendOf_5 rfl ?_
    refine wp_iload_n dX0_sendOf_7 rfl ?_
    refine wp_icmp_ge (tgt := 55) dX0_sendOf_8 rfl (fun h8 => by exfalso; omega) (fun h8 => ?_)
    refine wp_aload_n dX0_sendOf_11 rfl ?_
    refine wp_getR (hN.rls hp) dX0_sendOf_12 fX0_99 (hN.sl hp) ?_
    refine wp_iload dX0_sendOf_15 rfl ?_
    refine wp_callV (as := [_]) (ls0 := [_, _]) (kc := 0) (ks := 0) (bc' := 0) (bs' := 0) dX0_sendOf_17 vX0_126 (hN.ss hp) rfl rfl (Nat.le_of_ble_eq_true rfl) (Nat.le_of_ble_eq_true rfl) (by omega) (by omega) ?_
    refine c_countSent (hN.lk hp).sS hR hB rfl (by rw [mq0]; omega) (fun w hR => ?_)
    have hR : Rel w (sn1 N p j) := hR
    refine wp_aload_n dX0_sendOf_20 rfl ?_
    refine wp_aload_n dX0_sendOf_21 rfl ?_
    refine wp_aload_n dX0_sendOf_22 rfl ?_
    refine wp_getR (hN.rls hp) dX0_sendOf_23 fX0_99 (hN.sl hp) ?_
    refine wp_iload dX0_sendOf_26 rfl ?_
    refine wp_callV (as := [_]) (ls0 := [_, _]) (kc := 0) (ks := 0) (bc' := 0) (bs' := 0) dX0_sendOf_28 vX0_122 (hN.ss hp) rfl rfl (Nat.le_of_ble_eq_true rfl) (Nat.le_of_ble_eq_true rfl) (by omega) (by omega) ?_
    refine c_numberAt (hN.lk hp).sS hR hBs ?_
    rw [mq0, if_pos (by omega), hcel2]
    refine wp_callV (as := [_, _]) (ls0 := [_, _, _]) (kc := 0) (ks := 0) (bc' := 0) (bs' := 0) dX0_sendOf_31 vX0_130 hN.s41 rfl rfl (Nat.le_of_ble_eq_true rfl) (Nat.le_of_ble_eq_true rfl) (by omega) (by omega) ?_
    refine f_comesOver (N1 := N1) hN hl hP hP2 hp hpF hR hBs (by rw [s368]; exact hfr) (by rw [s366]; exact hj) hc160 hK2 (fun h31 => ?_) (fun h31 => ?_)
    all_goals rw [hGot] at h31
    · refine wp_if_eq (tgt := 49) dX0_sendOf_34 rfl (fun q => absurd q (by decide)) (fun _ => ?_)
      refine wp_aload_n dX0_sendOf_37 rfl ?_
      refine wp_getR (hN.rls hp) dX0_sendOf_38 fX0_99 (hN.sl hp) ?_
      refine wp_iload dX0_sendOf_41 rfl ?_
      refine wp_callV (as := [_]) (ls0 := [_, _]) (kc := 0) (ks := 0) (bc' := 0) (bs' := 0) dX0_sendOf_43 vX0_134 (hN.ss hp) rfl rfl (Nat.le_of_ble_eq_true rfl) (Nat.le_of_ble_eq_true rfl) (by omega) (by omega) ?_
      refine c_countGot (hN.lk hp).sS hR hBs rfl (by rw [mq0]; omega) (fun w hR => ?_)
      have hR : Rel w (gc1 (sn1 N p j) p j) := hR
      refine wp_iinc (ls' := [_, _, _, _, _]) dX0_sendOf_46 (by decide) rfl rfl ⟨by omega, by omega⟩ rfl ?_
      refine wp_iinc (ls' := [_, _, _, _, _]) dX0_sendOf_49 (by decide) rfl rfl ⟨by omega, by omega⟩ rfl ?_
      refine wp_goto (tgt := 5) dX0_sendOf_52 rfl ?_
      first
      | (refine ih _ _ _ _ (by omega) (by omega) (by omega) (by omega) hR (hBs.bgc hp (by omega)) (hsn.gc hp (by omega)) (by unfold gc1; rw [up_n (by omega), e59]; exact hu1) (by unfold gc1; rw [up_n (by omega), e60]; exact hu2) (fun w hR => ?_)
         have h31' : Got E F N1 (sdv N1) p (N (61 * p + (bq 0 + j))) := by rw [hcel]; exact h31
         rw [sdX_t h31', sdC_t h31] at k
         rw [show gc1 (sn1 N p j) p j (61 * p + 57) = N (61 * p + 57) by unfold gc1; rw [up_n (by omega), e57]] at hR
         rw [show g + 1 + sdC (Got E F N1 (sdv N1) p) N1 p m (j + 1) = g + (1 + sdC (Got E F N1 (sdv N1) p) N1 p m (j + 1)) by omega] at hR ⊢
         exact k w hR)
      | (refine ih _ _ _ _ (by omega) (by omega) (by omega) (by omega) hR hBs hsn (by rw [e59]; exact hu1) (by rw [e60]; exact hu2) (fun w hR => ?_)
         have h31' : ¬ Got E F N1 (sdv N1) p (N (61 * p + (bq 0 + j))) := by rw [hcel]; exact h31
         rw [sdX_f h31', sdC_f h31] at k
         rw [e57] at hR
         exact k w hR)
    · refine wp_if_eq (tgt := 49) dX0_sendOf_34 rfl (fun _ => ?_) (fun q => absurd q (by decide))
      refine wp_iinc (ls' := [_, _, _, _, _]) dX0_sendOf_49 (by decide) rfl rfl ⟨by omega, by omega⟩ rfl ?_
      refine wp_goto (tgt := 5) dX0_sendOf_52 rfl ?_
      first
      | (refine ih _ _ _ _ (by omega) (by omega) (by omega) (by omega) hR (hBs.bgc hp (by omega)) (hsn.gc hp (by omega)) (by unfold gc1; rw [up_n (by omega), e59]; exact hu1) (by unfold gc1; rw [up_n (by omega), e60]; exact hu2) (fun w hR => ?_)
         have h31' : Got E F N1 (sdv N1) p (N (61 * p + (bq 0 + j))) := by rw [hcel]; exact h31
         rw [sdX_t h31', sdC_t h31] at k
         rw [show gc1 (sn1 N p j) p j (61 * p + 57) = N (61 * p + 57) by unfold gc1; rw [up_n (by omega), e57]] at hR
         rw [show g + 1 + sdC (Got E F N1 (sdv N1) p) N1 p m (j + 1) = g + (1 + sdC (Got E F N1 (sdv N1) p) N1 p m (j + 1)) by omega] at hR ⊢
         exact k w hR)
      | (refine ih _ _ _ _ (by omega) (by omega) (by omega) (by omega) hR hBs hsn (by rw [e59]; exact hu1) (by rw [e60]; exact hu2) (fun w hR => ?_)
         have h31' : ¬ Got E F N1 (sdv N1) p (N (61 * p + (bq 0 + j))) := by rw [hcel]; exact h31
         rw [sdX_f h31', sdC_f h31] at k
         rw [e57] at hR
         exact k w hR)
theorem f_sendOf {N1 : Int → Int} (hN : NtA sh rv iv b) (hl : PlA sh rv iv E F) (hP : Prm E F) (hP2 : Prm2 E F) (hp : 0 ≤ p ∧ p < 6) (hpF : p < F 13) (hB1 : Bok (E 5 0) (E 5 1) N1) (hfr : 0 ≤ N1 368 ∧ N1 368 ≤ 20000) (hj : 0 ≤ N1 366) (hS : ∀ a : Int, 0 ≤ a → a < F 13 → S a = sdv N1 a) (hRis : ∀ a : Int, 0 ≤ a → a < F 13 → Ris N1 a 0) (hKm : ∀ c : Int, 0 ≤ c → c < 160 → K c = mkB N1 S c (F 13).toNat) (hR : Rel w N) (hB : Bok (E 5 0) (E 5 1) N) (hSam : Sam N N1) (hu : N (61 * p + 59) ≤ 100000 ∧ N (61 * p + 60) ≤ 100000) (k : ∀ w', Rel w' (s2P E F N1 N p) → R (some (aI (gtn E F N1 p))) sh (uA (CD iv b D O T S K C) (12 + 42 * b) w') lw rv) : wp (d + 3) mX0_sendOf 0 [some (aR (41 + 39 * b)), some (aR (lid b p)), some (aI (S p)), none, none] [] sh (uA (CD iv b D O T S K C) (12 + 42 * b) w) lw rv 0 0 R := by
  have hs6 := sdv_r hB1 hp
  have hSp := hS p hp.1 hpF
  refine wp_iconst dX0_sendOf_0 ?_
  refine wp_istore_n (ls' := [_, _, _, _, _]) dX0_sendOf_1 (by decide) rfl rfl ?_
  refine wp_iconst dX0_sendOf_2 ?_
  refine wp_istore (ls' := [_, _, _, _, _]) dX0_sendOf_3 (by decide) rfl rfl ?_
  refine l_sendOf hN hl hP hP2 hp hpF hB1 hfr hj hS hRis hKm (S p).toNat 0 0 w N (by omega) (by omega) (by omega) (by omega) hR hB hSam hu.1 hu.2 (fun w hR => ?_)
  rw [Int.zero_add, hSp] at hR ⊢
  refine k w ?_
  unfold s2P
  rw [sdX_N _ _ _ (by omega) (by omega), sdC_c (N := N1) (N' := N)]
  · exact hR
  · intro j j0 j1; rw [bq0]; exact hSam.1 p (0 + j) hp.1 hp.2 (by omega)
end C12
