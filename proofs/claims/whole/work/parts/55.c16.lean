def Inv (E : aF) (F N : Int → Int) : Prop := Bok (E 5 0) (E 5 1) N ∧ (∀ a : Int, 0 ≤ a → a < F 13 → PI N a) ∧ (0 ≤ N 366 ∧ N 366 < 65536) ∧ (N 367 = 0 ∨ N 367 = 1) ∧ 0 ≤ N 368 ∧ ∀ a : Int, 0 ≤ a → a < F 13 → N (61 * a + 59) ≤ 6 * N 368 ∧ N (61 * a + 60) ≤ 6 * N 368
section C16a
variable {N N1 X T f pa : Int → Int} {E : aF} {F : Int → Int} {p q c k v W Of np t : Int}
theorem PI.tab (h : PI N p) (hX : RR X p) (e : ∀ k : Int, 26 ≤ k → X (61 * p + k) = N (61 * p + k)) (h0 : 0 ≤ N (61 * p + 48)) : PI X p := by
  refine ⟨?_, hX, fun a b => ?_, ?_⟩
  · have := h.1; unfold LetOK at *; rw [e 43 (by omega), e 44 (by omega), e 45 (by omega), e 46 (by omega), e 48 (by omega)]; exact this
  · rw [e 43 (by omega)] at a; rw [e 45 (by omega)] at b
    exact (h.2.2.1 a b).cg (e 48 (by omega)) (fun y y0 y1 => e (50 + y) (by omega))
  · have := h.2.2.2; unfold Pmz at *; rw [e 28 (by omega), e 33 (by omega)]; exact this
theorem PI.sto (h : PI N p) (hB : Bok W Of N) (hp : 0 ≤ p ∧ p < 6) (hq : q = 0 ∨ q = 1) : PI (stoF N p q) p := by
  have e : ∀ k : Int, 35 ≤ k → stoF N p q (61 * p + k) = N (61 * p + k) := fun k a => stoF_n (by omega) hq
  refine ⟨?_, h.2.1.cg hB hp (Kp.rf.sto hq), fun a b => ?_, ?_⟩
  · have := h.1; unfold LetOK at *; rw [e 43 (by omega), e 44 (by omega), e 45 (by omega), e 46 (by omega), e 48 (by omega)]; exact this
  · rw [e 43 (by omega)] at a; rw [e 45 (by omega)] at b
    exact (h.2.2.1 a b).cg (e 48 (by omega)) (fun y y0 y1 => e (50 + y) (by omega))
  · rcases hq with rfl | rfl
    · intro _; unfold stoF; rw [show (33 : Int) + 0 = 33 from rfl, up_s]
    · have := h.2.2.2; unfold Pmz stoF at *; rw [up_n (by omega), up_n (by omega), up_n (by omega), up_n (by omega)]; exact this
theorem PI.clr (h : PI N p) (hB : Bok W Of N) (hp : 0 ≤ p ∧ p < 6) (hq : q = 0 ∨ q = 1) : PI (clrF N p q) p := by
  have e : ∀ k : Int, 28 ≤ k → clrF N p q (61 * p + k) = N (61 * p + k) := fun k a => clrF_n hq (by have := mq_r hq; omega) (by omega)
  refine ⟨?_, h.2.1.clr hB hp hq, fun a b => ?_, ?_⟩
  · have := h.1; unfold LetOK at *; rw [e 43 (by omega), e 44 (by omega), e 45 (by omega), e 46 (by omega), e 48 (by omega)]; exact this
  · rw [e 43 (by omega)] at a; rw [e 45 (by omega)] at b
    exact (h.2.2.1 a b).cg (e 48 (by omega)) (fun y y0 y1 => e (50 + y) (by omega))
  · have := h.2.2.2; unfold Pmz at *; rw [e 28 (by omega), e 33 (by omega)]; exact this
theorem PI.stp (h : PI N p) (hB : Bok W Of N) (hp : 0 ≤ p ∧ p < 6) (hq : q = 0 ∨ q = 1) : PI (stpF N p q) p := by
  have e : ∀ k : Int, 28 ≤ k → stpF N p q (61 * p + k) = N (61 * p + k) := fun k a => by unfold stpF; rw [up_n (by omega)]
  refine ⟨?_, h.2.1.cg hB hp (Kp.rf.stp hq), fun a b => ?_, ?_⟩
  · have := h.1; unfold LetOK at *; rw [e 43 (by omega), e 44 (by omega), e 45 (by omega), e 46 (by omega), e 48 (by omega)]; exact this
  · rw [e 43 (by omega)] at a; rw [e 45 (by omega)] at b
    exact (h.2.2.1 a b).cg (e 48 (by omega)) (fun y y0 y1 => e (50 + y) (by omega))
  · have := h.2.2.2; unfold Pmz at *; rw [e 28 (by omega), e 33 (by omega)]; exact this
theorem bok43 (hB : Bok W Of N) : Bok W Of (up N (61 * p + 43) 0) := hB.bup (by omega) (by rw [k43]; omega)
theorem PI.cf (h : PI N p) (hB : Bok W Of N) (hp : 0 ≤ p ∧ p < 6) : PI (cfF N p) p := by
  have hBd : Bok W Of (up N (61 * p + 43) 0) := bok43 hB
  have hd := h.drop hB hp
  have m48 := hB.v48 hp
  have e48 : up N (61 * p + 43) 0 (61 * p + 48) = N (61 * p + 48) := up_n (by omega)
  have hV : ∀ j : Int, 0 ≤ j → j < 0 + ((N (61 * p + 48)).toNat : Int) → Vc W Of (tld N p j) := fun j a b => hB.lcl hp (by omega)
  have hI := RR.insa (q := 1) hp (Or.inr rfl) _ _ _ hV hBd hd.2.1
  have hBI := Bok.binsA (q := 1) hp (Or.inr rfl) _ _ _ hV hBd
  have hT := hd.tab hI (fun k a => insA_k hp (Or.inr rfl) a _ _ _ hV hBd) (by omega)
  unfold cfF
  split
  · exact hd
  · split
    · exact (hT.stp hBI hp (Or.inr rfl)).sto (hBI.bstpF hp (Or.inr rfl)) hp (Or.inr rfl)
    · exact hT.sto hBI hp (Or.inr rfl)
theorem PI.an (h : PI N p) (hP : Prm E F) (hB : Bok (E 5 0) (E 5 1) N) (hp : 0 ≤ p ∧ p < 6) (hu : N (61 * p + 43) = 1) (hs : N (61 * p + 44) = 1) : PI (anF E F N p) p := by
  have hBd : Bok (E 5 0) (E 5 1) (up N (61 * p + 43) 0) := bok43 hB
  have hB0 : Bok (E 5 0) (E 5 1) (stoF (up N (61 * p + 43) 0) p 0) := hBd.bstoF (Or.inl rfl)
  have h0 : PI (stoF (up N (61 * p + 43) 0) p 0) p := (h.drop hB hp).sto hBd hp (Or.inl rfl)
  have m48 := hB.v48 hp
  have m45 := hB.v45 hp
  have m49 := hB.v49 hp
  have z48 := hB0.v48 hp
  have hV : ∀ j : Int, 0 ≤ j → j < 0 + ((N (61 * p + 48)).toNat : Int) → Vc (E 5 0) (E 5 1) (tld N p j) := fun j a b => hB.lcl hp (by omega)
  unfold anF
  split
  · exact h0.beg hP hB0 hp (by omega) (by omega) (by omega)
  split
  · rename_i h46
    unfold okF
    split
    · rename_i c0
      have hBw : Bok (E 5 0) (E 5 1) (wriF (stoF (up N (61 * p + 43) 0) p 0) p 2 0 (-1) (N (61 * p + 49))) := hB0.bwriF hp (by omega) (by omega) (by omega) m49
      have hBX := Bok.btkI (pa := E 6) (np := F 13) (q := 0) (most := N (61 * p + 49)) hp (Or.inl rfl) _ 0 0 _ hV (by rw [wriF_48]; omega) hBw
      have hk : ∀ k : Int, 26 ≤ k ∧ (k < 48 ∨ k = 49) → tkI (E 6) (tld N p) (F 13) p 0 (N (61 * p + 49)) (N (61 * p + 48)).toNat 0 0 (wriF (stoF (up N (61 * p + 43) 0) p 0) p 2 0 (-1) (N (61 * p + 49))) (61 * p + k) = wriF (stoF (up N (61 * p + 43) 0) p 0) p 2 0 (-1) (N (61 * p + 49)) (61 * p + k) := fun k a => tkI_k a hp (Or.inl rfl) _ _ _ _ hV (by rw [wriF_48]; omega) hBw
      have hX : PI (tkI (E 6) (tld N p) (F 13) p 0 (N (61 * p + 49)) (N (61 * p + 48)).toNat 0 0 (wriF (stoF (up N (61 * p + 43) 0) p 0) p 2 0 (-1) (N (61 * p + 49)))) p := by
        refine ⟨LetOK.z (Or.inr (Or.inl (by rw [hk 44 (by omega), wriF_44]; decide))), RR.tki hp (Or.inl rfl) _ _ _ _ hV (by rw [wriF_48]; omega) hBw (h0.2.1.cg hB0 hp Kp.rf.wri), fun a b => ?_, fun _ => ?_⟩
        · exact Dl.tki hp (Or.inl rfl) _ _ _ _ hV (by rw [wriF_48]; omega) hBw (Dl.z wriF_48) (fun y z a b g => h.2.2.1 hu c0.1 y z a b (by omega)) (fun y z a b g e => by rw [wriF_48] at b; omega)
        · rw [hk 33 (by omega), wriF_n (by omega)]; unfold stoF; rw [show (33 : Int) + 0 = 33 from rfl, up_s]
      split
      · exact hX.stp hBX hp (Or.inl rfl)
      · exact hX
    · split
      · exact h0.clr hB0 hp (Or.inl rfl)
      · rename_i c0 c3
        have e2 : N (61 * p + 45) = 2 → N (61 * p + 48) = 2 := fun z => h.1 hu hs h46 z
        split
        · have hBI := Bok.binsA (q := 0) hp (Or.inl rfl) _ _ _ hV hB0
          exact (h0.tab (RR.insa (q := 0) hp (Or.inl rfl) _ _ _ hV hB0 h0.2.1) (fun k a => insA_k hp (Or.inl rfl) a _ _ _ hV hB0) z48.1).stp hBI hp (Or.inl rfl)
        · split
          · rename_i c2
            split
            · exact h0.stp hB0 hp (Or.inl rfl)
            · have hB1 := hB0.bremF (c := tld N p 0) hp (Or.inl rfl)
              have hv1 := hV 1 (by omega) (by have := e2 c2; omega)
              have hB2 := hB1.binsF hp (Or.inl rfl) hv1
              exact (h0.tab ((h0.2.1.rem hB0 hp (Or.inl rfl)).ins hB1 hp (Or.inl rfl)) (fun k a => by rw [ins48 hB1 hp (Or.inl rfl) a, rem48 hB0 hp (Or.inl rfl) a]) z48.1).stp hB2 hp (Or.inl rfl)
          · have hBI := Bok.bremA (f := tld N p) (q := 0) hp (Or.inl rfl) (N (61 * p + 48)).toNat 0 _ hB0
            exact (h0.tab (RR.rema (q := 0) hp (Or.inl rfl) _ _ _ hB0 h0.2.1) (fun k a => remA_k hp (Or.inl rfl) a _ _ _ hB0) z48.1).stp hBI hp (Or.inl rfl)
  · exact h0
theorem PI.rd (h : PI N p) (hP : Prm E F) (hB : Bok (E 5 0) (E 5 1) N) (hp : 0 ≤ p ∧ p < 6) : PI (rdP E F N p) p := by
  unfold rdP
  split
  · rename_i hu
    split
    · exact h.rq hP hB hp hu
    · split
      · rename_i h1
        exact h.an hP hB hp hu h1
      · exact h.cf hB hp
  · exact h
theorem PI.to (h : PI N p) (hB : Bok W Of N) (hp : 0 ≤ p ∧ p < 6) (hq : q = 0 ∨ q = 1) : PI (toS N t p q) p := by
  unfold toS
  split
  · split
    · exact (h.sto hB hp hq).clr (hB.bstoF hq) hp (Or.inl rfl)
    · exact h.sto hB hp hq
  · exact h
theorem wn1_bok (hB : Bok W Of N) : Bok W Of (wn1 N p) := (hB.bup (k := 59) (by omega) (by rw [k59]; omega)).bup (by omega) (by rw [k60]; omega)
theorem PI.wn (h : PI N p) (hP : Prm E F) (hB : Bok (E 5 0) (E 5 1) N) (hp : 0 ≤ p ∧ p < 6) : PI (wnF E F N p) p := by
  have hB1 : Bok (E 5 0) (E 5 1) (wn1 N p) := wn1_bok hB
  have h1 : PI (wn1 N p) p := h.cg hB hp (fun k a => wn1_n (by omega))
  have h18 := hB1.v18 hp
  have hbr := bad_r (N := wn1 N p) (p := p) h18.1
  unfold wnF
  repeat' split
  · exact h1
  · exact h1.beg hP hB1 hp (by omega) (by omega) (by omega)
  · exact h1.beg hP hB1 hp (by omega) (by omega) (by omega)
  · exact h1
  · exact h1.beg hP hB1 hp (by omega) (by omega) (by omega)
theorem PI.loc {a : Int} (h : PI N a) (hB : Bok W Of N) (ha : 0 ≤ a ∧ a < 6) (hl : ∀ j : Int, j < 61 * p ∨ 61 * p + 61 ≤ j → X j = N j) (hne : ¬ a = p) : PI X a := h.cg hB ha (fun k b => hl _ (by omega))
theorem PI.all (h : ∀ a : Int, 0 ≤ a → a < np → PI N a) (hnp : np ≤ 6) (hB : Bok W Of N) (hl : ∀ j : Int, j < 61 * p ∨ 61 * p + 61 ≤ j → X j = N j) (hX : PI X p) : ∀ a : Int, 0 ≤ a → a < np → PI X a := fun a a0 a1 => by
  by_cases e : a = p
  · rw [e]; exact hX
  · exact (h a a0 a1).loc hB ⟨a0, by omega⟩ hl e
theorem rdL_pi (hP : Prm E F) (m : Nat) : ∀ (p : Int) (N : Int → Int), 0 ≤ p → p + m = F 13 → Bok (E 5 0) (E 5 1) N → (0 ≤ N 368 ∧ N 368 ≤ 20000) → (∀ a : Int, 0 ≤ a → a < F 13 → PI N a) → ∀ a : Int, 0 ≤ a → a < F 13 → PI (rdL E F m p N) a := by
  obtain ⟨hW1, hW2, hO1, hO2, hT1, hT2, hI1, hI2, hF1, hF2⟩ := id hP
  induction m with
  | zero => intro p N _ _ _ _ h; exact h
  | succ m ih =>
    intro p N h0 hm hB hfr h
    have hp : 0 ≤ p ∧ p < 6 := by omega
    have h1 := rdP_ok hB hp hP hfr (h p h0 (by omega)).1
    rw [rdL]
    exact ih _ _ (by omega) (by omega) h1.1 (by rw [h1.2 368 (by omega)]; exact hfr) (PI.all h hF2 hB (fun j hj => h1.2 j (by omega)) ((h p h0 (by omega)).rd hP hB hp))
theorem toS2_pi (h : PI N p) (hB : Bok W Of N) (hp : 0 ≤ p ∧ p < 6) : PI (toS (toS N t p 0) t p 1) p := by
  have h1 := toS_ok (iv := fun _ j => if j = 0 then W else Of) (t := t) (p := p) (q := 0) hB (Or.inl rfl)
  exact (h.to hB hp (Or.inl rfl)).to h1.1 hp (Or.inr rfl)
theorem toS2_ok (hB : Bok (E 5 0) (E 5 1) N) : Bok (E 5 0) (E 5 1) (toS (toS N t p 0) t p 1) ∧ Loc p N (toS (toS N t p 0) t p 1) := by
  have h1 := toS_ok (iv := E) (t := t) (p := p) (q := 0) hB (Or.inl rfl)
  have h2 := toS_ok (iv := E) (t := t) (p := p) (q := 1) h1.1 (Or.inr rfl)
  exact ⟨h2.1, h1.2.tr h2.2⟩
theorem toL_pi (hF : F 13 ≤ 6) (m : Nat) : ∀ (p : Int) (N : Int → Int), 0 ≤ p → p + m = F 13 → Bok (E 5 0) (E 5 1) N → (∀ a : Int, 0 ≤ a → a < F 13 → PI N a) → ∀ a : Int, 0 ≤ a → a < F 13 → PI (toL t m p N) a := by
  induction m with
  | zero => intro p N _ _ _ h; exact h
  | succ m ih =>
    intro p N h0 hm hB h
    have h1 := toS2_ok (t := t) (p := p) hB
    rw [toL]
    exact ih _ _ (by omega) (by omega) h1.1 (PI.all h hF hB (fun j hj => h1.2 j (by omega)) (toS2_pi (h p h0 (by omega)) hB (by omega)))
theorem wn_59 (hP : Prm E F) (hB : Bok (E 5 0) (E 5 1) N) (hp : 0 ≤ p ∧ p < 6) : wnF E F N p (61 * p + 59) = 0 ∧ wnF E F N p (61 * p + 60) = 0 := by
  have hB1 : Bok (E 5 0) (E 5 1) (wn1 N p) := wn1_bok hB
  have h18 := hB1.v18 hp
  have hbr := bad_r (N := wn1 N p) (p := p) h18.1
  have e9 : wn1 N p (61 * p + 59) = 0 := by unfold wn1; rw [up_n (by omega), up_s]
  have e0 : wn1 N p (61 * p + 60) = 0 := by unfold wn1; rw [up_s]
  have hb : ∀ kd n : Int, (0 ≤ n ∧ n < 6) → (0 ≤ kd ∧ kd ≤ 3) → (kd ≤ 1 → n ≤ 3) → begF E F (wn1 N p) p kd n (61 * p + 59) = 0 ∧ begF E F (wn1 N p) p kd n (61 * p + 60) = 0 := fun kd n a b c => by
    rw [Loc.lbegF hB1 hp hP a b c _ (by omega), Loc.lbegF hB1 hp hP a b c _ (by omega)]; exact ⟨e9, e0⟩
  unfold wnF
  repeat' split
  · exact ⟨e9, e0⟩
  · exact hb _ _ (by omega) (by omega) (by omega)
  · exact hb _ _ (by omega) (by omega) (by omega)
  · exact ⟨e9, e0⟩
  · exact hb _ _ (by omega) (by omega) (by omega)
theorem wnL_ok (hP : Prm E F) (m : Nat) : ∀ (p : Int) (N : Int → Int), 0 ≤ p → p + m = F 13 → Bok (E 5 0) (E 5 1) N → (0 ≤ N 368 ∧ N 368 ≤ 20000) → (∀ a : Int, 0 ≤ a → a < F 13 → PI N a) → Bok (E 5 0) (E 5 1) (wnL E F m p N) ∧ (∀ a : Int, 0 ≤ a → a < F 13 → PI (wnL E F m p N) a) ∧ (∀ j : Int, 366 ≤ j → wnL E F m p N j = N j) ∧ (∀ a : Int, 0 ≤ a → a < F 13 → wnL E F m p N (61 * a + 59) ≤ N (61 * a + 59) ∧ wnL E F m p N (61 * a + 60) ≤ N (61 * a + 60)) := by
  obtain ⟨hW1, hW2, hO1, hO2, hT1, hT2, hI1, hI2, hF1, hF2⟩ := id hP
  induction m with
  | zero => intro p N _ _ hB _ h; exact ⟨hB, h, fun _ _ => rfl, fun _ _ _ => ⟨Int.le_refl _, Int.le_refl _⟩⟩
  | succ m ih =>
    intro p N h0 hm hB hfr h
    have hp : 0 ≤ p ∧ p < 6 := by omega
    have h1 := wnF_ok hp hP hB hfr
    have h9 := wn_59 hP hB hp
    have b9 := hB p 59 h0 (by omega) (by omega) (by omega)
    have b0 := hB p 60 h0 (by omega) (by omega) (by omega)
    rw [k59] at b9
    rw [k60] at b0
    have h2 := ih (p + 1) _ (by omega) (by omega) h1.1 (by rw [h1.2 368 (by omega)]; exact hfr) (PI.all h hF2 hB h1.2 ((h p h0 (by omega)).wn hP hB hp))
    rw [wnL]
    refine ⟨h2.1, h2.2.1, fun j hj => by rw [h2.2.2.1 j hj, h1.2 j (by omega)], fun a a0 a1 => ?_⟩
    have h3 := h2.2.2.2 a a0 a1
    by_cases e : a = p
    · subst e; omega
    · rw [h1.2 _ (by omega), h1.2 _ (by omega)] at h3; exact h3
/-- the state when letters are read, waiting has run out, queues have grown -/
noncomputable def preF (E : aF) (F N : Int → Int) : Int → Int := quL (F 13).toNat 0 (toL (E 5 2) (F 13).toNat 0 (rdL E F (F 13).toNat 0 N))
theorem Inv.mid (hP : Prm E F) (h : Inv E F N) (hfr : N 368 ≤ 14000) :
    (Bok (E 5 0) (E 5 1) (rdL E F (F 13).toNat 0 N) ∧ (∀ j : Int, 366 ≤ j → rdL E F (F 13).toNat 0 N j = N j) ∧ (∀ a : Int, 0 ≤ a → a < F 13 → PI (rdL E F (F 13).toNat 0 N) a)) ∧
    (Bok (E 5 0) (E 5 1) (toL (E 5 2) (F 13).toNat 0 (rdL E F (F 13).toNat 0 N)) ∧ (∀ j : Int, 366 ≤ j → toL (E 5 2) (F 13).toNat 0 (rdL E F (F 13).toNat 0 N) j = N j) ∧ (∀ a : Int, 0 ≤ a → a < F 13 → PI (toL (E 5 2) (F 13).toNat 0 (rdL E F (F 13).toNat 0 N)) a) ∧ (∀ a : Int, 0 ≤ a → a < F 13 → toL (E 5 2) (F 13).toNat 0 (rdL E F (F 13).toNat 0 N) (61 * a + 59) ≤ 6 * N 368 ∧ toL (E 5 2) (F 13).toNat 0 (rdL E F (F 13).toNat 0 N) (61 * a + 60) ≤ 6 * N 368)) ∧
    (Bok (E 5 0) (E 5 1) (s2L E F (preF E F N) (F 13).toNat 0 (preF E F N)) ∧ (∀ j : Int, 366 ≤ j → s2L E F (preF E F N) (F 13).toNat 0 (preF E F N) j = N j) ∧ (∀ a : Int, 0 ≤ a → a < F 13 → PI (s2L E F (preF E F N) (F 13).toNat 0 (preF E F N)) a) ∧ (∀ a : Int, 0 ≤ a → a < F 13 → s2L E F (preF E F N) (F 13).toNat 0 (preF E F N) (61 * a + 59) ≤ 6 * N 368 + 6 ∧ s2L E F (preF E F N) (F 13).toNat 0 (preF E F N) (61 * a + 60) ≤ 6 * N 368 + 6)) := by
  obtain ⟨hW1, hW2, hO1, hO2, hT1, hT2, hI1, hI2, hF1, hF2⟩ := id hP
  obtain ⟨hB, hPI, hj, ha, h0, hU⟩ := h
  have r1 := rdL_ok hP (F 13).toNat 0 N (by omega) (by omega) hB (by omega) (fun a x y => (hPI a x y).1)
  have p1 := rdL_pi hP (F 13).toNat 0 N (by omega) (by omega) hB (by omega) hPI
  have r2 := toL_ok (iv := E) (t := E 5 2) hF2 (F 13).toNat 0 _ (by omega) (by omega) r1.1
  have p2 := toL_pi (E := E) (t := E 5 2) hF2 (F 13).toNat 0 _ (by omega) (by omega) r1.1 p1
  have u2 : ∀ a : Int, 0 ≤ a → a < F 13 → toL (E 5 2) (F 13).toNat 0 (rdL E F (F 13).toNat 0 N) (61 * a + 59) ≤ 6 * N 368 ∧ toL (E 5 2) (F 13).toNat 0 (rdL E F (F 13).toNat 0 N) (61 * a + 60) ≤ 6 * N 368 := fun a x y => by
    rw [r2.2.2 a 59 (by omega) (by omega), r2.2.2 a 60 (by omega) (by omega), r1.2.2 a 59 (by omega) (by omega), r1.2.2 a 60 (by omega) (by omega)]; exact hU a x y
  have hB3 : Bok (E 5 0) (E 5 1) (preF E F N) := Bok.bquL (F 13).toNat 0 _ (by omega) (by omega) r2.1
  have hqn : ∀ j : Int, (∀ a : Int, 0 ≤ a → a < F 13 → ¬ j = 61 * a + 57) → preF E F N j = toL (E 5 2) (F 13).toNat 0 (rdL E F (F 13).toNat 0 N) j := fun j h => quL_n _ _ _ _ (fun a x y => h a x (by omega))
  have p3 : ∀ a : Int, 0 ≤ a → a < F 13 → PI (preF E F N) a := fun a x y => (p2 a x y).cg r2.1 (by omega) (fun k hk => hqn _ (fun b z w => by omega))
  have r4 := s2L_ok (iv := E) (F := F) hF2 hB3 (F 13).toNat 0 _ (by omega) (by omega) hB3 Sam.rf (fun _ _ _ _ _ _ => rfl)
  refine ⟨⟨r1.1, r1.2.1, p1⟩, ⟨r2.1, fun j hj => by rw [r2.2.1 j hj, r1.2.1 j hj], p2, u2⟩, r4.1, fun j hj => by rw [r4.2.1.2 j hj, hqn j (fun a x y => by omega), r2.2.1 j hj, r1.2.1 j hj], fun a x y => (p3 a x y).cg hB3 (by omega) (fun k hk => r4.2.1.1 a k x (by omega) (by omega)), fun a x y => ?_⟩
  have u := u2 a x y
  have s6 := sdv_r (p := a) hB3 ⟨x, by omega⟩
  have m6 := hB3.v18 (p := a) ⟨x, by omega⟩
  rw [(r4.2.2.1 a x y).1, (r4.2.2.1 a x y).2, hqn (61 * a + 59) (fun b z w => by omega), hqn (61 * a + 60) (fun b z w => by omega)]
  omega
theorem livF_eq : livF E F N = up (if (N 368 + 1) % E 5 3 = 0 then wnL E F (F 13).toNat 0 (s2L E F (preF E F N) (F 13).toNat 0 (preF E F N)) else s2L E F (preF E F N) (F 13).toNat 0 (preF E F N)) 368 (N 368 + 1) := rfl
theorem Inv.liv (hP : Prm E F) (h : Inv E F N) (hfr : N 368 ≤ 14000) : Inv E F (livF E F N) ∧ livF E F N 368 = N 368 + 1 ∧ ∀ j : Int, 366 ≤ j → ¬ j = 368 → livF E F N j = N j := by
  obtain ⟨hW1, hW2, hO1, hO2, hT1, hT2, hI1, hI2, hF1, hF2⟩ := id hP
  obtain ⟨-, -, hB4, hj4, p4, u4⟩ := Inv.mid hP h hfr
  obtain ⟨hB, hPI, hj, ha, h0, hU⟩ := h
  have fin : ∀ X : Int → Int, Bok (E 5 0) (E 5 1) X → (∀ a : Int, 0 ≤ a → a < F 13 → PI X a) → (∀ j : Int, 366 ≤ j → X j = N j) → (∀ a : Int, 0 ≤ a → a < F 13 → X (61 * a + 59) ≤ 6 * N 368 + 6 ∧ X (61 * a + 60) ≤ 6 * N 368 + 6) → Inv E F (up X 368 (N 368 + 1)) ∧ up X 368 (N 368 + 1) 368 = N 368 + 1 ∧ ∀ j : Int, 366 ≤ j → ¬ j = 368 → up X 368 (N 368 + 1) j = N j := fun X hX pX jX uX => by
    refine ⟨⟨hX.far (by omega), fun a x y => (pX a x y).cg hX (by omega) (fun k hk => up_n (by omega)), ?_, ?_, ?_, fun a x y => ?_⟩, up_s, fun j a b => by rw [up_n b, jX j a]⟩
    · rw [up_n (by omega), jX 366 (by omega)]; exact hj
    · rw [up_n (by omega), jX 367 (by omega)]; exact ha
    · rw [up_s]; omega
    · rw [up_n (show ¬ 61 * a + 59 = 368 by omega), up_n (show ¬ 61 * a + 60 = 368 by omega), up_s]; have := uX a x y; omega
  rw [livF_eq]
  split
  · have h5 := wnL_ok hP (F 13).toNat 0 _ (by omega) (by omega) hB4 (by rw [hj4 368 (by omega)]; omega) p4
    exact fin _ h5.1 h5.2.1 (fun j hj => by rw [h5.2.2.1 j hj, hj4 j hj]) (fun a x y => by have h6 := h5.2.2.2 a x y; have h7 := u4 a x y; omega)
  · exact fin _ hB4 p4 hj4 u4
end C16a
section C16
variable {d b : Nat} {sh : aSh} {iv lw E : aF} {rv : aP} {D O T S K C w N F : Int → Int} {R : aPost} {p : Int}
theorem l_pf1 (hN : NtA sh rv iv b) (hl : PlA sh rv iv E F) (hP : Prm E F) (m : Nat) : ∀ (p : Int) (w N D O T : Int → Int) (v3 v4 : Option aV), 0 ≤ p → p + m = F 13 → Rel w N → Bok (E 5 0) (E 5 1) N → (0 ≤ N 368 ∧ N 368 ≤ 20000) → (∀ a : Int, 0 ≤ a → a < F 13 → PI N a) → (∀ (w' D' O' T' : Int → Int) (v2 v3' v4' : Option aV), Rel w' (rdL E F m p N) → wp (d + 5) mX0_passFrame 102 [some (aR (41 + 39 * b)), some (aI (F 13)), v2, v3', v4'] [] sh (uA (CD iv b D' O' T' S K C) (12 + 42 * b) w') lw rv 0 0 R) → wp (d + 5) mX0_passFrame 10 [some (aR (41 + 39 * b)), some (aI (F 13)), some (aI p), v3, v4] [] sh (uA (CD iv b D O T S K C) (12 + 42 * b) w) lw rv 0 0 R := by
  obtain ⟨hW1, hW2, hO1, hO2, hT1, hT2, hI1, hI2, hF1, hF2⟩ := id hP
  induction m with
  | zero =>
    intro p w N D O T v3 v4 h0 hm hR hB hfr hPI k
    refine wp_iload_n dX0_passFrame_10 rfl ?_
    refine wp_iload_n dX0_passFrame_11 rfl ?_
    refine wp_icmp_ge (tgt := 102) dX0_passFrame_12 rfl (fun _ => ?_) (fun h12 => by exfalso; omega)
    exact k w D O T _ _ _ hR
  | succ m ih =>
    intro p w N D O T v3 v4 h0 hm hR hB hfr hPI k
    have hp : 0 ≤ p ∧ p < 6 := by omega
    have hpF : p < F 13 := by omega
    have hpi := hPI p h0 hpF
    have h1 := rdP_ok hB hp hP hfr hpi.1
    have m44 := hB.v44 hp
    have m43 := hB.v43 hp
    refine wp_iload_n dX0_passFrame_10 rfl ?_
    refine wp_iload_n dX0_passFrame_11 rfl ?_
    refine wp_icmp_ge (tgt := 102) dX0_passFrame_12 rfl (fun h12 => by exfalso; omega) (fun h12 => ?_)
    refine wp_aload_n dX0_passFrame_15 rfl ?_
    refine wp_getR hN.r41n dX0_passFrame_16 fX0_21 hN.s41 ?_
    refine wp_getR hN.r11l dX0_passFrame_19 fX0_42 hN.s11 ?_
    refine wp_iload_n dX0_passFrame_22 rfl ?_
    refine wp_aaldL dX0_passFrame_23 hN.s13 (by omega) (by omega) (hN.r13 hp) ?_
    refine wp_astore_n (ls' := [_, _, _, _, _]) dX0_passFrame_24 (by decide) rfl rfl ?_
    refine wp_aload_n dX0_passFrame_25 rfl ?_
    refine wp_getR (hN.rlm hp) dX0_passFrame_26 fX0_46 (hN.sl hp) ?_
    refine wp_callV (as := []) (ls0 := [_]) (kc := 0) (ks := 0) (bc' := 0) (bs' := 0) dX0_passFrame_29 vX0_52 (hN.sm hp) rfl rfl (Nat.le_of_ble_eq_true rfl) (Nat.le_of_ble_eq_true rfl) (by omega) (by omega) ?_
    refine t_isUnderWay (hN.lk hp).sM hR (fun h29 => ?_) (fun h29 => ?_)
    · refine wp_if_eq (tgt := 46) dX0_passFrame_32 rfl (fun q => absurd q (by decide)) (fun _ => ?_)
      refine wp_aload_n dX0_passFrame_35 rfl ?_
      refine wp_getR hN.r41d dX0_passFrame_36 fX0_32 hN.s41 ?_
      refine wp_aload_n dX0_passFrame_39 rfl ?_
      refine wp_callV (as := [_]) (ls0 := [_, _, _]) (kc := 0) (ks := 0) (bc' := 0) (bs' := 0) dX0_passFrame_40 vX0_58 hN.s38 rfl rfl (Nat.le_of_ble_eq_true rfl) (Nat.le_of_ble_eq_true rfl) (by omega) (by omega) ?_
      refine e_open hN hp hR hB (fun D T w hD5 hTl hR => ?_)
      refine wp_goto (tgt := 47) dX0_passFrame_43 rfl ?_
      refine wp_istore (ls' := [_, _, _, _, _]) dX0_passFrame_47 (by decide) rfl rfl ?_
      refine wp_iload dX0_passFrame_49 rfl ?_
      refine wp_if_ne (tgt := 65) dX0_passFrame_51 rfl (fun h51 => ?_) (fun h51 => ?_)
      · refine wp_iload dX0_passFrame_65 rfl ?_
        refine wp_iconst dX0_passFrame_67 ?_
        refine wp_icmp_ne (tgt := 82) dX0_passFrame_68 rfl (fun h68 => ?_) (fun h68 => ?_)
        · refine wp_iload dX0_passFrame_82 rfl ?_
          refine wp_iconst dX0_passFrame_84 ?_
          refine wp_icmp_ne (tgt := 96) dX0_passFrame_85 rfl (fun h85 => by exfalso; omega) (fun h85 => ?_)
          refine wp_aload_n dX0_passFrame_88 rfl ?_
          refine wp_getR hN.r41d dX0_passFrame_89 fX0_32 hN.s41 ?_
          refine wp_aload_n dX0_passFrame_92 rfl ?_
          refine wp_callV (as := [_]) (ls0 := [_, _, _]) (kc := 0) (ks := 0) (bc' := 0) (bs' := 0) dX0_passFrame_93 vX0_71 hN.s38 rfl rfl (Nat.le_of_ble_eq_true rfl) (Nat.le_of_ble_eq_true rfl) (by omega) (by omega) ?_
          have er : rdP E F N p = cfF N p := by
            unfold rdP; rw [if_pos h29, if_neg h51, if_neg h68]
          refine e_readConfirm hN hl hP hp hpF hR hB hTl hD5 (fun D O w hR => ?_)
          refine wp_iinc (ls' := [_, _, _, _, _]) dX0_passFrame_96 (by decide) rfl rfl ⟨by omega, by omega⟩ rfl ?_
          refine wp_goto (tgt := 10) dX0_passFrame_99 rfl ?_
          have hpi' := hpi.rd hP hB hp
          rw [er] at h1 hpi'
          exact ih _ _ _ _ _ _ _ _ (by omega) (by omega) hR h1.1 (by rw [h1.2 368 (by omega)]; exact hfr) (PI.all hPI hF2 hB (fun j hj => h1.2 j (by omega)) hpi') (by rw [rdL, er] at k; exact k)
        · refine wp_aload_n dX0_passFrame_71 rfl ?_
          refine wp_getR hN.r41d dX0_passFrame_72 fX0_32 hN.s41 ?_
          refine wp_aload_n dX0_passFrame_75 rfl ?_
          refine wp_callV (as := [_]) (ls0 := [_, _, _, _, _]) (kc := 0) (ks := 0) (bc' := 0) (bs' := 0) dX0_passFrame_76 vX0_68 hN.s38 rfl rfl (Nat.le_of_ble_eq_true rfl) (Nat.le_of_ble_eq_true rfl) (by omega) (by omega) ?_
          have er : rdP E F N p = anF E F N p := by
            unfold rdP; rw [if_pos h29, if_neg h51, if_pos h68]
          refine e_readAnswer hN hl hP hp hpF hR hB hTl hD5 hfr (fun z => hpi.2.2.1 h29 z) (fun z y => hpi.1 h29 h68 z y) (fun D O w hR => ?_)
          refine wp_goto (tgt := 96) dX0_passFrame_79 rfl ?_
          refine wp_iinc (ls' := [_, _, _, _, _]) dX0_passFrame_96 (by decide) rfl rfl ⟨by omega, by omega⟩ rfl ?_
          refine wp_goto (tgt := 10) dX0_passFrame_99 rfl ?_
          have hpi' := hpi.rd hP hB hp
          rw [er] at h1 hpi'
          exact ih _ _ _ _ _ _ _ _ (by omega) (by omega) hR h1.1 (by rw [h1.2 368 (by omega)]; exact hfr) (PI.all hPI hF2 hB (fun j hj => h1.2 j (by omega)) hpi') (by rw [rdL, er] at k; exact k)
      · refine wp_aload_n dX0_passFrame_54 rfl ?_
        refine wp_getR hN.r41d dX0_passFrame_55 fX0_32 hN.s41 ?_
        refine wp_aload_n dX0_passFrame_58 rfl ?_
        refine wp_callV (as := [_]) (ls0 := [_, _, _]) (kc := 0) (ks := 0) (bc' := 0) (bs' := 0) dX0_passFrame_59 vX0_64 hN.s38 rfl rfl (Nat.le_of_ble_eq_true rfl) (Nat.le_of_ble_eq_true rfl) (by omega) (by omega) ?_
        have er : rdP E F N p = rqF E F N p := by
          unfold rdP; rw [if_pos h29, if_pos h51]
        refine e_readRequest hN hl hP hp hpF hR hB hTl hD5 hfr (fun z => hpi.2.2.1 h29 z) (fun D O w hR => ?_)
        refine wp_goto (tgt := 96) dX0_passFrame_62 rfl ?_
        refine wp_iinc (ls' := [_, _, _, _, _]) dX0_passFrame_96 (by decide) rfl rfl ⟨by omega, by omega⟩ rfl ?_
        refine wp_goto (tgt := 10) dX0_passFrame_99 rfl ?_
        have hpi' := hpi.rd hP hB hp
        rw [er] at h1 hpi'
        exact ih _ _ _ _ _ _ _ _ (by omega) (by omega) hR h1.1 (by rw [h1.2 368 (by omega)]; exact hfr) (PI.all hPI hF2 hB (fun j hj => h1.2 j (by omega)) hpi') (by rw [rdL, er] at k; exact k)
    · have er : rdP E F N p = N := by
        unfold rdP; rw [if_neg h29]
      refine wp_if_eq (tgt := 46) dX0_passFrame_32 rfl (fun _ => ?_) (fun q => absurd q (by decide))
      refine wp_iconst dX0_passFrame_46 ?_
      refine wp_istore (ls' := [_, _, _, _, _]) dX0_passFrame_47 (by decide) rfl rfl ?_
      refine wp_iload dX0_passFrame_49 rfl ?_
      refine wp_if_ne (tgt := 65) dX0_passFrame_51 rfl (fun _ => ?_) (fun q => absurd q (by decide))
      refine wp_iload dX0_passFrame_65 rfl ?_
      refine wp_iconst dX0_passFrame_67 ?_
      refine wp_icmp_ne (tgt := 82) dX0_passFrame_68 rfl (fun _ => ?_) (fun q => absurd q (by decide))
      refine wp_iload dX0_passFrame_82 rfl ?_
      refine wp_iconst dX0_passFrame_84 ?_
      refine wp_icmp_ne (tgt := 96) dX0_passFrame_85 rfl (fun _ => ?_) (fun q => absurd q (by decide))
      refine wp_iinc (ls' := [_, _, _, _, _]) dX0_passFrame_96 (by decide) rfl rfl ⟨by omega, by omega⟩ rfl ?_
      refine wp_goto (tgt := 10) dX0_passFrame_99 rfl ?_
      have hpi' := hpi.rd hP hB hp
      rw [er] at h1 hpi'
      exact ih _ _ _ _ _ _ _ _ (by omega) (by omega) hR h1.1 (by rw [h1.2 368 (by omega)]; exact hfr) (PI.all hPI hF2 hB (fun j hj => h1.2 j (by omega)) hpi') (by rw [rdL, er] at k; exact k)
theorem l_pf2 (hN : NtA sh rv iv b) (hl : PlA sh rv iv E F) (hP : Prm E F) (m : Nat) : ∀ (p : Int) (w N : Int → Int) (v3 v4 : Option aV), 0 ≤ p → p + m = F 13 → Rel w N → Bok (E 5 0) (E 5 1) N → (0 ≤ N 368 ∧ N 368 ≤ 20000) → (∀ (w' : Int → Int) (v2 : Option aV), Rel w' (toL (E 5 2) m p N) → wp (d + 5) mX0_passFrame 131 [some (aR (41 + 39 * b)), some (aI (F 13)), v2, v3, v4] [] sh (uA (CD iv b D O T S K C) (12 + 42 * b) w') lw rv 0 0 R) → wp (d + 5) mX0_passFrame 104 [some (aR (41 + 39 * b)), some (aI (F 13)), some (aI p), v3, v4] [] sh (uA (CD iv b D O T S K C) (12 + 42 * b) w) lw rv 0 0 R := by
  obtain ⟨hW1, hW2, hO1, hO2, hT1, hT2, hI1, hI2, hF1, hF2⟩ := id hP
  induction m with
  | zero =>
    intro p w N v3 v4 h0 hm hR hB hfr k
    refine wp_iload_n dX0_passFrame_104 rfl ?_
    refine wp_iload_n dX0_passFrame_105 rfl ?_
    refine wp_icmp_ge (tgt := 131) dX0_passFrame_106 rfl (fun _ => ?_) (fun h12 => by exfalso; omega)
    exact k w _ hR
  | succ m ih =>
    intro p w N v3 v4 h0 hm hR hB hfr k
    have hp : 0 ≤ p ∧ p < 6 := by omega
    have hpF : p < F 13 := by omega
    have h1 := toS2_ok (t := E 5 2) (p := p) hB
    refine wp_iload_n dX0_passFrame_104 rfl ?_
    refine wp_iload_n dX0_passFrame_105 rfl ?_
    refine wp_icmp_ge (tgt := 131) dX0_passFrame_106 rfl (fun h106 => by exfalso; omega) (fun h106 => ?_)
    refine wp_aload_n dX0_passFrame_109 rfl ?_
    refine wp_getR hN.r41d dX0_passFrame_110 fX0_32 hN.s41 ?_
    refine wp_aload_n dX0_passFrame_113 rfl ?_
    refine wp_getR hN.r41n dX0_passFrame_114 fX0_21 hN.s41 ?_
    refine wp_getR hN.r11l dX0_passFrame_117 fX0_42 hN.s11 ?_
    refine wp_iload_n dX0_passFrame_120 rfl ?_
    refine wp_aaldL dX0_passFrame_121 hN.s13 (by omega) (by omega) (hN.r13 hp) ?_
    refine wp_callV (as := [_]) (ls0 := [_, _]) (kc := 0) (ks := 0) (bc' := 0) (bs' := 0) dX0_passFrame_122 vX0_74 hN.s38 rfl rfl (Nat.le_of_ble_eq_true rfl) (Nat.le_of_ble_eq_true rfl) (by omega) (by omega) ?_
    refine e_runOut hN hl hP hp hpF hR hB hfr (fun w hR => ?_)
    refine wp_iinc (ls' := [_, _, _, _, _]) dX0_passFrame_125 (by decide) rfl rfl ⟨by omega, by omega⟩ rfl ?_
    refine wp_goto (tgt := 104) dX0_passFrame_128 rfl ?_
    exact ih _ _ _ _ _ (by omega) (by omega) hR h1.1 (by rw [h1.2 368 (by omega)]; exact hfr) (by rw [toL] at k; exact k)
theorem l_pf3 (hN : NtA sh rv iv b) (hl : PlA sh rv iv E F) (hP : Prm E F) (m : Nat) : ∀ (p : Int) (w N D O : Int → Int) (v3 v4 : Option aV), 0 ≤ p → p + m = F 13 → Rel w N → Bok (E 5 0) (E 5 1) N → (0 ≤ N 368 ∧ N 368 ≤ 20000) → (N 367 = 0 ∨ N 367 = 1) → (∀ a : Int, 0 ≤ a → a < F 13 → PI N a) → (∀ a : Int, 0 ≤ a → a < F 13 → N (61 * a + 59) ≤ 100000 ∧ N (61 * a + 60) ≤ 100000) → (∀ (w' D' O' : Int → Int) (v2 : Option aV), Rel w' (wnL E F m p N) → wp (d + 5) mX0_passFrame 178 [some (aR (41 + 39 * b)), some (aI (F 13)), v2, v3, v4] [] sh (uA (CD iv b D' O' T S K C) (12 + 42 * b) w') lw rv 0 0 R) → wp (d + 5) mX0_passFrame 154 [some (aR (41 + 39 * b)), some (aI (F 13)), some (aI p), v3, v4] [] sh (uA (CD iv b D O T S K C) (12 + 42 * b) w) lw rv 0 0 R := by
  obtain ⟨hW1, hW2, hO1, hO2, hT1, hT2, hI1, hI2, hF1, hF2⟩ := id hP
  induction m with
  | zero =>
    intro p w N D O v3 v4 h0 hm hR hB hfr h367 hPI hU k
    refine wp_iload_n dX0_passFrame_154 rfl ?_
    refine wp_iload_n dX0_passFrame_155 rfl ?_
    refine wp_icmp_ge (tgt := 178) dX0_passFrame_156 rfl (fun _ => ?_) (fun h12 => by exfalso; omega)
    exact k w _ _ _ hR
  | succ m ih =>
    intro p w N D O v3 v4 h0 hm hR hB hfr h367 hPI hU k
    have hp : 0 ≤ p ∧ p < 6 := by omega
    have hpF : p < F 13 := by omega
    have h1 := wnF_ok hp hP hB hfr
    have h9 := wn_59 hP hB hp
    refine wp_iload_n dX0_passFrame_154 rfl ?_
    refine wp_iload_n dX0_passFrame_155 rfl ?_
    refine wp_icmp_ge (tgt := 178) dX0_passFrame_156 rfl (fun h156 => by exfalso; omega) (fun h156 => ?_)
    refine wp_aload_n dX0_passFrame_159 rfl ?_
    refine wp_aload_n dX0_passFrame_160 rfl ?_
    refine wp_getR hN.r41n dX0_passFrame_161 fX0_21 hN.s41 ?_
    refine wp_getR hN.r11l dX0_passFrame_164 fX0_42 hN.s11 ?_
    refine wp_iload_n dX0_passFrame_167 rfl ?_
    refine wp_aaldL dX0_passFrame_168 hN.s13 (by omega) (by omega) (hN.r13 hp) ?_
    refine wp_callV (as := [_]) (ls0 := [_, _, _, _]) (kc := 0) (ks := 0) (bc' := 0) (bs' := 0) dX0_passFrame_169 vX0_87 hN.s41 rfl rfl (Nat.le_of_ble_eq_true rfl) (Nat.le_of_ble_eq_true rfl) (by omega) (by omega) ?_
    refine f_followLoad hN hl hP hp hpF hR hB hfr (hU p h0 hpF) h367 (hPI p h0 hpF).2.2.2 (fun D O w hR => ?_)
    refine wp_iinc (ls' := [_, _, _, _, _]) dX0_passFrame_172 (by decide) rfl rfl ⟨by omega, by omega⟩ rfl ?_
    refine wp_goto (tgt := 154) dX0_passFrame_175 rfl ?_
    refine ih _ _ _ _ _ _ _ (by omega) (by omega) hR h1.1 (by rw [h1.2 368 (by omega)]; exact hfr) (by rw [h1.2 367 (by omega)]; exact h367) (PI.all hPI hF2 hB h1.2 ((hPI p h0 hpF).wn hP hB hp)) (fun a x y => ?_) (by rw [wnL] at k; exact k)
    by_cases e : a = p
    · rw [e, h9.1, h9.2]; omega
    · rw [h1.2 _ (by omega), h1.2 _ (by omega)]; exact hU a x y
theorem f_passFrame (hN : NtA sh rv iv b) (hl : PlA sh rv iv E F) (hP : Prm E F) (hP2 : Prm2 E F) (hR : Rel w N) (hI : Inv E F N) (hfr : N 368 ≤ 14000) (hK : ∀ c : Int, 0 ≤ c → c < 160 → K c = 0) (k : ∀ (w' D' O' T' S' K' C' : Int → Int), Rel w' (livF E F N) → (∀ c : Int, 0 ≤ c → c < 160 → K' c = 0) → (∀ a : Int, 0 ≤ a → a < F 13 → C' a = gtn E F (preF E F N) a) → R none sh (uA (CD iv b D' O' T' S' K' C') (12 + 42 * b) w') lw rv) : wp (d + 5) mX0_passFrame 0 [some (aR (41 + 39 * b)), none, none, none, none] [] sh (uA (CD iv b D O T S K C) (12 + 42 * b) w) lw rv 0 0 R := by
  obtain ⟨hW1, hW2, hO1, hO2, hT1, hT2, hI1, hI2, hF1, hF2⟩ := id hP
  obtain ⟨⟨b1, j1, p1⟩, ⟨b2, j2, p2, u2⟩, b4, j4, p4, u4⟩ := Inv.mid hP hI hfr
  obtain ⟨hB, hPI, hj, ha, h0, hU⟩ := hI
  have e368 := j4 368 (by omega)
  refine wp_aload_n dX0_passFrame_0 rfl ?_
  refine wp_getR hN.r41p dX0_passFrame_1 fX0_31 hN.s41 ?_
  refine wp_callV (as := []) (ls0 := [_]) (kc := 0) (ks := 0) (bc' := 0) (bs' := 0) dX0_passFrame_4 vX0_36 hl.1 rfl rfl (Nat.le_of_ble_eq_true rfl) (Nat.le_of_ble_eq_true rfl) (by omega) (by omega) ?_
  refine n_pairs (hN.pl hl) ?_
  refine wp_istore_n (ls' := [_, _, _, _, _]) dX0_passFrame_7 (by decide) rfl rfl ?_
  refine wp_iconst dX0_passFrame_8 ?_
  refine wp_istore_n (ls' := [_, _, _, _, _]) dX0_passFrame_9 (by decide) rfl rfl ?_
  refine l_pf1 hN hl hP (F 13).toNat 0 _ _ _ _ _ _ _ (by omega) (by omega) hR hB (by omega) hPI (fun w D O T v2 v3 v4 hR => ?_)
  refine wp_iconst dX0_passFrame_102 ?_
  refine wp_istore_n (ls' := [_, _, _, _, _]) dX0_passFrame_103 (by decide) rfl rfl ?_
  refine l_pf2 hN hl hP (F 13).toNat 0 _ _ _ _ (by omega) (by omega) hR b1 (by rw [j1 368 (by omega)]; omega) (fun w v2 hR => ?_)
  refine wp_aload_n dX0_passFrame_131 rfl ?_
  refine wp_callV (as := []) (ls0 := [_, _, _, _]) (kc := 0) (ks := 0) (bc' := 0) (bs' := 0) dX0_passFrame_132 vX0_77 hN.s41 rfl rfl (Nat.le_of_ble_eq_true rfl) (Nat.le_of_ble_eq_true rfl) (by omega) (by omega) ?_
  refine f_sendAll hN hl hP hP2 hR b2 (by rw [j2 368 (by omega)]; omega) (by rw [j2 366 (by omega)]; omega) (fun a x y => by have := u2 a x y; omega) (fun a x y => (p2 a x y).2.1.1) hK (fun w S K C hR hK hC => ?_)
  have hR : Rel w (s2L E F (preF E F N) (F 13).toNat 0 (preF E F N)) := hR
  have hC : ∀ a : Int, 0 ≤ a → a < F 13 → C a = gtn E F (preF E F N) a := hC
  refine wp_aload_n dX0_passFrame_135 rfl ?_
  refine wp_getR hN.r41p dX0_passFrame_136 fX0_31 hN.s41 ?_
  refine wp_aload_n dX0_passFrame_139 rfl ?_
  refine wp_getR hN.r41n dX0_passFrame_140 fX0_21 hN.s41 ?_
  refine wp_callV (as := []) (ls0 := [_]) (kc := 0) (ks := 0) (bc' := 0) (bs' := 0) dX0_passFrame_143 vX0_80 hN.s11 rfl rfl (Nat.le_of_ble_eq_true rfl) (Nat.le_of_ble_eq_true rfl) (by omega) (by omega) ?_
  refine x_frame hN hR ?_
  refine wp_callV (as := [_]) (ls0 := [_, _]) (kc := 0) (ks := 0) (bc' := 0) (bs' := 0) dX0_passFrame_146 vX0_83 hl.1 rfl rfl (Nat.le_of_ble_eq_true rfl) (Nat.le_of_ble_eq_true rfl) (by omega) (by omega) ?_
  refine n_endsWindow hP (by omega) (hN.pl hl) (fun h146 => ?_) (fun h146 => ?_)
  all_goals rw [e368] at h146
  · refine wp_if_eq (tgt := 178) dX0_passFrame_149 rfl (fun q => absurd q (by decide)) (fun _ => ?_)
    refine wp_iconst dX0_passFrame_152 ?_
    refine wp_istore_n (ls' := [_, _, _, _, _]) dX0_passFrame_153 (by decide) rfl rfl ?_
    have h5 := wnL_ok hP (F 13).toNat 0 _ (by omega) (by omega) b4 (by rw [e368]; omega) p4
    refine l_pf3 hN hl hP (F 13).toNat 0 _ _ _ _ _ _ (by omega) (by omega) hR b4 (by rw [e368]; omega) (by rw [j4 367 (by omega)]; exact ha) p4 (fun a x y => by have := u4 a x y; omega) (fun w D O v2 hR => ?_)
    have e368 : wnL E F (F 13).toNat 0 (s2L E F (preF E F N) (F 13).toNat 0 (preF E F N)) 368 = N 368 := by rw [h5.2.2.1 368 (by omega), e368]
    refine wp_aload_n dX0_passFrame_178 rfl ?_
    refine wp_getR hN.r41n dX0_passFrame_179 fX0_21 hN.s41 ?_
    refine wp_callV (as := []) (ls0 := [_]) (kc := 0) (ks := 0) (bc' := 0) (bs' := 0) dX0_passFrame_182 vX0_90 hN.s11 rfl rfl (Nat.le_of_ble_eq_true rfl) (Nat.le_of_ble_eq_true rfl) (by omega) (by omega) ?_
    refine x_goToNextFrame hN hR (by rw [e368]; omega) (fun w hR => ?_)
    rw [e368] at hR
    refine wp_return dX0_passFrame_185 rfl ?_
    exact k _ _ _ _ _ _ _ (by rw [livF_eq, if_pos h146]; exact hR) hK hC
  · refine wp_if_eq (tgt := 178) dX0_passFrame_149 rfl (fun _ => ?_) (fun q => absurd q (by decide))
    refine wp_aload_n dX0_passFrame_178 rfl ?_
    refine wp_getR hN.r41n dX0_passFrame_179 fX0_21 hN.s41 ?_
    refine wp_callV (as := []) (ls0 := [_]) (kc := 0) (ks := 0) (bc' := 0) (bs' := 0) dX0_passFrame_182 vX0_90 hN.s11 rfl rfl (Nat.le_of_ble_eq_true rfl) (Nat.le_of_ble_eq_true rfl) (by omega) (by omega) ?_
    refine x_goToNextFrame hN hR (by rw [e368]; omega) (fun w hR => ?_)
    rw [e368] at hR
    refine wp_return dX0_passFrame_185 rfl ?_
    exact k _ _ _ _ _ _ _ (by rw [livF_eq, if_neg h146]; exact hR) hK hC
end C16
