def KpS (iv : aF) (F : Int → Int) : Prop := ∀ j : Int, 0 ≤ j → j < F 25 → iv 45 1 - iv 48 (plA (iv 45 4) j) ≤ j
section C28
variable {sh sh' : aSh} {iv iv' E E' : aF} {rv rv' : aP} {F F' N N' L : Int → Int} {c : Int} {m m' : Nat}
theorem Kn_k {z : Int} (hz : 0 ≤ z ∧ z < 550) : Kn (kpE E F N) (kpa (F 25)) z = N z := by
  unfold Kn kpE
  rw [uA_s]
  unfold kpF cpW
  rw [if_pos (by omega), show 550 * kpa (F 25) + z - 550 * kpa (F 25) = z by omega]
theorem Kn_o {z j : Int} (hz : 0 ≤ z ∧ z < 550) (hj : 1 ≤ j ∧ j ≤ kpa (F 25)) : Kn (kpE E F N) (kpa (F 25) - j) z = Kn E (F 25 - j) z := by
  unfold Kn kpE
  rw [uA_s]
  unfold kpF cpW
  rw [if_neg (by omega)]
  unfold kpa at *
  by_cases e : F 25 = 40
  · rw [if_pos e] at hj ⊢
    rw [if_pos e]
    unfold shK
    rw [if_pos (by omega), e, show 550 * (39 - j) + z + 550 = 550 * (40 - j) + z by omega]
  · rw [if_neg e] at hj ⊢
    rw [if_neg e]
theorem plA_0 {a : Int} (ha : 0 ≤ a ∧ a < 40) : plA ((a + 1) % 40) 0 = a := by unfold plA; omega
theorem plA_s {a j : Int} : plA ((a + 1) % 40) j = plA a (j - 1) := by unfold plA; omega
theorem plA_r {a j : Int} : 0 ≤ plA a j ∧ plA a j < 40 := by unfold plA; omega
theorem plA_n {a j : Int} (ha : 0 ≤ a ∧ a < 40) (hj : 0 ≤ j ∧ j < 39) : ¬ plA a j = a := by unfold plA; omega
theorem Sim.pl' (hC : ClW sh' iv' rv') (h : PlA sh rv iv E F) (e : ∀ i : Nat, 3 ≤ i → i < 7 → iv' i = iv i) (q : EqP E E' F F') : PlA sh' rv' iv' E' F' := by
  obtain ⟨-, -, ⟨p1, p2, p3, p4, p5, p6, p7⟩, -⟩ := hC
  obtain ⟨h1, h2, h3, h4, h5, h6, h7, h8, h9, h10, h11, h12⟩ := h
  obtain ⟨q5, q6, q7, q13, q14⟩ := q
  refine ⟨p1, p2, p3, p4, p5, p6, p7, ?_, ?_, fun k a b => ?_, fun k a b => ?_, fun k a b => ?_⟩
  · rw [e 3 (by omega) (by omega), q13]; exact h8
  · rw [e 3 (by omega) (by omega), q14]; exact h9
  · rw [e 4 (by omega) (by omega), q5]; exact h10 k a b
  · rw [e 5 (by omega) (by omega), q6]; exact h11 k a (by omega)
  · rw [e 6 (by omega) (by omega), q7]; exact h12 k a (by omega)
theorem Sim.keep (h : Sim c m sh iv rv E F N) (h13 : 0 < F 13) (hC : ClW sh' iv' rv') (hM : Made sh' rv' m') (hmm : m ≤ m') (hx : iv 45 4 < m')
    (e : ∀ i : Nat, ¬ i = 45 → ¬ i = 48 → ¬ i = 88 + (iv 45 4).toNat → iv' i = iv i) (e45 : iv' 45 = up (up (iv 45) 4 ((iv 45 4 + 1) % 40)) 5 (mnI (iv 45 5 + 1) 40)) (e48 : iv' 48 = up (iv 48) (iv 45 4) (iv 45 1)) (hr : Rel (iv' (88 + (iv 45 4).toNat)) N) : Sim c m' sh' iv' rv' (kpE E F N) (kpG F) N ∧ KpS iv' (kpG F) := by
  obtain ⟨⟨h1, h2⟩, h3, h4, h5, h6, h7, h8, ⟨g1, g2, g3, g4, g5, g6, g7, g8⟩, h10, h11⟩ := h
  obtain ⟨t1, t2, t3, t4, t5, t6, t7⟩ := h10
  have hPI := t7 h13
  have qp := kp_q (iv := E) (F := F) (N := N)
  have e' : ∀ i : Nat, i < 45 ∨ (49 ≤ i ∧ i < 88) ∨ i = 46 → iv' i = iv i := fun i hi => e i (by omega) (by omega) (by omega)
  have f25 : kpG F 25 = kpa (F 25) + 1 := by unfold kpG; rw [up_s]
  have fo : ∀ j : Int, ¬ j = 25 → kpG F j = F j := fun j hj => by unfold kpG; rw [up_n hj]
  have eo : ∀ i : Nat, ¬ i = 14 → kpE E F N i = E i := fun i hi => by unfold kpE; rw [uA_n hi]
  have k1 : iv' 45 1 = iv 45 1 := by rw [e45, up_n (by omega), up_n (by omega)]
  have k4 : iv' 45 4 = (iv 45 4 + 1) % 40 := by rw [e45, up_n (by omega), up_s]
  have k5 : iv' 45 5 = mnI (iv 45 5 + 1) 40 := by rw [e45, up_s]
  have k8 : iv' 45 8 = iv 45 8 := by rw [e45, up_n (by omega), up_n (by omega)]
  have k9 : iv' 45 9 = iv 45 9 := by rw [e45, up_n (by omega), up_n (by omega)]
  have ka : 0 ≤ kpa (F 25) ∧ kpa (F 25) ≤ 39 ∧ kpa (F 25) ≤ F 25 := by unfold kpa; split <;> omega
  have okN : Okn E F N := ⟨hPI.2, t3, t4⟩
  have s0 : iv' 48 (iv 45 4) = iv 45 1 := by rw [e48, up_s]
  have sj : ∀ j : Int, 0 ≤ j → j < 39 → iv' 48 (plA (iv 45 4) j) = iv 48 (plA (iv 45 4) j) := fun j a b => by rw [e48, up_n (plA_n ⟨g2.1, g2.2.1⟩ ⟨a, b⟩)]
  have hK : KpO m' iv' (kpE E F N) (kpG F) := by
    intro j a b
    rw [f25] at b ⊢
    rw [k4, k1, show kpa (F 25) + 1 - 1 - j = kpa (F 25) - j by omega, e' 46 (by omega)]
    by_cases ej : j = 0
    · subst ej
      rw [plA_0 ⟨g2.1, g2.2.1⟩, s0, show kpa (F 25) - 0 = kpa (F 25) by omega]
      exact ⟨⟨by omega, hr.cgN (fun z a b => Kn_k ⟨a, by omega⟩)⟩, g3.cg (fun z a b => Kn_k ⟨by omega, b⟩) t3.2, (okN.cg hPI.1 (fun z a b => Kn_k ⟨a, b⟩)).q qp, by omega, by omega⟩
    · have ho := g4 (j - 1) (by omega) (by omega)
      have hpr := plA_r (a := iv 45 4) (j := j - 1)
      have hpn := plA_n (a := iv 45 4) (j := j - 1) ⟨g2.1, g2.2.1⟩ ⟨by omega, by omega⟩
      rw [plA_s, sj (j - 1) (by omega) (by omega), e (88 + _) (by omega) (by omega) (by omega)]
      rw [show F 25 - 1 - (j - 1) = F 25 - j by omega] at ho
      have hz : ∀ z : Int, 0 ≤ z → z < 550 → Kn (kpE E F N) (kpa (F 25) - j) z = Kn E (F 25 - j) z := fun z a b => Kn_o ⟨a, b⟩ ⟨by omega, by omega⟩
      exact ⟨⟨by omega, ho.1.2.cgN (fun z a b => hz z a (by omega))⟩, ho.2.1.cg (fun z a b => hz z (by omega) b) ho.2.2.1.2.1.2, (ho.2.2.1.cg hPI.1 hz).q qp, by omega, by omega⟩
  have hS : KpS iv' (kpG F) := by
    intro j a b
    rw [f25] at b
    rw [k4, k1]
    by_cases ej : j = 0
    · subst ej
      rw [plA_0 ⟨g2.1, g2.2.1⟩, s0]; omega
    · have ho := g4 (j - 1) (by omega) (by omega)
      rw [plA_s, sj (j - 1) (by omega) (by omega)]; omega
  refine ⟨⟨⟨hC, hM⟩, Sim.pl' hC h3 (fun i a b => e' i (by omega)) qp, by rw [e' 12 (by omega)]; exact h4, by rw [e' 42 (by omega), e' 84 (by omega)]; exact h5, ?_, ?_, ?_, ⟨?_, ?_, ?_, hK, ?_, ?_, ?_, ?_⟩, ?_, ?_⟩, hS⟩
  · unfold TpR at *; rw [e' 1 (by omega), e' 2 (by omega), eo 1 (by omega), fo 2 (by omega)]; exact h6
  · unfold RfR at *; rw [e' 87 (by omega), eo 9 (by omega)]; exact h7
  · rw [e' 0 (by omega), fo 17 (by omega)]; exact h8
  · rw [k5, f25, g1]; unfold mnI kpa; split <;> split <;> omega
  · rw [k4]; omega
  · rw [e' 46 (by omega), k1]; exact g3
  · intro i j a b d
    rw [f25] at d
    rw [k4]
    by_cases ei : i = 0
    · subst ei
      rw [plA_0 ⟨g2.1, g2.2.1⟩, s0]
      by_cases ej : j = 0
      · subst ej; rw [plA_0 ⟨g2.1, g2.2.1⟩, s0]; omega
      · have ho := g4 (j - 1) (by omega) (by omega)
        rw [plA_s, sj (j - 1) (by omega) (by omega)]; omega
    · have ho := g5 (i - 1) (j - 1) (by omega) (by omega) (by omega)
      rw [plA_s, plA_s, sj (i - 1) (by omega) (by omega), sj (j - 1) (by omega) (by omega)]; omega
  · rw [k9, fo 30 (by omega)]; exact g6
  · intro hh
    rw [fo 30 (by omega)] at hh
    have := g7 hh
    unfold ImR at *
    rw [e' 49 (by omega), e' 50 (by omega), k8, eo 17 (by omega)]
    exact ⟨this.1, this.2.1.q qp, this.2.2⟩
  · intro _; rw [fo 13 (by omega)]; exact h13
  · exact ⟨by rw [fo 13 (by omega)]; exact t1, Prm2_q qp t2, t3, t4, by rw [eo 9 (by omega)]; exact t5, by rw [f25]; omega, fun _ => ⟨Prm_q qp hPI.1, Inv_q qp hPI.2⟩⟩
  · unfold Nne at *; rw [eo 6 (by omega), fo 13 (by omega)]; exact h11
/-- another state of the words -/
theorem Sim.now (h : Sim c m sh iv rv E F N) (e : ∀ i : Nat, ¬ Scr i → ¬ i = 12 → ¬ i = 42 → ¬ i = 84 → iv' i = iv i) (z1 : ZK (iv' 42)) (z2 : ZK (iv' 84)) (hr : Rel (iv' 12) N') (hI : 0 < F 13 → Inv E F N') (hN : ∀ j : Int, 368 ≤ j → N' j = N j) : Sim c m sh iv' rv E F N' := by
  obtain ⟨⟨h1, h2⟩, h3, h4, h5, h6, h7, h8, ⟨g1, g2, g3, g4⟩, ⟨t1, t2, t3, t4, t5, t6, t7⟩, h11⟩ := h
  have e' : ∀ i : Nat, ((13 ≤ i ∧ i < 38) ∨ (45 ≤ i ∧ i < 52) ∨ (55 ≤ i ∧ i < 81) ∨ i < 7 ∨ 87 ≤ i) → iv' i = iv i := fun i hi => e i (by unfold Scr; omega) (by omega) (by omega) (by omega)
  have hp : PsR m iv E F N' := ⟨g1, g2, g3.cg (fun j a b => hN j a) t3.2, g4⟩
  refine ⟨⟨h1.cg (fun i hi => e' i (by omega)), h2⟩, h3.cg6 (fun i a b => e' i (by omega)), hr, ⟨z1, z2⟩, ?_, ?_, by rw [e' 0 (by omega)]; exact h8, hp.cg (fun i hi => e' i (by omega)), ⟨t1, t2, by rw [hN 369 (by omega)]; exact t3, by rw [hN 368 (by omega)]; exact t4, t5, t6, fun hh => ⟨(t7 hh).1, hI hh⟩⟩, h11⟩
  · unfold TpR at *; rw [e' 1 (by omega), e' 2 (by omega)]; exact h6
  · unfold RfR at *; rw [e' 87 (by omega)]; exact h7
/-- refused -/
theorem Sim.rf {y : Int} (h : Sim c m sh iv rv E F N) (hy : 0 ≤ y ∧ y ≤ 4) (hc : c + 1 ≤ 600) : Sim (c + 1) m sh (uI iv 87 y (iv 87 y + 1)) rv (rfF E y) F N := by
  obtain ⟨⟨h1, h2⟩, h3, h4, h5, h6, h7, h8, h9, ⟨t1, t2, t3, t4, t5, t6, t7⟩, h11⟩ := h
  rw [uI_eq]
  have qp : EqP E (rfF E y) F F := by unfold rfF; exact EqP.e1 (by decide) (by decide) (by decide)
  have eo : ∀ i : Nat, ¬ i = 9 → rfF E y i = E i := fun i hi => by unfold rfF; rw [uA_n hi]
  have ey : rfF E y 9 = up (E 9) y (E 9 y + 1) := by unfold rfF; rw [uA_s]
  have ek : ∀ r : Int, Kn (rfF E y) r = Kn E r := fun r => by unfold Kn; rw [eo 14 (by omega)]
  have hR : ∀ z : Int, 0 ≤ z → z < 5 → up (iv 87) y (iv 87 y + 1) z = up (E 9) y (E 9 y + 1) z ∧ 0 ≤ up (E 9) y (E 9 y + 1) z ∧ up (E 9) y (E 9 y + 1) z ≤ c + 1 := fun z a b => by
    have h7y := h7.2 y (by omega) (by omega)
    have h7z := h7.2 z a b
    unfold up
    split
    · rw [h7y.1]; exact ⟨rfl, by omega, by omega⟩
    · exact ⟨h7z.1, h7z.2.1, by omega⟩
  refine ⟨⟨h1.cg (fun i hi => uA_n (by omega)), h2⟩, ?_, by rw [uA_n (by omega)]; exact h4, by rw [uA_n (by omega), uA_n (by omega)]; exact h5, ?_, ⟨hc, fun z a b => by rw [uA_s, ey]; exact hR z a b⟩, by rw [uA_n (by omega)]; exact h8, ?_, ⟨t1, Prm2_q qp t2, t3, t4, fun z a b => by rw [ey]; have := hR z a b; have := h7.1; omega, t6, fun hh => ⟨Prm_q qp (t7 hh).1, Inv_q qp (t7 hh).2⟩⟩, ?_⟩
  · exact Sim.pl' (h1.cg (fun i hi => uA_n (by omega))) h3 (fun i a b => uA_n (by omega)) qp
  · unfold TpR at *; rw [uA_n (by omega), uA_n (by omega), eo 1 (by omega)]; exact h6
  · refine PsR.cg ?_ (iv := iv) (fun i hi => uA_n (by omega))
    obtain ⟨g1, g2, g3, g4, g5, g6, g7, g8⟩ := h9
    refine ⟨g1, g2, g3, fun j a b => ?_, g5, g6, fun hh => ?_, g8⟩
    · have := g4 j a b
      rw [ek]
      exact ⟨this.1, this.2.1, this.2.2.1.q qp, this.2.2.2⟩
    · have := g7 hh
      unfold ImR at *
      rw [eo 17 (by omega)]
      exact ⟨this.1, this.2.1.q qp, this.2.2⟩
  · unfold Nne at *; rw [eo 6 (by omega)]; exact h11
end C28
