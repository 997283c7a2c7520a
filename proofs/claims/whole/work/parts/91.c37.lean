def MshF (V : Int × Int × (Int → Int) × (Int → Int)) (E E' : aF) (F F' : Int → Int) : Prop := (∀ i : Nat, ¬ i = 2 → ¬ i = 3 → ¬ i = 4 → ¬ i = 5 → ¬ i = 6 → E' i = E i) ∧ E' 5 = cpR (E 5) V.2.2.1 0 5 ∧ E' 6 = cpR (E 6) V.2.2.2 0 24 ∧ (∀ j : Int, ¬ j = 2 → ¬ j = 3 → ¬ j = 4 → ¬ j = 8 → ¬ j = 9 → ¬ j = 13 → ¬ j = 25 → ¬ j = 30 → F' j = F j) ∧ F' 2 = 0 ∧ F' 13 = V.2.1 ∧ F' 25 = 0 ∧ F' 30 = 0
section C37a
variable {sh : aSh} {iv iv' E E' : aF} {rv : aP} {F F' N : Int → Int} {c : Int} {m : Nat} {V : Int × Int × (Int → Int) × (Int → Int)}
theorem MshF.r5 (h : MshF V E E' F F') {k : Int} (hk : 0 ≤ k ∧ k < 5) : E' 5 k = V.2.2.1 k := by rw [h.2.1]; unfold cpR; rw [if_pos ⟨hk.1, hk.2⟩, show (0 : Int) + k = k by omega]
theorem MshF.r6 (h : MshF V E E' F F') (hB : MsB V) {k : Int} (hk : 0 ≤ k ∧ k < 4 * V.2.1) : E' 6 k = V.2.2.2 k := by
  have := hB.1
  rw [h.2.2.1]; unfold cpR; rw [if_pos (by omega), show (0 : Int) + k = k by omega]
theorem MshF.prm (h : MshF V E E' F F') (hB : MsB V) : Prm E' F' := by
  have a0 := hB.2.1 0 (by omega) (by omega)
  have a1 := hB.2.1 1 (by omega) (by omega)
  have a2 := hB.2.1 2 (by omega) (by omega)
  have a3 := hB.2.1 3 (by omega) (by omega)
  rw [show loF 115 0 = 4 from rfl, show hiF 115 0 = 16 from rfl] at a0
  rw [show loF 115 1 = 1 from rfl, show hiF 115 1 = 4 from rfl] at a1
  rw [show loF 115 2 = 2 from rfl, show hiF 115 2 = 9 from rfl] at a2
  rw [show loF 115 3 = 2 from rfl, show hiF 115 3 = 9 from rfl] at a3
  unfold Prm
  rw [h.r5 (k := 0) (by omega), h.r5 (k := 1) (by omega), h.r5 (k := 2) (by omega), h.r5 (k := 3) (by omega), h.2.2.2.2.2.1]
  have := hB.1
  omega
theorem MshF.aut (h : MshF V E E' F F') (hB : MsB V) : E' 5 4 = 0 ∨ E' 5 4 = 1 := by
  have a4 := hB.2.1 4 (by omega) (by omega)
  rw [show loF 115 4 = 0 from rfl, show hiF 115 4 = 1 from rfl] at a4
  rw [h.r5 (k := 4) (by omega)]; omega
theorem MshF.lod (h : MshF V E E' F F') (hB : MsB V) : ∀ a : Int, 0 ≤ a → a < F' 13 → 0 ≤ E' 6 (4 * a + 3) ∧ E' 6 (4 * a + 3) ≤ 9 := by
  intro a x y
  rw [h.2.2.2.2.2.1] at y
  have a3 := hB.2.2.1 a 3 x y (by omega) (by omega)
  rw [show loF 112 3 = 0 from rfl, show hiF 112 3 = 9 from rfl] at a3
  rw [h.r6 hB (by omega)]; exact a3
theorem Sim.mesh (h : Sim c m sh iv rv E F N) (hB : MsB V) (hM : MshF V E E' F F')
    (e : ∀ i : Nat, ¬ Scr i → ¬ i = 1 → ¬ i = 3 → ¬ i = 4 → ¬ i = 5 → ¬ i = 12 → ¬ i = 45 → iv' i = iv i) (e1 : iv' 1 1 = 0) (e3 : iv' 3 3 = V.2.1) (e34 : iv' 3 4 = iv 3 4) (e4 : ∀ k : Int, 0 ≤ k → k < 5 → iv' 4 k = V.2.2.1 k) (e5 : ∀ k : Int, 0 ≤ k → k < 4 * V.2.1 → iv' 5 k = V.2.2.2 k) (hr : Rel (iv' 12) (tmN (E' 6) V.2.1 (E' 5 4) N)) (e45 : iv' 45 = up (up (up (iv 45) 1 0) 5 0) 9 0) : Sim c m sh iv' rv E' F' (tmN (E' 6) V.2.1 (E' 5 4) N) := by
  have hP := hM.prm hB
  obtain ⟨⟨h1, h2⟩, h3, h4, h5, h6, h7, h8, ⟨g1, g2, g3, g4, g5, g6, g7, g8⟩, ⟨t1, t2, t3, t4, t5, t6, t7⟩, h11⟩ := h
  obtain ⟨q1, q2, q3, q4, q5, q6, q7, q8⟩ := id hM
  have hb1 := hB.1
  have e' : ∀ i : Nat, ((13 ≤ i ∧ i < 38) ∨ i = 41 ∨ i = 42 ∨ (46 ≤ i ∧ i < 52) ∨ (55 ≤ i ∧ i < 81) ∨ i = 84 ∨ i = 0 ∨ i = 2 ∨ i = 6 ∨ 87 ≤ i) → iv' i = iv i := fun i hi => e i (by unfold Scr; omega) (by omega) (by omega) (by omega) (by omega) (by omega) (by omega)
  have hI : Inv E' F' (tmN (E' 6) V.2.1 (E' 5 4) N) := by
    have := tmN_inv (N := N) (pa := E' 6) hP (by omega) (hM.aut hB) (hM.lod hB)
    rw [q6] at this; exact this
  have n8 : tmN (E' 6) V.2.1 (E' 5 4) N 368 = 0 := by rw [tmN_h (by omega) (by omega), if_neg (by omega)]
  have n9 : tmN (E' 6) V.2.1 (E' 5 4) N 369 = 0 := by rw [tmN_h (by omega) (by omega), if_neg (by omega)]
  have c1 : ClW sh iv' rv := h1.cg (fun i hi => e' i (by omega))
  have hP2 : Prm2 E' F' := by unfold Prm2 at *; rw [q1 7 (by omega) (by omega) (by omega) (by omega) (by omega), q4 14 (by omega) (by omega) (by omega) (by omega) (by omega) (by omega) (by omega) (by omega)]; exact t2
  refine ⟨⟨c1, h2⟩, ?_, hr, by rw [e' 42 (by omega), e' 84 (by omega)]; exact h5, ?_, ?_, ?_, ⟨?_, ?_, ?_, fun j a b => by omega, fun i j a b d => by omega, ?_, fun hh => by omega, fun hh => by omega⟩, ⟨by omega, hP2, by rw [n9]; omega, by rw [n8]; omega, by rw [q1 9 (by omega) (by omega) (by omega) (by omega) (by omega)]; exact t5, by omega, fun _ => ⟨hP, hI⟩⟩, ?_⟩
  · obtain ⟨p1, p2, p3, p4, p5, p6, p7⟩ := c1.2.2.1
    obtain ⟨_, _, _, _, _, _, _, _, s9, _, _, s12⟩ := h3
    have q14 := q4 14 (by omega) (by omega) (by omega) (by omega) (by omega) (by omega) (by omega) (by omega)
    refine ⟨p1, p2, p3, p4, p5, p6, p7, by rw [e3, q6], by rw [e34, q14]; exact s9, fun k a b => by rw [e4 k a b, hM.r5 ⟨a, b⟩], fun k a b => by rw [q6] at b; rw [e5 k a b, hM.r6 hB ⟨a, b⟩], fun k a b => ?_⟩
    rw [e' 6 (by omega), q1 7 (by omega) (by omega) (by omega) (by omega) (by omega)]
    exact s12 k a (by rw [← q14]; exact b)
  · exact ⟨by rw [e1, q5], by omega, fun i a b => by omega, fun i a b => by omega⟩
  · unfold RfR at *; rw [e' 87 (by omega), q1 9 (by omega) (by omega) (by omega) (by omega) (by omega)]; exact h7
  · rw [e' 0 (by omega), q4 17 (by omega) (by omega) (by omega) (by omega) (by omega) (by omega) (by omega) (by omega)]; exact h8
  · rw [e45, up_n (by omega), up_s, q7]
  · rw [e45, up_n (by omega), up_n (by omega), up_n (by omega)]; exact g2
  · rw [e45, up_n (by omega), up_n (by omega), up_s]
    exact ⟨by rw [n8]; omega, by rw [n9]; rfl, fun i z a b => by rw [n9] at b; omega⟩
  · rw [e45, up_s, q8]; exact ⟨rfl, Or.inl rfl⟩
  · intro a x y
    rw [q6] at y
    have hw := (hB.2.2.2.2 a x y).1
    rw [hM.r6 hB (by omega), hM.r6 hB (by omega)]; exact hw
end C37a
