section C36
variable {sh : aSh} {iv iv' E E' : aF} {rv : aP} {F F' N : Int → Int} {c : Int} {m : Nat}
theorem ldL_k {pa : Int → Int} (j : Nat) : ∀ (p : Int) (M : Int → Int) (z : Int), 0 ≤ p → ldL pa j p M z = if (z - 58) % 61 = 0 ∧ p ≤ (z - 58) / 61 ∧ (z - 58) / 61 < p + j then pa (4 * ((z - 58) / 61) + 3) else M z := by
  induction j with
  | zero => intro p M z _; rw [ldL, if_neg (by omega)]
  | succ j ih =>
    intro p M z h0
    rw [ldL, ih (p + 1) _ z (by omega)]
    by_cases e : (z - 58) % 61 = 0 ∧ p + 1 ≤ (z - 58) / 61 ∧ (z - 58) / 61 < p + 1 + j
    · rw [if_pos e, if_pos (by omega)]
    · rw [if_neg e]
      by_cases q : z = 61 * p + 58
      · rw [if_pos (by omega), q, up_s, show (61 * p + 58 - 58) / 61 = p by omega]
      · rw [up_n q, if_neg (by omega)]
/-- the state of a new MESH: nothing but loads and auto -/
theorem tmN_v {pa : Int → Int} {np au z : Int} (hz : 0 ≤ z ∧ z < 550) : tmN pa np au N z = if z = 367 then au else if (z - 58) % 61 = 0 ∧ 0 ≤ (z - 58) / 61 ∧ (z - 58) / 61 < 0 + np.toNat then pa (4 * ((z - 58) / 61) + 3) else 0 := by
  unfold tmN
  by_cases e : z = 367
  · rw [if_pos e, e, up_s]
  · rw [if_neg e, up_n e, ldL_k _ _ _ _ (by omega)]
    by_cases q : (z - 58) % 61 = 0 ∧ 0 ≤ (z - 58) / 61 ∧ (z - 58) / 61 < 0 + np.toNat
    · rw [if_pos q, if_pos q]
    · rw [if_neg q, if_neg q]
      unfold cpR; rw [if_pos ⟨hz.1, hz.2⟩]
theorem tmN_0 {pa : Int → Int} {np au p k : Int} (hp : 0 ≤ p ∧ p < 6) (hk : 0 ≤ k ∧ k < 61) (h58 : ¬ k = 58) : tmN pa np au N (61 * p + k) = 0 := by
  rw [tmN_v (by omega), if_neg (by omega), if_neg (by omega)]
theorem tmN_h {pa : Int → Int} {np au z : Int} (hz : 364 ≤ z ∧ z < 550) (hn : np ≤ 6) : tmN pa np au N z = if z = 367 then au else 0 := by
  rw [tmN_v (by omega)]
  by_cases e : z = 367
  · rw [if_pos e, if_pos e]
  · rw [if_neg e, if_neg e, if_neg (by omega)]
theorem ite_P {q : Prop} [Decidable q] {a b : Prop} (h1 : a) (h2 : b) : if q then a else b := by
  by_cases e : q
  · rw [if_pos e]; exact h1
  · rw [if_neg e]; exact h2
theorem KOK0 {W Of k : Int} (hW : 0 < W) (hO : 0 < Of) (hk : 0 ≤ k ∧ k < 61) : KOK W Of k 0 := by
  unfold KOK Vc
  refine ite_P (by omega) ?_
  refine ite_P (by omega) ?_
  refine ite_P (by omega) ?_
  refine ite_P (by omega) ?_
  refine ite_P (by omega) ?_
  refine ite_P (by omega) ?_
  refine ite_P (by omega) ?_
  refine ite_P (by omega) ?_
  refine ite_P (by omega) ?_
  refine ite_P (by omega) ?_
  refine ite_P (by omega) ?_
  refine ite_P (by omega) ?_
  refine ite_P (by omega) ?_
  refine ite_P (by omega) ?_
  refine ite_P (by omega) ?_
  refine ite_P (by omega) ?_
  refine ite_P (by omega) ?_
  refine ite_P (by omega) ?_
  refine ite_P (by omega) ?_
  refine ite_P (by omega) ?_
  refine ite_P (by omega) ?_
  omega
theorem tmN_inv {pa : Int → Int} {au : Int} (hP : Prm E F) (h13 : 0 < F 13) (ha : au = 0 ∨ au = 1) (hl : ∀ a : Int, 0 ≤ a → a < F 13 → 0 ≤ pa (4 * a + 3) ∧ pa (4 * a + 3) ≤ 9) : Inv E F (tmN pa (F 13) au N) := by
  obtain ⟨hW1, hW2, hO1, hO2, hT1, hT2, hI1, hI2, hF1, hF2⟩ := id hP
  have z0 : ∀ p k : Int, 0 ≤ p → p < 6 → 0 ≤ k → k < 61 → ¬ k = 58 → tmN pa (F 13) au N (61 * p + k) = 0 := fun p k a b d f g => tmN_0 ⟨a, b⟩ ⟨d, f⟩ g
  have e8 : tmN pa (F 13) au N 368 = 0 := by rw [tmN_h (by omega) hF2, if_neg (by omega)]
  refine ⟨fun p k h1 h2 h3 h4 => ?_, fun a x y => ⟨fun q => ?_, ⟨fun i j i0 i1 i2 => ?_, fun i j i0 i1 i2 => ?_⟩, fun q => ?_, fun _ => z0 a 33 x (by omega) (by omega) (by omega) (by omega)⟩, ?_, ?_, by omega, fun a x y => ?_⟩
  · by_cases e : k = 58
    · subst e
      rw [tmN_v (by omega), if_neg (by omega)]
      split
      · rename_i q
        rw [show (61 * p + 58 - 58) / 61 = p by omega, k58]
        exact hl p h1 (by omega)
      · exact KOK0 (by omega) (by omega) (by omega)
    · rw [z0 p k h1 h2 h3 h4 e]; exact KOK0 (by omega) (by omega) ⟨h3, h4⟩
  · rw [z0 a 43 x (by omega) (by omega) (by omega) (by omega)] at q; omega
  · rw [show mq 0 = 18 from rfl, z0 a 18 x (by omega) (by omega) (by omega) (by omega)] at i2; omega
  · rw [show mq 1 = 25 from rfl, z0 a 25 x (by omega) (by omega) (by omega) (by omega)] at i2; omega
  · rw [z0 a 43 x (by omega) (by omega) (by omega) (by omega)] at q; omega
  · rw [tmN_h (by omega) hF2, if_neg (by omega)]; omega
  · rw [tmN_h (by omega) hF2, if_pos rfl]; exact ha
  · rw [z0 a 59 x (by omega) (by omega) (by omega) (by omega), z0 a 60 x (by omega) (by omega) (by omega) (by omega), e8]; omega
end C36
