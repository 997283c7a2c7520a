def w3 (L : Int → Int) (q a b c : Int) : Int → Int := up (up (up L (q * 3) a) (q * 3 + 1) b) (q * 3 + 2) c
section C29
variable {sh sh' : aSh} {iv iv' E E' : aF} {rv rv' : aP} {F F' N N' L K M : Int → Int} {c g t a b d : Int} {m m' : Nat}
theorem w3_n {q x z : Int} (hz : 0 ≤ z ∧ z < 3) (h : ¬ x = q) : w3 L q a b d (x * 3 + z) = L (x * 3 + z) := by
  unfold w3; rw [up_n (by omega), up_n (by omega), up_n (by omega)]
theorem w3_s {q z : Int} (hz : 0 ≤ z ∧ z < 3) : w3 L q a b d (q * 3 + z) = if z = 0 then a else if z = 1 then b else d := by
  rcases (by omega : z = 0 ∨ z = 1 ∨ z = 2) with rfl | rfl | rfl
  · unfold w3; rw [up_n (by omega), up_n (by omega), show q * 3 + 0 = q * 3 by omega, up_s]; rfl
  · unfold w3; rw [up_n (by omega), up_s]; rfl
  · unfold w3; rw [up_s]; rfl
theorem LogR.old (h : LogR L t K) (h9 : K 369 ≤ 60) (hg : 0 ≤ g - t ∧ g - t ≤ 39) : LogR (w3 L (g % 100) a b d) t K :=
  ⟨h.1, h.2.1, fun i z i0 i1 z0 z1 => by rw [w3_n ⟨z0, z1⟩ (by omega)]; exact h.2.2 i z i0 i1 z0 z1⟩
theorem lgt_r (h9 : 0 ≤ M 369 ∧ M 369 ≤ 60) : 0 ≤ lgt M ∧ lgt M ≤ 59 := by unfold lgt; split <;> omega
theorem lgF_lo {j : Int} (h9 : 0 ≤ M 369 ∧ M 369 ≤ 60) (hj : j < 369) : lgF M a b d j = M j := by
  have ht := lgt_r h9
  unfold lgF
  rw [up_n (by omega), up_n (by omega), up_n (by omega), up_n (by omega)]
  unfold lgb
  split
  · rw [up_n (by omega)]; unfold shG; rw [if_neg (by omega)]
  · rfl
theorem lgF_9 : lgF M a b d 369 = lgt M + 1 := by unfold lgF; rw [up_s]
theorem lgF_e {y z : Int} (h9 : 0 ≤ M 369 ∧ M 369 ≤ 60) (hz : 0 ≤ z ∧ z < 3) (hy : 0 ≤ y ∧ y ≤ lgt M) : lgF M a b d (370 + 3 * y + z) = if y = lgt M then (if z = 0 then a else if z = 1 then b else d) else M (370 + 3 * (if M 369 = 60 then y + 1 else y) + z) := by
  have ht := lgt_r h9
  unfold lgF
  rw [up_n (by omega)]
  by_cases e : y = lgt M
  · rw [if_pos e, e]
    rcases (by omega : z = 0 ∨ z = 1 ∨ z = 2) with rfl | rfl | rfl
    · rw [up_n (by omega), up_n (by omega), show 370 + 3 * lgt M + 0 = 370 + 3 * lgt M by omega, up_s]; rfl
    · rw [up_n (by omega), up_s]; rfl
    · rw [up_s]; rfl
  · rw [if_neg e, up_n (by omega), up_n (by omega), up_n (by omega)]
    unfold lgb lgt at *
    by_cases q : M 369 = 60
    · rw [if_pos q] at e ht hy
      rw [if_pos q, if_pos q, up_n (by omega)]
      unfold shG
      rw [if_pos (by omega), show 370 + 3 * y + z + 3 = 370 + 3 * (y + 1) + z by omega]
    · rw [if_neg q, if_neg q]
theorem LogR.new {M' : Int → Int} (h : LogR L g M) (h9 : 0 ≤ M 369 ∧ M 369 ≤ 60) (hK : K = lgF M' a b d) (e8 : M' 368 = M 368 + 1) (e9 : ∀ j : Int, 369 ≤ j → M' j = M j) : LogR (w3 L (g % 100) a b d) (g + 1) K := by
  have h9' : 0 ≤ M' 369 ∧ M' 369 ≤ 60 := by rw [e9 369 (by omega)]; exact h9
  obtain ⟨h1, h2, h3⟩ := h
  have hn : M' 369 = M 369 := e9 369 (by omega)
  have ht := lgt_r h9'
  have hlt : lgt M' = if M 369 = 60 then 59 else M 369 := by unfold lgt; rw [hn]
  subst hK
  refine ⟨by rw [lgF_lo h9' (by omega), e8]; omega, ?_, fun i z i0 i1 z0 z1 => ?_⟩
  · rw [lgF_9, hlt]
    unfold mnI at *
    split at h2 <;> (repeat' split) <;> omega
  · rw [lgF_9] at i1 ⊢
    rw [show lgt M' + 1 - 1 - i = lgt M' - i by omega, lgF_e h9' ⟨z0, z1⟩ ⟨by omega, by omega⟩]
    by_cases ei : i = 0
    · subst ei
      rw [if_pos (by omega), show g + 1 - 1 - 0 = g by omega, w3_s ⟨z0, z1⟩]
    · rw [if_neg (by omega), w3_n ⟨z0, z1⟩ (by omega), show g + 1 - 1 - i = g - 1 - (i - 1) by omega, e9 _ (by split <;> omega), hn]
      have hi : i - 1 < M 369 := by rw [hlt] at i1; split at i1 <;> omega
      rw [h3 (i - 1) z (by omega) hi z0 z1]
      congr 2
      rw [hlt]
      split <;> omega
theorem Sim.frame (h : Sim c m sh iv rv E F N) (hS : KpS iv F) (h13 : 0 < F 13) (hf : N 368 + 1 ≤ 9999)
    (e : ∀ i : Nat, ¬ Scr i → ¬ i = 12 → ¬ i = 42 → ¬ i = 84 → ¬ i = 45 → ¬ i = 46 → iv' i = iv i) (z1 : ZK (iv' 42)) (z2 : ZK (iv' 84)) (hr : Rel (iv' 12) (livF E F N)) (e45 : iv' 45 = up (iv 45) 1 (iv 45 1 + 1)) (e46 : iv' 46 = w3 (iv 46) (iv 45 1 % 100) (cntP (LtP (livF E F N)) (F 13).toNat) (shA (livF E F N) (F 13).toNat) (gtA E F (preF E F N) (F 13).toNat 0)) : Sim c m sh iv' rv E F (pasF E F N) := by
  obtain ⟨⟨h1, h2⟩, h3, h4, h5, h6, h7, h8, ⟨g1, g2, g3, g4, g5, g6, g7, g8⟩, ⟨t1, t2, t3, t4, t5, t6, t7⟩, h11⟩ := h
  have hPI := t7 h13
  have hp := pasF_inv hPI.1 hPI.2 (by omega) t3
  have hL := Inv.liv hPI.1 hPI.2 (by omega)
  have e' : ∀ i : Nat, ((13 ≤ i ∧ i < 38) ∨ (47 ≤ i ∧ i < 52) ∨ (55 ≤ i ∧ i < 81) ∨ i < 7 ∨ 87 ≤ i) → iv' i = iv i := fun i hi => e i (by unfold Scr; omega) (by omega) (by omega) (by omega) (by omega) (by omega)
  have k1 : iv' 45 1 = iv 45 1 + 1 := by rw [e45, up_s]
  have ko : ∀ j : Int, ¬ j = 1 → iv' 45 j = iv 45 j := fun j hj => by rw [e45, up_n hj]
  have l9 : livF E F N 369 = N 369 := hL.2.2 369 (by omega) (by omega)
  have h9' : 0 ≤ livF E F N 369 ∧ livF E F N 369 ≤ 60 := by rw [l9]; exact t3
  have hlo : ∀ j : Int, j < 369 → pasF E F N j = livF E F N j := fun j hj => by unfold pasF; exact lgF_lo h9' hj
  refine ⟨⟨h1.cg (fun i hi => e' i (by omega)), h2⟩, h3.cg6 (fun i a b => e' i (by omega)), hr.cgN (fun j a b => hlo j (by omega)), ⟨z1, z2⟩, ?_, ?_, by rw [e' 0 (by omega)]; exact h8, ⟨?_, ?_, ?_, fun j a b => ?_, ?_, ?_, ?_, g8⟩, ⟨t1, t2, hp.2.2, by rw [hp.2.1]; omega, t5, t6, fun _ => ⟨hPI.1, hp.1⟩⟩, h11⟩
  · unfold TpR at *; rw [e' 1 (by omega), e' 2 (by omega)]; exact h6
  · unfold RfR at *; rw [e' 87 (by omega)]; exact h7
  · rw [ko 5 (by omega)]; exact g1
  · rw [ko 4 (by omega)]; exact g2
  · rw [k1, e46]
    exact g3.new t3 rfl (by rw [hL.2.1]) (fun j hj => hL.2.2 j (by omega) (by omega))
  · have ho := g4 j a b
    have hs := hS j a b
    rw [ko 4 (by omega), k1, e46, e' 48 (by omega), e' (88 + _) (by omega)]
    exact ⟨ho.1, ho.2.1.old ho.2.2.1.2.1.2 ⟨by omega, by omega⟩, ho.2.2.1, by omega, by omega⟩
  · unfold KpP at *; rw [ko 4 (by omega), e' 48 (by omega)]; exact g5
  · rw [ko 9 (by omega)]; exact g6
  · intro hh
    have := g7 hh
    unfold ImR at *
    rw [e' 49 (by omega), e' 50 (by omega), ko 8 (by omega)]
    exact this
theorem cpR_lo {off z : Int} (hz : 0 ≤ z ∧ z < 550) : cpR N K off 550 z = K (off + z) := by unfold cpR; rw [if_pos ⟨hz.1, hz.2⟩]
theorem plA_b {a j : Int} : plA ((a + 40 - 1) % 40) j = plA a (j + 1) := by unfold plA; omega
theorem plA_1 {a : Int} : (a + 40 - 1) % 40 = plA a 0 := by unfold plA; omega
/-- an act is undone -/
theorem Sim.undo (h : Sim c m sh iv rv E F N) (h25 : 1 ≤ F 25)
    (e : ∀ i : Nat, ¬ i = 12 → ¬ i = 45 → iv' i = iv i) (hr : ∀ K : Int → Int, Rel (iv (88 + (plA (iv 45 4) 0).toNat)) K → Rel (iv' 12) K) (e45 : iv' 45 = up (up (up (iv 45) 1 (iv 48 ((iv 45 4 + 40 - 1) % 40))) 4 ((iv 45 4 + 40 - 1) % 40)) 5 (iv 45 5 - 1)) : Sim c m sh iv' rv E (up F 25 (F 25 - 1)) (cpR N (E 14) (550 * (F 25 - 1)) 550) := by
  obtain ⟨⟨h1, h2⟩, h3, h4, h5, h6, h7, h8, ⟨g1, g2, g3, g4, g5, g6, g7, g8⟩, ⟨t1, t2, t3, t4, t5, t6, t7⟩, h11⟩ := h
  have h13 := g8 (by omega)
  have hPI := t7 h13
  have qp : EqP E E F (up F 25 (F 25 - 1)) := EqP.f1 (fun j hj => up_n (by omega))
  have fo : ∀ j : Int, ¬ j = 25 → up F 25 (F 25 - 1) j = F j := fun j hj => up_n hj
  have f25 : up F 25 (F 25 - 1) 25 = F 25 - 1 := up_s
  have k1 : iv' 45 1 = iv 48 (plA (iv 45 4) 0) := by rw [e45, up_n (by omega), up_n (by omega), up_s, plA_1]
  have k4 : iv' 45 4 = (iv 45 4 + 40 - 1) % 40 := by rw [e45, up_n (by omega), up_s]
  have k5 : iv' 45 5 = iv 45 5 - 1 := by rw [e45, up_s]
  have ko : ∀ j : Int, ¬ j = 1 → ¬ j = 4 → ¬ j = 5 → iv' 45 j = iv 45 j := fun j a b d => by rw [e45, up_n d, up_n b, up_n a]
  have o0 := g4 0 (by omega) (by omega)
  rw [show F 25 - 1 - 0 = F 25 - 1 by omega] at o0
  have hz : ∀ z : Int, 0 ≤ z → z < 550 → cpR N (E 14) (550 * (F 25 - 1)) 550 z = Kn E (F 25 - 1) z := fun z a b => cpR_lo ⟨a, b⟩
  have okN := o0.2.2.1.cg hPI.1 hz
  have hpr := plA_r (a := iv 45 4) (j := 0)
  refine ⟨⟨h1.cg (fun i hi => e i (by omega) (by omega)), h2⟩, Sim.pl' (h1.cg (fun i hi => e i (by omega) (by omega))) h3 (fun i a b => e i (by omega) (by omega)) qp, (hr _ o0.1.2).cgN (fun z a b => hz z a (by omega)), by rw [e 42 (by omega) (by omega), e 84 (by omega) (by omega)]; exact h5, ?_, ?_, ?_, ⟨?_, ?_, ?_, fun j a b => ?_, fun i j a b d => ?_, ?_, fun hh => ?_, fun _ => by rw [fo 13 (by omega)]; exact h13⟩, ⟨by rw [fo 13 (by omega)]; exact t1, Prm2_q qp t2, okN.2.1, okN.2.2, t5, by rw [f25]; omega, fun _ => ⟨Prm_q qp hPI.1, Inv_q qp okN.1⟩⟩, ?_⟩
  · unfold TpR at *; rw [e 1 (by omega) (by omega), e 2 (by omega) (by omega), fo 2 (by omega)]; exact h6
  · unfold RfR at *; rw [e 87 (by omega) (by omega)]; exact h7
  · rw [e 0 (by omega) (by omega), fo 17 (by omega)]; exact h8
  · rw [k5, f25, g1]
  · rw [k4, plA_1]; omega
  · rw [e 46 (by omega) (by omega), k1]
    exact o0.2.1.cg (fun z a b => hz z (by omega) b) o0.2.2.1.2.1.2
  · rw [f25] at b ⊢
    have ho := g4 (j + 1) (by omega) (by omega)
    have hq := g5 0 (j + 1) (by omega) (by omega) (by omega)
    rw [k4, k1, plA_b, e 46 (by omega) (by omega), e 48 (by omega) (by omega), e (88 + _) (by omega) (by omega), show F 25 - 1 - 1 - j = F 25 - 1 - (j + 1) by omega]
    exact ⟨ho.1, ho.2.1, ho.2.2.1.q qp, by omega, by omega⟩
  · rw [f25] at d
    have := g5 (i + 1) (j + 1) (by omega) (by omega) (by omega)
    rw [k4, plA_b, plA_b, e 48 (by omega) (by omega)]
    omega
  · rw [ko 9 (by omega) (by omega) (by omega), fo 30 (by omega)]; exact g6
  · rw [fo 30 (by omega)] at hh
    have := g7 hh
    unfold ImR at *
    rw [e 49 (by omega) (by omega), e 50 (by omega) (by omega), ko 8 (by omega) (by omega) (by omega)]
    exact ⟨this.1, this.2.1.q qp, this.2.2⟩
  · unfold Nne at *; rw [fo 13 (by omega)]; exact h11
/-- the image is taken -/
theorem Sim.image (h : Sim c m sh iv rv E F N) (h13 : 0 < F 13)
    (e : ∀ i : Nat, ¬ i = 45 → ¬ i = 49 → ¬ i = 50 → iv' i = iv i) (hr : Rel (iv' 49) N) (e45 : iv' 45 = up (up (iv 45) 8 (mnI (iv 45 1) 60)) 9 1)
    (hJ : ∀ i z : Int, 0 ≤ i → i < mnI (iv 45 1) 60 → 0 ≤ z → z < 3 → iv' 50 (i * 3 + z) = iv 46 ((iv 45 1 - 1 - (mnI (iv 45 1) 60 - 1 - i)) % 100 * 3 + z)) : Sim c m sh iv' rv (uA E 17 (cpW (E 17) N 0 550)) (up F 30 1) N := by
  obtain ⟨⟨h1, h2⟩, h3, h4, h5, h6, h7, h8, ⟨g1, g2, g3, g4, g5, g6, g7, g8⟩, ⟨t1, t2, t3, t4, t5, t6, t7⟩, h11⟩ := h
  have hPI := t7 h13
  have qp : EqP E (uA E 17 (cpW (E 17) N 0 550)) F (up F 30 1) := (EqP.e1 (by decide) (by decide) (by decide)).tr (EqP.f1 (fun j hj => up_n (by omega)))
  have fo : ∀ j : Int, ¬ j = 30 → up F 30 1 j = F j := fun j hj => up_n hj
  have eo : ∀ i : Nat, ¬ i = 17 → uA E 17 (cpW (E 17) N 0 550) i = E i := fun i hi => uA_n hi
  have ez : ∀ z : Int, 0 ≤ z → z < 550 → uA E 17 (cpW (E 17) N 0 550) 17 z = N z := fun z a b => by rw [uA_s]; unfold cpW; rw [if_pos (by omega), show z - 0 = z by omega]
  have ek : ∀ r : Int, Kn (uA E 17 (cpW (E 17) N 0 550)) r = Kn E r := fun r => by unfold Kn; rw [eo 14 (by omega)]
  have k8 : iv' 45 8 = mnI (iv 45 1) 60 := by rw [e45, up_n (by omega), up_s]
  have k9 : iv' 45 9 = 1 := by rw [e45, up_s]
  have ko : ∀ j : Int, ¬ j = 8 → ¬ j = 9 → iv' 45 j = iv 45 j := fun j a b => by rw [e45, up_n b, up_n a]
  have e' : ∀ i : Nat, i < 45 ∨ (46 ≤ i ∧ i < 49) ∨ 51 ≤ i → iv' i = iv i := fun i hi => e i (by omega) (by omega) (by omega)
  have hmn := mnI_r (x := iv 45 1) (y := 60) g3.1.1 (by omega)
  refine ⟨⟨h1.cg (fun i hi => e' i (by omega)), h2⟩, Sim.pl' (h1.cg (fun i hi => e' i (by omega))) h3 (fun i a b => e' i (by omega)) qp, by rw [e' 12 (by omega)]; exact h4, by rw [e' 42 (by omega), e' 84 (by omega)]; exact h5, ?_, ?_, ?_, ⟨?_, ?_, ?_, fun j a b => ?_, ?_, ⟨by rw [k9, up_s], Or.inr up_s⟩, fun _ => ⟨hr.cgN (fun z a b => ez z a (by omega)), (Okn.cg (N := N) hPI.1 ⟨hPI.2, t3, t4⟩ ez).q qp, ?_, ?_, fun i z a b d f => ?_⟩, fun _ => by rw [fo 13 (by omega)]; exact h13⟩, ⟨by rw [fo 13 (by omega)]; exact t1, Prm2_q qp t2, t3, t4, by rw [eo 9 (by omega)]; exact t5, by rw [fo 25 (by omega)]; exact t6, fun _ => ⟨Prm_q qp hPI.1, Inv_q qp hPI.2⟩⟩, ?_⟩
  · unfold TpR at *; rw [e' 1 (by omega), e' 2 (by omega), fo 2 (by omega), eo 1 (by omega)]; exact h6
  · unfold RfR at *; rw [e' 87 (by omega), eo 9 (by omega)]; exact h7
  · rw [e' 0 (by omega), fo 17 (by omega)]; exact h8
  · rw [ko 5 (by omega) (by omega), fo 25 (by omega)]; exact g1
  · rw [ko 4 (by omega) (by omega)]; exact g2
  · rw [e' 46 (by omega), ko 1 (by omega) (by omega)]; exact g3
  · rw [fo 25 (by omega)] at b ⊢
    have ho := g4 j a b
    rw [ko 4 (by omega) (by omega), ko 1 (by omega) (by omega), e' 46 (by omega), e' 48 (by omega), e' (88 + _) (by omega), ek]
    exact ⟨ho.1, ho.2.1, ho.2.2.1.q qp, ho.2.2.2⟩
  · unfold KpP at *; rw [ko 4 (by omega) (by omega), e' 48 (by omega), fo 25 (by omega)]; exact g5
  · rw [k8, ez _ (by omega) (by omega), g3.2.1]
  · rw [ez _ (by omega) (by omega), ez _ (by omega) (by omega), g3.2.1]; have := g3.1.2; omega
  · rw [k8] at b
    rw [hJ i z a b d f, ez _ (by omega) (by omega), g3.2.2 _ z (by omega) (by rw [g3.2.1]; omega) d f, g3.2.1]
    congr 1
    omega
  · unfold Nne at *; rw [eo 6 (by omega), fo 13 (by omega)]; exact h11
/-- back to the image -/
theorem Sim.back (h : Sim c m sh iv rv E F N) (h30 : F 30 = 1)
    (e : ∀ i : Nat, ¬ i = 12 → ¬ i = 45 → ¬ i = 46 → iv' i = iv i) (hr : ∀ K : Int → Int, Rel (iv 49) K → Rel (iv' 12) K) (e45 : iv' 45 = up (up (iv 45) 1 (iv 45 8)) 5 0) (e46 : iv' 46 = cpyI (iv 50) (iv 46) 0 0 (iv 45 8 * 3)) : Sim c m sh iv' rv E (up F 25 0) (cpR N (E 17) 0 550) := by
  obtain ⟨⟨h1, h2⟩, h3, h4, h5, h6, h7, h8, ⟨g1, g2, g3, g4, g5, g6, g7, g8⟩, ⟨t1, t2, t3, t4, t5, t6, t7⟩, h11⟩ := h
  have h13 := g8 (by omega)
  have hPI := t7 h13
  have qp : EqP E E F (up F 25 0) := EqP.f1 (fun j hj => up_n (by omega))
  have fo : ∀ j : Int, ¬ j = 25 → up F 25 0 j = F j := fun j hj => up_n hj
  have k1 : iv' 45 1 = iv 45 8 := by rw [e45, up_n (by omega), up_s]
  have k5 : iv' 45 5 = 0 := by rw [e45, up_s]
  have ko : ∀ j : Int, ¬ j = 1 → ¬ j = 5 → iv' 45 j = iv 45 j := fun j a b => by rw [e45, up_n b, up_n a]
  have e' : ∀ i : Nat, i < 12 ∨ (13 ≤ i ∧ i < 45) ∨ 47 ≤ i → iv' i = iv i := fun i hi => e i (by omega) (by omega) (by omega)
  obtain ⟨i1, i2, i3, i4, i5⟩ := g7 h30
  have hz : ∀ z : Int, 0 ≤ z → z < 550 → cpR N (E 17) 0 550 z = E 17 z := fun z a b => by rw [cpR_lo ⟨a, b⟩, show (0 : Int) + z = z by omega]
  have okN := i2.cg hPI.1 hz
  refine ⟨⟨h1.cg (fun i hi => e' i (by omega)), h2⟩, Sim.pl' (h1.cg (fun i hi => e' i (by omega))) h3 (fun i a b => e' i (by omega)) qp, (hr _ i1).cgN (fun z a b => hz z a (by omega)), by rw [e' 42 (by omega), e' 84 (by omega)]; exact h5, ?_, ?_, ?_, ⟨?_, ?_, ?_, fun j a b => ?_, fun i j a b d => ?_, ?_, fun hh => ?_, fun _ => by rw [fo 13 (by omega)]; exact h13⟩, ⟨by rw [fo 13 (by omega)]; exact t1, Prm2_q qp t2, okN.2.1, okN.2.2, t5, by rw [up_s]; omega, fun _ => ⟨Prm_q qp hPI.1, Inv_q qp okN.1⟩⟩, ?_⟩
  · unfold TpR at *; rw [e' 1 (by omega), e' 2 (by omega), fo 2 (by omega)]; exact h6
  · unfold RfR at *; rw [e' 87 (by omega)]; exact h7
  · rw [e' 0 (by omega), fo 17 (by omega)]; exact h8
  · rw [k5, up_s]
  · rw [ko 4 (by omega) (by omega)]; exact g2
  · rw [k1, e46]
    have h60 := i2.2.1
    refine ⟨by rw [hz _ (by omega) (by omega)]; omega, ?_, fun i z a b d f => ?_⟩
    · rw [hz _ (by omega) (by omega)]; unfold mnI; rw [if_neg (by omega), i3]
    · rw [hz 369 (by omega) (by omega)] at b ⊢
      rw [hz _ (by omega) (by omega)]
      have hq : (iv 45 8 - 1 - i) % 100 = iv 45 8 - 1 - i := by omega
      rw [hq]
      unfold cpyI
      rw [if_pos (by omega), show (0 : Int) + ((iv 45 8 - 1 - i) * 3 + z - 0) = (iv 45 8 - 1 - i) * 3 + z by omega, i5 _ z (by omega) (by omega) d f, i3]
  · rw [up_s] at b; omega
  · rw [up_s] at d; omega
  · rw [ko 9 (by omega) (by omega), fo 30 (by omega)]; exact g6
  · unfold ImR at *
    rw [e' 49 (by omega), e' 50 (by omega), ko 8 (by omega) (by omega)]
    exact ⟨i1, i2.q qp, i3, i4, i5⟩
  · unfold Nne at *; rw [fo 13 (by omega)]; exact h11
end C29
