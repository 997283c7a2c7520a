/-- the class's objects, their shapes and links -/
def HmA (sh : aSh) (rv : aP) : Prop := sh[0]? = some (3, 11) ∧ rv 0 0 = some 1 ∧ rv 0 1 = some 3 ∧ rv 0 2 = some 7 ∧ rv 0 3 = some 11 ∧ rv 0 4 = some 38 ∧ rv 0 5 = some 41 ∧ rv 0 6 = some 45 ∧ rv 0 7 = some 51 ∧ rv 0 8 = some 87 ∧ sh[87]? = some (0, 5)
def ClW (sh : aSh) (iv : aF) (rv : aP) : Prop := HmA sh rv ∧ TpA sh rv ∧ PlS sh rv ∧ RdA sh rv ∧ NtA sh rv iv 0 ∧ NtA sh rv iv 1 ∧ OtA sh rv ∧ PsA sh rv
/-- m rows of acts are made -/
def Made (sh : aSh) (rv : aP) (m : Nat) : Prop := sh.length = 88 + m ∧ m ≤ 40 ∧ (∀ k : Nat, k < m → sh[88 + k]? = some (0, 429) ∧ rv 47 k = some (88 + k)) ∧ ∀ k : Nat, m ≤ k → k < 40 → rv 47 k = none
/-- the log: a ring of 100, g entries came -/
def LogR (L : Int → Int) (g : Int) (N : Int → Int) : Prop := (0 ≤ g ∧ g ≤ N 368) ∧ N 369 = mnI g 60 ∧ ∀ i z : Int, 0 ≤ i → i < N 369 → 0 ≤ z → z < 3 → L ((g - 1 - i) % 100 * 3 + z) = N (370 + 3 * (N 369 - 1 - i) + z)
def Kn (E : aF) (r : Int) : Int → Int := fun z => E 14 (550 * r + z)
def Okn (E : aF) (F N : Int → Int) : Prop := Inv E F N ∧ (0 ≤ N 369 ∧ N 369 ≤ 60) ∧ (0 ≤ N 368 ∧ N 368 ≤ 9999)
/-- where the act before j others is kept -/
def plA (a j : Int) : Int := (a - 1 - j) % 40
def KpO (m : Nat) (iv E : aF) (F : Int → Int) : Prop := ∀ j : Int, 0 ≤ j → j < F 25 → ((plA (iv 45 4) j).toNat < m ∧ Rel (iv (88 + (plA (iv 45 4) j).toNat)) (Kn E (F 25 - 1 - j))) ∧ LogR (iv 46) (iv 48 (plA (iv 45 4) j)) (Kn E (F 25 - 1 - j)) ∧ Okn E F (Kn E (F 25 - 1 - j)) ∧ 0 ≤ iv 45 1 - iv 48 (plA (iv 45 4) j) ∧ iv 45 1 - iv 48 (plA (iv 45 4) j) ≤ j + 1
def KpP (iv : aF) (F : Int → Int) : Prop := ∀ i j : Int, 0 ≤ i → i ≤ j → j < F 25 → 0 ≤ iv 48 (plA (iv 45 4) i) - iv 48 (plA (iv 45 4) j) ∧ iv 48 (plA (iv 45 4) i) - iv 48 (plA (iv 45 4) j) ≤ j - i
def ImR (iv E : aF) (F : Int → Int) : Prop := Rel (iv 49) (E 17) ∧ Okn E F (E 17) ∧ iv 45 8 = E 17 369 ∧ E 17 369 ≤ E 17 368 ∧ ∀ i z : Int, 0 ≤ i → i < iv 45 8 → 0 ≤ z → z < 3 → iv 50 (i * 3 + z) = E 17 (370 + 3 * i + z)
def PsR (m : Nat) (iv E : aF) (F N : Int → Int) : Prop := iv 45 5 = F 25 ∧ (0 ≤ iv 45 4 ∧ iv 45 4 < 40 ∧ iv 45 4 ≤ m) ∧ LogR (iv 46) (iv 45 1) N ∧ KpO m iv E F ∧ KpP iv F ∧ (iv 45 9 = F 30 ∧ (F 30 = 0 ∨ F 30 = 1)) ∧ (F 30 = 1 → ImR iv E F) ∧ (0 < F 25 ∨ F 30 = 1 → 0 < F 13)
def RfR (c : Int) (iv E : aF) : Prop := c ≤ 600 ∧ ∀ z : Int, 0 ≤ z → z < 5 → iv 87 z = E 9 z ∧ 0 ≤ E 9 z ∧ E 9 z ≤ c
def Nne (E : aF) (F : Int → Int) : Prop := ∀ a : Int, 0 ≤ a → a < F 13 → ¬ E 6 (4 * a + 0) = E 6 (4 * a + 1)
/-- class and reference: the same -/
def Sim (c : Int) (m : Nat) (sh : aSh) (iv : aF) (rv : aP) (E : aF) (F N : Int → Int) : Prop := (ClW sh iv rv ∧ Made sh rv m) ∧ PlA sh rv iv E F ∧ Rel (iv 12) N ∧ (ZK (iv 42) ∧ ZK (iv 84)) ∧ TpR iv (E 1) (F 2) ∧ RfR c iv E ∧ (iv 0 9 = F 17 ∧ 0 ≤ F 17 ∧ F 17 ≤ 9) ∧ PsR m iv E F N ∧ Tld E F N ∧ Nne E F
section C27
variable {sh sh' : aSh} {iv iv' E E' : aF} {rv rv' : aP} {F F' N N' L : Int → Int} {c : Int} {m : Nat}
theorem ClW.cg (h : ClW sh iv rv) (e : ∀ i : Nat, 14 ≤ i ∧ i < 38 ∨ 56 ≤ i ∧ i < 80 → iv' i = iv i) : ClW sh iv' rv :=
  ⟨h.1, h.2.1, h.2.2.1, h.2.2.2.1, h.2.2.2.2.1.cg (fun i a b => e i (by omega)), h.2.2.2.2.2.1.cg (fun i a b => e i (by omega)), h.2.2.2.2.2.2⟩
theorem NtA.ext {b : Nat} (h : NtA sh rv iv b) (hs : ∀ (i : Nat) (x : Nat × Nat), i < 88 → sh[i]? = some x → sh'[i]? = some x) (hr : ∀ (i : Nat) (k : Int) (x : Option Nat), i < 88 → ¬ i = 47 → rv i k = x → rv' i k = x) : NtA sh' rv' iv b := by
  obtain ⟨hb, ⟨a1, a2, a3, a4, a5, a6⟩, h3, ⟨b1, b2, b3, b4, b5, b6, b7⟩, c1, c2, c3, c4, c5, c6, c7, c8, c9, c10⟩ := h
  refine ⟨hb, ⟨hs _ _ (by omega) a1, hs _ _ (by omega) a2, hs _ _ (by omega) a3, hr _ _ _ (by omega) (by omega) a4, hr _ _ _ (by omega) (by omega) a5, hr _ _ _ (by omega) (by omega) a6⟩, fun p p0 p1 => ?_, ⟨hs _ _ (by omega) b1, hs _ _ (by omega) b2, hs _ _ (by omega) b3, hr _ _ _ (by omega) (by omega) b4, hr _ _ _ (by omega) (by omega) b5, hr _ _ _ (by omega) (by omega) b6, hr _ _ _ (by omega) (by omega) b7⟩, hs _ _ (by omega) c1, hs _ _ (by omega) c2, hs _ _ (by omega) c3, hs _ _ (by omega) c4, hr _ _ _ (by omega) (by omega) c5, hr _ _ _ (by omega) (by omega) c6, hr _ _ _ (by omega) (by omega) c7, hr _ _ _ (by omega) (by omega) c8, hr _ _ _ (by omega) (by omega) c9, hr _ _ _ (by omega) (by omega) c10⟩
  obtain ⟨d0, d1, d2, d3, d4, d5, d6, d7, d8, d9, d10, ⟨s1, s2, s3, s4⟩, ⟨r1, r2, r3, r4⟩, m1, m2, m3, m4⟩ := h3 p p0 p1
  have lA : lid b p < 88 ∧ ¬ lid b p = 47 := by unfold lid; omega
  have lB : sid b p < 88 ∧ ¬ sid b p = 47 := by unfold sid; omega
  have lC : rid b p < 88 ∧ ¬ rid b p = 47 := by unfold rid; omega
  have lD : mid b p < 88 ∧ ¬ mid b p = 47 := by unfold mid; omega
  exact ⟨hr _ _ _ (by omega) (by omega) d0, hs _ _ lA.1 d1, hr _ _ _ lA.1 lA.2 d2, hs _ _ (by omega) d3, d4, d5, d6, d7, hr _ _ _ lA.1 lA.2 d8, hr _ _ _ lA.1 lA.2 d9, hr _ _ _ lA.1 lA.2 d10, ⟨hs _ _ lB.1 s1, hr _ _ _ lB.1 lB.2 s2, hs _ _ (by omega) s3, s4⟩, ⟨hs _ _ lC.1 r1, hr _ _ _ lC.1 lC.2 r2, hs _ _ (by omega) r3, r4⟩, hs _ _ lD.1 m1, hr _ _ _ lD.1 lD.2 m2, hs _ _ (by omega) m3, m4⟩
theorem ClW.ext (h : ClW sh iv rv) (hs : ∀ (i : Nat) (x : Nat × Nat), i < 88 → sh[i]? = some x → sh'[i]? = some x) (hr : ∀ (i : Nat) (k : Int) (x : Option Nat), i < 88 → ¬ i = 47 → rv i k = x → rv' i k = x) : ClW sh' iv rv' := by
  obtain ⟨⟨a1, a2, a3, a4, a5, a6, a7, a8, a9, a10, a11⟩, ⟨t1, t2, t3⟩, ⟨p1, p2, p3, p4, p5, p6, p7⟩, ⟨r1, r2, r3, r4, r5, r6, r7, r8⟩, h0, h1, ⟨o1, o2, o3, o4, o5, o6⟩, g1, g2, g3, g4, g5, g6, g7, g8, g9, g10, g11, g12⟩ := h
  exact ⟨⟨hs _ _ (by omega) a1, hr _ _ _ (by omega) (by omega) a2, hr _ _ _ (by omega) (by omega) a3, hr _ _ _ (by omega) (by omega) a4, hr _ _ _ (by omega) (by omega) a5, hr _ _ _ (by omega) (by omega) a6, hr _ _ _ (by omega) (by omega) a7, hr _ _ _ (by omega) (by omega) a8, hr _ _ _ (by omega) (by omega) a9, hr _ _ _ (by omega) (by omega) a10, hs _ _ (by omega) a11⟩, ⟨hs _ _ (by omega) t1, hr _ _ _ (by omega) (by omega) t2, hs _ _ (by omega) t3⟩, ⟨hs _ _ (by omega) p1, hr _ _ _ (by omega) (by omega) p2, hr _ _ _ (by omega) (by omega) p3, hr _ _ _ (by omega) (by omega) p4, hs _ _ (by omega) p5, hs _ _ (by omega) p6, hs _ _ (by omega) p7⟩, ⟨hs _ _ (by omega) r1, hr _ _ _ (by omega) (by omega) r2, hr _ _ _ (by omega) (by omega) r3, hr _ _ _ (by omega) (by omega) r4, hr _ _ _ (by omega) (by omega) r5, hs _ _ (by omega) r6, hs _ _ (by omega) r7, hs _ _ (by omega) r8⟩, h0.ext hs hr, h1.ext hs hr, ⟨hs _ _ (by omega) o1, hr _ _ _ (by omega) (by omega) o2, hr _ _ _ (by omega) (by omega) o3, hr _ _ _ (by omega) (by omega) o4, hr _ _ _ (by omega) (by omega) o5, hs _ _ (by omega) o6⟩, hs _ _ (by omega) g1, hs _ _ (by omega) g2, hs _ _ (by omega) g3, hs _ _ (by omega) g4, hs _ _ (by omega) g5, hs _ _ (by omega) g6, hs _ _ (by omega) g7, hr _ _ _ (by omega) (by omega) g8, hr _ _ _ (by omega) (by omega) g9, hr _ _ _ (by omega) (by omega) g10, hr _ _ _ (by omega) (by omega) g11, hr _ _ _ (by omega) (by omega) g12⟩
/-- a new row of acts -/
theorem Made.ext (h : Made sh rv m) (hm : m < 40) : Made (sh ++ [(0, 429)]) (uP (uQ rv sh.length (fun _ => none)) 47 (m : Int) (some sh.length)) (m + 1) := by
  obtain ⟨h1, h2, h3, h4⟩ := h
  have er : ∀ k : Nat, ¬ k = m → uP (uQ rv sh.length (fun _ => none)) 47 (m : Int) (some sh.length) 47 (k : Int) = rv 47 k := fun k hk => by unfold uP uQ; rw [if_neg (by omega), if_neg (by omega)]
  refine ⟨by rw [List.length_append, h1]; rfl, by omega, fun k hk => ?_, fun k a b => ?_⟩
  · by_cases e : k = m
    · subst e
      refine ⟨by rw [← h1, List.getElem?_append_right (by omega)]; simp, ?_⟩
      unfold uP; rw [if_pos ⟨rfl, rfl⟩, h1]
    · have := h3 k (by omega)
      exact ⟨by rw [List.getElem?_append_left (by omega)]; exact this.1, by rw [er k e]; exact this.2⟩
  · rw [er k (by omega)]; exact h4 k (by omega) b
theorem ClW.new {j : Int} {q : Option Nat} (h : ClW sh iv rv) (hl : 88 ≤ sh.length) : ClW (sh ++ [(0, 429)]) iv (uP (uQ rv sh.length (fun _ => none)) 47 j q) :=
  h.ext (fun i x hi hx => by rw [List.getElem?_append_left (by omega)]; exact hx) (fun i k x hi hn hx => by unfold uP uQ; rw [if_neg (by omega), if_neg (by omega)]; exact hx)
theorem LogR.cg (h : LogR L c N) (e : ∀ j : Int, 368 ≤ j → j < 550 → N' j = N j) (h9 : N 369 ≤ 60) : LogR L c N' := by
  obtain ⟨h1, h2, h3⟩ := h
  rw [← e 368 (by omega) (by omega)] at h1
  rw [← e 369 (by omega) (by omega)] at h2 h3 h9
  refine ⟨h1, h2, fun i z a b d f => ?_⟩
  rw [h3 i z a b d f]
  exact (e _ (by omega) (by omega)).symm
theorem Inv.cg0 (hP : Prm E F) (h : Inv E F N) (e : ∀ j : Int, 0 ≤ j → j < 369 → N' j = N j) : Inv E F N' := by
  obtain ⟨hW1, hW2, hO1, hO2, hT1, hT2, hI1, hI2, hF1, hF2⟩ := id hP
  obtain ⟨hB, hPI, hj, ha, h0, hU⟩ := h
  refine ⟨fun p k a b x y => ?_, fun a x y => (hPI a x y).cg hB (by omega) (fun k hk => e _ (by omega) (by omega)), ?_, ?_, ?_, fun a x y => ?_⟩
  · rw [e _ (by omega) (by omega)]; exact hB p k a b x y
  · rw [e _ (by omega) (by omega)]; exact hj
  · rw [e _ (by omega) (by omega)]; exact ha
  · rw [e _ (by omega) (by omega)]; exact h0
  · rw [e _ (by omega) (by omega), e _ (by omega) (by omega), e _ (by omega) (by omega)]; exact hU a x y
theorem Okn.cg (hP : Prm E F) (h : Okn E F N) (e : ∀ j : Int, 0 ≤ j → j < 550 → N' j = N j) : Okn E F N' :=
  ⟨h.1.cg0 hP (fun j a b => e j a (by omega)), by rw [e _ (by omega) (by omega)]; exact h.2.1, by rw [e _ (by omega) (by omega)]; exact h.2.2⟩
theorem Okn.q (q : EqP E E' F F') (h : Okn E F N) : Okn E' F' N := ⟨Inv_q q h.1, h.2⟩
theorem Rel.cgN {w : Int → Int} (h : Rel w N) (e : ∀ j : Int, 0 ≤ j → j < 369 → N' j = N j) : Rel w N' := by
  refine ⟨fun p k h1 h2 h3 => ?_, ?_, ?_, ?_⟩
  · have hk : 0 ≤ k ∧ k < 61 := by unfold vis at h3; omega
    rw [e _ (by omega) (by omega)]; exact h.1 p k h1 h2 h3
  · rw [e _ (by omega) (by omega)]; exact h.2.1
  · rw [e _ (by omega) (by omega)]; exact h.2.2.1
  · rw [e _ (by omega) (by omega)]; exact h.2.2.2
/-- what is scratch in the class -/
def Scr (i : Nat) : Prop := (7 ≤ i ∧ i < 11) ∨ i = 38 ∨ i = 39 ∨ i = 40 ∨ i = 43 ∨ i = 44 ∨ i = 52 ∨ i = 54 ∨ (81 ≤ i ∧ i < 84) ∨ i = 85 ∨ i = 86
theorem PlA.cg6 (h : PlA sh rv iv E F) (e : ∀ i : Nat, 3 ≤ i → i < 7 → iv' i = iv i) : PlA sh rv iv' E F := by
  obtain ⟨h1, h2, h3, h4, h5, h6, h7, h8, h9, h10, h11, h12⟩ := h
  refine ⟨h1, h2, h3, h4, h5, h6, h7, ?_, ?_, fun k a b => ?_, fun k a b => ?_, fun k a b => ?_⟩
  · rw [e 3 (by omega) (by omega)]; exact h8
  · rw [e 3 (by omega) (by omega)]; exact h9
  · rw [e 4 (by omega) (by omega)]; exact h10 k a b
  · rw [e 5 (by omega) (by omega)]; exact h11 k a b
  · rw [e 6 (by omega) (by omega)]; exact h12 k a b
theorem PsR.cg (h : PsR m iv E F N) (e : ∀ i : Nat, (45 ≤ i ∧ i < 51) ∨ 88 ≤ i → iv' i = iv i) : PsR m iv' E F N := by
  unfold PsR KpO KpP ImR at *
  rw [e 45 (by omega), e 46 (by omega), e 48 (by omega), e 49 (by omega), e 50 (by omega)]
  obtain ⟨h1, h2, h3, h4, h5, h6, h7, h8⟩ := h
  refine ⟨h1, h2, h3, fun j a b => ?_, h5, h6, h7, h8⟩
  rw [e (88 + _) (by omega)]; exact h4 j a b
theorem Sim.scr (h : Sim c m sh iv rv E F N) (e : ∀ i : Nat, ¬ Scr i → ¬ i = 42 → ¬ i = 84 → iv' i = iv i) (z1 : ZK (iv' 42)) (z2 : ZK (iv' 84)) : Sim c m sh iv' rv E F N := by
  obtain ⟨⟨h1, h2⟩, h3, h4, h5, h6, h7, h8, h9, h10, h11⟩ := h
  have e' : ∀ i : Nat, ((11 ≤ i ∧ i < 38) ∨ (45 ≤ i ∧ i < 52) ∨ (55 ≤ i ∧ i < 81) ∨ i < 7 ∨ 87 ≤ i) → iv' i = iv i := fun i hi => e i (by unfold Scr; omega) (by omega) (by omega)
  refine ⟨⟨h1.cg (fun i hi => e' i (by omega)), h2⟩, h3.cg6 (fun i a b => e' i (by omega)), by rw [e' 12 (by omega)]; exact h4, ⟨z1, z2⟩, ?_, ?_, by rw [e' 0 (by omega)]; exact h8, h9.cg (fun i hi => e' i (by omega)), h10, h11⟩
  · unfold TpR at *; rw [e' 1 (by omega), e' 2 (by omega)]; exact h6
  · unfold RfR at *; rw [e' 87 (by omega)]; exact h7
/-- other scratch of the reference -/
theorem Sim.q (h : Sim c m sh iv rv E F N) (q : EqE E E') (f : EqF F F') : Sim c m sh iv rv E' F' N := by
  obtain ⟨⟨h1, h2⟩, h3, h4, h5, h6, h7, h8, h9, h10, h11⟩ := h
  have qp := q.p f
  have e1 := q 1 (by omega)
  have e5 := q 5 (by omega)
  have e6 := q 6 (by omega)
  have e7 := q 7 (by omega)
  have e9 := q 9 (by omega)
  have e14 := q 14 (by omega)
  have e17 := q 17 (by omega)
  have f2 := f 2 (by omega)
  have f13 := f 13 (by omega)
  have f14 := f 14 (by omega)
  have f17 := f 17 (by omega)
  have f25 := f 25 (by omega)
  have f30 := f 30 (by omega)
  have ek : ∀ r : Int, Kn E' r = Kn E r := fun r => by unfold Kn; rw [e14]
  refine ⟨⟨h1, h2⟩, ?_, h4, h5, ?_, ?_, ?_, ?_, ?_, ?_⟩
  · unfold PlA at *; rw [e5, e6, e7, f13, f14]; exact h3
  · rw [e1, f2]; exact h6
  · unfold RfR at *; rw [e9]; exact h7
  · rw [f17]; exact h8
  · obtain ⟨g1, g2, g3, g4, g5, g6, g7, g8⟩ := h9
    refine ⟨by rw [f25]; exact g1, g2, g3, fun j a b => ?_, fun i j a b d => g5 i j a b (by omega), by rw [f30]; exact g6, fun hh => ?_, fun hh => by rw [f13]; exact g8 (by omega)⟩
    · have := g4 j a (by omega)
      rw [f25, ek]
      exact ⟨this.1, this.2.1, this.2.2.1.q qp, this.2.2.2⟩
    · have := g7 (by omega)
      unfold ImR at *
      rw [e17]
      exact ⟨this.1, this.2.1.q qp, this.2.2⟩
  · obtain ⟨t1, t2, t3, t4, t5, t6, t7⟩ := h10
    exact ⟨by rw [f13]; exact t1, Prm2_q qp t2, t3, t4, by rw [e9]; exact t5, by rw [f25]; exact t6, fun hh => ⟨Prm_q qp (t7 (by omega)).1, Inv_q qp (t7 (by omega)).2⟩⟩
  · unfold Nne at *; rw [e6, f13]; exact h11
theorem Sim.mono {c' : Int} (h : Sim c m sh iv rv E F N) (hc : c ≤ c') (h6 : c' ≤ 600) : Sim c' m sh iv rv E F N := by
  obtain ⟨h1, h3, h4, h5, h6', h7, h8⟩ := h
  exact ⟨h1, h3, h4, h5, h6', ⟨h6, fun z a b => by have := h7.2 z a b; exact ⟨this.1, this.2.1, by omega⟩⟩, h8⟩
end C27
