/-- an answer OK to a move has both its cells -/
def LetOK (N : Int → Int) (p : Int) : Prop := N (61 * p + 43) = 1 → N (61 * p + 44) = 1 → N (61 * p + 46) = 0 → N (61 * p + 45) = 2 → N (61 * p + 48) = 2
section D11
variable {iv : aF} {F N T : Int → Int} {p : Int}
theorem far_of {N' : Int → Int} (h : Loc p N N') (hp : 0 ≤ p ∧ p < 6) : N' 368 = N 368 := h 368 (by omega)
theorem Bok.bdelL {W Of : Int} (hp : 0 ≤ p ∧ p < 6) (m : Nat) : ∀ (i : Int) (N : Int → Int), 0 ≤ i → i + m ≤ 6 → N (61 * p + 48) + m ≤ 4 → Bok W Of N → Bok W Of (delL p m i N) := by
  induction m with
  | zero => intro i N h1 h2 h3 h; exact h
  | succ m ih =>
    intro i N h1 h2 h3 h
    have h48 := h.v48 hp
    have hc := h.cel (q := 0) (i := i) hp (Or.inl rfl) (by omega)
    exact ih _ _ (by omega) (by omega) (by rw [encF_48]; omega) (h.bencF (by omega) hc)
theorem bgo_vc {kd n : Int} (hP : Prm iv F) : ∀ x ∈ bgo iv F N p kd n, Vc (iv 5 0) (iv 5 1) x := by
  unfold bgo; split <;> exact ofr_vc hP
theorem begF_bok {kd n : Int} (hB : Bok (iv 5 0) (iv 5 1) N) (hp : 0 ≤ p ∧ p < 6) (hP : Prm iv F) (hfr : 0 ≤ N 368 ∧ N 368 ≤ 20000) (hn : 0 ≤ n ∧ n < 6) (hkd : 0 ≤ kd ∧ kd ≤ 3) (h03 : kd ≤ 1 → n ≤ 3) : Bok (iv 5 0) (iv 5 1) (begF iv F N p kd n) := by
  have h18 := hB.v18 hp
  have hmr := mny_r (iv := iv) (F := F) (N := N) (p := p) (kd := kd) (n := n) hP h18.1 (by omega) hkd
  unfold begF
  by_cases h1 : mny iv F N p kd n = -1
  · rw [if_pos h1]; exact hB
  · rw [if_neg h1]
    have hmr := hmr.resolve_left h1
    by_cases e1 : kd = 1
    · rw [if_pos e1]
      have hw : Bok (iv 5 0) (iv 5 1) (wriF N p 0 kd (-1) n) := hB.bwriF hp (by omega) (by omega) (by omega) (by omega)
      have hd := Bok.bdelL hp (mny iv F N p kd n).toNat (N (61 * p + 18) - mny iv F N p kd n) _ (by omega) (by omega) (by rw [wriF_48]; omega) hw
      have hloc : Loc p N (delL p (mny iv F N p kd n).toNat (N (61 * p + 18) - mny iv F N p kd n) (wriF N p 0 kd (-1) n)) := Loc.ldelL _ _ _ (by rw [wriF_48]; omega) (by rw [wriF_48]; omega) Loc.rf.lwriF
      exact (hd.bwaiF (Or.inl rfl) (by rw [far_of hloc hp]; exact hfr)).bup (by omega) (by rw [k32]; omega)
    · rw [if_neg e1]
      have hL : ∀ j : Int, 0 ≤ j → j < mny iv F N p kd n → Vc (iv 5 0) (iv 5 1) (Lf (bgo iv F N p kd n) j) := fun j a b => Lf_vc (bgo_vc hP) a (by omega)
      by_cases e2 : kd = 2
      · rw [if_pos e2]
        have hw : Bok (iv 5 0) (iv 5 1) (wriF N p 0 kd (-1) (-1)) := hB.bwriF hp (by omega) (by omega) (by omega) (by omega)
        have hc := hB.cel (q := 0) (i := n) hp (Or.inl rfl) hn
        rw [bq0] at hc
        have he := hw.bencF (p := p) (by rw [wriF_48]; omega) hc
        have hl := Bok.bencL (p := p) (f := Lf (bgo iv F N p kd n)) (mny iv F N p kd n).toNat 0 _ (by rw [encF_48, wriF_48]; omega) (by rw [encF_48, wriF_48]; omega) (fun j a b => hL j a (by omega)) he
        have hpm := hl.bprmF (p := p) (q := 0) (n := mny iv F N p kd n) (f := Lf (bgo iv F N p kd n)) (Or.inl rfl) (by omega) hL
        have hloc : Loc p N (prmF (encL p (Lf (bgo iv F N p kd n)) (mny iv F N p kd n).toNat 0 (encF (wriF N p 0 kd (-1) (-1)) p (N (61 * p + (0 + n))))) p 0 (mny iv F N p kd n) (Lf (bgo iv F N p kd n))) := (Loc.lencL _ _ _ (by rw [encF_48, wriF_48]; omega) (by rw [encF_48, wriF_48]; omega) (Loc.rf.lwriF.lencF (by rw [wriF_48]; omega))).lprmF (Or.inl rfl) (by omega)
        exact (hpm.bwaiF (Or.inl rfl) (by rw [far_of hloc hp]; exact hfr)).bup (by omega) (by rw [k32]; omega)
      · rw [if_neg e2]
        have hw : Bok (iv 5 0) (iv 5 1) (wriF N p 0 kd (-1) (if kd = 0 then n else -1)) := hB.bwriF hp (by omega) (by omega) (by omega) (by split <;> omega)
        have hm4 : mny iv F N p kd n ≤ 4 := by omega
        have hl := Bok.bencL (p := p) (f := Lf (bgo iv F N p kd n)) (mny iv F N p kd n).toNat 0 _ (by rw [wriF_48]; omega) (by rw [wriF_48]; omega) (fun j a b => hL j a (by omega)) hw
        have hpm := hl.bprmF (p := p) (q := 0) (n := mny iv F N p kd n) (f := Lf (bgo iv F N p kd n)) (Or.inl rfl) (by omega) hL
        have hloc : Loc p N (prmF (encL p (Lf (bgo iv F N p kd n)) (mny iv F N p kd n).toNat 0 (wriF N p 0 kd (-1) (if kd = 0 then n else -1))) p 0 (mny iv F N p kd n) (Lf (bgo iv F N p kd n))) := (Loc.lencL _ _ _ (by rw [wriF_48]; omega) (by rw [wriF_48]; omega) Loc.rf.lwriF).lprmF (Or.inl rfl) (by omega)
        exact (hpm.bwaiF (Or.inl rfl) (by rw [far_of hloc hp]; exact hfr)).bup (by omega) (by rw [k32]; omega)
theorem Loc.lbegF {kd n : Int} (hB : Bok (iv 5 0) (iv 5 1) N) (hp : 0 ≤ p ∧ p < 6) (hP : Prm iv F) (hn : 0 ≤ n ∧ n < 6) (hkd : 0 ≤ kd ∧ kd ≤ 3) (h03 : kd ≤ 1 → n ≤ 3) : Loc p N (begF iv F N p kd n) := by
  have h18 := hB.v18 hp
  have hmr := mny_r (iv := iv) (F := F) (N := N) (p := p) (kd := kd) (n := n) hP h18.1 (by omega) hkd
  unfold begF
  by_cases h1 : mny iv F N p kd n = -1
  · rw [if_pos h1]; exact Loc.rf
  · rw [if_neg h1]
    have hmr := hmr.resolve_left h1
    refine Loc.u (Loc.lwaiF ?_ (Or.inl rfl)) (by omega)
    by_cases e1 : kd = 1
    · rw [if_pos e1]; exact Loc.ldelL _ _ _ (by rw [wriF_48]; omega) (by rw [wriF_48]; omega) Loc.rf.lwriF
    · rw [if_neg e1]
      refine Loc.lprmF ?_ (Or.inl rfl) (by omega)
      by_cases e2 : kd = 2
      · rw [if_pos e2]; exact Loc.lencL _ _ _ (by rw [encF_48, wriF_48]; omega) (by rw [encF_48, wriF_48]; omega) (Loc.rf.lwriF.lencF (by rw [wriF_48]; omega))
      · rw [if_neg e2]; exact Loc.lencL _ _ _ (by rw [wriF_48]; omega) (by rw [wriF_48]; omega) Loc.rf.lwriF
/-- requests: what holds of the row behind them -/
theorem rqF_ok (hB : Bok (iv 5 0) (iv 5 1) N) (hp : 0 ≤ p ∧ p < 6) (hP : Prm iv F) (hfr : 0 ≤ N 368 ∧ N 368 ≤ 20000) : Bok (iv 5 0) (iv 5 1) (rqF iv F N p) ∧ Loc p N (rqF iv F N p) := by
  have h45 := hB.v45 hp
  have h48 := hB.v48 hp
  have h49 := hB.v49 hp
  have hB1 : Bok (iv 5 0) (iv 5 1) (rq1 N p) := (hB.bstoF (Or.inr rfl)).bwriF hp (by omega) (by omega) (by omega) (by omega)
  have hl1 : Loc p N (rq1 N p) := (Loc.rf.lstoF (Or.inr rfl)).lwriF
  have hr48 : rq1 N p (61 * p + 48) = 0 := wriF_48
  have hV : ∀ j : Int, 0 ≤ j → j < N (61 * p + 48) → Vc (iv 5 0) (iv 5 1) (tld N p j) := fun j a b => hB.lcl hp (by omega)
  have hol := ofr_len (iv := iv) (F := F) (N := rq1 N p) (p := p) (nd := iv 6 (4 * p + 1)) (fr := 0) hP
  have hmx : mnI (N (61 * p + 49) + 1) ((ofr iv F (rq1 N p) p (iv 6 (4 * p + 1)) 0).length : Int) ≤ 4 ∧ mnI (N (61 * p + 49) + 1) ((ofr iv F (rq1 N p) p (iv 6 (4 * p + 1)) 0).length : Int) ≤ ((ofr iv F (rq1 N p) p (iv 6 (4 * p + 1)) 0).length : Int) ∧ 0 ≤ mnI (N (61 * p + 49) + 1) ((ofr iv F (rq1 N p) p (iv 6 (4 * p + 1)) 0).length : Int) := by unfold mnI; split <;> omega
  unfold rqF
  by_cases e1 : N (61 * p + 45) = 3
  · rw [if_pos e1]; exact ⟨hB1.bclrF (Or.inr rfl), hl1.lclrF (Or.inr rfl)⟩
  rw [if_neg e1]
  by_cases e2 : ¬ N (61 * p + 47) = N (61 * p + 27)
  · rw [if_pos e2]; exact ⟨hB1.bup (by omega) (by rw [k46]; omega), hl1.u (by omega)⟩
  rw [if_neg e2]
  by_cases e3 : N (61 * p + 45) = 0 ∧ ¬ iv 6 (4 * p + 2) = 2
  · rw [if_pos e3]
    by_cases e4 : mnI (N (61 * p + 49) + 1) ((ofr iv F (rq1 N p) p (iv 6 (4 * p + 1)) 0).length : Int) = 0
    · rw [if_pos e4]; exact ⟨hB1.bup (by omega) (by rw [k46]; omega), hl1.u (by omega)⟩
    · rw [if_neg e4]
      have hBu : Bok (iv 5 0) (iv 5 1) (up (rq1 N p) (61 * p + 46) 0) := hB1.bup (by omega) (by rw [k46]; omega)
      have hu48 : up (rq1 N p) (61 * p + 46) 0 (61 * p + 48) = 0 := by rw [up_n (by omega), hr48]
      have hL : ∀ j : Int, 0 ≤ j → j < mnI (N (61 * p + 49) + 1) ((ofr iv F (rq1 N p) p (iv 6 (4 * p + 1)) 0).length : Int) → Vc (iv 5 0) (iv 5 1) (Lf (ofr iv F (rq1 N p) p (iv 6 (4 * p + 1)) 0) j) := fun j a b => Lf_vc (ofr_vc hP) a (by omega)
      have hbl := Bok.bencL (p := p) (mnI (N (61 * p + 49) + 1) ((ofr iv F (rq1 N p) p (iv 6 (4 * p + 1)) 0).length : Int)).toNat 0 _ (by rw [hu48]; omega) (by rw [hu48]; omega) (fun j a b => hL j a (by omega)) hBu
      have hll : Loc p N _ := Loc.lencL (f := Lf (ofr iv F (rq1 N p) p (iv 6 (4 * p + 1)) 0)) (mnI (N (61 * p + 49) + 1) ((ofr iv F (rq1 N p) p (iv 6 (4 * p + 1)) 0).length : Int)).toNat 0 _ (by rw [hu48]; omega) (by rw [hu48]; omega) (hl1.u (k := 46) (v := 0) (by omega))
      have hlp := hll.lprmF (q := 1) (n := mnI (N (61 * p + 49) + 1) ((ofr iv F (rq1 N p) p (iv 6 (4 * p + 1)) 0).length : Int)) (f := Lf (ofr iv F (rq1 N p) p (iv 6 (4 * p + 1)) 0)) (Or.inr rfl) (by omega)
      exact ⟨(hbl.bprmF (Or.inr rfl) (by omega) hL).bwaiF (Or.inr rfl) (by rw [far_of hlp hp]; exact hfr), hlp.lwaiF (Or.inr rfl)⟩
  rw [if_neg e3]
  by_cases e5 : N (61 * p + 45) = 0
  · rw [if_pos e5]
    exact ⟨(Bok.btkI hp (Or.inr rfl) _ _ _ _ (fun j a b => hV j a (by omega)) (by rw [hr48]; omega) hB1).bansF hp, (Loc.ltkI hp (Or.inr rfl) _ _ _ _ (fun j a b => hV j a (by omega)) (by rw [hr48]; omega) hB1 hl1).lansF⟩
  rw [if_neg e5]
  by_cases e6 : N (61 * p + 45) = 2
  · rw [if_pos e6]
    exact ⟨(hB1.bmvF hp h48.2 hV hr48).bansF hp, (Loc.lmvF hB1 hp hr48 hl1).lansF⟩
  · rw [if_neg e6]
    exact ⟨(Bok.bdlQ hp _ _ _ (fun j a b => hV j a (by omega)) (by rw [hr48]; omega) hB1).bansF hp, (Loc.ldlQ hp _ _ _ (fun j a b => hV j a (by omega)) (by rw [hr48]; omega) hB1 hl1).lansF⟩
theorem cfF_ok (hB : Bok (iv 5 0) (iv 5 1) N) (hp : 0 ≤ p ∧ p < 6) : Bok (iv 5 0) (iv 5 1) (cfF N p) ∧ Loc p N (cfF N p) := by
  have h48 := hB.v48 hp
  have hB1 : Bok (iv 5 0) (iv 5 1) (up N (61 * p + 43) 0) := hB.bup (by omega) (by rw [k43]; omega)
  have hl1 : Loc p N (up N (61 * p + 43) 0) := Loc.rf.u (by omega)
  have hV : ∀ j : Int, 0 ≤ j → j < N (61 * p + 48) → Vc (iv 5 0) (iv 5 1) (tld N p j) := fun j a b => hB.lcl hp (by omega)
  have hB2 := Bok.binsA (q := 1) hp (Or.inr rfl) (N (61 * p + 48)).toNat 0 _ (fun j a b => hV j a (by omega)) hB1
  have hl2 := Loc.linsA (q := 1) hp (Or.inr rfl) (N (61 * p + 48)).toNat 0 _ (fun j a b => hV j a (by omega)) hB1 hl1
  unfold cfF
  split
  · exact ⟨hB1, hl1⟩
  · split
    · exact ⟨(hB2.bstpF hp (Or.inr rfl)).bstoF (Or.inr rfl), (hl2.lstpF (Or.inr rfl)).lstoF (Or.inr rfl)⟩
    · exact ⟨hB2.bstoF (Or.inr rfl), hl2.lstoF (Or.inr rfl)⟩
theorem okF_ok {kd as tm : Int} (hB : Bok (iv 5 0) (iv 5 1) N) (hp : 0 ≤ p ∧ p < 6) (hkd : 0 ≤ kd ∧ kd ≤ 3) (has : -1 ≤ as ∧ as ≤ 3) (ht : 0 ≤ tm ∧ tm ≤ 4) (h2 : kd = 2 → tm = 2) (hV : ∀ j : Int, 0 ≤ j → j < tm → Vc (iv 5 0) (iv 5 1) (T j)) : Bok (iv 5 0) (iv 5 1) (okF iv F N T p kd as tm) ∧ Loc p N (okF iv F N T p kd as tm) := by
  have hm := hB.mny hp (q := 0) (Or.inl rfl)
  unfold okF
  by_cases e1 : kd = 0 ∧ ¬ iv 6 (4 * p + 2) = 2
  · rw [if_pos e1]
    have hBw : Bok (iv 5 0) (iv 5 1) (wriF N p 2 0 (-1) as) := hB.bwriF hp (by omega) (by omega) (by omega) has
    have hBt : Bok (iv 5 0) (iv 5 1) (tkI (iv 6) T (F 13) p 0 as tm.toNat 0 0 (wriF N p 2 0 (-1) as)) := Bok.btkI hp (Or.inl rfl) _ _ _ _ (fun j a b => hV j a (by omega)) (by rw [wriF_48]; omega) hBw
    have hLt : Loc p N (tkI (iv 6) T (F 13) p 0 as tm.toNat 0 0 (wriF N p 2 0 (-1) as)) := Loc.ltkI hp (Or.inl rfl) _ _ _ _ (fun j a b => hV j a (by omega)) (by rw [wriF_48]; omega) hBw Loc.rf.lwriF
    split
    · exact ⟨hBt.bstpF hp (Or.inl rfl), hLt.lstpF (Or.inl rfl)⟩
    · exact ⟨hBt, hLt⟩
  rw [if_neg e1]
  by_cases e2 : kd = 3
  · rw [if_pos e2]; exact ⟨hB.bclrF (Or.inl rfl), Loc.rf.lclrF (Or.inl rfl)⟩
  rw [if_neg e2]
  by_cases e3 : kd = 0
  · rw [if_pos e3]
    exact ⟨(Bok.binsA hp (Or.inl rfl) _ _ _ (fun j a b => hV j a (by omega)) hB).bstpF hp (Or.inl rfl), (Loc.linsA hp (Or.inl rfl) _ _ _ (fun j a b => hV j a (by omega)) hB Loc.rf).lstpF (Or.inl rfl)⟩
  rw [if_neg e3]
  by_cases e4 : kd = 2
  · rw [if_pos e4]
    have := h2 e4
    split
    · exact ⟨hB.bstpF hp (Or.inl rfl), Loc.rf.lstpF (Or.inl rfl)⟩
    · have hB1 := hB.bremF (q := 0) (c := T 0) hp (Or.inl rfl)
      exact ⟨(hB1.binsF hp (Or.inl rfl) (hV 1 (by omega) (by omega))).bstpF hp (Or.inl rfl), ((Loc.rf.lremF (Or.inl rfl) hm).linsF (hB1.mny hp (Or.inl rfl))).lstpF (Or.inl rfl)⟩
  · rw [if_neg e4]
    exact ⟨(Bok.bremA hp (Or.inl rfl) _ _ _ hB).bstpF hp (Or.inl rfl), (Loc.lremA hp (Or.inl rfl) _ _ _ hB Loc.rf).lstpF (Or.inl rfl)⟩
theorem anF_ok (hB : Bok (iv 5 0) (iv 5 1) N) (hp : 0 ≤ p ∧ p < 6) (hP : Prm iv F) (hfr : 0 ≤ N 368 ∧ N 368 ≤ 20000) (h2 : N (61 * p + 46) = 0 → N (61 * p + 45) = 2 → N (61 * p + 48) = 2) : Bok (iv 5 0) (iv 5 1) (anF iv F N p) ∧ Loc p N (anF iv F N p) := by
  have h45 := hB.v45 hp
  have h48 := hB.v48 hp
  have h49 := hB.v49 hp
  have hB1 : Bok (iv 5 0) (iv 5 1) (stoF (up N (61 * p + 43) 0) p 0) := (hB.bup (k := 43) (by omega) (by rw [k43]; omega)).bstoF (Or.inl rfl)
  have hl1 : Loc p N (stoF (up N (61 * p + 43) 0) p 0) := (Loc.rf.u (by omega)).lstoF (Or.inl rfl)
  unfold anF
  by_cases e1 : N (61 * p + 46) = 2
  · rw [if_pos e1]
    exact ⟨begF_bok hB1 hp hP (by rw [far_of hl1 hp]; exact hfr) (by omega) (by omega) (by omega), hl1.tr (Loc.lbegF hB1 hp hP (by omega) (by omega) (by omega))⟩
  rw [if_neg e1]
  by_cases e2 : N (61 * p + 46) = 0
  · rw [if_pos e2]
    have := okF_ok (iv := iv) (F := F) (T := tld N p) (as := N (61 * p + 49)) hB1 hp h45 h49 h48 (h2 e2) (fun j a b => hB.lcl hp (by omega))
    exact ⟨this.1, hl1.tr this.2⟩
  · rw [if_neg e2]; exact ⟨hB1, hl1⟩
end D11
noncomputable def rdP (iv : aF) (F N : Int → Int) (p : Int) : Int → Int := if N (61 * p + 43) = 1 then (if N (61 * p + 44) = 0 then rqF iv F N p else if N (61 * p + 44) = 1 then anF iv F N p else cfF N p) else N
noncomputable def rdL (iv : aF) (F : Int → Int) : Nat → Int → (Int → Int) → (Int → Int)
  | 0, _, N => N
  | m + 1, p, N => rdL iv F m (p + 1) (rdP iv F N p)
def toS (N : Int → Int) (t p q : Int) : Int → Int := if N (61 * p + (28 + q)) = 1 ∧ N (61 * p + 43) = 0 ∧ t ≤ N 368 - N (61 * p + (30 + q)) then (if q = 0 ∧ N (61 * p + 32) = 3 then clrF (stoF N p q) p 0 else stoF N p q) else N
def toL (t : Int) : Nat → Int → (Int → Int) → (Int → Int)
  | 0, _, N => N
  | m + 1, p, N => toL t m (p + 1) (toS (toS N t p 0) t p 1)
section R11
variable {d : Nat} {iv lw : aF} {F N G O T S : Int → Int} {R : aPost}
theorem rdP_ok {p : Int} (hB : Bok (iv 5 0) (iv 5 1) N) (hp : 0 ≤ p ∧ p < 6) (hP : Prm iv F) (hfr : 0 ≤ N 368 ∧ N 368 ≤ 20000) (hl : LetOK N p) : Bok (iv 5 0) (iv 5 1) (rdP iv F N p) ∧ Loc p N (rdP iv F N p) := by
  unfold rdP
  by_cases h1 : N (61 * p + 43) = 1
  · rw [if_pos h1]
    by_cases h2 : N (61 * p + 44) = 0
    · rw [if_pos h2]; exact rqF_ok hB hp hP hfr
    · rw [if_neg h2]
      by_cases h3 : N (61 * p + 44) = 1
      · rw [if_pos h3]; exact anF_ok hB hp hP hfr (hl h1 h3)
      · rw [if_neg h3]; exact cfF_ok hB hp
  · rw [if_neg h1]; exact ⟨hB, Loc.rf⟩
theorem rqF_F {v p : Int} : rqF iv (up F 22 v) N p = rqF iv F N p := by unfold rqF; rw [ofr_F, up22]
theorem anF_F {v p : Int} : anF iv (up F 22 v) N p = anF iv F N p := by unfold anF; rw [begF_F, okF_F]
theorem rdP_F {v p : Int} : rdP iv (up F 22 v) N p = rdP iv F N p := by unfold rdP; rw [rqF_F, anF_F]
theorem rdL_F {v : Int} (m : Nat) : ∀ (p : Int) (N : Int → Int), rdL iv (up F 22 v) m p N = rdL iv F m p N := by
  induction m with
  | zero => intro p N; rfl
  | succ m ih => intro p N; rw [rdL, rdL, rdP_F, ih]
theorem LetOK.loc {p a : Int} {N' : Int → Int} (h : LetOK N a) (hl : Loc p N N') (hpa : p < a) : LetOK N' a := by
  unfold LetOK at *
  rw [hl _ (by omega), hl _ (by omega), hl _ (by omega), hl _ (by omega), hl _ (by omega)]; exact h
theorem l_readLetters (m : Nat) : ∀ (p : Int) (F N O T : Int → Int), 0 ≤ p → p + m = F 13 → Prm iv F → Bok (iv 5 0) (iv 5 1) N → (0 ≤ N 368 ∧ N 368 ≤ 20000) → (∀ a : Int, p ≤ a → a < F 13 → LetOK N a) → (∀ F' O' T', (∀ j : Int, ¬ j = 22 → F' j = F j) → R none SHR (ST iv F' (rdL iv F m p N) G O' T' S) lw RVR) → wp (d + 7) mX12_readLetters 2 [some (aR 0), some (aI p)] [] SHR (ST iv F N G O T S) lw RVR 0 0 R := by
  induction m with
  | zero =>
    intro p F N O T h0 hm hP hB hfr hlt k
    refine wp_iload_n dX12_readLetters_2 rfl ?_
    refine wp_aload_n dX12_readLetters_3 rfl ?_
    refine wp_getI dX12_readLetters_4 fX12_138 rfl ?_
    try simp only [ST0, ST5, ST6, ST7, ST8, ST10, ST11, ST12, ST13]
    refine wp_icmp_ge (tgt := 69) dX12_readLetters_7 rfl (fun h7 => ?_) (fun h7 => by exfalso; omega)
    refine wp_return dX12_readLetters_69 rfl ?_
    exact k F O T (fun _ _ => rfl)
  | succ m ih =>
    intro p F N O T h0 hm hP hB hfr hlt k
    obtain ⟨hW1, hW2, hO1, hO2, hT1, hT2, hI1, hI2, hF1, hF2⟩ := id hP
    have hp : 0 ≤ p ∧ p < 6 := ⟨h0, by omega⟩
    have hlp := hlt p (by omega) (by omega)
    have hB1 := rdP_ok hB hp hP hfr hlp
    rw [rdL] at k
    have hnext : ∀ (v : Int) (O' T' : Int → Int), wp (d + 7) mX12_readLetters 2 [some (aR 0), some (aI (p + 1))] [] SHR (ST iv (up F 22 v) (rdP iv F N p) G O' T' S) lw RVR 0 0 R := fun v O' T' => ih _ _ _ _ _ (by omega) (by rw [up22]; omega) hP.u22 hB1.1 (by rw [far_of hB1.2 hp]; exact hfr) (fun a h1 h2 => (hlt a (by omega) (by rw [up22] at h2; exact h2)).loc hB1.2 (by omega)) (fun F' O' T' hF' => by rw [rdL_F]; exact k F' O' T' (fun j hj => by rw [hF' j hj, up_n hj]))
    refine wp_iload_n dX12_readLetters_2 rfl ?_
    refine wp_aload_n dX12_readLetters_3 rfl ?_
    refine wp_getI dX12_readLetters_4 fX12_138 rfl ?_
    try simp only [ST0, ST5, ST6, ST7, ST8, ST10, ST11, ST12, ST13]
    refine wp_icmp_ge (tgt := 69) dX12_readLetters_7 rfl (fun h7 => by exfalso; omega) (fun h7 => ?_)
    refine wp_aload_n dX12_readLetters_10 rfl ?_
    refine wp_iload_n dX12_readLetters_11 rfl ?_
    refine wp_bipush dX12_readLetters_12 ?_
    refine wp_callV (as := [_, _]) (ls0 := [_, _, _]) (kc := 0) (ks := 0) (bc' := 0) (bs' := 0) dX12_readLetters_14 vX12_161 rfl rfl rfl (Nat.le_of_ble_eq_true rfl) (Nat.le_of_ble_eq_true rfl) (by omega) (by omega) ?_
    refine s_of (by omega) (by omega) ?_
    refine wp_iconst dX12_readLetters_17 ?_
    refine wp_icmp_ne (tgt := 63) dX12_readLetters_18 rfl (fun h18 => ?_) (fun h18 => ?_)
    · refine wp_iinc (ls' := [_, _]) dX12_readLetters_63 (by decide) rfl rfl ⟨by omega, by omega⟩ rfl ?_
      refine wp_goto (tgt := 2) dX12_readLetters_66 rfl ?_
      first | exact hnext _ _ _ | (refine ih _ _ _ _ _ (by omega) (by omega) hP hB hfr (fun a h1 h2 => hlt a (by omega) h2) (fun F' O' T' hF' => ?_); rw [show rdP iv F N p = N by unfold rdP; rw [if_neg h18]] at k; exact k F' O' T' hF')
    · refine wp_aload_n dX12_readLetters_21 rfl ?_
      refine wp_iload_n dX12_readLetters_22 rfl ?_
      refine wp_bipush dX12_readLetters_23 ?_
      refine wp_callV (as := [_, _]) (ls0 := [_, _, _]) (kc := 0) (ks := 0) (bc' := 0) (bs' := 0) dX12_readLetters_25 vX12_161 rfl rfl rfl (Nat.le_of_ble_eq_true rfl) (Nat.le_of_ble_eq_true rfl) (by omega) (by omega) ?_
      refine s_of (by omega) (by omega) ?_
      refine wp_if_ne (tgt := 39) dX12_readLetters_28 rfl (fun h28 => ?_) (fun h28 => ?_)
      · refine wp_aload_n dX12_readLetters_39 rfl ?_
        refine wp_iload_n dX12_readLetters_40 rfl ?_
        refine wp_bipush dX12_readLetters_41 ?_
        refine wp_callV (as := [_, _]) (ls0 := [_, _, _]) (kc := 0) (ks := 0) (bc' := 0) (bs' := 0) dX12_readLetters_43 vX12_161 rfl rfl rfl (Nat.le_of_ble_eq_true rfl) (Nat.le_of_ble_eq_true rfl) (by omega) (by omega) ?_
        refine s_of (by omega) (by omega) ?_
        refine wp_iconst dX12_readLetters_46 ?_
        refine wp_icmp_ne (tgt := 58) dX12_readLetters_47 rfl (fun h47 => ?_) (fun h47 => ?_)
        · refine wp_aload_n dX12_readLetters_58 rfl ?_
          refine wp_iload_n dX12_readLetters_59 rfl ?_
          refine wp_callV (as := [_]) (ls0 := [_, _, _]) (kc := 0) (ks := 0) (bc' := 0) (bs' := 0) dX12_readLetters_60 vX12_265 rfl rfl rfl (Nat.le_of_ble_eq_true rfl) (Nat.le_of_ble_eq_true rfl) (by omega) (by omega) ?_
          refine s_readConfirm hp hB (fun O' T' => ?_)
          rw [show cfF N p = rdP iv F N p by unfold rdP; rw [if_pos h18, if_neg h28, if_neg h47]]
          refine wp_iinc (ls' := [_, _]) dX12_readLetters_63 (by decide) rfl rfl ⟨by omega, by omega⟩ rfl ?_
          refine wp_goto (tgt := 2) dX12_readLetters_66 rfl ?_
          first | exact hnext _ _ _ | (refine ih _ _ _ _ _ (by omega) (by omega) hP hB hfr (fun a h1 h2 => hlt a (by omega) h2) (fun F' O' T' hF' => ?_); rw [show rdP iv F N p = N by unfold rdP; rw [if_neg h18]] at k; exact k F' O' T' hF')
        · refine wp_aload_n dX12_readLetters_50 rfl ?_
          refine wp_iload_n dX12_readLetters_51 rfl ?_
          refine wp_callV (as := [_]) (ls0 := [_, _, _, _, _]) (kc := 0) (ks := 0) (bc' := 0) (bs' := 0) dX12_readLetters_52 vX12_262 rfl rfl rfl (Nat.le_of_ble_eq_true rfl) (Nat.le_of_ble_eq_true rfl) (by omega) (by omega) ?_
          refine s_readAnswer hp hP hB (hlp h18 h47) (fun O' T' => ?_)
          rw [show anF iv F N p = rdP iv F N p by unfold rdP; rw [if_pos h18, if_neg h28, if_pos h47]]
          refine wp_goto (tgt := 63) dX12_readLetters_55 rfl ?_
          refine wp_iinc (ls' := [_, _]) dX12_readLetters_63 (by decide) rfl rfl ⟨by omega, by omega⟩ rfl ?_
          refine wp_goto (tgt := 2) dX12_readLetters_66 rfl ?_
          first | exact hnext _ _ _ | (refine ih _ _ _ _ _ (by omega) (by omega) hP hB hfr (fun a h1 h2 => hlt a (by omega) h2) (fun F' O' T' hF' => ?_); rw [show rdP iv F N p = N by unfold rdP; rw [if_neg h18]] at k; exact k F' O' T' hF')
      · refine wp_aload_n dX12_readLetters_31 rfl ?_
        refine wp_iload_n dX12_readLetters_32 rfl ?_
        refine wp_callV (as := [_]) (ls0 := [_, _, _, _, _, _]) (kc := 0) (ks := 0) (bc' := 0) (bs' := 0) dX12_readLetters_33 vX12_259 rfl rfl rfl (Nat.le_of_ble_eq_true rfl) (Nat.le_of_ble_eq_true rfl) (by omega) (by omega) ?_
        refine s_readRequest hp hP hB hfr (fun O' T' => ?_)
        rw [show rqF iv F N p = rdP iv F N p by unfold rdP; rw [if_pos h18, if_pos h28]]
        refine wp_goto (tgt := 63) dX12_readLetters_36 rfl ?_
        refine wp_iinc (ls' := [_, _]) dX12_readLetters_63 (by decide) rfl rfl ⟨by omega, by omega⟩ rfl ?_
        refine wp_goto (tgt := 2) dX12_readLetters_66 rfl ?_
        first | exact hnext _ _ _ | (refine ih _ _ _ _ _ (by omega) (by omega) hP hB hfr (fun a h1 h2 => hlt a (by omega) h2) (fun F' O' T' hF' => ?_); rw [show rdP iv F N p = N by unfold rdP; rw [if_neg h18]] at k; exact k F' O' T' hF')
theorem s_readLetters (hP : Prm iv F) (hB : Bok (iv 5 0) (iv 5 1) N) (hfr : 0 ≤ N 368 ∧ N 368 ≤ 20000) (hlt : ∀ a : Int, 0 ≤ a → a < F 13 → LetOK N a) (k : ∀ F' O' T', (∀ j : Int, ¬ j = 22 → F' j = F j) → R none SHR (ST iv F' (rdL iv F (F 13).toNat 0 N) G O' T' S) lw RVR) : wp (d + 7) mX12_readLetters 0 [some (aR 0), none] [] SHR (ST iv F N G O T S) lw RVR 0 0 R := by
  obtain ⟨hW1, hW2, hO1, hO2, hT1, hT2, hI1, hI2, hF1, hF2⟩ := id hP
  refine wp_iconst dX12_readLetters_0 ?_
  refine wp_istore_n (ls' := [_, _]) dX12_readLetters_1 (by decide) rfl rfl ?_
  exact l_readLetters (F 13).toNat 0 F N O T (by omega) (by omega) hP hB hfr hlt k
theorem toS_ok {t p q : Int} (hB : Bok (iv 5 0) (iv 5 1) N) (hq : q = 0 ∨ q = 1) : Bok (iv 5 0) (iv 5 1) (toS N t p q) ∧ Loc p N (toS N t p q) := by
  unfold toS
  split
  · split
    · exact ⟨(hB.bstoF hq).bclrF (Or.inl rfl), (Loc.rf.lstoF hq).lclrF (Or.inl rfl)⟩
    · exact ⟨hB.bstoF hq, Loc.rf.lstoF hq⟩
  · exact ⟨hB, Loc.rf⟩
theorem l_toS {p q : Int} (hp : 0 ≤ p ∧ p < 6) (hq : q = 0 ∨ q = 1) (hP : Prm iv F) (hB : Bok (iv 5 0) (iv 5 1) N) (hfr : 0 ≤ N 368 ∧ N 368 ≤ 20000) (k : wp (d + 2) mX12_timeOut 94 [some (aR 0), some (aI p), some (aI q)] [] SHR (ST iv F (toS N (iv 5 2) p q) G O T S) lw RVR 0 0 R) : wp (d + 2) mX12_timeOut 17 [some (aR 0), some (aI p), some (aI q)] [] SHR (ST iv F N G O T S) lw RVR 0 0 R := by
  obtain ⟨hW1, hW2, hO1, hO2, hT1, hT2, hI1, hI2, hF1, hF2⟩ := id hP
  have hfm := hB.frm hp hq
  refine wp_aload_n dX12_timeOut_17 rfl ?_
  refine wp_iload_n dX12_timeOut_18 rfl ?_
  refine wp_bipush dX12_timeOut_19 ?_
  refine wp_iload_n dX12_timeOut_21 rfl ?_
  refine wp_iadd dX12_timeOut_22 ⟨by omega, by omega⟩ ?_
  refine wp_callV (as := [_, _]) (ls0 := [_, _, _]) (kc := 0) (ks := 0) (bc' := 0) (bs' := 0) dX12_timeOut_23 vX12_161 rfl rfl rfl (Nat.le_of_ble_eq_true rfl) (Nat.le_of_ble_eq_true rfl) (by omega) (by omega) ?_
  refine s_of (by omega) (by omega) ?_
  refine wp_iconst dX12_timeOut_26 ?_
  refine wp_icmp_ne (tgt := 94) dX12_timeOut_27 rfl (fun h27 => ?_) (fun h27 => ?_)
  · unfold toS at k; first | (rw [if_neg (by omega)] at k; exact k) | (rw [if_pos (by omega), if_neg (by omega)] at k; exact k) | (rw [if_pos (by omega), if_pos (by omega)] at k; exact k)
  · refine wp_aload_n dX12_timeOut_30 rfl ?_
    refine wp_iload_n dX12_timeOut_31 rfl ?_
    refine wp_bipush dX12_timeOut_32 ?_
    refine wp_callV (as := [_, _]) (ls0 := [_, _, _]) (kc := 0) (ks := 0) (bc' := 0) (bs' := 0) dX12_timeOut_34 vX12_161 rfl rfl rfl (Nat.le_of_ble_eq_true rfl) (Nat.le_of_ble_eq_true rfl) (by omega) (by omega) ?_
    refine s_of (by omega) (by omega) ?_
    refine wp_if_ne (tgt := 94) dX12_timeOut_37 rfl (fun h37 => ?_) (fun h37 => ?_)
    · unfold toS at k; first | (rw [if_neg (by omega)] at k; exact k) | (rw [if_pos (by omega), if_neg (by omega)] at k; exact k) | (rw [if_pos (by omega), if_pos (by omega)] at k; exact k)
    · refine wp_aload_n dX12_timeOut_40 rfl ?_
      refine wp_getR rfl dX12_timeOut_41 fX12_31 rfl ?_
      refine wp_sipush dX12_timeOut_44 ?_
      refine wp_iald dX12_timeOut_47 rfl (by omega) (by omega) ?_
      try simp only [ST0, ST5, ST6, ST7, ST8, ST10, ST11, ST12, ST13]
      refine wp_aload_n dX12_timeOut_48 rfl ?_
      refine wp_iload_n dX12_timeOut_49 rfl ?_
      refine wp_bipush dX12_timeOut_50 ?_
      refine wp_iload_n dX12_timeOut_52 rfl ?_
      refine wp_iadd dX12_timeOut_53 ⟨by omega, by omega⟩ ?_
      refine wp_callV (as := [_, _]) (ls0 := [_, _, _]) (kc := 0) (ks := 0) (bc' := 0) (bs' := 0) dX12_timeOut_54 vX12_161 rfl rfl rfl (Nat.le_of_ble_eq_true rfl) (Nat.le_of_ble_eq_true rfl) (by omega) (by omega) ?_
      refine s_of (by omega) (by omega) ?_
      refine wp_isub dX12_timeOut_57 ⟨by omega, by omega⟩ ?_
      refine wp_aload_n dX12_timeOut_58 rfl ?_
      refine wp_getR rfl dX12_timeOut_59 fX12_22 rfl ?_
      refine wp_iconst dX12_timeOut_62 ?_
      refine wp_iald dX12_timeOut_63 rfl (by omega) (by omega) ?_
      try simp only [ST0, ST5, ST6, ST7, ST8, ST10, ST11, ST12, ST13]
      refine wp_icmp_lt (tgt := 94) dX12_timeOut_64 rfl (fun h64 => ?_) (fun h64 => ?_)
      · unfold toS at k; first | (rw [if_neg (by omega)] at k; exact k) | (rw [if_pos (by omega), if_neg (by omega)] at k; exact k) | (rw [if_pos (by omega), if_pos (by omega)] at k; exact k)
      · refine wp_aload_n dX12_timeOut_67 rfl ?_
        refine wp_iload_n dX12_timeOut_68 rfl ?_
        refine wp_iload_n dX12_timeOut_69 rfl ?_
        refine wp_callV (as := [_, _]) (ls0 := [_, _, _]) (kc := 0) (ks := 0) (bc' := 0) (bs' := 0) dX12_timeOut_70 vX12_238 rfl rfl rfl (Nat.le_of_ble_eq_true rfl) (Nat.le_of_ble_eq_true rfl) (by omega) (by omega) ?_
        refine s_waitNoMore (by omega) (by omega) ?_
        refine wp_iload_n dX12_timeOut_73 rfl ?_
        refine wp_if_ne (tgt := 94) dX12_timeOut_74 rfl (fun h74 => ?_) (fun h74 => ?_)
        · unfold toS at k; first | (rw [if_neg (by omega)] at k; exact k) | (rw [if_pos (by omega), if_neg (by omega)] at k; exact k) | (rw [if_pos (by omega), if_pos (by omega)] at k; exact k)
        · refine wp_aload_n dX12_timeOut_77 rfl ?_
          refine wp_iload_n dX12_timeOut_78 rfl ?_
          refine wp_bipush dX12_timeOut_79 ?_
          refine wp_callV (as := [_, _]) (ls0 := [_, _, _]) (kc := 0) (ks := 0) (bc' := 0) (bs' := 0) dX12_timeOut_81 vX12_161 rfl rfl rfl (Nat.le_of_ble_eq_true rfl) (Nat.le_of_ble_eq_true rfl) (by omega) (by omega) ?_
          refine s_of (by omega) (by omega) ?_
          rw [show stoF N p q (61 * p + 32) = N (61 * p + 32) by unfold stoF; rw [up_n (by omega), up_n (by omega)]]
          refine wp_iconst dX12_timeOut_84 ?_
          refine wp_icmp_ne (tgt := 94) dX12_timeOut_85 rfl (fun h85 => ?_) (fun h85 => ?_)
          · unfold toS at k; first | (rw [if_neg (by omega)] at k; exact k) | (rw [if_pos (by omega), if_neg (by omega)] at k; exact k) | (rw [if_pos (by omega), if_pos (by omega)] at k; exact k)
          · refine wp_aload_n dX12_timeOut_88 rfl ?_
            refine wp_iload_n dX12_timeOut_89 rfl ?_
            refine wp_iconst dX12_timeOut_90 ?_
            refine wp_callV (as := [_, _]) (ls0 := [_, _, _]) (kc := 0) (ks := 0) (bc' := 0) (bs' := 0) dX12_timeOut_91 vX12_241 rfl rfl rfl (Nat.le_of_ble_eq_true rfl) (Nat.le_of_ble_eq_true rfl) (by omega) (by omega) ?_
            refine s_emptyTable (by omega) (by omega) ?_
            unfold toS at k; first | (rw [if_neg (by omega)] at k; exact k) | (rw [if_pos (by omega), if_neg (by omega)] at k; exact k) | (rw [if_pos (by omega), if_pos (by omega)] at k; exact k)
theorem l_timeOut (m : Nat) : ∀ (p : Int) (N : Int → Int) (vq : Option aV), 0 ≤ p → p + m = F 13 → Prm iv F → Bok (iv 5 0) (iv 5 1) N → (0 ≤ N 368 ∧ N 368 ≤ 20000) → R none SHR (ST iv F (toL (iv 5 2) m p N) G O T S) lw RVR → wp (d + 2) mX12_timeOut 2 [some (aR 0), some (aI p), vq] [] SHR (ST iv F N G O T S) lw RVR 0 0 R := by
  induction m with
  | zero =>
    intro p N vq h0 hm hP hB hfr k
    refine wp_iload_n dX12_timeOut_2 rfl ?_
    refine wp_aload_n dX12_timeOut_3 rfl ?_
    refine wp_getI dX12_timeOut_4 fX12_138 rfl ?_
    try simp only [ST0, ST5, ST6, ST7, ST8, ST10, ST11, ST12, ST13]
    refine wp_icmp_ge (tgt := 106) dX12_timeOut_7 rfl (fun h7 => ?_) (fun h7 => by exfalso; omega)
    refine wp_return dX12_timeOut_106 rfl ?_
    exact k
  | succ m ih =>
    intro p N vq h0 hm hP hB hfr k
    obtain ⟨hW1, hW2, hO1, hO2, hT1, hT2, hI1, hI2, hF1, hF2⟩ := id hP
    have hp : 0 ≤ p ∧ p < 6 := ⟨h0, by omega⟩
    have h1 := toS_ok (iv := iv) (t := iv 5 2) (p := p) (q := 0) hB (Or.inl rfl)
    have hf1 : 0 ≤ toS N (iv 5 2) p 0 368 ∧ toS N (iv 5 2) p 0 368 ≤ 20000 := by rw [far_of h1.2 hp]; exact hfr
    have h2 := toS_ok (iv := iv) (t := iv 5 2) (p := p) (q := 1) h1.1 (Or.inr rfl)
    refine wp_iload_n dX12_timeOut_2 rfl ?_
    refine wp_aload_n dX12_timeOut_3 rfl ?_
    refine wp_getI dX12_timeOut_4 fX12_138 rfl ?_
    try simp only [ST0, ST5, ST6, ST7, ST8, ST10, ST11, ST12, ST13]
    refine wp_icmp_ge (tgt := 106) dX12_timeOut_7 rfl (fun h7 => by exfalso; omega) (fun h7 => ?_)
    refine wp_iconst dX12_timeOut_10 ?_
    refine wp_istore_n (ls' := [_, _, _]) dX12_timeOut_11 (by decide) rfl rfl ?_
    refine wp_iload_n dX12_timeOut_12 rfl ?_
    refine wp_iconst dX12_timeOut_13 ?_
    refine wp_icmp_ge (tgt := 100) dX12_timeOut_14 rfl (fun q => absurd q (by decide)) (fun _ => ?_)
    refine l_toS hp (Or.inl rfl) hP hB hfr ?_
    refine wp_iinc (ls' := [_, _, _]) dX12_timeOut_94 (by decide) rfl rfl ⟨by omega, by omega⟩ rfl ?_
    refine wp_goto (tgt := 12) dX12_timeOut_97 rfl ?_
    refine wp_iload_n dX12_timeOut_12 rfl ?_
    refine wp_iconst dX12_timeOut_13 ?_
    refine wp_icmp_ge (tgt := 100) dX12_timeOut_14 rfl (fun h14 => by exfalso; omega) (fun h14 => ?_)
    refine l_toS (q := 0 + 1) hp (Or.inr rfl) hP h1.1 hf1 ?_
    refine wp_iinc (ls' := [_, _, _]) dX12_timeOut_94 (by decide) rfl rfl ⟨by omega, by omega⟩ rfl ?_
    refine wp_goto (tgt := 12) dX12_timeOut_97 rfl ?_
    refine wp_iload_n dX12_timeOut_12 rfl ?_
    refine wp_iconst dX12_timeOut_13 ?_
    refine wp_icmp_ge (tgt := 100) dX12_timeOut_14 rfl (fun h14 => ?_) (fun h14 => by exfalso; omega)
    refine wp_iinc (ls' := [_, _, _]) dX12_timeOut_100 (by decide) rfl rfl ⟨by omega, by omega⟩ rfl ?_
    refine wp_goto (tgt := 2) dX12_timeOut_103 rfl ?_
    exact ih _ _ _ (by omega) (by omega) hP h2.1 (by rw [show (0 : Int) + 1 = 1 from rfl, far_of h2.2 hp]; exact hf1) k
theorem s_timeOut (hP : Prm iv F) (hB : Bok (iv 5 0) (iv 5 1) N) (hfr : 0 ≤ N 368 ∧ N 368 ≤ 20000) (k : R none SHR (ST iv F (toL (iv 5 2) (F 13).toNat 0 N) G O T S) lw RVR) : wp (d + 2) mX12_timeOut 0 [some (aR 0), none, none] [] SHR (ST iv F N G O T S) lw RVR 0 0 R := by
  obtain ⟨hW1, hW2, hO1, hO2, hT1, hT2, hI1, hI2, hF1, hF2⟩ := id hP
  refine wp_iconst dX12_timeOut_0 ?_
  refine wp_istore_n (ls' := [_, _, _]) dX12_timeOut_1 (by decide) rfl rfl ?_
  exact l_timeOut (F 13).toNat 0 N _ (by omega) (by omega) hP hB hfr k
end R11
