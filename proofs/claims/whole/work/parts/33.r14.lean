def Lod (p : Int) (N N' : Int → Int) : Prop := ∀ j : Int, j < 61 * p ∨ 61 * p + 61 ≤ j → N' j = N j
theorem Lod.rf {p : Int} {N : Int → Int} : Lod p N N := fun _ _ => rfl
theorem Lod.tr {p : Int} {N N1 N2 : Int → Int} (h1 : Lod p N N1) (h2 : Lod p N1 N2) : Lod p N N2 := fun j hj => (h2 j hj).trans (h1 j hj)
theorem Lod.u {p k v : Int} {N N1 : Int → Int} (h : Lod p N N1) (hk : 0 ≤ k ∧ k < 61) : Lod p N (up N1 (61 * p + k) v) := fun j hj => by rw [up_n (by omega)]; exact h j hj
theorem sdN_ok {Q : Int → Prop} {W Of p : Int} {N1 : Int → Int} (hp : 0 ≤ p ∧ p < 6) (m : Nat) : ∀ (i : Int) (N : Int → Int), 0 ≤ i → i + m ≤ 6 → m ≤ N (61 * p + 57) → Bok W Of N → Sam N N1 → Bok W Of (sdN Q p m i N) ∧ Sam (sdN Q p m i N) N1 ∧ Lod p N (sdN Q p m i N) ∧ (∀ k : Int, (k = 59 ∨ k = 60 ∨ k = 18) → sdN Q p m i N (61 * p + k) = N (61 * p + k)) := by
  induction m with
  | zero => intro i N h0 h1 h2 hB hS; exact ⟨hB, hS, Lod.rf, fun _ _ => rfl⟩
  | succ m ih =>
    intro i N h0 h1 h2 hB hS
    have hi : 0 ≤ i ∧ i < 6 := by omega
    have hBs := hB.bsn (i := i) hp hi
    have hSs := hS.sn (i := i) hp hi
    have l1 : Lod p N (sn1 N p i) := Lod.rf.u (by omega)
    have c1 : ∀ k : Int, (k = 59 ∨ k = 60 ∨ k = 18) → sn1 N p i (61 * p + k) = N (61 * p + k) := fun k hk => by unfold sn1; rw [up_n (by omega)]
    by_cases h : Q (N (61 * p + (bq 0 + i)))
    · rw [sdN_t h]
      have l2 : Lod p N (gt1 (sn1 N p i) p i) := (l1.u (by omega)).u (by omega)
      have c2 : ∀ k : Int, (k = 59 ∨ k = 60 ∨ k = 18) → gt1 (sn1 N p i) p i (61 * p + k) = sn1 N p i (61 * p + k) := fun k hk => by unfold gt1; rw [up_n (by omega), up_n (by omega)]
      have := ih (i + 1) (gt1 (sn1 N p i) p i) (by omega) (by omega) (by rw [gt1_57 hi, sn1_57 hi]; omega) (hBs.bgt hp hi (by rw [sn1_57 hi]; omega)) (hSs.gt hp hi)
      exact ⟨this.1, this.2.1, l2.tr this.2.2.1, fun k hk => by rw [this.2.2.2 k hk, c2 k hk, c1 k hk]⟩
    · rw [sdN_f h]
      have := ih (i + 1) (sn1 N p i) (by omega) (by omega) (by rw [sn1_57 hi]; omega) hBs hSs
      exact ⟨this.1, this.2.1, l1.tr this.2.2.1, fun k hk => by rw [this.2.2.2 k hk, c1 k hk]⟩
section R14
variable {d : Nat} {iv lw : aF} {F N G O T S : Int → Int} {R : aPost}
theorem upF_ok {W Of p s : Int} {N1 : Int → Int} (hB : Bok W Of N) (hS : Sam N N1) (hp : 0 ≤ p ∧ p < 6) (hs : 0 ≤ s) : Bok W Of (upF N p s) ∧ Sam (upF N p s) N1 ∧ Lod p N (upF N p s) := by
  have a1 := hB p 59 hp.1 hp.2 (by omega) (by omega)
  have a2 := hB p 60 hp.1 hp.2 (by omega) (by omega)
  rw [k59] at a1
  rw [k60] at a2
  have a3 := hB.v18 hp
  exact ⟨(hB.bup (k := 59) (by omega) (by rw [k59]; omega)).bup (by omega) (by rw [k60]; omega), (hS.u hp (by omega)).u hp (by omega), (Lod.rf.u (by omega)).u (by omega)⟩
theorem l_send3 {N1 : Int → Int} (hP2 : Prm2 iv F) (hP : Prm iv F) (hB1 : Bok (iv 5 0) (iv 5 1) N1) (hfr : 0 ≤ N1 368 ∧ N1 368 ≤ 20000) (hj : 0 ≤ N1 366) (hU : ∀ a : Int, 0 ≤ a → a < F 13 → N1 (61 * a + 59) ≤ 100000 ∧ N1 (61 * a + 60) ≤ 100000) (hS : ∀ a : Int, 0 ≤ a → a < F 13 → S a = sdv N1 a) (m : Nat) : ∀ (p : Int) (F2 N G : Int → Int) (vi : Option aV), 0 ≤ p → p + m = F 13 → (∀ j : Int, ¬ j = 19 → F2 j = F j) → (0 ≤ F2 19 ∧ F2 19 + 6 * m ≤ 90) → Bok (iv 5 0) (iv 5 1) N → Sam N N1 → (∀ a k : Int, p ≤ a → a < F 13 → 57 ≤ k → k < 61 → N (61 * a + k) = N1 (61 * a + k)) → (∀ (F3 G' : Int → Int), (∀ j : Int, ¬ j = 19 → F3 j = F j) → F3 19 = F2 19 + gtA iv F N1 m p → (∀ a : Int, p ≤ a → a < F 13 → 0 ≤ G a → G a ≤ 1000000000 → G' a = G a + gtn iv F N1 a) → (∀ a : Int, (a < p ∨ F 13 ≤ a) → G' a = G a) → R none SHR (ST iv F3 (s2L iv F N1 m p N) G' O T S) lw RVR) → wp (d + 4) mX12_sendAll 73 [some (aR 0), some (aI p), vi] [] SHR (ST iv F2 N G O T S) lw RVR 0 0 R := by
  obtain ⟨hW1, hW2, hO1, hO2, hT1, hT2, hI1, hI2, hF1, hF2⟩ := id hP
  induction m with
  | zero =>
    intro p F2 N G vi h0 hm hF2 h19 hB hSm hk k
    have e13 : F2 13 = F 13 := hF2 13 (by decide)
    refine wp_iload_n dX12_sendAll_73 rfl ?_
    refine wp_aload_n dX12_sendAll_74 rfl ?_
    refine wp_getI dX12_sendAll_75 fX12_138 rfl ?_
    try simp only [ST0, ST5, ST6, ST7, ST8, ST10, ST11, ST12, ST13]
    refine wp_icmp_ge (tgt := 251) dX12_sendAll_78 rfl (fun h78 => ?_) (fun h78 => by exfalso; omega)
    refine wp_return dX12_sendAll_251 rfl ?_
    exact k F2 G hF2 (by rw [gtA]; omega) (fun a x y => by omega) (fun _ _ => rfl)
  | succ m ih =>
    intro p F2 N G vi h0 hm hF2 h19 hB hSm hk k
    have e13 : F2 13 = F 13 := hF2 13 (by decide)
    have hp : 0 ≤ p ∧ p < 6 := ⟨h0, by omega⟩
    have hsp := sdv_r (N := N1) hB1 hp
    have hu := hU p h0 (by omega)
    have k57' := hk p 57 (by omega) (by omega) (by omega) (by omega)
    have k59' := hk p 59 (by omega) (by omega) (by omega) (by omega)
    have k60' := hk p 60 (by omega) (by omega) (by omega) (by omega)
    have hc := sdN_ok (Q := Got iv F N1 (sdv N1) p) (N1 := N1) hp (sdv N1 p).toNat 0 N (by omega) (by omega) (by omega) hB hSm
    have c59 := hc.2.2.2 59 (by decide)
    have c60 := hc.2.2.2 60 (by decide)
    have c18 := hc.1.v18 hp
    have n59 := hc.1 p 59 hp.1 hp.2 (by omega) (by omega)
    have n60 := hc.1 p 60 hp.1 hp.2 (by omega) (by omega)
    rw [k59] at n59
    rw [k60] at n60
    have hu2 := upF_ok (s := sdv N1 p) hc.1 hc.2.1 hp hsp.1
    have hcr := sdC_r (Q := Got iv F N1 (sdv N1) p) (N := N1) (p := p) (sdv N1 p).toNat 0
    have hSp := hS p h0 (by omega)
    refine wp_iload_n dX12_sendAll_73 rfl ?_
    refine wp_aload_n dX12_sendAll_74 rfl ?_
    refine wp_getI dX12_sendAll_75 fX12_138 rfl ?_
    try simp only [ST0, ST5, ST6, ST7, ST8, ST10, ST11, ST12, ST13]
    refine wp_icmp_ge (tgt := 251) dX12_sendAll_78 rfl (fun h78 => by exfalso; omega) (fun h78 => ?_)
    refine wp_iconst dX12_sendAll_81 ?_
    refine wp_istore_n (ls' := [_, _, _]) dX12_sendAll_82 (by decide) rfl rfl ?_
    refine l_send2 hp hP2 hP (by omega) hB1 hfr hj hS (sdv N1 p).toNat 0 F2 N G (by omega) (by omega) hF2 (by omega) hB hSm (by omega) (fun F3 G' i' a1 a2 a3 a4 => ?_)
    refine wp_aload_n dX12_sendAll_202 rfl ?_
    refine wp_iload_n dX12_sendAll_203 rfl ?_
    refine wp_bipush dX12_sendAll_204 ?_
    refine wp_aload_n dX12_sendAll_206 rfl ?_
    refine wp_iload_n dX12_sendAll_207 rfl ?_
    refine wp_bipush dX12_sendAll_208 ?_
    refine wp_callV (as := [_, _]) (ls0 := [_, _, _]) (kc := 0) (ks := 0) (bc' := 0) (bs' := 0) dX12_sendAll_210 vX12_161 rfl rfl rfl (Nat.le_of_ble_eq_true rfl) (Nat.le_of_ble_eq_true rfl) (by omega) (by omega) ?_
    refine s_of (by omega) (by omega) ?_
    refine wp_aload_n dX12_sendAll_213 rfl ?_
    refine wp_getR rfl dX12_sendAll_214 fX12_50 rfl ?_
    refine wp_iload_n dX12_sendAll_217 rfl ?_
    refine wp_iald dX12_sendAll_218 rfl (by omega) (by omega) ?_
    try simp only [ST0, ST5, ST6, ST7, ST8, ST10, ST11, ST12, ST13]
    rw [hSp]
    refine wp_iadd dX12_sendAll_219 ⟨by omega, by omega⟩ ?_
    refine wp_callV (as := [_, _, _]) (ls0 := [_, _, _, _]) (kc := 0) (ks := 0) (bc' := 0) (bs' := 0) dX12_sendAll_220 vX12_141 rfl rfl rfl (Nat.le_of_ble_eq_true rfl) (Nat.le_of_ble_eq_true rfl) (by omega) (by omega) ?_
    refine s_set (by omega) (by omega) ?_
    refine wp_aload_n dX12_sendAll_223 rfl ?_
    refine wp_iload_n dX12_sendAll_224 rfl ?_
    refine wp_bipush dX12_sendAll_225 ?_
    refine wp_aload_n dX12_sendAll_227 rfl ?_
    refine wp_iload_n dX12_sendAll_228 rfl ?_
    refine wp_bipush dX12_sendAll_229 ?_
    refine wp_callV (as := [_, _]) (ls0 := [_, _, _]) (kc := 0) (ks := 0) (bc' := 0) (bs' := 0) dX12_sendAll_231 vX12_161 rfl rfl rfl (Nat.le_of_ble_eq_true rfl) (Nat.le_of_ble_eq_true rfl) (by omega) (by omega) ?_
    refine s_of (by omega) (by omega) ?_
    rw [up_n (by omega)]
    refine wp_aload_n dX12_sendAll_234 rfl ?_
    refine wp_iload_n dX12_sendAll_235 rfl ?_
    refine wp_bipush dX12_sendAll_236 ?_
    refine wp_callV (as := [_, _]) (ls0 := [_, _, _]) (kc := 0) (ks := 0) (bc' := 0) (bs' := 0) dX12_sendAll_238 vX12_161 rfl rfl rfl (Nat.le_of_ble_eq_true rfl) (Nat.le_of_ble_eq_true rfl) (by omega) (by omega) ?_
    refine s_of (by omega) (by omega) ?_
    rw [up_n (by omega)]
    refine wp_iadd dX12_sendAll_241 ⟨by omega, by omega⟩ ?_
    refine wp_callV (as := [_, _, _]) (ls0 := [_, _, _, _]) (kc := 0) (ks := 0) (bc' := 0) (bs' := 0) dX12_sendAll_242 vX12_141 rfl rfl rfl (Nat.le_of_ble_eq_true rfl) (Nat.le_of_ble_eq_true rfl) (by omega) (by omega) ?_
    refine s_set (by omega) (by omega) ?_
    refine wp_iinc (ls' := [_, _, _]) dX12_sendAll_245 (by decide) rfl rfl ⟨by omega, by omega⟩ rfl ?_
    refine wp_goto (tgt := 73) dX12_sendAll_248 rfl ?_
    refine ih (p + 1) F3 (upF (sdN (Got iv F N1 (sdv N1) p) p (sdv N1 p).toNat 0 N) p (sdv N1 p)) G' _ (by omega) (by omega) a1 (by rw [a2]; omega) hu2.1 hu2.2.1 (fun a k x y z w => by rw [hu2.2.2 _ (by omega), hc.2.2.1 _ (by omega)]; exact hk a k (by omega) y z w) (fun F4 G4 b1 b2 b3 b4 => ?_)
    refine k F4 G4 b1 (by rw [b2, a2, gtA, gtn]; omega) (fun a x y z w => ?_) (fun a x => by rw [b4 a (by omega), a3 a (by omega)])
    by_cases e : a = p
    · subst e; rw [b4 a (by omega), a4 z (by omega)]; rfl
    · rw [b3 a (by omega) y (by rw [a3 a e]; exact z) (by rw [a3 a e]; exact w), a3 a e]
theorem s_sendAll (hP2 : Prm2 iv F) (hP : Prm iv F) (hB : Bok (iv 5 0) (iv 5 1) N) (hfr : 0 ≤ N 368 ∧ N 368 ≤ 20000) (hj : 0 ≤ N 366) (hU : ∀ a : Int, 0 ≤ a → a < F 13 → N (61 * a + 59) ≤ 100000 ∧ N (61 * a + 60) ≤ 100000) (k : ∀ (F3 G' S' : Int → Int), (∀ j : Int, ¬ j = 19 → F3 j = F j) → F3 19 = gtA iv F (quL (F 13).toNat 0 N) (F 13).toNat 0 → (∀ a : Int, 0 ≤ a → a < F 13 → 0 ≤ G a → G a ≤ 1000000000 → G' a = G a + gtn iv F (quL (F 13).toNat 0 N) a) → R none SHR (ST iv F3 (s2L iv F (quL (F 13).toNat 0 N) (F 13).toNat 0 (quL (F 13).toNat 0 N)) G' O T S') lw RVR) : wp (d + 4) mX12_sendAll 0 [some (aR 0), none, none] [] SHR (ST iv F N G O T S) lw RVR 0 0 R := by
  obtain ⟨hW1, hW2, hO1, hO2, hT1, hT2, hI1, hI2, hF1, hF2⟩ := id hP
  have hB1 := Bok.bquL (F 13).toNat 0 N (by omega) (by omega) hB
  have hn : ∀ j : Int, (∀ a : Int, 0 ≤ a → a < F 13 → ¬ j = 61 * a + 57) → quL (F 13).toNat 0 N j = N j := fun j h => quL_n _ _ _ _ (fun a x y => h a x (by omega))
  have u13 : up F 19 0 13 = F 13 := up_n (by decide)
  have u14 : up F 19 0 14 = F 14 := up_n (by decide)
  have hPu : Prm iv (up F 19 0) := by unfold Prm at *; rw [u13]; exact hP
  have hPu2 : Prm2 iv (up F 19 0) := by unfold Prm2 at *; rw [u14]; exact hP2
  have hg : ∀ a, gtn iv (up F 19 0) (quL (F 13).toNat 0 N) a = gtn iv F (quL (F 13).toNat 0 N) a := fun a => by
    have : Got iv (up F 19 0) (quL (F 13).toNat 0 N) (sdv (quL (F 13).toNat 0 N)) a = Got iv F (quL (F 13).toNat 0 N) (sdv (quL (F 13).toNat 0 N)) a := by
      funext c; unfold Got chn; rw [u13, u14]
    unfold gtn; rw [this]
  have hgA : ∀ (m : Nat) (p : Int), gtA iv (up F 19 0) (quL (F 13).toNat 0 N) m p = gtA iv F (quL (F 13).toNat 0 N) m p := by
    intro m
    induction m with
    | zero => intro p; rfl
    | succ m ih => intro p; rw [gtA, gtA, hg, ih]
  have hsL : ∀ (m : Nat) (p : Int) (M : Int → Int), s2L iv (up F 19 0) (quL (F 13).toNat 0 N) m p M = s2L iv F (quL (F 13).toNat 0 N) m p M := by
    intro m
    induction m with
    | zero => intro p M; rfl
    | succ m ih =>
      intro p M
      have : Got iv (up F 19 0) (quL (F 13).toNat 0 N) (sdv (quL (F 13).toNat 0 N)) p = Got iv F (quL (F 13).toNat 0 N) (sdv (quL (F 13).toNat 0 N)) p := by
        funext c; unfold Got chn; rw [u13, u14]
      rw [s2L, s2L, ih]
      unfold s2P; rw [this]
  refine wp_aload_n dX12_sendAll_0 rfl ?_
  refine wp_iconst dX12_sendAll_1 ?_
  refine wp_putI dX12_sendAll_2 fX12_274 rfl ?_
  try simp only [STu0, STu8, STu10, STu11, STu12, STu13]
  refine wp_iconst dX12_sendAll_5 ?_
  refine wp_istore_n (ls' := [_, _, _]) dX12_sendAll_6 (by decide) rfl rfl ?_
  refine l_send1 (F := up F 19 0) (F 13).toNat 0 N S _ (by omega) (by rw [u13]; omega) (by rw [u13]; exact hF2) hB (fun a x y => by omega) (fun S' vp hS' => ?_)
  refine wp_iconst dX12_sendAll_71 ?_
  refine wp_istore_n (ls' := [_, _, _]) dX12_sendAll_72 (by decide) rfl rfl ?_
  refine l_send3 hPu2 hPu hB1 (by rw [hn 368 (fun a x y => by omega)]; exact hfr) (by rw [hn 366 (fun a x y => by omega)]; exact hj) (fun a x y => by rw [u13] at y; rw [hn _ (fun b z w => by omega), hn _ (fun b z w => by omega)]; exact hU a x y) hS' (F 13).toNat 0 _ _ G _ (by omega) (by rw [u13]; omega) (fun _ _ => rfl) (by rw [up_s]; omega) hB1 Sam.rf (fun _ _ _ _ _ _ => rfl) (fun F3 G' b1 b2 b3 b4 => ?_)
  rw [hsL]
  refine k F3 G' S' (fun j hj => by rw [b1 j hj, up_n hj]) (by rw [b2, up_s, hgA]; omega) (fun a x y z w => by rw [b3 a x (by rw [u13]; exact y) z w, hg])
end R14
