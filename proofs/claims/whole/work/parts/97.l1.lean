/-! ===== one call of the law: class and reference ===== -/
def LwStp (M1 M2 : aMth) (as : List aV) (c : Int) (m : Nat) (sh : aSh) (iv lw : aF) (rv : aP) (lw2 E : aF) (F N G O T S : Int → Int) : Prop :=
  ∃ (v : Int) (bq : Nat) (Tr : aF → (Int → Int) → (Int → Int) → Prop), m + bq ≤ 40 ∧
    wp 16 M1 0 (a_loc (aR 0 :: as) M1.2.2.1) [] sh iv lw rv bq (429 * bq) (fun r sh' iv' _ rv' => r = some (aI v) ∧ ∀ (E' : aF) (F' N' : Int → Int), Tr E' F' N' → Sim (c + 1) (m + bq) sh' iv' rv' E' F' N') ∧
    wp 16 M2 0 (a_loc (aR 0 :: as) M2.2.2.1) [] SHR (ST E F N G O T S) lw2 RVR 0 0 (fun r sh' iv' _ rv' => r = some (aI v) ∧ sh' = SHR ∧ rv' = RVR ∧ ∃ (E' : aF) (F' N' G' O' T' S' : Int → Int), iv' = ST E' F' N' G' O' T' S' ∧ Tr E' F' N')
def TrQ (E0 : aF) (F0 N0 : Int → Int) : aF → (Int → Int) → (Int → Int) → Prop := fun E' F' N' => EqE E0 E' ∧ EqF F0 F' ∧ N' = N0
section L1
variable {m : Nat} {sh sh' : aSh} {iv iv' lw lw2 E E' : aF} {rv rv' : aP} {F F' N G O T S : Int → Int} {c : Int}
theorem TrQ.sim {c c' : Int} {m : Nat} {sh : aSh} {iv : aF} {rv : aP} {E0 : aF} {F0 N0 : Int → Int} (h : Sim c m sh iv rv E0 F0 N0) (hc : c ≤ c') (h6 : c' ≤ 600) : ∀ (E' : aF) (F' N' : Int → Int), TrQ E0 F0 N0 E' F' N' → Sim c' m sh iv rv E' F' N' := by
  intro E' F' N' q
  obtain ⟨q1, q2, rfl⟩ := q
  exact (h.mono hc h6).q q1 q2
theorem TrQ.rf {E0 : aF} {F0 N0 : Int → Int} : TrQ E0 F0 N0 E0 F0 N0 := ⟨fun _ _ => rfl, fun _ _ => rfl, rfl⟩
theorem TrQ.r {N0 : Int → Int} (h : EqR E E' F F') : TrQ E F N0 E' F' N0 := ⟨fun i hi => h.1 i (by omega) (by omega) (by omega), fun j hj => h.2 j (by omega) (by omega) (by omega) (by omega), rfl⟩
theorem Sim.tp9 (hS : Sim c m sh iv rv E F N) : ∀ i : Int, 0 ≤ i → i < F 2 → ¬ E 1 i = -1 := fun i a b => by have := hS.tpr.2.2.2 i a b; omega
theorem Sim.m40 (hS : Sim c m sh iv rv E F N) : m + 0 ≤ 40 := hS.made.2.1
theorem sim_n40 (hS : Sim c m sh iv rv E F N) : m + n1 m (iv 45 4) ≤ 40 := by
  obtain ⟨h1, h2, h3⟩ := hS.psr.2.1
  have := hS.made.2.1
  unfold n1
  split <;> omega
theorem Sim.w40 (hS : Sim c m sh iv rv E F N) (j : Nat) : m + nwC j m (iv 45 4) ≤ 40 := nwC_le j m _ hS.psr.2.1.1 hS.psr.2.1.2.2 hS.psr.2.1.2.1 hS.made.2.1
theorem st_rule {a : Int} (hc : c + 1 ≤ 600) (hS : Sim c m sh iv rv E F N) : LwStp mX11_rule mX12_rule [aI a] c m sh iv lw rv lw2 E F N G O T S :=
  ⟨aRule E F N a, 0, TrQ E F N, hS.m40, y_rule hS ⟨rfl, TrQ.sim hS (by omega) hc⟩, s_rule hS.tld ⟨rfl, rfl, rfl, E, F, N, G, O, T, S, rfl, TrQ.rf⟩⟩
theorem st_cell {a b c2 e : Int} (hc : c + 1 ≤ 600) (hS : Sim c m sh iv rv E F N) : LwStp mX11_cell mX12_cell [aI a, aI b, aI c2, aI e] c m sh iv lw rv lw2 E F N G O T S :=
  ⟨aCell F N a b c2 e, 0, TrQ E F N, hS.m40, y_cell hS ⟨rfl, TrQ.sim hS (by omega) hc⟩, s_cell hS.tld ⟨rfl, rfl, rfl, E, F, N, G, O, T, S, rfl, TrQ.rf⟩⟩
theorem st_waits {a b c2 : Int} (hc : c + 1 ≤ 600) (hS : Sim c m sh iv rv E F N) : LwStp mX11_waits mX12_waits [aI a, aI b, aI c2] c m sh iv lw rv lw2 E F N G O T S :=
  ⟨aWaits F N a b c2, 0, TrQ E F N, hS.m40, y_waits hS ⟨rfl, TrQ.sim hS (by omega) hc⟩, s_waits hS.tld ⟨rfl, rfl, rfl, E, F, N, G, O, T, S, rfl, TrQ.rf⟩⟩
theorem st_channel {a b : Int} (hc : c + 1 ≤ 600) (hS : Sim c m sh iv rv E F N) : LwStp mX11_channel mX12_channel [aI a, aI b] c m sh iv lw rv lw2 E F N G O T S :=
  ⟨aChan E F a b, 0, TrQ E F N, hS.m40, y_channel hS ⟨rfl, TrQ.sim hS (by omega) hc⟩, s_channel hS.tld ⟨rfl, rfl, rfl, E, F, N, G, O, T, S, rfl, TrQ.rf⟩⟩
theorem st_log {a b : Int} (hc : c + 1 ≤ 600) (hS : Sim c m sh iv rv E F N) : LwStp mX11_log mX12_log [aI a, aI b] c m sh iv lw rv lw2 E F N G O T S :=
  ⟨aLog N a b, 0, TrQ E F N, hS.m40, y_log hS ⟨rfl, TrQ.sim hS (by omega) hc⟩, s_log hS.tld ⟨rfl, rfl, rfl, E, F, N, G, O, T, S, rfl, TrQ.rf⟩⟩
theorem st_shares {a b : Int} (hc : c + 1 ≤ 600) (hS : Sim c m sh iv rv E F N) : LwStp mX11_shares mX12_shares [aI a, aI b] c m sh iv lw rv lw2 E F N G O T S :=
  ⟨aShares F N a b, 0, TrQ E F N, hS.m40, y_shares hS ⟨rfl, TrQ.sim hS (by omega) hc⟩, s_shares hS.tld ⟨rfl, rfl, rfl, E, F, N, G, O, T, S, rfl, TrQ.rf⟩⟩
theorem st_node {a b : Int} (hc : c + 1 ≤ 600) (hS : Sim c m sh iv rv E F N) : LwStp mX11_node mX12_node [aI a, aI b] c m sh iv lw rv lw2 E F N G O T S :=
  ⟨aNode E F N a b, 0, TrQ E F N, hS.m40, y_node hS ⟨rfl, TrQ.sim hS (by omega) hc⟩, s_node hS.tld ⟨rfl, rfl, rfl, E, F, N, G, O, T, S, rfl, TrQ.rf⟩⟩
theorem st_most {a : Int} (hc : c + 1 ≤ 600) (hS : Sim c m sh iv rv E F N) : LwStp mX11_most mX12_most [aI a] c m sh iv lw rv lw2 E F N G O T S :=
  ⟨aMost F N a, 0, TrQ E F N, hS.m40, y_most hS ⟨rfl, TrQ.sim hS (by omega) hc⟩, s_most hS.tld ⟨rfl, rfl, rfl, E, F, N, G, O, T, S, rfl, TrQ.rf⟩⟩
theorem st_count {a : Int} (hc : c + 1 ≤ 600) (hS : Sim c m sh iv rv E F N) : LwStp mX11_count mX12_count [aI a] c m sh iv lw rv lw2 E F N G O T S :=
  ⟨aCount F N a, 0, TrQ E F N, hS.m40, y_count hS ⟨rfl, TrQ.sim hS (by omega) hc⟩, s_count ⟨rfl, rfl, rfl, E, F, N, G, O, T, S, rfl, TrQ.rf⟩⟩
theorem st_status {a : Int} (hc : c + 1 ≤ 600) (hS : Sim c m sh iv rv E F N) : LwStp mX11_status mX12_status [aI a] c m sh iv lw rv lw2 E F N G O T S :=
  ⟨aStat E a, 0, TrQ E F N, hS.m40, y_status hS ⟨rfl, TrQ.sim hS (by omega) hc⟩, s_status ⟨rfl, rfl, rfl, E, F, N, G, O, T, S, rfl, TrQ.rf⟩⟩
theorem st_letter {a b : Int} (hw : iR b) (hc : c + 1 ≤ 600) (hS : Sim c m sh iv rv E F N) : LwStp mX11_letter mX12_letter [aI a, aI b] c m sh iv lw rv lw2 E F N G O T S :=
  ⟨aLetter F N a b, 0, TrQ E F N, hS.m40, y_letter hw hS ⟨rfl, TrQ.sim hS (by omega) hc⟩, s_letter hS.tld ⟨rfl, rfl, rfl, E, F, N, G, O, T, S, rfl, TrQ.rf⟩⟩
theorem st_comes {a b c2 : Int} (hc : c + 1 ≤ 600) (hS : Sim c m sh iv rv E F N) : LwStp mX11_comes mX12_comes [aI a, aI b, aI c2] c m sh iv lw rv lw2 E F N G O T S :=
  ⟨aComes E F N a b c2, 0, TrQ E F N, hS.m40, y_comes hS (fun _ g => ⟨rfl, TrQ.sim g (by omega) hc⟩), s_comes hS.tld (fun E' F' G' O' T' S' q f => ⟨rfl, rfl, rfl, E', F', N, G', O', T', S', rfl, q, f, rfl⟩)⟩
theorem st_healed (hc : c + 1 ≤ 600) (hS : Sim c m sh iv rv E F N) : LwStp mX11_healed mX12_healed [] c m sh iv lw rv lw2 E F N G O T S :=
  ⟨aHeal E F N, 0, TrQ E F N, hS.m40, y_healed hS (fun _ g => ⟨rfl, TrQ.sim g (by omega) hc⟩), s_healed hS.tld (fun E' F' G' O' T' S' q f => ⟨rfl, rfl, rfl, E', F', N, G', O', T', S', rfl, q, f, rfl⟩)⟩
theorem st_steady (hc : c + 1 ≤ 600) (hS : Sim c m sh iv rv E F N) : LwStp mX11_steady mX12_steady [] c m sh iv lw rv lw2 E F N G O T S :=
  ⟨aSteady E F N, 0, TrQ E F N, hS.m40, y_steady hS (fun _ g => ⟨rfl, TrQ.sim g (by omega) hc⟩), s_steady hS.tld (fun E' F' G' O' T' S' q f => ⟨rfl, rfl, rfl, E', F', N, G', O', T', S', rfl, q, f, rfl⟩)⟩
theorem st_harm {a b : Int} (hc : c + 1 ≤ 600) (hS : Sim c m sh iv rv E F N) : LwStp mX11_harm mX12_harm [aI a, aI b] c m sh iv lw rv lw2 E F N G O T S :=
  ⟨aHarm E F N a b, 0, TrQ E F N, hS.m40, y_harm hS (fun _ g => ⟨rfl, TrQ.sim g (by omega) hc⟩), s_harm hS.tld (fun E' F' G' O' T' S' q f => ⟨rfl, rfl, rfl, E', F', N, G', O', T', S', rfl, q, f, rfl⟩)⟩
theorem st_odds {a b : Int} (hc : c + 1 ≤ 600) (hS : Sim c m sh iv rv E F N) : LwStp mX11_odds mX12_odds [aI a, aI b] c m sh iv lw rv lw2 E F N G O T S :=
  ⟨aOdds E F N a b, 0, TrQ E F N, hS.m40, y_odds hS (fun _ g => ⟨rfl, TrQ.sim g (by omega) hc⟩), s_odds hS.tld (fun E' F' G' O' T' S' q f => ⟨rfl, rfl, rfl, E', F', N, G', O', T', S', rfl, q, f, rfl⟩)⟩
theorem st_offer {a b c2 e : Int} (hc : c + 1 ≤ 600) (hS : Sim c m sh iv rv E F N) : LwStp mX11_offer mX12_offer [aI a, aI b, aI c2, aI e] c m sh iv lw rv lw2 E F N G O T S :=
  ⟨aOffer E F N a b c2 e, 0, TrQ E F N, hS.m40, y_offer hS (fun _ g => ⟨rfl, TrQ.sim g (by omega) hc⟩), s_offer hS.tld (fun O' => ⟨rfl, rfl, rfl, E, F, N, G, O', T, S, rfl, TrQ.rf⟩)⟩
theorem st_fault {a : Int} (hc : c + 1 ≤ 600) (hS : Sim c m sh iv rv E F N) : LwStp mX11_fault mX12_fault [aI a] c m sh iv lw rv lw2 E F N G O T S :=
  ⟨aFault E F a, 0, TrQ E F N, hS.m40, y_fault hS (fun _ g => ⟨rfl, TrQ.sim g (by omega) hc⟩), s_fault hS.tpr.2.1 hS.tp9 (fun E' F' q => ⟨rfl, rfl, rfl, E', F', N, G, O, T, S, rfl, TrQ.r q⟩)⟩
theorem st_feed {a b c2 e f : Int} (hc : c + 1 ≤ 600) (hS : Sim c m sh iv rv E F N) : LwStp mX11_feed mX12_feed [aI a, aI b, aI c2, aI e, aI f] c m sh iv lw rv lw2 E F N G O T S := by
  by_cases h : 240 < F 2 + cntP (fun j => ¬ byF a b c2 e f j = 0) 20
  · exact ⟨-1, 0, TrQ (E) (F) (N), hS.m40, y_feed hS (fun _ => ⟨rfl, TrQ.sim hS (by omega) hc⟩) (fun q => absurd h q), s_feed hS.tpr.2.1 (fun _ => ⟨rfl, rfl, rfl, _, _, _, G, O, T, S, rfl, TrQ.rf⟩) (fun q => absurd h q)⟩
  · exact ⟨apN (byF a b c2 e f) 20 0 (F 2), 0, TrQ (uA E 1 (apT (byF a b c2 e f) 20 0 (F 2) (E 1))) (up F 2 (apN (byF a b c2 e f) 20 0 (F 2))) (N), hS.m40, y_feed hS (fun q => absurd q h) (fun _ _ g => ⟨rfl, TrQ.sim g (by omega) hc⟩), s_feed hS.tpr.2.1 (fun q => absurd q h) (fun _ => ⟨rfl, rfl, rfl, _, _, _, G, O, T, S, rfl, TrQ.rf⟩)⟩
theorem st_end {a : Int} (hc : c + 1 ≤ 600) (hS : Sim c m sh iv rv E F N) : LwStp mX11_end mX12_end [aI a] c m sh iv lw rv lw2 E F N G O T S := by
  by_cases h : 0 ≤ a ∧ a ≤ F 2
  · exact ⟨1, 0, TrQ (E) (up F 2 a) (N), hS.m40, y_end hS (fun _ _ g => ⟨rfl, TrQ.sim g (by omega) hc⟩) (fun q => absurd h q), s_end (fun _ => ⟨rfl, rfl, rfl, _, _, _, G, O, T, S, rfl, TrQ.rf⟩) (fun q => absurd h q)⟩
  · exact ⟨0, 0, TrQ (E) (F) (N), hS.m40, y_end hS (fun q => absurd q h) (fun _ => ⟨rfl, TrQ.sim hS (by omega) hc⟩), s_end (fun q => absurd q h) (fun _ => ⟨rfl, rfl, rfl, _, _, _, G, O, T, S, rfl, TrQ.rf⟩)⟩
theorem st_loss {a : Int} (hc : c + 1 ≤ 600) (hS : Sim c m sh iv rv E F N) : LwStp mX11_loss mX12_loss [aI a] c m sh iv lw rv lw2 E F N G O T S := by
  by_cases h : (0 ≤ a ∧ a ≤ 9) ∧ ¬ a = F 17
  · exact ⟨1, 0, TrQ (E) (up F 17 a) (N), hS.m40, y_loss hS (fun _ _ g => ⟨rfl, TrQ.sim g (by omega) hc⟩) (fun q => absurd h q), s_loss (fun _ => ⟨rfl, rfl, rfl, _, _, _, G, O, T, S, rfl, TrQ.rf⟩) (fun q => absurd h q)⟩
  · exact ⟨0, 0, TrQ (E) (F) (N), hS.m40, y_loss hS (fun q => absurd q h) (fun _ => ⟨rfl, TrQ.sim hS (by omega) hc⟩), s_loss (fun q => absurd q h) (fun _ => ⟨rfl, rfl, rfl, _, _, _, G, O, T, S, rfl, TrQ.rf⟩)⟩
theorem st_deal {a b c2 : Int} (hc : c + 1 ≤ 600) (hS : Sim c m sh iv rv E F N) : LwStp mX11_deal mX12_deal [aI a, aI b, aI c2] c m sh iv lw rv lw2 E F N G O T S := by
  by_cases h : dlR E F N a b c2 = -1
  · exact ⟨begF E F N a b c2 (61 * a + 48), n1 m (iv 45 4), TrQ (kpE E F N) (kpG F) (begF E F N a b c2), sim_n40 hS, y_deal (bq := n1 m (iv 45 4)) (by rw [if_pos h]) hc hS (fun q => absurd h q) (fun _ _ _ _ _ g => ⟨rfl, TrQ.sim g (by omega) hc⟩), s_deal hS.tld (fun _ q => absurd h q) (fun _ O' => ⟨rfl, rfl, rfl, _, _, _, G, O', T, S, rfl, TrQ.rf⟩)⟩
  · exact ⟨-1, 0, TrQ (rfF E (dlR E F N a b c2)) (F) (N), hS.m40, y_deal (bq := 0) (by rw [if_neg h]) hc hS (fun _ _ g => ⟨rfl, TrQ.sim g (by omega) hc⟩) (fun q => absurd q h), s_deal hS.tld (fun O' _ => ⟨rfl, rfl, rfl, _, _, _, G, O', T, S, rfl, TrQ.rf⟩) (fun q => absurd q h)⟩
theorem st_lose {a : Int} (hc : c + 1 ≤ 600) (hS : Sim c m sh iv rv E F N) : LwStp mX11_lose mX12_lose [aI a] c m sh iv lw rv lw2 E F N G O T S := by
  by_cases h : lsR F N a = -1
  · exact ⟨N (61 * a + 44), n1 m (iv 45 4), TrQ (kpE E F N) (kpG F) (up N (61 * a + 43) 0), sim_n40 hS, y_lose (bq := n1 m (iv 45 4)) (by rw [if_pos h]) hc hS (fun q => absurd h q) (fun _ _ _ _ _ g => ⟨rfl, TrQ.sim g (by omega) hc⟩), s_lose hS.tld (fun q => absurd h q) (fun _ => ⟨rfl, rfl, rfl, _, _, _, G, O, T, S, rfl, TrQ.rf⟩)⟩
  · exact ⟨-1, 0, TrQ (rfF E (lsR F N a)) (F) (N), hS.m40, y_lose (bq := 0) (by rw [if_neg h]) hc hS (fun _ _ g => ⟨rfl, TrQ.sim g (by omega) hc⟩) (fun q => absurd q h), s_lose hS.tld (fun _ => ⟨rfl, rfl, rfl, _, _, _, G, O, T, S, rfl, TrQ.rf⟩) (fun q => absurd q h)⟩
theorem st_jam {a : Int} (hc : c + 1 ≤ 600) (hS : Sim c m sh iv rv E F N) : LwStp mX11_jam mX12_jam [aI a] c m sh iv lw rv lw2 E F N G O T S := by
  by_cases h : jmR F a = -1
  · exact ⟨(((jmN N a 366 / 2 ^ a.toNat).toNat &&& (1 : Int).toNat : Nat) : Int), n1 m (iv 45 4), TrQ (kpE E F N) (kpG F) (jmN N a), sim_n40 hS, y_jam (bq := n1 m (iv 45 4)) (by rw [if_pos h]) hc hS (fun q => absurd h q) (fun _ _ _ _ _ g => ⟨rfl, TrQ.sim g (by omega) hc⟩), s_jam hS.tld (fun q => absurd h q) (fun _ => ⟨rfl, rfl, rfl, _, _, _, G, O, T, S, rfl, TrQ.rf⟩)⟩
  · exact ⟨-1, 0, TrQ (rfF E (jmR F a)) (F) (N), hS.m40, y_jam (bq := 0) (by rw [if_neg h]) hc hS (fun _ _ g => ⟨rfl, TrQ.sim g (by omega) hc⟩) (fun q => absurd q h), s_jam hS.tld (fun _ => ⟨rfl, rfl, rfl, _, _, _, G, O, T, S, rfl, TrQ.rf⟩) (fun q => absurd q h)⟩
theorem st_load {a b : Int} (hc : c + 1 ≤ 600) (hS : Sim c m sh iv rv E F N) : LwStp mX11_load mX12_load [aI a, aI b] c m sh iv lw rv lw2 E F N G O T S := by
  by_cases h : ldR F N a b = -1
  · exact ⟨N (61 * a + 58), n1 m (iv 45 4), TrQ (kpE E F N) (kpG F) (up N (61 * a + 58) b), sim_n40 hS, y_load (bq := n1 m (iv 45 4)) (by rw [if_pos h]) hc hS (fun q => absurd h q) (fun _ _ _ _ _ g => ⟨rfl, TrQ.sim g (by omega) hc⟩), s_load hS.tld (fun q => absurd h q) (fun _ => ⟨rfl, rfl, rfl, _, _, _, G, O, T, S, rfl, TrQ.rf⟩)⟩
  · exact ⟨-1, 0, TrQ (rfF E (ldR F N a b)) (F) (N), hS.m40, y_load (bq := 0) (by rw [if_neg h]) hc hS (fun _ _ g => ⟨rfl, TrQ.sim g (by omega) hc⟩) (fun q => absurd q h), s_load hS.tld (fun _ => ⟨rfl, rfl, rfl, _, _, _, G, O, T, S, rfl, TrQ.rf⟩) (fun q => absurd q h)⟩
theorem st_auto (hc : c + 1 ≤ 600) (hS : Sim c m sh iv rv E F N) : LwStp mX11_auto mX12_auto [] c m sh iv lw rv lw2 E F N G O T S := by
  by_cases h : auR F = -1
  · exact ⟨1 - N 367, n1 m (iv 45 4), TrQ (kpE E F N) (kpG F) (up N 367 (1 - N 367)), sim_n40 hS, y_auto (bq := n1 m (iv 45 4)) (by rw [if_pos h]) hc hS (fun q => absurd h q) (fun _ _ _ _ _ g => ⟨rfl, TrQ.sim g (by omega) hc⟩), s_auto hS.tld (fun q => absurd h q) (fun _ => ⟨rfl, rfl, rfl, _, _, _, G, O, T, S, rfl, TrQ.rf⟩)⟩
  · exact ⟨-1, 0, TrQ (rfF E (auR F)) (F) (N), hS.m40, y_auto (bq := 0) (by rw [if_neg h]) hc hS (fun _ _ g => ⟨rfl, TrQ.sim g (by omega) hc⟩) (fun q => absurd q h), s_auto hS.tld (fun _ => ⟨rfl, rfl, rfl, _, _, _, G, O, T, S, rfl, TrQ.rf⟩) (fun q => absurd q h)⟩
theorem st_frames {a : Int} (hc : c + 1 ≤ 600) (hS : Sim c m sh iv rv E F N) : LwStp mX11_frames mX12_frames [aI a] c m sh iv lw rv lw2 E F N G O T S := by
  by_cases h : frR F N a = -1
  · exact ⟨N 368 + a, nwC a.toNat m (iv 45 4), TrQ (frE a.toNat E F N) (frG a.toNat F) (frN E F a.toNat N), hS.w40 _, y_frames (bq := nwC a.toNat m (iv 45 4)) (by rw [if_pos h]) hc hS (fun q => absurd h q) (fun _ _ _ _ _ g => ⟨rfl, TrQ.sim g (by omega) hc⟩), s_frames hS.tld (fun q => absurd h q) (fun _ E' F' G' O' T' S' q f => ⟨rfl, rfl, rfl, E', F', _, G', O', T', S', rfl, q, f, rfl⟩)⟩
  · exact ⟨-1, 0, TrQ (rfF E (frR F N a)) (F) (N), hS.m40, y_frames (bq := 0) (by rw [if_neg h]) hc hS (fun _ _ g => ⟨rfl, TrQ.sim g (by omega) hc⟩) (fun q => absurd q h), s_frames hS.tld (fun _ => ⟨rfl, rfl, rfl, _, _, _, G, O, T, S, rfl, TrQ.rf⟩) (fun q => absurd q h)⟩
theorem st_years {a b : Int} (hc : c + 1 ≤ 600) (hS : Sim c m sh iv rv E F N) : LwStp mX11_years mX12_years [aI a, aL b] c m sh iv lw rv lw2 E F N G O T S := by
  by_cases h : yrR F N a
  · exact ⟨-1, 0, TrQ E F N, hS.m40, y_years (bq := 0) (fun q => absurd h q) hS (fun _ => ⟨rfl, TrQ.sim hS (by omega) hc⟩) (fun q => absurd h q), s_years hS.tld (fun _ => ⟨rfl, rfl, rfl, _, _, _, G, O, T, S, rfl, TrQ.rf⟩) (fun q => absurd h q)⟩
  · exact ⟨N 368 + a, nwC a.toNat m (iv 45 4), TrQ (yrE a.toNat E F N b) (frG a.toNat F) (yrN E F a.toNat N b), hS.w40 _, y_years (fun _ => rfl) hS (fun q => absurd q h) (fun _ _ _ _ _ g => ⟨rfl, TrQ.sim g (by omega) hc⟩), s_years hS.tld (fun q => absurd q h) (fun _ E' _ F' G' O' T' S' q f => ⟨rfl, rfl, rfl, E', F', _, G', O', T', S', rfl, q, f, rfl⟩)⟩
theorem st_undo (hc : c + 1 ≤ 600) (hS : Sim c m sh iv rv E F N) : LwStp mX11_undo mX12_undo [] c m sh iv lw rv lw2 E F N G O T S := by
  by_cases h : F 25 = 0
  · exact ⟨-1, 0, TrQ E F N, hS.m40, y_undo hS (fun _ => ⟨rfl, TrQ.sim hS (by omega) hc⟩) (fun q => by omega), s_undo hS.f25 (fun _ => ⟨rfl, rfl, rfl, _, _, _, G, O, T, S, rfl, TrQ.rf⟩) (fun q => by omega)⟩
  · exact ⟨F 25 - 1, 0, TrQ E (up F 25 (F 25 - 1)) (cpR N (E 14) (550 * (F 25 - 1)) 550), hS.m40, y_undo hS (fun q => absurd q h) (fun _ _ g => ⟨rfl, TrQ.sim g (by omega) hc⟩), s_undo hS.f25 (fun q => absurd q h) (fun _ => ⟨rfl, rfl, rfl, _, _, _, G, O, T, S, rfl, TrQ.rf⟩)⟩
theorem st_image (hc : c + 1 ≤ 600) (hS : Sim c m sh iv rv E F N) : LwStp mX11_image mX12_image [] c m sh iv lw rv lw2 E F N G O T S := by
  by_cases h : F 13 = 0
  · exact ⟨-1, 0, TrQ (E) (F) (N), hS.m40, y_image hS (fun _ => ⟨rfl, TrQ.sim hS (by omega) hc⟩) (fun q => absurd h q), s_image (fun _ => ⟨rfl, rfl, rfl, _, _, _, G, O, T, S, rfl, TrQ.rf⟩) (fun q => absurd h q)⟩
  · exact ⟨N 368, 0, TrQ (uA E 17 (cpW (E 17) N 0 550)) (up F 30 1) (N), hS.m40, y_image hS (fun q => absurd q h) (fun _ _ g => ⟨rfl, TrQ.sim g (by omega) hc⟩), s_image (fun q => absurd q h) (fun _ => ⟨rfl, rfl, rfl, _, _, _, G, O, T, S, rfl, TrQ.rf⟩)⟩
theorem st_back (hc : c + 1 ≤ 600) (hS : Sim c m sh iv rv E F N) : LwStp mX11_back mX12_back [] c m sh iv lw rv lw2 E F N G O T S := by
  have h30 : F 30 = 0 ∨ F 30 = 1 := hS.psr.2.2.2.2.2.1.2
  by_cases h : F 30 = 0
  · exact ⟨-1, 0, TrQ E F N, hS.m40, y_back hS (fun _ => ⟨rfl, TrQ.sim hS (by omega) hc⟩) (fun q => by omega), s_back h30 (fun _ => ⟨rfl, rfl, rfl, _, _, _, G, O, T, S, rfl, TrQ.rf⟩) (fun q => by omega)⟩
  · exact ⟨cpR N (E 17) 0 550 368, 0, TrQ E (up F 25 0) (cpR N (E 17) 0 550), hS.m40, y_back hS (fun q => absurd q h) (fun _ _ g => ⟨rfl, TrQ.sim g (by omega) hc⟩), s_back h30 (fun q => absurd q h) (fun _ => ⟨rfl, rfl, rfl, _, _, _, G, O, T, S, rfl, TrQ.rf⟩)⟩
theorem st_agree {a : Int} (hc : c + 1 ≤ 600) (hS : Sim c m sh iv rv E F N) : LwStp mX11_agree mX12_agree [aI a] c m sh iv lw rv lw2 E F N G O T S := by
  by_cases h : 0 ≤ a ∧ a < F 13
  · by_cases h2 : Agr N a
    · exact ⟨1, 0, TrQ E F N, hS.m40, y_agree hS (fun q => absurd h q) (fun _ _ => ⟨rfl, TrQ.sim hS (by omega) hc⟩) (fun _ q => absurd h2 q), s_agree hS.tld (fun q => absurd h q) (fun _ _ => ⟨rfl, rfl, rfl, _, _, _, G, O, T, S, rfl, TrQ.rf⟩) (fun _ q => absurd h2 q)⟩
    · exact ⟨0, 0, TrQ E F N, hS.m40, y_agree hS (fun q => absurd h q) (fun _ q => absurd q h2) (fun _ _ => ⟨rfl, TrQ.sim hS (by omega) hc⟩), s_agree hS.tld (fun q => absurd h q) (fun _ q => absurd q h2) (fun _ _ => ⟨rfl, rfl, rfl, _, _, _, G, O, T, S, rfl, TrQ.rf⟩)⟩
  · exact ⟨-1, 0, TrQ E F N, hS.m40, y_agree hS (fun _ => ⟨rfl, TrQ.sim hS (by omega) hc⟩) (fun q => absurd q h) (fun q => absurd q h), s_agree hS.tld (fun _ => ⟨rfl, rfl, rfl, _, _, _, G, O, T, S, rfl, TrQ.rf⟩) (fun q => absurd q h) (fun q => absurd q h)⟩
theorem st_text {a : Int} (hc : c + 1 ≤ 600) (hS : Sim c m sh iv rv E F N) : LwStp mX11_text mX12_text [aI a] c m sh iv lw rv lw2 E F N G O T S := by
  by_cases h0 : a = 0 ∧ (mshV (E 1) (F 2) (E 2) (E 3)).1 = -1
  · refine ⟨(mshV (E 1) (F 2) (E 2) (E 3)).2.1, 0, fun E' F' N' => MshF (mshV (E 1) (F 2) (E 2) (E 3)) E E' F F' ∧ N' = tmN (E' 6) (mshV (E 1) (F 2) (E 2) (E 3)).2.1 (E' 5 4) N, hS.m40, y_text hS (fun _ _ _ g => ⟨rfl, fun E' F' N' q => ?_⟩) (fun q _ => by omega) (fun q _ => absurd h0.2 (q h0.1)), s_text hS.tpr.2.1 hS.tp9 (fun _ _ E' F' q1 q2 q3 q4 q5 q6 q7 q8 => ⟨rfl, rfl, rfl, E', F', _, G, O, T, S, rfl, ⟨q1, q2, q3, q4, q5, q6, q7, q8⟩, rfl⟩) (fun q _ => by omega) (fun q _ => absurd h0.2 (q h0.1))⟩
    obtain ⟨q1, rfl⟩ := q
    exact (g E' F' q1).mono (by omega) hc
  · by_cases h1 : a = 1 ∧ (hopV (E 1) (F 2) (E 4)).1 = -1
    · refine ⟨(hopV (E 1) (F 2) (E 4)).2.1, 0, fun E' F' N' => HopF (hopV (E 1) (F 2) (E 4)) E E' F F' ∧ N' = N, hS.m40, y_text hS (fun q _ => by omega) (fun _ _ _ g => ⟨rfl, fun E' F' N' q => ?_⟩) (fun _ q => absurd h1.2 (q h1.1)), s_text hS.tpr.2.1 hS.tp9 (fun q _ => by omega) (fun _ _ E' F' q1 q2 q3 q4 q5 => ⟨rfl, rfl, rfl, E', F', _, G, O, T, S, rfl, ⟨q1, q2, q3, q4, q5⟩, rfl⟩) (fun _ q => absurd h1.2 (q h1.1))⟩
      obtain ⟨q1, rfl⟩ := q
      exact (g E' F' q1).mono (by omega) hc
    · exact ⟨-1, 0, TrQ E F N, hS.m40, y_text hS (fun q r => absurd ⟨q, r⟩ h0) (fun q r => absurd ⟨q, r⟩ h1) (fun _ _ _ g => ⟨rfl, TrQ.sim g (by omega) hc⟩), s_text hS.tpr.2.1 hS.tp9 (fun q r => absurd ⟨q, r⟩ h0) (fun q r => absurd ⟨q, r⟩ h1) (fun _ _ E' F' q => ⟨rfl, rfl, rfl, E', F', N, G, O, T, S, rfl, TrQ.r q⟩)⟩
end L1
