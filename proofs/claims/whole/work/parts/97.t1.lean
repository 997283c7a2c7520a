/-! ===== a method that throws NoSuchElementException: its words, its walk ===== -/
def aNse : String := "java/util/NoSuchElementException"
def aNms : List String := ["java/lang/RuntimeException", "java/lang/Exception"]
def thB : List Cond := [.declares (Bundle.init0 "java/lang/RuntimeException"), .declares (Bundle.init0 "java/lang/Exception"), .declares (Bundle.init0 Bundle.tN), .castable aNse aNse]
theorem th_good : ((vx_at0 RX11 138 aNse aNms).filter goodWord) = [22, 1273, 1282, 1284, 1287, 1289, 1274, 1275, 33, 34, 1276, 1281, 1285, 1301, 1263, 1302, 1265, 1303, 1267, 1277, 1279, 1269, 1291, 1292, 1293, 1294, 1294, 1295, 1296, 1297, 1297, 1298, 1299, 1274, 1290, 1252, 1260, 1261, 1262, 1264, 1266, 1268, 1272, 1271, 1270].filterMap (fun i => tables_1[i]?) := by decide +kernel
theorem th_in : ∀ w ∈ (vx_at0 RX11 138 aNse aNms).filter goodWord, w ∈ aG := by
  intro w hw
  have hg := (List.mem_filter.mp hw).2
  rw [th_good] at hw
  obtain ⟨i, -, hi⟩ := List.mem_filterMap.mp hw
  exact List.mem_filter.mpr ⟨List.mem_append_right _ (List.mem_of_getElem? hi), hg⟩
theorem th_bad : ∀ w ∈ (vx_at0 RX11 138 aNse aNms).filter (fun w => !goodWord w), w ∈ thB := by decide +kernel
theorem th_ot : ∀ w ∈ Cond.classLink RX11 136 aNse :: Cond.initialized aNse :: vx_at0 RX11 138 aNse aNms, vx_ot w = true := by decide +kernel
theorem th_tab : ∀ w ∈ thB, w.onTables = true := by decide +kernel
theorem th_cl : Cond.classLink RX11 136 aNse ∈ aG := List.mem_filter.mpr ⟨t6 (List.mem_of_getElem? (i := 51) rfl), rfl⟩
theorem th_ini : Cond.initialized aNse ∈ aG := List.mem_filter.mpr ⟨t1 (List.mem_of_getElem? (i := 25) rfl), rfl⟩
def aThE (A : Nat → Prop) (U : State) (H : Heap) : Prop := (∀ w ∈ thB, va_Nw w U) ∧ vx_Zq Bundle.tN "UNASSIGNED_STACK" Bundle.steD A U H ∧ vx_Zq Bundle.tN "SUPPRESSED_SENTINEL" Bundle.listD A U H
theorem aThE.same {A : Nat → Prop} {u U : State} {H : Heap} (hv : u.vm = U.vm) (h : aThE A u H) : aThE A U H := by
  have ha : u.vm.Alike U.vm := by rw [hv]; exact Vm.Alike.refl U.vm
  exact ⟨fun w hw => va_Nw.same (th_tab w hw) hv (h.1 w hw), h.2.1.moved ha, h.2.2.moved ha⟩
theorem aThE.warm {A : Nat → Prop} {s U : State} {H : Heap} (hW : s.WarmedH U.vm) (h : aThE A s H) : aThE A U H := by
  refine ⟨fun w hw => ?_, h.2.1.moved hW.alike, h.2.2.moved hW.alike⟩
  have h0 := h.1 w hw
  rcases List.mem_cons.mp hw with rfl | hw
  · exact va_Nw.warmD hW h0
  rcases List.mem_cons.mp hw with rfl | hw
  · exact va_Nw.warmD hW h0
  rcases List.mem_cons.mp hw with rfl | hw
  · exact va_Nw.warmD hW h0
  rcases List.mem_cons.mp hw with rfl | hw
  · exact va_Nw.warmC hW h0
  cases hw
theorem aThE.kept {A : Nat → Prop} {U : State} {H H1 : Heap} (h : aThE A U H) (hq : ∀ a : Nat, a < H.size → ¬ A a → H1[a]? = H[a]?) : aThE A U H1 := ⟨h.1, h.2.1.kept hq, h.2.2.kept hq⟩
theorem aThE.narrow {A B : Nat → Prop} {U : State} {H : Heap} (h : aThE A U H) (hAB : ∀ q, B q → A q) : aThE B U H := ⟨h.1, h.2.1.narrow hAB, h.2.2.narrow hAB⟩
def wtQ (D : va_G) (cI cL cA : ClassId) (ad0 : Nat → Nat) (n0 : Nat) (A : Nat → Prop) (R : aPost) : String → State → State → Prop := fun E st t =>
  E = aNse ∧ (∃ (ad : Nat → Nat) (sh : aSh) (iv lw : aF) (rv : aP), (∀ i, i < n0 → ad i = ad0 i) ∧ n0 ≤ sh.length ∧ R none sh iv lw rv ∧ va_P D vwCl (a_W cI cL cA ad sh iv lw rv) t.heap ∧ va_D A (a_W cI cL cA ad sh iv lw rv) ∧ a_wf sh.length iv lw rv) ∧ va_F A st t
/-- as wp, but it throws -/
def wt (d : Nat) (M : aMth) (pc : Nat) (ls : List (Option aV)) (st : List aV) (sh : aSh) (iv lw : aF) (rv : aP) (bc bs : Nat) (R : aPost) : Prop :=
  ∀ (p : Program) (l : Launch) (e : Env) (s : State) (m : MethodId) (args : Array Value) (below : List Frame) (meth : Method) (c : Code) (D : va_G) (cI cL cA : ClassId) (xd : Nat → Nat) (A : Nat → Prop) (mc ms : Nat) (ad0 : Nat → Nat) (n0 : Nat),
    aCtx M D cI cL cA xd A p s m args meth c → (l.stackTraces = false ∧ aThE A s s.heap ∧ ∀ x ∈ c.exceptionTable.toList, False) → ∀ (ad : Nat → Nat) (H : Heap) (locs : List Jvm.Loc) (cells slots : Nat) (jls : Array Slot), aDyn M.2.2.1 D cI cL cA xd A mc ms ad0 n0 s ls st sh iv lw rv bc bs ad H locs cells slots jls →
      W p l e (aRoom d mc ms) s m args below meth c H locs cells slots (vx_MQ below (fun _ _ _ _ => False) (wtQ D cI cL cA ad0 n0 A R) args s mc ms A) (F0 m pc jls (st.map (a_val ad xd)))
section WTR
variable {d : Nat} {M : aMth} {pc : Nat} {ls ls0 : List (Option aV)} {st stk as : List aV} {sh : aSh} {iv lw : aF} {rv : aP} {bc bs bc' bs' kc ks : Nat} {R : aPost}
theorem wt_aload_n {k : Fin 4} {x : Option (Nat ⊕ Nat)} (hd : decode M.2.1 pc = .ok (.aload_n k, 1)) (hv : a_nth ls k = some (.inr (.inr x))) (kk : wt d M (pc + 1) ls (.inr (.inr x) :: st) sh iv lw rv bc bs R) : wt d M pc ls st sh iv lw rv bc bs R := by
  intro p l e s m args below meth c D cI cL cA xd A mc ms ad0 n0 hC hT9 ad H locs cells slots jls hD
  obtain ⟨hx, hb, hml, hr, hlk, hown, hnm, hts, hK, hE, hA⟩ := id hC
  obtain ⟨h1, h2, hP, hDs, hS, hc, hs, hl, hw, ho, hol⟩ := hD
  rcases x with _ | x | x
  · refine lv_aload_nN hx hb hd rfl (hl.2.2.2 _ _ hv) ?_
    exact kk p l e s m args below meth c D cI cL cA xd A mc ms ad0 n0 hC hT9 ad H locs cells slots jls ⟨h1, h2, hP, hDs, hS, hc, hs, hl, hw, List.forall_mem_cons.mpr ⟨hol _ _ hv, ho⟩, hol⟩
  · refine lv_aload_n hx hb hd rfl (hl.2.2.2 _ _ hv) ?_
    exact kk p l e s m args below meth c D cI cL cA xd A mc ms ad0 n0 hC hT9 ad H locs cells slots jls ⟨h1, h2, hP, hDs, hS, hc, hs, hl, hw, List.forall_mem_cons.mpr ⟨hol _ _ hv, ho⟩, hol⟩
  · refine lv_aload_n hx hb hd rfl (hl.2.2.2 _ _ hv) ?_
    exact kk p l e s m args below meth c D cI cL cA xd A mc ms ad0 n0 hC hT9 ad H locs cells slots jls ⟨h1, h2, hP, hDs, hS, hc, hs, hl, hw, List.forall_mem_cons.mpr ⟨hol _ _ hv, ho⟩, hol⟩
theorem wt_iload_n {k : Fin 4} {x : Int} (hd : decode M.2.1 pc = .ok (.iload_n k, 1)) (hv : a_nth ls k = some (aI x)) (kk : wt d M (pc + 1) ls (aI x :: st) sh iv lw rv bc bs R) : wt d M pc ls st sh iv lw rv bc bs R := by
  intro p l e s m args below meth c D cI cL cA xd A mc ms ad0 n0 hC hT9 ad H locs cells slots jls hD
  obtain ⟨hx, hb, hml, hr, hlk, hown, hnm, hts, hK, hE, hA⟩ := id hC
  obtain ⟨h1, h2, hP, hDs, hS, hc, hs, hl, hw, ho, hol⟩ := hD
  refine lv_iload_n hx hb hd rfl (hl.2.2.2 _ _ hv) ?_
  exact kk p l e s m args below meth c D cI cL cA xd A mc ms ad0 n0 hC hT9 ad H locs cells slots jls ⟨h1, h2, hP, hDs, hS, hc, hs, hl, hw, List.forall_mem_cons.mpr ⟨hol _ _ hv, ho⟩, hol⟩
theorem wt_bipush {v : Int} (hd : decode M.2.1 pc = .ok (.bipush v, 2)) (k : wt d M (pc + 2) ls (aI v :: st) sh iv lw rv bc bs R) (hv : -128 ≤ v ∧ v < 128 := by decide) : wt d M pc ls st sh iv lw rv bc bs R := by
  intro p l e s m args below meth c D cI cL cA xd A mc ms ad0 n0 hC hT9 ad H locs cells slots jls hD
  obtain ⟨hx, hb, hml, hr, hlk, hown, hnm, hts, hK, hE, hA⟩ := id hC
  obtain ⟨h1, h2, hP, hDs, hS, hc, hs, hl, hw, ho, hol⟩ := hD
  refine lv_bipush (v := Int32.ofInt v) hx hb hd (a_b8 hv) ?_
  exact k p l e s m args below meth c D cI cL cA xd A mc ms ad0 n0 hC hT9 ad H locs cells slots jls ⟨h1, h2, hP, hDs, hS, hc, hs, hl, hw, List.forall_mem_cons.mpr ⟨(show iR v from ⟨by omega, by omega⟩), ho⟩, hol⟩
theorem wt_if_eq {x : Int} {off : Int} {tgt : Nat} (hd : decode M.2.1 pc = .ok (.ifCond .eq off, 3)) (ht : (pc : Int) + off = (tgt : Int)) (kt : x = 0 → wt d M tgt ls st sh iv lw rv bc bs R) (kf : ¬ (x = 0) → wt d M (pc + 3) ls st sh iv lw rv bc bs R) : wt d M pc ls (aI x :: st) sh iv lw rv bc bs R := by
  intro p l e s m args below meth c D cI cL cA xd A mc ms ad0 n0 hC hT9 ad H locs cells slots jls hD
  obtain ⟨hx, hb, hml, hr, hlk, hown, hnm, hts, hK, hE, hA⟩ := id hC
  obtain ⟨h1, h2, hP, hDs, hS, hc, hs, hl, hw, ho, hol⟩ := hD
  obtain ⟨o0, hoo⟩ := List.forall_mem_cons.mp ho
  clear ho
  have ho := hoo
  clear hoo
  refine lv_if_eq hx hb hd ht (fun q => ?_) (fun q => ?_)
  · exact kt ((a_b0_eq o0).mp q) p l e s m args below meth c D cI cL cA xd A mc ms ad0 n0 hC hT9 ad H locs cells slots jls ⟨h1, h2, hP, hDs, hS, hc, hs, hl, hw, ho, hol⟩
  · exact kf (fun q2 => q ((a_b0_eq o0).mpr q2)) p l e s m args below meth c D cI cL cA xd A mc ms ad0 n0 hC hT9 ad H locs cells slots jls ⟨h1, h2, hP, hDs, hS, hc, hs, hl, hw, ho, hol⟩
theorem wt_if_lt {x : Int} {off : Int} {tgt : Nat} (hd : decode M.2.1 pc = .ok (.ifCond .lt off, 3)) (ht : (pc : Int) + off = (tgt : Int)) (kt : x < 0 → wt d M tgt ls st sh iv lw rv bc bs R) (kf : ¬ (x < 0) → wt d M (pc + 3) ls st sh iv lw rv bc bs R) : wt d M pc ls (aI x :: st) sh iv lw rv bc bs R := by
  intro p l e s m args below meth c D cI cL cA xd A mc ms ad0 n0 hC hT9 ad H locs cells slots jls hD
  obtain ⟨hx, hb, hml, hr, hlk, hown, hnm, hts, hK, hE, hA⟩ := id hC
  obtain ⟨h1, h2, hP, hDs, hS, hc, hs, hl, hw, ho, hol⟩ := hD
  obtain ⟨o0, hoo⟩ := List.forall_mem_cons.mp ho
  clear ho
  have ho := hoo
  clear hoo
  refine lv_if_lt hx hb hd ht (fun q => ?_) (fun q => ?_)
  · exact kt ((a_b0_lt o0).mp q) p l e s m args below meth c D cI cL cA xd A mc ms ad0 n0 hC hT9 ad H locs cells slots jls ⟨h1, h2, hP, hDs, hS, hc, hs, hl, hw, ho, hol⟩
  · exact kf (fun q2 => q ((a_b0_lt o0).mpr q2)) p l e s m args below meth c D cI cL cA xd A mc ms ad0 n0 hC hT9 ad H locs cells slots jls ⟨h1, h2, hP, hDs, hS, hc, hs, hl, hw, ho, hol⟩
theorem wt_icmp_le {x y : Int} {off : Int} {tgt : Nat} (hd : decode M.2.1 pc = .ok (.if_icmp .le off, 3)) (ht : (pc : Int) + off = (tgt : Int)) (kt : x ≤ y → wt d M tgt ls st sh iv lw rv bc bs R) (kf : ¬ (x ≤ y) → wt d M (pc + 3) ls st sh iv lw rv bc bs R) : wt d M pc ls (aI y :: aI x :: st) sh iv lw rv bc bs R := by
  intro p l e s m args below meth c D cI cL cA xd A mc ms ad0 n0 hC hT9 ad H locs cells slots jls hD
  obtain ⟨hx, hb, hml, hr, hlk, hown, hnm, hts, hK, hE, hA⟩ := id hC
  obtain ⟨h1, h2, hP, hDs, hS, hc, hs, hl, hw, ho, hol⟩ := hD
  obtain ⟨o0, hoo⟩ := List.forall_mem_cons.mp ho
  clear ho
  have ho := hoo
  clear hoo
  obtain ⟨o1, hoo⟩ := List.forall_mem_cons.mp ho
  clear ho
  have ho := hoo
  clear hoo
  refine lv_icmp_le hx hb hd ht (fun q => ?_) (fun q => ?_)
  · exact kt ((a_b_le o1 o0).mp q) p l e s m args below meth c D cI cL cA xd A mc ms ad0 n0 hC hT9 ad H locs cells slots jls ⟨h1, h2, hP, hDs, hS, hc, hs, hl, hw, ho, hol⟩
  · exact kf (fun q2 => q ((a_b_le o1 o0).mpr q2)) p l e s m args below meth c D cI cL cA xd A mc ms ad0 n0 hC hT9 ad H locs cells slots jls ⟨h1, h2, hP, hDs, hS, hc, hs, hl, hw, ho, hol⟩
theorem wt_getR {i idx ci k : Nat} {kz : Int} {fin : Bool} {q : Nat} (hq : rv i kz = some q) (hd : decode M.2.1 pc = .ok (.getfield idx, 3)) (hf : a_fl M.1.cls idx ci k kz 3 fin) (hsh : sh[i]? = some (3, ci)) (kk : wt d M (pc + 3) ls (aR q :: st) sh iv lw rv bc bs R) : wt d M pc ls (aR i :: st) sh iv lw rv bc bs R := by
  intro p l e s m args below meth c D cI cL cA xd A mc ms ad0 n0 hC hT9 ad H locs cells slots jls hD
  obtain ⟨hx, hb, hml, hr, hlk, hown, hnm, hts, hK, hE, hA⟩ := id hC
  obtain ⟨h1, h2, hP, hDs, hS, hc, hs, hl, hw, ho, hol⟩ := hD
  obtain ⟨o0, hoo⟩ := List.forall_mem_cons.mp ho
  clear ho
  have ho := hoo
  clear hoo
  obtain ⟨C, T, N, ty0, ⟨c1, c2, c3, c4, c5, c6⟩, hk, rfl, ht, hfin, hdecl, hlink⟩ := hf
  have hg := a_W_get (cI := cI) (cL := cL) (cA := cA) (ad := ad) (iv := iv) (lw := lw) (rv := rv) (a_lt hsh)
  rw [a_cell_3 hsh] at hg
  have hv0 := a_fs_get (ad := ad) (iv := iv) (lw := lw) (rv := rv) (i := i) ht
  have ee : a_fv ad iv lw rv i 3 k = .ref (ad q) := by show va_rf ((rv i k).map ad) = _; rw [hq]; rfl
  rw [ee] at hv0
  rcases hlink with hl1 | ⟨host, hl1⟩
  · refine va_get (D := D) hx hb hts c2 hown hK hP i hg c1 k hk (hts _ hl1) (fun _ h => h) hv0 hd ?_
    exact kk p l e s m args below meth c D cI cL cA xd A mc ms ad0 n0 hC hT9 ad H locs cells slots jls ⟨h1, h2, hP, hDs, hS, hc, hs, hl, hw, List.forall_mem_cons.mpr ⟨hw.2.2 _ _ _ hq, ho⟩, hol⟩
  · refine va_getN (D := D) hx hb hts c2 hown hK hP i hg c1 k hk (va_Nw.use rfl (hE.1 _ hl1 rfl)) (fun _ h => h) hv0 hd ?_
    exact kk p l e s m args below meth c D cI cL cA xd A mc ms ad0 n0 hC hT9 ad H locs cells slots jls ⟨h1, h2, hP, hDs, hS, hc, hs, hl, hw, List.forall_mem_cons.mpr ⟨hw.2.2 _ _ _ hq, ho⟩, hol⟩
theorem wt_callV {idx b ci : Nat} {M' : aMth} (hd : decode M.2.1 pc = .ok (.invokevirtual idx, 3)) (hcl : a_cv M.1.cls idx ci M' as.length) (hsh : sh[b]? = some (3, ci)) (hstk : stk = as.reverse ++ aR b :: st) (hls : a_loc (aR b :: as) M'.2.2.1 = ls0) (hlen : (a_ent (aR b :: as)).length ≤ M'.2.2.1 := by exact Nat.le_of_ble_eq_true rfl) (hwt : (st.map (fun v => (a_val id id v).category)).sum ≤ 8 := by exact Nat.le_of_ble_eq_true rfl) (hbc : kc + bc' ≤ bc) (hbs : ks + bs' ≤ bs)
    (k : wp d M' 0 ls0 [] sh iv lw rv kc ks (fun r sh iv lw rv => wt (d + 1) M (pc + 3) ls (a_psh r st) sh iv lw rv bc' bs' R)) : wt (d + 1) M pc ls stk sh iv lw rv bc bs R := by
  intro p l e s m args below meth c D cI cL cA xd A mc ms ad0 n0 hC hT9 ad H locs cells slots jls hD
  obtain ⟨hx, hb, hml, hr, hlk, hown, hnm, hts, hK, hE, hA⟩ := id hC
  obtain ⟨h1, h2, hP, hDs, hS, hc, hs, hl, hw, ho, hol⟩ := hD
  subst hstk
  subst hls
  obtain ⟨⟨hL1, hL2, hL3, hL4, hL5, hL6⟩, hc1, hc2, C, T, N, hc3, hc4⟩ := hcl
  have hoas : ∀ v ∈ (aR b :: as), a_ok sh.length v := by
    intro v hv
    rcases List.mem_cons.mp hv with rfl | hv
    · exact ho _ (by simp)
    · exact ho _ (by simp [hv])
  have host : ∀ v ∈ st, a_ok sh.length v := fun v hv => ho v (by simp [hv])
  have hg := a_W_get (cI := cI) (cL := cL) (cA := cA) (ad := ad) (iv := iv) (lw := lw) (rv := rv) (a_lt hsh)
  rw [a_cell_3 hsh] at hg
  have hAA : ∀ q, va_A (a_W cI cL cA ad sh iv lw rv) H.size q → A q := by
    intro q hq
    rcases hq with ⟨k, e, hk⟩ | hq
    · exact hDs.2 k _ hk
    · exact hA q (Nat.le_trans hS.1 hq)
  have hEH : aEnv xd (va_A (a_W cI cL cA ad sh iv lw rv) H.size) s H := (hE.kept (fun q a b => hS.2.1 q a b)).narrow hAA
  have hM' := a_met l (as := aR b :: as) hL1 hlen k D cI cL cA xd ad H.size hw hoas
  have hrun := va_runV (g := F0 m pc jls ((as.reverse ++ aR b :: st).map (a_val ad xd))) (cells := cells) (slots := slots) (locs := locs) (As := as.map (a_val ad xd)) (rest := st.map (a_val ad xd)) (R := aRoom (d + 1) mc ms) (H := H) (C := C) (e := e) (below := below) (meth := meth) ⟨hx, hb, hml, hown, hts⟩ hM' ⟨⟨rfl, rfl, (by show d + 1 ≤ d + 1; omega), (by show 8 + (M'.2.2.1 + 11) + 64 * d ≤ 64 * (d + 1); omega), a_ws hts hL5, List.mem_cons_self, hts _ hL5, hts _ hL4, hL2, (fun sig h => by have h2 := hL3; rw [h] at h2; exact (Option.some.inj h2).symm), hts _ hc1⟩, hts _ hc2, hts _ hc4⟩ ⟨a_blind, va_recv hK hP hc3 hg, fun U hU hW => ⟨rfl, by rw [hU], by rw [hU]; exact hP, va_K.moved hW.alike hK, hDs.weaken (fun _ _ _ _ => trivial), by rw [hU]; exact hEH.warm hW⟩⟩ rfl (by rw [List.length_map]) hl.2.1 (by simp [a_val]) (by rw [show (F0 m pc jls ((as.reverse ++ aR b :: st).map (a_val ad xd))).monitorRoom = 0 from rfl, a_cat]; omega) hd ⟨by show cells + kc ≤ mc; omega, by show slots + ks ≤ ms; omega⟩
  · refine a_cont hrun hS hAA (fun ad' r sh' iv' lw' rv' H1 locs1 g1 g2 g3 g4 g5 g6 g7 g8 => ?_)
    rw [a_psh_map g1 host]
    refine g3 p l e s m args below meth c D cI cL cA xd A mc ms ad0 n0 hC hT9 ad' H1 locs1 _ _ jls ⟨fun i hi => (g1 i (by omega)).trans (h1 i hi), by omega, g4, g5.weaken (fun _ _ _ h => hAA _ h), g8, by omega, by omega, a_L_ad g1 hl hol, g6, ?_, fun k v hk => a_ok_mono g2 (hol k v hk)⟩
    intro v hv
    cases r with
    | none => exact a_ok_mono g2 (host v hv)
    | some w =>
      rcases List.mem_cons.mp hv with rfl | hv
      · exact g7 _ rfl
      · exact a_ok_mono g2 (host v hv)
theorem wt_throw (hM : M.1.cls = RX11) (d0 : decode M.2.1 pc = .ok (.new 136, 3)) (d3 : decode M.2.1 (pc + 3) = .ok (.dup, 1)) (d4 : decode M.2.1 (pc + 4) = .ok (.invokespecial 138, 3)) (d7 : decode M.2.1 (pc + 7) = .ok (.athrow, 1)) (k : R none sh iv lw rv) : wt (d + 6) M pc ls [] sh iv lw rv 1 6 R := by
  intro p l e s m args below meth c D cI cL cA xd A mc ms ad0 n0 hC hT9 ad H locs cells slots jls hD
  obtain ⟨hx, hb, hml, hr, hlk, hown, hnm, hts, hK, hE, hA⟩ := id hC
  obtain ⟨h1, h2, hP, hDs, hS, hc, hs, hl, hw, ho, hol⟩ := hD
  obtain ⟨hT1, hT2, hT3⟩ := hT9
  rw [hM] at hown
  refine vx_throw0 (names := aNms) hx hb hT1 hown (by decide +kernel) (by decide +kernel) (hts _ th_cl) (hts _ th_ini) (vx_hat (fun w hw => hts w (th_in w hw)) th_bad (fun w hw => va_Nw.use (th_tab w hw) (hT2.1 w hw))) th_ot hT2.2.1 hT2.2.2 hS (hl.2.1.trans hml.symm) d0 d3 d4 d7 (fun x hx => (hT3 x hx).elim) ?_ ?_ hc hs hlk ?_ hS.2.2 hc hs
  · show 2 + 3 < d + 6; omega
  · show 0 + (13 * (2 + 1) + 42) ≤ 64 * (d + 6); omega
  · intro t hvm hz hq
    exact ⟨rfl, ⟨ad, sh, iv, lw, rv, h1, h2, k, hP.kept (fun k q hk => hq q.1 (vx_lt hP hk)), hDs, hw⟩, Nat.le_trans hS.1 hz, fun q a b => (hq q (Nat.lt_of_lt_of_le a hS.1)).trans (hS.2.1 q a b)⟩
end WTR
theorem a_metT (l : Launch) (hl0 : l.stackTraces = false) {d : Nat} {M : aMth} {as : List aV} {sh : aSh} {iv lw : aF} {rv : aP} {bc bs : Nat} {R : aPost} (hM : plainName M.1.cls = true) (hlen : (a_ent as).length ≤ M.2.2.1) (hwp : wt d M 0 (a_loc as M.2.2.1) [] sh iv lw rv bc bs R) (D : va_G) (cI cL cA : ClassId) (xd ad : Nat → Nat) (sz : Nat) (hw : a_wf sh.length iv lw rv) (hok : ∀ v ∈ as, a_ok sh.length v) :
    vx_Met l M.1 (Cond.code M.1 M.2.1 M.2.2.1 M.2.2.2 :: aG) (aRoom d bc bs) (va_Pc (as.map (a_val ad xd)) (fun U => aPre D cI cL cA xd ad sz sh iv lw rv U ∧ aThE (va_A (a_W cI cL cA ad sh iv lw rv) sz) U U.heap)) (fun _ _ _ _ => False) (wtQ D cI cL cA ad sh.length (va_A (a_W cI cL cA ad sh iv lw rv) sz) R) bc bs (va_A (a_W cI cL cA ad sh iv lw rv) sz) := by
  refine vx_ofW (cc := M.2.1) (maxL := M.2.2.1) (ret := M.2.2.2) hM rfl ?_
  intro p e s m args below meth c s₁ B hml hex hv
  obtain ⟨rfl, ⟨hsz, hP, hK, hD0, hE⟩, hT⟩ := hv
  subst hsz
  have hts := atoms_spec (ws := Cond.code M.1 M.2.1 M.2.2.1 M.2.2.2 :: aG) B.pre
  have hnm : meth.name = M.1.name := (name_of_methodNamed B.named B.method).1
  have hl := lv_entry (as.map (a_val ad xd)) (n := M.2.2.1) (by rw [a_ent_len]; exact hlen)
  rw [lg_entry_eq]
  exact hwp p l e s m _ below meth c D cI cL cA xd _ bc bs ad sh.length ⟨B.exec, B.bytes, hml, B.returns, B.notSynchronized, findClass_of_methodNamed B.named, hnm, fun w h => hts w (List.mem_cons_of_mem _ h), hK, hE, fun q h => Or.inr h⟩ ⟨hl0, hT, hex⟩
    ad s.heap [] 0 0 _ ⟨fun _ _ => rfl, Nat.le_refl _, hP, hD0.self, va_S.rf, by omega, by omega, ⟨by unfold a_loc; rw [List.length_append, List.length_replicate]; omega, hl.1, hl.2.1, fun k v hk => hl.2.2 (k, a_val ad xd v) (by have := a_ent_nth ad xd _ as 0 k v hk; rwa [Nat.zero_add] at this)⟩, hw, (fun v hv => by cases hv), a_ent_ok _ as hok⟩
section PT
variable {d m : Nat} {sh : aSh} {iv lw E : aF} {rv : aP} {F N : Int → Int} {R : aPost} {c : Int}
theorem y_pairT {p w : Int} (hS : Sim c m sh iv rv E F N) (hn : ¬ ((0 ≤ p ∧ p < F 13) ∧ 0 ≤ w ∧ w ≤ 10)) (k : R none sh iv lw rv) : wt (d + 6) mX11_pair 0 [some (aR 0), some (aI p), some (aI w)] [] sh iv lw rv 1 6 R := by
  have t21 : wt (d + 6) mX11_pair 21 [some (aR 0), some (aI p), some (aI w)] [] sh iv lw rv 1 6 R := wt_throw rfl dX11_pair_21 dX11_pair_24 dX11_pair_25 dX11_pair_28 k
  refine wt_aload_n dX11_pair_0 rfl ?_
  refine wt_getR hS.hm.2.2.1 dX11_pair_1 fX11_19 hS.hm.1 ?_
  refine wt_iload_n dX11_pair_4 rfl ?_
  refine wt_callV (as := [_]) (ls0 := [_, _]) (kc := 0) (ks := 0) (bc' := 1) (bs' := 6) dX11_pair_5 vX11_133 hS.pls.1 rfl rfl (Nat.le_of_ble_eq_true rfl) (Nat.le_of_ble_eq_true rfl) (by omega) (by omega) ?_
  refine n_hasPair hS.plan (fun hp => ?_) (fun _ => ?_)
  · refine wt_if_eq (tgt := 21) dX11_pair_8 rfl (fun q => absurd q (by decide)) (fun _ => ?_)
    refine wt_iload_n dX11_pair_11 rfl ?_
    refine wt_if_lt (tgt := 21) dX11_pair_12 rfl (fun _ => t21) (fun h12 => ?_)
    refine wt_iload_n dX11_pair_15 rfl ?_
    refine wt_bipush dX11_pair_16 ?_
    refine wt_icmp_le (tgt := 29) dX11_pair_18 rfl (fun h18 => absurd ⟨hp, by omega, h18⟩ hn) (fun _ => t21)
  · refine wt_if_eq (tgt := 21) dX11_pair_8 rfl (fun _ => t21) (fun q => absurd rfl q)
end PT
