/-! ===== HoppingMeshLaw.pair ===== -/
def lpA (w1 : va_W) (o sz : Nat) : Nat → Prop := fun q => va_A w1 sz q ∨ q = o
def lpPre (D : va_G) (cI cL cA cJ : ClassId) (xd ad : Nat → Nat) (sz : Nat) (sh : aSh) (iv lw : aF) (rv : aP) (o : Nat) (f : Nat → Int64) (U : State) : Prop := U.heap.size = sz ∧ (va_P D vwCl (a_W cI cL cA ad sh iv lw rv) U.heap ∧ va_P D vwCl (wO cJ o f) U.heap) ∧ (va_K D vwCl (aTys cI cL cA) U ∧ va_K D vwCl [(cJ, .long)] U) ∧ (va_D (fun _ => True) (a_W cI cL cA ad sh iv lw rv) ∧ dj (a_W cI cL cA ad sh iv lw rv) (wO cJ o f)) ∧ aEnv xd (lpA (a_W cI cL cA ad sh iv lw rv) o sz) U U.heap ∧ aThE (lpA (a_W cI cL cA ad sh iv lw rv) o sz) U U.heap
def lpQ (D : va_G) (cI cL cA cJ : ClassId) (ad : Nat → Nat) (sz : Nat) (sh : aSh) (iv lw : aF) (rv : aP) (o : Nat) (kv : Int32) (f' : Nat → Int64) : Array Value → State → Outcome → State → Prop := fun _ st oc t =>
  (oc = .returned (some (.int kv)) ∧ (∃ ad' : Nat → Nat, (∀ i, i < sh.length → ad' i = ad i) ∧ va_P D vwCl (a_W cI cL cA ad' sh iv lw rv) t.heap ∧ va_D (va_A (a_W cI cL cA ad sh iv lw rv) sz) (a_W cI cL cA ad' sh iv lw rv)) ∧ va_P D vwCl (wO cJ o f') t.heap) ∧ va_F (lpA (a_W cI cL cA ad sh iv lw rv) o sz) st t
theorem lp_blind {av : List Value} {D : va_G} {cI cL cA cJ : ClassId} {xd ad : Nat → Nat} {sz : Nat} {sh : aSh} {iv lw : aF} {rv : aP} {o : Nat} {f : Nat → Int64} : FrameBlind (va_Pc av (lpPre D cI cL cA cJ xd ad sz sh iv lw rv o f)) := by
  intro a U g mk q
  obtain ⟨q0, q1, qP, ⟨qK, qJ⟩, qD, qE, qT⟩ := q
  exact ⟨q0, q1, qP, ⟨va_K.moved (u := U) (U := U.calling g mk a) (Vm.Alike.refl U.vm) qK, va_K.moved (u := U) (U := U.calling g mk a) (Vm.Alike.refl U.vm) qJ⟩, qD, aEnv.same (u := U) (U := U.calling g mk a) rfl qE, aThE.same (u := U) (U := U.calling g mk a) rfl qT⟩
theorem pt_blind {av : List Value} {D : va_G} {cI cL cA : ClassId} {xd ad : Nat → Nat} {sz : Nat} {sh : aSh} {iv lw : aF} {rv : aP} : FrameBlind (va_Pc av (fun U => aPre D cI cL cA xd ad sz sh iv lw rv U ∧ aThE (va_A (a_W cI cL cA ad sh iv lw rv) sz) U U.heap)) := by
  intro a U g mk q
  obtain ⟨q0, ⟨q1, qP, qK, qD, qE⟩, qT⟩ := q
  exact ⟨q0, ⟨q1, qP, va_K.moved (u := U) (U := U.calling g mk a) (Vm.Alike.refl U.vm) qK, qD, aEnv.same (u := U) (U := U.calling g mk a) rfl qE⟩, aThE.same (u := U) (U := U.calling g mk a) rfl qT⟩
theorem mt_ofWH {l : Launch} {y : MethodName} {ws ws' : List Cond} {rm : Room} {Pc : Array Value → State → Prop} {Qc : Array Value → State → Outcome → State → Prop} {mc ms : Nat} {free : Addr → Prop} {cc : ByteArray} {maxL : Nat} {ret : Option FieldType} {hh : List (Nat × Nat × Nat × Nat)}
    (hy : plainName y.cls = true) (hw : ws = Cond.codeWith y cc maxL ret hh :: ws')
    (body : ∀ p e s m args below meth c s₁, BodyLoose p l y (headSpec ws rm) cc maxL ret e s m args below meth c s₁ → c.maxLocals = maxL → c.exceptionTable.toList = tableOf hh → Pc args s →
      W p l e (headSpec ws rm).room s m args below meth c s.heap [] 0 0 (MQ below Qc args s mc ms free) (entryFrame m args maxL)) : Met l y ws rm Pc Qc mc ms free := by
  refine MetFree.of_bodyS (code := cc) (maxLocals := maxL) (ret := ret) hy ?_ ?_
  · intro args s m h hn
    obtain ⟨m9, meth, c, hn9, h1, h2, h3, h4, -, h5, h6, -⟩ := Cond.codeWith_spec (atoms_spec (ws := ws) h _ (by rw [hw]; exact List.mem_cons_self))
    cases hn.symm.trans hn9
    exact ⟨meth, c, h1, h2, h3, h4, h5, h6⟩
  · intro p e s m args below meth c s₁ B hml hP _
    have hh0 : s₁.heap = s.heap := by rw [B.state]; rfl
    have ht : c.exceptionTable.toList = tableOf hh := vx_table (x := y) B (atoms_spec (ws := ws) B.pre _ (by rw [hw]; exact List.mem_cons_self))
    obtain ⟨t, a1, o, b1, b2, b3⟩ := body p e s m args below meth c s₁ B hml ht hP s₁ hh0 (Stand.of_body B)
    exact ⟨t, o, a1, b1, b2, ⟨b3.1, b3.2⟩⟩
section LP
variable {d : Nat} {pz wz v : Int} {sh : aSh} {iv lw : aF} {rv : aP}
theorem wO_D {A : Nat → Prop} {cJ : ClassId} {o : Nat} {f : Nat → Int64} (h : A o) : va_D A (wO cJ o f) := by
  refine ⟨fun i j p q a b e => ?_, fun k q hk => ?_⟩
  · have h1 : i < 1 := (List.getElem?_eq_some_iff.mp a).1
    have h2 : j < 1 := (List.getElem?_eq_some_iff.mp b).1
    omega
  · have h1 : k < 1 := (List.getElem?_eq_some_iff.mp hk).1
    rw [show k = 0 by omega] at hk
    cases hk
    exact h
set_option maxHeartbeats 4000000 in
theorem lp_N (l : Launch) (hpi : iR pz) (hwi : iR wz) (hsh : sh[0]? = some (3, 11)) (hw : a_wf sh.length iv lw rv) (hk : wp d mX11_pair 0 (a_loc [aR 0, aI pz, aI wz] 3) [] sh iv lw rv 0 0 (fun r sh' iv' lw' rv' => r = some (aI v) ∧ sh' = sh ∧ iv' = iv ∧ lw' = lw ∧ rv' = rv)) (D : va_G) (cI cL cA cJ : ClassId) (xd ad : Nat → Nat) (sz o : Nat) (f : Nat → Int64) :
    Met l yL_pair (Cond.codeWith yL_pair cL_pair 5 (some .int) hL_pair :: aG) (aRoom (d + 1) 0 0) (va_Pc [.ref (ad 0), .int (Int32.ofInt pz), .int (Int32.ofInt wz), .ref o] (lpPre D cI cL cA cJ xd ad sz sh iv lw rv o f)) (lpQ D cI cL cA cJ ad sz sh iv lw rv o 0 (vp_updL f 0 (Int32.ofInt v).toInt64)) 0 0 (lpA (a_W cI cL cA ad sh iv lw rv) o sz) := by
  refine mt_ofWH (cc := cL_pair) (maxL := 5) (ret := some .int) (by decide +kernel) rfl ?_
  intro p e s m args below meth c s₁ B hml htab hv0
  obtain ⟨rfl, hsz, ⟨hP, hPo⟩, ⟨hK, hKJ⟩, ⟨hD0, hdj⟩, hE, hT⟩ := hv0
  subst hsz
  have hts0 := atoms_spec (ws := Cond.codeWith yL_pair cL_pair 5 (some .int) hL_pair :: aG) B.pre
  have hts : ∀ w ∈ aG, w.before _ s = true := fun w h => hts0 w (List.mem_cons_of_mem _ h)
  have hx := B.exec
  have hb : c.code = cL_pair := B.bytes
  have hown : s.vm.findClass RL = some m.cls := findClass_of_methodNamed B.named
  have hl := lv_entry [.ref (ad 0), .int (Int32.ofInt pz), .int (Int32.ofInt wz), .ref o] (n := 5) (Nat.le_of_ble_eq_true rfl)
  rw [lg_entry_eq]
  generalize (lg_sl [.ref (ad 0), .int (Int32.ofInt pz), .int (Int32.ofInt wz), .ref o] ++ List.replicate (5 - (lg_sl [.ref (ad 0), .int (Int32.ofInt pz), .int (Int32.ofInt wz), .ref o]).length) Slot.unset).toArray = jls at hl ⊢
  have hl : lv_has jls 5 [(0, .ref (ad 0)), (1, .int (Int32.ofInt pz)), (2, .int (Int32.ofInt wz)), (3, .ref o)] := hl
  have hA0 : ∀ q, s.heap.size ≤ q → lpA (a_W cI cL cA ad sh iv lw rv) o s.heap.size q := fun q h => Or.inl (Or.inr h)
  have hDs : va_D (lpA (a_W cI cL cA ad sh iv lw rv) o s.heap.size) (a_W cI cL cA ad sh iv lw rv) := ⟨hD0.1, fun k q hk => Or.inl (Or.inl ⟨k, q.2, hk⟩)⟩
  refine lv_aload_n hx hb dL_pair_0 rfl (lv_at hl 3 rfl) ?_
  refine lv_iconst (v := 0) hx hb dL_pair_1 rfl ?_
  refine lv_aload_n hx hb dL_pair_2 rfl (lv_at hl 0 rfl) ?_
  refine lv_iload_n hx hb dL_pair_3 rfl (lv_at hl 1 rfl) ?_
  refine lv_iload_n hx hb dL_pair_4 rfl (lv_at hl 2 rfl) ?_
  refine lq_callV (R := aRoom (d + 1) 0 0) (as := [aI pz, aI wz]) (rest := [.int 0, .ref o]) hx hb hml hown hts hK hE hA0 hP hDs va_S.rf hw hl.1 dL_pair_5 vL_7 hsh (List.forall_mem_cons.mpr ⟨hpi, List.forall_mem_cons.mpr ⟨hwi, fun _ h => by cases h⟩⟩) rfl (Nat.le_of_ble_eq_true rfl) (Nat.le_of_ble_eq_true rfl) (Nat.le_refl _) (by show 64 + 64 * d ≤ 64 * (d + 1); omega) ⟨Nat.le_refl _, Nat.le_refl _⟩ hk (fun ad' r sh' iv' lw' rv' H1 locs1 g0 g1 g2 gP gD gw gk gS => ?_)
  obtain ⟨rfl, rfl, rfl, rfl, rfl⟩ := g2
  refine lv_i2l (v := (Int32.ofInt v).toInt64) hx hb dL_pair_8 rfl ?_
  have qo := fr_P hPo hdj gk
  have dj' := fr_dj hPo hdj gD
  have hDD : va_D (lpA (a_W cI cL cA ad sh' iv' lw' rv') o s.heap.size) (wO cJ o f ++ a_W cI cL cA ad' sh' iv' lw' rv') := (wO_D (Or.inr rfl)).app (gD.weaken (fun _ _ _ h => Or.inl h)) dj'.sym
  refine va_last hx hb hKJ (qo.app gP) hDD gS 0 0 rfl rfl (by intro q; rcases q with q | q <;> exact absurd q (by decide)) dL_pair_9 (fun H2 locs2 hP2 hD2 hS2 => ?_)
  have hP2 : va_P D vwCl (wO cJ o (vp_updL f 0 (Int32.ofInt v).toInt64) ++ a_W cI cL cA ad' sh' iv' lw' rv') H2 := hP2
  refine lv_goto (tgt := 17) hx hb dL_pair_10 rfl ?_
  refine lv_iconst (v := 0) hx hb dL_pair_17 rfl ?_
  refine W.widen (k := 0) (n := 0) (by omega) (by omega) ?_
  exact W.iret hx hb B.returns (fun t ht hW => ⟨⟨rfl, ⟨ad', g0, by rw [ht]; exact (fr_S hP2).2, gD⟩, by rw [ht]; exact (fr_S hP2).1⟩, hS2.F ht⟩) hS2.2.2 dL_pair_18 B.notSynchronized
set_option maxHeartbeats 4000000 in
theorem lp_T (l : Launch) (hl0 : l.stackTraces = false) (hpi : iR pz) (hwi : iR wz) (hsh : sh[0]? = some (3, 11)) (hw : a_wf sh.length iv lw rv) (hk : wt d mX11_pair 0 (a_loc [aR 0, aI pz, aI wz] 3) [] sh iv lw rv 1 6 (fun _ sh' iv' lw' rv' => sh' = sh ∧ iv' = iv ∧ lw' = lw ∧ rv' = rv)) (D : va_G) (cI cL cA cJ : ClassId) (xd ad : Nat → Nat) (sz o : Nat) (f : Nat → Int64) :
    Met l yL_pair (Cond.codeWith yL_pair cL_pair 5 (some .int) hL_pair :: aG) (aRoom (d + 1) 1 6) (va_Pc [.ref (ad 0), .int (Int32.ofInt pz), .int (Int32.ofInt wz), .ref o] (lpPre D cI cL cA cJ xd ad sz sh iv lw rv o f)) (lpQ D cI cL cA cJ ad sz sh iv lw rv o 1 f) 1 6 (lpA (a_W cI cL cA ad sh iv lw rv) o sz) := by
  refine mt_ofWH (cc := cL_pair) (maxL := 5) (ret := some .int) (by decide +kernel) rfl ?_
  intro p e s m args below meth c s₁ B hml htab hv0
  obtain ⟨rfl, hsz, ⟨hP, hPo⟩, ⟨hK, hKJ⟩, ⟨hD0, hdj⟩, hE, hT⟩ := hv0
  subst hsz
  have hts0 := atoms_spec (ws := Cond.codeWith yL_pair cL_pair 5 (some .int) hL_pair :: aG) B.pre
  have hts : ∀ w ∈ aG, w.before _ s = true := fun w h => hts0 w (List.mem_cons_of_mem _ h)
  have hx := B.exec
  have hb : c.code = cL_pair := B.bytes
  have hown : s.vm.findClass RL = some m.cls := findClass_of_methodNamed B.named
  have hl := lv_entry [.ref (ad 0), .int (Int32.ofInt pz), .int (Int32.ofInt wz), .ref o] (n := 5) (Nat.le_of_ble_eq_true rfl)
  rw [lg_entry_eq]
  generalize (lg_sl [.ref (ad 0), .int (Int32.ofInt pz), .int (Int32.ofInt wz), .ref o] ++ List.replicate (5 - (lg_sl [.ref (ad 0), .int (Int32.ofInt pz), .int (Int32.ofInt wz), .ref o]).length) Slot.unset).toArray = jls at hl ⊢
  have hl : lv_has jls 5 [(0, .ref (ad 0)), (1, .int (Int32.ofInt pz)), (2, .int (Int32.ofInt wz)), (3, .ref o)] := hl
  refine lv_aload_n hx hb dL_pair_0 rfl (lv_at hl 3 rfl) ?_
  refine lv_iconst (v := 0) hx hb dL_pair_1 rfl ?_
  refine lv_aload_n hx hb dL_pair_2 rfl (lv_at hl 0 rfl) ?_
  refine lv_iload_n hx hb dL_pair_3 rfl (lv_at hl 1 rfl) ?_
  refine lv_iload_n hx hb dL_pair_4 rfl (lv_at hl 2 rfl) ?_
  obtain ⟨⟨hL1, hL2, hL3, hL4, hL5, hL6⟩, hc1, hc2, C, T9, N, hc3, hc4⟩ := vL_7
  have hg := a_W_get (cI := cI) (cL := cL) (cA := cA) (ad := ad) (iv := iv) (lw := lw) (rv := rv) (a_lt hsh)
  rw [a_cell_3 hsh] at hg
  have hAA : ∀ q, va_A (a_W cI cL cA ad sh iv lw rv) s.heap.size q → lpA (a_W cI cL cA ad sh iv lw rv) o s.heap.size q := fun q h => Or.inl h
  have hM' := a_metT l hl0 (M := mX11_pair) (as := [aR 0, aI pz, aI wz]) plnX11 (Nat.le_of_ble_eq_true rfl) hk D cI cL cA xd ad s.heap.size hw (List.forall_mem_cons.mpr ⟨a_lt hsh, List.forall_mem_cons.mpr ⟨hpi, List.forall_mem_cons.mpr ⟨hwi, fun _ h => by cases h⟩⟩⟩)
  have hrun := vx_runV (g := F0 m 5 jls [.int (Int32.ofInt wz), .int (Int32.ofInt pz), .ref (ad 0), .int 0, .ref o]) (locs := []) (cells := 0) (slots := 0) (As := [.int (Int32.ofInt pz), .int (Int32.ofInt wz)]) (rest := [.int 0, .ref o]) (R := aRoom (d + 1) 1 6) (H := s.heap) (C := C) (e := e) (below := below) (meth := meth) ⟨hx, hb, hml, hown, hts⟩ hM' ⟨⟨rfl, rfl, Nat.le_refl _, (by show 8 + (3 + 11) + 64 * d ≤ 64 * (d + 1); omega), a_ws hts hL5, List.mem_cons_self, hts _ hL5, hts _ hL4, hL2, (fun sig h => by have h2 := hL3; rw [h] at h2; exact (Option.some.inj h2).symm), hts _ hc1⟩, hts _ hc2, hts _ hc4⟩ ⟨pt_blind, va_recv hK hP hc3 hg, fun U hU hW => ⟨rfl, ⟨by rw [hU], by rw [hU]; exact hP, va_K.moved hW.alike hK, hD0, by rw [hU]; exact (hE.narrow hAA).warm hW⟩, by rw [hU]; exact (hT.narrow hAA).warm hW⟩⟩ rfl rfl hl.1 rfl (Nat.le_of_ble_eq_true rfl) dL_pair_5 ⟨Nat.le_refl _, Nat.le_refl _⟩
  intro T hT9 X
  rcases hrun T hT9 X with ⟨v, st₀, t, T', L, h0, X', hL, e1, e2, hF, st⟩ | ⟨q, st₀, t, T', L, E, ce, h0, X', hL, e1, e2, hxc, hce, hcv, hcl, st⟩
  · exact hF.elim
  · obtain ⟨rfl, ⟨ad', sh', iv', lw', rv', g0, g1, ⟨rfl, rfl, rfl, rfl⟩, gP, gD, gw⟩, hz, hk9⟩ := hxc
    rw [h0] at hz hk9
    rw [← e1] at gP hz hk9 hce
    have hS2 : va_S (lpA (a_W cI cL cA ad sh' iv' lw' rv') o s.heap.size) s.heap T'.heap ([] ++ L) := ⟨hz, fun q a b => hk9 q a (fun z => b (Or.inl z)), fun z hz' => Or.inl (hL z hz')⟩
    have hPo2 := fr_P hPo hdj hk9
    have hW9 : vx_W p l e (aRoom (d + 1) 1 6) s m ([.ref (ad 0), .int (Int32.ofInt pz), .int (Int32.ofInt wz), .ref o] : List Value).toArray below meth c T'.heap ([] ++ L) (0 + 1) (0 + 6) (MQ below (lpQ D cI cL cA cJ ad s.heap.size sh' iv' lw' rv' o 1 f) ([.ref (ad 0), .int (Int32.ofInt pz), .int (Int32.ofInt wz), .ref o] : List Value).toArray s 1 6 (lpA (a_W cI cL cA ad sh' iv' lw' rv') o s.heap.size)) (F0 m 5 jls [.int 0, .ref o]) q := by
      refine vx_catch hown [] ⟨0, 10, 13, 13⟩ [] (htab.trans rfl) (fun z hz => by cases hz) rfl (by decide) (hts _ qL_13) (va_Nw.use rfl (hT.1 _ (List.mem_of_getElem? (i := 3) rfl))) hce hcv hcl ?_
      refine lv_astore (lv' := [(4, .ref q), (0, .ref (ad 0)), (1, .int (Int32.ofInt pz)), (2, .int (Int32.ofInt wz)), (3, .ref o)]) hx hb dL_pair_13 hl (by decide) rfl (fun jls' hl' => ?_)
      refine lv_iconst (v := 1) hx hb dL_pair_15 rfl ?_
      refine W.widen (k := 1) (n := 6) (by omega) (by omega) ?_
      exact W.iret hx hb B.returns (fun t ht hW => ⟨⟨rfl, ⟨ad', g0, by rw [ht]; exact gP, gD⟩, by rw [ht]; exact hPo2⟩, hS2.F ht⟩) hS2.2.2 dL_pair_16 B.notSynchronized
    obtain ⟨t2, a1, b1⟩ := hW9 T' rfl X'
    exact ⟨t2, st.trans a1, b1⟩
end LP
