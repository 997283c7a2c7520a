/-! ===== the law's world: the class's cells, the reference's, the row out ===== -/
def dj (u v : va_W) : Prop := ∀ (i j : Nat) (p q : Nat × va_E), u[i]? = some p → v[j]? = some q → p.1 ≠ q.1
theorem fr_l {u v : va_W} {k : Nat} {q : Nat × va_E} (hk : u[k]? = some q) : (u ++ v)[k]? = some q := by rw [List.getElem?_append_left (List.getElem?_eq_some_iff.mp hk).1]; exact hk
theorem fr_r {u v : va_W} {k : Nat} {q : Nat × va_E} (hk : v[k]? = some q) : (u ++ v)[u.length + k]? = some q := by rw [List.getElem?_append_right (by omega), Nat.add_sub_cancel_left]; exact hk
theorem fr_S {D : va_G} {cl : List vw_C} {u v : va_W} {H : Heap} (h : va_P D cl (u ++ v) H) : va_P D cl u H ∧ va_P D cl v H := ⟨fun k q hk => h k q (fr_l hk), fun k q hk => h _ q (fr_r hk)⟩
theorem fr_D {A : Nat → Prop} {u v : va_W} (h : va_D A (u ++ v)) : va_D A u ∧ va_D A v ∧ dj u v := by
  refine ⟨⟨fun i j p q a b e => h.1 i j p q (fr_l a) (fr_l b) e, fun k q hk => h.2 k q (fr_l hk)⟩, ⟨fun i j p q a b e => ?_, fun k q hk => h.2 _ q (fr_r hk)⟩, fun i j p q a b e => ?_⟩
  · have := h.1 _ _ p q (fr_r a) (fr_r b) e; omega
  · have := h.1 _ _ p q (fr_l a) (fr_r b) e
    have h2 := (List.getElem?_eq_some_iff.mp a).1
    omega
theorem fr_n {D : va_G} {cl : List vw_C} {u v : va_W} {H : Heap} {k : Nat} {q : Nat × va_E} (hv : va_P D cl v H) (hd : dj u v) (hq : v[k]? = some q) : ¬ va_A u H.size q.1 := by
  intro h
  rcases h with ⟨j, e, hj⟩ | h
  · exact hd j k _ _ hj hq rfl
  · exact absurd (vx_lt hv hq) (Nat.not_lt.mpr h)
theorem fr_P {D : va_G} {cl : List vw_C} {u v : va_W} {H H1 : Heap} (hv : va_P D cl v H) (hd : dj u v) (hk : ∀ q : Nat, q < H.size → ¬ va_A u H.size q → H1[q]? = H[q]?) : va_P D cl v H1 := hv.kept (fun k q hq => hk q.1 (vx_lt hv hq) (fr_n hv hd hq))
theorem fr_dj {D : va_G} {cl : List vw_C} {u u' v : va_W} {H : Heap} (hv : va_P D cl v H) (hd : dj u v) (hD : va_D (va_A u H.size) u') : dj u' v := fun i j p q a b e => fr_n hv hd b (by rw [← e]; exact hD.2 i p a)
theorem dj.sym {u v : va_W} (h : dj u v) : dj v u := fun i j p q a b e => h j i q p b a e.symm
abbrev wO (cJ : ClassId) (o : Nat) (f : Nat → Int64) : va_W := [(o, .inl (cJ, 1, .inr (.inl f)))]
def LwA (s : State) : Nat → Prop := fun q => s.heap.size ≤ q
def LwC (l : Launch) (p : Program) (s : State) (m : MethodId) (meth : Method) (c : Code) (b L : Nat) (xs : Nat → Int32) (D : va_G) (cI cL cA cJ : ClassId) (xd : Nat → Nat) : Prop :=
  p.tables.exec = Jvm.exec ∧ c.code = code ∧ meth.sig.returnType = ret ∧ c.maxLocals = 7 ∧ s.vm.findClass RL = some m.cls ∧ (∀ w ∈ aG, w.before #[Value.ref b] s = true) ∧ va_K D vwCl (aTys cI cL cA) s ∧ va_K D vwCl [(cJ, .long)] s ∧ aEnv xd (LwA s) s s.heap ∧ aThE (LwA s) s s.heap ∧ va_X b L xs s s.heap ∧ b < s.heap.size ∧ meth.locks = false ∧ l.stackTraces = false
def LwD (D : va_G) (cJ : ClassId) (s : State) (w1 w2 : va_W) (o : Nat) (f : Nat → Int64) (H : Heap) (locs : List Jvm.Loc) : Prop :=
  (va_P D vwCl w1 H ∧ va_P D vwCl w2 H ∧ va_P D vwCl (wO cJ o f) H) ∧ (va_D (LwA s) w1 ∧ va_D (LwA s) w2 ∧ va_D (LwA s) (wO cJ o f)) ∧ (dj w1 w2 ∧ dj w1 (wO cJ o f) ∧ dj w2 (wO cJ o f)) ∧ va_S (LwA s) s.heap H locs
def LwI (D : va_G) (cI cL cA cJ : ClassId) (s : State) (j : Nat) (xx xm o : Nat) (H : Heap) (locs : List Jvm.Loc) (cells slots : Nat) : Prop :=
  ∃ (mm : Nat) (ad1 ad2 : Nat → Nat) (sh : aSh) (iv lw : aF) (rv : aP) (lw2 E : aF) (F N G O T S : Int → Int) (f : Nat → Int64), ad1 0 = xx ∧ ad2 0 = xm ∧ LwD D cJ s (a_W cI cL cA ad1 sh iv lw rv) (a_W cI cL cA ad2 SHR (ST E F N G O T S) lw2 RVR) o f H locs ∧ a_wf sh.length iv lw rv ∧ a_wf SHR.length (ST E F N G O T S) lw2 RVR ∧ Sim j mm sh iv rv E F N ∧ cells ≤ 200 + mm + 2 * j ∧ slots ≤ 60000 + 429 * mm + 12 * j
theorem LwI.S {D : va_G} {cI cL cA cJ : ClassId} {s : State} {j xx xm o : Nat} {H : Heap} {locs : List Jvm.Loc} {cells slots : Nat} (h : LwI D cI cL cA cJ s j xx xm o H locs cells slots) : va_S (LwA s) s.heap H locs := by
  obtain ⟨mm, ad1, ad2, sh, iv, lw, rv, lw2, E, F, N, G, O, T, S, f, -, -, hD, -⟩ := h
  exact hD.2.2.2
theorem ok_i (x : Int32) : a_ok 0 (aI x.toInt) := ⟨Int32.le_toInt _, Int32.toInt_lt _⟩
theorem ok_l (x : Int64) : a_ok 0 (aL x.toInt) := ⟨Int64.le_toInt _, Int64.toInt_lt _⟩
section LWC
variable {p : Program} {l : Launch} {e : Env} {R : Room} {s : State} {m : MethodId} {args : Array Value} {below : List Frame} {meth : Method} {c : Code} {D : va_G} {cI cL cA cJ : ClassId} {xd : Nat → Nat} {H : Heap} {locs : List Jvm.Loc} {cells slots : Nat} {Q : State → Prop} {jls : Array Slot} {pc : Nat} {A0 : Nat → Prop}
theorem lw_cont {kc ks : Nat} {stk rest : List Value} {ad : Nat → Nat} {n1 : Nat} {A1 : Nat → Prop} {R' : aPost} {a : Array Value}
    (hr : va_Run p l e R s m args below meth c H locs cells slots kc ks (F0 m pc jls stk) rest (aQ D cI cL cA xd ad n1 A1 R' a) A1) (hS : va_S A0 s.heap H locs) (hA : ∀ q, A1 q → A0 q)
    (kk : ∀ (ad' : Nat → Nat) (r : Option aV) (sh : aSh) (iv lw : aF) (rv : aP) (H1 : Heap) (locs1 : List Jvm.Loc), (∀ i, i < n1 → ad' i = ad i) → n1 ≤ sh.length → R' r sh iv lw rv → va_P D vwCl (a_W cI cL cA ad' sh iv lw rv) H1 → va_D A1 (a_W cI cL cA ad' sh iv lw rv) → a_wf sh.length iv lw rv → (∀ q : Nat, q < H.size → ¬ A1 q → H1[q]? = H[q]?) → va_S A0 s.heap H1 locs1 →
      W p l e R s m args below meth c H1 locs1 (cells + kc) (slots + ks) Q (F0 m (pc + 3) jls ((r.map (a_val ad' xd)).toList ++ rest))) : W p l e R s m args below meth c H locs cells slots Q (F0 m pc jls stk) := by
  intro T hT X
  obtain ⟨v, st₀, t, T', L, h0, X', hL, e1, e2, ⟨⟨ad', r, sh, iv, lw, rv, g1, g2, hv, g3, g4, g5, g6, g7⟩, hz, hk⟩, st⟩ := hr T hT X
  cases hv
  rw [h0] at hz hk
  obtain ⟨t2, a1, b1⟩ := kk ad' r sh iv lw rv T'.heap (locs ++ L) g1 g2 g3 (by rw [e1]; exact g4) g5 g6 (fun q h1 h2 => by rw [e1]; exact hk q h1 h2)
    ⟨Nat.le_trans hS.1 (by rw [e1]; exact hz), fun q h1 h2 => by rw [e1, hk q (Nat.lt_of_lt_of_le h1 hS.1) (fun z => h2 (hA q z))]; exact hS.2.1 q h1 h2, fun q hq => by
      rcases List.mem_append.mp hq with h | h
      · exact hS.2.2 q h
      · exact hA _ (hL q h)⟩ T' rfl X'
  exact ⟨t2, st t2 a1, b1⟩
/-- a call of a method of the class or of the reference, out of a method of the law's class -/
theorem lq_callV {d idx ci kc ks nL : Nat} {cc : ByteArray} {M' : aMth} {as : List aV} {sh : aSh} {iv lw : aF} {rv : aP} {ad : Nat → Nat} {stk rest : List Value} {R' : aPost}
    (hx : p.tables.exec = Jvm.exec) (hb : c.code = cc) (hml : c.maxLocals = nL) (hown : s.vm.findClass RL = some m.cls) (hts : ∀ w ∈ aG, w.before args s = true) (hK : va_K D vwCl (aTys cI cL cA) s) (hE : aEnv xd A0 s s.heap) (hA0 : ∀ q, s.heap.size ≤ q → A0 q)
    (hP : va_P D vwCl (a_W cI cL cA ad sh iv lw rv) H) (hDs : va_D A0 (a_W cI cL cA ad sh iv lw rv)) (hS : va_S A0 s.heap H locs) (hw : a_wf sh.length iv lw rv) (hjl : jls.size = nL)
    (hd : decode cc pc = .ok (.invokevirtual idx, 3)) (hcl : a_cv RL idx ci M' as.length) (hsh : sh[0]? = some (3, ci)) (hoas : ∀ v ∈ as, a_ok 0 v) (hstk : stk = (as.map (a_val ad xd)).reverse ++ .ref (ad 0) :: rest) (hlen : (a_ent (aR 0 :: as)).length ≤ M'.2.2.1) (hwt : (rest.map (fun v => v.category)).sum ≤ 8) (hfr : d + 1 ≤ R.frames) (hlo : 64 + 64 * d ≤ R.locals) (hf : cells + kc ≤ R.cells ∧ slots + ks ≤ R.slots)
    (k : wp d M' 0 (a_loc (aR 0 :: as) M'.2.2.1) [] sh iv lw rv kc ks R')
    (kk : ∀ (ad' : Nat → Nat) (r : Option aV) (sh' : aSh) (iv' lw' : aF) (rv' : aP) (H1 : Heap) (locs1 : List Jvm.Loc), (∀ i, i < sh.length → ad' i = ad i) → sh.length ≤ sh'.length → R' r sh' iv' lw' rv' → va_P D vwCl (a_W cI cL cA ad' sh' iv' lw' rv') H1 → va_D (va_A (a_W cI cL cA ad sh iv lw rv) H.size) (a_W cI cL cA ad' sh' iv' lw' rv') → a_wf sh'.length iv' lw' rv' → (∀ q : Nat, q < H.size → ¬ va_A (a_W cI cL cA ad sh iv lw rv) H.size q → H1[q]? = H[q]?) → va_S A0 s.heap H1 locs1 →
      W p l e R s m args below meth c H1 locs1 (cells + kc) (slots + ks) Q (F0 m (pc + 3) jls ((r.map (a_val ad' xd)).toList ++ rest))) : W p l e R s m args below meth c H locs cells slots Q (F0 m pc jls stk) := by
  subst hstk
  obtain ⟨⟨hL1, hL2, hL3, hL4, hL5, hL6⟩, hc1, hc2, C, T, N, hc3, hc4⟩ := hcl
  have hoas' : ∀ v ∈ (aR 0 :: as), a_ok sh.length v := by
    intro v hv
    rcases List.mem_cons.mp hv with rfl | hv
    · exact a_lt hsh
    · exact a_ok_mono (Nat.zero_le _) (hoas _ hv)
  have hg := a_W_get (cI := cI) (cL := cL) (cA := cA) (ad := ad) (iv := iv) (lw := lw) (rv := rv) (a_lt hsh)
  rw [a_cell_3 hsh] at hg
  have hAA : ∀ q, va_A (a_W cI cL cA ad sh iv lw rv) H.size q → A0 q := by
    intro q hq
    rcases hq with ⟨k, e, hk⟩ | hq
    · exact hDs.2 k _ hk
    · exact hA0 q (Nat.le_trans hS.1 hq)
  have hEH : aEnv xd (va_A (a_W cI cL cA ad sh iv lw rv) H.size) s H := (hE.kept (fun q a b => hS.2.1 q a b)).narrow hAA
  have hM' := a_met l (as := aR 0 :: as) hL1 hlen k D cI cL cA xd ad H.size hw hoas'
  have hrun := va_runV (g := F0 m pc jls ((as.map (a_val ad xd)).reverse ++ .ref (ad 0) :: rest)) (cells := cells) (slots := slots) (locs := locs) (As := as.map (a_val ad xd)) (rest := rest) (R := R) (H := H) (C := C) (e := e) (below := below) (meth := meth) ⟨hx, hb, hml, hown, hts⟩ hM' ⟨⟨rfl, rfl, hfr, (by show 8 + (M'.2.2.1 + 11) + 64 * d ≤ R.locals; omega), a_ws hts hL5, List.mem_cons_self, hts _ hL5, hts _ hL4, hL2, (fun sig h => by have h2 := hL3; rw [h] at h2; exact (Option.some.inj h2).symm), hts _ hc1⟩, hts _ hc2, hts _ hc4⟩ ⟨a_blind, va_recv hK hP hc3 hg, fun U hU hW => ⟨rfl, by rw [hU], by rw [hU]; exact hP, va_K.moved hW.alike hK, hDs.weaken (fun _ _ _ _ => trivial), by rw [hU]; exact hEH.warm hW⟩⟩ rfl (by rw [List.length_map]) hjl rfl (by rw [show (F0 m pc jls ((as.map (a_val ad xd)).reverse ++ .ref (ad 0) :: rest)).monitorRoom = 0 from rfl]; omega) hd hf
  exact lw_cont hrun hS hAA kk
/-- a constructor -/
theorem lq_callI {d idx kc ks nL : Nat} {cc : ByteArray} {M' : aMth} {sh : aSh} {iv lw : aF} {rv : aP} {ad : Nat → Nat} {rest : List Value} {R' : aPost}
    (hx : p.tables.exec = Jvm.exec) (hb : c.code = cc) (hml : c.maxLocals = nL) (hown : s.vm.findClass RL = some m.cls) (hts : ∀ w ∈ aG, w.before args s = true) (hK : va_K D vwCl (aTys cI cL cA) s) (hE : aEnv xd A0 s s.heap) (hA0 : ∀ q, s.heap.size ≤ q → A0 q)
    (hP : va_P D vwCl (a_W cI cL cA ad sh iv lw rv) H) (hDs : va_D A0 (a_W cI cL cA ad sh iv lw rv)) (hS : va_S A0 s.heap H locs) (hw : a_wf sh.length iv lw rv) (hjl : jls.size = nL)
    (hd : decode cc pc = .ok (.invokespecial idx, 3)) (hcl : a_ci RL idx M' 0) (hn0 : 0 < sh.length) (hlen : (a_ent [aR 0]).length ≤ M'.2.2.1) (hwt : (rest.map (fun v => v.category)).sum ≤ 8) (hfr : d + 1 ≤ R.frames) (hlo : 64 + 64 * d ≤ R.locals) (hf : cells + kc ≤ R.cells ∧ slots + ks ≤ R.slots)
    (k : wp d M' 0 (a_loc [aR 0] M'.2.2.1) [] sh iv lw rv kc ks R')
    (kk : ∀ (ad' : Nat → Nat) (r : Option aV) (sh' : aSh) (iv' lw' : aF) (rv' : aP) (H1 : Heap) (locs1 : List Jvm.Loc), (∀ i, i < sh.length → ad' i = ad i) → sh.length ≤ sh'.length → R' r sh' iv' lw' rv' → va_P D vwCl (a_W cI cL cA ad' sh' iv' lw' rv') H1 → va_D (va_A (a_W cI cL cA ad sh iv lw rv) H.size) (a_W cI cL cA ad' sh' iv' lw' rv') → a_wf sh'.length iv' lw' rv' → (∀ q : Nat, q < H.size → ¬ va_A (a_W cI cL cA ad sh iv lw rv) H.size q → H1[q]? = H[q]?) → va_S A0 s.heap H1 locs1 →
      W p l e R s m args below meth c H1 locs1 (cells + kc) (slots + ks) Q (F0 m (pc + 3) jls ((r.map (a_val ad' xd)).toList ++ rest))) : W p l e R s m args below meth c H locs cells slots Q (F0 m pc jls (.ref (ad 0) :: rest)) := by
  obtain ⟨⟨hL1, hL2, hL3, hL4, hL5, hL6⟩, hc1, hc2, hc3, hc4⟩ := hcl
  have hoas' : ∀ v ∈ ([aR 0] : List aV), a_ok sh.length v := by
    intro v hv
    rcases List.mem_cons.mp hv with rfl | hv
    · exact hn0
    · cases hv
  have hAA : ∀ q, va_A (a_W cI cL cA ad sh iv lw rv) H.size q → A0 q := by
    intro q hq
    rcases hq with ⟨k, e, hk⟩ | hq
    · exact hDs.2 k _ hk
    · exact hA0 q (Nat.le_trans hS.1 hq)
  have hEH : aEnv xd (va_A (a_W cI cL cA ad sh iv lw rv) H.size) s H := (hE.kept (fun q a b => hS.2.1 q a b)).narrow hAA
  have hM' := a_met l (as := [aR 0]) hL1 hlen k D cI cL cA xd ad H.size hw hoas'
  have hrun := va_runI (g := F0 m pc jls (.ref (ad 0) :: rest)) (cells := cells) (slots := slots) (locs := locs) (As := []) (b := ad 0) (rest := rest) (R := R) (H := H) (e := e) (below := below) (meth := meth) ⟨hx, hb, hml, hown, hts⟩ hM' ⟨⟨rfl, rfl, hfr, (by show 8 + (M'.2.2.1 + 11) + 64 * d ≤ R.locals; omega), a_ws hts hL5, (by rw [hc4]; exact List.mem_cons_self), (by have := hts _ hL5; rwa [hc4] at this), hts _ hL4, hL2, (fun sig h => by have h2 := hL3; rw [h] at h2; exact (Option.some.inj h2).symm), hts _ hc1⟩, hc3, hts _ hc2⟩ ⟨a_blind, fun U hU hW => ⟨rfl, by rw [hU], by rw [hU]; exact hP, va_K.moved hW.alike hK, hDs.weaken (fun _ _ _ _ => trivial), by rw [hU]; exact hEH.warm hW⟩⟩ rfl rfl hjl rfl (by rw [show (F0 m pc jls (.ref (ad 0) :: rest)).monitorRoom = 0 from rfl]; omega) hd hf
  exact lw_cont hrun hS hAA kk
end LWC
section LWT
variable {p : Program} {l : Launch} {e : Env} {s : State} {m : MethodId} {below : List Frame} {meth : Method} {c : Code} {b L : Nat} {xs : Nat → Int32} {D : va_G} {cI cL cA cJ : ClassId} {xd : Nat → Nat} {H : Heap} {locs : List Jvm.Loc} {cells slots : Nat} {Q : State → Prop} {jls : Array Slot} {pc i j xx xm o : Nat}
/-- the law's locals at the head of its loop -/
abbrev LwL (jls : Array Slot) (b xx xm o i : Nat) : Prop := lv_has jls 7 [(4, .int (Int32.ofInt (i : Int))), (3, .ref o), (2, .ref xm), (1, .ref xx), (0, .ref b)]
theorem lw_ii {i k : Nat} (h : i + k < 4000) : (Int32.ofInt (i : Int) + Int32.ofInt (k : Int)).toNatClampNeg = i + k := by
  rw [← Int32.ofInt_add]
  show (Int32.ofInt ((i : Int) + (k : Int))).toInt.toNat = i + k
  rw [a_toInt ⟨by omega, by omega⟩]
  omega
theorem lw_i0 {i : Nat} (h : i < 4000) : (Int32.ofInt (i : Int)).toNatClampNeg = i := by
  show (Int32.ofInt (i : Int)).toInt.toNat = i
  rw [a_toInt ⟨by omega, by omega⟩]
  omega
theorem lw_nn {x : Int32} {n : Nat} (h : x.toNatClampNeg = n) (h0 : 0 ≤ x.toInt) {L : Nat} (hn : n < L) : vp_in x L := by
  intro q
  rcases q with q | q
  · rw [Int32.lt_iff_toInt_lt] at q
    have : (0 : Int32).toInt = 0 := rfl
    omega
  · omega
/-- script[i + k] onto the stack -/
theorem lw_arg {k : Nat} {kz : Int} {st : List Value} (hC : LwC l p s m meth c b L xs D cI cL cA cJ xd) (hL : L ≤ 3072) (hl : LwL jls b xx xm o i) (hS : va_S (LwA s) s.heap H locs) (hk : kz = (k : Int)) (hi : i + k < L)
    (d0 : decode code pc = .ok (.aload_n 0, 1)) (d1 : decode code (pc + 1) = .ok (.iload 4, 2)) (d3 : decode code (pc + 3) = .ok (.iconst kz, 1)) (d4 : decode code (pc + 4) = .ok (.iadd, 1)) (d5 : decode code (pc + 5) = .ok (.iaload, 1))
    (kk : W p l e room_1 s m #[Value.ref b] below meth c H locs cells slots Q (F0 m (pc + 6) jls (.int (Int32.ofInt (xs (i + k)).toInt) :: st))) : W p l e room_1 s m #[Value.ref b] below meth c H locs cells slots Q (F0 m pc jls st) := by
  obtain ⟨hx, hb, hr, hml, hown, hts, hK, hKJ, hE, hT, hX, hbl, hlk, hst⟩ := hC
  subst hk
  refine lv_aload_n hx hb d0 rfl (lv_at hl 4 rfl) ?_
  refine lv_iload hx hb d1 (lv_at hl 0 rfl) ?_
  refine lv_iconst hx hb d3 rfl ?_
  refine lv_iadd hx hb d4 ?_
  have e1 : (Int32.ofInt (i : Int) + Int32.ofInt (k : Int)).toNatClampNeg = i + k := lw_ii (by omega)
  refine va_sld (A := LwA s) hx hb hX hbl (Nat.not_le.mpr hbl) hS (lw_nn e1 (by rw [← Int32.ofInt_add, a_toInt ⟨by omega, by omega⟩]; omega) hi) d5 ?_
  rw [e1]
  rw [Int32.ofInt_toInt] at kk
  exact kk
/-- the two calls of a case, and what the law compares -/
theorem lw_two {M1 M2 : aMth} {idx1 idx2 pc1 pc2 : Nat} {off : Int} {as : List aV} {vs : List Value} (hC : LwC l p s m meth c b L xs D cI cL cA cJ xd) (hj : j + 1 ≤ 600) (hjl : jls.size = 7) (hI : LwI D cI cL cA cJ s j xx xm o H locs cells slots)
    (hd1 : decode code pc1 = .ok (.invokevirtual idx1, 3)) (hcl1 : a_cv RL idx1 11 M1 as.length) (hd2 : decode code pc2 = .ok (.invokevirtual idx2, 3)) (hcl2 : a_cv RL idx2 12 M2 as.length) (hoas : ∀ v ∈ as, a_ok 0 v) (hlen1 : (a_ent (aR 0 :: as)).length ≤ M1.2.2.1) (hlen2 : (a_ent (aR 0 :: as)).length ≤ M2.2.2.1) (hdc : decode code (pc2 + 3) = .ok (.if_icmp .eq off, 3)) (ht : ((pc2 + 3 : Nat) : Int) + off = ((1345 : Nat) : Int)) (hvs : ∀ ad : Nat → Nat, (as.map (a_val ad xd)).reverse = vs)
    (hst : ∀ (c : Int) (m : Nat) (sh : aSh) (iv lw : aF) (rv : aP) (lw2 E : aF) (F N G O T S : Int → Int), c + 1 ≤ 600 → Sim c m sh iv rv E F N → LwStp M1 M2 as c m sh iv lw rv lw2 E F N G O T S)
    (mid : ∀ (v : Int32) (H' : Heap) (locs' : List Jvm.Loc) (cells' slots' : Nat), va_S (LwA s) s.heap H' locs' → W p l e room_1 s m #[Value.ref b] below meth c H' locs' cells' slots' Q (F0 m pc2 jls (vs ++ [.ref xm, .int v])) → W p l e room_1 s m #[Value.ref b] below meth c H' locs' cells' slots' Q (F0 m (pc1 + 3) jls [.int v]))
    (kk : ∀ (H' : Heap) (locs' : List Jvm.Loc) (cells' slots' : Nat), LwI D cI cL cA cJ s (j + 1) xx xm o H' locs' cells' slots' → W p l e room_1 s m #[Value.ref b] below meth c H' locs' cells' slots' Q (F0 m 1345 jls [])) : W p l e room_1 s m #[Value.ref b] below meth c H locs cells slots Q (F0 m pc1 jls (vs ++ [.ref xx])) := by
  obtain ⟨mm, ad1, ad2, sh, iv, lw, rv, lw2, E, F, N, G, O, T, S, f, hx1, hx2, hD, hw1, hw2, hSim, hc, hs⟩ := hI
  obtain ⟨v, bq, Tr, hbq, h1, h2⟩ := hst j mm sh iv lw rv lw2 E F N G O T S (by omega) hSim
  obtain ⟨⟨p1, p2, p3⟩, ⟨d1, d2, d3⟩, ⟨j12, j13, j23⟩, hS⟩ := id hD
  obtain ⟨hx, hb, hr, hml, hown, hts, hK, hKJ, hE, hT, hX, hbl, hlk, hstt⟩ := id hC
  have hm40 := hSim.made.2.1
  refine lq_callV (rest := []) hx hb hml hown hts hK hE (fun q h => h) p1 d1 hS hw1 hjl hd1 hcl1 hSim.hm.1 hoas (by rw [hvs, hx1]) hlen1 (Nat.le_of_ble_eq_true rfl) (Nat.le_of_ble_eq_true rfl) (Nat.le_of_ble_eq_true rfl) ⟨by show cells + bq ≤ 601024; omega, by show slots + 429 * bq ≤ 7293033; omega⟩ h1 (fun ad1' r sh' iv' lw' rv' H1 locs1 g0 g1 g2 gP gD gw gk gS => ?_)
  obtain ⟨rfl, hTr⟩ := g2
  have q2 := fr_P p2 j12 gk
  have q3 := fr_P p3 j13 gk
  have j12' := fr_dj p2 j12 gD
  have j13' := fr_dj p3 j13 gD
  have d1' : va_D (LwA s) (a_W cI cL cA ad1' sh' iv' lw' rv') := gD.weaken (fun k q hk h => by
    rcases h with ⟨k, e, hk⟩ | hq
    · exact d1.2 k (q.1, e) hk
    · exact Nat.le_trans hS.1 hq)
  refine mid (Int32.ofInt v) H1 locs1 _ _ gS ?_
  refine lq_callV (rest := [.int (Int32.ofInt v)]) hx hb hml hown hts hK hE (fun q h => h) q2 d2 gS hw2 hjl hd2 hcl2 rfl hoas (by rw [hvs, hx2]) hlen2 (Nat.le_of_ble_eq_true rfl) (Nat.le_of_ble_eq_true rfl) (Nat.le_of_ble_eq_true rfl) ⟨by show cells + bq + 0 ≤ 601024; omega, by show slots + 429 * bq + 0 ≤ 7293033; omega⟩ h2 (fun ad2' r2 sh2 iv2 lw2' rv2 H2 locs2 k0 k1 k2 kP kD kw kq kS => ?_)
  obtain ⟨rfl, rfl, rfl, E', F', N', G', O', T', S', rfl, hTT⟩ := k2
  have d2' : va_D (LwA s) (a_W cI cL cA ad2' SHR (ST E' F' N' G' O' T' S') lw2' RVR) := kD.weaken (fun k q hk h => by
    rcases h with ⟨k, e, hk⟩ | hq
    · exact d2.2 k (q.1, e) hk
    · exact Nat.le_trans gS.1 hq)
  refine lv_icmp_eq (tgt := 1345) hx hb hdc ht (fun _ => ?_) (fun z => absurd rfl z)
  have r1 := fr_P gP j12'.sym kq
  have r3 := fr_P q3 j23 kq
  exact kk H2 locs2 _ _ ⟨mm + bq, ad1', ad2', sh', iv', lw', rv', lw2', E', F', N', G', O', T', S', f, (g0 0 (a_lt hSim.hm.1)).trans hx1, (k0 0 (Nat.le_of_ble_eq_true rfl)).trans hx2, ⟨⟨r1, kP, r3⟩, ⟨d1', d2', d3⟩, ⟨(fr_dj gP j12'.sym kD).sym, j13', fr_dj q3 j23 kD⟩, kS⟩, gw, kw, by have := hTr E' F' N' hTT; rwa [show ((j + 1 : Nat) : Int) = (j : Int) + 1 by omega], by omega, by omega⟩
end LWT
