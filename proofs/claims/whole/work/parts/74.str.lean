section STRc
variable {p : Program} {l : Launch} {e : Env} {R : Room} {s : State} {m : MethodId} {args : Array Value} {below : List Frame} {meth : Method} {c : Code} {H : Heap} {locs : List Jvm.Loc} {cells slots : Nat} {Q : State → Prop} {cc : ByteArray} {pc : Nat} {ls : Array Slot} {rest : List Value} {D : va_G} {cl : List vw_C} {A : Nat → Prop} {a : Nat} {tys : List (ClassId × FieldType)} {ws : va_W}
/-- an int row of the file, read only, is copied into a row of the world -/
theorem b_copy (hexec : p.tables.exec = Jvm.exec) (hb : c.code = cc) (hml : c.maxLocals = ls.size) {own : String} {index : Nat} (hown : s.vm.findClass own = some m.cls) (hlink : (Cond.methodLink own index arraycopyName).before args s = true) (hnat : (Cond.native arraycopyName).before args s = true) (hstat : (Cond.static arraycopyName).before args s = true) (hini : (Cond.initialized "java/lang/System").before args s = true)
    (hK : va_K D cl tys s) (hP : va_P D cl ws H) (hD : va_D A ws) (hS : va_S A s.heap H locs) {b0 n0 : Nat} {f : Nat → Int32} (hX : va_T .int b0 n0 (fun j => .int (f j)) A s s.heap) (q1 t1 : Nat) {c1 : ClassId} {n1 : Nat} {g : Nat → Int32} (ha1 : ws[q1]? = some (a, .inl (c1, n1, .inl g))) (ht1 : tys[t1]? = some (c1, .int))
    {sp dp n : Int32} (h1 : ¬ sp < 0) (h2 : ¬ dp < 0) (h3 : ¬ n < 0) (h4 : sp.toNatClampNeg + n.toNatClampNeg ≤ n0) (h5 : dp.toNatClampNeg + n.toNatClampNeg ≤ n1)
    (hframes : 1 ≤ R.frames) (hlocals : (rest.map fun v => v.category).sum + (nativeFrameWords "java/lang/System" "arraycopy" 5 + 11) ≤ R.locals) (hdg : decode cc pc = .ok (.invokestatic index, 3))
    (kk : ∀ (H1 : Heap) (locs1 : List Jvm.Loc), va_P D cl (ws.set q1 (a, .inl (c1, n1, .inl (va_cpy f g sp.toNatClampNeg dp.toNatClampNeg n.toNatClampNeg)))) H1 → va_D A (ws.set q1 (a, .inl (c1, n1, .inl (va_cpy f g sp.toNatClampNeg dp.toNatClampNeg n.toNatClampNeg)))) → va_S A s.heap H1 locs1 → W p l e R s m args below meth c H1 locs1 cells slots Q (F0 m (pc + 3) ls rest)) : W p l e R s m args below meth c H locs cells slots Q (F0 m pc ls (.int n :: .int dp :: .ref a :: .int sp :: .ref b0 :: rest)) := by
  have nn : ∀ z : Int32, ¬ z < 0 → z.toInt = (z.toNatClampNeg : Int) := by
    intro z hz
    have hz0 : (0 : Int) ≤ z.toInt := by
      have := Int32.not_lt.mp hz
      simpa using Int32.le_iff_toInt_le.mp this
    show z.toInt = ((z.toInt.toNat : Nat) : Int)
    omega
  intro T hT X
  obtain ⟨ro, r1, r2, r3, r4, -, r5, r7⟩ := hX
  have hc0 : H[b0]? = some ro := by rw [hS.2.1 b0 (Array.getElem?_eq_some_iff.mp r1).1 r7]; exact r1
  have hc1 : H[a]? = some (vp_cell c1 (n1, .inl g)) := hP q1 _ ha1
  obtain ⟨r6, k0, hk0, cm0, hkk0⟩ := r2
  obtain ⟨-, k1, hk1, cm1, hkk1⟩ := (hK.2 t1 _ ht1).1 n1 (fun j => .int (g j))
  obtain ⟨vm', X', step⟩ := X.arraycopy hexec hown hlink hnat hstat hini (src := b0) (dst := a) (cs := ro) (cd := vp_cell c1 (n1, .inl g)) (srcPos := sp) (destPos := dp) (n := n) (by rw [hT]; exact hc0) (by rw [hT]; exact hc1)
    r6 (fun _ h => by cases h) r3 (fun h => by cases h) hk0 hk1 hkk0 hkk1 (by simp [refKind]) h1 h2 h3
    (by rw [nn sp h1, nn n h3]; omega)
    (by rw [nn dp h2, nn n h3]; show ¬ _ > ((arrV c1 n1 (fun j => .int (g j))).slots.size : Int); rw [arrV_size]; omega)
    (fun vm₁ _ i hi => by
      have e : ro.slots.getD (sp.toNatClampNeg + i) .null = .int (f (sp.toNatClampNeg + i)) := by
        rw [Array.getD_eq_getD_getElem?, r5 _ (by omega)]
        rfl
      rw [e]
      exact ⟨rfl, trivial⟩)
    (g := F0 m pc ls (.int n :: .int dp :: .ref a :: .int sp :: .ref b0 :: rest)) rfl (by rw [hml]) (rest := rest) rfl (by rw [hb]; exact hdg) hframes (by show 2 * 0 + _ + _ ≤ _; omega)
  have e1 : copied ro (vp_cell c1 (n1, .inl g)) sp dp n = vp_cell c1 (n1, .inl (va_cpy f g sp.toNatClampNeg dp.toNatClampNeg n.toNatClampNeg)) := va_copiedX (fun z => .int z) ro c1 f g r5 h4
  rw [e1] at X' step
  have hl : a < H.size := (Array.getElem?_eq_some_iff.mp hc1).1
  have hheap : ((T.setVm vm').setCell a (vp_cell c1 (n1, .inl (va_cpy f g sp.toNatClampNeg dp.toNatClampNeg n.toNatClampNeg)))).heap = H.setIfInBounds a (vp_cell c1 (n1, .inl (va_cpy f g sp.toNatClampNeg dp.toNatClampNeg n.toNatClampNeg))) := by rw [← hT]; rfl
  have oq : ∀ q : Nat, q ≠ a → (H.setIfInBounds a (vp_cell c1 (n1, .inl (va_cpy f g sp.toNatClampNeg dp.toNatClampNeg n.toNatClampNeg))))[q]? = H[q]? := fun q hq => by simp [Array.getElem?_setIfInBounds, Ne.symm hq]
  obtain ⟨t, a1, b1⟩ := kk _ _ (hP.set hD ha1 (show (H.setIfInBounds a _)[a]? = some _ by simp [Array.getElem?_setIfInBounds, hl]) oq) (hD.set ha1) ⟨by simp; exact hS.1, fun q g1 g2 => by
      rw [oq q (fun e => g2 (by rw [e]; exact hD.2 q1 _ ha1))]
      exact hS.2.1 q g1 g2, fun q hq => by
      rcases List.mem_append.mp hq with h | h
      · exact hS.2.2 q h
      · obtain ⟨z, -, hz⟩ := List.mem_map.mp h
        rw [← hz]
        exact hD.2 q1 _ ha1⟩ _ hheap X'
  exact ⟨t, step t a1, b1⟩
end STRc
section STRa
variable {d : Nat} {M : aMth} {pc : Nat} {ls ls0 : List (Option aV)} {st stk as : List aV} {sh : aSh} {iv lw : aF} {rv : aP} {bc bs bc' bs' kc ks : Nat} {R : aPost}
def a_cx (own : String) (idx : Nat) (M' : aMth) (n : Nat) : Prop := a_lnk M' n ∧ Cond.methodLink own idx M'.1 ∈ aG ∧ Cond.instanceMethod M'.1 ∈ aG ∧ Cond.selects "java/lang/String" M'.1 M'.1 ∈ aG
theorem wp_callX {idx i : Nat} {M' : aMth} (hd : decode M.2.1 pc = .ok (.invokevirtual idx, 3)) (hcl : a_cx M.1.cls idx M' as.length) (hi : i < 2) (hstk : stk = as.reverse ++ aX (6 + i) :: st) (hls : a_loc (aX (6 + i) :: as) M'.2.2.1 = ls0) (hlen : (a_ent (aX (6 + i) :: as)).length ≤ M'.2.2.1 := by exact Nat.le_of_ble_eq_true rfl) (hwt : (st.map (fun v => (a_val id id v).category)).sum ≤ 8 := by exact Nat.le_of_ble_eq_true rfl) (hbc : kc + bc' ≤ bc) (hbs : ks + bs' ≤ bs)
    (k : wp d M' 0 ls0 [] sh iv lw rv kc ks (fun r sh iv lw rv => wp (d + 1) M (pc + 3) ls (a_psh r st) sh iv lw rv bc' bs' R)) : wp (d + 1) M pc ls stk sh iv lw rv bc bs R := by
  intro p l e s m args below meth c D cI cL cA xd A mc ms ad0 n0 hC ad H locs cells slots jls hD
  obtain ⟨hx, hb, hml, hr, hlk, hown, hnm, hts, hK, hE, hA⟩ := id hC
  obtain ⟨h1, h2, hP, hDs, hS, hc, hs, hl, hw, ho, hol⟩ := hD
  subst hstk
  subst hls
  obtain ⟨⟨hL1, hL2, hL3, hL4, hL5, hL6⟩, hc1, hc2, hc4⟩ := hcl
  have hoas : ∀ v ∈ (aX (6 + i) :: as), a_ok sh.length v := by
    intro v hv
    rcases List.mem_cons.mp hv with rfl | hv
    · exact ho _ (by simp)
    · exact ho _ (by simp [hv])
  have host : ∀ v ∈ st, a_ok sh.length v := fun v hv => ho v (by simp [hv])
  have hAA : ∀ q, va_A (a_W cI cL cA ad sh iv lw rv) H.size q → A q := by
    intro q hq
    rcases hq with ⟨k, e, hk⟩ | hq
    · exact hDs.2 k _ hk
    · exact hA q (Nat.le_trans hS.1 hq)
  have hEH : aEnv xd (va_A (a_W cI cL cA ad sh iv lw rv) H.size) s H := (hE.kept (fun q a b => hS.2.1 q a b)).narrow hAA
  have hM' := a_met l (as := aX (6 + i) :: as) hL1 hlen k D cI cL cA xd ad H.size hw hoas
  have hrun := va_runV (g := F0 m pc jls ((as.reverse ++ aX (6 + i) :: st).map (a_val ad xd))) (cells := cells) (slots := slots) (locs := locs) (As := as.map (a_val ad xd)) (rest := st.map (a_val ad xd)) (R := aRoom (d + 1) mc ms) (H := H) (C := "java/lang/String") (e := e) (below := below) (meth := meth) ⟨hx, hb, hml, hown, hts⟩ hM' ⟨⟨rfl, rfl, (by show d + 1 ≤ d + 1; omega), (by show 8 + (M'.2.2.1 + 11) + 64 * d ≤ 64 * (d + 1); omega), a_ws hts hL5, List.mem_cons_self, hts _ hL5, hts _ hL4, hL2, (fun sig h => by have h2 := hL3; rw [h] at h2; exact (Option.some.inj h2).symm), hts _ hc1⟩, hts _ hc2, hts _ hc4⟩ ⟨a_blind, vk_recv hE.2.2.2.2.2.2.2.1 hi hS, fun U hU hW => ⟨rfl, by rw [hU], by rw [hU]; exact hP, va_K.moved hW.alike hK, hDs.weaken (fun _ _ _ _ => trivial), by rw [hU]; exact hEH.warm hW⟩⟩ rfl (by rw [List.length_map]) hl.2.1 (by simp [a_val]) (by rw [show (F0 m pc jls ((as.reverse ++ aX (6 + i) :: st).map (a_val ad xd))).monitorRoom = 0 from rfl, a_cat]; omega) hd ⟨by show cells + kc ≤ mc; omega, by show slots + ks ≤ ms; omega⟩
  · refine a_cont hrun hS hAA (fun ad' r sh' iv' lw' rv' H1 locs1 g1 g2 g3 g4 g5 g6 g7 g8 => ?_)
    rw [a_psh_map g1 host]
    refine g3 p l e s m args below meth c D cI cL cA xd A mc ms ad0 n0 hC ad' H1 locs1 _ _ jls ⟨fun i hi => (g1 i (by omega)).trans (h1 i hi), by omega, g4, g5.weaken (fun _ _ _ h => hAA _ h), g8, by omega, by omega, a_L_ad g1 hl hol, g6, ?_, fun k v hk => a_ok_mono g2 (hol k v hk)⟩
    intro v hv
    cases r with
    | none => exact a_ok_mono g2 (host v hv)
    | some w =>
      rcases List.mem_cons.mp hv with rfl | hv
      · exact g7 _ rfl
      · exact a_ok_mono g2 (host v hv)
theorem wp_sval {idx i : Nat} (hd : decode M.2.1 pc = .ok (.getfield idx, 3)) (hf : Cond.fieldLink M.1.cls idx "java/lang/String" "value" "[B" ∈ aG) (hi : i < 2) (kk : wp d M (pc + 3) ls (aX (8 + i) :: st) sh iv lw rv bc bs R) : wp d M pc ls (aX (6 + i) :: st) sh iv lw rv bc bs R := by
  intro p l e s m args below meth c D cI cL cA xd A mc ms ad0 n0 hC ad H locs cells slots jls hD
  obtain ⟨hx, hb, hml, hr, hlk, hown, hnm, hts, hK, hE, hA⟩ := id hC
  obtain ⟨h1, h2, hP, hDs, hS, hc, hs, hl, hw, ho, hol⟩ := hD
  obtain ⟨o0, hoo⟩ := List.forall_mem_cons.mp ho
  clear ho
  have ho := hoo
  clear hoo
  refine vk_getf hx hb (hE.2.2.2.2.2.2.2.1.1 i hi).2.2.1 hS hown (hts _ hf) (fun _ h => h) hd ?_
  exact kk p l e s m args below meth c D cI cL cA xd A mc ms ad0 n0 hC ad H locs cells slots jls ⟨h1, h2, hP, hDs, hS, hc, hs, hl, hw, List.forall_mem_cons.mpr ⟨trivial, ho⟩, hol⟩
theorem wp_scod {idx i : Nat} (hd : decode M.2.1 pc = .ok (.getfield idx, 3)) (hf : Cond.fieldLink M.1.cls idx "java/lang/String" "coder" "B" ∈ aG) (hi : i < 2) (kk : wp d M (pc + 3) ls (aI 0 :: st) sh iv lw rv bc bs R) : wp d M pc ls (aX (6 + i) :: st) sh iv lw rv bc bs R := by
  intro p l e s m args below meth c D cI cL cA xd A mc ms ad0 n0 hC ad H locs cells slots jls hD
  obtain ⟨hx, hb, hml, hr, hlk, hown, hnm, hts, hK, hE, hA⟩ := id hC
  obtain ⟨h1, h2, hP, hDs, hS, hc, hs, hl, hw, ho, hol⟩ := hD
  obtain ⟨o0, hoo⟩ := List.forall_mem_cons.mp ho
  clear ho
  have ho := hoo
  clear hoo
  refine vk_getf hx hb (hE.2.2.2.2.2.2.2.1.1 i hi).2.1 hS hown (hts _ hf) (fun _ h => h) hd ?_
  exact kk p l e s m args below meth c D cI cL cA xd A mc ms ad0 n0 hC ad H locs cells slots jls ⟨h1, h2, hP, hDs, hS, hc, hs, hl, hw, List.forall_mem_cons.mpr ⟨(show iR 0 from ⟨by decide, by decide⟩), ho⟩, hol⟩
theorem wp_sCS {idx : Nat} (hd : decode M.2.1 pc = .ok (.getstatic idx, 3)) (hf : Cond.fieldLink M.1.cls idx "java/lang/String" "COMPACT_STRINGS" "Z" ∈ aG) (kk : wp d M (pc + 3) ls (aI 1 :: st) sh iv lw rv bc bs R) : wp d M pc ls st sh iv lw rv bc bs R := by
  intro p l e s m args below meth c D cI cL cA xd A mc ms ad0 n0 hC ad H locs cells slots jls hD
  obtain ⟨hx, hb, hml, hr, hlk, hown, hnm, hts, hK, hE, hA⟩ := id hC
  obtain ⟨h1, h2, hP, hDs, hS, hc, hs, hl, hw, ho, hol⟩ := hD
  refine va_gets hx hb hE.2.2.2.2.2.2.2.2 hS hown (hts _ hf) (fun _ h => h) hd ?_
  exact kk p l e s m args below meth c D cI cL cA xd A mc ms ad0 n0 hC ad H locs cells slots jls ⟨h1, h2, hP, hDs, hS, hc, hs, hl, hw, List.forall_mem_cons.mpr ⟨(show iR 1 from ⟨by decide, by decide⟩), ho⟩, hol⟩
theorem wp_sblen {i : Nat} {nz : Int} (hd : decode M.2.1 pc = .ok (.arraylength, 1)) (hi : i < 2) (hn : (([5, 4] : List Nat).getD i 0 : Int) = nz) (hnr : iR nz) (kk : wp d M (pc + 1) ls (aI nz :: st) sh iv lw rv bc bs R) : wp d M pc ls (aX (8 + i) :: st) sh iv lw rv bc bs R := by
  intro p l e s m args below meth c D cI cL cA xd A mc ms ad0 n0 hC ad H locs cells slots jls hD
  obtain ⟨hx, hb, hml, hr, hlk, hown, hnm, hts, hK, hE, hA⟩ := id hC
  obtain ⟨h1, h2, hP, hDs, hS, hc, hs, hl, hw, ho, hol⟩ := hD
  obtain ⟨o0, hoo⟩ := List.forall_mem_cons.mp ho
  clear ho
  have ho := hoo
  clear hoo
  refine va_tlen (v := Int32.ofInt nz) hx hb (hE.2.2.2.2.2.2.2.1.1 i hi).2.2.2 hS (by subst hn; exact Int32.ofInt_eq_ofNat.symm) hd ?_
  exact kk p l e s m args below meth c D cI cL cA xd A mc ms ad0 n0 hC ad H locs cells slots jls ⟨h1, h2, hP, hDs, hS, hc, hs, hl, hw, List.forall_mem_cons.mpr ⟨hnr, ho⟩, hol⟩
def sbL (i : Nat) : List Int := if i = 0 then [119, 99, 116, 109, 117] else [97, 98, 107, 108]
theorem sb_i {i q : Nat} (hi : i < 2) (hq : q < 5) : (([[119, 99, 116, 109, 117], [97, 98, 107, 108]] : List (List Int32)).getD i []).getD q 0 = Int32.ofInt ((sbL i).getD q 0) := by
  have h1 : i = 0 ∨ i = 1 := by omega
  have h2 : q = 0 ∨ q = 1 ∨ q = 2 ∨ q = 3 ∨ q = 4 := by omega
  rcases h1 with rfl | rfl <;> rcases h2 with rfl | rfl | rfl | rfl | rfl <;> rfl
theorem wp_sbald {i : Nat} {j v : Int} (hd : decode M.2.1 pc = .ok (.baload, 1)) (hi : i < 2) (hj0 : 0 ≤ j) (hj1 : j < ((([5, 4] : List Nat).getD i 0 : Nat) : Int)) (hv : (sbL i).getD j.toNat 0 = v) (hvr : iR v) (kk : wp d M (pc + 1) ls (aI v :: st) sh iv lw rv bc bs R) : wp d M pc ls (aI j :: aX (8 + i) :: st) sh iv lw rv bc bs R := by
  intro p l e s m args below meth c D cI cL cA xd A mc ms ad0 n0 hC ad H locs cells slots jls hD
  obtain ⟨hx, hb, hml, hr, hlk, hown, hnm, hts, hK, hE, hA⟩ := id hC
  obtain ⟨h1, h2, hP, hDs, hS, hc, hs, hl, hw, ho, hol⟩ := hD
  obtain ⟨o0, hoo⟩ := List.forall_mem_cons.mp ho
  clear ho
  have ho := hoo
  clear hoo
  obtain ⟨o1, hoo⟩ := List.forall_mem_cons.mp ho
  clear ho
  have ho := hoo
  clear hoo
  have h5 : j.toNat < 5 := by
    have h1 : i = 0 ∨ i = 1 := by omega
    rcases h1 with rfl | rfl
    · have : j < ((5 : Nat) : Int) := hj1; omega
    · have : j < ((4 : Nat) : Int) := hj1; omega
  refine va_tb hx hb (hE.2.2.2.2.2.2.2.1.1 i hi).2.2.2 hS (a_vin o0 hj0 hj1) (v := .int (Int32.ofInt v)) ?_ hd ?_
  · rw [a_clamp o0, ← hv]; exact congrArg Value.int (sb_i hi h5)
  exact kk p l e s m args below meth c D cI cL cA xd A mc ms ad0 n0 hC ad H locs cells slots jls ⟨h1, h2, hP, hDs, hS, hc, hs, hl, hw, List.forall_mem_cons.mpr ⟨hvr, ho⟩, hol⟩
theorem i2b_d : ∀ n : Fin 256, (Int32.ofInt (n.val : Int)).toInt8.toInt32 = Int32.ofInt (if (n.val : Int) < 128 then (n.val : Int) else (n.val : Int) - 256) := by decide +kernel
theorem wp_i2b {x : Int} (hd : decode M.2.1 pc = .ok (.i2b, 1)) (h0 : 0 ≤ x) (h256 : x < 256) (kk : wp d M (pc + 1) ls (aI (if x < 128 then x else x - 256) :: st) sh iv lw rv bc bs R) : wp d M pc ls (aI x :: st) sh iv lw rv bc bs R := by
  intro p l e s m args below meth c D cI cL cA xd A mc ms ad0 n0 hC ad H locs cells slots jls hD
  obtain ⟨hx, hb, hml, hr, hlk, hown, hnm, hts, hK, hE, hA⟩ := id hC
  obtain ⟨h1, h2, hP, hDs, hS, hc, hs, hl, hw, ho, hol⟩ := hD
  obtain ⟨o0, hoo⟩ := List.forall_mem_cons.mp ho
  clear ho
  have ho := hoo
  clear hoo
  have hq := i2b_d ⟨x.toNat, by omega⟩
  rw [show (((⟨x.toNat, by omega⟩ : Fin 256).val : Nat) : Int) = x by show ((x.toNat : Nat) : Int) = x; omega] at hq
  refine lv_i2b hx hb hd hq ?_
  exact kk p l e s m args below meth c D cI cL cA xd A mc ms ad0 n0 hC ad H locs cells slots jls ⟨h1, h2, hP, hDs, hS, hc, hs, hl, hw, List.forall_mem_cons.mpr ⟨(show iR _ from by split <;> exact ⟨by omega, by omega⟩), ho⟩, hol⟩
theorem wp_breturn {x : Int} (hd : decode M.2.1 pc = .ok (.ireturn, 1)) (hM : M.2.2.2 = some .byte) (hz : x = 0) (k : R (some (aI x)) sh iv lw rv) : wp d M pc ls (aI x :: []) sh iv lw rv bc bs R := by
  intro p l e s m args below meth c D cI cL cA xd A mc ms ad0 n0 hC ad H locs cells slots jls hD
  obtain ⟨hx, hb, hml, hr, hlk, hown, hnm, hts, hK, hE, hA⟩ := id hC
  obtain ⟨h1, h2, hP, hDs, hS, hc, hs, hl, hw, ho, hol⟩ := hD
  refine W.widen (k := mc) (n := ms) (by omega) (by omega) ?_
  exact W.zret hx hb (hr.trans hM) (by subst hz; rfl) (fun t ht hW => ⟨⟨ad, some (aI x), sh, iv, lw, rv, h1, h2, rfl, k, by rw [ht]; exact hP, hDs, hw, fun v hv => by cases hv; exact ho _ List.mem_cons_self⟩, hS.F ht⟩) hS.2.2 hd hlk
theorem wp_copyX {idx j0 i1 n1 : Nat} {sp dp nn : Int} (hd : decode M.2.1 pc = .ok (.invokestatic idx, 3)) (hf : Cond.methodLink M.1.cls idx arraycopyName ∈ aG) (hj : j0 < 6) (hs1 : sh[i1]? = some (0, n1)) (hd0 : 1 ≤ d) (q1 : 0 ≤ sp) (q2 : 0 ≤ dp) (q3 : 0 ≤ nn) (q4 : sp + nn ≤ ((aXl j0).length : Nat)) (q5 : dp + nn ≤ n1) (hwt : (st.map (fun v => (a_val id id v).category)).sum ≤ 8 := by exact Nat.le_of_ble_eq_true rfl) (kk : wp d M (pc + 3) ls st sh (uA iv i1 (cpyI (fun k => (aXl j0).getD k.toNat 0) (iv i1) sp dp nn)) lw rv bc bs R) : wp d M pc ls (aI nn :: aI dp :: aR i1 :: aI sp :: aX j0 :: st) sh iv lw rv bc bs R := by
  intro p l e s m args below meth c D cI cL cA xd A mc ms ad0 n0 hC ad H locs cells slots jls hD
  obtain ⟨hx, hb, hml, hr, hlk, hown, hnm, hts, hK, hE, hA⟩ := id hC
  obtain ⟨h1, h2, hP, hDs, hS, hc, hs, hl, hw, ho, hol⟩ := hD
  obtain ⟨o0, hoo⟩ := List.forall_mem_cons.mp ho
  clear ho
  have ho := hoo
  clear hoo
  obtain ⟨o1, hoo⟩ := List.forall_mem_cons.mp ho
  clear ho
  have ho := hoo
  clear hoo
  obtain ⟨o2, hoo⟩ := List.forall_mem_cons.mp ho
  clear ho
  have ho := hoo
  clear hoo
  obtain ⟨o3, hoo⟩ := List.forall_mem_cons.mp ho
  clear ho
  have ho := hoo
  clear hoo
  obtain ⟨o4, hoo⟩ := List.forall_mem_cons.mp ho
  clear ho
  have ho := hoo
  clear hoo
  have hg1 := a_W_get (cI := cI) (cL := cL) (cA := cA) (ad := ad) (iv := iv) (lw := lw) (rv := rv) (a_lt hs1)
  rw [a_cell_0 hs1] at hg1
  refine b_copy hx hb (by rw [hml, hl.2.1]) hown (hts _ hf) (hts _ q_cpy.1) (hts _ q_cpy.2.1) (hts _ q_cpy.2.2) hK hP hDs hS (hE.2.2.2.2.1 j0 hj) i1 0 hg1 rfl (a_n0 o3 q1) (a_n0 o1 q2) (a_n0 o0 q3) (by rw [a_clamp o3, a_clamp o0]; omega) (by rw [a_clamp o1, a_clamp o0]; omega) hd0 (by rw [a_cat]; show _ + (a_cpw + 11) ≤ 64 * d; have := a_cpw_le; omega) hd (fun H1 locs1 hP1 hD1 hS1 => ?_)
  have hfe : (fun k : Nat => Int32.ofInt ((aXl j0).getD k 0)) = (fun k : Nat => Int32.ofInt ((fun k : Int => (aXl j0).getD k.toNat 0) (k : Int))) := rfl
  rw [hfe, a_clamp o3, a_clamp o1, a_clamp o0, a_W_cpy (f := fun k : Int => (aXl j0).getD k.toNat 0) hs1 q1 q2 q3] at hP1 hD1
  exact kk p l e s m args below meth c D cI cL cA xd A mc ms ad0 n0 hC ad H1 locs1 cells slots jls ⟨h1, h2, hP1, hD1, hS1, hc, hs, hl, a_wf_A hw (a_cpy_r (fun k => a_xl_r j0 hj _) (hw.1 i1)), ho, hol⟩
end STRa
theorem vX8_97 : a_cx RX8 97 mJ0_length_8abf5 0 := ⟨kJ0_length_8abf5, List.mem_filter.mpr ⟨t2 (List.mem_of_getElem? (i := 170) rfl), rfl⟩, List.mem_filter.mpr ⟨t2 (List.mem_of_getElem? (i := 171) rfl), rfl⟩, List.mem_filter.mpr ⟨t2 (List.mem_of_getElem? (i := 172) rfl), rfl⟩⟩
theorem vX8_102 : a_cx RX8 102 mJ0_indexOf_0f7a4 1 := ⟨kJ0_indexOf_0f7a4, List.mem_filter.mpr ⟨t2 (List.mem_of_getElem? (i := 180) rfl), rfl⟩, List.mem_filter.mpr ⟨t2 (List.mem_of_getElem? (i := 181) rfl), rfl⟩, List.mem_filter.mpr ⟨t2 (List.mem_of_getElem? (i := 182) rfl), rfl⟩⟩
theorem vJ0_335 : a_cx RJ0 335 mJ0_coder_7d493 0 := ⟨kJ0_coder_7d493, List.mem_filter.mpr ⟨t2 (List.mem_of_getElem? (i := 174) rfl), rfl⟩, List.mem_filter.mpr ⟨t2 (List.mem_of_getElem? (i := 175) rfl), rfl⟩, List.mem_filter.mpr ⟨t2 (List.mem_of_getElem? (i := 176) rfl), rfl⟩⟩
theorem vJ0_633 : a_cx RJ0 633 mJ0_indexOf_7cf53 2 := ⟨kJ0_indexOf_7cf53, List.mem_filter.mpr ⟨t2 (List.mem_of_getElem? (i := 184) rfl), rfl⟩, List.mem_filter.mpr ⟨t2 (List.mem_of_getElem? (i := 185) rfl), rfl⟩, List.mem_filter.mpr ⟨t2 (List.mem_of_getElem? (i := 186) rfl), rfl⟩⟩
theorem vJ0_492 : a_cx RJ0 492 mJ0_isLatin1_aae02 0 := ⟨kJ0_isLatin1_aae02, List.mem_filter.mpr ⟨t2 (List.mem_of_getElem? (i := 188) rfl), rfl⟩, List.mem_filter.mpr ⟨t2 (List.mem_of_getElem? (i := 189) rfl), rfl⟩, List.mem_filter.mpr ⟨t2 (List.mem_of_getElem? (i := 190) rfl), rfl⟩⟩
theorem vJ0_505 : a_cx RJ0 505 mJ0_length_8abf5 0 := ⟨kJ0_length_8abf5, List.mem_filter.mpr ⟨t2 (List.mem_of_getElem? (i := 192) rfl), rfl⟩, List.mem_filter.mpr ⟨t2 (List.mem_of_getElem? (i := 171) rfl), rfl⟩, List.mem_filter.mpr ⟨t2 (List.mem_of_getElem? (i := 172) rfl), rfl⟩⟩
theorem sJ0_9 : Cond.fieldLink RJ0 9 "java/lang/String" "value" "[B" ∈ aG := List.mem_filter.mpr ⟨t8 (List.mem_of_getElem? (i := 229) rfl), rfl⟩
theorem sJ0_15 : Cond.fieldLink RJ0 15 "java/lang/String" "coder" "B" ∈ aG := List.mem_filter.mpr ⟨t8 (List.mem_of_getElem? (i := 230) rfl), rfl⟩
theorem sJ0_38 : Cond.fieldLink RJ0 38 "java/lang/String" "COMPACT_STRINGS" "Z" ∈ aG := List.mem_filter.mpr ⟨t2 (List.mem_of_getElem? (i := 178) rfl), rfl⟩
section STRb
variable {d : Nat} {sh : aSh} {iv lw : aF} {rv : aP} {R : aPost}
theorem u_coder0 (k : R (some (aI 0)) sh iv lw rv) : wp d mJ0_coder_7d493 0 [some (aX (6 + 0))] [] sh iv lw rv 0 0 R := by
  refine wp_sCS dJ0_coder_7d493_0 sJ0_38 ?_
  refine wp_if_eq (tgt := 13) dJ0_coder_7d493_3 rfl (fun q => absurd q (by decide)) (fun _ => ?_)
  refine wp_aload_n dJ0_coder_7d493_6 rfl ?_
  refine wp_scod (i := 0) dJ0_coder_7d493_7 sJ0_15 (by decide) ?_
  refine wp_goto (tgt := 14) dJ0_coder_7d493_10 rfl ?_
  refine wp_breturn dJ0_coder_7d493_14 rfl rfl ?_
  exact k
theorem u_length0 (k : R (some (aI 5)) sh iv lw rv) : wp (d + 1) mJ0_length_8abf5 0 [some (aX (6 + 0))] [] sh iv lw rv 0 0 R := by
  refine wp_aload_n dJ0_length_8abf5_0 rfl ?_
  refine wp_sval (i := 0) dJ0_length_8abf5_1 sJ0_9 (by decide) ?_
  refine wp_sblen (i := 0) (nz := 5) dJ0_length_8abf5_4 (by decide) rfl ⟨by decide, by decide⟩ ?_
  refine wp_aload_n dJ0_length_8abf5_5 rfl ?_
  refine wp_callX (i := 0) (as := []) (ls0 := [_]) (kc := 0) (ks := 0) (bc' := 0) (bs' := 0) dJ0_length_8abf5_6 vJ0_335 (by decide) rfl rfl (Nat.le_of_ble_eq_true rfl) (Nat.le_of_ble_eq_true rfl) (by omega) (by omega) ?_
  refine u_coder0 ?_
  refine wp_ishr dJ0_length_8abf5_9 (by omega) (by omega) ?_
  refine wp_ireturn dJ0_length_8abf5_10 rfl ?_
  rw [show (5 : Int) / 2 ^ (0 : Int).toNat = 5 from rfl]; exact k
theorem u_isLatin0 (k : R (some (aI 1)) sh iv lw rv) : wp d mJ0_isLatin1_aae02 0 [some (aX (6 + 0))] [] sh iv lw rv 0 0 R := by
  refine wp_sCS dJ0_isLatin1_aae02_0 sJ0_38 ?_
  refine wp_if_eq (tgt := 17) dJ0_isLatin1_aae02_3 rfl (fun q => absurd q (by decide)) (fun _ => ?_)
  refine wp_aload_n dJ0_isLatin1_aae02_6 rfl ?_
  refine wp_scod (i := 0) dJ0_isLatin1_aae02_7 sJ0_15 (by decide) ?_
  refine wp_if_ne (tgt := 17) dJ0_isLatin1_aae02_10 rfl (fun q => absurd q (by decide)) (fun _ => ?_)
  refine wp_iconst dJ0_isLatin1_aae02_13 ?_
  refine wp_goto (tgt := 18) dJ0_isLatin1_aae02_14 rfl ?_
  refine wp_zreturn dJ0_isLatin1_aae02_18 rfl (Or.inr rfl) ?_
  exact k
theorem u_idxChar0 {x : Int} (hx : 0 ≤ x ∧ x < 256) (k : R (some (aI (itF 115 x))) sh iv lw rv) : wp d mJ1_indexOfChar_4cfef 0 [some (aX (8 + 0)), some (aI x), some (aI 0), some (aI 5), none, none] [] sh iv lw rv 0 0 R := by
  have hx0 := hx.1
  have hx1 := hx.2
  rw [show itF 115 x = if x = 119 then 0 else if x = 99 then 1 else if x = 116 then 2 else if x = 109 then 3 else if x = 117 then 4 else -1 from if_pos rfl] at k
  refine wp_iload_n dJ1_indexOfChar_4cfef_0 rfl ?_
  refine wp_i2b dJ1_indexOfChar_4cfef_1 (by omega) (by omega) ?_
  generalize hq : (if x < 128 then x else x - 256) = y
  have hy : (x < 128 → y = x) ∧ (128 ≤ x → y < 0) := ⟨fun h => by rw [← hq, if_pos h], fun h => by rw [← hq, if_neg (by omega)]; omega⟩
  refine wp_istore (ls' := [_, _, _, _, _, _]) dJ1_indexOfChar_4cfef_2 (by decide) rfl rfl ?_
  refine wp_iload_n dJ1_indexOfChar_4cfef_4 rfl ?_
  refine wp_istore (ls' := [_, _, _, _, _, _]) dJ1_indexOfChar_4cfef_5 (by decide) rfl rfl ?_
  refine wp_iload dJ1_indexOfChar_4cfef_7 rfl ?_
  refine wp_iload_n dJ1_indexOfChar_4cfef_9 rfl ?_
  refine wp_icmp_ge (tgt := 31) dJ1_indexOfChar_4cfef_10 rfl (fun q => absurd q (by decide)) (fun _ => ?_)
  refine wp_aload_n dJ1_indexOfChar_4cfef_13 rfl ?_
  refine wp_iload dJ1_indexOfChar_4cfef_14 rfl ?_
  refine wp_sbald (i := 0) (v := 119) dJ1_indexOfChar_4cfef_16 (by decide) (by decide) (by decide) rfl ⟨by decide, by decide⟩ ?_
  refine wp_iload dJ1_indexOfChar_4cfef_17 rfl ?_
  refine wp_icmp_ne (tgt := 25) dJ1_indexOfChar_4cfef_19 rfl (fun h19 => ?_) (fun h19 => ?_)
  · refine wp_iinc (ls' := [_, _, _, _, _, _]) dJ1_indexOfChar_4cfef_25 (by decide) rfl rfl ⟨by omega, by omega⟩ rfl ?_
    refine wp_goto (tgt := 7) dJ1_indexOfChar_4cfef_28 rfl ?_
    refine wp_iload dJ1_indexOfChar_4cfef_7 rfl ?_
    refine wp_iload_n dJ1_indexOfChar_4cfef_9 rfl ?_
    refine wp_icmp_ge (tgt := 31) dJ1_indexOfChar_4cfef_10 rfl (fun q => absurd q (by decide)) (fun _ => ?_)
    refine wp_aload_n dJ1_indexOfChar_4cfef_13 rfl ?_
    refine wp_iload dJ1_indexOfChar_4cfef_14 rfl ?_
    refine wp_sbald (i := 0) (v := 99) dJ1_indexOfChar_4cfef_16 (by decide) (by decide) (by decide) rfl ⟨by decide, by decide⟩ ?_
    refine wp_iload dJ1_indexOfChar_4cfef_17 rfl ?_
    refine wp_icmp_ne (tgt := 25) dJ1_indexOfChar_4cfef_19 rfl (fun h19 => ?_) (fun h19 => ?_)
    · refine wp_iinc (ls' := [_, _, _, _, _, _]) dJ1_indexOfChar_4cfef_25 (by decide) rfl rfl ⟨by omega, by omega⟩ rfl ?_
      refine wp_goto (tgt := 7) dJ1_indexOfChar_4cfef_28 rfl ?_
      refine wp_iload dJ1_indexOfChar_4cfef_7 rfl ?_
      refine wp_iload_n dJ1_indexOfChar_4cfef_9 rfl ?_
      refine wp_icmp_ge (tgt := 31) dJ1_indexOfChar_4cfef_10 rfl (fun q => absurd q (by decide)) (fun _ => ?_)
      refine wp_aload_n dJ1_indexOfChar_4cfef_13 rfl ?_
      refine wp_iload dJ1_indexOfChar_4cfef_14 rfl ?_
      refine wp_sbald (i := 0) (v := 116) dJ1_indexOfChar_4cfef_16 (by decide) (by decide) (by decide) rfl ⟨by decide, by decide⟩ ?_
      refine wp_iload dJ1_indexOfChar_4cfef_17 rfl ?_
      refine wp_icmp_ne (tgt := 25) dJ1_indexOfChar_4cfef_19 rfl (fun h19 => ?_) (fun h19 => ?_)
      · refine wp_iinc (ls' := [_, _, _, _, _, _]) dJ1_indexOfChar_4cfef_25 (by decide) rfl rfl ⟨by omega, by omega⟩ rfl ?_
        refine wp_goto (tgt := 7) dJ1_indexOfChar_4cfef_28 rfl ?_
        refine wp_iload dJ1_indexOfChar_4cfef_7 rfl ?_
        refine wp_iload_n dJ1_indexOfChar_4cfef_9 rfl ?_
        refine wp_icmp_ge (tgt := 31) dJ1_indexOfChar_4cfef_10 rfl (fun q => absurd q (by decide)) (fun _ => ?_)
        refine wp_aload_n dJ1_indexOfChar_4cfef_13 rfl ?_
        refine wp_iload dJ1_indexOfChar_4cfef_14 rfl ?_
        refine wp_sbald (i := 0) (v := 109) dJ1_indexOfChar_4cfef_16 (by decide) (by decide) (by decide) rfl ⟨by decide, by decide⟩ ?_
        refine wp_iload dJ1_indexOfChar_4cfef_17 rfl ?_
        refine wp_icmp_ne (tgt := 25) dJ1_indexOfChar_4cfef_19 rfl (fun h19 => ?_) (fun h19 => ?_)
        · refine wp_iinc (ls' := [_, _, _, _, _, _]) dJ1_indexOfChar_4cfef_25 (by decide) rfl rfl ⟨by omega, by omega⟩ rfl ?_
          refine wp_goto (tgt := 7) dJ1_indexOfChar_4cfef_28 rfl ?_
          refine wp_iload dJ1_indexOfChar_4cfef_7 rfl ?_
          refine wp_iload_n dJ1_indexOfChar_4cfef_9 rfl ?_
          refine wp_icmp_ge (tgt := 31) dJ1_indexOfChar_4cfef_10 rfl (fun q => absurd q (by decide)) (fun _ => ?_)
          refine wp_aload_n dJ1_indexOfChar_4cfef_13 rfl ?_
          refine wp_iload dJ1_indexOfChar_4cfef_14 rfl ?_
          refine wp_sbald (i := 0) (v := 117) dJ1_indexOfChar_4cfef_16 (by decide) (by decide) (by decide) rfl ⟨by decide, by decide⟩ ?_
          refine wp_iload dJ1_indexOfChar_4cfef_17 rfl ?_
          refine wp_icmp_ne (tgt := 25) dJ1_indexOfChar_4cfef_19 rfl (fun h19 => ?_) (fun h19 => ?_)
          · refine wp_iinc (ls' := [_, _, _, _, _, _]) dJ1_indexOfChar_4cfef_25 (by decide) rfl rfl ⟨by omega, by omega⟩ rfl ?_
            refine wp_goto (tgt := 7) dJ1_indexOfChar_4cfef_28 rfl ?_
            refine wp_iload dJ1_indexOfChar_4cfef_7 rfl ?_
            refine wp_iload_n dJ1_indexOfChar_4cfef_9 rfl ?_
            refine wp_icmp_ge (tgt := 31) dJ1_indexOfChar_4cfef_10 rfl (fun _ => ?_) (fun q => absurd q (by decide))
            refine wp_iconst dJ1_indexOfChar_4cfef_31 ?_
            refine wp_ireturn dJ1_indexOfChar_4cfef_32 rfl ?_
            first | exact k | ((repeat' split at k) <;> first | exact k | (exfalso; omega))
          · refine wp_iload dJ1_indexOfChar_4cfef_22 rfl ?_
            refine wp_ireturn dJ1_indexOfChar_4cfef_24 rfl ?_
            first | exact k | ((repeat' split at k) <;> first | exact k | (exfalso; omega))
        · refine wp_iload dJ1_indexOfChar_4cfef_22 rfl ?_
          refine wp_ireturn dJ1_indexOfChar_4cfef_24 rfl ?_
          first | exact k | ((repeat' split at k) <;> first | exact k | (exfalso; omega))
      · refine wp_iload dJ1_indexOfChar_4cfef_22 rfl ?_
        refine wp_ireturn dJ1_indexOfChar_4cfef_24 rfl ?_
        first | exact k | ((repeat' split at k) <;> first | exact k | (exfalso; omega))
    · refine wp_iload dJ1_indexOfChar_4cfef_22 rfl ?_
      refine wp_ireturn dJ1_indexOfChar_4cfef_24 rfl ?_
      first | exact k | ((repeat' split at k) <;> first | exact k | (exfalso; omega))
  · refine wp_iload dJ1_indexOfChar_4cfef_22 rfl ?_
    refine wp_ireturn dJ1_indexOfChar_4cfef_24 rfl ?_
    first | exact k | ((repeat' split at k) <;> first | exact k | (exfalso; omega))
theorem u_coder1 (k : R (some (aI 0)) sh iv lw rv) : wp d mJ0_coder_7d493 0 [some (aX (6 + 1))] [] sh iv lw rv 0 0 R := by
  refine wp_sCS dJ0_coder_7d493_0 sJ0_38 ?_
  refine wp_if_eq (tgt := 13) dJ0_coder_7d493_3 rfl (fun q => absurd q (by decide)) (fun _ => ?_)
  refine wp_aload_n dJ0_coder_7d493_6 rfl ?_
  refine wp_scod (i := 1) dJ0_coder_7d493_7 sJ0_15 (by decide) ?_
  refine wp_goto (tgt := 14) dJ0_coder_7d493_10 rfl ?_
  refine wp_breturn dJ0_coder_7d493_14 rfl rfl ?_
  exact k
theorem u_length1 (k : R (some (aI 4)) sh iv lw rv) : wp (d + 1) mJ0_length_8abf5 0 [some (aX (6 + 1))] [] sh iv lw rv 0 0 R := by
  refine wp_aload_n dJ0_length_8abf5_0 rfl ?_
  refine wp_sval (i := 1) dJ0_length_8abf5_1 sJ0_9 (by decide) ?_
  refine wp_sblen (i := 1) (nz := 4) dJ0_length_8abf5_4 (by decide) rfl ⟨by decide, by decide⟩ ?_
  refine wp_aload_n dJ0_length_8abf5_5 rfl ?_
  refine wp_callX (i := 1) (as := []) (ls0 := [_]) (kc := 0) (ks := 0) (bc' := 0) (bs' := 0) dJ0_length_8abf5_6 vJ0_335 (by decide) rfl rfl (Nat.le_of_ble_eq_true rfl) (Nat.le_of_ble_eq_true rfl) (by omega) (by omega) ?_
  refine u_coder1 ?_
  refine wp_ishr dJ0_length_8abf5_9 (by omega) (by omega) ?_
  refine wp_ireturn dJ0_length_8abf5_10 rfl ?_
  rw [show (4 : Int) / 2 ^ (0 : Int).toNat = 4 from rfl]; exact k
theorem u_isLatin1 (k : R (some (aI 1)) sh iv lw rv) : wp d mJ0_isLatin1_aae02 0 [some (aX (6 + 1))] [] sh iv lw rv 0 0 R := by
  refine wp_sCS dJ0_isLatin1_aae02_0 sJ0_38 ?_
  refine wp_if_eq (tgt := 17) dJ0_isLatin1_aae02_3 rfl (fun q => absurd q (by decide)) (fun _ => ?_)
  refine wp_aload_n dJ0_isLatin1_aae02_6 rfl ?_
  refine wp_scod (i := 1) dJ0_isLatin1_aae02_7 sJ0_15 (by decide) ?_
  refine wp_if_ne (tgt := 17) dJ0_isLatin1_aae02_10 rfl (fun q => absurd q (by decide)) (fun _ => ?_)
  refine wp_iconst dJ0_isLatin1_aae02_13 ?_
  refine wp_goto (tgt := 18) dJ0_isLatin1_aae02_14 rfl ?_
  refine wp_zreturn dJ0_isLatin1_aae02_18 rfl (Or.inr rfl) ?_
  exact k
theorem u_idxChar1 {x : Int} (hx : 0 ≤ x ∧ x < 256) (k : R (some (aI (itF 112 x))) sh iv lw rv) : wp d mJ1_indexOfChar_4cfef 0 [some (aX (8 + 1)), some (aI x), some (aI 0), some (aI 4), none, none] [] sh iv lw rv 0 0 R := by
  have hx0 := hx.1
  have hx1 := hx.2
  rw [show itF 112 x = if x = 97 then 0 else if x = 98 then 1 else if x = 107 then 2 else if x = 108 then 3 else -1 from if_neg (by decide)] at k
  refine wp_iload_n dJ1_indexOfChar_4cfef_0 rfl ?_
  refine wp_i2b dJ1_indexOfChar_4cfef_1 (by omega) (by omega) ?_
  generalize hq : (if x < 128 then x else x - 256) = y
  have hy : (x < 128 → y = x) ∧ (128 ≤ x → y < 0) := ⟨fun h => by rw [← hq, if_pos h], fun h => by rw [← hq, if_neg (by omega)]; omega⟩
  refine wp_istore (ls' := [_, _, _, _, _, _]) dJ1_indexOfChar_4cfef_2 (by decide) rfl rfl ?_
  refine wp_iload_n dJ1_indexOfChar_4cfef_4 rfl ?_
  refine wp_istore (ls' := [_, _, _, _, _, _]) dJ1_indexOfChar_4cfef_5 (by decide) rfl rfl ?_
  refine wp_iload dJ1_indexOfChar_4cfef_7 rfl ?_
  refine wp_iload_n dJ1_indexOfChar_4cfef_9 rfl ?_
  refine wp_icmp_ge (tgt := 31) dJ1_indexOfChar_4cfef_10 rfl (fun q => absurd q (by decide)) (fun _ => ?_)
  refine wp_aload_n dJ1_indexOfChar_4cfef_13 rfl ?_
  refine wp_iload dJ1_indexOfChar_4cfef_14 rfl ?_
  refine wp_sbald (i := 1) (v := 97) dJ1_indexOfChar_4cfef_16 (by decide) (by decide) (by decide) rfl ⟨by decide, by decide⟩ ?_
  refine wp_iload dJ1_indexOfChar_4cfef_17 rfl ?_
  refine wp_icmp_ne (tgt := 25) dJ1_indexOfChar_4cfef_19 rfl (fun h19 => ?_) (fun h19 => ?_)
  · refine wp_iinc (ls' := [_, _, _, _, _, _]) dJ1_indexOfChar_4cfef_25 (by decide) rfl rfl ⟨by omega, by omega⟩ rfl ?_
    refine wp_goto (tgt := 7) dJ1_indexOfChar_4cfef_28 rfl ?_
    refine wp_iload dJ1_indexOfChar_4cfef_7 rfl ?_
    refine wp_iload_n dJ1_indexOfChar_4cfef_9 rfl ?_
    refine wp_icmp_ge (tgt := 31) dJ1_indexOfChar_4cfef_10 rfl (fun q => absurd q (by decide)) (fun _ => ?_)
    refine wp_aload_n dJ1_indexOfChar_4cfef_13 rfl ?_
    refine wp_iload dJ1_indexOfChar_4cfef_14 rfl ?_
    refine wp_sbald (i := 1) (v := 98) dJ1_indexOfChar_4cfef_16 (by decide) (by decide) (by decide) rfl ⟨by decide, by decide⟩ ?_
    refine wp_iload dJ1_indexOfChar_4cfef_17 rfl ?_
    refine wp_icmp_ne (tgt := 25) dJ1_indexOfChar_4cfef_19 rfl (fun h19 => ?_) (fun h19 => ?_)
    · refine wp_iinc (ls' := [_, _, _, _, _, _]) dJ1_indexOfChar_4cfef_25 (by decide) rfl rfl ⟨by omega, by omega⟩ rfl ?_
      refine wp_goto (tgt := 7) dJ1_indexOfChar_4cfef_28 rfl ?_
      refine wp_iload dJ1_indexOfChar_4cfef_7 rfl ?_
      refine wp_iload_n dJ1_indexOfChar_4cfef_9 rfl ?_
      refine wp_icmp_ge (tgt := 31) dJ1_indexOfChar_4cfef_10 rfl (fun q => absurd q (by decide)) (fun _ => ?_)
      refine wp_aload_n dJ1_indexOfChar_4cfef_13 rfl ?_
      refine wp_iload dJ1_indexOfChar_4cfef_14 rfl ?_
      refine wp_sbald (i := 1) (v := 107) dJ1_indexOfChar_4cfef_16 (by decide) (by decide) (by decide) rfl ⟨by decide, by decide⟩ ?_
      refine wp_iload dJ1_indexOfChar_4cfef_17 rfl ?_
      refine wp_icmp_ne (tgt := 25) dJ1_indexOfChar_4cfef_19 rfl (fun h19 => ?_) (fun h19 => ?_)
      · refine wp_iinc (ls' := [_, _, _, _, _, _]) dJ1_indexOfChar_4cfef_25 (by decide) rfl rfl ⟨by omega, by omega⟩ rfl ?_
        refine wp_goto (tgt := 7) dJ1_indexOfChar_4cfef_28 rfl ?_
        refine wp_iload dJ1_indexOfChar_4cfef_7 rfl ?_
        refine wp_iload_n dJ1_indexOfChar_4cfef_9 rfl ?_
        refine wp_icmp_ge (tgt := 31) dJ1_indexOfChar_4cfef_10 rfl (fun q => absurd q (by decide)) (fun _ => ?_)
        refine wp_aload_n dJ1_indexOfChar_4cfef_13 rfl ?_
        refine wp_iload dJ1_indexOfChar_4cfef_14 rfl ?_
        refine wp_sbald (i := 1) (v := 108) dJ1_indexOfChar_4cfef_16 (by decide) (by decide) (by decide) rfl ⟨by decide, by decide⟩ ?_
        refine wp_iload dJ1_indexOfChar_4cfef_17 rfl ?_
        refine wp_icmp_ne (tgt := 25) dJ1_indexOfChar_4cfef_19 rfl (fun h19 => ?_) (fun h19 => ?_)
        · refine wp_iinc (ls' := [_, _, _, _, _, _]) dJ1_indexOfChar_4cfef_25 (by decide) rfl rfl ⟨by omega, by omega⟩ rfl ?_
          refine wp_goto (tgt := 7) dJ1_indexOfChar_4cfef_28 rfl ?_
          refine wp_iload dJ1_indexOfChar_4cfef_7 rfl ?_
          refine wp_iload_n dJ1_indexOfChar_4cfef_9 rfl ?_
          refine wp_icmp_ge (tgt := 31) dJ1_indexOfChar_4cfef_10 rfl (fun _ => ?_) (fun q => absurd q (by decide))
          refine wp_iconst dJ1_indexOfChar_4cfef_31 ?_
          refine wp_ireturn dJ1_indexOfChar_4cfef_32 rfl ?_
          first | exact k | ((repeat' split at k) <;> first | exact k | (exfalso; omega))
        · refine wp_iload dJ1_indexOfChar_4cfef_22 rfl ?_
          refine wp_ireturn dJ1_indexOfChar_4cfef_24 rfl ?_
          first | exact k | ((repeat' split at k) <;> first | exact k | (exfalso; omega))
      · refine wp_iload dJ1_indexOfChar_4cfef_22 rfl ?_
        refine wp_ireturn dJ1_indexOfChar_4cfef_24 rfl ?_
        first | exact k | ((repeat' split at k) <;> first | exact k | (exfalso; omega))
    · refine wp_iload dJ1_indexOfChar_4cfef_22 rfl ?_
      refine wp_ireturn dJ1_indexOfChar_4cfef_24 rfl ?_
      first | exact k | ((repeat' split at k) <;> first | exact k | (exfalso; omega))
  · refine wp_iload dJ1_indexOfChar_4cfef_22 rfl ?_
    refine wp_ireturn dJ1_indexOfChar_4cfef_24 rfl ?_
    first | exact k | ((repeat' split at k) <;> first | exact k | (exfalso; omega))
theorem u_canEnc {x : Int} (hx : 0 ≤ x ∧ x < 256) (k : R (some (aI 1)) sh iv lw rv) : wp d mJ1_canEncode_9a6ad 0 [some (aI x)] [] sh iv lw rv 0 0 R := by
  refine wp_iload_n dJ1_canEncode_9a6ad_0 rfl ?_
  refine wp_if_lt (tgt := 15) dJ1_canEncode_9a6ad_1 rfl (fun h1 => ?_) (fun h1 => ?_)
  · refine wp_iconst dJ1_canEncode_9a6ad_15 ?_
    refine wp_zreturn dJ1_canEncode_9a6ad_16 rfl (Or.inl rfl) ?_
    first | exact k | (exfalso; omega)
  · refine wp_iload_n dJ1_canEncode_9a6ad_4 rfl ?_
    refine wp_sipush dJ1_canEncode_9a6ad_5 ?_
    refine wp_icmp_gt (tgt := 15) dJ1_canEncode_9a6ad_8 rfl (fun h8 => ?_) (fun h8 => ?_)
    · refine wp_iconst dJ1_canEncode_9a6ad_15 ?_
      refine wp_zreturn dJ1_canEncode_9a6ad_16 rfl (Or.inl rfl) ?_
      first | exact k | (exfalso; omega)
    · refine wp_iconst dJ1_canEncode_9a6ad_11 ?_
      refine wp_goto (tgt := 16) dJ1_canEncode_9a6ad_12 rfl ?_
      refine wp_zreturn dJ1_canEncode_9a6ad_16 rfl (Or.inr rfl) ?_
      first | exact k | (exfalso; omega)
theorem u_idxL0 {x : Int} (hx : 0 ≤ x ∧ x < 256) (k : R (some (aI (itF 115 x))) sh iv lw rv) : wp (d + 1) mJ1_indexOf_4cfef 0 [some (aX (8 + 0)), some (aI x), some (aI 0), some (aI 5)] [] sh iv lw rv 0 0 R := by
  refine wp_iload_n dJ1_indexOf_4cfef_0 rfl ?_
  refine wp_callS (as := [_]) (ls0 := [_]) (kc := 0) (ks := 0) (bc' := 0) (bs' := 0) dJ1_indexOf_4cfef_1 vJ1_88 rfl rfl (Nat.le_of_ble_eq_true rfl) (Nat.le_of_ble_eq_true rfl) (by omega) (by omega) ?_
  refine u_canEnc (by omega) ?_
  refine wp_if_ne (tgt := 9) dJ1_indexOf_4cfef_4 rfl (fun _ => ?_) (fun q => absurd q (by decide))
  refine wp_iload_n dJ1_indexOf_4cfef_9 rfl ?_
  refine wp_iconst dJ1_indexOf_4cfef_10 ?_
  refine wp_mmax dJ1_indexOf_4cfef_11 (by omega) (Nat.le_of_ble_eq_true rfl) nJ1_92 q_max ?_
  rw [show (if (0 : Int) < 0 then (0 : Int) else 0) = 0 from rfl]
  refine wp_istore_n (ls' := [_, _, _, _]) dJ1_indexOf_4cfef_14 (by decide) rfl rfl ?_
  refine wp_iload_n dJ1_indexOf_4cfef_15 rfl ?_
  refine wp_aload_n dJ1_indexOf_4cfef_16 rfl ?_
  refine wp_sblen (i := 0) (nz := 5) dJ1_indexOf_4cfef_17 (by decide) rfl ⟨by decide, by decide⟩ ?_
  refine wp_mmin dJ1_indexOf_4cfef_18 (by omega) (Nat.le_of_ble_eq_true rfl) nJ1_38 q_min ?_
  rw [show (if (5 : Int) < 5 then (5 : Int) else 5) = 5 from rfl]
  refine wp_istore_n (ls' := [_, _, _, _]) dJ1_indexOf_4cfef_21 (by decide) rfl rfl ?_
  refine wp_iload_n dJ1_indexOf_4cfef_22 rfl ?_
  refine wp_iload_n dJ1_indexOf_4cfef_23 rfl ?_
  refine wp_icmp_lt (tgt := 29) dJ1_indexOf_4cfef_24 rfl (fun h24 => ?_) (fun h24 => by exfalso; revert h24; decide)
  refine wp_aload_n dJ1_indexOf_4cfef_29 rfl ?_
  refine wp_iload_n dJ1_indexOf_4cfef_30 rfl ?_
  refine wp_iload_n dJ1_indexOf_4cfef_31 rfl ?_
  refine wp_iload_n dJ1_indexOf_4cfef_32 rfl ?_
  refine wp_callS (as := [_, _, _, _]) (ls0 := [_, _, _, _, _, _]) (kc := 0) (ks := 0) (bc' := 0) (bs' := 0) dJ1_indexOf_4cfef_33 vJ1_95 rfl rfl (Nat.le_of_ble_eq_true rfl) (Nat.le_of_ble_eq_true rfl) (by omega) (by omega) ?_
  refine u_idxChar0 hx ?_
  refine wp_ireturn dJ1_indexOf_4cfef_36 rfl ?_
  exact k
theorem u_idx20 {x : Int} (hx : 0 ≤ x ∧ x < 256) (k : R (some (aI (itF 115 x))) sh iv lw rv) : wp (d + 2) mJ0_indexOf_7cf53 0 [some (aX (6 + 0)), some (aI x), some (aI 0)] [] sh iv lw rv 0 0 R := by
  refine wp_aload_n dJ0_indexOf_7cf53_0 rfl ?_
  refine wp_callX (i := 0) (as := []) (ls0 := [_]) (kc := 0) (ks := 0) (bc' := 0) (bs' := 0) dJ0_indexOf_7cf53_1 vJ0_492 (by decide) rfl rfl (Nat.le_of_ble_eq_true rfl) (Nat.le_of_ble_eq_true rfl) (by omega) (by omega) ?_
  refine u_isLatin0 ?_
  refine wp_if_eq (tgt := 23) dJ0_indexOf_7cf53_4 rfl (fun q => absurd q (by decide)) (fun _ => ?_)
  refine wp_aload_n dJ0_indexOf_7cf53_7 rfl ?_
  refine wp_sval (i := 0) dJ0_indexOf_7cf53_8 sJ0_9 (by decide) ?_
  refine wp_iload_n dJ0_indexOf_7cf53_11 rfl ?_
  refine wp_iload_n dJ0_indexOf_7cf53_12 rfl ?_
  refine wp_aload_n dJ0_indexOf_7cf53_13 rfl ?_
  refine wp_callX (i := 0) (as := []) (ls0 := [_]) (kc := 0) (ks := 0) (bc' := 0) (bs' := 0) dJ0_indexOf_7cf53_14 vJ0_505 (by decide) rfl rfl (Nat.le_of_ble_eq_true rfl) (Nat.le_of_ble_eq_true rfl) (by omega) (by omega) ?_
  refine u_length0 ?_
  refine wp_callS (as := [_, _, _, _]) (ls0 := [_, _, _, _]) (kc := 0) (ks := 0) (bc' := 0) (bs' := 0) dJ0_indexOf_7cf53_17 vJ0_637 rfl rfl (Nat.le_of_ble_eq_true rfl) (Nat.le_of_ble_eq_true rfl) (by omega) (by omega) ?_
  refine u_idxL0 hx ?_
  refine wp_goto (tgt := 36) dJ0_indexOf_7cf53_20 rfl ?_
  refine wp_ireturn dJ0_indexOf_7cf53_36 rfl ?_
  exact k
theorem u_idx0 {x : Int} (hx : 0 ≤ x ∧ x < 256) (k : R (some (aI (itF 115 x))) sh iv lw rv) : wp (d + 3) mJ0_indexOf_0f7a4 0 [some (aX (6 + 0)), some (aI x)] [] sh iv lw rv 0 0 R := by
  refine wp_aload_n dJ0_indexOf_0f7a4_0 rfl ?_
  refine wp_iload_n dJ0_indexOf_0f7a4_1 rfl ?_
  refine wp_iconst dJ0_indexOf_0f7a4_2 ?_
  refine wp_callX (i := 0) (as := [_, _]) (ls0 := [_, _, _]) (kc := 0) (ks := 0) (bc' := 0) (bs' := 0) dJ0_indexOf_0f7a4_3 vJ0_633 (by decide) rfl rfl (Nat.le_of_ble_eq_true rfl) (Nat.le_of_ble_eq_true rfl) (by omega) (by omega) ?_
  refine u_idx20 hx ?_
  refine wp_ireturn dJ0_indexOf_0f7a4_6 rfl ?_
  exact k
theorem u_idxL1 {x : Int} (hx : 0 ≤ x ∧ x < 256) (k : R (some (aI (itF 112 x))) sh iv lw rv) : wp (d + 1) mJ1_indexOf_4cfef 0 [some (aX (8 + 1)), some (aI x), some (aI 0), some (aI 4)] [] sh iv lw rv 0 0 R := by
  refine wp_iload_n dJ1_indexOf_4cfef_0 rfl ?_
  refine wp_callS (as := [_]) (ls0 := [_]) (kc := 0) (ks := 0) (bc' := 0) (bs' := 0) dJ1_indexOf_4cfef_1 vJ1_88 rfl rfl (Nat.le_of_ble_eq_true rfl) (Nat.le_of_ble_eq_true rfl) (by omega) (by omega) ?_
  refine u_canEnc (by omega) ?_
  refine wp_if_ne (tgt := 9) dJ1_indexOf_4cfef_4 rfl (fun _ => ?_) (fun q => absurd q (by decide))
  refine wp_iload_n dJ1_indexOf_4cfef_9 rfl ?_
  refine wp_iconst dJ1_indexOf_4cfef_10 ?_
  refine wp_mmax dJ1_indexOf_4cfef_11 (by omega) (Nat.le_of_ble_eq_true rfl) nJ1_92 q_max ?_
  rw [show (if (0 : Int) < 0 then (0 : Int) else 0) = 0 from rfl]
  refine wp_istore_n (ls' := [_, _, _, _]) dJ1_indexOf_4cfef_14 (by decide) rfl rfl ?_
  refine wp_iload_n dJ1_indexOf_4cfef_15 rfl ?_
  refine wp_aload_n dJ1_indexOf_4cfef_16 rfl ?_
  refine wp_sblen (i := 1) (nz := 4) dJ1_indexOf_4cfef_17 (by decide) rfl ⟨by decide, by decide⟩ ?_
  refine wp_mmin dJ1_indexOf_4cfef_18 (by omega) (Nat.le_of_ble_eq_true rfl) nJ1_38 q_min ?_
  rw [show (if (4 : Int) < 4 then (4 : Int) else 4) = 4 from rfl]
  refine wp_istore_n (ls' := [_, _, _, _]) dJ1_indexOf_4cfef_21 (by decide) rfl rfl ?_
  refine wp_iload_n dJ1_indexOf_4cfef_22 rfl ?_
  refine wp_iload_n dJ1_indexOf_4cfef_23 rfl ?_
  refine wp_icmp_lt (tgt := 29) dJ1_indexOf_4cfef_24 rfl (fun h24 => ?_) (fun h24 => by exfalso; revert h24; decide)
  refine wp_aload_n dJ1_indexOf_4cfef_29 rfl ?_
  refine wp_iload_n dJ1_indexOf_4cfef_30 rfl ?_
  refine wp_iload_n dJ1_indexOf_4cfef_31 rfl ?_
  refine wp_iload_n dJ1_indexOf_4cfef_32 rfl ?_
  refine wp_callS (as := [_, _, _, _]) (ls0 := [_, _, _, _, _, _]) (kc := 0) (ks := 0) (bc' := 0) (bs' := 0) dJ1_indexOf_4cfef_33 vJ1_95 rfl rfl (Nat.le_of_ble_eq_true rfl) (Nat.le_of_ble_eq_true rfl) (by omega) (by omega) ?_
  refine u_idxChar1 hx ?_
  refine wp_ireturn dJ1_indexOf_4cfef_36 rfl ?_
  exact k
theorem u_idx21 {x : Int} (hx : 0 ≤ x ∧ x < 256) (k : R (some (aI (itF 112 x))) sh iv lw rv) : wp (d + 2) mJ0_indexOf_7cf53 0 [some (aX (6 + 1)), some (aI x), some (aI 0)] [] sh iv lw rv 0 0 R := by
  refine wp_aload_n dJ0_indexOf_7cf53_0 rfl ?_
  refine wp_callX (i := 1) (as := []) (ls0 := [_]) (kc := 0) (ks := 0) (bc' := 0) (bs' := 0) dJ0_indexOf_7cf53_1 vJ0_492 (by decide) rfl rfl (Nat.le_of_ble_eq_true rfl) (Nat.le_of_ble_eq_true rfl) (by omega) (by omega) ?_
  refine u_isLatin1 ?_
  refine wp_if_eq (tgt := 23) dJ0_indexOf_7cf53_4 rfl (fun q => absurd q (by decide)) (fun _ => ?_)
  refine wp_aload_n dJ0_indexOf_7cf53_7 rfl ?_
  refine wp_sval (i := 1) dJ0_indexOf_7cf53_8 sJ0_9 (by decide) ?_
  refine wp_iload_n dJ0_indexOf_7cf53_11 rfl ?_
  refine wp_iload_n dJ0_indexOf_7cf53_12 rfl ?_
  refine wp_aload_n dJ0_indexOf_7cf53_13 rfl ?_
  refine wp_callX (i := 1) (as := []) (ls0 := [_]) (kc := 0) (ks := 0) (bc' := 0) (bs' := 0) dJ0_indexOf_7cf53_14 vJ0_505 (by decide) rfl rfl (Nat.le_of_ble_eq_true rfl) (Nat.le_of_ble_eq_true rfl) (by omega) (by omega) ?_
  refine u_length1 ?_
  refine wp_callS (as := [_, _, _, _]) (ls0 := [_, _, _, _]) (kc := 0) (ks := 0) (bc' := 0) (bs' := 0) dJ0_indexOf_7cf53_17 vJ0_637 rfl rfl (Nat.le_of_ble_eq_true rfl) (Nat.le_of_ble_eq_true rfl) (by omega) (by omega) ?_
  refine u_idxL1 hx ?_
  refine wp_goto (tgt := 36) dJ0_indexOf_7cf53_20 rfl ?_
  refine wp_ireturn dJ0_indexOf_7cf53_36 rfl ?_
  exact k
theorem u_idx1 {x : Int} (hx : 0 ≤ x ∧ x < 256) (k : R (some (aI (itF 112 x))) sh iv lw rv) : wp (d + 3) mJ0_indexOf_0f7a4 0 [some (aX (6 + 1)), some (aI x)] [] sh iv lw rv 0 0 R := by
  refine wp_aload_n dJ0_indexOf_0f7a4_0 rfl ?_
  refine wp_iload_n dJ0_indexOf_0f7a4_1 rfl ?_
  refine wp_iconst dJ0_indexOf_0f7a4_2 ?_
  refine wp_callX (i := 1) (as := [_, _]) (ls0 := [_, _, _]) (kc := 0) (ks := 0) (bc' := 0) (bs' := 0) dJ0_indexOf_0f7a4_3 vJ0_633 (by decide) rfl rfl (Nat.le_of_ble_eq_true rfl) (Nat.le_of_ble_eq_true rfl) (by omega) (by omega) ?_
  refine u_idx21 hx ?_
  refine wp_ireturn dJ0_indexOf_0f7a4_6 rfl ?_
  exact k
end STRb
