/-! ===== a new cell ===== -/
theorem a_push_ne {α : Type} {l : List α} {x : α} {i : Nat} (h : i < l.length) : (l ++ [x])[i]? = l[i]? := List.getElem?_append_left h
theorem a_push_self {α : Type} {l : List α} {x : α} : (l ++ [x])[l.length]? = some x := by simp
def a_new (ad : Nat → Nat) (n q : Nat) : Nat → Nat := fun i => if i = n then q else ad i
theorem a_new_ne {ad : Nat → Nat} {n q i : Nat} (h : i < n) : a_new ad n q i = ad i := by unfold a_new; rw [if_neg (by omega)]
theorem a_W_push {cI cL cA : ClassId} {ad : Nat → Nat} {sh : aSh} {iv lw iv' lw' : aF} {rv rv' : aP} {q : Nat} {x : Nat × Nat} {e : va_E} (hr : ∀ i k j, rv i k = some j → j < sh.length) (h1 : ∀ i k, i < sh.length → iv' i k = iv i k) (h2 : ∀ i k, i < sh.length → lw' i k = lw i k) (h3 : ∀ i k, i < sh.length → rv' i k = rv i k)
    (he : a_cell cI cL cA (a_new ad sh.length q) (sh ++ [x]) iv' lw' rv' sh.length = e) : a_W cI cL cA ad sh iv lw rv ++ [(q, e)] = a_W cI cL cA (a_new ad sh.length q) (sh ++ [x]) iv' lw' rv' := by
  have hlen : (a_W cI cL cA ad sh iv lw rv).length = sh.length := by unfold a_W; simp
  apply List.ext_getElem?
  intro j
  by_cases hj : j < sh.length
  · rw [List.getElem?_append_left (by rw [hlen]; exact hj), a_W_get hj, a_W_get (by simp; omega), a_new_ne hj]
    have hm : ∀ k : Int, (rv' j k).map (a_new ad sh.length q) = (rv j k).map ad := by
      intro k
      rw [h3 j k hj]
      cases hq : rv j k with
      | none => rfl
      | some y => simp [a_new_ne (hr j k y hq)]
    unfold a_cell a_fs a_fv
    rw [a_push_ne hj]
    simp only [h1 j _ hj, h2 j _ hj, hm]
  · by_cases hj2 : j = sh.length
    · subst hj2
      rw [List.getElem?_append_right (by rw [hlen]; exact Nat.le_refl _), hlen, Nat.sub_self, a_W_get (by simp), he]
      simp [a_new]
    · rw [List.getElem?_eq_none (by rw [List.length_append, hlen]; simp; omega), List.getElem?_eq_none (by unfold a_W; simp; omega)]
theorem a_wf_new {n : Nat} {iv lw : aF} {rv : aP} (h : a_wf n iv lw rv) : a_wf (n + 1) (uA iv n (fun _ => 0)) (uA lw n (fun _ => 0)) (uQ rv n (fun _ => none)) := by
  refine ⟨fun a b => ?_, fun a b => ?_, fun a b j hj => ?_⟩
  · unfold uA; split
    · exact a_r0
    · exact h.1 a b
  · unfold uA; split
    · exact (show lR 0 from ⟨by decide, by decide⟩)
    · exact h.2.1 a b
  · unfold uQ at hj; split at hj
    · cases hj
    · have := h.2.2 a b j hj; omega
theorem a_uA_self {iv : aF} {i : Nat} {f : Int → Int} {k : Int} : uA iv i f i k = f k := by simp [uA]
theorem a_uA_ne {iv : aF} {i j : Nat} {f : Int → Int} {k : Int} (h : j ≠ i) : uA iv i f j k = iv j k := by simp [uA, h]
theorem a_uQ_self {rv : aP} {i : Nat} {f : Int → Option Nat} {k : Int} : uQ rv i f i k = f k := by simp [uQ]
theorem a_uQ_ne {rv : aP} {i j : Nat} {f : Int → Option Nat} {k : Int} (h : j ≠ i) : uQ rv i f j k = rv j k := by simp [uQ, h]
def cpyI (f g : Int → Int) (sp dp n : Int) : Int → Int := fun k => if dp ≤ k ∧ k < dp + n then f (sp + (k - dp)) else g k
theorem a_W_cpy {cI cL cA : ClassId} {ad : Nat → Nat} {sh : aSh} {iv lw : aF} {rv : aP} {i n : Nat} {f : Int → Int} {sp dp nn : Int} (h : sh[i]? = some (0, n)) (h1 : 0 ≤ sp) (h2 : 0 ≤ dp) (h3 : 0 ≤ nn) : (a_W cI cL cA ad sh iv lw rv).set i (ad i, .inl (cI, n, .inl (va_cpy (fun k => Int32.ofInt (f k)) (fun k => Int32.ofInt (iv i k)) sp.toNat dp.toNat nn.toNat))) = a_W cI cL cA ad sh (uA iv i (cpyI f (iv i) sp dp nn)) lw rv := by
  refine a_W_set (a_lt h) ?_ (fun q hq => a_cell_ne (fun k => a_uA_ne hq) (fun _ => rfl) (fun _ => rfl))
  rw [a_cell_0 h]
  congr 4
  funext k
  rw [a_uA_self]
  unfold va_cpy cpyI
  by_cases e : dp.toNat ≤ k ∧ k < dp.toNat + nn.toNat
  · rw [if_pos e, if_pos (by omega)]
    congr 2
    omega
  · rw [if_neg e, if_neg (by omega)]
theorem a_cpy_r {f g : Int → Int} {sp dp n : Int} (hf : ∀ k, iR (f k)) (hg : ∀ k, iR (g k)) (k : Int) : iR (cpyI f g sp dp n k) := by
  unfold cpyI; split
  · exact hf _
  · exact hg _
theorem a_n0 {x : Int} (hx : iR x) (h : 0 ≤ x) : ¬ Int32.ofInt x < 0 := fun q => by have := (a_b0_lt hx).mp q; omega
/-! ===== plain facts of 64 bits ===== -/
theorem a_toIntL {x : Int} (h : lR x) : (Int64.ofInt x).toInt = x := Int64.toInt_ofInt_of_le h.1 h.2
def wL (x : Int) : Int := (Int64.ofInt x).toInt
theorem wL_r (x : Int) : lR (wL x) := ⟨Int64.le_toInt _, Int64.toInt_lt _⟩
theorem wL_of (x : Int) : Int64.ofInt (wL x) = Int64.ofInt x := Int64.ofInt_toInt _
theorem a_injL {x y : Int} (hx : lR x) (hy : lR y) : Int64.ofInt x = Int64.ofInt y ↔ x = y := by rw [← Int64.toInt_inj, a_toIntL hx, a_toIntL hy]
theorem a_ltL {x y : Int} (hx : lR x) (hy : lR y) : Int64.ofInt x < Int64.ofInt y ↔ x < y := by rw [Int64.lt_iff_toInt_lt, a_toIntL hx, a_toIntL hy]
theorem a_div_rL {x y : Int} (hx : lR x) (h0 : 0 ≤ x) (hy : 0 < y) : lR (x / y) := by
  have h1 := Int.ediv_nonneg h0 (Int.le_of_lt hy)
  have h2 := Int.ediv_le_self y h0
  exact ⟨by omega, by have := hx.2; omega⟩
theorem a_mod_rL {x y : Int} (hy : lR y) (h0 : 0 ≤ x) (h : 0 < y) : lR (x % y) := by
  have h1 := Int.emod_nonneg x (by omega : y ≠ 0)
  have h2 := Int.emod_lt_of_pos x h
  exact ⟨by omega, by have := hy.2; omega⟩
theorem a_divL {x y : Int} (hx : lR x) (hy : lR y) (h0 : 0 ≤ x) (h : 0 < y) : Int64.ofInt x / Int64.ofInt y = Int64.ofInt (x / y) := by
  rw [← Int64.toInt_inj, Int64.toInt_div_of_ne_right _ _ (fun q => by have := congrArg Int64.toInt q; rw [a_toIntL hy] at this; have e : (-1 : Int64).toInt = -1 := rfl; omega), a_toIntL hx, a_toIntL hy, a_toIntL (a_div_rL hx h0 h), Int.tdiv_eq_ediv_of_nonneg h0]
theorem a_remL {x y : Int} (hx : lR x) (hy : lR y) (h0 : 0 ≤ x) (h : 0 < y) : Int64.ofInt x - Int64.ofInt x / Int64.ofInt y * Int64.ofInt y = Int64.ofInt (x % y) := by
  rw [a_divL hx hy h0 h, ← Int64.ofInt_mul, ← Int64.ofInt_sub, Int.emod_def, Int.mul_comm]
theorem a_ne0L {y : Int} (hy : lR y) (h : 0 < y) : ¬ Int64.ofInt y = 0 := fun q => by
  have := (a_injL (y := 0) hy ⟨by decide, by decide⟩).mp q; omega
theorem a_i2l {x : Int} (hx : iR x) : (Int32.ofInt x).toInt64 = Int64.ofInt x := by
  rw [← Int64.toInt_inj, Int32.toInt_toInt64, a_toInt hx, a_toIntL ⟨by have := hx.1; omega, by have := hx.2; omega⟩]
theorem a_l2i {x : Int} (hx : iR x) : (Int64.ofInt x).toInt32 = Int32.ofInt x := by
  rw [← Int32.toInt_inj, Int64.toInt_toInt32, a_toIntL ⟨by have := hx.1; omega, by have := hx.2; omega⟩, a_toInt hx]
  exact Int.bmod_eq_of_le (by have := hx.1; omega) (by have := hx.2; omega)
theorem a_bvL (z : Int) : (Int64.ofInt z).toBitVec.toNat = (z % 18446744073709551616).toNat := by
  show (BitVec.ofInt 64 z).toNat = _
  rw [BitVec.toNat_ofInt]
  rfl
theorem a_ushr33_r (x : Int) : lR (x % 18446744073709551616 / 8589934592) := ⟨by omega, by omega⟩
theorem a_ushr33 {x : Int} : ((Int64.ofInt x).toUInt64 >>> ((Int32.ofInt 33).toInt64.toUInt64 &&& Int64.toUInt64 63)).toInt64 = Int64.ofInt (x % 18446744073709551616 / 8589934592) := by
  have e : (Int32.ofInt 33).toInt64.toUInt64 &&& Int64.toUInt64 63 = 33 := by decide +kernel
  rw [e]
  apply Int64.toBitVec.inj
  apply BitVec.eq_of_toNat_eq
  rw [a_bvL]
  have h2 : ((Int64.ofInt x).toUInt64 >>> (33 : UInt64)).toInt64.toBitVec.toNat = (Int64.ofInt x).toBitVec.toNat >>> 33 := by
    show ((Int64.ofInt x).toUInt64 >>> (33 : UInt64)).toBitVec.toNat = _
    rw [UInt64.toBitVec_shiftRight]
    rfl
  rw [h2, a_bvL, Nat.shiftRight_eq_div_pow]
  omega
theorem a_i2c {x : Int} (h0 : 0 ≤ x) (h1 : x < 65536) : ((Int32.ofInt x).toUInt32 % 65536).toInt32 = Int32.ofInt x := by
  rw [pk_char, a_bv]
  show Int32.ofNat _ = _
  rw [← Int32.ofInt_eq_ofNat]
  congr 1
  omega
def a_cpw : Nat := nativeFrameWords "java/lang/System" "arraycopy" 5
theorem a_cpw_le : a_cpw ≤ 40 := by decide +kernel
theorem a_xl_len (j : Nat) : (aXl j).length ≤ 5 := by unfold aXl; split <;> decide
theorem a_asgn {s : State} {c k : ClassId} {kk : Class} {ty : FieldType} (h : s.vm.classes[c]? = some kk) (hk : kk.kind = .array k ty) : s.vm.assignable c c = true := by
  exact va_asg _ _
section WPM
variable {d : Nat} {M : aMth} {pc : Nat} {ls ls' : List (Option aV)} {st : List aV} {sh : aSh} {iv lw : aF} {rv : aP} {bc bs : Nat} {R : aPost}
theorem wp_newI {N : Nat} {n : Int} (hd : decode M.2.1 pc = .ok (.newarray .int, 2)) (hn : n = N) (hN : N ≤ 100000) (kk : wp d M (pc + 2) ls (aR sh.length :: st) (sh ++ [(0, N)]) (uA iv sh.length (fun _ => 0)) (uA lw sh.length (fun _ => 0)) (uQ rv sh.length (fun _ => none)) bc bs R) : wp d M pc ls (aI n :: st) sh iv lw rv (bc + 1) (bs + N) R := by
  intro p l e s m args below meth c D cI cL cA xd A mc ms ad0 n0 hC ad H locs cells slots jls hD
  obtain ⟨hx, hb, hml, hr, hlk, hown, hnm, hts, hK, hE, hA⟩ := id hC
  obtain ⟨h1, h2, hP, hDs, hS, hc, hs, hl, hw, ho, hol⟩ := hD
  obtain ⟨o0, hoo⟩ := List.forall_mem_cons.mp ho
  clear ho
  have ho := hoo
  clear hoo
  have hn0 : 0 ≤ n := by omega
  refine va_newa (atype := .int) (ty := .int) (N' := N) (a0 := (N, .inl (fun _ => 0))) hx hb (hts _ q_int) rfl hK hP hDs hS hA (fun cA => rfl) (a_n0 o0 hn0) (by rw [a_clamp o0]; omega) (by show N * 4 ≤ 536870912; omega) (by show _ ≤ mc; omega) (by show _ ≤ ms; omega) hd (fun q cZ H1 hK1 hP1 hD1 hS1 => ?_)
  have hcz : cZ = cI := by
    have a1 := (hK1.2 3 (cZ, .int) rfl).2
    have a2 := (hK.2 0 (cI, .int) rfl).2
    exact Option.some.inj ((show s.vm.findClass ("[" ++ FieldType.int.toString) = some cZ from a1).symm.trans a2)
  subst hcz
  have hpush := (a_W_push (cI := cZ) (cL := cL) (cA := cA) (ad := ad) (iv := iv) (lw := lw) (rv := rv) (iv' := uA iv sh.length (fun _ => 0)) (lw' := uA lw sh.length (fun _ => 0)) (rv' := uQ rv sh.length (fun _ => none)) (q := q) hw.2.2 (fun i k h => a_uA_ne (by omega)) (fun i k h => a_uA_ne (by omega)) (fun i k h => a_uQ_ne (by omega)) (e := .inl (cZ, N, .inl (fun _ => 0))) (by rw [a_cell_0 a_push_self]; congr 4; funext k; rw [a_uA_self]; rfl))
  rw [hpush] at hP1 hD1
  have hg1 : ∀ i, i < sh.length → a_new ad sh.length q i = ad i := fun i hi => a_new_ne hi
  have hst : st.map (a_val ad xd) = st.map (a_val (a_new ad sh.length q) xd) := List.map_congr_left (fun v hv => (a_val_ad hg1 (ho v hv)).symm)
  rw [hst]
  have hqq : (Value.ref q : Value) = a_val (a_new ad sh.length q) xd (aR sh.length) := by show Value.ref q = Value.ref (a_new ad sh.length q sh.length); simp [a_new]
  rw [hqq]
  exact kk p l e s m args below meth c D cZ cL cA xd A mc ms ad0 n0 hC (a_new ad sh.length q) H1 locs (cells + 1) (slots + N) jls ⟨fun i hi => (hg1 i (by omega)).trans (h1 i hi), by rw [List.length_append]; omega, hP1, hD1, hS1, by omega, by omega, a_L_ad hg1 hl hol, by rw [List.length_append]; exact a_wf_new hw, List.forall_mem_cons.mpr ⟨(by show sh.length < _; simp), fun v hv => a_ok_mono (by simp) (ho v hv)⟩, fun kx v hk => a_ok_mono (by simp) (hol kx v hk)⟩
theorem wp_new {idx ci N : Nat} (hd : decode M.2.1 pc = .ok (.new idx, 3)) (hf : a_nw M.1.cls idx ci) (hN : (a_ft ci).length = N) (hft : ∀ t ∈ a_ft ci, t ≤ 3) (kk : wp d M (pc + 3) ls (aR sh.length :: st) (sh ++ [(3, ci)]) (uA iv sh.length (fun _ => 0)) (uA lw sh.length (fun _ => 0)) (uQ rv sh.length (fun _ => none)) bc bs R) : wp d M pc ls st sh iv lw rv (bc + 1) (bs + N) R := by
  intro p l e s m args below meth c D cI cL cA xd A mc ms ad0 n0 hC ad H locs cells slots jls hD
  obtain ⟨hx, hb, hml, hr, hlk, hown, hnm, hts, hK, hE, hA⟩ := id hC
  obtain ⟨h1, h2, hP, hDs, hS, hc, hs, hl, hw, ho, hol⟩ := hD
  subst hN
  obtain ⟨C, T, N, ty0, ⟨c1, c2, c3, c4, c5, c6⟩, w1, w2, w3⟩ := hf
  subst c5
  have hfs : ∀ (q : Nat) (j : Nat), j < (a_ft ci).length → defaultValue (ty0 j) = vp_V (a_fs (a_new ad sh.length q) (uA iv sh.length (fun _ => 0)) (uA lw sh.length (fun _ => 0)) (uQ rv sh.length (fun _ => none)) sh.length (a_ft ci)) j := by
    intro q j hj
    have hjt : (a_ft ci)[j]? = some (a_ft ci)[j] := List.getElem?_eq_getElem hj
    have h6 := c6 j hj
    rw [show (a_ft ci).getD j 0 = (a_ft ci)[j] by simp [List.getD, hj]] at h6
    unfold vp_V
    rw [List.getD, a_fs_get hjt]
    have h3 := hft _ (List.getElem_mem hj)
    generalize (a_ft ci)[j] = t at h6 h3
    show _ = a_fv _ _ _ _ _ _ _
    match t, h6, h3 with
    | 0, h6, _ => rw [show ty0 j = .int from h6]; show defaultValue .int = Value.int (Int32.ofInt (uA iv sh.length (fun _ => 0) sh.length (j : Int))); rw [a_uA_self]; rfl
    | 1, h6, _ => rw [show ty0 j = .boolean from h6]; show defaultValue .boolean = Value.int (Int32.ofInt (uA iv sh.length (fun _ => 0) sh.length (j : Int))); rw [a_uA_self]; rfl
    | 2, h6, _ => rw [show ty0 j = .long from h6]; show defaultValue .long = Value.long (Int64.ofInt (uA lw sh.length (fun _ => 0) sh.length (j : Int))); rw [a_uA_self]; rfl
    | 3, h6, _ =>
      show defaultValue (ty0 j) = va_rf ((uQ rv sh.length (fun _ => none) sh.length (j : Int)).map (a_new ad sh.length q)); rw [a_uQ_self]
      rcases (show (∃ n, ty0 j = .object n) ∨ ∃ u, ty0 j = .array u from h6) with ⟨n, e⟩ | ⟨u, e⟩ <;> rw [e] <;> rfl
    | t + 4, _, h3 => exact absurd h3 (by omega)
  refine va_new (ci := ci) (fs := a_fs (a_new ad sh.length 0) (uA iv sh.length (fun _ => 0)) (uA lw sh.length (fun _ => 0)) (uQ rv sh.length (fun _ => none)) sh.length (a_ft ci)) hx hb hts c2 ty0 c3 hown (hts _ w1) (hts _ w2) (hts _ w3) hK hP hDs hS hA c1 (hfs 0) (by show _ ≤ mc; omega) (by show _ ≤ ms; omega) hd (fun q H1 hP1 hD1 hS1 => ?_)
  have hsame : a_fs (a_new ad sh.length 0) (uA iv sh.length (fun _ => 0)) (uA lw sh.length (fun _ => 0)) (uQ rv sh.length (fun _ => none)) sh.length (a_ft ci) = a_fs (a_new ad sh.length q) (uA iv sh.length (fun _ => 0)) (uA lw sh.length (fun _ => 0)) (uQ rv sh.length (fun _ => none)) sh.length (a_ft ci) := by
    unfold a_fs a_fv
    simp only [a_uQ_self, Option.map_none]
  rw [hsame] at hP1 hD1
  have hpush := (a_W_push (cI := cI) (cL := cL) (cA := cA) (ad := ad) (iv := iv) (lw := lw) (rv := rv) (iv' := uA iv sh.length (fun _ => 0)) (lw' := uA lw sh.length (fun _ => 0)) (rv' := uQ rv sh.length (fun _ => none)) (q := q) hw.2.2 (fun i k h => a_uA_ne (by omega)) (fun i k h => a_uA_ne (by omega)) (fun i k h => a_uQ_ne (by omega)) (x := (3, ci)) (a_cell_3 a_push_self))
  rw [hpush] at hP1 hD1
  have hg1 : ∀ i, i < sh.length → a_new ad sh.length q i = ad i := fun i hi => a_new_ne hi
  have hst : st.map (a_val ad xd) = st.map (a_val (a_new ad sh.length q) xd) := List.map_congr_left (fun v hv => (a_val_ad hg1 (ho v hv)).symm)
  rw [hst]
  have hqq : (Value.ref q : Value) = a_val (a_new ad sh.length q) xd (aR sh.length) := by show Value.ref q = Value.ref (a_new ad sh.length q sh.length); simp [a_new]
  rw [hqq]
  exact kk p l e s m args below meth c D cI cL cA xd A mc ms ad0 n0 hC (a_new ad sh.length q) H1 locs (cells + 1) (slots + (a_ft ci).length) jls ⟨fun i hi => (hg1 i (by omega)).trans (h1 i hi), by rw [List.length_append]; omega, hP1, hD1, hS1, by omega, by omega, a_L_ad hg1 hl hol, by rw [List.length_append]; exact a_wf_new hw, List.forall_mem_cons.mpr ⟨(by show sh.length < _; simp), fun v hv => a_ok_mono (by simp) (ho v hv)⟩, fun kx v hk => a_ok_mono (by simp) (hol kx v hk)⟩
theorem wp_newQ {idx N : Nat} {n : Int} (hd : decode M.2.1 pc = .ok (.anewarray idx, 3)) (hf : Cond.classLink M.1.cls idx "HoppingMesh$Link" ∈ aG) (hn : n = N) (hN : N ≤ 100000) (kk : wp d M (pc + 3) ls (aR sh.length :: st) (sh ++ [(1, N)]) (uA iv sh.length (fun _ => 0)) (uA lw sh.length (fun _ => 0)) (uQ rv sh.length (fun _ => none)) bc bs R) : wp d M pc ls (aI n :: st) sh iv lw rv (bc + 1) (bs + N) R := by
  intro p l e s m args below meth c D cI cL cA xd A mc ms ad0 n0 hC ad H locs cells slots jls hD
  obtain ⟨hx, hb, hml, hr, hlk, hown, hnm, hts, hK, hE, hA⟩ := id hC
  obtain ⟨h1, h2, hP, hDs, hS, hc, hs, hl, hw, ho, hol⟩ := hD
  obtain ⟨o0, hoo⟩ := List.forall_mem_cons.mp ho
  clear ho
  have ho := hoo
  clear hoo
  have hn0 : 0 ≤ n := by omega
  refine va_newq (N' := N) hx hb hown (hts _ hf) hE.2.1 hK hP hDs hS hA (a_n0 o0 hn0) (by rw [a_clamp o0]; omega) (by omega) (by show _ ≤ mc; omega) (by show _ ≤ ms; omega) hd (fun q cZ H1 hK1 hP1 hD1 hS1 => ?_)
  have hcz : cZ = cL := by
    obtain ⟨_, _, _, _, _, a1⟩ := (hK1.2 3 (cZ, .object "HoppingMesh$Link") rfl).2
    obtain ⟨_, _, _, _, _, a2⟩ := (hK.2 1 (cL, .object "HoppingMesh$Link") rfl).2
    exact Option.some.inj (a1.symm.trans a2)
  subst hcz
  have hpush := (a_W_push (cI := cI) (cL := cZ) (cA := cA) (ad := ad) (iv := iv) (lw := lw) (rv := rv) (iv' := uA iv sh.length (fun _ => 0)) (lw' := uA lw sh.length (fun _ => 0)) (rv' := uQ rv sh.length (fun _ => none)) (q := q) hw.2.2 (fun i k h => a_uA_ne (by omega)) (fun i k h => a_uA_ne (by omega)) (fun i k h => a_uQ_ne (by omega)) (e := .inl (cZ, N, .inr (.inr (.inr (.inr (fun _ => none)))))) (by rw [a_cell_1 a_push_self]; congr 7; funext k; rw [a_uQ_self]; rfl))
  rw [hpush] at hP1 hD1
  have hg1 : ∀ i, i < sh.length → a_new ad sh.length q i = ad i := fun i hi => a_new_ne hi
  have hst : st.map (a_val ad xd) = st.map (a_val (a_new ad sh.length q) xd) := List.map_congr_left (fun v hv => (a_val_ad hg1 (ho v hv)).symm)
  rw [hst]
  have hqq : (Value.ref q : Value) = a_val (a_new ad sh.length q) xd (aR sh.length) := by show Value.ref q = Value.ref (a_new ad sh.length q sh.length); simp [a_new]
  rw [hqq]
  exact kk p l e s m args below meth c D cI cZ cA xd A mc ms ad0 n0 hC (a_new ad sh.length q) H1 locs (cells + 1) (slots + N) jls ⟨fun i hi => (hg1 i (by omega)).trans (h1 i hi), by rw [List.length_append]; omega, hP1, hD1, hS1, by omega, by omega, a_L_ad hg1 hl hol, by rw [List.length_append]; exact a_wf_new hw, List.forall_mem_cons.mpr ⟨(by show sh.length < _; simp), fun v hv => a_ok_mono (by simp) (ho v hv)⟩, fun kx v hk => a_ok_mono (by simp) (hol kx v hk)⟩
theorem wp_newA {idx N : Nat} {n : Int} (hd : decode M.2.1 pc = .ok (.anewarray idx, 3)) (hf : Cond.classLink M.1.cls idx "[I" ∈ aG) (hn : n = N) (hN : N ≤ 100000) (kk : wp d M (pc + 3) ls (aR sh.length :: st) (sh ++ [(2, N)]) (uA iv sh.length (fun _ => 0)) (uA lw sh.length (fun _ => 0)) (uQ rv sh.length (fun _ => none)) bc bs R) : wp d M pc ls (aI n :: st) sh iv lw rv (bc + 1) (bs + N) R := by
  intro p l e s m args below meth c D cI cL cA xd A mc ms ad0 n0 hC ad H locs cells slots jls hD
  obtain ⟨hx, hb, hml, hr, hlk, hown, hnm, hts, hK, hE, hA⟩ := id hC
  obtain ⟨h1, h2, hP, hDs, hS, hc, hs, hl, hw, ho, hol⟩ := hD
  obtain ⟨o0, hoo⟩ := List.forall_mem_cons.mp ho
  clear ho
  have ho := hoo
  clear hoo
  have hn0 : 0 ≤ n := by omega
  have hNN : (Int32.ofInt n).toNatClampNeg = N := by rw [a_clamp o0]; omega
  refine W.anewA (t := .int) hx hb hown (hts _ hf) hE.2.2.1 rfl hd rfl (a_n0 o0 hn0) (by rw [hNN]; omega) (by show _ ≤ mc; omega) (by rw [hNN]; show _ ≤ ms; omega) fun cZ kA comp f1 f2 f3 f4 => ?_
  rw [hNN]
  have hcz : cZ = cA := by
    have a2 := (hK.2 2 (cA, .array .int) rfl).2
    exact Option.some.inj (f1.symm.trans a2)
  subst hcz
  generalize hH1 : H.push ({ cls := cZ, slots := Array.replicate N .null, vm := .none } : Cell) = H1
  have z1 : H1.size = H.size + 1 := by rw [← hH1, Array.size_push]
  have e1 : H1[H.size]? = some (arrV cZ N (fun _ => .null)) := by rw [← hH1, Array.getElem?_push_size, ← arrV_new]
  have oo1 : ∀ q : Nat, q < H.size → H1[q]? = H[q]? := fun q hq => by rw [← hH1, Array.getElem?_push, if_neg (Nat.ne_of_lt hq)]
  obtain ⟨q, hq⟩ : ∃ q, q = H.size := ⟨_, rfl⟩
  have hk : ∀ (k : Nat) (x : Nat × va_E), (a_W cI cL cZ ad sh iv lw rv)[k]? = some x → H1[x.1]? = H[x.1]? := fun k x hx => oo1 x.1 ((hP k x hx).lt)
  have hP1 : va_P D vwCl (a_W cI cL cZ ad sh iv lw rv ++ [(q, .inl (cZ, N, .inr (.inr (.inr (.inr (fun _ => none))))))]) H1 := (hP.kept hk).app (fun k x hx => by
    have hz : k < 1 := (List.getElem?_eq_some_iff.mp hx).1
    rw [show k = 0 by omega] at hx
    cases hx
    subst hq
    exact e1)
  have hD1 : va_D A (a_W cI cL cZ ad sh iv lw rv ++ [(q, .inl (cZ, N, .inr (.inr (.inr (.inr (fun _ => none))))))]) := hDs.push hP hq (hq ▸ hA _ hS.1)
  have hS1 : va_S A s.heap H1 locs := ⟨Nat.le_trans hS.1 (by omega), fun x h1 h2 => (oo1 x (Nat.lt_of_lt_of_le h1 hS.1)).trans (hS.2.1 x h1 h2), hS.2.2⟩
  rw [← hq]
  have hpush := (a_W_push (cI := cI) (cL := cL) (cA := cZ) (ad := ad) (iv := iv) (lw := lw) (rv := rv) (iv' := uA iv sh.length (fun _ => 0)) (lw' := uA lw sh.length (fun _ => 0)) (rv' := uQ rv sh.length (fun _ => none)) (q := q) hw.2.2 (fun i k h => a_uA_ne (by omega)) (fun i k h => a_uA_ne (by omega)) (fun i k h => a_uQ_ne (by omega)) (e := .inl (cZ, N, .inr (.inr (.inr (.inr (fun _ => none)))))) (by rw [a_cell_2 a_push_self]; congr 7; funext k; rw [a_uQ_self]; rfl))
  rw [hpush] at hP1 hD1
  show W p l e (aRoom d mc ms) s m args below meth c H1 locs (cells + 1) (slots + N) _ (F0 m (pc + 3) jls (.ref q :: st.map (a_val ad xd)))
  have hg1 : ∀ i, i < sh.length → a_new ad sh.length q i = ad i := fun i hi => a_new_ne hi
  have hst : st.map (a_val ad xd) = st.map (a_val (a_new ad sh.length q) xd) := List.map_congr_left (fun v hv => (a_val_ad hg1 (ho v hv)).symm)
  rw [hst]
  have hqq : (Value.ref q : Value) = a_val (a_new ad sh.length q) xd (aR sh.length) := by show Value.ref q = Value.ref (a_new ad sh.length q sh.length); simp [a_new]
  rw [hqq]
  exact kk p l e s m args below meth c D cI cL cZ xd A mc ms ad0 n0 hC (a_new ad sh.length q) H1 locs (cells + 1) (slots + N) jls ⟨fun i hi => (hg1 i (by omega)).trans (h1 i hi), by rw [List.length_append]; omega, hP1, hD1, hS1, by omega, by omega, a_L_ad hg1 hl hol, by rw [List.length_append]; exact a_wf_new hw, List.forall_mem_cons.mpr ⟨(by show sh.length < _; simp), fun v hv => a_ok_mono (by simp) (ho v hv)⟩, fun kx v hk => a_ok_mono (by simp) (hol kx v hk)⟩
theorem wp_aastL {i n q : Nat} {j : Int} (hd : decode M.2.1 pc = .ok (.aastore, 1)) (hsh : sh[i]? = some (1, n)) (hsq : sh[q]? = some (3, 3)) (hj0 : 0 ≤ j) (hj1 : j < n) (kk : wp d M (pc + 1) ls st sh iv lw (uP rv i j (some q)) bc bs R) : wp d M pc ls (aR q :: aI j :: aR i :: st) sh iv lw rv bc bs R := by
  intro p l e s m args below meth c D cI cL cA xd A mc ms ad0 n0 hC ad H locs cells slots jls hD
  obtain ⟨hx, hb, hml, hr, hlk, hown, hnm, hts, hK, hE, hA⟩ := id hC
  obtain ⟨h1, h2, hP, hDs, hS, hc, hs, hl, hw, ho, hol⟩ := hD
  obtain ⟨o0, hoo⟩ := List.forall_mem_cons.mp ho
  clear ho
  have ho := hoo
  clear hoo
  obtain ⟨o1, hoo⟩ := List.forall_mem_cons.mp ho
  clear ho
  have ho := hoo
  clear hoo
  obtain ⟨o2, hoo⟩ := List.forall_mem_cons.mp ho
  clear ho
  have ho := hoo
  clear hoo
  have hg := a_W_get (cI := cI) (cL := cL) (cA := cA) (ad := ad) (iv := iv) (lw := lw) (rv := rv) (a_lt hsh)
  rw [a_cell_1 hsh] at hg
  have hgq := a_W_get (cI := cI) (cL := cL) (cA := cA) (ad := ad) (iv := iv) (lw := lw) (rv := rv) (a_lt hsq)
  rw [a_cell_3 hsq] at hgq
  refine va_astq (r := (RX3, TX3, 6)) hx hb hK hP hDs hS i 1 q 3 hg rfl hgq rfl (a_vin o1 hj0 hj1) hd (fun H1 locs1 hP1 hD1 hS1 => ?_)
  have hee : (a_W cI cL cA ad sh iv lw rv).set i (ad i, .inl (cL, n, .inr (.inr (.inr (.inr (va_up (fun k : Nat => (rv i k).map ad) (Int32.ofInt j).toNatClampNeg (some (ad q)))))))) = a_W cI cL cA ad sh iv lw (uP rv i j (some q)) := by
    refine a_W_set (a_lt hsh) ?_ (fun z hz => a_cell_ne (fun _ => rfl) (fun _ => rfl) (fun k => a_uP_ne (Or.inl hz)))
    rw [a_cell_1 hsh, a_clamp o1]
    congr 7
    funext k
    unfold va_up uP
    by_cases ex : k = j.toNat
    · rw [if_pos ex, if_pos ⟨rfl, by omega⟩]; rfl
    · rw [if_neg ex, if_neg (fun z => ex (by omega))]
  rw [hee] at hP1 hD1
  exact kk p l e s m args below meth c D cI cL cA xd A mc ms ad0 n0 hC ad H1 locs1 cells slots jls ⟨h1, h2, hP1, hD1, hS1, hc, hs, hl, a_wf_P hw (fun z hz => by cases hz; exact o0), ho, hol⟩
theorem wp_aastA {i n q nq : Nat} {j : Int} (hd : decode M.2.1 pc = .ok (.aastore, 1)) (hsh : sh[i]? = some (2, n)) (hsq : sh[q]? = some (0, nq)) (hj0 : 0 ≤ j) (hj1 : j < n) (kk : wp d M (pc + 1) ls st sh iv lw (uP rv i j (some q)) bc bs R) : wp d M pc ls (aR q :: aI j :: aR i :: st) sh iv lw rv bc bs R := by
  intro p l e s m args below meth c D cI cL cA xd A mc ms ad0 n0 hC ad H locs cells slots jls hD
  obtain ⟨hx, hb, hml, hr, hlk, hown, hnm, hts, hK, hE, hA⟩ := id hC
  obtain ⟨h1, h2, hP, hDs, hS, hc, hs, hl, hw, ho, hol⟩ := hD
  obtain ⟨o0, hoo⟩ := List.forall_mem_cons.mp ho
  clear ho
  have ho := hoo
  clear hoo
  obtain ⟨o1, hoo⟩ := List.forall_mem_cons.mp ho
  clear ho
  have ho := hoo
  clear hoo
  obtain ⟨o2, hoo⟩ := List.forall_mem_cons.mp ho
  clear ho
  have ho := hoo
  clear hoo
  have hg := a_W_get (cI := cI) (cL := cL) (cA := cA) (ad := ad) (iv := iv) (lw := lw) (rv := rv) (a_lt hsh)
  rw [a_cell_2 hsh] at hg
  have hgq := a_W_get (cI := cI) (cL := cL) (cA := cA) (ad := ad) (iv := iv) (lw := lw) (rv := rv) (a_lt hsq)
  rw [a_cell_0 hsq] at hgq
  have hgA : H[ad i]? = some (arrV cA n (fun k => va_rf ((rv i k).map ad))) := hP i _ hg
  have hgQ : H[ad q]? = some (arrV cI nq (fun k => .int (Int32.ofInt (iv q k)))) := hP q _ hgq
  obtain ⟨comp, c9, k9, f1, f2, f3, f4, f5⟩ := arrayOverA_spec hE.2.2.1
  have hca : c9 = cA := Option.some.inj (f5.symm.trans (hK.2 2 (cA, .array .int) rfl).2)
  subst hca
  have hci : comp = cI := Option.some.inj (f1.symm.trans (hK.2 0 (cI, .int) rfl).2)
  subst hci
  obtain ⟨-, kI, hkI, cIc, hkI2⟩ := (hK.2 0 (comp, .int) rfl).1 0 (fun _ => .null)
  have hlt : (Int32.ofInt j).toNatClampNeg < n := by rw [a_clamp o1]; omega
  refine W.aast hx hb hgA (fun q h => by cases h) (fun h => by cases h) f3 f4 rfl hkI ⟨a_n0 o1 hj0, by rw [arrV_size]; exact hlt⟩ hgQ (fun q h => by cases h) hkI (a_asgn hkI hkI2) rfl rfl hd fun H1 ex z oq => ?_
  have hP1 := hP.set hDs hg (e := .inl (c9, n, .inr (.inr (.inr (.inr (va_up (fun k : Nat => (rv i k).map ad) (Int32.ofInt j).toNatClampNeg (some (ad q)))))))) (by
    show H1[ad i]? = some (vp_cell _ _)
    rw [ex, vp_cell_q, arrV_store]
    congr 2
    funext k
    by_cases hq : k = (Int32.ofInt j).toNatClampNeg
    · subst hq
      simp [updV, va_up, va_rf]
    · simp [updV, va_up, hq]) oq
  have hD1 := hDs.set hg (e := .inl (c9, n, .inr (.inr (.inr (.inr (va_up (fun k : Nat => (rv i k).map ad) (Int32.ofInt j).toNatClampNeg (some (ad q))))))))
  have hee : (a_W comp cL c9 ad sh iv lw rv).set i (ad i, .inl (c9, n, .inr (.inr (.inr (.inr (va_up (fun k : Nat => (rv i k).map ad) (Int32.ofInt j).toNatClampNeg (some (ad q)))))))) = a_W comp cL c9 ad sh iv lw (uP rv i j (some q)) := by
    refine a_W_set (a_lt hsh) ?_ (fun z hz => a_cell_ne (fun _ => rfl) (fun _ => rfl) (fun k => a_uP_ne (Or.inl hz)))
    rw [a_cell_2 hsh, a_clamp o1]
    congr 7
    funext k
    unfold va_up uP
    by_cases ex : k = j.toNat
    · rw [if_pos ex, if_pos ⟨rfl, by omega⟩]; rfl
    · rw [if_neg ex, if_neg (fun z => ex (by omega))]
  rw [hee] at hP1 hD1
  exact kk p l e s m args below meth c D comp cL c9 xd A mc ms ad0 n0 hC ad H1 _ cells slots jls ⟨h1, h2, hP1, hD1, (hS.put z oq (hDs.2 i _ hg)), hc, hs, hl, a_wf_P hw (fun z hz => by cases hz; exact o0), ho, hol⟩
theorem wp_copy {idx i0 i1 n0' n1 : Nat} {sp dp nn : Int} (hd : decode M.2.1 pc = .ok (.invokestatic idx, 3)) (hf : Cond.methodLink M.1.cls idx arraycopyName ∈ aG) (hs0 : sh[i0]? = some (0, n0')) (hs1 : sh[i1]? = some (0, n1)) (hd0 : 1 ≤ d) (q1 : 0 ≤ sp) (q2 : 0 ≤ dp) (q3 : 0 ≤ nn) (q4 : sp + nn ≤ n0') (q5 : dp + nn ≤ n1) (hwt : (st.map (fun v => (a_val id id v).category)).sum ≤ 8 := by exact Nat.le_of_ble_eq_true rfl) (kk : wp d M (pc + 3) ls st sh (uA iv i1 (cpyI (iv i0) (iv i1) sp dp nn)) lw rv bc bs R) : wp d M pc ls (aI nn :: aI dp :: aR i1 :: aI sp :: aR i0 :: st) sh iv lw rv bc bs R := by
  intro p l e s m args below meth c D cI cL cA xd A mc ms ad0 n0 hC ad H locs cells slots jls hD
  obtain ⟨hx, hb, hml, hr, hlk, hown, hnm, hts, hK, hE, hA⟩ := id hC
  obtain ⟨h1, h2, hP, hDs, hS, hc, hs, hl, hw, ho, hol⟩ := hD
  obtain ⟨o0, hoo⟩ := List.forall_mem_cons.mp ho
  clear ho
  have ho := hoo
  clear hoo
  obtain ⟨o1, hoo⟩ := List.forall_mem_cons.mp ho
  clear ho
  have ho := hoo
  clear hoo
  obtain ⟨o2, hoo⟩ := List.forall_mem_cons.mp ho
  clear ho
  have ho := hoo
  clear hoo
  obtain ⟨o3, hoo⟩ := List.forall_mem_cons.mp ho
  clear ho
  have ho := hoo
  clear hoo
  obtain ⟨o4, hoo⟩ := List.forall_mem_cons.mp ho
  clear ho
  have ho := hoo
  clear hoo
  have hg0 := a_W_get (cI := cI) (cL := cL) (cA := cA) (ad := ad) (iv := iv) (lw := lw) (rv := rv) (a_lt hs0)
  rw [a_cell_0 hs0] at hg0
  have hg1 := a_W_get (cI := cI) (cL := cL) (cA := cA) (ad := ad) (iv := iv) (lw := lw) (rv := rv) (a_lt hs1)
  rw [a_cell_0 hs1] at hg1
  refine va_copyi (ty := .int) hx hb (by rw [hml, hl.2.1]) hown (hts _ hf) (hts _ q_cpy.1) (hts _ q_cpy.2.1) (hts _ q_cpy.2.2) hK hP hDs hS i0 i1 0 0 hg0 hg1 rfl rfl rfl (a_n0 o3 q1) (a_n0 o1 q2) (a_n0 o0 q3) (by rw [a_clamp o3, a_clamp o0]; omega) (by rw [a_clamp o1, a_clamp o0]; omega) (fun _ _ => rfl) hd0 (by rw [a_cat]; show _ + (a_cpw + 11) ≤ 64 * d; have := a_cpw_le; omega) hd (fun H1 locs1 hP1 hD1 hS1 => ?_)
  rw [a_clamp o3, a_clamp o1, a_clamp o0, a_W_cpy hs1 q1 q2 q3] at hP1 hD1
  exact kk p l e s m args below meth c D cI cL cA xd A mc ms ad0 n0 hC ad H1 locs1 cells slots jls ⟨h1, h2, hP1, hD1, hS1, hc, hs, hl, a_wf_A hw (a_cpy_r (hw.1 i0) (hw.1 i1)), ho, hol⟩
theorem wp_obj {idx b : Nat} (hd : decode M.2.1 pc = .ok (.invokespecial idx, 3)) (hf : Cond.methodLink M.1.cls idx Lib.objectInit ∈ aG) (hd0 : 1 ≤ d) (hwt : (st.map (fun v => (a_val id id v).category)).sum ≤ 8 := by exact Nat.le_of_ble_eq_true rfl) (kk : wp d M (pc + 3) ls st sh iv lw rv bc bs R) : wp d M pc ls (aR b :: st) sh iv lw rv bc bs R := by
  intro p l e s m args below meth c D cI cL cA xd A mc ms ad0 n0 hC ad H locs cells slots jls hD
  obtain ⟨hx, hb, hml, hr, hlk, hown, hnm, hts, hK, hE, hA⟩ := id hC
  obtain ⟨h1, h2, hP, hDs, hS, hc, hs, hl, hw, ho, hol⟩ := hD
  obtain ⟨o0, hoo⟩ := List.forall_mem_cons.mp ho
  clear ho
  have ho := hoo
  clear hoo
  refine W.objInit (a := ad b) (rest := st.map (a_val ad xd)) hx hb hown (hts _ hf) (hts _ q_obj.1) (hts _ q_obj.2) rfl (by rw [hml]; exact hl.2.1) rfl hd hd0 (by rw [a_cat]; show 2 * 0 + _ + 12 ≤ 64 * d; omega) ?_
  exact kk p l e s m args below meth c D cI cL cA xd A mc ms ad0 n0 hC ad H locs cells slots jls ⟨h1, h2, hP, hDs, hS, hc, hs, hl, hw, ho, hol⟩
theorem wp_ladd {x y : Int} (hd : decode M.2.1 pc = .ok (.ladd, 1)) (k : wp d M (pc + 1) ls (aL (wL (x + y)) :: st) sh iv lw rv bc bs R) : wp d M pc ls (aL y :: aL x :: st) sh iv lw rv bc bs R := by
  intro p l e s m args below meth c D cI cL cA xd A mc ms ad0 n0 hC ad H locs cells slots jls hD
  obtain ⟨hx, hb, hml, hr, hlk, hown, hnm, hts, hK, hE, hA⟩ := id hC
  obtain ⟨h1, h2, hP, hDs, hS, hc, hs, hl, hw, ho, hol⟩ := hD
  obtain ⟨o0, hoo⟩ := List.forall_mem_cons.mp ho
  clear ho
  have ho := hoo
  clear hoo
  obtain ⟨o1, hoo⟩ := List.forall_mem_cons.mp ho
  clear ho
  have ho := hoo
  clear hoo
  have hq : lR (wL (x + y)) := wL_r _
  refine lv_ladd hx hb hd ?_
  rw [← Int64.ofInt_add, ← wL_of]
  exact k p l e s m args below meth c D cI cL cA xd A mc ms ad0 n0 hC ad H locs cells slots jls ⟨h1, h2, hP, hDs, hS, hc, hs, hl, hw, List.forall_mem_cons.mpr ⟨hq, ho⟩, hol⟩
theorem wp_lsub {x y : Int} (hd : decode M.2.1 pc = .ok (.lsub, 1)) (hq : lR (x - y)) (k : wp d M (pc + 1) ls (aL (x - y) :: st) sh iv lw rv bc bs R) : wp d M pc ls (aL y :: aL x :: st) sh iv lw rv bc bs R := by
  intro p l e s m args below meth c D cI cL cA xd A mc ms ad0 n0 hC ad H locs cells slots jls hD
  obtain ⟨hx, hb, hml, hr, hlk, hown, hnm, hts, hK, hE, hA⟩ := id hC
  obtain ⟨h1, h2, hP, hDs, hS, hc, hs, hl, hw, ho, hol⟩ := hD
  obtain ⟨o0, hoo⟩ := List.forall_mem_cons.mp ho
  clear ho
  have ho := hoo
  clear hoo
  obtain ⟨o1, hoo⟩ := List.forall_mem_cons.mp ho
  clear ho
  have ho := hoo
  clear hoo
  refine lv_lsub hx hb hd ?_
  rw [← Int64.ofInt_sub]
  exact k p l e s m args below meth c D cI cL cA xd A mc ms ad0 n0 hC ad H locs cells slots jls ⟨h1, h2, hP, hDs, hS, hc, hs, hl, hw, List.forall_mem_cons.mpr ⟨hq, ho⟩, hol⟩
theorem wp_ladd_n {x y : Int} (hd : decode M.2.1 pc = .ok (.ladd, 1)) (hq : lR (x + y)) (k : wp d M (pc + 1) ls (aL (x + y) :: st) sh iv lw rv bc bs R) : wp d M pc ls (aL y :: aL x :: st) sh iv lw rv bc bs R := by
  intro p l e s m args below meth c D cI cL cA xd A mc ms ad0 n0 hC ad H locs cells slots jls hD
  obtain ⟨hx, hb, hml, hr, hlk, hown, hnm, hts, hK, hE, hA⟩ := id hC
  obtain ⟨h1, h2, hP, hDs, hS, hc, hs, hl, hw, ho, hol⟩ := hD
  obtain ⟨o0, hoo⟩ := List.forall_mem_cons.mp ho
  clear ho
  have ho := hoo
  clear hoo
  obtain ⟨o1, hoo⟩ := List.forall_mem_cons.mp ho
  clear ho
  have ho := hoo
  clear hoo
  refine lv_ladd hx hb hd ?_
  rw [← Int64.ofInt_add]
  exact k p l e s m args below meth c D cI cL cA xd A mc ms ad0 n0 hC ad H locs cells slots jls ⟨h1, h2, hP, hDs, hS, hc, hs, hl, hw, List.forall_mem_cons.mpr ⟨hq, ho⟩, hol⟩
theorem wp_lmul {x y : Int} (hd : decode M.2.1 pc = .ok (.lmul, 1)) (k : wp d M (pc + 1) ls (aL (wL (x * y)) :: st) sh iv lw rv bc bs R) : wp d M pc ls (aL y :: aL x :: st) sh iv lw rv bc bs R := by
  intro p l e s m args below meth c D cI cL cA xd A mc ms ad0 n0 hC ad H locs cells slots jls hD
  obtain ⟨hx, hb, hml, hr, hlk, hown, hnm, hts, hK, hE, hA⟩ := id hC
  obtain ⟨h1, h2, hP, hDs, hS, hc, hs, hl, hw, ho, hol⟩ := hD
  obtain ⟨o0, hoo⟩ := List.forall_mem_cons.mp ho
  clear ho
  have ho := hoo
  clear hoo
  obtain ⟨o1, hoo⟩ := List.forall_mem_cons.mp ho
  clear ho
  have ho := hoo
  clear hoo
  have hq : lR (wL (x * y)) := wL_r _
  refine lv_lmul hx hb hd ?_
  rw [← Int64.ofInt_mul, ← wL_of]
  exact k p l e s m args below meth c D cI cL cA xd A mc ms ad0 n0 hC ad H locs cells slots jls ⟨h1, h2, hP, hDs, hS, hc, hs, hl, hw, List.forall_mem_cons.mpr ⟨hq, ho⟩, hol⟩
theorem wp_lmul_n {x y : Int} (hd : decode M.2.1 pc = .ok (.lmul, 1)) (hq : lR (x * y)) (k : wp d M (pc + 1) ls (aL (x * y) :: st) sh iv lw rv bc bs R) : wp d M pc ls (aL y :: aL x :: st) sh iv lw rv bc bs R := by
  intro p l e s m args below meth c D cI cL cA xd A mc ms ad0 n0 hC ad H locs cells slots jls hD
  obtain ⟨hx, hb, hml, hr, hlk, hown, hnm, hts, hK, hE, hA⟩ := id hC
  obtain ⟨h1, h2, hP, hDs, hS, hc, hs, hl, hw, ho, hol⟩ := hD
  obtain ⟨o0, hoo⟩ := List.forall_mem_cons.mp ho
  clear ho
  have ho := hoo
  clear hoo
  obtain ⟨o1, hoo⟩ := List.forall_mem_cons.mp ho
  clear ho
  have ho := hoo
  clear hoo
  refine lv_lmul hx hb hd ?_
  rw [← Int64.ofInt_mul]
  exact k p l e s m args below meth c D cI cL cA xd A mc ms ad0 n0 hC ad H locs cells slots jls ⟨h1, h2, hP, hDs, hS, hc, hs, hl, hw, List.forall_mem_cons.mpr ⟨hq, ho⟩, hol⟩
theorem wp_ldiv {x y : Int} (hd : decode M.2.1 pc = .ok (.ldiv, 1)) (h0 : 0 ≤ x) (hy : 0 < y) (k : wp d M (pc + 1) ls (aL (x / y) :: st) sh iv lw rv bc bs R) : wp d M pc ls (aL y :: aL x :: st) sh iv lw rv bc bs R := by
  intro p l e s m args below meth c D cI cL cA xd A mc ms ad0 n0 hC ad H locs cells slots jls hD
  obtain ⟨hx, hb, hml, hr, hlk, hown, hnm, hts, hK, hE, hA⟩ := id hC
  obtain ⟨h1, h2, hP, hDs, hS, hc, hs, hl, hw, ho, hol⟩ := hD
  obtain ⟨o0, hoo⟩ := List.forall_mem_cons.mp ho
  clear ho
  have ho := hoo
  clear hoo
  obtain ⟨o1, hoo⟩ := List.forall_mem_cons.mp ho
  clear ho
  have ho := hoo
  clear hoo
  have hq : lR (x / y) := a_div_rL o1 h0 hy
  refine lv_ldiv hx hb hd (a_ne0L o0 hy) ?_
  rw [a_divL o1 o0 h0 hy]
  exact k p l e s m args below meth c D cI cL cA xd A mc ms ad0 n0 hC ad H locs cells slots jls ⟨h1, h2, hP, hDs, hS, hc, hs, hl, hw, List.forall_mem_cons.mpr ⟨hq, ho⟩, hol⟩
theorem wp_lrem {x y : Int} (hd : decode M.2.1 pc = .ok (.lrem, 1)) (h0 : 0 ≤ x) (hy : 0 < y) (k : wp d M (pc + 1) ls (aL (x % y) :: st) sh iv lw rv bc bs R) : wp d M pc ls (aL y :: aL x :: st) sh iv lw rv bc bs R := by
  intro p l e s m args below meth c D cI cL cA xd A mc ms ad0 n0 hC ad H locs cells slots jls hD
  obtain ⟨hx, hb, hml, hr, hlk, hown, hnm, hts, hK, hE, hA⟩ := id hC
  obtain ⟨h1, h2, hP, hDs, hS, hc, hs, hl, hw, ho, hol⟩ := hD
  obtain ⟨o0, hoo⟩ := List.forall_mem_cons.mp ho
  clear ho
  have ho := hoo
  clear hoo
  obtain ⟨o1, hoo⟩ := List.forall_mem_cons.mp ho
  clear ho
  have ho := hoo
  clear hoo
  have hq : lR (x % y) := a_mod_rL o0 h0 hy
  refine lv_lrem hx hb hd (a_ne0L o0 hy) ?_
  rw [a_remL o1 o0 h0 hy]
  exact k p l e s m args below meth c D cI cL cA xd A mc ms ad0 n0 hC ad H locs cells slots jls ⟨h1, h2, hP, hDs, hS, hc, hs, hl, hw, List.forall_mem_cons.mpr ⟨hq, ho⟩, hol⟩
theorem wp_lushr33 {x : Int} (hd : decode M.2.1 pc = .ok (.lushr, 1)) (k : wp d M (pc + 1) ls (aL (x % 18446744073709551616 / 8589934592) :: st) sh iv lw rv bc bs R) : wp d M pc ls (aI 33 :: aL x :: st) sh iv lw rv bc bs R := by
  intro p l e s m args below meth c D cI cL cA xd A mc ms ad0 n0 hC ad H locs cells slots jls hD
  obtain ⟨hx, hb, hml, hr, hlk, hown, hnm, hts, hK, hE, hA⟩ := id hC
  obtain ⟨h1, h2, hP, hDs, hS, hc, hs, hl, hw, ho, hol⟩ := hD
  obtain ⟨o0, hoo⟩ := List.forall_mem_cons.mp ho
  clear ho
  have ho := hoo
  clear hoo
  obtain ⟨o1, hoo⟩ := List.forall_mem_cons.mp ho
  clear ho
  have ho := hoo
  clear hoo
  refine lv_lushr hx hb hd a_ushr33 ?_
  exact k p l e s m args below meth c D cI cL cA xd A mc ms ad0 n0 hC ad H locs cells slots jls ⟨h1, h2, hP, hDs, hS, hc, hs, hl, hw, List.forall_mem_cons.mpr ⟨a_ushr33_r x, ho⟩, hol⟩
theorem wp_i2l {x : Int} (hd : decode M.2.1 pc = .ok (.i2l, 1)) (k : wp d M (pc + 1) ls (aL x :: st) sh iv lw rv bc bs R) : wp d M pc ls (aI x :: st) sh iv lw rv bc bs R := by
  intro p l e s m args below meth c D cI cL cA xd A mc ms ad0 n0 hC ad H locs cells slots jls hD
  obtain ⟨hx, hb, hml, hr, hlk, hown, hnm, hts, hK, hE, hA⟩ := id hC
  obtain ⟨h1, h2, hP, hDs, hS, hc, hs, hl, hw, ho, hol⟩ := hD
  obtain ⟨o0, hoo⟩ := List.forall_mem_cons.mp ho
  clear ho
  have ho := hoo
  clear hoo
  refine lv_i2l hx hb hd (a_i2l o0) ?_
  exact k p l e s m args below meth c D cI cL cA xd A mc ms ad0 n0 hC ad H locs cells slots jls ⟨h1, h2, hP, hDs, hS, hc, hs, hl, hw, List.forall_mem_cons.mpr ⟨(show lR x from ⟨by have := (show iR x from o0).1; omega, by have := (show iR x from o0).2; omega⟩), ho⟩, hol⟩
theorem wp_l2i {x : Int} (hd : decode M.2.1 pc = .ok (.l2i, 1)) (hr : iR x) (k : wp d M (pc + 1) ls (aI x :: st) sh iv lw rv bc bs R) : wp d M pc ls (aL x :: st) sh iv lw rv bc bs R := by
  intro p l e s m args below meth c D cI cL cA xd A mc ms ad0 n0 hC ad H locs cells slots jls hD
  obtain ⟨hx, hb, hml, hr, hlk, hown, hnm, hts, hK, hE, hA⟩ := id hC
  obtain ⟨h1, h2, hP, hDs, hS, hc, hs, hl, hw, ho, hol⟩ := hD
  obtain ⟨o0, hoo⟩ := List.forall_mem_cons.mp ho
  clear ho
  have ho := hoo
  clear hoo
  refine lv_l2i hx hb hd (a_l2i ‹iR x›) ?_
  exact k p l e s m args below meth c D cI cL cA xd A mc ms ad0 n0 hC ad H locs cells slots jls ⟨h1, h2, hP, hDs, hS, hc, hs, hl, hw, List.forall_mem_cons.mpr ⟨‹iR x›, ho⟩, hol⟩
theorem wp_i2c {x : Int} (hd : decode M.2.1 pc = .ok (.i2c, 1)) (hx0 : 0 ≤ x) (hx1 : x < 65536) (k : wp d M (pc + 1) ls (aI x :: st) sh iv lw rv bc bs R) : wp d M pc ls (aI x :: st) sh iv lw rv bc bs R := by
  intro p l e s m args below meth c D cI cL cA xd A mc ms ad0 n0 hC ad H locs cells slots jls hD
  obtain ⟨hx, hb, hml, hr, hlk, hown, hnm, hts, hK, hE, hA⟩ := id hC
  obtain ⟨h1, h2, hP, hDs, hS, hc, hs, hl, hw, ho, hol⟩ := hD
  obtain ⟨o0, hoo⟩ := List.forall_mem_cons.mp ho
  clear ho
  have ho := hoo
  clear hoo
  refine lv_i2c hx hb hd (a_i2c hx0 hx1) ?_
  exact k p l e s m args below meth c D cI cL cA xd A mc ms ad0 n0 hC ad H locs cells slots jls ⟨h1, h2, hP, hDs, hS, hc, hs, hl, hw, List.forall_mem_cons.mpr ⟨o0, ho⟩, hol⟩
theorem wp_lcmp {x y : Int} (hd : decode M.2.1 pc = .ok (.lcmp, 1)) (k : wp d M (pc + 1) ls (aI (if x = y then 0 else if y < x then 1 else -1) :: st) sh iv lw rv bc bs R) : wp d M pc ls (aL y :: aL x :: st) sh iv lw rv bc bs R := by
  intro p l e s m args below meth c D cI cL cA xd A mc ms ad0 n0 hC ad H locs cells slots jls hD
  obtain ⟨hx, hb, hml, hr, hlk, hown, hnm, hts, hK, hE, hA⟩ := id hC
  obtain ⟨h1, h2, hP, hDs, hS, hc, hs, hl, hw, ho, hol⟩ := hD
  obtain ⟨o0, hoo⟩ := List.forall_mem_cons.mp ho
  clear ho
  have ho := hoo
  clear hoo
  obtain ⟨o1, hoo⟩ := List.forall_mem_cons.mp ho
  clear ho
  have ho := hoo
  clear hoo
  refine W.lcmp hx hb hd ?_
  have ee : lg_cmp (Int64.ofInt x) (Int64.ofInt y) = Int32.ofInt (if x = y then 0 else if y < x then 1 else -1) := by
    unfold lg_cmp
    by_cases e1 : x = y
    · subst e1
      rw [if_pos rfl]
      simp [Int64.lt_irrefl]
    · by_cases e2 : y < x
      · rw [if_neg e1, if_pos e2]
        have := (a_ltL o0 o1).mpr e2
        simp [this]
      · have h3 : x < y := by omega
        have h4 := (a_ltL o1 o0).mpr h3
        have h5 : ¬ Int64.ofInt y < Int64.ofInt x := fun q => e2 ((a_ltL o0 o1).mp q)
        have h6 : ¬ Int64.ofInt x = Int64.ofInt y := fun q => e1 ((a_injL o1 o0).mp q)
        rw [if_neg e1, if_neg e2]
        simp [h5, h6, h4]
  rw [ee]
  exact k p l e s m args below meth c D cI cL cA xd A mc ms ad0 n0 hC ad H locs cells slots jls ⟨h1, h2, hP, hDs, hS, hc, hs, hl, hw, List.forall_mem_cons.mpr ⟨(by split; exact a_r0; split <;> exact ⟨by decide, by decide⟩), ho⟩, hol⟩
theorem wp_ldc {idx : Nat} {v : Int} {w : Int32} (hd : decode M.2.1 pc = .ok (.ldc idx, 2)) (hf : Cond.constant M.1.cls idx w ∈ aG) (hv : Int32.ofInt v = w) (hvr : iR v) (k : wp d M (pc + 2) ls (aI v :: st) sh iv lw rv bc bs R) : wp d M pc ls st sh iv lw rv bc bs R := by
  intro p l e s m args below meth c D cI cL cA xd A mc ms ad0 n0 hC ad H locs cells slots jls hD
  obtain ⟨hx, hb, hml, hr, hlk, hown, hnm, hts, hK, hE, hA⟩ := id hC
  obtain ⟨h1, h2, hP, hDs, hS, hc, hs, hl, hw, ho, hol⟩ := hD
  subst hv
  refine lv_ldc hx hb hown (hts _ hf) hd ?_
  exact k p l e s m args below meth c D cI cL cA xd A mc ms ad0 n0 hC ad H locs cells slots jls ⟨h1, h2, hP, hDs, hS, hc, hs, hl, hw, List.forall_mem_cons.mpr ⟨hvr, ho⟩, hol⟩
theorem wp_ldcw {idx : Nat} {v : Int} {w : Int32} (hd : decode M.2.1 pc = .ok (.ldc_w idx, 3)) (hf : Cond.constant M.1.cls idx w ∈ aG) (hv : Int32.ofInt v = w) (hvr : iR v) (k : wp d M (pc + 3) ls (aI v :: st) sh iv lw rv bc bs R) : wp d M pc ls st sh iv lw rv bc bs R := by
  intro p l e s m args below meth c D cI cL cA xd A mc ms ad0 n0 hC ad H locs cells slots jls hD
  obtain ⟨hx, hb, hml, hr, hlk, hown, hnm, hts, hK, hE, hA⟩ := id hC
  obtain ⟨h1, h2, hP, hDs, hS, hc, hs, hl, hw, ho, hol⟩ := hD
  subst hv
  refine lv_ldcw hx hb hown (hts _ hf) hd ?_
  exact k p l e s m args below meth c D cI cL cA xd A mc ms ad0 n0 hC ad H locs cells slots jls ⟨h1, h2, hP, hDs, hS, hc, hs, hl, hw, List.forall_mem_cons.mpr ⟨hvr, ho⟩, hol⟩
theorem wp_ldc2 {idx : Nat} {v : Int} {w : Int64} (hd : decode M.2.1 pc = .ok (.ldc2_w idx, 3)) (hf : Cond.constantLong M.1.cls idx w ∈ aG) (hv : Int64.ofInt v = w) (hvr : lR v) (k : wp d M (pc + 3) ls (aL v :: st) sh iv lw rv bc bs R) : wp d M pc ls st sh iv lw rv bc bs R := by
  intro p l e s m args below meth c D cI cL cA xd A mc ms ad0 n0 hC ad H locs cells slots jls hD
  obtain ⟨hx, hb, hml, hr, hlk, hown, hnm, hts, hK, hE, hA⟩ := id hC
  obtain ⟨h1, h2, hP, hDs, hS, hc, hs, hl, hw, ho, hol⟩ := hD
  subst hv
  refine lv_ldc2 hx hb hown (hts _ hf) hd ?_
  exact k p l e s m args below meth c D cI cL cA xd A mc ms ad0 n0 hC ad H locs cells slots jls ⟨h1, h2, hP, hDs, hS, hc, hs, hl, hw, List.forall_mem_cons.mpr ⟨hvr, ho⟩, hol⟩
end WPM
