def a_kty (t : Nat) (ty : FieldType) : Prop := match t with
  | 0 => ty = .int
  | 1 => ty = .boolean
  | 2 => ty = .long
  | _ => (∃ n, ty = .object n) ∨ ∃ u, ty = .array u
def a_cls (ci : Nat) (C : String) (T : u_T) (N : Nat) (ty0 : Nat → FieldType) : Prop :=
  vwCl[ci]? = some (C, T, N) ∧ (∀ w ∈ u_ws C T N, w ∈ aG) ∧ (∀ k, k < N → parseFieldDescriptor (T k).2.2.1 = some (ty0 k)) ∧ (∀ a, a < N → ∀ b, b < N → a ≠ b → (T a).2.1 ≠ (T b).2.1) ∧ (a_ft ci).length = N ∧ ∀ k, k < N → a_kty ((a_ft ci).getD k 0) (ty0 k)
/-- the pool's entry idx of the owner's file names field k (kz) of kind ci, of type t -/
def a_fl (own : String) (idx ci k : Nat) (kz : Int) (t : Nat) (fin : Bool) : Prop := ∃ (C : String) (T : u_T) (N : Nat) (ty0 : Nat → FieldType), a_cls ci C T N ty0 ∧ k < N ∧ (k : Int) = kz ∧ (a_ft ci)[k]? = some t ∧ (T k).2.2.2 = fin ∧ (T k).1 = C ∧
  (Cond.fieldLink own idx (T k).1 (T k).2.1 (T k).2.2.1 ∈ aG ∨ ∃ host, Cond.fieldLinkNest own idx (T k).1 (T k).2.1 (T k).2.2.1 host ∈ lw_tbl)
def a_flF (own : String) (idx ci k : Nat) (kz : Int) (t : Nat) : Prop := ∃ (C : String) (T : u_T) (N : Nat) (ty0 : Nat → FieldType), a_cls ci C T N ty0 ∧ k < N ∧ (k : Int) = kz ∧ (a_ft ci)[k]? = some t ∧ (T k).2.2.2 = true ∧ (T k).1 = own ∧ Cond.fieldLink own idx (T k).1 (T k).2.1 (T k).2.2.1 ∈ aG
theorem a_clamp {j : Int} (hj : iR j) : (Int32.ofInt j).toNatClampNeg = j.toNat := Int32.toNatClampNeg_ofInt_of_le hj.1 hj.2
theorem a_vin {j : Int} {n : Nat} (hj : iR j) (h0 : 0 ≤ j) (h1 : j < n) : vp_in (Int32.ofInt j) n := by
  rw [vp_in_iff, a_toInt hj]; exact ⟨h0, h1⟩
theorem a_uI_self {iv : aF} {i : Nat} {k v : Int} : uI iv i k v i k = v := by simp [uI]
theorem a_uI_ne {iv : aF} {i j : Nat} {k l v : Int} (h : j ≠ i ∨ l ≠ k) : uI iv i k v j l = iv j l := by
  unfold uI; rw [if_neg]; rintro ⟨rfl, rfl⟩; rcases h with h | h <;> exact h rfl
theorem a_uP_self {rv : aP} {i : Nat} {k : Int} {v : Option Nat} : uP rv i k v i k = v := by simp [uP]
theorem a_uP_ne {rv : aP} {i j : Nat} {k l : Int} {v : Option Nat} (h : j ≠ i ∨ l ≠ k) : uP rv i k v j l = rv j l := by
  unfold uP; rw [if_neg]; rintro ⟨rfl, rfl⟩; rcases h with h | h <;> exact h rfl
theorem a_wf_I {n : Nat} {iv lw : aF} {rv : aP} {i : Nat} {k v : Int} (h : a_wf n iv lw rv) (hv : iR v) : a_wf n (uI iv i k v) lw rv := by
  refine ⟨fun a b => ?_, h.2⟩
  unfold uI; split
  · exact hv
  · exact h.1 a b
theorem a_wf_J {n : Nat} {iv lw : aF} {rv : aP} {i : Nat} {k v : Int} (h : a_wf n iv lw rv) (hv : lR v) : a_wf n iv (uI lw i k v) rv := by
  refine ⟨h.1, fun a b => ?_, h.2.2⟩
  unfold uI; split
  · exact hv
  · exact h.2.1 a b
theorem a_wf_P {n : Nat} {iv lw : aF} {rv : aP} {i : Nat} {k : Int} {v : Option Nat} (h : a_wf n iv lw rv) (hv : ∀ j, v = some j → j < n) : a_wf n iv lw (uP rv i k v) := by
  refine ⟨h.1, h.2.1, fun a b j hj => ?_⟩
  unfold uP at hj; split at hj
  · exact hv j hj
  · exact h.2.2 a b j hj
theorem a_wf_A {n : Nat} {iv lw : aF} {rv : aP} {i : Nat} {f : Int → Int} (h : a_wf n iv lw rv) (hv : ∀ k, iR (f k)) : a_wf n (uA iv i f) lw rv := by
  refine ⟨fun a b => ?_, h.2⟩
  unfold uA; split
  · exact hv b
  · exact h.1 a b
/-- one int of an array is written -/
theorem a_W_ia {cI cL cA : ClassId} {ad : Nat → Nat} {sh : aSh} {iv lw : aF} {rv : aP} {i n : Nat} {j v : Int} (h : sh[i]? = some (0, n)) (h0 : 0 ≤ j) (hj : iR j) : (a_W cI cL cA ad sh iv lw rv).set i (ad i, .inl (cI, n, .inl (upd (fun k => Int32.ofInt (iv i k)) (Int32.ofInt j).toNatClampNeg (Int32.ofInt v)))) = a_W cI cL cA ad sh (uI iv i j v) lw rv := by
  refine a_W_set (a_lt h) ?_ (fun q hq => a_cell_ne (fun k => a_uI_ne (Or.inl hq)) (fun _ => rfl) (fun _ => rfl))
  rw [a_cell_0 h, a_clamp hj]
  congr 4
  funext k
  unfold upd uI
  by_cases e : k = j.toNat
  · rw [if_pos e, if_pos ⟨rfl, by omega⟩]
  · rw [if_neg e, if_neg (fun q => e (by omega))]
theorem a_W_put {cI cL cA : ClassId} {ad : Nat → Nat} {sh : aSh} {iv lw iv' lw' : aF} {rv rv' : aP} {i ci k t : Nat} {v : Value} (h : sh[i]? = some (3, ci)) (ht : (a_ft ci)[k]? = some t) (hv : a_fv ad iv' lw' rv' i t k = v) (h1 : ∀ a b, a ≠ i ∨ b ≠ (k : Int) → iv' a b = iv a b) (h2 : ∀ a b, a ≠ i ∨ b ≠ (k : Int) → lw' a b = lw a b) (h3 : ∀ a b, a ≠ i ∨ b ≠ (k : Int) → rv' a b = rv a b) :
    (a_W cI cL cA ad sh iv lw rv).set i (ad i, .inr (ci, (a_fs ad iv lw rv i (a_ft ci)).set k v)) = a_W cI cL cA ad sh iv' lw' rv' := by
  refine a_W_set (a_lt h) ?_ (fun q hq => a_cell_ne (fun b => h1 _ _ (Or.inl hq)) (fun b => h2 _ _ (Or.inl hq)) (fun b => h3 _ _ (Or.inl hq)))
  rw [a_cell_3 h, a_fs_set ht hv (fun j hj => h1 _ _ (Or.inr (by omega))) (fun j hj => h2 _ _ (Or.inr (by omega))) (fun j hj => h3 _ _ (Or.inr (by omega)))]
theorem a_xl_r (q : Nat) (hq : q < 6) (k : Nat) : iR ((aXl q).getD k 0) := by
  have h : ∀ q : Fin 6, ∀ z ∈ aXl q.val, -2147483648 ≤ z ∧ z < 2147483648 := by decide
  by_cases hk : k < (aXl q).length
  · have := h ⟨q, hq⟩ ((aXl q)[k]) (List.getElem_mem hk)
    simpa [List.getD, hk, iR] using this
  · have e : (aXl q)[k]? = none := List.getElem?_eq_none (by omega)
    simp [List.getD, e]; exact a_r0
theorem a_cat (ad xd : Nat → Nat) (st : List aV) : ((st.map (a_val ad xd)).map fun v => v.category).sum = (st.map (fun v => (a_val id id v).category)).sum := by
  rw [List.map_map]
  congr 2
  funext v
  rcases v with v | v | _ | v | v <;> rfl
section WPH
variable {d : Nat} {M : aMth} {pc : Nat} {ls ls' : List (Option aV)} {st : List aV} {sh : aSh} {iv lw : aF} {rv : aP} {bc bs : Nat} {R : aPost}
theorem wp_getI {i idx ci k : Nat} {kz : Int} {fin : Bool} (hd : decode M.2.1 pc = .ok (.getfield idx, 3)) (hf : a_fl M.1.cls idx ci k kz 0 fin) (hsh : sh[i]? = some (3, ci)) (kk : wp d M (pc + 3) ls (aI (iv i kz) :: st) sh iv lw rv bc bs R) : wp d M pc ls (aR i :: st) sh iv lw rv bc bs R := by
  intro p l e s m args below meth c D cI cL cA xd A mc ms ad0 n0 hC ad H locs cells slots jls hD
  obtain ⟨hx, hb, hml, hr, hlk, hown, hnm, hts, hK, hE, hA⟩ := id hC
  obtain ⟨h1, h2, hP, hDs, hS, hc, hs, hl, hw, ho, hol⟩ := hD
  obtain ⟨o0, hoo⟩ := List.forall_mem_cons.mp ho
  clear ho
  have ho := hoo
  clear hoo
  obtain ⟨C, T, N, ty0, ⟨c1, c2, c3, c4, c5, c6⟩, hk, rfl, ht, hfin, hdecl, hlink⟩ := hf
  have hg := a_W_get (cI := cI) (cL := cL) (cA := cA) (ad := ad) (iv := iv) (lw := lw) (rv := rv) (a_lt hsh)
  rw [a_cell_3 hsh] at hg
  have hv0 := a_fs_get (ad := ad) (iv := iv) (lw := lw) (rv := rv) (i := i) ht
  rcases hlink with hl1 | ⟨host, hl1⟩
  · refine va_get (D := D) hx hb hts c2 hown hK hP i hg c1 k hk (hts _ hl1) (fun _ h => h) hv0 hd ?_
    exact kk p l e s m args below meth c D cI cL cA xd A mc ms ad0 n0 hC ad H locs cells slots jls ⟨h1, h2, hP, hDs, hS, hc, hs, hl, hw, List.forall_mem_cons.mpr ⟨hw.1 _ _, ho⟩, hol⟩
  · refine va_getN (D := D) hx hb hts c2 hown hK hP i hg c1 k hk (va_Nw.use rfl (hE.1 _ hl1 rfl)) (fun _ h => h) hv0 hd ?_
    exact kk p l e s m args below meth c D cI cL cA xd A mc ms ad0 n0 hC ad H locs cells slots jls ⟨h1, h2, hP, hDs, hS, hc, hs, hl, hw, List.forall_mem_cons.mpr ⟨hw.1 _ _, ho⟩, hol⟩
theorem wp_getZ {i idx ci k : Nat} {kz : Int} {fin : Bool} (hd : decode M.2.1 pc = .ok (.getfield idx, 3)) (hf : a_fl M.1.cls idx ci k kz 1 fin) (hsh : sh[i]? = some (3, ci)) (kk : wp d M (pc + 3) ls (aI (iv i kz) :: st) sh iv lw rv bc bs R) : wp d M pc ls (aR i :: st) sh iv lw rv bc bs R := by
  intro p l e s m args below meth c D cI cL cA xd A mc ms ad0 n0 hC ad H locs cells slots jls hD
  obtain ⟨hx, hb, hml, hr, hlk, hown, hnm, hts, hK, hE, hA⟩ := id hC
  obtain ⟨h1, h2, hP, hDs, hS, hc, hs, hl, hw, ho, hol⟩ := hD
  obtain ⟨o0, hoo⟩ := List.forall_mem_cons.mp ho
  clear ho
  have ho := hoo
  clear hoo
  obtain ⟨C, T, N, ty0, ⟨c1, c2, c3, c4, c5, c6⟩, hk, rfl, ht, hfin, hdecl, hlink⟩ := hf
  have hg := a_W_get (cI := cI) (cL := cL) (cA := cA) (ad := ad) (iv := iv) (lw := lw) (rv := rv) (a_lt hsh)
  rw [a_cell_3 hsh] at hg
  have hv0 := a_fs_get (ad := ad) (iv := iv) (lw := lw) (rv := rv) (i := i) ht
  rcases hlink with hl1 | ⟨host, hl1⟩
  · refine va_get (D := D) hx hb hts c2 hown hK hP i hg c1 k hk (hts _ hl1) (fun _ h => h) hv0 hd ?_
    exact kk p l e s m args below meth c D cI cL cA xd A mc ms ad0 n0 hC ad H locs cells slots jls ⟨h1, h2, hP, hDs, hS, hc, hs, hl, hw, List.forall_mem_cons.mpr ⟨hw.1 _ _, ho⟩, hol⟩
  · refine va_getN (D := D) hx hb hts c2 hown hK hP i hg c1 k hk (va_Nw.use rfl (hE.1 _ hl1 rfl)) (fun _ h => h) hv0 hd ?_
    exact kk p l e s m args below meth c D cI cL cA xd A mc ms ad0 n0 hC ad H locs cells slots jls ⟨h1, h2, hP, hDs, hS, hc, hs, hl, hw, List.forall_mem_cons.mpr ⟨hw.1 _ _, ho⟩, hol⟩
theorem wp_getL {i idx ci k : Nat} {kz : Int} {fin : Bool} (hd : decode M.2.1 pc = .ok (.getfield idx, 3)) (hf : a_fl M.1.cls idx ci k kz 2 fin) (hsh : sh[i]? = some (3, ci)) (kk : wp d M (pc + 3) ls (aL (lw i kz) :: st) sh iv lw rv bc bs R) : wp d M pc ls (aR i :: st) sh iv lw rv bc bs R := by
  intro p l e s m args below meth c D cI cL cA xd A mc ms ad0 n0 hC ad H locs cells slots jls hD
  obtain ⟨hx, hb, hml, hr, hlk, hown, hnm, hts, hK, hE, hA⟩ := id hC
  obtain ⟨h1, h2, hP, hDs, hS, hc, hs, hl, hw, ho, hol⟩ := hD
  obtain ⟨o0, hoo⟩ := List.forall_mem_cons.mp ho
  clear ho
  have ho := hoo
  clear hoo
  obtain ⟨C, T, N, ty0, ⟨c1, c2, c3, c4, c5, c6⟩, hk, rfl, ht, hfin, hdecl, hlink⟩ := hf
  have hg := a_W_get (cI := cI) (cL := cL) (cA := cA) (ad := ad) (iv := iv) (lw := lw) (rv := rv) (a_lt hsh)
  rw [a_cell_3 hsh] at hg
  have hv0 := a_fs_get (ad := ad) (iv := iv) (lw := lw) (rv := rv) (i := i) ht
  rcases hlink with hl1 | ⟨host, hl1⟩
  · refine va_get (D := D) hx hb hts c2 hown hK hP i hg c1 k hk (hts _ hl1) (fun _ h => h) hv0 hd ?_
    exact kk p l e s m args below meth c D cI cL cA xd A mc ms ad0 n0 hC ad H locs cells slots jls ⟨h1, h2, hP, hDs, hS, hc, hs, hl, hw, List.forall_mem_cons.mpr ⟨hw.2.1 _ _, ho⟩, hol⟩
  · refine va_getN (D := D) hx hb hts c2 hown hK hP i hg c1 k hk (va_Nw.use rfl (hE.1 _ hl1 rfl)) (fun _ h => h) hv0 hd ?_
    exact kk p l e s m args below meth c D cI cL cA xd A mc ms ad0 n0 hC ad H locs cells slots jls ⟨h1, h2, hP, hDs, hS, hc, hs, hl, hw, List.forall_mem_cons.mpr ⟨hw.2.1 _ _, ho⟩, hol⟩
theorem wp_getR {i idx ci k : Nat} {kz : Int} {fin : Bool} {q : Nat} (hq : rv i kz = some q) (hd : decode M.2.1 pc = .ok (.getfield idx, 3)) (hf : a_fl M.1.cls idx ci k kz 3 fin) (hsh : sh[i]? = some (3, ci)) (kk : wp d M (pc + 3) ls (aR q :: st) sh iv lw rv bc bs R) : wp d M pc ls (aR i :: st) sh iv lw rv bc bs R := by
  intro p l e s m args below meth c D cI cL cA xd A mc ms ad0 n0 hC ad H locs cells slots jls hD
  obtain ⟨hx, hb, hml, hr, hlk, hown, hnm, hts, hK, hE, hA⟩ := id hC
  obtain ⟨h1, h2, hP, hDs, hS, hc, hs, hl, hw, ho, hol⟩ := hD
  obtain ⟨o0, hoo⟩ := List.forall_mem_cons.mp ho
  clear ho
  have ho := hoo
  clear hoo
  obtain ⟨C, T, N, ty0, ⟨c1, c2, c3, c4, c5, c6⟩, hk, rfl, ht, hfin, hdecl, hlink⟩ := hf
  have hg := a_W_get (cI := cI) (cL := cL) (cA := cA) (ad := ad) (iv := iv) (lw := lw) (rv := rv) (a_lt hsh)
  rw [a_cell_3 hsh] at hg
  have hv0 := a_fs_get (ad := ad) (iv := iv) (lw := lw) (rv := rv) (i := i) ht
  have ee : a_fv ad iv lw rv i 3 k = .ref (ad q) := by show va_rf ((rv i k).map ad) = _; rw [hq]; rfl
  rw [ee] at hv0
  rcases hlink with hl1 | ⟨host, hl1⟩
  · refine va_get (D := D) hx hb hts c2 hown hK hP i hg c1 k hk (hts _ hl1) (fun _ h => h) hv0 hd ?_
    exact kk p l e s m args below meth c D cI cL cA xd A mc ms ad0 n0 hC ad H locs cells slots jls ⟨h1, h2, hP, hDs, hS, hc, hs, hl, hw, List.forall_mem_cons.mpr ⟨hw.2.2 _ _ _ hq, ho⟩, hol⟩
  · refine va_getN (D := D) hx hb hts c2 hown hK hP i hg c1 k hk (va_Nw.use rfl (hE.1 _ hl1 rfl)) (fun _ h => h) hv0 hd ?_
    exact kk p l e s m args below meth c D cI cL cA xd A mc ms ad0 n0 hC ad H locs cells slots jls ⟨h1, h2, hP, hDs, hS, hc, hs, hl, hw, List.forall_mem_cons.mpr ⟨hw.2.2 _ _ _ hq, ho⟩, hol⟩
theorem wp_putI {i idx ci k : Nat} {kz : Int} {x : Int} (hd : decode M.2.1 pc = .ok (.putfield idx, 3)) (hf : a_fl M.1.cls idx ci k kz 0 false) (hsh : sh[i]? = some (3, ci)) (kk : wp d M (pc + 3) ls st sh (uI iv i kz x) lw rv bc bs R) : wp d M pc ls (aI x :: aR i :: st) sh iv lw rv bc bs R := by
  intro p l e s m args below meth c D cI cL cA xd A mc ms ad0 n0 hC ad H locs cells slots jls hD
  obtain ⟨hx, hb, hml, hr, hlk, hown, hnm, hts, hK, hE, hA⟩ := id hC
  obtain ⟨h1, h2, hP, hDs, hS, hc, hs, hl, hw, ho, hol⟩ := hD
  obtain ⟨o0, hoo⟩ := List.forall_mem_cons.mp ho
  clear ho
  have ho := hoo
  clear hoo
  obtain ⟨o1, hoo⟩ := List.forall_mem_cons.mp ho
  clear ho
  have ho := hoo
  clear hoo
  obtain ⟨C, T, N, ty0, ⟨c1, c2, c3, c4, c5, c6⟩, hk, rfl, ht, hfin, hdecl, hlink⟩ := hf
  have hg := a_W_get (cI := cI) (cL := cL) (cA := cA) (ad := ad) (iv := iv) (lw := lw) (rv := rv) (a_lt hsh)
  rw [a_cell_3 hsh] at hg
  have hkt := c6 k hk
  rw [show (a_ft ci).getD k 0 = 0 by simp [List.getD, ht]] at hkt
  have hee := a_W_put (cI := cI) (cL := cL) (cA := cA) (ad := ad) (iv := iv) (lw := lw) (rv := rv) (iv' := uI iv i (k : Int) x) (lw' := lw) (rv' := rv) (v := .int (Int32.ofInt x)) hsh ht (by show Value.int (Int32.ofInt (uI iv i k x i k)) = _; rw [a_uI_self]) (fun a b h => a_uI_ne h) (fun _ _ _ => rfl) (fun _ _ _ => rfl)
  rcases hlink with hl1 | ⟨host, hl1⟩
  · refine va_put (D := D) (v := .int (Int32.ofInt x)) hx hb hts c2 ty0 c3 c4 hown hK hP hDs hS i hg c1 k hk (hts _ hl1) (fun _ h => h) hfin (c3 k hk) (by rw [show ty0 k = .int from hkt]; rfl) (by rw [show ty0 k = .int from hkt]; rfl) (by rw [a_fs_len, c5]; exact hk) hd (fun H1 locs1 hP1 hD1 hS1 => ?_)
    rw [hee] at hP1 hD1
    exact kk p l e s m args below meth c D cI cL cA xd A mc ms ad0 n0 hC ad H1 locs1 cells slots jls ⟨h1, h2, hP1, hD1, hS1, hc, hs, hl, a_wf_I hw o0, ho, hol⟩
  · refine va_putN (D := D) (v := .int (Int32.ofInt x)) hx hb hts c2 ty0 c3 c4 hown hK hP hDs hS i hg c1 k hk (va_Nw.use rfl (hE.1 _ hl1 rfl)) (fun _ h => h) hfin (c3 k hk) (by rw [show ty0 k = .int from hkt]; rfl) (by rw [show ty0 k = .int from hkt]; rfl) (by rw [a_fs_len, c5]; exact hk) hd (fun H1 locs1 hP1 hD1 hS1 => ?_)
    rw [hee] at hP1 hD1
    exact kk p l e s m args below meth c D cI cL cA xd A mc ms ad0 n0 hC ad H1 locs1 cells slots jls ⟨h1, h2, hP1, hD1, hS1, hc, hs, hl, a_wf_I hw o0, ho, hol⟩
theorem wp_putIF {i idx ci k : Nat} {kz : Int} {x : Int} (hd : decode M.2.1 pc = .ok (.putfield idx, 3)) (hf : a_flF M.1.cls idx ci k kz 0) (hsh : sh[i]? = some (3, ci)) (hi : M.1.name = "<init>") (kk : wp d M (pc + 3) ls st sh (uI iv i kz x) lw rv bc bs R) : wp d M pc ls (aI x :: aR i :: st) sh iv lw rv bc bs R := by
  intro p l e s m args below meth c D cI cL cA xd A mc ms ad0 n0 hC ad H locs cells slots jls hD
  obtain ⟨hx, hb, hml, hr, hlk, hown, hnm, hts, hK, hE, hA⟩ := id hC
  obtain ⟨h1, h2, hP, hDs, hS, hc, hs, hl, hw, ho, hol⟩ := hD
  obtain ⟨o0, hoo⟩ := List.forall_mem_cons.mp ho
  clear ho
  have ho := hoo
  clear hoo
  obtain ⟨o1, hoo⟩ := List.forall_mem_cons.mp ho
  clear ho
  have ho := hoo
  clear hoo
  obtain ⟨C, T, N, ty0, ⟨c1, c2, c3, c4, c5, c6⟩, hk, rfl, ht, hfin, hdec, hl1⟩ := hf
  have hg := a_W_get (cI := cI) (cL := cL) (cA := cA) (ad := ad) (iv := iv) (lw := lw) (rv := rv) (a_lt hsh)
  rw [a_cell_3 hsh] at hg
  have hkt := c6 k hk
  rw [show (a_ft ci).getD k 0 = 0 by simp [List.getD, ht]] at hkt
  have hee := a_W_put (cI := cI) (cL := cL) (cA := cA) (ad := ad) (iv := iv) (lw := lw) (rv := rv) (iv' := uI iv i (k : Int) x) (lw' := lw) (rv' := rv) (v := .int (Int32.ofInt x)) hsh ht (by show Value.int (Int32.ofInt (uI iv i k x i k)) = _; rw [a_uI_self]) (fun a b h => a_uI_ne h) (fun _ _ _ => rfl) (fun _ _ _ => rfl)
  have hin2 : meth.name = "<init>" := hnm.trans hi
  · refine va_putF (D := D) (v := .int (Int32.ofInt x)) hx hb hts c2 ty0 c3 c4 hown hK hP hDs hS i hg c1 k hk (hts _ hl1) (fun _ h => h) hfin hin2 hdec (c3 k hk) (by rw [show ty0 k = .int from hkt]; rfl) (by rw [show ty0 k = .int from hkt]; rfl) (by rw [a_fs_len, c5]; exact hk) hd (fun H1 locs1 hP1 hD1 hS1 => ?_)
    rw [hee] at hP1 hD1
    exact kk p l e s m args below meth c D cI cL cA xd A mc ms ad0 n0 hC ad H1 locs1 cells slots jls ⟨h1, h2, hP1, hD1, hS1, hc, hs, hl, a_wf_I hw o0, ho, hol⟩
theorem wp_putZ {i idx ci k : Nat} {kz : Int} {x : Int} (hz : x = 0 ∨ x = 1) (hd : decode M.2.1 pc = .ok (.putfield idx, 3)) (hf : a_fl M.1.cls idx ci k kz 1 false) (hsh : sh[i]? = some (3, ci)) (kk : wp d M (pc + 3) ls st sh (uI iv i kz x) lw rv bc bs R) : wp d M pc ls (aI x :: aR i :: st) sh iv lw rv bc bs R := by
  intro p l e s m args below meth c D cI cL cA xd A mc ms ad0 n0 hC ad H locs cells slots jls hD
  obtain ⟨hx, hb, hml, hr, hlk, hown, hnm, hts, hK, hE, hA⟩ := id hC
  obtain ⟨h1, h2, hP, hDs, hS, hc, hs, hl, hw, ho, hol⟩ := hD
  obtain ⟨o0, hoo⟩ := List.forall_mem_cons.mp ho
  clear ho
  have ho := hoo
  clear hoo
  obtain ⟨o1, hoo⟩ := List.forall_mem_cons.mp ho
  clear ho
  have ho := hoo
  clear hoo
  obtain ⟨C, T, N, ty0, ⟨c1, c2, c3, c4, c5, c6⟩, hk, rfl, ht, hfin, hdecl, hlink⟩ := hf
  have hg := a_W_get (cI := cI) (cL := cL) (cA := cA) (ad := ad) (iv := iv) (lw := lw) (rv := rv) (a_lt hsh)
  rw [a_cell_3 hsh] at hg
  have hkt := c6 k hk
  rw [show (a_ft ci).getD k 0 = 1 by simp [List.getD, ht]] at hkt
  have hee := a_W_put (cI := cI) (cL := cL) (cA := cA) (ad := ad) (iv := iv) (lw := lw) (rv := rv) (iv' := uI iv i (k : Int) x) (lw' := lw) (rv' := rv) (v := .int (Int32.ofInt x)) hsh ht (by show Value.int (Int32.ofInt (uI iv i k x i k)) = _; rw [a_uI_self]) (fun a b h => a_uI_ne h) (fun _ _ _ => rfl) (fun _ _ _ => rfl)
  rcases hlink with hl1 | ⟨host, hl1⟩
  · refine va_put (D := D) (v := .int (Int32.ofInt x)) hx hb hts c2 ty0 c3 c4 hown hK hP hDs hS i hg c1 k hk (hts _ hl1) (fun _ h => h) hfin (c3 k hk) (by rw [show ty0 k = .boolean from hkt]; rcases hz with rfl | rfl <;> rfl) (by rw [show ty0 k = .boolean from hkt]; rcases hz with rfl | rfl <;> rfl) (by rw [a_fs_len, c5]; exact hk) hd (fun H1 locs1 hP1 hD1 hS1 => ?_)
    rw [hee] at hP1 hD1
    exact kk p l e s m args below meth c D cI cL cA xd A mc ms ad0 n0 hC ad H1 locs1 cells slots jls ⟨h1, h2, hP1, hD1, hS1, hc, hs, hl, a_wf_I hw o0, ho, hol⟩
  · refine va_putN (D := D) (v := .int (Int32.ofInt x)) hx hb hts c2 ty0 c3 c4 hown hK hP hDs hS i hg c1 k hk (va_Nw.use rfl (hE.1 _ hl1 rfl)) (fun _ h => h) hfin (c3 k hk) (by rw [show ty0 k = .boolean from hkt]; rcases hz with rfl | rfl <;> rfl) (by rw [show ty0 k = .boolean from hkt]; rcases hz with rfl | rfl <;> rfl) (by rw [a_fs_len, c5]; exact hk) hd (fun H1 locs1 hP1 hD1 hS1 => ?_)
    rw [hee] at hP1 hD1
    exact kk p l e s m args below meth c D cI cL cA xd A mc ms ad0 n0 hC ad H1 locs1 cells slots jls ⟨h1, h2, hP1, hD1, hS1, hc, hs, hl, a_wf_I hw o0, ho, hol⟩
theorem wp_putZF {i idx ci k : Nat} {kz : Int} {x : Int} (hz : x = 0 ∨ x = 1) (hd : decode M.2.1 pc = .ok (.putfield idx, 3)) (hf : a_flF M.1.cls idx ci k kz 1) (hsh : sh[i]? = some (3, ci)) (hi : M.1.name = "<init>") (kk : wp d M (pc + 3) ls st sh (uI iv i kz x) lw rv bc bs R) : wp d M pc ls (aI x :: aR i :: st) sh iv lw rv bc bs R := by
  intro p l e s m args below meth c D cI cL cA xd A mc ms ad0 n0 hC ad H locs cells slots jls hD
  obtain ⟨hx, hb, hml, hr, hlk, hown, hnm, hts, hK, hE, hA⟩ := id hC
  obtain ⟨h1, h2, hP, hDs, hS, hc, hs, hl, hw, ho, hol⟩ := hD
  obtain ⟨o0, hoo⟩ := List.forall_mem_cons.mp ho
  clear ho
  have ho := hoo
  clear hoo
  obtain ⟨o1, hoo⟩ := List.forall_mem_cons.mp ho
  clear ho
  have ho := hoo
  clear hoo
  obtain ⟨C, T, N, ty0, ⟨c1, c2, c3, c4, c5, c6⟩, hk, rfl, ht, hfin, hdec, hl1⟩ := hf
  have hg := a_W_get (cI := cI) (cL := cL) (cA := cA) (ad := ad) (iv := iv) (lw := lw) (rv := rv) (a_lt hsh)
  rw [a_cell_3 hsh] at hg
  have hkt := c6 k hk
  rw [show (a_ft ci).getD k 0 = 1 by simp [List.getD, ht]] at hkt
  have hee := a_W_put (cI := cI) (cL := cL) (cA := cA) (ad := ad) (iv := iv) (lw := lw) (rv := rv) (iv' := uI iv i (k : Int) x) (lw' := lw) (rv' := rv) (v := .int (Int32.ofInt x)) hsh ht (by show Value.int (Int32.ofInt (uI iv i k x i k)) = _; rw [a_uI_self]) (fun a b h => a_uI_ne h) (fun _ _ _ => rfl) (fun _ _ _ => rfl)
  have hin2 : meth.name = "<init>" := hnm.trans hi
  · refine va_putF (D := D) (v := .int (Int32.ofInt x)) hx hb hts c2 ty0 c3 c4 hown hK hP hDs hS i hg c1 k hk (hts _ hl1) (fun _ h => h) hfin hin2 hdec (c3 k hk) (by rw [show ty0 k = .boolean from hkt]; rcases hz with rfl | rfl <;> rfl) (by rw [show ty0 k = .boolean from hkt]; rcases hz with rfl | rfl <;> rfl) (by rw [a_fs_len, c5]; exact hk) hd (fun H1 locs1 hP1 hD1 hS1 => ?_)
    rw [hee] at hP1 hD1
    exact kk p l e s m args below meth c D cI cL cA xd A mc ms ad0 n0 hC ad H1 locs1 cells slots jls ⟨h1, h2, hP1, hD1, hS1, hc, hs, hl, a_wf_I hw o0, ho, hol⟩
theorem wp_putL {i idx ci k : Nat} {kz : Int} {x : Int} (hd : decode M.2.1 pc = .ok (.putfield idx, 3)) (hf : a_fl M.1.cls idx ci k kz 2 false) (hsh : sh[i]? = some (3, ci)) (kk : wp d M (pc + 3) ls st sh (iv) (uI lw i kz x) rv bc bs R) : wp d M pc ls (aL x :: aR i :: st) sh iv lw rv bc bs R := by
  intro p l e s m args below meth c D cI cL cA xd A mc ms ad0 n0 hC ad H locs cells slots jls hD
  obtain ⟨hx, hb, hml, hr, hlk, hown, hnm, hts, hK, hE, hA⟩ := id hC
  obtain ⟨h1, h2, hP, hDs, hS, hc, hs, hl, hw, ho, hol⟩ := hD
  obtain ⟨o0, hoo⟩ := List.forall_mem_cons.mp ho
  clear ho
  have ho := hoo
  clear hoo
  obtain ⟨o1, hoo⟩ := List.forall_mem_cons.mp ho
  clear ho
  have ho := hoo
  clear hoo
  obtain ⟨C, T, N, ty0, ⟨c1, c2, c3, c4, c5, c6⟩, hk, rfl, ht, hfin, hdecl, hlink⟩ := hf
  have hg := a_W_get (cI := cI) (cL := cL) (cA := cA) (ad := ad) (iv := iv) (lw := lw) (rv := rv) (a_lt hsh)
  rw [a_cell_3 hsh] at hg
  have hkt := c6 k hk
  rw [show (a_ft ci).getD k 0 = 2 by simp [List.getD, ht]] at hkt
  have hee := a_W_put (cI := cI) (cL := cL) (cA := cA) (ad := ad) (iv := iv) (lw := lw) (rv := rv) (iv' := iv) (lw' := uI lw i (k : Int) x) (rv' := rv) (v := .long (Int64.ofInt x)) hsh ht (by show Value.long (Int64.ofInt (uI lw i k x i k)) = _; rw [a_uI_self]) (fun _ _ _ => rfl) (fun a b h => a_uI_ne h) (fun _ _ _ => rfl)
  rcases hlink with hl1 | ⟨host, hl1⟩
  · refine va_put (D := D) (v := .long (Int64.ofInt x)) hx hb hts c2 ty0 c3 c4 hown hK hP hDs hS i hg c1 k hk (hts _ hl1) (fun _ h => h) hfin (c3 k hk) (by rw [show ty0 k = .long from hkt]; rfl) (by rw [show ty0 k = .long from hkt]; rfl) (by rw [a_fs_len, c5]; exact hk) hd (fun H1 locs1 hP1 hD1 hS1 => ?_)
    rw [hee] at hP1 hD1
    exact kk p l e s m args below meth c D cI cL cA xd A mc ms ad0 n0 hC ad H1 locs1 cells slots jls ⟨h1, h2, hP1, hD1, hS1, hc, hs, hl, a_wf_J hw o0, ho, hol⟩
  · refine va_putN (D := D) (v := .long (Int64.ofInt x)) hx hb hts c2 ty0 c3 c4 hown hK hP hDs hS i hg c1 k hk (va_Nw.use rfl (hE.1 _ hl1 rfl)) (fun _ h => h) hfin (c3 k hk) (by rw [show ty0 k = .long from hkt]; rfl) (by rw [show ty0 k = .long from hkt]; rfl) (by rw [a_fs_len, c5]; exact hk) hd (fun H1 locs1 hP1 hD1 hS1 => ?_)
    rw [hee] at hP1 hD1
    exact kk p l e s m args below meth c D cI cL cA xd A mc ms ad0 n0 hC ad H1 locs1 cells slots jls ⟨h1, h2, hP1, hD1, hS1, hc, hs, hl, a_wf_J hw o0, ho, hol⟩
theorem wp_putLF {i idx ci k : Nat} {kz : Int} {x : Int} (hd : decode M.2.1 pc = .ok (.putfield idx, 3)) (hf : a_flF M.1.cls idx ci k kz 2) (hsh : sh[i]? = some (3, ci)) (hi : M.1.name = "<init>") (kk : wp d M (pc + 3) ls st sh (iv) (uI lw i kz x) rv bc bs R) : wp d M pc ls (aL x :: aR i :: st) sh iv lw rv bc bs R := by
  intro p l e s m args below meth c D cI cL cA xd A mc ms ad0 n0 hC ad H locs cells slots jls hD
  obtain ⟨hx, hb, hml, hr, hlk, hown, hnm, hts, hK, hE, hA⟩ := id hC
  obtain ⟨h1, h2, hP, hDs, hS, hc, hs, hl, hw, ho, hol⟩ := hD
  obtain ⟨o0, hoo⟩ := List.forall_mem_cons.mp ho
  clear ho
  have ho := hoo
  clear hoo
  obtain ⟨o1, hoo⟩ := List.forall_mem_cons.mp ho
  clear ho
  have ho := hoo
  clear hoo
  obtain ⟨C, T, N, ty0, ⟨c1, c2, c3, c4, c5, c6⟩, hk, rfl, ht, hfin, hdec, hl1⟩ := hf
  have hg := a_W_get (cI := cI) (cL := cL) (cA := cA) (ad := ad) (iv := iv) (lw := lw) (rv := rv) (a_lt hsh)
  rw [a_cell_3 hsh] at hg
  have hkt := c6 k hk
  rw [show (a_ft ci).getD k 0 = 2 by simp [List.getD, ht]] at hkt
  have hee := a_W_put (cI := cI) (cL := cL) (cA := cA) (ad := ad) (iv := iv) (lw := lw) (rv := rv) (iv' := iv) (lw' := uI lw i (k : Int) x) (rv' := rv) (v := .long (Int64.ofInt x)) hsh ht (by show Value.long (Int64.ofInt (uI lw i k x i k)) = _; rw [a_uI_self]) (fun _ _ _ => rfl) (fun a b h => a_uI_ne h) (fun _ _ _ => rfl)
  have hin2 : meth.name = "<init>" := hnm.trans hi
  · refine va_putF (D := D) (v := .long (Int64.ofInt x)) hx hb hts c2 ty0 c3 c4 hown hK hP hDs hS i hg c1 k hk (hts _ hl1) (fun _ h => h) hfin hin2 hdec (c3 k hk) (by rw [show ty0 k = .long from hkt]; rfl) (by rw [show ty0 k = .long from hkt]; rfl) (by rw [a_fs_len, c5]; exact hk) hd (fun H1 locs1 hP1 hD1 hS1 => ?_)
    rw [hee] at hP1 hD1
    exact kk p l e s m args below meth c D cI cL cA xd A mc ms ad0 n0 hC ad H1 locs1 cells slots jls ⟨h1, h2, hP1, hD1, hS1, hc, hs, hl, a_wf_J hw o0, ho, hol⟩
theorem wp_putR {i idx ci k : Nat} {kz : Int} {q : Nat} (hd : decode M.2.1 pc = .ok (.putfield idx, 3)) (hf : a_fl M.1.cls idx ci k kz 3 false) (hsh : sh[i]? = some (3, ci)) (kk : wp d M (pc + 3) ls st sh (iv) lw (uP rv i kz (some q)) bc bs R) : wp d M pc ls (aR q :: aR i :: st) sh iv lw rv bc bs R := by
  intro p l e s m args below meth c D cI cL cA xd A mc ms ad0 n0 hC ad H locs cells slots jls hD
  obtain ⟨hx, hb, hml, hr, hlk, hown, hnm, hts, hK, hE, hA⟩ := id hC
  obtain ⟨h1, h2, hP, hDs, hS, hc, hs, hl, hw, ho, hol⟩ := hD
  obtain ⟨o0, hoo⟩ := List.forall_mem_cons.mp ho
  clear ho
  have ho := hoo
  clear hoo
  obtain ⟨o1, hoo⟩ := List.forall_mem_cons.mp ho
  clear ho
  have ho := hoo
  clear hoo
  obtain ⟨C, T, N, ty0, ⟨c1, c2, c3, c4, c5, c6⟩, hk, rfl, ht, hfin, hdecl, hlink⟩ := hf
  have hg := a_W_get (cI := cI) (cL := cL) (cA := cA) (ad := ad) (iv := iv) (lw := lw) (rv := rv) (a_lt hsh)
  rw [a_cell_3 hsh] at hg
  have hkt := c6 k hk
  rw [show (a_ft ci).getD k 0 = 3 by simp [List.getD, ht]] at hkt
  have hee := a_W_put (cI := cI) (cL := cL) (cA := cA) (ad := ad) (iv := iv) (lw := lw) (rv := rv) (iv' := iv) (lw' := lw) (rv' := uP rv i (k : Int) (some q)) (v := .ref (ad q)) hsh ht (by show va_rf ((uP rv i k (some q) i k).map ad) = _; rw [a_uP_self]; rfl) (fun _ _ _ => rfl) (fun _ _ _ => rfl) (fun a b h => a_uP_ne h)
  rcases hlink with hl1 | ⟨host, hl1⟩
  · refine va_put (D := D) (v := .ref (ad q)) hx hb hts c2 ty0 c3 c4 hown hK hP hDs hS i hg c1 k hk (hts _ hl1) (fun _ h => h) hfin (c3 k hk) (by rcases (show (∃ n, ty0 k = .object n) ∨ ∃ u, ty0 k = .array u from hkt) with ⟨n, e⟩ | ⟨u, e⟩ <;> rw [e] <;> rfl) (by rcases (show (∃ n, ty0 k = .object n) ∨ ∃ u, ty0 k = .array u from hkt) with ⟨n, e⟩ | ⟨u, e⟩ <;> rw [e] <;> rfl) (by rw [a_fs_len, c5]; exact hk) hd (fun H1 locs1 hP1 hD1 hS1 => ?_)
    rw [hee] at hP1 hD1
    exact kk p l e s m args below meth c D cI cL cA xd A mc ms ad0 n0 hC ad H1 locs1 cells slots jls ⟨h1, h2, hP1, hD1, hS1, hc, hs, hl, a_wf_P hw (fun j hj => by cases hj; exact o0), ho, hol⟩
  · refine va_putN (D := D) (v := .ref (ad q)) hx hb hts c2 ty0 c3 c4 hown hK hP hDs hS i hg c1 k hk (va_Nw.use rfl (hE.1 _ hl1 rfl)) (fun _ h => h) hfin (c3 k hk) (by rcases (show (∃ n, ty0 k = .object n) ∨ ∃ u, ty0 k = .array u from hkt) with ⟨n, e⟩ | ⟨u, e⟩ <;> rw [e] <;> rfl) (by rcases (show (∃ n, ty0 k = .object n) ∨ ∃ u, ty0 k = .array u from hkt) with ⟨n, e⟩ | ⟨u, e⟩ <;> rw [e] <;> rfl) (by rw [a_fs_len, c5]; exact hk) hd (fun H1 locs1 hP1 hD1 hS1 => ?_)
    rw [hee] at hP1 hD1
    exact kk p l e s m args below meth c D cI cL cA xd A mc ms ad0 n0 hC ad H1 locs1 cells slots jls ⟨h1, h2, hP1, hD1, hS1, hc, hs, hl, a_wf_P hw (fun j hj => by cases hj; exact o0), ho, hol⟩
theorem wp_putRF {i idx ci k : Nat} {kz : Int} {q : Nat} (hd : decode M.2.1 pc = .ok (.putfield idx, 3)) (hf : a_flF M.1.cls idx ci k kz 3) (hsh : sh[i]? = some (3, ci)) (hi : M.1.name = "<init>") (kk : wp d M (pc + 3) ls st sh (iv) lw (uP rv i kz (some q)) bc bs R) : wp d M pc ls (aR q :: aR i :: st) sh iv lw rv bc bs R := by
  intro p l e s m args below meth c D cI cL cA xd A mc ms ad0 n0 hC ad H locs cells slots jls hD
  obtain ⟨hx, hb, hml, hr, hlk, hown, hnm, hts, hK, hE, hA⟩ := id hC
  obtain ⟨h1, h2, hP, hDs, hS, hc, hs, hl, hw, ho, hol⟩ := hD
  obtain ⟨o0, hoo⟩ := List.forall_mem_cons.mp ho
  clear ho
  have ho := hoo
  clear hoo
  obtain ⟨o1, hoo⟩ := List.forall_mem_cons.mp ho
  clear ho
  have ho := hoo
  clear hoo
  obtain ⟨C, T, N, ty0, ⟨c1, c2, c3, c4, c5, c6⟩, hk, rfl, ht, hfin, hdec, hl1⟩ := hf
  have hg := a_W_get (cI := cI) (cL := cL) (cA := cA) (ad := ad) (iv := iv) (lw := lw) (rv := rv) (a_lt hsh)
  rw [a_cell_3 hsh] at hg
  have hkt := c6 k hk
  rw [show (a_ft ci).getD k 0 = 3 by simp [List.getD, ht]] at hkt
  have hee := a_W_put (cI := cI) (cL := cL) (cA := cA) (ad := ad) (iv := iv) (lw := lw) (rv := rv) (iv' := iv) (lw' := lw) (rv' := uP rv i (k : Int) (some q)) (v := .ref (ad q)) hsh ht (by show va_rf ((uP rv i k (some q) i k).map ad) = _; rw [a_uP_self]; rfl) (fun _ _ _ => rfl) (fun _ _ _ => rfl) (fun a b h => a_uP_ne h)
  have hin2 : meth.name = "<init>" := hnm.trans hi
  · refine va_putF (D := D) (v := .ref (ad q)) hx hb hts c2 ty0 c3 c4 hown hK hP hDs hS i hg c1 k hk (hts _ hl1) (fun _ h => h) hfin hin2 hdec (c3 k hk) (by rcases (show (∃ n, ty0 k = .object n) ∨ ∃ u, ty0 k = .array u from hkt) with ⟨n, e⟩ | ⟨u, e⟩ <;> rw [e] <;> rfl) (by rcases (show (∃ n, ty0 k = .object n) ∨ ∃ u, ty0 k = .array u from hkt) with ⟨n, e⟩ | ⟨u, e⟩ <;> rw [e] <;> rfl) (by rw [a_fs_len, c5]; exact hk) hd (fun H1 locs1 hP1 hD1 hS1 => ?_)
    rw [hee] at hP1 hD1
    exact kk p l e s m args below meth c D cI cL cA xd A mc ms ad0 n0 hC ad H1 locs1 cells slots jls ⟨h1, h2, hP1, hD1, hS1, hc, hs, hl, a_wf_P hw (fun j hj => by cases hj; exact o0), ho, hol⟩
theorem wp_iald {i n : Nat} {j : Int} (hd : decode M.2.1 pc = .ok (.iaload, 1)) (hsh : sh[i]? = some (0, n)) (hj0 : 0 ≤ j) (hj1 : j < n) (kk : wp d M (pc + 1) ls (aI (iv i j) :: st) sh iv lw rv bc bs R) : wp d M pc ls (aI j :: aR i :: st) sh iv lw rv bc bs R := by
  intro p l e s m args below meth c D cI cL cA xd A mc ms ad0 n0 hC ad H locs cells slots jls hD
  obtain ⟨hx, hb, hml, hr, hlk, hown, hnm, hts, hK, hE, hA⟩ := id hC
  obtain ⟨h1, h2, hP, hDs, hS, hc, hs, hl, hw, ho, hol⟩ := hD
  obtain ⟨o0, hoo⟩ := List.forall_mem_cons.mp ho
  clear ho
  have ho := hoo
  clear hoo
  obtain ⟨o1, hoo⟩ := List.forall_mem_cons.mp ho
  clear ho
  have ho := hoo
  clear hoo
  have hg := a_W_get (cI := cI) (cL := cL) (cA := cA) (ad := ad) (iv := iv) (lw := lw) (rv := rv) (a_lt hsh)
  rw [a_cell_0 hsh] at hg
  refine va_iald hx hb hK hP i 0 hg rfl (a_vin o0 hj0 hj1) hd ?_
  rw [a_clamp o0, Int.toNat_of_nonneg hj0]
  exact kk p l e s m args below meth c D cI cL cA xd A mc ms ad0 n0 hC ad H locs cells slots jls ⟨h1, h2, hP, hDs, hS, hc, hs, hl, hw, List.forall_mem_cons.mpr ⟨hw.1 _ _, ho⟩, hol⟩
theorem wp_iast {i n : Nat} {j x : Int} (hd : decode M.2.1 pc = .ok (.iastore, 1)) (hsh : sh[i]? = some (0, n)) (hj0 : 0 ≤ j) (hj1 : j < n) (kk : wp d M (pc + 1) ls st sh (uI iv i j x) lw rv bc bs R) : wp d M pc ls (aI x :: aI j :: aR i :: st) sh iv lw rv bc bs R := by
  intro p l e s m args below meth c D cI cL cA xd A mc ms ad0 n0 hC ad H locs cells slots jls hD
  obtain ⟨hx, hb, hml, hr, hlk, hown, hnm, hts, hK, hE, hA⟩ := id hC
  obtain ⟨h1, h2, hP, hDs, hS, hc, hs, hl, hw, ho, hol⟩ := hD
  obtain ⟨o0, hoo⟩ := List.forall_mem_cons.mp ho
  clear ho
  have ho := hoo
  clear hoo
  obtain ⟨o1, hoo⟩ := List.forall_mem_cons.mp ho
  clear ho
  have ho := hoo
  clear hoo
  obtain ⟨o2, hoo⟩ := List.forall_mem_cons.mp ho
  clear ho
  have ho := hoo
  clear hoo
  have hg := a_W_get (cI := cI) (cL := cL) (cA := cA) (ad := ad) (iv := iv) (lw := lw) (rv := rv) (a_lt hsh)
  rw [a_cell_0 hsh] at hg
  refine va_iast (x := Int32.ofInt x) hx hb hK hP hDs hS i 0 hg rfl (a_vin o1 hj0 hj1) hd (fun H1 locs1 hP1 hD1 hS1 => ?_)
  rw [a_W_ia hsh hj0 o1] at hP1 hD1
  exact kk p l e s m args below meth c D cI cL cA xd A mc ms ad0 n0 hC ad H1 locs1 cells slots jls ⟨h1, h2, hP1, hD1, hS1, hc, hs, hl, a_wf_I hw o0, ho, hol⟩
theorem wp_alen {i n : Nat} {nz : Int} (hd : decode M.2.1 pc = .ok (.arraylength, 1)) (hsh : sh[i]? = some (0, n)) (hn : (n : Int) = nz) (hnr : iR nz) (kk : wp d M (pc + 1) ls (aI nz :: st) sh iv lw rv bc bs R) : wp d M pc ls (aR i :: st) sh iv lw rv bc bs R := by
  intro p l e s m args below meth c D cI cL cA xd A mc ms ad0 n0 hC ad H locs cells slots jls hD
  obtain ⟨hx, hb, hml, hr, hlk, hown, hnm, hts, hK, hE, hA⟩ := id hC
  obtain ⟨h1, h2, hP, hDs, hS, hc, hs, hl, hw, ho, hol⟩ := hD
  obtain ⟨o0, hoo⟩ := List.forall_mem_cons.mp ho
  clear ho
  have ho := hoo
  clear hoo
  have hg := a_W_get (cI := cI) (cL := cL) (cA := cA) (ad := ad) (iv := iv) (lw := lw) (rv := rv) (a_lt hsh)
  rw [a_cell_0 hsh] at hg
  refine va_alen hx hb hK hP i 0 hg (ty := .int) rfl (v := Int32.ofInt nz) (by subst hn; exact Int32.ofInt_eq_ofNat.symm) hd ?_
  exact kk p l e s m args below meth c D cI cL cA xd A mc ms ad0 n0 hC ad H locs cells slots jls ⟨h1, h2, hP, hDs, hS, hc, hs, hl, hw, List.forall_mem_cons.mpr ⟨hnr, ho⟩, hol⟩
theorem wp_aaldL {i n q : Nat} {j : Int} (hd : decode M.2.1 pc = .ok (.aaload, 1)) (hsh : sh[i]? = some (1, n)) (hj0 : 0 ≤ j) (hj1 : j < n) (hq : rv i j = some q) (kk : wp d M (pc + 1) ls (aR q :: st) sh iv lw rv bc bs R) : wp d M pc ls (aI j :: aR i :: st) sh iv lw rv bc bs R := by
  intro p l e s m args below meth c D cI cL cA xd A mc ms ad0 n0 hC ad H locs cells slots jls hD
  obtain ⟨hx, hb, hml, hr, hlk, hown, hnm, hts, hK, hE, hA⟩ := id hC
  obtain ⟨h1, h2, hP, hDs, hS, hc, hs, hl, hw, ho, hol⟩ := hD
  obtain ⟨o0, hoo⟩ := List.forall_mem_cons.mp ho
  clear ho
  have ho := hoo
  clear hoo
  obtain ⟨o1, hoo⟩ := List.forall_mem_cons.mp ho
  clear ho
  have ho := hoo
  clear hoo
  have hg := a_W_get (cI := cI) (cL := cL) (cA := cA) (ad := ad) (iv := iv) (lw := lw) (rv := rv) (a_lt hsh)
  rw [a_cell_1 hsh] at hg
  refine va_aldq hx hb hK hP i 1 hg rfl (a_vin o0 hj0 hj1) hd ?_
  rw [a_clamp o0, Int.toNat_of_nonneg hj0, hq]
  exact kk p l e s m args below meth c D cI cL cA xd A mc ms ad0 n0 hC ad H locs cells slots jls ⟨h1, h2, hP, hDs, hS, hc, hs, hl, hw, List.forall_mem_cons.mpr ⟨hw.2.2 _ _ _ hq, ho⟩, hol⟩
theorem wp_aaldA {i n q : Nat} {j : Int} (hd : decode M.2.1 pc = .ok (.aaload, 1)) (hsh : sh[i]? = some (2, n)) (hj0 : 0 ≤ j) (hj1 : j < n) (hq : rv i j = some q) (kk : wp d M (pc + 1) ls (aR q :: st) sh iv lw rv bc bs R) : wp d M pc ls (aI j :: aR i :: st) sh iv lw rv bc bs R := by
  intro p l e s m args below meth c D cI cL cA xd A mc ms ad0 n0 hC ad H locs cells slots jls hD
  obtain ⟨hx, hb, hml, hr, hlk, hown, hnm, hts, hK, hE, hA⟩ := id hC
  obtain ⟨h1, h2, hP, hDs, hS, hc, hs, hl, hw, ho, hol⟩ := hD
  obtain ⟨o0, hoo⟩ := List.forall_mem_cons.mp ho
  clear ho
  have ho := hoo
  clear hoo
  obtain ⟨o1, hoo⟩ := List.forall_mem_cons.mp ho
  clear ho
  have ho := hoo
  clear hoo
  have hg := a_W_get (cI := cI) (cL := cL) (cA := cA) (ad := ad) (iv := iv) (lw := lw) (rv := rv) (a_lt hsh)
  rw [a_cell_2 hsh] at hg
  have hgA : H[ad i]? = some (arrV cA n (fun k => va_rf ((rv i k).map ad))) := hP i _ hg
  have hvv := a_vin o0 hj0 hj1
  have hlt : (Int32.ofInt j).toNatClampNeg < n := Nat.not_le.mp fun z => hvv (Or.inr z)
  refine W.aald (v := va_rf ((rv i (((Int32.ofInt j).toNatClampNeg : Nat) : Int)).map ad)) (ty := .array .int) hx hb hgA ((hK.2 2 _ rfl).1 n _) rfl (fun z => by cases z) (by rw [arrV_size]; exact hvv) (by rw [arrV_read _ _ hlt]) rfl rfl hd ?_
  rw [a_clamp o0, Int.toNat_of_nonneg hj0, hq]
  exact kk p l e s m args below meth c D cI cL cA xd A mc ms ad0 n0 hC ad H locs cells slots jls ⟨h1, h2, hP, hDs, hS, hc, hs, hl, hw, List.forall_mem_cons.mpr ⟨hw.2.2 _ _ _ hq, ho⟩, hol⟩
theorem wp_aaldAN {i n : Nat} {j : Int} (hd : decode M.2.1 pc = .ok (.aaload, 1)) (hsh : sh[i]? = some (2, n)) (hj0 : 0 ≤ j) (hj1 : j < n) (hq : rv i j = none) (kk : wp d M (pc + 1) ls (aN :: st) sh iv lw rv bc bs R) : wp d M pc ls (aI j :: aR i :: st) sh iv lw rv bc bs R := by
  intro p l e s m args below meth c D cI cL cA xd A mc ms ad0 n0 hC ad H locs cells slots jls hD
  obtain ⟨hx, hb, hml, hr, hlk, hown, hnm, hts, hK, hE, hA⟩ := id hC
  obtain ⟨h1, h2, hP, hDs, hS, hc, hs, hl, hw, ho, hol⟩ := hD
  obtain ⟨o0, hoo⟩ := List.forall_mem_cons.mp ho
  clear ho
  have ho := hoo
  clear hoo
  obtain ⟨o1, hoo⟩ := List.forall_mem_cons.mp ho
  clear ho
  have ho := hoo
  clear hoo
  have hg := a_W_get (cI := cI) (cL := cL) (cA := cA) (ad := ad) (iv := iv) (lw := lw) (rv := rv) (a_lt hsh)
  rw [a_cell_2 hsh] at hg
  have hgA : H[ad i]? = some (arrV cA n (fun k => va_rf ((rv i k).map ad))) := hP i _ hg
  have hvv := a_vin o0 hj0 hj1
  have hlt : (Int32.ofInt j).toNatClampNeg < n := Nat.not_le.mp fun z => hvv (Or.inr z)
  refine W.aald (v := va_rf ((rv i (((Int32.ofInt j).toNatClampNeg : Nat) : Int)).map ad)) (ty := .array .int) hx hb hgA ((hK.2 2 _ rfl).1 n _) rfl (fun z => by cases z) (by rw [arrV_size]; exact hvv) (by rw [arrV_read _ _ hlt]) rfl rfl hd ?_
  rw [a_clamp o0, Int.toNat_of_nonneg hj0, hq]
  exact kk p l e s m args below meth c D cI cL cA xd A mc ms ad0 n0 hC ad H locs cells slots jls ⟨h1, h2, hP, hDs, hS, hc, hs, hl, hw, List.forall_mem_cons.mpr ⟨trivial, ho⟩, hol⟩
theorem wp_xald {q : Nat} {j : Int} (hd : decode M.2.1 pc = .ok (.iaload, 1)) (hq : q < 6) (hj0 : 0 ≤ j) (hj1 : j < ((aXl q).length : Nat)) (kk : wp d M (pc + 1) ls (aI ((aXl q).getD j.toNat 0) :: st) sh iv lw rv bc bs R) : wp d M pc ls (aI j :: aX q :: st) sh iv lw rv bc bs R := by
  intro p l e s m args below meth c D cI cL cA xd A mc ms ad0 n0 hC ad H locs cells slots jls hD
  obtain ⟨hx, hb, hml, hr, hlk, hown, hnm, hts, hK, hE, hA⟩ := id hC
  obtain ⟨h1, h2, hP, hDs, hS, hc, hs, hl, hw, ho, hol⟩ := hD
  obtain ⟨o0, hoo⟩ := List.forall_mem_cons.mp ho
  clear ho
  have ho := hoo
  clear hoo
  obtain ⟨o1, hoo⟩ := List.forall_mem_cons.mp ho
  clear ho
  have ho := hoo
  clear hoo
  refine va_ti hx hb (hE.2.2.2.2.1 q hq) hS (a_vin o0 hj0 hj1) rfl hd ?_
  rw [a_clamp o0]
  exact kk p l e s m args below meth c D cI cL cA xd A mc ms ad0 n0 hC ad H locs cells slots jls ⟨h1, h2, hP, hDs, hS, hc, hs, hl, hw, List.forall_mem_cons.mpr ⟨a_xl_r q hq _, ho⟩, hol⟩
theorem wp_xlen {q : Nat} {nz : Int} (hd : decode M.2.1 pc = .ok (.arraylength, 1)) (hq : q < 6) (hn : ((aXl q).length : Int) = nz) (hnr : iR nz) (kk : wp d M (pc + 1) ls (aI nz :: st) sh iv lw rv bc bs R) : wp d M pc ls (aX q :: st) sh iv lw rv bc bs R := by
  intro p l e s m args below meth c D cI cL cA xd A mc ms ad0 n0 hC ad H locs cells slots jls hD
  obtain ⟨hx, hb, hml, hr, hlk, hown, hnm, hts, hK, hE, hA⟩ := id hC
  obtain ⟨h1, h2, hP, hDs, hS, hc, hs, hl, hw, ho, hol⟩ := hD
  obtain ⟨o0, hoo⟩ := List.forall_mem_cons.mp ho
  clear ho
  have ho := hoo
  clear hoo
  refine va_tlen (v := Int32.ofInt nz) hx hb (hE.2.2.2.2.1 q hq) hS (by subst hn; exact Int32.ofInt_eq_ofNat.symm) hd ?_
  exact kk p l e s m args below meth c D cI cL cA xd A mc ms ad0 n0 hC ad H locs cells slots jls ⟨h1, h2, hP, hDs, hS, hc, hs, hl, hw, List.forall_mem_cons.mpr ⟨hnr, ho⟩, hol⟩
theorem wp_gets {q idx : Nat} (hd : decode M.2.1 pc = .ok (.getstatic idx, 3)) (hq : q < 6) (hf : Cond.fieldLink M.1.cls idx "HoppingMesh$Reader" (aXn q) "[I" ∈ aG) (kk : wp d M (pc + 3) ls (aX q :: st) sh iv lw rv bc bs R) : wp d M pc ls st sh iv lw rv bc bs R := by
  intro p l e s m args below meth c D cI cL cA xd A mc ms ad0 n0 hC ad H locs cells slots jls hD
  obtain ⟨hx, hb, hml, hr, hlk, hown, hnm, hts, hK, hE, hA⟩ := id hC
  obtain ⟨h1, h2, hP, hDs, hS, hc, hs, hl, hw, ho, hol⟩ := hD
  refine va_gets hx hb (hE.2.2.2.1 q hq) hS hown (hts _ hf) (fun _ h => h) hd ?_
  exact kk p l e s m args below meth c D cI cL cA xd A mc ms ad0 n0 hC ad H locs cells slots jls ⟨h1, h2, hP, hDs, hS, hc, hs, hl, hw, List.forall_mem_cons.mpr ⟨trivial, ho⟩, hol⟩
theorem wp_ldcS0 (hd : decode M.2.1 pc = .ok (.ldc 74, 2)) (hM : M.1.cls = "HoppingMesh$Reader") (kk : wp d M (pc + 2) ls (aX 6 :: st) sh iv lw rv bc bs R) : wp d M pc ls st sh iv lw rv bc bs R := by
  intro p l e s m args below meth c D cI cL cA xd A mc ms ad0 n0 hC ad H locs cells slots jls hD
  obtain ⟨hx, hb, hml, hr, hlk, hown, hnm, hts, hK, hE, hA⟩ := id hC
  obtain ⟨h1, h2, hP, hDs, hS, hc, hs, hl, hw, ho, hol⟩ := hD
  refine va_ldcS hx hb hown (by rw [hM]; exact hE.2.2.2.2.2.1) hd ?_
  exact kk p l e s m args below meth c D cI cL cA xd A mc ms ad0 n0 hC ad H locs cells slots jls ⟨h1, h2, hP, hDs, hS, hc, hs, hl, hw, List.forall_mem_cons.mpr ⟨trivial, ho⟩, hol⟩
theorem wp_ldcS1 (hd : decode M.2.1 pc = .ok (.ldc 89, 2)) (hM : M.1.cls = "HoppingMesh$Reader") (kk : wp d M (pc + 2) ls (aX 7 :: st) sh iv lw rv bc bs R) : wp d M pc ls st sh iv lw rv bc bs R := by
  intro p l e s m args below meth c D cI cL cA xd A mc ms ad0 n0 hC ad H locs cells slots jls hD
  obtain ⟨hx, hb, hml, hr, hlk, hown, hnm, hts, hK, hE, hA⟩ := id hC
  obtain ⟨h1, h2, hP, hDs, hS, hc, hs, hl, hw, ho, hol⟩ := hD
  refine va_ldcS hx hb hown (by rw [hM]; exact hE.2.2.2.2.2.2.1) hd ?_
  exact kk p l e s m args below meth c D cI cL cA xd A mc ms ad0 n0 hC ad H locs cells slots jls ⟨h1, h2, hP, hDs, hS, hc, hs, hl, hw, List.forall_mem_cons.mpr ⟨trivial, ho⟩, hol⟩
theorem wp_mmin {idx : Nat} {x y : Int} (hd : decode M.2.1 pc = .ok (.invokestatic idx, 3)) (hd0 : 1 ≤ d) (hwt : (st.map (fun v => (a_val id id v).category)).sum ≤ 8) (hlk1 : Cond.methodLink M.1.cls idx Lib.Math.min.name ∈ aG) (hq : Cond.static Lib.Math.min.name ∈ aG ∧ Cond.initialized "java/lang/Math" ∈ aG ∧ Cond.code Lib.Math.min.name Lib.Math.min.code 2 (some .int) ∈ aG) (kk : wp d M (pc + 3) ls (aI (if y < x then y else x) :: st) sh iv lw rv bc bs R) : wp d M pc ls (aI y :: aI x :: st) sh iv lw rv bc bs R := by
  intro p l e s m args below meth c D cI cL cA xd A mc ms ad0 n0 hC ad H locs cells slots jls hD
  obtain ⟨hx, hb, hml, hr, hlk, hown, hnm, hts, hK, hE, hA⟩ := id hC
  obtain ⟨h1, h2, hP, hDs, hS, hc, hs, hl, hw, ho, hol⟩ := hD
  obtain ⟨o0, hoo⟩ := List.forall_mem_cons.mp ho
  clear ho
  have ho := hoo
  clear hoo
  obtain ⟨o1, hoo⟩ := List.forall_mem_cons.mp ho
  clear ho
  have ho := hoo
  clear hoo
  refine va_mmin hx hb (by rw [hml, hl.2.1]) hown (hts _ hlk1) (hts _ hq.1) (hts _ hq.2.1) (hts _ hq.2.2) hd0 (by rw [a_cat]; show _ ≤ 64 * d; omega) (by show _ ≤ mc; omega) (by show _ ≤ ms; omega) hd ?_
  have ee : (if Int32.ofInt y < Int32.ofInt x then Int32.ofInt y else Int32.ofInt x) = Int32.ofInt (if y < x then y else x) := by
    by_cases h : y < x
    · rw [if_pos h, if_pos ((a_b_lt o0 o1).mpr h)]
    · rw [if_neg h, if_neg (fun z => h ((a_b_lt o0 o1).mp z))]
  rw [ee]
  exact kk p l e s m args below meth c D cI cL cA xd A mc ms ad0 n0 hC ad H locs cells slots jls ⟨h1, h2, hP, hDs, hS, hc, hs, hl, hw, List.forall_mem_cons.mpr ⟨(by split <;> assumption), ho⟩, hol⟩
theorem wp_mmax {idx : Nat} {x y : Int} (hd : decode M.2.1 pc = .ok (.invokestatic idx, 3)) (hd0 : 1 ≤ d) (hwt : (st.map (fun v => (a_val id id v).category)).sum ≤ 8) (hlk1 : Cond.methodLink M.1.cls idx Lib.Math.max.name ∈ aG) (hq : Cond.static Lib.Math.max.name ∈ aG ∧ Cond.initialized "java/lang/Math" ∈ aG ∧ Cond.code Lib.Math.max.name Lib.Math.max.code 2 (some .int) ∈ aG) (kk : wp d M (pc + 3) ls (aI (if x < y then y else x) :: st) sh iv lw rv bc bs R) : wp d M pc ls (aI y :: aI x :: st) sh iv lw rv bc bs R := by
  intro p l e s m args below meth c D cI cL cA xd A mc ms ad0 n0 hC ad H locs cells slots jls hD
  obtain ⟨hx, hb, hml, hr, hlk, hown, hnm, hts, hK, hE, hA⟩ := id hC
  obtain ⟨h1, h2, hP, hDs, hS, hc, hs, hl, hw, ho, hol⟩ := hD
  obtain ⟨o0, hoo⟩ := List.forall_mem_cons.mp ho
  clear ho
  have ho := hoo
  clear hoo
  obtain ⟨o1, hoo⟩ := List.forall_mem_cons.mp ho
  clear ho
  have ho := hoo
  clear hoo
  refine va_mmax hx hb (by rw [hml, hl.2.1]) hown (hts _ hlk1) (hts _ hq.1) (hts _ hq.2.1) (hts _ hq.2.2) hd0 (by rw [a_cat]; show _ ≤ 64 * d; omega) (by show _ ≤ mc; omega) (by show _ ≤ ms; omega) hd ?_
  have ee : (if Int32.ofInt x < Int32.ofInt y then Int32.ofInt y else Int32.ofInt x) = Int32.ofInt (if x < y then y else x) := by
    by_cases h : x < y
    · rw [if_pos h, if_pos ((a_b_lt o1 o0).mpr h)]
    · rw [if_neg h, if_neg (fun z => h ((a_b_lt o1 o0).mp z))]
  rw [ee]
  exact kk p l e s m args below meth c D cI cL cA xd A mc ms ad0 n0 hC ad H locs cells slots jls ⟨h1, h2, hP, hDs, hS, hc, hs, hl, hw, List.forall_mem_cons.mpr ⟨(by split <;> assumption), ho⟩, hol⟩
end WPH
