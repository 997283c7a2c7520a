/-! ===== what is read only stays ===== -/
theorem a_AA.moved {u U : State} (hvm : u.vm.Alike U.vm) (h : a_AA u) : a_AA U := by
  obtain ⟨comp, c, k, h1, h2, h3, h4, h5⟩ := arrayOverA_spec h
  obtain ⟨k', hk', he⟩ := hvm.2.2 _ _ h3
  have hi : (U.vm.classes.findIdx? fun (x : Class) => match x.kind with | .array component _ => component == comp | _ => false) = some c := by
    rw [hvm.findIdx?_eq _ (fun _ => rfl)]; exact h2
  have hkind : k'.kind = .array comp (.array .int) := by rw [he]; exact h4
  have f1 : U.vm.findClass (FieldType.array .int).toString = some comp := by rw [hvm.findClass]; exact h1
  have f2 : U.vm.findClass ("[" ++ (FieldType.array .int).toString) = some c := by rw [hvm.findClass]; exact h5
  unfold a_AA Cond.before Cond.holds
  simp only [Cond.value]
  rw [f1, Option.bind_some]
  refine (congrArg (fun o : Option Nat => (o.bind (fun c => (U.vm.classes[c]?).map fun (k : Class) => match k.kind with | .array _ ty => decide (ty = FieldType.array .int) && decide (U.vm.findClass ("[" ++ (FieldType.array .int).toString) = some c) | _ => false) == some true)) hi).trans ?_
  simp [hk', hkind, f2]
theorem a_isN_on {w : Cond} (h : a_isN w = true) : w.onTables = true := by
  cases w <;> first | rfl | (simp [a_isN] at h)
theorem aEnv.same {xd : Nat → Nat} {A : Nat → Prop} {u U : State} {H : Heap} (hv : u.vm = U.vm) (h : aEnv xd A u H) : aEnv xd A U H := by
  have ha : u.vm.Alike U.vm := by rw [hv]; exact Vm.Alike.refl U.vm
  obtain ⟨h1, h2, h3, h4, h5, h6, h7, h8, h9⟩ := h
  exact ⟨fun w hw hn => va_Nw.same (a_isN_on hn) hv (h1 w hw hn), h2.moved ha, h3.moved ha, fun j hj => (h4 j hj).moved ha, fun j hj => (h5 j hj).moved ha, h6.same hv.symm, h7.same hv.symm, h8.moved ha, h9.moved ha⟩
theorem aEnv.warm {xd : Nat → Nat} {A : Nat → Prop} {s U : State} {H : Heap} (hW : s.WarmedH U.vm) (h : aEnv xd A s H) : aEnv xd A U H := by
  have ha : s.vm.Alike U.vm := hW.alike
  obtain ⟨h1, h2, h3, h4, h5, h6, h7, h8, h9⟩ := h
  refine ⟨fun w hw hn => ?_, h2.moved ha, h3.moved ha, fun j hj => (h4 j hj).moved ha, fun j hj => (h5 j hj).moved ha, h6.warm hW, h7.warm hW, h8.moved ha, h9.moved ha⟩
  have h0 := h1 w hw hn
  cases w with
  | fieldLinkNest a i b n d q => exact va_Nw.warmF hW h0
  | methodLinkNest a i x q => exact va_Nw.warmM hW h0
  | _ => simp [a_isN] at hn
theorem aEnv.kept {xd : Nat → Nat} {A : Nat → Prop} {U : State} {H H1 : Heap} (h : aEnv xd A U H) (hq : ∀ a : Nat, a < H.size → ¬ A a → H1[a]? = H[a]?) : aEnv xd A U H1 := by
  obtain ⟨h1, h2, h3, h4, h5, h6, h7, h8, h9⟩ := h
  exact ⟨h1, h2, h3, fun j hj => (h4 j hj).kept hq, fun j hj => (h5 j hj).kept hq, h6, h7, h8.kept hq, h9.kept hq⟩
theorem aEnv.narrow {xd : Nat → Nat} {A B : Nat → Prop} {U : State} {H : Heap} (h : aEnv xd A U H) (hAB : ∀ q, B q → A q) : aEnv xd B U H := by
  obtain ⟨h1, h2, h3, h4, h5, h6, h7, h8, h9⟩ := h
  exact ⟨h1, h2, h3, fun j hj => (h4 j hj).narrow hAB, fun j hj => (h5 j hj).narrow hAB, h6, h7, h8.narrow hAB, h9.narrow hAB⟩
/-! ===== the locals with which a method begins ===== -/
def a_ent : List aV → List (Option aV)
  | [] => []
  | .inr (.inl x) :: t => some (aL x) :: none :: a_ent t
  | v :: t => some v :: a_ent t
def a_loc (as : List aV) (nL : Nat) : List (Option aV) := a_ent as ++ List.replicate (nL - (a_ent as).length) none
def a_psh (r : Option aV) (st : List aV) : List aV := match r with
  | none => st
  | some v => v :: st
theorem a_ent_len (ad xd : Nat → Nat) (as : List aV) : (lg_sl (as.map (a_val ad xd))).length = (a_ent as).length := by
  induction as with
  | nil => rfl
  | cons v t ih =>
    simp only [lg_sl, List.map_cons, List.flatMap_cons, List.length_append] at ih ⊢
    rw [ih]
    rcases v with v | v | _ | v | v <;> simp [a_ent, a_val, Value.category] <;> omega
theorem a_rep_nth (n k : Nat) : a_nth (List.replicate n none) k = none := by
  induction n generalizing k with
  | zero => rfl
  | succ n ih => cases k with
    | zero => rfl
    | succ k => exact ih k
theorem a_ent_nth (ad xd : Nat → Nat) (n : Nat) (as : List aV) : ∀ (off k : Nat) (v : aV), a_nth (a_ent as ++ List.replicate n none) k = some v → (off + k, a_val ad xd v) ∈ lv_args off (as.map (a_val ad xd)) := by
  induction as with
  | nil => intro off k v h; rw [show a_ent [] = [] from rfl, List.nil_append, a_rep_nth] at h; cases h
  | cons w t ih =>
    intro off k v h
    by_cases hw : a_lg (some w) = true
    · rcases w with w | w | _ | w | w <;> simp [a_lg] at hw
      have e : a_ent (Sum.inr (Sum.inl w) :: t) = some (aL w) :: none :: a_ent t := rfl
      rw [e] at h
      match k, h with
      | 0, h => cases h; exact List.mem_cons_self
      | 1, h => cases h
      | k + 2, h =>
        have := ih (off + 2) k v h
        rw [show off + (k + 2) = off + 2 + k by omega]
        exact List.mem_cons_of_mem _ this
    · have e : a_ent (w :: t) = some w :: a_ent t := by rcases w with w | w | _ | w | w <;> first | rfl | exact absurd rfl hw
      have hc : (a_val ad xd w).category ≠ 2 := by rcases w with w | w | _ | w | w <;> first | exact absurd rfl hw | (intro hq; cases hq)
      rw [e] at h
      match k, h with
      | 0, h => cases h; exact List.mem_cons_self
      | k + 1, h =>
        have := ih (off + 1) k v h
        rw [show off + (k + 1) = off + 1 + k by omega]
        refine List.mem_cons_of_mem _ ?_
        rw [if_neg hc]
        exact this
theorem a_ent_ok {n : Nat} (m : Nat) (as : List aV) (h : ∀ v ∈ as, a_ok n v) : ∀ (k : Nat) (v : aV), a_nth (a_ent as ++ List.replicate m none) k = some v → a_ok n v := by
  induction as with
  | nil => intro k v hk; rw [show a_ent [] = [] from rfl, List.nil_append, a_rep_nth] at hk; cases hk
  | cons w t ih =>
    intro k v hk
    have h0 := h w List.mem_cons_self
    have ht := ih (fun v hv => h v (List.mem_cons_of_mem _ hv))
    by_cases hw : a_lg (some w) = true
    · rcases w with w | w | _ | w | w <;> simp [a_lg] at hw
      have e : a_ent (Sum.inr (Sum.inl w) :: t) = some (aL w) :: none :: a_ent t := rfl
      rw [e] at hk
      match k, hk with
      | 0, hk => cases hk; exact h0
      | 1, hk => cases hk
      | k + 2, hk => exact ht k v hk
    · have e : a_ent (w :: t) = some w :: a_ent t := by rcases w with w | w | _ | w | w <;> first | rfl | exact absurd rfl hw
      rw [e] at hk
      match k, hk with
      | 0, hk => cases hk; exact h0
      | k + 1, hk => exact ht k v hk
theorem a_ok_mono {n n' : Nat} (h : n ≤ n') {v : aV} (hv : a_ok n v) : a_ok n' v := by
  rcases v with v | v | _ | v | v
  · exact hv
  · exact hv
  · trivial
  · exact Nat.lt_of_lt_of_le hv h
  · trivial
def aPre (D : va_G) (cI cL cA : ClassId) (xd ad : Nat → Nat) (sz : Nat) (sh : aSh) (iv lw : aF) (rv : aP) (U : State) : Prop := U.heap.size = sz ∧ va_P D vwCl (a_W cI cL cA ad sh iv lw rv) U.heap ∧ va_K D vwCl (aTys cI cL cA) U ∧ va_D (fun _ => True) (a_W cI cL cA ad sh iv lw rv) ∧ aEnv xd (va_A (a_W cI cL cA ad sh iv lw rv) sz) U U.heap
/-- a method's contract out of its walk -/
theorem a_met (l : Launch) {d : Nat} {M : aMth} {as : List aV} {sh : aSh} {iv lw : aF} {rv : aP} {bc bs : Nat} {R : aPost} (hM : plainFor M.1 = true) (hlen : (a_ent as).length ≤ M.2.2.1) (hwp : wp d M 0 (a_loc as M.2.2.1) [] sh iv lw rv bc bs R) (D : va_G) (cI cL cA : ClassId) (xd ad : Nat → Nat) (sz : Nat) (hw : a_wf sh.length iv lw rv) (hok : ∀ v ∈ as, a_ok sh.length v) :
    Met l M.1 (Cond.code M.1 M.2.1 M.2.2.1 M.2.2.2 :: aG) (aRoom d bc bs) (va_Pc (as.map (a_val ad xd)) (aPre D cI cL cA xd ad sz sh iv lw rv)) (aQ D cI cL cA xd ad sh.length (va_A (a_W cI cL cA ad sh iv lw rv) sz) R) bc bs (va_A (a_W cI cL cA ad sh iv lw rv) sz) := by
  refine va_MetF (cc := M.2.1) (maxL := M.2.2.1) (ret := M.2.2.2) hM rfl ?_
  intro p e s m args below meth c s₁ B hml hv
  obtain ⟨rfl, hsz, hP, hK, hD0, hE⟩ := hv
  subst hsz
  have hts := atoms_spec (ws := Cond.code M.1 M.2.1 M.2.2.1 M.2.2.2 :: aG) B.pre
  have hnm : meth.name = M.1.name := (name_of_methodNamed B.named B.method).1
  have hl := lv_entry (as.map (a_val ad xd)) (n := M.2.2.1) (by rw [a_ent_len]; exact hlen)
  rw [lg_entry_eq]
  exact hwp p l e s m _ below meth c D cI cL cA xd _ bc bs ad sh.length ⟨B.exec, B.bytes, hml, B.returns, B.notSynchronized, findClass_of_methodNamed B.named, hnm, fun w h => hts w (List.mem_cons_of_mem _ h), hK, hE, fun q h => Or.inr h⟩
    ad s.heap [] 0 0 _ ⟨fun _ _ => rfl, Nat.le_refl _, hP, hD0.self, va_S.rf, by omega, by omega, ⟨by unfold a_loc; rw [List.length_append, List.length_replicate]; omega, hl.1, hl.2.1, fun k v hk => hl.2.2 (k, a_val ad xd v) (by have := a_ent_nth ad xd _ as 0 k v hk; rwa [Nat.zero_add] at this)⟩, hw, (fun v hv => by cases hv), a_ent_ok _ as hok⟩
/-- the link of a call -/
def a_lnk (M' : aMth) (n : Nat) : Prop := plainFor M'.1 = true ∧ (M'.1.cls ≠ "java/lang/invoke/MethodHandle" ∧ M'.1.cls ≠ "java/lang/invoke/VarHandle") ∧ (parseMethodDescriptor M'.1.desc).map (fun d => d.parameters.length) = some n ∧ Cond.initialized M'.1.cls ∈ aG ∧ Cond.code M'.1 M'.2.1 M'.2.2.1 M'.2.2.2 ∈ aG ∧ M'.2.2.1 ≤ 45
def a_cv (own : String) (idx ci : Nat) (M' : aMth) (n : Nat) : Prop := a_lnk M' n ∧ Cond.methodLink own idx M'.1 ∈ aG ∧ Cond.instanceMethod M'.1 ∈ aG ∧ ∃ (C : String) (T : u_T) (N : Nat), vwCl[ci]? = some (C, T, N) ∧ Cond.selects C M'.1 M'.1 ∈ aG
def a_cs (own : String) (idx : Nat) (M' : aMth) (n : Nat) : Prop := a_lnk M' n ∧ Cond.methodLink own idx M'.1 ∈ aG ∧ Cond.static M'.1 ∈ aG
def a_ci (own : String) (idx : Nat) (M' : aMth) (n : Nat) : Prop := a_lnk M' n ∧ Cond.methodLink own idx M'.1 ∈ aG ∧ Cond.instanceMethod M'.1 ∈ aG ∧ M'.1.name = "<init>" ∧ M'.2.2.2 = none
def a_cn (own : String) (idx : Nat) (M' : aMth) (n : Nat) : Prop := a_lnk M' n ∧ (∃ host, Cond.methodLinkNest own idx M'.1 host ∈ lw_tbl) ∧ Cond.instanceMethod M'.1 ∈ aG ∧ M'.1.name = "<init>" ∧ M'.2.2.2 = none
def a_nw (own : String) (idx ci : Nat) : Prop := ∃ (C : String) (T : u_T) (N : Nat) (ty0 : Nat → FieldType), a_cls ci C T N ty0 ∧ Cond.classLink own idx C ∈ aG ∧ Cond.instantiable C N ∈ aG ∧ Cond.initialized C ∈ aG
theorem a_good {w : Cond} (h : w ∈ aG) : goodWord w = true := (List.mem_filter.mp h).2
section WPC
variable {p : Program} {l : Launch} {e : Env} {R : Room} {s : State} {m : MethodId} {args : Array Value} {below : List Frame} {meth : Method} {c : Code} {H : Heap} {locs : List Loc} {cells slots : Nat} {Q : State → Prop}
theorem a_ws {M' : aMth} (hts : ∀ w ∈ aG, w.before args s = true) (hcd : Cond.code M'.1 M'.2.1 M'.2.2.1 M'.2.2.2 ∈ aG) : ∀ w ∈ (Cond.code M'.1 M'.2.1 M'.2.2.1 M'.2.2.2 :: aG), ∀ (a' : Array Value) (U : State), s.WarmedH U.vm → w.before a' U = true := by
  refine pay_in hts (fun w hw => ?_)
  rcases List.mem_cons.mp hw with rfl | hw
  · exact ⟨hcd, good_of_word (a_good hcd)⟩
  · exact ⟨hw, good_of_word (a_good hw)⟩
theorem a_blind {av : List Value} {D : va_G} {cI cL cA : ClassId} {xd ad : Nat → Nat} {sz : Nat} {sh : aSh} {iv lw : aF} {rv : aP} : FrameBlind (va_Pc av (aPre D cI cL cA xd ad sz sh iv lw rv)) := by
  intro a U g mk q
  obtain ⟨q0, q1, qP, qK, qD, qE⟩ := q
  exact ⟨q0, q1, qP, va_K.moved (u := U) (U := U.calling g mk a) (Vm.Alike.refl U.vm) qK, qD, aEnv.same (u := U) (U := U.calling g mk a) rfl qE⟩
theorem a_cont {kc ks pc : Nat} {jls : Array Slot} {stk rest : List Value} {D : va_G} {cI cL cA : ClassId} {xd ad : Nat → Nat} {n1 : Nat} {A1 A0 : Nat → Prop} {R' : aPost} {a : Array Value}
    (hr : va_Run p l e R s m args below meth c H locs cells slots kc ks (F0 m pc jls stk) rest (aQ D cI cL cA xd ad n1 A1 R' a) A1) (hS : va_S A0 s.heap H locs) (hA : ∀ q, A1 q → A0 q)
    (kk : ∀ (ad' : Nat → Nat) (r : Option aV) (sh : aSh) (iv lw : aF) (rv : aP) (H1 : Heap) (locs1 : List Loc), (∀ i, i < n1 → ad' i = ad i) → n1 ≤ sh.length → R' r sh iv lw rv → va_P D vwCl (a_W cI cL cA ad' sh iv lw rv) H1 → va_D A1 (a_W cI cL cA ad' sh iv lw rv) → a_wf sh.length iv lw rv → (∀ v, r = some v → a_ok sh.length v) → va_S A0 s.heap H1 locs1 →
      W p l e R s m args below meth c H1 locs1 (cells + kc) (slots + ks) Q (F0 m (pc + 3) jls ((r.map (a_val ad' xd)).toList ++ rest))) : W p l e R s m args below meth c H locs cells slots Q (F0 m pc jls stk) := by
  intro T hT X
  obtain ⟨v, st₀, t, T', L, h0, X', hL, e1, e2, ⟨⟨ad', r, sh, iv, lw, rv, g1, g2, hv, g3, g4, g5, g6, g7⟩, hz, hk⟩, st⟩ := hr T hT X
  cases hv
  rw [h0] at hz hk
  obtain ⟨t2, a1, b1⟩ := kk ad' r sh iv lw rv T'.heap (locs ++ L) g1 g2 g3 (by rw [e1]; exact g4) g5 g6 g7
    ⟨Nat.le_trans hS.1 (by rw [e1]; exact hz), fun q h1 h2 => by rw [e1, hk q (Nat.lt_of_lt_of_le h1 hS.1) (fun z => h2 (hA q z))]; exact hS.2.1 q h1 h2, fun q hq => by
      rcases List.mem_append.mp hq with h | h
      · exact hS.2.2 q h
      · exact hA _ (hL q h)⟩ T' rfl X'
  exact ⟨t2, st t2 a1, b1⟩
theorem a_psh_map {ad ad' xd : Nat → Nat} {n : Nat} {r : Option aV} {st : List aV} (h : ∀ i, i < n → ad' i = ad i) (ho : ∀ v ∈ st, a_ok n v) : (r.map (a_val ad' xd)).toList ++ st.map (a_val ad xd) = (a_psh r st).map (a_val ad' xd) := by
  have e : st.map (a_val ad xd) = st.map (a_val ad' xd) := List.map_congr_left (fun v hv => (a_val_ad h (ho v hv)).symm)
  rw [e]
  cases r <;> rfl
theorem a_L_ad {ad ad' xd : Nat → Nat} {n nL : Nat} {jls : Array Slot} {ls : List (Option aV)} (h : ∀ i, i < n → ad' i = ad i) (hl : a_L ad xd jls nL ls) (hol : ∀ (k : Nat) (v : aV), a_nth ls k = some v → a_ok n v) : a_L ad' xd jls nL ls :=
  ⟨hl.1, hl.2.1, hl.2.2.1, fun k v hk => by rw [a_val_ad h (hol k v hk)]; exact hl.2.2.2 k v hk⟩
end WPC
section WPD
variable {d : Nat} {M : aMth} {pc : Nat} {ls ls0 : List (Option aV)} {st stk as : List aV} {sh : aSh} {iv lw : aF} {rv : aP} {bc bs bc' bs' kc ks : Nat} {R : aPost}
theorem wp_callV {idx b ci : Nat} {M' : aMth} (hd : decode M.2.1 pc = .ok (.invokevirtual idx, 3)) (hcl : a_cv M.1.cls idx ci M' as.length) (hsh : sh[b]? = some (3, ci)) (hstk : stk = as.reverse ++ aR b :: st) (hls : a_loc (aR b :: as) M'.2.2.1 = ls0) (hlen : (a_ent (aR b :: as)).length ≤ M'.2.2.1 := by exact Nat.le_of_ble_eq_true rfl) (hwt : (st.map (fun v => (a_val id id v).category)).sum ≤ 8 := by exact Nat.le_of_ble_eq_true rfl) (hbc : kc + bc' ≤ bc) (hbs : ks + bs' ≤ bs)
    (k : wp d M' 0 ls0 [] sh iv lw rv kc ks (fun r sh iv lw rv => wp (d + 1) M (pc + 3) ls (a_psh r st) sh iv lw rv bc' bs' R)) : wp (d + 1) M pc ls stk sh iv lw rv bc bs R := by
  intro p l e s m args below meth c D cI cL cA xd A mc ms ad0 n0 hC ad H locs cells slots jls hD
  obtain ⟨hx, hb, hml, hr, hlk, hown, hnm, hts, hK, hE, hA⟩ := id hC
  obtain ⟨h1, h2, hP, hDs, hS, hc, hs, hl, hw, ho, hol⟩ := hD
  subst hstk
  subst hls
  obtain ⟨⟨hL1, hL2, hL3, hL4, hL5, hL6⟩, hc1, hc2, C, T, N, hc3, hc4⟩ := hcl
  have hoas : ∀ v ∈ (aR b :: as), a_ok sh.length v := by
    intro v hv
    rcases List.mem_cons.mp hv with rfl | hv
    · exact ho _ (by simp)
    · exact ho _ (by simp [hv])
  have host : ∀ v ∈ st, a_ok sh.length v := fun v hv => ho v (by simp [hv])
  have hg := a_W_get (cI := cI) (cL := cL) (cA := cA) (ad := ad) (iv := iv) (lw := lw) (rv := rv) (a_lt hsh)
  rw [a_cell_3 hsh] at hg
  have hAA : ∀ q, va_A (a_W cI cL cA ad sh iv lw rv) H.size q → A q := by
    intro q hq
    rcases hq with ⟨k, e, hk⟩ | hq
    · exact hDs.2 k _ hk
    · exact hA q (Nat.le_trans hS.1 hq)
  have hEH : aEnv xd (va_A (a_W cI cL cA ad sh iv lw rv) H.size) s H := (hE.kept (fun q a b => hS.2.1 q a b)).narrow hAA
  have hM' := a_met l (as := aR b :: as) hL1 hlen k D cI cL cA xd ad H.size hw hoas
  have hrun := va_runV (g := F0 m pc jls ((as.reverse ++ aR b :: st).map (a_val ad xd))) (cells := cells) (slots := slots) (locs := locs) (As := as.map (a_val ad xd)) (rest := st.map (a_val ad xd)) (R := aRoom (d + 1) mc ms) (H := H) (C := C) (e := e) (below := below) (meth := meth) ⟨hx, hb, hml, hown, hts⟩ hM' ⟨⟨rfl, rfl, (by show d + 1 ≤ d + 1; omega), (by show 8 + (M'.2.2.1 + 11) + 64 * d ≤ 64 * (d + 1); omega), a_ws hts hL5, List.mem_cons_self, hts _ hL5, hts _ hL4, hL2, (fun sig h => by have h2 := hL3; rw [h] at h2; exact (Option.some.inj h2).symm), hts _ hc1⟩, hts _ hc2, hts _ hc4⟩ ⟨a_blind, va_recv hK hP hc3 hg, fun U hU hW => ⟨rfl, by rw [hU], by rw [hU]; exact hP, va_K.moved hW.alike hK, hDs.weaken (fun _ _ _ _ => trivial), by rw [hU]; exact hEH.warm hW⟩⟩ rfl (by rw [List.length_map]) hl.2.1 (by simp [a_val]) (by rw [show (F0 m pc jls ((as.reverse ++ aR b :: st).map (a_val ad xd))).monitorRoom = 0 from rfl, a_cat]; omega) hd ⟨by show cells + kc ≤ mc; omega, by show slots + ks ≤ ms; omega⟩
  · refine a_cont hrun hS hAA (fun ad' r sh' iv' lw' rv' H1 locs1 g1 g2 g3 g4 g5 g6 g7 g8 => ?_)
    rw [a_psh_map g1 host]
    refine g3 p l e s m args below meth c D cI cL cA xd A mc ms ad0 n0 hC ad' H1 locs1 _ _ jls ⟨fun i hi => (g1 i (by omega)).trans (h1 i hi), by omega, g4, g5.weaken (fun _ _ _ h => hAA _ h), g8, by omega, by omega, a_L_ad g1 hl hol, g6, ?_, fun k v hk => a_ok_mono g2 (hol k v hk)⟩
    intro v hv
    cases r with
    | none => exact a_ok_mono g2 (host v hv)
    | some w =>
      rcases List.mem_cons.mp hv with rfl | hv
      · exact g7 _ rfl
      · exact a_ok_mono g2 (host v hv)
theorem wp_callS {idx : Nat} {M' : aMth} (hd : decode M.2.1 pc = .ok (.invokestatic idx, 3)) (hcl : a_cs M.1.cls idx M' as.length) (hstk : stk = as.reverse ++ st) (hls : a_loc as M'.2.2.1 = ls0) (hlen : (a_ent as).length ≤ M'.2.2.1 := by exact Nat.le_of_ble_eq_true rfl) (hwt : (st.map (fun v => (a_val id id v).category)).sum ≤ 8 := by exact Nat.le_of_ble_eq_true rfl) (hbc : kc + bc' ≤ bc) (hbs : ks + bs' ≤ bs)
    (k : wp d M' 0 ls0 [] sh iv lw rv kc ks (fun r sh iv lw rv => wp (d + 1) M (pc + 3) ls (a_psh r st) sh iv lw rv bc' bs' R)) : wp (d + 1) M pc ls stk sh iv lw rv bc bs R := by
  intro p l e s m args below meth c D cI cL cA xd A mc ms ad0 n0 hC ad H locs cells slots jls hD
  obtain ⟨hx, hb, hml, hr, hlk, hown, hnm, hts, hK, hE, hA⟩ := id hC
  obtain ⟨h1, h2, hP, hDs, hS, hc, hs, hl, hw, ho, hol⟩ := hD
  subst hstk
  subst hls
  obtain ⟨⟨hL1, hL2, hL3, hL4, hL5, hL6⟩, hc1, hc2⟩ := hcl
  have hoas : ∀ v ∈ as, a_ok sh.length v := fun v hv => ho _ (by simp [hv])
  have host : ∀ v ∈ st, a_ok sh.length v := fun v hv => ho v (by simp [hv])
  have hAA : ∀ q, va_A (a_W cI cL cA ad sh iv lw rv) H.size q → A q := by
    intro q hq
    rcases hq with ⟨k, e, hk⟩ | hq
    · exact hDs.2 k _ hk
    · exact hA q (Nat.le_trans hS.1 hq)
  have hEH : aEnv xd (va_A (a_W cI cL cA ad sh iv lw rv) H.size) s H := (hE.kept (fun q a b => hS.2.1 q a b)).narrow hAA
  have hM' := a_met l (as := as) hL1 hlen k D cI cL cA xd ad H.size hw hoas
  have hrun := va_runS (g := F0 m pc jls ((as.reverse ++ st).map (a_val ad xd))) (cells := cells) (slots := slots) (locs := locs) (As := as.map (a_val ad xd)) (rest := st.map (a_val ad xd)) (R := aRoom (d + 1) mc ms) (H := H) (e := e) (below := below) (meth := meth) ⟨hx, hb, hml, hown, hts⟩ hM' ⟨⟨rfl, rfl, (by show d + 1 ≤ d + 1; omega), (by show 8 + (M'.2.2.1 + 11) + 64 * d ≤ 64 * (d + 1); omega), a_ws hts hL5, List.mem_cons_self, hts _ hL5, hts _ hL4, hL2, (fun sig h => by have h2 := hL3; rw [h] at h2; exact (Option.some.inj h2).symm), hts _ hc1⟩, hts _ hc2⟩ ⟨a_blind, fun U hU hW => ⟨rfl, by rw [hU], by rw [hU]; exact hP, va_K.moved hW.alike hK, hDs.weaken (fun _ _ _ _ => trivial), by rw [hU]; exact hEH.warm hW⟩⟩ rfl (by rw [List.length_map]) hl.2.1 (by simp) (by rw [show (F0 m pc jls ((as.reverse ++ st).map (a_val ad xd))).monitorRoom = 0 from rfl, a_cat]; omega) hd ⟨by show cells + kc ≤ mc; omega, by show slots + ks ≤ ms; omega⟩
  · refine a_cont hrun hS hAA (fun ad' r sh' iv' lw' rv' H1 locs1 g1 g2 g3 g4 g5 g6 g7 g8 => ?_)
    rw [a_psh_map g1 host]
    refine g3 p l e s m args below meth c D cI cL cA xd A mc ms ad0 n0 hC ad' H1 locs1 _ _ jls ⟨fun i hi => (g1 i (by omega)).trans (h1 i hi), by omega, g4, g5.weaken (fun _ _ _ h => hAA _ h), g8, by omega, by omega, a_L_ad g1 hl hol, g6, ?_, fun k v hk => a_ok_mono g2 (hol k v hk)⟩
    intro v hv
    cases r with
    | none => exact a_ok_mono g2 (host v hv)
    | some w =>
      rcases List.mem_cons.mp hv with rfl | hv
      · exact g7 _ rfl
      · exact a_ok_mono g2 (host v hv)
theorem wp_callI {idx b : Nat} {M' : aMth} (hd : decode M.2.1 pc = .ok (.invokespecial idx, 3)) (hcl : a_ci M.1.cls idx M' as.length) (hstk : stk = as.reverse ++ aR b :: st) (hls : a_loc (aR b :: as) M'.2.2.1 = ls0) (hlen : (a_ent (aR b :: as)).length ≤ M'.2.2.1 := by exact Nat.le_of_ble_eq_true rfl) (hwt : (st.map (fun v => (a_val id id v).category)).sum ≤ 8 := by exact Nat.le_of_ble_eq_true rfl) (hbc : kc + bc' ≤ bc) (hbs : ks + bs' ≤ bs)
    (k : wp d M' 0 ls0 [] sh iv lw rv kc ks (fun r sh iv lw rv => wp (d + 1) M (pc + 3) ls (a_psh r st) sh iv lw rv bc' bs' R)) : wp (d + 1) M pc ls stk sh iv lw rv bc bs R := by
  intro p l e s m args below meth c D cI cL cA xd A mc ms ad0 n0 hC ad H locs cells slots jls hD
  obtain ⟨hx, hb, hml, hr, hlk, hown, hnm, hts, hK, hE, hA⟩ := id hC
  obtain ⟨h1, h2, hP, hDs, hS, hc, hs, hl, hw, ho, hol⟩ := hD
  subst hstk
  subst hls
  obtain ⟨⟨hL1, hL2, hL3, hL4, hL5, hL6⟩, hc1, hc2, hc3, hc4⟩ := hcl
  have hoas : ∀ v ∈ (aR b :: as), a_ok sh.length v := by
    intro v hv
    rcases List.mem_cons.mp hv with rfl | hv
    · exact ho _ (by simp)
    · exact ho _ (by simp [hv])
  have host : ∀ v ∈ st, a_ok sh.length v := fun v hv => ho v (by simp [hv])
  have hAA : ∀ q, va_A (a_W cI cL cA ad sh iv lw rv) H.size q → A q := by
    intro q hq
    rcases hq with ⟨k, e, hk⟩ | hq
    · exact hDs.2 k _ hk
    · exact hA q (Nat.le_trans hS.1 hq)
  have hEH : aEnv xd (va_A (a_W cI cL cA ad sh iv lw rv) H.size) s H := (hE.kept (fun q a b => hS.2.1 q a b)).narrow hAA
  have hM' := a_met l (as := aR b :: as) hL1 hlen k D cI cL cA xd ad H.size hw hoas
  have hrun := va_runI (g := F0 m pc jls ((as.reverse ++ aR b :: st).map (a_val ad xd))) (cells := cells) (slots := slots) (locs := locs) (As := as.map (a_val ad xd)) (b := ad b) (rest := st.map (a_val ad xd)) (R := aRoom (d + 1) mc ms) (H := H) (e := e) (below := below) (meth := meth) ⟨hx, hb, hml, hown, hts⟩ hM' ⟨⟨rfl, rfl, (by show d + 1 ≤ d + 1; omega), (by show 8 + (M'.2.2.1 + 11) + 64 * d ≤ 64 * (d + 1); omega), a_ws hts hL5, (by rw [hc4]; exact List.mem_cons_self), (by have := hts _ hL5; rwa [hc4] at this), hts _ hL4, hL2, (fun sig h => by have h2 := hL3; rw [h] at h2; exact (Option.some.inj h2).symm), hts _ hc1⟩, hc3, hts _ hc2⟩ ⟨a_blind, fun U hU hW => ⟨rfl, by rw [hU], by rw [hU]; exact hP, va_K.moved hW.alike hK, hDs.weaken (fun _ _ _ _ => trivial), by rw [hU]; exact hEH.warm hW⟩⟩ rfl (by rw [List.length_map]) hl.2.1 (by simp [a_val]) (by rw [show (F0 m pc jls ((as.reverse ++ aR b :: st).map (a_val ad xd))).monitorRoom = 0 from rfl, a_cat]; omega) hd ⟨by show cells + kc ≤ mc; omega, by show slots + ks ≤ ms; omega⟩
  · refine a_cont hrun hS hAA (fun ad' r sh' iv' lw' rv' H1 locs1 g1 g2 g3 g4 g5 g6 g7 g8 => ?_)
    rw [a_psh_map g1 host]
    refine g3 p l e s m args below meth c D cI cL cA xd A mc ms ad0 n0 hC ad' H1 locs1 _ _ jls ⟨fun i hi => (g1 i (by omega)).trans (h1 i hi), by omega, g4, g5.weaken (fun _ _ _ h => hAA _ h), g8, by omega, by omega, a_L_ad g1 hl hol, g6, ?_, fun k v hk => a_ok_mono g2 (hol k v hk)⟩
    intro v hv
    cases r with
    | none => exact a_ok_mono g2 (host v hv)
    | some w =>
      rcases List.mem_cons.mp hv with rfl | hv
      · exact g7 _ rfl
      · exact a_ok_mono g2 (host v hv)
theorem wp_callN {idx b : Nat} {M' : aMth} (hd : decode M.2.1 pc = .ok (.invokespecial idx, 3)) (hcl : a_cn M.1.cls idx M' as.length) (hstk : stk = as.reverse ++ aR b :: st) (hls : a_loc (aR b :: as) M'.2.2.1 = ls0) (hlen : (a_ent (aR b :: as)).length ≤ M'.2.2.1 := by exact Nat.le_of_ble_eq_true rfl) (hwt : (st.map (fun v => (a_val id id v).category)).sum ≤ 8 := by exact Nat.le_of_ble_eq_true rfl) (hbc : kc + bc' ≤ bc) (hbs : ks + bs' ≤ bs)
    (k : wp d M' 0 ls0 [] sh iv lw rv kc ks (fun r sh iv lw rv => wp (d + 1) M (pc + 3) ls (a_psh r st) sh iv lw rv bc' bs' R)) : wp (d + 1) M pc ls stk sh iv lw rv bc bs R := by
  intro p l e s m args below meth c D cI cL cA xd A mc ms ad0 n0 hC ad H locs cells slots jls hD
  obtain ⟨hx, hb, hml, hr, hlk, hown, hnm, hts, hK, hE, hA⟩ := id hC
  obtain ⟨h1, h2, hP, hDs, hS, hc, hs, hl, hw, ho, hol⟩ := hD
  subst hstk
  subst hls
  obtain ⟨⟨hL1, hL2, hL3, hL4, hL5, hL6⟩, hc1, hc2, hc3, hc4⟩ := hcl
  obtain ⟨hst, hc1⟩ := hc1
  have hoas : ∀ v ∈ (aR b :: as), a_ok sh.length v := by
    intro v hv
    rcases List.mem_cons.mp hv with rfl | hv
    · exact ho _ (by simp)
    · exact ho _ (by simp [hv])
  have host : ∀ v ∈ st, a_ok sh.length v := fun v hv => ho v (by simp [hv])
  have hAA : ∀ q, va_A (a_W cI cL cA ad sh iv lw rv) H.size q → A q := by
    intro q hq
    rcases hq with ⟨k, e, hk⟩ | hq
    · exact hDs.2 k _ hk
    · exact hA q (Nat.le_trans hS.1 hq)
  have hEH : aEnv xd (va_A (a_W cI cL cA ad sh iv lw rv) H.size) s H := (hE.kept (fun q a b => hS.2.1 q a b)).narrow hAA
  have hM' := a_met l (as := aR b :: as) hL1 hlen k D cI cL cA xd ad H.size hw hoas
  have hrun := va_runIN (g := F0 m pc jls ((as.reverse ++ aR b :: st).map (a_val ad xd))) (cells := cells) (slots := slots) (locs := locs) (As := as.map (a_val ad xd)) (b := ad b) (rest := st.map (a_val ad xd)) (R := aRoom (d + 1) mc ms) (H := H) (e := e) (below := below) (meth := meth) ⟨hx, hb, hml, hown, hts⟩ hM' ⟨⟨⟨rfl, rfl, (by show d + 1 ≤ d + 1; omega), (by show 8 + (M'.2.2.1 + 11) + 64 * d ≤ 64 * (d + 1); omega), a_ws hts hL5, (by rw [hc4]; exact List.mem_cons_self)⟩, (by have := hts _ hL5; rwa [hc4] at this), hts _ hL4, hL2, (fun sig h => by have h2 := hL3; rw [h] at h2; exact (Option.some.inj h2).symm), va_Nw.use rfl (hE.1 _ hc1 rfl)⟩, hc3, hts _ hc2⟩ ⟨a_blind, fun U hU hW => ⟨rfl, by rw [hU], by rw [hU]; exact hP, va_K.moved hW.alike hK, hDs.weaken (fun _ _ _ _ => trivial), by rw [hU]; exact hEH.warm hW⟩⟩ rfl (by rw [List.length_map]) hl.2.1 (by simp [a_val]) (by rw [show (F0 m pc jls ((as.reverse ++ aR b :: st).map (a_val ad xd))).monitorRoom = 0 from rfl, a_cat]; omega) hd ⟨by show cells + kc ≤ mc; omega, by show slots + ks ≤ ms; omega⟩
  · refine a_cont hrun hS hAA (fun ad' r sh' iv' lw' rv' H1 locs1 g1 g2 g3 g4 g5 g6 g7 g8 => ?_)
    rw [a_psh_map g1 host]
    refine g3 p l e s m args below meth c D cI cL cA xd A mc ms ad0 n0 hC ad' H1 locs1 _ _ jls ⟨fun i hi => (g1 i (by omega)).trans (h1 i hi), by omega, g4, g5.weaken (fun _ _ _ h => hAA _ h), g8, by omega, by omega, a_L_ad g1 hl hol, g6, ?_, fun k v hk => a_ok_mono g2 (hol k v hk)⟩
    intro v hv
    cases r with
    | none => exact a_ok_mono g2 (host v hv)
    | some w =>
      rcases List.mem_cons.mp hv with rfl | hv
      · exact g7 _ rfl
      · exact a_ok_mono g2 (host v hv)
end WPD
