/-! ===== the machine's world told in numbers: cells by their place in a list of shapes, ints as integers ===== -/
abbrev aV : Type := Int ⊕ (Int ⊕ Option (Nat ⊕ Nat))
abbrev aI (v : Int) : aV := Sum.inl v
abbrev aL (v : Int) : aV := Sum.inr (Sum.inl v)
abbrev aN : aV := Sum.inr (Sum.inr none)
abbrev aR (i : Nat) : aV := Sum.inr (Sum.inr (some (Sum.inl i)))
abbrev aX (j : Nat) : aV := Sum.inr (Sum.inr (some (Sum.inr j)))
abbrev aSh : Type := List (Nat × Nat)
abbrev aF : Type := Nat → Int → Int
abbrev aP : Type := Nat → Int → Option Nat
abbrev aMth : Type := MethodName × ByteArray × Nat × Option FieldType
def iR (v : Int) : Prop := -2147483648 ≤ v ∧ v < 2147483648
def lR (v : Int) : Prop := -9223372036854775808 ≤ v ∧ v < 9223372036854775808
def a_ok (n : Nat) (v : aV) : Prop := match v with
  | .inl v => iR v
  | .inr (.inl v) => lR v
  | .inr (.inr none) => True
  | .inr (.inr (some (.inl i))) => i < n
  | .inr (.inr (some (.inr _))) => True
def a_val (ad xd : Nat → Nat) (v : aV) : Value := match v with
  | .inl v => .int (Int32.ofInt v)
  | .inr (.inl v) => .long (Int64.ofInt v)
  | .inr (.inr none) => .null
  | .inr (.inr (some (.inl i))) => .ref (ad i)
  | .inr (.inr (some (.inr j))) => .ref (xd j)
/-- the kinds of a kind's fields: 0 int, 1 boolean, 2 long, 3 a reference -/
def a_ft (ci : Nat) : List Nat := match ci with
  | 0 => [3, 3, 3, 3, 3, 3]
  | 1 => [3, 3, 3, 3, 0, 0]
  | 2 => [3, 0]
  | 3 => [0, 3, 0, 3, 3, 3]
  | 4 => [3, 3, 3]
  | 5 => [3, 3, 3, 3]
  | 6 => [3, 0, 3, 3, 0, 0, 3, 3, 0, 1]
  | 7 => [3, 3, 3, 0, 0]
  | 8 => [3, 3, 3, 3, 0, 0, 1, 0, 0]
  | 9 => [3, 0]
  | 10 => [3, 0]
  | 11 => [3, 3, 3, 3, 3, 3, 3, 3, 3, 0, 2]
  | _ => [0, 3, 0, 0, 0, 3, 3, 3, 0, 0, 3, 3, 3, 0, 0, 3, 3, 0, 3, 0, 3, 3, 0, 3, 3, 0, 2, 3, 3, 3, 1]
def a_fv (ad : Nat → Nat) (iv lw : aF) (rv : aP) (i t k : Nat) : Value := match t with
  | 3 => va_rf ((rv i k).map ad)
  | 2 => .long (Int64.ofInt (lw i k))
  | _ => .int (Int32.ofInt (iv i k))
def a_fs (ad : Nat → Nat) (iv lw : aF) (rv : aP) (i : Nat) (ts : List Nat) : List Value := (List.range ts.length).map (fun k => a_fv ad iv lw rv i (ts.getD k 0) k)
/-- shapes: (0, n) ints, (1, n) Links, (2, n) rows of ints, (3, ci) an object of kind ci -/
def a_cell (cI cL cA : ClassId) (ad : Nat → Nat) (sh : aSh) (iv lw : aF) (rv : aP) (i : Nat) : va_E := match sh[i]? with
  | some (0, n) => .inl (cI, n, .inl (fun k => Int32.ofInt (iv i k)))
  | some (1, n) => .inl (cL, n, .inr (.inr (.inr (.inr (fun k => (rv i k).map ad)))))
  | some (2, n) => .inl (cA, n, .inr (.inr (.inr (.inr (fun k => (rv i k).map ad)))))
  | some (_, ci) => .inr (ci, a_fs ad iv lw rv i (a_ft ci))
  | none => .inr (0, [])
def a_W (cI cL cA : ClassId) (ad : Nat → Nat) (sh : aSh) (iv lw : aF) (rv : aP) : va_W := (List.range sh.length).map (fun i => (ad i, a_cell cI cL cA ad sh iv lw rv i))
def uI (iv : aF) (i : Nat) (k v : Int) : aF := fun a b => if a = i ∧ b = k then v else iv a b
def uA (iv : aF) (i : Nat) (f : Int → Int) : aF := fun a b => if a = i then f b else iv a b
def uP (rv : aP) (i : Nat) (k : Int) (v : Option Nat) : aP := fun a b => if a = i ∧ b = k then v else rv a b
def uQ (rv : aP) (i : Nat) (f : Int → Option Nat) : aP := fun a b => if a = i then f b else rv a b
def a_wf (n : Nat) (iv lw : aF) (rv : aP) : Prop := (∀ i k, iR (iv i k)) ∧ (∀ i k, lR (lw i k)) ∧ ∀ i k j, rv i k = some j → j < n
def a_nth : List (Option aV) → Nat → Option aV
  | [], _ => none
  | x :: _, 0 => x
  | _ :: t, n + 1 => a_nth t n
def a_put : List (Option aV) → Nat → Option aV → List (Option aV)
  | [], _, _ => []
  | _ :: t, 0, v => v :: t
  | x :: t, n + 1, v => x :: a_put t n v
def a_lg (v : Option aV) : Bool := match v with
  | some (.inr (.inl _)) => true
  | _ => false
def a_nl (ls : List (Option aV)) (i : Nat) : Bool := match i with
  | 0 => true
  | k + 1 => !(a_lg (a_nth ls k))
def a_L (ad xd : Nat → Nat) (jls : Array Slot) (nL : Nat) (ls : List (Option aV)) : Prop := ls.length = nL ∧ jls.size = nL ∧ lv_wf jls ∧ ∀ (k : Nat) (v : aV), a_nth ls k = some v → jls[k]? = some (.val (a_val ad xd v))
def aG : List Cond := lw_tbl.filter goodWord
def a_isN (w : Cond) : Bool := match w with
  | .fieldLinkNest .. => true
  | .methodLinkNest .. => true
  | _ => false
def a_AA (U : State) : Prop := (Cond.arrayOver (.array .int)).before #[] U = true
/-- what is read only: six static rows of ints, two texts -/
def aXn (j : Nat) : String := match j with
  | 0 => "RULE_LEAST"
  | 1 => "RULE_MOST"
  | 2 => "RULE_USUAL"
  | 3 => "PAIR_LEAST"
  | 4 => "PAIR_MOST"
  | _ => "PAIR_USUAL"
def aXl (j : Nat) : List Int := match j with
  | 0 => [4, 1, 2, 2, 0]
  | 1 => [16, 4, 9, 9, 1]
  | 2 => [10, 2, 3, 4, 1]
  | 3 => [0, 0, 2, 0]
  | 4 => [5, 5, 3, 9]
  | _ => [0, 1, 2, 1]
def aEnv (xd : Nat → Nat) (A : Nat → Prop) (U : State) (H : Heap) : Prop := (∀ w ∈ lw_tbl, a_isN w = true → va_Nw w U) ∧ va_AO "HoppingMesh$Link" U ∧ a_AA U ∧
  (∀ j, j < 6 → va_Z "HoppingMesh$Reader" (aXn j) "[I" (.ref (xd j)) A U H) ∧ (∀ j, j < 6 → va_T .int (xd j) (aXl j).length (fun k => .int (Int32.ofInt ((aXl j).getD k 0))) A U H) ∧
  vk_R "HoppingMesh$Reader" 74 "wctmu" (xd 6) U ∧ vk_R "HoppingMesh$Reader" 89 "abkl" (xd 7) U ∧ vk_S 2 [5, 4] [[119, 99, 116, 109, 117], [97, 98, 107, 108]] (fun i => xd (6 + i)) (fun i => xd (8 + i)) A U H ∧ va_Z "java/lang/String" "COMPACT_STRINGS" "Z" (.int 1) A U H
def aTys (cI cL cA : ClassId) : List (ClassId × FieldType) := [(cI, .int), (cL, .object "HoppingMesh$Link"), (cA, .array .int)]
def aRoom (d mc ms : Nat) : Room := { frames := d, cells := mc, slots := ms, locals := 64 * d }
abbrev aPost : Type := Option aV → aSh → aF → aF → aP → Prop
def aQ (D : va_G) (cI cL cA : ClassId) (xd ad0 : Nat → Nat) (n0 : Nat) (A : Nat → Prop) (R : aPost) : Array Value → State → Outcome → State → Prop := fun _ st o t =>
  (∃ (ad : Nat → Nat) (r : Option aV) (sh : aSh) (iv lw : aF) (rv : aP), (∀ i, i < n0 → ad i = ad0 i) ∧ n0 ≤ sh.length ∧ o = .returned (r.map (a_val ad xd)) ∧ R r sh iv lw rv ∧ va_P D vwCl (a_W cI cL cA ad sh iv lw rv) t.heap ∧ va_D A (a_W cI cL cA ad sh iv lw rv) ∧ a_wf sh.length iv lw rv ∧ ∀ v, r = some v → a_ok sh.length v) ∧ va_F A st t
def aCtx (M : aMth) (D : va_G) (cI cL cA : ClassId) (xd : Nat → Nat) (A : Nat → Prop) (p : Program) (s : State) (m : MethodId) (args : Array Value) (meth : Method) (c : Code) : Prop :=
  p.tables.exec = Jvm.exec ∧ c.code = M.2.1 ∧ c.maxLocals = M.2.2.1 ∧ meth.sig.returnType = M.2.2.2 ∧ meth.locks = false ∧ s.vm.findClass M.1.cls = some m.cls ∧ meth.name = M.1.name ∧ (∀ w ∈ aG, w.before args s = true) ∧ va_K D vwCl (aTys cI cL cA) s ∧ aEnv xd A s s.heap ∧ ∀ q, s.heap.size ≤ q → A q
def aDyn (nL : Nat) (D : va_G) (cI cL cA : ClassId) (xd : Nat → Nat) (A : Nat → Prop) (mc ms : Nat) (ad0 : Nat → Nat) (n0 : Nat) (s : State) (ls : List (Option aV)) (st : List aV) (sh : aSh) (iv lw : aF) (rv : aP) (bc bs : Nat) (ad : Nat → Nat) (H : Heap) (locs : List Loc) (cells slots : Nat) (jls : Array Slot) : Prop :=
  (∀ i, i < n0 → ad i = ad0 i) ∧ n0 ≤ sh.length ∧ va_P D vwCl (a_W cI cL cA ad sh iv lw rv) H ∧ va_D A (a_W cI cL cA ad sh iv lw rv) ∧ va_S A s.heap H locs ∧ cells + bc ≤ mc ∧ slots + bs ≤ ms ∧ a_L ad xd jls nL ls ∧ a_wf sh.length iv lw rv ∧ (∀ v ∈ st, a_ok sh.length v) ∧ ∀ (k : Nat) (v : aV), a_nth ls k = some v → a_ok sh.length v
/-- from pc on, with these locals, this stack, this world, room for bc cells of bs slots, and d frames above: the method returns, and R holds of its answer and the world then -/
def wp (d : Nat) (M : aMth) (pc : Nat) (ls : List (Option aV)) (st : List aV) (sh : aSh) (iv lw : aF) (rv : aP) (bc bs : Nat) (R : aPost) : Prop :=
  ∀ (p : Program) (l : Launch) (e : Env) (s : State) (m : MethodId) (args : Array Value) (below : List Frame) (meth : Method) (c : Code) (D : va_G) (cI cL cA : ClassId) (xd : Nat → Nat) (A : Nat → Prop) (mc ms : Nat) (ad0 : Nat → Nat) (n0 : Nat),
    aCtx M D cI cL cA xd A p s m args meth c → ∀ (ad : Nat → Nat) (H : Heap) (locs : List Loc) (cells slots : Nat) (jls : Array Slot), aDyn M.2.2.1 D cI cL cA xd A mc ms ad0 n0 s ls st sh iv lw rv bc bs ad H locs cells slots jls →
      W p l e (aRoom d mc ms) s m args below meth c H locs cells slots (MQ below (aQ D cI cL cA xd ad0 n0 A R) args s mc ms A) (F0 m pc jls (st.map (a_val ad xd)))
/-! ===== plain facts of these words ===== -/
theorem a_W_get {cI cL cA : ClassId} {ad : Nat → Nat} {sh : aSh} {iv lw : aF} {rv : aP} {i : Nat} (h : i < sh.length) : (a_W cI cL cA ad sh iv lw rv)[i]? = some (ad i, a_cell cI cL cA ad sh iv lw rv i) := by
  unfold a_W
  rw [List.getElem?_map, List.getElem?_range h]
  rfl
theorem a_lt {sh : aSh} {i : Nat} {x : Nat × Nat} (h : sh[i]? = some x) : i < sh.length := (List.getElem?_eq_some_iff.mp h).1
theorem a_W_set {cI cL cA : ClassId} {ad : Nat → Nat} {sh : aSh} {iv lw iv' lw' : aF} {rv rv' : aP} {i : Nat} {e : va_E} (hi : i < sh.length) (he : a_cell cI cL cA ad sh iv' lw' rv' i = e) (ho : ∀ j, j ≠ i → a_cell cI cL cA ad sh iv' lw' rv' j = a_cell cI cL cA ad sh iv lw rv j) :
    (a_W cI cL cA ad sh iv lw rv).set i (ad i, e) = a_W cI cL cA ad sh iv' lw' rv' := by
  apply List.ext_getElem?
  intro j
  by_cases hj : j < sh.length
  · by_cases hji : j = i
    · subst hji
      rw [a_W_get hj, List.getElem?_set_self (by unfold a_W; simpa using hj), he]
    · rw [List.getElem?_set_ne (fun q => hji q.symm), a_W_get hj, a_W_get hj, ho j hji]
  · rw [List.getElem?_eq_none (by unfold a_W; simp; omega), List.getElem?_eq_none (by unfold a_W; simp; omega)]
theorem a_cell_0 {cI cL cA : ClassId} {ad : Nat → Nat} {sh : aSh} {iv lw : aF} {rv : aP} {i n : Nat} (h : sh[i]? = some (0, n)) : a_cell cI cL cA ad sh iv lw rv i = .inl (cI, n, .inl (fun k => Int32.ofInt (iv i k))) := by
  unfold a_cell; rw [h]; rfl
theorem a_cell_1 {cI cL cA : ClassId} {ad : Nat → Nat} {sh : aSh} {iv lw : aF} {rv : aP} {i n : Nat} (h : sh[i]? = some (1, n)) : a_cell cI cL cA ad sh iv lw rv i = .inl (cL, n, .inr (.inr (.inr (.inr (fun k => (rv i k).map ad))))) := by
  unfold a_cell; rw [h]; rfl
theorem a_cell_2 {cI cL cA : ClassId} {ad : Nat → Nat} {sh : aSh} {iv lw : aF} {rv : aP} {i n : Nat} (h : sh[i]? = some (2, n)) : a_cell cI cL cA ad sh iv lw rv i = .inl (cA, n, .inr (.inr (.inr (.inr (fun k => (rv i k).map ad))))) := by
  unfold a_cell; rw [h]; rfl
theorem a_cell_3 {cI cL cA : ClassId} {ad : Nat → Nat} {sh : aSh} {iv lw : aF} {rv : aP} {i ci : Nat} (h : sh[i]? = some (3, ci)) : a_cell cI cL cA ad sh iv lw rv i = .inr (ci, a_fs ad iv lw rv i (a_ft ci)) := by
  unfold a_cell; rw [h]; rfl
theorem a_cell_ne {cI cL cA : ClassId} {ad : Nat → Nat} {sh : aSh} {iv lw iv' lw' : aF} {rv rv' : aP} {j : Nat} (h1 : ∀ k, iv' j k = iv j k) (h2 : ∀ k, lw' j k = lw j k) (h3 : ∀ k, rv' j k = rv j k) : a_cell cI cL cA ad sh iv' lw' rv' j = a_cell cI cL cA ad sh iv lw rv j := by
  unfold a_cell a_fs a_fv
  simp only [h1, h2, h3]
theorem a_fs_get {ad : Nat → Nat} {iv lw : aF} {rv : aP} {i k : Nat} {ts : List Nat} {t : Nat} (h : ts[k]? = some t) : (a_fs ad iv lw rv i ts)[k]? = some (a_fv ad iv lw rv i t k) := by
  have hk : k < ts.length := (List.getElem?_eq_some_iff.mp h).1
  unfold a_fs
  rw [List.getElem?_map, List.getElem?_range hk]
  simp [List.getD, h]
theorem a_fs_len {ad : Nat → Nat} {iv lw : aF} {rv : aP} {i : Nat} {ts : List Nat} : (a_fs ad iv lw rv i ts).length = ts.length := by
  unfold a_fs; simp
theorem a_fs_set {ad : Nat → Nat} {iv lw iv' lw' : aF} {rv rv' : aP} {i k t : Nat} {ts : List Nat} {v : Value} (ht : ts[k]? = some t) (hv : a_fv ad iv' lw' rv' i t k = v) (h1 : ∀ j : Nat, j ≠ k → iv' i j = iv i j) (h2 : ∀ j : Nat, j ≠ k → lw' i j = lw i j) (h3 : ∀ j : Nat, j ≠ k → rv' i j = rv i j) : (a_fs ad iv lw rv i ts).set k v = a_fs ad iv' lw' rv' i ts := by
  have hk : k < ts.length := (List.getElem?_eq_some_iff.mp ht).1
  apply List.ext_getElem?
  intro j
  by_cases hj : j < ts.length
  · have hjt : ts[j]? = some ts[j] := List.getElem?_eq_getElem hj
    by_cases hjk : j = k
    · subst hjk
      rw [List.getElem?_set_self (by rw [a_fs_len]; exact hk), a_fs_get ht, hv]
    · rw [List.getElem?_set_ne (fun q => hjk q.symm), a_fs_get hjt, a_fs_get hjt]
      unfold a_fv
      rw [h1 j hjk, h2 j hjk, h3 j hjk]
  · rw [List.getElem?_eq_none (by rw [List.length_set, a_fs_len]; omega), List.getElem?_eq_none (by rw [a_fs_len]; omega)]
theorem a_nth_put {ls : List (Option aV)} {i : Nat} {x : Option aV} (hi : i < ls.length) : ∀ k : Nat, a_nth (a_put ls i x) k = if k = i then x else a_nth ls k := by
  induction ls generalizing i with
  | nil => simp at hi
  | cons y t ih =>
    intro k
    cases i with
    | zero => cases k with
      | zero => simp [a_put, a_nth]
      | succ k => simp [a_put, a_nth]
    | succ i => cases k with
      | zero => simp [a_put, a_nth]
      | succ k =>
        have := ih (i := i) (by simpa using hi) k
        simp only [a_put, a_nth, this, Nat.add_right_cancel_iff]
theorem a_put_len {ls : List (Option aV)} {i : Nat} {x : Option aV} : (a_put ls i x).length = ls.length := by
  induction ls generalizing i with
  | nil => rfl
  | cons y t ih => cases i with
    | zero => rfl
    | succ i => simp [a_put, ih]
theorem a_nth_lt {ls : List (Option aV)} {k : Nat} {v : aV} (h : a_nth ls k = some v) : k < ls.length := by
  induction ls generalizing k with
  | nil => simp [a_nth] at h
  | cons y t ih => cases k with
    | zero => simp
    | succ k => have := ih (k := k) (by simpa [a_nth] using h); simp; omega
def a_lv (ad xd : Nat → Nat) (ls : List (Option aV)) : List (Nat × Value) := (List.range ls.length).filterMap (fun k => (a_nth ls k).map (fun v => (k, a_val ad xd v)))
theorem a_lv_mem {ad xd : Nat → Nat} {ls : List (Option aV)} {k : Nat} {v : aV} (h : a_nth ls k = some v) : (k, a_val ad xd v) ∈ a_lv ad xd ls := by
  unfold a_lv
  exact List.mem_filterMap.mpr ⟨k, List.mem_range.mpr (a_nth_lt h), by rw [h]; rfl⟩
theorem a_L.has {ad xd : Nat → Nat} {jls : Array Slot} {nL : Nat} {ls : List (Option aV)} (h : a_L ad xd jls nL ls) : lv_has jls nL (a_lv ad xd ls) := by
  refine ⟨h.2.1, h.2.2.1, fun q hq => ?_⟩
  obtain ⟨k, -, hk⟩ := List.mem_filterMap.mp hq
  cases hn : a_nth ls k with
  | none => rw [hn] at hk; cases hk
  | some v => rw [hn] at hk; cases hk; exact h.2.2.2 k v hn
theorem a_L.st1 {ad xd : Nat → Nat} {jls jls' : Array Slot} {nL i : Nat} {ls : List (Option aV)} {v : aV} (h : a_L ad xd jls nL ls) (hi : i < nL) (hl : a_nl ls i = true) (h' : lv_has jls' nL ((i, a_val ad xd v) :: (a_lv ad xd ls).filter (fun q => !(q.1 == i) && !(q.1 + 1 == i && q.2.category == 2)))) : a_L ad xd jls' nL (a_put ls i (some v)) := by
  refine ⟨by rw [a_put_len]; exact h.1, h'.1, h'.2.1, fun k w hk => ?_⟩
  rw [a_nth_put (by rw [h.1]; exact hi)] at hk
  by_cases hki : k = i
  · rw [if_pos hki] at hk
    cases hk
    rw [hki]
    exact h'.2.2 _ List.mem_cons_self
  · rw [if_neg hki] at hk
    refine h'.2.2 (k, a_val ad xd w) (List.mem_cons_of_mem _ (List.mem_filter.mpr ⟨a_lv_mem hk, ?_⟩))
    simp only [Bool.and_eq_true, Bool.not_eq_true', beq_eq_false_iff_ne, ne_eq, Bool.and_eq_false_iff]
    refine ⟨hki, ?_⟩
    by_cases h1 : k + 1 = i
    · right
      subst h1
      simp only [a_nl, hk] at hl
      rcases w with w | w | w | w | w <;> simp [a_lg, a_val, Value.category] at hl ⊢
    · left; exact h1
theorem a_L.st2 {ad xd : Nat → Nat} {jls jls' : Array Slot} {nL i : Nat} {ls : List (Option aV)} {v : aV} (h : a_L ad xd jls nL ls) (hi : i + 1 < nL) (hl : a_nl ls i = true) (h' : lv_has jls' nL ((i, a_val ad xd v) :: (a_lv ad xd ls).filter (fun q => !(q.1 == i) && (!(q.1 == i + 1) && !(q.1 + 1 == i && q.2.category == 2))))) : a_L ad xd jls' nL (a_put (a_put ls i (some v)) (i + 1) none) := by
  refine ⟨by rw [a_put_len, a_put_len]; exact h.1, h'.1, h'.2.1, fun k w hk => ?_⟩
  rw [a_nth_put (by rw [a_put_len, h.1]; exact hi)] at hk
  by_cases hk1 : k = i + 1
  · rw [if_pos hk1] at hk; cases hk
  · rw [if_neg hk1, a_nth_put (by rw [h.1]; omega)] at hk
    by_cases hki : k = i
    · rw [if_pos hki] at hk
      cases hk
      rw [hki]
      exact h'.2.2 _ List.mem_cons_self
    · rw [if_neg hki] at hk
      refine h'.2.2 (k, a_val ad xd w) (List.mem_cons_of_mem _ (List.mem_filter.mpr ⟨a_lv_mem hk, ?_⟩))
      simp only [Bool.and_eq_true, Bool.not_eq_true', beq_eq_false_iff_ne, ne_eq, Bool.and_eq_false_iff]
      refine ⟨hki, hk1, ?_⟩
      by_cases h1 : k + 1 = i
      · right
        subst h1
        simp only [a_nl, hk] at hl
        rcases w with w | w | w | w | w <;> simp [a_lg, a_val, Value.category] at hl ⊢
      · left; exact h1
theorem a_val_ad {ad ad' xd : Nat → Nat} {n : Nat} {v : aV} (h : ∀ i, i < n → ad' i = ad i) (hv : a_ok n v) : a_val ad' xd v = a_val ad xd v := by
  rcases v with v | v | _ | v | v
  · rfl
  · rfl
  · rfl
  · exact congrArg Value.ref (h v hv)
  · rfl
