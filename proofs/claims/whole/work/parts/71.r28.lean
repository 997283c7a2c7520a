section R28
variable {d : Nat} {iv lw : aF} {F N G O T S X Y Z : Int → Int} {R : aPost} {a w p h : Int}
def WhP (Y : Int → Int) (x : Int) : Prop := ¬ Y (4 * x + 0) = Y (4 * x + 1) ∧ ∀ q : Int, 0 ≤ q → q < x → ¬ (Y (4 * x + 0) = Y (4 * q + 0) ∧ Y (4 * x + 1) = Y (4 * q + 1))
theorem l_wh0 (hp : 0 ≤ p ∧ p ≤ 6) (kf : R (some (aI 0)) SHR (ST (RE iv X Y Z) (RF F (a) (w) (p) (h)) N G O T S) lw RVR) (m : Nat) : ∀ (x : Int) (v3 : Option aV), 0 ≤ x → x + m = p → wp (d) mX12_isWhole 15 [some (aR 0), some (aI 0), some (aI x), v3] [] SHR (ST (RE iv X Y Z) (RF F (a) (w) (p) (h)) N G O T S) lw RVR 0 0 R := by
  have inner : ∀ (x : Int) (k : ∀ v3 : Option aV, wp (d) mX12_isWhole 125 [some (aR 0), some (aI 0), some (aI x), v3] [] SHR (ST (RE iv X Y Z) (RF F (a) (w) (p) (h)) N G O T S) lw RVR 0 0 R) (n : Nat) (q : Int), 0 ≤ q → q + n = x → x < 6 → wp (d) mX12_isWhole 58 [some (aR 0), some (aI 0), some (aI x), some (aI q)] [] SHR (ST (RE iv X Y Z) (RF F (a) (w) (p) (h)) N G O T S) lw RVR 0 0 R := by
    intro x k n
    induction n with
    | zero =>
      intro q h0 hm h6
      refine wp_iload_n dX12_isWhole_58 rfl ?_
      refine wp_iload_n dX12_isWhole_59 rfl ?_
      refine wp_icmp_ge (tgt := 125) dX12_isWhole_60 rfl (fun h60 => ?_) (fun h60 => by exfalso; omega)
      exact k _
    | succ n ih =>
      intro q h0 hm h6
      refine wp_iload_n dX12_isWhole_58 rfl ?_
      refine wp_iload_n dX12_isWhole_59 rfl ?_
      refine wp_icmp_ge (tgt := 125) dX12_isWhole_60 rfl (fun h60 => by exfalso; omega) (fun h60 => ?_)
      refine wp_iload_n dX12_isWhole_63 rfl ?_
      refine wp_if_eq (tgt := 117) dX12_isWhole_64 rfl (fun _ => ?_) (fun q => absurd q (by decide))
      refine wp_iconst dX12_isWhole_117 ?_
      refine wp_istore_n (ls' := [_, _, _, _]) dX12_isWhole_118 (by decide) rfl rfl ?_
      refine wp_iinc (ls' := [_, _, _, _]) dX12_isWhole_119 (by decide) rfl rfl ⟨by omega, by omega⟩ rfl ?_
      refine wp_goto (tgt := 58) dX12_isWhole_122 rfl ?_
      exact ih _ (by omega) (by omega) h6
  induction m with
  | zero =>
    intro x v3 h0 hm
    refine wp_iload_n dX12_isWhole_15 rfl ?_
    refine wp_aload_n dX12_isWhole_16 rfl ?_
    refine wp_getI dX12_isWhole_17 fX12_119 rfl ?_
    try simp only [ST0, ST5, ST6, ST7, ST8, ST10, ST11, ST12, ST13, ST1, ST2, ST3, ST4, RE1, RE2, RE3, RE4, RF2, RF3, RF4, RF8, RF9, RF13, RF14]
    refine wp_icmp_ge (tgt := 131) dX12_isWhole_20 rfl (fun h20 => ?_) (fun h20 => by exfalso; omega)
    refine wp_iload_n dX12_isWhole_131 rfl ?_
    refine wp_zreturn dX12_isWhole_132 rfl (Or.inl rfl) ?_
    exact kf
  | succ m ih =>
    intro x v3 h0 hm
    refine wp_iload_n dX12_isWhole_15 rfl ?_
    refine wp_aload_n dX12_isWhole_16 rfl ?_
    refine wp_getI dX12_isWhole_17 fX12_119 rfl ?_
    try simp only [ST0, ST5, ST6, ST7, ST8, ST10, ST11, ST12, ST13, ST1, ST2, ST3, ST4, RE1, RE2, RE3, RE4, RF2, RF3, RF4, RF8, RF9, RF13, RF14]
    refine wp_icmp_ge (tgt := 131) dX12_isWhole_20 rfl (fun h20 => by exfalso; omega) (fun h20 => ?_)
    refine wp_iload_n dX12_isWhole_23 rfl ?_
    refine wp_if_eq (tgt := 54) dX12_isWhole_24 rfl (fun _ => ?_) (fun q => absurd q (by decide))
    refine wp_iconst dX12_isWhole_54 ?_
    refine wp_istore_n (ls' := [_, _, _, _]) dX12_isWhole_55 (by decide) rfl rfl ?_
    refine wp_iconst dX12_isWhole_56 ?_
    refine wp_istore_n (ls' := [_, _, _, _]) dX12_isWhole_57 (by decide) rfl rfl ?_
    refine inner x (fun v3 => ?_) x.toNat 0 (by omega) (by omega) (by omega)
    refine wp_iinc (ls' := [_, _, _, _]) dX12_isWhole_125 (by decide) rfl rfl ⟨by omega, by omega⟩ rfl ?_
    refine wp_goto (tgt := 15) dX12_isWhole_128 rfl ?_
    exact ih _ _ (by omega) (by omega)
theorem l_wh3 {x : Int} (hp : 0 ≤ p ∧ p ≤ 6) (kf : R (some (aI 0)) SHR (ST (RE iv X Y Z) (RF F (a) (w) (p) (h)) N G O T S) lw RVR) (hx : x < 6) (k : ∀ v3 : Option aV, wp (d) mX12_isWhole 125 [some (aR 0), some (aI 0), some (aI x), v3] [] SHR (ST (RE iv X Y Z) (RF F (a) (w) (p) (h)) N G O T S) lw RVR 0 0 R) (n : Nat) : ∀ q : Int, 0 ≤ q → q + n = x → wp (d) mX12_isWhole 58 [some (aR 0), some (aI 0), some (aI x), some (aI q)] [] SHR (ST (RE iv X Y Z) (RF F (a) (w) (p) (h)) N G O T S) lw RVR 0 0 R := by
  induction n with
  | zero =>
    intro q h0 hm
    refine wp_iload_n dX12_isWhole_58 rfl ?_
    refine wp_iload_n dX12_isWhole_59 rfl ?_
    refine wp_icmp_ge (tgt := 125) dX12_isWhole_60 rfl (fun h60 => ?_) (fun h60 => by exfalso; omega)
    exact k _
  | succ n ih =>
    intro q h0 hm
    refine wp_iload_n dX12_isWhole_58 rfl ?_
    refine wp_iload_n dX12_isWhole_59 rfl ?_
    refine wp_icmp_ge (tgt := 125) dX12_isWhole_60 rfl (fun h60 => by exfalso; omega) (fun h60 => ?_)
    refine wp_iload_n dX12_isWhole_63 rfl ?_
    refine wp_if_eq (tgt := 117) dX12_isWhole_64 rfl (fun _ => ?_) (fun q => absurd q (by decide))
    refine wp_iconst dX12_isWhole_117 ?_
    refine wp_istore_n (ls' := [_, _, _, _]) dX12_isWhole_118 (by decide) rfl rfl ?_
    refine wp_iinc (ls' := [_, _, _, _]) dX12_isWhole_119 (by decide) rfl rfl ⟨by omega, by omega⟩ rfl ?_
    refine wp_goto (tgt := 58) dX12_isWhole_122 rfl ?_
    exact ih _ (by omega) (by omega)
theorem l_wh1 {x : Int} (hp : 0 ≤ p ∧ p ≤ 6) (hx : 0 ≤ x ∧ x < p) (h0' : ¬ Y (4 * x + 0) = Y (4 * x + 1)) (kt : ∀ v3 : Option aV, WhP Y x → wp (d) mX12_isWhole 125 [some (aR 0), some (aI 1), some (aI x), v3] [] SHR (ST (RE iv X Y Z) (RF F (a) (w) (p) (h)) N G O T S) lw RVR 0 0 R) (kf : ∀ v3 : Option aV, ¬ WhP Y x → wp (d) mX12_isWhole 125 [some (aR 0), some (aI 0), some (aI x), v3] [] SHR (ST (RE iv X Y Z) (RF F (a) (w) (p) (h)) N G O T S) lw RVR 0 0 R) (n : Nat) : ∀ q : Int, 0 ≤ q → q + n = x → (∀ z : Int, 0 ≤ z → z < q → ¬ (Y (4 * x + 0) = Y (4 * z + 0) ∧ Y (4 * x + 1) = Y (4 * z + 1))) → wp (d) mX12_isWhole 58 [some (aR 0), some (aI 1), some (aI x), some (aI q)] [] SHR (ST (RE iv X Y Z) (RF F (a) (w) (p) (h)) N G O T S) lw RVR 0 0 R := by
  have inner : (¬ WhP Y x) → ∀ (n : Nat) (q : Int), 0 ≤ q → q + n = x → wp (d) mX12_isWhole 58 [some (aR 0), some (aI 0), some (aI x), some (aI q)] [] SHR (ST (RE iv X Y Z) (RF F (a) (w) (p) (h)) N G O T S) lw RVR 0 0 R := by
    intro hno n
    induction n with
    | zero =>
      intro q h0 hm
      refine wp_iload_n dX12_isWhole_58 rfl ?_
      refine wp_iload_n dX12_isWhole_59 rfl ?_
      refine wp_icmp_ge (tgt := 125) dX12_isWhole_60 rfl (fun h60 => ?_) (fun h60 => by exfalso; omega)
      exact kf _ hno
    | succ n ih =>
      intro q h0 hm
      refine wp_iload_n dX12_isWhole_58 rfl ?_
      refine wp_iload_n dX12_isWhole_59 rfl ?_
      refine wp_icmp_ge (tgt := 125) dX12_isWhole_60 rfl (fun h60 => by exfalso; omega) (fun h60 => ?_)
      refine wp_iload_n dX12_isWhole_63 rfl ?_
      refine wp_if_eq (tgt := 117) dX12_isWhole_64 rfl (fun _ => ?_) (fun q => absurd q (by decide))
      refine wp_iconst dX12_isWhole_117 ?_
      refine wp_istore_n (ls' := [_, _, _, _]) dX12_isWhole_118 (by decide) rfl rfl ?_
      refine wp_iinc (ls' := [_, _, _, _]) dX12_isWhole_119 (by decide) rfl rfl ⟨by omega, by omega⟩ rfl ?_
      refine wp_goto (tgt := 58) dX12_isWhole_122 rfl ?_
      exact ih _ (by omega) (by omega)
  induction n with
  | zero =>
    intro q h0 hm hz
    refine wp_iload_n dX12_isWhole_58 rfl ?_
    refine wp_iload_n dX12_isWhole_59 rfl ?_
    refine wp_icmp_ge (tgt := 125) dX12_isWhole_60 rfl (fun h60 => ?_) (fun h60 => by exfalso; omega)
    exact kt _ ⟨h0', fun z a b => hz z a (by omega)⟩
  | succ n ih =>
    intro q h0 hm hz
    refine wp_iload_n dX12_isWhole_58 rfl ?_
    refine wp_iload_n dX12_isWhole_59 rfl ?_
    refine wp_icmp_ge (tgt := 125) dX12_isWhole_60 rfl (fun h60 => by exfalso; omega) (fun h60 => ?_)
    refine wp_iload_n dX12_isWhole_63 rfl ?_
    refine wp_if_eq (tgt := 117) dX12_isWhole_64 rfl (fun q => absurd q (by decide)) (fun _ => ?_)
    refine wp_aload_n dX12_isWhole_67 rfl ?_
    refine wp_getR rfl dX12_isWhole_68 fX12_16 rfl ?_
    refine wp_iconst dX12_isWhole_71 ?_
    refine wp_iload_n dX12_isWhole_72 rfl ?_
    refine wp_imul dX12_isWhole_73 ⟨by omega, by omega⟩ ?_
    refine wp_iconst dX12_isWhole_74 ?_
    refine wp_iadd dX12_isWhole_75 ⟨by omega, by omega⟩ ?_
    refine wp_iald dX12_isWhole_76 rfl (by omega) (by omega) ?_
    try simp only [ST0, ST5, ST6, ST7, ST8, ST10, ST11, ST12, ST13, ST1, ST2, ST3, ST4, RE1, RE2, RE3, RE4, RF2, RF3, RF4, RF8, RF9, RF13, RF14]
    refine wp_aload_n dX12_isWhole_77 rfl ?_
    refine wp_getR rfl dX12_isWhole_78 fX12_16 rfl ?_
    refine wp_iconst dX12_isWhole_81 ?_
    refine wp_iload_n dX12_isWhole_82 rfl ?_
    refine wp_imul dX12_isWhole_83 ⟨by omega, by omega⟩ ?_
    refine wp_iconst dX12_isWhole_84 ?_
    refine wp_iadd dX12_isWhole_85 ⟨by omega, by omega⟩ ?_
    refine wp_iald dX12_isWhole_86 rfl (by omega) (by omega) ?_
    try simp only [ST0, ST5, ST6, ST7, ST8, ST10, ST11, ST12, ST13, ST1, ST2, ST3, ST4, RE1, RE2, RE3, RE4, RF2, RF3, RF4, RF8, RF9, RF13, RF14]
    refine wp_icmp_ne (tgt := 113) dX12_isWhole_87 rfl (fun h87 => ?_) (fun h87 => ?_)
    · refine wp_iconst dX12_isWhole_113 ?_
      refine wp_goto (tgt := 118) dX12_isWhole_114 rfl ?_
      refine wp_istore_n (ls' := [_, _, _, _]) dX12_isWhole_118 (by decide) rfl rfl ?_
      refine wp_iinc (ls' := [_, _, _, _]) dX12_isWhole_119 (by decide) rfl rfl ⟨by omega, by omega⟩ rfl ?_
      refine wp_goto (tgt := 58) dX12_isWhole_122 rfl ?_
      first
      | exact inner (fun z => z.2 q h0 (by omega) ⟨h87, h110⟩) n _ (by omega) (by omega)
      | exact ih _ (by omega) (by omega) (fun z a b => by
          by_cases e : z = q
          · rw [e]; first | exact (fun y => h87 y.1) | exact (fun y => h110 y.2)
          · exact hz z a (by omega))
    · refine wp_aload_n dX12_isWhole_90 rfl ?_
      refine wp_getR rfl dX12_isWhole_91 fX12_16 rfl ?_
      refine wp_iconst dX12_isWhole_94 ?_
      refine wp_iload_n dX12_isWhole_95 rfl ?_
      refine wp_imul dX12_isWhole_96 ⟨by omega, by omega⟩ ?_
      refine wp_iconst dX12_isWhole_97 ?_
      refine wp_iadd dX12_isWhole_98 ⟨by omega, by omega⟩ ?_
      refine wp_iald dX12_isWhole_99 rfl (by omega) (by omega) ?_
      try simp only [ST0, ST5, ST6, ST7, ST8, ST10, ST11, ST12, ST13, ST1, ST2, ST3, ST4, RE1, RE2, RE3, RE4, RF2, RF3, RF4, RF8, RF9, RF13, RF14]
      refine wp_aload_n dX12_isWhole_100 rfl ?_
      refine wp_getR rfl dX12_isWhole_101 fX12_16 rfl ?_
      refine wp_iconst dX12_isWhole_104 ?_
      refine wp_iload_n dX12_isWhole_105 rfl ?_
      refine wp_imul dX12_isWhole_106 ⟨by omega, by omega⟩ ?_
      refine wp_iconst dX12_isWhole_107 ?_
      refine wp_iadd dX12_isWhole_108 ⟨by omega, by omega⟩ ?_
      refine wp_iald dX12_isWhole_109 rfl (by omega) (by omega) ?_
      try simp only [ST0, ST5, ST6, ST7, ST8, ST10, ST11, ST12, ST13, ST1, ST2, ST3, ST4, RE1, RE2, RE3, RE4, RF2, RF3, RF4, RF8, RF9, RF13, RF14]
      refine wp_icmp_eq (tgt := 117) dX12_isWhole_110 rfl (fun h110 => ?_) (fun h110 => ?_)
      · refine wp_iconst dX12_isWhole_117 ?_
        refine wp_istore_n (ls' := [_, _, _, _]) dX12_isWhole_118 (by decide) rfl rfl ?_
        refine wp_iinc (ls' := [_, _, _, _]) dX12_isWhole_119 (by decide) rfl rfl ⟨by omega, by omega⟩ rfl ?_
        refine wp_goto (tgt := 58) dX12_isWhole_122 rfl ?_
        first
        | exact inner (fun z => z.2 q h0 (by omega) ⟨h87, h110⟩) n _ (by omega) (by omega)
        | exact ih _ (by omega) (by omega) (fun z a b => by
            by_cases e : z = q
            · rw [e]; first | exact (fun y => h87 y.1) | exact (fun y => h110 y.2)
            · exact hz z a (by omega))
      · refine wp_iconst dX12_isWhole_113 ?_
        refine wp_goto (tgt := 118) dX12_isWhole_114 rfl ?_
        refine wp_istore_n (ls' := [_, _, _, _]) dX12_isWhole_118 (by decide) rfl rfl ?_
        refine wp_iinc (ls' := [_, _, _, _]) dX12_isWhole_119 (by decide) rfl rfl ⟨by omega, by omega⟩ rfl ?_
        refine wp_goto (tgt := 58) dX12_isWhole_122 rfl ?_
        first
        | exact inner (fun z => z.2 q h0 (by omega) ⟨h87, h110⟩) n _ (by omega) (by omega)
        | exact ih _ (by omega) (by omega) (fun z a b => by
            by_cases e : z = q
            · rw [e]; first | exact (fun y => h87 y.1) | exact (fun y => h110 y.2)
            · exact hz z a (by omega))
theorem l_wh2 (hp : 0 ≤ p ∧ p ≤ 6) (kt : Whl p Y → R (some (aI 1)) SHR (ST (RE iv X Y Z) (RF F (a) (w) (p) (h)) N G O T S) lw RVR) (kf : ¬ Whl p Y → R (some (aI 0)) SHR (ST (RE iv X Y Z) (RF F (a) (w) (p) (h)) N G O T S) lw RVR) (hp0 : 0 < p) (m : Nat) : ∀ (x : Int) (v3 : Option aV), 0 ≤ x → x + m = p → (∀ z : Int, 0 ≤ z → z < x → WhP Y z) → wp (d) mX12_isWhole 15 [some (aR 0), some (aI 1), some (aI x), v3] [] SHR (ST (RE iv X Y Z) (RF F (a) (w) (p) (h)) N G O T S) lw RVR 0 0 R := by
  induction m with
  | zero =>
    intro x v3 h0 hm hz
    refine wp_iload_n dX12_isWhole_15 rfl ?_
    refine wp_aload_n dX12_isWhole_16 rfl ?_
    refine wp_getI dX12_isWhole_17 fX12_119 rfl ?_
    try simp only [ST0, ST5, ST6, ST7, ST8, ST10, ST11, ST12, ST13, ST1, ST2, ST3, ST4, RE1, RE2, RE3, RE4, RF2, RF3, RF4, RF8, RF9, RF13, RF14]
    refine wp_icmp_ge (tgt := 131) dX12_isWhole_20 rfl (fun h20 => ?_) (fun h20 => by exfalso; omega)
    refine wp_iload_n dX12_isWhole_131 rfl ?_
    refine wp_zreturn dX12_isWhole_132 rfl (Or.inr rfl) ?_
    exact kt ⟨hp0, fun z a b => hz z a (by omega)⟩
  | succ m ih =>
    intro x v3 h0 hm hz
    refine wp_iload_n dX12_isWhole_15 rfl ?_
    refine wp_aload_n dX12_isWhole_16 rfl ?_
    refine wp_getI dX12_isWhole_17 fX12_119 rfl ?_
    try simp only [ST0, ST5, ST6, ST7, ST8, ST10, ST11, ST12, ST13, ST1, ST2, ST3, ST4, RE1, RE2, RE3, RE4, RF2, RF3, RF4, RF8, RF9, RF13, RF14]
    refine wp_icmp_ge (tgt := 131) dX12_isWhole_20 rfl (fun h20 => by exfalso; omega) (fun h20 => ?_)
    refine wp_iload_n dX12_isWhole_23 rfl ?_
    refine wp_if_eq (tgt := 54) dX12_isWhole_24 rfl (fun q => absurd q (by decide)) (fun _ => ?_)
    refine wp_aload_n dX12_isWhole_27 rfl ?_
    refine wp_getR rfl dX12_isWhole_28 fX12_16 rfl ?_
    refine wp_iconst dX12_isWhole_31 ?_
    refine wp_iload_n dX12_isWhole_32 rfl ?_
    refine wp_imul dX12_isWhole_33 ⟨by omega, by omega⟩ ?_
    refine wp_iconst dX12_isWhole_34 ?_
    refine wp_iadd dX12_isWhole_35 ⟨by omega, by omega⟩ ?_
    refine wp_iald dX12_isWhole_36 rfl (by omega) (by omega) ?_
    try simp only [ST0, ST5, ST6, ST7, ST8, ST10, ST11, ST12, ST13, ST1, ST2, ST3, ST4, RE1, RE2, RE3, RE4, RF2, RF3, RF4, RF8, RF9, RF13, RF14]
    refine wp_aload_n dX12_isWhole_37 rfl ?_
    refine wp_getR rfl dX12_isWhole_38 fX12_16 rfl ?_
    refine wp_iconst dX12_isWhole_41 ?_
    refine wp_iload_n dX12_isWhole_42 rfl ?_
    refine wp_imul dX12_isWhole_43 ⟨by omega, by omega⟩ ?_
    refine wp_iconst dX12_isWhole_44 ?_
    refine wp_iadd dX12_isWhole_45 ⟨by omega, by omega⟩ ?_
    refine wp_iald dX12_isWhole_46 rfl (by omega) (by omega) ?_
    try simp only [ST0, ST5, ST6, ST7, ST8, ST10, ST11, ST12, ST13, ST1, ST2, ST3, ST4, RE1, RE2, RE3, RE4, RF2, RF3, RF4, RF8, RF9, RF13, RF14]
    refine wp_icmp_eq (tgt := 54) dX12_isWhole_47 rfl (fun h47 => ?_) (fun h47 => ?_)
    · refine wp_iconst dX12_isWhole_54 ?_
      refine wp_istore_n (ls' := [_, _, _, _]) dX12_isWhole_55 (by decide) rfl rfl ?_
      refine wp_iconst dX12_isWhole_56 ?_
      refine wp_istore_n (ls' := [_, _, _, _]) dX12_isWhole_57 (by decide) rfl rfl ?_
      have hno : ¬ Whl p Y := fun z => (z.2 x (by omega) (by omega)).1 h47
      refine l_wh3 hp (kf hno) (by omega) (fun v3 => ?_) x.toNat 0 (by omega) (by omega)
      refine wp_iinc (ls' := [_, _, _, _]) dX12_isWhole_125 (by decide) rfl rfl ⟨by omega, by omega⟩ rfl ?_
      refine wp_goto (tgt := 15) dX12_isWhole_128 rfl ?_
      exact l_wh0 hp (kf hno) m _ _ (by omega) (by omega)
    · refine wp_iconst dX12_isWhole_50 ?_
      refine wp_goto (tgt := 55) dX12_isWhole_51 rfl ?_
      refine wp_istore_n (ls' := [_, _, _, _]) dX12_isWhole_55 (by decide) rfl rfl ?_
      refine wp_iconst dX12_isWhole_56 ?_
      refine wp_istore_n (ls' := [_, _, _, _]) dX12_isWhole_57 (by decide) rfl rfl ?_
      refine l_wh1 hp (by omega) h47 (fun v3 hw => ?_) (fun v3 hw => ?_) x.toNat 0 (by omega) (by omega) (fun z a b => by omega)
      · skip
        refine wp_iinc (ls' := [_, _, _, _]) dX12_isWhole_125 (by decide) rfl rfl ⟨by omega, by omega⟩ rfl ?_
        refine wp_goto (tgt := 15) dX12_isWhole_128 rfl ?_
        exact ih _ _ (by omega) (by omega) (fun z a b => by
          by_cases e : z = x
          · rw [e]; exact hw
          · exact hz z a (by omega))
      · skip
        refine wp_iinc (ls' := [_, _, _, _]) dX12_isWhole_125 (by decide) rfl rfl ⟨by omega, by omega⟩ rfl ?_
        refine wp_goto (tgt := 15) dX12_isWhole_128 rfl ?_
        exact l_wh0 hp (kf (fun z => hw (z.2 x (by omega) (by omega)))) m _ _ (by omega) (by omega)
theorem s_isWhole (hp : 0 ≤ p ∧ p ≤ 6) (kt : Whl p Y → R (some (aI 1)) SHR (ST (RE iv X Y Z) (RF F (a) (w) (p) (h)) N G O T S) lw RVR) (kf : ¬ Whl p Y → R (some (aI 0)) SHR (ST (RE iv X Y Z) (RF F (a) (w) (p) (h)) N G O T S) lw RVR) : wp (d) mX12_isWhole 0 [some (aR 0), none, none, none] [] SHR (ST (RE iv X Y Z) (RF F (a) (w) (p) (h)) N G O T S) lw RVR 0 0 R := by
  refine wp_aload_n dX12_isWhole_0 rfl ?_
  refine wp_getI dX12_isWhole_1 fX12_119 rfl ?_
  try simp only [ST0, ST5, ST6, ST7, ST8, ST10, ST11, ST12, ST13, ST1, ST2, ST3, ST4, RE1, RE2, RE3, RE4, RF2, RF3, RF4, RF8, RF9, RF13, RF14]
  refine wp_if_le (tgt := 11) dX12_isWhole_4 rfl (fun h4 => ?_) (fun h4 => ?_)
  · refine wp_iconst dX12_isWhole_11 ?_
    refine wp_istore_n (ls' := [_, _, _, _]) dX12_isWhole_12 (by decide) rfl rfl ?_
    refine wp_iconst dX12_isWhole_13 ?_
    refine wp_istore_n (ls' := [_, _, _, _]) dX12_isWhole_14 (by decide) rfl rfl ?_
    first
    | exact l_wh2 hp kt kf (by omega) p.toNat 0 _ (by omega) (by omega) (fun z a b => by omega)
    | exact l_wh0 hp (kf (fun z => by have := z.1; omega)) p.toNat 0 _ (by omega) (by omega)
  · refine wp_iconst dX12_isWhole_7 ?_
    refine wp_goto (tgt := 12) dX12_isWhole_8 rfl ?_
    refine wp_istore_n (ls' := [_, _, _, _]) dX12_isWhole_12 (by decide) rfl rfl ?_
    refine wp_iconst dX12_isWhole_13 ?_
    refine wp_istore_n (ls' := [_, _, _, _]) dX12_isWhole_14 (by decide) rfl rfl ?_
    first
    | exact l_wh2 hp kt kf (by omega) p.toNat 0 _ (by omega) (by omega) (fun z a b => by omega)
    | exact l_wh0 hp (kf (fun z => by have := z.1; omega)) p.toNat 0 _ (by omega) (by omega)
theorem l_me1 {ru : Int} (ha : 0 ≤ a ∧ a ≤ 300) (hw : ¬ w = -1) (k : R (some (aI w)) SHR (ST (RE iv X Y Z) (RF F (a) (w) (p) (h)) N G O T S) lw RVR) (v2 v3 : Option aV) : wp (d + 4) mX12_readMesh 155 [some (aR 0), some (aI ru), v2, v3] [] SHR (ST (RE iv X Y Z) (RF F (a) (w) (p) (h)) N G O T S) lw RVR 0 0 R := by
  refine wp_aload_n dX12_readMesh_155 rfl ?_
  refine wp_getI dX12_readMesh_156 fX12_86 rfl ?_
  try simp only [ST0, ST5, ST6, ST7, ST8, ST10, ST11, ST12, ST13, ST1, ST2, ST3, ST4, RE1, RE2, RE3, RE4, RF2, RF3, RF4, RF8, RF9, RF13, RF14]
  refine wp_iconst dX12_readMesh_159 ?_
  refine wp_icmp_ne (tgt := 176) dX12_readMesh_160 rfl (fun h160 => ?_) (fun h160 => by exfalso; omega)
  refine wp_iconst dX12_readMesh_176 ?_
  refine wp_istore_n (ls' := [_, _, _, _]) dX12_readMesh_177 (by decide) rfl rfl ?_
  refine wp_aload_n dX12_readMesh_178 rfl ?_
  refine wp_dup dX12_readMesh_179 rfl ?_
  refine wp_getI dX12_readMesh_180 fX12_79 rfl ?_
  try simp only [ST0, ST5, ST6, ST7, ST8, ST10, ST11, ST12, ST13, ST1, ST2, ST3, ST4, RE1, RE2, RE3, RE4, RF2, RF3, RF4, RF8, RF9, RF13, RF14]
  refine wp_iload_n dX12_readMesh_183 rfl ?_
  refine wp_if_eq (tgt := 191) dX12_readMesh_184 rfl (fun _ => ?_) (fun q => absurd q (by decide))
  refine wp_iconst dX12_readMesh_191 ?_
  refine wp_iadd dX12_readMesh_192 ⟨by omega, by omega⟩ ?_
  refine wp_putI dX12_readMesh_193 fX12_79 rfl ?_
  try simp only [STu0, STu8, STu10, STu11, STu12, STu13, STu2, STu3, STu4, RE2, RE3, RE4, REu2, REu3, REu4, RFu3, RFu4, RFu8, RFu9]
  refine wp_goto (tgt := 44) dX12_readMesh_196 rfl ?_
  refine wp_iload_n dX12_readMesh_44 rfl ?_
  refine wp_if_eq (tgt := 199) dX12_readMesh_45 rfl (fun _ => ?_) (fun q => absurd q (by decide))
  refine wp_aload_n dX12_readMesh_199 rfl ?_
  refine wp_getI dX12_readMesh_200 fX12_86 rfl ?_
  try simp only [ST0, ST5, ST6, ST7, ST8, ST10, ST11, ST12, ST13, ST1, ST2, ST3, ST4, RE1, RE2, RE3, RE4, RF2, RF3, RF4, RF8, RF9, RF13, RF14]
  refine wp_iconst dX12_readMesh_203 ?_
  refine wp_icmp_ne (tgt := 226) dX12_readMesh_204 rfl (fun h204 => ?_) (fun h204 => by exfalso; omega)
  refine wp_aload_n dX12_readMesh_226 rfl ?_
  refine wp_getI dX12_readMesh_227 fX12_86 rfl ?_
  try simp only [ST0, ST5, ST6, ST7, ST8, ST10, ST11, ST12, ST13, ST1, ST2, ST3, ST4, RE1, RE2, RE3, RE4, RF2, RF3, RF4, RF8, RF9, RF13, RF14]
  refine wp_ireturn dX12_readMesh_230 rfl ?_
  rw [show a + 0 = a by omega]; exact k
theorem l_me2 {ru : Int} (hn : 0 ≤ F 2 ∧ F 2 ≤ 240) (ha : 0 ≤ a ∧ a ≤ F 2) (hs : ¬ sg (iv 1) (F 2) a = 32) (h59 : sg (iv 1) (F 2) a = 59) (v2 v3 : Option aV) (k : wp (d + 4) mX12_readMesh 44 [some (aR 0), some (aI ru), some (aI 1), v3] [] SHR (ST (RE iv X Y Z) (RF F (a + 1) (-1) (p) (h)) N G O T S) lw RVR 0 0 R) : wp (d + 4) mX12_readMesh 155 [some (aR 0), some (aI ru), v2, v3] [] SHR (ST (RE iv X Y Z) (RF F (a) (-1) (p) (h)) N G O T S) lw RVR 0 0 R := by
  have ej : skp (iv 1) (F 2) a = a := skp_n hs
  refine wp_aload_n dX12_readMesh_155 rfl ?_
  refine wp_getI dX12_readMesh_156 fX12_86 rfl ?_
  try simp only [ST0, ST5, ST6, ST7, ST8, ST10, ST11, ST12, ST13, ST1, ST2, ST3, ST4, RE1, RE2, RE3, RE4, RF2, RF3, RF4, RF8, RF9, RF13, RF14]
  refine wp_iconst dX12_readMesh_159 ?_
  refine wp_icmp_ne (tgt := 176) dX12_readMesh_160 rfl (fun h160 => by exfalso; omega) (fun h160 => ?_)
  refine wp_aload_n dX12_readMesh_163 rfl ?_
  refine wp_callV (as := []) (ls0 := [_]) (kc := 0) (ks := 0) (bc' := 0) (bs' := 0) dX12_readMesh_164 vX12_89 rfl rfl rfl (Nat.le_of_ble_eq_true rfl) (Nat.le_of_ble_eq_true rfl) (by omega) (by omega) ?_
  refine s_ahead hn ha ?_
  rw [ej]
  refine wp_bipush dX12_readMesh_167 ?_
  refine wp_icmp_ne (tgt := 176) dX12_readMesh_169 rfl (fun h169 => by exfalso; omega) (fun h169 => ?_)
  refine wp_iconst dX12_readMesh_172 ?_
  refine wp_goto (tgt := 177) dX12_readMesh_173 rfl ?_
  refine wp_istore_n (ls' := [_, _, _, _]) dX12_readMesh_177 (by decide) rfl rfl ?_
  refine wp_aload_n dX12_readMesh_178 rfl ?_
  refine wp_dup dX12_readMesh_179 rfl ?_
  refine wp_getI dX12_readMesh_180 fX12_79 rfl ?_
  try simp only [ST0, ST5, ST6, ST7, ST8, ST10, ST11, ST12, ST13, ST1, ST2, ST3, ST4, RE1, RE2, RE3, RE4, RF2, RF3, RF4, RF8, RF9, RF13, RF14]
  refine wp_iload_n dX12_readMesh_183 rfl ?_
  refine wp_if_eq (tgt := 191) dX12_readMesh_184 rfl (fun q => absurd q (by decide)) (fun _ => ?_)
  refine wp_iconst dX12_readMesh_187 ?_
  refine wp_goto (tgt := 192) dX12_readMesh_188 rfl ?_
  refine wp_iadd dX12_readMesh_192 ⟨by omega, by omega⟩ ?_
  refine wp_putI dX12_readMesh_193 fX12_79 rfl ?_
  try simp only [STu0, STu8, STu10, STu11, STu12, STu13, STu2, STu3, STu4, RE2, RE3, RE4, REu2, REu3, REu4, RFu3, RFu4, RFu8, RFu9]
  refine wp_goto (tgt := 44) dX12_readMesh_196 rfl ?_
  exact k
theorem l_me3 {ru : Int} (hn : 0 ≤ F 2 ∧ F 2 ≤ 240) (ha : 0 ≤ a ∧ a ≤ F 2) (hp : 0 ≤ p ∧ p ≤ 6) (hs : ¬ sg (iv 1) (F 2) a = 32) (h59 : ¬ sg (iv 1) (F 2) a = 59) (v2 v3 : Option aV) (kt : sg (iv 1) (F 2) a = -1 ∧ Whl p Y → R (some (aI (-1))) SHR (ST (RE iv X Y Z) (RF F (a) (-1) (p) (h)) N G O T S) lw RVR) (kf : ¬ (sg (iv 1) (F 2) a = -1 ∧ Whl p Y) → R (some (aI a)) SHR (ST (RE iv X Y Z) (RF F (a) (a) (p) (h)) N G O T S) lw RVR) : wp (d + 4) mX12_readMesh 155 [some (aR 0), some (aI ru), v2, v3] [] SHR (ST (RE iv X Y Z) (RF F (a) (-1) (p) (h)) N G O T S) lw RVR 0 0 R := by
  have ej : skp (iv 1) (F 2) a = a := skp_n hs
  refine wp_aload_n dX12_readMesh_155 rfl ?_
  refine wp_getI dX12_readMesh_156 fX12_86 rfl ?_
  try simp only [ST0, ST5, ST6, ST7, ST8, ST10, ST11, ST12, ST13, ST1, ST2, ST3, ST4, RE1, RE2, RE3, RE4, RF2, RF3, RF4, RF8, RF9, RF13, RF14]
  refine wp_iconst dX12_readMesh_159 ?_
  refine wp_icmp_ne (tgt := 176) dX12_readMesh_160 rfl (fun h160 => by exfalso; omega) (fun h160 => ?_)
  refine wp_aload_n dX12_readMesh_163 rfl ?_
  refine wp_callV (as := []) (ls0 := [_]) (kc := 0) (ks := 0) (bc' := 0) (bs' := 0) dX12_readMesh_164 vX12_89 rfl rfl rfl (Nat.le_of_ble_eq_true rfl) (Nat.le_of_ble_eq_true rfl) (by omega) (by omega) ?_
  refine s_ahead hn (by omega) ?_
  try rw [show a + 0 = a by omega]
  rw [ej]
  refine wp_bipush dX12_readMesh_167 ?_
  refine wp_icmp_ne (tgt := 176) dX12_readMesh_169 rfl (fun h169 => ?_) (fun h169 => by exfalso; omega)
  refine wp_iconst dX12_readMesh_176 ?_
  refine wp_istore_n (ls' := [_, _, _, _]) dX12_readMesh_177 (by decide) rfl rfl ?_
  
  refine wp_aload_n dX12_readMesh_178 rfl ?_
  refine wp_dup dX12_readMesh_179 rfl ?_
  refine wp_getI dX12_readMesh_180 fX12_79 rfl ?_
  try simp only [ST0, ST5, ST6, ST7, ST8, ST10, ST11, ST12, ST13, ST1, ST2, ST3, ST4, RE1, RE2, RE3, RE4, RF2, RF3, RF4, RF8, RF9, RF13, RF14]
  refine wp_iload_n dX12_readMesh_183 rfl ?_
  refine wp_if_eq (tgt := 191) dX12_readMesh_184 rfl (fun _ => ?_) (fun q => absurd q (by decide))
  refine wp_iconst dX12_readMesh_191 ?_
  refine wp_iadd dX12_readMesh_192 ⟨by omega, by omega⟩ ?_
  refine wp_putI dX12_readMesh_193 fX12_79 rfl ?_
  try simp only [STu0, STu8, STu10, STu11, STu12, STu13, STu2, STu3, STu4, RE2, RE3, RE4, REu2, REu3, REu4, RFu3, RFu4, RFu8, RFu9]
  refine wp_goto (tgt := 44) dX12_readMesh_196 rfl ?_
  refine wp_iload_n dX12_readMesh_44 rfl ?_
  refine wp_if_eq (tgt := 199) dX12_readMesh_45 rfl (fun _ => ?_) (fun q => absurd q (by decide))
  refine wp_aload_n dX12_readMesh_199 rfl ?_
  refine wp_getI dX12_readMesh_200 fX12_86 rfl ?_
  try simp only [ST0, ST5, ST6, ST7, ST8, ST10, ST11, ST12, ST13, ST1, ST2, ST3, ST4, RE1, RE2, RE3, RE4, RF2, RF3, RF4, RF8, RF9, RF13, RF14]
  refine wp_iconst dX12_readMesh_203 ?_
  refine wp_icmp_ne (tgt := 226) dX12_readMesh_204 rfl (fun h204 => by exfalso; omega) (fun h204 => ?_)
  refine wp_aload_n dX12_readMesh_207 rfl ?_
  refine wp_callV (as := []) (ls0 := [_]) (kc := 0) (ks := 0) (bc' := 0) (bs' := 0) dX12_readMesh_208 vX12_89 rfl rfl rfl (Nat.le_of_ble_eq_true rfl) (Nat.le_of_ble_eq_true rfl) (by omega) (by omega) ?_
  refine s_ahead hn (by omega) ?_
  try rw [show a + 0 = a by omega]
  rw [ej]
  refine wp_iconst dX12_readMesh_211 ?_
  refine wp_icmp_ne (tgt := 222) dX12_readMesh_212 rfl (fun h212 => ?_) (fun h212 => ?_)
  · refine wp_aload_n dX12_readMesh_222 rfl ?_
    refine wp_callV (as := []) (ls0 := [_]) (kc := 0) (ks := 0) (bc' := 0) (bs' := 0) dX12_readMesh_223 vX12_96 rfl rfl rfl (Nat.le_of_ble_eq_true rfl) (Nat.le_of_ble_eq_true rfl) (by omega) (by omega) ?_
    refine s_badN rfl ?_
    refine wp_aload_n dX12_readMesh_226 rfl ?_
    refine wp_getI dX12_readMesh_227 fX12_86 rfl ?_
    try simp only [ST0, ST5, ST6, ST7, ST8, ST10, ST11, ST12, ST13, ST1, ST2, ST3, ST4, RE1, RE2, RE3, RE4, RF2, RF3, RF4, RF8, RF9, RF13, RF14]
    refine wp_ireturn dX12_readMesh_230 rfl ?_
    first | (rw [show a + 0 = a by omega]; exact kt ⟨h212, h216⟩) | (rw [show a + 0 = a by omega]; exact kf (fun z => h216 z.2)) | (rw [show a + 0 = a by omega]; exact kf (fun z => h212 z.1)) | exact kt ⟨h212, h216⟩ | exact kf (fun z => h216 z.2) | exact kf (fun z => h212 z.1)
  · refine wp_aload_n dX12_readMesh_215 rfl ?_
    refine wp_callV (as := []) (ls0 := [_, _, _, _]) (kc := 0) (ks := 0) (bc' := 0) (bs' := 0) dX12_readMesh_216 vX12_126 rfl rfl rfl (Nat.le_of_ble_eq_true rfl) (Nat.le_of_ble_eq_true rfl) (by omega) (by omega) ?_
    refine s_isWhole (by omega) (fun h216 => ?_) (fun h216 => ?_)
    · refine wp_if_ne (tgt := 226) dX12_readMesh_219 rfl (fun _ => ?_) (fun q => absurd q (by decide))
      refine wp_aload_n dX12_readMesh_226 rfl ?_
      refine wp_getI dX12_readMesh_227 fX12_86 rfl ?_
      try simp only [ST0, ST5, ST6, ST7, ST8, ST10, ST11, ST12, ST13, ST1, ST2, ST3, ST4, RE1, RE2, RE3, RE4, RF2, RF3, RF4, RF8, RF9, RF13, RF14]
      refine wp_ireturn dX12_readMesh_230 rfl ?_
      first | (rw [show a + 0 = a by omega]; exact kt ⟨h212, h216⟩) | (rw [show a + 0 = a by omega]; exact kf (fun z => h216 z.2)) | (rw [show a + 0 = a by omega]; exact kf (fun z => h212 z.1)) | exact kt ⟨h212, h216⟩ | exact kf (fun z => h216 z.2) | exact kf (fun z => h212 z.1)
    · refine wp_if_ne (tgt := 226) dX12_readMesh_219 rfl (fun q => absurd q (by decide)) (fun _ => ?_)
      refine wp_aload_n dX12_readMesh_222 rfl ?_
      refine wp_callV (as := []) (ls0 := [_]) (kc := 0) (ks := 0) (bc' := 0) (bs' := 0) dX12_readMesh_223 vX12_96 rfl rfl rfl (Nat.le_of_ble_eq_true rfl) (Nat.le_of_ble_eq_true rfl) (by omega) (by omega) ?_
      refine s_badN rfl ?_
      refine wp_aload_n dX12_readMesh_226 rfl ?_
      refine wp_getI dX12_readMesh_227 fX12_86 rfl ?_
      try simp only [ST0, ST5, ST6, ST7, ST8, ST10, ST11, ST12, ST13, ST1, ST2, ST3, ST4, RE1, RE2, RE3, RE4, RF2, RF3, RF4, RF8, RF9, RF13, RF14]
      refine wp_ireturn dX12_readMesh_230 rfl ?_
      first | (rw [show a + 0 = a by omega]; exact kt ⟨h212, h216⟩) | (rw [show a + 0 = a by omega]; exact kf (fun z => h216 z.2)) | (rw [show a + 0 = a by omega]; exact kf (fun z => h212 z.1)) | exact kt ⟨h212, h216⟩ | exact kf (fun z => h216 z.2) | exact kf (fun z => h212 z.1)
theorem l_mesh (hn : 0 ≤ F 2 ∧ F 2 ≤ 240) (m : Nat) : ∀ (i ru p : Int) (X Y : Int → Int) (v3 : Option aV), (0 ≤ i ∧ i ≤ F 2) → (ru = 0 ∨ ru = 1) → (0 ≤ p ∧ p ≤ 6) → ru + p + m = 8 → ((msL (iv 1) (F 2) m i ru p X Y).1 = -1 → ∀ a' : Int, R (some (aI (-1))) SHR (ST (RE iv (msL (iv 1) (F 2) m i ru p X Y).2.2.1 (msL (iv 1) (F 2) m i ru p X Y).2.2.2 Z) (RF F (a') (-1) ((msL (iv 1) (F 2) m i ru p X Y).2.1) (h)) N G O T S) lw RVR) → (¬ (msL (iv 1) (F 2) m i ru p X Y).1 = -1 → ∀ (a' p' : Int) (X' Y' : Int → Int), R (some (aI ((msL (iv 1) (F 2) m i ru p X Y).1))) SHR (ST (RE iv X' Y' Z) (RF F (a') ((msL (iv 1) (F 2) m i ru p X Y).1) (p') (h)) N G O T S) lw RVR) → wp (d + 4) mX12_readMesh 44 [some (aR 0), some (aI ru), some (aI 1), v3] [] SHR (ST (RE iv X Y Z) (RF F (i) (-1) (p) (h)) N G O T S) lw RVR 0 0 R := by
  induction m with
  | zero => intro i ru p X Y v3 hi hru hp hm _ _; omega
  | succ m ih =>
    intro i ru p X Y v3 hi hru hp hm kt kf
    have hs := skp_r (t := iv 1) hi.1 hi.2
    rw [msL] at kt kf
    by_cases c1 : sg (iv 1) (F 2) (skp (iv 1) (F 2) i) = 115 ∧ ru = 0
    · rw [if_pos c1] at kt kf
      have hl := sg_lt (t := iv 1) (n := F 2) (i := skp (iv 1) (F 2) i) (by omega)
      have hir := itL_r (t := iv 1) (n := F 2) (cl := 115) (fr := 0) 6 (skp (iv 1) (F 2) i + 1) 0 (cpW X (usF 115) 0 5) (by omega) (by omega)
      obtain ⟨c1, rfl⟩ := c1
      refine wp_iload_n dX12_readMesh_44 rfl ?_
      refine wp_if_eq (tgt := 199) dX12_readMesh_45 rfl (fun q => absurd q (by decide)) (fun _ => ?_)
      refine wp_aload_n dX12_readMesh_48 rfl ?_
      refine wp_getI dX12_readMesh_49 fX12_86 rfl ?_
      try simp only [ST0, ST5, ST6, ST7, ST8, ST10, ST11, ST12, ST13, ST1, ST2, ST3, ST4, RE1, RE2, RE3, RE4, RF2, RF3, RF4, RF8, RF9, RF13, RF14]
      refine wp_iconst dX12_readMesh_52 ?_
      refine wp_icmp_ne (tgt := 199) dX12_readMesh_53 rfl (fun h53 => by exfalso; omega) (fun h53 => ?_)
      refine wp_aload_n dX12_readMesh_56 rfl ?_
      refine wp_callV (as := []) (ls0 := [_]) (kc := 0) (ks := 0) (bc' := 0) (bs' := 0) dX12_readMesh_57 vX12_89 rfl rfl rfl (Nat.le_of_ble_eq_true rfl) (Nat.le_of_ble_eq_true rfl) (by omega) (by omega) ?_
      refine s_ahead hn (by omega) ?_
      rw [c1]
      refine wp_istore_n (ls' := [_, _, _, _]) dX12_readMesh_60 (by decide) rfl rfl ?_
      refine wp_iload_n dX12_readMesh_61 rfl ?_
      refine wp_bipush dX12_readMesh_62 ?_
      refine wp_icmp_ne (tgt := 97) dX12_readMesh_64 rfl (fun h64 => by exfalso; omega) (fun h64 => ?_)
      refine wp_iload_n dX12_readMesh_67 rfl ?_
      refine wp_if_ne (tgt := 97) dX12_readMesh_68 rfl (fun q => absurd q (by decide)) (fun _ => ?_)
      refine wp_iconst dX12_readMesh_71 ?_
      refine wp_istore_n (ls' := [_, _, _, _]) dX12_readMesh_72 (by decide) rfl rfl ?_
      refine wp_aload_n dX12_readMesh_73 rfl ?_
      refine wp_dup dX12_readMesh_74 rfl ?_
      refine wp_getI dX12_readMesh_75 fX12_79 rfl ?_
      try simp only [ST0, ST5, ST6, ST7, ST8, ST10, ST11, ST12, ST13, ST1, ST2, ST3, ST4, RE1, RE2, RE3, RE4, RF2, RF3, RF4, RF8, RF9, RF13, RF14]
      refine wp_iconst dX12_readMesh_78 ?_
      refine wp_iadd dX12_readMesh_79 ⟨by omega, by omega⟩ ?_
      refine wp_putI dX12_readMesh_80 fX12_79 rfl ?_
      try simp only [STu0, STu8, STu10, STu11, STu12, STu13, STu2, STu3, STu4, RE2, RE3, RE4, REu2, REu3, REu4, RFu3, RFu4, RFu8, RFu9]
      refine wp_aload_n dX12_readMesh_83 rfl ?_
      refine wp_iload_n dX12_readMesh_84 rfl ?_
      refine wp_aload_n dX12_readMesh_85 rfl ?_
      refine wp_getR rfl dX12_readMesh_86 fX12_13 rfl ?_
      refine wp_iconst dX12_readMesh_89 ?_
      refine wp_iconst dX12_readMesh_90 ?_
      refine wp_callV (as := [_, _, _, _]) (ls0 := [_, _, _, _, _, _, _]) (kc := 0) (ks := 0) (bc' := 0) (bs' := 0) dX12_readMesh_91 vX12_122 rfl rfl rfl (Nat.le_of_ble_eq_true rfl) (Nat.le_of_ble_eq_true rfl) (by omega) (by omega) ?_
      refine s_itemss hn (by omega) (fun e => ?_) (fun e a' X' ha' => ?_)
      · unfold msC at kt kf
        rw [if_neg (fun z => z e)] at kt kf
        have hq := hir e
        by_cases c59 : sg (iv 1) (F 2) (itL (iv 1) (F 2) 115 0 6 (skp (iv 1) (F 2) i + 1) 0 (cpW X (usF 115) 0 5)).2.1 = 59
        · rw [if_pos c59] at kt kf
          have hlt := sg_lt (t := iv 1) (n := F 2) (i := (itL (iv 1) (F 2) 115 0 6 (skp (iv 1) (F 2) i + 1) 0 (cpW X (usF 115) 0 5)).2.1) (by omega)
          refine wp_goto (tgt := 155) dX12_readMesh_94 rfl ?_
          refine l_me2 hn ⟨hq.1, hq.2.1⟩ hq.2.2 c59 _ _ ?_
          exact ih _ _ _ _ _ _ (by omega) (by omega) hp (by omega) kt kf
        · rw [if_neg c59] at kt kf
          refine wp_goto (tgt := 155) dX12_readMesh_94 rfl ?_
          refine l_me3 hn ⟨hq.1, hq.2.1⟩ hp hq.2.2 c59 _ _ (fun z => ?_) (fun z => ?_)
          · rw [if_pos z] at kt; exact kt rfl _
          · rw [if_neg z] at kf; exact kf (by show ¬ _ = (-1 : Int); omega) _ _ _ _
      · unfold msC at kf
        rw [if_pos e] at kf
        refine wp_goto (tgt := 155) dX12_readMesh_94 rfl ?_
        exact l_me1 ha' e (kf e _ _ _ _) _ _
    · rw [if_neg c1] at kt kf
      by_cases c2 : sg (iv 1) (F 2) (skp (iv 1) (F 2) i) = 112 ∧ p < 6
      · rw [if_pos c2] at kt kf
        have hl := sg_lt (t := iv 1) (n := F 2) (i := skp (iv 1) (F 2) i) (by omega)
        have hir := itL_r (t := iv 1) (n := F 2) (cl := 112) (fr := 4 * p) 5 (skp (iv 1) (F 2) i + 1) 0 (cpW Y (usF 112) (4 * p) 4) (by omega) (by omega)
        obtain ⟨c2, c3⟩ := c2
        refine wp_iload_n dX12_readMesh_44 rfl ?_
        refine wp_if_eq (tgt := 199) dX12_readMesh_45 rfl (fun q => absurd q (by decide)) (fun _ => ?_)
        refine wp_aload_n dX12_readMesh_48 rfl ?_
        refine wp_getI dX12_readMesh_49 fX12_86 rfl ?_
        try simp only [ST0, ST5, ST6, ST7, ST8, ST10, ST11, ST12, ST13, ST1, ST2, ST3, ST4, RE1, RE2, RE3, RE4, RF2, RF3, RF4, RF8, RF9, RF13, RF14]
        refine wp_iconst dX12_readMesh_52 ?_
        refine wp_icmp_ne (tgt := 199) dX12_readMesh_53 rfl (fun h53 => by exfalso; omega) (fun h53 => ?_)
        refine wp_aload_n dX12_readMesh_56 rfl ?_
        refine wp_callV (as := []) (ls0 := [_]) (kc := 0) (ks := 0) (bc' := 0) (bs' := 0) dX12_readMesh_57 vX12_89 rfl rfl rfl (Nat.le_of_ble_eq_true rfl) (Nat.le_of_ble_eq_true rfl) (by omega) (by omega) ?_
        refine s_ahead hn (by omega) ?_
        rw [c2]
        refine wp_istore_n (ls' := [_, _, _, _]) dX12_readMesh_60 (by decide) rfl rfl ?_
        refine wp_iload_n dX12_readMesh_61 rfl ?_
        refine wp_bipush dX12_readMesh_62 ?_
        refine wp_icmp_ne (tgt := 97) dX12_readMesh_64 rfl (fun h64 => ?_) (fun h64 => by exfalso; omega)
        refine wp_iload_n dX12_readMesh_97 rfl ?_
        refine wp_bipush dX12_readMesh_98 ?_
        refine wp_icmp_ne (tgt := 151) dX12_readMesh_100 rfl (fun h100 => by exfalso; omega) (fun h100 => ?_)
        refine wp_aload_n dX12_readMesh_103 rfl ?_
        refine wp_getI dX12_readMesh_104 fX12_119 rfl ?_
        try simp only [ST0, ST5, ST6, ST7, ST8, ST10, ST11, ST12, ST13, ST1, ST2, ST3, ST4, RE1, RE2, RE3, RE4, RF2, RF3, RF4, RF8, RF9, RF13, RF14]
        refine wp_bipush dX12_readMesh_107 ?_
        refine wp_icmp_ge (tgt := 151) dX12_readMesh_109 rfl (fun h109 => by exfalso; omega) (fun h109 => ?_)
        refine wp_aload_n dX12_readMesh_112 rfl ?_
        refine wp_dup dX12_readMesh_113 rfl ?_
        refine wp_getI dX12_readMesh_114 fX12_79 rfl ?_
        try simp only [ST0, ST5, ST6, ST7, ST8, ST10, ST11, ST12, ST13, ST1, ST2, ST3, ST4, RE1, RE2, RE3, RE4, RF2, RF3, RF4, RF8, RF9, RF13, RF14]
        refine wp_iconst dX12_readMesh_117 ?_
        refine wp_iadd dX12_readMesh_118 ⟨by omega, by omega⟩ ?_
        refine wp_putI dX12_readMesh_119 fX12_79 rfl ?_
        try simp only [STu0, STu8, STu10, STu11, STu12, STu13, STu2, STu3, STu4, RE2, RE3, RE4, REu2, REu3, REu4, RFu3, RFu4, RFu8, RFu9]
        refine wp_aload_n dX12_readMesh_122 rfl ?_
        refine wp_iload_n dX12_readMesh_123 rfl ?_
        refine wp_aload_n dX12_readMesh_124 rfl ?_
        refine wp_getR rfl dX12_readMesh_125 fX12_16 rfl ?_
        refine wp_iconst dX12_readMesh_128 ?_
        refine wp_aload_n dX12_readMesh_129 rfl ?_
        refine wp_getI dX12_readMesh_130 fX12_119 rfl ?_
        try simp only [ST0, ST5, ST6, ST7, ST8, ST10, ST11, ST12, ST13, ST1, ST2, ST3, ST4, RE1, RE2, RE3, RE4, RF2, RF3, RF4, RF8, RF9, RF13, RF14]
        refine wp_imul dX12_readMesh_133 ⟨by omega, by omega⟩ ?_
        refine wp_iconst dX12_readMesh_134 ?_
        refine wp_callV (as := [_, _, _, _]) (ls0 := [_, _, _, _, _, _, _]) (kc := 0) (ks := 0) (bc' := 0) (bs' := 0) dX12_readMesh_135 vX12_122 rfl rfl rfl (Nat.le_of_ble_eq_true rfl) (Nat.le_of_ble_eq_true rfl) (by omega) (by omega) ?_
        refine s_itemsp hn (by omega) (by omega) (fun e => ?_) (fun e a' Y' ha' => ?_)
        · unfold msC at kt kf
          rw [if_neg (fun z => z e)] at kt kf
          have hq := hir e
          by_cases c59 : sg (iv 1) (F 2) (itL (iv 1) (F 2) 112 (4 * p) 5 (skp (iv 1) (F 2) i + 1) 0 (cpW Y (usF 112) (4 * p) 4)).2.1 = 59
          · rw [if_pos c59] at kt kf
            have hlt := sg_lt (t := iv 1) (n := F 2) (i := (itL (iv 1) (F 2) 112 (4 * p) 5 (skp (iv 1) (F 2) i + 1) 0 (cpW Y (usF 112) (4 * p) 4)).2.1) (by omega)
            refine wp_aload_n dX12_readMesh_138 rfl ?_
            refine wp_dup dX12_readMesh_139 rfl ?_
            refine wp_getI dX12_readMesh_140 fX12_119 rfl ?_
            try simp only [ST0, ST5, ST6, ST7, ST8, ST10, ST11, ST12, ST13, ST1, ST2, ST3, ST4, RE1, RE2, RE3, RE4, RF2, RF3, RF4, RF8, RF9, RF13, RF14]
            refine wp_iconst dX12_readMesh_143 ?_
            refine wp_iadd dX12_readMesh_144 ⟨by omega, by omega⟩ ?_
            refine wp_putI dX12_readMesh_145 fX12_119 rfl ?_
            try simp only [STu0, STu8, STu10, STu11, STu12, STu13, STu2, STu3, STu4, RE2, RE3, RE4, REu2, REu3, REu4, RFu3, RFu4, RFu8, RFu9]
            refine wp_goto (tgt := 155) dX12_readMesh_148 rfl ?_
            refine l_me2 hn ⟨hq.1, hq.2.1⟩ hq.2.2 c59 _ _ ?_
            exact ih _ _ _ _ _ _ (by omega) (by omega) (by omega) (by omega) kt kf
          · rw [if_neg c59] at kt kf
            refine wp_aload_n dX12_readMesh_138 rfl ?_
            refine wp_dup dX12_readMesh_139 rfl ?_
            refine wp_getI dX12_readMesh_140 fX12_119 rfl ?_
            try simp only [ST0, ST5, ST6, ST7, ST8, ST10, ST11, ST12, ST13, ST1, ST2, ST3, ST4, RE1, RE2, RE3, RE4, RF2, RF3, RF4, RF8, RF9, RF13, RF14]
            refine wp_iconst dX12_readMesh_143 ?_
            refine wp_iadd dX12_readMesh_144 ⟨by omega, by omega⟩ ?_
            refine wp_putI dX12_readMesh_145 fX12_119 rfl ?_
            try simp only [STu0, STu8, STu10, STu11, STu12, STu13, STu2, STu3, STu4, RE2, RE3, RE4, REu2, REu3, REu4, RFu3, RFu4, RFu8, RFu9]
            refine wp_goto (tgt := 155) dX12_readMesh_148 rfl ?_
            refine l_me3 hn ⟨hq.1, hq.2.1⟩ (by omega) hq.2.2 c59 _ _ (fun z => ?_) (fun z => ?_)
            · rw [if_pos z] at kt; exact kt rfl _
            · rw [if_neg z] at kf; exact kf (by show ¬ _ = (-1 : Int); omega) _ _ _ _
        · unfold msC at kf
          rw [if_pos e] at kf
          refine wp_aload_n dX12_readMesh_138 rfl ?_
          refine wp_dup dX12_readMesh_139 rfl ?_
          refine wp_getI dX12_readMesh_140 fX12_119 rfl ?_
          try simp only [ST0, ST5, ST6, ST7, ST8, ST10, ST11, ST12, ST13, ST1, ST2, ST3, ST4, RE1, RE2, RE3, RE4, RF2, RF3, RF4, RF8, RF9, RF13, RF14]
          refine wp_iconst dX12_readMesh_143 ?_
          refine wp_iadd dX12_readMesh_144 ⟨by omega, by omega⟩ ?_
          refine wp_putI dX12_readMesh_145 fX12_119 rfl ?_
          try simp only [STu0, STu8, STu10, STu11, STu12, STu13, STu2, STu3, STu4, RE2, RE3, RE4, REu2, REu3, REu4, RFu3, RFu4, RFu8, RFu9]
          refine wp_goto (tgt := 155) dX12_readMesh_148 rfl ?_
          exact l_me1 ha' e (kf e _ _ _ _) _ _
      · rw [if_neg c2] at kf
        have hkk := kf (by show ¬ skp (iv 1) (F 2) i = -1; omega)
        refine wp_iload_n dX12_readMesh_44 rfl ?_
        refine wp_if_eq (tgt := 199) dX12_readMesh_45 rfl (fun q => absurd q (by decide)) (fun _ => ?_)
        refine wp_aload_n dX12_readMesh_48 rfl ?_
        refine wp_getI dX12_readMesh_49 fX12_86 rfl ?_
        try simp only [ST0, ST5, ST6, ST7, ST8, ST10, ST11, ST12, ST13, ST1, ST2, ST3, ST4, RE1, RE2, RE3, RE4, RF2, RF3, RF4, RF8, RF9, RF13, RF14]
        refine wp_iconst dX12_readMesh_52 ?_
        refine wp_icmp_ne (tgt := 199) dX12_readMesh_53 rfl (fun h53 => by exfalso; omega) (fun h53 => ?_)
        refine wp_aload_n dX12_readMesh_56 rfl ?_
        refine wp_callV (as := []) (ls0 := [_]) (kc := 0) (ks := 0) (bc' := 0) (bs' := 0) dX12_readMesh_57 vX12_89 rfl rfl rfl (Nat.le_of_ble_eq_true rfl) (Nat.le_of_ble_eq_true rfl) (by omega) (by omega) ?_
        refine s_ahead hn (by omega) ?_
        refine wp_istore_n (ls' := [_, _, _, _]) dX12_readMesh_60 (by decide) rfl rfl ?_
        refine wp_iload_n dX12_readMesh_61 rfl ?_
        refine wp_bipush dX12_readMesh_62 ?_
        refine wp_icmp_ne (tgt := 97) dX12_readMesh_64 rfl (fun h64 => ?_) (fun h64 => ?_)
        · refine wp_iload_n dX12_readMesh_97 rfl ?_
          refine wp_bipush dX12_readMesh_98 ?_
          refine wp_icmp_ne (tgt := 151) dX12_readMesh_100 rfl (fun h100 => ?_) (fun h100 => ?_)
          · refine wp_aload_n dX12_readMesh_151 rfl ?_
            refine wp_callV (as := []) (ls0 := [_]) (kc := 0) (ks := 0) (bc' := 0) (bs' := 0) dX12_readMesh_152 vX12_96 rfl rfl rfl (Nat.le_of_ble_eq_true rfl) (Nat.le_of_ble_eq_true rfl) (by omega) (by omega) ?_
            refine s_badN rfl ?_
            exact l_me1 (by omega) (by omega) (hkk _ _ _ _) _ _
          · refine wp_aload_n dX12_readMesh_103 rfl ?_
            refine wp_getI dX12_readMesh_104 fX12_119 rfl ?_
            try simp only [ST0, ST5, ST6, ST7, ST8, ST10, ST11, ST12, ST13, ST1, ST2, ST3, ST4, RE1, RE2, RE3, RE4, RF2, RF3, RF4, RF8, RF9, RF13, RF14]
            refine wp_bipush dX12_readMesh_107 ?_
            refine wp_icmp_ge (tgt := 151) dX12_readMesh_109 rfl (fun h109 => ?_) (fun h109 => ?_)
            · refine wp_aload_n dX12_readMesh_151 rfl ?_
              refine wp_callV (as := []) (ls0 := [_]) (kc := 0) (ks := 0) (bc' := 0) (bs' := 0) dX12_readMesh_152 vX12_96 rfl rfl rfl (Nat.le_of_ble_eq_true rfl) (Nat.le_of_ble_eq_true rfl) (by omega) (by omega) ?_
              refine s_badN rfl ?_
              exact l_me1 (by omega) (by omega) (hkk _ _ _ _) _ _
            · exact absurd ⟨by omega, by omega⟩ c2
        · refine wp_iload_n dX12_readMesh_67 rfl ?_
          refine wp_if_ne (tgt := 97) dX12_readMesh_68 rfl (fun h68 => ?_) (fun h68 => ?_)
          · refine wp_iload_n dX12_readMesh_97 rfl ?_
            refine wp_bipush dX12_readMesh_98 ?_
            refine wp_icmp_ne (tgt := 151) dX12_readMesh_100 rfl (fun h100 => ?_) (fun h100 => ?_)
            · refine wp_aload_n dX12_readMesh_151 rfl ?_
              refine wp_callV (as := []) (ls0 := [_]) (kc := 0) (ks := 0) (bc' := 0) (bs' := 0) dX12_readMesh_152 vX12_96 rfl rfl rfl (Nat.le_of_ble_eq_true rfl) (Nat.le_of_ble_eq_true rfl) (by omega) (by omega) ?_
              refine s_badN rfl ?_
              exact l_me1 (by omega) (by omega) (hkk _ _ _ _) _ _
            · refine wp_aload_n dX12_readMesh_103 rfl ?_
              refine wp_getI dX12_readMesh_104 fX12_119 rfl ?_
              try simp only [ST0, ST5, ST6, ST7, ST8, ST10, ST11, ST12, ST13, ST1, ST2, ST3, ST4, RE1, RE2, RE3, RE4, RF2, RF3, RF4, RF8, RF9, RF13, RF14]
              refine wp_bipush dX12_readMesh_107 ?_
              refine wp_icmp_ge (tgt := 151) dX12_readMesh_109 rfl (fun h109 => ?_) (fun h109 => ?_)
              · refine wp_aload_n dX12_readMesh_151 rfl ?_
                refine wp_callV (as := []) (ls0 := [_]) (kc := 0) (ks := 0) (bc' := 0) (bs' := 0) dX12_readMesh_152 vX12_96 rfl rfl rfl (Nat.le_of_ble_eq_true rfl) (Nat.le_of_ble_eq_true rfl) (by omega) (by omega) ?_
                refine s_badN rfl ?_
                exact l_me1 (by omega) (by omega) (hkk _ _ _ _) _ _
              · exact absurd ⟨by omega, by omega⟩ c2
          · exact absurd ⟨by omega, by omega⟩ c1
noncomputable def mshV (t : Int → Int) (n : Int) (X Y : Int → Int) : Int × Int × (Int → Int) × (Int → Int) := msL t n 8 0 0 0 (cpW X (usF 115) 0 5) Y
theorem l_usM (k : ∀ v2 : Option aV, wp (d + 4) mX12_readMesh 42 [some (aR 0), some (aI 0), v2, none] [] SHR (ST (RE iv (cpW X (usF 115) 0 5) Y Z) (RF F (a) (w) (p) (h)) N G O T S) lw RVR 0 0 R) (m : Nat) : ∀ c : Int, 0 ≤ c → c + m = 5 → wp (d + 4) mX12_readMesh 19 [some (aR 0), some (aI 0), some (aI c), none] [] SHR (ST (RE iv (cpW X (usF 115) 0 c) Y Z) (RF F (a) (w) (p) (h)) N G O T S) lw RVR 0 0 R := by
  induction m with
  | zero =>
    intro c h0 hm
    refine wp_iload_n dX12_readMesh_19 rfl ?_
    refine wp_iconst dX12_readMesh_20 ?_
    refine wp_icmp_ge (tgt := 42) dX12_readMesh_21 rfl (fun h21 => ?_) (fun h21 => by exfalso; omega)
    rw [show c = 5 by omega]; exact k _
  | succ m ih =>
    intro c h0 hm
    have cs := cpW_s (D := X) (N := usF 115) (off := 0) h0
    rw [Int.zero_add] at cs
    refine wp_iload_n dX12_readMesh_19 rfl ?_
    refine wp_iconst dX12_readMesh_20 ?_
    refine wp_icmp_ge (tgt := 42) dX12_readMesh_21 rfl (fun h21 => by exfalso; omega) (fun h21 => ?_)
    refine wp_aload_n dX12_readMesh_24 rfl ?_
    refine wp_getR rfl dX12_readMesh_25 fX12_13 rfl ?_
    refine wp_iload_n dX12_readMesh_28 rfl ?_
    refine wp_bipush dX12_readMesh_29 ?_
    refine wp_iload_n dX12_readMesh_31 rfl ?_
    refine wp_callS (as := [_, _]) (ls0 := [_, _]) (kc := 0) (ks := 0) (bc' := 0) (bs' := 0) dX12_readMesh_32 vX12_99 rfl rfl (Nat.le_of_ble_eq_true rfl) (Nat.le_of_ble_eq_true rfl) (by omega) (by omega) ?_
    refine s_usual ?_
    refine wp_iast dX12_readMesh_35 rfl (by omega) (by omega) ?_
    try simp only [STu0, STu8, STu10, STu11, STu12, STu13, STu2, STu3, STu4, RE2, RE3, RE4, REu2, REu3, REu4, RFu3, RFu4, RFu8, RFu9]
    rw [cs]
    refine wp_iinc (ls' := [_, _, _, _]) dX12_readMesh_36 (by decide) rfl rfl ⟨by omega, by omega⟩ rfl ?_
    refine wp_goto (tgt := 19) dX12_readMesh_39 rfl ?_
    exact ih _ (by omega) (by omega)
theorem s_readMesh (hn : 0 ≤ F 2 ∧ F 2 ≤ 240) (kt : (mshV (iv 1) (F 2) X Y).1 = -1 → ∀ a' : Int, R (some (aI (-1))) SHR (ST (RE iv (mshV (iv 1) (F 2) X Y).2.2.1 (mshV (iv 1) (F 2) X Y).2.2.2 Z) (RF F (a') (-1) ((mshV (iv 1) (F 2) X Y).2.1) (h)) N G O T S) lw RVR) (kf : ¬ (mshV (iv 1) (F 2) X Y).1 = -1 → ∀ (a' p' : Int) (X' Y' : Int → Int), R (some (aI (mshV (iv 1) (F 2) X Y).1)) SHR (ST (RE iv X' Y' Z) (RF F (a') ((mshV (iv 1) (F 2) X Y).1) (p') (h)) N G O T S) lw RVR) : wp (d + 4) mX12_readMesh 0 [some (aR 0), none, none, none] [] SHR (ST (RE iv X Y Z) (RF F (a) (w) (p) (h)) N G O T S) lw RVR 0 0 R := by
  refine wp_aload_n dX12_readMesh_0 rfl ?_
  refine wp_iconst dX12_readMesh_1 ?_
  refine wp_putI dX12_readMesh_2 fX12_79 rfl ?_
  try simp only [STu0, STu8, STu10, STu11, STu12, STu13, STu2, STu3, STu4, RE2, RE3, RE4, REu2, REu3, REu4, RFu3, RFu4, RFu8, RFu9]
  refine wp_aload_n dX12_readMesh_5 rfl ?_
  refine wp_iconst dX12_readMesh_6 ?_
  refine wp_putI dX12_readMesh_7 fX12_86 rfl ?_
  try simp only [STu0, STu8, STu10, STu11, STu12, STu13, STu2, STu3, STu4, RE2, RE3, RE4, REu2, REu3, REu4, RFu3, RFu4, RFu8, RFu9]
  refine wp_aload_n dX12_readMesh_10 rfl ?_
  refine wp_iconst dX12_readMesh_11 ?_
  refine wp_putI dX12_readMesh_12 fX12_119 rfl ?_
  try simp only [STu0, STu8, STu10, STu11, STu12, STu13, STu2, STu3, STu4, RE2, RE3, RE4, REu2, REu3, REu4, RFu3, RFu4, RFu8, RFu9]
  refine wp_iconst dX12_readMesh_15 ?_
  refine wp_istore_n (ls' := [_, _, _, _]) dX12_readMesh_16 (by decide) rfl rfl ?_
  refine wp_iconst dX12_readMesh_17 ?_
  refine wp_istore_n (ls' := [_, _, _, _]) dX12_readMesh_18 (by decide) rfl rfl ?_
  rw [show RE iv X Y Z = RE iv (cpW X (usF 115) 0 0) Y Z by rw [cpW_0]]
  refine l_usM (fun v2 => ?_) 5 0 (by omega) (by omega)
  refine wp_iconst dX12_readMesh_42 ?_
  refine wp_istore_n (ls' := [_, _, _, _]) dX12_readMesh_43 (by decide) rfl rfl ?_
  exact l_mesh hn 8 0 0 0 _ _ _ (by omega) (Or.inl rfl) (by omega) (by omega) kt kf
end R28
