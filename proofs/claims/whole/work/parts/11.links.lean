theorem t1 {w : Cond} (h : w ∈ tables_1_1) : w ∈ lw_tbl := List.mem_append_right _ (List.mem_append_left _ h)
theorem t2 {w : Cond} (h : w ∈ tables_1_2) : w ∈ lw_tbl := List.mem_append_right _ (List.mem_append_right _ (List.mem_append_left _ h))
theorem t3 {w : Cond} (h : w ∈ tables_1_3) : w ∈ lw_tbl := List.mem_append_right _ (List.mem_append_right _ (List.mem_append_right _ (List.mem_append_left _ h)))
theorem t4 {w : Cond} (h : w ∈ tables_1_4) : w ∈ lw_tbl := List.mem_append_right _ (List.mem_append_right _ (List.mem_append_right _ (List.mem_append_right _ (List.mem_append_left _ h))))
theorem t5 {w : Cond} (h : w ∈ tables_1_5) : w ∈ lw_tbl := List.mem_append_right _ (List.mem_append_right _ (List.mem_append_right _ (List.mem_append_right _ (List.mem_append_right _ (List.mem_append_left _ h)))))
theorem t6 {w : Cond} (h : w ∈ tables_1_6) : w ∈ lw_tbl := List.mem_append_right _ (List.mem_append_right _ (List.mem_append_right _ (List.mem_append_right _ (List.mem_append_right _ (List.mem_append_right _ (List.mem_append_left _ h))))))
theorem t7 {w : Cond} (h : w ∈ tables_1_7) : w ∈ lw_tbl := List.mem_append_right _ (List.mem_append_right _ (List.mem_append_right _ (List.mem_append_right _ (List.mem_append_right _ (List.mem_append_right _ (List.mem_append_right _ (List.mem_append_left _ h)))))))
theorem t8 {w : Cond} (h : w ∈ tables_1_8) : w ∈ lw_tbl := List.mem_append_right _ (List.mem_append_right _ (List.mem_append_right _ (List.mem_append_right _ (List.mem_append_right _ (List.mem_append_right _ (List.mem_append_right _ (List.mem_append_right _ (h))))))))
theorem tp {w : Cond} (h : w ∈ k2_sels lw_privs) : w ∈ lw_tbl := List.mem_append_left _ h
theorem inX0 : ∀ w ∈ u_ws RX0 TX0 6, w ∈ aG := by
  intro w hw
  obtain ⟨k, hk, rfl⟩ := List.mem_map.mp hw
  have hk := List.mem_range.mp hk
  match k, hk with
  | 0, _ => exact List.mem_filter.mpr ⟨t1 (List.mem_of_getElem? (i := 238) rfl), rfl⟩
  | 1, _ => exact List.mem_filter.mpr ⟨t2 (List.mem_of_getElem? (i := 0) rfl), rfl⟩
  | 2, _ => exact List.mem_filter.mpr ⟨t2 (List.mem_of_getElem? (i := 2) rfl), rfl⟩
  | 3, _ => exact List.mem_filter.mpr ⟨t2 (List.mem_of_getElem? (i := 4) rfl), rfl⟩
  | 4, _ => exact List.mem_filter.mpr ⟨t2 (List.mem_of_getElem? (i := 6) rfl), rfl⟩
  | 5, _ => exact List.mem_filter.mpr ⟨t2 (List.mem_of_getElem? (i := 8) rfl), rfl⟩
  | k + 6, hk => exact absurd hk (by omega)
theorem clX0 : a_cls 0 RX0 TX0 6 tyX0 := by
  refine ⟨rfl, inX0, tyX0_ok, nmX0, rfl, fun k hk => ?_⟩
  match k, hk with
  | 0, _ => exact Or.inl ⟨_, rfl⟩
  | 1, _ => exact Or.inl ⟨_, rfl⟩
  | 2, _ => exact Or.inl ⟨_, rfl⟩
  | 3, _ => exact Or.inr ⟨_, rfl⟩
  | 4, _ => exact Or.inr ⟨_, rfl⟩
  | 5, _ => exact Or.inr ⟨_, rfl⟩
  | k + 6, hk => exact absurd hk (by omega)
theorem inX1 : ∀ w ∈ u_ws RX1 TX1 6, w ∈ aG := by
  intro w hw
  obtain ⟨k, hk, rfl⟩ := List.mem_map.mp hw
  have hk := List.mem_range.mp hk
  match k, hk with
  | 0, _ => exact List.mem_filter.mpr ⟨t1 (List.mem_of_getElem? (i := 213) rfl), rfl⟩
  | 1, _ => exact List.mem_filter.mpr ⟨t1 (List.mem_of_getElem? (i := 215) rfl), rfl⟩
  | 2, _ => exact List.mem_filter.mpr ⟨t1 (List.mem_of_getElem? (i := 217) rfl), rfl⟩
  | 3, _ => exact List.mem_filter.mpr ⟨t1 (List.mem_of_getElem? (i := 219) rfl), rfl⟩
  | 4, _ => exact List.mem_filter.mpr ⟨t1 (List.mem_of_getElem? (i := 221) rfl), rfl⟩
  | 5, _ => exact List.mem_filter.mpr ⟨t1 (List.mem_of_getElem? (i := 223) rfl), rfl⟩
  | k + 6, hk => exact absurd hk (by omega)
theorem clX1 : a_cls 1 RX1 TX1 6 tyX1 := by
  refine ⟨rfl, inX1, tyX1_ok, nmX1, rfl, fun k hk => ?_⟩
  match k, hk with
  | 0, _ => exact Or.inl ⟨_, rfl⟩
  | 1, _ => exact Or.inl ⟨_, rfl⟩
  | 2, _ => exact Or.inr ⟨_, rfl⟩
  | 3, _ => exact Or.inr ⟨_, rfl⟩
  | 4, _ => exact rfl
  | 5, _ => exact rfl
  | k + 6, hk => exact absurd hk (by omega)
theorem inX2 : ∀ w ∈ u_ws RX2 TX2 2, w ∈ aG := by
  intro w hw
  obtain ⟨k, hk, rfl⟩ := List.mem_map.mp hw
  have hk := List.mem_range.mp hk
  match k, hk with
  | 0, _ => exact List.mem_filter.mpr ⟨t1 (List.mem_of_getElem? (i := 144) rfl), rfl⟩
  | 1, _ => exact List.mem_filter.mpr ⟨t1 (List.mem_of_getElem? (i := 146) rfl), rfl⟩
  | k + 2, hk => exact absurd hk (by omega)
theorem clX2 : a_cls 2 RX2 TX2 2 tyX2 := by
  refine ⟨rfl, inX2, tyX2_ok, nmX2, rfl, fun k hk => ?_⟩
  match k, hk with
  | 0, _ => exact Or.inr ⟨_, rfl⟩
  | 1, _ => exact rfl
  | k + 2, hk => exact absurd hk (by omega)
theorem inX3 : ∀ w ∈ u_ws RX3 TX3 6, w ∈ aG := by
  intro w hw
  obtain ⟨k, hk, rfl⟩ := List.mem_map.mp hw
  have hk := List.mem_range.mp hk
  match k, hk with
  | 0, _ => exact List.mem_filter.mpr ⟨t1 (List.mem_of_getElem? (i := 170) rfl), rfl⟩
  | 1, _ => exact List.mem_filter.mpr ⟨t1 (List.mem_of_getElem? (i := 172) rfl), rfl⟩
  | 2, _ => exact List.mem_filter.mpr ⟨t1 (List.mem_of_getElem? (i := 174) rfl), rfl⟩
  | 3, _ => exact List.mem_filter.mpr ⟨t1 (List.mem_of_getElem? (i := 176) rfl), rfl⟩
  | 4, _ => exact List.mem_filter.mpr ⟨t1 (List.mem_of_getElem? (i := 178) rfl), rfl⟩
  | 5, _ => exact List.mem_filter.mpr ⟨t1 (List.mem_of_getElem? (i := 180) rfl), rfl⟩
  | k + 6, hk => exact absurd hk (by omega)
theorem clX3 : a_cls 3 RX3 TX3 6 tyX3 := by
  refine ⟨rfl, inX3, tyX3_ok, nmX3, rfl, fun k hk => ?_⟩
  match k, hk with
  | 0, _ => exact rfl
  | 1, _ => exact Or.inr ⟨_, rfl⟩
  | 2, _ => exact rfl
  | 3, _ => exact Or.inl ⟨_, rfl⟩
  | 4, _ => exact Or.inl ⟨_, rfl⟩
  | 5, _ => exact Or.inl ⟨_, rfl⟩
  | k + 6, hk => exact absurd hk (by omega)
theorem inX4 : ∀ w ∈ u_ws RX4 TX4 3, w ∈ aG := by
  intro w hw
  obtain ⟨k, hk, rfl⟩ := List.mem_map.mp hw
  have hk := List.mem_range.mp hk
  match k, hk with
  | 0, _ => exact List.mem_filter.mpr ⟨t1 (List.mem_of_getElem? (i := 194) rfl), rfl⟩
  | 1, _ => exact List.mem_filter.mpr ⟨t1 (List.mem_of_getElem? (i := 196) rfl), rfl⟩
  | 2, _ => exact List.mem_filter.mpr ⟨t1 (List.mem_of_getElem? (i := 198) rfl), rfl⟩
  | k + 3, hk => exact absurd hk (by omega)
theorem clX4 : a_cls 4 RX4 TX4 3 tyX4 := by
  refine ⟨rfl, inX4, tyX4_ok, nmX4, rfl, fun k hk => ?_⟩
  match k, hk with
  | 0, _ => exact Or.inl ⟨_, rfl⟩
  | 1, _ => exact Or.inr ⟨_, rfl⟩
  | 2, _ => exact Or.inr ⟨_, rfl⟩
  | k + 3, hk => exact absurd hk (by omega)
theorem inX5 : ∀ w ∈ u_ws RX5 TX5 4, w ∈ aG := by
  intro w hw
  obtain ⟨k, hk, rfl⟩ := List.mem_map.mp hw
  have hk := List.mem_range.mp hk
  match k, hk with
  | 0, _ => exact List.mem_filter.mpr ⟨t2 (List.mem_of_getElem? (i := 66) rfl), rfl⟩
  | 1, _ => exact List.mem_filter.mpr ⟨t2 (List.mem_of_getElem? (i := 68) rfl), rfl⟩
  | 2, _ => exact List.mem_filter.mpr ⟨t2 (List.mem_of_getElem? (i := 70) rfl), rfl⟩
  | 3, _ => exact List.mem_filter.mpr ⟨t2 (List.mem_of_getElem? (i := 72) rfl), rfl⟩
  | k + 4, hk => exact absurd hk (by omega)
theorem clX5 : a_cls 5 RX5 TX5 4 tyX5 := by
  refine ⟨rfl, inX5, tyX5_ok, nmX5, rfl, fun k hk => ?_⟩
  match k, hk with
  | 0, _ => exact Or.inl ⟨_, rfl⟩
  | 1, _ => exact Or.inl ⟨_, rfl⟩
  | 2, _ => exact Or.inl ⟨_, rfl⟩
  | 3, _ => exact Or.inr ⟨_, rfl⟩
  | k + 4, hk => exact absurd hk (by omega)
theorem inX6 : ∀ w ∈ u_ws RX6 TX6 10, w ∈ aG := by
  intro w hw
  obtain ⟨k, hk, rfl⟩ := List.mem_map.mp hw
  have hk := List.mem_range.mp hk
  match k, hk with
  | 0, _ => exact List.mem_filter.mpr ⟨t2 (List.mem_of_getElem? (i := 29) rfl), rfl⟩
  | 1, _ => exact List.mem_filter.mpr ⟨t2 (List.mem_of_getElem? (i := 31) rfl), rfl⟩
  | 2, _ => exact List.mem_filter.mpr ⟨t2 (List.mem_of_getElem? (i := 33) rfl), rfl⟩
  | 3, _ => exact List.mem_filter.mpr ⟨t2 (List.mem_of_getElem? (i := 35) rfl), rfl⟩
  | 4, _ => exact List.mem_filter.mpr ⟨t2 (List.mem_of_getElem? (i := 37) rfl), rfl⟩
  | 5, _ => exact List.mem_filter.mpr ⟨t2 (List.mem_of_getElem? (i := 39) rfl), rfl⟩
  | 6, _ => exact List.mem_filter.mpr ⟨t2 (List.mem_of_getElem? (i := 41) rfl), rfl⟩
  | 7, _ => exact List.mem_filter.mpr ⟨t2 (List.mem_of_getElem? (i := 43) rfl), rfl⟩
  | 8, _ => exact List.mem_filter.mpr ⟨t2 (List.mem_of_getElem? (i := 45) rfl), rfl⟩
  | 9, _ => exact List.mem_filter.mpr ⟨t2 (List.mem_of_getElem? (i := 47) rfl), rfl⟩
  | k + 10, hk => exact absurd hk (by omega)
theorem clX6 : a_cls 6 RX6 TX6 10 tyX6 := by
  refine ⟨rfl, inX6, tyX6_ok, nmX6, rfl, fun k hk => ?_⟩
  match k, hk with
  | 0, _ => exact Or.inr ⟨_, rfl⟩
  | 1, _ => exact rfl
  | 2, _ => exact Or.inr ⟨_, rfl⟩
  | 3, _ => exact Or.inr ⟨_, rfl⟩
  | 4, _ => exact rfl
  | 5, _ => exact rfl
  | 6, _ => exact Or.inr ⟨_, rfl⟩
  | 7, _ => exact Or.inr ⟨_, rfl⟩
  | 8, _ => exact rfl
  | 9, _ => exact rfl
  | k + 10, hk => exact absurd hk (by omega)
theorem inX7 : ∀ w ∈ u_ws RX7 TX7 5, w ∈ aG := by
  intro w hw
  obtain ⟨k, hk, rfl⟩ := List.mem_map.mp hw
  have hk := List.mem_range.mp hk
  match k, hk with
  | 0, _ => exact List.mem_filter.mpr ⟨t1 (List.mem_of_getElem? (i := 60) rfl), rfl⟩
  | 1, _ => exact List.mem_filter.mpr ⟨t1 (List.mem_of_getElem? (i := 62) rfl), rfl⟩
  | 2, _ => exact List.mem_filter.mpr ⟨t1 (List.mem_of_getElem? (i := 64) rfl), rfl⟩
  | 3, _ => exact List.mem_filter.mpr ⟨t1 (List.mem_of_getElem? (i := 66) rfl), rfl⟩
  | 4, _ => exact List.mem_filter.mpr ⟨t1 (List.mem_of_getElem? (i := 68) rfl), rfl⟩
  | k + 5, hk => exact absurd hk (by omega)
theorem clX7 : a_cls 7 RX7 TX7 5 tyX7 := by
  refine ⟨rfl, inX7, tyX7_ok, nmX7, rfl, fun k hk => ?_⟩
  match k, hk with
  | 0, _ => exact Or.inr ⟨_, rfl⟩
  | 1, _ => exact Or.inr ⟨_, rfl⟩
  | 2, _ => exact Or.inr ⟨_, rfl⟩
  | 3, _ => exact rfl
  | 4, _ => exact rfl
  | k + 5, hk => exact absurd hk (by omega)
theorem inX8 : ∀ w ∈ u_ws RX8 TX8 9, w ∈ aG := by
  intro w hw
  obtain ⟨k, hk, rfl⟩ := List.mem_map.mp hw
  have hk := List.mem_range.mp hk
  match k, hk with
  | 0, _ => exact List.mem_filter.mpr ⟨t1 (List.mem_of_getElem? (i := 91) rfl), rfl⟩
  | 1, _ => exact List.mem_filter.mpr ⟨t1 (List.mem_of_getElem? (i := 93) rfl), rfl⟩
  | 2, _ => exact List.mem_filter.mpr ⟨t1 (List.mem_of_getElem? (i := 95) rfl), rfl⟩
  | 3, _ => exact List.mem_filter.mpr ⟨t1 (List.mem_of_getElem? (i := 97) rfl), rfl⟩
  | 4, _ => exact List.mem_filter.mpr ⟨t1 (List.mem_of_getElem? (i := 99) rfl), rfl⟩
  | 5, _ => exact List.mem_filter.mpr ⟨t1 (List.mem_of_getElem? (i := 101) rfl), rfl⟩
  | 6, _ => exact List.mem_filter.mpr ⟨t1 (List.mem_of_getElem? (i := 103) rfl), rfl⟩
  | 7, _ => exact List.mem_filter.mpr ⟨t1 (List.mem_of_getElem? (i := 105) rfl), rfl⟩
  | 8, _ => exact List.mem_filter.mpr ⟨t1 (List.mem_of_getElem? (i := 107) rfl), rfl⟩
  | k + 9, hk => exact absurd hk (by omega)
theorem clX8 : a_cls 8 RX8 TX8 9 tyX8 := by
  refine ⟨rfl, inX8, tyX8_ok, nmX8, rfl, fun k hk => ?_⟩
  match k, hk with
  | 0, _ => exact Or.inl ⟨_, rfl⟩
  | 1, _ => exact Or.inr ⟨_, rfl⟩
  | 2, _ => exact Or.inr ⟨_, rfl⟩
  | 3, _ => exact Or.inr ⟨_, rfl⟩
  | 4, _ => exact rfl
  | 5, _ => exact rfl
  | 6, _ => exact rfl
  | 7, _ => exact rfl
  | 8, _ => exact rfl
  | k + 9, hk => exact absurd hk (by omega)
theorem inX9 : ∀ w ∈ u_ws RX9 TX9 2, w ∈ aG := by
  intro w hw
  obtain ⟨k, hk, rfl⟩ := List.mem_map.mp hw
  have hk := List.mem_range.mp hk
  match k, hk with
  | 0, _ => exact List.mem_filter.mpr ⟨t1 (List.mem_of_getElem? (i := 131) rfl), rfl⟩
  | 1, _ => exact List.mem_filter.mpr ⟨t1 (List.mem_of_getElem? (i := 133) rfl), rfl⟩
  | k + 2, hk => exact absurd hk (by omega)
theorem clX9 : a_cls 9 RX9 TX9 2 tyX9 := by
  refine ⟨rfl, inX9, tyX9_ok, nmX9, rfl, fun k hk => ?_⟩
  match k, hk with
  | 0, _ => exact Or.inr ⟨_, rfl⟩
  | 1, _ => exact rfl
  | k + 2, hk => exact absurd hk (by omega)
theorem inX10 : ∀ w ∈ u_ws RX10 TX10 2, w ∈ aG := by
  intro w hw
  obtain ⟨k, hk, rfl⟩ := List.mem_map.mp hw
  have hk := List.mem_range.mp hk
  match k, hk with
  | 0, _ => exact List.mem_filter.mpr ⟨t1 (List.mem_of_getElem? (i := 43) rfl), rfl⟩
  | 1, _ => exact List.mem_filter.mpr ⟨t1 (List.mem_of_getElem? (i := 45) rfl), rfl⟩
  | k + 2, hk => exact absurd hk (by omega)
theorem clX10 : a_cls 10 RX10 TX10 2 tyX10 := by
  refine ⟨rfl, inX10, tyX10_ok, nmX10, rfl, fun k hk => ?_⟩
  match k, hk with
  | 0, _ => exact Or.inr ⟨_, rfl⟩
  | 1, _ => exact rfl
  | k + 2, hk => exact absurd hk (by omega)
theorem inX11 : ∀ w ∈ u_ws RX11 TX11 11, w ∈ aG := by
  intro w hw
  obtain ⟨k, hk, rfl⟩ := List.mem_map.mp hw
  have hk := List.mem_range.mp hk
  match k, hk with
  | 0, _ => exact List.mem_filter.mpr ⟨t2 (List.mem_of_getElem? (i := 86) rfl), rfl⟩
  | 1, _ => exact List.mem_filter.mpr ⟨t2 (List.mem_of_getElem? (i := 88) rfl), rfl⟩
  | 2, _ => exact List.mem_filter.mpr ⟨t2 (List.mem_of_getElem? (i := 90) rfl), rfl⟩
  | 3, _ => exact List.mem_filter.mpr ⟨t2 (List.mem_of_getElem? (i := 92) rfl), rfl⟩
  | 4, _ => exact List.mem_filter.mpr ⟨t2 (List.mem_of_getElem? (i := 94) rfl), rfl⟩
  | 5, _ => exact List.mem_filter.mpr ⟨t2 (List.mem_of_getElem? (i := 96) rfl), rfl⟩
  | 6, _ => exact List.mem_filter.mpr ⟨t2 (List.mem_of_getElem? (i := 98) rfl), rfl⟩
  | 7, _ => exact List.mem_filter.mpr ⟨t2 (List.mem_of_getElem? (i := 100) rfl), rfl⟩
  | 8, _ => exact List.mem_filter.mpr ⟨t2 (List.mem_of_getElem? (i := 102) rfl), rfl⟩
  | 9, _ => exact List.mem_filter.mpr ⟨t2 (List.mem_of_getElem? (i := 104) rfl), rfl⟩
  | 10, _ => exact List.mem_filter.mpr ⟨t2 (List.mem_of_getElem? (i := 106) rfl), rfl⟩
  | k + 11, hk => exact absurd hk (by omega)
theorem clX11 : a_cls 11 RX11 TX11 11 tyX11 := by
  refine ⟨rfl, inX11, tyX11_ok, nmX11, rfl, fun k hk => ?_⟩
  match k, hk with
  | 0, _ => exact Or.inl ⟨_, rfl⟩
  | 1, _ => exact Or.inl ⟨_, rfl⟩
  | 2, _ => exact Or.inl ⟨_, rfl⟩
  | 3, _ => exact Or.inl ⟨_, rfl⟩
  | 4, _ => exact Or.inl ⟨_, rfl⟩
  | 5, _ => exact Or.inl ⟨_, rfl⟩
  | 6, _ => exact Or.inl ⟨_, rfl⟩
  | 7, _ => exact Or.inl ⟨_, rfl⟩
  | 8, _ => exact Or.inr ⟨_, rfl⟩
  | 9, _ => exact rfl
  | 10, _ => exact rfl
  | k + 11, hk => exact absurd hk (by omega)
theorem inX12 : ∀ w ∈ u_ws RX12 TX12 31, w ∈ aG := by
  intro w hw
  obtain ⟨k, hk, rfl⟩ := List.mem_map.mp hw
  have hk := List.mem_range.mp hk
  match k, hk with
  | 0, _ => exact List.mem_filter.mpr ⟨t6 (List.mem_of_getElem? (i := 149) rfl), rfl⟩
  | 1, _ => exact List.mem_filter.mpr ⟨t6 (List.mem_of_getElem? (i := 151) rfl), rfl⟩
  | 2, _ => exact List.mem_filter.mpr ⟨t6 (List.mem_of_getElem? (i := 153) rfl), rfl⟩
  | 3, _ => exact List.mem_filter.mpr ⟨t6 (List.mem_of_getElem? (i := 155) rfl), rfl⟩
  | 4, _ => exact List.mem_filter.mpr ⟨t6 (List.mem_of_getElem? (i := 157) rfl), rfl⟩
  | 5, _ => exact List.mem_filter.mpr ⟨t6 (List.mem_of_getElem? (i := 159) rfl), rfl⟩
  | 6, _ => exact List.mem_filter.mpr ⟨t6 (List.mem_of_getElem? (i := 161) rfl), rfl⟩
  | 7, _ => exact List.mem_filter.mpr ⟨t6 (List.mem_of_getElem? (i := 163) rfl), rfl⟩
  | 8, _ => exact List.mem_filter.mpr ⟨t6 (List.mem_of_getElem? (i := 165) rfl), rfl⟩
  | 9, _ => exact List.mem_filter.mpr ⟨t6 (List.mem_of_getElem? (i := 167) rfl), rfl⟩
  | 10, _ => exact List.mem_filter.mpr ⟨t6 (List.mem_of_getElem? (i := 169) rfl), rfl⟩
  | 11, _ => exact List.mem_filter.mpr ⟨t6 (List.mem_of_getElem? (i := 171) rfl), rfl⟩
  | 12, _ => exact List.mem_filter.mpr ⟨t6 (List.mem_of_getElem? (i := 173) rfl), rfl⟩
  | 13, _ => exact List.mem_filter.mpr ⟨t6 (List.mem_of_getElem? (i := 175) rfl), rfl⟩
  | 14, _ => exact List.mem_filter.mpr ⟨t6 (List.mem_of_getElem? (i := 177) rfl), rfl⟩
  | 15, _ => exact List.mem_filter.mpr ⟨t6 (List.mem_of_getElem? (i := 179) rfl), rfl⟩
  | 16, _ => exact List.mem_filter.mpr ⟨t6 (List.mem_of_getElem? (i := 181) rfl), rfl⟩
  | 17, _ => exact List.mem_filter.mpr ⟨t6 (List.mem_of_getElem? (i := 183) rfl), rfl⟩
  | 18, _ => exact List.mem_filter.mpr ⟨t6 (List.mem_of_getElem? (i := 185) rfl), rfl⟩
  | 19, _ => exact List.mem_filter.mpr ⟨t6 (List.mem_of_getElem? (i := 187) rfl), rfl⟩
  | 20, _ => exact List.mem_filter.mpr ⟨t6 (List.mem_of_getElem? (i := 189) rfl), rfl⟩
  | 21, _ => exact List.mem_filter.mpr ⟨t6 (List.mem_of_getElem? (i := 191) rfl), rfl⟩
  | 22, _ => exact List.mem_filter.mpr ⟨t6 (List.mem_of_getElem? (i := 193) rfl), rfl⟩
  | 23, _ => exact List.mem_filter.mpr ⟨t6 (List.mem_of_getElem? (i := 195) rfl), rfl⟩
  | 24, _ => exact List.mem_filter.mpr ⟨t6 (List.mem_of_getElem? (i := 197) rfl), rfl⟩
  | 25, _ => exact List.mem_filter.mpr ⟨t6 (List.mem_of_getElem? (i := 199) rfl), rfl⟩
  | 26, _ => exact List.mem_filter.mpr ⟨t6 (List.mem_of_getElem? (i := 201) rfl), rfl⟩
  | 27, _ => exact List.mem_filter.mpr ⟨t6 (List.mem_of_getElem? (i := 203) rfl), rfl⟩
  | 28, _ => exact List.mem_filter.mpr ⟨t6 (List.mem_of_getElem? (i := 205) rfl), rfl⟩
  | 29, _ => exact List.mem_filter.mpr ⟨t6 (List.mem_of_getElem? (i := 207) rfl), rfl⟩
  | 30, _ => exact List.mem_filter.mpr ⟨t6 (List.mem_of_getElem? (i := 209) rfl), rfl⟩
  | k + 31, hk => exact absurd hk (by omega)
theorem clX12 : a_cls 12 RX12 TX12 31 tyX12 := by
  refine ⟨rfl, inX12, tyX12_ok, nmX12, rfl, fun k hk => ?_⟩
  match k, hk with
  | 0, _ => exact rfl
  | 1, _ => exact Or.inr ⟨_, rfl⟩
  | 2, _ => exact rfl
  | 3, _ => exact rfl
  | 4, _ => exact rfl
  | 5, _ => exact Or.inr ⟨_, rfl⟩
  | 6, _ => exact Or.inr ⟨_, rfl⟩
  | 7, _ => exact Or.inr ⟨_, rfl⟩
  | 8, _ => exact rfl
  | 9, _ => exact rfl
  | 10, _ => exact Or.inr ⟨_, rfl⟩
  | 11, _ => exact Or.inr ⟨_, rfl⟩
  | 12, _ => exact Or.inr ⟨_, rfl⟩
  | 13, _ => exact rfl
  | 14, _ => exact rfl
  | 15, _ => exact Or.inr ⟨_, rfl⟩
  | 16, _ => exact Or.inr ⟨_, rfl⟩
  | 17, _ => exact rfl
  | 18, _ => exact Or.inr ⟨_, rfl⟩
  | 19, _ => exact rfl
  | 20, _ => exact Or.inr ⟨_, rfl⟩
  | 21, _ => exact Or.inr ⟨_, rfl⟩
  | 22, _ => exact rfl
  | 23, _ => exact Or.inr ⟨_, rfl⟩
  | 24, _ => exact Or.inr ⟨_, rfl⟩
  | 25, _ => exact rfl
  | 26, _ => exact rfl
  | 27, _ => exact Or.inr ⟨_, rfl⟩
  | 28, _ => exact Or.inr ⟨_, rfl⟩
  | 29, _ => exact Or.inr ⟨_, rfl⟩
  | 30, _ => exact rfl
  | k + 31, hk => exact absurd hk (by omega)
theorem fX10_11 : a_fl RX10 11 10 0 0 3 true := ⟨_, _, _, _, clX10, by decide, rfl, rfl, rfl, rfl, Or.inl (List.mem_filter.mpr ⟨t1 (List.mem_of_getElem? (i := 41) rfl), rfl⟩)⟩
theorem gX10_11 : a_flF RX10 11 10 0 0 3 := ⟨_, _, _, _, clX10, by decide, rfl, rfl, rfl, rfl, List.mem_filter.mpr ⟨t1 (List.mem_of_getElem? (i := 41) rfl), rfl⟩⟩
theorem fX10_15 : a_fl RX10 15 10 1 1 0 false := ⟨_, _, _, _, clX10, by decide, rfl, rfl, rfl, rfl, Or.inl (List.mem_filter.mpr ⟨t1 (List.mem_of_getElem? (i := 42) rfl), rfl⟩)⟩
theorem fX7_11 : a_fl RX7 11 7 0 0 3 true := ⟨_, _, _, _, clX7, by decide, rfl, rfl, rfl, rfl, Or.inl (List.mem_filter.mpr ⟨t1 (List.mem_of_getElem? (i := 55) rfl), rfl⟩)⟩
theorem gX7_11 : a_flF RX7 11 7 0 0 3 := ⟨_, _, _, _, clX7, by decide, rfl, rfl, rfl, rfl, List.mem_filter.mpr ⟨t1 (List.mem_of_getElem? (i := 55) rfl), rfl⟩⟩
theorem fX7_15 : a_fl RX7 15 7 1 1 3 true := ⟨_, _, _, _, clX7, by decide, rfl, rfl, rfl, rfl, Or.inl (List.mem_filter.mpr ⟨t1 (List.mem_of_getElem? (i := 56) rfl), rfl⟩)⟩
theorem gX7_15 : a_flF RX7 15 7 1 1 3 := ⟨_, _, _, _, clX7, by decide, rfl, rfl, rfl, rfl, List.mem_filter.mpr ⟨t1 (List.mem_of_getElem? (i := 56) rfl), rfl⟩⟩
theorem fX7_18 : a_fl RX7 18 7 2 2 3 true := ⟨_, _, _, _, clX7, by decide, rfl, rfl, rfl, rfl, Or.inl (List.mem_filter.mpr ⟨t1 (List.mem_of_getElem? (i := 57) rfl), rfl⟩)⟩
theorem gX7_18 : a_flF RX7 18 7 2 2 3 := ⟨_, _, _, _, clX7, by decide, rfl, rfl, rfl, rfl, List.mem_filter.mpr ⟨t1 (List.mem_of_getElem? (i := 57) rfl), rfl⟩⟩
theorem fX7_35 : a_fl RX7 35 7 3 3 0 false := ⟨_, _, _, _, clX7, by decide, rfl, rfl, rfl, rfl, Or.inl (List.mem_filter.mpr ⟨t1 (List.mem_of_getElem? (i := 58) rfl), rfl⟩)⟩
theorem fX7_40 : a_fl RX7 40 7 4 4 0 false := ⟨_, _, _, _, clX7, by decide, rfl, rfl, rfl, rfl, Or.inl (List.mem_filter.mpr ⟨t1 (List.mem_of_getElem? (i := 59) rfl), rfl⟩)⟩
theorem fX8_23 : a_fl RX8 23 8 0 0 3 true := ⟨_, _, _, _, clX8, by decide, rfl, rfl, rfl, rfl, Or.inl (List.mem_filter.mpr ⟨t1 (List.mem_of_getElem? (i := 77) rfl), rfl⟩)⟩
theorem gX8_23 : a_flF RX8 23 8 0 0 3 := ⟨_, _, _, _, clX8, by decide, rfl, rfl, rfl, rfl, List.mem_filter.mpr ⟨t1 (List.mem_of_getElem? (i := 77) rfl), rfl⟩⟩
theorem fX8_11 : a_fl RX8 11 8 1 1 3 true := ⟨_, _, _, _, clX8, by decide, rfl, rfl, rfl, rfl, Or.inl (List.mem_filter.mpr ⟨t1 (List.mem_of_getElem? (i := 78) rfl), rfl⟩)⟩
theorem gX8_11 : a_flF RX8 11 8 1 1 3 := ⟨_, _, _, _, clX8, by decide, rfl, rfl, rfl, rfl, List.mem_filter.mpr ⟨t1 (List.mem_of_getElem? (i := 78) rfl), rfl⟩⟩
theorem fX7_21 : a_fl RX7 21 8 1 1 3 true := ⟨_, _, _, _, clX8, by decide, rfl, rfl, rfl, rfl, Or.inr ⟨"HoppingMesh", t1 (List.mem_of_getElem? (i := 79) rfl)⟩⟩
theorem fX8_17 : a_fl RX8 17 8 2 2 3 true := ⟨_, _, _, _, clX8, by decide, rfl, rfl, rfl, rfl, Or.inl (List.mem_filter.mpr ⟨t1 (List.mem_of_getElem? (i := 80) rfl), rfl⟩)⟩
theorem gX8_17 : a_flF RX8 17 8 2 2 3 := ⟨_, _, _, _, clX8, by decide, rfl, rfl, rfl, rfl, List.mem_filter.mpr ⟨t1 (List.mem_of_getElem? (i := 80) rfl), rfl⟩⟩
theorem fX7_30 : a_fl RX7 30 8 2 2 3 true := ⟨_, _, _, _, clX8, by decide, rfl, rfl, rfl, rfl, Or.inr ⟨"HoppingMesh", t1 (List.mem_of_getElem? (i := 81) rfl)⟩⟩
theorem fX8_20 : a_fl RX8 20 8 3 3 3 true := ⟨_, _, _, _, clX8, by decide, rfl, rfl, rfl, rfl, Or.inl (List.mem_filter.mpr ⟨t1 (List.mem_of_getElem? (i := 82) rfl), rfl⟩)⟩
theorem gX8_20 : a_flF RX8 20 8 3 3 3 := ⟨_, _, _, _, clX8, by decide, rfl, rfl, rfl, rfl, List.mem_filter.mpr ⟨t1 (List.mem_of_getElem? (i := 82) rfl), rfl⟩⟩
theorem fX7_36 : a_fl RX7 36 8 3 3 3 true := ⟨_, _, _, _, clX8, by decide, rfl, rfl, rfl, rfl, Or.inr ⟨"HoppingMesh", t1 (List.mem_of_getElem? (i := 83) rfl)⟩⟩
theorem fX8_31 : a_fl RX8 31 8 4 4 0 false := ⟨_, _, _, _, clX8, by decide, rfl, rfl, rfl, rfl, Or.inl (List.mem_filter.mpr ⟨t1 (List.mem_of_getElem? (i := 84) rfl), rfl⟩)⟩
theorem fX7_31 : a_fl RX7 31 8 4 4 0 false := ⟨_, _, _, _, clX8, by decide, rfl, rfl, rfl, rfl, Or.inr ⟨"HoppingMesh", t1 (List.mem_of_getElem? (i := 85) rfl)⟩⟩
theorem fX8_60 : a_fl RX8 60 8 5 5 0 false := ⟨_, _, _, _, clX8, by decide, rfl, rfl, rfl, rfl, Or.inl (List.mem_filter.mpr ⟨t1 (List.mem_of_getElem? (i := 86) rfl), rfl⟩)⟩
theorem fX7_37 : a_fl RX7 37 8 5 5 0 false := ⟨_, _, _, _, clX8, by decide, rfl, rfl, rfl, rfl, Or.inr ⟨"HoppingMesh", t1 (List.mem_of_getElem? (i := 87) rfl)⟩⟩
theorem fX8_34 : a_fl RX8 34 8 6 6 1 false := ⟨_, _, _, _, clX8, by decide, rfl, rfl, rfl, rfl, Or.inl (List.mem_filter.mpr ⟨t1 (List.mem_of_getElem? (i := 88) rfl), rfl⟩)⟩
theorem fX8_27 : a_fl RX8 27 8 7 7 0 false := ⟨_, _, _, _, clX8, by decide, rfl, rfl, rfl, rfl, Or.inl (List.mem_filter.mpr ⟨t1 (List.mem_of_getElem? (i := 89) rfl), rfl⟩)⟩
theorem fX8_109 : a_fl RX8 109 8 8 8 0 false := ⟨_, _, _, _, clX8, by decide, rfl, rfl, rfl, rfl, Or.inl (List.mem_filter.mpr ⟨t1 (List.mem_of_getElem? (i := 90) rfl), rfl⟩)⟩
theorem fX9_11 : a_fl RX9 11 9 0 0 3 true := ⟨_, _, _, _, clX9, by decide, rfl, rfl, rfl, rfl, Or.inl (List.mem_filter.mpr ⟨t1 (List.mem_of_getElem? (i := 129) rfl), rfl⟩)⟩
theorem gX9_11 : a_flF RX9 11 9 0 0 3 := ⟨_, _, _, _, clX9, by decide, rfl, rfl, rfl, rfl, List.mem_filter.mpr ⟨t1 (List.mem_of_getElem? (i := 129) rfl), rfl⟩⟩
theorem fX9_15 : a_fl RX9 15 9 1 1 0 true := ⟨_, _, _, _, clX9, by decide, rfl, rfl, rfl, rfl, Or.inl (List.mem_filter.mpr ⟨t1 (List.mem_of_getElem? (i := 130) rfl), rfl⟩)⟩
theorem gX9_15 : a_flF RX9 15 9 1 1 0 := ⟨_, _, _, _, clX9, by decide, rfl, rfl, rfl, rfl, List.mem_filter.mpr ⟨t1 (List.mem_of_getElem? (i := 130) rfl), rfl⟩⟩
theorem fX2_11 : a_fl RX2 11 2 0 0 3 true := ⟨_, _, _, _, clX2, by decide, rfl, rfl, rfl, rfl, Or.inl (List.mem_filter.mpr ⟨t1 (List.mem_of_getElem? (i := 142) rfl), rfl⟩)⟩
theorem gX2_11 : a_flF RX2 11 2 0 0 3 := ⟨_, _, _, _, clX2, by decide, rfl, rfl, rfl, rfl, List.mem_filter.mpr ⟨t1 (List.mem_of_getElem? (i := 142) rfl), rfl⟩⟩
theorem fX2_15 : a_fl RX2 15 2 1 1 0 true := ⟨_, _, _, _, clX2, by decide, rfl, rfl, rfl, rfl, Or.inl (List.mem_filter.mpr ⟨t1 (List.mem_of_getElem? (i := 143) rfl), rfl⟩)⟩
theorem gX2_15 : a_flF RX2 15 2 1 1 0 := ⟨_, _, _, _, clX2, by decide, rfl, rfl, rfl, rfl, List.mem_filter.mpr ⟨t1 (List.mem_of_getElem? (i := 143) rfl), rfl⟩⟩
theorem fX3_15 : a_fl RX3 15 3 0 0 0 true := ⟨_, _, _, _, clX3, by decide, rfl, rfl, rfl, rfl, Or.inl (List.mem_filter.mpr ⟨t1 (List.mem_of_getElem? (i := 149) rfl), rfl⟩)⟩
theorem gX3_15 : a_flF RX3 15 3 0 0 0 := ⟨_, _, _, _, clX3, by decide, rfl, rfl, rfl, rfl, List.mem_filter.mpr ⟨t1 (List.mem_of_getElem? (i := 149) rfl), rfl⟩⟩
theorem fX1_192 : a_fl RX1 192 3 0 0 0 true := ⟨_, _, _, _, clX3, by decide, rfl, rfl, rfl, rfl, Or.inr ⟨"HoppingMesh", t1 (List.mem_of_getElem? (i := 150) rfl)⟩⟩
theorem fX3_19 : a_fl RX3 19 3 1 1 3 true := ⟨_, _, _, _, clX3, by decide, rfl, rfl, rfl, rfl, Or.inl (List.mem_filter.mpr ⟨t1 (List.mem_of_getElem? (i := 151) rfl), rfl⟩)⟩
theorem gX3_19 : a_flF RX3 19 3 1 1 3 := ⟨_, _, _, _, clX3, by decide, rfl, rfl, rfl, rfl, List.mem_filter.mpr ⟨t1 (List.mem_of_getElem? (i := 151) rfl), rfl⟩⟩
theorem fX3_23 : a_fl RX3 23 3 2 2 0 true := ⟨_, _, _, _, clX3, by decide, rfl, rfl, rfl, rfl, Or.inl (List.mem_filter.mpr ⟨t1 (List.mem_of_getElem? (i := 152) rfl), rfl⟩)⟩
theorem gX3_23 : a_flF RX3 23 3 2 2 0 := ⟨_, _, _, _, clX3, by decide, rfl, rfl, rfl, rfl, List.mem_filter.mpr ⟨t1 (List.mem_of_getElem? (i := 152) rfl), rfl⟩⟩
theorem fX3_29 : a_fl RX3 29 3 3 3 3 true := ⟨_, _, _, _, clX3, by decide, rfl, rfl, rfl, rfl, Or.inl (List.mem_filter.mpr ⟨t1 (List.mem_of_getElem? (i := 153) rfl), rfl⟩)⟩
theorem gX3_29 : a_flF RX3 29 3 3 3 3 := ⟨_, _, _, _, clX3, by decide, rfl, rfl, rfl, rfl, List.mem_filter.mpr ⟨t1 (List.mem_of_getElem? (i := 153) rfl), rfl⟩⟩
theorem fX1_63 : a_fl RX1 63 3 3 3 3 true := ⟨_, _, _, _, clX3, by decide, rfl, rfl, rfl, rfl, Or.inr ⟨"HoppingMesh", t1 (List.mem_of_getElem? (i := 154) rfl)⟩⟩
theorem fX0_99 : a_fl RX0 99 3 3 3 3 true := ⟨_, _, _, _, clX3, by decide, rfl, rfl, rfl, rfl, Or.inr ⟨"HoppingMesh", t1 (List.mem_of_getElem? (i := 155) rfl)⟩⟩
theorem fX5_100 : a_fl RX5 100 3 3 3 3 true := ⟨_, _, _, _, clX3, by decide, rfl, rfl, rfl, rfl, Or.inr ⟨"HoppingMesh", t1 (List.mem_of_getElem? (i := 156) rfl)⟩⟩
theorem fX11_152 : a_fl RX11 152 3 3 3 3 true := ⟨_, _, _, _, clX3, by decide, rfl, rfl, rfl, rfl, Or.inr ⟨"HoppingMesh", t1 (List.mem_of_getElem? (i := 157) rfl)⟩⟩
theorem fX4_65 : a_fl RX4 65 3 3 3 3 true := ⟨_, _, _, _, clX3, by decide, rfl, rfl, rfl, rfl, Or.inr ⟨"HoppingMesh", t1 (List.mem_of_getElem? (i := 158) rfl)⟩⟩
theorem fX3_33 : a_fl RX3 33 3 4 4 3 true := ⟨_, _, _, _, clX3, by decide, rfl, rfl, rfl, rfl, Or.inl (List.mem_filter.mpr ⟨t1 (List.mem_of_getElem? (i := 159) rfl), rfl⟩)⟩
theorem gX3_33 : a_flF RX3 33 3 4 4 3 := ⟨_, _, _, _, clX3, by decide, rfl, rfl, rfl, rfl, List.mem_filter.mpr ⟨t1 (List.mem_of_getElem? (i := 159) rfl), rfl⟩⟩
theorem fX1_122 : a_fl RX1 122 3 4 4 3 true := ⟨_, _, _, _, clX3, by decide, rfl, rfl, rfl, rfl, Or.inr ⟨"HoppingMesh", t1 (List.mem_of_getElem? (i := 160) rfl)⟩⟩
theorem fX0_141 : a_fl RX0 141 3 4 4 3 true := ⟨_, _, _, _, clX3, by decide, rfl, rfl, rfl, rfl, Or.inr ⟨"HoppingMesh", t1 (List.mem_of_getElem? (i := 161) rfl)⟩⟩
theorem fX11_161 : a_fl RX11 161 3 4 4 3 true := ⟨_, _, _, _, clX3, by decide, rfl, rfl, rfl, rfl, Or.inr ⟨"HoppingMesh", t1 (List.mem_of_getElem? (i := 162) rfl)⟩⟩
theorem fX4_74 : a_fl RX4 74 3 4 4 3 true := ⟨_, _, _, _, clX3, by decide, rfl, rfl, rfl, rfl, Or.inr ⟨"HoppingMesh", t1 (List.mem_of_getElem? (i := 163) rfl)⟩⟩
theorem fX3_37 : a_fl RX3 37 3 5 5 3 true := ⟨_, _, _, _, clX3, by decide, rfl, rfl, rfl, rfl, Or.inl (List.mem_filter.mpr ⟨t1 (List.mem_of_getElem? (i := 164) rfl), rfl⟩)⟩
theorem gX3_37 : a_flF RX3 37 3 5 5 3 := ⟨_, _, _, _, clX3, by decide, rfl, rfl, rfl, rfl, List.mem_filter.mpr ⟨t1 (List.mem_of_getElem? (i := 164) rfl), rfl⟩⟩
theorem fX0_46 : a_fl RX0 46 3 5 5 3 true := ⟨_, _, _, _, clX3, by decide, rfl, rfl, rfl, rfl, Or.inr ⟨"HoppingMesh", t1 (List.mem_of_getElem? (i := 165) rfl)⟩⟩
theorem fX1_72 : a_fl RX1 72 3 5 5 3 true := ⟨_, _, _, _, clX3, by decide, rfl, rfl, rfl, rfl, Or.inr ⟨"HoppingMesh", t1 (List.mem_of_getElem? (i := 166) rfl)⟩⟩
theorem fX5_75 : a_fl RX5 75 3 5 5 3 true := ⟨_, _, _, _, clX3, by decide, rfl, rfl, rfl, rfl, Or.inr ⟨"HoppingMesh", t1 (List.mem_of_getElem? (i := 167) rfl)⟩⟩
theorem fX4_52 : a_fl RX4 52 3 5 5 3 true := ⟨_, _, _, _, clX3, by decide, rfl, rfl, rfl, rfl, Or.inr ⟨"HoppingMesh", t1 (List.mem_of_getElem? (i := 168) rfl)⟩⟩
theorem fX11_170 : a_fl RX11 170 3 5 5 3 true := ⟨_, _, _, _, clX3, by decide, rfl, rfl, rfl, rfl, Or.inr ⟨"HoppingMesh", t1 (List.mem_of_getElem? (i := 169) rfl)⟩⟩
theorem fX5_21 : a_fl RX5 21 4 0 0 3 true := ⟨_, _, _, _, clX4, by decide, rfl, rfl, rfl, rfl, Or.inr ⟨"HoppingMesh", t1 (List.mem_of_getElem? (i := 183) rfl)⟩⟩
theorem fX4_21 : a_fl RX4 21 4 0 0 3 true := ⟨_, _, _, _, clX4, by decide, rfl, rfl, rfl, rfl, Or.inl (List.mem_filter.mpr ⟨t1 (List.mem_of_getElem? (i := 184) rfl), rfl⟩)⟩
theorem gX4_21 : a_flF RX4 21 4 0 0 3 := ⟨_, _, _, _, clX4, by decide, rfl, rfl, rfl, rfl, List.mem_filter.mpr ⟨t1 (List.mem_of_getElem? (i := 184) rfl), rfl⟩⟩
theorem fX1_24 : a_fl RX1 24 4 0 0 3 true := ⟨_, _, _, _, clX4, by decide, rfl, rfl, rfl, rfl, Or.inr ⟨"HoppingMesh", t1 (List.mem_of_getElem? (i := 185) rfl)⟩⟩
theorem fX0_25 : a_fl RX0 25 4 0 0 3 true := ⟨_, _, _, _, clX4, by decide, rfl, rfl, rfl, rfl, Or.inr ⟨"HoppingMesh", t1 (List.mem_of_getElem? (i := 186) rfl)⟩⟩
theorem fX4_13 : a_fl RX4 13 4 1 1 3 true := ⟨_, _, _, _, clX4, by decide, rfl, rfl, rfl, rfl, Or.inl (List.mem_filter.mpr ⟨t1 (List.mem_of_getElem? (i := 187) rfl), rfl⟩)⟩
theorem gX4_13 : a_flF RX4 13 4 1 1 3 := ⟨_, _, _, _, clX4, by decide, rfl, rfl, rfl, rfl, List.mem_filter.mpr ⟨t1 (List.mem_of_getElem? (i := 187) rfl), rfl⟩⟩
theorem fX5_45 : a_fl RX5 45 4 1 1 3 true := ⟨_, _, _, _, clX4, by decide, rfl, rfl, rfl, rfl, Or.inr ⟨"HoppingMesh", t1 (List.mem_of_getElem? (i := 188) rfl)⟩⟩
theorem fX11_189 : a_fl RX11 189 4 1 1 3 true := ⟨_, _, _, _, clX4, by decide, rfl, rfl, rfl, rfl, Or.inr ⟨"HoppingMesh", t1 (List.mem_of_getElem? (i := 189) rfl)⟩⟩
theorem fX4_17 : a_fl RX4 17 4 2 2 3 true := ⟨_, _, _, _, clX4, by decide, rfl, rfl, rfl, rfl, Or.inl (List.mem_filter.mpr ⟨t1 (List.mem_of_getElem? (i := 190) rfl), rfl⟩)⟩
theorem gX4_17 : a_flF RX4 17 4 2 2 3 := ⟨_, _, _, _, clX4, by decide, rfl, rfl, rfl, rfl, List.mem_filter.mpr ⟨t1 (List.mem_of_getElem? (i := 190) rfl), rfl⟩⟩
theorem fX0_42 : a_fl RX0 42 4 2 2 3 true := ⟨_, _, _, _, clX4, by decide, rfl, rfl, rfl, rfl, Or.inr ⟨"HoppingMesh", t1 (List.mem_of_getElem? (i := 191) rfl)⟩⟩
theorem fX5_59 : a_fl RX5 59 4 2 2 3 true := ⟨_, _, _, _, clX4, by decide, rfl, rfl, rfl, rfl, Or.inr ⟨"HoppingMesh", t1 (List.mem_of_getElem? (i := 192) rfl)⟩⟩
theorem fX11_143 : a_fl RX11 143 4 2 2 3 true := ⟨_, _, _, _, clX4, by decide, rfl, rfl, rfl, rfl, Or.inr ⟨"HoppingMesh", t1 (List.mem_of_getElem? (i := 193) rfl)⟩⟩
theorem fX1_20 : a_fl RX1 20 1 0 0 3 true := ⟨_, _, _, _, clX1, by decide, rfl, rfl, rfl, rfl, Or.inl (List.mem_filter.mpr ⟨t1 (List.mem_of_getElem? (i := 207) rfl), rfl⟩)⟩
theorem gX1_20 : a_flF RX1 20 1 0 0 3 := ⟨_, _, _, _, clX1, by decide, rfl, rfl, rfl, rfl, List.mem_filter.mpr ⟨t1 (List.mem_of_getElem? (i := 207) rfl), rfl⟩⟩
theorem fX1_30 : a_fl RX1 30 1 1 1 3 true := ⟨_, _, _, _, clX1, by decide, rfl, rfl, rfl, rfl, Or.inl (List.mem_filter.mpr ⟨t1 (List.mem_of_getElem? (i := 208) rfl), rfl⟩)⟩
theorem gX1_30 : a_flF RX1 30 1 1 1 3 := ⟨_, _, _, _, clX1, by decide, rfl, rfl, rfl, rfl, List.mem_filter.mpr ⟨t1 (List.mem_of_getElem? (i := 208) rfl), rfl⟩⟩
theorem fX1_9 : a_fl RX1 9 1 2 2 3 true := ⟨_, _, _, _, clX1, by decide, rfl, rfl, rfl, rfl, Or.inl (List.mem_filter.mpr ⟨t1 (List.mem_of_getElem? (i := 209) rfl), rfl⟩)⟩
theorem gX1_9 : a_flF RX1 9 1 2 2 3 := ⟨_, _, _, _, clX1, by decide, rfl, rfl, rfl, rfl, List.mem_filter.mpr ⟨t1 (List.mem_of_getElem? (i := 209) rfl), rfl⟩⟩
theorem fX1_17 : a_fl RX1 17 1 3 3 3 true := ⟨_, _, _, _, clX1, by decide, rfl, rfl, rfl, rfl, Or.inl (List.mem_filter.mpr ⟨t1 (List.mem_of_getElem? (i := 210) rfl), rfl⟩)⟩
theorem gX1_17 : a_flF RX1 17 1 3 3 3 := ⟨_, _, _, _, clX1, by decide, rfl, rfl, rfl, rfl, List.mem_filter.mpr ⟨t1 (List.mem_of_getElem? (i := 210) rfl), rfl⟩⟩
theorem fX1_37 : a_fl RX1 37 1 4 4 0 false := ⟨_, _, _, _, clX1, by decide, rfl, rfl, rfl, rfl, Or.inl (List.mem_filter.mpr ⟨t1 (List.mem_of_getElem? (i := 211) rfl), rfl⟩)⟩
theorem fX1_112 : a_fl RX1 112 1 5 5 0 false := ⟨_, _, _, _, clX1, by decide, rfl, rfl, rfl, rfl, Or.inl (List.mem_filter.mpr ⟨t1 (List.mem_of_getElem? (i := 212) rfl), rfl⟩)⟩
theorem fX0_21 : a_fl RX0 21 0 0 0 3 true := ⟨_, _, _, _, clX0, by decide, rfl, rfl, rfl, rfl, Or.inl (List.mem_filter.mpr ⟨t1 (List.mem_of_getElem? (i := 232) rfl), rfl⟩)⟩
theorem gX0_21 : a_flF RX0 21 0 0 0 3 := ⟨_, _, _, _, clX0, by decide, rfl, rfl, rfl, rfl, List.mem_filter.mpr ⟨t1 (List.mem_of_getElem? (i := 232) rfl), rfl⟩⟩
theorem fX0_31 : a_fl RX0 31 0 1 1 3 true := ⟨_, _, _, _, clX0, by decide, rfl, rfl, rfl, rfl, Or.inl (List.mem_filter.mpr ⟨t1 (List.mem_of_getElem? (i := 233) rfl), rfl⟩)⟩
theorem gX0_31 : a_flF RX0 31 0 1 1 3 := ⟨_, _, _, _, clX0, by decide, rfl, rfl, rfl, rfl, List.mem_filter.mpr ⟨t1 (List.mem_of_getElem? (i := 233) rfl), rfl⟩⟩
theorem fX0_32 : a_fl RX0 32 0 2 2 3 true := ⟨_, _, _, _, clX0, by decide, rfl, rfl, rfl, rfl, Or.inl (List.mem_filter.mpr ⟨t1 (List.mem_of_getElem? (i := 234) rfl), rfl⟩)⟩
theorem gX0_32 : a_flF RX0 32 0 2 2 3 := ⟨_, _, _, _, clX0, by decide, rfl, rfl, rfl, rfl, List.mem_filter.mpr ⟨t1 (List.mem_of_getElem? (i := 234) rfl), rfl⟩⟩
theorem fX0_11 : a_fl RX0 11 0 3 3 3 true := ⟨_, _, _, _, clX0, by decide, rfl, rfl, rfl, rfl, Or.inl (List.mem_filter.mpr ⟨t1 (List.mem_of_getElem? (i := 235) rfl), rfl⟩)⟩
theorem gX0_11 : a_flF RX0 11 0 3 3 3 := ⟨_, _, _, _, clX0, by decide, rfl, rfl, rfl, rfl, List.mem_filter.mpr ⟨t1 (List.mem_of_getElem? (i := 235) rfl), rfl⟩⟩
theorem fX0_15 : a_fl RX0 15 0 4 4 3 true := ⟨_, _, _, _, clX0, by decide, rfl, rfl, rfl, rfl, Or.inl (List.mem_filter.mpr ⟨t1 (List.mem_of_getElem? (i := 236) rfl), rfl⟩)⟩
theorem gX0_15 : a_flF RX0 15 0 4 4 3 := ⟨_, _, _, _, clX0, by decide, rfl, rfl, rfl, rfl, List.mem_filter.mpr ⟨t1 (List.mem_of_getElem? (i := 236) rfl), rfl⟩⟩
theorem fX0_18 : a_fl RX0 18 0 5 5 3 true := ⟨_, _, _, _, clX0, by decide, rfl, rfl, rfl, rfl, Or.inl (List.mem_filter.mpr ⟨t1 (List.mem_of_getElem? (i := 237) rfl), rfl⟩)⟩
theorem gX0_18 : a_flF RX0 18 0 5 5 3 := ⟨_, _, _, _, clX0, by decide, rfl, rfl, rfl, rfl, List.mem_filter.mpr ⟨t1 (List.mem_of_getElem? (i := 237) rfl), rfl⟩⟩
theorem fX6_11 : a_fl RX6 11 6 0 0 3 true := ⟨_, _, _, _, clX6, by decide, rfl, rfl, rfl, rfl, Or.inl (List.mem_filter.mpr ⟨t2 (List.mem_of_getElem? (i := 19) rfl), rfl⟩)⟩
theorem gX6_11 : a_flF RX6 11 6 0 0 3 := ⟨_, _, _, _, clX6, by decide, rfl, rfl, rfl, rfl, List.mem_filter.mpr ⟨t2 (List.mem_of_getElem? (i := 19) rfl), rfl⟩⟩
theorem fX6_31 : a_fl RX6 31 6 1 1 0 false := ⟨_, _, _, _, clX6, by decide, rfl, rfl, rfl, rfl, Or.inl (List.mem_filter.mpr ⟨t2 (List.mem_of_getElem? (i := 20) rfl), rfl⟩)⟩
theorem fX6_16 : a_fl RX6 16 6 2 2 3 true := ⟨_, _, _, _, clX6, by decide, rfl, rfl, rfl, rfl, Or.inl (List.mem_filter.mpr ⟨t2 (List.mem_of_getElem? (i := 21) rfl), rfl⟩)⟩
theorem gX6_16 : a_flF RX6 16 6 2 2 3 := ⟨_, _, _, _, clX6, by decide, rfl, rfl, rfl, rfl, List.mem_filter.mpr ⟨t2 (List.mem_of_getElem? (i := 21) rfl), rfl⟩⟩
theorem fX6_20 : a_fl RX6 20 6 3 3 3 true := ⟨_, _, _, _, clX6, by decide, rfl, rfl, rfl, rfl, Or.inl (List.mem_filter.mpr ⟨t2 (List.mem_of_getElem? (i := 22) rfl), rfl⟩)⟩
theorem gX6_20 : a_flF RX6 20 6 3 3 3 := ⟨_, _, _, _, clX6, by decide, rfl, rfl, rfl, rfl, List.mem_filter.mpr ⟨t2 (List.mem_of_getElem? (i := 22) rfl), rfl⟩⟩
theorem fX6_52 : a_fl RX6 52 6 4 4 0 false := ⟨_, _, _, _, clX6, by decide, rfl, rfl, rfl, rfl, Or.inl (List.mem_filter.mpr ⟨t2 (List.mem_of_getElem? (i := 23) rfl), rfl⟩)⟩
theorem fX6_35 : a_fl RX6 35 6 5 5 0 false := ⟨_, _, _, _, clX6, by decide, rfl, rfl, rfl, rfl, Or.inl (List.mem_filter.mpr ⟨t2 (List.mem_of_getElem? (i := 24) rfl), rfl⟩)⟩
theorem fX6_25 : a_fl RX6 25 6 6 6 3 true := ⟨_, _, _, _, clX6, by decide, rfl, rfl, rfl, rfl, Or.inl (List.mem_filter.mpr ⟨t2 (List.mem_of_getElem? (i := 25) rfl), rfl⟩)⟩
theorem gX6_25 : a_flF RX6 25 6 6 6 3 := ⟨_, _, _, _, clX6, by decide, rfl, rfl, rfl, rfl, List.mem_filter.mpr ⟨t2 (List.mem_of_getElem? (i := 25) rfl), rfl⟩⟩
theorem fX6_28 : a_fl RX6 28 6 7 7 3 true := ⟨_, _, _, _, clX6, by decide, rfl, rfl, rfl, rfl, Or.inl (List.mem_filter.mpr ⟨t2 (List.mem_of_getElem? (i := 26) rfl), rfl⟩)⟩
theorem gX6_28 : a_flF RX6 28 6 7 7 3 := ⟨_, _, _, _, clX6, by decide, rfl, rfl, rfl, rfl, List.mem_filter.mpr ⟨t2 (List.mem_of_getElem? (i := 26) rfl), rfl⟩⟩
theorem fX6_61 : a_fl RX6 61 6 8 8 0 false := ⟨_, _, _, _, clX6, by decide, rfl, rfl, rfl, rfl, Or.inl (List.mem_filter.mpr ⟨t2 (List.mem_of_getElem? (i := 27) rfl), rfl⟩)⟩
theorem fX6_38 : a_fl RX6 38 6 9 9 1 false := ⟨_, _, _, _, clX6, by decide, rfl, rfl, rfl, rfl, Or.inl (List.mem_filter.mpr ⟨t2 (List.mem_of_getElem? (i := 28) rfl), rfl⟩)⟩
theorem fX5_15 : a_fl RX5 15 5 0 0 3 true := ⟨_, _, _, _, clX5, by decide, rfl, rfl, rfl, rfl, Or.inl (List.mem_filter.mpr ⟨t2 (List.mem_of_getElem? (i := 62) rfl), rfl⟩)⟩
theorem gX5_15 : a_flF RX5 15 5 0 0 3 := ⟨_, _, _, _, clX5, by decide, rfl, rfl, rfl, rfl, List.mem_filter.mpr ⟨t2 (List.mem_of_getElem? (i := 62) rfl), rfl⟩⟩
theorem fX5_28 : a_fl RX5 28 5 1 1 3 true := ⟨_, _, _, _, clX5, by decide, rfl, rfl, rfl, rfl, Or.inl (List.mem_filter.mpr ⟨t2 (List.mem_of_getElem? (i := 63) rfl), rfl⟩)⟩
theorem gX5_28 : a_flF RX5 28 5 1 1 3 := ⟨_, _, _, _, clX5, by decide, rfl, rfl, rfl, rfl, List.mem_filter.mpr ⟨t2 (List.mem_of_getElem? (i := 63) rfl), rfl⟩⟩
theorem fX5_41 : a_fl RX5 41 5 2 2 3 true := ⟨_, _, _, _, clX5, by decide, rfl, rfl, rfl, rfl, Or.inl (List.mem_filter.mpr ⟨t2 (List.mem_of_getElem? (i := 64) rfl), rfl⟩)⟩
theorem gX5_41 : a_flF RX5 41 5 2 2 3 := ⟨_, _, _, _, clX5, by decide, rfl, rfl, rfl, rfl, List.mem_filter.mpr ⟨t2 (List.mem_of_getElem? (i := 64) rfl), rfl⟩⟩
theorem fX5_9 : a_fl RX5 9 5 3 3 3 true := ⟨_, _, _, _, clX5, by decide, rfl, rfl, rfl, rfl, Or.inl (List.mem_filter.mpr ⟨t2 (List.mem_of_getElem? (i := 65) rfl), rfl⟩)⟩
theorem gX5_9 : a_flF RX5 9 5 3 3 3 := ⟨_, _, _, _, clX5, by decide, rfl, rfl, rfl, rfl, List.mem_filter.mpr ⟨t2 (List.mem_of_getElem? (i := 65) rfl), rfl⟩⟩
theorem fX11_10 : a_fl RX11 10 11 0 0 3 true := ⟨_, _, _, _, clX11, by decide, rfl, rfl, rfl, rfl, Or.inl (List.mem_filter.mpr ⟨t2 (List.mem_of_getElem? (i := 75) rfl), rfl⟩)⟩
theorem gX11_10 : a_flF RX11 10 11 0 0 3 := ⟨_, _, _, _, clX11, by decide, rfl, rfl, rfl, rfl, List.mem_filter.mpr ⟨t2 (List.mem_of_getElem? (i := 75) rfl), rfl⟩⟩
theorem fX11_19 : a_fl RX11 19 11 1 1 3 true := ⟨_, _, _, _, clX11, by decide, rfl, rfl, rfl, rfl, Or.inl (List.mem_filter.mpr ⟨t2 (List.mem_of_getElem? (i := 76) rfl), rfl⟩)⟩
theorem gX11_19 : a_flF RX11 19 11 1 1 3 := ⟨_, _, _, _, clX11, by decide, rfl, rfl, rfl, rfl, List.mem_filter.mpr ⟨t2 (List.mem_of_getElem? (i := 76) rfl), rfl⟩⟩
theorem fX11_28 : a_fl RX11 28 11 2 2 3 true := ⟨_, _, _, _, clX11, by decide, rfl, rfl, rfl, rfl, Or.inl (List.mem_filter.mpr ⟨t2 (List.mem_of_getElem? (i := 77) rfl), rfl⟩)⟩
theorem gX11_28 : a_flF RX11 28 11 2 2 3 := ⟨_, _, _, _, clX11, by decide, rfl, rfl, rfl, rfl, List.mem_filter.mpr ⟨t2 (List.mem_of_getElem? (i := 77) rfl), rfl⟩⟩
theorem fX11_37 : a_fl RX11 37 11 3 3 3 true := ⟨_, _, _, _, clX11, by decide, rfl, rfl, rfl, rfl, Or.inl (List.mem_filter.mpr ⟨t2 (List.mem_of_getElem? (i := 78) rfl), rfl⟩)⟩
theorem gX11_37 : a_flF RX11 37 11 3 3 3 := ⟨_, _, _, _, clX11, by decide, rfl, rfl, rfl, rfl, List.mem_filter.mpr ⟨t2 (List.mem_of_getElem? (i := 78) rfl), rfl⟩⟩
theorem fX11_46 : a_fl RX11 46 11 4 4 3 true := ⟨_, _, _, _, clX11, by decide, rfl, rfl, rfl, rfl, Or.inl (List.mem_filter.mpr ⟨t2 (List.mem_of_getElem? (i := 79) rfl), rfl⟩)⟩
theorem gX11_46 : a_flF RX11 46 11 4 4 3 := ⟨_, _, _, _, clX11, by decide, rfl, rfl, rfl, rfl, List.mem_filter.mpr ⟨t2 (List.mem_of_getElem? (i := 79) rfl), rfl⟩⟩
theorem fX11_55 : a_fl RX11 55 11 5 5 3 true := ⟨_, _, _, _, clX11, by decide, rfl, rfl, rfl, rfl, Or.inl (List.mem_filter.mpr ⟨t2 (List.mem_of_getElem? (i := 80) rfl), rfl⟩)⟩
theorem gX11_55 : a_flF RX11 55 11 5 5 3 := ⟨_, _, _, _, clX11, by decide, rfl, rfl, rfl, rfl, List.mem_filter.mpr ⟨t2 (List.mem_of_getElem? (i := 80) rfl), rfl⟩⟩
theorem fX11_62 : a_fl RX11 62 11 6 6 3 true := ⟨_, _, _, _, clX11, by decide, rfl, rfl, rfl, rfl, Or.inl (List.mem_filter.mpr ⟨t2 (List.mem_of_getElem? (i := 81) rfl), rfl⟩)⟩
theorem gX11_62 : a_flF RX11 62 11 6 6 3 := ⟨_, _, _, _, clX11, by decide, rfl, rfl, rfl, rfl, List.mem_filter.mpr ⟨t2 (List.mem_of_getElem? (i := 81) rfl), rfl⟩⟩
theorem fX11_69 : a_fl RX11 69 11 7 7 3 true := ⟨_, _, _, _, clX11, by decide, rfl, rfl, rfl, rfl, Or.inl (List.mem_filter.mpr ⟨t2 (List.mem_of_getElem? (i := 82) rfl), rfl⟩)⟩
theorem gX11_69 : a_flF RX11 69 11 7 7 3 := ⟨_, _, _, _, clX11, by decide, rfl, rfl, rfl, rfl, List.mem_filter.mpr ⟨t2 (List.mem_of_getElem? (i := 82) rfl), rfl⟩⟩
theorem fX11_73 : a_fl RX11 73 11 8 8 3 true := ⟨_, _, _, _, clX11, by decide, rfl, rfl, rfl, rfl, Or.inl (List.mem_filter.mpr ⟨t2 (List.mem_of_getElem? (i := 83) rfl), rfl⟩)⟩
theorem gX11_73 : a_flF RX11 73 11 8 8 3 := ⟨_, _, _, _, clX11, by decide, rfl, rfl, rfl, rfl, List.mem_filter.mpr ⟨t2 (List.mem_of_getElem? (i := 83) rfl), rfl⟩⟩
theorem fX11_77 : a_fl RX11 77 11 9 9 0 false := ⟨_, _, _, _, clX11, by decide, rfl, rfl, rfl, rfl, Or.inl (List.mem_filter.mpr ⟨t2 (List.mem_of_getElem? (i := 84) rfl), rfl⟩)⟩
theorem fX11_232 : a_fl RX11 232 11 10 10 2 false := ⟨_, _, _, _, clX11, by decide, rfl, rfl, rfl, rfl, Or.inl (List.mem_filter.mpr ⟨t2 (List.mem_of_getElem? (i := 85) rfl), rfl⟩)⟩
theorem sX8_38 : Cond.fieldLink RX8 38 "HoppingMesh$Reader" "RULE_USUAL" "[I" ∈ aG := List.mem_filter.mpr ⟨t2 (List.mem_of_getElem? (i := 144) rfl), rfl⟩
theorem sX8_76 : Cond.fieldLink RX8 76 "HoppingMesh$Reader" "RULE_LEAST" "[I" ∈ aG := List.mem_filter.mpr ⟨t2 (List.mem_of_getElem? (i := 162) rfl), rfl⟩
theorem sX8_79 : Cond.fieldLink RX8 79 "HoppingMesh$Reader" "RULE_MOST" "[I" ∈ aG := List.mem_filter.mpr ⟨t2 (List.mem_of_getElem? (i := 164) rfl), rfl⟩
theorem sX8_86 : Cond.fieldLink RX8 86 "HoppingMesh$Reader" "PAIR_USUAL" "[I" ∈ aG := List.mem_filter.mpr ⟨t3 (List.mem_of_getElem? (i := 24) rfl), rfl⟩
theorem sX8_91 : Cond.fieldLink RX8 91 "HoppingMesh$Reader" "PAIR_LEAST" "[I" ∈ aG := List.mem_filter.mpr ⟨t3 (List.mem_of_getElem? (i := 27) rfl), rfl⟩
theorem sX8_94 : Cond.fieldLink RX8 94 "HoppingMesh$Reader" "PAIR_MOST" "[I" ∈ aG := List.mem_filter.mpr ⟨t3 (List.mem_of_getElem? (i := 29) rfl), rfl⟩
theorem fX12_65 : a_fl RX12 65 12 0 0 0 false := ⟨_, _, _, _, clX12, by decide, rfl, rfl, rfl, rfl, Or.inl (List.mem_filter.mpr ⟨t6 (List.mem_of_getElem? (i := 118) rfl), rfl⟩)⟩
theorem fX12_9 : a_fl RX12 9 12 1 1 3 true := ⟨_, _, _, _, clX12, by decide, rfl, rfl, rfl, rfl, Or.inl (List.mem_filter.mpr ⟨t6 (List.mem_of_getElem? (i := 119) rfl), rfl⟩)⟩
theorem gX12_9 : a_flF RX12 9 12 1 1 3 := ⟨_, _, _, _, clX12, by decide, rfl, rfl, rfl, rfl, List.mem_filter.mpr ⟨t6 (List.mem_of_getElem? (i := 119) rfl), rfl⟩⟩
theorem fX12_72 : a_fl RX12 72 12 2 2 0 false := ⟨_, _, _, _, clX12, by decide, rfl, rfl, rfl, rfl, Or.inl (List.mem_filter.mpr ⟨t6 (List.mem_of_getElem? (i := 120) rfl), rfl⟩)⟩
theorem fX12_79 : a_fl RX12 79 12 3 3 0 false := ⟨_, _, _, _, clX12, by decide, rfl, rfl, rfl, rfl, Or.inl (List.mem_filter.mpr ⟨t6 (List.mem_of_getElem? (i := 121) rfl), rfl⟩)⟩
theorem fX12_86 : a_fl RX12 86 12 4 4 0 false := ⟨_, _, _, _, clX12, by decide, rfl, rfl, rfl, rfl, Or.inl (List.mem_filter.mpr ⟨t6 (List.mem_of_getElem? (i := 122) rfl), rfl⟩)⟩
theorem fX12_13 : a_fl RX12 13 12 5 5 3 true := ⟨_, _, _, _, clX12, by decide, rfl, rfl, rfl, rfl, Or.inl (List.mem_filter.mpr ⟨t6 (List.mem_of_getElem? (i := 123) rfl), rfl⟩)⟩
theorem gX12_13 : a_flF RX12 13 12 5 5 3 := ⟨_, _, _, _, clX12, by decide, rfl, rfl, rfl, rfl, List.mem_filter.mpr ⟨t6 (List.mem_of_getElem? (i := 123) rfl), rfl⟩⟩
theorem fX12_16 : a_fl RX12 16 12 6 6 3 true := ⟨_, _, _, _, clX12, by decide, rfl, rfl, rfl, rfl, Or.inl (List.mem_filter.mpr ⟨t6 (List.mem_of_getElem? (i := 124) rfl), rfl⟩)⟩
theorem gX12_16 : a_flF RX12 16 12 6 6 3 := ⟨_, _, _, _, clX12, by decide, rfl, rfl, rfl, rfl, List.mem_filter.mpr ⟨t6 (List.mem_of_getElem? (i := 124) rfl), rfl⟩⟩
theorem fX12_19 : a_fl RX12 19 12 7 7 3 true := ⟨_, _, _, _, clX12, by decide, rfl, rfl, rfl, rfl, Or.inl (List.mem_filter.mpr ⟨t6 (List.mem_of_getElem? (i := 125) rfl), rfl⟩)⟩
theorem gX12_19 : a_flF RX12 19 12 7 7 3 := ⟨_, _, _, _, clX12, by decide, rfl, rfl, rfl, rfl, List.mem_filter.mpr ⟨t6 (List.mem_of_getElem? (i := 125) rfl), rfl⟩⟩
theorem fX12_119 : a_fl RX12 119 12 8 8 0 false := ⟨_, _, _, _, clX12, by decide, rfl, rfl, rfl, rfl, Or.inl (List.mem_filter.mpr ⟨t6 (List.mem_of_getElem? (i := 126) rfl), rfl⟩)⟩
theorem fX12_130 : a_fl RX12 130 12 9 9 0 false := ⟨_, _, _, _, clX12, by decide, rfl, rfl, rfl, rfl, Or.inl (List.mem_filter.mpr ⟨t6 (List.mem_of_getElem? (i := 127) rfl), rfl⟩)⟩
theorem fX12_22 : a_fl RX12 22 12 10 10 3 true := ⟨_, _, _, _, clX12, by decide, rfl, rfl, rfl, rfl, Or.inl (List.mem_filter.mpr ⟨t6 (List.mem_of_getElem? (i := 128) rfl), rfl⟩)⟩
theorem gX12_22 : a_flF RX12 22 12 10 10 3 := ⟨_, _, _, _, clX12, by decide, rfl, rfl, rfl, rfl, List.mem_filter.mpr ⟨t6 (List.mem_of_getElem? (i := 128) rfl), rfl⟩⟩
theorem fX12_25 : a_fl RX12 25 12 11 11 3 true := ⟨_, _, _, _, clX12, by decide, rfl, rfl, rfl, rfl, Or.inl (List.mem_filter.mpr ⟨t6 (List.mem_of_getElem? (i := 129) rfl), rfl⟩)⟩
theorem gX12_25 : a_flF RX12 25 12 11 11 3 := ⟨_, _, _, _, clX12, by decide, rfl, rfl, rfl, rfl, List.mem_filter.mpr ⟨t6 (List.mem_of_getElem? (i := 129) rfl), rfl⟩⟩
theorem fX12_28 : a_fl RX12 28 12 12 12 3 true := ⟨_, _, _, _, clX12, by decide, rfl, rfl, rfl, rfl, Or.inl (List.mem_filter.mpr ⟨t6 (List.mem_of_getElem? (i := 130) rfl), rfl⟩)⟩
theorem gX12_28 : a_flF RX12 28 12 12 12 3 := ⟨_, _, _, _, clX12, by decide, rfl, rfl, rfl, rfl, List.mem_filter.mpr ⟨t6 (List.mem_of_getElem? (i := 130) rfl), rfl⟩⟩
theorem fX12_138 : a_fl RX12 138 12 13 13 0 false := ⟨_, _, _, _, clX12, by decide, rfl, rfl, rfl, rfl, Or.inl (List.mem_filter.mpr ⟨t6 (List.mem_of_getElem? (i := 131) rfl), rfl⟩)⟩
theorem fX12_152 : a_fl RX12 152 12 14 14 0 false := ⟨_, _, _, _, clX12, by decide, rfl, rfl, rfl, rfl, Or.inl (List.mem_filter.mpr ⟨t6 (List.mem_of_getElem? (i := 132) rfl), rfl⟩)⟩
theorem fX12_31 : a_fl RX12 31 12 15 15 3 true := ⟨_, _, _, _, clX12, by decide, rfl, rfl, rfl, rfl, Or.inl (List.mem_filter.mpr ⟨t6 (List.mem_of_getElem? (i := 133) rfl), rfl⟩)⟩
theorem gX12_31 : a_flF RX12 31 12 15 15 3 := ⟨_, _, _, _, clX12, by decide, rfl, rfl, rfl, rfl, List.mem_filter.mpr ⟨t6 (List.mem_of_getElem? (i := 133) rfl), rfl⟩⟩
theorem fX12_34 : a_fl RX12 34 12 16 16 3 true := ⟨_, _, _, _, clX12, by decide, rfl, rfl, rfl, rfl, Or.inl (List.mem_filter.mpr ⟨t6 (List.mem_of_getElem? (i := 134) rfl), rfl⟩)⟩
theorem gX12_34 : a_flF RX12 34 12 16 16 3 := ⟨_, _, _, _, clX12, by decide, rfl, rfl, rfl, rfl, List.mem_filter.mpr ⟨t6 (List.mem_of_getElem? (i := 134) rfl), rfl⟩⟩
theorem fX12_37 : a_fl RX12 37 12 17 17 0 false := ⟨_, _, _, _, clX12, by decide, rfl, rfl, rfl, rfl, Or.inl (List.mem_filter.mpr ⟨t6 (List.mem_of_getElem? (i := 135) rfl), rfl⟩)⟩
theorem fX12_41 : a_fl RX12 41 12 18 18 3 true := ⟨_, _, _, _, clX12, by decide, rfl, rfl, rfl, rfl, Or.inl (List.mem_filter.mpr ⟨t6 (List.mem_of_getElem? (i := 136) rfl), rfl⟩)⟩
theorem gX12_41 : a_flF RX12 41 12 18 18 3 := ⟨_, _, _, _, clX12, by decide, rfl, rfl, rfl, rfl, List.mem_filter.mpr ⟨t6 (List.mem_of_getElem? (i := 136) rfl), rfl⟩⟩
theorem fX12_274 : a_fl RX12 274 12 19 19 0 false := ⟨_, _, _, _, clX12, by decide, rfl, rfl, rfl, rfl, Or.inl (List.mem_filter.mpr ⟨t6 (List.mem_of_getElem? (i := 137) rfl), rfl⟩)⟩
theorem fX12_44 : a_fl RX12 44 12 20 20 3 true := ⟨_, _, _, _, clX12, by decide, rfl, rfl, rfl, rfl, Or.inl (List.mem_filter.mpr ⟨t6 (List.mem_of_getElem? (i := 138) rfl), rfl⟩)⟩
theorem gX12_44 : a_flF RX12 44 12 20 20 3 := ⟨_, _, _, _, clX12, by decide, rfl, rfl, rfl, rfl, List.mem_filter.mpr ⟨t6 (List.mem_of_getElem? (i := 138) rfl), rfl⟩⟩
theorem fX12_47 : a_fl RX12 47 12 21 21 3 true := ⟨_, _, _, _, clX12, by decide, rfl, rfl, rfl, rfl, Or.inl (List.mem_filter.mpr ⟨t6 (List.mem_of_getElem? (i := 139) rfl), rfl⟩)⟩
theorem gX12_47 : a_flF RX12 47 12 21 21 3 := ⟨_, _, _, _, clX12, by decide, rfl, rfl, rfl, rfl, List.mem_filter.mpr ⟨t6 (List.mem_of_getElem? (i := 139) rfl), rfl⟩⟩
theorem fX12_218 : a_fl RX12 218 12 22 22 0 false := ⟨_, _, _, _, clX12, by decide, rfl, rfl, rfl, rfl, Or.inl (List.mem_filter.mpr ⟨t6 (List.mem_of_getElem? (i := 140) rfl), rfl⟩)⟩
theorem fX12_50 : a_fl RX12 50 12 23 23 3 true := ⟨_, _, _, _, clX12, by decide, rfl, rfl, rfl, rfl, Or.inl (List.mem_filter.mpr ⟨t6 (List.mem_of_getElem? (i := 141) rfl), rfl⟩)⟩
theorem gX12_50 : a_flF RX12 50 12 23 23 3 := ⟨_, _, _, _, clX12, by decide, rfl, rfl, rfl, rfl, List.mem_filter.mpr ⟨t6 (List.mem_of_getElem? (i := 141) rfl), rfl⟩⟩
theorem fX12_53 : a_fl RX12 53 12 24 24 3 true := ⟨_, _, _, _, clX12, by decide, rfl, rfl, rfl, rfl, Or.inl (List.mem_filter.mpr ⟨t6 (List.mem_of_getElem? (i := 142) rfl), rfl⟩)⟩
theorem gX12_53 : a_flF RX12 53 12 24 24 3 := ⟨_, _, _, _, clX12, by decide, rfl, rfl, rfl, rfl, List.mem_filter.mpr ⟨t6 (List.mem_of_getElem? (i := 142) rfl), rfl⟩⟩
theorem fX12_145 : a_fl RX12 145 12 25 25 0 false := ⟨_, _, _, _, clX12, by decide, rfl, rfl, rfl, rfl, Or.inl (List.mem_filter.mpr ⟨t6 (List.mem_of_getElem? (i := 143) rfl), rfl⟩)⟩
theorem fX12_334 : a_fl RX12 334 12 26 26 2 false := ⟨_, _, _, _, clX12, by decide, rfl, rfl, rfl, rfl, Or.inl (List.mem_filter.mpr ⟨t6 (List.mem_of_getElem? (i := 144) rfl), rfl⟩)⟩
theorem fX12_56 : a_fl RX12 56 12 27 27 3 true := ⟨_, _, _, _, clX12, by decide, rfl, rfl, rfl, rfl, Or.inl (List.mem_filter.mpr ⟨t6 (List.mem_of_getElem? (i := 145) rfl), rfl⟩)⟩
theorem gX12_56 : a_flF RX12 56 12 27 27 3 := ⟨_, _, _, _, clX12, by decide, rfl, rfl, rfl, rfl, List.mem_filter.mpr ⟨t6 (List.mem_of_getElem? (i := 145) rfl), rfl⟩⟩
theorem fX12_59 : a_fl RX12 59 12 28 28 3 true := ⟨_, _, _, _, clX12, by decide, rfl, rfl, rfl, rfl, Or.inl (List.mem_filter.mpr ⟨t6 (List.mem_of_getElem? (i := 146) rfl), rfl⟩)⟩
theorem gX12_59 : a_flF RX12 59 12 28 28 3 := ⟨_, _, _, _, clX12, by decide, rfl, rfl, rfl, rfl, List.mem_filter.mpr ⟨t6 (List.mem_of_getElem? (i := 146) rfl), rfl⟩⟩
theorem fX12_62 : a_fl RX12 62 12 29 29 3 true := ⟨_, _, _, _, clX12, by decide, rfl, rfl, rfl, rfl, Or.inl (List.mem_filter.mpr ⟨t6 (List.mem_of_getElem? (i := 147) rfl), rfl⟩)⟩
theorem gX12_62 : a_flF RX12 62 12 29 29 3 := ⟨_, _, _, _, clX12, by decide, rfl, rfl, rfl, rfl, List.mem_filter.mpr ⟨t6 (List.mem_of_getElem? (i := 147) rfl), rfl⟩⟩
theorem fX12_148 : a_fl RX12 148 12 30 30 1 false := ⟨_, _, _, _, clX12, by decide, rfl, rfl, rfl, rfl, Or.inl (List.mem_filter.mpr ⟨t6 (List.mem_of_getElem? (i := 148) rfl), rfl⟩)⟩
def mX11_init : aMth := (yX11_init, cX11_init, 1, none)
theorem iniX11 : Cond.initialized RX11 ∈ aG := List.mem_filter.mpr ⟨t1 (List.mem_of_getElem? (i := 1) rfl), rfl⟩
theorem neqX11 : RX11 ≠ "java/lang/invoke/MethodHandle" ∧ RX11 ≠ "java/lang/invoke/VarHandle" := ⟨by decide +kernel, by decide +kernel⟩
theorem plnX11 : plainName RX11 = true := by decide +kernel
theorem kX11_init : a_lnk mX11_init 0 := ⟨plainFor_of_name plnX11, neqX11, by decide +kernel, iniX11, List.mem_filter.mpr ⟨t1 (List.mem_of_getElem? (i := 31) rfl), rfl⟩, by decide⟩
def mX10_init : aMth := (yX10_init, cX10_init, 1, none)
theorem iniX10 : Cond.initialized RX10 ∈ aG := List.mem_filter.mpr ⟨t1 (List.mem_of_getElem? (i := 2) rfl), rfl⟩
theorem neqX10 : RX10 ≠ "java/lang/invoke/MethodHandle" ∧ RX10 ≠ "java/lang/invoke/VarHandle" := ⟨by decide +kernel, by decide +kernel⟩
theorem plnX10 : plainName RX10 = true := by decide +kernel
theorem kX10_init : a_lnk mX10_init 0 := ⟨plainFor_of_name plnX10, neqX10, by decide +kernel, iniX10, List.mem_filter.mpr ⟨t1 (List.mem_of_getElem? (i := 39) rfl), rfl⟩, by decide⟩
def mX7_init : aMth := (yX7_init, cX7_init, 1, none)
theorem iniX7 : Cond.initialized RX7 ∈ aG := List.mem_filter.mpr ⟨t1 (List.mem_of_getElem? (i := 3) rfl), rfl⟩
theorem neqX7 : RX7 ≠ "java/lang/invoke/MethodHandle" ∧ RX7 ≠ "java/lang/invoke/VarHandle" := ⟨by decide +kernel, by decide +kernel⟩
theorem plnX7 : plainName RX7 = true := by decide +kernel
theorem kX7_init : a_lnk mX7_init 0 := ⟨plainFor_of_name plnX7, neqX7, by decide +kernel, iniX7, List.mem_filter.mpr ⟨t1 (List.mem_of_getElem? (i := 53) rfl), rfl⟩, by decide⟩
def mX8_init : aMth := (yX8_init, cX8_init, 2, none)
theorem iniX8 : Cond.initialized RX8 ∈ aG := List.mem_filter.mpr ⟨t1 (List.mem_of_getElem? (i := 4) rfl), rfl⟩
theorem neqX8 : RX8 ≠ "java/lang/invoke/MethodHandle" ∧ RX8 ≠ "java/lang/invoke/VarHandle" := ⟨by decide +kernel, by decide +kernel⟩
theorem plnX8 : plainName RX8 = true := by decide +kernel
theorem kX8_init : a_lnk mX8_init 1 := ⟨plainFor_of_name plnX8, neqX8, by decide +kernel, iniX8, List.mem_filter.mpr ⟨t1 (List.mem_of_getElem? (i := 75) rfl), rfl⟩, by decide⟩
def mX4_init : aMth := (yX4_init, cX4_init, 3, none)
theorem iniX4 : Cond.initialized RX4 ∈ aG := List.mem_filter.mpr ⟨t1 (List.mem_of_getElem? (i := 5) rfl), rfl⟩
theorem neqX4 : RX4 ≠ "java/lang/invoke/MethodHandle" ∧ RX4 ≠ "java/lang/invoke/VarHandle" := ⟨by decide +kernel, by decide +kernel⟩
theorem plnX4 : plainName RX4 = true := by decide +kernel
theorem kX4_init : a_lnk mX4_init 1 := ⟨plainFor_of_name plnX4, neqX4, by decide +kernel, iniX4, List.mem_filter.mpr ⟨t1 (List.mem_of_getElem? (i := 114) rfl), rfl⟩, by decide⟩
def mX3_init : aMth := (yX3_init, cX3_init, 4, none)
theorem iniX3 : Cond.initialized RX3 ∈ aG := List.mem_filter.mpr ⟨t1 (List.mem_of_getElem? (i := 6) rfl), rfl⟩
theorem neqX3 : RX3 ≠ "java/lang/invoke/MethodHandle" ∧ RX3 ≠ "java/lang/invoke/VarHandle" := ⟨by decide +kernel, by decide +kernel⟩
theorem plnX3 : plainName RX3 = true := by decide +kernel
theorem kX3_init : a_lnk mX3_init 3 := ⟨plainFor_of_name plnX3, neqX3, by decide +kernel, iniX3, List.mem_filter.mpr ⟨t1 (List.mem_of_getElem? (i := 121) rfl), rfl⟩, by decide⟩
def mX9_init : aMth := (yX9_init, cX9_init, 3, none)
theorem iniX9 : Cond.initialized RX9 ∈ aG := List.mem_filter.mpr ⟨t1 (List.mem_of_getElem? (i := 7) rfl), rfl⟩
theorem neqX9 : RX9 ≠ "java/lang/invoke/MethodHandle" ∧ RX9 ≠ "java/lang/invoke/VarHandle" := ⟨by decide +kernel, by decide +kernel⟩
theorem plnX9 : plainName RX9 = true := by decide +kernel
theorem kX9_init : a_lnk mX9_init 2 := ⟨plainFor_of_name plnX9, neqX9, by decide +kernel, iniX9, List.mem_filter.mpr ⟨t1 (List.mem_of_getElem? (i := 127) rfl), rfl⟩, by decide⟩
def mX2_init : aMth := (yX2_init, cX2_init, 3, none)
theorem iniX2 : Cond.initialized RX2 ∈ aG := List.mem_filter.mpr ⟨t1 (List.mem_of_getElem? (i := 8) rfl), rfl⟩
theorem neqX2 : RX2 ≠ "java/lang/invoke/MethodHandle" ∧ RX2 ≠ "java/lang/invoke/VarHandle" := ⟨by decide +kernel, by decide +kernel⟩
theorem plnX2 : plainName RX2 = true := by decide +kernel
theorem kX2_init : a_lnk mX2_init 2 := ⟨plainFor_of_name plnX2, neqX2, by decide +kernel, iniX2, List.mem_filter.mpr ⟨t1 (List.mem_of_getElem? (i := 140) rfl), rfl⟩, by decide⟩
def mX1_init : aMth := (yX1_init, cX1_init, 2, none)
theorem iniX1 : Cond.initialized RX1 ∈ aG := List.mem_filter.mpr ⟨t1 (List.mem_of_getElem? (i := 9) rfl), rfl⟩
theorem neqX1 : RX1 ≠ "java/lang/invoke/MethodHandle" ∧ RX1 ≠ "java/lang/invoke/VarHandle" := ⟨by decide +kernel, by decide +kernel⟩
theorem plnX1 : plainName RX1 = true := by decide +kernel
theorem kX1_init : a_lnk mX1_init 1 := ⟨plainFor_of_name plnX1, neqX1, by decide +kernel, iniX1, List.mem_filter.mpr ⟨t1 (List.mem_of_getElem? (i := 205) rfl), rfl⟩, by decide⟩
def mX0_init : aMth := (yX0_init, cX0_init, 3, none)
theorem iniX0 : Cond.initialized RX0 ∈ aG := List.mem_filter.mpr ⟨t1 (List.mem_of_getElem? (i := 10) rfl), rfl⟩
theorem neqX0 : RX0 ≠ "java/lang/invoke/MethodHandle" ∧ RX0 ≠ "java/lang/invoke/VarHandle" := ⟨by decide +kernel, by decide +kernel⟩
theorem plnX0 : plainName RX0 = true := by decide +kernel
theorem kX0_init : a_lnk mX0_init 2 := ⟨plainFor_of_name plnX0, neqX0, by decide +kernel, iniX0, List.mem_filter.mpr ⟨t1 (List.mem_of_getElem? (i := 230) rfl), rfl⟩, by decide⟩
def mX6_init : aMth := (yX6_init, cX6_init, 1, none)
theorem iniX6 : Cond.initialized RX6 ∈ aG := List.mem_filter.mpr ⟨t1 (List.mem_of_getElem? (i := 11) rfl), rfl⟩
theorem neqX6 : RX6 ≠ "java/lang/invoke/MethodHandle" ∧ RX6 ≠ "java/lang/invoke/VarHandle" := ⟨by decide +kernel, by decide +kernel⟩
theorem plnX6 : plainName RX6 = true := by decide +kernel
theorem kX6_init : a_lnk mX6_init 0 := ⟨plainFor_of_name plnX6, neqX6, by decide +kernel, iniX6, List.mem_filter.mpr ⟨t2 (List.mem_of_getElem? (i := 15) rfl), rfl⟩, by decide⟩
def mX5_init : aMth := (yX5_init, cX5_init, 2, none)
theorem iniX5 : Cond.initialized RX5 ∈ aG := List.mem_filter.mpr ⟨t1 (List.mem_of_getElem? (i := 12) rfl), rfl⟩
theorem neqX5 : RX5 ≠ "java/lang/invoke/MethodHandle" ∧ RX5 ≠ "java/lang/invoke/VarHandle" := ⟨by decide +kernel, by decide +kernel⟩
theorem plnX5 : plainName RX5 = true := by decide +kernel
theorem kX5_init : a_lnk mX5_init 1 := ⟨plainFor_of_name plnX5, neqX5, by decide +kernel, iniX5, List.mem_filter.mpr ⟨t2 (List.mem_of_getElem? (i := 54) rfl), rfl⟩, by decide⟩
def mX11_feed : aMth := (yX11_feed, cX11_feed, 7, (some .int))
theorem kX11_feed : a_lnk mX11_feed 5 := ⟨plainFor_of_name plnX11, neqX11, by decide +kernel, iniX11, List.mem_filter.mpr ⟨t2 (List.mem_of_getElem? (i := 112) rfl), rfl⟩, by decide⟩
def mX10_signsIn : aMth := (yX10_signsIn, cX10_signsIn, 3, (some .int))
theorem kX10_signsIn : a_lnk mX10_signsIn 1 := ⟨plainFor_of_name plnX10, neqX10, by decide +kernel, iniX10, List.mem_filter.mpr ⟨t2 (List.mem_of_getElem? (i := 115) rfl), rfl⟩, by decide⟩
def mX10_hasRoom : aMth := (yX10_hasRoom, cX10_hasRoom, 2, (some .boolean))
theorem kX10_hasRoom : a_lnk mX10_hasRoom 1 := ⟨plainFor_of_name plnX10, neqX10, by decide +kernel, iniX10, List.mem_filter.mpr ⟨t2 (List.mem_of_getElem? (i := 119) rfl), rfl⟩, by decide⟩
def mX10_append : aMth := (yX10_append, cX10_append, 4, none)
theorem kX10_append : a_lnk mX10_append 1 := ⟨plainFor_of_name plnX10, neqX10, by decide +kernel, iniX10, List.mem_filter.mpr ⟨t2 (List.mem_of_getElem? (i := 123) rfl), rfl⟩, by decide⟩
def mX10_size : aMth := (yX10_size, cX10_size, 1, (some .int))
theorem kX10_size : a_lnk mX10_size 0 := ⟨plainFor_of_name plnX10, neqX10, by decide +kernel, iniX10, List.mem_filter.mpr ⟨t2 (List.mem_of_getElem? (i := 127) rfl), rfl⟩, by decide⟩
def mX11_end : aMth := (yX11_end, cX11_end, 2, (some .boolean))
theorem kX11_end : a_lnk mX11_end 1 := ⟨plainFor_of_name plnX11, neqX11, by decide +kernel, iniX11, List.mem_filter.mpr ⟨t2 (List.mem_of_getElem? (i := 131) rfl), rfl⟩, by decide⟩
def mX10_cutTo : aMth := (yX10_cutTo, cX10_cutTo, 2, (some .boolean))
theorem kX10_cutTo : a_lnk mX10_cutTo 1 := ⟨plainFor_of_name plnX10, neqX10, by decide +kernel, iniX10, List.mem_filter.mpr ⟨t2 (List.mem_of_getElem? (i := 135) rfl), rfl⟩, by decide⟩
def mX11_fault : aMth := (yX11_fault, cX11_fault, 2, (some .int))
theorem kX11_fault : a_lnk mX11_fault 1 := ⟨plainFor_of_name plnX11, neqX11, by decide +kernel, iniX11, List.mem_filter.mpr ⟨t2 (List.mem_of_getElem? (i := 139) rfl), rfl⟩, by decide⟩
def mX8_meshFault : aMth := (yX8_meshFault, cX8_meshFault, 3, (some .int))
theorem kX8_meshFault : a_lnk mX8_meshFault 0 := ⟨plainFor_of_name plnX8, neqX8, by decide +kernel, iniX8, List.mem_filter.mpr ⟨t2 (List.mem_of_getElem? (i := 143) rfl), rfl⟩, by decide⟩
def mX8_readClause : aMth := (yX8_readClause, cX8_readClause, 3, (some .int))
theorem kX8_readClause : a_lnk mX8_readClause 0 := ⟨plainFor_of_name plnX8, neqX8, by decide +kernel, iniX8, List.mem_filter.mpr ⟨t2 (List.mem_of_getElem? (i := 152) rfl), rfl⟩, by decide⟩
def mX8_skipBlanks : aMth := (yX8_skipBlanks, cX8_skipBlanks, 2, none)
theorem kX8_skipBlanks : a_lnk mX8_skipBlanks 0 := ⟨plainFor_of_name plnX8, neqX8, by decide +kernel, iniX8, List.mem_filter.mpr ⟨t2 (List.mem_of_getElem? (i := 156) rfl), rfl⟩, by decide⟩
def mX10_signAt : aMth := (yX10_signAt, cX10_signAt, 2, (some .int))
theorem kX10_signAt : a_lnk mX10_signAt 1 := ⟨plainFor_of_name plnX10, neqX10, by decide +kernel, iniX10, List.mem_filter.mpr ⟨t2 (List.mem_of_getElem? (i := 160) rfl), rfl⟩, by decide⟩
def mX8_readItems : aMth := (yX8_readItems, cX8_readItems, 11, (some .int))
theorem kX8_readItems : a_lnk mX8_readItems 5 := ⟨plainFor_of_name plnX8, neqX8, by decide +kernel, iniX8, List.mem_filter.mpr ⟨t2 (List.mem_of_getElem? (i := 169) rfl), rfl⟩, by decide⟩
def mJ0_length_8abf5 : aMth := (yJ0_length_8abf5, cJ0_length_8abf5, 1, (some .int))
theorem iniJ0 : Cond.initialized RJ0 ∈ aG := List.mem_filter.mpr ⟨t1 (List.mem_of_getElem? (i := 15) rfl), rfl⟩
theorem neqJ0 : RJ0 ≠ "java/lang/invoke/MethodHandle" ∧ RJ0 ≠ "java/lang/invoke/VarHandle" := ⟨by decide +kernel, by decide +kernel⟩
theorem kJ0_length_8abf5 : a_lnk mJ0_length_8abf5 0 := ⟨by decide +kernel, neqJ0, by decide +kernel, iniJ0, List.mem_filter.mpr ⟨t2 (List.mem_of_getElem? (i := 173) rfl), rfl⟩, by decide⟩
def mJ0_coder_7d493 : aMth := (yJ0_coder_7d493, cJ0_coder_7d493, 1, (some .byte))
theorem kJ0_coder_7d493 : a_lnk mJ0_coder_7d493 0 := ⟨by decide +kernel, neqJ0, by decide +kernel, iniJ0, List.mem_filter.mpr ⟨t2 (List.mem_of_getElem? (i := 177) rfl), rfl⟩, by decide⟩
def mJ0_indexOf_0f7a4 : aMth := (yJ0_indexOf_0f7a4, cJ0_indexOf_0f7a4, 2, (some .int))
theorem kJ0_indexOf_0f7a4 : a_lnk mJ0_indexOf_0f7a4 1 := ⟨by decide +kernel, neqJ0, by decide +kernel, iniJ0, List.mem_filter.mpr ⟨t2 (List.mem_of_getElem? (i := 183) rfl), rfl⟩, by decide⟩
def mJ0_indexOf_7cf53 : aMth := (yJ0_indexOf_7cf53, cJ0_indexOf_7cf53, 3, (some .int))
theorem kJ0_indexOf_7cf53 : a_lnk mJ0_indexOf_7cf53 2 := ⟨by decide +kernel, neqJ0, by decide +kernel, iniJ0, List.mem_filter.mpr ⟨t2 (List.mem_of_getElem? (i := 187) rfl), rfl⟩, by decide⟩
def mJ0_isLatin1_aae02 : aMth := (yJ0_isLatin1_aae02, cJ0_isLatin1_aae02, 1, (some .boolean))
theorem kJ0_isLatin1_aae02 : a_lnk mJ0_isLatin1_aae02 0 := ⟨by decide +kernel, neqJ0, by decide +kernel, iniJ0, List.mem_filter.mpr ⟨t2 (List.mem_of_getElem? (i := 191) rfl), rfl⟩, by decide⟩
def mJ1_indexOf_4cfef : aMth := (yJ1_indexOf_4cfef, cJ1_indexOf_4cfef, 4, (some .int))
theorem iniJ1 : Cond.initialized RJ1 ∈ aG := List.mem_filter.mpr ⟨t1 (List.mem_of_getElem? (i := 16) rfl), rfl⟩
theorem neqJ1 : RJ1 ≠ "java/lang/invoke/MethodHandle" ∧ RJ1 ≠ "java/lang/invoke/VarHandle" := ⟨by decide +kernel, by decide +kernel⟩
theorem kJ1_indexOf_4cfef : a_lnk mJ1_indexOf_4cfef 4 := ⟨by decide +kernel, neqJ1, by decide +kernel, iniJ1, List.mem_filter.mpr ⟨t2 (List.mem_of_getElem? (i := 195) rfl), rfl⟩, by decide⟩
def mJ1_canEncode_9a6ad : aMth := (yJ1_canEncode_9a6ad, cJ1_canEncode_9a6ad, 1, (some .boolean))
theorem kJ1_canEncode_9a6ad : a_lnk mJ1_canEncode_9a6ad 1 := ⟨by decide +kernel, neqJ1, by decide +kernel, iniJ1, List.mem_filter.mpr ⟨t2 (List.mem_of_getElem? (i := 198) rfl), rfl⟩, by decide⟩
def mJ9_max_7cf53 : aMth := (yJ9_max_7cf53, cJ9_max_7cf53, 2, (some .int))
theorem iniJ9 : Cond.initialized RJ9 ∈ aG := List.mem_filter.mpr ⟨t1 (List.mem_of_getElem? (i := 17) rfl), rfl⟩
theorem neqJ9 : RJ9 ≠ "java/lang/invoke/MethodHandle" ∧ RJ9 ≠ "java/lang/invoke/VarHandle" := ⟨by decide +kernel, by decide +kernel⟩
theorem kJ9_max_7cf53 : a_lnk mJ9_max_7cf53 2 := ⟨by decide +kernel, neqJ9, by decide +kernel, iniJ9, List.mem_filter.mpr ⟨t2 (List.mem_of_getElem? (i := 201) rfl), rfl⟩, by decide⟩
def mJ9_min_7cf53 : aMth := (yJ9_min_7cf53, cJ9_min_7cf53, 2, (some .int))
theorem kJ9_min_7cf53 : a_lnk mJ9_min_7cf53 2 := ⟨by decide +kernel, neqJ9, by decide +kernel, iniJ9, List.mem_filter.mpr ⟨t2 (List.mem_of_getElem? (i := 204) rfl), rfl⟩, by decide⟩
def mJ1_indexOfChar_4cfef : aMth := (yJ1_indexOfChar_4cfef, cJ1_indexOfChar_4cfef, 6, (some .int))
theorem kJ1_indexOfChar_4cfef : a_lnk mJ1_indexOfChar_4cfef 4 := ⟨by decide +kernel, neqJ1, by decide +kernel, iniJ1, List.mem_filter.mpr ⟨t2 (List.mem_of_getElem? (i := 207) rfl), rfl⟩, by decide⟩
def mJ2_indexOf_4cfef : aMth := (yJ2_indexOf_4cfef, cJ2_indexOf_4cfef, 4, (some .int))
theorem iniJ2 : Cond.initialized RJ2 ∈ aG := List.mem_filter.mpr ⟨t1 (List.mem_of_getElem? (i := 18) rfl), rfl⟩
theorem neqJ2 : RJ2 ≠ "java/lang/invoke/MethodHandle" ∧ RJ2 ≠ "java/lang/invoke/VarHandle" := ⟨by decide +kernel, by decide +kernel⟩
theorem kJ2_indexOf_4cfef : a_lnk mJ2_indexOf_4cfef 4 := ⟨by decide +kernel, neqJ2, by decide +kernel, iniJ2, List.mem_filter.mpr ⟨t2 (List.mem_of_getElem? (i := 210) rfl), rfl⟩, by decide⟩
def mJ2_indexOfChar_4cfef : aMth := (yJ2_indexOfChar_4cfef, cJ2_indexOfChar_4cfef, 4, (some .int))
theorem kJ2_indexOfChar_4cfef : a_lnk mJ2_indexOfChar_4cfef 4 := ⟨by decide +kernel, neqJ2, by decide +kernel, iniJ2, List.mem_filter.mpr ⟨t2 (List.mem_of_getElem? (i := 216) rfl), rfl⟩, by decide⟩
def mJ2_checkBoundsBeginEnd_d044e : aMth := (yJ2_checkBoundsBeginEnd_d044e, cJ2_checkBoundsBeginEnd_d044e, 3, none)
theorem kJ2_checkBoundsBeginEnd_d044e : a_lnk mJ2_checkBoundsBeginEnd_d044e 3 := ⟨by decide +kernel, neqJ2, by decide +kernel, iniJ2, List.mem_filter.mpr ⟨t2 (List.mem_of_getElem? (i := 219) rfl), rfl⟩, by decide⟩
def mJ2_length_9d52b : aMth := (yJ2_length_9d52b, cJ2_length_9d52b, 1, (some .int))
theorem kJ2_length_9d52b : a_lnk mJ2_length_9d52b 1 := ⟨by decide +kernel, neqJ2, by decide +kernel, iniJ2, List.mem_filter.mpr ⟨t2 (List.mem_of_getElem? (i := 222) rfl), rfl⟩, by decide⟩
def mJ0_checkBoundsBeginEnd_23922 : aMth := (yJ0_checkBoundsBeginEnd_23922, cJ0_checkBoundsBeginEnd_23922, 3, none)
theorem kJ0_checkBoundsBeginEnd_23922 : a_lnk mJ0_checkBoundsBeginEnd_23922 3 := ⟨by decide +kernel, neqJ0, by decide +kernel, iniJ0, List.mem_filter.mpr ⟨t2 (List.mem_of_getElem? (i := 225) rfl), rfl⟩, by decide⟩
def mJ3_checkFromToIndex_8c36e : aMth := (yJ3_checkFromToIndex_8c36e, cJ3_checkFromToIndex_8c36e, 4, (some .int))
theorem iniJ3 : Cond.initialized RJ3 ∈ aG := List.mem_filter.mpr ⟨t1 (List.mem_of_getElem? (i := 19) rfl), rfl⟩
theorem neqJ3 : RJ3 ≠ "java/lang/invoke/MethodHandle" ∧ RJ3 ≠ "java/lang/invoke/VarHandle" := ⟨by decide +kernel, by decide +kernel⟩
theorem kJ3_checkFromToIndex_8c36e : a_lnk mJ3_checkFromToIndex_8c36e 4 := ⟨by decide +kernel, neqJ3, by decide +kernel, iniJ3, List.mem_filter.mpr ⟨t2 (List.mem_of_getElem? (i := 230) rfl), rfl⟩, by decide⟩
def mJ2_indexOfCharUnsafe_4cfef : aMth := (yJ2_indexOfCharUnsafe_4cfef, cJ2_indexOfCharUnsafe_4cfef, 5, (some .int))
theorem kJ2_indexOfCharUnsafe_4cfef : a_lnk mJ2_indexOfCharUnsafe_4cfef 4 := ⟨by decide +kernel, neqJ2, by decide +kernel, iniJ2, List.mem_filter.mpr ⟨t2 (List.mem_of_getElem? (i := 233) rfl), rfl⟩, by decide⟩
def mJ2_getChar_3b067 : aMth := (yJ2_getChar_3b067, cJ2_getChar_3b067, 2, (some .char))
theorem kJ2_getChar_3b067 : a_lnk mJ2_getChar_3b067 2 := ⟨by decide +kernel, neqJ2, by decide +kernel, iniJ2, List.mem_filter.mpr ⟨t2 (List.mem_of_getElem? (i := 236) rfl), rfl⟩, by decide⟩
def mJ2_indexOfSupplementary_4cfef : aMth := (yJ2_indexOfSupplementary_4cfef, cJ2_indexOfSupplementary_4cfef, 7, (some .int))
theorem kJ2_indexOfSupplementary_4cfef : a_lnk mJ2_indexOfSupplementary_4cfef 4 := ⟨by decide +kernel, neqJ2, by decide +kernel, iniJ2, List.mem_filter.mpr ⟨t3 (List.mem_of_getElem? (i := 5) rfl), rfl⟩, by decide⟩
def mJ11_isValidCodePoint_9a6ad : aMth := (yJ11_isValidCodePoint_9a6ad, cJ11_isValidCodePoint_9a6ad, 2, (some .boolean))
theorem iniJ11 : Cond.initialized RJ11 ∈ aG := List.mem_filter.mpr ⟨t1 (List.mem_of_getElem? (i := 20) rfl), rfl⟩
theorem neqJ11 : RJ11 ≠ "java/lang/invoke/MethodHandle" ∧ RJ11 ≠ "java/lang/invoke/VarHandle" := ⟨by decide +kernel, by decide +kernel⟩
theorem kJ11_isValidCodePoint_9a6ad : a_lnk mJ11_isValidCodePoint_9a6ad 1 := ⟨by decide +kernel, neqJ11, by decide +kernel, iniJ11, List.mem_filter.mpr ⟨t3 (List.mem_of_getElem? (i := 8) rfl), rfl⟩, by decide⟩
def mJ11_highSurrogate_5068e : aMth := (yJ11_highSurrogate_5068e, cJ11_highSurrogate_5068e, 1, (some .char))
theorem kJ11_highSurrogate_5068e : a_lnk mJ11_highSurrogate_5068e 1 := ⟨by decide +kernel, neqJ11, by decide +kernel, iniJ11, List.mem_filter.mpr ⟨t3 (List.mem_of_getElem? (i := 11) rfl), rfl⟩, by decide⟩
def mJ11_lowSurrogate_5068e : aMth := (yJ11_lowSurrogate_5068e, cJ11_lowSurrogate_5068e, 1, (some .char))
theorem kJ11_lowSurrogate_5068e : a_lnk mJ11_lowSurrogate_5068e 1 := ⟨by decide +kernel, neqJ11, by decide +kernel, iniJ11, List.mem_filter.mpr ⟨t3 (List.mem_of_getElem? (i := 15) rfl), rfl⟩, by decide⟩
def mX8_readNumber : aMth := (yX8_readNumber, cX8_readNumber, 5, (some .int))
theorem kX8_readNumber : a_lnk mX8_readNumber 2 := ⟨plainFor_of_name plnX8, neqX8, by decide +kernel, iniX8, List.mem_filter.mpr ⟨t3 (List.mem_of_getElem? (i := 20) rfl), rfl⟩, by decide⟩
def mX8_isDigit : aMth := (yX8_isDigit, cX8_isDigit, 1, (some .boolean))
theorem kX8_isDigit : a_lnk mX8_isDigit 1 := ⟨plainFor_of_name plnX8, neqX8, by decide +kernel, iniX8, List.mem_filter.mpr ⟨t3 (List.mem_of_getElem? (i := 23) rfl), rfl⟩, by decide⟩
def mX8_isWhole : aMth := (yX8_isWhole, cX8_isWhole, 5, (some .boolean))
theorem kX8_isWhole : a_lnk mX8_isWhole 0 := ⟨plainFor_of_name plnX8, neqX8, by decide +kernel, iniX8, List.mem_filter.mpr ⟨t3 (List.mem_of_getElem? (i := 35) rfl), rfl⟩, by decide⟩
def mX8_hopsFault : aMth := (yX8_hopsFault, cX8_hopsFault, 3, (some .int))
theorem kX8_hopsFault : a_lnk mX8_hopsFault 0 := ⟨plainFor_of_name plnX8, neqX8, by decide +kernel, iniX8, List.mem_filter.mpr ⟨t3 (List.mem_of_getElem? (i := 39) rfl), rfl⟩, by decide⟩
def mX11_text : aMth := (yX11_text, cX11_text, 2, (some .int))
theorem kX11_text : a_lnk mX11_text 1 := ⟨plainFor_of_name plnX11, neqX11, by decide +kernel, iniX11, List.mem_filter.mpr ⟨t3 (List.mem_of_getElem? (i := 44) rfl), rfl⟩, by decide⟩
def mX7_takeMesh : aMth := (yX7_takeMesh, cX7_takeMesh, 2, none)
theorem kX7_takeMesh : a_lnk mX7_takeMesh 1 := ⟨plainFor_of_name plnX7, neqX7, by decide +kernel, iniX7, List.mem_filter.mpr ⟨t3 (List.mem_of_getElem? (i := 48) rfl), rfl⟩, by decide⟩
def mX4_startAnew : aMth := (yX4_startAnew, cX4_startAnew, 2, none)
theorem kX4_startAnew : a_lnk mX4_startAnew 0 := ⟨plainFor_of_name plnX4, neqX4, by decide +kernel, iniX4, List.mem_filter.mpr ⟨t3 (List.mem_of_getElem? (i := 53) rfl), rfl⟩, by decide⟩
def mJ7_fill_53178 : aMth := (yJ7_fill_53178, cJ7_fill_53178, 4, none)
theorem iniJ7 : Cond.initialized RJ7 ∈ aG := List.mem_filter.mpr ⟨t1 (List.mem_of_getElem? (i := 21) rfl), rfl⟩
theorem neqJ7 : RJ7 ≠ "java/lang/invoke/MethodHandle" ∧ RJ7 ≠ "java/lang/invoke/VarHandle" := ⟨by decide +kernel, by decide +kernel⟩
theorem kJ7_fill_53178 : a_lnk mJ7_fill_53178 2 := ⟨by decide +kernel, neqJ7, by decide +kernel, iniJ7, List.mem_filter.mpr ⟨t3 (List.mem_of_getElem? (i := 56) rfl), rfl⟩, by decide⟩
def mX7_ruleOf : aMth := (yX7_ruleOf, cX7_ruleOf, 2, (some .int))
theorem kX7_ruleOf : a_lnk mX7_ruleOf 1 := ⟨plainFor_of_name plnX7, neqX7, by decide +kernel, iniX7, List.mem_filter.mpr ⟨t3 (List.mem_of_getElem? (i := 60) rfl), rfl⟩, by decide⟩
def mX7_pairs : aMth := (yX7_pairs, cX7_pairs, 1, (some .int))
theorem kX7_pairs : a_lnk mX7_pairs 0 := ⟨plainFor_of_name plnX7, neqX7, by decide +kernel, iniX7, List.mem_filter.mpr ⟨t3 (List.mem_of_getElem? (i := 64) rfl), rfl⟩, by decide⟩
def mX7_itemOf : aMth := (yX7_itemOf, cX7_itemOf, 3, (some .int))
theorem kX7_itemOf : a_lnk mX7_itemOf 2 := ⟨plainFor_of_name plnX7, neqX7, by decide +kernel, iniX7, List.mem_filter.mpr ⟨t3 (List.mem_of_getElem? (i := 68) rfl), rfl⟩, by decide⟩
def mX3_setLoad : aMth := (yX3_setLoad, cX3_setLoad, 2, none)
theorem kX3_setLoad : a_lnk mX3_setLoad 1 := ⟨plainFor_of_name plnX3, neqX3, by decide +kernel, iniX3, List.mem_filter.mpr ⟨t3 (List.mem_of_getElem? (i := 72) rfl), rfl⟩, by decide⟩
def mX6_startAnew : aMth := (yX6_startAnew, cX6_startAnew, 1, none)
theorem kX6_startAnew : a_lnk mX6_startAnew 0 := ⟨plainFor_of_name plnX6, neqX6, by decide +kernel, iniX6, List.mem_filter.mpr ⟨t3 (List.mem_of_getElem? (i := 76) rfl), rfl⟩, by decide⟩
def mX7_takeHops : aMth := (yX7_takeHops, cX7_takeHops, 2, none)
theorem kX7_takeHops : a_lnk mX7_takeHops 1 := ⟨plainFor_of_name plnX7, neqX7, by decide +kernel, iniX7, List.mem_filter.mpr ⟨t3 (List.mem_of_getElem? (i := 81) rfl), rfl⟩, by decide⟩
def mX7_hopCount : aMth := (yX7_hopCount, cX7_hopCount, 1, (some .int))
theorem kX7_hopCount : a_lnk mX7_hopCount 0 := ⟨plainFor_of_name plnX7, neqX7, by decide +kernel, iniX7, List.mem_filter.mpr ⟨t3 (List.mem_of_getElem? (i := 85) rfl), rfl⟩, by decide⟩
def mX11_rule : aMth := (yX11_rule, cX11_rule, 2, (some .int))
theorem kX11_rule : a_lnk mX11_rule 1 := ⟨plainFor_of_name plnX11, neqX11, by decide +kernel, iniX11, List.mem_filter.mpr ⟨t3 (List.mem_of_getElem? (i := 89) rfl), rfl⟩, by decide⟩
def mX7_isTold : aMth := (yX7_isTold, cX7_isTold, 1, (some .boolean))
theorem kX7_isTold : a_lnk mX7_isTold 0 := ⟨plainFor_of_name plnX7, neqX7, by decide +kernel, iniX7, List.mem_filter.mpr ⟨t3 (List.mem_of_getElem? (i := 93) rfl), rfl⟩, by decide⟩
def mX4_autoNow : aMth := (yX4_autoNow, cX4_autoNow, 1, (some .int))
theorem kX4_autoNow : a_lnk mX4_autoNow 0 := ⟨plainFor_of_name plnX4, neqX4, by decide +kernel, iniX4, List.mem_filter.mpr ⟨t3 (List.mem_of_getElem? (i := 97) rfl), rfl⟩, by decide⟩
def mX11_cell : aMth := (yX11_cell, cX11_cell, 5, (some .int))
theorem kX11_cell : a_lnk mX11_cell 4 := ⟨plainFor_of_name plnX11, neqX11, by decide +kernel, iniX11, List.mem_filter.mpr ⟨t3 (List.mem_of_getElem? (i := 102) rfl), rfl⟩, by decide⟩
def mX7_hasPair : aMth := (yX7_hasPair, cX7_hasPair, 2, (some .boolean))
theorem kX7_hasPair : a_lnk mX7_hasPair 1 := ⟨plainFor_of_name plnX7, neqX7, by decide +kernel, iniX7, List.mem_filter.mpr ⟨t3 (List.mem_of_getElem? (i := 106) rfl), rfl⟩, by decide⟩
def mX9_tellCell : aMth := (yX9_tellCell, cX9_tellCell, 3, (some .int))
theorem kX9_tellCell : a_lnk mX9_tellCell 2 := ⟨plainFor_of_name plnX9, neqX9, by decide +kernel, iniX9, List.mem_filter.mpr ⟨t3 (List.mem_of_getElem? (i := 110) rfl), rfl⟩, by decide⟩
def mX9_size : aMth := (yX9_size, cX9_size, 1, (some .int))
theorem kX9_size : a_lnk mX9_size 0 := ⟨plainFor_of_name plnX9, neqX9, by decide +kernel, iniX9, List.mem_filter.mpr ⟨t3 (List.mem_of_getElem? (i := 114) rfl), rfl⟩, by decide⟩
def mX9_numberAt : aMth := (yX9_numberAt, cX9_numberAt, 2, (some .int))
theorem kX9_numberAt : a_lnk mX9_numberAt 1 := ⟨plainFor_of_name plnX9, neqX9, by decide +kernel, iniX9, List.mem_filter.mpr ⟨t3 (List.mem_of_getElem? (i := 118) rfl), rfl⟩, by decide⟩
def mX11_waits : aMth := (yX11_waits, cX11_waits, 5, (some .int))
theorem kX11_waits : a_lnk mX11_waits 3 := ⟨plainFor_of_name plnX11, neqX11, by decide +kernel, iniX11, List.mem_filter.mpr ⟨t3 (List.mem_of_getElem? (i := 122) rfl), rfl⟩, by decide⟩
def mX9_tellWait : aMth := (yX9_tellWait, cX9_tellWait, 2, (some .int))
theorem kX9_tellWait : a_lnk mX9_tellWait 1 := ⟨plainFor_of_name plnX9, neqX9, by decide +kernel, iniX9, List.mem_filter.mpr ⟨t3 (List.mem_of_getElem? (i := 126) rfl), rfl⟩, by decide⟩
def mX9_isWaiting : aMth := (yX9_isWaiting, cX9_isWaiting, 1, (some .boolean))
theorem kX9_isWaiting : a_lnk mX9_isWaiting 0 := ⟨plainFor_of_name plnX9, neqX9, by decide +kernel, iniX9, List.mem_filter.mpr ⟨t3 (List.mem_of_getElem? (i := 130) rfl), rfl⟩, by decide⟩
def mX11_letter : aMth := (yX11_letter, cX11_letter, 3, (some .int))
theorem kX11_letter : a_lnk mX11_letter 2 := ⟨plainFor_of_name plnX11, neqX11, by decide +kernel, iniX11, List.mem_filter.mpr ⟨t3 (List.mem_of_getElem? (i := 134) rfl), rfl⟩, by decide⟩
def mX2_tell : aMth := (yX2_tell, cX2_tell, 2, (some .int))
theorem kX2_tell : a_lnk mX2_tell 1 := ⟨plainFor_of_name plnX2, neqX2, by decide +kernel, iniX2, List.mem_filter.mpr ⟨t3 (List.mem_of_getElem? (i := 138) rfl), rfl⟩, by decide⟩
def mX2_isUnderWay : aMth := (yX2_isUnderWay, cX2_isUnderWay, 1, (some .boolean))
theorem kX2_isUnderWay : a_lnk mX2_isUnderWay 0 := ⟨plainFor_of_name plnX2, neqX2, by decide +kernel, iniX2, List.mem_filter.mpr ⟨t3 (List.mem_of_getElem? (i := 142) rfl), rfl⟩, by decide⟩
def mX2_numberAt : aMth := (yX2_numberAt, cX2_numberAt, 2, (some .int))
theorem kX2_numberAt : a_lnk mX2_numberAt 1 := ⟨plainFor_of_name plnX2, neqX2, by decide +kernel, iniX2, List.mem_filter.mpr ⟨t3 (List.mem_of_getElem? (i := 146) rfl), rfl⟩, by decide⟩
def mX11_channel : aMth := (yX11_channel, cX11_channel, 3, (some .int))
theorem kX11_channel : a_lnk mX11_channel 2 := ⟨plainFor_of_name plnX11, neqX11, by decide +kernel, iniX11, List.mem_filter.mpr ⟨t3 (List.mem_of_getElem? (i := 150) rfl), rfl⟩, by decide⟩
def mX7_hasCell : aMth := (yX7_hasCell, cX7_hasCell, 2, (some .boolean))
theorem kX7_hasCell : a_lnk mX7_hasCell 1 := ⟨plainFor_of_name plnX7, neqX7, by decide +kernel, iniX7, List.mem_filter.mpr ⟨t3 (List.mem_of_getElem? (i := 154) rfl), rfl⟩, by decide⟩
def mX7_channelOf : aMth := (yX7_channelOf, cX7_channelOf, 4, (some .int))
theorem kX7_channelOf : a_lnk mX7_channelOf 2 := ⟨plainFor_of_name plnX7, neqX7, by decide +kernel, iniX7, List.mem_filter.mpr ⟨t3 (List.mem_of_getElem? (i := 158) rfl), rfl⟩, by decide⟩
def mX11_loss : aMth := (yX11_loss, cX11_loss, 2, (some .boolean))
theorem kX11_loss : a_lnk mX11_loss 1 := ⟨plainFor_of_name plnX11, neqX11, by decide +kernel, iniX11, List.mem_filter.mpr ⟨t3 (List.mem_of_getElem? (i := 162) rfl), rfl⟩, by decide⟩
def mX11_frames : aMth := (yX11_frames, cX11_frames, 3, (some .int))
theorem kX11_frames : a_lnk mX11_frames 1 := ⟨plainFor_of_name plnX11, neqX11, by decide +kernel, iniX11, List.mem_filter.mpr ⟨t3 (List.mem_of_getElem? (i := 166) rfl), rfl⟩, by decide⟩
def mX11_refuse : aMth := (yX11_refuse, cX11_refuse, 2, (some .int))
theorem kX11_refuse : a_lnk mX11_refuse 1 := ⟨plainFor_of_name plnX11, neqX11, by decide +kernel, iniX11, List.mem_filter.mpr ⟨t3 (List.mem_of_getElem? (i := 170) rfl), rfl⟩, by decide⟩
def mX4_frame : aMth := (yX4_frame, cX4_frame, 1, (some .int))
theorem kX4_frame : a_lnk mX4_frame 0 := ⟨plainFor_of_name plnX4, neqX4, by decide +kernel, iniX4, List.mem_filter.mpr ⟨t3 (List.mem_of_getElem? (i := 174) rfl), rfl⟩, by decide⟩
def mX6_keepAct : aMth := (yX6_keepAct, cX6_keepAct, 2, none)
theorem kX6_keepAct : a_lnk mX6_keepAct 1 := ⟨plainFor_of_name plnX6, neqX6, by decide +kernel, iniX6, List.mem_filter.mpr ⟨t3 (List.mem_of_getElem? (i := 178) rfl), rfl⟩, by decide⟩
def mX11_goOneFrame : aMth := (yX11_goOneFrame, cX11_goOneFrame, 1, none)
theorem kX11_goOneFrame : a_lnk mX11_goOneFrame 0 := ⟨plainFor_of_name plnX11, neqX11, by decide +kernel, iniX11, List.mem_filter.mpr ⟨t3 (List.mem_of_getElem? (i := 184) rfl), rfl⟩, by decide⟩
def mX0_passFrame : aMth := (yX0_passFrame, cX0_passFrame, 5, none)
theorem kX0_passFrame : a_lnk mX0_passFrame 0 := ⟨plainFor_of_name plnX0, neqX0, by decide +kernel, iniX0, List.mem_filter.mpr ⟨t3 (List.mem_of_getElem? (i := 188) rfl), rfl⟩, by decide⟩
def mX1_open : aMth := (yX1_open, cX1_open, 3, (some .int))
theorem kX1_open : a_lnk mX1_open 1 := ⟨plainFor_of_name plnX1, neqX1, by decide +kernel, iniX1, List.mem_filter.mpr ⟨t3 (List.mem_of_getElem? (i := 194) rfl), rfl⟩, by decide⟩
def mX2_cells : aMth := (yX2_cells, cX2_cells, 1, (some .int))
theorem kX2_cells : a_lnk mX2_cells 0 := ⟨plainFor_of_name plnX2, neqX2, by decide +kernel, iniX2, List.mem_filter.mpr ⟨t3 (List.mem_of_getElem? (i := 198) rfl), rfl⟩, by decide⟩
def mX2_drop : aMth := (yX2_drop, cX2_drop, 1, none)
theorem kX2_drop : a_lnk mX2_drop 0 := ⟨plainFor_of_name plnX2, neqX2, by decide +kernel, iniX2, List.mem_filter.mpr ⟨t3 (List.mem_of_getElem? (i := 204) rfl), rfl⟩, by decide⟩
def mX2_sort : aMth := (yX2_sort, cX2_sort, 1, (some .int))
theorem kX2_sort : a_lnk mX2_sort 0 := ⟨plainFor_of_name plnX2, neqX2, by decide +kernel, iniX2, List.mem_filter.mpr ⟨t3 (List.mem_of_getElem? (i := 208) rfl), rfl⟩, by decide⟩
def mX1_readRequest : aMth := (yX1_readRequest, cX1_readRequest, 3, none)
theorem kX1_readRequest : a_lnk mX1_readRequest 1 := ⟨plainFor_of_name plnX1, neqX1, by decide +kernel, iniX1, List.mem_filter.mpr ⟨t3 (List.mem_of_getElem? (i := 212) rfl), rfl⟩, by decide⟩
def mX9_stopWaiting : aMth := (yX9_stopWaiting, cX9_stopWaiting, 1, none)
theorem kX9_stopWaiting : a_lnk mX9_stopWaiting 0 := ⟨plainFor_of_name plnX9, neqX9, by decide +kernel, iniX9, List.mem_filter.mpr ⟨t3 (List.mem_of_getElem? (i := 216) rfl), rfl⟩, by decide⟩
def mX2_kind : aMth := (yX2_kind, cX2_kind, 1, (some .int))
theorem kX2_kind : a_lnk mX2_kind 0 := ⟨plainFor_of_name plnX2, neqX2, by decide +kernel, iniX2, List.mem_filter.mpr ⟨t3 (List.mem_of_getElem? (i := 220) rfl), rfl⟩, by decide⟩
def mX9_clearTable : aMth := (yX9_clearTable, cX9_clearTable, 1, none)
theorem kX9_clearTable : a_lnk mX9_clearTable 0 := ⟨plainFor_of_name plnX9, neqX9, by decide +kernel, iniX9, List.mem_filter.mpr ⟨t3 (List.mem_of_getElem? (i := 224) rfl), rfl⟩, by decide⟩
def mX1_answer : aMth := (yX1_answer, cX1_answer, 3, none)
theorem kX1_answer : a_lnk mX1_answer 2 := ⟨plainFor_of_name plnX1, neqX1, by decide +kernel, iniX1, List.mem_filter.mpr ⟨t3 (List.mem_of_getElem? (i := 228) rfl), rfl⟩, by decide⟩
def mX2_amount : aMth := (yX2_amount, cX2_amount, 1, (some .int))
theorem kX2_amount : a_lnk mX2_amount 0 := ⟨plainFor_of_name plnX2, neqX2, by decide +kernel, iniX2, List.mem_filter.mpr ⟨t3 (List.mem_of_getElem? (i := 232) rfl), rfl⟩, by decide⟩
def mX2_send : aMth := (yX2_send, cX2_send, 6, none)
theorem kX2_send : a_lnk mX2_send 5 := ⟨plainFor_of_name plnX2, neqX2, by decide +kernel, iniX2, List.mem_filter.mpr ⟨t3 (List.mem_of_getElem? (i := 236) rfl), rfl⟩, by decide⟩
def mX9_seq : aMth := (yX9_seq, cX9_seq, 1, (some .int))
theorem kX9_seq : a_lnk mX9_seq 0 := ⟨plainFor_of_name plnX9, neqX9, by decide +kernel, iniX9, List.mem_filter.mpr ⟨t4 (List.mem_of_getElem? (i := 0) rfl), rfl⟩, by decide⟩
def mX2_seq : aMth := (yX2_seq, cX2_seq, 1, (some .int))
theorem kX2_seq : a_lnk mX2_seq 0 := ⟨plainFor_of_name plnX2, neqX2, by decide +kernel, iniX2, List.mem_filter.mpr ⟨t4 (List.mem_of_getElem? (i := 4) rfl), rfl⟩, by decide⟩
def mX1_isTwoSteps : aMth := (yX1_isTwoSteps, cX1_isTwoSteps, 2, (some .boolean))
theorem kX1_isTwoSteps : a_lnk mX1_isTwoSteps 1 := ⟨plainFor_of_name plnX1, neqX1, by decide +kernel, iniX1, List.mem_filter.mpr ⟨t4 (List.mem_of_getElem? (i := 8) rfl), rfl⟩, by decide⟩
def mX1_acceptCells : aMth := (yX1_acceptCells, cX1_acceptCells, 3, none)
theorem kX1_acceptCells : a_lnk mX1_acceptCells 1 := ⟨plainFor_of_name plnX1, neqX1, by decide +kernel, iniX1, List.mem_filter.mpr ⟨t4 (List.mem_of_getElem? (i := 13) rfl), rfl⟩, by decide⟩
def mX1_receiverOf : aMth := (yX1_receiverOf, cX1_receiverOf, 2, (some .int))
theorem kX1_receiverOf : a_lnk mX1_receiverOf 1 := ⟨plainFor_of_name plnX1, neqX1, by decide +kernel, iniX1, List.mem_filter.mpr ⟨t4 (List.mem_of_getElem? (i := 17) rfl), rfl⟩, by decide⟩
def mX4_takenAt : aMth := (yX4_takenAt, cX4_takenAt, 4, (some .int))
theorem kX4_takenAt : a_lnk mX4_takenAt 1 := ⟨plainFor_of_name plnX4, neqX4, by decide +kernel, iniX4, List.mem_filter.mpr ⟨t4 (List.mem_of_getElem? (i := 21) rfl), rfl⟩, by decide⟩
def mX9_takenSlots : aMth := (yX9_takenSlots, cX9_takenSlots, 5, (some .int))
theorem kX9_takenSlots : a_lnk mX9_takenSlots 0 := ⟨plainFor_of_name plnX9, neqX9, by decide +kernel, iniX9, List.mem_filter.mpr ⟨t4 (List.mem_of_getElem? (i := 25) rfl), rfl⟩, by decide⟩
def mX1_putFreeTold : aMth := (yX1_putFreeTold, cX1_putFreeTold, 6, none)
theorem kX1_putFreeTold : a_lnk mX1_putFreeTold 3 := ⟨plainFor_of_name plnX1, neqX1, by decide +kernel, iniX1, List.mem_filter.mpr ⟨t4 (List.mem_of_getElem? (i := 29) rfl), rfl⟩, by decide⟩
def mX9_hasRoom : aMth := (yX9_hasRoom, cX9_hasRoom, 1, (some .boolean))
theorem kX9_hasRoom : a_lnk mX9_hasRoom 0 := ⟨plainFor_of_name plnX9, neqX9, by decide +kernel, iniX9, List.mem_filter.mpr ⟨t4 (List.mem_of_getElem? (i := 33) rfl), rfl⟩, by decide⟩
def mX9_put : aMth := (yX9_put, cX9_put, 4, none)
theorem kX9_put : a_lnk mX9_put 1 := ⟨plainFor_of_name plnX9, neqX9, by decide +kernel, iniX9, List.mem_filter.mpr ⟨t4 (List.mem_of_getElem? (i := 37) rfl), rfl⟩, by decide⟩
def mX9_placeOf : aMth := (yX9_placeOf, cX9_placeOf, 4, (some .int))
theorem kX9_placeOf : a_lnk mX9_placeOf 1 := ⟨plainFor_of_name plnX9, neqX9, by decide +kernel, iniX9, List.mem_filter.mpr ⟨t4 (List.mem_of_getElem? (i := 41) rfl), rfl⟩, by decide⟩
def mX9_shift : aMth := (yX9_shift, cX9_shift, 3, none)
theorem kX9_shift : a_lnk mX9_shift 2 := ⟨plainFor_of_name plnX9, neqX9, by decide +kernel, iniX9, List.mem_filter.mpr ⟨t4 (List.mem_of_getElem? (i := 45) rfl), rfl⟩, by decide⟩
def mX2_enclose : aMth := (yX2_enclose, cX2_enclose, 3, none)
theorem kX2_enclose : a_lnk mX2_enclose 1 := ⟨plainFor_of_name plnX2, neqX2, by decide +kernel, iniX2, List.mem_filter.mpr ⟨t4 (List.mem_of_getElem? (i := 49) rfl), rfl⟩, by decide⟩
def mX1_endAnswer : aMth := (yX1_endAnswer, cX1_endAnswer, 2, none)
theorem kX1_endAnswer : a_lnk mX1_endAnswer 1 := ⟨plainFor_of_name plnX1, neqX1, by decide +kernel, iniX1, List.mem_filter.mpr ⟨t4 (List.mem_of_getElem? (i := 53) rfl), rfl⟩, by decide⟩
def mX9_raiseSeq : aMth := (yX9_raiseSeq, cX9_raiseSeq, 2, none)
theorem kX9_raiseSeq : a_lnk mX9_raiseSeq 0 := ⟨plainFor_of_name plnX9, neqX9, by decide +kernel, iniX9, List.mem_filter.mpr ⟨t4 (List.mem_of_getElem? (i := 57) rfl), rfl⟩, by decide⟩
def mX1_offerCells : aMth := (yX1_offerCells, cX1_offerCells, 4, none)
theorem kX1_offerCells : a_lnk mX1_offerCells 1 := ⟨plainFor_of_name plnX1, neqX1, by decide +kernel, iniX1, List.mem_filter.mpr ⟨t4 (List.mem_of_getElem? (i := 61) rfl), rfl⟩, by decide⟩
def mX1_gatherOffers : aMth := (yX1_gatherOffers, cX1_gatherOffers, 8, (some .int))
theorem kX1_gatherOffers : a_lnk mX1_gatherOffers 4 := ⟨plainFor_of_name plnX1, neqX1, by decide +kernel, iniX1, List.mem_filter.mpr ⟨t4 (List.mem_of_getElem? (i := 65) rfl), rfl⟩, by decide⟩
def mX7_slots : aMth := (yX7_slots, cX7_slots, 1, (some .int))
theorem kX7_slots : a_lnk mX7_slots 0 := ⟨plainFor_of_name plnX7, neqX7, by decide +kernel, iniX7, List.mem_filter.mpr ⟨t4 (List.mem_of_getElem? (i := 69) rfl), rfl⟩, by decide⟩
def mX7_cellInSlot : aMth := (yX7_cellInSlot, cX7_cellInSlot, 4, (some .int))
theorem kX7_cellInSlot : a_lnk mX7_cellInSlot 2 := ⟨plainFor_of_name plnX7, neqX7, by decide +kernel, iniX7, List.mem_filter.mpr ⟨t4 (List.mem_of_getElem? (i := 73) rfl), rfl⟩, by decide⟩
def mX1_promiseOffers : aMth := (yX1_promiseOffers, cX1_promiseOffers, 4, none)
theorem kX1_promiseOffers : a_lnk mX1_promiseOffers 2 := ⟨plainFor_of_name plnX1, neqX1, by decide +kernel, iniX1, List.mem_filter.mpr ⟨t4 (List.mem_of_getElem? (i := 77) rfl), rfl⟩, by decide⟩
def mX9_promise : aMth := (yX9_promise, cX9_promise, 3, none)
theorem kX9_promise : a_lnk mX9_promise 1 := ⟨plainFor_of_name plnX9, neqX9, by decide +kernel, iniX9, List.mem_filter.mpr ⟨t4 (List.mem_of_getElem? (i := 81) rfl), rfl⟩, by decide⟩
def mX9_startWaiting : aMth := (yX9_startWaiting, cX9_startWaiting, 3, none)
theorem kX9_startWaiting : a_lnk mX9_startWaiting 2 := ⟨plainFor_of_name plnX9, neqX9, by decide +kernel, iniX9, List.mem_filter.mpr ⟨t4 (List.mem_of_getElem? (i := 86) rfl), rfl⟩, by decide⟩
def mX1_giveUpCells : aMth := (yX1_giveUpCells, cX1_giveUpCells, 3, none)
theorem kX1_giveUpCells : a_lnk mX1_giveUpCells 1 := ⟨plainFor_of_name plnX1, neqX1, by decide +kernel, iniX1, List.mem_filter.mpr ⟨t4 (List.mem_of_getElem? (i := 90) rfl), rfl⟩, by decide⟩
def mX9_takeOut : aMth := (yX9_takeOut, cX9_takeOut, 5, (some .boolean))
theorem kX9_takeOut : a_lnk mX9_takeOut 1 := ⟨plainFor_of_name plnX9, neqX9, by decide +kernel, iniX9, List.mem_filter.mpr ⟨t4 (List.mem_of_getElem? (i := 94) rfl), rfl⟩, by decide⟩
def mX1_moveCell : aMth := (yX1_moveCell, cX1_moveCell, 4, none)
theorem kX1_moveCell : a_lnk mX1_moveCell 1 := ⟨plainFor_of_name plnX1, neqX1, by decide +kernel, iniX1, List.mem_filter.mpr ⟨t4 (List.mem_of_getElem? (i := 98) rfl), rfl⟩, by decide⟩
def mX1_readAnswer : aMth := (yX1_readAnswer, cX1_readAnswer, 5, none)
theorem kX1_readAnswer : a_lnk mX1_readAnswer 1 := ⟨plainFor_of_name plnX1, neqX1, by decide +kernel, iniX1, List.mem_filter.mpr ⟨t4 (List.mem_of_getElem? (i := 103) rfl), rfl⟩, by decide⟩
def mX2_result : aMth := (yX2_result, cX2_result, 1, (some .int))
theorem kX2_result : a_lnk mX2_result 0 := ⟨plainFor_of_name plnX2, neqX2, by decide +kernel, iniX2, List.mem_filter.mpr ⟨t4 (List.mem_of_getElem? (i := 107) rfl), rfl⟩, by decide⟩
def mX1_begin : aMth := (yX1_begin, cX1_begin, 7, (some .int))
theorem kX1_begin : a_lnk mX1_begin 3 := ⟨plainFor_of_name plnX1, neqX1, by decide +kernel, iniX1, List.mem_filter.mpr ⟨t4 (List.mem_of_getElem? (i := 111) rfl), rfl⟩, by decide⟩
def mX1_promiseFreeSlots : aMth := (yX1_promiseFreeSlots, cX1_promiseFreeSlots, 4, none)
theorem kX1_promiseFreeSlots : a_lnk mX1_promiseFreeSlots 3 := ⟨plainFor_of_name plnX1, neqX1, by decide +kernel, iniX1, List.mem_filter.mpr ⟨t4 (List.mem_of_getElem? (i := 115) rfl), rfl⟩, by decide⟩
def mX1_senderOf : aMth := (yX1_senderOf, cX1_senderOf, 2, (some .int))
theorem kX1_senderOf : a_lnk mX1_senderOf 1 := ⟨plainFor_of_name plnX1, neqX1, by decide +kernel, iniX1, List.mem_filter.mpr ⟨t4 (List.mem_of_getElem? (i := 119) rfl), rfl⟩, by decide⟩
def mX1_confirmCells : aMth := (yX1_confirmCells, cX1_confirmCells, 3, none)
theorem kX1_confirmCells : a_lnk mX1_confirmCells 1 := ⟨plainFor_of_name plnX1, neqX1, by decide +kernel, iniX1, List.mem_filter.mpr ⟨t4 (List.mem_of_getElem? (i := 126) rfl), rfl⟩, by decide⟩
def mX1_putAllTold : aMth := (yX1_putAllTold, cX1_putAllTold, 3, none)
theorem kX1_putAllTold : a_lnk mX1_putAllTold 1 := ⟨plainFor_of_name plnX1, neqX1, by decide +kernel, iniX1, List.mem_filter.mpr ⟨t4 (List.mem_of_getElem? (i := 130) rfl), rfl⟩, by decide⟩
def mX1_readConfirm : aMth := (yX1_readConfirm, cX1_readConfirm, 3, none)
theorem kX1_readConfirm : a_lnk mX1_readConfirm 1 := ⟨plainFor_of_name plnX1, neqX1, by decide +kernel, iniX1, List.mem_filter.mpr ⟨t4 (List.mem_of_getElem? (i := 134) rfl), rfl⟩, by decide⟩
def mX1_runOut : aMth := (yX1_runOut, cX1_runOut, 2, none)
theorem kX1_runOut : a_lnk mX1_runOut 1 := ⟨plainFor_of_name plnX1, neqX1, by decide +kernel, iniX1, List.mem_filter.mpr ⟨t4 (List.mem_of_getElem? (i := 139) rfl), rfl⟩, by decide⟩
def mX7_timeout : aMth := (yX7_timeout, cX7_timeout, 1, (some .int))
theorem kX7_timeout : a_lnk mX7_timeout 0 := ⟨plainFor_of_name plnX7, neqX7, by decide +kernel, iniX7, List.mem_filter.mpr ⟨t4 (List.mem_of_getElem? (i := 144) rfl), rfl⟩, by decide⟩
def mX9_hasWaited : aMth := (yX9_hasWaited, cX9_hasWaited, 3, (some .boolean))
theorem kX9_hasWaited : a_lnk mX9_hasWaited 2 := ⟨plainFor_of_name plnX9, neqX9, by decide +kernel, iniX9, List.mem_filter.mpr ⟨t4 (List.mem_of_getElem? (i := 148) rfl), rfl⟩, by decide⟩
def mX9_awaits : aMth := (yX9_awaits, cX9_awaits, 2, (some .boolean))
theorem kX9_awaits : a_lnk mX9_awaits 1 := ⟨plainFor_of_name plnX9, neqX9, by decide +kernel, iniX9, List.mem_filter.mpr ⟨t4 (List.mem_of_getElem? (i := 152) rfl), rfl⟩, by decide⟩
def mX0_sendAll : aMth := (yX0_sendAll, cX0_sendAll, 4, none)
theorem kX0_sendAll : a_lnk mX0_sendAll 0 := ⟨plainFor_of_name plnX0, neqX0, by decide +kernel, iniX0, List.mem_filter.mpr ⟨t4 (List.mem_of_getElem? (i := 156) rfl), rfl⟩, by decide⟩
def mX3_growQueue : aMth := (yX3_growQueue, cX3_growQueue, 1, none)
theorem kX3_growQueue : a_lnk mX3_growQueue 0 := ⟨plainFor_of_name plnX3, neqX3, by decide +kernel, iniX3, List.mem_filter.mpr ⟨t4 (List.mem_of_getElem? (i := 160) rfl), rfl⟩, by decide⟩
def mX3_queue : aMth := (yX3_queue, cX3_queue, 1, (some .int))
theorem kX3_queue : a_lnk mX3_queue 0 := ⟨plainFor_of_name plnX3, neqX3, by decide +kernel, iniX3, List.mem_filter.mpr ⟨t4 (List.mem_of_getElem? (i := 165) rfl), rfl⟩, by decide⟩
def mX0_markCells : aMth := (yX0_markCells, cX0_markCells, 6, none)
theorem kX0_markCells : a_lnk mX0_markCells 3 := ⟨plainFor_of_name plnX0, neqX0, by decide +kernel, iniX0, List.mem_filter.mpr ⟨t4 (List.mem_of_getElem? (i := 171) rfl), rfl⟩, by decide⟩
def mX0_sendOf : aMth := (yX0_sendOf, cX0_sendOf, 5, (some .int))
theorem kX0_sendOf : a_lnk mX0_sendOf 2 := ⟨plainFor_of_name plnX0, neqX0, by decide +kernel, iniX0, List.mem_filter.mpr ⟨t4 (List.mem_of_getElem? (i := 176) rfl), rfl⟩, by decide⟩
def mX9_countSent : aMth := (yX9_countSent, cX9_countSent, 2, none)
theorem kX9_countSent : a_lnk mX9_countSent 1 := ⟨plainFor_of_name plnX9, neqX9, by decide +kernel, iniX9, List.mem_filter.mpr ⟨t4 (List.mem_of_getElem? (i := 180) rfl), rfl⟩, by decide⟩
def mX0_comesOver : aMth := (yX0_comesOver, cX0_comesOver, 3, (some .boolean))
theorem kX0_comesOver : a_lnk mX0_comesOver 2 := ⟨plainFor_of_name plnX0, neqX0, by decide +kernel, iniX0, List.mem_filter.mpr ⟨t4 (List.mem_of_getElem? (i := 184) rfl), rfl⟩, by decide⟩
def mX4_isJammed : aMth := (yX4_isJammed, cX4_isJammed, 2, (some .boolean))
theorem kX4_isJammed : a_lnk mX4_isJammed 1 := ⟨plainFor_of_name plnX4, neqX4, by decide +kernel, iniX4, List.mem_filter.mpr ⟨t4 (List.mem_of_getElem? (i := 191) rfl), rfl⟩, by decide⟩
def mX9_countGot : aMth := (yX9_countGot, cX9_countGot, 2, none)
theorem kX9_countGot : a_lnk mX9_countGot 1 := ⟨plainFor_of_name plnX9, neqX9, by decide +kernel, iniX9, List.mem_filter.mpr ⟨t4 (List.mem_of_getElem? (i := 195) rfl), rfl⟩, by decide⟩
def mX3_noteSending : aMth := (yX3_noteSending, cX3_noteSending, 3, none)
theorem kX3_noteSending : a_lnk mX3_noteSending 2 := ⟨plainFor_of_name plnX3, neqX3, by decide +kernel, iniX3, List.mem_filter.mpr ⟨t4 (List.mem_of_getElem? (i := 199) rfl), rfl⟩, by decide⟩
def mX7_endsWindow : aMth := (yX7_endsWindow, cX7_endsWindow, 2, (some .boolean))
theorem kX7_endsWindow : a_lnk mX7_endsWindow 1 := ⟨plainFor_of_name plnX7, neqX7, by decide +kernel, iniX7, List.mem_filter.mpr ⟨t4 (List.mem_of_getElem? (i := 204) rfl), rfl⟩, by decide⟩
def mX0_followLoad : aMth := (yX0_followLoad, cX0_followLoad, 4, none)
theorem kX0_followLoad : a_lnk mX0_followLoad 1 := ⟨plainFor_of_name plnX0, neqX0, by decide +kernel, iniX0, List.mem_filter.mpr ⟨t4 (List.mem_of_getElem? (i := 208) rfl), rfl⟩, by decide⟩
def mX9_badPlace : aMth := (yX9_badPlace, cX9_badPlace, 5, (some .int))
theorem kX9_badPlace : a_lnk mX9_badPlace 0 := ⟨plainFor_of_name plnX9, neqX9, by decide +kernel, iniX9, List.mem_filter.mpr ⟨t4 (List.mem_of_getElem? (i := 212) rfl), rfl⟩, by decide⟩
def mX9_comesLess : aMth := (yX9_comesLess, cX9_comesLess, 3, (some .boolean))
theorem kX9_comesLess : a_lnk mX9_comesLess 2 := ⟨plainFor_of_name plnX9, neqX9, by decide +kernel, iniX9, List.mem_filter.mpr ⟨t4 (List.mem_of_getElem? (i := 216) rfl), rfl⟩, by decide⟩
def mX3_wantsMore : aMth := (yX3_wantsMore, cX3_wantsMore, 1, (some .boolean))
theorem kX3_wantsMore : a_lnk mX3_wantsMore 0 := ⟨plainFor_of_name plnX3, neqX3, by decide +kernel, iniX3, List.mem_filter.mpr ⟨t4 (List.mem_of_getElem? (i := 220) rfl), rfl⟩, by decide⟩
def mX3_wantsLess : aMth := (yX3_wantsLess, cX3_wantsLess, 1, (some .boolean))
theorem kX3_wantsLess : a_lnk mX3_wantsLess 0 := ⟨plainFor_of_name plnX3, neqX3, by decide +kernel, iniX3, List.mem_filter.mpr ⟨t4 (List.mem_of_getElem? (i := 224) rfl), rfl⟩, by decide⟩
def mX1_canBegin : aMth := (yX1_canBegin, cX1_canBegin, 4, (some .boolean))
theorem kX1_canBegin : a_lnk mX1_canBegin 2 := ⟨plainFor_of_name plnX1, neqX1, by decide +kernel, iniX1, List.mem_filter.mpr ⟨t4 (List.mem_of_getElem? (i := 229) rfl), rfl⟩, by decide⟩
def mX3_isIdle : aMth := (yX3_isIdle, cX3_isIdle, 1, (some .boolean))
theorem kX3_isIdle : a_lnk mX3_isIdle 0 := ⟨plainFor_of_name plnX3, neqX3, by decide +kernel, iniX3, List.mem_filter.mpr ⟨t4 (List.mem_of_getElem? (i := 233) rfl), rfl⟩, by decide⟩
def mX3_endWindow : aMth := (yX3_endWindow, cX3_endWindow, 1, none)
theorem kX3_endWindow : a_lnk mX3_endWindow 0 := ⟨plainFor_of_name plnX3, neqX3, by decide +kernel, iniX3, List.mem_filter.mpr ⟨t5 (List.mem_of_getElem? (i := 0) rfl), rfl⟩, by decide⟩
def mX4_goToNextFrame : aMth := (yX4_goToNextFrame, cX4_goToNextFrame, 1, none)
theorem kX4_goToNextFrame : a_lnk mX4_goToNextFrame 0 := ⟨plainFor_of_name plnX4, neqX4, by decide +kernel, iniX4, List.mem_filter.mpr ⟨t5 (List.mem_of_getElem? (i := 4) rfl), rfl⟩, by decide⟩
def mX4_lettersUnderWay : aMth := (yX4_lettersUnderWay, cX4_lettersUnderWay, 3, (some .int))
theorem kX4_lettersUnderWay : a_lnk mX4_lettersUnderWay 0 := ⟨plainFor_of_name plnX4, neqX4, by decide +kernel, iniX4, List.mem_filter.mpr ⟨t5 (List.mem_of_getElem? (i := 8) rfl), rfl⟩, by decide⟩
def mX4_cellsOfBoth : aMth := (yX4_cellsOfBoth, cX4_cellsOfBoth, 3, (some .int))
theorem kX4_cellsOfBoth : a_lnk mX4_cellsOfBoth 0 := ⟨plainFor_of_name plnX4, neqX4, by decide +kernel, iniX4, List.mem_filter.mpr ⟨t5 (List.mem_of_getElem? (i := 13) rfl), rfl⟩, by decide⟩
def mX9_cellsAlsoIn : aMth := (yX9_cellsAlsoIn, cX9_cellsAlsoIn, 5, (some .int))
theorem kX9_cellsAlsoIn : a_lnk mX9_cellsAlsoIn 1 := ⟨plainFor_of_name plnX9, neqX9, by decide +kernel, iniX9, List.mem_filter.mpr ⟨t5 (List.mem_of_getElem? (i := 17) rfl), rfl⟩, by decide⟩
def mX0_cameInAll : aMth := (yX0_cameInAll, cX0_cameInAll, 3, (some .int))
theorem kX0_cameInAll : a_lnk mX0_cameInAll 0 := ⟨plainFor_of_name plnX0, neqX0, by decide +kernel, iniX0, List.mem_filter.mpr ⟨t5 (List.mem_of_getElem? (i := 21) rfl), rfl⟩, by decide⟩
def mX6_addToLog : aMth := (yX6_addToLog, cX6_addToLog, 5, none)
theorem kX6_addToLog : a_lnk mX6_addToLog 3 := ⟨plainFor_of_name plnX6, neqX6, by decide +kernel, iniX6, List.mem_filter.mpr ⟨t5 (List.mem_of_getElem? (i := 25) rfl), rfl⟩, by decide⟩
def mX11_deal : aMth := (yX11_deal, cX11_deal, 5, (some .int))
theorem kX11_deal : a_lnk mX11_deal 3 := ⟨plainFor_of_name plnX11, neqX11, by decide +kernel, iniX11, List.mem_filter.mpr ⟨t5 (List.mem_of_getElem? (i := 29) rfl), rfl⟩, by decide⟩
def mX11_isDealing : aMth := (yX11_isDealing, cX11_isDealing, 2, (some .boolean))
theorem kX11_isDealing : a_lnk mX11_isDealing 2 := ⟨plainFor_of_name plnX11, neqX11, by decide +kernel, iniX11, List.mem_filter.mpr ⟨t5 (List.mem_of_getElem? (i := 32) rfl), rfl⟩, by decide⟩
def mX11_lose : aMth := (yX11_lose, cX11_lose, 3, (some .int))
theorem kX11_lose : a_lnk mX11_lose 1 := ⟨plainFor_of_name plnX11, neqX11, by decide +kernel, iniX11, List.mem_filter.mpr ⟨t5 (List.mem_of_getElem? (i := 38) rfl), rfl⟩, by decide⟩
def mX11_jam : aMth := (yX11_jam, cX11_jam, 2, (some .int))
theorem kX11_jam : a_lnk mX11_jam 1 := ⟨plainFor_of_name plnX11, neqX11, by decide +kernel, iniX11, List.mem_filter.mpr ⟨t5 (List.mem_of_getElem? (i := 45) rfl), rfl⟩, by decide⟩
def mX4_turnJam : aMth := (yX4_turnJam, cX4_turnJam, 2, none)
theorem kX4_turnJam : a_lnk mX4_turnJam 1 := ⟨plainFor_of_name plnX4, neqX4, by decide +kernel, iniX4, List.mem_filter.mpr ⟨t5 (List.mem_of_getElem? (i := 49) rfl), rfl⟩, by decide⟩
def mX11_load : aMth := (yX11_load, cX11_load, 5, (some .int))
theorem kX11_load : a_lnk mX11_load 2 := ⟨plainFor_of_name plnX11, neqX11, by decide +kernel, iniX11, List.mem_filter.mpr ⟨t5 (List.mem_of_getElem? (i := 54) rfl), rfl⟩, by decide⟩
def mX3_tell : aMth := (yX3_tell, cX3_tell, 2, (some .int))
theorem kX3_tell : a_lnk mX3_tell 1 := ⟨plainFor_of_name plnX3, neqX3, by decide +kernel, iniX3, List.mem_filter.mpr ⟨t5 (List.mem_of_getElem? (i := 58) rfl), rfl⟩, by decide⟩
def mX11_auto : aMth := (yX11_auto, cX11_auto, 1, (some .int))
theorem kX11_auto : a_lnk mX11_auto 0 := ⟨plainFor_of_name plnX11, neqX11, by decide +kernel, iniX11, List.mem_filter.mpr ⟨t5 (List.mem_of_getElem? (i := 64) rfl), rfl⟩, by decide⟩
def mX4_turnAuto : aMth := (yX4_turnAuto, cX4_turnAuto, 1, none)
theorem kX4_turnAuto : a_lnk mX4_turnAuto 0 := ⟨plainFor_of_name plnX4, neqX4, by decide +kernel, iniX4, List.mem_filter.mpr ⟨t5 (List.mem_of_getElem? (i := 68) rfl), rfl⟩, by decide⟩
def mX11_years : aMth := (yX11_years, cX11_years, 5, (some .int))
theorem kX11_years : a_lnk mX11_years 2 := ⟨plainFor_of_name plnX11, neqX11, by decide +kernel, iniX11, List.mem_filter.mpr ⟨t5 (List.mem_of_getElem? (i := 72) rfl), rfl⟩, by decide⟩
def mX11_drawWhatIsAhead : aMth := (yX11_drawWhatIsAhead, cX11_drawWhatIsAhead, 2, none)
theorem kX11_drawWhatIsAhead : a_lnk mX11_drawWhatIsAhead 0 := ⟨plainFor_of_name plnX11, neqX11, by decide +kernel, iniX11, List.mem_filter.mpr ⟨t5 (List.mem_of_getElem? (i := 76) rfl), rfl⟩, by decide⟩
def mX11_drawBelow : aMth := (yX11_drawBelow, cX11_drawBelow, 2, (some .int))
theorem kX11_drawBelow : a_lnk mX11_drawBelow 1 := ⟨plainFor_of_name plnX11, neqX11, by decide +kernel, iniX11, List.mem_filter.mpr ⟨t5 (List.mem_of_getElem? (i := 80) rfl), rfl⟩, by decide⟩
def mX11_status : aMth := (yX11_status, cX11_status, 2, (some .int))
theorem kX11_status : a_lnk mX11_status 1 := ⟨plainFor_of_name plnX11, neqX11, by decide +kernel, iniX11, List.mem_filter.mpr ⟨t5 (List.mem_of_getElem? (i := 86) rfl), rfl⟩, by decide⟩
def mX11_undo : aMth := (yX11_undo, cX11_undo, 1, (some .int))
theorem kX11_undo : a_lnk mX11_undo 0 := ⟨plainFor_of_name plnX11, neqX11, by decide +kernel, iniX11, List.mem_filter.mpr ⟨t5 (List.mem_of_getElem? (i := 90) rfl), rfl⟩, by decide⟩
def mX6_takeBackAct : aMth := (yX6_takeBackAct, cX6_takeBackAct, 3, (some .boolean))
theorem kX6_takeBackAct : a_lnk mX6_takeBackAct 1 := ⟨plainFor_of_name plnX6, neqX6, by decide +kernel, iniX6, List.mem_filter.mpr ⟨t5 (List.mem_of_getElem? (i := 94) rfl), rfl⟩, by decide⟩
def mX6_acts : aMth := (yX6_acts, cX6_acts, 1, (some .int))
theorem kX6_acts : a_lnk mX6_acts 0 := ⟨plainFor_of_name plnX6, neqX6, by decide +kernel, iniX6, List.mem_filter.mpr ⟨t5 (List.mem_of_getElem? (i := 98) rfl), rfl⟩, by decide⟩
def mX11_log : aMth := (yX11_log, cX11_log, 3, (some .int))
theorem kX11_log : a_lnk mX11_log 2 := ⟨plainFor_of_name plnX11, neqX11, by decide +kernel, iniX11, List.mem_filter.mpr ⟨t5 (List.mem_of_getElem? (i := 102) rfl), rfl⟩, by decide⟩
def mX6_tellLog : aMth := (yX6_tellLog, cX6_tellLog, 3, (some .int))
theorem kX6_tellLog : a_lnk mX6_tellLog 2 := ⟨plainFor_of_name plnX6, neqX6, by decide +kernel, iniX6, List.mem_filter.mpr ⟨t5 (List.mem_of_getElem? (i := 106) rfl), rfl⟩, by decide⟩
def mX6_logLength : aMth := (yX6_logLength, cX6_logLength, 1, (some .int))
theorem kX6_logLength : a_lnk mX6_logLength 0 := ⟨plainFor_of_name plnX6, neqX6, by decide +kernel, iniX6, List.mem_filter.mpr ⟨t5 (List.mem_of_getElem? (i := 110) rfl), rfl⟩, by decide⟩
def mX11_offer : aMth := (yX11_offer, cX11_offer, 6, (some .int))
theorem kX11_offer : a_lnk mX11_offer 4 := ⟨plainFor_of_name plnX11, neqX11, by decide +kernel, iniX11, List.mem_filter.mpr ⟨t5 (List.mem_of_getElem? (i := 114) rfl), rfl⟩, by decide⟩
def mX1_offerAt : aMth := (yX1_offerAt, cX1_offerAt, 2, (some .int))
theorem kX1_offerAt : a_lnk mX1_offerAt 1 := ⟨plainFor_of_name plnX1, neqX1, by decide +kernel, iniX1, List.mem_filter.mpr ⟨t5 (List.mem_of_getElem? (i := 122) rfl), rfl⟩, by decide⟩
def mX11_comes : aMth := (yX11_comes, cX11_comes, 4, (some .int))
theorem kX11_comes : a_lnk mX11_comes 3 := ⟨plainFor_of_name plnX11, neqX11, by decide +kernel, iniX11, List.mem_filter.mpr ⟨t5 (List.mem_of_getElem? (i := 126) rfl), rfl⟩, by decide⟩
def mX5_afterFrames : aMth := (yX5_afterFrames, cX5_afterFrames, 6, (some .int))
theorem kX5_afterFrames : a_lnk mX5_afterFrames 3 := ⟨plainFor_of_name plnX5, neqX5, by decide +kernel, iniX5, List.mem_filter.mpr ⟨t5 (List.mem_of_getElem? (i := 130) rfl), rfl⟩, by decide⟩
def mX5_startFrom : aMth := (yX5_startFrom, cX5_startFrom, 2, none)
theorem kX5_startFrom : a_lnk mX5_startFrom 1 := ⟨plainFor_of_name plnX5, neqX5, by decide +kernel, iniX5, List.mem_filter.mpr ⟨t5 (List.mem_of_getElem? (i := 134) rfl), rfl⟩, by decide⟩
def mX0_cameOf : aMth := (yX0_cameOf, cX0_cameOf, 2, (some .int))
theorem kX0_cameOf : a_lnk mX0_cameOf 1 := ⟨plainFor_of_name plnX0, neqX0, by decide +kernel, iniX0, List.mem_filter.mpr ⟨t5 (List.mem_of_getElem? (i := 140) rfl), rfl⟩, by decide⟩
def mX11_agree : aMth := (yX11_agree, cX11_agree, 2, (some .int))
theorem kX11_agree : a_lnk mX11_agree 1 := ⟨plainFor_of_name plnX11, neqX11, by decide +kernel, iniX11, List.mem_filter.mpr ⟨t5 (List.mem_of_getElem? (i := 145) rfl), rfl⟩, by decide⟩
def mX3_agrees : aMth := (yX3_agrees, cX3_agrees, 1, (some .boolean))
theorem kX3_agrees : a_lnk mX3_agrees 0 := ⟨plainFor_of_name plnX3, neqX3, by decide +kernel, iniX3, List.mem_filter.mpr ⟨t5 (List.mem_of_getElem? (i := 149) rfl), rfl⟩, by decide⟩
def mX9_hasSameCells : aMth := (yX9_hasSameCells, cX9_hasSameCells, 4, (some .boolean))
theorem kX9_hasSameCells : a_lnk mX9_hasSameCells 1 := ⟨plainFor_of_name plnX9, neqX9, by decide +kernel, iniX9, List.mem_filter.mpr ⟨t5 (List.mem_of_getElem? (i := 153) rfl), rfl⟩, by decide⟩
def mX11_healed : aMth := (yX11_healed, cX11_healed, 1, (some .int))
theorem kX11_healed : a_lnk mX11_healed 0 := ⟨plainFor_of_name plnX11, neqX11, by decide +kernel, iniX11, List.mem_filter.mpr ⟨t5 (List.mem_of_getElem? (i := 157) rfl), rfl⟩, by decide⟩
def mX5_framesTillAgreed : aMth := (yX5_framesTillAgreed, cX5_framesTillAgreed, 2, (some .int))
theorem kX5_framesTillAgreed : a_lnk mX5_framesTillAgreed 0 := ⟨plainFor_of_name plnX5, neqX5, by decide +kernel, iniX5, List.mem_filter.mpr ⟨t5 (List.mem_of_getElem? (i := 161) rfl), rfl⟩, by decide⟩
def mX4_allAgree : aMth := (yX4_allAgree, cX4_allAgree, 2, (some .boolean))
theorem kX4_allAgree : a_lnk mX4_allAgree 0 := ⟨plainFor_of_name plnX4, neqX4, by decide +kernel, iniX4, List.mem_filter.mpr ⟨t5 (List.mem_of_getElem? (i := 165) rfl), rfl⟩, by decide⟩
def mX11_steady : aMth := (yX11_steady, cX11_steady, 1, (some .int))
theorem kX11_steady : a_lnk mX11_steady 0 := ⟨plainFor_of_name plnX11, neqX11, by decide +kernel, iniX11, List.mem_filter.mpr ⟨t5 (List.mem_of_getElem? (i := 170) rfl), rfl⟩, by decide⟩
def mX5_framesTillSteady : aMth := (yX5_framesTillSteady, cX5_framesTillSteady, 3, (some .int))
theorem kX5_framesTillSteady : a_lnk mX5_framesTillSteady 0 := ⟨plainFor_of_name plnX5, neqX5, by decide +kernel, iniX5, List.mem_filter.mpr ⟨t5 (List.mem_of_getElem? (i := 174) rfl), rfl⟩, by decide⟩
def mX5_notesChange : aMth := (yX5_notesChange, cX5_notesChange, 4, (some .boolean))
theorem kX5_notesChange : a_lnk mX5_notesChange 0 := ⟨plainFor_of_name plnX5, neqX5, by decide +kernel, iniX5, List.mem_filter.mpr ⟨t5 (List.mem_of_getElem? (i := 178) rfl), rfl⟩, by decide⟩
def mX11_harm : aMth := (yX11_harm, cX11_harm, 8, (some .int))
theorem kX11_harm : a_lnk mX11_harm 2 := ⟨plainFor_of_name plnX11, neqX11, by decide +kernel, iniX11, List.mem_filter.mpr ⟨t5 (List.mem_of_getElem? (i := 184) rfl), rfl⟩, by decide⟩
def mX5_framesAtOdds : aMth := (yX5_framesAtOdds, cX5_framesAtOdds, 5, (some .int))
theorem kX5_framesAtOdds : a_lnk mX5_framesAtOdds 2 := ⟨plainFor_of_name plnX5, neqX5, by decide +kernel, iniX5, List.mem_filter.mpr ⟨t5 (List.mem_of_getElem? (i := 188) rfl), rfl⟩, by decide⟩
def mX11_odds : aMth := (yX11_odds, cX11_odds, 6, (some .int))
theorem kX11_odds : a_lnk mX11_odds 2 := ⟨plainFor_of_name plnX11, neqX11, by decide +kernel, iniX11, List.mem_filter.mpr ⟨t5 (List.mem_of_getElem? (i := 194) rfl), rfl⟩, by decide⟩
def mX5_partsOf : aMth := (yX5_partsOf, cX5_partsOf, 9, (some .long))
theorem kX5_partsOf : a_lnk mX5_partsOf 3 := ⟨plainFor_of_name plnX5, neqX5, by decide +kernel, iniX5, List.mem_filter.mpr ⟨t5 (List.mem_of_getElem? (i := 198) rfl), rfl⟩, by decide⟩
def mX4_loseLetters : aMth := (yX4_loseLetters, cX4_loseLetters, 2, none)
theorem kX4_loseLetters : a_lnk mX4_loseLetters 0 := ⟨plainFor_of_name plnX4, neqX4, by decide +kernel, iniX4, List.mem_filter.mpr ⟨t5 (List.mem_of_getElem? (i := 204) rfl), rfl⟩, by decide⟩
def mX11_shares : aMth := (yX11_shares, cX11_shares, 5, (some .int))
theorem kX11_shares : a_lnk mX11_shares 2 := ⟨plainFor_of_name plnX11, neqX11, by decide +kernel, iniX11, List.mem_filter.mpr ⟨t5 (List.mem_of_getElem? (i := 209) rfl), rfl⟩, by decide⟩
def mX9_gotInAll : aMth := (yX9_gotInAll, cX9_gotInAll, 4, (some .int))
theorem kX9_gotInAll : a_lnk mX9_gotInAll 0 := ⟨plainFor_of_name plnX9, neqX9, by decide +kernel, iniX9, List.mem_filter.mpr ⟨t5 (List.mem_of_getElem? (i := 213) rfl), rfl⟩, by decide⟩
def mX11_node : aMth := (yX11_node, cX11_node, 3, (some .int))
theorem kX11_node : a_lnk mX11_node 2 := ⟨plainFor_of_name plnX11, neqX11, by decide +kernel, iniX11, List.mem_filter.mpr ⟨t5 (List.mem_of_getElem? (i := 217) rfl), rfl⟩, by decide⟩
def mX4_doubledAt : aMth := (yX4_doubledAt, cX4_doubledAt, 9, (some .int))
theorem kX4_doubledAt : a_lnk mX4_doubledAt 1 := ⟨plainFor_of_name plnX4, neqX4, by decide +kernel, iniX4, List.mem_filter.mpr ⟨t5 (List.mem_of_getElem? (i := 221) rfl), rfl⟩, by decide⟩
def mX4_sideOf : aMth := (yX4_sideOf, cX4_sideOf, 3, (some (.object "HoppingMesh$Side")))
theorem kX4_sideOf : a_lnk mX4_sideOf 2 := ⟨plainFor_of_name plnX4, neqX4, by decide +kernel, iniX4, List.mem_filter.mpr ⟨t5 (List.mem_of_getElem? (i := 225) rfl), rfl⟩, by decide⟩
def mX11_most : aMth := (yX11_most, cX11_most, 2, (some .int))
theorem kX11_most : a_lnk mX11_most 1 := ⟨plainFor_of_name plnX11, neqX11, by decide +kernel, iniX11, List.mem_filter.mpr ⟨t5 (List.mem_of_getElem? (i := 231) rfl), rfl⟩, by decide⟩
def mX4_greatest : aMth := (yX4_greatest, cX4_greatest, 4, (some .int))
theorem kX4_greatest : a_lnk mX4_greatest 1 := ⟨plainFor_of_name plnX4, neqX4, by decide +kernel, iniX4, List.mem_filter.mpr ⟨t5 (List.mem_of_getElem? (i := 236) rfl), rfl⟩, by decide⟩
def mX4_jammedBits : aMth := (yX4_jammedBits, cX4_jammedBits, 1, (some .int))
theorem kX4_jammedBits : a_lnk mX4_jammedBits 0 := ⟨plainFor_of_name plnX4, neqX4, by decide +kernel, iniX4, List.mem_filter.mpr ⟨t6 (List.mem_of_getElem? (i := 1) rfl), rfl⟩, by decide⟩
def mX4_firstBadCell : aMth := (yX4_firstBadCell, cX4_firstBadCell, 3, (some .int))
theorem kX4_firstBadCell : a_lnk mX4_firstBadCell 0 := ⟨plainFor_of_name plnX4, neqX4, by decide +kernel, iniX4, List.mem_filter.mpr ⟨t6 (List.mem_of_getElem? (i := 5) rfl), rfl⟩, by decide⟩
def mX4_pairBits : aMth := (yX4_pairBits, cX4_pairBits, 4, (some .int))
theorem kX4_pairBits : a_lnk mX4_pairBits 1 := ⟨plainFor_of_name plnX4, neqX4, by decide +kernel, iniX4, List.mem_filter.mpr ⟨t6 (List.mem_of_getElem? (i := 10) rfl), rfl⟩, by decide⟩
def mX4_isMarked : aMth := (yX4_isMarked, cX4_isMarked, 3, (some .boolean))
theorem kX4_isMarked : a_lnk mX4_isMarked 2 := ⟨plainFor_of_name plnX4, neqX4, by decide +kernel, iniX4, List.mem_filter.mpr ⟨t6 (List.mem_of_getElem? (i := 14) rfl), rfl⟩, by decide⟩
def mX4_collides : aMth := (yX4_collides, cX4_collides, 5, (some .boolean))
theorem kX4_collides : a_lnk mX4_collides 1 := ⟨plainFor_of_name plnX4, neqX4, by decide +kernel, iniX4, List.mem_filter.mpr ⟨t6 (List.mem_of_getElem? (i := 18) rfl), rfl⟩, by decide⟩
def mX11_image : aMth := (yX11_image, cX11_image, 1, (some .int))
theorem kX11_image : a_lnk mX11_image 0 := ⟨plainFor_of_name plnX11, neqX11, by decide +kernel, iniX11, List.mem_filter.mpr ⟨t6 (List.mem_of_getElem? (i := 24) rfl), rfl⟩, by decide⟩
def mX6_keepImage : aMth := (yX6_keepImage, cX6_keepImage, 4, none)
theorem kX6_keepImage : a_lnk mX6_keepImage 1 := ⟨plainFor_of_name plnX6, neqX6, by decide +kernel, iniX6, List.mem_filter.mpr ⟨t6 (List.mem_of_getElem? (i := 28) rfl), rfl⟩, by decide⟩
def mX11_back : aMth := (yX11_back, cX11_back, 1, (some .int))
theorem kX11_back : a_lnk mX11_back 0 := ⟨plainFor_of_name plnX11, neqX11, by decide +kernel, iniX11, List.mem_filter.mpr ⟨t6 (List.mem_of_getElem? (i := 33) rfl), rfl⟩, by decide⟩
def mX6_takeImage : aMth := (yX6_takeImage, cX6_takeImage, 2, (some .boolean))
theorem kX6_takeImage : a_lnk mX6_takeImage 1 := ⟨plainFor_of_name plnX6, neqX6, by decide +kernel, iniX6, List.mem_filter.mpr ⟨t6 (List.mem_of_getElem? (i := 37) rfl), rfl⟩, by decide⟩
def mX11_count : aMth := (yX11_count, cX11_count, 2, (some .int))
theorem kX11_count : a_lnk mX11_count 1 := ⟨plainFor_of_name plnX11, neqX11, by decide +kernel, iniX11, List.mem_filter.mpr ⟨t6 (List.mem_of_getElem? (i := 41) rfl), rfl⟩, by decide⟩
def mX11_pair : aMth := (yX11_pair, cX11_pair, 3, (some .int))
theorem kX11_pair : a_lnk mX11_pair 2 := ⟨plainFor_of_name plnX11, neqX11, by decide +kernel, iniX11, List.mem_filter.mpr ⟨t6 (List.mem_of_getElem? (i := 50) rfl), rfl⟩, by decide⟩
def mX12_init : aMth := (yX12_init, cX12_init, 1, none)
theorem iniX12 : Cond.initialized RX12 ∈ aG := List.mem_filter.mpr ⟨t1 (List.mem_of_getElem? (i := 13) rfl), rfl⟩
theorem neqX12 : RX12 ≠ "java/lang/invoke/MethodHandle" ∧ RX12 ≠ "java/lang/invoke/VarHandle" := ⟨by decide +kernel, by decide +kernel⟩
theorem plnX12 : plainName RX12 = true := by decide +kernel
theorem kX12_init : a_lnk mX12_init 0 := ⟨plainFor_of_name plnX12, neqX12, by decide +kernel, iniX12, List.mem_filter.mpr ⟨t6 (List.mem_of_getElem? (i := 116) rfl), rfl⟩, by decide⟩
def mX12_thrown : aMth := (yX12_thrown, cX12_thrown, 1, (some .int))
theorem kX12_thrown : a_lnk mX12_thrown 0 := ⟨plainFor_of_name plnX12, neqX12, by decide +kernel, iniX12, List.mem_filter.mpr ⟨t6 (List.mem_of_getElem? (i := 215) rfl), rfl⟩, by decide⟩
def mX12_feed : aMth := (yX12_feed, cX12_feed, 9, (some .int))
theorem kX12_feed : a_lnk mX12_feed 5 := ⟨plainFor_of_name plnX12, neqX12, by decide +kernel, iniX12, List.mem_filter.mpr ⟨t6 (List.mem_of_getElem? (i := 219) rfl), rfl⟩, by decide⟩
def mX12_byteOf : aMth := (yX12_byteOf, cX12_byteOf, 7, (some .int))
theorem kX12_byteOf : a_lnk mX12_byteOf 6 := ⟨plainFor_of_name plnX12, neqX12, by decide +kernel, iniX12, List.mem_filter.mpr ⟨t6 (List.mem_of_getElem? (i := 222) rfl), rfl⟩, by decide⟩
def mX12_end : aMth := (yX12_end, cX12_end, 2, (some .boolean))
theorem kX12_end : a_lnk mX12_end 1 := ⟨plainFor_of_name plnX12, neqX12, by decide +kernel, iniX12, List.mem_filter.mpr ⟨t6 (List.mem_of_getElem? (i := 226) rfl), rfl⟩, by decide⟩
def mX12_in : aMth := (yX12_in, cX12_in, 3, (some .boolean))
theorem kX12_in : a_lnk mX12_in 3 := ⟨plainFor_of_name plnX12, neqX12, by decide +kernel, iniX12, List.mem_filter.mpr ⟨t6 (List.mem_of_getElem? (i := 229) rfl), rfl⟩, by decide⟩
def mX12_fault : aMth := (yX12_fault, cX12_fault, 2, (some .int))
theorem kX12_fault : a_lnk mX12_fault 1 := ⟨plainFor_of_name plnX12, neqX12, by decide +kernel, iniX12, List.mem_filter.mpr ⟨t6 (List.mem_of_getElem? (i := 233) rfl), rfl⟩, by decide⟩
def mX12_readMesh : aMth := (yX12_readMesh, cX12_readMesh, 4, (some .int))
theorem kX12_readMesh : a_lnk mX12_readMesh 0 := ⟨plainFor_of_name plnX12, neqX12, by decide +kernel, iniX12, List.mem_filter.mpr ⟨t6 (List.mem_of_getElem? (i := 237) rfl), rfl⟩, by decide⟩
def mX12_usual : aMth := (yX12_usual, cX12_usual, 2, (some .int))
theorem kX12_usual : a_lnk mX12_usual 2 := ⟨plainFor_of_name plnX12, neqX12, by decide +kernel, iniX12, List.mem_filter.mpr ⟨t7 (List.mem_of_getElem? (i := 0) rfl), rfl⟩, by decide⟩
def mX12_ahead : aMth := (yX12_ahead, cX12_ahead, 1, (some .int))
theorem kX12_ahead : a_lnk mX12_ahead 0 := ⟨plainFor_of_name plnX12, neqX12, by decide +kernel, iniX12, List.mem_filter.mpr ⟨t7 (List.mem_of_getElem? (i := 4) rfl), rfl⟩, by decide⟩
def mX12_here : aMth := (yX12_here, cX12_here, 1, (some .int))
theorem kX12_here : a_lnk mX12_here 0 := ⟨plainFor_of_name plnX12, neqX12, by decide +kernel, iniX12, List.mem_filter.mpr ⟨t7 (List.mem_of_getElem? (i := 8) rfl), rfl⟩, by decide⟩
def mX12_items : aMth := (yX12_items, cX12_items, 7, none)
theorem kX12_items : a_lnk mX12_items 4 := ⟨plainFor_of_name plnX12, neqX12, by decide +kernel, iniX12, List.mem_filter.mpr ⟨t7 (List.mem_of_getElem? (i := 12) rfl), rfl⟩, by decide⟩
def mX12_itemOf : aMth := (yX12_itemOf, cX12_itemOf, 2, (some .int))
theorem kX12_itemOf : a_lnk mX12_itemOf 2 := ⟨plainFor_of_name plnX12, neqX12, by decide +kernel, iniX12, List.mem_filter.mpr ⟨t7 (List.mem_of_getElem? (i := 15) rfl), rfl⟩, by decide⟩
def mX12_has : aMth := (yX12_has, cX12_has, 2, (some .boolean))
theorem kX12_has : a_lnk mX12_has 2 := ⟨plainFor_of_name plnX12, neqX12, by decide +kernel, iniX12, List.mem_filter.mpr ⟨t7 (List.mem_of_getElem? (i := 18) rfl), rfl⟩, by decide⟩
def mX12_lowest : aMth := (yX12_lowest, cX12_lowest, 2, (some .int))
theorem kX12_lowest : a_lnk mX12_lowest 2 := ⟨plainFor_of_name plnX12, neqX12, by decide +kernel, iniX12, List.mem_filter.mpr ⟨t7 (List.mem_of_getElem? (i := 21) rfl), rfl⟩, by decide⟩
def mX12_highest : aMth := (yX12_highest, cX12_highest, 2, (some .int))
theorem kX12_highest : a_lnk mX12_highest 2 := ⟨plainFor_of_name plnX12, neqX12, by decide +kernel, iniX12, List.mem_filter.mpr ⟨t7 (List.mem_of_getElem? (i := 24) rfl), rfl⟩, by decide⟩
def mX12_number : aMth := (yX12_number, cX12_number, 4, (some .int))
theorem kX12_number : a_lnk mX12_number 2 := ⟨plainFor_of_name plnX12, neqX12, by decide +kernel, iniX12, List.mem_filter.mpr ⟨t7 (List.mem_of_getElem? (i := 28) rfl), rfl⟩, by decide⟩
def mX12_isDigit : aMth := (yX12_isDigit, cX12_isDigit, 1, (some .boolean))
theorem kX12_isDigit : a_lnk mX12_isDigit 1 := ⟨plainFor_of_name plnX12, neqX12, by decide +kernel, iniX12, List.mem_filter.mpr ⟨t7 (List.mem_of_getElem? (i := 31) rfl), rfl⟩, by decide⟩
def mX12_bad : aMth := (yX12_bad, cX12_bad, 1, none)
theorem kX12_bad : a_lnk mX12_bad 0 := ⟨plainFor_of_name plnX12, neqX12, by decide +kernel, iniX12, List.mem_filter.mpr ⟨t7 (List.mem_of_getElem? (i := 35) rfl), rfl⟩, by decide⟩
def mX12_isWhole : aMth := (yX12_isWhole, cX12_isWhole, 4, (some .boolean))
theorem kX12_isWhole : a_lnk mX12_isWhole 0 := ⟨plainFor_of_name plnX12, neqX12, by decide +kernel, iniX12, List.mem_filter.mpr ⟨t7 (List.mem_of_getElem? (i := 39) rfl), rfl⟩, by decide⟩
def mX12_readHops : aMth := (yX12_readHops, cX12_readHops, 1, (some .int))
theorem kX12_readHops : a_lnk mX12_readHops 0 := ⟨plainFor_of_name plnX12, neqX12, by decide +kernel, iniX12, List.mem_filter.mpr ⟨t7 (List.mem_of_getElem? (i := 43) rfl), rfl⟩, by decide⟩
def mX12_text : aMth := (yX12_text, cX12_text, 2, (some .int))
theorem kX12_text : a_lnk mX12_text 1 := ⟨plainFor_of_name plnX12, neqX12, by decide +kernel, iniX12, List.mem_filter.mpr ⟨t7 (List.mem_of_getElem? (i := 47) rfl), rfl⟩, by decide⟩
def mX12_takeMesh : aMth := (yX12_takeMesh, cX12_takeMesh, 2, (some .int))
theorem kX12_takeMesh : a_lnk mX12_takeMesh 0 := ⟨plainFor_of_name plnX12, neqX12, by decide +kernel, iniX12, List.mem_filter.mpr ⟨t7 (List.mem_of_getElem? (i := 51) rfl), rfl⟩, by decide⟩
def mX12_set : aMth := (yX12_set, cX12_set, 4, none)
theorem kX12_set : a_lnk mX12_set 3 := ⟨plainFor_of_name plnX12, neqX12, by decide +kernel, iniX12, List.mem_filter.mpr ⟨t7 (List.mem_of_getElem? (i := 55) rfl), rfl⟩, by decide⟩
def mX12_takeHops : aMth := (yX12_takeHops, cX12_takeHops, 2, (some .int))
theorem kX12_takeHops : a_lnk mX12_takeHops 0 := ⟨plainFor_of_name plnX12, neqX12, by decide +kernel, iniX12, List.mem_filter.mpr ⟨t7 (List.mem_of_getElem? (i := 59) rfl), rfl⟩, by decide⟩
def mX12_rule : aMth := (yX12_rule, cX12_rule, 2, (some .int))
theorem kX12_rule : a_lnk mX12_rule 1 := ⟨plainFor_of_name plnX12, neqX12, by decide +kernel, iniX12, List.mem_filter.mpr ⟨t7 (List.mem_of_getElem? (i := 63) rfl), rfl⟩, by decide⟩
def mX12_pair : aMth := (yX12_pair, cX12_pair, 3, (some .int))
theorem kX12_pair : a_lnk mX12_pair 2 := ⟨plainFor_of_name plnX12, neqX12, by decide +kernel, iniX12, List.mem_filter.mpr ⟨t7 (List.mem_of_getElem? (i := 67) rfl), rfl⟩, by decide⟩
def mX12_isPair : aMth := (yX12_isPair, cX12_isPair, 2, (some .boolean))
theorem kX12_isPair : a_lnk mX12_isPair 1 := ⟨plainFor_of_name plnX12, neqX12, by decide +kernel, iniX12, List.mem_filter.mpr ⟨t7 (List.mem_of_getElem? (i := 71) rfl), rfl⟩, by decide⟩
def mX12_of : aMth := (yX12_of, cX12_of, 3, (some .int))
theorem kX12_of : a_lnk mX12_of 2 := ⟨plainFor_of_name plnX12, neqX12, by decide +kernel, iniX12, List.mem_filter.mpr ⟨t7 (List.mem_of_getElem? (i := 75) rfl), rfl⟩, by decide⟩
def mX12_manyOf : aMth := (yX12_manyOf, cX12_manyOf, 3, (some .int))
theorem kX12_manyOf : a_lnk mX12_manyOf 2 := ⟨plainFor_of_name plnX12, neqX12, by decide +kernel, iniX12, List.mem_filter.mpr ⟨t7 (List.mem_of_getElem? (i := 79) rfl), rfl⟩, by decide⟩
def mX12_cell : aMth := (yX12_cell, cX12_cell, 5, (some .int))
theorem kX12_cell : a_lnk mX12_cell 4 := ⟨plainFor_of_name plnX12, neqX12, by decide +kernel, iniX12, List.mem_filter.mpr ⟨t7 (List.mem_of_getElem? (i := 83) rfl), rfl⟩, by decide⟩
def mX12_cellOf : aMth := (yX12_cellOf, cX12_cellOf, 4, (some .int))
theorem kX12_cellOf : a_lnk mX12_cellOf 3 := ⟨plainFor_of_name plnX12, neqX12, by decide +kernel, iniX12, List.mem_filter.mpr ⟨t7 (List.mem_of_getElem? (i := 87) rfl), rfl⟩, by decide⟩
def mX12_waits : aMth := (yX12_waits, cX12_waits, 5, (some .int))
theorem kX12_waits : a_lnk mX12_waits 3 := ⟨plainFor_of_name plnX12, neqX12, by decide +kernel, iniX12, List.mem_filter.mpr ⟨t7 (List.mem_of_getElem? (i := 91) rfl), rfl⟩, by decide⟩
def mX12_letter : aMth := (yX12_letter, cX12_letter, 3, (some .int))
theorem kX12_letter : a_lnk mX12_letter 2 := ⟨plainFor_of_name plnX12, neqX12, by decide +kernel, iniX12, List.mem_filter.mpr ⟨t7 (List.mem_of_getElem? (i := 95) rfl), rfl⟩, by decide⟩
def mX12_channel : aMth := (yX12_channel, cX12_channel, 3, (some .int))
theorem kX12_channel : a_lnk mX12_channel 2 := ⟨plainFor_of_name plnX12, neqX12, by decide +kernel, iniX12, List.mem_filter.mpr ⟨t7 (List.mem_of_getElem? (i := 99) rfl), rfl⟩, by decide⟩
def mX12_isCell : aMth := (yX12_isCell, cX12_isCell, 2, (some .boolean))
theorem kX12_isCell : a_lnk mX12_isCell 1 := ⟨plainFor_of_name plnX12, neqX12, by decide +kernel, iniX12, List.mem_filter.mpr ⟨t7 (List.mem_of_getElem? (i := 103) rfl), rfl⟩, by decide⟩
def mX12_channelOf : aMth := (yX12_channelOf, cX12_channelOf, 4, (some .int))
theorem kX12_channelOf : a_lnk mX12_channelOf 2 := ⟨plainFor_of_name plnX12, neqX12, by decide +kernel, iniX12, List.mem_filter.mpr ⟨t7 (List.mem_of_getElem? (i := 107) rfl), rfl⟩, by decide⟩
def mX12_loss : aMth := (yX12_loss, cX12_loss, 2, (some .boolean))
theorem kX12_loss : a_lnk mX12_loss 1 := ⟨plainFor_of_name plnX12, neqX12, by decide +kernel, iniX12, List.mem_filter.mpr ⟨t7 (List.mem_of_getElem? (i := 111) rfl), rfl⟩, by decide⟩
def mX12_frames : aMth := (yX12_frames, cX12_frames, 3, (some .int))
theorem kX12_frames : a_lnk mX12_frames 1 := ⟨plainFor_of_name plnX12, neqX12, by decide +kernel, iniX12, List.mem_filter.mpr ⟨t7 (List.mem_of_getElem? (i := 115) rfl), rfl⟩, by decide⟩
def mX12_areFrames : aMth := (yX12_areFrames, cX12_areFrames, 2, (some .boolean))
theorem kX12_areFrames : a_lnk mX12_areFrames 1 := ⟨plainFor_of_name plnX12, neqX12, by decide +kernel, iniX12, List.mem_filter.mpr ⟨t7 (List.mem_of_getElem? (i := 119) rfl), rfl⟩, by decide⟩
def mX12_isRefused : aMth := (yX12_isRefused, cX12_isRefused, 2, (some .boolean))
theorem kX12_isRefused : a_lnk mX12_isRefused 1 := ⟨plainFor_of_name plnX12, neqX12, by decide +kernel, iniX12, List.mem_filter.mpr ⟨t7 (List.mem_of_getElem? (i := 123) rfl), rfl⟩, by decide⟩
def mX12_keep : aMth := (yX12_keep, cX12_keep, 2, none)
theorem kX12_keep : a_lnk mX12_keep 0 := ⟨plainFor_of_name plnX12, neqX12, by decide +kernel, iniX12, List.mem_filter.mpr ⟨t7 (List.mem_of_getElem? (i := 127) rfl), rfl⟩, by decide⟩
def mX12_passFrame : aMth := (yX12_passFrame, cX12_passFrame, 2, none)
theorem kX12_passFrame : a_lnk mX12_passFrame 0 := ⟨plainFor_of_name plnX12, neqX12, by decide +kernel, iniX12, List.mem_filter.mpr ⟨t7 (List.mem_of_getElem? (i := 131) rfl), rfl⟩, by decide⟩
def mX12_live : aMth := (yX12_live, cX12_live, 2, none)
theorem kX12_live : a_lnk mX12_live 0 := ⟨plainFor_of_name plnX12, neqX12, by decide +kernel, iniX12, List.mem_filter.mpr ⟨t7 (List.mem_of_getElem? (i := 135) rfl), rfl⟩, by decide⟩
def mX12_readLetters : aMth := (yX12_readLetters, cX12_readLetters, 2, none)
theorem kX12_readLetters : a_lnk mX12_readLetters 0 := ⟨plainFor_of_name plnX12, neqX12, by decide +kernel, iniX12, List.mem_filter.mpr ⟨t7 (List.mem_of_getElem? (i := 139) rfl), rfl⟩, by decide⟩
def mX12_readRequest : aMth := (yX12_readRequest, cX12_readRequest, 6, none)
theorem kX12_readRequest : a_lnk mX12_readRequest 1 := ⟨plainFor_of_name plnX12, neqX12, by decide +kernel, iniX12, List.mem_filter.mpr ⟨t7 (List.mem_of_getElem? (i := 143) rfl), rfl⟩, by decide⟩
def mX12_layTold : aMth := (yX12_layTold, cX12_layTold, 3, none)
theorem kX12_layTold : a_lnk mX12_layTold 1 := ⟨plainFor_of_name plnX12, neqX12, by decide +kernel, iniX12, List.mem_filter.mpr ⟨t7 (List.mem_of_getElem? (i := 147) rfl), rfl⟩, by decide⟩
def mX12_waitNoMore : aMth := (yX12_waitNoMore, cX12_waitNoMore, 3, none)
theorem kX12_waitNoMore : a_lnk mX12_waitNoMore 2 := ⟨plainFor_of_name plnX12, neqX12, by decide +kernel, iniX12, List.mem_filter.mpr ⟨t7 (List.mem_of_getElem? (i := 151) rfl), rfl⟩, by decide⟩
def mX12_write : aMth := (yX12_write, cX12_write, 6, none)
theorem kX12_write : a_lnk mX12_write 5 := ⟨plainFor_of_name plnX12, neqX12, by decide +kernel, iniX12, List.mem_filter.mpr ⟨t7 (List.mem_of_getElem? (i := 155) rfl), rfl⟩, by decide⟩
def mX12_emptyTable : aMth := (yX12_emptyTable, cX12_emptyTable, 3, none)
theorem kX12_emptyTable : a_lnk mX12_emptyTable 2 := ⟨plainFor_of_name plnX12, neqX12, by decide +kernel, iniX12, List.mem_filter.mpr ⟨t7 (List.mem_of_getElem? (i := 159) rfl), rfl⟩, by decide⟩
def mX12_isTwoStep : aMth := (yX12_isTwoStep, cX12_isTwoStep, 2, (some .boolean))
theorem kX12_isTwoStep : a_lnk mX12_isTwoStep 1 := ⟨plainFor_of_name plnX12, neqX12, by decide +kernel, iniX12, List.mem_filter.mpr ⟨t7 (List.mem_of_getElem? (i := 163) rfl), rfl⟩, by decide⟩
def mX12_nodeOf : aMth := (yX12_nodeOf, cX12_nodeOf, 3, (some .int))
theorem kX12_nodeOf : a_lnk mX12_nodeOf 2 := ⟨plainFor_of_name plnX12, neqX12, by decide +kernel, iniX12, List.mem_filter.mpr ⟨t7 (List.mem_of_getElem? (i := 167) rfl), rfl⟩, by decide⟩
def mX12_layOffers : aMth := (yX12_layOffers, cX12_layOffers, 7, (some .int))
theorem kX12_layOffers : a_lnk mX12_layOffers 3 := ⟨plainFor_of_name plnX12, neqX12, by decide +kernel, iniX12, List.mem_filter.mpr ⟨t7 (List.mem_of_getElem? (i := 171) rfl), rfl⟩, by decide⟩
def mX12_isTaken : aMth := (yX12_isTaken, cX12_isTaken, 7, (some .boolean))
theorem kX12_isTaken : a_lnk mX12_isTaken 2 := ⟨plainFor_of_name plnX12, neqX12, by decide +kernel, iniX12, List.mem_filter.mpr ⟨t7 (List.mem_of_getElem? (i := 175) rfl), rfl⟩, by decide⟩
def mX12_writeOffers : aMth := (yX12_writeOffers, cX12_writeOffers, 4, none)
theorem kX12_writeOffers : a_lnk mX12_writeOffers 2 := ⟨plainFor_of_name plnX12, neqX12, by decide +kernel, iniX12, List.mem_filter.mpr ⟨t7 (List.mem_of_getElem? (i := 180) rfl), rfl⟩, by decide⟩
def mX12_writeCell : aMth := (yX12_writeCell, cX12_writeCell, 3, none)
theorem kX12_writeCell : a_lnk mX12_writeCell 2 := ⟨plainFor_of_name plnX12, neqX12, by decide +kernel, iniX12, List.mem_filter.mpr ⟨t7 (List.mem_of_getElem? (i := 184) rfl), rfl⟩, by decide⟩
def mX12_promise : aMth := (yX12_promise, cX12_promise, 5, none)
theorem kX12_promise : a_lnk mX12_promise 3 := ⟨plainFor_of_name plnX12, neqX12, by decide +kernel, iniX12, List.mem_filter.mpr ⟨t7 (List.mem_of_getElem? (i := 188) rfl), rfl⟩, by decide⟩
def mX12_waitFor : aMth := (yX12_waitFor, cX12_waitFor, 3, none)
theorem kX12_waitFor : a_lnk mX12_waitFor 2 := ⟨plainFor_of_name plnX12, neqX12, by decide +kernel, iniX12, List.mem_filter.mpr ⟨t7 (List.mem_of_getElem? (i := 192) rfl), rfl⟩, by decide⟩
def mX12_takeIn : aMth := (yX12_takeIn, cX12_takeIn, 6, none)
theorem kX12_takeIn : a_lnk mX12_takeIn 3 := ⟨plainFor_of_name plnX12, neqX12, by decide +kernel, iniX12, List.mem_filter.mpr ⟨t7 (List.mem_of_getElem? (i := 196) rfl), rfl⟩, by decide⟩
def mX12_insert : aMth := (yX12_insert, cX12_insert, 6, none)
theorem kX12_insert : a_lnk mX12_insert 3 := ⟨plainFor_of_name plnX12, neqX12, by decide +kernel, iniX12, List.mem_filter.mpr ⟨t7 (List.mem_of_getElem? (i := 200) rfl), rfl⟩, by decide⟩
def mX12_placeIn : aMth := (yX12_placeIn, cX12_placeIn, 5, (some .int))
theorem kX12_placeIn : a_lnk mX12_placeIn 3 := ⟨plainFor_of_name plnX12, neqX12, by decide +kernel, iniX12, List.mem_filter.mpr ⟨t7 (List.mem_of_getElem? (i := 204) rfl), rfl⟩, by decide⟩
def mX12_shift : aMth := (yX12_shift, cX12_shift, 5, none)
theorem kX12_shift : a_lnk mX12_shift 4 := ⟨plainFor_of_name plnX12, neqX12, by decide +kernel, iniX12, List.mem_filter.mpr ⟨t7 (List.mem_of_getElem? (i := 208) rfl), rfl⟩, by decide⟩
def mX12_readMove : aMth := (yX12_readMove, cX12_readMove, 3, none)
theorem kX12_readMove : a_lnk mX12_readMove 1 := ⟨plainFor_of_name plnX12, neqX12, by decide +kernel, iniX12, List.mem_filter.mpr ⟨t7 (List.mem_of_getElem? (i := 212) rfl), rfl⟩, by decide⟩
def mX12_remove : aMth := (yX12_remove, cX12_remove, 6, none)
theorem kX12_remove : a_lnk mX12_remove 3 := ⟨plainFor_of_name plnX12, neqX12, by decide +kernel, iniX12, List.mem_filter.mpr ⟨t7 (List.mem_of_getElem? (i := 216) rfl), rfl⟩, by decide⟩
def mX12_answerTaken : aMth := (yX12_answerTaken, cX12_answerTaken, 2, none)
theorem kX12_answerTaken : a_lnk mX12_answerTaken 1 := ⟨plainFor_of_name plnX12, neqX12, by decide +kernel, iniX12, List.mem_filter.mpr ⟨t7 (List.mem_of_getElem? (i := 220) rfl), rfl⟩, by decide⟩
def mX12_stepOn : aMth := (yX12_stepOn, cX12_stepOn, 3, none)
theorem kX12_stepOn : a_lnk mX12_stepOn 2 := ⟨plainFor_of_name plnX12, neqX12, by decide +kernel, iniX12, List.mem_filter.mpr ⟨t7 (List.mem_of_getElem? (i := 224) rfl), rfl⟩, by decide⟩
def mX12_nextOf : aMth := (yX12_nextOf, cX12_nextOf, 1, (some .int))
theorem kX12_nextOf : a_lnk mX12_nextOf 1 := ⟨plainFor_of_name plnX12, neqX12, by decide +kernel, iniX12, List.mem_filter.mpr ⟨t7 (List.mem_of_getElem? (i := 227) rfl), rfl⟩, by decide⟩
def mX12_readAnswer : aMth := (yX12_readAnswer, cX12_readAnswer, 5, none)
theorem kX12_readAnswer : a_lnk mX12_readAnswer 1 := ⟨plainFor_of_name plnX12, neqX12, by decide +kernel, iniX12, List.mem_filter.mpr ⟨t7 (List.mem_of_getElem? (i := 231) rfl), rfl⟩, by decide⟩
def mX12_begin : aMth := (yX12_begin, cX12_begin, 7, none)
theorem kX12_begin : a_lnk mX12_begin 3 := ⟨plainFor_of_name plnX12, neqX12, by decide +kernel, iniX12, List.mem_filter.mpr ⟨t7 (List.mem_of_getElem? (i := 235) rfl), rfl⟩, by decide⟩
def mX12_manyFor : aMth := (yX12_manyFor, cX12_manyFor, 5, (some .int))
theorem kX12_manyFor : a_lnk mX12_manyFor 3 := ⟨plainFor_of_name plnX12, neqX12, by decide +kernel, iniX12, List.mem_filter.mpr ⟨t7 (List.mem_of_getElem? (i := 239) rfl), rfl⟩, by decide⟩
def mX12_canDeal : aMth := (yX12_canDeal, cX12_canDeal, 2, (some .boolean))
theorem kX12_canDeal : a_lnk mX12_canDeal 1 := ⟨plainFor_of_name plnX12, neqX12, by decide +kernel, iniX12, List.mem_filter.mpr ⟨t8 (List.mem_of_getElem? (i := 3) rfl), rfl⟩, by decide⟩
def mX12_readOk : aMth := (yX12_readOk, cX12_readOk, 5, none)
theorem kX12_readOk : a_lnk mX12_readOk 3 := ⟨plainFor_of_name plnX12, neqX12, by decide +kernel, iniX12, List.mem_filter.mpr ⟨t8 (List.mem_of_getElem? (i := 7) rfl), rfl⟩, by decide⟩
def mX12_readConfirm : aMth := (yX12_readConfirm, cX12_readConfirm, 3, none)
theorem kX12_readConfirm : a_lnk mX12_readConfirm 1 := ⟨plainFor_of_name plnX12, neqX12, by decide +kernel, iniX12, List.mem_filter.mpr ⟨t8 (List.mem_of_getElem? (i := 11) rfl), rfl⟩, by decide⟩
def mX12_timeOut : aMth := (yX12_timeOut, cX12_timeOut, 3, none)
theorem kX12_timeOut : a_lnk mX12_timeOut 0 := ⟨plainFor_of_name plnX12, neqX12, by decide +kernel, iniX12, List.mem_filter.mpr ⟨t8 (List.mem_of_getElem? (i := 15) rfl), rfl⟩, by decide⟩
def mX12_sendAll : aMth := (yX12_sendAll, cX12_sendAll, 3, none)
theorem kX12_sendAll : a_lnk mX12_sendAll 0 := ⟨plainFor_of_name plnX12, neqX12, by decide +kernel, iniX12, List.mem_filter.mpr ⟨t8 (List.mem_of_getElem? (i := 19) rfl), rfl⟩, by decide⟩
def mX12_isGot : aMth := (yX12_isGot, cX12_isGot, 5, (some .boolean))
theorem kX12_isGot : a_lnk mX12_isGot 2 := ⟨plainFor_of_name plnX12, neqX12, by decide +kernel, iniX12, List.mem_filter.mpr ⟨t8 (List.mem_of_getElem? (i := 23) rfl), rfl⟩, by decide⟩
def mX12_doesSend : aMth := (yX12_doesSend, cX12_doesSend, 4, (some .boolean))
theorem kX12_doesSend : a_lnk mX12_doesSend 2 := ⟨plainFor_of_name plnX12, neqX12, by decide +kernel, iniX12, List.mem_filter.mpr ⟨t8 (List.mem_of_getElem? (i := 27) rfl), rfl⟩, by decide⟩
def mX12_windowOf : aMth := (yX12_windowOf, cX12_windowOf, 5, none)
theorem kX12_windowOf : a_lnk mX12_windowOf 1 := ⟨plainFor_of_name plnX12, neqX12, by decide +kernel, iniX12, List.mem_filter.mpr ⟨t8 (List.mem_of_getElem? (i := 31) rfl), rfl⟩, by decide⟩
def mX12_badPlace : aMth := (yX12_badPlace, cX12_badPlace, 5, (some .int))
theorem kX12_badPlace : a_lnk mX12_badPlace 1 := ⟨plainFor_of_name plnX12, neqX12, by decide +kernel, iniX12, List.mem_filter.mpr ⟨t8 (List.mem_of_getElem? (i := 35) rfl), rfl⟩, by decide⟩
def mX12_isLess : aMth := (yX12_isLess, cX12_isLess, 5, (some .boolean))
theorem kX12_isLess : a_lnk mX12_isLess 4 := ⟨plainFor_of_name plnX12, neqX12, by decide +kernel, iniX12, List.mem_filter.mpr ⟨t8 (List.mem_of_getElem? (i := 39) rfl), rfl⟩, by decide⟩
def mX12_letterPairs : aMth := (yX12_letterPairs, cX12_letterPairs, 3, (some .int))
theorem kX12_letterPairs : a_lnk mX12_letterPairs 0 := ⟨plainFor_of_name plnX12, neqX12, by decide +kernel, iniX12, List.mem_filter.mpr ⟨t8 (List.mem_of_getElem? (i := 43) rfl), rfl⟩, by decide⟩
def mJ6_bitCount_0f7a4 : aMth := (yJ6_bitCount_0f7a4, cJ6_bitCount_0f7a4, 1, (some .int))
theorem iniJ6 : Cond.initialized RJ6 ∈ aG := List.mem_filter.mpr ⟨t1 (List.mem_of_getElem? (i := 26) rfl), rfl⟩
theorem neqJ6 : RJ6 ≠ "java/lang/invoke/MethodHandle" ∧ RJ6 ≠ "java/lang/invoke/VarHandle" := ⟨by decide +kernel, by decide +kernel⟩
theorem kJ6_bitCount_0f7a4 : a_lnk mJ6_bitCount_0f7a4 1 := ⟨by decide +kernel, neqJ6, by decide +kernel, iniJ6, List.mem_filter.mpr ⟨t8 (List.mem_of_getElem? (i := 46) rfl), rfl⟩, by decide⟩
def mX12_sharedCells : aMth := (yX12_sharedCells, cX12_sharedCells, 4, (some .int))
theorem kX12_sharedCells : a_lnk mX12_sharedCells 0 := ⟨plainFor_of_name plnX12, neqX12, by decide +kernel, iniX12, List.mem_filter.mpr ⟨t8 (List.mem_of_getElem? (i := 53) rfl), rfl⟩, by decide⟩
def mX12_deal : aMth := (yX12_deal, cX12_deal, 4, (some .int))
theorem kX12_deal : a_lnk mX12_deal 3 := ⟨plainFor_of_name plnX12, neqX12, by decide +kernel, iniX12, List.mem_filter.mpr ⟨t8 (List.mem_of_getElem? (i := 57) rfl), rfl⟩, by decide⟩
def mX12_isAsked : aMth := (yX12_isAsked, cX12_isAsked, 2, (some .boolean))
theorem kX12_isAsked : a_lnk mX12_isAsked 2 := ⟨plainFor_of_name plnX12, neqX12, by decide +kernel, iniX12, List.mem_filter.mpr ⟨t8 (List.mem_of_getElem? (i := 60) rfl), rfl⟩, by decide⟩
def mX12_lose : aMth := (yX12_lose, cX12_lose, 2, (some .int))
theorem kX12_lose : a_lnk mX12_lose 1 := ⟨plainFor_of_name plnX12, neqX12, by decide +kernel, iniX12, List.mem_filter.mpr ⟨t8 (List.mem_of_getElem? (i := 64) rfl), rfl⟩, by decide⟩
def mX12_jam : aMth := (yX12_jam, cX12_jam, 2, (some .int))
theorem kX12_jam : a_lnk mX12_jam 1 := ⟨plainFor_of_name plnX12, neqX12, by decide +kernel, iniX12, List.mem_filter.mpr ⟨t8 (List.mem_of_getElem? (i := 68) rfl), rfl⟩, by decide⟩
def mX12_load : aMth := (yX12_load, cX12_load, 4, (some .int))
theorem kX12_load : a_lnk mX12_load 2 := ⟨plainFor_of_name plnX12, neqX12, by decide +kernel, iniX12, List.mem_filter.mpr ⟨t8 (List.mem_of_getElem? (i := 72) rfl), rfl⟩, by decide⟩
def mX12_auto : aMth := (yX12_auto, cX12_auto, 1, (some .int))
theorem kX12_auto : a_lnk mX12_auto 0 := ⟨plainFor_of_name plnX12, neqX12, by decide +kernel, iniX12, List.mem_filter.mpr ⟨t8 (List.mem_of_getElem? (i := 76) rfl), rfl⟩, by decide⟩
def mX12_years : aMth := (yX12_years, cX12_years, 5, (some .int))
theorem kX12_years : a_lnk mX12_years 2 := ⟨plainFor_of_name plnX12, neqX12, by decide +kernel, iniX12, List.mem_filter.mpr ⟨t8 (List.mem_of_getElem? (i := 80) rfl), rfl⟩, by decide⟩
def mX12_drawFrame : aMth := (yX12_drawFrame, cX12_drawFrame, 1, none)
theorem kX12_drawFrame : a_lnk mX12_drawFrame 0 := ⟨plainFor_of_name plnX12, neqX12, by decide +kernel, iniX12, List.mem_filter.mpr ⟨t8 (List.mem_of_getElem? (i := 84) rfl), rfl⟩, by decide⟩
def mX12_draw : aMth := (yX12_draw, cX12_draw, 2, (some .int))
theorem kX12_draw : a_lnk mX12_draw 1 := ⟨plainFor_of_name plnX12, neqX12, by decide +kernel, iniX12, List.mem_filter.mpr ⟨t8 (List.mem_of_getElem? (i := 88) rfl), rfl⟩, by decide⟩
def mX12_status : aMth := (yX12_status, cX12_status, 2, (some .int))
theorem kX12_status : a_lnk mX12_status 1 := ⟨plainFor_of_name plnX12, neqX12, by decide +kernel, iniX12, List.mem_filter.mpr ⟨t8 (List.mem_of_getElem? (i := 94) rfl), rfl⟩, by decide⟩
def mX12_undo : aMth := (yX12_undo, cX12_undo, 2, (some .int))
theorem kX12_undo : a_lnk mX12_undo 0 := ⟨plainFor_of_name plnX12, neqX12, by decide +kernel, iniX12, List.mem_filter.mpr ⟨t8 (List.mem_of_getElem? (i := 98) rfl), rfl⟩, by decide⟩
def mX12_log : aMth := (yX12_log, cX12_log, 3, (some .int))
theorem kX12_log : a_lnk mX12_log 2 := ⟨plainFor_of_name plnX12, neqX12, by decide +kernel, iniX12, List.mem_filter.mpr ⟨t8 (List.mem_of_getElem? (i := 102) rfl), rfl⟩, by decide⟩
def mX12_offer : aMth := (yX12_offer, cX12_offer, 6, (some .int))
theorem kX12_offer : a_lnk mX12_offer 4 := ⟨plainFor_of_name plnX12, neqX12, by decide +kernel, iniX12, List.mem_filter.mpr ⟨t8 (List.mem_of_getElem? (i := 106) rfl), rfl⟩, by decide⟩
def mX12_comes : aMth := (yX12_comes, cX12_comes, 5, (some .int))
theorem kX12_comes : a_lnk mX12_comes 3 := ⟨plainFor_of_name plnX12, neqX12, by decide +kernel, iniX12, List.mem_filter.mpr ⟨t8 (List.mem_of_getElem? (i := 110) rfl), rfl⟩, by decide⟩
def mX12_putAside : aMth := (yX12_putAside, cX12_putAside, 3, none)
theorem kX12_putAside : a_lnk mX12_putAside 1 := ⟨plainFor_of_name plnX12, neqX12, by decide +kernel, iniX12, List.mem_filter.mpr ⟨t8 (List.mem_of_getElem? (i := 114) rfl), rfl⟩, by decide⟩
def mX12_takeBack : aMth := (yX12_takeBack, cX12_takeBack, 3, none)
theorem kX12_takeBack : a_lnk mX12_takeBack 1 := ⟨plainFor_of_name plnX12, neqX12, by decide +kernel, iniX12, List.mem_filter.mpr ⟨t8 (List.mem_of_getElem? (i := 118) rfl), rfl⟩, by decide⟩
def mX12_agree : aMth := (yX12_agree, cX12_agree, 2, (some .int))
theorem kX12_agree : a_lnk mX12_agree 1 := ⟨plainFor_of_name plnX12, neqX12, by decide +kernel, iniX12, List.mem_filter.mpr ⟨t8 (List.mem_of_getElem? (i := 122) rfl), rfl⟩, by decide⟩
def mX12_doesAgree : aMth := (yX12_doesAgree, cX12_doesAgree, 4, (some .boolean))
theorem kX12_doesAgree : a_lnk mX12_doesAgree 1 := ⟨plainFor_of_name plnX12, neqX12, by decide +kernel, iniX12, List.mem_filter.mpr ⟨t8 (List.mem_of_getElem? (i := 126) rfl), rfl⟩, by decide⟩
def mX12_healed : aMth := (yX12_healed, cX12_healed, 3, (some .int))
theorem kX12_healed : a_lnk mX12_healed 0 := ⟨plainFor_of_name plnX12, neqX12, by decide +kernel, iniX12, List.mem_filter.mpr ⟨t8 (List.mem_of_getElem? (i := 130) rfl), rfl⟩, by decide⟩
def mX12_atOdds : aMth := (yX12_atOdds, cX12_atOdds, 3, (some .int))
theorem kX12_atOdds : a_lnk mX12_atOdds 0 := ⟨plainFor_of_name plnX12, neqX12, by decide +kernel, iniX12, List.mem_filter.mpr ⟨t8 (List.mem_of_getElem? (i := 134) rfl), rfl⟩, by decide⟩
def mX12_steady : aMth := (yX12_steady, cX12_steady, 4, (some .int))
theorem kX12_steady : a_lnk mX12_steady 0 := ⟨plainFor_of_name plnX12, neqX12, by decide +kernel, iniX12, List.mem_filter.mpr ⟨t8 (List.mem_of_getElem? (i := 138) rfl), rfl⟩, by decide⟩
def mX12_cellRow : aMth := (yX12_cellRow, cX12_cellRow, 3, (some .int))
theorem kX12_cellRow : a_lnk mX12_cellRow 0 := ⟨plainFor_of_name plnX12, neqX12, by decide +kernel, iniX12, List.mem_filter.mpr ⟨t8 (List.mem_of_getElem? (i := 142) rfl), rfl⟩, by decide⟩
def mX12_harm : aMth := (yX12_harm, cX12_harm, 8, (some .int))
theorem kX12_harm : a_lnk mX12_harm 2 := ⟨plainFor_of_name plnX12, neqX12, by decide +kernel, iniX12, List.mem_filter.mpr ⟨t8 (List.mem_of_getElem? (i := 146) rfl), rfl⟩, by decide⟩
def mX12_harmOf : aMth := (yX12_harmOf, cX12_harmOf, 6, (some .int))
theorem kX12_harmOf : a_lnk mX12_harmOf 2 := ⟨plainFor_of_name plnX12, neqX12, by decide +kernel, iniX12, List.mem_filter.mpr ⟨t8 (List.mem_of_getElem? (i := 150) rfl), rfl⟩, by decide⟩
def mX12_odds : aMth := (yX12_odds, cX12_odds, 3, (some .int))
theorem kX12_odds : a_lnk mX12_odds 2 := ⟨plainFor_of_name plnX12, neqX12, by decide +kernel, iniX12, List.mem_filter.mpr ⟨t8 (List.mem_of_getElem? (i := 154) rfl), rfl⟩, by decide⟩
def mX12_oddsFrom : aMth := (yX12_oddsFrom, cX12_oddsFrom, 9, (some .int))
theorem kX12_oddsFrom : a_lnk mX12_oddsFrom 4 := ⟨plainFor_of_name plnX12, neqX12, by decide +kernel, iniX12, List.mem_filter.mpr ⟨t8 (List.mem_of_getElem? (i := 159) rfl), rfl⟩, by decide⟩
def mX12_shares : aMth := (yX12_shares, cX12_shares, 5, (some .int))
theorem kX12_shares : a_lnk mX12_shares 2 := ⟨plainFor_of_name plnX12, neqX12, by decide +kernel, iniX12, List.mem_filter.mpr ⟨t8 (List.mem_of_getElem? (i := 164) rfl), rfl⟩, by decide⟩
def mX12_gotOf : aMth := (yX12_gotOf, cX12_gotOf, 4, (some .int))
theorem kX12_gotOf : a_lnk mX12_gotOf 1 := ⟨plainFor_of_name plnX12, neqX12, by decide +kernel, iniX12, List.mem_filter.mpr ⟨t8 (List.mem_of_getElem? (i := 168) rfl), rfl⟩, by decide⟩
def mX12_node : aMth := (yX12_node, cX12_node, 6, (some .int))
theorem kX12_node : a_lnk mX12_node 2 := ⟨plainFor_of_name plnX12, neqX12, by decide +kernel, iniX12, List.mem_filter.mpr ⟨t8 (List.mem_of_getElem? (i := 172) rfl), rfl⟩, by decide⟩
def mX12_cellsAt : aMth := (yX12_cellsAt, cX12_cellsAt, 7, (some .int))
theorem kX12_cellsAt : a_lnk mX12_cellsAt 2 := ⟨plainFor_of_name plnX12, neqX12, by decide +kernel, iniX12, List.mem_filter.mpr ⟨t8 (List.mem_of_getElem? (i := 176) rfl), rfl⟩, by decide⟩
def mX12_most : aMth := (yX12_most, cX12_most, 2, (some .int))
theorem kX12_most : a_lnk mX12_most 1 := ⟨plainFor_of_name plnX12, neqX12, by decide +kernel, iniX12, List.mem_filter.mpr ⟨t8 (List.mem_of_getElem? (i := 180) rfl), rfl⟩, by decide⟩
def mX12_topBy : aMth := (yX12_topBy, cX12_topBy, 4, (some .int))
theorem kX12_topBy : a_lnk mX12_topBy 1 := ⟨plainFor_of_name plnX12, neqX12, by decide +kernel, iniX12, List.mem_filter.mpr ⟨t8 (List.mem_of_getElem? (i := 185) rfl), rfl⟩, by decide⟩
def mX12_firstBad : aMth := (yX12_firstBad, cX12_firstBad, 3, (some .int))
theorem kX12_firstBad : a_lnk mX12_firstBad 0 := ⟨plainFor_of_name plnX12, neqX12, by decide +kernel, iniX12, List.mem_filter.mpr ⟨t8 (List.mem_of_getElem? (i := 189) rfl), rfl⟩, by decide⟩
def mX12_onesWho : aMth := (yX12_onesWho, cX12_onesWho, 5, (some .int))
theorem kX12_onesWho : a_lnk mX12_onesWho 1 := ⟨plainFor_of_name plnX12, neqX12, by decide +kernel, iniX12, List.mem_filter.mpr ⟨t8 (List.mem_of_getElem? (i := 193) rfl), rfl⟩, by decide⟩
def mX12_doesCollide : aMth := (yX12_doesCollide, cX12_doesCollide, 4, (some .boolean))
theorem kX12_doesCollide : a_lnk mX12_doesCollide 1 := ⟨plainFor_of_name plnX12, neqX12, by decide +kernel, iniX12, List.mem_filter.mpr ⟨t8 (List.mem_of_getElem? (i := 197) rfl), rfl⟩, by decide⟩
def mX12_image : aMth := (yX12_image, cX12_image, 2, (some .int))
theorem kX12_image : a_lnk mX12_image 0 := ⟨plainFor_of_name plnX12, neqX12, by decide +kernel, iniX12, List.mem_filter.mpr ⟨t8 (List.mem_of_getElem? (i := 201) rfl), rfl⟩, by decide⟩
def mX12_back : aMth := (yX12_back, cX12_back, 2, (some .int))
theorem kX12_back : a_lnk mX12_back 0 := ⟨plainFor_of_name plnX12, neqX12, by decide +kernel, iniX12, List.mem_filter.mpr ⟨t8 (List.mem_of_getElem? (i := 205) rfl), rfl⟩, by decide⟩
def mX12_count : aMth := (yX12_count, cX12_count, 2, (some .int))
theorem kX12_count : a_lnk mX12_count 1 := ⟨plainFor_of_name plnX12, neqX12, by decide +kernel, iniX12, List.mem_filter.mpr ⟨t8 (List.mem_of_getElem? (i := 209) rfl), rfl⟩, by decide⟩
theorem oX11_1 : Cond.methodLink RX11 1 Lib.objectInit ∈ aG := List.mem_filter.mpr ⟨t1 (List.mem_of_getElem? (i := 32) rfl), rfl⟩
theorem wX11_7 : a_nw RX11 7 10 := ⟨_, _, _, _, clX10, List.mem_filter.mpr ⟨t1 (List.mem_of_getElem? (i := 35) rfl), rfl⟩, List.mem_filter.mpr ⟨t1 (List.mem_of_getElem? (i := 36) rfl), rfl⟩, List.mem_filter.mpr ⟨t1 (List.mem_of_getElem? (i := 2) rfl), rfl⟩⟩
theorem xX11_7 : Cond.classLink RX11 7 "HoppingMesh$Tape" ∈ aG := List.mem_filter.mpr ⟨t1 (List.mem_of_getElem? (i := 35) rfl), rfl⟩
theorem vX11_9 : a_cn RX11 9 mX10_init 0 := ⟨kX10_init, ⟨"HoppingMesh", t1 (List.mem_of_getElem? (i := 37) rfl)⟩, List.mem_filter.mpr ⟨t1 (List.mem_of_getElem? (i := 38) rfl), rfl⟩, rfl, rfl⟩
theorem oX10_3 : Cond.methodLink RX10 3 Lib.objectInit ∈ aG := List.mem_filter.mpr ⟨t1 (List.mem_of_getElem? (i := 40) rfl), rfl⟩
theorem wX11_16 : a_nw RX11 16 7 := ⟨_, _, _, _, clX7, List.mem_filter.mpr ⟨t1 (List.mem_of_getElem? (i := 49) rfl), rfl⟩, List.mem_filter.mpr ⟨t1 (List.mem_of_getElem? (i := 50) rfl), rfl⟩, List.mem_filter.mpr ⟨t1 (List.mem_of_getElem? (i := 3) rfl), rfl⟩⟩
theorem xX11_16 : Cond.classLink RX11 16 "HoppingMesh$Plan" ∈ aG := List.mem_filter.mpr ⟨t1 (List.mem_of_getElem? (i := 49) rfl), rfl⟩
theorem vX11_18 : a_cn RX11 18 mX7_init 0 := ⟨kX7_init, ⟨"HoppingMesh", t1 (List.mem_of_getElem? (i := 51) rfl)⟩, List.mem_filter.mpr ⟨t1 (List.mem_of_getElem? (i := 52) rfl), rfl⟩, rfl, rfl⟩
theorem oX7_3 : Cond.methodLink RX7 3 Lib.objectInit ∈ aG := List.mem_filter.mpr ⟨t1 (List.mem_of_getElem? (i := 54) rfl), rfl⟩
theorem wX11_23 : a_nw RX11 23 8 := ⟨_, _, _, _, clX8, List.mem_filter.mpr ⟨t1 (List.mem_of_getElem? (i := 71) rfl), rfl⟩, List.mem_filter.mpr ⟨t1 (List.mem_of_getElem? (i := 72) rfl), rfl⟩, List.mem_filter.mpr ⟨t1 (List.mem_of_getElem? (i := 4) rfl), rfl⟩⟩
theorem xX11_23 : Cond.classLink RX11 23 "HoppingMesh$Reader" ∈ aG := List.mem_filter.mpr ⟨t1 (List.mem_of_getElem? (i := 71) rfl), rfl⟩
theorem vX11_25 : a_ci RX11 25 mX8_init 1 := ⟨kX8_init, List.mem_filter.mpr ⟨t1 (List.mem_of_getElem? (i := 73) rfl), rfl⟩, List.mem_filter.mpr ⟨t1 (List.mem_of_getElem? (i := 74) rfl), rfl⟩, rfl, rfl⟩
theorem oX8_3 : Cond.methodLink RX8 3 Lib.objectInit ∈ aG := List.mem_filter.mpr ⟨t1 (List.mem_of_getElem? (i := 76) rfl), rfl⟩
theorem wX11_32 : a_nw RX11 32 4 := ⟨_, _, _, _, clX4, List.mem_filter.mpr ⟨t1 (List.mem_of_getElem? (i := 110) rfl), rfl⟩, List.mem_filter.mpr ⟨t1 (List.mem_of_getElem? (i := 111) rfl), rfl⟩, List.mem_filter.mpr ⟨t1 (List.mem_of_getElem? (i := 5) rfl), rfl⟩⟩
theorem xX11_32 : Cond.classLink RX11 32 "HoppingMesh$Net" ∈ aG := List.mem_filter.mpr ⟨t1 (List.mem_of_getElem? (i := 110) rfl), rfl⟩
theorem vX11_34 : a_ci RX11 34 mX4_init 1 := ⟨kX4_init, List.mem_filter.mpr ⟨t1 (List.mem_of_getElem? (i := 112) rfl), rfl⟩, List.mem_filter.mpr ⟨t1 (List.mem_of_getElem? (i := 113) rfl), rfl⟩, rfl, rfl⟩
theorem oX4_7 : Cond.methodLink RX4 7 Lib.objectInit ∈ aG := List.mem_filter.mpr ⟨t1 (List.mem_of_getElem? (i := 115) rfl), rfl⟩
theorem wX4_3 : a_nw RX4 3 3 := ⟨_, _, _, _, clX3, List.mem_filter.mpr ⟨t1 (List.mem_of_getElem? (i := 116) rfl), rfl⟩, List.mem_filter.mpr ⟨t1 (List.mem_of_getElem? (i := 118) rfl), rfl⟩, List.mem_filter.mpr ⟨t1 (List.mem_of_getElem? (i := 6) rfl), rfl⟩⟩
theorem xX4_3 : Cond.classLink RX4 3 "HoppingMesh$Link" ∈ aG := List.mem_filter.mpr ⟨t1 (List.mem_of_getElem? (i := 116) rfl), rfl⟩
theorem vX4_25 : a_ci RX4 25 mX3_init 3 := ⟨kX3_init, List.mem_filter.mpr ⟨t1 (List.mem_of_getElem? (i := 119) rfl), rfl⟩, List.mem_filter.mpr ⟨t1 (List.mem_of_getElem? (i := 120) rfl), rfl⟩, rfl, rfl⟩
theorem oX3_9 : Cond.methodLink RX3 9 Lib.objectInit ∈ aG := List.mem_filter.mpr ⟨t1 (List.mem_of_getElem? (i := 122) rfl), rfl⟩
theorem wX3_3 : a_nw RX3 3 9 := ⟨_, _, _, _, clX9, List.mem_filter.mpr ⟨t1 (List.mem_of_getElem? (i := 123) rfl), rfl⟩, List.mem_filter.mpr ⟨t1 (List.mem_of_getElem? (i := 124) rfl), rfl⟩, List.mem_filter.mpr ⟨t1 (List.mem_of_getElem? (i := 7) rfl), rfl⟩⟩
theorem xX3_3 : Cond.classLink RX3 3 "HoppingMesh$Side" ∈ aG := List.mem_filter.mpr ⟨t1 (List.mem_of_getElem? (i := 123) rfl), rfl⟩
theorem vX3_26 : a_ci RX3 26 mX9_init 2 := ⟨kX9_init, List.mem_filter.mpr ⟨t1 (List.mem_of_getElem? (i := 125) rfl), rfl⟩, List.mem_filter.mpr ⟨t1 (List.mem_of_getElem? (i := 126) rfl), rfl⟩, rfl, rfl⟩
theorem oX9_5 : Cond.methodLink RX9 5 Lib.objectInit ∈ aG := List.mem_filter.mpr ⟨t1 (List.mem_of_getElem? (i := 128) rfl), rfl⟩
theorem wX3_5 : a_nw RX3 5 2 := ⟨_, _, _, _, clX2, List.mem_filter.mpr ⟨t1 (List.mem_of_getElem? (i := 136) rfl), rfl⟩, List.mem_filter.mpr ⟨t1 (List.mem_of_getElem? (i := 137) rfl), rfl⟩, List.mem_filter.mpr ⟨t1 (List.mem_of_getElem? (i := 8) rfl), rfl⟩⟩
theorem xX3_5 : Cond.classLink RX3 5 "HoppingMesh$Letter" ∈ aG := List.mem_filter.mpr ⟨t1 (List.mem_of_getElem? (i := 136) rfl), rfl⟩
theorem vX3_36 : a_ci RX3 36 mX2_init 2 := ⟨kX2_init, List.mem_filter.mpr ⟨t1 (List.mem_of_getElem? (i := 138) rfl), rfl⟩, List.mem_filter.mpr ⟨t1 (List.mem_of_getElem? (i := 139) rfl), rfl⟩, rfl, rfl⟩
theorem oX2_5 : Cond.methodLink RX2 5 Lib.objectInit ∈ aG := List.mem_filter.mpr ⟨t1 (List.mem_of_getElem? (i := 141) rfl), rfl⟩
theorem wX11_41 : a_nw RX11 41 1 := ⟨_, _, _, _, clX1, List.mem_filter.mpr ⟨t1 (List.mem_of_getElem? (i := 201) rfl), rfl⟩, List.mem_filter.mpr ⟨t1 (List.mem_of_getElem? (i := 202) rfl), rfl⟩, List.mem_filter.mpr ⟨t1 (List.mem_of_getElem? (i := 9) rfl), rfl⟩⟩
theorem xX11_41 : Cond.classLink RX11 41 "HoppingMesh$Dealings" ∈ aG := List.mem_filter.mpr ⟨t1 (List.mem_of_getElem? (i := 201) rfl), rfl⟩
theorem vX11_43 : a_ci RX11 43 mX1_init 1 := ⟨kX1_init, List.mem_filter.mpr ⟨t1 (List.mem_of_getElem? (i := 203) rfl), rfl⟩, List.mem_filter.mpr ⟨t1 (List.mem_of_getElem? (i := 204) rfl), rfl⟩, rfl, rfl⟩
theorem oX1_3 : Cond.methodLink RX1 3 Lib.objectInit ∈ aG := List.mem_filter.mpr ⟨t1 (List.mem_of_getElem? (i := 206) rfl), rfl⟩
theorem wX11_50 : a_nw RX11 50 0 := ⟨_, _, _, _, clX0, List.mem_filter.mpr ⟨t1 (List.mem_of_getElem? (i := 226) rfl), rfl⟩, List.mem_filter.mpr ⟨t1 (List.mem_of_getElem? (i := 227) rfl), rfl⟩, List.mem_filter.mpr ⟨t1 (List.mem_of_getElem? (i := 10) rfl), rfl⟩⟩
theorem xX11_50 : Cond.classLink RX11 50 "HoppingMesh$Course" ∈ aG := List.mem_filter.mpr ⟨t1 (List.mem_of_getElem? (i := 226) rfl), rfl⟩
theorem vX11_52 : a_ci RX11 52 mX0_init 2 := ⟨kX0_init, List.mem_filter.mpr ⟨t1 (List.mem_of_getElem? (i := 228) rfl), rfl⟩, List.mem_filter.mpr ⟨t1 (List.mem_of_getElem? (i := 229) rfl), rfl⟩, rfl, rfl⟩
theorem oX0_3 : Cond.methodLink RX0 3 Lib.objectInit ∈ aG := List.mem_filter.mpr ⟨t1 (List.mem_of_getElem? (i := 231) rfl), rfl⟩
theorem wX11_59 : a_nw RX11 59 6 := ⟨_, _, _, _, clX6, List.mem_filter.mpr ⟨t2 (List.mem_of_getElem? (i := 11) rfl), rfl⟩, List.mem_filter.mpr ⟨t2 (List.mem_of_getElem? (i := 12) rfl), rfl⟩, List.mem_filter.mpr ⟨t1 (List.mem_of_getElem? (i := 11) rfl), rfl⟩⟩
theorem xX11_59 : Cond.classLink RX11 59 "HoppingMesh$Past" ∈ aG := List.mem_filter.mpr ⟨t2 (List.mem_of_getElem? (i := 11) rfl), rfl⟩
theorem vX11_61 : a_cn RX11 61 mX6_init 0 := ⟨kX6_init, ⟨"HoppingMesh", t2 (List.mem_of_getElem? (i := 13) rfl)⟩, List.mem_filter.mpr ⟨t2 (List.mem_of_getElem? (i := 14) rfl), rfl⟩, rfl, rfl⟩
theorem oX6_5 : Cond.methodLink RX6 5 Lib.objectInit ∈ aG := List.mem_filter.mpr ⟨t2 (List.mem_of_getElem? (i := 16) rfl), rfl⟩
theorem xX6_15 : Cond.classLink RX6 15 "[I" ∈ aG := List.mem_filter.mpr ⟨t2 (List.mem_of_getElem? (i := 17) rfl), rfl⟩
theorem wX11_66 : a_nw RX11 66 5 := ⟨_, _, _, _, clX5, List.mem_filter.mpr ⟨t2 (List.mem_of_getElem? (i := 50) rfl), rfl⟩, List.mem_filter.mpr ⟨t2 (List.mem_of_getElem? (i := 51) rfl), rfl⟩, List.mem_filter.mpr ⟨t1 (List.mem_of_getElem? (i := 12) rfl), rfl⟩⟩
theorem xX11_66 : Cond.classLink RX11 66 "HoppingMesh$Outlook" ∈ aG := List.mem_filter.mpr ⟨t2 (List.mem_of_getElem? (i := 50) rfl), rfl⟩
theorem vX11_68 : a_ci RX11 68 mX5_init 1 := ⟨kX5_init, List.mem_filter.mpr ⟨t2 (List.mem_of_getElem? (i := 52) rfl), rfl⟩, List.mem_filter.mpr ⟨t2 (List.mem_of_getElem? (i := 53) rfl), rfl⟩, rfl, rfl⟩
theorem oX5_3 : Cond.methodLink RX5 3 Lib.objectInit ∈ aG := List.mem_filter.mpr ⟨t2 (List.mem_of_getElem? (i := 55) rfl), rfl⟩
theorem wX5_19 : a_nw RX5 19 4 := ⟨_, _, _, _, clX4, List.mem_filter.mpr ⟨t2 (List.mem_of_getElem? (i := 56) rfl), rfl⟩, List.mem_filter.mpr ⟨t1 (List.mem_of_getElem? (i := 111) rfl), rfl⟩, List.mem_filter.mpr ⟨t1 (List.mem_of_getElem? (i := 5) rfl), rfl⟩⟩
theorem xX5_19 : Cond.classLink RX5 19 "HoppingMesh$Net" ∈ aG := List.mem_filter.mpr ⟨t2 (List.mem_of_getElem? (i := 56) rfl), rfl⟩
theorem vX5_25 : a_ci RX5 25 mX4_init 1 := ⟨kX4_init, List.mem_filter.mpr ⟨t2 (List.mem_of_getElem? (i := 57) rfl), rfl⟩, List.mem_filter.mpr ⟨t1 (List.mem_of_getElem? (i := 113) rfl), rfl⟩, rfl, rfl⟩
theorem wX5_31 : a_nw RX5 31 0 := ⟨_, _, _, _, clX0, List.mem_filter.mpr ⟨t2 (List.mem_of_getElem? (i := 58) rfl), rfl⟩, List.mem_filter.mpr ⟨t1 (List.mem_of_getElem? (i := 227) rfl), rfl⟩, List.mem_filter.mpr ⟨t1 (List.mem_of_getElem? (i := 10) rfl), rfl⟩⟩
theorem xX5_31 : Cond.classLink RX5 31 "HoppingMesh$Course" ∈ aG := List.mem_filter.mpr ⟨t2 (List.mem_of_getElem? (i := 58) rfl), rfl⟩
theorem wX5_33 : a_nw RX5 33 1 := ⟨_, _, _, _, clX1, List.mem_filter.mpr ⟨t2 (List.mem_of_getElem? (i := 59) rfl), rfl⟩, List.mem_filter.mpr ⟨t1 (List.mem_of_getElem? (i := 202) rfl), rfl⟩, List.mem_filter.mpr ⟨t1 (List.mem_of_getElem? (i := 9) rfl), rfl⟩⟩
theorem xX5_33 : Cond.classLink RX5 33 "HoppingMesh$Dealings" ∈ aG := List.mem_filter.mpr ⟨t2 (List.mem_of_getElem? (i := 59) rfl), rfl⟩
theorem vX5_35 : a_ci RX5 35 mX1_init 1 := ⟨kX1_init, List.mem_filter.mpr ⟨t2 (List.mem_of_getElem? (i := 60) rfl), rfl⟩, List.mem_filter.mpr ⟨t1 (List.mem_of_getElem? (i := 204) rfl), rfl⟩, rfl, rfl⟩
theorem vX5_38 : a_ci RX5 38 mX0_init 2 := ⟨kX0_init, List.mem_filter.mpr ⟨t2 (List.mem_of_getElem? (i := 61) rfl), rfl⟩, List.mem_filter.mpr ⟨t1 (List.mem_of_getElem? (i := 229) rfl), rfl⟩, rfl, rfl⟩
theorem vX11_81 : a_cs RX11 81 mX10_signsIn 1 := ⟨kX10_signsIn, List.mem_filter.mpr ⟨t2 (List.mem_of_getElem? (i := 113) rfl), rfl⟩, List.mem_filter.mpr ⟨t2 (List.mem_of_getElem? (i := 114) rfl), rfl⟩⟩
theorem vX11_85 : a_cv RX11 85 10 mX10_hasRoom 1 := ⟨kX10_hasRoom, List.mem_filter.mpr ⟨t2 (List.mem_of_getElem? (i := 116) rfl), rfl⟩, List.mem_filter.mpr ⟨t2 (List.mem_of_getElem? (i := 117) rfl), rfl⟩, _, _, _, rfl, List.mem_filter.mpr ⟨t2 (List.mem_of_getElem? (i := 118) rfl), rfl⟩⟩
theorem vX11_89 : a_cv RX11 89 10 mX10_append 1 := ⟨kX10_append, List.mem_filter.mpr ⟨t2 (List.mem_of_getElem? (i := 120) rfl), rfl⟩, List.mem_filter.mpr ⟨t2 (List.mem_of_getElem? (i := 121) rfl), rfl⟩, _, _, _, rfl, List.mem_filter.mpr ⟨t2 (List.mem_of_getElem? (i := 122) rfl), rfl⟩⟩
theorem vX11_93 : a_cv RX11 93 10 mX10_size 0 := ⟨kX10_size, List.mem_filter.mpr ⟨t2 (List.mem_of_getElem? (i := 124) rfl), rfl⟩, List.mem_filter.mpr ⟨t2 (List.mem_of_getElem? (i := 125) rfl), rfl⟩, _, _, _, rfl, List.mem_filter.mpr ⟨t2 (List.mem_of_getElem? (i := 126) rfl), rfl⟩⟩
theorem vX11_97 : a_cv RX11 97 10 mX10_cutTo 1 := ⟨kX10_cutTo, List.mem_filter.mpr ⟨t2 (List.mem_of_getElem? (i := 132) rfl), rfl⟩, List.mem_filter.mpr ⟨t2 (List.mem_of_getElem? (i := 133) rfl), rfl⟩, _, _, _, rfl, List.mem_filter.mpr ⟨t2 (List.mem_of_getElem? (i := 134) rfl), rfl⟩⟩
theorem vX11_100 : a_cv RX11 100 8 mX8_meshFault 0 := ⟨kX8_meshFault, List.mem_filter.mpr ⟨t2 (List.mem_of_getElem? (i := 140) rfl), rfl⟩, List.mem_filter.mpr ⟨t2 (List.mem_of_getElem? (i := 141) rfl), rfl⟩, _, _, _, rfl, List.mem_filter.mpr ⟨t2 (List.mem_of_getElem? (i := 142) rfl), rfl⟩⟩
theorem aX8_41 : Cond.methodLink RX8 41 arraycopyName ∈ aG := List.mem_filter.mpr ⟨t2 (List.mem_of_getElem? (i := 146) rfl), rfl⟩
theorem vX8_49 : a_cv RX8 49 8 mX8_readClause 0 := ⟨kX8_readClause, List.mem_filter.mpr ⟨t2 (List.mem_of_getElem? (i := 149) rfl), rfl⟩, List.mem_filter.mpr ⟨t2 (List.mem_of_getElem? (i := 151) rfl), rfl⟩, _, _, _, rfl, List.mem_filter.mpr ⟨tp (List.mem_of_getElem? (i := 0) rfl), rfl⟩⟩
theorem vX8_71 : a_cv RX8 71 8 mX8_skipBlanks 0 := ⟨kX8_skipBlanks, List.mem_filter.mpr ⟨t2 (List.mem_of_getElem? (i := 153) rfl), rfl⟩, List.mem_filter.mpr ⟨t2 (List.mem_of_getElem? (i := 155) rfl), rfl⟩, _, _, _, rfl, List.mem_filter.mpr ⟨tp (List.mem_of_getElem? (i := 1) rfl), rfl⟩⟩
theorem vX8_63 : a_cv RX8 63 10 mX10_signAt 1 := ⟨kX10_signAt, List.mem_filter.mpr ⟨t2 (List.mem_of_getElem? (i := 157) rfl), rfl⟩, List.mem_filter.mpr ⟨t2 (List.mem_of_getElem? (i := 158) rfl), rfl⟩, _, _, _, rfl, List.mem_filter.mpr ⟨t2 (List.mem_of_getElem? (i := 159) rfl), rfl⟩⟩
theorem vX8_82 : a_cv RX8 82 8 mX8_readItems 5 := ⟨kX8_readItems, List.mem_filter.mpr ⟨t2 (List.mem_of_getElem? (i := 166) rfl), rfl⟩, List.mem_filter.mpr ⟨t2 (List.mem_of_getElem? (i := 168) rfl), rfl⟩, _, _, _, rfl, List.mem_filter.mpr ⟨tp (List.mem_of_getElem? (i := 2) rfl), rfl⟩⟩
theorem vJ0_637 : a_cs RJ0 637 mJ1_indexOf_4cfef 4 := ⟨kJ1_indexOf_4cfef, List.mem_filter.mpr ⟨t2 (List.mem_of_getElem? (i := 193) rfl), rfl⟩, List.mem_filter.mpr ⟨t2 (List.mem_of_getElem? (i := 194) rfl), rfl⟩⟩
theorem vJ1_88 : a_cs RJ1 88 mJ1_canEncode_9a6ad 1 := ⟨kJ1_canEncode_9a6ad, List.mem_filter.mpr ⟨t2 (List.mem_of_getElem? (i := 196) rfl), rfl⟩, List.mem_filter.mpr ⟨t2 (List.mem_of_getElem? (i := 197) rfl), rfl⟩⟩
theorem nJ1_92 : Cond.methodLink RJ1 92 Lib.Math.max.name ∈ aG := List.mem_filter.mpr ⟨t2 (List.mem_of_getElem? (i := 199) rfl), rfl⟩
theorem nJ1_38 : Cond.methodLink RJ1 38 Lib.Math.min.name ∈ aG := List.mem_filter.mpr ⟨t2 (List.mem_of_getElem? (i := 202) rfl), rfl⟩
theorem vJ1_95 : a_cs RJ1 95 mJ1_indexOfChar_4cfef 4 := ⟨kJ1_indexOfChar_4cfef, List.mem_filter.mpr ⟨t2 (List.mem_of_getElem? (i := 205) rfl), rfl⟩, List.mem_filter.mpr ⟨t2 (List.mem_of_getElem? (i := 206) rfl), rfl⟩⟩
theorem vJ0_640 : a_cs RJ0 640 mJ2_indexOf_4cfef 4 := ⟨kJ2_indexOf_4cfef, List.mem_filter.mpr ⟨t2 (List.mem_of_getElem? (i := 208) rfl), rfl⟩, List.mem_filter.mpr ⟨t2 (List.mem_of_getElem? (i := 209) rfl), rfl⟩⟩
theorem nJ2_224 : Cond.methodLink RJ2 224 Lib.Math.max.name ∈ aG := List.mem_filter.mpr ⟨t2 (List.mem_of_getElem? (i := 211) rfl), rfl⟩
theorem nJ2_183 : Cond.methodLink RJ2 183 Lib.Math.min.name ∈ aG := List.mem_filter.mpr ⟨t2 (List.mem_of_getElem? (i := 212) rfl), rfl⟩
theorem zJ2_227 : Cond.constant RJ2 227 (65536) ∈ aG := List.mem_filter.mpr ⟨t2 (List.mem_of_getElem? (i := 213) rfl), rfl⟩
theorem vJ2_228 : a_cs RJ2 228 mJ2_indexOfChar_4cfef 4 := ⟨kJ2_indexOfChar_4cfef, List.mem_filter.mpr ⟨t2 (List.mem_of_getElem? (i := 214) rfl), rfl⟩, List.mem_filter.mpr ⟨t2 (List.mem_of_getElem? (i := 215) rfl), rfl⟩⟩
theorem vJ2_96 : a_cs RJ2 96 mJ2_checkBoundsBeginEnd_d044e 3 := ⟨kJ2_checkBoundsBeginEnd_d044e, List.mem_filter.mpr ⟨t2 (List.mem_of_getElem? (i := 217) rfl), rfl⟩, List.mem_filter.mpr ⟨t2 (List.mem_of_getElem? (i := 218) rfl), rfl⟩⟩
theorem vJ2_48 : a_cs RJ2 48 mJ2_length_9d52b 1 := ⟨kJ2_length_9d52b, List.mem_filter.mpr ⟨t2 (List.mem_of_getElem? (i := 220) rfl), rfl⟩, List.mem_filter.mpr ⟨t2 (List.mem_of_getElem? (i := 221) rfl), rfl⟩⟩
theorem vJ2_241 : a_cs RJ2 241 mJ0_checkBoundsBeginEnd_23922 3 := ⟨kJ0_checkBoundsBeginEnd_23922, List.mem_filter.mpr ⟨t2 (List.mem_of_getElem? (i := 223) rfl), rfl⟩, List.mem_filter.mpr ⟨t2 (List.mem_of_getElem? (i := 224) rfl), rfl⟩⟩
theorem vJ0_1062 : a_cs RJ0 1062 mJ3_checkFromToIndex_8c36e 4 := ⟨kJ3_checkFromToIndex_8c36e, List.mem_filter.mpr ⟨t2 (List.mem_of_getElem? (i := 228) rfl), rfl⟩, List.mem_filter.mpr ⟨t2 (List.mem_of_getElem? (i := 229) rfl), rfl⟩⟩
theorem vJ2_244 : a_cs RJ2 244 mJ2_indexOfCharUnsafe_4cfef 4 := ⟨kJ2_indexOfCharUnsafe_4cfef, List.mem_filter.mpr ⟨t2 (List.mem_of_getElem? (i := 231) rfl), rfl⟩, List.mem_filter.mpr ⟨t2 (List.mem_of_getElem? (i := 232) rfl), rfl⟩⟩
theorem vJ2_71 : a_cs RJ2 71 mJ2_getChar_3b067 2 := ⟨kJ2_getChar_3b067, List.mem_filter.mpr ⟨t2 (List.mem_of_getElem? (i := 234) rfl), rfl⟩, List.mem_filter.mpr ⟨t2 (List.mem_of_getElem? (i := 235) rfl), rfl⟩⟩
theorem vJ2_232 : a_cs RJ2 232 mJ2_indexOfSupplementary_4cfef 4 := ⟨kJ2_indexOfSupplementary_4cfef, List.mem_filter.mpr ⟨t3 (List.mem_of_getElem? (i := 3) rfl), rfl⟩, List.mem_filter.mpr ⟨t3 (List.mem_of_getElem? (i := 4) rfl), rfl⟩⟩
theorem vJ2_164 : a_cs RJ2 164 mJ11_isValidCodePoint_9a6ad 1 := ⟨kJ11_isValidCodePoint_9a6ad, List.mem_filter.mpr ⟨t3 (List.mem_of_getElem? (i := 6) rfl), rfl⟩, List.mem_filter.mpr ⟨t3 (List.mem_of_getElem? (i := 7) rfl), rfl⟩⟩
theorem vJ2_157 : a_cs RJ2 157 mJ11_highSurrogate_5068e 1 := ⟨kJ11_highSurrogate_5068e, List.mem_filter.mpr ⟨t3 (List.mem_of_getElem? (i := 9) rfl), rfl⟩, List.mem_filter.mpr ⟨t3 (List.mem_of_getElem? (i := 10) rfl), rfl⟩⟩
theorem zJ11_110 : Cond.constant RJ11 110 (55232) ∈ aG := List.mem_filter.mpr ⟨t3 (List.mem_of_getElem? (i := 12) rfl), rfl⟩
theorem vJ2_161 : a_cs RJ2 161 mJ11_lowSurrogate_5068e 1 := ⟨kJ11_lowSurrogate_5068e, List.mem_filter.mpr ⟨t3 (List.mem_of_getElem? (i := 13) rfl), rfl⟩, List.mem_filter.mpr ⟨t3 (List.mem_of_getElem? (i := 14) rfl), rfl⟩⟩
theorem zJ11_76 : Cond.constant RJ11 76 (56320) ∈ aG := List.mem_filter.mpr ⟨t3 (List.mem_of_getElem? (i := 16) rfl), rfl⟩
theorem vX8_105 : a_cv RX8 105 8 mX8_readNumber 2 := ⟨kX8_readNumber, List.mem_filter.mpr ⟨t3 (List.mem_of_getElem? (i := 17) rfl), rfl⟩, List.mem_filter.mpr ⟨t3 (List.mem_of_getElem? (i := 19) rfl), rfl⟩, _, _, _, rfl, List.mem_filter.mpr ⟨tp (List.mem_of_getElem? (i := 3) rfl), rfl⟩⟩
theorem vX8_67 : a_cs RX8 67 mX8_isDigit 1 := ⟨kX8_isDigit, List.mem_filter.mpr ⟨t3 (List.mem_of_getElem? (i := 21) rfl), rfl⟩, List.mem_filter.mpr ⟨t3 (List.mem_of_getElem? (i := 22) rfl), rfl⟩⟩
theorem vX8_53 : a_cv RX8 53 10 mX10_size 0 := ⟨kX10_size, List.mem_filter.mpr ⟨t3 (List.mem_of_getElem? (i := 31) rfl), rfl⟩, List.mem_filter.mpr ⟨t2 (List.mem_of_getElem? (i := 125) rfl), rfl⟩, _, _, _, rfl, List.mem_filter.mpr ⟨t2 (List.mem_of_getElem? (i := 126) rfl), rfl⟩⟩
theorem vX8_56 : a_cv RX8 56 8 mX8_isWhole 0 := ⟨kX8_isWhole, List.mem_filter.mpr ⟨t3 (List.mem_of_getElem? (i := 32) rfl), rfl⟩, List.mem_filter.mpr ⟨t3 (List.mem_of_getElem? (i := 34) rfl), rfl⟩, _, _, _, rfl, List.mem_filter.mpr ⟨tp (List.mem_of_getElem? (i := 4) rfl), rfl⟩⟩
theorem vX11_103 : a_cv RX11 103 8 mX8_hopsFault 0 := ⟨kX8_hopsFault, List.mem_filter.mpr ⟨t3 (List.mem_of_getElem? (i := 36) rfl), rfl⟩, List.mem_filter.mpr ⟨t3 (List.mem_of_getElem? (i := 37) rfl), rfl⟩, _, _, _, rfl, List.mem_filter.mpr ⟨t3 (List.mem_of_getElem? (i := 38) rfl), rfl⟩⟩
theorem vX11_106 : a_cv RX11 106 7 mX7_takeMesh 1 := ⟨kX7_takeMesh, List.mem_filter.mpr ⟨t3 (List.mem_of_getElem? (i := 45) rfl), rfl⟩, List.mem_filter.mpr ⟨t3 (List.mem_of_getElem? (i := 46) rfl), rfl⟩, _, _, _, rfl, List.mem_filter.mpr ⟨t3 (List.mem_of_getElem? (i := 47) rfl), rfl⟩⟩
theorem aX7_24 : Cond.methodLink RX7 24 arraycopyName ∈ aG := List.mem_filter.mpr ⟨t3 (List.mem_of_getElem? (i := 49) rfl), rfl⟩
theorem vX11_110 : a_cv RX11 110 4 mX4_startAnew 0 := ⟨kX4_startAnew, List.mem_filter.mpr ⟨t3 (List.mem_of_getElem? (i := 50) rfl), rfl⟩, List.mem_filter.mpr ⟨t3 (List.mem_of_getElem? (i := 51) rfl), rfl⟩, _, _, _, rfl, List.mem_filter.mpr ⟨t3 (List.mem_of_getElem? (i := 52) rfl), rfl⟩⟩
theorem vX4_28 : a_cs RX4 28 mJ7_fill_53178 2 := ⟨kJ7_fill_53178, List.mem_filter.mpr ⟨t3 (List.mem_of_getElem? (i := 54) rfl), rfl⟩, List.mem_filter.mpr ⟨t3 (List.mem_of_getElem? (i := 55) rfl), rfl⟩⟩
theorem vX4_36 : a_cv RX4 36 7 mX7_ruleOf 1 := ⟨kX7_ruleOf, List.mem_filter.mpr ⟨t3 (List.mem_of_getElem? (i := 57) rfl), rfl⟩, List.mem_filter.mpr ⟨t3 (List.mem_of_getElem? (i := 58) rfl), rfl⟩, _, _, _, rfl, List.mem_filter.mpr ⟨t3 (List.mem_of_getElem? (i := 59) rfl), rfl⟩⟩
theorem vX4_40 : a_cv RX4 40 7 mX7_pairs 0 := ⟨kX7_pairs, List.mem_filter.mpr ⟨t3 (List.mem_of_getElem? (i := 61) rfl), rfl⟩, List.mem_filter.mpr ⟨t3 (List.mem_of_getElem? (i := 62) rfl), rfl⟩, _, _, _, rfl, List.mem_filter.mpr ⟨t3 (List.mem_of_getElem? (i := 63) rfl), rfl⟩⟩
theorem vX4_44 : a_cv RX4 44 7 mX7_itemOf 2 := ⟨kX7_itemOf, List.mem_filter.mpr ⟨t3 (List.mem_of_getElem? (i := 65) rfl), rfl⟩, List.mem_filter.mpr ⟨t3 (List.mem_of_getElem? (i := 66) rfl), rfl⟩, _, _, _, rfl, List.mem_filter.mpr ⟨t3 (List.mem_of_getElem? (i := 67) rfl), rfl⟩⟩
theorem vX4_48 : a_cv RX4 48 3 mX3_setLoad 1 := ⟨kX3_setLoad, List.mem_filter.mpr ⟨t3 (List.mem_of_getElem? (i := 69) rfl), rfl⟩, List.mem_filter.mpr ⟨t3 (List.mem_of_getElem? (i := 70) rfl), rfl⟩, _, _, _, rfl, List.mem_filter.mpr ⟨t3 (List.mem_of_getElem? (i := 71) rfl), rfl⟩⟩
theorem vX11_113 : a_cv RX11 113 6 mX6_startAnew 0 := ⟨kX6_startAnew, List.mem_filter.mpr ⟨t3 (List.mem_of_getElem? (i := 73) rfl), rfl⟩, List.mem_filter.mpr ⟨t3 (List.mem_of_getElem? (i := 74) rfl), rfl⟩, _, _, _, rfl, List.mem_filter.mpr ⟨t3 (List.mem_of_getElem? (i := 75) rfl), rfl⟩⟩
theorem vX11_114 : a_cv RX11 114 7 mX7_pairs 0 := ⟨kX7_pairs, List.mem_filter.mpr ⟨t3 (List.mem_of_getElem? (i := 77) rfl), rfl⟩, List.mem_filter.mpr ⟨t3 (List.mem_of_getElem? (i := 62) rfl), rfl⟩, _, _, _, rfl, List.mem_filter.mpr ⟨t3 (List.mem_of_getElem? (i := 63) rfl), rfl⟩⟩
theorem vX11_117 : a_cv RX11 117 7 mX7_takeHops 1 := ⟨kX7_takeHops, List.mem_filter.mpr ⟨t3 (List.mem_of_getElem? (i := 78) rfl), rfl⟩, List.mem_filter.mpr ⟨t3 (List.mem_of_getElem? (i := 79) rfl), rfl⟩, _, _, _, rfl, List.mem_filter.mpr ⟨t3 (List.mem_of_getElem? (i := 80) rfl), rfl⟩⟩
theorem vX11_120 : a_cv RX11 120 7 mX7_hopCount 0 := ⟨kX7_hopCount, List.mem_filter.mpr ⟨t3 (List.mem_of_getElem? (i := 82) rfl), rfl⟩, List.mem_filter.mpr ⟨t3 (List.mem_of_getElem? (i := 83) rfl), rfl⟩, _, _, _, rfl, List.mem_filter.mpr ⟨t3 (List.mem_of_getElem? (i := 84) rfl), rfl⟩⟩
theorem vX11_123 : a_cv RX11 123 7 mX7_isTold 0 := ⟨kX7_isTold, List.mem_filter.mpr ⟨t3 (List.mem_of_getElem? (i := 90) rfl), rfl⟩, List.mem_filter.mpr ⟨t3 (List.mem_of_getElem? (i := 91) rfl), rfl⟩, _, _, _, rfl, List.mem_filter.mpr ⟨t3 (List.mem_of_getElem? (i := 92) rfl), rfl⟩⟩
theorem vX11_127 : a_cv RX11 127 4 mX4_autoNow 0 := ⟨kX4_autoNow, List.mem_filter.mpr ⟨t3 (List.mem_of_getElem? (i := 94) rfl), rfl⟩, List.mem_filter.mpr ⟨t3 (List.mem_of_getElem? (i := 95) rfl), rfl⟩, _, _, _, rfl, List.mem_filter.mpr ⟨t3 (List.mem_of_getElem? (i := 96) rfl), rfl⟩⟩
theorem vX11_130 : a_cv RX11 130 7 mX7_ruleOf 1 := ⟨kX7_ruleOf, List.mem_filter.mpr ⟨t3 (List.mem_of_getElem? (i := 98) rfl), rfl⟩, List.mem_filter.mpr ⟨t3 (List.mem_of_getElem? (i := 58) rfl), rfl⟩, _, _, _, rfl, List.mem_filter.mpr ⟨t3 (List.mem_of_getElem? (i := 59) rfl), rfl⟩⟩
theorem vX11_133 : a_cv RX11 133 7 mX7_hasPair 1 := ⟨kX7_hasPair, List.mem_filter.mpr ⟨t3 (List.mem_of_getElem? (i := 103) rfl), rfl⟩, List.mem_filter.mpr ⟨t3 (List.mem_of_getElem? (i := 104) rfl), rfl⟩, _, _, _, rfl, List.mem_filter.mpr ⟨t3 (List.mem_of_getElem? (i := 105) rfl), rfl⟩⟩
theorem vX11_156 : a_cv RX11 156 9 mX9_tellCell 2 := ⟨kX9_tellCell, List.mem_filter.mpr ⟨t3 (List.mem_of_getElem? (i := 107) rfl), rfl⟩, List.mem_filter.mpr ⟨t3 (List.mem_of_getElem? (i := 108) rfl), rfl⟩, _, _, _, rfl, List.mem_filter.mpr ⟨t3 (List.mem_of_getElem? (i := 109) rfl), rfl⟩⟩
theorem vX9_23 : a_cv RX9 23 9 mX9_size 0 := ⟨kX9_size, List.mem_filter.mpr ⟨t3 (List.mem_of_getElem? (i := 111) rfl), rfl⟩, List.mem_filter.mpr ⟨t3 (List.mem_of_getElem? (i := 112) rfl), rfl⟩, _, _, _, rfl, List.mem_filter.mpr ⟨t3 (List.mem_of_getElem? (i := 113) rfl), rfl⟩⟩
theorem vX11_164 : a_cv RX11 164 9 mX9_numberAt 1 := ⟨kX9_numberAt, List.mem_filter.mpr ⟨t3 (List.mem_of_getElem? (i := 115) rfl), rfl⟩, List.mem_filter.mpr ⟨t3 (List.mem_of_getElem? (i := 116) rfl), rfl⟩, _, _, _, rfl, List.mem_filter.mpr ⟨t3 (List.mem_of_getElem? (i := 117) rfl), rfl⟩⟩
theorem vX11_167 : a_cv RX11 167 9 mX9_tellWait 1 := ⟨kX9_tellWait, List.mem_filter.mpr ⟨t3 (List.mem_of_getElem? (i := 123) rfl), rfl⟩, List.mem_filter.mpr ⟨t3 (List.mem_of_getElem? (i := 124) rfl), rfl⟩, _, _, _, rfl, List.mem_filter.mpr ⟨t3 (List.mem_of_getElem? (i := 125) rfl), rfl⟩⟩
theorem vX9_19 : a_cv RX9 19 9 mX9_isWaiting 0 := ⟨kX9_isWaiting, List.mem_filter.mpr ⟨t3 (List.mem_of_getElem? (i := 127) rfl), rfl⟩, List.mem_filter.mpr ⟨t3 (List.mem_of_getElem? (i := 128) rfl), rfl⟩, _, _, _, rfl, List.mem_filter.mpr ⟨t3 (List.mem_of_getElem? (i := 129) rfl), rfl⟩⟩
theorem vX11_174 : a_cv RX11 174 2 mX2_tell 1 := ⟨kX2_tell, List.mem_filter.mpr ⟨t3 (List.mem_of_getElem? (i := 135) rfl), rfl⟩, List.mem_filter.mpr ⟨t3 (List.mem_of_getElem? (i := 136) rfl), rfl⟩, _, _, _, rfl, List.mem_filter.mpr ⟨t3 (List.mem_of_getElem? (i := 137) rfl), rfl⟩⟩
theorem vX2_19 : a_cv RX2 19 2 mX2_isUnderWay 0 := ⟨kX2_isUnderWay, List.mem_filter.mpr ⟨t3 (List.mem_of_getElem? (i := 139) rfl), rfl⟩, List.mem_filter.mpr ⟨t3 (List.mem_of_getElem? (i := 140) rfl), rfl⟩, _, _, _, rfl, List.mem_filter.mpr ⟨t3 (List.mem_of_getElem? (i := 141) rfl), rfl⟩⟩
theorem vX2_23 : a_cv RX2 23 2 mX2_numberAt 1 := ⟨kX2_numberAt, List.mem_filter.mpr ⟨t3 (List.mem_of_getElem? (i := 143) rfl), rfl⟩, List.mem_filter.mpr ⟨t3 (List.mem_of_getElem? (i := 144) rfl), rfl⟩, _, _, _, rfl, List.mem_filter.mpr ⟨t3 (List.mem_of_getElem? (i := 145) rfl), rfl⟩⟩
theorem vX11_177 : a_cv RX11 177 7 mX7_hasCell 1 := ⟨kX7_hasCell, List.mem_filter.mpr ⟨t3 (List.mem_of_getElem? (i := 151) rfl), rfl⟩, List.mem_filter.mpr ⟨t3 (List.mem_of_getElem? (i := 152) rfl), rfl⟩, _, _, _, rfl, List.mem_filter.mpr ⟨t3 (List.mem_of_getElem? (i := 153) rfl), rfl⟩⟩
theorem vX11_180 : a_cv RX11 180 7 mX7_channelOf 2 := ⟨kX7_channelOf, List.mem_filter.mpr ⟨t3 (List.mem_of_getElem? (i := 155) rfl), rfl⟩, List.mem_filter.mpr ⟨t3 (List.mem_of_getElem? (i := 156) rfl), rfl⟩, _, _, _, rfl, List.mem_filter.mpr ⟨t3 (List.mem_of_getElem? (i := 157) rfl), rfl⟩⟩
theorem vX11_183 : a_cv RX11 183 11 mX11_refuse 1 := ⟨kX11_refuse, List.mem_filter.mpr ⟨t3 (List.mem_of_getElem? (i := 167) rfl), rfl⟩, List.mem_filter.mpr ⟨t3 (List.mem_of_getElem? (i := 169) rfl), rfl⟩, _, _, _, rfl, List.mem_filter.mpr ⟨tp (List.mem_of_getElem? (i := 5) rfl), rfl⟩⟩
theorem vX11_186 : a_cv RX11 186 4 mX4_frame 0 := ⟨kX4_frame, List.mem_filter.mpr ⟨t3 (List.mem_of_getElem? (i := 171) rfl), rfl⟩, List.mem_filter.mpr ⟨t3 (List.mem_of_getElem? (i := 172) rfl), rfl⟩, _, _, _, rfl, List.mem_filter.mpr ⟨t3 (List.mem_of_getElem? (i := 173) rfl), rfl⟩⟩
theorem vX11_192 : a_cv RX11 192 6 mX6_keepAct 1 := ⟨kX6_keepAct, List.mem_filter.mpr ⟨t3 (List.mem_of_getElem? (i := 175) rfl), rfl⟩, List.mem_filter.mpr ⟨t3 (List.mem_of_getElem? (i := 176) rfl), rfl⟩, _, _, _, rfl, List.mem_filter.mpr ⟨t3 (List.mem_of_getElem? (i := 177) rfl), rfl⟩⟩
theorem aX6_55 : Cond.methodLink RX6 55 arraycopyName ∈ aG := List.mem_filter.mpr ⟨t3 (List.mem_of_getElem? (i := 179) rfl), rfl⟩
theorem nX6_42 : Cond.methodLink RX6 42 Lib.Math.min.name ∈ aG := List.mem_filter.mpr ⟨t3 (List.mem_of_getElem? (i := 180) rfl), rfl⟩
theorem vX11_196 : a_cv RX11 196 11 mX11_goOneFrame 0 := ⟨kX11_goOneFrame, List.mem_filter.mpr ⟨t3 (List.mem_of_getElem? (i := 181) rfl), rfl⟩, List.mem_filter.mpr ⟨t3 (List.mem_of_getElem? (i := 183) rfl), rfl⟩, _, _, _, rfl, List.mem_filter.mpr ⟨tp (List.mem_of_getElem? (i := 6) rfl), rfl⟩⟩
theorem vX11_310 : a_cv RX11 310 0 mX0_passFrame 0 := ⟨kX0_passFrame, List.mem_filter.mpr ⟨t3 (List.mem_of_getElem? (i := 185) rfl), rfl⟩, List.mem_filter.mpr ⟨t3 (List.mem_of_getElem? (i := 186) rfl), rfl⟩, _, _, _, rfl, List.mem_filter.mpr ⟨t3 (List.mem_of_getElem? (i := 187) rfl), rfl⟩⟩
theorem vX0_36 : a_cv RX0 36 7 mX7_pairs 0 := ⟨kX7_pairs, List.mem_filter.mpr ⟨t3 (List.mem_of_getElem? (i := 189) rfl), rfl⟩, List.mem_filter.mpr ⟨t3 (List.mem_of_getElem? (i := 62) rfl), rfl⟩, _, _, _, rfl, List.mem_filter.mpr ⟨t3 (List.mem_of_getElem? (i := 63) rfl), rfl⟩⟩
theorem vX0_52 : a_cv RX0 52 2 mX2_isUnderWay 0 := ⟨kX2_isUnderWay, List.mem_filter.mpr ⟨t3 (List.mem_of_getElem? (i := 190) rfl), rfl⟩, List.mem_filter.mpr ⟨t3 (List.mem_of_getElem? (i := 140) rfl), rfl⟩, _, _, _, rfl, List.mem_filter.mpr ⟨t3 (List.mem_of_getElem? (i := 141) rfl), rfl⟩⟩
theorem vX0_58 : a_cv RX0 58 1 mX1_open 1 := ⟨kX1_open, List.mem_filter.mpr ⟨t3 (List.mem_of_getElem? (i := 191) rfl), rfl⟩, List.mem_filter.mpr ⟨t3 (List.mem_of_getElem? (i := 192) rfl), rfl⟩, _, _, _, rfl, List.mem_filter.mpr ⟨t3 (List.mem_of_getElem? (i := 193) rfl), rfl⟩⟩
theorem vX1_106 : a_cv RX1 106 2 mX2_cells 0 := ⟨kX2_cells, List.mem_filter.mpr ⟨t3 (List.mem_of_getElem? (i := 195) rfl), rfl⟩, List.mem_filter.mpr ⟨t3 (List.mem_of_getElem? (i := 196) rfl), rfl⟩, _, _, _, rfl, List.mem_filter.mpr ⟨t3 (List.mem_of_getElem? (i := 197) rfl), rfl⟩⟩
theorem nX1_109 : Cond.methodLink RX1 109 Lib.Math.min.name ∈ aG := List.mem_filter.mpr ⟨t3 (List.mem_of_getElem? (i := 199) rfl), rfl⟩
theorem vX1_115 : a_cv RX1 115 2 mX2_numberAt 1 := ⟨kX2_numberAt, List.mem_filter.mpr ⟨t3 (List.mem_of_getElem? (i := 200) rfl), rfl⟩, List.mem_filter.mpr ⟨t3 (List.mem_of_getElem? (i := 144) rfl), rfl⟩, _, _, _, rfl, List.mem_filter.mpr ⟨t3 (List.mem_of_getElem? (i := 145) rfl), rfl⟩⟩
theorem vX1_116 : a_cv RX1 116 2 mX2_drop 0 := ⟨kX2_drop, List.mem_filter.mpr ⟨t3 (List.mem_of_getElem? (i := 201) rfl), rfl⟩, List.mem_filter.mpr ⟨t3 (List.mem_of_getElem? (i := 202) rfl), rfl⟩, _, _, _, rfl, List.mem_filter.mpr ⟨t3 (List.mem_of_getElem? (i := 203) rfl), rfl⟩⟩
theorem vX1_119 : a_cv RX1 119 2 mX2_sort 0 := ⟨kX2_sort, List.mem_filter.mpr ⟨t3 (List.mem_of_getElem? (i := 205) rfl), rfl⟩, List.mem_filter.mpr ⟨t3 (List.mem_of_getElem? (i := 206) rfl), rfl⟩, _, _, _, rfl, List.mem_filter.mpr ⟨t3 (List.mem_of_getElem? (i := 207) rfl), rfl⟩⟩
theorem vX0_64 : a_cv RX0 64 1 mX1_readRequest 1 := ⟨kX1_readRequest, List.mem_filter.mpr ⟨t3 (List.mem_of_getElem? (i := 209) rfl), rfl⟩, List.mem_filter.mpr ⟨t3 (List.mem_of_getElem? (i := 210) rfl), rfl⟩, _, _, _, rfl, List.mem_filter.mpr ⟨t3 (List.mem_of_getElem? (i := 211) rfl), rfl⟩⟩
theorem vX1_125 : a_cv RX1 125 9 mX9_stopWaiting 0 := ⟨kX9_stopWaiting, List.mem_filter.mpr ⟨t3 (List.mem_of_getElem? (i := 213) rfl), rfl⟩, List.mem_filter.mpr ⟨t3 (List.mem_of_getElem? (i := 214) rfl), rfl⟩, _, _, _, rfl, List.mem_filter.mpr ⟨t3 (List.mem_of_getElem? (i := 215) rfl), rfl⟩⟩
theorem vX1_128 : a_cv RX1 128 2 mX2_kind 0 := ⟨kX2_kind, List.mem_filter.mpr ⟨t3 (List.mem_of_getElem? (i := 217) rfl), rfl⟩, List.mem_filter.mpr ⟨t3 (List.mem_of_getElem? (i := 218) rfl), rfl⟩, _, _, _, rfl, List.mem_filter.mpr ⟨t3 (List.mem_of_getElem? (i := 219) rfl), rfl⟩⟩
theorem vX1_131 : a_cv RX1 131 9 mX9_clearTable 0 := ⟨kX9_clearTable, List.mem_filter.mpr ⟨t3 (List.mem_of_getElem? (i := 221) rfl), rfl⟩, List.mem_filter.mpr ⟨t3 (List.mem_of_getElem? (i := 222) rfl), rfl⟩, _, _, _, rfl, List.mem_filter.mpr ⟨t3 (List.mem_of_getElem? (i := 223) rfl), rfl⟩⟩
theorem vX1_134 : a_cv RX1 134 1 mX1_answer 2 := ⟨kX1_answer, List.mem_filter.mpr ⟨t3 (List.mem_of_getElem? (i := 225) rfl), rfl⟩, List.mem_filter.mpr ⟨t3 (List.mem_of_getElem? (i := 227) rfl), rfl⟩, _, _, _, rfl, List.mem_filter.mpr ⟨tp (List.mem_of_getElem? (i := 7) rfl), rfl⟩⟩
theorem vX1_206 : a_cv RX1 206 2 mX2_amount 0 := ⟨kX2_amount, List.mem_filter.mpr ⟨t3 (List.mem_of_getElem? (i := 229) rfl), rfl⟩, List.mem_filter.mpr ⟨t3 (List.mem_of_getElem? (i := 230) rfl), rfl⟩, _, _, _, rfl, List.mem_filter.mpr ⟨t3 (List.mem_of_getElem? (i := 231) rfl), rfl⟩⟩
theorem vX1_79 : a_cv RX1 79 2 mX2_send 5 := ⟨kX2_send, List.mem_filter.mpr ⟨t3 (List.mem_of_getElem? (i := 233) rfl), rfl⟩, List.mem_filter.mpr ⟨t3 (List.mem_of_getElem? (i := 234) rfl), rfl⟩, _, _, _, rfl, List.mem_filter.mpr ⟨t3 (List.mem_of_getElem? (i := 235) rfl), rfl⟩⟩
theorem vX1_76 : a_cv RX1 76 9 mX9_seq 0 := ⟨kX9_seq, List.mem_filter.mpr ⟨t3 (List.mem_of_getElem? (i := 237) rfl), rfl⟩, List.mem_filter.mpr ⟨t3 (List.mem_of_getElem? (i := 238) rfl), rfl⟩, _, _, _, rfl, List.mem_filter.mpr ⟨t3 (List.mem_of_getElem? (i := 239) rfl), rfl⟩⟩
theorem vX1_138 : a_cv RX1 138 2 mX2_seq 0 := ⟨kX2_seq, List.mem_filter.mpr ⟨t4 (List.mem_of_getElem? (i := 1) rfl), rfl⟩, List.mem_filter.mpr ⟨t4 (List.mem_of_getElem? (i := 2) rfl), rfl⟩, _, _, _, rfl, List.mem_filter.mpr ⟨t4 (List.mem_of_getElem? (i := 3) rfl), rfl⟩⟩
theorem vX1_59 : a_cv RX1 59 1 mX1_isTwoSteps 1 := ⟨kX1_isTwoSteps, List.mem_filter.mpr ⟨t4 (List.mem_of_getElem? (i := 5) rfl), rfl⟩, List.mem_filter.mpr ⟨t4 (List.mem_of_getElem? (i := 7) rfl), rfl⟩, _, _, _, rfl, List.mem_filter.mpr ⟨tp (List.mem_of_getElem? (i := 8) rfl), rfl⟩⟩
theorem vX1_195 : a_cv RX1 195 7 mX7_itemOf 2 := ⟨kX7_itemOf, List.mem_filter.mpr ⟨t4 (List.mem_of_getElem? (i := 9) rfl), rfl⟩, List.mem_filter.mpr ⟨t3 (List.mem_of_getElem? (i := 66) rfl), rfl⟩, _, _, _, rfl, List.mem_filter.mpr ⟨t3 (List.mem_of_getElem? (i := 67) rfl), rfl⟩⟩
theorem vX1_139 : a_cv RX1 139 1 mX1_acceptCells 1 := ⟨kX1_acceptCells, List.mem_filter.mpr ⟨t4 (List.mem_of_getElem? (i := 10) rfl), rfl⟩, List.mem_filter.mpr ⟨t4 (List.mem_of_getElem? (i := 12) rfl), rfl⟩, _, _, _, rfl, List.mem_filter.mpr ⟨tp (List.mem_of_getElem? (i := 9) rfl), rfl⟩⟩
theorem vX1_215 : a_cv RX1 215 1 mX1_receiverOf 1 := ⟨kX1_receiverOf, List.mem_filter.mpr ⟨t4 (List.mem_of_getElem? (i := 14) rfl), rfl⟩, List.mem_filter.mpr ⟨t4 (List.mem_of_getElem? (i := 16) rfl), rfl⟩, _, _, _, rfl, List.mem_filter.mpr ⟨tp (List.mem_of_getElem? (i := 10) rfl), rfl⟩⟩
theorem vX1_55 : a_cv RX1 55 4 mX4_takenAt 1 := ⟨kX4_takenAt, List.mem_filter.mpr ⟨t4 (List.mem_of_getElem? (i := 18) rfl), rfl⟩, List.mem_filter.mpr ⟨t4 (List.mem_of_getElem? (i := 19) rfl), rfl⟩, _, _, _, rfl, List.mem_filter.mpr ⟨t4 (List.mem_of_getElem? (i := 20) rfl), rfl⟩⟩
theorem vX4_69 : a_cv RX4 69 9 mX9_takenSlots 0 := ⟨kX9_takenSlots, List.mem_filter.mpr ⟨t4 (List.mem_of_getElem? (i := 22) rfl), rfl⟩, List.mem_filter.mpr ⟨t4 (List.mem_of_getElem? (i := 23) rfl), rfl⟩, _, _, _, rfl, List.mem_filter.mpr ⟨t4 (List.mem_of_getElem? (i := 24) rfl), rfl⟩⟩
theorem vX1_218 : a_cv RX1 218 1 mX1_putFreeTold 3 := ⟨kX1_putFreeTold, List.mem_filter.mpr ⟨t4 (List.mem_of_getElem? (i := 26) rfl), rfl⟩, List.mem_filter.mpr ⟨t4 (List.mem_of_getElem? (i := 28) rfl), rfl⟩, _, _, _, rfl, List.mem_filter.mpr ⟨tp (List.mem_of_getElem? (i := 11) rfl), rfl⟩⟩
theorem vX1_212 : a_cv RX1 212 9 mX9_hasRoom 0 := ⟨kX9_hasRoom, List.mem_filter.mpr ⟨t4 (List.mem_of_getElem? (i := 30) rfl), rfl⟩, List.mem_filter.mpr ⟨t4 (List.mem_of_getElem? (i := 31) rfl), rfl⟩, _, _, _, rfl, List.mem_filter.mpr ⟨t4 (List.mem_of_getElem? (i := 32) rfl), rfl⟩⟩
theorem vX1_170 : a_cv RX1 170 9 mX9_put 1 := ⟨kX9_put, List.mem_filter.mpr ⟨t4 (List.mem_of_getElem? (i := 34) rfl), rfl⟩, List.mem_filter.mpr ⟨t4 (List.mem_of_getElem? (i := 35) rfl), rfl⟩, _, _, _, rfl, List.mem_filter.mpr ⟨t4 (List.mem_of_getElem? (i := 36) rfl), rfl⟩⟩
theorem vX9_27 : a_cv RX9 27 9 mX9_placeOf 1 := ⟨kX9_placeOf, List.mem_filter.mpr ⟨t4 (List.mem_of_getElem? (i := 38) rfl), rfl⟩, List.mem_filter.mpr ⟨t4 (List.mem_of_getElem? (i := 39) rfl), rfl⟩, _, _, _, rfl, List.mem_filter.mpr ⟨t4 (List.mem_of_getElem? (i := 40) rfl), rfl⟩⟩
theorem vX9_31 : a_cv RX9 31 9 mX9_shift 2 := ⟨kX9_shift, List.mem_filter.mpr ⟨t4 (List.mem_of_getElem? (i := 42) rfl), rfl⟩, List.mem_filter.mpr ⟨t4 (List.mem_of_getElem? (i := 44) rfl), rfl⟩, _, _, _, rfl, List.mem_filter.mpr ⟨tp (List.mem_of_getElem? (i := 12) rfl), rfl⟩⟩
theorem vX1_102 : a_cv RX1 102 2 mX2_enclose 1 := ⟨kX2_enclose, List.mem_filter.mpr ⟨t4 (List.mem_of_getElem? (i := 46) rfl), rfl⟩, List.mem_filter.mpr ⟨t4 (List.mem_of_getElem? (i := 47) rfl), rfl⟩, _, _, _, rfl, List.mem_filter.mpr ⟨t4 (List.mem_of_getElem? (i := 48) rfl), rfl⟩⟩
theorem vX1_222 : a_cv RX1 222 1 mX1_endAnswer 1 := ⟨kX1_endAnswer, List.mem_filter.mpr ⟨t4 (List.mem_of_getElem? (i := 50) rfl), rfl⟩, List.mem_filter.mpr ⟨t4 (List.mem_of_getElem? (i := 52) rfl), rfl⟩, _, _, _, rfl, List.mem_filter.mpr ⟨tp (List.mem_of_getElem? (i := 13) rfl), rfl⟩⟩
theorem vX1_173 : a_cv RX1 173 9 mX9_raiseSeq 0 := ⟨kX9_raiseSeq, List.mem_filter.mpr ⟨t4 (List.mem_of_getElem? (i := 54) rfl), rfl⟩, List.mem_filter.mpr ⟨t4 (List.mem_of_getElem? (i := 55) rfl), rfl⟩, _, _, _, rfl, List.mem_filter.mpr ⟨t4 (List.mem_of_getElem? (i := 56) rfl), rfl⟩⟩
theorem vX1_143 : a_cv RX1 143 1 mX1_offerCells 1 := ⟨kX1_offerCells, List.mem_filter.mpr ⟨t4 (List.mem_of_getElem? (i := 58) rfl), rfl⟩, List.mem_filter.mpr ⟨t4 (List.mem_of_getElem? (i := 60) rfl), rfl⟩, _, _, _, rfl, List.mem_filter.mpr ⟨tp (List.mem_of_getElem? (i := 14) rfl), rfl⟩⟩
theorem vX1_198 : a_cv RX1 198 1 mX1_gatherOffers 4 := ⟨kX1_gatherOffers, List.mem_filter.mpr ⟨t4 (List.mem_of_getElem? (i := 62) rfl), rfl⟩, List.mem_filter.mpr ⟨t4 (List.mem_of_getElem? (i := 63) rfl), rfl⟩, _, _, _, rfl, List.mem_filter.mpr ⟨t4 (List.mem_of_getElem? (i := 64) rfl), rfl⟩⟩
theorem vX1_31 : a_cv RX1 31 7 mX7_slots 0 := ⟨kX7_slots, List.mem_filter.mpr ⟨t4 (List.mem_of_getElem? (i := 66) rfl), rfl⟩, List.mem_filter.mpr ⟨t4 (List.mem_of_getElem? (i := 67) rfl), rfl⟩, _, _, _, rfl, List.mem_filter.mpr ⟨t4 (List.mem_of_getElem? (i := 68) rfl), rfl⟩⟩
theorem vX1_41 : a_cv RX1 41 7 mX7_cellInSlot 2 := ⟨kX7_cellInSlot, List.mem_filter.mpr ⟨t4 (List.mem_of_getElem? (i := 70) rfl), rfl⟩, List.mem_filter.mpr ⟨t4 (List.mem_of_getElem? (i := 71) rfl), rfl⟩, _, _, _, rfl, List.mem_filter.mpr ⟨t4 (List.mem_of_getElem? (i := 72) rfl), rfl⟩⟩
theorem vX1_202 : a_cv RX1 202 1 mX1_promiseOffers 2 := ⟨kX1_promiseOffers, List.mem_filter.mpr ⟨t4 (List.mem_of_getElem? (i := 74) rfl), rfl⟩, List.mem_filter.mpr ⟨t4 (List.mem_of_getElem? (i := 76) rfl), rfl⟩, _, _, _, rfl, List.mem_filter.mpr ⟨tp (List.mem_of_getElem? (i := 15) rfl), rfl⟩⟩
theorem vX1_209 : a_cv RX1 209 9 mX9_promise 1 := ⟨kX9_promise, List.mem_filter.mpr ⟨t4 (List.mem_of_getElem? (i := 78) rfl), rfl⟩, List.mem_filter.mpr ⟨t4 (List.mem_of_getElem? (i := 79) rfl), rfl⟩, _, _, _, rfl, List.mem_filter.mpr ⟨t4 (List.mem_of_getElem? (i := 80) rfl), rfl⟩⟩
theorem vX1_83 : a_cv RX1 83 4 mX4_frame 0 := ⟨kX4_frame, List.mem_filter.mpr ⟨t4 (List.mem_of_getElem? (i := 82) rfl), rfl⟩, List.mem_filter.mpr ⟨t3 (List.mem_of_getElem? (i := 172) rfl), rfl⟩, _, _, _, rfl, List.mem_filter.mpr ⟨t3 (List.mem_of_getElem? (i := 173) rfl), rfl⟩⟩
theorem vX1_86 : a_cv RX1 86 9 mX9_startWaiting 2 := ⟨kX9_startWaiting, List.mem_filter.mpr ⟨t4 (List.mem_of_getElem? (i := 83) rfl), rfl⟩, List.mem_filter.mpr ⟨t4 (List.mem_of_getElem? (i := 84) rfl), rfl⟩, _, _, _, rfl, List.mem_filter.mpr ⟨t4 (List.mem_of_getElem? (i := 85) rfl), rfl⟩⟩
theorem vX1_146 : a_cv RX1 146 1 mX1_giveUpCells 1 := ⟨kX1_giveUpCells, List.mem_filter.mpr ⟨t4 (List.mem_of_getElem? (i := 87) rfl), rfl⟩, List.mem_filter.mpr ⟨t4 (List.mem_of_getElem? (i := 89) rfl), rfl⟩, _, _, _, rfl, List.mem_filter.mpr ⟨tp (List.mem_of_getElem? (i := 16) rfl), rfl⟩⟩
theorem vX1_166 : a_cv RX1 166 9 mX9_takeOut 1 := ⟨kX9_takeOut, List.mem_filter.mpr ⟨t4 (List.mem_of_getElem? (i := 91) rfl), rfl⟩, List.mem_filter.mpr ⟨t4 (List.mem_of_getElem? (i := 92) rfl), rfl⟩, _, _, _, rfl, List.mem_filter.mpr ⟨t4 (List.mem_of_getElem? (i := 93) rfl), rfl⟩⟩
theorem vX1_149 : a_cv RX1 149 1 mX1_moveCell 1 := ⟨kX1_moveCell, List.mem_filter.mpr ⟨t4 (List.mem_of_getElem? (i := 95) rfl), rfl⟩, List.mem_filter.mpr ⟨t4 (List.mem_of_getElem? (i := 97) rfl), rfl⟩, _, _, _, rfl, List.mem_filter.mpr ⟨tp (List.mem_of_getElem? (i := 17) rfl), rfl⟩⟩
theorem vX1_225 : a_cv RX1 225 9 mX9_placeOf 1 := ⟨kX9_placeOf, List.mem_filter.mpr ⟨t4 (List.mem_of_getElem? (i := 99) rfl), rfl⟩, List.mem_filter.mpr ⟨t4 (List.mem_of_getElem? (i := 39) rfl), rfl⟩, _, _, _, rfl, List.mem_filter.mpr ⟨t4 (List.mem_of_getElem? (i := 40) rfl), rfl⟩⟩
theorem vX0_68 : a_cv RX0 68 1 mX1_readAnswer 1 := ⟨kX1_readAnswer, List.mem_filter.mpr ⟨t4 (List.mem_of_getElem? (i := 100) rfl), rfl⟩, List.mem_filter.mpr ⟨t4 (List.mem_of_getElem? (i := 101) rfl), rfl⟩, _, _, _, rfl, List.mem_filter.mpr ⟨t4 (List.mem_of_getElem? (i := 102) rfl), rfl⟩⟩
theorem vX1_152 : a_cv RX1 152 2 mX2_result 0 := ⟨kX2_result, List.mem_filter.mpr ⟨t4 (List.mem_of_getElem? (i := 104) rfl), rfl⟩, List.mem_filter.mpr ⟨t4 (List.mem_of_getElem? (i := 105) rfl), rfl⟩, _, _, _, rfl, List.mem_filter.mpr ⟨t4 (List.mem_of_getElem? (i := 106) rfl), rfl⟩⟩
theorem vX1_155 : a_cv RX1 155 1 mX1_begin 3 := ⟨kX1_begin, List.mem_filter.mpr ⟨t4 (List.mem_of_getElem? (i := 108) rfl), rfl⟩, List.mem_filter.mpr ⟨t4 (List.mem_of_getElem? (i := 109) rfl), rfl⟩, _, _, _, rfl, List.mem_filter.mpr ⟨t4 (List.mem_of_getElem? (i := 110) rfl), rfl⟩⟩
theorem vX1_90 : a_cv RX1 90 1 mX1_promiseFreeSlots 3 := ⟨kX1_promiseFreeSlots, List.mem_filter.mpr ⟨t4 (List.mem_of_getElem? (i := 112) rfl), rfl⟩, List.mem_filter.mpr ⟨t4 (List.mem_of_getElem? (i := 114) rfl), rfl⟩, _, _, _, rfl, List.mem_filter.mpr ⟨tp (List.mem_of_getElem? (i := 18) rfl), rfl⟩⟩
theorem vX1_51 : a_cv RX1 51 1 mX1_senderOf 1 := ⟨kX1_senderOf, List.mem_filter.mpr ⟨t4 (List.mem_of_getElem? (i := 116) rfl), rfl⟩, List.mem_filter.mpr ⟨t4 (List.mem_of_getElem? (i := 118) rfl), rfl⟩, _, _, _, rfl, List.mem_filter.mpr ⟨tp (List.mem_of_getElem? (i := 19) rfl), rfl⟩⟩
theorem vX1_67 : a_cv RX1 67 9 mX9_size 0 := ⟨kX9_size, List.mem_filter.mpr ⟨t4 (List.mem_of_getElem? (i := 120) rfl), rfl⟩, List.mem_filter.mpr ⟨t3 (List.mem_of_getElem? (i := 112) rfl), rfl⟩, _, _, _, rfl, List.mem_filter.mpr ⟨t3 (List.mem_of_getElem? (i := 113) rfl), rfl⟩⟩
theorem nX1_94 : Cond.methodLink RX1 94 Lib.Math.max.name ∈ aG := List.mem_filter.mpr ⟨t4 (List.mem_of_getElem? (i := 121) rfl), rfl⟩
theorem vX1_99 : a_cv RX1 99 9 mX9_numberAt 1 := ⟨kX9_numberAt, List.mem_filter.mpr ⟨t4 (List.mem_of_getElem? (i := 122) rfl), rfl⟩, List.mem_filter.mpr ⟨t3 (List.mem_of_getElem? (i := 116) rfl), rfl⟩, _, _, _, rfl, List.mem_filter.mpr ⟨t3 (List.mem_of_getElem? (i := 117) rfl), rfl⟩⟩
theorem vX1_159 : a_cv RX1 159 1 mX1_confirmCells 1 := ⟨kX1_confirmCells, List.mem_filter.mpr ⟨t4 (List.mem_of_getElem? (i := 123) rfl), rfl⟩, List.mem_filter.mpr ⟨t4 (List.mem_of_getElem? (i := 125) rfl), rfl⟩, _, _, _, rfl, List.mem_filter.mpr ⟨tp (List.mem_of_getElem? (i := 20) rfl), rfl⟩⟩
theorem vX1_162 : a_cv RX1 162 1 mX1_putAllTold 1 := ⟨kX1_putAllTold, List.mem_filter.mpr ⟨t4 (List.mem_of_getElem? (i := 127) rfl), rfl⟩, List.mem_filter.mpr ⟨t4 (List.mem_of_getElem? (i := 129) rfl), rfl⟩, _, _, _, rfl, List.mem_filter.mpr ⟨tp (List.mem_of_getElem? (i := 21) rfl), rfl⟩⟩
theorem vX0_71 : a_cv RX0 71 1 mX1_readConfirm 1 := ⟨kX1_readConfirm, List.mem_filter.mpr ⟨t4 (List.mem_of_getElem? (i := 131) rfl), rfl⟩, List.mem_filter.mpr ⟨t4 (List.mem_of_getElem? (i := 132) rfl), rfl⟩, _, _, _, rfl, List.mem_filter.mpr ⟨t4 (List.mem_of_getElem? (i := 133) rfl), rfl⟩⟩
theorem vX1_176 : a_cv RX1 176 9 mX9_isWaiting 0 := ⟨kX9_isWaiting, List.mem_filter.mpr ⟨t4 (List.mem_of_getElem? (i := 135) rfl), rfl⟩, List.mem_filter.mpr ⟨t3 (List.mem_of_getElem? (i := 128) rfl), rfl⟩, _, _, _, rfl, List.mem_filter.mpr ⟨t3 (List.mem_of_getElem? (i := 129) rfl), rfl⟩⟩
theorem vX0_74 : a_cv RX0 74 1 mX1_runOut 1 := ⟨kX1_runOut, List.mem_filter.mpr ⟨t4 (List.mem_of_getElem? (i := 136) rfl), rfl⟩, List.mem_filter.mpr ⟨t4 (List.mem_of_getElem? (i := 137) rfl), rfl⟩, _, _, _, rfl, List.mem_filter.mpr ⟨t4 (List.mem_of_getElem? (i := 138) rfl), rfl⟩⟩
theorem vX1_179 : a_cv RX1 179 2 mX2_isUnderWay 0 := ⟨kX2_isUnderWay, List.mem_filter.mpr ⟨t4 (List.mem_of_getElem? (i := 140) rfl), rfl⟩, List.mem_filter.mpr ⟨t3 (List.mem_of_getElem? (i := 140) rfl), rfl⟩, _, _, _, rfl, List.mem_filter.mpr ⟨t3 (List.mem_of_getElem? (i := 141) rfl), rfl⟩⟩
theorem vX1_182 : a_cv RX1 182 7 mX7_timeout 0 := ⟨kX7_timeout, List.mem_filter.mpr ⟨t4 (List.mem_of_getElem? (i := 141) rfl), rfl⟩, List.mem_filter.mpr ⟨t4 (List.mem_of_getElem? (i := 142) rfl), rfl⟩, _, _, _, rfl, List.mem_filter.mpr ⟨t4 (List.mem_of_getElem? (i := 143) rfl), rfl⟩⟩
theorem vX1_185 : a_cv RX1 185 9 mX9_hasWaited 2 := ⟨kX9_hasWaited, List.mem_filter.mpr ⟨t4 (List.mem_of_getElem? (i := 145) rfl), rfl⟩, List.mem_filter.mpr ⟨t4 (List.mem_of_getElem? (i := 146) rfl), rfl⟩, _, _, _, rfl, List.mem_filter.mpr ⟨t4 (List.mem_of_getElem? (i := 147) rfl), rfl⟩⟩
theorem vX1_189 : a_cv RX1 189 9 mX9_awaits 1 := ⟨kX9_awaits, List.mem_filter.mpr ⟨t4 (List.mem_of_getElem? (i := 149) rfl), rfl⟩, List.mem_filter.mpr ⟨t4 (List.mem_of_getElem? (i := 150) rfl), rfl⟩, _, _, _, rfl, List.mem_filter.mpr ⟨t4 (List.mem_of_getElem? (i := 151) rfl), rfl⟩⟩
theorem vX0_77 : a_cv RX0 77 0 mX0_sendAll 0 := ⟨kX0_sendAll, List.mem_filter.mpr ⟨t4 (List.mem_of_getElem? (i := 153) rfl), rfl⟩, List.mem_filter.mpr ⟨t4 (List.mem_of_getElem? (i := 155) rfl), rfl⟩, _, _, _, rfl, List.mem_filter.mpr ⟨tp (List.mem_of_getElem? (i := 22) rfl), rfl⟩⟩
theorem vX0_93 : a_cv RX0 93 3 mX3_growQueue 0 := ⟨kX3_growQueue, List.mem_filter.mpr ⟨t4 (List.mem_of_getElem? (i := 157) rfl), rfl⟩, List.mem_filter.mpr ⟨t4 (List.mem_of_getElem? (i := 158) rfl), rfl⟩, _, _, _, rfl, List.mem_filter.mpr ⟨t4 (List.mem_of_getElem? (i := 159) rfl), rfl⟩⟩
theorem nX3_48 : Cond.methodLink RX3 48 Lib.Math.min.name ∈ aG := List.mem_filter.mpr ⟨t4 (List.mem_of_getElem? (i := 161) rfl), rfl⟩
theorem vX0_96 : a_cv RX0 96 3 mX3_queue 0 := ⟨kX3_queue, List.mem_filter.mpr ⟨t4 (List.mem_of_getElem? (i := 162) rfl), rfl⟩, List.mem_filter.mpr ⟨t4 (List.mem_of_getElem? (i := 163) rfl), rfl⟩, _, _, _, rfl, List.mem_filter.mpr ⟨t4 (List.mem_of_getElem? (i := 164) rfl), rfl⟩⟩
theorem vX0_103 : a_cv RX0 103 9 mX9_size 0 := ⟨kX9_size, List.mem_filter.mpr ⟨t4 (List.mem_of_getElem? (i := 166) rfl), rfl⟩, List.mem_filter.mpr ⟨t3 (List.mem_of_getElem? (i := 112) rfl), rfl⟩, _, _, _, rfl, List.mem_filter.mpr ⟨t3 (List.mem_of_getElem? (i := 113) rfl), rfl⟩⟩
theorem nX0_108 : Cond.methodLink RX0 108 Lib.Math.min.name ∈ aG := List.mem_filter.mpr ⟨t4 (List.mem_of_getElem? (i := 167) rfl), rfl⟩
theorem vX0_114 : a_cv RX0 114 0 mX0_markCells 3 := ⟨kX0_markCells, List.mem_filter.mpr ⟨t4 (List.mem_of_getElem? (i := 168) rfl), rfl⟩, List.mem_filter.mpr ⟨t4 (List.mem_of_getElem? (i := 170) rfl), rfl⟩, _, _, _, rfl, List.mem_filter.mpr ⟨tp (List.mem_of_getElem? (i := 23) rfl), rfl⟩⟩
theorem vX0_122 : a_cv RX0 122 9 mX9_numberAt 1 := ⟨kX9_numberAt, List.mem_filter.mpr ⟨t4 (List.mem_of_getElem? (i := 172) rfl), rfl⟩, List.mem_filter.mpr ⟨t3 (List.mem_of_getElem? (i := 116) rfl), rfl⟩, _, _, _, rfl, List.mem_filter.mpr ⟨t3 (List.mem_of_getElem? (i := 117) rfl), rfl⟩⟩
theorem vX0_118 : a_cv RX0 118 0 mX0_sendOf 2 := ⟨kX0_sendOf, List.mem_filter.mpr ⟨t4 (List.mem_of_getElem? (i := 173) rfl), rfl⟩, List.mem_filter.mpr ⟨t4 (List.mem_of_getElem? (i := 175) rfl), rfl⟩, _, _, _, rfl, List.mem_filter.mpr ⟨tp (List.mem_of_getElem? (i := 24) rfl), rfl⟩⟩
theorem vX0_126 : a_cv RX0 126 9 mX9_countSent 1 := ⟨kX9_countSent, List.mem_filter.mpr ⟨t4 (List.mem_of_getElem? (i := 177) rfl), rfl⟩, List.mem_filter.mpr ⟨t4 (List.mem_of_getElem? (i := 178) rfl), rfl⟩, _, _, _, rfl, List.mem_filter.mpr ⟨t4 (List.mem_of_getElem? (i := 179) rfl), rfl⟩⟩
theorem vX0_130 : a_cv RX0 130 0 mX0_comesOver 2 := ⟨kX0_comesOver, List.mem_filter.mpr ⟨t4 (List.mem_of_getElem? (i := 181) rfl), rfl⟩, List.mem_filter.mpr ⟨t4 (List.mem_of_getElem? (i := 183) rfl), rfl⟩, _, _, _, rfl, List.mem_filter.mpr ⟨tp (List.mem_of_getElem? (i := 25) rfl), rfl⟩⟩
theorem vX0_144 : a_cv RX0 144 9 mX9_placeOf 1 := ⟨kX9_placeOf, List.mem_filter.mpr ⟨t4 (List.mem_of_getElem? (i := 185) rfl), rfl⟩, List.mem_filter.mpr ⟨t4 (List.mem_of_getElem? (i := 39) rfl), rfl⟩, _, _, _, rfl, List.mem_filter.mpr ⟨t4 (List.mem_of_getElem? (i := 40) rfl), rfl⟩⟩
theorem vX0_80 : a_cv RX0 80 4 mX4_frame 0 := ⟨kX4_frame, List.mem_filter.mpr ⟨t4 (List.mem_of_getElem? (i := 186) rfl), rfl⟩, List.mem_filter.mpr ⟨t3 (List.mem_of_getElem? (i := 172) rfl), rfl⟩, _, _, _, rfl, List.mem_filter.mpr ⟨t3 (List.mem_of_getElem? (i := 173) rfl), rfl⟩⟩
theorem vX0_147 : a_cv RX0 147 7 mX7_channelOf 2 := ⟨kX7_channelOf, List.mem_filter.mpr ⟨t4 (List.mem_of_getElem? (i := 187) rfl), rfl⟩, List.mem_filter.mpr ⟨t3 (List.mem_of_getElem? (i := 156) rfl), rfl⟩, _, _, _, rfl, List.mem_filter.mpr ⟨t3 (List.mem_of_getElem? (i := 157) rfl), rfl⟩⟩
theorem vX0_150 : a_cv RX0 150 4 mX4_isJammed 1 := ⟨kX4_isJammed, List.mem_filter.mpr ⟨t4 (List.mem_of_getElem? (i := 188) rfl), rfl⟩, List.mem_filter.mpr ⟨t4 (List.mem_of_getElem? (i := 189) rfl), rfl⟩, _, _, _, rfl, List.mem_filter.mpr ⟨t4 (List.mem_of_getElem? (i := 190) rfl), rfl⟩⟩
theorem vX0_134 : a_cv RX0 134 9 mX9_countGot 1 := ⟨kX9_countGot, List.mem_filter.mpr ⟨t4 (List.mem_of_getElem? (i := 192) rfl), rfl⟩, List.mem_filter.mpr ⟨t4 (List.mem_of_getElem? (i := 193) rfl), rfl⟩, _, _, _, rfl, List.mem_filter.mpr ⟨t4 (List.mem_of_getElem? (i := 194) rfl), rfl⟩⟩
theorem vX0_137 : a_cv RX0 137 3 mX3_noteSending 2 := ⟨kX3_noteSending, List.mem_filter.mpr ⟨t4 (List.mem_of_getElem? (i := 196) rfl), rfl⟩, List.mem_filter.mpr ⟨t4 (List.mem_of_getElem? (i := 197) rfl), rfl⟩, _, _, _, rfl, List.mem_filter.mpr ⟨t4 (List.mem_of_getElem? (i := 198) rfl), rfl⟩⟩
theorem vX3_45 : a_cv RX3 45 9 mX9_size 0 := ⟨kX9_size, List.mem_filter.mpr ⟨t4 (List.mem_of_getElem? (i := 200) rfl), rfl⟩, List.mem_filter.mpr ⟨t3 (List.mem_of_getElem? (i := 112) rfl), rfl⟩, _, _, _, rfl, List.mem_filter.mpr ⟨t3 (List.mem_of_getElem? (i := 113) rfl), rfl⟩⟩
theorem vX0_83 : a_cv RX0 83 7 mX7_endsWindow 1 := ⟨kX7_endsWindow, List.mem_filter.mpr ⟨t4 (List.mem_of_getElem? (i := 201) rfl), rfl⟩, List.mem_filter.mpr ⟨t4 (List.mem_of_getElem? (i := 202) rfl), rfl⟩, _, _, _, rfl, List.mem_filter.mpr ⟨t4 (List.mem_of_getElem? (i := 203) rfl), rfl⟩⟩
theorem vX0_87 : a_cv RX0 87 0 mX0_followLoad 1 := ⟨kX0_followLoad, List.mem_filter.mpr ⟨t4 (List.mem_of_getElem? (i := 205) rfl), rfl⟩, List.mem_filter.mpr ⟨t4 (List.mem_of_getElem? (i := 207) rfl), rfl⟩, _, _, _, rfl, List.mem_filter.mpr ⟨tp (List.mem_of_getElem? (i := 26) rfl), rfl⟩⟩
theorem vX0_153 : a_cv RX0 153 9 mX9_badPlace 0 := ⟨kX9_badPlace, List.mem_filter.mpr ⟨t4 (List.mem_of_getElem? (i := 209) rfl), rfl⟩, List.mem_filter.mpr ⟨t4 (List.mem_of_getElem? (i := 210) rfl), rfl⟩, _, _, _, rfl, List.mem_filter.mpr ⟨t4 (List.mem_of_getElem? (i := 211) rfl), rfl⟩⟩
theorem vX9_35 : a_cv RX9 35 9 mX9_comesLess 2 := ⟨kX9_comesLess, List.mem_filter.mpr ⟨t4 (List.mem_of_getElem? (i := 213) rfl), rfl⟩, List.mem_filter.mpr ⟨t4 (List.mem_of_getElem? (i := 215) rfl), rfl⟩, _, _, _, rfl, List.mem_filter.mpr ⟨tp (List.mem_of_getElem? (i := 27) rfl), rfl⟩⟩
theorem vX0_156 : a_cv RX0 156 3 mX3_wantsMore 0 := ⟨kX3_wantsMore, List.mem_filter.mpr ⟨t4 (List.mem_of_getElem? (i := 217) rfl), rfl⟩, List.mem_filter.mpr ⟨t4 (List.mem_of_getElem? (i := 218) rfl), rfl⟩, _, _, _, rfl, List.mem_filter.mpr ⟨t4 (List.mem_of_getElem? (i := 219) rfl), rfl⟩⟩
theorem vX0_159 : a_cv RX0 159 3 mX3_wantsLess 0 := ⟨kX3_wantsLess, List.mem_filter.mpr ⟨t4 (List.mem_of_getElem? (i := 221) rfl), rfl⟩, List.mem_filter.mpr ⟨t4 (List.mem_of_getElem? (i := 222) rfl), rfl⟩, _, _, _, rfl, List.mem_filter.mpr ⟨t4 (List.mem_of_getElem? (i := 223) rfl), rfl⟩⟩
theorem vX0_162 : a_cv RX0 162 4 mX4_autoNow 0 := ⟨kX4_autoNow, List.mem_filter.mpr ⟨t4 (List.mem_of_getElem? (i := 225) rfl), rfl⟩, List.mem_filter.mpr ⟨t3 (List.mem_of_getElem? (i := 95) rfl), rfl⟩, _, _, _, rfl, List.mem_filter.mpr ⟨t3 (List.mem_of_getElem? (i := 96) rfl), rfl⟩⟩
theorem vX0_165 : a_cv RX0 165 1 mX1_canBegin 2 := ⟨kX1_canBegin, List.mem_filter.mpr ⟨t4 (List.mem_of_getElem? (i := 226) rfl), rfl⟩, List.mem_filter.mpr ⟨t4 (List.mem_of_getElem? (i := 227) rfl), rfl⟩, _, _, _, rfl, List.mem_filter.mpr ⟨t4 (List.mem_of_getElem? (i := 228) rfl), rfl⟩⟩
theorem vX1_45 : a_cv RX1 45 3 mX3_isIdle 0 := ⟨kX3_isIdle, List.mem_filter.mpr ⟨t4 (List.mem_of_getElem? (i := 230) rfl), rfl⟩, List.mem_filter.mpr ⟨t4 (List.mem_of_getElem? (i := 231) rfl), rfl⟩, _, _, _, rfl, List.mem_filter.mpr ⟨t4 (List.mem_of_getElem? (i := 232) rfl), rfl⟩⟩
theorem vX3_54 : a_cv RX3 54 9 mX9_isWaiting 0 := ⟨kX9_isWaiting, List.mem_filter.mpr ⟨t4 (List.mem_of_getElem? (i := 234) rfl), rfl⟩, List.mem_filter.mpr ⟨t3 (List.mem_of_getElem? (i := 128) rfl), rfl⟩, _, _, _, rfl, List.mem_filter.mpr ⟨t3 (List.mem_of_getElem? (i := 129) rfl), rfl⟩⟩
theorem vX3_58 : a_cv RX3 58 2 mX2_isUnderWay 0 := ⟨kX2_isUnderWay, List.mem_filter.mpr ⟨t4 (List.mem_of_getElem? (i := 235) rfl), rfl⟩, List.mem_filter.mpr ⟨t3 (List.mem_of_getElem? (i := 140) rfl), rfl⟩, _, _, _, rfl, List.mem_filter.mpr ⟨t3 (List.mem_of_getElem? (i := 141) rfl), rfl⟩⟩
theorem vX0_168 : a_cv RX0 168 1 mX1_begin 3 := ⟨kX1_begin, List.mem_filter.mpr ⟨t4 (List.mem_of_getElem? (i := 236) rfl), rfl⟩, List.mem_filter.mpr ⟨t4 (List.mem_of_getElem? (i := 109) rfl), rfl⟩, _, _, _, rfl, List.mem_filter.mpr ⟨t4 (List.mem_of_getElem? (i := 110) rfl), rfl⟩⟩
theorem vX0_172 : a_cv RX0 172 3 mX3_endWindow 0 := ⟨kX3_endWindow, List.mem_filter.mpr ⟨t4 (List.mem_of_getElem? (i := 237) rfl), rfl⟩, List.mem_filter.mpr ⟨t4 (List.mem_of_getElem? (i := 238) rfl), rfl⟩, _, _, _, rfl, List.mem_filter.mpr ⟨t4 (List.mem_of_getElem? (i := 239) rfl), rfl⟩⟩
theorem vX0_90 : a_cv RX0 90 4 mX4_goToNextFrame 0 := ⟨kX4_goToNextFrame, List.mem_filter.mpr ⟨t5 (List.mem_of_getElem? (i := 1) rfl), rfl⟩, List.mem_filter.mpr ⟨t5 (List.mem_of_getElem? (i := 2) rfl), rfl⟩, _, _, _, rfl, List.mem_filter.mpr ⟨t5 (List.mem_of_getElem? (i := 3) rfl), rfl⟩⟩
theorem vX11_313 : a_cv RX11 313 4 mX4_lettersUnderWay 0 := ⟨kX4_lettersUnderWay, List.mem_filter.mpr ⟨t5 (List.mem_of_getElem? (i := 5) rfl), rfl⟩, List.mem_filter.mpr ⟨t5 (List.mem_of_getElem? (i := 6) rfl), rfl⟩, _, _, _, rfl, List.mem_filter.mpr ⟨t5 (List.mem_of_getElem? (i := 7) rfl), rfl⟩⟩
theorem vX4_87 : a_cv RX4 87 2 mX2_isUnderWay 0 := ⟨kX2_isUnderWay, List.mem_filter.mpr ⟨t5 (List.mem_of_getElem? (i := 9) rfl), rfl⟩, List.mem_filter.mpr ⟨t3 (List.mem_of_getElem? (i := 140) rfl), rfl⟩, _, _, _, rfl, List.mem_filter.mpr ⟨t3 (List.mem_of_getElem? (i := 141) rfl), rfl⟩⟩
theorem vX11_316 : a_cv RX11 316 4 mX4_cellsOfBoth 0 := ⟨kX4_cellsOfBoth, List.mem_filter.mpr ⟨t5 (List.mem_of_getElem? (i := 10) rfl), rfl⟩, List.mem_filter.mpr ⟨t5 (List.mem_of_getElem? (i := 11) rfl), rfl⟩, _, _, _, rfl, List.mem_filter.mpr ⟨t5 (List.mem_of_getElem? (i := 12) rfl), rfl⟩⟩
theorem vX4_90 : a_cv RX4 90 9 mX9_cellsAlsoIn 1 := ⟨kX9_cellsAlsoIn, List.mem_filter.mpr ⟨t5 (List.mem_of_getElem? (i := 14) rfl), rfl⟩, List.mem_filter.mpr ⟨t5 (List.mem_of_getElem? (i := 15) rfl), rfl⟩, _, _, _, rfl, List.mem_filter.mpr ⟨t5 (List.mem_of_getElem? (i := 16) rfl), rfl⟩⟩
theorem vX11_319 : a_cv RX11 319 0 mX0_cameInAll 0 := ⟨kX0_cameInAll, List.mem_filter.mpr ⟨t5 (List.mem_of_getElem? (i := 18) rfl), rfl⟩, List.mem_filter.mpr ⟨t5 (List.mem_of_getElem? (i := 19) rfl), rfl⟩, _, _, _, rfl, List.mem_filter.mpr ⟨t5 (List.mem_of_getElem? (i := 20) rfl), rfl⟩⟩
theorem vX11_322 : a_cv RX11 322 6 mX6_addToLog 3 := ⟨kX6_addToLog, List.mem_filter.mpr ⟨t5 (List.mem_of_getElem? (i := 22) rfl), rfl⟩, List.mem_filter.mpr ⟨t5 (List.mem_of_getElem? (i := 23) rfl), rfl⟩, _, _, _, rfl, List.mem_filter.mpr ⟨t5 (List.mem_of_getElem? (i := 24) rfl), rfl⟩⟩
theorem vX11_199 : a_cs RX11 199 mX11_isDealing 2 := ⟨kX11_isDealing, List.mem_filter.mpr ⟨t5 (List.mem_of_getElem? (i := 30) rfl), rfl⟩, List.mem_filter.mpr ⟨t5 (List.mem_of_getElem? (i := 31) rfl), rfl⟩⟩
theorem vX11_203 : a_cv RX11 203 1 mX1_canBegin 2 := ⟨kX1_canBegin, List.mem_filter.mpr ⟨t5 (List.mem_of_getElem? (i := 33) rfl), rfl⟩, List.mem_filter.mpr ⟨t4 (List.mem_of_getElem? (i := 227) rfl), rfl⟩, _, _, _, rfl, List.mem_filter.mpr ⟨t4 (List.mem_of_getElem? (i := 228) rfl), rfl⟩⟩
theorem vX11_207 : a_cv RX11 207 1 mX1_begin 3 := ⟨kX1_begin, List.mem_filter.mpr ⟨t5 (List.mem_of_getElem? (i := 34) rfl), rfl⟩, List.mem_filter.mpr ⟨t4 (List.mem_of_getElem? (i := 109) rfl), rfl⟩, _, _, _, rfl, List.mem_filter.mpr ⟨t4 (List.mem_of_getElem? (i := 110) rfl), rfl⟩⟩
theorem vX11_211 : a_cv RX11 211 2 mX2_isUnderWay 0 := ⟨kX2_isUnderWay, List.mem_filter.mpr ⟨t5 (List.mem_of_getElem? (i := 39) rfl), rfl⟩, List.mem_filter.mpr ⟨t3 (List.mem_of_getElem? (i := 140) rfl), rfl⟩, _, _, _, rfl, List.mem_filter.mpr ⟨t3 (List.mem_of_getElem? (i := 141) rfl), rfl⟩⟩
theorem vX11_214 : a_cv RX11 214 2 mX2_drop 0 := ⟨kX2_drop, List.mem_filter.mpr ⟨t5 (List.mem_of_getElem? (i := 40) rfl), rfl⟩, List.mem_filter.mpr ⟨t3 (List.mem_of_getElem? (i := 202) rfl), rfl⟩, _, _, _, rfl, List.mem_filter.mpr ⟨t3 (List.mem_of_getElem? (i := 203) rfl), rfl⟩⟩
theorem vX11_217 : a_cv RX11 217 2 mX2_sort 0 := ⟨kX2_sort, List.mem_filter.mpr ⟨t5 (List.mem_of_getElem? (i := 41) rfl), rfl⟩, List.mem_filter.mpr ⟨t3 (List.mem_of_getElem? (i := 206) rfl), rfl⟩, _, _, _, rfl, List.mem_filter.mpr ⟨t3 (List.mem_of_getElem? (i := 207) rfl), rfl⟩⟩
theorem vX11_220 : a_cv RX11 220 4 mX4_turnJam 1 := ⟨kX4_turnJam, List.mem_filter.mpr ⟨t5 (List.mem_of_getElem? (i := 46) rfl), rfl⟩, List.mem_filter.mpr ⟨t5 (List.mem_of_getElem? (i := 47) rfl), rfl⟩, _, _, _, rfl, List.mem_filter.mpr ⟨t5 (List.mem_of_getElem? (i := 48) rfl), rfl⟩⟩
theorem vX11_223 : a_cv RX11 223 4 mX4_isJammed 1 := ⟨kX4_isJammed, List.mem_filter.mpr ⟨t5 (List.mem_of_getElem? (i := 50) rfl), rfl⟩, List.mem_filter.mpr ⟨t4 (List.mem_of_getElem? (i := 189) rfl), rfl⟩, _, _, _, rfl, List.mem_filter.mpr ⟨t4 (List.mem_of_getElem? (i := 190) rfl), rfl⟩⟩
theorem vX11_147 : a_cv RX11 147 3 mX3_tell 1 := ⟨kX3_tell, List.mem_filter.mpr ⟨t5 (List.mem_of_getElem? (i := 55) rfl), rfl⟩, List.mem_filter.mpr ⟨t5 (List.mem_of_getElem? (i := 56) rfl), rfl⟩, _, _, _, rfl, List.mem_filter.mpr ⟨t5 (List.mem_of_getElem? (i := 57) rfl), rfl⟩⟩
theorem vX3_41 : a_cv RX3 41 9 mX9_seq 0 := ⟨kX9_seq, List.mem_filter.mpr ⟨t5 (List.mem_of_getElem? (i := 59) rfl), rfl⟩, List.mem_filter.mpr ⟨t3 (List.mem_of_getElem? (i := 238) rfl), rfl⟩, _, _, _, rfl, List.mem_filter.mpr ⟨t3 (List.mem_of_getElem? (i := 239) rfl), rfl⟩⟩
theorem vX11_226 : a_cv RX11 226 3 mX3_setLoad 1 := ⟨kX3_setLoad, List.mem_filter.mpr ⟨t5 (List.mem_of_getElem? (i := 60) rfl), rfl⟩, List.mem_filter.mpr ⟨t3 (List.mem_of_getElem? (i := 70) rfl), rfl⟩, _, _, _, rfl, List.mem_filter.mpr ⟨t3 (List.mem_of_getElem? (i := 71) rfl), rfl⟩⟩
theorem vX11_229 : a_cv RX11 229 4 mX4_turnAuto 0 := ⟨kX4_turnAuto, List.mem_filter.mpr ⟨t5 (List.mem_of_getElem? (i := 65) rfl), rfl⟩, List.mem_filter.mpr ⟨t5 (List.mem_of_getElem? (i := 66) rfl), rfl⟩, _, _, _, rfl, List.mem_filter.mpr ⟨t5 (List.mem_of_getElem? (i := 67) rfl), rfl⟩⟩
theorem vX11_236 : a_cv RX11 236 11 mX11_drawWhatIsAhead 0 := ⟨kX11_drawWhatIsAhead, List.mem_filter.mpr ⟨t5 (List.mem_of_getElem? (i := 73) rfl), rfl⟩, List.mem_filter.mpr ⟨t5 (List.mem_of_getElem? (i := 75) rfl), rfl⟩, _, _, _, rfl, List.mem_filter.mpr ⟨tp (List.mem_of_getElem? (i := 28) rfl), rfl⟩⟩
theorem vX11_326 : a_cv RX11 326 11 mX11_drawBelow 1 := ⟨kX11_drawBelow, List.mem_filter.mpr ⟨t5 (List.mem_of_getElem? (i := 77) rfl), rfl⟩, List.mem_filter.mpr ⟨t5 (List.mem_of_getElem? (i := 79) rfl), rfl⟩, _, _, _, rfl, List.mem_filter.mpr ⟨tp (List.mem_of_getElem? (i := 29) rfl), rfl⟩⟩
theorem zX11_329 : Cond.constantLong RX11 329 (6364136223846793005) ∈ aG := List.mem_filter.mpr ⟨t5 (List.mem_of_getElem? (i := 81) rfl), rfl⟩
theorem zX11_331 : Cond.constantLong RX11 331 (1442695040888963407) ∈ aG := List.mem_filter.mpr ⟨t5 (List.mem_of_getElem? (i := 82) rfl), rfl⟩
theorem vX11_239 : a_cv RX11 239 6 mX6_takeBackAct 1 := ⟨kX6_takeBackAct, List.mem_filter.mpr ⟨t5 (List.mem_of_getElem? (i := 91) rfl), rfl⟩, List.mem_filter.mpr ⟨t5 (List.mem_of_getElem? (i := 92) rfl), rfl⟩, _, _, _, rfl, List.mem_filter.mpr ⟨t5 (List.mem_of_getElem? (i := 93) rfl), rfl⟩⟩
theorem vX11_243 : a_cv RX11 243 6 mX6_acts 0 := ⟨kX6_acts, List.mem_filter.mpr ⟨t5 (List.mem_of_getElem? (i := 95) rfl), rfl⟩, List.mem_filter.mpr ⟨t5 (List.mem_of_getElem? (i := 96) rfl), rfl⟩, _, _, _, rfl, List.mem_filter.mpr ⟨t5 (List.mem_of_getElem? (i := 97) rfl), rfl⟩⟩
theorem vX11_246 : a_cv RX11 246 6 mX6_tellLog 2 := ⟨kX6_tellLog, List.mem_filter.mpr ⟨t5 (List.mem_of_getElem? (i := 103) rfl), rfl⟩, List.mem_filter.mpr ⟨t5 (List.mem_of_getElem? (i := 104) rfl), rfl⟩, _, _, _, rfl, List.mem_filter.mpr ⟨t5 (List.mem_of_getElem? (i := 105) rfl), rfl⟩⟩
theorem vX6_48 : a_cv RX6 48 6 mX6_logLength 0 := ⟨kX6_logLength, List.mem_filter.mpr ⟨t5 (List.mem_of_getElem? (i := 107) rfl), rfl⟩, List.mem_filter.mpr ⟨t5 (List.mem_of_getElem? (i := 108) rfl), rfl⟩, _, _, _, rfl, List.mem_filter.mpr ⟨t5 (List.mem_of_getElem? (i := 109) rfl), rfl⟩⟩
theorem vX11_249 : a_cv RX11 249 7 mX7_slots 0 := ⟨kX7_slots, List.mem_filter.mpr ⟨t5 (List.mem_of_getElem? (i := 115) rfl), rfl⟩, List.mem_filter.mpr ⟨t4 (List.mem_of_getElem? (i := 67) rfl), rfl⟩, _, _, _, rfl, List.mem_filter.mpr ⟨t4 (List.mem_of_getElem? (i := 68) rfl), rfl⟩⟩
theorem vX11_139 : a_cv RX11 139 7 mX7_itemOf 2 := ⟨kX7_itemOf, List.mem_filter.mpr ⟨t5 (List.mem_of_getElem? (i := 116) rfl), rfl⟩, List.mem_filter.mpr ⟨t3 (List.mem_of_getElem? (i := 66) rfl), rfl⟩, _, _, _, rfl, List.mem_filter.mpr ⟨t3 (List.mem_of_getElem? (i := 67) rfl), rfl⟩⟩
theorem vX11_252 : a_cv RX11 252 4 mX4_takenAt 1 := ⟨kX4_takenAt, List.mem_filter.mpr ⟨t5 (List.mem_of_getElem? (i := 117) rfl), rfl⟩, List.mem_filter.mpr ⟨t4 (List.mem_of_getElem? (i := 19) rfl), rfl⟩, _, _, _, rfl, List.mem_filter.mpr ⟨t4 (List.mem_of_getElem? (i := 20) rfl), rfl⟩⟩
theorem vX11_255 : a_cv RX11 255 1 mX1_gatherOffers 4 := ⟨kX1_gatherOffers, List.mem_filter.mpr ⟨t5 (List.mem_of_getElem? (i := 118) rfl), rfl⟩, List.mem_filter.mpr ⟨t4 (List.mem_of_getElem? (i := 63) rfl), rfl⟩, _, _, _, rfl, List.mem_filter.mpr ⟨t4 (List.mem_of_getElem? (i := 64) rfl), rfl⟩⟩
theorem vX11_259 : a_cv RX11 259 1 mX1_offerAt 1 := ⟨kX1_offerAt, List.mem_filter.mpr ⟨t5 (List.mem_of_getElem? (i := 119) rfl), rfl⟩, List.mem_filter.mpr ⟨t5 (List.mem_of_getElem? (i := 120) rfl), rfl⟩, _, _, _, rfl, List.mem_filter.mpr ⟨t5 (List.mem_of_getElem? (i := 121) rfl), rfl⟩⟩
theorem vX11_262 : a_cv RX11 262 5 mX5_afterFrames 3 := ⟨kX5_afterFrames, List.mem_filter.mpr ⟨t5 (List.mem_of_getElem? (i := 127) rfl), rfl⟩, List.mem_filter.mpr ⟨t5 (List.mem_of_getElem? (i := 128) rfl), rfl⟩, _, _, _, rfl, List.mem_filter.mpr ⟨t5 (List.mem_of_getElem? (i := 129) rfl), rfl⟩⟩
theorem vX5_48 : a_cv RX5 48 5 mX5_startFrom 1 := ⟨kX5_startFrom, List.mem_filter.mpr ⟨t5 (List.mem_of_getElem? (i := 131) rfl), rfl⟩, List.mem_filter.mpr ⟨t5 (List.mem_of_getElem? (i := 133) rfl), rfl⟩, _, _, _, rfl, List.mem_filter.mpr ⟨tp (List.mem_of_getElem? (i := 30) rfl), rfl⟩⟩
theorem aX5_109 : Cond.methodLink RX5 109 arraycopyName ∈ aG := List.mem_filter.mpr ⟨t5 (List.mem_of_getElem? (i := 135) rfl), rfl⟩
theorem vX5_52 : a_cv RX5 52 0 mX0_passFrame 0 := ⟨kX0_passFrame, List.mem_filter.mpr ⟨t5 (List.mem_of_getElem? (i := 136) rfl), rfl⟩, List.mem_filter.mpr ⟨t3 (List.mem_of_getElem? (i := 186) rfl), rfl⟩, _, _, _, rfl, List.mem_filter.mpr ⟨t3 (List.mem_of_getElem? (i := 187) rfl), rfl⟩⟩
theorem vX5_55 : a_cv RX5 55 0 mX0_cameOf 1 := ⟨kX0_cameOf, List.mem_filter.mpr ⟨t5 (List.mem_of_getElem? (i := 137) rfl), rfl⟩, List.mem_filter.mpr ⟨t5 (List.mem_of_getElem? (i := 138) rfl), rfl⟩, _, _, _, rfl, List.mem_filter.mpr ⟨t5 (List.mem_of_getElem? (i := 139) rfl), rfl⟩⟩
theorem vX5_65 : a_cv RX5 65 3 mX3_tell 1 := ⟨kX3_tell, List.mem_filter.mpr ⟨t5 (List.mem_of_getElem? (i := 141) rfl), rfl⟩, List.mem_filter.mpr ⟨t5 (List.mem_of_getElem? (i := 56) rfl), rfl⟩, _, _, _, rfl, List.mem_filter.mpr ⟨t5 (List.mem_of_getElem? (i := 57) rfl), rfl⟩⟩
theorem vX11_266 : a_cv RX11 266 3 mX3_agrees 0 := ⟨kX3_agrees, List.mem_filter.mpr ⟨t5 (List.mem_of_getElem? (i := 146) rfl), rfl⟩, List.mem_filter.mpr ⟨t5 (List.mem_of_getElem? (i := 147) rfl), rfl⟩, _, _, _, rfl, List.mem_filter.mpr ⟨t5 (List.mem_of_getElem? (i := 148) rfl), rfl⟩⟩
theorem vX3_61 : a_cv RX3 61 9 mX9_hasSameCells 1 := ⟨kX9_hasSameCells, List.mem_filter.mpr ⟨t5 (List.mem_of_getElem? (i := 150) rfl), rfl⟩, List.mem_filter.mpr ⟨t5 (List.mem_of_getElem? (i := 151) rfl), rfl⟩, _, _, _, rfl, List.mem_filter.mpr ⟨t5 (List.mem_of_getElem? (i := 152) rfl), rfl⟩⟩
theorem vX11_269 : a_cv RX11 269 5 mX5_framesTillAgreed 0 := ⟨kX5_framesTillAgreed, List.mem_filter.mpr ⟨t5 (List.mem_of_getElem? (i := 158) rfl), rfl⟩, List.mem_filter.mpr ⟨t5 (List.mem_of_getElem? (i := 159) rfl), rfl⟩, _, _, _, rfl, List.mem_filter.mpr ⟨t5 (List.mem_of_getElem? (i := 160) rfl), rfl⟩⟩
theorem vX5_68 : a_cv RX5 68 4 mX4_allAgree 0 := ⟨kX4_allAgree, List.mem_filter.mpr ⟨t5 (List.mem_of_getElem? (i := 162) rfl), rfl⟩, List.mem_filter.mpr ⟨t5 (List.mem_of_getElem? (i := 163) rfl), rfl⟩, _, _, _, rfl, List.mem_filter.mpr ⟨t5 (List.mem_of_getElem? (i := 164) rfl), rfl⟩⟩
theorem vX4_61 : a_cv RX4 61 3 mX3_agrees 0 := ⟨kX3_agrees, List.mem_filter.mpr ⟨t5 (List.mem_of_getElem? (i := 166) rfl), rfl⟩, List.mem_filter.mpr ⟨t5 (List.mem_of_getElem? (i := 147) rfl), rfl⟩, _, _, _, rfl, List.mem_filter.mpr ⟨t5 (List.mem_of_getElem? (i := 148) rfl), rfl⟩⟩
theorem vX11_272 : a_cv RX11 272 5 mX5_framesTillSteady 0 := ⟨kX5_framesTillSteady, List.mem_filter.mpr ⟨t5 (List.mem_of_getElem? (i := 171) rfl), rfl⟩, List.mem_filter.mpr ⟨t5 (List.mem_of_getElem? (i := 172) rfl), rfl⟩, _, _, _, rfl, List.mem_filter.mpr ⟨t5 (List.mem_of_getElem? (i := 173) rfl), rfl⟩⟩
theorem vX5_72 : a_cv RX5 72 5 mX5_notesChange 0 := ⟨kX5_notesChange, List.mem_filter.mpr ⟨t5 (List.mem_of_getElem? (i := 175) rfl), rfl⟩, List.mem_filter.mpr ⟨t5 (List.mem_of_getElem? (i := 177) rfl), rfl⟩, _, _, _, rfl, List.mem_filter.mpr ⟨tp (List.mem_of_getElem? (i := 31) rfl), rfl⟩⟩
theorem vX5_94 : a_cv RX5 94 7 mX7_pairs 0 := ⟨kX7_pairs, List.mem_filter.mpr ⟨t5 (List.mem_of_getElem? (i := 179) rfl), rfl⟩, List.mem_filter.mpr ⟨t3 (List.mem_of_getElem? (i := 62) rfl), rfl⟩, _, _, _, rfl, List.mem_filter.mpr ⟨t3 (List.mem_of_getElem? (i := 63) rfl), rfl⟩⟩
theorem vX5_104 : a_cv RX5 104 9 mX9_size 0 := ⟨kX9_size, List.mem_filter.mpr ⟨t5 (List.mem_of_getElem? (i := 180) rfl), rfl⟩, List.mem_filter.mpr ⟨t3 (List.mem_of_getElem? (i := 112) rfl), rfl⟩, _, _, _, rfl, List.mem_filter.mpr ⟨t3 (List.mem_of_getElem? (i := 113) rfl), rfl⟩⟩
theorem vX11_275 : a_cv RX11 275 5 mX5_framesAtOdds 2 := ⟨kX5_framesAtOdds, List.mem_filter.mpr ⟨t5 (List.mem_of_getElem? (i := 185) rfl), rfl⟩, List.mem_filter.mpr ⟨t5 (List.mem_of_getElem? (i := 186) rfl), rfl⟩, _, _, _, rfl, List.mem_filter.mpr ⟨t5 (List.mem_of_getElem? (i := 187) rfl), rfl⟩⟩
theorem vX5_79 : a_cv RX5 79 2 mX2_isUnderWay 0 := ⟨kX2_isUnderWay, List.mem_filter.mpr ⟨t5 (List.mem_of_getElem? (i := 189) rfl), rfl⟩, List.mem_filter.mpr ⟨t3 (List.mem_of_getElem? (i := 140) rfl), rfl⟩, _, _, _, rfl, List.mem_filter.mpr ⟨t3 (List.mem_of_getElem? (i := 141) rfl), rfl⟩⟩
theorem vX5_84 : a_cv RX5 84 2 mX2_drop 0 := ⟨kX2_drop, List.mem_filter.mpr ⟨t5 (List.mem_of_getElem? (i := 190) rfl), rfl⟩, List.mem_filter.mpr ⟨t3 (List.mem_of_getElem? (i := 202) rfl), rfl⟩, _, _, _, rfl, List.mem_filter.mpr ⟨t3 (List.mem_of_getElem? (i := 203) rfl), rfl⟩⟩
theorem vX11_278 : a_cv RX11 278 5 mX5_partsOf 3 := ⟨kX5_partsOf, List.mem_filter.mpr ⟨t5 (List.mem_of_getElem? (i := 195) rfl), rfl⟩, List.mem_filter.mpr ⟨t5 (List.mem_of_getElem? (i := 196) rfl), rfl⟩, _, _, _, rfl, List.mem_filter.mpr ⟨t5 (List.mem_of_getElem? (i := 197) rfl), rfl⟩⟩
theorem zX5_87 : Cond.constantLong RX5 87 (1000000000) ∈ aG := List.mem_filter.mpr ⟨t5 (List.mem_of_getElem? (i := 199) rfl), rfl⟩
theorem zX5_89 : Cond.constantLong RX5 89 (100) ∈ aG := List.mem_filter.mpr ⟨t5 (List.mem_of_getElem? (i := 200) rfl), rfl⟩
theorem vX5_91 : a_cv RX5 91 4 mX4_loseLetters 0 := ⟨kX4_loseLetters, List.mem_filter.mpr ⟨t5 (List.mem_of_getElem? (i := 201) rfl), rfl⟩, List.mem_filter.mpr ⟨t5 (List.mem_of_getElem? (i := 202) rfl), rfl⟩, _, _, _, rfl, List.mem_filter.mpr ⟨t5 (List.mem_of_getElem? (i := 203) rfl), rfl⟩⟩
theorem vX4_56 : a_cv RX4 56 2 mX2_drop 0 := ⟨kX2_drop, List.mem_filter.mpr ⟨t5 (List.mem_of_getElem? (i := 205) rfl), rfl⟩, List.mem_filter.mpr ⟨t3 (List.mem_of_getElem? (i := 202) rfl), rfl⟩, _, _, _, rfl, List.mem_filter.mpr ⟨t3 (List.mem_of_getElem? (i := 203) rfl), rfl⟩⟩
theorem vX11_282 : a_cv RX11 282 9 mX9_gotInAll 0 := ⟨kX9_gotInAll, List.mem_filter.mpr ⟨t5 (List.mem_of_getElem? (i := 210) rfl), rfl⟩, List.mem_filter.mpr ⟨t5 (List.mem_of_getElem? (i := 211) rfl), rfl⟩, _, _, _, rfl, List.mem_filter.mpr ⟨t5 (List.mem_of_getElem? (i := 212) rfl), rfl⟩⟩
theorem vX11_285 : a_cv RX11 285 4 mX4_doubledAt 1 := ⟨kX4_doubledAt, List.mem_filter.mpr ⟨t5 (List.mem_of_getElem? (i := 218) rfl), rfl⟩, List.mem_filter.mpr ⟨t5 (List.mem_of_getElem? (i := 219) rfl), rfl⟩, _, _, _, rfl, List.mem_filter.mpr ⟨t5 (List.mem_of_getElem? (i := 220) rfl), rfl⟩⟩
theorem vX4_77 : a_cv RX4 77 4 mX4_sideOf 2 := ⟨kX4_sideOf, List.mem_filter.mpr ⟨t5 (List.mem_of_getElem? (i := 222) rfl), rfl⟩, List.mem_filter.mpr ⟨t5 (List.mem_of_getElem? (i := 224) rfl), rfl⟩, _, _, _, rfl, List.mem_filter.mpr ⟨tp (List.mem_of_getElem? (i := 32) rfl), rfl⟩⟩
theorem vX4_81 : a_cv RX4 81 9 mX9_size 0 := ⟨kX9_size, List.mem_filter.mpr ⟨t5 (List.mem_of_getElem? (i := 226) rfl), rfl⟩, List.mem_filter.mpr ⟨t3 (List.mem_of_getElem? (i := 112) rfl), rfl⟩, _, _, _, rfl, List.mem_filter.mpr ⟨t3 (List.mem_of_getElem? (i := 113) rfl), rfl⟩⟩
theorem vX4_84 : a_cv RX4 84 9 mX9_numberAt 1 := ⟨kX9_numberAt, List.mem_filter.mpr ⟨t5 (List.mem_of_getElem? (i := 227) rfl), rfl⟩, List.mem_filter.mpr ⟨t3 (List.mem_of_getElem? (i := 116) rfl), rfl⟩, _, _, _, rfl, List.mem_filter.mpr ⟨t3 (List.mem_of_getElem? (i := 117) rfl), rfl⟩⟩
theorem zX11_288 : Cond.constant RX11 288 (-1000000) ∈ aG := List.mem_filter.mpr ⟨t5 (List.mem_of_getElem? (i := 232) rfl), rfl⟩
theorem vX11_289 : a_cv RX11 289 4 mX4_greatest 1 := ⟨kX4_greatest, List.mem_filter.mpr ⟨t5 (List.mem_of_getElem? (i := 233) rfl), rfl⟩, List.mem_filter.mpr ⟨t5 (List.mem_of_getElem? (i := 234) rfl), rfl⟩, _, _, _, rfl, List.mem_filter.mpr ⟨t5 (List.mem_of_getElem? (i := 235) rfl), rfl⟩⟩
theorem vX4_94 : a_cv RX4 94 3 mX3_tell 1 := ⟨kX3_tell, List.mem_filter.mpr ⟨t5 (List.mem_of_getElem? (i := 237) rfl), rfl⟩, List.mem_filter.mpr ⟨t5 (List.mem_of_getElem? (i := 56) rfl), rfl⟩, _, _, _, rfl, List.mem_filter.mpr ⟨t5 (List.mem_of_getElem? (i := 57) rfl), rfl⟩⟩
theorem vX11_292 : a_cv RX11 292 4 mX4_jammedBits 0 := ⟨kX4_jammedBits, List.mem_filter.mpr ⟨t5 (List.mem_of_getElem? (i := 238) rfl), rfl⟩, List.mem_filter.mpr ⟨t5 (List.mem_of_getElem? (i := 239) rfl), rfl⟩, _, _, _, rfl, List.mem_filter.mpr ⟨t6 (List.mem_of_getElem? (i := 0) rfl), rfl⟩⟩
theorem vX11_295 : a_cv RX11 295 4 mX4_firstBadCell 0 := ⟨kX4_firstBadCell, List.mem_filter.mpr ⟨t6 (List.mem_of_getElem? (i := 2) rfl), rfl⟩, List.mem_filter.mpr ⟨t6 (List.mem_of_getElem? (i := 3) rfl), rfl⟩, _, _, _, rfl, List.mem_filter.mpr ⟨t6 (List.mem_of_getElem? (i := 4) rfl), rfl⟩⟩
theorem vX4_97 : a_cv RX4 97 9 mX9_badPlace 0 := ⟨kX9_badPlace, List.mem_filter.mpr ⟨t6 (List.mem_of_getElem? (i := 6) rfl), rfl⟩, List.mem_filter.mpr ⟨t4 (List.mem_of_getElem? (i := 210) rfl), rfl⟩, _, _, _, rfl, List.mem_filter.mpr ⟨t4 (List.mem_of_getElem? (i := 211) rfl), rfl⟩⟩
theorem vX11_298 : a_cv RX11 298 4 mX4_pairBits 1 := ⟨kX4_pairBits, List.mem_filter.mpr ⟨t6 (List.mem_of_getElem? (i := 7) rfl), rfl⟩, List.mem_filter.mpr ⟨t6 (List.mem_of_getElem? (i := 8) rfl), rfl⟩, _, _, _, rfl, List.mem_filter.mpr ⟨t6 (List.mem_of_getElem? (i := 9) rfl), rfl⟩⟩
theorem vX4_100 : a_cv RX4 100 4 mX4_isMarked 2 := ⟨kX4_isMarked, List.mem_filter.mpr ⟨t6 (List.mem_of_getElem? (i := 11) rfl), rfl⟩, List.mem_filter.mpr ⟨t6 (List.mem_of_getElem? (i := 13) rfl), rfl⟩, _, _, _, rfl, List.mem_filter.mpr ⟨tp (List.mem_of_getElem? (i := 33) rfl), rfl⟩⟩
theorem vX4_104 : a_cv RX4 104 4 mX4_collides 1 := ⟨kX4_collides, List.mem_filter.mpr ⟨t6 (List.mem_of_getElem? (i := 15) rfl), rfl⟩, List.mem_filter.mpr ⟨t6 (List.mem_of_getElem? (i := 17) rfl), rfl⟩, _, _, _, rfl, List.mem_filter.mpr ⟨tp (List.mem_of_getElem? (i := 34) rfl), rfl⟩⟩
theorem vX4_111 : a_cv RX4 111 9 mX9_placeOf 1 := ⟨kX9_placeOf, List.mem_filter.mpr ⟨t6 (List.mem_of_getElem? (i := 19) rfl), rfl⟩, List.mem_filter.mpr ⟨t4 (List.mem_of_getElem? (i := 39) rfl), rfl⟩, _, _, _, rfl, List.mem_filter.mpr ⟨t4 (List.mem_of_getElem? (i := 40) rfl), rfl⟩⟩
theorem vX4_108 : a_cv RX4 108 9 mX9_isWaiting 0 := ⟨kX9_isWaiting, List.mem_filter.mpr ⟨t6 (List.mem_of_getElem? (i := 20) rfl), rfl⟩, List.mem_filter.mpr ⟨t3 (List.mem_of_getElem? (i := 128) rfl), rfl⟩, _, _, _, rfl, List.mem_filter.mpr ⟨t3 (List.mem_of_getElem? (i := 129) rfl), rfl⟩⟩
theorem vX11_301 : a_cv RX11 301 6 mX6_keepImage 1 := ⟨kX6_keepImage, List.mem_filter.mpr ⟨t6 (List.mem_of_getElem? (i := 25) rfl), rfl⟩, List.mem_filter.mpr ⟨t6 (List.mem_of_getElem? (i := 26) rfl), rfl⟩, _, _, _, rfl, List.mem_filter.mpr ⟨t6 (List.mem_of_getElem? (i := 27) rfl), rfl⟩⟩
theorem vX6_64 : a_cv RX6 64 6 mX6_tellLog 2 := ⟨kX6_tellLog, List.mem_filter.mpr ⟨t6 (List.mem_of_getElem? (i := 29) rfl), rfl⟩, List.mem_filter.mpr ⟨t5 (List.mem_of_getElem? (i := 104) rfl), rfl⟩, _, _, _, rfl, List.mem_filter.mpr ⟨t5 (List.mem_of_getElem? (i := 105) rfl), rfl⟩⟩
theorem vX11_304 : a_cv RX11 304 6 mX6_takeImage 1 := ⟨kX6_takeImage, List.mem_filter.mpr ⟨t6 (List.mem_of_getElem? (i := 34) rfl), rfl⟩, List.mem_filter.mpr ⟨t6 (List.mem_of_getElem? (i := 35) rfl), rfl⟩, _, _, _, rfl, List.mem_filter.mpr ⟨t6 (List.mem_of_getElem? (i := 36) rfl), rfl⟩⟩
theorem vX11_307 : a_cv RX11 307 6 mX6_logLength 0 := ⟨kX6_logLength, List.mem_filter.mpr ⟨t6 (List.mem_of_getElem? (i := 42) rfl), rfl⟩, List.mem_filter.mpr ⟨t5 (List.mem_of_getElem? (i := 108) rfl), rfl⟩, _, _, _, rfl, List.mem_filter.mpr ⟨t5 (List.mem_of_getElem? (i := 109) rfl), rfl⟩⟩
theorem oX12_3 : Cond.methodLink RX12 3 Lib.objectInit ∈ aG := List.mem_filter.mpr ⟨t6 (List.mem_of_getElem? (i := 117) rfl), rfl⟩
theorem vX12_68 : a_cs RX12 68 mX12_byteOf 6 := ⟨kX12_byteOf, List.mem_filter.mpr ⟨t6 (List.mem_of_getElem? (i := 220) rfl), rfl⟩, List.mem_filter.mpr ⟨t6 (List.mem_of_getElem? (i := 221) rfl), rfl⟩⟩
theorem vX12_75 : a_cs RX12 75 mX12_in 3 := ⟨kX12_in, List.mem_filter.mpr ⟨t6 (List.mem_of_getElem? (i := 227) rfl), rfl⟩, List.mem_filter.mpr ⟨t6 (List.mem_of_getElem? (i := 228) rfl), rfl⟩⟩
theorem vX12_133 : a_cv RX12 133 12 mX12_readMesh 0 := ⟨kX12_readMesh, List.mem_filter.mpr ⟨t6 (List.mem_of_getElem? (i := 234) rfl), rfl⟩, List.mem_filter.mpr ⟨t6 (List.mem_of_getElem? (i := 236) rfl), rfl⟩, _, _, _, rfl, List.mem_filter.mpr ⟨tp (List.mem_of_getElem? (i := 36) rfl), rfl⟩⟩
theorem vX12_99 : a_cs RX12 99 mX12_usual 2 := ⟨kX12_usual, List.mem_filter.mpr ⟨t6 (List.mem_of_getElem? (i := 238) rfl), rfl⟩, List.mem_filter.mpr ⟨t6 (List.mem_of_getElem? (i := 239) rfl), rfl⟩⟩
theorem vX12_89 : a_cv RX12 89 12 mX12_ahead 0 := ⟨kX12_ahead, List.mem_filter.mpr ⟨t7 (List.mem_of_getElem? (i := 1) rfl), rfl⟩, List.mem_filter.mpr ⟨t7 (List.mem_of_getElem? (i := 3) rfl), rfl⟩, _, _, _, rfl, List.mem_filter.mpr ⟨tp (List.mem_of_getElem? (i := 37) rfl), rfl⟩⟩
theorem vX12_82 : a_cv RX12 82 12 mX12_here 0 := ⟨kX12_here, List.mem_filter.mpr ⟨t7 (List.mem_of_getElem? (i := 5) rfl), rfl⟩, List.mem_filter.mpr ⟨t7 (List.mem_of_getElem? (i := 7) rfl), rfl⟩, _, _, _, rfl, List.mem_filter.mpr ⟨tp (List.mem_of_getElem? (i := 38) rfl), rfl⟩⟩
theorem vX12_122 : a_cv RX12 122 12 mX12_items 4 := ⟨kX12_items, List.mem_filter.mpr ⟨t7 (List.mem_of_getElem? (i := 9) rfl), rfl⟩, List.mem_filter.mpr ⟨t7 (List.mem_of_getElem? (i := 11) rfl), rfl⟩, _, _, _, rfl, List.mem_filter.mpr ⟨tp (List.mem_of_getElem? (i := 39) rfl), rfl⟩⟩
theorem vX12_103 : a_cs RX12 103 mX12_itemOf 2 := ⟨kX12_itemOf, List.mem_filter.mpr ⟨t7 (List.mem_of_getElem? (i := 13) rfl), rfl⟩, List.mem_filter.mpr ⟨t7 (List.mem_of_getElem? (i := 14) rfl), rfl⟩⟩
theorem vX12_106 : a_cs RX12 106 mX12_has 2 := ⟨kX12_has, List.mem_filter.mpr ⟨t7 (List.mem_of_getElem? (i := 16) rfl), rfl⟩, List.mem_filter.mpr ⟨t7 (List.mem_of_getElem? (i := 17) rfl), rfl⟩⟩
theorem vX12_110 : a_cs RX12 110 mX12_lowest 2 := ⟨kX12_lowest, List.mem_filter.mpr ⟨t7 (List.mem_of_getElem? (i := 19) rfl), rfl⟩, List.mem_filter.mpr ⟨t7 (List.mem_of_getElem? (i := 20) rfl), rfl⟩⟩
theorem vX12_113 : a_cs RX12 113 mX12_highest 2 := ⟨kX12_highest, List.mem_filter.mpr ⟨t7 (List.mem_of_getElem? (i := 22) rfl), rfl⟩, List.mem_filter.mpr ⟨t7 (List.mem_of_getElem? (i := 23) rfl), rfl⟩⟩
theorem vX12_116 : a_cv RX12 116 12 mX12_number 2 := ⟨kX12_number, List.mem_filter.mpr ⟨t7 (List.mem_of_getElem? (i := 25) rfl), rfl⟩, List.mem_filter.mpr ⟨t7 (List.mem_of_getElem? (i := 27) rfl), rfl⟩, _, _, _, rfl, List.mem_filter.mpr ⟨tp (List.mem_of_getElem? (i := 40) rfl), rfl⟩⟩
theorem vX12_92 : a_cs RX12 92 mX12_isDigit 1 := ⟨kX12_isDigit, List.mem_filter.mpr ⟨t7 (List.mem_of_getElem? (i := 29) rfl), rfl⟩, List.mem_filter.mpr ⟨t7 (List.mem_of_getElem? (i := 30) rfl), rfl⟩⟩
theorem vX12_96 : a_cv RX12 96 12 mX12_bad 0 := ⟨kX12_bad, List.mem_filter.mpr ⟨t7 (List.mem_of_getElem? (i := 32) rfl), rfl⟩, List.mem_filter.mpr ⟨t7 (List.mem_of_getElem? (i := 34) rfl), rfl⟩, _, _, _, rfl, List.mem_filter.mpr ⟨tp (List.mem_of_getElem? (i := 41) rfl), rfl⟩⟩
theorem vX12_126 : a_cv RX12 126 12 mX12_isWhole 0 := ⟨kX12_isWhole, List.mem_filter.mpr ⟨t7 (List.mem_of_getElem? (i := 36) rfl), rfl⟩, List.mem_filter.mpr ⟨t7 (List.mem_of_getElem? (i := 38) rfl), rfl⟩, _, _, _, rfl, List.mem_filter.mpr ⟨tp (List.mem_of_getElem? (i := 42) rfl), rfl⟩⟩
theorem vX12_136 : a_cv RX12 136 12 mX12_readHops 0 := ⟨kX12_readHops, List.mem_filter.mpr ⟨t7 (List.mem_of_getElem? (i := 40) rfl), rfl⟩, List.mem_filter.mpr ⟨t7 (List.mem_of_getElem? (i := 42) rfl), rfl⟩, _, _, _, rfl, List.mem_filter.mpr ⟨tp (List.mem_of_getElem? (i := 43) rfl), rfl⟩⟩
theorem vX12_155 : a_cv RX12 155 12 mX12_takeMesh 0 := ⟨kX12_takeMesh, List.mem_filter.mpr ⟨t7 (List.mem_of_getElem? (i := 48) rfl), rfl⟩, List.mem_filter.mpr ⟨t7 (List.mem_of_getElem? (i := 50) rfl), rfl⟩, _, _, _, rfl, List.mem_filter.mpr ⟨tp (List.mem_of_getElem? (i := 44) rfl), rfl⟩⟩
theorem vX12_141 : a_cv RX12 141 12 mX12_set 3 := ⟨kX12_set, List.mem_filter.mpr ⟨t7 (List.mem_of_getElem? (i := 52) rfl), rfl⟩, List.mem_filter.mpr ⟨t7 (List.mem_of_getElem? (i := 54) rfl), rfl⟩, _, _, _, rfl, List.mem_filter.mpr ⟨tp (List.mem_of_getElem? (i := 45) rfl), rfl⟩⟩
theorem vX12_158 : a_cv RX12 158 12 mX12_takeHops 0 := ⟨kX12_takeHops, List.mem_filter.mpr ⟨t7 (List.mem_of_getElem? (i := 56) rfl), rfl⟩, List.mem_filter.mpr ⟨t7 (List.mem_of_getElem? (i := 58) rfl), rfl⟩, _, _, _, rfl, List.mem_filter.mpr ⟨tp (List.mem_of_getElem? (i := 46) rfl), rfl⟩⟩
theorem vX12_313 : a_cv RX12 313 12 mX12_isPair 1 := ⟨kX12_isPair, List.mem_filter.mpr ⟨t7 (List.mem_of_getElem? (i := 68) rfl), rfl⟩, List.mem_filter.mpr ⟨t7 (List.mem_of_getElem? (i := 70) rfl), rfl⟩, _, _, _, rfl, List.mem_filter.mpr ⟨tp (List.mem_of_getElem? (i := 47) rfl), rfl⟩⟩
theorem vX12_161 : a_cv RX12 161 12 mX12_of 2 := ⟨kX12_of, List.mem_filter.mpr ⟨t7 (List.mem_of_getElem? (i := 72) rfl), rfl⟩, List.mem_filter.mpr ⟨t7 (List.mem_of_getElem? (i := 74) rfl), rfl⟩, _, _, _, rfl, List.mem_filter.mpr ⟨tp (List.mem_of_getElem? (i := 48) rfl), rfl⟩⟩
theorem vX12_164 : a_cv RX12 164 12 mX12_manyOf 2 := ⟨kX12_manyOf, List.mem_filter.mpr ⟨t7 (List.mem_of_getElem? (i := 76) rfl), rfl⟩, List.mem_filter.mpr ⟨t7 (List.mem_of_getElem? (i := 78) rfl), rfl⟩, _, _, _, rfl, List.mem_filter.mpr ⟨tp (List.mem_of_getElem? (i := 49) rfl), rfl⟩⟩
theorem vX12_167 : a_cv RX12 167 12 mX12_cellOf 3 := ⟨kX12_cellOf, List.mem_filter.mpr ⟨t7 (List.mem_of_getElem? (i := 84) rfl), rfl⟩, List.mem_filter.mpr ⟨t7 (List.mem_of_getElem? (i := 86) rfl), rfl⟩, _, _, _, rfl, List.mem_filter.mpr ⟨tp (List.mem_of_getElem? (i := 50) rfl), rfl⟩⟩
theorem vX12_316 : a_cv RX12 316 12 mX12_isCell 1 := ⟨kX12_isCell, List.mem_filter.mpr ⟨t7 (List.mem_of_getElem? (i := 100) rfl), rfl⟩, List.mem_filter.mpr ⟨t7 (List.mem_of_getElem? (i := 102) rfl), rfl⟩, _, _, _, rfl, List.mem_filter.mpr ⟨tp (List.mem_of_getElem? (i := 51) rfl), rfl⟩⟩
theorem vX12_268 : a_cv RX12 268 12 mX12_channelOf 2 := ⟨kX12_channelOf, List.mem_filter.mpr ⟨t7 (List.mem_of_getElem? (i := 104) rfl), rfl⟩, List.mem_filter.mpr ⟨t7 (List.mem_of_getElem? (i := 106) rfl), rfl⟩, _, _, _, rfl, List.mem_filter.mpr ⟨tp (List.mem_of_getElem? (i := 52) rfl), rfl⟩⟩
theorem vX12_319 : a_cv RX12 319 12 mX12_areFrames 1 := ⟨kX12_areFrames, List.mem_filter.mpr ⟨t7 (List.mem_of_getElem? (i := 116) rfl), rfl⟩, List.mem_filter.mpr ⟨t7 (List.mem_of_getElem? (i := 118) rfl), rfl⟩, _, _, _, rfl, List.mem_filter.mpr ⟨tp (List.mem_of_getElem? (i := 53) rfl), rfl⟩⟩
theorem vX12_322 : a_cv RX12 322 12 mX12_isRefused 1 := ⟨kX12_isRefused, List.mem_filter.mpr ⟨t7 (List.mem_of_getElem? (i := 120) rfl), rfl⟩, List.mem_filter.mpr ⟨t7 (List.mem_of_getElem? (i := 122) rfl), rfl⟩, _, _, _, rfl, List.mem_filter.mpr ⟨tp (List.mem_of_getElem? (i := 54) rfl), rfl⟩⟩
theorem vX12_325 : a_cv RX12 325 12 mX12_keep 0 := ⟨kX12_keep, List.mem_filter.mpr ⟨t7 (List.mem_of_getElem? (i := 124) rfl), rfl⟩, List.mem_filter.mpr ⟨t7 (List.mem_of_getElem? (i := 126) rfl), rfl⟩, _, _, _, rfl, List.mem_filter.mpr ⟨tp (List.mem_of_getElem? (i := 55) rfl), rfl⟩⟩
theorem vX12_328 : a_cv RX12 328 12 mX12_passFrame 0 := ⟨kX12_passFrame, List.mem_filter.mpr ⟨t7 (List.mem_of_getElem? (i := 128) rfl), rfl⟩, List.mem_filter.mpr ⟨t7 (List.mem_of_getElem? (i := 130) rfl), rfl⟩, _, _, _, rfl, List.mem_filter.mpr ⟨tp (List.mem_of_getElem? (i := 56) rfl), rfl⟩⟩
theorem vX12_299 : a_cv RX12 299 12 mX12_live 0 := ⟨kX12_live, List.mem_filter.mpr ⟨t7 (List.mem_of_getElem? (i := 132) rfl), rfl⟩, List.mem_filter.mpr ⟨t7 (List.mem_of_getElem? (i := 134) rfl), rfl⟩, _, _, _, rfl, List.mem_filter.mpr ⟨tp (List.mem_of_getElem? (i := 57) rfl), rfl⟩⟩
theorem vX12_287 : a_cv RX12 287 12 mX12_readLetters 0 := ⟨kX12_readLetters, List.mem_filter.mpr ⟨t7 (List.mem_of_getElem? (i := 136) rfl), rfl⟩, List.mem_filter.mpr ⟨t7 (List.mem_of_getElem? (i := 138) rfl), rfl⟩, _, _, _, rfl, List.mem_filter.mpr ⟨tp (List.mem_of_getElem? (i := 58) rfl), rfl⟩⟩
theorem vX12_259 : a_cv RX12 259 12 mX12_readRequest 1 := ⟨kX12_readRequest, List.mem_filter.mpr ⟨t7 (List.mem_of_getElem? (i := 140) rfl), rfl⟩, List.mem_filter.mpr ⟨t7 (List.mem_of_getElem? (i := 142) rfl), rfl⟩, _, _, _, rfl, List.mem_filter.mpr ⟨tp (List.mem_of_getElem? (i := 59) rfl), rfl⟩⟩
theorem vX12_234 : a_cv RX12 234 12 mX12_layTold 1 := ⟨kX12_layTold, List.mem_filter.mpr ⟨t7 (List.mem_of_getElem? (i := 144) rfl), rfl⟩, List.mem_filter.mpr ⟨t7 (List.mem_of_getElem? (i := 146) rfl), rfl⟩, _, _, _, rfl, List.mem_filter.mpr ⟨tp (List.mem_of_getElem? (i := 60) rfl), rfl⟩⟩
theorem vX12_238 : a_cv RX12 238 12 mX12_waitNoMore 2 := ⟨kX12_waitNoMore, List.mem_filter.mpr ⟨t7 (List.mem_of_getElem? (i := 148) rfl), rfl⟩, List.mem_filter.mpr ⟨t7 (List.mem_of_getElem? (i := 150) rfl), rfl⟩, _, _, _, rfl, List.mem_filter.mpr ⟨tp (List.mem_of_getElem? (i := 61) rfl), rfl⟩⟩
theorem vX12_205 : a_cv RX12 205 12 mX12_write 5 := ⟨kX12_write, List.mem_filter.mpr ⟨t7 (List.mem_of_getElem? (i := 152) rfl), rfl⟩, List.mem_filter.mpr ⟨t7 (List.mem_of_getElem? (i := 154) rfl), rfl⟩, _, _, _, rfl, List.mem_filter.mpr ⟨tp (List.mem_of_getElem? (i := 62) rfl), rfl⟩⟩
theorem vX12_241 : a_cv RX12 241 12 mX12_emptyTable 2 := ⟨kX12_emptyTable, List.mem_filter.mpr ⟨t7 (List.mem_of_getElem? (i := 156) rfl), rfl⟩, List.mem_filter.mpr ⟨t7 (List.mem_of_getElem? (i := 158) rfl), rfl⟩, _, _, _, rfl, List.mem_filter.mpr ⟨tp (List.mem_of_getElem? (i := 63) rfl), rfl⟩⟩
theorem vX12_191 : a_cv RX12 191 12 mX12_isTwoStep 1 := ⟨kX12_isTwoStep, List.mem_filter.mpr ⟨t7 (List.mem_of_getElem? (i := 160) rfl), rfl⟩, List.mem_filter.mpr ⟨t7 (List.mem_of_getElem? (i := 162) rfl), rfl⟩, _, _, _, rfl, List.mem_filter.mpr ⟨tp (List.mem_of_getElem? (i := 64) rfl), rfl⟩⟩
theorem vX12_178 : a_cv RX12 178 12 mX12_nodeOf 2 := ⟨kX12_nodeOf, List.mem_filter.mpr ⟨t7 (List.mem_of_getElem? (i := 164) rfl), rfl⟩, List.mem_filter.mpr ⟨t7 (List.mem_of_getElem? (i := 166) rfl), rfl⟩, _, _, _, rfl, List.mem_filter.mpr ⟨tp (List.mem_of_getElem? (i := 65) rfl), rfl⟩⟩
theorem vX12_199 : a_cv RX12 199 12 mX12_layOffers 3 := ⟨kX12_layOffers, List.mem_filter.mpr ⟨t7 (List.mem_of_getElem? (i := 168) rfl), rfl⟩, List.mem_filter.mpr ⟨t7 (List.mem_of_getElem? (i := 170) rfl), rfl⟩, _, _, _, rfl, List.mem_filter.mpr ⟨tp (List.mem_of_getElem? (i := 66) rfl), rfl⟩⟩
theorem vX12_181 : a_cv RX12 181 12 mX12_isTaken 2 := ⟨kX12_isTaken, List.mem_filter.mpr ⟨t7 (List.mem_of_getElem? (i := 172) rfl), rfl⟩, List.mem_filter.mpr ⟨t7 (List.mem_of_getElem? (i := 174) rfl), rfl⟩, _, _, _, rfl, List.mem_filter.mpr ⟨tp (List.mem_of_getElem? (i := 67) rfl), rfl⟩⟩
theorem nX12_194 : Cond.methodLink RX12 194 Lib.Math.min.name ∈ aG := List.mem_filter.mpr ⟨t7 (List.mem_of_getElem? (i := 176) rfl), rfl⟩
theorem vX12_209 : a_cv RX12 209 12 mX12_writeOffers 2 := ⟨kX12_writeOffers, List.mem_filter.mpr ⟨t7 (List.mem_of_getElem? (i := 177) rfl), rfl⟩, List.mem_filter.mpr ⟨t7 (List.mem_of_getElem? (i := 179) rfl), rfl⟩, _, _, _, rfl, List.mem_filter.mpr ⟨tp (List.mem_of_getElem? (i := 68) rfl), rfl⟩⟩
theorem vX12_184 : a_cv RX12 184 12 mX12_writeCell 2 := ⟨kX12_writeCell, List.mem_filter.mpr ⟨t7 (List.mem_of_getElem? (i := 181) rfl), rfl⟩, List.mem_filter.mpr ⟨t7 (List.mem_of_getElem? (i := 183) rfl), rfl⟩, _, _, _, rfl, List.mem_filter.mpr ⟨tp (List.mem_of_getElem? (i := 69) rfl), rfl⟩⟩
theorem vX12_212 : a_cv RX12 212 12 mX12_promise 3 := ⟨kX12_promise, List.mem_filter.mpr ⟨t7 (List.mem_of_getElem? (i := 185) rfl), rfl⟩, List.mem_filter.mpr ⟨t7 (List.mem_of_getElem? (i := 187) rfl), rfl⟩, _, _, _, rfl, List.mem_filter.mpr ⟨tp (List.mem_of_getElem? (i := 70) rfl), rfl⟩⟩
theorem vX12_215 : a_cv RX12 215 12 mX12_waitFor 2 := ⟨kX12_waitFor, List.mem_filter.mpr ⟨t7 (List.mem_of_getElem? (i := 189) rfl), rfl⟩, List.mem_filter.mpr ⟨t7 (List.mem_of_getElem? (i := 191) rfl), rfl⟩, _, _, _, rfl, List.mem_filter.mpr ⟨tp (List.mem_of_getElem? (i := 71) rfl), rfl⟩⟩
theorem vX12_244 : a_cv RX12 244 12 mX12_takeIn 3 := ⟨kX12_takeIn, List.mem_filter.mpr ⟨t7 (List.mem_of_getElem? (i := 193) rfl), rfl⟩, List.mem_filter.mpr ⟨t7 (List.mem_of_getElem? (i := 195) rfl), rfl⟩, _, _, _, rfl, List.mem_filter.mpr ⟨tp (List.mem_of_getElem? (i := 72) rfl), rfl⟩⟩
theorem vX12_228 : a_cv RX12 228 12 mX12_insert 3 := ⟨kX12_insert, List.mem_filter.mpr ⟨t7 (List.mem_of_getElem? (i := 197) rfl), rfl⟩, List.mem_filter.mpr ⟨t7 (List.mem_of_getElem? (i := 199) rfl), rfl⟩, _, _, _, rfl, List.mem_filter.mpr ⟨tp (List.mem_of_getElem? (i := 73) rfl), rfl⟩⟩
theorem vX12_171 : a_cv RX12 171 12 mX12_placeIn 3 := ⟨kX12_placeIn, List.mem_filter.mpr ⟨t7 (List.mem_of_getElem? (i := 201) rfl), rfl⟩, List.mem_filter.mpr ⟨t7 (List.mem_of_getElem? (i := 203) rfl), rfl⟩, _, _, _, rfl, List.mem_filter.mpr ⟨tp (List.mem_of_getElem? (i := 74) rfl), rfl⟩⟩
theorem vX12_174 : a_cv RX12 174 12 mX12_shift 4 := ⟨kX12_shift, List.mem_filter.mpr ⟨t7 (List.mem_of_getElem? (i := 205) rfl), rfl⟩, List.mem_filter.mpr ⟨t7 (List.mem_of_getElem? (i := 207) rfl), rfl⟩, _, _, _, rfl, List.mem_filter.mpr ⟨tp (List.mem_of_getElem? (i := 75) rfl), rfl⟩⟩
theorem vX12_247 : a_cv RX12 247 12 mX12_readMove 1 := ⟨kX12_readMove, List.mem_filter.mpr ⟨t7 (List.mem_of_getElem? (i := 209) rfl), rfl⟩, List.mem_filter.mpr ⟨t7 (List.mem_of_getElem? (i := 211) rfl), rfl⟩, _, _, _, rfl, List.mem_filter.mpr ⟨tp (List.mem_of_getElem? (i := 76) rfl), rfl⟩⟩
theorem vX12_231 : a_cv RX12 231 12 mX12_remove 3 := ⟨kX12_remove, List.mem_filter.mpr ⟨t7 (List.mem_of_getElem? (i := 213) rfl), rfl⟩, List.mem_filter.mpr ⟨t7 (List.mem_of_getElem? (i := 215) rfl), rfl⟩, _, _, _, rfl, List.mem_filter.mpr ⟨tp (List.mem_of_getElem? (i := 77) rfl), rfl⟩⟩
theorem vX12_250 : a_cv RX12 250 12 mX12_answerTaken 1 := ⟨kX12_answerTaken, List.mem_filter.mpr ⟨t7 (List.mem_of_getElem? (i := 217) rfl), rfl⟩, List.mem_filter.mpr ⟨t7 (List.mem_of_getElem? (i := 219) rfl), rfl⟩, _, _, _, rfl, List.mem_filter.mpr ⟨tp (List.mem_of_getElem? (i := 78) rfl), rfl⟩⟩
theorem vX12_225 : a_cv RX12 225 12 mX12_stepOn 2 := ⟨kX12_stepOn, List.mem_filter.mpr ⟨t7 (List.mem_of_getElem? (i := 221) rfl), rfl⟩, List.mem_filter.mpr ⟨t7 (List.mem_of_getElem? (i := 223) rfl), rfl⟩, _, _, _, rfl, List.mem_filter.mpr ⟨tp (List.mem_of_getElem? (i := 79) rfl), rfl⟩⟩
theorem vX12_221 : a_cs RX12 221 mX12_nextOf 1 := ⟨kX12_nextOf, List.mem_filter.mpr ⟨t7 (List.mem_of_getElem? (i := 225) rfl), rfl⟩, List.mem_filter.mpr ⟨t7 (List.mem_of_getElem? (i := 226) rfl), rfl⟩⟩
theorem vX12_262 : a_cv RX12 262 12 mX12_readAnswer 1 := ⟨kX12_readAnswer, List.mem_filter.mpr ⟨t7 (List.mem_of_getElem? (i := 228) rfl), rfl⟩, List.mem_filter.mpr ⟨t7 (List.mem_of_getElem? (i := 230) rfl), rfl⟩, _, _, _, rfl, List.mem_filter.mpr ⟨tp (List.mem_of_getElem? (i := 80) rfl), rfl⟩⟩
theorem vX12_253 : a_cv RX12 253 12 mX12_begin 3 := ⟨kX12_begin, List.mem_filter.mpr ⟨t7 (List.mem_of_getElem? (i := 232) rfl), rfl⟩, List.mem_filter.mpr ⟨t7 (List.mem_of_getElem? (i := 234) rfl), rfl⟩, _, _, _, rfl, List.mem_filter.mpr ⟨tp (List.mem_of_getElem? (i := 81) rfl), rfl⟩⟩
theorem vX12_202 : a_cv RX12 202 12 mX12_manyFor 3 := ⟨kX12_manyFor, List.mem_filter.mpr ⟨t7 (List.mem_of_getElem? (i := 236) rfl), rfl⟩, List.mem_filter.mpr ⟨t7 (List.mem_of_getElem? (i := 238) rfl), rfl⟩, _, _, _, rfl, List.mem_filter.mpr ⟨tp (List.mem_of_getElem? (i := 82) rfl), rfl⟩⟩
theorem vX12_188 : a_cv RX12 188 12 mX12_canDeal 1 := ⟨kX12_canDeal, List.mem_filter.mpr ⟨t8 (List.mem_of_getElem? (i := 0) rfl), rfl⟩, List.mem_filter.mpr ⟨t8 (List.mem_of_getElem? (i := 2) rfl), rfl⟩, _, _, _, rfl, List.mem_filter.mpr ⟨tp (List.mem_of_getElem? (i := 83) rfl), rfl⟩⟩
theorem vX12_256 : a_cv RX12 256 12 mX12_readOk 3 := ⟨kX12_readOk, List.mem_filter.mpr ⟨t8 (List.mem_of_getElem? (i := 4) rfl), rfl⟩, List.mem_filter.mpr ⟨t8 (List.mem_of_getElem? (i := 6) rfl), rfl⟩, _, _, _, rfl, List.mem_filter.mpr ⟨tp (List.mem_of_getElem? (i := 84) rfl), rfl⟩⟩
theorem vX12_265 : a_cv RX12 265 12 mX12_readConfirm 1 := ⟨kX12_readConfirm, List.mem_filter.mpr ⟨t8 (List.mem_of_getElem? (i := 8) rfl), rfl⟩, List.mem_filter.mpr ⟨t8 (List.mem_of_getElem? (i := 10) rfl), rfl⟩, _, _, _, rfl, List.mem_filter.mpr ⟨tp (List.mem_of_getElem? (i := 85) rfl), rfl⟩⟩
theorem vX12_290 : a_cv RX12 290 12 mX12_timeOut 0 := ⟨kX12_timeOut, List.mem_filter.mpr ⟨t8 (List.mem_of_getElem? (i := 12) rfl), rfl⟩, List.mem_filter.mpr ⟨t8 (List.mem_of_getElem? (i := 14) rfl), rfl⟩, _, _, _, rfl, List.mem_filter.mpr ⟨tp (List.mem_of_getElem? (i := 86) rfl), rfl⟩⟩
theorem vX12_293 : a_cv RX12 293 12 mX12_sendAll 0 := ⟨kX12_sendAll, List.mem_filter.mpr ⟨t8 (List.mem_of_getElem? (i := 16) rfl), rfl⟩, List.mem_filter.mpr ⟨t8 (List.mem_of_getElem? (i := 18) rfl), rfl⟩, _, _, _, rfl, List.mem_filter.mpr ⟨tp (List.mem_of_getElem? (i := 87) rfl), rfl⟩⟩
theorem vX12_277 : a_cv RX12 277 12 mX12_isGot 2 := ⟨kX12_isGot, List.mem_filter.mpr ⟨t8 (List.mem_of_getElem? (i := 20) rfl), rfl⟩, List.mem_filter.mpr ⟨t8 (List.mem_of_getElem? (i := 22) rfl), rfl⟩, _, _, _, rfl, List.mem_filter.mpr ⟨tp (List.mem_of_getElem? (i := 88) rfl), rfl⟩⟩
theorem vX12_271 : a_cv RX12 271 12 mX12_doesSend 2 := ⟨kX12_doesSend, List.mem_filter.mpr ⟨t8 (List.mem_of_getElem? (i := 24) rfl), rfl⟩, List.mem_filter.mpr ⟨t8 (List.mem_of_getElem? (i := 26) rfl), rfl⟩, _, _, _, rfl, List.mem_filter.mpr ⟨tp (List.mem_of_getElem? (i := 89) rfl), rfl⟩⟩
theorem vX12_296 : a_cv RX12 296 12 mX12_windowOf 1 := ⟨kX12_windowOf, List.mem_filter.mpr ⟨t8 (List.mem_of_getElem? (i := 28) rfl), rfl⟩, List.mem_filter.mpr ⟨t8 (List.mem_of_getElem? (i := 30) rfl), rfl⟩, _, _, _, rfl, List.mem_filter.mpr ⟨tp (List.mem_of_getElem? (i := 90) rfl), rfl⟩⟩
theorem vX12_284 : a_cv RX12 284 12 mX12_badPlace 1 := ⟨kX12_badPlace, List.mem_filter.mpr ⟨t8 (List.mem_of_getElem? (i := 32) rfl), rfl⟩, List.mem_filter.mpr ⟨t8 (List.mem_of_getElem? (i := 34) rfl), rfl⟩, _, _, _, rfl, List.mem_filter.mpr ⟨tp (List.mem_of_getElem? (i := 91) rfl), rfl⟩⟩
theorem vX12_280 : a_cv RX12 280 12 mX12_isLess 4 := ⟨kX12_isLess, List.mem_filter.mpr ⟨t8 (List.mem_of_getElem? (i := 36) rfl), rfl⟩, List.mem_filter.mpr ⟨t8 (List.mem_of_getElem? (i := 38) rfl), rfl⟩, _, _, _, rfl, List.mem_filter.mpr ⟨tp (List.mem_of_getElem? (i := 92) rfl), rfl⟩⟩
theorem vX12_302 : a_cv RX12 302 12 mX12_letterPairs 0 := ⟨kX12_letterPairs, List.mem_filter.mpr ⟨t8 (List.mem_of_getElem? (i := 40) rfl), rfl⟩, List.mem_filter.mpr ⟨t8 (List.mem_of_getElem? (i := 42) rfl), rfl⟩, _, _, _, rfl, List.mem_filter.mpr ⟨tp (List.mem_of_getElem? (i := 93) rfl), rfl⟩⟩
theorem vX12_305 : a_cs RX12 305 mJ6_bitCount_0f7a4 1 := ⟨kJ6_bitCount_0f7a4, List.mem_filter.mpr ⟨t8 (List.mem_of_getElem? (i := 44) rfl), rfl⟩, List.mem_filter.mpr ⟨t8 (List.mem_of_getElem? (i := 45) rfl), rfl⟩⟩
theorem zJ6_265 : Cond.constant RJ6 265 (1431655765) ∈ aG := List.mem_filter.mpr ⟨t8 (List.mem_of_getElem? (i := 47) rfl), rfl⟩
theorem zJ6_266 : Cond.constant RJ6 266 (858993459) ∈ aG := List.mem_filter.mpr ⟨t8 (List.mem_of_getElem? (i := 48) rfl), rfl⟩
theorem zJ6_267 : Cond.constant RJ6 267 (252645135) ∈ aG := List.mem_filter.mpr ⟨t8 (List.mem_of_getElem? (i := 49) rfl), rfl⟩
theorem vX12_310 : a_cv RX12 310 12 mX12_sharedCells 0 := ⟨kX12_sharedCells, List.mem_filter.mpr ⟨t8 (List.mem_of_getElem? (i := 50) rfl), rfl⟩, List.mem_filter.mpr ⟨t8 (List.mem_of_getElem? (i := 52) rfl), rfl⟩, _, _, _, rfl, List.mem_filter.mpr ⟨tp (List.mem_of_getElem? (i := 94) rfl), rfl⟩⟩
theorem vX12_331 : a_cs RX12 331 mX12_isAsked 2 := ⟨kX12_isAsked, List.mem_filter.mpr ⟨t8 (List.mem_of_getElem? (i := 58) rfl), rfl⟩, List.mem_filter.mpr ⟨t8 (List.mem_of_getElem? (i := 59) rfl), rfl⟩⟩
theorem vX12_345 : a_cv RX12 345 12 mX12_drawFrame 0 := ⟨kX12_drawFrame, List.mem_filter.mpr ⟨t8 (List.mem_of_getElem? (i := 81) rfl), rfl⟩, List.mem_filter.mpr ⟨t8 (List.mem_of_getElem? (i := 83) rfl), rfl⟩, _, _, _, rfl, List.mem_filter.mpr ⟨tp (List.mem_of_getElem? (i := 95) rfl), rfl⟩⟩
theorem vX12_342 : a_cv RX12 342 12 mX12_draw 1 := ⟨kX12_draw, List.mem_filter.mpr ⟨t8 (List.mem_of_getElem? (i := 85) rfl), rfl⟩, List.mem_filter.mpr ⟨t8 (List.mem_of_getElem? (i := 87) rfl), rfl⟩, _, _, _, rfl, List.mem_filter.mpr ⟨tp (List.mem_of_getElem? (i := 96) rfl), rfl⟩⟩
theorem zX12_338 : Cond.constantLong RX12 338 (6364136223846793005) ∈ aG := List.mem_filter.mpr ⟨t8 (List.mem_of_getElem? (i := 89) rfl), rfl⟩
theorem zX12_340 : Cond.constantLong RX12 340 (1442695040888963407) ∈ aG := List.mem_filter.mpr ⟨t8 (List.mem_of_getElem? (i := 90) rfl), rfl⟩
theorem vX12_348 : a_cv RX12 348 12 mX12_putAside 1 := ⟨kX12_putAside, List.mem_filter.mpr ⟨t8 (List.mem_of_getElem? (i := 111) rfl), rfl⟩, List.mem_filter.mpr ⟨t8 (List.mem_of_getElem? (i := 113) rfl), rfl⟩, _, _, _, rfl, List.mem_filter.mpr ⟨tp (List.mem_of_getElem? (i := 97) rfl), rfl⟩⟩
theorem vX12_351 : a_cv RX12 351 12 mX12_takeBack 1 := ⟨kX12_takeBack, List.mem_filter.mpr ⟨t8 (List.mem_of_getElem? (i := 115) rfl), rfl⟩, List.mem_filter.mpr ⟨t8 (List.mem_of_getElem? (i := 117) rfl), rfl⟩, _, _, _, rfl, List.mem_filter.mpr ⟨tp (List.mem_of_getElem? (i := 98) rfl), rfl⟩⟩
theorem vX12_354 : a_cv RX12 354 12 mX12_doesAgree 1 := ⟨kX12_doesAgree, List.mem_filter.mpr ⟨t8 (List.mem_of_getElem? (i := 123) rfl), rfl⟩, List.mem_filter.mpr ⟨t8 (List.mem_of_getElem? (i := 125) rfl), rfl⟩, _, _, _, rfl, List.mem_filter.mpr ⟨tp (List.mem_of_getElem? (i := 99) rfl), rfl⟩⟩
theorem vX12_357 : a_cv RX12 357 12 mX12_atOdds 0 := ⟨kX12_atOdds, List.mem_filter.mpr ⟨t8 (List.mem_of_getElem? (i := 131) rfl), rfl⟩, List.mem_filter.mpr ⟨t8 (List.mem_of_getElem? (i := 133) rfl), rfl⟩, _, _, _, rfl, List.mem_filter.mpr ⟨tp (List.mem_of_getElem? (i := 100) rfl), rfl⟩⟩
theorem vX12_360 : a_cv RX12 360 12 mX12_cellRow 0 := ⟨kX12_cellRow, List.mem_filter.mpr ⟨t8 (List.mem_of_getElem? (i := 139) rfl), rfl⟩, List.mem_filter.mpr ⟨t8 (List.mem_of_getElem? (i := 141) rfl), rfl⟩, _, _, _, rfl, List.mem_filter.mpr ⟨tp (List.mem_of_getElem? (i := 101) rfl), rfl⟩⟩
theorem vX12_363 : a_cv RX12 363 12 mX12_harmOf 2 := ⟨kX12_harmOf, List.mem_filter.mpr ⟨t8 (List.mem_of_getElem? (i := 147) rfl), rfl⟩, List.mem_filter.mpr ⟨t8 (List.mem_of_getElem? (i := 149) rfl), rfl⟩, _, _, _, rfl, List.mem_filter.mpr ⟨tp (List.mem_of_getElem? (i := 102) rfl), rfl⟩⟩
theorem zX12_372 : Cond.constant RX12 372 (1000000000) ∈ aG := List.mem_filter.mpr ⟨t8 (List.mem_of_getElem? (i := 155) rfl), rfl⟩
theorem vX12_368 : a_cv RX12 368 12 mX12_oddsFrom 4 := ⟨kX12_oddsFrom, List.mem_filter.mpr ⟨t8 (List.mem_of_getElem? (i := 156) rfl), rfl⟩, List.mem_filter.mpr ⟨t8 (List.mem_of_getElem? (i := 158) rfl), rfl⟩, _, _, _, rfl, List.mem_filter.mpr ⟨tp (List.mem_of_getElem? (i := 103) rfl), rfl⟩⟩
theorem zX12_366 : Cond.constantLong RX12 366 (100) ∈ aG := List.mem_filter.mpr ⟨t8 (List.mem_of_getElem? (i := 160) rfl), rfl⟩
theorem vX12_373 : a_cv RX12 373 12 mX12_gotOf 1 := ⟨kX12_gotOf, List.mem_filter.mpr ⟨t8 (List.mem_of_getElem? (i := 165) rfl), rfl⟩, List.mem_filter.mpr ⟨t8 (List.mem_of_getElem? (i := 167) rfl), rfl⟩, _, _, _, rfl, List.mem_filter.mpr ⟨tp (List.mem_of_getElem? (i := 104) rfl), rfl⟩⟩
theorem vX12_376 : a_cv RX12 376 12 mX12_cellsAt 2 := ⟨kX12_cellsAt, List.mem_filter.mpr ⟨t8 (List.mem_of_getElem? (i := 173) rfl), rfl⟩, List.mem_filter.mpr ⟨t8 (List.mem_of_getElem? (i := 175) rfl), rfl⟩, _, _, _, rfl, List.mem_filter.mpr ⟨tp (List.mem_of_getElem? (i := 105) rfl), rfl⟩⟩
theorem zX12_382 : Cond.constant RX12 382 (-1000000) ∈ aG := List.mem_filter.mpr ⟨t8 (List.mem_of_getElem? (i := 181) rfl), rfl⟩
theorem vX12_383 : a_cv RX12 383 12 mX12_topBy 1 := ⟨kX12_topBy, List.mem_filter.mpr ⟨t8 (List.mem_of_getElem? (i := 182) rfl), rfl⟩, List.mem_filter.mpr ⟨t8 (List.mem_of_getElem? (i := 184) rfl), rfl⟩, _, _, _, rfl, List.mem_filter.mpr ⟨tp (List.mem_of_getElem? (i := 106) rfl), rfl⟩⟩
theorem vX12_386 : a_cv RX12 386 12 mX12_firstBad 0 := ⟨kX12_firstBad, List.mem_filter.mpr ⟨t8 (List.mem_of_getElem? (i := 186) rfl), rfl⟩, List.mem_filter.mpr ⟨t8 (List.mem_of_getElem? (i := 188) rfl), rfl⟩, _, _, _, rfl, List.mem_filter.mpr ⟨tp (List.mem_of_getElem? (i := 107) rfl), rfl⟩⟩
theorem vX12_389 : a_cv RX12 389 12 mX12_onesWho 1 := ⟨kX12_onesWho, List.mem_filter.mpr ⟨t8 (List.mem_of_getElem? (i := 190) rfl), rfl⟩, List.mem_filter.mpr ⟨t8 (List.mem_of_getElem? (i := 192) rfl), rfl⟩, _, _, _, rfl, List.mem_filter.mpr ⟨tp (List.mem_of_getElem? (i := 108) rfl), rfl⟩⟩
theorem vX12_379 : a_cv RX12 379 12 mX12_doesCollide 1 := ⟨kX12_doesCollide, List.mem_filter.mpr ⟨t8 (List.mem_of_getElem? (i := 194) rfl), rfl⟩, List.mem_filter.mpr ⟨t8 (List.mem_of_getElem? (i := 196) rfl), rfl⟩, _, _, _, rfl, List.mem_filter.mpr ⟨tp (List.mem_of_getElem? (i := 109) rfl), rfl⟩⟩
theorem q_min : Cond.static Lib.Math.min.name ∈ aG ∧ Cond.initialized "java/lang/Math" ∈ aG ∧ Cond.code Lib.Math.min.name Lib.Math.min.code 2 (some .int) ∈ aG := ⟨List.mem_filter.mpr ⟨t2 (List.mem_of_getElem? (i := 203) rfl), rfl⟩, List.mem_filter.mpr ⟨t1 (List.mem_of_getElem? (i := 17) rfl), rfl⟩, List.mem_filter.mpr ⟨t2 (List.mem_of_getElem? (i := 204) rfl), rfl⟩⟩
theorem q_max : Cond.static Lib.Math.max.name ∈ aG ∧ Cond.initialized "java/lang/Math" ∈ aG ∧ Cond.code Lib.Math.max.name Lib.Math.max.code 2 (some .int) ∈ aG := ⟨List.mem_filter.mpr ⟨t2 (List.mem_of_getElem? (i := 200) rfl), rfl⟩, List.mem_filter.mpr ⟨t1 (List.mem_of_getElem? (i := 17) rfl), rfl⟩, List.mem_filter.mpr ⟨t2 (List.mem_of_getElem? (i := 201) rfl), rfl⟩⟩
theorem q_obj : Cond.instanceMethod Lib.objectInit ∈ aG ∧ Cond.code Lib.objectInit ⟨#[0xb1]⟩ 1 none ∈ aG := ⟨List.mem_filter.mpr ⟨t1 (List.mem_of_getElem? (i := 33) rfl), rfl⟩, List.mem_filter.mpr ⟨t1 (List.mem_of_getElem? (i := 34) rfl), rfl⟩⟩
theorem q_cpy : Cond.native arraycopyName ∈ aG ∧ Cond.static arraycopyName ∈ aG ∧ Cond.initialized "java/lang/System" ∈ aG := ⟨List.mem_filter.mpr ⟨t2 (List.mem_of_getElem? (i := 148) rfl), rfl⟩, List.mem_filter.mpr ⟨t2 (List.mem_of_getElem? (i := 147) rfl), rfl⟩, List.mem_filter.mpr ⟨t1 (List.mem_of_getElem? (i := 14) rfl), rfl⟩⟩
theorem q_int : Cond.arrayClass .int ∈ aG := List.mem_filter.mpr ⟨t1 (List.mem_of_getElem? (i := 48) rfl), rfl⟩
