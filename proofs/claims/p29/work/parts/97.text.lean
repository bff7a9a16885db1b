/-- the signs of the text, as the start has them -/
def z_bc (j : Nat) : Cond := Cond.eq (.elem (.field (.string "TreePasses" 76) "java/lang/String" "value" "[B") (.int (Int32.ofNat j))) (.int ((q_let.map nI).getD j 0))
theorem z_take {L M : List Cond} {a n : Nat} (h : (L.drop a).take n = M) {x : Cond} (hx : x ∈ M) : x ∈ L := by
  subst h
  exact List.mem_of_mem_drop (List.mem_of_mem_take hx)
theorem z_m3_0 : ((flatC (Jvm.Cond.and given_1 narrow_1)).drop 30).take 23 = (List.range 23).map (fun j => z_bc (0 + j)) := by decide +kernel
theorem z_m3_1 : ((flatC (Jvm.Cond.and given_1 narrow_1)).drop 53).take 23 = (List.range 23).map (fun j => z_bc (23 + j)) := by decide +kernel
theorem z_m3_2 : ((flatC (Jvm.Cond.and given_1 narrow_1)).drop 76).take 23 = (List.range 23).map (fun j => z_bc (46 + j)) := by decide +kernel
theorem z_m3_3 : ((flatC (Jvm.Cond.and given_1 narrow_1)).drop 99).take 23 = (List.range 23).map (fun j => z_bc (69 + j)) := by decide +kernel
theorem z_m3_4 : ((flatC (Jvm.Cond.and given_1 narrow_1)).drop 122).take 23 = (List.range 23).map (fun j => z_bc (92 + j)) := by decide +kernel
theorem z_m3_5 : ((flatC (Jvm.Cond.and given_1 narrow_1)).drop 145).take 23 = (List.range 23).map (fun j => z_bc (115 + j)) := by decide +kernel
theorem z_m3_6 : ((flatC (Jvm.Cond.and given_1 narrow_1)).drop 168).take 23 = (List.range 23).map (fun j => z_bc (138 + j)) := by decide +kernel
theorem z_m3_7 : ((flatC (Jvm.Cond.and given_1 narrow_1)).drop 191).take 23 = (List.range 23).map (fun j => z_bc (161 + j)) := by decide +kernel
theorem z_m3 : ∀ j, j < 184 → z_bc j ∈ flatC (Jvm.Cond.and given_1 narrow_1) := by
  intro j hj
  by_cases c0 : j < 23
  · refine z_take z_m3_0 (List.mem_map.mpr ⟨j - 0, List.mem_range.mpr (by omega), ?_⟩)
    show z_bc (0 + (j - 0)) = z_bc j
    rw [show 0 + (j - 0) = j by omega]
  by_cases c1 : j < 46
  · refine z_take z_m3_1 (List.mem_map.mpr ⟨j - 23, List.mem_range.mpr (by omega), ?_⟩)
    show z_bc (23 + (j - 23)) = z_bc j
    rw [show 23 + (j - 23) = j by omega]
  by_cases c2 : j < 69
  · refine z_take z_m3_2 (List.mem_map.mpr ⟨j - 46, List.mem_range.mpr (by omega), ?_⟩)
    show z_bc (46 + (j - 46)) = z_bc j
    rw [show 46 + (j - 46) = j by omega]
  by_cases c3 : j < 92
  · refine z_take z_m3_3 (List.mem_map.mpr ⟨j - 69, List.mem_range.mpr (by omega), ?_⟩)
    show z_bc (69 + (j - 69)) = z_bc j
    rw [show 69 + (j - 69) = j by omega]
  by_cases c4 : j < 115
  · refine z_take z_m3_4 (List.mem_map.mpr ⟨j - 92, List.mem_range.mpr (by omega), ?_⟩)
    show z_bc (92 + (j - 92)) = z_bc j
    rw [show 92 + (j - 92) = j by omega]
  by_cases c5 : j < 138
  · refine z_take z_m3_5 (List.mem_map.mpr ⟨j - 115, List.mem_range.mpr (by omega), ?_⟩)
    show z_bc (115 + (j - 115)) = z_bc j
    rw [show 115 + (j - 115) = j by omega]
  by_cases c6 : j < 161
  · refine z_take z_m3_6 (List.mem_map.mpr ⟨j - 138, List.mem_range.mpr (by omega), ?_⟩)
    show z_bc (138 + (j - 138)) = z_bc j
    rw [show 138 + (j - 138) = j by omega]
  by_cases c7 : j < 184
  · refine z_take z_m3_7 (List.mem_map.mpr ⟨j - 161, List.mem_range.mpr (by omega), ?_⟩)
    show z_bc (161 + (j - 161)) = z_bc j
    rw [show 161 + (j - 161) = j by omega]
  exact absurd hj (by omega)
