set_option maxRecDepth 20000 in
theorem lwf_X0 : ∀ w ∈ wsX00, w ∈ lw_tbl := by
  intro w hw
  obtain ⟨i, hi, rfl⟩ := List.mem_map.mp hw
  have hi := List.mem_range.mp hi
  have h : i = 0 ∨ i = 1 ∨ i = 2 ∨ i = 3 ∨ i = 4 ∨ i = 5 ∨ i = 6 ∨ i = 7 := by omega
  rcases h with rfl | rfl | rfl | rfl | rfl | rfl | rfl | rfl
  · exact List.mem_of_getElem? (i := 93) (by decide +kernel)
  · exact List.mem_of_getElem? (i := 95) (by decide +kernel)
  · exact List.mem_of_getElem? (i := 97) (by decide +kernel)
  · exact List.mem_of_getElem? (i := 99) (by decide +kernel)
  · exact List.mem_of_getElem? (i := 101) (by decide +kernel)
  · exact List.mem_of_getElem? (i := 103) (by decide +kernel)
  · exact List.mem_of_getElem? (i := 105) (by decide +kernel)
  · exact List.mem_of_getElem? (i := 107) (by decide +kernel)
set_option maxRecDepth 20000 in
theorem lwf_X1 : ∀ w ∈ wsX10, w ∈ lw_tbl := by
  intro w hw
  obtain ⟨i, hi, rfl⟩ := List.mem_map.mp hw
  have hi := List.mem_range.mp hi
  have h : i = 0 ∨ i = 1 ∨ i = 2 := by omega
  rcases h with rfl | rfl | rfl
  · exact List.mem_of_getElem? (i := 188) (by decide +kernel)
  · exact List.mem_of_getElem? (i := 190) (by decide +kernel)
  · exact List.mem_of_getElem? (i := 192) (by decide +kernel)
set_option maxRecDepth 20000 in
theorem lwf_X2 : ∀ w ∈ wsX20, w ∈ lw_tbl := by
  intro w hw
  obtain ⟨i, hi, rfl⟩ := List.mem_map.mp hw
  have hi := List.mem_range.mp hi
  have h : i = 0 ∨ i = 1 ∨ i = 2 ∨ i = 3 ∨ i = 4 ∨ i = 5 ∨ i = 6 ∨ i = 7 := by omega
  rcases h with rfl | rfl | rfl | rfl | rfl | rfl | rfl | rfl
  · exact List.mem_of_getElem? (i := 218) (by decide +kernel)
  · exact List.mem_of_getElem? (i := 220) (by decide +kernel)
  · exact List.mem_of_getElem? (i := 222) (by decide +kernel)
  · exact List.mem_of_getElem? (i := 224) (by decide +kernel)
  · exact List.mem_of_getElem? (i := 226) (by decide +kernel)
  · exact List.mem_of_getElem? (i := 228) (by decide +kernel)
  · exact List.mem_of_getElem? (i := 230) (by decide +kernel)
  · exact List.mem_of_getElem? (i := 232) (by decide +kernel)
set_option maxRecDepth 20000 in
theorem lwf_X3 : ∀ w ∈ wsX30, w ∈ lw_tbl := by
  intro w hw
  obtain ⟨i, hi, rfl⟩ := List.mem_map.mp hw
  have hi := List.mem_range.mp hi
  have h : i = 0 ∨ i = 1 := by omega
  rcases h with rfl | rfl
  · exact List.mem_of_getElem? (i := 411) (by decide +kernel)
  · exact List.mem_of_getElem? (i := 413) (by decide +kernel)
set_option maxRecDepth 20000 in
theorem lwf_X4 : ∀ w ∈ wsX40, w ∈ lw_tbl := by
  intro w hw
  obtain ⟨i, hi, rfl⟩ := List.mem_map.mp hw
  have hi := List.mem_range.mp hi
  have h : i = 0 ∨ i = 1 ∨ i = 2 ∨ i = 3 ∨ i = 4 ∨ i = 5 ∨ i = 6 := by omega
  rcases h with rfl | rfl | rfl | rfl | rfl | rfl | rfl
  · exact List.mem_of_getElem? (i := 137) (by decide +kernel)
  · exact List.mem_of_getElem? (i := 139) (by decide +kernel)
  · exact List.mem_of_getElem? (i := 141) (by decide +kernel)
  · exact List.mem_of_getElem? (i := 143) (by decide +kernel)
  · exact List.mem_of_getElem? (i := 145) (by decide +kernel)
  · exact List.mem_of_getElem? (i := 147) (by decide +kernel)
  · exact List.mem_of_getElem? (i := 149) (by decide +kernel)
set_option maxRecDepth 20000 in
theorem lwf_X5 : ∀ w ∈ wsX50, w ∈ lw_tbl := by
  intro w hw
  obtain ⟨i, hi, rfl⟩ := List.mem_map.mp hw
  have hi := List.mem_range.mp hi
  have h : i = 0 ∨ i = 1 ∨ i = 2 ∨ i = 3 ∨ i = 4 := by omega
  rcases h with rfl | rfl | rfl | rfl | rfl
  · exact List.mem_of_getElem? (i := 166) (by decide +kernel)
  · exact List.mem_of_getElem? (i := 168) (by decide +kernel)
  · exact List.mem_of_getElem? (i := 170) (by decide +kernel)
  · exact List.mem_of_getElem? (i := 172) (by decide +kernel)
  · exact List.mem_of_getElem? (i := 174) (by decide +kernel)
set_option maxRecDepth 20000 in
theorem lwf_X6 : ∀ w ∈ wsX60, w ∈ lw_tbl := by
  intro w hw
  obtain ⟨i, hi, rfl⟩ := List.mem_map.mp hw
  have hi := List.mem_range.mp hi
  have h : i = 0 ∨ i = 1 ∨ i = 2 ∨ i = 3 ∨ i = 4 ∨ i = 5 ∨ i = 6 ∨ i = 7 ∨ i = 8 ∨ i = 9 ∨ i = 10 := by omega
  rcases h with rfl | rfl | rfl | rfl | rfl | rfl | rfl | rfl | rfl | rfl | rfl
  · exact List.mem_of_getElem? (i := 246) (by decide +kernel)
  · exact List.mem_of_getElem? (i := 248) (by decide +kernel)
  · exact List.mem_of_getElem? (i := 250) (by decide +kernel)
  · exact List.mem_of_getElem? (i := 252) (by decide +kernel)
  · exact List.mem_of_getElem? (i := 254) (by decide +kernel)
  · exact List.mem_of_getElem? (i := 256) (by decide +kernel)
  · exact List.mem_of_getElem? (i := 258) (by decide +kernel)
  · exact List.mem_of_getElem? (i := 260) (by decide +kernel)
  · exact List.mem_of_getElem? (i := 262) (by decide +kernel)
  · exact List.mem_of_getElem? (i := 264) (by decide +kernel)
  · exact List.mem_of_getElem? (i := 266) (by decide +kernel)
set_option maxRecDepth 20000 in
theorem lwf_X7 : ∀ w ∈ wsX70, w ∈ lw_tbl := by
  intro w hw
  obtain ⟨i, hi, rfl⟩ := List.mem_map.mp hw
  have hi := List.mem_range.mp hi
  have h : i = 0 ∨ i = 1 ∨ i = 2 ∨ i = 3 ∨ i = 4 ∨ i = 5 ∨ i = 6 ∨ i = 7 ∨ i = 8 ∨ i = 9 ∨ i = 10 ∨ i = 11 ∨ i = 12 ∨ i = 13 ∨ i = 14 ∨ i = 15 ∨ i = 16 ∨ i = 17 ∨ i = 18 ∨ i = 19 ∨ i = 20 ∨ i = 21 ∨ i = 22 ∨ i = 23 ∨ i = 24 ∨ i = 25 ∨ i = 26 ∨ i = 27 ∨ i = 28 := by omega
  rcases h with rfl | rfl | rfl | rfl | rfl | rfl | rfl | rfl | rfl | rfl | rfl | rfl | rfl | rfl | rfl | rfl | rfl | rfl | rfl | rfl | rfl | rfl | rfl | rfl | rfl | rfl | rfl | rfl | rfl
  · exact List.mem_of_getElem? (i := 720) (by decide +kernel)
  · exact List.mem_of_getElem? (i := 722) (by decide +kernel)
  · exact List.mem_of_getElem? (i := 724) (by decide +kernel)
  · exact List.mem_of_getElem? (i := 726) (by decide +kernel)
  · exact List.mem_of_getElem? (i := 728) (by decide +kernel)
  · exact List.mem_of_getElem? (i := 730) (by decide +kernel)
  · exact List.mem_of_getElem? (i := 732) (by decide +kernel)
  · exact List.mem_of_getElem? (i := 734) (by decide +kernel)
  · exact List.mem_of_getElem? (i := 736) (by decide +kernel)
  · exact List.mem_of_getElem? (i := 738) (by decide +kernel)
  · exact List.mem_of_getElem? (i := 740) (by decide +kernel)
  · exact List.mem_of_getElem? (i := 742) (by decide +kernel)
  · exact List.mem_of_getElem? (i := 744) (by decide +kernel)
  · exact List.mem_of_getElem? (i := 746) (by decide +kernel)
  · exact List.mem_of_getElem? (i := 748) (by decide +kernel)
  · exact List.mem_of_getElem? (i := 750) (by decide +kernel)
  · exact List.mem_of_getElem? (i := 752) (by decide +kernel)
  · exact List.mem_of_getElem? (i := 754) (by decide +kernel)
  · exact List.mem_of_getElem? (i := 756) (by decide +kernel)
  · exact List.mem_of_getElem? (i := 758) (by decide +kernel)
  · exact List.mem_of_getElem? (i := 760) (by decide +kernel)
  · exact List.mem_of_getElem? (i := 762) (by decide +kernel)
  · exact List.mem_of_getElem? (i := 764) (by decide +kernel)
  · exact List.mem_of_getElem? (i := 766) (by decide +kernel)
  · exact List.mem_of_getElem? (i := 768) (by decide +kernel)
  · exact List.mem_of_getElem? (i := 770) (by decide +kernel)
  · exact List.mem_of_getElem? (i := 772) (by decide +kernel)
  · exact List.mem_of_getElem? (i := 774) (by decide +kernel)
  · exact List.mem_of_getElem? (i := 776) (by decide +kernel)
set_option maxRecDepth 20000 in
theorem lwf_J6 : ∀ w ∈ wsJ60, w ∈ lw_tbl := fun _ h => absurd h List.not_mem_nil
set_option maxRecDepth 20000 in
theorem lwf_J7 : ∀ w ∈ wsJ70, w ∈ lw_tbl := fun _ h => absurd h List.not_mem_nil
set_option maxRecDepth 20000 in
theorem lwf_J9 : ∀ w ∈ wsJ90, w ∈ lw_tbl := fun _ h => absurd h List.not_mem_nil
set_option maxRecDepth 20000 in
theorem lwf_J10 : ∀ w ∈ wsJ100, w ∈ lw_tbl := fun _ h => absurd h List.not_mem_nil
