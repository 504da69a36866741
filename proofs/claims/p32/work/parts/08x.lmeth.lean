set_option maxRecDepth 100000 in
theorem qL_part : x_MS mL_part 2 := ⟨⟨by decide +kernel, rfl, x_in0 29 (by decide +kernel) (by decide +kernel), x_in0 791 rfl (by decide +kernel), by decide +kernel, by decide +kernel, by decide +kernel⟩, x_in0 790 (by decide +kernel) (by decide +kernel)⟩
set_option maxRecDepth 100000 in
theorem qL_cell : x_MS mL_cell 2 := ⟨⟨by decide +kernel, rfl, x_in0 29 (by decide +kernel) (by decide +kernel), x_in0 795 rfl (by decide +kernel), by decide +kernel, by decide +kernel, by decide +kernel⟩, x_in0 794 (by decide +kernel) (by decide +kernel)⟩
set_option maxRecDepth 100000 in
theorem qL_nets : x_MS mL_nets 4 := ⟨⟨by decide +kernel, rfl, x_in0 29 (by decide +kernel) (by decide +kernel), x_in0 799 rfl (by decide +kernel), by decide +kernel, by decide +kernel, by decide +kernel⟩, x_in0 798 (by decide +kernel) (by decide +kernel)⟩
set_option maxRecDepth 100000 in
theorem qL_says : x_MS mL_says 5 := ⟨⟨by decide +kernel, rfl, x_in0 29 (by decide +kernel) (by decide +kernel), x_in0 806 rfl (by decide +kernel), by decide +kernel, by decide +kernel, by decide +kernel⟩, x_in0 805 (by decide +kernel) (by decide +kernel)⟩
set_option maxRecDepth 100000 in
theorem qL_linkOf : x_MS mL_linkOf 3 := ⟨⟨by decide +kernel, rfl, x_in0 29 (by decide +kernel) (by decide +kernel), x_in0 817 rfl (by decide +kernel), by decide +kernel, by decide +kernel, by decide +kernel⟩, x_in0 816 (by decide +kernel) (by decide +kernel)⟩
set_option maxRecDepth 100000 in
theorem qL_whole : x_MS mL_whole 1 := ⟨⟨by decide +kernel, rfl, x_in0 29 (by decide +kernel) (by decide +kernel), x_in0 824 rfl (by decide +kernel), by decide +kernel, by decide +kernel, by decide +kernel⟩, x_in0 823 (by decide +kernel) (by decide +kernel)⟩
set_option maxRecDepth 100000 in
theorem qL_faults : x_MS mL_faults 1 := ⟨⟨by decide +kernel, rfl, x_in0 29 (by decide +kernel) (by decide +kernel), x_in0 834 rfl (by decide +kernel), by decide +kernel, by decide +kernel, by decide +kernel⟩, x_in0 833 (by decide +kernel) (by decide +kernel)⟩
set_option maxRecDepth 100000 in
theorem qL_most : x_MS mL_most 1 := ⟨⟨by decide +kernel, rfl, x_in0 29 (by decide +kernel) (by decide +kernel), x_in0 837 rfl (by decide +kernel), by decide +kernel, by decide +kernel, by decide +kernel⟩, x_in0 836 (by decide +kernel) (by decide +kernel)⟩
set_option maxRecDepth 100000 in
theorem qL_refused : x_MS mL_refused 1 := ⟨⟨by decide +kernel, rfl, x_in0 29 (by decide +kernel) (by decide +kernel), x_in0 840 rfl (by decide +kernel), by decide +kernel, by decide +kernel, by decide +kernel⟩, x_in0 839 (by decide +kernel) (by decide +kernel)⟩
set_option maxRecDepth 100000 in
theorem qL_goes : x_MS mL_goes 3 := ⟨⟨by decide +kernel, rfl, x_in0 29 (by decide +kernel) (by decide +kernel), x_in0 946 rfl (by decide +kernel), by decide +kernel, by decide +kernel, by decide +kernel⟩, x_in0 945 (by decide +kernel) (by decide +kernel)⟩
set_option maxRecDepth 100000 in
theorem qL_arrives : x_MS mL_arrives 3 := ⟨⟨by decide +kernel, rfl, x_in0 29 (by decide +kernel) (by decide +kernel), x_in0 949 rfl (by decide +kernel), by decide +kernel, by decide +kernel, by decide +kernel⟩, x_in0 948 (by decide +kernel) (by decide +kernel)⟩
