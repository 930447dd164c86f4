/-! The words of one call, whose bytes are too many to compare. -/
set_option maxRecDepth 100000 in
theorem kq_choices : tables_1_4[188]? = some (Cond.code yL_choices cL_choices 18 (some .boolean)) := rfl
theorem kq_choicesU : z_codeW mL_choices ∈ zUW := List.mem_filter.mpr ⟨List.mem_append_right _ (List.mem_append_right _ (List.mem_append_right _ (List.mem_append_right _ (List.mem_of_getElem? kq_choices)))), rfl⟩
theorem kh_L_162 : (Cond.methodLink RL 162 yL_choices ∈ zUW ∧ Cond.initialized yL_choices.cls ∈ zUW ∧ z_codeW mL_choices ∈ zUW) ∧ Cond.static yL_choices ∈ zUW := ⟨⟨z_in 926 (by decide +kernel) rfl, (z_in 20 (by decide +kernel) rfl), kq_choicesU⟩, z_in 927 (by decide +kernel) rfl⟩
