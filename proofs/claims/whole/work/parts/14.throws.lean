theorem th_of {L : List Cond} (h : L.all (fun w => ((decide (w ∈ lw_tbl) && goodWord w) || decide (w ∈ mm_nw)) && vx_ot w) = true) : ∀ w ∈ L, (w ∈ mm_aw ∨ w ∈ mm_nw) ∧ vx_ot w = true := fun w hw => by
  have h1 := Bool.and_eq_true_iff.mp (List.all_eq_true.mp h w hw)
  refine ⟨?_, h1.2⟩
  rcases Bool.or_eq_true_iff.mp h1.1 with q | q
  · have q2 := Bool.and_eq_true_iff.mp q
    exact Or.inl (mm_in (of_decide_eq_true q2.1) q2.2)
  · exact Or.inr (of_decide_eq_true q)
theorem th_fit : ∀ n ∈ mm_xn, Bundle.fit n = true := by decide +kernel
theorem tw_0 : ∀ w ∈ Cond.classLink rn_De 56 (mm_en 0) :: Cond.initialized (mm_en 0) :: vx_atS rn_De 60 (mm_en 0) mm_xn, (w ∈ mm_aw ∨ w ∈ mm_nw) ∧ vx_ot w = true := th_of (by decide +kernel)
theorem th_De_genes_11 : mm_th mt_De_genes 0 11 56 58 60 "genes are 1 to 6" := ⟨dc_De_genes_11, dc_De_genes_14, dc_De_genes_15, dc_De_genes_17, dc_De_genes_20, by decide +kernel, tw_0, rfl, by decide +kernel, th_fit⟩
theorem tw_1 : ∀ w ∈ Cond.classLink rn_De 86 (mm_en 1) :: Cond.initialized (mm_en 1) :: vx_atS rn_De 90 (mm_en 1) mm_xn, (w ∈ mm_aw ∨ w ∈ mm_nw) ∧ vx_ot w = true := th_of (by decide +kernel)
theorem th_De_gene_16 : mm_th mt_De_gene 1 16 86 88 90 "no such place" := ⟨dc_De_gene_16, dc_De_gene_19, dc_De_gene_20, dc_De_gene_22, dc_De_gene_25, by decide +kernel, tw_1, rfl, by decide +kernel, th_fit⟩
theorem th_De_reverse_21 : mm_th mt_De_reverse 1 21 86 98 90 "no such places" := ⟨dc_De_reverse_21, dc_De_reverse_24, dc_De_reverse_25, dc_De_reverse_27, dc_De_reverse_30, by decide +kernel, tw_1, rfl, by decide +kernel, th_fit⟩
theorem th_De_drawing_14 : mm_th mt_De_drawing 0 14 56 113 60 "what is 0 to 5" := ⟨dc_De_drawing_14, dc_De_drawing_17, dc_De_drawing_18, dc_De_drawing_20, dc_De_drawing_23, by decide +kernel, tw_0, rfl, by decide +kernel, th_fit⟩
theorem th_De_line_17 : mm_th mt_De_line 0 17 56 133 60 "no such gray line" := ⟨dc_De_line_17, dc_De_line_20, dc_De_line_21, dc_De_line_23, dc_De_line_26, by decide +kernel, tw_0, rfl, by decide +kernel, th_fit⟩
theorem tw_2 : ∀ w ∈ Cond.classLink rn_De 161 (mm_en 2) :: Cond.initialized (mm_en 2) :: vx_atS rn_De 165 (mm_en 2) mm_xn, (w ∈ mm_aw ∨ w ∈ mm_nw) ∧ vx_ot w = true := th_of (by decide +kernel)
theorem th_De_step_8 : mm_th mt_De_step 2 8 161 163 165 "no scenario" := ⟨dc_De_step_8, dc_De_step_11, dc_De_step_12, dc_De_step_14, dc_De_step_17, by decide +kernel, tw_2, rfl, by decide +kernel, th_fit⟩
theorem th_De_step_30 : mm_th mt_De_step 0 30 56 166 60 "no such reversal" := ⟨dc_De_step_30, dc_De_step_33, dc_De_step_34, dc_De_step_36, dc_De_step_39, by decide +kernel, tw_0, rfl, by decide +kernel, th_fit⟩
theorem th_De_checkSlot_9 : mm_th mt_De_checkSlot 1 9 86 193 90 "slots are 0 to 4" := ⟨dc_De_checkSlot_9, dc_De_checkSlot_12, dc_De_checkSlot_13, dc_De_checkSlot_15, dc_De_checkSlot_18, by decide +kernel, tw_1, rfl, by decide +kernel, th_fit⟩
theorem tw_3 : ∀ w ∈ Cond.classLink rn_De 203 (mm_en 3) :: Cond.initialized (mm_en 3) :: vx_atS rn_De 207 (mm_en 3) mm_xn, (w ∈ mm_aw ∨ w ∈ mm_nw) ∧ vx_ot w = true := th_of (by decide +kernel)
theorem th_De_chartNow_8 : mm_th mt_De_chartNow 3 8 203 205 207 "not with 5 or 6 genes" := ⟨dc_De_chartNow_8, dc_De_chartNow_11, dc_De_chartNow_12, dc_De_chartNow_14, dc_De_chartNow_17, by decide +kernel, tw_3, rfl, by decide +kernel, th_fit⟩
