/-! not yet proved -/
theorem op_ice (σ : gs_S) (hI : inv σ)  : ∃ (r : Int32) (σ1 : gs_S) (σ2 : gs_S), pX10_ice  σ = some (r, σ1) ∧ pX11_ice  σ1 = some (r, σ2) ∧ inv σ2 := by
  sorry
theorem op_sleighs (σ : gs_S) (hI : inv σ)  : ∃ (r : Int32) (σ1 : gs_S) (σ2 : gs_S), pX10_sleighs  σ = some (r, σ1) ∧ pX11_sleighs  σ1 = some (r, σ2) ∧ inv σ2 := by
  sorry
theorem op_count (σ : gs_S) (hI : inv σ) (a1 : Int32) : ∃ (r : Int32), pX10_count a1 σ = some r ∧ pX11_count a1 σ = some r := by
  sorry
theorem op_breaks (σ : gs_S) (hI : inv σ) (a1 : Int32) : ∃ (r : Int32) (σ2 : gs_S), pX10_breaks a1 σ = some r ∧ pX11_breaks a1 σ = some (r, σ2) ∧ inv σ2 := by
  sorry
theorem op_cracks (σ : gs_S) (hI : inv σ) (a1 : Int32) : ∃ (r : Int64) (σ2 : gs_S), pX10_cracks a1 σ = some r ∧ pX11_cracks a1 σ = some (r, σ2) ∧ inv σ2 := by
  sorry
theorem op_crack (σ : gs_S) (hI : inv σ) (a1 : Int32) : ∃ (r : Int32) (σ1 : gs_S) (σ2 : gs_S), pX10_crack a1 σ = some (r, σ1) ∧ pX11_crack a1 σ1 = some (r, σ2) ∧ inv σ2 := by
  sorry
theorem op_road (σ : gs_S) (hI : inv σ) (a1 : Int32) (a2 : Int32) (a3 : Int32) (a4 : Int32) (a5 : Int32) : ∃ (r : Int32) (σ1 : gs_S) (σ2 : gs_S), pX10_road a1 a2 a3 a4 a5 σ = some (r, σ1) ∧ pX11_road a1 a2 a3 a4 a5 σ1 = some (r, σ2) ∧ inv σ2 := by
  sorry
theorem op_most (σ : gs_S) (hI : inv σ) (a1 : Int32) (a2 : Int32) (a3 : Int32) : ∃ (r : Int32) (σ1 : gs_S) (σ2 : gs_S), pX10_most a1 a2 a3 σ = some (r, σ1) ∧ pX11_most a1 a2 a3 σ1 = some (r, σ2) ∧ inv σ2 := by
  sorry
theorem op_planks (σ : gs_S) (hI : inv σ) (a1 : Int32) (a2 : Int32) (a3 : Int32) (a4 : Int32) : ∃ (r : Int32) (σ1 : gs_S) (σ2 : gs_S), pX10_planks a1 a2 a3 a4 σ = some (r, σ1) ∧ pX11_planks a1 a2 a3 a4 σ1 = some (r, σ2) ∧ inv σ2 := by
  sorry
theorem op_span (σ : gs_S) (hI : inv σ) (a1 : Int32) (a2 : Int32) (a3 : Int32) : ∃ (r : Int32) (σ1 : gs_S) (σ2 : gs_S), pX10_span a1 a2 a3 σ = some (r, σ1) ∧ pX11_span a1 a2 a3 σ1 = some (r, σ2) ∧ inv σ2 := by
  sorry
theorem op_safe (σ : gs_S) (hI : inv σ) (a1 : Int32) (a2 : Int32) (a3 : Int32) (a4 : Int32) : ∃ (r : Int32) (σ1 : gs_S) (σ2 : gs_S), pX10_safe a1 a2 a3 a4 σ = some (r, σ1) ∧ pX11_safe a1 a2 a3 a4 σ1 = some (r, σ2) ∧ inv σ2 := by
  sorry
theorem op_drum (σ : gs_S) (hI : inv σ)  : ∃ (r : Int32) (σ1 : gs_S) (σ2 : gs_S), pX10_drum  σ = some (r, σ1) ∧ pX11_drum  σ1 = some (r, σ2) ∧ inv σ2 := by
  sorry
theorem op_liars (σ : gs_S) (hI : inv σ)  : ∃ (r : Int32) (σ1 : gs_S) (σ2 : gs_S), pX10_liars  σ = some (r, σ1) ∧ pX11_liars  σ1 = some (r, σ2) ∧ inv σ2 := by
  sorry
theorem op_restore (σ : gs_S) (hI : inv σ)  : ∃ (r : Int32) (σ1 : gs_S) (σ2 : gs_S), pX10_restore  σ = some (r, σ1) ∧ pX11_restore  σ1 = some (r, σ2) ∧ inv σ2 := by
  sorry
