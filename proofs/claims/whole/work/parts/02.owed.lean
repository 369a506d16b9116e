/-- the two arrays of tallies are one function, and each cell holds a short -/
def i_Rel (_ : Nat) (u : SX) (v : SY) : Prop := u = v ∧ fp_Sh u
theorem i_up {k : Nat} {u : SX} {v : SY} (h : i_Rel k u v) : i_Rel (k + 3) u v := h
theorem i_vc0 : wpX_init (fun u => wpY_init (fun v => i_Rel 0 u v)) := ⟨rfl, fp_sh0⟩
theorem i_vc_classify {k : Nat} {u : SX} {v : SY} (I : i_Rel k u v) (hk : k + 3 ≤ 1536) (v1 : Int32) : wpX_classify (fun r u' => wpY_classify (fun r' v' => r' = r ∧ i_Rel (k + 3) u' v') v v1) u v1 := by
  obtain ⟨rfl, hS⟩ := I
  obtain ⟨r, hr, hX, hY⟩ := fp_cls v1
  unfold wpX_classify
  refine hX _ ⟨hr, br_c (fun h => ?_) (fun h => ⟨hr, hr, fun a ea => ?_⟩)⟩
  · exact hY _ _ ⟨hr, br_t h ⟨rfl, rfl, hS⟩⟩
  · exact hY _ _ ⟨hr, br_f h ⟨hr, hr, fun b eb => ⟨rfl, ea.trans eb.symm, by rw [ea]; exact fp_shU hS _ _⟩⟩⟩
theorem i_vc_preset {k : Nat} {u : SX} {v : SY} (I : i_Rel k u v) (hk : k + 3 ≤ 1536) (v1 : Int32) (v2 : Int32) : wpX_preset (fun r u' => wpY_preset (fun r' v' => r' = r ∧ i_Rel (k + 3) u' v') v v1 v2) u v1 v2 := by
  obtain ⟨rfl, hS⟩ := I
  have n1 : ¬ (1 : Int32) = 0 := by decide
  unfold wpX_preset wpX_isClass
  by_cases h0 : v1 < 0
  · exact br_t h0 (br_t rfl (br_t h0 ⟨rfl, rfl, hS⟩))
  · by_cases h9 : v1 ≤ 9
    · have hi : vp_in v1 10 := fp_in h0 h9
      refine br_f h0 (br_f (fp_lt h9) (br_f n1 ?_))
      unfold wpX_clamped
      by_cases g0 : 0 ≤ v2
      · by_cases g1 : v2 ≤ 32767
        · exact br_t g0 (br_t g1 ⟨hi, fun a ea => br_f h0 (br_t h9 (br_t g0 (br_t g1 ⟨hi, fun b eb => ⟨rfl, ea.trans eb.symm, by rw [ea]; exact fp_shU hS _ _⟩⟩)))⟩)
        · exact br_t g0 (br_f g1 ⟨hi, fun a ea => br_f h0 (br_t h9 (br_t g0 (br_f g1 ⟨hi, fun b eb => ⟨rfl, ea.trans eb.symm, by rw [ea]; exact fp_shU hS _ _⟩⟩)))⟩)
      · exact br_f g0 ⟨hi, fun a ea => br_f h0 (br_t h9 (br_f g0 ⟨hi, fun b eb => ⟨rfl, ea.trans eb.symm, by rw [ea]; exact fp_shU hS _ _⟩⟩))⟩
    · exact br_f h0 (br_t (fp_ge h9) (br_t rfl (br_f h0 (br_f h9 ⟨rfl, rfl, hS⟩))))
theorem i_vc_tally {k : Nat} {u : SX} {v : SY} (I : i_Rel k u v) (hk : k + 3 ≤ 1536) (v1 : Int32) : wpX_tally (fun r => wpY_tally (fun r' => r' = r ∧ i_Rel (k + 3) u v) v v1) u v1 := by
  obtain ⟨rfl, hS⟩ := I
  have n1 : ¬ (1 : Int32) = 0 := by decide
  unfold wpX_tally wpX_isClass
  by_cases h0 : v1 < 0
  · exact br_t h0 (br_t rfl (br_t h0 ⟨rfl, rfl, hS⟩))
  · by_cases h9 : v1 ≤ 9
    · have hi : vp_in v1 10 := fp_in h0 h9
      exact br_f h0 (br_f (fp_lt h9) (br_f n1 ⟨hi, hS _, br_f h0 (br_t h9 ⟨hi, hS _, rfl, rfl, hS⟩)⟩))
    · exact br_f h0 (br_t (fp_ge h9) (br_t rfl (br_f h0 (br_f h9 ⟨rfl, rfl, hS⟩))))
theorem i_vc_finite {k : Nat} {u : SX} {v : SY} (I : i_Rel k u v) (hk : k + 3 ≤ 1536) : wpX_finite (fun r => wpY_finite (fun r' => r' = r ∧ i_Rel (k + 3) u v) v) u := by
  obtain ⟨rfl, hS⟩ := I
  exact fp_fin _ _ ⟨rfl, rfl, hS⟩
