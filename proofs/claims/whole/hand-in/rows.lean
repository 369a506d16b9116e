section
/-! small facts: a short's store, an index from 0 to 9, X's class against the reference's, X's loop of six turns -/
theorem fp_ns (z : Int32) : narrow .short (.int z.toInt16.toInt32) = .int z.toInt16.toInt32 := congrArg Value.int (by simp)
theorem fp_vs (z : Int32) : vp_nar .short z.toInt16.toInt32 = z.toInt16.toInt32 := by rw [vp_nar_short]; simp
/-- every cell holds a short -/
def fp_Sh (a : Nat → Int32) : Prop := ∀ j, narrow .short (.int (a j)) = .int (a j)
theorem fp_z : (0 : Int32).toInt16.toInt32 = 0 := by decide
theorem fp_sh0 : fp_Sh (fun _ => 0) := fun _ => congrArg Value.int fp_z
theorem fp_shU {a : Nat → Int32} (h : fp_Sh a) (k : Nat) (z : Int32) : fp_Sh (upd a k (vp_nar .short z.toInt16.toInt32)) := by
  intro j
  rw [fp_vs]
  by_cases e : j = k
  · have g : upd a k z.toInt16.toInt32 j = z.toInt16.toInt32 := if_pos e
    rw [g]
    exact fp_ns z
  · have g : upd a k z.toInt16.toInt32 j = a j := if_neg e
    rw [g]
    exact h j
theorem fp_9 : (9 : Int32).toInt = 9 := by decide
theorem fp_10 : (10 : Int32).toInt = 10 := by decide
theorem fp_0 : (0 : Int32).toInt = 0 := by decide
theorem fp_lt {x : Int32} (h : x ≤ 9) : ¬ (10 : Int32) ≤ x := by
  rw [Int32.le_iff_toInt_le, fp_9] at h
  rw [Int32.le_iff_toInt_le, fp_10]
  omega
theorem fp_ge {x : Int32} (h : ¬ x ≤ 9) : (10 : Int32) ≤ x := by
  rw [Int32.le_iff_toInt_le, fp_9] at h
  rw [Int32.le_iff_toInt_le, fp_10]
  omega
theorem fp_in {x : Int32} (h0 : ¬ x < 0) (h9 : x ≤ 9) : vp_in x 10 := by
  rw [Int32.lt_iff_toInt_lt, fp_0] at h0
  rw [Int32.le_iff_toInt_le, fp_9] at h9
  rw [vp_in_iff]
  omega
/-- one class for both: X's classOf answers it, and the reference goes on with it -/
theorem fp_23 (x z : Int32) : ∃ r : Int32, vp_in r 10 ∧ (∀ post : Int32 → Prop, post r → wX_classOf_9 post x z) ∧ (∀ (post : Int32 → SY → Prop) (a : Nat → Int32), wY_classify_122 post r a → wY_classify_23 post (((x.toUInt32 >>> ((23 : Int32).toUInt32 &&& Int32.toUInt32 31)).toInt32) &&& 255) (x &&& 8388607) z a) := by
  by_cases h1 : ((x.toUInt32 >>> ((23 : Int32).toUInt32 &&& Int32.toUInt32 31)).toInt32) &&& 255 = 255
  · by_cases h2 : x &&& 8388607 = 0
    · by_cases h3 : z = 0
      · exact ⟨7, vp_in_nI (n := 7) (by decide) (by decide), fun post hp => nm_e (nm_e (br_t h1 (br_t h2 (br_t h3 hp)))), fun post a hp => br_t h1 (br_t h2 (br_t h3 hp))⟩
      · exact ⟨0, vp_in_nI (n := 0) (by decide) (by decide), fun post hp => nm_e (nm_e (br_t h1 (br_t h2 (br_f h3 hp)))), fun post a hp => br_t h1 (br_t h2 (br_f h3 hp))⟩
    · by_cases h3 : x &&& 8388607 &&& 4194304 = 0
      · exact ⟨8, vp_in_nI (n := 8) (by decide) (by decide), fun post hp => nm_e (nm_e (br_t h1 (br_f h2 (br_t h3 hp)))), fun post a hp => br_t h1 (br_f h2 (br_t h3 hp))⟩
      · exact ⟨9, vp_in_nI (n := 9) (by decide) (by decide), fun post hp => nm_e (nm_e (br_t h1 (br_f h2 (br_f h3 hp)))), fun post a hp => br_t h1 (br_f h2 (br_f h3 hp))⟩
  · by_cases h0 : ((x.toUInt32 >>> ((23 : Int32).toUInt32 &&& Int32.toUInt32 31)).toInt32) &&& 255 = 0
    · by_cases h2 : x &&& 8388607 = 0
      · by_cases h3 : z = 0
        · exact ⟨4, vp_in_nI (n := 4) (by decide) (by decide), fun post hp => nm_e (nm_e (br_f h1 (br_t h0 (br_t h2 (br_t h3 hp))))), fun post a hp => br_f h1 (br_t h0 (br_t h2 (br_t h3 hp)))⟩
        · exact ⟨3, vp_in_nI (n := 3) (by decide) (by decide), fun post hp => nm_e (nm_e (br_f h1 (br_t h0 (br_t h2 (br_f h3 hp))))), fun post a hp => br_f h1 (br_t h0 (br_t h2 (br_f h3 hp)))⟩
      · by_cases h3 : z = 0
        · exact ⟨5, vp_in_nI (n := 5) (by decide) (by decide), fun post hp => nm_e (nm_e (br_f h1 (br_t h0 (br_f h2 (br_t h3 hp))))), fun post a hp => br_f h1 (br_t h0 (br_f h2 (br_t h3 hp)))⟩
        · exact ⟨2, vp_in_nI (n := 2) (by decide) (by decide), fun post hp => nm_e (nm_e (br_f h1 (br_t h0 (br_f h2 (br_f h3 hp))))), fun post a hp => br_f h1 (br_t h0 (br_f h2 (br_f h3 hp)))⟩
    · by_cases h3 : z = 0
      · exact ⟨6, vp_in_nI (n := 6) (by decide) (by decide), fun post hp => nm_e (nm_e (br_f h1 (br_f h0 (br_t h3 hp)))), fun post a hp => br_f h1 (br_f h0 (br_t h3 hp))⟩
      · exact ⟨1, vp_in_nI (n := 1) (by decide) (by decide), fun post hp => nm_e (nm_e (br_f h1 (br_f h0 (br_f h3 hp)))), fun post a hp => br_f h1 (br_f h0 (br_f h3 hp))⟩
theorem fp_cls (x : Int32) : ∃ r : Int32, vp_in r 10 ∧ (∀ post : Int32 → Prop, post r → wpX_classOf post x) ∧ (∀ (post : Int32 → SY → Prop) (a : Nat → Int32), wY_classify_122 post r a → wpY_classify post a x) := by
  by_cases h : 0 ≤ x
  · obtain ⟨r, hr, hX, hY⟩ := fp_23 x 0
    exact ⟨r, hr, fun post hp => br_t h (hX post hp), fun post a hp => nm_e (nm_e (br_t h (hY post a hp)))⟩
  · obtain ⟨r, hr, hX, hY⟩ := fp_23 x 1
    exact ⟨r, hr, fun post hp => br_f h (hX post hp), fun post a hp => nm_e (nm_e (br_f h (hY post a hp)))⟩
/-- one turn of X's loop over the finite classes, and its end -/
theorem fp_step {post : Int32 → Prop} {a : Nat → Int32} {n : Nat} (s : Int32) (i : Nat) (hi : i ≤ 6) (h : wX_finite_4 post a n (s + a i) (nI (i + 1))) : wX_finite_4 post a (n + 1) s (nI i) := by
  have h6 : ¬ (6 : Int32) < nI i := nI_nlt (a := 6) (b := i) hi (by decide)
  refine br_f h6 ⟨vp_in_nI (by omega) (by omega), fun y ey z ez => ?_⟩
  rw [nI_clamp (by omega)] at ey
  rw [nI_1 i] at ez
  rw [ey, ez]
  exact h
theorem fp_end {post : Int32 → Prop} {a : Nat → Int32} {n : Nat} (s : Int32) (h : post s) : wX_finite_4 post a (n + 1) s (nI 7) := by
  have h6 : (6 : Int32) < nI 7 := nI_lt (a := 6) (b := 7) (by decide) (by decide)
  exact br_t h6 h
theorem fp_fin (post : Int32 → Prop) (a : Nat → Int32) (h : post (a 1 + a 2 + a 3 + a 4 + a 5 + a 6)) : wpX_finite post a := by
  have e : (0 : Int32) + a 1 = a 1 := Int32.zero_add _
  have g : wX_finite_4 post a 7 0 (nI 1) := by
    refine fp_step 0 1 (by decide) ?_
    rw [e]
    exact fp_step _ 2 (by decide) (fp_step _ 3 (by decide) (fp_step _ 4 (by decide) (fp_step _ 5 (by decide) (fp_step _ 6 (by decide) (fp_end _ h)))))
  exact ⟨7, g⟩
end
section
/-- the two arrays of tallies are one function, and each cell holds a short -/
def i_Rel (_ : Nat) (u : SX) (v : SY) : Prop := u = v ∧ fp_Sh u
theorem i_up {k : Nat} {u : SX} {v : SY} (h : i_Rel k u v) : i_Rel (k + 3) u v := h
theorem i_vc0 : wpX_init (fun u => wpY_init (fun v => i_Rel 0 u v)) := ⟨rfl, fp_sh0⟩
theorem i_vc_classify {k : Nat} {u : SX} {v : SY} (I : i_Rel k u v) (hk : k + 3 ≤ 1536) (v1 : Int32) : wpX_classify (fun r u' => wpY_classify (fun r' v' => r' = r ∧ i_Rel (k + 3) u' v') v v1) u v1 := by
  obtain ⟨rfl, hS⟩ := I
  obtain ⟨r, hr, hX, hY⟩ := fp_cls v1
  unfold wpX_classify
  refine hX _ ⟨hr, br_c (fun h => ?_) (fun h => ⟨hr, hr, fun a ea => ?_⟩)⟩
  · exact hY _ _ ⟨hr, br_t h ⟨rfl, rfl, hS⟩⟩
  · exact hY _ _ ⟨hr, br_f h ⟨hr, hr, fun b eb => ⟨rfl, ea.trans eb.symm, by rw [ea]; exact fp_shU hS _ _⟩⟩⟩
theorem i_vc_preset {k : Nat} {u : SX} {v : SY} (I : i_Rel k u v) (hk : k + 3 ≤ 1536) (v1 : Int32) (v2 : Int32) : wpX_preset (fun r u' => wpY_preset (fun r' v' => r' = r ∧ i_Rel (k + 3) u' v') v v1 v2) u v1 v2 := by
  obtain ⟨rfl, hS⟩ := I
  have n1 : ¬ (1 : Int32) = 0 := by decide
  unfold wpX_preset wpX_isClass
  by_cases h0 : v1 < 0
  · exact br_t h0 (br_t rfl (br_t h0 ⟨rfl, rfl, hS⟩))
  · by_cases h9 : v1 ≤ 9
    · have hi : vp_in v1 10 := fp_in h0 h9
      refine br_f h0 (br_f (fp_lt h9) (br_f n1 ?_))
      unfold wpX_clamped
      by_cases g0 : 0 ≤ v2
      · by_cases g1 : v2 ≤ 32767
        · exact br_t g0 (br_t g1 ⟨hi, fun a ea => br_f h0 (br_t h9 (br_t g0 (br_t g1 ⟨hi, fun b eb => ⟨rfl, ea.trans eb.symm, by rw [ea]; exact fp_shU hS _ _⟩⟩)))⟩)
        · exact br_t g0 (br_f g1 ⟨hi, fun a ea => br_f h0 (br_t h9 (br_t g0 (br_f g1 ⟨hi, fun b eb => ⟨rfl, ea.trans eb.symm, by rw [ea]; exact fp_shU hS _ _⟩⟩)))⟩)
      · exact br_f g0 ⟨hi, fun a ea => br_f h0 (br_t h9 (br_f g0 ⟨hi, fun b eb => ⟨rfl, ea.trans eb.symm, by rw [ea]; exact fp_shU hS _ _⟩⟩))⟩
    · exact br_f h0 (br_t (fp_ge h9) (br_t rfl (br_f h0 (br_f h9 ⟨rfl, rfl, hS⟩))))
theorem i_vc_tally {k : Nat} {u : SX} {v : SY} (I : i_Rel k u v) (hk : k + 3 ≤ 1536) (v1 : Int32) : wpX_tally (fun r => wpY_tally (fun r' => r' = r ∧ i_Rel (k + 3) u v) v v1) u v1 := by
  obtain ⟨rfl, hS⟩ := I
  have n1 : ¬ (1 : Int32) = 0 := by decide
  unfold wpX_tally wpX_isClass
  by_cases h0 : v1 < 0
  · exact br_t h0 (br_t rfl (br_t h0 ⟨rfl, rfl, hS⟩))
  · by_cases h9 : v1 ≤ 9
    · have hi : vp_in v1 10 := fp_in h0 h9
      exact br_f h0 (br_f (fp_lt h9) (br_f n1 ⟨hi, hS _, br_f h0 (br_t h9 ⟨hi, hS _, rfl, rfl, hS⟩)⟩))
    · exact br_f h0 (br_t (fp_ge h9) (br_t rfl (br_f h0 (br_f h9 ⟨rfl, rfl, hS⟩))))
theorem i_vc_finite {k : Nat} {u : SX} {v : SY} (I : i_Rel k u v) (hk : k + 3 ≤ 1536) : wpX_finite (fun r => wpY_finite (fun r' => r' = r ∧ i_Rel (k + 3) u v) v) u := by
  obtain ⟨rfl, hS⟩ := I
  exact fp_fin _ _ ⟨rfl, rfl, hS⟩
end
