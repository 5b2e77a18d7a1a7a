theorem Rel_counts {b : Nat → Nat} {k : Nat → ClassId} {σ : cS} {τ : rS} (hR : Rel b k σ τ) : ∃ C T : Nat, C ≤ 16 ∧ T ≤ 192 ∧ σ.1 2 = nI C ∧ τ.1 3 = nI C ∧ σ.1 1 = nI T ∧ τ.1 5 = nI T := by
  obtain ⟨-, C, T, hC, hT, e1, e2, e3, e4, -⟩ := hR
  exact ⟨C, T, hC, by omega, e1, e2, e3, e4⟩
theorem sim_letter (b : Nat → Nat) (k : Nat → ClassId) (x y : Int32) : SimI (Rel b k) (fun Q σ => C_X6_letter_w b k Q x y σ) (fun Q τ => R_letter_w Q x y τ) := by
  refine simI_eq (fun σ τ hR => ?_)
  obtain ⟨-, C, T, hC, hT, -, -, e3, e4, ht, -⟩ := hR
  by_cases hv : vp_in x T
  · obtain ⟨t, htT, rfl⟩ := vp_in_of hv (by omega)
    obtain ⟨p, n, hn, hp, e5, e6, e7, hl⟩ := ht t htT
    have c1 : (nI t).toNatClampNeg = t := nI_clamp (by omega)
    have cp : (nI p).toNatClampNeg = p := nI_clamp (by omega)
    -- the class: has, then letterOf
    have cl : ∀ (Q : Int32 → cS → Prop) (r : Int32), (y < 0 → r = 0) → (¬ y < 0 → nI n ≤ y → r = 0) → (∀ i, i < n → y = nI i → σ.2.1 1 (10 * t + i) = r) → Q r σ → C_X6_letter_w b k Q (nI t) y σ := by
      intro Q r r1 r2 r3 hQ
      refine c_has4 (n := T) (by omega) e3 (fun h9 => absurd hv h9) (fun _ _ _ => ⟨fun h9 => absurd h9 n1_ne0, fun _ => ⟨fun hy => ?_, fun hy => ?_⟩⟩)
      · show Q 0 σ
        rw [← r1 hy]; exact hQ
      · refine c_has4 (n := T) (by omega) e3 (fun h9 => absurd hv h9) (fun _ _ _ => ⟨fun h9 => absurd h9 n1_ne0, fun _ => ⟨vp_in_nI (by omega) (by omega), ?_⟩⟩)
        show (σ.2.1 2 (nI t).toNatClampNeg ≤ y → Q 0 σ) ∧ (¬ σ.2.1 2 (nI t).toNatClampNeg ≤ y → vp_in ((nI t * 10) + y) 1920 ∧ Q (σ.2.1 1 ((nI t * 10) + y).toNatClampNeg) σ)
        rw [c1, e7]
        refine ⟨fun h9 => by rw [← r2 hy h9]; exact hQ, fun h9 => ?_⟩
        rcases ixc y (n := n) (by omega) with h3 | ⟨-, h3⟩ | ⟨i, hi, ei, -⟩
        · exact absurd h3 hy
        · exact absurd h3 h9
        · subst ei
          have e8 : nI t * 10 + nI i = nI (10 * t + i) := by
            rw [show (10 : Int32) = nI 10 from rfl, pk_mul, nI_add, Nat.mul_comm]
          rw [e8, nI_clamp (by omega), r3 i hi rfl]
          exact ⟨vp_in_nI (by omega) (by omega), hQ⟩
    have rl : ∀ (Q : Int32 → rS → Prop) (r : Int32), (y < 0 → r = 0) → (¬ y < 0 → nI n ≤ y → r = 0) → (∀ i, i < n → y = nI i → τ.2 2 (p + 1 + i) = r) → Q r τ → R_letter_w Q (nI t) y τ := by
      intro Q r r1 r2 r3 hQ
      refine r_isText (n := T) (by omega) e4 (fun h9 => absurd hv h9) (fun _ _ _ => ⟨fun _ => ⟨fun hy => ?_, fun hy => ?_⟩, fun h9 => absurd h9 n1_ne0⟩)
      · show Q 0 τ
        rw [← r1 hy]; exact hQ
      · rw [c1, e5, cp, e6]
        refine ⟨vp_in_nI (by omega) (by omega), vp_in_nI (by omega) (by omega), fun h9 => ?_, fun h9 => ?_⟩
        · rcases ixc y (n := n) (by omega) with h3 | ⟨-, h3⟩ | ⟨i, hi, ei, -⟩
          · exact absurd h3 hy
          · exact absurd h3 (Int32.not_le.mpr h9)
          · subst ei
            have e8 : nI p + 1 + nI i = nI (p + 1 + i) := by rw [nI_1, nI_add]
            rw [e8, nI_clamp (by omega), r3 i hi rfl]
            exact ⟨vp_in_nI (by omega) (by omega), vp_in_nI (by omega) (by omega), hQ⟩
        · show Q 0 τ
          rw [← r2 hy (Int32.not_lt.mp h9)]; exact hQ
    rcases ixc y (n := n) (by omega) with h3 | ⟨h2, h3⟩ | ⟨i, hi, ei, h2, h3⟩
    · exact ⟨0, fun Q h => cl Q 0 (fun _ => rfl) (fun _ _ => rfl) (fun i hi ei => absurd h3 (by rw [ei]; exact nI_pos (by omega))) h, fun Q h => rl Q 0 (fun _ => rfl) (fun _ _ => rfl) (fun i hi ei => absurd h3 (by rw [ei]; exact nI_pos (by omega))) h⟩
    · exact ⟨0, fun Q h => cl Q 0 (fun _ => rfl) (fun _ _ => rfl) (fun i hi ei => absurd h3 (by rw [ei]; exact nI_ge hi (by omega))) h, fun Q h => rl Q 0 (fun _ => rfl) (fun _ _ => rfl) (fun i hi ei => absurd h3 (by rw [ei]; exact nI_ge hi (by omega))) h⟩
    · subst ei
      obtain ⟨z, -, -, e8, e9⟩ := hl i hi
      refine ⟨nI z, fun Q h => cl Q (nI z) (fun h9 => absurd h9 h2) (fun _ h9 => absurd h9 h3) (fun i' hi' ei' => ?_) h, fun Q h => rl Q (nI z) (fun h9 => absurd h9 h2) (fun _ h9 => absurd h9 h3) (fun i' hi' ei' => ?_) h⟩
      · have : i = i' := (nI_eq (by omega) (by omega)).mp ei'
        rw [← this]; exact e9
      · have : i = i' := (nI_eq (by omega) (by omega)).mp ei'
        rw [← this]; exact e8
  · exact ⟨-1, fun Q h => c_has4 (n := T) (by omega) e3 (fun _ => ⟨fun _ => h, fun h9 => absurd rfl h9⟩) (fun j hj e => (nvp hv (by omega) hj e).elim), fun Q h => r_isText (n := T) (by omega) e4 (fun _ => ⟨fun h9 => absurd rfl h9, fun _ => h⟩) (fun j hj e => (nvp hv (by omega) hj e).elim)⟩
