/-! the parse: the four bytes of an int, reference side -/
theorem r_int {b : Nat → Nat} {σ : cS} {τ : rS} {B : Nat → Nat} {e c a : Nat} (h : PB b σ τ B e c) (ha : a ≤ e) {s0 : Int32} {Q : rS → Prop} (h1 : a + 4 ≤ e → Q (rp τ (nI (a + 4)) 0 s0)) (h0 : e < a + 4 → Q (rp τ (nI e) 1 (nI e))) : R_oneConstant_b133 Q 0 (rp τ (nI a) 0 s0) := by
  have he := h.he
  refine fx_ex (R_oneConstant_b133_f Q) (fun z => ∃ i : Nat, i ≤ 4 ∧ ((z = (nI i, rp τ (nI (a + i)) 0 s0) ∧ a + i ≤ e) ∨ (z = (nI i, rp τ (nI e) 1 (nI e)) ∧ e < a + 4))) (fun z => 5 - z.1.toNatClampNeg) ?_ _ ⟨0, by omega, Or.inl ⟨rfl, by omega⟩⟩
  rintro K _ ⟨i, hi, ⟨rfl, hle⟩ | ⟨rfl, hlt⟩⟩ hK
  · show R_oneConstant_b133_s Q (fun x4 σ => K (x4, σ)) (nI i) (rp τ (nI (a + i)) 0 s0)
    refine ⟨fun h9 => ?_, fun h9 => ?_⟩
    · have : i = 4 := by have := (nI_leI (a := 4) (b := i) (by omega) (by omega)).mp h9; omega
      subst this
      exact h1 hle
    · have hi4 : i < 4 := by
        rcases Nat.lt_or_ge i 4 with h7 | h7
        · exact h7
        · exact absurd (nI_le (a := 4) h7 (by omega)) h9
      have mu : 5 - (nI (i + 1)).toNatClampNeg < 5 - (nI i).toNatClampNeg := by rw [nI_clamp (by omega), nI_clamp (by omega)]; omega
      by_cases hlt : a + i < e
      · refine r_take_ok h hlt (fun v ev => ?_)
        rw [nI_1] at ev
        subst ev
        exact hK (nI (i + 1), rp τ (nI (a + i + 1)) 0 s0) ⟨i + 1, hi4, Or.inl ⟨rfl, by omega⟩⟩ mu
      · have hae : a + i = e := by omega
        rw [hae]
        refine r_take_end h (fun v ev => ?_)
        rw [nI_1] at ev
        subst ev
        exact hK (nI (i + 1), rp τ (nI e) 1 (nI e)) ⟨i + 1, hi4, Or.inr ⟨rfl, by omega⟩⟩ mu
  · show R_oneConstant_b133_s Q (fun x4 σ => K (x4, σ)) (nI i) (rp τ (nI e) 1 (nI e))
    refine ⟨fun _ => h0 hlt, fun h9 => r_take_f n1_ne0 (fun v ev => ?_)⟩
    have hi4 : i < 4 := by
      rcases Nat.lt_or_ge i 4 with h7 | h7
      · exact h7
      · exact absurd (nI_le (a := 4) h7 (by omega)) h9
    rw [nI_1] at ev
    subst ev
    refine hK (nI (i + 1), rp τ (nI e) 1 (nI e)) ⟨i + 1, hi4, Or.inr ⟨rfl, hlt⟩⟩ ?_
    show 5 - (nI (i + 1)).toNatClampNeg < 5 - (nI i).toNatClampNeg
    rw [nI_clamp (by omega), nI_clamp (by omega)]; omega
