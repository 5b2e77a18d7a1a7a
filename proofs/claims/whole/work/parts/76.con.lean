/-! the parse: a class constant or none -/
def con (B : Nat → Nat) (e K : Nat) (S : Nat → Nat) (a : Nat) : (Nat × Nat) ⊕ (Nat × Nat) := if a < e ∧ B a = 0 then .inl (0, a + 1) else kn B e K S 7 a
theorem con_0 {B : Nat → Nat} {e K : Nat} {S : Nat → Nat} {a : Nat} (h : a < e) (h0 : B a = 0) : con B e K S a = .inl (0, a + 1) := by unfold con; rw [if_pos ⟨h, h0⟩]
theorem con_1 {B : Nat → Nat} {e K : Nat} {S : Nat → Nat} {a : Nat} (h : ¬ (a < e ∧ B a = 0)) : con B e K S a = kn B e K S 7 a := by unfold con; rw [if_neg h]
theorem c_con {b : Nat → Nat} {k : Nat → ClassId} {σ : cS} {τ : rS} {B : Nat → Nat} {e c a K : Nat} {S : Nat → Nat} (h : PB b σ τ B e c) (hK : TB σ τ c K S) (ha : a ≤ e) {Q : Int32 → cS → Prop} (hn : ∀ a', con B e K S a = .inl (0, a') → Q (-1) (cp σ 0 (nI a'))) (h1 : ∀ κ a', 1 ≤ κ → con B e K S a = .inl (κ, a') → Q (σ.2.1 7 κ) (cp σ 0 (nI a'))) (h0 : ∀ r u a', a' ≤ e → con B e K S a = .inr (r, u) → Q (-1) (cp σ (nI (1000 * r + u)) (nI a'))) : C_X3_readClassOrNone_w b k Q (cp σ 0 (nI a)) := by
  have he := h.he
  have go : ¬ (a < e ∧ B a = 0) → C_X3_readClassOrNone_b35 b k Q (cp σ 0 (nI a)) := by
    intro h9
    refine c_kn (s := 7) h hK ha (Or.inr (Or.inr rfl)) (fun κ a' e9 => h1 κ a' ?_ (by rw [con_1 h9]; exact e9)) (fun r u a' ha' e9 => h0 r u a' ha' (by rw [con_1 h9]; exact e9))
    unfold kn at e9
    by_cases hlt : a < e
    · rw [if_pos hlt] at e9
      by_cases h8 : 1 ≤ B a ∧ B a ≤ K ∧ S (B a) = 7
      · rw [if_pos h8] at e9
        cases e9
        exact h8.1
      · rw [if_neg h8] at e9; cases e9
    · rw [if_neg hlt] at e9; cases e9
  refine ⟨fun h9 => go (fun h8 => ?_), fun h9 => ?_⟩
  · have h9 : σ.1 4 ≤ nI a := h9
    rw [h.ce] at h9
    have := (nI_leI (by omega) (by omega)).mp h9
    omega
  · have h9 : ¬ σ.1 4 ≤ nI a := h9
    rw [h.ce] at h9
    have hlt : a < e := by
      rcases Nat.lt_or_ge a e with h7 | h7
      · exact h7
      · exact absurd (nI_le h7 (by omega)) h9
    have hB := h.by_b a hlt
    show σ.2.2.2.1 0 = some (b 1) ∧ vp_in (nI a) 120 ∧ (¬ σ.2.1 0 (nI a).toNatClampNeg = 0 → C_X3_readClassOrNone_b35 b k Q (cp σ 0 (nI a))) ∧ (σ.2.1 0 (nI a).toNatClampNeg = 0 → ∀ t30 : cS, t30 = sI (cp σ 0 (nI a)) 5 (nI a + 1) → Q (-1 : Int32) t30)
    rw [nI_clamp (by omega), h.by_c a hlt, nI_1, cp_5]
    refine ⟨h.cb, vp_in_nI (by omega) (by omega), fun h8 => go (fun h7 => h8 (by rw [h7.2]; rfl)), fun h8 t et => ?_⟩
    subst et
    have : B a = 0 := (nI_eq (b := 0) (by omega) (by omega)).mp h8
    exact hn _ (con_0 hlt this)
theorem c_con_f {b : Nat → Nat} {k : Nat → ClassId} {σ : cS} {τ : rS} {B : Nat → Nat} {e c a : Nat} {f : Int32} (h : PB b σ τ B e c) (hf : ¬ f = 0) (ha : a ≤ e) {Q : Int32 → cS → Prop} (h0 : ∀ a', a' ≤ e → Q (-1) (cp σ f (nI a'))) : C_X3_readClassOrNone_w b k Q (cp σ f (nI a)) := by
  have he := h.he
  have go : C_X3_readClassOrNone_b35 b k Q (cp σ f (nI a)) := c_kn_f hf (h0 a ha)
  refine ⟨fun _ => go, fun h9 => ?_⟩
  have h9 : ¬ σ.1 4 ≤ nI a := h9
  rw [h.ce] at h9
  have hlt : a < e := by
    rcases Nat.lt_or_ge a e with h7 | h7
    · exact h7
    · exact absurd (nI_le h7 (by omega)) h9
  refine ⟨h.cb, vp_in_nI (by omega) (by omega), fun _ => go, fun _ t et => ?_⟩
  have et : t = sI (cp σ f (nI a)) 5 (nI a + 1) := et
  rw [nI_1, cp_5] at et
  subst et
  exact h0 (a + 1) (by omega)
