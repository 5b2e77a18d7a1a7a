theorem r_con_f {τ : rS} {a r s : Int32} (hr : ¬ r = 0) {Q : Int32 → rS → Prop} (hQ : Q 0 (rp τ a r s)) : R_classOrNone_w Q (rp τ a r s) := by
  intro v ev
  exact r_take_f hr ⟨fun _ => hQ, fun h9 => absurd h9 hr⟩
theorem r_con {b : Nat → Nat} {σ : cS} {τ : rS} {B : Nat → Nat} {e c a K : Nat} {S : Nat → Nat} (h : PB b σ τ B e c) (hK : TB σ τ c K S) (ha : a ≤ e) {s0 : Int32} {Q : Int32 → rS → Prop} (h1 : ∀ κ a', con B e K S a = .inl (κ, a') → Q (nI κ) (rp τ (nI a') 0 s0)) (h0 : ∀ r u v a', con B e K S a = .inr (r, u) → Q v (rp τ a' (nI r) (nI u))) : R_classOrNone_w Q (rp τ (nI a) 0 s0) := by
  intro v ev
  have ev : v = nI a := ev
  subst ev
  have he := h.he
  have hc := h.hc
  obtain ⟨hK12, -, eK, hSK⟩ := hK
  by_cases hlt : a < e
  · have hB := h.by_b a hlt
    refine r_take_ok h hlt ⟨fun h9 => absurd rfl h9, fun _ => ⟨fun h9 => ?_, fun h9 => ?_⟩⟩
    · have hz : B a = 0 := (nI_eq (b := 0) (by omega) (by omega)).mp h9
      have := h1 0 _ (con_0 hlt hz)
      show Q (nI (B a)) _
      rw [hz]; exact this
    · have hnz : ¬ (a < e ∧ B a = 0) := fun h8 => h9 (by rw [h8.2]; rfl)
      have hge : 1 ≤ B a := by
        rcases Nat.eq_zero_or_pos (B a) with h7 | h7
        · exact absurd ⟨hlt, h7⟩ hnz
        · exact h7
      have bad : ¬ (1 ≤ B a ∧ B a ≤ K ∧ S (B a) = 7) → R_classOrNone_b48 Q (nI a) (nI (B a)) (rp τ (nI (a + 1)) 0 s0) := fun h8 => r_fail_ok (h0 6 a _ _ (by rw [con_1 hnz]; exact kn_2 hlt h8))
      refine ⟨fun h8 => bad (fun h7 => ?_), fun h8 => ?_⟩
      · have h8 : τ.1 22 < nI (B a) := h8
        rw [eK] at h8
        exact absurd ((nI_ltI (by omega) (by omega)).mp h8) (by omega)
      · have h8 : ¬ τ.1 22 < nI (B a) := h8
        rw [eK] at h8
        have hle : B a ≤ K := by
          rcases Nat.lt_or_ge K (B a) with h7 | h7
          · exact absurd (nI_lt h7 (by omega)) h8
          · exact h7
        obtain ⟨hok, -, ek⟩ := hSK (B a) hge hle
        have lo := okS_le hok
        show vp_in ((13 : Int32) * τ.1 18 + nI (B a)) 208 ∧ (τ.2 6 ((13 : Int32) * τ.1 18 + nI (B a)).toNatClampNeg = 7 → R_classOrNone_b55 Q (nI (B a)) (rp τ (nI (a + 1)) 0 s0)) ∧ (¬ τ.2 6 ((13 : Int32) * τ.1 18 + nI (B a)).toNatClampNeg = 7 → R_classOrNone_b48 Q (nI a) (nI (B a)) (rp τ (nI (a + 1)) 0 s0))
        rw [h.rn, e13, nI_clamp (n := 13 * c + B a) (by omega), ek]
        refine ⟨vp_in_nI (by omega) (by omega), fun h7 => ?_, fun h7 => bad (fun h6 => h7 (by rw [h6.2.2]; rfl))⟩
        exact h1 _ _ (by rw [con_1 hnz]; exact kn_1 hlt ⟨hge, hle, (nI_eq (b := 7) (by omega) (by omega)).mp h7⟩)
  · have : a = e := by omega
    subst this
    exact r_take_end h ⟨fun _ => h0 1 a _ _ (by rw [con_1 (fun h9 => hlt h9.1)]; exact kn_0 hlt), fun h9 => absurd (show nI 1 = 0 from h9) (by decide)⟩
