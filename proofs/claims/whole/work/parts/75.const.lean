/-! the parse: a constant's number -/
def kk (s : Nat) : Nat := if s = 3 then 1 else if s = 1 then 2 else 3
def okS (s : Nat) : Prop := s = 1 ∨ s = 3 ∨ s = 7
theorem kk_inj {s u : Nat} (hs : okS s) (hu : okS u) : kk s = kk u ↔ s = u := by
  rcases hs with rfl | rfl | rfl <;> rcases hu with rfl | rfl | rfl <;> decide
theorem kk_le (s : Nat) : kk s ≤ 3 := by unfold kk; split <;> (try split) <;> omega
theorem okS_le {s : Nat} (h : okS s) : s ≤ 7 := by rcases h with rfl | rfl | rfl <;> omega
/-- the constants of the file that is read -/
def TB (σ : cS) (τ : rS) (c K : Nat) (S : Nat → Nat) : Prop := K ≤ 12 ∧ σ.1 6 = nI K ∧ τ.1 22 = nI K ∧ ∀ κ, 1 ≤ κ → κ ≤ K → okS (S κ) ∧ σ.2.1 6 κ = nI (kk (S κ)) ∧ τ.2 6 (13 * c + κ) = nI (S κ)
def kn (B : Nat → Nat) (e K : Nat) (S : Nat → Nat) (s a : Nat) : (Nat × Nat) ⊕ (Nat × Nat) := if a < e then (if 1 ≤ B a ∧ B a ≤ K ∧ S (B a) = s then .inl (B a, a + 1) else .inr (6, a)) else .inr (1, e)
theorem kn_1 {B : Nat → Nat} {e K : Nat} {S : Nat → Nat} {s a : Nat} (h : a < e) (h2 : 1 ≤ B a ∧ B a ≤ K ∧ S (B a) = s) : kn B e K S s a = .inl (B a, a + 1) := by unfold kn; rw [if_pos h, if_pos h2]
theorem kn_2 {B : Nat → Nat} {e K : Nat} {S : Nat → Nat} {s a : Nat} (h : a < e) (h2 : ¬ (1 ≤ B a ∧ B a ≤ K ∧ S (B a) = s)) : kn B e K S s a = .inr (6, a) := by unfold kn; rw [if_pos h, if_neg h2]
theorem kn_0 {B : Nat → Nat} {e K : Nat} {S : Nat → Nat} {s a : Nat} (h : ¬ a < e) : kn B e K S s a = .inr (1, e) := by unfold kn; rw [if_neg h]
theorem nI_f {r s : Nat} (hr : 1 ≤ r) (hr9 : r ≤ 9) (hs : s ≤ 1000) : ¬ nI (1000 * r + s) = 0 := nI_ne0 (by omega) (by omega)
theorem c_kn_f {b : Nat → Nat} {k : Nat → ClassId} {σ : cS} {f a x : Int32} (hf : ¬ f = 0) {Q : Int32 → cS → Prop} (hQ : Q (-1) (cp σ f a)) : C_X3_readConstant_w b k Q x (cp σ f a) := by
  intro v ev
  exact c_next_f hf ⟨fun _ => ⟨zb0, fun h9 => absurd rfl h9, fun _ => c_ref_f hf hQ⟩, fun h9 => absurd (by decide) h9⟩
theorem c_kn {b : Nat → Nat} {k : Nat → ClassId} {σ : cS} {τ : rS} {B : Nat → Nat} {e c a K s : Nat} {S : Nat → Nat} (h : PB b σ τ B e c) (hK : TB σ τ c K S) (ha : a ≤ e) (hs : okS s) {Q : Int32 → cS → Prop} (h1 : ∀ κ a', kn B e K S s a = .inl (κ, a') → Q (σ.2.1 7 κ) (cp σ 0 (nI a'))) (h0 : ∀ r u a', a' ≤ e → kn B e K S s a = .inr (r, u) → Q (-1) (cp σ (nI (1000 * r + u)) (nI a'))) : C_X3_readConstant_w b k Q (nI (kk s)) (cp σ 0 (nI a)) := by
  intro v ev
  have ev : v = nI a := ev
  subst ev
  have he := h.he
  obtain ⟨hK12, eK, -, hSK⟩ := hK
  by_cases hlt : a < e
  · have hB := h.by_b a hlt
    have bad : ¬ (1 ≤ B a ∧ B a ≤ K ∧ S (B a) = s) → C_X3_isConstant_b27 b k (fun r13 t13 => (¬ r13 = 0 → vp_in (nI (B a)) 13 ∧ Q (t13.2.1 7 (nI (B a)).toNatClampNeg) t13) ∧ (r13 = 0 → C_X3_refuse_w b k (fun t23 => Q (-1 : Int32) t23) (6 : Int32) (nI a) t13)) (cp σ 0 (nI (a + 1))) := fun h9 => ⟨zb0, fun h8 => absurd rfl h8, fun _ => c_ref_ok (r := 6) (s := a) (h0 6 a (a + 1) (by omega) (kn_2 hlt h9))⟩
    have cB : (nI (B a)).toNatClampNeg = B a := nI_clamp (by omega)
    refine c_next_ok h hlt ⟨fun h9 => bad (fun h8 => ?_), fun h9 => ⟨fun h8 => bad (fun h7 => ?_), fun h8 => ?_⟩⟩
    · exact absurd ((nI_ltI (b := 1) (by omega) (by omega)).mp h9) (by omega)
    · have h8 : σ.1 6 < nI (B a) := h8
      rw [eK] at h8
      exact absurd ((nI_ltI (by omega) (by omega)).mp h8) (by omega)
    · have h8 : ¬ σ.1 6 < nI (B a) := h8
      rw [eK] at h8
      have hle : B a ≤ K := by
        rcases Nat.lt_or_ge K (B a) with h7 | h7
        · exact absurd (nI_lt h7 (by omega)) h8
        · exact h7
      have hge : 1 ≤ B a := by
        rcases Nat.lt_or_ge (B a) 1 with h7 | h7
        · exact absurd (nI_lt (b := 1) h7 (by omega)) h9
        · exact h7
      obtain ⟨hok, ek, -⟩ := hSK (B a) hge hle
      have l1 := kk_le (S (B a))
      have l2 := kk_le s
      refine ⟨vp_in_nI (by omega) (by omega), fun h7 => bad (fun h6 => ?_), fun h7 => ?_⟩
      · have h7 : ¬ σ.2.1 6 (nI (B a)).toNatClampNeg = nI (kk s) := h7
        rw [cB, ek, h6.2.2] at h7
        exact absurd rfl h7
      · have h7 : σ.2.1 6 (nI (B a)).toNatClampNeg = nI (kk s) := h7
        rw [cB, ek] at h7
        have h7 := (kk_inj hok hs).mp ((nI_eq (by omega) (by omega)).mp h7)
        refine ⟨zb1, fun _ => ⟨vp_in_nI (by omega) (by omega), ?_⟩, fun h6 => absurd h6 n1_ne0⟩
        rw [cB]
        exact h1 _ _ (kn_1 hlt ⟨hge, hle, h7⟩)
  · have : a = e := by omega
    subst this
    exact c_next_end h ⟨fun _ => ⟨zb0, fun h9 => absurd rfl h9, fun _ => c_ref_f (nI_f (r := 1) (s := a) (by omega) (by omega) (by omega)) (h0 1 a a (Nat.le_refl _) (kn_0 hlt))⟩, fun h9 => absurd (by decide) h9⟩
theorem r_kn_f {τ : rS} {a r s x : Int32} (hr : ¬ r = 0) {Q : Int32 → rS → Prop} (hQ : Q 0 (rp τ a r s)) : R_constant_w Q x (rp τ a r s) := by
  intro v ev
  exact r_take_f hr ⟨fun _ => hQ, fun h9 => absurd h9 hr⟩
theorem r_kn {b : Nat → Nat} {σ : cS} {τ : rS} {B : Nat → Nat} {e c a K s : Nat} {S : Nat → Nat} (h : PB b σ τ B e c) (hK : TB σ τ c K S) (ha : a ≤ e) (hs : okS s) {s0 : Int32} {Q : Int32 → rS → Prop} (h1 : ∀ κ a', kn B e K S s a = .inl (κ, a') → Q (nI κ) (rp τ (nI a') 0 s0)) (h0 : ∀ r u v a', kn B e K S s a = .inr (r, u) → Q v (rp τ a' (nI r) (nI u))) : R_constant_w Q (nI s) (rp τ (nI a) 0 s0) := by
  intro v ev
  have ev : v = nI a := ev
  subst ev
  have he := h.he
  have hc := h.hc
  have ls := okS_le hs
  obtain ⟨hK12, -, eK, hSK⟩ := hK
  by_cases hlt : a < e
  · have hB := h.by_b a hlt
    have bad : ¬ (1 ≤ B a ∧ B a ≤ K ∧ S (B a) = s) → R_constant_b48 Q (nI a) (nI (B a)) (rp τ (nI (a + 1)) 0 s0) := fun h9 => r_fail_ok (h0 6 a _ _ (kn_2 hlt h9))
    refine r_take_ok h hlt ⟨fun h9 => absurd rfl h9, fun _ => ⟨fun h9 => bad (fun h8 => ?_), fun h9 => ⟨fun h8 => bad (fun h7 => ?_), fun h8 => ?_⟩⟩⟩
    · exact absurd ((nI_ltI (b := 1) (by omega) (by omega)).mp h9) (by omega)
    · have h8 : τ.1 22 < nI (B a) := h8
      rw [eK] at h8
      exact absurd ((nI_ltI (by omega) (by omega)).mp h8) (by omega)
    · have h8 : ¬ τ.1 22 < nI (B a) := h8
      rw [eK] at h8
      have hle : B a ≤ K := by
        rcases Nat.lt_or_ge K (B a) with h7 | h7
        · exact absurd (nI_lt h7 (by omega)) h8
        · exact h7
      have hge : 1 ≤ B a := by
        rcases Nat.lt_or_ge (B a) 1 with h7 | h7
        · exact absurd (nI_lt (b := 1) h7 (by omega)) h9
        · exact h7
      obtain ⟨hok, -, ek⟩ := hSK (B a) hge hle
      have lo := okS_le hok
      show vp_in ((13 : Int32) * τ.1 18 + nI (B a)) 208 ∧ (τ.2 6 ((13 : Int32) * τ.1 18 + nI (B a)).toNatClampNeg = nI s → R_constant_b55 Q (nI (B a)) (rp τ (nI (a + 1)) 0 s0)) ∧ (¬ τ.2 6 ((13 : Int32) * τ.1 18 + nI (B a)).toNatClampNeg = nI s → R_constant_b48 Q (nI a) (nI (B a)) (rp τ (nI (a + 1)) 0 s0))
      rw [h.rn, e13, nI_clamp (n := 13 * c + B a) (by omega), ek]
      refine ⟨vp_in_nI (by omega) (by omega), fun h7 => ?_, fun h7 => bad (fun h6 => h7 (by rw [h6.2.2]))⟩
      exact h1 _ _ (kn_1 hlt ⟨hge, hle, (nI_eq (by omega) (by omega)).mp h7⟩)
  · have : a = e := by omega
    subst this
    exact r_take_end h ⟨fun _ => h0 1 a _ _ (kn_0 hlt), fun h9 => absurd (show nI 1 = 0 from h9) (by decide)⟩
