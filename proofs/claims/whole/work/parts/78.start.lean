/-! the parse: the two first bytes, class side -/
def sta (B : Nat → Nat) (e due a : Nat) : (Nat × Nat) ⊕ (Nat × Nat) := if a < e then (if B a = due then .inl (due, a + 1) else .inr (2, a)) else .inr (1, e)
theorem c_sta {b : Nat → Nat} {k : Nat → ClassId} {σ : cS} {τ : rS} {B : Nat → Nat} {e c a due : Nat} (h : PB b σ τ B e c) (ha : a ≤ e) (hd : 1 ≤ due) (hd2 : due < 256) {Q : cS → Prop} (h1 : ∀ y a', sta B e due a = .inl (y, a') → Q (cp σ 0 (nI a'))) (h0 : ∀ r s a', a' ≤ e → sta B e due a = .inr (r, s) → Q (cp σ (nI (1000 * r + s)) (nI a'))) : C_X3_readStart_w b k Q (nI due) (cp σ 0 (nI a)) := by
  intro v ev
  have ev : v = nI a := ev
  subst ev
  have he := h.he
  by_cases hlt : a < e
  · have hB := h.by_b a hlt
    refine c_next_ok h hlt ⟨fun h9 => ?_, fun h9 => ?_⟩
    · have hb : B a = due := (nI_eq (by omega) (by omega)).mp h9
      exact h1 due (a + 1) (by unfold sta; rw [if_pos hlt, if_pos hb])
    · have hb : ¬ B a = due := fun h8 => h9 (by rw [h8])
      exact c_ref_ok (r := 2) (s := a) (h0 2 a (a + 1) (by omega) (by unfold sta; rw [if_pos hlt, if_neg hb]))
  · have : a = e := by omega
    subst this
    exact c_next_end h ⟨fun h9 => absurd h9.symm (nI_ne0 (by omega) (by omega)), fun _ => c_ref_f (nI_f (r := 1) (s := a) (by omega) (by omega) (by omega)) (h0 1 a a (Nat.le_refl _) (by unfold sta; rw [if_neg hlt]))⟩
theorem c_sta_f {b : Nat → Nat} {k : Nat → ClassId} {σ : cS} {f a : Int32} {due : Nat} (hf : ¬ f = 0) (hd : 1 ≤ due) (hd2 : due < 256) {Q : cS → Prop} (hQ : Q (cp σ f a)) : C_X3_readStart_w b k Q (nI due) (cp σ f a) := by
  intro v ev
  exact c_next_f hf ⟨fun h9 => absurd h9.symm (nI_ne0 (by omega) (by omega)), fun _ => c_ref_f hf hQ⟩
