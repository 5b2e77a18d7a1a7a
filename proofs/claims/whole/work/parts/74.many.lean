/-! the parse: spec of a byte, of a number at most .. -/
def nx (B : Nat → Nat) (e a : Nat) : (Nat × Nat) ⊕ (Nat × Nat) := if a < e then .inl (B a, a + 1) else .inr (1, e)
def am (B : Nat → Nat) (e most a : Nat) : (Nat × Nat) ⊕ (Nat × Nat) := if a < e then (if B a ≤ most then .inl (B a, a + 1) else .inr (4, a)) else .inr (1, e)
theorem nx_1 {B : Nat → Nat} {e a : Nat} (h : a < e) : nx B e a = .inl (B a, a + 1) := if_pos h
theorem nx_0 {B : Nat → Nat} {e a : Nat} (h : ¬ a < e) : nx B e a = .inr (1, e) := if_neg h
theorem am_1 {B : Nat → Nat} {e most a : Nat} (h : a < e) (h2 : B a ≤ most) : am B e most a = .inl (B a, a + 1) := by unfold am; rw [if_pos h, if_pos h2]
theorem am_2 {B : Nat → Nat} {e most a : Nat} (h : a < e) (h2 : ¬ B a ≤ most) : am B e most a = .inr (4, a) := by unfold am; rw [if_pos h, if_neg h2]
theorem am_0 {B : Nat → Nat} {e most a : Nat} (h : ¬ a < e) : am B e most a = .inr (1, e) := by unfold am; rw [if_neg h]
theorem c_next {b : Nat → Nat} {k : Nat → ClassId} {σ : cS} {τ : rS} {B : Nat → Nat} {e c a : Nat} (h : PB b σ τ B e c) (ha : a ≤ e) {Q : Int32 → cS → Prop} (h1 : ∀ y a', nx B e a = .inl (y, a') → Q (nI y) (cp σ 0 (nI a'))) (h0 : ∀ r s, nx B e a = .inr (r, s) → Q 0 (cp σ (nI (1000 * r + s)) (nI a))) : C_X3_next_w b k Q (cp σ 0 (nI a)) := by
  by_cases hlt : a < e
  · exact c_next_ok h hlt (h1 _ _ (nx_1 hlt))
  · have : a = e := by omega
    subst this
    exact c_next_end h (h0 _ _ (nx_0 hlt))
theorem r_take {b : Nat → Nat} {σ : cS} {τ : rS} {B : Nat → Nat} {e c a : Nat} (h : PB b σ τ B e c) (ha : a ≤ e) {s0 : Int32} {Q : Int32 → rS → Prop} (h1 : ∀ y a', nx B e a = .inl (y, a') → Q (nI y) (rp τ (nI a') 0 s0)) (h0 : ∀ r s, nx B e a = .inr (r, s) → Q 0 (rp τ (nI a) (nI r) (nI s))) : R_take_w Q (rp τ (nI a) 0 s0) := by
  by_cases hlt : a < e
  · exact r_take_ok h hlt (h1 _ _ (nx_1 hlt))
  · have : a = e := by omega
    subst this
    exact r_take_end h (h0 _ _ (nx_0 hlt))
theorem c_am {b : Nat → Nat} {k : Nat → ClassId} {σ : cS} {τ : rS} {B : Nat → Nat} {e c a most : Nat} (h : PB b σ τ B e c) (ha : a ≤ e) (hm : most < 256) {Q : Int32 → cS → Prop} (h1 : ∀ y a', am B e most a = .inl (y, a') → Q (nI y) (cp σ 0 (nI a'))) (h0 : ∀ r s a', a' ≤ e → am B e most a = .inr (r, s) → Q 0 (cp σ (nI (1000 * r + s)) (nI a'))) : C_X3_readAtMost_w b k Q (nI most) (cp σ 0 (nI a)) := by
  intro v ev
  have ev : v = nI a := ev
  subst ev
  by_cases hlt : a < e
  · have hB := h.by_b a hlt
    refine c_next_ok h hlt ⟨fun h9 => ?_, fun h9 => ?_⟩
    · exact h1 _ _ (am_1 hlt ((nI_leI (by omega) (by omega)).mp h9))
    · exact c_ref_ok (r := 4) (s := a) (h0 4 a (a + 1) (by omega) (am_2 hlt (fun h8 => h9 ((nI_leI (by omega) (by omega)).mpr h8))))
  · have : a = e := by omega
    subst this
    exact c_next_end h ⟨fun _ => h0 1 a a (Nat.le_refl _) (am_0 hlt), fun h9 => absurd (nI_pos' (by omega)) h9⟩
theorem c_am_f {b : Nat → Nat} {k : Nat → ClassId} {σ : cS} {f a : Int32} {most : Nat} (hf : ¬ f = 0) (hm : most < 256) {Q : Int32 → cS → Prop} (hQ : Q 0 (cp σ f a)) : C_X3_readAtMost_w b k Q (nI most) (cp σ f a) := by
  intro v ev
  exact c_next_f hf ⟨fun _ => hQ, fun h9 => absurd (nI_pos' (by omega)) h9⟩
theorem r_many {b : Nat → Nat} {σ : cS} {τ : rS} {B : Nat → Nat} {e c a most : Nat} (h : PB b σ τ B e c) (ha : a ≤ e) (hm : most < 256) {s0 : Int32} {Q : Int32 → rS → Prop} (h1 : ∀ y a', am B e most a = .inl (y, a') → Q (nI y) (rp τ (nI a') 0 s0)) (h0 : ∀ r s a', am B e most a = .inr (r, s) → Q 0 (rp τ a' (nI r) (nI s))) : R_many_w Q (nI most) (rp τ (nI a) 0 s0) := by
  intro v ev
  have ev : v = nI a := ev
  subst ev
  by_cases hlt : a < e
  · have hB := h.by_b a hlt
    refine r_take_ok h hlt ⟨fun h9 => ?_, fun h9 => ?_⟩
    · exact ⟨fun h8 => absurd rfl h8, fun _ => h1 _ _ (am_1 hlt ((nI_leI (by omega) (by omega)).mp h9))⟩
    · exact r_fail_ok ⟨fun _ => h0 4 a _ (am_2 hlt (fun h8 => h9 ((nI_leI (by omega) (by omega)).mpr h8))), fun h8 => absurd (show nI 4 = 0 from h8) (by decide)⟩
  · have : a = e := by omega
    subst this
    exact r_take_end h ⟨fun _ => ⟨fun _ => h0 1 a _ (am_0 hlt), fun h8 => absurd (show nI 1 = 0 from h8) (by decide)⟩, fun h9 => absurd (nI_pos' (by omega)) h9⟩
theorem r_many_f {τ : rS} {a r s : Int32} {most : Nat} (hr : ¬ r = 0) (hm : most < 256) {Q : Int32 → rS → Prop} (hQ : Q 0 (rp τ a r s)) : R_many_w Q (nI most) (rp τ a r s) := by
  intro v ev
  exact r_take_f hr ⟨fun _ => ⟨fun _ => hQ, fun h8 => absurd h8 hr⟩, fun h9 => absurd (nI_pos' (by omega)) h9⟩
