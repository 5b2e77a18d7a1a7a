/-! the parse: states and single steps -/
def cp (σ : cS) (f a : Int32) : cS := (va_up (va_up σ.1 3 f) 5 a, σ.2)
def rp (τ : rS) (a r s : Int32) : rS := (va_up (va_up (va_up τ.1 21 a) 23 r) 24 s, τ.2)
theorem cp_5 (σ : cS) (f a x : Int32) : sI (cp σ f a) 5 x = cp σ f x := by
  unfold sI cp
  have : va_up (va_up (va_up σ.1 3 f) 5 a) 5 x = va_up (va_up σ.1 3 f) 5 x := by
    funext j
    unfold va_up
    by_cases h : j = 5
    · simp [h]
    · simp [h]
  rw [this]
theorem cp_3 (σ : cS) (f a x : Int32) : sI (cp σ f a) 3 x = cp σ x a := by
  unfold sI cp
  have : va_up (va_up (va_up σ.1 3 f) 5 a) 3 x = va_up (va_up σ.1 3 x) 5 a := by
    funext j
    unfold va_up
    by_cases h : j = 5
    · subst h; rfl
    · by_cases h3 : j = 3
      · subst h3; rfl
      · simp [h, h3]
  rw [this]
theorem rp_21 (τ : rS) (a r s x : Int32) : rI (rp τ a r s) 21 x = rp τ x r s := by
  unfold rI rp
  have : va_up (va_up (va_up (va_up τ.1 21 a) 23 r) 24 s) 21 x = va_up (va_up (va_up τ.1 21 x) 23 r) 24 s := by
    funext j
    unfold va_up
    by_cases h1 : j = 24
    · subst h1; rfl
    · by_cases h2 : j = 23
      · subst h2; rfl
      · by_cases h3 : j = 21
        · subst h3; rfl
        · simp [h1, h2, h3]
  rw [this]
theorem rp_23_24 (τ : rS) (a r s x y : Int32) : rI (rI (rp τ a r s) 23 x) 24 y = rp τ a x y := by
  unfold rI rp
  have : va_up (va_up (va_up (va_up (va_up τ.1 21 a) 23 r) 24 s) 23 x) 24 y = va_up (va_up (va_up τ.1 21 a) 23 x) 24 y := by
    funext j
    unfold va_up
    by_cases h1 : j = 24
    · subst h1; rfl
    · by_cases h2 : j = 23
      · subst h2; rfl
      · simp [h1, h2]
  rw [this]
/-- what stays in the parse of class c: the end, the base, the bytes -/
def PB (b : Nat → Nat) (σ : cS) (τ : rS) (B : Nat → Nat) (e c : Nat) : Prop := (e ≤ 120) ∧ (c < 16) ∧ (σ.1 4 = nI e) ∧ (σ.2.2.2.1 0 = some (b 1)) ∧ (τ.1 20 = nI e) ∧ (τ.1 18 = nI c) ∧ (τ.1 19 = nI (120 * c)) ∧ (∀ i, i < e → σ.2.1 0 i = nI (B i)) ∧ (∀ i, i < e → τ.2 2 (120 * c + i) = nI (B i)) ∧ (∀ i, i < e → B i < 256)
theorem PB.he {b : Nat → Nat} {σ : cS} {τ : rS} {B : Nat → Nat} {e c : Nat} (h : PB b σ τ B e c) : e ≤ 120 := h.1
theorem PB.hc {b : Nat → Nat} {σ : cS} {τ : rS} {B : Nat → Nat} {e c : Nat} (h : PB b σ τ B e c) : c < 16 := h.2.1
theorem PB.ce {b : Nat → Nat} {σ : cS} {τ : rS} {B : Nat → Nat} {e c : Nat} (h : PB b σ τ B e c) : σ.1 4 = nI e := h.2.2.1
theorem PB.cb {b : Nat → Nat} {σ : cS} {τ : rS} {B : Nat → Nat} {e c : Nat} (h : PB b σ τ B e c) : σ.2.2.2.1 0 = some (b 1) := h.2.2.2.1
theorem PB.re {b : Nat → Nat} {σ : cS} {τ : rS} {B : Nat → Nat} {e c : Nat} (h : PB b σ τ B e c) : τ.1 20 = nI e := h.2.2.2.2.1
theorem PB.rn {b : Nat → Nat} {σ : cS} {τ : rS} {B : Nat → Nat} {e c : Nat} (h : PB b σ τ B e c) : τ.1 18 = nI c := h.2.2.2.2.2.1
theorem PB.rb {b : Nat → Nat} {σ : cS} {τ : rS} {B : Nat → Nat} {e c : Nat} (h : PB b σ τ B e c) : τ.1 19 = nI (120 * c) := h.2.2.2.2.2.2.1
theorem PB.by_c {b : Nat → Nat} {σ : cS} {τ : rS} {B : Nat → Nat} {e c : Nat} (h : PB b σ τ B e c) : ∀ i, i < e → σ.2.1 0 i = nI (B i) := h.2.2.2.2.2.2.2.1
theorem PB.by_r {b : Nat → Nat} {σ : cS} {τ : rS} {B : Nat → Nat} {e c : Nat} (h : PB b σ τ B e c) : ∀ i, i < e → τ.2 2 (120 * c + i) = nI (B i) := h.2.2.2.2.2.2.2.2.1
theorem PB.by_b {b : Nat → Nat} {σ : cS} {τ : rS} {B : Nat → Nat} {e c : Nat} (h : PB b σ τ B e c) : ∀ i, i < e → B i < 256 := h.2.2.2.2.2.2.2.2.2
theorem c_next_ok {b : Nat → Nat} {k : Nat → ClassId} {σ : cS} {τ : rS} {B : Nat → Nat} {e c a : Nat} (h : PB b σ τ B e c) (ha : a < e) {Q : Int32 → cS → Prop} (hQ : Q (nI (B a)) (cp σ 0 (nI (a + 1)))) : C_X3_next_w b k Q (cp σ 0 (nI a)) := by
  have he := h.he
  refine ⟨fun _ => ⟨fun _ t ht => ?_, fun h9 => ?_⟩, fun h9 => absurd rfl h9⟩
  · have ht : t = sI (cp σ 0 (nI a)) 5 (nI a + 1) := ht
    rw [nI_1, cp_5] at ht
    subst ht
    refine ⟨h.cb, ?_, ?_⟩
    · show vp_in (nI (a + 1) - 1) 120
      rw [nI_pred]; exact vp_in_nI (by omega) (by omega)
    · show Q (σ.2.1 0 (nI (a + 1) - 1).toNatClampNeg) _
      rw [nI_pred, nI_clamp (by omega), h.by_c a ha]
      exact hQ
  · have h9 : ¬ nI a < σ.1 4 := h9
    rw [h.ce] at h9
    exact absurd (nI_lt ha (by omega)) h9
theorem c_next_end {b : Nat → Nat} {k : Nat → ClassId} {σ : cS} {τ : rS} {B : Nat → Nat} {e c : Nat} (h : PB b σ τ B e c) {Q : Int32 → cS → Prop} (hQ : Q 0 (cp σ (nI (1000 + e)) (nI e))) : C_X3_next_w b k Q (cp σ 0 (nI e)) := by
  have he := h.he
  refine ⟨fun _ => ⟨fun h9 => ?_, fun _ t ht => ?_⟩, fun h9 => absurd rfl h9⟩
  · have h9 : nI e < σ.1 4 := h9
    rw [h.ce] at h9
    exact absurd h9 (nI_nlt (Nat.le_refl _) (by omega))
  · have ht : t = sI (cp σ 0 (nI e)) 3 ((1000 : Int32) + σ.1 4) := ht
    rw [h.ce, show (1000 : Int32) + nI e = nI (1000 + e) from nI_add 1000 e, cp_3] at ht
    subst ht
    exact hQ
theorem c_next_f {b : Nat → Nat} {k : Nat → ClassId} {σ : cS} {f a : Int32} (hf : ¬ f = 0) {Q : Int32 → cS → Prop} (hQ : Q 0 (cp σ f a)) : C_X3_next_w b k Q (cp σ f a) := ⟨fun h9 => absurd h9 hf, fun _ => hQ⟩
theorem c_ref_ok {b : Nat → Nat} {k : Nat → ClassId} {σ : cS} {r s : Nat} {a : Int32} {Q : cS → Prop} (hQ : Q (cp σ (nI (1000 * r + s)) a)) : C_X3_refuse_w b k Q (nI r) (nI s) (cp σ 0 a) := by
  refine ⟨fun h9 => absurd rfl h9, fun _ t ht => ?_⟩
  rw [show (1000 : Int32) * nI r + nI s = nI (1000 * r + s) by rw [show (1000 : Int32) = nI 1000 from rfl, pk_mul, nI_add], cp_3] at ht
  subst ht
  exact hQ
theorem c_ref_f {b : Nat → Nat} {k : Nat → ClassId} {σ : cS} {f a x y : Int32} (hf : ¬ f = 0) {Q : cS → Prop} (hQ : Q (cp σ f a)) : C_X3_refuse_w b k Q x y (cp σ f a) := ⟨fun _ => hQ, fun h9 => absurd h9 hf⟩
theorem r_fail_ok {τ : rS} {a s x y : Int32} {Q : rS → Prop} (hQ : Q (rp τ a x y)) : R_fail_w Q x y (rp τ a 0 s) := by
  refine ⟨fun h9 => absurd rfl h9, fun _ t ht t2 ht2 => ?_⟩
  subst ht
  rw [rp_23_24] at ht2
  subst ht2
  exact hQ
theorem r_fail_f {τ : rS} {a r s x y : Int32} (hr : ¬ r = 0) {Q : rS → Prop} (hQ : Q (rp τ a r s)) : R_fail_w Q x y (rp τ a r s) := ⟨fun _ => hQ, fun h9 => absurd h9 hr⟩
theorem r_take_ok {b : Nat → Nat} {σ : cS} {τ : rS} {B : Nat → Nat} {e c a : Nat} (h : PB b σ τ B e c) (ha : a < e) {s : Int32} {Q : Int32 → rS → Prop} (hQ : Q (nI (B a)) (rp τ (nI (a + 1)) 0 s)) : R_take_w Q (rp τ (nI a) 0 s) := by
  have he := h.he
  have hc := h.hc
  refine ⟨fun _ => ⟨fun _ => ?_, fun h9 => ?_⟩, fun h9 => absurd rfl h9⟩
  · show vp_in (τ.1 19 + nI a) 1920 ∧ ∀ v45 : Int32, v45 = τ.2 2 (τ.1 19 + nI a).toNatClampNeg → ∀ t53 : rS, t53 = rI (rp τ (nI a) 0 s) 21 (nI a + 1) → Q v45 t53
    rw [h.rb, nI_add, nI_clamp (by omega), h.by_r a ha, nI_1, rp_21]
    refine ⟨vp_in_nI (by omega) (by omega), fun v ev t et => ?_⟩
    subst ev
    subst et
    exact hQ
  · have h9 : ¬ nI a < τ.1 20 := h9
    rw [h.re] at h9
    exact absurd (nI_lt ha (by omega)) h9
theorem r_take_end {b : Nat → Nat} {σ : cS} {τ : rS} {B : Nat → Nat} {e c : Nat} (h : PB b σ τ B e c) {s : Int32} {Q : Int32 → rS → Prop} (hQ : Q 0 (rp τ (nI e) 1 (nI e))) : R_take_w Q (rp τ (nI e) 0 s) := by
  have he := h.he
  refine ⟨fun _ => ⟨fun h9 => ?_, fun _ => ?_⟩, fun h9 => absurd rfl h9⟩
  · have h9 : nI e < τ.1 20 := h9
    rw [h.re] at h9
    exact absurd h9 (nI_nlt (Nat.le_refl _) (by omega))
  · show R_fail_w _ 1 (τ.1 20) (rp τ (nI e) 0 s)
    rw [h.re]
    exact r_fail_ok hQ
theorem r_take_f {τ : rS} {a r s : Int32} (hr : ¬ r = 0) {Q : Int32 → rS → Prop} (hQ : Q 0 (rp τ a r s)) : R_take_w Q (rp τ a r s) := ⟨fun h9 => absurd h9 hr, fun _ => hQ⟩
