/-! the parse as a run of steps: a place, or a fault -/
abbrev St : Type := Nat ⊕ (Nat × Nat)
def lk (f : Nat → (Nat × Nat) ⊕ (Nat × Nat)) : St → Option Nat × St
  | .inl a => match f a with
    | .inl p => (some p.1, .inl p.2)
    | .inr q => (none, .inr q)
  | .inr q => (none, .inr q)
theorem lk_1 {f : Nat → (Nat × Nat) ⊕ (Nat × Nat)} {a v a' : Nat} (h : f a = .inl (v, a')) : lk f (.inl a) = (some v, .inl a') := by simp only [lk, h]
theorem lk_0 {f : Nat → (Nat × Nat) ⊕ (Nat × Nat)} {a : Nat} {q : Nat × Nat} (h : f a = .inr q) : lk f (.inl a) = (none, .inr q) := by simp only [lk, h]
theorem lk_ok {f : Nat → (Nat × Nat) ⊕ (Nat × Nat)} {st : St} {a' : Nat} (h : (lk f st).2 = .inl a') : ∃ a v, st = .inl a ∧ f a = .inl (v, a') ∧ (lk f st).1 = some v := by
  cases st with
  | inl a =>
    cases e : f a with
    | inl p =>
      rw [lk_1 (v := p.1) (a' := p.2) e] at h ⊢
      cases h
      exact ⟨a, p.1, rfl, e, rfl⟩
    | inr q => rw [lk_0 e] at h; cases h
  | inr q => cases h
def gd (e : Nat) (f : Nat → (Nat × Nat) ⊕ (Nat × Nat)) : Prop := ∀ a, a ≤ e → (∀ v a', f a = .inl (v, a') → a < a' ∧ a' ≤ e) ∧ ∀ r u, f a = .inr (r, u) → 1 ≤ r ∧ r ≤ 9 ∧ u ≤ e
def isC (σ : cS) (e : Nat) (st : St) (X : cS) : Prop := match st with
  | .inl a => a ≤ e ∧ X = cp σ 0 (nI a)
  | .inr q => (1 ≤ q.1 ∧ q.1 ≤ 9 ∧ q.2 ≤ e) ∧ ∃ a, a ≤ e ∧ X = cp σ (nI (1000 * q.1 + q.2)) (nI a)
def isR (τ : rS) (e : Nat) (st : St) (X : rS) : Prop := match st with
  | .inl a => a ≤ e ∧ ∃ s0, X = rp τ (nI a) 0 s0
  | .inr q => (1 ≤ q.1 ∧ q.1 ≤ 9 ∧ q.2 ≤ e) ∧ ∃ a, X = rp τ a (nI q.1) (nI q.2)
theorem gd_nx (B : Nat → Nat) (e : Nat) : gd e (nx B e) := by
  intro a ha
  unfold nx
  by_cases h : a < e
  · rw [if_pos h]
    exact ⟨fun v a' e9 => by cases e9; omega, fun r u e9 => by cases e9⟩
  · rw [if_neg h]
    exact ⟨fun v a' e9 => (by cases e9), fun r u e9 => by cases e9; omega⟩
theorem gd_am (B : Nat → Nat) (e m : Nat) : gd e (am B e m) := by
  intro a ha
  unfold am
  by_cases h : a < e
  · rw [if_pos h]
    by_cases h2 : B a ≤ m
    · rw [if_pos h2]
      exact ⟨fun v a' e9 => by cases e9; omega, fun r u e9 => by cases e9⟩
    · rw [if_neg h2]
      exact ⟨fun v a' e9 => (by cases e9), fun r u e9 => by cases e9; omega⟩
  · rw [if_neg h]
    exact ⟨fun v a' e9 => (by cases e9), fun r u e9 => by cases e9; omega⟩
theorem gd_kn (B : Nat → Nat) (e K : Nat) (S : Nat → Nat) (s : Nat) : gd e (kn B e K S s) := by
  intro a ha
  unfold kn
  by_cases h : a < e
  · rw [if_pos h]
    by_cases h2 : 1 ≤ B a ∧ B a ≤ K ∧ S (B a) = s
    · rw [if_pos h2]
      exact ⟨fun v a' e9 => by cases e9; omega, fun r u e9 => by cases e9⟩
    · rw [if_neg h2]
      exact ⟨fun v a' e9 => (by cases e9), fun r u e9 => by cases e9; omega⟩
  · rw [if_neg h]
    exact ⟨fun v a' e9 => (by cases e9), fun r u e9 => by cases e9; omega⟩
theorem gd_con (B : Nat → Nat) (e K : Nat) (S : Nat → Nat) : gd e (con B e K S) := by
  intro a ha
  by_cases h : a < e ∧ B a = 0
  · rw [con_0 h.1 h.2]
    exact ⟨fun v a' e9 => by cases e9; omega, fun r u e9 => by cases e9⟩
  · rw [con_1 h]
    exact gd_kn B e K S 7 a ha
theorem gd_sta (B : Nat → Nat) (e due : Nat) : gd e (sta B e due) := by
  intro a ha
  unfold sta
  by_cases h : a < e
  · rw [if_pos h]
    by_cases h2 : B a = due
    · rw [if_pos h2]
      exact ⟨fun v a' e9 => by cases e9; omega, fun r u e9 => by cases e9⟩
    · rw [if_neg h2]
      exact ⟨fun v a' e9 => (by cases e9), fun r u e9 => by cases e9; omega⟩
  · rw [if_neg h]
    exact ⟨fun v a' e9 => (by cases e9), fun r u e9 => by cases e9; omega⟩
theorem am_B {B : Nat → Nat} {e m a v a' : Nat} (h : am B e m a = .inl (v, a')) : a < e ∧ v = B a ∧ B a ≤ m ∧ a' = a + 1 := by
  unfold am at h
  by_cases h1 : a < e
  · rw [if_pos h1] at h
    by_cases h2 : B a ≤ m
    · rw [if_pos h2] at h; cases h; exact ⟨h1, rfl, h2, rfl⟩
    · rw [if_neg h2] at h; cases h
  · rw [if_neg h1] at h; cases h
theorem kn_B {B : Nat → Nat} {e K : Nat} {S : Nat → Nat} {s a v a' : Nat} (h : kn B e K S s a = .inl (v, a')) : a < e ∧ v = B a ∧ 1 ≤ B a ∧ B a ≤ K ∧ S (B a) = s ∧ a' = a + 1 := by
  unfold kn at h
  by_cases h1 : a < e
  · rw [if_pos h1] at h
    by_cases h2 : 1 ≤ B a ∧ B a ≤ K ∧ S (B a) = s
    · rw [if_pos h2] at h; cases h; exact ⟨h1, rfl, h2.1, h2.2.1, h2.2.2, rfl⟩
    · rw [if_neg h2] at h; cases h
  · rw [if_neg h1] at h; cases h
theorem nx_B {B : Nat → Nat} {e a v a' : Nat} (h : nx B e a = .inl (v, a')) : a < e ∧ v = B a ∧ a' = a + 1 := by
  unfold nx at h
  by_cases h1 : a < e
  · rw [if_pos h1] at h; cases h; exact ⟨h1, rfl, rfl⟩
  · rw [if_neg h1] at h; cases h
def nv (σ : cS) : Option Nat → Int32
  | some κ => σ.2.1 7 κ
  | none => -1
theorem nI_fq {q : Nat × Nat} {e : Nat} (he : e ≤ 120) (h : 1 ≤ q.1 ∧ q.1 ≤ 9 ∧ q.2 ≤ e) : ¬ nI (1000 * q.1 + q.2) = 0 := nI_f h.1 h.2.1 (by omega)
theorem nI_rq {q : Nat × Nat} {e : Nat} (h : 1 ≤ q.1 ∧ q.1 ≤ 9 ∧ q.2 ≤ e) : ¬ nI q.1 = 0 := nI_ne0 (by omega) (by omega)
theorem C_am {b : Nat → Nat} {k : Nat → ClassId} {σ : cS} {τ : rS} {B : Nat → Nat} {e c most : Nat} (h : PB b σ τ B e c) (hm : most < 256) {st : St} {X : cS} (hX : isC σ e st X) {Q : Int32 → cS → Prop} (hQ : ∀ X', isC σ e (lk (am B e most) st).2 X' → Q (nI ((lk (am B e most) st).1.getD 0)) X') : C_X3_readAtMost_w b k Q (nI most) X := by
  cases st with
  | inl a =>
    obtain ⟨ha, rfl⟩ := hX
    refine c_am h ha hm (fun y a' e9 => ?_) (fun r s a' ha' e9 => ?_)
    · rw [lk_1 e9] at hQ
      exact hQ _ ⟨((gd_am B e most a ha).1 _ _ e9).2, rfl⟩
    · rw [lk_0 e9] at hQ
      exact hQ _ ⟨(gd_am B e most a ha).2 _ _ e9, a', ha', rfl⟩
  | inr q =>
    obtain ⟨hq, a, ha, rfl⟩ := hX
    exact c_am_f (nI_fq h.he hq) hm (hQ _ ⟨hq, a, ha, rfl⟩)
theorem C_kn {b : Nat → Nat} {k : Nat → ClassId} {σ : cS} {τ : rS} {B : Nat → Nat} {e c K s : Nat} {S : Nat → Nat} {st : St} (h : PB b σ τ B e c) (hK : ∀ a, st = .inl a → TB σ τ c K S) (hs : okS s) {X : cS} (hX : isC σ e st X) {Q : Int32 → cS → Prop} (hQ : ∀ X', isC σ e (lk (kn B e K S s) st).2 X' → Q (nv σ (lk (kn B e K S s) st).1) X') : C_X3_readConstant_w b k Q (nI (kk s)) X := by
  cases st with
  | inl a =>
    obtain ⟨ha, rfl⟩ := hX
    refine c_kn h (hK a rfl) ha hs (fun y a' e9 => ?_) (fun r s a' ha' e9 => ?_)
    · rw [lk_1 e9] at hQ
      exact hQ _ ⟨((gd_kn B e K S _ a ha).1 _ _ e9).2, rfl⟩
    · rw [lk_0 e9] at hQ
      exact hQ _ ⟨(gd_kn B e K S _ a ha).2 _ _ e9, a', ha', rfl⟩
  | inr q =>
    obtain ⟨hq, a, ha, rfl⟩ := hX
    exact c_kn_f (nI_fq h.he hq) (hQ _ ⟨hq, a, ha, rfl⟩)
def nv0 (σ : cS) : Option Nat → Int32
  | some 0 => -1
  | some κ => σ.2.1 7 κ
  | none => -1
theorem C_con {b : Nat → Nat} {k : Nat → ClassId} {σ : cS} {τ : rS} {B : Nat → Nat} {e c K : Nat} {S : Nat → Nat} {st : St} (h : PB b σ τ B e c) (hK : ∀ a, st = .inl a → TB σ τ c K S) {X : cS} (hX : isC σ e st X) {Q : Int32 → cS → Prop} (hQ : ∀ X', isC σ e (lk (con B e K S) st).2 X' → Q (nv0 σ (lk (con B e K S) st).1) X') : C_X3_readClassOrNone_w b k Q X := by
  cases st with
  | inl a =>
    obtain ⟨ha, rfl⟩ := hX
    refine c_con h (hK a rfl) ha (fun a' e9 => ?_) (fun κ a' hκ e9 => ?_) (fun r s a' ha' e9 => ?_)
    · rw [lk_1 e9] at hQ
      exact hQ _ ⟨((gd_con B e K S a ha).1 _ _ e9).2, rfl⟩
    · rw [lk_1 e9] at hQ
      have := hQ _ ⟨((gd_con B e K S a ha).1 _ _ e9).2, rfl⟩
      cases κ with
      | zero => omega
      | succ κ => exact this
    · rw [lk_0 e9] at hQ
      exact hQ _ ⟨(gd_con B e K S a ha).2 _ _ e9, a', ha', rfl⟩
  | inr q =>
    obtain ⟨hq, a, ha, rfl⟩ := hX
    exact c_con_f h (nI_fq h.he hq) ha (fun a' ha' => hQ _ ⟨hq, a', ha', rfl⟩)
theorem C_sta {b : Nat → Nat} {k : Nat → ClassId} {σ : cS} {τ : rS} {B : Nat → Nat} {e c due : Nat} (h : PB b σ τ B e c) (hd : 1 ≤ due) (hd2 : due < 256) {st : St} {X : cS} (hX : isC σ e st X) {Q : cS → Prop} (hQ : ∀ X', isC σ e (lk (sta B e due) st).2 X' → Q X') : C_X3_readStart_w b k Q (nI due) X := by
  cases st with
  | inl a =>
    obtain ⟨ha, rfl⟩ := hX
    refine c_sta h ha hd hd2 (fun y a' e9 => ?_) (fun r s a' ha' e9 => ?_)
    · rw [lk_1 e9] at hQ
      exact hQ _ ⟨((gd_sta B e due a ha).1 _ _ e9).2, rfl⟩
    · rw [lk_0 e9] at hQ
      exact hQ _ ⟨(gd_sta B e due a ha).2 _ _ e9, a', ha', rfl⟩
  | inr q =>
    obtain ⟨hq, a, ha, rfl⟩ := hX
    exact c_sta_f (nI_fq h.he hq) hd hd2 (hQ _ ⟨hq, a, ha, rfl⟩)
theorem R_am {b : Nat → Nat} {σ : cS} {τ : rS} {B : Nat → Nat} {e c most : Nat} (h : PB b σ τ B e c) (hm : most < 256) {st : St} {X : rS} (hX : isR τ e st X) {Q : Int32 → rS → Prop} (hQ : ∀ X', isR τ e (lk (am B e most) st).2 X' → Q (nI ((lk (am B e most) st).1.getD 0)) X') : R_many_w Q (nI most) X := by
  cases st with
  | inl a =>
    obtain ⟨ha, s0, rfl⟩ := hX
    refine r_many h ha hm (fun y a' e9 => ?_) (fun r s a' e9 => ?_)
    · rw [lk_1 e9] at hQ
      exact hQ _ ⟨((gd_am B e most a ha).1 _ _ e9).2, s0, rfl⟩
    · rw [lk_0 e9] at hQ
      exact hQ _ ⟨(gd_am B e most a ha).2 _ _ e9, a', rfl⟩
  | inr q =>
    obtain ⟨hq, a, rfl⟩ := hX
    exact r_many_f (nI_rq hq) hm (hQ _ ⟨hq, a, rfl⟩)
theorem R_kn {b : Nat → Nat} {σ : cS} {τ : rS} {B : Nat → Nat} {e c K s : Nat} {S : Nat → Nat} {st : St} (h : PB b σ τ B e c) (hK : ∀ a, st = .inl a → TB σ τ c K S) (hs : okS s) {X : rS} (hX : isR τ e st X) {Q : Int32 → rS → Prop} (hQ : ∀ v X', isR τ e (lk (kn B e K S s) st).2 X' → (∀ κ, (lk (kn B e K S s) st).1 = some κ → v = nI κ) → Q v X') : R_constant_w Q (nI s) X := by
  cases st with
  | inl a =>
    obtain ⟨ha, s0, rfl⟩ := hX
    refine r_kn h (hK a rfl) ha hs (fun y a' e9 => ?_) (fun r s v a' e9 => ?_)
    · rw [lk_1 e9] at hQ
      exact hQ _ _ ⟨((gd_kn B e K S _ a ha).1 _ _ e9).2, s0, rfl⟩ (fun κ e8 => by cases e8; rfl)
    · rw [lk_0 e9] at hQ
      exact hQ _ _ ⟨(gd_kn B e K S _ a ha).2 _ _ e9, a', rfl⟩ (fun κ e8 => by cases e8)
  | inr q =>
    obtain ⟨hq, a, rfl⟩ := hX
    exact r_kn_f (nI_rq hq) (hQ _ _ ⟨hq, a, rfl⟩ (fun κ e8 => by cases e8))
theorem R_con {b : Nat → Nat} {σ : cS} {τ : rS} {B : Nat → Nat} {e c K : Nat} {S : Nat → Nat} {st : St} (h : PB b σ τ B e c) (hK : ∀ a, st = .inl a → TB σ τ c K S) {X : rS} (hX : isR τ e st X) {Q : Int32 → rS → Prop} (hQ : ∀ v X', isR τ e (lk (con B e K S) st).2 X' → (∀ κ, (lk (con B e K S) st).1 = some κ → v = nI κ) → Q v X') : R_classOrNone_w Q X := by
  cases st with
  | inl a =>
    obtain ⟨ha, s0, rfl⟩ := hX
    refine r_con h (hK a rfl) ha (fun y a' e9 => ?_) (fun r s v a' e9 => ?_)
    · rw [lk_1 e9] at hQ
      exact hQ _ _ ⟨((gd_con B e K S a ha).1 _ _ e9).2, s0, rfl⟩ (fun κ e8 => by cases e8; rfl)
    · rw [lk_0 e9] at hQ
      exact hQ _ _ ⟨(gd_con B e K S a ha).2 _ _ e9, a', rfl⟩ (fun κ e8 => by cases e8)
  | inr q =>
    obtain ⟨hq, a, rfl⟩ := hX
    exact r_con_f (nI_rq hq) (hQ _ _ ⟨hq, a, rfl⟩ (fun κ e8 => by cases e8))
