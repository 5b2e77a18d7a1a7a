/-! texts: the same text, the first such, a new one; both sides -/
def sm (yb : Nat → Int32) (x : Int32) (p : Nat) : Prop := ∃ P n : Nat, P < 1920 ∧ n ≤ 10 ∧ x = nI P ∧ yb P = nI n ∧ yb p = nI n ∧ ∀ i, i < n → yb (P + 1 + i) = yb (p + 1 + i)
/-- the first t' from t on, below t + n, that fits; or t + n -/
noncomputable def fsT (D : Nat → Prop) : Nat → Nat → Nat
  | 0, t => t
  | n + 1, t => @ite _ (D t) (Classical.propDecidable _) t (fsT D n (t + 1))
theorem fsT_1 {D : Nat → Prop} {n t : Nat} (h : D t) : fsT D (n + 1) t = t := if_pos h
theorem fsT_0 {D : Nat → Prop} {n t : Nat} (h : ¬ D t) : fsT D (n + 1) t = fsT D n (t + 1) := if_neg h
theorem fsT_le {D : Nat → Prop} : ∀ n t, t ≤ fsT D n t ∧ fsT D n t ≤ t + n := by
  intro n
  induction n with
  | zero => intro t; exact ⟨Nat.le_refl _, Nat.le_refl _⟩
  | succ n ih =>
    intro t
    by_cases h : D t
    · rw [fsT_1 h]; omega
    · rw [fsT_0 h]; have := ih (t + 1); omega
theorem fsT_D {D : Nat → Prop} : ∀ n t, fsT D n t < t + n → D (fsT D n t) := by
  intro n
  induction n with
  | zero => intro t h; exact absurd h (Nat.lt_irrefl _)
  | succ n ih =>
    intro t h
    by_cases hD : D t
    · rw [fsT_1 hD]; exact hD
    · rw [fsT_0 hD] at h ⊢; exact ih (t + 1) (by omega)
theorem fsT_n {D : Nat → Prop} : ∀ n t u, t ≤ u → u < fsT D n t → ¬ D u := by
  intro n
  induction n with
  | zero => intro t u h1 h2; have : u < t := h2; omega
  | succ n ih =>
    intro t u h1 h2
    by_cases hD : D t
    · rw [fsT_1 hD] at h2; omega
    · rw [fsT_0 hD] at h2
      rcases Nat.eq_or_lt_of_le h1 with h3 | h3
      · subst h3; exact hD
      · exact ih (t + 1) u h3 h2
theorem r_same {τ : rS} {P n p m : Nat} (hn : n ≤ 10) (hP : P + n < 1920) (hm : m ≤ 10) (hp : p + m < 1920) (e1 : τ.2 2 P = nI n) (e2 : τ.2 2 p = nI m) {Q : Int32 → rS → Prop} (h1 : sm (τ.2 2) (nI P) p → Q 1 τ) (h0 : ¬ sm (τ.2 2) (nI P) p → Q 0 τ) : R_sameText_w Q (nI P) (nI p) τ := by
  have cP : (nI P).toNatClampNeg = P := nI_clamp (by omega)
  have cp' : (nI p).toNatClampNeg = p := nI_clamp (by omega)
  have inv : sm (τ.2 2) (nI P) p → n = m ∧ ∀ i, i < n → τ.2 2 (P + 1 + i) = τ.2 2 (p + 1 + i) := by
    rintro ⟨P', n', hP', hn', eP, g1, g2, hall⟩
    have : P = P' := (nI_eq (by omega) (by omega)).mp eP
    subst this
    rw [e1] at g1
    have : n = n' := (nI_eq (by omega) (by omega)).mp g1
    subst this
    rw [e2] at g2
    have : m = n := (nI_eq (by omega) (by omega)).mp g2
    exact ⟨this.symm, hall⟩
  have lp : ∀ s : Int32, (s = 0 ∨ s = 1) → (s = 0 → ¬ sm (τ.2 2) (nI P) p) → (s = 1 → n = m) → R_sameText_b20 Q (nI P) (nI p) s τ := by
    intro s hs hs0 hs1
    refine fx_ex (R_sameText_b24_f Q) (fun z => ∃ (i : Nat) (s : Int32), z = (nI P, nI p, s, nI (i + 1), τ) ∧ i ≤ n ∧ ((s = 0 ∧ ¬ sm (τ.2 2) (nI P) p) ∨ (s = 1 ∧ n = m ∧ ∀ j, j < i → τ.2 2 (P + 1 + j) = τ.2 2 (p + 1 + j)))) (fun z => 12 - z.2.2.2.1.toNatClampNeg) ?_ _ ⟨0, s, rfl, Nat.zero_le _, ?_⟩
    · rintro K _ ⟨i, s, rfl, hi, hs⟩ hK
      show vp_in (nI P) 1920 ∧ ((τ.2 2 (nI P).toNatClampNeg) < nI (i + 1) → R_sameText_b72 Q s τ) ∧ (¬ (τ.2 2 (nI P).toNatClampNeg) < nI (i + 1) → (s = 0 → R_sameText_b72 Q s τ) ∧ (¬ s = 0 → vp_in (nI P + nI (i + 1)) 1920 ∧ vp_in (nI p + nI (i + 1)) 1920 ∧ (¬ (τ.2 2 (nI P + nI (i + 1)).toNatClampNeg) = (τ.2 2 (nI p + nI (i + 1)).toNatClampNeg) → R_sameText_b65 Q (fun x1 x2 x3 x4 σ => K (x1, x2, x3, x4, σ)) (nI P) (nI p) (nI (i + 1)) (0 : Int32) τ) ∧ ((τ.2 2 (nI P + nI (i + 1)).toNatClampNeg) = (τ.2 2 (nI p + nI (i + 1)).toNatClampNeg) → R_sameText_b65 Q (fun x1 x2 x3 x4 σ => K (x1, x2, x3, x4, σ)) (nI P) (nI p) (nI (i + 1)) (1 : Int32) τ)))
      rw [cP, e1]
      have fin0 : s = 0 → R_sameText_b72 Q s τ := by
        intro h9
        subst h9
        rcases hs with ⟨-, h8⟩ | ⟨h8, -⟩
        · exact ⟨zb0, h0 h8⟩
        · exact absurd h8.symm n1_ne0
      refine ⟨vp_in_nI (by omega) (by omega), fun h9 => ?_, fun h9 => ⟨fin0, fun h8 => ?_⟩⟩
      · have hin : i = n := by
          have := (nI_ltI (a := n) (b := i + 1) (by omega) (by omega)).mp h9
          omega
        rcases hs with ⟨h8, -⟩ | ⟨h8, h7, h6⟩
        · exact fin0 h8
        · subst h8
          exact ⟨zb1, h1 ⟨P, n, by omega, hn, rfl, e1, by rw [e2, h7], by rw [← hin]; exact h6⟩⟩
      · have hin : i < n := by
          rcases Nat.lt_or_ge i n with h7 | h7
          · exact h7
          · exact absurd (nI_lt (a := n) (b := i + 1) (by omega) (by omega)) h9
        rcases hs with ⟨h7, -⟩ | ⟨h7, h6, h5⟩
        · exact absurd h7 h8
        rw [nI_add, nI_add, nI_clamp (n := P + (i + 1)) (by omega), nI_clamp (n := p + (i + 1)) (by omega), show P + (i + 1) = P + 1 + i by omega, show p + (i + 1) = p + 1 + i by omega]
        have mu : 12 - (nI (i + 1 + 1)).toNatClampNeg < 12 - (nI (i + 1)).toNatClampNeg := by rw [nI_clamp (by omega), nI_clamp (by omega)]; omega
        refine ⟨vp_in_nI (by omega) (by omega), vp_in_nI (by omega) (by omega), fun h4 v ev => ?_, fun h4 v ev => ?_⟩
        · rw [nI_1] at ev
          subst ev
          exact hK (nI P, nI p, 0, nI (i + 1 + 1), τ) ⟨i + 1, 0, rfl, hin, Or.inl ⟨rfl, fun h3 => h4 ((inv h3).2 i hin)⟩⟩ mu
        · rw [nI_1] at ev
          subst ev
          refine hK (nI P, nI p, 1, nI (i + 1 + 1), τ) ⟨i + 1, 1, rfl, hin, Or.inr ⟨rfl, h6, fun j hj => ?_⟩⟩ mu
          rcases Nat.lt_or_ge j i with h3 | h3
          · exact h5 j h3
          · have : j = i := by omega
            subst this; exact h4
    · rcases hs with rfl | rfl
      · exact Or.inl ⟨rfl, hs0 rfl⟩
      · exact Or.inr ⟨rfl, hs1 rfl, fun j hj => absurd hj (Nat.not_lt_zero _)⟩
  show vp_in (nI P) 1920 ∧ vp_in (nI p) 1920 ∧ (¬ (τ.2 2 (nI P).toNatClampNeg) = (τ.2 2 (nI p).toNatClampNeg) → R_sameText_b20 Q (nI P) (nI p) (0 : Int32) τ) ∧ ((τ.2 2 (nI P).toNatClampNeg) = (τ.2 2 (nI p).toNatClampNeg) → R_sameText_b20 Q (nI P) (nI p) (1 : Int32) τ)
  rw [cP, cp', e1, e2]
  refine ⟨vp_in_nI (by omega) (by omega), vp_in_nI (by omega) (by omega), fun h9 => lp 0 (Or.inl rfl) (fun _ h8 => h9 (by rw [(inv h8).1])) (fun h8 => absurd h8.symm n1_ne0), fun h9 => lp 1 (Or.inr rfl) (fun h8 => absurd h8 n1_ne0) (fun _ => (nI_eq (by omega) (by omega)).mp h9)⟩
/-- texts of the reference stand in its bytes -/
def textP (T : Nat) (yb ta : Nat → Int32) : Prop := ∀ t, t < T → ∃ p n : Nat, n ≤ 10 ∧ p + n < 1920 ∧ ta t = nI p ∧ yb p = nI n
theorem r_number {τ : rS} {T p m : Nat} (hT : T < 192) (eT : τ.1 5 = nI T) (hx : textP T (τ.2 2) (τ.2 4)) (hm : m ≤ 10) (hp : p + m < 1920) (e2 : τ.2 2 p = nI m) {Q : Int32 → rS → Prop} (h1 : fsT (fun t => sm (τ.2 2) (τ.2 4 t) p) T 0 < T → Q (nI (fsT (fun t => sm (τ.2 2) (τ.2 4 t) p) T 0)) τ) (h0 : fsT (fun t => sm (τ.2 2) (τ.2 4 t) p) T 0 = T → Q (nI T) (rI (rA τ 4 (nI T) (nI p)) 5 (nI (T + 1)))) : R_number_w Q (nI p) τ := by
  refine fx_ex (R_number_b2_f Q) (fun z => ∃ t : Nat, z = (nI p, nI t, τ) ∧ t ≤ T ∧ fsT (fun t => sm (τ.2 2) (τ.2 4 t) p) (T - t) t = fsT (fun t => sm (τ.2 2) (τ.2 4 t) p) T 0) (fun z => 200 - z.2.1.toNatClampNeg) ?_ _ ⟨0, rfl, Nat.zero_le _, rfl⟩
  rintro K _ ⟨t, rfl, ht, hf⟩ hK
  show ((τ.1 5) ≤ nI t → _) ∧ (¬ (τ.1 5) ≤ nI t → vp_in (nI t) 192 ∧ R_sameText_w (fun r18 t18 => (r18 = 0 → ∀ v26 : Int32, v26 = nI t + (1 : Int32) → K (nI p, v26, t18)) ∧ (¬ r18 = 0 → Q (nI t) t18)) (τ.2 4 (nI t).toNatClampNeg) (nI p) τ)
  refine ⟨fun h9 => ?_, fun h9 => ?_⟩
  · rw [eT] at h9 ⊢
    have hte : t = T := by
      have := (nI_leI (a := T) (b := t) (by omega) (by omega)).mp h9
      omega
    subst hte
    rw [Nat.sub_self] at hf
    refine ⟨vp_in_nI hT (by omega), fun t41 e41 t49 e49 => ?_⟩
    have e5 : t41.1 5 = nI t := by rw [e41]; exact eT
    rw [e5, nI_1, e41] at e49
    subst e49
    show Q (nI (t + 1) - 1) _
    rw [nI_pred]
    exact h0 hf.symm
  · rw [eT] at h9
    have hlt : t < T := by
      rcases Nat.lt_or_ge t T with h7 | h7
      · exact h7
      · exact absurd (nI_le h7 (by omega)) h9
    obtain ⟨P, n, hn, hPn, eP, en⟩ := hx t hlt
    rw [nI_clamp (by omega), eP]
    refine ⟨vp_in_nI (by omega) (by omega), r_same hn hPn hm hp en e2 (fun h8 => ⟨fun h7 => absurd h7 n1_ne0, fun _ => ?_⟩) (fun h8 => ⟨fun _ v ev => ?_, fun h7 => absurd rfl h7⟩)⟩
    · have : fsT (fun t => sm (τ.2 2) (τ.2 4 t) p) T 0 = t := by
        rw [← hf, show T - t = (T - (t + 1)) + 1 by omega]
        exact fsT_1 (by show sm (τ.2 2) (τ.2 4 t) p; rw [eP]; exact h8)
      rw [this] at h1
      exact h1 hlt
    · rw [nI_1] at ev
      subst ev
      refine hK (nI p, nI (t + 1), τ) ⟨t + 1, rfl, hlt, ?_⟩ ?_
      · rw [← hf, show T - t = (T - (t + 1)) + 1 by omega, fsT_0 (by show ¬ sm (τ.2 2) (τ.2 4 t) p; rw [eP]; exact h8)]
      · show 200 - (nI (t + 1)).toNatClampNeg < 200 - (nI t).toNatClampNeg
        rw [nI_clamp (by omega), nI_clamp (by omega)]; omega
theorem sm_eq {T : Nat} {lt ln yb ta : Nat → Int32} (hR : textR T lt ln yb ta) (hD : textD T lt ln) {p t u : Nat} (ht : t < T) (hu : u < T) (h1 : sm yb (ta t) p) (h2 : sm yb (ta u) p) : t = u := by
  obtain ⟨P1, n1, w1, w2, w3, w4, w5, w6⟩ := h1
  obtain ⟨P2, n2, v1, v2, v3, v4, v5, v6⟩ := h2
  have : n1 = n2 := (nI_eq (by omega) (by omega)).mp (by rw [← w5, ← v5])
  subst this
  obtain ⟨p1, m1, x1, x2, x3, x4, x5, x6⟩ := hR t ht
  obtain ⟨p2, m2, y1, y2, y3, y4, y5, y6⟩ := hR u hu
  have q1 : P1 = p1 := (nI_eq (by omega) (by omega)).mp (by rw [← w3, ← x3])
  have q2 : P2 = p2 := (nI_eq (by omega) (by omega)).mp (by rw [← v3, ← y3])
  subst q1
  subst q2
  have z1 : n1 = m1 := (nI_eq (by omega) (by omega)).mp (by rw [← w4, ← x4])
  have z2 : n1 = m2 := (nI_eq (by omega) (by omega)).mp (by rw [← v4, ← y4])
  subst z1
  subst z2
  refine hD t u n1 ht hu x5 y5 (fun i hi => ?_)
  obtain ⟨s1, -, -, s2, s3⟩ := x6 i hi
  obtain ⟨s4, -, -, s5, s6⟩ := y6 i hi
  rw [s3, s6, ← s2, ← s5, w6 i hi, v6 i hi]
