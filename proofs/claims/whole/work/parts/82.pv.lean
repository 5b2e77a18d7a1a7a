/-! the parse: values, on bytes -/
def nms (B : Nat → Nat) (e K : Nat) (S : Nat → Nat) (named : Bool) (st : St) : St := match named with
  | true => (lk (kn B e K S 1) st).2
  | false => st
def pps (V N : St → St) : Nat → St → St
  | 0, st => st
  | n + 1, st => pps V N n (V (N st))
def ppc (V N : St → St) (p : Option Nat × St) : St := pps V N (p.1.getD 0) p.2
def pv (B : Nat → Nat) (e K : Nat) (S : Nat → Nat) : Nat → St → St
  | 0 => fun st => match st with
    | .inl a => if a < e then .inr (7, a) else .inr (1, e)
    | .inr q => .inr q
  | r + 1 => fun st => match st with
    | .inl a => if a < e then
        if B a = 73 then (lk (kn B e K S 3) (.inl (a + 1))).2
        else if B a = 115 then (lk (kn B e K S 1) (.inl (a + 1))).2
        else if B a = 99 then (lk (kn B e K S 7) (.inl (a + 1))).2
        else if B a = 91 then ppc (pv B e K S r) (nms B e K S false) (lk (am B e 4) (.inl (a + 1)))
        else if B a = 64 then ppc (pv B e K S r) (nms B e K S true) (lk (am B e 4) (lk (kn B e K S 7) (.inl (a + 1))).2)
        else .inr (3, a)
      else .inr (1, e)
    | .inr q => .inr q
theorem pv_f (B : Nat → Nat) (e K : Nat) (S : Nat → Nat) (r : Nat) (q : Nat × Nat) : pv B e K S r (.inr q) = .inr q := by cases r <;> rfl
theorem nms_f (B : Nat → Nat) (e K : Nat) (S : Nat → Nat) (nd : Bool) (q : Nat × Nat) : nms B e K S nd (.inr q) = .inr q := by cases nd <;> rfl
/-- a step on places: faults stay, places grow -/
def stp (e m : Nat) (V : St → St) : Prop := (∀ q, V (.inr q) = .inr q) ∧ ∀ a a', a ≤ e → V (.inl a) = .inl a' → a + m ≤ a' ∧ a' ≤ e
theorem stp_nms (B : Nat → Nat) (e K : Nat) (S : Nat → Nat) (nd : Bool) : stp e 0 (nms B e K S nd) := by
  refine ⟨nms_f B e K S nd, fun a a' ha h => ?_⟩
  cases nd with
  | false => cases h; omega
  | true =>
    obtain ⟨a1, v, e1, h1, -⟩ := lk_ok h
    cases e1
    have := (gd_kn B e K S 1 a ha).1 _ _ h1
    omega
theorem stp_pps {e m : Nat} {V N : St → St} (hV : stp e m V) (hN : stp e 0 N) : ∀ n, stp e (m * n) (pps V N n) := by
  intro n
  induction n with
  | zero => exact ⟨fun _ => rfl, fun a a' ha h => by cases h; omega⟩
  | succ n ih =>
    refine ⟨fun q => ?_, fun a a' ha h => ?_⟩
    · show pps V N n (V (N (.inr q))) = .inr q
      rw [hN.1, hV.1]; exact ih.1 q
    · have h : pps V N n (V (N (.inl a))) = .inl a' := h
      cases h1 : N (.inl a) with
      | inr q => rw [h1, hV.1, ih.1] at h; cases h
      | inl a1 =>
        have g1 := hN.2 a a1 ha h1
        rw [h1] at h
        cases h2 : V (.inl a1) with
        | inr q => rw [h2, ih.1] at h; cases h
        | inl a2 =>
          have g2 := hV.2 a1 a2 g1.2 h2
          rw [h2] at h
          have g3 := ih.2 a2 a' g2.2 h
          rw [Nat.mul_succ]
          omega
theorem stp_ppc {e m : Nat} {V N : St → St} (hV : stp e m V) (hN : stp e 0 N) {B : Nat → Nat} {most : Nat} : stp e 1 (fun st => ppc V N (lk (am B e most) st)) := by
  refine ⟨fun q => rfl, fun a a' ha h => ?_⟩
  have h : pps V N ((lk (am B e most) (.inl a)).1.getD 0) (lk (am B e most) (.inl a)).2 = .inl a' := h
  cases h1 : am B e most a with
  | inr q => rw [lk_0 h1] at h; cases h
  | inl p =>
    rw [lk_1 (v := p.1) (a' := p.2) h1] at h
    have g1 := (gd_am B e most a ha).1 p.1 p.2 h1
    have g2 := (stp_pps hV hN p.1).2 p.2 a' g1.2 h
    omega
theorem stp_pv (B : Nat → Nat) (e K : Nat) (S : Nat → Nat) : ∀ r, stp e 1 (pv B e K S r) := by
  intro r
  induction r with
  | zero =>
    refine ⟨pv_f B e K S 0, fun a a' ha h => ?_⟩
    have h : (if a < e then (.inr (7, a) : St) else .inr (1, e)) = .inl a' := h
    by_cases h1 : a < e
    · rw [if_pos h1] at h; cases h
    · rw [if_neg h1] at h; cases h
  | succ r ih =>
    refine ⟨pv_f B e K S (r + 1), fun a a' ha h => ?_⟩
    simp only [pv] at h
    by_cases h1 : a < e
    · rw [if_pos h1] at h
      have kg : ∀ s, (lk (kn B e K S s) (.inl (a + 1))).2 = .inl a' → a + 1 ≤ a' ∧ a' ≤ e := by
        intro s h
        obtain ⟨a1, v, e1, h1, -⟩ := lk_ok h
        cases e1
        have := (gd_kn B e K S s (a + 1) (by omega)).1 _ _ h1
        omega
      by_cases h2 : B a = 73
      · rw [if_pos h2] at h; exact kg 3 h
      rw [if_neg h2] at h
      by_cases h2 : B a = 115
      · rw [if_pos h2] at h; exact kg 1 h
      rw [if_neg h2] at h
      by_cases h2 : B a = 99
      · rw [if_pos h2] at h; exact kg 7 h
      rw [if_neg h2] at h
      by_cases h2 : B a = 91
      · rw [if_pos h2] at h
        have := (stp_ppc ih (stp_nms B e K S false) (B := B) (most := 4)).2 (a + 1) a' (by omega) h
        omega
      rw [if_neg h2] at h
      by_cases h2 : B a = 64
      · rw [if_pos h2] at h
        have g := stp_ppc ih (stp_nms B e K S true) (B := B) (most := 4)
        cases h3 : (lk (kn B e K S 7) (.inl (a + 1))).2 with
        | inr q => rw [h3] at h; cases h
        | inl a1 =>
          rw [h3] at h
          obtain ⟨a0, v, e1, h1, -⟩ := lk_ok h3
          cases e1
          have g1 := (gd_kn B e K S 7 (a + 1) (by omega)).1 _ _ h1
          have := g.2 a1 a' g1.2 h
          omega
      rw [if_neg h2] at h
      cases h
    · rw [if_neg h1] at h; cases h
/-- cells that a value, that parts may take -/
def wv (e : Nat) : St → St → Nat
  | .inl a, .inl a' => 4 * (a' - a)
  | .inl a, .inr _ => 4 * (e - a) + 4
  | .inr _, _ => 1
def wpp (e : Nat) : St → St → Nat
  | .inl a, .inl a' => 4 * (a' - a)
  | .inl a, .inr _ => 4 * (e - a) + 6
  | .inr _, _ => 3
