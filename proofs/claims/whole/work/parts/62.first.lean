theorem pigeon_M (f : Nat → Nat) (C : Nat) : ∀ n : Nat, (∀ i, i < n → f i < C) → (∀ i j, i < n → j < n → f i = f j → i = j) → ∃ M : Nat → Int32, n + cz M C ≤ C ∧ ∀ x, M x ≠ 0 → ∃ i, i < n ∧ x = f i := by
  intro n
  induction n with
  | zero => intro _ _; exact ⟨fun _ => 0, by have := cz_le (fun _ => 0) C; omega, fun x h => absurd rfl h⟩
  | succ n ih =>
    intro h1 h2
    obtain ⟨M, hM, hx⟩ := ih (fun i hi => h1 i (by omega)) (fun i j hi hj => h2 i j (by omega) (by omega))
    have hz : M (f n) = 0 := by
      by_cases h9 : M (f n) = 0
      · exact h9
      · obtain ⟨i, hi, e⟩ := hx _ h9
        have := h2 n i (Nat.lt_succ_self _) (by omega) e
        omega
    have := cz_lt (M := M) (M' := upd M (f n) 1) C (fun s _ h9 => by
      by_cases e : s = f n
      · rw [e, pk_us]; decide
      · rw [pk_un e]; exact h9) ⟨f n, h1 n (Nat.lt_succ_self _), hz, by rw [pk_us]; decide⟩
    refine ⟨upd M (f n) 1, by omega, fun x h9 => ?_⟩
    by_cases e : x = f n
    · exact ⟨n, Nat.lt_succ_self _, e⟩
    · rw [pk_un e] at h9
      obtain ⟨i, hi, e2⟩ := hx x h9
      exact ⟨i, by omega, e2⟩
theorem pigeon {f : Nat → Nat} {C n : Nat} (h1 : ∀ i, i < n → f i < C) (h2 : ∀ i j, i < n → j < n → f i = f j → i = j) : n ≤ C := by
  obtain ⟨M, hM, -⟩ := pigeon_M f C n h1 h2
  omega
/-- a walk along sup from c -/
def chn (sup : Nat → Option Nat) (c : Nat) : Nat → Option Nat
  | 0 => some c
  | n + 1 => (chn sup c n).bind sup
theorem chn_add {sup : Nat → Option Nat} {c : Nat} {a b : Nat} (h : chn sup c a = chn sup c b) : ∀ n, chn sup c (a + n) = chn sup c (b + n) := by
  intro n
  induction n with
  | zero => exact h
  | succ n ih => show (chn sup c (a + n)).bind sup = (chn sup c (b + n)).bind sup; rw [ih]
theorem chn_back {sup : Nat → Option Nat} {c : Nat} : ∀ (n m d : Nat), chn sup c (n + m) = some d → ∃ e, chn sup c n = some e := by
  intro n m
  induction m with
  | zero => intro d h; exact ⟨d, h⟩
  | succ m ih =>
    intro d h
    have h : (chn sup c (n + m)).bind sup = some d := h
    cases h9 : chn sup c (n + m) with
    | none => rw [h9] at h; cases h
    | some e => exact ih e h9
/-- what the walk meets at all it meets in C steps -/
theorem chn_cover {sup : Nat → Option Nat} {c C : Nat} (hc : c < C) (hs : ∀ d e, d < C → sup d = some e → e < C) {i d : Nat} (h : chn sup c i = some d) : ∃ j, j < C ∧ chn sup c j = some d := by
  have hlt : ∀ n e, chn sup c n = some e → e < C := by
    intro n
    induction n with
    | zero => intro e h9; cases h9; exact hc
    | succ n ih =>
      intro e h9
      have h9 : (chn sup c n).bind sup = some e := h9
      cases h8 : chn sup c n with
      | none => rw [h8] at h9; cases h9
      | some e' => rw [h8] at h9; exact hs e' e (ih e' h8) h9
  obtain ⟨j, hj, hmin⟩ := pk_least (fun j => chn sup c j = some d) ⟨i, h⟩
  refine ⟨j, ?_, hj⟩
  have hdef : ∀ n, n < j + 1 → ∃ e, chn sup c n = some e := fun n hn => by
    have : j = n + (j - n) := by omega
    rw [this] at hj
    exact chn_back n (j - n) d hj
  have hf : ∀ n, n < j + 1 → chn sup c n = some ((chn sup c n).getD 0) := fun n hn => by
    obtain ⟨e, he⟩ := hdef n hn
    rw [he]; rfl
  have := pigeon (f := fun n => (chn sup c n).getD 0) (C := C) (n := j + 1) (fun n hn => hlt n _ (hf n hn)) (fun a b ha hb hab => ?_)
  · omega
  · have e : chn sup c a = chn sup c b := by rw [hf a ha, hf b hb]; exact congrArg some hab
    rcases Nat.lt_trichotomy a b with h9 | h9 | h9
    · exfalso
      have := chn_add e (j - b)
      rw [show b + (j - b) = j by omega, hj] at this
      exact hmin (a + (j - b)) (by omega) this
    · exact h9
    · exfalso
      have := chn_add e (j - a)
      rw [show a + (j - a) = j by omega, hj] at this
      exact hmin (b + (j - a)) (by omega) this.symm
theorem c_isAnn {b : Nat → Nat} {k : Nat → ClassId} {q : Nat} {Q : Int32 → cS → Prop} {σ : cS} {x s : Int32} {pp : Option Nat} (h : vo σ.2.2.2.2 (some q) 5 s pp) (h1 : s = x → Q 1 σ) (h0 : ¬ s = x → Q 0 σ) : C_X5_isAnnotationOf_w b k q Q x σ := by
  obtain ⟨q', j, e, hj⟩ := h
  cases e
  exact ⟨5, ⟨q, j, _, rfl, hj, rfl⟩, fun h9 => absurd rfl h9, fun _ => ⟨s, ⟨q, j, _, rfl, hj, rfl⟩, fun h9 => ⟨zb0, h0 h9⟩, fun h9 => ⟨zb1, h1 h9⟩⟩⟩
/-- the first annotation of type t of class d: in both, at the same place -/
theorem both_first {b : Nat → Nat} {k : Nat → ClassId} {σ : cS} {τ : rS} (hR : Rel b k σ τ) {C T d t : Nat} (hC : C ≤ 16) (hT : T ≤ 192) (eC : τ.1 3 = nI C) (eT : τ.1 5 = nI T) (hd : d < C) (ht : t < T) : ∃ q, pX σ.2.2.2.2 (σ.2.2.1 d) 0 q ∧ ((∃ (i p p' n : Nat) (o pp : Option Nat), i < 4 ∧ o ≠ none ∧ (∀ Q, Q o σ → C_X0_firstAnnotation_w b k q Q (nI t) σ) ∧ (∀ Q, Q (nI i) τ → R_firstNote_w Q (nI d) (nI t) τ) ∧ τ.2 16 (4 * d + i) = nI p ∧ p' ≤ 1920 ∧ p + 2 ≤ p' ∧ τ.2 2 (p + 1) = nI n ∧ vo σ.2.2.2.2 o 5 (nI t) pp ∧ vParts (vw k (b 14) σ.2.2.2.2 T (τ.2 2) (fun κ => τ.2 8 (13 * d + κ)) (fun κ => τ.2 7 (13 * d + κ)) 4) k σ.2.2.2.2 T (τ.2 2) (fun κ => τ.2 8 (13 * d + κ)) true pp n (p + 2) p') ∨ ((∀ Q, Q none σ → C_X0_firstAnnotation_w b k q Q (nI t) σ) ∧ ∀ Q, Q (-1) τ → R_firstNote_w Q (nI d) (nI t) τ)) := by
  obtain ⟨-, C', T', hC', hT', -, e2, -, e4, -, -, -, -, hcf⟩ := hR
  have : C' = C := (nI_eq (by omega) (by omega)).mp (e2.symm.trans eC)
  subst this
  have : T' = T := (nI_eq (by omega) (by omega)).mp (e4.symm.trans eT)
  subst this
  obtain ⟨q, j, aA, aD, aS, aT, eo, hj, -, -, -, -, ⟨nA, jA, jT, fT, vs, hnA, eA, hjA, -, hAn⟩, -⟩ := hcf d hd
  have cd : (nI d).toNatClampNeg = d := nI_clamp (by omega)
  have hpR : pR σ.2.2.2.2 (some q) 0 4 (some aA) := ⟨q, j, _, rfl, hj, rfl⟩
  have hpQ : pQ σ.2.2.2.2 (some aA) (k 3) nA vs := ⟨aA, jA, rfl, hjA⟩
  refine ⟨q, ⟨eo, j, _, hj⟩, ?_⟩
  -- the class's loop, the reference's
  have cl : ∀ (Q : Option Nat → cS → Prop), (∀ i, i < nA → fT i = nI t → (∀ i', i' < i → fT i' ≠ nI t) → Q (vs i) σ) → ((∀ i, i < nA → fT i ≠ nI t) → Q none σ) → C_X0_firstAnnotation_w b k q Q (nI t) σ := by
    intro Q q1 q0
    refine fx_ex (C_X0_firstAnnotation_b2_f b k q Q) (fun z => ∃ i : Nat, i ≤ nA ∧ z = (nI t, nI i, σ) ∧ ∀ i', i' < i → fT i' ≠ nI t) (fun z => 5 - z.2.1.toNatClampNeg) ?_ _ ⟨0, by omega, rfl, fun i' h9 => absurd h9 (Nat.not_lt_zero _)⟩
    rintro K _ ⟨i, hi, rfl, hno⟩ hK
    show C_X0_firstAnnotation_b2_s b k q Q (fun x1 x2 σ => K (x1, x2, σ)) (nI t) (nI i) σ
    refine ⟨some aA, hpR, nA, vs, hpQ, fun h9 => ?_, fun h9 => ?_⟩
    · have : i = nA := by have := (nI_leI (a := nA) (b := i) (by omega) (by omega)).mp h9; omega
      subst this
      exact q0 hno
    · have hlt : i < nA := by
        rcases Nat.lt_or_ge i nA with h7 | h7
        · exact h7
        · exact absurd (nI_le (a := nA) h7 (by omega)) h9
      have ci : (nI i).toNatClampNeg = i := nI_clamp (by omega)
      have vi : vp_in (nI i) nA := vp_in_nI hlt (by omega)
      obtain ⟨p, p', κ, s, n, pp, w1, w2, w3, w4, w5, w6, w7, w8, w9, w10, w11, w12⟩ := hAn i hlt
      have w11' := w11
      obtain ⟨qa, ja, ea, hja⟩ := w11
      refine ⟨some aA, hpR, nA, vs, hpQ, vi, qa, ?_, c_isAnn (s := nI s) (pp := pp) ?_ (fun he => ⟨fun h7 => absurd h7 n1_ne0, fun _ => ⟨some aA, hpR, nA, vs, hpQ, vi, ?_⟩⟩) (fun hne => ⟨fun _ v ev => ?_, fun h7 => absurd rfl h7⟩)⟩
      · rw [ci]; exact ⟨ea, ja, _, hja⟩
      · rw [ea] at w11'; exact w11'
      · rw [ci]; exact q1 i hlt (w9.trans he) hno
      · rw [nI_1] at ev
        subst ev
        refine hK (nI t, nI (i + 1), σ) ⟨i + 1, hlt, rfl, fun i' hi' => ?_⟩ ?_
        · rcases Nat.lt_succ_iff_lt_or_eq.mp hi' with h7 | h7
          · exact hno i' h7
          · rw [h7, w9]; exact hne
        · show 5 - (nI (i + 1)).toNatClampNeg < 5 - (nI i).toNatClampNeg
          rw [nI_clamp (by omega), nI_clamp (by omega)]; omega
  have rl : ∀ (Q : Int32 → rS → Prop), (∀ i, i < nA → fT i = nI t → (∀ i', i' < i → fT i' ≠ nI t) → Q (nI i) τ) → ((∀ i, i < nA → fT i ≠ nI t) → Q (-1) τ) → R_firstNote_w Q (nI d) (nI t) τ := by
    intro Q q1 q0
    refine fx_ex (R_firstNote_b2_f Q) (fun z => ∃ i : Nat, i ≤ nA ∧ z = (nI d, nI t, nI i, τ) ∧ ∀ i', i' < i → fT i' ≠ nI t) (fun z => 5 - z.2.2.1.toNatClampNeg) ?_ _ ⟨0, by omega, rfl, fun i' h9 => absurd h9 (Nat.not_lt_zero _)⟩
    rintro K _ ⟨i, hi, rfl, hno⟩ hK
    show R_firstNote_b2_s Q (fun x1 x2 x3 σ => K (x1, x2, x3, σ)) (nI d) (nI t) (nI i) τ
    refine ⟨vp_in_nI (by omega) (by omega), fun h9 => ?_, fun h9 => ?_⟩
    · rw [cd, eA] at h9
      have : i = nA := by have := (nI_leI (a := nA) (b := i) (by omega) (by omega)).mp h9; omega
      subst this
      exact q0 hno
    · rw [cd, eA] at h9
      have hlt : i < nA := by
        rcases Nat.lt_or_ge i nA with h7 | h7
        · exact h7
        · exact absurd (nI_le (a := nA) h7 (by omega)) h9
      obtain ⟨p, p', κ, s, n, pp, w1, w2, w3, w4, w5, w6, w7, w8, w9, w10, w11, w12⟩ := hAn i hlt
      refine r_typeOf (p := p) (κ := κ) (s := s) (by omega) (by omega) (by omega) w6 w1 w4 w8 ⟨fun hne v ev => ?_, fun he => q1 i hlt (w9.trans he) hno⟩
      rw [nI_1] at ev
      subst ev
      refine hK (nI d, nI t, nI (i + 1), τ) ⟨i + 1, hlt, rfl, fun i' hi' => ?_⟩ ?_
      · rcases Nat.lt_succ_iff_lt_or_eq.mp hi' with h7 | h7
        · exact hno i' h7
        · rw [h7, w9]; exact hne
      · show 5 - (nI (i + 1)).toNatClampNeg < 5 - (nI i).toNatClampNeg
        rw [nI_clamp (by omega), nI_clamp (by omega)]; omega
  by_cases hex : ∃ i, i < nA ∧ fT i = nI t
  · obtain ⟨i, ⟨hi, ei⟩, hmin⟩ := pk_least (fun i => i < nA ∧ fT i = nI t) hex
    have hfirst : ∀ i', i' < i → fT i' ≠ nI t := fun i' h9 e9 => hmin i' h9 ⟨by omega, e9⟩
    have huniq : ∀ i2, i2 < nA → fT i2 = nI t → (∀ i', i' < i2 → fT i' ≠ nI t) → i2 = i := fun i2 h9 e9 hl => by
      rcases Nat.lt_trichotomy i2 i with h7 | h7 | h7
      · exact absurd e9 (hfirst i2 h7)
      · exact h7
      · exact absurd ei (hl i h7)
    obtain ⟨p, p', κ, s, n, pp, w1, w2, w3, w4, w5, w6, w7, w8, w9, w10, w11, w12⟩ := hAn i hi
    have est : s = t := (nI_eq (by omega) (by omega)).mp (w9.symm.trans ei)
    subst est
    refine Or.inl ⟨i, p, p', n, vs i, pp, by omega, ?_, fun Q h9 => cl Q (fun i2 a1 a2 a3 => by rw [huniq i2 a1 a2 a3]; exact h9) (fun h8 => absurd ei (h8 i hi)), fun Q h9 => rl Q (fun i2 a1 a2 a3 => by rw [huniq i2 a1 a2 a3]; exact h9) (fun h8 => absurd ei (h8 i hi)), w1, w2, w3, w10, w11, w12⟩
    obtain ⟨qa, ja, ea, -⟩ := w11
    rw [ea]; exact fun h9 => by cases h9
  · exact Or.inr ⟨fun Q h9 => cl Q (fun i2 a1 a2 _ => absurd ⟨i2, a1, a2⟩ hex) (fun _ => h9), fun Q h9 => rl Q (fun i2 a1 a2 _ => absurd ⟨i2, a1, a2⟩ hex) (fun _ => h9)⟩
