/-! the class's search -/
def ck (σ : cS) (qu qd : Nat → Int32) : cS := (σ.1, va_up (va_up σ.2.1 4 qu) 5 qd, σ.2.2)
theorem ck_5 {σ : cS} {qu qd : Nat → Int32} {i : Nat} (hi : i < 2 ^ 31) (x : Int32) : sA (ck σ qu qd) 5 (nI i) x = ck σ qu (upd qd i x) := by
  unfold sA ck
  rw [nI_clamp hi]
  show (σ.1, va_up (va_up (va_up σ.2.1 4 qu) 5 qd) 5 (upd qd i x), σ.2.2) = _
  rw [bx_uu]
theorem ck_4 {σ : cS} {qu qd : Nat → Int32} {i : Nat} (hi : i < 2 ^ 31) (x : Int32) : sA (ck σ qu qd) 4 (nI i) x = ck σ (upd qu i x) qd := by
  unfold sA ck
  rw [nI_clamp hi]
  show (σ.1, va_up (va_up (va_up σ.2.1 4 qu) 5 qd) 4 (upd qu i x), σ.2.2) = _
  have : va_up (va_up (va_up σ.2.1 4 qu) 5 qd) 4 (upd qu i x) = va_up (va_up σ.2.1 4 (upd qu i x)) 5 qd := by
    funext j
    unfold va_up
    by_cases h4 : j = 4
    · subst h4; rfl
    · rw [if_neg h4, if_neg h4, if_neg h4]
  rw [this]
theorem ck_self (σ : cS) : ck σ (σ.2.1 4) (σ.2.1 5) = σ := by
  unfold ck
  have : va_up (va_up σ.2.1 4 (σ.2.1 4)) 5 (σ.2.1 5) = σ.2.1 := by
    funext j
    unfold va_up
    by_cases h5 : j = 5
    · rw [if_pos h5, h5]
    · rw [if_neg h5]
      by_cases h4 : j = 4
      · rw [if_pos h4, h4]
      · rw [if_neg h4]
  rw [this]
/-- what the relation gives of class c's direct types: the class's row, the reference's -/
theorem cf_dir {b : Nat → Nat} {k : Nat → ClassId} {σ : cS} {τ : rS} (hR : Rel b k σ τ) (ty : Bool) {C T c : Nat} (hC : C ≤ 16) (hT : T ≤ 192) (eC : τ.1 3 = nI C) (eT : τ.1 5 = nI T) (hc : c < C) : okC τ c ∧ (∀ s, dirR τ ty c s → s < T) ∧ ∃ (q a m : Nat) (f : Nat → Int32), pX σ.2.2.2.2 (σ.2.2.1 c) 0 q ∧ pR σ.2.2.2.2 (some q) 0 (if ty = true then 7 else 6) (some a) ∧ pA σ.2.2.2.2 (some a) (k 0) m f ∧ m ≤ 5 ∧ (∀ i, i < m → ∃ s, s < T ∧ f i = nI s) ∧ ∀ s, dirR τ ty c s ↔ s < 192 ∧ ∃ i, i < m ∧ f i = nI s := by
  obtain ⟨-, C', T', hC', hT', -, e2, -, e4, -, -, -, -, hcf⟩ := hR
  have : C' = C := (nI_eq (by omega) (by omega)).mp (e2.symm.trans eC)
  subst this
  have : T' = T := (nI_eq (by omega) (by omega)).mp (e4.symm.trans eT)
  subst this
  obtain ⟨q, j, aA, aD, aS, aT, eo, hj, -, hab, -, ⟨nF, jS, fS, hnF, eF, hF, hS⟩, ⟨nA, jA, jT, fT, vs, hnA, eA, -, hjT, hAn⟩, -⟩ := hcf c hc
  have hok : okC τ c := by
    refine ⟨by omega, ⟨nF, hnF, eF, fun i hi => ?_⟩, ?_, nA, hnA, eA, fun i hi => ?_⟩
    · obtain ⟨s, hs, e⟩ := hF i hi
      exact ⟨s, by omega, e⟩
    · rcases hab with h9 | ⟨s, hs, e⟩
      · exact Or.inl h9
      · exact Or.inr ⟨s, by omega, e⟩
    · obtain ⟨p, p', κ, s, n, pp, q1, q2, q3, q4, q5, q6, q7, q8, -⟩ := hAn i hi
      exact ⟨p, κ, s, by omega, q6, by omega, q1, q4, q8⟩
  refine ⟨hok, ?_⟩
  cases ty with
  | true =>
    have hD : ∀ s, dirR τ true c s ↔ s < 192 ∧ ∃ i, i < nA ∧ fT i = nI s := by
      intro s
      constructor
      · rintro ⟨i, n', p, κ, hi, hn4, en, e1, hp, e2, hκ, e3, hs⟩
        have : nA = n' := (nI_eq (by omega) (by omega)).mp (eA.symm.trans en)
        subst this
        obtain ⟨p2, p', κ2, s2, n, pp, q1, q2, q3, q4, q5, q6, q7, q8, q9, -⟩ := hAn i hi
        have : p = p2 := (nI_eq (by omega) (by omega)).mp (e1.symm.trans q1)
        subst this
        have : κ = κ2 := (nI_eq (by omega) (by omega)).mp (e2.symm.trans q4)
        subst this
        exact ⟨hs, i, hi, q9.trans (q8.symm.trans e3)⟩
      · rintro ⟨hs, i, hi, e⟩
        obtain ⟨p2, p', κ2, s2, n, pp, q1, q2, q3, q4, q5, q6, q7, q8, q9, -⟩ := hAn i hi
        exact ⟨i, nA, p2, κ2, hi, hnA, eA, q1, by omega, q4, q6, q8.trans (q9.symm.trans e), hs⟩
    have hT2 : ∀ i, i < nA → ∃ s, s < T' ∧ fT i = nI s := fun i hi => by
      obtain ⟨p2, p', κ2, s2, n, pp, q1, q2, q3, q4, q5, q6, q7, q8, q9, -⟩ := hAn i hi
      exact ⟨s2, q7, q9⟩
    refine ⟨fun s hs => ?_, q, aT, nA, fT, ⟨eo, j, _, hj⟩, ⟨q, j, _, rfl, hj, rfl⟩, ⟨aT, jT, rfl, hjT⟩, by omega, hT2, hD⟩
    obtain ⟨h9, i, hi, e⟩ := (hD s).mp hs
    obtain ⟨s2, hs2, e'⟩ := hT2 i hi
    have : s = s2 := (nI_eq (by omega) (by omega)).mp (e.symm.trans e')
    omega
  | false =>
    obtain ⟨m, f, hm, hjS, hf, hff⟩ : ∃ (m : Nat) (f : Nat → Int32), m ≤ 5 ∧ σ.2.2.2.2[jS]? = some (aS, .inl (k 0, m, .inl f)) ∧ (∀ i, i < m → ∃ s, s < T' ∧ f i = nI s) ∧ ∀ s, dirR τ false c s ↔ s < 192 ∧ ∃ i, i < m ∧ f i = nI s := by
      rcases hS with ⟨ea, hj2, hfs⟩ | ⟨ea, hj2, h0, hfs⟩
      · refine ⟨nF, fS, by omega, hj2, fun i hi => ?_, fun s => ⟨?_, ?_⟩⟩
        · obtain ⟨s, hs, e⟩ := hF i hi
          exact ⟨s, hs, (hfs i hi).trans e⟩
        · rintro (⟨e, hs⟩ | ⟨i, n', hi, hn4, en, e, hs⟩)
          · rw [ea] at e
            exact absurd (show ((-1 : Int32)) < 0 by decide) (by rw [e]; exact nI_pos (by omega))
          · have : nF = n' := (nI_eq (by omega) (by omega)).mp (eF.symm.trans en)
            subst this
            exact ⟨hs, i, hi, (hfs i hi).trans e⟩
        · rintro ⟨hs, i, hi, e⟩
          exact Or.inr ⟨i, nF, hi, hnF, eF, (hfs i hi).symm.trans e, hs⟩
      · have hs0 : ∃ s, s < T' ∧ τ.2 11 c = nI s := by
          rcases hab with h9 | h9
          · exact absurd h9 ea
          · exact h9
        obtain ⟨s0, hs0, es0⟩ := hs0
        refine ⟨nF + 1, fS, by omega, hj2, fun i hi => ?_, fun s => ⟨?_, ?_⟩⟩
        · cases i with
          | zero => exact ⟨s0, hs0, h0.trans es0⟩
          | succ i =>
            obtain ⟨s, hs, e⟩ := hF i (by omega)
            exact ⟨s, hs, (hfs i (by omega)).trans e⟩
        · rintro (⟨e, hs⟩ | ⟨i, n', hi, hn4, en, e, hs⟩)
          · exact ⟨hs, 0, by omega, h0.trans e⟩
          · have : nF = n' := (nI_eq (by omega) (by omega)).mp (eF.symm.trans en)
            subst this
            exact ⟨hs, i + 1, by omega, (hfs i hi).trans e⟩
        · rintro ⟨hs, i, hi, e⟩
          cases i with
          | zero => exact Or.inl ⟨h0.symm.trans e, hs⟩
          | succ i => exact Or.inr ⟨i, nF, by omega, hnF, eF, (hfs i (by omega)).symm.trans e, hs⟩
    refine ⟨fun s hs => ?_, q, aS, m, f, ⟨eo, j, _, hj⟩, ⟨q, j, _, rfl, hj, rfl⟩, ⟨aS, jS, rfl, hjS⟩, hm, hf, hff⟩
    obtain ⟨h9, i, hi, e⟩ := (hff s).mp hs
    obtain ⟨s2, hs2, e'⟩ := hf i hi
    have : s = s2 := (nI_eq (by omega) (by omega)).mp (e.symm.trans e')
    omega
/-- the queue: its classes are reached, and marked as queued -/
def bI (τ : rS) (ty : Bool) (C c : Nat) (qu qd : Nat → Int32) (e : Nat) : Prop := 1 ≤ e ∧ e + cz qd 16 ≤ 16 ∧ (∀ d, d < 16 → bit (qd d)) ∧ qu 0 = nI c ∧ (∀ a, a < e → ∃ d, d < C ∧ qu a = nI d ∧ qd d = 1 ∧ (d = c ∨ ∃ u, u < 192 ∧ τ.2 10 d = nI u ∧ Reach τ ty C c u)) ∧ ∀ d, d < 16 → qd d = 1 → ∃ a, a < e ∧ qu a = nI d
/-- text s was looked at: it isn't t, and its class is queued -/
def bS (τ : rS) (C t : Nat) (qd : Nat → Int32) (s : Nat) : Prop := s ≠ t ∧ ∀ e', e' < C → τ.2 10 e' = nI s → qd e' = 1
theorem bI_add {τ : rS} {ty : Bool} {C c : Nat} {qu qd : Nat → Int32} {e : Nat} (hC : C ≤ 16) (h : bI τ ty C c qu qd e) {x u : Nat} (hx : x < C) (hz : qd x = 0) (eu : τ.2 10 x = nI u) (hu : u < 192) (hr : Reach τ ty C c u) : bI τ ty C c (upd qu e (nI x)) (upd qd x 1) (e + 1) ∧ e < 16 := by
  obtain ⟨h1, h2, h3, h4, h5, h6⟩ := h
  have hcz : cz (upd qd x 1) 16 + 1 ≤ cz qd 16 := cz_lt 16 (fun s _ h9 => by
    by_cases e9 : s = x
    · rw [e9, pk_us]; decide
    · rw [pk_un e9]; exact h9) ⟨x, by omega, hz, by rw [pk_us]; decide⟩
  refine ⟨⟨by omega, by omega, fun d hd => ?_, ?_, fun a ha => ?_, fun d hd hq => ?_⟩, by omega⟩
  · by_cases e9 : d = x
    · rw [e9, pk_us]; exact Or.inr rfl
    · rw [pk_un e9]; exact h3 d hd
  · rw [pk_un (by omega)]; exact h4
  · by_cases e9 : a = e
    · subst e9
      exact ⟨x, hx, pk_us, pk_us, Or.inr ⟨u, hu, eu, hr⟩⟩
    · obtain ⟨d, hd, q1, q2, q3⟩ := h5 a (by omega)
      refine ⟨d, hd, by rw [pk_un e9]; exact q1, ?_, q3⟩
      by_cases e8 : d = x
      · rw [e8]; exact pk_us
      · rw [pk_un e8]; exact q2
  · by_cases e9 : d = x
    · exact ⟨e, by omega, by rw [e9]; exact pk_us⟩
    · rw [pk_un e9] at hq
      obtain ⟨a, ha, q⟩ := h6 d hd hq
      exact ⟨a, by omega, by rw [pk_un (by omega)]; exact q⟩
theorem bS_up {τ : rS} {C t : Nat} {qd : Nat → Int32} {s x : Nat} (h : bS τ C t qd s) : bS τ C t (upd qd x 1) s := ⟨h.1, fun e' he h9 => by
  by_cases e9 : e' = x
  · rw [e9]; exact pk_us
  · rw [pk_un e9]; exact h.2 e' he h9⟩
