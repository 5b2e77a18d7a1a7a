/-! value: elements by name, values by number -/
theorem po_mono {po : Nat → Nat} {n : Nat} (h : ∀ i, i < n → po i ≤ po (i + 1)) : ∀ i, i ≤ n → po i ≤ po n := by
  intro i hi
  have : ∀ a, i + a ≤ n → po i ≤ po (i + a) := by
    intro a
    induction a with
    | zero => intro _; exact Nat.le_refl _
    | succ a ih =>
      intro ha
      have h1 := ih (by omega)
      have h2 := h (i + a) (by omega)
      rw [show i + (a + 1) = i + a + 1 by omega]
      omega
  have := this (n - i) (by omega)
  rwa [show i + (n - i) = n by omega] at this
set_option maxRecDepth 100000 in
set_option maxHeartbeats 2000000 in
/-- the first element of a name -/
theorem both_named {b : Nat → Nat} {k : Nat → ClassId} {σ : cS} {τ : rS} {T d p p' n : Nat} {pp : Option Nat} (hT : T ≤ 192) (hd : d < 16) (hp : p' ≤ 1920) (ep : τ.2 2 p = nI n) (h : vParts (vw k (b 14) σ.2.2.2.2 T (τ.2 2) (fun κ => τ.2 8 (13 * d + κ)) (fun κ => τ.2 7 (13 * d + κ)) 4) k σ.2.2.2.2 T (τ.2 2) (fun κ => τ.2 8 (13 * d + κ)) true pp n (p + 1) p') (x : Int32) : ∃ (q : Nat) (o : Option Nat) (y : Int32), pX σ.2.2.2.2 pp 2 q ∧ (∀ Q, Q o σ → C_X2_firstNamed_w b k q Q x σ) ∧ (∀ Q l0 m0, (∀ l m, Q y (bk τ l m)) → R_lookUp_w Q (nI d) (nI p) x (bk τ l0 m0)) ∧ ((o = none ∧ y = -1) ∨ (vp_in x T ∧ ∃ pv pv', y = nI pv ∧ pv' ≤ 1920 ∧ vw k (b 14) σ.2.2.2.2 T (τ.2 2) (fun κ => τ.2 8 (13 * d + κ)) (fun κ => τ.2 7 (13 * d + κ)) 4 pv o pv')) := by
  have hple := vParts_le (fun p o p' h => by have := vw_le _ _ _ _ h; omega) h
  obtain ⟨q, j, jn, jv, an, av, nm, vs, po, rfl, hj, hjn, hjv, hn4, e0, en, hall⟩ := h
  have hpA : pA σ.2.2.2.2 (some an) (k 0) n nm := ⟨an, jn, rfl, hjn⟩
  have hpQ : pQ σ.2.2.2.2 (some av) (k 3) n vs := ⟨av, jv, rfl, hjv⟩
  have hp0 : pR σ.2.2.2.2 (some q) 2 0 (some an) := ⟨q, j, _, rfl, hj, rfl⟩
  have hp1 : pR σ.2.2.2.2 (some q) 2 1 (some av) := ⟨q, j, _, rfl, hj, rfl⟩
  have hmono := po_mono (po := po) (n := n) (fun i hi => by have := vw_le _ _ _ _ ((hall i hi).1 rfl).2; omega)
  have cp : (nI p).toNatClampNeg = p := nI_clamp (by omega)
  have cl : ∀ (Q : Option Nat → cS → Prop), (∀ i, i < n → nm i = x → (∀ i', i' < i → nm i' ≠ x) → Q (vs i) σ) → ((∀ i, i < n → nm i ≠ x) → Q none σ) → C_X2_firstNamed_w b k q Q x σ := by
    intro Q q1 q0
    refine fx_ex (C_X2_firstNamed_b2_f b k q Q) (fun z => ∃ i : Nat, i ≤ n ∧ z = (x, nI i, σ) ∧ ∀ i', i' < i → nm i' ≠ x) (fun z => 5 - z.2.1.toNatClampNeg) ?_ _ ⟨0, by omega, rfl, fun i' h9 => absurd h9 (Nat.not_lt_zero _)⟩
    rintro K _ ⟨i, hi, rfl, hno⟩ hK
    show C_X2_firstNamed_b2_s b k q Q (fun x1 x2 σ => K (x1, x2, σ)) x (nI i) σ
    refine ⟨some an, hp0, n, nm, hpA, fun h9 => ?_, fun h9 => ?_⟩
    · have : i = n := by have := (nI_leI (a := n) (b := i) (by omega) (by omega)).mp h9; omega
      subst this
      exact q0 hno
    · have hlt : i < n := by
        rcases Nat.lt_or_ge i n with h7 | h7
        · exact h7
        · exact absurd (nI_le (a := n) h7 (by omega)) h9
      have ci : (nI i).toNatClampNeg = i := nI_clamp (by omega)
      have vi : vp_in (nI i) n := vp_in_nI hlt (by omega)
      refine ⟨some an, hp0, n, nm, hpA, vi, fun h8 v ev => ?_, fun h8 => ⟨some av, hp1, n, vs, hpQ, vi, ?_⟩⟩
      · rw [ci] at h8
        rw [nI_1] at ev
        subst ev
        refine hK (x, nI (i + 1), σ) ⟨i + 1, hlt, rfl, fun i' hi' => ?_⟩ ?_
        · rcases Nat.lt_succ_iff_lt_or_eq.mp hi' with h7 | h7
          · exact hno i' h7
          · rw [h7]; exact h8
        · show 5 - (nI (i + 1)).toNatClampNeg < 5 - (nI i).toNatClampNeg
          rw [nI_clamp (by omega), nI_clamp (by omega)]; omega
      · rw [ci] at h8
        rw [ci]
        exact q1 i hlt h8 hno
  have rl : ∀ (Q : Int32 → rS → Prop) (l0 m0 : Nat → Int32), (∀ i, i < n → nm i = x → (∀ i', i' < i → nm i' ≠ x) → ∀ l m, Q (nI (po i + 1)) (bk τ l m)) → ((∀ i, i < n → nm i ≠ x) → ∀ l m, Q (-1) (bk τ l m)) → R_lookUp_w Q (nI d) (nI p) x (bk τ l0 m0) := by
    intro Q l0 m0 q1 q0 v3 e3
    rw [nI_1, ← e0] at e3
    subst e3
    refine fx_ex (R_lookUp_b8_f Q) (fun z => ∃ (i : Nat) (l m : Nat → Int32), i ≤ n ∧ z = (nI d, nI p, x, nI (po i), nI i, bk τ l m) ∧ ∀ i', i' < i → nm i' ≠ x) (fun z => 5 - z.2.2.2.2.1.toNatClampNeg) ?_ _ ⟨0, l0, m0, by omega, rfl, fun i' h9 => absurd h9 (Nat.not_lt_zero _)⟩
    rintro K _ ⟨i, l, m, hi, rfl, hno⟩ hK
    show R_lookUp_b8_s Q (fun x1 x2 x3 x4 x5 σ => K (x1, x2, x3, x4, x5, σ)) (nI d) (nI p) x (nI (po i)) (nI i) (bk τ l m)
    show vp_in (nI p) 1920 ∧ (τ.2 2 (nI p).toNatClampNeg ≤ nI i → Q (-1 : Int32) (bk τ l m)) ∧ (¬ τ.2 2 (nI p).toNatClampNeg ≤ nI i → vp_in (nI (po i)) 1920 ∧ vp_in (((13 : Int32) * nI d) + (τ.2 2 (nI (po i)).toNatClampNeg)) 208 ∧ (¬ τ.2 8 (((13 : Int32) * nI d) + (τ.2 2 (nI (po i)).toNatClampNeg)).toNatClampNeg = x → R_behind_w (fun r50 t50 => ∀ v55 : Int32, v55 = nI i + (1 : Int32) → K (nI d, nI p, x, r50, v55, t50)) (nI (po i) + (1 : Int32)) (bk τ l m)) ∧ (τ.2 8 (((13 : Int32) * nI d) + (τ.2 2 (nI (po i)).toNatClampNeg)).toNatClampNeg = x → Q (nI (po i) + (1 : Int32)) (bk τ l m)))
    rw [cp, ep]
    refine ⟨vp_in_nI (by omega) (by omega), fun h9 => ?_, fun h9 => ?_⟩
    · have : i = n := by have := (nI_leI (a := n) (b := i) (by omega) (by omega)).mp h9; omega
      subst this
      exact q0 hno l m
    · have hlt : i < n := by
        rcases Nat.lt_or_ge i n with h7 | h7
        · exact h7
        · exact absurd (nI_le (a := n) h7 (by omega)) h9
      obtain ⟨⟨κ, s, hκ1, hκ, hs, eκ, etc, enm⟩, hv⟩ := (hall i hlt).1 rfl
      have etc : τ.2 8 (13 * d + κ) = nI s := etc
      have hvl := vw_le _ _ _ _ hv
      have hpi : po (i + 1) ≤ 1920 := by have := hmono (i + 1) hlt; omega
      rw [nI_clamp (n := po i) (by omega), eκ, e13, nI_clamp (n := 13 * d + κ) (by omega), etc, nI_1 (po i), ← enm]
      refine ⟨vp_in_nI (by omega) (by omega), vp_in_nI (by omega) (by omega), fun h8 => ?_, fun h8 => q1 i hlt h8 hno l m⟩
      refine r_behind hv (by omega) hpi l m (fun l' m' v ev => ?_)
      rw [nI_1] at ev
      subst ev
      refine hK (nI d, nI p, x, nI (po (i + 1)), nI (i + 1), bk τ l' m') ⟨i + 1, l', m', hlt, rfl, fun i' hi' => ?_⟩ ?_
      · rcases Nat.lt_succ_iff_lt_or_eq.mp hi' with h7 | h7
        · exact hno i' h7
        · rw [h7]; exact h8
      · show 5 - (nI (i + 1)).toNatClampNeg < 5 - (nI i).toNatClampNeg
        rw [nI_clamp (by omega), nI_clamp (by omega)]; omega
  by_cases hex : ∃ i, i < n ∧ nm i = x
  · obtain ⟨i, ⟨hi, ei⟩, hmin⟩ := pk_least (fun i => i < n ∧ nm i = x) hex
    have hfirst : ∀ i', i' < i → nm i' ≠ x := fun i' h9 e9 => hmin i' h9 ⟨by omega, e9⟩
    have huniq : ∀ i2, i2 < n → nm i2 = x → (∀ i', i' < i2 → nm i' ≠ x) → i2 = i := fun i2 h9 e9 hl => by
      rcases Nat.lt_trichotomy i2 i with h7 | h7 | h7
      · exact absurd e9 (hfirst i2 h7)
      · exact h7
      · exact absurd ei (hl i h7)
    obtain ⟨⟨κ, s, hκ1, hκ, hs, eκ, etc, enm⟩, hv⟩ := (hall i hi).1 rfl
    refine ⟨q, vs i, nI (po i + 1), ⟨rfl, j, _, hj⟩, fun Q h9 => cl Q (fun i2 a1 a2 a3 => by rw [huniq i2 a1 a2 a3]; exact h9) (fun h8 => absurd ei (h8 i hi)), fun Q l0 m0 h9 => rl Q l0 m0 (fun i2 a1 a2 a3 l m => by rw [huniq i2 a1 a2 a3]; exact h9 l m) (fun h8 => absurd ei (h8 i hi)), Or.inr ⟨by rw [← ei, enm]; exact vp_in_nI hs (by omega), po i + 1, po (i + 1), rfl, by have := hmono (i + 1) hi; omega, hv⟩⟩
  · exact ⟨q, none, -1, ⟨rfl, j, _, hj⟩, fun Q h9 => cl Q (fun i2 a1 a2 _ => absurd ⟨i2, a1, a2⟩ hex) (fun _ => h9), fun Q l0 m0 h9 => rl Q l0 m0 (fun i2 a1 a2 _ => absurd ⟨i2, a1, a2⟩ hex) (fun _ => h9), Or.inl ⟨rfl, rfl⟩⟩
