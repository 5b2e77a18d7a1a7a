/-- what both found: nothing, or the value at a byte of class d -/
def fnd (b : Nat → Nat) (k : Nat → ClassId) (σ : cS) (τ : rS) (T : Nat) (o : Option Nat) (y x5 : Int32) : Prop := (o = none ∧ y = -1) ∨ ∃ d pv pv' r, d < 16 ∧ x5 = nI d ∧ y = nI pv ∧ pv' ≤ 1920 ∧ r ≤ 4 ∧ vw k (b 14) σ.2.2.2.2 T (τ.2 2) (fun κ => τ.2 8 (13 * d + κ)) (fun κ => τ.2 7 (13 * d + κ)) r pv o pv'
theorem fnd_end {b : Nat → Nat} {k : Nat → ClassId} {σ : cS} {τ : rS} {T : Nat} (hT : T ≤ 192) {o : Option Nat} {y x5 : Int32} (h : fnd b k σ τ T o y x5) : ∃ v : Int64, (∀ Q, Q v σ → C_X6_value_b85 b k Q o σ) ∧ ∀ Q l m, (∀ l m, Q v (bk τ l m)) → R_value_b149 Q x5 y (bk τ l m) := by
  rcases h with ⟨rfl, rfl⟩ | ⟨d, pv, pv', r, hd, rfl, rfl, hp, hr, hv⟩
  · exact ⟨-1, fun Q hQ => ⟨fun h9 => absurd rfl h9, fun _ => hQ⟩, fun Q l m hQ => ⟨fun h9 => absurd h9 (by decide), fun _ => hQ l m⟩⟩
  · have hle := vw_le _ _ _ _ hv
    obtain ⟨a, v, ea, hX, h1, h2⟩ := both_shown hT hd hp hv
    refine ⟨v, fun Q hQ => ⟨fun _ => ⟨a, hX, h1 _ hQ⟩, fun h9 => ?_⟩, fun Q l m hQ => ⟨fun _ => h2 _ l m (hQ l m), fun h9 => absurd (nI_pos' (by omega)) h9⟩⟩
    rw [ea] at h9; cases h9
set_option maxRecDepth 100000 in
set_option maxHeartbeats 2000000 in
/-- both walk the path -/
theorem both_walk {b : Nat → Nat} {k : Nat → ClassId} {σ : cS} {τ : rS} {T : Nat} (hT : T ≤ 192) (hnp : npR k (b 14) σ.2.2.2.2) : ∀ (u i : Nat), i + u = 11 → ∀ (o : Option Nat) (y x5 : Int32) (P : Nat), P < 2 ^ 31 → fnd b k σ τ T o y x5 → ∃ v : Int64, (∀ Q, Q v σ → fx (C_X6_value_b40_f b k Q) (u + 1) (o, nI P, nI i, σ)) ∧ ∀ Q l0 m0, (∀ l m, Q v (bk τ l m)) → fx (R_value_b106_f Q) (u + 1) (x5, y, nI P, nI i, bk τ l0 m0) := by
  intro u
  induction u with
  | zero =>
    intro i hi o y x5 P hP hf
    have : i = 11 := by omega
    subst this
    obtain ⟨v, h1, h2⟩ := fnd_end hT hf
    refine ⟨v, fun Q hQ => ?_, fun Q l0 m0 hQ => ?_⟩
    · show C_X6_value_b40_s b k Q (fun x6 x7 x8 σ => fx (C_X6_value_b40_f b k Q) 0 (x6, x7, x8, σ)) o (nI P) (nI 11) σ
      exact ⟨fun _ => h1 Q hQ, fun h9 => absurd (by decide) h9⟩
    · show R_value_b106_s Q (fun x5 x7 x8 x9 σ => fx (R_value_b106_f Q) 0 (x5, x7, x8, x9, σ)) x5 y (nI P) (nI 11) (bk τ l0 m0)
      exact ⟨fun _ => h2 Q l0 m0 hQ, fun h9 => absurd (by decide) h9⟩
  | succ u ih =>
    intro i hi o y x5 P hP hf
    have h11 : ¬ (11 : Int32) ≤ nI i := fun h9 => absurd ((nI_leI (a := 11) (b := i) (by omega) (by omega)).mp h9) (by omega)
    have hf2 := hf
    rcases Nat.eq_zero_or_pos P with h0 | h0
    · subst h0
      obtain ⟨v, h1, h2⟩ := fnd_end hT hf
      refine ⟨v, fun Q hQ => ?_, fun Q l0 m0 hQ => ?_⟩
      · show C_X6_value_b40_s b k Q (fun x6 x7 x8 σ => fx (C_X6_value_b40_f b k Q) (u + 1) (x6, x7, x8, σ)) o (nI 0) (nI i) σ
        exact ⟨fun h9 => absurd h9 h11, fun _ => ⟨fun _ => h1 Q hQ, fun h9 => absurd (by decide) h9⟩⟩
      · show R_value_b106_s Q (fun x5 x7 x8 x9 σ => fx (R_value_b106_f Q) (u + 1) (x5, x7, x8, x9, σ)) x5 y (nI 0) (nI i) (bk τ l0 m0)
        exact ⟨fun h9 => absurd h9 h11, fun _ => ⟨fun _ => h2 Q l0 m0 hQ, fun h9 => absurd rfl h9⟩⟩
    · rcases hf with ⟨rfl, rfl⟩ | ⟨d, pv, pv', r, hd, rfl, rfl, hp, hr, hv⟩
      · obtain ⟨v, h1, h2⟩ := fnd_end hT hf2
        refine ⟨v, fun Q hQ => ?_, fun Q l0 m0 hQ => ?_⟩
        · show C_X6_value_b40_s b k Q (fun x6 x7 x8 σ => fx (C_X6_value_b40_f b k Q) (u + 1) (x6, x7, x8, σ)) none (nI P) (nI i) σ
          exact ⟨fun h9 => absurd h9 h11, fun _ => ⟨fun _ => h1 Q hQ, fun _ => ⟨fun _ => h1 Q hQ, fun h9 => absurd rfl h9⟩⟩⟩
        · show R_value_b106_s Q (fun x5 x7 x8 x9 σ => fx (R_value_b106_f Q) (u + 1) (x5, x7, x8, x9, σ)) x5 (-1) (nI P) (nI i) (bk τ l0 m0)
          exact ⟨fun h9 => absurd h9 h11, fun _ => ⟨fun _ => h2 Q l0 m0 hQ, fun _ => ⟨fun _ => h2 Q l0 m0 hQ, fun h9 => absurd neg1 h9⟩⟩⟩
      · have hle := vw_le _ _ _ _ hv
        obtain ⟨o2, pp, y2, a2, hne, hpr, hX, g1, g2, hf3⟩ := both_inside (g := P % 8) hnp hr hp (Nat.mod_lt _ (by omega)) hv
        have hf4 : fnd b k σ τ T o2 y2 (nI d) := by
          rcases hf3 with h9 | ⟨pv2, pv2', r2, w1, w2, w3, w4⟩
          · exact Or.inl h9
          · exact Or.inr ⟨d, pv2, pv2', r2, hd, rfl, w1, w2, w3, w4⟩
        obtain ⟨v, h1, h2⟩ := ih (i + 1) (by omega) o2 y2 (nI d) (P / 8) (by omega) hf4
        have e8 : nI P - nI P / (8 : Int32) * (8 : Int32) = nI (P % 8) := pk_rem (d := 8) hP (by omega) (by omega)
        have d8 : nI P / (8 : Int32) = nI (P / 8) := pk_div (d := 8) hP (by omega) (by omega)
        refine ⟨v, fun Q hQ => ?_, fun Q l0 m0 hQ => ?_⟩
        · show C_X6_value_b40_s b k Q (fun x6 x7 x8 σ => fx (C_X6_value_b40_f b k Q) (u + 1) (x6, x7, x8, σ)) o (nI P) (nI i) σ
          refine ⟨fun h9 => absurd h9 h11, fun _ => ⟨fun h9 => absurd h9 (nI_nle h0 hP), fun _ => ⟨fun h9 => absurd h9 hne, fun _ => ⟨pp, hpr, a2, hX, ?_⟩⟩⟩⟩
          rw [e8]
          refine g1 _ (fun v77 e77 v79 e79 => ?_)
          rw [d8] at e77
          rw [nI_1] at e79
          subst e77
          subst e79
          exact h1 Q hQ
        · show R_value_b106_s Q (fun x5 x7 x8 x9 σ => fx (R_value_b106_f Q) (u + 1) (x5, x7, x8, x9, σ)) (nI d) (nI pv) (nI P) (nI i) (bk τ l0 m0)
          refine ⟨fun h9 => absurd h9 h11, fun _ => ⟨fun h9 => absurd h9 (nI_ne0 h0 hP), fun _ => ⟨fun h9 => absurd h9 (nI_pos (by omega)), fun _ => ?_⟩⟩⟩
          rw [e8]
          refine g2 _ l0 m0 (fun l m v141 e141 v143 e143 => ?_)
          rw [d8] at e141
          rw [nI_1] at e143
          subst e141
          subst e143
          exact h2 Q l m hQ
set_option maxRecDepth 100000 in
set_option maxHeartbeats 2000000 in
theorem sim_value (b : Nat → Nat) (k : Nat → ClassId) (x y z w : Int32) : SimL (Rel b k) (fun Q σ => C_X6_value_w b k Q x y z w σ) (fun Q τ => R_value_w Q x y z w τ) := by
  intro σ τ hR
  have done : ∀ r : Int64, (∀ Q, Q r σ → C_X6_value_w b k Q x y z w σ) → (∀ Q : Int64 → rS → Prop, (∀ l m, Q r (bk τ l m)) → R_value_w Q x y z w τ) → ∃ Post : Int64 → cS → Prop, (∀ Q : Int64 → cS → Prop, (∀ r σ', Post r σ' → Q r σ') → C_X6_value_w b k Q x y z w σ) ∧ ∀ r σ', Post r σ' → ∀ Q' : Int64 → rS → Prop, (∀ τ', Rel b k σ' τ' → Q' r τ') → R_value_w Q' x y z w τ := by
    intro r h1 h2
    refine ⟨fun r' σ' => r' = r ∧ σ' = σ, fun Q hQ => h1 Q (hQ r σ ⟨rfl, rfl⟩), ?_⟩
    rintro r' σ' ⟨rfl, rfl⟩ Q' hQ'
    exact h2 Q' (fun l m => hQ' _ (Rel_bk hR l m))
  have bself : ∀ (P : rS → Prop), (∀ l m, P (bk τ l m)) → P τ := fun P h => by have := h (τ.2 25) (τ.2 26); rwa [bk_self] at this
  obtain ⟨r, h1, h2, h3⟩ := both_holder hR x y
  rcases h3 with rfl | ⟨C, T, d, t, hC, hT, eC, eT, hd, ht, rfl, rfl, q, hqX, i, p, p', n, o, pp, hi4, hon, g1, g2, ep, hp', hpp', en, hvo, hvP⟩
  · exact done (-1) (fun Q hQ => h1 _ ⟨fun _ => hQ, fun h9 => absurd rfl h9⟩) (fun Q hQ => h2 _ ⟨fun _ => bself (Q (-1)) hQ, fun h9 => absurd neg1 h9⟩)
  by_cases hw0 : w < 0
  · have hw1 : ¬ 0 ≤ w := fun h9 => absurd (Int32.lt_iff_toInt_lt.mp hw0) (by have := Int32.le_iff_toInt_le.mp h9; omega)
    exact done (-1) (fun Q hQ => h1 _ ⟨fun h9 => absurd h9 (nI_nm1 (by omega)), fun _ => ⟨fun h9 => absurd h9 hw1, fun _ => hQ⟩⟩) (fun Q hQ => h2 _ ⟨fun h9 => absurd h9 (nI_pos (by omega)), fun _ => ⟨fun _ => bself (Q (-1)) hQ, fun h9 => absurd hw0 h9⟩⟩)
  obtain ⟨P, hP, rfl⟩ := nI_of hw0
  have hR2 := hR
  obtain ⟨-, C', T', hC', hT', e1', e2, e3', eT4, -, -, -, ⟨hnp, -⟩, hcf⟩ := hR2
  have : C' = C := (nI_eq (by omega) (by omega)).mp (e2.symm.trans eC)
  subst this
  have : T' = T := (nI_eq (by omega) (by omega)).mp (eT4.symm.trans eT)
  subst this
  have hpr : pR σ.2.2.2.2 o 5 2 pp := by
    obtain ⟨qa, ja, rfl, hja⟩ := hvo
    exact ⟨qa, ja, _, rfl, hja, rfl⟩
  obtain ⟨q1, o1, y1, hX1, a1, b1, f1⟩ := both_named (b := b) (σ := σ) (τ := τ) (p := p + 1) hT (by omega) hp' en hvP z
  obtain ⟨rf, n1, -, n3⟩ := both_find hR (nI t)
  have n4 := find_bk hR n3
  -- what both find
  obtain ⟨o, y, x5, hf, hC9, hR9, hz⟩ : ∃ (oF : Option Nat) (yF x5 : Int32), fnd b k σ τ T' oF yF x5 ∧ (∀ Q, Q oF σ → C_X6_elementOrDefault_w b k Q (nI d) (nI t) z σ) ∧ (∀ (Q : Int64 → rS → Prop), (∀ l m, R_value_b99 Q (nI P) x5 yF (bk τ l m)) → R_lookUp_w (fun r57 t57 => (0 ≤ r57 → R_value_b99 Q (nI P) (nI d) r57 t57) ∧ (¬ 0 ≤ r57 → R_find_w (fun r69 t69 => (0 ≤ r69 → vp_in r69 16 ∧ R_lookUp_w (fun r94 t94 => R_value_b97 Q (nI P) r69 r94 t94) r69 (t69.2 17 r69.toNatClampNeg) z t69) ∧ (¬ 0 ≤ r69 → R_value_b97 Q (nI P) r69 (-1 : Int32) t69)) (nI t) t57)) (nI d) (nI (p + 1)) z τ) ∧ (¬ vp_in z T' → oF = none ∧ yF = -1) := by
    have eh : ∀ Q : Option Nat → cS → Prop, C_X6_elementOrDefault_b33 b k Q (nI t) z o1 σ → C_X6_elementOrDefault_w b k Q (nI d) (nI t) z σ := fun Q h9 => ⟨vp_in_nI (by omega) (by omega), q, by rw [nI_clamp (by omega)]; exact hqX, g1 _ ⟨fun _ => ⟨pp, hpr, q1, hX1, a1 _ h9⟩, fun h8 => absurd h8 hon⟩⟩
    rcases f1 with ⟨rfl, rfl⟩ | ⟨hzT, pv, pv', rfl, hpv, hv⟩
    · rcases n3 with ⟨rfl, -⟩ | ⟨c, C2, eC2, hC2, hc, rfl, ex⟩
      · refine ⟨none, -1, -1, Or.inl ⟨rfl, rfl⟩, fun Q hQ => eh Q (n1 _ ⟨fun h9 => absurd rfl h9, fun _ => ⟨fun _ => hQ, fun h9 => absurd rfl h9⟩⟩), fun Q hQ => bself (fun t9 => R_lookUp_w _ (nI d) (nI (p + 1)) z t9) (fun l m => b1 _ l m (fun l m => ⟨fun h9 => absurd h9 (by decide), fun _ => n4 _ l m ⟨fun h9 => absurd h9 (by decide), fun _ => hQ l m⟩⟩)), fun _ => ⟨rfl, rfl⟩⟩
      · have : C2 = C' := (nI_eq (by omega) (by omega)).mp (eC2.symm.trans eC)
        subst this
        obtain ⟨q9, j9, aA, aD, aS, aT, eo, hj, -, -, -, -, -, p9, p9', n9, ers, hp9', hp9, en9, hv9⟩ := hcf c hc
        obtain ⟨q2, o2, y2, hX2, a2, b2, f2⟩ := both_named (b := b) (σ := σ) (τ := τ) (p := p9) hT (by omega) hp9' en9 hv9 z
        have hpD : pR σ.2.2.2.2 (σ.2.2.1 c) 0 5 (some aD) := by rw [eo]; exact ⟨q9, j9, _, rfl, hj, rfl⟩
        have cc : (nI c).toNatClampNeg = c := nI_clamp (by omega)
        refine ⟨o2, y2, nI c, ?_, fun Q hQ => eh Q (n1 _ ⟨fun h9 => absurd rfl h9, fun _ => ⟨fun h9 => absurd h9 (nI_nm1 (by omega)), fun _ => ⟨vp_in_nI (by omega) (by omega), some aD, by rw [cc]; exact hpD, q2, hX2, a2 _ hQ⟩⟩⟩), fun Q hQ => bself (fun t9 => R_lookUp_w _ (nI d) (nI (p + 1)) z t9) (fun l m => b1 _ l m (fun l m => ⟨fun h9 => absurd h9 (by decide), fun _ => n4 _ l m ⟨fun _ => ⟨vp_in_nI (by omega) (by omega), ?_⟩, fun h9 => absurd (nI_pos' (by omega)) h9⟩⟩)), fun hz => ?_⟩
        · rcases f2 with h9 | ⟨-, pv, pv', w1, w2, w3⟩
          · exact Or.inl h9
          · exact Or.inr ⟨c, pv, pv', 4, by omega, rfl, w1, w2, by omega, w3⟩
        · show R_lookUp_w _ (nI c) (τ.2 17 (nI c).toNatClampNeg) z (bk τ l m)
          rw [cc, ers]
          exact b2 _ l m (fun l m => hQ l m)
        · rcases f2 with h9 | ⟨h9, -⟩
          · exact h9
          · exact absurd h9 hz
    · have hle := vw_le _ _ _ _ hv
      have hone : o1 ≠ none := by
        obtain ⟨a, v, ea, -⟩ := both_shown hT (by omega) hpv hv
        rw [ea]; exact fun h9 => (by cases h9)
      refine ⟨o1, nI pv, nI d, Or.inr ⟨d, pv, pv', 4, by omega, rfl, rfl, hpv, by omega, hv⟩, fun Q hQ => eh Q (n1 _ ⟨fun _ => hQ, fun h9 => absurd h9 hone⟩), fun Q hQ => bself (fun t9 => R_lookUp_w _ (nI d) (nI (p + 1)) z t9) (fun l m => b1 _ l m (fun l m => ⟨fun _ => hQ l m, fun h9 => absurd (nI_pos' (by omega)) h9⟩)), fun hz => absurd hzT hz⟩
  obtain ⟨v, w1, w2⟩ := both_walk hT hnp 11 0 (by omega) o y x5 P hP hf
  have hcl : ∀ Q, Q v σ → C_X6_value_w b k Q x (nI t) z (nI P) σ := fun Q hQ => h1 _ ⟨fun h9 => absurd h9 (nI_nm1 (by omega)), fun _ => ⟨fun _ => hC9 _ ⟨12, w1 Q hQ⟩, fun h9 => absurd (nI_pos' hP) h9⟩⟩
  by_cases hzT : vp_in z T'
  · refine done v hcl (fun Q hQ => h2 _ ⟨fun h9 => absurd h9 (nI_pos (by omega)), fun _ => ⟨fun h9 => absurd h9 (nI_pos hP), fun _ => r_isText (n := T') (by omega) eT4 (fun h9 => absurd hzT h9) (fun _ _ _ => ⟨fun _ => g2 _ ?_, fun h9 => absurd h9 n1_ne0⟩)⟩⟩)
    rw [e4 d i, nI_clamp (n := 4 * d + i) (by omega), ep, nI_1]
    exact ⟨vp_in_nI (by omega) (by omega), hR9 Q (fun l m => ⟨12, w2 Q l m hQ⟩)⟩
  · obtain ⟨rfl, rfl⟩ := hz hzT
    refine done (-1) (fun Q hQ => h1 _ ⟨fun h9 => absurd h9 (nI_nm1 (by omega)), fun _ => ⟨fun _ => hC9 _ ?_, fun h9 => absurd (nI_pos' hP) h9⟩⟩) (fun Q hQ => h2 _ ⟨fun h9 => absurd h9 (nI_pos (by omega)), fun _ => ⟨fun h9 => absurd h9 (nI_pos hP), fun _ => r_isText (n := T') (by omega) eT4 (fun _ => ⟨fun h9 => absurd rfl h9, fun _ => bself (Q (-1)) hQ⟩) (fun j hj ej => absurd (by rw [ej]; exact vp_in_nI hj (by omega)) hzT)⟩⟩)
    refine ⟨1, ?_⟩
    show C_X6_value_b40_s b k Q (fun x6 x7 x8 σ => fx (C_X6_value_b40_f b k Q) 0 (x6, x7, x8, σ)) none (nI P) 0 σ
    have hE : C_X6_value_b85 b k Q none σ := ⟨fun h9 => absurd rfl h9, fun _ => hQ⟩
    exact ⟨fun _ => hE, fun _ => ⟨fun _ => hE, fun _ => ⟨fun _ => hE, fun h9 => absurd rfl h9⟩⟩⟩
