def oI (o : Option Nat) : Int32 := match o with
  | none => -1
  | some e => nI e
theorem neg1 : (-1 : Int32) < 0 := by decide
theorem nI_nm1 {n : Nat} (h : n < 2 ^ 31) : ¬ nI n = -1 := fun e => absurd neg1 (by rw [← e]; exact nI_pos h)
theorem both_inh {b : Nat → Nat} {k : Nat → ClassId} {σ : cS} {τ : rS} (hR : Rel b k σ τ) {C : Nat} (hC : C ≤ 16) (e1 : σ.1 2 = nI C) (e2 : τ.1 3 = nI C) (x : Int32) : ((∀ Q, Q 1 τ → R_inherited_w Q x τ) ∧ ∀ Q, Q (nI C) σ → C_X1_chainSteps_w b k Q x σ) ∨ ((∀ Q, Q 0 τ → R_inherited_w Q x τ) ∧ ∀ Q, Q 1 σ → C_X1_chainSteps_w b k Q x σ) := by
  obtain ⟨r, h1, h2, h3⟩ := both_find hR x
  rcases h3 with ⟨rfl, -⟩ | ⟨c, C', eC', hC', hc, rfl, ex⟩
  · exact Or.inr ⟨fun Q hQ => h2 _ ⟨fun _ => ⟨zb0, hQ⟩, fun h9 => absurd neg1 h9⟩, fun Q hQ => h1 _ ⟨fun _ => ⟨fun _ => hQ, fun h9 => absurd rfl h9⟩, fun h9 => absurd rfl h9⟩⟩
  · have : C' = C := (nI_eq (by omega) (by omega)).mp (eC'.symm.trans e2)
    subst this
    have cc : (nI c).toNatClampNeg = c := nI_clamp (by omega)
    have hp := (cf_pI hR hC e1 hc).2.1
    by_cases hf : (τ.2 9 c) &&& 2 = 0
    · refine Or.inr ⟨fun Q hQ => h2 _ ⟨fun h9 => absurd h9 (nI_pos (by omega)), fun _ => ?_⟩, fun Q hQ => h1 _ ⟨fun h9 => absurd h9 (nI_nm1 (by omega)), fun _ => ?_⟩⟩
      · rw [cc]
        exact ⟨vp_in_nI (by omega) (by omega), fun _ => ⟨zb0, hQ⟩, fun h9 => absurd hf h9⟩
      · rw [cc]
        exact ⟨vp_in_nI (by omega) (by omega), τ.2 9 c, hp, fun _ => ⟨fun _ => hQ, fun h9 => absurd rfl h9⟩, fun h9 => absurd hf h9⟩
    · refine Or.inl ⟨fun Q hQ => h2 _ ⟨fun h9 => absurd h9 (nI_pos (by omega)), fun _ => ?_⟩, fun Q hQ => h1 _ ⟨fun h9 => absurd h9 (nI_nm1 (by omega)), fun _ => ?_⟩⟩
      · rw [cc]
        exact ⟨vp_in_nI (by omega) (by omega), fun h9 => absurd h9 hf, fun _ => ⟨zb1, hQ⟩⟩
      · rw [cc]
        refine ⟨vp_in_nI (by omega) (by omega), τ.2 9 c, hp, fun h9 => absurd h9 hf, fun _ => ⟨fun h9 => absurd h9 n1_ne0, fun _ => ?_⟩⟩
        show Q (σ.1 2) σ
        rw [e1]; exact hQ
theorem both_sup {b : Nat → Nat} {k : Nat → ClassId} {σ : cS} {τ : rS} (hR : Rel b k σ τ) {C T : Nat} (hC : C ≤ 16) (hT : T ≤ 192) (e1 : σ.1 2 = nI C) (e2 : τ.1 3 = nI C) (e4 : τ.1 5 = nI T) {d : Nat} (hd : d < C) : ∃ o : Option Nat, (∀ e, o = some e → e < C) ∧ (∀ Q, Q (oI o) σ → C_X1_superclass_w b k Q (nI d) σ) ∧ (τ.2 11 d < 0 → oI o = -1) ∧ ∀ Q, Q (oI o) τ → R_find_w Q (τ.2 11 d) τ := by
  obtain ⟨r, h1, h2, h3⟩ := both_find hR (τ.2 11 d)
  have cd : (nI d).toNatClampNeg = d := nI_clamp (by omega)
  have hp := (cf_pI hR hC e1 hd).2.2.1
  rcases h3 with ⟨rfl, -⟩ | ⟨c, C', eC', hC', hc, rfl, ex⟩
  · refine ⟨none, fun e h9 => (by cases h9), fun Q hQ => ⟨vp_in_nI (by omega) (by omega), τ.2 11 d, by rw [cd]; exact hp, h1 _ hQ⟩, fun _ => rfl, h2⟩
  · have : C' = C := (nI_eq (by omega) (by omega)).mp (eC'.symm.trans e2)
    subst this
    refine ⟨some c, fun e h9 => (by cases h9; exact hc), fun Q hQ => ⟨vp_in_nI (by omega) (by omega), τ.2 11 d, by rw [cd]; exact hp, h1 _ hQ⟩, fun h9 => ?_, h2⟩
    obtain ⟨u, hu, eu⟩ := self_at hR hC hT e2 e4 hc
    rw [← ex, eu] at h9
    exact absurd h9 (nI_pos (by omega))
theorem oI_some {o : Option Nat} {d : Nat} (h : o = some d) : oI o = nI d := by rw [h]; rfl
/-- class d declares an annotation of type t -/
def hasN (b : Nat → Nat) (k : Nat → ClassId) (σ : cS) (τ : rS) (T d t : Nat) : Prop := ∃ q, pX σ.2.2.2.2 (σ.2.2.1 d) 0 q ∧ ∃ (i p p' n : Nat) (o pp : Option Nat), i < 4 ∧ o ≠ none ∧ (∀ Q, Q o σ → C_X0_firstAnnotation_w b k q Q (nI t) σ) ∧ (∀ Q, Q (nI i) τ → R_firstNote_w Q (nI d) (nI t) τ) ∧ τ.2 16 (4 * d + i) = nI p ∧ p' ≤ 1920 ∧ p + 2 ≤ p' ∧ τ.2 2 (p + 1) = nI n ∧ vo σ.2.2.2.2 o 5 (nI t) pp ∧ vParts (vw k (b 14) σ.2.2.2.2 T (τ.2 2) (fun κ => τ.2 8 (13 * d + κ)) (fun κ => τ.2 7 (13 * d + κ)) 4) k σ.2.2.2.2 T (τ.2 2) (fun κ => τ.2 8 (13 * d + κ)) true pp n (p + 2) p'
set_option maxRecDepth 100000 in
set_option maxHeartbeats 1000000 in
/-- both look for the class that holds an annotation of type t -/
theorem both_holder {b : Nat → Nat} {k : Nat → ClassId} {σ : cS} {τ : rS} (hR : Rel b k σ τ) (x y : Int32) : ∃ r : Int32, (∀ Q, Q r σ → C_X6_holder_w b k Q x y σ) ∧ (∀ Q, Q r τ → R_holder_w Q x y τ) ∧ (r = -1 ∨ ∃ C T d t : Nat, C ≤ 16 ∧ T ≤ 192 ∧ τ.1 3 = nI C ∧ τ.1 5 = nI T ∧ d < C ∧ t < T ∧ r = nI d ∧ y = nI t ∧ hasN b k σ τ T d t) := by
  obtain ⟨C, T, hC, hT, e1, e2, e3, e4⟩ := Rel_counts hR
  by_cases hv0 : ¬ (vp_in x C ∧ vp_in y T)
  · have hv := hv0
    refine ⟨-1, fun Q h => c_there hC hT e1 e3 (fun _ => ⟨fun h9 => absurd rfl h9, fun _ => h⟩) (fun h9 => absurd h9 hv), fun Q h => ?_, Or.inl rfl⟩
    refine r_isClass (n := C) (by omega) e2 (fun h9 => ⟨fun _ => h, fun q => absurd rfl q⟩) (fun j hj ej => ⟨fun q => absurd q n1_ne0, fun _ => r_isText (n := T) (by omega) e4 (fun h9 => ⟨fun q => absurd rfl q, fun _ => h⟩) (fun i hi ei => ?_)⟩)
    exact absurd ⟨by rw [ej]; exact vp_in_nI hj (by omega), by rw [ei]; exact vp_in_nI hi (by omega)⟩ hv
  have hv := Classical.not_not.mp hv0
  obtain ⟨c, hcC, rfl⟩ := vp_in_of hv.1 (by omega)
  obtain ⟨t, htT, rfl⟩ := vp_in_of hv.2 (by omega)
  obtain ⟨sup, hsup⟩ := Classical.skolem.mp (fun d : Nat => show ∃ o : Option Nat, d < C → (∀ e, o = some e → e < C) ∧ (∀ Q, Q (oI o) σ → C_X1_superclass_w b k Q (nI d) σ) ∧ (τ.2 11 d < 0 → oI o = -1) ∧ ∀ Q, Q (oI o) τ → R_find_w Q (τ.2 11 d) τ from by
    by_cases hd : d < C
    · obtain ⟨o, ho⟩ := both_sup hR hC hT e1 e2 e4 hd
      exact ⟨o, fun _ => ho⟩
    · exact ⟨none, fun h9 => absurd h9 hd⟩)
  obtain ⟨f, hf⟩ := Classical.skolem.mp (fun d : Nat => show ∃ f : Bool, d < C → ∃ q, pX σ.2.2.2.2 (σ.2.2.1 d) 0 q ∧ (f = true → (∃ (i : Nat) (o : Option Nat), i < 4 ∧ o ≠ none ∧ (∀ Q, Q o σ → C_X0_firstAnnotation_w b k q Q (nI t) σ) ∧ ∀ Q, Q (nI i) τ → R_firstNote_w Q (nI d) (nI t) τ) ∧ hasN b k σ τ T d t) ∧ (f = false → (∀ Q, Q none σ → C_X0_firstAnnotation_w b k q Q (nI t) σ) ∧ ∀ Q, Q (-1) τ → R_firstNote_w Q (nI d) (nI t) τ) from by
    by_cases hd : d < C
    · obtain ⟨q, hX, h9⟩ := both_first hR hC hT e2 e4 hd htT
      rcases h9 with ⟨i, p, p', n, o, pp, w1, w2, w3, w4, w5⟩ | h9
      · exact ⟨true, fun _ => ⟨q, hX, fun _ => ⟨⟨i, o, w1, w2, w3, w4⟩, q, hX, i, p, p', n, o, pp, w1, w2, w3, w4, w5⟩, fun h8 => by cases h8⟩⟩
      · exact ⟨false, fun _ => ⟨q, hX, fun h8 => (by cases h8), fun _ => h9⟩⟩
    · exact ⟨false, fun h9 => absurd h9 hd⟩)
  obtain ⟨hit, hhit⟩ : ∃ hit : Nat → Prop, hit = fun j => ∃ d, chn sup c j = some d ∧ f d = true := ⟨_, rfl⟩
  have hlt : ∀ n e, chn sup c n = some e → e < C := by
    intro n
    induction n with
    | zero => intro e h9; cases h9; exact hcC
    | succ n ih =>
      intro e h9
      have h9 : (chn sup c n).bind sup = some e := h9
      cases h8 : chn sup c n with
      | none => rw [h8] at h9; cases h9
      | some e' => rw [h8] at h9; exact (hsup e' (ih e' h8)).1 e h9
  have nono : ∀ j j', chn sup c j = none → j ≤ j' → ¬ hit j' := by
    intro j j' h9 hj h8
    rw [hhit] at h8
    obtain ⟨d, hd, -⟩ := h8
    rw [show j' = j + (j' - j) by omega] at hd
    obtain ⟨e, he⟩ := chn_back _ _ _ hd
    rw [he] at h9; cases h9
  -- the class's loop
  have cl : ∀ (S : Nat) (Q : Int32 → cS → Prop), S ≤ 16 → (∀ j d, j < S → chn sup c j = some d → f d = true → (∀ j', j' < j → ¬ hit j') → Q (nI d) σ) → ((∀ j, j < S → ¬ hit j) → Q (-1) σ) → C_X6_holder_b26 b k Q (nI t) (nI S) (nI c) 0 σ := by
    intro S Q hS q1 q0
    refine fx_ex (C_X6_holder_b26_f b k Q) (fun z => ∃ j : Nat, j ≤ S ∧ z = (nI t, nI S, oI (chn sup c j), nI j, σ) ∧ ∀ j', j' < j → ¬ hit j') (fun z => 17 - z.2.2.2.1.toNatClampNeg) ?_ _ ⟨0, by omega, rfl, fun j' h9 => absurd h9 (Nat.not_lt_zero _)⟩
    rintro K _ ⟨j, hj, rfl, hno⟩ hK
    show C_X6_holder_b26_s b k Q (fun x2 x3 x4 x5 σ => K (x2, x3, x4, x5, σ)) (nI t) (nI S) (oI (chn sup c j)) (nI j) σ
    refine ⟨fun h9 => ?_, fun h9 => ?_⟩
    · have : j = S := by have := (nI_leI (by omega) (by omega)).mp h9; omega
      subst this
      exact q0 hno
    · have hjS : j < S := by
        rcases Nat.lt_or_ge j S with h7 | h7
        · exact h7
        · exact absurd (nI_le h7 (by omega)) h9
      cases hch : chn sup c j with
      | none =>
        refine ⟨fun _ => q0 (fun j' hj' => ?_), fun h8 => absurd rfl h8⟩
        rcases Nat.lt_or_ge j' j with h7 | h7
        · exact hno j' h7
        · exact nono j j' hch h7
      | some d =>
        have hdC := hlt j d hch
        obtain ⟨q, hX, hft, hff⟩ := hf d hdC
        have cd : (nI d).toNatClampNeg = d := nI_clamp (by omega)
        refine ⟨fun h8 => absurd h8 (nI_nm1 (by omega)), fun _ => ⟨vp_in_nI (by omega) (by omega), q, ?_, ?_⟩⟩
        · show pX σ.2.2.2.2 (σ.2.2.1 (nI d).toNatClampNeg) 0 q
          rw [cd]; exact hX
        · cases hfd : f d with
          | true =>
            obtain ⟨⟨i, o, w1, w2, w3, w4⟩, -⟩ := hft hfd
            exact w3 _ ⟨fun h8 => absurd h8 w2, fun _ => q1 j d hjS hch hfd hno⟩
          | false =>
            refine (hff hfd).1 _ ⟨fun _ => (hsup d hdC).2.1 _ (fun v ev => ?_), fun h8 => absurd rfl h8⟩
            rw [nI_1] at ev
            subst ev
            refine hK (nI t, nI S, oI (sup d), nI (j + 1), σ) ⟨j + 1, hjS, ?_, fun j' hj' => ?_⟩ ?_
            · show _ = (nI t, nI S, oI ((chn sup c j).bind sup), nI (j + 1), σ)
              rw [hch]; rfl
            · rcases Nat.lt_succ_iff_lt_or_eq.mp hj' with h7 | h7
              · exact hno j' h7
              · rw [h7, hhit]
                rintro ⟨d', hd', hfd'⟩
                rw [hch] at hd'
                cases hd'
                rw [hfd] at hfd'; cases hfd'
            · show 17 - (nI (j + 1)).toNatClampNeg < 17 - (nI j).toNatClampNeg
              rw [nI_clamp (by omega), nI_clamp (by omega)]; omega
  -- the reference's loop, where the type is inherited
  have rl : ∀ (Q : Int32 → rS → Prop), (∀ j d, j < 17 → chn sup c j = some d → f d = true → (∀ j', j' < j → ¬ hit j') → Q (nI d) τ) → ((∀ j, j < 17 → ¬ hit j) → Q (-1) τ) → R_holder_b30 Q (nI t) 1 (nI c) 0 τ := by
    intro Q q1 q0
    refine fx_ex (R_holder_b30_f Q) (fun z => ∃ j : Nat, j ≤ 17 ∧ z = (nI t, 1, oI (chn sup c j), nI j, τ) ∧ ∀ j', j' < j → ¬ hit j') (fun z => 18 - z.2.2.2.1.toNatClampNeg) ?_ _ ⟨0, by omega, rfl, fun j' h9 => absurd h9 (Nat.not_lt_zero _)⟩
    rintro K _ ⟨j, hj, rfl, hno⟩ hK
    show R_holder_b30_s Q (fun x2 x3 x4 x5 σ => K (x2, x3, x4, x5, σ)) (nI t) 1 (oI (chn sup c j)) (nI j) τ
    refine ⟨fun h9 => ?_, fun h9 => ?_⟩
    · have := (nI_ltI (a := 16) (b := j) (by omega) (by omega)).mp h9
      exact q0 (fun j' hj' => hno j' (by omega))
    · have hjS : j < 17 := by
        rcases Nat.lt_or_ge j 17 with h7 | h7
        · exact h7
        · exact absurd (nI_lt (a := 16) (by omega) (by omega)) h9
      cases hch : chn sup c j with
      | none =>
        refine ⟨fun _ => q0 (fun j' hj' => ?_), fun h8 => absurd neg1 h8⟩
        rcases Nat.lt_or_ge j' j with h7 | h7
        · exact hno j' h7
        · exact nono j j' hch h7
      | some d =>
        have hdC := hlt j d hch
        obtain ⟨q, hX, hft, hff⟩ := hf d hdC
        have cd : (nI d).toNatClampNeg = d := nI_clamp (by omega)
        have vd : vp_in (nI d) 16 := vp_in_nI (by omega) (by omega)
        refine ⟨fun h8 => absurd h8 (nI_pos (by omega)), fun _ => ?_⟩
        show R_firstNote_w _ (nI d) (nI t) τ
        cases hfd : f d with
        | true =>
          obtain ⟨⟨i, o, w1, w2, w3, w4⟩, -⟩ := hft hfd
          exact w4 _ ⟨fun h8 => absurd h8 (nI_pos (by omega)), fun _ => q1 j d hjS hch hfd hno⟩
        | false =>
          have nx : R_holder_b84 Q (fun x2 x3 x4 x5 σ => K (x2, x3, x4, x5, σ)) (nI t) 1 (nI j) (oI (sup d)) τ := by
            intro v ev
            rw [nI_1] at ev
            subst ev
            refine hK (nI t, 1, oI (sup d), nI (j + 1), τ) ⟨j + 1, hjS, ?_, fun j' hj' => ?_⟩ ?_
            · show _ = (nI t, 1, oI ((chn sup c j).bind sup), nI (j + 1), τ)
              rw [hch]; rfl
            · rcases Nat.lt_succ_iff_lt_or_eq.mp hj' with h7 | h7
              · exact hno j' h7
              · rw [h7, hhit]
                rintro ⟨d', hd', hfd'⟩
                rw [hch] at hd'
                cases hd'
                rw [hfd] at hfd'; cases hfd'
            · show 18 - (nI (j + 1)).toNatClampNeg < 18 - (nI j).toNatClampNeg
              rw [nI_clamp (by omega), nI_clamp (by omega)]; omega
          refine (hff hfd).2 _ ⟨fun _ => ⟨fun h8 => absurd h8 n1_ne0, fun _ => ?_⟩, fun h8 => absurd neg1 h8⟩
          show vp_in (nI d) 16 ∧ (τ.2 11 (nI d).toNatClampNeg < 0 → R_holder_b84 Q _ (nI t) 1 (nI j) (-1) τ) ∧ (¬ τ.2 11 (nI d).toNatClampNeg < 0 → vp_in (nI d) 16 ∧ R_find_w (fun r77 t77 => R_holder_b84 Q _ (nI t) 1 (nI j) r77 t77) (τ.2 11 (nI d).toNatClampNeg) τ)
          rw [cd]
          refine ⟨vd, fun h8 => ?_, fun _ => ⟨vd, (hsup d hdC).2.2.2 _ nx⟩⟩
          have := (hsup d hdC).2.2.1 h8
          rw [this] at nx
          exact nx
  -- where it isn't
  have rl0 : ∀ (Q : Int32 → rS → Prop), (f c = true → Q (nI c) τ) → (f c = false → Q (-1) τ) → R_holder_b30 Q (nI t) 0 (nI c) 0 τ := by
    intro Q q1 q0
    refine ⟨2, ?_⟩
    show R_holder_b30_s Q _ (nI t) 0 (nI c) 0 τ
    obtain ⟨q, hX, hft, hff⟩ := hf c hcC
    refine ⟨fun h9 => absurd h9 (by decide), fun _ => ⟨fun h8 => absurd h8 (nI_pos (by omega)), fun _ => ?_⟩⟩
    cases hfd : f c with
    | true =>
      obtain ⟨⟨i, o, w1, w2, w3, w4⟩, -⟩ := hft hfd
      exact w4 _ ⟨fun h8 => absurd h8 (nI_pos (by omega)), fun _ => q1 hfd⟩
    | false =>
      refine (hff hfd).2 _ ⟨fun _ => ⟨fun _ v ev => ?_, fun h8 => absurd rfl h8⟩, fun h8 => absurd neg1 h8⟩
      subst ev
      show R_holder_b30_s Q _ (nI t) 0 (-1) (0 + 1) τ
      exact ⟨fun _ => q0 hfd, fun _ => ⟨fun _ => q0 hfd, fun h8 => absurd neg1 h8⟩⟩
  have wrapC : ∀ (Q : Int32 → cS → Prop), C_X1_chainSteps_w b k (fun r16 t16 => C_X6_holder_b26 b k Q (nI t) r16 (nI c) (0 : Int32) t16) (nI t) σ → C_X6_holder_w b k Q (nI c) (nI t) σ := fun Q h9 => c_there hC hT e1 e3 (fun h8 => absurd hv h8) (fun _ => ⟨fun _ => h9, fun h8 => absurd h8 n1_ne0⟩)
  have wrapR : ∀ (Q : Int32 → rS → Prop), R_inherited_w (fun r20 t20 => R_holder_b30 Q (nI t) r20 (nI c) (0 : Int32) t20) (nI t) τ → R_holder_w Q (nI c) (nI t) τ := fun Q h9 => r_isClass (n := C) (by omega) e2 (fun h8 => absurd hv.1 h8) (fun _ _ _ => ⟨fun h8 => absurd h8 n1_ne0, fun _ => r_isText (n := T) (by omega) e4 (fun h8 => absurd hv.2 h8) (fun _ _ _ => ⟨fun _ => h9, fun h8 => absurd h8 n1_ne0⟩)⟩)
  have res : ∀ d, d < C → f d = true → ((nI d = -1) ∨ ∃ C T d' t' : Nat, C ≤ 16 ∧ T ≤ 192 ∧ τ.1 3 = nI C ∧ τ.1 5 = nI T ∧ d' < C ∧ t' < T ∧ nI d = nI d' ∧ nI t = nI t' ∧ hasN b k σ τ T d' t') := fun d hd hfd => Or.inr ⟨C, T, d, t, hC, hT, e2, e4, hd, htT, rfl, rfl, (by obtain ⟨q, -, hft, -⟩ := hf d hd; exact (hft hfd).2)⟩
  rcases both_inh hR hC e1 e2 (nI t) with ⟨hi1, hi2⟩ | ⟨hi1, hi2⟩
  · by_cases hex : ∃ j, hit j
    · obtain ⟨j, hj, hmin⟩ := pk_least hit hex
      have hj2 := hj
      rw [hhit] at hj2
      obtain ⟨d, hd, hfd⟩ := hj2
      have hjC : j < C := by
        obtain ⟨j', hj', e'⟩ := chn_cover hcC (fun d e hd => (hsup d hd).1 e) hd
        rcases Nat.lt_or_ge j C with h7 | h7
        · exact h7
        · exact absurd (by rw [hhit]; exact ⟨d, e', hfd⟩) (hmin j' (by omega))
      have hu : ∀ j2 d2, chn sup c j2 = some d2 → f d2 = true → (∀ j', j' < j2 → ¬ hit j') → d2 = d := by
        intro j2 d2 a1 a2 a3
        have hh : hit j2 := by rw [hhit]; exact ⟨d2, a1, a2⟩
        have : j2 = j := by
          rcases Nat.lt_trichotomy j2 j with h7 | h7 | h7
          · exact absurd hh (hmin j2 h7)
          · exact h7
          · exact absurd hj (a3 j h7)
        subst this
        rw [hd] at a1
        exact (Option.some.inj a1).symm
      exact ⟨nI d, fun Q h9 => wrapC Q (hi2 _ (cl C Q hC (fun j2 d2 _ a1 a2 a3 => by rw [hu j2 d2 a1 a2 a3]; exact h9) (fun h8 => absurd hj (h8 j hjC)))), fun Q h9 => wrapR Q (hi1 _ (rl Q (fun j2 d2 _ a1 a2 a3 => by rw [hu j2 d2 a1 a2 a3]; exact h9) (fun h8 => absurd hj (h8 j (by omega))))), res d (hlt j d hd) hfd⟩
    · have hn : ∀ j, ¬ hit j := fun j h9 => hex ⟨j, h9⟩
      exact ⟨-1, fun Q h9 => wrapC Q (hi2 _ (cl C Q hC (fun j2 d2 _ a1 a2 _ => absurd (by rw [hhit]; exact ⟨d2, a1, a2⟩) (hn j2)) (fun _ => h9))), fun Q h9 => wrapR Q (hi1 _ (rl Q (fun j2 d2 _ a1 a2 _ => absurd (by rw [hhit]; exact ⟨d2, a1, a2⟩) (hn j2)) (fun _ => h9))), Or.inl rfl⟩
  · cases hfc : f c with
    | true =>
      refine ⟨nI c, fun Q h9 => wrapC Q (hi2 _ (cl 1 Q (by omega) (fun j2 d2 a0 a1 _ _ => ?_) (fun h8 => absurd (by rw [hhit]; exact ⟨c, rfl, hfc⟩) (h8 0 (by omega))))), fun Q h9 => wrapR Q (hi1 _ (rl0 Q (fun _ => h9) (fun h8 => by rw [hfc] at h8; cases h8))), res c hcC hfc⟩
      rw [show j2 = 0 by omega] at a1
      cases a1
      exact h9
    | false =>
      refine ⟨-1, fun Q h9 => wrapC Q (hi2 _ (cl 1 Q (by omega) (fun j2 d2 a0 a1 a2 _ => ?_) (fun _ => h9))), fun Q h9 => wrapR Q (hi1 _ (rl0 Q (fun h8 => by rw [hfc] at h8; cases h8) (fun _ => h9))), Or.inl rfl⟩
      rw [show j2 = 0 by omega] at a1
      cases a1
      rw [hfc] at a2; cases a2
theorem sim_holder (b : Nat → Nat) (k : Nat → ClassId) (x y : Int32) : SimI (Rel b k) (fun Q σ => C_X6_holder_w b k Q x y σ) (fun Q τ => R_holder_w Q x y τ) := simI_eq (fun σ τ hR => by
  obtain ⟨r, h1, h2, -⟩ := both_holder hR x y
  exact ⟨r, h1, h2⟩)
