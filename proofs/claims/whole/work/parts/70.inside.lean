set_option maxRecDepth 100000 in
set_option maxHeartbeats 2000000 in
/-- the g-th value inside a value -/
theorem both_inside {b : Nat → Nat} {k : Nat → ClassId} {σ : cS} {τ : rS} {T d r p p' g : Nat} {o : Option Nat} (hnp : npR k (b 14) σ.2.2.2.2) (hr : r ≤ 4) (hp : p' ≤ 1920) (hg : g < 8) (h : vw k (b 14) σ.2.2.2.2 T (τ.2 2) (fun κ => τ.2 8 (13 * d + κ)) (fun κ => τ.2 7 (13 * d + κ)) r p o p') : ∃ (o2 pp : Option Nat) (y : Int32) (a2 : Nat), o ≠ none ∧ pR σ.2.2.2.2 o 5 2 pp ∧ pX σ.2.2.2.2 pp 2 a2 ∧ (∀ Q, Q o2 σ → C_X2_nth_w b k a2 Q (nI g) σ) ∧ (∀ Q l0 m0, (∀ l m, Q y (bk τ l m)) → R_inside_w Q (nI p) (nI g) (bk τ l0 m0)) ∧ ((o2 = none ∧ y = -1) ∨ ∃ pv pv' r', y = nI pv ∧ pv' ≤ 1920 ∧ r' ≤ 4 ∧ vw k (b 14) σ.2.2.2.2 T (τ.2 2) (fun κ => τ.2 8 (13 * d + κ)) (fun κ => τ.2 7 (13 * d + κ)) r' pv o2 pv') := by
  have hle := vw_le _ _ _ _ h
  have cp : (nI p).toNatClampNeg = p := nI_clamp (by omega)
  have vpp : vp_in (nI p) 1920 := vp_in_nI (by omega) (by omega)
  have vpr : ∀ (kd nm : Int32) (pp : Option Nat), vo σ.2.2.2.2 o kd nm pp → o ≠ none ∧ pR σ.2.2.2.2 o 5 2 pp := by
    rintro kd nm pp ⟨q, j, rfl, hj⟩
    exact ⟨fun h9 => (by cases h9), ⟨q, j, _, rfl, hj, rfl⟩⟩
  cases r with
  | zero => exact False.elim h
  | succ r =>
    have simple : ∀ (s : Nat) (kd nm : Int32), s < 128 → s ≠ 91 → s ≠ 64 → τ.2 2 p = nI s → vo σ.2.2.2.2 o kd nm (some (b 14)) → ∃ (o2 pp : Option Nat) (y : Int32) (a2 : Nat), o ≠ none ∧ pR σ.2.2.2.2 o 5 2 pp ∧ pX σ.2.2.2.2 pp 2 a2 ∧ (∀ Q, Q o2 σ → C_X2_nth_w b k a2 Q (nI g) σ) ∧ (∀ Q l0 m0, (∀ l m, Q y (bk τ l m)) → R_inside_w Q (nI p) (nI g) (bk τ l0 m0)) ∧ ((o2 = none ∧ y = -1) ∨ ∃ pv pv' r', y = nI pv ∧ pv' ≤ 1920 ∧ r' ≤ 4 ∧ vw k (b 14) σ.2.2.2.2 T (τ.2 2) (fun κ => τ.2 8 (13 * d + κ)) (fun κ => τ.2 7 (13 * d + κ)) r' pv o2 pv') := by
      intro s kd nm hs h91 h64 es hvo
      obtain ⟨hne, hpr⟩ := vpr _ _ _ hvo
      obtain ⟨j, jn, jv, an, av, nm', vs, hj, hjn, hjv⟩ := hnp
      refine ⟨none, some (b 14), -1, b 14, hne, hpr, ⟨rfl, j, _, hj⟩, fun Q hQ => c_nth hj hjv (by omega) (fun d hd _ => absurd hd (Nat.not_lt_zero _)) (fun _ => hQ), fun Q l0 m0 hQ => ⟨vpp, fun v ev => ?_⟩, Or.inl ⟨rfl, rfl⟩⟩
      have ev : v = τ.2 2 (nI p).toNatClampNeg := ev
      rw [cp, es] at ev
      subst ev
      exact ⟨fun h9 => absurd ((nI_eq (b := 91) (by omega) (by omega)).mp h9) h91, fun _ => ⟨fun h9 => absurd ((nI_eq (b := 64) (by omega) (by omega)).mp h9) h64, fun _ => hQ l0 m0⟩⟩
    have parts : ∀ (named : Bool) (n pc0 : Nat) (kd nm : Int32) (pp : Option Nat), τ.2 2 p = (if named = true then 64 else 91) → pc0 = p + (if named = true then 2 else 1) → τ.2 2 pc0 = nI n → vo σ.2.2.2.2 o kd nm pp → vParts (vw k (b 14) σ.2.2.2.2 T (τ.2 2) (fun κ => τ.2 8 (13 * d + κ)) (fun κ => τ.2 7 (13 * d + κ)) r) k σ.2.2.2.2 T (τ.2 2) (fun κ => τ.2 8 (13 * d + κ)) named pp n (pc0 + 1) p' → ∃ (o2 pp : Option Nat) (y : Int32) (a2 : Nat), o ≠ none ∧ pR σ.2.2.2.2 o 5 2 pp ∧ pX σ.2.2.2.2 pp 2 a2 ∧ (∀ Q, Q o2 σ → C_X2_nth_w b k a2 Q (nI g) σ) ∧ (∀ Q l0 m0, (∀ l m, Q y (bk τ l m)) → R_inside_w Q (nI p) (nI g) (bk τ l0 m0)) ∧ ((o2 = none ∧ y = -1) ∨ ∃ pv pv' r', y = nI pv ∧ pv' ≤ 1920 ∧ r' ≤ 4 ∧ vw k (b 14) σ.2.2.2.2 T (τ.2 2) (fun κ => τ.2 8 (13 * d + κ)) (fun κ => τ.2 7 (13 * d + κ)) r' pv o2 pv') := by
      intro named n pc0 kd nm pp es epc en hvo hpp
      have hple := vParts_le (fun p o p' h => by have := vw_le _ _ _ _ h; omega) hpp
      obtain ⟨hne, hpr⟩ := vpr _ _ _ hvo
      obtain ⟨q, j, jn, jv, an, av, nm', vs, po, rfl, hj, hjn, hjv, hn4, e0, epn, hall⟩ := hpp
      obtain ⟨st, hst⟩ : ∃ st : Nat → Nat, st = fun i => if named = true then po i + 1 else po i := ⟨_, rfl⟩
      have hV : ∀ i, i < n → vw k (b 14) σ.2.2.2.2 T (τ.2 2) (fun κ => τ.2 8 (13 * d + κ)) (fun κ => τ.2 7 (13 * d + κ)) r (st i) (vs i) (po (i + 1)) := by
        intro i hi
        obtain ⟨q1, q2⟩ := hall i hi
        rw [hst]
        cases named with
        | true => exact (q1 rfl).2
        | false => exact (q2 rfl).2
      have hsp : ∀ i, po i ≤ st i := fun i => by
        rw [hst]
        cases named with
        | true => exact Nat.le_succ _
        | false => exact Nat.le_refl _
      have hmono := po_mono (po := po) (n := n) (fun i hi => by have := vw_le _ _ _ _ (hV i hi); have := hsp i; omega)
      obtain ⟨x3, hx3⟩ : ∃ x3 : Int32, x3 = if named = true then 64 else 91 := ⟨_, rfl⟩
      have rl : ∀ (g0 : Nat) (Q : Int32 → rS → Prop) (l0 m0 : Nat → Int32), g0 < n → (∀ l m, Q (nI (st g0)) (bk τ l m)) → R_inside_b78 Q (nI (g0 + 1)) x3 (nI (st 0)) 1 (bk τ l0 m0) := by
        intro g0 Q l0 m0 hg0 hQ
        refine fx_ex (R_inside_b78_f Q) (fun z => ∃ (i : Nat) (l m : Nat → Int32), i ≤ g0 ∧ z = (nI (g0 + 1), x3, nI (st i), nI (i + 1), bk τ l m)) (fun z => 6 - z.2.2.2.1.toNatClampNeg) ?_ _ ⟨0, l0, m0, by omega, rfl⟩
        rintro K _ ⟨i, l, m, hi, rfl⟩ hK
        show R_inside_b78_s Q (fun x2 x3 x4 x5 σ => K (x2, x3, x4, x5, σ)) (nI (g0 + 1)) x3 (nI (st i)) (nI (i + 1)) (bk τ l m)
        refine ⟨fun h9 => ?_, fun h9 => ?_⟩
        · have : i = g0 := by have := (nI_leI (a := g0 + 1) (b := i + 1) (by omega) (by omega)).mp h9; omega
          subst this
          exact hQ l m
        · have hlt : i < g0 := by
            rcases Nat.lt_or_ge i g0 with h7 | h7
            · exact h7
            · exact absurd (nI_le (a := g0 + 1) (b := i + 1) (by omega) (by omega)) h9
          have hpi : po (i + 1) ≤ 1920 := by have := hmono (i + 1) (by omega); omega
          have nx : ∀ l' m', R_inside_b107 Q (fun x2 x3 x4 x5 σ => K (x2, x3, x4, x5, σ)) (nI (g0 + 1)) x3 (nI (i + 1)) (nI (st (i + 1))) (bk τ l' m') := by
            intro l' m' v ev
            rw [nI_1] at ev
            subst ev
            refine hK (nI (g0 + 1), x3, nI (st (i + 1)), nI (i + 1 + 1), bk τ l' m') ⟨i + 1, l', m', hlt, rfl⟩ ?_
            show 6 - (nI (i + 1 + 1)).toNatClampNeg < 6 - (nI (i + 1)).toNatClampNeg
            rw [nI_clamp (by omega), nI_clamp (by omega)]; omega
          refine r_behind (hV i (by omega)) (by omega) hpi l m (fun l' m' => ?_)
          have nx := nx l' m'
          rw [hst, hx3] at nx
          rw [hx3]
          cases named with
          | true => exact ⟨fun h8 => absurd rfl h8, fun _ => by rw [nI_1]; exact nx⟩
          | false => exact ⟨fun _ => nx, fun h8 => absurd h8 (by decide)⟩
      have hpc : pc0 < 1920 := by have := hmono 0 (by omega); omega
      have cpc : (nI pc0).toNatClampNeg = pc0 := nI_clamp (by omega)
      -- the head: from the byte to the count
      have head : ∀ (Q : Int32 → rS → Prop) (l0 m0 : Nat → Int32), R_inside_b36 Q (nI g) x3 (nI pc0) (bk τ l0 m0) → R_inside_w Q (nI p) (nI g) (bk τ l0 m0) := by
        intro Q l0 m0 hb
        refine ⟨vpp, fun v ev => ?_⟩
        have ev : v = τ.2 2 (nI p).toNatClampNeg := ev
        rw [cp, es, ← hx3] at ev
        subst ev
        rw [epc] at hb
        rw [hx3] at hb ⊢
        cases named with
        | true => exact ⟨fun h9 => absurd h9 (by decide), fun _ => ⟨fun _ => ⟨fun h9 => absurd rfl h9, fun _ => by rw [show nI p + (2 : Int32) = nI (p + 2) from nI_add p 2]; exact hb⟩, fun h9 => absurd rfl h9⟩⟩
        | false => exact ⟨fun _ => ⟨fun _ => by rw [nI_1]; exact hb, fun h9 => absurd h9 (by decide)⟩, fun h9 => absurd rfl h9⟩
      have hpX : pX σ.2.2.2.2 (some q) 2 q := ⟨rfl, j, _, hj⟩
      by_cases hgn : ∃ g0, g = g0 + 1 ∧ g0 < n
      · obtain ⟨g0, rfl, hg0⟩ := hgn
        refine ⟨vs g0, some q, nI (st g0), q, hne, hpr, hpX, fun Q hQ => c_nth hj hjv (by omega) (fun d hd ed => ?_) (fun h9 => absurd rfl (h9 g0 hg0)), fun Q l0 m0 hQ => head Q l0 m0 ?_, Or.inr ⟨st g0, po (g0 + 1), r, rfl, by have := hmono (g0 + 1) hg0; omega, by omega, hV g0 hg0⟩⟩
        · have : d = g0 := by have := (nI_eq (a := g0 + 1) (b := d + 1) (by omega) (by omega)).mp ed; omega
          subst this
          exact hQ
        · have hb := rl g0 Q l0 m0 hg0 hQ
          refine ⟨fun h9 => absurd ((nI_ltI (a := g0 + 1) (b := 1) (by omega) (by omega)).mp h9) (by omega), fun _ => ⟨vp_in_nI (by omega) (by omega), fun _ => ?_, fun h9 => ?_⟩⟩
          · rw [hst] at hb
            rw [hx3] at hb ⊢
            cases named with
            | true =>
              refine ⟨fun h9 => absurd rfl h9, fun _ => ?_⟩
              have hb : R_inside_b78 Q (nI (g0 + 1)) 64 (nI (po 0 + 1)) 1 (bk τ l0 m0) := hb
              rw [e0] at hb
              rw [show nI pc0 + (2 : Int32) = nI (pc0 + 2) from nI_add pc0 2]
              exact hb
            | false =>
              refine ⟨fun _ => ?_, fun h9 => absurd h9 (by decide)⟩
              have hb : R_inside_b78 Q (nI (g0 + 1)) 91 (nI (po 0)) 1 (bk τ l0 m0) := hb
              rw [e0] at hb
              rw [nI_1]
              exact hb
          · have h9 : ¬ nI (g0 + 1) ≤ τ.2 2 (nI pc0).toNatClampNeg := h9
            rw [cpc, en] at h9
            exact absurd (nI_le (by omega) (by omega)) h9
      · refine ⟨none, some q, -1, q, hne, hpr, hpX, fun Q hQ => c_nth hj hjv (by omega) (fun d hd ed => ?_) (fun _ => hQ), fun Q l0 m0 hQ => head Q l0 m0 ?_, Or.inl ⟨rfl, rfl⟩⟩
        · have : g = d + 1 := (nI_eq (a := g) (b := d + 1) (by omega) (by omega)).mp ed
          exact absurd ⟨d, this, hd⟩ hgn
        · refine ⟨fun _ => hQ l0 m0, fun h9 => ⟨vp_in_nI (by omega) (by omega), fun h8 => ?_, fun _ => hQ l0 m0⟩⟩
          have h8 : nI g ≤ τ.2 2 (nI pc0).toNatClampNeg := h8
          rw [cpc, en] at h8
          have h8 := (nI_leI (by omega) (by omega)).mp h8
          rcases Nat.eq_zero_or_pos g with h7 | h7
          · subst h7
            exact absurd (by decide) h9
          · exact absurd ⟨g - 1, by omega, by omega⟩ hgn
    rcases h with ⟨κ, pq, v, es, -, -, -, -, -, hvo, ep⟩ | ⟨κ, s, es, -, -, -, -, -, hvo, ep⟩ | ⟨κ, s, es, -, -, -, -, -, hvo, ep⟩ | ⟨n, pp, es, en, hvo, hpp⟩ | ⟨κ, s, n, pp, es, eκ, -, -, -, -, en, hvo, hpp⟩
    · exact simple 73 _ _ (by omega) (by omega) (by omega) es hvo
    · exact simple 115 _ _ (by omega) (by omega) (by omega) es hvo
    · exact simple 99 _ _ (by omega) (by omega) (by omega) es hvo
    · exact parts false n (p + 1) _ _ pp es rfl en hvo hpp
    · exact parts true n (p + 2) _ _ pp es rfl en hvo hpp
