theorem Rel_bk {b : Nat → Nat} {k : Nat → ClassId} {σ : cS} {τ : rS} (hR : Rel b k σ τ) (l m : Nat → Int32) : Rel b k σ (bk τ l m) := hR
theorem c_nth {b : Nat → Nat} {k : Nat → ClassId} {Q : Option Nat → cS → Prop} {σ : cS} {q j jv an av n : Nat} {vs : Nat → Option Nat} {x : Int32} (hj : σ.2.2.2.2[j]? = some (q, .inr (2, [.ref an, .ref av]))) (hv : σ.2.2.2.2[jv]? = some (av, .inl (k 3, n, .inr (.inr (.inr (.inr vs)))))) (hn : n < 2 ^ 31) (h1 : ∀ d, d < n → x = nI (d + 1) → Q (vs d) σ) (h0 : (∀ d, d < n → x ≠ nI (d + 1)) → Q none σ) : C_X2_nth_w b k q Q x σ := by
  have hpR : pR σ.2.2.2.2 (some q) 2 1 (some av) := ⟨q, j, _, rfl, hj, rfl⟩
  have hpQ : pQ σ.2.2.2.2 (some av) (k 3) n vs := ⟨av, jv, rfl, hv⟩
  refine ⟨fun h9 => h0 (fun d hd e => ?_), fun h9 => ⟨some av, hpR, n, vs, hpQ, fun h8 => h0 (fun d hd e => ?_), fun h8 => ⟨some av, hpR, n, vs, hpQ, ?_⟩⟩⟩
  · rw [e] at h9
    have := (nI_ltI (a := d + 1) (b := 1) (by omega) (by omega)).mp h9
    omega
  · rw [e] at h8
    have := (nI_ltI (a := n) (b := d + 1) (by omega) (by omega)).mp h8
    omega
  · have hx0 : ¬ x < 0 := fun h7 => h9 (Int32.lt_of_lt_of_le h7 (by decide))
    obtain ⟨z, hz, rfl⟩ := nI_of hx0
    have a1 : 1 ≤ z := by
      rcases Nat.lt_or_ge z 1 with h7 | h7
      · exact absurd (nI_lt (b := 1) h7 (by omega)) h9
      · exact h7
    have a2 : z ≤ n := by
      rcases Nat.lt_or_ge n z with h7 | h7
      · exact absurd (nI_lt (a := n) h7 hz) h8
      · exact h7
    obtain ⟨d, rfl⟩ : ∃ d, z = d + 1 := ⟨z - 1, by omega⟩
    rw [nI_pred, nI_clamp (by omega)]
    exact ⟨vp_in_nI (by omega) (by omega), h1 d (by omega) rfl⟩
theorem c_isAnn2 {b : Nat → Nat} {k : Nat → ClassId} {q : Nat} {Q : Int32 → cS → Prop} {σ : cS} {x kd nm : Int32} {pp : Option Nat} (h : vo σ.2.2.2.2 (some q) kd nm pp) (h1 : kd = 5 ∧ nm = x → Q 1 σ) (h0 : ¬ (kd = 5 ∧ nm = x) → Q 0 σ) : C_X5_isAnnotationOf_w b k q Q x σ := by
  obtain ⟨q', j, e, hj⟩ := h
  cases e
  exact ⟨kd, ⟨q, j, _, rfl, hj, rfl⟩, fun h9 => ⟨zb0, h0 (fun h8 => h9 h8.1)⟩, fun h9 => ⟨nm, ⟨q, j, _, rfl, hj, rfl⟩, fun h8 => ⟨zb0, h0 (fun h7 => h8 h7.2)⟩, fun h8 => ⟨zb1, h1 ⟨h9, h8⟩⟩⟩⟩
/-- at byte p an annotation of type t begins -/
def isA (yb tc : Nat → Int32) (t p : Nat) : Prop := yb p = nI 64 ∧ ∃ κ, κ ≤ 12 ∧ yb (p + 1) = nI κ ∧ tc κ = nI t
theorem vw_isA {k : Nat → ClassId} {np : Nat} {L : va_W} {T : Nat} {yb tc pc : Nat → Int32} {r p p' : Nat} {o : Option Nat} (t : Nat) (ht : t < 2 ^ 31) (h : vw k np L T yb tc pc r p o p') : ∃ (q : Nat) (kd nm : Int32) (pp : Option Nat), o = some q ∧ vo L (some q) kd nm pp ∧ ((kd = 5 ∧ nm = nI t) ↔ isA yb tc t p) ∧ (yb p = nI 64 → ∃ κ s, κ ≤ 12 ∧ s < T ∧ yb (p + 1) = nI κ ∧ tc κ = nI s) ∧ ((yb p = nI 91 ∧ kd = 4 ∧ ∃ n r', yb (p + 1) = nI n ∧ nm = nI n ∧ r = r' + 1 ∧ vParts (vw k np L T yb tc pc r') k L T yb tc false pp n (p + 2) p') ∨ (yb p ≠ nI 91 ∧ kd ≠ 4)) := by
  cases r with
  | zero => exact False.elim h
  | succ r =>
    have ne : ∀ a b : Nat, a < 128 → b < 128 → a ≠ b → nI a ≠ nI b := fun a b ha hb hab e => hab ((nI_eq (by omega) (by omega)).mp e)
    rcases h with ⟨κ, pq, v, es, -, -, -, -, -, hvo, -⟩ | ⟨κ, s, es, -, -, -, -, -, hvo, -⟩ | ⟨κ, s, es, -, -, -, -, -, hvo, -⟩ | ⟨n, pp, es, en, hvo, hpp⟩ | ⟨κ, s, n, pp, es, eκ, -, hκ, hs, etc, en, hvo, hpp⟩
    · have hvo2 := hvo
      obtain ⟨q, j, e, -⟩ := hvo
      rw [e] at hvo2
      exact ⟨q, _, _, _, e, hvo2, ⟨fun h9 => absurd h9.1 (by decide), fun h9 => absurd (es.symm.trans h9.1) (ne 73 64 (by omega) (by omega) (by omega))⟩, fun h9 => absurd (es.symm.trans h9) (ne 73 64 (by omega) (by omega) (by omega)), Or.inr ⟨fun h9 => ne 73 91 (by omega) (by omega) (by omega) (es.symm.trans h9), by decide⟩⟩
    · have hvo2 := hvo
      obtain ⟨q, j, e, -⟩ := hvo
      rw [e] at hvo2
      exact ⟨q, _, _, _, e, hvo2, ⟨fun h9 => absurd h9.1 (by decide), fun h9 => absurd (es.symm.trans h9.1) (ne 115 64 (by omega) (by omega) (by omega))⟩, fun h9 => absurd (es.symm.trans h9) (ne 115 64 (by omega) (by omega) (by omega)), Or.inr ⟨fun h9 => ne 115 91 (by omega) (by omega) (by omega) (es.symm.trans h9), by decide⟩⟩
    · have hvo2 := hvo
      obtain ⟨q, j, e, -⟩ := hvo
      rw [e] at hvo2
      exact ⟨q, _, _, _, e, hvo2, ⟨fun h9 => absurd h9.1 (by decide), fun h9 => absurd (es.symm.trans h9.1) (ne 99 64 (by omega) (by omega) (by omega))⟩, fun h9 => absurd (es.symm.trans h9) (ne 99 64 (by omega) (by omega) (by omega)), Or.inr ⟨fun h9 => ne 99 91 (by omega) (by omega) (by omega) (es.symm.trans h9), by decide⟩⟩
    · have hvo2 := hvo
      obtain ⟨q, j, e, -⟩ := hvo
      rw [e] at hvo2
      exact ⟨q, _, _, _, e, hvo2, ⟨fun h9 => absurd h9.1 (by decide), fun h9 => absurd (es.symm.trans h9.1) (ne 91 64 (by omega) (by omega) (by omega))⟩, fun h9 => absurd (es.symm.trans h9) (ne 91 64 (by omega) (by omega) (by omega)), Or.inl ⟨es, rfl, n, r, en, rfl, rfl, hpp⟩⟩
    · have hvo2 := hvo
      obtain ⟨q, j, e, -⟩ := hvo
      rw [e] at hvo2
      refine ⟨q, _, _, _, e, hvo2, ⟨fun h9 => ⟨es, κ, hκ, eκ, etc.trans h9.2⟩, fun h9 => ⟨rfl, ?_⟩⟩, fun _ => ⟨κ, s, hκ, hs, eκ, etc⟩, Or.inr ⟨fun h9 => ne 64 91 (by omega) (by omega) (by omega) (es.symm.trans h9), by decide⟩⟩
      obtain ⟨-, κ', hκ', eκ', et'⟩ := h9
      have : κ = κ' := (nI_eq (by omega) (by omega)).mp (eκ.symm.trans eκ')
      subst this
      exact etc.symm.trans et'
set_option maxRecDepth 100000 in
set_option maxHeartbeats 2000000 in
/-- annotations of type t in the first element's row: both count the same -/
theorem both_inRow {b : Nat → Nat} {k : Nat → ClassId} {σ : cS} {τ : rS} {T d t i n p p' qa : Nat} {pp : Option Nat} {s : Int32} (hd : d < 16) (hi : i < 4) (hT : T ≤ 192) (ht : t < T) (ep : τ.2 16 (4 * d + i) = nI p) (hp' : p' ≤ 1920) (en : τ.2 2 (p + 1) = nI n) (hpp2 : p + 2 ≤ p') (hvo : vo σ.2.2.2.2 (some qa) 5 s pp) (hpp : vParts (vw k (b 14) σ.2.2.2.2 T (τ.2 2) (fun κ => τ.2 8 (13 * d + κ)) (fun κ => τ.2 7 (13 * d + κ)) 4) k σ.2.2.2.2 T (τ.2 2) (fun κ => τ.2 8 (13 * d + κ)) true pp n (p + 2) p') : ∃ r : Nat, r ≤ 4 ∧ (∀ Q, Q (nI r) σ → C_X5_contained_w b k qa Q (nI t) σ) ∧ ∀ Q l0 m0, (∀ l m, Q (nI r) (bk τ l m)) → R_inRow_w Q (nI d) (nI i) (nI t) (bk τ l0 m0) := by
  obtain ⟨q1, j1, e1, hj1⟩ := hvo
  cases e1
  have hple := vParts_le (fun p o p' h => by have := vw_le _ _ _ _ h; omega) hpp
  obtain ⟨q, j, jn, jv, an, av, nm, vs, po, rfl, hj, hjn, hjv, hn4, e0, epn, hall⟩ := hpp
  have hpR0 : pR σ.2.2.2.2 (some qa) 5 2 (some q) := ⟨qa, j1, _, rfl, hj1, rfl⟩
  have hX0 : pX σ.2.2.2.2 (some q) 2 q := ⟨rfl, j, _, hj⟩
  have c4 : (nI (4 * d + i)).toNatClampNeg = 4 * d + i := nI_clamp (by omega)
  have v4 : vp_in (nI (4 * d + i)) 64 := vp_in_nI (by omega) (by omega)
  -- the reference's head
  have rhead : ∀ (Q : Int32 → rS → Prop) (l0 m0 : Nat → Int32), (n = 0 → Q 0 (bk τ l0 m0)) → (0 < n → p + 3 < 1920 ∧ (τ.2 2 (p + 3) = nI 91 → R_inRow_b52 Q (nI d) (nI t) (nI p) 0 (nI (p + 5)) 0 (bk τ l0 m0)) ∧ (¬ τ.2 2 (p + 3) = nI 91 → Q 0 (bk τ l0 m0))) → p + 1 < 1920 → R_inRow_w Q (nI d) (nI i) (nI t) (bk τ l0 m0) := by
    intro Q l0 m0 h0 h1 hp1
    show vp_in ((4 : Int32) * nI d + nI i) 64 ∧ ∀ v10 : Int32, v10 = τ.2 16 ((4 : Int32) * nI d + nI i).toNatClampNeg → vp_in (v10 + 1) 1920 ∧ (τ.2 2 (v10 + 1).toNatClampNeg = 0 → Q 0 (bk τ l0 m0)) ∧ (¬ τ.2 2 (v10 + 1).toNatClampNeg = 0 → vp_in (v10 + 3) 1920 ∧ (τ.2 2 (v10 + 3).toNatClampNeg = 91 → ∀ v47 : Int32, v47 = v10 + 5 → R_inRow_b52 Q (nI d) (nI t) v10 0 v47 0 (bk τ l0 m0)) ∧ (¬ τ.2 2 (v10 + 3).toNatClampNeg = 91 → Q 0 (bk τ l0 m0)))
    rw [e4, c4, ep]
    refine ⟨v4, fun v ev => ?_⟩
    subst ev
    have e3 : nI p + 3 = nI (p + 3) := nI_add p 3
    rw [nI_1, e3, nI_clamp (n := p + 1) (by omega), en]
    refine ⟨vp_in_nI hp1 (by omega), fun h9 => h0 ?_, fun h9 => ?_⟩
    · exact (nI_eq (b := 0) (by omega) (by omega)).mp h9
    · have hn0 : 0 < n := by
        rcases Nat.eq_zero_or_pos n with h7 | h7
        · exact absurd (by rw [h7]; rfl) h9
        · exact h7
      obtain ⟨a1, a2, a3⟩ := h1 hn0
      rw [nI_clamp (n := p + 3) (by omega)]
      refine ⟨vp_in_nI a1 (by omega), fun h8 v ev => ?_, a3⟩
      have : v = nI (p + 5) := by rw [ev]; exact nI_add p 5
      subst this
      exact a2 h8
  by_cases hn0 : n = 0
  · subst hn0
    refine ⟨0, by omega, fun Q hQ => ⟨some q, hpR0, q, hX0, c_nth hj hjv (by omega) (fun d h9 => absurd h9 (Nat.not_lt_zero _)) (fun _ => ⟨fun _ => hQ, fun h9 => absurd rfl h9⟩)⟩, fun Q l0 m0 hQ => rhead Q l0 m0 (fun _ => hQ l0 m0) (fun h9 => absurd h9 (Nat.lt_irrefl _)) (by omega)⟩
  -- the first element
  obtain ⟨hA, -⟩ := hall 0 (by omega)
  obtain ⟨-, hv0⟩ := hA rfl
  rw [e0] at hv0
  have hv0 : vw k (b 14) σ.2.2.2.2 T (τ.2 2) (fun κ => τ.2 8 (13 * d + κ)) (fun κ => τ.2 7 (13 * d + κ)) 4 (p + 3) (vs 0) (po 1) := hv0
  have hpo1 : po 1 ≤ p' := by
    have : ∀ a, a ≤ n - 1 → po 1 ≤ po (1 + a) := by
      intro a
      induction a with
      | zero => intro _; exact Nat.le_refl _
      | succ a iha =>
        intro ha
        have h1 := iha (by omega)
        have h2 := vw_le _ _ _ _ ((hall (1 + a) (by omega)).1 rfl).2
        rw [show 1 + (a + 1) = 1 + a + 1 by omega]
        omega
    have := this (n - 1) (Nat.le_refl _)
    rw [show 1 + (n - 1) = n by omega, epn] at this
    exact this
  have hle0 := vw_le _ _ _ _ hv0
  obtain ⟨q0, kd, nm0, pp0, eo0, hvo0, -, -, hrow⟩ := vw_isA t (by omega) hv0
  have hvo0' := hvo0
  obtain ⟨q0', j0, ee0, hj0⟩ := hvo0
  cases ee0
  have chead : ∀ (Q : Int32 → cS → Prop), (kd = 4 → C_X5_contained_b28 b k qa Q (nI t) (some q0) 0 1 σ) → (¬ kd = 4 → Q 0 σ) → C_X5_contained_w b k qa Q (nI t) σ := by
    intro Q g1 g0
    refine ⟨some q, hpR0, q, hX0, c_nth hj hjv (by omega) (fun d' hd' ed => ?_) (fun h9 => absurd rfl (h9 0 (by omega)))⟩
    have : d' = 0 := by have := (nI_eq (a := 1) (b := d' + 1) (by omega) (by omega)).mp ed; omega
    subst this
    rw [eo0]
    exact ⟨fun h9 => (by cases h9), fun _ => ⟨kd, ⟨q0, j0, _, rfl, hj0, rfl⟩, g1, g0⟩⟩
  rcases hrow with ⟨e91, ek4, n2, r', en2, enm, er, hpp2'⟩ | ⟨hn91, hk4⟩
  · have er : r' = 3 := by omega
    subst er
    obtain ⟨q2, j2, jn2, jv2, an2, av2, nm2, vs2, po2, rfl, hj2, hjn2, hjv2, hn42, e02, epn2, hall2⟩ := hpp2'
    have hV : ∀ a, a < n2 → vw k (b 14) σ.2.2.2.2 T (τ.2 2) (fun κ => τ.2 8 (13 * d + κ)) (fun κ => τ.2 7 (13 * d + κ)) 3 (po2 a) (vs2 a) (po2 (a + 1)) := fun a ha => ((hall2 a ha).2 rfl).2
    have hmono : ∀ a, a ≤ n2 → po2 0 ≤ po2 a := by
      intro a
      induction a with
      | zero => intro _; exact Nat.le_refl _
      | succ a iha => intro ha; have h1 := iha (by omega); have h2 := vw_le _ _ _ _ (hV a (by omega)); omega
    have hmono2 : ∀ a, a ≤ n2 → po2 a ≤ po2 n2 := by
      intro a ha
      have : ∀ c, a + c ≤ n2 → po2 a ≤ po2 (a + c) := by
        intro c
        induction c with
        | zero => intro _; exact Nat.le_refl _
        | succ c ihc => intro hc; have h1 := ihc (by omega); have h2 := vw_le _ _ _ _ (hV (a + c) (by omega)); rw [show a + (c + 1) = a + c + 1 by omega]; omega
      have := this (n2 - a) (by omega)
      rw [show a + (n2 - a) = n2 by omega] at this
      exact this
    obtain ⟨P, hP⟩ : ∃ P : Nat → Prop, P = fun a => isA (τ.2 2) (fun κ => τ.2 8 (13 * d + κ)) t (po2 a) := ⟨_, rfl⟩
    have hrc := rc_le P n2
    refine ⟨rc P n2, by omega, fun Q hQ => chead Q (fun _ => ?_) (fun h9 => absurd ek4 h9), fun Q l0 m0 hQ => rhead Q l0 m0 (fun h9 => absurd h9 hn0) (fun _ => ⟨by omega, fun _ => ?_, fun h9 => absurd e91 h9⟩) (by omega)⟩
    · -- the class counts
      have hpR2 : pR σ.2.2.2.2 (some q0) 5 2 (some q2) := ⟨q0, j0, _, rfl, hj0, rfl⟩
      have hpRv : pR σ.2.2.2.2 (some q2) 2 1 (some av2) := ⟨q2, j2, _, rfl, hj2, rfl⟩
      have hpQv : pQ σ.2.2.2.2 (some av2) (k 3) n2 vs2 := ⟨av2, jv2, rfl, hjv2⟩
      refine fx_ex (C_X5_contained_b28_f b k qa Q) (fun z => ∃ a : Nat, a ≤ n2 ∧ z = (nI t, some q0, nI (rc P a), nI (a + 1), σ)) (fun z => 6 - z.2.2.2.1.toNatClampNeg) ?_ _ ⟨0, by omega, rfl⟩
      rintro K _ ⟨a, ha, rfl⟩ hK
      have hra := rc_le P a
      show C_X5_contained_b28_s b k qa Q (fun x1 x2 x3 x4 σ => K (x1, x2, x3, x4, σ)) (nI t) (some q0) (nI (rc P a)) (nI (a + 1)) σ
      have nx : C_X5_contained_b69 b k qa Q (fun x1 x2 x3 x4 σ => K (x1, x2, x3, x4, σ)) (nI t) (some q0) (nI (rc P (a + 1))) (nI (a + 1)) σ ∨ n2 ≤ a := by
        rcases Nat.lt_or_ge a n2 with h7 | h7
        · left
          intro v ev
          rw [nI_1] at ev
          subst ev
          refine hK (nI t, some q0, nI (rc P (a + 1)), nI (a + 1 + 1), σ) ⟨a + 1, h7, rfl⟩ ?_
          show 6 - (nI (a + 1 + 1)).toNatClampNeg < 6 - (nI (a + 1)).toNatClampNeg
          rw [nI_clamp (by omega), nI_clamp (by omega)]; omega
        · exact Or.inr h7
      refine ⟨some q2, hpR2, some av2, hpRv, n2, vs2, hpQv, fun h9 => ?_, fun h9 => ?_⟩
      · have := (nI_ltI (a := n2) (b := a + 1) (by omega) (by omega)).mp h9
        have : a = n2 := by omega
        subst this
        exact hQ
      · have hlt : a < n2 := by
          rcases Nat.lt_or_ge a n2 with h7 | h7
          · exact h7
          · exact absurd (nI_lt (a := n2) (b := a + 1) (by omega) (by omega)) h9
        have nx := nx.elim id (fun h7 => absurd hlt (by omega))
        refine ⟨some q2, hpR2, q2, ⟨rfl, j2, _, hj2⟩, c_nth hj2 hjv2 (by omega) (fun d' hd' ed => ?_) (fun h8 => absurd rfl (h8 a hlt))⟩
        have : d' = a := by have := (nI_eq (a := a + 1) (b := d' + 1) (by omega) (by omega)).mp ed; omega
        subst this
        obtain ⟨qv, kd', nm', pp', eov, hvov, hiff, -, -⟩ := vw_isA t (by omega) (hV d' hlt)
        rw [eov]
        have hvov2 := hvov
        obtain ⟨qv', jv', eev, hjv'⟩ := hvov
        cases eev
        refine ⟨fun h8 => (by cases h8), fun _ => ⟨qv, ⟨rfl, jv', _, hjv'⟩, c_isAnn2 hvov2 (fun hy => ⟨fun h8 => absurd h8 n1_ne0, fun _ v ev => ?_⟩) (fun hy => ⟨fun _ => ?_, fun h8 => absurd rfl h8⟩)⟩⟩
        · have hPa : P d' := by rw [hP]; exact hiff.mp hy
          rw [nI_1, ← rc_t hPa] at ev
          subst ev
          exact nx
        · have hPa : ¬ P d' := by rw [hP]; exact fun h7 => hy (hiff.mpr h7)
          rw [rc_f hPa] at nx
          exact nx
    · -- the reference counts
      have en4 : τ.2 2 (p + 4) = nI n2 := en2
      have c4' : (nI (p + 4)).toNatClampNeg = p + 4 := nI_clamp (by omega)
      refine fx_ex (R_inRow_b52_f Q) (fun z => ∃ (a : Nat) (l m : Nat → Int32), a ≤ n2 ∧ z = (nI d, nI t, nI p, nI (rc P a), nI (po2 a), nI a, bk τ l m)) (fun z => 6 - z.2.2.2.2.2.1.toNatClampNeg) ?_ _ ⟨0, l0, m0, by omega, by rw [e02]; rfl⟩
      rintro K _ ⟨a, l, m, ha, rfl⟩ hK
      have hra := rc_le P a
      show R_inRow_b52_s Q (fun x1 x3 x4 x5 x6 x7 σ => K (x1, x3, x4, x5, x6, x7, σ)) (nI d) (nI t) (nI p) (nI (rc P a)) (nI (po2 a)) (nI a) (bk τ l m)
      have e4' : nI p + 4 = nI (p + 4) := nI_add p 4
      show vp_in (nI p + 4) 1920 ∧ (τ.2 2 (nI p + 4).toNatClampNeg ≤ nI a → Q (nI (rc P a)) (bk τ l m)) ∧ (¬ τ.2 2 (nI p + 4).toNatClampNeg ≤ nI a → vp_in (nI (po2 a)) 1920 ∧ (¬ τ.2 2 (nI (po2 a)).toNatClampNeg = 64 → R_inRow_b104 Q _ (nI d) (nI t) (nI p) (nI (rc P a)) (nI (po2 a)) (nI a) (bk τ l m)) ∧ (τ.2 2 (nI (po2 a)).toNatClampNeg = 64 → vp_in (nI (po2 a) + 1) 1920 ∧ vp_in ((13 : Int32) * nI d + τ.2 2 (nI (po2 a) + 1).toNatClampNeg) 208 ∧ (¬ τ.2 8 ((13 : Int32) * nI d + τ.2 2 (nI (po2 a) + 1).toNatClampNeg).toNatClampNeg = nI t → R_inRow_b104 Q _ (nI d) (nI t) (nI p) (nI (rc P a)) (nI (po2 a)) (nI a) (bk τ l m)) ∧ (τ.2 8 ((13 : Int32) * nI d + τ.2 2 (nI (po2 a) + 1).toNatClampNeg).toNatClampNeg = nI t → ∀ v101 : Int32, v101 = nI (rc P a) + 1 → R_inRow_b104 Q _ (nI d) (nI t) (nI p) v101 (nI (po2 a)) (nI a) (bk τ l m))))
      rw [e4', c4', en4]
      have hpa : po2 a ≤ po2 n2 := hmono2 a ha
      have hpb : po2 n2 ≤ 1920 := by rw [epn2]; omega
      refine ⟨vp_in_nI (by omega) (by omega), fun h9 => ?_, fun h9 => ?_⟩
      · have : a = n2 := by have := (nI_leI (by omega) (by omega)).mp h9; omega
        subst this
        exact hQ l m
      · have hlt : a < n2 := by
          rcases Nat.lt_or_ge a n2 with h7 | h7
          · exact h7
          · exact absurd (nI_le h7 (by omega)) h9
        have hva := hV a hlt
        have hla := vw_le _ _ _ _ hva
        have hpa1 : po2 (a + 1) ≤ 1920 := Nat.le_trans (hmono2 (a + 1) hlt) hpb
        have ca : (nI (po2 a)).toNatClampNeg = po2 a := nI_clamp (by omega)
        have nx : R_inRow_b104 Q (fun x1 x3 x4 x5 x6 x7 σ => K (x1, x3, x4, x5, x6, x7, σ)) (nI d) (nI t) (nI p) (nI (rc P (a + 1))) (nI (po2 a)) (nI a) (bk τ l m) := by
          refine r_behind hva (by omega) hpa1 l m (fun l' m' v ev => ?_)
          rw [nI_1] at ev
          subst ev
          refine hK (nI d, nI t, nI p, nI (rc P (a + 1)), nI (po2 (a + 1)), nI (a + 1), bk τ l' m') ⟨a + 1, l', m', hlt, rfl⟩ ?_
          show 6 - (nI (a + 1)).toNatClampNeg < 6 - (nI a).toNatClampNeg
          rw [nI_clamp (by omega), nI_clamp (by omega)]; omega
        obtain ⟨qv, kd', nm', pp', eov, hvov, hiff, h64, -⟩ := vw_isA t (by omega) hva
        rw [ca]
        refine ⟨vp_in_nI (by omega) (by omega), fun h8 => ?_, fun h8 => ?_⟩
        · have hPa : ¬ P a := by rw [hP]; exact fun h7 => h8 h7.1
          rw [rc_f hPa] at nx
          exact nx
        · obtain ⟨κ, s', hκ, hs', eκ, es'⟩ := h64 h8
          rw [nI_1, nI_clamp (n := po2 a + 1) (by omega), eκ, e13, nI_clamp (n := 13 * d + κ) (by omega)]
          refine ⟨vp_in_nI (by omega) (by omega), vp_in_nI (by omega) (by omega), fun h7 => ?_, fun h7 v ev => ?_⟩
          · have hPa : ¬ P a := by
              rw [hP]
              rintro ⟨-, κ', hκ', eκ', et'⟩
              have : κ = κ' := (nI_eq (by omega) (by omega)).mp (eκ.symm.trans eκ')
              subst this
              exact h7 et'
            rw [rc_f hPa] at nx
            exact nx
          · have hPa : P a := by rw [hP]; exact ⟨h8, κ, hκ, eκ, h7⟩
            rw [nI_1, ← rc_t hPa] at ev
            subst ev
            exact nx
  · refine ⟨0, by omega, fun Q hQ => chead Q (fun h9 => absurd h9 hk4) (fun _ => hQ), fun Q l0 m0 hQ => rhead Q l0 m0 (fun h9 => absurd h9 hn0) (fun _ => ⟨by omega, fun h9 => absurd h9 hn91, fun _ => hQ l0 m0⟩) (by omega)⟩
