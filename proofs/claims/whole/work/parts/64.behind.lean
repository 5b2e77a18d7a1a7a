/-! the reference's way over a value, by its own stack -/
def bk (τ : rS) (l m : Nat → Int32) : rS := (τ.1, va_up (va_up τ.2 25 l) 26 m)
theorem bk_26 {τ : rS} {l m : Nat → Int32} {i : Nat} (hi : i < 2 ^ 31) (x : Int32) : rA (bk τ l m) 26 (nI i) x = bk τ l (upd m i x) := by
  unfold rA bk
  rw [nI_clamp hi]
  show (τ.1, va_up (va_up (va_up τ.2 25 l) 26 m) 26 (upd m i x)) = _
  rw [bx_uu]
theorem bk_25 {τ : rS} {l m : Nat → Int32} {i : Nat} (hi : i < 2 ^ 31) (x : Int32) : rA (bk τ l m) 25 (nI i) x = bk τ (upd l i x) m := by
  unfold rA bk
  rw [nI_clamp hi]
  show (τ.1, va_up (va_up (va_up τ.2 25 l) 26 m) 25 (upd l i x)) = _
  have : va_up (va_up (va_up τ.2 25 l) 26 m) 25 (upd l i x) = va_up (va_up τ.2 25 (upd l i x)) 26 m := by
    funext j
    unfold va_up
    by_cases h4 : j = 25
    · subst h4; rfl
    · rw [if_neg h4, if_neg h4, if_neg h4]
  rw [this]
theorem bk_self (τ : rS) : bk τ (τ.2 25) (τ.2 26) = τ := by
  unfold bk
  have : va_up (va_up τ.2 25 (τ.2 25)) 26 (τ.2 26) = τ.2 := by
    funext j
    unfold va_up
    by_cases h5 : j = 26
    · rw [if_pos h5, h5]
    · rw [if_neg h5]
      by_cases h4 : j = 25
      · rw [if_pos h4, h4]
      · rw [if_neg h4]
  rw [this]
theorem bk_bk (τ : rS) (a b c d : Nat → Int32) : bk (bk τ a b) c d = bk τ c d := by
  unfold bk
  show (τ.1, va_up (va_up (va_up (va_up τ.2 25 a) 26 b) 25 c) 26 d) = _
  have : va_up (va_up (va_up (va_up τ.2 25 a) 26 b) 25 c) 26 d = va_up (va_up τ.2 25 c) 26 d := by
    funext j
    unfold va_up
    by_cases h5 : j = 26
    · simp [h5]
    · by_cases h4 : j = 25
      · simp [h4]
      · simp [h4, h5]
  rw [this]
theorem vParts_le {V : Nat → Option Nat → Nat → Prop} {k : Nat → ClassId} {L : va_W} {T : Nat} {yb tc : Nat → Int32} {named : Bool} {pp : Option Nat} {n p p' : Nat} (hV : ∀ p o p', V p o p' → p ≤ p') (h : vParts V k L T yb tc named pp n p p') : p ≤ p' := by
  obtain ⟨q, j, jn, jv, an, av, nm, vs, po, -, -, -, -, -, e0, en, hall⟩ := h
  have : ∀ i, i ≤ n → po 0 ≤ po i := by
    intro i
    induction i with
    | zero => intro _; exact Nat.le_refl _
    | succ i ih =>
      intro hi
      have h1 := ih (by omega)
      obtain ⟨ht, hf⟩ := hall i (by omega)
      cases named with
      | true => have := hV _ _ _ (ht rfl).2; omega
      | false => have := hV _ _ _ (hf rfl).2; omega
  have := this n (Nat.le_refl _)
  omega
theorem vw_le {k : Nat → ClassId} {np : Nat} {L : va_W} {T : Nat} {yb tc pc : Nat → Int32} : ∀ (r p : Nat) (o : Option Nat) (p' : Nat), vw k np L T yb tc pc r p o p' → p + 2 ≤ p' := by
  intro r
  induction r with
  | zero => intro p o p' h; exact False.elim h
  | succ r ih =>
    intro p o p' h
    have hV : ∀ p o p', vw k np L T yb tc pc r p o p' → p ≤ p' := fun p o p' h => by have := ih p o p' h; omega
    rcases h with ⟨κ, pq, v, -, -, -, -, -, -, -, rfl⟩ | ⟨κ, s, -, -, -, -, -, -, -, rfl⟩ | ⟨κ, s, -, -, -, -, -, -, -, rfl⟩ | ⟨n, pp, -, -, -, h⟩ | ⟨κ, s, n, pp, -, -, -, -, -, -, -, -, h⟩
    · omega
    · omega
    · omega
    · exact vParts_le hV h
    · have := vParts_le hV h; omega
set_option maxRecDepth 100000 in
set_option maxHeartbeats 2000000 in
/-- over the values of a row or an annotation; and over one value -/
theorem r_over {Q : Int32 → rS → Prop} {τ : rS} {k : Nat → ClassId} {np : Nat} {L : va_W} {T : Nat} {tc pc : Nat → Int32} : ∀ r : Nat,
    (∀ (p : Nat) (o : Option Nat) (p' d : Nat) (l m : Nat → Int32), vw k np L T (τ.2 2) tc pc r p o p' → p' ≤ 1920 → 1 ≤ d → d + r ≤ 6 → ∃ (l' m' : Nat → Int32), (∀ i, i ≤ d → l' i = l i ∧ m' i = m i) ∧ ∃ k0 : Nat, ∀ F, fx (R_behind_b18_f Q) F (nI p', nI d, bk τ l' m') → R_behind_b63 Q (fun x2 x3 σ => fx (R_behind_b18_f Q) (F + k0) (x2, x3, σ)) (nI d) (nI p) (bk τ l m)) := by
  intro r
  induction r with
  | zero => intro p o p' d l m h; exact False.elim h
  | succ r ih =>
    -- the values of a part, from the i-th on
    have parts : ∀ (named : Bool) (n : Nat) (po : Nat → Nat) (vs : Nat → Option Nat) (d : Nat), n ≤ 4 → po n ≤ 1920 → 1 ≤ d → d + r ≤ 6 → (∀ i, i < n → (named = true → vw k np L T (τ.2 2) tc pc r (po i + 1) (vs i) (po (i + 1))) ∧ (named = false → vw k np L T (τ.2 2) tc pc r (po i) (vs i) (po (i + 1)))) → ∀ (u i : Nat), i + u = n → ∀ (l m : Nat → Int32), l d = nI u → m d = (if named = true then 1 else 0) → ∃ (l' m' : Nat → Int32), (∀ i, i < d → l' i = l i ∧ m' i = m i) ∧ l' d = 0 ∧ ∃ k0 : Nat, ∀ F, fx (R_behind_b18_f Q) F (nI (po n), nI d, bk τ l' m') → fx (R_behind_b18_f Q) (F + k0) (nI (po i), nI d, bk τ l m) := by
      intro named n po vs d hn hp hd hdr hV u
      induction u with
      | zero =>
        intro i hi l m hl hm
        have : i = n := by omega
        subst this
        exact ⟨l, m, fun _ _ => ⟨rfl, rfl⟩, hl, 0, fun F h => h⟩
      | succ u ihu =>
        intro i hi l m hl hm
        have hmono : ∀ a, a ≤ n - (i + 1) → po (i + 1) ≤ po (i + 1 + a) := by
          intro a
          induction a with
          | zero => intro _; exact Nat.le_refl _
          | succ a iha =>
            intro ha
            have h1 := iha (by omega)
            obtain ⟨q1, q2⟩ := hV (i + 1 + a) (by omega)
            cases named with
            | true => have := vw_le _ _ _ _ (q1 rfl); rw [show i + 1 + (a + 1) = i + 1 + a + 1 by omega]; omega
            | false => have := vw_le _ _ _ _ (q2 rfl); rw [show i + 1 + (a + 1) = i + 1 + a + 1 by omega]; omega
        have hpo : po (i + 1) ≤ 1920 := by
          have := hmono (n - (i + 1)) (Nat.le_refl _)
          rw [show i + 1 + (n - (i + 1)) = n by omega] at this
          omega
        have cd : (nI d).toNatClampNeg = d := nI_clamp (by omega)
        have vd : vp_in (nI d) 7 := vp_in_nI (by omega) (by omega)
        -- the value itself
        obtain ⟨q1, q2⟩ := hV i (by omega)
        have start : ∃ (y : Nat), ((if named = true then po i + 1 else po i) = y) ∧ ∃ o, vw k np L T (τ.2 2) tc pc r y o (po (i + 1)) := by
          cases named with
          | true => exact ⟨_, rfl, vs i, q1 rfl⟩
          | false => exact ⟨_, rfl, vs i, q2 rfl⟩
        obtain ⟨y, ey, o, hvy⟩ := start
        obtain ⟨l1, m1, hlm, k1, hk1⟩ := ih y o (po (i + 1)) d (upd l d (nI u)) m hvy hpo hd hdr
        obtain ⟨l2, m2, hlm2, hz2, k2, hk2⟩ := ihu (i + 1) (by omega) l1 m1 (by rw [(hlm d (Nat.le_refl _)).1]; exact pk_us) (by rw [(hlm d (Nat.le_refl _)).2]; exact hm)
        refine ⟨l2, m2, fun a ha => ?_, hz2, k2 + k1 + 1, fun F h => ?_⟩
        · obtain ⟨a1, a2⟩ := hlm2 a ha
          obtain ⟨a3, a4⟩ := hlm a (by omega)
          exact ⟨by rw [a1, a3, pk_un (by omega)], by rw [a2, a4]⟩
        · have h2 := hk1 (F + k2) (hk2 F h)
          rw [show F + k2 + k1 = F + (k2 + k1) by omega] at h2
          show R_behind_b18_s Q (fun x2 x3 σ => fx (R_behind_b18_f Q) (F + (k2 + k1)) (x2, x3, σ)) (nI (po i)) (nI d) (bk τ l m)
          refine ⟨fun h9 => absurd h9 (nI_nle (by omega) (by omega)), fun _ => ⟨vd, fun _ => ⟨vd, vd, fun t1 e1 => ?_⟩, fun h9 => ?_⟩⟩
          · have e1 : t1 = rA (bk τ l m) 25 (nI d) (l (nI d).toNatClampNeg - 1) := e1
            rw [cd, hl, nI_pred, bk_25 (by omega)] at e1
            subst e1
            show vp_in (nI d) 7 ∧ (m (nI d).toNatClampNeg = 0 → R_behind_b63 Q _ (nI d) (nI (po i)) (bk τ (upd l d (nI u)) m)) ∧ (¬ m (nI d).toNatClampNeg = 0 → R_behind_b63 Q _ (nI d) (nI (po i) + 1) (bk τ (upd l d (nI u)) m))
            rw [cd, hm, nI_1]
            cases named with
            | true =>
              refine ⟨vd, fun h9 => absurd h9 (by decide), fun _ => ?_⟩
              have ey : po i + 1 = y := ey
              rw [ey]; exact h2
            | false =>
              refine ⟨vd, fun _ => ?_, fun h9 => absurd rfl h9⟩
              have ey : po i = y := ey
              rw [ey]; exact h2
          · have h9 : l (nI d).toNatClampNeg = 0 := h9
            rw [cd, hl] at h9
            exact absurd h9 (nI_ne0 (by omega) (by omega))
    -- a row's or an annotation's parts, pushed and popped
    have push : ∀ (named : Bool) (n : Nat) (pp : Option Nat) (p p' d : Nat) (l m : Nat → Int32), vParts (vw k np L T (τ.2 2) tc pc r) k L T (τ.2 2) tc named pp n p p' → p' ≤ 1920 → 1 ≤ d → d + (r + 1) ≤ 6 → l (d + 1) = nI n → m (d + 1) = (if named = true then 1 else 0) → ∃ (l' m' : Nat → Int32), (∀ i, i ≤ d → l' i = l i ∧ m' i = m i) ∧ ∃ k0 : Nat, ∀ F, fx (R_behind_b18_f Q) F (nI p', nI d, bk τ l' m') → fx (R_behind_b18_f Q) (F + k0) (nI p, nI (d + 1), bk τ l m) := by
      intro named n pp p p' d l m h hp' hd hdr hl hm
      obtain ⟨q, j, jn, jv, an, av, nm, vs, po, -, -, -, -, hn4, e0, en, hall⟩ := h
      obtain ⟨l', m', hlm, hz, k0, hk⟩ := parts named n po vs (d + 1) hn4 (by omega) (by omega) (by omega) (fun i hi => ⟨fun e => ((hall i hi).1 e).2, fun e => ((hall i hi).2 e).2⟩) n 0 (by omega) l m hl hm
      refine ⟨l', m', fun i hi => hlm i (by omega), 1 + k0, fun F hF => ?_⟩
      have cd : (nI (d + 1)).toNatClampNeg = d + 1 := nI_clamp (by omega)
      have vd : vp_in (nI (d + 1)) 7 := vp_in_nI (by omega) (by omega)
      have h1 : fx (R_behind_b18_f Q) (F + 1) (nI (po n), nI (d + 1), bk τ l' m') := by
        show R_behind_b18_s Q (fun x2 x3 σ => fx (R_behind_b18_f Q) F (x2, x3, σ)) (nI (po n)) (nI (d + 1)) (bk τ l' m')
        refine ⟨fun h9 => absurd h9 (nI_nle (by omega) (by omega)), fun _ => ⟨vd, fun h9 => ?_, fun _ v ev => ?_⟩⟩
        · have h9 : ¬ l' (nI (d + 1)).toNatClampNeg = 0 := h9
          rw [cd] at h9
          exact absurd hz h9
        · rw [pk_m1] at ev
          subst ev
          rw [en]; exact hF
      have := hk (F + 1) h1
      rw [e0] at this
      rw [show F + (1 + k0) = F + 1 + k0 by omega]
      exact this
    intro p o p' d l m h hp' hd hdr
    have hle := vw_le _ _ _ _ h
    have cp : (nI p).toNatClampNeg = p := nI_clamp (by omega)
    have vp : vp_in (nI p) 1920 := vp_in_nI (by omega) (by omega)
    have simple : ∀ s : Nat, s < 128 → s ≠ 91 → s ≠ 64 → τ.2 2 p = nI s → p' = p + 2 → ∃ (l' m' : Nat → Int32), (∀ i, i ≤ d → l' i = l i ∧ m' i = m i) ∧ ∃ k0 : Nat, ∀ F, fx (R_behind_b18_f Q) F (nI p', nI d, bk τ l' m') → R_behind_b63 Q (fun x2 x3 σ => fx (R_behind_b18_f Q) (F + k0) (x2, x3, σ)) (nI d) (nI p) (bk τ l m) := by
      intro s hs h91 h64 es ep
      refine ⟨l, m, fun _ _ => ⟨rfl, rfl⟩, 0, fun F hF => ⟨vp, fun v ev => ?_⟩⟩
      have ev : v = τ.2 2 (nI p).toNatClampNeg := ev
      rw [cp, es] at ev
      subst ev
      refine ⟨fun h9 => absurd ((nI_eq (b := 91) (by omega) (by omega)).mp h9) h91, fun _ => ⟨fun _ v2 ev2 => ?_, fun h9 => absurd ((nI_eq (b := 64) (by omega) (by omega)).mp h9) h64⟩⟩
      have e2 : v2 = nI (p + 2) := by rw [ev2]; exact nI_add p 2
      subst e2
      rw [ep] at hF
      exact hF
    rcases h with ⟨κ, pq, v, es, -, -, -, -, -, -, ep⟩ | ⟨κ, s, es, -, -, -, -, -, -, ep⟩ | ⟨κ, s, es, -, -, -, -, -, -, ep⟩ | ⟨n, pp, es, en, -, hpp⟩ | ⟨κ, s, n, pp, es, eκ, -, -, -, -, en, -, hpp⟩
    · exact simple 73 (by omega) (by omega) (by omega) es ep
    · exact simple 115 (by omega) (by omega) (by omega) es ep
    · exact simple 99 (by omega) (by omega) (by omega) es ep
    · have hpl := vParts_le (fun p o p' h => by have := vw_le _ _ _ _ h; omega) hpp
      obtain ⟨l', m', hlm, k0, hk⟩ := push false n pp (p + 2) p' d (upd l (d + 1) (nI n)) (upd m (d + 1) 0) hpp hp' hd (by omega) pk_us pk_us
      refine ⟨l', m', fun i hi => ⟨by rw [(hlm i hi).1, pk_un (by omega)], by rw [(hlm i hi).2, pk_un (by omega)]⟩, k0, fun F hF => ⟨vp, fun v ev => ?_⟩⟩
      have ev : v = τ.2 2 (nI p).toNatClampNeg := ev
      rw [cp, es] at ev
      subst ev
      refine ⟨fun _ => ⟨fun _ => ?_, fun h9 => absurd h9 (by decide)⟩, fun h9 => absurd rfl h9⟩
      rw [nI_1]
      intro v1 e1
      rw [nI_1] at e1
      subst e1
      have c1 : (nI (p + 1)).toNatClampNeg = p + 1 := nI_clamp (by omega)
      refine ⟨vp_in_nI (by omega) (by omega), vp_in_nI (by omega) (by omega), fun t1 e1 => ?_⟩
      have e1 : t1 = rA (bk τ l m) 25 (nI (d + 1)) (τ.2 2 (nI (p + 1)).toNatClampNeg) := e1
      rw [c1, en, bk_25 (by omega)] at e1
      subst e1
      refine ⟨fun _ => ⟨vp_in_nI (by omega) (by omega), fun t2 e2 v2 ev2 => ?_⟩, fun h9 => absurd h9 (by decide)⟩
      rw [nar0, bk_26 (by omega)] at e2
      subst e2
      rw [nI_1] at ev2
      subst ev2
      exact hk F hF
    · have hpl := vParts_le (fun p o p' h => by have := vw_le _ _ _ _ h; omega) hpp
      obtain ⟨l', m', hlm, k0, hk⟩ := push true n pp (p + 3) p' d (upd l (d + 1) (nI n)) (upd m (d + 1) 1) hpp hp' hd (by omega) pk_us pk_us
      refine ⟨l', m', fun i hi => ⟨by rw [(hlm i hi).1, pk_un (by omega)], by rw [(hlm i hi).2, pk_un (by omega)]⟩, k0, fun F hF => ⟨vp, fun v ev => ?_⟩⟩
      have ev : v = τ.2 2 (nI p).toNatClampNeg := ev
      rw [cp, es] at ev
      subst ev
      refine ⟨fun h9 => absurd h9 (by decide), fun _ => ⟨fun h9 => absurd rfl h9, fun _ => ⟨fun h9 => absurd rfl h9, fun _ => ?_⟩⟩⟩
      have e2 : nI p + 2 = nI (p + 2) := nI_add p 2
      rw [e2]
      intro v1 e1
      rw [nI_1] at e1
      subst e1
      have c1 : (nI (p + 2)).toNatClampNeg = p + 2 := nI_clamp (by omega)
      refine ⟨vp_in_nI (by omega) (by omega), vp_in_nI (by omega) (by omega), fun t1 e1 => ?_⟩
      have e1 : t1 = rA (bk τ l m) 25 (nI (d + 1)) (τ.2 2 (nI (p + 2)).toNatClampNeg) := e1
      rw [c1, en, bk_25 (by omega)] at e1
      subst e1
      refine ⟨fun h9 => absurd rfl h9, fun _ => ⟨vp_in_nI (by omega) (by omega), fun t2 e2 v2 ev2 => ?_⟩⟩
      rw [nar1, bk_26 (by omega)] at e2
      subst e2
      rw [nI_1] at ev2
      subst ev2
      exact hk F hF
/-- the reference goes from a value to its end -/
theorem r_behind {Q : Int32 → rS → Prop} {τ : rS} {k : Nat → ClassId} {np : Nat} {L : va_W} {T : Nat} {tc pc : Nat → Int32} {r p p' : Nat} {o : Option Nat} (hv : vw k np L T (τ.2 2) tc pc r p o p') (hr : r ≤ 4) (hp : p' ≤ 1920) (l0 m0 : Nat → Int32) (h : ∀ l m, Q (nI p') (bk τ l m)) : R_behind_w Q (nI p) (bk τ l0 m0) := by
  intro t1 e1 t2 e2
  have e1 : t1 = rA (bk τ l0 m0) 25 (nI 1) 1 := e1
  rw [bk_25 (by omega)] at e1
  subst e1
  have e2 : t2 = rA (bk τ (upd l0 1 1) m0) 26 (nI 1) (vp_nar .boolean 0) := e2
  rw [nar0, bk_26 (by omega)] at e2
  subst e2
  obtain ⟨l', m', hlm, k0, hk⟩ := r_over (Q := Q) (τ := τ) r p o p' 1 (upd (upd l0 1 1) 1 0) (upd m0 1 0) hv hp (by omega) (by omega)
  refine ⟨2 + k0 + 1, ?_⟩
  have v1 : vp_in (1 : Int32) 7 := vp_in_nI (n := 1) (by omega) (by omega)
  have hend : fx (R_behind_b18_f Q) 2 (nI p', nI 1, bk τ l' m') := by
    show R_behind_b18_s Q (fun x2 x3 σ => fx (R_behind_b18_f Q) 1 (x2, x3, σ)) (nI p') (nI 1) (bk τ l' m')
    refine ⟨fun h9 => absurd h9 (by decide), fun _ => ⟨v1, fun h9 => ?_, fun _ v ev => ?_⟩⟩
    · have h9 : ¬ l' 1 = 0 := h9
      rw [(hlm 1 (Nat.le_refl _)).1, pk_us] at h9
      exact absurd rfl h9
    · subst ev
      show R_behind_b18_s Q _ (nI p') (nI 1 + -1) (bk τ l' m')
      exact ⟨fun _ => h l' m', fun h9 => absurd (by decide) h9⟩
  have hb := hk 2 hend
  show R_behind_b18_s Q (fun x2 x3 σ => fx (R_behind_b18_f Q) (2 + k0) (x2, x3, σ)) (nI p) 1 (bk τ (upd l0 1 1) (upd m0 1 0))
  refine ⟨fun h9 => absurd h9 (by decide), fun _ => ⟨v1, fun _ => ⟨v1, v1, fun t3 e3 => ?_⟩, fun h9 => ?_⟩⟩
  · have e3 : t3 = rA (bk τ (upd l0 1 1) (upd m0 1 0)) 25 (nI 1) ((upd l0 1 1) 1 - 1) := e3
    rw [bk_25 (by omega), pk_us] at e3
    have e3 : t3 = bk τ (upd (upd l0 1 1) 1 0) (upd m0 1 0) := e3
    subst e3
    refine ⟨v1, fun _ => hb, fun h9 => ?_⟩
    have h9 : ¬ (upd m0 1 0) 1 = 0 := h9
    rw [pk_us] at h9
    exact absurd rfl h9
  · have h9 : (upd l0 1 1) 1 = 0 := h9
    rw [pk_us] at h9
    exact absurd h9 (by decide)
