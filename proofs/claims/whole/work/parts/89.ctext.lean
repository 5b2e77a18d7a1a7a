/-! the parse: a text, class side -/
theorem cp_o (σ : cS) (f a x : Int32) {n : Nat} (h3 : n ≠ 3) (h5 : n ≠ 5) : sI (cp σ f a) n x = cp (sI σ n x) f a := by
  unfold sI cp
  have : va_up (va_up (va_up σ.1 3 f) 5 a) n x = va_up (va_up (va_up σ.1 n x) 3 f) 5 a := by
    funext j
    unfold va_up
    by_cases h1 : j = n
    · subst h1; simp [h3, h5]
    · simp [h1]
  rw [this]
theorem isC_sI {σ : cS} {e : Nat} {st : St} {X : cS} (h : isC σ e st X) {n : Nat} (h3 : n ≠ 3) (h5 : n ≠ 5) (x : Int32) : isC (sI σ n x) e st (sI X n x) := by
  cases st with
  | inl a => obtain ⟨ha, rfl⟩ := h; exact ⟨ha, cp_o _ _ _ _ h3 h5⟩
  | inr p => obtain ⟨hp, a, ha, rfl⟩ := h; exact ⟨hp, a, ha, cp_o _ _ _ _ h3 h5⟩
theorem isC_sA {σ : cS} {e : Nat} {st : St} {X : cS} (h : isC σ e st X) (n : Nat) (i x : Int32) : isC (sA σ n i x) e st (sA X n i x) := by
  cases st with
  | inl a => obtain ⟨ha, rfl⟩ := h; exact ⟨ha, rfl⟩
  | inr p => obtain ⟨hp, a, ha, rfl⟩ := h; exact ⟨hp, a, ha, rfl⟩
theorem isC_3 {σ : cS} {e : Nat} {st : St} {X : cS} (he : e ≤ 120) (h : isC σ e st X) : (X.1 3 = 0 → ∃ a, st = .inl a) ∧ (¬ X.1 3 = 0 → ∃ q, st = .inr q) := by
  cases st with
  | inl a => obtain ⟨ha, rfl⟩ := h; exact ⟨fun _ => ⟨a, rfl⟩, fun h9 => absurd rfl h9⟩
  | inr q => obtain ⟨hq, a, ha, rfl⟩ := h; exact ⟨fun h9 => absurd h9 (nI_fq he hq), fun _ => ⟨q, rfl⟩⟩
def TXs (σ : cS) (yb : Nat → Int32) (Tt : Nat × (Nat → Int32)) : Prop := σ.1 1 = nI Tt.1 ∧ textR Tt.1 (σ.2.1 1) (σ.2.1 2) yb Tt.2 ∧ textD Tt.1 (σ.2.1 1) (σ.2.1 2)
noncomputable def nbf (yb : Nat → Int32) (Tt : Nat × (Nat → Int32)) (p : Nat) : Nat := fsT (fun t => sm yb (Tt.2 t) p) Tt.1 0
noncomputable def nbs (yb : Nat → Int32) (Tt : Nat × (Nat → Int32)) (p : Nat) : Nat × (Nat → Int32) := if nbf yb Tt p < Tt.1 then Tt else (Tt.1 + 1, upd Tt.2 Tt.1 (nI p))
def cgT (σ σ' : cS) : Prop := (∀ j, j ≠ 1 → σ'.1 j = σ.1 j) ∧ (∀ j, j ≠ 1 → j ≠ 2 → σ'.2.1 j = σ.2.1 j) ∧ σ'.2.2 = σ.2.2
theorem cgT_refl (σ : cS) : cgT σ σ := ⟨fun _ _ => rfl, fun _ _ _ => rfl, rfl⟩
theorem C_lt {b : Nat → Nat} {k : Nat → ClassId} {σ : cS} {τ : rS} {B : Nat → Nat} {e c : Nat} (h : PB b σ τ B e c) {st : St} {X : cS} (hX : isC σ e st X) {Q : cS → Prop} (hQ : ∀ X', isC σ e (lf (lt1 B e) st) X' → Q X') {at0 : Int32} (hat : ∀ a, st = .inl a → at0 = nI a) : C_X3_next_w b k (fun r26 t26 => (r26 < (33 : Int32) → C_X3_refuse_w b k Q (5 : Int32) at0 t26) ∧ (¬ r26 < (33 : Int32) → (r26 ≤ (126 : Int32) → Q t26) ∧ (¬ r26 ≤ (126 : Int32) → C_X3_refuse_w b k Q (5 : Int32) at0 t26))) X := by
  have he := h.he
  cases st with
  | inl a =>
    obtain ⟨ha, rfl⟩ := hX
    have := hat a rfl
    subst this
    by_cases hlt : a < e
    · have hB := h.by_b a hlt
      have bad : ¬ (33 ≤ B a ∧ B a ≤ 126) → C_X3_refuse_w b k Q (5 : Int32) (nI a) (cp σ 0 (nI (a + 1))) := by
        intro h9
        have hE : lf (lt1 B e) (.inl a) = .inr (5, a) := by unfold lf; rw [lk_0 (q := (5, a)) (by unfold lt1; rw [if_pos hlt, if_neg h9])]
        rw [hE] at hQ
        exact c_ref_ok (r := 5) (s := a) (hQ _ ⟨⟨Nat.le_of_ble_eq_true rfl, Nat.le_of_ble_eq_true rfl, ha⟩, a + 1, by omega, rfl⟩)
      refine c_next_ok h hlt ⟨fun h9 => bad (fun h8 => ?_), fun h9 => ⟨fun h8 => ?_, fun h8 => bad (fun h7 => ?_)⟩⟩
      · exact absurd ((nI_ltI (b := 33) (by omega) (by omega)).mp h9) (by omega)
      · have g1 : 33 ≤ B a := by
          rcases Nat.lt_or_ge (B a) 33 with h7 | h7
          · exact absurd (nI_lt (b := 33) h7 (by omega)) h9
          · exact h7
        have g2 : B a ≤ 126 := (nI_leI (b := 126) (by omega) (by omega)).mp h8
        have hE : lf (lt1 B e) (.inl a) = .inl (a + 1) := by unfold lf; rw [lk_1 (v := B a) (a' := a + 1) (by unfold lt1; rw [if_pos hlt, if_pos ⟨g1, g2⟩])]
        rw [hE] at hQ
        exact hQ _ ⟨by omega, rfl⟩
      · exact h8 (nI_le (b := 126) h7.2 (by omega))
    · have : a = e := by omega
      subst this
      have hE : lf (lt1 B a) (.inl a) = .inr (1, a) := by unfold lf; rw [lk_0 (q := (1, a)) (by unfold lt1; rw [if_neg hlt])]
      rw [hE] at hQ
      refine c_next_end h ⟨fun _ => ?_, fun h9 => absurd (by decide) h9⟩
      exact c_ref_f (nI_f (r := 1) (s := a) (by omega) (by omega) (by omega)) (hQ _ ⟨⟨Nat.le_of_ble_eq_true rfl, Nat.le_of_ble_eq_true rfl, ha⟩, a, ha, rfl⟩)
  | inr q =>
    obtain ⟨hq, a, ha, rfl⟩ := hX
    refine c_next_f (nI_fq he hq) ⟨fun _ => ?_, fun h9 => absurd (by decide) h9⟩
    exact c_ref_f (nI_fq he hq) (hQ _ ⟨hq, a, ha, rfl⟩)
set_option maxHeartbeats 1000000 in
theorem C_text {b : Nat → Nat} {k : Nat → ClassId} {σ : cS} {τ : rS} {B : Nat → Nat} {e c : Nat} {yb : Nat → Int32} (h : PB b σ τ B e c) (hy : ∀ i, i < e → yb (120 * c + i) = nI (B i)) (hr1 : σ.2.2.2.1 1 = some (b 2)) {Tt : Nat × (Nat → Int32)} (hTX : TXs σ yb Tt) (hT : Tt.1 < 192) {a : Nat} {X : cS} (hX : isC σ e (.inl (a + 1)) X) {Q : Int32 → cS → Prop} (hQ : ∀ v σ' X', isC σ' e (itr (lf (lt1 B e)) ((lk (am B e 10) (.inl (a + 1))).1.getD 0) (lk (am B e 10) (.inl (a + 1))).2) X' → cgT σ σ' → ((σ' = σ ∧ ∃ q, itr (lf (lt1 B e)) ((lk (am B e 10) (.inl (a + 1))).1.getD 0) (lk (am B e 10) (.inl (a + 1))).2 = .inr q) ∨ (v = nI (nbf yb Tt (120 * c + a + 1)) ∧ TXs σ' yb (nbs yb Tt (120 * c + a + 1)) ∧ B (a + 1) ≤ 10 ∧ a + 2 + B (a + 1) ≤ e ∧ (∀ i, i < B (a + 1) → 33 ≤ B (a + 2 + i) ∧ B (a + 2 + i) ≤ 126) ∧ itr (lf (lt1 B e)) ((lk (am B e 10) (.inl (a + 1))).1.getD 0) (lk (am B e 10) (.inl (a + 1))).2 = .inl (a + 2 + B (a + 1)))) → Q v X') : C_X3_readText_w b k Q X := by
  have he := h.he
  have hc := h.hc
  refine C_am (most := 10) h (by omega) hX (fun X1 hX1 v11 e11 => ?_)
  have hm10 : (lk (am B e 10) (.inl (a + 1))).1.getD 0 ≤ 10 := by
    cases h1 : am B e 10 (a + 1) with
    | inr q => rw [lk_0 h1]; exact Nat.zero_le _
    | inl p => rw [lk_1 (v := p.1) (a' := p.2) h1]; have := am_B (v := p.1) (a' := p.2) h1; show p.1 ≤ 10; omega
  have hst : ∀ a2, (lk (am B e 10) (.inl (a + 1))).2 = .inl a2 → a2 = a + 2 ∧ (lk (am B e 10) (.inl (a + 1))).1.getD 0 = B (a + 1) ∧ a + 1 < e := by
    intro a2 h1
    obtain ⟨a0, v, e1, h2, h3⟩ := lk_ok h1
    cases e1
    have := am_B h2
    exact ⟨by omega, by rw [h3]; exact this.2.1, this.1⟩
  generalize hst1 : (lk (am B e 10) (.inl (a + 1))).2 = st1 at hX1 hst hQ
  generalize hm : (lk (am B e 10) (.inl (a + 1))).1.getD 0 = m at hm10 hst hQ ⊢
  refine fx_ex (C_X3_readText_b14_f b k Q) (fun z => ∃ (i : Nat) (Y : cS), z = (nI m, v11, nI i, Y) ∧ i ≤ m ∧ isC σ e (itr (lf (lt1 B e)) i st1) Y) (fun z => 12 - z.2.2.1.toNatClampNeg) ?_ _ ⟨0, X1, rfl, Nat.zero_le _, hX1⟩
  rintro K _ ⟨i, Y, rfl, hi, hY⟩ hK
  show C_X3_readText_b14_s b k Q (fun x1 x2 x3 σ => K (x1, x2, x3, σ)) (nI m) v11 (nI i) Y
  refine ⟨fun h9 => ⟨fun h8 => ?_, fun h8 => ?_⟩, fun h9 v23 e23 => ?_⟩
  · have : i = m := by have := (nI_leI (a := m) (b := i) (by omega) (by omega)).mp h9; omega
    subst this
    obtain ⟨q, hq⟩ := (isC_3 he hY).2 h8
    exact hQ _ σ Y hY (cgT_refl σ) (Or.inl ⟨rfl, q, hq⟩)
  · have : i = m := by have := (nI_leI (a := m) (b := i) (by omega) (by omega)).mp h9; omega
    subst this
    obtain ⟨a', ha'⟩ := (isC_3 he hY).1 h8
    rw [ha'] at hY hQ
    obtain ⟨hae, rfl⟩ := hY
    obtain ⟨a2, ea2⟩ : ∃ a2, st1 = .inl a2 := itr_ok (f := lf (lt1 B e)) (lf_f _) (i := 0) (Nat.zero_le _) ha'
    obtain ⟨e2, em, hlt⟩ := hst a2 ea2
    subst e2
    rw [ea2] at hX1 ha'
    have ev11 : v11 = nI (a + 2) := by rw [e11, hX1.2]; rfl
    obtain ⟨e3, hall⟩ := lts_ok i a' ha'
    subst e3
    have hbi : ∀ j, j < i → ∃ y : Nat, 33 ≤ y ∧ y ≤ 126 ∧ σ.2.1 0 (a + 2 + j) = nI y ∧ yb (120 * c + a + 1 + 1 + j) = nI y := by
      intro j hj
      obtain ⟨g1, g2, g3⟩ := hall j hj
      refine ⟨B (a + 2 + j), g2, g3, h.by_c _ g1, ?_⟩
      have := hy (a + 2 + j) g1
      rw [show 120 * c + a + 1 + 1 + j = 120 * c + (a + 2 + j) by omega]
      exact this
    have ep : yb (120 * c + a + 1) = nI i := by rw [em]; exact hy (a + 1) hlt
    obtain ⟨t1, t2, t3⟩ := hTX
    refine ⟨hr1, h.cb, ?_⟩
    rw [ev11]
    refine c_number (X := cp σ 0 (nI (a + 2 + i))) hT t1 t2 hm10 ep (by omega) hbi (fun h7 => ?_) (fun h7 lt' hl1 hl2 => ?_)
    · refine hQ _ σ _ ⟨by omega, rfl⟩ (cgT_refl σ) (Or.inr ⟨rfl, ?_, by omega, by omega, fun j hj => ?_, by rw [em]⟩)
      · unfold nbs; rw [if_pos (show nbf yb Tt (120 * c + a + 1) < Tt.1 from h7)]; exact ⟨t1, t2, t3⟩
      · rw [← em] at hj; exact ⟨(hall j hj).2.1, (hall j hj).2.2⟩
    · have hiX : isC (sI (sA (sL σ lt') 2 (nI Tt.1) (nI i)) 1 (nI (Tt.1 + 1))) e (.inl (a + 2 + i)) (sI (sA (sL (cp σ 0 (nI (a + 2 + i))) lt') 2 (nI Tt.1) (nI i)) 1 (nI (Tt.1 + 1))) := ⟨by omega, cp_o (sA (sL σ lt') 2 (nI Tt.1) (nI i)) 0 (nI (a + 2 + i)) (nI (Tt.1 + 1)) (by omega) (by omega)⟩
      have e7 : nbf yb Tt (120 * c + a + 1) = Tt.1 := h7
      refine hQ _ _ _ hiX ⟨fun j hj => va_up_ne _ _ hj, fun j hj hj2 => ?_, rfl⟩ (Or.inr ⟨by rw [e7], ?_, by omega, by omega, fun j hj => ?_, by rw [em]⟩)
      · show va_up (va_up σ.2.1 1 lt') 2 _ j = _
        rw [va_up_ne _ _ hj2, va_up_ne _ _ hj]
      · unfold nbs
        rw [if_neg (by omega)]
        have hc2 : (nI Tt.1).toNatClampNeg = Tt.1 := nI_clamp (by omega)
        refine ⟨rfl, ?_, ?_⟩
        · show textR (Tt.1 + 1) lt' (upd (σ.2.1 2) (nI Tt.1).toNatClampNeg (nI i)) yb (upd Tt.2 Tt.1 (nI (120 * c + a + 1)))
          rw [hc2]
          exact textR_new t2 hm10 (by omega) ep (fun j hj => by obtain ⟨y, g1, g2, g3, g4⟩ := hbi j hj; exact ⟨y, g1, g2, g4⟩) hl1 hl2
        · show textD (Tt.1 + 1) lt' (upd (σ.2.1 2) (nI Tt.1).toNatClampNeg (nI i))
          rw [hc2]
          refine textD_new t2 t3 hm10 ep hl1 hl2 (fun t ht => ?_)
          exact fsT_n (D := fun t => sm yb (Tt.2 t) (120 * c + a + 1)) Tt.1 0 t (Nat.zero_le _) (by rw [h7]; exact ht)
      · rw [← em] at hj; exact ⟨(hall j hj).2.1, (hall j hj).2.2⟩
  · have him : i < m := by
      rcases Nat.lt_or_ge i m with h7 | h7
      · exact h7
      · exact absurd (nI_le h7 (by omega)) h9
    refine C_lt h hY (fun X' hX' v52 e52 => ?_) (fun a9 e9 => ?_)
    · rw [nI_1] at e52
      subst e52
      refine hK (nI m, v11, nI (i + 1), X') ⟨i + 1, X', rfl, him, hX'⟩ ?_
      show 12 - (nI (i + 1)).toNatClampNeg < 12 - (nI i).toNatClampNeg
      rw [nI_clamp (by omega), nI_clamp (by omega)]; omega
    · rw [e9] at hY
      rw [e23, hY.2]
      rfl
