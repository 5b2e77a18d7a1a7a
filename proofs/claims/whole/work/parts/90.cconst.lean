/-! the parse: the constants, class side -/
def ocs (B : Nat → Nat) (e : Nat) : St → St
  | .inl a => if a < e then
      if B a = 1 then itr (lf (lt1 B e)) ((lk (am B e 10) (.inl (a + 1))).1.getD 0) (lk (am B e 10) (.inl (a + 1))).2
      else if B a = 3 then itr (lf (nx B e)) 4 (.inl (a + 1))
      else if B a = 7 then lf (nx B e) (.inl (a + 1))
      else .inr (3, a)
    else .inr (1, e)
  | .inr q => .inr q
theorem ocs_f (B : Nat → Nat) (e : Nat) (q : Nat × Nat) : ocs B e (.inr q) = .inr q := rfl
def copl (B : Nat → Nat) (e : Nat) (st0 : St) (κ : Nat) : Nat := plc (itr (ocs B e) (κ - 1) st0)
noncomputable def nb (yb : Nat → Int32) (B : Nat → Nat) (e c : Nat) (st0 : St) (Tt : Nat × (Nat → Int32)) : Nat → Nat × (Nat → Int32)
  | 0 => Tt
  | j + 1 => if B (copl B e st0 (j + 1)) = 1 then nbs yb (nb yb B e c st0 Tt j) (120 * c + copl B e st0 (j + 1) + 1) else nb yb B e c st0 Tt j
theorem nbs_le (yb : Nat → Int32) (Tt : Nat × (Nat → Int32)) (p : Nat) : Tt.1 ≤ (nbs yb Tt p).1 ∧ (nbs yb Tt p).1 ≤ Tt.1 + 1 := by
  unfold nbs
  by_cases h : nbf yb Tt p < Tt.1
  · rw [if_pos h]; omega
  · rw [if_neg h]; show _ ∧ Tt.1 + 1 ≤ _; exact ⟨by show Tt.1 ≤ Tt.1 + 1; omega, by omega⟩
theorem nb_le (yb : Nat → Int32) (B : Nat → Nat) (e c : Nat) (st0 : St) (Tt : Nat × (Nat → Int32)) : ∀ j, Tt.1 ≤ (nb yb B e c st0 Tt j).1 ∧ (nb yb B e c st0 Tt j).1 ≤ Tt.1 + j := by
  intro j
  induction j with
  | zero => exact ⟨Nat.le_refl _, Nat.le_refl _⟩
  | succ j ih =>
    show Tt.1 ≤ (ite _ _ _ : Nat × (Nat → Int32)).1 ∧ (ite _ _ _ : Nat × (Nat → Int32)).1 ≤ _
    by_cases h : B (copl B e st0 (j + 1)) = 1
    · rw [if_pos h]; have := nbs_le yb (nb yb B e c st0 Tt j) (120 * c + copl B e st0 (j + 1) + 1); omega
    · rw [if_neg h]; omega
/-- what the class holds of constant κ, which stands at byte p -/
def CF (σ : cS) (B : Nat → Nat) (e c : Nat) (yb : Nat → Int32) (Tt : Nat × (Nat → Int32)) (κ p : Nat) : Prop := p < e ∧ okS (B p) ∧ σ.2.1 6 κ = nI (kk (B p)) ∧ (B p = 3 → σ.2.1 7 κ = nI (iv B (p + 1) 4) ∧ p + 5 ≤ e) ∧ (B p = 7 → σ.2.1 7 κ = nI (B (p + 1)) ∧ σ.2.1 8 κ = nI (p + 1) ∧ p + 2 ≤ e) ∧ (B p = 1 → σ.2.1 7 κ = nI (nbf yb Tt (120 * c + p + 1)) ∧ B (p + 1) ≤ 10 ∧ p + 2 + B (p + 1) ≤ e ∧ ∀ i, i < B (p + 1) → 33 ≤ B (p + 2 + i) ∧ B (p + 2 + i) ≤ 126)
def cgk (σ σ' : cS) (κ : Nat) : Prop := (∀ j, j ≠ 1 → σ'.1 j = σ.1 j) ∧ (∀ j, j ≠ 1 → j ≠ 2 → j ≠ 6 → j ≠ 7 → j ≠ 8 → σ'.2.1 j = σ.2.1 j) ∧ (∀ i, i ≠ κ → σ'.2.1 6 i = σ.2.1 6 i ∧ σ'.2.1 7 i = σ.2.1 7 i ∧ σ'.2.1 8 i = σ.2.1 8 i) ∧ σ'.2.2 = σ.2.2
theorem ocs_ok {B : Nat → Nat} {e a a' : Nat} (h : ocs B e (.inl a) = .inl a') : a < e := by
  simp only [ocs] at h
  by_cases h1 : a < e
  · exact h1
  · rw [if_neg h1] at h; cases h
set_option maxHeartbeats 2000000 in
theorem C_one {b : Nat → Nat} {k : Nat → ClassId} {σ : cS} {τ : rS} {B : Nat → Nat} {e c : Nat} {yb : Nat → Int32} (h : PB b σ τ B e c) (hy : ∀ i, i < e → yb (120 * c + i) = nI (B i)) (hr1 : σ.2.2.2.1 1 = some (b 2)) {Tt : Nat × (Nat → Int32)} (hTX : TXs σ yb Tt) (hT : Tt.1 < 192) {a κ : Nat} (hκ : κ ≤ 12) {Y : cS} (hY : isC σ e (.inl a) Y) {Q : cS → Prop} (hQ : ∀ σ' Y', isC σ' e (ocs B e (.inl a)) Y' → cgk σ σ' κ → (∀ a', ocs B e (.inl a) = .inl a' → CF σ' B e c yb Tt κ a ∧ TXs σ' yb (if B a = 1 then nbs yb Tt (120 * c + a + 1) else Tt)) → (∀ q, ocs B e (.inl a) = .inr q → TXs σ' yb Tt) → Q Y') : C_X3_next_w b k (fun r33 t33 => (¬ r33 = (1 : Int32) → (¬ r33 = (3 : Int32) → (¬ r33 = (7 : Int32) → C_X3_refuse_w b k (fun t126 => Q t126) (3 : Int32) (nI a) t33) ∧ (r33 = (7 : Int32) → vp_in (nI κ) 13 ∧ ∀ t99 : cS, t99 = sA t33 6 (nI κ) (3 : Int32) → vp_in (nI κ) 13 ∧ ∀ t109 : cS, t109 = sA t99 8 (nI κ) (t99.1 5) → C_X3_next_w b k (fun r116 t116 => vp_in (nI κ) 13 ∧ ∀ t119 : cS, t119 = sA t116 7 (nI κ) r116 → Q t119) t109)) ∧ (r33 = (3 : Int32) → vp_in (nI κ) 13 ∧ ∀ t73 : cS, t73 = sA t33 6 (nI κ) (1 : Int32) → C_X3_readInt_w b k (fun r80 t80 => vp_in (nI κ) 13 ∧ ∀ t83 : cS, t83 = sA t80 7 (nI κ) r80 → Q t83) t73)) ∧ (r33 = (1 : Int32) → vp_in (nI κ) 13 ∧ ∀ t48 : cS, t48 = sA t33 6 (nI κ) (2 : Int32) → C_X3_readText_w b k (fun r55 t55 => vp_in (nI κ) 13 ∧ ∀ t58 : cS, t58 = sA t55 7 (nI κ) r55 → Q t58) t48)) Y := by
  have he := h.he
  have hin : vp_in (nI κ) 13 := vp_in_nI (by omega) (by omega)
  have ck : (nI κ).toNatClampNeg = κ := nI_clamp (by omega)
  obtain ⟨ha, rfl⟩ := hY
  by_cases hlt : a < e
  · have hB := h.by_b a hlt
    have ne : ∀ m : Nat, m < 256 → (nI (B a) = nI m ↔ B a = m) := fun m hm => nI_eq (by omega) (by omega)
    have hoc : ocs B e (.inl a) = (if B a = 1 then itr (lf (lt1 B e)) ((lk (am B e 10) (.inl (a + 1))).1.getD 0) (lk (am B e 10) (.inl (a + 1))).2 else if B a = 3 then itr (lf (nx B e)) 4 (.inl (a + 1)) else if B a = 7 then lf (nx B e) (.inl (a + 1)) else .inr (3, a)) := by simp only [ocs]; rw [if_pos hlt]
    have hX1 : isC σ e (.inl (a + 1)) (cp σ 0 (nI (a + 1))) := ⟨by omega, rfl⟩
    refine c_next_ok h hlt ⟨fun n1 => ⟨fun n3 => ⟨fun n7 => ?_, fun h7 => ?_⟩, fun h3 => ?_⟩, fun h1 => ?_⟩
    · have hE : ocs B e (.inl a) = .inr (3, a) := by rw [hoc, if_neg (fun q => n1 ((ne 1 (by omega)).mpr q)), if_neg (fun q => n3 ((ne 3 (by omega)).mpr q)), if_neg (fun q => n7 ((ne 7 (by omega)).mpr q))]
      rw [hE] at hQ
      exact c_ref_ok (r := 3) (s := a) (hQ σ _ ⟨⟨Nat.le_of_ble_eq_true rfl, Nat.le_of_ble_eq_true rfl, ha⟩, a + 1, by omega, rfl⟩ ⟨fun _ _ => rfl, fun _ _ _ _ _ _ => rfl, fun _ _ => ⟨rfl, rfl, rfl⟩, rfl⟩ (fun a' e' => (by cases e')) (fun _ _ => hTX))
    · have hb : B a = 7 := (ne 7 (by omega)).mp h7
      have hE : ocs B e (.inl a) = lf (nx B e) (.inl (a + 1)) := by rw [hoc, if_neg (by omega), if_neg (by omega), if_pos hb]
      rw [hE] at hQ
      refine ⟨hin, fun t99 e99 => ⟨hin, fun t109 e109 => ?_⟩⟩
      have h99 := isC_sA hX1 6 (nI κ) 3
      rw [← e99] at h99
      have e5 : t99.1 5 = nI (a + 1) := by rw [h99.2]; rfl
      rw [e5] at e109
      have h109 := isC_sA h99 8 (nI κ) (nI (a + 1))
      rw [← e109] at h109
      refine C_nx (σ := sA (sA σ 6 (nI κ) 3) 8 (nI κ) (nI (a + 1))) h h109 (fun X2 hX2 => ⟨hin, fun t119 e119 => ?_⟩)
      have h119 := isC_sA hX2 7 (nI κ) (nI ((lk (nx B e) (.inl (a + 1))).1.getD 0))
      rw [← e119] at h119
      refine hQ _ t119 h119 ⟨fun _ _ => rfl, fun j j1 j2 j6 j7 j8 => ?_, fun i hi => ⟨?_, ?_, ?_⟩, rfl⟩ (fun a' e' => ⟨?_, ?_⟩) (fun _ _ => hTX)
      · show va_up (va_up (va_up σ.2.1 6 _) 8 _) 7 _ j = _
        rw [va_up_ne _ _ j7, va_up_ne _ _ j8, va_up_ne _ _ j6]
      · show upd (σ.2.1 6) (nI κ).toNatClampNeg 3 i = _
        rw [ck, pk_un hi]
      · show upd (σ.2.1 7) (nI κ).toNatClampNeg _ i = _
        rw [ck, pk_un hi]
      · show upd (σ.2.1 8) (nI κ).toNatClampNeg _ i = _
        rw [ck, pk_un hi]
      · obtain ⟨a1, v, e1, h2, h3⟩ := lk_ok (f := nx B e) e'
        cases e1
        have := nx_B h2
        refine ⟨hlt, Or.inr (Or.inr hb), ?_, fun q => by omega, fun _ => ⟨?_, ?_, by omega⟩, fun q => by omega⟩
        · show upd (σ.2.1 6) (nI κ).toNatClampNeg 3 κ = _
          rw [ck, pk_us, hb]; rfl
        · show upd (σ.2.1 7) (nI κ).toNatClampNeg _ κ = _
          rw [ck, pk_us, h3]
          show nI v = _
          rw [this.2.1]
        · show upd (σ.2.1 8) (nI κ).toNatClampNeg _ κ = _
          rw [ck, pk_us]
      · rw [if_neg (by omega)]; exact hTX
    · have hb : B a = 3 := (ne 3 (by omega)).mp h3
      have hE : ocs B e (.inl a) = itr (lf (nx B e)) 4 (.inl (a + 1)) := by rw [hoc, if_neg (by omega), if_pos hb]
      rw [hE] at hQ
      refine ⟨hin, fun t73 e73 => ?_⟩
      have h73 := isC_sA hX1 6 (nI κ) 1
      rw [← e73] at h73
      refine c_int (σ := sA σ 6 (nI κ) 1) h h73 (fun v X2 hX2 hv => ⟨hin, fun t83 e83 => ?_⟩)
      have h83 := isC_sA hX2 7 (nI κ) v
      rw [← e83] at h83
      refine hQ _ t83 h83 ⟨fun _ _ => rfl, fun j j1 j2 j6 j7 j8 => ?_, fun i hi => ⟨?_, ?_, rfl⟩, rfl⟩ (fun a' e' => ⟨?_, ?_⟩) (fun _ _ => hTX)
      · show va_up (va_up σ.2.1 6 _) 7 _ j = _
        rw [va_up_ne _ _ j7, va_up_ne _ _ j6]
      · show upd (σ.2.1 6) (nI κ).toNatClampNeg _ i = _
        rw [ck, pk_un hi]
      · show upd (σ.2.1 7) (nI κ).toNatClampNeg _ i = _
        rw [ck, pk_un hi]
      · have := (nxs_ok 4 a' e').2 (by omega)
        refine ⟨hlt, Or.inr (Or.inl hb), ?_, fun _ => ⟨?_, by omega⟩, fun q => by omega, fun q => by omega⟩
        · show upd (σ.2.1 6) (nI κ).toNatClampNeg _ κ = _
          rw [ck, pk_us, hb]; rfl
        · show upd (σ.2.1 7) (nI κ).toNatClampNeg _ κ = _
          rw [ck, pk_us, hv this]
      · rw [if_neg (by omega)]; exact hTX
    · have hb : B a = 1 := (ne 1 (by omega)).mp h1
      have hE : ocs B e (.inl a) = itr (lf (lt1 B e)) ((lk (am B e 10) (.inl (a + 1))).1.getD 0) (lk (am B e 10) (.inl (a + 1))).2 := by rw [hoc, if_pos hb]
      rw [hE] at hQ
      refine ⟨hin, fun t48 e48 => ?_⟩
      have h48 := isC_sA hX1 6 (nI κ) 2
      rw [← e48] at h48
      refine C_text (σ := sA σ 6 (nI κ) 2) (Tt := Tt) h hy hr1 hTX hT h48 (fun v σ2 X2 hX2 hcg hcase => ⟨hin, fun t58 e58 => ?_⟩)
      have h58 := isC_sA hX2 7 (nI κ) v
      rw [← e58] at h58
      obtain ⟨g1, g2, g3⟩ := hcg
      refine hQ _ t58 h58 ⟨fun j hj => g1 j hj, fun j j1 j2 j6 j7 j8 => ?_, fun i hi => ⟨?_, ?_, ?_⟩, g3⟩ (fun a' e' => ?_) (fun q eq => ?_)
      · show va_up σ2.2.1 7 _ j = _
        rw [va_up_ne _ _ j7, g2 j j1 j2]
        show va_up σ.2.1 6 _ j = _
        rw [va_up_ne _ _ j6]
      · show σ2.2.1 6 i = _
        rw [g2 6 (by omega) (by omega)]
        show upd (σ.2.1 6) (nI κ).toNatClampNeg _ i = _
        rw [ck, pk_un hi]
      · show upd (σ2.2.1 7) (nI κ).toNatClampNeg _ i = _
        rw [ck, pk_un hi, g2 7 (by omega) (by omega)]
        rfl
      · show σ2.2.1 8 i = _
        rw [g2 8 (by omega) (by omega)]
        rfl
      · rcases hcase with ⟨-, q, hq⟩ | ⟨ev, htx, w1, w2, w3, w4⟩
        · rw [hq] at e'; cases e'
        · refine ⟨⟨hlt, Or.inl hb, ?_, fun q => by omega, fun q => by omega, fun _ => ⟨?_, w1, w2, w3⟩⟩, ?_⟩
          · show σ2.2.1 6 κ = _
            rw [g2 6 (by omega) (by omega)]
            show upd (σ.2.1 6) (nI κ).toNatClampNeg _ κ = _
            rw [ck, pk_us, hb]; rfl
          · show upd (σ2.2.1 7) (nI κ).toNatClampNeg _ κ = _
            rw [ck, pk_us, ev]
          · rw [if_pos hb]; exact htx
      · rcases hcase with ⟨e2, -⟩ | ⟨ev, htx, w1, w2, w3, w4⟩
        · subst e2; exact hTX
        · rw [w4] at eq; cases eq
  · have : a = e := by omega
    subst this
    have hE : ocs B a (.inl a) = .inr (1, a) := by simp only [ocs]; rw [if_neg hlt]
    rw [hE] at hQ
    refine c_next_end h ⟨fun _ => ⟨fun _ => ⟨fun _ => ?_, fun h7 => absurd h7 (by decide)⟩, fun h3 => absurd h3 (by decide)⟩, fun h1 => absurd h1 (by decide)⟩
    exact c_ref_f (nI_f (r := 1) (s := a) (by omega) (by omega) (by omega)) (hQ σ _ ⟨⟨Nat.le_of_ble_eq_true rfl, Nat.le_of_ble_eq_true rfl, ha⟩, a, ha, rfl⟩ ⟨fun _ _ => rfl, fun _ _ _ _ _ _ => rfl, fun _ _ => ⟨rfl, rfl, rfl⟩, rfl⟩ (fun a' e' => (by cases e')) (fun _ _ => hTX))
/-- what stays while the constants are read -/
def cg (σ σ' : cS) : Prop := σ'.1 0 = σ.1 0 ∧ σ'.1 2 = σ.1 2 ∧ σ'.1 4 = σ.1 4 ∧ σ'.2.1 0 = σ.2.1 0 ∧ σ'.2.1 3 = σ.2.1 3 ∧ σ'.2.2 = σ.2.2
theorem PB_cg {b : Nat → Nat} {σ σ' : cS} {τ : rS} {B : Nat → Nat} {e c : Nat} (h : PB b σ τ B e c) (g : cg σ σ') : PB b σ' τ B e c := by
  obtain ⟨g0, g2, g4, ga, g3, gr⟩ := g
  exact ⟨h.he, h.hc, by rw [g4]; exact h.ce, by rw [gr]; exact h.cb, h.re, h.rn, h.rb, by rw [ga]; exact h.by_c, h.by_r, h.by_b⟩
set_option maxHeartbeats 2000000 in
theorem C_consts {b : Nat → Nat} {k : Nat → ClassId} {σ : cS} {τ : rS} {B : Nat → Nat} {e c : Nat} {yb : Nat → Int32} (h : PB b σ τ B e c) (hy : ∀ i, i < e → yb (120 * c + i) = nI (B i)) (hr1 : σ.2.2.2.1 1 = some (b 2)) {Tt : Nat × (Nat → Int32)} (hTX : TXs σ yb Tt) (hT : Tt.1 ≤ 180) {st : St} {X : cS} (hX : isC σ e st X) {Q : cS → Prop} (hQ : ∀ (st0 : St) (K : Nat) (σ' X' : cS), st0 = (lk (am B e 12) st).2 → K = (lk (am B e 12) st).1.getD 0 → isC σ' e (itr (ocs B e) K st0) X' → cg σ σ' → σ'.1 6 = nI K → (∃ j, j ≤ 12 ∧ TXs σ' yb (nb yb B e c st0 Tt j)) → (∀ a', itr (ocs B e) K st0 = .inl a' → TXs σ' yb (nb yb B e c st0 Tt K) ∧ ∀ κ, 1 ≤ κ → κ ≤ K → CF σ' B e c yb (nb yb B e c st0 Tt (κ - 1)) κ (copl B e st0 κ)) → Q X') : C_X3_readConstants_w b k Q X := by
  have he := h.he
  refine C_am (most := 12) h (by omega) hX (fun X1 hX1 t7 e7 => ?_)
  have hK12 : (lk (am B e 12) st).1.getD 0 ≤ 12 := by
    cases st with
    | inr q => exact Nat.zero_le _
    | inl a =>
      cases h1 : am B e 12 a with
      | inr q => rw [lk_0 h1]; exact Nat.zero_le _
      | inl p => rw [lk_1 (v := p.1) (a' := p.2) h1]; have := am_B (v := p.1) (a' := p.2) h1; show p.1 ≤ 12; omega
  have hQ := hQ (lk (am B e 12) st).2 ((lk (am B e 12) st).1.getD 0)
  generalize hst1 : (lk (am B e 12) st).2 = st0 at hX1 hQ
  generalize hm : (lk (am B e 12) st).1.getD 0 = K at hK12 hQ e7
  have h7 := isC_sI hX1 (n := 6) (by omega) (by omega) (nI K)
  rw [← e7] at h7
  refine fx_ex (C_X3_readConstants_b12_f b k Q) (fun z => ∃ (j : Nat) (σ' Y : cS), z = (nI (j + 1), Y) ∧ j ≤ K ∧ isC σ' e (itr (ocs B e) j st0) Y ∧ cg σ σ' ∧ σ'.1 6 = nI K ∧ (∃ j, j ≤ 12 ∧ TXs σ' yb (nb yb B e c st0 Tt j)) ∧ (∀ a', itr (ocs B e) j st0 = .inl a' → TXs σ' yb (nb yb B e c st0 Tt j) ∧ ∀ κ, 1 ≤ κ → κ ≤ j → CF σ' B e c yb (nb yb B e c st0 Tt (κ - 1)) κ (copl B e st0 κ))) (fun z => 14 - z.1.toNatClampNeg) ?_ _ ⟨0, sI σ 6 (nI K), t7, rfl, Nat.zero_le _, h7, ⟨rfl, rfl, rfl, rfl, rfl, rfl⟩, rfl, ⟨0, by omega, hTX⟩, fun a' _ => ⟨hTX, fun κ h1 h2 => by omega⟩⟩
  rintro K0 _ ⟨j, σ', Y, rfl, hj, hY, hcg, h6, hTj, hok⟩ hK0
  show C_X3_readConstants_b12_s b k Q (fun x1 σ => K0 (x1, σ)) (nI (j + 1)) Y
  have e6 : Y.1 6 = nI K := by
    rw [← h6]
    cases hs : itr (ocs B e) j st0 with
    | inl a => rw [hs] at hY; rw [hY.2]; rfl
    | inr q => rw [hs] at hY; obtain ⟨-, a, -, rfl⟩ := hY; rfl
  refine ⟨fun h9 => ?_, fun h9 => ⟨fun h8 => ?_, fun h8 v31 e31 => ?_⟩⟩
  · rw [e6] at h9
    have hjK : j = K := by
      have := (nI_ltI (a := K) (b := j + 1) (by omega) (by omega)).mp h9
      omega
    subst hjK
    exact hQ σ' Y rfl rfl hY hcg h6 hTj hok
  · obtain ⟨q, hq⟩ := (isC_3 he hY).2 h8
    have hst := itr_stuck (ocs_f B e) hj hq
    exact hQ σ' Y rfl rfl (by rw [hst, ← hq]; exact hY) hcg h6 hTj (fun a' e' => by rw [hst] at e'; cases e')
  · rw [e6] at h9
    have hjK : j < K := by
      rcases Nat.lt_or_ge j K with h7 | h7
      · exact h7
      · exact absurd (nI_lt (a := K) (b := j + 1) (by omega) (by omega)) h9
    obtain ⟨a, ha⟩ := (isC_3 he hY).1 h8
    rw [ha] at hY hok
    obtain ⟨htx, hcf⟩ := hok a rfl
    have hle := nb_le yb B e c st0 Tt j
    have hcpl : copl B e st0 (j + 1) = a := by unfold copl; rw [show j + 1 - 1 = j by omega, ha]; rfl
    have ev : v31 = nI a := by rw [e31, hY.2]; rfl
    subst ev
    have hsucc : itr (ocs B e) (j + 1) st0 = ocs B e (.inl a) := by show ocs B e (itr (ocs B e) j st0) = _; rw [ha]
    have hnb : nb yb B e c st0 Tt (j + 1) = if B a = 1 then nbs yb (nb yb B e c st0 Tt j) (120 * c + a + 1) else nb yb B e c st0 Tt j := by
      show (if B (copl B e st0 (j + 1)) = 1 then _ else _) = _
      rw [hcpl]
    refine C_one (κ := j + 1) (PB_cg h hcg) hy (by rw [hcg.2.2.2.2.2]; exact hr1) htx (by omega) (by omega) hY (fun σ2 Y' hY' hk hok' hbad => ?_)
    intro v129 e129
    rw [nI_1] at e129
    subst e129
    obtain ⟨k1, k2, k3, k4⟩ := hk
    refine hK0 (nI (j + 1 + 1), Y') ⟨j + 1, σ2, Y', rfl, hjK, by rw [hsucc]; exact hY', ⟨?_, ?_, ?_, ?_, ?_, ?_⟩, ?_, ?_, fun a' e' => ⟨?_, fun κ hκ1 hκ2 => ?_⟩⟩ ?_
    · rw [k1 0 (by omega)]; exact hcg.1
    · rw [k1 2 (by omega)]; exact hcg.2.1
    · rw [k1 4 (by omega)]; exact hcg.2.2.1
    · rw [k2 0 (by omega) (by omega) (by omega) (by omega) (by omega)]; exact hcg.2.2.2.1
    · rw [k2 3 (by omega) (by omega) (by omega) (by omega) (by omega)]; exact hcg.2.2.2.2.1
    · rw [k4]; exact hcg.2.2.2.2.2
    · rw [k1 6 (by omega)]; exact h6
    · cases ho : ocs B e (.inl a) with
      | inl a' => exact ⟨j + 1, by omega, by rw [hnb]; exact (hok' a' ho).2⟩
      | inr q => exact ⟨j, by omega, hbad q ho⟩
    · rw [hsucc] at e'
      rw [hnb]
      exact (hok' a' e').2
    · rw [hsucc] at e'
      rcases Nat.lt_or_ge κ (j + 1) with h7 | h7
      · obtain ⟨w0, w1, w2, w3, w4, w5⟩ := hcf κ hκ1 (by omega)
        obtain ⟨q1, q2, q3⟩ := k3 κ (by omega)
        exact ⟨w0, w1, by rw [q1]; exact w2, by rw [q2]; exact w3, by rw [q2, q3]; exact w4, by rw [q2]; exact w5⟩
      · have : κ = j + 1 := by omega
        subst this
        rw [hcpl]
        exact (hok' a' e').1
    · show 14 - (nI (j + 1 + 1)).toNatClampNeg < 14 - (nI (j + 1)).toNatClampNeg
      rw [nI_clamp (by omega), nI_clamp (by omega)]; omega
