/-! the parse: the constants, reference side -/
theorem isR_rI {τ : rS} {e : Nat} {st : St} {X : rS} (h : isR τ e st X) {n : Nat} (h1 : n ≠ 21) (h2 : n ≠ 23) (h3 : n ≠ 24) (x : Int32) : isR (rI τ n x) e st (rI X n x) := by
  have key : ∀ a r s : Int32, rI (rp τ a r s) n x = rp (rI τ n x) a r s := by
    intro a r s
    unfold rI rp
    have : va_up (va_up (va_up (va_up τ.1 21 a) 23 r) 24 s) n x = va_up (va_up (va_up (va_up τ.1 n x) 21 a) 23 r) 24 s := by
      funext j
      unfold va_up
      by_cases q : j = n
      · subst q; simp [h1, h2, h3]
      · simp [q]
    rw [this]
  cases st with
  | inl a => obtain ⟨ha, s0, rfl⟩ := h; exact ⟨ha, s0, key _ _ _⟩
  | inr q => obtain ⟨hq, a, rfl⟩ := h; exact ⟨hq, a, key _ _ _⟩
theorem isR_o {τ : rS} {e : Nat} {st : St} {X : rS} (h : isR τ e st X) : (∀ j, j ≠ 21 → j ≠ 23 → j ≠ 24 → X.1 j = τ.1 j) ∧ X.2 = τ.2 := by
  have key : ∀ (a r s : Int32) (j : Nat), j ≠ 21 → j ≠ 23 → j ≠ 24 → (rp τ a r s).1 j = τ.1 j := by
    intro a r s j h1 h2 h3
    show va_up (va_up (va_up τ.1 21 a) 23 r) 24 s j = _
    rw [va_up_ne _ _ h3, va_up_ne _ _ h2, va_up_ne _ _ h1]
  cases st with
  | inl a => obtain ⟨ha, s0, rfl⟩ := h; exact ⟨key _ _ _, rfl⟩
  | inr q => obtain ⟨hq, a, rfl⟩ := h; exact ⟨key _ _ _, rfl⟩
theorem R_nx {b : Nat → Nat} {σ : cS} {τ : rS} {B : Nat → Nat} {e c : Nat} (h : PB b σ τ B e c) {st : St} {X : rS} (hX : isR τ e st X) {Q : Int32 → rS → Prop} (hQ : ∀ v X', isR τ e (lf (nx B e) st) X' → Q v X') : R_take_w Q X := by
  cases st with
  | inl a =>
    obtain ⟨ha, s0, rfl⟩ := hX
    refine r_take h ha (fun y a' e9 => ?_) (fun r s e9 => ?_)
    · unfold lf at hQ; rw [lk_1 e9] at hQ
      exact hQ _ _ ⟨((gd_nx B e a ha).1 _ _ e9).2, s0, rfl⟩
    · unfold lf at hQ; rw [lk_0 e9] at hQ
      exact hQ _ _ ⟨(gd_nx B e a ha).2 _ _ e9, _, rfl⟩
  | inr q =>
    obtain ⟨hq, a, rfl⟩ := hX
    exact r_take_f (nI_rq hq) (hQ _ _ ⟨hq, a, rfl⟩)
theorem R_lt {b : Nat → Nat} {σ : cS} {τ : rS} {B : Nat → Nat} {e c : Nat} (h : PB b σ τ B e c) {st : St} {X : rS} (hX : isR τ e st X) {Q : rS → Prop} (hQ : ∀ X', isR τ e (lf (lt1 B e) st) X' → Q X') {at0 : Int32} (hat : ∀ a, st = .inl a → at0 = nI a) : R_take_w (fun r83 t83 => (¬ (t83.1 23) = 0 → Q t83) ∧ ((t83.1 23) = 0 → (r83 < (33 : Int32) → R_fail_w Q (5 : Int32) at0 t83) ∧ (¬ r83 < (33 : Int32) → (r83 ≤ (126 : Int32) → Q t83) ∧ (¬ r83 ≤ (126 : Int32) → R_fail_w Q (5 : Int32) at0 t83)))) X := by
  have he := h.he
  cases st with
  | inl a =>
    obtain ⟨ha, s0, rfl⟩ := hX
    have := hat a rfl
    subst this
    by_cases hlt : a < e
    · have hB := h.by_b a hlt
      have bad : ¬ (33 ≤ B a ∧ B a ≤ 126) → R_fail_w Q (5 : Int32) (nI a) (rp τ (nI (a + 1)) 0 s0) := by
        intro h9
        have hE : lf (lt1 B e) (.inl a) = .inr (5, a) := by unfold lf; rw [lk_0 (q := (5, a)) (by unfold lt1; rw [if_pos hlt, if_neg h9])]
        rw [hE] at hQ
        exact r_fail_ok (hQ _ ⟨⟨Nat.le_of_ble_eq_true rfl, Nat.le_of_ble_eq_true rfl, ha⟩, _, rfl⟩)
      refine r_take_ok h hlt ⟨fun h9 => absurd rfl h9, fun _ => ⟨fun h9 => bad (fun h8 => ?_), fun h9 => ⟨fun h8 => ?_, fun h8 => bad (fun h7 => ?_)⟩⟩⟩
      · exact absurd ((nI_ltI (b := 33) (by omega) (by omega)).mp h9) (by omega)
      · have g1 : 33 ≤ B a := by
          rcases Nat.lt_or_ge (B a) 33 with h7 | h7
          · exact absurd (nI_lt (b := 33) h7 (by omega)) h9
          · exact h7
        have g2 : B a ≤ 126 := (nI_leI (b := 126) (by omega) (by omega)).mp h8
        have hE : lf (lt1 B e) (.inl a) = .inl (a + 1) := by unfold lf; rw [lk_1 (v := B a) (a' := a + 1) (by unfold lt1; rw [if_pos hlt, if_pos ⟨g1, g2⟩])]
        rw [hE] at hQ
        exact hQ _ ⟨by omega, s0, rfl⟩
      · exact h8 (nI_le (b := 126) h7.2 (by omega))
    · have : a = e := by omega
      subst this
      have hE : lf (lt1 B a) (.inl a) = .inr (1, a) := by unfold lf; rw [lk_0 (q := (1, a)) (by unfold lt1; rw [if_neg hlt])]
      rw [hE] at hQ
      exact r_take_end h ⟨fun _ => hQ _ ⟨⟨Nat.le_of_ble_eq_true rfl, Nat.le_of_ble_eq_true rfl, ha⟩, _, rfl⟩, fun h9 => absurd (show nI 1 = 0 from h9) (by decide)⟩
  | inr q =>
    obtain ⟨hq, a, rfl⟩ := hX
    exact r_take_f (nI_rq hq) ⟨fun _ => hQ _ ⟨hq, a, rfl⟩, fun h9 => absurd h9 (nI_rq hq)⟩
theorem nxs_eq {B : Nat → Nat} {e a0 : Nat} (ha : a0 ≤ e) : ∀ m, itr (lf (nx B e)) m (.inl a0) = if a0 + m ≤ e then .inl (a0 + m) else .inr (1, e) := by
  intro m
  induction m with
  | zero => rw [if_pos (by omega)]; rfl
  | succ m ih =>
    show lf (nx B e) (itr (lf (nx B e)) m (.inl a0)) = _
    rw [ih]
    by_cases h1 : a0 + (m + 1) ≤ e
    · rw [if_pos h1, if_pos (by omega)]
      unfold lf
      rw [lk_1 (nx_1 (by omega))]
      rfl
    · rw [if_neg h1]
      by_cases h2 : a0 + m ≤ e
      · rw [if_pos h2]
        unfold lf
        rw [lk_0 (nx_0 (by omega))]
      · rw [if_neg h2]; rfl
theorem ocs_bK {B : Nat → Nat} {e a a' : Nat} (h : ocs B e (.inl a) = .inl a') : a < e ∧ okS (B a) ∧ (B a = 3 → a + 5 ≤ e) ∧ (B a = 7 → a + 2 ≤ e) ∧ (B a = 1 → B (a + 1) ≤ 10 ∧ a + 2 + B (a + 1) ≤ e ∧ ∀ i, i < B (a + 1) → 33 ≤ B (a + 2 + i) ∧ B (a + 2 + i) ≤ 126) := by
  have hlt := ocs_ok h
  have hoc : ocs B e (.inl a) = (if B a = 1 then itr (lf (lt1 B e)) ((lk (am B e 10) (.inl (a + 1))).1.getD 0) (lk (am B e 10) (.inl (a + 1))).2 else if B a = 3 then itr (lf (nx B e)) 4 (.inl (a + 1)) else if B a = 7 then lf (nx B e) (.inl (a + 1)) else .inr (3, a)) := by simp only [ocs]; rw [if_pos hlt]
  rw [hoc] at h
  by_cases h1 : B a = 1
  · rw [if_pos h1] at h
    refine ⟨hlt, Or.inl h1, fun q => by omega, fun q => by omega, fun _ => ?_⟩
    obtain ⟨a2, ea2⟩ := itr_ok (f := lf (lt1 B e)) (lf_f _) (i := 0) (Nat.zero_le _) h
    have ea2 : (lk (am B e 10) (.inl (a + 1))).2 = .inl a2 := ea2
    obtain ⟨a3, v, e3, h3, h3'⟩ := lk_ok ea2
    cases e3
    have hb := am_B h3
    rw [ea2, h3'] at h
    have := lts_ok _ _ h
    have ev : (some v).getD 0 = B (a + 1) := hb.2.1
    rw [ev] at this
    have ea : a2 = a + 2 := hb.2.2.2
    subst ea
    refine ⟨hb.2.2.1, ?_, fun i hi => ⟨(this.2 i hi).2.1, (this.2 i hi).2.2⟩⟩
    rcases Nat.eq_zero_or_pos (B (a + 1)) with q | q
    · have := hb.1; omega
    · have := (this.2 (B (a + 1) - 1) (by omega)).1
      omega
  · rw [if_neg h1] at h
    by_cases h3 : B a = 3
    · rw [if_pos h3] at h
      refine ⟨hlt, Or.inr (Or.inl h3), fun _ => ?_, fun q => by omega, fun q => absurd q h1⟩
      have := (nxs_ok 4 a' h).2 (by omega)
      omega
    · rw [if_neg h3] at h
      by_cases h7 : B a = 7
      · rw [if_pos h7] at h
        refine ⟨hlt, Or.inr (Or.inr h7), fun q => absurd q h3, fun _ => ?_, fun q => absurd q h1⟩
        obtain ⟨a1, v, e1, h2, -⟩ := lk_ok (f := nx B e) h
        cases e1
        have := nx_B h2
        omega
      · rw [if_neg h7] at h; cases h
set_option maxHeartbeats 2000000 in
theorem R_oneC {b : Nat → Nat} {σ : cS} {τ : rS} {B : Nat → Nat} {e c : Nat} (h : PB b σ τ B e c) {a κ : Nat} (hκ : κ ≤ 12) {Y : rS} (hY : isR τ e (.inl a) Y) {Q : rS → Prop} (hQ : ∀ τ' Y', isR τ' e (ocs B e (.inl a)) Y' → τ'.1 = τ.1 → (∀ n, n ≠ 6 → n ≠ 7 → τ'.2 n = τ.2 n) → (∀ i, i ≠ 13 * c + κ → τ'.2 6 i = τ.2 6 i ∧ τ'.2 7 i = τ.2 7 i) → (a < e → τ'.2 6 (13 * c + κ) = nI (B a) ∧ τ'.2 7 (13 * c + κ) = nI (120 * c + a)) → Q Y') : R_oneConstant_w Q (nI κ) Y := by
  have he := h.he
  have hc := h.hc
  obtain ⟨ha, s0, rfl⟩ := hY
  intro v4 e4
  have e4 : v4 = nI a := e4
  subst e4
  by_cases hlt : a < e
  · have hB := h.by_b a hlt
    have ne : ∀ m : Nat, m < 256 → (nI (B a) = nI m ↔ B a = m) := fun m hm => nI_eq (by omega) (by omega)
    have hoc : ocs B e (.inl a) = (if B a = 1 then itr (lf (lt1 B e)) ((lk (am B e 10) (.inl (a + 1))).1.getD 0) (lk (am B e 10) (.inl (a + 1))).2 else if B a = 3 then itr (lf (nx B e)) 4 (.inl (a + 1)) else if B a = 7 then lf (nx B e) (.inl (a + 1)) else .inr (3, a)) := by simp only [ocs]; rw [if_pos hlt]
    refine r_take_ok h hlt ⟨fun _ => ?_, fun h9 => absurd rfl h9⟩
    have ei : (13 : Int32) * τ.1 18 + nI κ = nI (13 * c + κ) := by rw [h.rn]; exact e13 c κ
    have ci : (nI (13 * c + κ)).toNatClampNeg = 13 * c + κ := nI_clamp (by omega)
    show vp_in ((13 : Int32) * τ.1 18 + nI κ) 208 ∧ ∀ t32 : rS, t32 = rA (rp τ (nI (a + 1)) 0 s0) 6 ((13 : Int32) * τ.1 18 + nI κ) (nI (B a)) → _
    rw [ei]
    refine ⟨vp_in_nI (by omega) (by omega), fun t32 e32 => ?_⟩
    subst e32
    show vp_in ((13 : Int32) * τ.1 18 + nI κ) 208 ∧ ∀ t52 : rS, t52 = rA (rA (rp τ (nI (a + 1)) 0 s0) 6 (nI (13 * c + κ)) (nI (B a))) 7 ((13 : Int32) * τ.1 18 + nI κ) (τ.1 19 + nI a) → _
    rw [ei, h.rb, nI_add]
    refine ⟨vp_in_nI (by omega) (by omega), fun t52 e52 => ?_⟩
    have h52 : isR (rA (rA τ 6 (nI (13 * c + κ)) (nI (B a))) 7 (nI (13 * c + κ)) (nI (120 * c + a))) e (.inl (a + 1)) t52 := ⟨by omega, s0, e52⟩
    have hPB' : PB b σ (rA (rA τ 6 (nI (13 * c + κ)) (nI (B a))) 7 (nI (13 * c + κ)) (nI (120 * c + a))) B e c := h
    have hQ' := fun Y' hY' => hQ (rA (rA τ 6 (nI (13 * c + κ)) (nI (B a))) 7 (nI (13 * c + κ)) (nI (120 * c + a))) Y' hY' rfl (fun n n6 n7 => by show va_up (va_up τ.2 6 _) 7 _ n = _; rw [va_up_ne _ _ n7, va_up_ne _ _ n6]) (fun i hi => ⟨by show upd (τ.2 6) (nI (13 * c + κ)).toNatClampNeg _ i = _; rw [ci, pk_un hi], by show upd (τ.2 7) (nI (13 * c + κ)).toNatClampNeg _ i = _; rw [ci, pk_un hi]⟩) (fun _ => ⟨by show upd (τ.2 6) (nI (13 * c + κ)).toNatClampNeg _ _ = _; rw [ci, pk_us], by show upd (τ.2 7) (nI (13 * c + κ)).toNatClampNeg _ _ = _; rw [ci, pk_us]⟩)
    generalize rA (rA τ 6 (nI (13 * c + κ)) (nI (B a))) 7 (nI (13 * c + κ)) (nI (120 * c + a)) = τ' at h52 hPB' hQ'
    refine ⟨fun n1 => ⟨fun n3 => ⟨fun n7 => ?_, fun h7 => ?_⟩, fun h3 => ?_⟩, fun h1 => ?_⟩
    · have hE : ocs B e (.inl a) = .inr (3, a) := by rw [hoc, if_neg (fun q => n1 ((ne 1 (by omega)).mpr q)), if_neg (fun q => n3 ((ne 3 (by omega)).mpr q)), if_neg (fun q => n7 ((ne 7 (by omega)).mpr q))]
      rw [hE] at hQ'
      obtain ⟨-, s1, e52'⟩ := h52
      rw [e52']
      exact r_fail_ok (hQ' _ ⟨⟨Nat.le_of_ble_eq_true rfl, Nat.le_of_ble_eq_true rfl, ha⟩, _, rfl⟩)
    · have hb : B a = 7 := (ne 7 (by omega)).mp h7
      have hE : ocs B e (.inl a) = lf (nx B e) (.inl (a + 1)) := by rw [hoc, if_neg (by omega), if_neg (by omega), if_pos hb]
      rw [hE] at hQ'
      exact R_nx hPB' h52 (fun _ X' hX' => hQ' X' hX')
    · have hb : B a = 3 := (ne 3 (by omega)).mp h3
      have hE : ocs B e (.inl a) = itr (lf (nx B e)) 4 (.inl (a + 1)) := by rw [hoc, if_neg (by omega), if_pos hb]
      rw [hE, nxs_eq (by omega)] at hQ'
      obtain ⟨ha1, s1, e52'⟩ := h52
      rw [e52']
      refine r_int hPB' ha1 (fun h9 => ?_) (fun h9 => ?_)
      · rw [if_pos h9] at hQ'
        exact hQ' _ ⟨h9, s1, rfl⟩
      · rw [if_neg (by omega)] at hQ'
        exact hQ' _ ⟨⟨Nat.le_of_ble_eq_true rfl, Nat.le_of_ble_eq_true rfl, Nat.le_refl _⟩, _, rfl⟩
    · have hb : B a = 1 := (ne 1 (by omega)).mp h1
      have hE : ocs B e (.inl a) = itr (lf (lt1 B e)) ((lk (am B e 10) (.inl (a + 1))).1.getD 0) (lk (am B e 10) (.inl (a + 1))).2 := by rw [hoc, if_pos hb]
      rw [hE] at hQ'
      refine R_am (most := 10) hPB' (by omega) h52 (fun X1 hX1 => ?_)
      have hm10 := am_le B e 10 (.inl (a + 1))
      generalize (lk (am B e 10) (.inl (a + 1))).2 = st1 at hX1 hQ'
      generalize (lk (am B e 10) (.inl (a + 1))).1.getD 0 = m at hm10 hQ' ⊢
      refine fx_ex (R_oneConstant_b69_f Q) (fun z => ∃ (i : Nat) (Y : rS), z = (nI m, nI i, Y) ∧ i ≤ m ∧ isR τ' e (itr (lf (lt1 B e)) i st1) Y) (fun z => 12 - z.2.1.toNatClampNeg) ?_ _ ⟨0, X1, rfl, Nat.zero_le _, hX1⟩
      rintro K0 _ ⟨i, Y, rfl, hi, hY⟩ hK0
      show R_oneConstant_b69_s Q (fun x4 x5 σ => K0 (x4, x5, σ)) (nI m) (nI i) Y
      refine ⟨fun h9 => ?_, fun h9 v80 e80 => ?_⟩
      · have : i = m := by have := (nI_leI (a := m) (b := i) (by omega) (by omega)).mp h9; omega
        subst this
        exact hQ' Y hY
      · have him : i < m := by
          rcases Nat.lt_or_ge i m with h7 | h7
          · exact h7
          · exact absurd (nI_le h7 (by omega)) h9
        refine R_lt hPB' hY (fun X' hX' v116 e116 => ?_) (fun a9 e9 => ?_)
        · rw [nI_1] at e116
          subst e116
          refine hK0 (nI m, nI (i + 1), X') ⟨i + 1, X', rfl, him, hX'⟩ ?_
          show 12 - (nI (i + 1)).toNatClampNeg < 12 - (nI i).toNatClampNeg
          rw [nI_clamp (by omega), nI_clamp (by omega)]; omega
        · rw [e9] at hY
          obtain ⟨-, s1, rfl⟩ := hY
          exact e80
  · have : a = e := by omega
    subst this
    have hE : ocs B a (.inl a) = .inr (1, a) := by simp only [ocs]; rw [if_neg hlt]
    rw [hE] at hQ
    exact r_take_end h ⟨fun h9 => absurd (show nI 1 = 0 from h9) (by decide), fun _ => hQ τ _ ⟨⟨Nat.le_of_ble_eq_true rfl, Nat.le_of_ble_eq_true rfl, ha⟩, _, rfl⟩ rfl (fun _ _ _ => rfl) (fun _ _ => ⟨rfl, rfl⟩) (fun q => absurd q hlt)⟩
theorem PB_R {b : Nat → Nat} {σ : cS} {τ τ' : rS} {B : Nat → Nat} {e c : Nat} (h : PB b σ τ B e c) (h18 : τ'.1 18 = τ.1 18) (h19 : τ'.1 19 = τ.1 19) (h20 : τ'.1 20 = τ.1 20) (h2 : τ'.2 2 = τ.2 2) : PB b σ τ' B e c := ⟨h.he, h.hc, h.ce, h.cb, by rw [h20]; exact h.re, by rw [h18]; exact h.rn, by rw [h19]; exact h.rb, h.by_c, by rw [h2]; exact h.by_r, h.by_b⟩
/-- what the constants change in the reference -/
def frK (τ τ' : rS) (c K : Nat) : Prop := (∀ j, j ≠ 22 → τ'.1 j = τ.1 j) ∧ (∀ n, n ≠ 6 → n ≠ 7 → τ'.2 n = τ.2 n) ∧ ∀ i, (∀ κ, 1 ≤ κ → κ ≤ K → i ≠ 13 * c + κ) → τ'.2 6 i = τ.2 6 i ∧ τ'.2 7 i = τ.2 7 i
set_option maxHeartbeats 2000000 in
theorem R_all {b : Nat → Nat} {σ : cS} {τ : rS} {B : Nat → Nat} {e c : Nat} (h : PB b σ τ B e c) {st : St} {X : rS} (hX : isR τ e st X) {Q : rS → Prop} (hQ : ∀ (st0 : St) (K : Nat) (τ' X' : rS), st0 = (lk (am B e 12) st).2 → K = (lk (am B e 12) st).1.getD 0 → isR τ' e (nmL B e K st0 K (itr (ocs B e) K st0)) X' → frK τ τ' c K → τ'.1 22 = nI K → (∀ a', nmL B e K st0 K (itr (ocs B e) K st0) = .inl a' → ∀ κ, 1 ≤ κ → κ ≤ K → τ'.2 6 (13 * c + κ) = nI (B (copl B e st0 κ)) ∧ τ'.2 7 (13 * c + κ) = nI (120 * c + copl B e st0 κ)) → Q X') : R_allConstants_w Q X := by
  have he := h.he
  have hc := h.hc
  refine R_am (most := 12) h (by omega) hX (fun X1 hX1 t7 e7 => ?_)
  have hK12 := am_le B e 12 st
  have hQ := hQ (lk (am B e 12) st).2 ((lk (am B e 12) st).1.getD 0)
  generalize hst1 : (lk (am B e 12) st).2 = st0 at hX1 hQ
  generalize hm : (lk (am B e 12) st).1.getD 0 = K at hK12 hQ e7
  have h7 := isR_rI hX1 (n := 22) (by omega) (by omega) (by omega) (nI K)
  rw [← e7] at h7
  -- the second loop
  have lp2 : ∀ (τ' Y : rS), isR τ' e (itr (ocs B e) K st0) Y → frK τ τ' c K → τ'.1 22 = nI K → (∀ a', itr (ocs B e) K st0 = .inl a' → ∀ κ, 1 ≤ κ → κ ≤ K → τ'.2 6 (13 * c + κ) = nI (B (copl B e st0 κ)) ∧ τ'.2 7 (13 * c + κ) = nI (120 * c + copl B e st0 κ)) → R_allConstants_b38 Q Y := by
    intro τ' Y hY hfr h22 hok
    have hP' : PB b σ τ' B e c := PB_R h (hfr.1 18 (by omega)) (hfr.1 19 (by omega)) (hfr.1 20 (by omega)) (hfr.2.1 2 (by omega) (by omega))
    have hstK : ∀ κ, 1 ≤ κ → κ ≤ K → ∀ a', itr (ocs B e) K st0 = .inl a' → ∃ a'', ocs B e (.inl (copl B e st0 κ)) = .inl a'' := by
      intro κ h1 h2 a' ea'
      obtain ⟨a1, e1⟩ := itr_ok (ocs_f B e) (i := κ) h2 ea'
      obtain ⟨a2, e2⟩ := itr_ok (ocs_f B e) (i := κ - 1) (n := κ) (by omega) e1
      have : copl B e st0 κ = a2 := by unfold copl; rw [e2]; rfl
      rw [this]
      obtain ⟨j, rfl⟩ : ∃ j, κ = j + 1 := ⟨κ - 1, by omega⟩
      have e1 : ocs B e (itr (ocs B e) j st0) = .inl a1 := e1
      rw [show itr (ocs B e) j st0 = .inl a2 from e2] at e1
      exact ⟨a1, e1⟩
    refine fx_ex (R_allConstants_b40_f Q) (fun z => ∃ (j : Nat) (Z : rS), z = (nI (j + 1), Z) ∧ j ≤ K ∧ isR τ' e (nmL B e K st0 j (itr (ocs B e) K st0)) Z) (fun z => 14 - z.1.toNatClampNeg) ?_ _ ⟨0, Y, rfl, Nat.zero_le _, hY⟩
    rintro K0 _ ⟨j, Z, rfl, hj, hZ⟩ hK0
    show R_allConstants_b40_s Q (fun x1 σ => K0 (x1, σ)) (nI (j + 1)) Z
    obtain ⟨oZ, oZ2⟩ := isR_o hZ
    have e22 : Z.1 22 = nI K := by rw [oZ 22 (by omega) (by omega) (by omega)]; exact h22
    have okN : ∀ a', nmL B e K st0 j (itr (ocs B e) K st0) = .inl a' → ∃ a'', itr (ocs B e) K st0 = .inl a'' := by
      intro a' ea'
      cases hs : itr (ocs B e) K st0 with
      | inl a => exact ⟨a, rfl⟩
      | inr q =>
        have := nmL_f B e K st0 (i := 0) (st := itr (ocs B e) K st0) hs j
        rw [Nat.zero_add] at this
        rw [this] at ea'; cases ea'
    refine ⟨fun h9 => ?_, fun h9 => ⟨fun h8 => ?_, fun h8 => ?_⟩⟩
    · rw [e22] at h9
      have hjK : j = K := by
        have := (nI_ltI (a := K) (b := j + 1) (by omega) (by omega)).mp h9
        omega
      subst hjK
      exact hQ τ' Z rfl rfl hZ hfr h22 (fun a' ea' => by obtain ⟨a'', ea''⟩ := okN a' ea'; exact hok a'' ea'')
    · obtain ⟨q, hq⟩ := (isR_23 hZ).2 h8
      have hst := nmL_f B e K st0 hq (K - j)
      rw [show j + (K - j) = K by omega] at hst
      exact hQ τ' Z rfl rfl (by rw [hst, ← hq]; exact hZ) hfr h22 (fun a' ea' => by rw [hst] at ea'; cases ea')
    · rw [e22] at h9
      have hjK : j < K := by
        rcases Nat.lt_or_ge j K with h7 | h7
        · exact h7
        · exact absurd (nI_lt (a := K) (b := j + 1) (by omega) (by omega)) h9
      obtain ⟨a, ha⟩ := (isR_23 hZ).1 h8
      obtain ⟨aC, eC⟩ := okN a ha
      have hok := hok aC eC
      obtain ⟨k6, k7⟩ := hok (j + 1) (by omega) (by omega)
      obtain ⟨aκ, eκ⟩ := hstK (j + 1) (by omega) (by omega) aC eC
      obtain ⟨w0, w1, w2, w3, w4⟩ := ocs_bK eκ
      have l7 := okS_le w1
      have hstp : nmL B e K st0 (j + 1) (itr (ocs B e) K st0) = ncs B e K st0 (j + 1) (.inl a) := by show ncs B e K st0 (j + 1) (nmL B e K st0 j (itr (ocs B e) K st0)) = _; rw [ha]
      rw [ha] at hZ
      obtain ⟨hae, s0, rfl⟩ := hZ
      have mu : 14 - (nI (j + 1 + 1)).toNatClampNeg < 14 - (nI (j + 1)).toNatClampNeg := by rw [nI_clamp (by omega), nI_clamp (by omega)]; omega
      have ei : (13 : Int32) * τ'.1 18 + nI (j + 1) = nI (13 * c + (j + 1)) := by rw [hP'.rn]; exact e13 c (j + 1)
      have ci : (nI (13 * c + (j + 1))).toNatClampNeg = 13 * c + (j + 1) := nI_clamp (by omega)
      show vp_in ((13 : Int32) * τ'.1 18 + nI (j + 1)) 208 ∧ ∀ v69 : Int32, v69 = (τ'.2 7 ((13 : Int32) * τ'.1 18 + nI (j + 1)).toNatClampNeg) → vp_in ((13 : Int32) * τ'.1 18 + nI (j + 1)) 208 ∧ (¬ (τ'.2 6 ((13 : Int32) * τ'.1 18 + nI (j + 1)).toNatClampNeg) = (7 : Int32) → R_allConstants_b179 Q (fun x1 σ => K0 (x1, σ)) (nI (j + 1)) (rp τ' (nI a) 0 s0)) ∧ ((τ'.2 6 ((13 : Int32) * τ'.1 18 + nI (j + 1)).toNatClampNeg) = (7 : Int32) → _)
      rw [ei, ci, k6, k7]
      refine ⟨vp_in_nI (by omega) (by omega), fun v69 e69 => ⟨vp_in_nI (by omega) (by omega), fun h7 => ?_, fun h7 => ?_⟩⟩
      · have hn7 : B (copl B e st0 (j + 1)) ≠ 7 := fun q => h7 (by rw [q]; rfl)
        intro v179 e179
        rw [nI_1] at e179
        subst e179
        have hE : nmL B e K st0 (j + 1) (itr (ocs B e) K st0) = .inl a := by rw [hstp]; simp only [ncs]; rw [if_neg hn7]
        exact hK0 (nI (j + 1 + 1), rp τ' (nI a) 0 s0) ⟨j + 1, _, rfl, hjK, by rw [hE]; exact ⟨hae, s0, rfl⟩⟩ mu
      · have hb7 : B (copl B e st0 (j + 1)) = 7 := (nI_eq (b := 7) (by omega) (by omega)).mp h7
        subst e69
        have hw := w3 hb7
        have hBn := h.by_b (copl B e st0 (j + 1) + 1) (by omega)
        have hby : τ'.2 2 (120 * c + copl B e st0 (j + 1) + 1) = nI (B (copl B e st0 (j + 1) + 1)) := hP'.by_r (copl B e st0 (j + 1) + 1) (by omega)
        rw [nI_1]
        show vp_in (nI (120 * c + copl B e st0 (j + 1) + 1)) 1920 ∧ ∀ v97 : Int32, v97 = (τ'.2 2 (nI (120 * c + copl B e st0 (j + 1) + 1)).toNatClampNeg) → _
        rw [nI_clamp (n := 120 * c + copl B e st0 (j + 1) + 1) (by omega), hby]
        refine ⟨vp_in_nI (by omega) (by omega), fun v97 e97 => ?_⟩
        subst e97
        generalize hn : B (copl B e st0 (j + 1) + 1) = n at hBn
        have bad : ¬ gdc B e K st0 (j + 1) → R_allConstants_b157 Q (fun x1 σ => K0 (x1, σ)) (nI (j + 1)) (nI (120 * c + copl B e st0 (j + 1))) (rp τ' (nI a) 0 s0) := by
          intro hng
          refine ⟨fun h6 => absurd rfl h6, fun _ => ?_⟩
          show R_fail_w _ (6 : Int32) (nI (120 * c + copl B e st0 (j + 1)) + 1 - τ'.1 19) (rp τ' (nI a) 0 s0)
          rw [hP'.rb, nI_1, pk_sub (by omega), show 120 * c + copl B e st0 (j + 1) + 1 - 120 * c = copl B e st0 (j + 1) + 1 by omega]
          refine r_fail_ok (fun v179 e179 => ?_)
          rw [nI_1] at e179
          subst e179
          have hE : nmL B e K st0 (j + 1) (itr (ocs B e) K st0) = .inr (6, copl B e st0 (j + 1) + 1) := by rw [hstp]; simp only [ncs]; rw [if_pos hb7, if_neg hng]
          exact hK0 (nI (j + 1 + 1), _) ⟨j + 1, _, rfl, hjK, by rw [hE]; exact ⟨⟨Nat.le_of_ble_eq_true rfl, Nat.le_of_ble_eq_true rfl, by show copl B e st0 (j + 1) + 1 ≤ e; omega⟩, _, rfl⟩⟩ mu
        refine ⟨fun h6 => bad (fun hg => ?_), fun h6 => ⟨fun h5 => bad (fun hg => ?_), fun h5 => ?_⟩⟩
        · unfold gdc at hg
          rw [hn] at hg
          exact absurd ((nI_ltI (b := 1) (by omega) (by omega)).mp h6) (by omega)
        · unfold gdc at hg
          rw [hn] at hg
          rw [show (rp τ' (nI a) 0 s0).1 22 = τ'.1 22 from rfl, h22] at h5
          exact absurd ((nI_ltI (by omega) (by omega)).mp h5) (by omega)
        · rw [show (rp τ' (nI a) 0 s0).1 22 = τ'.1 22 from rfl, h22] at h5
          have hle : n ≤ K := by
            rcases Nat.lt_or_ge K n with h3 | h3
            · exact absurd (nI_lt h3 (by omega)) h5
            · exact h3
          have hge : 1 ≤ n := by
            rcases Nat.lt_or_ge n 1 with h3 | h3
            · exact absurd (nI_lt (b := 1) h3 (by omega)) h6
            · exact h3
          obtain ⟨m6, m7⟩ := hok n hge hle
          obtain ⟨aκ2, eκ2⟩ := hstK n hge hle aC eC
          obtain ⟨z0, z1, z2, z3, z4⟩ := ocs_bK eκ2
          have l7' := okS_le z1
          have ei2 : (13 : Int32) * τ'.1 18 + nI n = nI (13 * c + n) := by rw [hP'.rn]; exact e13 c n
          have ci2 : (nI (13 * c + n)).toNatClampNeg = 13 * c + n := nI_clamp (by omega)
          show vp_in ((13 : Int32) * τ'.1 18 + nI n) 208 ∧ (¬ (τ'.2 6 ((13 : Int32) * τ'.1 18 + nI n).toNatClampNeg) = (1 : Int32) → _) ∧ ((τ'.2 6 ((13 : Int32) * τ'.1 18 + nI n).toNatClampNeg) = (1 : Int32) → vp_in ((13 : Int32) * τ'.1 18 + nI n) 208 ∧ vp_in ((τ'.2 7 ((13 : Int32) * τ'.1 18 + nI n).toNatClampNeg) + (1 : Int32)) 1920 ∧ ((τ'.2 2 ((τ'.2 7 ((13 : Int32) * τ'.1 18 + nI n).toNatClampNeg) + (1 : Int32)).toNatClampNeg) ≤ 0 → _) ∧ (¬ (τ'.2 2 ((τ'.2 7 ((13 : Int32) * τ'.1 18 + nI n).toNatClampNeg) + (1 : Int32)).toNatClampNeg) ≤ 0 → _))
          rw [ei2, ci2, m6, m7, nI_1 (120 * c + copl B e st0 n)]
          refine ⟨vp_in_nI (by omega) (by omega), fun h4 => bad (fun hg => ?_), fun h4 => ?_⟩
          · unfold gdc at hg
            rw [hn] at hg
            exact h4 (by rw [hg.2.2.1]; rfl)
          · have hb1 : B (copl B e st0 n) = 1 := (nI_eq (b := 1) (by omega) (by omega)).mp h4
            obtain ⟨x1, x2, x3⟩ := z4 hb1
            have hby2 : τ'.2 2 (120 * c + copl B e st0 n + 1) = nI (B (copl B e st0 n + 1)) := hP'.by_r (copl B e st0 n + 1) (by omega)
            rw [nI_clamp (n := 120 * c + copl B e st0 n + 1) (by omega), hby2]
            refine ⟨vp_in_nI (by omega) (by omega), vp_in_nI (by omega) (by omega), fun h3 => bad (fun hg => ?_), fun h3 => ⟨fun _ v179 e179 => ?_, fun h2 => absurd h2 n1_ne0⟩⟩
            · unfold gdc at hg
              rw [hn] at hg
              exact absurd ((nI_leI (b := 0) (by omega) (by omega)).mp h3) (by omega)
            · have hpos : 0 < B (copl B e st0 n + 1) := by
                rcases Nat.eq_zero_or_pos (B (copl B e st0 n + 1)) with h1 | h1
                · rw [h1] at h3; exact absurd (by decide) h3
                · exact h1
              have hg : gdc B e K st0 (j + 1) := by unfold gdc; rw [hn]; exact ⟨hge, hle, hb1, hpos⟩
              have hE : nmL B e K st0 (j + 1) (itr (ocs B e) K st0) = .inl a := by rw [hstp]; simp only [ncs]; rw [if_pos hb7, if_pos hg]
              rw [nI_1] at e179
              subst e179
              exact hK0 (nI (j + 1 + 1), rp τ' (nI a) 0 s0) ⟨j + 1, _, rfl, hjK, by rw [hE]; exact ⟨hae, s0, rfl⟩⟩ mu
  -- the first loop
  refine fx_ex (R_allConstants_b12_f Q) (fun z => ∃ (j : Nat) (τ' Z : rS), z = (nI (j + 1), Z) ∧ j ≤ K ∧ isR τ' e (itr (ocs B e) j st0) Z ∧ frK τ τ' c K ∧ τ'.1 22 = nI K ∧ (∀ a', itr (ocs B e) j st0 = .inl a' → ∀ κ, 1 ≤ κ → κ ≤ j → τ'.2 6 (13 * c + κ) = nI (B (copl B e st0 κ)) ∧ τ'.2 7 (13 * c + κ) = nI (120 * c + copl B e st0 κ))) (fun z => 14 - z.1.toNatClampNeg) ?_ _ ⟨0, rI τ 22 (nI K), t7, rfl, Nat.zero_le _, h7, ⟨fun j hj => va_up_ne _ _ hj, fun _ _ _ => rfl, fun _ _ => ⟨rfl, rfl⟩⟩, rfl, fun a' _ κ h1 h2 => by omega⟩
  rintro K0 _ ⟨j, τ', Z, rfl, hj, hZ, hfr, h22, hok⟩ hK0
  show R_allConstants_b12_s Q (fun x1 σ => K0 (x1, σ)) (nI (j + 1)) Z
  obtain ⟨oZ, oZ2⟩ := isR_o hZ
  have e22 : Z.1 22 = nI K := by rw [oZ 22 (by omega) (by omega) (by omega)]; exact h22
  refine ⟨fun h9 => ?_, fun h9 => ⟨fun h8 => ?_, fun h8 => ?_⟩⟩
  · rw [e22] at h9
    have hjK : j = K := by
      have := (nI_ltI (a := K) (b := j + 1) (by omega) (by omega)).mp h9
      omega
    subst hjK
    exact lp2 τ' Z hZ hfr h22 hok
  · obtain ⟨q, hq⟩ := (isR_23 hZ).2 h8
    have hst := itr_stuck (ocs_f B e) hj hq
    exact lp2 τ' Z (by rw [hst, ← hq]; exact hZ) hfr h22 (fun a' e' => by rw [hst] at e'; cases e')
  · rw [e22] at h9
    have hjK : j < K := by
      rcases Nat.lt_or_ge j K with h7 | h7
      · exact h7
      · exact absurd (nI_lt (a := K) (b := j + 1) (by omega) (by omega)) h9
    obtain ⟨a, ha⟩ := (isR_23 hZ).1 h8
    have hcpl : copl B e st0 (j + 1) = a := by unfold copl; rw [show j + 1 - 1 = j by omega, ha]; rfl
    have hsucc : itr (ocs B e) (j + 1) st0 = ocs B e (.inl a) := by show ocs B e (itr (ocs B e) j st0) = _; rw [ha]
    have hP' : PB b σ τ' B e c := PB_R h (hfr.1 18 (by omega)) (hfr.1 19 (by omega)) (hfr.1 20 (by omega)) (hfr.2.1 2 (by omega) (by omega))
    rw [ha] at hZ
    refine R_oneC (κ := j + 1) hP' (by omega) hZ (fun τ2 Y' hY' f1 f2 f3 f4 v32 e32 => ?_)
    rw [nI_1] at e32
    subst e32
    refine hK0 (nI (j + 1 + 1), Y') ⟨j + 1, τ2, Y', rfl, hjK, by rw [hsucc]; exact hY', ⟨fun i hi => by rw [f1]; exact hfr.1 i hi, fun n n6 n7 => by rw [f2 n n6 n7]; exact hfr.2.1 n n6 n7, fun i hi => ?_⟩, by rw [f1]; exact h22, fun a' ea' κ h1 h2 => ?_⟩ ?_
    · obtain ⟨q1, q2⟩ := f3 i (hi (j + 1) (by omega) (by omega))
      obtain ⟨q3, q4⟩ := hfr.2.2 i hi
      exact ⟨q1.trans q3, q2.trans q4⟩
    · rw [hsucc] at ea'
      rcases Nat.lt_or_ge κ (j + 1) with h7 | h7
      · obtain ⟨q1, q2⟩ := f3 (13 * c + κ) (by omega)
        obtain ⟨q3, q4⟩ := hok a ha κ h1 (by omega)
        exact ⟨q1.trans q3, q2.trans q4⟩
      · have : κ = j + 1 := by omega
        subst this
        rw [hcpl]
        exact f4 (ocs_ok ea')
    · show 14 - (nI (j + 1 + 1)).toNatClampNeg < 14 - (nI (j + 1)).toNatClampNeg
      rw [nI_clamp (by omega), nI_clamp (by omega)]; omega
