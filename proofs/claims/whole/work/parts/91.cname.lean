/-! the parse: the names of class constants, class side -/
abbrev gdc (B : Nat → Nat) (e K : Nat) (st0 : St) (κ : Nat) : Prop := 1 ≤ B (copl B e st0 κ + 1) ∧ B (copl B e st0 κ + 1) ≤ K ∧ B (copl B e st0 (B (copl B e st0 κ + 1))) = 1 ∧ 0 < B (copl B e st0 (B (copl B e st0 κ + 1)) + 1)
def ncs (B : Nat → Nat) (e K : Nat) (st0 : St) (κ : Nat) : St → St
  | .inl a => if B (copl B e st0 κ) = 7 then (if gdc B e K st0 κ then .inl a else .inr (6, copl B e st0 κ + 1)) else .inl a
  | .inr q => .inr q
def nmL (B : Nat → Nat) (e K : Nat) (st0 : St) : Nat → St → St
  | 0, st => st
  | j + 1, st => ncs B e K st0 (j + 1) (nmL B e K st0 j st)
theorem nmL_f (B : Nat → Nat) (e K : Nat) (st0 : St) {st : St} {q : Nat × Nat} {i : Nat} (h : nmL B e K st0 i st = .inr q) : ∀ d, nmL B e K st0 (i + d) st = .inr q := by
  intro d
  induction d with
  | zero => exact h
  | succ d ih => show ncs B e K st0 (i + d + 1) (nmL B e K st0 (i + d) st) = _; rw [ih]; rfl
noncomputable def txn (yb : Nat → Int32) (B : Nat → Nat) (e c : Nat) (st0 : St) (Tt : Nat × (Nat → Int32)) (κ : Nat) : Nat := nbf yb (nb yb B e c st0 Tt (κ - 1)) (120 * c + copl B e st0 κ + 1)
theorem nbs_keep {yb : Nat → Int32} {Tt : Nat × (Nat → Int32)} {p t : Nat} (h : t < Tt.1) : (nbs yb Tt p).2 t = Tt.2 t := by
  unfold nbs
  by_cases h1 : nbf yb Tt p < Tt.1
  · rw [if_pos h1]
  · rw [if_neg h1]; exact pk_un (by omega)
theorem nb_keep {yb : Nat → Int32} {B : Nat → Nat} {e c : Nat} {st0 : St} {Tt : Nat × (Nat → Int32)} {t i : Nat} (h : t < (nb yb B e c st0 Tt i).1) : ∀ d, t < (nb yb B e c st0 Tt (i + d)).1 ∧ (nb yb B e c st0 Tt (i + d)).2 t = (nb yb B e c st0 Tt i).2 t := by
  intro d
  induction d with
  | zero => exact ⟨h, rfl⟩
  | succ d ih =>
    have hs : nb yb B e c st0 Tt (i + (d + 1)) = if B (copl B e st0 (i + d + 1)) = 1 then nbs yb (nb yb B e c st0 Tt (i + d)) (120 * c + copl B e st0 (i + d + 1) + 1) else nb yb B e c st0 Tt (i + d) := rfl
    rw [hs]
    by_cases h1 : B (copl B e st0 (i + d + 1)) = 1
    · rw [if_pos h1, nbs_keep ih.1]
      have := nbs_le yb (nb yb B e c st0 Tt (i + d)) (120 * c + copl B e st0 (i + d + 1) + 1)
      exact ⟨by omega, ih.2⟩
    · rw [if_neg h1]; exact ih
theorem nbf_sm {yb : Nat → Int32} {Tt : Nat × (Nat → Int32)} {p m : Nat} (hm : m ≤ 10) (hp : p < 1920) (e2 : yb p = nI m) : nbf yb Tt p < (nbs yb Tt p).1 ∧ sm yb ((nbs yb Tt p).2 (nbf yb Tt p)) p := by
  have hle := fsT_le (D := fun t => sm yb (Tt.2 t) p) Tt.1 0
  unfold nbs
  by_cases h1 : nbf yb Tt p < Tt.1
  · rw [if_pos h1]
    exact ⟨h1, fsT_D (D := fun t => sm yb (Tt.2 t) p) Tt.1 0 (by rw [Nat.zero_add]; exact h1)⟩
  · rw [if_neg h1]
    have : nbf yb Tt p = Tt.1 := by unfold nbf at h1 ⊢; omega
    rw [this]
    refine ⟨Nat.lt_succ_self _, ?_⟩
    show sm yb (upd Tt.2 Tt.1 (nI p) Tt.1) p
    rw [pk_us]
    exact ⟨p, m, hp, hm, rfl, e2, e2, fun _ _ => rfl⟩
theorem txn_sm {yb : Nat → Int32} {B : Nat → Nat} {e c : Nat} {st0 : St} {Tt : Nat × (Nat → Int32)} {κ K m : Nat} (h1 : 1 ≤ κ) (hK : κ ≤ K) (hB : B (copl B e st0 κ) = 1) (hm : m ≤ 10) (hp : 120 * c + copl B e st0 κ + 1 < 1920) (e2 : yb (120 * c + copl B e st0 κ + 1) = nI m) : txn yb B e c st0 Tt κ < (nb yb B e c st0 Tt K).1 ∧ sm yb ((nb yb B e c st0 Tt K).2 (txn yb B e c st0 Tt κ)) (120 * c + copl B e st0 κ + 1) := by
  have h2 := nbf_sm (Tt := nb yb B e c st0 Tt (κ - 1)) hm hp e2
  have h3 : nb yb B e c st0 Tt κ = nbs yb (nb yb B e c st0 Tt (κ - 1)) (120 * c + copl B e st0 κ + 1) := by
    obtain ⟨j, rfl⟩ : ∃ j, κ = j + 1 := ⟨κ - 1, by omega⟩
    show (if B (copl B e st0 (j + 1)) = 1 then _ else _) = _
    rw [if_pos hB]; rfl
  rw [← h3] at h2
  have h4 := nb_keep (yb := yb) (B := B) (e := e) (c := c) (st0 := st0) (Tt := Tt) (i := κ) h2.1 (K - κ)
  rw [show κ + (K - κ) = K by omega] at h4
  exact ⟨h4.1, by show sm yb ((nb yb B e c st0 Tt K).2 (nbf yb _ _)) _; rw [h4.2]; exact h2.2⟩
/-- what the class holds of constant κ in the end -/
def CN (σ : cS) (B : Nat → Nat) (e c K : Nat) (yb : Nat → Int32) (st0 : St) (Tt : Nat × (Nat → Int32)) (κ : Nat) : Prop := okS (B (copl B e st0 κ)) ∧ σ.2.1 6 κ = nI (kk (B (copl B e st0 κ))) ∧ (B (copl B e st0 κ) = 3 → σ.2.1 7 κ = nI (iv B (copl B e st0 κ + 1) 4)) ∧ (B (copl B e st0 κ) = 7 → gdc B e K st0 κ ∧ σ.2.1 7 κ = nI (txn yb B e c st0 Tt (B (copl B e st0 κ + 1)))) ∧ (B (copl B e st0 κ) = 1 → σ.2.1 7 κ = nI (txn yb B e c st0 Tt κ))
def cgN (σ σ' : cS) : Prop := σ'.1 = σ.1 ∧ (∀ j, j ≠ 7 → σ'.2.1 j = σ.2.1 j) ∧ σ'.2.2 = σ.2.2
set_option maxHeartbeats 2000000 in
theorem C_names {b : Nat → Nat} {k : Nat → ClassId} {σ : cS} {τ : rS} {B : Nat → Nat} {e c K : Nat} {yb : Nat → Int32} (h : PB b σ τ B e c) (hy : ∀ i, i < e → yb (120 * c + i) = nI (B i)) (hr1 : σ.2.2.2.1 1 = some (b 2)) {Tt : Nat × (Nat → Int32)} (hT : Tt.1 ≤ 180) (hK12 : K ≤ 12) (h6 : σ.1 6 = nI K) {st st0 : St} (hok : ∀ a', st = .inl a' → TXs σ yb (nb yb B e c st0 Tt K) ∧ ∀ κ, 1 ≤ κ → κ ≤ K → CF σ B e c yb (nb yb B e c st0 Tt (κ - 1)) κ (copl B e st0 κ)) {X : cS} (hX : isC σ e st X) {Q : cS → Prop} (hQ : ∀ σ' X', isC σ' e (nmL B e K st0 K st) X' → cgN σ σ' → (∀ a', nmL B e K st0 K st = .inl a' → (∃ a'', st = .inl a'') ∧ ∀ κ, 1 ≤ κ → κ ≤ K → CN σ' B e c K yb st0 Tt κ) → Q X') : C_X3_nameClassConstants_w b k Q X := by
  have he := h.he
  have hc := h.hc
  refine fx_ex (C_X3_nameClassConstants_b2_f b k Q) (fun z => ∃ (j : Nat) (σ' Y : cS), z = (nI (j + 1), Y) ∧ j ≤ K ∧ isC σ' e (nmL B e K st0 j st) Y ∧ cgN σ σ' ∧ (∀ a', nmL B e K st0 j st = .inl a' → (∃ a'', st = .inl a'') ∧ (∀ κ, 1 ≤ κ → κ ≤ j → CN σ' B e c K yb st0 Tt κ) ∧ ∀ κ, (j < κ ∨ B (copl B e st0 κ) ≠ 7) → σ'.2.1 7 κ = σ.2.1 7 κ)) (fun z => 14 - z.1.toNatClampNeg) ?_ _ ⟨0, σ, X, rfl, Nat.zero_le _, hX, ⟨rfl, fun _ _ => rfl, rfl⟩, fun a' e' => ⟨⟨a', e'⟩, fun κ h1 h2 => (by omega), fun _ _ => rfl⟩⟩
  rintro K0 _ ⟨j, σ', Y, rfl, hj, hY, hcg, hok'⟩ hK0
  show C_X3_nameClassConstants_b2_s b k Q (fun x1 σ => K0 (x1, σ)) (nI (j + 1)) Y
  have e6 : Y.1 6 = nI K := by
    rw [← h6, ← hcg.1]
    cases hs : nmL B e K st0 j st with
    | inl a => rw [hs] at hY; rw [hY.2]; rfl
    | inr q => rw [hs] at hY; obtain ⟨-, a, -, rfl⟩ := hY; rfl
  refine ⟨fun h9 => ?_, fun h9 => ⟨fun h8 => ?_, fun h8 => ?_⟩⟩
  · rw [e6] at h9
    have hjK : j = K := by
      have := (nI_ltI (a := K) (b := j + 1) (by omega) (by omega)).mp h9
      omega
    subst hjK
    exact hQ σ' Y hY hcg (fun a' e' => ⟨(hok' a' e').1, (hok' a' e').2.1⟩)
  · obtain ⟨q, hq⟩ := (isC_3 he hY).2 h8
    have hst := nmL_f B e K st0 hq (K - j)
    rw [show j + (K - j) = K by omega] at hst
    exact hQ σ' Y (by rw [hst, ← hq]; exact hY) hcg (fun a' e' => by rw [hst] at e'; cases e')
  · rw [e6] at h9
    have hjK : j < K := by
      rcases Nat.lt_or_ge j K with h7 | h7
      · exact h7
      · exact absurd (nI_lt (a := K) (b := j + 1) (by omega) (by omega)) h9
    obtain ⟨a, ha⟩ := (isC_3 he hY).1 h8
    rw [ha] at hY hok'
    obtain ⟨⟨a0, ea0⟩, hcn, hsame⟩ := hok' a rfl
    obtain ⟨htx, hcf⟩ := hok a0 ea0
    obtain ⟨w0, w1, w2, w3, w4, w5⟩ := hcf (j + 1) (by omega) (by omega)
    obtain ⟨g1, g2, g3⟩ := hcg
    obtain ⟨hae, rfl⟩ := hY
    have cj : (nI (j + 1)).toNatClampNeg = j + 1 := nI_clamp (by omega)
    have v13 : vp_in (nI (j + 1)) 13 := vp_in_nI (by omega) (by omega)
    have k6 : ∀ κ, σ'.2.1 6 κ = σ.2.1 6 κ := fun κ => by rw [g2 6 (by omega)]
    have hstp : nmL B e K st0 (j + 1) st = ncs B e K st0 (j + 1) (.inl a) := by show ncs B e K st0 (j + 1) (nmL B e K st0 j st) = _; rw [ha]
    have mu : 14 - (nI (j + 1 + 1)).toNatClampNeg < 14 - (nI (j + 1)).toNatClampNeg := by rw [nI_clamp (by omega), nI_clamp (by omega)]; omega
    -- the number of a text constant
    have keepCN : ∀ (σ2 : cS), (∀ i, i ≠ 7 → σ2.2.1 i = σ'.2.1 i) → (∀ κ, κ ≠ j + 1 → σ2.2.1 7 κ = σ'.2.1 7 κ) → ∀ κ, 1 ≤ κ → κ ≤ j → CN σ2 B e c K yb st0 Tt κ := by
      intro σ2 q1 q2 κ hκ1 hκ2
      obtain ⟨x1, x2, x3, x4, x5⟩ := hcn κ hκ1 hκ2
      exact ⟨x1, by rw [q1 6 (by omega)]; exact x2, by rw [q2 κ (by omega)]; exact x3, by rw [q2 κ (by omega)]; exact x4, by rw [q2 κ (by omega)]; exact x5⟩
    show vp_in (nI (j + 1)) 13 ∧ (¬ (σ'.2.1 6 (nI (j + 1)).toNatClampNeg) = (3 : Int32) → C_X3_nameClassConstants_b86 b k Q (fun x1 σ => K0 (x1, σ)) (nI (j + 1)) (cp σ' 0 (nI a))) ∧ ((σ'.2.1 6 (nI (j + 1)).toNatClampNeg) = (3 : Int32) → vp_in (nI (j + 1)) 13 ∧ ∀ v33 : Int32, v33 = (σ'.2.1 7 (nI (j + 1)).toNatClampNeg) → _)
    rw [cj, k6, w2]
    have l1 := kk_le (B (copl B e st0 (j + 1)))
    refine ⟨v13, fun h7 => ?_, fun h7 => ⟨v13, fun v33 e33 => ?_⟩⟩
    · have hn7 : B (copl B e st0 (j + 1)) ≠ 7 := fun q => h7 (by rw [q]; rfl)
      intro v86 e86
      rw [nI_1] at e86
      subst e86
      have hE : nmL B e K st0 (j + 1) st = .inl a := by rw [hstp]; simp only [ncs]; rw [if_neg hn7]
      refine hK0 (nI (j + 1 + 1), cp σ' 0 (nI a)) ⟨j + 1, σ', _, rfl, hjK, by rw [hE]; exact ⟨hae, rfl⟩, ⟨g1, g2, g3⟩, fun a' e' => ⟨⟨a0, ea0⟩, fun κ hκ1 hκ2 => ?_, fun κ hκ => hsame κ ?_⟩⟩ mu
      · rcases Nat.lt_or_ge κ (j + 1) with h5 | h5
        · exact hcn κ hκ1 (by omega)
        · have : κ = j + 1 := by omega
          subst this
          have hs7 := hsame (j + 1) (Or.inl (by omega))
          refine ⟨w1, by rw [k6]; exact w2, fun q => by rw [hs7]; exact (w3 q).1, fun q => absurd q hn7, fun q => by rw [hs7]; exact (w5 q).1⟩
      · rcases hκ with h5 | h5
        · exact Or.inl (by omega)
        · exact Or.inr h5
    · have hb7 : B (copl B e st0 (j + 1)) = 7 := by
        have := (nI_eq (b := 3) (by omega) (by omega)).mp h7
        rcases w1 with q | q | q
        · rw [q] at this; exact absurd this (by decide)
        · rw [q] at this; exact absurd this (by decide)
        · exact q
      obtain ⟨y1, y2, y3⟩ := w4 hb7
      have hs7 := hsame (j + 1) (Or.inl (by omega))
      rw [hs7, y1] at e33
      subst e33
      have hBn := h.by_b (copl B e st0 (j + 1) + 1) (by omega)
      generalize hn : B (copl B e st0 (j + 1) + 1) = n at hBn y1
      have bad : ¬ gdc B e K st0 (j + 1) → C_X3_nameClassConstants_b74 b k Q (fun x1 σ => K0 (x1, σ)) (nI (j + 1)) (cp σ' 0 (nI a)) := by
        intro hng
        refine ⟨v13, ?_⟩
        show C_X3_refuse_w b k _ (6 : Int32) (σ'.2.1 8 (nI (j + 1)).toNatClampNeg) (cp σ' 0 (nI a))
        rw [cj, g2 8 (by omega), y2]
        refine c_ref_ok (r := 6) (s := copl B e st0 (j + 1) + 1) (fun v86 e86 => ?_)
        rw [nI_1] at e86
        subst e86
        have hE : nmL B e K st0 (j + 1) st = .inr (6, copl B e st0 (j + 1) + 1) := by rw [hstp]; simp only [ncs]; rw [if_pos hb7, if_neg hng]
        refine hK0 (nI (j + 1 + 1), _) ⟨j + 1, σ', _, rfl, hjK, by rw [hE]; exact ⟨⟨Nat.le_of_ble_eq_true rfl, Nat.le_of_ble_eq_true rfl, by show copl B e st0 (j + 1) + 1 ≤ e; omega⟩, a, hae, rfl⟩, ⟨g1, g2, g3⟩, fun a' e' => (by rw [hE] at e'; cases e')⟩ mu
      have bad27 : ¬ gdc B e K st0 (j + 1) → C_X3_isConstant_b27 b k (fun r37 t37 => (r37 = 0 → C_X3_nameClassConstants_b74 b k Q (fun x1 σ => K0 (x1, σ)) (nI (j + 1)) t37) ∧ (¬ r37 = 0 → t37.2.2.2.1 1 = some (b 2) ∧ vp_in (nI n) 13 ∧ C_X4_lengthOf_w b k (fun r53 t53 => (r53 ≤ 0 → C_X3_nameClassConstants_b74 b k Q (fun x1 σ => K0 (x1, σ)) (nI (j + 1)) t53) ∧ (¬ r53 ≤ 0 → vp_in (nI n) 13 ∧ vp_in (nI (j + 1)) 13 ∧ ∀ t70 : cS, t70 = sA t53 7 (nI (j + 1)) (t53.2.1 7 (nI n).toNatClampNeg) → C_X3_nameClassConstants_b86 b k Q (fun x1 σ => K0 (x1, σ)) (nI (j + 1)) t70)) (t37.2.1 7 (nI n).toNatClampNeg) t37)) (cp σ' 0 (nI a)) := fun hng => ⟨zb0, fun _ => bad hng, fun h5 => absurd rfl h5⟩
      refine ⟨fun h5 => bad27 (fun hg => ?_), fun h5 => ⟨fun h4 => bad27 (fun hg => ?_), fun h4 => ?_⟩⟩
      · unfold gdc at hg
        rw [hn] at hg
        exact absurd ((nI_ltI (b := 1) (by omega) (by omega)).mp h5) (by omega)
      · unfold gdc at hg
        rw [hn] at hg
        rw [show (cp σ' 0 (nI a)).1 6 = σ'.1 6 from rfl, g1, h6] at h4
        exact absurd ((nI_ltI (by omega) (by omega)).mp h4) (by omega)
      · rw [show (cp σ' 0 (nI a)).1 6 = σ'.1 6 from rfl, g1, h6] at h4
        have hle : n ≤ K := by
          rcases Nat.lt_or_ge K n with h3 | h3
          · exact absurd (nI_lt h3 (by omega)) h4
          · exact h3
        have hge : 1 ≤ n := by
          rcases Nat.lt_or_ge n 1 with h3 | h3
          · exact absurd (nI_lt (b := 1) h3 (by omega)) h5
          · exact h3
        have cn : (nI n).toNatClampNeg = n := nI_clamp (by omega)
        have vn : vp_in (nI n) 13 := vp_in_nI (by omega) (by omega)
        obtain ⟨z0, z1, z2, z3, z4, z5⟩ := hcf n hge hle
        have l2 := kk_le (B (copl B e st0 n))
        show vp_in (nI n) 13 ∧ (¬ (σ'.2.1 6 (nI n).toNatClampNeg) = (2 : Int32) → _) ∧ ((σ'.2.1 6 (nI n).toNatClampNeg) = (2 : Int32) → _)
        rw [cn, k6, z2]
        refine ⟨vn, fun h3 => ?_, fun h3 => ?_⟩
        · rw [cn] at bad27
          refine bad27 (fun hg => ?_)
          unfold gdc at hg
          rw [hn] at hg
          exact h3 (by rw [hg.2.2.1]; rfl)
        · have hb1 : B (copl B e st0 n) = 1 := by
            have := (nI_eq (b := 2) (by omega) (by omega)).mp h3
            rcases z1 with q | q | q
            · exact q
            · rw [q] at this; exact absurd this (by decide)
            · rw [q] at this; exact absurd this (by decide)
          obtain ⟨x1, x2, x3, x4⟩ := z5 hb1
          have hs1 := hsame n (Or.inr (by omega))
          have ep : yb (120 * c + copl B e st0 n + 1) = nI (B (copl B e st0 n + 1)) := hy (copl B e st0 n + 1) (by omega)
          obtain ⟨s1, s2⟩ := txn_sm (Tt := Tt) hge hle hb1 x2 (by omega) ep
          have hnt : σ'.2.1 7 n = nI (txn yb B e c st0 Tt n) := by rw [hs1]; exact x1
          obtain ⟨t1, t2, t3⟩ := htx
          have hnle := nb_le yb B e c st0 Tt K
          have hln := ((sm_c t2 x2 s1 ep).mp s2).1
          have hT1 : σ'.1 1 = nI (nb yb B e c st0 Tt K).1 := by rw [g1]; exact t1
          refine ⟨zb1, fun h2 => absurd h2 n1_ne0, fun _ => ⟨?_, vn, ?_⟩⟩
          · show σ'.2.2.2.1 1 = _
            rw [g3]; exact hr1
          · show C_X4_lengthOf_w b k _ (σ'.2.1 7 n) (cp σ' 0 (nI a))
            rw [hnt]
            refine c_has4 (n := (nb yb B e c st0 Tt K).1) (by omega) hT1 (fun h2 => absurd (vp_in_nI s1 (by omega)) h2) (fun _ _ _ => ⟨fun h2 => absurd h2 n1_ne0, fun _ => ⟨vp_in_nI (by omega) (by omega), ?_⟩⟩)
            show (σ'.2.1 2 (nI (txn yb B e c st0 Tt n)).toNatClampNeg ≤ 0 → _) ∧ (¬ σ'.2.1 2 (nI (txn yb B e c st0 Tt n)).toNatClampNeg ≤ 0 → _)
            rw [nI_clamp (by omega), g2 2 (by omega), hln]
            refine ⟨fun h2 => bad (fun hg => ?_), fun h2 => ⟨vn, v13, fun t70 e70 => ?_⟩⟩
            · unfold gdc at hg
              rw [hn] at hg
              exact absurd ((nI_leI (b := 0) (by omega) (by omega)).mp h2) (by omega)
            · have hpos : 0 < B (copl B e st0 n + 1) := by
                rcases Nat.eq_zero_or_pos (B (copl B e st0 n + 1)) with h1 | h1
                · rw [h1] at h2; exact absurd (by decide) h2
                · exact h1
              have hg : gdc B e K st0 (j + 1) := by unfold gdc; rw [hn]; exact ⟨hge, hle, hb1, hpos⟩
              have hE : nmL B e K st0 (j + 1) st = .inl a := by rw [hstp]; simp only [ncs]; rw [if_pos hb7, if_pos hg]
              have e70 : t70 = sA (cp σ' 0 (nI a)) 7 (nI (j + 1)) (σ'.2.1 7 n) := e70
              rw [hnt] at e70
              intro v86 e86
              rw [nI_1] at e86
              subst e86
              refine hK0 (nI (j + 1 + 1), t70) ⟨j + 1, sA σ' 7 (nI (j + 1)) (nI (txn yb B e c st0 Tt n)), t70, rfl, hjK, by rw [hE]; exact ⟨hae, e70⟩, ⟨g1, fun i hi => ?_, g3⟩, fun a' e' => ⟨⟨a0, ea0⟩, fun κ hκ1 hκ2 => ?_, fun κ hκ => ?_⟩⟩ mu
              · show va_up σ'.2.1 7 _ i = _
                rw [va_up_ne _ _ hi, g2 i hi]
              · rcases Nat.lt_or_ge κ (j + 1) with h1 | h1
                · refine keepCN _ (fun i hi => va_up_ne _ _ hi) (fun κ' hκ' => ?_) κ hκ1 (by omega)
                  show upd (σ'.2.1 7) (nI (j + 1)).toNatClampNeg _ κ' = _
                  rw [cj, pk_un hκ']
                · have : κ = j + 1 := by omega
                  subst this
                  refine ⟨w1, by show σ'.2.1 6 (j + 1) = _; rw [k6]; exact w2, fun q => (by omega), fun _ => ⟨hg, ?_⟩, fun q => (by omega)⟩
                  show upd (σ'.2.1 7) (nI (j + 1)).toNatClampNeg _ (j + 1) = _
                  rw [cj, pk_us, hn]
              · have hne : κ ≠ j + 1 := by
                  rcases hκ with q | q
                  · omega
                  · intro q2; subst q2; exact q hb7
                show upd (σ'.2.1 7) (nI (j + 1)).toNatClampNeg _ κ = _
                rw [cj, pk_un hne]
                exact hsame κ (by rcases hκ with q | q; exact Or.inl (by omega); exact Or.inr q)
