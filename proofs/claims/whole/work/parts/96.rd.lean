/-! the parse: the whole file, reference side -/
theorem nmL_ok {B : Nat → Nat} {e K : Nat} {st0 st : St} : ∀ j a, nmL B e K st0 j st = .inl a → (∃ a', st = .inl a') ∧ ∀ κ, 1 ≤ κ → κ ≤ j → B (copl B e st0 κ) = 7 → gdc B e K st0 κ := by
  intro j
  induction j with
  | zero => intro a h; exact ⟨⟨a, h⟩, fun κ h1 h2 => by omega⟩
  | succ j ih =>
    intro a h
    have h : ncs B e K st0 (j + 1) (nmL B e K st0 j st) = .inl a := h
    cases hs : nmL B e K st0 j st with
    | inr q => rw [hs] at h; cases h
    | inl a1 =>
      rw [hs] at h
      obtain ⟨h1, h2⟩ := ih a1 hs
      refine ⟨h1, fun κ k1 k2 k7 => ?_⟩
      rcases Nat.lt_or_ge κ (j + 1) with h7 | h7
      · exact h2 κ k1 (by omega) k7
      · have : κ = j + 1 := by omega
        subst this
        simp only [ncs] at h
        rw [if_pos k7] at h
        by_cases hg : gdc B e K st0 (j + 1)
        · exact hg
        · rw [if_neg hg] at h; cases h
theorem kbK {B : Nat → Nat} {e a : Nat} (h : kC B e = .inl a) {κ : Nat} (h1 : 1 ≤ κ) (h2 : κ ≤ kK B e) : bK B e κ := by
  obtain ⟨a1, e1⟩ := itr_ok (ocs_f B e) (i := κ) h2 h
  obtain ⟨a2, e2⟩ := itr_ok (ocs_f B e) (i := κ - 1) (n := κ) (by omega) e1
  have hp : kP B e κ = a2 := by unfold kP copl; rw [e2]; rfl
  obtain ⟨j, rfl⟩ : ∃ j, κ = j + 1 := ⟨κ - 1, by omega⟩
  have e1 : ocs B e (itr (ocs B e) j (k0 B e).2) = .inl a1 := e1
  rw [show itr (ocs B e) j (k0 B e).2 = .inl a2 from e2] at e1
  unfold bK kS
  rw [hp]
  exact ocs_bK e1
theorem tk_iff {yb : Nat → Int32} {B : Nat → Nat} {e c : Nat} {Tt : Nat × (Nat → Int32)} {lt ln se : Nat → Int32} {sf : Nat → Nat} (hR : textR Tt.1 lt ln yb Tt.2) (hD : textD Tt.1 lt ln) (hT : Tt.1 ≤ 180) (hse : ∀ c', c' < c → se c' = nI (sf c') ∧ sf c' < Tt.1) {n : Nat} (hn : n ≤ 12) : (∃ c', c' < c ∧ sm yb (Tt.2 (sf c')) (120 * c + kP B e n + 1)) ↔ ∃ c', c' < c ∧ se c' = nI (kn1 yb B e c Tt n) := by
  have hle := nb_le yb B e c (k0 B e).2 Tt (n - 1)
  have keep : ∀ t, t < Tt.1 → (nb yb B e c (k0 B e).2 Tt (n - 1)).2 t = Tt.2 t := by
    intro t ht
    have := (nb_keep (yb := yb) (B := B) (e := e) (c := c) (st0 := (k0 B e).2) (Tt := Tt) (i := 0) (t := t) ht (n - 1)).2
    rw [Nat.zero_add] at this
    exact this
  have hf := fsT_le (D := fun t => sm yb ((nb yb B e c (k0 B e).2 Tt (n - 1)).2 t) (120 * c + kP B e n + 1)) (nb yb B e c (k0 B e).2 Tt (n - 1)).1 0
  have hfd := fsT_D (D := fun t => sm yb ((nb yb B e c (k0 B e).2 Tt (n - 1)).2 t) (120 * c + kP B e n + 1)) (nb yb B e c (k0 B e).2 Tt (n - 1)).1 0
  have hfn := fsT_n (D := fun t => sm yb ((nb yb B e c (k0 B e).2 Tt (n - 1)).2 t) (120 * c + kP B e n + 1)) (nb yb B e c (k0 B e).2 Tt (n - 1)).1 0
  have hkn : kn1 yb B e c Tt n = fsT (fun t => sm yb ((nb yb B e c (k0 B e).2 Tt (n - 1)).2 t) (120 * c + kP B e n + 1)) (nb yb B e c (k0 B e).2 Tt (n - 1)).1 0 := rfl
  rw [← hkn] at hf hfd hfn
  constructor
  · rintro ⟨c', hc', hs⟩
    obtain ⟨es, hs'⟩ := hse c' hc'
    refine ⟨c', hc', ?_⟩
    have h1 : kn1 yb B e c Tt n ≤ sf c' := by
      rcases Nat.lt_or_ge (sf c') (kn1 yb B e c Tt n) with h7 | h7
      · exact absurd (show sm yb ((nb yb B e c (k0 B e).2 Tt (n - 1)).2 (sf c')) (120 * c + kP B e n + 1) by rw [keep _ hs']; exact hs) (hfn (sf c') (Nat.zero_le _) h7)
      · exact h7
    have h2 := hfd (by omega)
    have h2 : sm yb ((nb yb B e c (k0 B e).2 Tt (n - 1)).2 (kn1 yb B e c Tt n)) (120 * c + kP B e n + 1) := h2
    rw [keep _ (by omega)] at h2
    rw [es, sm_eq hR hD (by omega) hs' h2 hs]
  · rintro ⟨c', hc', ec⟩
    obtain ⟨es, hs'⟩ := hse c' hc'
    have h1 : sf c' = kn1 yb B e c Tt n := (nI_eq (by omega) (by omega)).mp (by rw [← es, ec])
    refine ⟨c', hc', ?_⟩
    have h2 := hfd (by omega)
    have h2 : sm yb ((nb yb B e c (k0 B e).2 Tt (n - 1)).2 (kn1 yb B e c Tt n)) (120 * c + kP B e n + 1) := h2
    rw [keep _ (by omega)] at h2
    rw [h1]; exact h2
/-- a stand-in for the class's state -/
def sq (b : Nat → Nat) (B S : Nat → Nat) (e K : Nat) : cS := (fun j => if j = 4 then nI e else nI K, fun n i => if n = 0 then nI (B i) else nI (kk (S i)), fun _ => none, fun _ => some (b 1), [])
/-- all that the parse leaves as it was -/
def frA (τ τ' : rS) (c K : Nat) : Prop := (∀ j, j ≠ 22 → τ'.1 j = τ.1 j) ∧ (∀ m, m ≠ 6 → m ≠ 7 → ¬ (9 ≤ m ∧ m ≤ 17) → m ≠ 25 → m ≠ 26 → τ'.2 m = τ.2 m) ∧ (∀ i, (∀ κ, 1 ≤ κ → κ ≤ K → i ≠ 13 * c + κ) → τ'.2 6 i = τ.2 6 i ∧ τ'.2 7 i = τ.2 7 i) ∧ (∀ m i, 9 ≤ m → m ≤ 17 → m ≠ 14 → m ≠ 16 → i ≠ c → τ'.2 m i = τ.2 m i) ∧ ∀ i, (i < 4 * c ∨ 4 * c + 4 ≤ i) → τ'.2 14 i = τ.2 14 i ∧ τ'.2 16 i = τ.2 16 i
theorem frA_of {τ τ1 τ' : rS} {c K : Nat} (h : frK τ τ1 c K) (h1 : τ'.1 = τ1.1) (h2 : frT τ1 τ' c) : frA τ τ' c K := by
  refine ⟨fun j hj => by rw [h1]; exact h.1 j hj, fun m m6 m7 m9 m25 m26 => by rw [h2.1 m m9 m25 m26]; exact h.2.1 m m6 m7, fun i hi => ?_, fun m i m9 m17 m14 m16 hi => ?_, fun i hi => ?_⟩
  · rw [h2.1 6 (by omega) (by omega) (by omega), h2.1 7 (by omega) (by omega) (by omega)]
    exact h.2.2 i hi
  · rw [h2.2.1 m i m9 m17 m14 m16 hi, h.2.1 m (by omega) (by omega)]
  · rw [(h2.2.2 i hi).1, (h2.2.2 i hi).2, h.2.1 14 (by omega) (by omega), h.2.1 16 (by omega) (by omega)]
    exact ⟨rfl, rfl⟩
set_option maxHeartbeats 4000000 in
theorem R_file {b : Nat → Nat} {τ : rS} {B : Nat → Nat} {e c : Nat} {Tt : Nat × (Nat → Int32)} {lt ln : Nat → Int32} {sf : Nat → Nat} (h : PB b (sq b B (kS B e) e (kK B e)) τ B e c) (hR : textR Tt.1 lt ln (τ.2 2) Tt.2) (hD : textD Tt.1 lt ln) (hT : Tt.1 ≤ 180) (e4' : τ.2 4 = Tt.2) (e3 : τ.1 3 = nI c) (hse : ∀ c', c' < c → τ.2 10 c' = nI (sf c') ∧ sf c' < Tt.1) {X : rS} (hX : isR τ e (.inl 0) X) {Q : rS → Prop} (hQ : ∀ τ' X', isR τ' e (kX (τ.2 2) B e c Tt (τ.2 10)) X' → frA τ τ' c (kK B e) → τ'.1 22 = nI (kK B e) → (kX (τ.2 2) B e c Tt (τ.2 10) = .inl e → τ'.2 9 c = nI ((g1 B e (kN B e)).1.getD 0) ∧ (∀ κ, (g2 B e (kK B e) (kS B e) (ktk (τ.2 2) B e c Tt (τ.2 10)) (kN B e)).1 = some κ → τ'.2 10 c = nI κ) ∧ FT B e c (kK B e) (kS B e) (ktk (τ.2 2) B e c Tt (τ.2 10)) (kN B e) τ' ∧ ∀ κ, 1 ≤ κ → κ ≤ kK B e → τ'.2 6 (13 * c + κ) = nI (kS B e κ) ∧ τ'.2 7 (13 * c + κ) = nI (120 * c + kP B e κ)) → Q X') : R_wholeFile_w Q X := by
  have he := h.he
  have hc := h.hc
  have hK12 := kK_12 B e
  have v16 : vp_in (nI c) 16 := vp_in_nI hc (by omega)
  refine R_sta (due := 202) (s := 0) h (by omega) (fun a ea => by cases ea; rfl) hX (fun X1 hX1 => ?_)
  refine R_sta (due := 254) (s := 1) h (by omega) (fun a ea => ?_) hX1 (fun X2 hX2 => ?_)
  · obtain ⟨a1, v, e1, h2, -⟩ := lk_ok ea
    cases e1
    unfold sta at h2
    by_cases q : 0 < e
    · rw [if_pos q] at h2
      by_cases q2 : B 0 = 202
      · rw [if_pos q2] at h2; cases h2; rfl
      · rw [if_neg q2] at h2; cases h2
    · rw [if_neg q] at h2; cases h2
  refine R_all h hX2 (fun st0 K τ1 X3 est0 eK hX3 hfr h22 hsp => ?_)
  have est0 : st0 = (k0 B e).2 := est0
  have eK : K = kK B e := eK
  subst est0
  subst eK
  have hX3 : isR τ1 e (kN B e) X3 := hX3
  have hP1 : PB b (sq b B (kS B e) e (kK B e)) τ1 B e c := PB_R h (hfr.1 18 (by omega)) (hfr.1 19 (by omega)) (hfr.1 20 (by omega)) (hfr.2.1 2 (by omega) (by omega))
  have hTB : ∀ a, kN B e = .inl a → TB (sq b B (kS B e) e (kK B e)) τ1 c (kK B e) (kS B e) := by
    intro a ea
    obtain ⟨⟨aC, eC⟩, -⟩ := nmL_ok _ _ ea
    exact ⟨hK12, rfl, h22, fun κ h1 h2 => ⟨(kbK eC h1 h2).2.1, rfl, (hsp a ea κ h1 h2).1⟩⟩
  generalize htk : ktk (τ.2 2) B e c Tt (τ.2 10) = tk at hQ
  have e18 : X3.1 18 = nI c := by rw [(isR_o hX3).1 18 (by omega) (by omega) (by omega)]; exact hP1.rn
  refine R_am (τ := τ1) (most := 3) hP1 (by omega) hX3 (fun X4 hX4 => ?_)
  rw [e18]
  refine ⟨v16, fun t67 e67 v72 e72 => ?_⟩
  have h67 := isR_rA hX4 9 (nI c) (nI ((g1 B e (kN B e)).1.getD 0))
  have e67 : t67 = rA X4 9 (nI c) (nI ((g1 B e (kN B e)).1.getD 0)) := e67
  rw [← e67] at h67
  have h67 : isR (rA τ1 9 (nI c) (nI ((g1 B e (kN B e)).1.getD 0))) e (g1 B e (kN B e)).2 t67 := h67
  have K1 : ∀ a, (g1 B e (kN B e)).2 = .inl a → ∃ a', kN B e = .inl a' := fun a ea => by obtain ⟨a1, v, e1, -⟩ := lk_ok ea; exact ⟨a1, e1⟩
  have e18b : t67.1 18 = nI c := by rw [(isR_o h67).1 18 (by omega) (by omega) (by omega)]; exact hP1.rn
  refine R_kn (τ := rA τ1 9 (nI c) (nI ((g1 B e (kN B e)).1.getD 0))) (K := kK B e) (S := kS B e) (s := 7) hP1 (fun a ea => ?_) (Or.inr (Or.inr rfl)) h67 (fun v X5 hX5 hv => ?_)
  · obtain ⟨a', ea'⟩ := K1 a ea
    exact hTB a' ea'
  rw [e18b]
  refine ⟨v16, fun t87 e87 => ?_⟩
  have h87 := isR_rA hX5 10 (nI c) v
  rw [← e87] at h87
  -- what comes behind
  have go : ∀ Y, isR (rA (rA τ1 9 (nI c) (nI ((g1 B e (kN B e)).1.getD 0))) 10 (nI c) v) e (g2 B e (kK B e) (kS B e) tk (kN B e)).2 Y → (∀ κ, (g2 B e (kK B e) (kS B e) tk (kN B e)).1 = some κ → v = nI κ) → R_wholeFile_b118 Q Y := by
    intro Y hY hvκ
    refine R_118 (τ := rA (rA τ1 9 (nI c) (nI ((g1 B e (kN B e)).1.getD 0))) 10 (nI c) v) (K := kK B e) (S := kS B e) (tk := tk) (st := kN B e) hP1 hTB hY (fun τ' X' hX' q1 q2 q3 q4 => ?_)
    have fA := frT_rA τ1 hc (n := 9) (by omega) (by omega) (by omega) (by omega) (nI ((g1 B e (kN B e)).1.getD 0))
    have fB := frT_rA (rA τ1 9 (nI c) (nI ((g1 B e (kN B e)).1.getD 0))) hc (n := 10) (by omega) (by omega) (by omega) (by omega) v
    have fAll := frT_trans fA (frT_trans fB q2)
    have hkX : kX (τ.2 2) B e c Tt (τ.2 10) = fin e (g9 B e (kK B e) (kS B e) tk (kN B e)) := by rw [← htk]; rfl
    refine hQ τ' X' (by rw [hkX]; exact hX') (frA_of hfr q1 fAll) (by rw [q1]; exact h22) (fun hE => ⟨?_, fun κ eκ => ?_, ?_, fun κ h1 h2 => ?_⟩)
    · rw [q3 9 c (by omega) (by omega)]
      show (rA τ1 9 (nI c) (nI ((g1 B e (kN B e)).1.getD 0))).2 9 c = _
      rw [rA_at _ hc]
    · rw [q3 10 c (by omega) (by omega)]
      rw [rA_at _ hc]
      exact hvκ κ eκ
    · rw [hkX] at hE
      obtain ⟨h9, -⟩ := fin_ok hE
      cases h8 : g8 B e (kK B e) (kS B e) tk (kN B e) with
      | inl a8 => exact q4 a8 h8
      | inr q => unfold g9 at h9; rw [h8] at h9; cases h9
    · rw [hkX] at hE
      obtain ⟨h9, -⟩ := fin_ok hE
      have hkN : ∃ a, kN B e = .inl a := by
        cases hs : kN B e with
        | inl a => exact ⟨a, rfl⟩
        | inr q =>
          exfalso
          have : g9 B e (kK B e) (kS B e) tk (kN B e) = .inr q := by
            rw [hs]
            have h6' : g6 B e (kK B e) (kS B e) tk (.inr q) = .inr q := itr_f (lf_f _) q _
            have h7' : g7 B e (kK B e) (kS B e) tk (.inr q) = (none, .inr q) := by unfold g7; rw [h6']; rfl
            have h8' : g8 B e (kK B e) (kS B e) tk (.inr q) = .inr q := by unfold g8; rw [h7']; rfl
            unfold g9; rw [h8']; rfl
          rw [this] at h9; cases h9
      obtain ⟨aN, eN⟩ := hkN
      rw [fAll.1 6 (by omega) (by omega) (by omega), fAll.1 7 (by omega) (by omega) (by omega)]
      exact hsp aN eN κ h1 h2
  refine ⟨fun h9 => ?_, fun h9 => ?_⟩
  · obtain ⟨q, hq⟩ := (isR_23 h87).2 h9
    have hg : g2 B e (kK B e) (kS B e) tk (kN B e) = (none, .inr q) := by
      unfold g2
      cases hs : (g1 B e (kN B e)).2 with
      | inr q' =>
        rw [hs] at hq
        cases hq
        rfl
      | inl a =>
        rw [hs] at hq
        cases hk : kn B e (kK B e) (kS B e) 7 a with
        | inl p => rw [lk_1 (v := p.1) (a' := p.2) hk] at hq; cases hq
        | inr q' => rw [lk_0 hk] at hq; cases hq; exact lk_0 (nk_0 hk)
    refine go t87 (by rw [hg]; rw [hq] at h87; exact h87) (fun κ eκ => by rw [hg] at eκ; cases eκ)
  · obtain ⟨a2, ha2⟩ := (isR_23 h87).1 h9
    obtain ⟨a1, κ, ea1, hkn, hk1⟩ := lk_ok ha2
    have hk := kn_B hkn
    have evκ : v = nI κ := hv κ hk1
    obtain ⟨aN, eN⟩ := K1 a1 ea1
    obtain ⟨⟨aC, eC⟩, hgd⟩ := nmL_ok _ _ eN
    have hκ1 : 1 ≤ κ := by omega
    have hκ2 : κ ≤ kK B e := by omega
    have hS7 : kS B e κ = 7 := by rw [hk.2.1]; exact hk.2.2.2.2.1
    obtain ⟨n1, n2, n3, n4⟩ := hgd κ hκ1 hκ2 hS7
    have n1 : 1 ≤ B (kP B e κ + 1) := n1
    have n2 : B (kP B e κ + 1) ≤ kK B e := n2
    have n3 : kS B e (B (kP B e κ + 1)) = 1 := n3
    have bκ := kbK eC hκ1 hκ2
    have bn := kbK eC n1 n2
    have hw := bκ.2.2.2.1 hS7
    obtain ⟨x1, x2, x3⟩ := bn.2.2.2.2 n3
    rw [ha2] at h87
    have e72 : v72 = nI a1 := by rw [e72]; rw [ea1] at h67; exact (isR_23c h67).2
    subst e72
    obtain ⟨o87, o872⟩ := isR_o h87
    have a2' : ∀ m, ¬ (9 ≤ m ∧ m ≤ 10) → t87.2 m = τ1.2 m := by
      intro m hm
      rw [o872]
      show va_up (va_up τ1.2 9 _) 10 _ m = _
      rw [va_up_ne _ _ (by omega), va_up_ne _ _ (by omega)]
    have e18c : t87.1 18 = nI c := by rw [o87 18 (by omega) (by omega) (by omega)]; exact hP1.rn
    have e10 : t87.2 10 c = nI κ := by rw [o872, rA_at _ hc, evκ]
    have cc : (nI c).toNatClampNeg = c := nI_clamp (by omega)
    obtain ⟨p6, p7⟩ := hsp aN eN κ hκ1 hκ2
    obtain ⟨p6n, p7n⟩ := hsp aN eN _ n1 n2
    have p7 : τ1.2 7 (13 * c + κ) = nI (120 * c + kP B e κ) := p7
    have p6 : τ1.2 6 (13 * c + κ) = nI (kS B e κ) := p6
    have p7n : τ1.2 7 (13 * c + B (kP B e κ + 1)) = nI (120 * c + kP B e (B (kP B e κ + 1))) := p7n
    have ybE : τ1.2 2 = τ.2 2 := hfr.2.1 2 (by omega) (by omega)
    rw [e18c, cc, e10]
    refine ⟨v16, ?_⟩
    -- where the name stands
    have ei : (13 : Int32) * t87.1 18 + nI κ = nI (13 * c + κ) := by rw [e18c]; exact e13 c κ
    have ci : (nI (13 * c + κ)).toNatClampNeg = 13 * c + κ := nI_clamp (by omega)
    have hBκ : τ1.2 2 (120 * c + kP B e κ + 1) = nI (B (kP B e κ + 1)) := hP1.by_r (kP B e κ + 1) (by omega)
    have n12 : B (kP B e κ + 1) ≤ 12 := by have : B (kP B e κ + 1) ≤ kK B e := n2; omega
    have ei2 : (13 : Int32) * t87.1 18 + nI (B (kP B e κ + 1)) = nI (13 * c + B (kP B e κ + 1)) := by rw [e18c]; exact e13 c _
    have ci2 : (nI (13 * c + B (kP B e κ + 1))).toNatClampNeg = 13 * c + B (kP B e κ + 1) := nI_clamp (by omega)
    show vp_in (((13 : Int32) * (t87.1 18)) + nI κ) 208 ∧ ∀ v14 : Int32, v14 = (t87.2 7 (((13 : Int32) * (t87.1 18)) + nI κ).toNatClampNeg) → vp_in (((13 : Int32) * (t87.1 18)) + nI κ) 208 ∧ (¬ (t87.2 6 (((13 : Int32) * (t87.1 18)) + nI κ).toNatClampNeg) = (1 : Int32) → vp_in (v14 + (1 : Int32)) 1920 ∧ vp_in (((13 : Int32) * (t87.1 18)) + (t87.2 2 (v14 + (1 : Int32)).toNatClampNeg)) 208 ∧ R_taken_b8 _ ((t87.2 7 (((13 : Int32) * (t87.1 18)) + (t87.2 2 (v14 + (1 : Int32)).toNatClampNeg)).toNatClampNeg) + (1 : Int32)) 0 t87) ∧ ((t87.2 6 (((13 : Int32) * (t87.1 18)) + nI κ).toNatClampNeg) = (1 : Int32) → R_taken_b8 _ (v14 + (1 : Int32)) 0 t87)
    rw [ei, ci, a2' 7 (by omega), a2' 6 (by omega), a2' 2 (by omega), p7, p6, hS7]
    refine ⟨vp_in_nI (by omega) (by omega), fun v14 e14 => ⟨vp_in_nI (by omega) (by omega), fun _ => ?_, fun h8 => absurd (show nI 7 = nI 1 from h8) (by decide)⟩⟩
    subst e14
    rw [nI_1, nI_clamp (n := 120 * c + kP B e κ + 1) (by omega), hBκ, ei2, ci2, p7n, nI_1]
    refine ⟨vp_in_nI (by omega) (by omega), vp_in_nI (by omega) (by omega), ?_⟩
    have hs87 : ∀ c', c' < c → t87.2 10 c' = nI (sf c') ∧ sf c' < Tt.1 := by
      intro c' hc'
      refine ⟨?_, (hse c' hc').2⟩
      rw [o872]
      show upd (τ1.2 10) (nI c).toNatClampNeg _ c' = _
      rw [cc, pk_un (by omega), hfr.2.1 10 (by omega) (by omega)]
      exact (hse c' hc').1
    have h2' : t87.2 2 = τ.2 2 := by rw [a2' 2 (by omega), ybE]
    have h4' : t87.2 4 = Tt.2 := by rw [a2' 4 (by omega), hfr.2.1 4 (by omega) (by omega), e4']
    have hxP : textP Tt.1 (t87.2 2) (t87.2 4) := by
      rw [h2', h4']
      intro t ht
      obtain ⟨p1, m1, y1, y2, y3, y4, -⟩ := hR t ht
      exact ⟨p1, m1, y1, y2, y3, y4⟩
    have ep : t87.2 2 (120 * c + kP B e (B (kP B e κ + 1)) + 1) = nI (B (kP B e (B (kP B e κ + 1)) + 1)) := by
      rw [a2' 2 (by omega)]
      exact hP1.by_r (kP B e (B (kP B e κ + 1)) + 1) (by omega)
    have hiff := tk_iff (B := B) (e := e) (se := τ.2 10) hR hD hT hse n12
    have e3' : t87.1 3 = nI c := by rw [o87 3 (by omega) (by omega) (by omega)]; show τ1.1 3 = _; rw [hfr.1 3 (by omega)]; exact e3
    have htkκ : tk κ ↔ ∃ c', c' < c ∧ τ.2 10 c' = nI (kn1 (τ.2 2) B e c Tt (B (kP B e κ + 1))) := by rw [← htk]; exact Iff.rfl
    refine R_taken (C := c) (T := Tt.1) (sf := sf) (by omega) (by omega) e3' hs87 hxP x1 (by omega) ep (fun h8 => ⟨fun h7 => absurd h7 n1_ne0, fun _ => ?_⟩) (fun h8 => ⟨fun _ => ?_, fun h7 => absurd rfl h7⟩)
    · rw [h2', h4'] at h8
      have htk1 : tk κ := htkκ.mpr (hiff.mp h8)
      have hg : g2 B e (kK B e) (kS B e) tk (kN B e) = (none, .inr (9, a1)) := by unfold g2; rw [ea1]; exact lk_0 (nk_2 hkn htk1)
      obtain ⟨ha2e, s1, e87'⟩ := h87
      have ha1e : a1 ≤ e := by omega
      rw [e87']
      refine r_fail_ok (go _ (by rw [hg]; exact ⟨⟨Nat.le_of_ble_eq_true rfl, Nat.le_of_ble_eq_true rfl, ha1e⟩, _, rfl⟩) (fun κ' e' => by rw [hg] at e'; cases e'))
    · rw [h2', h4'] at h8
      have htk0 : ¬ tk κ := fun q => h8 (hiff.mpr (htkκ.mp q))
      have hg : g2 B e (kK B e) (kS B e) tk (kN B e) = (some κ, .inl a2) := by unfold g2; rw [ea1]; exact lk_1 (nk_1 hkn htk0)
      exact go t87 (by rw [hg]; exact h87) (fun κ' e' => by rw [hg] at e'; cases e'; exact evκ)
