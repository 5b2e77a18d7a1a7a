/-! the parse: the whole read, class side -/
def k0 (B : Nat → Nat) (e : Nat) : Option Nat × St := lk (am B e 12) (lk (sta B e 254) (lk (sta B e 202) (.inl 0)).2).2
def kK (B : Nat → Nat) (e : Nat) : Nat := (k0 B e).1.getD 0
def kP (B : Nat → Nat) (e κ : Nat) : Nat := copl B e (k0 B e).2 κ
def kS (B : Nat → Nat) (e κ : Nat) : Nat := B (kP B e κ)
def kC (B : Nat → Nat) (e : Nat) : St := itr (ocs B e) (kK B e) (k0 B e).2
def kN (B : Nat → Nat) (e : Nat) : St := nmL B e (kK B e) (k0 B e).2 (kK B e) (kC B e)
noncomputable def kT (yb : Nat → Int32) (B : Nat → Nat) (e c : Nat) (Tt : Nat × (Nat → Int32)) (j : Nat) : Nat × (Nat → Int32) := nb yb B e c (k0 B e).2 Tt j
noncomputable def kn1 (yb : Nat → Int32) (B : Nat → Nat) (e c : Nat) (Tt : Nat × (Nat → Int32)) (κ : Nat) : Nat := txn yb B e c (k0 B e).2 Tt κ
noncomputable def ktc (yb : Nat → Int32) (B : Nat → Nat) (e c : Nat) (Tt : Nat × (Nat → Int32)) (tx : Nat → Int32) (κ : Nat) : Int32 := if 1 ≤ κ ∧ κ ≤ kK B e ∧ kS B e κ = 1 then nI (kn1 yb B e c Tt κ) else if 1 ≤ κ ∧ κ ≤ kK B e ∧ kS B e κ = 7 then nI (kn1 yb B e c Tt (B (kP B e κ + 1))) else tx (13 * c + κ)
def kpc (B : Nat → Nat) (e c : Nat) (pl : Nat → Int32) (κ : Nat) : Int32 := if 1 ≤ κ ∧ κ ≤ kK B e then nI (120 * c + kP B e κ) else pl (13 * c + κ)
def ktk (yb : Nat → Int32) (B : Nat → Nat) (e c : Nat) (Tt : Nat × (Nat → Int32)) (se : Nat → Int32) (κ : Nat) : Prop := ∃ c', c' < c ∧ se c' = nI (kn1 yb B e c Tt (B (kP B e κ + 1)))
noncomputable def kX (yb : Nat → Int32) (B : Nat → Nat) (e c : Nat) (Tt : Nat × (Nat → Int32)) (se : Nat → Int32) : St := fin e (g9 B e (kK B e) (kS B e) (ktk yb B e c Tt se) (kN B e))
theorem kK_12 (B : Nat → Nat) (e : Nat) : kK B e ≤ 12 := am_le B e 12 _
/-- what is known of constant κ by its bytes -/
def bK (B : Nat → Nat) (e κ : Nat) : Prop := kP B e κ < e ∧ okS (kS B e κ) ∧ (kS B e κ = 3 → kP B e κ + 5 ≤ e) ∧ (kS B e κ = 7 → kP B e κ + 2 ≤ e) ∧ (kS B e κ = 1 → B (kP B e κ + 1) ≤ 10 ∧ kP B e κ + 2 + B (kP B e κ + 1) ≤ e ∧ ∀ i, i < B (kP B e κ + 1) → 33 ≤ B (kP B e κ + 2 + i) ∧ B (kP B e κ + 2 + i) ≤ 126)
def CP (k : Nat → ClassId) (np : Nat) (σ : cS) (B : Nat → Nat) (e c : Nat) (yb ybt : Nat → Int32) (Tt : Nat × (Nat → Int32)) (tx pl se : Nat → Int32) (r : Int32) (σ' : cS) : Prop := σ'.1 0 = 0 ∧ grows σ.2.2.2.2 σ'.2.2.2.2 ∧ ((∃ q, kX yb B e c Tt se = .inr q ∧ r = -(nI (1000 * q.1 + q.2)) ∧ σ'.1 1 = nI Tt.1 ∧ σ'.1 2 = nI c ∧ σ'.2.1 3 = σ.2.1 3 ∧ σ'.2.2.1 = σ.2.2.1 ∧ ∃ j, j ≤ 12 ∧ textR (kT yb B e c Tt j).1 (σ'.2.1 1) (σ'.2.1 2) yb (kT yb B e c Tt j).2 ∧ textD (kT yb B e c Tt j).1 (σ'.2.1 1) (σ'.2.1 2)) ∨ (kX yb B e c Tt se = .inl e ∧ r = nI c ∧ (∀ κ, 1 ≤ κ → κ ≤ kK B e → bK B e κ) ∧ ∃ (o : Option Nat) (s κ : Nat), (g2 B e (kK B e) (kS B e) (ktk yb B e c Tt se) (kN B e)).1 = some κ ∧ ktc yb B e c Tt tx κ = nI s ∧ s < (kT yb B e c Tt (kK B e)).1 ∧ σ'.1 1 = nI (kT yb B e c Tt (kK B e)).1 ∧ σ'.1 2 = nI (c + 1) ∧ σ'.2.1 3 = upd (σ.2.1 3) s (nI c) ∧ σ'.2.2.1 = va_up σ.2.2.1 c o ∧ textR (kT yb B e c Tt (kK B e)).1 (σ'.2.1 1) (σ'.2.1 2) yb (kT yb B e c Tt (kK B e)).2 ∧ textD (kT yb B e c Tt (kK B e)).1 (σ'.2.1 1) (σ'.2.1 2) ∧ ∀ pl' tx' fg se' ab bx fc fa nc nt rs, SE B e (kK B e) (kS B e) (ktk yb B e c Tt se) (kN B e) c (ktc yb B e c Tt tx) (kpc B e c pl) pl' tx' fg se' ab bx fc fa nc nt rs → cfR k np σ'.2.2.2.2 (kT yb B e c Tt (kK B e)).1 c o ybt pl' tx' fg se' ab bx fc fa nc nt rs))
theorem cp_self (σ : cS) : cp σ (σ.1 3) (σ.1 5) = σ := by
  show (va_up (va_up σ.1 3 (σ.1 3)) 5 (σ.1 5), σ.2) = σ
  rw [up_self]
  have : va_up σ.1 5 (σ.1 5) = σ.1 := up_self _ _
  rw [this]
theorem cp_start (σ : cS) : sI (sI σ 5 0) 3 0 = cp σ 0 0 := by
  have h1 := cp_5 σ (σ.1 3) (σ.1 5) 0
  rw [cp_self] at h1
  rw [h1, cp_3]
/-- a stand-in for the reference's state -/
def tq (B S : Nat → Nat) (e c K : Nat) : rS := (fun j => if j = 18 then nI c else if j = 19 then nI (120 * c) else if j = 20 then nI e else nI K, fun n i => if n = 2 then nI (B (i - 120 * c)) else nI (S (i - 13 * c)))
theorem PB_tq {b : Nat → Nat} {σ : cS} {B S : Nat → Nat} {e c K : Nat} (he : e ≤ 120) (hc : c < 16) (ce : σ.1 4 = nI e) (cb : σ.2.2.2.1 0 = some (b 1)) (by_c : ∀ i, i < e → σ.2.1 0 i = nI (B i)) (by_b : ∀ i, i < e → B i < 256) : PB b σ (tq B S e c K) B e c := by
  refine ⟨he, hc, ce, cb, rfl, rfl, rfl, by_c, fun i hi => ?_, by_b⟩
  show nI (B (120 * c + i - 120 * c)) = _
  rw [Nat.add_sub_cancel_left]
theorem isC_wp {σ : cS} {L : va_W} {e : Nat} {st : St} {X : cS} (h : isC σ e st X) (hL : σ.2.2.2.2 = L) : isC (wp σ L) e st X := by
  subst hL
  exact h
set_option maxHeartbeats 4000000 in
theorem C_read {b : Nat → Nat} {k : Nat → ClassId} {σ : cS} {B : Nat → Nat} {e c : Nat} {yb ybt : Nat → Int32} {Tt : Nat × (Nat → Int32)} {tx pl se : Nat → Int32} (he : e ≤ 120) (hc : c < 16) (h0 : σ.1 0 = nI e) (h1 : σ.1 1 = nI Tt.1) (h2 : σ.1 2 = nI c) (by_c : ∀ i, i < e → σ.2.1 0 i = nI (B i)) (by_b : ∀ i, i < e → B i < 256) (hy : ∀ i, i < e → yb (120 * c + i) = nI (B i)) (hyt : ∀ i, i < e → ybt (120 * c + i) = nI (B i)) (hR : textR Tt.1 (σ.2.1 1) (σ.2.1 2) yb Tt.2) (hD : textD Tt.1 (σ.2.1 1) (σ.2.1 2)) (hT : Tt.1 ≤ 180) (hself : selfR c Tt.1 (σ.2.1 3) se) {Q : Int32 → cS → Prop} (hQ : ∀ r σ', CP k (b 14) σ B e c yb ybt Tt tx pl se r σ' → Q r σ') : C_X6_read_w b k 1000 10000 Q σ := by
  refine ⟨fun _ v21 e21 => ⟨1000, 10000, by omega, by omega, ?_⟩, fun h9 => ?_⟩
  rotate_left
  · rw [h2] at h9
    have := (nI_eq (b := 16) (by omega) (by omega)).mp h9
    omega
  rw [h1] at e21
  intro t2 e2 t7 e7 t12 e12 t18 e18 t23 e23 t28 e28
  subst e2 e7 e12 e18 e23
  rw [cp_start] at e28
  have hr0 : (sR (sR (sI (sR σ 0 (b 1)) 4 (σ.1 0)) 1 (b 2)) 2 (b 5)).2.2.2.1 0 = some (b 1) := rfl
  have hr1 : (sR (sR (sI (sR σ 0 (b 1)) 4 (σ.1 0)) 1 (b 2)) 2 (b 5)).2.2.2.1 1 = some (b 2) := rfl
  have hr2 : (sR (sR (sI (sR σ 0 (b 1)) 4 (σ.1 0)) 1 (b 2)) 2 (b 5)).2.2.2.1 2 = some (b 5) := rfl
  have h4 : (sR (sR (sI (sR σ 0 (b 1)) 4 (σ.1 0)) 1 (b 2)) 2 (b 5)).1 4 = nI e := h0
  have q1 : (sR (sR (sI (sR σ 0 (b 1)) 4 (σ.1 0)) 1 (b 2)) 2 (b 5)).1 1 = nI Tt.1 := h1
  have q2 : (sR (sR (sI (sR σ 0 (b 1)) 4 (σ.1 0)) 1 (b 2)) 2 (b 5)).1 2 = nI c := h2
  have qA : (sR (sR (sI (sR σ 0 (b 1)) 4 (σ.1 0)) 1 (b 2)) 2 (b 5)).2.1 = σ.2.1 := rfl
  have qF : (sR (sR (sI (sR σ 0 (b 1)) 4 (σ.1 0)) 1 (b 2)) 2 (b 5)).2.2.1 = σ.2.2.1 := rfl
  have qL : (sR (sR (sI (sR σ 0 (b 1)) 4 (σ.1 0)) 1 (b 2)) 2 (b 5)).2.2.2.2 = σ.2.2.2.2 := rfl
  rw [h0]
  generalize sR (sR (sI (sR σ 0 (b 1)) 4 (σ.1 0)) 1 (b 2)) 2 (b 5) = σB at e28 hr0 hr1 hr2 h4 q1 q2 qA qF qL
  have hPB : PB b σB (tq B (kS B e) e c (kK B e)) B e c := PB_tq he hc h4 hr0 (by rw [qA]; exact by_c) by_b
  have hX0 : isC σB e (.inl 0) t28 := ⟨Nat.zero_le _, e28⟩
  refine C_sta (due := 202) hPB (by omega) (by omega) hX0 (fun X1 hX1 => ?_)
  refine C_sta (due := 254) hPB (by omega) (by omega) hX1 (fun X2 hX2 => ?_)
  refine C_consts (yb := yb) (Tt := Tt) hPB hy hr1 ⟨q1, by rw [qA]; exact hR, by rw [qA]; exact hD⟩ hT hX2 (fun st0 K σ1 X3 est0 eK hX3 hcg h6 hTj hok => ?_)
  have est0 : st0 = (k0 B e).2 := est0
  have eK : K = kK B e := eK
  subst est0
  subst eK
  have hPB1 := PB_cg hPB hcg
  obtain ⟨cg0, cg2, cg4, cga, cg3, cgr⟩ := hcg
  have hr1' : σ1.2.2.2.1 1 = some (b 2) := by rw [cgr]; exact hr1
  refine C_names (yb := yb) (Tt := Tt) (K := kK B e) (st0 := (k0 B e).2) hPB1 hy hr1' hT (kK_12 B e) h6 hok hX3 (fun σ2 X4 hX4 hcgN hCN => ?_)
  obtain ⟨n1, n2, n3⟩ := hcgN
  have hPB2 : PB b σ2 (tq B (kS B e) e c (kK B e)) B e c := ⟨he, hc, by rw [n1]; exact hPB1.ce, by rw [n3]; exact hPB1.cb, rfl, rfl, rfl, by rw [n2 0 (by omega)]; exact hPB1.by_c, hPB1.by_r, by_b⟩
  have hr2' : σ2.2.2.2.1 2 = some (b 5) := by rw [n3, cgr]; exact hr2
  have hL2 : σ2.2.2.2.2 = σ.2.2.2.2 := by rw [n3, cgr, qL]
  have hF2 : σ2.2.2.1 = σ.2.2.1 := by rw [n3, cgr, qF]
  have hct : σ2.2.1 3 = σ.2.1 3 := by rw [n2 3 (by omega), cg3, qA]
  have hX4' : isC (wp σ2 σ.2.2.2.2) e (kN B e) X4 := isC_wp hX4 hL2
  have h21 : ∀ Tt', TXs σ1 yb Tt' → σ2.1 1 = nI Tt'.1 ∧ textR Tt'.1 (σ2.2.1 1) (σ2.2.1 2) yb Tt'.2 ∧ textD Tt'.1 (σ2.2.1 1) (σ2.2.1 2) := by
    intro Tt' ht
    rw [n1, n2 1 (by omega), n2 2 (by omega)]
    exact ht
  have h22 : σ2.1 2 = nI c := by rw [n1, cg2]; exact q2
  -- what is known of the constants
  have hbK : ∀ a, kN B e = .inl a → ∀ κ, 1 ≤ κ → κ ≤ kK B e → bK B e κ := by
    intro a ea κ hκ1 hκ2
    obtain ⟨⟨a', ea'⟩, -⟩ := hCN a ea
    obtain ⟨w0, w1, w2, w3, w4, w5⟩ := (hok a' ea').2 κ hκ1 hκ2
    exact ⟨w0, w1, fun q => (w3 q).2, fun q => (w4 q).2.2, fun q => (w5 q).2⟩
  have hlen : ∀ a, kN B e = .inl a → ∀ κ, 1 ≤ κ → κ ≤ kK B e → kS B e κ = 1 → kn1 yb B e c Tt κ < (kT yb B e c Tt (kK B e)).1 := by
    intro a ea κ hκ1 hκ2 hs
    obtain ⟨w0, w1, w2, w3, w4⟩ := hbK a ea κ hκ1 hκ2
    obtain ⟨x1, x2, x3⟩ := w4 hs
    have ep : yb (120 * c + kP B e κ + 1) = nI (B (kP B e κ + 1)) := hy (kP B e κ + 1) (by omega)
    exact (txn_sm (Tt := Tt) hκ1 hκ2 hs x1 (by show 120 * c + kP B e κ + 1 < 1920; omega) ep).1
  have hnle := nb_le yb B e c (k0 B e).2 Tt (kK B e)
  have hK12 := kK_12 B e
  have hcls : ∀ a, kN B e = .inl a → ∀ κ, 1 ≤ κ → κ ≤ kK B e → kS B e κ ≠ 3 → ∃ s, s < (kT yb B e c Tt (kK B e)).1 ∧ ktc yb B e c Tt tx κ = nI s ∧ σ2.2.1 7 κ = nI s ∧ (kS B e κ = 7 → s = kn1 yb B e c Tt (B (kP B e κ + 1))) := by
    intro a ea κ hκ1 hκ2 h3
    obtain ⟨x1, x2, x3, x4, x5⟩ := (hCN a ea).2 κ hκ1 hκ2
    rcases (hbK a ea κ hκ1 hκ2).2.1 with q | q | q
    · exact ⟨kn1 yb B e c Tt κ, hlen a ea κ hκ1 hκ2 q, by unfold ktc; rw [if_pos ⟨hκ1, hκ2, q⟩], x5 q, fun h7 => by omega⟩
    · exact absurd q h3
    · obtain ⟨⟨y1, y2, y3, y4⟩, y5⟩ := x4 q
      exact ⟨kn1 yb B e c Tt (B (kP B e κ + 1)), hlen a ea _ y1 y2 y3, by unfold ktc; rw [if_neg (fun h => by omega), if_pos ⟨hκ1, hκ2, q⟩], y5, fun _ => rfl⟩
  have hNM : ∀ a, kN B e = .inl a → TB σ2 (tq B (kS B e) e c (kK B e)) c (kK B e) (kS B e) ∧ NM σ2 (kK B e) (kS B e) (kT yb B e c Tt (kK B e)).1 ybt (ktc yb B e c Tt tx) (kpc B e c pl) := by
    intro a ea
    refine ⟨⟨hK12, by rw [n1]; exact h6, rfl, fun κ hκ1 hκ2 => ?_⟩, fun κ hκ1 hκ2 => ⟨fun h3 => ?_, fun h3 => ?_⟩⟩
    · obtain ⟨x1, x2, -⟩ := (hCN a ea).2 κ hκ1 hκ2
      refine ⟨x1, x2, ?_⟩
      show nI (kS B e (13 * c + κ - 13 * c)) = _
      rw [Nat.add_sub_cancel_left]
    · obtain ⟨x1, x2, x3, x4, x5⟩ := (hCN a ea).2 κ hκ1 hκ2
      have b3 := (hbK a ea κ hκ1 hκ2).2.2.1 h3
      refine ⟨120 * c + kP B e κ, by unfold kpc; rw [if_pos ⟨hκ1, hκ2⟩], by omega, B (kP B e κ + 1), B (kP B e κ + 2), B (kP B e κ + 3), B (kP B e κ + 4), by_b _ (by omega), by_b _ (by omega), by_b _ (by omega), by_b _ (by omega), hyt (kP B e κ + 1) (by omega), hyt (kP B e κ + 2) (by omega), hyt (kP B e κ + 3) (by omega), hyt (kP B e κ + 4) (by omega), ?_⟩
      rw [x3 h3]
      show nI (iv B (kP B e κ + 1) 4) = _
      simp [iv]
    · obtain ⟨s, hs, e1, e2, -⟩ := hcls a ea κ hκ1 hκ2 h3
      exact ⟨s, hs, e1, e2⟩
  have htk : ∀ a, kN B e = .inl a → ∀ κ, 1 ≤ κ → κ ≤ kK B e → kS B e κ = 7 → ∃ t, t < 192 ∧ σ2.2.1 7 κ = nI t ∧ (ktk yb B e c Tt se κ ↔ ¬ σ2.2.1 3 t = -1) := by
    intro a ea κ hκ1 hκ2 h7
    obtain ⟨s, hs, e1, e2, e3⟩ := hcls a ea κ hκ1 hκ2 (by omega)
    have hs' : s < (nb yb B e c (k0 B e).2 Tt (kK B e)).1 := hs
    refine ⟨s, by omega, e2, ?_⟩
    rw [hct]
    constructor
    · rintro ⟨c', hc', ec'⟩ h9
      obtain ⟨s', hs'', es', ect⟩ := hself.1 c' hc'
      rw [← e3 h7] at ec'
      have : s' = s := (nI_eq (by omega) (by omega)).mp (by rw [← es', ← ec'])
      subst this
      rw [ect] at h9
      exact nI_nm1 (by omega) h9
    · intro h9
      by_cases hex : ktk yb B e c Tt se κ
      · exact hex
      · exact absurd (hself.2 s (by omega) (fun c' hc' ec' => hex ⟨c', hc', by rw [← e3 h7]; exact ec'⟩)) h9
  refine C_tail (T := (kT yb B e c Tt (kK B e)).1) (yb := ybt) (tc := ktc yb B e c Tt tx) (pc := kpc B e c pl) (tk := ktk yb B e c Tt se) (K := kK B e) (S := kS B e) hPB2 hyt hr2' hNM htk hX4' (fun o L' X5 hX5 hgr hcase t48 e48 => ?_)
  have h48 := isC_sI hX5 (n := 0) (by omega) (by omega) 0
  rw [← e48] at h48
  have hX48 : t48.1 0 = 0 := by rw [e48]; rfl
  rcases hcase with ⟨⟨q, hq⟩, ho⟩ | ⟨hok', ⟨qo, ho⟩, hcf⟩
  · subst ho
    refine ⟨fun h9 => absurd rfl h9, fun _ t60 e60 => ?_⟩
    rw [hq] at h48
    obtain ⟨hq9, a, ha, e48'⟩ := h48
    rw [e21] at e60
    subst e60
    have e3 : (sI t48 1 (nI Tt.1)).1 3 = nI (1000 * q.1 + q.2) := by rw [e48']; rfl
    rw [e3]
    obtain ⟨j, hj, hTj⟩ := hTj
    obtain ⟨u1, u2, u3⟩ := h21 _ hTj
    refine hQ _ _ ⟨by rw [e48']; rfl, ?_, Or.inl ⟨q, hq, rfl, rfl, ?_, ?_, ?_, j, hj, ?_, ?_⟩⟩
    · rw [e48']; exact hgr
    · rw [e48']; exact h22
    · rw [e48']; exact hct
    · rw [e48']; exact hF2
    · rw [e48']; exact u2
    · rw [e48']; exact u3
  · subst ho
    have hkX : kX yb B e c Tt se = .inl e := hok'
    rw [hok'] at h48
    obtain ⟨-, e48'⟩ := h48
    -- the steps behind are all good
    obtain ⟨e9, -⟩ := fin_ok hok'
    have hkN : ∃ a, kN B e = .inl a := by
      cases hs : kN B e with
      | inl a => exact ⟨a, rfl⟩
      | inr q =>
        exfalso
        have : g9 B e (kK B e) (kS B e) (ktk yb B e c Tt se) (kN B e) = .inr q := by
          rw [hs]
          have h6' : g6 B e (kK B e) (kS B e) (ktk yb B e c Tt se) (.inr q) = .inr q := itr_f (lf_f _) q _
          have h7' : g7 B e (kK B e) (kS B e) (ktk yb B e c Tt se) (.inr q) = (none, .inr q) := by unfold g7; rw [h6']; rfl
          have h8' : g8 B e (kK B e) (kS B e) (ktk yb B e c Tt se) (.inr q) = .inr q := by unfold g8; rw [h7']; rfl
          unfold g9; rw [h8']; rfl
        rw [this] at e9; cases e9
    obtain ⟨aN, eN⟩ := hkN
    have hg2 : ∃ a2, (g2 B e (kK B e) (kS B e) (ktk yb B e c Tt se) (kN B e)).2 = .inl a2 := by
      obtain ⟨a8, e8⟩ : ∃ a8, g8 B e (kK B e) (kS B e) (ktk yb B e c Tt se) (kN B e) = .inl a8 := by
        cases h8 : g8 B e (kK B e) (kS B e) (ktk yb B e c Tt se) (kN B e) with
        | inl a => exact ⟨a, rfl⟩
        | inr q => unfold g9 at e9; rw [h8] at e9; cases e9
      obtain ⟨a7, e7⟩ : ∃ a7, (g7 B e (kK B e) (kS B e) (ktk yb B e c Tt se) (kN B e)).2 = .inl a7 := itr_ok (annE_f B e (kK B e) (kS B e) 4) (i := 0) (Nat.zero_le _) e8
      obtain ⟨a6, v7, e6, -⟩ := lk_ok (f := am B e 4) e7
      obtain ⟨a5, e5⟩ : ∃ a5, (g5 B e (kK B e) (kS B e) (ktk yb B e c Tt se) (kN B e)).2 = .inl a5 := itr_ok (f := lf (kn B e (kK B e) (kS B e) 7)) (lf_f _) (i := 0) (Nat.zero_le _) e6
      obtain ⟨a4, v5, e4, -⟩ := lk_ok (f := am B e 4) e5
      obtain ⟨a3, v4, e3, -⟩ := lk_ok (f := con B e (kK B e) (kS B e)) e4
      obtain ⟨a2, v3, e2, -⟩ := lk_ok (f := con B e (kK B e) (kS B e)) e3
      exact ⟨a2, e2⟩
    obtain ⟨a2, e2⟩ := hg2
    obtain ⟨a1, κ, -, hnk, hg2κ⟩ := lk_ok (f := nk B e (kK B e) (kS B e) (ktk yb B e c Tt se)) e2
    have hk := kn_B (nk_B hnk).1
    obtain ⟨s, hs, es, -, -⟩ := hcls aN eN κ (by omega) (by omega) (by rw [hk.2.1, hk.2.2.2.2.1]; omega)
    have hs' : s < (nb yb B e c (k0 B e).2 Tt (kK B e)).1 := hs
    -- the object's name
    obtain ⟨q, j, aA, aD, aS, aT, eo, hj, -⟩ := hcf (fun j => kpc B e c pl (j - 13 * c)) (fun j => ktc yb B e c Tt tx (j - 13 * c)) (fun _ => nI ((g1 B e (kN B e)).1.getD 0)) (fun _ => nI s) (fun _ => t0 (ktc yb B e c Tt tx) (g3 B e (kK B e) (kS B e) (ktk yb B e c Tt se) (kN B e)).1) (fun _ => t0 (ktc yb B e c Tt tx) (g4 B e (kK B e) (kS B e) (ktk yb B e c Tt se) (kN B e)).1) (fun _ => nI ((g5 B e (kK B e) (kS B e) (ktk yb B e c Tt se) (kN B e)).1.getD 0)) (fun j => ktc yb B e c Tt tx (B (plc (g5 B e (kK B e) (kS B e) (ktk yb B e c Tt se) (kN B e)).2 + (j - 4 * c)))) (fun _ => nI ((g7 B e (kK B e) (kS B e) (ktk yb B e c Tt se) (kN B e)).1.getD 0)) (fun j => nI (120 * c + plc (itr (annE B e (kK B e) (kS B e) 4) (j - 4 * c) (g7 B e (kK B e) (kS B e) (ktk yb B e c Tt se) (kN B e)).2))) (fun _ => nI (120 * c + plc (g8 B e (kK B e) (kS B e) (ktk yb B e c Tt se) (kN B e)))) ⟨fun κ _ => (by dsimp only; rw [Nat.add_sub_cancel_left]), fun κ _ => (by dsimp only; rw [Nat.add_sub_cancel_left]), rfl, fun κ' eκ' => (by have := hg2κ.symm.trans eκ'; cases this; exact es.symm), rfl, rfl, rfl, fun i _ => (by dsimp only; rw [Nat.add_sub_cancel_left]), rfl, fun i _ => (by dsimp only; rw [Nat.add_sub_cancel_left]), rfl⟩
    have hL48 : t48.2.2.2.2 = L' := by rw [e48']; rfl
    have h48_2 : t48.1 2 = nI c := by rw [e48']; exact h22
    refine ⟨fun _ => ?_, fun h9 => (by cases h9)⟩
    refine ⟨by rw [h48_2]; exact vp_in_nI hc (by omega), ⟨q, eo, j, _, by rw [hL48]; exact hj⟩, fun t9 e9' => ?_⟩
    rw [h48_2] at e9'
    have h9L : t9.2.2.2.2 = L' := by rw [e9']; exact hL48
    refine ⟨nI s, ⟨q, j, _, eo, by rw [h9L]; exact hj, rfl⟩, vp_in_nI (by omega) (by omega), fun t22 e22 t30 e30 => ?_⟩
    have h9_2 : t9.1 2 = nI c := by rw [e9']; exact h48_2
    rw [h9_2] at e22
    have h22_2 : t22.1 2 = nI c := by rw [e22]; exact h9_2
    rw [h22_2, nI_1] at e30
    have h30 : t30.1 2 = nI (c + 1) := by rw [e30]; rfl
    rw [h30, nI_pred]
    obtain ⟨⟨a', ea'⟩, -⟩ := hCN aN eN
    obtain ⟨u1, u2, u3⟩ := h21 _ (hok a' ea').1
    subst e30
    subst e22
    subst e9'
    refine hQ _ _ ⟨?_, ?_, Or.inr ⟨hkX, rfl, hbK aN eN, some qo, s, κ, hg2κ, es, hs, ?_, h30, ?_, ?_, ?_, ?_, ?_⟩⟩
    · exact hX48
    · show grows σ.2.2.2.2 t48.2.2.2.2
      rw [hL48]; exact hgr
    · show t48.1 1 = _
      rw [e48']; exact u1
    · show upd (t48.2.1 3) (nI s).toNatClampNeg (nI c) = _
      rw [nI_clamp (by omega), e48']
      show upd (σ2.2.1 3) s (nI c) = _
      rw [hct]
    · show va_up t48.2.2.1 (nI c).toNatClampNeg (some qo) = _
      rw [nI_clamp (by omega), e48']
      show va_up σ2.2.2.1 c (some qo) = _
      rw [hF2]
    · show textR _ (t48.2.1 1) (t48.2.1 2) yb _
      rw [e48']; exact u2
    · show textD _ (t48.2.1 1) (t48.2.1 2)
      rw [e48']; exact u3
    · intro pl' tx' fg se' ab bx fc fa nc nt rs hSE
      show cfR k (b 14) t48.2.2.2.2 _ _ _ _ _ _ _ _ _ _ _ _ _ _ _
      rw [hL48]
      exact hcf pl' tx' fg se' ab bx fc fa nc nt rs hSE
