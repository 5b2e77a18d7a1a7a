/-! the read: class and reference -/
theorem old_cf {k : Nat → ClassId} {np : Nat} {L L' : va_W} {T T' C : Nat} {fl : Nat → Option Nat} {yb yb' pl pl' tx tx' fg fg' se se' ab ab' bx bx' fc fc' fa fa' nc nc' nt nt' rs rs' : Nat → Int32} (h : ∀ c, c < C → cfR k np L T c (fl c) (tr (120 * (c + 1)) yb) pl tx fg se ab bx fc fa nc nt rs) (hL : grows L L') (hT : T ≤ T') (hyb : ∀ i, i < 120 * C → yb' i = yb i) (hpl : ∀ i, i < 13 * C → pl' i = pl i) (htx : ∀ i, i < 13 * C → tx' i = tx i) (hfg : ∀ i, i < C → fg' i = fg i) (hse : ∀ i, i < C → se' i = se i) (hab : ∀ i, i < C → ab' i = ab i) (hbx : ∀ i, i < C → bx' i = bx i) (hfc : ∀ i, i < C → fc' i = fc i) (hfa : ∀ i, i < 4 * C → fa' i = fa i) (hnc : ∀ i, i < C → nc' i = nc i) (hnt : ∀ i, i < 4 * C → nt' i = nt i) (hrs : ∀ i, i < C → rs' i = rs i) : ∀ c, c < C → cfR k np L' T' c (fl c) (tr (120 * (c + 1)) yb') pl' tx' fg' se' ab' bx' fc' fa' nc' nt' rs' := by
  intro c hc
  refine cfR_mono hL hT (fun i m hm e => ?_) (fun κ hκ => hpl _ (by omega)) (fun κ hκ => htx _ (by omega)) (hfg c hc) (hse c hc) (hab c hc) (hbx c hc) (hfc c hc) (fun i hi => hfa _ (by omega)) (hnc c hc) (fun i hi => hnt _ (by omega)) (hrs c hc) (h c hc)
  unfold tr at e ⊢
  by_cases q : i < 120 * (c + 1)
  · rw [if_pos q] at e ⊢
    rw [hyb i (by omega)]; exact e
  · rw [if_neg q] at e ⊢
    exact e
theorem un_tr {k : Nat → ClassId} {np : Nat} {L : va_W} {T c m : Nat} {o : Option Nat} {yb pl tx fg se ab bx fc fa nc nt rs : Nat → Int32} (h : cfR k np L T c o (tr m yb) pl tx fg se ab bx fc fa nc nt rs) : cfR k np L T c o yb pl tx fg se ab bx fc fa nc nt rs := cfR_mono (grows_refl L) (Nat.le_refl _) (keeps_tr m yb) (fun _ _ => rfl) (fun _ _ => rfl) rfl rfl rfl rfl rfl (fun _ _ => rfl) rfl (fun _ _ => rfl) rfl h
theorem npR_mono {k : Nat → ClassId} {np : Nat} {L L' : va_W} (hL : grows L L') (h : npR k np L) : npR k np L' := by
  obtain ⟨j, jn, jv, an, av, nm, vs, h1, h2, h3⟩ := h
  exact ⟨j, jn, jv, an, av, nm, vs, hL _ _ h1, hL _ _ h2, hL _ _ h3⟩
theorem textN_nb {yb : Nat → Int32} {B : Nat → Nat} {e c N : Nat} {Tt : Nat × (Nat → Int32)} (h0 : ∀ t, t < Tt.1 → ∃ p n : Nat, n ≤ 10 ∧ p + n < N ∧ Tt.2 t = nI p ∧ yb p = nI n) (hb : ∀ κ, 1 ≤ κ → κ ≤ kK B e → kS B e κ = 1 → ∃ m : Nat, m ≤ 10 ∧ 120 * c + kP B e κ + 1 + m < N ∧ yb (120 * c + kP B e κ + 1) = nI m) : ∀ j, j ≤ kK B e → ∀ t, t < (kT yb B e c Tt j).1 → ∃ p n : Nat, n ≤ 10 ∧ p + n < N ∧ (kT yb B e c Tt j).2 t = nI p ∧ yb p = nI n := by
  intro j
  induction j with
  | zero => intro _; exact h0
  | succ j ih =>
    intro hj
    have ih := ih (by omega)
    have hs : kT yb B e c Tt (j + 1) = if kS B e (j + 1) = 1 then nbs yb (kT yb B e c Tt j) (120 * c + kP B e (j + 1) + 1) else kT yb B e c Tt j := rfl
    rw [hs]
    by_cases h1 : kS B e (j + 1) = 1
    · rw [if_pos h1]
      obtain ⟨m, hm, hp, ep⟩ := hb (j + 1) (by omega) hj h1
      unfold nbs
      by_cases h2 : nbf yb (kT yb B e c Tt j) (120 * c + kP B e (j + 1) + 1) < (kT yb B e c Tt j).1
      · rw [if_pos h2]; exact ih
      · rw [if_neg h2]
        intro t ht
        have ht : t < (kT yb B e c Tt j).1 + 1 := ht
        rcases Nat.lt_or_ge t (kT yb B e c Tt j).1 with h7 | h7
        · obtain ⟨p, n, q1, q2, q3, q4⟩ := ih t h7
          exact ⟨p, n, q1, q2, by show upd _ _ _ t = _; rw [pk_un (by omega)]; exact q3, q4⟩
        · have : t = (kT yb B e c Tt j).1 := by omega
          subst this
          exact ⟨120 * c + kP B e (j + 1) + 1, m, hm, hp, by show upd _ _ _ _ = _; rw [pk_us], ep⟩
    · rw [if_neg h1]; exact ih
theorem rp_self (τ : rS) : rp τ (τ.1 21) (τ.1 23) (τ.1 24) = τ := by
  show (va_up (va_up (va_up τ.1 21 (τ.1 21)) 23 (τ.1 23)) 24 (τ.1 24), τ.2) = τ
  rw [up_self]
  have h1 : va_up τ.1 23 (τ.1 23) = τ.1 := up_self _ _
  rw [h1]
  have h2 : va_up τ.1 24 (τ.1 24) = τ.1 := up_self _ _
  rw [h2]
/-- the reference's bytes with the new file -/
def ybF (B : Nat → Nat) (n C : Nat) (yb : Nat → Int32) (j : Nat) : Int32 := if 120 * C ≤ j ∧ j < 120 * C + n then nI (B (j - 120 * C)) else yb j
theorem ybF_low {B : Nat → Nat} {n C : Nat} {yb : Nat → Int32} {j : Nat} (h : j < 120 * C) : ybF B n C yb j = yb j := if_neg (by omega)
theorem ybF_in {B : Nat → Nat} {n C : Nat} {yb : Nat → Int32} {i : Nat} (h : i < n) : ybF B n C yb (120 * C + i) = nI (B i) := by
  unfold ybF
  rw [if_pos ⟨by omega, by omega⟩, Nat.add_sub_cancel_left]
/-- the first part of a read: bytes, then the file -/
theorem R_copy {τ : rS} {B : Nat → Nat} {n C : Nat} (hn : n ≤ 120) (hC : C < 16) (e1 : τ.1 1 = nI n) (e3 : τ.1 3 = nI C) (hB : ∀ i, i < n → τ.2 0 i = nI (B i)) {Q : Int32 → rS → Prop} (hQ : ∀ t : rS, t.1 1 = 0 → t.1 3 = nI C → t.1 5 = τ.1 5 → t.1 18 = nI C → t.1 19 = nI (120 * C) → t.1 20 = nI n → t.1 21 = 0 → t.1 23 = 0 → t.2 2 = ybF B n C (τ.2 2) → (∀ m, m ≠ 2 → t.2 m = τ.2 m) → R_wholeFile_w (fun t87 => ((t87.1 23) = 0 → R_read_b114 Q (1 : Int32) t87) ∧ (¬ (t87.1 23) = 0 → Q (-(((1000 : Int32) * (t87.1 23)) + (t87.1 24))) t87)) t) : R_read_w Q τ := by
  refine ⟨fun _ t16 a1 t27 a2 t35 a3 t40 a4 t45 a5 => ?_, fun h9 => ?_⟩
  rotate_left
  · rw [e3] at h9
    have := (nI_eq (b := 16) (by omega) (by omega)).mp h9
    omega
  rw [e3] at a1
  have b18 : t16.1 18 = nI C := by rw [a1]; rfl
  rw [b18, show (120 : Int32) * nI C = nI (120 * C) from pk_mul 120 C] at a2
  have f1 : t27.1 1 = nI n := by rw [a2, a1]; exact e1
  rw [f1] at a3
  have q1 : t45.1 1 = nI n := by rw [a5, a4, a3]; exact f1
  have q3 : t45.1 3 = nI C := by rw [a5, a4, a3, a2, a1]; exact e3
  have q5 : t45.1 5 = τ.1 5 := by rw [a5, a4, a3, a2, a1]; rfl
  have q18 : t45.1 18 = nI C := by rw [a5, a4, a3, a2, a1]; rfl
  have q19 : t45.1 19 = nI (120 * C) := by rw [a5, a4, a3, a2]; rfl
  have q20 : t45.1 20 = nI n := by rw [a5, a4, a3]; rfl
  have q21 : t45.1 21 = 0 := by rw [a5, a4]; rfl
  have q23 : t45.1 23 = 0 := by rw [a5]; rfl
  have qA : t45.2 = τ.2 := by rw [a5, a4, a3, a2, a1]; rfl
  refine fx_ex (R_read_b50_f Q) (fun z => ∃ (i : Nat) (Z : rS), z = (nI i, Z) ∧ i ≤ n ∧ Z.1 = t45.1 ∧ (∀ m, m ≠ 2 → Z.2 m = τ.2 m) ∧ ∀ j, Z.2 2 j = ybF B i C (τ.2 2) j) (fun z => 121 - z.1.toNatClampNeg) ?_ _ ⟨0, t45, rfl, Nat.zero_le _, rfl, fun m _ => by rw [qA], fun j => ?_⟩
  rotate_left
  · rw [qA]
    exact (if_neg (by omega)).symm
  rintro K0 _ ⟨i, Z, rfl, hi, y1, y2, y3⟩ hK0
  have Z1 : Z.1 1 = nI n := by rw [y1]; exact q1
  have Z19 : Z.1 19 = nI (120 * C) := by rw [y1]; exact q19
  show ((Z.1 1) ≤ nI i → ∀ t83 : rS, t83 = rI Z 1 (0 : Int32) → _) ∧ (¬ (Z.1 1) ≤ nI i → vp_in (nI i) 120 ∧ vp_in ((Z.1 19) + nI i) 1920 ∧ ∀ t74 : rS, t74 = rA Z 2 ((Z.1 19) + nI i) (Z.2 0 (nI i).toNatClampNeg) → ∀ v75 : Int32, v75 = nI i + (1 : Int32) → K0 (v75, t74))
  rw [Z1, Z19]
  refine ⟨fun h9 t83 e83 => ?_, fun h9 => ?_⟩
  · have : i = n := by have := (nI_leI (a := n) (b := i) (by omega) (by omega)).mp h9; omega
    subst this
    subst e83
    refine hQ _ rfl ?_ ?_ ?_ ?_ ?_ ?_ ?_ (funext y3) y2
    · show Z.1 3 = _; rw [y1]; exact q3
    · show Z.1 5 = _; rw [y1]; exact q5
    · show Z.1 18 = _; rw [y1]; exact q18
    · show Z.1 19 = _; rw [y1]; exact q19
    · show Z.1 20 = _; rw [y1]; exact q20
    · show Z.1 21 = _; rw [y1]; exact q21
    · show Z.1 23 = _; rw [y1]; exact q23
  · have hin : i < n := by
      rcases Nat.lt_or_ge i n with h7 | h7
      · exact h7
      · exact absurd (nI_le h7 (by omega)) h9
    rw [nI_clamp (n := i) (by omega), y2 0 (by omega), hB i hin, nI_add]
    refine ⟨vp_in_nI (by omega) (by omega), vp_in_nI (by omega) (by omega), fun t74 e74 v ev => ?_⟩
    rw [nI_1] at ev
    subst ev
    refine hK0 (nI (i + 1), t74) ⟨i + 1, t74, rfl, hin, by rw [e74]; exact y1, fun m hm => ?_, fun j => ?_⟩ ?_
    · rw [e74]
      show va_up Z.2 2 _ m = _
      rw [va_up_ne _ _ hm]; exact y2 m hm
    · rw [e74]
      show upd (Z.2 2) (nI (120 * C + i)).toNatClampNeg (nI (B i)) j = _
      rw [nI_clamp (by omega)]
      by_cases q : j = 120 * C + i
      · subst q
        rw [pk_us, ybF_in (by omega)]
      · rw [pk_un q, y3 j]
        unfold ybF
        by_cases q2 : 120 * C ≤ j ∧ j < 120 * C + i
        · rw [if_pos q2, if_pos ⟨q2.1, by omega⟩]
        · rw [if_neg q2, if_neg (by omega)]
    · show 121 - (nI (i + 1)).toNatClampNeg < 121 - (nI i).toNatClampNeg
      rw [nI_clamp (by omega), nI_clamp (by omega)]; omega
set_option maxHeartbeats 4000000 in
theorem sim_read (b : Nat → Nat) (k : Nat → ClassId) : SimI (Rel b k) (fun Q σ => C_X6_read_w b k 1000 10000 Q σ) (fun Q τ => R_read_w Q τ) := by
  intro σ τ hRel
  obtain ⟨⟨n, hn, eh, eh', hB, hbit⟩, C, T, hC, hT, eC, eC', eT, eT', hR, hD, hself, ⟨hnp, hlow1, hlow2⟩, hcf⟩ := hRel
  rcases Nat.lt_or_ge C 16 with hC16 | hC16
  rotate_left
  · have : C = 16 := by omega
    subst this
    refine ⟨fun r σ' => r = -1 ∧ σ' = σ, fun Q hQ => ⟨fun h9 => absurd eC h9, fun _ => hQ _ _ ⟨rfl, rfl⟩⟩, ?_⟩
    rintro r σ' ⟨rfl, rfl⟩ Q' hQ'
    exact ⟨fun h9 => absurd eC' h9, fun _ => hQ' τ ⟨⟨n, hn, eh, eh', hB, hbit⟩, 16, T, hC, hT, eC, eC', eT, eT', hR, hD, hself, ⟨hnp, hlow1, hlow2⟩, hcf⟩⟩
  -- the bytes as numbers
  obtain ⟨B, hBB⟩ : ∃ B : Nat → Nat, ∀ i, i < n → σ.2.1 0 i = nI (B i) ∧ τ.2 0 i = nI (B i) ∧ B i < 256 := by
    refine ⟨fun i => (σ.2.1 0 i).toNatClampNeg, fun i hi => ?_⟩
    obtain ⟨h1, y, hy, ey⟩ := hB i hi
    have : (σ.2.1 0 i).toNatClampNeg = y := by rw [ey]; exact nI_clamp (by omega)
    show σ.2.1 0 i = nI (σ.2.1 0 i).toNatClampNeg ∧ τ.2 0 i = nI (σ.2.1 0 i).toNatClampNeg ∧ (σ.2.1 0 i).toNatClampNeg < 256
    rw [this]
    exact ⟨ey, by rw [← h1]; exact ey, hy⟩
  have hR' : textR T (σ.2.1 1) (σ.2.1 2) (ybF B n C (τ.2 2)) (τ.2 4) := by
    intro t ht
    obtain ⟨p, m, w1, w2, w3, w4, w5, w6⟩ := hR t ht
    obtain ⟨p', m', v1, v2, v3, v4⟩ := hlow1 t ht
    have : p = p' := (nI_eq (by omega) (by omega)).mp (by rw [← w3, ← v3])
    subst this
    have : m = m' := (nI_eq (by omega) (by omega)).mp (by rw [← w4, ← v4])
    subst this
    refine ⟨p, m, w1, w2, w3, by rw [ybF_low (by omega)]; exact w4, w5, fun i hi => ?_⟩
    obtain ⟨y, y1, y2, y3, y4⟩ := w6 i hi
    exact ⟨y, y1, y2, by rw [ybF_low (by omega)]; exact y3, y4⟩
  have hT180 : T ≤ 180 := by omega
  refine ⟨CP k (b 14) σ B n C (ybF B n C (τ.2 2)) (tr (120 * (C + 1)) (ybF B n C (τ.2 2))) (T, τ.2 4) (τ.2 8) (τ.2 7) (τ.2 10), fun Q hQ => ?_, fun r σ' hP Q' hQ' => ?_⟩
  · refine C_read (Tt := (T, τ.2 4)) hn hC16 eh eT eC (fun i hi => (hBB i hi).1) (fun i hi => (hBB i hi).2.2) (fun i hi => ybF_in hi) (fun i hi => ?_) hR' hD hT180 hself hQ
    unfold tr
    rw [if_pos (by omega)]
    exact ybF_in hi
  -- the reference
  obtain ⟨sf, hsf⟩ : ∃ sf : Nat → Nat, ∀ c', c' < C → τ.2 10 c' = nI (sf c') ∧ sf c' < T ∧ σ.2.1 3 (sf c') = nI c' := by
    have : ∀ c', ∃ s, c' < C → τ.2 10 c' = nI s ∧ s < T ∧ σ.2.1 3 s = nI c' := by
      intro c'
      by_cases hc' : c' < C
      · obtain ⟨s, hs, es, ec⟩ := hself.1 c' hc'
        exact ⟨s, fun _ => ⟨es, hs, ec⟩⟩
      · exact ⟨0, fun q => absurd q hc'⟩
    exact Classical.skolem.mp this
  refine R_copy (B := B) hn hC16 eh' eC' (fun i hi => (hBB i hi).2.1) (fun t c1 c3 c5 c18 c19 c20 c21 c23 cy cA => ?_)
  have hPB : PB b (sq b B (kS B n) n (kK B n)) t B n C := ⟨hn, hC16, rfl, rfl, c20, c18, c19, fun i _ => rfl, fun i hi => by rw [cy]; exact ybF_in hi, fun i hi => (hBB i hi).2.2⟩
  have hX0 : isR t n (.inl 0) t := by
    refine ⟨Nat.zero_le _, t.1 24, ?_⟩
    have := rp_self t
    rw [c21, c23] at this
    exact this.symm
  refine R_file (Tt := (T, τ.2 4)) (lt := σ.2.1 1) (ln := σ.2.1 2) (sf := sf) hPB (by rw [cy]; exact hR') hD hT180 (cA 4 (by omega)) c3 (fun c' hc' => by rw [cA 10 (by omega)]; exact ⟨(hsf c' hc').1, (hsf c' hc').2.1⟩) hX0 (fun τ' X' hX' hfr h22 hfacts => ?_)
  rw [cy, cA 10 (by omega)] at hX' hfacts
  obtain ⟨oX, oX2⟩ := isR_o hX'
  obtain ⟨fI, fM, f67, f9, f14⟩ := hfr
  have XI : ∀ j, j ≠ 21 → j ≠ 22 → j ≠ 23 → j ≠ 24 → X'.1 j = t.1 j := fun j h1 h2 h3 h4 => by rw [oX j h1 h3 h4]; exact fI j h2
  have XM : ∀ m, m ≠ 2 → m ≠ 6 → m ≠ 7 → ¬ (9 ≤ m ∧ m ≤ 17) → m ≠ 25 → m ≠ 26 → X'.2 m = τ.2 m := fun m m2 m6 m7 m9 m25 m26 => by rw [oX2, fM m m6 m7 m9 m25 m26]; exact cA m m2
  have X2 : X'.2 2 = ybF B n C (τ.2 2) := by rw [oX2, fM 2 (by omega) (by omega) (by omega) (by omega) (by omega)]; exact cy
  have X7 : ∀ i, (∀ κ, 1 ≤ κ → κ ≤ kK B n → i ≠ 13 * C + κ) → X'.2 7 i = τ.2 7 i := fun i hi => by rw [oX2, (f67 i hi).2, cA 7 (by omega)]
  have X9 : ∀ m i, 9 ≤ m → m ≤ 17 → m ≠ 14 → m ≠ 16 → i ≠ C → X'.2 m i = τ.2 m i := fun m i h1 h2 h3 h4 h5 => by rw [oX2, f9 m i h1 h2 h3 h4 h5, cA m (by omega)]
  have X14 : ∀ i, i < 4 * C → X'.2 14 i = τ.2 14 i ∧ X'.2 16 i = τ.2 16 i := fun i hi => by rw [oX2, (f14 i (Or.inl hi)).1, (f14 i (Or.inl hi)).2, cA 14 (by omega), cA 16 (by omega)]; exact ⟨rfl, rfl⟩
  obtain ⟨p0, pL, hcase⟩ := hP
  have keep0 : ∀ t j, t < T → (kT (ybF B n C (τ.2 2)) B n C (T, τ.2 4) j).2 t = τ.2 4 t := by
    intro t j ht
    have := (nb_keep (yb := ybF B n C (τ.2 2)) (B := B) (e := n) (c := C) (st0 := (k0 B n).2) (Tt := (T, τ.2 4)) (i := 0) (t := t) ht j).2
    rw [Nat.zero_add] at this
    exact this
  rcases hcase with ⟨q, hq, hr, u1, u2, u3, u4, j, hj, u5, u6⟩ | ⟨hq, hr, hbK, o, s, κ, hκ, es, hs, u1, u2, u3, u4, u5, u6, hcfN⟩
  · -- refused
    rw [hq] at hX'
    obtain ⟨hq9, a, rfl⟩ := hX'
    refine ⟨fun h9 => absurd h9 (nI_rq hq9), fun _ => ?_⟩
    have er : -(((1000 : Int32) * nI q.1) + nI q.2) = r := by rw [hr, show (1000 : Int32) = nI 1000 from rfl, pk_mul, nI_add]
    show Q' (-(((1000 : Int32) * nI q.1) + nI q.2)) _
    rw [er]
    have hjT := nb_le (ybF B n C (τ.2 2)) B n C (k0 B n).2 (T, τ.2 4) j
    have hjT : T ≤ (kT (ybF B n C (τ.2 2)) B n C (T, τ.2 4) j).1 := hjT.1
    have hold := old_cf (yb' := ybF B n C (τ.2 2)) (pl' := τ'.2 7) (tx' := τ'.2 8) (fg' := τ'.2 9) (se' := τ'.2 10) (ab' := τ'.2 11) (bx' := τ'.2 12) (fc' := τ'.2 13) (fa' := τ'.2 14) (nc' := τ'.2 15) (nt' := τ'.2 16) (rs' := τ'.2 17) hlow2 pL (Nat.le_refl T) (fun i hi => ybF_low hi) (fun i hi => X7 i (fun κ _ _ => by omega)) (fun i hi => by have := XM 8 (by omega) (by omega) (by omega) (by omega) (by omega) (by omega); exact congrFun this i) (fun i hi => X9 9 i (by omega) (by omega) (by omega) (by omega) (by omega)) (fun i hi => X9 10 i (by omega) (by omega) (by omega) (by omega) (by omega)) (fun i hi => X9 11 i (by omega) (by omega) (by omega) (by omega) (by omega)) (fun i hi => X9 12 i (by omega) (by omega) (by omega) (by omega) (by omega)) (fun i hi => X9 13 i (by omega) (by omega) (by omega) (by omega) (by omega)) (fun i hi => (X14 i hi).1) (fun i hi => X9 15 i (by omega) (by omega) (by omega) (by omega) (by omega)) (fun i hi => (X14 i hi).2) (fun i hi => X9 17 i (by omega) (by omega) (by omega) (by omega) (by omega))
    have e4 : τ'.2 4 = τ.2 4 := XM 4 (by omega) (by omega) (by omega) (by omega) (by omega) (by omega)
    have e27 : τ'.2 27 = τ.2 27 := XM 27 (by omega) (by omega) (by omega) (by omega) (by omega) (by omega)
    have e2 : τ'.2 2 = ybF B n C (τ.2 2) := X2
    refine hQ' _ ⟨⟨0, by omega, p0, ?_, fun i hi => absurd hi (Nat.not_lt_zero _), fun s => ?_⟩, C, T, hC, hT, u2, ?_, u1, ?_, ?_, ?_, ?_, ⟨npR_mono pL hnp, ?_, ?_⟩, ?_⟩
    · rw [XI 1 (by omega) (by omega) (by omega) (by omega)]; exact c1
    · show bit (τ'.2 27 s)
      rw [e27]; exact hbit s
    · rw [XI 3 (by omega) (by omega) (by omega) (by omega)]; exact c3
    · rw [XI 5 (by omega) (by omega) (by omega) (by omega), c5]; exact eT'
    · show textR T _ _ (τ'.2 2) (τ'.2 4)
      rw [e2, e4]
      intro t ht
      obtain ⟨p, m, w1, w2, w3, w4, w5, w6⟩ := u5 t (by omega)
      rw [keep0 t j ht] at w3
      exact ⟨p, m, w1, w2, w3, w4, w5, w6⟩
    · intro t u m ht hu
      exact u6 t u m (by omega) (by omega)
    · show selfR C T (σ'.2.1 3) (τ'.2 10)
      rw [u3]
      have h10 : ∀ c, c < C → τ'.2 10 c = τ.2 10 c := fun c hc => X9 10 c (by omega) (by omega) (by omega) (by omega) (by omega)
      refine ⟨fun c hc => ?_, fun t ht hno => hself.2 t ht (fun c hc => by rw [← h10 c hc]; exact hno c hc)⟩
      rw [h10 c hc]
      exact hself.1 c hc
    · intro t ht
      show ∃ p n, _ ∧ _ ∧ τ'.2 4 t = nI p ∧ τ'.2 2 p = nI n
      rw [e2, e4]
      obtain ⟨p, m, v1, v2, v3, v4⟩ := hlow1 t ht
      exact ⟨p, m, v1, v2, v3, by rw [ybF_low (by omega)]; exact v4⟩
    · intro c hc
      show cfR k (b 14) _ T c (σ'.2.2.1 c) (tr (120 * (c + 1)) (τ'.2 2)) _ _ _ _ _ _ _ _ _ _ _
      rw [e2, u4]
      exact hold c hc
    · intro c hc
      show cfR k (b 14) _ T c (σ'.2.2.1 c) (τ'.2 2) _ _ _ _ _ _ _ _ _ _ _
      rw [e2, u4]
      exact un_tr (hold c hc)
  · -- read
    obtain ⟨F9, F10, F, F67⟩ := hfacts hq
    rw [hq] at hX'
    obtain ⟨-, s0, rfl⟩ := hX'
    refine ⟨fun _ => ?_, fun h9 => absurd rfl h9⟩
    subst hr
    have F10 := F10 κ hκ
    -- every step was good
    have hq' : fin n (g9 B n (kK B n) (kS B n) (ktk (ybF B n C (τ.2 2)) B n C (T, τ.2 4) (τ.2 10)) (kN B n)) = .inl n := hq
    generalize htk : ktk (ybF B n C (τ.2 2)) B n C (T, τ.2 4) (τ.2 10) = tk at hq' F F10 hκ hcfN
    obtain ⟨e9, -⟩ := fin_ok hq'
    obtain ⟨a8, e8⟩ : ∃ a8, g8 B n (kK B n) (kS B n) tk (kN B n) = .inl a8 := by
      cases h8 : g8 B n (kK B n) (kS B n) tk (kN B n) with
      | inl a => exact ⟨a, rfl⟩
      | inr q => unfold g9 at e9; rw [h8] at e9; cases e9
    obtain ⟨a7, e7⟩ : ∃ a7, (g7 B n (kK B n) (kS B n) tk (kN B n)).2 = .inl a7 := itr_ok (annE_f B n (kK B n) (kS B n) 4) (i := 0) (Nat.zero_le _) e8
    obtain ⟨a6, v7, e6, -⟩ := lk_ok (f := am B n 4) e7
    obtain ⟨a5, e5⟩ : ∃ a5, (g5 B n (kK B n) (kS B n) tk (kN B n)).2 = .inl a5 := itr_ok (f := lf (kn B n (kK B n) (kS B n) 7)) (lf_f _) (i := 0) (Nat.zero_le _) e6
    obtain ⟨a4, v5, e4, -⟩ := lk_ok (f := am B n 4) e5
    obtain ⟨a3, κb, e3, hcb, hκb⟩ := lk_ok (f := con B n (kK B n) (kS B n)) e4
    obtain ⟨a2, κa, e2, hca, hκa⟩ := lk_ok (f := con B n (kK B n) (kS B n)) e3
    obtain ⟨a1, κ', e1, hnk, hκ'⟩ := lk_ok (f := nk B n (kK B n) (kS B n) tk) e2
    obtain ⟨a0, v1, eN, -⟩ := lk_ok (f := am B n 3) e1
    have : κ = κ' := by have := hκ.symm.trans hκ'; cases this; rfl
    subst this
    have hkκ := kn_B (nk_B hnk).1
    have hntk := (nk_B hnk).2
    obtain ⟨⟨aC, eC2⟩, hgd⟩ := nmL_ok _ _ eN
    have hK12 := kK_12 B n
    obtain ⟨G11, G12, G13, G14, G15, G16, G17⟩ := F
    have G11 := G11 κa hκa
    have G12 := G12 κb hκb
    have hFn := am_le B n 4 (g4 B n (kK B n) (kS B n) tk (kN B n)).2
    have hφ : ∀ i, i < (g5 B n (kK B n) (kS B n) tk (kN B n)).1.getD 0 → B (plc (g5 B n (kK B n) (kS B n) tk (kN B n)).2 + i) ≤ 12 := by
      intro i hi
      have e6' : itr (lf (kn B n (kK B n) (kS B n) 7)) ((g5 B n (kK B n) (kS B n) tk (kN B n)).1.getD 0) (.inl a5) = .inl a6 := by rw [← e5]; exact e6
      have := (kns_ok _ _ e6').2 i hi
      rw [e5]
      show B (a5 + i) ≤ 12
      omega
    have hκa12 : κa ≤ 12 := by rcases con_B hca with q | q <;> omega
    have hκb12 : κb ≤ 12 := by rcases con_B hcb with q | q <;> omega
    have X4 : (rp τ' (nI n) 0 s0).2 4 = τ.2 4 := XM 4 (by omega) (by omega) (by omega) (by omega) (by omega) (by omega)
    have X8 : (rp τ' (nI n) 0 s0).2 8 = τ.2 8 := XM 8 (by omega) (by omega) (by omega) (by omega) (by omega) (by omega)
    have xp : textP T (ybF B n C (τ.2 2)) (τ.2 4) := by
      intro t ht
      obtain ⟨p1, m1, y1, y2, y3, y4, -⟩ := hR' t ht
      exact ⟨p1, m1, y1, y2, y3, y4⟩
    refine R_rest (X := rp τ' (nI n) 0 s0) (B := B) (e := n) (c := C) (Tt := (T, τ.2 4)) (κn := κ) (κa := κa) (κb := κb) (nF := (g5 B n (kK B n) (kS B n) tk (kN B n)).1.getD 0) (φ := fun i => B (plc (g5 B n (kK B n) (kS B n) tk (kN B n)).2 + i)) hn hC16 hT180 ?_ ?_ ?_ h22 X4 (by rw [X2]; exact xp) (fun i hi => by rw [X2]; exact ybF_in hi) hbK (fun κ h1 h2 h7 => ?_) F67 F10 (by omega) G11 hκa12 G12 hκb12 G13 hFn (fun i hi => ⟨G14 i hi, hφ i hi⟩) (fun E E3 E5 EI E4 EA E8 E8' E10 E11 E12 EF E14 E14' => ?_)
    · rw [XI 3 (by omega) (by omega) (by omega) (by omega)]; exact c3
    · rw [XI 5 (by omega) (by omega) (by omega) (by omega), c5]; exact eT'
    · rw [XI 18 (by omega) (by omega) (by omega) (by omega)]; exact c18
    · obtain ⟨q1, q2, q3, -⟩ := hgd κ h1 h2 h7
      exact ⟨q1, q2, q3⟩
    rw [X2] at E4 E5 E8 E10 E11 E12 E14
    rw [X8] at E8 E10 E11 E12 E14
    have hnle := nb_le (ybF B n C (τ.2 2)) B n C (k0 B n).2 (T, τ.2 4) (kK B n)
    have hnle1 : T ≤ (kT (ybF B n C (τ.2 2)) B n C (T, τ.2 4) (kK B n)).1 := hnle.1
    have hnle2 : (kT (ybF B n C (τ.2 2)) B n C (T, τ.2 4) (kK B n)).1 ≤ T + kK B n := hnle.2
    have hE2 : E.2 2 = ybF B n C (τ.2 2) := by rw [EA 2 (by omega) (by omega) (by omega) (by omega) (by omega) (by omega)]; exact X2
    have hE7 : E.2 7 = (rp τ' (nI n) 0 s0).2 7 := EA 7 (by omega) (by omega) (by omega) (by omega) (by omega) (by omega)
    have hE9 : E.2 9 = (rp τ' (nI n) 0 s0).2 9 := EA 9 (by omega) (by omega) (by omega) (by omega) (by omega) (by omega)
    have hE13 : E.2 13 = (rp τ' (nI n) 0 s0).2 13 := EA 13 (by omega) (by omega) (by omega) (by omega) (by omega) (by omega)
    have hE15 : E.2 15 = (rp τ' (nI n) 0 s0).2 15 := EA 15 (by omega) (by omega) (by omega) (by omega) (by omega) (by omega)
    have hE16 : E.2 16 = (rp τ' (nI n) 0 s0).2 16 := EA 16 (by omega) (by omega) (by omega) (by omega) (by omega) (by omega)
    have hE17 : E.2 17 = (rp τ' (nI n) 0 s0).2 17 := EA 17 (by omega) (by omega) (by omega) (by omega) (by omega) (by omega)
    have hE27 : E.2 27 = τ.2 27 := by rw [EA 27 (by omega) (by omega) (by omega) (by omega) (by omega) (by omega)]; exact XM 27 (by omega) (by omega) (by omega) (by omega) (by omega) (by omega)
    have hold := old_cf (T' := (kT (ybF B n C (τ.2 2)) B n C (T, τ.2 4) (kK B n)).1) (yb' := ybF B n C (τ.2 2)) (pl' := E.2 7) (tx' := E.2 8) (fg' := E.2 9) (se' := E.2 10) (ab' := E.2 11) (bx' := E.2 12) (fc' := E.2 13) (fa' := E.2 14) (nc' := E.2 15) (nt' := E.2 16) (rs' := E.2 17) hlow2 pL hnle1 (fun i hi => ybF_low hi) (fun i hi => by rw [hE7]; exact X7 i (fun κ _ _ => by omega)) (fun i hi => by rw [E8' i hi, X8]) (fun i hi => by rw [hE9]; exact X9 9 i (by omega) (by omega) (by omega) (by omega) (by omega)) (fun i hi => by rw [(EF i (by omega)).1]; exact X9 10 i (by omega) (by omega) (by omega) (by omega) (by omega)) (fun i hi => by rw [(EF i (by omega)).2.1]; exact X9 11 i (by omega) (by omega) (by omega) (by omega) (by omega)) (fun i hi => by rw [(EF i (by omega)).2.2]; exact X9 12 i (by omega) (by omega) (by omega) (by omega) (by omega)) (fun i hi => by rw [hE13]; exact X9 13 i (by omega) (by omega) (by omega) (by omega) (by omega)) (fun i hi => by rw [E14' i hi]; exact (X14 i hi).1) (fun i hi => by rw [hE15]; exact X9 15 i (by omega) (by omega) (by omega) (by omega) (by omega)) (fun i hi => by rw [hE16]; exact (X14 i hi).2) (fun i hi => by rw [hE17]; exact X9 17 i (by omega) (by omega) (by omega) (by omega) (by omega))
    have hnew := hcfN (E.2 7) (E.2 8) (E.2 9) (E.2 10) (E.2 11) (E.2 12) (E.2 13) (E.2 14) (E.2 15) (E.2 16) (E.2 17) ⟨fun κ' h12 => ?_, E8, by rw [hE9]; exact F9, fun κ' e' => ?_, ?_, ?_, by rw [hE13]; exact G13, fun i hi => E14 i hi, by rw [hE15]; exact G15, fun i hi => by rw [hE16]; exact G16 i hi, by rw [hE17]; exact G17⟩
    rotate_left
    · rw [hE7]
      unfold kpc
      by_cases q : 1 ≤ κ' ∧ κ' ≤ kK B n
      · rw [if_pos q]; exact (F67 κ' q.1 q.2).2
      · rw [if_neg q]; exact X7 (13 * C + κ') (fun κ'' h1 h2 h3 => by omega)
    · have := hκ.symm.trans e'; cases this; exact E10
    · rw [E11]; exact congrArg (t0 _) hκa.symm
    · rw [E12]; exact congrArg (t0 _) hκb.symm
    have hsE : E.2 10 C = nI s := by rw [E10]; exact es
    have h10 : ∀ c, c < C → E.2 10 c = τ.2 10 c := fun c hc => by rw [(EF c (by omega)).1]; exact X9 10 c (by omega) (by omega) (by omega) (by omega) (by omega)
    -- no older class has the name
    have hS7 : kS B n κ = 7 := by rw [hkκ.2.1]; exact hkκ.2.2.2.2.1
    have hs2 : nI s = nI (kn1 (ybF B n C (τ.2 2)) B n C (T, τ.2 4) (B (kP B n κ + 1))) := by
      rw [← es]
      unfold ktc
      rw [if_neg (by omega), if_pos ⟨by omega, by omega, hS7⟩]
    have hfree : ∀ c', c' < C → τ.2 10 c' ≠ nI s := by
      intro c' hc' ec'
      apply hntk
      rw [← htk]
      exact ⟨c', hc', by rw [← hs2]; exact ec'⟩
    refine hQ' E ⟨⟨0, by omega, p0, ?_, fun i hi => absurd hi (Nat.not_lt_zero _), fun s => by rw [hE27]; exact hbit s⟩, C + 1, (kT (ybF B n C (τ.2 2)) B n C (T, τ.2 4) (kK B n)).1, by omega, by omega, u2, E3, u1, E5, by rw [hE2, E4]; exact u5, u6, ⟨fun c hc => ?_, fun t ht hno => ?_⟩, ⟨npR_mono pL hnp, fun t ht => ?_, fun c hc => ?_⟩, fun c hc => ?_⟩
    · rw [EI 1 (by omega) (by omega), XI 1 (by omega) (by omega) (by omega) (by omega)]; exact c1
    · rw [u3]
      rcases Nat.lt_or_ge c C with h7 | h7
      · obtain ⟨k1, k2, k3⟩ := hsf c h7
        refine ⟨sf c, by omega, by rw [h10 c h7]; exact k1, ?_⟩
        rw [pk_un (fun q => hfree c h7 (by rw [k1, q]))]
        exact k3
      · have : c = C := by omega
        subst this
        exact ⟨s, hs, hsE, pk_us⟩
    · rw [u3]
      have hne : t ≠ s := fun q => hno C (by omega) (by rw [hsE, q])
      rw [pk_un hne]
      exact hself.2 t ht (fun c hc => by rw [← h10 c hc]; exact hno c (by omega))
    · rw [hE2, E4]
      refine textN_nb (N := 120 * (C + 1)) (fun t ht => ?_) (fun κ h1 h2 h3 => ?_) (kK B n) (Nat.le_refl _) t ht
      · obtain ⟨p, m, v1, v2, v3, v4⟩ := hlow1 t ht
        exact ⟨p, m, v1, by omega, v3, by rw [ybF_low (by omega)]; exact v4⟩
      · obtain ⟨x1, x2, -⟩ := (hbK κ h1 h2).2.2.2.2 h3
        exact ⟨_, x1, by omega, ybF_in (i := kP B n κ + 1) (by omega)⟩
    · rw [hE2, u4]
      rcases Nat.lt_or_ge c C with h7 | h7
      · rw [va_up_ne _ _ (by omega)]
        exact hold c h7
      · have : c = C := by omega
        subst this
        rw [va_up_self]
        exact hnew
    · rw [hE2, u4]
      rcases Nat.lt_or_ge c C with h7 | h7
      · rw [va_up_ne _ _ (by omega)]
        exact un_tr (hold c h7)
      · have : c = C := by omega
        subst this
        rw [va_up_self]
        exact un_tr hnew
