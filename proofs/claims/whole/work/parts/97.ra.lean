/-! the read's end, reference side: numbers of the texts -/
theorem textP_nb {yb : Nat → Int32} {B : Nat → Nat} {e c : Nat} {Tt : Nat × (Nat → Int32)} (h0 : textP Tt.1 yb Tt.2) (hb : ∀ κ, 1 ≤ κ → κ ≤ kK B e → kS B e κ = 1 → ∃ m : Nat, m ≤ 10 ∧ 120 * c + kP B e κ + 1 + m < 1920 ∧ yb (120 * c + kP B e κ + 1) = nI m) : ∀ j, j ≤ kK B e → textP (kT yb B e c Tt j).1 yb (kT yb B e c Tt j).2 := by
  intro j
  induction j with
  | zero => intro _; exact h0
  | succ j ih =>
    intro hj
    have ih := ih (by omega)
    have hs : kT yb B e c Tt (j + 1) = if kS B e (j + 1) = 1 then nbs yb (kT yb B e c Tt j) (120 * c + kP B e (j + 1) + 1) else kT yb B e c Tt j := rfl
    rw [hs]
    by_cases h1 : kS B e (j + 1) = 1
    · rw [if_pos h1]
      obtain ⟨m, hm, hp, ep⟩ := hb (j + 1) (by omega) hj h1
      unfold nbs
      by_cases h2 : nbf yb (kT yb B e c Tt j) (120 * c + kP B e (j + 1) + 1) < (kT yb B e c Tt j).1
      · rw [if_pos h2]; exact ih
      · rw [if_neg h2]
        intro t ht
        have ht : t < (kT yb B e c Tt j).1 + 1 := ht
        rcases Nat.lt_or_ge t (kT yb B e c Tt j).1 with h7 | h7
        · obtain ⟨p, n, q1, q2, q3, q4⟩ := ih t h7
          exact ⟨p, n, q1, q2, by show upd _ _ _ t = _; rw [pk_un (by omega)]; exact q3, q4⟩
        · have : t = (kT yb B e c Tt j).1 := by omega
          subst this
          exact ⟨120 * c + kP B e (j + 1) + 1, m, hm, hp, by show upd _ _ _ _ = _; rw [pk_us], ep⟩
    · rw [if_neg h1]; exact ih
set_option maxHeartbeats 4000000 in
theorem R_rest {X : rS} {B : Nat → Nat} {e c : Nat} {Tt : Nat × (Nat → Int32)} {κn κa κb nF : Nat} {φ : Nat → Nat} (he : e ≤ 120) (hc : c < 16) (hT : Tt.1 ≤ 180) (e3 : X.1 3 = nI c) (e5 : X.1 5 = nI Tt.1) (e18 : X.1 18 = nI c) (e22 : X.1 22 = nI (kK B e)) (e4' : X.2 4 = Tt.2) (hx : textP Tt.1 (X.2 2) Tt.2) (hby : ∀ i, i < e → X.2 2 (120 * c + i) = nI (B i)) (hbK : ∀ κ, 1 ≤ κ → κ ≤ kK B e → bK B e κ) (hgd : ∀ κ, 1 ≤ κ → κ ≤ kK B e → kS B e κ = 7 → 1 ≤ B (kP B e κ + 1) ∧ B (kP B e κ + 1) ≤ kK B e ∧ kS B e (B (kP B e κ + 1)) = 1) (h67 : ∀ κ, 1 ≤ κ → κ ≤ kK B e → X.2 6 (13 * c + κ) = nI (kS B e κ) ∧ X.2 7 (13 * c + κ) = nI (120 * c + kP B e κ)) (e10 : X.2 10 c = nI κn) (hκn : κn ≤ 12) (e11 : X.2 11 c = nI κa) (hκa : κa ≤ 12) (e12 : X.2 12 c = nI κb) (hκb : κb ≤ 12) (e13' : X.2 13 c = nI nF) (hnF : nF ≤ 4) (e14 : ∀ i, i < nF → X.2 14 (4 * c + i) = nI (φ i) ∧ φ i ≤ 12) {Q : Int32 → rS → Prop} (hQ : ∀ E : rS, E.1 3 = nI (c + 1) → E.1 5 = nI (kT (X.2 2) B e c Tt (kK B e)).1 → (∀ n, n ≠ 3 → n ≠ 5 → E.1 n = X.1 n) → E.2 4 = (kT (X.2 2) B e c Tt (kK B e)).2 → (∀ m, m ≠ 4 → m ≠ 8 → m ≠ 10 → m ≠ 11 → m ≠ 12 → m ≠ 14 → E.2 m = X.2 m) → (∀ κ, κ ≤ 12 → E.2 8 (13 * c + κ) = ktc (X.2 2) B e c Tt (X.2 8) κ) → (∀ i, i < 13 * c → E.2 8 i = X.2 8 i) → E.2 10 c = ktc (X.2 2) B e c Tt (X.2 8) κn → E.2 11 c = t0 (ktc (X.2 2) B e c Tt (X.2 8)) (some κa) → E.2 12 c = t0 (ktc (X.2 2) B e c Tt (X.2 8)) (some κb) → (∀ i, i ≠ c → E.2 10 i = X.2 10 i ∧ E.2 11 i = X.2 11 i ∧ E.2 12 i = X.2 12 i) → (∀ i, i < nF → E.2 14 (4 * c + i) = ktc (X.2 2) B e c Tt (X.2 8) (φ i)) → (∀ i, i < 4 * c → E.2 14 i = X.2 14 i) → Q (nI c) E) : R_read_b114 Q 1 X := by
  have hK12 := kK_12 B e
  have cc : (nI c).toNatClampNeg = c := nI_clamp (by omega)
  have v16 : vp_in (nI c) 16 := vp_in_nI hc (by omega)
  have hxs := textP_nb (yb := X.2 2) (B := B) (e := e) (c := c) (Tt := Tt) hx (fun κ h1 h2 h3 => by
    obtain ⟨x1, x2, -⟩ := (hbK κ h1 h2).2.2.2.2 h3
    exact ⟨_, x1, by omega, hby (kP B e κ + 1) (by omega)⟩)
  -- the end
  have fin2 : ∀ W : rS, W.1 5 = nI (kT (X.2 2) B e c Tt (kK B e)).1 → (∀ n, n ≠ 5 → W.1 n = X.1 n) → W.2 4 = (kT (X.2 2) B e c Tt (kK B e)).2 → (∀ m, m ≠ 4 → m ≠ 8 → W.2 m = X.2 m) → (∀ κ, κ ≤ 12 → W.2 8 (13 * c + κ) = ktc (X.2 2) B e c Tt (X.2 8) κ) → (∀ i, i < 13 * c → W.2 8 i = X.2 8 i) → vp_in (W.1 18) 16 ∧ vp_in (((13 : Int32) * (W.1 18)) + (W.2 10 (W.1 18).toNatClampNeg)) 208 ∧ vp_in (W.1 18) 16 ∧ ∀ t293 : rS, t293 = rA W 10 (W.1 18) (W.2 8 (((13 : Int32) * (W.1 18)) + (W.2 10 (W.1 18).toNatClampNeg)).toNatClampNeg) → vp_in (t293.1 18) 16 ∧ (¬ (t293.2 11 (t293.1 18).toNatClampNeg) = 0 → vp_in (t293.1 18) 16 ∧ vp_in (((13 : Int32) * (t293.1 18)) + (t293.2 11 (t293.1 18).toNatClampNeg)) 208 ∧ R_read_b340 Q (t293.2 8 (((13 : Int32) * (t293.1 18)) + (t293.2 11 (t293.1 18).toNatClampNeg)).toNatClampNeg) (t293.1 18) t293) ∧ ((t293.2 11 (t293.1 18).toNatClampNeg) = 0 → R_read_b340 Q (-1 : Int32) (t293.1 18) t293) := by
    intro W w5 wI w4 wA w8 w8'
    have w18 : W.1 18 = nI c := by rw [wI 18 (by omega)]; exact e18
    rw [w18, cc, wA 10 (by omega) (by omega), e10, e13, nI_clamp (n := 13 * c + κn) (by omega), w8 κn hκn]
    refine ⟨v16, vp_in_nI (by omega) (by omega), v16, fun t293 e293 => ?_⟩
    have t18 : t293.1 18 = nI c := by rw [e293]; exact w18
    have t11 : t293.2 11 c = nI κa := by rw [e293]; show W.2 11 c = _; rw [wA 11 (by omega) (by omega)]; exact e11
    have t8 : t293.2 8 = W.2 8 := by rw [e293]; rfl
    rw [t18, cc, t11, t8, e13, nI_clamp (n := 13 * c + κa) (by omega), w8 κa hκa]
    -- box
    have b387 : ∀ (y : Int32) (V : rS), y = t0 (ktc (X.2 2) B e c Tt (X.2 8)) (some κb) → V.1 18 = nI c → V.1 5 = nI (kT (X.2 2) B e c Tt (kK B e)).1 → (∀ n, n ≠ 5 → V.1 n = X.1 n) → V.2 4 = (kT (X.2 2) B e c Tt (kK B e)).2 → (∀ m, m ≠ 4 → m ≠ 8 → m ≠ 10 → m ≠ 11 → V.2 m = X.2 m) → V.2 8 = W.2 8 → V.2 10 c = ktc (X.2 2) B e c Tt (X.2 8) κn → V.2 11 c = t0 (ktc (X.2 2) B e c Tt (X.2 8)) (some κa) → (∀ i, i ≠ c → V.2 10 i = X.2 10 i ∧ V.2 11 i = X.2 11 i) → R_read_b387 Q y (nI c) V := by
      intro y V ey u18 u5 uI u4 uA u8 u10 u11 uF
      refine ⟨v16, fun t387 e387 => ?_⟩
      have z18 : t387.1 18 = nI c := by rw [e387]; exact u18
      have z12 : t387.2 12 c = t0 (ktc (X.2 2) B e c Tt (X.2 8)) (some κb) := by rw [e387, rA_at _ hc]; exact ey
      have zA : ∀ m, m ≠ 12 → t387.2 m = V.2 m := fun m hm => by rw [e387]; exact va_up_ne _ _ hm
      have z12' : ∀ i, i ≠ c → t387.2 12 i = X.2 12 i := fun i hi => by
        rw [e387]
        show upd (V.2 12) (nI c).toNatClampNeg y i = _
        rw [cc, pk_un hi, uA 12 (by omega) (by omega) (by omega) (by omega)]
      have zI : t387.1 = V.1 := by rw [e387]; rfl
      refine fx_ex (R_read_b390_f Q) (fun z => ∃ (i : Nat) (E : rS), z = (nI i, E) ∧ i ≤ nF ∧ E.1 = V.1 ∧ (∀ m, m ≠ 14 → E.2 m = t387.2 m) ∧ (∀ j, j < 4 * c → E.2 14 j = X.2 14 j) ∧ (∀ j, j < i → E.2 14 (4 * c + j) = ktc (X.2 2) B e c Tt (X.2 8) (φ j)) ∧ ∀ j, i ≤ j → j < nF → E.2 14 (4 * c + j) = nI (φ j)) (fun z => 5 - z.1.toNatClampNeg) ?_ _ ⟨0, t387, rfl, Nat.zero_le _, zI, fun _ _ => rfl, fun j _ => by rw [zA 14 (by omega), uA 14 (by omega) (by omega) (by omega) (by omega)], fun j hj => absurd hj (Nat.not_lt_zero _), fun j _ hj => by rw [zA 14 (by omega), uA 14 (by omega) (by omega) (by omega) (by omega)]; exact (e14 j hj).1⟩
      rintro K0 _ ⟨i, E, rfl, hi, y1, y2, y3, y4, y5⟩ hK0
      have E18 : E.1 18 = nI c := by rw [y1]; exact u18
      have E13 : E.2 13 c = nI nF := by rw [y2 13 (by omega), zA 13 (by omega), uA 13 (by omega) (by omega) (by omega) (by omega)]; exact e13'
      show vp_in (E.1 18) 16 ∧ ((E.2 13 (E.1 18).toNatClampNeg) ≤ nI i → ∀ t455 : rS, t455 = rI E 3 ((E.1 3) + (1 : Int32)) → Q (t455.1 18) t455) ∧ (¬ (E.2 13 (E.1 18).toNatClampNeg) ≤ nI i → vp_in (((4 : Int32) * (E.1 18)) + nI i) 64 ∧ vp_in (((13 : Int32) * (E.1 18)) + (E.2 14 (((4 : Int32) * (E.1 18)) + nI i).toNatClampNeg)) 208 ∧ vp_in (((4 : Int32) * (E.1 18)) + nI i) 64 ∧ ∀ t441 : rS, t441 = rA E 14 (((4 : Int32) * (E.1 18)) + nI i) (E.2 8 (((13 : Int32) * (E.1 18)) + (E.2 14 (((4 : Int32) * (E.1 18)) + nI i).toNatClampNeg)).toNatClampNeg) → ∀ v442 : Int32, v442 = nI i + (1 : Int32) → K0 (v442, t441))
      rw [E18, cc, E13, e4]
      refine ⟨v16, fun h9 t455 e455 => ?_, fun h9 => ?_⟩
      · have : i = nF := by have := (nI_leI (a := nF) (b := i) (by omega) (by omega)).mp h9; omega
        subst this
        have E3 : E.1 3 = nI c := by rw [y1, uI 3 (by omega)]; exact e3
        rw [E3, nI_1] at e455
        subst e455
        rw [show (rI E 3 (nI (c + 1))).1 18 = E.1 18 from rfl, E18]
        refine hQ _ rfl ?_ (fun n n3 n5 => ?_) ?_ (fun m m4 m8 m10 m11 m12 m14 => ?_) (fun κ hκ => ?_) (fun j hj => ?_) ?_ ?_ ?_ (fun j hj => ⟨?_, ?_, ?_⟩) y4 y3
        · show E.1 5 = _; rw [y1]; exact u5
        · show va_up E.1 3 _ n = _
          rw [va_up_ne _ _ n3, y1]; exact uI n n5
        · show E.2 4 = _
          rw [y2 4 (by omega), zA 4 (by omega)]; exact u4
        · show E.2 m = _
          rw [y2 m m14, zA m m12]; exact uA m m4 m8 m10 m11
        · show E.2 8 _ = _
          rw [y2 8 (by omega), zA 8 (by omega), u8]; exact w8 κ hκ
        · show E.2 8 _ = _
          rw [y2 8 (by omega), zA 8 (by omega), u8]; exact w8' j hj
        · show E.2 10 c = _
          rw [y2 10 (by omega), zA 10 (by omega)]; exact u10
        · show E.2 11 c = _
          rw [y2 11 (by omega), zA 11 (by omega)]; exact u11
        · show E.2 12 c = _
          rw [y2 12 (by omega)]; exact z12
        · show E.2 10 j = _
          rw [y2 10 (by omega), zA 10 (by omega)]; exact (uF j hj).1
        · show E.2 11 j = _
          rw [y2 11 (by omega), zA 11 (by omega)]; exact (uF j hj).2
        · show E.2 12 j = _
          rw [y2 12 (by omega)]; exact z12' j hj
      · have hin : i < nF := by
          rcases Nat.lt_or_ge i nF with h7 | h7
          · exact h7
          · exact absurd (nI_le h7 (by omega)) h9
        have hφ := (e14 i hin).2
        rw [nI_clamp (n := 4 * c + i) (by omega), y5 i (Nat.le_refl _) hin, e13, nI_clamp (n := 13 * c + φ i) (by omega), y2 8 (by omega), zA 8 (by omega), u8, w8 (φ i) hφ]
        refine ⟨vp_in_nI (by omega) (by omega), vp_in_nI (by omega) (by omega), vp_in_nI (by omega) (by omega), fun t441 e441 v442 e442 => ?_⟩
        rw [nI_1] at e442
        subst e442
        have e14' : t441.2 14 = upd (E.2 14) (4 * c + i) (ktc (X.2 2) B e c Tt (X.2 8) (φ i)) := by
          rw [e441]
          show upd (E.2 14) (nI (4 * c + i)).toNatClampNeg _ = _
          rw [nI_clamp (by omega)]
        refine hK0 (nI (i + 1), t441) ⟨i + 1, t441, rfl, hin, by rw [e441]; exact y1, fun m hm => ?_, fun j hj => ?_, fun j hj => ?_, fun j hj1 hj2 => ?_⟩ ?_
        · rw [e441]
          show va_up E.2 14 _ m = _
          rw [va_up_ne _ _ hm]; exact y2 m hm
        · rw [e14', pk_un (by omega)]; exact y3 j hj
        · rw [e14']
          rcases Nat.lt_or_ge j i with h7 | h7
          · rw [pk_un (by omega)]; exact y4 j h7
          · have : j = i := by omega
            subst this; exact pk_us
        · rw [e14', pk_un (by omega)]; exact y5 j (by omega) hj2
        · show 5 - (nI (i + 1)).toNatClampNeg < 5 - (nI i).toNatClampNeg
          rw [nI_clamp (by omega), nI_clamp (by omega)]; omega
    -- above
    have b340 : ∀ y : Int32, y = t0 (ktc (X.2 2) B e c Tt (X.2 8)) (some κa) → R_read_b340 Q y (nI c) t293 := by
      intro y ey
      refine ⟨v16, fun t340 e340 => ?_⟩
      have z18 : t340.1 18 = nI c := by rw [e340]; exact t18
      have zA : ∀ m, m ≠ 10 → m ≠ 11 → t340.2 m = W.2 m := fun m h10 h11 => by
        rw [e340]
        show va_up t293.2 11 _ m = _
        rw [va_up_ne _ _ h11, e293]
        show va_up W.2 10 _ m = _
        rw [va_up_ne _ _ h10]
      have z12 : t340.2 12 c = nI κb := by rw [zA 12 (by omega) (by omega), wA 12 (by omega) (by omega)]; exact e12
      have zI : t340.1 = W.1 := by rw [e340, e293]; rfl
      rw [z18, cc, z12, zA 8 (by omega) (by omega), e13, nI_clamp (n := 13 * c + κb) (by omega), w8 κb hκb]
      have go : ∀ y' : Int32, y' = t0 (ktc (X.2 2) B e c Tt (X.2 8)) (some κb) → R_read_b387 Q y' (nI c) t340 := by
        intro y' ey'
        refine b387 y' t340 ey' z18 (by rw [zI]; exact w5) (fun n hn => by rw [zI]; exact wI n hn) (by rw [zA 4 (by omega) (by omega)]; exact w4) (fun m m4 m8 m10 m11 => by rw [zA m m10 m11]; exact wA m m4 m8) (zA 8 (by omega) (by omega)) ?_ ?_ (fun i hi => ⟨?_, ?_⟩)
        · rw [e340]
          show t293.2 10 c = _
          rw [e293, rA_at _ hc]
        · rw [e340, rA_at _ hc]; exact ey
        · rw [e340]
          show t293.2 10 i = _
          rw [e293]
          show upd (W.2 10) (nI c).toNatClampNeg _ i = _
          rw [cc, pk_un hi, wA 10 (by omega) (by omega)]
        · rw [e340]
          show upd (t293.2 11) (nI c).toNatClampNeg _ i = _
          rw [cc, pk_un hi, e293]
          show W.2 11 i = _
          rw [wA 11 (by omega) (by omega)]
      refine ⟨v16, fun h9 => ⟨v16, vp_in_nI (by omega) (by omega), go _ ?_⟩, fun h9 => go _ ?_⟩
      · cases κb with
        | zero => exact absurd rfl h9
        | succ κ => rfl
      · have : κb = 0 := (nI_eq (b := 0) (by omega) (by omega)).mp h9
        subst this; rfl
    refine ⟨v16, fun h9 => ⟨v16, vp_in_nI (by omega) (by omega), b340 _ ?_⟩, fun h9 => b340 _ ?_⟩
    · cases κa with
      | zero => exact absurd rfl h9
      | succ κ => rfl
    · have : κa = 0 := (nI_eq (b := 0) (by omega) (by omega)).mp h9
      subst this; rfl
  -- the class constants
  have lp2 : ∀ Z : rS, Z.1 5 = nI (kT (X.2 2) B e c Tt (kK B e)).1 → (∀ n, n ≠ 5 → Z.1 n = X.1 n) → Z.2 4 = (kT (X.2 2) B e c Tt (kK B e)).2 → (∀ m, m ≠ 4 → m ≠ 8 → Z.2 m = X.2 m) → (∀ κ, κ ≤ 12 → Z.2 8 (13 * c + κ) = if 1 ≤ κ ∧ κ ≤ kK B e ∧ kS B e κ = 1 then nI (kn1 (X.2 2) B e c Tt κ) else X.2 8 (13 * c + κ)) → (∀ i, i < 13 * c → Z.2 8 i = X.2 8 i) → R_read_b182 Q 1 Z := by
    intro Z z5 zI z4 zA z8 z8'
    refine fx_ex (R_read_b182_f Q) (fun z => ∃ (j : Nat) (W : rS), z = (nI (j + 1), W) ∧ j ≤ kK B e ∧ W.1 = Z.1 ∧ (∀ m, m ≠ 8 → W.2 m = Z.2 m) ∧ (∀ κ, κ ≤ 12 → W.2 8 (13 * c + κ) = if 1 ≤ κ ∧ κ ≤ kK B e ∧ kS B e κ = 1 then nI (kn1 (X.2 2) B e c Tt κ) else if 1 ≤ κ ∧ κ ≤ j ∧ kS B e κ = 7 then nI (kn1 (X.2 2) B e c Tt (B (kP B e κ + 1))) else X.2 8 (13 * c + κ)) ∧ ∀ i, i < 13 * c → W.2 8 i = X.2 8 i) (fun z => 14 - z.1.toNatClampNeg) ?_ _ ⟨0, Z, rfl, Nat.zero_le _, rfl, fun _ _ => rfl, fun κ hκ => ?_, z8'⟩
    rotate_left
    · rw [z8 κ hκ]
      by_cases q : 1 ≤ κ ∧ κ ≤ kK B e ∧ kS B e κ = 1
      · rw [if_pos q, if_pos q]
      · rw [if_neg q, if_neg q, if_neg (by omega)]
    rintro K0 _ ⟨j, W, rfl, hj, y1, y2, y3, y4⟩ hK0
    show R_read_b182_s Q (fun x1 σ => K0 (x1, σ)) (nI (j + 1)) W
    have W22 : W.1 22 = nI (kK B e) := by rw [y1, zI 22 (by omega)]; exact e22
    have W18 : W.1 18 = nI c := by rw [y1, zI 18 (by omega)]; exact e18
    refine ⟨fun h9 => ?_, fun h9 => ?_⟩
    · rw [W22] at h9
      have hjK : j = kK B e := by
        have := (nI_ltI (a := kK B e) (b := j + 1) (by omega) (by omega)).mp h9
        omega
      subst hjK
      exact fin2 W (by rw [y1]; exact z5) (fun n hn => by rw [y1]; exact zI n hn) (by rw [y2 4 (by omega)]; exact z4) (fun m m4 m8 => by rw [y2 m m8]; exact zA m m4 m8) y3 y4
    · rw [W22] at h9
      have hjK : j < kK B e := by
        rcases Nat.lt_or_ge j (kK B e) with h7 | h7
        · exact h7
        · exact absurd (nI_lt (a := kK B e) (b := j + 1) (by omega) (by omega)) h9
      obtain ⟨p6, p7⟩ := h67 (j + 1) (by omega) (by omega)
      have bj := hbK (j + 1) (by omega) (by omega)
      have l7 := okS_le bj.2.1
      have W6 : W.2 6 = X.2 6 := by rw [y2 6 (by omega), zA 6 (by omega) (by omega)]
      have W7 : W.2 7 = X.2 7 := by rw [y2 7 (by omega), zA 7 (by omega) (by omega)]
      have W2 : W.2 2 = X.2 2 := by rw [y2 2 (by omega), zA 2 (by omega) (by omega)]
      rw [W18, e13, nI_clamp (n := 13 * c + (j + 1)) (by omega), W6, W7, p6, p7]
      have mu : 14 - (nI (j + 1 + 1)).toNatClampNeg < 14 - (nI (j + 1)).toNatClampNeg := by rw [nI_clamp (by omega), nI_clamp (by omega)]; omega
      refine ⟨vp_in_nI (by omega) (by omega), fun h7 => ?_, fun h7 => ?_⟩
      · have hn7 : kS B e (j + 1) ≠ 7 := fun q => h7 (by rw [q]; rfl)
        intro v ev
        rw [nI_1] at ev
        subst ev
        refine hK0 (nI (j + 1 + 1), W) ⟨j + 1, W, rfl, hjK, y1, y2, fun κ hκ => ?_, y4⟩ mu
        rw [y3 κ hκ]
        by_cases q : 1 ≤ κ ∧ κ ≤ kK B e ∧ kS B e κ = 1
        · rw [if_pos q, if_pos q]
        · rw [if_neg q, if_neg q]
          by_cases q2 : 1 ≤ κ ∧ κ ≤ j ∧ kS B e κ = 7
          · rw [if_pos q2, if_pos ⟨q2.1, by omega, q2.2.2⟩]
          · rw [if_neg q2, if_neg (fun q3 => ?_)]
            rcases Nat.lt_or_ge κ (j + 1) with h6 | h6
            · exact q2 ⟨q3.1, by omega, q3.2.2⟩
            · have : κ = j + 1 := by omega
              subst this
              exact hn7 q3.2.2
      · have hb7 : kS B e (j + 1) = 7 := (nI_eq (b := 7) (by omega) (by omega)).mp h7
        obtain ⟨n1, n2, n3⟩ := hgd (j + 1) (by omega) (by omega) hb7
        have hw := bj.2.2.2.1 hb7
        have hBy := hby (kP B e (j + 1) + 1) (by omega)
        rw [nI_1, nI_clamp (n := 120 * c + kP B e (j + 1) + 1) (by omega), W2, show X.2 2 (120 * c + kP B e (j + 1) + 1) = nI (B (kP B e (j + 1) + 1)) from hBy, e13, nI_clamp (n := 13 * c + B (kP B e (j + 1) + 1)) (by omega), y3 _ (by omega), if_pos ⟨n1, n2, n3⟩]
        refine ⟨vp_in_nI (by omega) (by omega), vp_in_nI (by omega) (by omega), vp_in_nI (by omega) (by omega), vp_in_nI (by omega) (by omega), fun t256 e256 v ev => ?_⟩
        rw [nI_1] at ev
        subst ev
        have e8' : t256.2 8 = upd (W.2 8) (13 * c + (j + 1)) (nI (kn1 (X.2 2) B e c Tt (B (kP B e (j + 1) + 1)))) := by
          rw [e256]
          show upd (W.2 8) (nI (13 * c + (j + 1))).toNatClampNeg _ = _
          rw [nI_clamp (by omega)]
        refine hK0 (nI (j + 1 + 1), t256) ⟨j + 1, t256, rfl, hjK, by rw [e256]; exact y1, fun m hm => ?_, fun κ hκ => ?_, fun i hi => ?_⟩ mu
        · rw [e256]
          show va_up W.2 8 _ m = _
          rw [va_up_ne _ _ hm]; exact y2 m hm
        · rw [e8']
          by_cases q0 : κ = j + 1
          · subst q0
            rw [pk_us, if_neg (by omega), if_pos ⟨by omega, by omega, hb7⟩]
          · rw [pk_un (by omega), y3 κ hκ]
            by_cases q : 1 ≤ κ ∧ κ ≤ kK B e ∧ kS B e κ = 1
            · rw [if_pos q, if_pos q]
            · rw [if_neg q, if_neg q]
              by_cases q2 : 1 ≤ κ ∧ κ ≤ j ∧ kS B e κ = 7
              · rw [if_pos q2, if_pos ⟨q2.1, by omega, q2.2.2⟩]
              · rw [if_neg q2, if_neg (fun q3 => q2 ⟨q3.1, by omega, q3.2.2⟩)]
        · rw [e8', pk_un (by omega)]; exact y4 i hi
  -- the text constants
  refine fx_ex (R_read_b114_f Q) (fun z => ∃ (j : Nat) (Z : rS), z = (nI (j + 1), Z) ∧ j ≤ kK B e ∧ Z.1 5 = nI (kT (X.2 2) B e c Tt j).1 ∧ (∀ n, n ≠ 5 → Z.1 n = X.1 n) ∧ Z.2 4 = (kT (X.2 2) B e c Tt j).2 ∧ (∀ m, m ≠ 4 → m ≠ 8 → Z.2 m = X.2 m) ∧ (∀ κ, κ ≤ 12 → Z.2 8 (13 * c + κ) = if 1 ≤ κ ∧ κ ≤ j ∧ kS B e κ = 1 then nI (kn1 (X.2 2) B e c Tt κ) else X.2 8 (13 * c + κ)) ∧ ∀ i, i < 13 * c → Z.2 8 i = X.2 8 i) (fun z => 14 - z.1.toNatClampNeg) ?_ _ ⟨0, X, rfl, Nat.zero_le _, e5, fun _ _ => rfl, e4', fun _ _ _ => rfl, fun κ hκ => by rw [if_neg (by omega)], fun _ _ => rfl⟩
  rintro K0 _ ⟨j, Z, rfl, hj, z5, zI, z4, zA, z8, z8'⟩ hK0
  show R_read_b114_s Q (fun x1 σ => K0 (x1, σ)) (nI (j + 1)) Z
  have Z22 : Z.1 22 = nI (kK B e) := by rw [zI 22 (by omega)]; exact e22
  have Z18 : Z.1 18 = nI c := by rw [zI 18 (by omega)]; exact e18
  refine ⟨fun h9 => ?_, fun h9 => ?_⟩
  · rw [Z22] at h9
    have hjK : j = kK B e := by
      have := (nI_ltI (a := kK B e) (b := j + 1) (by omega) (by omega)).mp h9
      omega
    subst hjK
    exact lp2 Z z5 zI z4 zA z8 z8'
  · rw [Z22] at h9
    have hjK : j < kK B e := by
      rcases Nat.lt_or_ge j (kK B e) with h7 | h7
      · exact h7
      · exact absurd (nI_lt (a := kK B e) (b := j + 1) (by omega) (by omega)) h9
    obtain ⟨p6, p7⟩ := h67 (j + 1) (by omega) (by omega)
    have bj := hbK (j + 1) (by omega) (by omega)
    have l7 := okS_le bj.2.1
    have mu : 14 - (nI (j + 1 + 1)).toNatClampNeg < 14 - (nI (j + 1)).toNatClampNeg := by rw [nI_clamp (by omega), nI_clamp (by omega)]; omega
    have hs : kT (X.2 2) B e c Tt (j + 1) = if kS B e (j + 1) = 1 then nbs (X.2 2) (kT (X.2 2) B e c Tt j) (120 * c + kP B e (j + 1) + 1) else kT (X.2 2) B e c Tt j := rfl
    rw [Z18, e13, nI_clamp (n := 13 * c + (j + 1)) (by omega), zA 6 (by omega) (by omega), zA 7 (by omega) (by omega), p6, p7]
    refine ⟨vp_in_nI (by omega) (by omega), fun h1 => ?_, fun h1 => ?_⟩
    · have hn1 : kS B e (j + 1) ≠ 1 := fun q => h1 (by rw [q]; rfl)
      intro v ev
      rw [nI_1] at ev
      subst ev
      rw [if_neg hn1] at hs
      refine hK0 (nI (j + 1 + 1), Z) ⟨j + 1, Z, rfl, hjK, by rw [hs]; exact z5, zI, by rw [hs]; exact z4, zA, fun κ hκ => ?_, z8'⟩ mu
      rw [z8 κ hκ]
      by_cases q : 1 ≤ κ ∧ κ ≤ j ∧ kS B e κ = 1
      · rw [if_pos q, if_pos ⟨q.1, by omega, q.2.2⟩]
      · rw [if_neg q, if_neg (fun q3 => ?_)]
        rcases Nat.lt_or_ge κ (j + 1) with h6 | h6
        · exact q ⟨q3.1, by omega, q3.2.2⟩
        · have : κ = j + 1 := by omega
          subst this
          exact hn1 q3.2.2
    · have hb1 : kS B e (j + 1) = 1 := (nI_eq (b := 1) (by omega) (by omega)).mp h1
      obtain ⟨x1, x2, x3⟩ := bj.2.2.2.2 hb1
      have hle := nb_le (X.2 2) B e c (k0 B e).2 Tt j
      have hTj : (kT (X.2 2) B e c Tt j).1 < 192 := by show (nb (X.2 2) B e c (k0 B e).2 Tt j).1 < 192; omega
      have hBy : X.2 2 (120 * c + kP B e (j + 1) + 1) = nI (B (kP B e (j + 1) + 1)) := hby (kP B e (j + 1) + 1) (by omega)
      have Z2 : Z.2 2 = X.2 2 := zA 2 (by omega) (by omega)
      rw [if_pos hb1] at hs
      refine ⟨vp_in_nI (by omega) (by omega), ?_⟩
      rw [nI_1]
      have hkn : fsT (fun t => sm (Z.2 2) (Z.2 4 t) (120 * c + kP B e (j + 1) + 1)) (kT (X.2 2) B e c Tt j).1 0 = kn1 (X.2 2) B e c Tt (j + 1) := by rw [Z2, z4]; rfl
      -- one more number
      have nxt : ∀ t170 : rS, t170.1 5 = nI (kT (X.2 2) B e c Tt (j + 1)).1 → (∀ n, n ≠ 5 → t170.1 n = X.1 n) → t170.2 4 = (kT (X.2 2) B e c Tt (j + 1)).2 → (∀ m, m ≠ 4 → t170.2 m = Z.2 m) → vp_in (nI (13 * c + (j + 1))) 208 ∧ ∀ t173 : rS, t173 = rA t170 8 (nI (13 * c + (j + 1))) (nI (kn1 (X.2 2) B e c Tt (j + 1))) → R_read_b174 Q (fun x1 σ => K0 (x1, σ)) (nI (j + 1)) t173 := by
        intro t170 u5 uI u4 uA
        refine ⟨vp_in_nI (by omega) (by omega), fun t173 e173 v ev => ?_⟩
        rw [nI_1] at ev
        subst ev
        have e8' : t173.2 8 = upd (Z.2 8) (13 * c + (j + 1)) (nI (kn1 (X.2 2) B e c Tt (j + 1))) := by
          rw [e173]
          show upd (t170.2 8) (nI (13 * c + (j + 1))).toNatClampNeg _ = _
          rw [nI_clamp (by omega), uA 8 (by omega)]
        refine hK0 (nI (j + 1 + 1), t173) ⟨j + 1, t173, rfl, hjK, by rw [e173]; exact u5, fun n hn => by rw [e173]; exact uI n hn, ?_, fun m m4 m8 => ?_, fun κ hκ => ?_, fun i hi => ?_⟩ mu
        · rw [e173]; exact u4
        · rw [e173]
          show va_up t170.2 8 _ m = _
          rw [va_up_ne _ _ m8, uA m m4]; exact zA m m4 m8
        · rw [e8']
          by_cases q0 : κ = j + 1
          · subst q0
            rw [pk_us, if_pos ⟨by omega, by omega, hb1⟩]
          · rw [pk_un (by omega), z8 κ hκ]
            by_cases q : 1 ≤ κ ∧ κ ≤ j ∧ kS B e κ = 1
            · rw [if_pos q, if_pos ⟨q.1, by omega, q.2.2⟩]
            · rw [if_neg q, if_neg (fun q3 => q ⟨q3.1, by omega, q3.2.2⟩)]
        · rw [e8', pk_un (by omega)]; exact z8' i hi
      refine r_number hTj z5 (by rw [Z2, z4]; exact hxs j (by omega)) x1 (by omega) (by rw [Z2]; exact hBy) (fun h6 => ?_) (fun h6 => ?_)
      · rw [hkn] at h6 ⊢
        have hs' : kT (X.2 2) B e c Tt (j + 1) = kT (X.2 2) B e c Tt j := by rw [hs]; unfold nbs; rw [if_pos (show nbf (X.2 2) (kT (X.2 2) B e c Tt j) (120 * c + kP B e (j + 1) + 1) < _ from h6)]
        exact nxt Z (by rw [hs']; exact z5) zI (by rw [hs']; exact z4) (fun _ _ => rfl)
      · rw [hkn] at h6
        have hs' : kT (X.2 2) B e c Tt (j + 1) = ((kT (X.2 2) B e c Tt j).1 + 1, upd (kT (X.2 2) B e c Tt j).2 (kT (X.2 2) B e c Tt j).1 (nI (120 * c + kP B e (j + 1) + 1))) := by
          rw [hs]; unfold nbs
          rw [if_neg (show ¬ nbf (X.2 2) (kT (X.2 2) B e c Tt j) (120 * c + kP B e (j + 1) + 1) < (kT (X.2 2) B e c Tt j).1 from fun q => by have q : kn1 (X.2 2) B e c Tt (j + 1) < (kT (X.2 2) B e c Tt j).1 := q; omega)]
        rw [← h6]
        rw [h6]
        have := nxt (rI (rA Z 4 (nI (kT (X.2 2) B e c Tt j).1) (nI (120 * c + kP B e (j + 1) + 1))) 5 (nI ((kT (X.2 2) B e c Tt j).1 + 1))) (by rw [hs']; rfl) (fun n hn => ?_) ?_ (fun m hm => ?_)
        · rw [h6] at this; exact this
        · show va_up Z.1 5 _ n = _
          rw [va_up_ne _ _ hn]; exact zI n hn
        · rw [hs']
          show upd (Z.2 4) (nI (kT (X.2 2) B e c Tt j).1).toNatClampNeg _ = _
          rw [nI_clamp (by omega), z4]
        · show va_up Z.2 4 _ m = _
          rw [va_up_ne _ _ hm]
