theorem e4 (c i : Nat) : (4 : Int32) * nI c + nI i = nI (4 * c + i) := by rw [show (4 : Int32) = nI 4 from rfl, pk_mul, nI_add]
theorem e13 (c i : Nat) : (13 : Int32) * nI c + nI i = nI (13 * c + i) := by rw [show (13 : Int32) = nI 13 from rfl, pk_mul, nI_add]
theorem r_typeOf {Q : Int32 → rS → Prop} {τ : rS} {c i p κ s : Nat} (hc : c < 16) (hi : i < 4) (hp : p < 1920) (hκ : κ ≤ 12) (e1 : τ.2 16 (4 * c + i) = nI p) (e2 : τ.2 2 p = nI κ) (e3 : τ.2 8 (13 * c + κ) = nI s) (h : Q (nI s) τ) : R_typeOf_w Q (nI c) (nI i) τ := by
  show vp_in ((4 : Int32) * nI c + nI i) 64 ∧ vp_in (τ.2 16 ((4 : Int32) * nI c + nI i).toNatClampNeg) 1920 ∧ vp_in ((13 : Int32) * nI c + (τ.2 2 (τ.2 16 ((4 : Int32) * nI c + nI i).toNatClampNeg).toNatClampNeg)) 208 ∧ Q (τ.2 8 ((13 : Int32) * nI c + (τ.2 2 (τ.2 16 ((4 : Int32) * nI c + nI i).toNatClampNeg).toNatClampNeg)).toNatClampNeg) τ
  rw [e4, nI_clamp (n := 4 * c + i) (by omega), e1, nI_clamp (n := p) (by omega), e2, e13, nI_clamp (n := 13 * c + κ) (by omega), e3]
  exact ⟨vp_in_nI (by omega) (by omega), vp_in_nI hp (by omega), vp_in_nI (by omega) (by omega), h⟩
/-- what marking class c's direct types does -/
def marked (τ : rS) (ty : Bool) (c : Nat) (M M' : Nat → Int32) (r : Int32) : Prop := bit r ∧ (∀ s, dirR τ ty c s → M' s = 1) ∧ (∀ s, ¬ dirR τ ty c s → M' s = M s) ∧ (r = 0 → ∀ s, M' s = M s) ∧ (r = 1 → ∃ s, s < 192 ∧ dirR τ ty c s ∧ M s = 0) ∧ ∀ s, bit (M' s)
theorem mkd_fin {τ : rS} {ty : Bool} {c m : Nat} {d : Nat → Nat} {M M' : Nat → Int32} {r : Int32} (hm : mkd d m M M' r) (hD : ∀ s, dirR τ ty c s ↔ ∃ i, i < m ∧ s = d i) (hd : ∀ i, i < m → d i < 192) (hb : ∀ s, bit (M s)) : marked τ ty c M M' r := by
  obtain ⟨a1, a2, a3, a4, a5, a6⟩ := hm
  refine ⟨a3, fun s hs => ?_, fun s hs => a2 s (fun i hi e => hs ((hD s).mpr ⟨i, hi, e⟩)), a4, fun hr => ?_, fun s => a6 s (hb s)⟩
  · obtain ⟨i, hi, rfl⟩ := (hD s).mp hs
    exact a1 i hi
  · obtain ⟨i, hi, h9⟩ := a5 hr
    exact ⟨d i, hd i hi, (hD _).mpr ⟨i, hi, rfl⟩, h9⟩
set_option maxRecDepth 100000 in
theorem r_mark {Q : Int32 → rS → Prop} {τ : rS} {M : Nat → Int32} {c : Nat} (ty : Bool) (ok : okC τ c) (hb : ∀ s, bit (M s)) (h : ∀ M' r, marked τ ty c M M' r → Q r (mk τ M')) : R_markAbove_w Q (nI c) (tyI ty) (mk τ M) := by
  obtain ⟨hc, ⟨nF, hnF, eF, hF⟩, hab, nA, hnA, eA, hAn⟩ := ok
  have cc : (nI c).toNatClampNeg = c := nI_clamp (by omega)
  have vc : vp_in (nI c) 16 := vp_in_nI hc (by omega)
  cases ty with
  | true =>
    refine ⟨fun h9 => absurd h9 (by decide), fun _ => ⟨vc, ?_⟩⟩
    show R_markAbove_b26 Q (nI c) (tyI true) 0 (τ.2 15 (nI c).toNatClampNeg) 0 (mk τ M)
    rw [cc, eA]
    obtain ⟨d, hd⟩ : ∃ d : Nat → Nat, ∀ i, i < nA → ∃ p κ, p < 1920 ∧ κ ≤ 12 ∧ d i < 192 ∧ τ.2 16 (4 * c + i) = nI p ∧ τ.2 2 p = nI κ ∧ τ.2 8 (13 * c + κ) = nI (d i) := by
      refine ⟨fun i => (τ.2 8 (13 * c + (τ.2 2 (τ.2 16 (4 * c + i)).toNatClampNeg).toNatClampNeg)).toNatClampNeg, fun i hi => ?_⟩
      obtain ⟨p, κ, s, hp, hκ, hs, e1, e2, e3⟩ := hAn i hi
      refine ⟨p, κ, hp, hκ, ?_, e1, e2, ?_⟩
      · show (τ.2 8 (13 * c + (τ.2 2 (τ.2 16 (4 * c + i)).toNatClampNeg).toNatClampNeg)).toNatClampNeg < 192
        rw [e1, nI_clamp (n := p) (by omega), e2, nI_clamp (n := κ) (by omega), e3, nI_clamp (n := s) (by omega)]; exact hs
      · show _ = nI (τ.2 8 (13 * c + (τ.2 2 (τ.2 16 (4 * c + i)).toNatClampNeg).toNatClampNeg)).toNatClampNeg
        rw [e1, nI_clamp (n := p) (by omega), e2, nI_clamp (n := κ) (by omega), e3, nI_clamp (n := s) (by omega)]
    have hD : ∀ s, dirR τ true c s ↔ ∃ i, i < nA ∧ s = d i := by
      intro s
      constructor
      · rintro ⟨i, n', p, κ, hi, hn4, en, e1, hp, e2, hκ, e3, hs⟩
        have : nA = n' := (nI_eq (by omega) (by omega)).mp (eA.symm.trans en)
        subst this
        obtain ⟨p', κ', hp', hκ', hs', e1', e2', e3'⟩ := hd i hi
        have : p = p' := (nI_eq (by omega) (by omega)).mp (e1.symm.trans e1')
        subst this
        have : κ = κ' := (nI_eq (by omega) (by omega)).mp (e2.symm.trans e2')
        subst this
        exact ⟨i, hi, (nI_eq (by omega) (by omega)).mp (e3.symm.trans e3')⟩
      · rintro ⟨i, hi, rfl⟩
        obtain ⟨p', κ', hp', hκ', hs', e1', e2', e3'⟩ := hd i hi
        exact ⟨i, nA, p', κ', hi, hnA, eA, e1', hp', e2', hκ', e3', hs'⟩
    have hd2 : ∀ i, i < nA → d i < 192 := fun i hi => by obtain ⟨_, _, -, -, h9, -⟩ := hd i hi; exact h9
    refine r_markl (d := d) hnA hd2 hb (fun i hi M' x3 K hk => ⟨fun h9 => absurd h9 (by decide), fun _ => ?_⟩) (fun M' r hm => ⟨fun _ => ⟨bit_zb hm.2.2.1, h M' r (mkd_fin hm hD hd2 hb)⟩, fun h9 => absurd h9 (by decide)⟩)
    obtain ⟨p', κ', hp', hκ', hs', e1', e2', e3'⟩ := hd i hi
    exact r_typeOf (τ := mk τ M') hc (by omega) hp' hκ' e1' e2' e3' hk
  | false =>
    refine ⟨fun _ => ⟨vc, ?_⟩, fun h9 => absurd rfl h9⟩
    show R_markAbove_b26 Q (nI c) (tyI false) 0 (τ.2 13 (nI c).toNatClampNeg) 0 (mk τ M)
    rw [cc, eF]
    obtain ⟨d, hd, hdl⟩ : ∃ d : Nat → Nat, (∀ i, i < nF → d i < 192 ∧ τ.2 14 (4 * c + i) = nI (d i)) ∧ ∀ s, s < 192 → τ.2 11 c = nI s → d nF = s := by
      refine ⟨fun i => if i < nF then (τ.2 14 (4 * c + i)).toNatClampNeg else (τ.2 11 c).toNatClampNeg, fun i hi => ?_, fun s hs e => ?_⟩
      · obtain ⟨s, hs, e⟩ := hF i hi
        show (if i < nF then (τ.2 14 (4 * c + i)).toNatClampNeg else (τ.2 11 c).toNatClampNeg) < 192 ∧ _ = nI (if i < nF then (τ.2 14 (4 * c + i)).toNatClampNeg else (τ.2 11 c).toNatClampNeg)
        rw [if_pos hi, e, nI_clamp (n := s) (by omega)]
        exact ⟨hs, rfl⟩
      · show (if nF < nF then (τ.2 14 (4 * c + nF)).toNatClampNeg else (τ.2 11 c).toNatClampNeg) = s
        rw [if_neg (Nat.lt_irrefl _), e, nI_clamp (n := s) (by omega)]
    have hd2 : ∀ i, i < nF → d i < 192 := fun i hi => (hd i hi).1
    refine r_markl (d := d) hnF hd2 hb (fun i hi M' x3 K hk => ⟨fun _ => ?_, fun h9 => absurd rfl h9⟩) (fun M' r hm => ⟨fun h9 => absurd rfl h9, fun _ => ⟨vc, fun hneg => ?_, fun hpos => ?_⟩⟩)
    · rw [e4, nI_clamp (n := 4 * c + i) (by omega)]
      refine ⟨vp_in_nI (by omega) (by omega), ?_⟩
      show R_markAbove_b58 Q K (nI c) (tyI false) x3 (nI nF) (nI i) (τ.2 14 (4 * c + i)) (mk τ M')
      rw [(hd i hi).2]
      exact hk
    · have hneg : τ.2 11 (nI c).toNatClampNeg < 0 := hneg
      rw [cc] at hneg
      refine ⟨bit_zb hm.2.2.1, h M' r (mkd_fin hm (fun s => ?_) hd2 hb)⟩
      constructor
      · rintro (⟨e, hs⟩ | ⟨i, n', hi, hn4, en, e, hs⟩)
        · rw [e] at hneg; exact absurd hneg (nI_pos (by omega))
        · have : nF = n' := (nI_eq (by omega) (by omega)).mp (eF.symm.trans en)
          subst this
          exact ⟨i, hi, (nI_eq (by omega) (by have := hd2 i hi; omega)).mp (e.symm.trans (hd i hi).2)⟩
      · rintro ⟨i, hi, rfl⟩
        exact Or.inr ⟨i, nF, hi, hnF, eF, (hd i hi).2, hd2 i hi⟩
    · have hpos : ¬ τ.2 11 (nI c).toNatClampNeg < 0 := hpos
      rw [cc] at hpos
      obtain ⟨s0, hs0, es0⟩ : ∃ s, s < 192 ∧ τ.2 11 c = nI s := by
        rcases hab with h9 | h9
        · rw [h9] at hpos; exact absurd (by decide) hpos
        · exact h9
      have hdF : d nF = s0 := hdl s0 hs0 es0
      have hd3 : ∀ i, i < nF + 1 → d i < 192 := fun i hi => by
        rcases Nat.lt_succ_iff_lt_or_eq.mp hi with h9 | h9
        · exact hd2 i h9
        · rw [h9, hdF]; exact hs0
      have hD : ∀ s, dirR τ false c s ↔ ∃ i, i < nF + 1 ∧ s = d i := by
        intro s
        constructor
        · rintro (⟨e, hs⟩ | ⟨i, n', hi, hn4, en, e, hs⟩)
          · exact ⟨nF, Nat.lt_succ_self _, by rw [hdF]; exact (nI_eq (by omega) (by omega)).mp (e.symm.trans es0)⟩
          · have : nF = n' := (nI_eq (by omega) (by omega)).mp (eF.symm.trans en)
            subst this
            exact ⟨i, by omega, (nI_eq (by omega) (by have := hd2 i hi; omega)).mp (e.symm.trans (hd i hi).2)⟩
        · rintro ⟨i, hi, rfl⟩
          rcases Nat.lt_succ_iff_lt_or_eq.mp hi with h9 | h9
          · exact Or.inr ⟨i, nF, h9, hnF, eF, (hd i h9).2, hd2 i h9⟩
          · rw [h9, hdF]; exact Or.inl ⟨es0, hs0⟩
      have cs : (nI s0).toNatClampNeg = s0 := nI_clamp (by omega)
      have vs : vp_in (nI s0) 192 := vp_in_nI hs0 (by omega)
      have go : ∀ r' : Int32, mkd d (nF + 1) M (upd M' s0 1) r' → R_markAbove_b130 Q (nI c) r' (mk τ M') := by
        intro r' hm'
        show vp_in (nI c) 16 ∧ vp_in (τ.2 11 (nI c).toNatClampNeg) 192 ∧ ∀ t : rS, t = rA (mk τ M') 27 (τ.2 11 (nI c).toNatClampNeg) (vp_nar .boolean 1) → R_markAbove_b143 Q r' t
        rw [cc, es0]
        refine ⟨vc, vs, fun t e => ?_⟩
        rw [nar1, mk_rA (by omega)] at e
        subst e
        exact ⟨bit_zb hm'.2.2.1, h _ r' (mkd_fin hm' hD hd3 hb)⟩
      have st := fun r' h1 h0 => by
        have := mkd_step (r' := r') hm hb h1 h0
        rw [hdF] at this
        exact this
      rw [hdF] at st
      show (¬ r = 0 → R_markAbove_b130 Q (nI c) 1 (mk τ M')) ∧ (r = 0 → vp_in (nI c) 16 ∧ vp_in (τ.2 11 (nI c).toNatClampNeg) 192 ∧ (¬ (M' (τ.2 11 (nI c).toNatClampNeg).toNatClampNeg) = 0 → R_markAbove_b130 Q (nI c) (0 : Int32) (mk τ M')) ∧ ((M' (τ.2 11 (nI c).toNatClampNeg).toNatClampNeg) = 0 → R_markAbove_b130 Q (nI c) 1 (mk τ M')))
      rw [cc, es0, cs]
      refine ⟨fun hr => go 1 (st 1 (fun _ => rfl) (fun h9 => absurd h9 hr)), fun hr => ⟨vc, vs, fun hz => go 0 (st 0 (fun h9 => by rw [hr] at h9; exact absurd h9 (by decide)) (fun _ => by rw [if_neg hz])), fun hz => go 1 (st 1 (fun _ => rfl) (fun _ => by rw [if_pos hz]))⟩⟩
