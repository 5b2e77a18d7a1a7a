/-! the reference's marks: reachability as the least closed set -/
/-- the reference with other marks -/
def mk (τ : rS) (M : Nat → Int32) : rS := (τ.1, va_up τ.2 27 M)
theorem mk_rA {τ : rS} {M : Nat → Int32} {i : Nat} (hi : i < 2 ^ 31) (x : Int32) : rA (mk τ M) 27 (nI i) x = mk τ (upd M i x) := by
  unfold rA mk
  rw [nI_clamp hi]
  show (τ.1, va_up (va_up τ.2 27 M) 27 (upd M i x)) = _
  rw [bx_uu]
theorem mk_self (τ : rS) : mk τ (τ.2 27) = τ := by
  unfold mk
  have : va_up τ.2 27 (τ.2 27) = τ.2 := by
    funext j
    unfold va_up
    by_cases h : j = 27
    · rw [if_pos h, h]
    · rw [if_neg h]
  rw [this]
theorem nar1 : vp_nar .boolean 1 = 1 := by decide
theorem nar0 : vp_nar .boolean 0 = 0 := by decide
/-- s is a direct type of class c: of its annotations, or a supertype -/
def dirR (τ : rS) (ty : Bool) (c s : Nat) : Prop := match ty with
  | true => ∃ i nA p κ : Nat, i < nA ∧ nA ≤ 4 ∧ τ.2 15 c = nI nA ∧ τ.2 16 (4 * c + i) = nI p ∧ p < 1920 ∧ τ.2 2 p = nI κ ∧ κ ≤ 12 ∧ τ.2 8 (13 * c + κ) = nI s ∧ s < 192
  | false => (τ.2 11 c = nI s ∧ s < 192) ∨ ∃ i nF : Nat, i < nF ∧ nF ≤ 4 ∧ τ.2 13 c = nI nF ∧ τ.2 14 (4 * c + i) = nI s ∧ s < 192
/-- class c as the marks need it -/
def okC (τ : rS) (c : Nat) : Prop := c < 16 ∧ (∃ nF : Nat, nF ≤ 4 ∧ τ.2 13 c = nI nF ∧ ∀ i, i < nF → ∃ s, s < 192 ∧ τ.2 14 (4 * c + i) = nI s) ∧ (τ.2 11 c = -1 ∨ ∃ s, s < 192 ∧ τ.2 11 c = nI s) ∧ ∃ nA : Nat, nA ≤ 4 ∧ τ.2 15 c = nI nA ∧ ∀ i, i < nA → ∃ p κ s, p < 1920 ∧ κ ≤ 12 ∧ s < 192 ∧ τ.2 16 (4 * c + i) = nI p ∧ τ.2 2 p = nI κ ∧ τ.2 8 (13 * c + κ) = nI s
theorem bit_zb {x : Int32} (h : bit x) : zb x := by rcases h with rfl | rfl <;> rfl
def tyI (ty : Bool) : Int32 := if ty = true then 1 else 0
/-- marks behind the first n of the texts d: those are set; r tells whether one was new -/
def mkd (d : Nat → Nat) (n : Nat) (M M' : Nat → Int32) (r : Int32) : Prop := (∀ i, i < n → M' (d i) = 1) ∧ (∀ s, (∀ i, i < n → s ≠ d i) → M' s = M s) ∧ bit r ∧ (r = 0 → ∀ s, M' s = M s) ∧ (r = 1 → ∃ i, i < n ∧ M (d i) = 0) ∧ ∀ s, bit (M s) → bit (M' s)
theorem mkd_step {d : Nat → Nat} {n : Nat} {M M' : Nat → Int32} {r r' : Int32} (h : mkd d n M M' r) (hb : ∀ s, bit (M s)) (h1 : r = 1 → r' = 1) (h0 : r = 0 → r' = if M' (d n) = 0 then 1 else 0) : mkd d (n + 1) M (upd M' (d n) 1) r' := by
  obtain ⟨a1, a2, a3, a4, a5, a6⟩ := h
  have hbd := a6 (d n) (hb (d n))
  refine ⟨fun i hi => ?_, fun s hs => ?_, ?_, fun hr s => ?_, fun hr => ?_, fun s hs => ?_⟩
  · by_cases e : d i = d n
    · rw [e]; exact pk_us
    · rw [pk_un e]
      exact a1 i (by rcases Nat.lt_succ_iff_lt_or_eq.mp hi with h9 | h9; exact h9; exact absurd (by rw [h9]) e)
  · rw [pk_un (hs n (Nat.lt_succ_self _))]
    exact a2 s (fun i hi => hs i (by omega))
  · rcases a3 with e | e
    · rw [h0 e]; split
      · exact Or.inr rfl
      · exact Or.inl rfl
    · exact Or.inr (h1 e)
  · rcases a3 with e | e
    · have := h0 e
      rw [hr] at this
      have hne : ¬ M' (d n) = 0 := fun h9 => by rw [if_pos h9] at this; exact absurd this (by decide)
      by_cases es : s = d n
      · rw [es, pk_us]
        rw [← a4 e (d n)]
        rcases hbd with h9 | h9
        · exact absurd h9 hne
        · exact h9.symm
      · rw [pk_un es]; exact a4 e s
    · rw [h1 e] at hr; exact absurd hr (by decide)
  · rcases a3 with e | e
    · have := h0 e
      rw [hr] at this
      have hz : M' (d n) = 0 := by
        rcases hbd with h9 | h9
        · exact h9
        · rw [if_neg (by rw [h9]; decide)] at this; exact absurd this (by decide)
      exact ⟨n, Nat.lt_succ_self _, by rw [← a4 e]; exact hz⟩
    · obtain ⟨i, hi, h9⟩ := a5 e
      exact ⟨i, by omega, h9⟩
  · by_cases es : s = d n
    · rw [es, pk_us]; exact Or.inr rfl
    · rw [pk_un es]; exact a6 s hs
set_option maxRecDepth 100000 in
/-- the loop over the row of texts d -/
theorem r_markl {Q : Int32 → rS → Prop} {τ : rS} {M : Nat → Int32} {x1 x2 : Int32} {n : Nat} {d : Nat → Nat} (hn : n ≤ 4) (hd : ∀ i, i < n → d i < 192) (hb : ∀ s, bit (M s))
    (br : ∀ i, i < n → ∀ (M' : Nat → Int32) (x3 : Int32) (K : Int32 → Int32 → Int32 → Int32 → Int32 → rS → Prop), R_markAbove_b58 Q K x1 x2 x3 (nI n) (nI i) (nI (d i)) (mk τ M') → (x2 = 0 → vp_in (((4 : Int32) * x1) + nI i) 64 ∧ R_markAbove_b58 Q K x1 x2 x3 (nI n) (nI i) ((mk τ M').2 14 (((4 : Int32) * x1) + nI i).toNatClampNeg) (mk τ M')) ∧ (¬ x2 = 0 → R_typeOf_w (fun r41 t41 => R_markAbove_b58 Q K x1 x2 x3 (nI n) (nI i) r41 t41) x1 (nI i) (mk τ M')))
    (fin : ∀ (M' : Nat → Int32) (r : Int32), mkd d n M M' r → (¬ x2 = 0 → R_markAbove_b143 Q r (mk τ M')) ∧ (x2 = 0 → vp_in x1 16 ∧ (((mk τ M').2 11 x1.toNatClampNeg) < 0 → R_markAbove_b143 Q r (mk τ M')) ∧ (¬ ((mk τ M').2 11 x1.toNatClampNeg) < 0 → (¬ r = 0 → R_markAbove_b125 Q x1 (mk τ M')) ∧ (r = 0 → vp_in x1 16 ∧ vp_in ((mk τ M').2 11 x1.toNatClampNeg) 192 ∧ (¬ ((mk τ M').2 27 ((mk τ M').2 11 x1.toNatClampNeg).toNatClampNeg) = 0 → R_markAbove_b130 Q x1 (0 : Int32) (mk τ M')) ∧ (((mk τ M').2 27 ((mk τ M').2 11 x1.toNatClampNeg).toNatClampNeg) = 0 → R_markAbove_b125 Q x1 (mk τ M')))))) :
    R_markAbove_b26 Q x1 x2 0 (nI n) 0 (mk τ M) := by
  refine fx_ex (R_markAbove_b26_f Q) (fun z => ∃ (i : Nat) (M' : Nat → Int32) (r : Int32), i ≤ n ∧ z = (x1, x2, r, nI n, nI i, mk τ M') ∧ mkd d i M M' r) (fun z => 5 - z.2.2.2.2.1.toNatClampNeg) ?_ _ ⟨0, M, 0, by omega, rfl, fun i h => absurd h (Nat.not_lt_zero _), fun _ _ => rfl, Or.inl rfl, fun _ _ => rfl, fun h => absurd h (by decide), fun _ h => h⟩
  rintro K _ ⟨i, M', r, hi, rfl, hm⟩ hK
  show R_markAbove_b26_s Q (fun x1 x2 x3 x4 x5 σ => K (x1, x2, x3, x4, x5, σ)) x1 x2 r (nI n) (nI i) (mk τ M')
  refine ⟨fun h => ?_, fun h => ?_⟩
  · have : i = n := by have := (nI_leI (by omega) (by omega)).mp h; omega
    subst this
    exact fin M' r hm
  · have hlt : i < n := by
      rcases Nat.lt_or_ge i n with h9 | h9
      · exact h9
      · exact absurd (nI_le h9 (by omega)) h
    refine br i hlt M' r _ ?_
    have hdi := hd i hlt
    have cd : (nI (d i)).toNatClampNeg = d i := nI_clamp (by omega)
    have vd : vp_in (nI (d i)) 192 := vp_in_nI hdi (by omega)
    have go : ∀ r' : Int32, mkd d (i + 1) M (upd M' (d i) 1) r' → R_markAbove_b79 Q (fun x1 x2 x3 x4 x5 σ => K (x1, x2, x3, x4, x5, σ)) x1 x2 (nI n) (nI i) (nI (d i)) r' (mk τ M') := by
      intro r' hm'
      refine ⟨vd, fun t e v ev => ?_⟩
      rw [nar1, mk_rA (by omega)] at e
      subst e
      rw [nI_1] at ev
      subst ev
      refine hK (x1, x2, r', nI n, nI (i + 1), mk τ (upd M' (d i) 1)) ⟨i + 1, _, r', hlt, rfl, hm'⟩ ?_
      show 5 - (nI (i + 1)).toNatClampNeg < 5 - (nI i).toNatClampNeg
      rw [nI_clamp (by omega), nI_clamp (by omega)]
      omega
    refine ⟨fun hr => go 1 (mkd_step hm hb (fun _ => rfl) (fun h9 => absurd h9 hr)), fun hr => ⟨vd, fun hz => go 0 (mkd_step hm hb (fun h9 => by rw [hr] at h9; exact absurd h9 (by decide)) (fun _ => ?_)), fun hz => go 1 (mkd_step hm hb (fun _ => rfl) (fun _ => ?_))⟩⟩
    · have hz : ¬ M' (nI (d i)).toNatClampNeg = 0 := hz
      rw [cd] at hz
      rw [if_neg hz]
    · have hz : M' (nI (d i)).toNatClampNeg = 0 := hz
      rw [cd] at hz
      rw [if_pos hz]
