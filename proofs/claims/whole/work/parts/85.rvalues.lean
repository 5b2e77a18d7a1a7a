/-! the parse: values, reference side -/
theorem rA_rp (τ : rS) (a r s : Int32) (n : Nat) (i x : Int32) : rA (rp τ a r s) n i x = rp (rA τ n i x) a r s := rfl
theorem isR_rA {τ : rS} {e : Nat} {st : St} {X : rS} (h : isR τ e st X) (n : Nat) (i x : Int32) : isR (rA τ n i x) e st (rA X n i x) := by
  cases st with
  | inl a => obtain ⟨ha, s0, rfl⟩ := h; exact ⟨ha, s0, rfl⟩
  | inr q => obtain ⟨hq, a, rfl⟩ := h; exact ⟨hq, a, rfl⟩
theorem isR_23 {τ : rS} {e : Nat} {st : St} {X : rS} (h : isR τ e st X) : (X.1 23 = 0 → ∃ a, st = .inl a) ∧ (¬ X.1 23 = 0 → ∃ q, st = .inr q) := by
  cases st with
  | inl a => obtain ⟨ha, s0, rfl⟩ := h; exact ⟨fun _ => ⟨a, rfl⟩, fun h9 => absurd rfl h9⟩
  | inr q => obtain ⟨hq, a, rfl⟩ := h; exact ⟨fun h9 => absurd h9 (nI_rq hq), fun _ => ⟨q, rfl⟩⟩
set_option maxHeartbeats 1000000 in
theorem R_one {b : Nat → Nat} {σ : cS} {τ : rS} {B : Nat → Nat} {e c K : Nat} {S : Nat → Nat} (h : PB b σ τ B e c) (hK : TB σ τ c K S) {a d r : Nat} (ha : a ≤ e) (hd : d + r = 5) (hd1 : 1 ≤ d) {l m : Nat → Int32} {s0 : Int32} {Q : Int32 → rS → Prop} (h0 : ∀ X', isR (bk τ l m) e (pv B e K S r (.inl a)) X' → Q 0 X') (h1 : ∀ (r' : Nat) (nd : Bool) (st2 : St) (X' : rS), r = r' + 1 → pv B e K S r (.inl a) = ppc (pv B e K S r') (nms B e K S nd) (lk (am B e 4) st2) → (∀ a2, (lk (am B e 4) st2).2 = .inl a2 → a + 2 ≤ a2) → (lk (am B e 4) st2).1.getD 0 ≤ 4 → isR (bk τ (upd l (d + 1) (nI ((lk (am B e 4) st2).1.getD 0))) (upd m (d + 1) (boI nd))) e (lk (am B e 4) st2).2 X' → Q 1 X') : R_oneValue_w Q (nI d) (rp (bk τ l m) (nI a) 0 s0) := by
  have he := h.he
  intro v ev
  have ev : v = nI a := ev
  subst ev
  by_cases hlt : a < e
  · have hB := h.by_b a hlt
    have ne : ∀ m : Nat, m < 256 → (nI (B a) = nI m ↔ B a = m) := fun m hm => nI_eq (by omega) (by omega)
    refine r_take_ok (τ := bk τ l m) h hlt ⟨fun _ => ⟨fun n5 => ?_, fun h5 => ?_⟩, fun h9 => absurd rfl h9⟩
    · have hd4 : d < 5 := by
        rcases Nat.lt_or_ge d 5 with h7 | h7
        · exact h7
        · have : d = 5 := by omega
          subst this
          exact absurd rfl n5
      obtain ⟨r', rfl⟩ : ∃ r', r = r' + 1 := ⟨r - 1, by omega⟩
      have hpv : pv B e K S (r' + 1) (.inl a) = (if B a = 73 then (lk (kn B e K S 3) (.inl (a + 1))).2 else if B a = 115 then (lk (kn B e K S 1) (.inl (a + 1))).2 else if B a = 99 then (lk (kn B e K S 7) (.inl (a + 1))).2 else if B a = 91 then ppc (pv B e K S r') (nms B e K S false) (lk (am B e 4) (.inl (a + 1))) else if B a = 64 then ppc (pv B e K S r') (nms B e K S true) (lk (am B e 4) (lk (kn B e K S 7) (.inl (a + 1))).2) else .inr (3, a)) := by simp only [pv]; rw [if_pos hlt]
      have hX1 : isR (bk τ l m) e (.inl (a + 1)) (rp (bk τ l m) (nI (a + 1)) 0 s0) := ⟨by omega, s0, rfl⟩
      have one : ∀ s, okS s → pv B e K S (r' + 1) (.inl a) = (lk (kn B e K S s) (.inl (a + 1))).2 → R_constant_w (fun r9 t9 => R_oneValue_b145 Q t9) (nI s) (rp (bk τ l m) (nI (a + 1)) 0 s0) := by
        intro s hs hE
        rw [hE] at h0
        exact R_kn (τ := bk τ l m) h (fun _ _ => hK) hs hX1 (fun v X' hX' _ => h0 X' hX')
      have many : ∀ (nd : Bool) (st2 : St) (X2 : rS), isR (bk τ l m) e st2 X2 → (∀ a2, st2 = .inl a2 → a + 1 ≤ a2 ∧ a2 ≤ e) → pv B e K S (r' + 1) (.inl a) = ppc (pv B e K S r') (nms B e K S nd) (lk (am B e 4) st2) → (nd = true ↔ B a = 64) → R_oneValue_b105 Q (nI d) (nI (B a)) X2 := by
        intro nd st2 X2 hX2 hpl hE hnd
        refine R_am (τ := bk τ l m) (most := 4) h (by omega) hX2 (fun X3 hX3 => ?_)
        rw [nI_1]
        have hn4 : (lk (am B e 4) st2).1.getD 0 ≤ 4 := by
          cases st2 with
          | inr q => exact Nat.zero_le _
          | inl a2 =>
            cases h1 : am B e 4 a2 with
            | inr q => rw [lk_0 h1]; exact Nat.zero_le _
            | inl p => rw [lk_1 (v := p.1) (a' := p.2) h1]; have := am_B (v := p.1) (a' := p.2) h1; show p.1 ≤ 4; omega
        have hpl2 : ∀ a2, (lk (am B e 4) st2).2 = .inl a2 → a + 2 ≤ a2 := by
          intro a2 h9
          obtain ⟨a3, v, e1, h8, -⟩ := lk_ok h9
          have := hpl a3 e1
          have := (gd_am B e 4 a3 this.2).1 _ _ h8
          omega
        generalize hn : (lk (am B e 4) st2).1.getD 0 = n at hn4 h1 ⊢
        have h4 := isR_rA hX3 25 (nI (d + 1)) (nI n)
        rw [bk_25 (by omega)] at h4
        refine ⟨vp_in_nI (by omega) (by omega), fun t117 e117 => ?_⟩
        rw [← e117] at h4
        refine ⟨fun h64 => ⟨vp_in_nI (by omega) (by omega), fun t et => ?_⟩, fun h64 => ⟨vp_in_nI (by omega) (by omega), fun t et => ?_⟩⟩
        · have h5 := isR_rA h4 26 (nI (d + 1)) 0
          rw [bk_26 (by omega)] at h5
          rw [nar0] at et
          rw [← et] at h5
          have : nd = false := by
            cases hnd' : nd with
            | false => rfl
            | true => exact absurd ((ne 64 (by omega)).mpr (hnd.mp hnd')) h64
          subst this
          exact h1 r' false st2 t rfl hE hpl2 (by rw [hn]; exact hn4) (by rw [hn]; exact h5)
        · have h5 := isR_rA h4 26 (nI (d + 1)) 1
          rw [bk_26 (by omega)] at h5
          rw [nar1] at et
          rw [← et] at h5
          have : nd = true := hnd.mpr ((ne 64 (by omega)).mp h64)
          subst this
          exact h1 r' true st2 t rfl hE hpl2 (by rw [hn]; exact hn4) (by rw [hn]; exact h5)
      refine ⟨fun n73 => ⟨fun n115 => ⟨fun n99 => ⟨fun h91 => ?_, fun n91 => ⟨fun n64 => ?_, fun h64 => ?_⟩⟩, fun h99 => ?_⟩, fun h115 => ?_⟩, fun h73 => ?_⟩
      · have hb : B a = 91 := (ne 91 (by omega)).mp h91
        refine ⟨fun _ => many false (.inl (a + 1)) _ hX1 (fun a2 e2 => by cases e2; omega) ?_ ⟨fun h9 => (by cases h9), fun h9 => by omega⟩, fun h64 => ?_⟩
        · rw [hpv, if_neg (by omega), if_neg (by omega), if_neg (by omega), if_pos hb]
        · have := (ne 64 (by omega)).mp h64
          omega
      · have hE : pv B e K S (r' + 1) (.inl a) = .inr (3, a) := by rw [hpv, if_neg (fun q => n73 ((ne 73 (by omega)).mpr q)), if_neg (fun q => n115 ((ne 115 (by omega)).mpr q)), if_neg (fun q => n99 ((ne 99 (by omega)).mpr q)), if_neg (fun q => n91 ((ne 91 (by omega)).mpr q)), if_neg (fun q => n64 ((ne 64 (by omega)).mpr q))]
        rw [hE] at h0
        exact r_fail_ok (h0 _ ⟨⟨Nat.le_of_ble_eq_true rfl, Nat.le_of_ble_eq_true rfl, ha⟩, _, rfl⟩)
      · have hb : B a = 64 := (ne 64 (by omega)).mp h64
        refine ⟨fun h9 => absurd h64 h9, fun _ => ?_⟩
        refine R_kn (τ := bk τ l m) (s := 7) h (fun _ _ => hK) (Or.inr (Or.inr rfl)) hX1 (fun v X2 hX2 _ => many true _ X2 hX2 (fun a2 e2 => ?_) ?_ ⟨fun _ => hb, fun _ => rfl⟩)
        · obtain ⟨a3, v, e1, h8, -⟩ := lk_ok e2
          cases e1
          have := (gd_kn B e K S 7 (a + 1) (by omega)).1 _ _ h8
          omega
        · rw [hpv, if_neg (by omega), if_neg (by omega), if_neg (by omega), if_neg (by omega), if_pos hb]
      · have hb : B a = 99 := (ne 99 (by omega)).mp h99
        exact one 7 (Or.inr (Or.inr rfl)) (by rw [hpv, if_neg (by omega), if_neg (by omega), if_pos hb])
      · have hb : B a = 115 := (ne 115 (by omega)).mp h115
        exact one 1 (Or.inl rfl) (by rw [hpv, if_neg (by omega), if_pos hb])
      · have hb : B a = 73 := (ne 73 (by omega)).mp h73
        exact one 3 (Or.inr (Or.inl rfl)) (by rw [hpv, if_pos hb])
    · have : d = 5 := (nI_eq (b := 5) (by omega) (by omega)).mp h5
      have hr : r = 0 := by omega
      subst hr
      have hE : pv B e K S 0 (.inl a) = .inr (7, a) := by simp only [pv]; rw [if_pos hlt]
      rw [hE] at h0
      exact r_fail_ok (h0 _ ⟨⟨Nat.le_of_ble_eq_true rfl, Nat.le_of_ble_eq_true rfl, ha⟩, _, rfl⟩)
  · have : a = e := by omega
    subst this
    have hE : pv B a K S r (.inl a) = .inr (1, a) := by cases r <;> (simp only [pv]; rw [if_neg hlt])
    rw [hE] at h0
    exact r_take_end (τ := bk τ l m) h ⟨fun h9 => absurd (show nI 1 = 0 from h9) (by decide), fun _ => h0 _ ⟨⟨Nat.le_of_ble_eq_true rfl, Nat.le_of_ble_eq_true rfl, ha⟩, _, rfl⟩⟩
/-- what the open rows still ask for -/
def pS (B : Nat → Nat) (e K : Nat) (S : Nat → Nat) (ln : Nat → Nat) (nd : Nat → Bool) : Nat → St → St
  | 0, st => st
  | d + 1, st => pS B e K S ln nd d (pps (pv B e K S (5 - (d + 1))) (nms B e K S (nd (d + 1))) (ln (d + 1)) st)
theorem pS_f (B : Nat → Nat) (e K : Nat) (S : Nat → Nat) (ln : Nat → Nat) (nd : Nat → Bool) (q : Nat × Nat) : ∀ d, pS B e K S ln nd d (.inr q) = .inr q := by
  intro d
  induction d with
  | zero => rfl
  | succ d ih =>
    show pS B e K S ln nd d (pps (pv B e K S (5 - (d + 1))) (nms B e K S (nd (d + 1))) (ln (d + 1)) (.inr q)) = .inr q
    rw [(stp_pps (stp_pv B e K S _) (stp_nms B e K S _) _).1]
    exact ih
theorem pS_up (B : Nat → Nat) (e K : Nat) (S : Nat → Nat) (ln ln' : Nat → Nat) (nd nd' : Nat → Bool) : ∀ d st, (∀ j, j ≤ d → ln' j = ln j ∧ nd' j = nd j) → pS B e K S ln' nd' d st = pS B e K S ln nd d st := by
  intro d
  induction d with
  | zero => intro st _; rfl
  | succ d ih =>
    intro st hj
    show pS B e K S ln' nd' d (pps (pv B e K S (5 - (d + 1))) (nms B e K S (nd' (d + 1))) (ln' (d + 1)) st) = pS B e K S ln nd d (pps (pv B e K S (5 - (d + 1))) (nms B e K S (nd (d + 1))) (ln (d + 1)) st)
    rw [(hj (d + 1) (Nat.le_refl _)).1, (hj (d + 1) (Nat.le_refl _)).2]
    exact ih _ (fun j h => hj j (by omega))
def mu (e : Nat) (z : Int32 × rS) : Nat := if z.2.1 23 = 0 then 2 * (e - (z.2.1 21).toNatClampNeg) + z.1.toNatClampNeg + 1 else 0
theorem mu_ok (e : Nat) {τ : rS} {a d : Nat} {s0 : Int32} (ha : a < 2 ^ 31) (hd : d < 2 ^ 31) : mu e (nI d, rp τ (nI a) 0 s0) = 2 * (e - a) + d + 1 := by
  unfold mu
  rw [if_pos (show (rp τ (nI a) 0 s0).1 23 = 0 from rfl)]
  show 2 * (e - (nI a).toNatClampNeg) + (nI d).toNatClampNeg + 1 = _
  rw [nI_clamp ha, nI_clamp hd]
theorem mu_lt {e : Nat} {τ : rS} {st : St} {X : rS} {d N : Nat} (hd : d < 2 ^ 31) (he : e < 2 ^ 31) (h : isR τ e st X) (hN : 0 < N) (hlt : ∀ a, st = .inl a → 2 * (e - a) + d + 1 < N) : mu e (nI d, X) < N := by
  cases st with
  | inl a =>
    obtain ⟨ha, s0, rfl⟩ := h
    rw [mu_ok e (by omega) hd]
    exact hlt a rfl
  | inr q =>
    obtain ⟨hq, a, rfl⟩ := h
    unfold mu
    rw [if_neg (show ¬ (rp τ a (nI q.1) (nI q.2)).1 23 = 0 from nI_rq hq)]
    exact hN
set_option maxHeartbeats 1000000 in
theorem R_vals {b : Nat → Nat} {σ : cS} {τ : rS} {B : Nat → Nat} {e c K : Nat} {S : Nat → Nat} (h : PB b σ τ B e c) {st : St} (hK : ∀ a, st = .inl a → TB σ τ c K S) {n : Nat} (hn : n ≤ 4) {l m : Nat → Int32} {X : rS} (hX : isR (bk τ l m) e st X) {Q : rS → Prop} (hQ : ∀ l' m' X', isR (bk τ l' m') e (pps (pv B e K S 4) (nms B e K S true) n st) X' → Q X') : R_values_w Q (nI n) X := by
  have he := h.he
  intro t8 e8 t15 e15
  have h8 := isR_rA hX 25 (nI 1) (nI n)
  rw [bk_25 (by omega)] at h8
  have e8 : t8 = rA X 25 (nI 1) (nI n) := e8
  rw [← e8] at h8
  have h15 := isR_rA h8 26 (nI 1) 1
  rw [bk_26 (by omega)] at h15
  rw [nar1] at e15
  have e15 : t15 = rA t8 26 (nI 1) 1 := e15
  rw [← e15] at h15
  refine fx_ex (R_values_b16_f Q) (fun z => ∃ (d : Nat) (su : St) (l m : Nat → Int32) (ln : Nat → Nat) (nd : Nat → Bool) (Y : rS), z = (nI d, Y) ∧ d ≤ 5 ∧ isR (bk τ l m) e su Y ∧ (∀ j, j ≤ d → 1 ≤ j → ln j ≤ 4 ∧ l j = nI (ln j) ∧ m j = boI (nd j)) ∧ pS B e K S ln nd d su = pps (pv B e K S 4) (nms B e K S true) n st ∧ (∀ a, su = .inl a → ∃ a, st = .inl a)) (mu e) ?_ _ ?_
  · rintro K0 _ ⟨d, su, l, m, ln, nd, Y, rfl, hd, hY, hst, hpS, hok⟩ hK0
    show R_values_b16_s Q (fun x2 σ => K0 (x2, σ)) (nI d) Y
    refine ⟨fun h9 => ?_, fun h9 => ⟨fun h8 => ?_, fun h8 => ?_⟩⟩
    · have : d = 0 := by
        have := (nI_leI (a := d) (b := 0) (by omega) (by omega)).mp h9
        omega
      subst this
      exact hQ l m Y (by rw [← hpS]; exact hY)
    · obtain ⟨q, rfl⟩ := (isR_23 hY).2 h8
      rw [pS_f] at hpS
      exact hQ l m Y (by rw [← hpS]; exact hY)
    · obtain ⟨a, rfl⟩ := (isR_23 hY).1 h8
      obtain ⟨a0, ea0⟩ := hok a rfl
      have hTB := hK a0 ea0
      obtain ⟨ha, s0, rfl⟩ := hY
      obtain ⟨d', rfl⟩ : ∃ d', d = d' + 1 := by
        cases d with
        | zero => exact absurd (nI_le (a := 0) (Nat.le_refl _) (by omega)) h9
        | succ d' => exact ⟨d', rfl⟩
      obtain ⟨hl4, hlj, hmj⟩ := hst (d' + 1) (Nat.le_refl _) (by omega)
      have hm := mu_ok e (τ := bk τ l m) (s0 := s0) (a := a) (d := d' + 1) (by omega) (by omega)
      have cd : (nI (d' + 1)).toNatClampNeg = d' + 1 := nI_clamp (by omega)
      show vp_in (nI (d' + 1)) 7 ∧ (¬ l (nI (d' + 1)).toNatClampNeg = 0 → vp_in (nI (d' + 1)) 7 ∧ vp_in (nI (d' + 1)) 7 ∧ ∀ t51 : rS, t51 = rA (rp (bk τ l m) (nI a) 0 s0) 25 (nI (d' + 1)) (l (nI (d' + 1)).toNatClampNeg - (1 : Int32)) → vp_in (nI (d' + 1)) 7 ∧ ((t51.2 26 (nI (d' + 1)).toNatClampNeg) = 0 → R_values_b67 Q (fun x2 σ => K0 (x2, σ)) (nI (d' + 1)) t51) ∧ (¬ (t51.2 26 (nI (d' + 1)).toNatClampNeg) = 0 → R_constant_w (fun r63 t63 => R_values_b67 Q (fun x2 σ => K0 (x2, σ)) (nI (d' + 1)) t63) (1 : Int32) t51)) ∧ (l (nI (d' + 1)).toNatClampNeg = 0 → ∀ v36 : Int32, v36 = nI (d' + 1) + (-1 : Int32) → K0 (v36, rp (bk τ l m) (nI a) 0 s0))
      rw [cd, hlj]
      have hv7 : vp_in (nI (d' + 1)) 7 := vp_in_nI (by omega) (by omega)
      refine ⟨hv7, fun h7 => ⟨hv7, hv7, fun t51 e51 => ?_⟩, fun h7 v ev => ?_⟩
      · obtain ⟨p, hp⟩ : ∃ p, ln (d' + 1) = p + 1 := by
          cases hp : ln (d' + 1) with
          | zero => rw [hp] at h7; exact absurd rfl h7
          | succ p => exact ⟨p, rfl⟩
        rw [hp, nI_pred, rA_rp, bk_25 (by omega)] at e51
        have hpS : pS B e K S ln nd d' (pps (pv B e K S (5 - (d' + 1))) (nms B e K S (nd (d' + 1))) (ln (d' + 1)) (.inl a)) = _ := hpS
        rw [hp] at hpS
        have hpS : pS B e K S ln nd d' (pps (pv B e K S (5 - (d' + 1))) (nms B e K S (nd (d' + 1))) p (pv B e K S (5 - (d' + 1)) (nms B e K S (nd (d' + 1)) (.inl a)))) = _ := hpS
        have hpS2 : ∀ (ln' : Nat → Nat) (nd' : Nat → Bool), (∀ j, j ≤ d' → ln' j = ln j ∧ nd' j = nd j) → ln' (d' + 1) = p → nd' (d' + 1) = nd (d' + 1) → ∀ su, pS B e K S ln' nd' (d' + 1) su = pS B e K S ln nd d' (pps (pv B e K S (5 - (d' + 1))) (nms B e K S (nd (d' + 1))) p su) := by
          intro ln' nd' hj e1 e2 su
          show pS B e K S ln' nd' d' (pps (pv B e K S (5 - (d' + 1))) (nms B e K S (nd' (d' + 1))) (ln' (d' + 1)) su) = _
          rw [e1, e2]
          exact pS_up B e K S ln ln' nd nd' d' _ hj
        have b67 : ∀ (su : St) (Y1 : rS), isR (bk τ (upd l (d' + 1) (nI p)) m) e su Y1 → su = nms B e K S (nd (d' + 1)) (.inl a) → R_values_b67 Q (fun x2 σ => K0 (x2, σ)) (nI (d' + 1)) Y1 := by
          intro su Y1 hY1 hsu
          have hsu2 := (stp_nms B e K S (nd (d' + 1))).2 a
          rw [← hsu] at hpS hsu2
          refine ⟨fun h6 => ?_, fun h6 => ?_⟩
          · obtain ⟨q, rfl⟩ := (isR_23 hY1).2 h6
            refine hK0 (nI (d' + 1), Y1) ⟨d' + 1, .inr q, upd l (d' + 1) (nI p), m, va_up ln (d' + 1) p, nd, Y1, rfl, hd, hY1, fun j hj hj1 => ?_, ?_, fun a ea => (by cases ea)⟩ ?_
            · by_cases hjd : j = d' + 1
              · subst hjd
                rw [va_up_self, pk_us]
                exact ⟨by omega, rfl, hmj⟩
              · rw [va_up_ne _ _ hjd, pk_un hjd]
                exact hst j hj hj1
            · rw [pS_f, ← hpS, pv_f, (stp_pps (stp_pv B e K S _) (stp_nms B e K S _) _).1, pS_f]
            · rw [hm]
              exact mu_lt (by omega) (by omega) hY1 (by omega) (fun a ea => by cases ea)
          · obtain ⟨a1, rfl⟩ := (isR_23 hY1).1 h6
            obtain ⟨ha1, s1, rfl⟩ := hY1
            have ga := hsu2 a1 ha rfl
            refine R_one (d := d' + 1) (r := 5 - (d' + 1)) h hTB ha1 (by omega) (by omega) (fun X' hX' => ⟨fun _ => ?_, fun h5 => absurd rfl h5⟩) (fun r' nd1 st2 X' hr hE hpl hn4 hX' => ⟨fun h5 => absurd h5 n1_ne0, fun _ v82 e82 => ?_⟩)
            · refine hK0 (nI (d' + 1), X') ⟨d' + 1, _, upd l (d' + 1) (nI p), m, va_up ln (d' + 1) p, nd, X', rfl, hd, hX', fun j hj hj1 => ?_, ?_, fun _ _ => ⟨a0, ea0⟩⟩ ?_
              · by_cases hjd : j = d' + 1
                · subst hjd
                  rw [va_up_self, pk_us]
                  exact ⟨by omega, rfl, hmj⟩
                · rw [va_up_ne _ _ hjd, pk_un hjd]
                  exact hst j hj hj1
              · rw [hpS2 _ nd (fun j hj => ⟨va_up_ne _ _ (by omega), rfl⟩) (va_up_self _ _ _) rfl]
                exact hpS
              · rw [hm]
                refine mu_lt (by omega) (by omega) hX' (by omega) (fun a2 ea => ?_)
                have := (stp_pv B e K S (5 - (d' + 1))).2 a1 a2 ha1 ea
                omega
            · rw [nI_1] at e82
              subst e82
              refine hK0 (nI (d' + 1 + 1), X') ⟨d' + 1 + 1, (lk (am B e 4) st2).2, _, _, va_up (va_up ln (d' + 1) p) (d' + 1 + 1) ((lk (am B e 4) st2).1.getD 0), va_up nd (d' + 1 + 1) nd1, X', rfl, by omega, hX', fun j hj hj1 => ?_, ?_, fun _ _ => ⟨a0, ea0⟩⟩ ?_
              · by_cases hjd : j = d' + 1 + 1
                · subst hjd
                  rw [va_up_self, va_up_self, pk_us, pk_us]
                  exact ⟨hn4, rfl, rfl⟩
                · rw [va_up_ne _ _ hjd, va_up_ne _ _ hjd, pk_un hjd, pk_un hjd]
                  by_cases hjd : j = d' + 1
                  · subst hjd
                    rw [va_up_self, pk_us]
                    exact ⟨by omega, rfl, hmj⟩
                  · rw [va_up_ne _ _ hjd, pk_un hjd]
                    exact hst j (by omega) hj1
              · show pS B e K S _ _ (d' + 1) (pps (pv B e K S (5 - (d' + 1 + 1))) (nms B e K S (va_up nd (d' + 1 + 1) nd1 (d' + 1 + 1))) (va_up (va_up ln (d' + 1) p) (d' + 1 + 1) ((lk (am B e 4) st2).1.getD 0) (d' + 1 + 1)) (lk (am B e 4) st2).2) = _
                rw [va_up_self, va_up_self, hpS2 _ _ (fun j hj => ⟨by rw [va_up_ne _ _ (by omega), va_up_ne _ _ (by omega)], va_up_ne _ _ (by omega)⟩) (by rw [va_up_ne _ _ (by omega), va_up_self]) (va_up_ne _ _ (by omega)), show 5 - (d' + 1 + 1) = r' by omega]
                rw [hE] at hpS
                exact hpS
              · rw [hm]
                refine mu_lt (by omega) (by omega) hX' (by omega) (fun a2 ea => ?_)
                have := hpl a2 ea
                have hle : a2 ≤ e := by rw [ea] at hX'; exact hX'.1
                omega
        have hX51 : isR (bk τ (upd l (d' + 1) (nI p)) m) e (.inl a) t51 := ⟨ha, s0, e51⟩
        have h26 : t51.2 26 (d' + 1) = boI (nd (d' + 1)) := by rw [e51]; exact hmj
        refine ⟨hv7, fun h6 => ?_, fun h6 => ?_⟩
        · cases hb : nd (d' + 1) with
          | true => rw [h26, hb] at h6; exact absurd h6 n1_ne0
          | false => exact b67 (.inl a) t51 hX51 (by rw [hb]; rfl)
        · cases hb : nd (d' + 1) with
          | false => rw [h26, hb] at h6; exact absurd rfl h6
          | true => exact R_kn (τ := bk τ (upd l (d' + 1) (nI p)) m) (s := 1) h (fun _ _ => hTB) (Or.inl rfl) hX51 (fun v X' hX' _ => b67 _ X' hX' (by rw [hb]; rfl))
      · rw [pk_m1] at ev
        subst ev
        have hz : ln (d' + 1) = 0 := (nI_eq (b := 0) (by omega) (by omega)).mp h7
        refine hK0 (nI d', rp (bk τ l m) (nI a) 0 s0) ⟨d', .inl a, l, m, ln, nd, _, rfl, by omega, ⟨ha, s0, rfl⟩, fun j hj hj1 => hst j (by omega) hj1, ?_, hok⟩ ?_
        · have hpS : pS B e K S ln nd d' (pps (pv B e K S (5 - (d' + 1))) (nms B e K S (nd (d' + 1))) (ln (d' + 1)) (.inl a)) = _ := hpS
          rw [hz] at hpS
          exact hpS
        · rw [hm, mu_ok e (by omega) (by omega)]
          omega
  · refine ⟨1, st, _, _, fun _ => n, fun _ => true, t15, rfl, by omega, h15, fun j hj hj1 => ?_, rfl, fun a ea => ⟨a, ea⟩⟩
    have : j = 1 := by omega
    subst this
    exact ⟨hn, pk_us, pk_us⟩
