/-- how many of the first n are 0 -/
def cz (M : Nat → Int32) : Nat → Nat
  | 0 => 0
  | n + 1 => cz M n + (if M n = 0 then 1 else 0)
theorem cz_mono {M M' : Nat → Int32} : ∀ n : Nat, (∀ s, s < n → M s ≠ 0 → M' s ≠ 0) → cz M' n ≤ cz M n := by
  intro n
  induction n with
  | zero => intro _; exact Nat.le_refl _
  | succ n ih =>
    intro h
    have h1 := ih (fun s hs => h s (by omega))
    show cz M' n + (if M' n = 0 then 1 else 0) ≤ cz M n + (if M n = 0 then 1 else 0)
    by_cases e : M n = 0
    · rw [if_pos e]; split <;> omega
    · rw [if_neg e, if_neg (h n (Nat.lt_succ_self _) e)]; omega
theorem cz_lt {M M' : Nat → Int32} : ∀ n : Nat, (∀ s, s < n → M s ≠ 0 → M' s ≠ 0) → (∃ s, s < n ∧ M s = 0 ∧ M' s ≠ 0) → cz M' n + 1 ≤ cz M n := by
  intro n
  induction n with
  | zero => rintro _ ⟨s, hs, -⟩; exact absurd hs (Nat.not_lt_zero _)
  | succ n ih =>
    rintro h ⟨s, hs, h1, h2⟩
    show cz M' n + (if M' n = 0 then 1 else 0) + 1 ≤ cz M n + (if M n = 0 then 1 else 0)
    rcases Nat.lt_succ_iff_lt_or_eq.mp hs with h9 | h9
    · have h3 := ih (fun s hs => h s (by omega)) ⟨s, h9, h1, h2⟩
      by_cases e : M n = 0
      · rw [if_pos e]; split <;> omega
      · rw [if_neg e, if_neg (h n (Nat.lt_succ_self _) e)]; omega
    · subst h9
      have h3 := cz_mono (M := M) (M' := M') s (fun s' hs' => h s' (by omega))
      rw [if_pos h1, if_neg h2]; omega
theorem cz_le (M : Nat → Int32) : ∀ n : Nat, cz M n ≤ n := by
  intro n
  induction n with
  | zero => exact Nat.le_refl _
  | succ n ih => show cz M n + (if M n = 0 then 1 else 0) ≤ n + 1; split <;> omega
/-- text t is reached from class c -/
def Reach (τ : rS) (ty : Bool) (C c t : Nat) : Prop := ∀ P : Nat → Prop, (∀ s, dirR τ ty c s → P s) → (∀ d u s, d < C → τ.2 10 d = nI u → u < 192 → P u → dirR τ ty d s → P s) → P t
/-- marks that are right so far, and hold class c's direct types -/
def mInv (τ : rS) (ty : Bool) (C T c : Nat) (M : Nat → Int32) : Prop := (∀ s, bit (M s)) ∧ (∀ s, s < T → M s = 1 → Reach τ ty C c s) ∧ ∀ s, dirR τ ty c s → M s = 1
def mClosed (τ : rS) (ty : Bool) (C : Nat) (M : Nat → Int32) : Prop := ∀ d u s, d < C → τ.2 10 d = nI u → u < 192 → M u = 1 → dirR τ ty d s → M s = 1
set_option maxRecDepth 100000 in
set_option maxHeartbeats 1000000 in
theorem r_reaches {Q : Int32 → rS → Prop} {τ : rS} {C T c t : Nat} (ty : Bool) (hC : C ≤ 16) (hT : T ≤ 192) (e3 : τ.1 3 = nI C) (e5 : τ.1 5 = nI T) (hb0 : ∀ s, bit (τ.2 27 s)) (ok : ∀ d, d < C → okC τ d) (hdT : ∀ d s, d < C → dirR τ ty d s → s < T) (hself : ∀ d, d < C → ∃ u, u < T ∧ τ.2 10 d = nI u) (hc : c < C) (ht : t < T) (h : ∀ M, (∀ s, bit (M s)) → (Reach τ ty C c t → Q 1 (mk τ M)) ∧ (¬ Reach τ ty C c t → Q 0 (mk τ M))) : R_reaches_w Q (nI c) (nI t) (tyI ty) τ := by
  have ct : (nI t).toNatClampNeg = t := nI_clamp (by omega)
  -- the end
  have fin : ∀ M, mInv τ ty C T c M → mClosed τ ty C M → R_reaches_b126 Q (nI t) (mk τ M) := by
    intro M hm hcl
    show vp_in (nI t) 192 ∧ zb (M (nI t).toNatClampNeg) ∧ Q (M (nI t).toNatClampNeg) (mk τ M)
    rw [ct]
    refine ⟨vp_in_nI (by omega) (by omega), bit_zb (hm.1 t), ?_⟩
    by_cases hr : Reach τ ty C c t
    · have : M t = 1 := hr (fun s => M s = 1) hm.2.2 hcl
      rw [this]; exact (h M hm.1).1 hr
    · have : M t = 0 := by
        rcases hm.1 t with h9 | h9
        · exact h9
        · exact absurd (hm.2.1 t ht h9) hr
      rw [this]; exact (h M hm.1).2 hr
  -- the rounds
  have rounds : ∀ (M : Nat → Int32) (r : Int32), mInv τ ty C T c M → bit r → (r = 1 → cz M 192 + 1 ≤ 192) → (r = 0 → mClosed τ ty C M) → R_reaches_b37 Q (nI t) (tyI ty) r 0 (mk τ M) := by
    intro M r hm hr h1 h0
    refine fx_ex (R_reaches_b37_f Q) (fun z => ∃ (j : Nat) (M : Nat → Int32) (r : Int32), j ≤ 193 ∧ z = (nI t, tyI ty, r, nI j, mk τ M) ∧ mInv τ ty C T c M ∧ bit r ∧ (r = 1 → cz M 192 + j + 1 ≤ 192) ∧ (r = 0 → mClosed τ ty C M)) (fun z => 194 - z.2.2.2.1.toNatClampNeg) ?_ _ ⟨0, M, r, by omega, rfl, hm, hr, fun h9 => by have := h1 h9; omega, h0⟩
    rintro K _ ⟨j, M, r, hj, rfl, hm, hr, h1, h0⟩ hK
    show R_reaches_b37_s Q (fun x2 x3 x4 x5 σ => K (x2, x3, x4, x5, σ)) (nI t) (tyI ty) r (nI j) (mk τ M)
    refine ⟨fun h9 => ?_, fun h9 => ⟨fun hz => fin M hm (h0 hz), fun hz => ?_⟩⟩
    · have hj2 := (nI_ltI (a := 192) (b := j) (by omega) (by omega)).mp h9
      rcases hr with hr | hr
      · exact fin M hm (h0 hr)
      · have := h1 hr; omega
    · have hr1 : r = 1 := hr.elim (fun e => absurd e hz) id
      have hcz := h1 hr1
      -- one round
      refine fx_ex (R_reaches_b56_f Q (fun x2 x3 x4 x5 σ => K (x2, x3, x4, x5, σ))) (fun z => ∃ (d : Nat) (M' : Nat → Int32) (r' : Int32), d ≤ C ∧ z = (nI t, tyI ty, r', nI j, nI d, mk τ M') ∧ mInv τ ty C T c M' ∧ bit r' ∧ (r' = 1 → cz M' 192 + 1 ≤ cz M 192) ∧ (r' = 0 → (∀ s, M' s = M s) ∧ ∀ d' u s, d' < d → τ.2 10 d' = nI u → u < 192 → M' u = 1 → dirR τ ty d' s → M' s = 1)) (fun z => 17 - z.2.2.2.2.1.toNatClampNeg) ?_ _ ⟨0, M, 0, by omega, rfl, hm, Or.inl rfl, fun h9 => absurd h9 (by decide), fun _ => ⟨fun _ => rfl, fun d' u s h9 => absurd h9 (Nat.not_lt_zero _)⟩⟩
      rintro K2 _ ⟨d, M', r', hd, rfl, hm', hr', g1, g0⟩ hK2
      show R_reaches_b56_s Q (fun x2 x3 x4 x5 σ => K (x2, x3, x4, x5, σ)) (fun x2 x3 x4 x5 x6 σ => K2 (x2, x3, x4, x5, x6, σ)) (nI t) (tyI ty) r' (nI j) (nI d) (mk τ M')
      refine ⟨fun h8 v ev => ?_, fun h8 => ?_⟩
      · have h8 : τ.1 3 ≤ nI d := h8
        rw [e3] at h8
        have hdC : d = C := by have := (nI_leI (by omega) (by omega)).mp h8; omega
        subst hdC
        rw [nI_1] at ev
        subst ev
        refine hK (nI t, tyI ty, r', nI (j + 1), mk τ M') ⟨j + 1, M', r', ?_, rfl, hm', hr', fun h7 => ?_, fun h7 d' u s q1 q2 q3 q4 q5 => ?_⟩ ?_
        · omega
        · have := g1 h7; omega
        · exact (g0 h7).2 d' u s q1 q2 q3 q4 q5
        · show 194 - (nI (j + 1)).toNatClampNeg < 194 - (nI j).toNatClampNeg
          rw [nI_clamp (by omega), nI_clamp (by omega)]; omega
      · have h8 : ¬ τ.1 3 ≤ nI d := h8
        rw [e3] at h8
        have hdC : d < C := by
          rcases Nat.lt_or_ge d C with h7 | h7
          · exact h7
          · exact absurd (nI_le h7 (by omega)) h8
        obtain ⟨u, huT, eu⟩ := hself d hdC
        have cd : (nI d).toNatClampNeg = d := nI_clamp (by omega)
        have cu : (nI u).toNatClampNeg = u := nI_clamp (by omega)
        -- on to the next class
        have nx : ∀ (M2 : Nat → Int32) (r2 : Int32), mInv τ ty C T c M2 → bit r2 → (r2 = 1 → cz M2 192 + 1 ≤ cz M 192) → (r2 = 0 → (∀ s, M2 s = M s) ∧ ∀ d' u s, d' < d + 1 → τ.2 10 d' = nI u → u < 192 → M2 u = 1 → dirR τ ty d' s → M2 s = 1) → R_reaches_b112 Q (fun x2 x3 x4 x5 σ => K (x2, x3, x4, x5, σ)) (fun x2 x3 x4 x5 x6 σ => K2 (x2, x3, x4, x5, x6, σ)) (nI t) (tyI ty) (nI j) (nI d) r2 (mk τ M2) := by
          intro M2 r2 q1 q2 q3 q4 v ev
          rw [nI_1] at ev
          subst ev
          refine hK2 (nI t, tyI ty, r2, nI j, nI (d + 1), mk τ M2) ⟨d + 1, M2, r2, hdC, rfl, q1, q2, q3, q4⟩ ?_
          show 17 - (nI (d + 1)).toNatClampNeg < 17 - (nI d).toNatClampNeg
          rw [nI_clamp (by omega), nI_clamp (by omega)]; omega
        show vp_in (nI d) 16 ∧ vp_in (τ.2 10 (nI d).toNatClampNeg) 192 ∧ ((M' (τ.2 10 (nI d).toNatClampNeg).toNatClampNeg) = 0 → R_reaches_b94 Q _ _ (nI t) (tyI ty) r' (nI j) (nI d) (mk τ M')) ∧ (¬ (M' (τ.2 10 (nI d).toNatClampNeg).toNatClampNeg) = 0 → R_markAbove_w (fun r84 t84 => (r84 = 0 → R_reaches_b94 Q _ _ (nI t) (tyI ty) r' (nI j) (nI d) t84) ∧ (¬ r84 = 0 → R_reaches_b95 Q _ _ (nI t) (tyI ty) r' (nI j) (nI d) (1 : Int32) t84)) (nI d) (tyI ty) (mk τ M'))
        rw [cd, eu, cu]
        refine ⟨vp_in_nI (by omega) (by omega), vp_in_nI (by omega) (by omega), fun hz9 => ⟨fun q => ?_, fun q => ⟨fun _ => ?_, fun q9 => absurd rfl q9⟩⟩, fun hz9 => ?_⟩
        · have e1 : r' = 1 := hr'.elim (fun e => absurd e q) id
          exact nx M' 1 hm' (Or.inr rfl) (fun _ => g1 e1) (fun h7 => absurd h7 (by decide))
        · refine nx M' 0 hm' (Or.inl rfl) (fun h7 => absurd h7 (by decide)) (fun _ => ⟨(g0 q).1, fun d' u' s q1 q2 q3 q4 q5 => ?_⟩)
          rcases Nat.lt_succ_iff_lt_or_eq.mp q1 with h7 | h7
          · exact (g0 q).2 d' u' s h7 q2 q3 q4 q5
          · subst h7
            have : u' = u := (nI_eq (by omega) (by omega)).mp (q2.symm.trans eu)
            rw [this, hz9] at q4
            exact absurd q4 (by decide)
        · have hu1 : M' u = 1 := (hm'.1 u).elim (fun e => absurd e hz9) id
          refine r_mark ty (ok d hdC) hm'.1 (fun M2 r2 hk => ?_)
          obtain ⟨k1, k2, k3, k4, k5, k6⟩ := hk
          have hm2 : mInv τ ty C T c M2 := by
            refine ⟨k6, fun s hs h7 => ?_, fun s hs => ?_⟩
            · by_cases hds : dirR τ ty d s
              · intro P p1 p2
                exact p2 d u s hdC eu (by omega) (hm'.2.1 u huT hu1 P p1 p2) hds
              · rw [k3 s hds] at h7
                exact hm'.2.1 s hs h7
            · by_cases hds : dirR τ ty d s
              · exact k2 s hds
              · rw [k3 s hds]; exact hm'.2.2 s hs
          have mono : ∀ s, s < 192 → M' s ≠ 0 → M2 s ≠ 0 := by
            intro s _ h7
            by_cases hds : dirR τ ty d s
            · rw [k2 s hds]; decide
            · rw [k3 s hds]; exact h7
          refine ⟨fun q2 => ⟨fun q => ?_, fun q => ⟨fun _ => ?_, fun q9 => absurd rfl q9⟩⟩, fun q2 => ⟨fun q => ?_, fun q => ⟨fun q9 => absurd q9 n1_ne0, fun _ => ?_⟩⟩⟩
          · have e1 : r' = 1 := hr'.elim (fun e => absurd e q) id
            exact nx M2 1 hm2 (Or.inr rfl) (fun _ => Nat.le_trans (Nat.succ_le_succ (cz_mono 192 mono)) (g1 e1)) (fun h7 => absurd h7 (by decide))
          · refine nx M2 0 hm2 (Or.inl rfl) (fun h7 => absurd h7 (by decide)) (fun _ => ⟨fun s => by rw [k4 q2 s]; exact (g0 q).1 s, fun d' u' s q1 q3 q5 q6 q7 => ?_⟩)
            rcases Nat.lt_succ_iff_lt_or_eq.mp q1 with h7 | h7
            · rw [k4 q2 s]
              rw [k4 q2 u'] at q6
              exact (g0 q).2 d' u' s h7 q3 q5 q6 q7
            · subst h7
              exact k2 s q7
          · have e1 : r' = 1 := hr'.elim (fun e => absurd e q) id
            exact nx M2 1 hm2 (Or.inr rfl) (fun _ => Nat.le_trans (Nat.succ_le_succ (cz_mono 192 mono)) (g1 e1)) (fun h7 => absurd h7 (by decide))
          · have e2 : r2 = 1 := k1.elim (fun e => absurd e q2) id
            obtain ⟨s, hs, hds, hz8⟩ := k5 e2
            have := cz_lt (M := M') (M' := M2) 192 mono ⟨s, hs, hz8, by rw [k2 s hds]; decide⟩
            have e0 : cz M' 192 ≤ cz M 192 := cz_mono 192 (fun s _ h7 => by rw [(g0 q).1 s]; exact h7)
            exact nx M2 1 hm2 (Or.inr rfl) (fun _ => by omega) (fun h7 => absurd h7 (by decide))
  -- the clearing
  have key : R_reaches_b3 Q (nI c) (nI t) (tyI ty) 0 (mk τ (τ.2 27)) := by
    refine fx_ex (R_reaches_b3_f Q) (fun z => ∃ (i : Nat) (M : Nat → Int32), i ≤ T ∧ z = (nI c, nI t, tyI ty, nI i, mk τ M) ∧ (∀ s, bit (M s)) ∧ ∀ s, s < i → M s = 0) (fun z => 193 - z.2.2.2.1.toNatClampNeg) ?_ _ ⟨0, τ.2 27, by omega, rfl, hb0, fun s h9 => absurd h9 (Nat.not_lt_zero _)⟩
    rintro K _ ⟨i, M, hi, rfl, hb, hz⟩ hK
    show R_reaches_b3_s Q (fun x1 x2 x3 x4 σ => K (x1, x2, x3, x4, σ)) (nI c) (nI t) (tyI ty) (nI i) (mk τ M)
    refine ⟨fun h9 => ?_, fun h9 => ?_⟩
    · have h9 : τ.1 5 ≤ nI i := h9
      rw [e5] at h9
      have : i = T := by have := (nI_leI (by omega) (by omega)).mp h9; omega
      subst this
      refine r_mark ty (ok c hc) hb (fun M' r hk => ?_)
      obtain ⟨k1, k2, k3, k4, k5, k6⟩ := hk
      refine rounds M' r ⟨k6, fun s hs h7 => ?_, k2⟩ k1 (fun hr => ?_) (fun hr d u s q1 q2 q3 q4 q5 => ?_)
      · by_cases hds : dirR τ ty c s
        · exact fun P p1 _ => p1 s hds
        · rw [k3 s hds, hz s hs] at h7; exact absurd h7 (by decide)
      · obtain ⟨s, hs, hds, hz8⟩ := k5 hr
        have := cz_lt (M := M) (M' := M') 192 (fun s _ h7 => by
          by_cases hds : dirR τ ty c s
          · rw [k2 s hds]; decide
          · rw [k3 s hds]; exact h7) ⟨s, hs, hz8, by rw [k2 s hds]; decide⟩
        have := cz_le M 192
        omega
      · obtain ⟨u', hu', eu'⟩ := hself d q1
        have : u = u' := (nI_eq (by omega) (by omega)).mp (q2.symm.trans eu')
        subst this
        rw [k4 hr, hz u hu'] at q4
        exact absurd q4 (by decide)
    · have h9 : ¬ τ.1 5 ≤ nI i := h9
      rw [e5] at h9
      have hlt : i < T := by
        rcases Nat.lt_or_ge i T with h7 | h7
        · exact h7
        · exact absurd (nI_le h7 (by omega)) h9
      refine ⟨vp_in_nI (by omega) (by omega), fun t9 e9 v ev => ?_⟩
      rw [nar0, mk_rA (by omega)] at e9
      subst e9
      rw [nI_1] at ev
      subst ev
      refine hK (nI c, nI t, tyI ty, nI (i + 1), mk τ (upd M i 0)) ⟨i + 1, upd M i 0, hlt, rfl, fun s => ?_, fun s hs => ?_⟩ ?_
      · by_cases hs : s = i
        · rw [hs, pk_us]; exact Or.inl rfl
        · rw [pk_un hs]; exact hb s
      · by_cases h7 : s = i
        · rw [h7]; exact pk_us
        · rw [pk_un h7]; exact hz s (by omega)
      · show 193 - (nI (i + 1)).toNatClampNeg < 193 - (nI i).toNatClampNeg
        rw [nI_clamp (by omega), nI_clamp (by omega)]; omega
  rw [mk_self] at key
  exact key
