theorem ck_ck (σ : cS) (a b c d : Nat → Int32) : ck (ck σ a b) c d = ck σ c d := by
  unfold ck
  show (σ.1, va_up (va_up (va_up (va_up σ.2.1 4 a) 5 b) 4 c) 5 d, σ.2.2) = _
  have : va_up (va_up (va_up (va_up σ.2.1 4 a) 5 b) 4 c) 5 d = va_up (va_up σ.2.1 4 c) 5 d := by
    funext j
    unfold va_up
    by_cases h5 : j = 5
    · simp [h5]
    · by_cases h4 : j = 4
      · simp [h4]
      · simp [h4, h5]
  rw [this]
theorem mk_mk (τ : rS) (M M' : Nat → Int32) : mk (mk τ M) M' = mk τ M' := by
  unfold mk
  show (τ.1, va_up (va_up τ.2 27 M) 27 M') = _
  rw [bx_uu]
theorem Rel_ckmk {b : Nat → Nat} {k : Nat → ClassId} {σ : cS} {τ : rS} (hR : Rel b k σ τ) (qu qd : Nat → Int32) {M : Nat → Int32} (hb : ∀ s, bit (M s)) : Rel b k (ck σ qu qd) (mk τ M) := by
  obtain ⟨⟨n, h1, h2, h3, h4, -⟩, hc⟩ := hR
  exact ⟨⟨n, h1, h2, h3, h4, hb⟩, hc⟩
theorem Rel_bits {b : Nat → Nat} {k : Nat → ClassId} {σ : cS} {τ : rS} (hR : Rel b k σ τ) : ∀ s, bit (τ.2 27 s) := by
  obtain ⟨⟨n, -, -, -, -, hb⟩, -⟩ := hR
  exact hb
/-- both searches end with the same bit -/
theorem both_reach {b : Nat → Nat} {k : Nat → ClassId} {σ : cS} {τ : rS} (ty : Bool) (hR : Rel b k σ τ) {C T c t : Nat} (hC : C ≤ 16) (hT : T ≤ 192) (eC : τ.1 3 = nI C) (eT : τ.1 5 = nI T) (hc : c < C) (ht : t < T) : (∀ (Q : Int32 → cS → Prop) (qu0 qd0 : Nat → Int32), (∀ qu qd, (Reach τ ty C c t → Q 1 (ck σ qu qd)) ∧ (¬ Reach τ ty C c t → Q 0 (ck σ qu qd))) → C_X1_leadsTo_w b k Q (nI c) (nI t) (tyI ty) (ck σ qu0 qd0)) ∧ ∀ (Q : Int32 → rS → Prop) (M0 : Nat → Int32), (∀ s, bit (M0 s)) → (∀ M, (∀ s, bit (M s)) → (Reach τ ty C c t → Q 1 (mk τ M)) ∧ (¬ Reach τ ty C c t → Q 0 (mk τ M))) → R_reaches_w Q (nI c) (nI t) (tyI ty) (mk τ M0) := by
  refine ⟨fun Q qu0 qd0 h => ?_, fun Q M0 hM0 h => ?_⟩
  · have hR' : Rel b k (ck σ qu0 qd0) τ := by
      have := Rel_ckmk hR qu0 qd0 (Rel_bits hR)
      rw [mk_self] at this
      exact this
    refine c_leads ty hR' hC hT eC eT hc ht (fun qu qd => ?_)
    rw [ck_ck]
    exact h qu qd
  · refine r_reaches (τ := mk τ M0) (C := C) (T := T) ty hC hT eC eT hM0 (fun d hd => (cf_dir hR ty hC hT eC eT hd).1) (fun d s hd => (cf_dir hR ty hC hT eC eT hd).2.1 s) (fun d hd => self_at hR hC hT eC eT hd) hc ht (fun M hM => ?_)
    rw [mk_mk]
    exact h M hM
theorem c_there {b : Nat → Nat} {k : Nat → ClassId} {Q : Int32 → cS → Prop} {x y : Int32} {σ : cS} {C T : Nat} (hC : C ≤ 16) (hT : T ≤ 192) (e1 : σ.1 2 = nI C) (e2 : σ.1 1 = nI T) (h0 : ¬ (vp_in x C ∧ vp_in y T) → Q 0 σ) (h1 : vp_in x C ∧ vp_in y T → Q 1 σ) : C_X6_areThere_w b k Q x y σ := by
  refine c_has1 (n := C) (by omega) e1 (fun h9 => ⟨fun _ => ⟨zb0, h0 (fun q => h9 q.1)⟩, fun q => absurd rfl q⟩) (fun j hj ej => ⟨fun q => absurd q n1_ne0, fun _ => c_has4 (n := T) (by omega) e2 (fun h9 => ⟨fun _ => ⟨zb0, h0 (fun q => h9 q.2)⟩, fun q => absurd rfl q⟩) (fun i hi ei => ⟨fun q => absurd q n1_ne0, fun _ => ⟨zb1, h1 ⟨?_, ?_⟩⟩⟩)⟩)
  · rw [ej]; exact vp_in_nI hj (by omega)
  · rw [ei]; exact vp_in_nI hi (by omega)
theorem r_there {Q : Int32 → rS → Prop} {F : rS → Prop} {x y : Int32} {τ : rS} {C T : Nat} (hC : C ≤ 16) (hT : T ≤ 192) (e1 : τ.1 3 = nI C) (e2 : τ.1 5 = nI T) (h0 : ¬ (vp_in x C ∧ vp_in y T) → Q 0 τ) (h1 : vp_in x C ∧ vp_in y T → F τ) : R_isClass_w (fun r2 t2 => (r2 = 0 → zb 0 ∧ Q 0 t2) ∧ (¬ r2 = 0 → R_isText_w (fun r10 t10 => (r10 = 0 → zb 0 ∧ Q 0 t10) ∧ (¬ r10 = 0 → F t10)) y t2)) x τ := by
  refine r_isClass (n := C) (by omega) e1 (fun h9 => ⟨fun _ => ⟨zb0, h0 (fun q => h9 q.1)⟩, fun q => absurd rfl q⟩) (fun j hj ej => ⟨fun q => absurd q n1_ne0, fun _ => r_isText (n := T) (by omega) e2 (fun h9 => ⟨fun _ => ⟨zb0, h0 (fun q => h9 q.2)⟩, fun q => absurd rfl q⟩) (fun i hi ei => ⟨fun q => absurd q n1_ne0, fun _ => h1 ⟨?_, ?_⟩⟩)⟩)
  · rw [ej]; exact vp_in_nI hj (by omega)
  · rw [ei]; exact vp_in_nI hi (by omega)
/-- subtype and meta -/
theorem sim_reach {b : Nat → Nat} {k : Nat → ClassId} (ty : Bool) (x y : Int32) {Cw : (Int32 → cS → Prop) → cS → Prop} {Rw : (Int32 → rS → Prop) → rS → Prop}
    (hc : ∀ Q σ, C_X6_areThere_w b k (fun r3 t3 => (r3 = 0 → zb 0 ∧ Q 0 t3) ∧ (¬ r3 = 0 → C_X1_leadsTo_w b k (fun r16 t16 => (r16 = 0 → zb 0 ∧ Q 0 t16) ∧ (¬ r16 = 0 → zb 1 ∧ Q 1 t16)) x y (tyI ty) t3)) x y σ → Cw Q σ)
    (hr : ∀ Q τ, R_isClass_w (fun r2 t2 => (r2 = 0 → zb 0 ∧ Q 0 t2) ∧ (¬ r2 = 0 → R_isText_w (fun r10 t10 => (r10 = 0 → zb 0 ∧ Q 0 t10) ∧ (¬ r10 = 0 → R_reaches_w (fun r20 t20 => (r20 = 0 → zb 0 ∧ Q 0 t20) ∧ (¬ r20 = 0 → zb 1 ∧ Q 1 t20)) x y (tyI ty) t10)) y t2)) x τ → Rw Q τ) : SimI (Rel b k) Cw Rw := by
  intro σ τ hR
  obtain ⟨C, T, hC, hT, e1, e2, e3, e4⟩ := Rel_counts hR
  by_cases hv : vp_in x C ∧ vp_in y T
  · obtain ⟨c, hcC, rfl⟩ := vp_in_of hv.1 (by omega)
    obtain ⟨t, htT, rfl⟩ := vp_in_of hv.2 (by omega)
    obtain ⟨h1, h2⟩ := both_reach ty hR hC hT e2 e4 hcC htT
    refine ⟨fun r σ' => (∃ qu qd, σ' = ck σ qu qd) ∧ ((r = 1 ∧ Reach τ ty C c t) ∨ (r = 0 ∧ ¬ Reach τ ty C c t)), fun Q hQ => hc Q σ (c_there hC hT e1 e3 (fun h9 => absurd hv h9) (fun _ => ⟨fun q => absurd q n1_ne0, fun _ => ?_⟩)), ?_⟩
    · have := h1 (fun r16 t16 => (r16 = 0 → zb 0 ∧ Q 0 t16) ∧ (¬ r16 = 0 → zb 1 ∧ Q 1 t16)) (σ.2.1 4) (σ.2.1 5) (fun qu qd => ⟨fun hr => ⟨fun q => absurd q n1_ne0, fun _ => ⟨zb1, hQ 1 _ ⟨⟨qu, qd, rfl⟩, Or.inl ⟨rfl, hr⟩⟩⟩⟩, fun hr => ⟨fun _ => ⟨zb0, hQ 0 _ ⟨⟨qu, qd, rfl⟩, Or.inr ⟨rfl, hr⟩⟩⟩, fun q => absurd rfl q⟩⟩)
      rw [ck_self] at this
      exact this
    · rintro r σ' ⟨⟨qu, qd, rfl⟩, hrr⟩ Q' hQ'
      refine hr Q' τ (r_there (F := fun t10 => R_reaches_w (fun r20 t20 => (r20 = 0 → zb 0 ∧ Q' 0 t20) ∧ (¬ r20 = 0 → zb 1 ∧ Q' 1 t20)) (nI c) (nI t) (tyI ty) t10) hC hT e2 e4 (fun h9 => absurd hv h9) (fun _ => ?_))
      have := h2 (fun r20 t20 => (r20 = 0 → zb 0 ∧ Q' 0 t20) ∧ (¬ r20 = 0 → zb 1 ∧ Q' 1 t20)) (τ.2 27) (Rel_bits hR) (fun M hM => ⟨fun hr => ⟨fun q => absurd q n1_ne0, fun _ => ⟨zb1, ?_⟩⟩, fun hr => ⟨fun _ => ⟨zb0, ?_⟩, fun q => absurd rfl q⟩⟩)
      · rw [mk_self] at this
        exact this
      · rcases hrr with ⟨rfl, -⟩ | ⟨-, hn⟩
        · exact hQ' _ (Rel_ckmk hR qu qd hM)
        · exact absurd hr hn
      · rcases hrr with ⟨-, hn⟩ | ⟨rfl, -⟩
        · exact absurd hn hr
        · exact hQ' _ (Rel_ckmk hR qu qd hM)
  · refine ⟨fun r σ' => r = 0 ∧ σ' = σ, fun Q hQ => hc Q σ (c_there hC hT e1 e3 (fun _ => ⟨fun _ => ⟨zb0, hQ 0 σ ⟨rfl, rfl⟩⟩, fun q => absurd rfl q⟩) (fun h9 => absurd h9 hv)), ?_⟩
    rintro r σ' ⟨rfl, rfl⟩ Q' hQ'
    exact hr Q' τ (r_there hC hT e2 e4 (fun _ => hQ' τ hR) (fun h9 => absurd h9 hv))
theorem sim_subtype (b : Nat → Nat) (k : Nat → ClassId) (x y : Int32) : SimI (Rel b k) (fun Q σ => C_X6_subtype_w b k Q x y σ) (fun Q τ => R_subtype_w Q x y τ) := sim_reach false x y (fun _ _ h => h) (fun _ _ h => h)
theorem sim_meta (b : Nat → Nat) (k : Nat → ClassId) (x y : Int32) : SimI (Rel b k) (fun Q σ => C_X6_meta_w b k Q x y σ) (fun Q τ => R_meta_w Q x y τ) := sim_reach true x y (fun _ _ h => h) (fun _ _ h => h)
/-- how many below n have P -/
noncomputable def rc (P : Nat → Prop) : Nat → Nat
  | 0 => 0
  | n + 1 => rc P n + @ite Nat (P n) (Classical.propDecidable _) 1 0
theorem rc_le (P : Nat → Prop) : ∀ n, rc P n ≤ n := by
  intro n
  induction n with
  | zero => exact Nat.le_refl _
  | succ n ih => show rc P n + @ite Nat (P n) (Classical.propDecidable _) 1 0 ≤ n + 1; split <;> omega
theorem rc_t {P : Nat → Prop} {n : Nat} (h : P n) : rc P (n + 1) = rc P n + 1 := by show rc P n + @ite Nat (P n) (Classical.propDecidable _) 1 0 = _; rw [if_pos h]
theorem rc_f {P : Nat → Prop} {n : Nat} (h : ¬ P n) : rc P (n + 1) = rc P n := by show rc P n + @ite Nat (P n) (Classical.propDecidable _) 1 0 = _; rw [if_neg h]; rfl
set_option maxRecDepth 100000 in
theorem sim_subtypeAt (b : Nat → Nat) (k : Nat → ClassId) (x y : Int32) : SimI (Rel b k) (fun Q σ => C_X6_subtypeAt_w b k Q x y σ) (fun Q τ => R_subtypeAt_w Q x y τ) := by
  intro σ τ hR
  obtain ⟨C, T, hC, hT, e1, e2, e3, e4⟩ := Rel_counts hR
  by_cases hy : y < 0
  · refine ⟨fun r σ' => r = -1 ∧ σ' = σ, fun Q hQ => ⟨fun _ => hQ _ _ ⟨rfl, rfl⟩, fun h9 => absurd hy h9⟩, ?_⟩
    rintro r σ' ⟨rfl, rfl⟩ Q' hQ'
    have hq := hQ' τ hR
    exact r_isText (n := T) (by omega) e4 (fun _ => ⟨fun _ => hq, fun q => absurd rfl q⟩) (fun _ _ _ => ⟨fun q => absurd q n1_ne0, fun _ => ⟨fun h9 => absurd hy (Int32.not_lt.mpr h9), fun _ => hq⟩⟩)
  by_cases hv : vp_in x T
  · obtain ⟨t, htT, rfl⟩ := vp_in_of hv (by omega)
    obtain ⟨P, hP⟩ : ∃ P : Nat → Prop, P = fun c => Reach τ false C c t := ⟨_, rfl⟩
    obtain ⟨An, hAn⟩ : ∃ An : Nat → Prop, An = fun c => P c ∧ nI (rc P c) = y := ⟨_, rfl⟩
    have cl : ∀ (Q : Int32 → cS → Prop), (∀ c, c < C → An c → (∀ c', c' < c → ¬ An c') → ∀ qu qd, Q (nI c) (ck σ qu qd)) → ((∀ c, c < C → ¬ An c) → ∀ qu qd, Q (-1) (ck σ qu qd)) → C_X6_subtypeAt_b22 b k Q (nI t) y 0 0 (ck σ (σ.2.1 4) (σ.2.1 5)) := by
      intro Q q1 q0
      refine fx_ex (C_X6_subtypeAt_b22_f b k Q) (fun z => ∃ (c : Nat) (qu qd : Nat → Int32), c ≤ C ∧ z = (nI t, y, nI (rc P c), nI c, ck σ qu qd) ∧ ∀ c', c' < c → ¬ An c') (fun z => 17 - z.2.2.2.1.toNatClampNeg) ?_ _ ⟨0, _, _, by omega, rfl, fun c' h9 => absurd h9 (Nat.not_lt_zero _)⟩
      rintro K _ ⟨c, qu, qd, hc, rfl, hno⟩ hK
      have hrc := rc_le P c
      show C_X6_subtypeAt_b22_s b k Q (fun x1 x2 x3 x4 σ => K (x1, x2, x3, x4, σ)) (nI t) y (nI (rc P c)) (nI c) (ck σ qu qd)
      refine ⟨fun h9 => ?_, fun h9 => ?_⟩
      · have h9 : σ.1 2 ≤ nI c := h9
        rw [e1] at h9
        have : c = C := by have := (nI_leI (by omega) (by omega)).mp h9; omega
        subst this
        exact q0 hno qu qd
      · have h9 : ¬ σ.1 2 ≤ nI c := h9
        rw [e1] at h9
        have hlt : c < C := by
          rcases Nat.lt_or_ge c C with h7 | h7
          · exact h7
          · exact absurd (nI_le h7 (by omega)) h9
        have nx : ∀ (qu qd : Nat → Int32), ¬ An c → C_X6_subtypeAt_b59 b k Q (fun x1 x2 x3 x4 σ => K (x1, x2, x3, x4, σ)) (nI t) y (nI (rc P (c + 1))) (nI c) (ck σ qu qd) := by
          intro qu qd hna v ev
          rw [nI_1] at ev
          subst ev
          refine hK (nI t, y, nI (rc P (c + 1)), nI (c + 1), ck σ qu qd) ⟨c + 1, qu, qd, hlt, rfl, fun c' hc' => ?_⟩ ?_
          · rcases Nat.lt_succ_iff_lt_or_eq.mp hc' with h7 | h7
            · exact hno c' h7
            · rw [h7]; exact hna
          · show 17 - (nI (c + 1)).toNatClampNeg < 17 - (nI c).toNatClampNeg
            rw [nI_clamp (by omega), nI_clamp (by omega)]; omega
        refine (both_reach false hR hC hT e2 e4 hlt htT).1 _ qu qd (fun qu qd => ⟨fun hr => ⟨fun q => absurd q n1_ne0, fun _ => ⟨fun hne v ev => ?_, fun he => ?_⟩⟩, fun hr => ⟨fun _ => ?_, fun q => absurd rfl q⟩⟩)
        · rw [nI_1] at ev
          subst ev
          have hPc : P c := by rw [hP]; exact hr
          rw [← rc_t hPc]
          exact nx qu qd (fun ha => by rw [hAn] at ha; exact hne ha.2)
        · exact q1 c hlt (by rw [hAn]; exact ⟨by rw [hP]; exact hr, he⟩) hno qu qd
        · have hPc : ¬ P c := by rw [hP]; exact hr
          have := nx qu qd (fun ha => by rw [hAn] at ha; exact hPc ha.1)
          rw [rc_f hPc] at this
          exact this
    have rl : ∀ (Q : Int32 → rS → Prop), (∀ c, c < C → An c → (∀ c', c' < c → ¬ An c') → ∀ M, (∀ s, bit (M s)) → Q (nI c) (mk τ M)) → ((∀ c, c < C → ¬ An c) → ∀ M, (∀ s, bit (M s)) → Q (-1) (mk τ M)) → R_subtypeAt_b19 Q (nI t) y 0 0 (mk τ (τ.2 27)) := by
      intro Q q1 q0
      refine fx_ex (R_subtypeAt_b19_f Q) (fun z => ∃ (c : Nat) (M : Nat → Int32), c ≤ C ∧ z = (nI t, y, nI (rc P c), nI c, mk τ M) ∧ (∀ s, bit (M s)) ∧ ∀ c', c' < c → ¬ An c') (fun z => 17 - z.2.2.2.1.toNatClampNeg) ?_ _ ⟨0, _, by omega, rfl, Rel_bits hR, fun c' h9 => absurd h9 (Nat.not_lt_zero _)⟩
      rintro K _ ⟨c, M, hc, rfl, hM, hno⟩ hK
      have hrc := rc_le P c
      show R_subtypeAt_b19_s Q (fun x1 x2 x3 x4 σ => K (x1, x2, x3, x4, σ)) (nI t) y (nI (rc P c)) (nI c) (mk τ M)
      refine ⟨fun h9 => ?_, fun h9 => ?_⟩
      · have h9 : τ.1 3 ≤ nI c := h9
        rw [e2] at h9
        have : c = C := by have := (nI_leI (by omega) (by omega)).mp h9; omega
        subst this
        exact q0 hno M hM
      · have h9 : ¬ τ.1 3 ≤ nI c := h9
        rw [e2] at h9
        have hlt : c < C := by
          rcases Nat.lt_or_ge c C with h7 | h7
          · exact h7
          · exact absurd (nI_le h7 (by omega)) h9
        have nx : ∀ (M : Nat → Int32), (∀ s, bit (M s)) → ¬ An c → R_subtypeAt_b50 Q (fun x1 x2 x3 x4 σ => K (x1, x2, x3, x4, σ)) (nI t) y (nI (rc P (c + 1))) (nI c) (mk τ M) := by
          intro M hM hna v ev
          rw [nI_1] at ev
          subst ev
          refine hK (nI t, y, nI (rc P (c + 1)), nI (c + 1), mk τ M) ⟨c + 1, M, hlt, rfl, hM, fun c' hc' => ?_⟩ ?_
          · rcases Nat.lt_succ_iff_lt_or_eq.mp hc' with h7 | h7
            · exact hno c' h7
            · rw [h7]; exact hna
          · show 17 - (nI (c + 1)).toNatClampNeg < 17 - (nI c).toNatClampNeg
            rw [nI_clamp (by omega), nI_clamp (by omega)]; omega
        refine (both_reach false hR hC hT e2 e4 hlt htT).2 _ M hM (fun M hM => ⟨fun hr => ⟨fun q => absurd q n1_ne0, fun _ => ⟨fun hne v ev => ?_, fun he => ?_⟩⟩, fun hr => ⟨fun _ => ?_, fun q => absurd rfl q⟩⟩)
        · rw [nI_1] at ev
          subst ev
          have hPc : P c := by rw [hP]; exact hr
          rw [← rc_t hPc]
          exact nx M hM (fun ha => by rw [hAn] at ha; exact hne ha.2)
        · exact q1 c hlt (by rw [hAn]; exact ⟨by rw [hP]; exact hr, he⟩) hno M hM
        · have hPc : ¬ P c := by rw [hP]; exact hr
          have := nx M hM (fun ha => by rw [hAn] at ha; exact hPc ha.1)
          rw [rc_f hPc] at this
          exact this
    rw [ck_self] at cl
    rw [mk_self] at rl
    refine ⟨fun r σ' => (∃ qu qd, σ' = ck σ qu qd) ∧ ((r = -1 ∧ ∀ c, c < C → ¬ An c) ∨ ∃ c, c < C ∧ r = nI c ∧ An c ∧ ∀ c', c' < c → ¬ An c'), fun Q hQ => ⟨fun h9 => absurd h9 hy, fun _ => c_has4 (n := T) (by omega) e3 (fun h9 => absurd hv h9) (fun _ _ _ => ⟨fun _ => ?_, fun q => absurd q n1_ne0⟩)⟩, ?_⟩
    · exact cl Q (fun c hc ha hl qu qd => hQ _ _ ⟨⟨qu, qd, rfl⟩, Or.inr ⟨c, hc, rfl, ha, hl⟩⟩) (fun hn qu qd => hQ _ _ ⟨⟨qu, qd, rfl⟩, Or.inl ⟨rfl, hn⟩⟩)
    · rintro r σ' ⟨⟨qu, qd, rfl⟩, hrr⟩ Q' hQ'
      refine r_isText (n := T) (by omega) e4 (fun h9 => absurd hv h9) (fun _ _ _ => ⟨fun q => absurd q n1_ne0, fun _ => ⟨fun _ => ?_, fun h9 => absurd (Int32.not_lt.mp hy) h9⟩⟩)
      refine rl Q' (fun c hc ha hl M hM => ?_) (fun hn M hM => ?_)
      · rcases hrr with ⟨-, hn⟩ | ⟨c', hc', rfl, ha', hl'⟩
        · exact absurd ha (hn c hc)
        · have : c = c' := by
            rcases Nat.lt_trichotomy c c' with h7 | h7 | h7
            · exact absurd ha (hl' c h7)
            · exact h7
            · exact absurd ha' (hl c' h7)
          rw [this]
          exact hQ' _ (Rel_ckmk hR qu qd hM)
      · rcases hrr with ⟨rfl, -⟩ | ⟨c', hc', -, ha', -⟩
        · exact hQ' _ (Rel_ckmk hR qu qd hM)
        · exact absurd ha' (hn c' hc')
  · refine ⟨fun r σ' => r = -1 ∧ σ' = σ, fun Q hQ => ⟨fun _ => hQ _ _ ⟨rfl, rfl⟩, fun _ => c_has4 (n := T) (by omega) e3 (fun _ => ⟨fun q => absurd rfl q, fun _ => hQ _ _ ⟨rfl, rfl⟩⟩) (fun j hj e => (nvp hv (by omega) hj e).elim)⟩, ?_⟩
    rintro r σ' ⟨rfl, rfl⟩ Q' hQ'
    exact r_isText (n := T) (by omega) e4 (fun _ => ⟨fun _ => hQ' τ hR, fun q => absurd rfl q⟩) (fun j hj e => (nvp hv (by omega) hj e).elim)
