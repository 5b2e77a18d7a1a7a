def findR (τ : rS) (x r : Int32) : Prop := (r = -1 ∧ ∀ C, τ.1 3 = nI C → C ≤ 16 → ∀ c, c < C → τ.2 10 c ≠ x) ∨ ∃ c C : Nat, τ.1 3 = nI C ∧ C ≤ 16 ∧ c < C ∧ r = nI c ∧ τ.2 10 c = x
theorem find_bk {b : Nat → Nat} {k : Nat → ClassId} {σ : cS} {τ : rS} (hR : Rel b k σ τ) {x r : Int32} (h3 : findR τ x r) : ∀ Q l m, Q r (bk τ l m) → R_find_w Q x (bk τ l m) := by
  intro Q l m hQ
  obtain ⟨r', -, h2, h3'⟩ := both_find (Rel_bk hR l m) x
  have : r' = r := by
    obtain ⟨-, C, T, hC, hT, -, e2, -, -, -, -, ⟨hs1, -⟩, -⟩ := hR
    rcases h3 with ⟨rfl, hn⟩ | ⟨c, C1, eC1, hC1, hc, rfl, ex⟩
    · rcases h3' with ⟨rfl, -⟩ | ⟨c', C2, eC2, hC2, hc', rfl, ex'⟩
      · rfl
      · exact absurd ex' (hn C2 eC2 hC2 c' hc')
    · rcases h3' with ⟨rfl, hn⟩ | ⟨c', C2, eC2, hC2, hc', rfl, ex'⟩
      · exact absurd ex (hn C1 eC1 hC1 c hc)
      · have eC2 : τ.1 3 = nI C2 := eC2
        have ex' : τ.2 10 c' = x := ex'
        have a1 : C1 = C := (nI_eq (by omega) (by omega)).mp (eC1.symm.trans e2)
        have a2 : C2 = C := (nI_eq (by omega) (by omega)).mp (eC2.symm.trans e2)
        subst a1
        subst a2
        obtain ⟨s, hs, es, ect⟩ := hs1 c hc
        obtain ⟨s', hs', es', ect'⟩ := hs1 c' hc'
        have : s = s' := (nI_eq (by omega) (by omega)).mp (es.symm.trans (ex.trans (ex'.symm.trans es')))
        subst this
        exact ect'.symm.trans ect
  rw [this] at h2
  exact h2 Q hQ
theorem both_sup2 {b : Nat → Nat} {k : Nat → ClassId} {σ : cS} {τ : rS} (hR : Rel b k σ τ) {C T : Nat} (hC : C ≤ 16) (hT : T ≤ 192) (e1 : σ.1 2 = nI C) (e2 : τ.1 3 = nI C) (e4 : τ.1 5 = nI T) {d : Nat} (hd : d < C) : ∃ o : Option Nat, (∀ e, o = some e → e < C) ∧ (∀ Q, Q (oI o) σ → C_X1_superclass_w b k Q (nI d) σ) ∧ (τ.2 11 d < 0 → oI o = -1) ∧ ∀ Q l m, Q (oI o) (bk τ l m) → R_find_w Q (τ.2 11 d) (bk τ l m) := by
  obtain ⟨r, h1, h2, h3⟩ := both_find hR (τ.2 11 d)
  have h4 := find_bk hR h3
  have cd : (nI d).toNatClampNeg = d := nI_clamp (by omega)
  have hp := (cf_pI hR hC e1 hd).2.2.1
  rcases h3 with ⟨rfl, -⟩ | ⟨c, C', eC', hC', hc, rfl, ex⟩
  · exact ⟨none, fun e h9 => (by cases h9), fun Q hQ => ⟨vp_in_nI (by omega) (by omega), τ.2 11 d, by rw [cd]; exact hp, h1 _ hQ⟩, fun _ => rfl, h4⟩
  · have : C' = C := (nI_eq (by omega) (by omega)).mp (eC'.symm.trans e2)
    subst this
    refine ⟨some c, fun e h9 => (by cases h9; exact hc), fun Q hQ => ⟨vp_in_nI (by omega) (by omega), τ.2 11 d, by rw [cd]; exact hp, h1 _ hQ⟩, fun h9 => ?_, h4⟩
    obtain ⟨u, hu, eu⟩ := self_at hR hC hT e2 e4 hc
    rw [← ex, eu] at h9
    exact absurd h9 (nI_pos (by omega))
set_option maxRecDepth 100000 in
set_option maxHeartbeats 2000000 in
theorem sim_count (b : Nat → Nat) (k : Nat → ClassId) (x y : Int32) : SimI (Rel b k) (fun Q σ => C_X6_count_w b k Q x y σ) (fun Q τ => R_count_w Q x y τ) := by
  intro σ τ hR
  obtain ⟨C, T, hC, hT, e1, e2, e3, e4⟩ := Rel_counts hR
  by_cases hv0 : ¬ (vp_in x C ∧ vp_in y T)
  · have hv := hv0
    refine ⟨fun r σ' => r = 0 ∧ σ' = σ, fun Q h => c_there hC hT e1 e3 (fun _ => ⟨fun h9 => absurd rfl h9, fun _ => h 0 σ ⟨rfl, rfl⟩⟩) (fun h9 => absurd h9 hv), ?_⟩
    rintro r σ' ⟨rfl, rfl⟩ Q' hQ'
    have h := hQ' τ hR
    refine r_isClass (n := C) (by omega) e2 (fun h9 => ⟨fun _ => h, fun q => absurd rfl q⟩) (fun j hj ej => ⟨fun q => absurd q n1_ne0, fun _ => r_isText (n := T) (by omega) e4 (fun h9 => ⟨fun q => absurd rfl q, fun _ => h⟩) (fun i hi ei => ?_)⟩)
    exact absurd ⟨by rw [ej]; exact vp_in_nI hj (by omega), by rw [ei]; exact vp_in_nI hi (by omega)⟩ hv
  have hv := Classical.not_not.mp hv0
  obtain ⟨c, hcC, rfl⟩ := vp_in_of hv.1 (by omega)
  obtain ⟨t, htT, rfl⟩ := vp_in_of hv.2 (by omega)
  obtain ⟨sup, hsup⟩ := Classical.skolem.mp (fun d : Nat => show ∃ o : Option Nat, d < C → (∀ e, o = some e → e < C) ∧ (∀ Q, Q (oI o) σ → C_X1_superclass_w b k Q (nI d) σ) ∧ (τ.2 11 d < 0 → oI o = -1) ∧ ∀ Q l m, Q (oI o) (bk τ l m) → R_find_w Q (τ.2 11 d) (bk τ l m) from by
    by_cases hd : d < C
    · obtain ⟨o, ho⟩ := both_sup2 hR hC hT e1 e2 e4 hd
      exact ⟨o, fun _ => ho⟩
    · exact ⟨none, fun h9 => absurd h9 hd⟩)
  obtain ⟨rf, cont, hfind, hcontw, hcont, hfd⟩ : ∃ rf cont : Int32, (∀ Q, Q rf τ → R_find_w Q (nI t) τ) ∧ (∀ Q, Q cont σ → C_X1_containerOf_w b k Q (nI t) σ) ∧ ((rf = -1 ∧ cont = -1) ∨ ∃ c, c < C ∧ rf = nI c ∧ cont = τ.2 12 c) ∧ ∀ Q l m, Q rf (bk τ l m) → R_find_w Q (nI t) (bk τ l m) := by
    obtain ⟨r, h1, h2, h3⟩ := both_find hR (nI t)
    have h4 := find_bk hR h3
    rcases h3 with ⟨rfl, -⟩ | ⟨c, C', eC', hC', hc, rfl, ex⟩
    · exact ⟨-1, -1, h2, fun Q hQ => h1 _ ⟨fun h9 => absurd rfl h9, fun _ => hQ⟩, Or.inl ⟨rfl, rfl⟩, h4⟩
    · have : C' = C := (nI_eq (by omega) (by omega)).mp (eC'.symm.trans e2)
      subst this
      refine ⟨nI c, τ.2 12 c, h2, fun Q hQ => h1 _ ⟨fun _ => ⟨vp_in_nI (by omega) (by omega), τ.2 12 c, ?_, hQ⟩, fun h9 => absurd h9 (nI_nm1 (by omega))⟩, Or.inr ⟨c, hc, rfl, rfl⟩, h4⟩
      rw [nI_clamp (by omega)]
      exact (cf_pI hR hC e1 hc).2.2.2
  obtain ⟨f, hf⟩ := Classical.skolem.mp (fun d : Nat => show ∃ r : Nat, d < C → r ≤ 20 ∧ ∃ q, pX σ.2.2.2.2 (σ.2.2.1 d) 0 q ∧ (∀ Q, Q (nI r) σ → C_X0_annotationsOf_w b k q Q (nI t) cont σ) ∧ ∀ Q l0 m0, (∀ l m, Q (nI r) (bk τ l m)) → R_countAt_w Q (nI d) (nI t) (bk τ l0 m0) from by
    by_cases hd : d < C
    · obtain ⟨q, r, hr, hX, g1, g2⟩ := both_countAt hR hC hT e1 e2 e4 hd htT hfind hcont
      exact ⟨r, fun _ => ⟨hr, q, hX, g1, fun Q l0 m0 hQ => g2 Q l0 m0 hfd hQ⟩⟩
    · exact ⟨0, fun h9 => absurd h9 hd⟩)
  obtain ⟨hit, hhit⟩ : ∃ hit : Nat → Prop, hit = fun j => ∃ d, chn sup c j = some d ∧ 0 < f d := ⟨_, rfl⟩
  have hlt : ∀ n e, chn sup c n = some e → e < C := by
    intro n
    induction n with
    | zero => intro e h9; cases h9; exact hcC
    | succ n ih =>
      intro e h9
      have h9 : (chn sup c n).bind sup = some e := h9
      cases h8 : chn sup c n with
      | none => rw [h8] at h9; cases h9
      | some e' => rw [h8] at h9; exact (hsup e' (ih e' h8)).1 e h9
  have nono : ∀ j j', chn sup c j = none → j ≤ j' → ¬ hit j' := by
    intro j j' h9 hj h8
    rw [hhit] at h8
    obtain ⟨d, hd, -⟩ := h8
    rw [show j' = j + (j' - j) by omega] at hd
    obtain ⟨e, he⟩ := chn_back _ _ _ hd
    rw [he] at h9; cases h9
  have cl : ∀ (S : Nat) (Q : Int32 → cS → Prop), S ≤ 16 → (∀ j d, j < S → chn sup c j = some d → 0 < f d → (∀ j', j' < j → ¬ hit j') → Q (nI (f d)) σ) → ((∀ j, j < S → ¬ hit j) → Q 0 σ) → C_X6_count_b36 b k Q (nI t) cont (nI S) (nI c) 0 σ := by
    intro S Q hS q1 q0
    refine fx_ex (C_X6_count_b36_f b k Q) (fun z => ∃ j : Nat, j ≤ S ∧ z = (nI t, cont, nI S, oI (chn sup c j), nI j, σ) ∧ ∀ j', j' < j → ¬ hit j') (fun z => 17 - z.2.2.2.2.1.toNatClampNeg) ?_ _ ⟨0, by omega, rfl, fun j' h9 => absurd h9 (Nat.not_lt_zero _)⟩
    rintro K _ ⟨j, hj, rfl, hno⟩ hK
    show C_X6_count_b36_s b k Q (fun x2 x3 x4 x5 x6 σ => K (x2, x3, x4, x5, x6, σ)) (nI t) cont (nI S) (oI (chn sup c j)) (nI j) σ
    refine ⟨fun h9 => ?_, fun h9 => ?_⟩
    · have : j = S := by have := (nI_leI (by omega) (by omega)).mp h9; omega
      subst this
      exact q0 hno
    · have hjS : j < S := by
        rcases Nat.lt_or_ge j S with h7 | h7
        · exact h7
        · exact absurd (nI_le h7 (by omega)) h9
      cases hch : chn sup c j with
      | none =>
        refine ⟨fun _ => q0 (fun j' hj' => ?_), fun h8 => absurd rfl h8⟩
        rcases Nat.lt_or_ge j' j with h7 | h7
        · exact hno j' h7
        · exact nono j j' hch h7
      | some d =>
        have hdC := hlt j d hch
        obtain ⟨hf20, q, hX, g1, g2⟩ := hf d hdC
        have cd : (nI d).toNatClampNeg = d := nI_clamp (by omega)
        refine ⟨fun h8 => absurd h8 (nI_nm1 (by omega)), fun _ => ⟨vp_in_nI (by omega) (by omega), q, ?_, g1 _ ⟨fun h8 => ?_, fun h8 => ?_⟩⟩⟩
        · show pX σ.2.2.2.2 (σ.2.2.1 (nI d).toNatClampNeg) 0 q
          rw [cd]; exact hX
        · have hz : f d = 0 := by have := (nI_leI (b := 0) (by omega) (by omega)).mp h8; omega
          refine (hsup d hdC).2.1 _ (fun v ev => ?_)
          rw [nI_1] at ev
          subst ev
          refine hK (nI t, cont, nI S, oI (sup d), nI (j + 1), σ) ⟨j + 1, hjS, ?_, fun j' hj' => ?_⟩ ?_
          · show _ = (nI t, cont, nI S, oI ((chn sup c j).bind sup), nI (j + 1), σ)
            rw [hch]; rfl
          · rcases Nat.lt_succ_iff_lt_or_eq.mp hj' with h7 | h7
            · exact hno j' h7
            · rw [h7, hhit]
              rintro ⟨d', hd', hfd'⟩
              rw [hch] at hd'
              cases hd'
              omega
          · show 17 - (nI (j + 1)).toNatClampNeg < 17 - (nI j).toNatClampNeg
            rw [nI_clamp (by omega), nI_clamp (by omega)]; omega
        · have hpos : 0 < f d := by
            rcases Nat.eq_zero_or_pos (f d) with h7 | h7
            · exact absurd (by rw [h7]; decide) h8
            · exact h7
          exact q1 j d hjS hch hpos hno
  have rl : ∀ (Q : Int32 → rS → Prop), (∀ j d, j < 17 → chn sup c j = some d → 0 < f d → (∀ j', j' < j → ¬ hit j') → ∀ l m, Q (nI (f d)) (bk τ l m)) → ((∀ j, j < 17 → ¬ hit j) → ∀ l m, Q 0 (bk τ l m)) → R_count_b33 Q (nI t) 1 (nI c) 0 0 (bk τ (τ.2 25) (τ.2 26)) := by
    intro Q q1 q0
    refine fx_ex (R_count_b33_f Q) (fun z => ∃ (j : Nat) (l m : Nat → Int32), j ≤ 17 ∧ ((z = (nI t, 1, oI (chn sup c j), 0, nI j, bk τ l m) ∧ ∀ j', j' < j → ¬ hit j') ∨ ∃ (a : Int32) (v : Nat), 0 < v ∧ v ≤ 20 ∧ z = (nI t, 1, a, nI v, nI j, bk τ l m) ∧ ∀ l m, Q (nI v) (bk τ l m))) (fun z => 18 - z.2.2.2.2.1.toNatClampNeg) ?_ _ ⟨0, _, _, by omega, Or.inl ⟨rfl, fun j' h9 => absurd h9 (Nat.not_lt_zero _)⟩⟩
    rintro K _ ⟨j, l, m, hj, ⟨rfl, hno⟩ | ⟨a, v, hv1, hv2, rfl, hQv⟩⟩ hK
    · show R_count_b33_s Q (fun x2 x3 x4 x5 x6 σ => K (x2, x3, x4, x5, x6, σ)) (nI t) 1 (oI (chn sup c j)) 0 (nI j) (bk τ l m)
      refine ⟨fun h9 => ?_, fun h9 => ?_⟩
      · have := (nI_ltI (a := 16) (b := j) (by omega) (by omega)).mp h9
        exact q0 (fun j' hj' => hno j' (by omega)) l m
      · have hjS : j < 17 := by
          rcases Nat.lt_or_ge j 17 with h7 | h7
          · exact h7
          · exact absurd (nI_lt (a := 16) (by omega) (by omega)) h9
        cases hch : chn sup c j with
        | none =>
          refine ⟨fun _ => q0 (fun j' hj' => ?_) l m, fun h8 => absurd neg1 h8⟩
          rcases Nat.lt_or_ge j' j with h7 | h7
          · exact hno j' h7
          · exact nono j j' hch h7
        | some d =>
          have hdC := hlt j d hch
          obtain ⟨hf20, q, hX, g1, g2⟩ := hf d hdC
          have cd : (nI d).toNatClampNeg = d := nI_clamp (by omega)
          have vd : vp_in (nI d) 16 := vp_in_nI (by omega) (by omega)
          refine ⟨fun h8 => absurd h8 (nI_pos (by omega)), fun _ => ⟨fun h8 => absurd rfl h8, fun _ => ?_⟩⟩
          refine g2 _ l m (fun l m => ⟨fun h8 => absurd h8 n1_ne0, fun _ => ?_⟩)
          have nx : R_count_b88 Q (fun x2 x3 x4 x5 x6 σ => K (x2, x3, x4, x5, x6, σ)) (nI t) 1 (nI (f d)) (nI j) (oI (sup d)) (bk τ l m) := by
            intro v ev
            rw [nI_1] at ev
            subst ev
            have hmu : 18 - (nI (j + 1)).toNatClampNeg < 18 - (nI j).toNatClampNeg := by rw [nI_clamp (by omega), nI_clamp (by omega)]; omega
            rcases Nat.eq_zero_or_pos (f d) with h7 | h7
            · refine hK (nI t, 1, oI (sup d), nI (f d), nI (j + 1), bk τ l m) ⟨j + 1, l, m, hjS, Or.inl ⟨?_, fun j' hj' => ?_⟩⟩ hmu
              · show _ = (nI t, 1, oI ((chn sup c j).bind sup), 0, nI (j + 1), bk τ l m)
                rw [hch, h7]; rfl
              · rcases Nat.lt_succ_iff_lt_or_eq.mp hj' with h6 | h6
                · exact hno j' h6
                · rw [h6, hhit]
                  rintro ⟨d', hd', hfd'⟩
                  rw [hch] at hd'
                  cases hd'
                  omega
            · exact hK (nI t, 1, oI (sup d), nI (f d), nI (j + 1), bk τ l m) ⟨j + 1, l, m, hjS, Or.inr ⟨_, f d, h7, hf20, rfl, q1 j d hjS hch h7 hno⟩⟩ hmu
          show vp_in (nI d) 16 ∧ (τ.2 11 (nI d).toNatClampNeg < 0 → R_count_b88 Q _ (nI t) 1 (nI (f d)) (nI j) (-1) (bk τ l m)) ∧ (¬ τ.2 11 (nI d).toNatClampNeg < 0 → vp_in (nI d) 16 ∧ R_find_w (fun r81 t81 => R_count_b88 Q _ (nI t) 1 (nI (f d)) (nI j) r81 t81) (τ.2 11 (nI d).toNatClampNeg) (bk τ l m))
          rw [cd]
          refine ⟨vd, fun h8 => ?_, fun _ => ⟨vd, (hsup d hdC).2.2.2 _ l m nx⟩⟩
          have := (hsup d hdC).2.2.1 h8
          rw [this] at nx
          exact nx
    · show R_count_b33_s Q (fun x2 x3 x4 x5 x6 σ => K (x2, x3, x4, x5, x6, σ)) (nI t) 1 a (nI v) (nI j) (bk τ l m)
      have hq := hQv l m
      exact ⟨fun _ => hq, fun _ => ⟨fun _ => hq, fun _ => ⟨fun _ => hq, fun h8 => absurd h8 (nI_ne0 hv1 (by omega))⟩⟩⟩
  have rl0 : ∀ (Q : Int32 → rS → Prop), (∀ l m, Q (nI (f c)) (bk τ l m)) → R_count_b33 Q (nI t) 0 (nI c) 0 0 (bk τ (τ.2 25) (τ.2 26)) := by
    intro Q hQ
    refine ⟨2, ?_⟩
    show R_count_b33_s Q _ (nI t) 0 (nI c) 0 0 (bk τ (τ.2 25) (τ.2 26))
    obtain ⟨hf20, q, hX, g1, g2⟩ := hf c hcC
    refine ⟨fun h9 => absurd h9 (by decide), fun _ => ⟨fun h8 => absurd h8 (nI_pos (by omega)), fun _ => ⟨fun h8 => absurd rfl h8, fun _ => g2 _ _ _ (fun l m => ⟨fun _ v ev => ?_, fun h8 => absurd rfl h8⟩)⟩⟩⟩
    subst ev
    show R_count_b33_s Q _ (nI t) 0 (-1) (nI (f c)) (0 + 1) (bk τ l m)
    exact ⟨fun _ => hQ l m, fun _ => ⟨fun _ => hQ l m, fun h8 => absurd neg1 h8⟩⟩
  rw [bk_self] at rl rl0
  have wrapC : ∀ (Q : Int32 → cS → Prop), C_X1_chainSteps_w b k (fun r25 t25 => C_X6_count_b36 b k Q (nI t) cont r25 (nI c) (0 : Int32) t25) (nI t) σ → C_X6_count_w b k Q (nI c) (nI t) σ := fun Q h9 => c_there hC hT e1 e3 (fun h8 => absurd hv h8) (fun _ => ⟨fun _ => hcontw _ h9, fun h8 => absurd h8 n1_ne0⟩)
  have wrapR : ∀ (Q : Int32 → rS → Prop), R_inherited_w (fun r20 t20 => R_count_b33 Q (nI t) r20 (nI c) (0 : Int32) (0 : Int32) t20) (nI t) τ → R_count_w Q (nI c) (nI t) τ := fun Q h9 => r_isClass (n := C) (by omega) e2 (fun h8 => absurd hv.1 h8) (fun _ _ _ => ⟨fun h8 => absurd h8 n1_ne0, fun _ => r_isText (n := T) (by omega) e4 (fun h8 => absurd hv.2 h8) (fun _ _ _ => ⟨fun _ => h9, fun h8 => absurd h8 n1_ne0⟩)⟩)
  have done : ∀ r : Int32, (∀ Q, Q r σ → C_X6_count_w b k Q (nI c) (nI t) σ) → (∀ Q : Int32 → rS → Prop, (∀ l m, Q r (bk τ l m)) → R_count_w Q (nI c) (nI t) τ) → ∃ Post : Int32 → cS → Prop, (∀ Q : Int32 → cS → Prop, (∀ r σ', Post r σ' → Q r σ') → C_X6_count_w b k Q (nI c) (nI t) σ) ∧ ∀ r σ', Post r σ' → ∀ Q' : Int32 → rS → Prop, (∀ τ', Rel b k σ' τ' → Q' r τ') → R_count_w Q' (nI c) (nI t) τ := by
    intro r h1 h2
    refine ⟨fun r' σ' => r' = r ∧ σ' = σ, fun Q hQ => h1 Q (hQ r σ ⟨rfl, rfl⟩), ?_⟩
    rintro r' σ' ⟨rfl, rfl⟩ Q' hQ'
    exact h2 Q' (fun l m => hQ' _ (Rel_bk hR l m))
  rcases both_inh hR hC e1 e2 (nI t) with ⟨hi1, hi2⟩ | ⟨hi1, hi2⟩
  · by_cases hex : ∃ j, hit j
    · obtain ⟨j, hj, hmin⟩ := pk_least hit hex
      have hj2 := hj
      rw [hhit] at hj2
      obtain ⟨d, hd, hfd'⟩ := hj2
      have hjC : j < C := by
        obtain ⟨j', hj', e'⟩ := chn_cover hcC (fun d e hd => (hsup d hd).1 e) hd
        rcases Nat.lt_or_ge j C with h7 | h7
        · exact h7
        · exact absurd (by rw [hhit]; exact ⟨d, e', hfd'⟩) (hmin j' (by omega))
      have hu : ∀ j2 d2, chn sup c j2 = some d2 → 0 < f d2 → (∀ j', j' < j2 → ¬ hit j') → d2 = d := by
        intro j2 d2 a1 a2 a3
        have hh : hit j2 := by rw [hhit]; exact ⟨d2, a1, a2⟩
        have : j2 = j := by
          rcases Nat.lt_trichotomy j2 j with h7 | h7 | h7
          · exact absurd hh (hmin j2 h7)
          · exact h7
          · exact absurd hj (a3 j h7)
        subst this
        rw [hd] at a1
        exact (Option.some.inj a1).symm
      exact done (nI (f d)) (fun Q h9 => wrapC Q (hi2 _ (cl C Q hC (fun j2 d2 _ a1 a2 a3 => by rw [hu j2 d2 a1 a2 a3]; exact h9) (fun h8 => absurd hj (h8 j hjC))))) (fun Q h9 => wrapR Q (hi1 _ (rl Q (fun j2 d2 _ a1 a2 a3 l m => by rw [hu j2 d2 a1 a2 a3]; exact h9 l m) (fun h8 => absurd hj (h8 j (by omega))))))
    · have hn : ∀ j, ¬ hit j := fun j h9 => hex ⟨j, h9⟩
      exact done 0 (fun Q h9 => wrapC Q (hi2 _ (cl C Q hC (fun j2 d2 _ a1 a2 _ => absurd (by rw [hhit]; exact ⟨d2, a1, a2⟩) (hn j2)) (fun _ => h9)))) (fun Q h9 => wrapR Q (hi1 _ (rl Q (fun j2 d2 _ a1 a2 _ => absurd (by rw [hhit]; exact ⟨d2, a1, a2⟩) (hn j2)) (fun _ => h9))))
  · refine done (nI (f c)) (fun Q h9 => wrapC Q (hi2 _ (cl 1 Q (by omega) (fun j2 d2 a0 a1 _ _ => ?_) (fun h8 => ?_)))) (fun Q h9 => wrapR Q (hi1 _ (rl0 Q h9)))
    · rw [show j2 = 0 by omega] at a1
      cases a1
      exact h9
    · rcases Nat.eq_zero_or_pos (f c) with h7 | h7
      · rw [h7] at h9; exact h9
      · exact absurd (by rw [hhit]; exact ⟨c, rfl, h7⟩) (h8 0 (by omega))
