/-- the class that a text names -/
theorem named_or {b : Nat → Nat} {k : Nat → ClassId} {σ : cS} {τ : rS} (hR : Rel b k σ τ) {C T s : Nat} (hC : C ≤ 16) (hT : T ≤ 192) (eC : τ.1 3 = nI C) (eT : τ.1 5 = nI T) (hs : s < T) : (∃ x, x < C ∧ τ.2 10 x = nI s ∧ σ.2.1 3 s = nI x ∧ ∀ y, y < C → τ.2 10 y = nI s → y = x) ∨ ((∀ y, y < C → τ.2 10 y ≠ nI s) ∧ σ.2.1 3 s = -1) := by
  obtain ⟨-, C', T', hC', hT', -, e2, -, e4, -, -, ⟨hs1, hs2⟩, -⟩ := hR
  have : C' = C := (nI_eq (by omega) (by omega)).mp (e2.symm.trans eC)
  subst this
  have : T' = T := (nI_eq (by omega) (by omega)).mp (e4.symm.trans eT)
  subst this
  by_cases hex : ∃ x, x < C' ∧ τ.2 10 x = nI s
  · obtain ⟨x, hx, ex⟩ := hex
    have key : ∀ y, y < C' → τ.2 10 y = nI s → σ.2.1 3 s = nI y := fun y hy ey => by
      obtain ⟨s', hs', es', ect⟩ := hs1 y hy
      have : s' = s := (nI_eq (by omega) (by omega)).mp (es'.symm.trans ey)
      rw [← this]; exact ect
    exact Or.inl ⟨x, hx, ex, key x hx ex, fun y hy ey => (nI_eq (by omega) (by omega)).mp ((key y hy ey).symm.trans (key x hx ex))⟩
  · exact Or.inr ⟨fun y hy ey => hex ⟨y, hy, ey⟩, hs2 s (by omega) (fun c hc e => hex ⟨c, hc, e⟩)⟩
theorem self_at {b : Nat → Nat} {k : Nat → ClassId} {σ : cS} {τ : rS} (hR : Rel b k σ τ) {C T d : Nat} (hC : C ≤ 16) (hT : T ≤ 192) (eC : τ.1 3 = nI C) (eT : τ.1 5 = nI T) (hd : d < C) : ∃ u, u < T ∧ τ.2 10 d = nI u := by
  obtain ⟨-, C', T', hC', hT', -, e2, -, e4, -, -, ⟨hs1, hs2⟩, -⟩ := hR
  have : C' = C := (nI_eq (by omega) (by omega)).mp (e2.symm.trans eC)
  subst this
  have : T' = T := (nI_eq (by omega) (by omega)).mp (e4.symm.trans eT)
  subst this
  obtain ⟨s', hs', es', -⟩ := hs1 d hd
  exact ⟨s', hs', es'⟩
set_option maxRecDepth 100000 in
set_option maxHeartbeats 2000000 in
theorem c_leads {b : Nat → Nat} {k : Nat → ClassId} {Q : Int32 → cS → Prop} {σ : cS} {τ : rS} {C T c t : Nat} (ty : Bool) (hR : Rel b k σ τ) (hC : C ≤ 16) (hT : T ≤ 192) (eC : τ.1 3 = nI C) (eT : τ.1 5 = nI T) (hc : c < C) (ht : t < T) (h : ∀ qu qd, (Reach τ ty C c t → Q 1 (ck σ qu qd)) ∧ (¬ Reach τ ty C c t → Q 0 (ck σ qu qd))) : C_X1_leadsTo_w b k Q (nI c) (nI t) (tyI ty) σ := by
  have main : ∀ (qu qd : Nat → Int32), bI τ ty C c qu qd 1 → C_X1_leadsTo_b47 b k Q (nI t) (tyI ty) 1 0 (ck σ qu qd) := by
    intro qu qd hI
    refine fx_ex (C_X1_leadsTo_b47_f b k Q) (fun z => ∃ (i e : Nat) (qu qd : Nat → Int32), i ≤ e ∧ z = (nI t, tyI ty, nI e, nI i, ck σ qu qd) ∧ bI τ ty C c qu qd e ∧ ∀ a, a < i → ∀ d, d < C → qu a = nI d → ∀ s, dirR τ ty d s → bS τ C t qd s) (fun z => 17 - z.2.2.2.1.toNatClampNeg) ?_ _ ⟨0, 1, qu, qd, by omega, rfl, hI, fun a h9 => absurd h9 (Nat.not_lt_zero _)⟩
    rintro K _ ⟨i, e, qu, qd, hie, rfl, hI, hdone⟩ hK
    have he16 : e ≤ 16 := by have := hI.2.1; omega
    show C_X1_leadsTo_b47_s b k Q (fun x2 x3 x4 x5 σ => K (x2, x3, x4, x5, σ)) (nI t) (tyI ty) (nI e) (nI i) (ck σ qu qd)
    have fin : i = e → C_X1_leadsTo_b160 b k Q (ck σ qu qd) := by
      intro hie
      subst hie
      refine (h qu qd).2 (fun hr => ?_)
      have := hr (fun s => ∃ a d, a < i ∧ d < C ∧ qu a = nI d ∧ dirR τ ty d s) (fun s hs => ?_) (fun d u s hd eu hu hP hds => ?_)
      · obtain ⟨a, d, ha, hd, e1, hds⟩ := this
        exact (hdone a ha d hd e1 t hds).1 rfl
      · exact ⟨0, c, by have := hI.1; omega, hc, hI.2.2.2.1, hs⟩
      · obtain ⟨a, d', ha, hd', e1, hds'⟩ := hP
        have hq := (hdone a ha d' hd' e1 u hds').2 d hd eu
        obtain ⟨a', ha', e'⟩ := hI.2.2.2.2.2 d (by omega) hq
        exact ⟨a', d, ha', hd, e', hds⟩
    refine ⟨fun h9 => fin (by have := (nI_leI (by omega) (by omega)).mp h9; omega), fun h9 => ⟨fun h8 => fin (by have := (nI_leI (a := 16) (by omega) (by omega)).mp h8; omega), fun h8 => ?_⟩⟩
    have hlt : i < e := by
      rcases Nat.lt_or_ge i e with h7 | h7
      · exact h7
      · exact absurd (nI_le h7 (by omega)) h9
    obtain ⟨d0, hd0, eq0, hq0, hreach0⟩ := hI.2.2.2.2.1 i hlt
    obtain ⟨-, hdT, q, a, m, f, hX, hpR, hpA, hm, hfT, hff⟩ := cf_dir hR ty hC hT eC eT hd0
    have ci : (nI i).toNatClampNeg = i := nI_clamp (by omega)
    have cd0 : (nI d0).toNatClampNeg = d0 := nI_clamp (by omega)
    show vp_in (nI i) 16 ∧ vp_in (qu (nI i).toNatClampNeg) 16 ∧ ∃ a74 : Nat, pX σ.2.2.2.2 (σ.2.2.1 (qu (nI i).toNatClampNeg).toNatClampNeg) 0 a74 ∧ C_X0_directTypes_w b k a74 (fun r74 t74 => C_X1_leadsTo_b82 b k Q (fun x2 x3 x4 x5 σ => K (x2, x3, x4, x5, σ)) (nI t) (tyI ty) (nI e) (nI i) r74 (0 : Int32) t74) (tyI ty) (ck σ qu qd)
    rw [ci, eq0, cd0]
    refine ⟨vp_in_nI (by omega) (by omega), vp_in_nI (by omega) (by omega), q, hX, ?_⟩
    -- the row of direct types
    have row : C_X1_leadsTo_b82 b k Q (fun x2 x3 x4 x5 σ => K (x2, x3, x4, x5, σ)) (nI t) (tyI ty) (nI e) (nI i) (some a) 0 (ck σ qu qd) := by
      refine fx_ex (C_X1_leadsTo_b82_f b k Q (fun x2 x3 x4 x5 σ => K (x2, x3, x4, x5, σ))) (fun z => ∃ (j e2 : Nat) (qu2 qd2 : Nat → Int32), j ≤ m ∧ i < e2 ∧ z = (nI t, tyI ty, nI e2, nI i, some a, nI j, ck σ qu2 qd2) ∧ bI τ ty C c qu2 qd2 e2 ∧ qu2 i = nI d0 ∧ (∀ a, a < i → ∀ d, d < C → qu2 a = nI d → ∀ s, dirR τ ty d s → bS τ C t qd2 s) ∧ ∀ j', j' < j → ∀ s, s < 192 → f j' = nI s → bS τ C t qd2 s) (fun z => 6 - z.2.2.2.2.2.1.toNatClampNeg) ?_ _ ⟨0, e, qu, qd, by omega, hlt, rfl, hI, eq0, hdone, fun j' h7 => absurd h7 (Nat.not_lt_zero _)⟩
      rintro K2 _ ⟨j, e2, qu2, qd2, hj, hie2, rfl, hI2, eqi, hdn, hrow⟩ hK2
      show C_X1_leadsTo_b82_s b k Q (fun x2 x3 x4 x5 σ => K (x2, x3, x4, x5, σ)) (fun x2 x3 x4 x5 x6 x7 σ => K2 (x2, x3, x4, x5, x6, x7, σ)) (nI t) (tyI ty) (nI e2) (nI i) (some a) (nI j) (ck σ qu2 qd2)
      have he2 : e2 ≤ 16 := by have := hI2.2.1; omega
      refine ⟨m, f, hpA, fun h7 v ev => ?_, fun h7 => ?_⟩
      · have hjm : j = m := by have := (nI_leI (a := m) (b := j) (by omega) (by omega)).mp h7; omega
        subst hjm
        rw [nI_1] at ev
        subst ev
        refine hK (nI t, tyI ty, nI e2, nI (i + 1), ck σ qu2 qd2) ⟨i + 1, e2, qu2, qd2, hie2, rfl, hI2, fun a' ha' d hd ed s hds => ?_⟩ ?_
        · rcases Nat.lt_succ_iff_lt_or_eq.mp ha' with h6 | h6
          · exact hdn a' h6 d hd ed s hds
          · subst h6
            have : d = d0 := (nI_eq (by omega) (by omega)).mp (ed.symm.trans eqi)
            subst this
            obtain ⟨hs, j', hj', ej'⟩ := (hff s).mp hds
            exact hrow j' hj' s hs ej'
        · show 17 - (nI (i + 1)).toNatClampNeg < 17 - (nI i).toNatClampNeg
          rw [nI_clamp (by omega), nI_clamp (by omega)]; omega
      · have hjm : j < m := by
          rcases Nat.lt_or_ge j m with h6 | h6
          · exact h6
          · exact absurd (nI_le (a := m) h6 (by omega)) h7
        have cj : (nI j).toNatClampNeg = j := nI_clamp (by omega)
        obtain ⟨s, hsT, es⟩ := hfT j hjm
        have hds : dirR τ ty d0 s := (hff s).mpr ⟨by omega, j, hjm, es⟩
        have hrs : Reach τ ty C c s := by
          rcases hreach0 with rfl | ⟨u, hu, eu, hru⟩
          · exact fun P p1 _ => p1 s hds
          · exact fun P p1 p2 => p2 d0 u s hd0 eu hu (hru P p1 p2) hds
        -- on to the next type
        have nx : ∀ (e3 : Nat) (qu3 qd3 : Nat → Int32), i < e3 → bI τ ty C c qu3 qd3 e3 → qu3 i = nI d0 → (∀ a, a < i → ∀ d, d < C → qu3 a = nI d → ∀ s, dirR τ ty d s → bS τ C t qd3 s) → (∀ j', j' < j → ∀ s, s < 192 → f j' = nI s → bS τ C t qd3 s) → bS τ C t qd3 s → C_X1_leadsTo_b148 b k Q (fun x2 x3 x4 x5 σ => K (x2, x3, x4, x5, σ)) (fun x2 x3 x4 x5 x6 x7 σ => K2 (x2, x3, x4, x5, x6, x7, σ)) (nI t) (tyI ty) (nI e3) (nI i) (some a) (nI j) (ck σ qu3 qd3) := by
          intro e3 qu3 qd3 w1 w2 w3 w4 w5 w6 v ev
          rw [nI_1] at ev
          subst ev
          refine hK2 (nI t, tyI ty, nI e3, nI i, some a, nI (j + 1), ck σ qu3 qd3) ⟨j + 1, e3, qu3, qd3, hjm, w1, rfl, w2, w3, w4, fun j' hj' s' hs' es' => ?_⟩ ?_
          · rcases Nat.lt_succ_iff_lt_or_eq.mp hj' with h6 | h6
            · exact w5 j' h6 s' hs' es'
            · subst h6
              have : s' = s := (nI_eq (by omega) (by omega)).mp (es'.symm.trans es)
              rw [this]; exact w6
          · show 6 - (nI (j + 1)).toNatClampNeg < 6 - (nI j).toNatClampNeg
            rw [nI_clamp (by omega), nI_clamp (by omega)]; omega
        refine ⟨m, f, hpA, vp_in_nI hjm (by omega), fun hne => ?_, fun heq => ?_⟩
        · rw [cj, es] at hne
          have hst : s ≠ t := fun e9 => hne (by rw [e9])
          refine ⟨m, f, hpA, vp_in_nI hjm (by omega), ?_⟩
          rw [cj, es]
          refine c_named (fun h6 => absurd (vp_in_nI (by omega) (by omega)) h6) (fun s' hs' es' => ?_)
          have : s' = s := (nI_eq (by omega) (by omega)).mp es'.symm
          subst this
          show (σ.2.1 3 s' = (-1 : Int32) → _) ∧ (¬ σ.2.1 3 s' = (-1 : Int32) → vp_in (σ.2.1 3 s') 16 ∧ (¬ (qd2 (σ.2.1 3 s').toNatClampNeg) = 0 → _) ∧ ((qd2 (σ.2.1 3 s').toNatClampNeg) = 0 → vp_in (σ.2.1 3 s') 16 ∧ ∀ t135 : cS, t135 = sA (ck σ qu2 qd2) 5 (σ.2.1 3 s') (vp_nar .boolean (1 : Int32)) → vp_in (nI e2) 16 ∧ ∀ t144 : cS, t144 = sA t135 4 (nI e2) (σ.2.1 3 s') → ∀ v145 : Int32, v145 = nI e2 + (1 : Int32) → C_X1_leadsTo_b148 b k Q _ _ (nI t) (tyI ty) v145 (nI i) (some a) (nI j) t144))
          rcases named_or hR hC hT eC eT hsT with ⟨x, hx, ex, ect, huniq⟩ | ⟨hno, ect⟩
          · rw [ect]
            have cx : (nI x).toNatClampNeg = x := nI_clamp (by omega)
            refine ⟨fun h6 => absurd (show ((-1 : Int32)) < 0 by decide) (by rw [← h6]; exact nI_pos (by omega)), fun _ => ⟨vp_in_nI (by omega) (by omega), fun h6 => ?_, fun h6 => ⟨vp_in_nI (by omega) (by omega), fun t1 e1 => ?_⟩⟩⟩
            · rw [cx] at h6
              have hq1 : qd2 x = 1 := (hI2.2.2.1 x (by omega)).elim (fun e9 => absurd e9 h6) id
              exact nx e2 qu2 qd2 hie2 hI2 eqi hdn hrow ⟨hst, fun y hy ey => by rw [huniq y hy ey]; exact hq1⟩
            · rw [cx] at h6
              rw [nar1, ck_5 (by omega)] at e1
              subst e1
              obtain ⟨hI3, he3⟩ := bI_add hC hI2 hx h6 ex (by omega) hrs
              refine ⟨vp_in_nI he3 (by omega), fun t2 e2' v ev => ?_⟩
              rw [ck_4 (by omega)] at e2'
              subst e2'
              rw [nI_1] at ev
              subst ev
              refine nx (e2 + 1) (upd qu2 e2 (nI x)) (upd qd2 x 1) (by omega) hI3 (by rw [pk_un (by omega)]; exact eqi) (fun a' ha' d hd ed s2 hds2 => ?_) (fun j' hj' s2 hs2 es2 => bS_up (hrow j' hj' s2 hs2 es2)) ⟨hst, fun y hy ey => by rw [huniq y hy ey]; exact pk_us⟩
              rw [pk_un (by omega)] at ed
              exact bS_up (hdn a' ha' d hd ed s2 hds2)
          · rw [ect]
            exact ⟨fun _ => nx e2 qu2 qd2 hie2 hI2 eqi hdn hrow ⟨hst, fun y hy ey => absurd ey (hno y hy)⟩, fun h6 => absurd rfl h6⟩
        · rw [cj, es] at heq
          have : s = t := (nI_eq (by omega) (by omega)).mp heq
          subst this
          exact (h qu2 qd2).1 hrs
    cases ty with
    | true => exact ⟨fun h7 => absurd h7 (by decide), fun _ => ⟨some a, hpR, row⟩⟩
    | false => exact ⟨fun _ => ⟨some a, hpR, row⟩, fun h7 => absurd rfl h7⟩
  -- the clearing
  have key : C_X1_leadsTo_b3 b k Q (nI c) (nI t) (tyI ty) 0 (ck σ (σ.2.1 4) (σ.2.1 5)) := by
    refine fx_ex (C_X1_leadsTo_b3_f b k Q) (fun z => ∃ (i : Nat) (qu qd : Nat → Int32), i ≤ 16 ∧ z = (nI c, nI t, tyI ty, nI i, ck σ qu qd) ∧ ∀ d, d < i → qd d = if d = c then 1 else 0) (fun z => 17 - z.2.2.2.1.toNatClampNeg) ?_ _ ⟨0, σ.2.1 4, σ.2.1 5, by omega, rfl, fun d h9 => absurd h9 (Nat.not_lt_zero _)⟩
    rintro K _ ⟨i, qu, qd, hi, rfl, hq⟩ hK
    show C_X1_leadsTo_b3_s b k Q (fun x1 x2 x3 x4 σ => K (x1, x2, x3, x4, σ)) (nI c) (nI t) (tyI ty) (nI i) (ck σ qu qd)
    have ci : (nI i).toNatClampNeg = i := nI_clamp (by omega)
    refine ⟨fun h9 t9 e9 => ?_, fun h9 => ?_⟩
    · have hi16 : i = 16 := by have := (nI_leI (a := 16) (by omega) (by omega)).mp h9; omega
      subst hi16
      have e9 : t9 = sA (ck σ qu qd) 4 (nI 0) (nI c) := e9
      rw [ck_4 (by omega)] at e9
      subst e9
      refine main (upd qu 0 (nI c)) qd ⟨by omega, ?_, fun d hd => ?_, pk_us, fun a ha => ⟨c, hc, ?_, ?_, Or.inl rfl⟩, fun d hd h8 => ⟨0, by omega, ?_⟩⟩
      · have h1 := cz_lt (M := fun _ => 0) (M' := qd) 16 (fun s _ h8 => absurd rfl h8) ⟨c, by omega, rfl, by rw [hq c (by omega), if_pos rfl]; decide⟩
        have h2 := cz_le (fun _ => 0) 16
        omega
      · rw [hq d hd]; split
        · exact Or.inr rfl
        · exact Or.inl rfl
      · rw [show a = 0 by omega]; exact pk_us
      · rw [hq c (by omega), if_pos rfl]
      · rw [hq d hd] at h8
        by_cases e8 : d = c
        · rw [e8]; exact pk_us
        · rw [if_neg e8] at h8; exact absurd h8 (by decide)
    · have hlt : i < 16 := by
        rcases Nat.lt_or_ge i 16 with h7 | h7
        · exact h7
        · exact absurd (nI_le (a := 16) h7 (by omega)) h9
      have go : ∀ v : Int32, (v = if i = c then 1 else 0) → vp_nar .boolean v = v → C_X1_leadsTo_b27 b k Q (fun x1 x2 x3 x4 σ => K (x1, x2, x3, x4, σ)) (nI c) (nI t) (tyI ty) (nI i) v (nI i) (ck σ qu qd) := by
        intro v ev hv
        refine ⟨vp_in_nI hlt (by omega), fun t9 e9 v2 ev2 => ?_⟩
        rw [hv, ck_5 (by omega)] at e9
        subst e9
        rw [nI_1] at ev2
        subst ev2
        refine hK (nI c, nI t, tyI ty, nI (i + 1), ck σ qu (upd qd i v)) ⟨i + 1, qu, upd qd i v, hlt, rfl, fun d hd => ?_⟩ ?_
        · by_cases e8 : d = i
          · rw [e8, pk_us]; exact ev
          · rw [pk_un e8]; exact hq d (by omega)
        · show 17 - (nI (i + 1)).toNatClampNeg < 17 - (nI i).toNatClampNeg
          rw [nI_clamp (by omega), nI_clamp (by omega)]; omega
      refine ⟨fun hne => go 0 ?_ nar0, fun he => go 1 ?_ nar1⟩
      · rw [if_neg (fun e8 => hne (by rw [e8]))]
      · rw [if_pos ((nI_eq (by omega) (by omega)).mp he)]
  rw [ck_self] at key
  exact key
