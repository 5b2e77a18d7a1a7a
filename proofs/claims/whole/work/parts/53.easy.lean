theorem n1_ne0 : ¬ (1 : Int32) = 0 := by decide
theorem clamp16 {j C : Nat} (hj : j < C) (hC : C ≤ 16) : (nI j).toNatClampNeg = j ∧ vp_in (nI j) 16 := ⟨nI_clamp (by omega), vp_in_nI (by omega) (by omega)⟩
theorem nvp {x : Int32} {n j : Nat} (h : ¬ vp_in x n) (hn : n < 2 ^ 31) (hj : j < n) (e : x = nI j) : False := h (by rw [e]; exact vp_in_nI hj hn)
/-- a call that asks the ClassFile object for an int -/
theorem sim_int {b : Nat → Nat} {k : Nat → ClassId} {x : Int32} {sl f : Nat} {Cw : (Int32 → cS → Prop) → cS → Prop} {Rw : (Int32 → rS → Prop) → rS → Prop}
    (hc : ∀ Q σ, Cw Q σ ↔ C_X1_has_w b k (fun r t => (r = 0 → Q (-1) t) ∧ (¬ r = 0 → vp_in x 16 ∧ ∃ v : Int32, pI t.2.2.2.2 (t.2.2.1 x.toNatClampNeg) 0 sl v ∧ Q v t)) x σ)
    (hr : ∀ Q τ, Rw Q τ ↔ R_isClass_w (fun r t => (r = 0 → Q (-1) t) ∧ (¬ r = 0 → vp_in x 16 ∧ Q (t.2 f x.toNatClampNeg) t)) x τ)
    (hf : ∀ σ τ, Rel b k σ τ → ∀ j, σ.1 2 = nI j → True → ∀ c, c < j → pI σ.2.2.2.2 (σ.2.2.1 c) 0 sl (τ.2 f c)) : SimI (Rel b k) Cw Rw := by
  refine simI_eq (fun σ τ hR => ?_)
  have hR0 := hR
  obtain ⟨-, C, T, hC, -, e1, e2, -⟩ := hR
  by_cases hv : vp_in x C
  · obtain ⟨j, hj, rfl⟩ := vp_in_of hv (by omega)
    obtain ⟨c1, c2⟩ := clamp16 hj hC
    refine ⟨τ.2 f j, fun Q h => (hc Q σ).mpr (c_has1 (n := C) (by omega) e1 (fun h9 => absurd hv h9) (fun _ _ _ => ⟨fun h9 => absurd h9 n1_ne0, fun _ => ⟨c2, τ.2 f j, ?_, h⟩⟩)), fun Q h => (hr Q τ).mpr (r_isClass (n := C) (by omega) e2 (fun h9 => absurd hv h9) (fun _ _ _ => ⟨fun h9 => absurd h9 n1_ne0, fun _ => ⟨c2, ?_⟩⟩))⟩
    · rw [c1]; exact hf σ τ hR0 C e1 trivial j hj
    · rw [c1]; exact h
  · exact ⟨-1, fun Q h => (hc Q σ).mpr (c_has1 (n := C) (by omega) e1 (fun _ => ⟨fun _ => h, fun h9 => absurd rfl h9⟩) (fun j hj e => (nvp hv (by omega) hj e).elim)), fun Q h => (hr Q τ).mpr (r_isClass (n := C) (by omega) e2 (fun _ => ⟨fun _ => h, fun h9 => absurd rfl h9⟩) (fun j hj e => (nvp hv (by omega) hj e).elim))⟩
theorem cf_at {b : Nat → Nat} {k : Nat → ClassId} {σ : cS} {τ : rS} (hR : Rel b k σ τ) {j c : Nat} (e : σ.1 2 = nI j) (hj : j ≤ 16) (hc : c < j) : ∃ (q i aA aD aS aT : Nat), σ.2.2.1 c = some q ∧ σ.2.2.2.2[i]? = some (q, .inr (0, [.int (τ.2 10 c), .int (τ.2 9 c), .int (τ.2 11 c), .int (τ.2 12 c), .ref aA, .ref aD, .ref aS, .ref aT])) := by
  obtain ⟨-, C, T, hC, -, e1, -, -, -, -, -, -, -, hcf⟩ := hR
  have : C = j := (nI_eq (by omega) (by omega)).mp (e1.symm.trans e)
  subst this
  obtain ⟨q, i, aA, aD, aS, aT, h1, h2, -⟩ := hcf c hc
  exact ⟨q, i, aA, aD, aS, aT, h1, h2⟩
theorem Rel_C {b : Nat → Nat} {k : Nat → ClassId} {σ : cS} {τ : rS} (hR : Rel b k σ τ) {j : Nat} (hj : j < 2 ^ 31) (e : σ.1 2 = nI j) : j ≤ 16 := by
  obtain ⟨-, C, T, hC, -, e1, -⟩ := hR
  have : C = j := (nI_eq (by omega) hj).mp (e1.symm.trans e)
  omega
theorem cf_pI {b : Nat → Nat} {k : Nat → ClassId} {σ : cS} {τ : rS} (hR : Rel b k σ τ) {c C : Nat} (hC : C ≤ 16) (e : σ.1 2 = nI C) (hc : c < C) : pI σ.2.2.2.2 (σ.2.2.1 c) 0 0 (τ.2 10 c) ∧ pI σ.2.2.2.2 (σ.2.2.1 c) 0 1 (τ.2 9 c) ∧ pI σ.2.2.2.2 (σ.2.2.1 c) 0 2 (τ.2 11 c) ∧ pI σ.2.2.2.2 (σ.2.2.1 c) 0 3 (τ.2 12 c) := by
  obtain ⟨q, i, aA, aD, aS, aT, h1, h2⟩ := cf_at hR e hC hc
  exact ⟨⟨q, i, _, h1, h2, rfl⟩, ⟨q, i, _, h1, h2, rfl⟩, ⟨q, i, _, h1, h2, rfl⟩, ⟨q, i, _, h1, h2, rfl⟩⟩
/-- the same with the count as the relation has it -/
theorem sim_int2 {b : Nat → Nat} {k : Nat → ClassId} {x : Int32} {sl f : Nat} {Cw : (Int32 → cS → Prop) → cS → Prop} {Rw : (Int32 → rS → Prop) → rS → Prop}
    (hc : ∀ Q σ, C_X1_has_w b k (fun r t => (r = 0 → Q (-1) t) ∧ (¬ r = 0 → vp_in x 16 ∧ ∃ v : Int32, pI t.2.2.2.2 (t.2.2.1 x.toNatClampNeg) 0 sl v ∧ Q v t)) x σ → Cw Q σ)
    (hr : ∀ Q τ, R_isClass_w (fun r t => (r = 0 → Q (-1) t) ∧ (¬ r = 0 → vp_in x 16 ∧ Q (t.2 f x.toNatClampNeg) t)) x τ → Rw Q τ)
    (hf : ∀ σ τ C, Rel b k σ τ → C ≤ 16 → σ.1 2 = nI C → ∀ c, c < C → pI σ.2.2.2.2 (σ.2.2.1 c) 0 sl (τ.2 f c)) : SimI (Rel b k) Cw Rw := by
  refine simI_eq (fun σ τ hR => ?_)
  have hR0 := hR
  obtain ⟨-, C, T, hC, -, e1, e2, -⟩ := hR
  by_cases hv : vp_in x C
  · obtain ⟨j, hj, rfl⟩ := vp_in_of hv (by omega)
    obtain ⟨c1, c2⟩ := clamp16 hj hC
    refine ⟨τ.2 f j, fun Q h => hc Q σ (c_has1 (n := C) (by omega) e1 (fun h9 => absurd hv h9) (fun _ _ _ => ⟨fun h9 => absurd h9 n1_ne0, fun _ => ⟨c2, τ.2 f j, ?_, h⟩⟩)), fun Q h => hr Q τ (r_isClass (n := C) (by omega) e2 (fun h9 => absurd hv h9) (fun _ _ _ => ⟨fun h9 => absurd h9 n1_ne0, fun _ => ⟨c2, ?_⟩⟩))⟩
    · rw [c1]; exact hf σ τ C hR0 hC e1 j hj
    · rw [c1]; exact h
  · exact ⟨-1, fun Q h => hc Q σ (c_has1 (n := C) (by omega) e1 (fun _ => ⟨fun _ => h, fun h9 => absurd rfl h9⟩) (fun j hj e => (nvp hv (by omega) hj e).elim)), fun Q h => hr Q τ (r_isClass (n := C) (by omega) e2 (fun _ => ⟨fun _ => h, fun h9 => absurd rfl h9⟩) (fun j hj e => (nvp hv (by omega) hj e).elim))⟩
theorem sim_name (b : Nat → Nat) (k : Nat → ClassId) (x : Int32) : SimI (Rel b k) (fun Q σ => C_X6_name_w b k Q x σ) (fun Q τ => R_name_w Q x τ) := sim_int2 (sl := 0) (f := 10) (x := x) (fun _ _ h => h) (fun _ _ h => h) (fun _ _ _ hR hC e _ hc => (cf_pI hR hC e hc).1)
theorem sim_flags (b : Nat → Nat) (k : Nat → ClassId) (x : Int32) : SimI (Rel b k) (fun Q σ => C_X6_flags_w b k Q x σ) (fun Q τ => R_flags_w Q x τ) := sim_int2 (sl := 1) (f := 9) (x := x) (fun _ _ h => h) (fun _ _ h => h) (fun _ _ _ hR hC e _ hc => (cf_pI hR hC e hc).2.1)
theorem sim_superName (b : Nat → Nat) (k : Nat → ClassId) (x : Int32) : SimI (Rel b k) (fun Q σ => C_X6_superName_w b k Q x σ) (fun Q τ => R_superName_w Q x τ) := sim_int2 (sl := 2) (f := 11) (x := x) (fun _ _ h => h) (fun _ _ h => h) (fun _ _ _ hR hC e _ hc => (cf_pI hR hC e hc).2.2.1)
/-- the reference's search for a class by its name -/
theorem r_find {Q : Int32 → rS → Prop} {x : Int32} {τ : rS} {C : Nat} (hC : C ≤ 16) (e : τ.1 3 = nI C) (h1 : ∀ c, c < C → τ.2 10 c = x → (∀ d, d < c → τ.2 10 d ≠ x) → Q (nI c) τ) (h0 : (∀ c, c < C → τ.2 10 c ≠ x) → Q (-1) τ) : R_find_w Q x τ := by
  refine fx_ex (R_find_b2_f Q) (fun z => ∃ i : Nat, i ≤ C ∧ z = (x, nI i, τ) ∧ ∀ d, d < i → τ.2 10 d ≠ x) (fun z => 17 - z.2.1.toNatClampNeg) ?_ _ ⟨0, by omega, rfl, fun d h => absurd h (Nat.not_lt_zero _)⟩
  rintro K _ ⟨i, hi, rfl, hd⟩ hK
  show R_find_b2_s Q (fun x1 x2 σ => K (x1, x2, σ)) x (nI i) τ
  refine ⟨fun h => h0 (fun c hc => ?_), fun h => ?_⟩
  · rw [e] at h
    have := (nI_leI (by omega) (by omega)).mp h
    exact hd c (by omega)
  · rw [e] at h
    have hlt : i < C := by
      rcases Nat.lt_or_ge i C with h9 | h9
      · exact h9
      · exact absurd (nI_le h9 (by omega)) h
    obtain ⟨c1, c2⟩ := clamp16 hlt hC
    refine ⟨c2, fun hne v ev => ?_, fun he => ?_⟩
    · subst ev
      rw [c1] at hne
      rw [nI_1]
      refine hK (x, nI (i + 1), τ) ⟨i + 1, hlt, rfl, fun d hd2 => ?_⟩ ?_
      · rcases Nat.lt_succ_iff_lt_or_eq.mp hd2 with h9 | h9
        · exact hd d h9
        · rw [h9]; exact hne
      · show 17 - (nI (i + 1)).toNatClampNeg < 17 - (nI i).toNatClampNeg
        rw [nI_clamp (by omega), nI_clamp (by omega)]
        omega
    · rw [c1] at he
      exact h1 i hlt he hd
/-- the class's: by the text's number -/
theorem c_named {b : Nat → Nat} {k : Nat → ClassId} {Q : Int32 → cS → Prop} {x : Int32} {σ : cS} (h0 : ¬ vp_in x 192 → Q (-1) σ) (h1 : ∀ t : Nat, t < 192 → x = nI t → Q (σ.2.1 3 t) σ) : C_X1_named_w b k Q x σ := by
  refine ⟨fun h => h0 (fun v => v (Or.inl h)), fun h => ⟨fun h2 => h0 (fun v => ?_), fun h2 => ?_⟩⟩
  · obtain ⟨j, hj, ej⟩ := vp_in_of v (by omega)
    rw [ej] at h2
    exact nI_ge hj (by omega) h2
  · rcases ixc x (n := 192) (by omega) with h3 | ⟨-, h3⟩ | ⟨j, hj, ej, -⟩
    · exact absurd h3 h
    · exact absurd h3 h2
    · subst ej
      refine ⟨vp_in_nI hj (by omega), ?_⟩
      show Q (σ.2.1 3 (nI j).toNatClampNeg) σ
      rw [nI_clamp (by omega)]
      exact h1 j hj rfl
/-- both searches, as one number: the class of that name, or -1 -/
theorem both_find {b : Nat → Nat} {k : Nat → ClassId} {σ : cS} {τ : rS} (hR : Rel b k σ τ) (x : Int32) : ∃ r : Int32, (∀ Q, Q r σ → C_X1_named_w b k Q x σ) ∧ (∀ Q, Q r τ → R_find_w Q x τ) ∧ ((r = -1 ∧ ∀ C, τ.1 3 = nI C → C ≤ 16 → ∀ c, c < C → τ.2 10 c ≠ x) ∨ ∃ c C : Nat, τ.1 3 = nI C ∧ C ≤ 16 ∧ c < C ∧ r = nI c ∧ τ.2 10 c = x) := by
  obtain ⟨-, C, T, hC, hT, e1, e2, -, -, -, -, ⟨hs1, hs2⟩, -⟩ := hR
  by_cases hex : ∃ c, c < C ∧ τ.2 10 c = x
  · obtain ⟨c, hc, hx⟩ := hex
    obtain ⟨s, hs, es, ect⟩ := hs1 c hc
    refine ⟨nI c, fun Q h => c_named (fun h9 => ?_) (fun t ht ex => ?_), fun Q h => r_find hC e2 (fun d hd hdx _ => ?_) (fun h9 => absurd hx (h9 c hc)), Or.inr ⟨c, C, e2, hC, hc, rfl, hx⟩⟩
    · exact absurd (by rw [← hx, es]; exact vp_in_nI (by omega) (by omega)) h9
    · have : s = t := (nI_eq (by omega) (by omega)).mp (es.symm.trans (hx.trans ex))
      subst this
      rw [ect]; exact h
    · obtain ⟨s', hs', es', ect'⟩ := hs1 d hd
      have e9 : s = s' := (nI_eq (by omega) (by omega)).mp (es.symm.trans (hx.trans (hdx.symm.trans es')))
      subst e9
      have : c = d := (nI_eq (by omega) (by omega)).mp (ect.symm.trans ect')
      rw [← this]; exact h
  · have hne : ∀ c, c < C → τ.2 10 c ≠ x := fun c hc h => hex ⟨c, hc, h⟩
    refine ⟨-1, fun Q h => c_named (fun _ => h) (fun t ht ex => ?_), fun Q h => r_find hC e2 (fun d hd hdx _ => absurd hdx (hne d hd)) (fun _ => h), Or.inl ⟨rfl, fun C' e' hC' c hc => hne c ?_⟩⟩
    · rw [hs2 t ht (fun c hc => ex ▸ hne c hc)]; exact h
    · have : C = C' := (nI_eq (by omega) (by omega)).mp (e2.symm.trans e')
      omega
theorem sim_find (b : Nat → Nat) (k : Nat → ClassId) (x : Int32) : SimI (Rel b k) (fun Q σ => C_X6_find_w b k Q x σ) (fun Q τ => R_find_w Q x τ) := simI_eq (fun σ τ hR => by
  obtain ⟨r, h1, h2, -⟩ := both_find hR x
  exact ⟨r, fun Q h => h1 Q h, h2⟩)
