/-! the parse: name, interfaces, annotations, class side -/
noncomputable def nk (B : Nat → Nat) (e K : Nat) (S : Nat → Nat) (tk : Nat → Prop) (a : Nat) : (Nat × Nat) ⊕ (Nat × Nat) := match kn B e K S 7 a with
  | .inl p => @ite _ (tk p.1) (Classical.propDecidable _) (.inr (9, a)) (.inl p)
  | .inr q => .inr q
theorem nk_1 {B : Nat → Nat} {e K : Nat} {S : Nat → Nat} {tk : Nat → Prop} {a κ a' : Nat} (h : kn B e K S 7 a = .inl (κ, a')) (ht : ¬ tk κ) : nk B e K S tk a = .inl (κ, a') := by unfold nk; rw [h]; exact if_neg ht
theorem nk_2 {B : Nat → Nat} {e K : Nat} {S : Nat → Nat} {tk : Nat → Prop} {a κ a' : Nat} (h : kn B e K S 7 a = .inl (κ, a')) (ht : tk κ) : nk B e K S tk a = .inr (9, a) := by unfold nk; rw [h]; exact if_pos ht
theorem nk_0 {B : Nat → Nat} {e K : Nat} {S : Nat → Nat} {tk : Nat → Prop} {a : Nat} {q : Nat × Nat} (h : kn B e K S 7 a = .inr q) : nk B e K S tk a = .inr q := by unfold nk; rw [h]
theorem nk_B {B : Nat → Nat} {e K : Nat} {S : Nat → Nat} {tk : Nat → Prop} {a κ a' : Nat} (h : nk B e K S tk a = .inl (κ, a')) : kn B e K S 7 a = .inl (κ, a') ∧ ¬ tk κ := by
  cases h1 : kn B e K S 7 a with
  | inr q => rw [nk_0 h1] at h; cases h
  | inl p =>
    by_cases ht : tk p.1
    · rw [nk_2 (κ := p.1) (a' := p.2) h1 ht] at h; cases h
    · rw [nk_1 (κ := p.1) (a' := p.2) h1 ht] at h; cases h; exact ⟨rfl, ht⟩
theorem C_name {b : Nat → Nat} {k : Nat → ClassId} {σ : cS} {τ : rS} {B : Nat → Nat} {e c K : Nat} {S : Nat → Nat} {tk : Nat → Prop} {st : St} (h : PB b σ τ B e c) (hr2 : σ.2.2.2.1 2 = some (b 5)) (hK : ∀ a, st = .inl a → TB σ τ c K S) (htk : ∀ a, st = .inl a → ∀ κ, 1 ≤ κ → κ ≤ K → S κ = 7 → ∃ t, t < 192 ∧ σ.2.1 7 κ = nI t ∧ (tk κ ↔ ¬ σ.2.1 3 t = -1)) {X : cS} (hX : isC σ e st X) {Q : Int32 → cS → Prop} (hQ : ∀ v X', isC σ e (lk (nk B e K S tk) st).2 X' → (∀ κ, (lk (nk B e K S tk) st).1 = some κ → v = σ.2.1 7 κ) → Q v X') : C_X3_readName_w b k Q X := by
  have he := h.he
  intro v4 e4
  cases st with
  | inl a =>
    obtain ⟨ha, rfl⟩ := hX
    have e4 : v4 = nI a := e4
    subst e4
    refine c_kn (s := 7) h (hK a rfl) ha (Or.inr (Or.inr rfl)) (fun κ a' e9 => ⟨hr2, ?_⟩) (fun r u a' ha' e9 => ⟨hr2, ?_⟩)
    · have hk := kn_B e9
      obtain ⟨t, ht, et, hiff⟩ := htk a rfl κ (by omega) (by omega) (by rw [hk.2.1]; exact hk.2.2.2.2.1)
      rw [et]
      refine ⟨fun h8 => absurd h8 (nI_pos (by omega)), fun _ => ⟨fun h8 => ?_, fun _ => ⟨vp_in_nI ht (by omega), ?_⟩⟩⟩
      · have := (nI_leI (a := 192) (by omega) (by omega)).mp h8
        omega
      · show (σ.2.1 3 (nI t).toNatClampNeg = -1 → _) ∧ (¬ σ.2.1 3 (nI t).toNatClampNeg = -1 → _)
        rw [nI_clamp (by omega)]
        refine ⟨fun h8 => ?_, fun h8 => ?_⟩
        · have hE := nk_1 e9 (fun q => hiff.mp q h8)
          rw [lk_1 hE] at hQ
          exact hQ _ _ ⟨by omega, rfl⟩ (fun κ' e' => by cases e'; rw [et])
        · have hE := nk_2 e9 (hiff.mpr h8)
          rw [lk_0 hE] at hQ
          exact c_ref_ok (r := 9) (s := a) (hQ _ _ ⟨⟨Nat.le_of_ble_eq_true rfl, Nat.le_of_ble_eq_true rfl, ha⟩, a', by omega, rfl⟩ (fun κ' e' => by cases e'))
    · rw [lk_0 (nk_0 (tk := tk) e9)] at hQ
      refine ⟨fun _ => ⟨fun _ => ?_, fun h8 => absurd rfl h8⟩, fun h8 => absurd neg1 h8⟩
      exact hQ _ _ ⟨(gd_kn B e K S 7 a ha).2 _ _ e9, a', ha', rfl⟩ (fun κ' e' => by cases e')
  | inr q =>
    obtain ⟨hq, a, ha, rfl⟩ := hX
    refine c_kn_f (nI_fq he hq) ⟨hr2, fun _ => ⟨fun _ => ?_, fun h8 => absurd rfl h8⟩, fun h8 => absurd neg1 h8⟩
    exact hQ _ _ ⟨hq, a, ha, rfl⟩ (fun κ' e' => by cases e')
theorem kns_ok {B : Nat → Nat} {e K : Nat} {S : Nat → Nat} {s a0 : Nat} : ∀ m a, itr (lf (kn B e K S s)) m (.inl a0) = .inl a → a = a0 + m ∧ ∀ i, i < m → a0 + i < e ∧ 1 ≤ B (a0 + i) ∧ B (a0 + i) ≤ K ∧ S (B (a0 + i)) = s := by
  intro m
  induction m with
  | zero => intro a h; cases h; exact ⟨rfl, fun i hi => absurd hi (Nat.not_lt_zero _)⟩
  | succ m ih =>
    intro a h
    obtain ⟨a1, v, e1, h2, -⟩ := lk_ok (f := kn B e K S s) h
    obtain ⟨e2, hall⟩ := ih a1 e1
    have := kn_B h2
    refine ⟨by omega, fun i hi => ?_⟩
    rcases Nat.lt_or_ge i m with h7 | h7
    · exact hall i h7
    · have : i = m := by omega
      subst this
      rw [← e2]
      exact ⟨this.1, this.2.2.1, this.2.2.2.1, this.2.2.2.2.1⟩
theorem am_le (B : Nat → Nat) (e m : Nat) (st : St) : (lk (am B e m) st).1.getD 0 ≤ m := by
  cases st with
  | inr q => exact Nat.zero_le _
  | inl a =>
    cases h1 : am B e m a with
    | inr q => rw [lk_0 h1]; exact Nat.zero_le _
    | inl p => rw [lk_1 (v := p.1) (a' := p.2) h1]; have := am_B (v := p.1) (a' := p.2) h1; show p.1 ≤ m; omega
theorem am_0f {B : Nat → Nat} {e m : Nat} {st : St} {q : Nat × Nat} (h : (lk (am B e m) st).2 = .inr q) : (lk (am B e m) st).1.getD 0 = 0 := by
  cases st with
  | inr q => rfl
  | inl a =>
    cases h1 : am B e m a with
    | inr q => rw [lk_0 h1]; rfl
    | inl p => rw [lk_1 (v := p.1) (a' := p.2) h1] at h; cases h
set_option maxHeartbeats 1000000 in
theorem C_faces {b : Nat → Nat} {k : Nat → ClassId} {σ : cS} {τ : rS} {B : Nat → Nat} {e c K : Nat} {S : Nat → Nat} {st : St} (h : PB b σ τ B e c) (hK : ∀ a, st = .inl a → TB σ τ c K S) {L : va_W} {X : cS} (hX : isC (wp σ L) e st X) {Q : Option Nat → cS → Prop} (hQ : ∀ q L' X' f, isC (wp σ L') e (itr (lf (kn B e K S 7)) ((lk (am B e 4) st).1.getD 0) (lk (am B e 4) st).2) X' → grows L L' → L'[L.length]? = some (q, .inl (k 0, (lk (am B e 4) st).1.getD 0, .inl f)) → (∀ a1, itr (lf (kn B e K S 7)) ((lk (am B e 4) st).1.getD 0) (lk (am B e 4) st).2 = .inl a1 → ∃ a, (lk (am B e 4) st).2 = .inl a ∧ ∀ i, i < (lk (am B e 4) st).1.getD 0 → f i = σ.2.1 7 (B (a + i))) → Q (some q) X') : C_X3_readInterfaces_w b k 1 4 Q X := by
  refine C_am (σ := wp σ L) (most := 4) h (by omega) hX (fun X1 hX1 => ?_)
  have hn4 := am_le B e 4 st
  have hKs : ∀ a, (lk (am B e 4) st).2 = .inl a → TB σ τ c K S := fun a ea => by
    obtain ⟨a1, v, e1, -⟩ := lk_ok ea
    exact hK a1 e1
  generalize hst1 : (lk (am B e 4) st).2 = st1 at hX1 hQ hKs
  generalize hm : (lk (am B e 4) st).1.getD 0 = n at hn4 hQ ⊢
  have cn : (nI n).toNatClampNeg = n := nI_clamp (by omega)
  refine ⟨nI_pos (by omega), by rw [cn]; omega, by omega, by rw [cn]; omega, fun q5 t5 e5 => ?_⟩
  rw [cn] at e5 ⊢
  have h5 := isC_sN hX1 (q5, .inl (k 0, n, .inl (fun _ => 0)))
  rw [← e5] at h5
  have hcell : (L ++ [(q5, Sum.inl (k 0, n, Sum.inl (fun _ => 0)))] : va_W)[L.length]? = some (q5, .inl (k 0, n, .inl (fun _ => 0))) := by simp
  have hga := grows_app L [(q5, Sum.inl (k 0, n, Sum.inl (fun _ => 0)))]
  generalize (L ++ [(q5, Sum.inl (k 0, n, Sum.inl (fun _ => 0)))] : va_W) = L0 at h5 hcell hga
  have hkf : ∀ q, lf (kn B e K S 7) (.inr q) = .inr q := lf_f _
  refine fx_ex (C_X3_readInterfaces_b10_f b k 1 4 Q) (fun z => ∃ (i : Nat) (f : Nat → Int32) (M : va_W) (Y : cS), z = (some q5, nI i, 0 + 1, 0 + n, Y) ∧ i ≤ n ∧ isC (wp σ M) e (itr (lf (kn B e K S 7)) i st1) Y ∧ grows L M ∧ M[L.length]? = some (q5, .inl (k 0, n, .inl f)) ∧ ∀ a1, itr (lf (kn B e K S 7)) i st1 = .inl a1 → ∃ a, st1 = .inl a ∧ ∀ j, j < i → f j = σ.2.1 7 (B (a + j))) (fun z => 5 - z.2.1.toNatClampNeg) ?_ _ ⟨0, _, L0, t5, rfl, Nat.zero_le _, h5, hga, hcell, fun a1 e1 => ⟨a1, e1, fun j hj => absurd hj (Nat.not_lt_zero _)⟩⟩
  rintro K0 _ ⟨i, f, M, Y, rfl, hi, hY, hg, hc1, hf⟩ hK0
  show C_X3_readInterfaces_b10_s b k 1 4 Q (fun x1 x2 nc ns σ => K0 (x1, x2, nc, ns, σ)) (some q5) (nI i) (0 + 1) (0 + n) Y
  have eL := isC_L hY
  refine ⟨n, f, ⟨q5, L.length, rfl, by rw [eL]; exact hc1⟩, fun h9 => ?_, fun h9 => ?_⟩
  · have : i = n := by have := (nI_leI (a := n) (b := i) (by omega) (by omega)).mp h9; omega
    subst this
    exact hQ q5 M Y f hY hg hc1 hf
  · have hin : i < n := by
      rcases Nat.lt_or_ge i n with h7 | h7
      · exact h7
      · exact absurd (nI_le h7 (by omega)) h9
    refine C_kn (σ := wp σ M) (K := K) (S := S) (s := 7) h (fun a ea => ?_) (Or.inr (Or.inr rfl)) hY (fun X2 hX2 => ?_)
    · obtain ⟨a0, ea0, -⟩ := hf a ea
      exact hKs a0 ea0
    · have eL2 := isC_L hX2
      refine ⟨q5, L.length, n, f, rfl, by rw [eL2]; exact hc1, vp_in_nI hin (by omega), fun t23 e23 v24 e24 => ?_⟩
      rw [nI_clamp (by omega)] at e23
      rw [nI_1] at e24
      subst e24
      have h23 := isC_sP hX2 L.length (q5, .inl (k 0, n, .inl (upd f i (nv (wp σ M) (lk (kn B e K S 7) (itr (lf (kn B e K S 7)) i st1)).1))))
      rw [← e23] at h23
      refine hK0 (some q5, nI (i + 1), 0 + 1, 0 + n, t23) ⟨i + 1, _, _, t23, rfl, hin, h23, grows_set hg (Nat.le_refl _) _, get_set hc1, fun a1 e1 => ?_⟩ ?_
      · obtain ⟨a2, v, e2, h2, h3⟩ := lk_ok (f := kn B e K S 7) e1
        obtain ⟨a, ea, hall⟩ := hf a2 e2
        refine ⟨a, ea, fun j hj => ?_⟩
        rcases Nat.lt_or_ge j i with h7 | h7
        · rw [pk_un (by omega)]; exact hall j h7
        · have : j = i := by omega
          subst this
          rw [pk_us, h3]
          rw [ea] at e2
          have := (kns_ok j a2 e2).1
          have hk := kn_B h2
          show σ.2.1 7 v = _
          rw [hk.2.1, this]
      · show 5 - (nI (i + 1)).toNatClampNeg < 5 - (nI i).toNatClampNeg
        rw [nI_clamp (by omega), nI_clamp (by omega)]; omega
theorem annE_f (B : Nat → Nat) (e K : Nat) (S : Nat → Nat) (r : Nat) (q : Nat × Nat) : annE B e K S r (.inr q) = .inr q := rfl
theorem annE_ok {B : Nat → Nat} {e K : Nat} {S : Nat → Nat} {r a a' : Nat} (ha : a ≤ e) (h : annE B e K S r (.inl a) = .inl a') : a + 2 ≤ a' ∧ a' ≤ e ∧ (lk (kn B e K S 7) (.inl a)).2 = .inl (a + 1) ∧ a + 1 < e := by
  cases h1 : (lk (kn B e K S 7) (.inl a)).2 with
  | inr q => unfold annE at h; rw [h1] at h; cases h
  | inl a1 =>
    obtain ⟨a0, v, e1, h2, -⟩ := lk_ok h1
    cases e1
    have hk := kn_B h2
    have ea : a1 = a + 1 := hk.2.2.2.2.2
    subst ea
    unfold annE at h
    rw [h1] at h
    have g := (stp_ppc (stp_pv B e K S r) (stp_nms B e K S true) (B := B) (most := 4)).2 (a + 1) a' (by omega) h
    exact ⟨by omega, g.2, rfl, by omega⟩
set_option maxHeartbeats 2000000 in
theorem C_anns {b : Nat → Nat} {k : Nat → ClassId} {σ : cS} {τ : rS} {B : Nat → Nat} {e c K : Nat} {S : Nat → Nat} {T : Nat} {yb tc pc : Nat → Int32} (h : PB b σ τ B e c) (hy : ∀ i, i < e → yb (120 * c + i) = nI (B i)) {st : St} (hK : ∀ a, st = .inl a → TB σ τ c K S ∧ NM σ K S T yb tc pc) {L : va_W} {X : cS} (hX : isC (wp σ L) e st X) {Q : Option Nat → cS → Prop} (hQ : ∀ q L' X' vs, isC (wp σ L') e (itr (annE B e K S 4) ((lk (am B e 4) st).1.getD 0) (lk (am B e 4) st).2) X' → grows L L' → L'[L.length]? = some (q, .inl (k 3, (lk (am B e 4) st).1.getD 0, .inr (.inr (.inr (.inr vs))))) → (∀ a1, itr (annE B e K S 4) ((lk (am B e 4) st).1.getD 0) (lk (am B e 4) st).2 = .inl a1 → ∀ i, i < (lk (am B e 4) st).1.getD 0 → ∃ (a a' s : Nat) (pp : Option Nat), itr (annE B e K S 4) i (lk (am B e 4) st).2 = .inl a ∧ a' ≤ e ∧ 1 ≤ B a ∧ B a ≤ 12 ∧ s < T ∧ tc (B a) = nI s ∧ a + 1 < a' ∧ ∀ L'', gfrom L.length L' L'' → vo L'' (vs i) 5 (nI s) pp ∧ vParts (vw k (b 14) L'' T yb tc pc 4) k L'' T yb tc true pp (B (a + 1)) (120 * c + a + 2) (120 * c + a')) → Q (some q) X') : C_X3_readAnnotations_w b k 501 2004 Q X := by
  have he := h.he
  refine C_am (σ := wp σ L) (most := 4) h (by omega) hX (fun X1 hX1 => ?_)
  have hn4 := am_le B e 4 st
  have hKs : ∀ a, (lk (am B e 4) st).2 = .inl a → TB σ τ c K S ∧ NM σ K S T yb tc pc := fun a ea => by
    obtain ⟨a1, v, e1, -⟩ := lk_ok ea
    exact hK a1 e1
  generalize hst1 : (lk (am B e 4) st).2 = st1 at hX1 hQ hKs
  generalize hm : (lk (am B e 4) st).1.getD 0 = n at hn4 hQ ⊢
  have cn : (nI n).toNatClampNeg = n := nI_clamp (by omega)
  refine ⟨nI_pos (by omega), by rw [cn]; omega, by omega, by rw [cn]; omega, fun q5 t5 e5 => ?_⟩
  rw [cn] at e5 ⊢
  have h5 := isC_sN hX1 (q5, .inl (k 3, n, .inr (.inr (.inr (.inr (fun _ => none))))))
  rw [← e5] at h5
  have hcell : (L ++ [(q5, Sum.inl (k 3, n, Sum.inr (Sum.inr (Sum.inr (Sum.inr (fun _ => none))))))] : va_W)[L.length]? = some (q5, .inl (k 3, n, .inr (.inr (.inr (.inr (fun _ => none)))))) := by simp
  have hga := grows_app L [(q5, Sum.inl (k 3, n, Sum.inr (Sum.inr (Sum.inr (Sum.inr (fun _ => none))))))]
  have hlen : (L ++ [(q5, Sum.inl (k 3, n, Sum.inr (Sum.inr (Sum.inr (Sum.inr (fun _ => none))))))] : va_W).length = L.length + 1 := by simp
  generalize (L ++ [(q5, Sum.inl (k 3, n, Sum.inr (Sum.inr (Sum.inr (Sum.inr (fun _ => none))))))] : va_W) = L0 at h5 hcell hga hlen
  have haf : ∀ q, annE B e K S 4 (.inr q) = .inr q := annE_f B e K S 4
  have hVL := C_val (k := k) (T := T) (K := K) (S := S) (tc := tc) (pc := pc) h hy 4 (by omega)
  refine fx_ex (C_X3_readAnnotations_b11_f b k 501 2004 Q) (fun z => ∃ (i nc ns : Nat) (vs : Nat → Option Nat) (M : va_W) (Y : cS), z = (some q5, nI i, nc, ns, Y) ∧ i ≤ n ∧ isC (wp σ M) e (itr (annE B e K S 4) i st1) Y ∧ grows L M ∧ L.length + 1 ≤ M.length ∧ M[L.length]? = some (q5, .inl (k 3, n, .inr (.inr (.inr (.inr vs))))) ∧ ns ≤ 4 * nc ∧ (∀ a1, itr (annE B e K S 4) i st1 = .inl a1 → nc ≤ 1 + 4 * a1) ∧ (∀ q, itr (annE B e K S 4) i st1 = .inr q → nc ≤ 485 + 4 * i) ∧ ∀ a1, itr (annE B e K S 4) i st1 = .inl a1 → ∀ j, j < i → ∃ (a a' s : Nat) (pp : Option Nat), itr (annE B e K S 4) j st1 = .inl a ∧ a' ≤ e ∧ 1 ≤ B a ∧ B a ≤ 12 ∧ s < T ∧ tc (B a) = nI s ∧ a + 1 < a' ∧ ∀ L'', gfrom (L.length + 1) M L'' → vo L'' (vs j) 5 (nI s) pp ∧ vParts (vw k (b 14) L'' T yb tc pc 4) k L'' T yb tc true pp (B (a + 1)) (120 * c + a + 2) (120 * c + a')) (fun z => 5 - z.2.1.toNatClampNeg) ?_ _ ⟨0, 0 + 1, 0 + n, _, L0, t5, rfl, Nat.zero_le _, h5, hga, by omega, hcell, by omega, fun a1 _ => by omega, fun q _ => by omega, fun a1 e1 j hj => absurd hj (Nat.not_lt_zero _)⟩
  rintro K0 _ ⟨i, nc, ns, vs, M, Y, rfl, hi, hY, hg, hlM, hc1, hns, hnc1, hnc2, hf⟩ hK0
  show C_X3_readAnnotations_b11_s b k 501 2004 Q (fun x1 x2 nc ns σ => K0 (x1, x2, nc, ns, σ)) (some q5) (nI i) nc ns Y
  have eL := isC_L hY
  refine ⟨n, vs, ⟨q5, L.length, rfl, by rw [eL]; exact hc1⟩, fun h9 => ?_, fun h9 => ?_⟩
  · have : i = n := by have := (nI_leI (a := n) (b := i) (by omega) (by omega)).mp h9; omega
    subst this
    refine hQ q5 M Y vs hY hg hc1 (fun a1 e1 j hj => ?_)
    obtain ⟨a, a', s, pp, w1, w2, w3, w4, w5, w6, w7, w8⟩ := hf a1 e1 j hj
    exact ⟨a, a', s, pp, w1, w2, w3, w4, w5, w6, w7, fun L'' hL'' => w8 L'' (gfrom_le (by omega) hL'')⟩
  · have hin : i < n := by
      rcases Nat.lt_or_ge i n with h7 | h7
      · exact h7
      · exact absurd (nI_le h7 (by omega)) h9
    have hs1 : ∀ a, itr (annE B e K S 4) i st1 = .inl a → ∃ a0, st1 = .inl a0 := fun a ea => itr_ok haf (i := 0) (Nat.zero_le _) ea
    have hstep : itr (annE B e K S 4) (i + 1) st1 = annE B e K S 4 (itr (annE B e K S 4) i st1) := rfl
    generalize hsu : itr (annE B e K S 4) i st1 = su at hY hnc1 hnc2 hf hs1 hstep
    have hcost : nc + (1 + wpp e (lk (kn B e K S 7) su).2 (annE B e K S 4 su)) ≤ 501 ∧ (∀ a1, annE B e K S 4 su = .inl a1 → nc + (1 + wpp e (lk (kn B e K S 7) su).2 (annE B e K S 4 su)) ≤ 1 + 4 * a1) ∧ (∀ q, annE B e K S 4 su = .inr q → nc + (1 + wpp e (lk (kn B e K S 7) su).2 (annE B e K S 4 su)) ≤ 485 + 4 * (i + 1)) := by
      cases su with
      | inr q =>
        have := hnc2 q rfl
        show nc + (1 + 3) ≤ 501 ∧ (∀ a1, (Sum.inr q : St) = .inl a1 → _) ∧ (∀ q', (Sum.inr q : St) = .inr q' → nc + (1 + 3) ≤ _)
        exact ⟨by omega, fun a1 e1 => (by cases e1), fun _ _ => by omega⟩
      | inl a =>
        have hae := hY.1
        have := hnc1 a rfl
        cases hE : annE B e K S 4 (.inl a) with
        | inl a' =>
          obtain ⟨w1, w2, w3, w4⟩ := annE_ok hae hE
          rw [w3]
          show nc + (1 + 4 * (a' - (a + 1))) ≤ 501 ∧ (∀ a1, (Sum.inl a' : St) = .inl a1 → nc + (1 + 4 * (a' - (a + 1))) ≤ 1 + 4 * a1) ∧ _
          exact ⟨by omega, fun a1 e1 => (by cases e1; omega), fun q e1 => (by cases e1)⟩
        | inr q =>
          have hw : 1 + wpp e (lk (kn B e K S 7) (.inl a)).2 (.inr q) ≤ 4 * (e - a) + 4 := by
            cases h1 : (lk (kn B e K S 7) (.inl a)).2 with
            | inr q' => show 1 + 3 ≤ _; omega
            | inl a1 =>
              obtain ⟨a0, v, e1, h2, -⟩ := lk_ok h1
              cases e1
              have hk := kn_B h2
              show 1 + (4 * (e - a1) + 6) ≤ _
              omega
          exact ⟨by omega, fun a1 e1 => (by cases e1), fun q e1 => (by omega)⟩
    obtain ⟨hc1', hc2, hc3⟩ := hcost
    generalize hw : 1 + wpp e (lk (kn B e K S 7) su).2 (annE B e K S 4 su) = w at hc1' hc2 hc3
    refine ⟨w, 4 * w, by omega, by omega, C_ann (d := 1) h hy hVL hY (fun a ea => ?_) (by omega) (by omega) (fun o L' X' hX' hA => ?_)⟩
    · obtain ⟨a0, ea0⟩ := hs1 a ea
      exact hKs a0 ea0
    · obtain ⟨gA, pA', hA⟩ := hA
      have eL2 := isC_L hX'
      have hc2' := gA _ _ hc1
      refine ⟨q5, L.length, n, vs, rfl, by rw [eL2]; exact hc2', vp_in_nI hin (by omega), by rw [eL2]; exact pA', fun t24 e24 v25 e25 => ?_⟩
      rw [nI_clamp (by omega)] at e24
      rw [nI_1] at e25
      subst e25
      have h24 := isC_sP hX' L.length (q5, .inl (k 3, n, .inr (.inr (.inr (.inr (va_up vs i o))))))
      rw [← e24] at h24
      have gl := grows_len gA
      have gf2 : gfrom (L.length + 1) M (L'.set L.length (q5, .inl (k 3, n, .inr (.inr (.inr (.inr (va_up vs i o))))))) := gfrom_trans (gfrom_grows _ gA) (gfrom_set _ _ (by omega))
      refine hK0 (some q5, nI (i + 1), nc + w, ns + 4 * w, t24) ⟨i + 1, nc + w, ns + 4 * w, va_up vs i o, _, t24, rfl, hin, by rw [hstep]; exact h24, grows_set (grows_trans hg gA) (Nat.le_refl _) _, by simp; omega, get_set hc2', by omega, fun a1 e1 => ?_, fun q eq => ?_, fun a1 e1 j hj => ?_⟩ ?_
      · rw [hstep] at e1; exact hc2 a1 e1
      · rw [hstep] at eq; exact hc3 q eq
      · rw [hstep] at e1
        cases hsu' : su with
        | inr q => rw [hsu'] at e1; cases e1
        | inl a =>
          rcases Nat.lt_or_ge j i with h7 | h7
          · obtain ⟨x, x', s, pp, w1, w2, w3, w4, w5, w6, w7, w8⟩ := hf a hsu' j h7
            refine ⟨x, x', s, pp, w1, w2, w3, w4, w5, w6, w7, fun L'' hL'' => ?_⟩
            rw [va_up_ne _ _ (by omega)]
            exact w8 L'' (gfrom_trans gf2 hL'')
          · have : j = i := by omega
            subst this
            obtain ⟨s, pp, w1, w2, w3, w4, w5, w6⟩ := hA a a1 hsu' e1
            rw [hsu'] at e1 hsu hY
            have ha1 := (annE_ok hY.1 e1).2.1
            refine ⟨a, a1, s, pp, hsu, ha1, w1, w2, w3, w4, w5, fun L'' hL'' => ?_⟩
            rw [va_up_self]
            exact w6 L'' (gfrom_trans (gfrom_set (m := M.length) L' (q5, .inl (k 3, n, .inr (.inr (.inr (.inr (va_up vs j o)))))) (j := L.length) (by omega)) (gfrom_le (by omega) hL''))
      · show 5 - (nI (i + 1)).toNatClampNeg < 5 - (nI i).toNatClampNeg
        rw [nI_clamp (by omega), nI_clamp (by omega)]; omega
