/-! the parse: rows, annotations, values, class side -/
def annE (B : Nat → Nat) (e K : Nat) (S : Nat → Nat) (r : Nat) (st : St) : St := ppc (pv B e K S r) (nms B e K S true) (lk (am B e 4) (lk (kn B e K S 7) st).2)
def AQ (k : Nat → ClassId) (np T : Nat) (B : Nat → Nat) (yb tc pc : Nat → Int32) (r c : Nat) (L : va_W) (o : Option Nat) (L' : va_W) (st st' : St) : Prop := grows L L' ∧ pO L' o 5 ∧ ∀ a a', st = .inl a → st' = .inl a' → ∃ (s : Nat) (pp : Option Nat), 1 ≤ B a ∧ B a ≤ 12 ∧ s < T ∧ tc (B a) = nI s ∧ a + 1 < a' ∧ ∀ L'', gfrom L.length L' L'' → vo L'' o 5 (nI s) pp ∧ vParts (vw k np L'' T yb tc pc r) k L'' T yb tc true pp (B (a + 1)) (120 * c + a + 2) (120 * c + a')
theorem C_row {b : Nat → Nat} {k : Nat → ClassId} {σ : cS} {τ : rS} {B : Nat → Nat} {e c K : Nat} {S : Nat → Nat} {T : Nat} {yb tc pc : Nat → Int32} (h : PB b σ τ B e c) (hy : ∀ i, i < e → yb (120 * c + i) = nI (B i)) {RV : Nat → Nat → (Option Nat → cS → Prop) → Int32 → cS → Prop} {r d : Nat} (hV : VLem b k σ τ B e c K S T yb tc pc RV r d) {L : va_W} {st : St} {X : cS} {Q : Option Nat → cS → Prop} {MC MS : Nat} (hX : isC (wp σ L) e st X) (hK : ∀ a, st = .inl a → TB σ τ c K S ∧ NM σ K S T yb tc pc) (hMC : 1 + wpp e st (ppc (pv B e K S r) (nms B e K S false) (lk (am B e 4) st)) ≤ MC) (hMS : 4 * (1 + wpp e st (ppc (pv B e K S r) (nms B e K S false) (lk (am B e 4) st))) ≤ MS) (hQ : ∀ o L' X', isC (wp σ L') e (ppc (pv B e K S r) (nms B e K S false) (lk (am B e 4) st)) X' → grows L L' → pO L' o 5 → (∀ a a', st = .inl a → ppc (pv B e K S r) (nms B e K S false) (lk (am B e 4) st) = .inl a' → ∀ L'', gfrom L.length L' L'' → ∃ pp, vo L'' o 4 (nI (B a)) pp ∧ vParts (vw k (b 14) L'' T yb tc pc r) k L'' T yb tc false pp (B a) (120 * c + a + 1) (120 * c + a')) → Q o X') : C_X3_readRow_w b k RV MC MS Q (nI d) X := by
  refine ⟨wpp e st (ppc (pv B e K S r) (nms B e K S false) (lk (am B e 4) st)), 4 * wpp e st (ppc (pv B e K S r) (nms B e K S false) (lk (am B e 4) st)), by omega, by omega, ?_⟩
  refine C_parts h hy hV false hX hK (Nat.le_refl _) (Nat.le_refl _) (fun pp L1 X1 hX1 hP => ⟨by omega, by omega, fun q7 t7 e7 => ?_⟩)
  obtain ⟨g1, ⟨q, j, jv, an, av, vs, ep, hj, hjv⟩, hv⟩ := hP
  have h7 := isC_sN hX1 (q7, .inr (5, [.int 0, .int 0, .null]))
  rw [← e7] at h7
  have eL := isC_L h7
  refine ⟨some av, ⟨q, j, _, ep, by rw [eL]; exact grows_app _ _ _ _ hj, rfl⟩, _, vs, ⟨av, jv, rfl, by rw [eL]; exact grows_app _ _ _ _ hjv⟩, ?_⟩
  have hcell : (L1 ++ [(q7, Sum.inr (5, [Value.int 0, Value.int 0, Value.null]))] : va_W)[L1.length]? = some (q7, .inr (5, [.int 0, .int 0, .null])) := by simp
  have gl := grows_len g1
  refine c_X5 hcell h7 (fun X' hX' => hQ (some q7) _ X' hX' (grows_set (grows_trans g1 (grows_app _ _)) gl _) ⟨q7, rfl, L1.length, _, get_set hcell⟩ (fun a a' ea ea' L'' hL'' => ⟨pp, ⟨q7, L1.length, rfl, ?_⟩, ?_⟩))
  · have := hL'' L1.length _ gl (get_set hcell)
    rw [this, ← (hv a a' ea ea').1]
    rfl
  · have := (hv a a' ea ea').2.2 L'' (fun i p hi hp => hL'' i p hi (get_setn (grows_app _ _ _ _ hp) (by have := lt_of_some hp; omega)))
    rw [(hv a a' ea ea').1] at this
    exact this
theorem C_ann {b : Nat → Nat} {k : Nat → ClassId} {σ : cS} {τ : rS} {B : Nat → Nat} {e c K : Nat} {S : Nat → Nat} {T : Nat} {yb tc pc : Nat → Int32} (h : PB b σ τ B e c) (hy : ∀ i, i < e → yb (120 * c + i) = nI (B i)) {RV : Nat → Nat → (Option Nat → cS → Prop) → Int32 → cS → Prop} {r d : Nat} (hV : VLem b k σ τ B e c K S T yb tc pc RV r d) {L : va_W} {st : St} {X : cS} {Q : Option Nat → cS → Prop} {MC MS : Nat} (hX : isC (wp σ L) e st X) (hK : ∀ a, st = .inl a → TB σ τ c K S ∧ NM σ K S T yb tc pc) (hMC : 1 + wpp e (lk (kn B e K S 7) st).2 (annE B e K S r st) ≤ MC) (hMS : 4 * (1 + wpp e (lk (kn B e K S 7) st).2 (annE B e K S r st)) ≤ MS) (hQ : ∀ o L' X', isC (wp σ L') e (annE B e K S r st) X' → AQ k (b 14) T B yb tc pc r c L o L' st (annE B e K S r st) → Q o X') : C_X3_readAnnotation_w b k RV MC MS Q (nI d) X := by
  unfold C_X3_readAnnotation_w C_X3_readAnnotation_b0
  refine C_kn (σ := wp σ L) (s := 7) h (fun a ea => (hK a ea).1) (Or.inr (Or.inr rfl)) hX (fun X1 hX1 => ?_)
  refine ⟨by omega, by omega, fun q6 t6 e6 => ?_⟩
  have h6 := isC_sN hX1 (q6, .inr (5, [.int 0, .int 0, .null]))
  rw [← e6] at h6
  have hcell : (L ++ [(q6, Sum.inr (5, [Value.int 0, Value.int 0, Value.null]))] : va_W)[L.length]? = some (q6, .inr (5, [.int 0, .int 0, .null])) := by simp
  have hlen : (L ++ [(q6, Sum.inr (5, [Value.int 0, Value.int 0, Value.null]))] : va_W).length = L.length + 1 := by simp
  have hga := grows_app L [(q6, Sum.inr (5, [Value.int 0, Value.int 0, Value.null]))]
  generalize (L ++ [(q6, Sum.inr (5, [Value.int 0, Value.int 0, Value.null]))] : va_W) = L0 at h6 hcell hlen hga
  refine ⟨wpp e (lk (kn B e K S 7) st).2 (annE B e K S r st), 4 * wpp e (lk (kn B e K S 7) st).2 (annE B e K S r st), by omega, by omega, ?_⟩
  refine C_parts h hy hV true h6 (fun a ea => ?_) (Nat.le_refl _) (Nat.le_refl _) (fun pp L1 X1' hX1' hP => ?_)
  · obtain ⟨a1, v, e1, -⟩ := lk_ok ea
    exact hK a1 e1
  · obtain ⟨g1, -, hv⟩ := hP
    have hc1 := g1 _ _ hcell
    refine c_X5 hc1 hX1' (fun X' hX' => hQ (some q6) _ X' hX' ⟨grows_set (grows_trans hga g1) (Nat.le_refl _) _, ⟨q6, rfl, L.length, _, get_set hc1⟩, fun a a' ea ea' => ?_⟩)
    have h1 : ∃ a1, (lk (kn B e K S 7) st).2 = .inl a1 := by
      cases h2 : (lk (kn B e K S 7) st).2 with
      | inl a1 => exact ⟨a1, rfl⟩
      | inr q =>
        have : annE B e K S r st = .inr q := by unfold annE; rw [h2]; rfl
        rw [this] at ea'; cases ea'
    obtain ⟨a1, h1⟩ := h1
    obtain ⟨a0, v, e1, h2, h3⟩ := lk_ok h1
    rw [ea] at e1
    cases e1
    have hk := kn_B h2
    obtain ⟨en, hlt, hv⟩ := hv a1 a' h1 ea'
    have hN := (hK a ea).2 v (by omega) (by omega)
    obtain ⟨s, hs, ets, enm⟩ := hN.2 (by rw [hk.2.1, hk.2.2.2.2.1]; omega)
    have hK12 := (hK a ea).1.1
    have ea1 : a1 = a + 1 := hk.2.2.2.2.2
    subst ea1
    refine ⟨s, pp, by omega, by omega, hs, by rw [← hk.2.1]; exact ets, hlt, fun L'' hL'' => ⟨⟨q6, L.length, rfl, ?_⟩, ?_⟩⟩
    · have := hL'' L.length _ (Nat.le_refl _) (get_set hc1)
      rw [this]
      have : nv (wp σ L) (lk (kn B e K S 7) st).1 = nI s := by rw [h3]; exact enm
      rw [this]
    · have := hv L'' (fun i p hi hp => hL'' i p (by omega) (get_setn hp (by omega)))
      rw [en] at this
      exact this
theorem wv_1 (e : Nat) {a : Nat} {st' : St} (ha : a < e) (h : ∀ a', st' = .inl a' → a < a') : 1 ≤ wv e (.inl a) st' := by
  cases st' with
  | inl a' => have := h a' rfl; show 1 ≤ 4 * (a' - a); omega
  | inr q => show 1 ≤ 4 * (e - a) + 4; omega
set_option maxHeartbeats 2000000 in
theorem C_val {b : Nat → Nat} {k : Nat → ClassId} {σ : cS} {τ : rS} {B : Nat → Nat} {e c K : Nat} {S : Nat → Nat} {T : Nat} {yb tc pc : Nat → Int32} (h : PB b σ τ B e c) (hy : ∀ i, i < e → yb (120 * c + i) = nI (B i)) : ∀ r, r ≤ 4 → VLem b k σ τ B e c K S T yb tc pc (rvN b k (r + 1)) r (5 - r) := by
  have he := h.he
  -- a value without a kind
  have non : ∀ (L : va_W) (st' : St) (X' : cS) (Q : Option Nat → cS → Prop), isC (wp σ L) e st' X' → (∀ o L' Y, isC (wp σ L') e st' Y → grows L L' → pO L' o 5 → Q o Y) → ∀ (q : Nat) (t : cS), t = sN X' (q, .inr (5, [.int 0, .int 0, .null])) → C_X5_init_w b k q (fun t' => Q (some q) t') 0 0 (some (b 14)) t := by
    intro L st' X' Q hX' hQ q t et
    have ht := isC_sN hX' (q, .inr (5, [.int 0, .int 0, .null]))
    rw [← et] at ht
    have hcell : (L ++ [(q, Sum.inr (5, [Value.int 0, Value.int 0, Value.null]))] : va_W)[L.length]? = some (q, .inr (5, [.int 0, .int 0, .null])) := by simp
    exact c_X5 hcell ht (fun Y hY => hQ (some q) _ Y hY (grows_set (grows_app _ _) (Nat.le_refl _) _) ⟨q, rfl, L.length, _, get_set hcell⟩)
  -- a value of one constant
  have one : ∀ (s : Nat) (hs : okS s) (kd : Int32) (L : va_W) (st1 : St) (X1 : cS) (Q : Option Nat → cS → Prop), isC (wp σ L) e st1 X1 → (∀ a, st1 = .inl a → TB σ τ c K S ∧ NM σ K S T yb tc pc) → (∀ o L' Y, isC (wp σ L') e (lk (kn B e K S s) st1).2 Y → grows L L' → pO L' o 5 → (∀ L'', gfrom L.length L' L'' → vo L'' o kd (nv σ (lk (kn B e K S s) st1).1) (some (b 14))) → Q o Y) → ∀ (q : Nat) (t : cS), t = sN X1 (q, .inr (5, [.int 0, .int 0, .null])) → C_X3_readConstant_w b k (fun r9 t9 => C_X5_init_w b k q (fun t' => Q (some q) t') kd r9 (some (b 14)) t9) (nI (kk s)) t := by
    intro s hs kd L st1 X1 Q hX1 hK hQ q t et
    have ht := isC_sN hX1 (q, .inr (5, [.int 0, .int 0, .null]))
    rw [← et] at ht
    have hcell : (L ++ [(q, Sum.inr (5, [Value.int 0, Value.int 0, Value.null]))] : va_W)[L.length]? = some (q, .inr (5, [.int 0, .int 0, .null])) := by simp
    have hga := grows_app L [(q, Sum.inr (5, [Value.int 0, Value.int 0, Value.null]))]
    generalize (L ++ [(q, Sum.inr (5, [Value.int 0, Value.int 0, Value.null]))] : va_W) = L0 at ht hcell hga
    refine C_kn (σ := wp σ L0) h (fun a ea => (hK a ea).1) hs ht (fun X2 hX2 => ?_)
    refine c_X5 hcell hX2 (fun Y hY => hQ (some q) _ Y hY (grows_set hga (Nat.le_refl _) _) ⟨q, rfl, L.length, _, get_set hcell⟩ (fun L'' hL'' => ⟨q, L.length, rfl, ?_⟩))
    have := hL'' L.length _ (Nat.le_refl _) (get_set hcell)
    exact this
  intro r
  induction r with
  | zero =>
    intro _ L st X Q MC MS hX hK hMC hMS hQ
    show C_X3_readValue_w b k (rvN b k 0) MC MS Q (nI 5) X
    have fin : ∀ (st' : St) (X' : cS), isC (wp σ L) e st' X' → st' = pv B e K S 0 st → 1 ≤ MC ∧ 3 ≤ MS ∧ ∀ (q22 : Nat) (t22 : cS), t22 = sN X' (q22, .inr (5, [.int 0, .int 0, .null])) → C_X5_init_w b k q22 (fun t32 => Q (some q22) t32) (0 : Int32) (0 : Int32) (some (b 14)) t22 := by
      intro st' X' hX' e1
      have hw : 1 ≤ wv e st (pv B e K S 0 st) := by
        cases st with
        | inr q => rw [pv_f]; exact Nat.le_refl _
        | inl a =>
          cases h2 : pv B e K S 0 (.inl a) with
          | inr q => show 1 ≤ 4 * (e - a) + 4; omega
          | inl a' => have := (stp_pv B e K S 0).2 a a' hX.1 h2; show 1 ≤ 4 * (a' - a); omega
      refine ⟨by omega, by omega, non L st' X' Q hX' (fun o L' Y hY g p => hQ o L' Y (by rw [← e1]; exact hY) ⟨g, p, fun a a' ea ea' => ?_⟩)⟩
      exfalso
      rw [ea] at ea'
      simp only [pv] at ea'
      by_cases h1 : a < e
      · rw [if_pos h1] at ea'; cases ea'
      · rw [if_neg h1] at ea'; cases ea'
    intro v ev
    cases st with
    | inr q =>
      obtain ⟨hq, a, ha, rfl⟩ := hX
      refine c_next_f (nI_fq he hq) ⟨fun h9 => absurd h9 (by decide), fun _ => ?_⟩
      refine c_ref_f (nI_fq he hq) ?_
      have := fin (.inr q) (cp (wp σ L) (nI (1000 * q.1 + q.2)) (nI a)) ⟨hq, a, ha, rfl⟩ (pv_f B e K S 0 q).symm
      exact ⟨by omega, by omega, this.2.2⟩
    | inl a =>
      obtain ⟨ha, rfl⟩ := hX
      have ev : v = nI a := ev
      subst ev
      by_cases hlt : a < e
      · refine c_next_ok (σ := wp σ L) h hlt ⟨fun h9 => absurd h9 (by decide), fun _ => ?_⟩
        refine c_ref_ok (r := 7) (s := a) ?_
        have := fin (.inr (7, a)) (cp (wp σ L) (nI (1000 * 7 + a)) (nI (a + 1))) ⟨⟨Nat.le_of_ble_eq_true rfl, Nat.le_of_ble_eq_true rfl, ha⟩, a + 1, by omega, rfl⟩ (by simp only [pv]; rw [if_pos hlt])
        exact ⟨by omega, by omega, this.2.2⟩
      · have : a = e := by omega
        subst this
        refine c_next_end (σ := wp σ L) h ⟨fun h9 => absurd h9 (by decide), fun _ => ?_⟩
        refine c_ref_f (nI_f (r := 1) (s := a) (by omega) (by omega) (by omega)) ?_
        have := fin (.inr (1, a)) (cp (wp σ L) (nI (1000 * 1 + a)) (nI a)) ⟨⟨Nat.le_of_ble_eq_true rfl, Nat.le_of_ble_eq_true rfl, ha⟩, a, ha, rfl⟩ (by simp only [pv]; rw [if_neg hlt])
        exact ⟨by omega, by omega, this.2.2⟩
  | succ r ih =>
    intro hr L st X Q MC MS hX hK hMC hMS hQ
    have ih := ih (by omega)
    show C_X3_readValue_w b k (rvN b k (r + 1)) MC MS Q (nI (5 - (r + 1))) X
    have hd : nI (5 - (r + 1)) + 1 = nI (5 - r) := by rw [nI_1]; congr 1; omega
    have hd5 : nI (5 - (r + 1)) < 5 := nI_lt (b := 5) (by omega) (by omega)
    have hw : 1 ≤ wv e st (pv B e K S (r + 1) st) := by
      cases st with
      | inr q => rw [pv_f]; exact Nat.le_refl _
      | inl a =>
        cases h2 : pv B e K S (r + 1) (.inl a) with
        | inr q => show 1 ≤ 4 * (e - a) + 4; omega
        | inl a' => have := (stp_pv B e K S (r + 1)).2 a a' hX.1 h2; show 1 ≤ 4 * (a' - a); omega
    intro v ev
    cases st with
    | inr q =>
      obtain ⟨hq, a, ha, rfl⟩ := hX
      rw [pv_f] at hQ
      refine c_next_f (nI_fq he hq) ⟨fun _ => ⟨fun h9 => absurd h9 (by decide), fun _ => ⟨fun h9 => absurd h9 (by decide), fun _ => ⟨fun h9 => absurd h9 (by decide), fun _ => ⟨fun h9 => absurd h9 (by decide), fun _ => ⟨fun h9 => absurd h9 (by decide), fun _ => ?_⟩⟩⟩⟩⟩, fun h9 => absurd hd5 h9⟩
      refine c_ref_f (nI_fq he hq) ⟨by omega, by omega, ?_⟩
      exact non L (.inr q) _ Q ⟨hq, a, ha, rfl⟩ (fun o L' Y hY g p => hQ o L' Y hY ⟨g, p, fun a a' ea => by cases ea⟩)
    | inl a =>
      obtain ⟨ha, rfl⟩ := hX
      have ev : v = nI a := ev
      subst ev
      by_cases hlt : a < e
      · have hB := h.by_b a hlt
        have hX1 : isC (wp σ L) e (.inl (a + 1)) (cp (wp σ L) 0 (nI (a + 1))) := ⟨by omega, rfl⟩
        have hK1 : ∀ a', (Sum.inl (a + 1) : St) = .inl a' → TB σ τ c K S ∧ NM σ K S T yb tc pc := fun _ _ => hK a rfl
        have hpv : pv B e K S (r + 1) (.inl a) = (if B a = 73 then (lk (kn B e K S 3) (.inl (a + 1))).2 else if B a = 115 then (lk (kn B e K S 1) (.inl (a + 1))).2 else if B a = 99 then (lk (kn B e K S 7) (.inl (a + 1))).2 else if B a = 91 then ppc (pv B e K S r) (nms B e K S false) (lk (am B e 4) (.inl (a + 1))) else if B a = 64 then ppc (pv B e K S r) (nms B e K S true) (lk (am B e 4) (lk (kn B e K S 7) (.inl (a + 1))).2) else .inr (3, a)) := by simp only [pv]; rw [if_pos hlt]
        have ne : ∀ m : Nat, m < 256 → (nI (B a) = nI m ↔ B a = m) := fun m hm => nI_eq (by omega) (by omega)
        have cons : ∀ s κ a', (lk (kn B e K S s) (.inl (a + 1))).2 = .inl a' → (lk (kn B e K S s) (.inl (a + 1))).1 = some κ → κ = B (a + 1) ∧ 1 ≤ κ ∧ κ ≤ K ∧ K ≤ 12 ∧ S κ = s ∧ a' = a + 2 ∧ a + 1 < e := by
          intro s κ a' h1 h2
          obtain ⟨a1, v, e1, h3, h4⟩ := lk_ok h1
          cases e1
          rw [h4] at h2
          cases h2
          have := kn_B h3
          have hK12 := (hK a rfl).1.1
          exact ⟨this.2.1, by omega, by omega, hK12, by rw [this.2.1]; exact this.2.2.2.2.1, by omega, this.1⟩
        refine c_next_ok (σ := wp σ L) h hlt ⟨fun _ => ⟨fun h64 => ?_, fun n64 => ⟨fun h73 => ?_, fun n73 => ⟨fun h91 => ?_, fun n91 => ⟨fun h99 => ?_, fun n99 => ⟨fun h115 => ?_, fun n115 => ?_⟩⟩⟩⟩⟩, fun h9 => absurd hd5 h9⟩
        · have hb : B a = 64 := (ne 64 (by omega)).mp h64
          have hE : pv B e K S (r + 1) (.inl a) = annE B e K S r (.inl (a + 1)) := by rw [hpv, if_neg (by omega), if_neg (by omega), if_neg (by omega), if_neg (by omega), if_pos hb]; rfl
          rw [hE] at hMC hMS hQ
          have hcost : 1 + wpp e (lk (kn B e K S 7) (.inl (a + 1))).2 (annE B e K S r (.inl (a + 1))) ≤ wv e (.inl a) (annE B e K S r (.inl (a + 1))) := by
            cases h1 : (lk (kn B e K S 7) (.inl (a + 1))).2 with
            | inr q =>
              have : annE B e K S r (.inl (a + 1)) = .inr q := by unfold annE; rw [h1]; rfl
              rw [this]
              show 1 + 3 ≤ 4 * (e - a) + 4
              omega
            | inl a1 =>
              obtain ⟨a0, v, e1, h3, h4⟩ := lk_ok h1
              cases e1
              have := kn_B h3
              cases h2 : annE B e K S r (.inl (a + 1)) with
              | inr q => show 1 + (4 * (e - a1) + 6) ≤ 4 * (e - a) + 4; omega
              | inl a' =>
                have g := (stp_ppc (stp_pv B e K S r) (stp_nms B e K S true) (B := B) (most := 4)).2 a1 a' (by omega) (by unfold annE at h2; rw [h1] at h2; exact h2)
                show 1 + 4 * (a' - a1) ≤ 4 * (a' - a)
                omega
          refine ⟨MC, MS, by omega, by omega, ?_⟩
          rw [hd]
          refine C_ann h hy ih hX1 hK1 (by omega) (by omega) (fun o L' X' hX' hA => hQ o L' X' hX' ?_)
          obtain ⟨g, p, ha⟩ := hA
          refine ⟨g, p, fun a0 a' ea ea' L'' hL'' => ?_⟩
          cases ea
          obtain ⟨s, pp, w1, w2, w3, w4, w5, w6⟩ := ha (a + 1) a' rfl ea'
          obtain ⟨w7, w8⟩ := w6 L'' hL''
          have g5 := vParts_4 w8
          have hlt2 : a + 1 + 1 < e := by
            have := (stp_pv B e K S (r + 1)).2 a a' (by omega) (by rw [hE]; exact ea')
            omega
          exact Or.inr (Or.inr (Or.inr (Or.inr ⟨B (a + 1), s, B (a + 1 + 1), pp, by rw [hy a hlt, hb], hy (a + 1) (by omega), w1, w2, w3, w4, hy (a + 2) hlt2, w7, w8⟩)))
        · have hb : B a = 73 := (ne 73 (by omega)).mp h73
          have hE : pv B e K S (r + 1) (.inl a) = (lk (kn B e K S 3) (.inl (a + 1))).2 := by rw [hpv, if_pos hb]
          rw [hE] at hMC hMS hQ hw
          refine ⟨by omega, by omega, one 3 (Or.inr (Or.inl rfl)) 1 L (.inl (a + 1)) _ Q hX1 hK1 (fun o L' Y hY g p hvo => hQ o L' Y hY ⟨g, p, fun a0 a' ea ea' L'' hL'' => ?_⟩)⟩
          cases ea
          obtain ⟨a1, v, e1, h3, h4⟩ := lk_ok ea'
          cases e1
          obtain ⟨w1, w2, w3, w4, w5, w6, w7⟩ := cons 3 v a' ea' h4
          obtain ⟨pq, epq, hint⟩ := ((hK a rfl).2 v w2 w3).1 w5
          have hvo := hvo L'' hL''
          rw [h4] at hvo
          exact Or.inl ⟨v, pq, σ.2.1 7 v, by rw [hy a hlt, hb], by rw [w1]; exact hy (a + 1) w7, w2, by omega, epq, hint, hvo, by omega⟩
        · have hb : B a = 91 := (ne 91 (by omega)).mp h91
          have hE : pv B e K S (r + 1) (.inl a) = ppc (pv B e K S r) (nms B e K S false) (lk (am B e 4) (.inl (a + 1))) := by rw [hpv, if_neg (by omega), if_neg (by omega), if_neg (by omega), if_pos hb]
          rw [hE] at hMC hMS hQ
          have hcost : 1 + wpp e (.inl (a + 1)) (ppc (pv B e K S r) (nms B e K S false) (lk (am B e 4) (.inl (a + 1)))) ≤ wv e (.inl a) (ppc (pv B e K S r) (nms B e K S false) (lk (am B e 4) (.inl (a + 1)))) := by
            cases h2 : ppc (pv B e K S r) (nms B e K S false) (lk (am B e 4) (.inl (a + 1))) with
            | inr q => show 1 + (4 * (e - (a + 1)) + 6) ≤ 4 * (e - a) + 4; omega
            | inl a' =>
              have g := (stp_ppc (stp_pv B e K S r) (stp_nms B e K S false) (B := B) (most := 4)).2 (a + 1) a' (by omega) h2
              show 1 + 4 * (a' - (a + 1)) ≤ 4 * (a' - a)
              omega
          refine ⟨MC, MS, by omega, by omega, ?_⟩
          rw [hd]
          refine C_row h hy ih hX1 hK1 (by omega) (by omega) (fun o L' X' hX' g p hv => hQ o L' X' hX' ⟨g, p, fun a0 a' ea ea' L'' hL'' => ?_⟩)
          cases ea
          obtain ⟨pp, w7, w8⟩ := hv (a + 1) a' rfl ea' L'' hL''
          have hlt2 : a + 1 < e := by
            have := (stp_ppc (stp_pv B e K S r) (stp_nms B e K S false) (B := B) (most := 4)).2 (a + 1) a' (by omega) ea'
            omega
          exact Or.inr (Or.inr (Or.inr (Or.inl ⟨B (a + 1), pp, by rw [hy a hlt, hb], hy (a + 1) hlt2, w7, w8⟩)))
        · have hb : B a = 99 := (ne 99 (by omega)).mp h99
          have hE : pv B e K S (r + 1) (.inl a) = (lk (kn B e K S 7) (.inl (a + 1))).2 := by rw [hpv, if_neg (by omega), if_neg (by omega), if_pos hb]
          rw [hE] at hMC hMS hQ hw
          refine ⟨by omega, by omega, one 7 (Or.inr (Or.inr rfl)) 3 L (.inl (a + 1)) _ Q hX1 hK1 (fun o L' Y hY g p hvo => hQ o L' Y hY ⟨g, p, fun a0 a' ea ea' L'' hL'' => ?_⟩)⟩
          cases ea
          obtain ⟨a1, v, e1, h3, h4⟩ := lk_ok ea'
          cases e1
          obtain ⟨w1, w2, w3, w4, w5, w6, w7⟩ := cons 7 v a' ea' h4
          obtain ⟨s, hs, ets, enm⟩ := ((hK a rfl).2 v w2 w3).2 (by omega)
          have hvo := hvo L'' hL''
          rw [h4, show nv σ (some v) = nI s from enm] at hvo
          exact Or.inr (Or.inr (Or.inl ⟨v, s, by rw [hy a hlt, hb], by rw [w1]; exact hy (a + 1) w7, w2, by omega, hs, ets, hvo, by omega⟩))
        · have hb : B a = 115 := (ne 115 (by omega)).mp h115
          have hE : pv B e K S (r + 1) (.inl a) = (lk (kn B e K S 1) (.inl (a + 1))).2 := by rw [hpv, if_neg (by omega), if_pos hb]
          rw [hE] at hMC hMS hQ hw
          refine ⟨by omega, by omega, one 1 (Or.inl rfl) 2 L (.inl (a + 1)) _ Q hX1 hK1 (fun o L' Y hY g p hvo => hQ o L' Y hY ⟨g, p, fun a0 a' ea ea' L'' hL'' => ?_⟩)⟩
          cases ea
          obtain ⟨a1, v, e1, h3, h4⟩ := lk_ok ea'
          cases e1
          obtain ⟨w1, w2, w3, w4, w5, w6, w7⟩ := cons 1 v a' ea' h4
          obtain ⟨s, hs, ets, enm⟩ := ((hK a rfl).2 v w2 w3).2 (by omega)
          have hvo := hvo L'' hL''
          rw [h4, show nv σ (some v) = nI s from enm] at hvo
          exact Or.inr (Or.inl ⟨v, s, by rw [hy a hlt, hb], by rw [w1]; exact hy (a + 1) w7, w2, by omega, hs, ets, hvo, by omega⟩)
        · have hE : pv B e K S (r + 1) (.inl a) = .inr (3, a) := by rw [hpv, if_neg (fun q => n73 ((ne 73 (by omega)).mpr q)), if_neg (fun q => n115 ((ne 115 (by omega)).mpr q)), if_neg (fun q => n99 ((ne 99 (by omega)).mpr q)), if_neg (fun q => n91 ((ne 91 (by omega)).mpr q)), if_neg (fun q => n64 ((ne 64 (by omega)).mpr q))]
          rw [hE] at hQ
          refine c_ref_ok (r := 3) (s := a) ⟨by omega, by omega, ?_⟩
          exact non L (.inr (3, a)) _ Q ⟨⟨Nat.le_of_ble_eq_true rfl, Nat.le_of_ble_eq_true rfl, ha⟩, a + 1, by omega, rfl⟩ (fun o L' Y hY g p => hQ o L' Y hY ⟨g, p, fun a a' _ ea => by cases ea⟩)
      · have : a = e := by omega
        subst this
        have hE : pv B a K S (r + 1) (.inl a) = .inr (1, a) := by simp only [pv]; rw [if_neg hlt]
        rw [hE] at hQ
        refine c_next_end (σ := wp σ L) h ⟨fun _ => ⟨fun h9 => absurd h9 (by decide), fun _ => ⟨fun h9 => absurd h9 (by decide), fun _ => ⟨fun h9 => absurd h9 (by decide), fun _ => ⟨fun h9 => absurd h9 (by decide), fun _ => ⟨fun h9 => absurd h9 (by decide), fun _ => ?_⟩⟩⟩⟩⟩, fun h9 => absurd hd5 h9⟩
        refine c_ref_f (nI_f (r := 1) (s := a) (by omega) (by omega) (by omega)) ⟨by omega, by omega, ?_⟩
        exact non L (.inr (1, a)) _ Q ⟨⟨Nat.le_of_ble_eq_true rfl, Nat.le_of_ble_eq_true rfl, ha⟩, a, ha, rfl⟩ (fun o L' Y hY g p => hQ o L' Y hY ⟨g, p, fun a a' _ ea => by cases ea⟩)
