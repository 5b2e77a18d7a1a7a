/-! texts: the class's number of a text -/
theorem nar_byte {y : Nat} (hy : y < 128) : vp_nar .byte ((nI y).toInt8.toInt32) = nI y := by
  rw [pk_vb]
  have : ∀ z : Fin 128, (nI z.val).toInt8.toInt32 = nI z.val := by decide +kernel
  exact this ⟨y, hy⟩
theorem sm_c {T : Nat} {lt ln yb ta : Nat → Int32} (hR : textR T lt ln yb ta) {p m t : Nat} (hm : m ≤ 10) (ht : t < T) (ep : yb p = nI m) : sm yb (ta t) p ↔ (ln t = nI m ∧ ∀ i, i < m → lt (10 * t + i) = yb (p + 1 + i)) := by
  obtain ⟨p1, n1, x1, x2, x3, x4, x5, x6⟩ := hR t ht
  constructor
  · rintro ⟨P, n, w1, w2, w3, w4, w5, w6⟩
    have q1 : P = p1 := (nI_eq (by omega) (by omega)).mp (by rw [← w3, ← x3])
    subst q1
    have z1 : n = n1 := (nI_eq (by omega) (by omega)).mp (by rw [← w4, ← x4])
    subst z1
    have z2 : n = m := (nI_eq (by omega) (by omega)).mp (by rw [← w5, ← ep])
    subst z2
    refine ⟨x5, fun i hi => ?_⟩
    obtain ⟨y, -, -, s2, s3⟩ := x6 i hi
    rw [s3, ← s2, w6 i hi]
  · rintro ⟨h1, h2⟩
    have z1 : n1 = m := (nI_eq (by omega) (by omega)).mp (by rw [← x5, ← h1])
    subst z1
    refine ⟨p1, n1, by omega, x1, x3, x4, ep, fun i hi => ?_⟩
    obtain ⟨y, -, -, s2, s3⟩ := x6 i hi
    rw [← h2 i hi, s3, s2]
theorem c_isText {b : Nat → Nat} {k : Nat → ClassId} {X : cS} {yb ta : Nat → Int32} {T p m a t : Nat} (hT : T ≤ 192) (hR : textR T (X.2.1 1) (X.2.1 2) yb ta) (ht : t < T) (hm : m ≤ 10) (ep : yb p = nI m) (ha : a + m ≤ 120) (hb : ∀ i, i < m → X.2.1 0 (a + i) = yb (p + 1 + i)) {Q : Int32 → cS → Prop} (h1 : sm yb (ta t) p → Q 1 X) (h0 : ¬ sm yb (ta t) p → Q 0 X) : C_X4_isText_w b k Q (nI t) (nI a) (nI m) X := by
  have hc := sm_c hR hm ht ep
  refine ⟨vp_in_nI (by omega) (by omega), fun h9 => ?_, fun h9 => ?_⟩
  · rw [nI_clamp (by omega)] at h9
    refine fx_ex (C_X4_isText_b16_f b k Q) (fun z => ∃ i : Nat, z = (nI t, nI a, nI m, nI i, X) ∧ i ≤ m ∧ ∀ j, j < i → X.2.1 1 (10 * t + j) = yb (p + 1 + j)) (fun z => 12 - z.2.2.2.1.toNatClampNeg) ?_ _ ⟨0, rfl, Nat.zero_le _, fun j hj => absurd hj (Nat.not_lt_zero _)⟩
    rintro K _ ⟨i, rfl, hi, hall⟩ hK
    show C_X4_isText_b16_s b k Q (fun x1 x3 x4 x5 σ => K (x1, x3, x4, x5, σ)) (nI t) (nI a) (nI m) (nI i) X
    refine ⟨fun h8 => ?_, fun h8 => ?_⟩
    · have : i = m := by have := (nI_leI (a := m) (b := i) (by omega) (by omega)).mp h8; omega
      subst this
      exact h1 (hc.mpr ⟨h9, hall⟩)
    · have him : i < m := by
        rcases Nat.lt_or_ge i m with h7 | h7
        · exact h7
        · exact absurd (nI_le h7 (by omega)) h8
      have e10 : nI t * (10 : Int32) + nI i = nI (10 * t + i) := by rw [show (10 : Int32) = nI 10 from rfl, pk_mul, nI_add, Nat.mul_comm]
      rw [e10, nI_add, nI_clamp (n := 10 * t + i) (by omega), nI_clamp (n := a + i) (by omega), hb i him]
      refine ⟨vp_in_nI (by omega) (by omega), vp_in_nI (by omega) (by omega), fun h7 v ev => ?_, fun h7 => h0 (fun h6 => h7 ((hc.mp h6).2 i him))⟩
      rw [nI_1] at ev
      subst ev
      refine hK (nI t, nI a, nI m, nI (i + 1), X) ⟨i + 1, rfl, him, fun j hj => ?_⟩ ?_
      · rcases Nat.lt_or_ge j i with h3 | h3
        · exact hall j h3
        · have : j = i := by omega
          subst this; exact h7
      · show 12 - (nI (i + 1)).toNatClampNeg < 12 - (nI i).toNatClampNeg
        rw [nI_clamp (by omega), nI_clamp (by omega)]; omega
  · rw [nI_clamp (by omega)] at h9
    exact h0 (fun h8 => h9 (hc.mp h8).1)
def sL (X : cS) (lt : Nat → Int32) : cS := (X.1, va_up X.2.1 1 lt, X.2.2)
theorem up_up {α : Type} (f : Nat → α) (k : Nat) (u v : α) : va_up (va_up f k u) k v = va_up f k v := by
  funext j
  unfold va_up
  by_cases h : j = k
  · simp [h]
  · simp [h]
theorem sL_1 (X : cS) (lt : Nat → Int32) (i x : Int32) : sA (sL X lt) 1 i x = sL X (upd lt i.toNatClampNeg x) := by
  show (X.1, va_up (va_up X.2.1 1 lt) 1 (upd (va_up X.2.1 1 lt 1) i.toNatClampNeg x), X.2.2) = _
  rw [up_up, va_up_self]
  rfl
theorem up_self {α : Type} (f : Nat → α) (k : Nat) : va_up f k (f k) = f := by
  funext j
  unfold va_up
  by_cases h : j = k
  · simp [h]
  · simp [h]
theorem sL_self (X : cS) : sL X (X.2.1 1) = X := by
  show (X.1, va_up X.2.1 1 (X.2.1 1), X.2.2) = X
  rw [up_self]
theorem c_number {b : Nat → Nat} {k : Nat → ClassId} {X : cS} {yb ta : Nat → Int32} {T p m a : Nat} (hT : T < 192) (eT : X.1 1 = nI T) (hR : textR T (X.2.1 1) (X.2.1 2) yb ta) (hm : m ≤ 10) (ep : yb p = nI m) (ha : a + m ≤ 120) (hb : ∀ i, i < m → ∃ y : Nat, 33 ≤ y ∧ y ≤ 126 ∧ X.2.1 0 (a + i) = nI y ∧ yb (p + 1 + i) = nI y) {Q : Int32 → cS → Prop} (h1 : fsT (fun t => sm yb (ta t) p) T 0 < T → Q (nI (fsT (fun t => sm yb (ta t) p) T 0)) X) (h0 : fsT (fun t => sm yb (ta t) p) T 0 = T → ∀ lt', (∀ j, j < 10 * T → lt' j = X.2.1 1 j) → (∀ i, i < m → lt' (10 * T + i) = yb (p + 1 + i)) → Q (nI T) (sI (sA (sL X lt') 2 (nI T) (nI m)) 1 (nI (T + 1)))) : C_X4_numberOf_w b k Q (nI a) (nI m) X := by
  have hb' : ∀ i, i < m → X.2.1 0 (a + i) = yb (p + 1 + i) := fun i hi => by
    obtain ⟨y, -, -, g1, g2⟩ := hb i hi
    rw [g1, g2]
  refine fx_ex (C_X4_numberOf_b3_f b k Q) (fun z => ∃ t : Nat, z = (nI a, nI m, nI t, X) ∧ t ≤ T ∧ fsT (fun t => sm yb (ta t) p) (T - t) t = fsT (fun t => sm yb (ta t) p) T 0) (fun z => 200 - z.2.2.1.toNatClampNeg) ?_ _ ⟨0, rfl, Nat.zero_le _, rfl⟩
  rintro K _ ⟨t, rfl, ht, hf⟩ hK
  show C_X4_numberOf_b3_s b k Q (fun x2 x3 x4 σ => K (x2, x3, x4, σ)) (nI a) (nI m) (nI t) X
  refine ⟨fun h9 => ?_, fun h9 => ?_⟩
  · rw [eT] at h9 ⊢
    have hte : t = T := by
      have := (nI_leI (a := T) (b := t) (by omega) (by omega)).mp h9
      omega
    subst hte
    rw [Nat.sub_self] at hf
    refine ⟨fun h8 => ?_, fun h8 => ?_⟩
    · refine fx_ex (C_X4_numberOf_b48_f b k Q) (fun z => ∃ (i : Nat) (lt' : Nat → Int32), z = (nI a, nI m, nI i, sL X lt') ∧ i ≤ m ∧ (∀ j, j < 10 * t → lt' j = X.2.1 1 j) ∧ ∀ j, j < i → lt' (10 * t + j) = yb (p + 1 + j)) (fun z => 12 - z.2.2.1.toNatClampNeg) ?_ _ ⟨0, X.2.1 1, by rw [sL_self]; rfl, Nat.zero_le _, fun _ _ => rfl, fun j hj => absurd hj (Nat.not_lt_zero _)⟩
      rintro K2 _ ⟨i, lt', rfl, hi, hl1, hl2⟩ hK2
      show ((nI m) ≤ nI i → vp_in (X.1 1) 192 ∧ ∀ t91 : cS, t91 = sA (sL X lt') 2 (X.1 1) (nI m) → ∀ t99 : cS, t99 = sI t91 1 ((t91.1 1) + (1 : Int32)) → Q ((t99.1 1) - (1 : Int32)) t99) ∧ (¬ nI m ≤ nI i → vp_in (nI a + nI i) 120 ∧ vp_in (((X.1 1) * (10 : Int32)) + nI i) 1920 ∧ ∀ t75 : cS, t75 = sA (sL X lt') 1 (((X.1 1) * (10 : Int32)) + nI i) (vp_nar .byte ((X.2.1 0 (nI a + nI i).toNatClampNeg).toInt8.toInt32)) → ∀ v76 : Int32, v76 = nI i + (1 : Int32) → K2 (nI a, nI m, v76, t75))
      rw [eT]
      refine ⟨fun h7 => ?_, fun h7 => ?_⟩
      · have : i = m := by have := (nI_leI (a := m) (b := i) (by omega) (by omega)).mp h7; omega
        subst this
        refine ⟨vp_in_nI hT (by omega), fun t91 e91 t99 e99 => ?_⟩
        have e5 : t91.1 1 = nI t := by rw [e91]; exact eT
        rw [e5, nI_1, e91] at e99
        subst e99
        show Q (nI (t + 1) - 1) _
        rw [nI_pred]
        exact h0 hf.symm lt' hl1 hl2
      · have him : i < m := by
          rcases Nat.lt_or_ge i m with h6 | h6
          · exact h6
          · exact absurd (nI_le h6 (by omega)) h7
        obtain ⟨y, y1, y2, y3, y4⟩ := hb i him
        have e10 : nI t * (10 : Int32) + nI i = nI (10 * t + i) := by rw [show (10 : Int32) = nI 10 from rfl, pk_mul, nI_add, Nat.mul_comm]
        rw [e10, nI_add, nI_clamp (n := a + i) (by omega), y3, nar_byte (by omega)]
        refine ⟨vp_in_nI (by omega) (by omega), vp_in_nI (by omega) (by omega), fun t75 e75 v ev => ?_⟩
        rw [sL_1, nI_clamp (by omega)] at e75
        rw [nI_1] at ev
        subst ev
        subst e75
        refine hK2 (nI a, nI m, nI (i + 1), sL X (upd lt' (10 * t + i) (nI y))) ⟨i + 1, _, rfl, him, fun j hj => ?_, fun j hj => ?_⟩ ?_
        · rw [pk_un (by omega)]; exact hl1 j hj
        · rcases Nat.lt_or_ge j i with h3 | h3
          · rw [pk_un (by omega)]; exact hl2 j h3
          · have : j = i := by omega
            subst this; rw [pk_us, y4]
        · show 12 - (nI (i + 1)).toNatClampNeg < 12 - (nI i).toNatClampNeg
          rw [nI_clamp (by omega), nI_clamp (by omega)]; omega
    · have := (nI_eq (a := t) (b := 192) (by omega) (by omega)).mp h8
      omega
  · rw [eT] at h9
    have hlt : t < T := by
      rcases Nat.lt_or_ge t T with h7 | h7
      · exact h7
      · exact absurd (nI_le h7 (by omega)) h9
    refine c_isText (by omega) hR hlt hm ep ha hb' (fun h8 => ⟨fun h7 => absurd h7 n1_ne0, fun _ => ?_⟩) (fun h8 => ⟨fun _ v ev => ?_, fun h7 => absurd rfl h7⟩)
    · have : fsT (fun t => sm yb (ta t) p) T 0 = t := by
        rw [← hf, show T - t = (T - (t + 1)) + 1 by omega]
        exact fsT_1 h8
      rw [this] at h1
      exact h1 hlt
    · rw [nI_1] at ev
      subst ev
      refine hK (nI a, nI m, nI (t + 1), X) ⟨t + 1, rfl, hlt, ?_⟩ ?_
      · rw [← hf, show T - t = (T - (t + 1)) + 1 by omega]
        exact (fsT_0 (D := fun t => sm yb (ta t) p) h8).symm
      · show 200 - (nI (t + 1)).toNatClampNeg < 200 - (nI t).toNatClampNeg
        rw [nI_clamp (by omega), nI_clamp (by omega)]; omega
/-- a new text keeps texts as they should be -/
theorem textR_new {T p m : Nat} {lt ln yb ta lt' : Nat → Int32} (hR : textR T lt ln yb ta) (hm : m ≤ 10) (hp : p + m < 1920) (ep : yb p = nI m) (hb : ∀ i, i < m → ∃ y : Nat, 33 ≤ y ∧ y ≤ 126 ∧ yb (p + 1 + i) = nI y) (hl1 : ∀ j, j < 10 * T → lt' j = lt j) (hl2 : ∀ i, i < m → lt' (10 * T + i) = yb (p + 1 + i)) : textR (T + 1) lt' (upd ln T (nI m)) yb (upd ta T (nI p)) := by
  intro t ht
  rcases Nat.lt_or_ge t T with h7 | h7
  · obtain ⟨p1, n1, x1, x2, x3, x4, x5, x6⟩ := hR t h7
    refine ⟨p1, n1, x1, x2, by rw [pk_un (by omega)]; exact x3, x4, by rw [pk_un (by omega)]; exact x5, fun i hi => ?_⟩
    obtain ⟨y, y1, y2, y3, y4⟩ := x6 i hi
    exact ⟨y, y1, y2, y3, by rw [hl1 _ (by omega)]; exact y4⟩
  · have : t = T := by omega
    subst this
    refine ⟨p, m, hm, hp, pk_us, ep, pk_us, fun i hi => ?_⟩
    obtain ⟨y, y1, y2, y3⟩ := hb i hi
    exact ⟨y, y1, y2, y3, by rw [hl2 i hi]; exact y3⟩
theorem textD_new {T p m : Nat} {lt ln yb ta lt' : Nat → Int32} (hR : textR T lt ln yb ta) (hD : textD T lt ln) (hm : m ≤ 10) (ep : yb p = nI m) (hl1 : ∀ j, j < 10 * T → lt' j = lt j) (hl2 : ∀ i, i < m → lt' (10 * T + i) = yb (p + 1 + i)) (hno : ∀ t, t < T → ¬ sm yb (ta t) p) : textD (T + 1) lt' (upd ln T (nI m)) := by
  have key : ∀ t, t < T → ∀ n, ln t = nI n → nI m = nI n → (∀ i, i < n → lt' (10 * t + i) = lt' (10 * T + i)) → False := by
    intro t ht n h1 h2 h3
    obtain ⟨p1, n1, x1, x2, x3, x4, x5, x6⟩ := hR t ht
    have hmn : m ≤ n := by
      rcases Nat.lt_or_ge n (2 ^ 31) with h7 | h7
      · exact Nat.le_of_eq ((nI_eq (by omega) h7).mp h2)
      · omega
    refine hno t ht ((sm_c hR hm ht ep).mpr ⟨by rw [h1, h2], fun i hi => ?_⟩)
    rw [← hl2 i hi, ← h3 i (by omega), hl1 _ (by omega)]
  intro t u n ht hu e1 e2 hall
  rcases Nat.lt_or_ge t T with h7 | h7
  · rcases Nat.lt_or_ge u T with h6 | h6
    · rw [pk_un (by omega)] at e1 e2
      obtain ⟨p1, n1, x1, x2, x3, x4, x5, x6⟩ := hR t h7
      rcases Nat.lt_or_ge n (2 ^ 31) with h5 | h5
      · have : n1 = n := (nI_eq (by omega) h5).mp (by rw [← x5, e1])
        subst this
        refine hD t u n1 h7 h6 e1 e2 (fun i hi => ?_)
        rw [← hl1 _ (by omega), ← hl1 _ (by omega)]
        exact hall i hi
      · refine hD t u n1 h7 h6 x5 (by rw [e2, ← e1, x5]) (fun i hi => ?_)
        rw [← hl1 _ (by omega), ← hl1 _ (by omega)]
        exact hall i (by omega)
    · have : u = T := by omega
      subst this
      rw [pk_un (by omega)] at e1
      rw [pk_us] at e2
      exact absurd (key t h7 n e1 e2 hall) id
  · have : t = T := by omega
    subst this
    rcases Nat.lt_or_ge u t with h6 | h6
    · rw [pk_us] at e1
      rw [pk_un (by omega)] at e2
      exact absurd (key u h6 n e2 e1 (fun i hi => (hall i hi).symm)) id
    · omega
