/-! the parse: a whole file, reference side -/
def frT (τ τ' : rS) (c : Nat) : Prop := (∀ m, ¬ (9 ≤ m ∧ m ≤ 17) → m ≠ 25 → m ≠ 26 → τ'.2 m = τ.2 m) ∧ (∀ m i, 9 ≤ m → m ≤ 17 → m ≠ 14 → m ≠ 16 → i ≠ c → τ'.2 m i = τ.2 m i) ∧ ∀ i, (i < 4 * c ∨ 4 * c + 4 ≤ i) → τ'.2 14 i = τ.2 14 i ∧ τ'.2 16 i = τ.2 16 i
theorem frT_refl (τ : rS) (c : Nat) : frT τ τ c := ⟨fun _ _ _ _ => rfl, fun _ _ _ _ _ _ _ => rfl, fun _ _ => ⟨rfl, rfl⟩⟩
theorem frT_trans {τ τ' τ'' : rS} {c : Nat} (h : frT τ τ' c) (h' : frT τ' τ'' c) : frT τ τ'' c := ⟨fun m a b d => (h'.1 m a b d).trans (h.1 m a b d), fun m i a b d e f => (h'.2.1 m i a b d e f).trans (h.2.1 m i a b d e f), fun i hi => ⟨(h'.2.2 i hi).1.trans (h.2.2 i hi).1, (h'.2.2 i hi).2.trans (h.2.2 i hi).2⟩⟩
theorem frT_rA (τ : rS) {c n : Nat} (hc : c < 16) (h9 : 9 ≤ n) (h17 : n ≤ 17) (h14 : n ≠ 14) (h16 : n ≠ 16) (x : Int32) : frT τ (rA τ n (nI c) x) c := by
  refine ⟨fun m hm _ _ => va_up_ne _ _ (by omega), fun m i _ _ _ _ hi => ?_, fun i _ => ⟨?_, ?_⟩⟩
  · show va_up τ.2 n (upd (τ.2 n) (nI c).toNatClampNeg x) m i = _
    by_cases q : m = n
    · subst q
      rw [va_up_self, nI_clamp (by omega), pk_un hi]
    · rw [va_up_ne _ _ q]
  · show va_up τ.2 n _ 14 i = _
    rw [va_up_ne _ _ (by omega)]
  · show va_up τ.2 n _ 16 i = _
    rw [va_up_ne _ _ (by omega)]
theorem rA_at (τ : rS) {c n : Nat} (hc : c < 16) (x : Int32) : (rA τ n (nI c) x).2 n c = x := by
  show va_up τ.2 n (upd (τ.2 n) (nI c).toNatClampNeg x) n c = x
  rw [va_up_self, nI_clamp (by omega), pk_us]
def FT (B : Nat → Nat) (e c K : Nat) (S : Nat → Nat) (tk : Nat → Prop) (st : St) (τ' : rS) : Prop := (∀ κ, (g3 B e K S tk st).1 = some κ → τ'.2 11 c = nI κ) ∧ (∀ κ, (g4 B e K S tk st).1 = some κ → τ'.2 12 c = nI κ) ∧ τ'.2 13 c = nI ((g5 B e K S tk st).1.getD 0) ∧ (∀ i, i < (g5 B e K S tk st).1.getD 0 → τ'.2 14 (4 * c + i) = nI (B (plc (g5 B e K S tk st).2 + i))) ∧ τ'.2 15 c = nI ((g7 B e K S tk st).1.getD 0) ∧ (∀ i, i < (g7 B e K S tk st).1.getD 0 → τ'.2 16 (4 * c + i) = nI (120 * c + plc (itr (annE B e K S 4) i (g7 B e K S tk st).2))) ∧ τ'.2 17 c = nI (120 * c + plc (g8 B e K S tk st))
set_option maxHeartbeats 2000000 in
theorem R_118 {b : Nat → Nat} {σ : cS} {τ : rS} {B : Nat → Nat} {e c K : Nat} {S : Nat → Nat} {tk : Nat → Prop} {st : St} (h : PB b σ τ B e c) (hK : ∀ a, st = .inl a → TB σ τ c K S) {X : rS} (hX : isR τ e (g2 B e K S tk st).2 X) {Q : rS → Prop} (hQ : ∀ τ' X', isR τ' e (fin e (g9 B e K S tk st)) X' → τ'.1 = τ.1 → frT τ τ' c → (∀ m i, 9 ≤ m → m ≤ 10 → τ'.2 m i = τ.2 m i) → (∀ a', g8 B e K S tk st = .inl a' → FT B e c K S tk st τ') → Q X') : R_wholeFile_b118 Q X := by
  have he := h.he
  have hc := h.hc
  have v16 : vp_in (nI c) 16 := vp_in_nI hc (by omega)
  have K2 : ∀ a, (g2 B e K S tk st).2 = .inl a → TB σ τ c K S := fun a ea => by obtain ⟨a1, v, e1, -⟩ := lk_ok ea; obtain ⟨a2, v, e2, -⟩ := lk_ok e1; exact hK a2 e2
  have K3 : ∀ a, (g3 B e K S tk st).2 = .inl a → TB σ τ c K S := fun a ea => by obtain ⟨a1, v, e1, -⟩ := lk_ok ea; exact K2 a1 e1
  have K4 : ∀ a, (g4 B e K S tk st).2 = .inl a → TB σ τ c K S := fun a ea => by obtain ⟨a1, v, e1, -⟩ := lk_ok ea; exact K3 a1 e1
  have K5 : ∀ a, (g5 B e K S tk st).2 = .inl a → TB σ τ c K S := fun a ea => by obtain ⟨a1, v, e1, -⟩ := lk_ok ea; exact K4 a1 e1
  have e18 : X.1 18 = nI c := by rw [(isR_o hX).1 18 (by omega) (by omega) (by omega)]; exact h.rn
  refine R_con (τ := τ) (K := K) (S := S) h K2 hX (fun v3 X1 hX1 hv3 => ?_)
  rw [e18]
  refine ⟨v16, fun t130 e130 => ?_⟩
  have h130 := isR_rA hX1 11 (nI c) v3
  rw [← e130] at h130
  have e18' : t130.1 18 = nI c := by rw [(isR_o h130).1 18 (by omega) (by omega) (by omega)]; exact h.rn
  refine R_con (τ := rA τ 11 (nI c) v3) (K := K) (S := S) h K3 h130 (fun v4 X2 hX2 hv4 => ?_)
  rw [e18']
  refine ⟨v16, fun t143 e143 => ?_⟩
  have h143 := isR_rA hX2 12 (nI c) v4
  rw [← e143] at h143
  have e18'' : t143.1 18 = nI c := by rw [(isR_o h143).1 18 (by omega) (by omega) (by omega)]; exact h.rn
  refine R_am (τ := rA (rA τ 11 (nI c) v3) 12 (nI c) v4) (most := 4) h (by omega) h143 (fun X3 hX3 => ?_)
  rw [e18'']
  refine ⟨v16, fun t157 e157 => ?_⟩
  have h157 := isR_rA hX3 13 (nI c) (nI ((g5 B e K S tk st).1.getD 0))
  have e157 : t157 = rA X3 13 (nI c) (nI ((g5 B e K S tk st).1.getD 0)) := e157
  rw [← e157] at h157
  refine R_161 (τ := rA (rA (rA τ 11 (nI c) v3) 12 (nI c) v4) 13 (nI c) (nI ((g5 B e K S tk st).1.getD 0))) (K := K) (S := S) (st5 := (g5 B e K S tk st).2) (nF := (g5 B e K S tk st).1.getD 0) h K5 (am_le B e 4 _) (rA_at _ hc _) h157 (fun τ' X' hX' hR => ?_)
  obtain ⟨r1, r2, r3, r4, r5⟩ := hR
  have f1 := frT_rA τ hc (n := 11) (by omega) (by omega) (by omega) (by omega) v3
  have f2 := frT_rA (rA τ 11 (nI c) v3) hc (n := 12) (by omega) (by omega) (by omega) (by omega) v4
  have f3 := frT_rA (rA (rA τ 11 (nI c) v3) 12 (nI c) v4) hc (n := 13) (by omega) (by omega) (by omega) (by omega) (nI ((g5 B e K S tk st).1.getD 0))
  refine hQ τ' X' hX' r1 (frT_trans f1 (frT_trans f2 (frT_trans f3 ⟨fun m hm m25 m26 => ?_, fun m i m9 m17 m14 m16 hi => ?_, fun i hi => r3 i hi⟩))) (fun m i m9 m10 => ?_) (fun a' ea' => ⟨fun κ eκ => ?_, fun κ eκ => ?_, ?_, ?_, ?_, ?_, ?_⟩)
  · exact r2 m (by omega) (by omega) (by omega) (by omega) m25 m26
  · by_cases q15 : m = 15
    · subst q15; exact (r4 i hi).1
    · by_cases q17 : m = 17
      · subst q17; exact (r4 i hi).2
      · rw [r2 m m14 q15 m16 q17 (by omega) (by omega)]
  · rw [r2 m (by omega) (by omega) (by omega) (by omega) (by omega) (by omega)]
    show va_up (va_up (va_up τ.2 11 _) 12 _) 13 _ m i = _
    rw [va_up_ne _ _ (by omega), va_up_ne _ _ (by omega), va_up_ne _ _ (by omega)]
  · rw [r2 11 (by omega) (by omega) (by omega) (by omega) (by omega) (by omega)]
    show (rA τ 11 (nI c) v3).2 11 c = _
    rw [rA_at _ hc]
    exact hv3 κ eκ
  · rw [r2 12 (by omega) (by omega) (by omega) (by omega) (by omega) (by omega)]
    show (rA (rA τ 11 (nI c) v3) 12 (nI c) v4).2 12 c = _
    rw [rA_at _ hc]
    exact hv4 κ eκ
  · rw [r2 13 (by omega) (by omega) (by omega) (by omega) (by omega) (by omega)]
    exact rA_at _ hc _
  · exact (r5 a' ea').1
  · exact (r5 a' ea').2.1
  · exact (r5 a' ea').2.2.1
  · rw [ea']; exact (r5 a' ea').2.2.2
theorem R_taken {X : rS} {m p C T : Nat} {sf : Nat → Nat} (hC : C ≤ 16) (hT : T ≤ 192) (e3 : X.1 3 = nI C) (hse : ∀ c', c' < C → X.2 10 c' = nI (sf c') ∧ sf c' < T) (hx : textP T (X.2 2) (X.2 4)) (hm : m ≤ 10) (hp : p + m < 1920) (e2 : X.2 2 p = nI m) {Q : Int32 → rS → Prop} (h1 : (∃ c', c' < C ∧ sm (X.2 2) (X.2 4 (sf c')) p) → Q 1 X) (h0 : ¬ (∃ c', c' < C ∧ sm (X.2 2) (X.2 4 (sf c')) p) → Q 0 X) : R_taken_b8 Q (nI p) 0 X := by
  refine fx_ex (R_taken_b8_f Q) (fun z => ∃ i : Nat, z = (nI p, nI i, X) ∧ i ≤ C ∧ ∀ c', c' < i → ¬ sm (X.2 2) (X.2 4 (sf c')) p) (fun z => 20 - z.2.1.toNatClampNeg) ?_ _ ⟨0, rfl, Nat.zero_le _, fun c' h => absurd h (Nat.not_lt_zero _)⟩
  rintro K0 _ ⟨i, rfl, hi, hall⟩ hK0
  show ((X.1 3) ≤ nI i → Q (0 : Int32) X) ∧ (¬ (X.1 3) ≤ nI i → vp_in (nI i) 16 ∧ vp_in (X.2 10 (nI i).toNatClampNeg) 192 ∧ R_sameText_w (fun r29 t29 => (r29 = 0 → ∀ v37 : Int32, v37 = nI i + (1 : Int32) → K0 (nI p, v37, t29)) ∧ (¬ r29 = 0 → Q (1 : Int32) t29)) (X.2 4 (X.2 10 (nI i).toNatClampNeg).toNatClampNeg) (nI p) X)
  rw [e3]
  refine ⟨fun h9 => ?_, fun h9 => ?_⟩
  · have : i = C := by have := (nI_leI (a := C) (b := i) (by omega) (by omega)).mp h9; omega
    subst this
    exact h0 (fun ⟨c', hc', hs⟩ => hall c' hc' hs)
  · have hlt : i < C := by
      rcases Nat.lt_or_ge i C with h7 | h7
      · exact h7
      · exact absurd (nI_le h7 (by omega)) h9
    obtain ⟨es, hs⟩ := hse i hlt
    obtain ⟨P, n, hn, hPn, eP, en⟩ := hx (sf i) hs
    rw [nI_clamp (n := i) (by omega), es, nI_clamp (n := sf i) (by omega), eP]
    refine ⟨vp_in_nI (by omega) (by omega), vp_in_nI (by omega) (by omega), r_same hn hPn hm hp en e2 (fun h8 => ⟨fun h7 => absurd h7 n1_ne0, fun _ => h1 ⟨i, hlt, by rw [eP]; exact h8⟩⟩) (fun h8 => ⟨fun _ v ev => ?_, fun h7 => absurd rfl h7⟩)⟩
    rw [nI_1] at ev
    subst ev
    refine hK0 (nI p, nI (i + 1), X) ⟨i + 1, rfl, hlt, fun c' hc' => ?_⟩ ?_
    · rcases Nat.lt_or_ge c' i with h7 | h7
      · exact hall c' h7
      · have : c' = i := by omega
        subst this
        rw [eP]; exact h8
    · show 20 - (nI (i + 1)).toNatClampNeg < 20 - (nI i).toNatClampNeg
      rw [nI_clamp (by omega), nI_clamp (by omega)]; omega
theorem R_sta {b : Nat → Nat} {σ : cS} {τ : rS} {B : Nat → Nat} {e c due s : Nat} (h : PB b σ τ B e c) (hd2 : due < 256) {st : St} (hs : ∀ a, st = .inl a → a = s) {X : rS} (hX : isR τ e st X) {Q : rS → Prop} (hQ : ∀ X', isR τ e (lk (sta B e due) st).2 X' → Q X') : R_take_w (fun r26 t26 => (¬ (t26.1 23) = 0 → Q t26) ∧ ((t26.1 23) = 0 → (r26 = nI due → Q t26) ∧ (¬ r26 = nI due → R_fail_w Q (2 : Int32) (nI s) t26))) X := by
  have he := h.he
  cases st with
  | inl a =>
    obtain ⟨ha, s0, rfl⟩ := hX
    have := hs a rfl
    subst this
    by_cases hlt : a < e
    · have hB := h.by_b a hlt
      refine r_take_ok h hlt ⟨fun h9 => absurd rfl h9, fun _ => ⟨fun h9 => ?_, fun h9 => ?_⟩⟩
      · have hb : B a = due := (nI_eq (by omega) (by omega)).mp h9
        rw [lk_1 (f := sta B e due) (v := due) (a' := a + 1) (by unfold sta; rw [if_pos hlt, if_pos hb])] at hQ
        exact hQ _ ⟨by omega, s0, rfl⟩
      · have hb : ¬ B a = due := fun h8 => h9 (by rw [h8])
        rw [lk_0 (f := sta B e due) (q := (2, a)) (by unfold sta; rw [if_pos hlt, if_neg hb])] at hQ
        exact r_fail_ok (hQ _ ⟨⟨Nat.le_of_ble_eq_true rfl, Nat.le_of_ble_eq_true rfl, ha⟩, _, rfl⟩)
    · have : a = e := by omega
      subst this
      rw [lk_0 (f := sta B a due) (q := (1, a)) (by unfold sta; rw [if_neg hlt])] at hQ
      exact r_take_end h ⟨fun _ => hQ _ ⟨⟨Nat.le_of_ble_eq_true rfl, Nat.le_of_ble_eq_true rfl, ha⟩, _, rfl⟩, fun h9 => absurd (show nI 1 = 0 from h9) (by decide)⟩
  | inr q =>
    obtain ⟨hq, a, rfl⟩ := hX
    exact r_take_f (nI_rq hq) ⟨fun _ => hQ _ ⟨hq, a, rfl⟩, fun h9 => absurd h9 (nI_rq hq)⟩
