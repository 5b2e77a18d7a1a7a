/-! the parse: behind the constants, reference side -/
theorem TB_R {σ : cS} {τ τ' : rS} {c K : Nat} {S : Nat → Nat} (h : TB σ τ c K S) (h22 : τ'.1 22 = τ.1 22) (h6 : τ'.2 6 = τ.2 6) : TB σ τ' c K S := ⟨h.1, h.2.1, by rw [h22]; exact h.2.2.1, by rw [h6]; exact h.2.2.2⟩
theorem isR_bk {τ : rS} {e : Nat} {st : St} {X : rS} (h : isR τ e st X) : isR (bk τ (τ.2 25) (τ.2 26)) e st X := by rw [bk_self]; exact h
theorem bk_2 (τ : rS) (l m : Nat → Int32) {n : Nat} (h25 : n ≠ 25) (h26 : n ≠ 26) : (bk τ l m).2 n = τ.2 n := by
  show va_up (va_up τ.2 25 l) 26 m n = _
  rw [va_up_ne _ _ h26, va_up_ne _ _ h25]
theorem isR_23c {τ : rS} {e a : Nat} {X : rS} (h : isR τ e (.inl a) X) : X.1 23 = 0 ∧ X.1 21 = nI a := by obtain ⟨ha, s0, rfl⟩ := h; exact ⟨rfl, rfl⟩
set_option maxHeartbeats 2000000 in
theorem R_218 {b : Nat → Nat} {σ : cS} {τ : rS} {B : Nat → Nat} {e c K : Nat} {S : Nat → Nat} (h : PB b σ τ B e c) {st1 : St} (hK : ∀ a, st1 = .inl a → TB σ τ c K S) {n : Nat} (hn : n ≤ 4) (h15 : τ.2 15 c = nI n) {X : rS} (hX : isR τ e st1 X) {Q : rS → Prop} (hQ : ∀ τ' X', isR τ' e (fin e (ppc (pv B e K S 4) (nms B e K S true) (lk (am B e 4) (itr (annE B e K S 4) n st1)))) X' → τ'.1 = τ.1 → (∀ m, m ≠ 16 → m ≠ 17 → m ≠ 25 → m ≠ 26 → τ'.2 m = τ.2 m) → (∀ i, (i < 4 * c ∨ 4 * c + 4 ≤ i) → τ'.2 16 i = τ.2 16 i) → (∀ i, i ≠ c → τ'.2 17 i = τ.2 17 i) → (∀ a', itr (annE B e K S 4) n st1 = .inl a' → (∀ i, i < n → τ'.2 16 (4 * c + i) = nI (120 * c + plc (itr (annE B e K S 4) i st1))) ∧ τ'.2 17 c = nI (120 * c + a')) → Q X') : R_wholeFile_b218 Q 0 X := by
  have he := h.he
  have hc := h.hc
  have haf : ∀ q, annE B e K S 4 (.inr q) = .inr q := annE_f B e K S 4
  have cc : (nI c).toNatClampNeg = c := nI_clamp (by omega)
  refine fx_ex (R_wholeFile_b218_f Q) (fun z => ∃ (i : Nat) (τ' Y : rS), z = (nI i, Y) ∧ i ≤ n ∧ isR τ' e (itr (annE B e K S 4) i st1) Y ∧ τ'.1 = τ.1 ∧ (∀ m, m ≠ 16 → m ≠ 25 → m ≠ 26 → τ'.2 m = τ.2 m) ∧ (∀ i, (i < 4 * c ∨ 4 * c + 4 ≤ i) → τ'.2 16 i = τ.2 16 i) ∧ (∀ a', itr (annE B e K S 4) i st1 = .inl a' → ∀ j, j < i → τ'.2 16 (4 * c + j) = nI (120 * c + plc (itr (annE B e K S 4) j st1)))) (fun z => 5 - z.1.toNatClampNeg) ?_ _ ⟨0, τ, X, rfl, Nat.zero_le _, hX, rfl, fun _ _ _ _ => rfl, fun _ _ => rfl, fun a' _ j hj => absurd hj (Nat.not_lt_zero _)⟩
  rintro K0 _ ⟨i, τ', Y, rfl, hi, hY, f1, f2, f3, hok⟩ hK0
  show R_wholeFile_b218_s Q (fun x4 σ => K0 (x4, σ)) (nI i) Y
  have hP' : PB b σ τ' B e c := PB_R h (by rw [f1]) (by rw [f1]) (by rw [f1]) (f2 2 (by omega) (by omega) (by omega))
  have hKs : ∀ a, itr (annE B e K S 4) i st1 = .inl a → TB σ τ' c K S := fun a ea => by
    obtain ⟨a0, ea0⟩ := itr_ok haf (i := 0) (Nat.zero_le _) ea
    exact TB_R (hK a0 ea0) (by rw [f1]) (f2 6 (by omega) (by omega) (by omega))
  obtain ⟨oY, oY2⟩ := isR_o hY
  have e18 : Y.1 18 = nI c := by rw [oY 18 (by omega) (by omega) (by omega), f1]; exact h.rn
  have e19 : Y.1 19 = nI (120 * c) := by rw [oY 19 (by omega) (by omega) (by omega), f1]; exact h.rb
  have e15 : Y.2 15 c = nI n := by rw [oY2, f2 15 (by omega) (by omega) (by omega)]; exact h15
  have v16 : vp_in (nI c) 16 := vp_in_nI hc (by omega)
  show vp_in (Y.1 18) 16 ∧ ((Y.2 15 (Y.1 18).toNatClampNeg) ≤ nI i → vp_in (Y.1 18) 16 ∧ ∀ t298 : rS, t298 = rA Y 17 (Y.1 18) ((Y.1 19) + (Y.1 21)) → _) ∧ (¬ (Y.2 15 (Y.1 18).toNatClampNeg) ≤ nI i → vp_in (((4 : Int32) * (Y.1 18)) + nI i) 64 ∧ ∀ t254 : rS, t254 = rA Y 16 (((4 : Int32) * (Y.1 18)) + nI i) ((Y.1 19) + (Y.1 21)) → _)
  rw [e18, e19, cc, e15, e4]
  refine ⟨v16, fun h9 => ⟨v16, fun t298 e298 => ?_⟩, fun h9 => ⟨?_, fun t254 e254 => ?_⟩⟩
  · have : i = n := by have := (nI_leI (a := n) (b := i) (by omega) (by omega)).mp h9; omega
    subst this
    have h298 := isR_rA hY 17 (nI c) (nI (120 * c) + Y.1 21)
    rw [← e298] at h298
    refine R_am (τ := rA τ' 17 (nI c) (nI (120 * c) + Y.1 21)) (most := 4) hP' (by omega) h298 (fun X1 hX1 => ?_)
    refine R_vals (τ := rA τ' 17 (nI c) (nI (120 * c) + Y.1 21)) (K := K) (S := S) hP' (fun a ea => ?_) (am_le B e 4 _) (isR_bk hX1) (fun l' m' X2 hX2 => ?_)
    · obtain ⟨a1, v, e1, -⟩ := lk_ok ea
      exact hKs a1 e1
    · have hX2 : isR (bk (rA τ' 17 (nI c) (nI (120 * c) + Y.1 21)) l' m') e (ppc (pv B e K S 4) (nms B e K S true) (lk (am B e 4) (itr (annE B e K S 4) i st1))) X2 := hX2
      have fin1 : ∀ X', isR (bk (rA τ' 17 (nI c) (nI (120 * c) + Y.1 21)) l' m') e (fin e (ppc (pv B e K S 4) (nms B e K S true) (lk (am B e 4) (itr (annE B e K S 4) i st1)))) X' → Q X' := by
        intro X' hX'
        refine hQ _ X' hX' f1 (fun m m16 m17 m25 m26 => ?_) (fun j hj => ?_) (fun j hj => ?_) (fun a' ea' => ⟨fun j hj => ?_, ?_⟩)
        · rw [bk_2 _ _ _ m25 m26]
          show va_up τ'.2 17 _ m = _
          rw [va_up_ne _ _ m17]
          exact f2 m m16 m25 m26
        · rw [bk_2 _ _ _ (by omega) (by omega)]
          exact f3 j hj
        · rw [bk_2 _ _ _ (by omega) (by omega)]
          show upd (τ'.2 17) (nI c).toNatClampNeg _ j = _
          rw [cc, pk_un hj, f2 17 (by omega) (by omega) (by omega)]
        · rw [bk_2 _ _ _ (by omega) (by omega)]
          exact hok a' ea' j hj
        · rw [bk_2 _ _ _ (by omega) (by omega)]
          show upd (τ'.2 17) (nI c).toNatClampNeg _ c = _
          rw [ea'] at hY
          rw [cc, pk_us, (isR_23c hY).2, nI_add]
      obtain ⟨oX, oX2⟩ := isR_o hX2
      have e20 : X2.1 20 = nI e := by rw [oX 20 (by omega) (by omega) (by omega)]; exact hP'.re
      cases hs : ppc (pv B e K S 4) (nms B e K S true) (lk (am B e 4) (itr (annE B e K S 4) i st1)) with
      | inr q =>
        rw [hs] at fin1 hX2
        refine ⟨fun _ => fin1 X2 hX2, fun _ => ?_⟩
        obtain ⟨hq, a, rfl⟩ := hX2
        exact r_fail_f (nI_rq hq) (fin1 _ ⟨hq, a, rfl⟩)
      | inl a9 =>
        rw [hs] at fin1 hX2
        obtain ⟨ha9, s9, rfl⟩ := hX2
        refine ⟨fun hle => ?_, fun hnle => ?_⟩
        · rw [e20] at hle
          have hle : nI e ≤ nI a9 := hle
          have := (nI_leI (a := e) (b := a9) (by omega) (by omega)).mp hle
          have hE : fin e (.inl a9) = .inl a9 := by simp only [fin]; rw [if_neg (by omega)]
          rw [hE] at fin1
          exact fin1 _ ⟨ha9, s9, rfl⟩
        · rw [e20] at hnle
          have hnle : ¬ nI e ≤ nI a9 := hnle
          have hlt : a9 < e := by
            rcases Nat.lt_or_ge a9 e with h7 | h7
            · exact h7
            · exact absurd (nI_le h7 (by omega)) hnle
          have hE : fin e (.inl a9) = .inr (8, a9) := by simp only [fin]; rw [if_pos hlt]
          rw [hE] at fin1
          exact r_fail_ok (fin1 _ ⟨⟨Nat.le_of_ble_eq_true rfl, Nat.le_of_ble_eq_true rfl, ha9⟩, _, rfl⟩)
  · have hin : i < n := by
      rcases Nat.lt_or_ge i n with h7 | h7
      · exact h7
      · exact absurd (nI_le h7 (by omega)) h9
    exact vp_in_nI (by omega) (by omega)
  · have hin : i < n := by
      rcases Nat.lt_or_ge i n with h7 | h7
      · exact h7
      · exact absurd (nI_le h7 (by omega)) h9
    have ci : (nI (4 * c + i)).toNatClampNeg = 4 * c + i := nI_clamp (by omega)
    have h254 := isR_rA hY 16 (nI (4 * c + i)) (nI (120 * c) + Y.1 21)
    rw [← e254] at h254
    refine R_kn (τ := rA τ' 16 (nI (4 * c + i)) (nI (120 * c) + Y.1 21)) (K := K) (S := S) (s := 7) hP' hKs (Or.inr (Or.inr rfl)) h254 (fun v X1 hX1 _ => ?_)
    refine R_am (τ := rA τ' 16 (nI (4 * c + i)) (nI (120 * c) + Y.1 21)) (most := 4) hP' (by omega) hX1 (fun X2 hX2 => ?_)
    refine R_vals (τ := rA τ' 16 (nI (4 * c + i)) (nI (120 * c) + Y.1 21)) (K := K) (S := S) hP' (fun a ea => ?_) (am_le B e 4 _) (isR_bk hX2) (fun l' m' X3 hX3 v275 e275 => ?_)
    · obtain ⟨a1, v, e1, -⟩ := lk_ok ea
      obtain ⟨a2, v, e2, -⟩ := lk_ok e1
      exact hKs a2 e2
    · rw [nI_1] at e275
      subst e275
      refine hK0 (nI (i + 1), X3) ⟨i + 1, bk (rA τ' 16 (nI (4 * c + i)) (nI (120 * c) + Y.1 21)) l' m', X3, rfl, hin, hX3, f1, fun m m16 m25 m26 => ?_, fun j hj => ?_, fun a' ea' j hj => ?_⟩ ?_
      · rw [bk_2 _ _ _ m25 m26]
        show va_up τ'.2 16 _ m = _
        rw [va_up_ne _ _ m16]
        exact f2 m m16 m25 m26
      · rw [bk_2 _ _ _ (by omega) (by omega)]
        show upd (τ'.2 16) (nI (4 * c + i)).toNatClampNeg _ j = _
        rw [ci, pk_un (by omega)]
        exact f3 j hj
      · rw [bk_2 _ _ _ (by omega) (by omega)]
        show upd (τ'.2 16) (nI (4 * c + i)).toNatClampNeg _ (4 * c + j) = _
        obtain ⟨a0, ea0⟩ := itr_ok haf (i := i) (n := i + 1) (by omega) ea'
        rw [ci]
        rcases Nat.lt_or_ge j i with h7 | h7
        · rw [pk_un (by omega)]
          exact hok a0 ea0 j h7
        · have : j = i := by omega
          subst this
          rw [ea0] at hY
          rw [pk_us, (isR_23c hY).2, nI_add, ea0]
          rfl
      · show 5 - (nI (i + 1)).toNatClampNeg < 5 - (nI i).toNatClampNeg
        rw [nI_clamp (by omega), nI_clamp (by omega)]; omega
/-- what the rows behind the constants hold in the end, and what stays -/
def RQ (B : Nat → Nat) (e c K : Nat) (S : Nat → Nat) (st5 : St) (nF : Nat) (τ τ' : rS) : Prop := τ'.1 = τ.1 ∧ (∀ m, m ≠ 14 → m ≠ 15 → m ≠ 16 → m ≠ 17 → m ≠ 25 → m ≠ 26 → τ'.2 m = τ.2 m) ∧ (∀ i, (i < 4 * c ∨ 4 * c + 4 ≤ i) → τ'.2 14 i = τ.2 14 i ∧ τ'.2 16 i = τ.2 16 i) ∧ (∀ i, i ≠ c → τ'.2 15 i = τ.2 15 i ∧ τ'.2 17 i = τ.2 17 i) ∧ ∀ a', itr (annE B e K S 4) ((lk (am B e 4) (itr (lf (kn B e K S 7)) nF st5)).1.getD 0) (lk (am B e 4) (itr (lf (kn B e K S 7)) nF st5)).2 = .inl a' → (∀ i, i < nF → τ'.2 14 (4 * c + i) = nI (B (plc st5 + i))) ∧ τ'.2 15 c = nI ((lk (am B e 4) (itr (lf (kn B e K S 7)) nF st5)).1.getD 0) ∧ (∀ i, i < (lk (am B e 4) (itr (lf (kn B e K S 7)) nF st5)).1.getD 0 → τ'.2 16 (4 * c + i) = nI (120 * c + plc (itr (annE B e K S 4) i (lk (am B e 4) (itr (lf (kn B e K S 7)) nF st5)).2))) ∧ τ'.2 17 c = nI (120 * c + a')
set_option maxHeartbeats 2000000 in
theorem R_161 {b : Nat → Nat} {σ : cS} {τ : rS} {B : Nat → Nat} {e c K : Nat} {S : Nat → Nat} (h : PB b σ τ B e c) {st5 : St} (hK : ∀ a, st5 = .inl a → TB σ τ c K S) {nF : Nat} (hn : nF ≤ 4) (h13 : τ.2 13 c = nI nF) {X : rS} (hX : isR τ e st5 X) {Q : rS → Prop} (hQ : ∀ τ' X', isR τ' e (fin e (ppc (pv B e K S 4) (nms B e K S true) (lk (am B e 4) (itr (annE B e K S 4) ((lk (am B e 4) (itr (lf (kn B e K S 7)) nF st5)).1.getD 0) (lk (am B e 4) (itr (lf (kn B e K S 7)) nF st5)).2)))) X' → RQ B e c K S st5 nF τ τ' → Q X') : R_wholeFile_b161 Q 0 X := by
  have he := h.he
  have hc := h.hc
  have cc : (nI c).toNatClampNeg = c := nI_clamp (by omega)
  have v16 : vp_in (nI c) 16 := vp_in_nI hc (by omega)
  refine fx_ex (R_wholeFile_b161_f Q) (fun z => ∃ (i : Nat) (τ' Y : rS), z = (nI i, Y) ∧ i ≤ nF ∧ isR τ' e (itr (lf (kn B e K S 7)) i st5) Y ∧ τ'.1 = τ.1 ∧ (∀ m, m ≠ 14 → τ'.2 m = τ.2 m) ∧ (∀ i, (i < 4 * c ∨ 4 * c + 4 ≤ i) → τ'.2 14 i = τ.2 14 i) ∧ (∀ a', itr (lf (kn B e K S 7)) i st5 = .inl a' → ∀ j, j < i → τ'.2 14 (4 * c + j) = nI (B (plc st5 + j)))) (fun z => 5 - z.1.toNatClampNeg) ?_ _ ⟨0, τ, X, rfl, Nat.zero_le _, hX, rfl, fun _ _ => rfl, fun _ _ => rfl, fun a' _ j hj => absurd hj (Nat.not_lt_zero _)⟩
  rintro K0 _ ⟨i, τ', Y, rfl, hi, hY, f1, f2, f3, hok⟩ hK0
  show R_wholeFile_b161_s Q (fun x4 σ => K0 (x4, σ)) (nI i) Y
  have hP' : PB b σ τ' B e c := PB_R h (by rw [f1]) (by rw [f1]) (by rw [f1]) (f2 2 (by omega))
  have hKs : ∀ a, itr (lf (kn B e K S 7)) i st5 = .inl a → TB σ τ' c K S := fun a ea => by
    obtain ⟨a0, ea0⟩ := itr_ok (lf_f _) (i := 0) (Nat.zero_le _) ea
    exact TB_R (hK a0 ea0) (by rw [f1]) (f2 6 (by omega))
  obtain ⟨oY, oY2⟩ := isR_o hY
  have e18 : Y.1 18 = nI c := by rw [oY 18 (by omega) (by omega) (by omega), f1]; exact h.rn
  have e13' : Y.2 13 c = nI nF := by rw [oY2, f2 13 (by omega)]; exact h13
  show vp_in (Y.1 18) 16 ∧ ((Y.2 13 (Y.1 18).toNatClampNeg) ≤ nI i → R_many_w (fun r211 t211 => vp_in (Y.1 18) 16 ∧ ∀ t214 : rS, t214 = rA t211 15 (Y.1 18) r211 → R_wholeFile_b218 Q (0 : Int32) t214) (4 : Int32) Y) ∧ (¬ (Y.2 13 (Y.1 18).toNatClampNeg) ≤ nI i → R_constant_w (fun r191 t191 => vp_in (((4 : Int32) * (Y.1 18)) + nI i) 64 ∧ ∀ t194 : rS, t194 = rA t191 14 (((4 : Int32) * (Y.1 18)) + nI i) r191 → ∀ v195 : Int32, v195 = nI i + (1 : Int32) → K0 (v195, t194)) (7 : Int32) Y)
  rw [e18, cc, e13', e4]
  refine ⟨v16, fun h9 => ?_, fun h9 => ?_⟩
  · have : i = nF := by have := (nI_leI (a := nF) (b := i) (by omega) (by omega)).mp h9; omega
    subst this
    refine R_am (τ := τ') (most := 4) hP' (by omega) hY (fun X1 hX1 => ⟨v16, fun t214 e214 => ?_⟩)
    have h214 := isR_rA hX1 15 (nI c) (nI ((lk (am B e 4) (itr (lf (kn B e K S 7)) i st5)).1.getD 0))
    rw [← e214] at h214
    refine R_218 (τ := rA τ' 15 (nI c) (nI ((lk (am B e 4) (itr (lf (kn B e K S 7)) i st5)).1.getD 0))) (K := K) (S := S) (n := (lk (am B e 4) (itr (lf (kn B e K S 7)) i st5)).1.getD 0) hP' (fun a ea => ?_) (am_le B e 4 _) ?_ h214 (fun τ2 X2 hX2 g1 g2 g3 g4 g5 => ?_)
    · obtain ⟨a1, v, e1, -⟩ := lk_ok ea
      exact hKs a1 e1
    · show upd (τ'.2 15) (nI c).toNatClampNeg _ c = _
      rw [cc, pk_us]
    · refine hQ τ2 X2 hX2 ⟨g1.trans f1, fun m m14 m15 m16 m17 m25 m26 => ?_, fun j hj => ⟨?_, ?_⟩, fun j hj => ⟨?_, ?_⟩, fun a' ea' => ⟨fun j hj => ?_, ?_, ?_, ?_⟩⟩
      · rw [g2 m m16 m17 m25 m26]
        show va_up τ'.2 15 _ m = _
        rw [va_up_ne _ _ m15]
        exact f2 m m14
      · rw [g2 14 (by omega) (by omega) (by omega) (by omega)]
        exact f3 j hj
      · rw [g3 j hj]
        show τ'.2 16 j = _
        rw [f2 16 (by omega)]
      · rw [g2 15 (by omega) (by omega) (by omega) (by omega)]
        show upd (τ'.2 15) (nI c).toNatClampNeg _ j = _
        rw [cc, pk_un hj, f2 15 (by omega)]
      · rw [g4 j hj]
        show τ'.2 17 j = _
        rw [f2 17 (by omega)]
      · rw [g2 14 (by omega) (by omega) (by omega) (by omega)]
        obtain ⟨a1, ea1⟩ := itr_ok (annE_f B e K S 4) (i := 0) (Nat.zero_le _) ea'
        obtain ⟨a2, v, e2, -⟩ := lk_ok (f := am B e 4) ea1
        exact hok a2 e2 j hj
      · rw [g2 15 (by omega) (by omega) (by omega) (by omega)]
        show upd (τ'.2 15) (nI c).toNatClampNeg _ c = _
        rw [cc, pk_us]
      · exact (g5 a' ea').1
      · exact (g5 a' ea').2
  · have hin : i < nF := by
      rcases Nat.lt_or_ge i nF with h7 | h7
      · exact h7
      · exact absurd (nI_le h7 (by omega)) h9
    have ci : (nI (4 * c + i)).toNatClampNeg = 4 * c + i := nI_clamp (by omega)
    refine R_kn (τ := τ') (K := K) (S := S) (s := 7) hP' hKs (Or.inr (Or.inr rfl)) hY (fun v X1 hX1 hv => ⟨vp_in_nI (by omega) (by omega), fun t194 e194 v195 e195 => ?_⟩)
    rw [nI_1] at e195
    subst e195
    have h194 := isR_rA hX1 14 (nI (4 * c + i)) v
    rw [← e194] at h194
    refine hK0 (nI (i + 1), t194) ⟨i + 1, _, t194, rfl, hin, h194, f1, fun m m14 => ?_, fun j hj => ?_, fun a' ea' j hj => ?_⟩ ?_
    · show va_up τ'.2 14 _ m = _
      rw [va_up_ne _ _ m14]
      exact f2 m m14
    · show upd (τ'.2 14) (nI (4 * c + i)).toNatClampNeg _ j = _
      rw [ci, pk_un (by omega)]
      exact f3 j hj
    · show upd (τ'.2 14) (nI (4 * c + i)).toNatClampNeg _ (4 * c + j) = _
      obtain ⟨a0, κ, ea0, hk, hk1⟩ := lk_ok (f := kn B e K S 7) ea'
      rw [ci]
      rcases Nat.lt_or_ge j i with h7 | h7
      · rw [pk_un (by omega)]
        exact hok a0 ea0 j h7
      · have : j = i := by omega
        subst this
        rw [pk_us, hv κ hk1, (kn_B hk).2.1]
        obtain ⟨a5, ea5⟩ := itr_ok (lf_f _) (i := 0) (Nat.zero_le _) ea0
        have ea5 : st5 = .inl a5 := ea5
        rw [ea5] at ea0 ⊢
        rw [(kns_ok j a0 ea0).1]
        rfl
    · show 5 - (nI (i + 1)).toNatClampNeg < 5 - (nI i).toNatClampNeg
      rw [nI_clamp (by omega), nI_clamp (by omega)]; omega
