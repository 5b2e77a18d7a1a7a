/-! the parse: letters, ints, texts, class side -/
def itr (f : St → St) : Nat → St → St
  | 0, st => st
  | n + 1, st => f (itr f n st)
theorem itr_f {f : St → St} (hf : ∀ q, f (.inr q) = .inr q) (q : Nat × Nat) : ∀ n, itr f n (.inr q) = .inr q := by
  intro n
  induction n with
  | zero => rfl
  | succ n ih => show f (itr f n (.inr q)) = .inr q; rw [ih, hf]
theorem itr_add {f : St → St} (m : Nat) : ∀ n st, itr f (m + n) st = itr f n (itr f m st) := by
  intro n
  induction n with
  | zero => intro st; rfl
  | succ n ih => intro st; show f (itr f (m + n) st) = f (itr f n (itr f m st)); rw [ih]
theorem itr_stuck {f : St → St} (hf : ∀ q, f (.inr q) = .inr q) {i n : Nat} {st : St} {q : Nat × Nat} (hi : i ≤ n) (h : itr f i st = .inr q) : itr f n st = .inr q := by
  obtain ⟨d, rfl⟩ : ∃ d, n = i + d := ⟨n - i, by omega⟩
  rw [itr_add, h, itr_f hf]
theorem itr_ok {f : St → St} (hf : ∀ q, f (.inr q) = .inr q) {i n a : Nat} {st : St} (hi : i ≤ n) (h : itr f n st = .inl a) : ∃ a', itr f i st = .inl a' := by
  cases h1 : itr f i st with
  | inl a' => exact ⟨a', rfl⟩
  | inr q => rw [itr_stuck hf hi h1] at h; cases h
def lt1 (B : Nat → Nat) (e a : Nat) : (Nat × Nat) ⊕ (Nat × Nat) := if a < e then (if 33 ≤ B a ∧ B a ≤ 126 then .inl (B a, a + 1) else .inr (5, a)) else .inr (1, e)
theorem gd_lt1 (B : Nat → Nat) (e : Nat) : gd e (lt1 B e) := by
  intro a ha
  unfold lt1
  by_cases h : a < e
  · rw [if_pos h]
    by_cases h2 : 33 ≤ B a ∧ B a ≤ 126
    · rw [if_pos h2]
      exact ⟨fun v a' e9 => by cases e9; omega, fun r u e9 => by cases e9⟩
    · rw [if_neg h2]
      exact ⟨fun v a' e9 => (by cases e9), fun r u e9 => by cases e9; omega⟩
  · rw [if_neg h]
    exact ⟨fun v a' e9 => (by cases e9), fun r u e9 => by cases e9; omega⟩
theorem lt1_B {B : Nat → Nat} {e a v a' : Nat} (h : lt1 B e a = .inl (v, a')) : a < e ∧ 33 ≤ B a ∧ B a ≤ 126 ∧ a' = a + 1 := by
  unfold lt1 at h
  by_cases h1 : a < e
  · rw [if_pos h1] at h
    by_cases h2 : 33 ≤ B a ∧ B a ≤ 126
    · rw [if_pos h2] at h; cases h; exact ⟨h1, h2.1, h2.2, rfl⟩
    · rw [if_neg h2] at h; cases h
  · rw [if_neg h1] at h; cases h
def lf (f : Nat → (Nat × Nat) ⊕ (Nat × Nat)) (st : St) : St := (lk f st).2
theorem lf_f (f : Nat → (Nat × Nat) ⊕ (Nat × Nat)) (q : Nat × Nat) : lf f (.inr q) = .inr q := rfl
/-- letters that were read -/
theorem lts_ok {B : Nat → Nat} {e a0 : Nat} : ∀ m a, itr (lf (lt1 B e)) m (.inl a0) = .inl a → a = a0 + m ∧ ∀ i, i < m → a0 + i < e ∧ 33 ≤ B (a0 + i) ∧ B (a0 + i) ≤ 126 := by
  intro m
  induction m with
  | zero => intro a h; cases h; exact ⟨rfl, fun i hi => absurd hi (Nat.not_lt_zero _)⟩
  | succ m ih =>
    intro a h
    obtain ⟨a1, v, e1, h2, -⟩ := lk_ok (f := lt1 B e) h
    obtain ⟨e2, hall⟩ := ih a1 e1
    have := lt1_B h2
    refine ⟨by omega, fun i hi => ?_⟩
    rcases Nat.lt_or_ge i m with h7 | h7
    · exact hall i h7
    · have : i = m := by omega
      subst this
      rw [← e2]
      exact ⟨this.1, this.2.1, this.2.2.1⟩
theorem nxs_ok {B : Nat → Nat} {e a0 : Nat} : ∀ m a, itr (lf (nx B e)) m (.inl a0) = .inl a → a = a0 + m ∧ (1 ≤ m → a0 + m ≤ e) := by
  intro m
  induction m with
  | zero => intro a h; cases h; exact ⟨rfl, fun h => absurd h (by omega)⟩
  | succ m ih =>
    intro a h
    obtain ⟨a1, v, e1, h2, -⟩ := lk_ok (f := nx B e) h
    obtain ⟨e2, hall⟩ := ih a1 e1
    have := nx_B h2
    exact ⟨by omega, fun _ => by omega⟩
theorem C_nx {b : Nat → Nat} {k : Nat → ClassId} {σ : cS} {τ : rS} {B : Nat → Nat} {e c : Nat} (h : PB b σ τ B e c) {st : St} {X : cS} (hX : isC σ e st X) {Q : Int32 → cS → Prop} (hQ : ∀ X', isC σ e (lk (nx B e) st).2 X' → Q (nI ((lk (nx B e) st).1.getD 0)) X') : C_X3_next_w b k Q X := by
  cases st with
  | inl a =>
    obtain ⟨ha, rfl⟩ := hX
    refine c_next h ha (fun y a' e9 => ?_) (fun r s e9 => ?_)
    · rw [lk_1 e9] at hQ
      exact hQ _ ⟨((gd_nx B e a ha).1 _ _ e9).2, rfl⟩
    · rw [lk_0 e9] at hQ
      exact hQ _ ⟨(gd_nx B e a ha).2 _ _ e9, a, ha, rfl⟩
  | inr q =>
    obtain ⟨hq, a, ha, rfl⟩ := hX
    exact c_next_f (nI_fq h.he hq) (hQ _ ⟨hq, a, ha, rfl⟩)
/-- the value of the first bytes of an int -/
def iv (B : Nat → Nat) (a : Nat) : Nat → Nat
  | 0 => 0
  | i + 1 => iv B a i * 256 + B (a + i)
theorem iv_lt {B : Nat → Nat} {a : Nat} : ∀ i, (∀ j, j < i → B (a + j) < 256) → iv B a i < 256 ^ i := by
  intro i
  induction i with
  | zero => intro _; exact Nat.one_pos
  | succ i ih =>
    intro h
    have h1 := ih (fun j hj => h j (by omega))
    have h2 := h i (by omega)
    show iv B a i * 256 + B (a + i) < 256 ^ i * 256
    omega
theorem or_byte {n y : Nat} (hn : n < 16777216) (hy : y < 256) : (nI n <<< ((8 : Int32) &&& 31)) ||| nI y = nI (n * 256 + y) := by
  have hn3 : n * 256 + y < 4294967296 := by omega
  have hn4 : n * 256 < 4294967296 := Nat.lt_of_le_of_lt (Nat.le_add_right (n * 256) y) hn3
  have hy2 : y < 4294967296 := Nat.lt_of_le_of_lt (Nat.le_add_left y (n * 256)) hn3
  have h1 : nI n <<< ((8 : Int32) &&& 31) = nI (n * 256) := pk_shlN (n := n) ((8 : Int32) &&& 31) 8 (by decide) hn4
  rw [h1]
  apply Int32.toBitVec_inj.mp
  apply BitVec.eq_of_toNat_eq
  have t1 : (nI (n * 256)).toBitVec.toNat = n * 256 := pk_tn hn4
  have t2 : (nI y).toBitVec.toNat = y := pk_tn hy2
  have t3 := pk_tn hn3
  rw [Int32.toBitVec_or, BitVec.toNat_or, t1, t2, t3]
  have := Nat.two_pow_add_eq_or_of_lt (i := 8) (b := y) hy n
  rw [Nat.mul_comm n 256]
  exact this.symm
theorem c_int {b : Nat → Nat} {k : Nat → ClassId} {σ : cS} {τ : rS} {B : Nat → Nat} {e c : Nat} (h : PB b σ τ B e c) {a0 : Nat} {X : cS} (hX : isC σ e (.inl a0) X) {Q : Int32 → cS → Prop} (hQ : ∀ v X', isC σ e (itr (lf (nx B e)) 4 (.inl a0)) X' → (a0 + 4 ≤ e → v = nI (iv B a0 4)) → Q v X') : C_X3_readInt_w b k Q X := by
  have he := h.he
  refine fx_ex (C_X3_readInt_b4_f b k Q) (fun z => ∃ (i : Nat) (v : Int32) (Y : cS), z = (v, nI i, Y) ∧ i ≤ 4 ∧ isC σ e (itr (lf (nx B e)) i (.inl a0)) Y ∧ (a0 + i ≤ e → v = nI (iv B a0 i))) (fun z => 5 - z.2.1.toNatClampNeg) ?_ _ ⟨0, 0, X, rfl, by omega, hX, fun _ => rfl⟩
  rintro K _ ⟨i, v, Y, rfl, hi, hY, hv⟩ hK
  show C_X3_readInt_b4_s b k Q (fun x1 x2 σ => K (x1, x2, σ)) v (nI i) Y
  refine ⟨fun h9 => ?_, fun h9 => ?_⟩
  · have : i = 4 := by have := (nI_leI (a := 4) (b := i) (by omega) (by omega)).mp h9; omega
    subst this
    exact hQ v Y hY hv
  · have hi4 : i < 4 := by
      rcases Nat.lt_or_ge i 4 with h7 | h7
      · exact h7
      · exact absurd (nI_le (a := 4) h7 (by omega)) h9
    refine C_nx h hY (fun X' hX' v18 e18 v19 e19 => ?_)
    rw [nI_1] at e19
    subst e19
    refine hK (v18, nI (i + 1), X') ⟨i + 1, v18, X', rfl, hi4, hX', fun h7 => ?_⟩ ?_
    · rw [e18, hv (by omega)]
      cases h1 : itr (lf (nx B e)) i (.inl a0) with
      | inr q =>
        exfalso
        have : ∀ j, a0 + j ≤ e → itr (lf (nx B e)) j (.inl a0) = .inl (a0 + j) := by
          intro j
          induction j with
          | zero => intro _; rfl
          | succ j ih =>
            intro hj
            show lf (nx B e) (itr (lf (nx B e)) j (.inl a0)) = _
            rw [ih (by omega)]
            unfold lf
            rw [lk_1 (nx_1 (by omega))]
            rfl
        rw [this i (by omega)] at h1
        cases h1
      | inl a =>
        have e2 := (nxs_ok i a h1).1
        subst e2
        rw [lk_1 (nx_1 (by omega))]
        have b1 : iv B a0 i < 256 ^ i := iv_lt i (fun j hj => h.by_b _ (by omega))
        have b2 := h.by_b (a0 + i) (by omega)
        have b3 : 256 ^ i ≤ 16777216 := Nat.pow_le_pow_right (i := i) (j := 3) (by omega) (by omega)
        exact or_byte (by omega) b2
    · show 5 - (nI (i + 1)).toNatClampNeg < 5 - (nI i).toNatClampNeg
      rw [nI_clamp (by omega), nI_clamp (by omega)]; omega
