theorem byte_eq (x : Int64) (n : Nat) (hn : n ≤ 56) (s : Int64) (u : UInt64) (hs : (s.toBitVec.smod 64).toNat = n) (hu : (u.toBitVec % 64).toNat = n) : ((x.toUInt64 >>> u).toInt64.toInt32 &&& 255) = ((x >>> s).toInt32 &&& 255) := by
  have e1 : (x.toUInt64 >>> u).toInt64.toBitVec = x.toBitVec >>> n := by rw [← hu]; exact UInt64.toBitVec_shiftRight _ _
  have e2 : (x >>> s).toBitVec = x.toBitVec.sshiftRight n := by rw [← hs]; rfl
  apply Int32.toBitVec_inj.mp
  apply BitVec.eq_of_getLsbD_eq
  intro j hj
  show ((((x.toUInt64 >>> u).toInt64.toBitVec).signExtend 32) &&& 255#32).getLsbD j = (((x >>> s).toBitVec.signExtend 32) &&& 255#32).getLsbD j
  rw [e1, e2, BitVec.getLsbD_and, BitVec.getLsbD_and, BitVec.getLsbD_signExtend, BitVec.getLsbD_signExtend, BitVec.getLsbD_ushiftRight, BitVec.getLsbD_sshiftRight]
  by_cases h8 : j < 8
  · have h1 : ¬ 64 ≤ j := by omega
    have h2 : n + j < 64 := by omega
    have h3 : j < 64 := by omega
    simp [h1, h2, h3]
  · have : (255#32).getLsbD j = false := by
      rw [BitVec.getLsbD_ofNat]
      have : Nat.testBit 255 j = false := Nat.testBit_lt_two_pow (Nat.lt_of_lt_of_le (by decide : 255 < 2 ^ 8) (Nat.pow_le_pow_right (by decide) (by omega)))
      simp [this]
    simp [this]
def cByte (x : Int64) (m : Nat) : Int32 := (((x.toUInt64 >>> (((8 : Int32) * nI m).toInt64.toUInt64 &&& Int64.toUInt64 63)).toInt64).toInt32) &&& (255 : Int32)
def rByte (x : Int64) (m : Nat) : Int32 := ((x >>> (((8 : Int32) * nI m).toInt64 &&& 63)).toInt32) &&& (255 : Int32)
theorem byte_same (x : Int64) {m : Nat} (hm : m < 8) : cByte x m = rByte x m := by
  rcases (show m = 0 ∨ m = 1 ∨ m = 2 ∨ m = 3 ∨ m = 4 ∨ m = 5 ∨ m = 6 ∨ m = 7 by omega) with rfl | rfl | rfl | rfl | rfl | rfl | rfl | rfl
  · exact byte_eq x 0 (by omega) _ _ (by decide) (by decide)
  · exact byte_eq x 8 (by omega) _ _ (by decide) (by decide)
  · exact byte_eq x 16 (by omega) _ _ (by decide) (by decide)
  · exact byte_eq x 24 (by omega) _ _ (by decide) (by decide)
  · exact byte_eq x 32 (by omega) _ _ (by decide) (by decide)
  · exact byte_eq x 40 (by omega) _ _ (by decide) (by decide)
  · exact byte_eq x 48 (by omega) _ _ (by decide) (by decide)
  · exact byte_eq x 56 (by omega) _ _ (by decide) (by decide)
theorem byte_in (x : Int64) (m : Nat) : ∃ y : Nat, y < 256 ∧ cByte x m = nI y := pk_andE _ 8 (by decide)
def cPut (x : Int64) : Nat → cS → cS
  | 0, σ => σ
  | m + 1, σ => cPut x m (sI (sA σ 0 (σ.1 0) (cByte x m)) 0 ((σ.1 0) + 1))
def rPut (x : Int64) : Nat → rS → rS
  | 0, τ => τ
  | m + 1, τ => rPut x m (rI (rA τ 0 (τ.1 1) (rByte x m)) 1 ((τ.1 1) + 1))
theorem c_putl {b : Nat → Nat} {k : Nat → ClassId} {Q : Int32 → cS → Prop} {x : Int64} : ∀ (m h : Nat) (σ : cS), σ.1 0 = nI h → h + (m + 1) ≤ 120 → Q 1 (cPut x (m + 1) σ) → fx (C_X6_put_b29_f b k Q) (m + 2) (x, nI m, σ) := by
  intro m
  induction m with
  | zero =>
    intro h σ e hh hq
    show C_X6_put_b29_s b k Q _ x (nI 0) σ
    refine ⟨fun h9 => absurd h9 (by decide), fun _ => ⟨by rw [e]; exact vp_in_nI (by omega) (by omega), fun t1 e1 t2 e2 v ev => ?_⟩⟩
    subst e1; subst e2; subst ev
    show C_X6_put_b29_s b k Q _ x (nI 0 + -1) _
    exact ⟨fun _ => hq, fun h9 => absurd (by decide) h9⟩
  | succ m ih =>
    intro h σ e hh hq
    show C_X6_put_b29_s b k Q _ x (nI (m + 1)) σ
    refine ⟨fun h9 => absurd h9 (nI_pos (by omega)), fun _ => ⟨by rw [e]; exact vp_in_nI (by omega) (by omega), fun t1 e1 t2 e2 v ev => ?_⟩⟩
    subst e1; subst e2
    rw [pk_m1] at ev
    subst ev
    refine ih (h + 1) _ ?_ (by omega) hq
    show (σ.1 0) + 1 = nI (h + 1)
    rw [e, nI_1]
theorem r_putl {Q : Int32 → rS → Prop} {x : Int64} : ∀ (m h : Nat) (τ : rS), τ.1 1 = nI h → h + (m + 1) ≤ 120 → Q 1 (rPut x (m + 1) τ) → fx (R_put_b29_f Q) (m + 2) (x, nI m, τ) := by
  intro m
  induction m with
  | zero =>
    intro h τ e hh hq
    show R_put_b29_s Q _ x (nI 0) τ
    refine ⟨fun h9 => absurd h9 (by decide), fun _ => ⟨by rw [e]; exact vp_in_nI (by omega) (by omega), fun t1 e1 t2 e2 v ev => ?_⟩⟩
    subst e1; subst e2; subst ev
    show R_put_b29_s Q _ x (nI 0 + -1) _
    exact ⟨fun _ => hq, fun h9 => absurd (by decide) h9⟩
  | succ m ih =>
    intro h τ e hh hq
    show R_put_b29_s Q _ x (nI (m + 1)) τ
    refine ⟨fun h9 => absurd h9 (nI_pos (by omega)), fun _ => ⟨by rw [e]; exact vp_in_nI (by omega) (by omega), fun t1 e1 t2 e2 v ev => ?_⟩⟩
    subst e1; subst e2
    rw [pk_m1] at ev
    subst ev
    refine ih (h + 1) _ ?_ (by omega) hq
    show (τ.1 1) + 1 = nI (h + 1)
    rw [e, nI_1]
theorem put_rel {b : Nat → Nat} {k : Nat → ClassId} {x : Int64} : ∀ (m h : Nat) (σ : cS) (τ : rS), m ≤ 8 → h + m ≤ 120 → σ.1 0 = nI h → Rel b k σ τ → Rel b k (cPut x m σ) (rPut x m τ) := by
  intro m
  induction m with
  | zero => intro h σ τ _ _ _ hR; exact hR
  | succ m ih =>
    intro h σ τ hm hh e hR
    refine ih (h + 1) _ _ (by omega) (by omega) (by show (σ.1 0) + 1 = nI (h + 1); rw [e, nI_1]) ?_
    obtain ⟨⟨n, hn, e1, e2, hB, hbit⟩, hc⟩ := hR
    have enh : n = h := (nI_eq (by omega) (by omega)).mp (e1.symm.trans e)
    subst enh
    refine ⟨⟨n + 1, by omega, ?_, ?_, fun i hi => ?_, hbit⟩, hc⟩
    · show (σ.1 0) + 1 = nI (n + 1); rw [e1, nI_1]
    · show (τ.1 1) + 1 = nI (n + 1); rw [e2, nI_1]
    · show upd (σ.2.1 0) (σ.1 0).toNatClampNeg (cByte x m) i = upd (τ.2 0) (τ.1 1).toNatClampNeg (rByte x m) i ∧ ∃ y : Nat, y < 256 ∧ upd (σ.2.1 0) (σ.1 0).toNatClampNeg (cByte x m) i = nI y
      rw [e1, e2, nI_clamp (by omega)]
      by_cases hin : i = n
      · subst hin
        rw [pk_us, pk_us]
        exact ⟨byte_same x (by omega), byte_in x m⟩
      · rw [pk_un hin, pk_un hin]
        exact hB i (by omega)
theorem sim_put (b : Nat → Nat) (k : Nat → ClassId) (x : Int64) (n : Int32) : SimI (Rel b k) (fun Q σ => C_X6_put_w b k Q x n σ) (fun Q τ => R_put_w Q x n τ) := by
  intro σ τ hR
  have hR0 := hR
  obtain ⟨⟨h, hh, e1, e2, -⟩, -⟩ := hR
  by_cases hok : ∃ m : Nat, 1 ≤ m ∧ m ≤ 8 ∧ n = nI m ∧ h + m ≤ 120
  · obtain ⟨m, hm1, hm8, rfl, hm⟩ := hok
    obtain ⟨m, rfl⟩ : ∃ m', m = m' + 1 := ⟨m - 1, by omega⟩
    refine ⟨fun r σ' => r = 1 ∧ σ' = cPut x (m + 1) σ, fun Q hQ => ?_, ?_⟩
    · refine ⟨fun h9 => ?_, fun _ => ⟨fun h9 => ?_, fun _ => ⟨fun _ v ev => ?_, fun h9 => ?_⟩⟩⟩
      · have := (nI_ltI (a := m + 1) (b := 1) (by omega) (by omega)).mp h9; omega
      · have := (nI_ltI (a := 8) (b := m + 1) (by omega) (by omega)).mp h9; omega
      · rw [nI_pred] at ev
        subst ev
        exact ⟨m + 2, c_putl m h σ e1 (by omega) (hQ _ _ ⟨rfl, rfl⟩)⟩
      · exfalso; apply h9; rw [e1, nI_add]; exact nI_le (b := 120) (by omega) (by omega)
    · rintro r σ' ⟨rfl, rfl⟩ Q' hQ'
      have hq := hQ' _ (put_rel (x := x) (m + 1) h σ τ (by omega) hm e1 hR0)
      refine ⟨fun h9 => ?_, fun _ => ⟨fun h9 => ?_, fun _ => ⟨fun _ v ev => ?_, fun h9 => ?_⟩⟩⟩
      · have := (nI_ltI (a := m + 1) (b := 1) (by omega) (by omega)).mp h9; omega
      · have := (nI_ltI (a := 8) (b := m + 1) (by omega) (by omega)).mp h9; omega
      · rw [nI_pred] at ev
        subst ev
        exact ⟨m + 2, r_putl m h τ e2 (by omega) hq⟩
      · exfalso; apply h9; rw [e2, nI_add]; exact nI_le (b := 120) (by omega) (by omega)
  · have key : ∀ {P : Prop}, ¬ n < 1 → ¬ 8 < n → nI h + n ≤ 120 → P := by
      intro P h1 h2 h3
      exfalso
      apply hok
      have h0 : ¬ n < 0 := fun h9 => h1 (Int32.lt_of_lt_of_le h9 (by decide))
      obtain ⟨m, hm, rfl⟩ := nI_of h0
      have a1 : 1 ≤ m := by
        rcases Nat.lt_or_ge m 1 with h9 | h9
        · exact absurd (nI_lt (b := 1) h9 (by omega)) h1
        · exact h9
      have a2 : m ≤ 8 := by
        rcases Nat.lt_or_ge 8 m with h9 | h9
        · exact absurd (nI_lt (a := 8) h9 (by omega)) h2
        · exact h9
      refine ⟨m, a1, a2, rfl, ?_⟩
      rw [nI_add] at h3
      exact (nI_leI (a := h + m) (b := 120) (by omega) (by omega)).mp h3
    refine ⟨fun r σ' => r = 0 ∧ σ' = σ, fun Q hQ => ?_, ?_⟩
    · have hq := hQ 0 σ ⟨rfl, rfl⟩
      exact ⟨fun _ => hq, fun h1 => ⟨fun _ => hq, fun h2 => ⟨fun h3 => key h1 h2 (by rw [← e1]; exact h3), fun _ => hq⟩⟩⟩
    · rintro r σ' ⟨rfl, rfl⟩ Q' hQ'
      have hq := hQ' τ hR0
      exact ⟨fun _ => hq, fun h1 => ⟨fun _ => hq, fun h2 => ⟨fun h3 => key h1 h2 (by rw [← e2]; exact h3), fun _ => hq⟩⟩⟩
