/-! value: long answers -/
theorem L64 {N : Nat} (h : N < 2^32) : (nI N).toInt64 &&& (4294967295 : Int64) = Int64.ofNat N := by
  apply Int64.toBitVec_inj.mp
  rw [Int64.toBitVec_and, Int32.toBitVec_toInt64]
  show (BitVec.ofNat 32 N).signExtend 64 &&& (4294967295#64) = BitVec.ofNat 64 N
  apply BitVec.eq_of_getLsbD_eq
  intro i hi
  have hm : (4294967295#64).getLsbD i = decide (i < 32) := by
    rw [BitVec.getLsbD_ofNat, show (4294967295 : Nat) = 2^32 - 1 from rfl, Nat.testBit_two_pow_sub_one]
    simp [hi]
  rw [BitVec.getLsbD_and, hm, BitVec.getLsbD_signExtend, BitVec.getLsbD_ofNat, BitVec.getLsbD_ofNat]
  by_cases h1 : i < 32
  · simp [h1, hi]
  · have : N.testBit i = false := Nat.testBit_lt_two_pow (Nat.lt_of_lt_of_le h (Nat.pow_le_pow_right (by omega) (by omega)))
    simp [h1, this]
theorem S64 {N : Nat} (h : N < 2^31) : (nI N).toInt64 = Int64.ofNat N := by
  apply Int64.toBitVec_inj.mp
  rw [Int32.toBitVec_toInt64]
  show (BitVec.ofNat 32 N).signExtend 64 = BitVec.ofNat 64 N
  apply BitVec.eq_of_getLsbD_eq
  intro i hi
  rw [BitVec.getLsbD_signExtend, BitVec.getLsbD_ofNat, BitVec.getLsbD_ofNat, BitVec.msb_eq_getLsbD_last, BitVec.getLsbD_ofNat]
  have h31 : N.testBit 31 = false := Nat.testBit_lt_two_pow h
  by_cases h1 : i < 32
  · simp [h1, hi]
  · have : N.testBit i = false := Nat.testBit_lt_two_pow (Nat.lt_of_lt_of_le h (Nat.pow_le_pow_right (by omega) (by omega)))
    simp [h1, this, h31]
theorem A64 (x y : Nat) : (256 : Int64) * Int64.ofNat x + Int64.ofNat y = Int64.ofNat (x * 256 + y) := by
  rw [Int64.ofNat_add, Int64.ofNat_mul, Int64.mul_comm]; rfl
theorem K64_1 : (1 : Int32).toInt64 <<< ((32 : Int32).toInt64 &&& 63) = (4294967296 : Int64) := by decide
theorem K64_2 : (2 : Int32).toInt64 <<< ((32 : Int32).toInt64 &&& 63) = (2 : Int64) * 4294967296 := by decide
theorem K64_3 : (3 : Int32).toInt64 <<< ((32 : Int32).toInt64 &&& 63) = (3 : Int64) * 4294967296 := by decide
theorem K64_4 : (4 : Int32).toInt64 <<< ((32 : Int32).toInt64 &&& 63) = (17179869184 : Int64) := by decide
theorem K64_5 : (5 : Int32).toInt64 <<< ((32 : Int32).toInt64 &&& 63) = (5 : Int64) * 4294967296 := by decide
theorem c_answer {b : Nat → Nat} {k : Nat → ClassId} {σ : cS} {o pp : Option Nat} {kd nm : Int32} (h : vo σ.2.2.2.2 o kd nm pp) : ∃ a, o = some a ∧ pX σ.2.2.2.2 o 5 a ∧ ∀ Q, Q ((kd.toInt64 <<< ((32 : Int32).toInt64 &&& 63)) + (nm.toInt64 &&& (4294967295 : Int64))) σ → C_X5_answer_w b k a Q σ := by
  obtain ⟨q, j, rfl, hj⟩ := h
  exact ⟨q, rfl, ⟨rfl, j, _, hj⟩, fun Q hQ => ⟨kd, ⟨q, j, _, rfl, hj, rfl⟩, nm, ⟨q, j, _, rfl, hj, rfl⟩, hQ⟩⟩
set_option maxRecDepth 100000 in
set_option maxHeartbeats 2000000 in
/-- a value's answer, in both -/
theorem both_shown {b : Nat → Nat} {k : Nat → ClassId} {σ : cS} {τ : rS} {T d r p p' : Nat} {o : Option Nat} (hT : T ≤ 192) (hd : d < 16) (hp : p' ≤ 1920) (h : vw k (b 14) σ.2.2.2.2 T (τ.2 2) (fun κ => τ.2 8 (13 * d + κ)) (fun κ => τ.2 7 (13 * d + κ)) r p o p') : ∃ (a : Nat) (v : Int64), o = some a ∧ pX σ.2.2.2.2 o 5 a ∧ (∀ Q, Q v σ → C_X5_answer_w b k a Q σ) ∧ ∀ Q l m, Q v (bk τ l m) → R_shown_w Q (nI d) (nI p) (bk τ l m) := by
  have hle := vw_le _ _ _ _ h
  have cp : (nI p).toNatClampNeg = p := nI_clamp (by omega)
  have cp1 : (nI (p + 1)).toNatClampNeg = p + 1 := nI_clamp (by omega)
  have head : ∀ (s κ : Nat) (Q : Int64 → rS → Prop) (l m : Nat → Int32), τ.2 2 p = nI s → τ.2 2 (p + 1) = nI κ → ((¬ nI s = (91 : Int32) → (¬ nI s = (73 : Int32) → (¬ nI s = (115 : Int32) → (¬ nI s = (99 : Int32) → R_shown_b119 Q (nI d) (nI κ) (5 : Int64) (bk τ l m)) ∧ (nI s = (99 : Int32) → R_shown_b119 Q (nI d) (nI κ) (3 : Int64) (bk τ l m))) ∧ (nI s = (115 : Int32) → R_shown_b119 Q (nI d) (nI κ) (2 : Int64) (bk τ l m))) ∧ (nI s = (73 : Int32) → R_shown_b43 Q (nI d) (nI κ) (0 : Int64) (1 : Int32) (bk τ l m))) ∧ (nI s = (91 : Int32) → Q ((17179869184 : Int64) + ((nI κ).toInt64)) (bk τ l m))) → R_shown_w Q (nI d) (nI p) (bk τ l m) := by
    intro s κ Q l m es eκ hb
    refine ⟨vp_in_nI (by omega) (by omega), fun v6 e6 => ?_⟩
    have e6 : v6 = τ.2 2 (nI p).toNatClampNeg := e6
    rw [cp, es] at e6
    subst e6
    rw [nI_1]
    refine ⟨vp_in_nI (by omega) (by omega), fun v15 e15 => ?_⟩
    have e15 : v15 = τ.2 2 (nI (p + 1)).toNatClampNeg := e15
    rw [cp1, eκ] at e15
    subst e15
    exact hb
  have text : ∀ (κ s : Nat) (y0 : Int64) (Q : Int64 → rS → Prop) (l m : Nat → Int32), κ ≤ 12 → s < T → τ.2 8 (13 * d + κ) = nI s → Q (y0 * 4294967296 + ((nI s).toInt64 &&& (4294967295 : Int64))) (bk τ l m) → R_shown_b119 Q (nI d) (nI κ) y0 (bk τ l m) := by
    intro κ s y0 Q l m hκ hs es hQ
    show vp_in ((13 : Int32) * nI d + nI κ) 208 ∧ Q (y0 * 4294967296 + (τ.2 8 ((13 : Int32) * nI d + nI κ).toNatClampNeg).toInt64) (bk τ l m)
    rw [e13, nI_clamp (by omega), es, S64 (by omega)]
    rw [L64 (by omega)] at hQ
    exact ⟨vp_in_nI (by omega) (by omega), hQ⟩
  cases r with
  | zero => exact False.elim h
  | succ r =>
    rcases h with ⟨κ, pq, v, es, eκ, h1, h12, epc, hint, hvo, ep⟩ | ⟨κ, s, es, eκ, h1, h12, hs, etc, hvo, ep⟩ | ⟨κ, s, es, eκ, h1, h12, hs, etc, hvo, ep⟩ | ⟨n, pp, es, en, hvo, hpp⟩ | ⟨κ, s, n, pp, es, eκ, h1, h12, hs, etc, en, hvo, hpp⟩
    · obtain ⟨a, ea, hX, ha⟩ := c_answer (b := b) (k := k) hvo
      refine ⟨a, _, ea, hX, ha, fun Q l m hQ => head 73 κ Q l m es eκ ⟨fun _ => ⟨fun h9 => absurd rfl h9, fun _ => ?_⟩, fun h9 => absurd h9 (by decide)⟩⟩
      obtain ⟨hpq, b1, b2, b3, b4, hb1, hb2, hb3, hb4, y1, y2, y3, y4, rfl⟩ := hint
      have epc : τ.2 7 (13 * d + κ) = nI pq := epc
      rw [K64_1, L64 (by omega)] at hQ
      have step : ∀ (F x i bi : Nat), 1 ≤ i → i ≤ 4 → bi < 256 → τ.2 2 (pq + i) = nI bi → fx (R_shown_b43_f Q) F (nI d, nI κ, Int64.ofNat (x * 256 + bi), nI (i + 1), bk τ l m) → fx (R_shown_b43_f Q) (F + 1) (nI d, nI κ, Int64.ofNat x, nI i, bk τ l m) := by
        intro F x i bi hi1 hi4 hbi ey hF
        show R_shown_b43_s Q (fun x1 x4 x5 x7 σ => fx (R_shown_b43_f Q) F (x1, x4, x5, x7, σ)) (nI d) (nI κ) (Int64.ofNat x) (nI i) (bk τ l m)
        refine ⟨fun h9 => absurd ((nI_ltI (a := 4) (b := i) (by omega) (by omega)).mp h9) (by omega), fun _ => ?_⟩
        show vp_in ((13 : Int32) * nI d + nI κ) 208 ∧ vp_in (τ.2 7 ((13 : Int32) * nI d + nI κ).toNatClampNeg + nI i) 1920 ∧ ∀ v77 : Int64, v77 = (256 : Int64) * Int64.ofNat x + (τ.2 2 (τ.2 7 ((13 : Int32) * nI d + nI κ).toNatClampNeg + nI i).toNatClampNeg).toInt64 → ∀ v79 : Int32, v79 = nI i + 1 → fx (R_shown_b43_f Q) F (nI d, nI κ, v77, v79, bk τ l m)
        rw [e13, nI_clamp (n := 13 * d + κ) (by omega), epc, nI_add, nI_clamp (n := pq + i) (by omega), ey, S64 (by omega), A64, nI_1]
        refine ⟨vp_in_nI (by omega) (by omega), vp_in_nI (by omega) (by omega), fun v77 e77 v79 e79 => ?_⟩
        subst e77
        subst e79
        exact hF
      refine ⟨5, step 4 0 1 b1 (by omega) (by omega) hb1 y1 (step 3 _ 2 b2 (by omega) (by omega) hb2 y2 (step 2 _ 3 b3 (by omega) (by omega) hb3 y3 (step 1 _ 4 b4 (by omega) (by omega) hb4 y4 ?_)))⟩
      rw [show 0 * 256 + b1 = b1 by omega]
      show R_shown_b43_s Q (fun x1 x4 x5 x7 σ => fx (R_shown_b43_f Q) 0 (x1, x4, x5, x7, σ)) (nI d) (nI κ) (Int64.ofNat (((b1 * 256 + b2) * 256 + b3) * 256 + b4)) (nI (4 + 1)) (bk τ l m)
      exact ⟨fun _ => hQ, fun h9 => absurd (by decide) h9⟩
    · obtain ⟨a, ea, hX, ha⟩ := c_answer (b := b) (k := k) hvo
      refine ⟨a, _, ea, hX, ha, fun Q l m hQ => head 115 κ Q l m es eκ ⟨fun _ => ⟨fun _ => ⟨fun h9 => absurd rfl h9, fun _ => text κ s 2 Q l m h12 hs etc ?_⟩, fun h9 => absurd h9 (by decide)⟩, fun h9 => absurd h9 (by decide)⟩⟩
      rw [K64_2] at hQ
      exact hQ
    · obtain ⟨a, ea, hX, ha⟩ := c_answer (b := b) (k := k) hvo
      refine ⟨a, _, ea, hX, ha, fun Q l m hQ => head 99 κ Q l m es eκ ⟨fun _ => ⟨fun _ => ⟨fun _ => ⟨fun h9 => absurd rfl h9, fun _ => text κ s 3 Q l m h12 hs etc ?_⟩, fun h9 => absurd h9 (by decide)⟩, fun h9 => absurd h9 (by decide)⟩, fun h9 => absurd h9 (by decide)⟩⟩
      rw [K64_3] at hQ
      exact hQ
    · obtain ⟨a, ea, hX, ha⟩ := c_answer (b := b) (k := k) hvo
      have hn4 : n ≤ 4 := by obtain ⟨q, j, jn, jv, an, av, nm, vs, po, -, -, -, -, hn4, -⟩ := hpp; exact hn4
      refine ⟨a, _, ea, hX, ha, fun Q l m hQ => head 91 n Q l m es en ⟨fun h9 => absurd rfl h9, fun _ => ?_⟩⟩
      rw [K64_4, L64 (by omega)] at hQ
      rw [S64 (by omega)]
      exact hQ
    · obtain ⟨a, ea, hX, ha⟩ := c_answer (b := b) (k := k) hvo
      refine ⟨a, _, ea, hX, ha, fun Q l m hQ => head 64 κ Q l m es eκ ⟨fun _ => ⟨fun _ => ⟨fun _ => ⟨fun _ => text κ s 5 Q l m h12 hs etc ?_, fun h9 => absurd h9 (by decide)⟩, fun h9 => absurd h9 (by decide)⟩, fun h9 => absurd h9 (by decide)⟩, fun h9 => absurd h9 (by decide)⟩⟩
      rw [K64_5] at hQ
      exact hQ
