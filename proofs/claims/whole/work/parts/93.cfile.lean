/-! the parse: the class file's object -/
set_option maxHeartbeats 2000000 in
theorem c_X0 {b : Nat → Nat} {k : Nat → ClassId} {σ : cS} {M : va_W} {e : Nat} {st : St} {X : cS} {q jI aI nF jA aA nA aD : Nat} {fI : Nat → Int32} {vs : Nat → Option Nat} {nu : Nat → Int32} {x1 x2 x3 x4 : Int32} (hX : isC (wp σ (M ++ [(q, .inr (0, [.int 0, .int 0, .int 0, .int 0, .null, .null, .null, .null]))])) e st X) (hI : M[jI]? = some (aI, .inl (k 0, nF, .inl fI))) (hF4 : nF ≤ 4) (hA : M[jA]? = some (aA, .inl (k 3, nA, .inr (.inr (.inr (.inr vs)))))) (hA4 : nA ≤ 4) (hv : ∀ i, i < nA → pI M (vs i) 5 1 (nu i)) {Q : cS → Prop} (hQ : ∀ (X' : cS) (M' : va_W) (aS aT jS jT y : Nat) (fS fT : Nat → Int32), isC (wp σ M') e st X' → grows M M' → M'[M.length]? = some (q, .inr (0, [.int x1, .int x2, .int x3, .int x4, .ref aA, .ref aD, .ref aS, .ref aT])) → M'[jS]? = some (aS, .inl (k 0, y + nF, .inl fS)) → ((y = 0 ∧ x3 = -1) ∨ (y = 1 ∧ ¬ x3 = -1 ∧ fS 0 = x3)) → (∀ i, i < nF → fS (y + i) = fI i) → M'[jT]? = some (aT, .inl (k 0, nA, .inl fT)) → (∀ i, i < nA → fT i = nu i) → Q X') : C_X0_init_w b k 2 9 q Q x1 x2 x3 x4 (some aI) (some aA) (some aD) X := by
  have g0 : (M ++ [(q, Sum.inr (0, [Value.int 0, Value.int 0, Value.int 0, Value.int 0, Value.null, Value.null, Value.null, Value.null]))] : va_W)[M.length]? = some (q, .inr (0, [.int 0, .int 0, .int 0, .int 0, .null, .null, .null, .null])) := by simp
  have gg := grows_app M [(q, Sum.inr (0, [Value.int 0, Value.int 0, Value.int 0, Value.int 0, Value.null, Value.null, Value.null, Value.null]))]
  generalize (M ++ [(q, Sum.inr (0, [Value.int 0, Value.int 0, Value.int 0, Value.int 0, Value.null, Value.null, Value.null, Value.null]))] : va_W) = W at hX g0 gg
  have lt8 : ∀ {i : Nat} {u0 u1 u2 u3 u4 u5 u6 u7 : Value}, i < 8 → i < [u0, u1, u2, u3, u4, u5, u6, u7].length := fun h => h
  refine ⟨M.length, _, by rw [isC_L hX]; exact g0, lt8 (by omega), fun t6 e6 => ?_⟩
  have h6 := isC_sP hX M.length (q, .inr (0, [.int x1, .int 0, .int 0, .int 0, .null, .null, .null, .null]))
  have e6 : t6 = sP X M.length (q, .inr (0, [.int x1, .int 0, .int 0, .int 0, .null, .null, .null, .null])) := e6
  rw [← e6] at h6
  refine ⟨M.length, _, by rw [isC_L h6]; exact get_set g0, lt8 (by omega), fun t11 e11 => ?_⟩
  have h11 := isC_sP h6 M.length (q, .inr (0, [.int x1, .int x2, .int 0, .int 0, .null, .null, .null, .null]))
  have e11 : t11 = sP t6 M.length (q, .inr (0, [.int x1, .int x2, .int 0, .int 0, .null, .null, .null, .null])) := e11
  rw [← e11, List.set_set] at h11
  refine ⟨M.length, _, by rw [isC_L h11]; exact get_set g0, lt8 (by omega), fun t16 e16 => ?_⟩
  have h16 := isC_sP h11 M.length (q, .inr (0, [.int x1, .int x2, .int x3, .int 0, .null, .null, .null, .null]))
  have e16 : t16 = sP t11 M.length (q, .inr (0, [.int x1, .int x2, .int x3, .int 0, .null, .null, .null, .null])) := e16
  rw [← e16, List.set_set] at h16
  refine ⟨M.length, _, by rw [isC_L h16]; exact get_set g0, lt8 (by omega), fun t22 e22 => ?_⟩
  have h22 := isC_sP h16 M.length (q, .inr (0, [.int x1, .int x2, .int x3, .int x4, .null, .null, .null, .null]))
  have e22 : t22 = sP t16 M.length (q, .inr (0, [.int x1, .int x2, .int x3, .int x4, .null, .null, .null, .null])) := e22
  rw [← e22, List.set_set] at h22
  refine ⟨M.length, _, by rw [isC_L h22]; exact get_set g0, lt8 (by omega), fun t28 e28 => ?_⟩
  have h28 := isC_sP h22 M.length (q, .inr (0, [.int x1, .int x2, .int x3, .int x4, .ref aA, .null, .null, .null]))
  have e28 : t28 = sP t22 M.length (q, .inr (0, [.int x1, .int x2, .int x3, .int x4, .ref aA, .null, .null, .null])) := e28
  rw [← e28, List.set_set] at h28
  refine ⟨M.length, _, by rw [isC_L h28]; exact get_set g0, lt8 (by omega), fun t34 e34 => ?_⟩
  have h34 := isC_sP h28 M.length (q, .inr (0, [.int x1, .int x2, .int x3, .int x4, .ref aA, .ref aD, .null, .null]))
  have e34 : t34 = sP t28 M.length (q, .inr (0, [.int x1, .int x2, .int x3, .int x4, .ref aA, .ref aD, .null, .null])) := e34
  rw [← e34, List.set_set] at h34
  have c34 := get_set (q := (q, .inr (0, [.int x1, .int x2, .int x3, .int x4, .ref aA, .ref aD, .null, .null]))) g0
  have gg34 := grows_set gg (j := M.length) (Nat.le_refl _) (q, .inr (0, [.int x1, .int x2, .int x3, .int x4, .ref aA, .ref aD, .null, .null]))
  generalize W.set M.length (q, .inr (0, [.int x1, .int x2, .int x3, .int x4, .ref aA, .ref aD, .null, .null])) = W1 at h34 c34 gg34
  clear h6 h11 h16 h22 h28 hX e6 e11 e16 e22 e28 e34
  have b47 : ∀ y : Nat, ((y = 0 ∧ x3 = -1) ∨ (y = 1 ∧ ¬ x3 = -1)) → C_X0_init_b47 b k 2 9 q Q x3 (some aI) (some aA) (nI y) 0 0 t34 := by
    intro y hy
    have hy1 : y ≤ 1 := by rcases hy with q | q <;> omega
    have ey : nI y + Int32.ofNat nF = nI (y + nF) := nI_add y nF
    have cy : (nI (y + nF)).toNatClampNeg = y + nF := nI_clamp (by omega)
    refine ⟨nF, fI, ⟨aI, jI, rfl, by rw [isC_L h34]; exact gg34 _ _ hI⟩, ?_⟩
    rw [ey, cy]
    refine ⟨nI_pos (by omega), by omega, by omega, by omega, fun q56 t56 e56 => ?_⟩
    have h56 := isC_sN h34 (q56, .inl (k 0, y + nF, .inl (fun _ => 0)))
    rw [← e56] at h56
    have gg2 := grows_trans gg34 (grows_app W1 [(q56, Sum.inl (k 0, y + nF, Sum.inl (fun _ => 0)))])
    have c2 := grows_app W1 [(q56, Sum.inl (k 0, y + nF, Sum.inl (fun _ => 0)))] _ _ c34
    have d2 : (W1 ++ [(q56, Sum.inl (k 0, y + nF, Sum.inl (fun _ => 0)))] : va_W)[W1.length]? = some (q56, .inl (k 0, y + nF, .inl (fun _ => 0))) := by simp
    have hl1 := lt_of_some c34
    generalize (W1 ++ [(q56, Sum.inl (k 0, y + nF, Sum.inl (fun _ => 0)))] : va_W) = W2 at h56 gg2 c2 d2
    refine ⟨M.length, _, by rw [isC_L h56]; exact c2, lt8 (by omega), fun t58 e58 => ?_⟩
    have h58 := isC_sP h56 M.length (q, .inr (0, [.int x1, .int x2, .int x3, .int x4, .ref aA, .ref aD, .ref q56, .null]))
    have e58 : t58 = sP t56 M.length (q, .inr (0, [.int x1, .int x2, .int x3, .int x4, .ref aA, .ref aD, .ref q56, .null])) := e58
    rw [← e58] at h58
    have gg3 := grows_set gg2 (j := M.length) (Nat.le_refl _) (q, .inr (0, [.int x1, .int x2, .int x3, .int x4, .ref aA, .ref aD, .ref q56, .null]))
    have c3 := get_set (q := (q, .inr (0, [.int x1, .int x2, .int x3, .int x4, .ref aA, .ref aD, .ref q56, .null]))) c2
    have d3 := get_setn (q := (q, .inr (0, [.int x1, .int x2, .int x3, .int x4, .ref aA, .ref aD, .ref q56, .null]))) d2 (j := M.length) (by omega)
    generalize W2.set M.length (q, .inr (0, [.int x1, .int x2, .int x3, .int x4, .ref aA, .ref aD, .ref q56, .null])) = W3 at h58 gg3 c3 d3
    have b74 : ∀ (Y : cS) (V : va_W) (g : Nat → Int32), isC (wp σ V) e st Y → grows M V → V[M.length]? = some (q, .inr (0, [.int x1, .int x2, .int x3, .int x4, .ref aA, .ref aD, .ref q56, .null])) → V[W1.length]? = some (q56, .inl (k 0, y + nF, .inl g)) → (y = 1 → g 0 = x3) → C_X0_init_b74 b k 2 9 q Q (some aI) (some aA) (nI y) (0 + 1) (0 + (y + nF)) Y := by
      intro Y V g hY gV cV dV hg0
      have eL := isC_L hY
      have cF : (Int32.ofNat nF).toNatClampNeg = nF := nI_clamp (n := nF) (by omega)
      have cA : (Int32.ofNat nA).toNatClampNeg = nA := nI_clamp (n := nA) (by omega)
      have cyy : (nI y).toNatClampNeg = y := nI_clamp (by omega)
      refine ⟨some q56, ⟨q, M.length, _, rfl, by rw [eL]; exact cV, rfl⟩, nF, fI, ⟨aI, jI, rfl, by rw [eL]; exact gV _ _ hI⟩, aI, jI, nF, fI, q56, W1.length, y + nF, g, rfl, by rw [eL]; exact gV _ _ hI, rfl, by rw [eL]; exact dV, by decide, nI_pos (by omega), nI_pos (n := nF) (by omega), ?_, ?_, fun t86 e86 => ?_⟩
      · rw [cF]; show 0 + nF ≤ nF; omega
      · rw [cF, cyy]; omega
      · rw [cF, cyy] at e86
        have h86 := isC_sP hY W1.length (q56, .inl (k 0, y + nF, .inl (va_cpy fI g 0 y nF)))
        have e86 : t86 = sP Y W1.length (q56, .inl (k 0, y + nF, .inl (va_cpy fI g 0 y nF))) := e86
        rw [← e86] at h86
        have gg4 := grows_set gV (j := W1.length) (by omega) (q56, .inl (k 0, y + nF, .inl (va_cpy fI g 0 y nF)))
        have c4 := get_setn (q := (q56, .inl (k 0, y + nF, .inl (va_cpy fI g 0 y nF)))) cV (j := W1.length) (by omega)
        have d4 := get_set (q := (q56, .inl (k 0, y + nF, .inl (va_cpy fI g 0 y nF)))) dV
        generalize V.set W1.length (q56, .inl (k 0, y + nF, .inl (va_cpy fI g 0 y nF))) = V4 at h86 gg4 c4 d4
        refine ⟨nA, vs, ⟨aA, jA, rfl, by rw [isC_L h86]; exact gg4 _ _ hA⟩, nI_pos (n := nA) (by omega), by rw [cA]; omega, by omega, by rw [cA]; omega, fun q93 t93 e93 => ?_⟩
        rw [cA] at e93 ⊢
        have h93 := isC_sN h86 (q93, .inl (k 0, nA, .inl (fun _ => 0)))
        rw [← e93] at h93
        have gg5 := grows_trans gg4 (grows_app V4 [(q93, Sum.inl (k 0, nA, Sum.inl (fun _ => 0)))])
        have c5 := grows_app V4 [(q93, Sum.inl (k 0, nA, Sum.inl (fun _ => 0)))] _ _ c4
        have d5 := grows_app V4 [(q93, Sum.inl (k 0, nA, Sum.inl (fun _ => 0)))] _ _ d4
        have f5 : (V4 ++ [(q93, Sum.inl (k 0, nA, Sum.inl (fun _ => 0)))] : va_W)[V4.length]? = some (q93, .inl (k 0, nA, .inl (fun _ => 0))) := by simp
        have l4 := lt_of_some d4
        generalize (V4 ++ [(q93, Sum.inl (k 0, nA, Sum.inl (fun _ => 0)))] : va_W) = V5 at h93 gg5 c5 d5 f5
        refine ⟨M.length, _, by rw [isC_L h93]; exact c5, lt8 (by omega), fun t95 e95 => ?_⟩
        have h95 := isC_sP h93 M.length (q, .inr (0, [.int x1, .int x2, .int x3, .int x4, .ref aA, .ref aD, .ref q56, .ref q93]))
        have e95 : t95 = sP t93 M.length (q, .inr (0, [.int x1, .int x2, .int x3, .int x4, .ref aA, .ref aD, .ref q56, .ref q93])) := e95
        rw [← e95] at h95
        have gg6 := grows_set gg5 (j := M.length) (Nat.le_refl _) (q, .inr (0, [.int x1, .int x2, .int x3, .int x4, .ref aA, .ref aD, .ref q56, .ref q93]))
        have c6 := get_set (q := (q, .inr (0, [.int x1, .int x2, .int x3, .int x4, .ref aA, .ref aD, .ref q56, .ref q93]))) c5
        have d6 := get_setn (q := (q, .inr (0, [.int x1, .int x2, .int x3, .int x4, .ref aA, .ref aD, .ref q56, .ref q93]))) d5 (j := M.length) (by omega)
        have f6 := get_setn (q := (q, .inr (0, [.int x1, .int x2, .int x3, .int x4, .ref aA, .ref aD, .ref q56, .ref q93]))) f5 (j := M.length) (by omega)
        generalize V5.set M.length (q, .inr (0, [.int x1, .int x2, .int x3, .int x4, .ref aA, .ref aD, .ref q56, .ref q93])) = V6 at h95 gg6 c6 d6 f6
        refine fx_ex (C_X0_init_b101_f b k 2 9 q Q) (fun z => ∃ (i : Nat) (fT : Nat → Int32) (U : va_W) (Z : cS), z = (some aA, nI i, 0 + 1 + 1, 0 + (y + nF) + nA, Z) ∧ i ≤ nA ∧ isC (wp σ U) e st Z ∧ grows M U ∧ U[M.length]? = some (q, .inr (0, [.int x1, .int x2, .int x3, .int x4, .ref aA, .ref aD, .ref q56, .ref q93])) ∧ U[W1.length]? = some (q56, .inl (k 0, y + nF, .inl (va_cpy fI g 0 y nF))) ∧ U[V4.length]? = some (q93, .inl (k 0, nA, .inl fT)) ∧ ∀ j, j < i → fT j = nu j) (fun z => 5 - z.2.1.toNatClampNeg) ?_ _ ⟨0, _, V6, t95, rfl, Nat.zero_le _, h95, gg6, c6, d6, f6, fun j hj => absurd hj (Nat.not_lt_zero _)⟩
        rintro K0 _ ⟨i, fT, U, Z, rfl, hi, hZ, gU, cU, dU, fU, hall⟩ hK0
        show C_X0_init_b101_s b k 2 9 q Q (fun x6 x9 nc ns σ => K0 (x6, x9, nc, ns, σ)) (some aA) (nI i) (0 + 1 + 1) (0 + (y + nF) + nA) Z
        have eZ := isC_L hZ
        refine ⟨nA, vs, ⟨aA, jA, rfl, by rw [eZ]; exact gU _ _ hA⟩, fun h9 => ?_, fun h9 => ?_⟩
        · have : i = nA := by have := (nI_leI (a := nA) (b := i) (by omega) (by omega)).mp h9; omega
          subst this
          refine hQ Z U q56 q93 W1.length V4.length y _ fT hZ gU cU dU ?_ (fun j hj => ?_) fU hall
          · rcases hy with ⟨q1, q2⟩ | ⟨q1, q2⟩
            · exact Or.inl ⟨q1, q2⟩
            · refine Or.inr ⟨q1, q2, ?_⟩
              rw [pk_cpy_out (by omega)]
              exact hg0 q1
          · rw [pk_cpy_in (by omega) (by omega)]
            congr 1
            omega
        · have hin : i < nA := by
            rcases Nat.lt_or_ge i nA with h7 | h7
            · exact h7
            · exact absurd (nI_le h7 (by omega)) h9
          have ci : (nI i).toNatClampNeg = i := nI_clamp (by omega)
          obtain ⟨o, jo, fo, eo, ho, hfo⟩ := hv i hin
          refine ⟨some q93, ⟨q, M.length, _, rfl, by rw [eZ]; exact cU, rfl⟩, nA, vs, ⟨aA, jA, rfl, by rw [eZ]; exact gU _ _ hA⟩, vp_in_nI hin (by omega), nu i, ⟨o, jo, fo, by rw [ci]; exact eo, by rw [eZ]; exact gU _ _ ho, hfo⟩, q93, V4.length, nA, fT, rfl, by rw [eZ]; exact fU, vp_in_nI hin (by omega), fun t123 e123 v124 e124 => ?_⟩
          rw [ci] at e123
          rw [nI_1] at e124
          subst e124
          have h123 := isC_sP hZ V4.length (q93, .inl (k 0, nA, .inl (upd fT i (nu i))))
          rw [← e123] at h123
          refine hK0 (some aA, nI (i + 1), 0 + 1 + 1, 0 + (y + nF) + nA, t123) ⟨i + 1, _, _, t123, rfl, hin, h123, grows_set gU (by omega) _, get_setn cU (by omega), get_setn dU (by omega), get_set fU, fun j hj => ?_⟩ ?_
          · rcases Nat.lt_or_ge j i with h7 | h7
            · rw [pk_un (by omega)]; exact hall j h7
            · have : j = i := by omega
              subst this; exact pk_us
          · show 5 - (nI (i + 1)).toNatClampNeg < 5 - (nI i).toNatClampNeg
            rw [nI_clamp (by omega), nI_clamp (by omega)]; omega
    refine ⟨fun hn1 => b74 t58 W3 _ h58 gg3 c3 d3 (fun q => ?_), fun h1 => ?_⟩
    · subst q; exact absurd rfl hn1
    · have hy1' : y = 1 := (nI_eq (b := 1) (by omega) (by omega)).mp h1
      subst hy1'
      refine ⟨some q56, ⟨q, M.length, _, rfl, by rw [isC_L h58]; exact c3, rfl⟩, q56, W1.length, 1 + nF, _, rfl, by rw [isC_L h58]; exact d3, vp_in_nI (n := 0) (by omega) (by omega), fun t73 e73 => ?_⟩
      have h73 := isC_sP h58 W1.length (q56, .inl (k 0, 1 + nF, .inl (upd (fun _ => 0) 0 x3)))
      have e73 : t73 = sP t58 W1.length (q56, .inl (k 0, 1 + nF, .inl (upd (fun _ => 0) 0 x3))) := e73
      rw [← e73] at h73
      exact b74 t73 _ _ h73 (grows_set gg3 (by omega) _) (get_setn c3 (by omega)) (get_set d3) (fun _ => pk_us)
  exact ⟨fun h9 => b47 1 (Or.inr ⟨rfl, h9⟩), fun h9 => b47 0 (Or.inl ⟨rfl, h9⟩)⟩
