/-- the running count -/
def accN (f : Nat → Int32) (x y : Int32) (w : Nat → Nat) : Nat → Nat
  | 0 => 0
  | i + 1 => accN f x y w i + (if f i = x then 1 else 0) + (if f i = y then w i else 0)
theorem accN_le {f : Nat → Int32} {x y : Int32} {w : Nat → Nat} {n : Nat} (hw : ∀ i, i < n → w i ≤ 4) : ∀ i, i ≤ n → accN f x y w i ≤ 5 * i := by
  intro i
  induction i with
  | zero => intro _; exact Nat.le_refl _
  | succ i ih =>
    intro hi
    have h1 := ih (by omega)
    have h2 := hw i (by omega)
    show accN f x y w i + (if f i = x then 1 else 0) + (if f i = y then w i else 0) ≤ 5 * (i + 1)
    split <;> split <;> omega
theorem both_cont {b : Nat → Nat} {k : Nat → ClassId} {σ : cS} {τ : rS} (hR : Rel b k σ τ) {C : Nat} (hC : C ≤ 16) (e1 : σ.1 2 = nI C) (e2 : τ.1 3 = nI C) (x : Int32) : ∃ rf cont : Int32, (∀ Q, Q rf τ → R_find_w Q x τ) ∧ (∀ Q, Q cont σ → C_X1_containerOf_w b k Q x σ) ∧ ((rf = -1 ∧ cont = -1) ∨ ∃ c, c < C ∧ rf = nI c ∧ cont = τ.2 12 c) := by
  obtain ⟨r, h1, h2, h3⟩ := both_find hR x
  rcases h3 with ⟨rfl, -⟩ | ⟨c, C', eC', hC', hc, rfl, ex⟩
  · exact ⟨-1, -1, h2, fun Q hQ => h1 _ ⟨fun h9 => absurd rfl h9, fun _ => hQ⟩, Or.inl ⟨rfl, rfl⟩⟩
  · have : C' = C := (nI_eq (by omega) (by omega)).mp (eC'.symm.trans e2)
    subst this
    refine ⟨nI c, τ.2 12 c, h2, fun Q hQ => h1 _ ⟨fun _ => ⟨vp_in_nI (by omega) (by omega), τ.2 12 c, ?_, hQ⟩, fun h9 => absurd h9 (nI_nm1 (by omega))⟩, Or.inr ⟨c, hc, rfl, rfl⟩⟩
    rw [nI_clamp (by omega)]
    exact (cf_pI hR hC e1 hc).2.2.2
set_option maxRecDepth 100000 in
set_option maxHeartbeats 2000000 in
/-- how many annotations of type t are at class d -/
theorem both_countAt {b : Nat → Nat} {k : Nat → ClassId} {σ : cS} {τ : rS} (hR : Rel b k σ τ) {C T d t : Nat} (hC : C ≤ 16) (hT : T ≤ 192) (e1 : σ.1 2 = nI C) (eC : τ.1 3 = nI C) (eT : τ.1 5 = nI T) (hd : d < C) (ht : t < T) {rf cont : Int32} (hfind : ∀ Q, Q rf τ → R_find_w Q (nI t) τ) (hcont : (rf = -1 ∧ cont = -1) ∨ ∃ c, c < C ∧ rf = nI c ∧ cont = τ.2 12 c) : ∃ q r : Nat, r ≤ 20 ∧ pX σ.2.2.2.2 (σ.2.2.1 d) 0 q ∧ (∀ Q, Q (nI r) σ → C_X0_annotationsOf_w b k q Q (nI t) cont σ) ∧ ∀ Q l0 m0, (∀ Q0 l0 m0, Q0 rf (bk τ l0 m0) → R_find_w Q0 (nI t) (bk τ l0 m0)) → (∀ l m, Q (nI r) (bk τ l m)) → R_countAt_w Q (nI d) (nI t) (bk τ l0 m0) := by
  obtain ⟨-, C', T', hC', hT', -, e2, -, e4', -, -, -, -, hcf⟩ := hR
  have : C' = C := (nI_eq (by omega) (by omega)).mp (e2.symm.trans eC)
  subst this
  have : T' = T := (nI_eq (by omega) (by omega)).mp (e4'.symm.trans eT)
  subst this
  obtain ⟨q, j, aA, aD, aS, aT, eo, hj, -, -, -, -, ⟨nA, jA, jT, fT, vs, hnA, eA, hjA, -, hAn⟩, -⟩ := hcf d hd
  have cd : (nI d).toNatClampNeg = d := nI_clamp (by omega)
  have hpR : pR σ.2.2.2.2 (some q) 0 4 (some aA) := ⟨q, j, _, rfl, hj, rfl⟩
  have hpQ : pQ σ.2.2.2.2 (some aA) (k 3) nA vs := ⟨aA, jA, rfl, hjA⟩
  obtain ⟨w, hw⟩ := Classical.skolem.mp (fun i : Nat => show ∃ r : Nat, i < nA → r ≤ 4 ∧ ∃ qa s pp, vs i = some qa ∧ s < T' ∧ fT i = nI s ∧ vo σ.2.2.2.2 (some qa) 5 (nI s) pp ∧ (∀ Q, Q (nI r) σ → C_X5_contained_w b k qa Q (nI t) σ) ∧ ∀ Q l0 m0, (∀ l m, Q (nI r) (bk τ l m)) → R_inRow_w Q (nI d) (nI i) (nI t) (bk τ l0 m0) from by
    by_cases hi : i < nA
    · obtain ⟨p, p', κ, s, n, pp, w1, w2, w3, w4, w5, w6, w7, w8, w9, w10, w11, w12⟩ := hAn i hi
      have w11' := w11
      obtain ⟨qa, ja, ea, hja⟩ := w11
      rw [ea] at w11'
      obtain ⟨r, hr, g1, g2⟩ := both_inRow (b := b) (σ := σ) (τ := τ) (i := i) (t := t) (qa := qa) (by omega) (by omega) (by omega) ht w1 w2 w10 w3 w11' w12
      exact ⟨r, fun _ => ⟨hr, qa, s, pp, ea, w7, w9, w11', g1, g2⟩⟩
    · exact ⟨0, fun h9 => absurd h9 hi⟩)
  have hacc := accN_le (f := fT) (x := nI t) (y := cont) (w := w) (n := nA) (fun i hi => (hw i hi).1)
  have hnt : ∀ i, i < nA → fT i ≠ -1 := fun i hi e => by
    obtain ⟨-, qa, s, pp, -, hs, es, -⟩ := hw i hi
    rw [es] at e
    exact nI_nm1 (by omega) e
  refine ⟨q, accN fT (nI t) cont w nA, by have := hacc nA (Nat.le_refl _); omega, ⟨eo, j, _, hj⟩, fun Q hQ => ?_, fun Q l0 m0 hfd hQ => ?_⟩
  · refine fx_ex (C_X0_annotationsOf_b5_f b k q Q) (fun z => ∃ i : Nat, i ≤ nA ∧ z = (nI t, cont, nI (accN fT (nI t) cont w i), nI i, σ)) (fun z => 5 - z.2.2.2.1.toNatClampNeg) ?_ _ ⟨0, by omega, rfl⟩
    rintro K _ ⟨i, hi, rfl⟩ hK
    have hai := hacc i hi
    show C_X0_annotationsOf_b5_s b k q Q (fun x1 x2 x3 x4 σ => K (x1, x2, x3, x4, σ)) (nI t) cont (nI (accN fT (nI t) cont w i)) (nI i) σ
    refine ⟨some aA, hpR, nA, vs, hpQ, fun h9 => ?_, fun h9 => ?_⟩
    · have : i = nA := by have := (nI_leI (a := nA) (b := i) (by omega) (by omega)).mp h9; omega
      subst this
      exact hQ
    · have hlt : i < nA := by
        rcases Nat.lt_or_ge i nA with h7 | h7
        · exact h7
        · exact absurd (nI_le (a := nA) h7 (by omega)) h9
      obtain ⟨hw4, qa, s, pp, ea, hs, es, hvo, g1, g2⟩ := hw i hlt
      have ci : (nI i).toNatClampNeg = i := nI_clamp (by omega)
      have vi : vp_in (nI i) nA := vp_in_nI hlt (by omega)
      have hX : pX σ.2.2.2.2 (vs (nI i).toNatClampNeg) 5 qa := by
        rw [ci, ea]
        obtain ⟨qa', ja, e9, hja⟩ := hvo
        cases e9
        exact ⟨rfl, ja, _, hja⟩
      -- what comes behind the first question
      have nx : ∀ a : Nat, a = accN fT (nI t) cont w i + (if fT i = nI t then 1 else 0) → C_X0_annotationsOf_b32 b k q Q (fun x1 x2 x3 x4 σ => K (x1, x2, x3, x4, σ)) (nI t) cont (nI a) (nI i) σ := by
        intro a ea'
        have go : ∀ z : Nat, z = accN fT (nI t) cont w (i + 1) → C_X0_annotationsOf_b65 b k q Q (fun x1 x2 x3 x4 σ => K (x1, x2, x3, x4, σ)) (nI t) cont (nI z) (nI i) σ := by
          intro z ez v ev
          rw [nI_1] at ev
          subst ev
          subst ez
          refine hK (nI t, cont, nI (accN fT (nI t) cont w (i + 1)), nI (i + 1), σ) ⟨i + 1, hlt, rfl⟩ ?_
          show 5 - (nI (i + 1)).toNatClampNeg < 5 - (nI i).toNatClampNeg
          rw [nI_clamp (by omega), nI_clamp (by omega)]; omega
        have estep : accN fT (nI t) cont w (i + 1) = a + (if fT i = cont then w i else 0) := by rw [ea']; rfl
        refine ⟨fun hc1 => go a ?_, fun hc1 => ⟨some aA, hpR, nA, vs, hpQ, vi, qa, hX, c_isAnn hvo (fun he => ⟨fun h8 => absurd h8 n1_ne0, fun _ => ⟨some aA, hpR, nA, vs, hpQ, vi, qa, hX, g1 _ (fun v ev => ?_)⟩⟩) (fun hne => ⟨fun _ => go a ?_, fun h8 => absurd rfl h8⟩)⟩⟩
        · rw [estep, if_neg (fun h8 => hnt i hlt (h8.trans hc1))]; rfl
        · rw [nI_add] at ev
          subst ev
          exact go _ (by rw [estep, if_pos (es.trans he)])
        · rw [estep, if_neg (fun h8 => hne (es.symm.trans h8))]; rfl
      refine ⟨some aA, hpR, nA, vs, hpQ, vi, qa, hX, c_isAnn hvo (fun he => ⟨fun h8 => absurd h8 n1_ne0, fun _ v ev => ?_⟩) (fun hne => ⟨fun _ => nx _ ?_, fun h8 => absurd rfl h8⟩)⟩
      · rw [nI_1] at ev
        subst ev
        exact nx _ (by rw [if_pos (es.trans he)])
      · rw [if_neg (fun h8 => hne (es.symm.trans h8))]; rfl
  · refine hfd _ l0 m0 ?_
    refine fx_ex (R_countAt_b12_f Q) (fun z => ∃ (i : Nat) (l m : Nat → Int32), i ≤ nA ∧ z = (nI d, nI t, rf, nI (accN fT (nI t) cont w i), nI i, bk τ l m)) (fun z => 5 - z.2.2.2.2.1.toNatClampNeg) ?_ _ ⟨0, l0, m0, by omega, rfl⟩
    rintro K _ ⟨i, l, m, hi, rfl⟩ hK
    have hai := hacc i hi
    show R_countAt_b12_s Q (fun x1 x2 x3 x4 x5 σ => K (x1, x2, x3, x4, x5, σ)) (nI d) (nI t) rf (nI (accN fT (nI t) cont w i)) (nI i) (bk τ l m)
    refine ⟨vp_in_nI (by omega) (by omega), fun h9 => ?_, fun h9 => ?_⟩
    · have h9 : τ.2 15 (nI d).toNatClampNeg ≤ nI i := h9
      rw [cd, eA] at h9
      have : i = nA := by have := (nI_leI (a := nA) (b := i) (by omega) (by omega)).mp h9; omega
      subst this
      exact hQ l m
    · have h9 : ¬ τ.2 15 (nI d).toNatClampNeg ≤ nI i := h9
      rw [cd, eA] at h9
      have hlt : i < nA := by
        rcases Nat.lt_or_ge i nA with h7 | h7
        · exact h7
        · exact absurd (nI_le (a := nA) h7 (by omega)) h9
      obtain ⟨p, p', κ, s, n, pp, w1, w2, w3, w4, w5, w6, w7, w8, w9, w10, w11, w12⟩ := hAn i hlt
      obtain ⟨hw4, qa, s2, pp2, ea, hs2, es2, hvo, g1, g2⟩ := hw i hlt
      have nx : ∀ a : Nat, a = accN fT (nI t) cont w i + (if fT i = nI t then 1 else 0) → R_countAt_b41 Q (fun x1 x2 x3 x4 x5 σ => K (x1, x2, x3, x4, x5, σ)) (nI d) (nI t) rf (nI a) (nI i) (nI s) (bk τ l m) := by
        intro a ea'
        have go : ∀ (z : Nat) (l m : Nat → Int32), z = accN fT (nI t) cont w (i + 1) → R_countAt_b69 Q (fun x1 x2 x3 x4 x5 σ => K (x1, x2, x3, x4, x5, σ)) (nI d) (nI t) rf (nI z) (nI i) (bk τ l m) := by
          intro z l m ez v ev
          rw [nI_1] at ev
          subst ev
          subst ez
          refine hK (nI d, nI t, rf, nI (accN fT (nI t) cont w (i + 1)), nI (i + 1), bk τ l m) ⟨i + 1, l, m, hlt, rfl⟩ ?_
          show 5 - (nI (i + 1)).toNatClampNeg < 5 - (nI i).toNatClampNeg
          rw [nI_clamp (by omega), nI_clamp (by omega)]; omega
        have estep : accN fT (nI t) cont w (i + 1) = a + (if fT i = cont then w i else 0) := by rw [ea']; rfl
        rcases hcont with ⟨er, ec⟩ | ⟨c, hc, er, ec⟩
        · refine ⟨fun _ => go a l m ?_, fun h8 => absurd (by rw [er]; exact neg1) h8⟩
          rw [estep, if_neg (fun h8 => hnt i hlt (h8.trans ec))]; rfl
        · have cc : (nI c).toNatClampNeg = c := nI_clamp (by omega)
          rw [er] at go ⊢
          refine ⟨fun h8 => absurd h8 (nI_pos (by omega)), fun _ => ⟨vp_in_nI (by omega) (by omega), fun h8 => go a l m ?_, fun h8 => g2 _ l m (fun l m v ev => ?_)⟩⟩
          · have h8 : ¬ τ.2 12 (nI c).toNatClampNeg = nI s := h8
            rw [cc, ← ec] at h8
            rw [estep, if_neg (fun h7 => h8 (h7.symm.trans w9))]; rfl
          · have h8 : τ.2 12 (nI c).toNatClampNeg = nI s := h8
            rw [cc, ← ec] at h8
            rw [nI_add] at ev
            subst ev
            exact go _ l m (by rw [estep, if_pos (w9.trans h8.symm)])
      refine r_typeOf (τ := bk τ l m) (p := p) (κ := κ) (s := s) (by omega) (by omega) (by omega) w6 w1 w4 w8 ⟨fun hne => nx _ ?_, fun he v ev => ?_⟩
      · rw [if_neg (fun h8 => hne (w9.symm.trans h8))]; rfl
      · rw [nI_1] at ev
        subst ev
        exact nx _ (by rw [if_pos (w9.trans he)])
