/-! the parse: parts, class side -/
def NM (σ : cS) (K : Nat) (S : Nat → Nat) (T : Nat) (yb tc pc : Nat → Int32) : Prop := ∀ κ, 1 ≤ κ → κ ≤ K → (S κ = 3 → ∃ pq, pc κ = nI pq ∧ intAt yb pq (σ.2.1 7 κ)) ∧ (S κ ≠ 3 → ∃ s, s < T ∧ tc κ = nI s ∧ σ.2.1 7 κ = nI s)
def VQ (k : Nat → ClassId) (np T : Nat) (yb tc pc : Nat → Int32) (r c : Nat) (L : va_W) (o : Option Nat) (L' : va_W) (st st' : St) : Prop := grows L L' ∧ pO L' o 5 ∧ ∀ a a', st = .inl a → st' = .inl a' → ∀ L'', gfrom L.length L' L'' → vw k np L'' T yb tc pc r (120 * c + a) o (120 * c + a')
def PQ (k : Nat → ClassId) (np T : Nat) (B : Nat → Nat) (yb tc pc : Nat → Int32) (r c : Nat) (named : Bool) (n : Nat) (L : va_W) (pp : Option Nat) (L' : va_W) (st st' : St) : Prop := grows L L' ∧ (∃ (q j jv an av : Nat) (vs : Nat → Option Nat), pp = some q ∧ L'[j]? = some (q, .inr (2, [.ref an, .ref av])) ∧ L'[jv]? = some (av, .inl (k 3, n, .inr (.inr (.inr (.inr vs)))))) ∧ ∀ a a', st = .inl a → st' = .inl a' → n = B a ∧ a < a' ∧ ∀ L'', gfrom L.length L' L'' → vParts (vw k np L'' T yb tc pc r) k L'' T yb tc named pp n (120 * c + a + 1) (120 * c + a')
def VLem (b : Nat → Nat) (k : Nat → ClassId) (σ : cS) (τ : rS) (B : Nat → Nat) (e c K : Nat) (S : Nat → Nat) (T : Nat) (yb tc pc : Nat → Int32) (RV : Nat → Nat → (Option Nat → cS → Prop) → Int32 → cS → Prop) (r d : Nat) : Prop := ∀ (L : va_W) (st : St) (X : cS) (Q : Option Nat → cS → Prop) (MC MS : Nat), isC (wp σ L) e st X → (∀ a, st = .inl a → TB σ τ c K S ∧ NM σ K S T yb tc pc) → wv e st (pv B e K S r st) ≤ MC → 4 * wv e st (pv B e K S r st) ≤ MS → (∀ o L' X', isC (wp σ L') e (pv B e K S r st) X' → VQ k (b 14) T yb tc pc r c L o L' st (pv B e K S r st) → Q o X') → RV MC MS Q (nI d) X
def plc : St → Nat
  | .inl a => a
  | .inr _ => 0
def boI : Bool → Int32
  | true => 1
  | false => 0
set_option maxHeartbeats 2000000 in
theorem C_parts {b : Nat → Nat} {k : Nat → ClassId} {σ : cS} {τ : rS} {B : Nat → Nat} {e c K : Nat} {S : Nat → Nat} {T : Nat} {yb tc pc : Nat → Int32} (h : PB b σ τ B e c) (hy : ∀ i, i < e → yb (120 * c + i) = nI (B i)) {RV : Nat → Nat → (Option Nat → cS → Prop) → Int32 → cS → Prop} {r d : Nat} (hV : VLem b k σ τ B e c K S T yb tc pc RV r d) (nd : Bool) {L : va_W} {st : St} {X : cS} {Q : Option Nat → cS → Prop} {MC MS : Nat} (hX : isC (wp σ L) e st X) (hK : ∀ a, st = .inl a → TB σ τ c K S ∧ NM σ K S T yb tc pc) (hMC : wpp e st (ppc (pv B e K S r) (nms B e K S nd) (lk (am B e 4) st)) ≤ MC) (hMS : 4 * wpp e st (ppc (pv B e K S r) (nms B e K S nd) (lk (am B e 4) st)) ≤ MS) (hQ : ∀ pp L' X', isC (wp σ L') e (ppc (pv B e K S r) (nms B e K S nd) (lk (am B e 4) st)) X' → PQ k (b 14) T B yb tc pc r c nd ((lk (am B e 4) st).1.getD 0) L pp L' st (ppc (pv B e K S r) (nms B e K S nd) (lk (am B e 4) st)) → Q pp X') : C_X3_readParts_w b k RV MC MS Q (boI nd) (nI d) X := by
  have he := h.he
  have h3 : 3 ≤ wpp e st (ppc (pv B e K S r) (nms B e K S nd) (lk (am B e 4) st)) := by
    have := stp_ppc (stp_pv B e K S r) (stp_nms B e K S nd) (B := B) (most := 4)
    cases st with
    | inr q => exact Nat.le_refl _
    | inl a =>
      cases h1 : ppc (pv B e K S r) (nms B e K S nd) (lk (am B e 4) (.inl a)) with
      | inr q => show 3 ≤ 4 * (e - a) + 6; omega
      | inl a' =>
        have := this.2 a a' (hX.1) h1
        show 3 ≤ 4 * (a' - a); omega
  refine ⟨by omega, by omega, fun q0 t0 e0 => ?_⟩
  have h0 := isC_sN hX (q0, .inr (2, [.null, .null]))
  rw [← e0] at h0
  refine C_am (σ := wp σ (L ++ [(q0, .inr (2, [.null, .null]))])) (most := 4) h (by omega) h0 (fun X1 hX1 => ?_)
  have hn4 : (lk (am B e 4) st).1.getD 0 ≤ 4 := by
    cases st with
    | inr q => exact Nat.zero_le _
    | inl a =>
      cases h1 : am B e 4 a with
      | inr q => rw [lk_0 h1]; exact Nat.zero_le _
      | inl p => rw [lk_1 (v := p.1) (a' := p.2) h1]; have := am_B (v := p.1) (a' := p.2) h1; show p.1 ≤ 4; omega
  have hnf : ∀ q, (lk (am B e 4) st).2 = .inr q → (lk (am B e 4) st).1.getD 0 = 0 := by
    intro q hq
    cases st with
    | inr q => rfl
    | inl a =>
      cases h1 : am B e 4 a with
      | inr q => rw [lk_0 h1]; rfl
      | inl p => rw [lk_1 (v := p.1) (a' := p.2) h1] at hq; cases hq
  have hst0 : ∀ a0, (lk (am B e 4) st).2 = .inl a0 → ∃ a, st = .inl a ∧ a0 = a + 1 ∧ a < e ∧ (lk (am B e 4) st).1.getD 0 = B a := by
    intro a0 h1
    obtain ⟨a, v, e1, h2, h3⟩ := lk_ok h1
    have := am_B h2
    exact ⟨a, e1, this.2.2.2, this.1, by rw [h3]; exact this.2.1⟩
  generalize hst1 : (lk (am B e 4) st).2 = st1 at hX1 hnf hst0
  generalize hn : (lk (am B e 4) st).1.getD 0 = n at hn4 hnf hst0 hQ ⊢
  generalize hend : ppc (pv B e K S r) (nms B e K S nd) (lk (am B e 4) st) = stE at hMC hMS hQ h3
  obtain ⟨W, hW⟩ : ∃ W, W = wpp e st stE := ⟨_, rfl⟩
  rw [← hW] at hMC hMS h3
  have hend1 : pps (pv B e K S r) (nms B e K S nd) n st1 = stE := by rw [← hend, ← hst1, ← hn]; rfl
  refine ⟨2, 8, by omega, by omega, c_X2 hn4 (by omega) (by omega) hX1 (fun an av X2 L2 len2 g2 p0 p1 p2 hX2 => ?_)⟩
  clear hX1 h0 e0
  have hV1 := stp_pv B e K S r
  have hN1 := stp_nms B e K S nd
  refine fx_ex (C_X3_readParts_b16_f b k RV MC MS Q) (fun z => ∃ (i nc ns : Nat) (Y : cS) (M : va_W) (f : Nat → Int32) (vs : Nat → Option Nat) (po : Nat → Nat) (su : St), z = (boI nd, nI d, some q0, nI i, nc, ns, Y) ∧ i ≤ n ∧ isC (wp σ M) e su Y ∧ pps (pv B e K S r) (nms B e K S nd) (n - i) su = stE ∧ L.length + 3 ≤ M.length ∧ grows L M ∧ M[L.length]? = some (q0, .inr (2, [.ref an, .ref av])) ∧ M[L.length + 1]? = some (an, .inl (k 0, n, .inl f)) ∧ M[L.length + 2]? = some (av, .inl (k 3, n, .inr (.inr (.inr (.inr vs))))) ∧ 3 ≤ nc ∧ ns ≤ 4 * nc ∧ (∀ q, su = .inr q → ∀ a0, st1 = .inl a0 → 1 ≤ i ∧ nc ≤ 3 + 4 * (e - a0) + 4 + (i - 1)) ∧ ∀ a1, su = .inl a1 → ∃ a0, st1 = .inl a0 ∧ a0 ≤ a1 ∧ nc ≤ 3 + 4 * (a1 - a0) ∧ po 0 = a0 ∧ po i = a1 ∧ ∀ i', i' < i → (nd = true → (∃ κ s : Nat, 1 ≤ κ ∧ κ ≤ 12 ∧ s < T ∧ yb (120 * c + po i') = nI κ ∧ tc κ = nI s ∧ f i' = nI s) ∧ ∀ L'', gfrom (L.length + 3) M L'' → vw k (b 14) L'' T yb tc pc r (120 * c + po i' + 1) (vs i') (120 * c + po (i' + 1))) ∧ (nd = false → f i' = -1 ∧ ∀ L'', gfrom (L.length + 3) M L'' → vw k (b 14) L'' T yb tc pc r (120 * c + po i') (vs i') (120 * c + po (i' + 1)))) (fun z => 5 - z.2.2.2.1.toNatClampNeg) ?_ _ ?_
  · rintro K0 _ ⟨i, nc, ns, Y, M, f, vs, po, su, rfl, hi, hY, hpe, hM3, hgM, c0, c1, c2, hnc3, hns, hF, hO⟩ hK0
    show C_X3_readParts_b16_s b k RV MC MS Q (fun x1 x2 x3 x4 nc ns σ => K0 (x1, x2, x3, x4, nc, ns, σ)) (boI nd) (nI d) (some q0) (nI i) nc ns Y
    have eL := isC_L hY
    refine ⟨some av, ⟨q0, L.length, [.ref an, .ref av], rfl, by rw [eL]; exact c0, rfl⟩, n, vs, ⟨av, L.length + 2, rfl, by rw [eL]; exact c2⟩, fun h9 => ?_, fun h9 => ?_⟩
    · have hin : i = n := by
        have := (nI_leI (a := n) (b := i) (by omega) (by omega)).mp h9
        omega
      subst hin
      rw [Nat.sub_self] at hpe
      have hpe : su = stE := hpe
      rw [hpe] at hY
      refine hQ (some q0) M Y hY ⟨hgM, ⟨q0, L.length, L.length + 2, an, av, vs, rfl, c0, c2⟩, fun a a' ea ea' => ?_⟩
      rw [hpe] at hO
      obtain ⟨a0, e1, hle, -, po0, poi, hall⟩ := hO a' ea'
      obtain ⟨a2, e2, e3, hlt, eB⟩ := hst0 a0 e1
      rw [ea] at e2
      cases e2
      refine ⟨eB, by omega, fun L'' hL'' => ⟨q0, L.length, L.length + 1, L.length + 2, an, av, f, vs, fun i => 120 * c + po i, rfl, hL'' _ _ (by omega) c0, hL'' _ _ (by omega) c1, hL'' _ _ (by omega) c2, hn4, by show 120 * c + po 0 = _; omega, by show 120 * c + po i = _; omega, fun i' hi' => ?_⟩⟩
      have hg := gfrom_le (m' := L.length + 3) (by omega) hL''
      exact ⟨fun hb => ⟨((hall i' hi').1 hb).1, ((hall i' hi').1 hb).2 L'' hg⟩, fun hb => ⟨((hall i' hi').2 hb).1, ((hall i' hi').2 hb).2 L'' hg⟩⟩
    · have hin : i < n := by
        rcases Nat.lt_or_ge i n with h7 | h7
        · exact h7
        · exact absurd (nI_le h7 (by omega)) h9
      have hni : n - i = (n - (i + 1)) + 1 := by omega
      rw [hni] at hpe
      have hpe : pps (pv B e K S r) (nms B e K S nd) (n - (i + 1)) (pv B e K S r (nms B e K S nd su)) = stE := hpe
      have hci : (nI i).toNatClampNeg = i := nI_clamp (by omega)
      have hsu : ∀ a1, su = .inl a1 → a1 ≤ e := fun a1 e1 => by rw [e1] at hY; exact hY.1
      have hKsu : ∀ a, su = .inl a → TB σ τ c K S ∧ NM σ K S T yb tc pc := by
        intro a ea
        obtain ⟨a0, e1, -⟩ := hO a ea
        obtain ⟨a2, e2, -⟩ := hst0 a0 e1
        exact hK a2 e2
      have b45 : ∀ (y0 : Int32) (Y1 : cS), isC (wp σ M) e (nms B e K S nd su) Y1 → (∀ a2, nms B e K S nd su = .inl a2 → ∃ a1, su = .inl a1 ∧ (nd = true → a2 = a1 + 1 ∧ ∃ κ s : Nat, 1 ≤ κ ∧ κ ≤ 12 ∧ s < T ∧ yb (120 * c + a1) = nI κ ∧ tc κ = nI s ∧ y0 = nI s) ∧ (nd = false → a2 = a1 ∧ y0 = -1)) → C_X3_readParts_b45 b k RV MC MS Q (fun x1 x2 x3 x4 nc ns σ => K0 (x1, x2, x3, x4, nc, ns, σ)) (boI nd) (nI d) (some q0) (nI i) y0 (nI i) (some an) nc ns Y1 := by
        intro y0 Y1 hY1 hnm
        have eL1 := isC_L hY1
        refine ⟨an, L.length + 1, n, f, rfl, by rw [eL1]; exact c1, vp_in_nI hin (by omega), fun t45 e45 => ?_⟩
        rw [hci] at e45
        have h45 := isC_sP hY1 (L.length + 1) (an, .inl (k 0, n, .inl (upd f i y0)))
        rw [← e45] at h45
        have gM1 := grows_set hgM (j := L.length + 1) (by omega) (an, .inl (k 0, n, .inl (upd f i y0)))
        have c0' := get_setn (q := (an, .inl (k 0, n, .inl (upd f i y0)))) c0 (j := L.length + 1) (by omega)
        have c1' := get_set (q := (an, .inl (k 0, n, .inl (upd f i y0)))) c1
        have c2' := get_setn (q := (an, .inl (k 0, n, .inl (upd f i y0)))) c2 (j := L.length + 1) (by omega)
        have gf1 := gfrom_set (m := L.length + 3) (j := L.length + 1) M (an, .inl (k 0, n, .inl (upd f i y0))) (by omega)
        have len1 : (M.set (L.length + 1) (an, .inl (k 0, n, .inl (upd f i y0)))).length = M.length := by simp
        generalize M.set (L.length + 1) (an, .inl (k 0, n, .inl (upd f i y0))) = M1 at h45 gM1 c0' c1' c2' gf1 len1
        have eL45 := isC_L h45
        refine ⟨some av, ⟨q0, L.length, [.ref an, .ref av], rfl, by rw [eL45]; exact c0', rfl⟩, ?_⟩
        generalize hs2 : nms B e K S nd su = s2 at h45 hnm hpe hY1
        have hwM : nc + wv e s2 (pv B e K S r s2) ≤ W ∧ (∀ q, pv B e K S r s2 = .inr q → ∀ a0, st1 = .inl a0 → nc + wv e s2 (pv B e K S r s2) ≤ 3 + 4 * (e - a0) + 4 + i) ∧ (∀ a3, pv B e K S r s2 = .inl a3 → ∃ a0 a2, s2 = .inl a2 ∧ st1 = .inl a0 ∧ a0 ≤ a3 ∧ nc + wv e s2 (pv B e K S r s2) ≤ 3 + 4 * (a3 - a0)) := by
          cases hsu2 : su with
          | inr q =>
            have : s2 = .inr q := by rw [← hs2, hsu2]; exact nms_f B e K S nd q
            subst this
            rw [pv_f]
            cases hs1 : st1 with
            | inr q => have := hnf q hs1; omega
            | inl a0 =>
              have b1 := hF q hsu2 a0 hs1
              refine ⟨?_, fun q' _ a0' e0' => ?_, fun a3 e3 => by cases e3⟩
              · show nc + 1 ≤ W
                have : stE = .inr q := by rw [← hpe, pv_f, (stp_pps hV1 hN1 _).1]
                obtain ⟨a, ea, e1, hlt, -⟩ := hst0 a0 hs1
                rw [this, ea] at hW
                have hW : W = 4 * (e - a) + 6 := hW
                omega
              · cases e0'
                show nc + 1 ≤ _
                omega
          | inl a1 =>
            obtain ⟨a0, e1, hle, hnc, -⟩ := hO a1 hsu2
            obtain ⟨a, ea, ea0, hlt, -⟩ := hst0 a0 e1
            have ha1 := hsu a1 hsu2
            cases hs3 : s2 with
            | inr q =>
              rw [pv_f]
              have : stE = .inr q := by rw [← hpe, hs3, pv_f, (stp_pps hV1 hN1 _).1]
              rw [this, ea] at hW
              have hW : W = 4 * (e - a) + 6 := hW
              refine ⟨?_, fun q' _ a0' e0' => ?_, fun a3 e3 => by cases e3⟩
              · show nc + 1 ≤ W
                omega
              · rw [e1] at e0'; cases e0'
                show nc + 1 ≤ _
                omega
            | inl a2 =>
              have g2 := hN1.2 a1 a2 ha1 (by rw [← hsu2, hs2, hs3])
              cases hs4 : pv B e K S r (.inl a2) with
              | inr q =>
                have : stE = .inr q := by rw [← hpe, hs3, hs4, (stp_pps hV1 hN1 _).1]
                rw [this, ea] at hW
                have hW : W = 4 * (e - a) + 6 := hW
                refine ⟨?_, fun q' _ a0' e0' => ?_, fun a3 e3 => by cases e3⟩
                · show nc + (4 * (e - a2) + 4) ≤ W
                  omega
                · rw [e1] at e0'; cases e0'
                  show nc + (4 * (e - a2) + 4) ≤ _
                  omega
              | inl a3 =>
                have g3 := hV1.2 a2 a3 g2.2 hs4
                refine ⟨?_, fun q' e' => (by cases e'), fun a3' e3 => ?_⟩
                · show nc + 4 * (a3 - a2) ≤ W
                  rw [hs3, hs4] at hpe
                  cases hE : stE with
                  | inr q =>
                    rw [hE, ea] at hW
                    have hW : W = 4 * (e - a) + 6 := hW
                    omega
                  | inl aE =>
                    rw [hE] at hpe
                    have g4 := (stp_pps hV1 hN1 _).2 a3 aE g3.2 hpe
                    rw [hE, ea] at hW
                    have hW : W = 4 * (aE - a) := hW
                    omega
                · cases e3
                  refine ⟨a0, a2, rfl, e1, by omega, ?_⟩
                  show nc + 4 * (a3 - a2) ≤ _
                  omega
        obtain ⟨hw1, hw2, hw3⟩ := hwM
        generalize hwv : wv e s2 (pv B e K S r s2) = w at hw1 hw2 hw3
        refine ⟨w, 4 * w, by omega, by omega, hV M1 s2 t45 _ w (4 * w) h45 (fun a2 e2 => ?_) (by omega) (by omega) (fun o L' X' hX' hVQ => ?_)⟩
        · obtain ⟨a1, e1, -⟩ := hnm a2 e2
          exact hKsu a1 e1
        · obtain ⟨gV, pV, wV⟩ := hVQ
          have gl := grows_len gV
          have c0'' := gV _ _ c0'
          have c1'' := gV _ _ c1'
          have c2'' := gV _ _ c2'
          have eL' := isC_L hX'
          refine ⟨av, L.length + 2, n, vs, rfl, by rw [eL']; exact c2'', vp_in_nI hin (by omega), by rw [eL']; exact pV, fun t57 e57 v58 e58 => ?_⟩
          rw [hci] at e57
          rw [nI_1] at e58
          subst e58
          have h57 := isC_sP hX' (L.length + 2) (av, .inl (k 3, n, .inr (.inr (.inr (.inr (va_up vs i o))))))
          rw [← e57] at h57
          have gf2 : gfrom (L.length + 3) M (L'.set (L.length + 2) (av, .inl (k 3, n, .inr (.inr (.inr (.inr (va_up vs i o))))))) := gfrom_trans gf1 (gfrom_trans (gfrom_grows _ gV) (gfrom_set _ _ (by omega)))
          refine hK0 (boI nd, nI d, some q0, nI (i + 1), nc + w, ns + 4 * w, t57) ⟨i + 1, nc + w, ns + 4 * w, t57, _, upd f i y0, va_up vs i o, va_up po (i + 1) (plc (pv B e K S r s2)), pv B e K S r s2, rfl, by omega, h57, hpe, by simp; omega, grows_set (grows_trans gM1 gV) (by omega) _, get_setn c0'' (by omega), get_setn c1'' (by omega), get_set c2'', by omega, by omega, fun q hq a0 h0 => ⟨by omega, by have := hw2 q hq a0 h0; omega⟩, fun a3 h3 => ?_⟩ ?_
          · obtain ⟨a0, a2, e2, e1, hle, hnc'⟩ := hw3 a3 h3
            obtain ⟨a1, ea1, hnt, hnfl⟩ := hnm a2 e2
            obtain ⟨a0', e1', hle', -, po0, poi, hall⟩ := hO a1 ea1
            rw [e1] at e1'
            cases e1'
            have hvv := wV a2 a3 e2 h3
            refine ⟨a0, e1, hle, hnc', by rw [va_up_ne _ _ (by omega)]; exact po0, by rw [va_up_self, h3]; rfl, fun i' hi' => ?_⟩
            rcases Nat.lt_or_ge i' i with h7 | h7
            · rw [va_up_ne po _ (by omega), va_up_ne po _ (by omega), pk_un (by omega), va_up_ne vs _ (by omega)]
              obtain ⟨ht, hf⟩ := hall i' h7
              exact ⟨fun hb => ⟨(ht hb).1, fun L'' hL'' => (ht hb).2 L'' (gfrom_trans gf2 hL'')⟩, fun hb => ⟨(hf hb).1, fun L'' hL'' => (hf hb).2 L'' (gfrom_trans gf2 hL'')⟩⟩
            · have : i' = i := by omega
              subst this
              rw [va_up_ne po _ (by omega), va_up_self po, pk_us, va_up_self vs, h3, poi]
              have hv2 : ∀ L'', gfrom (L.length + 3) (L'.set (L.length + 2) (av, .inl (k 3, n, .inr (.inr (.inr (.inr (va_up vs i' o))))))) L'' → vw k (b 14) L'' T yb tc pc r (120 * c + a2) o (120 * c + a3) := fun L'' hL'' => hvv L'' (gfrom_trans (gfrom_set (m := M1.length) L' (av, .inl (k 3, n, .inr (.inr (.inr (.inr (va_up vs i' o)))))) (j := L.length + 2) (by omega)) (gfrom_le (by omega) hL''))
              refine ⟨fun hb => ?_, fun hb => ?_⟩
              · obtain ⟨e9, hκ⟩ := hnt hb
                subst e9
                exact ⟨hκ, hv2⟩
              · obtain ⟨e9, hκ⟩ := hnfl hb
                subst e9
                exact ⟨hκ, hv2⟩
          · show 5 - (nI (i + 1)).toNatClampNeg < 5 - (nI i).toNatClampNeg
            rw [nI_clamp (by omega), nI_clamp (by omega)]; omega
      refine ⟨some an, ⟨q0, L.length, [.ref an, .ref av], rfl, by rw [eL]; exact c0, rfl⟩, fun h8 => ?_, fun h8 => ?_⟩
      · cases hnd : nd with
        | true => rw [hnd] at h8; exact absurd h8 n1_ne0
        | false =>
          rw [hnd] at b45
          exact b45 (-1) Y hY (fun a2 e2 => ⟨a2, e2, fun h7 => (by cases h7), fun _ => ⟨rfl, rfl⟩⟩)
      · cases hnd : nd with
        | false => rw [hnd] at h8; exact absurd rfl h8
        | true =>
          rw [hnd] at b45
          refine C_kn (σ := wp σ M) (s := 1) h (fun a ea => (hKsu a ea).1) (Or.inl rfl) hY (fun X' hX' => b45 _ X' hX' (fun a2 e2 => ?_))
          obtain ⟨a1, v, e1, h2, h3⟩ := lk_ok (f := kn B e K S 1) e2
          have hk := kn_B h2
          have hN := (hKsu a1 e1).2 v (by omega) (by omega)
          obtain ⟨s, hs, ets, enm⟩ := hN.2 (by rw [hk.2.1, hk.2.2.2.2.1]; omega)
          have hK12 := (hKsu a1 e1).1.1
          refine ⟨a1, e1, fun _ => ⟨hk.2.2.2.2.2, v, s, by omega, by omega, hs, ?_, ets, ?_⟩, fun h7 => (by cases h7)⟩
          · rw [hk.2.1]; exact hy a1 hk.1
          · rw [h3]; exact enm
  · refine ⟨0, 0 + 1 + 2, 0 + 2 + 8, X2, L2, fun _ => 0, fun _ => none, fun _ => plc st1, st1, rfl, Nat.zero_le _, hX2, hend1, by omega, g2, p0, p1, p2, by omega, by omega, fun q hq a0 h0 => (by rw [hq] at h0; cases h0), fun a1 e1 => ⟨a1, e1, Nat.le_refl _, by omega, by rw [e1]; rfl, by rw [e1]; rfl, fun i' hi' => absurd hi' (Nat.not_lt_zero _)⟩⟩
