/-! the parse: behind the constants, class side -/
noncomputable def g1 (B : Nat → Nat) (e : Nat) (st : St) : Option Nat × St := lk (am B e 3) st
noncomputable def g2 (B : Nat → Nat) (e K : Nat) (S : Nat → Nat) (tk : Nat → Prop) (st : St) : Option Nat × St := lk (nk B e K S tk) (g1 B e st).2
noncomputable def g3 (B : Nat → Nat) (e K : Nat) (S : Nat → Nat) (tk : Nat → Prop) (st : St) : Option Nat × St := lk (con B e K S) (g2 B e K S tk st).2
noncomputable def g4 (B : Nat → Nat) (e K : Nat) (S : Nat → Nat) (tk : Nat → Prop) (st : St) : Option Nat × St := lk (con B e K S) (g3 B e K S tk st).2
noncomputable def g5 (B : Nat → Nat) (e K : Nat) (S : Nat → Nat) (tk : Nat → Prop) (st : St) : Option Nat × St := lk (am B e 4) (g4 B e K S tk st).2
noncomputable def g6 (B : Nat → Nat) (e K : Nat) (S : Nat → Nat) (tk : Nat → Prop) (st : St) : St := itr (lf (kn B e K S 7)) ((g5 B e K S tk st).1.getD 0) (g5 B e K S tk st).2
noncomputable def g7 (B : Nat → Nat) (e K : Nat) (S : Nat → Nat) (tk : Nat → Prop) (st : St) : Option Nat × St := lk (am B e 4) (g6 B e K S tk st)
noncomputable def g8 (B : Nat → Nat) (e K : Nat) (S : Nat → Nat) (tk : Nat → Prop) (st : St) : St := itr (annE B e K S 4) ((g7 B e K S tk st).1.getD 0) (g7 B e K S tk st).2
noncomputable def g9 (B : Nat → Nat) (e K : Nat) (S : Nat → Nat) (tk : Nat → Prop) (st : St) : St := ppc (pv B e K S 4) (nms B e K S true) (lk (am B e 4) (g8 B e K S tk st))
def fin (e : Nat) : St → St
  | .inl a => if a < e then .inr (8, a) else .inl a
  | .inr q => .inr q
theorem fin_ok {e a : Nat} {st : St} (h : fin e st = .inl a) : st = .inl a ∧ e ≤ a := by
  cases st with
  | inr q => cases h
  | inl a' =>
    simp only [fin] at h
    by_cases h1 : a' < e
    · rw [if_pos h1] at h; cases h
    · rw [if_neg h1] at h; cases h; exact ⟨rfl, by omega⟩
/-- a text's number, or none -/
def t0 (tc : Nat → Int32) : Option Nat → Int32
  | some 0 => -1
  | some κ => tc κ
  | none => -1
/-- what the reference's rows hold of class c when it was read -/
def SE (B : Nat → Nat) (e K : Nat) (S : Nat → Nat) (tk : Nat → Prop) (st : St) (c : Nat) (tc pc : Nat → Int32) (pl tx fg se ab bx fc fa nc nt rs : Nat → Int32) : Prop := (∀ κ, κ ≤ 12 → pl (13 * c + κ) = pc κ) ∧ (∀ κ, κ ≤ 12 → tx (13 * c + κ) = tc κ) ∧ fg c = nI ((g1 B e st).1.getD 0) ∧ (∀ κ, (g2 B e K S tk st).1 = some κ → se c = tc κ) ∧ ab c = t0 tc (g3 B e K S tk st).1 ∧ bx c = t0 tc (g4 B e K S tk st).1 ∧ fc c = nI ((g5 B e K S tk st).1.getD 0) ∧ (∀ i, i < (g5 B e K S tk st).1.getD 0 → fa (4 * c + i) = tc (B (plc (g5 B e K S tk st).2 + i))) ∧ nc c = nI ((g7 B e K S tk st).1.getD 0) ∧ (∀ i, i < (g7 B e K S tk st).1.getD 0 → nt (4 * c + i) = nI (120 * c + plc (itr (annE B e K S 4) i (g7 B e K S tk st).2))) ∧ rs c = nI (120 * c + plc (g8 B e K S tk st))
theorem con_B {B : Nat → Nat} {e K : Nat} {S : Nat → Nat} {a κ a' : Nat} (h : con B e K S a = .inl (κ, a')) : κ = 0 ∨ (1 ≤ κ ∧ κ ≤ K ∧ S κ = 7) := by
  by_cases h1 : a < e ∧ B a = 0
  · rw [con_0 h1.1 h1.2] at h; cases h; exact Or.inl rfl
  · rw [con_1 h1] at h
    have := kn_B h
    exact Or.inr ⟨by omega, by omega, by rw [this.2.1]; exact this.2.2.2.2.1⟩
theorem nv0_t0 {σ : cS} {B : Nat → Nat} {e K : Nat} {S : Nat → Nat} {T : Nat} {yb tc pc : Nat → Int32} (hN : NM σ K S T yb tc pc) {st : St} {a' : Nat} (h : (lk (con B e K S) st).2 = .inl a') : nv0 σ (lk (con B e K S) st).1 = t0 tc (lk (con B e K S) st).1 ∧ refT T (t0 tc (lk (con B e K S) st).1) := by
  obtain ⟨a, v, e1, h2, h3⟩ := lk_ok h
  rw [h3]
  rcases con_B h2 with q | ⟨q1, q2, q3⟩
  · subst q; exact ⟨rfl, Or.inl rfl⟩
  · obtain ⟨s, hs, es, e7⟩ := (hN v q1 q2).2 (by omega)
    cases v with
    | zero => omega
    | succ v =>
      show σ.2.1 7 (v + 1) = tc (v + 1) ∧ refT T (tc (v + 1))
      rw [es, e7]
      exact ⟨rfl, Or.inr ⟨s, hs, rfl⟩⟩
set_option maxHeartbeats 4000000 in
theorem C_tail {b : Nat → Nat} {k : Nat → ClassId} {σ : cS} {τ : rS} {B : Nat → Nat} {e c K : Nat} {S : Nat → Nat} {T : Nat} {yb tc pc : Nat → Int32} {tk : Nat → Prop} (h : PB b σ τ B e c) (hy : ∀ i, i < e → yb (120 * c + i) = nI (B i)) (hr2 : σ.2.2.2.1 2 = some (b 5)) {st : St} (hK : ∀ a, st = .inl a → TB σ τ c K S ∧ NM σ K S T yb tc pc) (htk : ∀ a, st = .inl a → ∀ κ, 1 ≤ κ → κ ≤ K → S κ = 7 → ∃ t, t < 192 ∧ σ.2.1 7 κ = nI t ∧ (tk κ ↔ ¬ σ.2.1 3 t = -1)) {L : va_W} {X : cS} (hX : isC (wp σ L) e st X) {Q : Option Nat → cS → Prop} (hQ : ∀ o L' X', isC (wp σ L') e (fin e (g9 B e K S tk st)) X' → grows L L' → (((∃ q, fin e (g9 B e K S tk st) = .inr q) ∧ o = none) ∨ (fin e (g9 B e K S tk st) = .inl e ∧ (∃ q, o = some q) ∧ ∀ pl tx fg se ab bx fc fa nc nt rs, SE B e K S tk st c tc pc pl tx fg se ab bx fc fa nc nt rs → cfR k (b 14) L' T c o yb pl tx fg se ab bx fc fa nc nt rs)) → Q o X') : C_X3_readAtMost_w b k (fun r55 t55 => C_X3_readName_w b k (fun r61 t61 => C_X3_readClassOrNone_w b k (fun r67 t67 => C_X3_readClassOrNone_w b k (fun r73 t73 => ∃ mc79 ms79 : Nat, 0 + mc79 ≤ 1000 ∧ 0 + ms79 ≤ 10000 ∧ C_X3_readInterfaces_w b k mc79 ms79 (fun r79 t79 => ∃ mc85 ms85 : Nat, (0 + mc79) + mc85 ≤ 1000 ∧ (0 + ms79) + ms85 ≤ 10000 ∧ C_X3_readAnnotations_w b k mc85 ms85 (fun r85 t85 => ∃ mc93 ms93 : Nat, ((0 + mc79) + mc85) + mc93 ≤ 1000 ∧ ((0 + ms79) + ms85) + ms93 ≤ 10000 ∧ C_X3_readParts_w b k (rvN b k 5) mc93 ms93 (fun r93 t93 => (nI e ≤ (t93.1 5) → C_X3_readFile_b116 b k 1000 10000 Q r55 r61 r67 r73 r79 r85 r93 (((0 + mc79) + mc85) + mc93) (((0 + ms79) + ms85) + ms93) t93) ∧ (¬ nI e ≤ (t93.1 5) → C_X3_refuse_w b k (fun t113 => C_X3_readFile_b116 b k 1000 10000 Q r55 r61 r67 r73 r79 r85 r93 (((0 + mc79) + mc85) + mc93) (((0 + ms79) + ms85) + ms93) t113) (8 : Int32) (t93.1 5) t93)) (1 : Int32) (1 : Int32) t85) t79) t73) t67) t61) t55) (3 : Int32) X := by
  have he := h.he
  have hc := h.hc
  have K1 : ∀ a, (g1 B e st).2 = .inl a → ∃ a', st = .inl a' := fun a ea => by obtain ⟨a1, v, e1, -⟩ := lk_ok ea; exact ⟨a1, e1⟩
  have K2 : ∀ a, (g2 B e K S tk st).2 = .inl a → ∃ a', st = .inl a' := fun a ea => by obtain ⟨a1, v, e1, -⟩ := lk_ok ea; exact K1 a1 e1
  have K3 : ∀ a, (g3 B e K S tk st).2 = .inl a → ∃ a', st = .inl a' := fun a ea => by obtain ⟨a1, v, e1, -⟩ := lk_ok ea; exact K2 a1 e1
  have K4 : ∀ a, (g4 B e K S tk st).2 = .inl a → ∃ a', st = .inl a' := fun a ea => by obtain ⟨a1, v, e1, -⟩ := lk_ok ea; exact K3 a1 e1
  have K5 : ∀ a, (g5 B e K S tk st).2 = .inl a → ∃ a', st = .inl a' := fun a ea => by obtain ⟨a1, v, e1, -⟩ := lk_ok ea; exact K4 a1 e1
  have K6 : ∀ a, g6 B e K S tk st = .inl a → ∃ a', st = .inl a' := fun a ea => by obtain ⟨a1, e1⟩ := itr_ok (lf_f _) (i := 0) (Nat.zero_le _) ea; exact K5 a1 e1
  have K7 : ∀ a, (g7 B e K S tk st).2 = .inl a → ∃ a', st = .inl a' := fun a ea => by obtain ⟨a1, v, e1, -⟩ := lk_ok ea; exact K6 a1 e1
  have K8 : ∀ a, g8 B e K S tk st = .inl a → ∃ a', st = .inl a' := fun a ea => by obtain ⟨a1, e1⟩ := itr_ok (annE_f B e K S 4) (i := 0) (Nat.zero_le _) ea; exact K7 a1 e1
  have st9 := stp_ppc (stp_pv B e K S 4) (stp_nms B e K S true) (B := B) (most := 4)
  refine C_am (σ := wp σ L) (most := 3) h (by omega) hX (fun X1 hX1 => ?_)
  refine C_name (σ := wp σ L) (K := K) (S := S) (tk := tk) h hr2 (fun a ea => ?_) (fun a ea => ?_) hX1 (fun v61 X2 hX2 hv61 => ?_)
  · obtain ⟨a', ea'⟩ := K1 a ea; exact (hK a' ea').1
  · obtain ⟨a', ea'⟩ := K1 a ea; exact htk a' ea'
  refine C_con (σ := wp σ L) (K := K) (S := S) h (fun a ea => ?_) hX2 (fun X3 hX3 => ?_)
  · obtain ⟨a', ea'⟩ := K2 a ea; exact (hK a' ea').1
  refine C_con (σ := wp σ L) (K := K) (S := S) h (fun a ea => ?_) hX3 (fun X4 hX4 => ?_)
  · obtain ⟨a', ea'⟩ := K3 a ea; exact (hK a' ea').1
  refine ⟨1, 4, by omega, by omega, C_faces (K := K) (S := S) h (fun a ea => ?_) hX4 (fun qF L5 X5 fF hX5 gF cF hF => ?_)⟩
  · obtain ⟨a', ea'⟩ := K4 a ea; exact (hK a' ea').1
  refine ⟨501, 2004, by omega, by omega, C_anns (K := K) (S := S) (T := T) (tc := tc) (pc := pc) h hy (fun a ea => ?_) hX5 (fun qA L6 X6 vs hX6 gA cA hA => ?_)⟩
  · obtain ⟨a', ea'⟩ := K6 a ea; exact hK a' ea'
  have hcost : wpp e (g8 B e K S tk st) (g9 B e K S tk st) ≤ 486 := by
    have hX6 : isC (wp σ L6) e (g8 B e K S tk st) X6 := hX6
    cases h8 : g8 B e K S tk st with
    | inr q => show 3 ≤ 486; omega
    | inl a =>
      rw [h8] at hX6
      cases h9 : g9 B e K S tk st with
      | inr q => show 4 * (e - a) + 6 ≤ 486; omega
      | inl a' =>
        show 4 * (a' - a) ≤ 486
        have h9' : (fun st => ppc (pv B e K S 4) (nms B e K S true) (lk (am B e 4) st)) (.inl a) = .inl a' := by rw [← h9]; unfold g9; rw [h8]
        have := st9.2 a a' hX6.1 h9'
        omega
  refine ⟨486, 1944, by omega, by omega, C_parts (d := 1) (K := K) (S := S) h hy (C_val (k := k) (T := T) (K := K) (S := S) (tc := tc) (pc := pc) h hy 4 (by omega)) true hX6 (fun a ea => ?_) ?_ ?_ (fun pp L7 X7 hX7 hP => ?_)⟩
  · obtain ⟨a', ea'⟩ := K8 a ea; exact hK a' ea'
  · exact hcost
  · have : 4 * wpp e (g8 B e K S tk st) (g9 B e K S tk st) ≤ 1944 := by omega
    exact this
  have hX7 : isC (wp σ L7) e (g9 B e K S tk st) X7 := hX7
  have gAll : grows L L7 := grows_trans gF (grows_trans gA hP.1)
  -- a fault in the end
  have bad : ∀ (q : Nat × Nat) (Y : cS), isC (wp σ L7) e (.inr q) Y → fin e (g9 B e K S tk st) = .inr q → C_X3_readFile_b116 b k 1000 10000 Q (nI ((lk (am B e 3) st).1.getD 0)) v61 (nv0 (wp σ L) (lk (con B e K S) (lk (nk B e K S tk) (lk (am B e 3) st).2).2).1) (nv0 (wp σ L) (lk (con B e K S) (lk (con B e K S) (lk (nk B e K S tk) (lk (am B e 3) st).2).2).2).1) (some qF) (some qA) pp (0 + 1 + 501 + 486) (0 + 4 + 2004 + 1944) Y := by
    intro q Y hY hE
    refine ⟨fun h9 => ?_, fun _ => hQ none L7 Y (by rw [hE]; exact hY) gAll (Or.inl ⟨⟨q, hE⟩, rfl⟩)⟩
    obtain ⟨a, ea⟩ := (isC_3 he hY).1 h9
    cases ea
  cases h9 : g9 B e K S tk st with
  | inr q =>
    rw [h9] at hX7
    have hE : fin e (g9 B e K S tk st) = .inr q := by rw [h9]; rfl
    refine ⟨fun _ => bad q X7 hX7 hE, fun _ => ?_⟩
    obtain ⟨hq, a, ha, rfl⟩ := hX7
    exact c_ref_f (nI_fq he hq) (bad q _ ⟨hq, a, ha, rfl⟩ hE)
  | inl a9 =>
    rw [h9] at hX7
    obtain ⟨ha9, rfl⟩ := hX7
    refine ⟨fun hle => ?_, fun hnle => ?_⟩
    · have hle : nI e ≤ nI a9 := hle
      have ea9 : a9 = e := by
        have := (nI_leI (a := e) (b := a9) (by omega) (by omega)).mp hle
        omega
      subst ea9
      have hE : fin a9 (g9 B a9 K S tk st) = .inl a9 := by rw [h9]; simp only [fin]; rw [if_neg (by omega)]
      obtain ⟨a8, e8⟩ : ∃ a8, g8 B a9 K S tk st = .inl a8 := by
        cases h8 : g8 B a9 K S tk st with
        | inl a => exact ⟨a, rfl⟩
        | inr q => unfold g9 at h9; rw [h8] at h9; cases h9
      obtain ⟨a7, e7⟩ : ∃ a7, (g7 B a9 K S tk st).2 = .inl a7 := itr_ok (annE_f B a9 K S 4) (i := 0) (Nat.zero_le _) e8
      obtain ⟨a6, v7, e6, h7, h7'⟩ := lk_ok (f := am B a9 4) e7
      obtain ⟨a5, e5⟩ : ∃ a5, (g5 B a9 K S tk st).2 = .inl a5 := itr_ok (f := lf (kn B a9 K S 7)) (lf_f _) (i := 0) (Nat.zero_le _) e6
      obtain ⟨a4, v5, e4, h5, h5'⟩ := lk_ok (f := am B a9 4) e5
      obtain ⟨a3, v4, e3, h4, h4'⟩ := lk_ok (f := con B a9 K S) e4
      obtain ⟨a2, v3, e2, h3, h3'⟩ := lk_ok (f := con B a9 K S) e3
      obtain ⟨a1, v2, e1, h2, h2'⟩ := lk_ok (f := nk B a9 K S tk) e2
      obtain ⟨a0, v1, e0, h1, h1'⟩ := lk_ok (f := am B a9 3) e1
      obtain ⟨hTB, hNM⟩ := hK a0 e0
      have hK12 := hTB.1
      have k2 := kn_B (nk_B h2).1
      obtain ⟨sN, hsN, esN, e7N⟩ := (hNM v2 (by omega) (by omega)).2 (by rw [k2.2.1, k2.2.2.2.2.1]; omega)
      have ev61 : v61 = tc v2 := by rw [hv61 v2 h2']; exact e7N.trans esN.symm
      have hab := nv0_t0 (σ := σ) (B := B) (e := a9) (st := (g2 B a9 K S tk st).2) hNM e3
      have hbx := nv0_t0 (σ := σ) (B := B) (e := a9) (st := (g3 B a9 K S tk st).2) hNM e4
      have hnF := am_le B a9 4 (g4 B a9 K S tk st).2
      have hnA := am_le B a9 4 (g6 B a9 K S tk st)
      have hnf3 := am_le B a9 3 st
      obtain ⟨gP, ⟨qD, jD, jvD, anD, avD, vsD, epp, hjD, hjvD⟩, hvP⟩ := hP
      subst epp
      have e6' : itr (lf (kn B a9 K S 7)) ((g5 B a9 K S tk st).1.getD 0) (.inl a5) = .inl a6 := by rw [← e5]; exact e6
      have hk6 := (kns_ok _ _ e6').2
      have hF' : ∀ i, i < (g5 B a9 K S tk st).1.getD 0 → fF i = tc (B (a5 + i)) ∧ ∃ s, s < T ∧ tc (B (a5 + i)) = nI s := by
        intro i hi
        obtain ⟨a, ea, hall⟩ := hF a6 e6
        have : a = a5 := by have := ea.symm.trans e5; cases this; rfl
        subst this
        obtain ⟨w1, w2, w3, w4⟩ := hk6 i hi
        obtain ⟨s, hs, es, e7s⟩ := (hNM _ w2 w3).2 (by omega)
        exact ⟨by rw [hall i hi]; exact e7s.trans es.symm, s, hs, es⟩
      have hA' := hA a8 e8
      refine ⟨fun _ => ⟨by omega, by omega, fun q125 t125 e125 => ⟨2, 9, by omega, by omega, ?_⟩⟩, fun h9 => absurd rfl h9⟩
      have h125 := isC_sN (σ := σ) (L := L7) (e := a9) (st := .inl a9) (X := cp (wp σ L7) 0 (nI a9)) ⟨Nat.le_refl _, rfl⟩ (q125, .inr (0, [.int 0, .int 0, .int 0, .int 0, .null, .null, .null, .null]))
      rw [← e125] at h125
      have cA7 := gP _ _ cA
      refine c_X0 (jI := L.length) (nu := fun i => tc (B (plc (itr (annE B a9 K S 4) i (g7 B a9 K S tk st).2)))) h125 (gP _ _ (gA _ _ cF)) hnF cA7 hnA (fun i hi => ?_) (fun X' M' aS aT jS jT y fS fT hX' gM cq cS' hy3 hfS cT hfT => ?_)
      · obtain ⟨a, a', s, pp, w1, w2, w3, w4, w5, w6, w7, w8⟩ := hA' i hi
        obtain ⟨⟨q, j, eo, hj⟩, -⟩ := w8 L7 (gfrom_grows _ gP)
        refine ⟨q, j, _, eo, hj, ?_⟩
        show some (Value.int (nI s)) = some (Value.int (tc (B (plc (itr (annE B a9 K S 4) i (g7 B a9 K S tk st).2)))))
        rw [show itr (annE B a9 K S 4) i (g7 B a9 K S tk st).2 = .inl a from w1]
        show _ = some (Value.int (tc (B a)))
        rw [w6]
      · refine hQ (some q125) M' X' (by rw [hE]; exact hX') (grows_trans gAll gM) (Or.inr ⟨hE, ⟨q125, rfl⟩, fun pl tx fg se ab bx fc fa nc nt rs hSE => ?_⟩)
        obtain ⟨s1, s2, s3, s4, s5, s6, s7, s8, s9, s10, s11⟩ := hSE
        have htx : ∀ κ, κ ≤ 12 → (fun κ => tx (13 * c + κ)) κ = tc κ := s2
        have hpl : ∀ κ, κ ≤ 12 → (fun κ => pl (13 * c + κ)) κ = pc κ := s1
        have hVP : ∀ {pp : Option Nat} {n p p' : Nat}, vParts (vw k (b 14) M' T yb tc pc 4) k M' T yb tc true pp n p p' → vParts (vw k (b 14) M' T yb (fun κ => tx (13 * c + κ)) (fun κ => pl (13 * c + κ)) 4) k M' T yb (fun κ => tx (13 * c + κ)) true pp n p p' := fun hv => vParts_mono (vw_mono (grows_refl M') (Nat.le_refl _) (fun _ _ _ q => q) htx hpl 4) (grows_refl M') (Nat.le_refl _) (fun _ _ _ q => q) htx hv
        have hseE : se c = v61 := by rw [ev61]; exact s4 v2 h2'
        have habE : ab c = nv0 σ (lk (con B a9 K S) (g2 B a9 K S tk st).2).1 := by rw [hab.1]; exact s5
        have hbxE : bx c = nv0 σ (lk (con B a9 K S) (g3 B a9 K S tk st).2).1 := by rw [hbx.1]; exact s6
        refine ⟨q125, L7.length, qA, qD, aS, aT, rfl, ?_, ⟨_, hnf3, s3⟩, by rw [s5]; exact hab.2, by rw [s6]; exact hbx.2, ⟨(g5 B a9 K S tk st).1.getD 0, jS, fS, hnF, s7, fun i hi => ?_, ?_⟩, ⟨(g7 B a9 K S tk st).1.getD 0, L5.length, jT, fT, vs, hnA, s9, gM _ _ cA7, cT, fun i hi => ?_⟩, 120 * c + a8, 120 * c + a9, (lk (am B a9 4) (g8 B a9 K S tk st)).1.getD 0, ?_, by omega, ?_, ?_, ?_⟩
        · rw [hseE, s3, habE, hbxE]
          exact cq
        · obtain ⟨-, s, hs, es⟩ := hF' i hi
          refine ⟨s, hs, ?_⟩
          rw [s8 i hi, e5]
          exact es
        · have hfa : ∀ i, i < (g5 B a9 K S tk st).1.getD 0 → fS (y + i) = fa (4 * c + i) := by
            intro i hi
            rw [hfS i hi, s8 i hi, e5]
            exact (hF' i hi).1
          rcases hy3 with ⟨q1, q2⟩ | ⟨q1, q2, q3⟩
          · subst q1
            refine Or.inl ⟨by rw [habE]; exact q2, by rw [Nat.zero_add] at cS'; exact cS', fun i hi => ?_⟩
            have := hfa i hi
            rw [Nat.zero_add] at this
            exact this
          · subst q1
            refine Or.inr ⟨by rw [habE]; exact q2, by rw [Nat.add_comm] at cS'; exact cS', by rw [habE]; exact q3, fun i hi => ?_⟩
            have := hfa i hi
            rw [Nat.add_comm] at this
            exact this
        · obtain ⟨a, a', s, pp, w1, w2, w3, w4, w5, w6, w7, w8⟩ := hA' i hi
          obtain ⟨u1, u2⟩ := w8 M' (gfrom_grows _ (grows_trans gP gM))
          have w1' : itr (annE B a9 K S 4) i (g7 B a9 K S tk st).2 = .inl a := w1
          have efT := hfT i hi
          rw [w1'] at efT
          have efT : fT i = tc (B a) := efT
          have ent := s10 i hi
          rw [w1'] at ent
          exact ⟨120 * c + a, 120 * c + a', B a, s, B (a + 1), pp, ent, by omega, by omega, hy a (by omega), w3, w4, w5, by rw [s2 (B a) w4]; exact w6, by rw [efT]; exact w6, hy (a + 1) (by omega), u1, hVP u2⟩
        · rw [s11, e8]; rfl
        · have := (hvP a8 a9 e8 h9).2.1; omega
        · obtain ⟨en, hlt, -⟩ := hvP a8 a9 e8 h9
          rw [show (lk (am B a9 4) (g8 B a9 K S tk st)).1.getD 0 = B a8 from en]
          exact hy a8 hlt
        · obtain ⟨en, hlt, hv⟩ := hvP a8 a9 e8 h9
          exact hVP (hv M' (gfrom_grows _ gM))
    · have hnle : ¬ nI e ≤ nI a9 := hnle
      have hlt : a9 < e := by
        rcases Nat.lt_or_ge a9 e with h7 | h7
        · exact h7
        · exact absurd (nI_le h7 (by omega)) hnle
      have hE : fin e (g9 B e K S tk st) = .inr (8, a9) := by rw [h9]; simp only [fin]; rw [if_pos hlt]
      exact c_ref_ok (r := 8) (s := a9) (bad (8, a9) _ ⟨⟨Nat.le_of_ble_eq_true rfl, Nat.le_of_ble_eq_true rfl, ha9⟩, a9, ha9, rfl⟩ hE)
