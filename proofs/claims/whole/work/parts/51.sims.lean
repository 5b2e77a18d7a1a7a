/-- class and reference answer alike, from related states to related states -/
def SimI (Rel : cS → rS → Prop) (Cw : (Int32 → cS → Prop) → cS → Prop) (Rw : (Int32 → rS → Prop) → rS → Prop) : Prop := ∀ σ τ, Rel σ τ → ∃ Post : Int32 → cS → Prop, (∀ Q : Int32 → cS → Prop, (∀ r σ', Post r σ' → Q r σ') → Cw Q σ) ∧ ∀ r σ', Post r σ' → ∀ Q' : Int32 → rS → Prop, (∀ τ', Rel σ' τ' → Q' r τ') → Rw Q' τ
def SimL (Rel : cS → rS → Prop) (Cw : (Int64 → cS → Prop) → cS → Prop) (Rw : (Int64 → rS → Prop) → rS → Prop) : Prop := ∀ σ τ, Rel σ τ → ∃ Post : Int64 → cS → Prop, (∀ Q : Int64 → cS → Prop, (∀ r σ', Post r σ' → Q r σ') → Cw Q σ) ∧ ∀ r σ', Post r σ' → ∀ Q' : Int64 → rS → Prop, (∀ τ', Rel σ' τ' → Q' r τ') → Rw Q' τ
def SimV (Rel : cS → rS → Prop) (Cw : (cS → Prop) → cS → Prop) (Rw : (rS → Prop) → rS → Prop) : Prop := ∀ σ τ, Rel σ τ → ∃ Post : cS → Prop, (∀ Q : cS → Prop, (∀ σ', Post σ' → Q σ') → Cw Q σ) ∧ ∀ σ', Post σ' → ∀ Q' : rS → Prop, (∀ τ', Rel σ' τ' → Q' τ') → Rw Q' τ
/-- every call of the two faces -/
def Sims (b : Nat → Nat) (k : Nat → ClassId) (Rel : cS → rS → Prop) : Prop :=
  (∀ x n, SimI Rel (fun Q σ => C_X6_put_w b k Q x n σ) (fun Q τ => R_put_w Q x n τ)) ∧
  SimV Rel (fun Q σ => C_X6_drop_w b k Q σ) (fun Q τ => R_drop_w Q τ) ∧
  SimI Rel (fun Q σ => C_X6_length_w b k Q σ) (fun Q τ => R_length_w Q τ) ∧
  SimI Rel (fun Q σ => C_X6_read_w b k 1000 10000 Q σ) (fun Q τ => R_read_w Q τ) ∧
  SimI Rel (fun Q σ => C_X6_classes_w b k Q σ) (fun Q τ => R_classes_w Q τ) ∧
  SimI Rel (fun Q σ => C_X6_texts_w b k Q σ) (fun Q τ => R_texts_w Q τ) ∧
  (∀ x y, SimI Rel (fun Q σ => C_X6_letter_w b k Q x y σ) (fun Q τ => R_letter_w Q x y τ)) ∧
  (∀ x, SimI Rel (fun Q σ => C_X6_find_w b k Q x σ) (fun Q τ => R_find_w Q x τ)) ∧
  (∀ x, SimI Rel (fun Q σ => C_X6_name_w b k Q x σ) (fun Q τ => R_name_w Q x τ)) ∧
  (∀ x, SimI Rel (fun Q σ => C_X6_flags_w b k Q x σ) (fun Q τ => R_flags_w Q x τ)) ∧
  (∀ x, SimI Rel (fun Q σ => C_X6_superName_w b k Q x σ) (fun Q τ => R_superName_w Q x τ)) ∧
  (∀ x y, SimI Rel (fun Q σ => C_X6_subtype_w b k Q x y σ) (fun Q τ => R_subtype_w Q x y τ)) ∧
  (∀ x y, SimI Rel (fun Q σ => C_X6_subtypeAt_w b k Q x y σ) (fun Q τ => R_subtypeAt_w Q x y τ)) ∧
  (∀ x y, SimI Rel (fun Q σ => C_X6_holder_w b k Q x y σ) (fun Q τ => R_holder_w Q x y τ)) ∧
  (∀ x y, SimI Rel (fun Q σ => C_X6_count_w b k Q x y σ) (fun Q τ => R_count_w Q x y τ)) ∧
  (∀ x y, SimI Rel (fun Q σ => C_X6_meta_w b k Q x y σ) (fun Q τ => R_meta_w Q x y τ)) ∧
  (∀ x y z u, SimL Rel (fun Q σ => C_X6_value_w b k Q x y z u σ) (fun Q τ => R_value_w Q x y z u τ))
theorem lg_cmp_self (x : Int64) : lg_cmp x x = 0 := by simp [lg_cmp]
theorem and31 (x : Int32) : ∃ j : Nat, j < 32 ∧ x &&& 31 = nI j := pk_andE x 5 (by decide)
set_option maxHeartbeats 4000000 in
set_option maxRecDepth 100000 in
/-- the law's loop out of the calls' alikeness -/
theorem law_of_sims {b : Nat → Nat} {k : Nat → ClassId} (Rel : cS → rS → Prop) (hS : Sims b k Rel) {g : Nat → Int32} (h0 : Rel (cS0 b k g) rS0) {L : Nat} {xs : Nat → Int32} (hL : L ≤ 2560) : L_law_b18 b k L xs 600000 7302250 True (0 : Int32) 36 5867 (cS0 b k g, rS0) := by
  obtain ⟨s_put, s_drop, s_length, s_read, s_classes, s_texts, s_letter, s_find, s_name, s_flags, s_superName, s_subtype, s_subtypeAt, s_holder, s_count, s_meta, s_value⟩ := hS
  refine fx_ex (L_law_b18_f b k L xs 600000 7302250 True) (fun z => ∃ i : Nat, z.1 = nI (5 * i) ∧ 5 * i ≤ L ∧ z.2.1 ≤ 36 + 1000 * i ∧ z.2.2.1 ≤ 5867 + 10000 * i ∧ Rel z.2.2.2.1 z.2.2.2.2) (fun z => L - z.1.toNatClampNeg) ?_ _ ⟨0, rfl, by omega, by simp, by simp, h0⟩
  rintro K ⟨x3, nc, ns, σ, τ⟩ ⟨i, hx, hi, hc, hs, hR⟩ hK
  dsimp only at hx hc hs hR
  subst hx
  have next : ∀ (nc' ns' : Nat) (σ' : cS) (τ' : rS), 5 * i + 5 ≤ L → nc' ≤ 36 + 1000 * (i + 1) → ns' ≤ 5867 + 10000 * (i + 1) → Rel σ' τ' → L_law_b586 b k L xs 600000 7302250 True (fun x3 nc ns σ => K (x3, nc, ns, σ)) (nI (5 * i)) nc' ns' (σ', τ') := by
    intro nc' ns' σ' τ' h5 h1 h2 hR' v e
    have e2 : v = nI (5 * (i + 1)) := by rw [e]; exact nI_add (5 * i) 5
    subst e2
    refine hK (nI (5 * (i + 1)), nc', ns', σ', τ') ⟨i + 1, rfl, by omega, h1, h2, hR'⟩ ?_
    show L - (nI (5 * (i + 1))).toNatClampNeg < L - (nI (5 * i)).toNatClampNeg
    rw [nI_clamp (by omega), nI_clamp (by omega)]
    omega
  show L_law_b18_s b k L xs 600000 7302250 True (fun x3 nc ns σ => K (x3, nc, ns, σ)) (nI (5 * i)) nc ns (σ, τ)
  unfold L_law_b18_s
  refine ⟨fun _ => trivial, fun hn => ?_⟩
  have h5 : 5 * i + 5 ≤ L := by
    by_cases h : 5 ≤ L
    · have e1 : Int32.ofNat L - 5 = nI (L - 5) := pk_sub h
      rw [e1] at hn
      have := mt (nI_ltI (by omega) (by omega)).mpr hn
      omega
    · exfalso
      apply hn
      have e1 : Int32.ofNat L - 5 < 0 := pk_sneg (a := L) (b := 5) (by omega) (by omega)
      have e2 := nI_pos' (n := 5 * i) (by omega)
      exact Int32.lt_of_lt_of_le e1 e2
  have v0 : vp_in (nI (5 * i)) L := vp_in_nI (by omega) (by omega)
  have v1 : vp_in (nI (5 * i) + 1) L := by rw [show nI (5 * i) + 1 = nI (5 * i + 1) from nI_add _ 1]; exact vp_in_nI (by omega) (by omega)
  have v2 : vp_in (nI (5 * i) + 2) L := by rw [show nI (5 * i) + 2 = nI (5 * i + 2) from nI_add _ 2]; exact vp_in_nI (by omega) (by omega)
  have v3 : vp_in (nI (5 * i) + 3) L := by rw [show nI (5 * i) + 3 = nI (5 * i + 3) from nI_add _ 3]; exact vp_in_nI (by omega) (by omega)
  have v4 : vp_in (nI (5 * i) + 4) L := by rw [show nI (5 * i) + 4 = nI (5 * i + 4) from nI_add _ 4]; exact vp_in_nI (by omega) (by omega)
  have nx := fun σ' τ' (hR' : Rel σ' τ') => next nc ns σ' τ' h5 (by omega) (by omega) hR'
  refine ⟨v0, ?_⟩
  generalize hop : xs (nI (5 * i)).toNatClampNeg &&& 31 = op
  refine ⟨fun _ => ?_, fun n0 => ⟨fun _ => ?_, fun n1 => ⟨fun _ => ?_, fun n2 => ⟨fun _ => ?_, fun n3 => ⟨fun _ => ?_, fun n4 => ⟨fun _ => ?_, fun n5 => ⟨fun _ => ?_, fun n6 => ⟨fun _ => ?_, fun n7 => ⟨fun _ => ?_, fun n8 => ⟨fun _ => ?_, fun n9 => ⟨fun _ => ?_, fun n10 => ⟨fun _ => ?_, fun n11 => ⟨fun _ => ?_, fun n12 => ⟨fun _ => ?_, fun n13 => ⟨fun _ => ?_, fun n14 => ⟨fun _ => ?_, fun n15 => ⟨fun _ => ?_, fun n16 => ?_⟩⟩⟩⟩⟩⟩⟩⟩⟩⟩⟩⟩⟩⟩⟩⟩⟩
  · obtain ⟨P, p1, p2⟩ := s_put _ _ σ τ hR
    exact ⟨v1, v2, v3, p1 _ (fun r σ' hp => ⟨v1, v2, v3, p2 r σ' hp _ (fun τ' hR' => ⟨fun _ => nx σ' τ' hR', fun h => h rfl⟩)⟩)⟩
  · obtain ⟨P, p1, p2⟩ := s_drop σ τ hR
    exact p1 _ (fun σ' hp => p2 σ' hp _ (fun τ' hR' => nx σ' τ' hR'))
  · obtain ⟨P, p1, p2⟩ := s_length σ τ hR
    exact p1 _ (fun r σ' hp => p2 r σ' hp _ (fun τ' hR' => ⟨fun _ => nx σ' τ' hR', fun h => h rfl⟩))
  · obtain ⟨P, p1, p2⟩ := s_read σ τ hR
    exact ⟨1000, 10000, by omega, by omega, p1 _ (fun r σ' hp => p2 r σ' hp _ (fun τ' hR' => ⟨fun _ => next _ _ σ' τ' h5 (by omega) (by omega) hR', fun h => h rfl⟩))⟩
  · obtain ⟨P, p1, p2⟩ := s_classes σ τ hR
    exact p1 _ (fun r σ' hp => p2 r σ' hp _ (fun τ' hR' => ⟨fun _ => nx σ' τ' hR', fun h => h rfl⟩))
  · obtain ⟨P, p1, p2⟩ := s_texts σ τ hR
    exact p1 _ (fun r σ' hp => p2 r σ' hp _ (fun τ' hR' => ⟨fun _ => nx σ' τ' hR', fun h => h rfl⟩))
  · obtain ⟨P, p1, p2⟩ := s_letter _ _ σ τ hR
    exact ⟨v1, v2, p1 _ (fun r σ' hp => ⟨v1, v2, p2 r σ' hp _ (fun τ' hR' => ⟨fun _ => nx σ' τ' hR', fun h => h rfl⟩)⟩)⟩
  · obtain ⟨P, p1, p2⟩ := s_find _ σ τ hR
    exact ⟨v1, p1 _ (fun r σ' hp => ⟨v1, p2 r σ' hp _ (fun τ' hR' => ⟨fun _ => nx σ' τ' hR', fun h => h rfl⟩)⟩)⟩
  · obtain ⟨P, p1, p2⟩ := s_name _ σ τ hR
    exact ⟨v1, p1 _ (fun r σ' hp => ⟨v1, p2 r σ' hp _ (fun τ' hR' => ⟨fun _ => nx σ' τ' hR', fun h => h rfl⟩)⟩)⟩
  · obtain ⟨P, p1, p2⟩ := s_flags _ σ τ hR
    exact ⟨v1, p1 _ (fun r σ' hp => ⟨v1, p2 r σ' hp _ (fun τ' hR' => ⟨fun _ => nx σ' τ' hR', fun h => h rfl⟩)⟩)⟩
  · obtain ⟨P, p1, p2⟩ := s_superName _ σ τ hR
    exact ⟨v1, p1 _ (fun r σ' hp => ⟨v1, p2 r σ' hp _ (fun τ' hR' => ⟨fun _ => nx σ' τ' hR', fun h => h rfl⟩)⟩)⟩
  · obtain ⟨P, p1, p2⟩ := s_subtype _ _ σ τ hR
    exact ⟨v1, v2, p1 _ (fun r σ' hp => ⟨v1, v2, p2 r σ' hp _ (fun τ' hR' => ⟨fun _ => nx σ' τ' hR', fun h => h rfl⟩)⟩)⟩
  · obtain ⟨P, p1, p2⟩ := s_subtypeAt _ _ σ τ hR
    exact ⟨v1, v2, p1 _ (fun r σ' hp => ⟨v1, v2, p2 r σ' hp _ (fun τ' hR' => ⟨fun _ => nx σ' τ' hR', fun h => h rfl⟩)⟩)⟩
  · obtain ⟨P, p1, p2⟩ := s_holder _ _ σ τ hR
    exact ⟨v1, v2, p1 _ (fun r σ' hp => ⟨v1, v2, p2 r σ' hp _ (fun τ' hR' => ⟨fun _ => nx σ' τ' hR', fun h => h rfl⟩)⟩)⟩
  · obtain ⟨P, p1, p2⟩ := s_count _ _ σ τ hR
    exact ⟨v1, v2, p1 _ (fun r σ' hp => ⟨v1, v2, p2 r σ' hp _ (fun τ' hR' => ⟨fun _ => nx σ' τ' hR', fun h => h rfl⟩)⟩)⟩
  · obtain ⟨P, p1, p2⟩ := s_meta _ _ σ τ hR
    exact ⟨v1, v2, p1 _ (fun r σ' hp => ⟨v1, v2, p2 r σ' hp _ (fun τ' hR' => ⟨fun _ => nx σ' τ' hR', fun h => h rfl⟩)⟩)⟩
  · obtain ⟨P, p1, p2⟩ := s_value _ _ _ _ σ τ hR
    exact ⟨v1, v2, v3, v4, p1 _ (fun r σ' hp => ⟨v1, v2, v3, v4, p2 r σ' hp _ (fun τ' hR' => ⟨fun _ => nx σ' τ' hR', fun h => h (lg_cmp_self r)⟩)⟩)⟩
  · refine ⟨?_, nx σ τ hR⟩
    obtain ⟨j, hj, ej⟩ := and31 (xs (nI (5 * i)).toNatClampNeg)
    have e : op = nI j := hop.symm.trans ej
    subst e
    right
    rw [nI_toInt (by omega)]
    have : ∀ m : Nat, m < 17 → j ≠ m := by
      intro m hm hjm
      subst hjm
      rcases (show j = 0 ∨ j = 1 ∨ j = 2 ∨ j = 3 ∨ j = 4 ∨ j = 5 ∨ j = 6 ∨ j = 7 ∨ j = 8 ∨ j = 9 ∨ j = 10 ∨ j = 11 ∨ j = 12 ∨ j = 13 ∨ j = 14 ∨ j = 15 ∨ j = 16 by omega) with rfl | rfl | rfl | rfl | rfl | rfl | rfl | rfl | rfl | rfl | rfl | rfl | rfl | rfl | rfl | rfl | rfl
      · exact n0 rfl
      · exact n1 rfl
      · exact n2 rfl
      · exact n3 rfl
      · exact n4 rfl
      · exact n5 rfl
      · exact n6 rfl
      · exact n7 rfl
      · exact n8 rfl
      · exact n9 rfl
      · exact n10 rfl
      · exact n11 rfl
      · exact n12 rfl
      · exact n13 rfl
      · exact n14 rfl
      · exact n15 rfl
      · exact n16 rfl
    have h16 : ¬ j < 17 := fun h => this j h rfl
    omega
