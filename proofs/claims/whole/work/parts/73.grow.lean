/-! what a grown pool, grown texts and bytes behind keep -/
def grows (L L' : va_W) : Prop := ∀ (j : Nat) q, L[j]? = some q → L'[j]? = some q
def keeps (f g : Nat → Int32) : Prop := ∀ i m : Nat, m < 256 → f i = nI m → g i = nI m
theorem keeps_tr (m : Nat) (f : Nat → Int32) : keeps (tr m f) f := by
  intro i n hn h
  unfold tr at h
  by_cases hi : i < m
  · rw [if_pos hi] at h; exact h
  · rw [if_neg hi] at h; exact absurd h.symm (nI_nm1 (by omega))
theorem vo_mono {L L' : va_W} (hL : grows L L') {o pp : Option Nat} {kd nm : Int32} (h : vo L o kd nm pp) : vo L' o kd nm pp := by
  obtain ⟨q, j, e, hj⟩ := h
  exact ⟨q, j, e, hL _ _ hj⟩
theorem vParts_mono {V V' : Nat → Option Nat → Nat → Prop} {k : Nat → ClassId} {L L' : va_W} {T T' : Nat} {yb yb' tc tc' : Nat → Int32} {named : Bool} {pp : Option Nat} {n p p' : Nat} (hV : ∀ p o p', V p o p' → V' p o p') (hL : grows L L') (hT : T ≤ T') (hy : keeps yb yb') (ht : ∀ κ, κ ≤ 12 → tc' κ = tc κ) (h : vParts V k L T yb tc named pp n p p') : vParts V' k L' T' yb' tc' named pp n p p' := by
  obtain ⟨q, j, jn, jv, an, av, nm, vs, po, e, hj, hjn, hjv, hn4, e0, en, hall⟩ := h
  refine ⟨q, j, jn, jv, an, av, nm, vs, po, e, hL _ _ hj, hL _ _ hjn, hL _ _ hjv, hn4, e0, en, fun i hi => ⟨fun hb => ?_, fun hb => ?_⟩⟩
  · obtain ⟨⟨κ, s, h1, h12, hs, eκ, etc, enm⟩, hv⟩ := (hall i hi).1 hb
    exact ⟨⟨κ, s, h1, h12, by omega, hy _ _ (by omega) eκ, by rw [ht κ h12]; exact etc, enm⟩, hV _ _ _ hv⟩
  · obtain ⟨enm, hv⟩ := (hall i hi).2 hb
    exact ⟨enm, hV _ _ _ hv⟩
theorem vParts_4 {V : Nat → Option Nat → Nat → Prop} {k : Nat → ClassId} {L : va_W} {T : Nat} {yb tc : Nat → Int32} {named : Bool} {pp : Option Nat} {n p p' : Nat} (h : vParts V k L T yb tc named pp n p p') : n ≤ 4 := by
  obtain ⟨q, j, jn, jv, an, av, nm, vs, po, e, hj, hjn, hjv, hn4, -⟩ := h
  exact hn4
theorem intAt_mono {yb yb' : Nat → Int32} (hy : keeps yb yb') {p : Nat} {v : Int32} (h : intAt yb p v) : intAt yb' p v := by
  obtain ⟨hp, b1, b2, b3, b4, h1, h2, h3, h4, e1, e2, e3, e4, ev⟩ := h
  exact ⟨hp, b1, b2, b3, b4, h1, h2, h3, h4, hy _ _ h1 e1, hy _ _ h2 e2, hy _ _ h3 e3, hy _ _ h4 e4, ev⟩
theorem vw_mono {k : Nat → ClassId} {np : Nat} {L L' : va_W} {T T' : Nat} {yb yb' tc tc' pc pc' : Nat → Int32} (hL : grows L L') (hT : T ≤ T') (hy : keeps yb yb') (ht : ∀ κ, κ ≤ 12 → tc' κ = tc κ) (hpc : ∀ κ, κ ≤ 12 → pc' κ = pc κ) : ∀ (r p : Nat) (o : Option Nat) (p' : Nat), vw k np L T yb tc pc r p o p' → vw k np L' T' yb' tc' pc' r p o p' := by
  intro r
  induction r with
  | zero => intro p o p' h; exact h
  | succ r ih =>
    intro p o p' h
    rcases h with ⟨κ, pq, v, es, eκ, h1, h12, ep, hi, hv, e⟩ | ⟨κ, s, es, eκ, h1, h12, hs, et, hv, e⟩ | ⟨κ, s, es, eκ, h1, h12, hs, et, hv, e⟩ | ⟨n, pp, es, en, hv, hpp⟩ | ⟨κ, s, n, pp, es, eκ, h1, h12, hs, et, en, hv, hpp⟩
    · exact Or.inl ⟨κ, pq, v, hy _ _ (by omega) es, hy _ _ (by omega) eκ, h1, h12, by rw [hpc κ h12]; exact ep, intAt_mono hy hi, vo_mono hL hv, e⟩
    · exact Or.inr (Or.inl ⟨κ, s, hy _ _ (by omega) es, hy _ _ (by omega) eκ, h1, h12, by omega, by rw [ht κ h12]; exact et, vo_mono hL hv, e⟩)
    · exact Or.inr (Or.inr (Or.inl ⟨κ, s, hy _ _ (by omega) es, hy _ _ (by omega) eκ, h1, h12, by omega, by rw [ht κ h12]; exact et, vo_mono hL hv, e⟩))
    · have h4 := vParts_4 hpp
      exact Or.inr (Or.inr (Or.inr (Or.inl ⟨n, pp, hy _ _ (by omega) es, hy _ _ (by omega) en, vo_mono hL hv, vParts_mono ih hL hT hy ht hpp⟩)))
    · have h4 := vParts_4 hpp
      exact Or.inr (Or.inr (Or.inr (Or.inr ⟨κ, s, n, pp, hy _ _ (by omega) es, hy _ _ (by omega) eκ, h1, h12, by omega, by rw [ht κ h12]; exact et, hy _ _ (by omega) en, vo_mono hL hv, vParts_mono ih hL hT hy ht hpp⟩)))
theorem refT_mono {T T' : Nat} (hT : T ≤ T') {x : Int32} (h : refT T x) : refT T' x := by
  rcases h with h | ⟨s, hs, e⟩
  · exact Or.inl h
  · exact Or.inr ⟨s, by omega, e⟩
set_option maxHeartbeats 1000000 in
/-- a class that was read stays what it was -/
theorem cfR_mono {k : Nat → ClassId} {np : Nat} {L L' : va_W} {T T' c : Nat} {o : Option Nat} {yb yb' pl pl' tx tx' fg fg' se se' ab ab' bx bx' fc fc' fa fa' nc nc' nt nt' rs rs' : Nat → Int32} (hL : grows L L') (hT : T ≤ T') (hy : keeps yb yb') (hpl : ∀ κ, κ ≤ 12 → pl' (13 * c + κ) = pl (13 * c + κ)) (htx : ∀ κ, κ ≤ 12 → tx' (13 * c + κ) = tx (13 * c + κ)) (hfg : fg' c = fg c) (hse : se' c = se c) (hab : ab' c = ab c) (hbx : bx' c = bx c) (hfc : fc' c = fc c) (hfa : ∀ i, i < 4 → fa' (4 * c + i) = fa (4 * c + i)) (hnc : nc' c = nc c) (hnt : ∀ i, i < 4 → nt' (4 * c + i) = nt (4 * c + i)) (hrs : rs' c = rs c) (h : cfR k np L T c o yb pl tx fg se ab bx fc fa nc nt rs) : cfR k np L' T' c o yb' pl' tx' fg' se' ab' bx' fc' fa' nc' nt' rs' := by
  obtain ⟨q, j, aA, aD, aS, aT, eo, hj, hf, ha, hb, ⟨nF, jS, fS, hnF, eF, hF, hS⟩, ⟨nA, jA, jT, fT, vs, hnA, eA, hjA, hjT, hAn⟩, p, p', n, ers, hp', hpp', en, hv⟩ := h
  refine ⟨q, j, aA, aD, aS, aT, eo, ?_, ?_, ?_, ?_, ⟨nF, jS, fS, hnF, by rw [hfc]; exact eF, fun i hi => ?_, ?_⟩, ⟨nA, jA, jT, fT, vs, hnA, by rw [hnc]; exact eA, hL _ _ hjA, hL _ _ hjT, fun i hi => ?_⟩, p, p', n, by rw [hrs]; exact ers, hp', hpp', ?_, ?_⟩
  · rw [hse, hfg, hab, hbx]; exact hL _ _ hj
  · rw [hfg]; exact hf
  · rw [hab]; exact refT_mono hT ha
  · rw [hbx]; exact refT_mono hT hb
  · obtain ⟨s, hs, es⟩ := hF i hi
    exact ⟨s, by omega, by rw [hfa i (by omega)]; exact es⟩
  · rw [hab]
    rcases hS with ⟨e1, e2, e3⟩ | ⟨e1, e2, e3, e4⟩
    · exact Or.inl ⟨e1, hL _ _ e2, fun i hi => by rw [hfa i (by omega)]; exact e3 i hi⟩
    · exact Or.inr ⟨e1, hL _ _ e2, e3, fun i hi => by rw [hfa i (by omega)]; exact e4 i hi⟩
  · obtain ⟨p, p', κ, s, n, pp, w1, w2, w3, w4, w5, w6, w7, w8, w9, w10, w11, w12⟩ := hAn i hi
    have h4 := vParts_4 w12
    exact ⟨p, p', κ, s, n, pp, by rw [hnt i (by omega)]; exact w1, w2, w3, hy _ _ (by omega) w4, w5, w6, by omega, by rw [htx κ w6]; exact w8, w9, hy _ _ (by omega) w10, vo_mono hL w11, vParts_mono (vw_mono hL hT hy htx hpl 4) hL hT hy htx w12⟩
  · have h4 := vParts_4 hv
    exact hy _ _ (by omega) en
  · exact vParts_mono (vw_mono hL hT hy htx hpl 4) hL hT hy htx hv
