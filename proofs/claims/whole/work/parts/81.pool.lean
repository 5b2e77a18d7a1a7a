/-! the parse: the pool while it grows -/
def wp (σ : cS) (L : va_W) : cS := (σ.1, σ.2.1, σ.2.2.1, σ.2.2.2.1, L)
theorem isC_sN {σ : cS} {L : va_W} {e : Nat} {st : St} {X : cS} (h : isC (wp σ L) e st X) (q : Nat × va_E) : isC (wp σ (L ++ [q])) e st (sN X q) := by
  cases st with
  | inl a => obtain ⟨ha, rfl⟩ := h; exact ⟨ha, rfl⟩
  | inr p => obtain ⟨hp, a, ha, rfl⟩ := h; exact ⟨hp, a, ha, rfl⟩
theorem isC_sP {σ : cS} {L : va_W} {e : Nat} {st : St} {X : cS} (h : isC (wp σ L) e st X) (j : Nat) (q : Nat × va_E) : isC (wp σ (L.set j q)) e st (sP X j q) := by
  cases st with
  | inl a => obtain ⟨ha, rfl⟩ := h; exact ⟨ha, rfl⟩
  | inr p => obtain ⟨hp, a, ha, rfl⟩ := h; exact ⟨hp, a, ha, rfl⟩
theorem isC_L {σ : cS} {L : va_W} {e : Nat} {st : St} {X : cS} (h : isC (wp σ L) e st X) : X.2.2.2.2 = L := by
  cases st with
  | inl a => obtain ⟨ha, rfl⟩ := h; rfl
  | inr p => obtain ⟨hp, a, ha, rfl⟩ := h; rfl
theorem grows_refl (L : va_W) : grows L L := fun _ _ h => h
theorem grows_trans {L L' L'' : va_W} (h : grows L L') (h' : grows L' L'') : grows L L'' := fun j q hj => h' j q (h j q hj)
theorem lt_of_some {L : va_W} {j : Nat} {q : Nat × va_E} (h : L[j]? = some q) : j < L.length := by
  rcases Nat.lt_or_ge j L.length with h1 | h1
  · exact h1
  · rw [List.getElem?_eq_none h1] at h; cases h
theorem grows_app (L M : va_W) : grows L (L ++ M) := fun j q hj => by rw [List.getElem?_append_left (lt_of_some hj)]; exact hj
theorem grows_set {L L' : va_W} (h : grows L L') {j : Nat} (hj : L.length ≤ j) (q : Nat × va_E) : grows L (L'.set j q) := fun i p hi => by
  have := lt_of_some hi
  rw [List.getElem?_set_ne (by omega)]
  exact h i p hi
theorem get_set {L : va_W} {j : Nat} {q p : Nat × va_E} (h : L[j]? = some p) : (L.set j q)[j]? = some q := List.getElem?_set_self (lt_of_some h)
theorem get_setn {L : va_W} {j i : Nat} {q p : Nat × va_E} (h : L[i]? = some p) (hij : j ≠ i) : (L.set j q)[i]? = some p := by rw [List.getElem?_set_ne hij]; exact h
theorem grows_len {L L' : va_W} (h : grows L L') : L.length ≤ L'.length := by
  rcases Nat.eq_zero_or_pos L.length with h0 | h0
  · omega
  · have : L.length - 1 < L.length := by omega
    have h1 : L[L.length - 1]? = some L[L.length - 1] := List.getElem?_eq_getElem this
    have := lt_of_some (h _ _ h1)
    omega
/-- cells from m on are kept -/
def gfrom (m : Nat) (L L' : va_W) : Prop := ∀ (j : Nat) q, m ≤ j → L[j]? = some q → L'[j]? = some q
theorem gfrom_trans {m : Nat} {L L' L'' : va_W} (h : gfrom m L L') (h' : gfrom m L' L'') : gfrom m L L'' := fun j q hm hj => h' j q hm (h j q hm hj)
theorem gfrom_le {m m' : Nat} {L L' : va_W} (hm : m ≤ m') (h : gfrom m L L') : gfrom m' L L' := fun j q hj hq => h j q (by omega) hq
theorem gfrom_grows {L L' : va_W} (m : Nat) (h : grows L L') : gfrom m L L' := fun j q _ hj => h j q hj
theorem gfrom_set {m j : Nat} (L : va_W) (q : Nat × va_E) (h : j < m) : gfrom m L (L.set j q) := fun i p hi hp => get_setn hp (by omega)
theorem c_X5 {b : Nat → Nat} {k : Nat → ClassId} {σ : cS} {L : va_W} {e : Nat} {st : St} {X : cS} {h j : Nat} {u0 u1 u2 : Value} (hj : L[j]? = some (h, .inr (5, [u0, u1, u2]))) (hX : isC (wp σ L) e st X) {x1 x2 : Int32} {x3 : Option Nat} {Q : cS → Prop} (hQ : ∀ X', isC (wp σ (L.set j (h, .inr (5, [.int x1, .int x2, va_rf x3])))) e st X' → Q X') : C_X5_init_w b k h Q x1 x2 x3 X := by
  refine ⟨j, [u0, u1, u2], by rw [isC_L hX]; exact hj, Nat.lt_of_lt_of_le (by decide : 0 < 3) (Nat.le_refl _), fun t6 e6 => ?_⟩
  have h6 := isC_sP hX j (h, .inr (5, [.int x1, u1, u2]))
  have e6 : t6 = sP X j (h, .inr (5, [.int x1, u1, u2])) := e6
  rw [← e6] at h6
  refine ⟨j, [.int x1, u1, u2], by rw [isC_L h6]; exact get_set hj, Nat.lt_of_lt_of_le (by decide : 1 < 3) (Nat.le_refl _), fun t11 e11 => ?_⟩
  have h11 := isC_sP h6 j (h, .inr (5, [.int x1, .int x2, u2]))
  have e11 : t11 = sP t6 j (h, .inr (5, [.int x1, .int x2, u2])) := e11
  rw [← e11, List.set_set] at h11
  refine ⟨j, [.int x1, .int x2, u2], by rw [isC_L h11]; exact get_set hj, Nat.lt_of_lt_of_le (by decide : 2 < 3) (Nat.le_refl _), fun t16 e16 => ?_⟩
  have h16 := isC_sP h11 j (h, .inr (5, [.int x1, .int x2, va_rf x3]))
  have e16 : t16 = sP t11 j (h, .inr (5, [.int x1, .int x2, va_rf x3])) := e16
  rw [← e16, List.set_set] at h16
  exact hQ _ h16
theorem c_X2 {b : Nat → Nat} {k : Nat → ClassId} {σ : cS} {L : va_W} {e : Nat} {st : St} {X : cS} {h n mc ms : Nat} (hn : n ≤ 4) (hmc : 2 ≤ mc) (hms : 2 * n ≤ ms) (hX : isC (wp σ (L ++ [(h, .inr (2, [.null, .null]))])) e st X) {Q : cS → Prop} (hQ : ∀ (an av : Nat) (X' : cS) (L' : va_W), L'.length = L.length + 3 → grows L L' → L'[L.length]? = some (h, .inr (2, [.ref an, .ref av])) → L'[L.length + 1]? = some (an, .inl (k 0, n, .inl (fun _ => 0))) → L'[L.length + 2]? = some (av, .inl (k 3, n, .inr (.inr (.inr (.inr (fun _ => none)))))) → isC (wp σ L') e st X' → Q X') : C_X2_init_w b k mc ms h Q (nI n) X := by
  have hc : (nI n).toNatClampNeg = n := nI_clamp (by omega)
  refine ⟨nI_pos (by omega), by rw [hc]; omega, by omega, by rw [hc]; omega, fun q6 t6 e6 => ?_⟩
  rw [hc] at e6
  have h6 := isC_sN hX (q6, .inl (k 0, n, .inl (fun _ => 0)))
  rw [← e6] at h6
  have g6 : (L ++ [(h, Sum.inr (2, [Value.null, Value.null]))] ++ [(q6, Sum.inl (k 0, n, Sum.inl (fun _ => 0)))] : va_W)[L.length]? = some (h, .inr (2, [.null, .null])) := by simp
  refine ⟨L.length, [.null, .null], by rw [isC_L h6]; exact g6, by decide, fun t8 e8 => ?_⟩
  have h8 := isC_sP h6 L.length (h, .inr (2, [.ref q6, .null]))
  have e8 : t8 = sP t6 L.length (h, .inr (2, [.ref q6, .null])) := e8
  rw [← e8] at h8
  refine ⟨nI_pos (by omega), by rw [hc]; omega, by omega, by rw [hc]; omega, fun q13 t13 e13 => ?_⟩
  rw [hc] at e13
  have h13 := isC_sN h8 (q13, .inl (k 3, n, .inr (.inr (.inr (.inr (fun _ => none))))))
  rw [← e13] at h13
  refine ⟨L.length, [.ref q6, .null], by rw [isC_L h13]; simp, Nat.lt_of_lt_of_le (by decide : 1 < 2) (Nat.le_refl _), fun t16 e16 => ?_⟩
  have h16 := isC_sP h13 L.length (h, .inr (2, [.ref q6, .ref q13]))
  have e16 : t16 = sP t13 L.length (h, .inr (2, [.ref q6, .ref q13])) := e16
  rw [← e16] at h16
  refine hQ q6 q13 t16 _ ?_ ?_ ?_ ?_ ?_ h16
  · simp
  · intro j q hj
    have hlt := lt_of_some hj
    rw [List.getElem?_set_ne (by omega), List.getElem?_append_left (by simp; omega), List.getElem?_set_ne (by omega), List.getElem?_append_left (by simp; omega), List.getElem?_append_left hlt]
    exact hj
  · simp
  · rw [List.getElem?_set_ne (by omega), List.getElem?_append_left (by simp), List.getElem?_set_ne (by omega), List.getElem?_append_right (by simp)]
    simp
  · rw [List.getElem?_set_ne (by omega), List.getElem?_append_right (by simp)]
    simp
