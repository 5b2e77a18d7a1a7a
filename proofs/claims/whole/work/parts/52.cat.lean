/-! what class and reference hold alike -/
def bit (x : Int32) : Prop := x = 0 ∨ x = 1
/-- the bytes that wait; and the reference's marks are bits -/
def heldR (h : Int32) (B : Nat → Int32) (h' : Int32) (B' : Nat → Int32) (M : Nat → Int32) : Prop := ∃ n : Nat, n ≤ 120 ∧ h = nI n ∧ h' = nI n ∧ (∀ i, i < n → B i = B' i ∧ ∃ y : Nat, y < 256 ∧ B i = nI y) ∧ ∀ s, bit (M s)
/-- texts: the reference's place of the length's byte, the class's length and letters -/
def textR (T : Nat) (lt ln yb ta : Nat → Int32) : Prop := ∀ t, t < T → ∃ p n : Nat, n ≤ 10 ∧ p + n < 1920 ∧ ta t = nI p ∧ yb p = nI n ∧ ln t = nI n ∧ ∀ i, i < n → ∃ y : Nat, 33 ≤ y ∧ y ≤ 126 ∧ yb (p + 1 + i) = nI y ∧ lt (10 * t + i) = nI y
def textD (T : Nat) (lt ln : Nat → Int32) : Prop := ∀ t u n : Nat, t < T → u < T → ln t = nI n → ln u = nI n → (∀ i, i < n → lt (10 * t + i) = lt (10 * u + i)) → t = u
def selfR (C T : Nat) (ct se : Nat → Int32) : Prop := (∀ c, c < C → ∃ s, s < T ∧ se c = nI s ∧ ct s = nI c) ∧ ∀ t, t < 192 → (∀ c, c < C → se c ≠ nI t) → ct t = -1
/-- a text's number, or -1 -/
def refT (T : Nat) (x : Int32) : Prop := x = -1 ∨ ∃ s, s < T ∧ x = nI s
/-- the object o is a Value -/
def vo (L : va_W) (o : Option Nat) (kd nm : Int32) (pp : Option Nat) : Prop := ∃ q j : Nat, o = some q ∧ L[j]? = some (q, .inr (5, [.int kd, .int nm, va_rf pp]))
/-- the Parts object pp holds the n values that stand in the bytes from p to p' -/
def vParts (V : Nat → Option Nat → Nat → Prop) (k : Nat → ClassId) (L : va_W) (T : Nat) (yb tc : Nat → Int32) (named : Bool) (pp : Option Nat) (n p p' : Nat) : Prop := ∃ (q j jn jv an av : Nat) (nm : Nat → Int32) (vs : Nat → Option Nat) (po : Nat → Nat), pp = some q ∧ L[j]? = some (q, .inr (2, [.ref an, .ref av])) ∧ L[jn]? = some (an, .inl (k 0, n, .inl nm)) ∧ L[jv]? = some (av, .inl (k 3, n, .inr (.inr (.inr (.inr vs))))) ∧ n ≤ 4 ∧ po 0 = p ∧ po n = p' ∧ ∀ i, i < n → (named = true → (∃ κ s : Nat, 1 ≤ κ ∧ κ ≤ 12 ∧ s < T ∧ yb (po i) = nI κ ∧ tc κ = nI s ∧ nm i = nI s) ∧ V (po i + 1) (vs i) (po (i + 1))) ∧ (named = false → nm i = -1 ∧ V (po i) (vs i) (po (i + 1)))
/-- the four bytes of an int behind place p -/
def intAt (yb : Nat → Int32) (p : Nat) (v : Int32) : Prop := p + 4 < 1920 ∧ ∃ b1 b2 b3 b4 : Nat, b1 < 256 ∧ b2 < 256 ∧ b3 < 256 ∧ b4 < 256 ∧ yb (p + 1) = nI b1 ∧ yb (p + 2) = nI b2 ∧ yb (p + 3) = nI b3 ∧ yb (p + 4) = nI b4 ∧ v = nI (((b1 * 256 + b2) * 256 + b3) * 256 + b4)
/-- the object o is the value at byte p, which ends at p'; at most r levels -/
def vw (k : Nat → ClassId) (np : Nat) (L : va_W) (T : Nat) (yb tc pc : Nat → Int32) : Nat → Nat → Option Nat → Nat → Prop
  | 0 => fun _ _ _ => False
  | r + 1 => fun p o p' =>
    (∃ (κ pq : Nat) (v : Int32), yb p = nI 73 ∧ yb (p + 1) = nI κ ∧ 1 ≤ κ ∧ κ ≤ 12 ∧ pc κ = nI pq ∧ intAt yb pq v ∧ vo L o 1 v (some np) ∧ p' = p + 2) ∨
    (∃ (κ s : Nat), yb p = nI 115 ∧ yb (p + 1) = nI κ ∧ 1 ≤ κ ∧ κ ≤ 12 ∧ s < T ∧ tc κ = nI s ∧ vo L o 2 (nI s) (some np) ∧ p' = p + 2) ∨
    (∃ (κ s : Nat), yb p = nI 99 ∧ yb (p + 1) = nI κ ∧ 1 ≤ κ ∧ κ ≤ 12 ∧ s < T ∧ tc κ = nI s ∧ vo L o 3 (nI s) (some np) ∧ p' = p + 2) ∨
    (∃ (n : Nat) (pp : Option Nat), yb p = nI 91 ∧ yb (p + 1) = nI n ∧ vo L o 4 (nI n) pp ∧ vParts (vw k np L T yb tc pc r) k L T yb tc false pp n (p + 2) p') ∨
    (∃ (κ s n : Nat) (pp : Option Nat), yb p = nI 64 ∧ yb (p + 1) = nI κ ∧ 1 ≤ κ ∧ κ ≤ 12 ∧ s < T ∧ tc κ = nI s ∧ yb (p + 2) = nI n ∧ vo L o 5 (nI s) pp ∧ vParts (vw k np L T yb tc pc r) k L T yb tc true pp n (p + 3) p')
/-- the ClassFile object o of class number c -/
def cfR (k : Nat → ClassId) (np : Nat) (L : va_W) (T c : Nat) (o : Option Nat) (yb pl tx fg se ab bx fc fa nc nt rs : Nat → Int32) : Prop :=
  ∃ (q j aA aD aS aT : Nat), o = some q ∧ L[j]? = some (q, .inr (0, [.int (se c), .int (fg c), .int (ab c), .int (bx c), .ref aA, .ref aD, .ref aS, .ref aT])) ∧
    (∃ f : Nat, f ≤ 3 ∧ fg c = nI f) ∧ refT T (ab c) ∧ refT T (bx c) ∧
    (∃ (nF jS : Nat) (fS : Nat → Int32), nF ≤ 4 ∧ fc c = nI nF ∧ (∀ i, i < nF → ∃ s, s < T ∧ fa (4 * c + i) = nI s) ∧ ((ab c = -1 ∧ L[jS]? = some (aS, .inl (k 0, nF, .inl fS)) ∧ ∀ i, i < nF → fS i = fa (4 * c + i)) ∨ (ab c ≠ -1 ∧ L[jS]? = some (aS, .inl (k 0, nF + 1, .inl fS)) ∧ fS 0 = ab c ∧ ∀ i, i < nF → fS (i + 1) = fa (4 * c + i)))) ∧
    (∃ (nA jA jT : Nat) (fT : Nat → Int32) (vs : Nat → Option Nat), nA ≤ 4 ∧ nc c = nI nA ∧ L[jA]? = some (aA, .inl (k 3, nA, .inr (.inr (.inr (.inr vs))))) ∧ L[jT]? = some (aT, .inl (k 0, nA, .inl fT)) ∧
      ∀ i, i < nA → ∃ (p p' κ s n : Nat) (pp : Option Nat), nt (4 * c + i) = nI p ∧ p' ≤ 1920 ∧ p + 2 ≤ p' ∧ yb p = nI κ ∧ 1 ≤ κ ∧ κ ≤ 12 ∧ s < T ∧ tx (13 * c + κ) = nI s ∧ fT i = nI s ∧ yb (p + 1) = nI n ∧ vo L (vs i) 5 (nI s) pp ∧ vParts (vw k np L T yb (fun κ => tx (13 * c + κ)) (fun κ => pl (13 * c + κ)) 4) k L T yb (fun κ => tx (13 * c + κ)) true pp n (p + 2) p') ∧
    ∃ p p' n : Nat, rs c = nI p ∧ p' ≤ 1920 ∧ p + 1 ≤ p' ∧ yb p = nI n ∧ vParts (vw k np L T yb (fun κ => tx (13 * c + κ)) (fun κ => pl (13 * c + κ)) 4) k L T yb (fun κ => tx (13 * c + κ)) true (some aD) n (p + 1) p'
/-- the value without parts -/
def npR (k : Nat → ClassId) (np : Nat) (L : va_W) : Prop := ∃ (j jn jv an av : Nat) (nm : Nat → Int32) (vs : Nat → Option Nat), L[j]? = some (np, .inr (2, [.ref an, .ref av])) ∧ L[jn]? = some (an, .inl (k 0, 0, .inl nm)) ∧ L[jv]? = some (av, .inl (k 3, 0, .inr (.inr (.inr (.inr vs)))))
/-- a row of bytes, up to m -/
def tr (m : Nat) (f : Nat → Int32) : Nat → Int32 := fun i => if i < m then f i else -1
/-- texts and classes stand in the bytes of their own files -/
def lowR (k : Nat → ClassId) (np : Nat) (L : va_W) (T C : Nat) (fl : Nat → Option Nat) (yb ta pl tx fg se ab bx fc fa nc nt rs : Nat → Int32) : Prop := (∀ t, t < T → ∃ p n : Nat, n ≤ 10 ∧ p + n < 120 * C ∧ ta t = nI p ∧ yb p = nI n) ∧ ∀ c, c < C → cfR k np L T c (fl c) (tr (120 * (c + 1)) yb) pl tx fg se ab bx fc fa nc nt rs
/-- the catalogue: counts, texts, names, classes -/
def catR (k : Nat → ClassId) (np : Nat) (nT nC : Int32) (lt ln ct : Nat → Int32) (fl : Nat → Option Nat) (L : va_W) (mC mT : Int32) (yb ta pl tx fg se ab bx fc fa nc nt rs : Nat → Int32) : Prop :=
  ∃ C T : Nat, C ≤ 16 ∧ T ≤ 12 * C ∧ nC = nI C ∧ mC = nI C ∧ nT = nI T ∧ mT = nI T ∧ textR T lt ln yb ta ∧ textD T lt ln ∧ selfR C T ct se ∧ (npR k np L ∧ lowR k np L T C fl yb ta pl tx fg se ab bx fc fa nc nt rs) ∧ ∀ c, c < C → cfR k np L T c (fl c) yb pl tx fg se ab bx fc fa nc nt rs
def Rel (b : Nat → Nat) (k : Nat → ClassId) (σ : cS) (τ : rS) : Prop := heldR (σ.1 0) (σ.2.1 0) (τ.1 1) (τ.2 0) (τ.2 27) ∧ catR k (b 14) (σ.1 1) (σ.1 2) (σ.2.1 1) (σ.2.1 2) (σ.2.1 3) σ.2.2.1 σ.2.2.2.2 (τ.1 3) (τ.1 5) (τ.2 2) (τ.2 4) (τ.2 7) (τ.2 8) (τ.2 9) (τ.2 10) (τ.2 11) (τ.2 12) (τ.2 13) (τ.2 14) (τ.2 15) (τ.2 16) (τ.2 17)
theorem Rel_0 (b : Nat → Nat) (k : Nat → ClassId) {g : Nat → Int32} (hg : ∀ j, j < 192 → g j = -1) : Rel b k (cS0 b k g) rS0 := by
  refine ⟨⟨0, by omega, rfl, rfl, fun i h => absurd h (Nat.not_lt_zero _), fun s => Or.inl rfl⟩, 0, 0, by omega, by omega, rfl, rfl, rfl, rfl, fun t h => absurd h (Nat.not_lt_zero _), fun t u n h => absurd h (Nat.not_lt_zero _), ⟨fun c h => absurd h (Nat.not_lt_zero _), fun t ht _ => hg t ht⟩, ⟨⟨0, 1, 2, b 15, b 16, fun _ => 0, fun _ => none, rfl, rfl, rfl⟩, fun t h => absurd h (Nat.not_lt_zero _), fun c h => absurd h (Nat.not_lt_zero _)⟩, fun c h => absurd h (Nat.not_lt_zero _)⟩
theorem zb0 : zb 0 := rfl
theorem zb1 : zb 1 := rfl
/-- an int against a count: below 0, at or above it, or a number below it -/
theorem ixc (x : Int32) {n : Nat} (hn : n < 2 ^ 31) : (x < 0) ∨ (¬ x < 0 ∧ nI n ≤ x) ∨ ∃ j : Nat, j < n ∧ x = nI j ∧ ¬ x < 0 ∧ ¬ nI n ≤ x := by
  rcases pk_ix x hn with h | h | ⟨j, hj, e⟩
  · exact Or.inl h
  · by_cases h0 : x < 0
    · exact Or.inl h0
    · exact Or.inr (Or.inl ⟨h0, h⟩)
  · subst e
    exact Or.inr (Or.inr ⟨j, hj, rfl, nI_pos (by omega), nI_ge hj hn⟩)
theorem c_has1 {b : Nat → Nat} {k : Nat → ClassId} {Q : Int32 → cS → Prop} {x : Int32} {σ : cS} {n : Nat} (hn : n < 2 ^ 31) (e : σ.1 2 = nI n) (h0 : ¬ vp_in x n → Q 0 σ) (h1 : ∀ j : Nat, j < n → x = nI j → Q 1 σ) : C_X1_has_w b k Q x σ := by
  refine ⟨fun h => ⟨zb0, h0 (fun v => v (Or.inl h))⟩, fun h => ⟨fun h2 => ⟨zb0, h0 (fun v => ?_)⟩, fun h2 => ⟨zb1, ?_⟩⟩⟩
  · rw [e] at h2
    obtain ⟨j, hj, ej⟩ := vp_in_of v hn
    rw [ej] at h2
    exact nI_ge hj hn h2
  · rw [e] at h2
    rcases ixc x hn with h3 | ⟨-, h3⟩ | ⟨j, hj, ej, -⟩
    · exact absurd h3 h
    · exact absurd h3 h2
    · exact h1 j hj ej
theorem c_has4 {b : Nat → Nat} {k : Nat → ClassId} {Q : Int32 → cS → Prop} {x : Int32} {σ : cS} {n : Nat} (hn : n < 2 ^ 31) (e : σ.1 1 = nI n) (h0 : ¬ vp_in x n → Q 0 σ) (h1 : ∀ j : Nat, j < n → x = nI j → Q 1 σ) : C_X4_has_w b k Q x σ := by
  refine ⟨fun h => ⟨zb0, h0 (fun v => v (Or.inl h))⟩, fun h => ⟨fun h2 => ⟨zb0, h0 (fun v => ?_)⟩, fun h2 => ⟨zb1, ?_⟩⟩⟩
  · rw [e] at h2
    obtain ⟨j, hj, ej⟩ := vp_in_of v hn
    rw [ej] at h2
    exact nI_ge hj hn h2
  · rw [e] at h2
    rcases ixc x hn with h3 | ⟨-, h3⟩ | ⟨j, hj, ej, -⟩
    · exact absurd h3 h
    · exact absurd h3 h2
    · exact h1 j hj ej
theorem r_isClass {Q : Int32 → rS → Prop} {x : Int32} {τ : rS} {n : Nat} (hn : n < 2 ^ 31) (e : τ.1 3 = nI n) (h0 : ¬ vp_in x n → Q 0 τ) (h1 : ∀ j : Nat, j < n → x = nI j → Q 1 τ) : R_isClass_w Q x τ := by
  refine ⟨fun h => ⟨zb0, h0 (fun v => v (Or.inl h))⟩, fun h => ⟨fun h2 => ⟨zb0, h0 (fun v => ?_)⟩, fun h2 => ⟨zb1, ?_⟩⟩⟩
  · rw [e] at h2
    obtain ⟨j, hj, ej⟩ := vp_in_of v hn
    rw [ej] at h2
    exact nI_ge hj hn h2
  · rw [e] at h2
    rcases ixc x hn with h3 | ⟨-, h3⟩ | ⟨j, hj, ej, -⟩
    · exact absurd h3 h
    · exact absurd h3 h2
    · exact h1 j hj ej
theorem r_isText {Q : Int32 → rS → Prop} {x : Int32} {τ : rS} {n : Nat} (hn : n < 2 ^ 31) (e : τ.1 5 = nI n) (h0 : ¬ vp_in x n → Q 0 τ) (h1 : ∀ j : Nat, j < n → x = nI j → Q 1 τ) : R_isText_w Q x τ := by
  refine ⟨fun h => ⟨zb0, h0 (fun v => v (Or.inl h))⟩, fun h => ⟨fun h2 => ⟨zb0, h0 (fun v => ?_)⟩, fun h2 => ⟨zb1, ?_⟩⟩⟩
  · rw [e] at h2
    obtain ⟨j, hj, ej⟩ := vp_in_of v hn
    rw [ej] at h2
    exact nI_ge hj hn h2
  · rw [e] at h2
    rcases ixc x hn with h3 | ⟨-, h3⟩ | ⟨j, hj, ej, -⟩
    · exact absurd h3 h
    · exact absurd h3 h2
    · exact h1 j hj ej
/-- calls that change nothing: the answer is the same -/
theorem simI_eq {Rel : cS → rS → Prop} {Cw : (Int32 → cS → Prop) → cS → Prop} {Rw : (Int32 → rS → Prop) → rS → Prop} (h : ∀ σ τ, Rel σ τ → ∃ r : Int32, (∀ Q, Q r σ → Cw Q σ) ∧ ∀ Q, Q r τ → Rw Q τ) : SimI Rel Cw Rw := by
  intro σ τ hR
  obtain ⟨r, h1, h2⟩ := h σ τ hR
  refine ⟨fun r' σ' => r' = r ∧ σ' = σ, fun Q hQ => h1 Q (hQ r σ ⟨rfl, rfl⟩), ?_⟩
  rintro r' σ' ⟨rfl, rfl⟩ Q' hQ'
  exact h2 _ (hQ' τ hR)
theorem sim_length (b : Nat → Nat) (k : Nat → ClassId) : SimI (Rel b k) (fun Q σ => C_X6_length_w b k Q σ) (fun Q τ => R_length_w Q τ) := simI_eq (fun σ τ hR => by
  obtain ⟨⟨n, -, e1, e2, -⟩, -⟩ := hR
  exact ⟨nI n, fun Q h => by show Q (σ.1 0) σ; rw [e1]; exact h, fun Q h => by show Q (τ.1 1) τ; rw [e2]; exact h⟩)
theorem sim_classes (b : Nat → Nat) (k : Nat → ClassId) : SimI (Rel b k) (fun Q σ => C_X6_classes_w b k Q σ) (fun Q τ => R_classes_w Q τ) := simI_eq (fun σ τ hR => by
  obtain ⟨-, C, T, -, -, e1, e2, -⟩ := hR
  exact ⟨nI C, fun Q h => by show Q (σ.1 2) σ; rw [e1]; exact h, fun Q h => by show Q (τ.1 3) τ; rw [e2]; exact h⟩)
theorem sim_texts (b : Nat → Nat) (k : Nat → ClassId) : SimI (Rel b k) (fun Q σ => C_X6_texts_w b k Q σ) (fun Q τ => R_texts_w Q τ) := simI_eq (fun σ τ hR => by
  obtain ⟨-, C, T, -, -, -, -, e1, e2, -⟩ := hR
  exact ⟨nI T, fun Q h => by show Q (σ.1 1) σ; rw [e1]; exact h, fun Q h => by show Q (τ.1 5) τ; rw [e2]; exact h⟩)
theorem sim_drop (b : Nat → Nat) (k : Nat → ClassId) : SimV (Rel b k) (fun Q σ => C_X6_drop_w b k Q σ) (fun Q τ => R_drop_w Q τ) := by
  intro σ τ hR
  refine ⟨fun σ' => σ' = sI σ 0 0, fun Q hQ => ?_, ?_⟩
  · intro t e
    exact hQ t e
  · rintro σ' rfl Q' hQ'
    intro t e
    subst e
    obtain ⟨⟨n, -, -, -, -, hbit⟩, hc⟩ := hR
    exact hQ' _ ⟨⟨0, by omega, rfl, rfl, fun i h => absurd h (Nat.not_lt_zero _), hbit⟩, hc⟩
