section
variable {p : Program} {l : Launch} {e : Env} {R : Room} {s : State} {m : MethodId} {args : Array Value} {below : List Frame} {meth : Method} {c : Code}
variable {dC : Nat → ClassId} {dI : Nat → Nat → Nat} {b : Nat → Nat} {k : Nat → ClassId} {A : Nat → Prop}
def C_X0_directTypes_b15 (b : Nat → Nat) (k : Nat → ClassId) (h : Nat) (Q : Option Nat → cS → Prop) (y0 : Option Nat) (σ : cS) : Prop :=
 Q y0 σ
set_option maxHeartbeats 4000000 in
set_option maxRecDepth 100000 in
theorem cB_X0_directTypes_15 {h : Nat} {Q : Option Nat → cS → Prop} (X : CallFix p m c cX0_directTypes 2 s args wsX0_directTypes RX0) (hr : meth.sig.returnType = (some (.array .int))) (hlk : meth.locks = false) (hR : 0 ≤ R.frames ∧ 0 ≤ R.locals) (hK : cK dC dI k s) (hA : ∀ q, s.heap.size ≤ q → A q) (y0 : Option Nat) (σ : cS) (H : Heap) (locs : List Loc) (ls : Array Slot) (hl : lv_has ls 2 [(0, .ref h)]) (hO : cO dC dI b k A s.heap σ H locs) (hw : C_X0_directTypes_b15 b k h Q y0 σ) : W p l e R s m args below meth c H locs 0 0 (MQ below (va_Qq Q (cAt dC dI A b k) A) args s 0 0 A) (F0 m 15 ls [va_rf y0]) := by
  unfold C_X0_directTypes_b15 at hw
  exact W.aret (v := va_rf y0) X.1 X.2.1 hr (Or.inr ⟨_, rfl⟩) (va_rf_or _) (fun t ht hW => ⟨⟨y0, σ, rfl, hw, cO_end hO hK ht hW⟩, hO.2.2.F ht⟩) hO.2.2.2.2 dX0_directTypes_15 hlk
def C_X0_directTypes_b0 (b : Nat → Nat) (k : Nat → ClassId) (h : Nat) (Q : Option Nat → cS → Prop) (x1 : Int32) (σ : cS) : Prop :=
 (x1 = 0 → ∃ v12 : Option Nat, pR σ.2.2.2.2 (some h) 0 6 v12 ∧ C_X0_directTypes_b15 b k h Q v12 σ) ∧ (¬ x1 = 0 → ∃ v5 : Option Nat, pR σ.2.2.2.2 (some h) 0 7 v5 ∧ C_X0_directTypes_b15 b k h Q v5 σ)
set_option maxHeartbeats 4000000 in
set_option maxRecDepth 100000 in
theorem cB_X0_directTypes_0 {h : Nat} {Q : Option Nat → cS → Prop} (X : CallFix p m c cX0_directTypes 2 s args wsX0_directTypes RX0) (hr : meth.sig.returnType = (some (.array .int))) (hlk : meth.locks = false) (hR : 0 ≤ R.frames ∧ 0 ≤ R.locals) (hK : cK dC dI k s) (hA : ∀ q, s.heap.size ≤ q → A q) (x1 : Int32) (σ : cS) (H : Heap) (locs : List Loc) (ls : Array Slot) (hl : lv_has ls 2 [(0, .ref h), (1, .int x1)]) (hO : cO dC dI b k A s.heap σ H locs) (hw : C_X0_directTypes_b0 b k h Q x1 σ) : W p l e R s m args below meth c H locs 0 0 (MQ below (va_Qq Q (cAt dC dI A b k) A) args s 0 0 A) (F0 m 0 ls []) := by
  unfold C_X0_directTypes_b0 at hw
  refine lv_iload_n X.1 X.2.1 dX0_directTypes_0 rfl (lv_at hl 1 rfl) ?_
  refine lv_if_eq (tgt := 11) X.1 X.2.1 dX0_directTypes_1 rfl (fun hc9 => ?_) (fun hc9 => ?_)
  · have hw := hw.1 hc9
    refine lv_aload_n X.1 X.2.1 dX0_directTypes_11 rfl (lv_at hl 0 rfl) ?_
    obtain ⟨v12, g12, hw⟩ := hw
    refine cg_X0_supertypes X fX0_X0_supertypes hK hO g12 dX0_directTypes_12 ?_
    exact cB_X0_directTypes_15 X hr hlk hR hK hA v12 σ H locs ls (lv_sub hl [0] rfl) hO hw
  · have hw := hw.2 hc9
    refine lv_aload_n X.1 X.2.1 dX0_directTypes_4 rfl (lv_at hl 0 rfl) ?_
    obtain ⟨v5, g5, hw⟩ := hw
    refine cg_X0_annotationTypes X fX0_X0_annotationTypes hK hO g5 dX0_directTypes_5 ?_
    refine lv_goto (tgt := 15) X.1 X.2.1 dX0_directTypes_8 rfl ?_
    exact cB_X0_directTypes_15 X hr hlk hR hK hA v5 σ H locs ls (lv_sub hl [0] rfl) hO hw
def C_X0_directTypes_w (b : Nat → Nat) (k : Nat → ClassId) (h : Nat) (Q : Option Nat → cS → Prop) (x1 : Int32) (σ : cS) : Prop := C_X0_directTypes_b0 b k h Q x1 σ
abbrev rmX0_directTypes : Room := { frames := 0, cells := 0, slots := 0, locals := 0 }
set_option maxHeartbeats 4000000 in
set_option maxRecDepth 100000 in
theorem cC_X0_directTypes (l : Launch) (dC : Nat → ClassId) (dI : Nat → Nat → Nat) (b : Nat → Nat) (k : Nat → ClassId) (σ : cS) (sz : Nat) (h : Nat) (x1 : Int32) (Q : Option Nat → cS → Prop) (hw : C_X0_directTypes_w b k h Q x1 σ) : Met l yX0_directTypes wsX0_directTypes rmX0_directTypes (cPc dC dI b k sz σ [.ref h, .int x1]) (va_Qq Q (cAt dC dI (va_A (cCells b k σ) sz) b k) (va_A (cCells b k σ) sz)) 0 0 (va_A (cCells b k σ) sz) := by
  refine Met.ofW (cc := cX0_directTypes) (maxL := 2) (ret := (some (.array .int))) (by decide) rfl ?_
  intro p e s m args below meth c s₁ B hml hv
  obtain ⟨hargs, hsz, hP, hK, hD0⟩ := hv
  have hts := atoms_spec (ws := wsX0_directTypes) B.pre
  have hown : s.vm.findClass RX0 = some m.cls := findClass_of_methodNamed B.named
  subst hsz
  subst hargs
  have hD := hD0.self (sz := s.heap.size)
  generalize hAe : va_A (cCells b k σ) s.heap.size = A at hD ⊢
  have hA : ∀ q : Nat, s.heap.size ≤ q → A q := fun q h => by rw [← hAe]; exact Or.inr h
  have hl := lv_entry ([.ref h, .int x1]) (n := 2) (Nat.le_of_ble_eq_true rfl)
  rw [lg_entry_eq]
  generalize (lg_sl ([.ref h, .int x1]) ++ List.replicate (2 - (lg_sl ([.ref h, .int x1])).length) Slot.unset).toArray = ls at hl ⊢
  have hl : lv_has ls 2 [(0, .ref h), (1, .int x1)] := hl
  unfold C_X0_directTypes_w at hw
  exact cB_X0_directTypes_0 ⟨B.exec, B.bytes, hml, hown, hts⟩ B.returns B.notSynchronized ⟨Nat.le_of_ble_eq_true rfl, Nat.le_of_ble_eq_true rfl⟩ hK hA x1 σ s.heap [] ls (lv_sub hl [0, 1] rfl) ⟨hP, hD, va_S.rf⟩ hw
def C_X5_isAnnotationOf_b21 (b : Nat → Nat) (k : Nat → ClassId) (h : Nat) (Q : Int32 → cS → Prop) (y0 : Int32) (σ : cS) : Prop :=
 zb y0 ∧ Q y0 σ
set_option maxHeartbeats 4000000 in
set_option maxRecDepth 100000 in
theorem cB_X5_isAnnotationOf_21 {h : Nat} {Q : Int32 → cS → Prop} (X : CallFix p m c cX5_isAnnotationOf 2 s args wsX5_isAnnotationOf RX5) (hr : meth.sig.returnType = (some .boolean)) (hlk : meth.locks = false) (hR : 0 ≤ R.frames ∧ 0 ≤ R.locals) (hK : cK dC dI k s) (hA : ∀ q, s.heap.size ≤ q → A q) (y0 : Int32) (σ : cS) (H : Heap) (locs : List Loc) (ls : Array Slot) (hl : lv_has ls 2 [(0, .ref h)]) (hO : cO dC dI b k A s.heap σ H locs) (hw : C_X5_isAnnotationOf_b21 b k h Q y0 σ) : W p l e R s m args below meth c H locs 0 0 (MQ below (va_Qi Q (cAt dC dI A b k) A) args s 0 0 A) (F0 m 21 ls [.int y0]) := by
  unfold C_X5_isAnnotationOf_b21 at hw
  obtain ⟨hz, hw⟩ := hw
  exact W.zret (v := y0) X.1 X.2.1 hr hz (fun t ht hW => ⟨⟨y0, σ, rfl, hw, cO_end hO hK ht hW⟩, hO.2.2.F ht⟩) hO.2.2.2.2 dX5_isAnnotationOf_21 hlk
def C_X5_isAnnotationOf_b20 (b : Nat → Nat) (k : Nat → ClassId) (h : Nat) (Q : Int32 → cS → Prop) (σ : cS) : Prop :=
 C_X5_isAnnotationOf_b21 b k h Q (0 : Int32) σ
set_option maxHeartbeats 4000000 in
set_option maxRecDepth 100000 in
theorem cB_X5_isAnnotationOf_20 {h : Nat} {Q : Int32 → cS → Prop} (X : CallFix p m c cX5_isAnnotationOf 2 s args wsX5_isAnnotationOf RX5) (hr : meth.sig.returnType = (some .boolean)) (hlk : meth.locks = false) (hR : 0 ≤ R.frames ∧ 0 ≤ R.locals) (hK : cK dC dI k s) (hA : ∀ q, s.heap.size ≤ q → A q) (σ : cS) (H : Heap) (locs : List Loc) (ls : Array Slot) (hl : lv_has ls 2 [(0, .ref h)]) (hO : cO dC dI b k A s.heap σ H locs) (hw : C_X5_isAnnotationOf_b20 b k h Q σ) : W p l e R s m args below meth c H locs 0 0 (MQ below (va_Qi Q (cAt dC dI A b k) A) args s 0 0 A) (F0 m 20 ls []) := by
  unfold C_X5_isAnnotationOf_b20 at hw
  refine lv_iconst (v := 0) X.1 X.2.1 dX5_isAnnotationOf_20 (by decide) ?_
  exact cB_X5_isAnnotationOf_21 X hr hlk hR hK hA (0 : Int32) σ H locs ls (lv_sub hl [0] rfl) hO hw
def C_X5_isAnnotationOf_b0 (b : Nat → Nat) (k : Nat → ClassId) (h : Nat) (Q : Int32 → cS → Prop) (x1 : Int32) (σ : cS) : Prop :=
 ∃ v1 : Int32, pI σ.2.2.2.2 (some h) 5 0 v1 ∧ (¬ v1 = (5 : Int32) → C_X5_isAnnotationOf_b20 b k h Q σ) ∧ (v1 = (5 : Int32) → ∃ v9 : Int32, pI σ.2.2.2.2 (some h) 5 1 v9 ∧ (¬ v9 = x1 → C_X5_isAnnotationOf_b20 b k h Q σ) ∧ (v9 = x1 → C_X5_isAnnotationOf_b21 b k h Q (1 : Int32) σ))
set_option maxHeartbeats 4000000 in
set_option maxRecDepth 100000 in
theorem cB_X5_isAnnotationOf_0 {h : Nat} {Q : Int32 → cS → Prop} (X : CallFix p m c cX5_isAnnotationOf 2 s args wsX5_isAnnotationOf RX5) (hr : meth.sig.returnType = (some .boolean)) (hlk : meth.locks = false) (hR : 0 ≤ R.frames ∧ 0 ≤ R.locals) (hK : cK dC dI k s) (hA : ∀ q, s.heap.size ≤ q → A q) (x1 : Int32) (σ : cS) (H : Heap) (locs : List Loc) (ls : Array Slot) (hl : lv_has ls 2 [(0, .ref h), (1, .int x1)]) (hO : cO dC dI b k A s.heap σ H locs) (hw : C_X5_isAnnotationOf_b0 b k h Q x1 σ) : W p l e R s m args below meth c H locs 0 0 (MQ below (va_Qi Q (cAt dC dI A b k) A) args s 0 0 A) (F0 m 0 ls []) := by
  unfold C_X5_isAnnotationOf_b0 at hw
  refine lv_aload_n X.1 X.2.1 dX5_isAnnotationOf_0 rfl (lv_at hl 0 rfl) ?_
  obtain ⟨v1, g1, hw⟩ := hw
  refine cg_X5_kind X fX5_X5_kind hK hO g1 dX5_isAnnotationOf_1 ?_
  refine lv_iconst (v := 5) X.1 X.2.1 dX5_isAnnotationOf_4 (by decide) ?_
  refine lv_icmp_ne (tgt := 20) X.1 X.2.1 dX5_isAnnotationOf_5 rfl (fun hc9 => ?_) (fun hc9 => ?_)
  · have hw := hw.1 hc9
    exact cB_X5_isAnnotationOf_20 X hr hlk hR hK hA σ H locs ls (lv_sub hl [0] rfl) hO hw
  · have hw := hw.2 hc9
    refine lv_aload_n X.1 X.2.1 dX5_isAnnotationOf_8 rfl (lv_at hl 0 rfl) ?_
    obtain ⟨v9, g9, hw⟩ := hw
    refine cg_X5_number X fX5_X5_number hK hO g9 dX5_isAnnotationOf_9 ?_
    refine lv_iload_n X.1 X.2.1 dX5_isAnnotationOf_12 rfl (lv_at hl 1 rfl) ?_
    refine lv_icmp_ne (tgt := 20) X.1 X.2.1 dX5_isAnnotationOf_13 rfl (fun hc9 => ?_) (fun hc9 => ?_)
    · have hw := hw.1 hc9
      exact cB_X5_isAnnotationOf_20 X hr hlk hR hK hA σ H locs ls (lv_sub hl [0] rfl) hO hw
    · have hw := hw.2 hc9
      refine lv_iconst (v := 1) X.1 X.2.1 dX5_isAnnotationOf_16 (by decide) ?_
      refine lv_goto (tgt := 21) X.1 X.2.1 dX5_isAnnotationOf_17 rfl ?_
      exact cB_X5_isAnnotationOf_21 X hr hlk hR hK hA (1 : Int32) σ H locs ls (lv_sub hl [0] rfl) hO hw
def C_X5_isAnnotationOf_w (b : Nat → Nat) (k : Nat → ClassId) (h : Nat) (Q : Int32 → cS → Prop) (x1 : Int32) (σ : cS) : Prop := C_X5_isAnnotationOf_b0 b k h Q x1 σ
abbrev rmX5_isAnnotationOf : Room := { frames := 0, cells := 0, slots := 0, locals := 0 }
set_option maxHeartbeats 4000000 in
set_option maxRecDepth 100000 in
theorem cC_X5_isAnnotationOf (l : Launch) (dC : Nat → ClassId) (dI : Nat → Nat → Nat) (b : Nat → Nat) (k : Nat → ClassId) (σ : cS) (sz : Nat) (h : Nat) (x1 : Int32) (Q : Int32 → cS → Prop) (hw : C_X5_isAnnotationOf_w b k h Q x1 σ) : Met l yX5_isAnnotationOf wsX5_isAnnotationOf rmX5_isAnnotationOf (cPc dC dI b k sz σ [.ref h, .int x1]) (va_Qi Q (cAt dC dI (va_A (cCells b k σ) sz) b k) (va_A (cCells b k σ) sz)) 0 0 (va_A (cCells b k σ) sz) := by
  refine Met.ofW (cc := cX5_isAnnotationOf) (maxL := 2) (ret := (some .boolean)) (by decide) rfl ?_
  intro p e s m args below meth c s₁ B hml hv
  obtain ⟨hargs, hsz, hP, hK, hD0⟩ := hv
  have hts := atoms_spec (ws := wsX5_isAnnotationOf) B.pre
  have hown : s.vm.findClass RX5 = some m.cls := findClass_of_methodNamed B.named
  subst hsz
  subst hargs
  have hD := hD0.self (sz := s.heap.size)
  generalize hAe : va_A (cCells b k σ) s.heap.size = A at hD ⊢
  have hA : ∀ q : Nat, s.heap.size ≤ q → A q := fun q h => by rw [← hAe]; exact Or.inr h
  have hl := lv_entry ([.ref h, .int x1]) (n := 2) (Nat.le_of_ble_eq_true rfl)
  rw [lg_entry_eq]
  generalize (lg_sl ([.ref h, .int x1]) ++ List.replicate (2 - (lg_sl ([.ref h, .int x1])).length) Slot.unset).toArray = ls at hl ⊢
  have hl : lv_has ls 2 [(0, .ref h), (1, .int x1)] := hl
  unfold C_X5_isAnnotationOf_w at hw
  exact cB_X5_isAnnotationOf_0 ⟨B.exec, B.bytes, hml, hown, hts⟩ B.returns B.notSynchronized ⟨Nat.le_of_ble_eq_true rfl, Nat.le_of_ble_eq_true rfl⟩ hK hA x1 σ s.heap [] ls (lv_sub hl [0, 1] rfl) ⟨hP, hD, va_S.rf⟩ hw
def C_X0_firstAnnotation_b2_s (b : Nat → Nat) (k : Nat → ClassId) (h : Nat) (Q : Option Nat → cS → Prop) (K2 : Int32 → Int32 → cS → Prop) (x1 : Int32) (x2 : Int32) (σ : cS) : Prop :=
 ∃ v4 : Option Nat, pR σ.2.2.2.2 (some h) 0 4 v4 ∧ ∃ (n7 : Nat) (f7 : Nat → Option Nat), pQ σ.2.2.2.2 v4 (k 3) n7 f7 ∧ ((Int32.ofNat n7) ≤ x2 → Q none σ) ∧ (¬ (Int32.ofNat n7) ≤ x2 → ∃ v12 : Option Nat, pR σ.2.2.2.2 (some h) 0 4 v12 ∧ ∃ (n16 : Nat) (f16 : Nat → Option Nat), pQ σ.2.2.2.2 v12 (k 3) n16 f16 ∧ vp_in x2 n16 ∧ ∃ a18 : Nat, pX σ.2.2.2.2 (f16 x2.toNatClampNeg) 5 a18 ∧ C_X5_isAnnotationOf_w b k a18 (fun r18 t18 => (r18 = 0 → ∀ v31 : Int32, v31 = x2 + (1 : Int32) → K2 x1 v31 t18) ∧ (¬ r18 = 0 → ∃ v25 : Option Nat, pR t18.2.2.2.2 (some h) 0 4 v25 ∧ ∃ (n29 : Nat) (f29 : Nat → Option Nat), pQ t18.2.2.2.2 v25 (k 3) n29 f29 ∧ vp_in x2 n29 ∧ Q (f29 x2.toNatClampNeg) t18)) x1 σ)
def C_X0_firstAnnotation_b2_f (b : Nat → Nat) (k : Nat → ClassId) (h : Nat) (Q : Option Nat → cS → Prop) : (Int32 × Int32 × cS → Prop) → Int32 × Int32 × cS → Prop :=
 fun K z => C_X0_firstAnnotation_b2_s b k h Q (fun x1 x2 σ => K (x1, x2, σ)) z.1 z.2.1 z.2.2
def C_X0_firstAnnotation_b2 (b : Nat → Nat) (k : Nat → ClassId) (h : Nat) (Q : Option Nat → cS → Prop) (x1 : Int32) (x2 : Int32) (σ : cS) : Prop := ∃ n, fx (C_X0_firstAnnotation_b2_f b k h Q ) n (x1, x2, σ)
set_option maxHeartbeats 4000000 in
set_option maxRecDepth 100000 in
theorem cB_X0_firstAnnotation_2 {h : Nat} {Q : Option Nat → cS → Prop} (X : CallFix p m c cX0_firstAnnotation 3 s args wsX0_firstAnnotation RX0) (hr : meth.sig.returnType = (some (.object "ClassFileIndex$Value"))) (hlk : meth.locks = false) (hR : 1 ≤ R.frames ∧ 21 ≤ R.locals) (hK : cK dC dI k s) (hA : ∀ q, s.heap.size ≤ q → A q) : ∀ (n : Nat) (x1 : Int32) (x2 : Int32) (σ : cS) (H : Heap) (locs : List Loc) (ls : Array Slot), lv_has ls 3 [(0, .ref h), (1, .int x1), (2, .int x2)] → cO dC dI b k A s.heap σ H locs → fx (C_X0_firstAnnotation_b2_f b k h Q ) n (x1, x2, σ) → W p l e R s m args below meth c H locs 0 0 (MQ below (va_Qq Q (cAt dC dI A b k) A) args s 0 0 A) (F0 m 2 ls []) := by
  intro n
  induction n with
  | zero => intro x1 x2 σ H locs ls hl hO hw; exact False.elim hw
  | succ n k2 =>
    intro x1 x2 σ H locs ls hl hO hw
    have hw : C_X0_firstAnnotation_b2_s b k h Q (fun x1 x2 σ => fx (C_X0_firstAnnotation_b2_f b k h Q ) n (x1, x2, σ)) x1 x2 σ := hw
    unfold C_X0_firstAnnotation_b2_s at hw
    refine lv_iload_n X.1 X.2.1 dX0_firstAnnotation_2 rfl (lv_at hl 2 rfl) ?_
    refine lv_aload_n X.1 X.2.1 dX0_firstAnnotation_3 rfl (lv_at hl 0 rfl) ?_
    obtain ⟨v4, g4, hw⟩ := hw
    refine cg_X0_annotations X fX0_X0_annotations hK hO g4 dX0_firstAnnotation_4 ?_
    obtain ⟨n7, f7, g7, hw⟩ := hw
    refine clenQ X.1 X.2.1 hK hO g7 dX0_firstAnnotation_7 ?_
    refine lv_icmp_ge (tgt := 37) X.1 X.2.1 dX0_firstAnnotation_8 rfl (fun hc9 => ?_) (fun hc9 => ?_)
    · have hw := hw.1 hc9
      refine lv_null X.1 X.2.1 dX0_firstAnnotation_37 ?_
      exact W.aret (v := va_rf none) X.1 X.2.1 hr (Or.inl ⟨_, rfl⟩) (va_rf_or _) (fun t ht hW => ⟨⟨none, σ, rfl, hw, cO_end hO hK ht hW⟩, hO.2.2.F ht⟩) hO.2.2.2.2 dX0_firstAnnotation_38 hlk
    · have hw := hw.2 hc9
      refine lv_aload_n X.1 X.2.1 dX0_firstAnnotation_11 rfl (lv_at hl 0 rfl) ?_
      obtain ⟨v12, g12, hw⟩ := hw
      refine cg_X0_annotations X fX0_X0_annotations hK hO g12 dX0_firstAnnotation_12 ?_
      refine lv_iload_n X.1 X.2.1 dX0_firstAnnotation_15 rfl (lv_at hl 2 rfl) ?_
      obtain ⟨n16, f16, g16, k16, hw⟩ := hw
      refine caaload X.1 X.2.1 hK hO g16 k16 dX0_firstAnnotation_16 ?_
      refine lv_iload_n X.1 X.2.1 dX0_firstAnnotation_17 rfl (lv_at hl 1 rfl) ?_
      obtain ⟨a18, z18, hw⟩ := hw
      refine c_calliO (rest := []) (As := [.int x1]) X (cC_X5_isAnnotationOf l dC dI b k σ H.size a18 x1 _ hw) (cwV 1 X.2.2.2.2 gX0_X5_isAnnotationOf rfl rfl rfl hdX5_isAnnotationOf ⟨Nat.le_trans (by decide) hR.1, Nat.le_trans (by decide) hR.2⟩) (cRecvP hK hO z18 rfl) z18.1 hK hA hO rfl hl.1 rfl (Nat.le_of_ble_eq_true rfl) dX0_firstAnnotation_18 (Nat.zero_le _) (Nat.zero_le _) (fun r18 t18 H locs hO hw => ?_)
      refine lv_if_eq (tgt := 31) X.1 X.2.1 dX0_firstAnnotation_21 rfl (fun hc9 => ?_) (fun hc9 => ?_)
      · have hw := hw.1 hc9
        obtain ⟨v31, e31⟩ : ∃ z, z = x2 + (1 : Int32) := ⟨_, rfl⟩
        have hw := hw v31 e31
        refine lv_iinc (lv' := [(2, .int v31), (0, .ref h), (1, .int x1)]) (k := 2) (v := v31) X.1 X.2.1 dX0_firstAnnotation_31 hl rfl (by rw [e31]; rfl) (by decide) rfl (fun ls hl => ?_)
        refine lv_goto (tgt := 2) X.1 X.2.1 dX0_firstAnnotation_34 rfl ?_
        exact k2 x1 v31 t18 H locs ls (lv_sub hl [1, 2, 0] rfl) hO hw
      · have hw := hw.2 hc9
        refine lv_aload_n X.1 X.2.1 dX0_firstAnnotation_24 rfl (lv_at hl 0 rfl) ?_
        obtain ⟨v25, g25, hw⟩ := hw
        refine cg_X0_annotations X fX0_X0_annotations hK hO g25 dX0_firstAnnotation_25 ?_
        refine lv_iload_n X.1 X.2.1 dX0_firstAnnotation_28 rfl (lv_at hl 2 rfl) ?_
        obtain ⟨n29, f29, g29, k29, hw⟩ := hw
        refine caaload X.1 X.2.1 hK hO g29 k29 dX0_firstAnnotation_29 ?_
        exact W.aret (v := va_rf (f29 x2.toNatClampNeg)) X.1 X.2.1 hr (Or.inl ⟨_, rfl⟩) (va_rf_or _) (fun t ht hW => ⟨⟨(f29 x2.toNatClampNeg), t18, rfl, hw, cO_end hO hK ht hW⟩, hO.2.2.F ht⟩) hO.2.2.2.2 dX0_firstAnnotation_30 hlk
def C_X0_firstAnnotation_b0 (b : Nat → Nat) (k : Nat → ClassId) (h : Nat) (Q : Option Nat → cS → Prop) (x1 : Int32) (σ : cS) : Prop :=
 C_X0_firstAnnotation_b2 b k h Q x1 (0 : Int32) σ
set_option maxHeartbeats 4000000 in
set_option maxRecDepth 100000 in
theorem cB_X0_firstAnnotation_0 {h : Nat} {Q : Option Nat → cS → Prop} (X : CallFix p m c cX0_firstAnnotation 3 s args wsX0_firstAnnotation RX0) (hr : meth.sig.returnType = (some (.object "ClassFileIndex$Value"))) (hlk : meth.locks = false) (hR : 1 ≤ R.frames ∧ 21 ≤ R.locals) (hK : cK dC dI k s) (hA : ∀ q, s.heap.size ≤ q → A q) (x1 : Int32) (σ : cS) (H : Heap) (locs : List Loc) (ls : Array Slot) (hl : lv_has ls 3 [(0, .ref h), (1, .int x1)]) (hO : cO dC dI b k A s.heap σ H locs) (hw : C_X0_firstAnnotation_b0 b k h Q x1 σ) : W p l e R s m args below meth c H locs 0 0 (MQ below (va_Qq Q (cAt dC dI A b k) A) args s 0 0 A) (F0 m 0 ls []) := by
  unfold C_X0_firstAnnotation_b0 at hw
  refine lv_iconst (v := 0) X.1 X.2.1 dX0_firstAnnotation_0 (by decide) ?_
  refine lv_istore_n (lv' := [(2, .int (0 : Int32)), (0, .ref h), (1, .int x1)]) X.1 X.2.1 dX0_firstAnnotation_1 rfl hl (by decide) rfl (fun ls hl => ?_)
  obtain ⟨n, hw⟩ := hw
  exact cB_X0_firstAnnotation_2 X hr hlk hR hK hA n x1 (0 : Int32) σ H locs ls (lv_sub hl [1, 2, 0] rfl) hO hw
def C_X0_firstAnnotation_w (b : Nat → Nat) (k : Nat → ClassId) (h : Nat) (Q : Option Nat → cS → Prop) (x1 : Int32) (σ : cS) : Prop := C_X0_firstAnnotation_b0 b k h Q x1 σ
abbrev rmX0_firstAnnotation : Room := { frames := 1, cells := 0, slots := 0, locals := 21 }
set_option maxHeartbeats 4000000 in
set_option maxRecDepth 100000 in
theorem cC_X0_firstAnnotation (l : Launch) (dC : Nat → ClassId) (dI : Nat → Nat → Nat) (b : Nat → Nat) (k : Nat → ClassId) (σ : cS) (sz : Nat) (h : Nat) (x1 : Int32) (Q : Option Nat → cS → Prop) (hw : C_X0_firstAnnotation_w b k h Q x1 σ) : Met l yX0_firstAnnotation wsX0_firstAnnotation rmX0_firstAnnotation (cPc dC dI b k sz σ [.ref h, .int x1]) (va_Qq Q (cAt dC dI (va_A (cCells b k σ) sz) b k) (va_A (cCells b k σ) sz)) 0 0 (va_A (cCells b k σ) sz) := by
  refine Met.ofW (cc := cX0_firstAnnotation) (maxL := 3) (ret := (some (.object "ClassFileIndex$Value"))) (by decide) rfl ?_
  intro p e s m args below meth c s₁ B hml hv
  obtain ⟨hargs, hsz, hP, hK, hD0⟩ := hv
  have hts := atoms_spec (ws := wsX0_firstAnnotation) B.pre
  have hown : s.vm.findClass RX0 = some m.cls := findClass_of_methodNamed B.named
  subst hsz
  subst hargs
  have hD := hD0.self (sz := s.heap.size)
  generalize hAe : va_A (cCells b k σ) s.heap.size = A at hD ⊢
  have hA : ∀ q : Nat, s.heap.size ≤ q → A q := fun q h => by rw [← hAe]; exact Or.inr h
  have hl := lv_entry ([.ref h, .int x1]) (n := 3) (Nat.le_of_ble_eq_true rfl)
  rw [lg_entry_eq]
  generalize (lg_sl ([.ref h, .int x1]) ++ List.replicate (3 - (lg_sl ([.ref h, .int x1])).length) Slot.unset).toArray = ls at hl ⊢
  have hl : lv_has ls 3 [(0, .ref h), (1, .int x1)] := hl
  unfold C_X0_firstAnnotation_w at hw
  exact cB_X0_firstAnnotation_0 ⟨B.exec, B.bytes, hml, hown, hts⟩ B.returns B.notSynchronized ⟨Nat.le_of_ble_eq_true rfl, Nat.le_of_ble_eq_true rfl⟩ hK hA x1 σ s.heap [] ls (lv_sub hl [0, 1] rfl) ⟨hP, hD, va_S.rf⟩ hw
def C_X2_nth_b26 (b : Nat → Nat) (k : Nat → ClassId) (h : Nat) (Q : Option Nat → cS → Prop) (y0 : Option Nat) (σ : cS) : Prop :=
 Q y0 σ
set_option maxHeartbeats 4000000 in
set_option maxRecDepth 100000 in
theorem cB_X2_nth_26 {h : Nat} {Q : Option Nat → cS → Prop} (X : CallFix p m c cX2_nth 2 s args wsX2_nth RX2) (hr : meth.sig.returnType = (some (.object "ClassFileIndex$Value"))) (hlk : meth.locks = false) (hR : 0 ≤ R.frames ∧ 0 ≤ R.locals) (hK : cK dC dI k s) (hA : ∀ q, s.heap.size ≤ q → A q) (y0 : Option Nat) (σ : cS) (H : Heap) (locs : List Loc) (ls : Array Slot) (hl : lv_has ls 2 [(0, .ref h)]) (hO : cO dC dI b k A s.heap σ H locs) (hw : C_X2_nth_b26 b k h Q y0 σ) : W p l e R s m args below meth c H locs 0 0 (MQ below (va_Qq Q (cAt dC dI A b k) A) args s 0 0 A) (F0 m 26 ls [va_rf y0]) := by
  unfold C_X2_nth_b26 at hw
  exact W.aret (v := va_rf y0) X.1 X.2.1 hr (Or.inl ⟨_, rfl⟩) (va_rf_or _) (fun t ht hW => ⟨⟨y0, σ, rfl, hw, cO_end hO hK ht hW⟩, hO.2.2.F ht⟩) hO.2.2.2.2 dX2_nth_26 hlk
def C_X2_nth_b25 (b : Nat → Nat) (k : Nat → ClassId) (h : Nat) (Q : Option Nat → cS → Prop) (σ : cS) : Prop :=
 C_X2_nth_b26 b k h Q none σ
set_option maxHeartbeats 4000000 in
set_option maxRecDepth 100000 in
theorem cB_X2_nth_25 {h : Nat} {Q : Option Nat → cS → Prop} (X : CallFix p m c cX2_nth 2 s args wsX2_nth RX2) (hr : meth.sig.returnType = (some (.object "ClassFileIndex$Value"))) (hlk : meth.locks = false) (hR : 0 ≤ R.frames ∧ 0 ≤ R.locals) (hK : cK dC dI k s) (hA : ∀ q, s.heap.size ≤ q → A q) (σ : cS) (H : Heap) (locs : List Loc) (ls : Array Slot) (hl : lv_has ls 2 [(0, .ref h)]) (hO : cO dC dI b k A s.heap σ H locs) (hw : C_X2_nth_b25 b k h Q σ) : W p l e R s m args below meth c H locs 0 0 (MQ below (va_Qq Q (cAt dC dI A b k) A) args s 0 0 A) (F0 m 25 ls []) := by
  unfold C_X2_nth_b25 at hw
  refine lv_null X.1 X.2.1 dX2_nth_25 ?_
  exact cB_X2_nth_26 X hr hlk hR hK hA none σ H locs ls (lv_sub hl [0] rfl) hO hw
def C_X2_nth_b0 (b : Nat → Nat) (k : Nat → ClassId) (h : Nat) (Q : Option Nat → cS → Prop) (x1 : Int32) (σ : cS) : Prop :=
 (x1 < (1 : Int32) → C_X2_nth_b25 b k h Q σ) ∧ (¬ x1 < (1 : Int32) → ∃ v7 : Option Nat, pR σ.2.2.2.2 (some h) 2 1 v7 ∧ ∃ (n10 : Nat) (f10 : Nat → Option Nat), pQ σ.2.2.2.2 v7 (k 3) n10 f10 ∧ ((Int32.ofNat n10) < x1 → C_X2_nth_b25 b k h Q σ) ∧ (¬ (Int32.ofNat n10) < x1 → ∃ v15 : Option Nat, pR σ.2.2.2.2 (some h) 2 1 v15 ∧ ∃ (n21 : Nat) (f21 : Nat → Option Nat), pQ σ.2.2.2.2 v15 (k 3) n21 f21 ∧ vp_in (x1 - (1 : Int32)) n21 ∧ C_X2_nth_b26 b k h Q (f21 (x1 - (1 : Int32)).toNatClampNeg) σ))
set_option maxHeartbeats 4000000 in
set_option maxRecDepth 100000 in
theorem cB_X2_nth_0 {h : Nat} {Q : Option Nat → cS → Prop} (X : CallFix p m c cX2_nth 2 s args wsX2_nth RX2) (hr : meth.sig.returnType = (some (.object "ClassFileIndex$Value"))) (hlk : meth.locks = false) (hR : 0 ≤ R.frames ∧ 0 ≤ R.locals) (hK : cK dC dI k s) (hA : ∀ q, s.heap.size ≤ q → A q) (x1 : Int32) (σ : cS) (H : Heap) (locs : List Loc) (ls : Array Slot) (hl : lv_has ls 2 [(0, .ref h), (1, .int x1)]) (hO : cO dC dI b k A s.heap σ H locs) (hw : C_X2_nth_b0 b k h Q x1 σ) : W p l e R s m args below meth c H locs 0 0 (MQ below (va_Qq Q (cAt dC dI A b k) A) args s 0 0 A) (F0 m 0 ls []) := by
  unfold C_X2_nth_b0 at hw
  refine lv_iload_n X.1 X.2.1 dX2_nth_0 rfl (lv_at hl 1 rfl) ?_
  refine lv_iconst (v := 1) X.1 X.2.1 dX2_nth_1 (by decide) ?_
  refine lv_icmp_lt (tgt := 25) X.1 X.2.1 dX2_nth_2 rfl (fun hc9 => ?_) (fun hc9 => ?_)
  · have hw := hw.1 hc9
    exact cB_X2_nth_25 X hr hlk hR hK hA σ H locs ls (lv_sub hl [0] rfl) hO hw
  · have hw := hw.2 hc9
    refine lv_iload_n X.1 X.2.1 dX2_nth_5 rfl (lv_at hl 1 rfl) ?_
    refine lv_aload_n X.1 X.2.1 dX2_nth_6 rfl (lv_at hl 0 rfl) ?_
    obtain ⟨v7, g7, hw⟩ := hw
    refine cg_X2_values X fX2_X2_values hK hO g7 dX2_nth_7 ?_
    obtain ⟨n10, f10, g10, hw⟩ := hw
    refine clenQ X.1 X.2.1 hK hO g10 dX2_nth_10 ?_
    refine lv_icmp_gt (tgt := 25) X.1 X.2.1 dX2_nth_11 rfl (fun hc9 => ?_) (fun hc9 => ?_)
    · have hw := hw.1 hc9
      exact cB_X2_nth_25 X hr hlk hR hK hA σ H locs ls (lv_sub hl [0] rfl) hO hw
    · have hw := hw.2 hc9
      refine lv_aload_n X.1 X.2.1 dX2_nth_14 rfl (lv_at hl 0 rfl) ?_
      obtain ⟨v15, g15, hw⟩ := hw
      refine cg_X2_values X fX2_X2_values hK hO g15 dX2_nth_15 ?_
      refine lv_iload_n X.1 X.2.1 dX2_nth_18 rfl (lv_at hl 1 rfl) ?_
      refine lv_iconst (v := 1) X.1 X.2.1 dX2_nth_19 (by decide) ?_
      refine lv_isub X.1 X.2.1 dX2_nth_20 ?_
      obtain ⟨n21, f21, g21, k21, hw⟩ := hw
      refine caaload X.1 X.2.1 hK hO g21 k21 dX2_nth_21 ?_
      refine lv_goto (tgt := 26) X.1 X.2.1 dX2_nth_22 rfl ?_
      exact cB_X2_nth_26 X hr hlk hR hK hA (f21 (x1 - (1 : Int32)).toNatClampNeg) σ H locs ls (lv_sub hl [0] rfl) hO hw
def C_X2_nth_w (b : Nat → Nat) (k : Nat → ClassId) (h : Nat) (Q : Option Nat → cS → Prop) (x1 : Int32) (σ : cS) : Prop := C_X2_nth_b0 b k h Q x1 σ
abbrev rmX2_nth : Room := { frames := 0, cells := 0, slots := 0, locals := 0 }
set_option maxHeartbeats 4000000 in
set_option maxRecDepth 100000 in
theorem cC_X2_nth (l : Launch) (dC : Nat → ClassId) (dI : Nat → Nat → Nat) (b : Nat → Nat) (k : Nat → ClassId) (σ : cS) (sz : Nat) (h : Nat) (x1 : Int32) (Q : Option Nat → cS → Prop) (hw : C_X2_nth_w b k h Q x1 σ) : Met l yX2_nth wsX2_nth rmX2_nth (cPc dC dI b k sz σ [.ref h, .int x1]) (va_Qq Q (cAt dC dI (va_A (cCells b k σ) sz) b k) (va_A (cCells b k σ) sz)) 0 0 (va_A (cCells b k σ) sz) := by
  refine Met.ofW (cc := cX2_nth) (maxL := 2) (ret := (some (.object "ClassFileIndex$Value"))) (by decide) rfl ?_
  intro p e s m args below meth c s₁ B hml hv
  obtain ⟨hargs, hsz, hP, hK, hD0⟩ := hv
  have hts := atoms_spec (ws := wsX2_nth) B.pre
  have hown : s.vm.findClass RX2 = some m.cls := findClass_of_methodNamed B.named
  subst hsz
  subst hargs
  have hD := hD0.self (sz := s.heap.size)
  generalize hAe : va_A (cCells b k σ) s.heap.size = A at hD ⊢
  have hA : ∀ q : Nat, s.heap.size ≤ q → A q := fun q h => by rw [← hAe]; exact Or.inr h
  have hl := lv_entry ([.ref h, .int x1]) (n := 2) (Nat.le_of_ble_eq_true rfl)
  rw [lg_entry_eq]
  generalize (lg_sl ([.ref h, .int x1]) ++ List.replicate (2 - (lg_sl ([.ref h, .int x1])).length) Slot.unset).toArray = ls at hl ⊢
  have hl : lv_has ls 2 [(0, .ref h), (1, .int x1)] := hl
  unfold C_X2_nth_w at hw
  exact cB_X2_nth_0 ⟨B.exec, B.bytes, hml, hown, hts⟩ B.returns B.notSynchronized ⟨Nat.le_of_ble_eq_true rfl, Nat.le_of_ble_eq_true rfl⟩ hK hA x1 σ s.heap [] ls (lv_sub hl [0, 1] rfl) ⟨hP, hD, va_S.rf⟩ hw
def C_X5_contained_b21 (b : Nat → Nat) (k : Nat → ClassId) (h : Nat) (Q : Int32 → cS → Prop) (σ : cS) : Prop :=
 Q (0 : Int32) σ
set_option maxHeartbeats 4000000 in
set_option maxRecDepth 100000 in
theorem cB_X5_contained_21 {h : Nat} {Q : Int32 → cS → Prop} (X : CallFix p m c cX5_contained 6 s args wsX5_contained RX5) (hr : meth.sig.returnType = (some .int)) (hlk : meth.locks = false) (hR : 1 ≤ R.frames ∧ 21 ≤ R.locals) (hK : cK dC dI k s) (hA : ∀ q, s.heap.size ≤ q → A q) (σ : cS) (H : Heap) (locs : List Loc) (ls : Array Slot) (hl : lv_has ls 6 [(0, .ref h)]) (hO : cO dC dI b k A s.heap σ H locs) (hw : C_X5_contained_b21 b k h Q σ) : W p l e R s m args below meth c H locs 0 0 (MQ below (va_Qi Q (cAt dC dI A b k) A) args s 0 0 A) (F0 m 21 ls []) := by
  unfold C_X5_contained_b21 at hw
  refine lv_iconst (v := 0) X.1 X.2.1 dX5_contained_21 (by decide) ?_
  exact W.iret (v := (0 : Int32)) X.1 X.2.1 hr (fun t ht hW => ⟨⟨(0 : Int32), σ, rfl, hw, cO_end hO hK ht hW⟩, hO.2.2.F ht⟩) hO.2.2.2.2 dX5_contained_22 hlk
def C_X5_contained_b69 (b : Nat → Nat) (k : Nat → ClassId) (h : Nat) (Q : Int32 → cS → Prop) (K28 : Int32 → Option Nat → Int32 → Int32 → cS → Prop) (x1 : Int32) (x2 : Option Nat) (x3 : Int32) (x4 : Int32) (σ : cS) : Prop :=
 ∀ v69 : Int32, v69 = x4 + (1 : Int32) → K28 x1 x2 x3 v69 σ
set_option maxHeartbeats 4000000 in
set_option maxRecDepth 100000 in
theorem cB_X5_contained_69 {h : Nat} {Q : Int32 → cS → Prop} {K28 : Int32 → Option Nat → Int32 → Int32 → cS → Prop} (X : CallFix p m c cX5_contained 6 s args wsX5_contained RX5) (hr : meth.sig.returnType = (some .int)) (hlk : meth.locks = false) (hR : 1 ≤ R.frames ∧ 21 ≤ R.locals) (hK : cK dC dI k s) (hA : ∀ q, s.heap.size ≤ q → A q) (k28 : ∀ (x1 : Int32) (x2 : Option Nat) (x3 : Int32) (x4 : Int32) (σ : cS) (H : Heap) (locs : List Loc) (ls : Array Slot), lv_has ls 6 [(0, .ref h), (1, .int x1), (2, va_rf x2), (3, .int x3), (4, .int x4)] → cO dC dI b k A s.heap σ H locs → K28 x1 x2 x3 x4 σ → W p l e R s m args below meth c H locs 0 0 (MQ below (va_Qi Q (cAt dC dI A b k) A) args s 0 0 A) (F0 m 28 ls [])) (x1 : Int32) (x2 : Option Nat) (x3 : Int32) (x4 : Int32) (σ : cS) (H : Heap) (locs : List Loc) (ls : Array Slot) (hl : lv_has ls 6 [(0, .ref h), (1, .int x1), (2, va_rf x2), (3, .int x3), (4, .int x4)]) (hO : cO dC dI b k A s.heap σ H locs) (hw : C_X5_contained_b69 b k h Q K28 x1 x2 x3 x4 σ) : W p l e R s m args below meth c H locs 0 0 (MQ below (va_Qi Q (cAt dC dI A b k) A) args s 0 0 A) (F0 m 69 ls []) := by
  unfold C_X5_contained_b69 at hw
  obtain ⟨v69, e69⟩ : ∃ z, z = x4 + (1 : Int32) := ⟨_, rfl⟩
  have hw := hw v69 e69
  refine lv_iinc (lv' := [(4, .int v69), (0, .ref h), (1, .int x1), (2, va_rf x2), (3, .int x3)]) (k := 4) (v := v69) X.1 X.2.1 dX5_contained_69 hl rfl (by rw [e69]; rfl) (by decide) rfl (fun ls hl => ?_)
  refine lv_goto (tgt := 28) X.1 X.2.1 dX5_contained_72 rfl ?_
  exact k28 x1 x2 x3 v69 σ H locs ls (lv_sub hl [1, 2, 3, 4, 0] rfl) hO hw
def C_X5_contained_b28_s (b : Nat → Nat) (k : Nat → ClassId) (h : Nat) (Q : Int32 → cS → Prop) (K28 : Int32 → Option Nat → Int32 → Int32 → cS → Prop) (x1 : Int32) (x2 : Option Nat) (x3 : Int32) (x4 : Int32) (σ : cS) : Prop :=
 ∃ v31 : Option Nat, pR σ.2.2.2.2 x2 5 2 v31 ∧ ∃ v34 : Option Nat, pR σ.2.2.2.2 v31 2 1 v34 ∧ ∃ (n37 : Nat) (f37 : Nat → Option Nat), pQ σ.2.2.2.2 v34 (k 3) n37 f37 ∧ ((Int32.ofNat n37) < x4 → Q x3 σ) ∧ (¬ (Int32.ofNat n37) < x4 → ∃ v42 : Option Nat, pR σ.2.2.2.2 x2 5 2 v42 ∧ ∃ a47 : Nat, pX σ.2.2.2.2 v42 2 a47 ∧ C_X2_nth_w b k a47 (fun r47 t47 => (r47 = none → C_X5_contained_b69 b k h Q K28 x1 x2 x3 x4 t47) ∧ (¬ r47 = none → ∃ a60 : Nat, pX t47.2.2.2.2 r47 5 a60 ∧ C_X5_isAnnotationOf_w b k a60 (fun r60 t60 => (r60 = 0 → C_X5_contained_b69 b k h Q K28 x1 x2 x3 x4 t60) ∧ (¬ r60 = 0 → ∀ v66 : Int32, v66 = x3 + (1 : Int32) → C_X5_contained_b69 b k h Q K28 x1 x2 v66 x4 t60)) x1 t47)) x4 σ)
def C_X5_contained_b28_f (b : Nat → Nat) (k : Nat → ClassId) (h : Nat) (Q : Int32 → cS → Prop) : (Int32 × Option Nat × Int32 × Int32 × cS → Prop) → Int32 × Option Nat × Int32 × Int32 × cS → Prop :=
 fun K z => C_X5_contained_b28_s b k h Q (fun x1 x2 x3 x4 σ => K (x1, x2, x3, x4, σ)) z.1 z.2.1 z.2.2.1 z.2.2.2.1 z.2.2.2.2
def C_X5_contained_b28 (b : Nat → Nat) (k : Nat → ClassId) (h : Nat) (Q : Int32 → cS → Prop) (x1 : Int32) (x2 : Option Nat) (x3 : Int32) (x4 : Int32) (σ : cS) : Prop := ∃ n, fx (C_X5_contained_b28_f b k h Q ) n (x1, x2, x3, x4, σ)
set_option maxHeartbeats 4000000 in
set_option maxRecDepth 100000 in
theorem cB_X5_contained_28 {h : Nat} {Q : Int32 → cS → Prop} (X : CallFix p m c cX5_contained 6 s args wsX5_contained RX5) (hr : meth.sig.returnType = (some .int)) (hlk : meth.locks = false) (hR : 1 ≤ R.frames ∧ 21 ≤ R.locals) (hK : cK dC dI k s) (hA : ∀ q, s.heap.size ≤ q → A q) : ∀ (n : Nat) (x1 : Int32) (x2 : Option Nat) (x3 : Int32) (x4 : Int32) (σ : cS) (H : Heap) (locs : List Loc) (ls : Array Slot), lv_has ls 6 [(0, .ref h), (1, .int x1), (2, va_rf x2), (3, .int x3), (4, .int x4)] → cO dC dI b k A s.heap σ H locs → fx (C_X5_contained_b28_f b k h Q ) n (x1, x2, x3, x4, σ) → W p l e R s m args below meth c H locs 0 0 (MQ below (va_Qi Q (cAt dC dI A b k) A) args s 0 0 A) (F0 m 28 ls []) := by
  intro n
  induction n with
  | zero => intro x1 x2 x3 x4 σ H locs ls hl hO hw; exact False.elim hw
  | succ n k28 =>
    intro x1 x2 x3 x4 σ H locs ls hl hO hw
    have hw : C_X5_contained_b28_s b k h Q (fun x1 x2 x3 x4 σ => fx (C_X5_contained_b28_f b k h Q ) n (x1, x2, x3, x4, σ)) x1 x2 x3 x4 σ := hw
    unfold C_X5_contained_b28_s at hw
    refine lv_iload X.1 X.2.1 dX5_contained_28 (lv_at hl 4 rfl) ?_
    refine lv_aload_nO X.1 X.2.1 dX5_contained_30 rfl (lv_at hl 2 rfl) ?_
    obtain ⟨v31, g31, hw⟩ := hw
    refine cg_X5_parts X fX5_X5_parts hK hO g31 dX5_contained_31 ?_
    obtain ⟨v34, g34, hw⟩ := hw
    refine cg_X2_values X fX5_X2_values hK hO g34 dX5_contained_34 ?_
    obtain ⟨n37, f37, g37, hw⟩ := hw
    refine clenQ X.1 X.2.1 hK hO g37 dX5_contained_37 ?_
    refine lv_icmp_gt (tgt := 75) X.1 X.2.1 dX5_contained_38 rfl (fun hc9 => ?_) (fun hc9 => ?_)
    · have hw := hw.1 hc9
      refine lv_iload_n X.1 X.2.1 dX5_contained_75 rfl (lv_at hl 3 rfl) ?_
      exact W.iret (v := x3) X.1 X.2.1 hr (fun t ht hW => ⟨⟨x3, σ, rfl, hw, cO_end hO hK ht hW⟩, hO.2.2.F ht⟩) hO.2.2.2.2 dX5_contained_76 hlk
    · have hw := hw.2 hc9
      refine lv_aload_nO X.1 X.2.1 dX5_contained_41 rfl (lv_at hl 2 rfl) ?_
      obtain ⟨v42, g42, hw⟩ := hw
      refine cg_X5_parts X fX5_X5_parts hK hO g42 dX5_contained_42 ?_
      refine lv_iload X.1 X.2.1 dX5_contained_45 (lv_at hl 4 rfl) ?_
      obtain ⟨a47, z47, hw⟩ := hw
      refine c_callqO (rest := []) (As := [.int x4]) X (cC_X2_nth l dC dI b k σ H.size a47 x4 _ hw) (cwV 1 X.2.2.2.2 gX5_X2_nth rfl rfl rfl hdX2_nth ⟨Nat.le_trans (by decide) hR.1, Nat.le_trans (by decide) hR.2⟩) (cRecvP hK hO z47 rfl) z47.1 hK hA hO rfl hl.1 rfl (Nat.le_of_ble_eq_true rfl) dX5_contained_47 (Nat.zero_le _) (Nat.zero_le _) (fun r47 t47 H locs hO hw => ?_)
      refine lv_astoreO (o := r47) (lv' := [(5, va_rf r47), (0, .ref h), (1, .int x1), (2, va_rf x2), (3, .int x3), (4, .int x4)]) X.1 X.2.1 dX5_contained_50 hl (by decide) rfl (fun ls hl => ?_)
      refine lv_aloadO X.1 X.2.1 dX5_contained_52 (lv_at hl 0 rfl) ?_
      refine lv_ifnullO (o := r47) (tgt := 69) X.1 X.2.1 dX5_contained_54 rfl (fun hc9 => ?_) (fun hc9 => ?_)
      · have hw := hw.1 hc9
        exact cB_X5_contained_69 X hr hlk hR hK hA k28 x1 x2 x3 x4 t47 H locs ls (lv_sub hl [1, 2, 3, 4, 5] rfl) hO hw
      · have hw := hw.2 hc9
        refine lv_aloadO X.1 X.2.1 dX5_contained_57 (lv_at hl 0 rfl) ?_
        refine lv_iload_n X.1 X.2.1 dX5_contained_59 rfl (lv_at hl 2 rfl) ?_
        obtain ⟨a60, z60, hw⟩ := hw
        refine c_calliO (rest := []) (As := [.int x1]) X (cC_X5_isAnnotationOf l dC dI b k t47 H.size a60 x1 _ hw) (cwV 1 X.2.2.2.2 gX5_X5_isAnnotationOf rfl rfl rfl hdX5_isAnnotationOf ⟨Nat.le_trans (by decide) hR.1, Nat.le_trans (by decide) hR.2⟩) (cRecvP hK hO z60 rfl) z60.1 hK hA hO rfl hl.1 rfl (Nat.le_of_ble_eq_true rfl) dX5_contained_60 (Nat.zero_le _) (Nat.zero_le _) (fun r60 t60 H locs hO hw => ?_)
        refine lv_if_eq (tgt := 69) X.1 X.2.1 dX5_contained_63 rfl (fun hc9 => ?_) (fun hc9 => ?_)
        · have hw := hw.1 hc9
          exact cB_X5_contained_69 X hr hlk hR hK hA k28 x1 x2 x3 x4 t60 H locs ls (lv_sub hl [1, 2, 3, 4, 5] rfl) hO hw
        · have hw := hw.2 hc9
          obtain ⟨v66, e66⟩ : ∃ z, z = x3 + (1 : Int32) := ⟨_, rfl⟩
          have hw := hw v66 e66
          refine lv_iinc (lv' := [(3, .int v66), (5, va_rf r47), (0, .ref h), (1, .int x1), (2, va_rf x2), (4, .int x4)]) (k := 4) (v := v66) X.1 X.2.1 dX5_contained_66 hl rfl (by rw [e66]; rfl) (by decide) (by cases x2 <;> rfl) (fun ls hl => ?_)
          exact cB_X5_contained_69 X hr hlk hR hK hA k28 x1 x2 v66 x4 t60 H locs ls (lv_sub hl [2, 3, 4, 0, 5] rfl) hO hw
def C_X5_contained_b0 (b : Nat → Nat) (k : Nat → ClassId) (h : Nat) (Q : Int32 → cS → Prop) (x1 : Int32) (σ : cS) : Prop :=
 ∃ v1 : Option Nat, pR σ.2.2.2.2 (some h) 5 2 v1 ∧ ∃ a5 : Nat, pX σ.2.2.2.2 v1 2 a5 ∧ C_X2_nth_w b k a5 (fun r5 t5 => (r5 = none → C_X5_contained_b21 b k h Q t5) ∧ (¬ r5 = none → ∃ v14 : Int32, pI t5.2.2.2.2 r5 5 0 v14 ∧ (v14 = (4 : Int32) → C_X5_contained_b28 b k h Q x1 r5 (0 : Int32) (1 : Int32) t5) ∧ (¬ v14 = (4 : Int32) → C_X5_contained_b21 b k h Q t5))) (1 : Int32) σ
set_option maxHeartbeats 4000000 in
set_option maxRecDepth 100000 in
theorem cB_X5_contained_0 {h : Nat} {Q : Int32 → cS → Prop} (X : CallFix p m c cX5_contained 6 s args wsX5_contained RX5) (hr : meth.sig.returnType = (some .int)) (hlk : meth.locks = false) (hR : 1 ≤ R.frames ∧ 21 ≤ R.locals) (hK : cK dC dI k s) (hA : ∀ q, s.heap.size ≤ q → A q) (x1 : Int32) (σ : cS) (H : Heap) (locs : List Loc) (ls : Array Slot) (hl : lv_has ls 6 [(0, .ref h), (1, .int x1)]) (hO : cO dC dI b k A s.heap σ H locs) (hw : C_X5_contained_b0 b k h Q x1 σ) : W p l e R s m args below meth c H locs 0 0 (MQ below (va_Qi Q (cAt dC dI A b k) A) args s 0 0 A) (F0 m 0 ls []) := by
  unfold C_X5_contained_b0 at hw
  refine lv_aload_n X.1 X.2.1 dX5_contained_0 rfl (lv_at hl 0 rfl) ?_
  obtain ⟨v1, g1, hw⟩ := hw
  refine cg_X5_parts X fX5_X5_parts hK hO g1 dX5_contained_1 ?_
  refine lv_iconst (v := 1) X.1 X.2.1 dX5_contained_4 (by decide) ?_
  obtain ⟨a5, z5, hw⟩ := hw
  refine c_callqO (rest := []) (As := [.int (1 : Int32)]) X (cC_X2_nth l dC dI b k σ H.size a5 (1 : Int32) _ hw) (cwV 1 X.2.2.2.2 gX5_X2_nth rfl rfl rfl hdX2_nth ⟨Nat.le_trans (by decide) hR.1, Nat.le_trans (by decide) hR.2⟩) (cRecvP hK hO z5 rfl) z5.1 hK hA hO rfl hl.1 rfl (Nat.le_of_ble_eq_true rfl) dX5_contained_5 (Nat.zero_le _) (Nat.zero_le _) (fun r5 t5 H locs hO hw => ?_)
  refine lv_astore_nO (o := r5) (lv' := [(2, va_rf r5), (0, .ref h), (1, .int x1)]) X.1 X.2.1 dX5_contained_8 rfl hl (by decide) rfl (fun ls hl => ?_)
  refine lv_aload_nO X.1 X.2.1 dX5_contained_9 rfl (lv_at hl 0 rfl) ?_
  refine lv_ifnullO (o := r5) (tgt := 21) X.1 X.2.1 dX5_contained_10 rfl (fun hc9 => ?_) (fun hc9 => ?_)
  · have hw := hw.1 hc9
    exact cB_X5_contained_21 X hr hlk hR hK hA t5 H locs ls (lv_sub hl [1] rfl) hO hw
  · have hw := hw.2 hc9
    refine lv_aload_nO X.1 X.2.1 dX5_contained_13 rfl (lv_at hl 0 rfl) ?_
    obtain ⟨v14, g14, hw⟩ := hw
    refine cg_X5_kind X fX5_X5_kind hK hO g14 dX5_contained_14 ?_
    refine lv_iconst (v := 4) X.1 X.2.1 dX5_contained_17 (by decide) ?_
    refine lv_icmp_eq (tgt := 23) X.1 X.2.1 dX5_contained_18 rfl (fun hc9 => ?_) (fun hc9 => ?_)
    · have hw := hw.1 hc9
      refine lv_iconst (v := 0) X.1 X.2.1 dX5_contained_23 (by decide) ?_
      refine lv_istore_n (lv' := [(3, .int (0 : Int32)), (2, va_rf r5), (0, .ref h), (1, .int x1)]) X.1 X.2.1 dX5_contained_24 rfl hl (by decide) (by cases r5 <;> rfl) (fun ls hl => ?_)
      refine lv_iconst (v := 1) X.1 X.2.1 dX5_contained_25 (by decide) ?_
      refine lv_istore (lv' := [(4, .int (1 : Int32)), (3, .int (0 : Int32)), (2, va_rf r5), (0, .ref h), (1, .int x1)]) X.1 X.2.1 dX5_contained_26 hl (by decide) rfl (fun ls hl => ?_)
      obtain ⟨n, hw⟩ := hw
      exact cB_X5_contained_28 X hr hlk hR hK hA n x1 r5 (0 : Int32) (1 : Int32) t5 H locs ls (lv_sub hl [3, 4, 2, 1, 0] rfl) hO hw
    · have hw := hw.2 hc9
      exact cB_X5_contained_21 X hr hlk hR hK hA t5 H locs ls (lv_sub hl [1] rfl) hO hw
def C_X5_contained_w (b : Nat → Nat) (k : Nat → ClassId) (h : Nat) (Q : Int32 → cS → Prop) (x1 : Int32) (σ : cS) : Prop := C_X5_contained_b0 b k h Q x1 σ
abbrev rmX5_contained : Room := { frames := 1, cells := 0, slots := 0, locals := 21 }
set_option maxHeartbeats 4000000 in
set_option maxRecDepth 100000 in
theorem cC_X5_contained (l : Launch) (dC : Nat → ClassId) (dI : Nat → Nat → Nat) (b : Nat → Nat) (k : Nat → ClassId) (σ : cS) (sz : Nat) (h : Nat) (x1 : Int32) (Q : Int32 → cS → Prop) (hw : C_X5_contained_w b k h Q x1 σ) : Met l yX5_contained wsX5_contained rmX5_contained (cPc dC dI b k sz σ [.ref h, .int x1]) (va_Qi Q (cAt dC dI (va_A (cCells b k σ) sz) b k) (va_A (cCells b k σ) sz)) 0 0 (va_A (cCells b k σ) sz) := by
  refine Met.ofW (cc := cX5_contained) (maxL := 6) (ret := (some .int)) (by decide) rfl ?_
  intro p e s m args below meth c s₁ B hml hv
  obtain ⟨hargs, hsz, hP, hK, hD0⟩ := hv
  have hts := atoms_spec (ws := wsX5_contained) B.pre
  have hown : s.vm.findClass RX5 = some m.cls := findClass_of_methodNamed B.named
  subst hsz
  subst hargs
  have hD := hD0.self (sz := s.heap.size)
  generalize hAe : va_A (cCells b k σ) s.heap.size = A at hD ⊢
  have hA : ∀ q : Nat, s.heap.size ≤ q → A q := fun q h => by rw [← hAe]; exact Or.inr h
  have hl := lv_entry ([.ref h, .int x1]) (n := 6) (Nat.le_of_ble_eq_true rfl)
  rw [lg_entry_eq]
  generalize (lg_sl ([.ref h, .int x1]) ++ List.replicate (6 - (lg_sl ([.ref h, .int x1])).length) Slot.unset).toArray = ls at hl ⊢
  have hl : lv_has ls 6 [(0, .ref h), (1, .int x1)] := hl
  unfold C_X5_contained_w at hw
  exact cB_X5_contained_0 ⟨B.exec, B.bytes, hml, hown, hts⟩ B.returns B.notSynchronized ⟨Nat.le_of_ble_eq_true rfl, Nat.le_of_ble_eq_true rfl⟩ hK hA x1 σ s.heap [] ls (lv_sub hl [0, 1] rfl) ⟨hP, hD, va_S.rf⟩ hw
def C_X0_annotationsOf_b65 (b : Nat → Nat) (k : Nat → ClassId) (h : Nat) (Q : Int32 → cS → Prop) (K5 : Int32 → Int32 → Int32 → Int32 → cS → Prop) (x1 : Int32) (x2 : Int32) (x3 : Int32) (x4 : Int32) (σ : cS) : Prop :=
 ∀ v65 : Int32, v65 = x4 + (1 : Int32) → K5 x1 x2 x3 v65 σ
set_option maxHeartbeats 4000000 in
set_option maxRecDepth 100000 in
theorem cB_X0_annotationsOf_65 {h : Nat} {Q : Int32 → cS → Prop} {K5 : Int32 → Int32 → Int32 → Int32 → cS → Prop} (X : CallFix p m c cX0_annotationsOf 5 s args wsX0_annotationsOf RX0) (hr : meth.sig.returnType = (some .int)) (hlk : meth.locks = false) (hR : 2 ≤ R.frames ∧ 46 ≤ R.locals) (hK : cK dC dI k s) (hA : ∀ q, s.heap.size ≤ q → A q) (k5 : ∀ (x1 : Int32) (x2 : Int32) (x3 : Int32) (x4 : Int32) (σ : cS) (H : Heap) (locs : List Loc) (ls : Array Slot), lv_has ls 5 [(0, .ref h), (1, .int x1), (2, .int x2), (3, .int x3), (4, .int x4)] → cO dC dI b k A s.heap σ H locs → K5 x1 x2 x3 x4 σ → W p l e R s m args below meth c H locs 0 0 (MQ below (va_Qi Q (cAt dC dI A b k) A) args s 0 0 A) (F0 m 5 ls [])) (x1 : Int32) (x2 : Int32) (x3 : Int32) (x4 : Int32) (σ : cS) (H : Heap) (locs : List Loc) (ls : Array Slot) (hl : lv_has ls 5 [(0, .ref h), (1, .int x1), (2, .int x2), (3, .int x3), (4, .int x4)]) (hO : cO dC dI b k A s.heap σ H locs) (hw : C_X0_annotationsOf_b65 b k h Q K5 x1 x2 x3 x4 σ) : W p l e R s m args below meth c H locs 0 0 (MQ below (va_Qi Q (cAt dC dI A b k) A) args s 0 0 A) (F0 m 65 ls []) := by
  unfold C_X0_annotationsOf_b65 at hw
  obtain ⟨v65, e65⟩ : ∃ z, z = x4 + (1 : Int32) := ⟨_, rfl⟩
  have hw := hw v65 e65
  refine lv_iinc (lv' := [(4, .int v65), (0, .ref h), (1, .int x1), (2, .int x2), (3, .int x3)]) (k := 4) (v := v65) X.1 X.2.1 dX0_annotationsOf_65 hl rfl (by rw [e65]; rfl) (by decide) rfl (fun ls hl => ?_)
  refine lv_goto (tgt := 5) X.1 X.2.1 dX0_annotationsOf_68 rfl ?_
  exact k5 x1 x2 x3 v65 σ H locs ls (lv_sub hl [1, 2, 3, 4, 0] rfl) hO hw
def C_X0_annotationsOf_b32 (b : Nat → Nat) (k : Nat → ClassId) (h : Nat) (Q : Int32 → cS → Prop) (K5 : Int32 → Int32 → Int32 → Int32 → cS → Prop) (x1 : Int32) (x2 : Int32) (x3 : Int32) (x4 : Int32) (σ : cS) : Prop :=
 (x2 = (-1 : Int32) → C_X0_annotationsOf_b65 b k h Q K5 x1 x2 x3 x4 σ) ∧ (¬ x2 = (-1 : Int32) → ∃ v38 : Option Nat, pR σ.2.2.2.2 (some h) 0 4 v38 ∧ ∃ (n43 : Nat) (f43 : Nat → Option Nat), pQ σ.2.2.2.2 v38 (k 3) n43 f43 ∧ vp_in x4 n43 ∧ ∃ a45 : Nat, pX σ.2.2.2.2 (f43 x4.toNatClampNeg) 5 a45 ∧ C_X5_isAnnotationOf_w b k a45 (fun r45 t45 => (r45 = 0 → C_X0_annotationsOf_b65 b k h Q K5 x1 x2 x3 x4 t45) ∧ (¬ r45 = 0 → ∃ v53 : Option Nat, pR t45.2.2.2.2 (some h) 0 4 v53 ∧ ∃ (n58 : Nat) (f58 : Nat → Option Nat), pQ t45.2.2.2.2 v53 (k 3) n58 f58 ∧ vp_in x4 n58 ∧ ∃ a60 : Nat, pX t45.2.2.2.2 (f58 x4.toNatClampNeg) 5 a60 ∧ C_X5_contained_w b k a60 (fun r60 t60 => ∀ v64 : Int32, v64 = (x3 + r60) → C_X0_annotationsOf_b65 b k h Q K5 x1 x2 v64 x4 t60) x1 t45)) x2 σ)
set_option maxHeartbeats 4000000 in
set_option maxRecDepth 100000 in
theorem cB_X0_annotationsOf_32 {h : Nat} {Q : Int32 → cS → Prop} {K5 : Int32 → Int32 → Int32 → Int32 → cS → Prop} (X : CallFix p m c cX0_annotationsOf 5 s args wsX0_annotationsOf RX0) (hr : meth.sig.returnType = (some .int)) (hlk : meth.locks = false) (hR : 2 ≤ R.frames ∧ 46 ≤ R.locals) (hK : cK dC dI k s) (hA : ∀ q, s.heap.size ≤ q → A q) (k5 : ∀ (x1 : Int32) (x2 : Int32) (x3 : Int32) (x4 : Int32) (σ : cS) (H : Heap) (locs : List Loc) (ls : Array Slot), lv_has ls 5 [(0, .ref h), (1, .int x1), (2, .int x2), (3, .int x3), (4, .int x4)] → cO dC dI b k A s.heap σ H locs → K5 x1 x2 x3 x4 σ → W p l e R s m args below meth c H locs 0 0 (MQ below (va_Qi Q (cAt dC dI A b k) A) args s 0 0 A) (F0 m 5 ls [])) (x1 : Int32) (x2 : Int32) (x3 : Int32) (x4 : Int32) (σ : cS) (H : Heap) (locs : List Loc) (ls : Array Slot) (hl : lv_has ls 5 [(0, .ref h), (1, .int x1), (2, .int x2), (3, .int x3), (4, .int x4)]) (hO : cO dC dI b k A s.heap σ H locs) (hw : C_X0_annotationsOf_b32 b k h Q K5 x1 x2 x3 x4 σ) : W p l e R s m args below meth c H locs 0 0 (MQ below (va_Qi Q (cAt dC dI A b k) A) args s 0 0 A) (F0 m 32 ls []) := by
  unfold C_X0_annotationsOf_b32 at hw
  refine lv_iload_n X.1 X.2.1 dX0_annotationsOf_32 rfl (lv_at hl 2 rfl) ?_
  refine lv_iconst (v := -1) X.1 X.2.1 dX0_annotationsOf_33 (by decide) ?_
  refine lv_icmp_eq (tgt := 65) X.1 X.2.1 dX0_annotationsOf_34 rfl (fun hc9 => ?_) (fun hc9 => ?_)
  · have hw := hw.1 hc9
    exact cB_X0_annotationsOf_65 X hr hlk hR hK hA k5 x1 x2 x3 x4 σ H locs ls (lv_sub hl [0, 1, 2, 3, 4] rfl) hO hw
  · have hw := hw.2 hc9
    refine lv_aload_n X.1 X.2.1 dX0_annotationsOf_37 rfl (lv_at hl 0 rfl) ?_
    obtain ⟨v38, g38, hw⟩ := hw
    refine cg_X0_annotations X fX0_X0_annotations hK hO g38 dX0_annotationsOf_38 ?_
    refine lv_iload X.1 X.2.1 dX0_annotationsOf_41 (lv_at hl 4 rfl) ?_
    obtain ⟨n43, f43, g43, k43, hw⟩ := hw
    refine caaload X.1 X.2.1 hK hO g43 k43 dX0_annotationsOf_43 ?_
    refine lv_iload_n X.1 X.2.1 dX0_annotationsOf_44 rfl (lv_at hl 2 rfl) ?_
    obtain ⟨a45, z45, hw⟩ := hw
    refine c_calliO (rest := []) (As := [.int x2]) X (cC_X5_isAnnotationOf l dC dI b k σ H.size a45 x2 _ hw) (cwV 1 X.2.2.2.2 gX0_X5_isAnnotationOf rfl rfl rfl hdX5_isAnnotationOf ⟨Nat.le_trans (by decide) hR.1, Nat.le_trans (by decide) hR.2⟩) (cRecvP hK hO z45 rfl) z45.1 hK hA hO rfl hl.1 rfl (Nat.le_of_ble_eq_true rfl) dX0_annotationsOf_45 (Nat.zero_le _) (Nat.zero_le _) (fun r45 t45 H locs hO hw => ?_)
    refine lv_if_eq (tgt := 65) X.1 X.2.1 dX0_annotationsOf_48 rfl (fun hc9 => ?_) (fun hc9 => ?_)
    · have hw := hw.1 hc9
      exact cB_X0_annotationsOf_65 X hr hlk hR hK hA k5 x1 x2 x3 x4 t45 H locs ls (lv_sub hl [0, 1, 2, 3, 4] rfl) hO hw
    · have hw := hw.2 hc9
      refine lv_iload_n X.1 X.2.1 dX0_annotationsOf_51 rfl (lv_at hl 3 rfl) ?_
      refine lv_aload_n X.1 X.2.1 dX0_annotationsOf_52 rfl (lv_at hl 0 rfl) ?_
      obtain ⟨v53, g53, hw⟩ := hw
      refine cg_X0_annotations X fX0_X0_annotations hK hO g53 dX0_annotationsOf_53 ?_
      refine lv_iload X.1 X.2.1 dX0_annotationsOf_56 (lv_at hl 4 rfl) ?_
      obtain ⟨n58, f58, g58, k58, hw⟩ := hw
      refine caaload X.1 X.2.1 hK hO g58 k58 dX0_annotationsOf_58 ?_
      refine lv_iload_n X.1 X.2.1 dX0_annotationsOf_59 rfl (lv_at hl 1 rfl) ?_
      obtain ⟨a60, z60, hw⟩ := hw
      refine c_calliO (rest := [.int x3]) (As := [.int x1]) X (cC_X5_contained l dC dI b k t45 H.size a60 x1 _ hw) (cwV 1 X.2.2.2.2 gX0_X5_contained rfl rfl rfl hdX5_contained ⟨Nat.le_trans (by decide) hR.1, Nat.le_trans (by decide) hR.2⟩) (cRecvP hK hO z60 rfl) z60.1 hK hA hO rfl hl.1 rfl (Nat.le_of_ble_eq_true rfl) dX0_annotationsOf_60 (Nat.zero_le _) (Nat.zero_le _) (fun r60 t60 H locs hO hw => ?_)
      refine lv_iadd X.1 X.2.1 dX0_annotationsOf_63 ?_
      refine lv_topi (fun v64 e64 => ?_)
      have hw := hw v64 e64
      refine lv_istore_n (lv' := [(3, .int v64), (0, .ref h), (1, .int x1), (2, .int x2), (4, .int x4)]) X.1 X.2.1 dX0_annotationsOf_64 rfl hl (by decide) rfl (fun ls hl => ?_)
      exact cB_X0_annotationsOf_65 X hr hlk hR hK hA k5 x1 x2 v64 x4 t60 H locs ls (lv_sub hl [1, 2, 3, 0, 4] rfl) hO hw
def C_X0_annotationsOf_b5_s (b : Nat → Nat) (k : Nat → ClassId) (h : Nat) (Q : Int32 → cS → Prop) (K5 : Int32 → Int32 → Int32 → Int32 → cS → Prop) (x1 : Int32) (x2 : Int32) (x3 : Int32) (x4 : Int32) (σ : cS) : Prop :=
 ∃ v8 : Option Nat, pR σ.2.2.2.2 (some h) 0 4 v8 ∧ ∃ (n11 : Nat) (f11 : Nat → Option Nat), pQ σ.2.2.2.2 v8 (k 3) n11 f11 ∧ ((Int32.ofNat n11) ≤ x4 → Q x3 σ) ∧ (¬ (Int32.ofNat n11) ≤ x4 → ∃ v16 : Option Nat, pR σ.2.2.2.2 (some h) 0 4 v16 ∧ ∃ (n21 : Nat) (f21 : Nat → Option Nat), pQ σ.2.2.2.2 v16 (k 3) n21 f21 ∧ vp_in x4 n21 ∧ ∃ a23 : Nat, pX σ.2.2.2.2 (f21 x4.toNatClampNeg) 5 a23 ∧ C_X5_isAnnotationOf_w b k a23 (fun r23 t23 => (r23 = 0 → C_X0_annotationsOf_b32 b k h Q K5 x1 x2 x3 x4 t23) ∧ (¬ r23 = 0 → ∀ v29 : Int32, v29 = x3 + (1 : Int32) → C_X0_annotationsOf_b32 b k h Q K5 x1 x2 v29 x4 t23)) x1 σ)
def C_X0_annotationsOf_b5_f (b : Nat → Nat) (k : Nat → ClassId) (h : Nat) (Q : Int32 → cS → Prop) : (Int32 × Int32 × Int32 × Int32 × cS → Prop) → Int32 × Int32 × Int32 × Int32 × cS → Prop :=
 fun K z => C_X0_annotationsOf_b5_s b k h Q (fun x1 x2 x3 x4 σ => K (x1, x2, x3, x4, σ)) z.1 z.2.1 z.2.2.1 z.2.2.2.1 z.2.2.2.2
def C_X0_annotationsOf_b5 (b : Nat → Nat) (k : Nat → ClassId) (h : Nat) (Q : Int32 → cS → Prop) (x1 : Int32) (x2 : Int32) (x3 : Int32) (x4 : Int32) (σ : cS) : Prop := ∃ n, fx (C_X0_annotationsOf_b5_f b k h Q ) n (x1, x2, x3, x4, σ)
set_option maxHeartbeats 4000000 in
set_option maxRecDepth 100000 in
theorem cB_X0_annotationsOf_5 {h : Nat} {Q : Int32 → cS → Prop} (X : CallFix p m c cX0_annotationsOf 5 s args wsX0_annotationsOf RX0) (hr : meth.sig.returnType = (some .int)) (hlk : meth.locks = false) (hR : 2 ≤ R.frames ∧ 46 ≤ R.locals) (hK : cK dC dI k s) (hA : ∀ q, s.heap.size ≤ q → A q) : ∀ (n : Nat) (x1 : Int32) (x2 : Int32) (x3 : Int32) (x4 : Int32) (σ : cS) (H : Heap) (locs : List Loc) (ls : Array Slot), lv_has ls 5 [(0, .ref h), (1, .int x1), (2, .int x2), (3, .int x3), (4, .int x4)] → cO dC dI b k A s.heap σ H locs → fx (C_X0_annotationsOf_b5_f b k h Q ) n (x1, x2, x3, x4, σ) → W p l e R s m args below meth c H locs 0 0 (MQ below (va_Qi Q (cAt dC dI A b k) A) args s 0 0 A) (F0 m 5 ls []) := by
  intro n
  induction n with
  | zero => intro x1 x2 x3 x4 σ H locs ls hl hO hw; exact False.elim hw
  | succ n k5 =>
    intro x1 x2 x3 x4 σ H locs ls hl hO hw
    have hw : C_X0_annotationsOf_b5_s b k h Q (fun x1 x2 x3 x4 σ => fx (C_X0_annotationsOf_b5_f b k h Q ) n (x1, x2, x3, x4, σ)) x1 x2 x3 x4 σ := hw
    unfold C_X0_annotationsOf_b5_s at hw
    refine lv_iload X.1 X.2.1 dX0_annotationsOf_5 (lv_at hl 4 rfl) ?_
    refine lv_aload_n X.1 X.2.1 dX0_annotationsOf_7 rfl (lv_at hl 0 rfl) ?_
    obtain ⟨v8, g8, hw⟩ := hw
    refine cg_X0_annotations X fX0_X0_annotations hK hO g8 dX0_annotationsOf_8 ?_
    obtain ⟨n11, f11, g11, hw⟩ := hw
    refine clenQ X.1 X.2.1 hK hO g11 dX0_annotationsOf_11 ?_
    refine lv_icmp_ge (tgt := 71) X.1 X.2.1 dX0_annotationsOf_12 rfl (fun hc9 => ?_) (fun hc9 => ?_)
    · have hw := hw.1 hc9
      refine lv_iload_n X.1 X.2.1 dX0_annotationsOf_71 rfl (lv_at hl 3 rfl) ?_
      exact W.iret (v := x3) X.1 X.2.1 hr (fun t ht hW => ⟨⟨x3, σ, rfl, hw, cO_end hO hK ht hW⟩, hO.2.2.F ht⟩) hO.2.2.2.2 dX0_annotationsOf_72 hlk
    · have hw := hw.2 hc9
      refine lv_aload_n X.1 X.2.1 dX0_annotationsOf_15 rfl (lv_at hl 0 rfl) ?_
      obtain ⟨v16, g16, hw⟩ := hw
      refine cg_X0_annotations X fX0_X0_annotations hK hO g16 dX0_annotationsOf_16 ?_
      refine lv_iload X.1 X.2.1 dX0_annotationsOf_19 (lv_at hl 4 rfl) ?_
      obtain ⟨n21, f21, g21, k21, hw⟩ := hw
      refine caaload X.1 X.2.1 hK hO g21 k21 dX0_annotationsOf_21 ?_
      refine lv_iload_n X.1 X.2.1 dX0_annotationsOf_22 rfl (lv_at hl 1 rfl) ?_
      obtain ⟨a23, z23, hw⟩ := hw
      refine c_calliO (rest := []) (As := [.int x1]) X (cC_X5_isAnnotationOf l dC dI b k σ H.size a23 x1 _ hw) (cwV 1 X.2.2.2.2 gX0_X5_isAnnotationOf rfl rfl rfl hdX5_isAnnotationOf ⟨Nat.le_trans (by decide) hR.1, Nat.le_trans (by decide) hR.2⟩) (cRecvP hK hO z23 rfl) z23.1 hK hA hO rfl hl.1 rfl (Nat.le_of_ble_eq_true rfl) dX0_annotationsOf_23 (Nat.zero_le _) (Nat.zero_le _) (fun r23 t23 H locs hO hw => ?_)
      refine lv_if_eq (tgt := 32) X.1 X.2.1 dX0_annotationsOf_26 rfl (fun hc9 => ?_) (fun hc9 => ?_)
      · have hw := hw.1 hc9
        exact cB_X0_annotationsOf_32 X hr hlk hR hK hA k5 x1 x2 x3 x4 t23 H locs ls (lv_sub hl [0, 1, 2, 3, 4] rfl) hO hw
      · have hw := hw.2 hc9
        obtain ⟨v29, e29⟩ : ∃ z, z = x3 + (1 : Int32) := ⟨_, rfl⟩
        have hw := hw v29 e29
        refine lv_iinc (lv' := [(3, .int v29), (0, .ref h), (1, .int x1), (2, .int x2), (4, .int x4)]) (k := 3) (v := v29) X.1 X.2.1 dX0_annotationsOf_29 hl rfl (by rw [e29]; rfl) (by decide) rfl (fun ls hl => ?_)
        exact cB_X0_annotationsOf_32 X hr hlk hR hK hA k5 x1 x2 v29 x4 t23 H locs ls (lv_sub hl [1, 2, 3, 0, 4] rfl) hO hw
def C_X0_annotationsOf_b0 (b : Nat → Nat) (k : Nat → ClassId) (h : Nat) (Q : Int32 → cS → Prop) (x1 : Int32) (x2 : Int32) (σ : cS) : Prop :=
 C_X0_annotationsOf_b5 b k h Q x1 x2 (0 : Int32) (0 : Int32) σ
set_option maxHeartbeats 4000000 in
set_option maxRecDepth 100000 in
theorem cB_X0_annotationsOf_0 {h : Nat} {Q : Int32 → cS → Prop} (X : CallFix p m c cX0_annotationsOf 5 s args wsX0_annotationsOf RX0) (hr : meth.sig.returnType = (some .int)) (hlk : meth.locks = false) (hR : 2 ≤ R.frames ∧ 46 ≤ R.locals) (hK : cK dC dI k s) (hA : ∀ q, s.heap.size ≤ q → A q) (x1 : Int32) (x2 : Int32) (σ : cS) (H : Heap) (locs : List Loc) (ls : Array Slot) (hl : lv_has ls 5 [(0, .ref h), (1, .int x1), (2, .int x2)]) (hO : cO dC dI b k A s.heap σ H locs) (hw : C_X0_annotationsOf_b0 b k h Q x1 x2 σ) : W p l e R s m args below meth c H locs 0 0 (MQ below (va_Qi Q (cAt dC dI A b k) A) args s 0 0 A) (F0 m 0 ls []) := by
  unfold C_X0_annotationsOf_b0 at hw
  refine lv_iconst (v := 0) X.1 X.2.1 dX0_annotationsOf_0 (by decide) ?_
  refine lv_istore_n (lv' := [(3, .int (0 : Int32)), (0, .ref h), (1, .int x1), (2, .int x2)]) X.1 X.2.1 dX0_annotationsOf_1 rfl hl (by decide) rfl (fun ls hl => ?_)
  refine lv_iconst (v := 0) X.1 X.2.1 dX0_annotationsOf_2 (by decide) ?_
  refine lv_istore (lv' := [(4, .int (0 : Int32)), (3, .int (0 : Int32)), (0, .ref h), (1, .int x1), (2, .int x2)]) X.1 X.2.1 dX0_annotationsOf_3 hl (by decide) rfl (fun ls hl => ?_)
  obtain ⟨n, hw⟩ := hw
  exact cB_X0_annotationsOf_5 X hr hlk hR hK hA n x1 x2 (0 : Int32) (0 : Int32) σ H locs ls (lv_sub hl [2, 3, 4, 1, 0] rfl) hO hw
def C_X0_annotationsOf_w (b : Nat → Nat) (k : Nat → ClassId) (h : Nat) (Q : Int32 → cS → Prop) (x1 : Int32) (x2 : Int32) (σ : cS) : Prop := C_X0_annotationsOf_b0 b k h Q x1 x2 σ
abbrev rmX0_annotationsOf : Room := { frames := 2, cells := 0, slots := 0, locals := 46 }
set_option maxHeartbeats 4000000 in
set_option maxRecDepth 100000 in
theorem cC_X0_annotationsOf (l : Launch) (dC : Nat → ClassId) (dI : Nat → Nat → Nat) (b : Nat → Nat) (k : Nat → ClassId) (σ : cS) (sz : Nat) (h : Nat) (x1 : Int32) (x2 : Int32) (Q : Int32 → cS → Prop) (hw : C_X0_annotationsOf_w b k h Q x1 x2 σ) : Met l yX0_annotationsOf wsX0_annotationsOf rmX0_annotationsOf (cPc dC dI b k sz σ [.ref h, .int x1, .int x2]) (va_Qi Q (cAt dC dI (va_A (cCells b k σ) sz) b k) (va_A (cCells b k σ) sz)) 0 0 (va_A (cCells b k σ) sz) := by
  refine Met.ofW (cc := cX0_annotationsOf) (maxL := 5) (ret := (some .int)) (by decide) rfl ?_
  intro p e s m args below meth c s₁ B hml hv
  obtain ⟨hargs, hsz, hP, hK, hD0⟩ := hv
  have hts := atoms_spec (ws := wsX0_annotationsOf) B.pre
  have hown : s.vm.findClass RX0 = some m.cls := findClass_of_methodNamed B.named
  subst hsz
  subst hargs
  have hD := hD0.self (sz := s.heap.size)
  generalize hAe : va_A (cCells b k σ) s.heap.size = A at hD ⊢
  have hA : ∀ q : Nat, s.heap.size ≤ q → A q := fun q h => by rw [← hAe]; exact Or.inr h
  have hl := lv_entry ([.ref h, .int x1, .int x2]) (n := 5) (Nat.le_of_ble_eq_true rfl)
  rw [lg_entry_eq]
  generalize (lg_sl ([.ref h, .int x1, .int x2]) ++ List.replicate (5 - (lg_sl ([.ref h, .int x1, .int x2])).length) Slot.unset).toArray = ls at hl ⊢
  have hl : lv_has ls 5 [(0, .ref h), (1, .int x1), (2, .int x2)] := hl
  unfold C_X0_annotationsOf_w at hw
  exact cB_X0_annotationsOf_0 ⟨B.exec, B.bytes, hml, hown, hts⟩ B.returns B.notSynchronized ⟨Nat.le_of_ble_eq_true rfl, Nat.le_of_ble_eq_true rfl⟩ hK hA x1 x2 σ s.heap [] ls (lv_sub hl [0, 1, 2] rfl) ⟨hP, hD, va_S.rf⟩ hw
def C_X1_has_b17 (b : Nat → Nat) (k : Nat → ClassId) (Q : Int32 → cS → Prop) (y0 : Int32) (σ : cS) : Prop :=
 zb y0 ∧ Q y0 σ
set_option maxHeartbeats 4000000 in
set_option maxRecDepth 100000 in
theorem cB_X1_has_17 {Q : Int32 → cS → Prop} (X : CallFix p m c cX1_has 2 s args wsX1_has RX1) (hr : meth.sig.returnType = (some .boolean)) (hlk : meth.locks = false) (hR : 0 ≤ R.frames ∧ 0 ≤ R.locals) (hK : cK dC dI k s) (hA : ∀ q, s.heap.size ≤ q → A q) (y0 : Int32) (σ : cS) (H : Heap) (locs : List Loc) (ls : Array Slot) (hl : lv_has ls 2 [(0, .ref (b 5))]) (hO : cO dC dI b k A s.heap σ H locs) (hw : C_X1_has_b17 b k Q y0 σ) : W p l e R s m args below meth c H locs 0 0 (MQ below (va_Qi Q (cAt dC dI A b k) A) args s 0 0 A) (F0 m 17 ls [.int y0]) := by
  unfold C_X1_has_b17 at hw
  obtain ⟨hz, hw⟩ := hw
  exact W.zret (v := y0) X.1 X.2.1 hr hz (fun t ht hW => ⟨⟨y0, σ, rfl, hw, cO_end hO hK ht hW⟩, hO.2.2.F ht⟩) hO.2.2.2.2 dX1_has_17 hlk
def C_X1_has_b16 (b : Nat → Nat) (k : Nat → ClassId) (Q : Int32 → cS → Prop) (σ : cS) : Prop :=
 C_X1_has_b17 b k Q (0 : Int32) σ
set_option maxHeartbeats 4000000 in
set_option maxRecDepth 100000 in
theorem cB_X1_has_16 {Q : Int32 → cS → Prop} (X : CallFix p m c cX1_has 2 s args wsX1_has RX1) (hr : meth.sig.returnType = (some .boolean)) (hlk : meth.locks = false) (hR : 0 ≤ R.frames ∧ 0 ≤ R.locals) (hK : cK dC dI k s) (hA : ∀ q, s.heap.size ≤ q → A q) (σ : cS) (H : Heap) (locs : List Loc) (ls : Array Slot) (hl : lv_has ls 2 [(0, .ref (b 5))]) (hO : cO dC dI b k A s.heap σ H locs) (hw : C_X1_has_b16 b k Q σ) : W p l e R s m args below meth c H locs 0 0 (MQ below (va_Qi Q (cAt dC dI A b k) A) args s 0 0 A) (F0 m 16 ls []) := by
  unfold C_X1_has_b16 at hw
  refine lv_iconst (v := 0) X.1 X.2.1 dX1_has_16 (by decide) ?_
  exact cB_X1_has_17 X hr hlk hR hK hA (0 : Int32) σ H locs ls (lv_sub hl [0] rfl) hO hw
def C_X1_has_b0 (b : Nat → Nat) (k : Nat → ClassId) (Q : Int32 → cS → Prop) (x1 : Int32) (σ : cS) : Prop :=
 (x1 < 0 → C_X1_has_b16 b k Q σ) ∧ (¬ x1 < 0 → ((σ.1 2) ≤ x1 → C_X1_has_b16 b k Q σ) ∧ (¬ (σ.1 2) ≤ x1 → C_X1_has_b17 b k Q (1 : Int32) σ))
set_option maxHeartbeats 4000000 in
set_option maxRecDepth 100000 in
theorem cB_X1_has_0 {Q : Int32 → cS → Prop} (X : CallFix p m c cX1_has 2 s args wsX1_has RX1) (hr : meth.sig.returnType = (some .boolean)) (hlk : meth.locks = false) (hR : 0 ≤ R.frames ∧ 0 ≤ R.locals) (hK : cK dC dI k s) (hA : ∀ q, s.heap.size ≤ q → A q) (x1 : Int32) (σ : cS) (H : Heap) (locs : List Loc) (ls : Array Slot) (hl : lv_has ls 2 [(0, .ref (b 5)), (1, .int x1)]) (hO : cO dC dI b k A s.heap σ H locs) (hw : C_X1_has_b0 b k Q x1 σ) : W p l e R s m args below meth c H locs 0 0 (MQ below (va_Qi Q (cAt dC dI A b k) A) args s 0 0 A) (F0 m 0 ls []) := by
  unfold C_X1_has_b0 at hw
  refine lv_iload_n X.1 X.2.1 dX1_has_0 rfl (lv_at hl 1 rfl) ?_
  refine lv_if_lt (tgt := 16) X.1 X.2.1 dX1_has_1 rfl (fun hc9 => ?_) (fun hc9 => ?_)
  · have hw := hw.1 hc9
    exact cB_X1_has_16 X hr hlk hR hK hA σ H locs ls (lv_sub hl [0] rfl) hO hw
  · have hw := hw.2 hc9
    refine lv_iload_n X.1 X.2.1 dX1_has_4 rfl (lv_at hl 1 rfl) ?_
    refine lv_aload_n X.1 X.2.1 dX1_has_5 rfl (lv_at hl 0 rfl) ?_
    refine cf_X1_size X fX1_X1_size hK hO dX1_has_6 ?_
    refine lv_icmp_ge (tgt := 16) X.1 X.2.1 dX1_has_9 rfl (fun hc9 => ?_) (fun hc9 => ?_)
    · have hw := hw.1 hc9
      exact cB_X1_has_16 X hr hlk hR hK hA σ H locs ls (lv_sub hl [0] rfl) hO hw
    · have hw := hw.2 hc9
      refine lv_iconst (v := 1) X.1 X.2.1 dX1_has_12 (by decide) ?_
      refine lv_goto (tgt := 17) X.1 X.2.1 dX1_has_13 rfl ?_
      exact cB_X1_has_17 X hr hlk hR hK hA (1 : Int32) σ H locs ls (lv_sub hl [0] rfl) hO hw
def C_X1_has_w (b : Nat → Nat) (k : Nat → ClassId) (Q : Int32 → cS → Prop) (x1 : Int32) (σ : cS) : Prop := C_X1_has_b0 b k Q x1 σ
abbrev rmX1_has : Room := { frames := 0, cells := 0, slots := 0, locals := 0 }
set_option maxHeartbeats 4000000 in
set_option maxRecDepth 100000 in
theorem cC_X1_has (l : Launch) (dC : Nat → ClassId) (dI : Nat → Nat → Nat) (b : Nat → Nat) (k : Nat → ClassId) (σ : cS) (sz : Nat) (x1 : Int32) (Q : Int32 → cS → Prop) (hw : C_X1_has_w b k Q x1 σ) : Met l yX1_has wsX1_has rmX1_has (cPc dC dI b k sz σ [.ref (b 5), .int x1]) (va_Qi Q (cAt dC dI (va_A (cCells b k σ) sz) b k) (va_A (cCells b k σ) sz)) 0 0 (va_A (cCells b k σ) sz) := by
  refine Met.ofW (cc := cX1_has) (maxL := 2) (ret := (some .boolean)) (by decide) rfl ?_
  intro p e s m args below meth c s₁ B hml hv
  obtain ⟨hargs, hsz, hP, hK, hD0⟩ := hv
  have hts := atoms_spec (ws := wsX1_has) B.pre
  have hown : s.vm.findClass RX1 = some m.cls := findClass_of_methodNamed B.named
  subst hsz
  subst hargs
  have hD := hD0.self (sz := s.heap.size)
  generalize hAe : va_A (cCells b k σ) s.heap.size = A at hD ⊢
  have hA : ∀ q : Nat, s.heap.size ≤ q → A q := fun q h => by rw [← hAe]; exact Or.inr h
  have hl := lv_entry ([.ref (b 5), .int x1]) (n := 2) (Nat.le_of_ble_eq_true rfl)
  rw [lg_entry_eq]
  generalize (lg_sl ([.ref (b 5), .int x1]) ++ List.replicate (2 - (lg_sl ([.ref (b 5), .int x1])).length) Slot.unset).toArray = ls at hl ⊢
  have hl : lv_has ls 2 [(0, .ref (b 5)), (1, .int x1)] := hl
  unfold C_X1_has_w at hw
  exact cB_X1_has_0 ⟨B.exec, B.bytes, hml, hown, hts⟩ B.returns B.notSynchronized ⟨Nat.le_of_ble_eq_true rfl, Nat.le_of_ble_eq_true rfl⟩ hK hA x1 σ s.heap [] ls (lv_sub hl [0, 1] rfl) ⟨hP, hD, va_S.rf⟩ hw
def C_X1_add_b0 (b : Nat → Nat) (k : Nat → ClassId) (Q : Int32 → cS → Prop) (x1 : Option Nat) (σ : cS) : Prop :=
 vp_in (σ.1 2) 16 ∧ pO σ.2.2.2.2 x1 0 ∧ ∀ t9 : cS, t9 = sFl σ (σ.1 2) x1 → ∃ v15 : Int32, pI t9.2.2.2.2 x1 0 0 v15 ∧ vp_in v15 192 ∧ ∀ t22 : cS, t22 = sA t9 3 v15 (t9.1 2) → ∀ t30 : cS, t30 = sI t22 2 ((t22.1 2) + (1 : Int32)) → Q ((t30.1 2) - (1 : Int32)) t30
set_option maxHeartbeats 4000000 in
set_option maxRecDepth 100000 in
theorem cB_X1_add_0 {Q : Int32 → cS → Prop} (X : CallFix p m c cX1_add 2 s args wsX1_add RX1) (hr : meth.sig.returnType = (some .int)) (hlk : meth.locks = false) (hR : 0 ≤ R.frames ∧ 0 ≤ R.locals) (hK : cK dC dI k s) (hA : ∀ q, s.heap.size ≤ q → A q) (x1 : Option Nat) (σ : cS) (H : Heap) (locs : List Loc) (ls : Array Slot) (hl : lv_has ls 2 [(0, .ref (b 5)), (1, va_rf x1)]) (hO : cO dC dI b k A s.heap σ H locs) (hw : C_X1_add_b0 b k Q x1 σ) : W p l e R s m args below meth c H locs 0 0 (MQ below (va_Qi Q (cAt dC dI A b k) A) args s 0 0 A) (F0 m 0 ls []) := by
  unfold C_X1_add_b0 at hw
  refine lv_aload_n X.1 X.2.1 dX1_add_0 rfl (lv_at hl 0 rfl) ?_
  refine cf_X1_files X fX1_X1_files hK hO dX1_add_1 ?_
  refine lv_aload_n X.1 X.2.1 dX1_add_4 rfl (lv_at hl 0 rfl) ?_
  refine cf_X1_size X fX1_X1_size hK hO dX1_add_5 ?_
  refine lv_aload_nO X.1 X.2.1 dX1_add_8 rfl (lv_at hl 1 rfl) ?_
  obtain ⟨g9, k9, hw⟩ := hw
  refine cs_6 X.1 X.2.1 hK hO g9 k9 dX1_add_9 (fun H locs hO => ?_)
  obtain ⟨t9, e9⟩ : ∃ z, z = sFl σ (σ.1 2) x1 := ⟨_, rfl⟩
  have hw := hw t9 e9
  rw [← e9] at hO
  refine lv_aload_n X.1 X.2.1 dX1_add_10 rfl (lv_at hl 0 rfl) ?_
  refine cf_X1_classOfText X fX1_X1_classOfText hK hO dX1_add_11 ?_
  refine lv_aload_nO X.1 X.2.1 dX1_add_14 rfl (lv_at hl 1 rfl) ?_
  obtain ⟨v15, g15, hw⟩ := hw
  refine cg_X0_name X fX1_X0_name hK hO g15 dX1_add_15 ?_
  refine lv_aload_n X.1 X.2.1 dX1_add_18 rfl (lv_at hl 0 rfl) ?_
  refine cf_X1_size X fX1_X1_size hK hO dX1_add_19 ?_
  obtain ⟨g22, hw⟩ := hw
  refine cs_7 X.1 X.2.1 hK hO g22 dX1_add_22 (fun H locs hO => ?_)
  obtain ⟨t22, e22⟩ : ∃ z, z = sA t9 3 v15 (t9.1 2) := ⟨_, rfl⟩
  have hw := hw t22 e22
  rw [← e22] at hO
  refine lv_aload_n X.1 X.2.1 dX1_add_23 rfl (lv_at hl 0 rfl) ?_
  refine lv_dup X.1 X.2.1 dX1_add_24 rfl ?_
  refine cf_X1_size X fX1_X1_size hK hO dX1_add_25 ?_
  refine lv_iconst (v := 1) X.1 X.2.1 dX1_add_28 (by decide) ?_
  refine lv_iadd X.1 X.2.1 dX1_add_29 ?_
  refine cp_X1_size X fX1_X1_size hK hO dX1_add_30 (fun H locs hO => ?_)
  obtain ⟨t30, e30⟩ : ∃ z, z = sI t22 2 ((t22.1 2) + (1 : Int32)) := ⟨_, rfl⟩
  have hw := hw t30 e30
  rw [← e30] at hO
  refine lv_aload_n X.1 X.2.1 dX1_add_33 rfl (lv_at hl 0 rfl) ?_
  refine cf_X1_size X fX1_X1_size hK hO dX1_add_34 ?_
  refine lv_iconst (v := 1) X.1 X.2.1 dX1_add_37 (by decide) ?_
  refine lv_isub X.1 X.2.1 dX1_add_38 ?_
  exact W.iret (v := ((t30.1 2) - (1 : Int32))) X.1 X.2.1 hr (fun t ht hW => ⟨⟨((t30.1 2) - (1 : Int32)), t30, rfl, hw, cO_end hO hK ht hW⟩, hO.2.2.F ht⟩) hO.2.2.2.2 dX1_add_39 hlk
def C_X1_add_w (b : Nat → Nat) (k : Nat → ClassId) (Q : Int32 → cS → Prop) (x1 : Option Nat) (σ : cS) : Prop := C_X1_add_b0 b k Q x1 σ
abbrev rmX1_add : Room := { frames := 0, cells := 0, slots := 0, locals := 0 }
set_option maxHeartbeats 4000000 in
set_option maxRecDepth 100000 in
theorem cC_X1_add (l : Launch) (dC : Nat → ClassId) (dI : Nat → Nat → Nat) (b : Nat → Nat) (k : Nat → ClassId) (σ : cS) (sz : Nat) (x1 : Option Nat) (Q : Int32 → cS → Prop) (hw : C_X1_add_w b k Q x1 σ) : Met l yX1_add wsX1_add rmX1_add (cPc dC dI b k sz σ [.ref (b 5), va_rf x1]) (va_Qi Q (cAt dC dI (va_A (cCells b k σ) sz) b k) (va_A (cCells b k σ) sz)) 0 0 (va_A (cCells b k σ) sz) := by
  refine Met.ofW (cc := cX1_add) (maxL := 2) (ret := (some .int)) (by decide) rfl ?_
  intro p e s m args below meth c s₁ B hml hv
  obtain ⟨hargs, hsz, hP, hK, hD0⟩ := hv
  have hts := atoms_spec (ws := wsX1_add) B.pre
  have hown : s.vm.findClass RX1 = some m.cls := findClass_of_methodNamed B.named
  subst hsz
  subst hargs
  have hD := hD0.self (sz := s.heap.size)
  generalize hAe : va_A (cCells b k σ) s.heap.size = A at hD ⊢
  have hA : ∀ q : Nat, s.heap.size ≤ q → A q := fun q h => by rw [← hAe]; exact Or.inr h
  have hl := lv_entry ([.ref (b 5), va_rf x1]) (n := 2) (by cases x1 <;> exact Nat.le_of_ble_eq_true rfl)
  rw [lg_entry_eq]
  generalize (lg_sl ([.ref (b 5), va_rf x1]) ++ List.replicate (2 - (lg_sl ([.ref (b 5), va_rf x1])).length) Slot.unset).toArray = ls at hl ⊢
  have e9 : lv_args 0 ([.ref (b 5), va_rf x1]) = [(0, .ref (b 5)), (1, va_rf x1)] := by cases x1 <;> rfl
  have hl : lv_has ls 2 [(0, .ref (b 5)), (1, va_rf x1)] := by rw [← e9]; exact hl
  unfold C_X1_add_w at hw
  exact cB_X1_add_0 ⟨B.exec, B.bytes, hml, hown, hts⟩ B.returns B.notSynchronized ⟨Nat.le_of_ble_eq_true rfl, Nat.le_of_ble_eq_true rfl⟩ hK hA x1 σ s.heap [] ls (lv_sub hl [0, 1] rfl) ⟨hP, hD, va_S.rf⟩ hw
def C_X1_named_b21 (b : Nat → Nat) (k : Nat → ClassId) (Q : Int32 → cS → Prop) (y0 : Int32) (σ : cS) : Prop :=
 Q y0 σ
set_option maxHeartbeats 4000000 in
set_option maxRecDepth 100000 in
theorem cB_X1_named_21 {Q : Int32 → cS → Prop} (X : CallFix p m c cX1_named 2 s args wsX1_named RX1) (hr : meth.sig.returnType = (some .int)) (hlk : meth.locks = false) (hR : 0 ≤ R.frames ∧ 0 ≤ R.locals) (hK : cK dC dI k s) (hA : ∀ q, s.heap.size ≤ q → A q) (y0 : Int32) (σ : cS) (H : Heap) (locs : List Loc) (ls : Array Slot) (hl : lv_has ls 2 [(0, .ref (b 5))]) (hO : cO dC dI b k A s.heap σ H locs) (hw : C_X1_named_b21 b k Q y0 σ) : W p l e R s m args below meth c H locs 0 0 (MQ below (va_Qi Q (cAt dC dI A b k) A) args s 0 0 A) (F0 m 21 ls [.int y0]) := by
  unfold C_X1_named_b21 at hw
  exact W.iret (v := y0) X.1 X.2.1 hr (fun t ht hW => ⟨⟨y0, σ, rfl, hw, cO_end hO hK ht hW⟩, hO.2.2.F ht⟩) hO.2.2.2.2 dX1_named_21 hlk
def C_X1_named_b20 (b : Nat → Nat) (k : Nat → ClassId) (Q : Int32 → cS → Prop) (σ : cS) : Prop :=
 C_X1_named_b21 b k Q (-1 : Int32) σ
set_option maxHeartbeats 4000000 in
set_option maxRecDepth 100000 in
theorem cB_X1_named_20 {Q : Int32 → cS → Prop} (X : CallFix p m c cX1_named 2 s args wsX1_named RX1) (hr : meth.sig.returnType = (some .int)) (hlk : meth.locks = false) (hR : 0 ≤ R.frames ∧ 0 ≤ R.locals) (hK : cK dC dI k s) (hA : ∀ q, s.heap.size ≤ q → A q) (σ : cS) (H : Heap) (locs : List Loc) (ls : Array Slot) (hl : lv_has ls 2 [(0, .ref (b 5))]) (hO : cO dC dI b k A s.heap σ H locs) (hw : C_X1_named_b20 b k Q σ) : W p l e R s m args below meth c H locs 0 0 (MQ below (va_Qi Q (cAt dC dI A b k) A) args s 0 0 A) (F0 m 20 ls []) := by
  unfold C_X1_named_b20 at hw
  refine lv_iconst (v := -1) X.1 X.2.1 dX1_named_20 (by decide) ?_
  exact cB_X1_named_21 X hr hlk hR hK hA (-1 : Int32) σ H locs ls (lv_sub hl [0] rfl) hO hw
def C_X1_named_b0 (b : Nat → Nat) (k : Nat → ClassId) (Q : Int32 → cS → Prop) (x1 : Int32) (σ : cS) : Prop :=
 (x1 < 0 → C_X1_named_b20 b k Q σ) ∧ (¬ x1 < 0 → ((192 : Int32) ≤ x1 → C_X1_named_b20 b k Q σ) ∧ (¬ (192 : Int32) ≤ x1 → vp_in x1 192 ∧ C_X1_named_b21 b k Q (σ.2.1 3 x1.toNatClampNeg) σ))
set_option maxHeartbeats 4000000 in
set_option maxRecDepth 100000 in
theorem cB_X1_named_0 {Q : Int32 → cS → Prop} (X : CallFix p m c cX1_named 2 s args wsX1_named RX1) (hr : meth.sig.returnType = (some .int)) (hlk : meth.locks = false) (hR : 0 ≤ R.frames ∧ 0 ≤ R.locals) (hK : cK dC dI k s) (hA : ∀ q, s.heap.size ≤ q → A q) (x1 : Int32) (σ : cS) (H : Heap) (locs : List Loc) (ls : Array Slot) (hl : lv_has ls 2 [(0, .ref (b 5)), (1, .int x1)]) (hO : cO dC dI b k A s.heap σ H locs) (hw : C_X1_named_b0 b k Q x1 σ) : W p l e R s m args below meth c H locs 0 0 (MQ below (va_Qi Q (cAt dC dI A b k) A) args s 0 0 A) (F0 m 0 ls []) := by
  unfold C_X1_named_b0 at hw
  refine lv_iload_n X.1 X.2.1 dX1_named_0 rfl (lv_at hl 1 rfl) ?_
  refine lv_if_lt (tgt := 20) X.1 X.2.1 dX1_named_1 rfl (fun hc9 => ?_) (fun hc9 => ?_)
  · have hw := hw.1 hc9
    exact cB_X1_named_20 X hr hlk hR hK hA σ H locs ls (lv_sub hl [0] rfl) hO hw
  · have hw := hw.2 hc9
    refine lv_iload_n X.1 X.2.1 dX1_named_4 rfl (lv_at hl 1 rfl) ?_
    refine lv_sipush (v := 192) X.1 X.2.1 dX1_named_5 (by decide) ?_
    refine lv_icmp_ge (tgt := 20) X.1 X.2.1 dX1_named_8 rfl (fun hc9 => ?_) (fun hc9 => ?_)
    · have hw := hw.1 hc9
      exact cB_X1_named_20 X hr hlk hR hK hA σ H locs ls (lv_sub hl [0] rfl) hO hw
    · have hw := hw.2 hc9
      refine lv_aload_n X.1 X.2.1 dX1_named_11 rfl (lv_at hl 0 rfl) ?_
      refine cf_X1_classOfText X fX1_X1_classOfText hK hO dX1_named_12 ?_
      refine lv_iload_n X.1 X.2.1 dX1_named_15 rfl (lv_at hl 1 rfl) ?_
      obtain ⟨g16, hw⟩ := hw
      refine ca_7 X.1 X.2.1 hK hO g16 dX1_named_16 ?_
      refine lv_goto (tgt := 21) X.1 X.2.1 dX1_named_17 rfl ?_
      exact cB_X1_named_21 X hr hlk hR hK hA (σ.2.1 3 x1.toNatClampNeg) σ H locs ls (lv_sub hl [0] rfl) hO hw
def C_X1_named_w (b : Nat → Nat) (k : Nat → ClassId) (Q : Int32 → cS → Prop) (x1 : Int32) (σ : cS) : Prop := C_X1_named_b0 b k Q x1 σ
abbrev rmX1_named : Room := { frames := 0, cells := 0, slots := 0, locals := 0 }
set_option maxHeartbeats 4000000 in
set_option maxRecDepth 100000 in
theorem cC_X1_named (l : Launch) (dC : Nat → ClassId) (dI : Nat → Nat → Nat) (b : Nat → Nat) (k : Nat → ClassId) (σ : cS) (sz : Nat) (x1 : Int32) (Q : Int32 → cS → Prop) (hw : C_X1_named_w b k Q x1 σ) : Met l yX1_named wsX1_named rmX1_named (cPc dC dI b k sz σ [.ref (b 5), .int x1]) (va_Qi Q (cAt dC dI (va_A (cCells b k σ) sz) b k) (va_A (cCells b k σ) sz)) 0 0 (va_A (cCells b k σ) sz) := by
  refine Met.ofW (cc := cX1_named) (maxL := 2) (ret := (some .int)) (by decide) rfl ?_
  intro p e s m args below meth c s₁ B hml hv
  obtain ⟨hargs, hsz, hP, hK, hD0⟩ := hv
  have hts := atoms_spec (ws := wsX1_named) B.pre
  have hown : s.vm.findClass RX1 = some m.cls := findClass_of_methodNamed B.named
  subst hsz
  subst hargs
  have hD := hD0.self (sz := s.heap.size)
  generalize hAe : va_A (cCells b k σ) s.heap.size = A at hD ⊢
  have hA : ∀ q : Nat, s.heap.size ≤ q → A q := fun q h => by rw [← hAe]; exact Or.inr h
  have hl := lv_entry ([.ref (b 5), .int x1]) (n := 2) (Nat.le_of_ble_eq_true rfl)
  rw [lg_entry_eq]
  generalize (lg_sl ([.ref (b 5), .int x1]) ++ List.replicate (2 - (lg_sl ([.ref (b 5), .int x1])).length) Slot.unset).toArray = ls at hl ⊢
  have hl : lv_has ls 2 [(0, .ref (b 5)), (1, .int x1)] := hl
  unfold C_X1_named_w at hw
  exact cB_X1_named_0 ⟨B.exec, B.bytes, hml, hown, hts⟩ B.returns B.notSynchronized ⟨Nat.le_of_ble_eq_true rfl, Nat.le_of_ble_eq_true rfl⟩ hK hA x1 σ s.heap [] ls (lv_sub hl [0, 1] rfl) ⟨hP, hD, va_S.rf⟩ hw
def C_X1_superclass_b0 (b : Nat → Nat) (k : Nat → ClassId) (Q : Int32 → cS → Prop) (x1 : Int32) (σ : cS) : Prop :=
 vp_in x1 16 ∧ ∃ v7 : Int32, pI σ.2.2.2.2 (σ.2.2.1 x1.toNatClampNeg) 0 2 v7 ∧ C_X1_named_w b k (fun r10 t10 => Q r10 t10) v7 σ
set_option maxHeartbeats 4000000 in
set_option maxRecDepth 100000 in
theorem cB_X1_superclass_0 {Q : Int32 → cS → Prop} (X : CallFix p m c cX1_superclass 2 s args wsX1_superclass RX1) (hr : meth.sig.returnType = (some .int)) (hlk : meth.locks = false) (hR : 1 ≤ R.frames ∧ 21 ≤ R.locals) (hK : cK dC dI k s) (hA : ∀ q, s.heap.size ≤ q → A q) (x1 : Int32) (σ : cS) (H : Heap) (locs : List Loc) (ls : Array Slot) (hl : lv_has ls 2 [(0, .ref (b 5)), (1, .int x1)]) (hO : cO dC dI b k A s.heap σ H locs) (hw : C_X1_superclass_b0 b k Q x1 σ) : W p l e R s m args below meth c H locs 0 0 (MQ below (va_Qi Q (cAt dC dI A b k) A) args s 0 0 A) (F0 m 0 ls []) := by
  unfold C_X1_superclass_b0 at hw
  refine lv_aload_n X.1 X.2.1 dX1_superclass_0 rfl (lv_at hl 0 rfl) ?_
  refine lv_aload_n X.1 X.2.1 dX1_superclass_1 rfl (lv_at hl 0 rfl) ?_
  refine cf_X1_files X fX1_X1_files hK hO dX1_superclass_2 ?_
  refine lv_iload_n X.1 X.2.1 dX1_superclass_5 rfl (lv_at hl 1 rfl) ?_
  obtain ⟨g6, hw⟩ := hw
  refine ca_6 X.1 X.2.1 hK hO g6 dX1_superclass_6 ?_
  obtain ⟨v7, g7, hw⟩ := hw
  refine cg_X0_superName X fX1_X0_superName hK hO g7 dX1_superclass_7 ?_
  refine c_calli (rest := []) (As := [.int v7]) X (cC_X1_named l dC dI b k σ H.size v7 _ hw) (cwV 1 X.2.2.2.2 gX1_X1_named rfl rfl rfl hdX1_named ⟨Nat.le_trans (by decide) hR.1, Nat.le_trans (by decide) hR.2⟩) (cRecv_X1 hK hO) hK hA hO rfl hl.1 rfl (Nat.le_of_ble_eq_true rfl) dX1_superclass_10 (Nat.zero_le _) (Nat.zero_le _) (fun r10 t10 H locs hO hw => ?_)
  exact W.iret (v := r10) X.1 X.2.1 hr (fun t ht hW => ⟨⟨r10, t10, rfl, hw, cO_end hO hK ht hW⟩, hO.2.2.F ht⟩) hO.2.2.2.2 dX1_superclass_13 hlk
def C_X1_superclass_w (b : Nat → Nat) (k : Nat → ClassId) (Q : Int32 → cS → Prop) (x1 : Int32) (σ : cS) : Prop := C_X1_superclass_b0 b k Q x1 σ
abbrev rmX1_superclass : Room := { frames := 1, cells := 0, slots := 0, locals := 21 }
set_option maxHeartbeats 4000000 in
set_option maxRecDepth 100000 in
theorem cC_X1_superclass (l : Launch) (dC : Nat → ClassId) (dI : Nat → Nat → Nat) (b : Nat → Nat) (k : Nat → ClassId) (σ : cS) (sz : Nat) (x1 : Int32) (Q : Int32 → cS → Prop) (hw : C_X1_superclass_w b k Q x1 σ) : Met l yX1_superclass wsX1_superclass rmX1_superclass (cPc dC dI b k sz σ [.ref (b 5), .int x1]) (va_Qi Q (cAt dC dI (va_A (cCells b k σ) sz) b k) (va_A (cCells b k σ) sz)) 0 0 (va_A (cCells b k σ) sz) := by
  refine Met.ofW (cc := cX1_superclass) (maxL := 2) (ret := (some .int)) (by decide) rfl ?_
  intro p e s m args below meth c s₁ B hml hv
  obtain ⟨hargs, hsz, hP, hK, hD0⟩ := hv
  have hts := atoms_spec (ws := wsX1_superclass) B.pre
  have hown : s.vm.findClass RX1 = some m.cls := findClass_of_methodNamed B.named
  subst hsz
  subst hargs
  have hD := hD0.self (sz := s.heap.size)
  generalize hAe : va_A (cCells b k σ) s.heap.size = A at hD ⊢
  have hA : ∀ q : Nat, s.heap.size ≤ q → A q := fun q h => by rw [← hAe]; exact Or.inr h
  have hl := lv_entry ([.ref (b 5), .int x1]) (n := 2) (Nat.le_of_ble_eq_true rfl)
  rw [lg_entry_eq]
  generalize (lg_sl ([.ref (b 5), .int x1]) ++ List.replicate (2 - (lg_sl ([.ref (b 5), .int x1])).length) Slot.unset).toArray = ls at hl ⊢
  have hl : lv_has ls 2 [(0, .ref (b 5)), (1, .int x1)] := hl
  unfold C_X1_superclass_w at hw
  exact cB_X1_superclass_0 ⟨B.exec, B.bytes, hml, hown, hts⟩ B.returns B.notSynchronized ⟨Nat.le_of_ble_eq_true rfl, Nat.le_of_ble_eq_true rfl⟩ hK hA x1 σ s.heap [] ls (lv_sub hl [0, 1] rfl) ⟨hP, hD, va_S.rf⟩ hw
end
