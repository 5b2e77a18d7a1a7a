section
variable {p : Program} {l : Launch} {e : Env} {R : Room} {s : State} {m : MethodId} {args : Array Value} {below : List Frame} {meth : Method} {c : Code}
variable {dC : Nat → ClassId} {dI : Nat → Nat → Nat} {h : Nat} {a : Nat → Nat} {cI cZ : ClassId} {A : Nat → Prop}
def R_isClass_b17 (Q : Int32 → rS → Prop) (y0 : Int32) (σ : rS) : Prop :=
 zb y0 ∧ Q y0 σ
set_option maxHeartbeats 4000000 in
set_option maxRecDepth 100000 in
theorem rB_isClass_17 {Q : Int32 → rS → Prop} (X : CallFix p m c cX7_isClass 2 s args wsX7_isClass RX7) (hr : meth.sig.returnType = (some .boolean)) (hlk : meth.locks = false) (hR : 0 ≤ R.frames ∧ 0 ≤ R.locals) (hK : va_K (dC, dI) vwCl [(cI, .int), (cZ, .boolean)] s) (hA : ∀ q, s.heap.size ≤ q → A q) (y0 : Int32) (σ : rS) (H : Heap) (locs : List Loc) (ls : Array Slot) (hl : lv_has ls 2 [(0, .ref h)]) (hO : rO dC dI h a cI cZ A s.heap σ H locs) (hw : R_isClass_b17 Q y0 σ) : W p l e R s m args below meth c H locs 0 0 (MQ below (va_Qi Q (rAt dC dI A h a cI cZ) A) args s 0 0 A) (F0 m 17 ls [.int y0]) := by
  unfold R_isClass_b17 at hw
  obtain ⟨hz, hw⟩ := hw
  exact W.zret (v := y0) X.1 X.2.1 hr hz (fun t ht hW => ⟨⟨y0, σ, rfl, hw, rO_end hO hK ht hW⟩, hO.2.2.F ht⟩) hO.2.2.2.2 dX7_isClass_17 hlk
def R_isClass_b16 (Q : Int32 → rS → Prop) (σ : rS) : Prop :=
 R_isClass_b17 Q (0 : Int32) σ
set_option maxHeartbeats 4000000 in
set_option maxRecDepth 100000 in
theorem rB_isClass_16 {Q : Int32 → rS → Prop} (X : CallFix p m c cX7_isClass 2 s args wsX7_isClass RX7) (hr : meth.sig.returnType = (some .boolean)) (hlk : meth.locks = false) (hR : 0 ≤ R.frames ∧ 0 ≤ R.locals) (hK : va_K (dC, dI) vwCl [(cI, .int), (cZ, .boolean)] s) (hA : ∀ q, s.heap.size ≤ q → A q) (σ : rS) (H : Heap) (locs : List Loc) (ls : Array Slot) (hl : lv_has ls 2 [(0, .ref h)]) (hO : rO dC dI h a cI cZ A s.heap σ H locs) (hw : R_isClass_b16 Q σ) : W p l e R s m args below meth c H locs 0 0 (MQ below (va_Qi Q (rAt dC dI A h a cI cZ) A) args s 0 0 A) (F0 m 16 ls []) := by
  unfold R_isClass_b16 at hw
  refine lv_iconst (v := 0) X.1 X.2.1 dX7_isClass_16 (by decide) ?_
  exact rB_isClass_17 X hr hlk hR hK hA (0 : Int32) σ H locs ls (lv_sub hl [0] rfl) hO hw
def R_isClass_b0 (Q : Int32 → rS → Prop) (x1 : Int32) (σ : rS) : Prop :=
 (x1 < 0 → R_isClass_b16 Q σ) ∧ (¬ x1 < 0 → ((σ.1 3) ≤ x1 → R_isClass_b16 Q σ) ∧ (¬ (σ.1 3) ≤ x1 → R_isClass_b17 Q (1 : Int32) σ))
set_option maxHeartbeats 4000000 in
set_option maxRecDepth 100000 in
theorem rB_isClass_0 {Q : Int32 → rS → Prop} (X : CallFix p m c cX7_isClass 2 s args wsX7_isClass RX7) (hr : meth.sig.returnType = (some .boolean)) (hlk : meth.locks = false) (hR : 0 ≤ R.frames ∧ 0 ≤ R.locals) (hK : va_K (dC, dI) vwCl [(cI, .int), (cZ, .boolean)] s) (hA : ∀ q, s.heap.size ≤ q → A q) (x1 : Int32) (σ : rS) (H : Heap) (locs : List Loc) (ls : Array Slot) (hl : lv_has ls 2 [(0, .ref h), (1, .int x1)]) (hO : rO dC dI h a cI cZ A s.heap σ H locs) (hw : R_isClass_b0 Q x1 σ) : W p l e R s m args below meth c H locs 0 0 (MQ below (va_Qi Q (rAt dC dI A h a cI cZ) A) args s 0 0 A) (F0 m 0 ls []) := by
  unfold R_isClass_b0 at hw
  refine lv_iload_n X.1 X.2.1 dX7_isClass_0 rfl (lv_at hl 1 rfl) ?_
  refine lv_if_lt (tgt := 16) X.1 X.2.1 dX7_isClass_1 rfl (fun hc9 => ?_) (fun hc9 => ?_)
  · have hw := hw.1 hc9
    exact rB_isClass_16 X hr hlk hR hK hA σ H locs ls (lv_sub hl [0] rfl) hO hw
  · have hw := hw.2 hc9
    refine lv_iload_n X.1 X.2.1 dX7_isClass_4 rfl (lv_at hl 1 rfl) ?_
    refine lv_aload_n X.1 X.2.1 dX7_isClass_5 rfl (lv_at hl 0 rfl) ?_
    refine rf_classes X hK hO dX7_isClass_6 ?_
    refine lv_icmp_ge (tgt := 16) X.1 X.2.1 dX7_isClass_9 rfl (fun hc9 => ?_) (fun hc9 => ?_)
    · have hw := hw.1 hc9
      exact rB_isClass_16 X hr hlk hR hK hA σ H locs ls (lv_sub hl [0] rfl) hO hw
    · have hw := hw.2 hc9
      refine lv_iconst (v := 1) X.1 X.2.1 dX7_isClass_12 (by decide) ?_
      refine lv_goto (tgt := 17) X.1 X.2.1 dX7_isClass_13 rfl ?_
      exact rB_isClass_17 X hr hlk hR hK hA (1 : Int32) σ H locs ls (lv_sub hl [0] rfl) hO hw
def R_isClass_w (Q : Int32 → rS → Prop) (x1 : Int32) (σ : rS) : Prop := R_isClass_b0 Q x1 σ
abbrev rmX7_isClass : Room := { frames := 0, cells := 0, slots := 0, locals := 0 }
set_option maxHeartbeats 4000000 in
set_option maxRecDepth 100000 in
theorem rC_isClass (l : Launch) (dC : Nat → ClassId) (dI : Nat → Nat → Nat) (h : Nat) (a : Nat → Nat) (cI cZ : ClassId) (σ : rS) (sz : Nat) (x1 : Int32) (Q : Int32 → rS → Prop) (hw : R_isClass_w Q x1 σ) : Met l yX7_isClass wsX7_isClass rmX7_isClass (rPc dC dI h a cI cZ sz σ [.ref h, .int x1]) (va_Qi Q (rAt dC dI (va_A (rCells h a cI cZ σ) sz) h a cI cZ) (va_A (rCells h a cI cZ σ) sz)) 0 0 (va_A (rCells h a cI cZ σ) sz) := by
  refine Met.ofW (cc := cX7_isClass) (maxL := 2) (ret := (some .boolean)) (by decide) rfl ?_
  intro p e s m args below meth c s₁ B hml hv
  obtain ⟨hargs, hsz, hP, hK, hD0⟩ := hv
  have hts := atoms_spec (ws := wsX7_isClass) B.pre
  have hown : s.vm.findClass RX7 = some m.cls := findClass_of_methodNamed B.named
  subst hsz
  subst hargs
  have hD := hD0.self (sz := s.heap.size)
  generalize hAe : va_A (rCells h a cI cZ σ) s.heap.size = A at hD ⊢
  have hA : ∀ q : Nat, s.heap.size ≤ q → A q := fun q h => by rw [← hAe]; exact Or.inr h
  have hl := lv_entry ([.ref h, .int x1]) (n := 2) (Nat.le_of_ble_eq_true rfl)
  rw [lg_entry_eq]
  generalize (lg_sl ([.ref h, .int x1]) ++ List.replicate (2 - (lg_sl ([.ref h, .int x1])).length) Slot.unset).toArray = ls at hl ⊢
  have hl : lv_has ls 2 [(0, .ref h), (1, .int x1)] := hl
  unfold R_isClass_w at hw
  exact rB_isClass_0 ⟨B.exec, B.bytes, hml, hown, hts⟩ B.returns B.notSynchronized ⟨Nat.le_of_ble_eq_true rfl, Nat.le_of_ble_eq_true rfl⟩ hK hA x1 σ s.heap [] ls (lv_sub hl [0, 1] rfl) ⟨hP, hD, va_S.rf⟩ hw
def R_isText_b17 (Q : Int32 → rS → Prop) (y0 : Int32) (σ : rS) : Prop :=
 zb y0 ∧ Q y0 σ
set_option maxHeartbeats 4000000 in
set_option maxRecDepth 100000 in
theorem rB_isText_17 {Q : Int32 → rS → Prop} (X : CallFix p m c cX7_isText 2 s args wsX7_isText RX7) (hr : meth.sig.returnType = (some .boolean)) (hlk : meth.locks = false) (hR : 0 ≤ R.frames ∧ 0 ≤ R.locals) (hK : va_K (dC, dI) vwCl [(cI, .int), (cZ, .boolean)] s) (hA : ∀ q, s.heap.size ≤ q → A q) (y0 : Int32) (σ : rS) (H : Heap) (locs : List Loc) (ls : Array Slot) (hl : lv_has ls 2 [(0, .ref h)]) (hO : rO dC dI h a cI cZ A s.heap σ H locs) (hw : R_isText_b17 Q y0 σ) : W p l e R s m args below meth c H locs 0 0 (MQ below (va_Qi Q (rAt dC dI A h a cI cZ) A) args s 0 0 A) (F0 m 17 ls [.int y0]) := by
  unfold R_isText_b17 at hw
  obtain ⟨hz, hw⟩ := hw
  exact W.zret (v := y0) X.1 X.2.1 hr hz (fun t ht hW => ⟨⟨y0, σ, rfl, hw, rO_end hO hK ht hW⟩, hO.2.2.F ht⟩) hO.2.2.2.2 dX7_isText_17 hlk
def R_isText_b16 (Q : Int32 → rS → Prop) (σ : rS) : Prop :=
 R_isText_b17 Q (0 : Int32) σ
set_option maxHeartbeats 4000000 in
set_option maxRecDepth 100000 in
theorem rB_isText_16 {Q : Int32 → rS → Prop} (X : CallFix p m c cX7_isText 2 s args wsX7_isText RX7) (hr : meth.sig.returnType = (some .boolean)) (hlk : meth.locks = false) (hR : 0 ≤ R.frames ∧ 0 ≤ R.locals) (hK : va_K (dC, dI) vwCl [(cI, .int), (cZ, .boolean)] s) (hA : ∀ q, s.heap.size ≤ q → A q) (σ : rS) (H : Heap) (locs : List Loc) (ls : Array Slot) (hl : lv_has ls 2 [(0, .ref h)]) (hO : rO dC dI h a cI cZ A s.heap σ H locs) (hw : R_isText_b16 Q σ) : W p l e R s m args below meth c H locs 0 0 (MQ below (va_Qi Q (rAt dC dI A h a cI cZ) A) args s 0 0 A) (F0 m 16 ls []) := by
  unfold R_isText_b16 at hw
  refine lv_iconst (v := 0) X.1 X.2.1 dX7_isText_16 (by decide) ?_
  exact rB_isText_17 X hr hlk hR hK hA (0 : Int32) σ H locs ls (lv_sub hl [0] rfl) hO hw
def R_isText_b0 (Q : Int32 → rS → Prop) (x1 : Int32) (σ : rS) : Prop :=
 (x1 < 0 → R_isText_b16 Q σ) ∧ (¬ x1 < 0 → ((σ.1 5) ≤ x1 → R_isText_b16 Q σ) ∧ (¬ (σ.1 5) ≤ x1 → R_isText_b17 Q (1 : Int32) σ))
set_option maxHeartbeats 4000000 in
set_option maxRecDepth 100000 in
theorem rB_isText_0 {Q : Int32 → rS → Prop} (X : CallFix p m c cX7_isText 2 s args wsX7_isText RX7) (hr : meth.sig.returnType = (some .boolean)) (hlk : meth.locks = false) (hR : 0 ≤ R.frames ∧ 0 ≤ R.locals) (hK : va_K (dC, dI) vwCl [(cI, .int), (cZ, .boolean)] s) (hA : ∀ q, s.heap.size ≤ q → A q) (x1 : Int32) (σ : rS) (H : Heap) (locs : List Loc) (ls : Array Slot) (hl : lv_has ls 2 [(0, .ref h), (1, .int x1)]) (hO : rO dC dI h a cI cZ A s.heap σ H locs) (hw : R_isText_b0 Q x1 σ) : W p l e R s m args below meth c H locs 0 0 (MQ below (va_Qi Q (rAt dC dI A h a cI cZ) A) args s 0 0 A) (F0 m 0 ls []) := by
  unfold R_isText_b0 at hw
  refine lv_iload_n X.1 X.2.1 dX7_isText_0 rfl (lv_at hl 1 rfl) ?_
  refine lv_if_lt (tgt := 16) X.1 X.2.1 dX7_isText_1 rfl (fun hc9 => ?_) (fun hc9 => ?_)
  · have hw := hw.1 hc9
    exact rB_isText_16 X hr hlk hR hK hA σ H locs ls (lv_sub hl [0] rfl) hO hw
  · have hw := hw.2 hc9
    refine lv_iload_n X.1 X.2.1 dX7_isText_4 rfl (lv_at hl 1 rfl) ?_
    refine lv_aload_n X.1 X.2.1 dX7_isText_5 rfl (lv_at hl 0 rfl) ?_
    refine rf_texts X hK hO dX7_isText_6 ?_
    refine lv_icmp_ge (tgt := 16) X.1 X.2.1 dX7_isText_9 rfl (fun hc9 => ?_) (fun hc9 => ?_)
    · have hw := hw.1 hc9
      exact rB_isText_16 X hr hlk hR hK hA σ H locs ls (lv_sub hl [0] rfl) hO hw
    · have hw := hw.2 hc9
      refine lv_iconst (v := 1) X.1 X.2.1 dX7_isText_12 (by decide) ?_
      refine lv_goto (tgt := 17) X.1 X.2.1 dX7_isText_13 rfl ?_
      exact rB_isText_17 X hr hlk hR hK hA (1 : Int32) σ H locs ls (lv_sub hl [0] rfl) hO hw
def R_isText_w (Q : Int32 → rS → Prop) (x1 : Int32) (σ : rS) : Prop := R_isText_b0 Q x1 σ
abbrev rmX7_isText : Room := { frames := 0, cells := 0, slots := 0, locals := 0 }
set_option maxHeartbeats 4000000 in
set_option maxRecDepth 100000 in
theorem rC_isText (l : Launch) (dC : Nat → ClassId) (dI : Nat → Nat → Nat) (h : Nat) (a : Nat → Nat) (cI cZ : ClassId) (σ : rS) (sz : Nat) (x1 : Int32) (Q : Int32 → rS → Prop) (hw : R_isText_w Q x1 σ) : Met l yX7_isText wsX7_isText rmX7_isText (rPc dC dI h a cI cZ sz σ [.ref h, .int x1]) (va_Qi Q (rAt dC dI (va_A (rCells h a cI cZ σ) sz) h a cI cZ) (va_A (rCells h a cI cZ σ) sz)) 0 0 (va_A (rCells h a cI cZ σ) sz) := by
  refine Met.ofW (cc := cX7_isText) (maxL := 2) (ret := (some .boolean)) (by decide) rfl ?_
  intro p e s m args below meth c s₁ B hml hv
  obtain ⟨hargs, hsz, hP, hK, hD0⟩ := hv
  have hts := atoms_spec (ws := wsX7_isText) B.pre
  have hown : s.vm.findClass RX7 = some m.cls := findClass_of_methodNamed B.named
  subst hsz
  subst hargs
  have hD := hD0.self (sz := s.heap.size)
  generalize hAe : va_A (rCells h a cI cZ σ) s.heap.size = A at hD ⊢
  have hA : ∀ q : Nat, s.heap.size ≤ q → A q := fun q h => by rw [← hAe]; exact Or.inr h
  have hl := lv_entry ([.ref h, .int x1]) (n := 2) (Nat.le_of_ble_eq_true rfl)
  rw [lg_entry_eq]
  generalize (lg_sl ([.ref h, .int x1]) ++ List.replicate (2 - (lg_sl ([.ref h, .int x1])).length) Slot.unset).toArray = ls at hl ⊢
  have hl : lv_has ls 2 [(0, .ref h), (1, .int x1)] := hl
  unfold R_isText_w at hw
  exact rB_isText_0 ⟨B.exec, B.bytes, hml, hown, hts⟩ B.returns B.notSynchronized ⟨Nat.le_of_ble_eq_true rfl, Nat.le_of_ble_eq_true rfl⟩ hK hA x1 σ s.heap [] ls (lv_sub hl [0, 1] rfl) ⟨hP, hD, va_S.rf⟩ hw
def R_classes_b0 (Q : Int32 → rS → Prop) (σ : rS) : Prop :=
 Q (σ.1 3) σ
set_option maxHeartbeats 4000000 in
set_option maxRecDepth 100000 in
theorem rB_classes_0 {Q : Int32 → rS → Prop} (X : CallFix p m c cX7_classes 1 s args wsX7_classes RX7) (hr : meth.sig.returnType = (some .int)) (hlk : meth.locks = false) (hR : 0 ≤ R.frames ∧ 0 ≤ R.locals) (hK : va_K (dC, dI) vwCl [(cI, .int), (cZ, .boolean)] s) (hA : ∀ q, s.heap.size ≤ q → A q) (σ : rS) (H : Heap) (locs : List Loc) (ls : Array Slot) (hl : lv_has ls 1 [(0, .ref h)]) (hO : rO dC dI h a cI cZ A s.heap σ H locs) (hw : R_classes_b0 Q σ) : W p l e R s m args below meth c H locs 0 0 (MQ below (va_Qi Q (rAt dC dI A h a cI cZ) A) args s 0 0 A) (F0 m 0 ls []) := by
  unfold R_classes_b0 at hw
  refine lv_aload_n X.1 X.2.1 dX7_classes_0 rfl (lv_at hl 0 rfl) ?_
  refine rf_classes X hK hO dX7_classes_1 ?_
  exact W.iret (v := (σ.1 3)) X.1 X.2.1 hr (fun t ht hW => ⟨⟨(σ.1 3), σ, rfl, hw, rO_end hO hK ht hW⟩, hO.2.2.F ht⟩) hO.2.2.2.2 dX7_classes_4 hlk
def R_classes_w (Q : Int32 → rS → Prop) (σ : rS) : Prop := R_classes_b0 Q σ
abbrev rmX7_classes : Room := { frames := 0, cells := 0, slots := 0, locals := 0 }
set_option maxHeartbeats 4000000 in
set_option maxRecDepth 100000 in
theorem rC_classes (l : Launch) (dC : Nat → ClassId) (dI : Nat → Nat → Nat) (h : Nat) (a : Nat → Nat) (cI cZ : ClassId) (σ : rS) (sz : Nat) (Q : Int32 → rS → Prop) (hw : R_classes_w Q σ) : Met l yX7_classes wsX7_classes rmX7_classes (rPc dC dI h a cI cZ sz σ [.ref h]) (va_Qi Q (rAt dC dI (va_A (rCells h a cI cZ σ) sz) h a cI cZ) (va_A (rCells h a cI cZ σ) sz)) 0 0 (va_A (rCells h a cI cZ σ) sz) := by
  refine Met.ofW (cc := cX7_classes) (maxL := 1) (ret := (some .int)) (by decide) rfl ?_
  intro p e s m args below meth c s₁ B hml hv
  obtain ⟨hargs, hsz, hP, hK, hD0⟩ := hv
  have hts := atoms_spec (ws := wsX7_classes) B.pre
  have hown : s.vm.findClass RX7 = some m.cls := findClass_of_methodNamed B.named
  subst hsz
  subst hargs
  have hD := hD0.self (sz := s.heap.size)
  generalize hAe : va_A (rCells h a cI cZ σ) s.heap.size = A at hD ⊢
  have hA : ∀ q : Nat, s.heap.size ≤ q → A q := fun q h => by rw [← hAe]; exact Or.inr h
  have hl := lv_entry ([.ref h]) (n := 1) (Nat.le_of_ble_eq_true rfl)
  rw [lg_entry_eq]
  generalize (lg_sl ([.ref h]) ++ List.replicate (1 - (lg_sl ([.ref h])).length) Slot.unset).toArray = ls at hl ⊢
  have hl : lv_has ls 1 [(0, .ref h)] := hl
  unfold R_classes_w at hw
  exact rB_classes_0 ⟨B.exec, B.bytes, hml, hown, hts⟩ B.returns B.notSynchronized ⟨Nat.le_of_ble_eq_true rfl, Nat.le_of_ble_eq_true rfl⟩ hK hA σ s.heap [] ls (lv_sub hl [0] rfl) ⟨hP, hD, va_S.rf⟩ hw
def R_texts_b0 (Q : Int32 → rS → Prop) (σ : rS) : Prop :=
 Q (σ.1 5) σ
set_option maxHeartbeats 4000000 in
set_option maxRecDepth 100000 in
theorem rB_texts_0 {Q : Int32 → rS → Prop} (X : CallFix p m c cX7_texts 1 s args wsX7_texts RX7) (hr : meth.sig.returnType = (some .int)) (hlk : meth.locks = false) (hR : 0 ≤ R.frames ∧ 0 ≤ R.locals) (hK : va_K (dC, dI) vwCl [(cI, .int), (cZ, .boolean)] s) (hA : ∀ q, s.heap.size ≤ q → A q) (σ : rS) (H : Heap) (locs : List Loc) (ls : Array Slot) (hl : lv_has ls 1 [(0, .ref h)]) (hO : rO dC dI h a cI cZ A s.heap σ H locs) (hw : R_texts_b0 Q σ) : W p l e R s m args below meth c H locs 0 0 (MQ below (va_Qi Q (rAt dC dI A h a cI cZ) A) args s 0 0 A) (F0 m 0 ls []) := by
  unfold R_texts_b0 at hw
  refine lv_aload_n X.1 X.2.1 dX7_texts_0 rfl (lv_at hl 0 rfl) ?_
  refine rf_texts X hK hO dX7_texts_1 ?_
  exact W.iret (v := (σ.1 5)) X.1 X.2.1 hr (fun t ht hW => ⟨⟨(σ.1 5), σ, rfl, hw, rO_end hO hK ht hW⟩, hO.2.2.F ht⟩) hO.2.2.2.2 dX7_texts_4 hlk
def R_texts_w (Q : Int32 → rS → Prop) (σ : rS) : Prop := R_texts_b0 Q σ
abbrev rmX7_texts : Room := { frames := 0, cells := 0, slots := 0, locals := 0 }
set_option maxHeartbeats 4000000 in
set_option maxRecDepth 100000 in
theorem rC_texts (l : Launch) (dC : Nat → ClassId) (dI : Nat → Nat → Nat) (h : Nat) (a : Nat → Nat) (cI cZ : ClassId) (σ : rS) (sz : Nat) (Q : Int32 → rS → Prop) (hw : R_texts_w Q σ) : Met l yX7_texts wsX7_texts rmX7_texts (rPc dC dI h a cI cZ sz σ [.ref h]) (va_Qi Q (rAt dC dI (va_A (rCells h a cI cZ σ) sz) h a cI cZ) (va_A (rCells h a cI cZ σ) sz)) 0 0 (va_A (rCells h a cI cZ σ) sz) := by
  refine Met.ofW (cc := cX7_texts) (maxL := 1) (ret := (some .int)) (by decide) rfl ?_
  intro p e s m args below meth c s₁ B hml hv
  obtain ⟨hargs, hsz, hP, hK, hD0⟩ := hv
  have hts := atoms_spec (ws := wsX7_texts) B.pre
  have hown : s.vm.findClass RX7 = some m.cls := findClass_of_methodNamed B.named
  subst hsz
  subst hargs
  have hD := hD0.self (sz := s.heap.size)
  generalize hAe : va_A (rCells h a cI cZ σ) s.heap.size = A at hD ⊢
  have hA : ∀ q : Nat, s.heap.size ≤ q → A q := fun q h => by rw [← hAe]; exact Or.inr h
  have hl := lv_entry ([.ref h]) (n := 1) (Nat.le_of_ble_eq_true rfl)
  rw [lg_entry_eq]
  generalize (lg_sl ([.ref h]) ++ List.replicate (1 - (lg_sl ([.ref h])).length) Slot.unset).toArray = ls at hl ⊢
  have hl : lv_has ls 1 [(0, .ref h)] := hl
  unfold R_texts_w at hw
  exact rB_texts_0 ⟨B.exec, B.bytes, hml, hown, hts⟩ B.returns B.notSynchronized ⟨Nat.le_of_ble_eq_true rfl, Nat.le_of_ble_eq_true rfl⟩ hK hA σ s.heap [] ls (lv_sub hl [0] rfl) ⟨hP, hD, va_S.rf⟩ hw
def R_letter_b48 (Q : Int32 → rS → Prop) (y0 : Int32) (σ : rS) : Prop :=
 Q y0 σ
set_option maxHeartbeats 4000000 in
set_option maxRecDepth 100000 in
theorem rB_letter_48 {Q : Int32 → rS → Prop} (X : CallFix p m c cX7_letter 3 s args wsX7_letter RX7) (hr : meth.sig.returnType = (some .int)) (hlk : meth.locks = false) (hR : 1 ≤ R.frames ∧ 21 ≤ R.locals) (hK : va_K (dC, dI) vwCl [(cI, .int), (cZ, .boolean)] s) (hA : ∀ q, s.heap.size ≤ q → A q) (y0 : Int32) (σ : rS) (H : Heap) (locs : List Loc) (ls : Array Slot) (hl : lv_has ls 3 [(0, .ref h)]) (hO : rO dC dI h a cI cZ A s.heap σ H locs) (hw : R_letter_b48 Q y0 σ) : W p l e R s m args below meth c H locs 0 0 (MQ below (va_Qi Q (rAt dC dI A h a cI cZ) A) args s 0 0 A) (F0 m 48 ls [.int y0]) := by
  unfold R_letter_b48 at hw
  exact W.iret (v := y0) X.1 X.2.1 hr (fun t ht hW => ⟨⟨y0, σ, rfl, hw, rO_end hO hK ht hW⟩, hO.2.2.F ht⟩) hO.2.2.2.2 dX7_letter_48 hlk
def R_letter_b29 (Q : Int32 → rS → Prop) (σ : rS) : Prop :=
 R_letter_b48 Q (0 : Int32) σ
set_option maxHeartbeats 4000000 in
set_option maxRecDepth 100000 in
theorem rB_letter_29 {Q : Int32 → rS → Prop} (X : CallFix p m c cX7_letter 3 s args wsX7_letter RX7) (hr : meth.sig.returnType = (some .int)) (hlk : meth.locks = false) (hR : 1 ≤ R.frames ∧ 21 ≤ R.locals) (hK : va_K (dC, dI) vwCl [(cI, .int), (cZ, .boolean)] s) (hA : ∀ q, s.heap.size ≤ q → A q) (σ : rS) (H : Heap) (locs : List Loc) (ls : Array Slot) (hl : lv_has ls 3 [(0, .ref h)]) (hO : rO dC dI h a cI cZ A s.heap σ H locs) (hw : R_letter_b29 Q σ) : W p l e R s m args below meth c H locs 0 0 (MQ below (va_Qi Q (rAt dC dI A h a cI cZ) A) args s 0 0 A) (F0 m 29 ls []) := by
  unfold R_letter_b29 at hw
  refine lv_iconst (v := 0) X.1 X.2.1 dX7_letter_29 (by decide) ?_
  refine lv_goto (tgt := 48) X.1 X.2.1 dX7_letter_30 rfl ?_
  exact rB_letter_48 X hr hlk hR hK hA (0 : Int32) σ H locs ls (lv_sub hl [0] rfl) hO hw
def R_letter_b0 (Q : Int32 → rS → Prop) (x1 : Int32) (x2 : Int32) (σ : rS) : Prop :=
 R_isText_w (fun r2 t2 => (¬ r2 = 0 → (x2 < 0 → R_letter_b29 Q t2) ∧ (¬ x2 < 0 → vp_in x1 192 ∧ vp_in (t2.2 4 x1.toNatClampNeg) 1920 ∧ (x2 < (t2.2 2 (t2.2 4 x1.toNatClampNeg).toNatClampNeg) → vp_in x1 192 ∧ vp_in (((t2.2 4 x1.toNatClampNeg) + (1 : Int32)) + x2) 1920 ∧ R_letter_b48 Q (t2.2 2 (((t2.2 4 x1.toNatClampNeg) + (1 : Int32)) + x2).toNatClampNeg) t2) ∧ (¬ x2 < (t2.2 2 (t2.2 4 x1.toNatClampNeg).toNatClampNeg) → R_letter_b29 Q t2))) ∧ (r2 = 0 → Q (-1 : Int32) t2)) x1 σ
set_option maxHeartbeats 4000000 in
set_option maxRecDepth 100000 in
theorem rB_letter_0 {Q : Int32 → rS → Prop} (X : CallFix p m c cX7_letter 3 s args wsX7_letter RX7) (hr : meth.sig.returnType = (some .int)) (hlk : meth.locks = false) (hR : 1 ≤ R.frames ∧ 21 ≤ R.locals) (hK : va_K (dC, dI) vwCl [(cI, .int), (cZ, .boolean)] s) (hA : ∀ q, s.heap.size ≤ q → A q) (x1 : Int32) (x2 : Int32) (σ : rS) (H : Heap) (locs : List Loc) (ls : Array Slot) (hl : lv_has ls 3 [(0, .ref h), (1, .int x1), (2, .int x2)]) (hO : rO dC dI h a cI cZ A s.heap σ H locs) (hw : R_letter_b0 Q x1 x2 σ) : W p l e R s m args below meth c H locs 0 0 (MQ below (va_Qi Q (rAt dC dI A h a cI cZ) A) args s 0 0 A) (F0 m 0 ls []) := by
  unfold R_letter_b0 at hw
  refine lv_aload_n X.1 X.2.1 dX7_letter_0 rfl (lv_at hl 0 rfl) ?_
  refine lv_iload_n X.1 X.2.1 dX7_letter_1 rfl (lv_at hl 1 rfl) ?_
  refine r_calli (rest := []) (As := [.int x1]) X (rC_isText l dC dI h a cI cZ σ H.size x1 _ hw) (cwV 1 X.2.2.2.2 gX7_isText rfl rfl rfl hdX7_isText ⟨Nat.le_trans (by decide) hR.1, Nat.le_trans (by decide) hR.2⟩) hK hA hO rfl hl.1 rfl (Nat.le_of_ble_eq_true rfl) dX7_letter_2 (fun r2 t2 H locs hO hw => ?_)
  refine lv_if_ne (tgt := 10) X.1 X.2.1 dX7_letter_5 rfl (fun hc9 => ?_) (fun hc9 => ?_)
  · have hw := hw.1 hc9
    refine lv_iload_n X.1 X.2.1 dX7_letter_10 rfl (lv_at hl 2 rfl) ?_
    refine lv_if_lt (tgt := 29) X.1 X.2.1 dX7_letter_11 rfl (fun hc9 => ?_) (fun hc9 => ?_)
    · have hw := hw.1 hc9
      exact rB_letter_29 X hr hlk hR hK hA t2 H locs ls (lv_sub hl [0] rfl) hO hw
    · have hw := hw.2 hc9
      refine lv_iload_n X.1 X.2.1 dX7_letter_14 rfl (lv_at hl 2 rfl) ?_
      refine lv_aload_n X.1 X.2.1 dX7_letter_15 rfl (lv_at hl 0 rfl) ?_
      refine rf_bytes X hK hO dX7_letter_16 ?_
      refine lv_aload_n X.1 X.2.1 dX7_letter_19 rfl (lv_at hl 0 rfl) ?_
      refine rf_textAt X hK hO dX7_letter_20 ?_
      refine lv_iload_n X.1 X.2.1 dX7_letter_23 rfl (lv_at hl 1 rfl) ?_
      obtain ⟨g24, hw⟩ := hw
      refine ra_textAt X.1 X.2.1 hK hO g24 dX7_letter_24 ?_
      obtain ⟨g25, hw⟩ := hw
      refine ra_bytes X.1 X.2.1 hK hO g25 dX7_letter_25 ?_
      refine lv_icmp_lt (tgt := 33) X.1 X.2.1 dX7_letter_26 rfl (fun hc9 => ?_) (fun hc9 => ?_)
      · have hw := hw.1 hc9
        refine lv_aload_n X.1 X.2.1 dX7_letter_33 rfl (lv_at hl 0 rfl) ?_
        refine rf_bytes X hK hO dX7_letter_34 ?_
        refine lv_aload_n X.1 X.2.1 dX7_letter_37 rfl (lv_at hl 0 rfl) ?_
        refine rf_textAt X hK hO dX7_letter_38 ?_
        refine lv_iload_n X.1 X.2.1 dX7_letter_41 rfl (lv_at hl 1 rfl) ?_
        obtain ⟨g42, hw⟩ := hw
        refine ra_textAt X.1 X.2.1 hK hO g42 dX7_letter_42 ?_
        refine lv_iconst (v := 1) X.1 X.2.1 dX7_letter_43 (by decide) ?_
        refine lv_iadd X.1 X.2.1 dX7_letter_44 ?_
        refine lv_iload_n X.1 X.2.1 dX7_letter_45 rfl (lv_at hl 2 rfl) ?_
        refine lv_iadd X.1 X.2.1 dX7_letter_46 ?_
        obtain ⟨g47, hw⟩ := hw
        refine ra_bytes X.1 X.2.1 hK hO g47 dX7_letter_47 ?_
        exact rB_letter_48 X hr hlk hR hK hA (t2.2 2 (((t2.2 4 x1.toNatClampNeg) + (1 : Int32)) + x2).toNatClampNeg) t2 H locs ls (lv_sub hl [0] rfl) hO hw
      · have hw := hw.2 hc9
        exact rB_letter_29 X hr hlk hR hK hA t2 H locs ls (lv_sub hl [0] rfl) hO hw
  · have hw := hw.2 hc9
    refine lv_iconst (v := -1) X.1 X.2.1 dX7_letter_8 (by decide) ?_
    exact W.iret (v := (-1 : Int32)) X.1 X.2.1 hr (fun t ht hW => ⟨⟨(-1 : Int32), t2, rfl, hw, rO_end hO hK ht hW⟩, hO.2.2.F ht⟩) hO.2.2.2.2 dX7_letter_9 hlk
def R_letter_w (Q : Int32 → rS → Prop) (x1 : Int32) (x2 : Int32) (σ : rS) : Prop := R_letter_b0 Q x1 x2 σ
abbrev rmX7_letter : Room := { frames := 1, cells := 0, slots := 0, locals := 21 }
set_option maxHeartbeats 4000000 in
set_option maxRecDepth 100000 in
theorem rC_letter (l : Launch) (dC : Nat → ClassId) (dI : Nat → Nat → Nat) (h : Nat) (a : Nat → Nat) (cI cZ : ClassId) (σ : rS) (sz : Nat) (x1 : Int32) (x2 : Int32) (Q : Int32 → rS → Prop) (hw : R_letter_w Q x1 x2 σ) : Met l yX7_letter wsX7_letter rmX7_letter (rPc dC dI h a cI cZ sz σ [.ref h, .int x1, .int x2]) (va_Qi Q (rAt dC dI (va_A (rCells h a cI cZ σ) sz) h a cI cZ) (va_A (rCells h a cI cZ σ) sz)) 0 0 (va_A (rCells h a cI cZ σ) sz) := by
  refine Met.ofW (cc := cX7_letter) (maxL := 3) (ret := (some .int)) (by decide) rfl ?_
  intro p e s m args below meth c s₁ B hml hv
  obtain ⟨hargs, hsz, hP, hK, hD0⟩ := hv
  have hts := atoms_spec (ws := wsX7_letter) B.pre
  have hown : s.vm.findClass RX7 = some m.cls := findClass_of_methodNamed B.named
  subst hsz
  subst hargs
  have hD := hD0.self (sz := s.heap.size)
  generalize hAe : va_A (rCells h a cI cZ σ) s.heap.size = A at hD ⊢
  have hA : ∀ q : Nat, s.heap.size ≤ q → A q := fun q h => by rw [← hAe]; exact Or.inr h
  have hl := lv_entry ([.ref h, .int x1, .int x2]) (n := 3) (Nat.le_of_ble_eq_true rfl)
  rw [lg_entry_eq]
  generalize (lg_sl ([.ref h, .int x1, .int x2]) ++ List.replicate (3 - (lg_sl ([.ref h, .int x1, .int x2])).length) Slot.unset).toArray = ls at hl ⊢
  have hl : lv_has ls 3 [(0, .ref h), (1, .int x1), (2, .int x2)] := hl
  unfold R_letter_w at hw
  exact rB_letter_0 ⟨B.exec, B.bytes, hml, hown, hts⟩ B.returns B.notSynchronized ⟨Nat.le_of_ble_eq_true rfl, Nat.le_of_ble_eq_true rfl⟩ hK hA x1 x2 σ s.heap [] ls (lv_sub hl [0, 1, 2] rfl) ⟨hP, hD, va_S.rf⟩ hw
def R_find_b2_s (Q : Int32 → rS → Prop) (K2 : Int32 → Int32 → rS → Prop) (x1 : Int32) (x2 : Int32) (σ : rS) : Prop :=
 ((σ.1 3) ≤ x2 → Q (-1 : Int32) σ) ∧ (¬ (σ.1 3) ≤ x2 → vp_in x2 16 ∧ (¬ (σ.2 10 x2.toNatClampNeg) = x1 → ∀ v22 : Int32, v22 = x2 + (1 : Int32) → K2 x1 v22 σ) ∧ ((σ.2 10 x2.toNatClampNeg) = x1 → Q x2 σ))
def R_find_b2_f (Q : Int32 → rS → Prop) : (Int32 × Int32 × rS → Prop) → Int32 × Int32 × rS → Prop :=
 fun K z => R_find_b2_s Q (fun x1 x2 σ => K (x1, x2, σ)) z.1 z.2.1 z.2.2
def R_find_b2 (Q : Int32 → rS → Prop) (x1 : Int32) (x2 : Int32) (σ : rS) : Prop := ∃ n, fx (R_find_b2_f Q ) n (x1, x2, σ)
set_option maxHeartbeats 4000000 in
set_option maxRecDepth 100000 in
theorem rB_find_2 {Q : Int32 → rS → Prop} (X : CallFix p m c cX7_find 3 s args wsX7_find RX7) (hr : meth.sig.returnType = (some .int)) (hlk : meth.locks = false) (hR : 0 ≤ R.frames ∧ 0 ≤ R.locals) (hK : va_K (dC, dI) vwCl [(cI, .int), (cZ, .boolean)] s) (hA : ∀ q, s.heap.size ≤ q → A q) : ∀ (n : Nat) (x1 : Int32) (x2 : Int32) (σ : rS) (H : Heap) (locs : List Loc) (ls : Array Slot), lv_has ls 3 [(0, .ref h), (1, .int x1), (2, .int x2)] → rO dC dI h a cI cZ A s.heap σ H locs → fx (R_find_b2_f Q ) n (x1, x2, σ) → W p l e R s m args below meth c H locs 0 0 (MQ below (va_Qi Q (rAt dC dI A h a cI cZ) A) args s 0 0 A) (F0 m 2 ls []) := by
  intro n
  induction n with
  | zero => intro x1 x2 σ H locs ls hl hO hw; exact False.elim hw
  | succ n k2 =>
    intro x1 x2 σ H locs ls hl hO hw
    have hw : R_find_b2_s Q (fun x1 x2 σ => fx (R_find_b2_f Q ) n (x1, x2, σ)) x1 x2 σ := hw
    unfold R_find_b2_s at hw
    refine lv_iload_n X.1 X.2.1 dX7_find_2 rfl (lv_at hl 2 rfl) ?_
    refine lv_aload_n X.1 X.2.1 dX7_find_3 rfl (lv_at hl 0 rfl) ?_
    refine rf_classes X hK hO dX7_find_4 ?_
    refine lv_icmp_ge (tgt := 28) X.1 X.2.1 dX7_find_7 rfl (fun hc9 => ?_) (fun hc9 => ?_)
    · have hw := hw.1 hc9
      refine lv_iconst (v := -1) X.1 X.2.1 dX7_find_28 (by decide) ?_
      exact W.iret (v := (-1 : Int32)) X.1 X.2.1 hr (fun t ht hW => ⟨⟨(-1 : Int32), σ, rfl, hw, rO_end hO hK ht hW⟩, hO.2.2.F ht⟩) hO.2.2.2.2 dX7_find_29 hlk
    · have hw := hw.2 hc9
      refine lv_aload_n X.1 X.2.1 dX7_find_10 rfl (lv_at hl 0 rfl) ?_
      refine rf_self X hK hO dX7_find_11 ?_
      refine lv_iload_n X.1 X.2.1 dX7_find_14 rfl (lv_at hl 2 rfl) ?_
      obtain ⟨g15, hw⟩ := hw
      refine ra_self X.1 X.2.1 hK hO g15 dX7_find_15 ?_
      refine lv_iload_n X.1 X.2.1 dX7_find_16 rfl (lv_at hl 1 rfl) ?_
      refine lv_icmp_ne (tgt := 22) X.1 X.2.1 dX7_find_17 rfl (fun hc9 => ?_) (fun hc9 => ?_)
      · have hw := hw.1 hc9
        obtain ⟨v22, e22⟩ : ∃ z, z = x2 + (1 : Int32) := ⟨_, rfl⟩
        have hw := hw v22 e22
        refine lv_iinc (lv' := [(2, .int v22), (0, .ref h), (1, .int x1)]) (k := 2) (v := v22) X.1 X.2.1 dX7_find_22 hl rfl (by rw [e22]; rfl) (by decide) rfl (fun ls hl => ?_)
        refine lv_goto (tgt := 2) X.1 X.2.1 dX7_find_25 rfl ?_
        exact k2 x1 v22 σ H locs ls (lv_sub hl [1, 2, 0] rfl) hO hw
      · have hw := hw.2 hc9
        refine lv_iload_n X.1 X.2.1 dX7_find_20 rfl (lv_at hl 2 rfl) ?_
        exact W.iret (v := x2) X.1 X.2.1 hr (fun t ht hW => ⟨⟨x2, σ, rfl, hw, rO_end hO hK ht hW⟩, hO.2.2.F ht⟩) hO.2.2.2.2 dX7_find_21 hlk
def R_find_b0 (Q : Int32 → rS → Prop) (x1 : Int32) (σ : rS) : Prop :=
 R_find_b2 Q x1 (0 : Int32) σ
set_option maxHeartbeats 4000000 in
set_option maxRecDepth 100000 in
theorem rB_find_0 {Q : Int32 → rS → Prop} (X : CallFix p m c cX7_find 3 s args wsX7_find RX7) (hr : meth.sig.returnType = (some .int)) (hlk : meth.locks = false) (hR : 0 ≤ R.frames ∧ 0 ≤ R.locals) (hK : va_K (dC, dI) vwCl [(cI, .int), (cZ, .boolean)] s) (hA : ∀ q, s.heap.size ≤ q → A q) (x1 : Int32) (σ : rS) (H : Heap) (locs : List Loc) (ls : Array Slot) (hl : lv_has ls 3 [(0, .ref h), (1, .int x1)]) (hO : rO dC dI h a cI cZ A s.heap σ H locs) (hw : R_find_b0 Q x1 σ) : W p l e R s m args below meth c H locs 0 0 (MQ below (va_Qi Q (rAt dC dI A h a cI cZ) A) args s 0 0 A) (F0 m 0 ls []) := by
  unfold R_find_b0 at hw
  refine lv_iconst (v := 0) X.1 X.2.1 dX7_find_0 (by decide) ?_
  refine lv_istore_n (lv' := [(2, .int (0 : Int32)), (0, .ref h), (1, .int x1)]) X.1 X.2.1 dX7_find_1 rfl hl (by decide) rfl (fun ls hl => ?_)
  obtain ⟨n, hw⟩ := hw
  exact rB_find_2 X hr hlk hR hK hA n x1 (0 : Int32) σ H locs ls (lv_sub hl [1, 2, 0] rfl) hO hw
def R_find_w (Q : Int32 → rS → Prop) (x1 : Int32) (σ : rS) : Prop := R_find_b0 Q x1 σ
abbrev rmX7_find : Room := { frames := 0, cells := 0, slots := 0, locals := 0 }
set_option maxHeartbeats 4000000 in
set_option maxRecDepth 100000 in
theorem rC_find (l : Launch) (dC : Nat → ClassId) (dI : Nat → Nat → Nat) (h : Nat) (a : Nat → Nat) (cI cZ : ClassId) (σ : rS) (sz : Nat) (x1 : Int32) (Q : Int32 → rS → Prop) (hw : R_find_w Q x1 σ) : Met l yX7_find wsX7_find rmX7_find (rPc dC dI h a cI cZ sz σ [.ref h, .int x1]) (va_Qi Q (rAt dC dI (va_A (rCells h a cI cZ σ) sz) h a cI cZ) (va_A (rCells h a cI cZ σ) sz)) 0 0 (va_A (rCells h a cI cZ σ) sz) := by
  refine Met.ofW (cc := cX7_find) (maxL := 3) (ret := (some .int)) (by decide) rfl ?_
  intro p e s m args below meth c s₁ B hml hv
  obtain ⟨hargs, hsz, hP, hK, hD0⟩ := hv
  have hts := atoms_spec (ws := wsX7_find) B.pre
  have hown : s.vm.findClass RX7 = some m.cls := findClass_of_methodNamed B.named
  subst hsz
  subst hargs
  have hD := hD0.self (sz := s.heap.size)
  generalize hAe : va_A (rCells h a cI cZ σ) s.heap.size = A at hD ⊢
  have hA : ∀ q : Nat, s.heap.size ≤ q → A q := fun q h => by rw [← hAe]; exact Or.inr h
  have hl := lv_entry ([.ref h, .int x1]) (n := 3) (Nat.le_of_ble_eq_true rfl)
  rw [lg_entry_eq]
  generalize (lg_sl ([.ref h, .int x1]) ++ List.replicate (3 - (lg_sl ([.ref h, .int x1])).length) Slot.unset).toArray = ls at hl ⊢
  have hl : lv_has ls 3 [(0, .ref h), (1, .int x1)] := hl
  unfold R_find_w at hw
  exact rB_find_0 ⟨B.exec, B.bytes, hml, hown, hts⟩ B.returns B.notSynchronized ⟨Nat.le_of_ble_eq_true rfl, Nat.le_of_ble_eq_true rfl⟩ hK hA x1 σ s.heap [] ls (lv_sub hl [0, 1] rfl) ⟨hP, hD, va_S.rf⟩ hw
def R_name_b18 (Q : Int32 → rS → Prop) (y0 : Int32) (σ : rS) : Prop :=
 Q y0 σ
set_option maxHeartbeats 4000000 in
set_option maxRecDepth 100000 in
theorem rB_name_18 {Q : Int32 → rS → Prop} (X : CallFix p m c cX7_name 2 s args wsX7_name RX7) (hr : meth.sig.returnType = (some .int)) (hlk : meth.locks = false) (hR : 1 ≤ R.frames ∧ 21 ≤ R.locals) (hK : va_K (dC, dI) vwCl [(cI, .int), (cZ, .boolean)] s) (hA : ∀ q, s.heap.size ≤ q → A q) (y0 : Int32) (σ : rS) (H : Heap) (locs : List Loc) (ls : Array Slot) (hl : lv_has ls 2 [(0, .ref h)]) (hO : rO dC dI h a cI cZ A s.heap σ H locs) (hw : R_name_b18 Q y0 σ) : W p l e R s m args below meth c H locs 0 0 (MQ below (va_Qi Q (rAt dC dI A h a cI cZ) A) args s 0 0 A) (F0 m 18 ls [.int y0]) := by
  unfold R_name_b18 at hw
  exact W.iret (v := y0) X.1 X.2.1 hr (fun t ht hW => ⟨⟨y0, σ, rfl, hw, rO_end hO hK ht hW⟩, hO.2.2.F ht⟩) hO.2.2.2.2 dX7_name_18 hlk
def R_name_b0 (Q : Int32 → rS → Prop) (x1 : Int32) (σ : rS) : Prop :=
 R_isClass_w (fun r2 t2 => (r2 = 0 → R_name_b18 Q (-1 : Int32) t2) ∧ (¬ r2 = 0 → vp_in x1 16 ∧ R_name_b18 Q (t2.2 10 x1.toNatClampNeg) t2)) x1 σ
set_option maxHeartbeats 4000000 in
set_option maxRecDepth 100000 in
theorem rB_name_0 {Q : Int32 → rS → Prop} (X : CallFix p m c cX7_name 2 s args wsX7_name RX7) (hr : meth.sig.returnType = (some .int)) (hlk : meth.locks = false) (hR : 1 ≤ R.frames ∧ 21 ≤ R.locals) (hK : va_K (dC, dI) vwCl [(cI, .int), (cZ, .boolean)] s) (hA : ∀ q, s.heap.size ≤ q → A q) (x1 : Int32) (σ : rS) (H : Heap) (locs : List Loc) (ls : Array Slot) (hl : lv_has ls 2 [(0, .ref h), (1, .int x1)]) (hO : rO dC dI h a cI cZ A s.heap σ H locs) (hw : R_name_b0 Q x1 σ) : W p l e R s m args below meth c H locs 0 0 (MQ below (va_Qi Q (rAt dC dI A h a cI cZ) A) args s 0 0 A) (F0 m 0 ls []) := by
  unfold R_name_b0 at hw
  refine lv_aload_n X.1 X.2.1 dX7_name_0 rfl (lv_at hl 0 rfl) ?_
  refine lv_iload_n X.1 X.2.1 dX7_name_1 rfl (lv_at hl 1 rfl) ?_
  refine r_calli (rest := []) (As := [.int x1]) X (rC_isClass l dC dI h a cI cZ σ H.size x1 _ hw) (cwV 1 X.2.2.2.2 gX7_isClass rfl rfl rfl hdX7_isClass ⟨Nat.le_trans (by decide) hR.1, Nat.le_trans (by decide) hR.2⟩) hK hA hO rfl hl.1 rfl (Nat.le_of_ble_eq_true rfl) dX7_name_2 (fun r2 t2 H locs hO hw => ?_)
  refine lv_if_eq (tgt := 17) X.1 X.2.1 dX7_name_5 rfl (fun hc9 => ?_) (fun hc9 => ?_)
  · have hw := hw.1 hc9
    refine lv_iconst (v := -1) X.1 X.2.1 dX7_name_17 (by decide) ?_
    exact rB_name_18 X hr hlk hR hK hA (-1 : Int32) t2 H locs ls (lv_sub hl [0] rfl) hO hw
  · have hw := hw.2 hc9
    refine lv_aload_n X.1 X.2.1 dX7_name_8 rfl (lv_at hl 0 rfl) ?_
    refine rf_self X hK hO dX7_name_9 ?_
    refine lv_iload_n X.1 X.2.1 dX7_name_12 rfl (lv_at hl 1 rfl) ?_
    obtain ⟨g13, hw⟩ := hw
    refine ra_self X.1 X.2.1 hK hO g13 dX7_name_13 ?_
    refine lv_goto (tgt := 18) X.1 X.2.1 dX7_name_14 rfl ?_
    exact rB_name_18 X hr hlk hR hK hA (t2.2 10 x1.toNatClampNeg) t2 H locs ls (lv_sub hl [0] rfl) hO hw
def R_name_w (Q : Int32 → rS → Prop) (x1 : Int32) (σ : rS) : Prop := R_name_b0 Q x1 σ
abbrev rmX7_name : Room := { frames := 1, cells := 0, slots := 0, locals := 21 }
set_option maxHeartbeats 4000000 in
set_option maxRecDepth 100000 in
theorem rC_name (l : Launch) (dC : Nat → ClassId) (dI : Nat → Nat → Nat) (h : Nat) (a : Nat → Nat) (cI cZ : ClassId) (σ : rS) (sz : Nat) (x1 : Int32) (Q : Int32 → rS → Prop) (hw : R_name_w Q x1 σ) : Met l yX7_name wsX7_name rmX7_name (rPc dC dI h a cI cZ sz σ [.ref h, .int x1]) (va_Qi Q (rAt dC dI (va_A (rCells h a cI cZ σ) sz) h a cI cZ) (va_A (rCells h a cI cZ σ) sz)) 0 0 (va_A (rCells h a cI cZ σ) sz) := by
  refine Met.ofW (cc := cX7_name) (maxL := 2) (ret := (some .int)) (by decide) rfl ?_
  intro p e s m args below meth c s₁ B hml hv
  obtain ⟨hargs, hsz, hP, hK, hD0⟩ := hv
  have hts := atoms_spec (ws := wsX7_name) B.pre
  have hown : s.vm.findClass RX7 = some m.cls := findClass_of_methodNamed B.named
  subst hsz
  subst hargs
  have hD := hD0.self (sz := s.heap.size)
  generalize hAe : va_A (rCells h a cI cZ σ) s.heap.size = A at hD ⊢
  have hA : ∀ q : Nat, s.heap.size ≤ q → A q := fun q h => by rw [← hAe]; exact Or.inr h
  have hl := lv_entry ([.ref h, .int x1]) (n := 2) (Nat.le_of_ble_eq_true rfl)
  rw [lg_entry_eq]
  generalize (lg_sl ([.ref h, .int x1]) ++ List.replicate (2 - (lg_sl ([.ref h, .int x1])).length) Slot.unset).toArray = ls at hl ⊢
  have hl : lv_has ls 2 [(0, .ref h), (1, .int x1)] := hl
  unfold R_name_w at hw
  exact rB_name_0 ⟨B.exec, B.bytes, hml, hown, hts⟩ B.returns B.notSynchronized ⟨Nat.le_of_ble_eq_true rfl, Nat.le_of_ble_eq_true rfl⟩ hK hA x1 σ s.heap [] ls (lv_sub hl [0, 1] rfl) ⟨hP, hD, va_S.rf⟩ hw
def R_flags_b18 (Q : Int32 → rS → Prop) (y0 : Int32) (σ : rS) : Prop :=
 Q y0 σ
set_option maxHeartbeats 4000000 in
set_option maxRecDepth 100000 in
theorem rB_flags_18 {Q : Int32 → rS → Prop} (X : CallFix p m c cX7_flags 2 s args wsX7_flags RX7) (hr : meth.sig.returnType = (some .int)) (hlk : meth.locks = false) (hR : 1 ≤ R.frames ∧ 21 ≤ R.locals) (hK : va_K (dC, dI) vwCl [(cI, .int), (cZ, .boolean)] s) (hA : ∀ q, s.heap.size ≤ q → A q) (y0 : Int32) (σ : rS) (H : Heap) (locs : List Loc) (ls : Array Slot) (hl : lv_has ls 2 [(0, .ref h)]) (hO : rO dC dI h a cI cZ A s.heap σ H locs) (hw : R_flags_b18 Q y0 σ) : W p l e R s m args below meth c H locs 0 0 (MQ below (va_Qi Q (rAt dC dI A h a cI cZ) A) args s 0 0 A) (F0 m 18 ls [.int y0]) := by
  unfold R_flags_b18 at hw
  exact W.iret (v := y0) X.1 X.2.1 hr (fun t ht hW => ⟨⟨y0, σ, rfl, hw, rO_end hO hK ht hW⟩, hO.2.2.F ht⟩) hO.2.2.2.2 dX7_flags_18 hlk
def R_flags_b0 (Q : Int32 → rS → Prop) (x1 : Int32) (σ : rS) : Prop :=
 R_isClass_w (fun r2 t2 => (r2 = 0 → R_flags_b18 Q (-1 : Int32) t2) ∧ (¬ r2 = 0 → vp_in x1 16 ∧ R_flags_b18 Q (t2.2 9 x1.toNatClampNeg) t2)) x1 σ
set_option maxHeartbeats 4000000 in
set_option maxRecDepth 100000 in
theorem rB_flags_0 {Q : Int32 → rS → Prop} (X : CallFix p m c cX7_flags 2 s args wsX7_flags RX7) (hr : meth.sig.returnType = (some .int)) (hlk : meth.locks = false) (hR : 1 ≤ R.frames ∧ 21 ≤ R.locals) (hK : va_K (dC, dI) vwCl [(cI, .int), (cZ, .boolean)] s) (hA : ∀ q, s.heap.size ≤ q → A q) (x1 : Int32) (σ : rS) (H : Heap) (locs : List Loc) (ls : Array Slot) (hl : lv_has ls 2 [(0, .ref h), (1, .int x1)]) (hO : rO dC dI h a cI cZ A s.heap σ H locs) (hw : R_flags_b0 Q x1 σ) : W p l e R s m args below meth c H locs 0 0 (MQ below (va_Qi Q (rAt dC dI A h a cI cZ) A) args s 0 0 A) (F0 m 0 ls []) := by
  unfold R_flags_b0 at hw
  refine lv_aload_n X.1 X.2.1 dX7_flags_0 rfl (lv_at hl 0 rfl) ?_
  refine lv_iload_n X.1 X.2.1 dX7_flags_1 rfl (lv_at hl 1 rfl) ?_
  refine r_calli (rest := []) (As := [.int x1]) X (rC_isClass l dC dI h a cI cZ σ H.size x1 _ hw) (cwV 1 X.2.2.2.2 gX7_isClass rfl rfl rfl hdX7_isClass ⟨Nat.le_trans (by decide) hR.1, Nat.le_trans (by decide) hR.2⟩) hK hA hO rfl hl.1 rfl (Nat.le_of_ble_eq_true rfl) dX7_flags_2 (fun r2 t2 H locs hO hw => ?_)
  refine lv_if_eq (tgt := 17) X.1 X.2.1 dX7_flags_5 rfl (fun hc9 => ?_) (fun hc9 => ?_)
  · have hw := hw.1 hc9
    refine lv_iconst (v := -1) X.1 X.2.1 dX7_flags_17 (by decide) ?_
    exact rB_flags_18 X hr hlk hR hK hA (-1 : Int32) t2 H locs ls (lv_sub hl [0] rfl) hO hw
  · have hw := hw.2 hc9
    refine lv_aload_n X.1 X.2.1 dX7_flags_8 rfl (lv_at hl 0 rfl) ?_
    refine rf_flag X hK hO dX7_flags_9 ?_
    refine lv_iload_n X.1 X.2.1 dX7_flags_12 rfl (lv_at hl 1 rfl) ?_
    obtain ⟨g13, hw⟩ := hw
    refine ra_flag X.1 X.2.1 hK hO g13 dX7_flags_13 ?_
    refine lv_goto (tgt := 18) X.1 X.2.1 dX7_flags_14 rfl ?_
    exact rB_flags_18 X hr hlk hR hK hA (t2.2 9 x1.toNatClampNeg) t2 H locs ls (lv_sub hl [0] rfl) hO hw
def R_flags_w (Q : Int32 → rS → Prop) (x1 : Int32) (σ : rS) : Prop := R_flags_b0 Q x1 σ
abbrev rmX7_flags : Room := { frames := 1, cells := 0, slots := 0, locals := 21 }
set_option maxHeartbeats 4000000 in
set_option maxRecDepth 100000 in
theorem rC_flags (l : Launch) (dC : Nat → ClassId) (dI : Nat → Nat → Nat) (h : Nat) (a : Nat → Nat) (cI cZ : ClassId) (σ : rS) (sz : Nat) (x1 : Int32) (Q : Int32 → rS → Prop) (hw : R_flags_w Q x1 σ) : Met l yX7_flags wsX7_flags rmX7_flags (rPc dC dI h a cI cZ sz σ [.ref h, .int x1]) (va_Qi Q (rAt dC dI (va_A (rCells h a cI cZ σ) sz) h a cI cZ) (va_A (rCells h a cI cZ σ) sz)) 0 0 (va_A (rCells h a cI cZ σ) sz) := by
  refine Met.ofW (cc := cX7_flags) (maxL := 2) (ret := (some .int)) (by decide) rfl ?_
  intro p e s m args below meth c s₁ B hml hv
  obtain ⟨hargs, hsz, hP, hK, hD0⟩ := hv
  have hts := atoms_spec (ws := wsX7_flags) B.pre
  have hown : s.vm.findClass RX7 = some m.cls := findClass_of_methodNamed B.named
  subst hsz
  subst hargs
  have hD := hD0.self (sz := s.heap.size)
  generalize hAe : va_A (rCells h a cI cZ σ) s.heap.size = A at hD ⊢
  have hA : ∀ q : Nat, s.heap.size ≤ q → A q := fun q h => by rw [← hAe]; exact Or.inr h
  have hl := lv_entry ([.ref h, .int x1]) (n := 2) (Nat.le_of_ble_eq_true rfl)
  rw [lg_entry_eq]
  generalize (lg_sl ([.ref h, .int x1]) ++ List.replicate (2 - (lg_sl ([.ref h, .int x1])).length) Slot.unset).toArray = ls at hl ⊢
  have hl : lv_has ls 2 [(0, .ref h), (1, .int x1)] := hl
  unfold R_flags_w at hw
  exact rB_flags_0 ⟨B.exec, B.bytes, hml, hown, hts⟩ B.returns B.notSynchronized ⟨Nat.le_of_ble_eq_true rfl, Nat.le_of_ble_eq_true rfl⟩ hK hA x1 σ s.heap [] ls (lv_sub hl [0, 1] rfl) ⟨hP, hD, va_S.rf⟩ hw
def R_superName_b18 (Q : Int32 → rS → Prop) (y0 : Int32) (σ : rS) : Prop :=
 Q y0 σ
set_option maxHeartbeats 4000000 in
set_option maxRecDepth 100000 in
theorem rB_superName_18 {Q : Int32 → rS → Prop} (X : CallFix p m c cX7_superName 2 s args wsX7_superName RX7) (hr : meth.sig.returnType = (some .int)) (hlk : meth.locks = false) (hR : 1 ≤ R.frames ∧ 21 ≤ R.locals) (hK : va_K (dC, dI) vwCl [(cI, .int), (cZ, .boolean)] s) (hA : ∀ q, s.heap.size ≤ q → A q) (y0 : Int32) (σ : rS) (H : Heap) (locs : List Loc) (ls : Array Slot) (hl : lv_has ls 2 [(0, .ref h)]) (hO : rO dC dI h a cI cZ A s.heap σ H locs) (hw : R_superName_b18 Q y0 σ) : W p l e R s m args below meth c H locs 0 0 (MQ below (va_Qi Q (rAt dC dI A h a cI cZ) A) args s 0 0 A) (F0 m 18 ls [.int y0]) := by
  unfold R_superName_b18 at hw
  exact W.iret (v := y0) X.1 X.2.1 hr (fun t ht hW => ⟨⟨y0, σ, rfl, hw, rO_end hO hK ht hW⟩, hO.2.2.F ht⟩) hO.2.2.2.2 dX7_superName_18 hlk
def R_superName_b0 (Q : Int32 → rS → Prop) (x1 : Int32) (σ : rS) : Prop :=
 R_isClass_w (fun r2 t2 => (r2 = 0 → R_superName_b18 Q (-1 : Int32) t2) ∧ (¬ r2 = 0 → vp_in x1 16 ∧ R_superName_b18 Q (t2.2 11 x1.toNatClampNeg) t2)) x1 σ
set_option maxHeartbeats 4000000 in
set_option maxRecDepth 100000 in
theorem rB_superName_0 {Q : Int32 → rS → Prop} (X : CallFix p m c cX7_superName 2 s args wsX7_superName RX7) (hr : meth.sig.returnType = (some .int)) (hlk : meth.locks = false) (hR : 1 ≤ R.frames ∧ 21 ≤ R.locals) (hK : va_K (dC, dI) vwCl [(cI, .int), (cZ, .boolean)] s) (hA : ∀ q, s.heap.size ≤ q → A q) (x1 : Int32) (σ : rS) (H : Heap) (locs : List Loc) (ls : Array Slot) (hl : lv_has ls 2 [(0, .ref h), (1, .int x1)]) (hO : rO dC dI h a cI cZ A s.heap σ H locs) (hw : R_superName_b0 Q x1 σ) : W p l e R s m args below meth c H locs 0 0 (MQ below (va_Qi Q (rAt dC dI A h a cI cZ) A) args s 0 0 A) (F0 m 0 ls []) := by
  unfold R_superName_b0 at hw
  refine lv_aload_n X.1 X.2.1 dX7_superName_0 rfl (lv_at hl 0 rfl) ?_
  refine lv_iload_n X.1 X.2.1 dX7_superName_1 rfl (lv_at hl 1 rfl) ?_
  refine r_calli (rest := []) (As := [.int x1]) X (rC_isClass l dC dI h a cI cZ σ H.size x1 _ hw) (cwV 1 X.2.2.2.2 gX7_isClass rfl rfl rfl hdX7_isClass ⟨Nat.le_trans (by decide) hR.1, Nat.le_trans (by decide) hR.2⟩) hK hA hO rfl hl.1 rfl (Nat.le_of_ble_eq_true rfl) dX7_superName_2 (fun r2 t2 H locs hO hw => ?_)
  refine lv_if_eq (tgt := 17) X.1 X.2.1 dX7_superName_5 rfl (fun hc9 => ?_) (fun hc9 => ?_)
  · have hw := hw.1 hc9
    refine lv_iconst (v := -1) X.1 X.2.1 dX7_superName_17 (by decide) ?_
    exact rB_superName_18 X hr hlk hR hK hA (-1 : Int32) t2 H locs ls (lv_sub hl [0] rfl) hO hw
  · have hw := hw.2 hc9
    refine lv_aload_n X.1 X.2.1 dX7_superName_8 rfl (lv_at hl 0 rfl) ?_
    refine rf_above X hK hO dX7_superName_9 ?_
    refine lv_iload_n X.1 X.2.1 dX7_superName_12 rfl (lv_at hl 1 rfl) ?_
    obtain ⟨g13, hw⟩ := hw
    refine ra_above X.1 X.2.1 hK hO g13 dX7_superName_13 ?_
    refine lv_goto (tgt := 18) X.1 X.2.1 dX7_superName_14 rfl ?_
    exact rB_superName_18 X hr hlk hR hK hA (t2.2 11 x1.toNatClampNeg) t2 H locs ls (lv_sub hl [0] rfl) hO hw
def R_superName_w (Q : Int32 → rS → Prop) (x1 : Int32) (σ : rS) : Prop := R_superName_b0 Q x1 σ
abbrev rmX7_superName : Room := { frames := 1, cells := 0, slots := 0, locals := 21 }
set_option maxHeartbeats 4000000 in
set_option maxRecDepth 100000 in
theorem rC_superName (l : Launch) (dC : Nat → ClassId) (dI : Nat → Nat → Nat) (h : Nat) (a : Nat → Nat) (cI cZ : ClassId) (σ : rS) (sz : Nat) (x1 : Int32) (Q : Int32 → rS → Prop) (hw : R_superName_w Q x1 σ) : Met l yX7_superName wsX7_superName rmX7_superName (rPc dC dI h a cI cZ sz σ [.ref h, .int x1]) (va_Qi Q (rAt dC dI (va_A (rCells h a cI cZ σ) sz) h a cI cZ) (va_A (rCells h a cI cZ σ) sz)) 0 0 (va_A (rCells h a cI cZ σ) sz) := by
  refine Met.ofW (cc := cX7_superName) (maxL := 2) (ret := (some .int)) (by decide) rfl ?_
  intro p e s m args below meth c s₁ B hml hv
  obtain ⟨hargs, hsz, hP, hK, hD0⟩ := hv
  have hts := atoms_spec (ws := wsX7_superName) B.pre
  have hown : s.vm.findClass RX7 = some m.cls := findClass_of_methodNamed B.named
  subst hsz
  subst hargs
  have hD := hD0.self (sz := s.heap.size)
  generalize hAe : va_A (rCells h a cI cZ σ) s.heap.size = A at hD ⊢
  have hA : ∀ q : Nat, s.heap.size ≤ q → A q := fun q h => by rw [← hAe]; exact Or.inr h
  have hl := lv_entry ([.ref h, .int x1]) (n := 2) (Nat.le_of_ble_eq_true rfl)
  rw [lg_entry_eq]
  generalize (lg_sl ([.ref h, .int x1]) ++ List.replicate (2 - (lg_sl ([.ref h, .int x1])).length) Slot.unset).toArray = ls at hl ⊢
  have hl : lv_has ls 2 [(0, .ref h), (1, .int x1)] := hl
  unfold R_superName_w at hw
  exact rB_superName_0 ⟨B.exec, B.bytes, hml, hown, hts⟩ B.returns B.notSynchronized ⟨Nat.le_of_ble_eq_true rfl, Nat.le_of_ble_eq_true rfl⟩ hK hA x1 σ s.heap [] ls (lv_sub hl [0, 1] rfl) ⟨hP, hD, va_S.rf⟩ hw
def R_typeOf_b0 (Q : Int32 → rS → Prop) (x1 : Int32) (x2 : Int32) (σ : rS) : Prop :=
 vp_in (((4 : Int32) * x1) + x2) 64 ∧ vp_in (σ.2 16 (((4 : Int32) * x1) + x2).toNatClampNeg) 1920 ∧ vp_in (((13 : Int32) * x1) + (σ.2 2 (σ.2 16 (((4 : Int32) * x1) + x2).toNatClampNeg).toNatClampNeg)) 208 ∧ Q (σ.2 8 (((13 : Int32) * x1) + (σ.2 2 (σ.2 16 (((4 : Int32) * x1) + x2).toNatClampNeg).toNatClampNeg)).toNatClampNeg) σ
set_option maxHeartbeats 4000000 in
set_option maxRecDepth 100000 in
theorem rB_typeOf_0 {Q : Int32 → rS → Prop} (X : CallFix p m c cX7_typeOf 3 s args wsX7_typeOf RX7) (hr : meth.sig.returnType = (some .int)) (hlk : meth.locks = false) (hR : 0 ≤ R.frames ∧ 0 ≤ R.locals) (hK : va_K (dC, dI) vwCl [(cI, .int), (cZ, .boolean)] s) (hA : ∀ q, s.heap.size ≤ q → A q) (x1 : Int32) (x2 : Int32) (σ : rS) (H : Heap) (locs : List Loc) (ls : Array Slot) (hl : lv_has ls 3 [(0, .ref h), (1, .int x1), (2, .int x2)]) (hO : rO dC dI h a cI cZ A s.heap σ H locs) (hw : R_typeOf_b0 Q x1 x2 σ) : W p l e R s m args below meth c H locs 0 0 (MQ below (va_Qi Q (rAt dC dI A h a cI cZ) A) args s 0 0 A) (F0 m 0 ls []) := by
  unfold R_typeOf_b0 at hw
  refine lv_aload_n X.1 X.2.1 dX7_typeOf_0 rfl (lv_at hl 0 rfl) ?_
  refine rf_text X hK hO dX7_typeOf_1 ?_
  refine lv_bipush (v := 13) X.1 X.2.1 dX7_typeOf_4 (by decide) ?_
  refine lv_iload_n X.1 X.2.1 dX7_typeOf_6 rfl (lv_at hl 1 rfl) ?_
  refine lv_imul X.1 X.2.1 dX7_typeOf_7 ?_
  refine lv_aload_n X.1 X.2.1 dX7_typeOf_8 rfl (lv_at hl 0 rfl) ?_
  refine rf_bytes X hK hO dX7_typeOf_9 ?_
  refine lv_aload_n X.1 X.2.1 dX7_typeOf_12 rfl (lv_at hl 0 rfl) ?_
  refine rf_note X hK hO dX7_typeOf_13 ?_
  refine lv_iconst (v := 4) X.1 X.2.1 dX7_typeOf_16 (by decide) ?_
  refine lv_iload_n X.1 X.2.1 dX7_typeOf_17 rfl (lv_at hl 1 rfl) ?_
  refine lv_imul X.1 X.2.1 dX7_typeOf_18 ?_
  refine lv_iload_n X.1 X.2.1 dX7_typeOf_19 rfl (lv_at hl 2 rfl) ?_
  refine lv_iadd X.1 X.2.1 dX7_typeOf_20 ?_
  obtain ⟨g21, hw⟩ := hw
  refine ra_note X.1 X.2.1 hK hO g21 dX7_typeOf_21 ?_
  obtain ⟨g22, hw⟩ := hw
  refine ra_bytes X.1 X.2.1 hK hO g22 dX7_typeOf_22 ?_
  refine lv_iadd X.1 X.2.1 dX7_typeOf_23 ?_
  obtain ⟨g24, hw⟩ := hw
  refine ra_text X.1 X.2.1 hK hO g24 dX7_typeOf_24 ?_
  exact W.iret (v := (σ.2 8 (((13 : Int32) * x1) + (σ.2 2 (σ.2 16 (((4 : Int32) * x1) + x2).toNatClampNeg).toNatClampNeg)).toNatClampNeg)) X.1 X.2.1 hr (fun t ht hW => ⟨⟨(σ.2 8 (((13 : Int32) * x1) + (σ.2 2 (σ.2 16 (((4 : Int32) * x1) + x2).toNatClampNeg).toNatClampNeg)).toNatClampNeg), σ, rfl, hw, rO_end hO hK ht hW⟩, hO.2.2.F ht⟩) hO.2.2.2.2 dX7_typeOf_25 hlk
def R_typeOf_w (Q : Int32 → rS → Prop) (x1 : Int32) (x2 : Int32) (σ : rS) : Prop := R_typeOf_b0 Q x1 x2 σ
abbrev rmX7_typeOf : Room := { frames := 0, cells := 0, slots := 0, locals := 0 }
set_option maxHeartbeats 4000000 in
set_option maxRecDepth 100000 in
theorem rC_typeOf (l : Launch) (dC : Nat → ClassId) (dI : Nat → Nat → Nat) (h : Nat) (a : Nat → Nat) (cI cZ : ClassId) (σ : rS) (sz : Nat) (x1 : Int32) (x2 : Int32) (Q : Int32 → rS → Prop) (hw : R_typeOf_w Q x1 x2 σ) : Met l yX7_typeOf wsX7_typeOf rmX7_typeOf (rPc dC dI h a cI cZ sz σ [.ref h, .int x1, .int x2]) (va_Qi Q (rAt dC dI (va_A (rCells h a cI cZ σ) sz) h a cI cZ) (va_A (rCells h a cI cZ σ) sz)) 0 0 (va_A (rCells h a cI cZ σ) sz) := by
  refine Met.ofW (cc := cX7_typeOf) (maxL := 3) (ret := (some .int)) (by decide) rfl ?_
  intro p e s m args below meth c s₁ B hml hv
  obtain ⟨hargs, hsz, hP, hK, hD0⟩ := hv
  have hts := atoms_spec (ws := wsX7_typeOf) B.pre
  have hown : s.vm.findClass RX7 = some m.cls := findClass_of_methodNamed B.named
  subst hsz
  subst hargs
  have hD := hD0.self (sz := s.heap.size)
  generalize hAe : va_A (rCells h a cI cZ σ) s.heap.size = A at hD ⊢
  have hA : ∀ q : Nat, s.heap.size ≤ q → A q := fun q h => by rw [← hAe]; exact Or.inr h
  have hl := lv_entry ([.ref h, .int x1, .int x2]) (n := 3) (Nat.le_of_ble_eq_true rfl)
  rw [lg_entry_eq]
  generalize (lg_sl ([.ref h, .int x1, .int x2]) ++ List.replicate (3 - (lg_sl ([.ref h, .int x1, .int x2])).length) Slot.unset).toArray = ls at hl ⊢
  have hl : lv_has ls 3 [(0, .ref h), (1, .int x1), (2, .int x2)] := hl
  unfold R_typeOf_w at hw
  exact rB_typeOf_0 ⟨B.exec, B.bytes, hml, hown, hts⟩ B.returns B.notSynchronized ⟨Nat.le_of_ble_eq_true rfl, Nat.le_of_ble_eq_true rfl⟩ hK hA x1 x2 σ s.heap [] ls (lv_sub hl [0, 1, 2] rfl) ⟨hP, hD, va_S.rf⟩ hw
def R_markAbove_b143 (Q : Int32 → rS → Prop) (x3 : Int32) (σ : rS) : Prop :=
 zb x3 ∧ Q x3 σ
set_option maxHeartbeats 4000000 in
set_option maxRecDepth 100000 in
theorem rB_markAbove_143 {Q : Int32 → rS → Prop} (X : CallFix p m c cX7_markAbove 7 s args wsX7_markAbove RX7) (hr : meth.sig.returnType = (some .boolean)) (hlk : meth.locks = false) (hR : 1 ≤ R.frames ∧ 22 ≤ R.locals) (hK : va_K (dC, dI) vwCl [(cI, .int), (cZ, .boolean)] s) (hA : ∀ q, s.heap.size ≤ q → A q) (x3 : Int32) (σ : rS) (H : Heap) (locs : List Loc) (ls : Array Slot) (hl : lv_has ls 7 [(0, .ref h), (3, .int x3)]) (hO : rO dC dI h a cI cZ A s.heap σ H locs) (hw : R_markAbove_b143 Q x3 σ) : W p l e R s m args below meth c H locs 0 0 (MQ below (va_Qi Q (rAt dC dI A h a cI cZ) A) args s 0 0 A) (F0 m 143 ls []) := by
  unfold R_markAbove_b143 at hw
  refine lv_iload_n X.1 X.2.1 dX7_markAbove_143 rfl (lv_at hl 1 rfl) ?_
  obtain ⟨hz, hw⟩ := hw
  exact W.zret (v := x3) X.1 X.2.1 hr hz (fun t ht hW => ⟨⟨x3, σ, rfl, hw, rO_end hO hK ht hW⟩, hO.2.2.F ht⟩) hO.2.2.2.2 dX7_markAbove_144 hlk
def R_markAbove_b130 (Q : Int32 → rS → Prop) (x1 : Int32) (y0 : Int32) (σ : rS) : Prop :=
 vp_in x1 16 ∧ vp_in (σ.2 11 x1.toNatClampNeg) 192 ∧ ∀ t142 : rS, t142 = rA σ 27 (σ.2 11 x1.toNatClampNeg) (vp_nar .boolean (1 : Int32)) → R_markAbove_b143 Q y0 t142
set_option maxHeartbeats 4000000 in
set_option maxRecDepth 100000 in
theorem rB_markAbove_130 {Q : Int32 → rS → Prop} (X : CallFix p m c cX7_markAbove 7 s args wsX7_markAbove RX7) (hr : meth.sig.returnType = (some .boolean)) (hlk : meth.locks = false) (hR : 1 ≤ R.frames ∧ 22 ≤ R.locals) (hK : va_K (dC, dI) vwCl [(cI, .int), (cZ, .boolean)] s) (hA : ∀ q, s.heap.size ≤ q → A q) (x1 : Int32) (y0 : Int32) (σ : rS) (H : Heap) (locs : List Loc) (ls : Array Slot) (hl : lv_has ls 7 [(0, .ref h), (1, .int x1)]) (hO : rO dC dI h a cI cZ A s.heap σ H locs) (hw : R_markAbove_b130 Q x1 y0 σ) : W p l e R s m args below meth c H locs 0 0 (MQ below (va_Qi Q (rAt dC dI A h a cI cZ) A) args s 0 0 A) (F0 m 130 ls [.int y0]) := by
  unfold R_markAbove_b130 at hw
  refine lv_istore_n (lv' := [(3, .int y0), (0, .ref h), (1, .int x1)]) X.1 X.2.1 dX7_markAbove_130 rfl hl (by decide) rfl (fun ls hl => ?_)
  refine lv_aload_n X.1 X.2.1 dX7_markAbove_131 rfl (lv_at hl 1 rfl) ?_
  refine rf_marked X hK hO dX7_markAbove_132 ?_
  refine lv_aload_n X.1 X.2.1 dX7_markAbove_135 rfl (lv_at hl 1 rfl) ?_
  refine rf_above X hK hO dX7_markAbove_136 ?_
  refine lv_iload_n X.1 X.2.1 dX7_markAbove_139 rfl (lv_at hl 2 rfl) ?_
  obtain ⟨g140, hw⟩ := hw
  refine ra_above X.1 X.2.1 hK hO g140 dX7_markAbove_140 ?_
  refine lv_iconst (v := 1) X.1 X.2.1 dX7_markAbove_141 (by decide) ?_
  obtain ⟨g142, hw⟩ := hw
  refine rs_marked X.1 X.2.1 hK hO g142 dX7_markAbove_142 (fun H locs hO => ?_)
  obtain ⟨t142, e142⟩ : ∃ z, z = rA σ 27 (σ.2 11 x1.toNatClampNeg) (vp_nar .boolean (1 : Int32)) := ⟨_, rfl⟩
  have hw := hw t142 e142
  rw [← e142] at hO
  exact rB_markAbove_143 X hr hlk hR hK hA y0 t142 H locs ls (lv_sub hl [1, 0] rfl) hO hw
def R_markAbove_b125 (Q : Int32 → rS → Prop) (x1 : Int32) (σ : rS) : Prop :=
 R_markAbove_b130 Q x1 (1 : Int32) σ
set_option maxHeartbeats 4000000 in
set_option maxRecDepth 100000 in
theorem rB_markAbove_125 {Q : Int32 → rS → Prop} (X : CallFix p m c cX7_markAbove 7 s args wsX7_markAbove RX7) (hr : meth.sig.returnType = (some .boolean)) (hlk : meth.locks = false) (hR : 1 ≤ R.frames ∧ 22 ≤ R.locals) (hK : va_K (dC, dI) vwCl [(cI, .int), (cZ, .boolean)] s) (hA : ∀ q, s.heap.size ≤ q → A q) (x1 : Int32) (σ : rS) (H : Heap) (locs : List Loc) (ls : Array Slot) (hl : lv_has ls 7 [(0, .ref h), (1, .int x1)]) (hO : rO dC dI h a cI cZ A s.heap σ H locs) (hw : R_markAbove_b125 Q x1 σ) : W p l e R s m args below meth c H locs 0 0 (MQ below (va_Qi Q (rAt dC dI A h a cI cZ) A) args s 0 0 A) (F0 m 125 ls []) := by
  unfold R_markAbove_b125 at hw
  refine lv_iconst (v := 1) X.1 X.2.1 dX7_markAbove_125 (by decide) ?_
  refine lv_goto (tgt := 130) X.1 X.2.1 dX7_markAbove_126 rfl ?_
  exact rB_markAbove_130 X hr hlk hR hK hA x1 (1 : Int32) σ H locs ls (lv_sub hl [0, 1] rfl) hO hw
def R_markAbove_b79 (Q : Int32 → rS → Prop) (K26 : Int32 → Int32 → Int32 → Int32 → Int32 → rS → Prop) (x1 : Int32) (x2 : Int32) (x4 : Int32) (x5 : Int32) (x6 : Int32) (y0 : Int32) (σ : rS) : Prop :=
 vp_in x6 192 ∧ ∀ t87 : rS, t87 = rA σ 27 x6 (vp_nar .boolean (1 : Int32)) → ∀ v88 : Int32, v88 = x5 + (1 : Int32) → K26 x1 x2 y0 x4 v88 t87
set_option maxHeartbeats 4000000 in
set_option maxRecDepth 100000 in
theorem rB_markAbove_79 {Q : Int32 → rS → Prop} {K26 : Int32 → Int32 → Int32 → Int32 → Int32 → rS → Prop} (X : CallFix p m c cX7_markAbove 7 s args wsX7_markAbove RX7) (hr : meth.sig.returnType = (some .boolean)) (hlk : meth.locks = false) (hR : 1 ≤ R.frames ∧ 22 ≤ R.locals) (hK : va_K (dC, dI) vwCl [(cI, .int), (cZ, .boolean)] s) (hA : ∀ q, s.heap.size ≤ q → A q) (k26 : ∀ (x1 : Int32) (x2 : Int32) (x3 : Int32) (x4 : Int32) (x5 : Int32) (σ : rS) (H : Heap) (locs : List Loc) (ls : Array Slot), lv_has ls 7 [(0, .ref h), (1, .int x1), (2, .int x2), (3, .int x3), (4, .int x4), (5, .int x5)] → rO dC dI h a cI cZ A s.heap σ H locs → K26 x1 x2 x3 x4 x5 σ → W p l e R s m args below meth c H locs 0 0 (MQ below (va_Qi Q (rAt dC dI A h a cI cZ) A) args s 0 0 A) (F0 m 26 ls [])) (x1 : Int32) (x2 : Int32) (x4 : Int32) (x5 : Int32) (x6 : Int32) (y0 : Int32) (σ : rS) (H : Heap) (locs : List Loc) (ls : Array Slot) (hl : lv_has ls 7 [(0, .ref h), (1, .int x1), (2, .int x2), (4, .int x4), (5, .int x5), (6, .int x6)]) (hO : rO dC dI h a cI cZ A s.heap σ H locs) (hw : R_markAbove_b79 Q K26 x1 x2 x4 x5 x6 y0 σ) : W p l e R s m args below meth c H locs 0 0 (MQ below (va_Qi Q (rAt dC dI A h a cI cZ) A) args s 0 0 A) (F0 m 79 ls [.int y0]) := by
  unfold R_markAbove_b79 at hw
  refine lv_istore_n (lv' := [(3, .int y0), (0, .ref h), (1, .int x1), (2, .int x2), (4, .int x4), (5, .int x5), (6, .int x6)]) X.1 X.2.1 dX7_markAbove_79 rfl hl (by decide) rfl (fun ls hl => ?_)
  refine lv_aload_n X.1 X.2.1 dX7_markAbove_80 rfl (lv_at hl 1 rfl) ?_
  refine rf_marked X hK hO dX7_markAbove_81 ?_
  refine lv_iload X.1 X.2.1 dX7_markAbove_84 (lv_at hl 6 rfl) ?_
  refine lv_iconst (v := 1) X.1 X.2.1 dX7_markAbove_86 (by decide) ?_
  obtain ⟨g87, hw⟩ := hw
  refine rs_marked X.1 X.2.1 hK hO g87 dX7_markAbove_87 (fun H locs hO => ?_)
  obtain ⟨t87, e87⟩ : ∃ z, z = rA σ 27 x6 (vp_nar .boolean (1 : Int32)) := ⟨_, rfl⟩
  have hw := hw t87 e87
  rw [← e87] at hO
  obtain ⟨v88, e88⟩ : ∃ z, z = x5 + (1 : Int32) := ⟨_, rfl⟩
  have hw := hw v88 e88
  refine lv_iinc (lv' := [(5, .int v88), (3, .int y0), (0, .ref h), (1, .int x1), (2, .int x2), (4, .int x4), (6, .int x6)]) (k := 5) (v := v88) X.1 X.2.1 dX7_markAbove_88 hl rfl (by rw [e88]; rfl) (by decide) rfl (fun ls hl => ?_)
  refine lv_goto (tgt := 26) X.1 X.2.1 dX7_markAbove_91 rfl ?_
  exact k26 x1 x2 y0 x4 v88 t87 H locs ls (lv_sub hl [2, 3, 4, 1, 5, 0] rfl) hO hw
def R_markAbove_b74 (Q : Int32 → rS → Prop) (K26 : Int32 → Int32 → Int32 → Int32 → Int32 → rS → Prop) (x1 : Int32) (x2 : Int32) (x4 : Int32) (x5 : Int32) (x6 : Int32) (σ : rS) : Prop :=
 R_markAbove_b79 Q K26 x1 x2 x4 x5 x6 (1 : Int32) σ
set_option maxHeartbeats 4000000 in
set_option maxRecDepth 100000 in
theorem rB_markAbove_74 {Q : Int32 → rS → Prop} {K26 : Int32 → Int32 → Int32 → Int32 → Int32 → rS → Prop} (X : CallFix p m c cX7_markAbove 7 s args wsX7_markAbove RX7) (hr : meth.sig.returnType = (some .boolean)) (hlk : meth.locks = false) (hR : 1 ≤ R.frames ∧ 22 ≤ R.locals) (hK : va_K (dC, dI) vwCl [(cI, .int), (cZ, .boolean)] s) (hA : ∀ q, s.heap.size ≤ q → A q) (k26 : ∀ (x1 : Int32) (x2 : Int32) (x3 : Int32) (x4 : Int32) (x5 : Int32) (σ : rS) (H : Heap) (locs : List Loc) (ls : Array Slot), lv_has ls 7 [(0, .ref h), (1, .int x1), (2, .int x2), (3, .int x3), (4, .int x4), (5, .int x5)] → rO dC dI h a cI cZ A s.heap σ H locs → K26 x1 x2 x3 x4 x5 σ → W p l e R s m args below meth c H locs 0 0 (MQ below (va_Qi Q (rAt dC dI A h a cI cZ) A) args s 0 0 A) (F0 m 26 ls [])) (x1 : Int32) (x2 : Int32) (x4 : Int32) (x5 : Int32) (x6 : Int32) (σ : rS) (H : Heap) (locs : List Loc) (ls : Array Slot) (hl : lv_has ls 7 [(0, .ref h), (1, .int x1), (2, .int x2), (4, .int x4), (5, .int x5), (6, .int x6)]) (hO : rO dC dI h a cI cZ A s.heap σ H locs) (hw : R_markAbove_b74 Q K26 x1 x2 x4 x5 x6 σ) : W p l e R s m args below meth c H locs 0 0 (MQ below (va_Qi Q (rAt dC dI A h a cI cZ) A) args s 0 0 A) (F0 m 74 ls []) := by
  unfold R_markAbove_b74 at hw
  refine lv_iconst (v := 1) X.1 X.2.1 dX7_markAbove_74 (by decide) ?_
  refine lv_goto (tgt := 79) X.1 X.2.1 dX7_markAbove_75 rfl ?_
  exact rB_markAbove_79 X hr hlk hR hK hA k26 x1 x2 x4 x5 x6 (1 : Int32) σ H locs ls (lv_sub hl [0, 1, 2, 3, 4, 5] rfl) hO hw
def R_markAbove_b58 (Q : Int32 → rS → Prop) (K26 : Int32 → Int32 → Int32 → Int32 → Int32 → rS → Prop) (x1 : Int32) (x2 : Int32) (x3 : Int32) (x4 : Int32) (x5 : Int32) (y0 : Int32) (σ : rS) : Prop :=
 (¬ x3 = 0 → R_markAbove_b74 Q K26 x1 x2 x4 x5 y0 σ) ∧ (x3 = 0 → vp_in y0 192 ∧ (¬ (σ.2 27 y0.toNatClampNeg) = 0 → R_markAbove_b79 Q K26 x1 x2 x4 x5 y0 (0 : Int32) σ) ∧ ((σ.2 27 y0.toNatClampNeg) = 0 → R_markAbove_b74 Q K26 x1 x2 x4 x5 y0 σ))
set_option maxHeartbeats 4000000 in
set_option maxRecDepth 100000 in
theorem rB_markAbove_58 {Q : Int32 → rS → Prop} {K26 : Int32 → Int32 → Int32 → Int32 → Int32 → rS → Prop} (X : CallFix p m c cX7_markAbove 7 s args wsX7_markAbove RX7) (hr : meth.sig.returnType = (some .boolean)) (hlk : meth.locks = false) (hR : 1 ≤ R.frames ∧ 22 ≤ R.locals) (hK : va_K (dC, dI) vwCl [(cI, .int), (cZ, .boolean)] s) (hA : ∀ q, s.heap.size ≤ q → A q) (k26 : ∀ (x1 : Int32) (x2 : Int32) (x3 : Int32) (x4 : Int32) (x5 : Int32) (σ : rS) (H : Heap) (locs : List Loc) (ls : Array Slot), lv_has ls 7 [(0, .ref h), (1, .int x1), (2, .int x2), (3, .int x3), (4, .int x4), (5, .int x5)] → rO dC dI h a cI cZ A s.heap σ H locs → K26 x1 x2 x3 x4 x5 σ → W p l e R s m args below meth c H locs 0 0 (MQ below (va_Qi Q (rAt dC dI A h a cI cZ) A) args s 0 0 A) (F0 m 26 ls [])) (x1 : Int32) (x2 : Int32) (x3 : Int32) (x4 : Int32) (x5 : Int32) (y0 : Int32) (σ : rS) (H : Heap) (locs : List Loc) (ls : Array Slot) (hl : lv_has ls 7 [(0, .ref h), (1, .int x1), (2, .int x2), (3, .int x3), (4, .int x4), (5, .int x5)]) (hO : rO dC dI h a cI cZ A s.heap σ H locs) (hw : R_markAbove_b58 Q K26 x1 x2 x3 x4 x5 y0 σ) : W p l e R s m args below meth c H locs 0 0 (MQ below (va_Qi Q (rAt dC dI A h a cI cZ) A) args s 0 0 A) (F0 m 58 ls [.int y0]) := by
  unfold R_markAbove_b58 at hw
  refine lv_istore (lv' := [(6, .int y0), (0, .ref h), (1, .int x1), (2, .int x2), (3, .int x3), (4, .int x4), (5, .int x5)]) X.1 X.2.1 dX7_markAbove_58 hl (by decide) rfl (fun ls hl => ?_)
  refine lv_iload_n X.1 X.2.1 dX7_markAbove_60 rfl (lv_at hl 4 rfl) ?_
  refine lv_if_ne (tgt := 74) X.1 X.2.1 dX7_markAbove_61 rfl (fun hc9 => ?_) (fun hc9 => ?_)
  · have hw := hw.1 hc9
    exact rB_markAbove_74 X hr hlk hR hK hA k26 x1 x2 x4 x5 y0 σ H locs ls (lv_sub hl [1, 2, 3, 5, 6, 0] rfl) hO hw
  · have hw := hw.2 hc9
    refine lv_aload_n X.1 X.2.1 dX7_markAbove_64 rfl (lv_at hl 1 rfl) ?_
    refine rf_marked X hK hO dX7_markAbove_65 ?_
    refine lv_iload X.1 X.2.1 dX7_markAbove_68 (lv_at hl 0 rfl) ?_
    obtain ⟨g70, hw⟩ := hw
    refine ra_marked X.1 X.2.1 hK hO g70 dX7_markAbove_70 ?_
    refine lv_if_ne (tgt := 78) X.1 X.2.1 dX7_markAbove_71 rfl (fun hc9 => ?_) (fun hc9 => ?_)
    · have hw := hw.1 hc9
      refine lv_iconst (v := 0) X.1 X.2.1 dX7_markAbove_78 (by decide) ?_
      exact rB_markAbove_79 X hr hlk hR hK hA k26 x1 x2 x4 x5 y0 (0 : Int32) σ H locs ls (lv_sub hl [1, 2, 3, 5, 6, 0] rfl) hO hw
    · have hw := hw.2 hc9
      exact rB_markAbove_74 X hr hlk hR hK hA k26 x1 x2 x4 x5 y0 σ H locs ls (lv_sub hl [1, 2, 3, 5, 6, 0] rfl) hO hw
def R_markAbove_b26_s (Q : Int32 → rS → Prop) (K26 : Int32 → Int32 → Int32 → Int32 → Int32 → rS → Prop) (x1 : Int32) (x2 : Int32) (x3 : Int32) (x4 : Int32) (x5 : Int32) (σ : rS) : Prop :=
 (x4 ≤ x5 → (¬ x2 = 0 → R_markAbove_b143 Q x3 σ) ∧ (x2 = 0 → vp_in x1 16 ∧ ((σ.2 11 x1.toNatClampNeg) < 0 → R_markAbove_b143 Q x3 σ) ∧ (¬ (σ.2 11 x1.toNatClampNeg) < 0 → (¬ x3 = 0 → R_markAbove_b125 Q x1 σ) ∧ (x3 = 0 → vp_in x1 16 ∧ vp_in (σ.2 11 x1.toNatClampNeg) 192 ∧ (¬ (σ.2 27 (σ.2 11 x1.toNatClampNeg).toNatClampNeg) = 0 → R_markAbove_b130 Q x1 (0 : Int32) σ) ∧ ((σ.2 27 (σ.2 11 x1.toNatClampNeg).toNatClampNeg) = 0 → R_markAbove_b125 Q x1 σ))))) ∧ (¬ x4 ≤ x5 → (x2 = 0 → vp_in (((4 : Int32) * x1) + x5) 64 ∧ R_markAbove_b58 Q K26 x1 x2 x3 x4 x5 (σ.2 14 (((4 : Int32) * x1) + x5).toNatClampNeg) σ) ∧ (¬ x2 = 0 → R_typeOf_w (fun r41 t41 => R_markAbove_b58 Q K26 x1 x2 x3 x4 x5 r41 t41) x1 x5 σ))
def R_markAbove_b26_f (Q : Int32 → rS → Prop) : (Int32 × Int32 × Int32 × Int32 × Int32 × rS → Prop) → Int32 × Int32 × Int32 × Int32 × Int32 × rS → Prop :=
 fun K z => R_markAbove_b26_s Q (fun x1 x2 x3 x4 x5 σ => K (x1, x2, x3, x4, x5, σ)) z.1 z.2.1 z.2.2.1 z.2.2.2.1 z.2.2.2.2.1 z.2.2.2.2.2
def R_markAbove_b26 (Q : Int32 → rS → Prop) (x1 : Int32) (x2 : Int32) (x3 : Int32) (x4 : Int32) (x5 : Int32) (σ : rS) : Prop := ∃ n, fx (R_markAbove_b26_f Q ) n (x1, x2, x3, x4, x5, σ)
set_option maxHeartbeats 4000000 in
set_option maxRecDepth 100000 in
theorem rB_markAbove_26 {Q : Int32 → rS → Prop} (X : CallFix p m c cX7_markAbove 7 s args wsX7_markAbove RX7) (hr : meth.sig.returnType = (some .boolean)) (hlk : meth.locks = false) (hR : 1 ≤ R.frames ∧ 22 ≤ R.locals) (hK : va_K (dC, dI) vwCl [(cI, .int), (cZ, .boolean)] s) (hA : ∀ q, s.heap.size ≤ q → A q) : ∀ (n : Nat) (x1 : Int32) (x2 : Int32) (x3 : Int32) (x4 : Int32) (x5 : Int32) (σ : rS) (H : Heap) (locs : List Loc) (ls : Array Slot), lv_has ls 7 [(0, .ref h), (1, .int x1), (2, .int x2), (3, .int x3), (4, .int x4), (5, .int x5)] → rO dC dI h a cI cZ A s.heap σ H locs → fx (R_markAbove_b26_f Q ) n (x1, x2, x3, x4, x5, σ) → W p l e R s m args below meth c H locs 0 0 (MQ below (va_Qi Q (rAt dC dI A h a cI cZ) A) args s 0 0 A) (F0 m 26 ls []) := by
  intro n
  induction n with
  | zero => intro x1 x2 x3 x4 x5 σ H locs ls hl hO hw; exact False.elim hw
  | succ n k26 =>
    intro x1 x2 x3 x4 x5 σ H locs ls hl hO hw
    have hw : R_markAbove_b26_s Q (fun x1 x2 x3 x4 x5 σ => fx (R_markAbove_b26_f Q ) n (x1, x2, x3, x4, x5, σ)) x1 x2 x3 x4 x5 σ := hw
    unfold R_markAbove_b26_s at hw
    refine lv_iload X.1 X.2.1 dX7_markAbove_26 (lv_at hl 5 rfl) ?_
    refine lv_iload X.1 X.2.1 dX7_markAbove_28 (lv_at hl 4 rfl) ?_
    refine lv_icmp_ge (tgt := 94) X.1 X.2.1 dX7_markAbove_30 rfl (fun hc9 => ?_) (fun hc9 => ?_)
    · have hw := hw.1 hc9
      refine lv_iload_n X.1 X.2.1 dX7_markAbove_94 rfl (lv_at hl 2 rfl) ?_
      refine lv_if_ne (tgt := 143) X.1 X.2.1 dX7_markAbove_95 rfl (fun hc9 => ?_) (fun hc9 => ?_)
      · have hw := hw.1 hc9
        exact rB_markAbove_143 X hr hlk hR hK hA x3 σ H locs ls (lv_sub hl [0, 3] rfl) hO hw
      · have hw := hw.2 hc9
        refine lv_aload_n X.1 X.2.1 dX7_markAbove_98 rfl (lv_at hl 0 rfl) ?_
        refine rf_above X hK hO dX7_markAbove_99 ?_
        refine lv_iload_n X.1 X.2.1 dX7_markAbove_102 rfl (lv_at hl 1 rfl) ?_
        obtain ⟨g103, hw⟩ := hw
        refine ra_above X.1 X.2.1 hK hO g103 dX7_markAbove_103 ?_
        refine lv_if_lt (tgt := 143) X.1 X.2.1 dX7_markAbove_104 rfl (fun hc9 => ?_) (fun hc9 => ?_)
        · have hw := hw.1 hc9
          exact rB_markAbove_143 X hr hlk hR hK hA x3 σ H locs ls (lv_sub hl [0, 3] rfl) hO hw
        · have hw := hw.2 hc9
          refine lv_iload_n X.1 X.2.1 dX7_markAbove_107 rfl (lv_at hl 3 rfl) ?_
          refine lv_if_ne (tgt := 125) X.1 X.2.1 dX7_markAbove_108 rfl (fun hc9 => ?_) (fun hc9 => ?_)
          · have hw := hw.1 hc9
            exact rB_markAbove_125 X hr hlk hR hK hA x1 σ H locs ls (lv_sub hl [0, 1] rfl) hO hw
          · have hw := hw.2 hc9
            refine lv_aload_n X.1 X.2.1 dX7_markAbove_111 rfl (lv_at hl 0 rfl) ?_
            refine rf_marked X hK hO dX7_markAbove_112 ?_
            refine lv_aload_n X.1 X.2.1 dX7_markAbove_115 rfl (lv_at hl 0 rfl) ?_
            refine rf_above X hK hO dX7_markAbove_116 ?_
            refine lv_iload_n X.1 X.2.1 dX7_markAbove_119 rfl (lv_at hl 1 rfl) ?_
            obtain ⟨g120, hw⟩ := hw
            refine ra_above X.1 X.2.1 hK hO g120 dX7_markAbove_120 ?_
            obtain ⟨g121, hw⟩ := hw
            refine ra_marked X.1 X.2.1 hK hO g121 dX7_markAbove_121 ?_
            refine lv_if_ne (tgt := 129) X.1 X.2.1 dX7_markAbove_122 rfl (fun hc9 => ?_) (fun hc9 => ?_)
            · have hw := hw.1 hc9
              refine lv_iconst (v := 0) X.1 X.2.1 dX7_markAbove_129 (by decide) ?_
              exact rB_markAbove_130 X hr hlk hR hK hA x1 (0 : Int32) σ H locs ls (lv_sub hl [0, 1] rfl) hO hw
            · have hw := hw.2 hc9
              exact rB_markAbove_125 X hr hlk hR hK hA x1 σ H locs ls (lv_sub hl [0, 1] rfl) hO hw
    · have hw := hw.2 hc9
      refine lv_iload_n X.1 X.2.1 dX7_markAbove_33 rfl (lv_at hl 2 rfl) ?_
      refine lv_if_eq (tgt := 47) X.1 X.2.1 dX7_markAbove_34 rfl (fun hc9 => ?_) (fun hc9 => ?_)
      · have hw := hw.1 hc9
        refine lv_aload_n X.1 X.2.1 dX7_markAbove_47 rfl (lv_at hl 0 rfl) ?_
        refine rf_face X hK hO dX7_markAbove_48 ?_
        refine lv_iconst (v := 4) X.1 X.2.1 dX7_markAbove_51 (by decide) ?_
        refine lv_iload_n X.1 X.2.1 dX7_markAbove_52 rfl (lv_at hl 1 rfl) ?_
        refine lv_imul X.1 X.2.1 dX7_markAbove_53 ?_
        refine lv_iload X.1 X.2.1 dX7_markAbove_54 (lv_at hl 5 rfl) ?_
        refine lv_iadd X.1 X.2.1 dX7_markAbove_56 ?_
        obtain ⟨g57, hw⟩ := hw
        refine ra_face X.1 X.2.1 hK hO g57 dX7_markAbove_57 ?_
        exact rB_markAbove_58 X hr hlk hR hK hA k26 x1 x2 x3 x4 x5 (σ.2 14 (((4 : Int32) * x1) + x5).toNatClampNeg) σ H locs ls (lv_sub hl [0, 1, 2, 3, 4, 5] rfl) hO hw
      · have hw := hw.2 hc9
        refine lv_aload_n X.1 X.2.1 dX7_markAbove_37 rfl (lv_at hl 0 rfl) ?_
        refine lv_iload_n X.1 X.2.1 dX7_markAbove_38 rfl (lv_at hl 1 rfl) ?_
        refine lv_iload X.1 X.2.1 dX7_markAbove_39 (lv_at hl 5 rfl) ?_
        refine r_calli (rest := []) (As := [.int x1, .int x5]) X (rC_typeOf l dC dI h a cI cZ σ H.size x1 x5 _ hw) (cwV 2 X.2.2.2.2 gX7_typeOf rfl rfl rfl hdX7_typeOf ⟨Nat.le_trans (by decide) hR.1, Nat.le_trans (by decide) hR.2⟩) hK hA hO rfl hl.1 rfl (Nat.le_of_ble_eq_true rfl) dX7_markAbove_41 (fun r41 t41 H locs hO hw => ?_)
        refine lv_goto (tgt := 58) X.1 X.2.1 dX7_markAbove_44 rfl ?_
        exact rB_markAbove_58 X hr hlk hR hK hA k26 x1 x2 x3 x4 x5 r41 t41 H locs ls (lv_sub hl [0, 1, 2, 3, 4, 5] rfl) hO hw
def R_markAbove_b21 (Q : Int32 → rS → Prop) (x1 : Int32) (x2 : Int32) (x3 : Int32) (y0 : Int32) (σ : rS) : Prop :=
 R_markAbove_b26 Q x1 x2 x3 y0 (0 : Int32) σ
set_option maxHeartbeats 4000000 in
set_option maxRecDepth 100000 in
theorem rB_markAbove_21 {Q : Int32 → rS → Prop} (X : CallFix p m c cX7_markAbove 7 s args wsX7_markAbove RX7) (hr : meth.sig.returnType = (some .boolean)) (hlk : meth.locks = false) (hR : 1 ≤ R.frames ∧ 22 ≤ R.locals) (hK : va_K (dC, dI) vwCl [(cI, .int), (cZ, .boolean)] s) (hA : ∀ q, s.heap.size ≤ q → A q) (x1 : Int32) (x2 : Int32) (x3 : Int32) (y0 : Int32) (σ : rS) (H : Heap) (locs : List Loc) (ls : Array Slot) (hl : lv_has ls 7 [(0, .ref h), (1, .int x1), (2, .int x2), (3, .int x3)]) (hO : rO dC dI h a cI cZ A s.heap σ H locs) (hw : R_markAbove_b21 Q x1 x2 x3 y0 σ) : W p l e R s m args below meth c H locs 0 0 (MQ below (va_Qi Q (rAt dC dI A h a cI cZ) A) args s 0 0 A) (F0 m 21 ls [.int y0]) := by
  unfold R_markAbove_b21 at hw
  refine lv_istore (lv' := [(4, .int y0), (0, .ref h), (1, .int x1), (2, .int x2), (3, .int x3)]) X.1 X.2.1 dX7_markAbove_21 hl (by decide) rfl (fun ls hl => ?_)
  refine lv_iconst (v := 0) X.1 X.2.1 dX7_markAbove_23 (by decide) ?_
  refine lv_istore (lv' := [(5, .int (0 : Int32)), (4, .int y0), (0, .ref h), (1, .int x1), (2, .int x2), (3, .int x3)]) X.1 X.2.1 dX7_markAbove_24 hl (by decide) rfl (fun ls hl => ?_)
  obtain ⟨n, hw⟩ := hw
  exact rB_markAbove_26 X hr hlk hR hK hA n x1 x2 x3 y0 (0 : Int32) σ H locs ls (lv_sub hl [2, 3, 4, 5, 1, 0] rfl) hO hw
def R_markAbove_b0 (Q : Int32 → rS → Prop) (x1 : Int32) (x2 : Int32) (σ : rS) : Prop :=
 (x2 = 0 → vp_in x1 16 ∧ R_markAbove_b21 Q x1 x2 (0 : Int32) (σ.2 13 x1.toNatClampNeg) σ) ∧ (¬ x2 = 0 → vp_in x1 16 ∧ R_markAbove_b21 Q x1 x2 (0 : Int32) (σ.2 15 x1.toNatClampNeg) σ)
set_option maxHeartbeats 4000000 in
set_option maxRecDepth 100000 in
theorem rB_markAbove_0 {Q : Int32 → rS → Prop} (X : CallFix p m c cX7_markAbove 7 s args wsX7_markAbove RX7) (hr : meth.sig.returnType = (some .boolean)) (hlk : meth.locks = false) (hR : 1 ≤ R.frames ∧ 22 ≤ R.locals) (hK : va_K (dC, dI) vwCl [(cI, .int), (cZ, .boolean)] s) (hA : ∀ q, s.heap.size ≤ q → A q) (x1 : Int32) (x2 : Int32) (σ : rS) (H : Heap) (locs : List Loc) (ls : Array Slot) (hl : lv_has ls 7 [(0, .ref h), (1, .int x1), (2, .int x2)]) (hO : rO dC dI h a cI cZ A s.heap σ H locs) (hw : R_markAbove_b0 Q x1 x2 σ) : W p l e R s m args below meth c H locs 0 0 (MQ below (va_Qi Q (rAt dC dI A h a cI cZ) A) args s 0 0 A) (F0 m 0 ls []) := by
  unfold R_markAbove_b0 at hw
  refine lv_iconst (v := 0) X.1 X.2.1 dX7_markAbove_0 (by decide) ?_
  refine lv_istore_n (lv' := [(3, .int (0 : Int32)), (0, .ref h), (1, .int x1), (2, .int x2)]) X.1 X.2.1 dX7_markAbove_1 rfl hl (by decide) rfl (fun ls hl => ?_)
  refine lv_iload_n X.1 X.2.1 dX7_markAbove_2 rfl (lv_at hl 3 rfl) ?_
  refine lv_if_eq (tgt := 15) X.1 X.2.1 dX7_markAbove_3 rfl (fun hc9 => ?_) (fun hc9 => ?_)
  · have hw := hw.1 hc9
    refine lv_aload_n X.1 X.2.1 dX7_markAbove_15 rfl (lv_at hl 1 rfl) ?_
    refine rf_faceCount X hK hO dX7_markAbove_16 ?_
    refine lv_iload_n X.1 X.2.1 dX7_markAbove_19 rfl (lv_at hl 2 rfl) ?_
    obtain ⟨g20, hw⟩ := hw
    refine ra_faceCount X.1 X.2.1 hK hO g20 dX7_markAbove_20 ?_
    exact rB_markAbove_21 X hr hlk hR hK hA x1 x2 (0 : Int32) (σ.2 13 x1.toNatClampNeg) σ H locs ls (lv_sub hl [1, 2, 3, 0] rfl) hO hw
  · have hw := hw.2 hc9
    refine lv_aload_n X.1 X.2.1 dX7_markAbove_6 rfl (lv_at hl 1 rfl) ?_
    refine rf_noteCount X hK hO dX7_markAbove_7 ?_
    refine lv_iload_n X.1 X.2.1 dX7_markAbove_10 rfl (lv_at hl 2 rfl) ?_
    obtain ⟨g11, hw⟩ := hw
    refine ra_noteCount X.1 X.2.1 hK hO g11 dX7_markAbove_11 ?_
    refine lv_goto (tgt := 21) X.1 X.2.1 dX7_markAbove_12 rfl ?_
    exact rB_markAbove_21 X hr hlk hR hK hA x1 x2 (0 : Int32) (σ.2 15 x1.toNatClampNeg) σ H locs ls (lv_sub hl [1, 2, 3, 0] rfl) hO hw
def R_markAbove_w (Q : Int32 → rS → Prop) (x1 : Int32) (x2 : Int32) (σ : rS) : Prop := R_markAbove_b0 Q x1 x2 σ
abbrev rmX7_markAbove : Room := { frames := 1, cells := 0, slots := 0, locals := 22 }
set_option maxHeartbeats 4000000 in
set_option maxRecDepth 100000 in
theorem rC_markAbove (l : Launch) (dC : Nat → ClassId) (dI : Nat → Nat → Nat) (h : Nat) (a : Nat → Nat) (cI cZ : ClassId) (σ : rS) (sz : Nat) (x1 : Int32) (x2 : Int32) (Q : Int32 → rS → Prop) (hw : R_markAbove_w Q x1 x2 σ) : Met l yX7_markAbove wsX7_markAbove rmX7_markAbove (rPc dC dI h a cI cZ sz σ [.ref h, .int x1, .int x2]) (va_Qi Q (rAt dC dI (va_A (rCells h a cI cZ σ) sz) h a cI cZ) (va_A (rCells h a cI cZ σ) sz)) 0 0 (va_A (rCells h a cI cZ σ) sz) := by
  refine Met.ofW (cc := cX7_markAbove) (maxL := 7) (ret := (some .boolean)) (by decide) rfl ?_
  intro p e s m args below meth c s₁ B hml hv
  obtain ⟨hargs, hsz, hP, hK, hD0⟩ := hv
  have hts := atoms_spec (ws := wsX7_markAbove) B.pre
  have hown : s.vm.findClass RX7 = some m.cls := findClass_of_methodNamed B.named
  subst hsz
  subst hargs
  have hD := hD0.self (sz := s.heap.size)
  generalize hAe : va_A (rCells h a cI cZ σ) s.heap.size = A at hD ⊢
  have hA : ∀ q : Nat, s.heap.size ≤ q → A q := fun q h => by rw [← hAe]; exact Or.inr h
  have hl := lv_entry ([.ref h, .int x1, .int x2]) (n := 7) (Nat.le_of_ble_eq_true rfl)
  rw [lg_entry_eq]
  generalize (lg_sl ([.ref h, .int x1, .int x2]) ++ List.replicate (7 - (lg_sl ([.ref h, .int x1, .int x2])).length) Slot.unset).toArray = ls at hl ⊢
  have hl : lv_has ls 7 [(0, .ref h), (1, .int x1), (2, .int x2)] := hl
  unfold R_markAbove_w at hw
  exact rB_markAbove_0 ⟨B.exec, B.bytes, hml, hown, hts⟩ B.returns B.notSynchronized ⟨Nat.le_of_ble_eq_true rfl, Nat.le_of_ble_eq_true rfl⟩ hK hA x1 x2 σ s.heap [] ls (lv_sub hl [0, 1, 2] rfl) ⟨hP, hD, va_S.rf⟩ hw
end
