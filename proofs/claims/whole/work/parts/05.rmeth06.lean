section
variable {p : Program} {l : Launch} {e : Env} {R : Room} {s : State} {m : MethodId} {args : Array Value} {below : List Frame} {meth : Method} {c : Code}
variable {dC : Nat → ClassId} {dI : Nat → Nat → Nat} {h : Nat} {a : Nat → Nat} {cI cZ : ClassId} {A : Nat → Prop}
def R_reaches_b126 (Q : Int32 → rS → Prop) (x2 : Int32) (σ : rS) : Prop :=
 vp_in x2 192 ∧ zb (σ.2 27 x2.toNatClampNeg) ∧ Q (σ.2 27 x2.toNatClampNeg) σ
set_option maxHeartbeats 4000000 in
set_option maxRecDepth 100000 in
theorem rB_reaches_126 {Q : Int32 → rS → Prop} (X : CallFix p m c cX7_reaches 8 s args wsX7_reaches RX7) (hr : meth.sig.returnType = (some .boolean)) (hlk : meth.locks = false) (hR : 2 ≤ R.frames ∧ 48 ≤ R.locals) (hK : va_K (dC, dI) vwCl [(cI, .int), (cZ, .boolean)] s) (hA : ∀ q, s.heap.size ≤ q → A q) (x2 : Int32) (σ : rS) (H : Heap) (locs : List Loc) (ls : Array Slot) (hl : lv_has ls 8 [(0, .ref h), (2, .int x2)]) (hO : rO dC dI h a cI cZ A s.heap σ H locs) (hw : R_reaches_b126 Q x2 σ) : W p l e R s m args below meth c H locs 0 0 (MQ below (va_Qi Q (rAt dC dI A h a cI cZ) A) args s 0 0 A) (F0 m 126 ls []) := by
  unfold R_reaches_b126 at hw
  refine lv_aload_n X.1 X.2.1 dX7_reaches_126 rfl (lv_at hl 0 rfl) ?_
  refine rf_marked X hK hO dX7_reaches_127 ?_
  refine lv_iload_n X.1 X.2.1 dX7_reaches_130 rfl (lv_at hl 1 rfl) ?_
  obtain ⟨g131, hw⟩ := hw
  refine ra_marked X.1 X.2.1 hK hO g131 dX7_reaches_131 ?_
  obtain ⟨hz, hw⟩ := hw
  exact W.zret (v := (σ.2 27 x2.toNatClampNeg)) X.1 X.2.1 hr hz (fun t ht hW => ⟨⟨(σ.2 27 x2.toNatClampNeg), σ, rfl, hw, rO_end hO hK ht hW⟩, hO.2.2.F ht⟩) hO.2.2.2.2 dX7_reaches_132 hlk
def R_reaches_b112 (Q : Int32 → rS → Prop) (K37 : Int32 → Int32 → Int32 → Int32 → rS → Prop) (K56 : Int32 → Int32 → Int32 → Int32 → Int32 → rS → Prop) (x2 : Int32) (x3 : Int32) (x5 : Int32) (x6 : Int32) (y0 : Int32) (σ : rS) : Prop :=
 ∀ v114 : Int32, v114 = x6 + (1 : Int32) → K56 x2 x3 y0 x5 v114 σ
set_option maxHeartbeats 4000000 in
set_option maxRecDepth 100000 in
theorem rB_reaches_112 {Q : Int32 → rS → Prop} {K37 : Int32 → Int32 → Int32 → Int32 → rS → Prop} {K56 : Int32 → Int32 → Int32 → Int32 → Int32 → rS → Prop} (X : CallFix p m c cX7_reaches 8 s args wsX7_reaches RX7) (hr : meth.sig.returnType = (some .boolean)) (hlk : meth.locks = false) (hR : 2 ≤ R.frames ∧ 48 ≤ R.locals) (hK : va_K (dC, dI) vwCl [(cI, .int), (cZ, .boolean)] s) (hA : ∀ q, s.heap.size ≤ q → A q) (k37 : ∀ (x2 : Int32) (x3 : Int32) (x4 : Int32) (x5 : Int32) (σ : rS) (H : Heap) (locs : List Loc) (ls : Array Slot), lv_has ls 8 [(0, .ref h), (2, .int x2), (3, .int x3), (4, .int x4), (5, .int x5)] → rO dC dI h a cI cZ A s.heap σ H locs → K37 x2 x3 x4 x5 σ → W p l e R s m args below meth c H locs 0 0 (MQ below (va_Qi Q (rAt dC dI A h a cI cZ) A) args s 0 0 A) (F0 m 37 ls [])) (k56 : ∀ (x2 : Int32) (x3 : Int32) (x4 : Int32) (x5 : Int32) (x6 : Int32) (σ : rS) (H : Heap) (locs : List Loc) (ls : Array Slot), lv_has ls 8 [(0, .ref h), (2, .int x2), (3, .int x3), (4, .int x4), (5, .int x5), (6, .int x6)] → rO dC dI h a cI cZ A s.heap σ H locs → K56 x2 x3 x4 x5 x6 σ → W p l e R s m args below meth c H locs 0 0 (MQ below (va_Qi Q (rAt dC dI A h a cI cZ) A) args s 0 0 A) (F0 m 56 ls [])) (x2 : Int32) (x3 : Int32) (x5 : Int32) (x6 : Int32) (y0 : Int32) (σ : rS) (H : Heap) (locs : List Loc) (ls : Array Slot) (hl : lv_has ls 8 [(0, .ref h), (2, .int x2), (3, .int x3), (5, .int x5), (6, .int x6)]) (hO : rO dC dI h a cI cZ A s.heap σ H locs) (hw : R_reaches_b112 Q K37 K56 x2 x3 x5 x6 y0 σ) : W p l e R s m args below meth c H locs 0 0 (MQ below (va_Qi Q (rAt dC dI A h a cI cZ) A) args s 0 0 A) (F0 m 112 ls [.int y0]) := by
  unfold R_reaches_b112 at hw
  refine lv_istore (lv' := [(4, .int y0), (0, .ref h), (2, .int x2), (3, .int x3), (5, .int x5), (6, .int x6)]) X.1 X.2.1 dX7_reaches_112 hl (by decide) rfl (fun ls hl => ?_)
  obtain ⟨v114, e114⟩ : ∃ z, z = x6 + (1 : Int32) := ⟨_, rfl⟩
  have hw := hw v114 e114
  refine lv_iinc (lv' := [(6, .int v114), (4, .int y0), (0, .ref h), (2, .int x2), (3, .int x3), (5, .int x5)]) (k := 5) (v := v114) X.1 X.2.1 dX7_reaches_114 hl rfl (by rw [e114]; rfl) (by decide) rfl (fun ls hl => ?_)
  refine lv_goto (tgt := 56) X.1 X.2.1 dX7_reaches_117 rfl ?_
  exact k56 x2 x3 y0 x5 v114 σ H locs ls (lv_sub hl [2, 3, 4, 1, 5, 0] rfl) hO hw
def R_reaches_b107 (Q : Int32 → rS → Prop) (K37 : Int32 → Int32 → Int32 → Int32 → rS → Prop) (K56 : Int32 → Int32 → Int32 → Int32 → Int32 → rS → Prop) (x2 : Int32) (x3 : Int32) (x5 : Int32) (x6 : Int32) (σ : rS) : Prop :=
 R_reaches_b112 Q K37 K56 x2 x3 x5 x6 (1 : Int32) σ
set_option maxHeartbeats 4000000 in
set_option maxRecDepth 100000 in
theorem rB_reaches_107 {Q : Int32 → rS → Prop} {K37 : Int32 → Int32 → Int32 → Int32 → rS → Prop} {K56 : Int32 → Int32 → Int32 → Int32 → Int32 → rS → Prop} (X : CallFix p m c cX7_reaches 8 s args wsX7_reaches RX7) (hr : meth.sig.returnType = (some .boolean)) (hlk : meth.locks = false) (hR : 2 ≤ R.frames ∧ 48 ≤ R.locals) (hK : va_K (dC, dI) vwCl [(cI, .int), (cZ, .boolean)] s) (hA : ∀ q, s.heap.size ≤ q → A q) (k37 : ∀ (x2 : Int32) (x3 : Int32) (x4 : Int32) (x5 : Int32) (σ : rS) (H : Heap) (locs : List Loc) (ls : Array Slot), lv_has ls 8 [(0, .ref h), (2, .int x2), (3, .int x3), (4, .int x4), (5, .int x5)] → rO dC dI h a cI cZ A s.heap σ H locs → K37 x2 x3 x4 x5 σ → W p l e R s m args below meth c H locs 0 0 (MQ below (va_Qi Q (rAt dC dI A h a cI cZ) A) args s 0 0 A) (F0 m 37 ls [])) (k56 : ∀ (x2 : Int32) (x3 : Int32) (x4 : Int32) (x5 : Int32) (x6 : Int32) (σ : rS) (H : Heap) (locs : List Loc) (ls : Array Slot), lv_has ls 8 [(0, .ref h), (2, .int x2), (3, .int x3), (4, .int x4), (5, .int x5), (6, .int x6)] → rO dC dI h a cI cZ A s.heap σ H locs → K56 x2 x3 x4 x5 x6 σ → W p l e R s m args below meth c H locs 0 0 (MQ below (va_Qi Q (rAt dC dI A h a cI cZ) A) args s 0 0 A) (F0 m 56 ls [])) (x2 : Int32) (x3 : Int32) (x5 : Int32) (x6 : Int32) (σ : rS) (H : Heap) (locs : List Loc) (ls : Array Slot) (hl : lv_has ls 8 [(0, .ref h), (2, .int x2), (3, .int x3), (5, .int x5), (6, .int x6)]) (hO : rO dC dI h a cI cZ A s.heap σ H locs) (hw : R_reaches_b107 Q K37 K56 x2 x3 x5 x6 σ) : W p l e R s m args below meth c H locs 0 0 (MQ below (va_Qi Q (rAt dC dI A h a cI cZ) A) args s 0 0 A) (F0 m 107 ls []) := by
  unfold R_reaches_b107 at hw
  refine lv_iconst (v := 1) X.1 X.2.1 dX7_reaches_107 (by decide) ?_
  refine lv_goto (tgt := 112) X.1 X.2.1 dX7_reaches_108 rfl ?_
  exact rB_reaches_112 X hr hlk hR hK hA k37 k56 x2 x3 x5 x6 (1 : Int32) σ H locs ls (lv_sub hl [0, 1, 2, 3, 4] rfl) hO hw
def R_reaches_b95 (Q : Int32 → rS → Prop) (K37 : Int32 → Int32 → Int32 → Int32 → rS → Prop) (K56 : Int32 → Int32 → Int32 → Int32 → Int32 → rS → Prop) (x2 : Int32) (x3 : Int32) (x4 : Int32) (x5 : Int32) (x6 : Int32) (y0 : Int32) (σ : rS) : Prop :=
 (¬ x4 = 0 → R_reaches_b107 Q K37 K56 x2 x3 x5 x6 σ) ∧ (x4 = 0 → (y0 = 0 → R_reaches_b112 Q K37 K56 x2 x3 x5 x6 (0 : Int32) σ) ∧ (¬ y0 = 0 → R_reaches_b107 Q K37 K56 x2 x3 x5 x6 σ))
set_option maxHeartbeats 4000000 in
set_option maxRecDepth 100000 in
theorem rB_reaches_95 {Q : Int32 → rS → Prop} {K37 : Int32 → Int32 → Int32 → Int32 → rS → Prop} {K56 : Int32 → Int32 → Int32 → Int32 → Int32 → rS → Prop} (X : CallFix p m c cX7_reaches 8 s args wsX7_reaches RX7) (hr : meth.sig.returnType = (some .boolean)) (hlk : meth.locks = false) (hR : 2 ≤ R.frames ∧ 48 ≤ R.locals) (hK : va_K (dC, dI) vwCl [(cI, .int), (cZ, .boolean)] s) (hA : ∀ q, s.heap.size ≤ q → A q) (k37 : ∀ (x2 : Int32) (x3 : Int32) (x4 : Int32) (x5 : Int32) (σ : rS) (H : Heap) (locs : List Loc) (ls : Array Slot), lv_has ls 8 [(0, .ref h), (2, .int x2), (3, .int x3), (4, .int x4), (5, .int x5)] → rO dC dI h a cI cZ A s.heap σ H locs → K37 x2 x3 x4 x5 σ → W p l e R s m args below meth c H locs 0 0 (MQ below (va_Qi Q (rAt dC dI A h a cI cZ) A) args s 0 0 A) (F0 m 37 ls [])) (k56 : ∀ (x2 : Int32) (x3 : Int32) (x4 : Int32) (x5 : Int32) (x6 : Int32) (σ : rS) (H : Heap) (locs : List Loc) (ls : Array Slot), lv_has ls 8 [(0, .ref h), (2, .int x2), (3, .int x3), (4, .int x4), (5, .int x5), (6, .int x6)] → rO dC dI h a cI cZ A s.heap σ H locs → K56 x2 x3 x4 x5 x6 σ → W p l e R s m args below meth c H locs 0 0 (MQ below (va_Qi Q (rAt dC dI A h a cI cZ) A) args s 0 0 A) (F0 m 56 ls [])) (x2 : Int32) (x3 : Int32) (x4 : Int32) (x5 : Int32) (x6 : Int32) (y0 : Int32) (σ : rS) (H : Heap) (locs : List Loc) (ls : Array Slot) (hl : lv_has ls 8 [(0, .ref h), (2, .int x2), (3, .int x3), (4, .int x4), (5, .int x5), (6, .int x6)]) (hO : rO dC dI h a cI cZ A s.heap σ H locs) (hw : R_reaches_b95 Q K37 K56 x2 x3 x4 x5 x6 y0 σ) : W p l e R s m args below meth c H locs 0 0 (MQ below (va_Qi Q (rAt dC dI A h a cI cZ) A) args s 0 0 A) (F0 m 95 ls [.int y0]) := by
  unfold R_reaches_b95 at hw
  refine lv_istore (lv' := [(7, .int y0), (0, .ref h), (2, .int x2), (3, .int x3), (4, .int x4), (5, .int x5), (6, .int x6)]) X.1 X.2.1 dX7_reaches_95 hl (by decide) rfl (fun ls hl => ?_)
  refine lv_iload X.1 X.2.1 dX7_reaches_97 (lv_at hl 4 rfl) ?_
  refine lv_if_ne (tgt := 107) X.1 X.2.1 dX7_reaches_99 rfl (fun hc9 => ?_) (fun hc9 => ?_)
  · have hw := hw.1 hc9
    exact rB_reaches_107 X hr hlk hR hK hA k37 k56 x2 x3 x5 x6 σ H locs ls (lv_sub hl [1, 2, 3, 5, 6] rfl) hO hw
  · have hw := hw.2 hc9
    refine lv_iload X.1 X.2.1 dX7_reaches_102 (lv_at hl 0 rfl) ?_
    refine lv_if_eq (tgt := 111) X.1 X.2.1 dX7_reaches_104 rfl (fun hc9 => ?_) (fun hc9 => ?_)
    · have hw := hw.1 hc9
      refine lv_iconst (v := 0) X.1 X.2.1 dX7_reaches_111 (by decide) ?_
      exact rB_reaches_112 X hr hlk hR hK hA k37 k56 x2 x3 x5 x6 (0 : Int32) σ H locs ls (lv_sub hl [1, 2, 3, 5, 6] rfl) hO hw
    · have hw := hw.2 hc9
      exact rB_reaches_107 X hr hlk hR hK hA k37 k56 x2 x3 x5 x6 σ H locs ls (lv_sub hl [1, 2, 3, 5, 6] rfl) hO hw
def R_reaches_b94 (Q : Int32 → rS → Prop) (K37 : Int32 → Int32 → Int32 → Int32 → rS → Prop) (K56 : Int32 → Int32 → Int32 → Int32 → Int32 → rS → Prop) (x2 : Int32) (x3 : Int32) (x4 : Int32) (x5 : Int32) (x6 : Int32) (σ : rS) : Prop :=
 R_reaches_b95 Q K37 K56 x2 x3 x4 x5 x6 (0 : Int32) σ
set_option maxHeartbeats 4000000 in
set_option maxRecDepth 100000 in
theorem rB_reaches_94 {Q : Int32 → rS → Prop} {K37 : Int32 → Int32 → Int32 → Int32 → rS → Prop} {K56 : Int32 → Int32 → Int32 → Int32 → Int32 → rS → Prop} (X : CallFix p m c cX7_reaches 8 s args wsX7_reaches RX7) (hr : meth.sig.returnType = (some .boolean)) (hlk : meth.locks = false) (hR : 2 ≤ R.frames ∧ 48 ≤ R.locals) (hK : va_K (dC, dI) vwCl [(cI, .int), (cZ, .boolean)] s) (hA : ∀ q, s.heap.size ≤ q → A q) (k37 : ∀ (x2 : Int32) (x3 : Int32) (x4 : Int32) (x5 : Int32) (σ : rS) (H : Heap) (locs : List Loc) (ls : Array Slot), lv_has ls 8 [(0, .ref h), (2, .int x2), (3, .int x3), (4, .int x4), (5, .int x5)] → rO dC dI h a cI cZ A s.heap σ H locs → K37 x2 x3 x4 x5 σ → W p l e R s m args below meth c H locs 0 0 (MQ below (va_Qi Q (rAt dC dI A h a cI cZ) A) args s 0 0 A) (F0 m 37 ls [])) (k56 : ∀ (x2 : Int32) (x3 : Int32) (x4 : Int32) (x5 : Int32) (x6 : Int32) (σ : rS) (H : Heap) (locs : List Loc) (ls : Array Slot), lv_has ls 8 [(0, .ref h), (2, .int x2), (3, .int x3), (4, .int x4), (5, .int x5), (6, .int x6)] → rO dC dI h a cI cZ A s.heap σ H locs → K56 x2 x3 x4 x5 x6 σ → W p l e R s m args below meth c H locs 0 0 (MQ below (va_Qi Q (rAt dC dI A h a cI cZ) A) args s 0 0 A) (F0 m 56 ls [])) (x2 : Int32) (x3 : Int32) (x4 : Int32) (x5 : Int32) (x6 : Int32) (σ : rS) (H : Heap) (locs : List Loc) (ls : Array Slot) (hl : lv_has ls 8 [(0, .ref h), (2, .int x2), (3, .int x3), (4, .int x4), (5, .int x5), (6, .int x6)]) (hO : rO dC dI h a cI cZ A s.heap σ H locs) (hw : R_reaches_b94 Q K37 K56 x2 x3 x4 x5 x6 σ) : W p l e R s m args below meth c H locs 0 0 (MQ below (va_Qi Q (rAt dC dI A h a cI cZ) A) args s 0 0 A) (F0 m 94 ls []) := by
  unfold R_reaches_b94 at hw
  refine lv_iconst (v := 0) X.1 X.2.1 dX7_reaches_94 (by decide) ?_
  exact rB_reaches_95 X hr hlk hR hK hA k37 k56 x2 x3 x4 x5 x6 (0 : Int32) σ H locs ls (lv_sub hl [0, 1, 2, 3, 4, 5] rfl) hO hw
def R_reaches_b56_s (Q : Int32 → rS → Prop) (K37 : Int32 → Int32 → Int32 → Int32 → rS → Prop) (K56 : Int32 → Int32 → Int32 → Int32 → Int32 → rS → Prop) (x2 : Int32) (x3 : Int32) (x4 : Int32) (x5 : Int32) (x6 : Int32) (σ : rS) : Prop :=
 ((σ.1 3) ≤ x6 → ∀ v120 : Int32, v120 = x5 + (1 : Int32) → K37 x2 x3 x4 v120 σ) ∧ (¬ (σ.1 3) ≤ x6 → vp_in x6 16 ∧ vp_in (σ.2 10 x6.toNatClampNeg) 192 ∧ ((σ.2 27 (σ.2 10 x6.toNatClampNeg).toNatClampNeg) = 0 → R_reaches_b94 Q K37 K56 x2 x3 x4 x5 x6 σ) ∧ (¬ (σ.2 27 (σ.2 10 x6.toNatClampNeg).toNatClampNeg) = 0 → R_markAbove_w (fun r84 t84 => (r84 = 0 → R_reaches_b94 Q K37 K56 x2 x3 x4 x5 x6 t84) ∧ (¬ r84 = 0 → R_reaches_b95 Q K37 K56 x2 x3 x4 x5 x6 (1 : Int32) t84)) x6 x3 σ))
def R_reaches_b56_f (Q : Int32 → rS → Prop) (K37 : Int32 → Int32 → Int32 → Int32 → rS → Prop) : (Int32 × Int32 × Int32 × Int32 × Int32 × rS → Prop) → Int32 × Int32 × Int32 × Int32 × Int32 × rS → Prop :=
 fun K z => R_reaches_b56_s Q K37 (fun x2 x3 x4 x5 x6 σ => K (x2, x3, x4, x5, x6, σ)) z.1 z.2.1 z.2.2.1 z.2.2.2.1 z.2.2.2.2.1 z.2.2.2.2.2
def R_reaches_b56 (Q : Int32 → rS → Prop) (K37 : Int32 → Int32 → Int32 → Int32 → rS → Prop) (x2 : Int32) (x3 : Int32) (x4 : Int32) (x5 : Int32) (x6 : Int32) (σ : rS) : Prop := ∃ n, fx (R_reaches_b56_f Q K37) n (x2, x3, x4, x5, x6, σ)
set_option maxHeartbeats 4000000 in
set_option maxRecDepth 100000 in
theorem rB_reaches_56 {Q : Int32 → rS → Prop} {K37 : Int32 → Int32 → Int32 → Int32 → rS → Prop} (X : CallFix p m c cX7_reaches 8 s args wsX7_reaches RX7) (hr : meth.sig.returnType = (some .boolean)) (hlk : meth.locks = false) (hR : 2 ≤ R.frames ∧ 48 ≤ R.locals) (hK : va_K (dC, dI) vwCl [(cI, .int), (cZ, .boolean)] s) (hA : ∀ q, s.heap.size ≤ q → A q) (k37 : ∀ (x2 : Int32) (x3 : Int32) (x4 : Int32) (x5 : Int32) (σ : rS) (H : Heap) (locs : List Loc) (ls : Array Slot), lv_has ls 8 [(0, .ref h), (2, .int x2), (3, .int x3), (4, .int x4), (5, .int x5)] → rO dC dI h a cI cZ A s.heap σ H locs → K37 x2 x3 x4 x5 σ → W p l e R s m args below meth c H locs 0 0 (MQ below (va_Qi Q (rAt dC dI A h a cI cZ) A) args s 0 0 A) (F0 m 37 ls [])) : ∀ (n : Nat) (x2 : Int32) (x3 : Int32) (x4 : Int32) (x5 : Int32) (x6 : Int32) (σ : rS) (H : Heap) (locs : List Loc) (ls : Array Slot), lv_has ls 8 [(0, .ref h), (2, .int x2), (3, .int x3), (4, .int x4), (5, .int x5), (6, .int x6)] → rO dC dI h a cI cZ A s.heap σ H locs → fx (R_reaches_b56_f Q K37) n (x2, x3, x4, x5, x6, σ) → W p l e R s m args below meth c H locs 0 0 (MQ below (va_Qi Q (rAt dC dI A h a cI cZ) A) args s 0 0 A) (F0 m 56 ls []) := by
  intro n
  induction n with
  | zero => intro x2 x3 x4 x5 x6 σ H locs ls hl hO hw; exact False.elim hw
  | succ n k56 =>
    intro x2 x3 x4 x5 x6 σ H locs ls hl hO hw
    have hw : R_reaches_b56_s Q K37 (fun x2 x3 x4 x5 x6 σ => fx (R_reaches_b56_f Q K37) n (x2, x3, x4, x5, x6, σ)) x2 x3 x4 x5 x6 σ := hw
    unfold R_reaches_b56_s at hw
    refine lv_iload X.1 X.2.1 dX7_reaches_56 (lv_at hl 5 rfl) ?_
    refine lv_aload_n X.1 X.2.1 dX7_reaches_58 rfl (lv_at hl 0 rfl) ?_
    refine rf_classes X hK hO dX7_reaches_59 ?_
    refine lv_icmp_ge (tgt := 120) X.1 X.2.1 dX7_reaches_62 rfl (fun hc9 => ?_) (fun hc9 => ?_)
    · have hw := hw.1 hc9
      obtain ⟨v120, e120⟩ : ∃ z, z = x5 + (1 : Int32) := ⟨_, rfl⟩
      have hw := hw v120 e120
      refine lv_iinc (lv' := [(5, .int v120), (0, .ref h), (2, .int x2), (3, .int x3), (4, .int x4), (6, .int x6)]) (k := 4) (v := v120) X.1 X.2.1 dX7_reaches_120 hl rfl (by rw [e120]; rfl) (by decide) rfl (fun ls hl => ?_)
      refine lv_goto (tgt := 37) X.1 X.2.1 dX7_reaches_123 rfl ?_
      exact k37 x2 x3 x4 v120 σ H locs ls (lv_sub hl [1, 2, 3, 4, 0] rfl) hO hw
    · have hw := hw.2 hc9
      refine lv_aload_n X.1 X.2.1 dX7_reaches_65 rfl (lv_at hl 0 rfl) ?_
      refine rf_marked X hK hO dX7_reaches_66 ?_
      refine lv_aload_n X.1 X.2.1 dX7_reaches_69 rfl (lv_at hl 0 rfl) ?_
      refine rf_self X hK hO dX7_reaches_70 ?_
      refine lv_iload X.1 X.2.1 dX7_reaches_73 (lv_at hl 5 rfl) ?_
      obtain ⟨g75, hw⟩ := hw
      refine ra_self X.1 X.2.1 hK hO g75 dX7_reaches_75 ?_
      obtain ⟨g76, hw⟩ := hw
      refine ra_marked X.1 X.2.1 hK hO g76 dX7_reaches_76 ?_
      refine lv_if_eq (tgt := 94) X.1 X.2.1 dX7_reaches_77 rfl (fun hc9 => ?_) (fun hc9 => ?_)
      · have hw := hw.1 hc9
        exact rB_reaches_94 X hr hlk hR hK hA k37 k56 x2 x3 x4 x5 x6 σ H locs ls (lv_sub hl [0, 1, 2, 3, 4, 5] rfl) hO hw
      · have hw := hw.2 hc9
        refine lv_aload_n X.1 X.2.1 dX7_reaches_80 rfl (lv_at hl 0 rfl) ?_
        refine lv_iload X.1 X.2.1 dX7_reaches_81 (lv_at hl 5 rfl) ?_
        refine lv_iload_n X.1 X.2.1 dX7_reaches_83 rfl (lv_at hl 2 rfl) ?_
        refine r_calli (rest := []) (As := [.int x6, .int x3]) X (rC_markAbove l dC dI h a cI cZ σ H.size x6 x3 _ hw) (cwV 2 X.2.2.2.2 gX7_markAbove rfl rfl rfl hdX7_markAbove ⟨Nat.le_trans (by decide) hR.1, Nat.le_trans (by decide) hR.2⟩) hK hA hO rfl hl.1 rfl (Nat.le_of_ble_eq_true rfl) dX7_reaches_84 (fun r84 t84 H locs hO hw => ?_)
        refine lv_if_eq (tgt := 94) X.1 X.2.1 dX7_reaches_87 rfl (fun hc9 => ?_) (fun hc9 => ?_)
        · have hw := hw.1 hc9
          exact rB_reaches_94 X hr hlk hR hK hA k37 k56 x2 x3 x4 x5 x6 t84 H locs ls (lv_sub hl [0, 1, 2, 3, 4, 5] rfl) hO hw
        · have hw := hw.2 hc9
          refine lv_iconst (v := 1) X.1 X.2.1 dX7_reaches_90 (by decide) ?_
          refine lv_goto (tgt := 95) X.1 X.2.1 dX7_reaches_91 rfl ?_
          exact rB_reaches_95 X hr hlk hR hK hA k37 k56 x2 x3 x4 x5 x6 (1 : Int32) t84 H locs ls (lv_sub hl [0, 1, 2, 3, 4, 5] rfl) hO hw
def R_reaches_b37_s (Q : Int32 → rS → Prop) (K37 : Int32 → Int32 → Int32 → Int32 → rS → Prop) (x2 : Int32) (x3 : Int32) (x4 : Int32) (x5 : Int32) (σ : rS) : Prop :=
 ((192 : Int32) < x5 → R_reaches_b126 Q x2 σ) ∧ (¬ (192 : Int32) < x5 → (x4 = 0 → R_reaches_b126 Q x2 σ) ∧ (¬ x4 = 0 → R_reaches_b56 Q K37 x2 x3 (0 : Int32) x5 (0 : Int32) σ))
def R_reaches_b37_f (Q : Int32 → rS → Prop) : (Int32 × Int32 × Int32 × Int32 × rS → Prop) → Int32 × Int32 × Int32 × Int32 × rS → Prop :=
 fun K z => R_reaches_b37_s Q (fun x2 x3 x4 x5 σ => K (x2, x3, x4, x5, σ)) z.1 z.2.1 z.2.2.1 z.2.2.2.1 z.2.2.2.2
def R_reaches_b37 (Q : Int32 → rS → Prop) (x2 : Int32) (x3 : Int32) (x4 : Int32) (x5 : Int32) (σ : rS) : Prop := ∃ n, fx (R_reaches_b37_f Q ) n (x2, x3, x4, x5, σ)
set_option maxHeartbeats 4000000 in
set_option maxRecDepth 100000 in
theorem rB_reaches_37 {Q : Int32 → rS → Prop} (X : CallFix p m c cX7_reaches 8 s args wsX7_reaches RX7) (hr : meth.sig.returnType = (some .boolean)) (hlk : meth.locks = false) (hR : 2 ≤ R.frames ∧ 48 ≤ R.locals) (hK : va_K (dC, dI) vwCl [(cI, .int), (cZ, .boolean)] s) (hA : ∀ q, s.heap.size ≤ q → A q) : ∀ (n : Nat) (x2 : Int32) (x3 : Int32) (x4 : Int32) (x5 : Int32) (σ : rS) (H : Heap) (locs : List Loc) (ls : Array Slot), lv_has ls 8 [(0, .ref h), (2, .int x2), (3, .int x3), (4, .int x4), (5, .int x5)] → rO dC dI h a cI cZ A s.heap σ H locs → fx (R_reaches_b37_f Q ) n (x2, x3, x4, x5, σ) → W p l e R s m args below meth c H locs 0 0 (MQ below (va_Qi Q (rAt dC dI A h a cI cZ) A) args s 0 0 A) (F0 m 37 ls []) := by
  intro n
  induction n with
  | zero => intro x2 x3 x4 x5 σ H locs ls hl hO hw; exact False.elim hw
  | succ n k37 =>
    intro x2 x3 x4 x5 σ H locs ls hl hO hw
    have hw : R_reaches_b37_s Q (fun x2 x3 x4 x5 σ => fx (R_reaches_b37_f Q ) n (x2, x3, x4, x5, σ)) x2 x3 x4 x5 σ := hw
    unfold R_reaches_b37_s at hw
    refine lv_iload X.1 X.2.1 dX7_reaches_37 (lv_at hl 4 rfl) ?_
    refine lv_sipush (v := 192) X.1 X.2.1 dX7_reaches_39 (by decide) ?_
    refine lv_icmp_gt (tgt := 126) X.1 X.2.1 dX7_reaches_42 rfl (fun hc9 => ?_) (fun hc9 => ?_)
    · have hw := hw.1 hc9
      exact rB_reaches_126 X hr hlk hR hK hA x2 σ H locs ls (lv_sub hl [0, 1] rfl) hO hw
    · have hw := hw.2 hc9
      refine lv_iload X.1 X.2.1 dX7_reaches_45 (lv_at hl 3 rfl) ?_
      refine lv_if_eq (tgt := 126) X.1 X.2.1 dX7_reaches_47 rfl (fun hc9 => ?_) (fun hc9 => ?_)
      · have hw := hw.1 hc9
        exact rB_reaches_126 X hr hlk hR hK hA x2 σ H locs ls (lv_sub hl [0, 1] rfl) hO hw
      · have hw := hw.2 hc9
        refine lv_iconst (v := 0) X.1 X.2.1 dX7_reaches_50 (by decide) ?_
        refine lv_istore (lv' := [(4, .int (0 : Int32)), (0, .ref h), (2, .int x2), (3, .int x3), (5, .int x5)]) X.1 X.2.1 dX7_reaches_51 hl (by decide) rfl (fun ls hl => ?_)
        refine lv_iconst (v := 0) X.1 X.2.1 dX7_reaches_53 (by decide) ?_
        refine lv_istore (lv' := [(6, .int (0 : Int32)), (4, .int (0 : Int32)), (0, .ref h), (2, .int x2), (3, .int x3), (5, .int x5)]) X.1 X.2.1 dX7_reaches_54 hl (by decide) rfl (fun ls hl => ?_)
        obtain ⟨n, hw⟩ := hw
        exact rB_reaches_56 X hr hlk hR hK hA k37 n x2 x3 (0 : Int32) x5 (0 : Int32) σ H locs ls (lv_sub hl [2, 3, 4, 1, 5, 0] rfl) hO hw
def R_reaches_b3_s (Q : Int32 → rS → Prop) (K3 : Int32 → Int32 → Int32 → Int32 → rS → Prop) (x1 : Int32) (x2 : Int32) (x3 : Int32) (x4 : Int32) (σ : rS) : Prop :=
 ((σ.1 5) ≤ x4 → R_markAbove_w (fun r29 t29 => R_reaches_b37 Q x2 x3 r29 (0 : Int32) t29) x1 x3 σ) ∧ (¬ (σ.1 5) ≤ x4 → vp_in x4 192 ∧ ∀ t19 : rS, t19 = rA σ 27 x4 (vp_nar .boolean (0 : Int32)) → ∀ v20 : Int32, v20 = x4 + (1 : Int32) → K3 x1 x2 x3 v20 t19)
def R_reaches_b3_f (Q : Int32 → rS → Prop) : (Int32 × Int32 × Int32 × Int32 × rS → Prop) → Int32 × Int32 × Int32 × Int32 × rS → Prop :=
 fun K z => R_reaches_b3_s Q (fun x1 x2 x3 x4 σ => K (x1, x2, x3, x4, σ)) z.1 z.2.1 z.2.2.1 z.2.2.2.1 z.2.2.2.2
def R_reaches_b3 (Q : Int32 → rS → Prop) (x1 : Int32) (x2 : Int32) (x3 : Int32) (x4 : Int32) (σ : rS) : Prop := ∃ n, fx (R_reaches_b3_f Q ) n (x1, x2, x3, x4, σ)
set_option maxHeartbeats 4000000 in
set_option maxRecDepth 100000 in
theorem rB_reaches_3 {Q : Int32 → rS → Prop} (X : CallFix p m c cX7_reaches 8 s args wsX7_reaches RX7) (hr : meth.sig.returnType = (some .boolean)) (hlk : meth.locks = false) (hR : 2 ≤ R.frames ∧ 48 ≤ R.locals) (hK : va_K (dC, dI) vwCl [(cI, .int), (cZ, .boolean)] s) (hA : ∀ q, s.heap.size ≤ q → A q) : ∀ (n : Nat) (x1 : Int32) (x2 : Int32) (x3 : Int32) (x4 : Int32) (σ : rS) (H : Heap) (locs : List Loc) (ls : Array Slot), lv_has ls 8 [(0, .ref h), (1, .int x1), (2, .int x2), (3, .int x3), (4, .int x4)] → rO dC dI h a cI cZ A s.heap σ H locs → fx (R_reaches_b3_f Q ) n (x1, x2, x3, x4, σ) → W p l e R s m args below meth c H locs 0 0 (MQ below (va_Qi Q (rAt dC dI A h a cI cZ) A) args s 0 0 A) (F0 m 3 ls []) := by
  intro n
  induction n with
  | zero => intro x1 x2 x3 x4 σ H locs ls hl hO hw; exact False.elim hw
  | succ n k3 =>
    intro x1 x2 x3 x4 σ H locs ls hl hO hw
    have hw : R_reaches_b3_s Q (fun x1 x2 x3 x4 σ => fx (R_reaches_b3_f Q ) n (x1, x2, x3, x4, σ)) x1 x2 x3 x4 σ := hw
    unfold R_reaches_b3_s at hw
    refine lv_iload X.1 X.2.1 dX7_reaches_3 (lv_at hl 4 rfl) ?_
    refine lv_aload_n X.1 X.2.1 dX7_reaches_5 rfl (lv_at hl 0 rfl) ?_
    refine rf_texts X hK hO dX7_reaches_6 ?_
    refine lv_icmp_ge (tgt := 26) X.1 X.2.1 dX7_reaches_9 rfl (fun hc9 => ?_) (fun hc9 => ?_)
    · have hw := hw.1 hc9
      refine lv_aload_n X.1 X.2.1 dX7_reaches_26 rfl (lv_at hl 0 rfl) ?_
      refine lv_iload_n X.1 X.2.1 dX7_reaches_27 rfl (lv_at hl 1 rfl) ?_
      refine lv_iload_n X.1 X.2.1 dX7_reaches_28 rfl (lv_at hl 3 rfl) ?_
      refine r_calli (rest := []) (As := [.int x1, .int x3]) X (rC_markAbove l dC dI h a cI cZ σ H.size x1 x3 _ hw) (cwV 2 X.2.2.2.2 gX7_markAbove rfl rfl rfl hdX7_markAbove ⟨Nat.le_trans (by decide) hR.1, Nat.le_trans (by decide) hR.2⟩) hK hA hO rfl hl.1 rfl (Nat.le_of_ble_eq_true rfl) dX7_reaches_29 (fun r29 t29 H locs hO hw => ?_)
      refine lv_istore (lv' := [(4, .int r29), (0, .ref h), (1, .int x1), (2, .int x2), (3, .int x3)]) X.1 X.2.1 dX7_reaches_32 hl (by decide) rfl (fun ls hl => ?_)
      refine lv_iconst (v := 0) X.1 X.2.1 dX7_reaches_34 (by decide) ?_
      refine lv_istore (lv' := [(5, .int (0 : Int32)), (4, .int r29), (0, .ref h), (1, .int x1), (2, .int x2), (3, .int x3)]) X.1 X.2.1 dX7_reaches_35 hl (by decide) rfl (fun ls hl => ?_)
      obtain ⟨n, hw⟩ := hw
      exact rB_reaches_37 X hr hlk hR hK hA n x2 x3 r29 (0 : Int32) t29 H locs ls (lv_sub hl [2, 4, 5, 1, 0] rfl) hO hw
    · have hw := hw.2 hc9
      refine lv_aload_n X.1 X.2.1 dX7_reaches_12 rfl (lv_at hl 0 rfl) ?_
      refine rf_marked X hK hO dX7_reaches_13 ?_
      refine lv_iload X.1 X.2.1 dX7_reaches_16 (lv_at hl 4 rfl) ?_
      refine lv_iconst (v := 0) X.1 X.2.1 dX7_reaches_18 (by decide) ?_
      obtain ⟨g19, hw⟩ := hw
      refine rs_marked X.1 X.2.1 hK hO g19 dX7_reaches_19 (fun H locs hO => ?_)
      obtain ⟨t19, e19⟩ : ∃ z, z = rA σ 27 x4 (vp_nar .boolean (0 : Int32)) := ⟨_, rfl⟩
      have hw := hw t19 e19
      rw [← e19] at hO
      obtain ⟨v20, e20⟩ : ∃ z, z = x4 + (1 : Int32) := ⟨_, rfl⟩
      have hw := hw v20 e20
      refine lv_iinc (lv' := [(4, .int v20), (0, .ref h), (1, .int x1), (2, .int x2), (3, .int x3)]) (k := 4) (v := v20) X.1 X.2.1 dX7_reaches_20 hl rfl (by rw [e20]; rfl) (by decide) rfl (fun ls hl => ?_)
      refine lv_goto (tgt := 3) X.1 X.2.1 dX7_reaches_23 rfl ?_
      exact k3 x1 x2 x3 v20 t19 H locs ls (lv_sub hl [1, 2, 3, 4, 0] rfl) hO hw
def R_reaches_b0 (Q : Int32 → rS → Prop) (x1 : Int32) (x2 : Int32) (x3 : Int32) (σ : rS) : Prop :=
 R_reaches_b3 Q x1 x2 x3 (0 : Int32) σ
set_option maxHeartbeats 4000000 in
set_option maxRecDepth 100000 in
theorem rB_reaches_0 {Q : Int32 → rS → Prop} (X : CallFix p m c cX7_reaches 8 s args wsX7_reaches RX7) (hr : meth.sig.returnType = (some .boolean)) (hlk : meth.locks = false) (hR : 2 ≤ R.frames ∧ 48 ≤ R.locals) (hK : va_K (dC, dI) vwCl [(cI, .int), (cZ, .boolean)] s) (hA : ∀ q, s.heap.size ≤ q → A q) (x1 : Int32) (x2 : Int32) (x3 : Int32) (σ : rS) (H : Heap) (locs : List Loc) (ls : Array Slot) (hl : lv_has ls 8 [(0, .ref h), (1, .int x1), (2, .int x2), (3, .int x3)]) (hO : rO dC dI h a cI cZ A s.heap σ H locs) (hw : R_reaches_b0 Q x1 x2 x3 σ) : W p l e R s m args below meth c H locs 0 0 (MQ below (va_Qi Q (rAt dC dI A h a cI cZ) A) args s 0 0 A) (F0 m 0 ls []) := by
  unfold R_reaches_b0 at hw
  refine lv_iconst (v := 0) X.1 X.2.1 dX7_reaches_0 (by decide) ?_
  refine lv_istore (lv' := [(4, .int (0 : Int32)), (0, .ref h), (1, .int x1), (2, .int x2), (3, .int x3)]) X.1 X.2.1 dX7_reaches_1 hl (by decide) rfl (fun ls hl => ?_)
  obtain ⟨n, hw⟩ := hw
  exact rB_reaches_3 X hr hlk hR hK hA n x1 x2 x3 (0 : Int32) σ H locs ls (lv_sub hl [1, 2, 3, 4, 0] rfl) hO hw
def R_reaches_w (Q : Int32 → rS → Prop) (x1 : Int32) (x2 : Int32) (x3 : Int32) (σ : rS) : Prop := R_reaches_b0 Q x1 x2 x3 σ
abbrev rmX7_reaches : Room := { frames := 2, cells := 0, slots := 0, locals := 48 }
set_option maxHeartbeats 4000000 in
set_option maxRecDepth 100000 in
theorem rC_reaches (l : Launch) (dC : Nat → ClassId) (dI : Nat → Nat → Nat) (h : Nat) (a : Nat → Nat) (cI cZ : ClassId) (σ : rS) (sz : Nat) (x1 : Int32) (x2 : Int32) (x3 : Int32) (Q : Int32 → rS → Prop) (hw : R_reaches_w Q x1 x2 x3 σ) : Met l yX7_reaches wsX7_reaches rmX7_reaches (rPc dC dI h a cI cZ sz σ [.ref h, .int x1, .int x2, .int x3]) (va_Qi Q (rAt dC dI (va_A (rCells h a cI cZ σ) sz) h a cI cZ) (va_A (rCells h a cI cZ σ) sz)) 0 0 (va_A (rCells h a cI cZ σ) sz) := by
  refine Met.ofW (cc := cX7_reaches) (maxL := 8) (ret := (some .boolean)) (by decide) rfl ?_
  intro p e s m args below meth c s₁ B hml hv
  obtain ⟨hargs, hsz, hP, hK, hD0⟩ := hv
  have hts := atoms_spec (ws := wsX7_reaches) B.pre
  have hown : s.vm.findClass RX7 = some m.cls := findClass_of_methodNamed B.named
  subst hsz
  subst hargs
  have hD := hD0.self (sz := s.heap.size)
  generalize hAe : va_A (rCells h a cI cZ σ) s.heap.size = A at hD ⊢
  have hA : ∀ q : Nat, s.heap.size ≤ q → A q := fun q h => by rw [← hAe]; exact Or.inr h
  have hl := lv_entry ([.ref h, .int x1, .int x2, .int x3]) (n := 8) (Nat.le_of_ble_eq_true rfl)
  rw [lg_entry_eq]
  generalize (lg_sl ([.ref h, .int x1, .int x2, .int x3]) ++ List.replicate (8 - (lg_sl ([.ref h, .int x1, .int x2, .int x3])).length) Slot.unset).toArray = ls at hl ⊢
  have hl : lv_has ls 8 [(0, .ref h), (1, .int x1), (2, .int x2), (3, .int x3)] := hl
  unfold R_reaches_w at hw
  exact rB_reaches_0 ⟨B.exec, B.bytes, hml, hown, hts⟩ B.returns B.notSynchronized ⟨Nat.le_of_ble_eq_true rfl, Nat.le_of_ble_eq_true rfl⟩ hK hA x1 x2 x3 σ s.heap [] ls (lv_sub hl [0, 1, 2, 3] rfl) ⟨hP, hD, va_S.rf⟩ hw
def R_subtype_b31 (Q : Int32 → rS → Prop) (y0 : Int32) (σ : rS) : Prop :=
 zb y0 ∧ Q y0 σ
set_option maxHeartbeats 4000000 in
set_option maxRecDepth 100000 in
theorem rB_subtype_31 {Q : Int32 → rS → Prop} (X : CallFix p m c cX7_subtype 3 s args wsX7_subtype RX7) (hr : meth.sig.returnType = (some .boolean)) (hlk : meth.locks = false) (hR : 3 ≤ R.frames ∧ 75 ≤ R.locals) (hK : va_K (dC, dI) vwCl [(cI, .int), (cZ, .boolean)] s) (hA : ∀ q, s.heap.size ≤ q → A q) (y0 : Int32) (σ : rS) (H : Heap) (locs : List Loc) (ls : Array Slot) (hl : lv_has ls 3 [(0, .ref h)]) (hO : rO dC dI h a cI cZ A s.heap σ H locs) (hw : R_subtype_b31 Q y0 σ) : W p l e R s m args below meth c H locs 0 0 (MQ below (va_Qi Q (rAt dC dI A h a cI cZ) A) args s 0 0 A) (F0 m 31 ls [.int y0]) := by
  unfold R_subtype_b31 at hw
  obtain ⟨hz, hw⟩ := hw
  exact W.zret (v := y0) X.1 X.2.1 hr hz (fun t ht hW => ⟨⟨y0, σ, rfl, hw, rO_end hO hK ht hW⟩, hO.2.2.F ht⟩) hO.2.2.2.2 dX7_subtype_31 hlk
def R_subtype_b30 (Q : Int32 → rS → Prop) (σ : rS) : Prop :=
 R_subtype_b31 Q (0 : Int32) σ
set_option maxHeartbeats 4000000 in
set_option maxRecDepth 100000 in
theorem rB_subtype_30 {Q : Int32 → rS → Prop} (X : CallFix p m c cX7_subtype 3 s args wsX7_subtype RX7) (hr : meth.sig.returnType = (some .boolean)) (hlk : meth.locks = false) (hR : 3 ≤ R.frames ∧ 75 ≤ R.locals) (hK : va_K (dC, dI) vwCl [(cI, .int), (cZ, .boolean)] s) (hA : ∀ q, s.heap.size ≤ q → A q) (σ : rS) (H : Heap) (locs : List Loc) (ls : Array Slot) (hl : lv_has ls 3 [(0, .ref h)]) (hO : rO dC dI h a cI cZ A s.heap σ H locs) (hw : R_subtype_b30 Q σ) : W p l e R s m args below meth c H locs 0 0 (MQ below (va_Qi Q (rAt dC dI A h a cI cZ) A) args s 0 0 A) (F0 m 30 ls []) := by
  unfold R_subtype_b30 at hw
  refine lv_iconst (v := 0) X.1 X.2.1 dX7_subtype_30 (by decide) ?_
  exact rB_subtype_31 X hr hlk hR hK hA (0 : Int32) σ H locs ls (lv_sub hl [0] rfl) hO hw
def R_subtype_b0 (Q : Int32 → rS → Prop) (x1 : Int32) (x2 : Int32) (σ : rS) : Prop :=
 R_isClass_w (fun r2 t2 => (r2 = 0 → R_subtype_b30 Q t2) ∧ (¬ r2 = 0 → R_isText_w (fun r10 t10 => (r10 = 0 → R_subtype_b30 Q t10) ∧ (¬ r10 = 0 → R_reaches_w (fun r20 t20 => (r20 = 0 → R_subtype_b30 Q t20) ∧ (¬ r20 = 0 → R_subtype_b31 Q (1 : Int32) t20)) x1 x2 (0 : Int32) t10)) x2 t2)) x1 σ
set_option maxHeartbeats 4000000 in
set_option maxRecDepth 100000 in
theorem rB_subtype_0 {Q : Int32 → rS → Prop} (X : CallFix p m c cX7_subtype 3 s args wsX7_subtype RX7) (hr : meth.sig.returnType = (some .boolean)) (hlk : meth.locks = false) (hR : 3 ≤ R.frames ∧ 75 ≤ R.locals) (hK : va_K (dC, dI) vwCl [(cI, .int), (cZ, .boolean)] s) (hA : ∀ q, s.heap.size ≤ q → A q) (x1 : Int32) (x2 : Int32) (σ : rS) (H : Heap) (locs : List Loc) (ls : Array Slot) (hl : lv_has ls 3 [(0, .ref h), (1, .int x1), (2, .int x2)]) (hO : rO dC dI h a cI cZ A s.heap σ H locs) (hw : R_subtype_b0 Q x1 x2 σ) : W p l e R s m args below meth c H locs 0 0 (MQ below (va_Qi Q (rAt dC dI A h a cI cZ) A) args s 0 0 A) (F0 m 0 ls []) := by
  unfold R_subtype_b0 at hw
  refine lv_aload_n X.1 X.2.1 dX7_subtype_0 rfl (lv_at hl 0 rfl) ?_
  refine lv_iload_n X.1 X.2.1 dX7_subtype_1 rfl (lv_at hl 1 rfl) ?_
  refine r_calli (rest := []) (As := [.int x1]) X (rC_isClass l dC dI h a cI cZ σ H.size x1 _ hw) (cwV 1 X.2.2.2.2 gX7_isClass rfl rfl rfl hdX7_isClass ⟨Nat.le_trans (by decide) hR.1, Nat.le_trans (by decide) hR.2⟩) hK hA hO rfl hl.1 rfl (Nat.le_of_ble_eq_true rfl) dX7_subtype_2 (fun r2 t2 H locs hO hw => ?_)
  refine lv_if_eq (tgt := 30) X.1 X.2.1 dX7_subtype_5 rfl (fun hc9 => ?_) (fun hc9 => ?_)
  · have hw := hw.1 hc9
    exact rB_subtype_30 X hr hlk hR hK hA t2 H locs ls (lv_sub hl [0] rfl) hO hw
  · have hw := hw.2 hc9
    refine lv_aload_n X.1 X.2.1 dX7_subtype_8 rfl (lv_at hl 0 rfl) ?_
    refine lv_iload_n X.1 X.2.1 dX7_subtype_9 rfl (lv_at hl 2 rfl) ?_
    refine r_calli (rest := []) (As := [.int x2]) X (rC_isText l dC dI h a cI cZ t2 H.size x2 _ hw) (cwV 1 X.2.2.2.2 gX7_isText rfl rfl rfl hdX7_isText ⟨Nat.le_trans (by decide) hR.1, Nat.le_trans (by decide) hR.2⟩) hK hA hO rfl hl.1 rfl (Nat.le_of_ble_eq_true rfl) dX7_subtype_10 (fun r10 t10 H locs hO hw => ?_)
    refine lv_if_eq (tgt := 30) X.1 X.2.1 dX7_subtype_13 rfl (fun hc9 => ?_) (fun hc9 => ?_)
    · have hw := hw.1 hc9
      exact rB_subtype_30 X hr hlk hR hK hA t10 H locs ls (lv_sub hl [0] rfl) hO hw
    · have hw := hw.2 hc9
      refine lv_aload_n X.1 X.2.1 dX7_subtype_16 rfl (lv_at hl 0 rfl) ?_
      refine lv_iload_n X.1 X.2.1 dX7_subtype_17 rfl (lv_at hl 1 rfl) ?_
      refine lv_iload_n X.1 X.2.1 dX7_subtype_18 rfl (lv_at hl 2 rfl) ?_
      refine lv_iconst (v := 0) X.1 X.2.1 dX7_subtype_19 (by decide) ?_
      refine r_calli (rest := []) (As := [.int x1, .int x2, .int (0 : Int32)]) X (rC_reaches l dC dI h a cI cZ t10 H.size x1 x2 (0 : Int32) _ hw) (cwV 3 X.2.2.2.2 gX7_reaches rfl rfl rfl hdX7_reaches ⟨Nat.le_trans (by decide) hR.1, Nat.le_trans (by decide) hR.2⟩) hK hA hO rfl hl.1 rfl (Nat.le_of_ble_eq_true rfl) dX7_subtype_20 (fun r20 t20 H locs hO hw => ?_)
      refine lv_if_eq (tgt := 30) X.1 X.2.1 dX7_subtype_23 rfl (fun hc9 => ?_) (fun hc9 => ?_)
      · have hw := hw.1 hc9
        exact rB_subtype_30 X hr hlk hR hK hA t20 H locs ls (lv_sub hl [0] rfl) hO hw
      · have hw := hw.2 hc9
        refine lv_iconst (v := 1) X.1 X.2.1 dX7_subtype_26 (by decide) ?_
        refine lv_goto (tgt := 31) X.1 X.2.1 dX7_subtype_27 rfl ?_
        exact rB_subtype_31 X hr hlk hR hK hA (1 : Int32) t20 H locs ls (lv_sub hl [0] rfl) hO hw
def R_subtype_w (Q : Int32 → rS → Prop) (x1 : Int32) (x2 : Int32) (σ : rS) : Prop := R_subtype_b0 Q x1 x2 σ
abbrev rmX7_subtype : Room := { frames := 3, cells := 0, slots := 0, locals := 75 }
set_option maxHeartbeats 4000000 in
set_option maxRecDepth 100000 in
theorem rC_subtype (l : Launch) (dC : Nat → ClassId) (dI : Nat → Nat → Nat) (h : Nat) (a : Nat → Nat) (cI cZ : ClassId) (σ : rS) (sz : Nat) (x1 : Int32) (x2 : Int32) (Q : Int32 → rS → Prop) (hw : R_subtype_w Q x1 x2 σ) : Met l yX7_subtype wsX7_subtype rmX7_subtype (rPc dC dI h a cI cZ sz σ [.ref h, .int x1, .int x2]) (va_Qi Q (rAt dC dI (va_A (rCells h a cI cZ σ) sz) h a cI cZ) (va_A (rCells h a cI cZ σ) sz)) 0 0 (va_A (rCells h a cI cZ σ) sz) := by
  refine Met.ofW (cc := cX7_subtype) (maxL := 3) (ret := (some .boolean)) (by decide) rfl ?_
  intro p e s m args below meth c s₁ B hml hv
  obtain ⟨hargs, hsz, hP, hK, hD0⟩ := hv
  have hts := atoms_spec (ws := wsX7_subtype) B.pre
  have hown : s.vm.findClass RX7 = some m.cls := findClass_of_methodNamed B.named
  subst hsz
  subst hargs
  have hD := hD0.self (sz := s.heap.size)
  generalize hAe : va_A (rCells h a cI cZ σ) s.heap.size = A at hD ⊢
  have hA : ∀ q : Nat, s.heap.size ≤ q → A q := fun q h => by rw [← hAe]; exact Or.inr h
  have hl := lv_entry ([.ref h, .int x1, .int x2]) (n := 3) (Nat.le_of_ble_eq_true rfl)
  rw [lg_entry_eq]
  generalize (lg_sl ([.ref h, .int x1, .int x2]) ++ List.replicate (3 - (lg_sl ([.ref h, .int x1, .int x2])).length) Slot.unset).toArray = ls at hl ⊢
  have hl : lv_has ls 3 [(0, .ref h), (1, .int x1), (2, .int x2)] := hl
  unfold R_subtype_w at hw
  exact rB_subtype_0 ⟨B.exec, B.bytes, hml, hown, hts⟩ B.returns B.notSynchronized ⟨Nat.le_of_ble_eq_true rfl, Nat.le_of_ble_eq_true rfl⟩ hK hA x1 x2 σ s.heap [] ls (lv_sub hl [0, 1, 2] rfl) ⟨hP, hD, va_S.rf⟩ hw
def R_subtypeAt_b12 (Q : Int32 → rS → Prop) (σ : rS) : Prop :=
 Q (-1 : Int32) σ
set_option maxHeartbeats 4000000 in
set_option maxRecDepth 100000 in
theorem rB_subtypeAt_12 {Q : Int32 → rS → Prop} (X : CallFix p m c cX7_subtypeAt 5 s args wsX7_subtypeAt RX7) (hr : meth.sig.returnType = (some .int)) (hlk : meth.locks = false) (hR : 3 ≤ R.frames ∧ 75 ≤ R.locals) (hK : va_K (dC, dI) vwCl [(cI, .int), (cZ, .boolean)] s) (hA : ∀ q, s.heap.size ≤ q → A q) (σ : rS) (H : Heap) (locs : List Loc) (ls : Array Slot) (hl : lv_has ls 5 [(0, .ref h)]) (hO : rO dC dI h a cI cZ A s.heap σ H locs) (hw : R_subtypeAt_b12 Q σ) : W p l e R s m args below meth c H locs 0 0 (MQ below (va_Qi Q (rAt dC dI A h a cI cZ) A) args s 0 0 A) (F0 m 12 ls []) := by
  unfold R_subtypeAt_b12 at hw
  refine lv_iconst (v := -1) X.1 X.2.1 dX7_subtypeAt_12 (by decide) ?_
  exact W.iret (v := (-1 : Int32)) X.1 X.2.1 hr (fun t ht hW => ⟨⟨(-1 : Int32), σ, rfl, hw, rO_end hO hK ht hW⟩, hO.2.2.F ht⟩) hO.2.2.2.2 dX7_subtypeAt_13 hlk
def R_subtypeAt_b50 (Q : Int32 → rS → Prop) (K19 : Int32 → Int32 → Int32 → Int32 → rS → Prop) (x1 : Int32) (x2 : Int32) (x3 : Int32) (x4 : Int32) (σ : rS) : Prop :=
 ∀ v50 : Int32, v50 = x4 + (1 : Int32) → K19 x1 x2 x3 v50 σ
set_option maxHeartbeats 4000000 in
set_option maxRecDepth 100000 in
theorem rB_subtypeAt_50 {Q : Int32 → rS → Prop} {K19 : Int32 → Int32 → Int32 → Int32 → rS → Prop} (X : CallFix p m c cX7_subtypeAt 5 s args wsX7_subtypeAt RX7) (hr : meth.sig.returnType = (some .int)) (hlk : meth.locks = false) (hR : 3 ≤ R.frames ∧ 75 ≤ R.locals) (hK : va_K (dC, dI) vwCl [(cI, .int), (cZ, .boolean)] s) (hA : ∀ q, s.heap.size ≤ q → A q) (k19 : ∀ (x1 : Int32) (x2 : Int32) (x3 : Int32) (x4 : Int32) (σ : rS) (H : Heap) (locs : List Loc) (ls : Array Slot), lv_has ls 5 [(0, .ref h), (1, .int x1), (2, .int x2), (3, .int x3), (4, .int x4)] → rO dC dI h a cI cZ A s.heap σ H locs → K19 x1 x2 x3 x4 σ → W p l e R s m args below meth c H locs 0 0 (MQ below (va_Qi Q (rAt dC dI A h a cI cZ) A) args s 0 0 A) (F0 m 19 ls [])) (x1 : Int32) (x2 : Int32) (x3 : Int32) (x4 : Int32) (σ : rS) (H : Heap) (locs : List Loc) (ls : Array Slot) (hl : lv_has ls 5 [(0, .ref h), (1, .int x1), (2, .int x2), (3, .int x3), (4, .int x4)]) (hO : rO dC dI h a cI cZ A s.heap σ H locs) (hw : R_subtypeAt_b50 Q K19 x1 x2 x3 x4 σ) : W p l e R s m args below meth c H locs 0 0 (MQ below (va_Qi Q (rAt dC dI A h a cI cZ) A) args s 0 0 A) (F0 m 50 ls []) := by
  unfold R_subtypeAt_b50 at hw
  obtain ⟨v50, e50⟩ : ∃ z, z = x4 + (1 : Int32) := ⟨_, rfl⟩
  have hw := hw v50 e50
  refine lv_iinc (lv' := [(4, .int v50), (0, .ref h), (1, .int x1), (2, .int x2), (3, .int x3)]) (k := 4) (v := v50) X.1 X.2.1 dX7_subtypeAt_50 hl rfl (by rw [e50]; rfl) (by decide) rfl (fun ls hl => ?_)
  refine lv_goto (tgt := 19) X.1 X.2.1 dX7_subtypeAt_53 rfl ?_
  exact k19 x1 x2 x3 v50 σ H locs ls (lv_sub hl [1, 2, 3, 4, 0] rfl) hO hw
def R_subtypeAt_b19_s (Q : Int32 → rS → Prop) (K19 : Int32 → Int32 → Int32 → Int32 → rS → Prop) (x1 : Int32) (x2 : Int32) (x3 : Int32) (x4 : Int32) (σ : rS) : Prop :=
 ((σ.1 3) ≤ x4 → Q (-1 : Int32) σ) ∧ (¬ (σ.1 3) ≤ x4 → R_reaches_w (fun r33 t33 => (r33 = 0 → R_subtypeAt_b50 Q K19 x1 x2 x3 x4 t33) ∧ (¬ r33 = 0 → (¬ x3 = x2 → ∀ v47 : Int32, v47 = x3 + (1 : Int32) → R_subtypeAt_b50 Q K19 x1 x2 v47 x4 t33) ∧ (x3 = x2 → Q x4 t33))) x4 x1 (0 : Int32) σ)
def R_subtypeAt_b19_f (Q : Int32 → rS → Prop) : (Int32 × Int32 × Int32 × Int32 × rS → Prop) → Int32 × Int32 × Int32 × Int32 × rS → Prop :=
 fun K z => R_subtypeAt_b19_s Q (fun x1 x2 x3 x4 σ => K (x1, x2, x3, x4, σ)) z.1 z.2.1 z.2.2.1 z.2.2.2.1 z.2.2.2.2
def R_subtypeAt_b19 (Q : Int32 → rS → Prop) (x1 : Int32) (x2 : Int32) (x3 : Int32) (x4 : Int32) (σ : rS) : Prop := ∃ n, fx (R_subtypeAt_b19_f Q ) n (x1, x2, x3, x4, σ)
set_option maxHeartbeats 4000000 in
set_option maxRecDepth 100000 in
theorem rB_subtypeAt_19 {Q : Int32 → rS → Prop} (X : CallFix p m c cX7_subtypeAt 5 s args wsX7_subtypeAt RX7) (hr : meth.sig.returnType = (some .int)) (hlk : meth.locks = false) (hR : 3 ≤ R.frames ∧ 75 ≤ R.locals) (hK : va_K (dC, dI) vwCl [(cI, .int), (cZ, .boolean)] s) (hA : ∀ q, s.heap.size ≤ q → A q) : ∀ (n : Nat) (x1 : Int32) (x2 : Int32) (x3 : Int32) (x4 : Int32) (σ : rS) (H : Heap) (locs : List Loc) (ls : Array Slot), lv_has ls 5 [(0, .ref h), (1, .int x1), (2, .int x2), (3, .int x3), (4, .int x4)] → rO dC dI h a cI cZ A s.heap σ H locs → fx (R_subtypeAt_b19_f Q ) n (x1, x2, x3, x4, σ) → W p l e R s m args below meth c H locs 0 0 (MQ below (va_Qi Q (rAt dC dI A h a cI cZ) A) args s 0 0 A) (F0 m 19 ls []) := by
  intro n
  induction n with
  | zero => intro x1 x2 x3 x4 σ H locs ls hl hO hw; exact False.elim hw
  | succ n k19 =>
    intro x1 x2 x3 x4 σ H locs ls hl hO hw
    have hw : R_subtypeAt_b19_s Q (fun x1 x2 x3 x4 σ => fx (R_subtypeAt_b19_f Q ) n (x1, x2, x3, x4, σ)) x1 x2 x3 x4 σ := hw
    unfold R_subtypeAt_b19_s at hw
    refine lv_iload X.1 X.2.1 dX7_subtypeAt_19 (lv_at hl 4 rfl) ?_
    refine lv_aload_n X.1 X.2.1 dX7_subtypeAt_21 rfl (lv_at hl 0 rfl) ?_
    refine rf_classes X hK hO dX7_subtypeAt_22 ?_
    refine lv_icmp_ge (tgt := 56) X.1 X.2.1 dX7_subtypeAt_25 rfl (fun hc9 => ?_) (fun hc9 => ?_)
    · have hw := hw.1 hc9
      refine lv_iconst (v := -1) X.1 X.2.1 dX7_subtypeAt_56 (by decide) ?_
      exact W.iret (v := (-1 : Int32)) X.1 X.2.1 hr (fun t ht hW => ⟨⟨(-1 : Int32), σ, rfl, hw, rO_end hO hK ht hW⟩, hO.2.2.F ht⟩) hO.2.2.2.2 dX7_subtypeAt_57 hlk
    · have hw := hw.2 hc9
      refine lv_aload_n X.1 X.2.1 dX7_subtypeAt_28 rfl (lv_at hl 0 rfl) ?_
      refine lv_iload X.1 X.2.1 dX7_subtypeAt_29 (lv_at hl 4 rfl) ?_
      refine lv_iload_n X.1 X.2.1 dX7_subtypeAt_31 rfl (lv_at hl 1 rfl) ?_
      refine lv_iconst (v := 0) X.1 X.2.1 dX7_subtypeAt_32 (by decide) ?_
      refine r_calli (rest := []) (As := [.int x4, .int x1, .int (0 : Int32)]) X (rC_reaches l dC dI h a cI cZ σ H.size x4 x1 (0 : Int32) _ hw) (cwV 3 X.2.2.2.2 gX7_reaches rfl rfl rfl hdX7_reaches ⟨Nat.le_trans (by decide) hR.1, Nat.le_trans (by decide) hR.2⟩) hK hA hO rfl hl.1 rfl (Nat.le_of_ble_eq_true rfl) dX7_subtypeAt_33 (fun r33 t33 H locs hO hw => ?_)
      refine lv_if_eq (tgt := 50) X.1 X.2.1 dX7_subtypeAt_36 rfl (fun hc9 => ?_) (fun hc9 => ?_)
      · have hw := hw.1 hc9
        exact rB_subtypeAt_50 X hr hlk hR hK hA k19 x1 x2 x3 x4 t33 H locs ls (lv_sub hl [0, 1, 2, 3, 4] rfl) hO hw
      · have hw := hw.2 hc9
        refine lv_iload_n X.1 X.2.1 dX7_subtypeAt_39 rfl (lv_at hl 3 rfl) ?_
        refine lv_iload_n X.1 X.2.1 dX7_subtypeAt_40 rfl (lv_at hl 2 rfl) ?_
        refine lv_icmp_ne (tgt := 47) X.1 X.2.1 dX7_subtypeAt_41 rfl (fun hc9 => ?_) (fun hc9 => ?_)
        · have hw := hw.1 hc9
          obtain ⟨v47, e47⟩ : ∃ z, z = x3 + (1 : Int32) := ⟨_, rfl⟩
          have hw := hw v47 e47
          refine lv_iinc (lv' := [(3, .int v47), (0, .ref h), (1, .int x1), (2, .int x2), (4, .int x4)]) (k := 3) (v := v47) X.1 X.2.1 dX7_subtypeAt_47 hl rfl (by rw [e47]; rfl) (by decide) rfl (fun ls hl => ?_)
          exact rB_subtypeAt_50 X hr hlk hR hK hA k19 x1 x2 v47 x4 t33 H locs ls (lv_sub hl [1, 2, 3, 0, 4] rfl) hO hw
        · have hw := hw.2 hc9
          refine lv_iload X.1 X.2.1 dX7_subtypeAt_44 (lv_at hl 4 rfl) ?_
          exact W.iret (v := x4) X.1 X.2.1 hr (fun t ht hW => ⟨⟨x4, t33, rfl, hw, rO_end hO hK ht hW⟩, hO.2.2.F ht⟩) hO.2.2.2.2 dX7_subtypeAt_46 hlk
def R_subtypeAt_b0 (Q : Int32 → rS → Prop) (x1 : Int32) (x2 : Int32) (σ : rS) : Prop :=
 R_isText_w (fun r2 t2 => (r2 = 0 → R_subtypeAt_b12 Q t2) ∧ (¬ r2 = 0 → (0 ≤ x2 → R_subtypeAt_b19 Q x1 x2 (0 : Int32) (0 : Int32) t2) ∧ (¬ 0 ≤ x2 → R_subtypeAt_b12 Q t2))) x1 σ
set_option maxHeartbeats 4000000 in
set_option maxRecDepth 100000 in
theorem rB_subtypeAt_0 {Q : Int32 → rS → Prop} (X : CallFix p m c cX7_subtypeAt 5 s args wsX7_subtypeAt RX7) (hr : meth.sig.returnType = (some .int)) (hlk : meth.locks = false) (hR : 3 ≤ R.frames ∧ 75 ≤ R.locals) (hK : va_K (dC, dI) vwCl [(cI, .int), (cZ, .boolean)] s) (hA : ∀ q, s.heap.size ≤ q → A q) (x1 : Int32) (x2 : Int32) (σ : rS) (H : Heap) (locs : List Loc) (ls : Array Slot) (hl : lv_has ls 5 [(0, .ref h), (1, .int x1), (2, .int x2)]) (hO : rO dC dI h a cI cZ A s.heap σ H locs) (hw : R_subtypeAt_b0 Q x1 x2 σ) : W p l e R s m args below meth c H locs 0 0 (MQ below (va_Qi Q (rAt dC dI A h a cI cZ) A) args s 0 0 A) (F0 m 0 ls []) := by
  unfold R_subtypeAt_b0 at hw
  refine lv_aload_n X.1 X.2.1 dX7_subtypeAt_0 rfl (lv_at hl 0 rfl) ?_
  refine lv_iload_n X.1 X.2.1 dX7_subtypeAt_1 rfl (lv_at hl 1 rfl) ?_
  refine r_calli (rest := []) (As := [.int x1]) X (rC_isText l dC dI h a cI cZ σ H.size x1 _ hw) (cwV 1 X.2.2.2.2 gX7_isText rfl rfl rfl hdX7_isText ⟨Nat.le_trans (by decide) hR.1, Nat.le_trans (by decide) hR.2⟩) hK hA hO rfl hl.1 rfl (Nat.le_of_ble_eq_true rfl) dX7_subtypeAt_2 (fun r2 t2 H locs hO hw => ?_)
  refine lv_if_eq (tgt := 12) X.1 X.2.1 dX7_subtypeAt_5 rfl (fun hc9 => ?_) (fun hc9 => ?_)
  · have hw := hw.1 hc9
    exact rB_subtypeAt_12 X hr hlk hR hK hA t2 H locs ls (lv_sub hl [0] rfl) hO hw
  · have hw := hw.2 hc9
    refine lv_iload_n X.1 X.2.1 dX7_subtypeAt_8 rfl (lv_at hl 2 rfl) ?_
    refine lv_if_ge (tgt := 14) X.1 X.2.1 dX7_subtypeAt_9 rfl (fun hc9 => ?_) (fun hc9 => ?_)
    · have hw := hw.1 hc9
      refine lv_iconst (v := 0) X.1 X.2.1 dX7_subtypeAt_14 (by decide) ?_
      refine lv_istore_n (lv' := [(3, .int (0 : Int32)), (0, .ref h), (1, .int x1), (2, .int x2)]) X.1 X.2.1 dX7_subtypeAt_15 rfl hl (by decide) rfl (fun ls hl => ?_)
      refine lv_iconst (v := 0) X.1 X.2.1 dX7_subtypeAt_16 (by decide) ?_
      refine lv_istore (lv' := [(4, .int (0 : Int32)), (3, .int (0 : Int32)), (0, .ref h), (1, .int x1), (2, .int x2)]) X.1 X.2.1 dX7_subtypeAt_17 hl (by decide) rfl (fun ls hl => ?_)
      obtain ⟨n, hw⟩ := hw
      exact rB_subtypeAt_19 X hr hlk hR hK hA n x1 x2 (0 : Int32) (0 : Int32) t2 H locs ls (lv_sub hl [2, 3, 4, 1, 0] rfl) hO hw
    · have hw := hw.2 hc9
      exact rB_subtypeAt_12 X hr hlk hR hK hA t2 H locs ls (lv_sub hl [0] rfl) hO hw
def R_subtypeAt_w (Q : Int32 → rS → Prop) (x1 : Int32) (x2 : Int32) (σ : rS) : Prop := R_subtypeAt_b0 Q x1 x2 σ
abbrev rmX7_subtypeAt : Room := { frames := 3, cells := 0, slots := 0, locals := 75 }
set_option maxHeartbeats 4000000 in
set_option maxRecDepth 100000 in
theorem rC_subtypeAt (l : Launch) (dC : Nat → ClassId) (dI : Nat → Nat → Nat) (h : Nat) (a : Nat → Nat) (cI cZ : ClassId) (σ : rS) (sz : Nat) (x1 : Int32) (x2 : Int32) (Q : Int32 → rS → Prop) (hw : R_subtypeAt_w Q x1 x2 σ) : Met l yX7_subtypeAt wsX7_subtypeAt rmX7_subtypeAt (rPc dC dI h a cI cZ sz σ [.ref h, .int x1, .int x2]) (va_Qi Q (rAt dC dI (va_A (rCells h a cI cZ σ) sz) h a cI cZ) (va_A (rCells h a cI cZ σ) sz)) 0 0 (va_A (rCells h a cI cZ σ) sz) := by
  refine Met.ofW (cc := cX7_subtypeAt) (maxL := 5) (ret := (some .int)) (by decide) rfl ?_
  intro p e s m args below meth c s₁ B hml hv
  obtain ⟨hargs, hsz, hP, hK, hD0⟩ := hv
  have hts := atoms_spec (ws := wsX7_subtypeAt) B.pre
  have hown : s.vm.findClass RX7 = some m.cls := findClass_of_methodNamed B.named
  subst hsz
  subst hargs
  have hD := hD0.self (sz := s.heap.size)
  generalize hAe : va_A (rCells h a cI cZ σ) s.heap.size = A at hD ⊢
  have hA : ∀ q : Nat, s.heap.size ≤ q → A q := fun q h => by rw [← hAe]; exact Or.inr h
  have hl := lv_entry ([.ref h, .int x1, .int x2]) (n := 5) (Nat.le_of_ble_eq_true rfl)
  rw [lg_entry_eq]
  generalize (lg_sl ([.ref h, .int x1, .int x2]) ++ List.replicate (5 - (lg_sl ([.ref h, .int x1, .int x2])).length) Slot.unset).toArray = ls at hl ⊢
  have hl : lv_has ls 5 [(0, .ref h), (1, .int x1), (2, .int x2)] := hl
  unfold R_subtypeAt_w at hw
  exact rB_subtypeAt_0 ⟨B.exec, B.bytes, hml, hown, hts⟩ B.returns B.notSynchronized ⟨Nat.le_of_ble_eq_true rfl, Nat.le_of_ble_eq_true rfl⟩ hK hA x1 x2 σ s.heap [] ls (lv_sub hl [0, 1, 2] rfl) ⟨hP, hD, va_S.rf⟩ hw
def R_meta_b31 (Q : Int32 → rS → Prop) (y0 : Int32) (σ : rS) : Prop :=
 zb y0 ∧ Q y0 σ
set_option maxHeartbeats 4000000 in
set_option maxRecDepth 100000 in
theorem rB_meta_31 {Q : Int32 → rS → Prop} (X : CallFix p m c cX7_meta 3 s args wsX7_meta RX7) (hr : meth.sig.returnType = (some .boolean)) (hlk : meth.locks = false) (hR : 3 ≤ R.frames ∧ 75 ≤ R.locals) (hK : va_K (dC, dI) vwCl [(cI, .int), (cZ, .boolean)] s) (hA : ∀ q, s.heap.size ≤ q → A q) (y0 : Int32) (σ : rS) (H : Heap) (locs : List Loc) (ls : Array Slot) (hl : lv_has ls 3 [(0, .ref h)]) (hO : rO dC dI h a cI cZ A s.heap σ H locs) (hw : R_meta_b31 Q y0 σ) : W p l e R s m args below meth c H locs 0 0 (MQ below (va_Qi Q (rAt dC dI A h a cI cZ) A) args s 0 0 A) (F0 m 31 ls [.int y0]) := by
  unfold R_meta_b31 at hw
  obtain ⟨hz, hw⟩ := hw
  exact W.zret (v := y0) X.1 X.2.1 hr hz (fun t ht hW => ⟨⟨y0, σ, rfl, hw, rO_end hO hK ht hW⟩, hO.2.2.F ht⟩) hO.2.2.2.2 dX7_meta_31 hlk
def R_meta_b30 (Q : Int32 → rS → Prop) (σ : rS) : Prop :=
 R_meta_b31 Q (0 : Int32) σ
set_option maxHeartbeats 4000000 in
set_option maxRecDepth 100000 in
theorem rB_meta_30 {Q : Int32 → rS → Prop} (X : CallFix p m c cX7_meta 3 s args wsX7_meta RX7) (hr : meth.sig.returnType = (some .boolean)) (hlk : meth.locks = false) (hR : 3 ≤ R.frames ∧ 75 ≤ R.locals) (hK : va_K (dC, dI) vwCl [(cI, .int), (cZ, .boolean)] s) (hA : ∀ q, s.heap.size ≤ q → A q) (σ : rS) (H : Heap) (locs : List Loc) (ls : Array Slot) (hl : lv_has ls 3 [(0, .ref h)]) (hO : rO dC dI h a cI cZ A s.heap σ H locs) (hw : R_meta_b30 Q σ) : W p l e R s m args below meth c H locs 0 0 (MQ below (va_Qi Q (rAt dC dI A h a cI cZ) A) args s 0 0 A) (F0 m 30 ls []) := by
  unfold R_meta_b30 at hw
  refine lv_iconst (v := 0) X.1 X.2.1 dX7_meta_30 (by decide) ?_
  exact rB_meta_31 X hr hlk hR hK hA (0 : Int32) σ H locs ls (lv_sub hl [0] rfl) hO hw
def R_meta_b0 (Q : Int32 → rS → Prop) (x1 : Int32) (x2 : Int32) (σ : rS) : Prop :=
 R_isClass_w (fun r2 t2 => (r2 = 0 → R_meta_b30 Q t2) ∧ (¬ r2 = 0 → R_isText_w (fun r10 t10 => (r10 = 0 → R_meta_b30 Q t10) ∧ (¬ r10 = 0 → R_reaches_w (fun r20 t20 => (r20 = 0 → R_meta_b30 Q t20) ∧ (¬ r20 = 0 → R_meta_b31 Q (1 : Int32) t20)) x1 x2 (1 : Int32) t10)) x2 t2)) x1 σ
set_option maxHeartbeats 4000000 in
set_option maxRecDepth 100000 in
theorem rB_meta_0 {Q : Int32 → rS → Prop} (X : CallFix p m c cX7_meta 3 s args wsX7_meta RX7) (hr : meth.sig.returnType = (some .boolean)) (hlk : meth.locks = false) (hR : 3 ≤ R.frames ∧ 75 ≤ R.locals) (hK : va_K (dC, dI) vwCl [(cI, .int), (cZ, .boolean)] s) (hA : ∀ q, s.heap.size ≤ q → A q) (x1 : Int32) (x2 : Int32) (σ : rS) (H : Heap) (locs : List Loc) (ls : Array Slot) (hl : lv_has ls 3 [(0, .ref h), (1, .int x1), (2, .int x2)]) (hO : rO dC dI h a cI cZ A s.heap σ H locs) (hw : R_meta_b0 Q x1 x2 σ) : W p l e R s m args below meth c H locs 0 0 (MQ below (va_Qi Q (rAt dC dI A h a cI cZ) A) args s 0 0 A) (F0 m 0 ls []) := by
  unfold R_meta_b0 at hw
  refine lv_aload_n X.1 X.2.1 dX7_meta_0 rfl (lv_at hl 0 rfl) ?_
  refine lv_iload_n X.1 X.2.1 dX7_meta_1 rfl (lv_at hl 1 rfl) ?_
  refine r_calli (rest := []) (As := [.int x1]) X (rC_isClass l dC dI h a cI cZ σ H.size x1 _ hw) (cwV 1 X.2.2.2.2 gX7_isClass rfl rfl rfl hdX7_isClass ⟨Nat.le_trans (by decide) hR.1, Nat.le_trans (by decide) hR.2⟩) hK hA hO rfl hl.1 rfl (Nat.le_of_ble_eq_true rfl) dX7_meta_2 (fun r2 t2 H locs hO hw => ?_)
  refine lv_if_eq (tgt := 30) X.1 X.2.1 dX7_meta_5 rfl (fun hc9 => ?_) (fun hc9 => ?_)
  · have hw := hw.1 hc9
    exact rB_meta_30 X hr hlk hR hK hA t2 H locs ls (lv_sub hl [0] rfl) hO hw
  · have hw := hw.2 hc9
    refine lv_aload_n X.1 X.2.1 dX7_meta_8 rfl (lv_at hl 0 rfl) ?_
    refine lv_iload_n X.1 X.2.1 dX7_meta_9 rfl (lv_at hl 2 rfl) ?_
    refine r_calli (rest := []) (As := [.int x2]) X (rC_isText l dC dI h a cI cZ t2 H.size x2 _ hw) (cwV 1 X.2.2.2.2 gX7_isText rfl rfl rfl hdX7_isText ⟨Nat.le_trans (by decide) hR.1, Nat.le_trans (by decide) hR.2⟩) hK hA hO rfl hl.1 rfl (Nat.le_of_ble_eq_true rfl) dX7_meta_10 (fun r10 t10 H locs hO hw => ?_)
    refine lv_if_eq (tgt := 30) X.1 X.2.1 dX7_meta_13 rfl (fun hc9 => ?_) (fun hc9 => ?_)
    · have hw := hw.1 hc9
      exact rB_meta_30 X hr hlk hR hK hA t10 H locs ls (lv_sub hl [0] rfl) hO hw
    · have hw := hw.2 hc9
      refine lv_aload_n X.1 X.2.1 dX7_meta_16 rfl (lv_at hl 0 rfl) ?_
      refine lv_iload_n X.1 X.2.1 dX7_meta_17 rfl (lv_at hl 1 rfl) ?_
      refine lv_iload_n X.1 X.2.1 dX7_meta_18 rfl (lv_at hl 2 rfl) ?_
      refine lv_iconst (v := 1) X.1 X.2.1 dX7_meta_19 (by decide) ?_
      refine r_calli (rest := []) (As := [.int x1, .int x2, .int (1 : Int32)]) X (rC_reaches l dC dI h a cI cZ t10 H.size x1 x2 (1 : Int32) _ hw) (cwV 3 X.2.2.2.2 gX7_reaches rfl rfl rfl hdX7_reaches ⟨Nat.le_trans (by decide) hR.1, Nat.le_trans (by decide) hR.2⟩) hK hA hO rfl hl.1 rfl (Nat.le_of_ble_eq_true rfl) dX7_meta_20 (fun r20 t20 H locs hO hw => ?_)
      refine lv_if_eq (tgt := 30) X.1 X.2.1 dX7_meta_23 rfl (fun hc9 => ?_) (fun hc9 => ?_)
      · have hw := hw.1 hc9
        exact rB_meta_30 X hr hlk hR hK hA t20 H locs ls (lv_sub hl [0] rfl) hO hw
      · have hw := hw.2 hc9
        refine lv_iconst (v := 1) X.1 X.2.1 dX7_meta_26 (by decide) ?_
        refine lv_goto (tgt := 31) X.1 X.2.1 dX7_meta_27 rfl ?_
        exact rB_meta_31 X hr hlk hR hK hA (1 : Int32) t20 H locs ls (lv_sub hl [0] rfl) hO hw
def R_meta_w (Q : Int32 → rS → Prop) (x1 : Int32) (x2 : Int32) (σ : rS) : Prop := R_meta_b0 Q x1 x2 σ
abbrev rmX7_meta : Room := { frames := 3, cells := 0, slots := 0, locals := 75 }
set_option maxHeartbeats 4000000 in
set_option maxRecDepth 100000 in
theorem rC_meta (l : Launch) (dC : Nat → ClassId) (dI : Nat → Nat → Nat) (h : Nat) (a : Nat → Nat) (cI cZ : ClassId) (σ : rS) (sz : Nat) (x1 : Int32) (x2 : Int32) (Q : Int32 → rS → Prop) (hw : R_meta_w Q x1 x2 σ) : Met l yX7_meta wsX7_meta rmX7_meta (rPc dC dI h a cI cZ sz σ [.ref h, .int x1, .int x2]) (va_Qi Q (rAt dC dI (va_A (rCells h a cI cZ σ) sz) h a cI cZ) (va_A (rCells h a cI cZ σ) sz)) 0 0 (va_A (rCells h a cI cZ σ) sz) := by
  refine Met.ofW (cc := cX7_meta) (maxL := 3) (ret := (some .boolean)) (by decide) rfl ?_
  intro p e s m args below meth c s₁ B hml hv
  obtain ⟨hargs, hsz, hP, hK, hD0⟩ := hv
  have hts := atoms_spec (ws := wsX7_meta) B.pre
  have hown : s.vm.findClass RX7 = some m.cls := findClass_of_methodNamed B.named
  subst hsz
  subst hargs
  have hD := hD0.self (sz := s.heap.size)
  generalize hAe : va_A (rCells h a cI cZ σ) s.heap.size = A at hD ⊢
  have hA : ∀ q : Nat, s.heap.size ≤ q → A q := fun q h => by rw [← hAe]; exact Or.inr h
  have hl := lv_entry ([.ref h, .int x1, .int x2]) (n := 3) (Nat.le_of_ble_eq_true rfl)
  rw [lg_entry_eq]
  generalize (lg_sl ([.ref h, .int x1, .int x2]) ++ List.replicate (3 - (lg_sl ([.ref h, .int x1, .int x2])).length) Slot.unset).toArray = ls at hl ⊢
  have hl : lv_has ls 3 [(0, .ref h), (1, .int x1), (2, .int x2)] := hl
  unfold R_meta_w at hw
  exact rB_meta_0 ⟨B.exec, B.bytes, hml, hown, hts⟩ B.returns B.notSynchronized ⟨Nat.le_of_ble_eq_true rfl, Nat.le_of_ble_eq_true rfl⟩ hK hA x1 x2 σ s.heap [] ls (lv_sub hl [0, 1, 2] rfl) ⟨hP, hD, va_S.rf⟩ hw
def R_inherited_b26 (Q : Int32 → rS → Prop) (y0 : Int32) (σ : rS) : Prop :=
 zb y0 ∧ Q y0 σ
set_option maxHeartbeats 4000000 in
set_option maxRecDepth 100000 in
theorem rB_inherited_26 {Q : Int32 → rS → Prop} (X : CallFix p m c cX7_inherited 3 s args wsX7_inherited RX7) (hr : meth.sig.returnType = (some .boolean)) (hlk : meth.locks = false) (hR : 1 ≤ R.frames ∧ 22 ≤ R.locals) (hK : va_K (dC, dI) vwCl [(cI, .int), (cZ, .boolean)] s) (hA : ∀ q, s.heap.size ≤ q → A q) (y0 : Int32) (σ : rS) (H : Heap) (locs : List Loc) (ls : Array Slot) (hl : lv_has ls 3 [(0, .ref h)]) (hO : rO dC dI h a cI cZ A s.heap σ H locs) (hw : R_inherited_b26 Q y0 σ) : W p l e R s m args below meth c H locs 0 0 (MQ below (va_Qi Q (rAt dC dI A h a cI cZ) A) args s 0 0 A) (F0 m 26 ls [.int y0]) := by
  unfold R_inherited_b26 at hw
  obtain ⟨hz, hw⟩ := hw
  exact W.zret (v := y0) X.1 X.2.1 hr hz (fun t ht hW => ⟨⟨y0, σ, rfl, hw, rO_end hO hK ht hW⟩, hO.2.2.F ht⟩) hO.2.2.2.2 dX7_inherited_26 hlk
def R_inherited_b25 (Q : Int32 → rS → Prop) (σ : rS) : Prop :=
 R_inherited_b26 Q (0 : Int32) σ
set_option maxHeartbeats 4000000 in
set_option maxRecDepth 100000 in
theorem rB_inherited_25 {Q : Int32 → rS → Prop} (X : CallFix p m c cX7_inherited 3 s args wsX7_inherited RX7) (hr : meth.sig.returnType = (some .boolean)) (hlk : meth.locks = false) (hR : 1 ≤ R.frames ∧ 22 ≤ R.locals) (hK : va_K (dC, dI) vwCl [(cI, .int), (cZ, .boolean)] s) (hA : ∀ q, s.heap.size ≤ q → A q) (σ : rS) (H : Heap) (locs : List Loc) (ls : Array Slot) (hl : lv_has ls 3 [(0, .ref h)]) (hO : rO dC dI h a cI cZ A s.heap σ H locs) (hw : R_inherited_b25 Q σ) : W p l e R s m args below meth c H locs 0 0 (MQ below (va_Qi Q (rAt dC dI A h a cI cZ) A) args s 0 0 A) (F0 m 25 ls []) := by
  unfold R_inherited_b25 at hw
  refine lv_iconst (v := 0) X.1 X.2.1 dX7_inherited_25 (by decide) ?_
  exact rB_inherited_26 X hr hlk hR hK hA (0 : Int32) σ H locs ls (lv_sub hl [0] rfl) hO hw
def R_inherited_b0 (Q : Int32 → rS → Prop) (x1 : Int32) (σ : rS) : Prop :=
 R_find_w (fun r2 t2 => (r2 < 0 → R_inherited_b25 Q t2) ∧ (¬ r2 < 0 → vp_in r2 16 ∧ (((t2.2 9 r2.toNatClampNeg) &&& (2 : Int32)) = 0 → R_inherited_b25 Q t2) ∧ (¬ ((t2.2 9 r2.toNatClampNeg) &&& (2 : Int32)) = 0 → R_inherited_b26 Q (1 : Int32) t2))) x1 σ
set_option maxHeartbeats 4000000 in
set_option maxRecDepth 100000 in
theorem rB_inherited_0 {Q : Int32 → rS → Prop} (X : CallFix p m c cX7_inherited 3 s args wsX7_inherited RX7) (hr : meth.sig.returnType = (some .boolean)) (hlk : meth.locks = false) (hR : 1 ≤ R.frames ∧ 22 ≤ R.locals) (hK : va_K (dC, dI) vwCl [(cI, .int), (cZ, .boolean)] s) (hA : ∀ q, s.heap.size ≤ q → A q) (x1 : Int32) (σ : rS) (H : Heap) (locs : List Loc) (ls : Array Slot) (hl : lv_has ls 3 [(0, .ref h), (1, .int x1)]) (hO : rO dC dI h a cI cZ A s.heap σ H locs) (hw : R_inherited_b0 Q x1 σ) : W p l e R s m args below meth c H locs 0 0 (MQ below (va_Qi Q (rAt dC dI A h a cI cZ) A) args s 0 0 A) (F0 m 0 ls []) := by
  unfold R_inherited_b0 at hw
  refine lv_aload_n X.1 X.2.1 dX7_inherited_0 rfl (lv_at hl 0 rfl) ?_
  refine lv_iload_n X.1 X.2.1 dX7_inherited_1 rfl (lv_at hl 1 rfl) ?_
  refine r_calli (rest := []) (As := [.int x1]) X (rC_find l dC dI h a cI cZ σ H.size x1 _ hw) (cwV 1 X.2.2.2.2 gX7_find rfl rfl rfl hdX7_find ⟨Nat.le_trans (by decide) hR.1, Nat.le_trans (by decide) hR.2⟩) hK hA hO rfl hl.1 rfl (Nat.le_of_ble_eq_true rfl) dX7_inherited_2 (fun r2 t2 H locs hO hw => ?_)
  refine lv_istore_n (lv' := [(2, .int r2), (0, .ref h), (1, .int x1)]) X.1 X.2.1 dX7_inherited_5 rfl hl (by decide) rfl (fun ls hl => ?_)
  refine lv_iload_n X.1 X.2.1 dX7_inherited_6 rfl (lv_at hl 0 rfl) ?_
  refine lv_if_lt (tgt := 25) X.1 X.2.1 dX7_inherited_7 rfl (fun hc9 => ?_) (fun hc9 => ?_)
  · have hw := hw.1 hc9
    exact rB_inherited_25 X hr hlk hR hK hA t2 H locs ls (lv_sub hl [1] rfl) hO hw
  · have hw := hw.2 hc9
    refine lv_aload_n X.1 X.2.1 dX7_inherited_10 rfl (lv_at hl 1 rfl) ?_
    refine rf_flag X hK hO dX7_inherited_11 ?_
    refine lv_iload_n X.1 X.2.1 dX7_inherited_14 rfl (lv_at hl 0 rfl) ?_
    obtain ⟨g15, hw⟩ := hw
    refine ra_flag X.1 X.2.1 hK hO g15 dX7_inherited_15 ?_
    refine lv_iconst (v := 2) X.1 X.2.1 dX7_inherited_16 (by decide) ?_
    refine lv_iand X.1 X.2.1 dX7_inherited_17 ?_
    refine lv_if_eq (tgt := 25) X.1 X.2.1 dX7_inherited_18 rfl (fun hc9 => ?_) (fun hc9 => ?_)
    · have hw := hw.1 hc9
      exact rB_inherited_25 X hr hlk hR hK hA t2 H locs ls (lv_sub hl [1] rfl) hO hw
    · have hw := hw.2 hc9
      refine lv_iconst (v := 1) X.1 X.2.1 dX7_inherited_21 (by decide) ?_
      refine lv_goto (tgt := 26) X.1 X.2.1 dX7_inherited_22 rfl ?_
      exact rB_inherited_26 X hr hlk hR hK hA (1 : Int32) t2 H locs ls (lv_sub hl [1] rfl) hO hw
def R_inherited_w (Q : Int32 → rS → Prop) (x1 : Int32) (σ : rS) : Prop := R_inherited_b0 Q x1 σ
abbrev rmX7_inherited : Room := { frames := 1, cells := 0, slots := 0, locals := 22 }
set_option maxHeartbeats 4000000 in
set_option maxRecDepth 100000 in
theorem rC_inherited (l : Launch) (dC : Nat → ClassId) (dI : Nat → Nat → Nat) (h : Nat) (a : Nat → Nat) (cI cZ : ClassId) (σ : rS) (sz : Nat) (x1 : Int32) (Q : Int32 → rS → Prop) (hw : R_inherited_w Q x1 σ) : Met l yX7_inherited wsX7_inherited rmX7_inherited (rPc dC dI h a cI cZ sz σ [.ref h, .int x1]) (va_Qi Q (rAt dC dI (va_A (rCells h a cI cZ σ) sz) h a cI cZ) (va_A (rCells h a cI cZ σ) sz)) 0 0 (va_A (rCells h a cI cZ σ) sz) := by
  refine Met.ofW (cc := cX7_inherited) (maxL := 3) (ret := (some .boolean)) (by decide) rfl ?_
  intro p e s m args below meth c s₁ B hml hv
  obtain ⟨hargs, hsz, hP, hK, hD0⟩ := hv
  have hts := atoms_spec (ws := wsX7_inherited) B.pre
  have hown : s.vm.findClass RX7 = some m.cls := findClass_of_methodNamed B.named
  subst hsz
  subst hargs
  have hD := hD0.self (sz := s.heap.size)
  generalize hAe : va_A (rCells h a cI cZ σ) s.heap.size = A at hD ⊢
  have hA : ∀ q : Nat, s.heap.size ≤ q → A q := fun q h => by rw [← hAe]; exact Or.inr h
  have hl := lv_entry ([.ref h, .int x1]) (n := 3) (Nat.le_of_ble_eq_true rfl)
  rw [lg_entry_eq]
  generalize (lg_sl ([.ref h, .int x1]) ++ List.replicate (3 - (lg_sl ([.ref h, .int x1])).length) Slot.unset).toArray = ls at hl ⊢
  have hl : lv_has ls 3 [(0, .ref h), (1, .int x1)] := hl
  unfold R_inherited_w at hw
  exact rB_inherited_0 ⟨B.exec, B.bytes, hml, hown, hts⟩ B.returns B.notSynchronized ⟨Nat.le_of_ble_eq_true rfl, Nat.le_of_ble_eq_true rfl⟩ hK hA x1 σ s.heap [] ls (lv_sub hl [0, 1] rfl) ⟨hP, hD, va_S.rf⟩ hw
def R_firstNote_b2_s (Q : Int32 → rS → Prop) (K2 : Int32 → Int32 → Int32 → rS → Prop) (x1 : Int32) (x2 : Int32) (x3 : Int32) (σ : rS) : Prop :=
 vp_in x1 16 ∧ ((σ.2 15 x1.toNatClampNeg) ≤ x3 → Q (-1 : Int32) σ) ∧ (¬ (σ.2 15 x1.toNatClampNeg) ≤ x3 → R_typeOf_w (fun r15 t15 => (¬ r15 = x2 → ∀ v24 : Int32, v24 = x3 + (1 : Int32) → K2 x1 x2 v24 t15) ∧ (r15 = x2 → Q x3 t15)) x1 x3 σ)
def R_firstNote_b2_f (Q : Int32 → rS → Prop) : (Int32 × Int32 × Int32 × rS → Prop) → Int32 × Int32 × Int32 × rS → Prop :=
 fun K z => R_firstNote_b2_s Q (fun x1 x2 x3 σ => K (x1, x2, x3, σ)) z.1 z.2.1 z.2.2.1 z.2.2.2
def R_firstNote_b2 (Q : Int32 → rS → Prop) (x1 : Int32) (x2 : Int32) (x3 : Int32) (σ : rS) : Prop := ∃ n, fx (R_firstNote_b2_f Q ) n (x1, x2, x3, σ)
set_option maxHeartbeats 4000000 in
set_option maxRecDepth 100000 in
theorem rB_firstNote_2 {Q : Int32 → rS → Prop} (X : CallFix p m c cX7_firstNote 4 s args wsX7_firstNote RX7) (hr : meth.sig.returnType = (some .int)) (hlk : meth.locks = false) (hR : 1 ≤ R.frames ∧ 22 ≤ R.locals) (hK : va_K (dC, dI) vwCl [(cI, .int), (cZ, .boolean)] s) (hA : ∀ q, s.heap.size ≤ q → A q) : ∀ (n : Nat) (x1 : Int32) (x2 : Int32) (x3 : Int32) (σ : rS) (H : Heap) (locs : List Loc) (ls : Array Slot), lv_has ls 4 [(0, .ref h), (1, .int x1), (2, .int x2), (3, .int x3)] → rO dC dI h a cI cZ A s.heap σ H locs → fx (R_firstNote_b2_f Q ) n (x1, x2, x3, σ) → W p l e R s m args below meth c H locs 0 0 (MQ below (va_Qi Q (rAt dC dI A h a cI cZ) A) args s 0 0 A) (F0 m 2 ls []) := by
  intro n
  induction n with
  | zero => intro x1 x2 x3 σ H locs ls hl hO hw; exact False.elim hw
  | succ n k2 =>
    intro x1 x2 x3 σ H locs ls hl hO hw
    have hw : R_firstNote_b2_s Q (fun x1 x2 x3 σ => fx (R_firstNote_b2_f Q ) n (x1, x2, x3, σ)) x1 x2 x3 σ := hw
    unfold R_firstNote_b2_s at hw
    refine lv_iload_n X.1 X.2.1 dX7_firstNote_2 rfl (lv_at hl 3 rfl) ?_
    refine lv_aload_n X.1 X.2.1 dX7_firstNote_3 rfl (lv_at hl 0 rfl) ?_
    refine rf_noteCount X hK hO dX7_firstNote_4 ?_
    refine lv_iload_n X.1 X.2.1 dX7_firstNote_7 rfl (lv_at hl 1 rfl) ?_
    obtain ⟨g8, hw⟩ := hw
    refine ra_noteCount X.1 X.2.1 hK hO g8 dX7_firstNote_8 ?_
    refine lv_icmp_ge (tgt := 30) X.1 X.2.1 dX7_firstNote_9 rfl (fun hc9 => ?_) (fun hc9 => ?_)
    · have hw := hw.1 hc9
      refine lv_iconst (v := -1) X.1 X.2.1 dX7_firstNote_30 (by decide) ?_
      exact W.iret (v := (-1 : Int32)) X.1 X.2.1 hr (fun t ht hW => ⟨⟨(-1 : Int32), σ, rfl, hw, rO_end hO hK ht hW⟩, hO.2.2.F ht⟩) hO.2.2.2.2 dX7_firstNote_31 hlk
    · have hw := hw.2 hc9
      refine lv_aload_n X.1 X.2.1 dX7_firstNote_12 rfl (lv_at hl 0 rfl) ?_
      refine lv_iload_n X.1 X.2.1 dX7_firstNote_13 rfl (lv_at hl 1 rfl) ?_
      refine lv_iload_n X.1 X.2.1 dX7_firstNote_14 rfl (lv_at hl 3 rfl) ?_
      refine r_calli (rest := []) (As := [.int x1, .int x3]) X (rC_typeOf l dC dI h a cI cZ σ H.size x1 x3 _ hw) (cwV 2 X.2.2.2.2 gX7_typeOf rfl rfl rfl hdX7_typeOf ⟨Nat.le_trans (by decide) hR.1, Nat.le_trans (by decide) hR.2⟩) hK hA hO rfl hl.1 rfl (Nat.le_of_ble_eq_true rfl) dX7_firstNote_15 (fun r15 t15 H locs hO hw => ?_)
      refine lv_iload_n X.1 X.2.1 dX7_firstNote_18 rfl (lv_at hl 2 rfl) ?_
      refine lv_icmp_ne (tgt := 24) X.1 X.2.1 dX7_firstNote_19 rfl (fun hc9 => ?_) (fun hc9 => ?_)
      · have hw := hw.1 hc9
        obtain ⟨v24, e24⟩ : ∃ z, z = x3 + (1 : Int32) := ⟨_, rfl⟩
        have hw := hw v24 e24
        refine lv_iinc (lv' := [(3, .int v24), (0, .ref h), (1, .int x1), (2, .int x2)]) (k := 3) (v := v24) X.1 X.2.1 dX7_firstNote_24 hl rfl (by rw [e24]; rfl) (by decide) rfl (fun ls hl => ?_)
        refine lv_goto (tgt := 2) X.1 X.2.1 dX7_firstNote_27 rfl ?_
        exact k2 x1 x2 v24 t15 H locs ls (lv_sub hl [1, 2, 3, 0] rfl) hO hw
      · have hw := hw.2 hc9
        refine lv_iload_n X.1 X.2.1 dX7_firstNote_22 rfl (lv_at hl 3 rfl) ?_
        exact W.iret (v := x3) X.1 X.2.1 hr (fun t ht hW => ⟨⟨x3, t15, rfl, hw, rO_end hO hK ht hW⟩, hO.2.2.F ht⟩) hO.2.2.2.2 dX7_firstNote_23 hlk
def R_firstNote_b0 (Q : Int32 → rS → Prop) (x1 : Int32) (x2 : Int32) (σ : rS) : Prop :=
 R_firstNote_b2 Q x1 x2 (0 : Int32) σ
set_option maxHeartbeats 4000000 in
set_option maxRecDepth 100000 in
theorem rB_firstNote_0 {Q : Int32 → rS → Prop} (X : CallFix p m c cX7_firstNote 4 s args wsX7_firstNote RX7) (hr : meth.sig.returnType = (some .int)) (hlk : meth.locks = false) (hR : 1 ≤ R.frames ∧ 22 ≤ R.locals) (hK : va_K (dC, dI) vwCl [(cI, .int), (cZ, .boolean)] s) (hA : ∀ q, s.heap.size ≤ q → A q) (x1 : Int32) (x2 : Int32) (σ : rS) (H : Heap) (locs : List Loc) (ls : Array Slot) (hl : lv_has ls 4 [(0, .ref h), (1, .int x1), (2, .int x2)]) (hO : rO dC dI h a cI cZ A s.heap σ H locs) (hw : R_firstNote_b0 Q x1 x2 σ) : W p l e R s m args below meth c H locs 0 0 (MQ below (va_Qi Q (rAt dC dI A h a cI cZ) A) args s 0 0 A) (F0 m 0 ls []) := by
  unfold R_firstNote_b0 at hw
  refine lv_iconst (v := 0) X.1 X.2.1 dX7_firstNote_0 (by decide) ?_
  refine lv_istore_n (lv' := [(3, .int (0 : Int32)), (0, .ref h), (1, .int x1), (2, .int x2)]) X.1 X.2.1 dX7_firstNote_1 rfl hl (by decide) rfl (fun ls hl => ?_)
  obtain ⟨n, hw⟩ := hw
  exact rB_firstNote_2 X hr hlk hR hK hA n x1 x2 (0 : Int32) σ H locs ls (lv_sub hl [1, 2, 3, 0] rfl) hO hw
def R_firstNote_w (Q : Int32 → rS → Prop) (x1 : Int32) (x2 : Int32) (σ : rS) : Prop := R_firstNote_b0 Q x1 x2 σ
abbrev rmX7_firstNote : Room := { frames := 1, cells := 0, slots := 0, locals := 22 }
set_option maxHeartbeats 4000000 in
set_option maxRecDepth 100000 in
theorem rC_firstNote (l : Launch) (dC : Nat → ClassId) (dI : Nat → Nat → Nat) (h : Nat) (a : Nat → Nat) (cI cZ : ClassId) (σ : rS) (sz : Nat) (x1 : Int32) (x2 : Int32) (Q : Int32 → rS → Prop) (hw : R_firstNote_w Q x1 x2 σ) : Met l yX7_firstNote wsX7_firstNote rmX7_firstNote (rPc dC dI h a cI cZ sz σ [.ref h, .int x1, .int x2]) (va_Qi Q (rAt dC dI (va_A (rCells h a cI cZ σ) sz) h a cI cZ) (va_A (rCells h a cI cZ σ) sz)) 0 0 (va_A (rCells h a cI cZ σ) sz) := by
  refine Met.ofW (cc := cX7_firstNote) (maxL := 4) (ret := (some .int)) (by decide) rfl ?_
  intro p e s m args below meth c s₁ B hml hv
  obtain ⟨hargs, hsz, hP, hK, hD0⟩ := hv
  have hts := atoms_spec (ws := wsX7_firstNote) B.pre
  have hown : s.vm.findClass RX7 = some m.cls := findClass_of_methodNamed B.named
  subst hsz
  subst hargs
  have hD := hD0.self (sz := s.heap.size)
  generalize hAe : va_A (rCells h a cI cZ σ) s.heap.size = A at hD ⊢
  have hA : ∀ q : Nat, s.heap.size ≤ q → A q := fun q h => by rw [← hAe]; exact Or.inr h
  have hl := lv_entry ([.ref h, .int x1, .int x2]) (n := 4) (Nat.le_of_ble_eq_true rfl)
  rw [lg_entry_eq]
  generalize (lg_sl ([.ref h, .int x1, .int x2]) ++ List.replicate (4 - (lg_sl ([.ref h, .int x1, .int x2])).length) Slot.unset).toArray = ls at hl ⊢
  have hl : lv_has ls 4 [(0, .ref h), (1, .int x1), (2, .int x2)] := hl
  unfold R_firstNote_w at hw
  exact rB_firstNote_0 ⟨B.exec, B.bytes, hml, hown, hts⟩ B.returns B.notSynchronized ⟨Nat.le_of_ble_eq_true rfl, Nat.le_of_ble_eq_true rfl⟩ hK hA x1 x2 σ s.heap [] ls (lv_sub hl [0, 1, 2] rfl) ⟨hP, hD, va_S.rf⟩ hw
def R_holder_b16 (Q : Int32 → rS → Prop) (σ : rS) : Prop :=
 Q (-1 : Int32) σ
set_option maxHeartbeats 4000000 in
set_option maxRecDepth 100000 in
theorem rB_holder_16 {Q : Int32 → rS → Prop} (X : CallFix p m c cX7_holder 6 s args wsX7_holder RX7) (hr : meth.sig.returnType = (some .int)) (hlk : meth.locks = false) (hR : 2 ≤ R.frames ∧ 45 ≤ R.locals) (hK : va_K (dC, dI) vwCl [(cI, .int), (cZ, .boolean)] s) (hA : ∀ q, s.heap.size ≤ q → A q) (σ : rS) (H : Heap) (locs : List Loc) (ls : Array Slot) (hl : lv_has ls 6 [(0, .ref h)]) (hO : rO dC dI h a cI cZ A s.heap σ H locs) (hw : R_holder_b16 Q σ) : W p l e R s m args below meth c H locs 0 0 (MQ below (va_Qi Q (rAt dC dI A h a cI cZ) A) args s 0 0 A) (F0 m 16 ls []) := by
  unfold R_holder_b16 at hw
  refine lv_iconst (v := -1) X.1 X.2.1 dX7_holder_16 (by decide) ?_
  exact W.iret (v := (-1 : Int32)) X.1 X.2.1 hr (fun t ht hW => ⟨⟨(-1 : Int32), σ, rfl, hw, rO_end hO hK ht hW⟩, hO.2.2.F ht⟩) hO.2.2.2.2 dX7_holder_17 hlk
def R_holder_b92 (Q : Int32 → rS → Prop) (σ : rS) : Prop :=
 Q (-1 : Int32) σ
set_option maxHeartbeats 4000000 in
set_option maxRecDepth 100000 in
theorem rB_holder_92 {Q : Int32 → rS → Prop} (X : CallFix p m c cX7_holder 6 s args wsX7_holder RX7) (hr : meth.sig.returnType = (some .int)) (hlk : meth.locks = false) (hR : 2 ≤ R.frames ∧ 45 ≤ R.locals) (hK : va_K (dC, dI) vwCl [(cI, .int), (cZ, .boolean)] s) (hA : ∀ q, s.heap.size ≤ q → A q) (σ : rS) (H : Heap) (locs : List Loc) (ls : Array Slot) (hl : lv_has ls 6 [(0, .ref h)]) (hO : rO dC dI h a cI cZ A s.heap σ H locs) (hw : R_holder_b92 Q σ) : W p l e R s m args below meth c H locs 0 0 (MQ below (va_Qi Q (rAt dC dI A h a cI cZ) A) args s 0 0 A) (F0 m 92 ls []) := by
  unfold R_holder_b92 at hw
  refine lv_iconst (v := -1) X.1 X.2.1 dX7_holder_92 (by decide) ?_
  exact W.iret (v := (-1 : Int32)) X.1 X.2.1 hr (fun t ht hW => ⟨⟨(-1 : Int32), σ, rfl, hw, rO_end hO hK ht hW⟩, hO.2.2.F ht⟩) hO.2.2.2.2 dX7_holder_93 hlk
def R_holder_b84 (Q : Int32 → rS → Prop) (K30 : Int32 → Int32 → Int32 → Int32 → rS → Prop) (x2 : Int32) (x3 : Int32) (x5 : Int32) (y0 : Int32) (σ : rS) : Prop :=
 ∀ v86 : Int32, v86 = x5 + (1 : Int32) → K30 x2 x3 y0 v86 σ
set_option maxHeartbeats 4000000 in
set_option maxRecDepth 100000 in
theorem rB_holder_84 {Q : Int32 → rS → Prop} {K30 : Int32 → Int32 → Int32 → Int32 → rS → Prop} (X : CallFix p m c cX7_holder 6 s args wsX7_holder RX7) (hr : meth.sig.returnType = (some .int)) (hlk : meth.locks = false) (hR : 2 ≤ R.frames ∧ 45 ≤ R.locals) (hK : va_K (dC, dI) vwCl [(cI, .int), (cZ, .boolean)] s) (hA : ∀ q, s.heap.size ≤ q → A q) (k30 : ∀ (x2 : Int32) (x3 : Int32) (x4 : Int32) (x5 : Int32) (σ : rS) (H : Heap) (locs : List Loc) (ls : Array Slot), lv_has ls 6 [(0, .ref h), (2, .int x2), (3, .int x3), (4, .int x4), (5, .int x5)] → rO dC dI h a cI cZ A s.heap σ H locs → K30 x2 x3 x4 x5 σ → W p l e R s m args below meth c H locs 0 0 (MQ below (va_Qi Q (rAt dC dI A h a cI cZ) A) args s 0 0 A) (F0 m 30 ls [])) (x2 : Int32) (x3 : Int32) (x5 : Int32) (y0 : Int32) (σ : rS) (H : Heap) (locs : List Loc) (ls : Array Slot) (hl : lv_has ls 6 [(0, .ref h), (2, .int x2), (3, .int x3), (5, .int x5)]) (hO : rO dC dI h a cI cZ A s.heap σ H locs) (hw : R_holder_b84 Q K30 x2 x3 x5 y0 σ) : W p l e R s m args below meth c H locs 0 0 (MQ below (va_Qi Q (rAt dC dI A h a cI cZ) A) args s 0 0 A) (F0 m 84 ls [.int y0]) := by
  unfold R_holder_b84 at hw
  refine lv_istore (lv' := [(4, .int y0), (0, .ref h), (2, .int x2), (3, .int x3), (5, .int x5)]) X.1 X.2.1 dX7_holder_84 hl (by decide) rfl (fun ls hl => ?_)
  obtain ⟨v86, e86⟩ : ∃ z, z = x5 + (1 : Int32) := ⟨_, rfl⟩
  have hw := hw v86 e86
  refine lv_iinc (lv' := [(5, .int v86), (4, .int y0), (0, .ref h), (2, .int x2), (3, .int x3)]) (k := 4) (v := v86) X.1 X.2.1 dX7_holder_86 hl rfl (by rw [e86]; rfl) (by decide) rfl (fun ls hl => ?_)
  refine lv_goto (tgt := 30) X.1 X.2.1 dX7_holder_89 rfl ?_
  exact k30 x2 x3 y0 v86 σ H locs ls (lv_sub hl [2, 3, 4, 1, 0] rfl) hO hw
def R_holder_b83 (Q : Int32 → rS → Prop) (K30 : Int32 → Int32 → Int32 → Int32 → rS → Prop) (x2 : Int32) (x3 : Int32) (x5 : Int32) (σ : rS) : Prop :=
 R_holder_b84 Q K30 x2 x3 x5 (-1 : Int32) σ
set_option maxHeartbeats 4000000 in
set_option maxRecDepth 100000 in
theorem rB_holder_83 {Q : Int32 → rS → Prop} {K30 : Int32 → Int32 → Int32 → Int32 → rS → Prop} (X : CallFix p m c cX7_holder 6 s args wsX7_holder RX7) (hr : meth.sig.returnType = (some .int)) (hlk : meth.locks = false) (hR : 2 ≤ R.frames ∧ 45 ≤ R.locals) (hK : va_K (dC, dI) vwCl [(cI, .int), (cZ, .boolean)] s) (hA : ∀ q, s.heap.size ≤ q → A q) (k30 : ∀ (x2 : Int32) (x3 : Int32) (x4 : Int32) (x5 : Int32) (σ : rS) (H : Heap) (locs : List Loc) (ls : Array Slot), lv_has ls 6 [(0, .ref h), (2, .int x2), (3, .int x3), (4, .int x4), (5, .int x5)] → rO dC dI h a cI cZ A s.heap σ H locs → K30 x2 x3 x4 x5 σ → W p l e R s m args below meth c H locs 0 0 (MQ below (va_Qi Q (rAt dC dI A h a cI cZ) A) args s 0 0 A) (F0 m 30 ls [])) (x2 : Int32) (x3 : Int32) (x5 : Int32) (σ : rS) (H : Heap) (locs : List Loc) (ls : Array Slot) (hl : lv_has ls 6 [(0, .ref h), (2, .int x2), (3, .int x3), (5, .int x5)]) (hO : rO dC dI h a cI cZ A s.heap σ H locs) (hw : R_holder_b83 Q K30 x2 x3 x5 σ) : W p l e R s m args below meth c H locs 0 0 (MQ below (va_Qi Q (rAt dC dI A h a cI cZ) A) args s 0 0 A) (F0 m 83 ls []) := by
  unfold R_holder_b83 at hw
  refine lv_iconst (v := -1) X.1 X.2.1 dX7_holder_83 (by decide) ?_
  exact rB_holder_84 X hr hlk hR hK hA k30 x2 x3 x5 (-1 : Int32) σ H locs ls (lv_sub hl [0, 1, 2, 3] rfl) hO hw
def R_holder_b30_s (Q : Int32 → rS → Prop) (K30 : Int32 → Int32 → Int32 → Int32 → rS → Prop) (x2 : Int32) (x3 : Int32) (x4 : Int32) (x5 : Int32) (σ : rS) : Prop :=
 ((16 : Int32) < x5 → R_holder_b92 Q σ) ∧ (¬ (16 : Int32) < x5 → (x4 < 0 → R_holder_b92 Q σ) ∧ (¬ x4 < 0 → R_firstNote_w (fun r46 t46 => (r46 < 0 → (x3 = 0 → R_holder_b83 Q K30 x2 x3 x5 t46) ∧ (¬ x3 = 0 → vp_in x4 16 ∧ ((t46.2 11 x4.toNatClampNeg) < 0 → R_holder_b83 Q K30 x2 x3 x5 t46) ∧ (¬ (t46.2 11 x4.toNatClampNeg) < 0 → vp_in x4 16 ∧ R_find_w (fun r77 t77 => R_holder_b84 Q K30 x2 x3 x5 r77 t77) (t46.2 11 x4.toNatClampNeg) t46))) ∧ (¬ r46 < 0 → Q x4 t46)) x4 x2 σ))
def R_holder_b30_f (Q : Int32 → rS → Prop) : (Int32 × Int32 × Int32 × Int32 × rS → Prop) → Int32 × Int32 × Int32 × Int32 × rS → Prop :=
 fun K z => R_holder_b30_s Q (fun x2 x3 x4 x5 σ => K (x2, x3, x4, x5, σ)) z.1 z.2.1 z.2.2.1 z.2.2.2.1 z.2.2.2.2
def R_holder_b30 (Q : Int32 → rS → Prop) (x2 : Int32) (x3 : Int32) (x4 : Int32) (x5 : Int32) (σ : rS) : Prop := ∃ n, fx (R_holder_b30_f Q ) n (x2, x3, x4, x5, σ)
set_option maxHeartbeats 4000000 in
set_option maxRecDepth 100000 in
theorem rB_holder_30 {Q : Int32 → rS → Prop} (X : CallFix p m c cX7_holder 6 s args wsX7_holder RX7) (hr : meth.sig.returnType = (some .int)) (hlk : meth.locks = false) (hR : 2 ≤ R.frames ∧ 45 ≤ R.locals) (hK : va_K (dC, dI) vwCl [(cI, .int), (cZ, .boolean)] s) (hA : ∀ q, s.heap.size ≤ q → A q) : ∀ (n : Nat) (x2 : Int32) (x3 : Int32) (x4 : Int32) (x5 : Int32) (σ : rS) (H : Heap) (locs : List Loc) (ls : Array Slot), lv_has ls 6 [(0, .ref h), (2, .int x2), (3, .int x3), (4, .int x4), (5, .int x5)] → rO dC dI h a cI cZ A s.heap σ H locs → fx (R_holder_b30_f Q ) n (x2, x3, x4, x5, σ) → W p l e R s m args below meth c H locs 0 0 (MQ below (va_Qi Q (rAt dC dI A h a cI cZ) A) args s 0 0 A) (F0 m 30 ls []) := by
  intro n
  induction n with
  | zero => intro x2 x3 x4 x5 σ H locs ls hl hO hw; exact False.elim hw
  | succ n k30 =>
    intro x2 x3 x4 x5 σ H locs ls hl hO hw
    have hw : R_holder_b30_s Q (fun x2 x3 x4 x5 σ => fx (R_holder_b30_f Q ) n (x2, x3, x4, x5, σ)) x2 x3 x4 x5 σ := hw
    unfold R_holder_b30_s at hw
    refine lv_iload X.1 X.2.1 dX7_holder_30 (lv_at hl 4 rfl) ?_
    refine lv_bipush (v := 16) X.1 X.2.1 dX7_holder_32 (by decide) ?_
    refine lv_icmp_gt (tgt := 92) X.1 X.2.1 dX7_holder_34 rfl (fun hc9 => ?_) (fun hc9 => ?_)
    · have hw := hw.1 hc9
      exact rB_holder_92 X hr hlk hR hK hA σ H locs ls (lv_sub hl [0] rfl) hO hw
    · have hw := hw.2 hc9
      refine lv_iload X.1 X.2.1 dX7_holder_37 (lv_at hl 3 rfl) ?_
      refine lv_if_lt (tgt := 92) X.1 X.2.1 dX7_holder_39 rfl (fun hc9 => ?_) (fun hc9 => ?_)
      · have hw := hw.1 hc9
        exact rB_holder_92 X hr hlk hR hK hA σ H locs ls (lv_sub hl [0] rfl) hO hw
      · have hw := hw.2 hc9
        refine lv_aload_n X.1 X.2.1 dX7_holder_42 rfl (lv_at hl 0 rfl) ?_
        refine lv_iload X.1 X.2.1 dX7_holder_43 (lv_at hl 3 rfl) ?_
        refine lv_iload_n X.1 X.2.1 dX7_holder_45 rfl (lv_at hl 1 rfl) ?_
        refine r_calli (rest := []) (As := [.int x4, .int x2]) X (rC_firstNote l dC dI h a cI cZ σ H.size x4 x2 _ hw) (cwV 2 X.2.2.2.2 gX7_firstNote rfl rfl rfl hdX7_firstNote ⟨Nat.le_trans (by decide) hR.1, Nat.le_trans (by decide) hR.2⟩) hK hA hO rfl hl.1 rfl (Nat.le_of_ble_eq_true rfl) dX7_holder_46 (fun r46 t46 H locs hO hw => ?_)
        refine lv_if_lt (tgt := 55) X.1 X.2.1 dX7_holder_49 rfl (fun hc9 => ?_) (fun hc9 => ?_)
        · have hw := hw.1 hc9
          refine lv_iload_n X.1 X.2.1 dX7_holder_55 rfl (lv_at hl 2 rfl) ?_
          refine lv_if_eq (tgt := 83) X.1 X.2.1 dX7_holder_56 rfl (fun hc9 => ?_) (fun hc9 => ?_)
          · have hw := hw.1 hc9
            exact rB_holder_83 X hr hlk hR hK hA k30 x2 x3 x5 t46 H locs ls (lv_sub hl [0, 1, 2, 4] rfl) hO hw
          · have hw := hw.2 hc9
            refine lv_aload_n X.1 X.2.1 dX7_holder_59 rfl (lv_at hl 0 rfl) ?_
            refine rf_above X hK hO dX7_holder_60 ?_
            refine lv_iload X.1 X.2.1 dX7_holder_63 (lv_at hl 3 rfl) ?_
            obtain ⟨g65, hw⟩ := hw
            refine ra_above X.1 X.2.1 hK hO g65 dX7_holder_65 ?_
            refine lv_if_lt (tgt := 83) X.1 X.2.1 dX7_holder_66 rfl (fun hc9 => ?_) (fun hc9 => ?_)
            · have hw := hw.1 hc9
              exact rB_holder_83 X hr hlk hR hK hA k30 x2 x3 x5 t46 H locs ls (lv_sub hl [0, 1, 2, 4] rfl) hO hw
            · have hw := hw.2 hc9
              refine lv_aload_n X.1 X.2.1 dX7_holder_69 rfl (lv_at hl 0 rfl) ?_
              refine lv_aload_n X.1 X.2.1 dX7_holder_70 rfl (lv_at hl 0 rfl) ?_
              refine rf_above X hK hO dX7_holder_71 ?_
              refine lv_iload X.1 X.2.1 dX7_holder_74 (lv_at hl 3 rfl) ?_
              obtain ⟨g76, hw⟩ := hw
              refine ra_above X.1 X.2.1 hK hO g76 dX7_holder_76 ?_
              refine r_calli (rest := []) (As := [.int (t46.2 11 x4.toNatClampNeg)]) X (rC_find l dC dI h a cI cZ t46 H.size (t46.2 11 x4.toNatClampNeg) _ hw) (cwV 1 X.2.2.2.2 gX7_find rfl rfl rfl hdX7_find ⟨Nat.le_trans (by decide) hR.1, Nat.le_trans (by decide) hR.2⟩) hK hA hO rfl hl.1 rfl (Nat.le_of_ble_eq_true rfl) dX7_holder_77 (fun r77 t77 H locs hO hw => ?_)
              refine lv_goto (tgt := 84) X.1 X.2.1 dX7_holder_80 rfl ?_
              exact rB_holder_84 X hr hlk hR hK hA k30 x2 x3 x5 r77 t77 H locs ls (lv_sub hl [0, 1, 2, 4] rfl) hO hw
        · have hw := hw.2 hc9
          refine lv_iload X.1 X.2.1 dX7_holder_52 (lv_at hl 3 rfl) ?_
          exact W.iret (v := x4) X.1 X.2.1 hr (fun t ht hW => ⟨⟨x4, t46, rfl, hw, rO_end hO hK ht hW⟩, hO.2.2.F ht⟩) hO.2.2.2.2 dX7_holder_54 hlk
def R_holder_b0 (Q : Int32 → rS → Prop) (x1 : Int32) (x2 : Int32) (σ : rS) : Prop :=
 R_isClass_w (fun r2 t2 => (r2 = 0 → R_holder_b16 Q t2) ∧ (¬ r2 = 0 → R_isText_w (fun r10 t10 => (¬ r10 = 0 → R_inherited_w (fun r20 t20 => R_holder_b30 Q x2 r20 x1 (0 : Int32) t20) x2 t10) ∧ (r10 = 0 → R_holder_b16 Q t10)) x2 t2)) x1 σ
set_option maxHeartbeats 4000000 in
set_option maxRecDepth 100000 in
theorem rB_holder_0 {Q : Int32 → rS → Prop} (X : CallFix p m c cX7_holder 6 s args wsX7_holder RX7) (hr : meth.sig.returnType = (some .int)) (hlk : meth.locks = false) (hR : 2 ≤ R.frames ∧ 45 ≤ R.locals) (hK : va_K (dC, dI) vwCl [(cI, .int), (cZ, .boolean)] s) (hA : ∀ q, s.heap.size ≤ q → A q) (x1 : Int32) (x2 : Int32) (σ : rS) (H : Heap) (locs : List Loc) (ls : Array Slot) (hl : lv_has ls 6 [(0, .ref h), (1, .int x1), (2, .int x2)]) (hO : rO dC dI h a cI cZ A s.heap σ H locs) (hw : R_holder_b0 Q x1 x2 σ) : W p l e R s m args below meth c H locs 0 0 (MQ below (va_Qi Q (rAt dC dI A h a cI cZ) A) args s 0 0 A) (F0 m 0 ls []) := by
  unfold R_holder_b0 at hw
  refine lv_aload_n X.1 X.2.1 dX7_holder_0 rfl (lv_at hl 0 rfl) ?_
  refine lv_iload_n X.1 X.2.1 dX7_holder_1 rfl (lv_at hl 1 rfl) ?_
  refine r_calli (rest := []) (As := [.int x1]) X (rC_isClass l dC dI h a cI cZ σ H.size x1 _ hw) (cwV 1 X.2.2.2.2 gX7_isClass rfl rfl rfl hdX7_isClass ⟨Nat.le_trans (by decide) hR.1, Nat.le_trans (by decide) hR.2⟩) hK hA hO rfl hl.1 rfl (Nat.le_of_ble_eq_true rfl) dX7_holder_2 (fun r2 t2 H locs hO hw => ?_)
  refine lv_if_eq (tgt := 16) X.1 X.2.1 dX7_holder_5 rfl (fun hc9 => ?_) (fun hc9 => ?_)
  · have hw := hw.1 hc9
    exact rB_holder_16 X hr hlk hR hK hA t2 H locs ls (lv_sub hl [0] rfl) hO hw
  · have hw := hw.2 hc9
    refine lv_aload_n X.1 X.2.1 dX7_holder_8 rfl (lv_at hl 0 rfl) ?_
    refine lv_iload_n X.1 X.2.1 dX7_holder_9 rfl (lv_at hl 2 rfl) ?_
    refine r_calli (rest := []) (As := [.int x2]) X (rC_isText l dC dI h a cI cZ t2 H.size x2 _ hw) (cwV 1 X.2.2.2.2 gX7_isText rfl rfl rfl hdX7_isText ⟨Nat.le_trans (by decide) hR.1, Nat.le_trans (by decide) hR.2⟩) hK hA hO rfl hl.1 rfl (Nat.le_of_ble_eq_true rfl) dX7_holder_10 (fun r10 t10 H locs hO hw => ?_)
    refine lv_if_ne (tgt := 18) X.1 X.2.1 dX7_holder_13 rfl (fun hc9 => ?_) (fun hc9 => ?_)
    · have hw := hw.1 hc9
      refine lv_aload_n X.1 X.2.1 dX7_holder_18 rfl (lv_at hl 0 rfl) ?_
      refine lv_iload_n X.1 X.2.1 dX7_holder_19 rfl (lv_at hl 2 rfl) ?_
      refine r_calli (rest := []) (As := [.int x2]) X (rC_inherited l dC dI h a cI cZ t10 H.size x2 _ hw) (cwV 1 X.2.2.2.2 gX7_inherited rfl rfl rfl hdX7_inherited ⟨Nat.le_trans (by decide) hR.1, Nat.le_trans (by decide) hR.2⟩) hK hA hO rfl hl.1 rfl (Nat.le_of_ble_eq_true rfl) dX7_holder_20 (fun r20 t20 H locs hO hw => ?_)
      refine lv_istore_n (lv' := [(3, .int r20), (0, .ref h), (1, .int x1), (2, .int x2)]) X.1 X.2.1 dX7_holder_23 rfl hl (by decide) rfl (fun ls hl => ?_)
      refine lv_iload_n X.1 X.2.1 dX7_holder_24 rfl (lv_at hl 2 rfl) ?_
      refine lv_istore (lv' := [(4, .int x1), (3, .int r20), (0, .ref h), (1, .int x1), (2, .int x2)]) X.1 X.2.1 dX7_holder_25 hl (by decide) rfl (fun ls hl => ?_)
      refine lv_iconst (v := 0) X.1 X.2.1 dX7_holder_27 (by decide) ?_
      refine lv_istore (lv' := [(5, .int (0 : Int32)), (4, .int x1), (3, .int r20), (0, .ref h), (1, .int x1), (2, .int x2)]) X.1 X.2.1 dX7_holder_28 hl (by decide) rfl (fun ls hl => ?_)
      obtain ⟨n, hw⟩ := hw
      exact rB_holder_30 X hr hlk hR hK hA n x2 r20 x1 (0 : Int32) t20 H locs ls (lv_sub hl [3, 5, 2, 1, 0] rfl) hO hw
    · have hw := hw.2 hc9
      exact rB_holder_16 X hr hlk hR hK hA t10 H locs ls (lv_sub hl [0] rfl) hO hw
def R_holder_w (Q : Int32 → rS → Prop) (x1 : Int32) (x2 : Int32) (σ : rS) : Prop := R_holder_b0 Q x1 x2 σ
abbrev rmX7_holder : Room := { frames := 2, cells := 0, slots := 0, locals := 45 }
set_option maxHeartbeats 4000000 in
set_option maxRecDepth 100000 in
theorem rC_holder (l : Launch) (dC : Nat → ClassId) (dI : Nat → Nat → Nat) (h : Nat) (a : Nat → Nat) (cI cZ : ClassId) (σ : rS) (sz : Nat) (x1 : Int32) (x2 : Int32) (Q : Int32 → rS → Prop) (hw : R_holder_w Q x1 x2 σ) : Met l yX7_holder wsX7_holder rmX7_holder (rPc dC dI h a cI cZ sz σ [.ref h, .int x1, .int x2]) (va_Qi Q (rAt dC dI (va_A (rCells h a cI cZ σ) sz) h a cI cZ) (va_A (rCells h a cI cZ σ) sz)) 0 0 (va_A (rCells h a cI cZ σ) sz) := by
  refine Met.ofW (cc := cX7_holder) (maxL := 6) (ret := (some .int)) (by decide) rfl ?_
  intro p e s m args below meth c s₁ B hml hv
  obtain ⟨hargs, hsz, hP, hK, hD0⟩ := hv
  have hts := atoms_spec (ws := wsX7_holder) B.pre
  have hown : s.vm.findClass RX7 = some m.cls := findClass_of_methodNamed B.named
  subst hsz
  subst hargs
  have hD := hD0.self (sz := s.heap.size)
  generalize hAe : va_A (rCells h a cI cZ σ) s.heap.size = A at hD ⊢
  have hA : ∀ q : Nat, s.heap.size ≤ q → A q := fun q h => by rw [← hAe]; exact Or.inr h
  have hl := lv_entry ([.ref h, .int x1, .int x2]) (n := 6) (Nat.le_of_ble_eq_true rfl)
  rw [lg_entry_eq]
  generalize (lg_sl ([.ref h, .int x1, .int x2]) ++ List.replicate (6 - (lg_sl ([.ref h, .int x1, .int x2])).length) Slot.unset).toArray = ls at hl ⊢
  have hl : lv_has ls 6 [(0, .ref h), (1, .int x1), (2, .int x2)] := hl
  unfold R_holder_w at hw
  exact rB_holder_0 ⟨B.exec, B.bytes, hml, hown, hts⟩ B.returns B.notSynchronized ⟨Nat.le_of_ble_eq_true rfl, Nat.le_of_ble_eq_true rfl⟩ hK hA x1 x2 σ s.heap [] ls (lv_sub hl [0, 1, 2] rfl) ⟨hP, hD, va_S.rf⟩ hw
end
