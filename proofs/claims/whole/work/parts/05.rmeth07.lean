section
variable {p : Program} {l : Launch} {e : Env} {R : Room} {s : State} {m : MethodId} {args : Array Value} {below : List Frame} {meth : Method} {c : Code}
variable {dC : Nat → ClassId} {dI : Nat → Nat → Nat} {h : Nat} {a : Nat → Nat} {cI cZ : ClassId} {A : Nat → Prop}
def R_behind_b145 (Q : Int32 → rS → Prop) (K18 : Int32 → Int32 → rS → Prop) (x2 : Int32) (x3 : Int32) (σ : rS) : Prop :=
 K18 x2 x3 σ
set_option maxHeartbeats 4000000 in
set_option maxRecDepth 100000 in
theorem rB_behind_145 {Q : Int32 → rS → Prop} {K18 : Int32 → Int32 → rS → Prop} (X : CallFix p m c cX7_behind 5 s args wsX7_behind RX7) (hr : meth.sig.returnType = (some .int)) (hlk : meth.locks = false) (hR : 0 ≤ R.frames ∧ 0 ≤ R.locals) (hK : va_K (dC, dI) vwCl [(cI, .int), (cZ, .boolean)] s) (hA : ∀ q, s.heap.size ≤ q → A q) (k18 : ∀ (x2 : Int32) (x3 : Int32) (σ : rS) (H : Heap) (locs : List Loc) (ls : Array Slot), lv_has ls 5 [(0, .ref h), (2, .int x2), (3, .int x3)] → rO dC dI h a cI cZ A s.heap σ H locs → K18 x2 x3 σ → W p l e R s m args below meth c H locs 0 0 (MQ below (va_Qi Q (rAt dC dI A h a cI cZ) A) args s 0 0 A) (F0 m 18 ls [])) (x2 : Int32) (x3 : Int32) (σ : rS) (H : Heap) (locs : List Loc) (ls : Array Slot) (hl : lv_has ls 5 [(0, .ref h), (2, .int x2), (3, .int x3)]) (hO : rO dC dI h a cI cZ A s.heap σ H locs) (hw : R_behind_b145 Q K18 x2 x3 σ) : W p l e R s m args below meth c H locs 0 0 (MQ below (va_Qi Q (rAt dC dI A h a cI cZ) A) args s 0 0 A) (F0 m 145 ls []) := by
  unfold R_behind_b145 at hw
  refine lv_goto (tgt := 18) X.1 X.2.1 dX7_behind_145 rfl ?_
  exact k18 x2 x3 σ H locs ls (lv_sub hl [0, 1, 2] rfl) hO hw
def R_behind_b135 (Q : Int32 → rS → Prop) (K18 : Int32 → Int32 → rS → Prop) (x2 : Int32) (x3 : Int32) (y0 : Int32) (y1 : Int32) (σ : rS) : Prop :=
 vp_in y1 7 ∧ ∀ t135 : rS, t135 = rA σ 26 y1 (vp_nar .boolean y0) → ∀ v136 : Int32, v136 = x2 + (1 : Int32) → R_behind_b145 Q K18 v136 x3 t135
set_option maxHeartbeats 4000000 in
set_option maxRecDepth 100000 in
theorem rB_behind_135 {Q : Int32 → rS → Prop} {K18 : Int32 → Int32 → rS → Prop} (X : CallFix p m c cX7_behind 5 s args wsX7_behind RX7) (hr : meth.sig.returnType = (some .int)) (hlk : meth.locks = false) (hR : 0 ≤ R.frames ∧ 0 ≤ R.locals) (hK : va_K (dC, dI) vwCl [(cI, .int), (cZ, .boolean)] s) (hA : ∀ q, s.heap.size ≤ q → A q) (k18 : ∀ (x2 : Int32) (x3 : Int32) (σ : rS) (H : Heap) (locs : List Loc) (ls : Array Slot), lv_has ls 5 [(0, .ref h), (2, .int x2), (3, .int x3)] → rO dC dI h a cI cZ A s.heap σ H locs → K18 x2 x3 σ → W p l e R s m args below meth c H locs 0 0 (MQ below (va_Qi Q (rAt dC dI A h a cI cZ) A) args s 0 0 A) (F0 m 18 ls [])) (x2 : Int32) (x3 : Int32) (y0 : Int32) (y1 : Int32) (σ : rS) (H : Heap) (locs : List Loc) (ls : Array Slot) (hl : lv_has ls 5 [(0, .ref h), (2, .int x2), (3, .int x3)]) (hO : rO dC dI h a cI cZ A s.heap σ H locs) (hw : R_behind_b135 Q K18 x2 x3 y0 y1 σ) : W p l e R s m args below meth c H locs 0 0 (MQ below (va_Qi Q (rAt dC dI A h a cI cZ) A) args s 0 0 A) (F0 m 135 ls [.int y0, .int y1, .ref (a 26)]) := by
  unfold R_behind_b135 at hw
  obtain ⟨g135, hw⟩ := hw
  refine rs_named X.1 X.2.1 hK hO g135 dX7_behind_135 (fun H locs hO => ?_)
  obtain ⟨t135, e135⟩ : ∃ z, z = rA σ 26 y1 (vp_nar .boolean y0) := ⟨_, rfl⟩
  have hw := hw t135 e135
  rw [← e135] at hO
  obtain ⟨v136, e136⟩ : ∃ z, z = x2 + (1 : Int32) := ⟨_, rfl⟩
  have hw := hw v136 e136
  refine lv_iinc (lv' := [(2, .int v136), (0, .ref h), (3, .int x3)]) (k := 1) (v := v136) X.1 X.2.1 dX7_behind_136 hl rfl (by rw [e136]; rfl) (by decide) rfl (fun ls hl => ?_)
  refine lv_goto (tgt := 145) X.1 X.2.1 dX7_behind_139 rfl ?_
  exact rB_behind_145 X hr hlk hR hK hA k18 v136 x3 t135 H locs ls (lv_sub hl [1, 0, 2] rfl) hO hw
def R_behind_b102 (Q : Int32 → rS → Prop) (K18 : Int32 → Int32 → rS → Prop) (x3 : Int32) (x4 : Int32) (y0 : Int32) (σ : rS) : Prop :=
 ∀ v103 : Int32, v103 = x3 + (1 : Int32) → vp_in y0 1920 ∧ vp_in v103 7 ∧ ∀ t117 : rS, t117 = rA σ 25 v103 (σ.2 2 y0.toNatClampNeg) → (¬ x4 = (64 : Int32) → R_behind_b135 Q K18 y0 v103 (0 : Int32) v103 t117) ∧ (x4 = (64 : Int32) → R_behind_b135 Q K18 y0 v103 (1 : Int32) v103 t117)
set_option maxHeartbeats 4000000 in
set_option maxRecDepth 100000 in
theorem rB_behind_102 {Q : Int32 → rS → Prop} {K18 : Int32 → Int32 → rS → Prop} (X : CallFix p m c cX7_behind 5 s args wsX7_behind RX7) (hr : meth.sig.returnType = (some .int)) (hlk : meth.locks = false) (hR : 0 ≤ R.frames ∧ 0 ≤ R.locals) (hK : va_K (dC, dI) vwCl [(cI, .int), (cZ, .boolean)] s) (hA : ∀ q, s.heap.size ≤ q → A q) (k18 : ∀ (x2 : Int32) (x3 : Int32) (σ : rS) (H : Heap) (locs : List Loc) (ls : Array Slot), lv_has ls 5 [(0, .ref h), (2, .int x2), (3, .int x3)] → rO dC dI h a cI cZ A s.heap σ H locs → K18 x2 x3 σ → W p l e R s m args below meth c H locs 0 0 (MQ below (va_Qi Q (rAt dC dI A h a cI cZ) A) args s 0 0 A) (F0 m 18 ls [])) (x3 : Int32) (x4 : Int32) (y0 : Int32) (σ : rS) (H : Heap) (locs : List Loc) (ls : Array Slot) (hl : lv_has ls 5 [(0, .ref h), (3, .int x3), (4, .int x4)]) (hO : rO dC dI h a cI cZ A s.heap σ H locs) (hw : R_behind_b102 Q K18 x3 x4 y0 σ) : W p l e R s m args below meth c H locs 0 0 (MQ below (va_Qi Q (rAt dC dI A h a cI cZ) A) args s 0 0 A) (F0 m 102 ls [.int y0]) := by
  unfold R_behind_b102 at hw
  refine lv_istore_n (lv' := [(2, .int y0), (0, .ref h), (3, .int x3), (4, .int x4)]) X.1 X.2.1 dX7_behind_102 rfl hl (by decide) rfl (fun ls hl => ?_)
  obtain ⟨v103, e103⟩ : ∃ z, z = x3 + (1 : Int32) := ⟨_, rfl⟩
  have hw := hw v103 e103
  refine lv_iinc (lv' := [(3, .int v103), (2, .int y0), (0, .ref h), (4, .int x4)]) (k := 2) (v := v103) X.1 X.2.1 dX7_behind_103 hl rfl (by rw [e103]; rfl) (by decide) rfl (fun ls hl => ?_)
  refine lv_aload_n X.1 X.2.1 dX7_behind_106 rfl (lv_at hl 2 rfl) ?_
  refine rf_left X hK hO dX7_behind_107 ?_
  refine lv_iload_n X.1 X.2.1 dX7_behind_110 rfl (lv_at hl 0 rfl) ?_
  refine lv_aload_n X.1 X.2.1 dX7_behind_111 rfl (lv_at hl 2 rfl) ?_
  refine rf_bytes X hK hO dX7_behind_112 ?_
  refine lv_iload_n X.1 X.2.1 dX7_behind_115 rfl (lv_at hl 1 rfl) ?_
  obtain ⟨g116, hw⟩ := hw
  refine ra_bytes X.1 X.2.1 hK hO g116 dX7_behind_116 ?_
  obtain ⟨g117, hw⟩ := hw
  refine rs_left X.1 X.2.1 hK hO g117 dX7_behind_117 (fun H locs hO => ?_)
  obtain ⟨t117, e117⟩ : ∃ z, z = rA σ 25 v103 (σ.2 2 y0.toNatClampNeg) := ⟨_, rfl⟩
  have hw := hw t117 e117
  rw [← e117] at hO
  refine lv_aload_n X.1 X.2.1 dX7_behind_118 rfl (lv_at hl 2 rfl) ?_
  refine rf_named X hK hO dX7_behind_119 ?_
  refine lv_iload_n X.1 X.2.1 dX7_behind_122 rfl (lv_at hl 0 rfl) ?_
  refine lv_iload X.1 X.2.1 dX7_behind_123 (lv_at hl 3 rfl) ?_
  refine lv_bipush (v := 64) X.1 X.2.1 dX7_behind_125 (by decide) ?_
  refine lv_icmp_ne (tgt := 134) X.1 X.2.1 dX7_behind_127 rfl (fun hc9 => ?_) (fun hc9 => ?_)
  · have hw := hw.1 hc9
    refine lv_iconst (v := 0) X.1 X.2.1 dX7_behind_134 (by decide) ?_
    exact rB_behind_135 X hr hlk hR hK hA k18 y0 v103 (0 : Int32) v103 t117 H locs ls (lv_sub hl [2, 1, 0] rfl) hO hw
  · have hw := hw.2 hc9
    refine lv_iconst (v := 1) X.1 X.2.1 dX7_behind_130 (by decide) ?_
    refine lv_goto (tgt := 135) X.1 X.2.1 dX7_behind_131 rfl ?_
    exact rB_behind_135 X hr hlk hR hK hA k18 y0 v103 (1 : Int32) v103 t117 H locs ls (lv_sub hl [2, 1, 0] rfl) hO hw
def R_behind_b86 (Q : Int32 → rS → Prop) (K18 : Int32 → Int32 → rS → Prop) (x2 : Int32) (x3 : Int32) (x4 : Int32) (σ : rS) : Prop :=
 (¬ x4 = (64 : Int32) → R_behind_b102 Q K18 x3 x4 (x2 + (1 : Int32)) σ) ∧ (x4 = (64 : Int32) → R_behind_b102 Q K18 x3 x4 (x2 + (2 : Int32)) σ)
set_option maxHeartbeats 4000000 in
set_option maxRecDepth 100000 in
theorem rB_behind_86 {Q : Int32 → rS → Prop} {K18 : Int32 → Int32 → rS → Prop} (X : CallFix p m c cX7_behind 5 s args wsX7_behind RX7) (hr : meth.sig.returnType = (some .int)) (hlk : meth.locks = false) (hR : 0 ≤ R.frames ∧ 0 ≤ R.locals) (hK : va_K (dC, dI) vwCl [(cI, .int), (cZ, .boolean)] s) (hA : ∀ q, s.heap.size ≤ q → A q) (k18 : ∀ (x2 : Int32) (x3 : Int32) (σ : rS) (H : Heap) (locs : List Loc) (ls : Array Slot), lv_has ls 5 [(0, .ref h), (2, .int x2), (3, .int x3)] → rO dC dI h a cI cZ A s.heap σ H locs → K18 x2 x3 σ → W p l e R s m args below meth c H locs 0 0 (MQ below (va_Qi Q (rAt dC dI A h a cI cZ) A) args s 0 0 A) (F0 m 18 ls [])) (x2 : Int32) (x3 : Int32) (x4 : Int32) (σ : rS) (H : Heap) (locs : List Loc) (ls : Array Slot) (hl : lv_has ls 5 [(0, .ref h), (2, .int x2), (3, .int x3), (4, .int x4)]) (hO : rO dC dI h a cI cZ A s.heap σ H locs) (hw : R_behind_b86 Q K18 x2 x3 x4 σ) : W p l e R s m args below meth c H locs 0 0 (MQ below (va_Qi Q (rAt dC dI A h a cI cZ) A) args s 0 0 A) (F0 m 86 ls []) := by
  unfold R_behind_b86 at hw
  refine lv_iload X.1 X.2.1 dX7_behind_86 (lv_at hl 3 rfl) ?_
  refine lv_bipush (v := 64) X.1 X.2.1 dX7_behind_88 (by decide) ?_
  refine lv_icmp_ne (tgt := 99) X.1 X.2.1 dX7_behind_90 rfl (fun hc9 => ?_) (fun hc9 => ?_)
  · have hw := hw.1 hc9
    refine lv_iload_n X.1 X.2.1 dX7_behind_99 rfl (lv_at hl 1 rfl) ?_
    refine lv_iconst (v := 1) X.1 X.2.1 dX7_behind_100 (by decide) ?_
    refine lv_iadd X.1 X.2.1 dX7_behind_101 ?_
    exact rB_behind_102 X hr hlk hR hK hA k18 x3 x4 (x2 + (1 : Int32)) σ H locs ls (lv_sub hl [0, 2, 3] rfl) hO hw
  · have hw := hw.2 hc9
    refine lv_iload_n X.1 X.2.1 dX7_behind_93 rfl (lv_at hl 1 rfl) ?_
    refine lv_iconst (v := 2) X.1 X.2.1 dX7_behind_94 (by decide) ?_
    refine lv_iadd X.1 X.2.1 dX7_behind_95 ?_
    refine lv_goto (tgt := 102) X.1 X.2.1 dX7_behind_96 rfl ?_
    exact rB_behind_102 X hr hlk hR hK hA k18 x3 x4 (x2 + (2 : Int32)) σ H locs ls (lv_sub hl [0, 2, 3] rfl) hO hw
def R_behind_b63 (Q : Int32 → rS → Prop) (K18 : Int32 → Int32 → rS → Prop) (x3 : Int32) (y0 : Int32) (σ : rS) : Prop :=
 vp_in y0 1920 ∧ ∀ v70 : Int32, v70 = (σ.2 2 y0.toNatClampNeg) → (v70 = (91 : Int32) → R_behind_b86 Q K18 y0 x3 v70 σ) ∧ (¬ v70 = (91 : Int32) → (¬ v70 = (64 : Int32) → ∀ v142 : Int32, v142 = y0 + (2 : Int32) → R_behind_b145 Q K18 v142 x3 σ) ∧ (v70 = (64 : Int32) → R_behind_b86 Q K18 y0 x3 v70 σ))
set_option maxHeartbeats 4000000 in
set_option maxRecDepth 100000 in
theorem rB_behind_63 {Q : Int32 → rS → Prop} {K18 : Int32 → Int32 → rS → Prop} (X : CallFix p m c cX7_behind 5 s args wsX7_behind RX7) (hr : meth.sig.returnType = (some .int)) (hlk : meth.locks = false) (hR : 0 ≤ R.frames ∧ 0 ≤ R.locals) (hK : va_K (dC, dI) vwCl [(cI, .int), (cZ, .boolean)] s) (hA : ∀ q, s.heap.size ≤ q → A q) (k18 : ∀ (x2 : Int32) (x3 : Int32) (σ : rS) (H : Heap) (locs : List Loc) (ls : Array Slot), lv_has ls 5 [(0, .ref h), (2, .int x2), (3, .int x3)] → rO dC dI h a cI cZ A s.heap σ H locs → K18 x2 x3 σ → W p l e R s m args below meth c H locs 0 0 (MQ below (va_Qi Q (rAt dC dI A h a cI cZ) A) args s 0 0 A) (F0 m 18 ls [])) (x3 : Int32) (y0 : Int32) (σ : rS) (H : Heap) (locs : List Loc) (ls : Array Slot) (hl : lv_has ls 5 [(0, .ref h), (3, .int x3)]) (hO : rO dC dI h a cI cZ A s.heap σ H locs) (hw : R_behind_b63 Q K18 x3 y0 σ) : W p l e R s m args below meth c H locs 0 0 (MQ below (va_Qi Q (rAt dC dI A h a cI cZ) A) args s 0 0 A) (F0 m 63 ls [.int y0]) := by
  unfold R_behind_b63 at hw
  refine lv_istore_n (lv' := [(2, .int y0), (0, .ref h), (3, .int x3)]) X.1 X.2.1 dX7_behind_63 rfl hl (by decide) rfl (fun ls hl => ?_)
  refine lv_aload_n X.1 X.2.1 dX7_behind_64 rfl (lv_at hl 1 rfl) ?_
  refine rf_bytes X hK hO dX7_behind_65 ?_
  refine lv_iload_n X.1 X.2.1 dX7_behind_68 rfl (lv_at hl 0 rfl) ?_
  obtain ⟨g69, hw⟩ := hw
  refine ra_bytes X.1 X.2.1 hK hO g69 dX7_behind_69 ?_
  refine lv_topi (fun v70 e70 => ?_)
  have hw := hw v70 e70
  refine lv_istore (lv' := [(4, .int v70), (2, .int y0), (0, .ref h), (3, .int x3)]) X.1 X.2.1 dX7_behind_70 hl (by decide) rfl (fun ls hl => ?_)
  refine lv_iload X.1 X.2.1 dX7_behind_72 (lv_at hl 0 rfl) ?_
  refine lv_bipush (v := 91) X.1 X.2.1 dX7_behind_74 (by decide) ?_
  refine lv_icmp_eq (tgt := 86) X.1 X.2.1 dX7_behind_76 rfl (fun hc9 => ?_) (fun hc9 => ?_)
  · have hw := hw.1 hc9
    exact rB_behind_86 X hr hlk hR hK hA k18 y0 x3 v70 σ H locs ls (lv_sub hl [2, 1, 3, 0] rfl) hO hw
  · have hw := hw.2 hc9
    refine lv_iload X.1 X.2.1 dX7_behind_79 (lv_at hl 0 rfl) ?_
    refine lv_bipush (v := 64) X.1 X.2.1 dX7_behind_81 (by decide) ?_
    refine lv_icmp_ne (tgt := 142) X.1 X.2.1 dX7_behind_83 rfl (fun hc9 => ?_) (fun hc9 => ?_)
    · have hw := hw.1 hc9
      obtain ⟨v142, e142⟩ : ∃ z, z = y0 + (2 : Int32) := ⟨_, rfl⟩
      have hw := hw v142 e142
      refine lv_iinc (lv' := [(2, .int v142), (4, .int v70), (0, .ref h), (3, .int x3)]) (k := 1) (v := v142) X.1 X.2.1 dX7_behind_142 hl rfl (by rw [e142]; rfl) (by decide) rfl (fun ls hl => ?_)
      exact rB_behind_145 X hr hlk hR hK hA k18 v142 x3 σ H locs ls (lv_sub hl [2, 0, 3] rfl) hO hw
    · have hw := hw.2 hc9
      exact rB_behind_86 X hr hlk hR hK hA k18 y0 x3 v70 σ H locs ls (lv_sub hl [2, 1, 3, 0] rfl) hO hw
def R_behind_b18_s (Q : Int32 → rS → Prop) (K18 : Int32 → Int32 → rS → Prop) (x2 : Int32) (x3 : Int32) (σ : rS) : Prop :=
 (x3 ≤ 0 → Q x2 σ) ∧ (¬ x3 ≤ 0 → vp_in x3 7 ∧ (¬ (σ.2 25 x3.toNatClampNeg) = 0 → vp_in x3 7 ∧ vp_in x3 7 ∧ ∀ t46 : rS, t46 = rA σ 25 x3 ((σ.2 25 x3.toNatClampNeg) - (1 : Int32)) → vp_in x3 7 ∧ ((t46.2 26 x3.toNatClampNeg) = 0 → R_behind_b63 Q K18 x3 x2 t46) ∧ (¬ (t46.2 26 x3.toNatClampNeg) = 0 → R_behind_b63 Q K18 x3 (x2 + (1 : Int32)) t46)) ∧ ((σ.2 25 x3.toNatClampNeg) = 0 → ∀ v31 : Int32, v31 = x3 + (-1 : Int32) → K18 x2 v31 σ))
def R_behind_b18_f (Q : Int32 → rS → Prop) : (Int32 × Int32 × rS → Prop) → Int32 × Int32 × rS → Prop :=
 fun K z => R_behind_b18_s Q (fun x2 x3 σ => K (x2, x3, σ)) z.1 z.2.1 z.2.2
def R_behind_b18 (Q : Int32 → rS → Prop) (x2 : Int32) (x3 : Int32) (σ : rS) : Prop := ∃ n, fx (R_behind_b18_f Q ) n (x2, x3, σ)
set_option maxHeartbeats 4000000 in
set_option maxRecDepth 100000 in
theorem rB_behind_18 {Q : Int32 → rS → Prop} (X : CallFix p m c cX7_behind 5 s args wsX7_behind RX7) (hr : meth.sig.returnType = (some .int)) (hlk : meth.locks = false) (hR : 0 ≤ R.frames ∧ 0 ≤ R.locals) (hK : va_K (dC, dI) vwCl [(cI, .int), (cZ, .boolean)] s) (hA : ∀ q, s.heap.size ≤ q → A q) : ∀ (n : Nat) (x2 : Int32) (x3 : Int32) (σ : rS) (H : Heap) (locs : List Loc) (ls : Array Slot), lv_has ls 5 [(0, .ref h), (2, .int x2), (3, .int x3)] → rO dC dI h a cI cZ A s.heap σ H locs → fx (R_behind_b18_f Q ) n (x2, x3, σ) → W p l e R s m args below meth c H locs 0 0 (MQ below (va_Qi Q (rAt dC dI A h a cI cZ) A) args s 0 0 A) (F0 m 18 ls []) := by
  intro n
  induction n with
  | zero => intro x2 x3 σ H locs ls hl hO hw; exact False.elim hw
  | succ n k18 =>
    intro x2 x3 σ H locs ls hl hO hw
    have hw : R_behind_b18_s Q (fun x2 x3 σ => fx (R_behind_b18_f Q ) n (x2, x3, σ)) x2 x3 σ := hw
    unfold R_behind_b18_s at hw
    refine lv_iload_n X.1 X.2.1 dX7_behind_18 rfl (lv_at hl 2 rfl) ?_
    refine lv_if_le (tgt := 148) X.1 X.2.1 dX7_behind_19 rfl (fun hc9 => ?_) (fun hc9 => ?_)
    · have hw := hw.1 hc9
      refine lv_iload_n X.1 X.2.1 dX7_behind_148 rfl (lv_at hl 1 rfl) ?_
      exact W.iret (v := x2) X.1 X.2.1 hr (fun t ht hW => ⟨⟨x2, σ, rfl, hw, rO_end hO hK ht hW⟩, hO.2.2.F ht⟩) hO.2.2.2.2 dX7_behind_149 hlk
    · have hw := hw.2 hc9
      refine lv_aload_n X.1 X.2.1 dX7_behind_22 rfl (lv_at hl 0 rfl) ?_
      refine rf_left X hK hO dX7_behind_23 ?_
      refine lv_iload_n X.1 X.2.1 dX7_behind_26 rfl (lv_at hl 2 rfl) ?_
      obtain ⟨g27, hw⟩ := hw
      refine ra_left X.1 X.2.1 hK hO g27 dX7_behind_27 ?_
      refine lv_if_ne (tgt := 37) X.1 X.2.1 dX7_behind_28 rfl (fun hc9 => ?_) (fun hc9 => ?_)
      · have hw := hw.1 hc9
        refine lv_aload_n X.1 X.2.1 dX7_behind_37 rfl (lv_at hl 0 rfl) ?_
        refine rf_left X hK hO dX7_behind_38 ?_
        refine lv_iload_n X.1 X.2.1 dX7_behind_41 rfl (lv_at hl 2 rfl) ?_
        refine lv_dup2_11 X.1 X.2.1 dX7_behind_42 rfl rfl ?_
        obtain ⟨g43, hw⟩ := hw
        refine ra_left X.1 X.2.1 hK hO g43 dX7_behind_43 ?_
        refine lv_iconst (v := 1) X.1 X.2.1 dX7_behind_44 (by decide) ?_
        refine lv_isub X.1 X.2.1 dX7_behind_45 ?_
        obtain ⟨g46, hw⟩ := hw
        refine rs_left X.1 X.2.1 hK hO g46 dX7_behind_46 (fun H locs hO => ?_)
        obtain ⟨t46, e46⟩ : ∃ z, z = rA σ 25 x3 ((σ.2 25 x3.toNatClampNeg) - (1 : Int32)) := ⟨_, rfl⟩
        have hw := hw t46 e46
        rw [← e46] at hO
        refine lv_aload_n X.1 X.2.1 dX7_behind_47 rfl (lv_at hl 0 rfl) ?_
        refine rf_named X hK hO dX7_behind_48 ?_
        refine lv_iload_n X.1 X.2.1 dX7_behind_51 rfl (lv_at hl 2 rfl) ?_
        obtain ⟨g52, hw⟩ := hw
        refine ra_named X.1 X.2.1 hK hO g52 dX7_behind_52 ?_
        refine lv_if_eq (tgt := 62) X.1 X.2.1 dX7_behind_53 rfl (fun hc9 => ?_) (fun hc9 => ?_)
        · have hw := hw.1 hc9
          refine lv_iload_n X.1 X.2.1 dX7_behind_62 rfl (lv_at hl 1 rfl) ?_
          exact rB_behind_63 X hr hlk hR hK hA k18 x3 x2 t46 H locs ls (lv_sub hl [0, 2] rfl) hO hw
        · have hw := hw.2 hc9
          refine lv_iload_n X.1 X.2.1 dX7_behind_56 rfl (lv_at hl 1 rfl) ?_
          refine lv_iconst (v := 1) X.1 X.2.1 dX7_behind_57 (by decide) ?_
          refine lv_iadd X.1 X.2.1 dX7_behind_58 ?_
          refine lv_goto (tgt := 63) X.1 X.2.1 dX7_behind_59 rfl ?_
          exact rB_behind_63 X hr hlk hR hK hA k18 x3 (x2 + (1 : Int32)) t46 H locs ls (lv_sub hl [0, 2] rfl) hO hw
      · have hw := hw.2 hc9
        obtain ⟨v31, e31⟩ : ∃ z, z = x3 + (-1 : Int32) := ⟨_, rfl⟩
        have hw := hw v31 e31
        refine lv_iinc (lv' := [(3, .int v31), (0, .ref h), (2, .int x2)]) (k := 2) (v := v31) X.1 X.2.1 dX7_behind_31 hl rfl (by rw [e31]; rfl) (by decide) rfl (fun ls hl => ?_)
        refine lv_goto (tgt := 18) X.1 X.2.1 dX7_behind_34 rfl ?_
        exact k18 x2 v31 σ H locs ls (lv_sub hl [1, 2, 0] rfl) hO hw
def R_behind_b0 (Q : Int32 → rS → Prop) (x1 : Int32) (σ : rS) : Prop :=
 ∀ t10 : rS, t10 = rA σ 25 (1 : Int32) (1 : Int32) → ∀ t17 : rS, t17 = rA t10 26 (1 : Int32) (vp_nar .boolean (0 : Int32)) → R_behind_b18 Q x1 (1 : Int32) t17
set_option maxHeartbeats 4000000 in
set_option maxRecDepth 100000 in
theorem rB_behind_0 {Q : Int32 → rS → Prop} (X : CallFix p m c cX7_behind 5 s args wsX7_behind RX7) (hr : meth.sig.returnType = (some .int)) (hlk : meth.locks = false) (hR : 0 ≤ R.frames ∧ 0 ≤ R.locals) (hK : va_K (dC, dI) vwCl [(cI, .int), (cZ, .boolean)] s) (hA : ∀ q, s.heap.size ≤ q → A q) (x1 : Int32) (σ : rS) (H : Heap) (locs : List Loc) (ls : Array Slot) (hl : lv_has ls 5 [(0, .ref h), (1, .int x1)]) (hO : rO dC dI h a cI cZ A s.heap σ H locs) (hw : R_behind_b0 Q x1 σ) : W p l e R s m args below meth c H locs 0 0 (MQ below (va_Qi Q (rAt dC dI A h a cI cZ) A) args s 0 0 A) (F0 m 0 ls []) := by
  unfold R_behind_b0 at hw
  refine lv_iload_n X.1 X.2.1 dX7_behind_0 rfl (lv_at hl 1 rfl) ?_
  refine lv_istore_n (lv' := [(2, .int x1), (0, .ref h), (1, .int x1)]) X.1 X.2.1 dX7_behind_1 rfl hl (by decide) rfl (fun ls hl => ?_)
  refine lv_iconst (v := 1) X.1 X.2.1 dX7_behind_2 (by decide) ?_
  refine lv_istore_n (lv' := [(3, .int (1 : Int32)), (2, .int x1), (0, .ref h), (1, .int x1)]) X.1 X.2.1 dX7_behind_3 rfl hl (by decide) rfl (fun ls hl => ?_)
  refine lv_aload_n X.1 X.2.1 dX7_behind_4 rfl (lv_at hl 2 rfl) ?_
  refine rf_left X hK hO dX7_behind_5 ?_
  refine lv_iconst (v := 1) X.1 X.2.1 dX7_behind_8 (by decide) ?_
  refine lv_iconst (v := 1) X.1 X.2.1 dX7_behind_9 (by decide) ?_
  refine rs_left X.1 X.2.1 hK hO (by unfold vp_in; decide) dX7_behind_10 (fun H locs hO => ?_)
  obtain ⟨t10, e10⟩ : ∃ z, z = rA σ 25 (1 : Int32) (1 : Int32) := ⟨_, rfl⟩
  have hw := hw t10 e10
  rw [← e10] at hO
  refine lv_aload_n X.1 X.2.1 dX7_behind_11 rfl (lv_at hl 2 rfl) ?_
  refine rf_named X hK hO dX7_behind_12 ?_
  refine lv_iconst (v := 1) X.1 X.2.1 dX7_behind_15 (by decide) ?_
  refine lv_iconst (v := 0) X.1 X.2.1 dX7_behind_16 (by decide) ?_
  refine rs_named X.1 X.2.1 hK hO (by unfold vp_in; decide) dX7_behind_17 (fun H locs hO => ?_)
  obtain ⟨t17, e17⟩ : ∃ z, z = rA t10 26 (1 : Int32) (vp_nar .boolean (0 : Int32)) := ⟨_, rfl⟩
  have hw := hw t17 e17
  rw [← e17] at hO
  obtain ⟨n, hw⟩ := hw
  exact rB_behind_18 X hr hlk hR hK hA n x1 (1 : Int32) t17 H locs ls (lv_sub hl [2, 1, 0] rfl) hO hw
def R_behind_w (Q : Int32 → rS → Prop) (x1 : Int32) (σ : rS) : Prop := R_behind_b0 Q x1 σ
abbrev rmX7_behind : Room := { frames := 0, cells := 0, slots := 0, locals := 0 }
set_option maxHeartbeats 4000000 in
set_option maxRecDepth 100000 in
theorem rC_behind (l : Launch) (dC : Nat → ClassId) (dI : Nat → Nat → Nat) (h : Nat) (a : Nat → Nat) (cI cZ : ClassId) (σ : rS) (sz : Nat) (x1 : Int32) (Q : Int32 → rS → Prop) (hw : R_behind_w Q x1 σ) : Met l yX7_behind wsX7_behind rmX7_behind (rPc dC dI h a cI cZ sz σ [.ref h, .int x1]) (va_Qi Q (rAt dC dI (va_A (rCells h a cI cZ σ) sz) h a cI cZ) (va_A (rCells h a cI cZ σ) sz)) 0 0 (va_A (rCells h a cI cZ σ) sz) := by
  refine Met.ofW (cc := cX7_behind) (maxL := 5) (ret := (some .int)) (by decide) rfl ?_
  intro p e s m args below meth c s₁ B hml hv
  obtain ⟨hargs, hsz, hP, hK, hD0⟩ := hv
  have hts := atoms_spec (ws := wsX7_behind) B.pre
  have hown : s.vm.findClass RX7 = some m.cls := findClass_of_methodNamed B.named
  subst hsz
  subst hargs
  have hD := hD0.self (sz := s.heap.size)
  generalize hAe : va_A (rCells h a cI cZ σ) s.heap.size = A at hD ⊢
  have hA : ∀ q : Nat, s.heap.size ≤ q → A q := fun q h => by rw [← hAe]; exact Or.inr h
  have hl := lv_entry ([.ref h, .int x1]) (n := 5) (Nat.le_of_ble_eq_true rfl)
  rw [lg_entry_eq]
  generalize (lg_sl ([.ref h, .int x1]) ++ List.replicate (5 - (lg_sl ([.ref h, .int x1])).length) Slot.unset).toArray = ls at hl ⊢
  have hl : lv_has ls 5 [(0, .ref h), (1, .int x1)] := hl
  unfold R_behind_w at hw
  exact rB_behind_0 ⟨B.exec, B.bytes, hml, hown, hts⟩ B.returns B.notSynchronized ⟨Nat.le_of_ble_eq_true rfl, Nat.le_of_ble_eq_true rfl⟩ hK hA x1 σ s.heap [] ls (lv_sub hl [0, 1] rfl) ⟨hP, hD, va_S.rf⟩ hw
def R_inRow_b38 (Q : Int32 → rS → Prop) (σ : rS) : Prop :=
 Q (0 : Int32) σ
set_option maxHeartbeats 4000000 in
set_option maxRecDepth 100000 in
theorem rB_inRow_38 {Q : Int32 → rS → Prop} (X : CallFix p m c cX7_inRow 8 s args wsX7_inRow RX7) (hr : meth.sig.returnType = (some .int)) (hlk : meth.locks = false) (hR : 1 ≤ R.frames ∧ 24 ≤ R.locals) (hK : va_K (dC, dI) vwCl [(cI, .int), (cZ, .boolean)] s) (hA : ∀ q, s.heap.size ≤ q → A q) (σ : rS) (H : Heap) (locs : List Loc) (ls : Array Slot) (hl : lv_has ls 8 [(0, .ref h)]) (hO : rO dC dI h a cI cZ A s.heap σ H locs) (hw : R_inRow_b38 Q σ) : W p l e R s m args below meth c H locs 0 0 (MQ below (va_Qi Q (rAt dC dI A h a cI cZ) A) args s 0 0 A) (F0 m 38 ls []) := by
  unfold R_inRow_b38 at hw
  refine lv_iconst (v := 0) X.1 X.2.1 dX7_inRow_38 (by decide) ?_
  exact W.iret (v := (0 : Int32)) X.1 X.2.1 hr (fun t ht hW => ⟨⟨(0 : Int32), σ, rfl, hw, rO_end hO hK ht hW⟩, hO.2.2.F ht⟩) hO.2.2.2.2 dX7_inRow_39 hlk
def R_inRow_b104 (Q : Int32 → rS → Prop) (K52 : Int32 → Int32 → Int32 → Int32 → Int32 → Int32 → rS → Prop) (x1 : Int32) (x3 : Int32) (x4 : Int32) (x5 : Int32) (x6 : Int32) (x7 : Int32) (σ : rS) : Prop :=
 R_behind_w (fun r107 t107 => ∀ v112 : Int32, v112 = x7 + (1 : Int32) → K52 x1 x3 x4 x5 r107 v112 t107) x6 σ
set_option maxHeartbeats 4000000 in
set_option maxRecDepth 100000 in
theorem rB_inRow_104 {Q : Int32 → rS → Prop} {K52 : Int32 → Int32 → Int32 → Int32 → Int32 → Int32 → rS → Prop} (X : CallFix p m c cX7_inRow 8 s args wsX7_inRow RX7) (hr : meth.sig.returnType = (some .int)) (hlk : meth.locks = false) (hR : 1 ≤ R.frames ∧ 24 ≤ R.locals) (hK : va_K (dC, dI) vwCl [(cI, .int), (cZ, .boolean)] s) (hA : ∀ q, s.heap.size ≤ q → A q) (k52 : ∀ (x1 : Int32) (x3 : Int32) (x4 : Int32) (x5 : Int32) (x6 : Int32) (x7 : Int32) (σ : rS) (H : Heap) (locs : List Loc) (ls : Array Slot), lv_has ls 8 [(0, .ref h), (1, .int x1), (3, .int x3), (4, .int x4), (5, .int x5), (6, .int x6), (7, .int x7)] → rO dC dI h a cI cZ A s.heap σ H locs → K52 x1 x3 x4 x5 x6 x7 σ → W p l e R s m args below meth c H locs 0 0 (MQ below (va_Qi Q (rAt dC dI A h a cI cZ) A) args s 0 0 A) (F0 m 52 ls [])) (x1 : Int32) (x3 : Int32) (x4 : Int32) (x5 : Int32) (x6 : Int32) (x7 : Int32) (σ : rS) (H : Heap) (locs : List Loc) (ls : Array Slot) (hl : lv_has ls 8 [(0, .ref h), (1, .int x1), (3, .int x3), (4, .int x4), (5, .int x5), (6, .int x6), (7, .int x7)]) (hO : rO dC dI h a cI cZ A s.heap σ H locs) (hw : R_inRow_b104 Q K52 x1 x3 x4 x5 x6 x7 σ) : W p l e R s m args below meth c H locs 0 0 (MQ below (va_Qi Q (rAt dC dI A h a cI cZ) A) args s 0 0 A) (F0 m 104 ls []) := by
  unfold R_inRow_b104 at hw
  refine lv_aload_n X.1 X.2.1 dX7_inRow_104 rfl (lv_at hl 0 rfl) ?_
  refine lv_iload X.1 X.2.1 dX7_inRow_105 (lv_at hl 5 rfl) ?_
  refine r_calli (rest := []) (As := [.int x6]) X (rC_behind l dC dI h a cI cZ σ H.size x6 _ hw) (cwV 1 X.2.2.2.2 gX7_behind rfl rfl rfl hdX7_behind ⟨Nat.le_trans (by decide) hR.1, Nat.le_trans (by decide) hR.2⟩) hK hA hO rfl hl.1 rfl (Nat.le_of_ble_eq_true rfl) dX7_inRow_107 (fun r107 t107 H locs hO hw => ?_)
  refine lv_istore (lv' := [(6, .int r107), (0, .ref h), (1, .int x1), (3, .int x3), (4, .int x4), (5, .int x5), (7, .int x7)]) X.1 X.2.1 dX7_inRow_110 hl (by decide) rfl (fun ls hl => ?_)
  obtain ⟨v112, e112⟩ : ∃ z, z = x7 + (1 : Int32) := ⟨_, rfl⟩
  have hw := hw v112 e112
  refine lv_iinc (lv' := [(7, .int v112), (6, .int r107), (0, .ref h), (1, .int x1), (3, .int x3), (4, .int x4), (5, .int x5)]) (k := 6) (v := v112) X.1 X.2.1 dX7_inRow_112 hl rfl (by rw [e112]; rfl) (by decide) rfl (fun ls hl => ?_)
  refine lv_goto (tgt := 52) X.1 X.2.1 dX7_inRow_115 rfl ?_
  exact k52 x1 x3 x4 x5 r107 v112 t107 H locs ls (lv_sub hl [2, 3, 4, 5, 6, 1, 0] rfl) hO hw
def R_inRow_b52_s (Q : Int32 → rS → Prop) (K52 : Int32 → Int32 → Int32 → Int32 → Int32 → Int32 → rS → Prop) (x1 : Int32) (x3 : Int32) (x4 : Int32) (x5 : Int32) (x6 : Int32) (x7 : Int32) (σ : rS) : Prop :=
 vp_in (x4 + (4 : Int32)) 1920 ∧ ((σ.2 2 (x4 + (4 : Int32)).toNatClampNeg) ≤ x7 → Q x5 σ) ∧ (¬ (σ.2 2 (x4 + (4 : Int32)).toNatClampNeg) ≤ x7 → vp_in x6 1920 ∧ (¬ (σ.2 2 x6.toNatClampNeg) = (64 : Int32) → R_inRow_b104 Q K52 x1 x3 x4 x5 x6 x7 σ) ∧ ((σ.2 2 x6.toNatClampNeg) = (64 : Int32) → vp_in (x6 + (1 : Int32)) 1920 ∧ vp_in (((13 : Int32) * x1) + (σ.2 2 (x6 + (1 : Int32)).toNatClampNeg)) 208 ∧ (¬ (σ.2 8 (((13 : Int32) * x1) + (σ.2 2 (x6 + (1 : Int32)).toNatClampNeg)).toNatClampNeg) = x3 → R_inRow_b104 Q K52 x1 x3 x4 x5 x6 x7 σ) ∧ ((σ.2 8 (((13 : Int32) * x1) + (σ.2 2 (x6 + (1 : Int32)).toNatClampNeg)).toNatClampNeg) = x3 → ∀ v101 : Int32, v101 = x5 + (1 : Int32) → R_inRow_b104 Q K52 x1 x3 x4 v101 x6 x7 σ)))
def R_inRow_b52_f (Q : Int32 → rS → Prop) : (Int32 × Int32 × Int32 × Int32 × Int32 × Int32 × rS → Prop) → Int32 × Int32 × Int32 × Int32 × Int32 × Int32 × rS → Prop :=
 fun K z => R_inRow_b52_s Q (fun x1 x3 x4 x5 x6 x7 σ => K (x1, x3, x4, x5, x6, x7, σ)) z.1 z.2.1 z.2.2.1 z.2.2.2.1 z.2.2.2.2.1 z.2.2.2.2.2.1 z.2.2.2.2.2.2
def R_inRow_b52 (Q : Int32 → rS → Prop) (x1 : Int32) (x3 : Int32) (x4 : Int32) (x5 : Int32) (x6 : Int32) (x7 : Int32) (σ : rS) : Prop := ∃ n, fx (R_inRow_b52_f Q ) n (x1, x3, x4, x5, x6, x7, σ)
set_option maxHeartbeats 4000000 in
set_option maxRecDepth 100000 in
theorem rB_inRow_52 {Q : Int32 → rS → Prop} (X : CallFix p m c cX7_inRow 8 s args wsX7_inRow RX7) (hr : meth.sig.returnType = (some .int)) (hlk : meth.locks = false) (hR : 1 ≤ R.frames ∧ 24 ≤ R.locals) (hK : va_K (dC, dI) vwCl [(cI, .int), (cZ, .boolean)] s) (hA : ∀ q, s.heap.size ≤ q → A q) : ∀ (n : Nat) (x1 : Int32) (x3 : Int32) (x4 : Int32) (x5 : Int32) (x6 : Int32) (x7 : Int32) (σ : rS) (H : Heap) (locs : List Loc) (ls : Array Slot), lv_has ls 8 [(0, .ref h), (1, .int x1), (3, .int x3), (4, .int x4), (5, .int x5), (6, .int x6), (7, .int x7)] → rO dC dI h a cI cZ A s.heap σ H locs → fx (R_inRow_b52_f Q ) n (x1, x3, x4, x5, x6, x7, σ) → W p l e R s m args below meth c H locs 0 0 (MQ below (va_Qi Q (rAt dC dI A h a cI cZ) A) args s 0 0 A) (F0 m 52 ls []) := by
  intro n
  induction n with
  | zero => intro x1 x3 x4 x5 x6 x7 σ H locs ls hl hO hw; exact False.elim hw
  | succ n k52 =>
    intro x1 x3 x4 x5 x6 x7 σ H locs ls hl hO hw
    have hw : R_inRow_b52_s Q (fun x1 x3 x4 x5 x6 x7 σ => fx (R_inRow_b52_f Q ) n (x1, x3, x4, x5, x6, x7, σ)) x1 x3 x4 x5 x6 x7 σ := hw
    unfold R_inRow_b52_s at hw
    refine lv_iload X.1 X.2.1 dX7_inRow_52 (lv_at hl 6 rfl) ?_
    refine lv_aload_n X.1 X.2.1 dX7_inRow_54 rfl (lv_at hl 0 rfl) ?_
    refine rf_bytes X hK hO dX7_inRow_55 ?_
    refine lv_iload X.1 X.2.1 dX7_inRow_58 (lv_at hl 3 rfl) ?_
    refine lv_iconst (v := 4) X.1 X.2.1 dX7_inRow_60 (by decide) ?_
    refine lv_iadd X.1 X.2.1 dX7_inRow_61 ?_
    obtain ⟨g62, hw⟩ := hw
    refine ra_bytes X.1 X.2.1 hK hO g62 dX7_inRow_62 ?_
    refine lv_icmp_ge (tgt := 118) X.1 X.2.1 dX7_inRow_63 rfl (fun hc9 => ?_) (fun hc9 => ?_)
    · have hw := hw.1 hc9
      refine lv_iload X.1 X.2.1 dX7_inRow_118 (lv_at hl 4 rfl) ?_
      exact W.iret (v := x5) X.1 X.2.1 hr (fun t ht hW => ⟨⟨x5, σ, rfl, hw, rO_end hO hK ht hW⟩, hO.2.2.F ht⟩) hO.2.2.2.2 dX7_inRow_120 hlk
    · have hw := hw.2 hc9
      refine lv_aload_n X.1 X.2.1 dX7_inRow_66 rfl (lv_at hl 0 rfl) ?_
      refine rf_bytes X hK hO dX7_inRow_67 ?_
      refine lv_iload X.1 X.2.1 dX7_inRow_70 (lv_at hl 5 rfl) ?_
      obtain ⟨g72, hw⟩ := hw
      refine ra_bytes X.1 X.2.1 hK hO g72 dX7_inRow_72 ?_
      refine lv_bipush (v := 64) X.1 X.2.1 dX7_inRow_73 (by decide) ?_
      refine lv_icmp_ne (tgt := 104) X.1 X.2.1 dX7_inRow_75 rfl (fun hc9 => ?_) (fun hc9 => ?_)
      · have hw := hw.1 hc9
        exact rB_inRow_104 X hr hlk hR hK hA k52 x1 x3 x4 x5 x6 x7 σ H locs ls (lv_sub hl [0, 1, 2, 3, 4, 5, 6] rfl) hO hw
      · have hw := hw.2 hc9
        refine lv_aload_n X.1 X.2.1 dX7_inRow_78 rfl (lv_at hl 0 rfl) ?_
        refine rf_text X hK hO dX7_inRow_79 ?_
        refine lv_bipush (v := 13) X.1 X.2.1 dX7_inRow_82 (by decide) ?_
        refine lv_iload_n X.1 X.2.1 dX7_inRow_84 rfl (lv_at hl 1 rfl) ?_
        refine lv_imul X.1 X.2.1 dX7_inRow_85 ?_
        refine lv_aload_n X.1 X.2.1 dX7_inRow_86 rfl (lv_at hl 0 rfl) ?_
        refine rf_bytes X hK hO dX7_inRow_87 ?_
        refine lv_iload X.1 X.2.1 dX7_inRow_90 (lv_at hl 5 rfl) ?_
        refine lv_iconst (v := 1) X.1 X.2.1 dX7_inRow_92 (by decide) ?_
        refine lv_iadd X.1 X.2.1 dX7_inRow_93 ?_
        obtain ⟨g94, hw⟩ := hw
        refine ra_bytes X.1 X.2.1 hK hO g94 dX7_inRow_94 ?_
        refine lv_iadd X.1 X.2.1 dX7_inRow_95 ?_
        obtain ⟨g96, hw⟩ := hw
        refine ra_text X.1 X.2.1 hK hO g96 dX7_inRow_96 ?_
        refine lv_iload_n X.1 X.2.1 dX7_inRow_97 rfl (lv_at hl 2 rfl) ?_
        refine lv_icmp_ne (tgt := 104) X.1 X.2.1 dX7_inRow_98 rfl (fun hc9 => ?_) (fun hc9 => ?_)
        · have hw := hw.1 hc9
          exact rB_inRow_104 X hr hlk hR hK hA k52 x1 x3 x4 x5 x6 x7 σ H locs ls (lv_sub hl [0, 1, 2, 3, 4, 5, 6] rfl) hO hw
        · have hw := hw.2 hc9
          obtain ⟨v101, e101⟩ : ∃ z, z = x5 + (1 : Int32) := ⟨_, rfl⟩
          have hw := hw v101 e101
          refine lv_iinc (lv' := [(5, .int v101), (0, .ref h), (1, .int x1), (3, .int x3), (4, .int x4), (6, .int x6), (7, .int x7)]) (k := 4) (v := v101) X.1 X.2.1 dX7_inRow_101 hl rfl (by rw [e101]; rfl) (by decide) rfl (fun ls hl => ?_)
          exact rB_inRow_104 X hr hlk hR hK hA k52 x1 x3 x4 v101 x6 x7 σ H locs ls (lv_sub hl [1, 2, 3, 4, 0, 5, 6] rfl) hO hw
def R_inRow_b0 (Q : Int32 → rS → Prop) (x1 : Int32) (x2 : Int32) (x3 : Int32) (σ : rS) : Prop :=
 vp_in (((4 : Int32) * x1) + x2) 64 ∧ ∀ v10 : Int32, v10 = (σ.2 16 (((4 : Int32) * x1) + x2).toNatClampNeg) → vp_in (v10 + (1 : Int32)) 1920 ∧ ((σ.2 2 (v10 + (1 : Int32)).toNatClampNeg) = 0 → R_inRow_b38 Q σ) ∧ (¬ (σ.2 2 (v10 + (1 : Int32)).toNatClampNeg) = 0 → vp_in (v10 + (3 : Int32)) 1920 ∧ ((σ.2 2 (v10 + (3 : Int32)).toNatClampNeg) = (91 : Int32) → ∀ v47 : Int32, v47 = (v10 + (5 : Int32)) → R_inRow_b52 Q x1 x3 v10 (0 : Int32) v47 (0 : Int32) σ) ∧ (¬ (σ.2 2 (v10 + (3 : Int32)).toNatClampNeg) = (91 : Int32) → R_inRow_b38 Q σ))
set_option maxHeartbeats 4000000 in
set_option maxRecDepth 100000 in
theorem rB_inRow_0 {Q : Int32 → rS → Prop} (X : CallFix p m c cX7_inRow 8 s args wsX7_inRow RX7) (hr : meth.sig.returnType = (some .int)) (hlk : meth.locks = false) (hR : 1 ≤ R.frames ∧ 24 ≤ R.locals) (hK : va_K (dC, dI) vwCl [(cI, .int), (cZ, .boolean)] s) (hA : ∀ q, s.heap.size ≤ q → A q) (x1 : Int32) (x2 : Int32) (x3 : Int32) (σ : rS) (H : Heap) (locs : List Loc) (ls : Array Slot) (hl : lv_has ls 8 [(0, .ref h), (1, .int x1), (2, .int x2), (3, .int x3)]) (hO : rO dC dI h a cI cZ A s.heap σ H locs) (hw : R_inRow_b0 Q x1 x2 x3 σ) : W p l e R s m args below meth c H locs 0 0 (MQ below (va_Qi Q (rAt dC dI A h a cI cZ) A) args s 0 0 A) (F0 m 0 ls []) := by
  unfold R_inRow_b0 at hw
  refine lv_aload_n X.1 X.2.1 dX7_inRow_0 rfl (lv_at hl 0 rfl) ?_
  refine rf_note X hK hO dX7_inRow_1 ?_
  refine lv_iconst (v := 4) X.1 X.2.1 dX7_inRow_4 (by decide) ?_
  refine lv_iload_n X.1 X.2.1 dX7_inRow_5 rfl (lv_at hl 1 rfl) ?_
  refine lv_imul X.1 X.2.1 dX7_inRow_6 ?_
  refine lv_iload_n X.1 X.2.1 dX7_inRow_7 rfl (lv_at hl 2 rfl) ?_
  refine lv_iadd X.1 X.2.1 dX7_inRow_8 ?_
  obtain ⟨g9, hw⟩ := hw
  refine ra_note X.1 X.2.1 hK hO g9 dX7_inRow_9 ?_
  refine lv_topi (fun v10 e10 => ?_)
  have hw := hw v10 e10
  refine lv_istore (lv' := [(4, .int v10), (0, .ref h), (1, .int x1), (2, .int x2), (3, .int x3)]) X.1 X.2.1 dX7_inRow_10 hl (by decide) rfl (fun ls hl => ?_)
  refine lv_aload_n X.1 X.2.1 dX7_inRow_12 rfl (lv_at hl 1 rfl) ?_
  refine rf_bytes X hK hO dX7_inRow_13 ?_
  refine lv_iload X.1 X.2.1 dX7_inRow_16 (lv_at hl 0 rfl) ?_
  refine lv_iconst (v := 1) X.1 X.2.1 dX7_inRow_18 (by decide) ?_
  refine lv_iadd X.1 X.2.1 dX7_inRow_19 ?_
  obtain ⟨g20, hw⟩ := hw
  refine ra_bytes X.1 X.2.1 hK hO g20 dX7_inRow_20 ?_
  refine lv_if_eq (tgt := 38) X.1 X.2.1 dX7_inRow_21 rfl (fun hc9 => ?_) (fun hc9 => ?_)
  · have hw := hw.1 hc9
    exact rB_inRow_38 X hr hlk hR hK hA σ H locs ls (lv_sub hl [1] rfl) hO hw
  · have hw := hw.2 hc9
    refine lv_aload_n X.1 X.2.1 dX7_inRow_24 rfl (lv_at hl 1 rfl) ?_
    refine rf_bytes X hK hO dX7_inRow_25 ?_
    refine lv_iload X.1 X.2.1 dX7_inRow_28 (lv_at hl 0 rfl) ?_
    refine lv_iconst (v := 3) X.1 X.2.1 dX7_inRow_30 (by decide) ?_
    refine lv_iadd X.1 X.2.1 dX7_inRow_31 ?_
    obtain ⟨g32, hw⟩ := hw
    refine ra_bytes X.1 X.2.1 hK hO g32 dX7_inRow_32 ?_
    refine lv_bipush (v := 91) X.1 X.2.1 dX7_inRow_33 (by decide) ?_
    refine lv_icmp_eq (tgt := 40) X.1 X.2.1 dX7_inRow_35 rfl (fun hc9 => ?_) (fun hc9 => ?_)
    · have hw := hw.1 hc9
      refine lv_iconst (v := 0) X.1 X.2.1 dX7_inRow_40 (by decide) ?_
      refine lv_istore (lv' := [(5, .int (0 : Int32)), (4, .int v10), (0, .ref h), (1, .int x1), (2, .int x2), (3, .int x3)]) X.1 X.2.1 dX7_inRow_41 hl (by decide) rfl (fun ls hl => ?_)
      refine lv_iload X.1 X.2.1 dX7_inRow_43 (lv_at hl 1 rfl) ?_
      refine lv_iconst (v := 5) X.1 X.2.1 dX7_inRow_45 (by decide) ?_
      refine lv_iadd X.1 X.2.1 dX7_inRow_46 ?_
      refine lv_topi (fun v47 e47 => ?_)
      have hw := hw v47 e47
      refine lv_istore (lv' := [(6, .int v47), (5, .int (0 : Int32)), (4, .int v10), (0, .ref h), (1, .int x1), (2, .int x2), (3, .int x3)]) X.1 X.2.1 dX7_inRow_47 hl (by decide) rfl (fun ls hl => ?_)
      refine lv_iconst (v := 0) X.1 X.2.1 dX7_inRow_49 (by decide) ?_
      refine lv_istore (lv' := [(7, .int (0 : Int32)), (6, .int v47), (5, .int (0 : Int32)), (4, .int v10), (0, .ref h), (1, .int x1), (2, .int x2), (3, .int x3)]) X.1 X.2.1 dX7_inRow_50 hl (by decide) rfl (fun ls hl => ?_)
      obtain ⟨n, hw⟩ := hw
      exact rB_inRow_52 X hr hlk hR hK hA n x1 x3 v10 (0 : Int32) v47 (0 : Int32) σ H locs ls (lv_sub hl [4, 5, 7, 3, 2, 1, 0] rfl) hO hw
    · have hw := hw.2 hc9
      exact rB_inRow_38 X hr hlk hR hK hA σ H locs ls (lv_sub hl [1] rfl) hO hw
def R_inRow_w (Q : Int32 → rS → Prop) (x1 : Int32) (x2 : Int32) (x3 : Int32) (σ : rS) : Prop := R_inRow_b0 Q x1 x2 x3 σ
abbrev rmX7_inRow : Room := { frames := 1, cells := 0, slots := 0, locals := 24 }
set_option maxHeartbeats 4000000 in
set_option maxRecDepth 100000 in
theorem rC_inRow (l : Launch) (dC : Nat → ClassId) (dI : Nat → Nat → Nat) (h : Nat) (a : Nat → Nat) (cI cZ : ClassId) (σ : rS) (sz : Nat) (x1 : Int32) (x2 : Int32) (x3 : Int32) (Q : Int32 → rS → Prop) (hw : R_inRow_w Q x1 x2 x3 σ) : Met l yX7_inRow wsX7_inRow rmX7_inRow (rPc dC dI h a cI cZ sz σ [.ref h, .int x1, .int x2, .int x3]) (va_Qi Q (rAt dC dI (va_A (rCells h a cI cZ σ) sz) h a cI cZ) (va_A (rCells h a cI cZ σ) sz)) 0 0 (va_A (rCells h a cI cZ σ) sz) := by
  refine Met.ofW (cc := cX7_inRow) (maxL := 8) (ret := (some .int)) (by decide) rfl ?_
  intro p e s m args below meth c s₁ B hml hv
  obtain ⟨hargs, hsz, hP, hK, hD0⟩ := hv
  have hts := atoms_spec (ws := wsX7_inRow) B.pre
  have hown : s.vm.findClass RX7 = some m.cls := findClass_of_methodNamed B.named
  subst hsz
  subst hargs
  have hD := hD0.self (sz := s.heap.size)
  generalize hAe : va_A (rCells h a cI cZ σ) s.heap.size = A at hD ⊢
  have hA : ∀ q : Nat, s.heap.size ≤ q → A q := fun q h => by rw [← hAe]; exact Or.inr h
  have hl := lv_entry ([.ref h, .int x1, .int x2, .int x3]) (n := 8) (Nat.le_of_ble_eq_true rfl)
  rw [lg_entry_eq]
  generalize (lg_sl ([.ref h, .int x1, .int x2, .int x3]) ++ List.replicate (8 - (lg_sl ([.ref h, .int x1, .int x2, .int x3])).length) Slot.unset).toArray = ls at hl ⊢
  have hl : lv_has ls 8 [(0, .ref h), (1, .int x1), (2, .int x2), (3, .int x3)] := hl
  unfold R_inRow_w at hw
  exact rB_inRow_0 ⟨B.exec, B.bytes, hml, hown, hts⟩ B.returns B.notSynchronized ⟨Nat.le_of_ble_eq_true rfl, Nat.le_of_ble_eq_true rfl⟩ hK hA x1 x2 x3 σ s.heap [] ls (lv_sub hl [0, 1, 2, 3] rfl) ⟨hP, hD, va_S.rf⟩ hw
def R_countAt_b69 (Q : Int32 → rS → Prop) (K12 : Int32 → Int32 → Int32 → Int32 → Int32 → rS → Prop) (x1 : Int32) (x2 : Int32) (x3 : Int32) (x4 : Int32) (x5 : Int32) (σ : rS) : Prop :=
 ∀ v69 : Int32, v69 = x5 + (1 : Int32) → K12 x1 x2 x3 x4 v69 σ
set_option maxHeartbeats 4000000 in
set_option maxRecDepth 100000 in
theorem rB_countAt_69 {Q : Int32 → rS → Prop} {K12 : Int32 → Int32 → Int32 → Int32 → Int32 → rS → Prop} (X : CallFix p m c cX7_countAt 7 s args wsX7_countAt RX7) (hr : meth.sig.returnType = (some .int)) (hlk : meth.locks = false) (hR : 2 ≤ R.frames ∧ 51 ≤ R.locals) (hK : va_K (dC, dI) vwCl [(cI, .int), (cZ, .boolean)] s) (hA : ∀ q, s.heap.size ≤ q → A q) (k12 : ∀ (x1 : Int32) (x2 : Int32) (x3 : Int32) (x4 : Int32) (x5 : Int32) (σ : rS) (H : Heap) (locs : List Loc) (ls : Array Slot), lv_has ls 7 [(0, .ref h), (1, .int x1), (2, .int x2), (3, .int x3), (4, .int x4), (5, .int x5)] → rO dC dI h a cI cZ A s.heap σ H locs → K12 x1 x2 x3 x4 x5 σ → W p l e R s m args below meth c H locs 0 0 (MQ below (va_Qi Q (rAt dC dI A h a cI cZ) A) args s 0 0 A) (F0 m 12 ls [])) (x1 : Int32) (x2 : Int32) (x3 : Int32) (x4 : Int32) (x5 : Int32) (σ : rS) (H : Heap) (locs : List Loc) (ls : Array Slot) (hl : lv_has ls 7 [(0, .ref h), (1, .int x1), (2, .int x2), (3, .int x3), (4, .int x4), (5, .int x5)]) (hO : rO dC dI h a cI cZ A s.heap σ H locs) (hw : R_countAt_b69 Q K12 x1 x2 x3 x4 x5 σ) : W p l e R s m args below meth c H locs 0 0 (MQ below (va_Qi Q (rAt dC dI A h a cI cZ) A) args s 0 0 A) (F0 m 69 ls []) := by
  unfold R_countAt_b69 at hw
  obtain ⟨v69, e69⟩ : ∃ z, z = x5 + (1 : Int32) := ⟨_, rfl⟩
  have hw := hw v69 e69
  refine lv_iinc (lv' := [(5, .int v69), (0, .ref h), (1, .int x1), (2, .int x2), (3, .int x3), (4, .int x4)]) (k := 5) (v := v69) X.1 X.2.1 dX7_countAt_69 hl rfl (by rw [e69]; rfl) (by decide) rfl (fun ls hl => ?_)
  refine lv_goto (tgt := 12) X.1 X.2.1 dX7_countAt_72 rfl ?_
  exact k12 x1 x2 x3 x4 v69 σ H locs ls (lv_sub hl [1, 2, 3, 4, 5, 0] rfl) hO hw
def R_countAt_b41 (Q : Int32 → rS → Prop) (K12 : Int32 → Int32 → Int32 → Int32 → Int32 → rS → Prop) (x1 : Int32) (x2 : Int32) (x3 : Int32) (x4 : Int32) (x5 : Int32) (x6 : Int32) (σ : rS) : Prop :=
 (x3 < 0 → R_countAt_b69 Q K12 x1 x2 x3 x4 x5 σ) ∧ (¬ x3 < 0 → vp_in x3 16 ∧ (¬ (σ.2 12 x3.toNatClampNeg) = x6 → R_countAt_b69 Q K12 x1 x2 x3 x4 x5 σ) ∧ ((σ.2 12 x3.toNatClampNeg) = x6 → R_inRow_w (fun r63 t63 => ∀ v67 : Int32, v67 = (x4 + r63) → R_countAt_b69 Q K12 x1 x2 x3 v67 x5 t63) x1 x5 x2 σ))
set_option maxHeartbeats 4000000 in
set_option maxRecDepth 100000 in
theorem rB_countAt_41 {Q : Int32 → rS → Prop} {K12 : Int32 → Int32 → Int32 → Int32 → Int32 → rS → Prop} (X : CallFix p m c cX7_countAt 7 s args wsX7_countAt RX7) (hr : meth.sig.returnType = (some .int)) (hlk : meth.locks = false) (hR : 2 ≤ R.frames ∧ 51 ≤ R.locals) (hK : va_K (dC, dI) vwCl [(cI, .int), (cZ, .boolean)] s) (hA : ∀ q, s.heap.size ≤ q → A q) (k12 : ∀ (x1 : Int32) (x2 : Int32) (x3 : Int32) (x4 : Int32) (x5 : Int32) (σ : rS) (H : Heap) (locs : List Loc) (ls : Array Slot), lv_has ls 7 [(0, .ref h), (1, .int x1), (2, .int x2), (3, .int x3), (4, .int x4), (5, .int x5)] → rO dC dI h a cI cZ A s.heap σ H locs → K12 x1 x2 x3 x4 x5 σ → W p l e R s m args below meth c H locs 0 0 (MQ below (va_Qi Q (rAt dC dI A h a cI cZ) A) args s 0 0 A) (F0 m 12 ls [])) (x1 : Int32) (x2 : Int32) (x3 : Int32) (x4 : Int32) (x5 : Int32) (x6 : Int32) (σ : rS) (H : Heap) (locs : List Loc) (ls : Array Slot) (hl : lv_has ls 7 [(0, .ref h), (1, .int x1), (2, .int x2), (3, .int x3), (4, .int x4), (5, .int x5), (6, .int x6)]) (hO : rO dC dI h a cI cZ A s.heap σ H locs) (hw : R_countAt_b41 Q K12 x1 x2 x3 x4 x5 x6 σ) : W p l e R s m args below meth c H locs 0 0 (MQ below (va_Qi Q (rAt dC dI A h a cI cZ) A) args s 0 0 A) (F0 m 41 ls []) := by
  unfold R_countAt_b41 at hw
  refine lv_iload_n X.1 X.2.1 dX7_countAt_41 rfl (lv_at hl 3 rfl) ?_
  refine lv_if_lt (tgt := 69) X.1 X.2.1 dX7_countAt_42 rfl (fun hc9 => ?_) (fun hc9 => ?_)
  · have hw := hw.1 hc9
    exact rB_countAt_69 X hr hlk hR hK hA k12 x1 x2 x3 x4 x5 σ H locs ls (lv_sub hl [0, 1, 2, 3, 4, 5] rfl) hO hw
  · have hw := hw.2 hc9
    refine lv_aload_n X.1 X.2.1 dX7_countAt_45 rfl (lv_at hl 0 rfl) ?_
    refine rf_box X hK hO dX7_countAt_46 ?_
    refine lv_iload_n X.1 X.2.1 dX7_countAt_49 rfl (lv_at hl 3 rfl) ?_
    obtain ⟨g50, hw⟩ := hw
    refine ra_box X.1 X.2.1 hK hO g50 dX7_countAt_50 ?_
    refine lv_iload X.1 X.2.1 dX7_countAt_51 (lv_at hl 6 rfl) ?_
    refine lv_icmp_ne (tgt := 69) X.1 X.2.1 dX7_countAt_53 rfl (fun hc9 => ?_) (fun hc9 => ?_)
    · have hw := hw.1 hc9
      exact rB_countAt_69 X hr hlk hR hK hA k12 x1 x2 x3 x4 x5 σ H locs ls (lv_sub hl [0, 1, 2, 3, 4, 5] rfl) hO hw
    · have hw := hw.2 hc9
      refine lv_iload X.1 X.2.1 dX7_countAt_56 (lv_at hl 4 rfl) ?_
      refine lv_aload_n X.1 X.2.1 dX7_countAt_58 rfl (lv_at hl 0 rfl) ?_
      refine lv_iload_n X.1 X.2.1 dX7_countAt_59 rfl (lv_at hl 1 rfl) ?_
      refine lv_iload X.1 X.2.1 dX7_countAt_60 (lv_at hl 5 rfl) ?_
      refine lv_iload_n X.1 X.2.1 dX7_countAt_62 rfl (lv_at hl 2 rfl) ?_
      refine r_calli (rest := [.int x4]) (As := [.int x1, .int x5, .int x2]) X (rC_inRow l dC dI h a cI cZ σ H.size x1 x5 x2 _ hw) (cwV 3 X.2.2.2.2 gX7_inRow rfl rfl rfl hdX7_inRow ⟨Nat.le_trans (by decide) hR.1, Nat.le_trans (by decide) hR.2⟩) hK hA hO rfl hl.1 rfl (Nat.le_of_ble_eq_true rfl) dX7_countAt_63 (fun r63 t63 H locs hO hw => ?_)
      refine lv_iadd X.1 X.2.1 dX7_countAt_66 ?_
      refine lv_topi (fun v67 e67 => ?_)
      have hw := hw v67 e67
      refine lv_istore (lv' := [(4, .int v67), (0, .ref h), (1, .int x1), (2, .int x2), (3, .int x3), (5, .int x5), (6, .int x6)]) X.1 X.2.1 dX7_countAt_67 hl (by decide) rfl (fun ls hl => ?_)
      exact rB_countAt_69 X hr hlk hR hK hA k12 x1 x2 x3 v67 x5 t63 H locs ls (lv_sub hl [1, 2, 3, 4, 0, 5] rfl) hO hw
def R_countAt_b12_s (Q : Int32 → rS → Prop) (K12 : Int32 → Int32 → Int32 → Int32 → Int32 → rS → Prop) (x1 : Int32) (x2 : Int32) (x3 : Int32) (x4 : Int32) (x5 : Int32) (σ : rS) : Prop :=
 vp_in x1 16 ∧ ((σ.2 15 x1.toNatClampNeg) ≤ x5 → Q x4 σ) ∧ (¬ (σ.2 15 x1.toNatClampNeg) ≤ x5 → R_typeOf_w (fun r27 t27 => (¬ r27 = x2 → R_countAt_b41 Q K12 x1 x2 x3 x4 x5 r27 t27) ∧ (r27 = x2 → ∀ v38 : Int32, v38 = x4 + (1 : Int32) → R_countAt_b41 Q K12 x1 x2 x3 v38 x5 r27 t27)) x1 x5 σ)
def R_countAt_b12_f (Q : Int32 → rS → Prop) : (Int32 × Int32 × Int32 × Int32 × Int32 × rS → Prop) → Int32 × Int32 × Int32 × Int32 × Int32 × rS → Prop :=
 fun K z => R_countAt_b12_s Q (fun x1 x2 x3 x4 x5 σ => K (x1, x2, x3, x4, x5, σ)) z.1 z.2.1 z.2.2.1 z.2.2.2.1 z.2.2.2.2.1 z.2.2.2.2.2
def R_countAt_b12 (Q : Int32 → rS → Prop) (x1 : Int32) (x2 : Int32) (x3 : Int32) (x4 : Int32) (x5 : Int32) (σ : rS) : Prop := ∃ n, fx (R_countAt_b12_f Q ) n (x1, x2, x3, x4, x5, σ)
set_option maxHeartbeats 4000000 in
set_option maxRecDepth 100000 in
theorem rB_countAt_12 {Q : Int32 → rS → Prop} (X : CallFix p m c cX7_countAt 7 s args wsX7_countAt RX7) (hr : meth.sig.returnType = (some .int)) (hlk : meth.locks = false) (hR : 2 ≤ R.frames ∧ 51 ≤ R.locals) (hK : va_K (dC, dI) vwCl [(cI, .int), (cZ, .boolean)] s) (hA : ∀ q, s.heap.size ≤ q → A q) : ∀ (n : Nat) (x1 : Int32) (x2 : Int32) (x3 : Int32) (x4 : Int32) (x5 : Int32) (σ : rS) (H : Heap) (locs : List Loc) (ls : Array Slot), lv_has ls 7 [(0, .ref h), (1, .int x1), (2, .int x2), (3, .int x3), (4, .int x4), (5, .int x5)] → rO dC dI h a cI cZ A s.heap σ H locs → fx (R_countAt_b12_f Q ) n (x1, x2, x3, x4, x5, σ) → W p l e R s m args below meth c H locs 0 0 (MQ below (va_Qi Q (rAt dC dI A h a cI cZ) A) args s 0 0 A) (F0 m 12 ls []) := by
  intro n
  induction n with
  | zero => intro x1 x2 x3 x4 x5 σ H locs ls hl hO hw; exact False.elim hw
  | succ n k12 =>
    intro x1 x2 x3 x4 x5 σ H locs ls hl hO hw
    have hw : R_countAt_b12_s Q (fun x1 x2 x3 x4 x5 σ => fx (R_countAt_b12_f Q ) n (x1, x2, x3, x4, x5, σ)) x1 x2 x3 x4 x5 σ := hw
    unfold R_countAt_b12_s at hw
    refine lv_iload X.1 X.2.1 dX7_countAt_12 (lv_at hl 5 rfl) ?_
    refine lv_aload_n X.1 X.2.1 dX7_countAt_14 rfl (lv_at hl 0 rfl) ?_
    refine rf_noteCount X hK hO dX7_countAt_15 ?_
    refine lv_iload_n X.1 X.2.1 dX7_countAt_18 rfl (lv_at hl 1 rfl) ?_
    obtain ⟨g19, hw⟩ := hw
    refine ra_noteCount X.1 X.2.1 hK hO g19 dX7_countAt_19 ?_
    refine lv_icmp_ge (tgt := 75) X.1 X.2.1 dX7_countAt_20 rfl (fun hc9 => ?_) (fun hc9 => ?_)
    · have hw := hw.1 hc9
      refine lv_iload X.1 X.2.1 dX7_countAt_75 (lv_at hl 4 rfl) ?_
      exact W.iret (v := x4) X.1 X.2.1 hr (fun t ht hW => ⟨⟨x4, σ, rfl, hw, rO_end hO hK ht hW⟩, hO.2.2.F ht⟩) hO.2.2.2.2 dX7_countAt_77 hlk
    · have hw := hw.2 hc9
      refine lv_aload_n X.1 X.2.1 dX7_countAt_23 rfl (lv_at hl 0 rfl) ?_
      refine lv_iload_n X.1 X.2.1 dX7_countAt_24 rfl (lv_at hl 1 rfl) ?_
      refine lv_iload X.1 X.2.1 dX7_countAt_25 (lv_at hl 5 rfl) ?_
      refine r_calli (rest := []) (As := [.int x1, .int x5]) X (rC_typeOf l dC dI h a cI cZ σ H.size x1 x5 _ hw) (cwV 2 X.2.2.2.2 gX7_typeOf rfl rfl rfl hdX7_typeOf ⟨Nat.le_trans (by decide) hR.1, Nat.le_trans (by decide) hR.2⟩) hK hA hO rfl hl.1 rfl (Nat.le_of_ble_eq_true rfl) dX7_countAt_27 (fun r27 t27 H locs hO hw => ?_)
      refine lv_istore (lv' := [(6, .int r27), (0, .ref h), (1, .int x1), (2, .int x2), (3, .int x3), (4, .int x4), (5, .int x5)]) X.1 X.2.1 dX7_countAt_30 hl (by decide) rfl (fun ls hl => ?_)
      refine lv_iload X.1 X.2.1 dX7_countAt_32 (lv_at hl 0 rfl) ?_
      refine lv_iload_n X.1 X.2.1 dX7_countAt_34 rfl (lv_at hl 3 rfl) ?_
      refine lv_icmp_ne (tgt := 41) X.1 X.2.1 dX7_countAt_35 rfl (fun hc9 => ?_) (fun hc9 => ?_)
      · have hw := hw.1 hc9
        exact rB_countAt_41 X hr hlk hR hK hA k12 x1 x2 x3 x4 x5 r27 t27 H locs ls (lv_sub hl [1, 2, 3, 4, 5, 6, 0] rfl) hO hw
      · have hw := hw.2 hc9
        obtain ⟨v38, e38⟩ : ∃ z, z = x4 + (1 : Int32) := ⟨_, rfl⟩
        have hw := hw v38 e38
        refine lv_iinc (lv' := [(4, .int v38), (6, .int r27), (0, .ref h), (1, .int x1), (2, .int x2), (3, .int x3), (5, .int x5)]) (k := 5) (v := v38) X.1 X.2.1 dX7_countAt_38 hl rfl (by rw [e38]; rfl) (by decide) rfl (fun ls hl => ?_)
        exact rB_countAt_41 X hr hlk hR hK hA k12 x1 x2 x3 v38 x5 r27 t27 H locs ls (lv_sub hl [2, 3, 4, 5, 0, 6, 1] rfl) hO hw
def R_countAt_b0 (Q : Int32 → rS → Prop) (x1 : Int32) (x2 : Int32) (σ : rS) : Prop :=
 R_find_w (fun r2 t2 => R_countAt_b12 Q x1 x2 r2 (0 : Int32) (0 : Int32) t2) x2 σ
set_option maxHeartbeats 4000000 in
set_option maxRecDepth 100000 in
theorem rB_countAt_0 {Q : Int32 → rS → Prop} (X : CallFix p m c cX7_countAt 7 s args wsX7_countAt RX7) (hr : meth.sig.returnType = (some .int)) (hlk : meth.locks = false) (hR : 2 ≤ R.frames ∧ 51 ≤ R.locals) (hK : va_K (dC, dI) vwCl [(cI, .int), (cZ, .boolean)] s) (hA : ∀ q, s.heap.size ≤ q → A q) (x1 : Int32) (x2 : Int32) (σ : rS) (H : Heap) (locs : List Loc) (ls : Array Slot) (hl : lv_has ls 7 [(0, .ref h), (1, .int x1), (2, .int x2)]) (hO : rO dC dI h a cI cZ A s.heap σ H locs) (hw : R_countAt_b0 Q x1 x2 σ) : W p l e R s m args below meth c H locs 0 0 (MQ below (va_Qi Q (rAt dC dI A h a cI cZ) A) args s 0 0 A) (F0 m 0 ls []) := by
  unfold R_countAt_b0 at hw
  refine lv_aload_n X.1 X.2.1 dX7_countAt_0 rfl (lv_at hl 0 rfl) ?_
  refine lv_iload_n X.1 X.2.1 dX7_countAt_1 rfl (lv_at hl 2 rfl) ?_
  refine r_calli (rest := []) (As := [.int x2]) X (rC_find l dC dI h a cI cZ σ H.size x2 _ hw) (cwV 1 X.2.2.2.2 gX7_find rfl rfl rfl hdX7_find ⟨Nat.le_trans (by decide) hR.1, Nat.le_trans (by decide) hR.2⟩) hK hA hO rfl hl.1 rfl (Nat.le_of_ble_eq_true rfl) dX7_countAt_2 (fun r2 t2 H locs hO hw => ?_)
  refine lv_istore_n (lv' := [(3, .int r2), (0, .ref h), (1, .int x1), (2, .int x2)]) X.1 X.2.1 dX7_countAt_5 rfl hl (by decide) rfl (fun ls hl => ?_)
  refine lv_iconst (v := 0) X.1 X.2.1 dX7_countAt_6 (by decide) ?_
  refine lv_istore (lv' := [(4, .int (0 : Int32)), (3, .int r2), (0, .ref h), (1, .int x1), (2, .int x2)]) X.1 X.2.1 dX7_countAt_7 hl (by decide) rfl (fun ls hl => ?_)
  refine lv_iconst (v := 0) X.1 X.2.1 dX7_countAt_9 (by decide) ?_
  refine lv_istore (lv' := [(5, .int (0 : Int32)), (4, .int (0 : Int32)), (3, .int r2), (0, .ref h), (1, .int x1), (2, .int x2)]) X.1 X.2.1 dX7_countAt_10 hl (by decide) rfl (fun ls hl => ?_)
  obtain ⟨n, hw⟩ := hw
  exact rB_countAt_12 X hr hlk hR hK hA n x1 x2 r2 (0 : Int32) (0 : Int32) t2 H locs ls (lv_sub hl [3, 4, 5, 2, 1, 0] rfl) hO hw
def R_countAt_w (Q : Int32 → rS → Prop) (x1 : Int32) (x2 : Int32) (σ : rS) : Prop := R_countAt_b0 Q x1 x2 σ
abbrev rmX7_countAt : Room := { frames := 2, cells := 0, slots := 0, locals := 51 }
set_option maxHeartbeats 4000000 in
set_option maxRecDepth 100000 in
theorem rC_countAt (l : Launch) (dC : Nat → ClassId) (dI : Nat → Nat → Nat) (h : Nat) (a : Nat → Nat) (cI cZ : ClassId) (σ : rS) (sz : Nat) (x1 : Int32) (x2 : Int32) (Q : Int32 → rS → Prop) (hw : R_countAt_w Q x1 x2 σ) : Met l yX7_countAt wsX7_countAt rmX7_countAt (rPc dC dI h a cI cZ sz σ [.ref h, .int x1, .int x2]) (va_Qi Q (rAt dC dI (va_A (rCells h a cI cZ σ) sz) h a cI cZ) (va_A (rCells h a cI cZ σ) sz)) 0 0 (va_A (rCells h a cI cZ σ) sz) := by
  refine Met.ofW (cc := cX7_countAt) (maxL := 7) (ret := (some .int)) (by decide) rfl ?_
  intro p e s m args below meth c s₁ B hml hv
  obtain ⟨hargs, hsz, hP, hK, hD0⟩ := hv
  have hts := atoms_spec (ws := wsX7_countAt) B.pre
  have hown : s.vm.findClass RX7 = some m.cls := findClass_of_methodNamed B.named
  subst hsz
  subst hargs
  have hD := hD0.self (sz := s.heap.size)
  generalize hAe : va_A (rCells h a cI cZ σ) s.heap.size = A at hD ⊢
  have hA : ∀ q : Nat, s.heap.size ≤ q → A q := fun q h => by rw [← hAe]; exact Or.inr h
  have hl := lv_entry ([.ref h, .int x1, .int x2]) (n := 7) (Nat.le_of_ble_eq_true rfl)
  rw [lg_entry_eq]
  generalize (lg_sl ([.ref h, .int x1, .int x2]) ++ List.replicate (7 - (lg_sl ([.ref h, .int x1, .int x2])).length) Slot.unset).toArray = ls at hl ⊢
  have hl : lv_has ls 7 [(0, .ref h), (1, .int x1), (2, .int x2)] := hl
  unfold R_countAt_w at hw
  exact rB_countAt_0 ⟨B.exec, B.bytes, hml, hown, hts⟩ B.returns B.notSynchronized ⟨Nat.le_of_ble_eq_true rfl, Nat.le_of_ble_eq_true rfl⟩ hK hA x1 x2 σ s.heap [] ls (lv_sub hl [0, 1, 2] rfl) ⟨hP, hD, va_S.rf⟩ hw
def R_count_b16 (Q : Int32 → rS → Prop) (σ : rS) : Prop :=
 Q (0 : Int32) σ
set_option maxHeartbeats 4000000 in
set_option maxRecDepth 100000 in
theorem rB_count_16 {Q : Int32 → rS → Prop} (X : CallFix p m c cX7_count 7 s args wsX7_count RX7) (hr : meth.sig.returnType = (some .int)) (hlk : meth.locks = false) (hR : 3 ≤ R.frames ∧ 77 ≤ R.locals) (hK : va_K (dC, dI) vwCl [(cI, .int), (cZ, .boolean)] s) (hA : ∀ q, s.heap.size ≤ q → A q) (σ : rS) (H : Heap) (locs : List Loc) (ls : Array Slot) (hl : lv_has ls 7 [(0, .ref h)]) (hO : rO dC dI h a cI cZ A s.heap σ H locs) (hw : R_count_b16 Q σ) : W p l e R s m args below meth c H locs 0 0 (MQ below (va_Qi Q (rAt dC dI A h a cI cZ) A) args s 0 0 A) (F0 m 16 ls []) := by
  unfold R_count_b16 at hw
  refine lv_iconst (v := 0) X.1 X.2.1 dX7_count_16 (by decide) ?_
  exact W.iret (v := (0 : Int32)) X.1 X.2.1 hr (fun t ht hW => ⟨⟨(0 : Int32), σ, rfl, hw, rO_end hO hK ht hW⟩, hO.2.2.F ht⟩) hO.2.2.2.2 dX7_count_17 hlk
def R_count_b96 (Q : Int32 → rS → Prop) (x5 : Int32) (σ : rS) : Prop :=
 Q x5 σ
set_option maxHeartbeats 4000000 in
set_option maxRecDepth 100000 in
theorem rB_count_96 {Q : Int32 → rS → Prop} (X : CallFix p m c cX7_count 7 s args wsX7_count RX7) (hr : meth.sig.returnType = (some .int)) (hlk : meth.locks = false) (hR : 3 ≤ R.frames ∧ 77 ≤ R.locals) (hK : va_K (dC, dI) vwCl [(cI, .int), (cZ, .boolean)] s) (hA : ∀ q, s.heap.size ≤ q → A q) (x5 : Int32) (σ : rS) (H : Heap) (locs : List Loc) (ls : Array Slot) (hl : lv_has ls 7 [(0, .ref h), (5, .int x5)]) (hO : rO dC dI h a cI cZ A s.heap σ H locs) (hw : R_count_b96 Q x5 σ) : W p l e R s m args below meth c H locs 0 0 (MQ below (va_Qi Q (rAt dC dI A h a cI cZ) A) args s 0 0 A) (F0 m 96 ls []) := by
  unfold R_count_b96 at hw
  refine lv_iload X.1 X.2.1 dX7_count_96 (lv_at hl 1 rfl) ?_
  exact W.iret (v := x5) X.1 X.2.1 hr (fun t ht hW => ⟨⟨x5, σ, rfl, hw, rO_end hO hK ht hW⟩, hO.2.2.F ht⟩) hO.2.2.2.2 dX7_count_98 hlk
def R_count_b88 (Q : Int32 → rS → Prop) (K33 : Int32 → Int32 → Int32 → Int32 → Int32 → rS → Prop) (x2 : Int32) (x3 : Int32) (x5 : Int32) (x6 : Int32) (y0 : Int32) (σ : rS) : Prop :=
 ∀ v90 : Int32, v90 = x6 + (1 : Int32) → K33 x2 x3 y0 x5 v90 σ
set_option maxHeartbeats 4000000 in
set_option maxRecDepth 100000 in
theorem rB_count_88 {Q : Int32 → rS → Prop} {K33 : Int32 → Int32 → Int32 → Int32 → Int32 → rS → Prop} (X : CallFix p m c cX7_count 7 s args wsX7_count RX7) (hr : meth.sig.returnType = (some .int)) (hlk : meth.locks = false) (hR : 3 ≤ R.frames ∧ 77 ≤ R.locals) (hK : va_K (dC, dI) vwCl [(cI, .int), (cZ, .boolean)] s) (hA : ∀ q, s.heap.size ≤ q → A q) (k33 : ∀ (x2 : Int32) (x3 : Int32) (x4 : Int32) (x5 : Int32) (x6 : Int32) (σ : rS) (H : Heap) (locs : List Loc) (ls : Array Slot), lv_has ls 7 [(0, .ref h), (2, .int x2), (3, .int x3), (4, .int x4), (5, .int x5), (6, .int x6)] → rO dC dI h a cI cZ A s.heap σ H locs → K33 x2 x3 x4 x5 x6 σ → W p l e R s m args below meth c H locs 0 0 (MQ below (va_Qi Q (rAt dC dI A h a cI cZ) A) args s 0 0 A) (F0 m 33 ls [])) (x2 : Int32) (x3 : Int32) (x5 : Int32) (x6 : Int32) (y0 : Int32) (σ : rS) (H : Heap) (locs : List Loc) (ls : Array Slot) (hl : lv_has ls 7 [(0, .ref h), (2, .int x2), (3, .int x3), (5, .int x5), (6, .int x6)]) (hO : rO dC dI h a cI cZ A s.heap σ H locs) (hw : R_count_b88 Q K33 x2 x3 x5 x6 y0 σ) : W p l e R s m args below meth c H locs 0 0 (MQ below (va_Qi Q (rAt dC dI A h a cI cZ) A) args s 0 0 A) (F0 m 88 ls [.int y0]) := by
  unfold R_count_b88 at hw
  refine lv_istore (lv' := [(4, .int y0), (0, .ref h), (2, .int x2), (3, .int x3), (5, .int x5), (6, .int x6)]) X.1 X.2.1 dX7_count_88 hl (by decide) rfl (fun ls hl => ?_)
  obtain ⟨v90, e90⟩ : ∃ z, z = x6 + (1 : Int32) := ⟨_, rfl⟩
  have hw := hw v90 e90
  refine lv_iinc (lv' := [(6, .int v90), (4, .int y0), (0, .ref h), (2, .int x2), (3, .int x3), (5, .int x5)]) (k := 5) (v := v90) X.1 X.2.1 dX7_count_90 hl rfl (by rw [e90]; rfl) (by decide) rfl (fun ls hl => ?_)
  refine lv_goto (tgt := 33) X.1 X.2.1 dX7_count_93 rfl ?_
  exact k33 x2 x3 y0 x5 v90 σ H locs ls (lv_sub hl [2, 3, 4, 1, 5, 0] rfl) hO hw
def R_count_b87 (Q : Int32 → rS → Prop) (K33 : Int32 → Int32 → Int32 → Int32 → Int32 → rS → Prop) (x2 : Int32) (x3 : Int32) (x5 : Int32) (x6 : Int32) (σ : rS) : Prop :=
 R_count_b88 Q K33 x2 x3 x5 x6 (-1 : Int32) σ
set_option maxHeartbeats 4000000 in
set_option maxRecDepth 100000 in
theorem rB_count_87 {Q : Int32 → rS → Prop} {K33 : Int32 → Int32 → Int32 → Int32 → Int32 → rS → Prop} (X : CallFix p m c cX7_count 7 s args wsX7_count RX7) (hr : meth.sig.returnType = (some .int)) (hlk : meth.locks = false) (hR : 3 ≤ R.frames ∧ 77 ≤ R.locals) (hK : va_K (dC, dI) vwCl [(cI, .int), (cZ, .boolean)] s) (hA : ∀ q, s.heap.size ≤ q → A q) (k33 : ∀ (x2 : Int32) (x3 : Int32) (x4 : Int32) (x5 : Int32) (x6 : Int32) (σ : rS) (H : Heap) (locs : List Loc) (ls : Array Slot), lv_has ls 7 [(0, .ref h), (2, .int x2), (3, .int x3), (4, .int x4), (5, .int x5), (6, .int x6)] → rO dC dI h a cI cZ A s.heap σ H locs → K33 x2 x3 x4 x5 x6 σ → W p l e R s m args below meth c H locs 0 0 (MQ below (va_Qi Q (rAt dC dI A h a cI cZ) A) args s 0 0 A) (F0 m 33 ls [])) (x2 : Int32) (x3 : Int32) (x5 : Int32) (x6 : Int32) (σ : rS) (H : Heap) (locs : List Loc) (ls : Array Slot) (hl : lv_has ls 7 [(0, .ref h), (2, .int x2), (3, .int x3), (5, .int x5), (6, .int x6)]) (hO : rO dC dI h a cI cZ A s.heap σ H locs) (hw : R_count_b87 Q K33 x2 x3 x5 x6 σ) : W p l e R s m args below meth c H locs 0 0 (MQ below (va_Qi Q (rAt dC dI A h a cI cZ) A) args s 0 0 A) (F0 m 87 ls []) := by
  unfold R_count_b87 at hw
  refine lv_iconst (v := -1) X.1 X.2.1 dX7_count_87 (by decide) ?_
  exact rB_count_88 X hr hlk hR hK hA k33 x2 x3 x5 x6 (-1 : Int32) σ H locs ls (lv_sub hl [0, 1, 2, 3, 4] rfl) hO hw
def R_count_b33_s (Q : Int32 → rS → Prop) (K33 : Int32 → Int32 → Int32 → Int32 → Int32 → rS → Prop) (x2 : Int32) (x3 : Int32) (x4 : Int32) (x5 : Int32) (x6 : Int32) (σ : rS) : Prop :=
 ((16 : Int32) < x6 → R_count_b96 Q x5 σ) ∧ (¬ (16 : Int32) < x6 → (x4 < 0 → R_count_b96 Q x5 σ) ∧ (¬ x4 < 0 → (¬ x5 = 0 → R_count_b96 Q x5 σ) ∧ (x5 = 0 → R_countAt_w (fun r54 t54 => (x3 = 0 → R_count_b87 Q K33 x2 x3 r54 x6 t54) ∧ (¬ x3 = 0 → vp_in x4 16 ∧ ((t54.2 11 x4.toNatClampNeg) < 0 → R_count_b87 Q K33 x2 x3 r54 x6 t54) ∧ (¬ (t54.2 11 x4.toNatClampNeg) < 0 → vp_in x4 16 ∧ R_find_w (fun r81 t81 => R_count_b88 Q K33 x2 x3 r54 x6 r81 t81) (t54.2 11 x4.toNatClampNeg) t54))) x4 x2 σ)))
def R_count_b33_f (Q : Int32 → rS → Prop) : (Int32 × Int32 × Int32 × Int32 × Int32 × rS → Prop) → Int32 × Int32 × Int32 × Int32 × Int32 × rS → Prop :=
 fun K z => R_count_b33_s Q (fun x2 x3 x4 x5 x6 σ => K (x2, x3, x4, x5, x6, σ)) z.1 z.2.1 z.2.2.1 z.2.2.2.1 z.2.2.2.2.1 z.2.2.2.2.2
def R_count_b33 (Q : Int32 → rS → Prop) (x2 : Int32) (x3 : Int32) (x4 : Int32) (x5 : Int32) (x6 : Int32) (σ : rS) : Prop := ∃ n, fx (R_count_b33_f Q ) n (x2, x3, x4, x5, x6, σ)
set_option maxHeartbeats 4000000 in
set_option maxRecDepth 100000 in
theorem rB_count_33 {Q : Int32 → rS → Prop} (X : CallFix p m c cX7_count 7 s args wsX7_count RX7) (hr : meth.sig.returnType = (some .int)) (hlk : meth.locks = false) (hR : 3 ≤ R.frames ∧ 77 ≤ R.locals) (hK : va_K (dC, dI) vwCl [(cI, .int), (cZ, .boolean)] s) (hA : ∀ q, s.heap.size ≤ q → A q) : ∀ (n : Nat) (x2 : Int32) (x3 : Int32) (x4 : Int32) (x5 : Int32) (x6 : Int32) (σ : rS) (H : Heap) (locs : List Loc) (ls : Array Slot), lv_has ls 7 [(0, .ref h), (2, .int x2), (3, .int x3), (4, .int x4), (5, .int x5), (6, .int x6)] → rO dC dI h a cI cZ A s.heap σ H locs → fx (R_count_b33_f Q ) n (x2, x3, x4, x5, x6, σ) → W p l e R s m args below meth c H locs 0 0 (MQ below (va_Qi Q (rAt dC dI A h a cI cZ) A) args s 0 0 A) (F0 m 33 ls []) := by
  intro n
  induction n with
  | zero => intro x2 x3 x4 x5 x6 σ H locs ls hl hO hw; exact False.elim hw
  | succ n k33 =>
    intro x2 x3 x4 x5 x6 σ H locs ls hl hO hw
    have hw : R_count_b33_s Q (fun x2 x3 x4 x5 x6 σ => fx (R_count_b33_f Q ) n (x2, x3, x4, x5, x6, σ)) x2 x3 x4 x5 x6 σ := hw
    unfold R_count_b33_s at hw
    refine lv_iload X.1 X.2.1 dX7_count_33 (lv_at hl 5 rfl) ?_
    refine lv_bipush (v := 16) X.1 X.2.1 dX7_count_35 (by decide) ?_
    refine lv_icmp_gt (tgt := 96) X.1 X.2.1 dX7_count_37 rfl (fun hc9 => ?_) (fun hc9 => ?_)
    · have hw := hw.1 hc9
      exact rB_count_96 X hr hlk hR hK hA x5 σ H locs ls (lv_sub hl [0, 4] rfl) hO hw
    · have hw := hw.2 hc9
      refine lv_iload X.1 X.2.1 dX7_count_40 (lv_at hl 3 rfl) ?_
      refine lv_if_lt (tgt := 96) X.1 X.2.1 dX7_count_42 rfl (fun hc9 => ?_) (fun hc9 => ?_)
      · have hw := hw.1 hc9
        exact rB_count_96 X hr hlk hR hK hA x5 σ H locs ls (lv_sub hl [0, 4] rfl) hO hw
      · have hw := hw.2 hc9
        refine lv_iload X.1 X.2.1 dX7_count_45 (lv_at hl 4 rfl) ?_
        refine lv_if_ne (tgt := 96) X.1 X.2.1 dX7_count_47 rfl (fun hc9 => ?_) (fun hc9 => ?_)
        · have hw := hw.1 hc9
          exact rB_count_96 X hr hlk hR hK hA x5 σ H locs ls (lv_sub hl [0, 4] rfl) hO hw
        · have hw := hw.2 hc9
          refine lv_aload_n X.1 X.2.1 dX7_count_50 rfl (lv_at hl 0 rfl) ?_
          refine lv_iload X.1 X.2.1 dX7_count_51 (lv_at hl 3 rfl) ?_
          refine lv_iload_n X.1 X.2.1 dX7_count_53 rfl (lv_at hl 1 rfl) ?_
          refine r_calli (rest := []) (As := [.int x4, .int x2]) X (rC_countAt l dC dI h a cI cZ σ H.size x4 x2 _ hw) (cwV 2 X.2.2.2.2 gX7_countAt rfl rfl rfl hdX7_countAt ⟨Nat.le_trans (by decide) hR.1, Nat.le_trans (by decide) hR.2⟩) hK hA hO rfl hl.1 rfl (Nat.le_of_ble_eq_true rfl) dX7_count_54 (fun r54 t54 H locs hO hw => ?_)
          refine lv_istore (lv' := [(5, .int r54), (0, .ref h), (2, .int x2), (3, .int x3), (4, .int x4), (6, .int x6)]) X.1 X.2.1 dX7_count_57 hl (by decide) rfl (fun ls hl => ?_)
          refine lv_iload_n X.1 X.2.1 dX7_count_59 rfl (lv_at hl 3 rfl) ?_
          refine lv_if_eq (tgt := 87) X.1 X.2.1 dX7_count_60 rfl (fun hc9 => ?_) (fun hc9 => ?_)
          · have hw := hw.1 hc9
            exact rB_count_87 X hr hlk hR hK hA k33 x2 x3 r54 x6 t54 H locs ls (lv_sub hl [1, 2, 3, 0, 5] rfl) hO hw
          · have hw := hw.2 hc9
            refine lv_aload_n X.1 X.2.1 dX7_count_63 rfl (lv_at hl 1 rfl) ?_
            refine rf_above X hK hO dX7_count_64 ?_
            refine lv_iload X.1 X.2.1 dX7_count_67 (lv_at hl 4 rfl) ?_
            obtain ⟨g69, hw⟩ := hw
            refine ra_above X.1 X.2.1 hK hO g69 dX7_count_69 ?_
            refine lv_if_lt (tgt := 87) X.1 X.2.1 dX7_count_70 rfl (fun hc9 => ?_) (fun hc9 => ?_)
            · have hw := hw.1 hc9
              exact rB_count_87 X hr hlk hR hK hA k33 x2 x3 r54 x6 t54 H locs ls (lv_sub hl [1, 2, 3, 0, 5] rfl) hO hw
            · have hw := hw.2 hc9
              refine lv_aload_n X.1 X.2.1 dX7_count_73 rfl (lv_at hl 1 rfl) ?_
              refine lv_aload_n X.1 X.2.1 dX7_count_74 rfl (lv_at hl 1 rfl) ?_
              refine rf_above X hK hO dX7_count_75 ?_
              refine lv_iload X.1 X.2.1 dX7_count_78 (lv_at hl 4 rfl) ?_
              obtain ⟨g80, hw⟩ := hw
              refine ra_above X.1 X.2.1 hK hO g80 dX7_count_80 ?_
              refine r_calli (rest := []) (As := [.int (t54.2 11 x4.toNatClampNeg)]) X (rC_find l dC dI h a cI cZ t54 H.size (t54.2 11 x4.toNatClampNeg) _ hw) (cwV 1 X.2.2.2.2 gX7_find rfl rfl rfl hdX7_find ⟨Nat.le_trans (by decide) hR.1, Nat.le_trans (by decide) hR.2⟩) hK hA hO rfl hl.1 rfl (Nat.le_of_ble_eq_true rfl) dX7_count_81 (fun r81 t81 H locs hO hw => ?_)
              refine lv_goto (tgt := 88) X.1 X.2.1 dX7_count_84 rfl ?_
              exact rB_count_88 X hr hlk hR hK hA k33 x2 x3 r54 x6 r81 t81 H locs ls (lv_sub hl [1, 2, 3, 0, 5] rfl) hO hw
def R_count_b0 (Q : Int32 → rS → Prop) (x1 : Int32) (x2 : Int32) (σ : rS) : Prop :=
 R_isClass_w (fun r2 t2 => (r2 = 0 → R_count_b16 Q t2) ∧ (¬ r2 = 0 → R_isText_w (fun r10 t10 => (¬ r10 = 0 → R_inherited_w (fun r20 t20 => R_count_b33 Q x2 r20 x1 (0 : Int32) (0 : Int32) t20) x2 t10) ∧ (r10 = 0 → R_count_b16 Q t10)) x2 t2)) x1 σ
set_option maxHeartbeats 4000000 in
set_option maxRecDepth 100000 in
theorem rB_count_0 {Q : Int32 → rS → Prop} (X : CallFix p m c cX7_count 7 s args wsX7_count RX7) (hr : meth.sig.returnType = (some .int)) (hlk : meth.locks = false) (hR : 3 ≤ R.frames ∧ 77 ≤ R.locals) (hK : va_K (dC, dI) vwCl [(cI, .int), (cZ, .boolean)] s) (hA : ∀ q, s.heap.size ≤ q → A q) (x1 : Int32) (x2 : Int32) (σ : rS) (H : Heap) (locs : List Loc) (ls : Array Slot) (hl : lv_has ls 7 [(0, .ref h), (1, .int x1), (2, .int x2)]) (hO : rO dC dI h a cI cZ A s.heap σ H locs) (hw : R_count_b0 Q x1 x2 σ) : W p l e R s m args below meth c H locs 0 0 (MQ below (va_Qi Q (rAt dC dI A h a cI cZ) A) args s 0 0 A) (F0 m 0 ls []) := by
  unfold R_count_b0 at hw
  refine lv_aload_n X.1 X.2.1 dX7_count_0 rfl (lv_at hl 0 rfl) ?_
  refine lv_iload_n X.1 X.2.1 dX7_count_1 rfl (lv_at hl 1 rfl) ?_
  refine r_calli (rest := []) (As := [.int x1]) X (rC_isClass l dC dI h a cI cZ σ H.size x1 _ hw) (cwV 1 X.2.2.2.2 gX7_isClass rfl rfl rfl hdX7_isClass ⟨Nat.le_trans (by decide) hR.1, Nat.le_trans (by decide) hR.2⟩) hK hA hO rfl hl.1 rfl (Nat.le_of_ble_eq_true rfl) dX7_count_2 (fun r2 t2 H locs hO hw => ?_)
  refine lv_if_eq (tgt := 16) X.1 X.2.1 dX7_count_5 rfl (fun hc9 => ?_) (fun hc9 => ?_)
  · have hw := hw.1 hc9
    exact rB_count_16 X hr hlk hR hK hA t2 H locs ls (lv_sub hl [0] rfl) hO hw
  · have hw := hw.2 hc9
    refine lv_aload_n X.1 X.2.1 dX7_count_8 rfl (lv_at hl 0 rfl) ?_
    refine lv_iload_n X.1 X.2.1 dX7_count_9 rfl (lv_at hl 2 rfl) ?_
    refine r_calli (rest := []) (As := [.int x2]) X (rC_isText l dC dI h a cI cZ t2 H.size x2 _ hw) (cwV 1 X.2.2.2.2 gX7_isText rfl rfl rfl hdX7_isText ⟨Nat.le_trans (by decide) hR.1, Nat.le_trans (by decide) hR.2⟩) hK hA hO rfl hl.1 rfl (Nat.le_of_ble_eq_true rfl) dX7_count_10 (fun r10 t10 H locs hO hw => ?_)
    refine lv_if_ne (tgt := 18) X.1 X.2.1 dX7_count_13 rfl (fun hc9 => ?_) (fun hc9 => ?_)
    · have hw := hw.1 hc9
      refine lv_aload_n X.1 X.2.1 dX7_count_18 rfl (lv_at hl 0 rfl) ?_
      refine lv_iload_n X.1 X.2.1 dX7_count_19 rfl (lv_at hl 2 rfl) ?_
      refine r_calli (rest := []) (As := [.int x2]) X (rC_inherited l dC dI h a cI cZ t10 H.size x2 _ hw) (cwV 1 X.2.2.2.2 gX7_inherited rfl rfl rfl hdX7_inherited ⟨Nat.le_trans (by decide) hR.1, Nat.le_trans (by decide) hR.2⟩) hK hA hO rfl hl.1 rfl (Nat.le_of_ble_eq_true rfl) dX7_count_20 (fun r20 t20 H locs hO hw => ?_)
      refine lv_istore_n (lv' := [(3, .int r20), (0, .ref h), (1, .int x1), (2, .int x2)]) X.1 X.2.1 dX7_count_23 rfl hl (by decide) rfl (fun ls hl => ?_)
      refine lv_iload_n X.1 X.2.1 dX7_count_24 rfl (lv_at hl 2 rfl) ?_
      refine lv_istore (lv' := [(4, .int x1), (3, .int r20), (0, .ref h), (1, .int x1), (2, .int x2)]) X.1 X.2.1 dX7_count_25 hl (by decide) rfl (fun ls hl => ?_)
      refine lv_iconst (v := 0) X.1 X.2.1 dX7_count_27 (by decide) ?_
      refine lv_istore (lv' := [(5, .int (0 : Int32)), (4, .int x1), (3, .int r20), (0, .ref h), (1, .int x1), (2, .int x2)]) X.1 X.2.1 dX7_count_28 hl (by decide) rfl (fun ls hl => ?_)
      refine lv_iconst (v := 0) X.1 X.2.1 dX7_count_30 (by decide) ?_
      refine lv_istore (lv' := [(6, .int (0 : Int32)), (5, .int (0 : Int32)), (4, .int x1), (3, .int r20), (0, .ref h), (1, .int x1), (2, .int x2)]) X.1 X.2.1 dX7_count_31 hl (by decide) rfl (fun ls hl => ?_)
      obtain ⟨n, hw⟩ := hw
      exact rB_count_33 X hr hlk hR hK hA n x2 r20 x1 (0 : Int32) (0 : Int32) t20 H locs ls (lv_sub hl [4, 6, 3, 2, 1, 0] rfl) hO hw
    · have hw := hw.2 hc9
      exact rB_count_16 X hr hlk hR hK hA t10 H locs ls (lv_sub hl [0] rfl) hO hw
def R_count_w (Q : Int32 → rS → Prop) (x1 : Int32) (x2 : Int32) (σ : rS) : Prop := R_count_b0 Q x1 x2 σ
abbrev rmX7_count : Room := { frames := 3, cells := 0, slots := 0, locals := 77 }
set_option maxHeartbeats 4000000 in
set_option maxRecDepth 100000 in
theorem rC_count (l : Launch) (dC : Nat → ClassId) (dI : Nat → Nat → Nat) (h : Nat) (a : Nat → Nat) (cI cZ : ClassId) (σ : rS) (sz : Nat) (x1 : Int32) (x2 : Int32) (Q : Int32 → rS → Prop) (hw : R_count_w Q x1 x2 σ) : Met l yX7_count wsX7_count rmX7_count (rPc dC dI h a cI cZ sz σ [.ref h, .int x1, .int x2]) (va_Qi Q (rAt dC dI (va_A (rCells h a cI cZ σ) sz) h a cI cZ) (va_A (rCells h a cI cZ σ) sz)) 0 0 (va_A (rCells h a cI cZ σ) sz) := by
  refine Met.ofW (cc := cX7_count) (maxL := 7) (ret := (some .int)) (by decide) rfl ?_
  intro p e s m args below meth c s₁ B hml hv
  obtain ⟨hargs, hsz, hP, hK, hD0⟩ := hv
  have hts := atoms_spec (ws := wsX7_count) B.pre
  have hown : s.vm.findClass RX7 = some m.cls := findClass_of_methodNamed B.named
  subst hsz
  subst hargs
  have hD := hD0.self (sz := s.heap.size)
  generalize hAe : va_A (rCells h a cI cZ σ) s.heap.size = A at hD ⊢
  have hA : ∀ q : Nat, s.heap.size ≤ q → A q := fun q h => by rw [← hAe]; exact Or.inr h
  have hl := lv_entry ([.ref h, .int x1, .int x2]) (n := 7) (Nat.le_of_ble_eq_true rfl)
  rw [lg_entry_eq]
  generalize (lg_sl ([.ref h, .int x1, .int x2]) ++ List.replicate (7 - (lg_sl ([.ref h, .int x1, .int x2])).length) Slot.unset).toArray = ls at hl ⊢
  have hl : lv_has ls 7 [(0, .ref h), (1, .int x1), (2, .int x2)] := hl
  unfold R_count_w at hw
  exact rB_count_0 ⟨B.exec, B.bytes, hml, hown, hts⟩ B.returns B.notSynchronized ⟨Nat.le_of_ble_eq_true rfl, Nat.le_of_ble_eq_true rfl⟩ hK hA x1 x2 σ s.heap [] ls (lv_sub hl [0, 1, 2] rfl) ⟨hP, hD, va_S.rf⟩ hw
end
