section
variable {p : Program} {l : Launch} {e : Env} {R : Room} {s : State} {m : MethodId} {args : Array Value} {below : List Frame} {meth : Method} {c : Code}
variable {dC : Nat → ClassId} {dI : Nat → Nat → Nat} {b : Nat → Nat} {k : Nat → ClassId} {A : Nat → Prop}
def C_X0_annotationsOf_b65 (b : Nat → Nat) (k : Nat → ClassId) (h : Nat) (Q : Int32 → cS → Prop) (K5 : Int32 → Int32 → Int32 → Int32 → cS → Prop) (x1 : Int32) (x2 : Int32) (x3 : Int32) (x4 : Int32) (σ : cS) : Prop :=
 ∀ v65 : Int32, v65 = x4 + (1 : Int32) → K5 x1 x2 x3 v65 σ
set_option maxHeartbeats 4000000 in
set_option maxRecDepth 100000 in
theorem cB_X0_annotationsOf_65 {h : Nat} {Q : Int32 → cS → Prop} {K5 : Int32 → Int32 → Int32 → Int32 → cS → Prop} (X : CallFix p m c cX0_annotationsOf 5 s args wsX0_annotationsOf RX0) (hr : meth.sig.returnType = (some .int)) (hlk : meth.locks = false) (hR : 2 ≤ R.frames ∧ 46 ≤ R.locals) (hK : cK dC dI k s) (hA : ∀ q, s.heap.size ≤ q → A q) (k5 : ∀ (x1 : Int32) (x2 : Int32) (x3 : Int32) (x4 : Int32) (σ : cS) (H : Heap) (locs : List Loc) (ls : Array Slot), lv_has ls 5 [(0, .ref h), (1, .int x1), (2, .int x2), (3, .int x3), (4, .int x4)] → cO dC dI b k A s.heap σ H locs → K5 x1 x2 x3 x4 σ → W p l e R s m args below meth c H locs 0 0 (MQ below (va_Qi Q (cAt dC dI A b k) A) args s 0 0 A) (F0 m 5 ls [])) (x1 : Int32) (x2 : Int32) (x3 : Int32) (x4 : Int32) (σ : cS) (H : Heap) (locs : List Loc) (ls : Array Slot) (hl : lv_has ls 5 [(0, .ref h), (1, .int x1), (2, .int x2), (3, .int x3), (4, .int x4)]) (hO : cO dC dI b k A s.heap σ H locs) (hw : C_X0_annotationsOf_b65 b k h Q K5 x1 x2 x3 x4 σ) : W p l e R s m args below meth c H locs 0 0 (MQ below (va_Qi Q (cAt dC dI A b k) A) args s 0 0 A) (F0 m 65 ls []) := by
  unfold C_X0_annotationsOf_b65 at hw
  obtain ⟨v65, e65⟩ : ∃ z, z = x4 + (1 : Int32) := ⟨_, rfl⟩
  have hw := hw v65 e65
  refine lv_iinc (lv' := [(4, .int v65), (0, .ref h), (1, .int x1), (2, .int x2), (3, .int x3)]) (k := 4) (v := v65) X.1 X.2.1 dX0_annotationsOf_65 hl rfl (by rw [e65]; rfl) (by decide) rfl (fun ls hl => ?_)
  refine lv_goto (tgt := 5) X.1 X.2.1 dX0_annotationsOf_68 rfl ?_
  exact k5 x1 x2 x3 v65 σ H locs ls (lv_sub hl [1, 2, 3, 4, 0] rfl) hO hw
def C_X0_annotationsOf_b32 (b : Nat → Nat) (k : Nat → ClassId) (h : Nat) (Q : Int32 → cS → Prop) (K5 : Int32 → Int32 → Int32 → Int32 → cS → Prop) (x1 : Int32) (x2 : Int32) (x3 : Int32) (x4 : Int32) (σ : cS) : Prop :=
 (x2 = (-1 : Int32) → C_X0_annotationsOf_b65 b k h Q K5 x1 x2 x3 x4 σ) ∧ (¬ x2 = (-1 : Int32) → ∃ v38 : Option Nat, pR σ.2.2.2.2 (some h) 0 4 v38 ∧ ∃ (n43 : Nat) (f43 : Nat → Option Nat), pQ σ.2.2.2.2 v38 (k 3) n43 f43 ∧ vp_in x4 n43 ∧ ∃ a45 : Nat, pX σ.2.2.2.2 (f43 x4.toNatClampNeg) 5 a45 ∧ C_X5_isAnnotationOf_w b k a45 (fun r45 t45 => (r45 = 0 → C_X0_annotationsOf_b65 b k h Q K5 x1 x2 x3 x4 t45) ∧ (¬ r45 = 0 → ∃ v53 : Option Nat, pR t45.2.2.2.2 (some h) 0 4 v53 ∧ ∃ (n58 : Nat) (f58 : Nat → Option Nat), pQ t45.2.2.2.2 v53 (k 3) n58 f58 ∧ vp_in x4 n58 ∧ ∃ a60 : Nat, pX t45.2.2.2.2 (f58 x4.toNatClampNeg) 5 a60 ∧ C_X5_contained_w b k a60 (fun r60 t60 => ∀ v64 : Int32, v64 = (x3 + r60) → C_X0_annotationsOf_b65 b k h Q K5 x1 x2 v64 x4 t60) x1 t45)) x2 σ)
set_option maxHeartbeats 4000000 in
set_option maxRecDepth 100000 in
theorem cB_X0_annotationsOf_32 {h : Nat} {Q : Int32 → cS → Prop} {K5 : Int32 → Int32 → Int32 → Int32 → cS → Prop} (X : CallFix p m c cX0_annotationsOf 5 s args wsX0_annotationsOf RX0) (hr : meth.sig.returnType = (some .int)) (hlk : meth.locks = false) (hR : 2 ≤ R.frames ∧ 46 ≤ R.locals) (hK : cK dC dI k s) (hA : ∀ q, s.heap.size ≤ q → A q) (k5 : ∀ (x1 : Int32) (x2 : Int32) (x3 : Int32) (x4 : Int32) (σ : cS) (H : Heap) (locs : List Loc) (ls : Array Slot), lv_has ls 5 [(0, .ref h), (1, .int x1), (2, .int x2), (3, .int x3), (4, .int x4)] → cO dC dI b k A s.heap σ H locs → K5 x1 x2 x3 x4 σ → W p l e R s m args below meth c H locs 0 0 (MQ below (va_Qi Q (cAt dC dI A b k) A) args s 0 0 A) (F0 m 5 ls [])) (x1 : Int32) (x2 : Int32) (x3 : Int32) (x4 : Int32) (σ : cS) (H : Heap) (locs : List Loc) (ls : Array Slot) (hl : lv_has ls 5 [(0, .ref h), (1, .int x1), (2, .int x2), (3, .int x3), (4, .int x4)]) (hO : cO dC dI b k A s.heap σ H locs) (hw : C_X0_annotationsOf_b32 b k h Q K5 x1 x2 x3 x4 σ) : W p l e R s m args below meth c H locs 0 0 (MQ below (va_Qi Q (cAt dC dI A b k) A) args s 0 0 A) (F0 m 32 ls []) := by
  unfold C_X0_annotationsOf_b32 at hw
  refine lv_iload_n X.1 X.2.1 dX0_annotationsOf_32 rfl (lv_at hl 2 rfl) ?_
  refine lv_iconst (v := -1) X.1 X.2.1 dX0_annotationsOf_33 (by decide) ?_
  refine lv_icmp_eq (tgt := 65) X.1 X.2.1 dX0_annotationsOf_34 rfl (fun hc9 => ?_) (fun hc9 => ?_)
  · have hw := hw.1 hc9
    exact cB_X0_annotationsOf_65 X hr hlk hR hK hA k5 x1 x2 x3 x4 σ H locs ls (lv_sub hl [0, 1, 2, 3, 4] rfl) hO hw
  · have hw := hw.2 hc9
    refine lv_aload_n X.1 X.2.1 dX0_annotationsOf_37 rfl (lv_at hl 0 rfl) ?_
    obtain ⟨v38, g38, hw⟩ := hw
    refine cg_X0_annotations X fX0_X0_annotations hK hO g38 dX0_annotationsOf_38 ?_
    refine lv_iload X.1 X.2.1 dX0_annotationsOf_41 (lv_at hl 4 rfl) ?_
    obtain ⟨n43, f43, g43, k43, hw⟩ := hw
    refine caaload X.1 X.2.1 hK hO g43 k43 dX0_annotationsOf_43 ?_
    refine lv_iload_n X.1 X.2.1 dX0_annotationsOf_44 rfl (lv_at hl 2 rfl) ?_
    obtain ⟨a45, z45, hw⟩ := hw
    refine c_calliO (rest := []) (As := [.int x2]) X (cC_X5_isAnnotationOf l dC dI b k σ H.size a45 x2 _ hw) (cwV 1 X.2.2.2.2 gX0_X5_isAnnotationOf rfl rfl rfl hdX5_isAnnotationOf ⟨Nat.le_trans (show 0 + 1 ≤ 2 by decide) hR.1, Nat.le_trans (show 8 + (2 + 11) + 0 ≤ 46 by decide) hR.2⟩) (cRecvP hK hO z45 rfl) z45.1 hK hA hO rfl hl.1 rfl (Nat.le_of_ble_eq_true rfl) dX0_annotationsOf_45 (Nat.zero_le _) (Nat.zero_le _) (fun r45 t45 H locs hO hw => ?_)
    refine lv_if_eq (tgt := 65) X.1 X.2.1 dX0_annotationsOf_48 rfl (fun hc9 => ?_) (fun hc9 => ?_)
    · have hw := hw.1 hc9
      exact cB_X0_annotationsOf_65 X hr hlk hR hK hA k5 x1 x2 x3 x4 t45 H locs ls (lv_sub hl [0, 1, 2, 3, 4] rfl) hO hw
    · have hw := hw.2 hc9
      refine lv_iload_n X.1 X.2.1 dX0_annotationsOf_51 rfl (lv_at hl 3 rfl) ?_
      refine lv_aload_n X.1 X.2.1 dX0_annotationsOf_52 rfl (lv_at hl 0 rfl) ?_
      obtain ⟨v53, g53, hw⟩ := hw
      refine cg_X0_annotations X fX0_X0_annotations hK hO g53 dX0_annotationsOf_53 ?_
      refine lv_iload X.1 X.2.1 dX0_annotationsOf_56 (lv_at hl 4 rfl) ?_
      obtain ⟨n58, f58, g58, k58, hw⟩ := hw
      refine caaload X.1 X.2.1 hK hO g58 k58 dX0_annotationsOf_58 ?_
      refine lv_iload_n X.1 X.2.1 dX0_annotationsOf_59 rfl (lv_at hl 1 rfl) ?_
      obtain ⟨a60, z60, hw⟩ := hw
      refine c_calliO (rest := [.int x3]) (As := [.int x1]) X (cC_X5_contained l dC dI b k t45 H.size a60 x1 _ hw) (cwV 1 X.2.2.2.2 gX0_X5_contained rfl rfl rfl hdX5_contained ⟨Nat.le_trans (show 1 + 1 ≤ 2 by decide) hR.1, Nat.le_trans (show 8 + (6 + 11) + 21 ≤ 46 by decide) hR.2⟩) (cRecvP hK hO z60 rfl) z60.1 hK hA hO rfl hl.1 rfl (Nat.le_of_ble_eq_true rfl) dX0_annotationsOf_60 (Nat.zero_le _) (Nat.zero_le _) (fun r60 t60 H locs hO hw => ?_)
      refine lv_iadd X.1 X.2.1 dX0_annotationsOf_63 ?_
      refine lv_topi (fun v64 e64 => ?_)
      have hw := hw v64 e64
      refine lv_istore_n (lv' := [(3, .int v64), (0, .ref h), (1, .int x1), (2, .int x2), (4, .int x4)]) X.1 X.2.1 dX0_annotationsOf_64 rfl hl (by decide) rfl (fun ls hl => ?_)
      exact cB_X0_annotationsOf_65 X hr hlk hR hK hA k5 x1 x2 v64 x4 t60 H locs ls (lv_sub hl [1, 2, 3, 0, 4] rfl) hO hw
def C_X0_annotationsOf_b5_s (b : Nat → Nat) (k : Nat → ClassId) (h : Nat) (Q : Int32 → cS → Prop) (K5 : Int32 → Int32 → Int32 → Int32 → cS → Prop) (x1 : Int32) (x2 : Int32) (x3 : Int32) (x4 : Int32) (σ : cS) : Prop :=
 ∃ v8 : Option Nat, pR σ.2.2.2.2 (some h) 0 4 v8 ∧ ∃ (n11 : Nat) (f11 : Nat → Option Nat), pQ σ.2.2.2.2 v8 (k 3) n11 f11 ∧ ((Int32.ofNat n11) ≤ x4 → Q x3 σ) ∧ (¬ (Int32.ofNat n11) ≤ x4 → ∃ v16 : Option Nat, pR σ.2.2.2.2 (some h) 0 4 v16 ∧ ∃ (n21 : Nat) (f21 : Nat → Option Nat), pQ σ.2.2.2.2 v16 (k 3) n21 f21 ∧ vp_in x4 n21 ∧ ∃ a23 : Nat, pX σ.2.2.2.2 (f21 x4.toNatClampNeg) 5 a23 ∧ C_X5_isAnnotationOf_w b k a23 (fun r23 t23 => (r23 = 0 → C_X0_annotationsOf_b32 b k h Q K5 x1 x2 x3 x4 t23) ∧ (¬ r23 = 0 → ∀ v29 : Int32, v29 = x3 + (1 : Int32) → C_X0_annotationsOf_b32 b k h Q K5 x1 x2 v29 x4 t23)) x1 σ)
def C_X0_annotationsOf_b5_f (b : Nat → Nat) (k : Nat → ClassId) (h : Nat) (Q : Int32 → cS → Prop) : (Int32 × Int32 × Int32 × Int32 × cS → Prop) → Int32 × Int32 × Int32 × Int32 × cS → Prop :=
 fun K z => C_X0_annotationsOf_b5_s b k h Q (fun x1 x2 x3 x4 σ => K (x1, x2, x3, x4, σ)) z.1 z.2.1 z.2.2.1 z.2.2.2.1 z.2.2.2.2
def C_X0_annotationsOf_b5 (b : Nat → Nat) (k : Nat → ClassId) (h : Nat) (Q : Int32 → cS → Prop) (x1 : Int32) (x2 : Int32) (x3 : Int32) (x4 : Int32) (σ : cS) : Prop := ∃ n, fx (C_X0_annotationsOf_b5_f b k h Q ) n (x1, x2, x3, x4, σ)
set_option maxHeartbeats 4000000 in
set_option maxRecDepth 100000 in
theorem cB_X0_annotationsOf_5 {h : Nat} {Q : Int32 → cS → Prop} (X : CallFix p m c cX0_annotationsOf 5 s args wsX0_annotationsOf RX0) (hr : meth.sig.returnType = (some .int)) (hlk : meth.locks = false) (hR : 2 ≤ R.frames ∧ 46 ≤ R.locals) (hK : cK dC dI k s) (hA : ∀ q, s.heap.size ≤ q → A q) : ∀ (n : Nat) (x1 : Int32) (x2 : Int32) (x3 : Int32) (x4 : Int32) (σ : cS) (H : Heap) (locs : List Loc) (ls : Array Slot), lv_has ls 5 [(0, .ref h), (1, .int x1), (2, .int x2), (3, .int x3), (4, .int x4)] → cO dC dI b k A s.heap σ H locs → fx (C_X0_annotationsOf_b5_f b k h Q ) n (x1, x2, x3, x4, σ) → W p l e R s m args below meth c H locs 0 0 (MQ below (va_Qi Q (cAt dC dI A b k) A) args s 0 0 A) (F0 m 5 ls []) := by
  intro n
  induction n with
  | zero => intro x1 x2 x3 x4 σ H locs ls hl hO hw; exact False.elim hw
  | succ n k5 =>
    intro x1 x2 x3 x4 σ H locs ls hl hO hw
    have hw : C_X0_annotationsOf_b5_s b k h Q (fun x1 x2 x3 x4 σ => fx (C_X0_annotationsOf_b5_f b k h Q ) n (x1, x2, x3, x4, σ)) x1 x2 x3 x4 σ := hw
    unfold C_X0_annotationsOf_b5_s at hw
    refine lv_iload X.1 X.2.1 dX0_annotationsOf_5 (lv_at hl 4 rfl) ?_
    refine lv_aload_n X.1 X.2.1 dX0_annotationsOf_7 rfl (lv_at hl 0 rfl) ?_
    obtain ⟨v8, g8, hw⟩ := hw
    refine cg_X0_annotations X fX0_X0_annotations hK hO g8 dX0_annotationsOf_8 ?_
    obtain ⟨n11, f11, g11, hw⟩ := hw
    refine clenQ X.1 X.2.1 hK hO g11 dX0_annotationsOf_11 ?_
    refine lv_icmp_ge (tgt := 71) X.1 X.2.1 dX0_annotationsOf_12 rfl (fun hc9 => ?_) (fun hc9 => ?_)
    · have hw := hw.1 hc9
      refine lv_iload_n X.1 X.2.1 dX0_annotationsOf_71 rfl (lv_at hl 3 rfl) ?_
      exact W.iret (v := x3) X.1 X.2.1 hr (fun t ht hW => ⟨⟨x3, σ, rfl, hw, cO_end hO hK ht hW⟩, hO.2.2.F ht⟩) hO.2.2.2.2 dX0_annotationsOf_72 hlk
    · have hw := hw.2 hc9
      refine lv_aload_n X.1 X.2.1 dX0_annotationsOf_15 rfl (lv_at hl 0 rfl) ?_
      obtain ⟨v16, g16, hw⟩ := hw
      refine cg_X0_annotations X fX0_X0_annotations hK hO g16 dX0_annotationsOf_16 ?_
      refine lv_iload X.1 X.2.1 dX0_annotationsOf_19 (lv_at hl 4 rfl) ?_
      obtain ⟨n21, f21, g21, k21, hw⟩ := hw
      refine caaload X.1 X.2.1 hK hO g21 k21 dX0_annotationsOf_21 ?_
      refine lv_iload_n X.1 X.2.1 dX0_annotationsOf_22 rfl (lv_at hl 1 rfl) ?_
      obtain ⟨a23, z23, hw⟩ := hw
      refine c_calliO (rest := []) (As := [.int x1]) X (cC_X5_isAnnotationOf l dC dI b k σ H.size a23 x1 _ hw) (cwV 1 X.2.2.2.2 gX0_X5_isAnnotationOf rfl rfl rfl hdX5_isAnnotationOf ⟨Nat.le_trans (show 0 + 1 ≤ 2 by decide) hR.1, Nat.le_trans (show 8 + (2 + 11) + 0 ≤ 46 by decide) hR.2⟩) (cRecvP hK hO z23 rfl) z23.1 hK hA hO rfl hl.1 rfl (Nat.le_of_ble_eq_true rfl) dX0_annotationsOf_23 (Nat.zero_le _) (Nat.zero_le _) (fun r23 t23 H locs hO hw => ?_)
      refine lv_if_eq (tgt := 32) X.1 X.2.1 dX0_annotationsOf_26 rfl (fun hc9 => ?_) (fun hc9 => ?_)
      · have hw := hw.1 hc9
        exact cB_X0_annotationsOf_32 X hr hlk hR hK hA k5 x1 x2 x3 x4 t23 H locs ls (lv_sub hl [0, 1, 2, 3, 4] rfl) hO hw
      · have hw := hw.2 hc9
        obtain ⟨v29, e29⟩ : ∃ z, z = x3 + (1 : Int32) := ⟨_, rfl⟩
        have hw := hw v29 e29
        refine lv_iinc (lv' := [(3, .int v29), (0, .ref h), (1, .int x1), (2, .int x2), (4, .int x4)]) (k := 3) (v := v29) X.1 X.2.1 dX0_annotationsOf_29 hl rfl (by rw [e29]; rfl) (by decide) rfl (fun ls hl => ?_)
        exact cB_X0_annotationsOf_32 X hr hlk hR hK hA k5 x1 x2 v29 x4 t23 H locs ls (lv_sub hl [1, 2, 3, 0, 4] rfl) hO hw
def C_X0_annotationsOf_b0 (b : Nat → Nat) (k : Nat → ClassId) (h : Nat) (Q : Int32 → cS → Prop) (x1 : Int32) (x2 : Int32) (σ : cS) : Prop :=
 C_X0_annotationsOf_b5 b k h Q x1 x2 (0 : Int32) (0 : Int32) σ
set_option maxHeartbeats 4000000 in
set_option maxRecDepth 100000 in
theorem cB_X0_annotationsOf_0 {h : Nat} {Q : Int32 → cS → Prop} (X : CallFix p m c cX0_annotationsOf 5 s args wsX0_annotationsOf RX0) (hr : meth.sig.returnType = (some .int)) (hlk : meth.locks = false) (hR : 2 ≤ R.frames ∧ 46 ≤ R.locals) (hK : cK dC dI k s) (hA : ∀ q, s.heap.size ≤ q → A q) (x1 : Int32) (x2 : Int32) (σ : cS) (H : Heap) (locs : List Loc) (ls : Array Slot) (hl : lv_has ls 5 [(0, .ref h), (1, .int x1), (2, .int x2)]) (hO : cO dC dI b k A s.heap σ H locs) (hw : C_X0_annotationsOf_b0 b k h Q x1 x2 σ) : W p l e R s m args below meth c H locs 0 0 (MQ below (va_Qi Q (cAt dC dI A b k) A) args s 0 0 A) (F0 m 0 ls []) := by
  unfold C_X0_annotationsOf_b0 at hw
  refine lv_iconst (v := 0) X.1 X.2.1 dX0_annotationsOf_0 (by decide) ?_
  refine lv_istore_n (lv' := [(3, .int (0 : Int32)), (0, .ref h), (1, .int x1), (2, .int x2)]) X.1 X.2.1 dX0_annotationsOf_1 rfl hl (by decide) rfl (fun ls hl => ?_)
  refine lv_iconst (v := 0) X.1 X.2.1 dX0_annotationsOf_2 (by decide) ?_
  refine lv_istore (lv' := [(4, .int (0 : Int32)), (3, .int (0 : Int32)), (0, .ref h), (1, .int x1), (2, .int x2)]) X.1 X.2.1 dX0_annotationsOf_3 hl (by decide) rfl (fun ls hl => ?_)
  obtain ⟨n, hw⟩ := hw
  exact cB_X0_annotationsOf_5 X hr hlk hR hK hA n x1 x2 (0 : Int32) (0 : Int32) σ H locs ls (lv_sub hl [2, 3, 4, 1, 0] rfl) hO hw
def C_X0_annotationsOf_w (b : Nat → Nat) (k : Nat → ClassId) (h : Nat) (Q : Int32 → cS → Prop) (x1 : Int32) (x2 : Int32) (σ : cS) : Prop := C_X0_annotationsOf_b0 b k h Q x1 x2 σ
abbrev rmX0_annotationsOf : Room := { frames := 2, cells := 0, slots := 0, locals := 46 }
set_option maxHeartbeats 4000000 in
set_option maxRecDepth 100000 in
theorem cC_X0_annotationsOf (l : Launch) (dC : Nat → ClassId) (dI : Nat → Nat → Nat) (b : Nat → Nat) (k : Nat → ClassId) (σ : cS) (sz : Nat) (h : Nat) (x1 : Int32) (x2 : Int32) (Q : Int32 → cS → Prop) (hw : C_X0_annotationsOf_w b k h Q x1 x2 σ) : Met l yX0_annotationsOf wsX0_annotationsOf rmX0_annotationsOf (cPc dC dI b k sz σ [.ref h, .int x1, .int x2]) (va_Qi Q (cAt dC dI (va_A (cCells b k σ) sz) b k) (va_A (cCells b k σ) sz)) 0 0 (va_A (cCells b k σ) sz) := by
  refine Met.ofW (cc := cX0_annotationsOf) (maxL := 5) (ret := (some .int)) (by decide) rfl ?_
  intro p e s m args below meth c s₁ B hml hv
  obtain ⟨hargs, hsz, hP, hK, hD0⟩ := hv
  have hts := atoms_spec (ws := wsX0_annotationsOf) B.pre
  have hown : s.vm.findClass RX0 = some m.cls := findClass_of_methodNamed B.named
  subst hsz
  subst hargs
  have hD := hD0.self (sz := s.heap.size)
  generalize hAe : va_A (cCells b k σ) s.heap.size = A at hD ⊢
  have hA : ∀ q : Nat, s.heap.size ≤ q → A q := fun q h => by rw [← hAe]; exact Or.inr h
  have hl := lv_entry ([.ref h, .int x1, .int x2]) (n := 5) (Nat.le_of_ble_eq_true rfl)
  rw [lg_entry_eq]
  generalize (lg_sl ([.ref h, .int x1, .int x2]) ++ List.replicate (5 - (lg_sl ([.ref h, .int x1, .int x2])).length) Slot.unset).toArray = ls at hl ⊢
  have hl : lv_has ls 5 [(0, .ref h), (1, .int x1), (2, .int x2)] := hl
  unfold C_X0_annotationsOf_w at hw
  exact cB_X0_annotationsOf_0 ⟨B.exec, B.bytes, hml, hown, hts⟩ B.returns B.notSynchronized ⟨Nat.le_of_ble_eq_true rfl, Nat.le_of_ble_eq_true rfl⟩ hK hA x1 x2 σ s.heap [] ls (lv_sub hl [0, 1, 2] rfl) ⟨hP, hD, va_S.rf⟩ hw
def C_X1_has_b17 (b : Nat → Nat) (k : Nat → ClassId) (Q : Int32 → cS → Prop) (y0 : Int32) (σ : cS) : Prop :=
 zb y0 ∧ Q y0 σ
set_option maxHeartbeats 4000000 in
set_option maxRecDepth 100000 in
theorem cB_X1_has_17 {Q : Int32 → cS → Prop} (X : CallFix p m c cX1_has 2 s args wsX1_has RX1) (hr : meth.sig.returnType = (some .boolean)) (hlk : meth.locks = false) (hR : 0 ≤ R.frames ∧ 0 ≤ R.locals) (hK : cK dC dI k s) (hA : ∀ q, s.heap.size ≤ q → A q) (y0 : Int32) (σ : cS) (H : Heap) (locs : List Loc) (ls : Array Slot) (hl : lv_has ls 2 [(0, .ref (b 5))]) (hO : cO dC dI b k A s.heap σ H locs) (hw : C_X1_has_b17 b k Q y0 σ) : W p l e R s m args below meth c H locs 0 0 (MQ below (va_Qi Q (cAt dC dI A b k) A) args s 0 0 A) (F0 m 17 ls [.int y0]) := by
  unfold C_X1_has_b17 at hw
  obtain ⟨hz, hw⟩ := hw
  exact W.zret (v := y0) X.1 X.2.1 hr hz (fun t ht hW => ⟨⟨y0, σ, rfl, hw, cO_end hO hK ht hW⟩, hO.2.2.F ht⟩) hO.2.2.2.2 dX1_has_17 hlk
def C_X1_has_b16 (b : Nat → Nat) (k : Nat → ClassId) (Q : Int32 → cS → Prop) (σ : cS) : Prop :=
 C_X1_has_b17 b k Q (0 : Int32) σ
set_option maxHeartbeats 4000000 in
set_option maxRecDepth 100000 in
theorem cB_X1_has_16 {Q : Int32 → cS → Prop} (X : CallFix p m c cX1_has 2 s args wsX1_has RX1) (hr : meth.sig.returnType = (some .boolean)) (hlk : meth.locks = false) (hR : 0 ≤ R.frames ∧ 0 ≤ R.locals) (hK : cK dC dI k s) (hA : ∀ q, s.heap.size ≤ q → A q) (σ : cS) (H : Heap) (locs : List Loc) (ls : Array Slot) (hl : lv_has ls 2 [(0, .ref (b 5))]) (hO : cO dC dI b k A s.heap σ H locs) (hw : C_X1_has_b16 b k Q σ) : W p l e R s m args below meth c H locs 0 0 (MQ below (va_Qi Q (cAt dC dI A b k) A) args s 0 0 A) (F0 m 16 ls []) := by
  unfold C_X1_has_b16 at hw
  refine lv_iconst (v := 0) X.1 X.2.1 dX1_has_16 (by decide) ?_
  exact cB_X1_has_17 X hr hlk hR hK hA (0 : Int32) σ H locs ls (lv_sub hl [0] rfl) hO hw
def C_X1_has_b0 (b : Nat → Nat) (k : Nat → ClassId) (Q : Int32 → cS → Prop) (x1 : Int32) (σ : cS) : Prop :=
 (x1 < 0 → C_X1_has_b16 b k Q σ) ∧ (¬ x1 < 0 → ((σ.1 2) ≤ x1 → C_X1_has_b16 b k Q σ) ∧ (¬ (σ.1 2) ≤ x1 → C_X1_has_b17 b k Q (1 : Int32) σ))
set_option maxHeartbeats 4000000 in
set_option maxRecDepth 100000 in
theorem cB_X1_has_0 {Q : Int32 → cS → Prop} (X : CallFix p m c cX1_has 2 s args wsX1_has RX1) (hr : meth.sig.returnType = (some .boolean)) (hlk : meth.locks = false) (hR : 0 ≤ R.frames ∧ 0 ≤ R.locals) (hK : cK dC dI k s) (hA : ∀ q, s.heap.size ≤ q → A q) (x1 : Int32) (σ : cS) (H : Heap) (locs : List Loc) (ls : Array Slot) (hl : lv_has ls 2 [(0, .ref (b 5)), (1, .int x1)]) (hO : cO dC dI b k A s.heap σ H locs) (hw : C_X1_has_b0 b k Q x1 σ) : W p l e R s m args below meth c H locs 0 0 (MQ below (va_Qi Q (cAt dC dI A b k) A) args s 0 0 A) (F0 m 0 ls []) := by
  unfold C_X1_has_b0 at hw
  refine lv_iload_n X.1 X.2.1 dX1_has_0 rfl (lv_at hl 1 rfl) ?_
  refine lv_if_lt (tgt := 16) X.1 X.2.1 dX1_has_1 rfl (fun hc9 => ?_) (fun hc9 => ?_)
  · have hw := hw.1 hc9
    exact cB_X1_has_16 X hr hlk hR hK hA σ H locs ls (lv_sub hl [0] rfl) hO hw
  · have hw := hw.2 hc9
    refine lv_iload_n X.1 X.2.1 dX1_has_4 rfl (lv_at hl 1 rfl) ?_
    refine lv_aload_n X.1 X.2.1 dX1_has_5 rfl (lv_at hl 0 rfl) ?_
    refine cf_X1_size X fX1_X1_size hK hO dX1_has_6 ?_
    refine lv_icmp_ge (tgt := 16) X.1 X.2.1 dX1_has_9 rfl (fun hc9 => ?_) (fun hc9 => ?_)
    · have hw := hw.1 hc9
      exact cB_X1_has_16 X hr hlk hR hK hA σ H locs ls (lv_sub hl [0] rfl) hO hw
    · have hw := hw.2 hc9
      refine lv_iconst (v := 1) X.1 X.2.1 dX1_has_12 (by decide) ?_
      refine lv_goto (tgt := 17) X.1 X.2.1 dX1_has_13 rfl ?_
      exact cB_X1_has_17 X hr hlk hR hK hA (1 : Int32) σ H locs ls (lv_sub hl [0] rfl) hO hw
def C_X1_has_w (b : Nat → Nat) (k : Nat → ClassId) (Q : Int32 → cS → Prop) (x1 : Int32) (σ : cS) : Prop := C_X1_has_b0 b k Q x1 σ
abbrev rmX1_has : Room := { frames := 0, cells := 0, slots := 0, locals := 0 }
set_option maxHeartbeats 4000000 in
set_option maxRecDepth 100000 in
theorem cC_X1_has (l : Launch) (dC : Nat → ClassId) (dI : Nat → Nat → Nat) (b : Nat → Nat) (k : Nat → ClassId) (σ : cS) (sz : Nat) (x1 : Int32) (Q : Int32 → cS → Prop) (hw : C_X1_has_w b k Q x1 σ) : Met l yX1_has wsX1_has rmX1_has (cPc dC dI b k sz σ [.ref (b 5), .int x1]) (va_Qi Q (cAt dC dI (va_A (cCells b k σ) sz) b k) (va_A (cCells b k σ) sz)) 0 0 (va_A (cCells b k σ) sz) := by
  refine Met.ofW (cc := cX1_has) (maxL := 2) (ret := (some .boolean)) (by decide) rfl ?_
  intro p e s m args below meth c s₁ B hml hv
  obtain ⟨hargs, hsz, hP, hK, hD0⟩ := hv
  have hts := atoms_spec (ws := wsX1_has) B.pre
  have hown : s.vm.findClass RX1 = some m.cls := findClass_of_methodNamed B.named
  subst hsz
  subst hargs
  have hD := hD0.self (sz := s.heap.size)
  generalize hAe : va_A (cCells b k σ) s.heap.size = A at hD ⊢
  have hA : ∀ q : Nat, s.heap.size ≤ q → A q := fun q h => by rw [← hAe]; exact Or.inr h
  have hl := lv_entry ([.ref (b 5), .int x1]) (n := 2) (Nat.le_of_ble_eq_true rfl)
  rw [lg_entry_eq]
  generalize (lg_sl ([.ref (b 5), .int x1]) ++ List.replicate (2 - (lg_sl ([.ref (b 5), .int x1])).length) Slot.unset).toArray = ls at hl ⊢
  have hl : lv_has ls 2 [(0, .ref (b 5)), (1, .int x1)] := hl
  unfold C_X1_has_w at hw
  exact cB_X1_has_0 ⟨B.exec, B.bytes, hml, hown, hts⟩ B.returns B.notSynchronized ⟨Nat.le_of_ble_eq_true rfl, Nat.le_of_ble_eq_true rfl⟩ hK hA x1 σ s.heap [] ls (lv_sub hl [0, 1] rfl) ⟨hP, hD, va_S.rf⟩ hw
def C_X1_add_b0 (b : Nat → Nat) (k : Nat → ClassId) (Q : Int32 → cS → Prop) (x1 : Option Nat) (σ : cS) : Prop :=
 vp_in (σ.1 2) 16 ∧ pO σ.2.2.2.2 x1 0 ∧ ∀ t9 : cS, t9 = sFl σ (σ.1 2) x1 → ∃ v15 : Int32, pI t9.2.2.2.2 x1 0 0 v15 ∧ vp_in v15 192 ∧ ∀ t22 : cS, t22 = sA t9 3 v15 (t9.1 2) → ∀ t30 : cS, t30 = sI t22 2 ((t22.1 2) + (1 : Int32)) → Q ((t30.1 2) - (1 : Int32)) t30
set_option maxHeartbeats 4000000 in
set_option maxRecDepth 100000 in
theorem cB_X1_add_0 {Q : Int32 → cS → Prop} (X : CallFix p m c cX1_add 2 s args wsX1_add RX1) (hr : meth.sig.returnType = (some .int)) (hlk : meth.locks = false) (hR : 0 ≤ R.frames ∧ 0 ≤ R.locals) (hK : cK dC dI k s) (hA : ∀ q, s.heap.size ≤ q → A q) (x1 : Option Nat) (σ : cS) (H : Heap) (locs : List Loc) (ls : Array Slot) (hl : lv_has ls 2 [(0, .ref (b 5)), (1, va_rf x1)]) (hO : cO dC dI b k A s.heap σ H locs) (hw : C_X1_add_b0 b k Q x1 σ) : W p l e R s m args below meth c H locs 0 0 (MQ below (va_Qi Q (cAt dC dI A b k) A) args s 0 0 A) (F0 m 0 ls []) := by
  unfold C_X1_add_b0 at hw
  refine lv_aload_n X.1 X.2.1 dX1_add_0 rfl (lv_at hl 0 rfl) ?_
  refine cf_X1_files X fX1_X1_files hK hO dX1_add_1 ?_
  refine lv_aload_n X.1 X.2.1 dX1_add_4 rfl (lv_at hl 0 rfl) ?_
  refine cf_X1_size X fX1_X1_size hK hO dX1_add_5 ?_
  refine lv_aload_nO X.1 X.2.1 dX1_add_8 rfl (lv_at hl 1 rfl) ?_
  obtain ⟨g9, k9, hw⟩ := hw
  refine cs_6 X.1 X.2.1 hK hO g9 k9 dX1_add_9 (fun H locs hO => ?_)
  obtain ⟨t9, e9⟩ : ∃ z, z = sFl σ (σ.1 2) x1 := ⟨_, rfl⟩
  have hw := hw t9 e9
  rw [← e9] at hO
  refine lv_aload_n X.1 X.2.1 dX1_add_10 rfl (lv_at hl 0 rfl) ?_
  refine cf_X1_classOfText X fX1_X1_classOfText hK hO dX1_add_11 ?_
  refine lv_aload_nO X.1 X.2.1 dX1_add_14 rfl (lv_at hl 1 rfl) ?_
  obtain ⟨v15, g15, hw⟩ := hw
  refine cg_X0_name X fX1_X0_name hK hO g15 dX1_add_15 ?_
  refine lv_aload_n X.1 X.2.1 dX1_add_18 rfl (lv_at hl 0 rfl) ?_
  refine cf_X1_size X fX1_X1_size hK hO dX1_add_19 ?_
  obtain ⟨g22, hw⟩ := hw
  refine cs_7 X.1 X.2.1 hK hO g22 dX1_add_22 (fun H locs hO => ?_)
  obtain ⟨t22, e22⟩ : ∃ z, z = sA t9 3 v15 (t9.1 2) := ⟨_, rfl⟩
  have hw := hw t22 e22
  rw [← e22] at hO
  refine lv_aload_n X.1 X.2.1 dX1_add_23 rfl (lv_at hl 0 rfl) ?_
  refine lv_dup X.1 X.2.1 dX1_add_24 rfl ?_
  refine cf_X1_size X fX1_X1_size hK hO dX1_add_25 ?_
  refine lv_iconst (v := 1) X.1 X.2.1 dX1_add_28 (by decide) ?_
  refine lv_iadd X.1 X.2.1 dX1_add_29 ?_
  refine cp_X1_size X fX1_X1_size hK hO dX1_add_30 (fun H locs hO => ?_)
  obtain ⟨t30, e30⟩ : ∃ z, z = sI t22 2 ((t22.1 2) + (1 : Int32)) := ⟨_, rfl⟩
  have hw := hw t30 e30
  rw [← e30] at hO
  refine lv_aload_n X.1 X.2.1 dX1_add_33 rfl (lv_at hl 0 rfl) ?_
  refine cf_X1_size X fX1_X1_size hK hO dX1_add_34 ?_
  refine lv_iconst (v := 1) X.1 X.2.1 dX1_add_37 (by decide) ?_
  refine lv_isub X.1 X.2.1 dX1_add_38 ?_
  exact W.iret (v := ((t30.1 2) - (1 : Int32))) X.1 X.2.1 hr (fun t ht hW => ⟨⟨((t30.1 2) - (1 : Int32)), t30, rfl, hw, cO_end hO hK ht hW⟩, hO.2.2.F ht⟩) hO.2.2.2.2 dX1_add_39 hlk
def C_X1_add_w (b : Nat → Nat) (k : Nat → ClassId) (Q : Int32 → cS → Prop) (x1 : Option Nat) (σ : cS) : Prop := C_X1_add_b0 b k Q x1 σ
abbrev rmX1_add : Room := { frames := 0, cells := 0, slots := 0, locals := 0 }
set_option maxHeartbeats 4000000 in
set_option maxRecDepth 100000 in
theorem cC_X1_add (l : Launch) (dC : Nat → ClassId) (dI : Nat → Nat → Nat) (b : Nat → Nat) (k : Nat → ClassId) (σ : cS) (sz : Nat) (x1 : Option Nat) (Q : Int32 → cS → Prop) (hw : C_X1_add_w b k Q x1 σ) : Met l yX1_add wsX1_add rmX1_add (cPc dC dI b k sz σ [.ref (b 5), va_rf x1]) (va_Qi Q (cAt dC dI (va_A (cCells b k σ) sz) b k) (va_A (cCells b k σ) sz)) 0 0 (va_A (cCells b k σ) sz) := by
  refine Met.ofW (cc := cX1_add) (maxL := 2) (ret := (some .int)) (by decide) rfl ?_
  intro p e s m args below meth c s₁ B hml hv
  obtain ⟨hargs, hsz, hP, hK, hD0⟩ := hv
  have hts := atoms_spec (ws := wsX1_add) B.pre
  have hown : s.vm.findClass RX1 = some m.cls := findClass_of_methodNamed B.named
  subst hsz
  subst hargs
  have hD := hD0.self (sz := s.heap.size)
  generalize hAe : va_A (cCells b k σ) s.heap.size = A at hD ⊢
  have hA : ∀ q : Nat, s.heap.size ≤ q → A q := fun q h => by rw [← hAe]; exact Or.inr h
  have hl := lv_entry ([.ref (b 5), va_rf x1]) (n := 2) (by cases x1 <;> exact Nat.le_of_ble_eq_true rfl)
  rw [lg_entry_eq]
  generalize (lg_sl ([.ref (b 5), va_rf x1]) ++ List.replicate (2 - (lg_sl ([.ref (b 5), va_rf x1])).length) Slot.unset).toArray = ls at hl ⊢
  have e9 : lv_args 0 ([.ref (b 5), va_rf x1]) = [(0, .ref (b 5)), (1, va_rf x1)] := by cases x1 <;> rfl
  have hl : lv_has ls 2 [(0, .ref (b 5)), (1, va_rf x1)] := by rw [← e9]; exact hl
  unfold C_X1_add_w at hw
  exact cB_X1_add_0 ⟨B.exec, B.bytes, hml, hown, hts⟩ B.returns B.notSynchronized ⟨Nat.le_of_ble_eq_true rfl, Nat.le_of_ble_eq_true rfl⟩ hK hA x1 σ s.heap [] ls (lv_sub hl [0, 1] rfl) ⟨hP, hD, va_S.rf⟩ hw
def C_X1_named_b21 (b : Nat → Nat) (k : Nat → ClassId) (Q : Int32 → cS → Prop) (y0 : Int32) (σ : cS) : Prop :=
 Q y0 σ
set_option maxHeartbeats 4000000 in
set_option maxRecDepth 100000 in
theorem cB_X1_named_21 {Q : Int32 → cS → Prop} (X : CallFix p m c cX1_named 2 s args wsX1_named RX1) (hr : meth.sig.returnType = (some .int)) (hlk : meth.locks = false) (hR : 0 ≤ R.frames ∧ 0 ≤ R.locals) (hK : cK dC dI k s) (hA : ∀ q, s.heap.size ≤ q → A q) (y0 : Int32) (σ : cS) (H : Heap) (locs : List Loc) (ls : Array Slot) (hl : lv_has ls 2 [(0, .ref (b 5))]) (hO : cO dC dI b k A s.heap σ H locs) (hw : C_X1_named_b21 b k Q y0 σ) : W p l e R s m args below meth c H locs 0 0 (MQ below (va_Qi Q (cAt dC dI A b k) A) args s 0 0 A) (F0 m 21 ls [.int y0]) := by
  unfold C_X1_named_b21 at hw
  exact W.iret (v := y0) X.1 X.2.1 hr (fun t ht hW => ⟨⟨y0, σ, rfl, hw, cO_end hO hK ht hW⟩, hO.2.2.F ht⟩) hO.2.2.2.2 dX1_named_21 hlk
def C_X1_named_b20 (b : Nat → Nat) (k : Nat → ClassId) (Q : Int32 → cS → Prop) (σ : cS) : Prop :=
 C_X1_named_b21 b k Q (-1 : Int32) σ
set_option maxHeartbeats 4000000 in
set_option maxRecDepth 100000 in
theorem cB_X1_named_20 {Q : Int32 → cS → Prop} (X : CallFix p m c cX1_named 2 s args wsX1_named RX1) (hr : meth.sig.returnType = (some .int)) (hlk : meth.locks = false) (hR : 0 ≤ R.frames ∧ 0 ≤ R.locals) (hK : cK dC dI k s) (hA : ∀ q, s.heap.size ≤ q → A q) (σ : cS) (H : Heap) (locs : List Loc) (ls : Array Slot) (hl : lv_has ls 2 [(0, .ref (b 5))]) (hO : cO dC dI b k A s.heap σ H locs) (hw : C_X1_named_b20 b k Q σ) : W p l e R s m args below meth c H locs 0 0 (MQ below (va_Qi Q (cAt dC dI A b k) A) args s 0 0 A) (F0 m 20 ls []) := by
  unfold C_X1_named_b20 at hw
  refine lv_iconst (v := -1) X.1 X.2.1 dX1_named_20 (by decide) ?_
  exact cB_X1_named_21 X hr hlk hR hK hA (-1 : Int32) σ H locs ls (lv_sub hl [0] rfl) hO hw
def C_X1_named_b0 (b : Nat → Nat) (k : Nat → ClassId) (Q : Int32 → cS → Prop) (x1 : Int32) (σ : cS) : Prop :=
 (x1 < 0 → C_X1_named_b20 b k Q σ) ∧ (¬ x1 < 0 → ((192 : Int32) ≤ x1 → C_X1_named_b20 b k Q σ) ∧ (¬ (192 : Int32) ≤ x1 → vp_in x1 192 ∧ C_X1_named_b21 b k Q (σ.2.1 3 x1.toNatClampNeg) σ))
set_option maxHeartbeats 4000000 in
set_option maxRecDepth 100000 in
theorem cB_X1_named_0 {Q : Int32 → cS → Prop} (X : CallFix p m c cX1_named 2 s args wsX1_named RX1) (hr : meth.sig.returnType = (some .int)) (hlk : meth.locks = false) (hR : 0 ≤ R.frames ∧ 0 ≤ R.locals) (hK : cK dC dI k s) (hA : ∀ q, s.heap.size ≤ q → A q) (x1 : Int32) (σ : cS) (H : Heap) (locs : List Loc) (ls : Array Slot) (hl : lv_has ls 2 [(0, .ref (b 5)), (1, .int x1)]) (hO : cO dC dI b k A s.heap σ H locs) (hw : C_X1_named_b0 b k Q x1 σ) : W p l e R s m args below meth c H locs 0 0 (MQ below (va_Qi Q (cAt dC dI A b k) A) args s 0 0 A) (F0 m 0 ls []) := by
  unfold C_X1_named_b0 at hw
  refine lv_iload_n X.1 X.2.1 dX1_named_0 rfl (lv_at hl 1 rfl) ?_
  refine lv_if_lt (tgt := 20) X.1 X.2.1 dX1_named_1 rfl (fun hc9 => ?_) (fun hc9 => ?_)
  · have hw := hw.1 hc9
    exact cB_X1_named_20 X hr hlk hR hK hA σ H locs ls (lv_sub hl [0] rfl) hO hw
  · have hw := hw.2 hc9
    refine lv_iload_n X.1 X.2.1 dX1_named_4 rfl (lv_at hl 1 rfl) ?_
    refine lv_sipush (v := 192) X.1 X.2.1 dX1_named_5 (by decide) ?_
    refine lv_icmp_ge (tgt := 20) X.1 X.2.1 dX1_named_8 rfl (fun hc9 => ?_) (fun hc9 => ?_)
    · have hw := hw.1 hc9
      exact cB_X1_named_20 X hr hlk hR hK hA σ H locs ls (lv_sub hl [0] rfl) hO hw
    · have hw := hw.2 hc9
      refine lv_aload_n X.1 X.2.1 dX1_named_11 rfl (lv_at hl 0 rfl) ?_
      refine cf_X1_classOfText X fX1_X1_classOfText hK hO dX1_named_12 ?_
      refine lv_iload_n X.1 X.2.1 dX1_named_15 rfl (lv_at hl 1 rfl) ?_
      obtain ⟨g16, hw⟩ := hw
      refine ca_7 X.1 X.2.1 hK hO g16 dX1_named_16 ?_
      refine lv_goto (tgt := 21) X.1 X.2.1 dX1_named_17 rfl ?_
      exact cB_X1_named_21 X hr hlk hR hK hA (σ.2.1 3 x1.toNatClampNeg) σ H locs ls (lv_sub hl [0] rfl) hO hw
def C_X1_named_w (b : Nat → Nat) (k : Nat → ClassId) (Q : Int32 → cS → Prop) (x1 : Int32) (σ : cS) : Prop := C_X1_named_b0 b k Q x1 σ
abbrev rmX1_named : Room := { frames := 0, cells := 0, slots := 0, locals := 0 }
set_option maxHeartbeats 4000000 in
set_option maxRecDepth 100000 in
theorem cC_X1_named (l : Launch) (dC : Nat → ClassId) (dI : Nat → Nat → Nat) (b : Nat → Nat) (k : Nat → ClassId) (σ : cS) (sz : Nat) (x1 : Int32) (Q : Int32 → cS → Prop) (hw : C_X1_named_w b k Q x1 σ) : Met l yX1_named wsX1_named rmX1_named (cPc dC dI b k sz σ [.ref (b 5), .int x1]) (va_Qi Q (cAt dC dI (va_A (cCells b k σ) sz) b k) (va_A (cCells b k σ) sz)) 0 0 (va_A (cCells b k σ) sz) := by
  refine Met.ofW (cc := cX1_named) (maxL := 2) (ret := (some .int)) (by decide) rfl ?_
  intro p e s m args below meth c s₁ B hml hv
  obtain ⟨hargs, hsz, hP, hK, hD0⟩ := hv
  have hts := atoms_spec (ws := wsX1_named) B.pre
  have hown : s.vm.findClass RX1 = some m.cls := findClass_of_methodNamed B.named
  subst hsz
  subst hargs
  have hD := hD0.self (sz := s.heap.size)
  generalize hAe : va_A (cCells b k σ) s.heap.size = A at hD ⊢
  have hA : ∀ q : Nat, s.heap.size ≤ q → A q := fun q h => by rw [← hAe]; exact Or.inr h
  have hl := lv_entry ([.ref (b 5), .int x1]) (n := 2) (Nat.le_of_ble_eq_true rfl)
  rw [lg_entry_eq]
  generalize (lg_sl ([.ref (b 5), .int x1]) ++ List.replicate (2 - (lg_sl ([.ref (b 5), .int x1])).length) Slot.unset).toArray = ls at hl ⊢
  have hl : lv_has ls 2 [(0, .ref (b 5)), (1, .int x1)] := hl
  unfold C_X1_named_w at hw
  exact cB_X1_named_0 ⟨B.exec, B.bytes, hml, hown, hts⟩ B.returns B.notSynchronized ⟨Nat.le_of_ble_eq_true rfl, Nat.le_of_ble_eq_true rfl⟩ hK hA x1 σ s.heap [] ls (lv_sub hl [0, 1] rfl) ⟨hP, hD, va_S.rf⟩ hw
def C_X1_superclass_b0 (b : Nat → Nat) (k : Nat → ClassId) (Q : Int32 → cS → Prop) (x1 : Int32) (σ : cS) : Prop :=
 vp_in x1 16 ∧ ∃ v7 : Int32, pI σ.2.2.2.2 (σ.2.2.1 x1.toNatClampNeg) 0 2 v7 ∧ C_X1_named_w b k (fun r10 t10 => Q r10 t10) v7 σ
set_option maxHeartbeats 4000000 in
set_option maxRecDepth 100000 in
theorem cB_X1_superclass_0 {Q : Int32 → cS → Prop} (X : CallFix p m c cX1_superclass 2 s args wsX1_superclass RX1) (hr : meth.sig.returnType = (some .int)) (hlk : meth.locks = false) (hR : 1 ≤ R.frames ∧ 21 ≤ R.locals) (hK : cK dC dI k s) (hA : ∀ q, s.heap.size ≤ q → A q) (x1 : Int32) (σ : cS) (H : Heap) (locs : List Loc) (ls : Array Slot) (hl : lv_has ls 2 [(0, .ref (b 5)), (1, .int x1)]) (hO : cO dC dI b k A s.heap σ H locs) (hw : C_X1_superclass_b0 b k Q x1 σ) : W p l e R s m args below meth c H locs 0 0 (MQ below (va_Qi Q (cAt dC dI A b k) A) args s 0 0 A) (F0 m 0 ls []) := by
  unfold C_X1_superclass_b0 at hw
  refine lv_aload_n X.1 X.2.1 dX1_superclass_0 rfl (lv_at hl 0 rfl) ?_
  refine lv_aload_n X.1 X.2.1 dX1_superclass_1 rfl (lv_at hl 0 rfl) ?_
  refine cf_X1_files X fX1_X1_files hK hO dX1_superclass_2 ?_
  refine lv_iload_n X.1 X.2.1 dX1_superclass_5 rfl (lv_at hl 1 rfl) ?_
  obtain ⟨g6, hw⟩ := hw
  refine ca_6 X.1 X.2.1 hK hO g6 dX1_superclass_6 ?_
  obtain ⟨v7, g7, hw⟩ := hw
  refine cg_X0_superName X fX1_X0_superName hK hO g7 dX1_superclass_7 ?_
  refine c_calli (rest := []) (As := [.int v7]) X (cC_X1_named l dC dI b k σ H.size v7 _ hw) (cwV 1 X.2.2.2.2 gX1_X1_named rfl rfl rfl hdX1_named ⟨Nat.le_trans (show 0 + 1 ≤ 1 by decide) hR.1, Nat.le_trans (show 8 + (2 + 11) + 0 ≤ 21 by decide) hR.2⟩) (cRecv_X1 hK hO) hK hA hO rfl hl.1 rfl (Nat.le_of_ble_eq_true rfl) dX1_superclass_10 (Nat.zero_le _) (Nat.zero_le _) (fun r10 t10 H locs hO hw => ?_)
  exact W.iret (v := r10) X.1 X.2.1 hr (fun t ht hW => ⟨⟨r10, t10, rfl, hw, cO_end hO hK ht hW⟩, hO.2.2.F ht⟩) hO.2.2.2.2 dX1_superclass_13 hlk
def C_X1_superclass_w (b : Nat → Nat) (k : Nat → ClassId) (Q : Int32 → cS → Prop) (x1 : Int32) (σ : cS) : Prop := C_X1_superclass_b0 b k Q x1 σ
abbrev rmX1_superclass : Room := { frames := 1, cells := 0, slots := 0, locals := 21 }
set_option maxHeartbeats 4000000 in
set_option maxRecDepth 100000 in
theorem cC_X1_superclass (l : Launch) (dC : Nat → ClassId) (dI : Nat → Nat → Nat) (b : Nat → Nat) (k : Nat → ClassId) (σ : cS) (sz : Nat) (x1 : Int32) (Q : Int32 → cS → Prop) (hw : C_X1_superclass_w b k Q x1 σ) : Met l yX1_superclass wsX1_superclass rmX1_superclass (cPc dC dI b k sz σ [.ref (b 5), .int x1]) (va_Qi Q (cAt dC dI (va_A (cCells b k σ) sz) b k) (va_A (cCells b k σ) sz)) 0 0 (va_A (cCells b k σ) sz) := by
  refine Met.ofW (cc := cX1_superclass) (maxL := 2) (ret := (some .int)) (by decide) rfl ?_
  intro p e s m args below meth c s₁ B hml hv
  obtain ⟨hargs, hsz, hP, hK, hD0⟩ := hv
  have hts := atoms_spec (ws := wsX1_superclass) B.pre
  have hown : s.vm.findClass RX1 = some m.cls := findClass_of_methodNamed B.named
  subst hsz
  subst hargs
  have hD := hD0.self (sz := s.heap.size)
  generalize hAe : va_A (cCells b k σ) s.heap.size = A at hD ⊢
  have hA : ∀ q : Nat, s.heap.size ≤ q → A q := fun q h => by rw [← hAe]; exact Or.inr h
  have hl := lv_entry ([.ref (b 5), .int x1]) (n := 2) (Nat.le_of_ble_eq_true rfl)
  rw [lg_entry_eq]
  generalize (lg_sl ([.ref (b 5), .int x1]) ++ List.replicate (2 - (lg_sl ([.ref (b 5), .int x1])).length) Slot.unset).toArray = ls at hl ⊢
  have hl : lv_has ls 2 [(0, .ref (b 5)), (1, .int x1)] := hl
  unfold C_X1_superclass_w at hw
  exact cB_X1_superclass_0 ⟨B.exec, B.bytes, hml, hown, hts⟩ B.returns B.notSynchronized ⟨Nat.le_of_ble_eq_true rfl, Nat.le_of_ble_eq_true rfl⟩ hK hA x1 σ s.heap [] ls (lv_sub hl [0, 1] rfl) ⟨hP, hD, va_S.rf⟩ hw
def C_X1_containerOf_b24 (b : Nat → Nat) (k : Nat → ClassId) (Q : Int32 → cS → Prop) (y0 : Int32) (σ : cS) : Prop :=
 Q y0 σ
set_option maxHeartbeats 4000000 in
set_option maxRecDepth 100000 in
theorem cB_X1_containerOf_24 {Q : Int32 → cS → Prop} (X : CallFix p m c cX1_containerOf 3 s args wsX1_containerOf RX1) (hr : meth.sig.returnType = (some .int)) (hlk : meth.locks = false) (hR : 1 ≤ R.frames ∧ 21 ≤ R.locals) (hK : cK dC dI k s) (hA : ∀ q, s.heap.size ≤ q → A q) (y0 : Int32) (σ : cS) (H : Heap) (locs : List Loc) (ls : Array Slot) (hl : lv_has ls 3 [(0, .ref (b 5))]) (hO : cO dC dI b k A s.heap σ H locs) (hw : C_X1_containerOf_b24 b k Q y0 σ) : W p l e R s m args below meth c H locs 0 0 (MQ below (va_Qi Q (cAt dC dI A b k) A) args s 0 0 A) (F0 m 24 ls [.int y0]) := by
  unfold C_X1_containerOf_b24 at hw
  exact W.iret (v := y0) X.1 X.2.1 hr (fun t ht hW => ⟨⟨y0, σ, rfl, hw, cO_end hO hK ht hW⟩, hO.2.2.F ht⟩) hO.2.2.2.2 dX1_containerOf_24 hlk
def C_X1_containerOf_b0 (b : Nat → Nat) (k : Nat → ClassId) (Q : Int32 → cS → Prop) (x1 : Int32) (σ : cS) : Prop :=
 C_X1_named_w b k (fun r2 t2 => (¬ r2 = (-1 : Int32) → vp_in r2 16 ∧ ∃ v21 : Int32, pI t2.2.2.2.2 (t2.2.2.1 r2.toNatClampNeg) 0 3 v21 ∧ C_X1_containerOf_b24 b k Q v21 t2) ∧ (r2 = (-1 : Int32) → C_X1_containerOf_b24 b k Q (-1 : Int32) t2)) x1 σ
set_option maxHeartbeats 4000000 in
set_option maxRecDepth 100000 in
theorem cB_X1_containerOf_0 {Q : Int32 → cS → Prop} (X : CallFix p m c cX1_containerOf 3 s args wsX1_containerOf RX1) (hr : meth.sig.returnType = (some .int)) (hlk : meth.locks = false) (hR : 1 ≤ R.frames ∧ 21 ≤ R.locals) (hK : cK dC dI k s) (hA : ∀ q, s.heap.size ≤ q → A q) (x1 : Int32) (σ : cS) (H : Heap) (locs : List Loc) (ls : Array Slot) (hl : lv_has ls 3 [(0, .ref (b 5)), (1, .int x1)]) (hO : cO dC dI b k A s.heap σ H locs) (hw : C_X1_containerOf_b0 b k Q x1 σ) : W p l e R s m args below meth c H locs 0 0 (MQ below (va_Qi Q (cAt dC dI A b k) A) args s 0 0 A) (F0 m 0 ls []) := by
  unfold C_X1_containerOf_b0 at hw
  refine lv_aload_n X.1 X.2.1 dX1_containerOf_0 rfl (lv_at hl 0 rfl) ?_
  refine lv_iload_n X.1 X.2.1 dX1_containerOf_1 rfl (lv_at hl 1 rfl) ?_
  refine c_calli (rest := []) (As := [.int x1]) X (cC_X1_named l dC dI b k σ H.size x1 _ hw) (cwV 1 X.2.2.2.2 gX1_X1_named rfl rfl rfl hdX1_named ⟨Nat.le_trans (show 0 + 1 ≤ 1 by decide) hR.1, Nat.le_trans (show 8 + (2 + 11) + 0 ≤ 21 by decide) hR.2⟩) (cRecv_X1 hK hO) hK hA hO rfl hl.1 rfl (Nat.le_of_ble_eq_true rfl) dX1_containerOf_2 (Nat.zero_le _) (Nat.zero_le _) (fun r2 t2 H locs hO hw => ?_)
  refine lv_istore_n (lv' := [(2, .int r2), (0, .ref (b 5)), (1, .int x1)]) X.1 X.2.1 dX1_containerOf_5 rfl hl (by decide) rfl (fun ls hl => ?_)
  refine lv_iload_n X.1 X.2.1 dX1_containerOf_6 rfl (lv_at hl 0 rfl) ?_
  refine lv_iconst (v := -1) X.1 X.2.1 dX1_containerOf_7 (by decide) ?_
  refine lv_icmp_ne (tgt := 15) X.1 X.2.1 dX1_containerOf_8 rfl (fun hc9 => ?_) (fun hc9 => ?_)
  · have hw := hw.1 hc9
    refine lv_aload_n X.1 X.2.1 dX1_containerOf_15 rfl (lv_at hl 1 rfl) ?_
    refine cf_X1_files X fX1_X1_files hK hO dX1_containerOf_16 ?_
    refine lv_iload_n X.1 X.2.1 dX1_containerOf_19 rfl (lv_at hl 0 rfl) ?_
    obtain ⟨g20, hw⟩ := hw
    refine ca_6 X.1 X.2.1 hK hO g20 dX1_containerOf_20 ?_
    obtain ⟨v21, g21, hw⟩ := hw
    refine cg_X0_container X fX1_X0_container hK hO g21 dX1_containerOf_21 ?_
    exact cB_X1_containerOf_24 X hr hlk hR hK hA v21 t2 H locs ls (lv_sub hl [1] rfl) hO hw
  · have hw := hw.2 hc9
    refine lv_iconst (v := -1) X.1 X.2.1 dX1_containerOf_11 (by decide) ?_
    refine lv_goto (tgt := 24) X.1 X.2.1 dX1_containerOf_12 rfl ?_
    exact cB_X1_containerOf_24 X hr hlk hR hK hA (-1 : Int32) t2 H locs ls (lv_sub hl [1] rfl) hO hw
def C_X1_containerOf_w (b : Nat → Nat) (k : Nat → ClassId) (Q : Int32 → cS → Prop) (x1 : Int32) (σ : cS) : Prop := C_X1_containerOf_b0 b k Q x1 σ
abbrev rmX1_containerOf : Room := { frames := 1, cells := 0, slots := 0, locals := 21 }
set_option maxHeartbeats 4000000 in
set_option maxRecDepth 100000 in
theorem cC_X1_containerOf (l : Launch) (dC : Nat → ClassId) (dI : Nat → Nat → Nat) (b : Nat → Nat) (k : Nat → ClassId) (σ : cS) (sz : Nat) (x1 : Int32) (Q : Int32 → cS → Prop) (hw : C_X1_containerOf_w b k Q x1 σ) : Met l yX1_containerOf wsX1_containerOf rmX1_containerOf (cPc dC dI b k sz σ [.ref (b 5), .int x1]) (va_Qi Q (cAt dC dI (va_A (cCells b k σ) sz) b k) (va_A (cCells b k σ) sz)) 0 0 (va_A (cCells b k σ) sz) := by
  refine Met.ofW (cc := cX1_containerOf) (maxL := 3) (ret := (some .int)) (by decide) rfl ?_
  intro p e s m args below meth c s₁ B hml hv
  obtain ⟨hargs, hsz, hP, hK, hD0⟩ := hv
  have hts := atoms_spec (ws := wsX1_containerOf) B.pre
  have hown : s.vm.findClass RX1 = some m.cls := findClass_of_methodNamed B.named
  subst hsz
  subst hargs
  have hD := hD0.self (sz := s.heap.size)
  generalize hAe : va_A (cCells b k σ) s.heap.size = A at hD ⊢
  have hA : ∀ q : Nat, s.heap.size ≤ q → A q := fun q h => by rw [← hAe]; exact Or.inr h
  have hl := lv_entry ([.ref (b 5), .int x1]) (n := 3) (Nat.le_of_ble_eq_true rfl)
  rw [lg_entry_eq]
  generalize (lg_sl ([.ref (b 5), .int x1]) ++ List.replicate (3 - (lg_sl ([.ref (b 5), .int x1])).length) Slot.unset).toArray = ls at hl ⊢
  have hl : lv_has ls 3 [(0, .ref (b 5)), (1, .int x1)] := hl
  unfold C_X1_containerOf_w at hw
  exact cB_X1_containerOf_0 ⟨B.exec, B.bytes, hml, hown, hts⟩ B.returns B.notSynchronized ⟨Nat.le_of_ble_eq_true rfl, Nat.le_of_ble_eq_true rfl⟩ hK hA x1 σ s.heap [] ls (lv_sub hl [0, 1] rfl) ⟨hP, hD, va_S.rf⟩ hw
def C_X1_chainSteps_b43 (b : Nat → Nat) (k : Nat → ClassId) (Q : Int32 → cS → Prop) (y0 : Int32) (σ : cS) : Prop :=
 Q y0 σ
set_option maxHeartbeats 4000000 in
set_option maxRecDepth 100000 in
theorem cB_X1_chainSteps_43 {Q : Int32 → cS → Prop} (X : CallFix p m c cX1_chainSteps 4 s args wsX1_chainSteps RX1) (hr : meth.sig.returnType = (some .int)) (hlk : meth.locks = false) (hR : 1 ≤ R.frames ∧ 21 ≤ R.locals) (hK : cK dC dI k s) (hA : ∀ q, s.heap.size ≤ q → A q) (y0 : Int32) (σ : cS) (H : Heap) (locs : List Loc) (ls : Array Slot) (hl : lv_has ls 4 [(0, .ref (b 5))]) (hO : cO dC dI b k A s.heap σ H locs) (hw : C_X1_chainSteps_b43 b k Q y0 σ) : W p l e R s m args below meth c H locs 0 0 (MQ below (va_Qi Q (cAt dC dI A b k) A) args s 0 0 A) (F0 m 43 ls [.int y0]) := by
  unfold C_X1_chainSteps_b43 at hw
  exact W.iret (v := y0) X.1 X.2.1 hr (fun t ht hW => ⟨⟨y0, σ, rfl, hw, cO_end hO hK ht hW⟩, hO.2.2.F ht⟩) hO.2.2.2.2 dX1_chainSteps_43 hlk
def C_X1_chainSteps_b30 (b : Nat → Nat) (k : Nat → ClassId) (Q : Int32 → cS → Prop) (y0 : Int32) (σ : cS) : Prop :=
 (y0 = 0 → C_X1_chainSteps_b43 b k Q (1 : Int32) σ) ∧ (¬ y0 = 0 → C_X1_chainSteps_b43 b k Q (σ.1 2) σ)
set_option maxHeartbeats 4000000 in
set_option maxRecDepth 100000 in
theorem cB_X1_chainSteps_30 {Q : Int32 → cS → Prop} (X : CallFix p m c cX1_chainSteps 4 s args wsX1_chainSteps RX1) (hr : meth.sig.returnType = (some .int)) (hlk : meth.locks = false) (hR : 1 ≤ R.frames ∧ 21 ≤ R.locals) (hK : cK dC dI k s) (hA : ∀ q, s.heap.size ≤ q → A q) (y0 : Int32) (σ : cS) (H : Heap) (locs : List Loc) (ls : Array Slot) (hl : lv_has ls 4 [(0, .ref (b 5))]) (hO : cO dC dI b k A s.heap σ H locs) (hw : C_X1_chainSteps_b30 b k Q y0 σ) : W p l e R s m args below meth c H locs 0 0 (MQ below (va_Qi Q (cAt dC dI A b k) A) args s 0 0 A) (F0 m 30 ls [.int y0]) := by
  unfold C_X1_chainSteps_b30 at hw
  refine lv_istore_n (lv' := [(3, .int y0), (0, .ref (b 5))]) X.1 X.2.1 dX1_chainSteps_30 rfl hl (by decide) rfl (fun ls hl => ?_)
  refine lv_iload_n X.1 X.2.1 dX1_chainSteps_31 rfl (lv_at hl 0 rfl) ?_
  refine lv_if_eq (tgt := 42) X.1 X.2.1 dX1_chainSteps_32 rfl (fun hc9 => ?_) (fun hc9 => ?_)
  · have hw := hw.1 hc9
    refine lv_iconst (v := 1) X.1 X.2.1 dX1_chainSteps_42 (by decide) ?_
    exact cB_X1_chainSteps_43 X hr hlk hR hK hA (1 : Int32) σ H locs ls (lv_sub hl [1] rfl) hO hw
  · have hw := hw.2 hc9
    refine lv_aload_n X.1 X.2.1 dX1_chainSteps_35 rfl (lv_at hl 1 rfl) ?_
    refine cf_X1_size X fX1_X1_size hK hO dX1_chainSteps_36 ?_
    refine lv_goto (tgt := 43) X.1 X.2.1 dX1_chainSteps_39 rfl ?_
    exact cB_X1_chainSteps_43 X hr hlk hR hK hA (σ.1 2) σ H locs ls (lv_sub hl [1] rfl) hO hw
def C_X1_chainSteps_b29 (b : Nat → Nat) (k : Nat → ClassId) (Q : Int32 → cS → Prop) (σ : cS) : Prop :=
 C_X1_chainSteps_b30 b k Q (0 : Int32) σ
set_option maxHeartbeats 4000000 in
set_option maxRecDepth 100000 in
theorem cB_X1_chainSteps_29 {Q : Int32 → cS → Prop} (X : CallFix p m c cX1_chainSteps 4 s args wsX1_chainSteps RX1) (hr : meth.sig.returnType = (some .int)) (hlk : meth.locks = false) (hR : 1 ≤ R.frames ∧ 21 ≤ R.locals) (hK : cK dC dI k s) (hA : ∀ q, s.heap.size ≤ q → A q) (σ : cS) (H : Heap) (locs : List Loc) (ls : Array Slot) (hl : lv_has ls 4 [(0, .ref (b 5))]) (hO : cO dC dI b k A s.heap σ H locs) (hw : C_X1_chainSteps_b29 b k Q σ) : W p l e R s m args below meth c H locs 0 0 (MQ below (va_Qi Q (cAt dC dI A b k) A) args s 0 0 A) (F0 m 29 ls []) := by
  unfold C_X1_chainSteps_b29 at hw
  refine lv_iconst (v := 0) X.1 X.2.1 dX1_chainSteps_29 (by decide) ?_
  exact cB_X1_chainSteps_30 X hr hlk hR hK hA (0 : Int32) σ H locs ls (lv_sub hl [0] rfl) hO hw
def C_X1_chainSteps_b0 (b : Nat → Nat) (k : Nat → ClassId) (Q : Int32 → cS → Prop) (x1 : Int32) (σ : cS) : Prop :=
 C_X1_named_w b k (fun r2 t2 => (r2 = (-1 : Int32) → C_X1_chainSteps_b29 b k Q t2) ∧ (¬ r2 = (-1 : Int32) → vp_in r2 16 ∧ ∃ v17 : Int32, pI t2.2.2.2.2 (t2.2.2.1 r2.toNatClampNeg) 0 1 v17 ∧ ((v17 &&& (2 : Int32)) = 0 → C_X1_chainSteps_b29 b k Q t2) ∧ (¬ (v17 &&& (2 : Int32)) = 0 → C_X1_chainSteps_b30 b k Q (1 : Int32) t2))) x1 σ
set_option maxHeartbeats 4000000 in
set_option maxRecDepth 100000 in
theorem cB_X1_chainSteps_0 {Q : Int32 → cS → Prop} (X : CallFix p m c cX1_chainSteps 4 s args wsX1_chainSteps RX1) (hr : meth.sig.returnType = (some .int)) (hlk : meth.locks = false) (hR : 1 ≤ R.frames ∧ 21 ≤ R.locals) (hK : cK dC dI k s) (hA : ∀ q, s.heap.size ≤ q → A q) (x1 : Int32) (σ : cS) (H : Heap) (locs : List Loc) (ls : Array Slot) (hl : lv_has ls 4 [(0, .ref (b 5)), (1, .int x1)]) (hO : cO dC dI b k A s.heap σ H locs) (hw : C_X1_chainSteps_b0 b k Q x1 σ) : W p l e R s m args below meth c H locs 0 0 (MQ below (va_Qi Q (cAt dC dI A b k) A) args s 0 0 A) (F0 m 0 ls []) := by
  unfold C_X1_chainSteps_b0 at hw
  refine lv_aload_n X.1 X.2.1 dX1_chainSteps_0 rfl (lv_at hl 0 rfl) ?_
  refine lv_iload_n X.1 X.2.1 dX1_chainSteps_1 rfl (lv_at hl 1 rfl) ?_
  refine c_calli (rest := []) (As := [.int x1]) X (cC_X1_named l dC dI b k σ H.size x1 _ hw) (cwV 1 X.2.2.2.2 gX1_X1_named rfl rfl rfl hdX1_named ⟨Nat.le_trans (show 0 + 1 ≤ 1 by decide) hR.1, Nat.le_trans (show 8 + (2 + 11) + 0 ≤ 21 by decide) hR.2⟩) (cRecv_X1 hK hO) hK hA hO rfl hl.1 rfl (Nat.le_of_ble_eq_true rfl) dX1_chainSteps_2 (Nat.zero_le _) (Nat.zero_le _) (fun r2 t2 H locs hO hw => ?_)
  refine lv_istore_n (lv' := [(2, .int r2), (0, .ref (b 5)), (1, .int x1)]) X.1 X.2.1 dX1_chainSteps_5 rfl hl (by decide) rfl (fun ls hl => ?_)
  refine lv_iload_n X.1 X.2.1 dX1_chainSteps_6 rfl (lv_at hl 0 rfl) ?_
  refine lv_iconst (v := -1) X.1 X.2.1 dX1_chainSteps_7 (by decide) ?_
  refine lv_icmp_eq (tgt := 29) X.1 X.2.1 dX1_chainSteps_8 rfl (fun hc9 => ?_) (fun hc9 => ?_)
  · have hw := hw.1 hc9
    exact cB_X1_chainSteps_29 X hr hlk hR hK hA t2 H locs ls (lv_sub hl [1] rfl) hO hw
  · have hw := hw.2 hc9
    refine lv_aload_n X.1 X.2.1 dX1_chainSteps_11 rfl (lv_at hl 1 rfl) ?_
    refine cf_X1_files X fX1_X1_files hK hO dX1_chainSteps_12 ?_
    refine lv_iload_n X.1 X.2.1 dX1_chainSteps_15 rfl (lv_at hl 0 rfl) ?_
    obtain ⟨g16, hw⟩ := hw
    refine ca_6 X.1 X.2.1 hK hO g16 dX1_chainSteps_16 ?_
    obtain ⟨v17, g17, hw⟩ := hw
    refine cg_X0_flags X fX1_X0_flags hK hO g17 dX1_chainSteps_17 ?_
    refine lv_iconst (v := 2) X.1 X.2.1 dX1_chainSteps_20 (by decide) ?_
    refine lv_iand X.1 X.2.1 dX1_chainSteps_21 ?_
    refine lv_if_eq (tgt := 29) X.1 X.2.1 dX1_chainSteps_22 rfl (fun hc9 => ?_) (fun hc9 => ?_)
    · have hw := hw.1 hc9
      exact cB_X1_chainSteps_29 X hr hlk hR hK hA t2 H locs ls (lv_sub hl [1] rfl) hO hw
    · have hw := hw.2 hc9
      refine lv_iconst (v := 1) X.1 X.2.1 dX1_chainSteps_25 (by decide) ?_
      refine lv_goto (tgt := 30) X.1 X.2.1 dX1_chainSteps_26 rfl ?_
      exact cB_X1_chainSteps_30 X hr hlk hR hK hA (1 : Int32) t2 H locs ls (lv_sub hl [1] rfl) hO hw
def C_X1_chainSteps_w (b : Nat → Nat) (k : Nat → ClassId) (Q : Int32 → cS → Prop) (x1 : Int32) (σ : cS) : Prop := C_X1_chainSteps_b0 b k Q x1 σ
abbrev rmX1_chainSteps : Room := { frames := 1, cells := 0, slots := 0, locals := 21 }
set_option maxHeartbeats 4000000 in
set_option maxRecDepth 100000 in
theorem cC_X1_chainSteps (l : Launch) (dC : Nat → ClassId) (dI : Nat → Nat → Nat) (b : Nat → Nat) (k : Nat → ClassId) (σ : cS) (sz : Nat) (x1 : Int32) (Q : Int32 → cS → Prop) (hw : C_X1_chainSteps_w b k Q x1 σ) : Met l yX1_chainSteps wsX1_chainSteps rmX1_chainSteps (cPc dC dI b k sz σ [.ref (b 5), .int x1]) (va_Qi Q (cAt dC dI (va_A (cCells b k σ) sz) b k) (va_A (cCells b k σ) sz)) 0 0 (va_A (cCells b k σ) sz) := by
  refine Met.ofW (cc := cX1_chainSteps) (maxL := 4) (ret := (some .int)) (by decide) rfl ?_
  intro p e s m args below meth c s₁ B hml hv
  obtain ⟨hargs, hsz, hP, hK, hD0⟩ := hv
  have hts := atoms_spec (ws := wsX1_chainSteps) B.pre
  have hown : s.vm.findClass RX1 = some m.cls := findClass_of_methodNamed B.named
  subst hsz
  subst hargs
  have hD := hD0.self (sz := s.heap.size)
  generalize hAe : va_A (cCells b k σ) s.heap.size = A at hD ⊢
  have hA : ∀ q : Nat, s.heap.size ≤ q → A q := fun q h => by rw [← hAe]; exact Or.inr h
  have hl := lv_entry ([.ref (b 5), .int x1]) (n := 4) (Nat.le_of_ble_eq_true rfl)
  rw [lg_entry_eq]
  generalize (lg_sl ([.ref (b 5), .int x1]) ++ List.replicate (4 - (lg_sl ([.ref (b 5), .int x1])).length) Slot.unset).toArray = ls at hl ⊢
  have hl : lv_has ls 4 [(0, .ref (b 5)), (1, .int x1)] := hl
  unfold C_X1_chainSteps_w at hw
  exact cB_X1_chainSteps_0 ⟨B.exec, B.bytes, hml, hown, hts⟩ B.returns B.notSynchronized ⟨Nat.le_of_ble_eq_true rfl, Nat.le_of_ble_eq_true rfl⟩ hK hA x1 σ s.heap [] ls (lv_sub hl [0, 1] rfl) ⟨hP, hD, va_S.rf⟩ hw
end
