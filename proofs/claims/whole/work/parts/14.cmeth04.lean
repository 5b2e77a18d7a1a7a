section
variable {p : Program} {l : Launch} {e : Env} {R : Room} {s : State} {m : MethodId} {args : Array Value} {below : List Frame} {meth : Method} {c : Code}
variable {dC : Nat → ClassId} {dI : Nat → Nat → Nat} {b : Nat → Nat} {k : Nat → ClassId} {A : Nat → Prop}
def C_X3_readConstants_b135 (b : Nat → Nat) (k : Nat → ClassId) (Q : cS → Prop) (σ : cS) : Prop :=
 Q σ
set_option maxHeartbeats 4000000 in
set_option maxRecDepth 100000 in
theorem cB_X3_readConstants_135 {Q : cS → Prop} (X : CallFix p m c cX3_readConstants 4 s args wsX3_readConstants RX3) (hr : meth.sig.returnType = none) (hlk : meth.locks = false) (hR : 3 ≤ R.frames ∧ 74 ≤ R.locals) (hK : cK dC dI k s) (hA : ∀ q, s.heap.size ≤ q → A q) (σ : cS) (H : Heap) (locs : List Loc) (ls : Array Slot) (hl : lv_has ls 4 [(0, .ref (b 10))]) (hO : cO dC dI b k A s.heap σ H locs) (hw : C_X3_readConstants_b135 b k Q σ) : W p l e R s m args below meth c H locs 0 0 (MQ below (va_Qv Q (cAt dC dI A b k) A) args s 0 0 A) (F0 m 135 ls []) := by
  unfold C_X3_readConstants_b135 at hw
  exact W.vret X.1 X.2.1 hr (fun t ht hW => ⟨⟨σ, rfl, hw, cO_end hO hK ht hW⟩, hO.2.2.F ht⟩) hO.2.2.2.2 dX3_readConstants_135 hlk
def C_X3_readConstants_b129 (b : Nat → Nat) (k : Nat → ClassId) (Q : cS → Prop) (K12 : Int32 → cS → Prop) (x1 : Int32) (σ : cS) : Prop :=
 ∀ v129 : Int32, v129 = x1 + (1 : Int32) → K12 v129 σ
set_option maxHeartbeats 4000000 in
set_option maxRecDepth 100000 in
theorem cB_X3_readConstants_129 {Q : cS → Prop} {K12 : Int32 → cS → Prop} (X : CallFix p m c cX3_readConstants 4 s args wsX3_readConstants RX3) (hr : meth.sig.returnType = none) (hlk : meth.locks = false) (hR : 3 ≤ R.frames ∧ 74 ≤ R.locals) (hK : cK dC dI k s) (hA : ∀ q, s.heap.size ≤ q → A q) (k12 : ∀ (x1 : Int32) (σ : cS) (H : Heap) (locs : List Loc) (ls : Array Slot), lv_has ls 4 [(0, .ref (b 10)), (1, .int x1)] → cO dC dI b k A s.heap σ H locs → K12 x1 σ → W p l e R s m args below meth c H locs 0 0 (MQ below (va_Qv Q (cAt dC dI A b k) A) args s 0 0 A) (F0 m 12 ls [])) (x1 : Int32) (σ : cS) (H : Heap) (locs : List Loc) (ls : Array Slot) (hl : lv_has ls 4 [(0, .ref (b 10)), (1, .int x1)]) (hO : cO dC dI b k A s.heap σ H locs) (hw : C_X3_readConstants_b129 b k Q K12 x1 σ) : W p l e R s m args below meth c H locs 0 0 (MQ below (va_Qv Q (cAt dC dI A b k) A) args s 0 0 A) (F0 m 129 ls []) := by
  unfold C_X3_readConstants_b129 at hw
  obtain ⟨v129, e129⟩ : ∃ z, z = x1 + (1 : Int32) := ⟨_, rfl⟩
  have hw := hw v129 e129
  refine lv_iinc (lv' := [(1, .int v129), (0, .ref (b 10))]) (k := 1) (v := v129) X.1 X.2.1 dX3_readConstants_129 hl rfl (by rw [e129]; rfl) (by decide) rfl (fun ls hl => ?_)
  refine lv_goto (tgt := 12) X.1 X.2.1 dX3_readConstants_132 rfl ?_
  exact k12 v129 σ H locs ls (lv_sub hl [1, 0] rfl) hO hw
def C_X3_readConstants_b12_s (b : Nat → Nat) (k : Nat → ClassId) (Q : cS → Prop) (K12 : Int32 → cS → Prop) (x1 : Int32) (σ : cS) : Prop :=
 ((σ.1 6) < x1 → C_X3_readConstants_b135 b k Q σ) ∧ (¬ (σ.1 6) < x1 → (¬ (σ.1 3) = 0 → C_X3_readConstants_b135 b k Q σ) ∧ ((σ.1 3) = 0 → ∀ v31 : Int32, v31 = (σ.1 5) → C_X3_next_w b k (fun r33 t33 => (¬ r33 = (1 : Int32) → (¬ r33 = (3 : Int32) → (¬ r33 = (7 : Int32) → C_X3_refuse_w b k (fun t126 => C_X3_readConstants_b129 b k Q K12 x1 t126) (3 : Int32) v31 t33) ∧ (r33 = (7 : Int32) → vp_in x1 13 ∧ ∀ t99 : cS, t99 = sA t33 6 x1 (3 : Int32) → vp_in x1 13 ∧ ∀ t109 : cS, t109 = sA t99 8 x1 (t99.1 5) → C_X3_next_w b k (fun r116 t116 => vp_in x1 13 ∧ ∀ t119 : cS, t119 = sA t116 7 x1 r116 → C_X3_readConstants_b129 b k Q K12 x1 t119) t109)) ∧ (r33 = (3 : Int32) → vp_in x1 13 ∧ ∀ t73 : cS, t73 = sA t33 6 x1 (1 : Int32) → C_X3_readInt_w b k (fun r80 t80 => vp_in x1 13 ∧ ∀ t83 : cS, t83 = sA t80 7 x1 r80 → C_X3_readConstants_b129 b k Q K12 x1 t83) t73)) ∧ (r33 = (1 : Int32) → vp_in x1 13 ∧ ∀ t48 : cS, t48 = sA t33 6 x1 (2 : Int32) → C_X3_readText_w b k (fun r55 t55 => vp_in x1 13 ∧ ∀ t58 : cS, t58 = sA t55 7 x1 r55 → C_X3_readConstants_b129 b k Q K12 x1 t58) t48)) σ))
def C_X3_readConstants_b12_f (b : Nat → Nat) (k : Nat → ClassId) (Q : cS → Prop) : (Int32 × cS → Prop) → Int32 × cS → Prop :=
 fun K z => C_X3_readConstants_b12_s b k Q (fun x1 σ => K (x1, σ)) z.1 z.2
def C_X3_readConstants_b12 (b : Nat → Nat) (k : Nat → ClassId) (Q : cS → Prop) (x1 : Int32) (σ : cS) : Prop := ∃ n, fx (C_X3_readConstants_b12_f b k Q ) n (x1, σ)
set_option maxHeartbeats 4000000 in
set_option maxRecDepth 100000 in
theorem cB_X3_readConstants_12 {Q : cS → Prop} (X : CallFix p m c cX3_readConstants 4 s args wsX3_readConstants RX3) (hr : meth.sig.returnType = none) (hlk : meth.locks = false) (hR : 3 ≤ R.frames ∧ 74 ≤ R.locals) (hK : cK dC dI k s) (hA : ∀ q, s.heap.size ≤ q → A q) : ∀ (n : Nat) (x1 : Int32) (σ : cS) (H : Heap) (locs : List Loc) (ls : Array Slot), lv_has ls 4 [(0, .ref (b 10)), (1, .int x1)] → cO dC dI b k A s.heap σ H locs → fx (C_X3_readConstants_b12_f b k Q ) n (x1, σ) → W p l e R s m args below meth c H locs 0 0 (MQ below (va_Qv Q (cAt dC dI A b k) A) args s 0 0 A) (F0 m 12 ls []) := by
  intro n
  induction n with
  | zero => intro x1 σ H locs ls hl hO hw; exact False.elim hw
  | succ n k12 =>
    intro x1 σ H locs ls hl hO hw
    have hw : C_X3_readConstants_b12_s b k Q (fun x1 σ => fx (C_X3_readConstants_b12_f b k Q ) n (x1, σ)) x1 σ := hw
    unfold C_X3_readConstants_b12_s at hw
    refine lv_iload_n X.1 X.2.1 dX3_readConstants_12 rfl (lv_at hl 1 rfl) ?_
    refine lv_aload_n X.1 X.2.1 dX3_readConstants_13 rfl (lv_at hl 0 rfl) ?_
    refine cf_X3_constants X fX3_X3_constants hK hO dX3_readConstants_14 ?_
    refine lv_icmp_gt (tgt := 135) X.1 X.2.1 dX3_readConstants_17 rfl (fun hc9 => ?_) (fun hc9 => ?_)
    · have hw := hw.1 hc9
      exact cB_X3_readConstants_135 X hr hlk hR hK hA σ H locs ls (lv_sub hl [0] rfl) hO hw
    · have hw := hw.2 hc9
      refine lv_aload_n X.1 X.2.1 dX3_readConstants_20 rfl (lv_at hl 0 rfl) ?_
      refine cf_X3_fault X fX3_X3_fault hK hO dX3_readConstants_21 ?_
      refine lv_if_ne (tgt := 135) X.1 X.2.1 dX3_readConstants_24 rfl (fun hc9 => ?_) (fun hc9 => ?_)
      · have hw := hw.1 hc9
        exact cB_X3_readConstants_135 X hr hlk hR hK hA σ H locs ls (lv_sub hl [0] rfl) hO hw
      · have hw := hw.2 hc9
        refine lv_aload_n X.1 X.2.1 dX3_readConstants_27 rfl (lv_at hl 0 rfl) ?_
        refine cf_X3_place X fX3_X3_place hK hO dX3_readConstants_28 ?_
        refine lv_topi (fun v31 e31 => ?_)
        have hw := hw v31 e31
        refine lv_istore_n (lv' := [(2, .int v31), (0, .ref (b 10)), (1, .int x1)]) X.1 X.2.1 dX3_readConstants_31 rfl hl (by decide) rfl (fun ls hl => ?_)
        refine lv_aload_n X.1 X.2.1 dX3_readConstants_32 rfl (lv_at hl 1 rfl) ?_
        refine c_calli (rest := []) (As := []) X (cC_X3_next l dC dI b k σ H.size _ hw) (cwV 0 X.2.2.2.2 gX3_X3_next rfl rfl rfl hdX3_next ⟨Nat.le_trans (show 0 + 1 ≤ 3 by decide) hR.1, Nat.le_trans (show 8 + (1 + 11) + 0 ≤ 74 by decide) hR.2⟩) (cRecv_X3 hK hO) hK hA hO rfl hl.1 rfl (Nat.le_of_ble_eq_true rfl) dX3_readConstants_33 (Nat.zero_le _) (Nat.zero_le _) (fun r33 t33 H locs hO hw => ?_)
        refine lv_istore_n (lv' := [(3, .int r33), (2, .int v31), (0, .ref (b 10)), (1, .int x1)]) X.1 X.2.1 dX3_readConstants_36 rfl hl (by decide) rfl (fun ls hl => ?_)
        refine lv_iload_n X.1 X.2.1 dX3_readConstants_37 rfl (lv_at hl 0 rfl) ?_
        refine lv_iconst (v := 1) X.1 X.2.1 dX3_readConstants_38 (by decide) ?_
        refine lv_icmp_ne (tgt := 62) X.1 X.2.1 dX3_readConstants_39 rfl (fun hc9 => ?_) (fun hc9 => ?_)
        · have hw := hw.1 hc9
          refine lv_iload_n X.1 X.2.1 dX3_readConstants_62 rfl (lv_at hl 0 rfl) ?_
          refine lv_iconst (v := 3) X.1 X.2.1 dX3_readConstants_63 (by decide) ?_
          refine lv_icmp_ne (tgt := 87) X.1 X.2.1 dX3_readConstants_64 rfl (fun hc9 => ?_) (fun hc9 => ?_)
          · have hw := hw.1 hc9
            refine lv_iload_n X.1 X.2.1 dX3_readConstants_87 rfl (lv_at hl 0 rfl) ?_
            refine lv_bipush (v := 7) X.1 X.2.1 dX3_readConstants_88 (by decide) ?_
            refine lv_icmp_ne (tgt := 123) X.1 X.2.1 dX3_readConstants_90 rfl (fun hc9 => ?_) (fun hc9 => ?_)
            · have hw := hw.1 hc9
              refine lv_aload_n X.1 X.2.1 dX3_readConstants_123 rfl (lv_at hl 2 rfl) ?_
              refine lv_iconst (v := 3) X.1 X.2.1 dX3_readConstants_124 (by decide) ?_
              refine lv_iload_n X.1 X.2.1 dX3_readConstants_125 rfl (lv_at hl 1 rfl) ?_
              refine c_callv (rest := []) (As := [.int (3 : Int32), .int v31]) X (cC_X3_refuse l dC dI b k t33 H.size (3 : Int32) v31 _ hw) (cwV 2 X.2.2.2.2 gX3_X3_refuse rfl rfl rfl hdX3_refuse ⟨Nat.le_trans (show 0 + 1 ≤ 3 by decide) hR.1, Nat.le_trans (show 8 + (3 + 11) + 0 ≤ 74 by decide) hR.2⟩) (cRecv_X3 hK hO) hK hA hO rfl hl.1 rfl (Nat.le_of_ble_eq_true rfl) dX3_readConstants_126 (Nat.zero_le _) (Nat.zero_le _) (fun t126 H locs hO hw => ?_)
              exact cB_X3_readConstants_129 X hr hlk hR hK hA k12 x1 t126 H locs ls (lv_sub hl [2, 3] rfl) hO hw
            · have hw := hw.2 hc9
              refine lv_aload_n X.1 X.2.1 dX3_readConstants_93 rfl (lv_at hl 2 rfl) ?_
              refine cf_X3_kinds X fX3_X3_kinds hK hO dX3_readConstants_94 ?_
              refine lv_iload_n X.1 X.2.1 dX3_readConstants_97 rfl (lv_at hl 3 rfl) ?_
              refine lv_iconst (v := 3) X.1 X.2.1 dX3_readConstants_98 (by decide) ?_
              obtain ⟨g99, hw⟩ := hw
              refine cs_11 X.1 X.2.1 hK hO g99 dX3_readConstants_99 (fun H locs hO => ?_)
              obtain ⟨t99, e99⟩ : ∃ z, z = sA t33 6 x1 (3 : Int32) := ⟨_, rfl⟩
              have hw := hw t99 e99
              rw [← e99] at hO
              refine lv_aload_n X.1 X.2.1 dX3_readConstants_100 rfl (lv_at hl 2 rfl) ?_
              refine cf_X3_places X fX3_X3_places hK hO dX3_readConstants_101 ?_
              refine lv_iload_n X.1 X.2.1 dX3_readConstants_104 rfl (lv_at hl 3 rfl) ?_
              refine lv_aload_n X.1 X.2.1 dX3_readConstants_105 rfl (lv_at hl 2 rfl) ?_
              refine cf_X3_place X fX3_X3_place hK hO dX3_readConstants_106 ?_
              obtain ⟨g109, hw⟩ := hw
              refine cs_13 X.1 X.2.1 hK hO g109 dX3_readConstants_109 (fun H locs hO => ?_)
              obtain ⟨t109, e109⟩ : ∃ z, z = sA t99 8 x1 (t99.1 5) := ⟨_, rfl⟩
              have hw := hw t109 e109
              rw [← e109] at hO
              refine lv_aload_n X.1 X.2.1 dX3_readConstants_110 rfl (lv_at hl 2 rfl) ?_
              refine cf_X3_numbers X fX3_X3_numbers hK hO dX3_readConstants_111 ?_
              refine lv_iload_n X.1 X.2.1 dX3_readConstants_114 rfl (lv_at hl 3 rfl) ?_
              refine lv_aload_n X.1 X.2.1 dX3_readConstants_115 rfl (lv_at hl 2 rfl) ?_
              refine c_calli (rest := [.int x1, .ref (b 12)]) (As := []) X (cC_X3_next l dC dI b k t109 H.size _ hw) (cwV 0 X.2.2.2.2 gX3_X3_next rfl rfl rfl hdX3_next ⟨Nat.le_trans (show 0 + 1 ≤ 3 by decide) hR.1, Nat.le_trans (show 8 + (1 + 11) + 0 ≤ 74 by decide) hR.2⟩) (cRecv_X3 hK hO) hK hA hO rfl hl.1 rfl (Nat.le_of_ble_eq_true rfl) dX3_readConstants_116 (Nat.zero_le _) (Nat.zero_le _) (fun r116 t116 H locs hO hw => ?_)
              obtain ⟨g119, hw⟩ := hw
              refine cs_12 X.1 X.2.1 hK hO g119 dX3_readConstants_119 (fun H locs hO => ?_)
              obtain ⟨t119, e119⟩ : ∃ z, z = sA t116 7 x1 r116 := ⟨_, rfl⟩
              have hw := hw t119 e119
              rw [← e119] at hO
              refine lv_goto (tgt := 129) X.1 X.2.1 dX3_readConstants_120 rfl ?_
              exact cB_X3_readConstants_129 X hr hlk hR hK hA k12 x1 t119 H locs ls (lv_sub hl [2, 3] rfl) hO hw
          · have hw := hw.2 hc9
            refine lv_aload_n X.1 X.2.1 dX3_readConstants_67 rfl (lv_at hl 2 rfl) ?_
            refine cf_X3_kinds X fX3_X3_kinds hK hO dX3_readConstants_68 ?_
            refine lv_iload_n X.1 X.2.1 dX3_readConstants_71 rfl (lv_at hl 3 rfl) ?_
            refine lv_iconst (v := 1) X.1 X.2.1 dX3_readConstants_72 (by decide) ?_
            obtain ⟨g73, hw⟩ := hw
            refine cs_11 X.1 X.2.1 hK hO g73 dX3_readConstants_73 (fun H locs hO => ?_)
            obtain ⟨t73, e73⟩ : ∃ z, z = sA t33 6 x1 (1 : Int32) := ⟨_, rfl⟩
            have hw := hw t73 e73
            rw [← e73] at hO
            refine lv_aload_n X.1 X.2.1 dX3_readConstants_74 rfl (lv_at hl 2 rfl) ?_
            refine cf_X3_numbers X fX3_X3_numbers hK hO dX3_readConstants_75 ?_
            refine lv_iload_n X.1 X.2.1 dX3_readConstants_78 rfl (lv_at hl 3 rfl) ?_
            refine lv_aload_n X.1 X.2.1 dX3_readConstants_79 rfl (lv_at hl 2 rfl) ?_
            refine c_calli (rest := [.int x1, .ref (b 12)]) (As := []) X (cC_X3_readInt l dC dI b k t73 H.size _ hw) (cwV 0 X.2.2.2.2 gX3_X3_readInt rfl rfl rfl hdX3_readInt ⟨Nat.le_trans (show 1 + 1 ≤ 3 by decide) hR.1, Nat.le_trans (show 8 + (3 + 11) + 20 ≤ 74 by decide) hR.2⟩) (cRecv_X3 hK hO) hK hA hO rfl hl.1 rfl (Nat.le_of_ble_eq_true rfl) dX3_readConstants_80 (Nat.zero_le _) (Nat.zero_le _) (fun r80 t80 H locs hO hw => ?_)
            obtain ⟨g83, hw⟩ := hw
            refine cs_12 X.1 X.2.1 hK hO g83 dX3_readConstants_83 (fun H locs hO => ?_)
            obtain ⟨t83, e83⟩ : ∃ z, z = sA t80 7 x1 r80 := ⟨_, rfl⟩
            have hw := hw t83 e83
            rw [← e83] at hO
            refine lv_goto (tgt := 129) X.1 X.2.1 dX3_readConstants_84 rfl ?_
            exact cB_X3_readConstants_129 X hr hlk hR hK hA k12 x1 t83 H locs ls (lv_sub hl [2, 3] rfl) hO hw
        · have hw := hw.2 hc9
          refine lv_aload_n X.1 X.2.1 dX3_readConstants_42 rfl (lv_at hl 2 rfl) ?_
          refine cf_X3_kinds X fX3_X3_kinds hK hO dX3_readConstants_43 ?_
          refine lv_iload_n X.1 X.2.1 dX3_readConstants_46 rfl (lv_at hl 3 rfl) ?_
          refine lv_iconst (v := 2) X.1 X.2.1 dX3_readConstants_47 (by decide) ?_
          obtain ⟨g48, hw⟩ := hw
          refine cs_11 X.1 X.2.1 hK hO g48 dX3_readConstants_48 (fun H locs hO => ?_)
          obtain ⟨t48, e48⟩ : ∃ z, z = sA t33 6 x1 (2 : Int32) := ⟨_, rfl⟩
          have hw := hw t48 e48
          rw [← e48] at hO
          refine lv_aload_n X.1 X.2.1 dX3_readConstants_49 rfl (lv_at hl 2 rfl) ?_
          refine cf_X3_numbers X fX3_X3_numbers hK hO dX3_readConstants_50 ?_
          refine lv_iload_n X.1 X.2.1 dX3_readConstants_53 rfl (lv_at hl 3 rfl) ?_
          refine lv_aload_n X.1 X.2.1 dX3_readConstants_54 rfl (lv_at hl 2 rfl) ?_
          refine c_calli (rest := [.int x1, .ref (b 12)]) (As := []) X (cC_X3_readText l dC dI b k t48 H.size _ hw) (cwV 0 X.2.2.2.2 gX3_X3_readText rfl rfl rfl hdX3_readText ⟨Nat.le_trans (show 2 + 1 ≤ 3 by decide) hR.1, Nat.le_trans (show 8 + (6 + 11) + 49 ≤ 74 by decide) hR.2⟩) (cRecv_X3 hK hO) hK hA hO rfl hl.1 rfl (Nat.le_of_ble_eq_true rfl) dX3_readConstants_55 (Nat.zero_le _) (Nat.zero_le _) (fun r55 t55 H locs hO hw => ?_)
          obtain ⟨g58, hw⟩ := hw
          refine cs_12 X.1 X.2.1 hK hO g58 dX3_readConstants_58 (fun H locs hO => ?_)
          obtain ⟨t58, e58⟩ : ∃ z, z = sA t55 7 x1 r55 := ⟨_, rfl⟩
          have hw := hw t58 e58
          rw [← e58] at hO
          refine lv_goto (tgt := 129) X.1 X.2.1 dX3_readConstants_59 rfl ?_
          exact cB_X3_readConstants_129 X hr hlk hR hK hA k12 x1 t58 H locs ls (lv_sub hl [2, 3] rfl) hO hw
def C_X3_readConstants_b0 (b : Nat → Nat) (k : Nat → ClassId) (Q : cS → Prop) (σ : cS) : Prop :=
 C_X3_readAtMost_w b k (fun r4 t4 => ∀ t7 : cS, t7 = sI t4 6 r4 → C_X3_readConstants_b12 b k Q (1 : Int32) t7) (12 : Int32) σ
set_option maxHeartbeats 4000000 in
set_option maxRecDepth 100000 in
theorem cB_X3_readConstants_0 {Q : cS → Prop} (X : CallFix p m c cX3_readConstants 4 s args wsX3_readConstants RX3) (hr : meth.sig.returnType = none) (hlk : meth.locks = false) (hR : 3 ≤ R.frames ∧ 74 ≤ R.locals) (hK : cK dC dI k s) (hA : ∀ q, s.heap.size ≤ q → A q) (σ : cS) (H : Heap) (locs : List Loc) (ls : Array Slot) (hl : lv_has ls 4 [(0, .ref (b 10))]) (hO : cO dC dI b k A s.heap σ H locs) (hw : C_X3_readConstants_b0 b k Q σ) : W p l e R s m args below meth c H locs 0 0 (MQ below (va_Qv Q (cAt dC dI A b k) A) args s 0 0 A) (F0 m 0 ls []) := by
  unfold C_X3_readConstants_b0 at hw
  refine lv_aload_n X.1 X.2.1 dX3_readConstants_0 rfl (lv_at hl 0 rfl) ?_
  refine lv_aload_n X.1 X.2.1 dX3_readConstants_1 rfl (lv_at hl 0 rfl) ?_
  refine lv_bipush (v := 12) X.1 X.2.1 dX3_readConstants_2 (by decide) ?_
  refine c_calli (rest := [.ref (b 10)]) (As := [.int (12 : Int32)]) X (cC_X3_readAtMost l dC dI b k σ H.size (12 : Int32) _ hw) (cwV 1 X.2.2.2.2 gX3_X3_readAtMost rfl rfl rfl hdX3_readAtMost ⟨Nat.le_trans (show 1 + 1 ≤ 3 by decide) hR.1, Nat.le_trans (show 8 + (4 + 11) + 22 ≤ 74 by decide) hR.2⟩) (cRecv_X3 hK hO) hK hA hO rfl hl.1 rfl (Nat.le_of_ble_eq_true rfl) dX3_readConstants_4 (Nat.zero_le _) (Nat.zero_le _) (fun r4 t4 H locs hO hw => ?_)
  refine cp_X3_constants X fX3_X3_constants hK hO dX3_readConstants_7 (fun H locs hO => ?_)
  obtain ⟨t7, e7⟩ : ∃ z, z = sI t4 6 r4 := ⟨_, rfl⟩
  have hw := hw t7 e7
  rw [← e7] at hO
  refine lv_iconst (v := 1) X.1 X.2.1 dX3_readConstants_10 (by decide) ?_
  refine lv_istore_n (lv' := [(1, .int (1 : Int32)), (0, .ref (b 10))]) X.1 X.2.1 dX3_readConstants_11 rfl hl (by decide) rfl (fun ls hl => ?_)
  obtain ⟨n, hw⟩ := hw
  exact cB_X3_readConstants_12 X hr hlk hR hK hA n (1 : Int32) t7 H locs ls (lv_sub hl [1, 0] rfl) hO hw
def C_X3_readConstants_w (b : Nat → Nat) (k : Nat → ClassId) (Q : cS → Prop) (σ : cS) : Prop := C_X3_readConstants_b0 b k Q σ
abbrev rmX3_readConstants : Room := { frames := 3, cells := 0, slots := 0, locals := 74 }
set_option maxHeartbeats 4000000 in
set_option maxRecDepth 100000 in
theorem cC_X3_readConstants (l : Launch) (dC : Nat → ClassId) (dI : Nat → Nat → Nat) (b : Nat → Nat) (k : Nat → ClassId) (σ : cS) (sz : Nat) (Q : cS → Prop) (hw : C_X3_readConstants_w b k Q σ) : Met l yX3_readConstants wsX3_readConstants rmX3_readConstants (cPc dC dI b k sz σ [.ref (b 10)]) (va_Qv Q (cAt dC dI (va_A (cCells b k σ) sz) b k) (va_A (cCells b k σ) sz)) 0 0 (va_A (cCells b k σ) sz) := by
  refine Met.ofW (cc := cX3_readConstants) (maxL := 4) (ret := none) (by decide) rfl ?_
  intro p e s m args below meth c s₁ B hml hv
  obtain ⟨hargs, hsz, hP, hK, hD0⟩ := hv
  have hts := atoms_spec (ws := wsX3_readConstants) B.pre
  have hown : s.vm.findClass RX3 = some m.cls := findClass_of_methodNamed B.named
  subst hsz
  subst hargs
  have hD := hD0.self (sz := s.heap.size)
  generalize hAe : va_A (cCells b k σ) s.heap.size = A at hD ⊢
  have hA : ∀ q : Nat, s.heap.size ≤ q → A q := fun q h => by rw [← hAe]; exact Or.inr h
  have hl := lv_entry ([.ref (b 10)]) (n := 4) (Nat.le_of_ble_eq_true rfl)
  rw [lg_entry_eq]
  generalize (lg_sl ([.ref (b 10)]) ++ List.replicate (4 - (lg_sl ([.ref (b 10)])).length) Slot.unset).toArray = ls at hl ⊢
  have hl : lv_has ls 4 [(0, .ref (b 10))] := hl
  unfold C_X3_readConstants_w at hw
  exact cB_X3_readConstants_0 ⟨B.exec, B.bytes, hml, hown, hts⟩ B.returns B.notSynchronized ⟨Nat.le_of_ble_eq_true rfl, Nat.le_of_ble_eq_true rfl⟩ hK hA σ s.heap [] ls (lv_sub hl [0] rfl) ⟨hP, hD, va_S.rf⟩ hw
def C_X3_isConstant_b28 (b : Nat → Nat) (k : Nat → ClassId) (Q : Int32 → cS → Prop) (y0 : Int32) (σ : cS) : Prop :=
 zb y0 ∧ Q y0 σ
set_option maxHeartbeats 4000000 in
set_option maxRecDepth 100000 in
theorem cB_X3_isConstant_28 {Q : Int32 → cS → Prop} (X : CallFix p m c cX3_isConstant 3 s args wsX3_isConstant RX3) (hr : meth.sig.returnType = (some .boolean)) (hlk : meth.locks = false) (hR : 0 ≤ R.frames ∧ 0 ≤ R.locals) (hK : cK dC dI k s) (hA : ∀ q, s.heap.size ≤ q → A q) (y0 : Int32) (σ : cS) (H : Heap) (locs : List Loc) (ls : Array Slot) (hl : lv_has ls 3 [(0, .ref (b 10))]) (hO : cO dC dI b k A s.heap σ H locs) (hw : C_X3_isConstant_b28 b k Q y0 σ) : W p l e R s m args below meth c H locs 0 0 (MQ below (va_Qi Q (cAt dC dI A b k) A) args s 0 0 A) (F0 m 28 ls [.int y0]) := by
  unfold C_X3_isConstant_b28 at hw
  obtain ⟨hz, hw⟩ := hw
  exact W.zret (v := y0) X.1 X.2.1 hr hz (fun t ht hW => ⟨⟨y0, σ, rfl, hw, cO_end hO hK ht hW⟩, hO.2.2.F ht⟩) hO.2.2.2.2 dX3_isConstant_28 hlk
def C_X3_isConstant_b27 (b : Nat → Nat) (k : Nat → ClassId) (Q : Int32 → cS → Prop) (σ : cS) : Prop :=
 C_X3_isConstant_b28 b k Q (0 : Int32) σ
set_option maxHeartbeats 4000000 in
set_option maxRecDepth 100000 in
theorem cB_X3_isConstant_27 {Q : Int32 → cS → Prop} (X : CallFix p m c cX3_isConstant 3 s args wsX3_isConstant RX3) (hr : meth.sig.returnType = (some .boolean)) (hlk : meth.locks = false) (hR : 0 ≤ R.frames ∧ 0 ≤ R.locals) (hK : cK dC dI k s) (hA : ∀ q, s.heap.size ≤ q → A q) (σ : cS) (H : Heap) (locs : List Loc) (ls : Array Slot) (hl : lv_has ls 3 [(0, .ref (b 10))]) (hO : cO dC dI b k A s.heap σ H locs) (hw : C_X3_isConstant_b27 b k Q σ) : W p l e R s m args below meth c H locs 0 0 (MQ below (va_Qi Q (cAt dC dI A b k) A) args s 0 0 A) (F0 m 27 ls []) := by
  unfold C_X3_isConstant_b27 at hw
  refine lv_iconst (v := 0) X.1 X.2.1 dX3_isConstant_27 (by decide) ?_
  exact cB_X3_isConstant_28 X hr hlk hR hK hA (0 : Int32) σ H locs ls (lv_sub hl [0] rfl) hO hw
def C_X3_isConstant_b0 (b : Nat → Nat) (k : Nat → ClassId) (Q : Int32 → cS → Prop) (x1 : Int32) (x2 : Int32) (σ : cS) : Prop :=
 (x1 < (1 : Int32) → C_X3_isConstant_b27 b k Q σ) ∧ (¬ x1 < (1 : Int32) → ((σ.1 6) < x1 → C_X3_isConstant_b27 b k Q σ) ∧ (¬ (σ.1 6) < x1 → vp_in x1 13 ∧ (¬ (σ.2.1 6 x1.toNatClampNeg) = x2 → C_X3_isConstant_b27 b k Q σ) ∧ ((σ.2.1 6 x1.toNatClampNeg) = x2 → C_X3_isConstant_b28 b k Q (1 : Int32) σ)))
set_option maxHeartbeats 4000000 in
set_option maxRecDepth 100000 in
theorem cB_X3_isConstant_0 {Q : Int32 → cS → Prop} (X : CallFix p m c cX3_isConstant 3 s args wsX3_isConstant RX3) (hr : meth.sig.returnType = (some .boolean)) (hlk : meth.locks = false) (hR : 0 ≤ R.frames ∧ 0 ≤ R.locals) (hK : cK dC dI k s) (hA : ∀ q, s.heap.size ≤ q → A q) (x1 : Int32) (x2 : Int32) (σ : cS) (H : Heap) (locs : List Loc) (ls : Array Slot) (hl : lv_has ls 3 [(0, .ref (b 10)), (1, .int x1), (2, .int x2)]) (hO : cO dC dI b k A s.heap σ H locs) (hw : C_X3_isConstant_b0 b k Q x1 x2 σ) : W p l e R s m args below meth c H locs 0 0 (MQ below (va_Qi Q (cAt dC dI A b k) A) args s 0 0 A) (F0 m 0 ls []) := by
  unfold C_X3_isConstant_b0 at hw
  refine lv_iload_n X.1 X.2.1 dX3_isConstant_0 rfl (lv_at hl 1 rfl) ?_
  refine lv_iconst (v := 1) X.1 X.2.1 dX3_isConstant_1 (by decide) ?_
  refine lv_icmp_lt (tgt := 27) X.1 X.2.1 dX3_isConstant_2 rfl (fun hc9 => ?_) (fun hc9 => ?_)
  · have hw := hw.1 hc9
    exact cB_X3_isConstant_27 X hr hlk hR hK hA σ H locs ls (lv_sub hl [0] rfl) hO hw
  · have hw := hw.2 hc9
    refine lv_iload_n X.1 X.2.1 dX3_isConstant_5 rfl (lv_at hl 1 rfl) ?_
    refine lv_aload_n X.1 X.2.1 dX3_isConstant_6 rfl (lv_at hl 0 rfl) ?_
    refine cf_X3_constants X fX3_X3_constants hK hO dX3_isConstant_7 ?_
    refine lv_icmp_gt (tgt := 27) X.1 X.2.1 dX3_isConstant_10 rfl (fun hc9 => ?_) (fun hc9 => ?_)
    · have hw := hw.1 hc9
      exact cB_X3_isConstant_27 X hr hlk hR hK hA σ H locs ls (lv_sub hl [0] rfl) hO hw
    · have hw := hw.2 hc9
      refine lv_aload_n X.1 X.2.1 dX3_isConstant_13 rfl (lv_at hl 0 rfl) ?_
      refine cf_X3_kinds X fX3_X3_kinds hK hO dX3_isConstant_14 ?_
      refine lv_iload_n X.1 X.2.1 dX3_isConstant_17 rfl (lv_at hl 1 rfl) ?_
      obtain ⟨g18, hw⟩ := hw
      refine ca_11 X.1 X.2.1 hK hO g18 dX3_isConstant_18 ?_
      refine lv_iload_n X.1 X.2.1 dX3_isConstant_19 rfl (lv_at hl 2 rfl) ?_
      refine lv_icmp_ne (tgt := 27) X.1 X.2.1 dX3_isConstant_20 rfl (fun hc9 => ?_) (fun hc9 => ?_)
      · have hw := hw.1 hc9
        exact cB_X3_isConstant_27 X hr hlk hR hK hA σ H locs ls (lv_sub hl [0] rfl) hO hw
      · have hw := hw.2 hc9
        refine lv_iconst (v := 1) X.1 X.2.1 dX3_isConstant_23 (by decide) ?_
        refine lv_goto (tgt := 28) X.1 X.2.1 dX3_isConstant_24 rfl ?_
        exact cB_X3_isConstant_28 X hr hlk hR hK hA (1 : Int32) σ H locs ls (lv_sub hl [0] rfl) hO hw
def C_X3_isConstant_w (b : Nat → Nat) (k : Nat → ClassId) (Q : Int32 → cS → Prop) (x1 : Int32) (x2 : Int32) (σ : cS) : Prop := C_X3_isConstant_b0 b k Q x1 x2 σ
abbrev rmX3_isConstant : Room := { frames := 0, cells := 0, slots := 0, locals := 0 }
set_option maxHeartbeats 4000000 in
set_option maxRecDepth 100000 in
theorem cC_X3_isConstant (l : Launch) (dC : Nat → ClassId) (dI : Nat → Nat → Nat) (b : Nat → Nat) (k : Nat → ClassId) (σ : cS) (sz : Nat) (x1 : Int32) (x2 : Int32) (Q : Int32 → cS → Prop) (hw : C_X3_isConstant_w b k Q x1 x2 σ) : Met l yX3_isConstant wsX3_isConstant rmX3_isConstant (cPc dC dI b k sz σ [.ref (b 10), .int x1, .int x2]) (va_Qi Q (cAt dC dI (va_A (cCells b k σ) sz) b k) (va_A (cCells b k σ) sz)) 0 0 (va_A (cCells b k σ) sz) := by
  refine Met.ofW (cc := cX3_isConstant) (maxL := 3) (ret := (some .boolean)) (by decide) rfl ?_
  intro p e s m args below meth c s₁ B hml hv
  obtain ⟨hargs, hsz, hP, hK, hD0⟩ := hv
  have hts := atoms_spec (ws := wsX3_isConstant) B.pre
  have hown : s.vm.findClass RX3 = some m.cls := findClass_of_methodNamed B.named
  subst hsz
  subst hargs
  have hD := hD0.self (sz := s.heap.size)
  generalize hAe : va_A (cCells b k σ) s.heap.size = A at hD ⊢
  have hA : ∀ q : Nat, s.heap.size ≤ q → A q := fun q h => by rw [← hAe]; exact Or.inr h
  have hl := lv_entry ([.ref (b 10), .int x1, .int x2]) (n := 3) (Nat.le_of_ble_eq_true rfl)
  rw [lg_entry_eq]
  generalize (lg_sl ([.ref (b 10), .int x1, .int x2]) ++ List.replicate (3 - (lg_sl ([.ref (b 10), .int x1, .int x2])).length) Slot.unset).toArray = ls at hl ⊢
  have hl : lv_has ls 3 [(0, .ref (b 10)), (1, .int x1), (2, .int x2)] := hl
  unfold C_X3_isConstant_w at hw
  exact cB_X3_isConstant_0 ⟨B.exec, B.bytes, hml, hown, hts⟩ B.returns B.notSynchronized ⟨Nat.le_of_ble_eq_true rfl, Nat.le_of_ble_eq_true rfl⟩ hK hA x1 x2 σ s.heap [] ls (lv_sub hl [0, 1, 2] rfl) ⟨hP, hD, va_S.rf⟩ hw
def C_X4_has_b17 (b : Nat → Nat) (k : Nat → ClassId) (Q : Int32 → cS → Prop) (y0 : Int32) (σ : cS) : Prop :=
 zb y0 ∧ Q y0 σ
set_option maxHeartbeats 4000000 in
set_option maxRecDepth 100000 in
theorem cB_X4_has_17 {Q : Int32 → cS → Prop} (X : CallFix p m c cX4_has 2 s args wsX4_has RX4) (hr : meth.sig.returnType = (some .boolean)) (hlk : meth.locks = false) (hR : 0 ≤ R.frames ∧ 0 ≤ R.locals) (hK : cK dC dI k s) (hA : ∀ q, s.heap.size ≤ q → A q) (y0 : Int32) (σ : cS) (H : Heap) (locs : List Loc) (ls : Array Slot) (hl : lv_has ls 2 [(0, .ref (b 2))]) (hO : cO dC dI b k A s.heap σ H locs) (hw : C_X4_has_b17 b k Q y0 σ) : W p l e R s m args below meth c H locs 0 0 (MQ below (va_Qi Q (cAt dC dI A b k) A) args s 0 0 A) (F0 m 17 ls [.int y0]) := by
  unfold C_X4_has_b17 at hw
  obtain ⟨hz, hw⟩ := hw
  exact W.zret (v := y0) X.1 X.2.1 hr hz (fun t ht hW => ⟨⟨y0, σ, rfl, hw, cO_end hO hK ht hW⟩, hO.2.2.F ht⟩) hO.2.2.2.2 dX4_has_17 hlk
def C_X4_has_b16 (b : Nat → Nat) (k : Nat → ClassId) (Q : Int32 → cS → Prop) (σ : cS) : Prop :=
 C_X4_has_b17 b k Q (0 : Int32) σ
set_option maxHeartbeats 4000000 in
set_option maxRecDepth 100000 in
theorem cB_X4_has_16 {Q : Int32 → cS → Prop} (X : CallFix p m c cX4_has 2 s args wsX4_has RX4) (hr : meth.sig.returnType = (some .boolean)) (hlk : meth.locks = false) (hR : 0 ≤ R.frames ∧ 0 ≤ R.locals) (hK : cK dC dI k s) (hA : ∀ q, s.heap.size ≤ q → A q) (σ : cS) (H : Heap) (locs : List Loc) (ls : Array Slot) (hl : lv_has ls 2 [(0, .ref (b 2))]) (hO : cO dC dI b k A s.heap σ H locs) (hw : C_X4_has_b16 b k Q σ) : W p l e R s m args below meth c H locs 0 0 (MQ below (va_Qi Q (cAt dC dI A b k) A) args s 0 0 A) (F0 m 16 ls []) := by
  unfold C_X4_has_b16 at hw
  refine lv_iconst (v := 0) X.1 X.2.1 dX4_has_16 (by decide) ?_
  exact cB_X4_has_17 X hr hlk hR hK hA (0 : Int32) σ H locs ls (lv_sub hl [0] rfl) hO hw
def C_X4_has_b0 (b : Nat → Nat) (k : Nat → ClassId) (Q : Int32 → cS → Prop) (x1 : Int32) (σ : cS) : Prop :=
 (x1 < 0 → C_X4_has_b16 b k Q σ) ∧ (¬ x1 < 0 → ((σ.1 1) ≤ x1 → C_X4_has_b16 b k Q σ) ∧ (¬ (σ.1 1) ≤ x1 → C_X4_has_b17 b k Q (1 : Int32) σ))
set_option maxHeartbeats 4000000 in
set_option maxRecDepth 100000 in
theorem cB_X4_has_0 {Q : Int32 → cS → Prop} (X : CallFix p m c cX4_has 2 s args wsX4_has RX4) (hr : meth.sig.returnType = (some .boolean)) (hlk : meth.locks = false) (hR : 0 ≤ R.frames ∧ 0 ≤ R.locals) (hK : cK dC dI k s) (hA : ∀ q, s.heap.size ≤ q → A q) (x1 : Int32) (σ : cS) (H : Heap) (locs : List Loc) (ls : Array Slot) (hl : lv_has ls 2 [(0, .ref (b 2)), (1, .int x1)]) (hO : cO dC dI b k A s.heap σ H locs) (hw : C_X4_has_b0 b k Q x1 σ) : W p l e R s m args below meth c H locs 0 0 (MQ below (va_Qi Q (cAt dC dI A b k) A) args s 0 0 A) (F0 m 0 ls []) := by
  unfold C_X4_has_b0 at hw
  refine lv_iload_n X.1 X.2.1 dX4_has_0 rfl (lv_at hl 1 rfl) ?_
  refine lv_if_lt (tgt := 16) X.1 X.2.1 dX4_has_1 rfl (fun hc9 => ?_) (fun hc9 => ?_)
  · have hw := hw.1 hc9
    exact cB_X4_has_16 X hr hlk hR hK hA σ H locs ls (lv_sub hl [0] rfl) hO hw
  · have hw := hw.2 hc9
    refine lv_iload_n X.1 X.2.1 dX4_has_4 rfl (lv_at hl 1 rfl) ?_
    refine lv_aload_n X.1 X.2.1 dX4_has_5 rfl (lv_at hl 0 rfl) ?_
    refine cf_X4_size X fX4_X4_size hK hO dX4_has_6 ?_
    refine lv_icmp_ge (tgt := 16) X.1 X.2.1 dX4_has_9 rfl (fun hc9 => ?_) (fun hc9 => ?_)
    · have hw := hw.1 hc9
      exact cB_X4_has_16 X hr hlk hR hK hA σ H locs ls (lv_sub hl [0] rfl) hO hw
    · have hw := hw.2 hc9
      refine lv_iconst (v := 1) X.1 X.2.1 dX4_has_12 (by decide) ?_
      refine lv_goto (tgt := 17) X.1 X.2.1 dX4_has_13 rfl ?_
      exact cB_X4_has_17 X hr hlk hR hK hA (1 : Int32) σ H locs ls (lv_sub hl [0] rfl) hO hw
def C_X4_has_w (b : Nat → Nat) (k : Nat → ClassId) (Q : Int32 → cS → Prop) (x1 : Int32) (σ : cS) : Prop := C_X4_has_b0 b k Q x1 σ
abbrev rmX4_has : Room := { frames := 0, cells := 0, slots := 0, locals := 0 }
set_option maxHeartbeats 4000000 in
set_option maxRecDepth 100000 in
theorem cC_X4_has (l : Launch) (dC : Nat → ClassId) (dI : Nat → Nat → Nat) (b : Nat → Nat) (k : Nat → ClassId) (σ : cS) (sz : Nat) (x1 : Int32) (Q : Int32 → cS → Prop) (hw : C_X4_has_w b k Q x1 σ) : Met l yX4_has wsX4_has rmX4_has (cPc dC dI b k sz σ [.ref (b 2), .int x1]) (va_Qi Q (cAt dC dI (va_A (cCells b k σ) sz) b k) (va_A (cCells b k σ) sz)) 0 0 (va_A (cCells b k σ) sz) := by
  refine Met.ofW (cc := cX4_has) (maxL := 2) (ret := (some .boolean)) (by decide) rfl ?_
  intro p e s m args below meth c s₁ B hml hv
  obtain ⟨hargs, hsz, hP, hK, hD0⟩ := hv
  have hts := atoms_spec (ws := wsX4_has) B.pre
  have hown : s.vm.findClass RX4 = some m.cls := findClass_of_methodNamed B.named
  subst hsz
  subst hargs
  have hD := hD0.self (sz := s.heap.size)
  generalize hAe : va_A (cCells b k σ) s.heap.size = A at hD ⊢
  have hA : ∀ q : Nat, s.heap.size ≤ q → A q := fun q h => by rw [← hAe]; exact Or.inr h
  have hl := lv_entry ([.ref (b 2), .int x1]) (n := 2) (Nat.le_of_ble_eq_true rfl)
  rw [lg_entry_eq]
  generalize (lg_sl ([.ref (b 2), .int x1]) ++ List.replicate (2 - (lg_sl ([.ref (b 2), .int x1])).length) Slot.unset).toArray = ls at hl ⊢
  have hl : lv_has ls 2 [(0, .ref (b 2)), (1, .int x1)] := hl
  unfold C_X4_has_w at hw
  exact cB_X4_has_0 ⟨B.exec, B.bytes, hml, hown, hts⟩ B.returns B.notSynchronized ⟨Nat.le_of_ble_eq_true rfl, Nat.le_of_ble_eq_true rfl⟩ hK hA x1 σ s.heap [] ls (lv_sub hl [0, 1] rfl) ⟨hP, hD, va_S.rf⟩ hw
def C_X4_lengthOf_b18 (b : Nat → Nat) (k : Nat → ClassId) (Q : Int32 → cS → Prop) (y0 : Int32) (σ : cS) : Prop :=
 Q y0 σ
set_option maxHeartbeats 4000000 in
set_option maxRecDepth 100000 in
theorem cB_X4_lengthOf_18 {Q : Int32 → cS → Prop} (X : CallFix p m c cX4_lengthOf 2 s args wsX4_lengthOf RX4) (hr : meth.sig.returnType = (some .int)) (hlk : meth.locks = false) (hR : 1 ≤ R.frames ∧ 21 ≤ R.locals) (hK : cK dC dI k s) (hA : ∀ q, s.heap.size ≤ q → A q) (y0 : Int32) (σ : cS) (H : Heap) (locs : List Loc) (ls : Array Slot) (hl : lv_has ls 2 [(0, .ref (b 2))]) (hO : cO dC dI b k A s.heap σ H locs) (hw : C_X4_lengthOf_b18 b k Q y0 σ) : W p l e R s m args below meth c H locs 0 0 (MQ below (va_Qi Q (cAt dC dI A b k) A) args s 0 0 A) (F0 m 18 ls [.int y0]) := by
  unfold C_X4_lengthOf_b18 at hw
  exact W.iret (v := y0) X.1 X.2.1 hr (fun t ht hW => ⟨⟨y0, σ, rfl, hw, cO_end hO hK ht hW⟩, hO.2.2.F ht⟩) hO.2.2.2.2 dX4_lengthOf_18 hlk
def C_X4_lengthOf_b0 (b : Nat → Nat) (k : Nat → ClassId) (Q : Int32 → cS → Prop) (x1 : Int32) (σ : cS) : Prop :=
 C_X4_has_w b k (fun r2 t2 => (r2 = 0 → C_X4_lengthOf_b18 b k Q (0 : Int32) t2) ∧ (¬ r2 = 0 → vp_in x1 192 ∧ C_X4_lengthOf_b18 b k Q (t2.2.1 2 x1.toNatClampNeg) t2)) x1 σ
set_option maxHeartbeats 4000000 in
set_option maxRecDepth 100000 in
theorem cB_X4_lengthOf_0 {Q : Int32 → cS → Prop} (X : CallFix p m c cX4_lengthOf 2 s args wsX4_lengthOf RX4) (hr : meth.sig.returnType = (some .int)) (hlk : meth.locks = false) (hR : 1 ≤ R.frames ∧ 21 ≤ R.locals) (hK : cK dC dI k s) (hA : ∀ q, s.heap.size ≤ q → A q) (x1 : Int32) (σ : cS) (H : Heap) (locs : List Loc) (ls : Array Slot) (hl : lv_has ls 2 [(0, .ref (b 2)), (1, .int x1)]) (hO : cO dC dI b k A s.heap σ H locs) (hw : C_X4_lengthOf_b0 b k Q x1 σ) : W p l e R s m args below meth c H locs 0 0 (MQ below (va_Qi Q (cAt dC dI A b k) A) args s 0 0 A) (F0 m 0 ls []) := by
  unfold C_X4_lengthOf_b0 at hw
  refine lv_aload_n X.1 X.2.1 dX4_lengthOf_0 rfl (lv_at hl 0 rfl) ?_
  refine lv_iload_n X.1 X.2.1 dX4_lengthOf_1 rfl (lv_at hl 1 rfl) ?_
  refine c_calli (rest := []) (As := [.int x1]) X (cC_X4_has l dC dI b k σ H.size x1 _ hw) (cwV 1 X.2.2.2.2 gX4_X4_has rfl rfl rfl hdX4_has ⟨Nat.le_trans (show 0 + 1 ≤ 1 by decide) hR.1, Nat.le_trans (show 8 + (2 + 11) + 0 ≤ 21 by decide) hR.2⟩) (cRecv_X4 hK hO) hK hA hO rfl hl.1 rfl (Nat.le_of_ble_eq_true rfl) dX4_lengthOf_2 (Nat.zero_le _) (Nat.zero_le _) (fun r2 t2 H locs hO hw => ?_)
  refine lv_if_eq (tgt := 17) X.1 X.2.1 dX4_lengthOf_5 rfl (fun hc9 => ?_) (fun hc9 => ?_)
  · have hw := hw.1 hc9
    refine lv_iconst (v := 0) X.1 X.2.1 dX4_lengthOf_17 (by decide) ?_
    exact cB_X4_lengthOf_18 X hr hlk hR hK hA (0 : Int32) t2 H locs ls (lv_sub hl [0] rfl) hO hw
  · have hw := hw.2 hc9
    refine lv_aload_n X.1 X.2.1 dX4_lengthOf_8 rfl (lv_at hl 0 rfl) ?_
    refine cf_X4_lengths X fX4_X4_lengths hK hO dX4_lengthOf_9 ?_
    refine lv_iload_n X.1 X.2.1 dX4_lengthOf_12 rfl (lv_at hl 1 rfl) ?_
    obtain ⟨g13, hw⟩ := hw
    refine ca_4 X.1 X.2.1 hK hO g13 dX4_lengthOf_13 ?_
    refine lv_goto (tgt := 18) X.1 X.2.1 dX4_lengthOf_14 rfl ?_
    exact cB_X4_lengthOf_18 X hr hlk hR hK hA (t2.2.1 2 x1.toNatClampNeg) t2 H locs ls (lv_sub hl [0] rfl) hO hw
def C_X4_lengthOf_w (b : Nat → Nat) (k : Nat → ClassId) (Q : Int32 → cS → Prop) (x1 : Int32) (σ : cS) : Prop := C_X4_lengthOf_b0 b k Q x1 σ
abbrev rmX4_lengthOf : Room := { frames := 1, cells := 0, slots := 0, locals := 21 }
set_option maxHeartbeats 4000000 in
set_option maxRecDepth 100000 in
theorem cC_X4_lengthOf (l : Launch) (dC : Nat → ClassId) (dI : Nat → Nat → Nat) (b : Nat → Nat) (k : Nat → ClassId) (σ : cS) (sz : Nat) (x1 : Int32) (Q : Int32 → cS → Prop) (hw : C_X4_lengthOf_w b k Q x1 σ) : Met l yX4_lengthOf wsX4_lengthOf rmX4_lengthOf (cPc dC dI b k sz σ [.ref (b 2), .int x1]) (va_Qi Q (cAt dC dI (va_A (cCells b k σ) sz) b k) (va_A (cCells b k σ) sz)) 0 0 (va_A (cCells b k σ) sz) := by
  refine Met.ofW (cc := cX4_lengthOf) (maxL := 2) (ret := (some .int)) (by decide) rfl ?_
  intro p e s m args below meth c s₁ B hml hv
  obtain ⟨hargs, hsz, hP, hK, hD0⟩ := hv
  have hts := atoms_spec (ws := wsX4_lengthOf) B.pre
  have hown : s.vm.findClass RX4 = some m.cls := findClass_of_methodNamed B.named
  subst hsz
  subst hargs
  have hD := hD0.self (sz := s.heap.size)
  generalize hAe : va_A (cCells b k σ) s.heap.size = A at hD ⊢
  have hA : ∀ q : Nat, s.heap.size ≤ q → A q := fun q h => by rw [← hAe]; exact Or.inr h
  have hl := lv_entry ([.ref (b 2), .int x1]) (n := 2) (Nat.le_of_ble_eq_true rfl)
  rw [lg_entry_eq]
  generalize (lg_sl ([.ref (b 2), .int x1]) ++ List.replicate (2 - (lg_sl ([.ref (b 2), .int x1])).length) Slot.unset).toArray = ls at hl ⊢
  have hl : lv_has ls 2 [(0, .ref (b 2)), (1, .int x1)] := hl
  unfold C_X4_lengthOf_w at hw
  exact cB_X4_lengthOf_0 ⟨B.exec, B.bytes, hml, hown, hts⟩ B.returns B.notSynchronized ⟨Nat.le_of_ble_eq_true rfl, Nat.le_of_ble_eq_true rfl⟩ hK hA x1 σ s.heap [] ls (lv_sub hl [0, 1] rfl) ⟨hP, hD, va_S.rf⟩ hw
def C_X3_nameClassConstants_b92 (b : Nat → Nat) (k : Nat → ClassId) (Q : cS → Prop) (σ : cS) : Prop :=
 Q σ
set_option maxHeartbeats 4000000 in
set_option maxRecDepth 100000 in
theorem cB_X3_nameClassConstants_92 {Q : cS → Prop} (X : CallFix p m c cX3_nameClassConstants 3 s args wsX3_nameClassConstants RX3) (hr : meth.sig.returnType = none) (hlk : meth.locks = false) (hR : 2 ≤ R.frames ∧ 42 ≤ R.locals) (hK : cK dC dI k s) (hA : ∀ q, s.heap.size ≤ q → A q) (σ : cS) (H : Heap) (locs : List Loc) (ls : Array Slot) (hl : lv_has ls 3 [(0, .ref (b 10))]) (hO : cO dC dI b k A s.heap σ H locs) (hw : C_X3_nameClassConstants_b92 b k Q σ) : W p l e R s m args below meth c H locs 0 0 (MQ below (va_Qv Q (cAt dC dI A b k) A) args s 0 0 A) (F0 m 92 ls []) := by
  unfold C_X3_nameClassConstants_b92 at hw
  exact W.vret X.1 X.2.1 hr (fun t ht hW => ⟨⟨σ, rfl, hw, cO_end hO hK ht hW⟩, hO.2.2.F ht⟩) hO.2.2.2.2 dX3_nameClassConstants_92 hlk
def C_X3_nameClassConstants_b86 (b : Nat → Nat) (k : Nat → ClassId) (Q : cS → Prop) (K2 : Int32 → cS → Prop) (x1 : Int32) (σ : cS) : Prop :=
 ∀ v86 : Int32, v86 = x1 + (1 : Int32) → K2 v86 σ
set_option maxHeartbeats 4000000 in
set_option maxRecDepth 100000 in
theorem cB_X3_nameClassConstants_86 {Q : cS → Prop} {K2 : Int32 → cS → Prop} (X : CallFix p m c cX3_nameClassConstants 3 s args wsX3_nameClassConstants RX3) (hr : meth.sig.returnType = none) (hlk : meth.locks = false) (hR : 2 ≤ R.frames ∧ 42 ≤ R.locals) (hK : cK dC dI k s) (hA : ∀ q, s.heap.size ≤ q → A q) (k2 : ∀ (x1 : Int32) (σ : cS) (H : Heap) (locs : List Loc) (ls : Array Slot), lv_has ls 3 [(0, .ref (b 10)), (1, .int x1)] → cO dC dI b k A s.heap σ H locs → K2 x1 σ → W p l e R s m args below meth c H locs 0 0 (MQ below (va_Qv Q (cAt dC dI A b k) A) args s 0 0 A) (F0 m 2 ls [])) (x1 : Int32) (σ : cS) (H : Heap) (locs : List Loc) (ls : Array Slot) (hl : lv_has ls 3 [(0, .ref (b 10)), (1, .int x1)]) (hO : cO dC dI b k A s.heap σ H locs) (hw : C_X3_nameClassConstants_b86 b k Q K2 x1 σ) : W p l e R s m args below meth c H locs 0 0 (MQ below (va_Qv Q (cAt dC dI A b k) A) args s 0 0 A) (F0 m 86 ls []) := by
  unfold C_X3_nameClassConstants_b86 at hw
  obtain ⟨v86, e86⟩ : ∃ z, z = x1 + (1 : Int32) := ⟨_, rfl⟩
  have hw := hw v86 e86
  refine lv_iinc (lv' := [(1, .int v86), (0, .ref (b 10))]) (k := 1) (v := v86) X.1 X.2.1 dX3_nameClassConstants_86 hl rfl (by rw [e86]; rfl) (by decide) rfl (fun ls hl => ?_)
  refine lv_goto (tgt := 2) X.1 X.2.1 dX3_nameClassConstants_89 rfl ?_
  exact k2 v86 σ H locs ls (lv_sub hl [1, 0] rfl) hO hw
def C_X3_nameClassConstants_b74 (b : Nat → Nat) (k : Nat → ClassId) (Q : cS → Prop) (K2 : Int32 → cS → Prop) (x1 : Int32) (σ : cS) : Prop :=
 vp_in x1 13 ∧ C_X3_refuse_w b k (fun t83 => C_X3_nameClassConstants_b86 b k Q K2 x1 t83) (6 : Int32) (σ.2.1 8 x1.toNatClampNeg) σ
set_option maxHeartbeats 4000000 in
set_option maxRecDepth 100000 in
theorem cB_X3_nameClassConstants_74 {Q : cS → Prop} {K2 : Int32 → cS → Prop} (X : CallFix p m c cX3_nameClassConstants 3 s args wsX3_nameClassConstants RX3) (hr : meth.sig.returnType = none) (hlk : meth.locks = false) (hR : 2 ≤ R.frames ∧ 42 ≤ R.locals) (hK : cK dC dI k s) (hA : ∀ q, s.heap.size ≤ q → A q) (k2 : ∀ (x1 : Int32) (σ : cS) (H : Heap) (locs : List Loc) (ls : Array Slot), lv_has ls 3 [(0, .ref (b 10)), (1, .int x1)] → cO dC dI b k A s.heap σ H locs → K2 x1 σ → W p l e R s m args below meth c H locs 0 0 (MQ below (va_Qv Q (cAt dC dI A b k) A) args s 0 0 A) (F0 m 2 ls [])) (x1 : Int32) (σ : cS) (H : Heap) (locs : List Loc) (ls : Array Slot) (hl : lv_has ls 3 [(0, .ref (b 10)), (1, .int x1)]) (hO : cO dC dI b k A s.heap σ H locs) (hw : C_X3_nameClassConstants_b74 b k Q K2 x1 σ) : W p l e R s m args below meth c H locs 0 0 (MQ below (va_Qv Q (cAt dC dI A b k) A) args s 0 0 A) (F0 m 74 ls []) := by
  unfold C_X3_nameClassConstants_b74 at hw
  refine lv_aload_n X.1 X.2.1 dX3_nameClassConstants_74 rfl (lv_at hl 0 rfl) ?_
  refine lv_bipush (v := 6) X.1 X.2.1 dX3_nameClassConstants_75 (by decide) ?_
  refine lv_aload_n X.1 X.2.1 dX3_nameClassConstants_77 rfl (lv_at hl 0 rfl) ?_
  refine cf_X3_places X fX3_X3_places hK hO dX3_nameClassConstants_78 ?_
  refine lv_iload_n X.1 X.2.1 dX3_nameClassConstants_81 rfl (lv_at hl 1 rfl) ?_
  obtain ⟨g82, hw⟩ := hw
  refine ca_13 X.1 X.2.1 hK hO g82 dX3_nameClassConstants_82 ?_
  refine c_callv (rest := []) (As := [.int (6 : Int32), .int (σ.2.1 8 x1.toNatClampNeg)]) X (cC_X3_refuse l dC dI b k σ H.size (6 : Int32) (σ.2.1 8 x1.toNatClampNeg) _ hw) (cwV 2 X.2.2.2.2 gX3_X3_refuse rfl rfl rfl hdX3_refuse ⟨Nat.le_trans (show 0 + 1 ≤ 2 by decide) hR.1, Nat.le_trans (show 8 + (3 + 11) + 0 ≤ 42 by decide) hR.2⟩) (cRecv_X3 hK hO) hK hA hO rfl hl.1 rfl (Nat.le_of_ble_eq_true rfl) dX3_nameClassConstants_83 (Nat.zero_le _) (Nat.zero_le _) (fun t83 H locs hO hw => ?_)
  exact cB_X3_nameClassConstants_86 X hr hlk hR hK hA k2 x1 t83 H locs ls (lv_sub hl [0, 1] rfl) hO hw
def C_X3_nameClassConstants_b2_s (b : Nat → Nat) (k : Nat → ClassId) (Q : cS → Prop) (K2 : Int32 → cS → Prop) (x1 : Int32) (σ : cS) : Prop :=
 ((σ.1 6) < x1 → C_X3_nameClassConstants_b92 b k Q σ) ∧ (¬ (σ.1 6) < x1 → (¬ (σ.1 3) = 0 → C_X3_nameClassConstants_b92 b k Q σ) ∧ ((σ.1 3) = 0 → vp_in x1 13 ∧ (¬ (σ.2.1 6 x1.toNatClampNeg) = (3 : Int32) → C_X3_nameClassConstants_b86 b k Q K2 x1 σ) ∧ ((σ.2.1 6 x1.toNatClampNeg) = (3 : Int32) → vp_in x1 13 ∧ ∀ v33 : Int32, v33 = (σ.2.1 7 x1.toNatClampNeg) → C_X3_isConstant_w b k (fun r37 t37 => (r37 = 0 → C_X3_nameClassConstants_b74 b k Q K2 x1 t37) ∧ (¬ r37 = 0 → t37.2.2.2.1 1 = some (b 2) ∧ vp_in v33 13 ∧ C_X4_lengthOf_w b k (fun r53 t53 => (r53 ≤ 0 → C_X3_nameClassConstants_b74 b k Q K2 x1 t53) ∧ (¬ r53 ≤ 0 → vp_in v33 13 ∧ vp_in x1 13 ∧ ∀ t70 : cS, t70 = sA t53 7 x1 (t53.2.1 7 v33.toNatClampNeg) → C_X3_nameClassConstants_b86 b k Q K2 x1 t70)) (t37.2.1 7 v33.toNatClampNeg) t37)) v33 (2 : Int32) σ)))
def C_X3_nameClassConstants_b2_f (b : Nat → Nat) (k : Nat → ClassId) (Q : cS → Prop) : (Int32 × cS → Prop) → Int32 × cS → Prop :=
 fun K z => C_X3_nameClassConstants_b2_s b k Q (fun x1 σ => K (x1, σ)) z.1 z.2
def C_X3_nameClassConstants_b2 (b : Nat → Nat) (k : Nat → ClassId) (Q : cS → Prop) (x1 : Int32) (σ : cS) : Prop := ∃ n, fx (C_X3_nameClassConstants_b2_f b k Q ) n (x1, σ)
set_option maxHeartbeats 4000000 in
set_option maxRecDepth 100000 in
theorem cB_X3_nameClassConstants_2 {Q : cS → Prop} (X : CallFix p m c cX3_nameClassConstants 3 s args wsX3_nameClassConstants RX3) (hr : meth.sig.returnType = none) (hlk : meth.locks = false) (hR : 2 ≤ R.frames ∧ 42 ≤ R.locals) (hK : cK dC dI k s) (hA : ∀ q, s.heap.size ≤ q → A q) : ∀ (n : Nat) (x1 : Int32) (σ : cS) (H : Heap) (locs : List Loc) (ls : Array Slot), lv_has ls 3 [(0, .ref (b 10)), (1, .int x1)] → cO dC dI b k A s.heap σ H locs → fx (C_X3_nameClassConstants_b2_f b k Q ) n (x1, σ) → W p l e R s m args below meth c H locs 0 0 (MQ below (va_Qv Q (cAt dC dI A b k) A) args s 0 0 A) (F0 m 2 ls []) := by
  intro n
  induction n with
  | zero => intro x1 σ H locs ls hl hO hw; exact False.elim hw
  | succ n k2 =>
    intro x1 σ H locs ls hl hO hw
    have hw : C_X3_nameClassConstants_b2_s b k Q (fun x1 σ => fx (C_X3_nameClassConstants_b2_f b k Q ) n (x1, σ)) x1 σ := hw
    unfold C_X3_nameClassConstants_b2_s at hw
    refine lv_iload_n X.1 X.2.1 dX3_nameClassConstants_2 rfl (lv_at hl 1 rfl) ?_
    refine lv_aload_n X.1 X.2.1 dX3_nameClassConstants_3 rfl (lv_at hl 0 rfl) ?_
    refine cf_X3_constants X fX3_X3_constants hK hO dX3_nameClassConstants_4 ?_
    refine lv_icmp_gt (tgt := 92) X.1 X.2.1 dX3_nameClassConstants_7 rfl (fun hc9 => ?_) (fun hc9 => ?_)
    · have hw := hw.1 hc9
      exact cB_X3_nameClassConstants_92 X hr hlk hR hK hA σ H locs ls (lv_sub hl [0] rfl) hO hw
    · have hw := hw.2 hc9
      refine lv_aload_n X.1 X.2.1 dX3_nameClassConstants_10 rfl (lv_at hl 0 rfl) ?_
      refine cf_X3_fault X fX3_X3_fault hK hO dX3_nameClassConstants_11 ?_
      refine lv_if_ne (tgt := 92) X.1 X.2.1 dX3_nameClassConstants_14 rfl (fun hc9 => ?_) (fun hc9 => ?_)
      · have hw := hw.1 hc9
        exact cB_X3_nameClassConstants_92 X hr hlk hR hK hA σ H locs ls (lv_sub hl [0] rfl) hO hw
      · have hw := hw.2 hc9
        refine lv_aload_n X.1 X.2.1 dX3_nameClassConstants_17 rfl (lv_at hl 0 rfl) ?_
        refine cf_X3_kinds X fX3_X3_kinds hK hO dX3_nameClassConstants_18 ?_
        refine lv_iload_n X.1 X.2.1 dX3_nameClassConstants_21 rfl (lv_at hl 1 rfl) ?_
        obtain ⟨g22, hw⟩ := hw
        refine ca_11 X.1 X.2.1 hK hO g22 dX3_nameClassConstants_22 ?_
        refine lv_iconst (v := 3) X.1 X.2.1 dX3_nameClassConstants_23 (by decide) ?_
        refine lv_icmp_ne (tgt := 86) X.1 X.2.1 dX3_nameClassConstants_24 rfl (fun hc9 => ?_) (fun hc9 => ?_)
        · have hw := hw.1 hc9
          exact cB_X3_nameClassConstants_86 X hr hlk hR hK hA k2 x1 σ H locs ls (lv_sub hl [0, 1] rfl) hO hw
        · have hw := hw.2 hc9
          refine lv_aload_n X.1 X.2.1 dX3_nameClassConstants_27 rfl (lv_at hl 0 rfl) ?_
          refine cf_X3_numbers X fX3_X3_numbers hK hO dX3_nameClassConstants_28 ?_
          refine lv_iload_n X.1 X.2.1 dX3_nameClassConstants_31 rfl (lv_at hl 1 rfl) ?_
          obtain ⟨g32, hw⟩ := hw
          refine ca_12 X.1 X.2.1 hK hO g32 dX3_nameClassConstants_32 ?_
          refine lv_topi (fun v33 e33 => ?_)
          have hw := hw v33 e33
          refine lv_istore_n (lv' := [(2, .int v33), (0, .ref (b 10)), (1, .int x1)]) X.1 X.2.1 dX3_nameClassConstants_33 rfl hl (by decide) rfl (fun ls hl => ?_)
          refine lv_aload_n X.1 X.2.1 dX3_nameClassConstants_34 rfl (lv_at hl 1 rfl) ?_
          refine lv_iload_n X.1 X.2.1 dX3_nameClassConstants_35 rfl (lv_at hl 0 rfl) ?_
          refine lv_iconst (v := 2) X.1 X.2.1 dX3_nameClassConstants_36 (by decide) ?_
          refine c_calli (rest := []) (As := [.int v33, .int (2 : Int32)]) X (cC_X3_isConstant l dC dI b k σ H.size v33 (2 : Int32) _ hw) (cwV 2 X.2.2.2.2 gX3_X3_isConstant rfl rfl rfl hdX3_isConstant ⟨Nat.le_trans (show 0 + 1 ≤ 2 by decide) hR.1, Nat.le_trans (show 8 + (3 + 11) + 0 ≤ 42 by decide) hR.2⟩) (cRecv_X3 hK hO) hK hA hO rfl hl.1 rfl (Nat.le_of_ble_eq_true rfl) dX3_nameClassConstants_37 (Nat.zero_le _) (Nat.zero_le _) (fun r37 t37 H locs hO hw => ?_)
          refine lv_if_eq (tgt := 74) X.1 X.2.1 dX3_nameClassConstants_40 rfl (fun hc9 => ?_) (fun hc9 => ?_)
          · have hw := hw.1 hc9
            exact cB_X3_nameClassConstants_74 X hr hlk hR hK hA k2 x1 t37 H locs ls (lv_sub hl [1, 2] rfl) hO hw
          · have hw := hw.2 hc9
            refine lv_aload_n X.1 X.2.1 dX3_nameClassConstants_43 rfl (lv_at hl 1 rfl) ?_
            obtain ⟨g44, hw⟩ := hw
            refine cf_X3_texts X fX3_X3_texts hK hO g44 dX3_nameClassConstants_44 ?_
            refine lv_aload_n X.1 X.2.1 dX3_nameClassConstants_47 rfl (lv_at hl 1 rfl) ?_
            refine cf_X3_numbers X fX3_X3_numbers hK hO dX3_nameClassConstants_48 ?_
            refine lv_iload_n X.1 X.2.1 dX3_nameClassConstants_51 rfl (lv_at hl 0 rfl) ?_
            obtain ⟨g52, hw⟩ := hw
            refine ca_12 X.1 X.2.1 hK hO g52 dX3_nameClassConstants_52 ?_
            refine c_calli (rest := []) (As := [.int (t37.2.1 7 v33.toNatClampNeg)]) X (cC_X4_lengthOf l dC dI b k t37 H.size (t37.2.1 7 v33.toNatClampNeg) _ hw) (cwV 1 X.2.2.2.2 gX3_X4_lengthOf rfl rfl rfl hdX4_lengthOf ⟨Nat.le_trans (show 1 + 1 ≤ 2 by decide) hR.1, Nat.le_trans (show 8 + (2 + 11) + 21 ≤ 42 by decide) hR.2⟩) (cRecv_X4 hK hO) hK hA hO rfl hl.1 rfl (Nat.le_of_ble_eq_true rfl) dX3_nameClassConstants_53 (Nat.zero_le _) (Nat.zero_le _) (fun r53 t53 H locs hO hw => ?_)
            refine lv_if_le (tgt := 74) X.1 X.2.1 dX3_nameClassConstants_56 rfl (fun hc9 => ?_) (fun hc9 => ?_)
            · have hw := hw.1 hc9
              exact cB_X3_nameClassConstants_74 X hr hlk hR hK hA k2 x1 t53 H locs ls (lv_sub hl [1, 2] rfl) hO hw
            · have hw := hw.2 hc9
              refine lv_aload_n X.1 X.2.1 dX3_nameClassConstants_59 rfl (lv_at hl 1 rfl) ?_
              refine cf_X3_numbers X fX3_X3_numbers hK hO dX3_nameClassConstants_60 ?_
              refine lv_iload_n X.1 X.2.1 dX3_nameClassConstants_63 rfl (lv_at hl 2 rfl) ?_
              refine lv_aload_n X.1 X.2.1 dX3_nameClassConstants_64 rfl (lv_at hl 1 rfl) ?_
              refine cf_X3_numbers X fX3_X3_numbers hK hO dX3_nameClassConstants_65 ?_
              refine lv_iload_n X.1 X.2.1 dX3_nameClassConstants_68 rfl (lv_at hl 0 rfl) ?_
              obtain ⟨g69, hw⟩ := hw
              refine ca_12 X.1 X.2.1 hK hO g69 dX3_nameClassConstants_69 ?_
              obtain ⟨g70, hw⟩ := hw
              refine cs_12 X.1 X.2.1 hK hO g70 dX3_nameClassConstants_70 (fun H locs hO => ?_)
              obtain ⟨t70, e70⟩ : ∃ z, z = sA t53 7 x1 (t53.2.1 7 v33.toNatClampNeg) := ⟨_, rfl⟩
              have hw := hw t70 e70
              rw [← e70] at hO
              refine lv_goto (tgt := 86) X.1 X.2.1 dX3_nameClassConstants_71 rfl ?_
              exact cB_X3_nameClassConstants_86 X hr hlk hR hK hA k2 x1 t70 H locs ls (lv_sub hl [1, 2] rfl) hO hw
def C_X3_nameClassConstants_b0 (b : Nat → Nat) (k : Nat → ClassId) (Q : cS → Prop) (σ : cS) : Prop :=
 C_X3_nameClassConstants_b2 b k Q (1 : Int32) σ
set_option maxHeartbeats 4000000 in
set_option maxRecDepth 100000 in
theorem cB_X3_nameClassConstants_0 {Q : cS → Prop} (X : CallFix p m c cX3_nameClassConstants 3 s args wsX3_nameClassConstants RX3) (hr : meth.sig.returnType = none) (hlk : meth.locks = false) (hR : 2 ≤ R.frames ∧ 42 ≤ R.locals) (hK : cK dC dI k s) (hA : ∀ q, s.heap.size ≤ q → A q) (σ : cS) (H : Heap) (locs : List Loc) (ls : Array Slot) (hl : lv_has ls 3 [(0, .ref (b 10))]) (hO : cO dC dI b k A s.heap σ H locs) (hw : C_X3_nameClassConstants_b0 b k Q σ) : W p l e R s m args below meth c H locs 0 0 (MQ below (va_Qv Q (cAt dC dI A b k) A) args s 0 0 A) (F0 m 0 ls []) := by
  unfold C_X3_nameClassConstants_b0 at hw
  refine lv_iconst (v := 1) X.1 X.2.1 dX3_nameClassConstants_0 (by decide) ?_
  refine lv_istore_n (lv' := [(1, .int (1 : Int32)), (0, .ref (b 10))]) X.1 X.2.1 dX3_nameClassConstants_1 rfl hl (by decide) rfl (fun ls hl => ?_)
  obtain ⟨n, hw⟩ := hw
  exact cB_X3_nameClassConstants_2 X hr hlk hR hK hA n (1 : Int32) σ H locs ls (lv_sub hl [1, 0] rfl) hO hw
def C_X3_nameClassConstants_w (b : Nat → Nat) (k : Nat → ClassId) (Q : cS → Prop) (σ : cS) : Prop := C_X3_nameClassConstants_b0 b k Q σ
abbrev rmX3_nameClassConstants : Room := { frames := 2, cells := 0, slots := 0, locals := 42 }
set_option maxHeartbeats 4000000 in
set_option maxRecDepth 100000 in
theorem cC_X3_nameClassConstants (l : Launch) (dC : Nat → ClassId) (dI : Nat → Nat → Nat) (b : Nat → Nat) (k : Nat → ClassId) (σ : cS) (sz : Nat) (Q : cS → Prop) (hw : C_X3_nameClassConstants_w b k Q σ) : Met l yX3_nameClassConstants wsX3_nameClassConstants rmX3_nameClassConstants (cPc dC dI b k sz σ [.ref (b 10)]) (va_Qv Q (cAt dC dI (va_A (cCells b k σ) sz) b k) (va_A (cCells b k σ) sz)) 0 0 (va_A (cCells b k σ) sz) := by
  refine Met.ofW (cc := cX3_nameClassConstants) (maxL := 3) (ret := none) (by decide) rfl ?_
  intro p e s m args below meth c s₁ B hml hv
  obtain ⟨hargs, hsz, hP, hK, hD0⟩ := hv
  have hts := atoms_spec (ws := wsX3_nameClassConstants) B.pre
  have hown : s.vm.findClass RX3 = some m.cls := findClass_of_methodNamed B.named
  subst hsz
  subst hargs
  have hD := hD0.self (sz := s.heap.size)
  generalize hAe : va_A (cCells b k σ) s.heap.size = A at hD ⊢
  have hA : ∀ q : Nat, s.heap.size ≤ q → A q := fun q h => by rw [← hAe]; exact Or.inr h
  have hl := lv_entry ([.ref (b 10)]) (n := 3) (Nat.le_of_ble_eq_true rfl)
  rw [lg_entry_eq]
  generalize (lg_sl ([.ref (b 10)]) ++ List.replicate (3 - (lg_sl ([.ref (b 10)])).length) Slot.unset).toArray = ls at hl ⊢
  have hl : lv_has ls 3 [(0, .ref (b 10))] := hl
  unfold C_X3_nameClassConstants_w at hw
  exact cB_X3_nameClassConstants_0 ⟨B.exec, B.bytes, hml, hown, hts⟩ B.returns B.notSynchronized ⟨Nat.le_of_ble_eq_true rfl, Nat.le_of_ble_eq_true rfl⟩ hK hA σ s.heap [] ls (lv_sub hl [0] rfl) ⟨hP, hD, va_S.rf⟩ hw
def C_X3_readConstant_b0 (b : Nat → Nat) (k : Nat → ClassId) (Q : Int32 → cS → Prop) (x1 : Int32) (σ : cS) : Prop :=
 ∀ v4 : Int32, v4 = (σ.1 5) → C_X3_next_w b k (fun r6 t6 => C_X3_isConstant_w b k (fun r13 t13 => (¬ r13 = 0 → vp_in r6 13 ∧ Q (t13.2.1 7 r6.toNatClampNeg) t13) ∧ (r13 = 0 → C_X3_refuse_w b k (fun t23 => Q (-1 : Int32) t23) (6 : Int32) v4 t13)) r6 x1 t6) σ
set_option maxHeartbeats 4000000 in
set_option maxRecDepth 100000 in
theorem cB_X3_readConstant_0 {Q : Int32 → cS → Prop} (X : CallFix p m c cX3_readConstant 4 s args wsX3_readConstant RX3) (hr : meth.sig.returnType = (some .int)) (hlk : meth.locks = false) (hR : 1 ≤ R.frames ∧ 22 ≤ R.locals) (hK : cK dC dI k s) (hA : ∀ q, s.heap.size ≤ q → A q) (x1 : Int32) (σ : cS) (H : Heap) (locs : List Loc) (ls : Array Slot) (hl : lv_has ls 4 [(0, .ref (b 10)), (1, .int x1)]) (hO : cO dC dI b k A s.heap σ H locs) (hw : C_X3_readConstant_b0 b k Q x1 σ) : W p l e R s m args below meth c H locs 0 0 (MQ below (va_Qi Q (cAt dC dI A b k) A) args s 0 0 A) (F0 m 0 ls []) := by
  unfold C_X3_readConstant_b0 at hw
  refine lv_aload_n X.1 X.2.1 dX3_readConstant_0 rfl (lv_at hl 0 rfl) ?_
  refine cf_X3_place X fX3_X3_place hK hO dX3_readConstant_1 ?_
  refine lv_topi (fun v4 e4 => ?_)
  have hw := hw v4 e4
  refine lv_istore_n (lv' := [(2, .int v4), (0, .ref (b 10)), (1, .int x1)]) X.1 X.2.1 dX3_readConstant_4 rfl hl (by decide) rfl (fun ls hl => ?_)
  refine lv_aload_n X.1 X.2.1 dX3_readConstant_5 rfl (lv_at hl 1 rfl) ?_
  refine c_calli (rest := []) (As := []) X (cC_X3_next l dC dI b k σ H.size _ hw) (cwV 0 X.2.2.2.2 gX3_X3_next rfl rfl rfl hdX3_next ⟨Nat.le_trans (show 0 + 1 ≤ 1 by decide) hR.1, Nat.le_trans (show 8 + (1 + 11) + 0 ≤ 22 by decide) hR.2⟩) (cRecv_X3 hK hO) hK hA hO rfl hl.1 rfl (Nat.le_of_ble_eq_true rfl) dX3_readConstant_6 (Nat.zero_le _) (Nat.zero_le _) (fun r6 t6 H locs hO hw => ?_)
  refine lv_istore_n (lv' := [(3, .int r6), (2, .int v4), (0, .ref (b 10)), (1, .int x1)]) X.1 X.2.1 dX3_readConstant_9 rfl hl (by decide) rfl (fun ls hl => ?_)
  refine lv_aload_n X.1 X.2.1 dX3_readConstant_10 rfl (lv_at hl 2 rfl) ?_
  refine lv_iload_n X.1 X.2.1 dX3_readConstant_11 rfl (lv_at hl 0 rfl) ?_
  refine lv_iload_n X.1 X.2.1 dX3_readConstant_12 rfl (lv_at hl 3 rfl) ?_
  refine c_calli (rest := []) (As := [.int r6, .int x1]) X (cC_X3_isConstant l dC dI b k t6 H.size r6 x1 _ hw) (cwV 2 X.2.2.2.2 gX3_X3_isConstant rfl rfl rfl hdX3_isConstant ⟨Nat.le_trans (show 0 + 1 ≤ 1 by decide) hR.1, Nat.le_trans (show 8 + (3 + 11) + 0 ≤ 22 by decide) hR.2⟩) (cRecv_X3 hK hO) hK hA hO rfl hl.1 rfl (Nat.le_of_ble_eq_true rfl) dX3_readConstant_13 (Nat.zero_le _) (Nat.zero_le _) (fun r13 t13 H locs hO hw => ?_)
  refine lv_if_ne (tgt := 28) X.1 X.2.1 dX3_readConstant_16 rfl (fun hc9 => ?_) (fun hc9 => ?_)
  · have hw := hw.1 hc9
    refine lv_aload_n X.1 X.2.1 dX3_readConstant_28 rfl (lv_at hl 2 rfl) ?_
    refine cf_X3_numbers X fX3_X3_numbers hK hO dX3_readConstant_29 ?_
    refine lv_iload_n X.1 X.2.1 dX3_readConstant_32 rfl (lv_at hl 0 rfl) ?_
    obtain ⟨g33, hw⟩ := hw
    refine ca_12 X.1 X.2.1 hK hO g33 dX3_readConstant_33 ?_
    exact W.iret (v := (t13.2.1 7 r6.toNatClampNeg)) X.1 X.2.1 hr (fun t ht hW => ⟨⟨(t13.2.1 7 r6.toNatClampNeg), t13, rfl, hw, cO_end hO hK ht hW⟩, hO.2.2.F ht⟩) hO.2.2.2.2 dX3_readConstant_34 hlk
  · have hw := hw.2 hc9
    refine lv_aload_n X.1 X.2.1 dX3_readConstant_19 rfl (lv_at hl 2 rfl) ?_
    refine lv_bipush (v := 6) X.1 X.2.1 dX3_readConstant_20 (by decide) ?_
    refine lv_iload_n X.1 X.2.1 dX3_readConstant_22 rfl (lv_at hl 1 rfl) ?_
    refine c_callv (rest := []) (As := [.int (6 : Int32), .int v4]) X (cC_X3_refuse l dC dI b k t13 H.size (6 : Int32) v4 _ hw) (cwV 2 X.2.2.2.2 gX3_X3_refuse rfl rfl rfl hdX3_refuse ⟨Nat.le_trans (show 0 + 1 ≤ 1 by decide) hR.1, Nat.le_trans (show 8 + (3 + 11) + 0 ≤ 22 by decide) hR.2⟩) (cRecv_X3 hK hO) hK hA hO rfl hl.1 rfl (Nat.le_of_ble_eq_true rfl) dX3_readConstant_23 (Nat.zero_le _) (Nat.zero_le _) (fun t23 H locs hO hw => ?_)
    refine lv_iconst (v := -1) X.1 X.2.1 dX3_readConstant_26 (by decide) ?_
    exact W.iret (v := (-1 : Int32)) X.1 X.2.1 hr (fun t ht hW => ⟨⟨(-1 : Int32), t23, rfl, hw, cO_end hO hK ht hW⟩, hO.2.2.F ht⟩) hO.2.2.2.2 dX3_readConstant_27 hlk
def C_X3_readConstant_w (b : Nat → Nat) (k : Nat → ClassId) (Q : Int32 → cS → Prop) (x1 : Int32) (σ : cS) : Prop := C_X3_readConstant_b0 b k Q x1 σ
abbrev rmX3_readConstant : Room := { frames := 1, cells := 0, slots := 0, locals := 22 }
set_option maxHeartbeats 4000000 in
set_option maxRecDepth 100000 in
theorem cC_X3_readConstant (l : Launch) (dC : Nat → ClassId) (dI : Nat → Nat → Nat) (b : Nat → Nat) (k : Nat → ClassId) (σ : cS) (sz : Nat) (x1 : Int32) (Q : Int32 → cS → Prop) (hw : C_X3_readConstant_w b k Q x1 σ) : Met l yX3_readConstant wsX3_readConstant rmX3_readConstant (cPc dC dI b k sz σ [.ref (b 10), .int x1]) (va_Qi Q (cAt dC dI (va_A (cCells b k σ) sz) b k) (va_A (cCells b k σ) sz)) 0 0 (va_A (cCells b k σ) sz) := by
  refine Met.ofW (cc := cX3_readConstant) (maxL := 4) (ret := (some .int)) (by decide) rfl ?_
  intro p e s m args below meth c s₁ B hml hv
  obtain ⟨hargs, hsz, hP, hK, hD0⟩ := hv
  have hts := atoms_spec (ws := wsX3_readConstant) B.pre
  have hown : s.vm.findClass RX3 = some m.cls := findClass_of_methodNamed B.named
  subst hsz
  subst hargs
  have hD := hD0.self (sz := s.heap.size)
  generalize hAe : va_A (cCells b k σ) s.heap.size = A at hD ⊢
  have hA : ∀ q : Nat, s.heap.size ≤ q → A q := fun q h => by rw [← hAe]; exact Or.inr h
  have hl := lv_entry ([.ref (b 10), .int x1]) (n := 4) (Nat.le_of_ble_eq_true rfl)
  rw [lg_entry_eq]
  generalize (lg_sl ([.ref (b 10), .int x1]) ++ List.replicate (4 - (lg_sl ([.ref (b 10), .int x1])).length) Slot.unset).toArray = ls at hl ⊢
  have hl : lv_has ls 4 [(0, .ref (b 10)), (1, .int x1)] := hl
  unfold C_X3_readConstant_w at hw
  exact cB_X3_readConstant_0 ⟨B.exec, B.bytes, hml, hown, hts⟩ B.returns B.notSynchronized ⟨Nat.le_of_ble_eq_true rfl, Nat.le_of_ble_eq_true rfl⟩ hK hA x1 σ s.heap [] ls (lv_sub hl [0, 1] rfl) ⟨hP, hD, va_S.rf⟩ hw
end
