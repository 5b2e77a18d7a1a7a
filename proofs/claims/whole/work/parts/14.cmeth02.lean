section
variable {p : Program} {l : Launch} {e : Env} {R : Room} {s : State} {m : MethodId} {args : Array Value} {below : List Frame} {meth : Method} {c : Code}
variable {dC : Nat → ClassId} {dI : Nat → Nat → Nat} {b : Nat → Nat} {k : Nat → ClassId} {A : Nat → Prop}
def C_X1_leadsTo_b160 (b : Nat → Nat) (k : Nat → ClassId) (Q : Int32 → cS → Prop) (σ : cS) : Prop :=
 Q (0 : Int32) σ
set_option maxHeartbeats 4000000 in
set_option maxRecDepth 100000 in
theorem cB_X1_leadsTo_160 {Q : Int32 → cS → Prop} (X : CallFix p m c cX1_leadsTo 9 s args wsX1_leadsTo RX1) (hr : meth.sig.returnType = (some .boolean)) (hlk : meth.locks = false) (hR : 1 ≤ R.frames ∧ 21 ≤ R.locals) (hK : cK dC dI k s) (hA : ∀ q, s.heap.size ≤ q → A q) (σ : cS) (H : Heap) (locs : List Loc) (ls : Array Slot) (hl : lv_has ls 9 [(0, .ref (b 5))]) (hO : cO dC dI b k A s.heap σ H locs) (hw : C_X1_leadsTo_b160 b k Q σ) : W p l e R s m args below meth c H locs 0 0 (MQ below (va_Qi Q (cAt dC dI A b k) A) args s 0 0 A) (F0 m 160 ls []) := by
  unfold C_X1_leadsTo_b160 at hw
  refine lv_iconst (v := 0) X.1 X.2.1 dX1_leadsTo_160 (by decide) ?_
  exact W.zret (v := (0 : Int32)) X.1 X.2.1 hr rfl (fun t ht hW => ⟨⟨(0 : Int32), σ, rfl, hw, cO_end hO hK ht hW⟩, hO.2.2.F ht⟩) hO.2.2.2.2 dX1_leadsTo_161 hlk
def C_X1_leadsTo_b148 (b : Nat → Nat) (k : Nat → ClassId) (Q : Int32 → cS → Prop) (K47 : Int32 → Int32 → Int32 → Int32 → cS → Prop) (K82 : Int32 → Int32 → Int32 → Int32 → Option Nat → Int32 → cS → Prop) (x2 : Int32) (x3 : Int32) (x4 : Int32) (x5 : Int32) (x6 : Option Nat) (x7 : Int32) (σ : cS) : Prop :=
 ∀ v148 : Int32, v148 = x7 + (1 : Int32) → K82 x2 x3 x4 x5 x6 v148 σ
set_option maxHeartbeats 4000000 in
set_option maxRecDepth 100000 in
theorem cB_X1_leadsTo_148 {Q : Int32 → cS → Prop} {K47 : Int32 → Int32 → Int32 → Int32 → cS → Prop} {K82 : Int32 → Int32 → Int32 → Int32 → Option Nat → Int32 → cS → Prop} (X : CallFix p m c cX1_leadsTo 9 s args wsX1_leadsTo RX1) (hr : meth.sig.returnType = (some .boolean)) (hlk : meth.locks = false) (hR : 1 ≤ R.frames ∧ 21 ≤ R.locals) (hK : cK dC dI k s) (hA : ∀ q, s.heap.size ≤ q → A q) (k47 : ∀ (x2 : Int32) (x3 : Int32) (x4 : Int32) (x5 : Int32) (σ : cS) (H : Heap) (locs : List Loc) (ls : Array Slot), lv_has ls 9 [(0, .ref (b 5)), (2, .int x2), (3, .int x3), (4, .int x4), (5, .int x5)] → cO dC dI b k A s.heap σ H locs → K47 x2 x3 x4 x5 σ → W p l e R s m args below meth c H locs 0 0 (MQ below (va_Qi Q (cAt dC dI A b k) A) args s 0 0 A) (F0 m 47 ls [])) (k82 : ∀ (x2 : Int32) (x3 : Int32) (x4 : Int32) (x5 : Int32) (x6 : Option Nat) (x7 : Int32) (σ : cS) (H : Heap) (locs : List Loc) (ls : Array Slot), lv_has ls 9 [(0, .ref (b 5)), (2, .int x2), (3, .int x3), (4, .int x4), (5, .int x5), (6, va_rf x6), (7, .int x7)] → cO dC dI b k A s.heap σ H locs → K82 x2 x3 x4 x5 x6 x7 σ → W p l e R s m args below meth c H locs 0 0 (MQ below (va_Qi Q (cAt dC dI A b k) A) args s 0 0 A) (F0 m 82 ls [])) (x2 : Int32) (x3 : Int32) (x4 : Int32) (x5 : Int32) (x6 : Option Nat) (x7 : Int32) (σ : cS) (H : Heap) (locs : List Loc) (ls : Array Slot) (hl : lv_has ls 9 [(0, .ref (b 5)), (2, .int x2), (3, .int x3), (4, .int x4), (5, .int x5), (6, va_rf x6), (7, .int x7)]) (hO : cO dC dI b k A s.heap σ H locs) (hw : C_X1_leadsTo_b148 b k Q K47 K82 x2 x3 x4 x5 x6 x7 σ) : W p l e R s m args below meth c H locs 0 0 (MQ below (va_Qi Q (cAt dC dI A b k) A) args s 0 0 A) (F0 m 148 ls []) := by
  unfold C_X1_leadsTo_b148 at hw
  obtain ⟨v148, e148⟩ : ∃ z, z = x7 + (1 : Int32) := ⟨_, rfl⟩
  have hw := hw v148 e148
  refine lv_iinc (lv' := [(7, .int v148), (0, .ref (b 5)), (2, .int x2), (3, .int x3), (4, .int x4), (5, .int x5), (6, va_rf x6)]) (k := 6) (v := v148) X.1 X.2.1 dX1_leadsTo_148 hl rfl (by rw [e148]; rfl) (by decide) (by cases x6 <;> rfl) (fun ls hl => ?_)
  refine lv_goto (tgt := 82) X.1 X.2.1 dX1_leadsTo_151 rfl ?_
  exact k82 x2 x3 x4 x5 x6 v148 σ H locs ls (lv_sub hl [1, 2, 3, 4, 5, 6, 0] rfl) hO hw
def C_X1_leadsTo_b82_s (b : Nat → Nat) (k : Nat → ClassId) (Q : Int32 → cS → Prop) (K47 : Int32 → Int32 → Int32 → Int32 → cS → Prop) (K82 : Int32 → Int32 → Int32 → Int32 → Option Nat → Int32 → cS → Prop) (x2 : Int32) (x3 : Int32) (x4 : Int32) (x5 : Int32) (x6 : Option Nat) (x7 : Int32) (σ : cS) : Prop :=
 ∃ (n86 : Nat) (f86 : Nat → Int32), pA σ.2.2.2.2 x6 (k 0) n86 f86 ∧ ((Int32.ofNat n86) ≤ x7 → ∀ v154 : Int32, v154 = x5 + (1 : Int32) → K47 x2 x3 x4 v154 σ) ∧ (¬ (Int32.ofNat n86) ≤ x7 → ∃ (n94 : Nat) (f94 : Nat → Int32), pA σ.2.2.2.2 x6 (k 0) n94 f94 ∧ vp_in x7 n94 ∧ (¬ (f94 x7.toNatClampNeg) = x2 → ∃ (n106 : Nat) (f106 : Nat → Int32), pA σ.2.2.2.2 x6 (k 0) n106 f106 ∧ vp_in x7 n106 ∧ C_X1_named_w b k (fun r107 t107 => (r107 = (-1 : Int32) → C_X1_leadsTo_b148 b k Q K47 K82 x2 x3 x4 x5 x6 x7 t107) ∧ (¬ r107 = (-1 : Int32) → vp_in r107 16 ∧ (¬ (t107.2.1 5 r107.toNatClampNeg) = 0 → C_X1_leadsTo_b148 b k Q K47 K82 x2 x3 x4 x5 x6 x7 t107) ∧ ((t107.2.1 5 r107.toNatClampNeg) = 0 → vp_in r107 16 ∧ ∀ t135 : cS, t135 = sA t107 5 r107 (vp_nar .boolean (1 : Int32)) → vp_in x4 16 ∧ ∀ t144 : cS, t144 = sA t135 4 x4 r107 → ∀ v145 : Int32, v145 = x4 + (1 : Int32) → C_X1_leadsTo_b148 b k Q K47 K82 x2 x3 v145 x5 x6 x7 t144))) (f106 x7.toNatClampNeg) σ) ∧ ((f94 x7.toNatClampNeg) = x2 → Q (1 : Int32) σ))
def C_X1_leadsTo_b82_f (b : Nat → Nat) (k : Nat → ClassId) (Q : Int32 → cS → Prop) (K47 : Int32 → Int32 → Int32 → Int32 → cS → Prop) : (Int32 × Int32 × Int32 × Int32 × Option Nat × Int32 × cS → Prop) → Int32 × Int32 × Int32 × Int32 × Option Nat × Int32 × cS → Prop :=
 fun K z => C_X1_leadsTo_b82_s b k Q K47 (fun x2 x3 x4 x5 x6 x7 σ => K (x2, x3, x4, x5, x6, x7, σ)) z.1 z.2.1 z.2.2.1 z.2.2.2.1 z.2.2.2.2.1 z.2.2.2.2.2.1 z.2.2.2.2.2.2
def C_X1_leadsTo_b82 (b : Nat → Nat) (k : Nat → ClassId) (Q : Int32 → cS → Prop) (K47 : Int32 → Int32 → Int32 → Int32 → cS → Prop) (x2 : Int32) (x3 : Int32) (x4 : Int32) (x5 : Int32) (x6 : Option Nat) (x7 : Int32) (σ : cS) : Prop := ∃ n, fx (C_X1_leadsTo_b82_f b k Q K47) n (x2, x3, x4, x5, x6, x7, σ)
set_option maxHeartbeats 4000000 in
set_option maxRecDepth 100000 in
theorem cB_X1_leadsTo_82 {Q : Int32 → cS → Prop} {K47 : Int32 → Int32 → Int32 → Int32 → cS → Prop} (X : CallFix p m c cX1_leadsTo 9 s args wsX1_leadsTo RX1) (hr : meth.sig.returnType = (some .boolean)) (hlk : meth.locks = false) (hR : 1 ≤ R.frames ∧ 21 ≤ R.locals) (hK : cK dC dI k s) (hA : ∀ q, s.heap.size ≤ q → A q) (k47 : ∀ (x2 : Int32) (x3 : Int32) (x4 : Int32) (x5 : Int32) (σ : cS) (H : Heap) (locs : List Loc) (ls : Array Slot), lv_has ls 9 [(0, .ref (b 5)), (2, .int x2), (3, .int x3), (4, .int x4), (5, .int x5)] → cO dC dI b k A s.heap σ H locs → K47 x2 x3 x4 x5 σ → W p l e R s m args below meth c H locs 0 0 (MQ below (va_Qi Q (cAt dC dI A b k) A) args s 0 0 A) (F0 m 47 ls [])) : ∀ (n : Nat) (x2 : Int32) (x3 : Int32) (x4 : Int32) (x5 : Int32) (x6 : Option Nat) (x7 : Int32) (σ : cS) (H : Heap) (locs : List Loc) (ls : Array Slot), lv_has ls 9 [(0, .ref (b 5)), (2, .int x2), (3, .int x3), (4, .int x4), (5, .int x5), (6, va_rf x6), (7, .int x7)] → cO dC dI b k A s.heap σ H locs → fx (C_X1_leadsTo_b82_f b k Q K47) n (x2, x3, x4, x5, x6, x7, σ) → W p l e R s m args below meth c H locs 0 0 (MQ below (va_Qi Q (cAt dC dI A b k) A) args s 0 0 A) (F0 m 82 ls []) := by
  intro n
  induction n with
  | zero => intro x2 x3 x4 x5 x6 x7 σ H locs ls hl hO hw; exact False.elim hw
  | succ n k82 =>
    intro x2 x3 x4 x5 x6 x7 σ H locs ls hl hO hw
    have hw : C_X1_leadsTo_b82_s b k Q K47 (fun x2 x3 x4 x5 x6 x7 σ => fx (C_X1_leadsTo_b82_f b k Q K47) n (x2, x3, x4, x5, x6, x7, σ)) x2 x3 x4 x5 x6 x7 σ := hw
    unfold C_X1_leadsTo_b82_s at hw
    refine lv_iload X.1 X.2.1 dX1_leadsTo_82 (lv_at hl 6 rfl) ?_
    refine lv_aloadO X.1 X.2.1 dX1_leadsTo_84 (lv_at hl 5 rfl) ?_
    obtain ⟨n86, f86, g86, hw⟩ := hw
    refine clenA X.1 X.2.1 hK hO g86 dX1_leadsTo_86 ?_
    refine lv_icmp_ge (tgt := 154) X.1 X.2.1 dX1_leadsTo_87 rfl (fun hc9 => ?_) (fun hc9 => ?_)
    · have hw := hw.1 hc9
      obtain ⟨v154, e154⟩ : ∃ z, z = x5 + (1 : Int32) := ⟨_, rfl⟩
      have hw := hw v154 e154
      refine lv_iinc (lv' := [(5, .int v154), (0, .ref (b 5)), (2, .int x2), (3, .int x3), (4, .int x4), (6, va_rf x6), (7, .int x7)]) (k := 4) (v := v154) X.1 X.2.1 dX1_leadsTo_154 hl rfl (by rw [e154]; rfl) (by decide) rfl (fun ls hl => ?_)
      refine lv_goto (tgt := 47) X.1 X.2.1 dX1_leadsTo_157 rfl ?_
      exact k47 x2 x3 x4 v154 σ H locs ls (lv_sub hl [1, 2, 3, 4, 0] rfl) hO hw
    · have hw := hw.2 hc9
      refine lv_aloadO X.1 X.2.1 dX1_leadsTo_90 (lv_at hl 5 rfl) ?_
      refine lv_iload X.1 X.2.1 dX1_leadsTo_92 (lv_at hl 6 rfl) ?_
      obtain ⟨n94, f94, g94, k94, hw⟩ := hw
      refine ciaload X.1 X.2.1 hK hO g94 k94 dX1_leadsTo_94 ?_
      refine lv_iload_n X.1 X.2.1 dX1_leadsTo_95 rfl (lv_at hl 1 rfl) ?_
      refine lv_icmp_ne (tgt := 101) X.1 X.2.1 dX1_leadsTo_96 rfl (fun hc9 => ?_) (fun hc9 => ?_)
      · have hw := hw.1 hc9
        refine lv_aload_n X.1 X.2.1 dX1_leadsTo_101 rfl (lv_at hl 0 rfl) ?_
        refine lv_aloadO X.1 X.2.1 dX1_leadsTo_102 (lv_at hl 5 rfl) ?_
        refine lv_iload X.1 X.2.1 dX1_leadsTo_104 (lv_at hl 6 rfl) ?_
        obtain ⟨n106, f106, g106, k106, hw⟩ := hw
        refine ciaload X.1 X.2.1 hK hO g106 k106 dX1_leadsTo_106 ?_
        refine c_calli (rest := []) (As := [.int (f106 x7.toNatClampNeg)]) X (cC_X1_named l dC dI b k σ H.size (f106 x7.toNatClampNeg) _ hw) (cwV 1 X.2.2.2.2 gX1_X1_named rfl rfl rfl hdX1_named ⟨Nat.le_trans (show 0 + 1 ≤ 1 by decide) hR.1, Nat.le_trans (show 8 + (2 + 11) + 0 ≤ 21 by decide) hR.2⟩) (cRecv_X1 hK hO) hK hA hO rfl hl.1 rfl (Nat.le_of_ble_eq_true rfl) dX1_leadsTo_107 (Nat.zero_le _) (Nat.zero_le _) (fun r107 t107 H locs hO hw => ?_)
        refine lv_istore (lv' := [(8, .int r107), (0, .ref (b 5)), (2, .int x2), (3, .int x3), (4, .int x4), (5, .int x5), (6, va_rf x6), (7, .int x7)]) X.1 X.2.1 dX1_leadsTo_110 hl (by decide) rfl (fun ls hl => ?_)
        refine lv_iload X.1 X.2.1 dX1_leadsTo_112 (lv_at hl 0 rfl) ?_
        refine lv_iconst (v := -1) X.1 X.2.1 dX1_leadsTo_114 (by decide) ?_
        refine lv_icmp_eq (tgt := 148) X.1 X.2.1 dX1_leadsTo_115 rfl (fun hc9 => ?_) (fun hc9 => ?_)
        · have hw := hw.1 hc9
          exact cB_X1_leadsTo_148 X hr hlk hR hK hA k47 k82 x2 x3 x4 x5 x6 x7 t107 H locs ls (lv_sub hl [1, 2, 3, 4, 5, 6, 7] rfl) hO hw
        · have hw := hw.2 hc9
          refine lv_aload_n X.1 X.2.1 dX1_leadsTo_118 rfl (lv_at hl 1 rfl) ?_
          refine cf_X1_queued X fX1_X1_queued hK hO dX1_leadsTo_119 ?_
          refine lv_iload X.1 X.2.1 dX1_leadsTo_122 (lv_at hl 0 rfl) ?_
          obtain ⟨g124, hw⟩ := hw
          refine ca_9 X.1 X.2.1 hK hO g124 dX1_leadsTo_124 ?_
          refine lv_if_ne (tgt := 148) X.1 X.2.1 dX1_leadsTo_125 rfl (fun hc9 => ?_) (fun hc9 => ?_)
          · have hw := hw.1 hc9
            exact cB_X1_leadsTo_148 X hr hlk hR hK hA k47 k82 x2 x3 x4 x5 x6 x7 t107 H locs ls (lv_sub hl [1, 2, 3, 4, 5, 6, 7] rfl) hO hw
          · have hw := hw.2 hc9
            refine lv_aload_n X.1 X.2.1 dX1_leadsTo_128 rfl (lv_at hl 1 rfl) ?_
            refine cf_X1_queued X fX1_X1_queued hK hO dX1_leadsTo_129 ?_
            refine lv_iload X.1 X.2.1 dX1_leadsTo_132 (lv_at hl 0 rfl) ?_
            refine lv_iconst (v := 1) X.1 X.2.1 dX1_leadsTo_134 (by decide) ?_
            obtain ⟨g135, hw⟩ := hw
            refine cs_9 X.1 X.2.1 hK hO g135 dX1_leadsTo_135 (fun H locs hO => ?_)
            obtain ⟨t135, e135⟩ : ∃ z, z = sA t107 5 r107 (vp_nar .boolean (1 : Int32)) := ⟨_, rfl⟩
            have hw := hw t135 e135
            rw [← e135] at hO
            refine lv_aload_n X.1 X.2.1 dX1_leadsTo_136 rfl (lv_at hl 1 rfl) ?_
            refine cf_X1_queue X fX1_X1_queue hK hO dX1_leadsTo_137 ?_
            refine lv_iload X.1 X.2.1 dX1_leadsTo_140 (lv_at hl 4 rfl) ?_
            refine lv_iload X.1 X.2.1 dX1_leadsTo_142 (lv_at hl 0 rfl) ?_
            obtain ⟨g144, hw⟩ := hw
            refine cs_8 X.1 X.2.1 hK hO g144 dX1_leadsTo_144 (fun H locs hO => ?_)
            obtain ⟨t144, e144⟩ : ∃ z, z = sA t135 4 x4 r107 := ⟨_, rfl⟩
            have hw := hw t144 e144
            rw [← e144] at hO
            obtain ⟨v145, e145⟩ : ∃ z, z = x4 + (1 : Int32) := ⟨_, rfl⟩
            have hw := hw v145 e145
            refine lv_iinc (lv' := [(4, .int v145), (8, .int r107), (0, .ref (b 5)), (2, .int x2), (3, .int x3), (5, .int x5), (6, va_rf x6), (7, .int x7)]) (k := 4) (v := v145) X.1 X.2.1 dX1_leadsTo_145 hl rfl (by rw [e145]; rfl) (by decide) rfl (fun ls hl => ?_)
            exact cB_X1_leadsTo_148 X hr hlk hR hK hA k47 k82 x2 x3 v145 x5 x6 x7 t144 H locs ls (lv_sub hl [2, 3, 4, 0, 5, 6, 7] rfl) hO hw
      · have hw := hw.2 hc9
        refine lv_iconst (v := 1) X.1 X.2.1 dX1_leadsTo_99 (by decide) ?_
        exact W.zret (v := (1 : Int32)) X.1 X.2.1 hr rfl (fun t ht hW => ⟨⟨(1 : Int32), σ, rfl, hw, cO_end hO hK ht hW⟩, hO.2.2.F ht⟩) hO.2.2.2.2 dX1_leadsTo_100 hlk
def C_X1_leadsTo_b47_s (b : Nat → Nat) (k : Nat → ClassId) (Q : Int32 → cS → Prop) (K47 : Int32 → Int32 → Int32 → Int32 → cS → Prop) (x2 : Int32) (x3 : Int32) (x4 : Int32) (x5 : Int32) (σ : cS) : Prop :=
 (x4 ≤ x5 → C_X1_leadsTo_b160 b k Q σ) ∧ (¬ x4 ≤ x5 → ((16 : Int32) ≤ x5 → C_X1_leadsTo_b160 b k Q σ) ∧ (¬ (16 : Int32) ≤ x5 → vp_in x5 16 ∧ vp_in (σ.2.1 4 x5.toNatClampNeg) 16 ∧ ∃ a74 : Nat, pX σ.2.2.2.2 (σ.2.2.1 (σ.2.1 4 x5.toNatClampNeg).toNatClampNeg) 0 a74 ∧ C_X0_directTypes_w b k a74 (fun r74 t74 => C_X1_leadsTo_b82 b k Q K47 x2 x3 x4 x5 r74 (0 : Int32) t74) x3 σ))
def C_X1_leadsTo_b47_f (b : Nat → Nat) (k : Nat → ClassId) (Q : Int32 → cS → Prop) : (Int32 × Int32 × Int32 × Int32 × cS → Prop) → Int32 × Int32 × Int32 × Int32 × cS → Prop :=
 fun K z => C_X1_leadsTo_b47_s b k Q (fun x2 x3 x4 x5 σ => K (x2, x3, x4, x5, σ)) z.1 z.2.1 z.2.2.1 z.2.2.2.1 z.2.2.2.2
def C_X1_leadsTo_b47 (b : Nat → Nat) (k : Nat → ClassId) (Q : Int32 → cS → Prop) (x2 : Int32) (x3 : Int32) (x4 : Int32) (x5 : Int32) (σ : cS) : Prop := ∃ n, fx (C_X1_leadsTo_b47_f b k Q ) n (x2, x3, x4, x5, σ)
set_option maxHeartbeats 4000000 in
set_option maxRecDepth 100000 in
theorem cB_X1_leadsTo_47 {Q : Int32 → cS → Prop} (X : CallFix p m c cX1_leadsTo 9 s args wsX1_leadsTo RX1) (hr : meth.sig.returnType = (some .boolean)) (hlk : meth.locks = false) (hR : 1 ≤ R.frames ∧ 21 ≤ R.locals) (hK : cK dC dI k s) (hA : ∀ q, s.heap.size ≤ q → A q) : ∀ (n : Nat) (x2 : Int32) (x3 : Int32) (x4 : Int32) (x5 : Int32) (σ : cS) (H : Heap) (locs : List Loc) (ls : Array Slot), lv_has ls 9 [(0, .ref (b 5)), (2, .int x2), (3, .int x3), (4, .int x4), (5, .int x5)] → cO dC dI b k A s.heap σ H locs → fx (C_X1_leadsTo_b47_f b k Q ) n (x2, x3, x4, x5, σ) → W p l e R s m args below meth c H locs 0 0 (MQ below (va_Qi Q (cAt dC dI A b k) A) args s 0 0 A) (F0 m 47 ls []) := by
  intro n
  induction n with
  | zero => intro x2 x3 x4 x5 σ H locs ls hl hO hw; exact False.elim hw
  | succ n k47 =>
    intro x2 x3 x4 x5 σ H locs ls hl hO hw
    have hw : C_X1_leadsTo_b47_s b k Q (fun x2 x3 x4 x5 σ => fx (C_X1_leadsTo_b47_f b k Q ) n (x2, x3, x4, x5, σ)) x2 x3 x4 x5 σ := hw
    unfold C_X1_leadsTo_b47_s at hw
    refine lv_iload X.1 X.2.1 dX1_leadsTo_47 (lv_at hl 4 rfl) ?_
    refine lv_iload X.1 X.2.1 dX1_leadsTo_49 (lv_at hl 3 rfl) ?_
    refine lv_icmp_ge (tgt := 160) X.1 X.2.1 dX1_leadsTo_51 rfl (fun hc9 => ?_) (fun hc9 => ?_)
    · have hw := hw.1 hc9
      exact cB_X1_leadsTo_160 X hr hlk hR hK hA σ H locs ls (lv_sub hl [0] rfl) hO hw
    · have hw := hw.2 hc9
      refine lv_iload X.1 X.2.1 dX1_leadsTo_54 (lv_at hl 4 rfl) ?_
      refine lv_bipush (v := 16) X.1 X.2.1 dX1_leadsTo_56 (by decide) ?_
      refine lv_icmp_ge (tgt := 160) X.1 X.2.1 dX1_leadsTo_58 rfl (fun hc9 => ?_) (fun hc9 => ?_)
      · have hw := hw.1 hc9
        exact cB_X1_leadsTo_160 X hr hlk hR hK hA σ H locs ls (lv_sub hl [0] rfl) hO hw
      · have hw := hw.2 hc9
        refine lv_aload_n X.1 X.2.1 dX1_leadsTo_61 rfl (lv_at hl 0 rfl) ?_
        refine cf_X1_files X fX1_X1_files hK hO dX1_leadsTo_62 ?_
        refine lv_aload_n X.1 X.2.1 dX1_leadsTo_65 rfl (lv_at hl 0 rfl) ?_
        refine cf_X1_queue X fX1_X1_queue hK hO dX1_leadsTo_66 ?_
        refine lv_iload X.1 X.2.1 dX1_leadsTo_69 (lv_at hl 4 rfl) ?_
        obtain ⟨g71, hw⟩ := hw
        refine ca_8 X.1 X.2.1 hK hO g71 dX1_leadsTo_71 ?_
        obtain ⟨g72, hw⟩ := hw
        refine ca_6 X.1 X.2.1 hK hO g72 dX1_leadsTo_72 ?_
        refine lv_iload_n X.1 X.2.1 dX1_leadsTo_73 rfl (lv_at hl 2 rfl) ?_
        obtain ⟨a74, z74, hw⟩ := hw
        refine c_callqO (rest := []) (As := [.int x3]) X (cC_X0_directTypes l dC dI b k σ H.size a74 x3 _ hw) (cwV 1 X.2.2.2.2 gX1_X0_directTypes rfl rfl rfl hdX0_directTypes ⟨Nat.le_trans (show 0 + 1 ≤ 1 by decide) hR.1, Nat.le_trans (show 8 + (2 + 11) + 0 ≤ 21 by decide) hR.2⟩) (cRecvP hK hO z74 rfl) z74.1 hK hA hO rfl hl.1 rfl (Nat.le_of_ble_eq_true rfl) dX1_leadsTo_74 (Nat.zero_le _) (Nat.zero_le _) (fun r74 t74 H locs hO hw => ?_)
        refine lv_astoreO (o := r74) (lv' := [(6, va_rf r74), (0, .ref (b 5)), (2, .int x2), (3, .int x3), (4, .int x4), (5, .int x5)]) X.1 X.2.1 dX1_leadsTo_77 hl (by decide) rfl (fun ls hl => ?_)
        refine lv_iconst (v := 0) X.1 X.2.1 dX1_leadsTo_79 (by decide) ?_
        refine lv_istore (lv' := [(7, .int (0 : Int32)), (6, va_rf r74), (0, .ref (b 5)), (2, .int x2), (3, .int x3), (4, .int x4), (5, .int x5)]) X.1 X.2.1 dX1_leadsTo_80 hl (by decide) (by cases r74 <;> rfl) (fun ls hl => ?_)
        obtain ⟨n, hw⟩ := hw
        exact cB_X1_leadsTo_82 X hr hlk hR hK hA k47 n x2 x3 x4 x5 r74 (0 : Int32) t74 H locs ls (lv_sub hl [2, 3, 4, 5, 6, 1, 0] rfl) hO hw
def C_X1_leadsTo_b27 (b : Nat → Nat) (k : Nat → ClassId) (Q : Int32 → cS → Prop) (K3 : Int32 → Int32 → Int32 → Int32 → cS → Prop) (x1 : Int32) (x2 : Int32) (x3 : Int32) (x4 : Int32) (y0 : Int32) (y1 : Int32) (σ : cS) : Prop :=
 vp_in y1 16 ∧ ∀ t27 : cS, t27 = sA σ 5 y1 (vp_nar .boolean y0) → ∀ v28 : Int32, v28 = x4 + (1 : Int32) → K3 x1 x2 x3 v28 t27
set_option maxHeartbeats 4000000 in
set_option maxRecDepth 100000 in
theorem cB_X1_leadsTo_27 {Q : Int32 → cS → Prop} {K3 : Int32 → Int32 → Int32 → Int32 → cS → Prop} (X : CallFix p m c cX1_leadsTo 9 s args wsX1_leadsTo RX1) (hr : meth.sig.returnType = (some .boolean)) (hlk : meth.locks = false) (hR : 1 ≤ R.frames ∧ 21 ≤ R.locals) (hK : cK dC dI k s) (hA : ∀ q, s.heap.size ≤ q → A q) (k3 : ∀ (x1 : Int32) (x2 : Int32) (x3 : Int32) (x4 : Int32) (σ : cS) (H : Heap) (locs : List Loc) (ls : Array Slot), lv_has ls 9 [(0, .ref (b 5)), (1, .int x1), (2, .int x2), (3, .int x3), (4, .int x4)] → cO dC dI b k A s.heap σ H locs → K3 x1 x2 x3 x4 σ → W p l e R s m args below meth c H locs 0 0 (MQ below (va_Qi Q (cAt dC dI A b k) A) args s 0 0 A) (F0 m 3 ls [])) (x1 : Int32) (x2 : Int32) (x3 : Int32) (x4 : Int32) (y0 : Int32) (y1 : Int32) (σ : cS) (H : Heap) (locs : List Loc) (ls : Array Slot) (hl : lv_has ls 9 [(0, .ref (b 5)), (1, .int x1), (2, .int x2), (3, .int x3), (4, .int x4)]) (hO : cO dC dI b k A s.heap σ H locs) (hw : C_X1_leadsTo_b27 b k Q K3 x1 x2 x3 x4 y0 y1 σ) : W p l e R s m args below meth c H locs 0 0 (MQ below (va_Qi Q (cAt dC dI A b k) A) args s 0 0 A) (F0 m 27 ls [.int y0, .int y1, .ref (b 9)]) := by
  unfold C_X1_leadsTo_b27 at hw
  obtain ⟨g27, hw⟩ := hw
  refine cs_9 X.1 X.2.1 hK hO g27 dX1_leadsTo_27 (fun H locs hO => ?_)
  obtain ⟨t27, e27⟩ : ∃ z, z = sA σ 5 y1 (vp_nar .boolean y0) := ⟨_, rfl⟩
  have hw := hw t27 e27
  rw [← e27] at hO
  obtain ⟨v28, e28⟩ : ∃ z, z = x4 + (1 : Int32) := ⟨_, rfl⟩
  have hw := hw v28 e28
  refine lv_iinc (lv' := [(4, .int v28), (0, .ref (b 5)), (1, .int x1), (2, .int x2), (3, .int x3)]) (k := 4) (v := v28) X.1 X.2.1 dX1_leadsTo_28 hl rfl (by rw [e28]; rfl) (by decide) rfl (fun ls hl => ?_)
  refine lv_goto (tgt := 3) X.1 X.2.1 dX1_leadsTo_31 rfl ?_
  exact k3 x1 x2 x3 v28 t27 H locs ls (lv_sub hl [1, 2, 3, 4, 0] rfl) hO hw
def C_X1_leadsTo_b3_s (b : Nat → Nat) (k : Nat → ClassId) (Q : Int32 → cS → Prop) (K3 : Int32 → Int32 → Int32 → Int32 → cS → Prop) (x1 : Int32) (x2 : Int32) (x3 : Int32) (x4 : Int32) (σ : cS) : Prop :=
 ((16 : Int32) ≤ x4 → ∀ t40 : cS, t40 = sA σ 4 (0 : Int32) x1 → C_X1_leadsTo_b47 b k Q x2 x3 (1 : Int32) (0 : Int32) t40) ∧ (¬ (16 : Int32) ≤ x4 → (¬ x4 = x1 → C_X1_leadsTo_b27 b k Q K3 x1 x2 x3 x4 (0 : Int32) x4 σ) ∧ (x4 = x1 → C_X1_leadsTo_b27 b k Q K3 x1 x2 x3 x4 (1 : Int32) x4 σ))
def C_X1_leadsTo_b3_f (b : Nat → Nat) (k : Nat → ClassId) (Q : Int32 → cS → Prop) : (Int32 × Int32 × Int32 × Int32 × cS → Prop) → Int32 × Int32 × Int32 × Int32 × cS → Prop :=
 fun K z => C_X1_leadsTo_b3_s b k Q (fun x1 x2 x3 x4 σ => K (x1, x2, x3, x4, σ)) z.1 z.2.1 z.2.2.1 z.2.2.2.1 z.2.2.2.2
def C_X1_leadsTo_b3 (b : Nat → Nat) (k : Nat → ClassId) (Q : Int32 → cS → Prop) (x1 : Int32) (x2 : Int32) (x3 : Int32) (x4 : Int32) (σ : cS) : Prop := ∃ n, fx (C_X1_leadsTo_b3_f b k Q ) n (x1, x2, x3, x4, σ)
set_option maxHeartbeats 4000000 in
set_option maxRecDepth 100000 in
theorem cB_X1_leadsTo_3 {Q : Int32 → cS → Prop} (X : CallFix p m c cX1_leadsTo 9 s args wsX1_leadsTo RX1) (hr : meth.sig.returnType = (some .boolean)) (hlk : meth.locks = false) (hR : 1 ≤ R.frames ∧ 21 ≤ R.locals) (hK : cK dC dI k s) (hA : ∀ q, s.heap.size ≤ q → A q) : ∀ (n : Nat) (x1 : Int32) (x2 : Int32) (x3 : Int32) (x4 : Int32) (σ : cS) (H : Heap) (locs : List Loc) (ls : Array Slot), lv_has ls 9 [(0, .ref (b 5)), (1, .int x1), (2, .int x2), (3, .int x3), (4, .int x4)] → cO dC dI b k A s.heap σ H locs → fx (C_X1_leadsTo_b3_f b k Q ) n (x1, x2, x3, x4, σ) → W p l e R s m args below meth c H locs 0 0 (MQ below (va_Qi Q (cAt dC dI A b k) A) args s 0 0 A) (F0 m 3 ls []) := by
  intro n
  induction n with
  | zero => intro x1 x2 x3 x4 σ H locs ls hl hO hw; exact False.elim hw
  | succ n k3 =>
    intro x1 x2 x3 x4 σ H locs ls hl hO hw
    have hw : C_X1_leadsTo_b3_s b k Q (fun x1 x2 x3 x4 σ => fx (C_X1_leadsTo_b3_f b k Q ) n (x1, x2, x3, x4, σ)) x1 x2 x3 x4 σ := hw
    unfold C_X1_leadsTo_b3_s at hw
    refine lv_iload X.1 X.2.1 dX1_leadsTo_3 (lv_at hl 4 rfl) ?_
    refine lv_bipush (v := 16) X.1 X.2.1 dX1_leadsTo_5 (by decide) ?_
    refine lv_icmp_ge (tgt := 34) X.1 X.2.1 dX1_leadsTo_7 rfl (fun hc9 => ?_) (fun hc9 => ?_)
    · have hw := hw.1 hc9
      refine lv_aload_n X.1 X.2.1 dX1_leadsTo_34 rfl (lv_at hl 0 rfl) ?_
      refine cf_X1_queue X fX1_X1_queue hK hO dX1_leadsTo_35 ?_
      refine lv_iconst (v := 0) X.1 X.2.1 dX1_leadsTo_38 (by decide) ?_
      refine lv_iload_n X.1 X.2.1 dX1_leadsTo_39 rfl (lv_at hl 1 rfl) ?_
      refine cs_8 X.1 X.2.1 hK hO (by unfold vp_in; decide) dX1_leadsTo_40 (fun H locs hO => ?_)
      obtain ⟨t40, e40⟩ : ∃ z, z = sA σ 4 (0 : Int32) x1 := ⟨_, rfl⟩
      have hw := hw t40 e40
      rw [← e40] at hO
      refine lv_iconst (v := 1) X.1 X.2.1 dX1_leadsTo_41 (by decide) ?_
      refine lv_istore (lv' := [(4, .int (1 : Int32)), (0, .ref (b 5)), (1, .int x1), (2, .int x2), (3, .int x3)]) X.1 X.2.1 dX1_leadsTo_42 hl (by decide) rfl (fun ls hl => ?_)
      refine lv_iconst (v := 0) X.1 X.2.1 dX1_leadsTo_44 (by decide) ?_
      refine lv_istore (lv' := [(5, .int (0 : Int32)), (4, .int (1 : Int32)), (0, .ref (b 5)), (1, .int x1), (2, .int x2), (3, .int x3)]) X.1 X.2.1 dX1_leadsTo_45 hl (by decide) rfl (fun ls hl => ?_)
      obtain ⟨n, hw⟩ := hw
      exact cB_X1_leadsTo_47 X hr hlk hR hK hA n x2 x3 (1 : Int32) (0 : Int32) t40 H locs ls (lv_sub hl [2, 4, 5, 1, 0] rfl) hO hw
    · have hw := hw.2 hc9
      refine lv_aload_n X.1 X.2.1 dX1_leadsTo_10 rfl (lv_at hl 0 rfl) ?_
      refine cf_X1_queued X fX1_X1_queued hK hO dX1_leadsTo_11 ?_
      refine lv_iload X.1 X.2.1 dX1_leadsTo_14 (lv_at hl 4 rfl) ?_
      refine lv_iload X.1 X.2.1 dX1_leadsTo_16 (lv_at hl 4 rfl) ?_
      refine lv_iload_n X.1 X.2.1 dX1_leadsTo_18 rfl (lv_at hl 1 rfl) ?_
      refine lv_icmp_ne (tgt := 26) X.1 X.2.1 dX1_leadsTo_19 rfl (fun hc9 => ?_) (fun hc9 => ?_)
      · have hw := hw.1 hc9
        refine lv_iconst (v := 0) X.1 X.2.1 dX1_leadsTo_26 (by decide) ?_
        exact cB_X1_leadsTo_27 X hr hlk hR hK hA k3 x1 x2 x3 x4 (0 : Int32) x4 σ H locs ls (lv_sub hl [0, 1, 2, 3, 4] rfl) hO hw
      · have hw := hw.2 hc9
        refine lv_iconst (v := 1) X.1 X.2.1 dX1_leadsTo_22 (by decide) ?_
        refine lv_goto (tgt := 27) X.1 X.2.1 dX1_leadsTo_23 rfl ?_
        exact cB_X1_leadsTo_27 X hr hlk hR hK hA k3 x1 x2 x3 x4 (1 : Int32) x4 σ H locs ls (lv_sub hl [0, 1, 2, 3, 4] rfl) hO hw
def C_X1_leadsTo_b0 (b : Nat → Nat) (k : Nat → ClassId) (Q : Int32 → cS → Prop) (x1 : Int32) (x2 : Int32) (x3 : Int32) (σ : cS) : Prop :=
 C_X1_leadsTo_b3 b k Q x1 x2 x3 (0 : Int32) σ
set_option maxHeartbeats 4000000 in
set_option maxRecDepth 100000 in
theorem cB_X1_leadsTo_0 {Q : Int32 → cS → Prop} (X : CallFix p m c cX1_leadsTo 9 s args wsX1_leadsTo RX1) (hr : meth.sig.returnType = (some .boolean)) (hlk : meth.locks = false) (hR : 1 ≤ R.frames ∧ 21 ≤ R.locals) (hK : cK dC dI k s) (hA : ∀ q, s.heap.size ≤ q → A q) (x1 : Int32) (x2 : Int32) (x3 : Int32) (σ : cS) (H : Heap) (locs : List Loc) (ls : Array Slot) (hl : lv_has ls 9 [(0, .ref (b 5)), (1, .int x1), (2, .int x2), (3, .int x3)]) (hO : cO dC dI b k A s.heap σ H locs) (hw : C_X1_leadsTo_b0 b k Q x1 x2 x3 σ) : W p l e R s m args below meth c H locs 0 0 (MQ below (va_Qi Q (cAt dC dI A b k) A) args s 0 0 A) (F0 m 0 ls []) := by
  unfold C_X1_leadsTo_b0 at hw
  refine lv_iconst (v := 0) X.1 X.2.1 dX1_leadsTo_0 (by decide) ?_
  refine lv_istore (lv' := [(4, .int (0 : Int32)), (0, .ref (b 5)), (1, .int x1), (2, .int x2), (3, .int x3)]) X.1 X.2.1 dX1_leadsTo_1 hl (by decide) rfl (fun ls hl => ?_)
  obtain ⟨n, hw⟩ := hw
  exact cB_X1_leadsTo_3 X hr hlk hR hK hA n x1 x2 x3 (0 : Int32) σ H locs ls (lv_sub hl [1, 2, 3, 4, 0] rfl) hO hw
def C_X1_leadsTo_w (b : Nat → Nat) (k : Nat → ClassId) (Q : Int32 → cS → Prop) (x1 : Int32) (x2 : Int32) (x3 : Int32) (σ : cS) : Prop := C_X1_leadsTo_b0 b k Q x1 x2 x3 σ
abbrev rmX1_leadsTo : Room := { frames := 1, cells := 0, slots := 0, locals := 21 }
set_option maxHeartbeats 4000000 in
set_option maxRecDepth 100000 in
theorem cC_X1_leadsTo (l : Launch) (dC : Nat → ClassId) (dI : Nat → Nat → Nat) (b : Nat → Nat) (k : Nat → ClassId) (σ : cS) (sz : Nat) (x1 : Int32) (x2 : Int32) (x3 : Int32) (Q : Int32 → cS → Prop) (hw : C_X1_leadsTo_w b k Q x1 x2 x3 σ) : Met l yX1_leadsTo wsX1_leadsTo rmX1_leadsTo (cPc dC dI b k sz σ [.ref (b 5), .int x1, .int x2, .int x3]) (va_Qi Q (cAt dC dI (va_A (cCells b k σ) sz) b k) (va_A (cCells b k σ) sz)) 0 0 (va_A (cCells b k σ) sz) := by
  refine Met.ofW (cc := cX1_leadsTo) (maxL := 9) (ret := (some .boolean)) (by decide) rfl ?_
  intro p e s m args below meth c s₁ B hml hv
  obtain ⟨hargs, hsz, hP, hK, hD0⟩ := hv
  have hts := atoms_spec (ws := wsX1_leadsTo) B.pre
  have hown : s.vm.findClass RX1 = some m.cls := findClass_of_methodNamed B.named
  subst hsz
  subst hargs
  have hD := hD0.self (sz := s.heap.size)
  generalize hAe : va_A (cCells b k σ) s.heap.size = A at hD ⊢
  have hA : ∀ q : Nat, s.heap.size ≤ q → A q := fun q h => by rw [← hAe]; exact Or.inr h
  have hl := lv_entry ([.ref (b 5), .int x1, .int x2, .int x3]) (n := 9) (Nat.le_of_ble_eq_true rfl)
  rw [lg_entry_eq]
  generalize (lg_sl ([.ref (b 5), .int x1, .int x2, .int x3]) ++ List.replicate (9 - (lg_sl ([.ref (b 5), .int x1, .int x2, .int x3])).length) Slot.unset).toArray = ls at hl ⊢
  have hl : lv_has ls 9 [(0, .ref (b 5)), (1, .int x1), (2, .int x2), (3, .int x3)] := hl
  unfold C_X1_leadsTo_w at hw
  exact cB_X1_leadsTo_0 ⟨B.exec, B.bytes, hml, hown, hts⟩ B.returns B.notSynchronized ⟨Nat.le_of_ble_eq_true rfl, Nat.le_of_ble_eq_true rfl⟩ hK hA x1 x2 x3 σ s.heap [] ls (lv_sub hl [0, 1, 2, 3] rfl) ⟨hP, hD, va_S.rf⟩ hw
def C_X2_init_b0 (b : Nat → Nat) (k : Nat → ClassId) (MC MS : Nat) (h : Nat) (Q : cS → Prop) (x1 : Int32) (nc : Nat) (ns : Nat) (σ : cS) : Prop :=
 ¬ x1 < 0 ∧ x1.toNatClampNeg ≤ 1000 ∧ nc + 1 ≤ MC ∧ ns + x1.toNatClampNeg ≤ MS ∧ ∀ (q6 : Nat) (t6 : cS), t6 = sN σ (q6, .inl (k 0, x1.toNatClampNeg, .inl (fun _ => 0))) → ∃ (j8 : Nat) (f8 : List Value), t6.2.2.2.2[j8]? = some (h, .inr (2, f8)) ∧ 0 < f8.length ∧ ∀ t8 : cS, t8 = sP t6 j8 (h, .inr (2, f8.set 0 (va_rf (some q6)))) → ¬ x1 < 0 ∧ x1.toNatClampNeg ≤ 1000 ∧ (nc + 1) + 1 ≤ MC ∧ (ns + x1.toNatClampNeg) + x1.toNatClampNeg ≤ MS ∧ ∀ (q13 : Nat) (t13 : cS), t13 = sN t8 (q13, .inl (k 3, x1.toNatClampNeg, .inr (.inr (.inr (.inr (fun _ => none)))))) → ∃ (j16 : Nat) (f16 : List Value), t13.2.2.2.2[j16]? = some (h, .inr (2, f16)) ∧ 1 < f16.length ∧ ∀ t16 : cS, t16 = sP t13 j16 (h, .inr (2, f16.set 1 (va_rf (some q13)))) → Q t16
set_option maxHeartbeats 4000000 in
set_option maxRecDepth 100000 in
theorem cB_X2_init_0 {MC MS : Nat} {h : Nat} {Q : cS → Prop} (X : CallFix p m c cX2_init 2 s args wsX2_init RX2) (hr : meth.sig.returnType = none) (hlk : meth.locks = false) (hR : 1 ≤ R.frames ∧ 20 ≤ R.locals) (hK : cK dC dI k s) (hA : ∀ q, s.heap.size ≤ q → A q) (hRc : R.cells = MC ∧ R.slots = MS) (hin0 : meth.name = "<init>") (x1 : Int32) (nc : Nat) (ns : Nat) (σ : cS) (H : Heap) (locs : List Loc) (ls : Array Slot) (hl : lv_has ls 2 [(0, .ref h), (1, .int x1)]) (hO : cO dC dI b k A s.heap σ H locs) (hc : (nc ≤ MC ∧ ns ≤ MS)) (hw : C_X2_init_b0 b k MC MS h Q x1 nc ns σ) : W p l e R s m args below meth c H locs nc ns (MQ below (va_Qv Q (cAt dC dI A b k) A) args s MC MS A) (F0 m 0 ls []) := by
  unfold C_X2_init_b0 at hw
  refine lv_aload_n X.1 X.2.1 dX2_init_0 rfl (lv_at hl 0 rfl) ?_
  refine W.objInit X.1 X.2.1 X.2.2.2.1 (X.2.2.2.2 _ (List.mem_cons_of_mem _ oX2_link)) (X.2.2.2.2 _ (List.mem_cons_of_mem _ oInst)) (X.2.2.2.2 _ (List.mem_cons_of_mem _ oCode)) rfl (by rw [X.2.2.1]; exact hl.1) rfl dX2_init_1 (Nat.le_trans (by decide) hR.1) (Nat.le_trans (Nat.le_of_ble_eq_true rfl) hR.2) ?_
  refine W.eq (g2 := F0 m 4 ls []) rfl ?_
  refine lv_aload_n X.1 X.2.1 dX2_init_4 rfl (lv_at hl 0 rfl) ?_
  refine lv_iload_n X.1 X.2.1 dX2_init_5 rfl (lv_at hl 1 rfl) ?_
  obtain ⟨g6, k6, hc1, hc2, hw⟩ := hw
  have hc : nc + 1 ≤ MC ∧ ns + x1.toNatClampNeg ≤ MS := ⟨hc1, hc2⟩
  refine cnewa X  hK hO hA g6 k6 (by rw [hRc.1]; exact hc.1) (by rw [hRc.2]; exact hc.2) dX2_init_6 (fun q6 H hO => ?_)
  obtain ⟨t6, e6⟩ : ∃ z, z = sN σ (q6, .inl (k 0, x1.toNatClampNeg, .inl (fun _ => 0))) := ⟨_, rfl⟩
  have hw := hw q6 t6 e6
  rw [← e6] at hO
  obtain ⟨j8, f8, g8, k8, hw⟩ := hw
  refine cw_X2_names (o := (some q6)) X fX2_X2_names hK hO hin0 g8 k8 dX2_init_8 (fun H locs hO => ?_)
  obtain ⟨t8, e8⟩ : ∃ z, z = sP t6 j8 (h, .inr (2, f8.set 0 (va_rf (some q6)))) := ⟨_, rfl⟩
  have hw := hw t8 e8
  rw [← e8] at hO
  refine lv_aload_n X.1 X.2.1 dX2_init_11 rfl (lv_at hl 0 rfl) ?_
  refine lv_iload_n X.1 X.2.1 dX2_init_12 rfl (lv_at hl 1 rfl) ?_
  obtain ⟨g13, k13, hc1, hc2, hw⟩ := hw
  have hc : (nc + 1) + 1 ≤ MC ∧ (ns + x1.toNatClampNeg) + x1.toNatClampNeg ≤ MS := ⟨hc1, hc2⟩
  refine cnewq X nX2_X5 hK hO hA g13 k13 (by rw [hRc.1]; exact hc.1) (by rw [hRc.2]; exact hc.2) dX2_init_13 (fun q13 H hO => ?_)
  obtain ⟨t13, e13⟩ : ∃ z, z = sN t8 (q13, .inl (k 3, x1.toNatClampNeg, .inr (.inr (.inr (.inr (fun _ => none)))))) := ⟨_, rfl⟩
  have hw := hw q13 t13 e13
  rw [← e13] at hO
  obtain ⟨j16, f16, g16, k16, hw⟩ := hw
  refine cw_X2_values (o := (some q13)) X fX2_X2_values hK hO hin0 g16 k16 dX2_init_16 (fun H locs hO => ?_)
  obtain ⟨t16, e16⟩ : ∃ z, z = sP t13 j16 (h, .inr (2, f16.set 1 (va_rf (some q13)))) := ⟨_, rfl⟩
  have hw := hw t16 e16
  rw [← e16] at hO
  refine W.widen (k := MC) (n := MS) hc.1 hc.2 ?_
  exact W.vret X.1 X.2.1 hr (fun t ht hW => ⟨⟨t16, rfl, hw, cO_end hO hK ht hW⟩, hO.2.2.F ht⟩) hO.2.2.2.2 dX2_init_19 hlk
def C_X2_init_w (b : Nat → Nat) (k : Nat → ClassId) (MC MS : Nat) (h : Nat) (Q : cS → Prop) (x1 : Int32) (σ : cS) : Prop := C_X2_init_b0 b k MC MS h Q x1 0 0 σ
abbrev rmX2_init (MC MS : Nat) : Room := { frames := 1, cells := MC, slots := MS, locals := 20 }
set_option maxHeartbeats 4000000 in
set_option maxRecDepth 100000 in
theorem cC_X2_init (l : Launch) (dC : Nat → ClassId) (dI : Nat → Nat → Nat) (b : Nat → Nat) (k : Nat → ClassId) (σ : cS) (sz : Nat) (MC MS : Nat) (h : Nat) (x1 : Int32) (Q : cS → Prop) (hw : C_X2_init_w b k MC MS h Q x1 σ) : Met l yX2_init wsX2_init (rmX2_init MC MS) (cPc dC dI b k sz σ [.ref h, .int x1]) (va_Qv Q (cAt dC dI (va_A (cCells b k σ) sz) b k) (va_A (cCells b k σ) sz)) MC MS (va_A (cCells b k σ) sz) := by
  refine Met.ofW (cc := cX2_init) (maxL := 2) (ret := none) (by decide) rfl ?_
  intro p e s m args below meth c s₁ B hml hv
  obtain ⟨hargs, hsz, hP, hK, hD0⟩ := hv
  have hts := atoms_spec (ws := wsX2_init) B.pre
  have hown : s.vm.findClass RX2 = some m.cls := findClass_of_methodNamed B.named
  subst hsz
  subst hargs
  have hD := hD0.self (sz := s.heap.size)
  generalize hAe : va_A (cCells b k σ) s.heap.size = A at hD ⊢
  have hA : ∀ q : Nat, s.heap.size ≤ q → A q := fun q h => by rw [← hAe]; exact Or.inr h
  have hl := lv_entry ([.ref h, .int x1]) (n := 2) (Nat.le_of_ble_eq_true rfl)
  rw [lg_entry_eq]
  generalize (lg_sl ([.ref h, .int x1]) ++ List.replicate (2 - (lg_sl ([.ref h, .int x1])).length) Slot.unset).toArray = ls at hl ⊢
  have hl : lv_has ls 2 [(0, .ref h), (1, .int x1)] := hl
  unfold C_X2_init_w at hw
  exact cB_X2_init_0 ⟨B.exec, B.bytes, hml, hown, hts⟩ B.returns B.notSynchronized ⟨Nat.le_of_ble_eq_true rfl, Nat.le_of_ble_eq_true rfl⟩ hK hA ⟨rfl, rfl⟩ (name_of_methodNamed B.named B.method).1 x1 0 0 σ s.heap [] ls (lv_sub hl [0, 1] rfl) ⟨hP, hD, va_S.rf⟩ ⟨Nat.zero_le _, Nat.zero_le _⟩ hw
def C_X2_firstNamed_b2_s (b : Nat → Nat) (k : Nat → ClassId) (h : Nat) (Q : Option Nat → cS → Prop) (K2 : Int32 → Int32 → cS → Prop) (x1 : Int32) (x2 : Int32) (σ : cS) : Prop :=
 ∃ v4 : Option Nat, pR σ.2.2.2.2 (some h) 2 0 v4 ∧ ∃ (n7 : Nat) (f7 : Nat → Int32), pA σ.2.2.2.2 v4 (k 0) n7 f7 ∧ ((Int32.ofNat n7) ≤ x2 → Q none σ) ∧ (¬ (Int32.ofNat n7) ≤ x2 → ∃ v12 : Option Nat, pR σ.2.2.2.2 (some h) 2 0 v12 ∧ ∃ (n16 : Nat) (f16 : Nat → Int32), pA σ.2.2.2.2 v12 (k 0) n16 f16 ∧ vp_in x2 n16 ∧ (¬ (f16 x2.toNatClampNeg) = x1 → ∀ v28 : Int32, v28 = x2 + (1 : Int32) → K2 x1 v28 σ) ∧ ((f16 x2.toNatClampNeg) = x1 → ∃ v22 : Option Nat, pR σ.2.2.2.2 (some h) 2 1 v22 ∧ ∃ (n26 : Nat) (f26 : Nat → Option Nat), pQ σ.2.2.2.2 v22 (k 3) n26 f26 ∧ vp_in x2 n26 ∧ Q (f26 x2.toNatClampNeg) σ))
def C_X2_firstNamed_b2_f (b : Nat → Nat) (k : Nat → ClassId) (h : Nat) (Q : Option Nat → cS → Prop) : (Int32 × Int32 × cS → Prop) → Int32 × Int32 × cS → Prop :=
 fun K z => C_X2_firstNamed_b2_s b k h Q (fun x1 x2 σ => K (x1, x2, σ)) z.1 z.2.1 z.2.2
def C_X2_firstNamed_b2 (b : Nat → Nat) (k : Nat → ClassId) (h : Nat) (Q : Option Nat → cS → Prop) (x1 : Int32) (x2 : Int32) (σ : cS) : Prop := ∃ n, fx (C_X2_firstNamed_b2_f b k h Q ) n (x1, x2, σ)
set_option maxHeartbeats 4000000 in
set_option maxRecDepth 100000 in
theorem cB_X2_firstNamed_2 {h : Nat} {Q : Option Nat → cS → Prop} (X : CallFix p m c cX2_firstNamed 3 s args wsX2_firstNamed RX2) (hr : meth.sig.returnType = (some (.object "ClassFileIndex$Value"))) (hlk : meth.locks = false) (hR : 0 ≤ R.frames ∧ 0 ≤ R.locals) (hK : cK dC dI k s) (hA : ∀ q, s.heap.size ≤ q → A q) : ∀ (n : Nat) (x1 : Int32) (x2 : Int32) (σ : cS) (H : Heap) (locs : List Loc) (ls : Array Slot), lv_has ls 3 [(0, .ref h), (1, .int x1), (2, .int x2)] → cO dC dI b k A s.heap σ H locs → fx (C_X2_firstNamed_b2_f b k h Q ) n (x1, x2, σ) → W p l e R s m args below meth c H locs 0 0 (MQ below (va_Qq Q (cAt dC dI A b k) A) args s 0 0 A) (F0 m 2 ls []) := by
  intro n
  induction n with
  | zero => intro x1 x2 σ H locs ls hl hO hw; exact False.elim hw
  | succ n k2 =>
    intro x1 x2 σ H locs ls hl hO hw
    have hw : C_X2_firstNamed_b2_s b k h Q (fun x1 x2 σ => fx (C_X2_firstNamed_b2_f b k h Q ) n (x1, x2, σ)) x1 x2 σ := hw
    unfold C_X2_firstNamed_b2_s at hw
    refine lv_iload_n X.1 X.2.1 dX2_firstNamed_2 rfl (lv_at hl 2 rfl) ?_
    refine lv_aload_n X.1 X.2.1 dX2_firstNamed_3 rfl (lv_at hl 0 rfl) ?_
    obtain ⟨v4, g4, hw⟩ := hw
    refine cg_X2_names X fX2_X2_names hK hO g4 dX2_firstNamed_4 ?_
    obtain ⟨n7, f7, g7, hw⟩ := hw
    refine clenA X.1 X.2.1 hK hO g7 dX2_firstNamed_7 ?_
    refine lv_icmp_ge (tgt := 34) X.1 X.2.1 dX2_firstNamed_8 rfl (fun hc9 => ?_) (fun hc9 => ?_)
    · have hw := hw.1 hc9
      refine lv_null X.1 X.2.1 dX2_firstNamed_34 ?_
      exact W.aret (v := va_rf none) X.1 X.2.1 hr (Or.inl ⟨_, rfl⟩) (va_rf_or _) (fun t ht hW => ⟨⟨none, σ, rfl, hw, cO_end hO hK ht hW⟩, hO.2.2.F ht⟩) hO.2.2.2.2 dX2_firstNamed_35 hlk
    · have hw := hw.2 hc9
      refine lv_aload_n X.1 X.2.1 dX2_firstNamed_11 rfl (lv_at hl 0 rfl) ?_
      obtain ⟨v12, g12, hw⟩ := hw
      refine cg_X2_names X fX2_X2_names hK hO g12 dX2_firstNamed_12 ?_
      refine lv_iload_n X.1 X.2.1 dX2_firstNamed_15 rfl (lv_at hl 2 rfl) ?_
      obtain ⟨n16, f16, g16, k16, hw⟩ := hw
      refine ciaload X.1 X.2.1 hK hO g16 k16 dX2_firstNamed_16 ?_
      refine lv_iload_n X.1 X.2.1 dX2_firstNamed_17 rfl (lv_at hl 1 rfl) ?_
      refine lv_icmp_ne (tgt := 28) X.1 X.2.1 dX2_firstNamed_18 rfl (fun hc9 => ?_) (fun hc9 => ?_)
      · have hw := hw.1 hc9
        obtain ⟨v28, e28⟩ : ∃ z, z = x2 + (1 : Int32) := ⟨_, rfl⟩
        have hw := hw v28 e28
        refine lv_iinc (lv' := [(2, .int v28), (0, .ref h), (1, .int x1)]) (k := 2) (v := v28) X.1 X.2.1 dX2_firstNamed_28 hl rfl (by rw [e28]; rfl) (by decide) rfl (fun ls hl => ?_)
        refine lv_goto (tgt := 2) X.1 X.2.1 dX2_firstNamed_31 rfl ?_
        exact k2 x1 v28 σ H locs ls (lv_sub hl [1, 2, 0] rfl) hO hw
      · have hw := hw.2 hc9
        refine lv_aload_n X.1 X.2.1 dX2_firstNamed_21 rfl (lv_at hl 0 rfl) ?_
        obtain ⟨v22, g22, hw⟩ := hw
        refine cg_X2_values X fX2_X2_values hK hO g22 dX2_firstNamed_22 ?_
        refine lv_iload_n X.1 X.2.1 dX2_firstNamed_25 rfl (lv_at hl 2 rfl) ?_
        obtain ⟨n26, f26, g26, k26, hw⟩ := hw
        refine caaload X.1 X.2.1 hK hO g26 k26 dX2_firstNamed_26 ?_
        exact W.aret (v := va_rf (f26 x2.toNatClampNeg)) X.1 X.2.1 hr (Or.inl ⟨_, rfl⟩) (va_rf_or _) (fun t ht hW => ⟨⟨(f26 x2.toNatClampNeg), σ, rfl, hw, cO_end hO hK ht hW⟩, hO.2.2.F ht⟩) hO.2.2.2.2 dX2_firstNamed_27 hlk
def C_X2_firstNamed_b0 (b : Nat → Nat) (k : Nat → ClassId) (h : Nat) (Q : Option Nat → cS → Prop) (x1 : Int32) (σ : cS) : Prop :=
 C_X2_firstNamed_b2 b k h Q x1 (0 : Int32) σ
set_option maxHeartbeats 4000000 in
set_option maxRecDepth 100000 in
theorem cB_X2_firstNamed_0 {h : Nat} {Q : Option Nat → cS → Prop} (X : CallFix p m c cX2_firstNamed 3 s args wsX2_firstNamed RX2) (hr : meth.sig.returnType = (some (.object "ClassFileIndex$Value"))) (hlk : meth.locks = false) (hR : 0 ≤ R.frames ∧ 0 ≤ R.locals) (hK : cK dC dI k s) (hA : ∀ q, s.heap.size ≤ q → A q) (x1 : Int32) (σ : cS) (H : Heap) (locs : List Loc) (ls : Array Slot) (hl : lv_has ls 3 [(0, .ref h), (1, .int x1)]) (hO : cO dC dI b k A s.heap σ H locs) (hw : C_X2_firstNamed_b0 b k h Q x1 σ) : W p l e R s m args below meth c H locs 0 0 (MQ below (va_Qq Q (cAt dC dI A b k) A) args s 0 0 A) (F0 m 0 ls []) := by
  unfold C_X2_firstNamed_b0 at hw
  refine lv_iconst (v := 0) X.1 X.2.1 dX2_firstNamed_0 (by decide) ?_
  refine lv_istore_n (lv' := [(2, .int (0 : Int32)), (0, .ref h), (1, .int x1)]) X.1 X.2.1 dX2_firstNamed_1 rfl hl (by decide) rfl (fun ls hl => ?_)
  obtain ⟨n, hw⟩ := hw
  exact cB_X2_firstNamed_2 X hr hlk hR hK hA n x1 (0 : Int32) σ H locs ls (lv_sub hl [1, 2, 0] rfl) hO hw
def C_X2_firstNamed_w (b : Nat → Nat) (k : Nat → ClassId) (h : Nat) (Q : Option Nat → cS → Prop) (x1 : Int32) (σ : cS) : Prop := C_X2_firstNamed_b0 b k h Q x1 σ
abbrev rmX2_firstNamed : Room := { frames := 0, cells := 0, slots := 0, locals := 0 }
set_option maxHeartbeats 4000000 in
set_option maxRecDepth 100000 in
theorem cC_X2_firstNamed (l : Launch) (dC : Nat → ClassId) (dI : Nat → Nat → Nat) (b : Nat → Nat) (k : Nat → ClassId) (σ : cS) (sz : Nat) (h : Nat) (x1 : Int32) (Q : Option Nat → cS → Prop) (hw : C_X2_firstNamed_w b k h Q x1 σ) : Met l yX2_firstNamed wsX2_firstNamed rmX2_firstNamed (cPc dC dI b k sz σ [.ref h, .int x1]) (va_Qq Q (cAt dC dI (va_A (cCells b k σ) sz) b k) (va_A (cCells b k σ) sz)) 0 0 (va_A (cCells b k σ) sz) := by
  refine Met.ofW (cc := cX2_firstNamed) (maxL := 3) (ret := (some (.object "ClassFileIndex$Value"))) (by decide) rfl ?_
  intro p e s m args below meth c s₁ B hml hv
  obtain ⟨hargs, hsz, hP, hK, hD0⟩ := hv
  have hts := atoms_spec (ws := wsX2_firstNamed) B.pre
  have hown : s.vm.findClass RX2 = some m.cls := findClass_of_methodNamed B.named
  subst hsz
  subst hargs
  have hD := hD0.self (sz := s.heap.size)
  generalize hAe : va_A (cCells b k σ) s.heap.size = A at hD ⊢
  have hA : ∀ q : Nat, s.heap.size ≤ q → A q := fun q h => by rw [← hAe]; exact Or.inr h
  have hl := lv_entry ([.ref h, .int x1]) (n := 3) (Nat.le_of_ble_eq_true rfl)
  rw [lg_entry_eq]
  generalize (lg_sl ([.ref h, .int x1]) ++ List.replicate (3 - (lg_sl ([.ref h, .int x1])).length) Slot.unset).toArray = ls at hl ⊢
  have hl : lv_has ls 3 [(0, .ref h), (1, .int x1)] := hl
  unfold C_X2_firstNamed_w at hw
  exact cB_X2_firstNamed_0 ⟨B.exec, B.bytes, hml, hown, hts⟩ B.returns B.notSynchronized ⟨Nat.le_of_ble_eq_true rfl, Nat.le_of_ble_eq_true rfl⟩ hK hA x1 σ s.heap [] ls (lv_sub hl [0, 1] rfl) ⟨hP, hD, va_S.rf⟩ hw
def C_X3_next_b0 (b : Nat → Nat) (k : Nat → ClassId) (Q : Int32 → cS → Prop) (σ : cS) : Prop :=
 ((σ.1 3) = 0 → ((σ.1 5) < (σ.1 4) → ∀ t41 : cS, t41 = sI σ 5 ((σ.1 5) + (1 : Int32)) → t41.2.2.2.1 0 = some (b 1) ∧ vp_in ((t41.1 5) - (1 : Int32)) 120 ∧ Q (t41.2.1 0 ((t41.1 5) - (1 : Int32)).toNatClampNeg) t41) ∧ (¬ (σ.1 5) < (σ.1 4) → ∀ t29 : cS, t29 = sI σ 3 ((1000 : Int32) + (σ.1 4)) → Q (0 : Int32) t29)) ∧ (¬ (σ.1 3) = 0 → Q (0 : Int32) σ)
set_option maxHeartbeats 4000000 in
set_option maxRecDepth 100000 in
theorem cB_X3_next_0 {Q : Int32 → cS → Prop} (X : CallFix p m c cX3_next 1 s args wsX3_next RX3) (hr : meth.sig.returnType = (some .int)) (hlk : meth.locks = false) (hR : 0 ≤ R.frames ∧ 0 ≤ R.locals) (hK : cK dC dI k s) (hA : ∀ q, s.heap.size ≤ q → A q) (σ : cS) (H : Heap) (locs : List Loc) (ls : Array Slot) (hl : lv_has ls 1 [(0, .ref (b 10))]) (hO : cO dC dI b k A s.heap σ H locs) (hw : C_X3_next_b0 b k Q σ) : W p l e R s m args below meth c H locs 0 0 (MQ below (va_Qi Q (cAt dC dI A b k) A) args s 0 0 A) (F0 m 0 ls []) := by
  unfold C_X3_next_b0 at hw
  refine lv_aload_n X.1 X.2.1 dX3_next_0 rfl (lv_at hl 0 rfl) ?_
  refine cf_X3_fault X fX3_X3_fault hK hO dX3_next_1 ?_
  refine lv_if_eq (tgt := 9) X.1 X.2.1 dX3_next_4 rfl (fun hc9 => ?_) (fun hc9 => ?_)
  · have hw := hw.1 hc9
    refine lv_aload_n X.1 X.2.1 dX3_next_9 rfl (lv_at hl 0 rfl) ?_
    refine cf_X3_place X fX3_X3_place hK hO dX3_next_10 ?_
    refine lv_aload_n X.1 X.2.1 dX3_next_13 rfl (lv_at hl 0 rfl) ?_
    refine cf_X3_end X fX3_X3_end hK hO dX3_next_14 ?_
    refine lv_icmp_lt (tgt := 34) X.1 X.2.1 dX3_next_17 rfl (fun hc9 => ?_) (fun hc9 => ?_)
    · have hw := hw.1 hc9
      refine lv_aload_n X.1 X.2.1 dX3_next_34 rfl (lv_at hl 0 rfl) ?_
      refine lv_dup X.1 X.2.1 dX3_next_35 rfl ?_
      refine cf_X3_place X fX3_X3_place hK hO dX3_next_36 ?_
      refine lv_iconst (v := 1) X.1 X.2.1 dX3_next_39 (by decide) ?_
      refine lv_iadd X.1 X.2.1 dX3_next_40 ?_
      refine cp_X3_place X fX3_X3_place hK hO dX3_next_41 (fun H locs hO => ?_)
      obtain ⟨t41, e41⟩ : ∃ z, z = sI σ 5 ((σ.1 5) + (1 : Int32)) := ⟨_, rfl⟩
      have hw := hw t41 e41
      rw [← e41] at hO
      refine lv_aload_n X.1 X.2.1 dX3_next_44 rfl (lv_at hl 0 rfl) ?_
      obtain ⟨g45, hw⟩ := hw
      refine cf_X3_bytes X fX3_X3_bytes hK hO g45 dX3_next_45 ?_
      refine lv_aload_n X.1 X.2.1 dX3_next_48 rfl (lv_at hl 0 rfl) ?_
      refine cf_X3_place X fX3_X3_place hK hO dX3_next_49 ?_
      refine lv_iconst (v := 1) X.1 X.2.1 dX3_next_52 (by decide) ?_
      refine lv_isub X.1 X.2.1 dX3_next_53 ?_
      obtain ⟨g54, hw⟩ := hw
      refine ca_1 X.1 X.2.1 hK hO g54 dX3_next_54 ?_
      exact W.iret (v := (t41.2.1 0 ((t41.1 5) - (1 : Int32)).toNatClampNeg)) X.1 X.2.1 hr (fun t ht hW => ⟨⟨(t41.2.1 0 ((t41.1 5) - (1 : Int32)).toNatClampNeg), t41, rfl, hw, cO_end hO hK ht hW⟩, hO.2.2.F ht⟩) hO.2.2.2.2 dX3_next_55 hlk
    · have hw := hw.2 hc9
      refine lv_aload_n X.1 X.2.1 dX3_next_20 rfl (lv_at hl 0 rfl) ?_
      refine lv_sipush (v := 1000) X.1 X.2.1 dX3_next_21 (by decide) ?_
      refine lv_aload_n X.1 X.2.1 dX3_next_24 rfl (lv_at hl 0 rfl) ?_
      refine cf_X3_end X fX3_X3_end hK hO dX3_next_25 ?_
      refine lv_iadd X.1 X.2.1 dX3_next_28 ?_
      refine cp_X3_fault X fX3_X3_fault hK hO dX3_next_29 (fun H locs hO => ?_)
      obtain ⟨t29, e29⟩ : ∃ z, z = sI σ 3 ((1000 : Int32) + (σ.1 4)) := ⟨_, rfl⟩
      have hw := hw t29 e29
      rw [← e29] at hO
      refine lv_iconst (v := 0) X.1 X.2.1 dX3_next_32 (by decide) ?_
      exact W.iret (v := (0 : Int32)) X.1 X.2.1 hr (fun t ht hW => ⟨⟨(0 : Int32), t29, rfl, hw, cO_end hO hK ht hW⟩, hO.2.2.F ht⟩) hO.2.2.2.2 dX3_next_33 hlk
  · have hw := hw.2 hc9
    refine lv_iconst (v := 0) X.1 X.2.1 dX3_next_7 (by decide) ?_
    exact W.iret (v := (0 : Int32)) X.1 X.2.1 hr (fun t ht hW => ⟨⟨(0 : Int32), σ, rfl, hw, cO_end hO hK ht hW⟩, hO.2.2.F ht⟩) hO.2.2.2.2 dX3_next_8 hlk
def C_X3_next_w (b : Nat → Nat) (k : Nat → ClassId) (Q : Int32 → cS → Prop) (σ : cS) : Prop := C_X3_next_b0 b k Q σ
abbrev rmX3_next : Room := { frames := 0, cells := 0, slots := 0, locals := 0 }
set_option maxHeartbeats 4000000 in
set_option maxRecDepth 100000 in
theorem cC_X3_next (l : Launch) (dC : Nat → ClassId) (dI : Nat → Nat → Nat) (b : Nat → Nat) (k : Nat → ClassId) (σ : cS) (sz : Nat) (Q : Int32 → cS → Prop) (hw : C_X3_next_w b k Q σ) : Met l yX3_next wsX3_next rmX3_next (cPc dC dI b k sz σ [.ref (b 10)]) (va_Qi Q (cAt dC dI (va_A (cCells b k σ) sz) b k) (va_A (cCells b k σ) sz)) 0 0 (va_A (cCells b k σ) sz) := by
  refine Met.ofW (cc := cX3_next) (maxL := 1) (ret := (some .int)) (by decide) rfl ?_
  intro p e s m args below meth c s₁ B hml hv
  obtain ⟨hargs, hsz, hP, hK, hD0⟩ := hv
  have hts := atoms_spec (ws := wsX3_next) B.pre
  have hown : s.vm.findClass RX3 = some m.cls := findClass_of_methodNamed B.named
  subst hsz
  subst hargs
  have hD := hD0.self (sz := s.heap.size)
  generalize hAe : va_A (cCells b k σ) s.heap.size = A at hD ⊢
  have hA : ∀ q : Nat, s.heap.size ≤ q → A q := fun q h => by rw [← hAe]; exact Or.inr h
  have hl := lv_entry ([.ref (b 10)]) (n := 1) (Nat.le_of_ble_eq_true rfl)
  rw [lg_entry_eq]
  generalize (lg_sl ([.ref (b 10)]) ++ List.replicate (1 - (lg_sl ([.ref (b 10)])).length) Slot.unset).toArray = ls at hl ⊢
  have hl : lv_has ls 1 [(0, .ref (b 10))] := hl
  unfold C_X3_next_w at hw
  exact cB_X3_next_0 ⟨B.exec, B.bytes, hml, hown, hts⟩ B.returns B.notSynchronized ⟨Nat.le_of_ble_eq_true rfl, Nat.le_of_ble_eq_true rfl⟩ hK hA σ s.heap [] ls (lv_sub hl [0] rfl) ⟨hP, hD, va_S.rf⟩ hw
def C_X3_refuse_b18 (b : Nat → Nat) (k : Nat → ClassId) (Q : cS → Prop) (σ : cS) : Prop :=
 Q σ
set_option maxHeartbeats 4000000 in
set_option maxRecDepth 100000 in
theorem cB_X3_refuse_18 {Q : cS → Prop} (X : CallFix p m c cX3_refuse 3 s args wsX3_refuse RX3) (hr : meth.sig.returnType = none) (hlk : meth.locks = false) (hR : 0 ≤ R.frames ∧ 0 ≤ R.locals) (hK : cK dC dI k s) (hA : ∀ q, s.heap.size ≤ q → A q) (σ : cS) (H : Heap) (locs : List Loc) (ls : Array Slot) (hl : lv_has ls 3 [(0, .ref (b 10))]) (hO : cO dC dI b k A s.heap σ H locs) (hw : C_X3_refuse_b18 b k Q σ) : W p l e R s m args below meth c H locs 0 0 (MQ below (va_Qv Q (cAt dC dI A b k) A) args s 0 0 A) (F0 m 18 ls []) := by
  unfold C_X3_refuse_b18 at hw
  exact W.vret X.1 X.2.1 hr (fun t ht hW => ⟨⟨σ, rfl, hw, cO_end hO hK ht hW⟩, hO.2.2.F ht⟩) hO.2.2.2.2 dX3_refuse_18 hlk
def C_X3_refuse_b0 (b : Nat → Nat) (k : Nat → ClassId) (Q : cS → Prop) (x1 : Int32) (x2 : Int32) (σ : cS) : Prop :=
 (¬ (σ.1 3) = 0 → C_X3_refuse_b18 b k Q σ) ∧ ((σ.1 3) = 0 → ∀ t15 : cS, t15 = sI σ 3 (((1000 : Int32) * x1) + x2) → C_X3_refuse_b18 b k Q t15)
set_option maxHeartbeats 4000000 in
set_option maxRecDepth 100000 in
theorem cB_X3_refuse_0 {Q : cS → Prop} (X : CallFix p m c cX3_refuse 3 s args wsX3_refuse RX3) (hr : meth.sig.returnType = none) (hlk : meth.locks = false) (hR : 0 ≤ R.frames ∧ 0 ≤ R.locals) (hK : cK dC dI k s) (hA : ∀ q, s.heap.size ≤ q → A q) (x1 : Int32) (x2 : Int32) (σ : cS) (H : Heap) (locs : List Loc) (ls : Array Slot) (hl : lv_has ls 3 [(0, .ref (b 10)), (1, .int x1), (2, .int x2)]) (hO : cO dC dI b k A s.heap σ H locs) (hw : C_X3_refuse_b0 b k Q x1 x2 σ) : W p l e R s m args below meth c H locs 0 0 (MQ below (va_Qv Q (cAt dC dI A b k) A) args s 0 0 A) (F0 m 0 ls []) := by
  unfold C_X3_refuse_b0 at hw
  refine lv_aload_n X.1 X.2.1 dX3_refuse_0 rfl (lv_at hl 0 rfl) ?_
  refine cf_X3_fault X fX3_X3_fault hK hO dX3_refuse_1 ?_
  refine lv_if_ne (tgt := 18) X.1 X.2.1 dX3_refuse_4 rfl (fun hc9 => ?_) (fun hc9 => ?_)
  · have hw := hw.1 hc9
    exact cB_X3_refuse_18 X hr hlk hR hK hA σ H locs ls (lv_sub hl [0] rfl) hO hw
  · have hw := hw.2 hc9
    refine lv_aload_n X.1 X.2.1 dX3_refuse_7 rfl (lv_at hl 0 rfl) ?_
    refine lv_sipush (v := 1000) X.1 X.2.1 dX3_refuse_8 (by decide) ?_
    refine lv_iload_n X.1 X.2.1 dX3_refuse_11 rfl (lv_at hl 1 rfl) ?_
    refine lv_imul X.1 X.2.1 dX3_refuse_12 ?_
    refine lv_iload_n X.1 X.2.1 dX3_refuse_13 rfl (lv_at hl 2 rfl) ?_
    refine lv_iadd X.1 X.2.1 dX3_refuse_14 ?_
    refine cp_X3_fault X fX3_X3_fault hK hO dX3_refuse_15 (fun H locs hO => ?_)
    obtain ⟨t15, e15⟩ : ∃ z, z = sI σ 3 (((1000 : Int32) * x1) + x2) := ⟨_, rfl⟩
    have hw := hw t15 e15
    rw [← e15] at hO
    exact cB_X3_refuse_18 X hr hlk hR hK hA t15 H locs ls (lv_sub hl [0] rfl) hO hw
def C_X3_refuse_w (b : Nat → Nat) (k : Nat → ClassId) (Q : cS → Prop) (x1 : Int32) (x2 : Int32) (σ : cS) : Prop := C_X3_refuse_b0 b k Q x1 x2 σ
abbrev rmX3_refuse : Room := { frames := 0, cells := 0, slots := 0, locals := 0 }
set_option maxHeartbeats 4000000 in
set_option maxRecDepth 100000 in
theorem cC_X3_refuse (l : Launch) (dC : Nat → ClassId) (dI : Nat → Nat → Nat) (b : Nat → Nat) (k : Nat → ClassId) (σ : cS) (sz : Nat) (x1 : Int32) (x2 : Int32) (Q : cS → Prop) (hw : C_X3_refuse_w b k Q x1 x2 σ) : Met l yX3_refuse wsX3_refuse rmX3_refuse (cPc dC dI b k sz σ [.ref (b 10), .int x1, .int x2]) (va_Qv Q (cAt dC dI (va_A (cCells b k σ) sz) b k) (va_A (cCells b k σ) sz)) 0 0 (va_A (cCells b k σ) sz) := by
  refine Met.ofW (cc := cX3_refuse) (maxL := 3) (ret := none) (by decide) rfl ?_
  intro p e s m args below meth c s₁ B hml hv
  obtain ⟨hargs, hsz, hP, hK, hD0⟩ := hv
  have hts := atoms_spec (ws := wsX3_refuse) B.pre
  have hown : s.vm.findClass RX3 = some m.cls := findClass_of_methodNamed B.named
  subst hsz
  subst hargs
  have hD := hD0.self (sz := s.heap.size)
  generalize hAe : va_A (cCells b k σ) s.heap.size = A at hD ⊢
  have hA : ∀ q : Nat, s.heap.size ≤ q → A q := fun q h => by rw [← hAe]; exact Or.inr h
  have hl := lv_entry ([.ref (b 10), .int x1, .int x2]) (n := 3) (Nat.le_of_ble_eq_true rfl)
  rw [lg_entry_eq]
  generalize (lg_sl ([.ref (b 10), .int x1, .int x2]) ++ List.replicate (3 - (lg_sl ([.ref (b 10), .int x1, .int x2])).length) Slot.unset).toArray = ls at hl ⊢
  have hl : lv_has ls 3 [(0, .ref (b 10)), (1, .int x1), (2, .int x2)] := hl
  unfold C_X3_refuse_w at hw
  exact cB_X3_refuse_0 ⟨B.exec, B.bytes, hml, hown, hts⟩ B.returns B.notSynchronized ⟨Nat.le_of_ble_eq_true rfl, Nat.le_of_ble_eq_true rfl⟩ hK hA x1 x2 σ s.heap [] ls (lv_sub hl [0, 1, 2] rfl) ⟨hP, hD, va_S.rf⟩ hw
def C_X3_readStart_b19 (b : Nat → Nat) (k : Nat → ClassId) (Q : cS → Prop) (σ : cS) : Prop :=
 Q σ
set_option maxHeartbeats 4000000 in
set_option maxRecDepth 100000 in
theorem cB_X3_readStart_19 {Q : cS → Prop} (X : CallFix p m c cX3_readStart 3 s args wsX3_readStart RX3) (hr : meth.sig.returnType = none) (hlk : meth.locks = false) (hR : 1 ≤ R.frames ∧ 22 ≤ R.locals) (hK : cK dC dI k s) (hA : ∀ q, s.heap.size ≤ q → A q) (σ : cS) (H : Heap) (locs : List Loc) (ls : Array Slot) (hl : lv_has ls 3 [(0, .ref (b 10))]) (hO : cO dC dI b k A s.heap σ H locs) (hw : C_X3_readStart_b19 b k Q σ) : W p l e R s m args below meth c H locs 0 0 (MQ below (va_Qv Q (cAt dC dI A b k) A) args s 0 0 A) (F0 m 19 ls []) := by
  unfold C_X3_readStart_b19 at hw
  exact W.vret X.1 X.2.1 hr (fun t ht hW => ⟨⟨σ, rfl, hw, cO_end hO hK ht hW⟩, hO.2.2.F ht⟩) hO.2.2.2.2 dX3_readStart_19 hlk
def C_X3_readStart_b0 (b : Nat → Nat) (k : Nat → ClassId) (Q : cS → Prop) (x1 : Int32) (σ : cS) : Prop :=
 ∀ v4 : Int32, v4 = (σ.1 5) → C_X3_next_w b k (fun r6 t6 => (r6 = x1 → C_X3_readStart_b19 b k Q t6) ∧ (¬ r6 = x1 → C_X3_refuse_w b k (fun t16 => C_X3_readStart_b19 b k Q t16) (2 : Int32) v4 t6)) σ
set_option maxHeartbeats 4000000 in
set_option maxRecDepth 100000 in
theorem cB_X3_readStart_0 {Q : cS → Prop} (X : CallFix p m c cX3_readStart 3 s args wsX3_readStart RX3) (hr : meth.sig.returnType = none) (hlk : meth.locks = false) (hR : 1 ≤ R.frames ∧ 22 ≤ R.locals) (hK : cK dC dI k s) (hA : ∀ q, s.heap.size ≤ q → A q) (x1 : Int32) (σ : cS) (H : Heap) (locs : List Loc) (ls : Array Slot) (hl : lv_has ls 3 [(0, .ref (b 10)), (1, .int x1)]) (hO : cO dC dI b k A s.heap σ H locs) (hw : C_X3_readStart_b0 b k Q x1 σ) : W p l e R s m args below meth c H locs 0 0 (MQ below (va_Qv Q (cAt dC dI A b k) A) args s 0 0 A) (F0 m 0 ls []) := by
  unfold C_X3_readStart_b0 at hw
  refine lv_aload_n X.1 X.2.1 dX3_readStart_0 rfl (lv_at hl 0 rfl) ?_
  refine cf_X3_place X fX3_X3_place hK hO dX3_readStart_1 ?_
  refine lv_topi (fun v4 e4 => ?_)
  have hw := hw v4 e4
  refine lv_istore_n (lv' := [(2, .int v4), (0, .ref (b 10)), (1, .int x1)]) X.1 X.2.1 dX3_readStart_4 rfl hl (by decide) rfl (fun ls hl => ?_)
  refine lv_aload_n X.1 X.2.1 dX3_readStart_5 rfl (lv_at hl 1 rfl) ?_
  refine c_calli (rest := []) (As := []) X (cC_X3_next l dC dI b k σ H.size _ hw) (cwV 0 X.2.2.2.2 gX3_X3_next rfl rfl rfl hdX3_next ⟨Nat.le_trans (show 0 + 1 ≤ 1 by decide) hR.1, Nat.le_trans (show 8 + (1 + 11) + 0 ≤ 22 by decide) hR.2⟩) (cRecv_X3 hK hO) hK hA hO rfl hl.1 rfl (Nat.le_of_ble_eq_true rfl) dX3_readStart_6 (Nat.zero_le _) (Nat.zero_le _) (fun r6 t6 H locs hO hw => ?_)
  refine lv_iload_n X.1 X.2.1 dX3_readStart_9 rfl (lv_at hl 2 rfl) ?_
  refine lv_icmp_eq (tgt := 19) X.1 X.2.1 dX3_readStart_10 rfl (fun hc9 => ?_) (fun hc9 => ?_)
  · have hw := hw.1 hc9
    exact cB_X3_readStart_19 X hr hlk hR hK hA t6 H locs ls (lv_sub hl [1] rfl) hO hw
  · have hw := hw.2 hc9
    refine lv_aload_n X.1 X.2.1 dX3_readStart_13 rfl (lv_at hl 1 rfl) ?_
    refine lv_iconst (v := 2) X.1 X.2.1 dX3_readStart_14 (by decide) ?_
    refine lv_iload_n X.1 X.2.1 dX3_readStart_15 rfl (lv_at hl 0 rfl) ?_
    refine c_callv (rest := []) (As := [.int (2 : Int32), .int v4]) X (cC_X3_refuse l dC dI b k t6 H.size (2 : Int32) v4 _ hw) (cwV 2 X.2.2.2.2 gX3_X3_refuse rfl rfl rfl hdX3_refuse ⟨Nat.le_trans (show 0 + 1 ≤ 1 by decide) hR.1, Nat.le_trans (show 8 + (3 + 11) + 0 ≤ 22 by decide) hR.2⟩) (cRecv_X3 hK hO) hK hA hO rfl hl.1 rfl (Nat.le_of_ble_eq_true rfl) dX3_readStart_16 (Nat.zero_le _) (Nat.zero_le _) (fun t16 H locs hO hw => ?_)
    exact cB_X3_readStart_19 X hr hlk hR hK hA t16 H locs ls (lv_sub hl [1] rfl) hO hw
def C_X3_readStart_w (b : Nat → Nat) (k : Nat → ClassId) (Q : cS → Prop) (x1 : Int32) (σ : cS) : Prop := C_X3_readStart_b0 b k Q x1 σ
abbrev rmX3_readStart : Room := { frames := 1, cells := 0, slots := 0, locals := 22 }
set_option maxHeartbeats 4000000 in
set_option maxRecDepth 100000 in
theorem cC_X3_readStart (l : Launch) (dC : Nat → ClassId) (dI : Nat → Nat → Nat) (b : Nat → Nat) (k : Nat → ClassId) (σ : cS) (sz : Nat) (x1 : Int32) (Q : cS → Prop) (hw : C_X3_readStart_w b k Q x1 σ) : Met l yX3_readStart wsX3_readStart rmX3_readStart (cPc dC dI b k sz σ [.ref (b 10), .int x1]) (va_Qv Q (cAt dC dI (va_A (cCells b k σ) sz) b k) (va_A (cCells b k σ) sz)) 0 0 (va_A (cCells b k σ) sz) := by
  refine Met.ofW (cc := cX3_readStart) (maxL := 3) (ret := none) (by decide) rfl ?_
  intro p e s m args below meth c s₁ B hml hv
  obtain ⟨hargs, hsz, hP, hK, hD0⟩ := hv
  have hts := atoms_spec (ws := wsX3_readStart) B.pre
  have hown : s.vm.findClass RX3 = some m.cls := findClass_of_methodNamed B.named
  subst hsz
  subst hargs
  have hD := hD0.self (sz := s.heap.size)
  generalize hAe : va_A (cCells b k σ) s.heap.size = A at hD ⊢
  have hA : ∀ q : Nat, s.heap.size ≤ q → A q := fun q h => by rw [← hAe]; exact Or.inr h
  have hl := lv_entry ([.ref (b 10), .int x1]) (n := 3) (Nat.le_of_ble_eq_true rfl)
  rw [lg_entry_eq]
  generalize (lg_sl ([.ref (b 10), .int x1]) ++ List.replicate (3 - (lg_sl ([.ref (b 10), .int x1])).length) Slot.unset).toArray = ls at hl ⊢
  have hl : lv_has ls 3 [(0, .ref (b 10)), (1, .int x1)] := hl
  unfold C_X3_readStart_w at hw
  exact cB_X3_readStart_0 ⟨B.exec, B.bytes, hml, hown, hts⟩ B.returns B.notSynchronized ⟨Nat.le_of_ble_eq_true rfl, Nat.le_of_ble_eq_true rfl⟩ hK hA x1 σ s.heap [] ls (lv_sub hl [0, 1] rfl) ⟨hP, hD, va_S.rf⟩ hw
def C_X3_readAtMost_b0 (b : Nat → Nat) (k : Nat → ClassId) (Q : Int32 → cS → Prop) (x1 : Int32) (σ : cS) : Prop :=
 ∀ v4 : Int32, v4 = (σ.1 5) → C_X3_next_w b k (fun r6 t6 => (r6 ≤ x1 → Q r6 t6) ∧ (¬ r6 ≤ x1 → C_X3_refuse_w b k (fun t18 => Q (0 : Int32) t18) (4 : Int32) v4 t6)) σ
set_option maxHeartbeats 4000000 in
set_option maxRecDepth 100000 in
theorem cB_X3_readAtMost_0 {Q : Int32 → cS → Prop} (X : CallFix p m c cX3_readAtMost 4 s args wsX3_readAtMost RX3) (hr : meth.sig.returnType = (some .int)) (hlk : meth.locks = false) (hR : 1 ≤ R.frames ∧ 22 ≤ R.locals) (hK : cK dC dI k s) (hA : ∀ q, s.heap.size ≤ q → A q) (x1 : Int32) (σ : cS) (H : Heap) (locs : List Loc) (ls : Array Slot) (hl : lv_has ls 4 [(0, .ref (b 10)), (1, .int x1)]) (hO : cO dC dI b k A s.heap σ H locs) (hw : C_X3_readAtMost_b0 b k Q x1 σ) : W p l e R s m args below meth c H locs 0 0 (MQ below (va_Qi Q (cAt dC dI A b k) A) args s 0 0 A) (F0 m 0 ls []) := by
  unfold C_X3_readAtMost_b0 at hw
  refine lv_aload_n X.1 X.2.1 dX3_readAtMost_0 rfl (lv_at hl 0 rfl) ?_
  refine cf_X3_place X fX3_X3_place hK hO dX3_readAtMost_1 ?_
  refine lv_topi (fun v4 e4 => ?_)
  have hw := hw v4 e4
  refine lv_istore_n (lv' := [(2, .int v4), (0, .ref (b 10)), (1, .int x1)]) X.1 X.2.1 dX3_readAtMost_4 rfl hl (by decide) rfl (fun ls hl => ?_)
  refine lv_aload_n X.1 X.2.1 dX3_readAtMost_5 rfl (lv_at hl 1 rfl) ?_
  refine c_calli (rest := []) (As := []) X (cC_X3_next l dC dI b k σ H.size _ hw) (cwV 0 X.2.2.2.2 gX3_X3_next rfl rfl rfl hdX3_next ⟨Nat.le_trans (show 0 + 1 ≤ 1 by decide) hR.1, Nat.le_trans (show 8 + (1 + 11) + 0 ≤ 22 by decide) hR.2⟩) (cRecv_X3 hK hO) hK hA hO rfl hl.1 rfl (Nat.le_of_ble_eq_true rfl) dX3_readAtMost_6 (Nat.zero_le _) (Nat.zero_le _) (fun r6 t6 H locs hO hw => ?_)
  refine lv_istore_n (lv' := [(3, .int r6), (2, .int v4), (0, .ref (b 10)), (1, .int x1)]) X.1 X.2.1 dX3_readAtMost_9 rfl hl (by decide) rfl (fun ls hl => ?_)
  refine lv_iload_n X.1 X.2.1 dX3_readAtMost_10 rfl (lv_at hl 0 rfl) ?_
  refine lv_iload_n X.1 X.2.1 dX3_readAtMost_11 rfl (lv_at hl 3 rfl) ?_
  refine lv_icmp_le (tgt := 23) X.1 X.2.1 dX3_readAtMost_12 rfl (fun hc9 => ?_) (fun hc9 => ?_)
  · have hw := hw.1 hc9
    refine lv_iload_n X.1 X.2.1 dX3_readAtMost_23 rfl (lv_at hl 0 rfl) ?_
    exact W.iret (v := r6) X.1 X.2.1 hr (fun t ht hW => ⟨⟨r6, t6, rfl, hw, cO_end hO hK ht hW⟩, hO.2.2.F ht⟩) hO.2.2.2.2 dX3_readAtMost_24 hlk
  · have hw := hw.2 hc9
    refine lv_aload_n X.1 X.2.1 dX3_readAtMost_15 rfl (lv_at hl 2 rfl) ?_
    refine lv_iconst (v := 4) X.1 X.2.1 dX3_readAtMost_16 (by decide) ?_
    refine lv_iload_n X.1 X.2.1 dX3_readAtMost_17 rfl (lv_at hl 1 rfl) ?_
    refine c_callv (rest := []) (As := [.int (4 : Int32), .int v4]) X (cC_X3_refuse l dC dI b k t6 H.size (4 : Int32) v4 _ hw) (cwV 2 X.2.2.2.2 gX3_X3_refuse rfl rfl rfl hdX3_refuse ⟨Nat.le_trans (show 0 + 1 ≤ 1 by decide) hR.1, Nat.le_trans (show 8 + (3 + 11) + 0 ≤ 22 by decide) hR.2⟩) (cRecv_X3 hK hO) hK hA hO rfl hl.1 rfl (Nat.le_of_ble_eq_true rfl) dX3_readAtMost_18 (Nat.zero_le _) (Nat.zero_le _) (fun t18 H locs hO hw => ?_)
    refine lv_iconst (v := 0) X.1 X.2.1 dX3_readAtMost_21 (by decide) ?_
    exact W.iret (v := (0 : Int32)) X.1 X.2.1 hr (fun t ht hW => ⟨⟨(0 : Int32), t18, rfl, hw, cO_end hO hK ht hW⟩, hO.2.2.F ht⟩) hO.2.2.2.2 dX3_readAtMost_22 hlk
def C_X3_readAtMost_w (b : Nat → Nat) (k : Nat → ClassId) (Q : Int32 → cS → Prop) (x1 : Int32) (σ : cS) : Prop := C_X3_readAtMost_b0 b k Q x1 σ
abbrev rmX3_readAtMost : Room := { frames := 1, cells := 0, slots := 0, locals := 22 }
set_option maxHeartbeats 4000000 in
set_option maxRecDepth 100000 in
theorem cC_X3_readAtMost (l : Launch) (dC : Nat → ClassId) (dI : Nat → Nat → Nat) (b : Nat → Nat) (k : Nat → ClassId) (σ : cS) (sz : Nat) (x1 : Int32) (Q : Int32 → cS → Prop) (hw : C_X3_readAtMost_w b k Q x1 σ) : Met l yX3_readAtMost wsX3_readAtMost rmX3_readAtMost (cPc dC dI b k sz σ [.ref (b 10), .int x1]) (va_Qi Q (cAt dC dI (va_A (cCells b k σ) sz) b k) (va_A (cCells b k σ) sz)) 0 0 (va_A (cCells b k σ) sz) := by
  refine Met.ofW (cc := cX3_readAtMost) (maxL := 4) (ret := (some .int)) (by decide) rfl ?_
  intro p e s m args below meth c s₁ B hml hv
  obtain ⟨hargs, hsz, hP, hK, hD0⟩ := hv
  have hts := atoms_spec (ws := wsX3_readAtMost) B.pre
  have hown : s.vm.findClass RX3 = some m.cls := findClass_of_methodNamed B.named
  subst hsz
  subst hargs
  have hD := hD0.self (sz := s.heap.size)
  generalize hAe : va_A (cCells b k σ) s.heap.size = A at hD ⊢
  have hA : ∀ q : Nat, s.heap.size ≤ q → A q := fun q h => by rw [← hAe]; exact Or.inr h
  have hl := lv_entry ([.ref (b 10), .int x1]) (n := 4) (Nat.le_of_ble_eq_true rfl)
  rw [lg_entry_eq]
  generalize (lg_sl ([.ref (b 10), .int x1]) ++ List.replicate (4 - (lg_sl ([.ref (b 10), .int x1])).length) Slot.unset).toArray = ls at hl ⊢
  have hl : lv_has ls 4 [(0, .ref (b 10)), (1, .int x1)] := hl
  unfold C_X3_readAtMost_w at hw
  exact cB_X3_readAtMost_0 ⟨B.exec, B.bytes, hml, hown, hts⟩ B.returns B.notSynchronized ⟨Nat.le_of_ble_eq_true rfl, Nat.le_of_ble_eq_true rfl⟩ hK hA x1 σ s.heap [] ls (lv_sub hl [0, 1] rfl) ⟨hP, hD, va_S.rf⟩ hw
end
